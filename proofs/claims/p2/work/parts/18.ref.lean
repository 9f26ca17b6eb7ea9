set_option maxHeartbeats 8000000 in
set_option maxRecDepth 100000 in
theorem c_X_wordValue (l : Launch) (D : va_G) (cI cJ cZ cB : ClassId) (p0 p1 p2 p3 p4 p5 p6 p7 p8 p9 p10 p11 p12 p13 p14 p15 p16 p17 p18 p19 p20 p21 p22 p23 p24 p25 : Nat) (sz : Nat) (x0_4 : Int32) (x0_5 : Int32) (x0_6 : Int32) (x0_7 : Int32) (x0_8 : Int32) (x0_12 : Int32) (x0_13 : Int32) (x0_14 : Int32) (x0_15 : Int32) (x0_16 : Int32) (x0_17 : Int32) (x0_18 : Int32) (x0_22 : Int32) (x0_23 : Int32) (x0_24 : Int32) (x0_25 : Int32) (x0_26 : Int32) (x0_27 : Int32) (x0_28 : Int32) (x0_29 : Int32) (x0_30 : Int32) (x0_31 : Int32) (x0_32 : Int32) (x0_36 : Int32) (x0_39 : Int32) (x0_40 : Int64) (x0_44 : Int32) (x0_49 : Int32) (x0_51 : Int32) (x0_53 : Int32) (x0_54 : Int32) (x0_55 : Int64) (x0_56 : Int32) (x0_57 : Int32) (x0_58 : Int32) (x0_59 : Int32) (x0_60 : Int32) (x0_61 : Int32) (x0_62 : Int64) (y1 : Nat → Int32) (y2 : Nat → Int32) (y3 : Nat → Int32) (y4 : Nat → Int32) (y5 : Nat → Int32) (y6 : Nat → Int32) (y7 : Nat → Int32) (y8 : Nat → Int32) (y9 : Nat → Int32) (y10 : Nat → Int32) (y11 : Nat → Int64) (y12 : Nat → Int32) (y13 : Nat → Int64) (y14 : Nat → Int32) (y15 : Nat → Int64) (y16 : Nat → Int32) (y17 : Nat → Int32) (y18 : Nat → Int32) (y19 : Nat → Int32) (y20 : Nat → Int32) (y21 : Nat → Int32) (y22 : Nat → Int32) (y23 : Nat → Int32) (y24 : Nat → Int64) (y25 : Nat → Int64)  (Rx0_57 : 0 ≤ x0_57.toInt ∧ x0_57.toInt ≤ 1) (Rx0_58 : 0 ≤ x0_58.toInt ∧ x0_58.toInt ≤ 1073741823) : Met l y_X_wordValue (.code y_X_wordValue b_X_wordValue 1 (some .long) :: tb) ({ frames := 0, cells := 0, slots := 0, locals := 0 }) (pM D cI cJ cZ cB (wS50 cI cJ cZ cB p0 p1 p2 p3 p4 p5 p6 p7 p8 p9 p10 p11 p12 p13 p14 p15 p16 p17 p18 p19 p20 p21 p22 p23 p24 p25 x0_4 x0_5 x0_6 x0_7 x0_8 x0_12 x0_13 x0_14 x0_15 x0_16 x0_17 x0_18 x0_22 x0_23 x0_24 x0_25 x0_26 x0_27 x0_28 x0_29 x0_30 x0_31 x0_32 x0_36 x0_39 x0_40 x0_44 x0_49 x0_51 x0_53 x0_54 x0_55 x0_56 x0_57 x0_58 x0_59 x0_60 x0_61 x0_62 y1 y2 y3 y4 y5 y6 y7 y8 y9 y10 y11 y12 y13 y14 y15 y16 y17 y18 y19 y20 y21 y22 y23 y24 y25) sz [.ref p0]) (va_Ql (fun r (u : Int64) => r = u) (fun ur t => ((-1073741823) ≤ ur.toInt ∧ ur.toInt ≤ 1073741823) ∧ va_P D classes (wS50 cI cJ cZ cB p0 p1 p2 p3 p4 p5 p6 p7 p8 p9 p10 p11 p12 p13 p14 p15 p16 p17 p18 p19 p20 p21 p22 p23 p24 p25 x0_4 x0_5 x0_6 x0_7 x0_8 x0_12 x0_13 x0_14 x0_15 x0_16 x0_17 x0_18 x0_22 x0_23 x0_24 x0_25 x0_26 x0_27 x0_28 x0_29 x0_30 x0_31 x0_32 x0_36 x0_39 x0_40 x0_44 x0_49 x0_51 x0_53 x0_54 x0_55 x0_56 x0_57 x0_58 x0_59 x0_60 x0_61 x0_62 y1 y2 y3 y4 y5 y6 y7 y8 y9 y10 y11 y12 y13 y14 y15 y16 y17 y18 y19 y20 y21 y22 y23 y24 y25) t.heap ∧ va_D (va_A (wS50 cI cJ cZ cB p0 p1 p2 p3 p4 p5 p6 p7 p8 p9 p10 p11 p12 p13 p14 p15 p16 p17 p18 p19 p20 p21 p22 p23 p24 p25 x0_4 x0_5 x0_6 x0_7 x0_8 x0_12 x0_13 x0_14 x0_15 x0_16 x0_17 x0_18 x0_22 x0_23 x0_24 x0_25 x0_26 x0_27 x0_28 x0_29 x0_30 x0_31 x0_32 x0_36 x0_39 x0_40 x0_44 x0_49 x0_51 x0_53 x0_54 x0_55 x0_56 x0_57 x0_58 x0_59 x0_60 x0_61 x0_62 y1 y2 y3 y4 y5 y6 y7 y8 y9 y10 y11 y12 y13 y14 y15 y16 y17 y18 y19 y20 y21 y22 y23 y24 y25) sz) (wS50 cI cJ cZ cB p0 p1 p2 p3 p4 p5 p6 p7 p8 p9 p10 p11 p12 p13 p14 p15 p16 p17 p18 p19 p20 p21 p22 p23 p24 p25 x0_4 x0_5 x0_6 x0_7 x0_8 x0_12 x0_13 x0_14 x0_15 x0_16 x0_17 x0_18 x0_22 x0_23 x0_24 x0_25 x0_26 x0_27 x0_28 x0_29 x0_30 x0_31 x0_32 x0_36 x0_39 x0_40 x0_44 x0_49 x0_51 x0_53 x0_54 x0_55 x0_56 x0_57 x0_58 x0_59 x0_60 x0_61 x0_62 y1 y2 y3 y4 y5 y6 y7 y8 y9 y10 y11 y12 y13 y14 y15 y16 y17 y18 y19 y20 y21 y22 y23 y24 y25)) (va_A (wS50 cI cJ cZ cB p0 p1 p2 p3 p4 p5 p6 p7 p8 p9 p10 p11 p12 p13 p14 p15 p16 p17 p18 p19 p20 p21 p22 p23 p24 p25 x0_4 x0_5 x0_6 x0_7 x0_8 x0_12 x0_13 x0_14 x0_15 x0_16 x0_17 x0_18 x0_22 x0_23 x0_24 x0_25 x0_26 x0_27 x0_28 x0_29 x0_30 x0_31 x0_32 x0_36 x0_39 x0_40 x0_44 x0_49 x0_51 x0_53 x0_54 x0_55 x0_56 x0_57 x0_58 x0_59 x0_60 x0_61 x0_62 y1 y2 y3 y4 y5 y6 y7 y8 y9 y10 y11 y12 y13 y14 y15 y16 y17 y18 y19 y20 y21 y22 y23 y24 y25) sz)) 0 0 (va_A (wS50 cI cJ cZ cB p0 p1 p2 p3 p4 p5 p6 p7 p8 p9 p10 p11 p12 p13 p14 p15 p16 p17 p18 p19 p20 p21 p22 p23 p24 p25 x0_4 x0_5 x0_6 x0_7 x0_8 x0_12 x0_13 x0_14 x0_15 x0_16 x0_17 x0_18 x0_22 x0_23 x0_24 x0_25 x0_26 x0_27 x0_28 x0_29 x0_30 x0_31 x0_32 x0_36 x0_39 x0_40 x0_44 x0_49 x0_51 x0_53 x0_54 x0_55 x0_56 x0_57 x0_58 x0_59 x0_60 x0_61 x0_62 y1 y2 y3 y4 y5 y6 y7 y8 y9 y10 y11 y12 y13 y14 y15 y16 y17 y18 y19 y20 y21 y22 y23 y24 y25) sz) := by
  refine Met.ofW (cc := b_X_wordValue) (maxL := 1) (ret := (some .long)) (by decide) rfl ?_
  intro p e s m args below meth c s₁ B hml hv
  obtain ⟨rfl, hsz, hK, hP, hD0⟩ := hv
  subst hsz
  have hD := hD0.self (sz := s.heap.size)
  generalize hAe : va_A (wS50 cI cJ cZ cB p0 p1 p2 p3 p4 p5 p6 p7 p8 p9 p10 p11 p12 p13 p14 p15 p16 p17 p18 p19 p20 p21 p22 p23 p24 p25 x0_4 x0_5 x0_6 x0_7 x0_8 x0_12 x0_13 x0_14 x0_15 x0_16 x0_17 x0_18 x0_22 x0_23 x0_24 x0_25 x0_26 x0_27 x0_28 x0_29 x0_30 x0_31 x0_32 x0_36 x0_39 x0_40 x0_44 x0_49 x0_51 x0_53 x0_54 x0_55 x0_56 x0_57 x0_58 x0_59 x0_60 x0_61 x0_62 y1 y2 y3 y4 y5 y6 y7 y8 y9 y10 y11 y12 y13 y14 y15 y16 y17 y18 y19 y20 y21 y22 y23 y24 y25) s.heap.size = A at hD ⊢
  have hA : ∀ q : Nat, s.heap.size ≤ q → A q := fun q h => by rw [← hAe]; exact Or.inr h
  clear hAe hD0
  have hS : va_S A s.heap s.heap [] := va_S.rf
  have hx := B.exec
  have hb := B.bytes
  have hr := B.returns
  have hts := atoms_spec (ws := .code y_X_wordValue b_X_wordValue 1 (some .long) :: tb) B.pre
  have hk : ∀ w ∈ tb, w.before [.ref p0].toArray s = true := fun w h => hts w (List.mem_cons_of_mem _ h)
  have hown : s.vm.findClass "SignMachineModel" = some m.cls := findClass_of_methodNamed B.named
  have hlocks := B.notSynchronized
  have hl := lv_entry ([.ref p0]) (n := 1) (Nat.le_of_ble_eq_true rfl)
  rw [lg_entry_eq]
  generalize (lg_sl ([.ref p0]) ++ List.replicate (1 - (lg_sl ([.ref p0])).length) Slot.unset).toArray = ls at hl ⊢
  have hl : lv_has ls 1 [(0, .ref p0)] := hl
  clear hts B
  refine lv_aload_n hx hb d_X_wordValue_0 rfl (lv_at hl 0 rfl) ?_
  refine va_get (D := D) (ci := 7) (v := .int x0_57) (C := "SignMachineModel") (T := F_X) (N := 64) hx hb hk fi_X hown hK.1 hP 0 rfl rfl 57 (by decide) (hk _ k_1178) (fun _ h9 => h9) rfl d_X_wordValue_1 ?_
  refine lv_iconst (v := 1) hx hb d_X_wordValue_4 (by decide) ?_
  refine lv_icmp_ne (tgt := 17) hx hb d_X_wordValue_5 (by decide) (fun c1 => ?_) (fun c1 => ?_)
  · have gc1 : x0_57.toInt ≠ 1 := c_ne c1
    have R2 : 0 ≤ x0_57.toInt ∧ x0_57.toInt ≤ 0 := by omega
    refine lv_aload_n hx hb d_X_wordValue_17 rfl (lv_at hl 0 rfl) ?_
    refine va_get (D := D) (ci := 7) (v := .int x0_58) (C := "SignMachineModel") (T := F_X) (N := 64) hx hb hk fi_X hown hK.1 hP 0 rfl rfl 58 (by decide) (hk _ k_1179) (fun _ h9 => h9) rfl d_X_wordValue_18 ?_
    refine lv_i2l (v := (x0_58 : Int32).toInt64) hx hb d_X_wordValue_21 rfl ?_
    refine lv_topl (fun v3 hv3 => ?_)
    obtain ⟨ev3, Rv3⟩ : v3.toInt = x0_58.toInt ∧ (0 ≤ v3.toInt ∧ v3.toInt ≤ 1073741823) := il3 hv3 Rx0_58
    exact W.lret (v := v3) hx hb hr (fun t ht hW => ⟨⟨v3, v3, rfl, rfl, ⟨(rgw Rv3 (by decide) (by decide)), by show va_P D classes _ t.heap; rw [ht]; exact hP, hD⟩⟩, hS.F ht⟩) hS.2.2 d_X_wordValue_22
  · have gc1 : x0_57.toInt = 1 := c_eq c1
    have R4 : 1 ≤ x0_57.toInt ∧ x0_57.toInt ≤ 1 := by omega
    refine lv_aload_n hx hb d_X_wordValue_8 rfl (lv_at hl 0 rfl) ?_
    refine va_get (D := D) (ci := 7) (v := .int x0_58) (C := "SignMachineModel") (T := F_X) (N := 64) hx hb hk fi_X hown hK.1 hP 0 rfl rfl 58 (by decide) (hk _ k_1179) (fun _ h9 => h9) rfl d_X_wordValue_9 ?_
    refine lv_i2l (v := (x0_58 : Int32).toInt64) hx hb d_X_wordValue_12 rfl ?_
    refine lv_topl (fun v5 hv5 => ?_)
    obtain ⟨ev5, Rv5⟩ : v5.toInt = x0_58.toInt ∧ (0 ≤ v5.toInt ∧ v5.toInt ≤ 1073741823) := il3 hv5 Rx0_58
    refine lv_lneg hx hb d_X_wordValue_13 ?_
    refine lv_topl (fun v6 hv6 => ?_)
    obtain ⟨ev6, Rv6⟩ : v6.toInt = -v5.toInt ∧ ((-1073741823) ≤ v6.toInt ∧ v6.toInt ≤ 0) := ng6 hv6 Rv5 (by decide) (by decide) (by decide) (by decide)
    refine lv_goto (tgt := 22) hx hb d_X_wordValue_14 (by decide) ?_
    exact W.lret (v := v6) hx hb hr (fun t ht hW => ⟨⟨v6, v6, rfl, rfl, ⟨(rgw Rv6 (by decide) (by decide)), by show va_P D classes _ t.heap; rw [ht]; exact hP, hD⟩⟩, hS.F ht⟩) hS.2.2 d_X_wordValue_22
theorem v_X_wordValue {R : Room} {s : State} {args : Array Value} {own : String} {index : Nat} (hk : ∀ w ∈ tb, w.before args s = true) (hl : Cond.methodLink own index y_X_wordValue ∈ tb) (hR : 0 + 1 ≤ R.frames ∧ 8 + (1 + 11) + 0 ≤ R.locals) : CallW R s args own "SignMachineModel" index y_X_wordValue b_X_wordValue 1 (some .long) (.code y_X_wordValue b_X_wordValue 1 (some .long) :: tb) ({ frames := 0, cells := 0, slots := 0, locals := 0 }) 0 0 0 := mk_v 0 hk k_1682 hl k_1681 k_108 k_119 rfl rfl h_X_wordValue hR
set_option maxHeartbeats 8000000 in
set_option maxRecDepth 100000 in
theorem c_X_comes (l : Launch) (D : va_G) (cI cJ cZ cB : ClassId) (p0 p1 p2 p3 p4 p5 p6 p7 p8 p9 p10 p11 p12 p13 p14 p15 p16 p17 p18 p19 p20 p21 p22 p23 p24 p25 : Nat) (sz : Nat) (x0_4 : Int32) (x0_5 : Int32) (x0_6 : Int32) (x0_7 : Int32) (x0_8 : Int32) (x0_12 : Int32) (x0_13 : Int32) (x0_14 : Int32) (x0_15 : Int32) (x0_16 : Int32) (x0_17 : Int32) (x0_18 : Int32) (x0_22 : Int32) (x0_23 : Int32) (x0_24 : Int32) (x0_25 : Int32) (x0_26 : Int32) (x0_27 : Int32) (x0_28 : Int32) (x0_29 : Int32) (x0_30 : Int32) (x0_31 : Int32) (x0_32 : Int32) (x0_36 : Int32) (x0_39 : Int32) (x0_40 : Int64) (x0_44 : Int32) (x0_49 : Int32) (x0_51 : Int32) (x0_53 : Int32) (x0_54 : Int32) (x0_55 : Int64) (x0_56 : Int32) (x0_57 : Int32) (x0_58 : Int32) (x0_59 : Int32) (x0_60 : Int32) (x0_61 : Int32) (x0_62 : Int64) (y1 : Nat → Int32) (y2 : Nat → Int32) (y3 : Nat → Int32) (y4 : Nat → Int32) (y5 : Nat → Int32) (y6 : Nat → Int32) (y7 : Nat → Int32) (y8 : Nat → Int32) (y9 : Nat → Int32) (y10 : Nat → Int32) (y11 : Nat → Int64) (y12 : Nat → Int32) (y13 : Nat → Int64) (y14 : Nat → Int32) (y15 : Nat → Int64) (y16 : Nat → Int32) (y17 : Nat → Int32) (y18 : Nat → Int32) (y19 : Nat → Int32) (y20 : Nat → Int32) (y21 : Nat → Int32) (y22 : Nat → Int32) (y23 : Nat → Int32) (y24 : Nat → Int64) (y25 : Nat → Int64) (a1 : Int32) (a2 : Int32) (Rx0_26 : 0 ≤ x0_26.toInt ∧ x0_26.toInt ≤ 6) (Rx0_30 : (-1073741823) ≤ x0_30.toInt ∧ x0_30.toInt ≤ 1073741823) (Rx0_44 : 0 ≤ x0_44.toInt ∧ x0_44.toInt ≤ 4200) (Rx0_49 : 0 ≤ x0_49.toInt ∧ x0_49.toInt ≤ 4100) (Ay16 : ∀ i : Nat, (0 ≤ (y16 i).toInt ∧ (y16 i).toInt ≤ 3999)) (Ay17 : ∀ i : Nat, (0 ≤ (y17 i).toInt ∧ (y17 i).toInt ≤ 1)) (Ay18 : ∀ i : Nat, (0 ≤ (y18 i).toInt ∧ (y18 i).toInt ≤ 1073741823)) (Ay19 : ∀ i : Nat, (0 ≤ (y19 i).toInt ∧ (y19 i).toInt ≤ 4199)) (Q0 : x0_44.toInt ≤ 4150) (Q1 : LX y19 y18 x0_49.toInt x0_44.toInt) (Q2 : 0 ≤ a1.toInt ∧ a1.toInt ≤ 1) (Q3 : 0 ≤ a2.toInt ∧ a2.toInt ≤ 1073741823) : Met l y_X_comes (.code y_X_comes b_X_comes 3 (some .int) :: tb) ({ frames := 1, cells := 0, slots := 0, locals := 21 }) (pM D cI cJ cZ cB (wS50 cI cJ cZ cB p0 p1 p2 p3 p4 p5 p6 p7 p8 p9 p10 p11 p12 p13 p14 p15 p16 p17 p18 p19 p20 p21 p22 p23 p24 p25 x0_4 x0_5 x0_6 x0_7 x0_8 x0_12 x0_13 x0_14 x0_15 x0_16 x0_17 x0_18 x0_22 x0_23 x0_24 x0_25 x0_26 x0_27 x0_28 x0_29 x0_30 x0_31 x0_32 x0_36 x0_39 x0_40 x0_44 x0_49 x0_51 x0_53 x0_54 x0_55 x0_56 x0_57 x0_58 x0_59 x0_60 x0_61 x0_62 y1 y2 y3 y4 y5 y6 y7 y8 y9 y10 y11 y12 y13 y14 y15 y16 y17 y18 y19 y20 y21 y22 y23 y24 y25) sz [.ref p0, .int a1, .int a2]) (va_Qi (fun r (u : Int32) => r = u) (fun ur t => ∃ u_x0_26 : Int32, ∃ u_x0_30 : Int32, ∃ u_x0_44 : Int32, ∃ u_y16 : Nat → Int32, ∃ u_y17 : Nat → Int32, ∃ u_y18 : Nat → Int32, (0 ≤ u_x0_26.toInt ∧ u_x0_26.toInt ≤ 6) ∧ ((-1073741823) ≤ u_x0_30.toInt ∧ u_x0_30.toInt ≤ 1073741823) ∧ (0 ≤ u_x0_44.toInt ∧ u_x0_44.toInt ≤ 4200) ∧ (∀ i : Nat, (0 ≤ (u_y16 i).toInt ∧ (u_y16 i).toInt ≤ 3999)) ∧ (∀ i : Nat, (0 ≤ (u_y17 i).toInt ∧ (u_y17 i).toInt ≤ 1)) ∧ (∀ i : Nat, (0 ≤ (u_y18 i).toInt ∧ (u_y18 i).toInt ≤ 1073741823)) ∧ (0 ≤ ur.toInt ∧ ur.toInt ≤ 4199) ∧ (1 ≤ x0_26.toInt → 1 ≤ u_x0_26.toInt) ∧ (x0_44.toInt ≤ u_x0_44.toInt) ∧ (u_x0_44.toInt ≤ x0_44.toInt + 1) ∧ (u_x0_26.toInt = 0 → (u_x0_44.toInt = x0_44.toInt + 1 ∧ ur.toInt = x0_44.toInt ∧ (u_y18 (ur).toNatClampNeg).toInt = a2.toInt)) ∧ (LX y19 u_y18 x0_49.toInt u_x0_44.toInt) ∧ va_P D classes (wS50 cI cJ cZ cB p0 p1 p2 p3 p4 p5 p6 p7 p8 p9 p10 p11 p12 p13 p14 p15 p16 p17 p18 p19 p20 p21 p22 p23 p24 p25 x0_4 x0_5 x0_6 x0_7 x0_8 x0_12 x0_13 x0_14 x0_15 x0_16 x0_17 x0_18 x0_22 x0_23 x0_24 x0_25 u_x0_26 x0_27 x0_28 x0_29 u_x0_30 x0_31 x0_32 x0_36 x0_39 x0_40 u_x0_44 x0_49 x0_51 x0_53 x0_54 x0_55 x0_56 x0_57 x0_58 x0_59 x0_60 x0_61 x0_62 y1 y2 y3 y4 y5 y6 y7 y8 y9 y10 y11 y12 y13 y14 y15 u_y16 u_y17 u_y18 y19 y20 y21 y22 y23 y24 y25) t.heap ∧ va_D (va_A (wS50 cI cJ cZ cB p0 p1 p2 p3 p4 p5 p6 p7 p8 p9 p10 p11 p12 p13 p14 p15 p16 p17 p18 p19 p20 p21 p22 p23 p24 p25 x0_4 x0_5 x0_6 x0_7 x0_8 x0_12 x0_13 x0_14 x0_15 x0_16 x0_17 x0_18 x0_22 x0_23 x0_24 x0_25 x0_26 x0_27 x0_28 x0_29 x0_30 x0_31 x0_32 x0_36 x0_39 x0_40 x0_44 x0_49 x0_51 x0_53 x0_54 x0_55 x0_56 x0_57 x0_58 x0_59 x0_60 x0_61 x0_62 y1 y2 y3 y4 y5 y6 y7 y8 y9 y10 y11 y12 y13 y14 y15 y16 y17 y18 y19 y20 y21 y22 y23 y24 y25) sz) (wS50 cI cJ cZ cB p0 p1 p2 p3 p4 p5 p6 p7 p8 p9 p10 p11 p12 p13 p14 p15 p16 p17 p18 p19 p20 p21 p22 p23 p24 p25 x0_4 x0_5 x0_6 x0_7 x0_8 x0_12 x0_13 x0_14 x0_15 x0_16 x0_17 x0_18 x0_22 x0_23 x0_24 x0_25 u_x0_26 x0_27 x0_28 x0_29 u_x0_30 x0_31 x0_32 x0_36 x0_39 x0_40 u_x0_44 x0_49 x0_51 x0_53 x0_54 x0_55 x0_56 x0_57 x0_58 x0_59 x0_60 x0_61 x0_62 y1 y2 y3 y4 y5 y6 y7 y8 y9 y10 y11 y12 y13 y14 y15 u_y16 u_y17 u_y18 y19 y20 y21 y22 y23 y24 y25)) (va_A (wS50 cI cJ cZ cB p0 p1 p2 p3 p4 p5 p6 p7 p8 p9 p10 p11 p12 p13 p14 p15 p16 p17 p18 p19 p20 p21 p22 p23 p24 p25 x0_4 x0_5 x0_6 x0_7 x0_8 x0_12 x0_13 x0_14 x0_15 x0_16 x0_17 x0_18 x0_22 x0_23 x0_24 x0_25 x0_26 x0_27 x0_28 x0_29 x0_30 x0_31 x0_32 x0_36 x0_39 x0_40 x0_44 x0_49 x0_51 x0_53 x0_54 x0_55 x0_56 x0_57 x0_58 x0_59 x0_60 x0_61 x0_62 y1 y2 y3 y4 y5 y6 y7 y8 y9 y10 y11 y12 y13 y14 y15 y16 y17 y18 y19 y20 y21 y22 y23 y24 y25) sz)) 0 0 (va_A (wS50 cI cJ cZ cB p0 p1 p2 p3 p4 p5 p6 p7 p8 p9 p10 p11 p12 p13 p14 p15 p16 p17 p18 p19 p20 p21 p22 p23 p24 p25 x0_4 x0_5 x0_6 x0_7 x0_8 x0_12 x0_13 x0_14 x0_15 x0_16 x0_17 x0_18 x0_22 x0_23 x0_24 x0_25 x0_26 x0_27 x0_28 x0_29 x0_30 x0_31 x0_32 x0_36 x0_39 x0_40 x0_44 x0_49 x0_51 x0_53 x0_54 x0_55 x0_56 x0_57 x0_58 x0_59 x0_60 x0_61 x0_62 y1 y2 y3 y4 y5 y6 y7 y8 y9 y10 y11 y12 y13 y14 y15 y16 y17 y18 y19 y20 y21 y22 y23 y24 y25) sz) := by
  refine Met.ofW (cc := b_X_comes) (maxL := 3) (ret := (some .int)) (by decide) rfl ?_
  intro p e s m args below meth c s₁ B hml hv
  obtain ⟨rfl, hsz, hK, hP, hD0⟩ := hv
  subst hsz
  have hD := hD0.self (sz := s.heap.size)
  generalize hAe : va_A (wS50 cI cJ cZ cB p0 p1 p2 p3 p4 p5 p6 p7 p8 p9 p10 p11 p12 p13 p14 p15 p16 p17 p18 p19 p20 p21 p22 p23 p24 p25 x0_4 x0_5 x0_6 x0_7 x0_8 x0_12 x0_13 x0_14 x0_15 x0_16 x0_17 x0_18 x0_22 x0_23 x0_24 x0_25 x0_26 x0_27 x0_28 x0_29 x0_30 x0_31 x0_32 x0_36 x0_39 x0_40 x0_44 x0_49 x0_51 x0_53 x0_54 x0_55 x0_56 x0_57 x0_58 x0_59 x0_60 x0_61 x0_62 y1 y2 y3 y4 y5 y6 y7 y8 y9 y10 y11 y12 y13 y14 y15 y16 y17 y18 y19 y20 y21 y22 y23 y24 y25) s.heap.size = A at hD ⊢
  have hA : ∀ q : Nat, s.heap.size ≤ q → A q := fun q h => by rw [← hAe]; exact Or.inr h
  clear hAe hD0
  have hS : va_S A s.heap s.heap [] := va_S.rf
  have hx := B.exec
  have hb := B.bytes
  have hr := B.returns
  have hts := atoms_spec (ws := .code y_X_comes b_X_comes 3 (some .int) :: tb) B.pre
  have hk : ∀ w ∈ tb, w.before [.ref p0, .int a1, .int a2].toArray s = true := fun w h => hts w (List.mem_cons_of_mem _ h)
  have hown : s.vm.findClass "SignMachineModel" = some m.cls := findClass_of_methodNamed B.named
  have hlocks := B.notSynchronized
  have hl := lv_entry ([.ref p0, .int a1, .int a2]) (n := 3) (Nat.le_of_ble_eq_true rfl)
  rw [lg_entry_eq]
  generalize (lg_sl ([.ref p0, .int a1, .int a2]) ++ List.replicate (3 - (lg_sl ([.ref p0, .int a1, .int a2])).length) Slot.unset).toArray = ls at hl ⊢
  have hl : lv_has ls 3 [(0, .ref p0), (1, .int a1), (2, .int a2)] := hl
  clear hts B
  refine lv_aload_n hx hb d_X_comes_0 rfl (lv_at hl 0 rfl) ?_
  refine va_get (D := D) (ci := 7) (v := .int x0_30) (C := "SignMachineModel") (T := F_X) (N := 64) hx hb hk fi_X hown hK.1 hP 0 rfl rfl 30 (by decide) (hk _ k_1151) (fun _ h9 => h9) rfl d_X_comes_1 ?_
  refine lv_i2l (v := (x0_30 : Int32).toInt64) hx hb d_X_comes_4 rfl ?_
  refine lv_topl (fun v1 hv1 => ?_)
  obtain ⟨ev1, Rv1⟩ : v1.toInt = x0_30.toInt ∧ ((-1073741823) ≤ v1.toInt ∧ v1.toInt ≤ 1073741823) := il3 hv1 Rx0_30
  refine vp_callSi (W.runS (As := [.long v1]) (rest := []) ⟨hx, hb, hml, hown, hk⟩ (c_X_isWord l v1 ) (s_X_isWord hk k_1396 ⟨Nat.le_of_ble_eq_true rfl, Nat.le_of_ble_eq_true rfl⟩) ⟨fun a U g mk q => q, fun U hU hW => ⟨rfl, trivial⟩⟩ rfl rfl hl.1 rfl (lv_room (Nat.le_of_ble_eq_true rfl)) d_X_comes_5 ⟨Nat.le_of_ble_eq_true rfl, Nat.le_of_ble_eq_true rfl⟩) (fun rz2 hrz2 => ?_)
  obtain ⟨F0z2, F1z2, F2z2⟩ := hrz2
  have F0z2 : 0 ≤ rz2.toInt ∧ rz2.toInt ≤ 1 := F0z2
  have F1z2 : rz2.toInt = 1 → (0 ≤ v1.toInt ∧ v1.toInt ≤ 3999) := F1z2
  have F2z2 : rz2.toInt = 0 → (v1.toInt < 0 ∨ 3999 < v1.toInt) := F2z2
  refine lv_if_ne (tgt := 16) hx hb d_X_comes_8 (by decide) (fun c3 => ?_) (fun c3 => ?_)
  · have gc3 : rz2.toInt ≠ 0 := c_ne c3
    have R4 : 1 ≤ rz2.toInt ∧ rz2.toInt ≤ 1 := by omega
    refine lv_aload_n hx hb d_X_comes_16 rfl (lv_at hl 0 rfl) ?_
    refine va_get (D := D) (ci := 7) (v := .int x0_26) (C := "SignMachineModel") (T := F_X) (N := 64) hx hb hk fi_X hown hK.1 hP 0 rfl rfl 26 (by decide) (hk _ k_1147) (fun _ h9 => h9) rfl d_X_comes_17 ?_
    refine lv_if_gt (tgt := 33) hx hb d_X_comes_20 (by decide) (fun c5 => ?_) (fun c5 => ?_)
    · have gc5 : 0 < x0_26.toInt := c_lt c5
      have R6 : 1 ≤ x0_26.toInt ∧ x0_26.toInt ≤ 6 := by omega
      refine lv_iconst (v := 0) hx hb d_X_comes_33 (by decide) ?_
      exact W.iret (v := (0 : Int32)) hx hb hr (fun t ht hW => ⟨⟨(0 : Int32), (0 : Int32), rfl, rfl, ⟨x0_26, x0_30, x0_44, y16, y17, y18, (rgw R6 (by decide) (by decide)), Rx0_30, Rx0_44, Ay16, Ay17, Ay18, (by decide), (by omega), (by omega), (by omega), (by intro q9; exfalso; omega), (by assumption), by show va_P D classes _ t.heap; rw [ht]; exact hP, hD⟩⟩, hS.F ht⟩) hS.2.2 d_X_comes_34
    · have gc5 : x0_26.toInt ≤ 0 := c_nlt c5
      have R7 : 0 ≤ x0_26.toInt ∧ x0_26.toInt ≤ 0 := by omega
      refine lv_aload_n hx hb d_X_comes_23 rfl (lv_at hl 0 rfl) ?_
      refine va_get (D := D) (ci := 7) (v := .int x0_44) (C := "SignMachineModel") (T := F_X) (N := 64) hx hb hk fi_X hown hK.1 hP 0 rfl rfl 44 (by decide) (hk _ k_1165) (fun _ h9 => h9) rfl d_X_comes_24 ?_
      refine lv_sipush (v := 4200) hx hb d_X_comes_27 (by decide) ?_
      refine lv_icmp_ne (tgt := 35) hx hb d_X_comes_30 (by decide) (fun c8 => ?_) (fun c8 => ?_)
      · have gc8 : x0_44.toInt ≠ 4200 := c_ne c8
        have R9 : 0 ≤ x0_44.toInt ∧ x0_44.toInt ≤ 4199 := by omega
        refine lv_aload_n hx hb d_X_comes_35 rfl (lv_at hl 0 rfl) ?_
        refine va_get (D := D) (ci := 7) (v := .ref p16) (C := "SignMachineModel") (T := F_X) (N := 64) hx hb hk fi_X hown hK.1 hP 0 rfl rfl 41 (by decide) (hk _ k_1162) (fun _ h9 => h9) rfl d_X_comes_36 ?_
        refine lv_aload_n hx hb d_X_comes_39 rfl (lv_at hl 0 rfl) ?_
        refine va_get (D := D) (ci := 7) (v := .int x0_44) (C := "SignMachineModel") (T := F_X) (N := 64) hx hb hk fi_X hown hK.1 hP 0 rfl rfl 44 (by decide) (hk _ k_1165) (fun _ h9 => h9) rfl d_X_comes_40 ?_
        refine lv_aload_n hx hb d_X_comes_43 rfl (lv_at hl 0 rfl) ?_
        refine va_get (D := D) (ci := 7) (v := .int x0_30) (C := "SignMachineModel") (T := F_X) (N := 64) hx hb hk fi_X hown hK.1 hP 0 rfl rfl 30 (by decide) (hk _ k_1151) (fun _ h9 => h9) rfl d_X_comes_44 ?_
        refine va_iast hx hb hK.1 hP hD hS 16 0 rfl rfl (vpb R9 (by decide) (by decide)) d_X_comes_47 (fun H locs hP hD hS => ?_)
        have hP : va_P D classes (wS50 cI cJ cZ cB p0 p1 p2 p3 p4 p5 p6 p7 p8 p9 p10 p11 p12 p13 p14 p15 p16 p17 p18 p19 p20 p21 p22 p23 p24 p25 x0_4 x0_5 x0_6 x0_7 x0_8 x0_12 x0_13 x0_14 x0_15 x0_16 x0_17 x0_18 x0_22 x0_23 x0_24 x0_25 x0_26 x0_27 x0_28 x0_29 x0_30 x0_31 x0_32 x0_36 x0_39 x0_40 x0_44 x0_49 x0_51 x0_53 x0_54 x0_55 x0_56 x0_57 x0_58 x0_59 x0_60 x0_61 x0_62 y1 y2 y3 y4 y5 y6 y7 y8 y9 y10 y11 y12 y13 y14 y15 (upd y16 (x0_44).toNatClampNeg x0_30) y17 y18 y19 y20 y21 y22 y23 y24 y25) H := hP
        have hD : va_D A (wS50 cI cJ cZ cB p0 p1 p2 p3 p4 p5 p6 p7 p8 p9 p10 p11 p12 p13 p14 p15 p16 p17 p18 p19 p20 p21 p22 p23 p24 p25 x0_4 x0_5 x0_6 x0_7 x0_8 x0_12 x0_13 x0_14 x0_15 x0_16 x0_17 x0_18 x0_22 x0_23 x0_24 x0_25 x0_26 x0_27 x0_28 x0_29 x0_30 x0_31 x0_32 x0_36 x0_39 x0_40 x0_44 x0_49 x0_51 x0_53 x0_54 x0_55 x0_56 x0_57 x0_58 x0_59 x0_60 x0_61 x0_62 y1 y2 y3 y4 y5 y6 y7 y8 y9 y10 y11 y12 y13 y14 y15 (upd y16 (x0_44).toNatClampNeg x0_30) y17 y18 y19 y20 y21 y22 y23 y24 y25) := hD
        obtain ⟨v10, hv10⟩ : ∃ y : Nat → Int32, y = (upd y16 (x0_44).toNatClampNeg x0_30) := ⟨_, rfl⟩
        rw [← hv10] at hP hD
        have Gv10 : (0 ≤ (x0_30).toInt ∧ (x0_30).toInt ≤ 3999) := (by omega)
        have Av10 : ∀ i : Nat, (0 ≤ (v10 i).toInt ∧ (v10 i).toInt ≤ 3999) := by rw [hv10]; exact upd_all (P := fun i x => (0 ≤ (x).toInt ∧ (x).toInt ≤ 3999)) Ay16 Gv10
        clear hv10
        refine lv_aload_n hx hb d_X_comes_48 rfl (lv_at hl 0 rfl) ?_
        refine va_get (D := D) (ci := 7) (v := .ref p17) (C := "SignMachineModel") (T := F_X) (N := 64) hx hb hk fi_X hown hK.1 hP 0 rfl rfl 42 (by decide) (hk _ k_1163) (fun _ h9 => h9) rfl d_X_comes_49 ?_
        refine lv_aload_n hx hb d_X_comes_52 rfl (lv_at hl 0 rfl) ?_
        refine va_get (D := D) (ci := 7) (v := .int x0_44) (C := "SignMachineModel") (T := F_X) (N := 64) hx hb hk fi_X hown hK.1 hP 0 rfl rfl 44 (by decide) (hk _ k_1165) (fun _ h9 => h9) rfl d_X_comes_53 ?_
        refine lv_iload_n hx hb d_X_comes_56 rfl (lv_at hl 1 rfl) ?_
        refine va_iast hx hb hK.1 hP hD hS 17 0 rfl rfl (vpb R9 (by decide) (by decide)) d_X_comes_57 (fun H locs hP hD hS => ?_)
        have hP : va_P D classes (wS50 cI cJ cZ cB p0 p1 p2 p3 p4 p5 p6 p7 p8 p9 p10 p11 p12 p13 p14 p15 p16 p17 p18 p19 p20 p21 p22 p23 p24 p25 x0_4 x0_5 x0_6 x0_7 x0_8 x0_12 x0_13 x0_14 x0_15 x0_16 x0_17 x0_18 x0_22 x0_23 x0_24 x0_25 x0_26 x0_27 x0_28 x0_29 x0_30 x0_31 x0_32 x0_36 x0_39 x0_40 x0_44 x0_49 x0_51 x0_53 x0_54 x0_55 x0_56 x0_57 x0_58 x0_59 x0_60 x0_61 x0_62 y1 y2 y3 y4 y5 y6 y7 y8 y9 y10 y11 y12 y13 y14 y15 v10 (upd y17 (x0_44).toNatClampNeg a1) y18 y19 y20 y21 y22 y23 y24 y25) H := hP
        have hD : va_D A (wS50 cI cJ cZ cB p0 p1 p2 p3 p4 p5 p6 p7 p8 p9 p10 p11 p12 p13 p14 p15 p16 p17 p18 p19 p20 p21 p22 p23 p24 p25 x0_4 x0_5 x0_6 x0_7 x0_8 x0_12 x0_13 x0_14 x0_15 x0_16 x0_17 x0_18 x0_22 x0_23 x0_24 x0_25 x0_26 x0_27 x0_28 x0_29 x0_30 x0_31 x0_32 x0_36 x0_39 x0_40 x0_44 x0_49 x0_51 x0_53 x0_54 x0_55 x0_56 x0_57 x0_58 x0_59 x0_60 x0_61 x0_62 y1 y2 y3 y4 y5 y6 y7 y8 y9 y10 y11 y12 y13 y14 y15 v10 (upd y17 (x0_44).toNatClampNeg a1) y18 y19 y20 y21 y22 y23 y24 y25) := hD
        obtain ⟨v11, hv11⟩ : ∃ y : Nat → Int32, y = (upd y17 (x0_44).toNatClampNeg a1) := ⟨_, rfl⟩
        rw [← hv11] at hP hD
        have Gv11 : (0 ≤ (a1).toInt ∧ (a1).toInt ≤ 1) := Q2
        have Av11 : ∀ i : Nat, (0 ≤ (v11 i).toInt ∧ (v11 i).toInt ≤ 1) := by rw [hv11]; exact upd_all (P := fun i x => (0 ≤ (x).toInt ∧ (x).toInt ≤ 1)) Ay17 Gv11
        clear hv11
        refine lv_aload_n hx hb d_X_comes_58 rfl (lv_at hl 0 rfl) ?_
        refine va_get (D := D) (ci := 7) (v := .ref p18) (C := "SignMachineModel") (T := F_X) (N := 64) hx hb hk fi_X hown hK.1 hP 0 rfl rfl 43 (by decide) (hk _ k_1164) (fun _ h9 => h9) rfl d_X_comes_59 ?_
        refine lv_aload_n hx hb d_X_comes_62 rfl (lv_at hl 0 rfl) ?_
        refine va_get (D := D) (ci := 7) (v := .int x0_44) (C := "SignMachineModel") (T := F_X) (N := 64) hx hb hk fi_X hown hK.1 hP 0 rfl rfl 44 (by decide) (hk _ k_1165) (fun _ h9 => h9) rfl d_X_comes_63 ?_
        refine lv_iload_n hx hb d_X_comes_66 rfl (lv_at hl 2 rfl) ?_
        refine va_iast hx hb hK.1 hP hD hS 18 0 rfl rfl (vpb R9 (by decide) (by decide)) d_X_comes_67 (fun H locs hP hD hS => ?_)
        have hP : va_P D classes (wS50 cI cJ cZ cB p0 p1 p2 p3 p4 p5 p6 p7 p8 p9 p10 p11 p12 p13 p14 p15 p16 p17 p18 p19 p20 p21 p22 p23 p24 p25 x0_4 x0_5 x0_6 x0_7 x0_8 x0_12 x0_13 x0_14 x0_15 x0_16 x0_17 x0_18 x0_22 x0_23 x0_24 x0_25 x0_26 x0_27 x0_28 x0_29 x0_30 x0_31 x0_32 x0_36 x0_39 x0_40 x0_44 x0_49 x0_51 x0_53 x0_54 x0_55 x0_56 x0_57 x0_58 x0_59 x0_60 x0_61 x0_62 y1 y2 y3 y4 y5 y6 y7 y8 y9 y10 y11 y12 y13 y14 y15 v10 v11 (upd y18 (x0_44).toNatClampNeg a2) y19 y20 y21 y22 y23 y24 y25) H := hP
        have hD : va_D A (wS50 cI cJ cZ cB p0 p1 p2 p3 p4 p5 p6 p7 p8 p9 p10 p11 p12 p13 p14 p15 p16 p17 p18 p19 p20 p21 p22 p23 p24 p25 x0_4 x0_5 x0_6 x0_7 x0_8 x0_12 x0_13 x0_14 x0_15 x0_16 x0_17 x0_18 x0_22 x0_23 x0_24 x0_25 x0_26 x0_27 x0_28 x0_29 x0_30 x0_31 x0_32 x0_36 x0_39 x0_40 x0_44 x0_49 x0_51 x0_53 x0_54 x0_55 x0_56 x0_57 x0_58 x0_59 x0_60 x0_61 x0_62 y1 y2 y3 y4 y5 y6 y7 y8 y9 y10 y11 y12 y13 y14 y15 v10 v11 (upd y18 (x0_44).toNatClampNeg a2) y19 y20 y21 y22 y23 y24 y25) := hD
        obtain ⟨v12, hv12⟩ : ∃ y : Nat → Int32, y = (upd y18 (x0_44).toNatClampNeg a2) := ⟨_, rfl⟩
        rw [← hv12] at hP hD
        have Gv12 : (0 ≤ (a2).toInt ∧ (a2).toInt ≤ 1073741823) := Q3
        have Av12 : ∀ i : Nat, (0 ≤ (v12 i).toInt ∧ (v12 i).toInt ≤ 1073741823) := by rw [hv12]; exact upd_all (P := fun i x => (0 ≤ (x).toInt ∧ (x).toInt ≤ 1073741823)) Ay18 Gv12
        refine lv_aload_n hx hb d_X_comes_68 rfl (lv_at hl 0 rfl) ?_
        refine lv_dup hx hb d_X_comes_69 rfl ?_
        refine va_get (D := D) (ci := 7) (v := .int x0_44) (C := "SignMachineModel") (T := F_X) (N := 64) hx hb hk fi_X hown hK.1 hP 0 rfl rfl 44 (by decide) (hk _ k_1165) (fun _ h9 => h9) rfl d_X_comes_70 ?_
        refine lv_iconst (v := 1) hx hb d_X_comes_73 (by decide) ?_
        refine lv_iadd hx hb d_X_comes_74 ?_
        refine lv_topi (fun v13 hv13 => ?_)
        obtain ⟨ev13, Rv13⟩ : v13.toInt = x0_44.toInt + 1 ∧ (1 ≤ v13.toInt ∧ v13.toInt ≤ 4200) := ad3 hv13 R9 (by decide) (by decide) (by decide) (by decide) (by decide)
        refine va_put (D := D) (ci := 7) (v := .int v13) (ty := .int) (C := "SignMachineModel") (T := F_X) (N := 64) hx hb hk fi_X ft_X ft_X_ok fn_X hown hK.1 hP hD hS 0 rfl rfl 44 (by decide) (hk _ k_1165) (fun _ h9 => h9) rfl (by decide +kernel) rfl rfl (Nat.le_of_ble_eq_true rfl) d_X_comes_75 (fun H locs hP hD hS => ?_)
        have hP : va_P D classes (wS50 cI cJ cZ cB p0 p1 p2 p3 p4 p5 p6 p7 p8 p9 p10 p11 p12 p13 p14 p15 p16 p17 p18 p19 p20 p21 p22 p23 p24 p25 x0_4 x0_5 x0_6 x0_7 x0_8 x0_12 x0_13 x0_14 x0_15 x0_16 x0_17 x0_18 x0_22 x0_23 x0_24 x0_25 x0_26 x0_27 x0_28 x0_29 x0_30 x0_31 x0_32 x0_36 x0_39 x0_40 v13 x0_49 x0_51 x0_53 x0_54 x0_55 x0_56 x0_57 x0_58 x0_59 x0_60 x0_61 x0_62 y1 y2 y3 y4 y5 y6 y7 y8 y9 y10 y11 y12 y13 y14 y15 v10 v11 v12 y19 y20 y21 y22 y23 y24 y25) H := hP
        have hD : va_D A (wS50 cI cJ cZ cB p0 p1 p2 p3 p4 p5 p6 p7 p8 p9 p10 p11 p12 p13 p14 p15 p16 p17 p18 p19 p20 p21 p22 p23 p24 p25 x0_4 x0_5 x0_6 x0_7 x0_8 x0_12 x0_13 x0_14 x0_15 x0_16 x0_17 x0_18 x0_22 x0_23 x0_24 x0_25 x0_26 x0_27 x0_28 x0_29 x0_30 x0_31 x0_32 x0_36 x0_39 x0_40 v13 x0_49 x0_51 x0_53 x0_54 x0_55 x0_56 x0_57 x0_58 x0_59 x0_60 x0_61 x0_62 y1 y2 y3 y4 y5 y6 y7 y8 y9 y10 y11 y12 y13 y14 y15 v10 v11 v12 y19 y20 y21 y22 y23 y24 y25) := hD
        refine lv_aload_n hx hb d_X_comes_78 rfl (lv_at hl 0 rfl) ?_
        refine lv_dup hx hb d_X_comes_79 rfl ?_
        refine va_get (D := D) (ci := 7) (v := .int x0_30) (C := "SignMachineModel") (T := F_X) (N := 64) hx hb hk fi_X hown hK.1 hP 0 rfl rfl 30 (by decide) (hk _ k_1151) (fun _ h9 => h9) rfl d_X_comes_80 ?_
        refine lv_iconst (v := 1) hx hb d_X_comes_83 (by decide) ?_
        refine lv_iadd hx hb d_X_comes_84 ?_
        refine lv_topi (fun v14 hv14 => ?_)
        obtain ⟨ev14, Rv14⟩ : v14.toInt = x0_30.toInt + 1 ∧ ((-1073741822) ≤ v14.toInt ∧ v14.toInt ≤ 1073741824) := ad3 hv14 Rx0_30 (by decide) (by decide) (by decide) (by decide) (by decide)
        refine va_put (D := D) (ci := 7) (v := .int v14) (ty := .int) (C := "SignMachineModel") (T := F_X) (N := 64) hx hb hk fi_X ft_X ft_X_ok fn_X hown hK.1 hP hD hS 0 rfl rfl 30 (by decide) (hk _ k_1151) (fun _ h9 => h9) rfl (by decide +kernel) rfl rfl (Nat.le_of_ble_eq_true rfl) d_X_comes_85 (fun H locs hP hD hS => ?_)
        have hP : va_P D classes (wS50 cI cJ cZ cB p0 p1 p2 p3 p4 p5 p6 p7 p8 p9 p10 p11 p12 p13 p14 p15 p16 p17 p18 p19 p20 p21 p22 p23 p24 p25 x0_4 x0_5 x0_6 x0_7 x0_8 x0_12 x0_13 x0_14 x0_15 x0_16 x0_17 x0_18 x0_22 x0_23 x0_24 x0_25 x0_26 x0_27 x0_28 x0_29 v14 x0_31 x0_32 x0_36 x0_39 x0_40 v13 x0_49 x0_51 x0_53 x0_54 x0_55 x0_56 x0_57 x0_58 x0_59 x0_60 x0_61 x0_62 y1 y2 y3 y4 y5 y6 y7 y8 y9 y10 y11 y12 y13 y14 y15 v10 v11 v12 y19 y20 y21 y22 y23 y24 y25) H := hP
        have hD : va_D A (wS50 cI cJ cZ cB p0 p1 p2 p3 p4 p5 p6 p7 p8 p9 p10 p11 p12 p13 p14 p15 p16 p17 p18 p19 p20 p21 p22 p23 p24 p25 x0_4 x0_5 x0_6 x0_7 x0_8 x0_12 x0_13 x0_14 x0_15 x0_16 x0_17 x0_18 x0_22 x0_23 x0_24 x0_25 x0_26 x0_27 x0_28 x0_29 v14 x0_31 x0_32 x0_36 x0_39 x0_40 v13 x0_49 x0_51 x0_53 x0_54 x0_55 x0_56 x0_57 x0_58 x0_59 x0_60 x0_61 x0_62 y1 y2 y3 y4 y5 y6 y7 y8 y9 y10 y11 y12 y13 y14 y15 v10 v11 v12 y19 y20 y21 y22 y23 y24 y25) := hD
        refine lv_aload_n hx hb d_X_comes_88 rfl (lv_at hl 0 rfl) ?_
        refine va_get (D := D) (ci := 7) (v := .int v13) (C := "SignMachineModel") (T := F_X) (N := 64) hx hb hk fi_X hown hK.1 hP 0 rfl rfl 44 (by decide) (hk _ k_1165) (fun _ h9 => h9) rfl d_X_comes_89 ?_
        refine lv_iconst (v := 1) hx hb d_X_comes_92 (by decide) ?_
        refine lv_isub hx hb d_X_comes_93 ?_
        refine lv_topi (fun v15 hv15 => ?_)
        obtain ⟨ev15, Rv15⟩ : v15.toInt = v13.toInt - 1 ∧ (0 ≤ v15.toInt ∧ v15.toInt ≤ 4199) := sb3 hv15 Rv13 (by decide) (by decide) (by decide) (by decide) (by decide)
        exact W.iret (v := v15) hx hb hr (fun t ht hW => ⟨⟨v15, v15, rfl, rfl, ⟨x0_26, v14, v13, v10, v11, v12, (rgw R7 (by decide) (by decide)), (by omega), (rgw Rv13 (by decide) (by decide)), Av10, Av11, Av12, Rv15, (by omega), (by omega), (by omega), (by intro q9; exact ⟨by omega, by omega, lx_get hv12 (by omega)⟩), (by exact lx_out Q1 Ay19 hv12 (by omega) (by omega)), by show va_P D classes _ t.heap; rw [ht]; exact hP, hD⟩⟩, hS.F ht⟩) hS.2.2 d_X_comes_94
      · have gc8 : x0_44.toInt = 4200 := c_eq c8
        have R16 : 4200 ≤ x0_44.toInt ∧ x0_44.toInt ≤ 4200 := by omega
        refine lv_iconst (v := 0) hx hb d_X_comes_33 (by decide) ?_
        exact W.iret (v := (0 : Int32)) hx hb hr (fun t ht hW => ⟨⟨(0 : Int32), (0 : Int32), rfl, rfl, ⟨x0_26, x0_30, x0_44, y16, y17, y18, (rgw R7 (by decide) (by decide)), Rx0_30, (rgw R16 (by decide) (by decide)), Ay16, Ay17, Ay18, (by decide), (by omega), (by omega), (by omega), (by intro q9; exfalso; omega), (by assumption), by show va_P D classes _ t.heap; rw [ht]; exact hP, hD⟩⟩, hS.F ht⟩) hS.2.2 d_X_comes_34
  · have gc3 : rz2.toInt = 0 := c_eq c3
    have R17 : 0 ≤ rz2.toInt ∧ rz2.toInt ≤ 0 := by omega
    refine lv_aload_n hx hb d_X_comes_11 rfl (lv_at hl 0 rfl) ?_
    refine lv_iconst (v := 4) hx hb d_X_comes_12 (by decide) ?_
    refine kn_v (va_runV (C := "SignMachineModel") (As := [.int (4 : Int32)]) (rest := []) ⟨hx, hb, hml, hown, hk⟩ (c_X_bad l D cI cJ cZ cB p0 p1 p2 p3 p4 p5 p6 p7 p8 p9 p10 p11 p12 p13 p14 p15 p16 p17 p18 p19 p20 p21 p22 p23 p24 p25 s.heap.size x0_4 x0_5 x0_6 x0_7 x0_8 x0_12 x0_13 x0_14 x0_15 x0_16 x0_17 x0_18 x0_22 x0_23 x0_24 x0_25 x0_26 x0_27 x0_28 x0_29 x0_30 x0_31 x0_32 x0_36 x0_39 x0_40 x0_44 x0_49 x0_51 x0_53 x0_54 x0_55 x0_56 x0_57 x0_58 x0_59 x0_60 x0_61 x0_62 y1 y2 y3 y4 y5 y6 y7 y8 y9 y10 y11 y12 y13 y14 y15 y16 y17 y18 y19 y20 y21 y22 y23 y24 y25 (4 : Int32) Rx0_26 (by decide)) (v_X_bad hk k_1552 ⟨Nat.le_of_ble_eq_true rfl, Nat.le_of_ble_eq_true rfl⟩) (pM_v hK hP hD (ci := 7) (q0 := 0) rfl rfl rfl) rfl rfl hl.1 rfl (lv_room (Nat.le_of_ble_eq_true rfl)) d_X_comes_13 ⟨Nat.le_of_ble_eq_true rfl, Nat.le_of_ble_eq_true rfl⟩) hS hA hD (fun u t H locs ht hB hFr hS => ?_)
    obtain ⟨x0_26z18, Rx0_26z18, F0z18, hP, hD⟩ := hB
    have F0z18 : 1 ≤ x0_26z18.toInt := F0z18
    rw [ht] at hP
    have hD := dwk hD hFr
    clear ht hFr
    have hP : va_P D classes (wS50 cI cJ cZ cB p0 p1 p2 p3 p4 p5 p6 p7 p8 p9 p10 p11 p12 p13 p14 p15 p16 p17 p18 p19 p20 p21 p22 p23 p24 p25 x0_4 x0_5 x0_6 x0_7 x0_8 x0_12 x0_13 x0_14 x0_15 x0_16 x0_17 x0_18 x0_22 x0_23 x0_24 x0_25 x0_26z18 x0_27 x0_28 x0_29 x0_30 x0_31 x0_32 x0_36 x0_39 x0_40 x0_44 x0_49 x0_51 x0_53 x0_54 x0_55 x0_56 x0_57 x0_58 x0_59 x0_60 x0_61 x0_62 y1 y2 y3 y4 y5 y6 y7 y8 y9 y10 y11 y12 y13 y14 y15 y16 y17 y18 y19 y20 y21 y22 y23 y24 y25) H := hP
    have hD : va_D A (wS50 cI cJ cZ cB p0 p1 p2 p3 p4 p5 p6 p7 p8 p9 p10 p11 p12 p13 p14 p15 p16 p17 p18 p19 p20 p21 p22 p23 p24 p25 x0_4 x0_5 x0_6 x0_7 x0_8 x0_12 x0_13 x0_14 x0_15 x0_16 x0_17 x0_18 x0_22 x0_23 x0_24 x0_25 x0_26z18 x0_27 x0_28 x0_29 x0_30 x0_31 x0_32 x0_36 x0_39 x0_40 x0_44 x0_49 x0_51 x0_53 x0_54 x0_55 x0_56 x0_57 x0_58 x0_59 x0_60 x0_61 x0_62 y1 y2 y3 y4 y5 y6 y7 y8 y9 y10 y11 y12 y13 y14 y15 y16 y17 y18 y19 y20 y21 y22 y23 y24 y25) := hD
    refine lv_aload_n hx hb d_X_comes_16 rfl (lv_at hl 0 rfl) ?_
    refine va_get (D := D) (ci := 7) (v := .int x0_26z18) (C := "SignMachineModel") (T := F_X) (N := 64) hx hb hk fi_X hown hK.1 hP 0 rfl rfl 26 (by decide) (hk _ k_1147) (fun _ h9 => h9) rfl d_X_comes_17 ?_
    refine lv_if_gt (tgt := 33) hx hb d_X_comes_20 (by decide) (fun c19 => ?_) (fun c19 => ?_)
    · have gc19 : 0 < x0_26z18.toInt := c_lt c19
      have R20 : 1 ≤ x0_26z18.toInt ∧ x0_26z18.toInt ≤ 6 := by omega
      refine lv_iconst (v := 0) hx hb d_X_comes_33 (by decide) ?_
      exact W.iret (v := (0 : Int32)) hx hb hr (fun t ht hW => ⟨⟨(0 : Int32), (0 : Int32), rfl, rfl, ⟨x0_26z18, x0_30, x0_44, y16, y17, y18, (rgw R20 (by decide) (by decide)), Rx0_30, Rx0_44, Ay16, Ay17, Ay18, (by decide), (by omega), (by omega), (by omega), (by intro q9; exfalso; omega), (by assumption), by show va_P D classes _ t.heap; rw [ht]; exact hP, hD⟩⟩, hS.F ht⟩) hS.2.2 d_X_comes_34
    · have gc19 : x0_26z18.toInt ≤ 0 := c_nlt c19
      have R21 : 0 ≤ x0_26z18.toInt ∧ x0_26z18.toInt ≤ 0 := by omega
      refine lv_aload_n hx hb d_X_comes_23 rfl (lv_at hl 0 rfl) ?_
      refine va_get (D := D) (ci := 7) (v := .int x0_44) (C := "SignMachineModel") (T := F_X) (N := 64) hx hb hk fi_X hown hK.1 hP 0 rfl rfl 44 (by decide) (hk _ k_1165) (fun _ h9 => h9) rfl d_X_comes_24 ?_
      refine lv_sipush (v := 4200) hx hb d_X_comes_27 (by decide) ?_
      refine lv_icmp_ne (tgt := 35) hx hb d_X_comes_30 (by decide) (fun c22 => ?_) (fun c22 => ?_)
      · have gc22 : x0_44.toInt ≠ 4200 := c_ne c22
        have R23 : 0 ≤ x0_44.toInt ∧ x0_44.toInt ≤ 4199 := by omega
        refine lv_aload_n hx hb d_X_comes_35 rfl (lv_at hl 0 rfl) ?_
        refine va_get (D := D) (ci := 7) (v := .ref p16) (C := "SignMachineModel") (T := F_X) (N := 64) hx hb hk fi_X hown hK.1 hP 0 rfl rfl 41 (by decide) (hk _ k_1162) (fun _ h9 => h9) rfl d_X_comes_36 ?_
        refine lv_aload_n hx hb d_X_comes_39 rfl (lv_at hl 0 rfl) ?_
        refine va_get (D := D) (ci := 7) (v := .int x0_44) (C := "SignMachineModel") (T := F_X) (N := 64) hx hb hk fi_X hown hK.1 hP 0 rfl rfl 44 (by decide) (hk _ k_1165) (fun _ h9 => h9) rfl d_X_comes_40 ?_
        refine lv_aload_n hx hb d_X_comes_43 rfl (lv_at hl 0 rfl) ?_
        refine va_get (D := D) (ci := 7) (v := .int x0_30) (C := "SignMachineModel") (T := F_X) (N := 64) hx hb hk fi_X hown hK.1 hP 0 rfl rfl 30 (by decide) (hk _ k_1151) (fun _ h9 => h9) rfl d_X_comes_44 ?_
        refine va_iast hx hb hK.1 hP hD hS 16 0 rfl rfl (vpb R23 (by decide) (by decide)) d_X_comes_47 (fun H locs hP hD hS => ?_)
        have hP : va_P D classes (wS50 cI cJ cZ cB p0 p1 p2 p3 p4 p5 p6 p7 p8 p9 p10 p11 p12 p13 p14 p15 p16 p17 p18 p19 p20 p21 p22 p23 p24 p25 x0_4 x0_5 x0_6 x0_7 x0_8 x0_12 x0_13 x0_14 x0_15 x0_16 x0_17 x0_18 x0_22 x0_23 x0_24 x0_25 x0_26z18 x0_27 x0_28 x0_29 x0_30 x0_31 x0_32 x0_36 x0_39 x0_40 x0_44 x0_49 x0_51 x0_53 x0_54 x0_55 x0_56 x0_57 x0_58 x0_59 x0_60 x0_61 x0_62 y1 y2 y3 y4 y5 y6 y7 y8 y9 y10 y11 y12 y13 y14 y15 (upd y16 (x0_44).toNatClampNeg x0_30) y17 y18 y19 y20 y21 y22 y23 y24 y25) H := hP
        have hD : va_D A (wS50 cI cJ cZ cB p0 p1 p2 p3 p4 p5 p6 p7 p8 p9 p10 p11 p12 p13 p14 p15 p16 p17 p18 p19 p20 p21 p22 p23 p24 p25 x0_4 x0_5 x0_6 x0_7 x0_8 x0_12 x0_13 x0_14 x0_15 x0_16 x0_17 x0_18 x0_22 x0_23 x0_24 x0_25 x0_26z18 x0_27 x0_28 x0_29 x0_30 x0_31 x0_32 x0_36 x0_39 x0_40 x0_44 x0_49 x0_51 x0_53 x0_54 x0_55 x0_56 x0_57 x0_58 x0_59 x0_60 x0_61 x0_62 y1 y2 y3 y4 y5 y6 y7 y8 y9 y10 y11 y12 y13 y14 y15 (upd y16 (x0_44).toNatClampNeg x0_30) y17 y18 y19 y20 y21 y22 y23 y24 y25) := hD
        obtain ⟨v24, hv24⟩ : ∃ y : Nat → Int32, y = (upd y16 (x0_44).toNatClampNeg x0_30) := ⟨_, rfl⟩
        rw [← hv24] at hP hD
        have Gv24 : (0 ≤ (x0_30).toInt ∧ (x0_30).toInt ≤ 3999) := (by omega)
        have Av24 : ∀ i : Nat, (0 ≤ (v24 i).toInt ∧ (v24 i).toInt ≤ 3999) := by rw [hv24]; exact upd_all (P := fun i x => (0 ≤ (x).toInt ∧ (x).toInt ≤ 3999)) Ay16 Gv24
        clear hv24
        refine lv_aload_n hx hb d_X_comes_48 rfl (lv_at hl 0 rfl) ?_
        refine va_get (D := D) (ci := 7) (v := .ref p17) (C := "SignMachineModel") (T := F_X) (N := 64) hx hb hk fi_X hown hK.1 hP 0 rfl rfl 42 (by decide) (hk _ k_1163) (fun _ h9 => h9) rfl d_X_comes_49 ?_
        refine lv_aload_n hx hb d_X_comes_52 rfl (lv_at hl 0 rfl) ?_
        refine va_get (D := D) (ci := 7) (v := .int x0_44) (C := "SignMachineModel") (T := F_X) (N := 64) hx hb hk fi_X hown hK.1 hP 0 rfl rfl 44 (by decide) (hk _ k_1165) (fun _ h9 => h9) rfl d_X_comes_53 ?_
        refine lv_iload_n hx hb d_X_comes_56 rfl (lv_at hl 1 rfl) ?_
        refine va_iast hx hb hK.1 hP hD hS 17 0 rfl rfl (vpb R23 (by decide) (by decide)) d_X_comes_57 (fun H locs hP hD hS => ?_)
        have hP : va_P D classes (wS50 cI cJ cZ cB p0 p1 p2 p3 p4 p5 p6 p7 p8 p9 p10 p11 p12 p13 p14 p15 p16 p17 p18 p19 p20 p21 p22 p23 p24 p25 x0_4 x0_5 x0_6 x0_7 x0_8 x0_12 x0_13 x0_14 x0_15 x0_16 x0_17 x0_18 x0_22 x0_23 x0_24 x0_25 x0_26z18 x0_27 x0_28 x0_29 x0_30 x0_31 x0_32 x0_36 x0_39 x0_40 x0_44 x0_49 x0_51 x0_53 x0_54 x0_55 x0_56 x0_57 x0_58 x0_59 x0_60 x0_61 x0_62 y1 y2 y3 y4 y5 y6 y7 y8 y9 y10 y11 y12 y13 y14 y15 v24 (upd y17 (x0_44).toNatClampNeg a1) y18 y19 y20 y21 y22 y23 y24 y25) H := hP
        have hD : va_D A (wS50 cI cJ cZ cB p0 p1 p2 p3 p4 p5 p6 p7 p8 p9 p10 p11 p12 p13 p14 p15 p16 p17 p18 p19 p20 p21 p22 p23 p24 p25 x0_4 x0_5 x0_6 x0_7 x0_8 x0_12 x0_13 x0_14 x0_15 x0_16 x0_17 x0_18 x0_22 x0_23 x0_24 x0_25 x0_26z18 x0_27 x0_28 x0_29 x0_30 x0_31 x0_32 x0_36 x0_39 x0_40 x0_44 x0_49 x0_51 x0_53 x0_54 x0_55 x0_56 x0_57 x0_58 x0_59 x0_60 x0_61 x0_62 y1 y2 y3 y4 y5 y6 y7 y8 y9 y10 y11 y12 y13 y14 y15 v24 (upd y17 (x0_44).toNatClampNeg a1) y18 y19 y20 y21 y22 y23 y24 y25) := hD
        obtain ⟨v25, hv25⟩ : ∃ y : Nat → Int32, y = (upd y17 (x0_44).toNatClampNeg a1) := ⟨_, rfl⟩
        rw [← hv25] at hP hD
        have Gv25 : (0 ≤ (a1).toInt ∧ (a1).toInt ≤ 1) := Q2
        have Av25 : ∀ i : Nat, (0 ≤ (v25 i).toInt ∧ (v25 i).toInt ≤ 1) := by rw [hv25]; exact upd_all (P := fun i x => (0 ≤ (x).toInt ∧ (x).toInt ≤ 1)) Ay17 Gv25
        clear hv25
        refine lv_aload_n hx hb d_X_comes_58 rfl (lv_at hl 0 rfl) ?_
        refine va_get (D := D) (ci := 7) (v := .ref p18) (C := "SignMachineModel") (T := F_X) (N := 64) hx hb hk fi_X hown hK.1 hP 0 rfl rfl 43 (by decide) (hk _ k_1164) (fun _ h9 => h9) rfl d_X_comes_59 ?_
        refine lv_aload_n hx hb d_X_comes_62 rfl (lv_at hl 0 rfl) ?_
        refine va_get (D := D) (ci := 7) (v := .int x0_44) (C := "SignMachineModel") (T := F_X) (N := 64) hx hb hk fi_X hown hK.1 hP 0 rfl rfl 44 (by decide) (hk _ k_1165) (fun _ h9 => h9) rfl d_X_comes_63 ?_
        refine lv_iload_n hx hb d_X_comes_66 rfl (lv_at hl 2 rfl) ?_
        refine va_iast hx hb hK.1 hP hD hS 18 0 rfl rfl (vpb R23 (by decide) (by decide)) d_X_comes_67 (fun H locs hP hD hS => ?_)
        have hP : va_P D classes (wS50 cI cJ cZ cB p0 p1 p2 p3 p4 p5 p6 p7 p8 p9 p10 p11 p12 p13 p14 p15 p16 p17 p18 p19 p20 p21 p22 p23 p24 p25 x0_4 x0_5 x0_6 x0_7 x0_8 x0_12 x0_13 x0_14 x0_15 x0_16 x0_17 x0_18 x0_22 x0_23 x0_24 x0_25 x0_26z18 x0_27 x0_28 x0_29 x0_30 x0_31 x0_32 x0_36 x0_39 x0_40 x0_44 x0_49 x0_51 x0_53 x0_54 x0_55 x0_56 x0_57 x0_58 x0_59 x0_60 x0_61 x0_62 y1 y2 y3 y4 y5 y6 y7 y8 y9 y10 y11 y12 y13 y14 y15 v24 v25 (upd y18 (x0_44).toNatClampNeg a2) y19 y20 y21 y22 y23 y24 y25) H := hP
        have hD : va_D A (wS50 cI cJ cZ cB p0 p1 p2 p3 p4 p5 p6 p7 p8 p9 p10 p11 p12 p13 p14 p15 p16 p17 p18 p19 p20 p21 p22 p23 p24 p25 x0_4 x0_5 x0_6 x0_7 x0_8 x0_12 x0_13 x0_14 x0_15 x0_16 x0_17 x0_18 x0_22 x0_23 x0_24 x0_25 x0_26z18 x0_27 x0_28 x0_29 x0_30 x0_31 x0_32 x0_36 x0_39 x0_40 x0_44 x0_49 x0_51 x0_53 x0_54 x0_55 x0_56 x0_57 x0_58 x0_59 x0_60 x0_61 x0_62 y1 y2 y3 y4 y5 y6 y7 y8 y9 y10 y11 y12 y13 y14 y15 v24 v25 (upd y18 (x0_44).toNatClampNeg a2) y19 y20 y21 y22 y23 y24 y25) := hD
        obtain ⟨v26, hv26⟩ : ∃ y : Nat → Int32, y = (upd y18 (x0_44).toNatClampNeg a2) := ⟨_, rfl⟩
        rw [← hv26] at hP hD
        have Gv26 : (0 ≤ (a2).toInt ∧ (a2).toInt ≤ 1073741823) := Q3
        have Av26 : ∀ i : Nat, (0 ≤ (v26 i).toInt ∧ (v26 i).toInt ≤ 1073741823) := by rw [hv26]; exact upd_all (P := fun i x => (0 ≤ (x).toInt ∧ (x).toInt ≤ 1073741823)) Ay18 Gv26
        refine lv_aload_n hx hb d_X_comes_68 rfl (lv_at hl 0 rfl) ?_
        refine lv_dup hx hb d_X_comes_69 rfl ?_
        refine va_get (D := D) (ci := 7) (v := .int x0_44) (C := "SignMachineModel") (T := F_X) (N := 64) hx hb hk fi_X hown hK.1 hP 0 rfl rfl 44 (by decide) (hk _ k_1165) (fun _ h9 => h9) rfl d_X_comes_70 ?_
        refine lv_iconst (v := 1) hx hb d_X_comes_73 (by decide) ?_
        refine lv_iadd hx hb d_X_comes_74 ?_
        refine lv_topi (fun v27 hv27 => ?_)
        obtain ⟨ev27, Rv27⟩ : v27.toInt = x0_44.toInt + 1 ∧ (1 ≤ v27.toInt ∧ v27.toInt ≤ 4200) := ad3 hv27 R23 (by decide) (by decide) (by decide) (by decide) (by decide)
        refine va_put (D := D) (ci := 7) (v := .int v27) (ty := .int) (C := "SignMachineModel") (T := F_X) (N := 64) hx hb hk fi_X ft_X ft_X_ok fn_X hown hK.1 hP hD hS 0 rfl rfl 44 (by decide) (hk _ k_1165) (fun _ h9 => h9) rfl (by decide +kernel) rfl rfl (Nat.le_of_ble_eq_true rfl) d_X_comes_75 (fun H locs hP hD hS => ?_)
        have hP : va_P D classes (wS50 cI cJ cZ cB p0 p1 p2 p3 p4 p5 p6 p7 p8 p9 p10 p11 p12 p13 p14 p15 p16 p17 p18 p19 p20 p21 p22 p23 p24 p25 x0_4 x0_5 x0_6 x0_7 x0_8 x0_12 x0_13 x0_14 x0_15 x0_16 x0_17 x0_18 x0_22 x0_23 x0_24 x0_25 x0_26z18 x0_27 x0_28 x0_29 x0_30 x0_31 x0_32 x0_36 x0_39 x0_40 v27 x0_49 x0_51 x0_53 x0_54 x0_55 x0_56 x0_57 x0_58 x0_59 x0_60 x0_61 x0_62 y1 y2 y3 y4 y5 y6 y7 y8 y9 y10 y11 y12 y13 y14 y15 v24 v25 v26 y19 y20 y21 y22 y23 y24 y25) H := hP
        have hD : va_D A (wS50 cI cJ cZ cB p0 p1 p2 p3 p4 p5 p6 p7 p8 p9 p10 p11 p12 p13 p14 p15 p16 p17 p18 p19 p20 p21 p22 p23 p24 p25 x0_4 x0_5 x0_6 x0_7 x0_8 x0_12 x0_13 x0_14 x0_15 x0_16 x0_17 x0_18 x0_22 x0_23 x0_24 x0_25 x0_26z18 x0_27 x0_28 x0_29 x0_30 x0_31 x0_32 x0_36 x0_39 x0_40 v27 x0_49 x0_51 x0_53 x0_54 x0_55 x0_56 x0_57 x0_58 x0_59 x0_60 x0_61 x0_62 y1 y2 y3 y4 y5 y6 y7 y8 y9 y10 y11 y12 y13 y14 y15 v24 v25 v26 y19 y20 y21 y22 y23 y24 y25) := hD
        refine lv_aload_n hx hb d_X_comes_78 rfl (lv_at hl 0 rfl) ?_
        refine lv_dup hx hb d_X_comes_79 rfl ?_
        refine va_get (D := D) (ci := 7) (v := .int x0_30) (C := "SignMachineModel") (T := F_X) (N := 64) hx hb hk fi_X hown hK.1 hP 0 rfl rfl 30 (by decide) (hk _ k_1151) (fun _ h9 => h9) rfl d_X_comes_80 ?_
        refine lv_iconst (v := 1) hx hb d_X_comes_83 (by decide) ?_
        refine lv_iadd hx hb d_X_comes_84 ?_
        refine lv_topi (fun v28 hv28 => ?_)
        obtain ⟨ev28, Rv28⟩ : v28.toInt = x0_30.toInt + 1 ∧ ((-1073741822) ≤ v28.toInt ∧ v28.toInt ≤ 1073741824) := ad3 hv28 Rx0_30 (by decide) (by decide) (by decide) (by decide) (by decide)
        refine va_put (D := D) (ci := 7) (v := .int v28) (ty := .int) (C := "SignMachineModel") (T := F_X) (N := 64) hx hb hk fi_X ft_X ft_X_ok fn_X hown hK.1 hP hD hS 0 rfl rfl 30 (by decide) (hk _ k_1151) (fun _ h9 => h9) rfl (by decide +kernel) rfl rfl (Nat.le_of_ble_eq_true rfl) d_X_comes_85 (fun H locs hP hD hS => ?_)
        have hP : va_P D classes (wS50 cI cJ cZ cB p0 p1 p2 p3 p4 p5 p6 p7 p8 p9 p10 p11 p12 p13 p14 p15 p16 p17 p18 p19 p20 p21 p22 p23 p24 p25 x0_4 x0_5 x0_6 x0_7 x0_8 x0_12 x0_13 x0_14 x0_15 x0_16 x0_17 x0_18 x0_22 x0_23 x0_24 x0_25 x0_26z18 x0_27 x0_28 x0_29 v28 x0_31 x0_32 x0_36 x0_39 x0_40 v27 x0_49 x0_51 x0_53 x0_54 x0_55 x0_56 x0_57 x0_58 x0_59 x0_60 x0_61 x0_62 y1 y2 y3 y4 y5 y6 y7 y8 y9 y10 y11 y12 y13 y14 y15 v24 v25 v26 y19 y20 y21 y22 y23 y24 y25) H := hP
        have hD : va_D A (wS50 cI cJ cZ cB p0 p1 p2 p3 p4 p5 p6 p7 p8 p9 p10 p11 p12 p13 p14 p15 p16 p17 p18 p19 p20 p21 p22 p23 p24 p25 x0_4 x0_5 x0_6 x0_7 x0_8 x0_12 x0_13 x0_14 x0_15 x0_16 x0_17 x0_18 x0_22 x0_23 x0_24 x0_25 x0_26z18 x0_27 x0_28 x0_29 v28 x0_31 x0_32 x0_36 x0_39 x0_40 v27 x0_49 x0_51 x0_53 x0_54 x0_55 x0_56 x0_57 x0_58 x0_59 x0_60 x0_61 x0_62 y1 y2 y3 y4 y5 y6 y7 y8 y9 y10 y11 y12 y13 y14 y15 v24 v25 v26 y19 y20 y21 y22 y23 y24 y25) := hD
        refine lv_aload_n hx hb d_X_comes_88 rfl (lv_at hl 0 rfl) ?_
        refine va_get (D := D) (ci := 7) (v := .int v27) (C := "SignMachineModel") (T := F_X) (N := 64) hx hb hk fi_X hown hK.1 hP 0 rfl rfl 44 (by decide) (hk _ k_1165) (fun _ h9 => h9) rfl d_X_comes_89 ?_
        refine lv_iconst (v := 1) hx hb d_X_comes_92 (by decide) ?_
        refine lv_isub hx hb d_X_comes_93 ?_
        refine lv_topi (fun v29 hv29 => ?_)
        obtain ⟨ev29, Rv29⟩ : v29.toInt = v27.toInt - 1 ∧ (0 ≤ v29.toInt ∧ v29.toInt ≤ 4199) := sb3 hv29 Rv27 (by decide) (by decide) (by decide) (by decide) (by decide)
        exact W.iret (v := v29) hx hb hr (fun t ht hW => ⟨⟨v29, v29, rfl, rfl, ⟨x0_26z18, v28, v27, v24, v25, v26, (rgw R21 (by decide) (by decide)), (by omega), (rgw Rv27 (by decide) (by decide)), Av24, Av25, Av26, Rv29, (by omega), (by omega), (by omega), (by intro q9; exact ⟨by omega, by omega, lx_get hv26 (by omega)⟩), (by exact lx_out Q1 Ay19 hv26 (by omega) (by omega)), by show va_P D classes _ t.heap; rw [ht]; exact hP, hD⟩⟩, hS.F ht⟩) hS.2.2 d_X_comes_94
      · have gc22 : x0_44.toInt = 4200 := c_eq c22
        have R30 : 4200 ≤ x0_44.toInt ∧ x0_44.toInt ≤ 4200 := by omega
        refine lv_iconst (v := 0) hx hb d_X_comes_33 (by decide) ?_
        exact W.iret (v := (0 : Int32)) hx hb hr (fun t ht hW => ⟨⟨(0 : Int32), (0 : Int32), rfl, rfl, ⟨x0_26z18, x0_30, x0_44, y16, y17, y18, (rgw R21 (by decide) (by decide)), Rx0_30, (rgw R30 (by decide) (by decide)), Ay16, Ay17, Ay18, (by decide), (by omega), (by omega), (by omega), (by intro q9; exfalso; omega), (by assumption), by show va_P D classes _ t.heap; rw [ht]; exact hP, hD⟩⟩, hS.F ht⟩) hS.2.2 d_X_comes_34
theorem v_X_comes {R : Room} {s : State} {args : Array Value} {own : String} {index : Nat} (hk : ∀ w ∈ tb, w.before args s = true) (hl : Cond.methodLink own index y_X_comes ∈ tb) (hR : 1 + 1 ≤ R.frames ∧ 8 + (3 + 11) + 21 ≤ R.locals) : CallW R s args own "SignMachineModel" index y_X_comes b_X_comes 3 (some .int) (.code y_X_comes b_X_comes 3 (some .int) :: tb) ({ frames := 1, cells := 0, slots := 0, locals := 21 }) 0 0 2 := mk_v 2 hk k_1644 hl k_1643 k_100 k_119 rfl rfl h_X_comes hR
set_option maxHeartbeats 8000000 in
set_option maxRecDepth 100000 in
theorem c_X_laterSymbol (l : Launch) (D : va_G) (cI cJ cZ cB : ClassId) (p0 p1 p2 p3 p4 p5 p6 p7 p8 p9 p10 p11 p12 p13 p14 p15 p16 p17 p18 p19 p20 p21 p22 p23 p24 p25 : Nat) (sz : Nat) (x0_4 : Int32) (x0_5 : Int32) (x0_6 : Int32) (x0_7 : Int32) (x0_8 : Int32) (x0_12 : Int32) (x0_13 : Int32) (x0_14 : Int32) (x0_15 : Int32) (x0_16 : Int32) (x0_17 : Int32) (x0_18 : Int32) (x0_22 : Int32) (x0_23 : Int32) (x0_24 : Int32) (x0_25 : Int32) (x0_26 : Int32) (x0_27 : Int32) (x0_28 : Int32) (x0_29 : Int32) (x0_30 : Int32) (x0_31 : Int32) (x0_32 : Int32) (x0_36 : Int32) (x0_39 : Int32) (x0_40 : Int64) (x0_44 : Int32) (x0_49 : Int32) (x0_51 : Int32) (x0_53 : Int32) (x0_54 : Int32) (x0_55 : Int64) (x0_56 : Int32) (x0_57 : Int32) (x0_58 : Int32) (x0_59 : Int32) (x0_60 : Int32) (x0_61 : Int32) (x0_62 : Int64) (y1 : Nat → Int32) (y2 : Nat → Int32) (y3 : Nat → Int32) (y4 : Nat → Int32) (y5 : Nat → Int32) (y6 : Nat → Int32) (y7 : Nat → Int32) (y8 : Nat → Int32) (y9 : Nat → Int32) (y10 : Nat → Int32) (y11 : Nat → Int64) (y12 : Nat → Int32) (y13 : Nat → Int64) (y14 : Nat → Int32) (y15 : Nat → Int64) (y16 : Nat → Int32) (y17 : Nat → Int32) (y18 : Nat → Int32) (y19 : Nat → Int32) (y20 : Nat → Int32) (y21 : Nat → Int32) (y22 : Nat → Int32) (y23 : Nat → Int32) (y24 : Nat → Int64) (y25 : Nat → Int64) (a1 : Int64) (Rx0_26 : 0 ≤ x0_26.toInt ∧ x0_26.toInt ≤ 6) (Rx0_36 : 0 ≤ x0_36.toInt ∧ x0_36.toInt ≤ 60) (Rx0_51 : 0 ≤ x0_51.toInt ∧ x0_51.toInt ≤ 110) (Rx0_53 : 0 ≤ x0_53.toInt ∧ x0_53.toInt ≤ 40) (Rx0_59 : 0 ≤ x0_59.toInt ∧ x0_59.toInt ≤ 1) (Rx0_60 : (-10) ≤ x0_60.toInt ∧ x0_60.toInt ≤ 139) (Ay23 : ∀ i : Nat, ((0 ≤ (y23 i).toInt ∧ (y23 i).toInt ≤ 139) ∧ ((y23 i).toInt ≤ 59 ∨ 100 ≤ (y23 i).toInt))) (Q0 : x0_51.toInt ≤ x0_36.toInt + x0_53.toInt) : Met l y_X_laterSymbol (.code y_X_laterSymbol b_X_laterSymbol 4 none :: tb) ({ frames := 2, cells := 0, slots := 0, locals := 43 }) (pM D cI cJ cZ cB (wS50 cI cJ cZ cB p0 p1 p2 p3 p4 p5 p6 p7 p8 p9 p10 p11 p12 p13 p14 p15 p16 p17 p18 p19 p20 p21 p22 p23 p24 p25 x0_4 x0_5 x0_6 x0_7 x0_8 x0_12 x0_13 x0_14 x0_15 x0_16 x0_17 x0_18 x0_22 x0_23 x0_24 x0_25 x0_26 x0_27 x0_28 x0_29 x0_30 x0_31 x0_32 x0_36 x0_39 x0_40 x0_44 x0_49 x0_51 x0_53 x0_54 x0_55 x0_56 x0_57 x0_58 x0_59 x0_60 x0_61 x0_62 y1 y2 y3 y4 y5 y6 y7 y8 y9 y10 y11 y12 y13 y14 y15 y16 y17 y18 y19 y20 y21 y22 y23 y24 y25) sz [.ref p0, .long a1]) (va_Qv (fun (_ : Unit) => True) (fun _ t => ∃ u_x0_26 : Int32, ∃ u_x0_36 : Int32, ∃ u_x0_51 : Int32, ∃ u_x0_59 : Int32, ∃ u_x0_60 : Int32, ∃ u_y11 : Nat → Int64, ∃ u_y12 : Nat → Int32, ∃ u_y23 : Nat → Int32, (0 ≤ u_x0_26.toInt ∧ u_x0_26.toInt ≤ 6) ∧ (0 ≤ u_x0_36.toInt ∧ u_x0_36.toInt ≤ 60) ∧ (0 ≤ u_x0_51.toInt ∧ u_x0_51.toInt ≤ 110) ∧ (0 ≤ u_x0_59.toInt ∧ u_x0_59.toInt ≤ 1) ∧ ((-10) ≤ u_x0_60.toInt ∧ u_x0_60.toInt ≤ 139) ∧ (∀ i : Nat, ((0 ≤ (u_y23 i).toInt ∧ (u_y23 i).toInt ≤ 139) ∧ ((u_y23 i).toInt ≤ 59 ∨ 100 ≤ (u_y23 i).toInt))) ∧ (u_x0_51.toInt ≤ u_x0_36.toInt + x0_53.toInt) ∧ (1 ≤ x0_26.toInt → 1 ≤ u_x0_26.toInt) ∧ (u_x0_60.toInt ≤ 59) ∧ (u_x0_59.toInt = 1) ∧ va_P D classes (wS50 cI cJ cZ cB p0 p1 p2 p3 p4 p5 p6 p7 p8 p9 p10 p11 p12 p13 p14 p15 p16 p17 p18 p19 p20 p21 p22 p23 p24 p25 x0_4 x0_5 x0_6 x0_7 x0_8 x0_12 x0_13 x0_14 x0_15 x0_16 x0_17 x0_18 x0_22 x0_23 x0_24 x0_25 u_x0_26 x0_27 x0_28 x0_29 x0_30 x0_31 x0_32 u_x0_36 x0_39 x0_40 x0_44 x0_49 u_x0_51 x0_53 x0_54 x0_55 x0_56 x0_57 x0_58 u_x0_59 u_x0_60 x0_61 x0_62 y1 y2 y3 y4 y5 y6 y7 y8 y9 y10 u_y11 u_y12 y13 y14 y15 y16 y17 y18 y19 y20 y21 y22 u_y23 y24 y25) t.heap ∧ va_D (va_A (wS50 cI cJ cZ cB p0 p1 p2 p3 p4 p5 p6 p7 p8 p9 p10 p11 p12 p13 p14 p15 p16 p17 p18 p19 p20 p21 p22 p23 p24 p25 x0_4 x0_5 x0_6 x0_7 x0_8 x0_12 x0_13 x0_14 x0_15 x0_16 x0_17 x0_18 x0_22 x0_23 x0_24 x0_25 x0_26 x0_27 x0_28 x0_29 x0_30 x0_31 x0_32 x0_36 x0_39 x0_40 x0_44 x0_49 x0_51 x0_53 x0_54 x0_55 x0_56 x0_57 x0_58 x0_59 x0_60 x0_61 x0_62 y1 y2 y3 y4 y5 y6 y7 y8 y9 y10 y11 y12 y13 y14 y15 y16 y17 y18 y19 y20 y21 y22 y23 y24 y25) sz) (wS50 cI cJ cZ cB p0 p1 p2 p3 p4 p5 p6 p7 p8 p9 p10 p11 p12 p13 p14 p15 p16 p17 p18 p19 p20 p21 p22 p23 p24 p25 x0_4 x0_5 x0_6 x0_7 x0_8 x0_12 x0_13 x0_14 x0_15 x0_16 x0_17 x0_18 x0_22 x0_23 x0_24 x0_25 u_x0_26 x0_27 x0_28 x0_29 x0_30 x0_31 x0_32 u_x0_36 x0_39 x0_40 x0_44 x0_49 u_x0_51 x0_53 x0_54 x0_55 x0_56 x0_57 x0_58 u_x0_59 u_x0_60 x0_61 x0_62 y1 y2 y3 y4 y5 y6 y7 y8 y9 y10 u_y11 u_y12 y13 y14 y15 y16 y17 y18 y19 y20 y21 y22 u_y23 y24 y25)) (va_A (wS50 cI cJ cZ cB p0 p1 p2 p3 p4 p5 p6 p7 p8 p9 p10 p11 p12 p13 p14 p15 p16 p17 p18 p19 p20 p21 p22 p23 p24 p25 x0_4 x0_5 x0_6 x0_7 x0_8 x0_12 x0_13 x0_14 x0_15 x0_16 x0_17 x0_18 x0_22 x0_23 x0_24 x0_25 x0_26 x0_27 x0_28 x0_29 x0_30 x0_31 x0_32 x0_36 x0_39 x0_40 x0_44 x0_49 x0_51 x0_53 x0_54 x0_55 x0_56 x0_57 x0_58 x0_59 x0_60 x0_61 x0_62 y1 y2 y3 y4 y5 y6 y7 y8 y9 y10 y11 y12 y13 y14 y15 y16 y17 y18 y19 y20 y21 y22 y23 y24 y25) sz)) 0 0 (va_A (wS50 cI cJ cZ cB p0 p1 p2 p3 p4 p5 p6 p7 p8 p9 p10 p11 p12 p13 p14 p15 p16 p17 p18 p19 p20 p21 p22 p23 p24 p25 x0_4 x0_5 x0_6 x0_7 x0_8 x0_12 x0_13 x0_14 x0_15 x0_16 x0_17 x0_18 x0_22 x0_23 x0_24 x0_25 x0_26 x0_27 x0_28 x0_29 x0_30 x0_31 x0_32 x0_36 x0_39 x0_40 x0_44 x0_49 x0_51 x0_53 x0_54 x0_55 x0_56 x0_57 x0_58 x0_59 x0_60 x0_61 x0_62 y1 y2 y3 y4 y5 y6 y7 y8 y9 y10 y11 y12 y13 y14 y15 y16 y17 y18 y19 y20 y21 y22 y23 y24 y25) sz) := by
  refine Met.ofW (cc := b_X_laterSymbol) (maxL := 4) (ret := none) (by decide) rfl ?_
  intro p e s m args below meth c s₁ B hml hv
  obtain ⟨rfl, hsz, hK, hP, hD0⟩ := hv
  subst hsz
  have hD := hD0.self (sz := s.heap.size)
  generalize hAe : va_A (wS50 cI cJ cZ cB p0 p1 p2 p3 p4 p5 p6 p7 p8 p9 p10 p11 p12 p13 p14 p15 p16 p17 p18 p19 p20 p21 p22 p23 p24 p25 x0_4 x0_5 x0_6 x0_7 x0_8 x0_12 x0_13 x0_14 x0_15 x0_16 x0_17 x0_18 x0_22 x0_23 x0_24 x0_25 x0_26 x0_27 x0_28 x0_29 x0_30 x0_31 x0_32 x0_36 x0_39 x0_40 x0_44 x0_49 x0_51 x0_53 x0_54 x0_55 x0_56 x0_57 x0_58 x0_59 x0_60 x0_61 x0_62 y1 y2 y3 y4 y5 y6 y7 y8 y9 y10 y11 y12 y13 y14 y15 y16 y17 y18 y19 y20 y21 y22 y23 y24 y25) s.heap.size = A at hD ⊢
  have hA : ∀ q : Nat, s.heap.size ≤ q → A q := fun q h => by rw [← hAe]; exact Or.inr h
  clear hAe hD0
  have hS : va_S A s.heap s.heap [] := va_S.rf
  have hx := B.exec
  have hb := B.bytes
  have hr := B.returns
  have hts := atoms_spec (ws := .code y_X_laterSymbol b_X_laterSymbol 4 none :: tb) B.pre
  have hk : ∀ w ∈ tb, w.before [.ref p0, .long a1].toArray s = true := fun w h => hts w (List.mem_cons_of_mem _ h)
  have hown : s.vm.findClass "SignMachineModel" = some m.cls := findClass_of_methodNamed B.named
  have hlocks := B.notSynchronized
  have hl := lv_entry ([.ref p0, .long a1]) (n := 4) (Nat.le_of_ble_eq_true rfl)
  rw [lg_entry_eq]
  generalize (lg_sl ([.ref p0, .long a1]) ++ List.replicate (4 - (lg_sl ([.ref p0, .long a1])).length) Slot.unset).toArray = ls at hl ⊢
  have hl : lv_has ls 4 [(0, .ref p0), (1, .long a1)] := hl
  clear hts B
  refine lv_aload_n hx hb d_X_laterSymbol_0 rfl (lv_at hl 0 rfl) ?_
  refine lv_lload_n hx hb d_X_laterSymbol_1 rfl (lv_at hl 1 rfl) ?_
  refine sn_i (va_runV (C := "SignMachineModel") (As := [.long a1]) (rest := []) ⟨hx, hb, hml, hown, hk⟩ (c_X_findSymbol l D cI cJ cZ cB p0 p1 p2 p3 p4 p5 p6 p7 p8 p9 p10 p11 p12 p13 p14 p15 p16 p17 p18 p19 p20 p21 p22 p23 p24 p25 s.heap.size x0_4 x0_5 x0_6 x0_7 x0_8 x0_12 x0_13 x0_14 x0_15 x0_16 x0_17 x0_18 x0_22 x0_23 x0_24 x0_25 x0_26 x0_27 x0_28 x0_29 x0_30 x0_31 x0_32 x0_36 x0_39 x0_40 x0_44 x0_49 x0_51 x0_53 x0_54 x0_55 x0_56 x0_57 x0_58 x0_59 x0_60 x0_61 x0_62 y1 y2 y3 y4 y5 y6 y7 y8 y9 y10 y11 y12 y13 y14 y15 y16 y17 y18 y19 y20 y21 y22 y23 y24 y25 a1 Rx0_36) (v_X_findSymbol hk k_1626 ⟨Nat.le_of_ble_eq_true rfl, Nat.le_of_ble_eq_true rfl⟩) (pM_v hK hP hD (ci := 7) (q0 := 0) rfl rfl rfl) rfl rfl hl.1 rfl (lv_room (Nat.le_of_ble_eq_true rfl)) d_X_laterSymbol_2 ⟨Nat.le_of_ble_eq_true rfl, Nat.le_of_ble_eq_true rfl⟩) hS hA hD (fun rz1 u t H locs hr0 ht hB hFr hS => ?_)
  subst hr0
  obtain ⟨F0z1, F1z1, F2z1, hP, hD⟩ := hB
  have F0z1 : (-2) ≤ rz1.toInt ∧ rz1.toInt ≤ 59 := F0z1
  have F1z1 : rz1.toInt = -2 ∨ (0 ≤ rz1.toInt ∧ rz1.toInt < x0_36.toInt) := F1z1
  have F2z1 : (rz1.toInt = -2 ∧ nsI y11 x0_36.toInt a1 = 0) ∨ (rz1.toInt ≠ -2 ∧ nsI y11 x0_36.toInt a1 = 1) := F2z1
  rw [ht] at hP
  have hD := dwk hD hFr
  clear ht hFr
  have hP : va_P D classes (wS50 cI cJ cZ cB p0 p1 p2 p3 p4 p5 p6 p7 p8 p9 p10 p11 p12 p13 p14 p15 p16 p17 p18 p19 p20 p21 p22 p23 p24 p25 x0_4 x0_5 x0_6 x0_7 x0_8 x0_12 x0_13 x0_14 x0_15 x0_16 x0_17 x0_18 x0_22 x0_23 x0_24 x0_25 x0_26 x0_27 x0_28 x0_29 x0_30 x0_31 x0_32 x0_36 x0_39 x0_40 x0_44 x0_49 x0_51 x0_53 x0_54 x0_55 x0_56 x0_57 x0_58 x0_59 x0_60 x0_61 x0_62 y1 y2 y3 y4 y5 y6 y7 y8 y9 y10 y11 y12 y13 y14 y15 y16 y17 y18 y19 y20 y21 y22 y23 y24 y25) H := hP
  have hD : va_D A (wS50 cI cJ cZ cB p0 p1 p2 p3 p4 p5 p6 p7 p8 p9 p10 p11 p12 p13 p14 p15 p16 p17 p18 p19 p20 p21 p22 p23 p24 p25 x0_4 x0_5 x0_6 x0_7 x0_8 x0_12 x0_13 x0_14 x0_15 x0_16 x0_17 x0_18 x0_22 x0_23 x0_24 x0_25 x0_26 x0_27 x0_28 x0_29 x0_30 x0_31 x0_32 x0_36 x0_39 x0_40 x0_44 x0_49 x0_51 x0_53 x0_54 x0_55 x0_56 x0_57 x0_58 x0_59 x0_60 x0_61 x0_62 y1 y2 y3 y4 y5 y6 y7 y8 y9 y10 y11 y12 y13 y14 y15 y16 y17 y18 y19 y20 y21 y22 y23 y24 y25) := hD
  refine lv_istore_n (lv' := [(3, .int rz1), (0, .ref p0), (1, .long a1)]) hx hb d_X_laterSymbol_5 rfl hl (by decide) rfl (fun ls hl => ?_)
  refine lv_iload_n hx hb d_X_laterSymbol_6 rfl (lv_at hl 0 rfl) ?_
  refine lv_bipush (v := (-2)) hx hb d_X_laterSymbol_7 (by decide) ?_
  refine lv_icmp_ne (tgt := 44) hx hb d_X_laterSymbol_9 (by decide) (fun c2 => ?_) (fun c2 => ?_)
  · have gc2 : rz1.toInt ≠ (-2) := c_ne c2
    have R3 : (-1) ≤ rz1.toInt ∧ rz1.toInt ≤ 59 := by omega
    refine lv_aload_n hx hb d_X_laterSymbol_44 rfl (lv_at hl 1 rfl) ?_
    refine lv_iconst (v := 1) hx hb d_X_laterSymbol_45 (by decide) ?_
    refine va_put (D := D) (ci := 7) (v := .int (1 : Int32)) (ty := .boolean) (C := "SignMachineModel") (T := F_X) (N := 64) hx hb hk fi_X ft_X ft_X_ok fn_X hown hK.1 hP hD hS 0 rfl rfl 59 (by decide) (hk _ k_1180) (fun _ h9 => h9) rfl (by decide +kernel) rfl rfl (Nat.le_of_ble_eq_true rfl) d_X_laterSymbol_46 (fun H locs hP hD hS => ?_)
    have hP : va_P D classes (wS50 cI cJ cZ cB p0 p1 p2 p3 p4 p5 p6 p7 p8 p9 p10 p11 p12 p13 p14 p15 p16 p17 p18 p19 p20 p21 p22 p23 p24 p25 x0_4 x0_5 x0_6 x0_7 x0_8 x0_12 x0_13 x0_14 x0_15 x0_16 x0_17 x0_18 x0_22 x0_23 x0_24 x0_25 x0_26 x0_27 x0_28 x0_29 x0_30 x0_31 x0_32 x0_36 x0_39 x0_40 x0_44 x0_49 x0_51 x0_53 x0_54 x0_55 x0_56 x0_57 x0_58 (1 : Int32) x0_60 x0_61 x0_62 y1 y2 y3 y4 y5 y6 y7 y8 y9 y10 y11 y12 y13 y14 y15 y16 y17 y18 y19 y20 y21 y22 y23 y24 y25) H := hP
    have hD : va_D A (wS50 cI cJ cZ cB p0 p1 p2 p3 p4 p5 p6 p7 p8 p9 p10 p11 p12 p13 p14 p15 p16 p17 p18 p19 p20 p21 p22 p23 p24 p25 x0_4 x0_5 x0_6 x0_7 x0_8 x0_12 x0_13 x0_14 x0_15 x0_16 x0_17 x0_18 x0_22 x0_23 x0_24 x0_25 x0_26 x0_27 x0_28 x0_29 x0_30 x0_31 x0_32 x0_36 x0_39 x0_40 x0_44 x0_49 x0_51 x0_53 x0_54 x0_55 x0_56 x0_57 x0_58 (1 : Int32) x0_60 x0_61 x0_62 y1 y2 y3 y4 y5 y6 y7 y8 y9 y10 y11 y12 y13 y14 y15 y16 y17 y18 y19 y20 y21 y22 y23 y24 y25) := hD
    refine lv_aload_n hx hb d_X_laterSymbol_49 rfl (lv_at hl 1 rfl) ?_
    refine lv_iload_n hx hb d_X_laterSymbol_50 rfl (lv_at hl 0 rfl) ?_
    refine va_put (D := D) (ci := 7) (v := .int rz1) (ty := .int) (C := "SignMachineModel") (T := F_X) (N := 64) hx hb hk fi_X ft_X ft_X_ok fn_X hown hK.1 hP hD hS 0 rfl rfl 60 (by decide) (hk _ k_1181) (fun _ h9 => h9) rfl (by decide +kernel) rfl rfl (Nat.le_of_ble_eq_true rfl) d_X_laterSymbol_51 (fun H locs hP hD hS => ?_)
    have hP : va_P D classes (wS50 cI cJ cZ cB p0 p1 p2 p3 p4 p5 p6 p7 p8 p9 p10 p11 p12 p13 p14 p15 p16 p17 p18 p19 p20 p21 p22 p23 p24 p25 x0_4 x0_5 x0_6 x0_7 x0_8 x0_12 x0_13 x0_14 x0_15 x0_16 x0_17 x0_18 x0_22 x0_23 x0_24 x0_25 x0_26 x0_27 x0_28 x0_29 x0_30 x0_31 x0_32 x0_36 x0_39 x0_40 x0_44 x0_49 x0_51 x0_53 x0_54 x0_55 x0_56 x0_57 x0_58 (1 : Int32) rz1 x0_61 x0_62 y1 y2 y3 y4 y5 y6 y7 y8 y9 y10 y11 y12 y13 y14 y15 y16 y17 y18 y19 y20 y21 y22 y23 y24 y25) H := hP
    have hD : va_D A (wS50 cI cJ cZ cB p0 p1 p2 p3 p4 p5 p6 p7 p8 p9 p10 p11 p12 p13 p14 p15 p16 p17 p18 p19 p20 p21 p22 p23 p24 p25 x0_4 x0_5 x0_6 x0_7 x0_8 x0_12 x0_13 x0_14 x0_15 x0_16 x0_17 x0_18 x0_22 x0_23 x0_24 x0_25 x0_26 x0_27 x0_28 x0_29 x0_30 x0_31 x0_32 x0_36 x0_39 x0_40 x0_44 x0_49 x0_51 x0_53 x0_54 x0_55 x0_56 x0_57 x0_58 (1 : Int32) rz1 x0_61 x0_62 y1 y2 y3 y4 y5 y6 y7 y8 y9 y10 y11 y12 y13 y14 y15 y16 y17 y18 y19 y20 y21 y22 y23 y24 y25) := hD
    exact W.vret hx hb hr (fun t ht hW => ⟨⟨(), rfl, trivial, ⟨x0_26, x0_36, x0_51, (1 : Int32), rz1, y11, y12, y23, Rx0_26, Rx0_36, Rx0_51, (by decide), (rgw R3 (by decide) (by decide)), Ay23, (by omega), (by omega), (by omega), (by omega), by show va_P D classes _ t.heap; rw [ht]; exact hP, hD⟩⟩, hS.F ht⟩) hS.2.2 d_X_laterSymbol_54
  · have gc2 : rz1.toInt = (-2) := c_eq c2
    have R4 : (-2) ≤ rz1.toInt ∧ rz1.toInt ≤ (-2) := by omega
    refine lv_aload_n hx hb d_X_laterSymbol_12 rfl (lv_at hl 1 rfl) ?_
    refine lv_lload_n hx hb d_X_laterSymbol_13 rfl (lv_at hl 2 rfl) ?_
    refine sn_i (va_runV (C := "SignMachineModel") (As := [.long a1]) (rest := []) ⟨hx, hb, hml, hown, hk⟩ (c_X_newSymbol l D cI cJ cZ cB p0 p1 p2 p3 p4 p5 p6 p7 p8 p9 p10 p11 p12 p13 p14 p15 p16 p17 p18 p19 p20 p21 p22 p23 p24 p25 H.size x0_4 x0_5 x0_6 x0_7 x0_8 x0_12 x0_13 x0_14 x0_15 x0_16 x0_17 x0_18 x0_22 x0_23 x0_24 x0_25 x0_26 x0_27 x0_28 x0_29 x0_30 x0_31 x0_32 x0_36 x0_39 x0_40 x0_44 x0_49 x0_51 x0_53 x0_54 x0_55 x0_56 x0_57 x0_58 x0_59 x0_60 x0_61 x0_62 y1 y2 y3 y4 y5 y6 y7 y8 y9 y10 y11 y12 y13 y14 y15 y16 y17 y18 y19 y20 y21 y22 y23 y24 y25 a1 Rx0_26 Rx0_36) (v_X_newSymbol hk k_1630 ⟨Nat.le_of_ble_eq_true rfl, Nat.le_of_ble_eq_true rfl⟩) (pM_v hK hP hD (ci := 7) (q0 := 0) rfl rfl rfl) rfl rfl hl.1 rfl (lv_room (Nat.le_of_ble_eq_true rfl)) d_X_laterSymbol_14 ⟨Nat.le_of_ble_eq_true rfl, Nat.le_of_ble_eq_true rfl⟩) hS hA hD (fun rz5 u t H locs hr0 ht hB hFr hS => ?_)
    subst hr0
    obtain ⟨x0_26z5, x0_36z5, y11z5, y12z5, Rx0_26z5, Rx0_36z5, F0z5, F1z5, hP, hD⟩ := hB
    have F0z5 : (-2) ≤ rz5.toInt ∧ rz5.toInt ≤ 59 := F0z5
    have F1z5 : (rz5.toInt = -2 ∧ x0_36z5.toInt = x0_36.toInt ∧ 1 ≤ x0_26z5.toInt) ∨ (rz5.toInt = x0_36.toInt ∧ x0_36z5.toInt = x0_36.toInt + 1 ∧ x0_26z5.toInt = x0_26.toInt) := F1z5
    rw [ht] at hP
    have hD := dwk hD hFr
    clear ht hFr
    have hP : va_P D classes (wS50 cI cJ cZ cB p0 p1 p2 p3 p4 p5 p6 p7 p8 p9 p10 p11 p12 p13 p14 p15 p16 p17 p18 p19 p20 p21 p22 p23 p24 p25 x0_4 x0_5 x0_6 x0_7 x0_8 x0_12 x0_13 x0_14 x0_15 x0_16 x0_17 x0_18 x0_22 x0_23 x0_24 x0_25 x0_26z5 x0_27 x0_28 x0_29 x0_30 x0_31 x0_32 x0_36z5 x0_39 x0_40 x0_44 x0_49 x0_51 x0_53 x0_54 x0_55 x0_56 x0_57 x0_58 x0_59 x0_60 x0_61 x0_62 y1 y2 y3 y4 y5 y6 y7 y8 y9 y10 y11z5 y12z5 y13 y14 y15 y16 y17 y18 y19 y20 y21 y22 y23 y24 y25) H := hP
    have hD : va_D A (wS50 cI cJ cZ cB p0 p1 p2 p3 p4 p5 p6 p7 p8 p9 p10 p11 p12 p13 p14 p15 p16 p17 p18 p19 p20 p21 p22 p23 p24 p25 x0_4 x0_5 x0_6 x0_7 x0_8 x0_12 x0_13 x0_14 x0_15 x0_16 x0_17 x0_18 x0_22 x0_23 x0_24 x0_25 x0_26z5 x0_27 x0_28 x0_29 x0_30 x0_31 x0_32 x0_36z5 x0_39 x0_40 x0_44 x0_49 x0_51 x0_53 x0_54 x0_55 x0_56 x0_57 x0_58 x0_59 x0_60 x0_61 x0_62 y1 y2 y3 y4 y5 y6 y7 y8 y9 y10 y11z5 y12z5 y13 y14 y15 y16 y17 y18 y19 y20 y21 y22 y23 y24 y25) := hD
    refine lv_istore_n (lv' := [(3, .int rz5), (0, .ref p0), (1, .long a1)]) hx hb d_X_laterSymbol_17 rfl hl (by decide) rfl (fun ls hl => ?_)
    refine lv_iload_n hx hb d_X_laterSymbol_18 rfl (lv_at hl 0 rfl) ?_
    refine lv_bipush (v := (-2)) hx hb d_X_laterSymbol_19 (by decide) ?_
    refine lv_icmp_eq (tgt := 44) hx hb d_X_laterSymbol_21 (by decide) (fun c6 => ?_) (fun c6 => ?_)
    · have gc6 : rz5.toInt = (-2) := c_eq c6
      have R7 : (-2) ≤ rz5.toInt ∧ rz5.toInt ≤ (-2) := by omega
      refine lv_aload_n hx hb d_X_laterSymbol_44 rfl (lv_at hl 1 rfl) ?_
      refine lv_iconst (v := 1) hx hb d_X_laterSymbol_45 (by decide) ?_
      refine va_put (D := D) (ci := 7) (v := .int (1 : Int32)) (ty := .boolean) (C := "SignMachineModel") (T := F_X) (N := 64) hx hb hk fi_X ft_X ft_X_ok fn_X hown hK.1 hP hD hS 0 rfl rfl 59 (by decide) (hk _ k_1180) (fun _ h9 => h9) rfl (by decide +kernel) rfl rfl (Nat.le_of_ble_eq_true rfl) d_X_laterSymbol_46 (fun H locs hP hD hS => ?_)
      have hP : va_P D classes (wS50 cI cJ cZ cB p0 p1 p2 p3 p4 p5 p6 p7 p8 p9 p10 p11 p12 p13 p14 p15 p16 p17 p18 p19 p20 p21 p22 p23 p24 p25 x0_4 x0_5 x0_6 x0_7 x0_8 x0_12 x0_13 x0_14 x0_15 x0_16 x0_17 x0_18 x0_22 x0_23 x0_24 x0_25 x0_26z5 x0_27 x0_28 x0_29 x0_30 x0_31 x0_32 x0_36z5 x0_39 x0_40 x0_44 x0_49 x0_51 x0_53 x0_54 x0_55 x0_56 x0_57 x0_58 (1 : Int32) x0_60 x0_61 x0_62 y1 y2 y3 y4 y5 y6 y7 y8 y9 y10 y11z5 y12z5 y13 y14 y15 y16 y17 y18 y19 y20 y21 y22 y23 y24 y25) H := hP
      have hD : va_D A (wS50 cI cJ cZ cB p0 p1 p2 p3 p4 p5 p6 p7 p8 p9 p10 p11 p12 p13 p14 p15 p16 p17 p18 p19 p20 p21 p22 p23 p24 p25 x0_4 x0_5 x0_6 x0_7 x0_8 x0_12 x0_13 x0_14 x0_15 x0_16 x0_17 x0_18 x0_22 x0_23 x0_24 x0_25 x0_26z5 x0_27 x0_28 x0_29 x0_30 x0_31 x0_32 x0_36z5 x0_39 x0_40 x0_44 x0_49 x0_51 x0_53 x0_54 x0_55 x0_56 x0_57 x0_58 (1 : Int32) x0_60 x0_61 x0_62 y1 y2 y3 y4 y5 y6 y7 y8 y9 y10 y11z5 y12z5 y13 y14 y15 y16 y17 y18 y19 y20 y21 y22 y23 y24 y25) := hD
      refine lv_aload_n hx hb d_X_laterSymbol_49 rfl (lv_at hl 1 rfl) ?_
      refine lv_iload_n hx hb d_X_laterSymbol_50 rfl (lv_at hl 0 rfl) ?_
      refine va_put (D := D) (ci := 7) (v := .int rz5) (ty := .int) (C := "SignMachineModel") (T := F_X) (N := 64) hx hb hk fi_X ft_X ft_X_ok fn_X hown hK.1 hP hD hS 0 rfl rfl 60 (by decide) (hk _ k_1181) (fun _ h9 => h9) rfl (by decide +kernel) rfl rfl (Nat.le_of_ble_eq_true rfl) d_X_laterSymbol_51 (fun H locs hP hD hS => ?_)
      have hP : va_P D classes (wS50 cI cJ cZ cB p0 p1 p2 p3 p4 p5 p6 p7 p8 p9 p10 p11 p12 p13 p14 p15 p16 p17 p18 p19 p20 p21 p22 p23 p24 p25 x0_4 x0_5 x0_6 x0_7 x0_8 x0_12 x0_13 x0_14 x0_15 x0_16 x0_17 x0_18 x0_22 x0_23 x0_24 x0_25 x0_26z5 x0_27 x0_28 x0_29 x0_30 x0_31 x0_32 x0_36z5 x0_39 x0_40 x0_44 x0_49 x0_51 x0_53 x0_54 x0_55 x0_56 x0_57 x0_58 (1 : Int32) rz5 x0_61 x0_62 y1 y2 y3 y4 y5 y6 y7 y8 y9 y10 y11z5 y12z5 y13 y14 y15 y16 y17 y18 y19 y20 y21 y22 y23 y24 y25) H := hP
      have hD : va_D A (wS50 cI cJ cZ cB p0 p1 p2 p3 p4 p5 p6 p7 p8 p9 p10 p11 p12 p13 p14 p15 p16 p17 p18 p19 p20 p21 p22 p23 p24 p25 x0_4 x0_5 x0_6 x0_7 x0_8 x0_12 x0_13 x0_14 x0_15 x0_16 x0_17 x0_18 x0_22 x0_23 x0_24 x0_25 x0_26z5 x0_27 x0_28 x0_29 x0_30 x0_31 x0_32 x0_36z5 x0_39 x0_40 x0_44 x0_49 x0_51 x0_53 x0_54 x0_55 x0_56 x0_57 x0_58 (1 : Int32) rz5 x0_61 x0_62 y1 y2 y3 y4 y5 y6 y7 y8 y9 y10 y11z5 y12z5 y13 y14 y15 y16 y17 y18 y19 y20 y21 y22 y23 y24 y25) := hD
      exact W.vret hx hb hr (fun t ht hW => ⟨⟨(), rfl, trivial, ⟨x0_26z5, x0_36z5, x0_51, (1 : Int32), rz5, y11z5, y12z5, y23, Rx0_26z5, Rx0_36z5, Rx0_51, (by decide), (rgw R7 (by decide) (by decide)), Ay23, (by omega), (by omega), (by omega), (by omega), by show va_P D classes _ t.heap; rw [ht]; exact hP, hD⟩⟩, hS.F ht⟩) hS.2.2 d_X_laterSymbol_54
    · have gc6 : rz5.toInt ≠ (-2) := c_ne c6
      have R8 : (-1) ≤ rz5.toInt ∧ rz5.toInt ≤ 59 := by omega
      refine lv_aload_n hx hb d_X_laterSymbol_24 rfl (lv_at hl 1 rfl) ?_
      refine va_get (D := D) (ci := 7) (v := .ref p23) (C := "SignMachineModel") (T := F_X) (N := 64) hx hb hk fi_X hown hK.1 hP 0 rfl rfl 50 (by decide) (hk _ k_1171) (fun _ h9 => h9) rfl d_X_laterSymbol_25 ?_
      refine lv_aload_n hx hb d_X_laterSymbol_28 rfl (lv_at hl 1 rfl) ?_
      refine va_get (D := D) (ci := 7) (v := .int x0_51) (C := "SignMachineModel") (T := F_X) (N := 64) hx hb hk fi_X hown hK.1 hP 0 rfl rfl 51 (by decide) (hk _ k_1172) (fun _ h9 => h9) rfl d_X_laterSymbol_29 ?_
      refine lv_iload_n hx hb d_X_laterSymbol_32 rfl (lv_at hl 0 rfl) ?_
      refine va_iast hx hb hK.1 hP hD hS 23 0 rfl rfl (by rw [vp_in_iff]; omega) d_X_laterSymbol_33 (fun H locs hP hD hS => ?_)
      have hP : va_P D classes (wS50 cI cJ cZ cB p0 p1 p2 p3 p4 p5 p6 p7 p8 p9 p10 p11 p12 p13 p14 p15 p16 p17 p18 p19 p20 p21 p22 p23 p24 p25 x0_4 x0_5 x0_6 x0_7 x0_8 x0_12 x0_13 x0_14 x0_15 x0_16 x0_17 x0_18 x0_22 x0_23 x0_24 x0_25 x0_26z5 x0_27 x0_28 x0_29 x0_30 x0_31 x0_32 x0_36z5 x0_39 x0_40 x0_44 x0_49 x0_51 x0_53 x0_54 x0_55 x0_56 x0_57 x0_58 x0_59 x0_60 x0_61 x0_62 y1 y2 y3 y4 y5 y6 y7 y8 y9 y10 y11z5 y12z5 y13 y14 y15 y16 y17 y18 y19 y20 y21 y22 (upd y23 (x0_51).toNatClampNeg rz5) y24 y25) H := hP
      have hD : va_D A (wS50 cI cJ cZ cB p0 p1 p2 p3 p4 p5 p6 p7 p8 p9 p10 p11 p12 p13 p14 p15 p16 p17 p18 p19 p20 p21 p22 p23 p24 p25 x0_4 x0_5 x0_6 x0_7 x0_8 x0_12 x0_13 x0_14 x0_15 x0_16 x0_17 x0_18 x0_22 x0_23 x0_24 x0_25 x0_26z5 x0_27 x0_28 x0_29 x0_30 x0_31 x0_32 x0_36z5 x0_39 x0_40 x0_44 x0_49 x0_51 x0_53 x0_54 x0_55 x0_56 x0_57 x0_58 x0_59 x0_60 x0_61 x0_62 y1 y2 y3 y4 y5 y6 y7 y8 y9 y10 y11z5 y12z5 y13 y14 y15 y16 y17 y18 y19 y20 y21 y22 (upd y23 (x0_51).toNatClampNeg rz5) y24 y25) := hD
      obtain ⟨v9, hv9⟩ : ∃ y : Nat → Int32, y = (upd y23 (x0_51).toNatClampNeg rz5) := ⟨_, rfl⟩
      rw [← hv9] at hP hD
      have Gv9 : ((0 ≤ (rz5).toInt ∧ (rz5).toInt ≤ 139) ∧ ((rz5).toInt ≤ 59 ∨ 100 ≤ (rz5).toInt)) := by refine ⟨by omega, ?_⟩; omega
      have Av9 : ∀ i : Nat, ((0 ≤ (v9 i).toInt ∧ (v9 i).toInt ≤ 139) ∧ ((v9 i).toInt ≤ 59 ∨ 100 ≤ (v9 i).toInt)) := by rw [hv9]; exact upd_all (P := fun i x => ((0 ≤ (x).toInt ∧ (x).toInt ≤ 139) ∧ ((x).toInt ≤ 59 ∨ 100 ≤ (x).toInt))) Ay23 Gv9
      clear hv9
      refine lv_aload_n hx hb d_X_laterSymbol_34 rfl (lv_at hl 1 rfl) ?_
      refine lv_dup hx hb d_X_laterSymbol_35 rfl ?_
      refine va_get (D := D) (ci := 7) (v := .int x0_51) (C := "SignMachineModel") (T := F_X) (N := 64) hx hb hk fi_X hown hK.1 hP 0 rfl rfl 51 (by decide) (hk _ k_1172) (fun _ h9 => h9) rfl d_X_laterSymbol_36 ?_
      refine lv_iconst (v := 1) hx hb d_X_laterSymbol_39 (by decide) ?_
      refine lv_iadd hx hb d_X_laterSymbol_40 ?_
      refine lv_topi (fun v10 hv10 => ?_)
      obtain ⟨ev10, Rv10⟩ : v10.toInt = x0_51.toInt + 1 ∧ (1 ≤ v10.toInt ∧ v10.toInt ≤ 111) := ad3 hv10 Rx0_51 (by decide) (by decide) (by decide) (by decide) (by decide)
      refine va_put (D := D) (ci := 7) (v := .int v10) (ty := .int) (C := "SignMachineModel") (T := F_X) (N := 64) hx hb hk fi_X ft_X ft_X_ok fn_X hown hK.1 hP hD hS 0 rfl rfl 51 (by decide) (hk _ k_1172) (fun _ h9 => h9) rfl (by decide +kernel) rfl rfl (Nat.le_of_ble_eq_true rfl) d_X_laterSymbol_41 (fun H locs hP hD hS => ?_)
      have hP : va_P D classes (wS50 cI cJ cZ cB p0 p1 p2 p3 p4 p5 p6 p7 p8 p9 p10 p11 p12 p13 p14 p15 p16 p17 p18 p19 p20 p21 p22 p23 p24 p25 x0_4 x0_5 x0_6 x0_7 x0_8 x0_12 x0_13 x0_14 x0_15 x0_16 x0_17 x0_18 x0_22 x0_23 x0_24 x0_25 x0_26z5 x0_27 x0_28 x0_29 x0_30 x0_31 x0_32 x0_36z5 x0_39 x0_40 x0_44 x0_49 v10 x0_53 x0_54 x0_55 x0_56 x0_57 x0_58 x0_59 x0_60 x0_61 x0_62 y1 y2 y3 y4 y5 y6 y7 y8 y9 y10 y11z5 y12z5 y13 y14 y15 y16 y17 y18 y19 y20 y21 y22 v9 y24 y25) H := hP
      have hD : va_D A (wS50 cI cJ cZ cB p0 p1 p2 p3 p4 p5 p6 p7 p8 p9 p10 p11 p12 p13 p14 p15 p16 p17 p18 p19 p20 p21 p22 p23 p24 p25 x0_4 x0_5 x0_6 x0_7 x0_8 x0_12 x0_13 x0_14 x0_15 x0_16 x0_17 x0_18 x0_22 x0_23 x0_24 x0_25 x0_26z5 x0_27 x0_28 x0_29 x0_30 x0_31 x0_32 x0_36z5 x0_39 x0_40 x0_44 x0_49 v10 x0_53 x0_54 x0_55 x0_56 x0_57 x0_58 x0_59 x0_60 x0_61 x0_62 y1 y2 y3 y4 y5 y6 y7 y8 y9 y10 y11z5 y12z5 y13 y14 y15 y16 y17 y18 y19 y20 y21 y22 v9 y24 y25) := hD
      refine lv_aload_n hx hb d_X_laterSymbol_44 rfl (lv_at hl 1 rfl) ?_
      refine lv_iconst (v := 1) hx hb d_X_laterSymbol_45 (by decide) ?_
      refine va_put (D := D) (ci := 7) (v := .int (1 : Int32)) (ty := .boolean) (C := "SignMachineModel") (T := F_X) (N := 64) hx hb hk fi_X ft_X ft_X_ok fn_X hown hK.1 hP hD hS 0 rfl rfl 59 (by decide) (hk _ k_1180) (fun _ h9 => h9) rfl (by decide +kernel) rfl rfl (Nat.le_of_ble_eq_true rfl) d_X_laterSymbol_46 (fun H locs hP hD hS => ?_)
      have hP : va_P D classes (wS50 cI cJ cZ cB p0 p1 p2 p3 p4 p5 p6 p7 p8 p9 p10 p11 p12 p13 p14 p15 p16 p17 p18 p19 p20 p21 p22 p23 p24 p25 x0_4 x0_5 x0_6 x0_7 x0_8 x0_12 x0_13 x0_14 x0_15 x0_16 x0_17 x0_18 x0_22 x0_23 x0_24 x0_25 x0_26z5 x0_27 x0_28 x0_29 x0_30 x0_31 x0_32 x0_36z5 x0_39 x0_40 x0_44 x0_49 v10 x0_53 x0_54 x0_55 x0_56 x0_57 x0_58 (1 : Int32) x0_60 x0_61 x0_62 y1 y2 y3 y4 y5 y6 y7 y8 y9 y10 y11z5 y12z5 y13 y14 y15 y16 y17 y18 y19 y20 y21 y22 v9 y24 y25) H := hP
      have hD : va_D A (wS50 cI cJ cZ cB p0 p1 p2 p3 p4 p5 p6 p7 p8 p9 p10 p11 p12 p13 p14 p15 p16 p17 p18 p19 p20 p21 p22 p23 p24 p25 x0_4 x0_5 x0_6 x0_7 x0_8 x0_12 x0_13 x0_14 x0_15 x0_16 x0_17 x0_18 x0_22 x0_23 x0_24 x0_25 x0_26z5 x0_27 x0_28 x0_29 x0_30 x0_31 x0_32 x0_36z5 x0_39 x0_40 x0_44 x0_49 v10 x0_53 x0_54 x0_55 x0_56 x0_57 x0_58 (1 : Int32) x0_60 x0_61 x0_62 y1 y2 y3 y4 y5 y6 y7 y8 y9 y10 y11z5 y12z5 y13 y14 y15 y16 y17 y18 y19 y20 y21 y22 v9 y24 y25) := hD
      refine lv_aload_n hx hb d_X_laterSymbol_49 rfl (lv_at hl 1 rfl) ?_
      refine lv_iload_n hx hb d_X_laterSymbol_50 rfl (lv_at hl 0 rfl) ?_
      refine va_put (D := D) (ci := 7) (v := .int rz5) (ty := .int) (C := "SignMachineModel") (T := F_X) (N := 64) hx hb hk fi_X ft_X ft_X_ok fn_X hown hK.1 hP hD hS 0 rfl rfl 60 (by decide) (hk _ k_1181) (fun _ h9 => h9) rfl (by decide +kernel) rfl rfl (Nat.le_of_ble_eq_true rfl) d_X_laterSymbol_51 (fun H locs hP hD hS => ?_)
      have hP : va_P D classes (wS50 cI cJ cZ cB p0 p1 p2 p3 p4 p5 p6 p7 p8 p9 p10 p11 p12 p13 p14 p15 p16 p17 p18 p19 p20 p21 p22 p23 p24 p25 x0_4 x0_5 x0_6 x0_7 x0_8 x0_12 x0_13 x0_14 x0_15 x0_16 x0_17 x0_18 x0_22 x0_23 x0_24 x0_25 x0_26z5 x0_27 x0_28 x0_29 x0_30 x0_31 x0_32 x0_36z5 x0_39 x0_40 x0_44 x0_49 v10 x0_53 x0_54 x0_55 x0_56 x0_57 x0_58 (1 : Int32) rz5 x0_61 x0_62 y1 y2 y3 y4 y5 y6 y7 y8 y9 y10 y11z5 y12z5 y13 y14 y15 y16 y17 y18 y19 y20 y21 y22 v9 y24 y25) H := hP
      have hD : va_D A (wS50 cI cJ cZ cB p0 p1 p2 p3 p4 p5 p6 p7 p8 p9 p10 p11 p12 p13 p14 p15 p16 p17 p18 p19 p20 p21 p22 p23 p24 p25 x0_4 x0_5 x0_6 x0_7 x0_8 x0_12 x0_13 x0_14 x0_15 x0_16 x0_17 x0_18 x0_22 x0_23 x0_24 x0_25 x0_26z5 x0_27 x0_28 x0_29 x0_30 x0_31 x0_32 x0_36z5 x0_39 x0_40 x0_44 x0_49 v10 x0_53 x0_54 x0_55 x0_56 x0_57 x0_58 (1 : Int32) rz5 x0_61 x0_62 y1 y2 y3 y4 y5 y6 y7 y8 y9 y10 y11z5 y12z5 y13 y14 y15 y16 y17 y18 y19 y20 y21 y22 v9 y24 y25) := hD
      exact W.vret hx hb hr (fun t ht hW => ⟨⟨(), rfl, trivial, ⟨x0_26z5, x0_36z5, v10, (1 : Int32), rz5, y11z5, y12z5, v9, Rx0_26z5, Rx0_36z5, (by omega), (by decide), (rgw R8 (by decide) (by decide)), Av9, (by omega), (by omega), (by omega), (by omega), by show va_P D classes _ t.heap; rw [ht]; exact hP, hD⟩⟩, hS.F ht⟩) hS.2.2 d_X_laterSymbol_54
theorem v_X_laterSymbol {R : Room} {s : State} {args : Array Value} {own : String} {index : Nat} (hk : ∀ w ∈ tb, w.before args s = true) (hl : Cond.methodLink own index y_X_laterSymbol ∈ tb) (hR : 2 + 1 ≤ R.frames ∧ 8 + (4 + 11) + 43 ≤ R.locals) : CallW R s args own "SignMachineModel" index y_X_laterSymbol b_X_laterSymbol 4 none (.code y_X_laterSymbol b_X_laterSymbol 4 none :: tb) ({ frames := 2, cells := 0, slots := 0, locals := 43 }) 0 0 1 := mk_v 1 hk k_1702 hl k_1701 k_113 k_119 rfl rfl h_X_laterSymbol hR
set_option maxHeartbeats 8000000 in
set_option maxRecDepth 100000 in
theorem c_X_isAlone (l : Launch) (D : va_G) (cI cJ cZ cB : ClassId) (p0 p1 p2 p3 p4 p5 p6 p7 p8 p9 p10 p11 p12 p13 p14 p15 p16 p17 p18 p19 p20 p21 p22 p23 p24 p25 : Nat) (sz : Nat) (x0_4 : Int32) (x0_5 : Int32) (x0_6 : Int32) (x0_7 : Int32) (x0_8 : Int32) (x0_12 : Int32) (x0_13 : Int32) (x0_14 : Int32) (x0_15 : Int32) (x0_16 : Int32) (x0_17 : Int32) (x0_18 : Int32) (x0_22 : Int32) (x0_23 : Int32) (x0_24 : Int32) (x0_25 : Int32) (x0_26 : Int32) (x0_27 : Int32) (x0_28 : Int32) (x0_29 : Int32) (x0_30 : Int32) (x0_31 : Int32) (x0_32 : Int32) (x0_36 : Int32) (x0_39 : Int32) (x0_40 : Int64) (x0_44 : Int32) (x0_49 : Int32) (x0_51 : Int32) (x0_53 : Int32) (x0_54 : Int32) (x0_55 : Int64) (x0_56 : Int32) (x0_57 : Int32) (x0_58 : Int32) (x0_59 : Int32) (x0_60 : Int32) (x0_61 : Int32) (x0_62 : Int64) (y1 : Nat → Int32) (y2 : Nat → Int32) (y3 : Nat → Int32) (y4 : Nat → Int32) (y5 : Nat → Int32) (y6 : Nat → Int32) (y7 : Nat → Int32) (y8 : Nat → Int32) (y9 : Nat → Int32) (y10 : Nat → Int32) (y11 : Nat → Int64) (y12 : Nat → Int32) (y13 : Nat → Int64) (y14 : Nat → Int32) (y15 : Nat → Int64) (y16 : Nat → Int32) (y17 : Nat → Int32) (y18 : Nat → Int32) (y19 : Nat → Int32) (y20 : Nat → Int32) (y21 : Nat → Int32) (y22 : Nat → Int32) (y23 : Nat → Int32) (y24 : Nat → Int64) (y25 : Nat → Int64)  (Rx0_24 : 0 ≤ x0_24.toInt ∧ x0_24.toInt ≤ 4000) (Rx0_25 : 0 ≤ x0_25.toInt ∧ x0_25.toInt ≤ 4000) : Met l y_X_isAlone (.code y_X_isAlone b_X_isAlone 2 (some .boolean) :: tb) ({ frames := 1, cells := 0, slots := 0, locals := 20 }) (pM D cI cJ cZ cB (wS50 cI cJ cZ cB p0 p1 p2 p3 p4 p5 p6 p7 p8 p9 p10 p11 p12 p13 p14 p15 p16 p17 p18 p19 p20 p21 p22 p23 p24 p25 x0_4 x0_5 x0_6 x0_7 x0_8 x0_12 x0_13 x0_14 x0_15 x0_16 x0_17 x0_18 x0_22 x0_23 x0_24 x0_25 x0_26 x0_27 x0_28 x0_29 x0_30 x0_31 x0_32 x0_36 x0_39 x0_40 x0_44 x0_49 x0_51 x0_53 x0_54 x0_55 x0_56 x0_57 x0_58 x0_59 x0_60 x0_61 x0_62 y1 y2 y3 y4 y5 y6 y7 y8 y9 y10 y11 y12 y13 y14 y15 y16 y17 y18 y19 y20 y21 y22 y23 y24 y25) sz [.ref p0]) (va_Qi (fun r (u : Int32) => r = u) (fun ur t => (0 ≤ ur.toInt ∧ ur.toInt ≤ 1) ∧ va_P D classes (wS50 cI cJ cZ cB p0 p1 p2 p3 p4 p5 p6 p7 p8 p9 p10 p11 p12 p13 p14 p15 p16 p17 p18 p19 p20 p21 p22 p23 p24 p25 x0_4 x0_5 x0_6 x0_7 x0_8 x0_12 x0_13 x0_14 x0_15 x0_16 x0_17 x0_18 x0_22 x0_23 x0_24 x0_25 x0_26 x0_27 x0_28 x0_29 x0_30 x0_31 x0_32 x0_36 x0_39 x0_40 x0_44 x0_49 x0_51 x0_53 x0_54 x0_55 x0_56 x0_57 x0_58 x0_59 x0_60 x0_61 x0_62 y1 y2 y3 y4 y5 y6 y7 y8 y9 y10 y11 y12 y13 y14 y15 y16 y17 y18 y19 y20 y21 y22 y23 y24 y25) t.heap ∧ va_D (va_A (wS50 cI cJ cZ cB p0 p1 p2 p3 p4 p5 p6 p7 p8 p9 p10 p11 p12 p13 p14 p15 p16 p17 p18 p19 p20 p21 p22 p23 p24 p25 x0_4 x0_5 x0_6 x0_7 x0_8 x0_12 x0_13 x0_14 x0_15 x0_16 x0_17 x0_18 x0_22 x0_23 x0_24 x0_25 x0_26 x0_27 x0_28 x0_29 x0_30 x0_31 x0_32 x0_36 x0_39 x0_40 x0_44 x0_49 x0_51 x0_53 x0_54 x0_55 x0_56 x0_57 x0_58 x0_59 x0_60 x0_61 x0_62 y1 y2 y3 y4 y5 y6 y7 y8 y9 y10 y11 y12 y13 y14 y15 y16 y17 y18 y19 y20 y21 y22 y23 y24 y25) sz) (wS50 cI cJ cZ cB p0 p1 p2 p3 p4 p5 p6 p7 p8 p9 p10 p11 p12 p13 p14 p15 p16 p17 p18 p19 p20 p21 p22 p23 p24 p25 x0_4 x0_5 x0_6 x0_7 x0_8 x0_12 x0_13 x0_14 x0_15 x0_16 x0_17 x0_18 x0_22 x0_23 x0_24 x0_25 x0_26 x0_27 x0_28 x0_29 x0_30 x0_31 x0_32 x0_36 x0_39 x0_40 x0_44 x0_49 x0_51 x0_53 x0_54 x0_55 x0_56 x0_57 x0_58 x0_59 x0_60 x0_61 x0_62 y1 y2 y3 y4 y5 y6 y7 y8 y9 y10 y11 y12 y13 y14 y15 y16 y17 y18 y19 y20 y21 y22 y23 y24 y25)) (va_A (wS50 cI cJ cZ cB p0 p1 p2 p3 p4 p5 p6 p7 p8 p9 p10 p11 p12 p13 p14 p15 p16 p17 p18 p19 p20 p21 p22 p23 p24 p25 x0_4 x0_5 x0_6 x0_7 x0_8 x0_12 x0_13 x0_14 x0_15 x0_16 x0_17 x0_18 x0_22 x0_23 x0_24 x0_25 x0_26 x0_27 x0_28 x0_29 x0_30 x0_31 x0_32 x0_36 x0_39 x0_40 x0_44 x0_49 x0_51 x0_53 x0_54 x0_55 x0_56 x0_57 x0_58 x0_59 x0_60 x0_61 x0_62 y1 y2 y3 y4 y5 y6 y7 y8 y9 y10 y11 y12 y13 y14 y15 y16 y17 y18 y19 y20 y21 y22 y23 y24 y25) sz)) 0 0 (va_A (wS50 cI cJ cZ cB p0 p1 p2 p3 p4 p5 p6 p7 p8 p9 p10 p11 p12 p13 p14 p15 p16 p17 p18 p19 p20 p21 p22 p23 p24 p25 x0_4 x0_5 x0_6 x0_7 x0_8 x0_12 x0_13 x0_14 x0_15 x0_16 x0_17 x0_18 x0_22 x0_23 x0_24 x0_25 x0_26 x0_27 x0_28 x0_29 x0_30 x0_31 x0_32 x0_36 x0_39 x0_40 x0_44 x0_49 x0_51 x0_53 x0_54 x0_55 x0_56 x0_57 x0_58 x0_59 x0_60 x0_61 x0_62 y1 y2 y3 y4 y5 y6 y7 y8 y9 y10 y11 y12 y13 y14 y15 y16 y17 y18 y19 y20 y21 y22 y23 y24 y25) sz) := by
  refine Met.ofW (cc := b_X_isAlone) (maxL := 2) (ret := (some .boolean)) (by decide) rfl ?_
  intro p e s m args below meth c s₁ B hml hv
  obtain ⟨rfl, hsz, hK, hP, hD0⟩ := hv
  subst hsz
  have hD := hD0.self (sz := s.heap.size)
  generalize hAe : va_A (wS50 cI cJ cZ cB p0 p1 p2 p3 p4 p5 p6 p7 p8 p9 p10 p11 p12 p13 p14 p15 p16 p17 p18 p19 p20 p21 p22 p23 p24 p25 x0_4 x0_5 x0_6 x0_7 x0_8 x0_12 x0_13 x0_14 x0_15 x0_16 x0_17 x0_18 x0_22 x0_23 x0_24 x0_25 x0_26 x0_27 x0_28 x0_29 x0_30 x0_31 x0_32 x0_36 x0_39 x0_40 x0_44 x0_49 x0_51 x0_53 x0_54 x0_55 x0_56 x0_57 x0_58 x0_59 x0_60 x0_61 x0_62 y1 y2 y3 y4 y5 y6 y7 y8 y9 y10 y11 y12 y13 y14 y15 y16 y17 y18 y19 y20 y21 y22 y23 y24 y25) s.heap.size = A at hD ⊢
  have hA : ∀ q : Nat, s.heap.size ≤ q → A q := fun q h => by rw [← hAe]; exact Or.inr h
  clear hAe hD0
  have hS : va_S A s.heap s.heap [] := va_S.rf
  have hx := B.exec
  have hb := B.bytes
  have hr := B.returns
  have hts := atoms_spec (ws := .code y_X_isAlone b_X_isAlone 2 (some .boolean) :: tb) B.pre
  have hk : ∀ w ∈ tb, w.before [.ref p0].toArray s = true := fun w h => hts w (List.mem_cons_of_mem _ h)
  have hown : s.vm.findClass "SignMachineModel" = some m.cls := findClass_of_methodNamed B.named
  have hlocks := B.notSynchronized
  have hl := lv_entry ([.ref p0]) (n := 2) (Nat.le_of_ble_eq_true rfl)
  rw [lg_entry_eq]
  generalize (lg_sl ([.ref p0]) ++ List.replicate (2 - (lg_sl ([.ref p0])).length) Slot.unset).toArray = ls at hl ⊢
  have hl : lv_has ls 2 [(0, .ref p0)] := hl
  clear hts B
  refine lv_aload_n hx hb d_X_isAlone_0 rfl (lv_at hl 0 rfl) ?_
  refine sn_i (va_runV (C := "SignMachineModel") (As := []) (rest := []) ⟨hx, hb, hml, hown, hk⟩ (c_X_here l D cI cJ cZ cB p0 p1 p2 p3 p4 p5 p6 p7 p8 p9 p10 p11 p12 p13 p14 p15 p16 p17 p18 p19 p20 p21 p22 p23 p24 p25 s.heap.size x0_4 x0_5 x0_6 x0_7 x0_8 x0_12 x0_13 x0_14 x0_15 x0_16 x0_17 x0_18 x0_22 x0_23 x0_24 x0_25 x0_26 x0_27 x0_28 x0_29 x0_30 x0_31 x0_32 x0_36 x0_39 x0_40 x0_44 x0_49 x0_51 x0_53 x0_54 x0_55 x0_56 x0_57 x0_58 x0_59 x0_60 x0_61 x0_62 y1 y2 y3 y4 y5 y6 y7 y8 y9 y10 y11 y12 y13 y14 y15 y16 y17 y18 y19 y20 y21 y22 y23 y24 y25  Rx0_24 Rx0_25) (v_X_here hk k_1537 ⟨Nat.le_of_ble_eq_true rfl, Nat.le_of_ble_eq_true rfl⟩) (pM_v hK hP hD (ci := 7) (q0 := 0) rfl rfl rfl) rfl rfl hl.1 rfl (lv_room (Nat.le_of_ble_eq_true rfl)) d_X_isAlone_1 ⟨Nat.le_of_ble_eq_true rfl, Nat.le_of_ble_eq_true rfl⟩) hS hA hD (fun rz1 u t H locs hr0 ht hB hFr hS => ?_)
  subst hr0
  obtain ⟨F0z1, hP, hD⟩ := hB
  have F0z1 : (x0_25.toInt < x0_24.toInt ∧ rz1.toInt = (y10 (x0_25).toNatClampNeg).toInt) ∨ (x0_24.toInt ≤ x0_25.toInt ∧ rz1.toInt = -1) := F0z1
  rw [ht] at hP
  have hD := dwk hD hFr
  clear ht hFr
  have hP : va_P D classes (wS50 cI cJ cZ cB p0 p1 p2 p3 p4 p5 p6 p7 p8 p9 p10 p11 p12 p13 p14 p15 p16 p17 p18 p19 p20 p21 p22 p23 p24 p25 x0_4 x0_5 x0_6 x0_7 x0_8 x0_12 x0_13 x0_14 x0_15 x0_16 x0_17 x0_18 x0_22 x0_23 x0_24 x0_25 x0_26 x0_27 x0_28 x0_29 x0_30 x0_31 x0_32 x0_36 x0_39 x0_40 x0_44 x0_49 x0_51 x0_53 x0_54 x0_55 x0_56 x0_57 x0_58 x0_59 x0_60 x0_61 x0_62 y1 y2 y3 y4 y5 y6 y7 y8 y9 y10 y11 y12 y13 y14 y15 y16 y17 y18 y19 y20 y21 y22 y23 y24 y25) H := hP
  have hD : va_D A (wS50 cI cJ cZ cB p0 p1 p2 p3 p4 p5 p6 p7 p8 p9 p10 p11 p12 p13 p14 p15 p16 p17 p18 p19 p20 p21 p22 p23 p24 p25 x0_4 x0_5 x0_6 x0_7 x0_8 x0_12 x0_13 x0_14 x0_15 x0_16 x0_17 x0_18 x0_22 x0_23 x0_24 x0_25 x0_26 x0_27 x0_28 x0_29 x0_30 x0_31 x0_32 x0_36 x0_39 x0_40 x0_44 x0_49 x0_51 x0_53 x0_54 x0_55 x0_56 x0_57 x0_58 x0_59 x0_60 x0_61 x0_62 y1 y2 y3 y4 y5 y6 y7 y8 y9 y10 y11 y12 y13 y14 y15 y16 y17 y18 y19 y20 y21 y22 y23 y24 y25) := hD
  refine lv_istore_n (lv' := [(1, .int rz1), (0, .ref p0)]) hx hb d_X_isAlone_4 rfl hl (by decide) rfl (fun ls hl => ?_)
  refine lv_iload_n hx hb d_X_isAlone_5 rfl (lv_at hl 0 rfl) ?_
  refine lv_iconst (v := (-1)) hx hb d_X_isAlone_6 (by decide) ?_
  refine lv_icmp_eq (tgt := 28) hx hb d_X_isAlone_7 (by decide) (fun c2 => ?_) (fun c2 => ?_)
  · have gc2 : rz1.toInt = (-1) := c_eq c2
    have R3 : (-1) ≤ rz1.toInt ∧ rz1.toInt ≤ (-1) := by omega
    refine lv_iconst (v := 1) hx hb d_X_isAlone_28 (by decide) ?_
    refine lv_goto (tgt := 33) hx hb d_X_isAlone_29 (by decide) ?_
    exact W.zret (v := (1 : Int32)) hx hb hr (nar01 (by decide)) (fun t ht hW => ⟨⟨(1 : Int32), (1 : Int32), rfl, rfl, ⟨(by decide), by show va_P D classes _ t.heap; rw [ht]; exact hP, hD⟩⟩, hS.F ht⟩) hS.2.2 d_X_isAlone_33
  · have gc2 : rz1.toInt ≠ (-1) := c_ne c2
    refine lv_iload_n hx hb d_X_isAlone_10 rfl (lv_at hl 0 rfl) ?_
    refine lv_bipush (v := 32) hx hb d_X_isAlone_11 (by decide) ?_
    refine lv_icmp_eq (tgt := 28) hx hb d_X_isAlone_13 (by decide) (fun c4 => ?_) (fun c4 => ?_)
    · have gc4 : rz1.toInt = 32 := c_eq c4
      have R5 : 32 ≤ rz1.toInt ∧ rz1.toInt ≤ 32 := by omega
      refine lv_iconst (v := 1) hx hb d_X_isAlone_28 (by decide) ?_
      refine lv_goto (tgt := 33) hx hb d_X_isAlone_29 (by decide) ?_
      exact W.zret (v := (1 : Int32)) hx hb hr (nar01 (by decide)) (fun t ht hW => ⟨⟨(1 : Int32), (1 : Int32), rfl, rfl, ⟨(by decide), by show va_P D classes _ t.heap; rw [ht]; exact hP, hD⟩⟩, hS.F ht⟩) hS.2.2 d_X_isAlone_33
    · have gc4 : rz1.toInt ≠ 32 := c_ne c4
      refine lv_iload_n hx hb d_X_isAlone_16 rfl (lv_at hl 0 rfl) ?_
      refine lv_bipush (v := 44) hx hb d_X_isAlone_17 (by decide) ?_
      refine lv_icmp_eq (tgt := 28) hx hb d_X_isAlone_19 (by decide) (fun c6 => ?_) (fun c6 => ?_)
      · have gc6 : rz1.toInt = 44 := c_eq c6
        have R7 : 44 ≤ rz1.toInt ∧ rz1.toInt ≤ 44 := by omega
        refine lv_iconst (v := 1) hx hb d_X_isAlone_28 (by decide) ?_
        refine lv_goto (tgt := 33) hx hb d_X_isAlone_29 (by decide) ?_
        exact W.zret (v := (1 : Int32)) hx hb hr (nar01 (by decide)) (fun t ht hW => ⟨⟨(1 : Int32), (1 : Int32), rfl, rfl, ⟨(by decide), by show va_P D classes _ t.heap; rw [ht]; exact hP, hD⟩⟩, hS.F ht⟩) hS.2.2 d_X_isAlone_33
      · have gc6 : rz1.toInt ≠ 44 := c_ne c6
        refine lv_iload_n hx hb d_X_isAlone_22 rfl (lv_at hl 0 rfl) ?_
        refine lv_bipush (v := 40) hx hb d_X_isAlone_23 (by decide) ?_
        refine lv_icmp_ne (tgt := 32) hx hb d_X_isAlone_25 (by decide) (fun c8 => ?_) (fun c8 => ?_)
        · have gc8 : rz1.toInt ≠ 40 := c_ne c8
          refine lv_iconst (v := 0) hx hb d_X_isAlone_32 (by decide) ?_
          exact W.zret (v := (0 : Int32)) hx hb hr (nar01 (by decide)) (fun t ht hW => ⟨⟨(0 : Int32), (0 : Int32), rfl, rfl, ⟨(by decide), by show va_P D classes _ t.heap; rw [ht]; exact hP, hD⟩⟩, hS.F ht⟩) hS.2.2 d_X_isAlone_33
        · have gc8 : rz1.toInt = 40 := c_eq c8
          have R9 : 40 ≤ rz1.toInt ∧ rz1.toInt ≤ 40 := by omega
          refine lv_iconst (v := 1) hx hb d_X_isAlone_28 (by decide) ?_
          refine lv_goto (tgt := 33) hx hb d_X_isAlone_29 (by decide) ?_
          exact W.zret (v := (1 : Int32)) hx hb hr (nar01 (by decide)) (fun t ht hW => ⟨⟨(1 : Int32), (1 : Int32), rfl, rfl, ⟨(by decide), by show va_P D classes _ t.heap; rw [ht]; exact hP, hD⟩⟩, hS.F ht⟩) hS.2.2 d_X_isAlone_33
theorem v_X_isAlone {R : Room} {s : State} {args : Array Value} {own : String} {index : Nat} (hk : ∀ w ∈ tb, w.before args s = true) (hl : Cond.methodLink own index y_X_isAlone ∈ tb) (hR : 1 + 1 ≤ R.frames ∧ 8 + (2 + 11) + 20 ≤ R.locals) : CallW R s args own "SignMachineModel" index y_X_isAlone b_X_isAlone 2 (some .boolean) (.code y_X_isAlone b_X_isAlone 2 (some .boolean) :: tb) ({ frames := 1, cells := 0, slots := 0, locals := 20 }) 0 0 0 := mk_v 0 hk k_1698 hl k_1697 k_112 k_119 rfl rfl h_X_isAlone hR
set_option maxHeartbeats 8000000 in
set_option maxRecDepth 100000 in
theorem c_X_addressPart (l : Launch) (D : va_G) (cI cJ cZ cB : ClassId) (p0 p1 p2 p3 p4 p5 p6 p7 p8 p9 p10 p11 p12 p13 p14 p15 p16 p17 p18 p19 p20 p21 p22 p23 p24 p25 : Nat) (sz : Nat) (x0_4 : Int32) (x0_5 : Int32) (x0_6 : Int32) (x0_7 : Int32) (x0_8 : Int32) (x0_12 : Int32) (x0_13 : Int32) (x0_14 : Int32) (x0_15 : Int32) (x0_16 : Int32) (x0_17 : Int32) (x0_18 : Int32) (x0_22 : Int32) (x0_23 : Int32) (x0_24 : Int32) (x0_25 : Int32) (x0_26 : Int32) (x0_27 : Int32) (x0_28 : Int32) (x0_29 : Int32) (x0_30 : Int32) (x0_31 : Int32) (x0_32 : Int32) (x0_36 : Int32) (x0_39 : Int32) (x0_40 : Int64) (x0_44 : Int32) (x0_49 : Int32) (x0_51 : Int32) (x0_53 : Int32) (x0_54 : Int32) (x0_55 : Int64) (x0_56 : Int32) (x0_57 : Int32) (x0_58 : Int32) (x0_59 : Int32) (x0_60 : Int32) (x0_61 : Int32) (x0_62 : Int64) (y1 : Nat → Int32) (y2 : Nat → Int32) (y3 : Nat → Int32) (y4 : Nat → Int32) (y5 : Nat → Int32) (y6 : Nat → Int32) (y7 : Nat → Int32) (y8 : Nat → Int32) (y9 : Nat → Int32) (y10 : Nat → Int32) (y11 : Nat → Int64) (y12 : Nat → Int32) (y13 : Nat → Int64) (y14 : Nat → Int32) (y15 : Nat → Int64) (y16 : Nat → Int32) (y17 : Nat → Int32) (y18 : Nat → Int32) (y19 : Nat → Int32) (y20 : Nat → Int32) (y21 : Nat → Int32) (y22 : Nat → Int32) (y23 : Nat → Int32) (y24 : Nat → Int64) (y25 : Nat → Int64)  (Rx0_24 : 0 ≤ x0_24.toInt ∧ x0_24.toInt ≤ 4000) (Rx0_25 : 0 ≤ x0_25.toInt ∧ x0_25.toInt ≤ 4000) (Rx0_26 : 0 ≤ x0_26.toInt ∧ x0_26.toInt ≤ 6) (Rx0_30 : (-1073741823) ≤ x0_30.toInt ∧ x0_30.toInt ≤ 1073741823) (Rx0_36 : 0 ≤ x0_36.toInt ∧ x0_36.toInt ≤ 60) (Rx0_51 : 0 ≤ x0_51.toInt ∧ x0_51.toInt ≤ 110) (Rx0_53 : 0 ≤ x0_53.toInt ∧ x0_53.toInt ≤ 40) (Rx0_54 : 0 ≤ x0_54.toInt ∧ x0_54.toInt ≤ 3) (Rx0_57 : 0 ≤ x0_57.toInt ∧ x0_57.toInt ≤ 1) (Rx0_58 : 0 ≤ x0_58.toInt ∧ x0_58.toInt ≤ 1073741823) (Rx0_59 : 0 ≤ x0_59.toInt ∧ x0_59.toInt ≤ 1) (Rx0_60 : (-10) ≤ x0_60.toInt ∧ x0_60.toInt ≤ 139) (Ay13 : ∀ i : Nat, (-1073741823 ≤ (y13 i).toInt ∧ (y13 i).toInt ≤ 1073741823)) (Ay15 : ∀ i : Nat, (-1073741823 ≤ (y15 i).toInt ∧ (y15 i).toInt ≤ 1073741823)) (Ay23 : ∀ i : Nat, ((0 ≤ (y23 i).toInt ∧ (y23 i).toInt ≤ 139) ∧ ((y23 i).toInt ≤ 59 ∨ 100 ≤ (y23 i).toInt))) (Ay24 : ∀ i : Nat, (-1073741824 ≤ (y24 i).toInt ∧ (y24 i).toInt ≤ 1073741823)) (Q0 : x0_25.toInt ≤ x0_24.toInt) (Q1 : x0_51.toInt ≤ x0_36.toInt + x0_53.toInt) (Q2 : x0_59.toInt = 0) : Met l y_X_addressPart (.code y_X_addressPart b_X_addressPart 5 (some .long) :: tb) ({ frames := 6, cells := 0, slots := 0, locals := 146 }) (pM D cI cJ cZ cB (wS50 cI cJ cZ cB p0 p1 p2 p3 p4 p5 p6 p7 p8 p9 p10 p11 p12 p13 p14 p15 p16 p17 p18 p19 p20 p21 p22 p23 p24 p25 x0_4 x0_5 x0_6 x0_7 x0_8 x0_12 x0_13 x0_14 x0_15 x0_16 x0_17 x0_18 x0_22 x0_23 x0_24 x0_25 x0_26 x0_27 x0_28 x0_29 x0_30 x0_31 x0_32 x0_36 x0_39 x0_40 x0_44 x0_49 x0_51 x0_53 x0_54 x0_55 x0_56 x0_57 x0_58 x0_59 x0_60 x0_61 x0_62 y1 y2 y3 y4 y5 y6 y7 y8 y9 y10 y11 y12 y13 y14 y15 y16 y17 y18 y19 y20 y21 y22 y23 y24 y25) sz [.ref p0]) (va_Ql (fun r (u : Int64) => r = u) (fun ur t => ∃ u_x0_25 : Int32, ∃ u_x0_26 : Int32, ∃ u_x0_36 : Int32, ∃ u_x0_51 : Int32, ∃ u_x0_53 : Int32, ∃ u_x0_54 : Int32, ∃ u_x0_55 : Int64, ∃ u_x0_56 : Int32, ∃ u_x0_57 : Int32, ∃ u_x0_58 : Int32, ∃ u_x0_59 : Int32, ∃ u_x0_60 : Int32, ∃ u_y11 : Nat → Int64, ∃ u_y12 : Nat → Int32, ∃ u_y23 : Nat → Int32, ∃ u_y24 : Nat → Int64, (0 ≤ u_x0_25.toInt ∧ u_x0_25.toInt ≤ 4000) ∧ (0 ≤ u_x0_26.toInt ∧ u_x0_26.toInt ≤ 6) ∧ (0 ≤ u_x0_36.toInt ∧ u_x0_36.toInt ≤ 60) ∧ (0 ≤ u_x0_51.toInt ∧ u_x0_51.toInt ≤ 110) ∧ (0 ≤ u_x0_53.toInt ∧ u_x0_53.toInt ≤ 40) ∧ (0 ≤ u_x0_54.toInt ∧ u_x0_54.toInt ≤ 3) ∧ (0 ≤ u_x0_57.toInt ∧ u_x0_57.toInt ≤ 1) ∧ (0 ≤ u_x0_58.toInt ∧ u_x0_58.toInt ≤ 1073741823) ∧ (0 ≤ u_x0_59.toInt ∧ u_x0_59.toInt ≤ 1) ∧ ((-10) ≤ u_x0_60.toInt ∧ u_x0_60.toInt ≤ 139) ∧ (∀ i : Nat, ((0 ≤ (u_y23 i).toInt ∧ (u_y23 i).toInt ≤ 139) ∧ ((u_y23 i).toInt ≤ 59 ∨ 100 ≤ (u_y23 i).toInt))) ∧ (∀ i : Nat, (-1073741824 ≤ (u_y24 i).toInt ∧ (u_y24 i).toInt ≤ 1073741823)) ∧ ((-1073741823) ≤ ur.toInt ∧ ur.toInt ≤ 1073741823) ∧ (x0_25.toInt ≤ u_x0_25.toInt ∧ u_x0_25.toInt ≤ x0_24.toInt) ∧ (1 ≤ x0_26.toInt → 1 ≤ u_x0_26.toInt) ∧ (u_x0_51.toInt ≤ u_x0_36.toInt + u_x0_53.toInt) ∧ (u_x0_59.toInt = 1 → (ur.toInt = 0 ∧ (u_x0_60.toInt ≤ 59 ∨ 100 ≤ u_x0_60.toInt))) ∧ va_P D classes (wS50 cI cJ cZ cB p0 p1 p2 p3 p4 p5 p6 p7 p8 p9 p10 p11 p12 p13 p14 p15 p16 p17 p18 p19 p20 p21 p22 p23 p24 p25 x0_4 x0_5 x0_6 x0_7 x0_8 x0_12 x0_13 x0_14 x0_15 x0_16 x0_17 x0_18 x0_22 x0_23 x0_24 u_x0_25 u_x0_26 x0_27 x0_28 x0_29 x0_30 x0_31 x0_32 u_x0_36 x0_39 x0_40 x0_44 x0_49 u_x0_51 u_x0_53 u_x0_54 u_x0_55 u_x0_56 u_x0_57 u_x0_58 u_x0_59 u_x0_60 x0_61 x0_62 y1 y2 y3 y4 y5 y6 y7 y8 y9 y10 u_y11 u_y12 y13 y14 y15 y16 y17 y18 y19 y20 y21 y22 u_y23 u_y24 y25) t.heap ∧ va_D (va_A (wS50 cI cJ cZ cB p0 p1 p2 p3 p4 p5 p6 p7 p8 p9 p10 p11 p12 p13 p14 p15 p16 p17 p18 p19 p20 p21 p22 p23 p24 p25 x0_4 x0_5 x0_6 x0_7 x0_8 x0_12 x0_13 x0_14 x0_15 x0_16 x0_17 x0_18 x0_22 x0_23 x0_24 x0_25 x0_26 x0_27 x0_28 x0_29 x0_30 x0_31 x0_32 x0_36 x0_39 x0_40 x0_44 x0_49 x0_51 x0_53 x0_54 x0_55 x0_56 x0_57 x0_58 x0_59 x0_60 x0_61 x0_62 y1 y2 y3 y4 y5 y6 y7 y8 y9 y10 y11 y12 y13 y14 y15 y16 y17 y18 y19 y20 y21 y22 y23 y24 y25) sz) (wS50 cI cJ cZ cB p0 p1 p2 p3 p4 p5 p6 p7 p8 p9 p10 p11 p12 p13 p14 p15 p16 p17 p18 p19 p20 p21 p22 p23 p24 p25 x0_4 x0_5 x0_6 x0_7 x0_8 x0_12 x0_13 x0_14 x0_15 x0_16 x0_17 x0_18 x0_22 x0_23 x0_24 u_x0_25 u_x0_26 x0_27 x0_28 x0_29 x0_30 x0_31 x0_32 u_x0_36 x0_39 x0_40 x0_44 x0_49 u_x0_51 u_x0_53 u_x0_54 u_x0_55 u_x0_56 u_x0_57 u_x0_58 u_x0_59 u_x0_60 x0_61 x0_62 y1 y2 y3 y4 y5 y6 y7 y8 y9 y10 u_y11 u_y12 y13 y14 y15 y16 y17 y18 y19 y20 y21 y22 u_y23 u_y24 y25)) (va_A (wS50 cI cJ cZ cB p0 p1 p2 p3 p4 p5 p6 p7 p8 p9 p10 p11 p12 p13 p14 p15 p16 p17 p18 p19 p20 p21 p22 p23 p24 p25 x0_4 x0_5 x0_6 x0_7 x0_8 x0_12 x0_13 x0_14 x0_15 x0_16 x0_17 x0_18 x0_22 x0_23 x0_24 x0_25 x0_26 x0_27 x0_28 x0_29 x0_30 x0_31 x0_32 x0_36 x0_39 x0_40 x0_44 x0_49 x0_51 x0_53 x0_54 x0_55 x0_56 x0_57 x0_58 x0_59 x0_60 x0_61 x0_62 y1 y2 y3 y4 y5 y6 y7 y8 y9 y10 y11 y12 y13 y14 y15 y16 y17 y18 y19 y20 y21 y22 y23 y24 y25) sz)) 0 0 (va_A (wS50 cI cJ cZ cB p0 p1 p2 p3 p4 p5 p6 p7 p8 p9 p10 p11 p12 p13 p14 p15 p16 p17 p18 p19 p20 p21 p22 p23 p24 p25 x0_4 x0_5 x0_6 x0_7 x0_8 x0_12 x0_13 x0_14 x0_15 x0_16 x0_17 x0_18 x0_22 x0_23 x0_24 x0_25 x0_26 x0_27 x0_28 x0_29 x0_30 x0_31 x0_32 x0_36 x0_39 x0_40 x0_44 x0_49 x0_51 x0_53 x0_54 x0_55 x0_56 x0_57 x0_58 x0_59 x0_60 x0_61 x0_62 y1 y2 y3 y4 y5 y6 y7 y8 y9 y10 y11 y12 y13 y14 y15 y16 y17 y18 y19 y20 y21 y22 y23 y24 y25) sz) := by
  refine Met.ofW (cc := b_X_addressPart) (maxL := 5) (ret := (some .long)) (by decide) rfl ?_
  intro p e s m args below meth c s₁ B hml hv
  obtain ⟨rfl, hsz, hK, hP, hD0⟩ := hv
  subst hsz
  have hD := hD0.self (sz := s.heap.size)
  generalize hAe : va_A (wS50 cI cJ cZ cB p0 p1 p2 p3 p4 p5 p6 p7 p8 p9 p10 p11 p12 p13 p14 p15 p16 p17 p18 p19 p20 p21 p22 p23 p24 p25 x0_4 x0_5 x0_6 x0_7 x0_8 x0_12 x0_13 x0_14 x0_15 x0_16 x0_17 x0_18 x0_22 x0_23 x0_24 x0_25 x0_26 x0_27 x0_28 x0_29 x0_30 x0_31 x0_32 x0_36 x0_39 x0_40 x0_44 x0_49 x0_51 x0_53 x0_54 x0_55 x0_56 x0_57 x0_58 x0_59 x0_60 x0_61 x0_62 y1 y2 y3 y4 y5 y6 y7 y8 y9 y10 y11 y12 y13 y14 y15 y16 y17 y18 y19 y20 y21 y22 y23 y24 y25) s.heap.size = A at hD ⊢
  have hA : ∀ q : Nat, s.heap.size ≤ q → A q := fun q h => by rw [← hAe]; exact Or.inr h
  clear hAe hD0
  have hS : va_S A s.heap s.heap [] := va_S.rf
  have hx := B.exec
  have hb := B.bytes
  have hr := B.returns
  have hts := atoms_spec (ws := .code y_X_addressPart b_X_addressPart 5 (some .long) :: tb) B.pre
  have hk : ∀ w ∈ tb, w.before [.ref p0].toArray s = true := fun w h => hts w (List.mem_cons_of_mem _ h)
  have hown : s.vm.findClass "SignMachineModel" = some m.cls := findClass_of_methodNamed B.named
  have hlocks := B.notSynchronized
  have hl := lv_entry ([.ref p0]) (n := 5) (Nat.le_of_ble_eq_true rfl)
  rw [lg_entry_eq]
  generalize (lg_sl ([.ref p0]) ++ List.replicate (5 - (lg_sl ([.ref p0])).length) Slot.unset).toArray = ls at hl ⊢
  have hl : lv_has ls 5 [(0, .ref p0)] := hl
  clear hts B
  refine lv_aload_n hx hb d_X_addressPart_0 rfl (lv_at hl 0 rfl) ?_
  refine sn_i (va_runV (C := "SignMachineModel") (As := []) (rest := []) ⟨hx, hb, hml, hown, hk⟩ (c_X_here l D cI cJ cZ cB p0 p1 p2 p3 p4 p5 p6 p7 p8 p9 p10 p11 p12 p13 p14 p15 p16 p17 p18 p19 p20 p21 p22 p23 p24 p25 s.heap.size x0_4 x0_5 x0_6 x0_7 x0_8 x0_12 x0_13 x0_14 x0_15 x0_16 x0_17 x0_18 x0_22 x0_23 x0_24 x0_25 x0_26 x0_27 x0_28 x0_29 x0_30 x0_31 x0_32 x0_36 x0_39 x0_40 x0_44 x0_49 x0_51 x0_53 x0_54 x0_55 x0_56 x0_57 x0_58 x0_59 x0_60 x0_61 x0_62 y1 y2 y3 y4 y5 y6 y7 y8 y9 y10 y11 y12 y13 y14 y15 y16 y17 y18 y19 y20 y21 y22 y23 y24 y25  Rx0_24 Rx0_25) (v_X_here hk k_1537 ⟨Nat.le_of_ble_eq_true rfl, Nat.le_of_ble_eq_true rfl⟩) (pM_v hK hP hD (ci := 7) (q0 := 0) rfl rfl rfl) rfl rfl hl.1 rfl (lv_room (Nat.le_of_ble_eq_true rfl)) d_X_addressPart_1 ⟨Nat.le_of_ble_eq_true rfl, Nat.le_of_ble_eq_true rfl⟩) hS hA hD (fun rz1 u t H locs hr0 ht hB hFr hS => ?_)
  subst hr0
  obtain ⟨F0z1, hP, hD⟩ := hB
  have F0z1 : (x0_25.toInt < x0_24.toInt ∧ rz1.toInt = (y10 (x0_25).toNatClampNeg).toInt) ∨ (x0_24.toInt ≤ x0_25.toInt ∧ rz1.toInt = -1) := F0z1
  rw [ht] at hP
  have hD := dwk hD hFr
  clear ht hFr
  have hP : va_P D classes (wS50 cI cJ cZ cB p0 p1 p2 p3 p4 p5 p6 p7 p8 p9 p10 p11 p12 p13 p14 p15 p16 p17 p18 p19 p20 p21 p22 p23 p24 p25 x0_4 x0_5 x0_6 x0_7 x0_8 x0_12 x0_13 x0_14 x0_15 x0_16 x0_17 x0_18 x0_22 x0_23 x0_24 x0_25 x0_26 x0_27 x0_28 x0_29 x0_30 x0_31 x0_32 x0_36 x0_39 x0_40 x0_44 x0_49 x0_51 x0_53 x0_54 x0_55 x0_56 x0_57 x0_58 x0_59 x0_60 x0_61 x0_62 y1 y2 y3 y4 y5 y6 y7 y8 y9 y10 y11 y12 y13 y14 y15 y16 y17 y18 y19 y20 y21 y22 y23 y24 y25) H := hP
  have hD : va_D A (wS50 cI cJ cZ cB p0 p1 p2 p3 p4 p5 p6 p7 p8 p9 p10 p11 p12 p13 p14 p15 p16 p17 p18 p19 p20 p21 p22 p23 p24 p25 x0_4 x0_5 x0_6 x0_7 x0_8 x0_12 x0_13 x0_14 x0_15 x0_16 x0_17 x0_18 x0_22 x0_23 x0_24 x0_25 x0_26 x0_27 x0_28 x0_29 x0_30 x0_31 x0_32 x0_36 x0_39 x0_40 x0_44 x0_49 x0_51 x0_53 x0_54 x0_55 x0_56 x0_57 x0_58 x0_59 x0_60 x0_61 x0_62 y1 y2 y3 y4 y5 y6 y7 y8 y9 y10 y11 y12 y13 y14 y15 y16 y17 y18 y19 y20 y21 y22 y23 y24 y25) := hD
  refine lv_istore_n (lv' := [(1, .int rz1), (0, .ref p0)]) hx hb d_X_addressPart_4 rfl hl (by decide) rfl (fun ls hl => ?_)
  refine lv_iload_n hx hb d_X_addressPart_5 rfl (lv_at hl 0 rfl) ?_
  refine lv_bipush (v := 61) hx hb d_X_addressPart_6 (by decide) ?_
  refine lv_icmp_ne (tgt := 142) hx hb d_X_addressPart_8 (by decide) (fun c2 => ?_) (fun c2 => ?_)
  · have gc2 : rz1.toInt ≠ 61 := c_ne c2
    refine lv_aload_n hx hb d_X_addressPart_142 rfl (lv_at hl 1 rfl) ?_
    refine va_get (D := D) (ci := 7) (v := .int x0_25) (C := "SignMachineModel") (T := F_X) (N := 64) hx hb hk fi_X hown hK.1 hP 0 rfl rfl 25 (by decide) (hk _ k_1146) (fun _ h9 => h9) rfl d_X_addressPart_143 ?_
    refine lv_istore_n (lv' := [(2, .int x0_25), (1, .int rz1), (0, .ref p0)]) hx hb d_X_addressPart_146 rfl hl (by decide) rfl (fun ls hl => ?_)
    refine lv_iload_n hx hb d_X_addressPart_147 rfl (lv_at hl 1 rfl) ?_
    refine vp_callSi (W.runS (As := [.int rz1]) (rest := []) ⟨hx, hb, hml, hown, hk⟩ (c_X_isLetter l rz1 ) (s_X_isLetter hk k_1545 ⟨Nat.le_of_ble_eq_true rfl, Nat.le_of_ble_eq_true rfl⟩) ⟨fun a U g mk q => q, fun U hU hW => ⟨rfl, trivial⟩⟩ rfl rfl hl.1 rfl (lv_room (Nat.le_of_ble_eq_true rfl)) d_X_addressPart_148 ⟨Nat.le_of_ble_eq_true rfl, Nat.le_of_ble_eq_true rfl⟩) (fun rz3 hrz3 => ?_)
    obtain ⟨F0z3, F1z3⟩ := hrz3
    have F0z3 : 0 ≤ rz3.toInt ∧ rz3.toInt ≤ 1 := F0z3
    have F1z3 : rz3.toInt = 1 → (65 ≤ rz1.toInt ∧ rz1.toInt ≤ 90) := F1z3
    refine lv_if_ne (tgt := 161) hx hb d_X_addressPart_151 (by decide) (fun c4 => ?_) (fun c4 => ?_)
    · have gc4 : rz3.toInt ≠ 0 := c_ne c4
      have R5 : 1 ≤ rz3.toInt ∧ rz3.toInt ≤ 1 := by omega
      refine lv_aload_n hx hb d_X_addressPart_161 rfl (lv_at hl 2 rfl) ?_
      refine va_get (D := D) (ci := 7) (v := .int x0_26) (C := "SignMachineModel") (T := F_X) (N := 64) hx hb hk fi_X hown hK.1 hP 0 rfl rfl 26 (by decide) (hk _ k_1147) (fun _ h9 => h9) rfl d_X_addressPart_162 ?_
      refine lv_istore_n (lv' := [(3, .int x0_26), (2, .int x0_25), (1, .int rz1), (0, .ref p0)]) hx hb d_X_addressPart_165 rfl hl (by decide) rfl (fun ls hl => ?_)
      refine lv_aload_n hx hb d_X_addressPart_166 rfl (lv_at hl 3 rfl) ?_
      refine kn_v (va_runV (C := "SignMachineModel") (As := []) (rest := []) ⟨hx, hb, hml, hown, hk⟩ (c_X_readName l D cI cJ cZ cB p0 p1 p2 p3 p4 p5 p6 p7 p8 p9 p10 p11 p12 p13 p14 p15 p16 p17 p18 p19 p20 p21 p22 p23 p24 p25 H.size x0_4 x0_5 x0_6 x0_7 x0_8 x0_12 x0_13 x0_14 x0_15 x0_16 x0_17 x0_18 x0_22 x0_23 x0_24 x0_25 x0_26 x0_27 x0_28 x0_29 x0_30 x0_31 x0_32 x0_36 x0_39 x0_40 x0_44 x0_49 x0_51 x0_53 x0_54 x0_55 x0_56 x0_57 x0_58 x0_59 x0_60 x0_61 x0_62 y1 y2 y3 y4 y5 y6 y7 y8 y9 y10 y11 y12 y13 y14 y15 y16 y17 y18 y19 y20 y21 y22 y23 y24 y25  Rx0_24 Rx0_25 Rx0_26 Rx0_54 (show x0_25.toInt ≤ x0_24.toInt from by omega)) (v_X_readName hk k_1541 ⟨Nat.le_of_ble_eq_true rfl, Nat.le_of_ble_eq_true rfl⟩) (pM_v hK hP hD (ci := 7) (q0 := 0) rfl rfl rfl) rfl rfl hl.1 rfl (lv_room (Nat.le_of_ble_eq_true rfl)) d_X_addressPart_167 ⟨Nat.le_of_ble_eq_true rfl, Nat.le_of_ble_eq_true rfl⟩) hS hA hD (fun u t H locs ht hB hFr hS => ?_)
      obtain ⟨x0_25z6, x0_26z6, x0_54z6, x0_55z6, x0_56z6, Rx0_25z6, Rx0_26z6, Rx0_54z6, F0z6, F1z6, F2z6, F3z6, hP, hD⟩ := hB
      have F0z6 : x0_25.toInt ≤ x0_25z6.toInt ∧ x0_25z6.toInt ≤ x0_24.toInt := F0z6
      have F1z6 : 1 ≤ x0_26.toInt → 1 ≤ x0_26z6.toInt := F1z6
      have F2z6 : x0_54z6.toInt = 1 → (0 ≤ x0_55z6.toInt ∧ x0_55z6.toInt ≤ 1073741823) := F2z6
      have F3z6 : x0_54z6.toInt = 3 → (0 ≤ x0_55z6.toInt ∧ x0_55z6.toInt ≤ 9) := F3z6
      rw [ht] at hP
      have hD := dwk hD hFr
      clear ht hFr
      have hP : va_P D classes (wS50 cI cJ cZ cB p0 p1 p2 p3 p4 p5 p6 p7 p8 p9 p10 p11 p12 p13 p14 p15 p16 p17 p18 p19 p20 p21 p22 p23 p24 p25 x0_4 x0_5 x0_6 x0_7 x0_8 x0_12 x0_13 x0_14 x0_15 x0_16 x0_17 x0_18 x0_22 x0_23 x0_24 x0_25z6 x0_26z6 x0_27 x0_28 x0_29 x0_30 x0_31 x0_32 x0_36 x0_39 x0_40 x0_44 x0_49 x0_51 x0_53 x0_54z6 x0_55z6 x0_56z6 x0_57 x0_58 x0_59 x0_60 x0_61 x0_62 y1 y2 y3 y4 y5 y6 y7 y8 y9 y10 y11 y12 y13 y14 y15 y16 y17 y18 y19 y20 y21 y22 y23 y24 y25) H := hP
      have hD : va_D A (wS50 cI cJ cZ cB p0 p1 p2 p3 p4 p5 p6 p7 p8 p9 p10 p11 p12 p13 p14 p15 p16 p17 p18 p19 p20 p21 p22 p23 p24 p25 x0_4 x0_5 x0_6 x0_7 x0_8 x0_12 x0_13 x0_14 x0_15 x0_16 x0_17 x0_18 x0_22 x0_23 x0_24 x0_25z6 x0_26z6 x0_27 x0_28 x0_29 x0_30 x0_31 x0_32 x0_36 x0_39 x0_40 x0_44 x0_49 x0_51 x0_53 x0_54z6 x0_55z6 x0_56z6 x0_57 x0_58 x0_59 x0_60 x0_61 x0_62 y1 y2 y3 y4 y5 y6 y7 y8 y9 y10 y11 y12 y13 y14 y15 y16 y17 y18 y19 y20 y21 y22 y23 y24 y25) := hD
      refine lv_aload_n hx hb d_X_addressPart_170 rfl (lv_at hl 3 rfl) ?_
      refine va_get (D := D) (ci := 7) (v := .int x0_54z6) (C := "SignMachineModel") (T := F_X) (N := 64) hx hb hk fi_X hown hK.1 hP 0 rfl rfl 54 (by decide) (hk _ k_1175) (fun _ h9 => h9) rfl d_X_addressPart_171 ?_
      refine lv_iconst (v := 2) hx hb d_X_addressPart_174 (by decide) ?_
      refine lv_icmp_ne (tgt := 218) hx hb d_X_addressPart_175 (by decide) (fun c7 => ?_) (fun c7 => ?_)
      · have gc7 : x0_54z6.toInt ≠ 2 := c_ne c7
        refine lv_iconst (v := 0) hx hb d_X_addressPart_218 (by decide) ?_
        refine lv_istore (lv' := [(4, .int (0 : Int32)), (3, .int x0_26), (2, .int x0_25), (1, .int rz1), (0, .ref p0)]) hx hb d_X_addressPart_219 hl (by decide) rfl (fun ls hl => ?_)
        refine lv_iload hx hb d_X_addressPart_221 (lv_at hl 0 rfl) ?_
        refine lv_if_eq (tgt := 244) hx hb d_X_addressPart_223 (by decide) (fun c8 => ?_) (fun c8 => absurd (show (0 : Int32) = (0 : Int32) from (by decide)) c8)
        refine lv_aload_n hx hb d_X_addressPart_244 rfl (lv_at hl 4 rfl) ?_
        refine va_get (D := D) (ci := 7) (v := .int x0_54z6) (C := "SignMachineModel") (T := F_X) (N := 64) hx hb hk fi_X hown hK.1 hP 0 rfl rfl 54 (by decide) (hk _ k_1175) (fun _ h9 => h9) rfl d_X_addressPart_245 ?_
        refine lv_iconst (v := 3) hx hb d_X_addressPart_248 (by decide) ?_
        refine lv_icmp_ne (tgt := 286) hx hb d_X_addressPart_249 (by decide) (fun c9 => ?_) (fun c9 => ?_)
        · have gc9 : x0_54z6.toInt ≠ 3 := c_ne c9
          have R10 : 0 ≤ x0_54z6.toInt ∧ x0_54z6.toInt ≤ 2 := by omega
          refine lv_aload_n hx hb d_X_addressPart_286 rfl (lv_at hl 4 rfl) ?_
          refine lv_iload_n hx hb d_X_addressPart_287 rfl (lv_at hl 2 rfl) ?_
          refine va_put (D := D) (ci := 7) (v := .int x0_25) (ty := .int) (C := "SignMachineModel") (T := F_X) (N := 64) hx hb hk fi_X ft_X ft_X_ok fn_X hown hK.1 hP hD hS 0 rfl rfl 25 (by decide) (hk _ k_1146) (fun _ h9 => h9) rfl (by decide +kernel) rfl rfl (Nat.le_of_ble_eq_true rfl) d_X_addressPart_288 (fun H locs hP hD hS => ?_)
          have hP : va_P D classes (wS50 cI cJ cZ cB p0 p1 p2 p3 p4 p5 p6 p7 p8 p9 p10 p11 p12 p13 p14 p15 p16 p17 p18 p19 p20 p21 p22 p23 p24 p25 x0_4 x0_5 x0_6 x0_7 x0_8 x0_12 x0_13 x0_14 x0_15 x0_16 x0_17 x0_18 x0_22 x0_23 x0_24 x0_25 x0_26z6 x0_27 x0_28 x0_29 x0_30 x0_31 x0_32 x0_36 x0_39 x0_40 x0_44 x0_49 x0_51 x0_53 x0_54z6 x0_55z6 x0_56z6 x0_57 x0_58 x0_59 x0_60 x0_61 x0_62 y1 y2 y3 y4 y5 y6 y7 y8 y9 y10 y11 y12 y13 y14 y15 y16 y17 y18 y19 y20 y21 y22 y23 y24 y25) H := hP
          have hD : va_D A (wS50 cI cJ cZ cB p0 p1 p2 p3 p4 p5 p6 p7 p8 p9 p10 p11 p12 p13 p14 p15 p16 p17 p18 p19 p20 p21 p22 p23 p24 p25 x0_4 x0_5 x0_6 x0_7 x0_8 x0_12 x0_13 x0_14 x0_15 x0_16 x0_17 x0_18 x0_22 x0_23 x0_24 x0_25 x0_26z6 x0_27 x0_28 x0_29 x0_30 x0_31 x0_32 x0_36 x0_39 x0_40 x0_44 x0_49 x0_51 x0_53 x0_54z6 x0_55z6 x0_56z6 x0_57 x0_58 x0_59 x0_60 x0_61 x0_62 y1 y2 y3 y4 y5 y6 y7 y8 y9 y10 y11 y12 y13 y14 y15 y16 y17 y18 y19 y20 y21 y22 y23 y24 y25) := hD
          refine lv_aload_n hx hb d_X_addressPart_291 rfl (lv_at hl 4 rfl) ?_
          refine lv_iload_n hx hb d_X_addressPart_292 rfl (lv_at hl 1 rfl) ?_
          refine va_put (D := D) (ci := 7) (v := .int x0_26) (ty := .int) (C := "SignMachineModel") (T := F_X) (N := 64) hx hb hk fi_X ft_X ft_X_ok fn_X hown hK.1 hP hD hS 0 rfl rfl 26 (by decide) (hk _ k_1147) (fun _ h9 => h9) rfl (by decide +kernel) rfl rfl (Nat.le_of_ble_eq_true rfl) d_X_addressPart_293 (fun H locs hP hD hS => ?_)
          have hP : va_P D classes (wS50 cI cJ cZ cB p0 p1 p2 p3 p4 p5 p6 p7 p8 p9 p10 p11 p12 p13 p14 p15 p16 p17 p18 p19 p20 p21 p22 p23 p24 p25 x0_4 x0_5 x0_6 x0_7 x0_8 x0_12 x0_13 x0_14 x0_15 x0_16 x0_17 x0_18 x0_22 x0_23 x0_24 x0_25 x0_26 x0_27 x0_28 x0_29 x0_30 x0_31 x0_32 x0_36 x0_39 x0_40 x0_44 x0_49 x0_51 x0_53 x0_54z6 x0_55z6 x0_56z6 x0_57 x0_58 x0_59 x0_60 x0_61 x0_62 y1 y2 y3 y4 y5 y6 y7 y8 y9 y10 y11 y12 y13 y14 y15 y16 y17 y18 y19 y20 y21 y22 y23 y24 y25) H := hP
          have hD : va_D A (wS50 cI cJ cZ cB p0 p1 p2 p3 p4 p5 p6 p7 p8 p9 p10 p11 p12 p13 p14 p15 p16 p17 p18 p19 p20 p21 p22 p23 p24 p25 x0_4 x0_5 x0_6 x0_7 x0_8 x0_12 x0_13 x0_14 x0_15 x0_16 x0_17 x0_18 x0_22 x0_23 x0_24 x0_25 x0_26 x0_27 x0_28 x0_29 x0_30 x0_31 x0_32 x0_36 x0_39 x0_40 x0_44 x0_49 x0_51 x0_53 x0_54z6 x0_55z6 x0_56z6 x0_57 x0_58 x0_59 x0_60 x0_61 x0_62 y1 y2 y3 y4 y5 y6 y7 y8 y9 y10 y11 y12 y13 y14 y15 y16 y17 y18 y19 y20 y21 y22 y23 y24 y25) := hD
          refine lv_aload_n hx hb d_X_addressPart_296 rfl (lv_at hl 4 rfl) ?_
          refine sn_l (va_runV (C := "SignMachineModel") (As := []) (rest := []) ⟨hx, hb, hml, hown, hk⟩ (c_X_expression l D cI cJ cZ cB p0 p1 p2 p3 p4 p5 p6 p7 p8 p9 p10 p11 p12 p13 p14 p15 p16 p17 p18 p19 p20 p21 p22 p23 p24 p25 H.size x0_4 x0_5 x0_6 x0_7 x0_8 x0_12 x0_13 x0_14 x0_15 x0_16 x0_17 x0_18 x0_22 x0_23 x0_24 x0_25 x0_26 x0_27 x0_28 x0_29 x0_30 x0_31 x0_32 x0_36 x0_39 x0_40 x0_44 x0_49 x0_51 x0_53 x0_54z6 x0_55z6 x0_56z6 x0_57 x0_58 x0_59 x0_60 x0_61 x0_62 y1 y2 y3 y4 y5 y6 y7 y8 y9 y10 y11 y12 y13 y14 y15 y16 y17 y18 y19 y20 y21 y22 y23 y24 y25  Rx0_24 Rx0_25 Rx0_26 Rx0_30 Rx0_36 (rgw R10 (by decide) (by decide)) Ay13 Ay15 (show x0_25.toInt ≤ x0_24.toInt from by omega)) (v_X_expression hk k_1653 ⟨Nat.le_of_ble_eq_true rfl, Nat.le_of_ble_eq_true rfl⟩) (pM_v hK hP hD (ci := 7) (q0 := 0) rfl rfl rfl) rfl rfl hl.1 rfl (lv_room (Nat.le_of_ble_eq_true rfl)) d_X_addressPart_297 ⟨Nat.le_of_ble_eq_true rfl, Nat.le_of_ble_eq_true rfl⟩) hS hA hD (fun rz11 u t H locs hr0 ht hB hFr hS => ?_)
          subst hr0
          obtain ⟨x0_25z11, x0_26z11, x0_54z11, x0_55z11, x0_56z11, Rx0_25z11, Rx0_26z11, Rx0_54z11, F0z11, F1z11, F2z11, hP, hD⟩ := hB
          have F0z11 : (-1073741823) ≤ rz11.toInt ∧ rz11.toInt ≤ 1073741823 := F0z11
          have F1z11 : x0_25.toInt ≤ x0_25z11.toInt ∧ x0_25z11.toInt ≤ x0_24.toInt := F1z11
          have F2z11 : 1 ≤ x0_26.toInt → 1 ≤ x0_26z11.toInt := F2z11
          rw [ht] at hP
          have hD := dwk hD hFr
          clear ht hFr
          have hP : va_P D classes (wS50 cI cJ cZ cB p0 p1 p2 p3 p4 p5 p6 p7 p8 p9 p10 p11 p12 p13 p14 p15 p16 p17 p18 p19 p20 p21 p22 p23 p24 p25 x0_4 x0_5 x0_6 x0_7 x0_8 x0_12 x0_13 x0_14 x0_15 x0_16 x0_17 x0_18 x0_22 x0_23 x0_24 x0_25z11 x0_26z11 x0_27 x0_28 x0_29 x0_30 x0_31 x0_32 x0_36 x0_39 x0_40 x0_44 x0_49 x0_51 x0_53 x0_54z11 x0_55z11 x0_56z11 x0_57 x0_58 x0_59 x0_60 x0_61 x0_62 y1 y2 y3 y4 y5 y6 y7 y8 y9 y10 y11 y12 y13 y14 y15 y16 y17 y18 y19 y20 y21 y22 y23 y24 y25) H := hP
          have hD : va_D A (wS50 cI cJ cZ cB p0 p1 p2 p3 p4 p5 p6 p7 p8 p9 p10 p11 p12 p13 p14 p15 p16 p17 p18 p19 p20 p21 p22 p23 p24 p25 x0_4 x0_5 x0_6 x0_7 x0_8 x0_12 x0_13 x0_14 x0_15 x0_16 x0_17 x0_18 x0_22 x0_23 x0_24 x0_25z11 x0_26z11 x0_27 x0_28 x0_29 x0_30 x0_31 x0_32 x0_36 x0_39 x0_40 x0_44 x0_49 x0_51 x0_53 x0_54z11 x0_55z11 x0_56z11 x0_57 x0_58 x0_59 x0_60 x0_61 x0_62 y1 y2 y3 y4 y5 y6 y7 y8 y9 y10 y11 y12 y13 y14 y15 y16 y17 y18 y19 y20 y21 y22 y23 y24 y25) := hD
          exact W.lret (v := rz11) hx hb hr (fun t ht hW => ⟨⟨rz11, rz11, rfl, rfl, ⟨x0_25z11, x0_26z11, x0_36, x0_51, x0_53, x0_54z11, x0_55z11, x0_56z11, x0_57, x0_58, x0_59, x0_60, y11, y12, y23, y24, Rx0_25z11, Rx0_26z11, Rx0_36, Rx0_51, Rx0_53, Rx0_54z11, Rx0_57, Rx0_58, Rx0_59, Rx0_60, Ay23, Ay24, F0z11, (by omega), (by omega), (by omega), (by omega), by show va_P D classes _ t.heap; rw [ht]; exact hP, hD⟩⟩, hS.F ht⟩) hS.2.2 d_X_addressPart_300
        · have gc9 : x0_54z6.toInt = 3 := c_eq c9
          have R12 : 3 ≤ x0_54z6.toInt ∧ x0_54z6.toInt ≤ 3 := by omega
          refine lv_aload_n hx hb d_X_addressPart_252 rfl (lv_at hl 4 rfl) ?_
          refine va_get (D := D) (ci := 7) (v := .int x0_56z6) (C := "SignMachineModel") (T := F_X) (N := 64) hx hb hk fi_X hown hK.1 hP 0 rfl rfl 56 (by decide) (hk _ k_1177) (fun _ h9 => h9) rfl d_X_addressPart_253 ?_
          refine lv_bipush (v := 70) hx hb d_X_addressPart_256 (by decide) ?_
          refine lv_icmp_ne (tgt := 286) hx hb d_X_addressPart_258 (by decide) (fun c13 => ?_) (fun c13 => ?_)
          · have gc13 : x0_56z6.toInt ≠ 70 := c_ne c13
            refine lv_aload_n hx hb d_X_addressPart_286 rfl (lv_at hl 4 rfl) ?_
            refine lv_iload_n hx hb d_X_addressPart_287 rfl (lv_at hl 2 rfl) ?_
            refine va_put (D := D) (ci := 7) (v := .int x0_25) (ty := .int) (C := "SignMachineModel") (T := F_X) (N := 64) hx hb hk fi_X ft_X ft_X_ok fn_X hown hK.1 hP hD hS 0 rfl rfl 25 (by decide) (hk _ k_1146) (fun _ h9 => h9) rfl (by decide +kernel) rfl rfl (Nat.le_of_ble_eq_true rfl) d_X_addressPart_288 (fun H locs hP hD hS => ?_)
            have hP : va_P D classes (wS50 cI cJ cZ cB p0 p1 p2 p3 p4 p5 p6 p7 p8 p9 p10 p11 p12 p13 p14 p15 p16 p17 p18 p19 p20 p21 p22 p23 p24 p25 x0_4 x0_5 x0_6 x0_7 x0_8 x0_12 x0_13 x0_14 x0_15 x0_16 x0_17 x0_18 x0_22 x0_23 x0_24 x0_25 x0_26z6 x0_27 x0_28 x0_29 x0_30 x0_31 x0_32 x0_36 x0_39 x0_40 x0_44 x0_49 x0_51 x0_53 x0_54z6 x0_55z6 x0_56z6 x0_57 x0_58 x0_59 x0_60 x0_61 x0_62 y1 y2 y3 y4 y5 y6 y7 y8 y9 y10 y11 y12 y13 y14 y15 y16 y17 y18 y19 y20 y21 y22 y23 y24 y25) H := hP
            have hD : va_D A (wS50 cI cJ cZ cB p0 p1 p2 p3 p4 p5 p6 p7 p8 p9 p10 p11 p12 p13 p14 p15 p16 p17 p18 p19 p20 p21 p22 p23 p24 p25 x0_4 x0_5 x0_6 x0_7 x0_8 x0_12 x0_13 x0_14 x0_15 x0_16 x0_17 x0_18 x0_22 x0_23 x0_24 x0_25 x0_26z6 x0_27 x0_28 x0_29 x0_30 x0_31 x0_32 x0_36 x0_39 x0_40 x0_44 x0_49 x0_51 x0_53 x0_54z6 x0_55z6 x0_56z6 x0_57 x0_58 x0_59 x0_60 x0_61 x0_62 y1 y2 y3 y4 y5 y6 y7 y8 y9 y10 y11 y12 y13 y14 y15 y16 y17 y18 y19 y20 y21 y22 y23 y24 y25) := hD
            refine lv_aload_n hx hb d_X_addressPart_291 rfl (lv_at hl 4 rfl) ?_
            refine lv_iload_n hx hb d_X_addressPart_292 rfl (lv_at hl 1 rfl) ?_
            refine va_put (D := D) (ci := 7) (v := .int x0_26) (ty := .int) (C := "SignMachineModel") (T := F_X) (N := 64) hx hb hk fi_X ft_X ft_X_ok fn_X hown hK.1 hP hD hS 0 rfl rfl 26 (by decide) (hk _ k_1147) (fun _ h9 => h9) rfl (by decide +kernel) rfl rfl (Nat.le_of_ble_eq_true rfl) d_X_addressPart_293 (fun H locs hP hD hS => ?_)
            have hP : va_P D classes (wS50 cI cJ cZ cB p0 p1 p2 p3 p4 p5 p6 p7 p8 p9 p10 p11 p12 p13 p14 p15 p16 p17 p18 p19 p20 p21 p22 p23 p24 p25 x0_4 x0_5 x0_6 x0_7 x0_8 x0_12 x0_13 x0_14 x0_15 x0_16 x0_17 x0_18 x0_22 x0_23 x0_24 x0_25 x0_26 x0_27 x0_28 x0_29 x0_30 x0_31 x0_32 x0_36 x0_39 x0_40 x0_44 x0_49 x0_51 x0_53 x0_54z6 x0_55z6 x0_56z6 x0_57 x0_58 x0_59 x0_60 x0_61 x0_62 y1 y2 y3 y4 y5 y6 y7 y8 y9 y10 y11 y12 y13 y14 y15 y16 y17 y18 y19 y20 y21 y22 y23 y24 y25) H := hP
            have hD : va_D A (wS50 cI cJ cZ cB p0 p1 p2 p3 p4 p5 p6 p7 p8 p9 p10 p11 p12 p13 p14 p15 p16 p17 p18 p19 p20 p21 p22 p23 p24 p25 x0_4 x0_5 x0_6 x0_7 x0_8 x0_12 x0_13 x0_14 x0_15 x0_16 x0_17 x0_18 x0_22 x0_23 x0_24 x0_25 x0_26 x0_27 x0_28 x0_29 x0_30 x0_31 x0_32 x0_36 x0_39 x0_40 x0_44 x0_49 x0_51 x0_53 x0_54z6 x0_55z6 x0_56z6 x0_57 x0_58 x0_59 x0_60 x0_61 x0_62 y1 y2 y3 y4 y5 y6 y7 y8 y9 y10 y11 y12 y13 y14 y15 y16 y17 y18 y19 y20 y21 y22 y23 y24 y25) := hD
            refine lv_aload_n hx hb d_X_addressPart_296 rfl (lv_at hl 4 rfl) ?_
            refine sn_l (va_runV (C := "SignMachineModel") (As := []) (rest := []) ⟨hx, hb, hml, hown, hk⟩ (c_X_expression l D cI cJ cZ cB p0 p1 p2 p3 p4 p5 p6 p7 p8 p9 p10 p11 p12 p13 p14 p15 p16 p17 p18 p19 p20 p21 p22 p23 p24 p25 H.size x0_4 x0_5 x0_6 x0_7 x0_8 x0_12 x0_13 x0_14 x0_15 x0_16 x0_17 x0_18 x0_22 x0_23 x0_24 x0_25 x0_26 x0_27 x0_28 x0_29 x0_30 x0_31 x0_32 x0_36 x0_39 x0_40 x0_44 x0_49 x0_51 x0_53 x0_54z6 x0_55z6 x0_56z6 x0_57 x0_58 x0_59 x0_60 x0_61 x0_62 y1 y2 y3 y4 y5 y6 y7 y8 y9 y10 y11 y12 y13 y14 y15 y16 y17 y18 y19 y20 y21 y22 y23 y24 y25  Rx0_24 Rx0_25 Rx0_26 Rx0_30 Rx0_36 (rgw R12 (by decide) (by decide)) Ay13 Ay15 (show x0_25.toInt ≤ x0_24.toInt from by omega)) (v_X_expression hk k_1653 ⟨Nat.le_of_ble_eq_true rfl, Nat.le_of_ble_eq_true rfl⟩) (pM_v hK hP hD (ci := 7) (q0 := 0) rfl rfl rfl) rfl rfl hl.1 rfl (lv_room (Nat.le_of_ble_eq_true rfl)) d_X_addressPart_297 ⟨Nat.le_of_ble_eq_true rfl, Nat.le_of_ble_eq_true rfl⟩) hS hA hD (fun rz14 u t H locs hr0 ht hB hFr hS => ?_)
            subst hr0
            obtain ⟨x0_25z14, x0_26z14, x0_54z14, x0_55z14, x0_56z14, Rx0_25z14, Rx0_26z14, Rx0_54z14, F0z14, F1z14, F2z14, hP, hD⟩ := hB
            have F0z14 : (-1073741823) ≤ rz14.toInt ∧ rz14.toInt ≤ 1073741823 := F0z14
            have F1z14 : x0_25.toInt ≤ x0_25z14.toInt ∧ x0_25z14.toInt ≤ x0_24.toInt := F1z14
            have F2z14 : 1 ≤ x0_26.toInt → 1 ≤ x0_26z14.toInt := F2z14
            rw [ht] at hP
            have hD := dwk hD hFr
            clear ht hFr
            have hP : va_P D classes (wS50 cI cJ cZ cB p0 p1 p2 p3 p4 p5 p6 p7 p8 p9 p10 p11 p12 p13 p14 p15 p16 p17 p18 p19 p20 p21 p22 p23 p24 p25 x0_4 x0_5 x0_6 x0_7 x0_8 x0_12 x0_13 x0_14 x0_15 x0_16 x0_17 x0_18 x0_22 x0_23 x0_24 x0_25z14 x0_26z14 x0_27 x0_28 x0_29 x0_30 x0_31 x0_32 x0_36 x0_39 x0_40 x0_44 x0_49 x0_51 x0_53 x0_54z14 x0_55z14 x0_56z14 x0_57 x0_58 x0_59 x0_60 x0_61 x0_62 y1 y2 y3 y4 y5 y6 y7 y8 y9 y10 y11 y12 y13 y14 y15 y16 y17 y18 y19 y20 y21 y22 y23 y24 y25) H := hP
            have hD : va_D A (wS50 cI cJ cZ cB p0 p1 p2 p3 p4 p5 p6 p7 p8 p9 p10 p11 p12 p13 p14 p15 p16 p17 p18 p19 p20 p21 p22 p23 p24 p25 x0_4 x0_5 x0_6 x0_7 x0_8 x0_12 x0_13 x0_14 x0_15 x0_16 x0_17 x0_18 x0_22 x0_23 x0_24 x0_25z14 x0_26z14 x0_27 x0_28 x0_29 x0_30 x0_31 x0_32 x0_36 x0_39 x0_40 x0_44 x0_49 x0_51 x0_53 x0_54z14 x0_55z14 x0_56z14 x0_57 x0_58 x0_59 x0_60 x0_61 x0_62 y1 y2 y3 y4 y5 y6 y7 y8 y9 y10 y11 y12 y13 y14 y15 y16 y17 y18 y19 y20 y21 y22 y23 y24 y25) := hD
            exact W.lret (v := rz14) hx hb hr (fun t ht hW => ⟨⟨rz14, rz14, rfl, rfl, ⟨x0_25z14, x0_26z14, x0_36, x0_51, x0_53, x0_54z14, x0_55z14, x0_56z14, x0_57, x0_58, x0_59, x0_60, y11, y12, y23, y24, Rx0_25z14, Rx0_26z14, Rx0_36, Rx0_51, Rx0_53, Rx0_54z14, Rx0_57, Rx0_58, Rx0_59, Rx0_60, Ay23, Ay24, F0z14, (by omega), (by omega), (by omega), (by omega), by show va_P D classes _ t.heap; rw [ht]; exact hP, hD⟩⟩, hS.F ht⟩) hS.2.2 d_X_addressPart_300
          · have gc13 : x0_56z6.toInt = 70 := c_eq c13
            have R15 : 70 ≤ x0_56z6.toInt ∧ x0_56z6.toInt ≤ 70 := by omega
            refine lv_aload_n hx hb d_X_addressPart_261 rfl (lv_at hl 4 rfl) ?_
            refine sn_i (va_runV (C := "SignMachineModel") (As := []) (rest := []) ⟨hx, hb, hml, hown, hk⟩ (c_X_isAlone l D cI cJ cZ cB p0 p1 p2 p3 p4 p5 p6 p7 p8 p9 p10 p11 p12 p13 p14 p15 p16 p17 p18 p19 p20 p21 p22 p23 p24 p25 H.size x0_4 x0_5 x0_6 x0_7 x0_8 x0_12 x0_13 x0_14 x0_15 x0_16 x0_17 x0_18 x0_22 x0_23 x0_24 x0_25z6 x0_26z6 x0_27 x0_28 x0_29 x0_30 x0_31 x0_32 x0_36 x0_39 x0_40 x0_44 x0_49 x0_51 x0_53 x0_54z6 x0_55z6 x0_56z6 x0_57 x0_58 x0_59 x0_60 x0_61 x0_62 y1 y2 y3 y4 y5 y6 y7 y8 y9 y10 y11 y12 y13 y14 y15 y16 y17 y18 y19 y20 y21 y22 y23 y24 y25  Rx0_24 Rx0_25z6) (v_X_isAlone hk k_1695 ⟨Nat.le_of_ble_eq_true rfl, Nat.le_of_ble_eq_true rfl⟩) (pM_v hK hP hD (ci := 7) (q0 := 0) rfl rfl rfl) rfl rfl hl.1 rfl (lv_room (Nat.le_of_ble_eq_true rfl)) d_X_addressPart_262 ⟨Nat.le_of_ble_eq_true rfl, Nat.le_of_ble_eq_true rfl⟩) hS hA hD (fun rz16 u t H locs hr0 ht hB hFr hS => ?_)
            subst hr0
            obtain ⟨F0z16, hP, hD⟩ := hB
            have F0z16 : 0 ≤ rz16.toInt ∧ rz16.toInt ≤ 1 := F0z16
            rw [ht] at hP
            have hD := dwk hD hFr
            clear ht hFr
            have hP : va_P D classes (wS50 cI cJ cZ cB p0 p1 p2 p3 p4 p5 p6 p7 p8 p9 p10 p11 p12 p13 p14 p15 p16 p17 p18 p19 p20 p21 p22 p23 p24 p25 x0_4 x0_5 x0_6 x0_7 x0_8 x0_12 x0_13 x0_14 x0_15 x0_16 x0_17 x0_18 x0_22 x0_23 x0_24 x0_25z6 x0_26z6 x0_27 x0_28 x0_29 x0_30 x0_31 x0_32 x0_36 x0_39 x0_40 x0_44 x0_49 x0_51 x0_53 x0_54z6 x0_55z6 x0_56z6 x0_57 x0_58 x0_59 x0_60 x0_61 x0_62 y1 y2 y3 y4 y5 y6 y7 y8 y9 y10 y11 y12 y13 y14 y15 y16 y17 y18 y19 y20 y21 y22 y23 y24 y25) H := hP
            have hD : va_D A (wS50 cI cJ cZ cB p0 p1 p2 p3 p4 p5 p6 p7 p8 p9 p10 p11 p12 p13 p14 p15 p16 p17 p18 p19 p20 p21 p22 p23 p24 p25 x0_4 x0_5 x0_6 x0_7 x0_8 x0_12 x0_13 x0_14 x0_15 x0_16 x0_17 x0_18 x0_22 x0_23 x0_24 x0_25z6 x0_26z6 x0_27 x0_28 x0_29 x0_30 x0_31 x0_32 x0_36 x0_39 x0_40 x0_44 x0_49 x0_51 x0_53 x0_54z6 x0_55z6 x0_56z6 x0_57 x0_58 x0_59 x0_60 x0_61 x0_62 y1 y2 y3 y4 y5 y6 y7 y8 y9 y10 y11 y12 y13 y14 y15 y16 y17 y18 y19 y20 y21 y22 y23 y24 y25) := hD
            refine lv_if_eq (tgt := 286) hx hb d_X_addressPart_265 (by decide) (fun c17 => ?_) (fun c17 => ?_)
            · have gc17 : rz16.toInt = 0 := c_eq c17
              have R18 : 0 ≤ rz16.toInt ∧ rz16.toInt ≤ 0 := by omega
              refine lv_aload_n hx hb d_X_addressPart_286 rfl (lv_at hl 4 rfl) ?_
              refine lv_iload_n hx hb d_X_addressPart_287 rfl (lv_at hl 2 rfl) ?_
              refine va_put (D := D) (ci := 7) (v := .int x0_25) (ty := .int) (C := "SignMachineModel") (T := F_X) (N := 64) hx hb hk fi_X ft_X ft_X_ok fn_X hown hK.1 hP hD hS 0 rfl rfl 25 (by decide) (hk _ k_1146) (fun _ h9 => h9) rfl (by decide +kernel) rfl rfl (Nat.le_of_ble_eq_true rfl) d_X_addressPart_288 (fun H locs hP hD hS => ?_)
              have hP : va_P D classes (wS50 cI cJ cZ cB p0 p1 p2 p3 p4 p5 p6 p7 p8 p9 p10 p11 p12 p13 p14 p15 p16 p17 p18 p19 p20 p21 p22 p23 p24 p25 x0_4 x0_5 x0_6 x0_7 x0_8 x0_12 x0_13 x0_14 x0_15 x0_16 x0_17 x0_18 x0_22 x0_23 x0_24 x0_25 x0_26z6 x0_27 x0_28 x0_29 x0_30 x0_31 x0_32 x0_36 x0_39 x0_40 x0_44 x0_49 x0_51 x0_53 x0_54z6 x0_55z6 x0_56z6 x0_57 x0_58 x0_59 x0_60 x0_61 x0_62 y1 y2 y3 y4 y5 y6 y7 y8 y9 y10 y11 y12 y13 y14 y15 y16 y17 y18 y19 y20 y21 y22 y23 y24 y25) H := hP
              have hD : va_D A (wS50 cI cJ cZ cB p0 p1 p2 p3 p4 p5 p6 p7 p8 p9 p10 p11 p12 p13 p14 p15 p16 p17 p18 p19 p20 p21 p22 p23 p24 p25 x0_4 x0_5 x0_6 x0_7 x0_8 x0_12 x0_13 x0_14 x0_15 x0_16 x0_17 x0_18 x0_22 x0_23 x0_24 x0_25 x0_26z6 x0_27 x0_28 x0_29 x0_30 x0_31 x0_32 x0_36 x0_39 x0_40 x0_44 x0_49 x0_51 x0_53 x0_54z6 x0_55z6 x0_56z6 x0_57 x0_58 x0_59 x0_60 x0_61 x0_62 y1 y2 y3 y4 y5 y6 y7 y8 y9 y10 y11 y12 y13 y14 y15 y16 y17 y18 y19 y20 y21 y22 y23 y24 y25) := hD
              refine lv_aload_n hx hb d_X_addressPart_291 rfl (lv_at hl 4 rfl) ?_
              refine lv_iload_n hx hb d_X_addressPart_292 rfl (lv_at hl 1 rfl) ?_
              refine va_put (D := D) (ci := 7) (v := .int x0_26) (ty := .int) (C := "SignMachineModel") (T := F_X) (N := 64) hx hb hk fi_X ft_X ft_X_ok fn_X hown hK.1 hP hD hS 0 rfl rfl 26 (by decide) (hk _ k_1147) (fun _ h9 => h9) rfl (by decide +kernel) rfl rfl (Nat.le_of_ble_eq_true rfl) d_X_addressPart_293 (fun H locs hP hD hS => ?_)
              have hP : va_P D classes (wS50 cI cJ cZ cB p0 p1 p2 p3 p4 p5 p6 p7 p8 p9 p10 p11 p12 p13 p14 p15 p16 p17 p18 p19 p20 p21 p22 p23 p24 p25 x0_4 x0_5 x0_6 x0_7 x0_8 x0_12 x0_13 x0_14 x0_15 x0_16 x0_17 x0_18 x0_22 x0_23 x0_24 x0_25 x0_26 x0_27 x0_28 x0_29 x0_30 x0_31 x0_32 x0_36 x0_39 x0_40 x0_44 x0_49 x0_51 x0_53 x0_54z6 x0_55z6 x0_56z6 x0_57 x0_58 x0_59 x0_60 x0_61 x0_62 y1 y2 y3 y4 y5 y6 y7 y8 y9 y10 y11 y12 y13 y14 y15 y16 y17 y18 y19 y20 y21 y22 y23 y24 y25) H := hP
              have hD : va_D A (wS50 cI cJ cZ cB p0 p1 p2 p3 p4 p5 p6 p7 p8 p9 p10 p11 p12 p13 p14 p15 p16 p17 p18 p19 p20 p21 p22 p23 p24 p25 x0_4 x0_5 x0_6 x0_7 x0_8 x0_12 x0_13 x0_14 x0_15 x0_16 x0_17 x0_18 x0_22 x0_23 x0_24 x0_25 x0_26 x0_27 x0_28 x0_29 x0_30 x0_31 x0_32 x0_36 x0_39 x0_40 x0_44 x0_49 x0_51 x0_53 x0_54z6 x0_55z6 x0_56z6 x0_57 x0_58 x0_59 x0_60 x0_61 x0_62 y1 y2 y3 y4 y5 y6 y7 y8 y9 y10 y11 y12 y13 y14 y15 y16 y17 y18 y19 y20 y21 y22 y23 y24 y25) := hD
              refine lv_aload_n hx hb d_X_addressPart_296 rfl (lv_at hl 4 rfl) ?_
              refine sn_l (va_runV (C := "SignMachineModel") (As := []) (rest := []) ⟨hx, hb, hml, hown, hk⟩ (c_X_expression l D cI cJ cZ cB p0 p1 p2 p3 p4 p5 p6 p7 p8 p9 p10 p11 p12 p13 p14 p15 p16 p17 p18 p19 p20 p21 p22 p23 p24 p25 H.size x0_4 x0_5 x0_6 x0_7 x0_8 x0_12 x0_13 x0_14 x0_15 x0_16 x0_17 x0_18 x0_22 x0_23 x0_24 x0_25 x0_26 x0_27 x0_28 x0_29 x0_30 x0_31 x0_32 x0_36 x0_39 x0_40 x0_44 x0_49 x0_51 x0_53 x0_54z6 x0_55z6 x0_56z6 x0_57 x0_58 x0_59 x0_60 x0_61 x0_62 y1 y2 y3 y4 y5 y6 y7 y8 y9 y10 y11 y12 y13 y14 y15 y16 y17 y18 y19 y20 y21 y22 y23 y24 y25  Rx0_24 Rx0_25 Rx0_26 Rx0_30 Rx0_36 (rgw R12 (by decide) (by decide)) Ay13 Ay15 (show x0_25.toInt ≤ x0_24.toInt from by omega)) (v_X_expression hk k_1653 ⟨Nat.le_of_ble_eq_true rfl, Nat.le_of_ble_eq_true rfl⟩) (pM_v hK hP hD (ci := 7) (q0 := 0) rfl rfl rfl) rfl rfl hl.1 rfl (lv_room (Nat.le_of_ble_eq_true rfl)) d_X_addressPart_297 ⟨Nat.le_of_ble_eq_true rfl, Nat.le_of_ble_eq_true rfl⟩) hS hA hD (fun rz19 u t H locs hr0 ht hB hFr hS => ?_)
              subst hr0
              obtain ⟨x0_25z19, x0_26z19, x0_54z19, x0_55z19, x0_56z19, Rx0_25z19, Rx0_26z19, Rx0_54z19, F0z19, F1z19, F2z19, hP, hD⟩ := hB
              have F0z19 : (-1073741823) ≤ rz19.toInt ∧ rz19.toInt ≤ 1073741823 := F0z19
              have F1z19 : x0_25.toInt ≤ x0_25z19.toInt ∧ x0_25z19.toInt ≤ x0_24.toInt := F1z19
              have F2z19 : 1 ≤ x0_26.toInt → 1 ≤ x0_26z19.toInt := F2z19
              rw [ht] at hP
              have hD := dwk hD hFr
              clear ht hFr
              have hP : va_P D classes (wS50 cI cJ cZ cB p0 p1 p2 p3 p4 p5 p6 p7 p8 p9 p10 p11 p12 p13 p14 p15 p16 p17 p18 p19 p20 p21 p22 p23 p24 p25 x0_4 x0_5 x0_6 x0_7 x0_8 x0_12 x0_13 x0_14 x0_15 x0_16 x0_17 x0_18 x0_22 x0_23 x0_24 x0_25z19 x0_26z19 x0_27 x0_28 x0_29 x0_30 x0_31 x0_32 x0_36 x0_39 x0_40 x0_44 x0_49 x0_51 x0_53 x0_54z19 x0_55z19 x0_56z19 x0_57 x0_58 x0_59 x0_60 x0_61 x0_62 y1 y2 y3 y4 y5 y6 y7 y8 y9 y10 y11 y12 y13 y14 y15 y16 y17 y18 y19 y20 y21 y22 y23 y24 y25) H := hP
              have hD : va_D A (wS50 cI cJ cZ cB p0 p1 p2 p3 p4 p5 p6 p7 p8 p9 p10 p11 p12 p13 p14 p15 p16 p17 p18 p19 p20 p21 p22 p23 p24 p25 x0_4 x0_5 x0_6 x0_7 x0_8 x0_12 x0_13 x0_14 x0_15 x0_16 x0_17 x0_18 x0_22 x0_23 x0_24 x0_25z19 x0_26z19 x0_27 x0_28 x0_29 x0_30 x0_31 x0_32 x0_36 x0_39 x0_40 x0_44 x0_49 x0_51 x0_53 x0_54z19 x0_55z19 x0_56z19 x0_57 x0_58 x0_59 x0_60 x0_61 x0_62 y1 y2 y3 y4 y5 y6 y7 y8 y9 y10 y11 y12 y13 y14 y15 y16 y17 y18 y19 y20 y21 y22 y23 y24 y25) := hD
              exact W.lret (v := rz19) hx hb hr (fun t ht hW => ⟨⟨rz19, rz19, rfl, rfl, ⟨x0_25z19, x0_26z19, x0_36, x0_51, x0_53, x0_54z19, x0_55z19, x0_56z19, x0_57, x0_58, x0_59, x0_60, y11, y12, y23, y24, Rx0_25z19, Rx0_26z19, Rx0_36, Rx0_51, Rx0_53, Rx0_54z19, Rx0_57, Rx0_58, Rx0_59, Rx0_60, Ay23, Ay24, F0z19, (by omega), (by omega), (by omega), (by omega), by show va_P D classes _ t.heap; rw [ht]; exact hP, hD⟩⟩, hS.F ht⟩) hS.2.2 d_X_addressPart_300
            · have gc17 : rz16.toInt ≠ 0 := c_ne c17
              have R20 : 1 ≤ rz16.toInt ∧ rz16.toInt ≤ 1 := by omega
              refine lv_aload_n hx hb d_X_addressPart_268 rfl (lv_at hl 4 rfl) ?_
              refine lv_iconst (v := 1) hx hb d_X_addressPart_269 (by decide) ?_
              refine va_put (D := D) (ci := 7) (v := .int (1 : Int32)) (ty := .boolean) (C := "SignMachineModel") (T := F_X) (N := 64) hx hb hk fi_X ft_X ft_X_ok fn_X hown hK.1 hP hD hS 0 rfl rfl 59 (by decide) (hk _ k_1180) (fun _ h9 => h9) rfl (by decide +kernel) rfl rfl (Nat.le_of_ble_eq_true rfl) d_X_addressPart_270 (fun H locs hP hD hS => ?_)
              have hP : va_P D classes (wS50 cI cJ cZ cB p0 p1 p2 p3 p4 p5 p6 p7 p8 p9 p10 p11 p12 p13 p14 p15 p16 p17 p18 p19 p20 p21 p22 p23 p24 p25 x0_4 x0_5 x0_6 x0_7 x0_8 x0_12 x0_13 x0_14 x0_15 x0_16 x0_17 x0_18 x0_22 x0_23 x0_24 x0_25z6 x0_26z6 x0_27 x0_28 x0_29 x0_30 x0_31 x0_32 x0_36 x0_39 x0_40 x0_44 x0_49 x0_51 x0_53 x0_54z6 x0_55z6 x0_56z6 x0_57 x0_58 (1 : Int32) x0_60 x0_61 x0_62 y1 y2 y3 y4 y5 y6 y7 y8 y9 y10 y11 y12 y13 y14 y15 y16 y17 y18 y19 y20 y21 y22 y23 y24 y25) H := hP
              have hD : va_D A (wS50 cI cJ cZ cB p0 p1 p2 p3 p4 p5 p6 p7 p8 p9 p10 p11 p12 p13 p14 p15 p16 p17 p18 p19 p20 p21 p22 p23 p24 p25 x0_4 x0_5 x0_6 x0_7 x0_8 x0_12 x0_13 x0_14 x0_15 x0_16 x0_17 x0_18 x0_22 x0_23 x0_24 x0_25z6 x0_26z6 x0_27 x0_28 x0_29 x0_30 x0_31 x0_32 x0_36 x0_39 x0_40 x0_44 x0_49 x0_51 x0_53 x0_54z6 x0_55z6 x0_56z6 x0_57 x0_58 (1 : Int32) x0_60 x0_61 x0_62 y1 y2 y3 y4 y5 y6 y7 y8 y9 y10 y11 y12 y13 y14 y15 y16 y17 y18 y19 y20 y21 y22 y23 y24 y25) := hD
              refine lv_aload_n hx hb d_X_addressPart_273 rfl (lv_at hl 4 rfl) ?_
              refine lv_iconst (v := (-1)) hx hb d_X_addressPart_274 (by decide) ?_
              refine lv_aload_n hx hb d_X_addressPart_275 rfl (lv_at hl 4 rfl) ?_
              refine va_get (D := D) (ci := 7) (v := .long x0_55z6) (C := "SignMachineModel") (T := F_X) (N := 64) hx hb hk fi_X hown hK.1 hP 0 rfl rfl 55 (by decide) (hk _ k_1176) (fun _ h9 => h9) rfl d_X_addressPart_276 ?_
              have R21 : 0 ≤ x0_55z6.toInt ∧ x0_55z6.toInt ≤ 9 := by omega
              refine lv_l2i (v := (x0_55z6 : Int64).toInt32) hx hb d_X_addressPart_279 rfl ?_
              refine lv_topi (fun v22 hv22 => ?_)
              obtain ⟨ev22, Rv22⟩ : v22.toInt = x0_55z6.toInt ∧ (0 ≤ v22.toInt ∧ v22.toInt ≤ 9) := li3 hv22 R21 (by decide) (by decide)
              refine lv_isub hx hb d_X_addressPart_280 ?_
              refine lv_topi (fun v23 hv23 => ?_)
              obtain ⟨ev23, Rv23⟩ : v23.toInt = (-1) - v22.toInt ∧ ((-10) ≤ v23.toInt ∧ v23.toInt ≤ (-1)) := sb3 hv23 (by decide) Rv22 (by decide) (by decide) (by decide) (by decide)
              refine va_put (D := D) (ci := 7) (v := .int v23) (ty := .int) (C := "SignMachineModel") (T := F_X) (N := 64) hx hb hk fi_X ft_X ft_X_ok fn_X hown hK.1 hP hD hS 0 rfl rfl 60 (by decide) (hk _ k_1181) (fun _ h9 => h9) rfl (by decide +kernel) rfl rfl (Nat.le_of_ble_eq_true rfl) d_X_addressPart_281 (fun H locs hP hD hS => ?_)
              have hP : va_P D classes (wS50 cI cJ cZ cB p0 p1 p2 p3 p4 p5 p6 p7 p8 p9 p10 p11 p12 p13 p14 p15 p16 p17 p18 p19 p20 p21 p22 p23 p24 p25 x0_4 x0_5 x0_6 x0_7 x0_8 x0_12 x0_13 x0_14 x0_15 x0_16 x0_17 x0_18 x0_22 x0_23 x0_24 x0_25z6 x0_26z6 x0_27 x0_28 x0_29 x0_30 x0_31 x0_32 x0_36 x0_39 x0_40 x0_44 x0_49 x0_51 x0_53 x0_54z6 x0_55z6 x0_56z6 x0_57 x0_58 (1 : Int32) v23 x0_61 x0_62 y1 y2 y3 y4 y5 y6 y7 y8 y9 y10 y11 y12 y13 y14 y15 y16 y17 y18 y19 y20 y21 y22 y23 y24 y25) H := hP
              have hD : va_D A (wS50 cI cJ cZ cB p0 p1 p2 p3 p4 p5 p6 p7 p8 p9 p10 p11 p12 p13 p14 p15 p16 p17 p18 p19 p20 p21 p22 p23 p24 p25 x0_4 x0_5 x0_6 x0_7 x0_8 x0_12 x0_13 x0_14 x0_15 x0_16 x0_17 x0_18 x0_22 x0_23 x0_24 x0_25z6 x0_26z6 x0_27 x0_28 x0_29 x0_30 x0_31 x0_32 x0_36 x0_39 x0_40 x0_44 x0_49 x0_51 x0_53 x0_54z6 x0_55z6 x0_56z6 x0_57 x0_58 (1 : Int32) v23 x0_61 x0_62 y1 y2 y3 y4 y5 y6 y7 y8 y9 y10 y11 y12 y13 y14 y15 y16 y17 y18 y19 y20 y21 y22 y23 y24 y25) := hD
              refine lv_lconst (v := 0) hx hb d_X_addressPart_284 (by decide) ?_
              exact W.lret (v := (0 : Int64)) hx hb hr (fun t ht hW => ⟨⟨(0 : Int64), (0 : Int64), rfl, rfl, ⟨x0_25z6, x0_26z6, x0_36, x0_51, x0_53, x0_54z6, x0_55z6, x0_56z6, x0_57, x0_58, (1 : Int32), v23, y11, y12, y23, y24, Rx0_25z6, Rx0_26z6, Rx0_36, Rx0_51, Rx0_53, (rgw R12 (by decide) (by decide)), Rx0_57, Rx0_58, (by decide), (rgw Rv23 (by decide) (by decide)), Ay23, Ay24, (by decide), (by omega), (by omega), (by omega), (by omega), by show va_P D classes _ t.heap; rw [ht]; exact hP, hD⟩⟩, hS.F ht⟩) hS.2.2 d_X_addressPart_285
      · have gc7 : x0_54z6.toInt = 2 := c_eq c7
        have R24 : 2 ≤ x0_54z6.toInt ∧ x0_54z6.toInt ≤ 2 := by omega
        refine lv_aload_n hx hb d_X_addressPart_178 rfl (lv_at hl 3 rfl) ?_
        refine sn_i (va_runV (C := "SignMachineModel") (As := []) (rest := []) ⟨hx, hb, hml, hown, hk⟩ (c_X_isAlone l D cI cJ cZ cB p0 p1 p2 p3 p4 p5 p6 p7 p8 p9 p10 p11 p12 p13 p14 p15 p16 p17 p18 p19 p20 p21 p22 p23 p24 p25 H.size x0_4 x0_5 x0_6 x0_7 x0_8 x0_12 x0_13 x0_14 x0_15 x0_16 x0_17 x0_18 x0_22 x0_23 x0_24 x0_25z6 x0_26z6 x0_27 x0_28 x0_29 x0_30 x0_31 x0_32 x0_36 x0_39 x0_40 x0_44 x0_49 x0_51 x0_53 x0_54z6 x0_55z6 x0_56z6 x0_57 x0_58 x0_59 x0_60 x0_61 x0_62 y1 y2 y3 y4 y5 y6 y7 y8 y9 y10 y11 y12 y13 y14 y15 y16 y17 y18 y19 y20 y21 y22 y23 y24 y25  Rx0_24 Rx0_25z6) (v_X_isAlone hk k_1695 ⟨Nat.le_of_ble_eq_true rfl, Nat.le_of_ble_eq_true rfl⟩) (pM_v hK hP hD (ci := 7) (q0 := 0) rfl rfl rfl) rfl rfl hl.1 rfl (lv_room (Nat.le_of_ble_eq_true rfl)) d_X_addressPart_179 ⟨Nat.le_of_ble_eq_true rfl, Nat.le_of_ble_eq_true rfl⟩) hS hA hD (fun rz25 u t H locs hr0 ht hB hFr hS => ?_)
        subst hr0
        obtain ⟨F0z25, hP, hD⟩ := hB
        have F0z25 : 0 ≤ rz25.toInt ∧ rz25.toInt ≤ 1 := F0z25
        rw [ht] at hP
        have hD := dwk hD hFr
        clear ht hFr
        have hP : va_P D classes (wS50 cI cJ cZ cB p0 p1 p2 p3 p4 p5 p6 p7 p8 p9 p10 p11 p12 p13 p14 p15 p16 p17 p18 p19 p20 p21 p22 p23 p24 p25 x0_4 x0_5 x0_6 x0_7 x0_8 x0_12 x0_13 x0_14 x0_15 x0_16 x0_17 x0_18 x0_22 x0_23 x0_24 x0_25z6 x0_26z6 x0_27 x0_28 x0_29 x0_30 x0_31 x0_32 x0_36 x0_39 x0_40 x0_44 x0_49 x0_51 x0_53 x0_54z6 x0_55z6 x0_56z6 x0_57 x0_58 x0_59 x0_60 x0_61 x0_62 y1 y2 y3 y4 y5 y6 y7 y8 y9 y10 y11 y12 y13 y14 y15 y16 y17 y18 y19 y20 y21 y22 y23 y24 y25) H := hP
        have hD : va_D A (wS50 cI cJ cZ cB p0 p1 p2 p3 p4 p5 p6 p7 p8 p9 p10 p11 p12 p13 p14 p15 p16 p17 p18 p19 p20 p21 p22 p23 p24 p25 x0_4 x0_5 x0_6 x0_7 x0_8 x0_12 x0_13 x0_14 x0_15 x0_16 x0_17 x0_18 x0_22 x0_23 x0_24 x0_25z6 x0_26z6 x0_27 x0_28 x0_29 x0_30 x0_31 x0_32 x0_36 x0_39 x0_40 x0_44 x0_49 x0_51 x0_53 x0_54z6 x0_55z6 x0_56z6 x0_57 x0_58 x0_59 x0_60 x0_61 x0_62 y1 y2 y3 y4 y5 y6 y7 y8 y9 y10 y11 y12 y13 y14 y15 y16 y17 y18 y19 y20 y21 y22 y23 y24 y25) := hD
        refine lv_if_eq (tgt := 218) hx hb d_X_addressPart_182 (by decide) (fun c26 => ?_) (fun c26 => ?_)
        · have gc26 : rz25.toInt = 0 := c_eq c26
          have R27 : 0 ≤ rz25.toInt ∧ rz25.toInt ≤ 0 := by omega
          refine lv_iconst (v := 0) hx hb d_X_addressPart_218 (by decide) ?_
          refine lv_istore (lv' := [(4, .int (0 : Int32)), (3, .int x0_26), (2, .int x0_25), (1, .int rz1), (0, .ref p0)]) hx hb d_X_addressPart_219 hl (by decide) rfl (fun ls hl => ?_)
          refine lv_iload hx hb d_X_addressPart_221 (lv_at hl 0 rfl) ?_
          refine lv_if_eq (tgt := 244) hx hb d_X_addressPart_223 (by decide) (fun c28 => ?_) (fun c28 => absurd (show (0 : Int32) = (0 : Int32) from (by decide)) c28)
          refine lv_aload_n hx hb d_X_addressPart_244 rfl (lv_at hl 4 rfl) ?_
          refine va_get (D := D) (ci := 7) (v := .int x0_54z6) (C := "SignMachineModel") (T := F_X) (N := 64) hx hb hk fi_X hown hK.1 hP 0 rfl rfl 54 (by decide) (hk _ k_1175) (fun _ h9 => h9) rfl d_X_addressPart_245 ?_
          refine lv_iconst (v := 3) hx hb d_X_addressPart_248 (by decide) ?_
          refine lv_icmp_ne (tgt := 286) hx hb d_X_addressPart_249 (by decide) (fun c29 => ?_) (fun c29 => absurd c29 (show ¬ x0_54z6 = (3 : Int32) from (fun q => by have := c_eq q; omega)))
          refine lv_aload_n hx hb d_X_addressPart_286 rfl (lv_at hl 4 rfl) ?_
          refine lv_iload_n hx hb d_X_addressPart_287 rfl (lv_at hl 2 rfl) ?_
          refine va_put (D := D) (ci := 7) (v := .int x0_25) (ty := .int) (C := "SignMachineModel") (T := F_X) (N := 64) hx hb hk fi_X ft_X ft_X_ok fn_X hown hK.1 hP hD hS 0 rfl rfl 25 (by decide) (hk _ k_1146) (fun _ h9 => h9) rfl (by decide +kernel) rfl rfl (Nat.le_of_ble_eq_true rfl) d_X_addressPart_288 (fun H locs hP hD hS => ?_)
          have hP : va_P D classes (wS50 cI cJ cZ cB p0 p1 p2 p3 p4 p5 p6 p7 p8 p9 p10 p11 p12 p13 p14 p15 p16 p17 p18 p19 p20 p21 p22 p23 p24 p25 x0_4 x0_5 x0_6 x0_7 x0_8 x0_12 x0_13 x0_14 x0_15 x0_16 x0_17 x0_18 x0_22 x0_23 x0_24 x0_25 x0_26z6 x0_27 x0_28 x0_29 x0_30 x0_31 x0_32 x0_36 x0_39 x0_40 x0_44 x0_49 x0_51 x0_53 x0_54z6 x0_55z6 x0_56z6 x0_57 x0_58 x0_59 x0_60 x0_61 x0_62 y1 y2 y3 y4 y5 y6 y7 y8 y9 y10 y11 y12 y13 y14 y15 y16 y17 y18 y19 y20 y21 y22 y23 y24 y25) H := hP
          have hD : va_D A (wS50 cI cJ cZ cB p0 p1 p2 p3 p4 p5 p6 p7 p8 p9 p10 p11 p12 p13 p14 p15 p16 p17 p18 p19 p20 p21 p22 p23 p24 p25 x0_4 x0_5 x0_6 x0_7 x0_8 x0_12 x0_13 x0_14 x0_15 x0_16 x0_17 x0_18 x0_22 x0_23 x0_24 x0_25 x0_26z6 x0_27 x0_28 x0_29 x0_30 x0_31 x0_32 x0_36 x0_39 x0_40 x0_44 x0_49 x0_51 x0_53 x0_54z6 x0_55z6 x0_56z6 x0_57 x0_58 x0_59 x0_60 x0_61 x0_62 y1 y2 y3 y4 y5 y6 y7 y8 y9 y10 y11 y12 y13 y14 y15 y16 y17 y18 y19 y20 y21 y22 y23 y24 y25) := hD
          refine lv_aload_n hx hb d_X_addressPart_291 rfl (lv_at hl 4 rfl) ?_
          refine lv_iload_n hx hb d_X_addressPart_292 rfl (lv_at hl 1 rfl) ?_
          refine va_put (D := D) (ci := 7) (v := .int x0_26) (ty := .int) (C := "SignMachineModel") (T := F_X) (N := 64) hx hb hk fi_X ft_X ft_X_ok fn_X hown hK.1 hP hD hS 0 rfl rfl 26 (by decide) (hk _ k_1147) (fun _ h9 => h9) rfl (by decide +kernel) rfl rfl (Nat.le_of_ble_eq_true rfl) d_X_addressPart_293 (fun H locs hP hD hS => ?_)
          have hP : va_P D classes (wS50 cI cJ cZ cB p0 p1 p2 p3 p4 p5 p6 p7 p8 p9 p10 p11 p12 p13 p14 p15 p16 p17 p18 p19 p20 p21 p22 p23 p24 p25 x0_4 x0_5 x0_6 x0_7 x0_8 x0_12 x0_13 x0_14 x0_15 x0_16 x0_17 x0_18 x0_22 x0_23 x0_24 x0_25 x0_26 x0_27 x0_28 x0_29 x0_30 x0_31 x0_32 x0_36 x0_39 x0_40 x0_44 x0_49 x0_51 x0_53 x0_54z6 x0_55z6 x0_56z6 x0_57 x0_58 x0_59 x0_60 x0_61 x0_62 y1 y2 y3 y4 y5 y6 y7 y8 y9 y10 y11 y12 y13 y14 y15 y16 y17 y18 y19 y20 y21 y22 y23 y24 y25) H := hP
          have hD : va_D A (wS50 cI cJ cZ cB p0 p1 p2 p3 p4 p5 p6 p7 p8 p9 p10 p11 p12 p13 p14 p15 p16 p17 p18 p19 p20 p21 p22 p23 p24 p25 x0_4 x0_5 x0_6 x0_7 x0_8 x0_12 x0_13 x0_14 x0_15 x0_16 x0_17 x0_18 x0_22 x0_23 x0_24 x0_25 x0_26 x0_27 x0_28 x0_29 x0_30 x0_31 x0_32 x0_36 x0_39 x0_40 x0_44 x0_49 x0_51 x0_53 x0_54z6 x0_55z6 x0_56z6 x0_57 x0_58 x0_59 x0_60 x0_61 x0_62 y1 y2 y3 y4 y5 y6 y7 y8 y9 y10 y11 y12 y13 y14 y15 y16 y17 y18 y19 y20 y21 y22 y23 y24 y25) := hD
          refine lv_aload_n hx hb d_X_addressPart_296 rfl (lv_at hl 4 rfl) ?_
          refine sn_l (va_runV (C := "SignMachineModel") (As := []) (rest := []) ⟨hx, hb, hml, hown, hk⟩ (c_X_expression l D cI cJ cZ cB p0 p1 p2 p3 p4 p5 p6 p7 p8 p9 p10 p11 p12 p13 p14 p15 p16 p17 p18 p19 p20 p21 p22 p23 p24 p25 H.size x0_4 x0_5 x0_6 x0_7 x0_8 x0_12 x0_13 x0_14 x0_15 x0_16 x0_17 x0_18 x0_22 x0_23 x0_24 x0_25 x0_26 x0_27 x0_28 x0_29 x0_30 x0_31 x0_32 x0_36 x0_39 x0_40 x0_44 x0_49 x0_51 x0_53 x0_54z6 x0_55z6 x0_56z6 x0_57 x0_58 x0_59 x0_60 x0_61 x0_62 y1 y2 y3 y4 y5 y6 y7 y8 y9 y10 y11 y12 y13 y14 y15 y16 y17 y18 y19 y20 y21 y22 y23 y24 y25  Rx0_24 Rx0_25 Rx0_26 Rx0_30 Rx0_36 (rgw R24 (by decide) (by decide)) Ay13 Ay15 (show x0_25.toInt ≤ x0_24.toInt from by omega)) (v_X_expression hk k_1653 ⟨Nat.le_of_ble_eq_true rfl, Nat.le_of_ble_eq_true rfl⟩) (pM_v hK hP hD (ci := 7) (q0 := 0) rfl rfl rfl) rfl rfl hl.1 rfl (lv_room (Nat.le_of_ble_eq_true rfl)) d_X_addressPart_297 ⟨Nat.le_of_ble_eq_true rfl, Nat.le_of_ble_eq_true rfl⟩) hS hA hD (fun rz30 u t H locs hr0 ht hB hFr hS => ?_)
          subst hr0
          obtain ⟨x0_25z30, x0_26z30, x0_54z30, x0_55z30, x0_56z30, Rx0_25z30, Rx0_26z30, Rx0_54z30, F0z30, F1z30, F2z30, hP, hD⟩ := hB
          have F0z30 : (-1073741823) ≤ rz30.toInt ∧ rz30.toInt ≤ 1073741823 := F0z30
          have F1z30 : x0_25.toInt ≤ x0_25z30.toInt ∧ x0_25z30.toInt ≤ x0_24.toInt := F1z30
          have F2z30 : 1 ≤ x0_26.toInt → 1 ≤ x0_26z30.toInt := F2z30
          rw [ht] at hP
          have hD := dwk hD hFr
          clear ht hFr
          have hP : va_P D classes (wS50 cI cJ cZ cB p0 p1 p2 p3 p4 p5 p6 p7 p8 p9 p10 p11 p12 p13 p14 p15 p16 p17 p18 p19 p20 p21 p22 p23 p24 p25 x0_4 x0_5 x0_6 x0_7 x0_8 x0_12 x0_13 x0_14 x0_15 x0_16 x0_17 x0_18 x0_22 x0_23 x0_24 x0_25z30 x0_26z30 x0_27 x0_28 x0_29 x0_30 x0_31 x0_32 x0_36 x0_39 x0_40 x0_44 x0_49 x0_51 x0_53 x0_54z30 x0_55z30 x0_56z30 x0_57 x0_58 x0_59 x0_60 x0_61 x0_62 y1 y2 y3 y4 y5 y6 y7 y8 y9 y10 y11 y12 y13 y14 y15 y16 y17 y18 y19 y20 y21 y22 y23 y24 y25) H := hP
          have hD : va_D A (wS50 cI cJ cZ cB p0 p1 p2 p3 p4 p5 p6 p7 p8 p9 p10 p11 p12 p13 p14 p15 p16 p17 p18 p19 p20 p21 p22 p23 p24 p25 x0_4 x0_5 x0_6 x0_7 x0_8 x0_12 x0_13 x0_14 x0_15 x0_16 x0_17 x0_18 x0_22 x0_23 x0_24 x0_25z30 x0_26z30 x0_27 x0_28 x0_29 x0_30 x0_31 x0_32 x0_36 x0_39 x0_40 x0_44 x0_49 x0_51 x0_53 x0_54z30 x0_55z30 x0_56z30 x0_57 x0_58 x0_59 x0_60 x0_61 x0_62 y1 y2 y3 y4 y5 y6 y7 y8 y9 y10 y11 y12 y13 y14 y15 y16 y17 y18 y19 y20 y21 y22 y23 y24 y25) := hD
          exact W.lret (v := rz30) hx hb hr (fun t ht hW => ⟨⟨rz30, rz30, rfl, rfl, ⟨x0_25z30, x0_26z30, x0_36, x0_51, x0_53, x0_54z30, x0_55z30, x0_56z30, x0_57, x0_58, x0_59, x0_60, y11, y12, y23, y24, Rx0_25z30, Rx0_26z30, Rx0_36, Rx0_51, Rx0_53, Rx0_54z30, Rx0_57, Rx0_58, Rx0_59, Rx0_60, Ay23, Ay24, F0z30, (by omega), (by omega), (by omega), (by omega), by show va_P D classes _ t.heap; rw [ht]; exact hP, hD⟩⟩, hS.F ht⟩) hS.2.2 d_X_addressPart_300
        · have gc26 : rz25.toInt ≠ 0 := c_ne c26
          have R31 : 1 ≤ rz25.toInt ∧ rz25.toInt ≤ 1 := by omega
          refine lv_aload_n hx hb d_X_addressPart_185 rfl (lv_at hl 3 rfl) ?_
          refine lv_aload_n hx hb d_X_addressPart_186 rfl (lv_at hl 3 rfl) ?_
          refine va_get (D := D) (ci := 7) (v := .long x0_55z6) (C := "SignMachineModel") (T := F_X) (N := 64) hx hb hk fi_X hown hK.1 hP 0 rfl rfl 55 (by decide) (hk _ k_1176) (fun _ h9 => h9) rfl d_X_addressPart_187 ?_
          refine sn_i (va_runV (C := "SignMachineModel") (As := [.long x0_55z6]) (rest := []) ⟨hx, hb, hml, hown, hk⟩ (c_X_findSymbol l D cI cJ cZ cB p0 p1 p2 p3 p4 p5 p6 p7 p8 p9 p10 p11 p12 p13 p14 p15 p16 p17 p18 p19 p20 p21 p22 p23 p24 p25 H.size x0_4 x0_5 x0_6 x0_7 x0_8 x0_12 x0_13 x0_14 x0_15 x0_16 x0_17 x0_18 x0_22 x0_23 x0_24 x0_25z6 x0_26z6 x0_27 x0_28 x0_29 x0_30 x0_31 x0_32 x0_36 x0_39 x0_40 x0_44 x0_49 x0_51 x0_53 x0_54z6 x0_55z6 x0_56z6 x0_57 x0_58 x0_59 x0_60 x0_61 x0_62 y1 y2 y3 y4 y5 y6 y7 y8 y9 y10 y11 y12 y13 y14 y15 y16 y17 y18 y19 y20 y21 y22 y23 y24 y25 x0_55z6 Rx0_36) (v_X_findSymbol hk k_1626 ⟨Nat.le_of_ble_eq_true rfl, Nat.le_of_ble_eq_true rfl⟩) (pM_v hK hP hD (ci := 7) (q0 := 0) rfl rfl rfl) rfl rfl hl.1 rfl (lv_room (Nat.le_of_ble_eq_true rfl)) d_X_addressPart_190 ⟨Nat.le_of_ble_eq_true rfl, Nat.le_of_ble_eq_true rfl⟩) hS hA hD (fun rz32 u t H locs hr0 ht hB hFr hS => ?_)
          subst hr0
          obtain ⟨F0z32, F1z32, F2z32, hP, hD⟩ := hB
          have F0z32 : (-2) ≤ rz32.toInt ∧ rz32.toInt ≤ 59 := F0z32
          have F1z32 : rz32.toInt = -2 ∨ (0 ≤ rz32.toInt ∧ rz32.toInt < x0_36.toInt) := F1z32
          have F2z32 : (rz32.toInt = -2 ∧ nsI y11 x0_36.toInt x0_55z6 = 0) ∨ (rz32.toInt ≠ -2 ∧ nsI y11 x0_36.toInt x0_55z6 = 1) := F2z32
          rw [ht] at hP
          have hD := dwk hD hFr
          clear ht hFr
          have hP : va_P D classes (wS50 cI cJ cZ cB p0 p1 p2 p3 p4 p5 p6 p7 p8 p9 p10 p11 p12 p13 p14 p15 p16 p17 p18 p19 p20 p21 p22 p23 p24 p25 x0_4 x0_5 x0_6 x0_7 x0_8 x0_12 x0_13 x0_14 x0_15 x0_16 x0_17 x0_18 x0_22 x0_23 x0_24 x0_25z6 x0_26z6 x0_27 x0_28 x0_29 x0_30 x0_31 x0_32 x0_36 x0_39 x0_40 x0_44 x0_49 x0_51 x0_53 x0_54z6 x0_55z6 x0_56z6 x0_57 x0_58 x0_59 x0_60 x0_61 x0_62 y1 y2 y3 y4 y5 y6 y7 y8 y9 y10 y11 y12 y13 y14 y15 y16 y17 y18 y19 y20 y21 y22 y23 y24 y25) H := hP
          have hD : va_D A (wS50 cI cJ cZ cB p0 p1 p2 p3 p4 p5 p6 p7 p8 p9 p10 p11 p12 p13 p14 p15 p16 p17 p18 p19 p20 p21 p22 p23 p24 p25 x0_4 x0_5 x0_6 x0_7 x0_8 x0_12 x0_13 x0_14 x0_15 x0_16 x0_17 x0_18 x0_22 x0_23 x0_24 x0_25z6 x0_26z6 x0_27 x0_28 x0_29 x0_30 x0_31 x0_32 x0_36 x0_39 x0_40 x0_44 x0_49 x0_51 x0_53 x0_54z6 x0_55z6 x0_56z6 x0_57 x0_58 x0_59 x0_60 x0_61 x0_62 y1 y2 y3 y4 y5 y6 y7 y8 y9 y10 y11 y12 y13 y14 y15 y16 y17 y18 y19 y20 y21 y22 y23 y24 y25) := hD
          refine lv_bipush (v := (-2)) hx hb d_X_addressPart_193 (by decide) ?_
          refine lv_icmp_eq (tgt := 214) hx hb d_X_addressPart_195 (by decide) (fun c33 => ?_) (fun c33 => ?_)
          · have gc33 : rz32.toInt = (-2) := c_eq c33
            have R34 : (-2) ≤ rz32.toInt ∧ rz32.toInt ≤ (-2) := by omega
            refine lv_iconst (v := 1) hx hb d_X_addressPart_214 (by decide) ?_
            refine lv_goto (tgt := 219) hx hb d_X_addressPart_215 (by decide) ?_
            refine lv_istore (lv' := [(4, .int (1 : Int32)), (3, .int x0_26), (2, .int x0_25), (1, .int rz1), (0, .ref p0)]) hx hb d_X_addressPart_219 hl (by decide) rfl (fun ls hl => ?_)
            refine lv_iload hx hb d_X_addressPart_221 (lv_at hl 0 rfl) ?_
            refine lv_if_eq (tgt := 244) hx hb d_X_addressPart_223 (by decide) (fun c35 => absurd c35 (show ¬ (1 : Int32) = (0 : Int32) from (by decide))) (fun c35 => ?_)
            refine lv_aload_n hx hb d_X_addressPart_226 rfl (lv_at hl 4 rfl) ?_
            refine va_get (D := D) (ci := 7) (v := .int x0_26z6) (C := "SignMachineModel") (T := F_X) (N := 64) hx hb hk fi_X hown hK.1 hP 0 rfl rfl 26 (by decide) (hk _ k_1147) (fun _ h9 => h9) rfl d_X_addressPart_227 ?_
            refine lv_iload_n hx hb d_X_addressPart_230 rfl (lv_at hl 1 rfl) ?_
            refine lv_icmp_ne (tgt := 244) hx hb d_X_addressPart_231 (by decide) (fun c36 => ?_) (fun c36 => ?_)
            · have gc36 : x0_26z6.toInt ≠ x0_26.toInt := c_ne c36
              refine lv_aload_n hx hb d_X_addressPart_244 rfl (lv_at hl 4 rfl) ?_
              refine va_get (D := D) (ci := 7) (v := .int x0_54z6) (C := "SignMachineModel") (T := F_X) (N := 64) hx hb hk fi_X hown hK.1 hP 0 rfl rfl 54 (by decide) (hk _ k_1175) (fun _ h9 => h9) rfl d_X_addressPart_245 ?_
              refine lv_iconst (v := 3) hx hb d_X_addressPart_248 (by decide) ?_
              refine lv_icmp_ne (tgt := 286) hx hb d_X_addressPart_249 (by decide) (fun c37 => ?_) (fun c37 => absurd c37 (show ¬ x0_54z6 = (3 : Int32) from (fun q => by have := c_eq q; omega)))
              refine lv_aload_n hx hb d_X_addressPart_286 rfl (lv_at hl 4 rfl) ?_
              refine lv_iload_n hx hb d_X_addressPart_287 rfl (lv_at hl 2 rfl) ?_
              refine va_put (D := D) (ci := 7) (v := .int x0_25) (ty := .int) (C := "SignMachineModel") (T := F_X) (N := 64) hx hb hk fi_X ft_X ft_X_ok fn_X hown hK.1 hP hD hS 0 rfl rfl 25 (by decide) (hk _ k_1146) (fun _ h9 => h9) rfl (by decide +kernel) rfl rfl (Nat.le_of_ble_eq_true rfl) d_X_addressPart_288 (fun H locs hP hD hS => ?_)
              have hP : va_P D classes (wS50 cI cJ cZ cB p0 p1 p2 p3 p4 p5 p6 p7 p8 p9 p10 p11 p12 p13 p14 p15 p16 p17 p18 p19 p20 p21 p22 p23 p24 p25 x0_4 x0_5 x0_6 x0_7 x0_8 x0_12 x0_13 x0_14 x0_15 x0_16 x0_17 x0_18 x0_22 x0_23 x0_24 x0_25 x0_26z6 x0_27 x0_28 x0_29 x0_30 x0_31 x0_32 x0_36 x0_39 x0_40 x0_44 x0_49 x0_51 x0_53 x0_54z6 x0_55z6 x0_56z6 x0_57 x0_58 x0_59 x0_60 x0_61 x0_62 y1 y2 y3 y4 y5 y6 y7 y8 y9 y10 y11 y12 y13 y14 y15 y16 y17 y18 y19 y20 y21 y22 y23 y24 y25) H := hP
              have hD : va_D A (wS50 cI cJ cZ cB p0 p1 p2 p3 p4 p5 p6 p7 p8 p9 p10 p11 p12 p13 p14 p15 p16 p17 p18 p19 p20 p21 p22 p23 p24 p25 x0_4 x0_5 x0_6 x0_7 x0_8 x0_12 x0_13 x0_14 x0_15 x0_16 x0_17 x0_18 x0_22 x0_23 x0_24 x0_25 x0_26z6 x0_27 x0_28 x0_29 x0_30 x0_31 x0_32 x0_36 x0_39 x0_40 x0_44 x0_49 x0_51 x0_53 x0_54z6 x0_55z6 x0_56z6 x0_57 x0_58 x0_59 x0_60 x0_61 x0_62 y1 y2 y3 y4 y5 y6 y7 y8 y9 y10 y11 y12 y13 y14 y15 y16 y17 y18 y19 y20 y21 y22 y23 y24 y25) := hD
              refine lv_aload_n hx hb d_X_addressPart_291 rfl (lv_at hl 4 rfl) ?_
              refine lv_iload_n hx hb d_X_addressPart_292 rfl (lv_at hl 1 rfl) ?_
              refine va_put (D := D) (ci := 7) (v := .int x0_26) (ty := .int) (C := "SignMachineModel") (T := F_X) (N := 64) hx hb hk fi_X ft_X ft_X_ok fn_X hown hK.1 hP hD hS 0 rfl rfl 26 (by decide) (hk _ k_1147) (fun _ h9 => h9) rfl (by decide +kernel) rfl rfl (Nat.le_of_ble_eq_true rfl) d_X_addressPart_293 (fun H locs hP hD hS => ?_)
              have hP : va_P D classes (wS50 cI cJ cZ cB p0 p1 p2 p3 p4 p5 p6 p7 p8 p9 p10 p11 p12 p13 p14 p15 p16 p17 p18 p19 p20 p21 p22 p23 p24 p25 x0_4 x0_5 x0_6 x0_7 x0_8 x0_12 x0_13 x0_14 x0_15 x0_16 x0_17 x0_18 x0_22 x0_23 x0_24 x0_25 x0_26 x0_27 x0_28 x0_29 x0_30 x0_31 x0_32 x0_36 x0_39 x0_40 x0_44 x0_49 x0_51 x0_53 x0_54z6 x0_55z6 x0_56z6 x0_57 x0_58 x0_59 x0_60 x0_61 x0_62 y1 y2 y3 y4 y5 y6 y7 y8 y9 y10 y11 y12 y13 y14 y15 y16 y17 y18 y19 y20 y21 y22 y23 y24 y25) H := hP
              have hD : va_D A (wS50 cI cJ cZ cB p0 p1 p2 p3 p4 p5 p6 p7 p8 p9 p10 p11 p12 p13 p14 p15 p16 p17 p18 p19 p20 p21 p22 p23 p24 p25 x0_4 x0_5 x0_6 x0_7 x0_8 x0_12 x0_13 x0_14 x0_15 x0_16 x0_17 x0_18 x0_22 x0_23 x0_24 x0_25 x0_26 x0_27 x0_28 x0_29 x0_30 x0_31 x0_32 x0_36 x0_39 x0_40 x0_44 x0_49 x0_51 x0_53 x0_54z6 x0_55z6 x0_56z6 x0_57 x0_58 x0_59 x0_60 x0_61 x0_62 y1 y2 y3 y4 y5 y6 y7 y8 y9 y10 y11 y12 y13 y14 y15 y16 y17 y18 y19 y20 y21 y22 y23 y24 y25) := hD
              refine lv_aload_n hx hb d_X_addressPart_296 rfl (lv_at hl 4 rfl) ?_
              refine sn_l (va_runV (C := "SignMachineModel") (As := []) (rest := []) ⟨hx, hb, hml, hown, hk⟩ (c_X_expression l D cI cJ cZ cB p0 p1 p2 p3 p4 p5 p6 p7 p8 p9 p10 p11 p12 p13 p14 p15 p16 p17 p18 p19 p20 p21 p22 p23 p24 p25 H.size x0_4 x0_5 x0_6 x0_7 x0_8 x0_12 x0_13 x0_14 x0_15 x0_16 x0_17 x0_18 x0_22 x0_23 x0_24 x0_25 x0_26 x0_27 x0_28 x0_29 x0_30 x0_31 x0_32 x0_36 x0_39 x0_40 x0_44 x0_49 x0_51 x0_53 x0_54z6 x0_55z6 x0_56z6 x0_57 x0_58 x0_59 x0_60 x0_61 x0_62 y1 y2 y3 y4 y5 y6 y7 y8 y9 y10 y11 y12 y13 y14 y15 y16 y17 y18 y19 y20 y21 y22 y23 y24 y25  Rx0_24 Rx0_25 Rx0_26 Rx0_30 Rx0_36 (rgw R24 (by decide) (by decide)) Ay13 Ay15 (show x0_25.toInt ≤ x0_24.toInt from by omega)) (v_X_expression hk k_1653 ⟨Nat.le_of_ble_eq_true rfl, Nat.le_of_ble_eq_true rfl⟩) (pM_v hK hP hD (ci := 7) (q0 := 0) rfl rfl rfl) rfl rfl hl.1 rfl (lv_room (Nat.le_of_ble_eq_true rfl)) d_X_addressPart_297 ⟨Nat.le_of_ble_eq_true rfl, Nat.le_of_ble_eq_true rfl⟩) hS hA hD (fun rz38 u t H locs hr0 ht hB hFr hS => ?_)
              subst hr0
              obtain ⟨x0_25z38, x0_26z38, x0_54z38, x0_55z38, x0_56z38, Rx0_25z38, Rx0_26z38, Rx0_54z38, F0z38, F1z38, F2z38, hP, hD⟩ := hB
              have F0z38 : (-1073741823) ≤ rz38.toInt ∧ rz38.toInt ≤ 1073741823 := F0z38
              have F1z38 : x0_25.toInt ≤ x0_25z38.toInt ∧ x0_25z38.toInt ≤ x0_24.toInt := F1z38
              have F2z38 : 1 ≤ x0_26.toInt → 1 ≤ x0_26z38.toInt := F2z38
              rw [ht] at hP
              have hD := dwk hD hFr
              clear ht hFr
              have hP : va_P D classes (wS50 cI cJ cZ cB p0 p1 p2 p3 p4 p5 p6 p7 p8 p9 p10 p11 p12 p13 p14 p15 p16 p17 p18 p19 p20 p21 p22 p23 p24 p25 x0_4 x0_5 x0_6 x0_7 x0_8 x0_12 x0_13 x0_14 x0_15 x0_16 x0_17 x0_18 x0_22 x0_23 x0_24 x0_25z38 x0_26z38 x0_27 x0_28 x0_29 x0_30 x0_31 x0_32 x0_36 x0_39 x0_40 x0_44 x0_49 x0_51 x0_53 x0_54z38 x0_55z38 x0_56z38 x0_57 x0_58 x0_59 x0_60 x0_61 x0_62 y1 y2 y3 y4 y5 y6 y7 y8 y9 y10 y11 y12 y13 y14 y15 y16 y17 y18 y19 y20 y21 y22 y23 y24 y25) H := hP
              have hD : va_D A (wS50 cI cJ cZ cB p0 p1 p2 p3 p4 p5 p6 p7 p8 p9 p10 p11 p12 p13 p14 p15 p16 p17 p18 p19 p20 p21 p22 p23 p24 p25 x0_4 x0_5 x0_6 x0_7 x0_8 x0_12 x0_13 x0_14 x0_15 x0_16 x0_17 x0_18 x0_22 x0_23 x0_24 x0_25z38 x0_26z38 x0_27 x0_28 x0_29 x0_30 x0_31 x0_32 x0_36 x0_39 x0_40 x0_44 x0_49 x0_51 x0_53 x0_54z38 x0_55z38 x0_56z38 x0_57 x0_58 x0_59 x0_60 x0_61 x0_62 y1 y2 y3 y4 y5 y6 y7 y8 y9 y10 y11 y12 y13 y14 y15 y16 y17 y18 y19 y20 y21 y22 y23 y24 y25) := hD
              exact W.lret (v := rz38) hx hb hr (fun t ht hW => ⟨⟨rz38, rz38, rfl, rfl, ⟨x0_25z38, x0_26z38, x0_36, x0_51, x0_53, x0_54z38, x0_55z38, x0_56z38, x0_57, x0_58, x0_59, x0_60, y11, y12, y23, y24, Rx0_25z38, Rx0_26z38, Rx0_36, Rx0_51, Rx0_53, Rx0_54z38, Rx0_57, Rx0_58, Rx0_59, Rx0_60, Ay23, Ay24, F0z38, (by omega), (by omega), (by omega), (by omega), by show va_P D classes _ t.heap; rw [ht]; exact hP, hD⟩⟩, hS.F ht⟩) hS.2.2 d_X_addressPart_300
            · have gc36 : x0_26z6.toInt = x0_26.toInt := c_eq c36
              refine lv_aload_n hx hb d_X_addressPart_234 rfl (lv_at hl 4 rfl) ?_
              refine lv_aload_n hx hb d_X_addressPart_235 rfl (lv_at hl 4 rfl) ?_
              refine va_get (D := D) (ci := 7) (v := .long x0_55z6) (C := "SignMachineModel") (T := F_X) (N := 64) hx hb hk fi_X hown hK.1 hP 0 rfl rfl 55 (by decide) (hk _ k_1176) (fun _ h9 => h9) rfl d_X_addressPart_236 ?_
              refine kn_v (va_runV (C := "SignMachineModel") (As := [.long x0_55z6]) (rest := []) ⟨hx, hb, hml, hown, hk⟩ (c_X_laterSymbol l D cI cJ cZ cB p0 p1 p2 p3 p4 p5 p6 p7 p8 p9 p10 p11 p12 p13 p14 p15 p16 p17 p18 p19 p20 p21 p22 p23 p24 p25 H.size x0_4 x0_5 x0_6 x0_7 x0_8 x0_12 x0_13 x0_14 x0_15 x0_16 x0_17 x0_18 x0_22 x0_23 x0_24 x0_25z6 x0_26z6 x0_27 x0_28 x0_29 x0_30 x0_31 x0_32 x0_36 x0_39 x0_40 x0_44 x0_49 x0_51 x0_53 x0_54z6 x0_55z6 x0_56z6 x0_57 x0_58 x0_59 x0_60 x0_61 x0_62 y1 y2 y3 y4 y5 y6 y7 y8 y9 y10 y11 y12 y13 y14 y15 y16 y17 y18 y19 y20 y21 y22 y23 y24 y25 x0_55z6 Rx0_26z6 Rx0_36 Rx0_51 Rx0_53 Rx0_59 Rx0_60 Ay23 (show x0_51.toInt ≤ x0_36.toInt + x0_53.toInt from by omega)) (v_X_laterSymbol hk k_1699 ⟨Nat.le_of_ble_eq_true rfl, Nat.le_of_ble_eq_true rfl⟩) (pM_v hK hP hD (ci := 7) (q0 := 0) rfl rfl rfl) rfl rfl hl.1 rfl (lv_room (Nat.le_of_ble_eq_true rfl)) d_X_addressPart_239 ⟨Nat.le_of_ble_eq_true rfl, Nat.le_of_ble_eq_true rfl⟩) hS hA hD (fun u t H locs ht hB hFr hS => ?_)
              obtain ⟨x0_26z39, x0_36z39, x0_51z39, x0_59z39, x0_60z39, y11z39, y12z39, y23z39, Rx0_26z39, Rx0_36z39, Rx0_51z39, Rx0_59z39, Rx0_60z39, Ay23z39, F0z39, F1z39, F2z39, F3z39, hP, hD⟩ := hB
              have F0z39 : x0_51z39.toInt ≤ x0_36z39.toInt + x0_53.toInt := F0z39
              have F1z39 : 1 ≤ x0_26z6.toInt → 1 ≤ x0_26z39.toInt := F1z39
              have F2z39 : x0_60z39.toInt ≤ 59 := F2z39
              have F3z39 : x0_59z39.toInt = 1 := F3z39
              rw [ht] at hP
              have hD := dwk hD hFr
              clear ht hFr
              have hP : va_P D classes (wS50 cI cJ cZ cB p0 p1 p2 p3 p4 p5 p6 p7 p8 p9 p10 p11 p12 p13 p14 p15 p16 p17 p18 p19 p20 p21 p22 p23 p24 p25 x0_4 x0_5 x0_6 x0_7 x0_8 x0_12 x0_13 x0_14 x0_15 x0_16 x0_17 x0_18 x0_22 x0_23 x0_24 x0_25z6 x0_26z39 x0_27 x0_28 x0_29 x0_30 x0_31 x0_32 x0_36z39 x0_39 x0_40 x0_44 x0_49 x0_51z39 x0_53 x0_54z6 x0_55z6 x0_56z6 x0_57 x0_58 x0_59z39 x0_60z39 x0_61 x0_62 y1 y2 y3 y4 y5 y6 y7 y8 y9 y10 y11z39 y12z39 y13 y14 y15 y16 y17 y18 y19 y20 y21 y22 y23z39 y24 y25) H := hP
              have hD : va_D A (wS50 cI cJ cZ cB p0 p1 p2 p3 p4 p5 p6 p7 p8 p9 p10 p11 p12 p13 p14 p15 p16 p17 p18 p19 p20 p21 p22 p23 p24 p25 x0_4 x0_5 x0_6 x0_7 x0_8 x0_12 x0_13 x0_14 x0_15 x0_16 x0_17 x0_18 x0_22 x0_23 x0_24 x0_25z6 x0_26z39 x0_27 x0_28 x0_29 x0_30 x0_31 x0_32 x0_36z39 x0_39 x0_40 x0_44 x0_49 x0_51z39 x0_53 x0_54z6 x0_55z6 x0_56z6 x0_57 x0_58 x0_59z39 x0_60z39 x0_61 x0_62 y1 y2 y3 y4 y5 y6 y7 y8 y9 y10 y11z39 y12z39 y13 y14 y15 y16 y17 y18 y19 y20 y21 y22 y23z39 y24 y25) := hD
              refine lv_lconst (v := 0) hx hb d_X_addressPart_242 (by decide) ?_
              exact W.lret (v := (0 : Int64)) hx hb hr (fun t ht hW => ⟨⟨(0 : Int64), (0 : Int64), rfl, rfl, ⟨x0_25z6, x0_26z39, x0_36z39, x0_51z39, x0_53, x0_54z6, x0_55z6, x0_56z6, x0_57, x0_58, x0_59z39, x0_60z39, y11z39, y12z39, y23z39, y24, Rx0_25z6, Rx0_26z39, Rx0_36z39, Rx0_51z39, Rx0_53, (rgw R24 (by decide) (by decide)), Rx0_57, Rx0_58, Rx0_59z39, Rx0_60z39, Ay23z39, Ay24, (by decide), (by omega), (by omega), (by omega), (by omega), by show va_P D classes _ t.heap; rw [ht]; exact hP, hD⟩⟩, hS.F ht⟩) hS.2.2 d_X_addressPart_243
          · have gc33 : rz32.toInt ≠ (-2) := c_ne c33
            have R40 : (-1) ≤ rz32.toInt ∧ rz32.toInt ≤ 59 := by omega
            refine lv_aload_n hx hb d_X_addressPart_198 rfl (lv_at hl 3 rfl) ?_
            refine va_get (D := D) (ci := 7) (v := .ref p12) (C := "SignMachineModel") (T := F_X) (N := 64) hx hb hk fi_X hown hK.1 hP 0 rfl rfl 34 (by decide) (hk _ k_1155) (fun _ h9 => h9) rfl d_X_addressPart_199 ?_
            refine lv_aload_n hx hb d_X_addressPart_202 rfl (lv_at hl 3 rfl) ?_
            refine lv_aload_n hx hb d_X_addressPart_203 rfl (lv_at hl 3 rfl) ?_
            refine va_get (D := D) (ci := 7) (v := .long x0_55z6) (C := "SignMachineModel") (T := F_X) (N := 64) hx hb hk fi_X hown hK.1 hP 0 rfl rfl 55 (by decide) (hk _ k_1176) (fun _ h9 => h9) rfl d_X_addressPart_204 ?_
            refine sn_i (va_runV (C := "SignMachineModel") (As := [.long x0_55z6]) (rest := [.ref p12]) ⟨hx, hb, hml, hown, hk⟩ (c_X_findSymbol l D cI cJ cZ cB p0 p1 p2 p3 p4 p5 p6 p7 p8 p9 p10 p11 p12 p13 p14 p15 p16 p17 p18 p19 p20 p21 p22 p23 p24 p25 H.size x0_4 x0_5 x0_6 x0_7 x0_8 x0_12 x0_13 x0_14 x0_15 x0_16 x0_17 x0_18 x0_22 x0_23 x0_24 x0_25z6 x0_26z6 x0_27 x0_28 x0_29 x0_30 x0_31 x0_32 x0_36 x0_39 x0_40 x0_44 x0_49 x0_51 x0_53 x0_54z6 x0_55z6 x0_56z6 x0_57 x0_58 x0_59 x0_60 x0_61 x0_62 y1 y2 y3 y4 y5 y6 y7 y8 y9 y10 y11 y12 y13 y14 y15 y16 y17 y18 y19 y20 y21 y22 y23 y24 y25 x0_55z6 Rx0_36) (v_X_findSymbol hk k_1626 ⟨Nat.le_of_ble_eq_true rfl, Nat.le_of_ble_eq_true rfl⟩) (pM_v hK hP hD (ci := 7) (q0 := 0) rfl rfl rfl) rfl rfl hl.1 rfl (lv_room (Nat.le_of_ble_eq_true rfl)) d_X_addressPart_207 ⟨Nat.le_of_ble_eq_true rfl, Nat.le_of_ble_eq_true rfl⟩) hS hA hD (fun rz41 u t H locs hr0 ht hB hFr hS => ?_)
            subst hr0
            obtain ⟨F0z41, F1z41, F2z41, hP, hD⟩ := hB
            have F0z41 : (-2) ≤ rz41.toInt ∧ rz41.toInt ≤ 59 := F0z41
            have F1z41 : rz41.toInt = -2 ∨ (0 ≤ rz41.toInt ∧ rz41.toInt < x0_36.toInt) := F1z41
            have F2z41 : (rz41.toInt = -2 ∧ nsI y11 x0_36.toInt x0_55z6 = 0) ∨ (rz41.toInt ≠ -2 ∧ nsI y11 x0_36.toInt x0_55z6 = 1) := F2z41
            rw [ht] at hP
            have hD := dwk hD hFr
            clear ht hFr
            have hP : va_P D classes (wS50 cI cJ cZ cB p0 p1 p2 p3 p4 p5 p6 p7 p8 p9 p10 p11 p12 p13 p14 p15 p16 p17 p18 p19 p20 p21 p22 p23 p24 p25 x0_4 x0_5 x0_6 x0_7 x0_8 x0_12 x0_13 x0_14 x0_15 x0_16 x0_17 x0_18 x0_22 x0_23 x0_24 x0_25z6 x0_26z6 x0_27 x0_28 x0_29 x0_30 x0_31 x0_32 x0_36 x0_39 x0_40 x0_44 x0_49 x0_51 x0_53 x0_54z6 x0_55z6 x0_56z6 x0_57 x0_58 x0_59 x0_60 x0_61 x0_62 y1 y2 y3 y4 y5 y6 y7 y8 y9 y10 y11 y12 y13 y14 y15 y16 y17 y18 y19 y20 y21 y22 y23 y24 y25) H := hP
            have hD : va_D A (wS50 cI cJ cZ cB p0 p1 p2 p3 p4 p5 p6 p7 p8 p9 p10 p11 p12 p13 p14 p15 p16 p17 p18 p19 p20 p21 p22 p23 p24 p25 x0_4 x0_5 x0_6 x0_7 x0_8 x0_12 x0_13 x0_14 x0_15 x0_16 x0_17 x0_18 x0_22 x0_23 x0_24 x0_25z6 x0_26z6 x0_27 x0_28 x0_29 x0_30 x0_31 x0_32 x0_36 x0_39 x0_40 x0_44 x0_49 x0_51 x0_53 x0_54z6 x0_55z6 x0_56z6 x0_57 x0_58 x0_59 x0_60 x0_61 x0_62 y1 y2 y3 y4 y5 y6 y7 y8 y9 y10 y11 y12 y13 y14 y15 y16 y17 y18 y19 y20 y21 y22 y23 y24 y25) := hD
            refine va_zald hx hb hK.1 hP 12 2 rfl rfl (by rw [vp_in_iff]; omega) d_X_addressPart_210 ?_
            refine lv_topi (fun v42 hv42 => ?_)
            refine lv_if_ne (tgt := 218) hx hb d_X_addressPart_211 (by decide) (fun c43 => ?_) (fun c43 => ?_)
            · have gc43 : v42.toInt ≠ 0 := c_ne c43
              refine lv_iconst (v := 0) hx hb d_X_addressPart_218 (by decide) ?_
              refine lv_istore (lv' := [(4, .int (0 : Int32)), (3, .int x0_26), (2, .int x0_25), (1, .int rz1), (0, .ref p0)]) hx hb d_X_addressPart_219 hl (by decide) rfl (fun ls hl => ?_)
              refine lv_iload hx hb d_X_addressPart_221 (lv_at hl 0 rfl) ?_
              refine lv_if_eq (tgt := 244) hx hb d_X_addressPart_223 (by decide) (fun c44 => ?_) (fun c44 => absurd (show (0 : Int32) = (0 : Int32) from (by decide)) c44)
              refine lv_aload_n hx hb d_X_addressPart_244 rfl (lv_at hl 4 rfl) ?_
              refine va_get (D := D) (ci := 7) (v := .int x0_54z6) (C := "SignMachineModel") (T := F_X) (N := 64) hx hb hk fi_X hown hK.1 hP 0 rfl rfl 54 (by decide) (hk _ k_1175) (fun _ h9 => h9) rfl d_X_addressPart_245 ?_
              refine lv_iconst (v := 3) hx hb d_X_addressPart_248 (by decide) ?_
              refine lv_icmp_ne (tgt := 286) hx hb d_X_addressPart_249 (by decide) (fun c45 => ?_) (fun c45 => absurd c45 (show ¬ x0_54z6 = (3 : Int32) from (fun q => by have := c_eq q; omega)))
              refine lv_aload_n hx hb d_X_addressPart_286 rfl (lv_at hl 4 rfl) ?_
              refine lv_iload_n hx hb d_X_addressPart_287 rfl (lv_at hl 2 rfl) ?_
              refine va_put (D := D) (ci := 7) (v := .int x0_25) (ty := .int) (C := "SignMachineModel") (T := F_X) (N := 64) hx hb hk fi_X ft_X ft_X_ok fn_X hown hK.1 hP hD hS 0 rfl rfl 25 (by decide) (hk _ k_1146) (fun _ h9 => h9) rfl (by decide +kernel) rfl rfl (Nat.le_of_ble_eq_true rfl) d_X_addressPart_288 (fun H locs hP hD hS => ?_)
              have hP : va_P D classes (wS50 cI cJ cZ cB p0 p1 p2 p3 p4 p5 p6 p7 p8 p9 p10 p11 p12 p13 p14 p15 p16 p17 p18 p19 p20 p21 p22 p23 p24 p25 x0_4 x0_5 x0_6 x0_7 x0_8 x0_12 x0_13 x0_14 x0_15 x0_16 x0_17 x0_18 x0_22 x0_23 x0_24 x0_25 x0_26z6 x0_27 x0_28 x0_29 x0_30 x0_31 x0_32 x0_36 x0_39 x0_40 x0_44 x0_49 x0_51 x0_53 x0_54z6 x0_55z6 x0_56z6 x0_57 x0_58 x0_59 x0_60 x0_61 x0_62 y1 y2 y3 y4 y5 y6 y7 y8 y9 y10 y11 y12 y13 y14 y15 y16 y17 y18 y19 y20 y21 y22 y23 y24 y25) H := hP
              have hD : va_D A (wS50 cI cJ cZ cB p0 p1 p2 p3 p4 p5 p6 p7 p8 p9 p10 p11 p12 p13 p14 p15 p16 p17 p18 p19 p20 p21 p22 p23 p24 p25 x0_4 x0_5 x0_6 x0_7 x0_8 x0_12 x0_13 x0_14 x0_15 x0_16 x0_17 x0_18 x0_22 x0_23 x0_24 x0_25 x0_26z6 x0_27 x0_28 x0_29 x0_30 x0_31 x0_32 x0_36 x0_39 x0_40 x0_44 x0_49 x0_51 x0_53 x0_54z6 x0_55z6 x0_56z6 x0_57 x0_58 x0_59 x0_60 x0_61 x0_62 y1 y2 y3 y4 y5 y6 y7 y8 y9 y10 y11 y12 y13 y14 y15 y16 y17 y18 y19 y20 y21 y22 y23 y24 y25) := hD
              refine lv_aload_n hx hb d_X_addressPart_291 rfl (lv_at hl 4 rfl) ?_
              refine lv_iload_n hx hb d_X_addressPart_292 rfl (lv_at hl 1 rfl) ?_
              refine va_put (D := D) (ci := 7) (v := .int x0_26) (ty := .int) (C := "SignMachineModel") (T := F_X) (N := 64) hx hb hk fi_X ft_X ft_X_ok fn_X hown hK.1 hP hD hS 0 rfl rfl 26 (by decide) (hk _ k_1147) (fun _ h9 => h9) rfl (by decide +kernel) rfl rfl (Nat.le_of_ble_eq_true rfl) d_X_addressPart_293 (fun H locs hP hD hS => ?_)
              have hP : va_P D classes (wS50 cI cJ cZ cB p0 p1 p2 p3 p4 p5 p6 p7 p8 p9 p10 p11 p12 p13 p14 p15 p16 p17 p18 p19 p20 p21 p22 p23 p24 p25 x0_4 x0_5 x0_6 x0_7 x0_8 x0_12 x0_13 x0_14 x0_15 x0_16 x0_17 x0_18 x0_22 x0_23 x0_24 x0_25 x0_26 x0_27 x0_28 x0_29 x0_30 x0_31 x0_32 x0_36 x0_39 x0_40 x0_44 x0_49 x0_51 x0_53 x0_54z6 x0_55z6 x0_56z6 x0_57 x0_58 x0_59 x0_60 x0_61 x0_62 y1 y2 y3 y4 y5 y6 y7 y8 y9 y10 y11 y12 y13 y14 y15 y16 y17 y18 y19 y20 y21 y22 y23 y24 y25) H := hP
              have hD : va_D A (wS50 cI cJ cZ cB p0 p1 p2 p3 p4 p5 p6 p7 p8 p9 p10 p11 p12 p13 p14 p15 p16 p17 p18 p19 p20 p21 p22 p23 p24 p25 x0_4 x0_5 x0_6 x0_7 x0_8 x0_12 x0_13 x0_14 x0_15 x0_16 x0_17 x0_18 x0_22 x0_23 x0_24 x0_25 x0_26 x0_27 x0_28 x0_29 x0_30 x0_31 x0_32 x0_36 x0_39 x0_40 x0_44 x0_49 x0_51 x0_53 x0_54z6 x0_55z6 x0_56z6 x0_57 x0_58 x0_59 x0_60 x0_61 x0_62 y1 y2 y3 y4 y5 y6 y7 y8 y9 y10 y11 y12 y13 y14 y15 y16 y17 y18 y19 y20 y21 y22 y23 y24 y25) := hD
              refine lv_aload_n hx hb d_X_addressPart_296 rfl (lv_at hl 4 rfl) ?_
              refine sn_l (va_runV (C := "SignMachineModel") (As := []) (rest := []) ⟨hx, hb, hml, hown, hk⟩ (c_X_expression l D cI cJ cZ cB p0 p1 p2 p3 p4 p5 p6 p7 p8 p9 p10 p11 p12 p13 p14 p15 p16 p17 p18 p19 p20 p21 p22 p23 p24 p25 H.size x0_4 x0_5 x0_6 x0_7 x0_8 x0_12 x0_13 x0_14 x0_15 x0_16 x0_17 x0_18 x0_22 x0_23 x0_24 x0_25 x0_26 x0_27 x0_28 x0_29 x0_30 x0_31 x0_32 x0_36 x0_39 x0_40 x0_44 x0_49 x0_51 x0_53 x0_54z6 x0_55z6 x0_56z6 x0_57 x0_58 x0_59 x0_60 x0_61 x0_62 y1 y2 y3 y4 y5 y6 y7 y8 y9 y10 y11 y12 y13 y14 y15 y16 y17 y18 y19 y20 y21 y22 y23 y24 y25  Rx0_24 Rx0_25 Rx0_26 Rx0_30 Rx0_36 (rgw R24 (by decide) (by decide)) Ay13 Ay15 (show x0_25.toInt ≤ x0_24.toInt from by omega)) (v_X_expression hk k_1653 ⟨Nat.le_of_ble_eq_true rfl, Nat.le_of_ble_eq_true rfl⟩) (pM_v hK hP hD (ci := 7) (q0 := 0) rfl rfl rfl) rfl rfl hl.1 rfl (lv_room (Nat.le_of_ble_eq_true rfl)) d_X_addressPart_297 ⟨Nat.le_of_ble_eq_true rfl, Nat.le_of_ble_eq_true rfl⟩) hS hA hD (fun rz46 u t H locs hr0 ht hB hFr hS => ?_)
              subst hr0
              obtain ⟨x0_25z46, x0_26z46, x0_54z46, x0_55z46, x0_56z46, Rx0_25z46, Rx0_26z46, Rx0_54z46, F0z46, F1z46, F2z46, hP, hD⟩ := hB
              have F0z46 : (-1073741823) ≤ rz46.toInt ∧ rz46.toInt ≤ 1073741823 := F0z46
              have F1z46 : x0_25.toInt ≤ x0_25z46.toInt ∧ x0_25z46.toInt ≤ x0_24.toInt := F1z46
              have F2z46 : 1 ≤ x0_26.toInt → 1 ≤ x0_26z46.toInt := F2z46
              rw [ht] at hP
              have hD := dwk hD hFr
              clear ht hFr
              have hP : va_P D classes (wS50 cI cJ cZ cB p0 p1 p2 p3 p4 p5 p6 p7 p8 p9 p10 p11 p12 p13 p14 p15 p16 p17 p18 p19 p20 p21 p22 p23 p24 p25 x0_4 x0_5 x0_6 x0_7 x0_8 x0_12 x0_13 x0_14 x0_15 x0_16 x0_17 x0_18 x0_22 x0_23 x0_24 x0_25z46 x0_26z46 x0_27 x0_28 x0_29 x0_30 x0_31 x0_32 x0_36 x0_39 x0_40 x0_44 x0_49 x0_51 x0_53 x0_54z46 x0_55z46 x0_56z46 x0_57 x0_58 x0_59 x0_60 x0_61 x0_62 y1 y2 y3 y4 y5 y6 y7 y8 y9 y10 y11 y12 y13 y14 y15 y16 y17 y18 y19 y20 y21 y22 y23 y24 y25) H := hP
              have hD : va_D A (wS50 cI cJ cZ cB p0 p1 p2 p3 p4 p5 p6 p7 p8 p9 p10 p11 p12 p13 p14 p15 p16 p17 p18 p19 p20 p21 p22 p23 p24 p25 x0_4 x0_5 x0_6 x0_7 x0_8 x0_12 x0_13 x0_14 x0_15 x0_16 x0_17 x0_18 x0_22 x0_23 x0_24 x0_25z46 x0_26z46 x0_27 x0_28 x0_29 x0_30 x0_31 x0_32 x0_36 x0_39 x0_40 x0_44 x0_49 x0_51 x0_53 x0_54z46 x0_55z46 x0_56z46 x0_57 x0_58 x0_59 x0_60 x0_61 x0_62 y1 y2 y3 y4 y5 y6 y7 y8 y9 y10 y11 y12 y13 y14 y15 y16 y17 y18 y19 y20 y21 y22 y23 y24 y25) := hD
              exact W.lret (v := rz46) hx hb hr (fun t ht hW => ⟨⟨rz46, rz46, rfl, rfl, ⟨x0_25z46, x0_26z46, x0_36, x0_51, x0_53, x0_54z46, x0_55z46, x0_56z46, x0_57, x0_58, x0_59, x0_60, y11, y12, y23, y24, Rx0_25z46, Rx0_26z46, Rx0_36, Rx0_51, Rx0_53, Rx0_54z46, Rx0_57, Rx0_58, Rx0_59, Rx0_60, Ay23, Ay24, F0z46, (by omega), (by omega), (by omega), (by omega), by show va_P D classes _ t.heap; rw [ht]; exact hP, hD⟩⟩, hS.F ht⟩) hS.2.2 d_X_addressPart_300
            · have gc43 : v42.toInt = 0 := c_eq c43
              have R47 : 0 ≤ v42.toInt ∧ v42.toInt ≤ 0 := by omega
              refine lv_iconst (v := 1) hx hb d_X_addressPart_214 (by decide) ?_
              refine lv_goto (tgt := 219) hx hb d_X_addressPart_215 (by decide) ?_
              refine lv_istore (lv' := [(4, .int (1 : Int32)), (3, .int x0_26), (2, .int x0_25), (1, .int rz1), (0, .ref p0)]) hx hb d_X_addressPart_219 hl (by decide) rfl (fun ls hl => ?_)
              refine lv_iload hx hb d_X_addressPart_221 (lv_at hl 0 rfl) ?_
              refine lv_if_eq (tgt := 244) hx hb d_X_addressPart_223 (by decide) (fun c48 => absurd c48 (show ¬ (1 : Int32) = (0 : Int32) from (by decide))) (fun c48 => ?_)
              refine lv_aload_n hx hb d_X_addressPart_226 rfl (lv_at hl 4 rfl) ?_
              refine va_get (D := D) (ci := 7) (v := .int x0_26z6) (C := "SignMachineModel") (T := F_X) (N := 64) hx hb hk fi_X hown hK.1 hP 0 rfl rfl 26 (by decide) (hk _ k_1147) (fun _ h9 => h9) rfl d_X_addressPart_227 ?_
              refine lv_iload_n hx hb d_X_addressPart_230 rfl (lv_at hl 1 rfl) ?_
              refine lv_icmp_ne (tgt := 244) hx hb d_X_addressPart_231 (by decide) (fun c49 => ?_) (fun c49 => ?_)
              · have gc49 : x0_26z6.toInt ≠ x0_26.toInt := c_ne c49
                refine lv_aload_n hx hb d_X_addressPart_244 rfl (lv_at hl 4 rfl) ?_
                refine va_get (D := D) (ci := 7) (v := .int x0_54z6) (C := "SignMachineModel") (T := F_X) (N := 64) hx hb hk fi_X hown hK.1 hP 0 rfl rfl 54 (by decide) (hk _ k_1175) (fun _ h9 => h9) rfl d_X_addressPart_245 ?_
                refine lv_iconst (v := 3) hx hb d_X_addressPart_248 (by decide) ?_
                refine lv_icmp_ne (tgt := 286) hx hb d_X_addressPart_249 (by decide) (fun c50 => ?_) (fun c50 => absurd c50 (show ¬ x0_54z6 = (3 : Int32) from (fun q => by have := c_eq q; omega)))
                refine lv_aload_n hx hb d_X_addressPart_286 rfl (lv_at hl 4 rfl) ?_
                refine lv_iload_n hx hb d_X_addressPart_287 rfl (lv_at hl 2 rfl) ?_
                refine va_put (D := D) (ci := 7) (v := .int x0_25) (ty := .int) (C := "SignMachineModel") (T := F_X) (N := 64) hx hb hk fi_X ft_X ft_X_ok fn_X hown hK.1 hP hD hS 0 rfl rfl 25 (by decide) (hk _ k_1146) (fun _ h9 => h9) rfl (by decide +kernel) rfl rfl (Nat.le_of_ble_eq_true rfl) d_X_addressPart_288 (fun H locs hP hD hS => ?_)
                have hP : va_P D classes (wS50 cI cJ cZ cB p0 p1 p2 p3 p4 p5 p6 p7 p8 p9 p10 p11 p12 p13 p14 p15 p16 p17 p18 p19 p20 p21 p22 p23 p24 p25 x0_4 x0_5 x0_6 x0_7 x0_8 x0_12 x0_13 x0_14 x0_15 x0_16 x0_17 x0_18 x0_22 x0_23 x0_24 x0_25 x0_26z6 x0_27 x0_28 x0_29 x0_30 x0_31 x0_32 x0_36 x0_39 x0_40 x0_44 x0_49 x0_51 x0_53 x0_54z6 x0_55z6 x0_56z6 x0_57 x0_58 x0_59 x0_60 x0_61 x0_62 y1 y2 y3 y4 y5 y6 y7 y8 y9 y10 y11 y12 y13 y14 y15 y16 y17 y18 y19 y20 y21 y22 y23 y24 y25) H := hP
                have hD : va_D A (wS50 cI cJ cZ cB p0 p1 p2 p3 p4 p5 p6 p7 p8 p9 p10 p11 p12 p13 p14 p15 p16 p17 p18 p19 p20 p21 p22 p23 p24 p25 x0_4 x0_5 x0_6 x0_7 x0_8 x0_12 x0_13 x0_14 x0_15 x0_16 x0_17 x0_18 x0_22 x0_23 x0_24 x0_25 x0_26z6 x0_27 x0_28 x0_29 x0_30 x0_31 x0_32 x0_36 x0_39 x0_40 x0_44 x0_49 x0_51 x0_53 x0_54z6 x0_55z6 x0_56z6 x0_57 x0_58 x0_59 x0_60 x0_61 x0_62 y1 y2 y3 y4 y5 y6 y7 y8 y9 y10 y11 y12 y13 y14 y15 y16 y17 y18 y19 y20 y21 y22 y23 y24 y25) := hD
                refine lv_aload_n hx hb d_X_addressPart_291 rfl (lv_at hl 4 rfl) ?_
                refine lv_iload_n hx hb d_X_addressPart_292 rfl (lv_at hl 1 rfl) ?_
                refine va_put (D := D) (ci := 7) (v := .int x0_26) (ty := .int) (C := "SignMachineModel") (T := F_X) (N := 64) hx hb hk fi_X ft_X ft_X_ok fn_X hown hK.1 hP hD hS 0 rfl rfl 26 (by decide) (hk _ k_1147) (fun _ h9 => h9) rfl (by decide +kernel) rfl rfl (Nat.le_of_ble_eq_true rfl) d_X_addressPart_293 (fun H locs hP hD hS => ?_)
                have hP : va_P D classes (wS50 cI cJ cZ cB p0 p1 p2 p3 p4 p5 p6 p7 p8 p9 p10 p11 p12 p13 p14 p15 p16 p17 p18 p19 p20 p21 p22 p23 p24 p25 x0_4 x0_5 x0_6 x0_7 x0_8 x0_12 x0_13 x0_14 x0_15 x0_16 x0_17 x0_18 x0_22 x0_23 x0_24 x0_25 x0_26 x0_27 x0_28 x0_29 x0_30 x0_31 x0_32 x0_36 x0_39 x0_40 x0_44 x0_49 x0_51 x0_53 x0_54z6 x0_55z6 x0_56z6 x0_57 x0_58 x0_59 x0_60 x0_61 x0_62 y1 y2 y3 y4 y5 y6 y7 y8 y9 y10 y11 y12 y13 y14 y15 y16 y17 y18 y19 y20 y21 y22 y23 y24 y25) H := hP
                have hD : va_D A (wS50 cI cJ cZ cB p0 p1 p2 p3 p4 p5 p6 p7 p8 p9 p10 p11 p12 p13 p14 p15 p16 p17 p18 p19 p20 p21 p22 p23 p24 p25 x0_4 x0_5 x0_6 x0_7 x0_8 x0_12 x0_13 x0_14 x0_15 x0_16 x0_17 x0_18 x0_22 x0_23 x0_24 x0_25 x0_26 x0_27 x0_28 x0_29 x0_30 x0_31 x0_32 x0_36 x0_39 x0_40 x0_44 x0_49 x0_51 x0_53 x0_54z6 x0_55z6 x0_56z6 x0_57 x0_58 x0_59 x0_60 x0_61 x0_62 y1 y2 y3 y4 y5 y6 y7 y8 y9 y10 y11 y12 y13 y14 y15 y16 y17 y18 y19 y20 y21 y22 y23 y24 y25) := hD
                refine lv_aload_n hx hb d_X_addressPart_296 rfl (lv_at hl 4 rfl) ?_
                refine sn_l (va_runV (C := "SignMachineModel") (As := []) (rest := []) ⟨hx, hb, hml, hown, hk⟩ (c_X_expression l D cI cJ cZ cB p0 p1 p2 p3 p4 p5 p6 p7 p8 p9 p10 p11 p12 p13 p14 p15 p16 p17 p18 p19 p20 p21 p22 p23 p24 p25 H.size x0_4 x0_5 x0_6 x0_7 x0_8 x0_12 x0_13 x0_14 x0_15 x0_16 x0_17 x0_18 x0_22 x0_23 x0_24 x0_25 x0_26 x0_27 x0_28 x0_29 x0_30 x0_31 x0_32 x0_36 x0_39 x0_40 x0_44 x0_49 x0_51 x0_53 x0_54z6 x0_55z6 x0_56z6 x0_57 x0_58 x0_59 x0_60 x0_61 x0_62 y1 y2 y3 y4 y5 y6 y7 y8 y9 y10 y11 y12 y13 y14 y15 y16 y17 y18 y19 y20 y21 y22 y23 y24 y25  Rx0_24 Rx0_25 Rx0_26 Rx0_30 Rx0_36 (rgw R24 (by decide) (by decide)) Ay13 Ay15 (show x0_25.toInt ≤ x0_24.toInt from by omega)) (v_X_expression hk k_1653 ⟨Nat.le_of_ble_eq_true rfl, Nat.le_of_ble_eq_true rfl⟩) (pM_v hK hP hD (ci := 7) (q0 := 0) rfl rfl rfl) rfl rfl hl.1 rfl (lv_room (Nat.le_of_ble_eq_true rfl)) d_X_addressPart_297 ⟨Nat.le_of_ble_eq_true rfl, Nat.le_of_ble_eq_true rfl⟩) hS hA hD (fun rz51 u t H locs hr0 ht hB hFr hS => ?_)
                subst hr0
                obtain ⟨x0_25z51, x0_26z51, x0_54z51, x0_55z51, x0_56z51, Rx0_25z51, Rx0_26z51, Rx0_54z51, F0z51, F1z51, F2z51, hP, hD⟩ := hB
                have F0z51 : (-1073741823) ≤ rz51.toInt ∧ rz51.toInt ≤ 1073741823 := F0z51
                have F1z51 : x0_25.toInt ≤ x0_25z51.toInt ∧ x0_25z51.toInt ≤ x0_24.toInt := F1z51
                have F2z51 : 1 ≤ x0_26.toInt → 1 ≤ x0_26z51.toInt := F2z51
                rw [ht] at hP
                have hD := dwk hD hFr
                clear ht hFr
                have hP : va_P D classes (wS50 cI cJ cZ cB p0 p1 p2 p3 p4 p5 p6 p7 p8 p9 p10 p11 p12 p13 p14 p15 p16 p17 p18 p19 p20 p21 p22 p23 p24 p25 x0_4 x0_5 x0_6 x0_7 x0_8 x0_12 x0_13 x0_14 x0_15 x0_16 x0_17 x0_18 x0_22 x0_23 x0_24 x0_25z51 x0_26z51 x0_27 x0_28 x0_29 x0_30 x0_31 x0_32 x0_36 x0_39 x0_40 x0_44 x0_49 x0_51 x0_53 x0_54z51 x0_55z51 x0_56z51 x0_57 x0_58 x0_59 x0_60 x0_61 x0_62 y1 y2 y3 y4 y5 y6 y7 y8 y9 y10 y11 y12 y13 y14 y15 y16 y17 y18 y19 y20 y21 y22 y23 y24 y25) H := hP
                have hD : va_D A (wS50 cI cJ cZ cB p0 p1 p2 p3 p4 p5 p6 p7 p8 p9 p10 p11 p12 p13 p14 p15 p16 p17 p18 p19 p20 p21 p22 p23 p24 p25 x0_4 x0_5 x0_6 x0_7 x0_8 x0_12 x0_13 x0_14 x0_15 x0_16 x0_17 x0_18 x0_22 x0_23 x0_24 x0_25z51 x0_26z51 x0_27 x0_28 x0_29 x0_30 x0_31 x0_32 x0_36 x0_39 x0_40 x0_44 x0_49 x0_51 x0_53 x0_54z51 x0_55z51 x0_56z51 x0_57 x0_58 x0_59 x0_60 x0_61 x0_62 y1 y2 y3 y4 y5 y6 y7 y8 y9 y10 y11 y12 y13 y14 y15 y16 y17 y18 y19 y20 y21 y22 y23 y24 y25) := hD
                exact W.lret (v := rz51) hx hb hr (fun t ht hW => ⟨⟨rz51, rz51, rfl, rfl, ⟨x0_25z51, x0_26z51, x0_36, x0_51, x0_53, x0_54z51, x0_55z51, x0_56z51, x0_57, x0_58, x0_59, x0_60, y11, y12, y23, y24, Rx0_25z51, Rx0_26z51, Rx0_36, Rx0_51, Rx0_53, Rx0_54z51, Rx0_57, Rx0_58, Rx0_59, Rx0_60, Ay23, Ay24, F0z51, (by omega), (by omega), (by omega), (by omega), by show va_P D classes _ t.heap; rw [ht]; exact hP, hD⟩⟩, hS.F ht⟩) hS.2.2 d_X_addressPart_300
              · have gc49 : x0_26z6.toInt = x0_26.toInt := c_eq c49
                refine lv_aload_n hx hb d_X_addressPart_234 rfl (lv_at hl 4 rfl) ?_
                refine lv_aload_n hx hb d_X_addressPart_235 rfl (lv_at hl 4 rfl) ?_
                refine va_get (D := D) (ci := 7) (v := .long x0_55z6) (C := "SignMachineModel") (T := F_X) (N := 64) hx hb hk fi_X hown hK.1 hP 0 rfl rfl 55 (by decide) (hk _ k_1176) (fun _ h9 => h9) rfl d_X_addressPart_236 ?_
                refine kn_v (va_runV (C := "SignMachineModel") (As := [.long x0_55z6]) (rest := []) ⟨hx, hb, hml, hown, hk⟩ (c_X_laterSymbol l D cI cJ cZ cB p0 p1 p2 p3 p4 p5 p6 p7 p8 p9 p10 p11 p12 p13 p14 p15 p16 p17 p18 p19 p20 p21 p22 p23 p24 p25 H.size x0_4 x0_5 x0_6 x0_7 x0_8 x0_12 x0_13 x0_14 x0_15 x0_16 x0_17 x0_18 x0_22 x0_23 x0_24 x0_25z6 x0_26z6 x0_27 x0_28 x0_29 x0_30 x0_31 x0_32 x0_36 x0_39 x0_40 x0_44 x0_49 x0_51 x0_53 x0_54z6 x0_55z6 x0_56z6 x0_57 x0_58 x0_59 x0_60 x0_61 x0_62 y1 y2 y3 y4 y5 y6 y7 y8 y9 y10 y11 y12 y13 y14 y15 y16 y17 y18 y19 y20 y21 y22 y23 y24 y25 x0_55z6 Rx0_26z6 Rx0_36 Rx0_51 Rx0_53 Rx0_59 Rx0_60 Ay23 (show x0_51.toInt ≤ x0_36.toInt + x0_53.toInt from by omega)) (v_X_laterSymbol hk k_1699 ⟨Nat.le_of_ble_eq_true rfl, Nat.le_of_ble_eq_true rfl⟩) (pM_v hK hP hD (ci := 7) (q0 := 0) rfl rfl rfl) rfl rfl hl.1 rfl (lv_room (Nat.le_of_ble_eq_true rfl)) d_X_addressPart_239 ⟨Nat.le_of_ble_eq_true rfl, Nat.le_of_ble_eq_true rfl⟩) hS hA hD (fun u t H locs ht hB hFr hS => ?_)
                obtain ⟨x0_26z52, x0_36z52, x0_51z52, x0_59z52, x0_60z52, y11z52, y12z52, y23z52, Rx0_26z52, Rx0_36z52, Rx0_51z52, Rx0_59z52, Rx0_60z52, Ay23z52, F0z52, F1z52, F2z52, F3z52, hP, hD⟩ := hB
                have F0z52 : x0_51z52.toInt ≤ x0_36z52.toInt + x0_53.toInt := F0z52
                have F1z52 : 1 ≤ x0_26z6.toInt → 1 ≤ x0_26z52.toInt := F1z52
                have F2z52 : x0_60z52.toInt ≤ 59 := F2z52
                have F3z52 : x0_59z52.toInt = 1 := F3z52
                rw [ht] at hP
                have hD := dwk hD hFr
                clear ht hFr
                have hP : va_P D classes (wS50 cI cJ cZ cB p0 p1 p2 p3 p4 p5 p6 p7 p8 p9 p10 p11 p12 p13 p14 p15 p16 p17 p18 p19 p20 p21 p22 p23 p24 p25 x0_4 x0_5 x0_6 x0_7 x0_8 x0_12 x0_13 x0_14 x0_15 x0_16 x0_17 x0_18 x0_22 x0_23 x0_24 x0_25z6 x0_26z52 x0_27 x0_28 x0_29 x0_30 x0_31 x0_32 x0_36z52 x0_39 x0_40 x0_44 x0_49 x0_51z52 x0_53 x0_54z6 x0_55z6 x0_56z6 x0_57 x0_58 x0_59z52 x0_60z52 x0_61 x0_62 y1 y2 y3 y4 y5 y6 y7 y8 y9 y10 y11z52 y12z52 y13 y14 y15 y16 y17 y18 y19 y20 y21 y22 y23z52 y24 y25) H := hP
                have hD : va_D A (wS50 cI cJ cZ cB p0 p1 p2 p3 p4 p5 p6 p7 p8 p9 p10 p11 p12 p13 p14 p15 p16 p17 p18 p19 p20 p21 p22 p23 p24 p25 x0_4 x0_5 x0_6 x0_7 x0_8 x0_12 x0_13 x0_14 x0_15 x0_16 x0_17 x0_18 x0_22 x0_23 x0_24 x0_25z6 x0_26z52 x0_27 x0_28 x0_29 x0_30 x0_31 x0_32 x0_36z52 x0_39 x0_40 x0_44 x0_49 x0_51z52 x0_53 x0_54z6 x0_55z6 x0_56z6 x0_57 x0_58 x0_59z52 x0_60z52 x0_61 x0_62 y1 y2 y3 y4 y5 y6 y7 y8 y9 y10 y11z52 y12z52 y13 y14 y15 y16 y17 y18 y19 y20 y21 y22 y23z52 y24 y25) := hD
                refine lv_lconst (v := 0) hx hb d_X_addressPart_242 (by decide) ?_
                exact W.lret (v := (0 : Int64)) hx hb hr (fun t ht hW => ⟨⟨(0 : Int64), (0 : Int64), rfl, rfl, ⟨x0_25z6, x0_26z52, x0_36z52, x0_51z52, x0_53, x0_54z6, x0_55z6, x0_56z6, x0_57, x0_58, x0_59z52, x0_60z52, y11z52, y12z52, y23z52, y24, Rx0_25z6, Rx0_26z52, Rx0_36z52, Rx0_51z52, Rx0_53, (rgw R24 (by decide) (by decide)), Rx0_57, Rx0_58, Rx0_59z52, Rx0_60z52, Ay23z52, Ay24, (by decide), (by omega), (by omega), (by omega), (by omega), by show va_P D classes _ t.heap; rw [ht]; exact hP, hD⟩⟩, hS.F ht⟩) hS.2.2 d_X_addressPart_243
    · have gc4 : rz3.toInt = 0 := c_eq c4
      have R53 : 0 ≤ rz3.toInt ∧ rz3.toInt ≤ 0 := by omega
      refine lv_iload_n hx hb d_X_addressPart_154 rfl (lv_at hl 1 rfl) ?_
      refine vp_callSi (W.runS (As := [.int rz1]) (rest := []) ⟨hx, hb, hml, hown, hk⟩ (c_X_isDigit l rz1 ) (s_X_isDigit hk k_1548 ⟨Nat.le_of_ble_eq_true rfl, Nat.le_of_ble_eq_true rfl⟩) ⟨fun a U g mk q => q, fun U hU hW => ⟨rfl, trivial⟩⟩ rfl rfl hl.1 rfl (lv_room (Nat.le_of_ble_eq_true rfl)) d_X_addressPart_155 ⟨Nat.le_of_ble_eq_true rfl, Nat.le_of_ble_eq_true rfl⟩) (fun rz54 hrz54 => ?_)
      obtain ⟨F0z54, F1z54⟩ := hrz54
      have F0z54 : 0 ≤ rz54.toInt ∧ rz54.toInt ≤ 1 := F0z54
      have F1z54 : rz54.toInt = 1 → (48 ≤ rz1.toInt ∧ rz1.toInt ≤ 57) := F1z54
      refine lv_if_eq (tgt := 296) hx hb d_X_addressPart_158 (by decide) (fun c55 => ?_) (fun c55 => ?_)
      · have gc55 : rz54.toInt = 0 := c_eq c55
        have R56 : 0 ≤ rz54.toInt ∧ rz54.toInt ≤ 0 := by omega
        refine lv_aload_n hx hb d_X_addressPart_296 rfl (lv_at hl 2 rfl) ?_
        refine sn_l (va_runV (C := "SignMachineModel") (As := []) (rest := []) ⟨hx, hb, hml, hown, hk⟩ (c_X_expression l D cI cJ cZ cB p0 p1 p2 p3 p4 p5 p6 p7 p8 p9 p10 p11 p12 p13 p14 p15 p16 p17 p18 p19 p20 p21 p22 p23 p24 p25 H.size x0_4 x0_5 x0_6 x0_7 x0_8 x0_12 x0_13 x0_14 x0_15 x0_16 x0_17 x0_18 x0_22 x0_23 x0_24 x0_25 x0_26 x0_27 x0_28 x0_29 x0_30 x0_31 x0_32 x0_36 x0_39 x0_40 x0_44 x0_49 x0_51 x0_53 x0_54 x0_55 x0_56 x0_57 x0_58 x0_59 x0_60 x0_61 x0_62 y1 y2 y3 y4 y5 y6 y7 y8 y9 y10 y11 y12 y13 y14 y15 y16 y17 y18 y19 y20 y21 y22 y23 y24 y25  Rx0_24 Rx0_25 Rx0_26 Rx0_30 Rx0_36 Rx0_54 Ay13 Ay15 (show x0_25.toInt ≤ x0_24.toInt from by omega)) (v_X_expression hk k_1653 ⟨Nat.le_of_ble_eq_true rfl, Nat.le_of_ble_eq_true rfl⟩) (pM_v hK hP hD (ci := 7) (q0 := 0) rfl rfl rfl) rfl rfl hl.1 rfl (lv_room (Nat.le_of_ble_eq_true rfl)) d_X_addressPart_297 ⟨Nat.le_of_ble_eq_true rfl, Nat.le_of_ble_eq_true rfl⟩) hS hA hD (fun rz57 u t H locs hr0 ht hB hFr hS => ?_)
        subst hr0
        obtain ⟨x0_25z57, x0_26z57, x0_54z57, x0_55z57, x0_56z57, Rx0_25z57, Rx0_26z57, Rx0_54z57, F0z57, F1z57, F2z57, hP, hD⟩ := hB
        have F0z57 : (-1073741823) ≤ rz57.toInt ∧ rz57.toInt ≤ 1073741823 := F0z57
        have F1z57 : x0_25.toInt ≤ x0_25z57.toInt ∧ x0_25z57.toInt ≤ x0_24.toInt := F1z57
        have F2z57 : 1 ≤ x0_26.toInt → 1 ≤ x0_26z57.toInt := F2z57
        rw [ht] at hP
        have hD := dwk hD hFr
        clear ht hFr
        have hP : va_P D classes (wS50 cI cJ cZ cB p0 p1 p2 p3 p4 p5 p6 p7 p8 p9 p10 p11 p12 p13 p14 p15 p16 p17 p18 p19 p20 p21 p22 p23 p24 p25 x0_4 x0_5 x0_6 x0_7 x0_8 x0_12 x0_13 x0_14 x0_15 x0_16 x0_17 x0_18 x0_22 x0_23 x0_24 x0_25z57 x0_26z57 x0_27 x0_28 x0_29 x0_30 x0_31 x0_32 x0_36 x0_39 x0_40 x0_44 x0_49 x0_51 x0_53 x0_54z57 x0_55z57 x0_56z57 x0_57 x0_58 x0_59 x0_60 x0_61 x0_62 y1 y2 y3 y4 y5 y6 y7 y8 y9 y10 y11 y12 y13 y14 y15 y16 y17 y18 y19 y20 y21 y22 y23 y24 y25) H := hP
        have hD : va_D A (wS50 cI cJ cZ cB p0 p1 p2 p3 p4 p5 p6 p7 p8 p9 p10 p11 p12 p13 p14 p15 p16 p17 p18 p19 p20 p21 p22 p23 p24 p25 x0_4 x0_5 x0_6 x0_7 x0_8 x0_12 x0_13 x0_14 x0_15 x0_16 x0_17 x0_18 x0_22 x0_23 x0_24 x0_25z57 x0_26z57 x0_27 x0_28 x0_29 x0_30 x0_31 x0_32 x0_36 x0_39 x0_40 x0_44 x0_49 x0_51 x0_53 x0_54z57 x0_55z57 x0_56z57 x0_57 x0_58 x0_59 x0_60 x0_61 x0_62 y1 y2 y3 y4 y5 y6 y7 y8 y9 y10 y11 y12 y13 y14 y15 y16 y17 y18 y19 y20 y21 y22 y23 y24 y25) := hD
        exact W.lret (v := rz57) hx hb hr (fun t ht hW => ⟨⟨rz57, rz57, rfl, rfl, ⟨x0_25z57, x0_26z57, x0_36, x0_51, x0_53, x0_54z57, x0_55z57, x0_56z57, x0_57, x0_58, x0_59, x0_60, y11, y12, y23, y24, Rx0_25z57, Rx0_26z57, Rx0_36, Rx0_51, Rx0_53, Rx0_54z57, Rx0_57, Rx0_58, Rx0_59, Rx0_60, Ay23, Ay24, F0z57, (by omega), (by omega), (by omega), (by omega), by show va_P D classes _ t.heap; rw [ht]; exact hP, hD⟩⟩, hS.F ht⟩) hS.2.2 d_X_addressPart_300
      · have gc55 : rz54.toInt ≠ 0 := c_ne c55
        have R58 : 1 ≤ rz54.toInt ∧ rz54.toInt ≤ 1 := by omega
        refine lv_aload_n hx hb d_X_addressPart_161 rfl (lv_at hl 2 rfl) ?_
        refine va_get (D := D) (ci := 7) (v := .int x0_26) (C := "SignMachineModel") (T := F_X) (N := 64) hx hb hk fi_X hown hK.1 hP 0 rfl rfl 26 (by decide) (hk _ k_1147) (fun _ h9 => h9) rfl d_X_addressPart_162 ?_
        refine lv_istore_n (lv' := [(3, .int x0_26), (2, .int x0_25), (1, .int rz1), (0, .ref p0)]) hx hb d_X_addressPart_165 rfl hl (by decide) rfl (fun ls hl => ?_)
        refine lv_aload_n hx hb d_X_addressPart_166 rfl (lv_at hl 3 rfl) ?_
        refine kn_v (va_runV (C := "SignMachineModel") (As := []) (rest := []) ⟨hx, hb, hml, hown, hk⟩ (c_X_readName l D cI cJ cZ cB p0 p1 p2 p3 p4 p5 p6 p7 p8 p9 p10 p11 p12 p13 p14 p15 p16 p17 p18 p19 p20 p21 p22 p23 p24 p25 H.size x0_4 x0_5 x0_6 x0_7 x0_8 x0_12 x0_13 x0_14 x0_15 x0_16 x0_17 x0_18 x0_22 x0_23 x0_24 x0_25 x0_26 x0_27 x0_28 x0_29 x0_30 x0_31 x0_32 x0_36 x0_39 x0_40 x0_44 x0_49 x0_51 x0_53 x0_54 x0_55 x0_56 x0_57 x0_58 x0_59 x0_60 x0_61 x0_62 y1 y2 y3 y4 y5 y6 y7 y8 y9 y10 y11 y12 y13 y14 y15 y16 y17 y18 y19 y20 y21 y22 y23 y24 y25  Rx0_24 Rx0_25 Rx0_26 Rx0_54 (show x0_25.toInt ≤ x0_24.toInt from by omega)) (v_X_readName hk k_1541 ⟨Nat.le_of_ble_eq_true rfl, Nat.le_of_ble_eq_true rfl⟩) (pM_v hK hP hD (ci := 7) (q0 := 0) rfl rfl rfl) rfl rfl hl.1 rfl (lv_room (Nat.le_of_ble_eq_true rfl)) d_X_addressPart_167 ⟨Nat.le_of_ble_eq_true rfl, Nat.le_of_ble_eq_true rfl⟩) hS hA hD (fun u t H locs ht hB hFr hS => ?_)
        obtain ⟨x0_25z59, x0_26z59, x0_54z59, x0_55z59, x0_56z59, Rx0_25z59, Rx0_26z59, Rx0_54z59, F0z59, F1z59, F2z59, F3z59, hP, hD⟩ := hB
        have F0z59 : x0_25.toInt ≤ x0_25z59.toInt ∧ x0_25z59.toInt ≤ x0_24.toInt := F0z59
        have F1z59 : 1 ≤ x0_26.toInt → 1 ≤ x0_26z59.toInt := F1z59
        have F2z59 : x0_54z59.toInt = 1 → (0 ≤ x0_55z59.toInt ∧ x0_55z59.toInt ≤ 1073741823) := F2z59
        have F3z59 : x0_54z59.toInt = 3 → (0 ≤ x0_55z59.toInt ∧ x0_55z59.toInt ≤ 9) := F3z59
        rw [ht] at hP
        have hD := dwk hD hFr
        clear ht hFr
        have hP : va_P D classes (wS50 cI cJ cZ cB p0 p1 p2 p3 p4 p5 p6 p7 p8 p9 p10 p11 p12 p13 p14 p15 p16 p17 p18 p19 p20 p21 p22 p23 p24 p25 x0_4 x0_5 x0_6 x0_7 x0_8 x0_12 x0_13 x0_14 x0_15 x0_16 x0_17 x0_18 x0_22 x0_23 x0_24 x0_25z59 x0_26z59 x0_27 x0_28 x0_29 x0_30 x0_31 x0_32 x0_36 x0_39 x0_40 x0_44 x0_49 x0_51 x0_53 x0_54z59 x0_55z59 x0_56z59 x0_57 x0_58 x0_59 x0_60 x0_61 x0_62 y1 y2 y3 y4 y5 y6 y7 y8 y9 y10 y11 y12 y13 y14 y15 y16 y17 y18 y19 y20 y21 y22 y23 y24 y25) H := hP
        have hD : va_D A (wS50 cI cJ cZ cB p0 p1 p2 p3 p4 p5 p6 p7 p8 p9 p10 p11 p12 p13 p14 p15 p16 p17 p18 p19 p20 p21 p22 p23 p24 p25 x0_4 x0_5 x0_6 x0_7 x0_8 x0_12 x0_13 x0_14 x0_15 x0_16 x0_17 x0_18 x0_22 x0_23 x0_24 x0_25z59 x0_26z59 x0_27 x0_28 x0_29 x0_30 x0_31 x0_32 x0_36 x0_39 x0_40 x0_44 x0_49 x0_51 x0_53 x0_54z59 x0_55z59 x0_56z59 x0_57 x0_58 x0_59 x0_60 x0_61 x0_62 y1 y2 y3 y4 y5 y6 y7 y8 y9 y10 y11 y12 y13 y14 y15 y16 y17 y18 y19 y20 y21 y22 y23 y24 y25) := hD
        refine lv_aload_n hx hb d_X_addressPart_170 rfl (lv_at hl 3 rfl) ?_
        refine va_get (D := D) (ci := 7) (v := .int x0_54z59) (C := "SignMachineModel") (T := F_X) (N := 64) hx hb hk fi_X hown hK.1 hP 0 rfl rfl 54 (by decide) (hk _ k_1175) (fun _ h9 => h9) rfl d_X_addressPart_171 ?_
        refine lv_iconst (v := 2) hx hb d_X_addressPart_174 (by decide) ?_
        refine lv_icmp_ne (tgt := 218) hx hb d_X_addressPart_175 (by decide) (fun c60 => ?_) (fun c60 => ?_)
        · have gc60 : x0_54z59.toInt ≠ 2 := c_ne c60
          refine lv_iconst (v := 0) hx hb d_X_addressPart_218 (by decide) ?_
          refine lv_istore (lv' := [(4, .int (0 : Int32)), (3, .int x0_26), (2, .int x0_25), (1, .int rz1), (0, .ref p0)]) hx hb d_X_addressPart_219 hl (by decide) rfl (fun ls hl => ?_)
          refine lv_iload hx hb d_X_addressPart_221 (lv_at hl 0 rfl) ?_
          refine lv_if_eq (tgt := 244) hx hb d_X_addressPart_223 (by decide) (fun c61 => ?_) (fun c61 => absurd (show (0 : Int32) = (0 : Int32) from (by decide)) c61)
          refine lv_aload_n hx hb d_X_addressPart_244 rfl (lv_at hl 4 rfl) ?_
          refine va_get (D := D) (ci := 7) (v := .int x0_54z59) (C := "SignMachineModel") (T := F_X) (N := 64) hx hb hk fi_X hown hK.1 hP 0 rfl rfl 54 (by decide) (hk _ k_1175) (fun _ h9 => h9) rfl d_X_addressPart_245 ?_
          refine lv_iconst (v := 3) hx hb d_X_addressPart_248 (by decide) ?_
          refine lv_icmp_ne (tgt := 286) hx hb d_X_addressPart_249 (by decide) (fun c62 => ?_) (fun c62 => ?_)
          · have gc62 : x0_54z59.toInt ≠ 3 := c_ne c62
            have R63 : 0 ≤ x0_54z59.toInt ∧ x0_54z59.toInt ≤ 2 := by omega
            refine lv_aload_n hx hb d_X_addressPart_286 rfl (lv_at hl 4 rfl) ?_
            refine lv_iload_n hx hb d_X_addressPart_287 rfl (lv_at hl 2 rfl) ?_
            refine va_put (D := D) (ci := 7) (v := .int x0_25) (ty := .int) (C := "SignMachineModel") (T := F_X) (N := 64) hx hb hk fi_X ft_X ft_X_ok fn_X hown hK.1 hP hD hS 0 rfl rfl 25 (by decide) (hk _ k_1146) (fun _ h9 => h9) rfl (by decide +kernel) rfl rfl (Nat.le_of_ble_eq_true rfl) d_X_addressPart_288 (fun H locs hP hD hS => ?_)
            have hP : va_P D classes (wS50 cI cJ cZ cB p0 p1 p2 p3 p4 p5 p6 p7 p8 p9 p10 p11 p12 p13 p14 p15 p16 p17 p18 p19 p20 p21 p22 p23 p24 p25 x0_4 x0_5 x0_6 x0_7 x0_8 x0_12 x0_13 x0_14 x0_15 x0_16 x0_17 x0_18 x0_22 x0_23 x0_24 x0_25 x0_26z59 x0_27 x0_28 x0_29 x0_30 x0_31 x0_32 x0_36 x0_39 x0_40 x0_44 x0_49 x0_51 x0_53 x0_54z59 x0_55z59 x0_56z59 x0_57 x0_58 x0_59 x0_60 x0_61 x0_62 y1 y2 y3 y4 y5 y6 y7 y8 y9 y10 y11 y12 y13 y14 y15 y16 y17 y18 y19 y20 y21 y22 y23 y24 y25) H := hP
            have hD : va_D A (wS50 cI cJ cZ cB p0 p1 p2 p3 p4 p5 p6 p7 p8 p9 p10 p11 p12 p13 p14 p15 p16 p17 p18 p19 p20 p21 p22 p23 p24 p25 x0_4 x0_5 x0_6 x0_7 x0_8 x0_12 x0_13 x0_14 x0_15 x0_16 x0_17 x0_18 x0_22 x0_23 x0_24 x0_25 x0_26z59 x0_27 x0_28 x0_29 x0_30 x0_31 x0_32 x0_36 x0_39 x0_40 x0_44 x0_49 x0_51 x0_53 x0_54z59 x0_55z59 x0_56z59 x0_57 x0_58 x0_59 x0_60 x0_61 x0_62 y1 y2 y3 y4 y5 y6 y7 y8 y9 y10 y11 y12 y13 y14 y15 y16 y17 y18 y19 y20 y21 y22 y23 y24 y25) := hD
            refine lv_aload_n hx hb d_X_addressPart_291 rfl (lv_at hl 4 rfl) ?_
            refine lv_iload_n hx hb d_X_addressPart_292 rfl (lv_at hl 1 rfl) ?_
            refine va_put (D := D) (ci := 7) (v := .int x0_26) (ty := .int) (C := "SignMachineModel") (T := F_X) (N := 64) hx hb hk fi_X ft_X ft_X_ok fn_X hown hK.1 hP hD hS 0 rfl rfl 26 (by decide) (hk _ k_1147) (fun _ h9 => h9) rfl (by decide +kernel) rfl rfl (Nat.le_of_ble_eq_true rfl) d_X_addressPart_293 (fun H locs hP hD hS => ?_)
            have hP : va_P D classes (wS50 cI cJ cZ cB p0 p1 p2 p3 p4 p5 p6 p7 p8 p9 p10 p11 p12 p13 p14 p15 p16 p17 p18 p19 p20 p21 p22 p23 p24 p25 x0_4 x0_5 x0_6 x0_7 x0_8 x0_12 x0_13 x0_14 x0_15 x0_16 x0_17 x0_18 x0_22 x0_23 x0_24 x0_25 x0_26 x0_27 x0_28 x0_29 x0_30 x0_31 x0_32 x0_36 x0_39 x0_40 x0_44 x0_49 x0_51 x0_53 x0_54z59 x0_55z59 x0_56z59 x0_57 x0_58 x0_59 x0_60 x0_61 x0_62 y1 y2 y3 y4 y5 y6 y7 y8 y9 y10 y11 y12 y13 y14 y15 y16 y17 y18 y19 y20 y21 y22 y23 y24 y25) H := hP
            have hD : va_D A (wS50 cI cJ cZ cB p0 p1 p2 p3 p4 p5 p6 p7 p8 p9 p10 p11 p12 p13 p14 p15 p16 p17 p18 p19 p20 p21 p22 p23 p24 p25 x0_4 x0_5 x0_6 x0_7 x0_8 x0_12 x0_13 x0_14 x0_15 x0_16 x0_17 x0_18 x0_22 x0_23 x0_24 x0_25 x0_26 x0_27 x0_28 x0_29 x0_30 x0_31 x0_32 x0_36 x0_39 x0_40 x0_44 x0_49 x0_51 x0_53 x0_54z59 x0_55z59 x0_56z59 x0_57 x0_58 x0_59 x0_60 x0_61 x0_62 y1 y2 y3 y4 y5 y6 y7 y8 y9 y10 y11 y12 y13 y14 y15 y16 y17 y18 y19 y20 y21 y22 y23 y24 y25) := hD
            refine lv_aload_n hx hb d_X_addressPart_296 rfl (lv_at hl 4 rfl) ?_
            refine sn_l (va_runV (C := "SignMachineModel") (As := []) (rest := []) ⟨hx, hb, hml, hown, hk⟩ (c_X_expression l D cI cJ cZ cB p0 p1 p2 p3 p4 p5 p6 p7 p8 p9 p10 p11 p12 p13 p14 p15 p16 p17 p18 p19 p20 p21 p22 p23 p24 p25 H.size x0_4 x0_5 x0_6 x0_7 x0_8 x0_12 x0_13 x0_14 x0_15 x0_16 x0_17 x0_18 x0_22 x0_23 x0_24 x0_25 x0_26 x0_27 x0_28 x0_29 x0_30 x0_31 x0_32 x0_36 x0_39 x0_40 x0_44 x0_49 x0_51 x0_53 x0_54z59 x0_55z59 x0_56z59 x0_57 x0_58 x0_59 x0_60 x0_61 x0_62 y1 y2 y3 y4 y5 y6 y7 y8 y9 y10 y11 y12 y13 y14 y15 y16 y17 y18 y19 y20 y21 y22 y23 y24 y25  Rx0_24 Rx0_25 Rx0_26 Rx0_30 Rx0_36 (rgw R63 (by decide) (by decide)) Ay13 Ay15 (show x0_25.toInt ≤ x0_24.toInt from by omega)) (v_X_expression hk k_1653 ⟨Nat.le_of_ble_eq_true rfl, Nat.le_of_ble_eq_true rfl⟩) (pM_v hK hP hD (ci := 7) (q0 := 0) rfl rfl rfl) rfl rfl hl.1 rfl (lv_room (Nat.le_of_ble_eq_true rfl)) d_X_addressPart_297 ⟨Nat.le_of_ble_eq_true rfl, Nat.le_of_ble_eq_true rfl⟩) hS hA hD (fun rz64 u t H locs hr0 ht hB hFr hS => ?_)
            subst hr0
            obtain ⟨x0_25z64, x0_26z64, x0_54z64, x0_55z64, x0_56z64, Rx0_25z64, Rx0_26z64, Rx0_54z64, F0z64, F1z64, F2z64, hP, hD⟩ := hB
            have F0z64 : (-1073741823) ≤ rz64.toInt ∧ rz64.toInt ≤ 1073741823 := F0z64
            have F1z64 : x0_25.toInt ≤ x0_25z64.toInt ∧ x0_25z64.toInt ≤ x0_24.toInt := F1z64
            have F2z64 : 1 ≤ x0_26.toInt → 1 ≤ x0_26z64.toInt := F2z64
            rw [ht] at hP
            have hD := dwk hD hFr
            clear ht hFr
            have hP : va_P D classes (wS50 cI cJ cZ cB p0 p1 p2 p3 p4 p5 p6 p7 p8 p9 p10 p11 p12 p13 p14 p15 p16 p17 p18 p19 p20 p21 p22 p23 p24 p25 x0_4 x0_5 x0_6 x0_7 x0_8 x0_12 x0_13 x0_14 x0_15 x0_16 x0_17 x0_18 x0_22 x0_23 x0_24 x0_25z64 x0_26z64 x0_27 x0_28 x0_29 x0_30 x0_31 x0_32 x0_36 x0_39 x0_40 x0_44 x0_49 x0_51 x0_53 x0_54z64 x0_55z64 x0_56z64 x0_57 x0_58 x0_59 x0_60 x0_61 x0_62 y1 y2 y3 y4 y5 y6 y7 y8 y9 y10 y11 y12 y13 y14 y15 y16 y17 y18 y19 y20 y21 y22 y23 y24 y25) H := hP
            have hD : va_D A (wS50 cI cJ cZ cB p0 p1 p2 p3 p4 p5 p6 p7 p8 p9 p10 p11 p12 p13 p14 p15 p16 p17 p18 p19 p20 p21 p22 p23 p24 p25 x0_4 x0_5 x0_6 x0_7 x0_8 x0_12 x0_13 x0_14 x0_15 x0_16 x0_17 x0_18 x0_22 x0_23 x0_24 x0_25z64 x0_26z64 x0_27 x0_28 x0_29 x0_30 x0_31 x0_32 x0_36 x0_39 x0_40 x0_44 x0_49 x0_51 x0_53 x0_54z64 x0_55z64 x0_56z64 x0_57 x0_58 x0_59 x0_60 x0_61 x0_62 y1 y2 y3 y4 y5 y6 y7 y8 y9 y10 y11 y12 y13 y14 y15 y16 y17 y18 y19 y20 y21 y22 y23 y24 y25) := hD
            exact W.lret (v := rz64) hx hb hr (fun t ht hW => ⟨⟨rz64, rz64, rfl, rfl, ⟨x0_25z64, x0_26z64, x0_36, x0_51, x0_53, x0_54z64, x0_55z64, x0_56z64, x0_57, x0_58, x0_59, x0_60, y11, y12, y23, y24, Rx0_25z64, Rx0_26z64, Rx0_36, Rx0_51, Rx0_53, Rx0_54z64, Rx0_57, Rx0_58, Rx0_59, Rx0_60, Ay23, Ay24, F0z64, (by omega), (by omega), (by omega), (by omega), by show va_P D classes _ t.heap; rw [ht]; exact hP, hD⟩⟩, hS.F ht⟩) hS.2.2 d_X_addressPart_300
          · have gc62 : x0_54z59.toInt = 3 := c_eq c62
            have R65 : 3 ≤ x0_54z59.toInt ∧ x0_54z59.toInt ≤ 3 := by omega
            refine lv_aload_n hx hb d_X_addressPart_252 rfl (lv_at hl 4 rfl) ?_
            refine va_get (D := D) (ci := 7) (v := .int x0_56z59) (C := "SignMachineModel") (T := F_X) (N := 64) hx hb hk fi_X hown hK.1 hP 0 rfl rfl 56 (by decide) (hk _ k_1177) (fun _ h9 => h9) rfl d_X_addressPart_253 ?_
            refine lv_bipush (v := 70) hx hb d_X_addressPart_256 (by decide) ?_
            refine lv_icmp_ne (tgt := 286) hx hb d_X_addressPart_258 (by decide) (fun c66 => ?_) (fun c66 => ?_)
            · have gc66 : x0_56z59.toInt ≠ 70 := c_ne c66
              refine lv_aload_n hx hb d_X_addressPart_286 rfl (lv_at hl 4 rfl) ?_
              refine lv_iload_n hx hb d_X_addressPart_287 rfl (lv_at hl 2 rfl) ?_
              refine va_put (D := D) (ci := 7) (v := .int x0_25) (ty := .int) (C := "SignMachineModel") (T := F_X) (N := 64) hx hb hk fi_X ft_X ft_X_ok fn_X hown hK.1 hP hD hS 0 rfl rfl 25 (by decide) (hk _ k_1146) (fun _ h9 => h9) rfl (by decide +kernel) rfl rfl (Nat.le_of_ble_eq_true rfl) d_X_addressPart_288 (fun H locs hP hD hS => ?_)
              have hP : va_P D classes (wS50 cI cJ cZ cB p0 p1 p2 p3 p4 p5 p6 p7 p8 p9 p10 p11 p12 p13 p14 p15 p16 p17 p18 p19 p20 p21 p22 p23 p24 p25 x0_4 x0_5 x0_6 x0_7 x0_8 x0_12 x0_13 x0_14 x0_15 x0_16 x0_17 x0_18 x0_22 x0_23 x0_24 x0_25 x0_26z59 x0_27 x0_28 x0_29 x0_30 x0_31 x0_32 x0_36 x0_39 x0_40 x0_44 x0_49 x0_51 x0_53 x0_54z59 x0_55z59 x0_56z59 x0_57 x0_58 x0_59 x0_60 x0_61 x0_62 y1 y2 y3 y4 y5 y6 y7 y8 y9 y10 y11 y12 y13 y14 y15 y16 y17 y18 y19 y20 y21 y22 y23 y24 y25) H := hP
              have hD : va_D A (wS50 cI cJ cZ cB p0 p1 p2 p3 p4 p5 p6 p7 p8 p9 p10 p11 p12 p13 p14 p15 p16 p17 p18 p19 p20 p21 p22 p23 p24 p25 x0_4 x0_5 x0_6 x0_7 x0_8 x0_12 x0_13 x0_14 x0_15 x0_16 x0_17 x0_18 x0_22 x0_23 x0_24 x0_25 x0_26z59 x0_27 x0_28 x0_29 x0_30 x0_31 x0_32 x0_36 x0_39 x0_40 x0_44 x0_49 x0_51 x0_53 x0_54z59 x0_55z59 x0_56z59 x0_57 x0_58 x0_59 x0_60 x0_61 x0_62 y1 y2 y3 y4 y5 y6 y7 y8 y9 y10 y11 y12 y13 y14 y15 y16 y17 y18 y19 y20 y21 y22 y23 y24 y25) := hD
              refine lv_aload_n hx hb d_X_addressPart_291 rfl (lv_at hl 4 rfl) ?_
              refine lv_iload_n hx hb d_X_addressPart_292 rfl (lv_at hl 1 rfl) ?_
              refine va_put (D := D) (ci := 7) (v := .int x0_26) (ty := .int) (C := "SignMachineModel") (T := F_X) (N := 64) hx hb hk fi_X ft_X ft_X_ok fn_X hown hK.1 hP hD hS 0 rfl rfl 26 (by decide) (hk _ k_1147) (fun _ h9 => h9) rfl (by decide +kernel) rfl rfl (Nat.le_of_ble_eq_true rfl) d_X_addressPart_293 (fun H locs hP hD hS => ?_)
              have hP : va_P D classes (wS50 cI cJ cZ cB p0 p1 p2 p3 p4 p5 p6 p7 p8 p9 p10 p11 p12 p13 p14 p15 p16 p17 p18 p19 p20 p21 p22 p23 p24 p25 x0_4 x0_5 x0_6 x0_7 x0_8 x0_12 x0_13 x0_14 x0_15 x0_16 x0_17 x0_18 x0_22 x0_23 x0_24 x0_25 x0_26 x0_27 x0_28 x0_29 x0_30 x0_31 x0_32 x0_36 x0_39 x0_40 x0_44 x0_49 x0_51 x0_53 x0_54z59 x0_55z59 x0_56z59 x0_57 x0_58 x0_59 x0_60 x0_61 x0_62 y1 y2 y3 y4 y5 y6 y7 y8 y9 y10 y11 y12 y13 y14 y15 y16 y17 y18 y19 y20 y21 y22 y23 y24 y25) H := hP
              have hD : va_D A (wS50 cI cJ cZ cB p0 p1 p2 p3 p4 p5 p6 p7 p8 p9 p10 p11 p12 p13 p14 p15 p16 p17 p18 p19 p20 p21 p22 p23 p24 p25 x0_4 x0_5 x0_6 x0_7 x0_8 x0_12 x0_13 x0_14 x0_15 x0_16 x0_17 x0_18 x0_22 x0_23 x0_24 x0_25 x0_26 x0_27 x0_28 x0_29 x0_30 x0_31 x0_32 x0_36 x0_39 x0_40 x0_44 x0_49 x0_51 x0_53 x0_54z59 x0_55z59 x0_56z59 x0_57 x0_58 x0_59 x0_60 x0_61 x0_62 y1 y2 y3 y4 y5 y6 y7 y8 y9 y10 y11 y12 y13 y14 y15 y16 y17 y18 y19 y20 y21 y22 y23 y24 y25) := hD
              refine lv_aload_n hx hb d_X_addressPart_296 rfl (lv_at hl 4 rfl) ?_
              refine sn_l (va_runV (C := "SignMachineModel") (As := []) (rest := []) ⟨hx, hb, hml, hown, hk⟩ (c_X_expression l D cI cJ cZ cB p0 p1 p2 p3 p4 p5 p6 p7 p8 p9 p10 p11 p12 p13 p14 p15 p16 p17 p18 p19 p20 p21 p22 p23 p24 p25 H.size x0_4 x0_5 x0_6 x0_7 x0_8 x0_12 x0_13 x0_14 x0_15 x0_16 x0_17 x0_18 x0_22 x0_23 x0_24 x0_25 x0_26 x0_27 x0_28 x0_29 x0_30 x0_31 x0_32 x0_36 x0_39 x0_40 x0_44 x0_49 x0_51 x0_53 x0_54z59 x0_55z59 x0_56z59 x0_57 x0_58 x0_59 x0_60 x0_61 x0_62 y1 y2 y3 y4 y5 y6 y7 y8 y9 y10 y11 y12 y13 y14 y15 y16 y17 y18 y19 y20 y21 y22 y23 y24 y25  Rx0_24 Rx0_25 Rx0_26 Rx0_30 Rx0_36 (rgw R65 (by decide) (by decide)) Ay13 Ay15 (show x0_25.toInt ≤ x0_24.toInt from by omega)) (v_X_expression hk k_1653 ⟨Nat.le_of_ble_eq_true rfl, Nat.le_of_ble_eq_true rfl⟩) (pM_v hK hP hD (ci := 7) (q0 := 0) rfl rfl rfl) rfl rfl hl.1 rfl (lv_room (Nat.le_of_ble_eq_true rfl)) d_X_addressPart_297 ⟨Nat.le_of_ble_eq_true rfl, Nat.le_of_ble_eq_true rfl⟩) hS hA hD (fun rz67 u t H locs hr0 ht hB hFr hS => ?_)
              subst hr0
              obtain ⟨x0_25z67, x0_26z67, x0_54z67, x0_55z67, x0_56z67, Rx0_25z67, Rx0_26z67, Rx0_54z67, F0z67, F1z67, F2z67, hP, hD⟩ := hB
              have F0z67 : (-1073741823) ≤ rz67.toInt ∧ rz67.toInt ≤ 1073741823 := F0z67
              have F1z67 : x0_25.toInt ≤ x0_25z67.toInt ∧ x0_25z67.toInt ≤ x0_24.toInt := F1z67
              have F2z67 : 1 ≤ x0_26.toInt → 1 ≤ x0_26z67.toInt := F2z67
              rw [ht] at hP
              have hD := dwk hD hFr
              clear ht hFr
              have hP : va_P D classes (wS50 cI cJ cZ cB p0 p1 p2 p3 p4 p5 p6 p7 p8 p9 p10 p11 p12 p13 p14 p15 p16 p17 p18 p19 p20 p21 p22 p23 p24 p25 x0_4 x0_5 x0_6 x0_7 x0_8 x0_12 x0_13 x0_14 x0_15 x0_16 x0_17 x0_18 x0_22 x0_23 x0_24 x0_25z67 x0_26z67 x0_27 x0_28 x0_29 x0_30 x0_31 x0_32 x0_36 x0_39 x0_40 x0_44 x0_49 x0_51 x0_53 x0_54z67 x0_55z67 x0_56z67 x0_57 x0_58 x0_59 x0_60 x0_61 x0_62 y1 y2 y3 y4 y5 y6 y7 y8 y9 y10 y11 y12 y13 y14 y15 y16 y17 y18 y19 y20 y21 y22 y23 y24 y25) H := hP
              have hD : va_D A (wS50 cI cJ cZ cB p0 p1 p2 p3 p4 p5 p6 p7 p8 p9 p10 p11 p12 p13 p14 p15 p16 p17 p18 p19 p20 p21 p22 p23 p24 p25 x0_4 x0_5 x0_6 x0_7 x0_8 x0_12 x0_13 x0_14 x0_15 x0_16 x0_17 x0_18 x0_22 x0_23 x0_24 x0_25z67 x0_26z67 x0_27 x0_28 x0_29 x0_30 x0_31 x0_32 x0_36 x0_39 x0_40 x0_44 x0_49 x0_51 x0_53 x0_54z67 x0_55z67 x0_56z67 x0_57 x0_58 x0_59 x0_60 x0_61 x0_62 y1 y2 y3 y4 y5 y6 y7 y8 y9 y10 y11 y12 y13 y14 y15 y16 y17 y18 y19 y20 y21 y22 y23 y24 y25) := hD
              exact W.lret (v := rz67) hx hb hr (fun t ht hW => ⟨⟨rz67, rz67, rfl, rfl, ⟨x0_25z67, x0_26z67, x0_36, x0_51, x0_53, x0_54z67, x0_55z67, x0_56z67, x0_57, x0_58, x0_59, x0_60, y11, y12, y23, y24, Rx0_25z67, Rx0_26z67, Rx0_36, Rx0_51, Rx0_53, Rx0_54z67, Rx0_57, Rx0_58, Rx0_59, Rx0_60, Ay23, Ay24, F0z67, (by omega), (by omega), (by omega), (by omega), by show va_P D classes _ t.heap; rw [ht]; exact hP, hD⟩⟩, hS.F ht⟩) hS.2.2 d_X_addressPart_300
            · have gc66 : x0_56z59.toInt = 70 := c_eq c66
              have R68 : 70 ≤ x0_56z59.toInt ∧ x0_56z59.toInt ≤ 70 := by omega
              refine lv_aload_n hx hb d_X_addressPart_261 rfl (lv_at hl 4 rfl) ?_
              refine sn_i (va_runV (C := "SignMachineModel") (As := []) (rest := []) ⟨hx, hb, hml, hown, hk⟩ (c_X_isAlone l D cI cJ cZ cB p0 p1 p2 p3 p4 p5 p6 p7 p8 p9 p10 p11 p12 p13 p14 p15 p16 p17 p18 p19 p20 p21 p22 p23 p24 p25 H.size x0_4 x0_5 x0_6 x0_7 x0_8 x0_12 x0_13 x0_14 x0_15 x0_16 x0_17 x0_18 x0_22 x0_23 x0_24 x0_25z59 x0_26z59 x0_27 x0_28 x0_29 x0_30 x0_31 x0_32 x0_36 x0_39 x0_40 x0_44 x0_49 x0_51 x0_53 x0_54z59 x0_55z59 x0_56z59 x0_57 x0_58 x0_59 x0_60 x0_61 x0_62 y1 y2 y3 y4 y5 y6 y7 y8 y9 y10 y11 y12 y13 y14 y15 y16 y17 y18 y19 y20 y21 y22 y23 y24 y25  Rx0_24 Rx0_25z59) (v_X_isAlone hk k_1695 ⟨Nat.le_of_ble_eq_true rfl, Nat.le_of_ble_eq_true rfl⟩) (pM_v hK hP hD (ci := 7) (q0 := 0) rfl rfl rfl) rfl rfl hl.1 rfl (lv_room (Nat.le_of_ble_eq_true rfl)) d_X_addressPart_262 ⟨Nat.le_of_ble_eq_true rfl, Nat.le_of_ble_eq_true rfl⟩) hS hA hD (fun rz69 u t H locs hr0 ht hB hFr hS => ?_)
              subst hr0
              obtain ⟨F0z69, hP, hD⟩ := hB
              have F0z69 : 0 ≤ rz69.toInt ∧ rz69.toInt ≤ 1 := F0z69
              rw [ht] at hP
              have hD := dwk hD hFr
              clear ht hFr
              have hP : va_P D classes (wS50 cI cJ cZ cB p0 p1 p2 p3 p4 p5 p6 p7 p8 p9 p10 p11 p12 p13 p14 p15 p16 p17 p18 p19 p20 p21 p22 p23 p24 p25 x0_4 x0_5 x0_6 x0_7 x0_8 x0_12 x0_13 x0_14 x0_15 x0_16 x0_17 x0_18 x0_22 x0_23 x0_24 x0_25z59 x0_26z59 x0_27 x0_28 x0_29 x0_30 x0_31 x0_32 x0_36 x0_39 x0_40 x0_44 x0_49 x0_51 x0_53 x0_54z59 x0_55z59 x0_56z59 x0_57 x0_58 x0_59 x0_60 x0_61 x0_62 y1 y2 y3 y4 y5 y6 y7 y8 y9 y10 y11 y12 y13 y14 y15 y16 y17 y18 y19 y20 y21 y22 y23 y24 y25) H := hP
              have hD : va_D A (wS50 cI cJ cZ cB p0 p1 p2 p3 p4 p5 p6 p7 p8 p9 p10 p11 p12 p13 p14 p15 p16 p17 p18 p19 p20 p21 p22 p23 p24 p25 x0_4 x0_5 x0_6 x0_7 x0_8 x0_12 x0_13 x0_14 x0_15 x0_16 x0_17 x0_18 x0_22 x0_23 x0_24 x0_25z59 x0_26z59 x0_27 x0_28 x0_29 x0_30 x0_31 x0_32 x0_36 x0_39 x0_40 x0_44 x0_49 x0_51 x0_53 x0_54z59 x0_55z59 x0_56z59 x0_57 x0_58 x0_59 x0_60 x0_61 x0_62 y1 y2 y3 y4 y5 y6 y7 y8 y9 y10 y11 y12 y13 y14 y15 y16 y17 y18 y19 y20 y21 y22 y23 y24 y25) := hD
              refine lv_if_eq (tgt := 286) hx hb d_X_addressPart_265 (by decide) (fun c70 => ?_) (fun c70 => ?_)
              · have gc70 : rz69.toInt = 0 := c_eq c70
                have R71 : 0 ≤ rz69.toInt ∧ rz69.toInt ≤ 0 := by omega
                refine lv_aload_n hx hb d_X_addressPart_286 rfl (lv_at hl 4 rfl) ?_
                refine lv_iload_n hx hb d_X_addressPart_287 rfl (lv_at hl 2 rfl) ?_
                refine va_put (D := D) (ci := 7) (v := .int x0_25) (ty := .int) (C := "SignMachineModel") (T := F_X) (N := 64) hx hb hk fi_X ft_X ft_X_ok fn_X hown hK.1 hP hD hS 0 rfl rfl 25 (by decide) (hk _ k_1146) (fun _ h9 => h9) rfl (by decide +kernel) rfl rfl (Nat.le_of_ble_eq_true rfl) d_X_addressPart_288 (fun H locs hP hD hS => ?_)
                have hP : va_P D classes (wS50 cI cJ cZ cB p0 p1 p2 p3 p4 p5 p6 p7 p8 p9 p10 p11 p12 p13 p14 p15 p16 p17 p18 p19 p20 p21 p22 p23 p24 p25 x0_4 x0_5 x0_6 x0_7 x0_8 x0_12 x0_13 x0_14 x0_15 x0_16 x0_17 x0_18 x0_22 x0_23 x0_24 x0_25 x0_26z59 x0_27 x0_28 x0_29 x0_30 x0_31 x0_32 x0_36 x0_39 x0_40 x0_44 x0_49 x0_51 x0_53 x0_54z59 x0_55z59 x0_56z59 x0_57 x0_58 x0_59 x0_60 x0_61 x0_62 y1 y2 y3 y4 y5 y6 y7 y8 y9 y10 y11 y12 y13 y14 y15 y16 y17 y18 y19 y20 y21 y22 y23 y24 y25) H := hP
                have hD : va_D A (wS50 cI cJ cZ cB p0 p1 p2 p3 p4 p5 p6 p7 p8 p9 p10 p11 p12 p13 p14 p15 p16 p17 p18 p19 p20 p21 p22 p23 p24 p25 x0_4 x0_5 x0_6 x0_7 x0_8 x0_12 x0_13 x0_14 x0_15 x0_16 x0_17 x0_18 x0_22 x0_23 x0_24 x0_25 x0_26z59 x0_27 x0_28 x0_29 x0_30 x0_31 x0_32 x0_36 x0_39 x0_40 x0_44 x0_49 x0_51 x0_53 x0_54z59 x0_55z59 x0_56z59 x0_57 x0_58 x0_59 x0_60 x0_61 x0_62 y1 y2 y3 y4 y5 y6 y7 y8 y9 y10 y11 y12 y13 y14 y15 y16 y17 y18 y19 y20 y21 y22 y23 y24 y25) := hD
                refine lv_aload_n hx hb d_X_addressPart_291 rfl (lv_at hl 4 rfl) ?_
                refine lv_iload_n hx hb d_X_addressPart_292 rfl (lv_at hl 1 rfl) ?_
                refine va_put (D := D) (ci := 7) (v := .int x0_26) (ty := .int) (C := "SignMachineModel") (T := F_X) (N := 64) hx hb hk fi_X ft_X ft_X_ok fn_X hown hK.1 hP hD hS 0 rfl rfl 26 (by decide) (hk _ k_1147) (fun _ h9 => h9) rfl (by decide +kernel) rfl rfl (Nat.le_of_ble_eq_true rfl) d_X_addressPart_293 (fun H locs hP hD hS => ?_)
                have hP : va_P D classes (wS50 cI cJ cZ cB p0 p1 p2 p3 p4 p5 p6 p7 p8 p9 p10 p11 p12 p13 p14 p15 p16 p17 p18 p19 p20 p21 p22 p23 p24 p25 x0_4 x0_5 x0_6 x0_7 x0_8 x0_12 x0_13 x0_14 x0_15 x0_16 x0_17 x0_18 x0_22 x0_23 x0_24 x0_25 x0_26 x0_27 x0_28 x0_29 x0_30 x0_31 x0_32 x0_36 x0_39 x0_40 x0_44 x0_49 x0_51 x0_53 x0_54z59 x0_55z59 x0_56z59 x0_57 x0_58 x0_59 x0_60 x0_61 x0_62 y1 y2 y3 y4 y5 y6 y7 y8 y9 y10 y11 y12 y13 y14 y15 y16 y17 y18 y19 y20 y21 y22 y23 y24 y25) H := hP
                have hD : va_D A (wS50 cI cJ cZ cB p0 p1 p2 p3 p4 p5 p6 p7 p8 p9 p10 p11 p12 p13 p14 p15 p16 p17 p18 p19 p20 p21 p22 p23 p24 p25 x0_4 x0_5 x0_6 x0_7 x0_8 x0_12 x0_13 x0_14 x0_15 x0_16 x0_17 x0_18 x0_22 x0_23 x0_24 x0_25 x0_26 x0_27 x0_28 x0_29 x0_30 x0_31 x0_32 x0_36 x0_39 x0_40 x0_44 x0_49 x0_51 x0_53 x0_54z59 x0_55z59 x0_56z59 x0_57 x0_58 x0_59 x0_60 x0_61 x0_62 y1 y2 y3 y4 y5 y6 y7 y8 y9 y10 y11 y12 y13 y14 y15 y16 y17 y18 y19 y20 y21 y22 y23 y24 y25) := hD
                refine lv_aload_n hx hb d_X_addressPart_296 rfl (lv_at hl 4 rfl) ?_
                refine sn_l (va_runV (C := "SignMachineModel") (As := []) (rest := []) ⟨hx, hb, hml, hown, hk⟩ (c_X_expression l D cI cJ cZ cB p0 p1 p2 p3 p4 p5 p6 p7 p8 p9 p10 p11 p12 p13 p14 p15 p16 p17 p18 p19 p20 p21 p22 p23 p24 p25 H.size x0_4 x0_5 x0_6 x0_7 x0_8 x0_12 x0_13 x0_14 x0_15 x0_16 x0_17 x0_18 x0_22 x0_23 x0_24 x0_25 x0_26 x0_27 x0_28 x0_29 x0_30 x0_31 x0_32 x0_36 x0_39 x0_40 x0_44 x0_49 x0_51 x0_53 x0_54z59 x0_55z59 x0_56z59 x0_57 x0_58 x0_59 x0_60 x0_61 x0_62 y1 y2 y3 y4 y5 y6 y7 y8 y9 y10 y11 y12 y13 y14 y15 y16 y17 y18 y19 y20 y21 y22 y23 y24 y25  Rx0_24 Rx0_25 Rx0_26 Rx0_30 Rx0_36 (rgw R65 (by decide) (by decide)) Ay13 Ay15 (show x0_25.toInt ≤ x0_24.toInt from by omega)) (v_X_expression hk k_1653 ⟨Nat.le_of_ble_eq_true rfl, Nat.le_of_ble_eq_true rfl⟩) (pM_v hK hP hD (ci := 7) (q0 := 0) rfl rfl rfl) rfl rfl hl.1 rfl (lv_room (Nat.le_of_ble_eq_true rfl)) d_X_addressPart_297 ⟨Nat.le_of_ble_eq_true rfl, Nat.le_of_ble_eq_true rfl⟩) hS hA hD (fun rz72 u t H locs hr0 ht hB hFr hS => ?_)
                subst hr0
                obtain ⟨x0_25z72, x0_26z72, x0_54z72, x0_55z72, x0_56z72, Rx0_25z72, Rx0_26z72, Rx0_54z72, F0z72, F1z72, F2z72, hP, hD⟩ := hB
                have F0z72 : (-1073741823) ≤ rz72.toInt ∧ rz72.toInt ≤ 1073741823 := F0z72
                have F1z72 : x0_25.toInt ≤ x0_25z72.toInt ∧ x0_25z72.toInt ≤ x0_24.toInt := F1z72
                have F2z72 : 1 ≤ x0_26.toInt → 1 ≤ x0_26z72.toInt := F2z72
                rw [ht] at hP
                have hD := dwk hD hFr
                clear ht hFr
                have hP : va_P D classes (wS50 cI cJ cZ cB p0 p1 p2 p3 p4 p5 p6 p7 p8 p9 p10 p11 p12 p13 p14 p15 p16 p17 p18 p19 p20 p21 p22 p23 p24 p25 x0_4 x0_5 x0_6 x0_7 x0_8 x0_12 x0_13 x0_14 x0_15 x0_16 x0_17 x0_18 x0_22 x0_23 x0_24 x0_25z72 x0_26z72 x0_27 x0_28 x0_29 x0_30 x0_31 x0_32 x0_36 x0_39 x0_40 x0_44 x0_49 x0_51 x0_53 x0_54z72 x0_55z72 x0_56z72 x0_57 x0_58 x0_59 x0_60 x0_61 x0_62 y1 y2 y3 y4 y5 y6 y7 y8 y9 y10 y11 y12 y13 y14 y15 y16 y17 y18 y19 y20 y21 y22 y23 y24 y25) H := hP
                have hD : va_D A (wS50 cI cJ cZ cB p0 p1 p2 p3 p4 p5 p6 p7 p8 p9 p10 p11 p12 p13 p14 p15 p16 p17 p18 p19 p20 p21 p22 p23 p24 p25 x0_4 x0_5 x0_6 x0_7 x0_8 x0_12 x0_13 x0_14 x0_15 x0_16 x0_17 x0_18 x0_22 x0_23 x0_24 x0_25z72 x0_26z72 x0_27 x0_28 x0_29 x0_30 x0_31 x0_32 x0_36 x0_39 x0_40 x0_44 x0_49 x0_51 x0_53 x0_54z72 x0_55z72 x0_56z72 x0_57 x0_58 x0_59 x0_60 x0_61 x0_62 y1 y2 y3 y4 y5 y6 y7 y8 y9 y10 y11 y12 y13 y14 y15 y16 y17 y18 y19 y20 y21 y22 y23 y24 y25) := hD
                exact W.lret (v := rz72) hx hb hr (fun t ht hW => ⟨⟨rz72, rz72, rfl, rfl, ⟨x0_25z72, x0_26z72, x0_36, x0_51, x0_53, x0_54z72, x0_55z72, x0_56z72, x0_57, x0_58, x0_59, x0_60, y11, y12, y23, y24, Rx0_25z72, Rx0_26z72, Rx0_36, Rx0_51, Rx0_53, Rx0_54z72, Rx0_57, Rx0_58, Rx0_59, Rx0_60, Ay23, Ay24, F0z72, (by omega), (by omega), (by omega), (by omega), by show va_P D classes _ t.heap; rw [ht]; exact hP, hD⟩⟩, hS.F ht⟩) hS.2.2 d_X_addressPart_300
              · have gc70 : rz69.toInt ≠ 0 := c_ne c70
                have R73 : 1 ≤ rz69.toInt ∧ rz69.toInt ≤ 1 := by omega
                refine lv_aload_n hx hb d_X_addressPart_268 rfl (lv_at hl 4 rfl) ?_
                refine lv_iconst (v := 1) hx hb d_X_addressPart_269 (by decide) ?_
                refine va_put (D := D) (ci := 7) (v := .int (1 : Int32)) (ty := .boolean) (C := "SignMachineModel") (T := F_X) (N := 64) hx hb hk fi_X ft_X ft_X_ok fn_X hown hK.1 hP hD hS 0 rfl rfl 59 (by decide) (hk _ k_1180) (fun _ h9 => h9) rfl (by decide +kernel) rfl rfl (Nat.le_of_ble_eq_true rfl) d_X_addressPart_270 (fun H locs hP hD hS => ?_)
                have hP : va_P D classes (wS50 cI cJ cZ cB p0 p1 p2 p3 p4 p5 p6 p7 p8 p9 p10 p11 p12 p13 p14 p15 p16 p17 p18 p19 p20 p21 p22 p23 p24 p25 x0_4 x0_5 x0_6 x0_7 x0_8 x0_12 x0_13 x0_14 x0_15 x0_16 x0_17 x0_18 x0_22 x0_23 x0_24 x0_25z59 x0_26z59 x0_27 x0_28 x0_29 x0_30 x0_31 x0_32 x0_36 x0_39 x0_40 x0_44 x0_49 x0_51 x0_53 x0_54z59 x0_55z59 x0_56z59 x0_57 x0_58 (1 : Int32) x0_60 x0_61 x0_62 y1 y2 y3 y4 y5 y6 y7 y8 y9 y10 y11 y12 y13 y14 y15 y16 y17 y18 y19 y20 y21 y22 y23 y24 y25) H := hP
                have hD : va_D A (wS50 cI cJ cZ cB p0 p1 p2 p3 p4 p5 p6 p7 p8 p9 p10 p11 p12 p13 p14 p15 p16 p17 p18 p19 p20 p21 p22 p23 p24 p25 x0_4 x0_5 x0_6 x0_7 x0_8 x0_12 x0_13 x0_14 x0_15 x0_16 x0_17 x0_18 x0_22 x0_23 x0_24 x0_25z59 x0_26z59 x0_27 x0_28 x0_29 x0_30 x0_31 x0_32 x0_36 x0_39 x0_40 x0_44 x0_49 x0_51 x0_53 x0_54z59 x0_55z59 x0_56z59 x0_57 x0_58 (1 : Int32) x0_60 x0_61 x0_62 y1 y2 y3 y4 y5 y6 y7 y8 y9 y10 y11 y12 y13 y14 y15 y16 y17 y18 y19 y20 y21 y22 y23 y24 y25) := hD
                refine lv_aload_n hx hb d_X_addressPart_273 rfl (lv_at hl 4 rfl) ?_
                refine lv_iconst (v := (-1)) hx hb d_X_addressPart_274 (by decide) ?_
                refine lv_aload_n hx hb d_X_addressPart_275 rfl (lv_at hl 4 rfl) ?_
                refine va_get (D := D) (ci := 7) (v := .long x0_55z59) (C := "SignMachineModel") (T := F_X) (N := 64) hx hb hk fi_X hown hK.1 hP 0 rfl rfl 55 (by decide) (hk _ k_1176) (fun _ h9 => h9) rfl d_X_addressPart_276 ?_
                have R74 : 0 ≤ x0_55z59.toInt ∧ x0_55z59.toInt ≤ 9 := by omega
                refine lv_l2i (v := (x0_55z59 : Int64).toInt32) hx hb d_X_addressPart_279 rfl ?_
                refine lv_topi (fun v75 hv75 => ?_)
                obtain ⟨ev75, Rv75⟩ : v75.toInt = x0_55z59.toInt ∧ (0 ≤ v75.toInt ∧ v75.toInt ≤ 9) := li3 hv75 R74 (by decide) (by decide)
                refine lv_isub hx hb d_X_addressPart_280 ?_
                refine lv_topi (fun v76 hv76 => ?_)
                obtain ⟨ev76, Rv76⟩ : v76.toInt = (-1) - v75.toInt ∧ ((-10) ≤ v76.toInt ∧ v76.toInt ≤ (-1)) := sb3 hv76 (by decide) Rv75 (by decide) (by decide) (by decide) (by decide)
                refine va_put (D := D) (ci := 7) (v := .int v76) (ty := .int) (C := "SignMachineModel") (T := F_X) (N := 64) hx hb hk fi_X ft_X ft_X_ok fn_X hown hK.1 hP hD hS 0 rfl rfl 60 (by decide) (hk _ k_1181) (fun _ h9 => h9) rfl (by decide +kernel) rfl rfl (Nat.le_of_ble_eq_true rfl) d_X_addressPart_281 (fun H locs hP hD hS => ?_)
                have hP : va_P D classes (wS50 cI cJ cZ cB p0 p1 p2 p3 p4 p5 p6 p7 p8 p9 p10 p11 p12 p13 p14 p15 p16 p17 p18 p19 p20 p21 p22 p23 p24 p25 x0_4 x0_5 x0_6 x0_7 x0_8 x0_12 x0_13 x0_14 x0_15 x0_16 x0_17 x0_18 x0_22 x0_23 x0_24 x0_25z59 x0_26z59 x0_27 x0_28 x0_29 x0_30 x0_31 x0_32 x0_36 x0_39 x0_40 x0_44 x0_49 x0_51 x0_53 x0_54z59 x0_55z59 x0_56z59 x0_57 x0_58 (1 : Int32) v76 x0_61 x0_62 y1 y2 y3 y4 y5 y6 y7 y8 y9 y10 y11 y12 y13 y14 y15 y16 y17 y18 y19 y20 y21 y22 y23 y24 y25) H := hP
                have hD : va_D A (wS50 cI cJ cZ cB p0 p1 p2 p3 p4 p5 p6 p7 p8 p9 p10 p11 p12 p13 p14 p15 p16 p17 p18 p19 p20 p21 p22 p23 p24 p25 x0_4 x0_5 x0_6 x0_7 x0_8 x0_12 x0_13 x0_14 x0_15 x0_16 x0_17 x0_18 x0_22 x0_23 x0_24 x0_25z59 x0_26z59 x0_27 x0_28 x0_29 x0_30 x0_31 x0_32 x0_36 x0_39 x0_40 x0_44 x0_49 x0_51 x0_53 x0_54z59 x0_55z59 x0_56z59 x0_57 x0_58 (1 : Int32) v76 x0_61 x0_62 y1 y2 y3 y4 y5 y6 y7 y8 y9 y10 y11 y12 y13 y14 y15 y16 y17 y18 y19 y20 y21 y22 y23 y24 y25) := hD
                refine lv_lconst (v := 0) hx hb d_X_addressPart_284 (by decide) ?_
                exact W.lret (v := (0 : Int64)) hx hb hr (fun t ht hW => ⟨⟨(0 : Int64), (0 : Int64), rfl, rfl, ⟨x0_25z59, x0_26z59, x0_36, x0_51, x0_53, x0_54z59, x0_55z59, x0_56z59, x0_57, x0_58, (1 : Int32), v76, y11, y12, y23, y24, Rx0_25z59, Rx0_26z59, Rx0_36, Rx0_51, Rx0_53, (rgw R65 (by decide) (by decide)), Rx0_57, Rx0_58, (by decide), (rgw Rv76 (by decide) (by decide)), Ay23, Ay24, (by decide), (by omega), (by omega), (by omega), (by omega), by show va_P D classes _ t.heap; rw [ht]; exact hP, hD⟩⟩, hS.F ht⟩) hS.2.2 d_X_addressPart_285
        · have gc60 : x0_54z59.toInt = 2 := c_eq c60
          have R77 : 2 ≤ x0_54z59.toInt ∧ x0_54z59.toInt ≤ 2 := by omega
          refine lv_aload_n hx hb d_X_addressPart_178 rfl (lv_at hl 3 rfl) ?_
          refine sn_i (va_runV (C := "SignMachineModel") (As := []) (rest := []) ⟨hx, hb, hml, hown, hk⟩ (c_X_isAlone l D cI cJ cZ cB p0 p1 p2 p3 p4 p5 p6 p7 p8 p9 p10 p11 p12 p13 p14 p15 p16 p17 p18 p19 p20 p21 p22 p23 p24 p25 H.size x0_4 x0_5 x0_6 x0_7 x0_8 x0_12 x0_13 x0_14 x0_15 x0_16 x0_17 x0_18 x0_22 x0_23 x0_24 x0_25z59 x0_26z59 x0_27 x0_28 x0_29 x0_30 x0_31 x0_32 x0_36 x0_39 x0_40 x0_44 x0_49 x0_51 x0_53 x0_54z59 x0_55z59 x0_56z59 x0_57 x0_58 x0_59 x0_60 x0_61 x0_62 y1 y2 y3 y4 y5 y6 y7 y8 y9 y10 y11 y12 y13 y14 y15 y16 y17 y18 y19 y20 y21 y22 y23 y24 y25  Rx0_24 Rx0_25z59) (v_X_isAlone hk k_1695 ⟨Nat.le_of_ble_eq_true rfl, Nat.le_of_ble_eq_true rfl⟩) (pM_v hK hP hD (ci := 7) (q0 := 0) rfl rfl rfl) rfl rfl hl.1 rfl (lv_room (Nat.le_of_ble_eq_true rfl)) d_X_addressPart_179 ⟨Nat.le_of_ble_eq_true rfl, Nat.le_of_ble_eq_true rfl⟩) hS hA hD (fun rz78 u t H locs hr0 ht hB hFr hS => ?_)
          subst hr0
          obtain ⟨F0z78, hP, hD⟩ := hB
          have F0z78 : 0 ≤ rz78.toInt ∧ rz78.toInt ≤ 1 := F0z78
          rw [ht] at hP
          have hD := dwk hD hFr
          clear ht hFr
          have hP : va_P D classes (wS50 cI cJ cZ cB p0 p1 p2 p3 p4 p5 p6 p7 p8 p9 p10 p11 p12 p13 p14 p15 p16 p17 p18 p19 p20 p21 p22 p23 p24 p25 x0_4 x0_5 x0_6 x0_7 x0_8 x0_12 x0_13 x0_14 x0_15 x0_16 x0_17 x0_18 x0_22 x0_23 x0_24 x0_25z59 x0_26z59 x0_27 x0_28 x0_29 x0_30 x0_31 x0_32 x0_36 x0_39 x0_40 x0_44 x0_49 x0_51 x0_53 x0_54z59 x0_55z59 x0_56z59 x0_57 x0_58 x0_59 x0_60 x0_61 x0_62 y1 y2 y3 y4 y5 y6 y7 y8 y9 y10 y11 y12 y13 y14 y15 y16 y17 y18 y19 y20 y21 y22 y23 y24 y25) H := hP
          have hD : va_D A (wS50 cI cJ cZ cB p0 p1 p2 p3 p4 p5 p6 p7 p8 p9 p10 p11 p12 p13 p14 p15 p16 p17 p18 p19 p20 p21 p22 p23 p24 p25 x0_4 x0_5 x0_6 x0_7 x0_8 x0_12 x0_13 x0_14 x0_15 x0_16 x0_17 x0_18 x0_22 x0_23 x0_24 x0_25z59 x0_26z59 x0_27 x0_28 x0_29 x0_30 x0_31 x0_32 x0_36 x0_39 x0_40 x0_44 x0_49 x0_51 x0_53 x0_54z59 x0_55z59 x0_56z59 x0_57 x0_58 x0_59 x0_60 x0_61 x0_62 y1 y2 y3 y4 y5 y6 y7 y8 y9 y10 y11 y12 y13 y14 y15 y16 y17 y18 y19 y20 y21 y22 y23 y24 y25) := hD
          refine lv_if_eq (tgt := 218) hx hb d_X_addressPart_182 (by decide) (fun c79 => ?_) (fun c79 => ?_)
          · have gc79 : rz78.toInt = 0 := c_eq c79
            have R80 : 0 ≤ rz78.toInt ∧ rz78.toInt ≤ 0 := by omega
            refine lv_iconst (v := 0) hx hb d_X_addressPart_218 (by decide) ?_
            refine lv_istore (lv' := [(4, .int (0 : Int32)), (3, .int x0_26), (2, .int x0_25), (1, .int rz1), (0, .ref p0)]) hx hb d_X_addressPart_219 hl (by decide) rfl (fun ls hl => ?_)
            refine lv_iload hx hb d_X_addressPart_221 (lv_at hl 0 rfl) ?_
            refine lv_if_eq (tgt := 244) hx hb d_X_addressPart_223 (by decide) (fun c81 => ?_) (fun c81 => absurd (show (0 : Int32) = (0 : Int32) from (by decide)) c81)
            refine lv_aload_n hx hb d_X_addressPart_244 rfl (lv_at hl 4 rfl) ?_
            refine va_get (D := D) (ci := 7) (v := .int x0_54z59) (C := "SignMachineModel") (T := F_X) (N := 64) hx hb hk fi_X hown hK.1 hP 0 rfl rfl 54 (by decide) (hk _ k_1175) (fun _ h9 => h9) rfl d_X_addressPart_245 ?_
            refine lv_iconst (v := 3) hx hb d_X_addressPart_248 (by decide) ?_
            refine lv_icmp_ne (tgt := 286) hx hb d_X_addressPart_249 (by decide) (fun c82 => ?_) (fun c82 => absurd c82 (show ¬ x0_54z59 = (3 : Int32) from (fun q => by have := c_eq q; omega)))
            refine lv_aload_n hx hb d_X_addressPart_286 rfl (lv_at hl 4 rfl) ?_
            refine lv_iload_n hx hb d_X_addressPart_287 rfl (lv_at hl 2 rfl) ?_
            refine va_put (D := D) (ci := 7) (v := .int x0_25) (ty := .int) (C := "SignMachineModel") (T := F_X) (N := 64) hx hb hk fi_X ft_X ft_X_ok fn_X hown hK.1 hP hD hS 0 rfl rfl 25 (by decide) (hk _ k_1146) (fun _ h9 => h9) rfl (by decide +kernel) rfl rfl (Nat.le_of_ble_eq_true rfl) d_X_addressPart_288 (fun H locs hP hD hS => ?_)
            have hP : va_P D classes (wS50 cI cJ cZ cB p0 p1 p2 p3 p4 p5 p6 p7 p8 p9 p10 p11 p12 p13 p14 p15 p16 p17 p18 p19 p20 p21 p22 p23 p24 p25 x0_4 x0_5 x0_6 x0_7 x0_8 x0_12 x0_13 x0_14 x0_15 x0_16 x0_17 x0_18 x0_22 x0_23 x0_24 x0_25 x0_26z59 x0_27 x0_28 x0_29 x0_30 x0_31 x0_32 x0_36 x0_39 x0_40 x0_44 x0_49 x0_51 x0_53 x0_54z59 x0_55z59 x0_56z59 x0_57 x0_58 x0_59 x0_60 x0_61 x0_62 y1 y2 y3 y4 y5 y6 y7 y8 y9 y10 y11 y12 y13 y14 y15 y16 y17 y18 y19 y20 y21 y22 y23 y24 y25) H := hP
            have hD : va_D A (wS50 cI cJ cZ cB p0 p1 p2 p3 p4 p5 p6 p7 p8 p9 p10 p11 p12 p13 p14 p15 p16 p17 p18 p19 p20 p21 p22 p23 p24 p25 x0_4 x0_5 x0_6 x0_7 x0_8 x0_12 x0_13 x0_14 x0_15 x0_16 x0_17 x0_18 x0_22 x0_23 x0_24 x0_25 x0_26z59 x0_27 x0_28 x0_29 x0_30 x0_31 x0_32 x0_36 x0_39 x0_40 x0_44 x0_49 x0_51 x0_53 x0_54z59 x0_55z59 x0_56z59 x0_57 x0_58 x0_59 x0_60 x0_61 x0_62 y1 y2 y3 y4 y5 y6 y7 y8 y9 y10 y11 y12 y13 y14 y15 y16 y17 y18 y19 y20 y21 y22 y23 y24 y25) := hD
            refine lv_aload_n hx hb d_X_addressPart_291 rfl (lv_at hl 4 rfl) ?_
            refine lv_iload_n hx hb d_X_addressPart_292 rfl (lv_at hl 1 rfl) ?_
            refine va_put (D := D) (ci := 7) (v := .int x0_26) (ty := .int) (C := "SignMachineModel") (T := F_X) (N := 64) hx hb hk fi_X ft_X ft_X_ok fn_X hown hK.1 hP hD hS 0 rfl rfl 26 (by decide) (hk _ k_1147) (fun _ h9 => h9) rfl (by decide +kernel) rfl rfl (Nat.le_of_ble_eq_true rfl) d_X_addressPart_293 (fun H locs hP hD hS => ?_)
            have hP : va_P D classes (wS50 cI cJ cZ cB p0 p1 p2 p3 p4 p5 p6 p7 p8 p9 p10 p11 p12 p13 p14 p15 p16 p17 p18 p19 p20 p21 p22 p23 p24 p25 x0_4 x0_5 x0_6 x0_7 x0_8 x0_12 x0_13 x0_14 x0_15 x0_16 x0_17 x0_18 x0_22 x0_23 x0_24 x0_25 x0_26 x0_27 x0_28 x0_29 x0_30 x0_31 x0_32 x0_36 x0_39 x0_40 x0_44 x0_49 x0_51 x0_53 x0_54z59 x0_55z59 x0_56z59 x0_57 x0_58 x0_59 x0_60 x0_61 x0_62 y1 y2 y3 y4 y5 y6 y7 y8 y9 y10 y11 y12 y13 y14 y15 y16 y17 y18 y19 y20 y21 y22 y23 y24 y25) H := hP
            have hD : va_D A (wS50 cI cJ cZ cB p0 p1 p2 p3 p4 p5 p6 p7 p8 p9 p10 p11 p12 p13 p14 p15 p16 p17 p18 p19 p20 p21 p22 p23 p24 p25 x0_4 x0_5 x0_6 x0_7 x0_8 x0_12 x0_13 x0_14 x0_15 x0_16 x0_17 x0_18 x0_22 x0_23 x0_24 x0_25 x0_26 x0_27 x0_28 x0_29 x0_30 x0_31 x0_32 x0_36 x0_39 x0_40 x0_44 x0_49 x0_51 x0_53 x0_54z59 x0_55z59 x0_56z59 x0_57 x0_58 x0_59 x0_60 x0_61 x0_62 y1 y2 y3 y4 y5 y6 y7 y8 y9 y10 y11 y12 y13 y14 y15 y16 y17 y18 y19 y20 y21 y22 y23 y24 y25) := hD
            refine lv_aload_n hx hb d_X_addressPart_296 rfl (lv_at hl 4 rfl) ?_
            refine sn_l (va_runV (C := "SignMachineModel") (As := []) (rest := []) ⟨hx, hb, hml, hown, hk⟩ (c_X_expression l D cI cJ cZ cB p0 p1 p2 p3 p4 p5 p6 p7 p8 p9 p10 p11 p12 p13 p14 p15 p16 p17 p18 p19 p20 p21 p22 p23 p24 p25 H.size x0_4 x0_5 x0_6 x0_7 x0_8 x0_12 x0_13 x0_14 x0_15 x0_16 x0_17 x0_18 x0_22 x0_23 x0_24 x0_25 x0_26 x0_27 x0_28 x0_29 x0_30 x0_31 x0_32 x0_36 x0_39 x0_40 x0_44 x0_49 x0_51 x0_53 x0_54z59 x0_55z59 x0_56z59 x0_57 x0_58 x0_59 x0_60 x0_61 x0_62 y1 y2 y3 y4 y5 y6 y7 y8 y9 y10 y11 y12 y13 y14 y15 y16 y17 y18 y19 y20 y21 y22 y23 y24 y25  Rx0_24 Rx0_25 Rx0_26 Rx0_30 Rx0_36 (rgw R77 (by decide) (by decide)) Ay13 Ay15 (show x0_25.toInt ≤ x0_24.toInt from by omega)) (v_X_expression hk k_1653 ⟨Nat.le_of_ble_eq_true rfl, Nat.le_of_ble_eq_true rfl⟩) (pM_v hK hP hD (ci := 7) (q0 := 0) rfl rfl rfl) rfl rfl hl.1 rfl (lv_room (Nat.le_of_ble_eq_true rfl)) d_X_addressPart_297 ⟨Nat.le_of_ble_eq_true rfl, Nat.le_of_ble_eq_true rfl⟩) hS hA hD (fun rz83 u t H locs hr0 ht hB hFr hS => ?_)
            subst hr0
            obtain ⟨x0_25z83, x0_26z83, x0_54z83, x0_55z83, x0_56z83, Rx0_25z83, Rx0_26z83, Rx0_54z83, F0z83, F1z83, F2z83, hP, hD⟩ := hB
            have F0z83 : (-1073741823) ≤ rz83.toInt ∧ rz83.toInt ≤ 1073741823 := F0z83
            have F1z83 : x0_25.toInt ≤ x0_25z83.toInt ∧ x0_25z83.toInt ≤ x0_24.toInt := F1z83
            have F2z83 : 1 ≤ x0_26.toInt → 1 ≤ x0_26z83.toInt := F2z83
            rw [ht] at hP
            have hD := dwk hD hFr
            clear ht hFr
            have hP : va_P D classes (wS50 cI cJ cZ cB p0 p1 p2 p3 p4 p5 p6 p7 p8 p9 p10 p11 p12 p13 p14 p15 p16 p17 p18 p19 p20 p21 p22 p23 p24 p25 x0_4 x0_5 x0_6 x0_7 x0_8 x0_12 x0_13 x0_14 x0_15 x0_16 x0_17 x0_18 x0_22 x0_23 x0_24 x0_25z83 x0_26z83 x0_27 x0_28 x0_29 x0_30 x0_31 x0_32 x0_36 x0_39 x0_40 x0_44 x0_49 x0_51 x0_53 x0_54z83 x0_55z83 x0_56z83 x0_57 x0_58 x0_59 x0_60 x0_61 x0_62 y1 y2 y3 y4 y5 y6 y7 y8 y9 y10 y11 y12 y13 y14 y15 y16 y17 y18 y19 y20 y21 y22 y23 y24 y25) H := hP
            have hD : va_D A (wS50 cI cJ cZ cB p0 p1 p2 p3 p4 p5 p6 p7 p8 p9 p10 p11 p12 p13 p14 p15 p16 p17 p18 p19 p20 p21 p22 p23 p24 p25 x0_4 x0_5 x0_6 x0_7 x0_8 x0_12 x0_13 x0_14 x0_15 x0_16 x0_17 x0_18 x0_22 x0_23 x0_24 x0_25z83 x0_26z83 x0_27 x0_28 x0_29 x0_30 x0_31 x0_32 x0_36 x0_39 x0_40 x0_44 x0_49 x0_51 x0_53 x0_54z83 x0_55z83 x0_56z83 x0_57 x0_58 x0_59 x0_60 x0_61 x0_62 y1 y2 y3 y4 y5 y6 y7 y8 y9 y10 y11 y12 y13 y14 y15 y16 y17 y18 y19 y20 y21 y22 y23 y24 y25) := hD
            exact W.lret (v := rz83) hx hb hr (fun t ht hW => ⟨⟨rz83, rz83, rfl, rfl, ⟨x0_25z83, x0_26z83, x0_36, x0_51, x0_53, x0_54z83, x0_55z83, x0_56z83, x0_57, x0_58, x0_59, x0_60, y11, y12, y23, y24, Rx0_25z83, Rx0_26z83, Rx0_36, Rx0_51, Rx0_53, Rx0_54z83, Rx0_57, Rx0_58, Rx0_59, Rx0_60, Ay23, Ay24, F0z83, (by omega), (by omega), (by omega), (by omega), by show va_P D classes _ t.heap; rw [ht]; exact hP, hD⟩⟩, hS.F ht⟩) hS.2.2 d_X_addressPart_300
          · have gc79 : rz78.toInt ≠ 0 := c_ne c79
            have R84 : 1 ≤ rz78.toInt ∧ rz78.toInt ≤ 1 := by omega
            refine lv_aload_n hx hb d_X_addressPart_185 rfl (lv_at hl 3 rfl) ?_
            refine lv_aload_n hx hb d_X_addressPart_186 rfl (lv_at hl 3 rfl) ?_
            refine va_get (D := D) (ci := 7) (v := .long x0_55z59) (C := "SignMachineModel") (T := F_X) (N := 64) hx hb hk fi_X hown hK.1 hP 0 rfl rfl 55 (by decide) (hk _ k_1176) (fun _ h9 => h9) rfl d_X_addressPart_187 ?_
            refine sn_i (va_runV (C := "SignMachineModel") (As := [.long x0_55z59]) (rest := []) ⟨hx, hb, hml, hown, hk⟩ (c_X_findSymbol l D cI cJ cZ cB p0 p1 p2 p3 p4 p5 p6 p7 p8 p9 p10 p11 p12 p13 p14 p15 p16 p17 p18 p19 p20 p21 p22 p23 p24 p25 H.size x0_4 x0_5 x0_6 x0_7 x0_8 x0_12 x0_13 x0_14 x0_15 x0_16 x0_17 x0_18 x0_22 x0_23 x0_24 x0_25z59 x0_26z59 x0_27 x0_28 x0_29 x0_30 x0_31 x0_32 x0_36 x0_39 x0_40 x0_44 x0_49 x0_51 x0_53 x0_54z59 x0_55z59 x0_56z59 x0_57 x0_58 x0_59 x0_60 x0_61 x0_62 y1 y2 y3 y4 y5 y6 y7 y8 y9 y10 y11 y12 y13 y14 y15 y16 y17 y18 y19 y20 y21 y22 y23 y24 y25 x0_55z59 Rx0_36) (v_X_findSymbol hk k_1626 ⟨Nat.le_of_ble_eq_true rfl, Nat.le_of_ble_eq_true rfl⟩) (pM_v hK hP hD (ci := 7) (q0 := 0) rfl rfl rfl) rfl rfl hl.1 rfl (lv_room (Nat.le_of_ble_eq_true rfl)) d_X_addressPart_190 ⟨Nat.le_of_ble_eq_true rfl, Nat.le_of_ble_eq_true rfl⟩) hS hA hD (fun rz85 u t H locs hr0 ht hB hFr hS => ?_)
            subst hr0
            obtain ⟨F0z85, F1z85, F2z85, hP, hD⟩ := hB
            have F0z85 : (-2) ≤ rz85.toInt ∧ rz85.toInt ≤ 59 := F0z85
            have F1z85 : rz85.toInt = -2 ∨ (0 ≤ rz85.toInt ∧ rz85.toInt < x0_36.toInt) := F1z85
            have F2z85 : (rz85.toInt = -2 ∧ nsI y11 x0_36.toInt x0_55z59 = 0) ∨ (rz85.toInt ≠ -2 ∧ nsI y11 x0_36.toInt x0_55z59 = 1) := F2z85
            rw [ht] at hP
            have hD := dwk hD hFr
            clear ht hFr
            have hP : va_P D classes (wS50 cI cJ cZ cB p0 p1 p2 p3 p4 p5 p6 p7 p8 p9 p10 p11 p12 p13 p14 p15 p16 p17 p18 p19 p20 p21 p22 p23 p24 p25 x0_4 x0_5 x0_6 x0_7 x0_8 x0_12 x0_13 x0_14 x0_15 x0_16 x0_17 x0_18 x0_22 x0_23 x0_24 x0_25z59 x0_26z59 x0_27 x0_28 x0_29 x0_30 x0_31 x0_32 x0_36 x0_39 x0_40 x0_44 x0_49 x0_51 x0_53 x0_54z59 x0_55z59 x0_56z59 x0_57 x0_58 x0_59 x0_60 x0_61 x0_62 y1 y2 y3 y4 y5 y6 y7 y8 y9 y10 y11 y12 y13 y14 y15 y16 y17 y18 y19 y20 y21 y22 y23 y24 y25) H := hP
            have hD : va_D A (wS50 cI cJ cZ cB p0 p1 p2 p3 p4 p5 p6 p7 p8 p9 p10 p11 p12 p13 p14 p15 p16 p17 p18 p19 p20 p21 p22 p23 p24 p25 x0_4 x0_5 x0_6 x0_7 x0_8 x0_12 x0_13 x0_14 x0_15 x0_16 x0_17 x0_18 x0_22 x0_23 x0_24 x0_25z59 x0_26z59 x0_27 x0_28 x0_29 x0_30 x0_31 x0_32 x0_36 x0_39 x0_40 x0_44 x0_49 x0_51 x0_53 x0_54z59 x0_55z59 x0_56z59 x0_57 x0_58 x0_59 x0_60 x0_61 x0_62 y1 y2 y3 y4 y5 y6 y7 y8 y9 y10 y11 y12 y13 y14 y15 y16 y17 y18 y19 y20 y21 y22 y23 y24 y25) := hD
            refine lv_bipush (v := (-2)) hx hb d_X_addressPart_193 (by decide) ?_
            refine lv_icmp_eq (tgt := 214) hx hb d_X_addressPart_195 (by decide) (fun c86 => ?_) (fun c86 => ?_)
            · have gc86 : rz85.toInt = (-2) := c_eq c86
              have R87 : (-2) ≤ rz85.toInt ∧ rz85.toInt ≤ (-2) := by omega
              refine lv_iconst (v := 1) hx hb d_X_addressPart_214 (by decide) ?_
              refine lv_goto (tgt := 219) hx hb d_X_addressPart_215 (by decide) ?_
              refine lv_istore (lv' := [(4, .int (1 : Int32)), (3, .int x0_26), (2, .int x0_25), (1, .int rz1), (0, .ref p0)]) hx hb d_X_addressPart_219 hl (by decide) rfl (fun ls hl => ?_)
              refine lv_iload hx hb d_X_addressPart_221 (lv_at hl 0 rfl) ?_
              refine lv_if_eq (tgt := 244) hx hb d_X_addressPart_223 (by decide) (fun c88 => absurd c88 (show ¬ (1 : Int32) = (0 : Int32) from (by decide))) (fun c88 => ?_)
              refine lv_aload_n hx hb d_X_addressPart_226 rfl (lv_at hl 4 rfl) ?_
              refine va_get (D := D) (ci := 7) (v := .int x0_26z59) (C := "SignMachineModel") (T := F_X) (N := 64) hx hb hk fi_X hown hK.1 hP 0 rfl rfl 26 (by decide) (hk _ k_1147) (fun _ h9 => h9) rfl d_X_addressPart_227 ?_
              refine lv_iload_n hx hb d_X_addressPart_230 rfl (lv_at hl 1 rfl) ?_
              refine lv_icmp_ne (tgt := 244) hx hb d_X_addressPart_231 (by decide) (fun c89 => ?_) (fun c89 => ?_)
              · have gc89 : x0_26z59.toInt ≠ x0_26.toInt := c_ne c89
                refine lv_aload_n hx hb d_X_addressPart_244 rfl (lv_at hl 4 rfl) ?_
                refine va_get (D := D) (ci := 7) (v := .int x0_54z59) (C := "SignMachineModel") (T := F_X) (N := 64) hx hb hk fi_X hown hK.1 hP 0 rfl rfl 54 (by decide) (hk _ k_1175) (fun _ h9 => h9) rfl d_X_addressPart_245 ?_
                refine lv_iconst (v := 3) hx hb d_X_addressPart_248 (by decide) ?_
                refine lv_icmp_ne (tgt := 286) hx hb d_X_addressPart_249 (by decide) (fun c90 => ?_) (fun c90 => absurd c90 (show ¬ x0_54z59 = (3 : Int32) from (fun q => by have := c_eq q; omega)))
                refine lv_aload_n hx hb d_X_addressPart_286 rfl (lv_at hl 4 rfl) ?_
                refine lv_iload_n hx hb d_X_addressPart_287 rfl (lv_at hl 2 rfl) ?_
                refine va_put (D := D) (ci := 7) (v := .int x0_25) (ty := .int) (C := "SignMachineModel") (T := F_X) (N := 64) hx hb hk fi_X ft_X ft_X_ok fn_X hown hK.1 hP hD hS 0 rfl rfl 25 (by decide) (hk _ k_1146) (fun _ h9 => h9) rfl (by decide +kernel) rfl rfl (Nat.le_of_ble_eq_true rfl) d_X_addressPart_288 (fun H locs hP hD hS => ?_)
                have hP : va_P D classes (wS50 cI cJ cZ cB p0 p1 p2 p3 p4 p5 p6 p7 p8 p9 p10 p11 p12 p13 p14 p15 p16 p17 p18 p19 p20 p21 p22 p23 p24 p25 x0_4 x0_5 x0_6 x0_7 x0_8 x0_12 x0_13 x0_14 x0_15 x0_16 x0_17 x0_18 x0_22 x0_23 x0_24 x0_25 x0_26z59 x0_27 x0_28 x0_29 x0_30 x0_31 x0_32 x0_36 x0_39 x0_40 x0_44 x0_49 x0_51 x0_53 x0_54z59 x0_55z59 x0_56z59 x0_57 x0_58 x0_59 x0_60 x0_61 x0_62 y1 y2 y3 y4 y5 y6 y7 y8 y9 y10 y11 y12 y13 y14 y15 y16 y17 y18 y19 y20 y21 y22 y23 y24 y25) H := hP
                have hD : va_D A (wS50 cI cJ cZ cB p0 p1 p2 p3 p4 p5 p6 p7 p8 p9 p10 p11 p12 p13 p14 p15 p16 p17 p18 p19 p20 p21 p22 p23 p24 p25 x0_4 x0_5 x0_6 x0_7 x0_8 x0_12 x0_13 x0_14 x0_15 x0_16 x0_17 x0_18 x0_22 x0_23 x0_24 x0_25 x0_26z59 x0_27 x0_28 x0_29 x0_30 x0_31 x0_32 x0_36 x0_39 x0_40 x0_44 x0_49 x0_51 x0_53 x0_54z59 x0_55z59 x0_56z59 x0_57 x0_58 x0_59 x0_60 x0_61 x0_62 y1 y2 y3 y4 y5 y6 y7 y8 y9 y10 y11 y12 y13 y14 y15 y16 y17 y18 y19 y20 y21 y22 y23 y24 y25) := hD
                refine lv_aload_n hx hb d_X_addressPart_291 rfl (lv_at hl 4 rfl) ?_
                refine lv_iload_n hx hb d_X_addressPart_292 rfl (lv_at hl 1 rfl) ?_
                refine va_put (D := D) (ci := 7) (v := .int x0_26) (ty := .int) (C := "SignMachineModel") (T := F_X) (N := 64) hx hb hk fi_X ft_X ft_X_ok fn_X hown hK.1 hP hD hS 0 rfl rfl 26 (by decide) (hk _ k_1147) (fun _ h9 => h9) rfl (by decide +kernel) rfl rfl (Nat.le_of_ble_eq_true rfl) d_X_addressPart_293 (fun H locs hP hD hS => ?_)
                have hP : va_P D classes (wS50 cI cJ cZ cB p0 p1 p2 p3 p4 p5 p6 p7 p8 p9 p10 p11 p12 p13 p14 p15 p16 p17 p18 p19 p20 p21 p22 p23 p24 p25 x0_4 x0_5 x0_6 x0_7 x0_8 x0_12 x0_13 x0_14 x0_15 x0_16 x0_17 x0_18 x0_22 x0_23 x0_24 x0_25 x0_26 x0_27 x0_28 x0_29 x0_30 x0_31 x0_32 x0_36 x0_39 x0_40 x0_44 x0_49 x0_51 x0_53 x0_54z59 x0_55z59 x0_56z59 x0_57 x0_58 x0_59 x0_60 x0_61 x0_62 y1 y2 y3 y4 y5 y6 y7 y8 y9 y10 y11 y12 y13 y14 y15 y16 y17 y18 y19 y20 y21 y22 y23 y24 y25) H := hP
                have hD : va_D A (wS50 cI cJ cZ cB p0 p1 p2 p3 p4 p5 p6 p7 p8 p9 p10 p11 p12 p13 p14 p15 p16 p17 p18 p19 p20 p21 p22 p23 p24 p25 x0_4 x0_5 x0_6 x0_7 x0_8 x0_12 x0_13 x0_14 x0_15 x0_16 x0_17 x0_18 x0_22 x0_23 x0_24 x0_25 x0_26 x0_27 x0_28 x0_29 x0_30 x0_31 x0_32 x0_36 x0_39 x0_40 x0_44 x0_49 x0_51 x0_53 x0_54z59 x0_55z59 x0_56z59 x0_57 x0_58 x0_59 x0_60 x0_61 x0_62 y1 y2 y3 y4 y5 y6 y7 y8 y9 y10 y11 y12 y13 y14 y15 y16 y17 y18 y19 y20 y21 y22 y23 y24 y25) := hD
                refine lv_aload_n hx hb d_X_addressPart_296 rfl (lv_at hl 4 rfl) ?_
                refine sn_l (va_runV (C := "SignMachineModel") (As := []) (rest := []) ⟨hx, hb, hml, hown, hk⟩ (c_X_expression l D cI cJ cZ cB p0 p1 p2 p3 p4 p5 p6 p7 p8 p9 p10 p11 p12 p13 p14 p15 p16 p17 p18 p19 p20 p21 p22 p23 p24 p25 H.size x0_4 x0_5 x0_6 x0_7 x0_8 x0_12 x0_13 x0_14 x0_15 x0_16 x0_17 x0_18 x0_22 x0_23 x0_24 x0_25 x0_26 x0_27 x0_28 x0_29 x0_30 x0_31 x0_32 x0_36 x0_39 x0_40 x0_44 x0_49 x0_51 x0_53 x0_54z59 x0_55z59 x0_56z59 x0_57 x0_58 x0_59 x0_60 x0_61 x0_62 y1 y2 y3 y4 y5 y6 y7 y8 y9 y10 y11 y12 y13 y14 y15 y16 y17 y18 y19 y20 y21 y22 y23 y24 y25  Rx0_24 Rx0_25 Rx0_26 Rx0_30 Rx0_36 (rgw R77 (by decide) (by decide)) Ay13 Ay15 (show x0_25.toInt ≤ x0_24.toInt from by omega)) (v_X_expression hk k_1653 ⟨Nat.le_of_ble_eq_true rfl, Nat.le_of_ble_eq_true rfl⟩) (pM_v hK hP hD (ci := 7) (q0 := 0) rfl rfl rfl) rfl rfl hl.1 rfl (lv_room (Nat.le_of_ble_eq_true rfl)) d_X_addressPart_297 ⟨Nat.le_of_ble_eq_true rfl, Nat.le_of_ble_eq_true rfl⟩) hS hA hD (fun rz91 u t H locs hr0 ht hB hFr hS => ?_)
                subst hr0
                obtain ⟨x0_25z91, x0_26z91, x0_54z91, x0_55z91, x0_56z91, Rx0_25z91, Rx0_26z91, Rx0_54z91, F0z91, F1z91, F2z91, hP, hD⟩ := hB
                have F0z91 : (-1073741823) ≤ rz91.toInt ∧ rz91.toInt ≤ 1073741823 := F0z91
                have F1z91 : x0_25.toInt ≤ x0_25z91.toInt ∧ x0_25z91.toInt ≤ x0_24.toInt := F1z91
                have F2z91 : 1 ≤ x0_26.toInt → 1 ≤ x0_26z91.toInt := F2z91
                rw [ht] at hP
                have hD := dwk hD hFr
                clear ht hFr
                have hP : va_P D classes (wS50 cI cJ cZ cB p0 p1 p2 p3 p4 p5 p6 p7 p8 p9 p10 p11 p12 p13 p14 p15 p16 p17 p18 p19 p20 p21 p22 p23 p24 p25 x0_4 x0_5 x0_6 x0_7 x0_8 x0_12 x0_13 x0_14 x0_15 x0_16 x0_17 x0_18 x0_22 x0_23 x0_24 x0_25z91 x0_26z91 x0_27 x0_28 x0_29 x0_30 x0_31 x0_32 x0_36 x0_39 x0_40 x0_44 x0_49 x0_51 x0_53 x0_54z91 x0_55z91 x0_56z91 x0_57 x0_58 x0_59 x0_60 x0_61 x0_62 y1 y2 y3 y4 y5 y6 y7 y8 y9 y10 y11 y12 y13 y14 y15 y16 y17 y18 y19 y20 y21 y22 y23 y24 y25) H := hP
                have hD : va_D A (wS50 cI cJ cZ cB p0 p1 p2 p3 p4 p5 p6 p7 p8 p9 p10 p11 p12 p13 p14 p15 p16 p17 p18 p19 p20 p21 p22 p23 p24 p25 x0_4 x0_5 x0_6 x0_7 x0_8 x0_12 x0_13 x0_14 x0_15 x0_16 x0_17 x0_18 x0_22 x0_23 x0_24 x0_25z91 x0_26z91 x0_27 x0_28 x0_29 x0_30 x0_31 x0_32 x0_36 x0_39 x0_40 x0_44 x0_49 x0_51 x0_53 x0_54z91 x0_55z91 x0_56z91 x0_57 x0_58 x0_59 x0_60 x0_61 x0_62 y1 y2 y3 y4 y5 y6 y7 y8 y9 y10 y11 y12 y13 y14 y15 y16 y17 y18 y19 y20 y21 y22 y23 y24 y25) := hD
                exact W.lret (v := rz91) hx hb hr (fun t ht hW => ⟨⟨rz91, rz91, rfl, rfl, ⟨x0_25z91, x0_26z91, x0_36, x0_51, x0_53, x0_54z91, x0_55z91, x0_56z91, x0_57, x0_58, x0_59, x0_60, y11, y12, y23, y24, Rx0_25z91, Rx0_26z91, Rx0_36, Rx0_51, Rx0_53, Rx0_54z91, Rx0_57, Rx0_58, Rx0_59, Rx0_60, Ay23, Ay24, F0z91, (by omega), (by omega), (by omega), (by omega), by show va_P D classes _ t.heap; rw [ht]; exact hP, hD⟩⟩, hS.F ht⟩) hS.2.2 d_X_addressPart_300
              · have gc89 : x0_26z59.toInt = x0_26.toInt := c_eq c89
                refine lv_aload_n hx hb d_X_addressPart_234 rfl (lv_at hl 4 rfl) ?_
                refine lv_aload_n hx hb d_X_addressPart_235 rfl (lv_at hl 4 rfl) ?_
                refine va_get (D := D) (ci := 7) (v := .long x0_55z59) (C := "SignMachineModel") (T := F_X) (N := 64) hx hb hk fi_X hown hK.1 hP 0 rfl rfl 55 (by decide) (hk _ k_1176) (fun _ h9 => h9) rfl d_X_addressPart_236 ?_
                refine kn_v (va_runV (C := "SignMachineModel") (As := [.long x0_55z59]) (rest := []) ⟨hx, hb, hml, hown, hk⟩ (c_X_laterSymbol l D cI cJ cZ cB p0 p1 p2 p3 p4 p5 p6 p7 p8 p9 p10 p11 p12 p13 p14 p15 p16 p17 p18 p19 p20 p21 p22 p23 p24 p25 H.size x0_4 x0_5 x0_6 x0_7 x0_8 x0_12 x0_13 x0_14 x0_15 x0_16 x0_17 x0_18 x0_22 x0_23 x0_24 x0_25z59 x0_26z59 x0_27 x0_28 x0_29 x0_30 x0_31 x0_32 x0_36 x0_39 x0_40 x0_44 x0_49 x0_51 x0_53 x0_54z59 x0_55z59 x0_56z59 x0_57 x0_58 x0_59 x0_60 x0_61 x0_62 y1 y2 y3 y4 y5 y6 y7 y8 y9 y10 y11 y12 y13 y14 y15 y16 y17 y18 y19 y20 y21 y22 y23 y24 y25 x0_55z59 Rx0_26z59 Rx0_36 Rx0_51 Rx0_53 Rx0_59 Rx0_60 Ay23 (show x0_51.toInt ≤ x0_36.toInt + x0_53.toInt from by omega)) (v_X_laterSymbol hk k_1699 ⟨Nat.le_of_ble_eq_true rfl, Nat.le_of_ble_eq_true rfl⟩) (pM_v hK hP hD (ci := 7) (q0 := 0) rfl rfl rfl) rfl rfl hl.1 rfl (lv_room (Nat.le_of_ble_eq_true rfl)) d_X_addressPart_239 ⟨Nat.le_of_ble_eq_true rfl, Nat.le_of_ble_eq_true rfl⟩) hS hA hD (fun u t H locs ht hB hFr hS => ?_)
                obtain ⟨x0_26z92, x0_36z92, x0_51z92, x0_59z92, x0_60z92, y11z92, y12z92, y23z92, Rx0_26z92, Rx0_36z92, Rx0_51z92, Rx0_59z92, Rx0_60z92, Ay23z92, F0z92, F1z92, F2z92, F3z92, hP, hD⟩ := hB
                have F0z92 : x0_51z92.toInt ≤ x0_36z92.toInt + x0_53.toInt := F0z92
                have F1z92 : 1 ≤ x0_26z59.toInt → 1 ≤ x0_26z92.toInt := F1z92
                have F2z92 : x0_60z92.toInt ≤ 59 := F2z92
                have F3z92 : x0_59z92.toInt = 1 := F3z92
                rw [ht] at hP
                have hD := dwk hD hFr
                clear ht hFr
                have hP : va_P D classes (wS50 cI cJ cZ cB p0 p1 p2 p3 p4 p5 p6 p7 p8 p9 p10 p11 p12 p13 p14 p15 p16 p17 p18 p19 p20 p21 p22 p23 p24 p25 x0_4 x0_5 x0_6 x0_7 x0_8 x0_12 x0_13 x0_14 x0_15 x0_16 x0_17 x0_18 x0_22 x0_23 x0_24 x0_25z59 x0_26z92 x0_27 x0_28 x0_29 x0_30 x0_31 x0_32 x0_36z92 x0_39 x0_40 x0_44 x0_49 x0_51z92 x0_53 x0_54z59 x0_55z59 x0_56z59 x0_57 x0_58 x0_59z92 x0_60z92 x0_61 x0_62 y1 y2 y3 y4 y5 y6 y7 y8 y9 y10 y11z92 y12z92 y13 y14 y15 y16 y17 y18 y19 y20 y21 y22 y23z92 y24 y25) H := hP
                have hD : va_D A (wS50 cI cJ cZ cB p0 p1 p2 p3 p4 p5 p6 p7 p8 p9 p10 p11 p12 p13 p14 p15 p16 p17 p18 p19 p20 p21 p22 p23 p24 p25 x0_4 x0_5 x0_6 x0_7 x0_8 x0_12 x0_13 x0_14 x0_15 x0_16 x0_17 x0_18 x0_22 x0_23 x0_24 x0_25z59 x0_26z92 x0_27 x0_28 x0_29 x0_30 x0_31 x0_32 x0_36z92 x0_39 x0_40 x0_44 x0_49 x0_51z92 x0_53 x0_54z59 x0_55z59 x0_56z59 x0_57 x0_58 x0_59z92 x0_60z92 x0_61 x0_62 y1 y2 y3 y4 y5 y6 y7 y8 y9 y10 y11z92 y12z92 y13 y14 y15 y16 y17 y18 y19 y20 y21 y22 y23z92 y24 y25) := hD
                refine lv_lconst (v := 0) hx hb d_X_addressPart_242 (by decide) ?_
                exact W.lret (v := (0 : Int64)) hx hb hr (fun t ht hW => ⟨⟨(0 : Int64), (0 : Int64), rfl, rfl, ⟨x0_25z59, x0_26z92, x0_36z92, x0_51z92, x0_53, x0_54z59, x0_55z59, x0_56z59, x0_57, x0_58, x0_59z92, x0_60z92, y11z92, y12z92, y23z92, y24, Rx0_25z59, Rx0_26z92, Rx0_36z92, Rx0_51z92, Rx0_53, (rgw R77 (by decide) (by decide)), Rx0_57, Rx0_58, Rx0_59z92, Rx0_60z92, Ay23z92, Ay24, (by decide), (by omega), (by omega), (by omega), (by omega), by show va_P D classes _ t.heap; rw [ht]; exact hP, hD⟩⟩, hS.F ht⟩) hS.2.2 d_X_addressPart_243
            · have gc86 : rz85.toInt ≠ (-2) := c_ne c86
              have R93 : (-1) ≤ rz85.toInt ∧ rz85.toInt ≤ 59 := by omega
              refine lv_aload_n hx hb d_X_addressPart_198 rfl (lv_at hl 3 rfl) ?_
              refine va_get (D := D) (ci := 7) (v := .ref p12) (C := "SignMachineModel") (T := F_X) (N := 64) hx hb hk fi_X hown hK.1 hP 0 rfl rfl 34 (by decide) (hk _ k_1155) (fun _ h9 => h9) rfl d_X_addressPart_199 ?_
              refine lv_aload_n hx hb d_X_addressPart_202 rfl (lv_at hl 3 rfl) ?_
              refine lv_aload_n hx hb d_X_addressPart_203 rfl (lv_at hl 3 rfl) ?_
              refine va_get (D := D) (ci := 7) (v := .long x0_55z59) (C := "SignMachineModel") (T := F_X) (N := 64) hx hb hk fi_X hown hK.1 hP 0 rfl rfl 55 (by decide) (hk _ k_1176) (fun _ h9 => h9) rfl d_X_addressPart_204 ?_
              refine sn_i (va_runV (C := "SignMachineModel") (As := [.long x0_55z59]) (rest := [.ref p12]) ⟨hx, hb, hml, hown, hk⟩ (c_X_findSymbol l D cI cJ cZ cB p0 p1 p2 p3 p4 p5 p6 p7 p8 p9 p10 p11 p12 p13 p14 p15 p16 p17 p18 p19 p20 p21 p22 p23 p24 p25 H.size x0_4 x0_5 x0_6 x0_7 x0_8 x0_12 x0_13 x0_14 x0_15 x0_16 x0_17 x0_18 x0_22 x0_23 x0_24 x0_25z59 x0_26z59 x0_27 x0_28 x0_29 x0_30 x0_31 x0_32 x0_36 x0_39 x0_40 x0_44 x0_49 x0_51 x0_53 x0_54z59 x0_55z59 x0_56z59 x0_57 x0_58 x0_59 x0_60 x0_61 x0_62 y1 y2 y3 y4 y5 y6 y7 y8 y9 y10 y11 y12 y13 y14 y15 y16 y17 y18 y19 y20 y21 y22 y23 y24 y25 x0_55z59 Rx0_36) (v_X_findSymbol hk k_1626 ⟨Nat.le_of_ble_eq_true rfl, Nat.le_of_ble_eq_true rfl⟩) (pM_v hK hP hD (ci := 7) (q0 := 0) rfl rfl rfl) rfl rfl hl.1 rfl (lv_room (Nat.le_of_ble_eq_true rfl)) d_X_addressPart_207 ⟨Nat.le_of_ble_eq_true rfl, Nat.le_of_ble_eq_true rfl⟩) hS hA hD (fun rz94 u t H locs hr0 ht hB hFr hS => ?_)
              subst hr0
              obtain ⟨F0z94, F1z94, F2z94, hP, hD⟩ := hB
              have F0z94 : (-2) ≤ rz94.toInt ∧ rz94.toInt ≤ 59 := F0z94
              have F1z94 : rz94.toInt = -2 ∨ (0 ≤ rz94.toInt ∧ rz94.toInt < x0_36.toInt) := F1z94
              have F2z94 : (rz94.toInt = -2 ∧ nsI y11 x0_36.toInt x0_55z59 = 0) ∨ (rz94.toInt ≠ -2 ∧ nsI y11 x0_36.toInt x0_55z59 = 1) := F2z94
              rw [ht] at hP
              have hD := dwk hD hFr
              clear ht hFr
              have hP : va_P D classes (wS50 cI cJ cZ cB p0 p1 p2 p3 p4 p5 p6 p7 p8 p9 p10 p11 p12 p13 p14 p15 p16 p17 p18 p19 p20 p21 p22 p23 p24 p25 x0_4 x0_5 x0_6 x0_7 x0_8 x0_12 x0_13 x0_14 x0_15 x0_16 x0_17 x0_18 x0_22 x0_23 x0_24 x0_25z59 x0_26z59 x0_27 x0_28 x0_29 x0_30 x0_31 x0_32 x0_36 x0_39 x0_40 x0_44 x0_49 x0_51 x0_53 x0_54z59 x0_55z59 x0_56z59 x0_57 x0_58 x0_59 x0_60 x0_61 x0_62 y1 y2 y3 y4 y5 y6 y7 y8 y9 y10 y11 y12 y13 y14 y15 y16 y17 y18 y19 y20 y21 y22 y23 y24 y25) H := hP
              have hD : va_D A (wS50 cI cJ cZ cB p0 p1 p2 p3 p4 p5 p6 p7 p8 p9 p10 p11 p12 p13 p14 p15 p16 p17 p18 p19 p20 p21 p22 p23 p24 p25 x0_4 x0_5 x0_6 x0_7 x0_8 x0_12 x0_13 x0_14 x0_15 x0_16 x0_17 x0_18 x0_22 x0_23 x0_24 x0_25z59 x0_26z59 x0_27 x0_28 x0_29 x0_30 x0_31 x0_32 x0_36 x0_39 x0_40 x0_44 x0_49 x0_51 x0_53 x0_54z59 x0_55z59 x0_56z59 x0_57 x0_58 x0_59 x0_60 x0_61 x0_62 y1 y2 y3 y4 y5 y6 y7 y8 y9 y10 y11 y12 y13 y14 y15 y16 y17 y18 y19 y20 y21 y22 y23 y24 y25) := hD
              refine va_zald hx hb hK.1 hP 12 2 rfl rfl (by rw [vp_in_iff]; omega) d_X_addressPart_210 ?_
              refine lv_topi (fun v95 hv95 => ?_)
              refine lv_if_ne (tgt := 218) hx hb d_X_addressPart_211 (by decide) (fun c96 => ?_) (fun c96 => ?_)
              · have gc96 : v95.toInt ≠ 0 := c_ne c96
                refine lv_iconst (v := 0) hx hb d_X_addressPart_218 (by decide) ?_
                refine lv_istore (lv' := [(4, .int (0 : Int32)), (3, .int x0_26), (2, .int x0_25), (1, .int rz1), (0, .ref p0)]) hx hb d_X_addressPart_219 hl (by decide) rfl (fun ls hl => ?_)
                refine lv_iload hx hb d_X_addressPart_221 (lv_at hl 0 rfl) ?_
                refine lv_if_eq (tgt := 244) hx hb d_X_addressPart_223 (by decide) (fun c97 => ?_) (fun c97 => absurd (show (0 : Int32) = (0 : Int32) from (by decide)) c97)
                refine lv_aload_n hx hb d_X_addressPart_244 rfl (lv_at hl 4 rfl) ?_
                refine va_get (D := D) (ci := 7) (v := .int x0_54z59) (C := "SignMachineModel") (T := F_X) (N := 64) hx hb hk fi_X hown hK.1 hP 0 rfl rfl 54 (by decide) (hk _ k_1175) (fun _ h9 => h9) rfl d_X_addressPart_245 ?_
                refine lv_iconst (v := 3) hx hb d_X_addressPart_248 (by decide) ?_
                refine lv_icmp_ne (tgt := 286) hx hb d_X_addressPart_249 (by decide) (fun c98 => ?_) (fun c98 => absurd c98 (show ¬ x0_54z59 = (3 : Int32) from (fun q => by have := c_eq q; omega)))
                refine lv_aload_n hx hb d_X_addressPart_286 rfl (lv_at hl 4 rfl) ?_
                refine lv_iload_n hx hb d_X_addressPart_287 rfl (lv_at hl 2 rfl) ?_
                refine va_put (D := D) (ci := 7) (v := .int x0_25) (ty := .int) (C := "SignMachineModel") (T := F_X) (N := 64) hx hb hk fi_X ft_X ft_X_ok fn_X hown hK.1 hP hD hS 0 rfl rfl 25 (by decide) (hk _ k_1146) (fun _ h9 => h9) rfl (by decide +kernel) rfl rfl (Nat.le_of_ble_eq_true rfl) d_X_addressPart_288 (fun H locs hP hD hS => ?_)
                have hP : va_P D classes (wS50 cI cJ cZ cB p0 p1 p2 p3 p4 p5 p6 p7 p8 p9 p10 p11 p12 p13 p14 p15 p16 p17 p18 p19 p20 p21 p22 p23 p24 p25 x0_4 x0_5 x0_6 x0_7 x0_8 x0_12 x0_13 x0_14 x0_15 x0_16 x0_17 x0_18 x0_22 x0_23 x0_24 x0_25 x0_26z59 x0_27 x0_28 x0_29 x0_30 x0_31 x0_32 x0_36 x0_39 x0_40 x0_44 x0_49 x0_51 x0_53 x0_54z59 x0_55z59 x0_56z59 x0_57 x0_58 x0_59 x0_60 x0_61 x0_62 y1 y2 y3 y4 y5 y6 y7 y8 y9 y10 y11 y12 y13 y14 y15 y16 y17 y18 y19 y20 y21 y22 y23 y24 y25) H := hP
                have hD : va_D A (wS50 cI cJ cZ cB p0 p1 p2 p3 p4 p5 p6 p7 p8 p9 p10 p11 p12 p13 p14 p15 p16 p17 p18 p19 p20 p21 p22 p23 p24 p25 x0_4 x0_5 x0_6 x0_7 x0_8 x0_12 x0_13 x0_14 x0_15 x0_16 x0_17 x0_18 x0_22 x0_23 x0_24 x0_25 x0_26z59 x0_27 x0_28 x0_29 x0_30 x0_31 x0_32 x0_36 x0_39 x0_40 x0_44 x0_49 x0_51 x0_53 x0_54z59 x0_55z59 x0_56z59 x0_57 x0_58 x0_59 x0_60 x0_61 x0_62 y1 y2 y3 y4 y5 y6 y7 y8 y9 y10 y11 y12 y13 y14 y15 y16 y17 y18 y19 y20 y21 y22 y23 y24 y25) := hD
                refine lv_aload_n hx hb d_X_addressPart_291 rfl (lv_at hl 4 rfl) ?_
                refine lv_iload_n hx hb d_X_addressPart_292 rfl (lv_at hl 1 rfl) ?_
                refine va_put (D := D) (ci := 7) (v := .int x0_26) (ty := .int) (C := "SignMachineModel") (T := F_X) (N := 64) hx hb hk fi_X ft_X ft_X_ok fn_X hown hK.1 hP hD hS 0 rfl rfl 26 (by decide) (hk _ k_1147) (fun _ h9 => h9) rfl (by decide +kernel) rfl rfl (Nat.le_of_ble_eq_true rfl) d_X_addressPart_293 (fun H locs hP hD hS => ?_)
                have hP : va_P D classes (wS50 cI cJ cZ cB p0 p1 p2 p3 p4 p5 p6 p7 p8 p9 p10 p11 p12 p13 p14 p15 p16 p17 p18 p19 p20 p21 p22 p23 p24 p25 x0_4 x0_5 x0_6 x0_7 x0_8 x0_12 x0_13 x0_14 x0_15 x0_16 x0_17 x0_18 x0_22 x0_23 x0_24 x0_25 x0_26 x0_27 x0_28 x0_29 x0_30 x0_31 x0_32 x0_36 x0_39 x0_40 x0_44 x0_49 x0_51 x0_53 x0_54z59 x0_55z59 x0_56z59 x0_57 x0_58 x0_59 x0_60 x0_61 x0_62 y1 y2 y3 y4 y5 y6 y7 y8 y9 y10 y11 y12 y13 y14 y15 y16 y17 y18 y19 y20 y21 y22 y23 y24 y25) H := hP
                have hD : va_D A (wS50 cI cJ cZ cB p0 p1 p2 p3 p4 p5 p6 p7 p8 p9 p10 p11 p12 p13 p14 p15 p16 p17 p18 p19 p20 p21 p22 p23 p24 p25 x0_4 x0_5 x0_6 x0_7 x0_8 x0_12 x0_13 x0_14 x0_15 x0_16 x0_17 x0_18 x0_22 x0_23 x0_24 x0_25 x0_26 x0_27 x0_28 x0_29 x0_30 x0_31 x0_32 x0_36 x0_39 x0_40 x0_44 x0_49 x0_51 x0_53 x0_54z59 x0_55z59 x0_56z59 x0_57 x0_58 x0_59 x0_60 x0_61 x0_62 y1 y2 y3 y4 y5 y6 y7 y8 y9 y10 y11 y12 y13 y14 y15 y16 y17 y18 y19 y20 y21 y22 y23 y24 y25) := hD
                refine lv_aload_n hx hb d_X_addressPart_296 rfl (lv_at hl 4 rfl) ?_
                refine sn_l (va_runV (C := "SignMachineModel") (As := []) (rest := []) ⟨hx, hb, hml, hown, hk⟩ (c_X_expression l D cI cJ cZ cB p0 p1 p2 p3 p4 p5 p6 p7 p8 p9 p10 p11 p12 p13 p14 p15 p16 p17 p18 p19 p20 p21 p22 p23 p24 p25 H.size x0_4 x0_5 x0_6 x0_7 x0_8 x0_12 x0_13 x0_14 x0_15 x0_16 x0_17 x0_18 x0_22 x0_23 x0_24 x0_25 x0_26 x0_27 x0_28 x0_29 x0_30 x0_31 x0_32 x0_36 x0_39 x0_40 x0_44 x0_49 x0_51 x0_53 x0_54z59 x0_55z59 x0_56z59 x0_57 x0_58 x0_59 x0_60 x0_61 x0_62 y1 y2 y3 y4 y5 y6 y7 y8 y9 y10 y11 y12 y13 y14 y15 y16 y17 y18 y19 y20 y21 y22 y23 y24 y25  Rx0_24 Rx0_25 Rx0_26 Rx0_30 Rx0_36 (rgw R77 (by decide) (by decide)) Ay13 Ay15 (show x0_25.toInt ≤ x0_24.toInt from by omega)) (v_X_expression hk k_1653 ⟨Nat.le_of_ble_eq_true rfl, Nat.le_of_ble_eq_true rfl⟩) (pM_v hK hP hD (ci := 7) (q0 := 0) rfl rfl rfl) rfl rfl hl.1 rfl (lv_room (Nat.le_of_ble_eq_true rfl)) d_X_addressPart_297 ⟨Nat.le_of_ble_eq_true rfl, Nat.le_of_ble_eq_true rfl⟩) hS hA hD (fun rz99 u t H locs hr0 ht hB hFr hS => ?_)
                subst hr0
                obtain ⟨x0_25z99, x0_26z99, x0_54z99, x0_55z99, x0_56z99, Rx0_25z99, Rx0_26z99, Rx0_54z99, F0z99, F1z99, F2z99, hP, hD⟩ := hB
                have F0z99 : (-1073741823) ≤ rz99.toInt ∧ rz99.toInt ≤ 1073741823 := F0z99
                have F1z99 : x0_25.toInt ≤ x0_25z99.toInt ∧ x0_25z99.toInt ≤ x0_24.toInt := F1z99
                have F2z99 : 1 ≤ x0_26.toInt → 1 ≤ x0_26z99.toInt := F2z99
                rw [ht] at hP
                have hD := dwk hD hFr
                clear ht hFr
                have hP : va_P D classes (wS50 cI cJ cZ cB p0 p1 p2 p3 p4 p5 p6 p7 p8 p9 p10 p11 p12 p13 p14 p15 p16 p17 p18 p19 p20 p21 p22 p23 p24 p25 x0_4 x0_5 x0_6 x0_7 x0_8 x0_12 x0_13 x0_14 x0_15 x0_16 x0_17 x0_18 x0_22 x0_23 x0_24 x0_25z99 x0_26z99 x0_27 x0_28 x0_29 x0_30 x0_31 x0_32 x0_36 x0_39 x0_40 x0_44 x0_49 x0_51 x0_53 x0_54z99 x0_55z99 x0_56z99 x0_57 x0_58 x0_59 x0_60 x0_61 x0_62 y1 y2 y3 y4 y5 y6 y7 y8 y9 y10 y11 y12 y13 y14 y15 y16 y17 y18 y19 y20 y21 y22 y23 y24 y25) H := hP
                have hD : va_D A (wS50 cI cJ cZ cB p0 p1 p2 p3 p4 p5 p6 p7 p8 p9 p10 p11 p12 p13 p14 p15 p16 p17 p18 p19 p20 p21 p22 p23 p24 p25 x0_4 x0_5 x0_6 x0_7 x0_8 x0_12 x0_13 x0_14 x0_15 x0_16 x0_17 x0_18 x0_22 x0_23 x0_24 x0_25z99 x0_26z99 x0_27 x0_28 x0_29 x0_30 x0_31 x0_32 x0_36 x0_39 x0_40 x0_44 x0_49 x0_51 x0_53 x0_54z99 x0_55z99 x0_56z99 x0_57 x0_58 x0_59 x0_60 x0_61 x0_62 y1 y2 y3 y4 y5 y6 y7 y8 y9 y10 y11 y12 y13 y14 y15 y16 y17 y18 y19 y20 y21 y22 y23 y24 y25) := hD
                exact W.lret (v := rz99) hx hb hr (fun t ht hW => ⟨⟨rz99, rz99, rfl, rfl, ⟨x0_25z99, x0_26z99, x0_36, x0_51, x0_53, x0_54z99, x0_55z99, x0_56z99, x0_57, x0_58, x0_59, x0_60, y11, y12, y23, y24, Rx0_25z99, Rx0_26z99, Rx0_36, Rx0_51, Rx0_53, Rx0_54z99, Rx0_57, Rx0_58, Rx0_59, Rx0_60, Ay23, Ay24, F0z99, (by omega), (by omega), (by omega), (by omega), by show va_P D classes _ t.heap; rw [ht]; exact hP, hD⟩⟩, hS.F ht⟩) hS.2.2 d_X_addressPart_300
              · have gc96 : v95.toInt = 0 := c_eq c96
                have R100 : 0 ≤ v95.toInt ∧ v95.toInt ≤ 0 := by omega
                refine lv_iconst (v := 1) hx hb d_X_addressPart_214 (by decide) ?_
                refine lv_goto (tgt := 219) hx hb d_X_addressPart_215 (by decide) ?_
                refine lv_istore (lv' := [(4, .int (1 : Int32)), (3, .int x0_26), (2, .int x0_25), (1, .int rz1), (0, .ref p0)]) hx hb d_X_addressPart_219 hl (by decide) rfl (fun ls hl => ?_)
                refine lv_iload hx hb d_X_addressPart_221 (lv_at hl 0 rfl) ?_
                refine lv_if_eq (tgt := 244) hx hb d_X_addressPart_223 (by decide) (fun c101 => absurd c101 (show ¬ (1 : Int32) = (0 : Int32) from (by decide))) (fun c101 => ?_)
                refine lv_aload_n hx hb d_X_addressPart_226 rfl (lv_at hl 4 rfl) ?_
                refine va_get (D := D) (ci := 7) (v := .int x0_26z59) (C := "SignMachineModel") (T := F_X) (N := 64) hx hb hk fi_X hown hK.1 hP 0 rfl rfl 26 (by decide) (hk _ k_1147) (fun _ h9 => h9) rfl d_X_addressPart_227 ?_
                refine lv_iload_n hx hb d_X_addressPart_230 rfl (lv_at hl 1 rfl) ?_
                refine lv_icmp_ne (tgt := 244) hx hb d_X_addressPart_231 (by decide) (fun c102 => ?_) (fun c102 => ?_)
                · have gc102 : x0_26z59.toInt ≠ x0_26.toInt := c_ne c102
                  refine lv_aload_n hx hb d_X_addressPart_244 rfl (lv_at hl 4 rfl) ?_
                  refine va_get (D := D) (ci := 7) (v := .int x0_54z59) (C := "SignMachineModel") (T := F_X) (N := 64) hx hb hk fi_X hown hK.1 hP 0 rfl rfl 54 (by decide) (hk _ k_1175) (fun _ h9 => h9) rfl d_X_addressPart_245 ?_
                  refine lv_iconst (v := 3) hx hb d_X_addressPart_248 (by decide) ?_
                  refine lv_icmp_ne (tgt := 286) hx hb d_X_addressPart_249 (by decide) (fun c103 => ?_) (fun c103 => absurd c103 (show ¬ x0_54z59 = (3 : Int32) from (fun q => by have := c_eq q; omega)))
                  refine lv_aload_n hx hb d_X_addressPart_286 rfl (lv_at hl 4 rfl) ?_
                  refine lv_iload_n hx hb d_X_addressPart_287 rfl (lv_at hl 2 rfl) ?_
                  refine va_put (D := D) (ci := 7) (v := .int x0_25) (ty := .int) (C := "SignMachineModel") (T := F_X) (N := 64) hx hb hk fi_X ft_X ft_X_ok fn_X hown hK.1 hP hD hS 0 rfl rfl 25 (by decide) (hk _ k_1146) (fun _ h9 => h9) rfl (by decide +kernel) rfl rfl (Nat.le_of_ble_eq_true rfl) d_X_addressPart_288 (fun H locs hP hD hS => ?_)
                  have hP : va_P D classes (wS50 cI cJ cZ cB p0 p1 p2 p3 p4 p5 p6 p7 p8 p9 p10 p11 p12 p13 p14 p15 p16 p17 p18 p19 p20 p21 p22 p23 p24 p25 x0_4 x0_5 x0_6 x0_7 x0_8 x0_12 x0_13 x0_14 x0_15 x0_16 x0_17 x0_18 x0_22 x0_23 x0_24 x0_25 x0_26z59 x0_27 x0_28 x0_29 x0_30 x0_31 x0_32 x0_36 x0_39 x0_40 x0_44 x0_49 x0_51 x0_53 x0_54z59 x0_55z59 x0_56z59 x0_57 x0_58 x0_59 x0_60 x0_61 x0_62 y1 y2 y3 y4 y5 y6 y7 y8 y9 y10 y11 y12 y13 y14 y15 y16 y17 y18 y19 y20 y21 y22 y23 y24 y25) H := hP
                  have hD : va_D A (wS50 cI cJ cZ cB p0 p1 p2 p3 p4 p5 p6 p7 p8 p9 p10 p11 p12 p13 p14 p15 p16 p17 p18 p19 p20 p21 p22 p23 p24 p25 x0_4 x0_5 x0_6 x0_7 x0_8 x0_12 x0_13 x0_14 x0_15 x0_16 x0_17 x0_18 x0_22 x0_23 x0_24 x0_25 x0_26z59 x0_27 x0_28 x0_29 x0_30 x0_31 x0_32 x0_36 x0_39 x0_40 x0_44 x0_49 x0_51 x0_53 x0_54z59 x0_55z59 x0_56z59 x0_57 x0_58 x0_59 x0_60 x0_61 x0_62 y1 y2 y3 y4 y5 y6 y7 y8 y9 y10 y11 y12 y13 y14 y15 y16 y17 y18 y19 y20 y21 y22 y23 y24 y25) := hD
                  refine lv_aload_n hx hb d_X_addressPart_291 rfl (lv_at hl 4 rfl) ?_
                  refine lv_iload_n hx hb d_X_addressPart_292 rfl (lv_at hl 1 rfl) ?_
                  refine va_put (D := D) (ci := 7) (v := .int x0_26) (ty := .int) (C := "SignMachineModel") (T := F_X) (N := 64) hx hb hk fi_X ft_X ft_X_ok fn_X hown hK.1 hP hD hS 0 rfl rfl 26 (by decide) (hk _ k_1147) (fun _ h9 => h9) rfl (by decide +kernel) rfl rfl (Nat.le_of_ble_eq_true rfl) d_X_addressPart_293 (fun H locs hP hD hS => ?_)
                  have hP : va_P D classes (wS50 cI cJ cZ cB p0 p1 p2 p3 p4 p5 p6 p7 p8 p9 p10 p11 p12 p13 p14 p15 p16 p17 p18 p19 p20 p21 p22 p23 p24 p25 x0_4 x0_5 x0_6 x0_7 x0_8 x0_12 x0_13 x0_14 x0_15 x0_16 x0_17 x0_18 x0_22 x0_23 x0_24 x0_25 x0_26 x0_27 x0_28 x0_29 x0_30 x0_31 x0_32 x0_36 x0_39 x0_40 x0_44 x0_49 x0_51 x0_53 x0_54z59 x0_55z59 x0_56z59 x0_57 x0_58 x0_59 x0_60 x0_61 x0_62 y1 y2 y3 y4 y5 y6 y7 y8 y9 y10 y11 y12 y13 y14 y15 y16 y17 y18 y19 y20 y21 y22 y23 y24 y25) H := hP
                  have hD : va_D A (wS50 cI cJ cZ cB p0 p1 p2 p3 p4 p5 p6 p7 p8 p9 p10 p11 p12 p13 p14 p15 p16 p17 p18 p19 p20 p21 p22 p23 p24 p25 x0_4 x0_5 x0_6 x0_7 x0_8 x0_12 x0_13 x0_14 x0_15 x0_16 x0_17 x0_18 x0_22 x0_23 x0_24 x0_25 x0_26 x0_27 x0_28 x0_29 x0_30 x0_31 x0_32 x0_36 x0_39 x0_40 x0_44 x0_49 x0_51 x0_53 x0_54z59 x0_55z59 x0_56z59 x0_57 x0_58 x0_59 x0_60 x0_61 x0_62 y1 y2 y3 y4 y5 y6 y7 y8 y9 y10 y11 y12 y13 y14 y15 y16 y17 y18 y19 y20 y21 y22 y23 y24 y25) := hD
                  refine lv_aload_n hx hb d_X_addressPart_296 rfl (lv_at hl 4 rfl) ?_
                  refine sn_l (va_runV (C := "SignMachineModel") (As := []) (rest := []) ⟨hx, hb, hml, hown, hk⟩ (c_X_expression l D cI cJ cZ cB p0 p1 p2 p3 p4 p5 p6 p7 p8 p9 p10 p11 p12 p13 p14 p15 p16 p17 p18 p19 p20 p21 p22 p23 p24 p25 H.size x0_4 x0_5 x0_6 x0_7 x0_8 x0_12 x0_13 x0_14 x0_15 x0_16 x0_17 x0_18 x0_22 x0_23 x0_24 x0_25 x0_26 x0_27 x0_28 x0_29 x0_30 x0_31 x0_32 x0_36 x0_39 x0_40 x0_44 x0_49 x0_51 x0_53 x0_54z59 x0_55z59 x0_56z59 x0_57 x0_58 x0_59 x0_60 x0_61 x0_62 y1 y2 y3 y4 y5 y6 y7 y8 y9 y10 y11 y12 y13 y14 y15 y16 y17 y18 y19 y20 y21 y22 y23 y24 y25  Rx0_24 Rx0_25 Rx0_26 Rx0_30 Rx0_36 (rgw R77 (by decide) (by decide)) Ay13 Ay15 (show x0_25.toInt ≤ x0_24.toInt from by omega)) (v_X_expression hk k_1653 ⟨Nat.le_of_ble_eq_true rfl, Nat.le_of_ble_eq_true rfl⟩) (pM_v hK hP hD (ci := 7) (q0 := 0) rfl rfl rfl) rfl rfl hl.1 rfl (lv_room (Nat.le_of_ble_eq_true rfl)) d_X_addressPart_297 ⟨Nat.le_of_ble_eq_true rfl, Nat.le_of_ble_eq_true rfl⟩) hS hA hD (fun rz104 u t H locs hr0 ht hB hFr hS => ?_)
                  subst hr0
                  obtain ⟨x0_25z104, x0_26z104, x0_54z104, x0_55z104, x0_56z104, Rx0_25z104, Rx0_26z104, Rx0_54z104, F0z104, F1z104, F2z104, hP, hD⟩ := hB
                  have F0z104 : (-1073741823) ≤ rz104.toInt ∧ rz104.toInt ≤ 1073741823 := F0z104
                  have F1z104 : x0_25.toInt ≤ x0_25z104.toInt ∧ x0_25z104.toInt ≤ x0_24.toInt := F1z104
                  have F2z104 : 1 ≤ x0_26.toInt → 1 ≤ x0_26z104.toInt := F2z104
                  rw [ht] at hP
                  have hD := dwk hD hFr
                  clear ht hFr
                  have hP : va_P D classes (wS50 cI cJ cZ cB p0 p1 p2 p3 p4 p5 p6 p7 p8 p9 p10 p11 p12 p13 p14 p15 p16 p17 p18 p19 p20 p21 p22 p23 p24 p25 x0_4 x0_5 x0_6 x0_7 x0_8 x0_12 x0_13 x0_14 x0_15 x0_16 x0_17 x0_18 x0_22 x0_23 x0_24 x0_25z104 x0_26z104 x0_27 x0_28 x0_29 x0_30 x0_31 x0_32 x0_36 x0_39 x0_40 x0_44 x0_49 x0_51 x0_53 x0_54z104 x0_55z104 x0_56z104 x0_57 x0_58 x0_59 x0_60 x0_61 x0_62 y1 y2 y3 y4 y5 y6 y7 y8 y9 y10 y11 y12 y13 y14 y15 y16 y17 y18 y19 y20 y21 y22 y23 y24 y25) H := hP
                  have hD : va_D A (wS50 cI cJ cZ cB p0 p1 p2 p3 p4 p5 p6 p7 p8 p9 p10 p11 p12 p13 p14 p15 p16 p17 p18 p19 p20 p21 p22 p23 p24 p25 x0_4 x0_5 x0_6 x0_7 x0_8 x0_12 x0_13 x0_14 x0_15 x0_16 x0_17 x0_18 x0_22 x0_23 x0_24 x0_25z104 x0_26z104 x0_27 x0_28 x0_29 x0_30 x0_31 x0_32 x0_36 x0_39 x0_40 x0_44 x0_49 x0_51 x0_53 x0_54z104 x0_55z104 x0_56z104 x0_57 x0_58 x0_59 x0_60 x0_61 x0_62 y1 y2 y3 y4 y5 y6 y7 y8 y9 y10 y11 y12 y13 y14 y15 y16 y17 y18 y19 y20 y21 y22 y23 y24 y25) := hD
                  exact W.lret (v := rz104) hx hb hr (fun t ht hW => ⟨⟨rz104, rz104, rfl, rfl, ⟨x0_25z104, x0_26z104, x0_36, x0_51, x0_53, x0_54z104, x0_55z104, x0_56z104, x0_57, x0_58, x0_59, x0_60, y11, y12, y23, y24, Rx0_25z104, Rx0_26z104, Rx0_36, Rx0_51, Rx0_53, Rx0_54z104, Rx0_57, Rx0_58, Rx0_59, Rx0_60, Ay23, Ay24, F0z104, (by omega), (by omega), (by omega), (by omega), by show va_P D classes _ t.heap; rw [ht]; exact hP, hD⟩⟩, hS.F ht⟩) hS.2.2 d_X_addressPart_300
                · have gc102 : x0_26z59.toInt = x0_26.toInt := c_eq c102
                  refine lv_aload_n hx hb d_X_addressPart_234 rfl (lv_at hl 4 rfl) ?_
                  refine lv_aload_n hx hb d_X_addressPart_235 rfl (lv_at hl 4 rfl) ?_
                  refine va_get (D := D) (ci := 7) (v := .long x0_55z59) (C := "SignMachineModel") (T := F_X) (N := 64) hx hb hk fi_X hown hK.1 hP 0 rfl rfl 55 (by decide) (hk _ k_1176) (fun _ h9 => h9) rfl d_X_addressPart_236 ?_
                  refine kn_v (va_runV (C := "SignMachineModel") (As := [.long x0_55z59]) (rest := []) ⟨hx, hb, hml, hown, hk⟩ (c_X_laterSymbol l D cI cJ cZ cB p0 p1 p2 p3 p4 p5 p6 p7 p8 p9 p10 p11 p12 p13 p14 p15 p16 p17 p18 p19 p20 p21 p22 p23 p24 p25 H.size x0_4 x0_5 x0_6 x0_7 x0_8 x0_12 x0_13 x0_14 x0_15 x0_16 x0_17 x0_18 x0_22 x0_23 x0_24 x0_25z59 x0_26z59 x0_27 x0_28 x0_29 x0_30 x0_31 x0_32 x0_36 x0_39 x0_40 x0_44 x0_49 x0_51 x0_53 x0_54z59 x0_55z59 x0_56z59 x0_57 x0_58 x0_59 x0_60 x0_61 x0_62 y1 y2 y3 y4 y5 y6 y7 y8 y9 y10 y11 y12 y13 y14 y15 y16 y17 y18 y19 y20 y21 y22 y23 y24 y25 x0_55z59 Rx0_26z59 Rx0_36 Rx0_51 Rx0_53 Rx0_59 Rx0_60 Ay23 (show x0_51.toInt ≤ x0_36.toInt + x0_53.toInt from by omega)) (v_X_laterSymbol hk k_1699 ⟨Nat.le_of_ble_eq_true rfl, Nat.le_of_ble_eq_true rfl⟩) (pM_v hK hP hD (ci := 7) (q0 := 0) rfl rfl rfl) rfl rfl hl.1 rfl (lv_room (Nat.le_of_ble_eq_true rfl)) d_X_addressPart_239 ⟨Nat.le_of_ble_eq_true rfl, Nat.le_of_ble_eq_true rfl⟩) hS hA hD (fun u t H locs ht hB hFr hS => ?_)
                  obtain ⟨x0_26z105, x0_36z105, x0_51z105, x0_59z105, x0_60z105, y11z105, y12z105, y23z105, Rx0_26z105, Rx0_36z105, Rx0_51z105, Rx0_59z105, Rx0_60z105, Ay23z105, F0z105, F1z105, F2z105, F3z105, hP, hD⟩ := hB
                  have F0z105 : x0_51z105.toInt ≤ x0_36z105.toInt + x0_53.toInt := F0z105
                  have F1z105 : 1 ≤ x0_26z59.toInt → 1 ≤ x0_26z105.toInt := F1z105
                  have F2z105 : x0_60z105.toInt ≤ 59 := F2z105
                  have F3z105 : x0_59z105.toInt = 1 := F3z105
                  rw [ht] at hP
                  have hD := dwk hD hFr
                  clear ht hFr
                  have hP : va_P D classes (wS50 cI cJ cZ cB p0 p1 p2 p3 p4 p5 p6 p7 p8 p9 p10 p11 p12 p13 p14 p15 p16 p17 p18 p19 p20 p21 p22 p23 p24 p25 x0_4 x0_5 x0_6 x0_7 x0_8 x0_12 x0_13 x0_14 x0_15 x0_16 x0_17 x0_18 x0_22 x0_23 x0_24 x0_25z59 x0_26z105 x0_27 x0_28 x0_29 x0_30 x0_31 x0_32 x0_36z105 x0_39 x0_40 x0_44 x0_49 x0_51z105 x0_53 x0_54z59 x0_55z59 x0_56z59 x0_57 x0_58 x0_59z105 x0_60z105 x0_61 x0_62 y1 y2 y3 y4 y5 y6 y7 y8 y9 y10 y11z105 y12z105 y13 y14 y15 y16 y17 y18 y19 y20 y21 y22 y23z105 y24 y25) H := hP
                  have hD : va_D A (wS50 cI cJ cZ cB p0 p1 p2 p3 p4 p5 p6 p7 p8 p9 p10 p11 p12 p13 p14 p15 p16 p17 p18 p19 p20 p21 p22 p23 p24 p25 x0_4 x0_5 x0_6 x0_7 x0_8 x0_12 x0_13 x0_14 x0_15 x0_16 x0_17 x0_18 x0_22 x0_23 x0_24 x0_25z59 x0_26z105 x0_27 x0_28 x0_29 x0_30 x0_31 x0_32 x0_36z105 x0_39 x0_40 x0_44 x0_49 x0_51z105 x0_53 x0_54z59 x0_55z59 x0_56z59 x0_57 x0_58 x0_59z105 x0_60z105 x0_61 x0_62 y1 y2 y3 y4 y5 y6 y7 y8 y9 y10 y11z105 y12z105 y13 y14 y15 y16 y17 y18 y19 y20 y21 y22 y23z105 y24 y25) := hD
                  refine lv_lconst (v := 0) hx hb d_X_addressPart_242 (by decide) ?_
                  exact W.lret (v := (0 : Int64)) hx hb hr (fun t ht hW => ⟨⟨(0 : Int64), (0 : Int64), rfl, rfl, ⟨x0_25z59, x0_26z105, x0_36z105, x0_51z105, x0_53, x0_54z59, x0_55z59, x0_56z59, x0_57, x0_58, x0_59z105, x0_60z105, y11z105, y12z105, y23z105, y24, Rx0_25z59, Rx0_26z105, Rx0_36z105, Rx0_51z105, Rx0_53, (rgw R77 (by decide) (by decide)), Rx0_57, Rx0_58, Rx0_59z105, Rx0_60z105, Ay23z105, Ay24, (by decide), (by omega), (by omega), (by omega), (by omega), by show va_P D classes _ t.heap; rw [ht]; exact hP, hD⟩⟩, hS.F ht⟩) hS.2.2 d_X_addressPart_243
  · have gc2 : rz1.toInt = 61 := c_eq c2
    have R106 : 61 ≤ rz1.toInt ∧ rz1.toInt ≤ 61 := by omega
    refine lv_aload_n hx hb d_X_addressPart_11 rfl (lv_at hl 1 rfl) ?_
    refine lv_dup hx hb d_X_addressPart_12 rfl ?_
    refine va_get (D := D) (ci := 7) (v := .int x0_25) (C := "SignMachineModel") (T := F_X) (N := 64) hx hb hk fi_X hown hK.1 hP 0 rfl rfl 25 (by decide) (hk _ k_1146) (fun _ h9 => h9) rfl d_X_addressPart_13 ?_
    refine lv_iconst (v := 1) hx hb d_X_addressPart_16 (by decide) ?_
    refine lv_iadd hx hb d_X_addressPart_17 ?_
    refine lv_topi (fun v107 hv107 => ?_)
    obtain ⟨ev107, Rv107⟩ : v107.toInt = x0_25.toInt + 1 ∧ (1 ≤ v107.toInt ∧ v107.toInt ≤ 4001) := ad3 hv107 Rx0_25 (by decide) (by decide) (by decide) (by decide) (by decide)
    refine va_put (D := D) (ci := 7) (v := .int v107) (ty := .int) (C := "SignMachineModel") (T := F_X) (N := 64) hx hb hk fi_X ft_X ft_X_ok fn_X hown hK.1 hP hD hS 0 rfl rfl 25 (by decide) (hk _ k_1146) (fun _ h9 => h9) rfl (by decide +kernel) rfl rfl (Nat.le_of_ble_eq_true rfl) d_X_addressPart_18 (fun H locs hP hD hS => ?_)
    have hP : va_P D classes (wS50 cI cJ cZ cB p0 p1 p2 p3 p4 p5 p6 p7 p8 p9 p10 p11 p12 p13 p14 p15 p16 p17 p18 p19 p20 p21 p22 p23 p24 p25 x0_4 x0_5 x0_6 x0_7 x0_8 x0_12 x0_13 x0_14 x0_15 x0_16 x0_17 x0_18 x0_22 x0_23 x0_24 v107 x0_26 x0_27 x0_28 x0_29 x0_30 x0_31 x0_32 x0_36 x0_39 x0_40 x0_44 x0_49 x0_51 x0_53 x0_54 x0_55 x0_56 x0_57 x0_58 x0_59 x0_60 x0_61 x0_62 y1 y2 y3 y4 y5 y6 y7 y8 y9 y10 y11 y12 y13 y14 y15 y16 y17 y18 y19 y20 y21 y22 y23 y24 y25) H := hP
    have hD : va_D A (wS50 cI cJ cZ cB p0 p1 p2 p3 p4 p5 p6 p7 p8 p9 p10 p11 p12 p13 p14 p15 p16 p17 p18 p19 p20 p21 p22 p23 p24 p25 x0_4 x0_5 x0_6 x0_7 x0_8 x0_12 x0_13 x0_14 x0_15 x0_16 x0_17 x0_18 x0_22 x0_23 x0_24 v107 x0_26 x0_27 x0_28 x0_29 x0_30 x0_31 x0_32 x0_36 x0_39 x0_40 x0_44 x0_49 x0_51 x0_53 x0_54 x0_55 x0_56 x0_57 x0_58 x0_59 x0_60 x0_61 x0_62 y1 y2 y3 y4 y5 y6 y7 y8 y9 y10 y11 y12 y13 y14 y15 y16 y17 y18 y19 y20 y21 y22 y23 y24 y25) := hD
    refine lv_aload_n hx hb d_X_addressPart_21 rfl (lv_at hl 1 rfl) ?_
    refine kn_v (va_runV (C := "SignMachineModel") (As := []) (rest := []) ⟨hx, hb, hml, hown, hk⟩ (c_X_readWord l D cI cJ cZ cB p0 p1 p2 p3 p4 p5 p6 p7 p8 p9 p10 p11 p12 p13 p14 p15 p16 p17 p18 p19 p20 p21 p22 p23 p24 p25 H.size x0_4 x0_5 x0_6 x0_7 x0_8 x0_12 x0_13 x0_14 x0_15 x0_16 x0_17 x0_18 x0_22 x0_23 x0_24 v107 x0_26 x0_27 x0_28 x0_29 x0_30 x0_31 x0_32 x0_36 x0_39 x0_40 x0_44 x0_49 x0_51 x0_53 x0_54 x0_55 x0_56 x0_57 x0_58 x0_59 x0_60 x0_61 x0_62 y1 y2 y3 y4 y5 y6 y7 y8 y9 y10 y11 y12 y13 y14 y15 y16 y17 y18 y19 y20 y21 y22 y23 y24 y25  Rx0_24 (by omega) Rx0_26 Rx0_30 Rx0_36 Rx0_54 Rx0_57 Rx0_58 Ay13 Ay15 (show v107.toInt ≤ x0_24.toInt from by omega)) (v_X_readWord hk k_1649 ⟨Nat.le_of_ble_eq_true rfl, Nat.le_of_ble_eq_true rfl⟩) (pM_v hK hP hD (ci := 7) (q0 := 0) rfl rfl rfl) rfl rfl hl.1 rfl (lv_room (Nat.le_of_ble_eq_true rfl)) d_X_addressPart_22 ⟨Nat.le_of_ble_eq_true rfl, Nat.le_of_ble_eq_true rfl⟩) hS hA hD (fun u t H locs ht hB hFr hS => ?_)
    obtain ⟨x0_25z108, x0_26z108, x0_54z108, x0_55z108, x0_56z108, x0_57z108, x0_58z108, Rx0_25z108, Rx0_26z108, Rx0_54z108, Rx0_57z108, Rx0_58z108, F0z108, F1z108, hP, hD⟩ := hB
    have F0z108 : v107.toInt ≤ x0_25z108.toInt ∧ x0_25z108.toInt ≤ x0_24.toInt := F0z108
    have F1z108 : 1 ≤ x0_26.toInt → 1 ≤ x0_26z108.toInt := F1z108
    rw [ht] at hP
    have hD := dwk hD hFr
    clear ht hFr
    have hP : va_P D classes (wS50 cI cJ cZ cB p0 p1 p2 p3 p4 p5 p6 p7 p8 p9 p10 p11 p12 p13 p14 p15 p16 p17 p18 p19 p20 p21 p22 p23 p24 p25 x0_4 x0_5 x0_6 x0_7 x0_8 x0_12 x0_13 x0_14 x0_15 x0_16 x0_17 x0_18 x0_22 x0_23 x0_24 x0_25z108 x0_26z108 x0_27 x0_28 x0_29 x0_30 x0_31 x0_32 x0_36 x0_39 x0_40 x0_44 x0_49 x0_51 x0_53 x0_54z108 x0_55z108 x0_56z108 x0_57z108 x0_58z108 x0_59 x0_60 x0_61 x0_62 y1 y2 y3 y4 y5 y6 y7 y8 y9 y10 y11 y12 y13 y14 y15 y16 y17 y18 y19 y20 y21 y22 y23 y24 y25) H := hP
    have hD : va_D A (wS50 cI cJ cZ cB p0 p1 p2 p3 p4 p5 p6 p7 p8 p9 p10 p11 p12 p13 p14 p15 p16 p17 p18 p19 p20 p21 p22 p23 p24 p25 x0_4 x0_5 x0_6 x0_7 x0_8 x0_12 x0_13 x0_14 x0_15 x0_16 x0_17 x0_18 x0_22 x0_23 x0_24 x0_25z108 x0_26z108 x0_27 x0_28 x0_29 x0_30 x0_31 x0_32 x0_36 x0_39 x0_40 x0_44 x0_49 x0_51 x0_53 x0_54z108 x0_55z108 x0_56z108 x0_57z108 x0_58z108 x0_59 x0_60 x0_61 x0_62 y1 y2 y3 y4 y5 y6 y7 y8 y9 y10 y11 y12 y13 y14 y15 y16 y17 y18 y19 y20 y21 y22 y23 y24 y25) := hD
    refine lv_aload_n hx hb d_X_addressPart_25 rfl (lv_at hl 1 rfl) ?_
    refine lv_bipush (v := 61) hx hb d_X_addressPart_26 (by decide) ?_
    refine kn_v (va_runV (C := "SignMachineModel") (As := [.int (61 : Int32)]) (rest := []) ⟨hx, hb, hml, hown, hk⟩ (c_X_take1 l D cI cJ cZ cB p0 p1 p2 p3 p4 p5 p6 p7 p8 p9 p10 p11 p12 p13 p14 p15 p16 p17 p18 p19 p20 p21 p22 p23 p24 p25 H.size x0_4 x0_5 x0_6 x0_7 x0_8 x0_12 x0_13 x0_14 x0_15 x0_16 x0_17 x0_18 x0_22 x0_23 x0_24 x0_25z108 x0_26z108 x0_27 x0_28 x0_29 x0_30 x0_31 x0_32 x0_36 x0_39 x0_40 x0_44 x0_49 x0_51 x0_53 x0_54z108 x0_55z108 x0_56z108 x0_57z108 x0_58z108 x0_59 x0_60 x0_61 x0_62 y1 y2 y3 y4 y5 y6 y7 y8 y9 y10 y11 y12 y13 y14 y15 y16 y17 y18 y19 y20 y21 y22 y23 y24 y25 (61 : Int32) Rx0_24 Rx0_25z108 Rx0_26z108 (show x0_25z108.toInt ≤ x0_24.toInt from by omega) (by decide)) (v_X_take1 hk k_1674 ⟨Nat.le_of_ble_eq_true rfl, Nat.le_of_ble_eq_true rfl⟩) (pM_v hK hP hD (ci := 7) (q0 := 0) rfl rfl rfl) rfl rfl hl.1 rfl (lv_room (Nat.le_of_ble_eq_true rfl)) d_X_addressPart_28 ⟨Nat.le_of_ble_eq_true rfl, Nat.le_of_ble_eq_true rfl⟩) hS hA hD (fun u t H locs ht hB hFr hS => ?_)
    obtain ⟨x0_25z109, x0_26z109, Rx0_25z109, Rx0_26z109, F0z109, F1z109, hP, hD⟩ := hB
    have F0z109 : x0_25z108.toInt ≤ x0_25z109.toInt ∧ x0_25z109.toInt ≤ x0_24.toInt := F0z109
    have F1z109 : 1 ≤ x0_26z108.toInt → 1 ≤ x0_26z109.toInt := F1z109
    rw [ht] at hP
    have hD := dwk hD hFr
    clear ht hFr
    have hP : va_P D classes (wS50 cI cJ cZ cB p0 p1 p2 p3 p4 p5 p6 p7 p8 p9 p10 p11 p12 p13 p14 p15 p16 p17 p18 p19 p20 p21 p22 p23 p24 p25 x0_4 x0_5 x0_6 x0_7 x0_8 x0_12 x0_13 x0_14 x0_15 x0_16 x0_17 x0_18 x0_22 x0_23 x0_24 x0_25z109 x0_26z109 x0_27 x0_28 x0_29 x0_30 x0_31 x0_32 x0_36 x0_39 x0_40 x0_44 x0_49 x0_51 x0_53 x0_54z108 x0_55z108 x0_56z108 x0_57z108 x0_58z108 x0_59 x0_60 x0_61 x0_62 y1 y2 y3 y4 y5 y6 y7 y8 y9 y10 y11 y12 y13 y14 y15 y16 y17 y18 y19 y20 y21 y22 y23 y24 y25) H := hP
    have hD : va_D A (wS50 cI cJ cZ cB p0 p1 p2 p3 p4 p5 p6 p7 p8 p9 p10 p11 p12 p13 p14 p15 p16 p17 p18 p19 p20 p21 p22 p23 p24 p25 x0_4 x0_5 x0_6 x0_7 x0_8 x0_12 x0_13 x0_14 x0_15 x0_16 x0_17 x0_18 x0_22 x0_23 x0_24 x0_25z109 x0_26z109 x0_27 x0_28 x0_29 x0_30 x0_31 x0_32 x0_36 x0_39 x0_40 x0_44 x0_49 x0_51 x0_53 x0_54z108 x0_55z108 x0_56z108 x0_57z108 x0_58z108 x0_59 x0_60 x0_61 x0_62 y1 y2 y3 y4 y5 y6 y7 y8 y9 y10 y11 y12 y13 y14 y15 y16 y17 y18 y19 y20 y21 y22 y23 y24 y25) := hD
    refine lv_aload_n hx hb d_X_addressPart_31 rfl (lv_at hl 1 rfl) ?_
    refine va_get (D := D) (ci := 7) (v := .int x0_53) (C := "SignMachineModel") (T := F_X) (N := 64) hx hb hk fi_X hown hK.1 hP 0 rfl rfl 53 (by decide) (hk _ k_1174) (fun _ h9 => h9) rfl d_X_addressPart_32 ?_
    refine lv_bipush (v := 40) hx hb d_X_addressPart_35 (by decide) ?_
    refine lv_icmp_ne (tgt := 48) hx hb d_X_addressPart_37 (by decide) (fun c110 => ?_) (fun c110 => ?_)
    · have gc110 : x0_53.toInt ≠ 40 := c_ne c110
      have R111 : 0 ≤ x0_53.toInt ∧ x0_53.toInt ≤ 39 := by omega
      refine lv_aload_n hx hb d_X_addressPart_48 rfl (lv_at hl 1 rfl) ?_
      refine va_get (D := D) (ci := 7) (v := .int x0_26z109) (C := "SignMachineModel") (T := F_X) (N := 64) hx hb hk fi_X hown hK.1 hP 0 rfl rfl 26 (by decide) (hk _ k_1147) (fun _ h9 => h9) rfl d_X_addressPart_49 ?_
      refine lv_if_ne (tgt := 140) hx hb d_X_addressPart_52 (by decide) (fun c112 => ?_) (fun c112 => ?_)
      · have gc112 : x0_26z109.toInt ≠ 0 := c_ne c112
        have R113 : 1 ≤ x0_26z109.toInt ∧ x0_26z109.toInt ≤ 6 := by omega
        refine lv_lconst (v := 0) hx hb d_X_addressPart_140 (by decide) ?_
        exact W.lret (v := (0 : Int64)) hx hb hr (fun t ht hW => ⟨⟨(0 : Int64), (0 : Int64), rfl, rfl, ⟨x0_25z109, x0_26z109, x0_36, x0_51, x0_53, x0_54z108, x0_55z108, x0_56z108, x0_57z108, x0_58z108, x0_59, x0_60, y11, y12, y23, y24, Rx0_25z109, (rgw R113 (by decide) (by decide)), Rx0_36, Rx0_51, (rgw R111 (by decide) (by decide)), Rx0_54z108, Rx0_57z108, Rx0_58z108, Rx0_59, Rx0_60, Ay23, Ay24, (by decide), (by omega), (by omega), (by omega), (by omega), by show va_P D classes _ t.heap; rw [ht]; exact hP, hD⟩⟩, hS.F ht⟩) hS.2.2 d_X_addressPart_141
      · have gc112 : x0_26z109.toInt = 0 := c_eq c112
        have R114 : 0 ≤ x0_26z109.toInt ∧ x0_26z109.toInt ≤ 0 := by omega
        refine lv_aload_n hx hb d_X_addressPart_55 rfl (lv_at hl 1 rfl) ?_
        refine va_get (D := D) (ci := 7) (v := .ref p24) (C := "SignMachineModel") (T := F_X) (N := 64) hx hb hk fi_X hown hK.1 hP 0 rfl rfl 52 (by decide) (hk _ k_1173) (fun _ h9 => h9) rfl d_X_addressPart_56 ?_
        refine lv_aload_n hx hb d_X_addressPart_59 rfl (lv_at hl 1 rfl) ?_
        refine va_get (D := D) (ci := 7) (v := .int x0_53) (C := "SignMachineModel") (T := F_X) (N := 64) hx hb hk fi_X hown hK.1 hP 0 rfl rfl 53 (by decide) (hk _ k_1174) (fun _ h9 => h9) rfl d_X_addressPart_60 ?_
        refine lv_aload_n hx hb d_X_addressPart_63 rfl (lv_at hl 1 rfl) ?_
        refine va_get (D := D) (ci := 7) (v := .int x0_57z108) (C := "SignMachineModel") (T := F_X) (N := 64) hx hb hk fi_X hown hK.1 hP 0 rfl rfl 57 (by decide) (hk _ k_1178) (fun _ h9 => h9) rfl d_X_addressPart_64 ?_
        refine lv_iconst (v := 1) hx hb d_X_addressPart_67 (by decide) ?_
        refine lv_icmp_ne (tgt := 82) hx hb d_X_addressPart_68 (by decide) (fun c115 => ?_) (fun c115 => ?_)
        · have gc115 : x0_57z108.toInt ≠ 1 := c_ne c115
          have R116 : 0 ≤ x0_57z108.toInt ∧ x0_57z108.toInt ≤ 0 := by omega
          refine lv_aload_n hx hb d_X_addressPart_82 rfl (lv_at hl 1 rfl) ?_
          refine va_get (D := D) (ci := 7) (v := .int x0_58z108) (C := "SignMachineModel") (T := F_X) (N := 64) hx hb hk fi_X hown hK.1 hP 0 rfl rfl 58 (by decide) (hk _ k_1179) (fun _ h9 => h9) rfl d_X_addressPart_83 ?_
          refine lv_i2l (v := (x0_58z108 : Int32).toInt64) hx hb d_X_addressPart_86 rfl ?_
          refine lv_topl (fun v117 hv117 => ?_)
          obtain ⟨ev117, Rv117⟩ : v117.toInt = x0_58z108.toInt ∧ (0 ≤ v117.toInt ∧ v117.toInt ≤ 1073741823) := il3 hv117 Rx0_58z108
          refine va_last hx hb hK.1 hP hD hS 24 1 rfl rfl (vpb R111 (by decide) (by decide)) d_X_addressPart_87 (fun H locs hP hD hS => ?_)
          have hP : va_P D classes (wS50 cI cJ cZ cB p0 p1 p2 p3 p4 p5 p6 p7 p8 p9 p10 p11 p12 p13 p14 p15 p16 p17 p18 p19 p20 p21 p22 p23 p24 p25 x0_4 x0_5 x0_6 x0_7 x0_8 x0_12 x0_13 x0_14 x0_15 x0_16 x0_17 x0_18 x0_22 x0_23 x0_24 x0_25z109 x0_26z109 x0_27 x0_28 x0_29 x0_30 x0_31 x0_32 x0_36 x0_39 x0_40 x0_44 x0_49 x0_51 x0_53 x0_54z108 x0_55z108 x0_56z108 x0_57z108 x0_58z108 x0_59 x0_60 x0_61 x0_62 y1 y2 y3 y4 y5 y6 y7 y8 y9 y10 y11 y12 y13 y14 y15 y16 y17 y18 y19 y20 y21 y22 y23 (vp_updL y24 (x0_53).toNatClampNeg v117) y25) H := hP
          have hD : va_D A (wS50 cI cJ cZ cB p0 p1 p2 p3 p4 p5 p6 p7 p8 p9 p10 p11 p12 p13 p14 p15 p16 p17 p18 p19 p20 p21 p22 p23 p24 p25 x0_4 x0_5 x0_6 x0_7 x0_8 x0_12 x0_13 x0_14 x0_15 x0_16 x0_17 x0_18 x0_22 x0_23 x0_24 x0_25z109 x0_26z109 x0_27 x0_28 x0_29 x0_30 x0_31 x0_32 x0_36 x0_39 x0_40 x0_44 x0_49 x0_51 x0_53 x0_54z108 x0_55z108 x0_56z108 x0_57z108 x0_58z108 x0_59 x0_60 x0_61 x0_62 y1 y2 y3 y4 y5 y6 y7 y8 y9 y10 y11 y12 y13 y14 y15 y16 y17 y18 y19 y20 y21 y22 y23 (vp_updL y24 (x0_53).toNatClampNeg v117) y25) := hD
          obtain ⟨v118, hv118⟩ : ∃ y : Nat → Int64, y = (vp_updL y24 (x0_53).toNatClampNeg v117) := ⟨_, rfl⟩
          rw [← hv118] at hP hD
          have Gv118 : (-1073741824 ≤ (v117).toInt ∧ (v117).toInt ≤ 1073741823) := (rgw Rv117 (by decide) (by decide))
          have Av118 : ∀ i : Nat, (-1073741824 ≤ (v118 i).toInt ∧ (v118 i).toInt ≤ 1073741823) := by rw [hv118]; exact updL_all (P := fun i x => (-1073741824 ≤ (x).toInt ∧ (x).toInt ≤ 1073741823)) Ay24 Gv118
          clear hv118
          refine lv_aload_n hx hb d_X_addressPart_88 rfl (lv_at hl 1 rfl) ?_
          refine va_get (D := D) (ci := 7) (v := .ref p23) (C := "SignMachineModel") (T := F_X) (N := 64) hx hb hk fi_X hown hK.1 hP 0 rfl rfl 50 (by decide) (hk _ k_1171) (fun _ h9 => h9) rfl d_X_addressPart_89 ?_
          refine lv_aload_n hx hb d_X_addressPart_92 rfl (lv_at hl 1 rfl) ?_
          refine va_get (D := D) (ci := 7) (v := .int x0_51) (C := "SignMachineModel") (T := F_X) (N := 64) hx hb hk fi_X hown hK.1 hP 0 rfl rfl 51 (by decide) (hk _ k_1172) (fun _ h9 => h9) rfl d_X_addressPart_93 ?_
          refine lv_bipush (v := 100) hx hb d_X_addressPart_96 (by decide) ?_
          refine lv_aload_n hx hb d_X_addressPart_98 rfl (lv_at hl 1 rfl) ?_
          refine va_get (D := D) (ci := 7) (v := .int x0_53) (C := "SignMachineModel") (T := F_X) (N := 64) hx hb hk fi_X hown hK.1 hP 0 rfl rfl 53 (by decide) (hk _ k_1174) (fun _ h9 => h9) rfl d_X_addressPart_99 ?_
          refine lv_iadd hx hb d_X_addressPart_102 ?_
          refine lv_topi (fun v119 hv119 => ?_)
          obtain ⟨ev119, Rv119⟩ : v119.toInt = 100 + x0_53.toInt ∧ (100 ≤ v119.toInt ∧ v119.toInt ≤ 139) := ad3 hv119 (by decide) R111 (by decide) (by decide) (by decide) (by decide)
          refine va_iast hx hb hK.1 hP hD hS 23 0 rfl rfl (by rw [vp_in_iff]; omega) d_X_addressPart_103 (fun H locs hP hD hS => ?_)
          have hP : va_P D classes (wS50 cI cJ cZ cB p0 p1 p2 p3 p4 p5 p6 p7 p8 p9 p10 p11 p12 p13 p14 p15 p16 p17 p18 p19 p20 p21 p22 p23 p24 p25 x0_4 x0_5 x0_6 x0_7 x0_8 x0_12 x0_13 x0_14 x0_15 x0_16 x0_17 x0_18 x0_22 x0_23 x0_24 x0_25z109 x0_26z109 x0_27 x0_28 x0_29 x0_30 x0_31 x0_32 x0_36 x0_39 x0_40 x0_44 x0_49 x0_51 x0_53 x0_54z108 x0_55z108 x0_56z108 x0_57z108 x0_58z108 x0_59 x0_60 x0_61 x0_62 y1 y2 y3 y4 y5 y6 y7 y8 y9 y10 y11 y12 y13 y14 y15 y16 y17 y18 y19 y20 y21 y22 (upd y23 (x0_51).toNatClampNeg v119) v118 y25) H := hP
          have hD : va_D A (wS50 cI cJ cZ cB p0 p1 p2 p3 p4 p5 p6 p7 p8 p9 p10 p11 p12 p13 p14 p15 p16 p17 p18 p19 p20 p21 p22 p23 p24 p25 x0_4 x0_5 x0_6 x0_7 x0_8 x0_12 x0_13 x0_14 x0_15 x0_16 x0_17 x0_18 x0_22 x0_23 x0_24 x0_25z109 x0_26z109 x0_27 x0_28 x0_29 x0_30 x0_31 x0_32 x0_36 x0_39 x0_40 x0_44 x0_49 x0_51 x0_53 x0_54z108 x0_55z108 x0_56z108 x0_57z108 x0_58z108 x0_59 x0_60 x0_61 x0_62 y1 y2 y3 y4 y5 y6 y7 y8 y9 y10 y11 y12 y13 y14 y15 y16 y17 y18 y19 y20 y21 y22 (upd y23 (x0_51).toNatClampNeg v119) v118 y25) := hD
          obtain ⟨v120, hv120⟩ : ∃ y : Nat → Int32, y = (upd y23 (x0_51).toNatClampNeg v119) := ⟨_, rfl⟩
          rw [← hv120] at hP hD
          have Gv120 : ((0 ≤ (v119).toInt ∧ (v119).toInt ≤ 139) ∧ ((v119).toInt ≤ 59 ∨ 100 ≤ (v119).toInt)) := by refine ⟨by omega, ?_⟩; omega
          have Av120 : ∀ i : Nat, ((0 ≤ (v120 i).toInt ∧ (v120 i).toInt ≤ 139) ∧ ((v120 i).toInt ≤ 59 ∨ 100 ≤ (v120 i).toInt)) := by rw [hv120]; exact upd_all (P := fun i x => ((0 ≤ (x).toInt ∧ (x).toInt ≤ 139) ∧ ((x).toInt ≤ 59 ∨ 100 ≤ (x).toInt))) Ay23 Gv120
          clear hv120
          refine lv_aload_n hx hb d_X_addressPart_104 rfl (lv_at hl 1 rfl) ?_
          refine lv_dup hx hb d_X_addressPart_105 rfl ?_
          refine va_get (D := D) (ci := 7) (v := .int x0_51) (C := "SignMachineModel") (T := F_X) (N := 64) hx hb hk fi_X hown hK.1 hP 0 rfl rfl 51 (by decide) (hk _ k_1172) (fun _ h9 => h9) rfl d_X_addressPart_106 ?_
          refine lv_iconst (v := 1) hx hb d_X_addressPart_109 (by decide) ?_
          refine lv_iadd hx hb d_X_addressPart_110 ?_
          refine lv_topi (fun v121 hv121 => ?_)
          obtain ⟨ev121, Rv121⟩ : v121.toInt = x0_51.toInt + 1 ∧ (1 ≤ v121.toInt ∧ v121.toInt ≤ 111) := ad3 hv121 Rx0_51 (by decide) (by decide) (by decide) (by decide) (by decide)
          refine va_put (D := D) (ci := 7) (v := .int v121) (ty := .int) (C := "SignMachineModel") (T := F_X) (N := 64) hx hb hk fi_X ft_X ft_X_ok fn_X hown hK.1 hP hD hS 0 rfl rfl 51 (by decide) (hk _ k_1172) (fun _ h9 => h9) rfl (by decide +kernel) rfl rfl (Nat.le_of_ble_eq_true rfl) d_X_addressPart_111 (fun H locs hP hD hS => ?_)
          have hP : va_P D classes (wS50 cI cJ cZ cB p0 p1 p2 p3 p4 p5 p6 p7 p8 p9 p10 p11 p12 p13 p14 p15 p16 p17 p18 p19 p20 p21 p22 p23 p24 p25 x0_4 x0_5 x0_6 x0_7 x0_8 x0_12 x0_13 x0_14 x0_15 x0_16 x0_17 x0_18 x0_22 x0_23 x0_24 x0_25z109 x0_26z109 x0_27 x0_28 x0_29 x0_30 x0_31 x0_32 x0_36 x0_39 x0_40 x0_44 x0_49 v121 x0_53 x0_54z108 x0_55z108 x0_56z108 x0_57z108 x0_58z108 x0_59 x0_60 x0_61 x0_62 y1 y2 y3 y4 y5 y6 y7 y8 y9 y10 y11 y12 y13 y14 y15 y16 y17 y18 y19 y20 y21 y22 v120 v118 y25) H := hP
          have hD : va_D A (wS50 cI cJ cZ cB p0 p1 p2 p3 p4 p5 p6 p7 p8 p9 p10 p11 p12 p13 p14 p15 p16 p17 p18 p19 p20 p21 p22 p23 p24 p25 x0_4 x0_5 x0_6 x0_7 x0_8 x0_12 x0_13 x0_14 x0_15 x0_16 x0_17 x0_18 x0_22 x0_23 x0_24 x0_25z109 x0_26z109 x0_27 x0_28 x0_29 x0_30 x0_31 x0_32 x0_36 x0_39 x0_40 x0_44 x0_49 v121 x0_53 x0_54z108 x0_55z108 x0_56z108 x0_57z108 x0_58z108 x0_59 x0_60 x0_61 x0_62 y1 y2 y3 y4 y5 y6 y7 y8 y9 y10 y11 y12 y13 y14 y15 y16 y17 y18 y19 y20 y21 y22 v120 v118 y25) := hD
          refine lv_aload_n hx hb d_X_addressPart_114 rfl (lv_at hl 1 rfl) ?_
          refine lv_iconst (v := 1) hx hb d_X_addressPart_115 (by decide) ?_
          refine va_put (D := D) (ci := 7) (v := .int (1 : Int32)) (ty := .boolean) (C := "SignMachineModel") (T := F_X) (N := 64) hx hb hk fi_X ft_X ft_X_ok fn_X hown hK.1 hP hD hS 0 rfl rfl 59 (by decide) (hk _ k_1180) (fun _ h9 => h9) rfl (by decide +kernel) rfl rfl (Nat.le_of_ble_eq_true rfl) d_X_addressPart_116 (fun H locs hP hD hS => ?_)
          have hP : va_P D classes (wS50 cI cJ cZ cB p0 p1 p2 p3 p4 p5 p6 p7 p8 p9 p10 p11 p12 p13 p14 p15 p16 p17 p18 p19 p20 p21 p22 p23 p24 p25 x0_4 x0_5 x0_6 x0_7 x0_8 x0_12 x0_13 x0_14 x0_15 x0_16 x0_17 x0_18 x0_22 x0_23 x0_24 x0_25z109 x0_26z109 x0_27 x0_28 x0_29 x0_30 x0_31 x0_32 x0_36 x0_39 x0_40 x0_44 x0_49 v121 x0_53 x0_54z108 x0_55z108 x0_56z108 x0_57z108 x0_58z108 (1 : Int32) x0_60 x0_61 x0_62 y1 y2 y3 y4 y5 y6 y7 y8 y9 y10 y11 y12 y13 y14 y15 y16 y17 y18 y19 y20 y21 y22 v120 v118 y25) H := hP
          have hD : va_D A (wS50 cI cJ cZ cB p0 p1 p2 p3 p4 p5 p6 p7 p8 p9 p10 p11 p12 p13 p14 p15 p16 p17 p18 p19 p20 p21 p22 p23 p24 p25 x0_4 x0_5 x0_6 x0_7 x0_8 x0_12 x0_13 x0_14 x0_15 x0_16 x0_17 x0_18 x0_22 x0_23 x0_24 x0_25z109 x0_26z109 x0_27 x0_28 x0_29 x0_30 x0_31 x0_32 x0_36 x0_39 x0_40 x0_44 x0_49 v121 x0_53 x0_54z108 x0_55z108 x0_56z108 x0_57z108 x0_58z108 (1 : Int32) x0_60 x0_61 x0_62 y1 y2 y3 y4 y5 y6 y7 y8 y9 y10 y11 y12 y13 y14 y15 y16 y17 y18 y19 y20 y21 y22 v120 v118 y25) := hD
          refine lv_aload_n hx hb d_X_addressPart_119 rfl (lv_at hl 1 rfl) ?_
          refine lv_bipush (v := 100) hx hb d_X_addressPart_120 (by decide) ?_
          refine lv_aload_n hx hb d_X_addressPart_122 rfl (lv_at hl 1 rfl) ?_
          refine va_get (D := D) (ci := 7) (v := .int x0_53) (C := "SignMachineModel") (T := F_X) (N := 64) hx hb hk fi_X hown hK.1 hP 0 rfl rfl 53 (by decide) (hk _ k_1174) (fun _ h9 => h9) rfl d_X_addressPart_123 ?_
          refine lv_iadd hx hb d_X_addressPart_126 ?_
          refine lv_topi (fun v122 hv122 => ?_)
          obtain ⟨ev122, Rv122⟩ : v122.toInt = 100 + x0_53.toInt ∧ (100 ≤ v122.toInt ∧ v122.toInt ≤ 139) := ad3 hv122 (by decide) R111 (by decide) (by decide) (by decide) (by decide)
          refine va_put (D := D) (ci := 7) (v := .int v122) (ty := .int) (C := "SignMachineModel") (T := F_X) (N := 64) hx hb hk fi_X ft_X ft_X_ok fn_X hown hK.1 hP hD hS 0 rfl rfl 60 (by decide) (hk _ k_1181) (fun _ h9 => h9) rfl (by decide +kernel) rfl rfl (Nat.le_of_ble_eq_true rfl) d_X_addressPart_127 (fun H locs hP hD hS => ?_)
          have hP : va_P D classes (wS50 cI cJ cZ cB p0 p1 p2 p3 p4 p5 p6 p7 p8 p9 p10 p11 p12 p13 p14 p15 p16 p17 p18 p19 p20 p21 p22 p23 p24 p25 x0_4 x0_5 x0_6 x0_7 x0_8 x0_12 x0_13 x0_14 x0_15 x0_16 x0_17 x0_18 x0_22 x0_23 x0_24 x0_25z109 x0_26z109 x0_27 x0_28 x0_29 x0_30 x0_31 x0_32 x0_36 x0_39 x0_40 x0_44 x0_49 v121 x0_53 x0_54z108 x0_55z108 x0_56z108 x0_57z108 x0_58z108 (1 : Int32) v122 x0_61 x0_62 y1 y2 y3 y4 y5 y6 y7 y8 y9 y10 y11 y12 y13 y14 y15 y16 y17 y18 y19 y20 y21 y22 v120 v118 y25) H := hP
          have hD : va_D A (wS50 cI cJ cZ cB p0 p1 p2 p3 p4 p5 p6 p7 p8 p9 p10 p11 p12 p13 p14 p15 p16 p17 p18 p19 p20 p21 p22 p23 p24 p25 x0_4 x0_5 x0_6 x0_7 x0_8 x0_12 x0_13 x0_14 x0_15 x0_16 x0_17 x0_18 x0_22 x0_23 x0_24 x0_25z109 x0_26z109 x0_27 x0_28 x0_29 x0_30 x0_31 x0_32 x0_36 x0_39 x0_40 x0_44 x0_49 v121 x0_53 x0_54z108 x0_55z108 x0_56z108 x0_57z108 x0_58z108 (1 : Int32) v122 x0_61 x0_62 y1 y2 y3 y4 y5 y6 y7 y8 y9 y10 y11 y12 y13 y14 y15 y16 y17 y18 y19 y20 y21 y22 v120 v118 y25) := hD
          refine lv_aload_n hx hb d_X_addressPart_130 rfl (lv_at hl 1 rfl) ?_
          refine lv_dup hx hb d_X_addressPart_131 rfl ?_
          refine va_get (D := D) (ci := 7) (v := .int x0_53) (C := "SignMachineModel") (T := F_X) (N := 64) hx hb hk fi_X hown hK.1 hP 0 rfl rfl 53 (by decide) (hk _ k_1174) (fun _ h9 => h9) rfl d_X_addressPart_132 ?_
          refine lv_iconst (v := 1) hx hb d_X_addressPart_135 (by decide) ?_
          refine lv_iadd hx hb d_X_addressPart_136 ?_
          refine lv_topi (fun v123 hv123 => ?_)
          obtain ⟨ev123, Rv123⟩ : v123.toInt = x0_53.toInt + 1 ∧ (1 ≤ v123.toInt ∧ v123.toInt ≤ 40) := ad3 hv123 R111 (by decide) (by decide) (by decide) (by decide) (by decide)
          refine va_put (D := D) (ci := 7) (v := .int v123) (ty := .int) (C := "SignMachineModel") (T := F_X) (N := 64) hx hb hk fi_X ft_X ft_X_ok fn_X hown hK.1 hP hD hS 0 rfl rfl 53 (by decide) (hk _ k_1174) (fun _ h9 => h9) rfl (by decide +kernel) rfl rfl (Nat.le_of_ble_eq_true rfl) d_X_addressPart_137 (fun H locs hP hD hS => ?_)
          have hP : va_P D classes (wS50 cI cJ cZ cB p0 p1 p2 p3 p4 p5 p6 p7 p8 p9 p10 p11 p12 p13 p14 p15 p16 p17 p18 p19 p20 p21 p22 p23 p24 p25 x0_4 x0_5 x0_6 x0_7 x0_8 x0_12 x0_13 x0_14 x0_15 x0_16 x0_17 x0_18 x0_22 x0_23 x0_24 x0_25z109 x0_26z109 x0_27 x0_28 x0_29 x0_30 x0_31 x0_32 x0_36 x0_39 x0_40 x0_44 x0_49 v121 v123 x0_54z108 x0_55z108 x0_56z108 x0_57z108 x0_58z108 (1 : Int32) v122 x0_61 x0_62 y1 y2 y3 y4 y5 y6 y7 y8 y9 y10 y11 y12 y13 y14 y15 y16 y17 y18 y19 y20 y21 y22 v120 v118 y25) H := hP
          have hD : va_D A (wS50 cI cJ cZ cB p0 p1 p2 p3 p4 p5 p6 p7 p8 p9 p10 p11 p12 p13 p14 p15 p16 p17 p18 p19 p20 p21 p22 p23 p24 p25 x0_4 x0_5 x0_6 x0_7 x0_8 x0_12 x0_13 x0_14 x0_15 x0_16 x0_17 x0_18 x0_22 x0_23 x0_24 x0_25z109 x0_26z109 x0_27 x0_28 x0_29 x0_30 x0_31 x0_32 x0_36 x0_39 x0_40 x0_44 x0_49 v121 v123 x0_54z108 x0_55z108 x0_56z108 x0_57z108 x0_58z108 (1 : Int32) v122 x0_61 x0_62 y1 y2 y3 y4 y5 y6 y7 y8 y9 y10 y11 y12 y13 y14 y15 y16 y17 y18 y19 y20 y21 y22 v120 v118 y25) := hD
          refine lv_lconst (v := 0) hx hb d_X_addressPart_140 (by decide) ?_
          exact W.lret (v := (0 : Int64)) hx hb hr (fun t ht hW => ⟨⟨(0 : Int64), (0 : Int64), rfl, rfl, ⟨x0_25z109, x0_26z109, x0_36, v121, v123, x0_54z108, x0_55z108, x0_56z108, x0_57z108, x0_58z108, (1 : Int32), v122, y11, y12, v120, v118, Rx0_25z109, (rgw R114 (by decide) (by decide)), Rx0_36, (by omega), (rgw Rv123 (by decide) (by decide)), Rx0_54z108, (rgw R116 (by decide) (by decide)), Rx0_58z108, (by decide), (rgw Rv122 (by decide) (by decide)), Av120, Av118, (by decide), (by omega), (by omega), (by omega), (by omega), by show va_P D classes _ t.heap; rw [ht]; exact hP, hD⟩⟩, hS.F ht⟩) hS.2.2 d_X_addressPart_141
        · have gc115 : x0_57z108.toInt = 1 := c_eq c115
          have R124 : 1 ≤ x0_57z108.toInt ∧ x0_57z108.toInt ≤ 1 := by omega
          refine lv_aload_n hx hb d_X_addressPart_71 rfl (lv_at hl 1 rfl) ?_
          refine va_get (D := D) (ci := 7) (v := .int x0_58z108) (C := "SignMachineModel") (T := F_X) (N := 64) hx hb hk fi_X hown hK.1 hP 0 rfl rfl 58 (by decide) (hk _ k_1179) (fun _ h9 => h9) rfl d_X_addressPart_72 ?_
          refine lv_i2l (v := (x0_58z108 : Int32).toInt64) hx hb d_X_addressPart_75 rfl ?_
          refine lv_topl (fun v125 hv125 => ?_)
          obtain ⟨ev125, Rv125⟩ : v125.toInt = x0_58z108.toInt ∧ (0 ≤ v125.toInt ∧ v125.toInt ≤ 1073741823) := il3 hv125 Rx0_58z108
          refine lv_lneg hx hb d_X_addressPart_76 ?_
          refine lv_topl (fun v126 hv126 => ?_)
          obtain ⟨ev126, Rv126⟩ : v126.toInt = -v125.toInt ∧ ((-1073741823) ≤ v126.toInt ∧ v126.toInt ≤ 0) := ng6 hv126 Rv125 (by decide) (by decide) (by decide) (by decide)
          refine lv_lconst (v := 1) hx hb d_X_addressPart_77 (by decide) ?_
          refine lv_lsub hx hb d_X_addressPart_78 ?_
          refine lv_topl (fun v127 hv127 => ?_)
          obtain ⟨ev127, Rv127⟩ : v127.toInt = v126.toInt - 1 ∧ ((-1073741824) ≤ v127.toInt ∧ v127.toInt ≤ (-1)) := sb6 hv127 Rv126 (by decide) (by decide) (by decide) (by decide) (by decide)
          refine lv_goto (tgt := 87) hx hb d_X_addressPart_79 (by decide) ?_
          refine va_last hx hb hK.1 hP hD hS 24 1 rfl rfl (vpb R111 (by decide) (by decide)) d_X_addressPart_87 (fun H locs hP hD hS => ?_)
          have hP : va_P D classes (wS50 cI cJ cZ cB p0 p1 p2 p3 p4 p5 p6 p7 p8 p9 p10 p11 p12 p13 p14 p15 p16 p17 p18 p19 p20 p21 p22 p23 p24 p25 x0_4 x0_5 x0_6 x0_7 x0_8 x0_12 x0_13 x0_14 x0_15 x0_16 x0_17 x0_18 x0_22 x0_23 x0_24 x0_25z109 x0_26z109 x0_27 x0_28 x0_29 x0_30 x0_31 x0_32 x0_36 x0_39 x0_40 x0_44 x0_49 x0_51 x0_53 x0_54z108 x0_55z108 x0_56z108 x0_57z108 x0_58z108 x0_59 x0_60 x0_61 x0_62 y1 y2 y3 y4 y5 y6 y7 y8 y9 y10 y11 y12 y13 y14 y15 y16 y17 y18 y19 y20 y21 y22 y23 (vp_updL y24 (x0_53).toNatClampNeg v127) y25) H := hP
          have hD : va_D A (wS50 cI cJ cZ cB p0 p1 p2 p3 p4 p5 p6 p7 p8 p9 p10 p11 p12 p13 p14 p15 p16 p17 p18 p19 p20 p21 p22 p23 p24 p25 x0_4 x0_5 x0_6 x0_7 x0_8 x0_12 x0_13 x0_14 x0_15 x0_16 x0_17 x0_18 x0_22 x0_23 x0_24 x0_25z109 x0_26z109 x0_27 x0_28 x0_29 x0_30 x0_31 x0_32 x0_36 x0_39 x0_40 x0_44 x0_49 x0_51 x0_53 x0_54z108 x0_55z108 x0_56z108 x0_57z108 x0_58z108 x0_59 x0_60 x0_61 x0_62 y1 y2 y3 y4 y5 y6 y7 y8 y9 y10 y11 y12 y13 y14 y15 y16 y17 y18 y19 y20 y21 y22 y23 (vp_updL y24 (x0_53).toNatClampNeg v127) y25) := hD
          obtain ⟨v128, hv128⟩ : ∃ y : Nat → Int64, y = (vp_updL y24 (x0_53).toNatClampNeg v127) := ⟨_, rfl⟩
          rw [← hv128] at hP hD
          have Gv128 : (-1073741824 ≤ (v127).toInt ∧ (v127).toInt ≤ 1073741823) := (rgw Rv127 (by decide) (by decide))
          have Av128 : ∀ i : Nat, (-1073741824 ≤ (v128 i).toInt ∧ (v128 i).toInt ≤ 1073741823) := by rw [hv128]; exact updL_all (P := fun i x => (-1073741824 ≤ (x).toInt ∧ (x).toInt ≤ 1073741823)) Ay24 Gv128
          clear hv128
          refine lv_aload_n hx hb d_X_addressPart_88 rfl (lv_at hl 1 rfl) ?_
          refine va_get (D := D) (ci := 7) (v := .ref p23) (C := "SignMachineModel") (T := F_X) (N := 64) hx hb hk fi_X hown hK.1 hP 0 rfl rfl 50 (by decide) (hk _ k_1171) (fun _ h9 => h9) rfl d_X_addressPart_89 ?_
          refine lv_aload_n hx hb d_X_addressPart_92 rfl (lv_at hl 1 rfl) ?_
          refine va_get (D := D) (ci := 7) (v := .int x0_51) (C := "SignMachineModel") (T := F_X) (N := 64) hx hb hk fi_X hown hK.1 hP 0 rfl rfl 51 (by decide) (hk _ k_1172) (fun _ h9 => h9) rfl d_X_addressPart_93 ?_
          refine lv_bipush (v := 100) hx hb d_X_addressPart_96 (by decide) ?_
          refine lv_aload_n hx hb d_X_addressPart_98 rfl (lv_at hl 1 rfl) ?_
          refine va_get (D := D) (ci := 7) (v := .int x0_53) (C := "SignMachineModel") (T := F_X) (N := 64) hx hb hk fi_X hown hK.1 hP 0 rfl rfl 53 (by decide) (hk _ k_1174) (fun _ h9 => h9) rfl d_X_addressPart_99 ?_
          refine lv_iadd hx hb d_X_addressPart_102 ?_
          refine lv_topi (fun v129 hv129 => ?_)
          obtain ⟨ev129, Rv129⟩ : v129.toInt = 100 + x0_53.toInt ∧ (100 ≤ v129.toInt ∧ v129.toInt ≤ 139) := ad3 hv129 (by decide) R111 (by decide) (by decide) (by decide) (by decide)
          refine va_iast hx hb hK.1 hP hD hS 23 0 rfl rfl (by rw [vp_in_iff]; omega) d_X_addressPart_103 (fun H locs hP hD hS => ?_)
          have hP : va_P D classes (wS50 cI cJ cZ cB p0 p1 p2 p3 p4 p5 p6 p7 p8 p9 p10 p11 p12 p13 p14 p15 p16 p17 p18 p19 p20 p21 p22 p23 p24 p25 x0_4 x0_5 x0_6 x0_7 x0_8 x0_12 x0_13 x0_14 x0_15 x0_16 x0_17 x0_18 x0_22 x0_23 x0_24 x0_25z109 x0_26z109 x0_27 x0_28 x0_29 x0_30 x0_31 x0_32 x0_36 x0_39 x0_40 x0_44 x0_49 x0_51 x0_53 x0_54z108 x0_55z108 x0_56z108 x0_57z108 x0_58z108 x0_59 x0_60 x0_61 x0_62 y1 y2 y3 y4 y5 y6 y7 y8 y9 y10 y11 y12 y13 y14 y15 y16 y17 y18 y19 y20 y21 y22 (upd y23 (x0_51).toNatClampNeg v129) v128 y25) H := hP
          have hD : va_D A (wS50 cI cJ cZ cB p0 p1 p2 p3 p4 p5 p6 p7 p8 p9 p10 p11 p12 p13 p14 p15 p16 p17 p18 p19 p20 p21 p22 p23 p24 p25 x0_4 x0_5 x0_6 x0_7 x0_8 x0_12 x0_13 x0_14 x0_15 x0_16 x0_17 x0_18 x0_22 x0_23 x0_24 x0_25z109 x0_26z109 x0_27 x0_28 x0_29 x0_30 x0_31 x0_32 x0_36 x0_39 x0_40 x0_44 x0_49 x0_51 x0_53 x0_54z108 x0_55z108 x0_56z108 x0_57z108 x0_58z108 x0_59 x0_60 x0_61 x0_62 y1 y2 y3 y4 y5 y6 y7 y8 y9 y10 y11 y12 y13 y14 y15 y16 y17 y18 y19 y20 y21 y22 (upd y23 (x0_51).toNatClampNeg v129) v128 y25) := hD
          obtain ⟨v130, hv130⟩ : ∃ y : Nat → Int32, y = (upd y23 (x0_51).toNatClampNeg v129) := ⟨_, rfl⟩
          rw [← hv130] at hP hD
          have Gv130 : ((0 ≤ (v129).toInt ∧ (v129).toInt ≤ 139) ∧ ((v129).toInt ≤ 59 ∨ 100 ≤ (v129).toInt)) := by refine ⟨by omega, ?_⟩; omega
          have Av130 : ∀ i : Nat, ((0 ≤ (v130 i).toInt ∧ (v130 i).toInt ≤ 139) ∧ ((v130 i).toInt ≤ 59 ∨ 100 ≤ (v130 i).toInt)) := by rw [hv130]; exact upd_all (P := fun i x => ((0 ≤ (x).toInt ∧ (x).toInt ≤ 139) ∧ ((x).toInt ≤ 59 ∨ 100 ≤ (x).toInt))) Ay23 Gv130
          clear hv130
          refine lv_aload_n hx hb d_X_addressPart_104 rfl (lv_at hl 1 rfl) ?_
          refine lv_dup hx hb d_X_addressPart_105 rfl ?_
          refine va_get (D := D) (ci := 7) (v := .int x0_51) (C := "SignMachineModel") (T := F_X) (N := 64) hx hb hk fi_X hown hK.1 hP 0 rfl rfl 51 (by decide) (hk _ k_1172) (fun _ h9 => h9) rfl d_X_addressPart_106 ?_
          refine lv_iconst (v := 1) hx hb d_X_addressPart_109 (by decide) ?_
          refine lv_iadd hx hb d_X_addressPart_110 ?_
          refine lv_topi (fun v131 hv131 => ?_)
          obtain ⟨ev131, Rv131⟩ : v131.toInt = x0_51.toInt + 1 ∧ (1 ≤ v131.toInt ∧ v131.toInt ≤ 111) := ad3 hv131 Rx0_51 (by decide) (by decide) (by decide) (by decide) (by decide)
          refine va_put (D := D) (ci := 7) (v := .int v131) (ty := .int) (C := "SignMachineModel") (T := F_X) (N := 64) hx hb hk fi_X ft_X ft_X_ok fn_X hown hK.1 hP hD hS 0 rfl rfl 51 (by decide) (hk _ k_1172) (fun _ h9 => h9) rfl (by decide +kernel) rfl rfl (Nat.le_of_ble_eq_true rfl) d_X_addressPart_111 (fun H locs hP hD hS => ?_)
          have hP : va_P D classes (wS50 cI cJ cZ cB p0 p1 p2 p3 p4 p5 p6 p7 p8 p9 p10 p11 p12 p13 p14 p15 p16 p17 p18 p19 p20 p21 p22 p23 p24 p25 x0_4 x0_5 x0_6 x0_7 x0_8 x0_12 x0_13 x0_14 x0_15 x0_16 x0_17 x0_18 x0_22 x0_23 x0_24 x0_25z109 x0_26z109 x0_27 x0_28 x0_29 x0_30 x0_31 x0_32 x0_36 x0_39 x0_40 x0_44 x0_49 v131 x0_53 x0_54z108 x0_55z108 x0_56z108 x0_57z108 x0_58z108 x0_59 x0_60 x0_61 x0_62 y1 y2 y3 y4 y5 y6 y7 y8 y9 y10 y11 y12 y13 y14 y15 y16 y17 y18 y19 y20 y21 y22 v130 v128 y25) H := hP
          have hD : va_D A (wS50 cI cJ cZ cB p0 p1 p2 p3 p4 p5 p6 p7 p8 p9 p10 p11 p12 p13 p14 p15 p16 p17 p18 p19 p20 p21 p22 p23 p24 p25 x0_4 x0_5 x0_6 x0_7 x0_8 x0_12 x0_13 x0_14 x0_15 x0_16 x0_17 x0_18 x0_22 x0_23 x0_24 x0_25z109 x0_26z109 x0_27 x0_28 x0_29 x0_30 x0_31 x0_32 x0_36 x0_39 x0_40 x0_44 x0_49 v131 x0_53 x0_54z108 x0_55z108 x0_56z108 x0_57z108 x0_58z108 x0_59 x0_60 x0_61 x0_62 y1 y2 y3 y4 y5 y6 y7 y8 y9 y10 y11 y12 y13 y14 y15 y16 y17 y18 y19 y20 y21 y22 v130 v128 y25) := hD
          refine lv_aload_n hx hb d_X_addressPart_114 rfl (lv_at hl 1 rfl) ?_
          refine lv_iconst (v := 1) hx hb d_X_addressPart_115 (by decide) ?_
          refine va_put (D := D) (ci := 7) (v := .int (1 : Int32)) (ty := .boolean) (C := "SignMachineModel") (T := F_X) (N := 64) hx hb hk fi_X ft_X ft_X_ok fn_X hown hK.1 hP hD hS 0 rfl rfl 59 (by decide) (hk _ k_1180) (fun _ h9 => h9) rfl (by decide +kernel) rfl rfl (Nat.le_of_ble_eq_true rfl) d_X_addressPart_116 (fun H locs hP hD hS => ?_)
          have hP : va_P D classes (wS50 cI cJ cZ cB p0 p1 p2 p3 p4 p5 p6 p7 p8 p9 p10 p11 p12 p13 p14 p15 p16 p17 p18 p19 p20 p21 p22 p23 p24 p25 x0_4 x0_5 x0_6 x0_7 x0_8 x0_12 x0_13 x0_14 x0_15 x0_16 x0_17 x0_18 x0_22 x0_23 x0_24 x0_25z109 x0_26z109 x0_27 x0_28 x0_29 x0_30 x0_31 x0_32 x0_36 x0_39 x0_40 x0_44 x0_49 v131 x0_53 x0_54z108 x0_55z108 x0_56z108 x0_57z108 x0_58z108 (1 : Int32) x0_60 x0_61 x0_62 y1 y2 y3 y4 y5 y6 y7 y8 y9 y10 y11 y12 y13 y14 y15 y16 y17 y18 y19 y20 y21 y22 v130 v128 y25) H := hP
          have hD : va_D A (wS50 cI cJ cZ cB p0 p1 p2 p3 p4 p5 p6 p7 p8 p9 p10 p11 p12 p13 p14 p15 p16 p17 p18 p19 p20 p21 p22 p23 p24 p25 x0_4 x0_5 x0_6 x0_7 x0_8 x0_12 x0_13 x0_14 x0_15 x0_16 x0_17 x0_18 x0_22 x0_23 x0_24 x0_25z109 x0_26z109 x0_27 x0_28 x0_29 x0_30 x0_31 x0_32 x0_36 x0_39 x0_40 x0_44 x0_49 v131 x0_53 x0_54z108 x0_55z108 x0_56z108 x0_57z108 x0_58z108 (1 : Int32) x0_60 x0_61 x0_62 y1 y2 y3 y4 y5 y6 y7 y8 y9 y10 y11 y12 y13 y14 y15 y16 y17 y18 y19 y20 y21 y22 v130 v128 y25) := hD
          refine lv_aload_n hx hb d_X_addressPart_119 rfl (lv_at hl 1 rfl) ?_
          refine lv_bipush (v := 100) hx hb d_X_addressPart_120 (by decide) ?_
          refine lv_aload_n hx hb d_X_addressPart_122 rfl (lv_at hl 1 rfl) ?_
          refine va_get (D := D) (ci := 7) (v := .int x0_53) (C := "SignMachineModel") (T := F_X) (N := 64) hx hb hk fi_X hown hK.1 hP 0 rfl rfl 53 (by decide) (hk _ k_1174) (fun _ h9 => h9) rfl d_X_addressPart_123 ?_
          refine lv_iadd hx hb d_X_addressPart_126 ?_
          refine lv_topi (fun v132 hv132 => ?_)
          obtain ⟨ev132, Rv132⟩ : v132.toInt = 100 + x0_53.toInt ∧ (100 ≤ v132.toInt ∧ v132.toInt ≤ 139) := ad3 hv132 (by decide) R111 (by decide) (by decide) (by decide) (by decide)
          refine va_put (D := D) (ci := 7) (v := .int v132) (ty := .int) (C := "SignMachineModel") (T := F_X) (N := 64) hx hb hk fi_X ft_X ft_X_ok fn_X hown hK.1 hP hD hS 0 rfl rfl 60 (by decide) (hk _ k_1181) (fun _ h9 => h9) rfl (by decide +kernel) rfl rfl (Nat.le_of_ble_eq_true rfl) d_X_addressPart_127 (fun H locs hP hD hS => ?_)
          have hP : va_P D classes (wS50 cI cJ cZ cB p0 p1 p2 p3 p4 p5 p6 p7 p8 p9 p10 p11 p12 p13 p14 p15 p16 p17 p18 p19 p20 p21 p22 p23 p24 p25 x0_4 x0_5 x0_6 x0_7 x0_8 x0_12 x0_13 x0_14 x0_15 x0_16 x0_17 x0_18 x0_22 x0_23 x0_24 x0_25z109 x0_26z109 x0_27 x0_28 x0_29 x0_30 x0_31 x0_32 x0_36 x0_39 x0_40 x0_44 x0_49 v131 x0_53 x0_54z108 x0_55z108 x0_56z108 x0_57z108 x0_58z108 (1 : Int32) v132 x0_61 x0_62 y1 y2 y3 y4 y5 y6 y7 y8 y9 y10 y11 y12 y13 y14 y15 y16 y17 y18 y19 y20 y21 y22 v130 v128 y25) H := hP
          have hD : va_D A (wS50 cI cJ cZ cB p0 p1 p2 p3 p4 p5 p6 p7 p8 p9 p10 p11 p12 p13 p14 p15 p16 p17 p18 p19 p20 p21 p22 p23 p24 p25 x0_4 x0_5 x0_6 x0_7 x0_8 x0_12 x0_13 x0_14 x0_15 x0_16 x0_17 x0_18 x0_22 x0_23 x0_24 x0_25z109 x0_26z109 x0_27 x0_28 x0_29 x0_30 x0_31 x0_32 x0_36 x0_39 x0_40 x0_44 x0_49 v131 x0_53 x0_54z108 x0_55z108 x0_56z108 x0_57z108 x0_58z108 (1 : Int32) v132 x0_61 x0_62 y1 y2 y3 y4 y5 y6 y7 y8 y9 y10 y11 y12 y13 y14 y15 y16 y17 y18 y19 y20 y21 y22 v130 v128 y25) := hD
          refine lv_aload_n hx hb d_X_addressPart_130 rfl (lv_at hl 1 rfl) ?_
          refine lv_dup hx hb d_X_addressPart_131 rfl ?_
          refine va_get (D := D) (ci := 7) (v := .int x0_53) (C := "SignMachineModel") (T := F_X) (N := 64) hx hb hk fi_X hown hK.1 hP 0 rfl rfl 53 (by decide) (hk _ k_1174) (fun _ h9 => h9) rfl d_X_addressPart_132 ?_
          refine lv_iconst (v := 1) hx hb d_X_addressPart_135 (by decide) ?_
          refine lv_iadd hx hb d_X_addressPart_136 ?_
          refine lv_topi (fun v133 hv133 => ?_)
          obtain ⟨ev133, Rv133⟩ : v133.toInt = x0_53.toInt + 1 ∧ (1 ≤ v133.toInt ∧ v133.toInt ≤ 40) := ad3 hv133 R111 (by decide) (by decide) (by decide) (by decide) (by decide)
          refine va_put (D := D) (ci := 7) (v := .int v133) (ty := .int) (C := "SignMachineModel") (T := F_X) (N := 64) hx hb hk fi_X ft_X ft_X_ok fn_X hown hK.1 hP hD hS 0 rfl rfl 53 (by decide) (hk _ k_1174) (fun _ h9 => h9) rfl (by decide +kernel) rfl rfl (Nat.le_of_ble_eq_true rfl) d_X_addressPart_137 (fun H locs hP hD hS => ?_)
          have hP : va_P D classes (wS50 cI cJ cZ cB p0 p1 p2 p3 p4 p5 p6 p7 p8 p9 p10 p11 p12 p13 p14 p15 p16 p17 p18 p19 p20 p21 p22 p23 p24 p25 x0_4 x0_5 x0_6 x0_7 x0_8 x0_12 x0_13 x0_14 x0_15 x0_16 x0_17 x0_18 x0_22 x0_23 x0_24 x0_25z109 x0_26z109 x0_27 x0_28 x0_29 x0_30 x0_31 x0_32 x0_36 x0_39 x0_40 x0_44 x0_49 v131 v133 x0_54z108 x0_55z108 x0_56z108 x0_57z108 x0_58z108 (1 : Int32) v132 x0_61 x0_62 y1 y2 y3 y4 y5 y6 y7 y8 y9 y10 y11 y12 y13 y14 y15 y16 y17 y18 y19 y20 y21 y22 v130 v128 y25) H := hP
          have hD : va_D A (wS50 cI cJ cZ cB p0 p1 p2 p3 p4 p5 p6 p7 p8 p9 p10 p11 p12 p13 p14 p15 p16 p17 p18 p19 p20 p21 p22 p23 p24 p25 x0_4 x0_5 x0_6 x0_7 x0_8 x0_12 x0_13 x0_14 x0_15 x0_16 x0_17 x0_18 x0_22 x0_23 x0_24 x0_25z109 x0_26z109 x0_27 x0_28 x0_29 x0_30 x0_31 x0_32 x0_36 x0_39 x0_40 x0_44 x0_49 v131 v133 x0_54z108 x0_55z108 x0_56z108 x0_57z108 x0_58z108 (1 : Int32) v132 x0_61 x0_62 y1 y2 y3 y4 y5 y6 y7 y8 y9 y10 y11 y12 y13 y14 y15 y16 y17 y18 y19 y20 y21 y22 v130 v128 y25) := hD
          refine lv_lconst (v := 0) hx hb d_X_addressPart_140 (by decide) ?_
          exact W.lret (v := (0 : Int64)) hx hb hr (fun t ht hW => ⟨⟨(0 : Int64), (0 : Int64), rfl, rfl, ⟨x0_25z109, x0_26z109, x0_36, v131, v133, x0_54z108, x0_55z108, x0_56z108, x0_57z108, x0_58z108, (1 : Int32), v132, y11, y12, v130, v128, Rx0_25z109, (rgw R114 (by decide) (by decide)), Rx0_36, (by omega), (rgw Rv133 (by decide) (by decide)), Rx0_54z108, (rgw R124 (by decide) (by decide)), Rx0_58z108, (by decide), (rgw Rv132 (by decide) (by decide)), Av130, Av128, (by decide), (by omega), (by omega), (by omega), (by omega), by show va_P D classes _ t.heap; rw [ht]; exact hP, hD⟩⟩, hS.F ht⟩) hS.2.2 d_X_addressPart_141
    · have gc110 : x0_53.toInt = 40 := c_eq c110
      have R134 : 40 ≤ x0_53.toInt ∧ x0_53.toInt ≤ 40 := by omega
      refine lv_aload_n hx hb d_X_addressPart_40 rfl (lv_at hl 1 rfl) ?_
      refine lv_iconst (v := 5) hx hb d_X_addressPart_41 (by decide) ?_
      refine kn_v (va_runV (C := "SignMachineModel") (As := [.int (5 : Int32)]) (rest := []) ⟨hx, hb, hml, hown, hk⟩ (c_X_bad l D cI cJ cZ cB p0 p1 p2 p3 p4 p5 p6 p7 p8 p9 p10 p11 p12 p13 p14 p15 p16 p17 p18 p19 p20 p21 p22 p23 p24 p25 H.size x0_4 x0_5 x0_6 x0_7 x0_8 x0_12 x0_13 x0_14 x0_15 x0_16 x0_17 x0_18 x0_22 x0_23 x0_24 x0_25z109 x0_26z109 x0_27 x0_28 x0_29 x0_30 x0_31 x0_32 x0_36 x0_39 x0_40 x0_44 x0_49 x0_51 x0_53 x0_54z108 x0_55z108 x0_56z108 x0_57z108 x0_58z108 x0_59 x0_60 x0_61 x0_62 y1 y2 y3 y4 y5 y6 y7 y8 y9 y10 y11 y12 y13 y14 y15 y16 y17 y18 y19 y20 y21 y22 y23 y24 y25 (5 : Int32) Rx0_26z109 (by decide)) (v_X_bad hk k_1552 ⟨Nat.le_of_ble_eq_true rfl, Nat.le_of_ble_eq_true rfl⟩) (pM_v hK hP hD (ci := 7) (q0 := 0) rfl rfl rfl) rfl rfl hl.1 rfl (lv_room (Nat.le_of_ble_eq_true rfl)) d_X_addressPart_42 ⟨Nat.le_of_ble_eq_true rfl, Nat.le_of_ble_eq_true rfl⟩) hS hA hD (fun u t H locs ht hB hFr hS => ?_)
      obtain ⟨x0_26z135, Rx0_26z135, F0z135, hP, hD⟩ := hB
      have F0z135 : 1 ≤ x0_26z135.toInt := F0z135
      rw [ht] at hP
      have hD := dwk hD hFr
      clear ht hFr
      have hP : va_P D classes (wS50 cI cJ cZ cB p0 p1 p2 p3 p4 p5 p6 p7 p8 p9 p10 p11 p12 p13 p14 p15 p16 p17 p18 p19 p20 p21 p22 p23 p24 p25 x0_4 x0_5 x0_6 x0_7 x0_8 x0_12 x0_13 x0_14 x0_15 x0_16 x0_17 x0_18 x0_22 x0_23 x0_24 x0_25z109 x0_26z135 x0_27 x0_28 x0_29 x0_30 x0_31 x0_32 x0_36 x0_39 x0_40 x0_44 x0_49 x0_51 x0_53 x0_54z108 x0_55z108 x0_56z108 x0_57z108 x0_58z108 x0_59 x0_60 x0_61 x0_62 y1 y2 y3 y4 y5 y6 y7 y8 y9 y10 y11 y12 y13 y14 y15 y16 y17 y18 y19 y20 y21 y22 y23 y24 y25) H := hP
      have hD : va_D A (wS50 cI cJ cZ cB p0 p1 p2 p3 p4 p5 p6 p7 p8 p9 p10 p11 p12 p13 p14 p15 p16 p17 p18 p19 p20 p21 p22 p23 p24 p25 x0_4 x0_5 x0_6 x0_7 x0_8 x0_12 x0_13 x0_14 x0_15 x0_16 x0_17 x0_18 x0_22 x0_23 x0_24 x0_25z109 x0_26z135 x0_27 x0_28 x0_29 x0_30 x0_31 x0_32 x0_36 x0_39 x0_40 x0_44 x0_49 x0_51 x0_53 x0_54z108 x0_55z108 x0_56z108 x0_57z108 x0_58z108 x0_59 x0_60 x0_61 x0_62 y1 y2 y3 y4 y5 y6 y7 y8 y9 y10 y11 y12 y13 y14 y15 y16 y17 y18 y19 y20 y21 y22 y23 y24 y25) := hD
      refine lv_goto (tgt := 140) hx hb d_X_addressPart_45 (by decide) ?_
      refine lv_lconst (v := 0) hx hb d_X_addressPart_140 (by decide) ?_
      exact W.lret (v := (0 : Int64)) hx hb hr (fun t ht hW => ⟨⟨(0 : Int64), (0 : Int64), rfl, rfl, ⟨x0_25z109, x0_26z135, x0_36, x0_51, x0_53, x0_54z108, x0_55z108, x0_56z108, x0_57z108, x0_58z108, x0_59, x0_60, y11, y12, y23, y24, Rx0_25z109, Rx0_26z135, Rx0_36, Rx0_51, (rgw R134 (by decide) (by decide)), Rx0_54z108, Rx0_57z108, Rx0_58z108, Rx0_59, Rx0_60, Ay23, Ay24, (by decide), (by omega), (by omega), (by omega), (by omega), by show va_P D classes _ t.heap; rw [ht]; exact hP, hD⟩⟩, hS.F ht⟩) hS.2.2 d_X_addressPart_141
theorem v_X_addressPart {R : Room} {s : State} {args : Array Value} {own : String} {index : Nat} (hk : ∀ w ∈ tb, w.before args s = true) (hl : Cond.methodLink own index y_X_addressPart ∈ tb) (hR : 6 + 1 ≤ R.frames ∧ 8 + (5 + 11) + 146 ≤ R.locals) : CallW R s args own "SignMachineModel" index y_X_addressPart b_X_addressPart 5 (some .long) (.code y_X_addressPart b_X_addressPart 5 (some .long) :: tb) ({ frames := 6, cells := 0, slots := 0, locals := 146 }) 0 0 0 := mk_v 0 hk k_1694 hl k_1693 k_111 k_119 rfl rfl h_X_addressPart hR

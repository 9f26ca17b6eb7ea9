set_option maxHeartbeats 8000000 in
set_option maxRecDepth 100000 in
theorem c_X_done (l : Launch) (D : va_G) (cI cJ cZ cB : ClassId) (p0 p1 p2 p3 p4 p5 p6 p7 p8 p9 p10 p11 p12 p13 p14 p15 p16 p17 p18 p19 p20 p21 p22 p23 p24 p25 : Nat) (sz : Nat) (x0_4 : Int32) (x0_5 : Int32) (x0_6 : Int32) (x0_7 : Int32) (x0_8 : Int32) (x0_12 : Int32) (x0_13 : Int32) (x0_14 : Int32) (x0_15 : Int32) (x0_16 : Int32) (x0_17 : Int32) (x0_18 : Int32) (x0_22 : Int32) (x0_23 : Int32) (x0_24 : Int32) (x0_25 : Int32) (x0_26 : Int32) (x0_27 : Int32) (x0_28 : Int32) (x0_29 : Int32) (x0_30 : Int32) (x0_31 : Int32) (x0_32 : Int32) (x0_36 : Int32) (x0_39 : Int32) (x0_40 : Int64) (x0_44 : Int32) (x0_49 : Int32) (x0_51 : Int32) (x0_53 : Int32) (x0_54 : Int32) (x0_55 : Int64) (x0_56 : Int32) (x0_57 : Int32) (x0_58 : Int32) (x0_59 : Int32) (x0_60 : Int32) (x0_61 : Int32) (x0_62 : Int64) (y1 : Nat → Int32) (y2 : Nat → Int32) (y3 : Nat → Int32) (y4 : Nat → Int32) (y5 : Nat → Int32) (y6 : Nat → Int32) (y7 : Nat → Int32) (y8 : Nat → Int32) (y9 : Nat → Int32) (y10 : Nat → Int32) (y11 : Nat → Int64) (y12 : Nat → Int32) (y13 : Nat → Int64) (y14 : Nat → Int32) (y15 : Nat → Int64) (y16 : Nat → Int32) (y17 : Nat → Int32) (y18 : Nat → Int32) (y19 : Nat → Int32) (y20 : Nat → Int32) (y21 : Nat → Int32) (y22 : Nat → Int32) (y23 : Nat → Int32) (y24 : Nat → Int64) (y25 : Nat → Int64)  (Rx0_4 : 0 ≤ x0_4.toInt ∧ x0_4.toInt ≤ 4000) (Rx0_12 : 0 ≤ x0_12.toInt ∧ x0_12.toInt ≤ 63) (Rx0_13 : 0 ≤ x0_13.toInt ∧ x0_13.toInt ≤ 63) (Rx0_15 : (-8190) ≤ x0_15.toInt ∧ x0_15.toInt ≤ 8190) (Rx0_16 : 0 ≤ x0_16.toInt ∧ x0_16.toInt ≤ 1) (Rx0_17 : 0 ≤ x0_17.toInt ∧ x0_17.toInt ≤ 1) (Rx0_18 : 0 ≤ x0_18.toInt ∧ x0_18.toInt ≤ 1073741823) (Ay1 : ∀ i : Nat, (0 ≤ (y1 i).toInt ∧ (y1 i).toInt ≤ 1)) (Ay2 : ∀ i : Nat, (0 ≤ (y2 i).toInt ∧ (y2 i).toInt ≤ 1073741823)) (Ay3 : ∀ i : Nat, (0 ≤ (y3 i).toInt ∧ (y3 i).toInt ≤ 1)) (Ay4 : ∀ i : Nat, ((0 ≤ (y4 i).toInt ∧ (y4 i).toInt ≤ 1073741823) ∧ ((1 ≤ (i : Int) ∧ (i : Int) ≤ 6) → (y4 i).toInt ≤ 4095))) (Ay5 : ∀ i : Nat, (0 ≤ (y5 i).toInt ∧ (y5 i).toInt ≤ 1)) (Ay6 : ∀ i : Nat, (0 ≤ (y6 i).toInt ∧ (y6 i).toInt ≤ 1073741823)) (Ay7 : ∀ i : Nat, (0 ≤ (y7 i).toInt ∧ (y7 i).toInt ≤ 40)) (Ay8 : ∀ i : Nat, (0 ≤ (y8 i).toInt ∧ (y8 i).toInt ≤ 63)) (Ay9 : ∀ i : Nat, (0 ≤ (y9 i).toInt ∧ (y9 i).toInt ≤ 63)) (Q0 : x0_4.toInt ≤ 3999) (Q1 : hid ((x0_15.toInt < 0 → x0_16.toInt = 1) ∧ (0 < x0_15.toInt → x0_16.toInt = 0))) (Q2 : hid (((1 ≤ x0_12.toInt ∧ x0_12.toInt ≤ 4) ∨ (8 ≤ x0_12.toInt ∧ x0_12.toInt ≤ 33) ∨ 56 ≤ x0_12.toInt) → (x0_13.toInt / 8 ≤ x0_13.toInt % 8 ∧ x0_13.toInt % 8 ≤ 5))) (Q3 : hid ((34 ≤ x0_12.toInt ∧ x0_12.toInt ≤ 38) → x0_13.toInt ≤ 1)) (Q4 : hid ((((1 ≤ x0_12.toInt ∧ x0_12.toInt ≤ 4) ∨ (8 ≤ x0_12.toInt ∧ x0_12.toInt ≤ 33) ∨ 56 ≤ x0_12.toInt) ∨ x0_12.toInt = 34 ∨ (38 ≤ x0_12.toInt ∧ x0_12.toInt ≤ 47)) → (0 ≤ x0_15.toInt ∧ x0_15.toInt ≤ 3999))) (Q5 : hid ((x0_12.toInt = 7 ∧ 0 < x0_13.toInt) → (0 ≤ x0_15.toInt ∧ x0_15.toInt + x0_13.toInt ≤ 4000 ∧ 0 ≤ rv y3 y4 ((1 : Int32)).toNatClampNeg ∧ rv y3 y4 ((1 : Int32)).toNatClampNeg + x0_13.toInt ≤ 4000))) (Q6 : hid ((x0_12.toInt = 36 ∨ x0_12.toInt = 37) → (0 ≤ x0_15.toInt ∧ x0_15.toInt ≤ 3900))) (Q7 : hid ((8 ≤ x0_12.toInt ∧ x0_12.toInt ≤ 23 ∧ x0_12.toInt % 8 ≠ 0 ∧ x0_12.toInt % 8 ≠ 7) → tvf y2 x0_15 x0_13 ≤ 4095)) (Q8 : hid ((49 ≤ x0_12.toInt ∧ x0_12.toInt ≤ 54 ∧ x0_13.toInt = 0) → (-4095 ≤ rv y3 y4 (x0_12 - (48 : Int32)).toNatClampNeg + x0_15.toInt ∧ rv y3 y4 (x0_12 - (48 : Int32)).toNatClampNeg + x0_15.toInt ≤ 4095))) (Q9 : hid ((49 ≤ x0_12.toInt ∧ x0_12.toInt ≤ 54 ∧ x0_13.toInt = 1) → (-4095 ≤ rv y3 y4 (x0_12 - (48 : Int32)).toNatClampNeg - x0_15.toInt ∧ rv y3 y4 (x0_12 - (48 : Int32)).toNatClampNeg - x0_15.toInt ≤ 4095))) (Q10 : hid ((49 ≤ x0_12.toInt ∧ x0_12.toInt ≤ 54 ∧ 2 ≤ x0_13.toInt) → (-4095 ≤ x0_15.toInt ∧ x0_15.toInt ≤ 4095))) (Q11 : hid (x0_12.toInt = 35 → (x0_15.toInt = 0 ∨ (0 ≤ (y7 (x0_13).toNatClampNeg).toInt + x0_15.toInt ∧ (y7 (x0_13).toNatClampNeg).toInt + x0_15.toInt ≤ 40)))) (Q12 : hid ((x0_12.toInt = 36 ∨ x0_12.toInt = 37) → (y7 (x0_13).toNatClampNeg).toInt ≤ 39)) : Met l y_X_done (.code y_X_done b_X_done 2 (some .boolean) :: tb) ({ frames := 4, cells := 0, slots := 0, locals := 93 }) (pM D cI cJ cZ cB (wS50 cI cJ cZ cB p0 p1 p2 p3 p4 p5 p6 p7 p8 p9 p10 p11 p12 p13 p14 p15 p16 p17 p18 p19 p20 p21 p22 p23 p24 p25 x0_4 x0_5 x0_6 x0_7 x0_8 x0_12 x0_13 x0_14 x0_15 x0_16 x0_17 x0_18 x0_22 x0_23 x0_24 x0_25 x0_26 x0_27 x0_28 x0_29 x0_30 x0_31 x0_32 x0_36 x0_39 x0_40 x0_44 x0_49 x0_51 x0_53 x0_54 x0_55 x0_56 x0_57 x0_58 x0_59 x0_60 x0_61 x0_62 y1 y2 y3 y4 y5 y6 y7 y8 y9 y10 y11 y12 y13 y14 y15 y16 y17 y18 y19 y20 y21 y22 y23 y24 y25) sz [.ref p0]) (va_Qi (fun r (u : Int32) => r = u) (fun ur t => ∃ u_x0_4 : Int32, ∃ u_x0_5 : Int32, ∃ u_x0_6 : Int32, ∃ u_x0_7 : Int32, ∃ u_x0_17 : Int32, ∃ u_x0_18 : Int32, ∃ u_y1 : Nat → Int32, ∃ u_y2 : Nat → Int32, ∃ u_y3 : Nat → Int32, ∃ u_y4 : Nat → Int32, ∃ u_y5 : Nat → Int32, ∃ u_y6 : Nat → Int32, ∃ u_y7 : Nat → Int32, ∃ u_y8 : Nat → Int32, ∃ u_y9 : Nat → Int32, (0 ≤ u_x0_4.toInt ∧ u_x0_4.toInt ≤ 4000) ∧ (0 ≤ u_x0_17.toInt ∧ u_x0_17.toInt ≤ 1) ∧ (0 ≤ u_x0_18.toInt ∧ u_x0_18.toInt ≤ 1073741823) ∧ (∀ i : Nat, (0 ≤ (u_y1 i).toInt ∧ (u_y1 i).toInt ≤ 1)) ∧ (∀ i : Nat, (0 ≤ (u_y2 i).toInt ∧ (u_y2 i).toInt ≤ 1073741823)) ∧ (∀ i : Nat, (0 ≤ (u_y3 i).toInt ∧ (u_y3 i).toInt ≤ 1)) ∧ (∀ i : Nat, ((0 ≤ (u_y4 i).toInt ∧ (u_y4 i).toInt ≤ 1073741823) ∧ ((1 ≤ (i : Int) ∧ (i : Int) ≤ 6) → (u_y4 i).toInt ≤ 4095))) ∧ (∀ i : Nat, (0 ≤ (u_y5 i).toInt ∧ (u_y5 i).toInt ≤ 1)) ∧ (∀ i : Nat, (0 ≤ (u_y6 i).toInt ∧ (u_y6 i).toInt ≤ 1073741823)) ∧ (∀ i : Nat, (0 ≤ (u_y7 i).toInt ∧ (u_y7 i).toInt ≤ 40)) ∧ (∀ i : Nat, (0 ≤ (u_y8 i).toInt ∧ (u_y8 i).toInt ≤ 63)) ∧ (∀ i : Nat, (0 ≤ (u_y9 i).toInt ∧ (u_y9 i).toInt ≤ 63)) ∧ (0 ≤ ur.toInt ∧ ur.toInt ≤ 1) ∧ (ur.toInt = 1 → u_x0_4.toInt ≤ 3999) ∧ va_P D classes (wS50 cI cJ cZ cB p0 p1 p2 p3 p4 p5 p6 p7 p8 p9 p10 p11 p12 p13 p14 p15 p16 p17 p18 p19 p20 p21 p22 p23 p24 p25 u_x0_4 u_x0_5 u_x0_6 u_x0_7 x0_8 x0_12 x0_13 x0_14 x0_15 x0_16 u_x0_17 u_x0_18 x0_22 x0_23 x0_24 x0_25 x0_26 x0_27 x0_28 x0_29 x0_30 x0_31 x0_32 x0_36 x0_39 x0_40 x0_44 x0_49 x0_51 x0_53 x0_54 x0_55 x0_56 x0_57 x0_58 x0_59 x0_60 x0_61 x0_62 u_y1 u_y2 u_y3 u_y4 u_y5 u_y6 u_y7 u_y8 u_y9 y10 y11 y12 y13 y14 y15 y16 y17 y18 y19 y20 y21 y22 y23 y24 y25) t.heap ∧ va_D (va_A (wS50 cI cJ cZ cB p0 p1 p2 p3 p4 p5 p6 p7 p8 p9 p10 p11 p12 p13 p14 p15 p16 p17 p18 p19 p20 p21 p22 p23 p24 p25 x0_4 x0_5 x0_6 x0_7 x0_8 x0_12 x0_13 x0_14 x0_15 x0_16 x0_17 x0_18 x0_22 x0_23 x0_24 x0_25 x0_26 x0_27 x0_28 x0_29 x0_30 x0_31 x0_32 x0_36 x0_39 x0_40 x0_44 x0_49 x0_51 x0_53 x0_54 x0_55 x0_56 x0_57 x0_58 x0_59 x0_60 x0_61 x0_62 y1 y2 y3 y4 y5 y6 y7 y8 y9 y10 y11 y12 y13 y14 y15 y16 y17 y18 y19 y20 y21 y22 y23 y24 y25) sz) (wS50 cI cJ cZ cB p0 p1 p2 p3 p4 p5 p6 p7 p8 p9 p10 p11 p12 p13 p14 p15 p16 p17 p18 p19 p20 p21 p22 p23 p24 p25 u_x0_4 u_x0_5 u_x0_6 u_x0_7 x0_8 x0_12 x0_13 x0_14 x0_15 x0_16 u_x0_17 u_x0_18 x0_22 x0_23 x0_24 x0_25 x0_26 x0_27 x0_28 x0_29 x0_30 x0_31 x0_32 x0_36 x0_39 x0_40 x0_44 x0_49 x0_51 x0_53 x0_54 x0_55 x0_56 x0_57 x0_58 x0_59 x0_60 x0_61 x0_62 u_y1 u_y2 u_y3 u_y4 u_y5 u_y6 u_y7 u_y8 u_y9 y10 y11 y12 y13 y14 y15 y16 y17 y18 y19 y20 y21 y22 y23 y24 y25)) (va_A (wS50 cI cJ cZ cB p0 p1 p2 p3 p4 p5 p6 p7 p8 p9 p10 p11 p12 p13 p14 p15 p16 p17 p18 p19 p20 p21 p22 p23 p24 p25 x0_4 x0_5 x0_6 x0_7 x0_8 x0_12 x0_13 x0_14 x0_15 x0_16 x0_17 x0_18 x0_22 x0_23 x0_24 x0_25 x0_26 x0_27 x0_28 x0_29 x0_30 x0_31 x0_32 x0_36 x0_39 x0_40 x0_44 x0_49 x0_51 x0_53 x0_54 x0_55 x0_56 x0_57 x0_58 x0_59 x0_60 x0_61 x0_62 y1 y2 y3 y4 y5 y6 y7 y8 y9 y10 y11 y12 y13 y14 y15 y16 y17 y18 y19 y20 y21 y22 y23 y24 y25) sz)) 0 0 (va_A (wS50 cI cJ cZ cB p0 p1 p2 p3 p4 p5 p6 p7 p8 p9 p10 p11 p12 p13 p14 p15 p16 p17 p18 p19 p20 p21 p22 p23 p24 p25 x0_4 x0_5 x0_6 x0_7 x0_8 x0_12 x0_13 x0_14 x0_15 x0_16 x0_17 x0_18 x0_22 x0_23 x0_24 x0_25 x0_26 x0_27 x0_28 x0_29 x0_30 x0_31 x0_32 x0_36 x0_39 x0_40 x0_44 x0_49 x0_51 x0_53 x0_54 x0_55 x0_56 x0_57 x0_58 x0_59 x0_60 x0_61 x0_62 y1 y2 y3 y4 y5 y6 y7 y8 y9 y10 y11 y12 y13 y14 y15 y16 y17 y18 y19 y20 y21 y22 y23 y24 y25) sz) := by
  refine Met.ofW (cc := b_X_done) (maxL := 2) (ret := (some .boolean)) (by decide) rfl ?_
  intro p e s m args below meth c s₁ B hml hv
  obtain ⟨rfl, hsz, hK, hP, hD0⟩ := hv
  subst hsz
  have hD := hD0.self (sz := s.heap.size)
  generalize hAe : va_A (wS50 cI cJ cZ cB p0 p1 p2 p3 p4 p5 p6 p7 p8 p9 p10 p11 p12 p13 p14 p15 p16 p17 p18 p19 p20 p21 p22 p23 p24 p25 x0_4 x0_5 x0_6 x0_7 x0_8 x0_12 x0_13 x0_14 x0_15 x0_16 x0_17 x0_18 x0_22 x0_23 x0_24 x0_25 x0_26 x0_27 x0_28 x0_29 x0_30 x0_31 x0_32 x0_36 x0_39 x0_40 x0_44 x0_49 x0_51 x0_53 x0_54 x0_55 x0_56 x0_57 x0_58 x0_59 x0_60 x0_61 x0_62 y1 y2 y3 y4 y5 y6 y7 y8 y9 y10 y11 y12 y13 y14 y15 y16 y17 y18 y19 y20 y21 y22 y23 y24 y25) s.heap.size = A at hD ⊢
  have hA : ∀ q : Nat, s.heap.size ≤ q → A q := fun q h => by rw [← hAe]; exact Or.inr h
  clear hAe hD0
  have hS : va_S A s.heap s.heap [] := va_S.rf
  have hx := B.exec
  have hb := B.bytes
  have hr := B.returns
  have hts := atoms_spec (ws := .code y_X_done b_X_done 2 (some .boolean) :: tb) B.pre
  have hk : ∀ w ∈ tb, w.before [.ref p0].toArray s = true := fun w h => hts w (List.mem_cons_of_mem _ h)
  have hown : s.vm.findClass "SignMachineModel" = some m.cls := findClass_of_methodNamed B.named
  have hlocks := B.notSynchronized
  have hl := lv_entry ([.ref p0]) (n := 2) (Nat.le_of_ble_eq_true rfl)
  rw [lg_entry_eq]
  generalize (lg_sl ([.ref p0]) ++ List.replicate (2 - (lg_sl ([.ref p0])).length) Slot.unset).toArray = ls at hl ⊢
  have hl : lv_has ls 2 [(0, .ref p0)] := hl
  clear hts B
  refine lv_aload_n hx hb d_X_done_0 rfl (lv_at hl 0 rfl) ?_
  refine va_get (D := D) (ci := 7) (v := .int x0_12) (C := "SignMachineModel") (T := F_X) (N := 64) hx hb hk fi_X hown hK.1 hP 0 rfl rfl 12 (by decide) (hk _ k_1133) (fun _ h9 => h9) rfl d_X_done_1 ?_
  refine lv_bipush (v := 39) hx hb d_X_done_4 (by decide) ?_
  refine lv_icmp_lt (tgt := 57) hx hb d_X_done_6 (by decide) (fun c1 => ?_) (fun c1 => ?_)
  · have gc1 : x0_12.toInt < (39 : Int) := c_lt c1
    have R2 : 0 ≤ x0_12.toInt ∧ x0_12.toInt ≤ 38 := rf_ltX Rx0_12 (show 39 ≤ (39 : Int) ∧ (39 : Int) ≤ 39 from by decide) gc1 (by decide) (by decide)
    refine lv_aload_n hx hb d_X_done_57 rfl (lv_at hl 0 rfl) ?_
    refine va_get (D := D) (ci := 7) (v := .int x0_12) (C := "SignMachineModel") (T := F_X) (N := 64) hx hb hk fi_X hown hK.1 hP 0 rfl rfl 12 (by decide) (hk _ k_1133) (fun _ h9 => h9) rfl d_X_done_58 ?_
    refine lv_bipush (v := 34) hx hb d_X_done_61 (by decide) ?_
    refine lv_icmp_eq (tgt := 75) hx hb d_X_done_63 (by decide) (fun c3 => ?_) (fun c3 => ?_)
    · have gc3 : x0_12.toInt = (34 : Int) := c_eq c3
      have R4 : 34 ≤ x0_12.toInt ∧ x0_12.toInt ≤ 34 := rf_eqX R2 (show 34 ≤ (34 : Int) ∧ (34 : Int) ≤ 34 from by decide) gc3 (by decide) (by decide)
      refine lv_aload_n hx hb d_X_done_75 rfl (lv_at hl 0 rfl) ?_
      refine lv_iconst (v := 1) hx hb d_X_done_76 (by decide) ?_
      refine kn_v (va_runV (C := "SignMachineModel") (As := [.int (1 : Int32)]) (rest := []) ⟨hx, hb, hml, hown, hk⟩ (c_X_passes l D cI cJ cZ cB p0 p1 p2 p3 p4 p5 p6 p7 p8 p9 p10 p11 p12 p13 p14 p15 p16 p17 p18 p19 p20 p21 p22 p23 p24 p25 s.heap.size x0_4 x0_5 x0_6 x0_7 x0_8 x0_12 x0_13 x0_14 x0_15 x0_16 x0_17 x0_18 x0_22 x0_23 x0_24 x0_25 x0_26 x0_27 x0_28 x0_29 x0_30 x0_31 x0_32 x0_36 x0_39 x0_40 x0_44 x0_49 x0_51 x0_53 x0_54 x0_55 x0_56 x0_57 x0_58 x0_59 x0_60 x0_61 x0_62 y1 y2 y3 y4 y5 y6 y7 y8 y9 y10 y11 y12 y13 y14 y15 y16 y17 y18 y19 y20 y21 y22 y23 y24 y25 (1 : Int32) ) (v_X_passes hk k_1428 ⟨Nat.le_of_ble_eq_true rfl, Nat.le_of_ble_eq_true rfl⟩) (pM_v hK hP hD (ci := 7) (q0 := 0) rfl rfl rfl) rfl rfl hl.1 rfl (lv_room (Nat.le_of_ble_eq_true rfl)) d_X_done_77 ⟨Nat.le_of_ble_eq_true rfl, Nat.le_of_ble_eq_true rfl⟩) hS hA hD (fun u t H locs ht hB hFr hS => ?_)
      obtain ⟨x0_7z5, hP, hD⟩ := hB
      rw [ht] at hP
      have hD := dwk hD hFr
      clear ht hFr
      have hP : va_P D classes (wS50 cI cJ cZ cB p0 p1 p2 p3 p4 p5 p6 p7 p8 p9 p10 p11 p12 p13 p14 p15 p16 p17 p18 p19 p20 p21 p22 p23 p24 p25 x0_4 x0_5 x0_6 x0_7z5 x0_8 x0_12 x0_13 x0_14 x0_15 x0_16 x0_17 x0_18 x0_22 x0_23 x0_24 x0_25 x0_26 x0_27 x0_28 x0_29 x0_30 x0_31 x0_32 x0_36 x0_39 x0_40 x0_44 x0_49 x0_51 x0_53 x0_54 x0_55 x0_56 x0_57 x0_58 x0_59 x0_60 x0_61 x0_62 y1 y2 y3 y4 y5 y6 y7 y8 y9 y10 y11 y12 y13 y14 y15 y16 y17 y18 y19 y20 y21 y22 y23 y24 y25) H := hP
      have hD : va_D A (wS50 cI cJ cZ cB p0 p1 p2 p3 p4 p5 p6 p7 p8 p9 p10 p11 p12 p13 p14 p15 p16 p17 p18 p19 p20 p21 p22 p23 p24 p25 x0_4 x0_5 x0_6 x0_7z5 x0_8 x0_12 x0_13 x0_14 x0_15 x0_16 x0_17 x0_18 x0_22 x0_23 x0_24 x0_25 x0_26 x0_27 x0_28 x0_29 x0_30 x0_31 x0_32 x0_36 x0_39 x0_40 x0_44 x0_49 x0_51 x0_53 x0_54 x0_55 x0_56 x0_57 x0_58 x0_59 x0_60 x0_61 x0_62 y1 y2 y3 y4 y5 y6 y7 y8 y9 y10 y11 y12 y13 y14 y15 y16 y17 y18 y19 y20 y21 y22 y23 y24 y25) := hD
      refine lv_aload_n hx hb d_X_done_80 rfl (lv_at hl 0 rfl) ?_
      refine lv_aload_n hx hb d_X_done_81 rfl (lv_at hl 0 rfl) ?_
      refine va_get (D := D) (ci := 7) (v := .int x0_12) (C := "SignMachineModel") (T := F_X) (N := 64) hx hb hk fi_X hown hK.1 hP 0 rfl rfl 12 (by decide) (hk _ k_1133) (fun _ h9 => h9) rfl d_X_done_82 ?_
      refine lv_bipush (v := 38) hx hb d_X_done_85 (by decide) ?_
      refine lv_icmp_ne (tgt := 94) hx hb d_X_done_87 (by decide) (fun c6 => ?_) (fun c6 => absurd c6 (show ¬ x0_12 = (38 : Int32) from (fun q9 => (knE R4 (show 38 ≤ (38 : Int) ∧ (38 : Int) ≤ 38 from by decide) (by decide)) (c_eq q9))))
      refine lv_iconst (v := 0) hx hb d_X_done_94 (by decide) ?_
      refine lv_iconst (v := 0) hx hb d_X_done_95 (by decide) ?_
      refine kn_v (va_runV (C := "SignMachineModel") (As := [.int (0 : Int32), .int (0 : Int32)]) (rest := []) ⟨hx, hb, hml, hown, hk⟩ (c_X_goTo l D cI cJ cZ cB p0 p1 p2 p3 p4 p5 p6 p7 p8 p9 p10 p11 p12 p13 p14 p15 p16 p17 p18 p19 p20 p21 p22 p23 p24 p25 H.size x0_4 x0_5 x0_6 x0_7z5 x0_8 x0_12 x0_13 x0_14 x0_15 x0_16 x0_17 x0_18 x0_22 x0_23 x0_24 x0_25 x0_26 x0_27 x0_28 x0_29 x0_30 x0_31 x0_32 x0_36 x0_39 x0_40 x0_44 x0_49 x0_51 x0_53 x0_54 x0_55 x0_56 x0_57 x0_58 x0_59 x0_60 x0_61 x0_62 y1 y2 y3 y4 y5 y6 y7 y8 y9 y10 y11 y12 y13 y14 y15 y16 y17 y18 y19 y20 y21 y22 y23 y24 y25 (0 : Int32) (0 : Int32) Rx0_4 Rx0_15 Ay4 (show x0_4.toInt ≤ 3999 from by omega) (fun _ => Q4 (by omega)) (by decide) (by decide)) (v_X_goTo hk k_1441 ⟨Nat.le_of_ble_eq_true rfl, Nat.le_of_ble_eq_true rfl⟩) (pM_v hK hP hD (ci := 7) (q0 := 0) rfl rfl rfl) rfl rfl hl.1 rfl (lv_room (Nat.le_of_ble_eq_true rfl)) d_X_done_96 ⟨Nat.le_of_ble_eq_true rfl, Nat.le_of_ble_eq_true rfl⟩) hS hA hD (fun u t H locs ht hB hFr hS => ?_)
      obtain ⟨x0_4z7, y4z7, Rx0_4z7, Ay4z7, hP, hD⟩ := hB
      rw [ht] at hP
      have hD := dwk hD hFr
      clear ht hFr
      have hP : va_P D classes (wS50 cI cJ cZ cB p0 p1 p2 p3 p4 p5 p6 p7 p8 p9 p10 p11 p12 p13 p14 p15 p16 p17 p18 p19 p20 p21 p22 p23 p24 p25 x0_4z7 x0_5 x0_6 x0_7z5 x0_8 x0_12 x0_13 x0_14 x0_15 x0_16 x0_17 x0_18 x0_22 x0_23 x0_24 x0_25 x0_26 x0_27 x0_28 x0_29 x0_30 x0_31 x0_32 x0_36 x0_39 x0_40 x0_44 x0_49 x0_51 x0_53 x0_54 x0_55 x0_56 x0_57 x0_58 x0_59 x0_60 x0_61 x0_62 y1 y2 y3 y4z7 y5 y6 y7 y8 y9 y10 y11 y12 y13 y14 y15 y16 y17 y18 y19 y20 y21 y22 y23 y24 y25) H := hP
      have hD : va_D A (wS50 cI cJ cZ cB p0 p1 p2 p3 p4 p5 p6 p7 p8 p9 p10 p11 p12 p13 p14 p15 p16 p17 p18 p19 p20 p21 p22 p23 p24 p25 x0_4z7 x0_5 x0_6 x0_7z5 x0_8 x0_12 x0_13 x0_14 x0_15 x0_16 x0_17 x0_18 x0_22 x0_23 x0_24 x0_25 x0_26 x0_27 x0_28 x0_29 x0_30 x0_31 x0_32 x0_36 x0_39 x0_40 x0_44 x0_49 x0_51 x0_53 x0_54 x0_55 x0_56 x0_57 x0_58 x0_59 x0_60 x0_61 x0_62 y1 y2 y3 y4z7 y5 y6 y7 y8 y9 y10 y11 y12 y13 y14 y15 y16 y17 y18 y19 y20 y21 y22 y23 y24 y25) := hD
      refine lv_iconst (v := 0) hx hb d_X_done_99 (by decide) ?_
      exact W.zret (v := (0 : Int32)) hx hb hr (nar01 (by decide)) (fun t ht hW => ⟨⟨(0 : Int32), (0 : Int32), rfl, rfl, ⟨x0_4z7, x0_5, x0_6, x0_7z5, x0_17, x0_18, y1, y2, y3, y4z7, y5, y6, y7, y8, y9, Rx0_4z7, Rx0_17, Rx0_18, Ay1, Ay2, Ay3, Ay4z7, Ay5, Ay6, Ay7, Ay8, Ay9, (by decide), (show (0 : Int) = 1 → x0_4z7.toInt ≤ 3999 from by omega), by show va_P D classes _ t.heap; rw [ht]; exact hP, hD⟩⟩, hS.F ht⟩) hS.2.2 d_X_done_100
    · have gc3 : x0_12.toInt ≠ (34 : Int) := c_ne c3
      refine lv_aload_n hx hb d_X_done_66 rfl (lv_at hl 0 rfl) ?_
      refine va_get (D := D) (ci := 7) (v := .int x0_12) (C := "SignMachineModel") (T := F_X) (N := 64) hx hb hk fi_X hown hK.1 hP 0 rfl rfl 12 (by decide) (hk _ k_1133) (fun _ h9 => h9) rfl d_X_done_67 ?_
      refine lv_bipush (v := 38) hx hb d_X_done_70 (by decide) ?_
      refine lv_icmp_ne (tgt := 101) hx hb d_X_done_72 (by decide) (fun c8 => ?_) (fun c8 => ?_)
      · have gc8 : x0_12.toInt ≠ (38 : Int) := c_ne c8
        have R9 : 0 ≤ x0_12.toInt ∧ x0_12.toInt ≤ 37 := rf_neX R2 (show 38 ≤ (38 : Int) ∧ (38 : Int) ≤ 38 from by decide) gc8 (by decide) (by decide)
        refine lv_aload_n hx hb d_X_done_101 rfl (lv_at hl 0 rfl) ?_
        refine va_get (D := D) (ci := 7) (v := .int x0_12) (C := "SignMachineModel") (T := F_X) (N := 64) hx hb hk fi_X hown hK.1 hP 0 rfl rfl 12 (by decide) (hk _ k_1133) (fun _ h9 => h9) rfl d_X_done_102 ?_
        refine lv_bipush (v := 56) hx hb d_X_done_105 (by decide) ?_
        refine lv_icmp_lt (tgt := 129) hx hb d_X_done_107 (by decide) (fun c10 => ?_) (fun c10 => absurd (show x0_12 < (56 : Int32) from (Int32.lt_iff_toInt_lt.mpr (klt R9 (show 56 ≤ (56 : Int) ∧ (56 : Int) ≤ 56 from by decide) (by decide)))) c10)
        refine lv_aload_n hx hb d_X_done_129 rfl (lv_at hl 0 rfl) ?_
        refine va_get (D := D) (ci := 7) (v := .int x0_12) (C := "SignMachineModel") (T := F_X) (N := 64) hx hb hk fi_X hown hK.1 hP 0 rfl rfl 12 (by decide) (hk _ k_1133) (fun _ h9 => h9) rfl d_X_done_130 ?_
        refine lv_bipush (v := 48) hx hb d_X_done_133 (by decide) ?_
        refine lv_icmp_lt (tgt := 157) hx hb d_X_done_135 (by decide) (fun c11 => ?_) (fun c11 => absurd (show x0_12 < (48 : Int32) from (Int32.lt_iff_toInt_lt.mpr (klt R9 (show 48 ≤ (48 : Int) ∧ (48 : Int) ≤ 48 from by decide) (by decide)))) c11)
        refine lv_aload_n hx hb d_X_done_157 rfl (lv_at hl 0 rfl) ?_
        refine va_get (D := D) (ci := 7) (v := .int x0_12) (C := "SignMachineModel") (T := F_X) (N := 64) hx hb hk fi_X hown hK.1 hP 0 rfl rfl 12 (by decide) (hk _ k_1133) (fun _ h9 => h9) rfl d_X_done_158 ?_
        refine lv_bipush (v := 35) hx hb d_X_done_161 (by decide) ?_
        refine lv_icmp_lt (tgt := 178) hx hb d_X_done_163 (by decide) (fun c12 => ?_) (fun c12 => ?_)
        · have gc12 : x0_12.toInt < (35 : Int) := c_lt c12
          have R13 : 0 ≤ x0_12.toInt ∧ x0_12.toInt ≤ 34 := rf_ltX R9 (show 35 ≤ (35 : Int) ∧ (35 : Int) ≤ 35 from by decide) gc12 (by decide) (by decide)
          refine lv_aload_n hx hb d_X_done_178 rfl (lv_at hl 0 rfl) ?_
          refine va_get (D := D) (ci := 7) (v := .int x0_12) (C := "SignMachineModel") (T := F_X) (N := 64) hx hb hk fi_X hown hK.1 hP 0 rfl rfl 12 (by decide) (hk _ k_1133) (fun _ h9 => h9) rfl d_X_done_179 ?_
          refine lv_bipush (v := 24) hx hb d_X_done_182 (by decide) ?_
          refine lv_icmp_lt (tgt := 239) hx hb d_X_done_184 (by decide) (fun c14 => ?_) (fun c14 => ?_)
          · have gc14 : x0_12.toInt < (24 : Int) := c_lt c14
            have R15 : 0 ≤ x0_12.toInt ∧ x0_12.toInt ≤ 23 := rf_ltX R13 (show 24 ≤ (24 : Int) ∧ (24 : Int) ≤ 24 from by decide) gc14 (by decide) (by decide)
            refine lv_aload_n hx hb d_X_done_239 rfl (lv_at hl 0 rfl) ?_
            refine va_get (D := D) (ci := 7) (v := .int x0_12) (C := "SignMachineModel") (T := F_X) (N := 64) hx hb hk fi_X hown hK.1 hP 0 rfl rfl 12 (by decide) (hk _ k_1133) (fun _ h9 => h9) rfl d_X_done_240 ?_
            refine lv_bipush (v := 8) hx hb d_X_done_243 (by decide) ?_
            refine lv_icmp_lt (tgt := 310) hx hb d_X_done_245 (by decide) (fun c16 => ?_) (fun c16 => ?_)
            · have gc16 : x0_12.toInt < (8 : Int) := c_lt c16
              have R17 : 0 ≤ x0_12.toInt ∧ x0_12.toInt ≤ 7 := rf_ltX R15 (show 8 ≤ (8 : Int) ∧ (8 : Int) ≤ 8 from by decide) gc16 (by decide) (by decide)
              refine lv_aload_n hx hb d_X_done_310 rfl (lv_at hl 0 rfl) ?_
              refine kn_v (va_runV (C := "SignMachineModel") (As := []) (rest := []) ⟨hx, hb, hml, hown, hk⟩ (c_X_doFirst l D cI cJ cZ cB p0 p1 p2 p3 p4 p5 p6 p7 p8 p9 p10 p11 p12 p13 p14 p15 p16 p17 p18 p19 p20 p21 p22 p23 p24 p25 s.heap.size x0_4 x0_5 x0_6 x0_7 x0_8 x0_12 x0_13 x0_14 x0_15 x0_16 x0_17 x0_18 x0_22 x0_23 x0_24 x0_25 x0_26 x0_27 x0_28 x0_29 x0_30 x0_31 x0_32 x0_36 x0_39 x0_40 x0_44 x0_49 x0_51 x0_53 x0_54 x0_55 x0_56 x0_57 x0_58 x0_59 x0_60 x0_61 x0_62 y1 y2 y3 y4 y5 y6 y7 y8 y9 y10 y11 y12 y13 y14 y15 y16 y17 y18 y19 y20 y21 y22 y23 y24 y25  (rgw R17 (by decide) (by decide)) Rx0_13 Rx0_15 Rx0_17 Rx0_18 Ay1 Ay2 Ay3 Ay4 Ay8 Ay9 (show x0_12.toInt ≤ 7 from by omega) (Q2) (Q4) (Q5)) (v_X_doFirst hk k_1474 ⟨Nat.le_of_ble_eq_true rfl, Nat.le_of_ble_eq_true rfl⟩) (pM_v hK hP hD (ci := 7) (q0 := 0) rfl rfl rfl) rfl rfl hl.1 rfl (lv_room (Nat.le_of_ble_eq_true rfl)) d_X_done_311 ⟨Nat.le_of_ble_eq_true rfl, Nat.le_of_ble_eq_true rfl⟩) hS hA hD (fun u t H locs ht hB hFr hS => ?_)
              obtain ⟨x0_5z18, x0_7z18, x0_17z18, x0_18z18, y1z18, y2z18, y3z18, y4z18, y8z18, y9z18, Rx0_17z18, Rx0_18z18, Ay1z18, Ay2z18, Ay3z18, Ay4z18, Ay8z18, Ay9z18, hP, hD⟩ := hB
              rw [ht] at hP
              have hD := dwk hD hFr
              clear ht hFr
              have hP : va_P D classes (wS50 cI cJ cZ cB p0 p1 p2 p3 p4 p5 p6 p7 p8 p9 p10 p11 p12 p13 p14 p15 p16 p17 p18 p19 p20 p21 p22 p23 p24 p25 x0_4 x0_5z18 x0_6 x0_7z18 x0_8 x0_12 x0_13 x0_14 x0_15 x0_16 x0_17z18 x0_18z18 x0_22 x0_23 x0_24 x0_25 x0_26 x0_27 x0_28 x0_29 x0_30 x0_31 x0_32 x0_36 x0_39 x0_40 x0_44 x0_49 x0_51 x0_53 x0_54 x0_55 x0_56 x0_57 x0_58 x0_59 x0_60 x0_61 x0_62 y1z18 y2z18 y3z18 y4z18 y5 y6 y7 y8z18 y9z18 y10 y11 y12 y13 y14 y15 y16 y17 y18 y19 y20 y21 y22 y23 y24 y25) H := hP
              have hD : va_D A (wS50 cI cJ cZ cB p0 p1 p2 p3 p4 p5 p6 p7 p8 p9 p10 p11 p12 p13 p14 p15 p16 p17 p18 p19 p20 p21 p22 p23 p24 p25 x0_4 x0_5z18 x0_6 x0_7z18 x0_8 x0_12 x0_13 x0_14 x0_15 x0_16 x0_17z18 x0_18z18 x0_22 x0_23 x0_24 x0_25 x0_26 x0_27 x0_28 x0_29 x0_30 x0_31 x0_32 x0_36 x0_39 x0_40 x0_44 x0_49 x0_51 x0_53 x0_54 x0_55 x0_56 x0_57 x0_58 x0_59 x0_60 x0_61 x0_62 y1z18 y2z18 y3z18 y4z18 y5 y6 y7 y8z18 y9z18 y10 y11 y12 y13 y14 y15 y16 y17 y18 y19 y20 y21 y22 y23 y24 y25) := hD
              refine lv_iconst (v := 1) hx hb d_X_done_314 (by decide) ?_
              exact W.zret (v := (1 : Int32)) hx hb hr (nar01 (by decide)) (fun t ht hW => ⟨⟨(1 : Int32), (1 : Int32), rfl, rfl, ⟨x0_4, x0_5z18, x0_6, x0_7z18, x0_17z18, x0_18z18, y1z18, y2z18, y3z18, y4z18, y5, y6, y7, y8z18, y9z18, Rx0_4, Rx0_17z18, Rx0_18z18, Ay1z18, Ay2z18, Ay3z18, Ay4z18, Ay5, Ay6, Ay7, Ay8z18, Ay9z18, (by decide), (show (1 : Int) = 1 → x0_4.toInt ≤ 3999 from by omega), by show va_P D classes _ t.heap; rw [ht]; exact hP, hD⟩⟩, hS.F ht⟩) hS.2.2 d_X_done_315
            · have gc16 : (8 : Int) ≤ x0_12.toInt := c_nlt c16
              have R19 : 8 ≤ x0_12.toInt ∧ x0_12.toInt ≤ 23 := rf_geX R15 (show 8 ≤ (8 : Int) ∧ (8 : Int) ≤ 8 from by decide) gc16 (by decide) (by decide)
              refine lv_aload_n hx hb d_X_done_248 rfl (lv_at hl 0 rfl) ?_
              refine lv_iconst (v := 2) hx hb d_X_done_249 (by decide) ?_
              refine kn_v (va_runV (C := "SignMachineModel") (As := [.int (2 : Int32)]) (rest := []) ⟨hx, hb, hml, hown, hk⟩ (c_X_passes l D cI cJ cZ cB p0 p1 p2 p3 p4 p5 p6 p7 p8 p9 p10 p11 p12 p13 p14 p15 p16 p17 p18 p19 p20 p21 p22 p23 p24 p25 s.heap.size x0_4 x0_5 x0_6 x0_7 x0_8 x0_12 x0_13 x0_14 x0_15 x0_16 x0_17 x0_18 x0_22 x0_23 x0_24 x0_25 x0_26 x0_27 x0_28 x0_29 x0_30 x0_31 x0_32 x0_36 x0_39 x0_40 x0_44 x0_49 x0_51 x0_53 x0_54 x0_55 x0_56 x0_57 x0_58 x0_59 x0_60 x0_61 x0_62 y1 y2 y3 y4 y5 y6 y7 y8 y9 y10 y11 y12 y13 y14 y15 y16 y17 y18 y19 y20 y21 y22 y23 y24 y25 (2 : Int32) ) (v_X_passes hk k_1428 ⟨Nat.le_of_ble_eq_true rfl, Nat.le_of_ble_eq_true rfl⟩) (pM_v hK hP hD (ci := 7) (q0 := 0) rfl rfl rfl) rfl rfl hl.1 rfl (lv_room (Nat.le_of_ble_eq_true rfl)) d_X_done_250 ⟨Nat.le_of_ble_eq_true rfl, Nat.le_of_ble_eq_true rfl⟩) hS hA hD (fun u t H locs ht hB hFr hS => ?_)
              obtain ⟨x0_7z20, hP, hD⟩ := hB
              rw [ht] at hP
              have hD := dwk hD hFr
              clear ht hFr
              have hP : va_P D classes (wS50 cI cJ cZ cB p0 p1 p2 p3 p4 p5 p6 p7 p8 p9 p10 p11 p12 p13 p14 p15 p16 p17 p18 p19 p20 p21 p22 p23 p24 p25 x0_4 x0_5 x0_6 x0_7z20 x0_8 x0_12 x0_13 x0_14 x0_15 x0_16 x0_17 x0_18 x0_22 x0_23 x0_24 x0_25 x0_26 x0_27 x0_28 x0_29 x0_30 x0_31 x0_32 x0_36 x0_39 x0_40 x0_44 x0_49 x0_51 x0_53 x0_54 x0_55 x0_56 x0_57 x0_58 x0_59 x0_60 x0_61 x0_62 y1 y2 y3 y4 y5 y6 y7 y8 y9 y10 y11 y12 y13 y14 y15 y16 y17 y18 y19 y20 y21 y22 y23 y24 y25) H := hP
              have hD : va_D A (wS50 cI cJ cZ cB p0 p1 p2 p3 p4 p5 p6 p7 p8 p9 p10 p11 p12 p13 p14 p15 p16 p17 p18 p19 p20 p21 p22 p23 p24 p25 x0_4 x0_5 x0_6 x0_7z20 x0_8 x0_12 x0_13 x0_14 x0_15 x0_16 x0_17 x0_18 x0_22 x0_23 x0_24 x0_25 x0_26 x0_27 x0_28 x0_29 x0_30 x0_31 x0_32 x0_36 x0_39 x0_40 x0_44 x0_49 x0_51 x0_53 x0_54 x0_55 x0_56 x0_57 x0_58 x0_59 x0_60 x0_61 x0_62 y1 y2 y3 y4 y5 y6 y7 y8 y9 y10 y11 y12 y13 y14 y15 y16 y17 y18 y19 y20 y21 y22 y23 y24 y25) := hD
              refine lv_aload_n hx hb d_X_done_253 rfl (lv_at hl 0 rfl) ?_
              refine kn_v (va_runV (C := "SignMachineModel") (As := []) (rest := []) ⟨hx, hb, hml, hown, hk⟩ (c_X_takeValue l D cI cJ cZ cB p0 p1 p2 p3 p4 p5 p6 p7 p8 p9 p10 p11 p12 p13 p14 p15 p16 p17 p18 p19 p20 p21 p22 p23 p24 p25 H.size x0_4 x0_5 x0_6 x0_7z20 x0_8 x0_12 x0_13 x0_14 x0_15 x0_16 x0_17 x0_18 x0_22 x0_23 x0_24 x0_25 x0_26 x0_27 x0_28 x0_29 x0_30 x0_31 x0_32 x0_36 x0_39 x0_40 x0_44 x0_49 x0_51 x0_53 x0_54 x0_55 x0_56 x0_57 x0_58 x0_59 x0_60 x0_61 x0_62 y1 y2 y3 y4 y5 y6 y7 y8 y9 y10 y11 y12 y13 y14 y15 y16 y17 y18 y19 y20 y21 y22 y23 y24 y25  Rx0_13 Rx0_15 Rx0_17 Rx0_18 Ay1 Ay2 (Q4 (by omega)) (Q2 (by omega))) (v_X_takeValue hk k_1408 ⟨Nat.le_of_ble_eq_true rfl, Nat.le_of_ble_eq_true rfl⟩) (pM_v hK hP hD (ci := 7) (q0 := 0) rfl rfl rfl) rfl rfl hl.1 rfl (lv_room (Nat.le_of_ble_eq_true rfl)) d_X_done_254 ⟨Nat.le_of_ble_eq_true rfl, Nat.le_of_ble_eq_true rfl⟩) hS hA hD (fun u t H locs ht hB hFr hS => ?_)
              obtain ⟨x0_17z21, x0_18z21, Rx0_17z21, Rx0_18z21, F0z21, hP, hD⟩ := hB
              have F0z21 : x0_18z21.toInt = tvf y2 x0_15 x0_13 := F0z21
              rw [ht] at hP
              have hD := dwk hD hFr
              clear ht hFr
              have hP : va_P D classes (wS50 cI cJ cZ cB p0 p1 p2 p3 p4 p5 p6 p7 p8 p9 p10 p11 p12 p13 p14 p15 p16 p17 p18 p19 p20 p21 p22 p23 p24 p25 x0_4 x0_5 x0_6 x0_7z20 x0_8 x0_12 x0_13 x0_14 x0_15 x0_16 x0_17z21 x0_18z21 x0_22 x0_23 x0_24 x0_25 x0_26 x0_27 x0_28 x0_29 x0_30 x0_31 x0_32 x0_36 x0_39 x0_40 x0_44 x0_49 x0_51 x0_53 x0_54 x0_55 x0_56 x0_57 x0_58 x0_59 x0_60 x0_61 x0_62 y1 y2 y3 y4 y5 y6 y7 y8 y9 y10 y11 y12 y13 y14 y15 y16 y17 y18 y19 y20 y21 y22 y23 y24 y25) H := hP
              have hD : va_D A (wS50 cI cJ cZ cB p0 p1 p2 p3 p4 p5 p6 p7 p8 p9 p10 p11 p12 p13 p14 p15 p16 p17 p18 p19 p20 p21 p22 p23 p24 p25 x0_4 x0_5 x0_6 x0_7z20 x0_8 x0_12 x0_13 x0_14 x0_15 x0_16 x0_17z21 x0_18z21 x0_22 x0_23 x0_24 x0_25 x0_26 x0_27 x0_28 x0_29 x0_30 x0_31 x0_32 x0_36 x0_39 x0_40 x0_44 x0_49 x0_51 x0_53 x0_54 x0_55 x0_56 x0_57 x0_58 x0_59 x0_60 x0_61 x0_62 y1 y2 y3 y4 y5 y6 y7 y8 y9 y10 y11 y12 y13 y14 y15 y16 y17 y18 y19 y20 y21 y22 y23 y24 y25) := hD
              have w7 : (8 ≤ x0_12.toInt ∧ x0_12.toInt ≤ 23 ∧ x0_12.toInt % 8 ≠ 0 ∧ x0_12.toInt % 8 ≠ 7) → tvf y2 x0_15 x0_13 ≤ 4095 := Q7
              refine lv_aload_n hx hb d_X_done_257 rfl (lv_at hl 0 rfl) ?_
              refine va_get (D := D) (ci := 7) (v := .ref p3) (C := "SignMachineModel") (T := F_X) (N := 64) hx hb hk fi_X hown hK.1 hP 0 rfl rfl 2 (by decide) (hk _ k_1123) (fun _ h9 => h9) rfl d_X_done_258 ?_
              refine lv_aload_n hx hb d_X_done_261 rfl (lv_at hl 0 rfl) ?_
              refine va_get (D := D) (ci := 7) (v := .int x0_12) (C := "SignMachineModel") (T := F_X) (N := 64) hx hb hk fi_X hown hK.1 hP 0 rfl rfl 12 (by decide) (hk _ k_1133) (fun _ h9 => h9) rfl d_X_done_262 ?_
              refine lv_bipush (v := 8) hx hb d_X_done_265 (by decide) ?_
              refine lv_irem hx hb d_X_done_267 (by decide) ?_
              refine lv_topi (fun v22 hv22 => ?_)
              obtain ⟨ev22, lv22, Rv22⟩ : v22.toInt = x0_12.toInt % (8 : Int) ∧ v22.toInt < (8 : Int) ∧ (0 ≤ v22.toInt ∧ v22.toInt ≤ 7) := rm3 hv22 R19 (show 8 ≤ (8 : Int32).toInt ∧ (8 : Int32).toInt ≤ 8 from by decide) (by decide) (by decide) (by decide)
              refine lv_aload_n hx hb d_X_done_268 rfl (lv_at hl 0 rfl) ?_
              refine va_get (D := D) (ci := 7) (v := .int x0_12) (C := "SignMachineModel") (T := F_X) (N := 64) hx hb hk fi_X hown hK.1 hP 0 rfl rfl 12 (by decide) (hk _ k_1133) (fun _ h9 => h9) rfl d_X_done_269 ?_
              refine lv_bipush (v := 16) hx hb d_X_done_272 (by decide) ?_
              refine lv_icmp_ge (tgt := 284) hx hb d_X_done_274 (by decide) (fun c23 => ?_) (fun c23 => ?_)
              · have gc23 : (16 : Int) ≤ x0_12.toInt := c_le c23
                have R24 : 16 ≤ x0_12.toInt ∧ x0_12.toInt ≤ 23 := rf_geX R19 (show 16 ≤ (16 : Int) ∧ (16 : Int) ≤ 16 from by decide) gc23 (by decide) (by decide)
                refine lv_iconst (v := 1) hx hb d_X_done_284 (by decide) ?_
                refine lv_aload_n hx hb d_X_done_285 rfl (lv_at hl 0 rfl) ?_
                refine va_get (D := D) (ci := 7) (v := .int x0_17z21) (C := "SignMachineModel") (T := F_X) (N := 64) hx hb hk fi_X hown hK.1 hP 0 rfl rfl 17 (by decide) (hk _ k_1138) (fun _ h9 => h9) rfl d_X_done_286 ?_
                refine lv_isub hx hb d_X_done_289 ?_
                refine lv_topi (fun v25 hv25 => ?_)
                obtain ⟨ev25, Rv25⟩ : v25.toInt = (1 : Int) - x0_17z21.toInt ∧ (0 ≤ v25.toInt ∧ v25.toInt ≤ 1) := sb3 hv25 (show 1 ≤ (1 : Int32).toInt ∧ (1 : Int32).toInt ≤ 1 from by decide) Rx0_17z21 (by decide) (by decide) (by decide) (by decide)
                refine va_iast hx hb hK.1 hP hD hS 3 0 rfl rfl (vpb Rv22 (by decide) (by decide)) d_X_done_290 (fun H locs hP hD hS => ?_)
                have hP : va_P D classes (wS50 cI cJ cZ cB p0 p1 p2 p3 p4 p5 p6 p7 p8 p9 p10 p11 p12 p13 p14 p15 p16 p17 p18 p19 p20 p21 p22 p23 p24 p25 x0_4 x0_5 x0_6 x0_7z20 x0_8 x0_12 x0_13 x0_14 x0_15 x0_16 x0_17z21 x0_18z21 x0_22 x0_23 x0_24 x0_25 x0_26 x0_27 x0_28 x0_29 x0_30 x0_31 x0_32 x0_36 x0_39 x0_40 x0_44 x0_49 x0_51 x0_53 x0_54 x0_55 x0_56 x0_57 x0_58 x0_59 x0_60 x0_61 x0_62 y1 y2 (upd y3 (v22).toNatClampNeg v25) y4 y5 y6 y7 y8 y9 y10 y11 y12 y13 y14 y15 y16 y17 y18 y19 y20 y21 y22 y23 y24 y25) H := hP
                have hD : va_D A (wS50 cI cJ cZ cB p0 p1 p2 p3 p4 p5 p6 p7 p8 p9 p10 p11 p12 p13 p14 p15 p16 p17 p18 p19 p20 p21 p22 p23 p24 p25 x0_4 x0_5 x0_6 x0_7z20 x0_8 x0_12 x0_13 x0_14 x0_15 x0_16 x0_17z21 x0_18z21 x0_22 x0_23 x0_24 x0_25 x0_26 x0_27 x0_28 x0_29 x0_30 x0_31 x0_32 x0_36 x0_39 x0_40 x0_44 x0_49 x0_51 x0_53 x0_54 x0_55 x0_56 x0_57 x0_58 x0_59 x0_60 x0_61 x0_62 y1 y2 (upd y3 (v22).toNatClampNeg v25) y4 y5 y6 y7 y8 y9 y10 y11 y12 y13 y14 y15 y16 y17 y18 y19 y20 y21 y22 y23 y24 y25) := hD
                obtain ⟨v26, hv26⟩ : ∃ y : Nat → Int32, y = (upd y3 (v22).toNatClampNeg v25) := ⟨_, rfl⟩
                rw [← hv26] at hP hD
                have Gv26 : (0 ≤ (v25).toInt ∧ (v25).toInt ≤ 1) := Rv25
                have Av26 : ∀ i : Nat, (0 ≤ (v26 i).toInt ∧ (v26 i).toInt ≤ 1) := by rw [hv26]; exact upd_all (P := fun i x => (0 ≤ (x).toInt ∧ (x).toInt ≤ 1)) Ay3 Gv26
                clear hv26
                refine lv_aload_n hx hb d_X_done_291 rfl (lv_at hl 0 rfl) ?_
                refine va_get (D := D) (ci := 7) (v := .ref p4) (C := "SignMachineModel") (T := F_X) (N := 64) hx hb hk fi_X hown hK.1 hP 0 rfl rfl 3 (by decide) (hk _ k_1124) (fun _ h9 => h9) rfl d_X_done_292 ?_
                refine lv_aload_n hx hb d_X_done_295 rfl (lv_at hl 0 rfl) ?_
                refine va_get (D := D) (ci := 7) (v := .int x0_12) (C := "SignMachineModel") (T := F_X) (N := 64) hx hb hk fi_X hown hK.1 hP 0 rfl rfl 12 (by decide) (hk _ k_1133) (fun _ h9 => h9) rfl d_X_done_296 ?_
                refine lv_bipush (v := 8) hx hb d_X_done_299 (by decide) ?_
                refine lv_irem hx hb d_X_done_301 (by decide) ?_
                refine lv_topi (fun v27 hv27 => ?_)
                obtain ⟨ev27, lv27, Rv27⟩ : v27.toInt = x0_12.toInt % (8 : Int) ∧ v27.toInt < (8 : Int) ∧ (0 ≤ v27.toInt ∧ v27.toInt ≤ 7) := rm3 hv27 R24 (show 8 ≤ (8 : Int32).toInt ∧ (8 : Int32).toInt ≤ 8 from by decide) (by decide) (by decide) (by decide)
                refine lv_aload_n hx hb d_X_done_302 rfl (lv_at hl 0 rfl) ?_
                refine va_get (D := D) (ci := 7) (v := .int x0_18z21) (C := "SignMachineModel") (T := F_X) (N := 64) hx hb hk fi_X hown hK.1 hP 0 rfl rfl 18 (by decide) (hk _ k_1139) (fun _ h9 => h9) rfl d_X_done_303 ?_
                refine va_iast hx hb hK.1 hP hD hS 4 0 rfl rfl (vpb Rv27 (by decide) (by decide)) d_X_done_306 (fun H locs hP hD hS => ?_)
                have hP : va_P D classes (wS50 cI cJ cZ cB p0 p1 p2 p3 p4 p5 p6 p7 p8 p9 p10 p11 p12 p13 p14 p15 p16 p17 p18 p19 p20 p21 p22 p23 p24 p25 x0_4 x0_5 x0_6 x0_7z20 x0_8 x0_12 x0_13 x0_14 x0_15 x0_16 x0_17z21 x0_18z21 x0_22 x0_23 x0_24 x0_25 x0_26 x0_27 x0_28 x0_29 x0_30 x0_31 x0_32 x0_36 x0_39 x0_40 x0_44 x0_49 x0_51 x0_53 x0_54 x0_55 x0_56 x0_57 x0_58 x0_59 x0_60 x0_61 x0_62 y1 y2 v26 (upd y4 (v27).toNatClampNeg x0_18z21) y5 y6 y7 y8 y9 y10 y11 y12 y13 y14 y15 y16 y17 y18 y19 y20 y21 y22 y23 y24 y25) H := hP
                have hD : va_D A (wS50 cI cJ cZ cB p0 p1 p2 p3 p4 p5 p6 p7 p8 p9 p10 p11 p12 p13 p14 p15 p16 p17 p18 p19 p20 p21 p22 p23 p24 p25 x0_4 x0_5 x0_6 x0_7z20 x0_8 x0_12 x0_13 x0_14 x0_15 x0_16 x0_17z21 x0_18z21 x0_22 x0_23 x0_24 x0_25 x0_26 x0_27 x0_28 x0_29 x0_30 x0_31 x0_32 x0_36 x0_39 x0_40 x0_44 x0_49 x0_51 x0_53 x0_54 x0_55 x0_56 x0_57 x0_58 x0_59 x0_60 x0_61 x0_62 y1 y2 v26 (upd y4 (v27).toNatClampNeg x0_18z21) y5 y6 y7 y8 y9 y10 y11 y12 y13 y14 y15 y16 y17 y18 y19 y20 y21 y22 y23 y24 y25) := hD
                obtain ⟨v28, hv28⟩ : ∃ y : Nat → Int32, y = (upd y4 (v27).toNatClampNeg x0_18z21) := ⟨_, rfl⟩
                rw [← hv28] at hP hD
                have : (((v27).toNatClampNeg : Nat) : Int) = v27.toInt := ti_n Rv27 (by decide)
                have Gv28 : ((0 ≤ (x0_18z21).toInt ∧ (x0_18z21).toInt ≤ 1073741823) ∧ ((1 ≤ (((v27).toNatClampNeg : Nat) : Int) ∧ (((v27).toNatClampNeg : Nat) : Int) ≤ 6) → (x0_18z21).toInt ≤ 4095)) := by refine ⟨by omega, ?_⟩; omega
                have Av28 : ∀ i : Nat, ((0 ≤ (v28 i).toInt ∧ (v28 i).toInt ≤ 1073741823) ∧ ((1 ≤ (i : Int) ∧ (i : Int) ≤ 6) → (v28 i).toInt ≤ 4095)) := by rw [hv28]; exact upd_all (P := fun i x => ((0 ≤ (x).toInt ∧ (x).toInt ≤ 1073741823) ∧ ((1 ≤ (i : Int) ∧ (i : Int) ≤ 6) → (x).toInt ≤ 4095))) Ay4 Gv28
                clear hv28
                refine lv_goto (tgt := 314) hx hb d_X_done_307 (by decide) ?_
                refine lv_iconst (v := 1) hx hb d_X_done_314 (by decide) ?_
                exact W.zret (v := (1 : Int32)) hx hb hr (nar01 (by decide)) (fun t ht hW => ⟨⟨(1 : Int32), (1 : Int32), rfl, rfl, ⟨x0_4, x0_5, x0_6, x0_7z20, x0_17z21, x0_18z21, y1, y2, v26, v28, y5, y6, y7, y8, y9, Rx0_4, Rx0_17z21, Rx0_18z21, Ay1, Ay2, Av26, Av28, Ay5, Ay6, Ay7, Ay8, Ay9, (by decide), (show (1 : Int) = 1 → x0_4.toInt ≤ 3999 from by omega), by show va_P D classes _ t.heap; rw [ht]; exact hP, hD⟩⟩, hS.F ht⟩) hS.2.2 d_X_done_315
              · have gc23 : x0_12.toInt < (16 : Int) := c_nle c23
                have R29 : 8 ≤ x0_12.toInt ∧ x0_12.toInt ≤ 15 := rf_ltX R19 (show 16 ≤ (16 : Int) ∧ (16 : Int) ≤ 16 from by decide) gc23 (by decide) (by decide)
                refine lv_aload_n hx hb d_X_done_277 rfl (lv_at hl 0 rfl) ?_
                refine va_get (D := D) (ci := 7) (v := .int x0_17z21) (C := "SignMachineModel") (T := F_X) (N := 64) hx hb hk fi_X hown hK.1 hP 0 rfl rfl 17 (by decide) (hk _ k_1138) (fun _ h9 => h9) rfl d_X_done_278 ?_
                refine lv_goto (tgt := 290) hx hb d_X_done_281 (by decide) ?_
                refine va_iast hx hb hK.1 hP hD hS 3 0 rfl rfl (vpb Rv22 (by decide) (by decide)) d_X_done_290 (fun H locs hP hD hS => ?_)
                have hP : va_P D classes (wS50 cI cJ cZ cB p0 p1 p2 p3 p4 p5 p6 p7 p8 p9 p10 p11 p12 p13 p14 p15 p16 p17 p18 p19 p20 p21 p22 p23 p24 p25 x0_4 x0_5 x0_6 x0_7z20 x0_8 x0_12 x0_13 x0_14 x0_15 x0_16 x0_17z21 x0_18z21 x0_22 x0_23 x0_24 x0_25 x0_26 x0_27 x0_28 x0_29 x0_30 x0_31 x0_32 x0_36 x0_39 x0_40 x0_44 x0_49 x0_51 x0_53 x0_54 x0_55 x0_56 x0_57 x0_58 x0_59 x0_60 x0_61 x0_62 y1 y2 (upd y3 (v22).toNatClampNeg x0_17z21) y4 y5 y6 y7 y8 y9 y10 y11 y12 y13 y14 y15 y16 y17 y18 y19 y20 y21 y22 y23 y24 y25) H := hP
                have hD : va_D A (wS50 cI cJ cZ cB p0 p1 p2 p3 p4 p5 p6 p7 p8 p9 p10 p11 p12 p13 p14 p15 p16 p17 p18 p19 p20 p21 p22 p23 p24 p25 x0_4 x0_5 x0_6 x0_7z20 x0_8 x0_12 x0_13 x0_14 x0_15 x0_16 x0_17z21 x0_18z21 x0_22 x0_23 x0_24 x0_25 x0_26 x0_27 x0_28 x0_29 x0_30 x0_31 x0_32 x0_36 x0_39 x0_40 x0_44 x0_49 x0_51 x0_53 x0_54 x0_55 x0_56 x0_57 x0_58 x0_59 x0_60 x0_61 x0_62 y1 y2 (upd y3 (v22).toNatClampNeg x0_17z21) y4 y5 y6 y7 y8 y9 y10 y11 y12 y13 y14 y15 y16 y17 y18 y19 y20 y21 y22 y23 y24 y25) := hD
                obtain ⟨v30, hv30⟩ : ∃ y : Nat → Int32, y = (upd y3 (v22).toNatClampNeg x0_17z21) := ⟨_, rfl⟩
                rw [← hv30] at hP hD
                have Gv30 : (0 ≤ (x0_17z21).toInt ∧ (x0_17z21).toInt ≤ 1) := Rx0_17z21
                have Av30 : ∀ i : Nat, (0 ≤ (v30 i).toInt ∧ (v30 i).toInt ≤ 1) := by rw [hv30]; exact upd_all (P := fun i x => (0 ≤ (x).toInt ∧ (x).toInt ≤ 1)) Ay3 Gv30
                clear hv30
                refine lv_aload_n hx hb d_X_done_291 rfl (lv_at hl 0 rfl) ?_
                refine va_get (D := D) (ci := 7) (v := .ref p4) (C := "SignMachineModel") (T := F_X) (N := 64) hx hb hk fi_X hown hK.1 hP 0 rfl rfl 3 (by decide) (hk _ k_1124) (fun _ h9 => h9) rfl d_X_done_292 ?_
                refine lv_aload_n hx hb d_X_done_295 rfl (lv_at hl 0 rfl) ?_
                refine va_get (D := D) (ci := 7) (v := .int x0_12) (C := "SignMachineModel") (T := F_X) (N := 64) hx hb hk fi_X hown hK.1 hP 0 rfl rfl 12 (by decide) (hk _ k_1133) (fun _ h9 => h9) rfl d_X_done_296 ?_
                refine lv_bipush (v := 8) hx hb d_X_done_299 (by decide) ?_
                refine lv_irem hx hb d_X_done_301 (by decide) ?_
                refine lv_topi (fun v31 hv31 => ?_)
                obtain ⟨ev31, lv31, Rv31⟩ : v31.toInt = x0_12.toInt % (8 : Int) ∧ v31.toInt < (8 : Int) ∧ (0 ≤ v31.toInt ∧ v31.toInt ≤ 7) := rm3 hv31 R29 (show 8 ≤ (8 : Int32).toInt ∧ (8 : Int32).toInt ≤ 8 from by decide) (by decide) (by decide) (by decide)
                refine lv_aload_n hx hb d_X_done_302 rfl (lv_at hl 0 rfl) ?_
                refine va_get (D := D) (ci := 7) (v := .int x0_18z21) (C := "SignMachineModel") (T := F_X) (N := 64) hx hb hk fi_X hown hK.1 hP 0 rfl rfl 18 (by decide) (hk _ k_1139) (fun _ h9 => h9) rfl d_X_done_303 ?_
                refine va_iast hx hb hK.1 hP hD hS 4 0 rfl rfl (vpb Rv31 (by decide) (by decide)) d_X_done_306 (fun H locs hP hD hS => ?_)
                have hP : va_P D classes (wS50 cI cJ cZ cB p0 p1 p2 p3 p4 p5 p6 p7 p8 p9 p10 p11 p12 p13 p14 p15 p16 p17 p18 p19 p20 p21 p22 p23 p24 p25 x0_4 x0_5 x0_6 x0_7z20 x0_8 x0_12 x0_13 x0_14 x0_15 x0_16 x0_17z21 x0_18z21 x0_22 x0_23 x0_24 x0_25 x0_26 x0_27 x0_28 x0_29 x0_30 x0_31 x0_32 x0_36 x0_39 x0_40 x0_44 x0_49 x0_51 x0_53 x0_54 x0_55 x0_56 x0_57 x0_58 x0_59 x0_60 x0_61 x0_62 y1 y2 v30 (upd y4 (v31).toNatClampNeg x0_18z21) y5 y6 y7 y8 y9 y10 y11 y12 y13 y14 y15 y16 y17 y18 y19 y20 y21 y22 y23 y24 y25) H := hP
                have hD : va_D A (wS50 cI cJ cZ cB p0 p1 p2 p3 p4 p5 p6 p7 p8 p9 p10 p11 p12 p13 p14 p15 p16 p17 p18 p19 p20 p21 p22 p23 p24 p25 x0_4 x0_5 x0_6 x0_7z20 x0_8 x0_12 x0_13 x0_14 x0_15 x0_16 x0_17z21 x0_18z21 x0_22 x0_23 x0_24 x0_25 x0_26 x0_27 x0_28 x0_29 x0_30 x0_31 x0_32 x0_36 x0_39 x0_40 x0_44 x0_49 x0_51 x0_53 x0_54 x0_55 x0_56 x0_57 x0_58 x0_59 x0_60 x0_61 x0_62 y1 y2 v30 (upd y4 (v31).toNatClampNeg x0_18z21) y5 y6 y7 y8 y9 y10 y11 y12 y13 y14 y15 y16 y17 y18 y19 y20 y21 y22 y23 y24 y25) := hD
                obtain ⟨v32, hv32⟩ : ∃ y : Nat → Int32, y = (upd y4 (v31).toNatClampNeg x0_18z21) := ⟨_, rfl⟩
                rw [← hv32] at hP hD
                have : (((v31).toNatClampNeg : Nat) : Int) = v31.toInt := ti_n Rv31 (by decide)
                have Gv32 : ((0 ≤ (x0_18z21).toInt ∧ (x0_18z21).toInt ≤ 1073741823) ∧ ((1 ≤ (((v31).toNatClampNeg : Nat) : Int) ∧ (((v31).toNatClampNeg : Nat) : Int) ≤ 6) → (x0_18z21).toInt ≤ 4095)) := by refine ⟨by omega, ?_⟩; omega
                have Av32 : ∀ i : Nat, ((0 ≤ (v32 i).toInt ∧ (v32 i).toInt ≤ 1073741823) ∧ ((1 ≤ (i : Int) ∧ (i : Int) ≤ 6) → (v32 i).toInt ≤ 4095)) := by rw [hv32]; exact upd_all (P := fun i x => ((0 ≤ (x).toInt ∧ (x).toInt ≤ 1073741823) ∧ ((1 ≤ (i : Int) ∧ (i : Int) ≤ 6) → (x).toInt ≤ 4095))) Ay4 Gv32
                clear hv32
                refine lv_goto (tgt := 314) hx hb d_X_done_307 (by decide) ?_
                refine lv_iconst (v := 1) hx hb d_X_done_314 (by decide) ?_
                exact W.zret (v := (1 : Int32)) hx hb hr (nar01 (by decide)) (fun t ht hW => ⟨⟨(1 : Int32), (1 : Int32), rfl, rfl, ⟨x0_4, x0_5, x0_6, x0_7z20, x0_17z21, x0_18z21, y1, y2, v30, v32, y5, y6, y7, y8, y9, Rx0_4, Rx0_17z21, Rx0_18z21, Ay1, Ay2, Av30, Av32, Ay5, Ay6, Ay7, Ay8, Ay9, (by decide), (show (1 : Int) = 1 → x0_4.toInt ≤ 3999 from by omega), by show va_P D classes _ t.heap; rw [ht]; exact hP, hD⟩⟩, hS.F ht⟩) hS.2.2 d_X_done_315
          · have gc14 : (24 : Int) ≤ x0_12.toInt := c_nlt c14
            have R33 : 24 ≤ x0_12.toInt ∧ x0_12.toInt ≤ 34 := rf_geX R13 (show 24 ≤ (24 : Int) ∧ (24 : Int) ≤ 24 from by decide) gc14 (by decide) (by decide)
            refine lv_aload_n hx hb d_X_done_187 rfl (lv_at hl 0 rfl) ?_
            refine lv_iconst (v := 2) hx hb d_X_done_188 (by decide) ?_
            refine kn_v (va_runV (C := "SignMachineModel") (As := [.int (2 : Int32)]) (rest := []) ⟨hx, hb, hml, hown, hk⟩ (c_X_passes l D cI cJ cZ cB p0 p1 p2 p3 p4 p5 p6 p7 p8 p9 p10 p11 p12 p13 p14 p15 p16 p17 p18 p19 p20 p21 p22 p23 p24 p25 s.heap.size x0_4 x0_5 x0_6 x0_7 x0_8 x0_12 x0_13 x0_14 x0_15 x0_16 x0_17 x0_18 x0_22 x0_23 x0_24 x0_25 x0_26 x0_27 x0_28 x0_29 x0_30 x0_31 x0_32 x0_36 x0_39 x0_40 x0_44 x0_49 x0_51 x0_53 x0_54 x0_55 x0_56 x0_57 x0_58 x0_59 x0_60 x0_61 x0_62 y1 y2 y3 y4 y5 y6 y7 y8 y9 y10 y11 y12 y13 y14 y15 y16 y17 y18 y19 y20 y21 y22 y23 y24 y25 (2 : Int32) ) (v_X_passes hk k_1428 ⟨Nat.le_of_ble_eq_true rfl, Nat.le_of_ble_eq_true rfl⟩) (pM_v hK hP hD (ci := 7) (q0 := 0) rfl rfl rfl) rfl rfl hl.1 rfl (lv_room (Nat.le_of_ble_eq_true rfl)) d_X_done_189 ⟨Nat.le_of_ble_eq_true rfl, Nat.le_of_ble_eq_true rfl⟩) hS hA hD (fun u t H locs ht hB hFr hS => ?_)
            obtain ⟨x0_7z34, hP, hD⟩ := hB
            rw [ht] at hP
            have hD := dwk hD hFr
            clear ht hFr
            have hP : va_P D classes (wS50 cI cJ cZ cB p0 p1 p2 p3 p4 p5 p6 p7 p8 p9 p10 p11 p12 p13 p14 p15 p16 p17 p18 p19 p20 p21 p22 p23 p24 p25 x0_4 x0_5 x0_6 x0_7z34 x0_8 x0_12 x0_13 x0_14 x0_15 x0_16 x0_17 x0_18 x0_22 x0_23 x0_24 x0_25 x0_26 x0_27 x0_28 x0_29 x0_30 x0_31 x0_32 x0_36 x0_39 x0_40 x0_44 x0_49 x0_51 x0_53 x0_54 x0_55 x0_56 x0_57 x0_58 x0_59 x0_60 x0_61 x0_62 y1 y2 y3 y4 y5 y6 y7 y8 y9 y10 y11 y12 y13 y14 y15 y16 y17 y18 y19 y20 y21 y22 y23 y24 y25) H := hP
            have hD : va_D A (wS50 cI cJ cZ cB p0 p1 p2 p3 p4 p5 p6 p7 p8 p9 p10 p11 p12 p13 p14 p15 p16 p17 p18 p19 p20 p21 p22 p23 p24 p25 x0_4 x0_5 x0_6 x0_7z34 x0_8 x0_12 x0_13 x0_14 x0_15 x0_16 x0_17 x0_18 x0_22 x0_23 x0_24 x0_25 x0_26 x0_27 x0_28 x0_29 x0_30 x0_31 x0_32 x0_36 x0_39 x0_40 x0_44 x0_49 x0_51 x0_53 x0_54 x0_55 x0_56 x0_57 x0_58 x0_59 x0_60 x0_61 x0_62 y1 y2 y3 y4 y5 y6 y7 y8 y9 y10 y11 y12 y13 y14 y15 y16 y17 y18 y19 y20 y21 y22 y23 y24 y25) := hD
            refine lv_aload_n hx hb d_X_done_192 rfl (lv_at hl 0 rfl) ?_
            refine va_get (D := D) (ci := 7) (v := .int x0_12) (C := "SignMachineModel") (T := F_X) (N := 64) hx hb hk fi_X hown hK.1 hP 0 rfl rfl 12 (by decide) (hk _ k_1133) (fun _ h9 => h9) rfl d_X_done_193 ?_
            refine lv_bipush (v := 24) hx hb d_X_done_196 (by decide) ?_
            refine lv_isub hx hb d_X_done_198 ?_
            refine lv_topi (fun v35 hv35 => ?_)
            obtain ⟨ev35, Rv35⟩ : v35.toInt = x0_12.toInt - (24 : Int) ∧ (0 ≤ v35.toInt ∧ v35.toInt ≤ 10) := sb3 hv35 R33 (show 24 ≤ (24 : Int32).toInt ∧ (24 : Int32).toInt ≤ 24 from by decide) (by decide) (by decide) (by decide) (by decide)
            refine lv_istore_n (lv' := [(1, .int v35), (0, .ref p0)]) hx hb d_X_done_199 rfl hl (by decide) rfl (fun ls hl => ?_)
            refine lv_aload_n hx hb d_X_done_200 rfl (lv_at hl 1 rfl) ?_
            refine lv_iload_n hx hb d_X_done_201 rfl (lv_at hl 0 rfl) ?_
            refine lv_bipush (v := 9) hx hb d_X_done_202 (by decide) ?_
            refine lv_icmp_ne (tgt := 211) hx hb d_X_done_204 (by decide) (fun c36 => ?_) (fun c36 => ?_)
            · have gc36 : v35.toInt ≠ (9 : Int) := c_ne c36
              refine lv_aload_n hx hb d_X_done_211 rfl (lv_at hl 1 rfl) ?_
              refine va_get (D := D) (ci := 7) (v := .ref p3) (C := "SignMachineModel") (T := F_X) (N := 64) hx hb hk fi_X hown hK.1 hP 0 rfl rfl 2 (by decide) (hk _ k_1123) (fun _ h9 => h9) rfl d_X_done_212 ?_
              refine lv_iload_n hx hb d_X_done_215 rfl (lv_at hl 0 rfl) ?_
              refine va_iald hx hb hK.1 hP 3 0 rfl rfl (by rw [vp_in_iff]; omega) d_X_done_216 ?_
              refine lv_topi (fun v37 hv37 => ?_)
              have Rv37 := Ay3 (v35).toNatClampNeg
              rw [← hv37] at Rv37
              refine lv_iload_n hx hb d_X_done_217 rfl (lv_at hl 0 rfl) ?_
              refine lv_bipush (v := 9) hx hb d_X_done_218 (by decide) ?_
              refine lv_icmp_ne (tgt := 227) hx hb d_X_done_220 (by decide) (fun c38 => ?_) (fun c38 => absurd c38 (show ¬ v35 = (9 : Int32) from c36))
              refine lv_aload_n hx hb d_X_done_227 rfl (lv_at hl 1 rfl) ?_
              refine va_get (D := D) (ci := 7) (v := .ref p4) (C := "SignMachineModel") (T := F_X) (N := 64) hx hb hk fi_X hown hK.1 hP 0 rfl rfl 3 (by decide) (hk _ k_1124) (fun _ h9 => h9) rfl d_X_done_228 ?_
              refine lv_iload_n hx hb d_X_done_231 rfl (lv_at hl 0 rfl) ?_
              refine va_iald hx hb hK.1 hP 4 0 rfl rfl (by rw [vp_in_iff]; omega) d_X_done_232 ?_
              refine lv_topi (fun v39 hv39 => ?_)
              have Rv39 := Ay4 (v35).toNatClampNeg
              rw [← hv39] at Rv39
              obtain ⟨Rv39, Xv39⟩ := Rv39
              have : (((v35).toNatClampNeg : Nat) : Int) = v35.toInt := ti_n Rv35 (by decide)
              refine kn_v (va_runV (C := "SignMachineModel") (As := [.int v37, .int v39]) (rest := []) ⟨hx, hb, hml, hown, hk⟩ (c_X_store l D cI cJ cZ cB p0 p1 p2 p3 p4 p5 p6 p7 p8 p9 p10 p11 p12 p13 p14 p15 p16 p17 p18 p19 p20 p21 p22 p23 p24 p25 H.size x0_4 x0_5 x0_6 x0_7z34 x0_8 x0_12 x0_13 x0_14 x0_15 x0_16 x0_17 x0_18 x0_22 x0_23 x0_24 x0_25 x0_26 x0_27 x0_28 x0_29 x0_30 x0_31 x0_32 x0_36 x0_39 x0_40 x0_44 x0_49 x0_51 x0_53 x0_54 x0_55 x0_56 x0_57 x0_58 x0_59 x0_60 x0_61 x0_62 y1 y2 y3 y4 y5 y6 y7 y8 y9 y10 y11 y12 y13 y14 y15 y16 y17 y18 y19 y20 y21 y22 y23 y24 y25 v37 v39 Rx0_13 Rx0_15 Ay1 Ay2 (Q4 (by omega)) (Q2 (by omega)) Rv37 Rv39) (v_X_store hk k_1466 ⟨Nat.le_of_ble_eq_true rfl, Nat.le_of_ble_eq_true rfl⟩) (pM_v hK hP hD (ci := 7) (q0 := 0) rfl rfl rfl) rfl rfl hl.1 rfl (lv_room (Nat.le_of_ble_eq_true rfl)) d_X_done_233 ⟨Nat.le_of_ble_eq_true rfl, Nat.le_of_ble_eq_true rfl⟩) hS hA hD (fun u t H locs ht hB hFr hS => ?_)
              obtain ⟨y1z40, y2z40, Ay1z40, Ay2z40, hP, hD⟩ := hB
              rw [ht] at hP
              have hD := dwk hD hFr
              clear ht hFr
              have hP : va_P D classes (wS50 cI cJ cZ cB p0 p1 p2 p3 p4 p5 p6 p7 p8 p9 p10 p11 p12 p13 p14 p15 p16 p17 p18 p19 p20 p21 p22 p23 p24 p25 x0_4 x0_5 x0_6 x0_7z34 x0_8 x0_12 x0_13 x0_14 x0_15 x0_16 x0_17 x0_18 x0_22 x0_23 x0_24 x0_25 x0_26 x0_27 x0_28 x0_29 x0_30 x0_31 x0_32 x0_36 x0_39 x0_40 x0_44 x0_49 x0_51 x0_53 x0_54 x0_55 x0_56 x0_57 x0_58 x0_59 x0_60 x0_61 x0_62 y1z40 y2z40 y3 y4 y5 y6 y7 y8 y9 y10 y11 y12 y13 y14 y15 y16 y17 y18 y19 y20 y21 y22 y23 y24 y25) H := hP
              have hD : va_D A (wS50 cI cJ cZ cB p0 p1 p2 p3 p4 p5 p6 p7 p8 p9 p10 p11 p12 p13 p14 p15 p16 p17 p18 p19 p20 p21 p22 p23 p24 p25 x0_4 x0_5 x0_6 x0_7z34 x0_8 x0_12 x0_13 x0_14 x0_15 x0_16 x0_17 x0_18 x0_22 x0_23 x0_24 x0_25 x0_26 x0_27 x0_28 x0_29 x0_30 x0_31 x0_32 x0_36 x0_39 x0_40 x0_44 x0_49 x0_51 x0_53 x0_54 x0_55 x0_56 x0_57 x0_58 x0_59 x0_60 x0_61 x0_62 y1z40 y2z40 y3 y4 y5 y6 y7 y8 y9 y10 y11 y12 y13 y14 y15 y16 y17 y18 y19 y20 y21 y22 y23 y24 y25) := hD
              refine lv_goto (tgt := 314) hx hb d_X_done_236 (by decide) ?_
              refine lv_iconst (v := 1) hx hb d_X_done_314 (by decide) ?_
              exact W.zret (v := (1 : Int32)) hx hb hr (nar01 (by decide)) (fun t ht hW => ⟨⟨(1 : Int32), (1 : Int32), rfl, rfl, ⟨x0_4, x0_5, x0_6, x0_7z34, x0_17, x0_18, y1z40, y2z40, y3, y4, y5, y6, y7, y8, y9, Rx0_4, Rx0_17, Rx0_18, Ay1z40, Ay2z40, Ay3, Ay4, Ay5, Ay6, Ay7, Ay8, Ay9, (by decide), (show (1 : Int) = 1 → x0_4.toInt ≤ 3999 from by omega), by show va_P D classes _ t.heap; rw [ht]; exact hP, hD⟩⟩, hS.F ht⟩) hS.2.2 d_X_done_315
            · have gc36 : v35.toInt = (9 : Int) := c_eq c36
              have R41 : 9 ≤ v35.toInt ∧ v35.toInt ≤ 9 := rf_eqX Rv35 (show 9 ≤ (9 : Int) ∧ (9 : Int) ≤ 9 from by decide) gc36 (by decide) (by decide)
              refine lv_iconst (v := 0) hx hb d_X_done_207 (by decide) ?_
              refine lv_goto (tgt := 217) hx hb d_X_done_208 (by decide) ?_
              refine lv_iload_n hx hb d_X_done_217 rfl (lv_at hl 0 rfl) ?_
              refine lv_bipush (v := 9) hx hb d_X_done_218 (by decide) ?_
              refine lv_icmp_ne (tgt := 227) hx hb d_X_done_220 (by decide) (fun c42 => absurd (show v35 = (9 : Int32) from c36) c42) (fun c42 => ?_)
              refine lv_iconst (v := 0) hx hb d_X_done_223 (by decide) ?_
              refine lv_goto (tgt := 233) hx hb d_X_done_224 (by decide) ?_
              refine kn_v (va_runV (C := "SignMachineModel") (As := [.int (0 : Int32), .int (0 : Int32)]) (rest := []) ⟨hx, hb, hml, hown, hk⟩ (c_X_store l D cI cJ cZ cB p0 p1 p2 p3 p4 p5 p6 p7 p8 p9 p10 p11 p12 p13 p14 p15 p16 p17 p18 p19 p20 p21 p22 p23 p24 p25 H.size x0_4 x0_5 x0_6 x0_7z34 x0_8 x0_12 x0_13 x0_14 x0_15 x0_16 x0_17 x0_18 x0_22 x0_23 x0_24 x0_25 x0_26 x0_27 x0_28 x0_29 x0_30 x0_31 x0_32 x0_36 x0_39 x0_40 x0_44 x0_49 x0_51 x0_53 x0_54 x0_55 x0_56 x0_57 x0_58 x0_59 x0_60 x0_61 x0_62 y1 y2 y3 y4 y5 y6 y7 y8 y9 y10 y11 y12 y13 y14 y15 y16 y17 y18 y19 y20 y21 y22 y23 y24 y25 (0 : Int32) (0 : Int32) Rx0_13 Rx0_15 Ay1 Ay2 (Q4 (by omega)) (Q2 (by omega)) (by decide) (by decide)) (v_X_store hk k_1466 ⟨Nat.le_of_ble_eq_true rfl, Nat.le_of_ble_eq_true rfl⟩) (pM_v hK hP hD (ci := 7) (q0 := 0) rfl rfl rfl) rfl rfl hl.1 rfl (lv_room (Nat.le_of_ble_eq_true rfl)) d_X_done_233 ⟨Nat.le_of_ble_eq_true rfl, Nat.le_of_ble_eq_true rfl⟩) hS hA hD (fun u t H locs ht hB hFr hS => ?_)
              obtain ⟨y1z43, y2z43, Ay1z43, Ay2z43, hP, hD⟩ := hB
              rw [ht] at hP
              have hD := dwk hD hFr
              clear ht hFr
              have hP : va_P D classes (wS50 cI cJ cZ cB p0 p1 p2 p3 p4 p5 p6 p7 p8 p9 p10 p11 p12 p13 p14 p15 p16 p17 p18 p19 p20 p21 p22 p23 p24 p25 x0_4 x0_5 x0_6 x0_7z34 x0_8 x0_12 x0_13 x0_14 x0_15 x0_16 x0_17 x0_18 x0_22 x0_23 x0_24 x0_25 x0_26 x0_27 x0_28 x0_29 x0_30 x0_31 x0_32 x0_36 x0_39 x0_40 x0_44 x0_49 x0_51 x0_53 x0_54 x0_55 x0_56 x0_57 x0_58 x0_59 x0_60 x0_61 x0_62 y1z43 y2z43 y3 y4 y5 y6 y7 y8 y9 y10 y11 y12 y13 y14 y15 y16 y17 y18 y19 y20 y21 y22 y23 y24 y25) H := hP
              have hD : va_D A (wS50 cI cJ cZ cB p0 p1 p2 p3 p4 p5 p6 p7 p8 p9 p10 p11 p12 p13 p14 p15 p16 p17 p18 p19 p20 p21 p22 p23 p24 p25 x0_4 x0_5 x0_6 x0_7z34 x0_8 x0_12 x0_13 x0_14 x0_15 x0_16 x0_17 x0_18 x0_22 x0_23 x0_24 x0_25 x0_26 x0_27 x0_28 x0_29 x0_30 x0_31 x0_32 x0_36 x0_39 x0_40 x0_44 x0_49 x0_51 x0_53 x0_54 x0_55 x0_56 x0_57 x0_58 x0_59 x0_60 x0_61 x0_62 y1z43 y2z43 y3 y4 y5 y6 y7 y8 y9 y10 y11 y12 y13 y14 y15 y16 y17 y18 y19 y20 y21 y22 y23 y24 y25) := hD
              refine lv_goto (tgt := 314) hx hb d_X_done_236 (by decide) ?_
              refine lv_iconst (v := 1) hx hb d_X_done_314 (by decide) ?_
              exact W.zret (v := (1 : Int32)) hx hb hr (nar01 (by decide)) (fun t ht hW => ⟨⟨(1 : Int32), (1 : Int32), rfl, rfl, ⟨x0_4, x0_5, x0_6, x0_7z34, x0_17, x0_18, y1z43, y2z43, y3, y4, y5, y6, y7, y8, y9, Rx0_4, Rx0_17, Rx0_18, Ay1z43, Ay2z43, Ay3, Ay4, Ay5, Ay6, Ay7, Ay8, Ay9, (by decide), (show (1 : Int) = 1 → x0_4.toInt ≤ 3999 from by omega), by show va_P D classes _ t.heap; rw [ht]; exact hP, hD⟩⟩, hS.F ht⟩) hS.2.2 d_X_done_315
        · have gc12 : (35 : Int) ≤ x0_12.toInt := c_nlt c12
          have R44 : 35 ≤ x0_12.toInt ∧ x0_12.toInt ≤ 37 := rf_geX R9 (show 35 ≤ (35 : Int) ∧ (35 : Int) ≤ 35 from by decide) gc12 (by decide) (by decide)
          refine lv_aload_n hx hb d_X_done_166 rfl (lv_at hl 0 rfl) ?_
          refine lv_iconst (v := 1) hx hb d_X_done_167 (by decide) ?_
          refine kn_v (va_runV (C := "SignMachineModel") (As := [.int (1 : Int32)]) (rest := []) ⟨hx, hb, hml, hown, hk⟩ (c_X_passes l D cI cJ cZ cB p0 p1 p2 p3 p4 p5 p6 p7 p8 p9 p10 p11 p12 p13 p14 p15 p16 p17 p18 p19 p20 p21 p22 p23 p24 p25 s.heap.size x0_4 x0_5 x0_6 x0_7 x0_8 x0_12 x0_13 x0_14 x0_15 x0_16 x0_17 x0_18 x0_22 x0_23 x0_24 x0_25 x0_26 x0_27 x0_28 x0_29 x0_30 x0_31 x0_32 x0_36 x0_39 x0_40 x0_44 x0_49 x0_51 x0_53 x0_54 x0_55 x0_56 x0_57 x0_58 x0_59 x0_60 x0_61 x0_62 y1 y2 y3 y4 y5 y6 y7 y8 y9 y10 y11 y12 y13 y14 y15 y16 y17 y18 y19 y20 y21 y22 y23 y24 y25 (1 : Int32) ) (v_X_passes hk k_1428 ⟨Nat.le_of_ble_eq_true rfl, Nat.le_of_ble_eq_true rfl⟩) (pM_v hK hP hD (ci := 7) (q0 := 0) rfl rfl rfl) rfl rfl hl.1 rfl (lv_room (Nat.le_of_ble_eq_true rfl)) d_X_done_168 ⟨Nat.le_of_ble_eq_true rfl, Nat.le_of_ble_eq_true rfl⟩) hS hA hD (fun u t H locs ht hB hFr hS => ?_)
          obtain ⟨x0_7z45, hP, hD⟩ := hB
          rw [ht] at hP
          have hD := dwk hD hFr
          clear ht hFr
          have hP : va_P D classes (wS50 cI cJ cZ cB p0 p1 p2 p3 p4 p5 p6 p7 p8 p9 p10 p11 p12 p13 p14 p15 p16 p17 p18 p19 p20 p21 p22 p23 p24 p25 x0_4 x0_5 x0_6 x0_7z45 x0_8 x0_12 x0_13 x0_14 x0_15 x0_16 x0_17 x0_18 x0_22 x0_23 x0_24 x0_25 x0_26 x0_27 x0_28 x0_29 x0_30 x0_31 x0_32 x0_36 x0_39 x0_40 x0_44 x0_49 x0_51 x0_53 x0_54 x0_55 x0_56 x0_57 x0_58 x0_59 x0_60 x0_61 x0_62 y1 y2 y3 y4 y5 y6 y7 y8 y9 y10 y11 y12 y13 y14 y15 y16 y17 y18 y19 y20 y21 y22 y23 y24 y25) H := hP
          have hD : va_D A (wS50 cI cJ cZ cB p0 p1 p2 p3 p4 p5 p6 p7 p8 p9 p10 p11 p12 p13 p14 p15 p16 p17 p18 p19 p20 p21 p22 p23 p24 p25 x0_4 x0_5 x0_6 x0_7z45 x0_8 x0_12 x0_13 x0_14 x0_15 x0_16 x0_17 x0_18 x0_22 x0_23 x0_24 x0_25 x0_26 x0_27 x0_28 x0_29 x0_30 x0_31 x0_32 x0_36 x0_39 x0_40 x0_44 x0_49 x0_51 x0_53 x0_54 x0_55 x0_56 x0_57 x0_58 x0_59 x0_60 x0_61 x0_62 y1 y2 y3 y4 y5 y6 y7 y8 y9 y10 y11 y12 y13 y14 y15 y16 y17 y18 y19 y20 y21 y22 y23 y24 y25) := hD
          refine lv_aload_n hx hb d_X_done_171 rfl (lv_at hl 0 rfl) ?_
          refine kn_v (va_runV (C := "SignMachineModel") (As := []) (rest := []) ⟨hx, hb, hml, hown, hk⟩ (c_X_doTape l D cI cJ cZ cB p0 p1 p2 p3 p4 p5 p6 p7 p8 p9 p10 p11 p12 p13 p14 p15 p16 p17 p18 p19 p20 p21 p22 p23 p24 p25 H.size x0_4 x0_5 x0_6 x0_7z45 x0_8 x0_12 x0_13 x0_14 x0_15 x0_16 x0_17 x0_18 x0_22 x0_23 x0_24 x0_25 x0_26 x0_27 x0_28 x0_29 x0_30 x0_31 x0_32 x0_36 x0_39 x0_40 x0_44 x0_49 x0_51 x0_53 x0_54 x0_55 x0_56 x0_57 x0_58 x0_59 x0_60 x0_61 x0_62 y1 y2 y3 y4 y5 y6 y7 y8 y9 y10 y11 y12 y13 y14 y15 y16 y17 y18 y19 y20 y21 y22 y23 y24 y25  (rgw R44 (by decide) (by decide)) Rx0_13 Rx0_15 Ay1 Ay2 Ay5 Ay6 Ay7 (show 35 ≤ x0_12.toInt ∧ x0_12.toInt ≤ 37 from by omega) (Q3 (by omega)) (Q6) (Q11) (Q12)) (v_X_doTape hk k_1462 ⟨Nat.le_of_ble_eq_true rfl, Nat.le_of_ble_eq_true rfl⟩) (pM_v hK hP hD (ci := 7) (q0 := 0) rfl rfl rfl) rfl rfl hl.1 rfl (lv_room (Nat.le_of_ble_eq_true rfl)) d_X_done_172 ⟨Nat.le_of_ble_eq_true rfl, Nat.le_of_ble_eq_true rfl⟩) hS hA hD (fun u t H locs ht hB hFr hS => ?_)
          obtain ⟨y1z46, y2z46, y5z46, y6z46, y7z46, Ay1z46, Ay2z46, Ay5z46, Ay6z46, Ay7z46, hP, hD⟩ := hB
          rw [ht] at hP
          have hD := dwk hD hFr
          clear ht hFr
          have hP : va_P D classes (wS50 cI cJ cZ cB p0 p1 p2 p3 p4 p5 p6 p7 p8 p9 p10 p11 p12 p13 p14 p15 p16 p17 p18 p19 p20 p21 p22 p23 p24 p25 x0_4 x0_5 x0_6 x0_7z45 x0_8 x0_12 x0_13 x0_14 x0_15 x0_16 x0_17 x0_18 x0_22 x0_23 x0_24 x0_25 x0_26 x0_27 x0_28 x0_29 x0_30 x0_31 x0_32 x0_36 x0_39 x0_40 x0_44 x0_49 x0_51 x0_53 x0_54 x0_55 x0_56 x0_57 x0_58 x0_59 x0_60 x0_61 x0_62 y1z46 y2z46 y3 y4 y5z46 y6z46 y7z46 y8 y9 y10 y11 y12 y13 y14 y15 y16 y17 y18 y19 y20 y21 y22 y23 y24 y25) H := hP
          have hD : va_D A (wS50 cI cJ cZ cB p0 p1 p2 p3 p4 p5 p6 p7 p8 p9 p10 p11 p12 p13 p14 p15 p16 p17 p18 p19 p20 p21 p22 p23 p24 p25 x0_4 x0_5 x0_6 x0_7z45 x0_8 x0_12 x0_13 x0_14 x0_15 x0_16 x0_17 x0_18 x0_22 x0_23 x0_24 x0_25 x0_26 x0_27 x0_28 x0_29 x0_30 x0_31 x0_32 x0_36 x0_39 x0_40 x0_44 x0_49 x0_51 x0_53 x0_54 x0_55 x0_56 x0_57 x0_58 x0_59 x0_60 x0_61 x0_62 y1z46 y2z46 y3 y4 y5z46 y6z46 y7z46 y8 y9 y10 y11 y12 y13 y14 y15 y16 y17 y18 y19 y20 y21 y22 y23 y24 y25) := hD
          refine lv_goto (tgt := 314) hx hb d_X_done_175 (by decide) ?_
          refine lv_iconst (v := 1) hx hb d_X_done_314 (by decide) ?_
          exact W.zret (v := (1 : Int32)) hx hb hr (nar01 (by decide)) (fun t ht hW => ⟨⟨(1 : Int32), (1 : Int32), rfl, rfl, ⟨x0_4, x0_5, x0_6, x0_7z45, x0_17, x0_18, y1z46, y2z46, y3, y4, y5z46, y6z46, y7z46, y8, y9, Rx0_4, Rx0_17, Rx0_18, Ay1z46, Ay2z46, Ay3, Ay4, Ay5z46, Ay6z46, Ay7z46, Ay8, Ay9, (by decide), (show (1 : Int) = 1 → x0_4.toInt ≤ 3999 from by omega), by show va_P D classes _ t.heap; rw [ht]; exact hP, hD⟩⟩, hS.F ht⟩) hS.2.2 d_X_done_315
      · have gc8 : x0_12.toInt = (38 : Int) := c_eq c8
        have R47 : 38 ≤ x0_12.toInt ∧ x0_12.toInt ≤ 38 := rf_eqX R2 (show 38 ≤ (38 : Int) ∧ (38 : Int) ≤ 38 from by decide) gc8 (by decide) (by decide)
        refine lv_aload_n hx hb d_X_done_75 rfl (lv_at hl 0 rfl) ?_
        refine lv_iconst (v := 1) hx hb d_X_done_76 (by decide) ?_
        refine kn_v (va_runV (C := "SignMachineModel") (As := [.int (1 : Int32)]) (rest := []) ⟨hx, hb, hml, hown, hk⟩ (c_X_passes l D cI cJ cZ cB p0 p1 p2 p3 p4 p5 p6 p7 p8 p9 p10 p11 p12 p13 p14 p15 p16 p17 p18 p19 p20 p21 p22 p23 p24 p25 s.heap.size x0_4 x0_5 x0_6 x0_7 x0_8 x0_12 x0_13 x0_14 x0_15 x0_16 x0_17 x0_18 x0_22 x0_23 x0_24 x0_25 x0_26 x0_27 x0_28 x0_29 x0_30 x0_31 x0_32 x0_36 x0_39 x0_40 x0_44 x0_49 x0_51 x0_53 x0_54 x0_55 x0_56 x0_57 x0_58 x0_59 x0_60 x0_61 x0_62 y1 y2 y3 y4 y5 y6 y7 y8 y9 y10 y11 y12 y13 y14 y15 y16 y17 y18 y19 y20 y21 y22 y23 y24 y25 (1 : Int32) ) (v_X_passes hk k_1428 ⟨Nat.le_of_ble_eq_true rfl, Nat.le_of_ble_eq_true rfl⟩) (pM_v hK hP hD (ci := 7) (q0 := 0) rfl rfl rfl) rfl rfl hl.1 rfl (lv_room (Nat.le_of_ble_eq_true rfl)) d_X_done_77 ⟨Nat.le_of_ble_eq_true rfl, Nat.le_of_ble_eq_true rfl⟩) hS hA hD (fun u t H locs ht hB hFr hS => ?_)
        obtain ⟨x0_7z48, hP, hD⟩ := hB
        rw [ht] at hP
        have hD := dwk hD hFr
        clear ht hFr
        have hP : va_P D classes (wS50 cI cJ cZ cB p0 p1 p2 p3 p4 p5 p6 p7 p8 p9 p10 p11 p12 p13 p14 p15 p16 p17 p18 p19 p20 p21 p22 p23 p24 p25 x0_4 x0_5 x0_6 x0_7z48 x0_8 x0_12 x0_13 x0_14 x0_15 x0_16 x0_17 x0_18 x0_22 x0_23 x0_24 x0_25 x0_26 x0_27 x0_28 x0_29 x0_30 x0_31 x0_32 x0_36 x0_39 x0_40 x0_44 x0_49 x0_51 x0_53 x0_54 x0_55 x0_56 x0_57 x0_58 x0_59 x0_60 x0_61 x0_62 y1 y2 y3 y4 y5 y6 y7 y8 y9 y10 y11 y12 y13 y14 y15 y16 y17 y18 y19 y20 y21 y22 y23 y24 y25) H := hP
        have hD : va_D A (wS50 cI cJ cZ cB p0 p1 p2 p3 p4 p5 p6 p7 p8 p9 p10 p11 p12 p13 p14 p15 p16 p17 p18 p19 p20 p21 p22 p23 p24 p25 x0_4 x0_5 x0_6 x0_7z48 x0_8 x0_12 x0_13 x0_14 x0_15 x0_16 x0_17 x0_18 x0_22 x0_23 x0_24 x0_25 x0_26 x0_27 x0_28 x0_29 x0_30 x0_31 x0_32 x0_36 x0_39 x0_40 x0_44 x0_49 x0_51 x0_53 x0_54 x0_55 x0_56 x0_57 x0_58 x0_59 x0_60 x0_61 x0_62 y1 y2 y3 y4 y5 y6 y7 y8 y9 y10 y11 y12 y13 y14 y15 y16 y17 y18 y19 y20 y21 y22 y23 y24 y25) := hD
        refine lv_aload_n hx hb d_X_done_80 rfl (lv_at hl 0 rfl) ?_
        refine lv_aload_n hx hb d_X_done_81 rfl (lv_at hl 0 rfl) ?_
        refine va_get (D := D) (ci := 7) (v := .int x0_12) (C := "SignMachineModel") (T := F_X) (N := 64) hx hb hk fi_X hown hK.1 hP 0 rfl rfl 12 (by decide) (hk _ k_1133) (fun _ h9 => h9) rfl d_X_done_82 ?_
        refine lv_bipush (v := 38) hx hb d_X_done_85 (by decide) ?_
        refine lv_icmp_ne (tgt := 94) hx hb d_X_done_87 (by decide) (fun c49 => absurd (show x0_12 = (38 : Int32) from c8) c49) (fun c49 => ?_)
        refine lv_iconst (v := 1) hx hb d_X_done_90 (by decide) ?_
        refine lv_goto (tgt := 95) hx hb d_X_done_91 (by decide) ?_
        refine lv_iconst (v := 0) hx hb d_X_done_95 (by decide) ?_
        refine kn_v (va_runV (C := "SignMachineModel") (As := [.int (1 : Int32), .int (0 : Int32)]) (rest := []) ⟨hx, hb, hml, hown, hk⟩ (c_X_goTo l D cI cJ cZ cB p0 p1 p2 p3 p4 p5 p6 p7 p8 p9 p10 p11 p12 p13 p14 p15 p16 p17 p18 p19 p20 p21 p22 p23 p24 p25 H.size x0_4 x0_5 x0_6 x0_7z48 x0_8 x0_12 x0_13 x0_14 x0_15 x0_16 x0_17 x0_18 x0_22 x0_23 x0_24 x0_25 x0_26 x0_27 x0_28 x0_29 x0_30 x0_31 x0_32 x0_36 x0_39 x0_40 x0_44 x0_49 x0_51 x0_53 x0_54 x0_55 x0_56 x0_57 x0_58 x0_59 x0_60 x0_61 x0_62 y1 y2 y3 y4 y5 y6 y7 y8 y9 y10 y11 y12 y13 y14 y15 y16 y17 y18 y19 y20 y21 y22 y23 y24 y25 (1 : Int32) (0 : Int32) Rx0_4 Rx0_15 Ay4 (show x0_4.toInt ≤ 3999 from by omega) (fun _ => Q4 (by omega)) (by decide) (by decide)) (v_X_goTo hk k_1441 ⟨Nat.le_of_ble_eq_true rfl, Nat.le_of_ble_eq_true rfl⟩) (pM_v hK hP hD (ci := 7) (q0 := 0) rfl rfl rfl) rfl rfl hl.1 rfl (lv_room (Nat.le_of_ble_eq_true rfl)) d_X_done_96 ⟨Nat.le_of_ble_eq_true rfl, Nat.le_of_ble_eq_true rfl⟩) hS hA hD (fun u t H locs ht hB hFr hS => ?_)
        obtain ⟨x0_4z50, y4z50, Rx0_4z50, Ay4z50, hP, hD⟩ := hB
        rw [ht] at hP
        have hD := dwk hD hFr
        clear ht hFr
        have hP : va_P D classes (wS50 cI cJ cZ cB p0 p1 p2 p3 p4 p5 p6 p7 p8 p9 p10 p11 p12 p13 p14 p15 p16 p17 p18 p19 p20 p21 p22 p23 p24 p25 x0_4z50 x0_5 x0_6 x0_7z48 x0_8 x0_12 x0_13 x0_14 x0_15 x0_16 x0_17 x0_18 x0_22 x0_23 x0_24 x0_25 x0_26 x0_27 x0_28 x0_29 x0_30 x0_31 x0_32 x0_36 x0_39 x0_40 x0_44 x0_49 x0_51 x0_53 x0_54 x0_55 x0_56 x0_57 x0_58 x0_59 x0_60 x0_61 x0_62 y1 y2 y3 y4z50 y5 y6 y7 y8 y9 y10 y11 y12 y13 y14 y15 y16 y17 y18 y19 y20 y21 y22 y23 y24 y25) H := hP
        have hD : va_D A (wS50 cI cJ cZ cB p0 p1 p2 p3 p4 p5 p6 p7 p8 p9 p10 p11 p12 p13 p14 p15 p16 p17 p18 p19 p20 p21 p22 p23 p24 p25 x0_4z50 x0_5 x0_6 x0_7z48 x0_8 x0_12 x0_13 x0_14 x0_15 x0_16 x0_17 x0_18 x0_22 x0_23 x0_24 x0_25 x0_26 x0_27 x0_28 x0_29 x0_30 x0_31 x0_32 x0_36 x0_39 x0_40 x0_44 x0_49 x0_51 x0_53 x0_54 x0_55 x0_56 x0_57 x0_58 x0_59 x0_60 x0_61 x0_62 y1 y2 y3 y4z50 y5 y6 y7 y8 y9 y10 y11 y12 y13 y14 y15 y16 y17 y18 y19 y20 y21 y22 y23 y24 y25) := hD
        refine lv_iconst (v := 0) hx hb d_X_done_99 (by decide) ?_
        exact W.zret (v := (0 : Int32)) hx hb hr (nar01 (by decide)) (fun t ht hW => ⟨⟨(0 : Int32), (0 : Int32), rfl, rfl, ⟨x0_4z50, x0_5, x0_6, x0_7z48, x0_17, x0_18, y1, y2, y3, y4z50, y5, y6, y7, y8, y9, Rx0_4z50, Rx0_17, Rx0_18, Ay1, Ay2, Ay3, Ay4z50, Ay5, Ay6, Ay7, Ay8, Ay9, (by decide), (show (0 : Int) = 1 → x0_4z50.toInt ≤ 3999 from by omega), by show va_P D classes _ t.heap; rw [ht]; exact hP, hD⟩⟩, hS.F ht⟩) hS.2.2 d_X_done_100
  · have gc1 : (39 : Int) ≤ x0_12.toInt := c_nlt c1
    have R51 : 39 ≤ x0_12.toInt ∧ x0_12.toInt ≤ 63 := rf_geX Rx0_12 (show 39 ≤ (39 : Int) ∧ (39 : Int) ≤ 39 from by decide) gc1 (by decide) (by decide)
    refine lv_aload_n hx hb d_X_done_9 rfl (lv_at hl 0 rfl) ?_
    refine va_get (D := D) (ci := 7) (v := .int x0_12) (C := "SignMachineModel") (T := F_X) (N := 64) hx hb hk fi_X hown hK.1 hP 0 rfl rfl 12 (by decide) (hk _ k_1133) (fun _ h9 => h9) rfl d_X_done_10 ?_
    refine lv_bipush (v := 47) hx hb d_X_done_13 (by decide) ?_
    refine lv_icmp_gt (tgt := 57) hx hb d_X_done_15 (by decide) (fun c52 => ?_) (fun c52 => ?_)
    · have gc52 : (47 : Int) < x0_12.toInt := c_lt c52
      have R53 : 48 ≤ x0_12.toInt ∧ x0_12.toInt ≤ 63 := rf_gtX R51 (show 47 ≤ (47 : Int) ∧ (47 : Int) ≤ 47 from by decide) gc52 (by decide) (by decide)
      refine lv_aload_n hx hb d_X_done_57 rfl (lv_at hl 0 rfl) ?_
      refine va_get (D := D) (ci := 7) (v := .int x0_12) (C := "SignMachineModel") (T := F_X) (N := 64) hx hb hk fi_X hown hK.1 hP 0 rfl rfl 12 (by decide) (hk _ k_1133) (fun _ h9 => h9) rfl d_X_done_58 ?_
      refine lv_bipush (v := 34) hx hb d_X_done_61 (by decide) ?_
      refine lv_icmp_eq (tgt := 75) hx hb d_X_done_63 (by decide) (fun c54 => absurd c54 (show ¬ x0_12 = (34 : Int32) from (fun q9 => (knE R53 (show 34 ≤ (34 : Int) ∧ (34 : Int) ≤ 34 from by decide) (by decide)) (c_eq q9)))) (fun c54 => ?_)
      refine lv_aload_n hx hb d_X_done_66 rfl (lv_at hl 0 rfl) ?_
      refine va_get (D := D) (ci := 7) (v := .int x0_12) (C := "SignMachineModel") (T := F_X) (N := 64) hx hb hk fi_X hown hK.1 hP 0 rfl rfl 12 (by decide) (hk _ k_1133) (fun _ h9 => h9) rfl d_X_done_67 ?_
      refine lv_bipush (v := 38) hx hb d_X_done_70 (by decide) ?_
      refine lv_icmp_ne (tgt := 101) hx hb d_X_done_72 (by decide) (fun c55 => ?_) (fun c55 => absurd c55 (show ¬ x0_12 = (38 : Int32) from (fun q9 => (knE R53 (show 38 ≤ (38 : Int) ∧ (38 : Int) ≤ 38 from by decide) (by decide)) (c_eq q9))))
      refine lv_aload_n hx hb d_X_done_101 rfl (lv_at hl 0 rfl) ?_
      refine va_get (D := D) (ci := 7) (v := .int x0_12) (C := "SignMachineModel") (T := F_X) (N := 64) hx hb hk fi_X hown hK.1 hP 0 rfl rfl 12 (by decide) (hk _ k_1133) (fun _ h9 => h9) rfl d_X_done_102 ?_
      refine lv_bipush (v := 56) hx hb d_X_done_105 (by decide) ?_
      refine lv_icmp_lt (tgt := 129) hx hb d_X_done_107 (by decide) (fun c56 => ?_) (fun c56 => ?_)
      · have gc56 : x0_12.toInt < (56 : Int) := c_lt c56
        have R57 : 48 ≤ x0_12.toInt ∧ x0_12.toInt ≤ 55 := rf_ltX R53 (show 56 ≤ (56 : Int) ∧ (56 : Int) ≤ 56 from by decide) gc56 (by decide) (by decide)
        refine lv_aload_n hx hb d_X_done_129 rfl (lv_at hl 0 rfl) ?_
        refine va_get (D := D) (ci := 7) (v := .int x0_12) (C := "SignMachineModel") (T := F_X) (N := 64) hx hb hk fi_X hown hK.1 hP 0 rfl rfl 12 (by decide) (hk _ k_1133) (fun _ h9 => h9) rfl d_X_done_130 ?_
        refine lv_bipush (v := 48) hx hb d_X_done_133 (by decide) ?_
        refine lv_icmp_lt (tgt := 157) hx hb d_X_done_135 (by decide) (fun c58 => absurd c58 (show ¬ x0_12 < (48 : Int32) from (fun q9 => Int.not_lt.mpr (kle (show 48 ≤ (48 : Int) ∧ (48 : Int) ≤ 48 from by decide) R57 (by decide)) (c_lt q9)))) (fun c58 => ?_)
        refine lv_aload_n hx hb d_X_done_138 rfl (lv_at hl 0 rfl) ?_
        refine lv_iconst (v := 1) hx hb d_X_done_139 (by decide) ?_
        refine kn_v (va_runV (C := "SignMachineModel") (As := [.int (1 : Int32)]) (rest := []) ⟨hx, hb, hml, hown, hk⟩ (c_X_passes l D cI cJ cZ cB p0 p1 p2 p3 p4 p5 p6 p7 p8 p9 p10 p11 p12 p13 p14 p15 p16 p17 p18 p19 p20 p21 p22 p23 p24 p25 s.heap.size x0_4 x0_5 x0_6 x0_7 x0_8 x0_12 x0_13 x0_14 x0_15 x0_16 x0_17 x0_18 x0_22 x0_23 x0_24 x0_25 x0_26 x0_27 x0_28 x0_29 x0_30 x0_31 x0_32 x0_36 x0_39 x0_40 x0_44 x0_49 x0_51 x0_53 x0_54 x0_55 x0_56 x0_57 x0_58 x0_59 x0_60 x0_61 x0_62 y1 y2 y3 y4 y5 y6 y7 y8 y9 y10 y11 y12 y13 y14 y15 y16 y17 y18 y19 y20 y21 y22 y23 y24 y25 (1 : Int32) ) (v_X_passes hk k_1428 ⟨Nat.le_of_ble_eq_true rfl, Nat.le_of_ble_eq_true rfl⟩) (pM_v hK hP hD (ci := 7) (q0 := 0) rfl rfl rfl) rfl rfl hl.1 rfl (lv_room (Nat.le_of_ble_eq_true rfl)) d_X_done_140 ⟨Nat.le_of_ble_eq_true rfl, Nat.le_of_ble_eq_true rfl⟩) hS hA hD (fun u t H locs ht hB hFr hS => ?_)
        obtain ⟨x0_7z59, hP, hD⟩ := hB
        rw [ht] at hP
        have hD := dwk hD hFr
        clear ht hFr
        have hP : va_P D classes (wS50 cI cJ cZ cB p0 p1 p2 p3 p4 p5 p6 p7 p8 p9 p10 p11 p12 p13 p14 p15 p16 p17 p18 p19 p20 p21 p22 p23 p24 p25 x0_4 x0_5 x0_6 x0_7z59 x0_8 x0_12 x0_13 x0_14 x0_15 x0_16 x0_17 x0_18 x0_22 x0_23 x0_24 x0_25 x0_26 x0_27 x0_28 x0_29 x0_30 x0_31 x0_32 x0_36 x0_39 x0_40 x0_44 x0_49 x0_51 x0_53 x0_54 x0_55 x0_56 x0_57 x0_58 x0_59 x0_60 x0_61 x0_62 y1 y2 y3 y4 y5 y6 y7 y8 y9 y10 y11 y12 y13 y14 y15 y16 y17 y18 y19 y20 y21 y22 y23 y24 y25) H := hP
        have hD : va_D A (wS50 cI cJ cZ cB p0 p1 p2 p3 p4 p5 p6 p7 p8 p9 p10 p11 p12 p13 p14 p15 p16 p17 p18 p19 p20 p21 p22 p23 p24 p25 x0_4 x0_5 x0_6 x0_7z59 x0_8 x0_12 x0_13 x0_14 x0_15 x0_16 x0_17 x0_18 x0_22 x0_23 x0_24 x0_25 x0_26 x0_27 x0_28 x0_29 x0_30 x0_31 x0_32 x0_36 x0_39 x0_40 x0_44 x0_49 x0_51 x0_53 x0_54 x0_55 x0_56 x0_57 x0_58 x0_59 x0_60 x0_61 x0_62 y1 y2 y3 y4 y5 y6 y7 y8 y9 y10 y11 y12 y13 y14 y15 y16 y17 y18 y19 y20 y21 y22 y23 y24 y25) := hD
        refine lv_aload_n hx hb d_X_done_143 rfl (lv_at hl 0 rfl) ?_
        refine lv_aload_n hx hb d_X_done_144 rfl (lv_at hl 0 rfl) ?_
        refine va_get (D := D) (ci := 7) (v := .int x0_12) (C := "SignMachineModel") (T := F_X) (N := 64) hx hb hk fi_X hown hK.1 hP 0 rfl rfl 12 (by decide) (hk _ k_1133) (fun _ h9 => h9) rfl d_X_done_145 ?_
        refine lv_bipush (v := 48) hx hb d_X_done_148 (by decide) ?_
        refine lv_isub hx hb d_X_done_150 ?_
        refine lv_topi (fun v60 hv60 => ?_)
        obtain ⟨ev60, Rv60⟩ : v60.toInt = x0_12.toInt - (48 : Int) ∧ (0 ≤ v60.toInt ∧ v60.toInt ≤ 7) := sb3 hv60 R57 (show 48 ≤ (48 : Int32).toInt ∧ (48 : Int32).toInt ≤ 48 from by decide) (by decide) (by decide) (by decide) (by decide)
        have o2 : rv y3 y4 (v60).toNatClampNeg = rv y3 y4 (x0_12 - (48 : Int32)).toNatClampNeg := by rw [hv60]
        refine kn_v (va_runV (C := "SignMachineModel") (As := [.int v60]) (rest := []) ⟨hx, hb, hml, hown, hk⟩ (c_X_change l D cI cJ cZ cB p0 p1 p2 p3 p4 p5 p6 p7 p8 p9 p10 p11 p12 p13 p14 p15 p16 p17 p18 p19 p20 p21 p22 p23 p24 p25 H.size x0_4 x0_5 x0_6 x0_7z59 x0_8 x0_12 x0_13 x0_14 x0_15 x0_16 x0_17 x0_18 x0_22 x0_23 x0_24 x0_25 x0_26 x0_27 x0_28 x0_29 x0_30 x0_31 x0_32 x0_36 x0_39 x0_40 x0_44 x0_49 x0_51 x0_53 x0_54 x0_55 x0_56 x0_57 x0_58 x0_59 x0_60 x0_61 x0_62 y1 y2 y3 y4 y5 y6 y7 y8 y9 y10 y11 y12 y13 y14 y15 y16 y17 y18 y19 y20 y21 y22 y23 y24 y25 v60 Rx0_13 Rx0_15 Rx0_16 Ay3 Ay4 (Q1) (fun h => by rw [o2]; exact Q8 (by omega)) (fun h => by rw [o2]; exact Q9 (by omega)) (fun h => Q10 (by omega)) Rv60) (v_X_change hk k_1453 ⟨Nat.le_of_ble_eq_true rfl, Nat.le_of_ble_eq_true rfl⟩) (pM_v hK hP hD (ci := 7) (q0 := 0) rfl rfl rfl) rfl rfl hl.1 rfl (lv_room (Nat.le_of_ble_eq_true rfl)) d_X_done_151 ⟨Nat.le_of_ble_eq_true rfl, Nat.le_of_ble_eq_true rfl⟩) hS hA hD (fun u t H locs ht hB hFr hS => ?_)
        obtain ⟨x0_5z61, y3z61, y4z61, Ay3z61, Ay4z61, hP, hD⟩ := hB
        rw [ht] at hP
        have hD := dwk hD hFr
        clear ht hFr
        have hP : va_P D classes (wS50 cI cJ cZ cB p0 p1 p2 p3 p4 p5 p6 p7 p8 p9 p10 p11 p12 p13 p14 p15 p16 p17 p18 p19 p20 p21 p22 p23 p24 p25 x0_4 x0_5z61 x0_6 x0_7z59 x0_8 x0_12 x0_13 x0_14 x0_15 x0_16 x0_17 x0_18 x0_22 x0_23 x0_24 x0_25 x0_26 x0_27 x0_28 x0_29 x0_30 x0_31 x0_32 x0_36 x0_39 x0_40 x0_44 x0_49 x0_51 x0_53 x0_54 x0_55 x0_56 x0_57 x0_58 x0_59 x0_60 x0_61 x0_62 y1 y2 y3z61 y4z61 y5 y6 y7 y8 y9 y10 y11 y12 y13 y14 y15 y16 y17 y18 y19 y20 y21 y22 y23 y24 y25) H := hP
        have hD : va_D A (wS50 cI cJ cZ cB p0 p1 p2 p3 p4 p5 p6 p7 p8 p9 p10 p11 p12 p13 p14 p15 p16 p17 p18 p19 p20 p21 p22 p23 p24 p25 x0_4 x0_5z61 x0_6 x0_7z59 x0_8 x0_12 x0_13 x0_14 x0_15 x0_16 x0_17 x0_18 x0_22 x0_23 x0_24 x0_25 x0_26 x0_27 x0_28 x0_29 x0_30 x0_31 x0_32 x0_36 x0_39 x0_40 x0_44 x0_49 x0_51 x0_53 x0_54 x0_55 x0_56 x0_57 x0_58 x0_59 x0_60 x0_61 x0_62 y1 y2 y3z61 y4z61 y5 y6 y7 y8 y9 y10 y11 y12 y13 y14 y15 y16 y17 y18 y19 y20 y21 y22 y23 y24 y25) := hD
        refine lv_goto (tgt := 314) hx hb d_X_done_154 (by decide) ?_
        refine lv_iconst (v := 1) hx hb d_X_done_314 (by decide) ?_
        exact W.zret (v := (1 : Int32)) hx hb hr (nar01 (by decide)) (fun t ht hW => ⟨⟨(1 : Int32), (1 : Int32), rfl, rfl, ⟨x0_4, x0_5z61, x0_6, x0_7z59, x0_17, x0_18, y1, y2, y3z61, y4z61, y5, y6, y7, y8, y9, Rx0_4, Rx0_17, Rx0_18, Ay1, Ay2, Ay3z61, Ay4z61, Ay5, Ay6, Ay7, Ay8, Ay9, (by decide), (show (1 : Int) = 1 → x0_4.toInt ≤ 3999 from by omega), by show va_P D classes _ t.heap; rw [ht]; exact hP, hD⟩⟩, hS.F ht⟩) hS.2.2 d_X_done_315
      · have gc56 : (56 : Int) ≤ x0_12.toInt := c_nlt c56
        have R62 : 56 ≤ x0_12.toInt ∧ x0_12.toInt ≤ 63 := rf_geX R53 (show 56 ≤ (56 : Int) ∧ (56 : Int) ≤ 56 from by decide) gc56 (by decide) (by decide)
        refine lv_aload_n hx hb d_X_done_110 rfl (lv_at hl 0 rfl) ?_
        refine lv_iconst (v := 2) hx hb d_X_done_111 (by decide) ?_
        refine kn_v (va_runV (C := "SignMachineModel") (As := [.int (2 : Int32)]) (rest := []) ⟨hx, hb, hml, hown, hk⟩ (c_X_passes l D cI cJ cZ cB p0 p1 p2 p3 p4 p5 p6 p7 p8 p9 p10 p11 p12 p13 p14 p15 p16 p17 p18 p19 p20 p21 p22 p23 p24 p25 s.heap.size x0_4 x0_5 x0_6 x0_7 x0_8 x0_12 x0_13 x0_14 x0_15 x0_16 x0_17 x0_18 x0_22 x0_23 x0_24 x0_25 x0_26 x0_27 x0_28 x0_29 x0_30 x0_31 x0_32 x0_36 x0_39 x0_40 x0_44 x0_49 x0_51 x0_53 x0_54 x0_55 x0_56 x0_57 x0_58 x0_59 x0_60 x0_61 x0_62 y1 y2 y3 y4 y5 y6 y7 y8 y9 y10 y11 y12 y13 y14 y15 y16 y17 y18 y19 y20 y21 y22 y23 y24 y25 (2 : Int32) ) (v_X_passes hk k_1428 ⟨Nat.le_of_ble_eq_true rfl, Nat.le_of_ble_eq_true rfl⟩) (pM_v hK hP hD (ci := 7) (q0 := 0) rfl rfl rfl) rfl rfl hl.1 rfl (lv_room (Nat.le_of_ble_eq_true rfl)) d_X_done_112 ⟨Nat.le_of_ble_eq_true rfl, Nat.le_of_ble_eq_true rfl⟩) hS hA hD (fun u t H locs ht hB hFr hS => ?_)
        obtain ⟨x0_7z63, hP, hD⟩ := hB
        rw [ht] at hP
        have hD := dwk hD hFr
        clear ht hFr
        have hP : va_P D classes (wS50 cI cJ cZ cB p0 p1 p2 p3 p4 p5 p6 p7 p8 p9 p10 p11 p12 p13 p14 p15 p16 p17 p18 p19 p20 p21 p22 p23 p24 p25 x0_4 x0_5 x0_6 x0_7z63 x0_8 x0_12 x0_13 x0_14 x0_15 x0_16 x0_17 x0_18 x0_22 x0_23 x0_24 x0_25 x0_26 x0_27 x0_28 x0_29 x0_30 x0_31 x0_32 x0_36 x0_39 x0_40 x0_44 x0_49 x0_51 x0_53 x0_54 x0_55 x0_56 x0_57 x0_58 x0_59 x0_60 x0_61 x0_62 y1 y2 y3 y4 y5 y6 y7 y8 y9 y10 y11 y12 y13 y14 y15 y16 y17 y18 y19 y20 y21 y22 y23 y24 y25) H := hP
        have hD : va_D A (wS50 cI cJ cZ cB p0 p1 p2 p3 p4 p5 p6 p7 p8 p9 p10 p11 p12 p13 p14 p15 p16 p17 p18 p19 p20 p21 p22 p23 p24 p25 x0_4 x0_5 x0_6 x0_7z63 x0_8 x0_12 x0_13 x0_14 x0_15 x0_16 x0_17 x0_18 x0_22 x0_23 x0_24 x0_25 x0_26 x0_27 x0_28 x0_29 x0_30 x0_31 x0_32 x0_36 x0_39 x0_40 x0_44 x0_49 x0_51 x0_53 x0_54 x0_55 x0_56 x0_57 x0_58 x0_59 x0_60 x0_61 x0_62 y1 y2 y3 y4 y5 y6 y7 y8 y9 y10 y11 y12 y13 y14 y15 y16 y17 y18 y19 y20 y21 y22 y23 y24 y25) := hD
        refine lv_aload_n hx hb d_X_done_115 rfl (lv_at hl 0 rfl) ?_
        refine lv_aload_n hx hb d_X_done_116 rfl (lv_at hl 0 rfl) ?_
        refine va_get (D := D) (ci := 7) (v := .int x0_12) (C := "SignMachineModel") (T := F_X) (N := 64) hx hb hk fi_X hown hK.1 hP 0 rfl rfl 12 (by decide) (hk _ k_1133) (fun _ h9 => h9) rfl d_X_done_117 ?_
        refine lv_bipush (v := 56) hx hb d_X_done_120 (by decide) ?_
        refine lv_isub hx hb d_X_done_122 ?_
        refine lv_topi (fun v64 hv64 => ?_)
        obtain ⟨ev64, Rv64⟩ : v64.toInt = x0_12.toInt - (56 : Int) ∧ (0 ≤ v64.toInt ∧ v64.toInt ≤ 7) := sb3 hv64 R62 (show 56 ≤ (56 : Int32).toInt ∧ (56 : Int32).toInt ≤ 56 from by decide) (by decide) (by decide) (by decide) (by decide)
        refine kn_v (va_runV (C := "SignMachineModel") (As := [.int v64]) (rest := []) ⟨hx, hb, hml, hown, hk⟩ (c_X_compare l D cI cJ cZ cB p0 p1 p2 p3 p4 p5 p6 p7 p8 p9 p10 p11 p12 p13 p14 p15 p16 p17 p18 p19 p20 p21 p22 p23 p24 p25 H.size x0_4 x0_5 x0_6 x0_7z63 x0_8 x0_12 x0_13 x0_14 x0_15 x0_16 x0_17 x0_18 x0_22 x0_23 x0_24 x0_25 x0_26 x0_27 x0_28 x0_29 x0_30 x0_31 x0_32 x0_36 x0_39 x0_40 x0_44 x0_49 x0_51 x0_53 x0_54 x0_55 x0_56 x0_57 x0_58 x0_59 x0_60 x0_61 x0_62 y1 y2 y3 y4 y5 y6 y7 y8 y9 y10 y11 y12 y13 y14 y15 y16 y17 y18 y19 y20 y21 y22 y23 y24 y25 v64 Rx0_13 Rx0_15 Rx0_17 Rx0_18 Ay1 Ay2 Ay3 Ay4 (Q4 (by omega)) (Q2 (by omega)) (rgw Rv64 (by decide) (by decide))) (v_X_compare hk k_1449 ⟨Nat.le_of_ble_eq_true rfl, Nat.le_of_ble_eq_true rfl⟩) (pM_v hK hP hD (ci := 7) (q0 := 0) rfl rfl rfl) rfl rfl hl.1 rfl (lv_room (Nat.le_of_ble_eq_true rfl)) d_X_done_123 ⟨Nat.le_of_ble_eq_true rfl, Nat.le_of_ble_eq_true rfl⟩) hS hA hD (fun u t H locs ht hB hFr hS => ?_)
        obtain ⟨x0_6z65, x0_17z65, x0_18z65, Rx0_17z65, Rx0_18z65, hP, hD⟩ := hB
        rw [ht] at hP
        have hD := dwk hD hFr
        clear ht hFr
        have hP : va_P D classes (wS50 cI cJ cZ cB p0 p1 p2 p3 p4 p5 p6 p7 p8 p9 p10 p11 p12 p13 p14 p15 p16 p17 p18 p19 p20 p21 p22 p23 p24 p25 x0_4 x0_5 x0_6z65 x0_7z63 x0_8 x0_12 x0_13 x0_14 x0_15 x0_16 x0_17z65 x0_18z65 x0_22 x0_23 x0_24 x0_25 x0_26 x0_27 x0_28 x0_29 x0_30 x0_31 x0_32 x0_36 x0_39 x0_40 x0_44 x0_49 x0_51 x0_53 x0_54 x0_55 x0_56 x0_57 x0_58 x0_59 x0_60 x0_61 x0_62 y1 y2 y3 y4 y5 y6 y7 y8 y9 y10 y11 y12 y13 y14 y15 y16 y17 y18 y19 y20 y21 y22 y23 y24 y25) H := hP
        have hD : va_D A (wS50 cI cJ cZ cB p0 p1 p2 p3 p4 p5 p6 p7 p8 p9 p10 p11 p12 p13 p14 p15 p16 p17 p18 p19 p20 p21 p22 p23 p24 p25 x0_4 x0_5 x0_6z65 x0_7z63 x0_8 x0_12 x0_13 x0_14 x0_15 x0_16 x0_17z65 x0_18z65 x0_22 x0_23 x0_24 x0_25 x0_26 x0_27 x0_28 x0_29 x0_30 x0_31 x0_32 x0_36 x0_39 x0_40 x0_44 x0_49 x0_51 x0_53 x0_54 x0_55 x0_56 x0_57 x0_58 x0_59 x0_60 x0_61 x0_62 y1 y2 y3 y4 y5 y6 y7 y8 y9 y10 y11 y12 y13 y14 y15 y16 y17 y18 y19 y20 y21 y22 y23 y24 y25) := hD
        refine lv_goto (tgt := 314) hx hb d_X_done_126 (by decide) ?_
        refine lv_iconst (v := 1) hx hb d_X_done_314 (by decide) ?_
        exact W.zret (v := (1 : Int32)) hx hb hr (nar01 (by decide)) (fun t ht hW => ⟨⟨(1 : Int32), (1 : Int32), rfl, rfl, ⟨x0_4, x0_5, x0_6z65, x0_7z63, x0_17z65, x0_18z65, y1, y2, y3, y4, y5, y6, y7, y8, y9, Rx0_4, Rx0_17z65, Rx0_18z65, Ay1, Ay2, Ay3, Ay4, Ay5, Ay6, Ay7, Ay8, Ay9, (by decide), (show (1 : Int) = 1 → x0_4.toInt ≤ 3999 from by omega), by show va_P D classes _ t.heap; rw [ht]; exact hP, hD⟩⟩, hS.F ht⟩) hS.2.2 d_X_done_315
    · have gc52 : x0_12.toInt ≤ (47 : Int) := c_nlt c52
      have R66 : 39 ≤ x0_12.toInt ∧ x0_12.toInt ≤ 47 := rf_leX R51 (show 47 ≤ (47 : Int) ∧ (47 : Int) ≤ 47 from by decide) gc52 (by decide) (by decide)
      refine lv_aload_n hx hb d_X_done_18 rfl (lv_at hl 0 rfl) ?_
      refine lv_iconst (v := 1) hx hb d_X_done_19 (by decide) ?_
      refine kn_v (va_runV (C := "SignMachineModel") (As := [.int (1 : Int32)]) (rest := []) ⟨hx, hb, hml, hown, hk⟩ (c_X_passes l D cI cJ cZ cB p0 p1 p2 p3 p4 p5 p6 p7 p8 p9 p10 p11 p12 p13 p14 p15 p16 p17 p18 p19 p20 p21 p22 p23 p24 p25 s.heap.size x0_4 x0_5 x0_6 x0_7 x0_8 x0_12 x0_13 x0_14 x0_15 x0_16 x0_17 x0_18 x0_22 x0_23 x0_24 x0_25 x0_26 x0_27 x0_28 x0_29 x0_30 x0_31 x0_32 x0_36 x0_39 x0_40 x0_44 x0_49 x0_51 x0_53 x0_54 x0_55 x0_56 x0_57 x0_58 x0_59 x0_60 x0_61 x0_62 y1 y2 y3 y4 y5 y6 y7 y8 y9 y10 y11 y12 y13 y14 y15 y16 y17 y18 y19 y20 y21 y22 y23 y24 y25 (1 : Int32) ) (v_X_passes hk k_1428 ⟨Nat.le_of_ble_eq_true rfl, Nat.le_of_ble_eq_true rfl⟩) (pM_v hK hP hD (ci := 7) (q0 := 0) rfl rfl rfl) rfl rfl hl.1 rfl (lv_room (Nat.le_of_ble_eq_true rfl)) d_X_done_20 ⟨Nat.le_of_ble_eq_true rfl, Nat.le_of_ble_eq_true rfl⟩) hS hA hD (fun u t H locs ht hB hFr hS => ?_)
      obtain ⟨x0_7z67, hP, hD⟩ := hB
      rw [ht] at hP
      have hD := dwk hD hFr
      clear ht hFr
      have hP : va_P D classes (wS50 cI cJ cZ cB p0 p1 p2 p3 p4 p5 p6 p7 p8 p9 p10 p11 p12 p13 p14 p15 p16 p17 p18 p19 p20 p21 p22 p23 p24 p25 x0_4 x0_5 x0_6 x0_7z67 x0_8 x0_12 x0_13 x0_14 x0_15 x0_16 x0_17 x0_18 x0_22 x0_23 x0_24 x0_25 x0_26 x0_27 x0_28 x0_29 x0_30 x0_31 x0_32 x0_36 x0_39 x0_40 x0_44 x0_49 x0_51 x0_53 x0_54 x0_55 x0_56 x0_57 x0_58 x0_59 x0_60 x0_61 x0_62 y1 y2 y3 y4 y5 y6 y7 y8 y9 y10 y11 y12 y13 y14 y15 y16 y17 y18 y19 y20 y21 y22 y23 y24 y25) H := hP
      have hD : va_D A (wS50 cI cJ cZ cB p0 p1 p2 p3 p4 p5 p6 p7 p8 p9 p10 p11 p12 p13 p14 p15 p16 p17 p18 p19 p20 p21 p22 p23 p24 p25 x0_4 x0_5 x0_6 x0_7z67 x0_8 x0_12 x0_13 x0_14 x0_15 x0_16 x0_17 x0_18 x0_22 x0_23 x0_24 x0_25 x0_26 x0_27 x0_28 x0_29 x0_30 x0_31 x0_32 x0_36 x0_39 x0_40 x0_44 x0_49 x0_51 x0_53 x0_54 x0_55 x0_56 x0_57 x0_58 x0_59 x0_60 x0_61 x0_62 y1 y2 y3 y4 y5 y6 y7 y8 y9 y10 y11 y12 y13 y14 y15 y16 y17 y18 y19 y20 y21 y22 y23 y24 y25) := hD
      refine lv_aload_n hx hb d_X_done_23 rfl (lv_at hl 0 rfl) ?_
      refine va_get (D := D) (ci := 7) (v := .int x0_12) (C := "SignMachineModel") (T := F_X) (N := 64) hx hb hk fi_X hown hK.1 hP 0 rfl rfl 12 (by decide) (hk _ k_1133) (fun _ h9 => h9) rfl d_X_done_24 ?_
      refine lv_bipush (v := 39) hx hb d_X_done_27 (by decide) ?_
      refine lv_icmp_ne (tgt := 39) hx hb d_X_done_29 (by decide) (fun c68 => ?_) (fun c68 => ?_)
      · have gc68 : x0_12.toInt ≠ (39 : Int) := c_ne c68
        have R69 : 40 ≤ x0_12.toInt ∧ x0_12.toInt ≤ 47 := rf_neX R66 (show 39 ≤ (39 : Int) ∧ (39 : Int) ≤ 39 from by decide) gc68 (by decide) (by decide)
        refine lv_aload_n hx hb d_X_done_39 rfl (lv_at hl 0 rfl) ?_
        refine lv_aload_n hx hb d_X_done_40 rfl (lv_at hl 0 rfl) ?_
        refine lv_aload_n hx hb d_X_done_41 rfl (lv_at hl 0 rfl) ?_
        refine va_get (D := D) (ci := 7) (v := .int x0_12) (C := "SignMachineModel") (T := F_X) (N := 64) hx hb hk fi_X hown hK.1 hP 0 rfl rfl 12 (by decide) (hk _ k_1133) (fun _ h9 => h9) rfl d_X_done_42 ?_
        refine lv_bipush (v := 40) hx hb d_X_done_45 (by decide) ?_
        refine lv_isub hx hb d_X_done_47 ?_
        refine lv_topi (fun v70 hv70 => ?_)
        obtain ⟨ev70, Rv70⟩ : v70.toInt = x0_12.toInt - (40 : Int) ∧ (0 ≤ v70.toInt ∧ v70.toInt ≤ 7) := sb3 hv70 R69 (show 40 ≤ (40 : Int32).toInt ∧ (40 : Int32).toInt ≤ 40 from by decide) (by decide) (by decide) (by decide) (by decide)
        refine sn_i (va_runV (C := "SignMachineModel") (As := [.int v70]) (rest := [.ref p0]) ⟨hx, hb, hml, hown, hk⟩ (c_X_goesBy l D cI cJ cZ cB p0 p1 p2 p3 p4 p5 p6 p7 p8 p9 p10 p11 p12 p13 p14 p15 p16 p17 p18 p19 p20 p21 p22 p23 p24 p25 H.size x0_4 x0_5 x0_6 x0_7z67 x0_8 x0_12 x0_13 x0_14 x0_15 x0_16 x0_17 x0_18 x0_22 x0_23 x0_24 x0_25 x0_26 x0_27 x0_28 x0_29 x0_30 x0_31 x0_32 x0_36 x0_39 x0_40 x0_44 x0_49 x0_51 x0_53 x0_54 x0_55 x0_56 x0_57 x0_58 x0_59 x0_60 x0_61 x0_62 y1 y2 y3 y4 y5 y6 y7 y8 y9 y10 y11 y12 y13 y14 y15 y16 y17 y18 y19 y20 y21 y22 y23 y24 y25 v70 Rx0_13 Ay3 Ay4 (rgw Rv70 (by decide) (by decide))) (v_X_goesBy hk k_1445 ⟨Nat.le_of_ble_eq_true rfl, Nat.le_of_ble_eq_true rfl⟩) (pM_v hK hP hD (ci := 7) (q0 := 0) rfl rfl rfl) rfl rfl hl.1 rfl (lv_room (Nat.le_of_ble_eq_true rfl)) d_X_done_48 ⟨Nat.le_of_ble_eq_true rfl, Nat.le_of_ble_eq_true rfl⟩) hS hA hD (fun rz71 u t H locs hr0 ht hB hFr hS => ?_)
        subst hr0
        obtain ⟨F0z71, hP, hD⟩ := hB
        have F0z71 : 0 ≤ rz71.toInt ∧ rz71.toInt ≤ 1 := F0z71
        rw [ht] at hP
        have hD := dwk hD hFr
        clear ht hFr
        have hP : va_P D classes (wS50 cI cJ cZ cB p0 p1 p2 p3 p4 p5 p6 p7 p8 p9 p10 p11 p12 p13 p14 p15 p16 p17 p18 p19 p20 p21 p22 p23 p24 p25 x0_4 x0_5 x0_6 x0_7z67 x0_8 x0_12 x0_13 x0_14 x0_15 x0_16 x0_17 x0_18 x0_22 x0_23 x0_24 x0_25 x0_26 x0_27 x0_28 x0_29 x0_30 x0_31 x0_32 x0_36 x0_39 x0_40 x0_44 x0_49 x0_51 x0_53 x0_54 x0_55 x0_56 x0_57 x0_58 x0_59 x0_60 x0_61 x0_62 y1 y2 y3 y4 y5 y6 y7 y8 y9 y10 y11 y12 y13 y14 y15 y16 y17 y18 y19 y20 y21 y22 y23 y24 y25) H := hP
        have hD : va_D A (wS50 cI cJ cZ cB p0 p1 p2 p3 p4 p5 p6 p7 p8 p9 p10 p11 p12 p13 p14 p15 p16 p17 p18 p19 p20 p21 p22 p23 p24 p25 x0_4 x0_5 x0_6 x0_7z67 x0_8 x0_12 x0_13 x0_14 x0_15 x0_16 x0_17 x0_18 x0_22 x0_23 x0_24 x0_25 x0_26 x0_27 x0_28 x0_29 x0_30 x0_31 x0_32 x0_36 x0_39 x0_40 x0_44 x0_49 x0_51 x0_53 x0_54 x0_55 x0_56 x0_57 x0_58 x0_59 x0_60 x0_61 x0_62 y1 y2 y3 y4 y5 y6 y7 y8 y9 y10 y11 y12 y13 y14 y15 y16 y17 y18 y19 y20 y21 y22 y23 y24 y25) := hD
        refine lv_iconst (v := 0) hx hb d_X_done_51 (by decide) ?_
        refine kn_v (va_runV (C := "SignMachineModel") (As := [.int rz71, .int (0 : Int32)]) (rest := []) ⟨hx, hb, hml, hown, hk⟩ (c_X_goTo l D cI cJ cZ cB p0 p1 p2 p3 p4 p5 p6 p7 p8 p9 p10 p11 p12 p13 p14 p15 p16 p17 p18 p19 p20 p21 p22 p23 p24 p25 H.size x0_4 x0_5 x0_6 x0_7z67 x0_8 x0_12 x0_13 x0_14 x0_15 x0_16 x0_17 x0_18 x0_22 x0_23 x0_24 x0_25 x0_26 x0_27 x0_28 x0_29 x0_30 x0_31 x0_32 x0_36 x0_39 x0_40 x0_44 x0_49 x0_51 x0_53 x0_54 x0_55 x0_56 x0_57 x0_58 x0_59 x0_60 x0_61 x0_62 y1 y2 y3 y4 y5 y6 y7 y8 y9 y10 y11 y12 y13 y14 y15 y16 y17 y18 y19 y20 y21 y22 y23 y24 y25 rz71 (0 : Int32) Rx0_4 Rx0_15 Ay4 (show x0_4.toInt ≤ 3999 from by omega) (fun _ => Q4 (by omega)) F0z71 (by decide)) (v_X_goTo hk k_1441 ⟨Nat.le_of_ble_eq_true rfl, Nat.le_of_ble_eq_true rfl⟩) (pM_v hK hP hD (ci := 7) (q0 := 0) rfl rfl rfl) rfl rfl hl.1 rfl (lv_room (Nat.le_of_ble_eq_true rfl)) d_X_done_52 ⟨Nat.le_of_ble_eq_true rfl, Nat.le_of_ble_eq_true rfl⟩) hS hA hD (fun u t H locs ht hB hFr hS => ?_)
        obtain ⟨x0_4z72, y4z72, Rx0_4z72, Ay4z72, hP, hD⟩ := hB
        rw [ht] at hP
        have hD := dwk hD hFr
        clear ht hFr
        have hP : va_P D classes (wS50 cI cJ cZ cB p0 p1 p2 p3 p4 p5 p6 p7 p8 p9 p10 p11 p12 p13 p14 p15 p16 p17 p18 p19 p20 p21 p22 p23 p24 p25 x0_4z72 x0_5 x0_6 x0_7z67 x0_8 x0_12 x0_13 x0_14 x0_15 x0_16 x0_17 x0_18 x0_22 x0_23 x0_24 x0_25 x0_26 x0_27 x0_28 x0_29 x0_30 x0_31 x0_32 x0_36 x0_39 x0_40 x0_44 x0_49 x0_51 x0_53 x0_54 x0_55 x0_56 x0_57 x0_58 x0_59 x0_60 x0_61 x0_62 y1 y2 y3 y4z72 y5 y6 y7 y8 y9 y10 y11 y12 y13 y14 y15 y16 y17 y18 y19 y20 y21 y22 y23 y24 y25) H := hP
        have hD : va_D A (wS50 cI cJ cZ cB p0 p1 p2 p3 p4 p5 p6 p7 p8 p9 p10 p11 p12 p13 p14 p15 p16 p17 p18 p19 p20 p21 p22 p23 p24 p25 x0_4z72 x0_5 x0_6 x0_7z67 x0_8 x0_12 x0_13 x0_14 x0_15 x0_16 x0_17 x0_18 x0_22 x0_23 x0_24 x0_25 x0_26 x0_27 x0_28 x0_29 x0_30 x0_31 x0_32 x0_36 x0_39 x0_40 x0_44 x0_49 x0_51 x0_53 x0_54 x0_55 x0_56 x0_57 x0_58 x0_59 x0_60 x0_61 x0_62 y1 y2 y3 y4z72 y5 y6 y7 y8 y9 y10 y11 y12 y13 y14 y15 y16 y17 y18 y19 y20 y21 y22 y23 y24 y25) := hD
        refine lv_iconst (v := 0) hx hb d_X_done_55 (by decide) ?_
        exact W.zret (v := (0 : Int32)) hx hb hr (nar01 (by decide)) (fun t ht hW => ⟨⟨(0 : Int32), (0 : Int32), rfl, rfl, ⟨x0_4z72, x0_5, x0_6, x0_7z67, x0_17, x0_18, y1, y2, y3, y4z72, y5, y6, y7, y8, y9, Rx0_4z72, Rx0_17, Rx0_18, Ay1, Ay2, Ay3, Ay4z72, Ay5, Ay6, Ay7, Ay8, Ay9, (by decide), (show (0 : Int) = 1 → x0_4z72.toInt ≤ 3999 from by omega), by show va_P D classes _ t.heap; rw [ht]; exact hP, hD⟩⟩, hS.F ht⟩) hS.2.2 d_X_done_56
      · have gc68 : x0_12.toInt = (39 : Int) := c_eq c68
        have R73 : 39 ≤ x0_12.toInt ∧ x0_12.toInt ≤ 39 := rf_eqX R66 (show 39 ≤ (39 : Int) ∧ (39 : Int) ≤ 39 from by decide) gc68 (by decide) (by decide)
        refine lv_aload_n hx hb d_X_done_32 rfl (lv_at hl 0 rfl) ?_
        refine kn_v (va_runV (C := "SignMachineModel") (As := []) (rest := []) ⟨hx, hb, hml, hown, hk⟩ (c_X_goes39 l D cI cJ cZ cB p0 p1 p2 p3 p4 p5 p6 p7 p8 p9 p10 p11 p12 p13 p14 p15 p16 p17 p18 p19 p20 p21 p22 p23 p24 p25 H.size x0_4 x0_5 x0_6 x0_7z67 x0_8 x0_12 x0_13 x0_14 x0_15 x0_16 x0_17 x0_18 x0_22 x0_23 x0_24 x0_25 x0_26 x0_27 x0_28 x0_29 x0_30 x0_31 x0_32 x0_36 x0_39 x0_40 x0_44 x0_49 x0_51 x0_53 x0_54 x0_55 x0_56 x0_57 x0_58 x0_59 x0_60 x0_61 x0_62 y1 y2 y3 y4 y5 y6 y7 y8 y9 y10 y11 y12 y13 y14 y15 y16 y17 y18 y19 y20 y21 y22 y23 y24 y25  Rx0_4 Rx0_13 Rx0_15 Ay4 (show x0_4.toInt ≤ 3999 from by omega) (Q4 (by omega))) (v_X_goes39 hk k_1433 ⟨Nat.le_of_ble_eq_true rfl, Nat.le_of_ble_eq_true rfl⟩) (pM_v hK hP hD (ci := 7) (q0 := 0) rfl rfl rfl) rfl rfl hl.1 rfl (lv_room (Nat.le_of_ble_eq_true rfl)) d_X_done_33 ⟨Nat.le_of_ble_eq_true rfl, Nat.le_of_ble_eq_true rfl⟩) hS hA hD (fun u t H locs ht hB hFr hS => ?_)
        obtain ⟨x0_4z74, x0_5z74, y4z74, Rx0_4z74, Ay4z74, hP, hD⟩ := hB
        rw [ht] at hP
        have hD := dwk hD hFr
        clear ht hFr
        have hP : va_P D classes (wS50 cI cJ cZ cB p0 p1 p2 p3 p4 p5 p6 p7 p8 p9 p10 p11 p12 p13 p14 p15 p16 p17 p18 p19 p20 p21 p22 p23 p24 p25 x0_4z74 x0_5z74 x0_6 x0_7z67 x0_8 x0_12 x0_13 x0_14 x0_15 x0_16 x0_17 x0_18 x0_22 x0_23 x0_24 x0_25 x0_26 x0_27 x0_28 x0_29 x0_30 x0_31 x0_32 x0_36 x0_39 x0_40 x0_44 x0_49 x0_51 x0_53 x0_54 x0_55 x0_56 x0_57 x0_58 x0_59 x0_60 x0_61 x0_62 y1 y2 y3 y4z74 y5 y6 y7 y8 y9 y10 y11 y12 y13 y14 y15 y16 y17 y18 y19 y20 y21 y22 y23 y24 y25) H := hP
        have hD : va_D A (wS50 cI cJ cZ cB p0 p1 p2 p3 p4 p5 p6 p7 p8 p9 p10 p11 p12 p13 p14 p15 p16 p17 p18 p19 p20 p21 p22 p23 p24 p25 x0_4z74 x0_5z74 x0_6 x0_7z67 x0_8 x0_12 x0_13 x0_14 x0_15 x0_16 x0_17 x0_18 x0_22 x0_23 x0_24 x0_25 x0_26 x0_27 x0_28 x0_29 x0_30 x0_31 x0_32 x0_36 x0_39 x0_40 x0_44 x0_49 x0_51 x0_53 x0_54 x0_55 x0_56 x0_57 x0_58 x0_59 x0_60 x0_61 x0_62 y1 y2 y3 y4z74 y5 y6 y7 y8 y9 y10 y11 y12 y13 y14 y15 y16 y17 y18 y19 y20 y21 y22 y23 y24 y25) := hD
        refine lv_goto (tgt := 55) hx hb d_X_done_36 (by decide) ?_
        refine lv_iconst (v := 0) hx hb d_X_done_55 (by decide) ?_
        exact W.zret (v := (0 : Int32)) hx hb hr (nar01 (by decide)) (fun t ht hW => ⟨⟨(0 : Int32), (0 : Int32), rfl, rfl, ⟨x0_4z74, x0_5z74, x0_6, x0_7z67, x0_17, x0_18, y1, y2, y3, y4z74, y5, y6, y7, y8, y9, Rx0_4z74, Rx0_17, Rx0_18, Ay1, Ay2, Ay3, Ay4z74, Ay5, Ay6, Ay7, Ay8, Ay9, (by decide), (show (0 : Int) = 1 → x0_4z74.toInt ≤ 3999 from by omega), by show va_P D classes _ t.heap; rw [ht]; exact hP, hD⟩⟩, hS.F ht⟩) hS.2.2 d_X_done_56
theorem v_X_done {R : Room} {s : State} {args : Array Value} {own : String} {index : Nat} (hk : ∀ w ∈ tb, w.before args s = true) (hl : Cond.methodLink own index y_X_done ∈ tb) (hR : 4 + 1 ≤ R.frames ∧ 8 + (2 + 11) + 93 ≤ R.locals) : CallW R s args own "SignMachineModel" index y_X_done b_X_done 2 (some .boolean) (.code y_X_done b_X_done 2 (some .boolean) :: tb) ({ frames := 4, cells := 0, slots := 0, locals := 93 }) 0 0 0 := mk_v 0 hk k_1427 hl k_1426 k_69 k_119 rfl rfl h_X_done hR
set_option maxHeartbeats 8000000 in
set_option maxRecDepth 100000 in
theorem c_X_one (l : Launch) (D : va_G) (cI cJ cZ cB : ClassId) (p0 p1 p2 p3 p4 p5 p6 p7 p8 p9 p10 p11 p12 p13 p14 p15 p16 p17 p18 p19 p20 p21 p22 p23 p24 p25 : Nat) (sz : Nat) (x0_4 : Int32) (x0_5 : Int32) (x0_6 : Int32) (x0_7 : Int32) (x0_8 : Int32) (x0_12 : Int32) (x0_13 : Int32) (x0_14 : Int32) (x0_15 : Int32) (x0_16 : Int32) (x0_17 : Int32) (x0_18 : Int32) (x0_22 : Int32) (x0_23 : Int32) (x0_24 : Int32) (x0_25 : Int32) (x0_26 : Int32) (x0_27 : Int32) (x0_28 : Int32) (x0_29 : Int32) (x0_30 : Int32) (x0_31 : Int32) (x0_32 : Int32) (x0_36 : Int32) (x0_39 : Int32) (x0_40 : Int64) (x0_44 : Int32) (x0_49 : Int32) (x0_51 : Int32) (x0_53 : Int32) (x0_54 : Int32) (x0_55 : Int64) (x0_56 : Int32) (x0_57 : Int32) (x0_58 : Int32) (x0_59 : Int32) (x0_60 : Int32) (x0_61 : Int32) (x0_62 : Int64) (y1 : Nat → Int32) (y2 : Nat → Int32) (y3 : Nat → Int32) (y4 : Nat → Int32) (y5 : Nat → Int32) (y6 : Nat → Int32) (y7 : Nat → Int32) (y8 : Nat → Int32) (y9 : Nat → Int32) (y10 : Nat → Int32) (y11 : Nat → Int64) (y12 : Nat → Int32) (y13 : Nat → Int64) (y14 : Nat → Int32) (y15 : Nat → Int64) (y16 : Nat → Int32) (y17 : Nat → Int32) (y18 : Nat → Int32) (y19 : Nat → Int32) (y20 : Nat → Int32) (y21 : Nat → Int32) (y22 : Nat → Int32) (y23 : Nat → Int32) (y24 : Nat → Int64) (y25 : Nat → Int64)  (Rx0_4 : 0 ≤ x0_4.toInt ∧ x0_4.toInt ≤ 4000) (Rx0_12 : 0 ≤ x0_12.toInt ∧ x0_12.toInt ≤ 63) (Rx0_13 : 0 ≤ x0_13.toInt ∧ x0_13.toInt ≤ 63) (Rx0_14 : 0 ≤ x0_14.toInt ∧ x0_14.toInt ≤ 63) (Rx0_15 : (-8190) ≤ x0_15.toInt ∧ x0_15.toInt ≤ 8190) (Rx0_16 : 0 ≤ x0_16.toInt ∧ x0_16.toInt ≤ 1) (Rx0_17 : 0 ≤ x0_17.toInt ∧ x0_17.toInt ≤ 1) (Rx0_18 : 0 ≤ x0_18.toInt ∧ x0_18.toInt ≤ 1073741823) (Ay1 : ∀ i : Nat, (0 ≤ (y1 i).toInt ∧ (y1 i).toInt ≤ 1)) (Ay2 : ∀ i : Nat, (0 ≤ (y2 i).toInt ∧ (y2 i).toInt ≤ 1073741823)) (Ay3 : ∀ i : Nat, (0 ≤ (y3 i).toInt ∧ (y3 i).toInt ≤ 1)) (Ay4 : ∀ i : Nat, ((0 ≤ (y4 i).toInt ∧ (y4 i).toInt ≤ 1073741823) ∧ ((1 ≤ (i : Int) ∧ (i : Int) ≤ 6) → (y4 i).toInt ≤ 4095))) (Ay5 : ∀ i : Nat, (0 ≤ (y5 i).toInt ∧ (y5 i).toInt ≤ 1)) (Ay6 : ∀ i : Nat, (0 ≤ (y6 i).toInt ∧ (y6 i).toInt ≤ 1073741823)) (Ay7 : ∀ i : Nat, (0 ≤ (y7 i).toInt ∧ (y7 i).toInt ≤ 40)) (Ay8 : ∀ i : Nat, (0 ≤ (y8 i).toInt ∧ (y8 i).toInt ≤ 63)) (Ay9 : ∀ i : Nat, (0 ≤ (y9 i).toInt ∧ (y9 i).toInt ≤ 63)) : Met l y_X_one (.code y_X_one b_X_one 3 (some .int) :: tb) ({ frames := 5, cells := 0, slots := 0, locals := 114 }) (pM D cI cJ cZ cB (wS50 cI cJ cZ cB p0 p1 p2 p3 p4 p5 p6 p7 p8 p9 p10 p11 p12 p13 p14 p15 p16 p17 p18 p19 p20 p21 p22 p23 p24 p25 x0_4 x0_5 x0_6 x0_7 x0_8 x0_12 x0_13 x0_14 x0_15 x0_16 x0_17 x0_18 x0_22 x0_23 x0_24 x0_25 x0_26 x0_27 x0_28 x0_29 x0_30 x0_31 x0_32 x0_36 x0_39 x0_40 x0_44 x0_49 x0_51 x0_53 x0_54 x0_55 x0_56 x0_57 x0_58 x0_59 x0_60 x0_61 x0_62 y1 y2 y3 y4 y5 y6 y7 y8 y9 y10 y11 y12 y13 y14 y15 y16 y17 y18 y19 y20 y21 y22 y23 y24 y25) sz [.ref p0]) (va_Qi (fun r (u : Int32) => r = u) (fun ur t => ∃ u_x0_4 : Int32, ∃ u_x0_5 : Int32, ∃ u_x0_6 : Int32, ∃ u_x0_7 : Int32, ∃ u_x0_12 : Int32, ∃ u_x0_13 : Int32, ∃ u_x0_14 : Int32, ∃ u_x0_15 : Int32, ∃ u_x0_16 : Int32, ∃ u_x0_17 : Int32, ∃ u_x0_18 : Int32, ∃ u_y1 : Nat → Int32, ∃ u_y2 : Nat → Int32, ∃ u_y3 : Nat → Int32, ∃ u_y4 : Nat → Int32, ∃ u_y5 : Nat → Int32, ∃ u_y6 : Nat → Int32, ∃ u_y7 : Nat → Int32, ∃ u_y8 : Nat → Int32, ∃ u_y9 : Nat → Int32, (0 ≤ u_x0_4.toInt ∧ u_x0_4.toInt ≤ 4000) ∧ (0 ≤ u_x0_12.toInt ∧ u_x0_12.toInt ≤ 63) ∧ (0 ≤ u_x0_13.toInt ∧ u_x0_13.toInt ≤ 63) ∧ (0 ≤ u_x0_14.toInt ∧ u_x0_14.toInt ≤ 63) ∧ ((-8190) ≤ u_x0_15.toInt ∧ u_x0_15.toInt ≤ 8190) ∧ (0 ≤ u_x0_16.toInt ∧ u_x0_16.toInt ≤ 1) ∧ (0 ≤ u_x0_17.toInt ∧ u_x0_17.toInt ≤ 1) ∧ (0 ≤ u_x0_18.toInt ∧ u_x0_18.toInt ≤ 1073741823) ∧ (∀ i : Nat, (0 ≤ (u_y1 i).toInt ∧ (u_y1 i).toInt ≤ 1)) ∧ (∀ i : Nat, (0 ≤ (u_y2 i).toInt ∧ (u_y2 i).toInt ≤ 1073741823)) ∧ (∀ i : Nat, (0 ≤ (u_y3 i).toInt ∧ (u_y3 i).toInt ≤ 1)) ∧ (∀ i : Nat, ((0 ≤ (u_y4 i).toInt ∧ (u_y4 i).toInt ≤ 1073741823) ∧ ((1 ≤ (i : Int) ∧ (i : Int) ≤ 6) → (u_y4 i).toInt ≤ 4095))) ∧ (∀ i : Nat, (0 ≤ (u_y5 i).toInt ∧ (u_y5 i).toInt ≤ 1)) ∧ (∀ i : Nat, (0 ≤ (u_y6 i).toInt ∧ (u_y6 i).toInt ≤ 1073741823)) ∧ (∀ i : Nat, (0 ≤ (u_y7 i).toInt ∧ (u_y7 i).toInt ≤ 40)) ∧ (∀ i : Nat, (0 ≤ (u_y8 i).toInt ∧ (u_y8 i).toInt ≤ 63)) ∧ (∀ i : Nat, (0 ≤ (u_y9 i).toInt ∧ (u_y9 i).toInt ≤ 63)) ∧ (0 ≤ ur.toInt ∧ ur.toInt ≤ 5) ∧ va_P D classes (wS50 cI cJ cZ cB p0 p1 p2 p3 p4 p5 p6 p7 p8 p9 p10 p11 p12 p13 p14 p15 p16 p17 p18 p19 p20 p21 p22 p23 p24 p25 u_x0_4 u_x0_5 u_x0_6 u_x0_7 x0_8 u_x0_12 u_x0_13 u_x0_14 u_x0_15 u_x0_16 u_x0_17 u_x0_18 x0_22 x0_23 x0_24 x0_25 x0_26 x0_27 x0_28 x0_29 x0_30 x0_31 x0_32 x0_36 x0_39 x0_40 x0_44 x0_49 x0_51 x0_53 x0_54 x0_55 x0_56 x0_57 x0_58 x0_59 x0_60 x0_61 x0_62 u_y1 u_y2 u_y3 u_y4 u_y5 u_y6 u_y7 u_y8 u_y9 y10 y11 y12 y13 y14 y15 y16 y17 y18 y19 y20 y21 y22 y23 y24 y25) t.heap ∧ va_D (va_A (wS50 cI cJ cZ cB p0 p1 p2 p3 p4 p5 p6 p7 p8 p9 p10 p11 p12 p13 p14 p15 p16 p17 p18 p19 p20 p21 p22 p23 p24 p25 x0_4 x0_5 x0_6 x0_7 x0_8 x0_12 x0_13 x0_14 x0_15 x0_16 x0_17 x0_18 x0_22 x0_23 x0_24 x0_25 x0_26 x0_27 x0_28 x0_29 x0_30 x0_31 x0_32 x0_36 x0_39 x0_40 x0_44 x0_49 x0_51 x0_53 x0_54 x0_55 x0_56 x0_57 x0_58 x0_59 x0_60 x0_61 x0_62 y1 y2 y3 y4 y5 y6 y7 y8 y9 y10 y11 y12 y13 y14 y15 y16 y17 y18 y19 y20 y21 y22 y23 y24 y25) sz) (wS50 cI cJ cZ cB p0 p1 p2 p3 p4 p5 p6 p7 p8 p9 p10 p11 p12 p13 p14 p15 p16 p17 p18 p19 p20 p21 p22 p23 p24 p25 u_x0_4 u_x0_5 u_x0_6 u_x0_7 x0_8 u_x0_12 u_x0_13 u_x0_14 u_x0_15 u_x0_16 u_x0_17 u_x0_18 x0_22 x0_23 x0_24 x0_25 x0_26 x0_27 x0_28 x0_29 x0_30 x0_31 x0_32 x0_36 x0_39 x0_40 x0_44 x0_49 x0_51 x0_53 x0_54 x0_55 x0_56 x0_57 x0_58 x0_59 x0_60 x0_61 x0_62 u_y1 u_y2 u_y3 u_y4 u_y5 u_y6 u_y7 u_y8 u_y9 y10 y11 y12 y13 y14 y15 y16 y17 y18 y19 y20 y21 y22 y23 y24 y25)) (va_A (wS50 cI cJ cZ cB p0 p1 p2 p3 p4 p5 p6 p7 p8 p9 p10 p11 p12 p13 p14 p15 p16 p17 p18 p19 p20 p21 p22 p23 p24 p25 x0_4 x0_5 x0_6 x0_7 x0_8 x0_12 x0_13 x0_14 x0_15 x0_16 x0_17 x0_18 x0_22 x0_23 x0_24 x0_25 x0_26 x0_27 x0_28 x0_29 x0_30 x0_31 x0_32 x0_36 x0_39 x0_40 x0_44 x0_49 x0_51 x0_53 x0_54 x0_55 x0_56 x0_57 x0_58 x0_59 x0_60 x0_61 x0_62 y1 y2 y3 y4 y5 y6 y7 y8 y9 y10 y11 y12 y13 y14 y15 y16 y17 y18 y19 y20 y21 y22 y23 y24 y25) sz)) 0 0 (va_A (wS50 cI cJ cZ cB p0 p1 p2 p3 p4 p5 p6 p7 p8 p9 p10 p11 p12 p13 p14 p15 p16 p17 p18 p19 p20 p21 p22 p23 p24 p25 x0_4 x0_5 x0_6 x0_7 x0_8 x0_12 x0_13 x0_14 x0_15 x0_16 x0_17 x0_18 x0_22 x0_23 x0_24 x0_25 x0_26 x0_27 x0_28 x0_29 x0_30 x0_31 x0_32 x0_36 x0_39 x0_40 x0_44 x0_49 x0_51 x0_53 x0_54 x0_55 x0_56 x0_57 x0_58 x0_59 x0_60 x0_61 x0_62 y1 y2 y3 y4 y5 y6 y7 y8 y9 y10 y11 y12 y13 y14 y15 y16 y17 y18 y19 y20 y21 y22 y23 y24 y25) sz) := by
  refine Met.ofW (cc := b_X_one) (maxL := 3) (ret := (some .int)) (by decide) rfl ?_
  intro p e s m args below meth c s₁ B hml hv
  obtain ⟨rfl, hsz, hK, hP, hD0⟩ := hv
  subst hsz
  have hD := hD0.self (sz := s.heap.size)
  generalize hAe : va_A (wS50 cI cJ cZ cB p0 p1 p2 p3 p4 p5 p6 p7 p8 p9 p10 p11 p12 p13 p14 p15 p16 p17 p18 p19 p20 p21 p22 p23 p24 p25 x0_4 x0_5 x0_6 x0_7 x0_8 x0_12 x0_13 x0_14 x0_15 x0_16 x0_17 x0_18 x0_22 x0_23 x0_24 x0_25 x0_26 x0_27 x0_28 x0_29 x0_30 x0_31 x0_32 x0_36 x0_39 x0_40 x0_44 x0_49 x0_51 x0_53 x0_54 x0_55 x0_56 x0_57 x0_58 x0_59 x0_60 x0_61 x0_62 y1 y2 y3 y4 y5 y6 y7 y8 y9 y10 y11 y12 y13 y14 y15 y16 y17 y18 y19 y20 y21 y22 y23 y24 y25) s.heap.size = A at hD ⊢
  have hA : ∀ q : Nat, s.heap.size ≤ q → A q := fun q h => by rw [← hAe]; exact Or.inr h
  clear hAe hD0
  have hS : va_S A s.heap s.heap [] := va_S.rf
  have hx := B.exec
  have hb := B.bytes
  have hr := B.returns
  have hts := atoms_spec (ws := .code y_X_one b_X_one 3 (some .int) :: tb) B.pre
  have hk : ∀ w ∈ tb, w.before [.ref p0].toArray s = true := fun w h => hts w (List.mem_cons_of_mem _ h)
  have hown : s.vm.findClass "SignMachineModel" = some m.cls := findClass_of_methodNamed B.named
  have hlocks := B.notSynchronized
  have hl := lv_entry ([.ref p0]) (n := 3) (Nat.le_of_ble_eq_true rfl)
  rw [lg_entry_eq]
  generalize (lg_sl ([.ref p0]) ++ List.replicate (3 - (lg_sl ([.ref p0])).length) Slot.unset).toArray = ls at hl ⊢
  have hl : lv_has ls 3 [(0, .ref p0)] := hl
  clear hts B
  refine lv_aload_n hx hb d_X_one_0 rfl (lv_at hl 0 rfl) ?_
  refine sn_i (va_runV (C := "SignMachineModel") (As := []) (rest := []) ⟨hx, hb, hml, hown, hk⟩ (c_X_judge l D cI cJ cZ cB p0 p1 p2 p3 p4 p5 p6 p7 p8 p9 p10 p11 p12 p13 p14 p15 p16 p17 p18 p19 p20 p21 p22 p23 p24 p25 s.heap.size x0_4 x0_5 x0_6 x0_7 x0_8 x0_12 x0_13 x0_14 x0_15 x0_16 x0_17 x0_18 x0_22 x0_23 x0_24 x0_25 x0_26 x0_27 x0_28 x0_29 x0_30 x0_31 x0_32 x0_36 x0_39 x0_40 x0_44 x0_49 x0_51 x0_53 x0_54 x0_55 x0_56 x0_57 x0_58 x0_59 x0_60 x0_61 x0_62 y1 y2 y3 y4 y5 y6 y7 y8 y9 y10 y11 y12 y13 y14 y15 y16 y17 y18 y19 y20 y21 y22 y23 y24 y25  Rx0_4 Rx0_12 Rx0_13 Rx0_14 Rx0_15 Rx0_16 Rx0_17 Rx0_18 Ay1 Ay2 Ay3 Ay4 Ay7) (v_X_judge hk k_1372 ⟨Nat.le_of_ble_eq_true rfl, Nat.le_of_ble_eq_true rfl⟩) (pM_v hK hP hD (ci := 7) (q0 := 0) rfl rfl rfl) rfl rfl hl.1 rfl (lv_room (Nat.le_of_ble_eq_true rfl)) d_X_one_1 ⟨Nat.le_of_ble_eq_true rfl, Nat.le_of_ble_eq_true rfl⟩) hS hA hD (fun rz1 u t H locs hr0 ht hB hFr hS => ?_)
  subst hr0
  obtain ⟨x0_12z1, x0_13z1, x0_14z1, x0_15z1, x0_16z1, x0_17z1, x0_18z1, Rx0_12z1, Rx0_13z1, Rx0_14z1, Rx0_15z1, Rx0_16z1, Rx0_17z1, Rx0_18z1, F0z1, F1z1, F2z1, F3z1, F4z1, F5z1, F6z1, F7z1, F8z1, F9z1, F10z1, F11z1, F12z1, F13z1, hP, hD⟩ := hB
  have F0z1 : 0 ≤ rz1.toInt ∧ rz1.toInt ≤ 5 := F0z1
  have F1z1 : rz1.toInt = 0 → x0_4.toInt ≤ 3999 := F1z1
  have F2z1 : hid (rz1.toInt = 0 → (((1 ≤ x0_12z1.toInt ∧ x0_12z1.toInt ≤ 4) ∨ (8 ≤ x0_12z1.toInt ∧ x0_12z1.toInt ≤ 33) ∨ 56 ≤ x0_12z1.toInt) → (x0_13z1.toInt / 8 ≤ x0_13z1.toInt % 8 ∧ x0_13z1.toInt % 8 ≤ 5))) := F2z1
  have F3z1 : hid (rz1.toInt = 0 → ((34 ≤ x0_12z1.toInt ∧ x0_12z1.toInt ≤ 38) → x0_13z1.toInt ≤ 1)) := F3z1
  have F4z1 : hid (rz1.toInt = 0 → ((((1 ≤ x0_12z1.toInt ∧ x0_12z1.toInt ≤ 4) ∨ (8 ≤ x0_12z1.toInt ∧ x0_12z1.toInt ≤ 33) ∨ 56 ≤ x0_12z1.toInt) ∨ x0_12z1.toInt = 34 ∨ (38 ≤ x0_12z1.toInt ∧ x0_12z1.toInt ≤ 47)) → (0 ≤ x0_15z1.toInt ∧ x0_15z1.toInt ≤ 3999))) := F4z1
  have F5z1 : hid (rz1.toInt = 0 → ((x0_12z1.toInt = 7 ∧ 0 < x0_13z1.toInt) → (0 ≤ x0_15z1.toInt ∧ x0_15z1.toInt + x0_13z1.toInt ≤ 4000 ∧ 0 ≤ rv y3 y4 ((1 : Int32)).toNatClampNeg ∧ rv y3 y4 ((1 : Int32)).toNatClampNeg + x0_13z1.toInt ≤ 4000))) := F5z1
  have F6z1 : hid (rz1.toInt = 0 → ((x0_12z1.toInt = 36 ∨ x0_12z1.toInt = 37) → (0 ≤ x0_15z1.toInt ∧ x0_15z1.toInt ≤ 3900))) := F6z1
  have F7z1 : hid (rz1.toInt = 0 → ((8 ≤ x0_12z1.toInt ∧ x0_12z1.toInt ≤ 23 ∧ x0_12z1.toInt % 8 ≠ 0 ∧ x0_12z1.toInt % 8 ≠ 7) → tvf y2 x0_15z1 x0_13z1 ≤ 4095)) := F7z1
  have F8z1 : hid (rz1.toInt = 0 → ((49 ≤ x0_12z1.toInt ∧ x0_12z1.toInt ≤ 54 ∧ x0_13z1.toInt = 0) → (-4095 ≤ rv y3 y4 (x0_12z1 - (48 : Int32)).toNatClampNeg + x0_15z1.toInt ∧ rv y3 y4 (x0_12z1 - (48 : Int32)).toNatClampNeg + x0_15z1.toInt ≤ 4095))) := F8z1
  have F9z1 : hid (rz1.toInt = 0 → ((49 ≤ x0_12z1.toInt ∧ x0_12z1.toInt ≤ 54 ∧ x0_13z1.toInt = 1) → (-4095 ≤ rv y3 y4 (x0_12z1 - (48 : Int32)).toNatClampNeg - x0_15z1.toInt ∧ rv y3 y4 (x0_12z1 - (48 : Int32)).toNatClampNeg - x0_15z1.toInt ≤ 4095))) := F9z1
  have F10z1 : hid (rz1.toInt = 0 → ((49 ≤ x0_12z1.toInt ∧ x0_12z1.toInt ≤ 54 ∧ 2 ≤ x0_13z1.toInt) → (-4095 ≤ x0_15z1.toInt ∧ x0_15z1.toInt ≤ 4095))) := F10z1
  have F11z1 : hid (rz1.toInt = 0 → (x0_12z1.toInt = 35 → (x0_15z1.toInt = 0 ∨ (0 ≤ (y7 (x0_13z1).toNatClampNeg).toInt + x0_15z1.toInt ∧ (y7 (x0_13z1).toNatClampNeg).toInt + x0_15z1.toInt ≤ 40)))) := F11z1
  have F12z1 : hid (rz1.toInt = 0 → ((x0_12z1.toInt = 36 ∨ x0_12z1.toInt = 37) → (y7 (x0_13z1).toNatClampNeg).toInt ≤ 39)) := F12z1
  have F13z1 : hid (rz1.toInt = 0 → ((x0_15z1.toInt < 0 → x0_16z1.toInt = 1) ∧ (0 < x0_15z1.toInt → x0_16z1.toInt = 0))) := F13z1
  rw [ht] at hP
  have hD := dwk hD hFr
  clear ht hFr
  have hP : va_P D classes (wS50 cI cJ cZ cB p0 p1 p2 p3 p4 p5 p6 p7 p8 p9 p10 p11 p12 p13 p14 p15 p16 p17 p18 p19 p20 p21 p22 p23 p24 p25 x0_4 x0_5 x0_6 x0_7 x0_8 x0_12z1 x0_13z1 x0_14z1 x0_15z1 x0_16z1 x0_17z1 x0_18z1 x0_22 x0_23 x0_24 x0_25 x0_26 x0_27 x0_28 x0_29 x0_30 x0_31 x0_32 x0_36 x0_39 x0_40 x0_44 x0_49 x0_51 x0_53 x0_54 x0_55 x0_56 x0_57 x0_58 x0_59 x0_60 x0_61 x0_62 y1 y2 y3 y4 y5 y6 y7 y8 y9 y10 y11 y12 y13 y14 y15 y16 y17 y18 y19 y20 y21 y22 y23 y24 y25) H := hP
  have hD : va_D A (wS50 cI cJ cZ cB p0 p1 p2 p3 p4 p5 p6 p7 p8 p9 p10 p11 p12 p13 p14 p15 p16 p17 p18 p19 p20 p21 p22 p23 p24 p25 x0_4 x0_5 x0_6 x0_7 x0_8 x0_12z1 x0_13z1 x0_14z1 x0_15z1 x0_16z1 x0_17z1 x0_18z1 x0_22 x0_23 x0_24 x0_25 x0_26 x0_27 x0_28 x0_29 x0_30 x0_31 x0_32 x0_36 x0_39 x0_40 x0_44 x0_49 x0_51 x0_53 x0_54 x0_55 x0_56 x0_57 x0_58 x0_59 x0_60 x0_61 x0_62 y1 y2 y3 y4 y5 y6 y7 y8 y9 y10 y11 y12 y13 y14 y15 y16 y17 y18 y19 y20 y21 y22 y23 y24 y25) := hD
  refine lv_istore_n (lv' := [(1, .int rz1), (0, .ref p0)]) hx hb d_X_one_4 rfl hl (by decide) rfl (fun ls hl => ?_)
  refine lv_iload_n hx hb d_X_one_5 rfl (lv_at hl 0 rfl) ?_
  refine lv_if_le (tgt := 11) hx hb d_X_one_6 (by decide) (fun c2 => ?_) (fun c2 => ?_)
  · have gc2 : rz1.toInt ≤ (0 : Int) := c_le c2
    have R3 : 0 ≤ rz1.toInt ∧ rz1.toInt ≤ 0 := rf_leX F0z1 (show 0 ≤ (0 : Int) ∧ (0 : Int) ≤ 0 from by decide) gc2 (by decide) (by decide)
    refine lv_aload_n hx hb d_X_one_11 rfl (lv_at hl 1 rfl) ?_
    refine va_get (D := D) (ci := 7) (v := .int x0_12z1) (C := "SignMachineModel") (T := F_X) (N := 64) hx hb hk fi_X hown hK.1 hP 0 rfl rfl 12 (by decide) (hk _ k_1133) (fun _ h9 => h9) rfl d_X_one_12 ?_
    refine lv_iconst (v := 5) hx hb d_X_one_15 (by decide) ?_
    refine lv_icmp_ne (tgt := 31) hx hb d_X_one_16 (by decide) (fun c4 => ?_) (fun c4 => ?_)
    · have gc4 : x0_12z1.toInt ≠ (5 : Int) := c_ne c4
      refine lv_iconst (v := 0) hx hb d_X_one_31 (by decide) ?_
      refine lv_istore_n (lv' := [(2, .int (0 : Int32)), (1, .int rz1), (0, .ref p0)]) hx hb d_X_one_32 rfl hl (by decide) rfl (fun ls hl => ?_)
      refine lv_aload_n hx hb d_X_one_33 rfl (lv_at hl 2 rfl) ?_
      refine sn_i (va_runV (C := "SignMachineModel") (As := []) (rest := []) ⟨hx, hb, hml, hown, hk⟩ (c_X_done l D cI cJ cZ cB p0 p1 p2 p3 p4 p5 p6 p7 p8 p9 p10 p11 p12 p13 p14 p15 p16 p17 p18 p19 p20 p21 p22 p23 p24 p25 H.size x0_4 x0_5 x0_6 x0_7 x0_8 x0_12z1 x0_13z1 x0_14z1 x0_15z1 x0_16z1 x0_17z1 x0_18z1 x0_22 x0_23 x0_24 x0_25 x0_26 x0_27 x0_28 x0_29 x0_30 x0_31 x0_32 x0_36 x0_39 x0_40 x0_44 x0_49 x0_51 x0_53 x0_54 x0_55 x0_56 x0_57 x0_58 x0_59 x0_60 x0_61 x0_62 y1 y2 y3 y4 y5 y6 y7 y8 y9 y10 y11 y12 y13 y14 y15 y16 y17 y18 y19 y20 y21 y22 y23 y24 y25  Rx0_4 Rx0_12z1 Rx0_13z1 Rx0_15z1 Rx0_16z1 Rx0_17z1 Rx0_18z1 Ay1 Ay2 Ay3 Ay4 Ay5 Ay6 Ay7 Ay8 Ay9 (show x0_4.toInt ≤ 3999 from by omega) (F13z1 (by omega)) (F2z1 (by omega)) (F3z1 (by omega)) (F4z1 (by omega)) (F5z1 (by omega)) (F6z1 (by omega)) (F7z1 (by omega)) (F8z1 (by omega)) (F9z1 (by omega)) (F10z1 (by omega)) (F11z1 (by omega)) (F12z1 (by omega))) (v_X_done hk k_1424 ⟨Nat.le_of_ble_eq_true rfl, Nat.le_of_ble_eq_true rfl⟩) (pM_v hK hP hD (ci := 7) (q0 := 0) rfl rfl rfl) rfl rfl hl.1 rfl (lv_room (Nat.le_of_ble_eq_true rfl)) d_X_one_34 ⟨Nat.le_of_ble_eq_true rfl, Nat.le_of_ble_eq_true rfl⟩) hS hA hD (fun rz5 u t H locs hr0 ht hB hFr hS => ?_)
      subst hr0
      obtain ⟨x0_4z5, x0_5z5, x0_6z5, x0_7z5, x0_17z5, x0_18z5, y1z5, y2z5, y3z5, y4z5, y5z5, y6z5, y7z5, y8z5, y9z5, Rx0_4z5, Rx0_17z5, Rx0_18z5, Ay1z5, Ay2z5, Ay3z5, Ay4z5, Ay5z5, Ay6z5, Ay7z5, Ay8z5, Ay9z5, F0z5, F1z5, hP, hD⟩ := hB
      have F0z5 : 0 ≤ rz5.toInt ∧ rz5.toInt ≤ 1 := F0z5
      have F1z5 : rz5.toInt = 1 → x0_4z5.toInt ≤ 3999 := F1z5
      rw [ht] at hP
      have hD := dwk hD hFr
      clear ht hFr
      have hP : va_P D classes (wS50 cI cJ cZ cB p0 p1 p2 p3 p4 p5 p6 p7 p8 p9 p10 p11 p12 p13 p14 p15 p16 p17 p18 p19 p20 p21 p22 p23 p24 p25 x0_4z5 x0_5z5 x0_6z5 x0_7z5 x0_8 x0_12z1 x0_13z1 x0_14z1 x0_15z1 x0_16z1 x0_17z5 x0_18z5 x0_22 x0_23 x0_24 x0_25 x0_26 x0_27 x0_28 x0_29 x0_30 x0_31 x0_32 x0_36 x0_39 x0_40 x0_44 x0_49 x0_51 x0_53 x0_54 x0_55 x0_56 x0_57 x0_58 x0_59 x0_60 x0_61 x0_62 y1z5 y2z5 y3z5 y4z5 y5z5 y6z5 y7z5 y8z5 y9z5 y10 y11 y12 y13 y14 y15 y16 y17 y18 y19 y20 y21 y22 y23 y24 y25) H := hP
      have hD : va_D A (wS50 cI cJ cZ cB p0 p1 p2 p3 p4 p5 p6 p7 p8 p9 p10 p11 p12 p13 p14 p15 p16 p17 p18 p19 p20 p21 p22 p23 p24 p25 x0_4z5 x0_5z5 x0_6z5 x0_7z5 x0_8 x0_12z1 x0_13z1 x0_14z1 x0_15z1 x0_16z1 x0_17z5 x0_18z5 x0_22 x0_23 x0_24 x0_25 x0_26 x0_27 x0_28 x0_29 x0_30 x0_31 x0_32 x0_36 x0_39 x0_40 x0_44 x0_49 x0_51 x0_53 x0_54 x0_55 x0_56 x0_57 x0_58 x0_59 x0_60 x0_61 x0_62 y1z5 y2z5 y3z5 y4z5 y5z5 y6z5 y7z5 y8z5 y9z5 y10 y11 y12 y13 y14 y15 y16 y17 y18 y19 y20 y21 y22 y23 y24 y25) := hD
      refine lv_if_eq (tgt := 50) hx hb d_X_one_37 (by decide) (fun c6 => ?_) (fun c6 => ?_)
      · have gc6 : rz5.toInt = (0 : Int) := c_eq c6
        have R7 : 0 ≤ rz5.toInt ∧ rz5.toInt ≤ 0 := rf_eqX F0z5 (show 0 ≤ (0 : Int) ∧ (0 : Int) ≤ 0 from by decide) gc6 (by decide) (by decide)
        refine lv_iload_n hx hb d_X_one_50 rfl (lv_at hl 0 rfl) ?_
        refine lv_if_eq (tgt := 58) hx hb d_X_one_51 (by decide) (fun c8 => ?_) (fun c8 => absurd (show (0 : Int32) = (0 : Int32) from (by decide)) c8)
        refine lv_iconst (v := 0) hx hb d_X_one_58 (by decide) ?_
        exact W.iret (v := (0 : Int32)) hx hb hr (fun t ht hW => ⟨⟨(0 : Int32), (0 : Int32), rfl, rfl, ⟨x0_4z5, x0_5z5, x0_6z5, x0_7z5, x0_12z1, x0_13z1, x0_14z1, x0_15z1, x0_16z1, x0_17z5, x0_18z5, y1z5, y2z5, y3z5, y4z5, y5z5, y6z5, y7z5, y8z5, y9z5, Rx0_4z5, Rx0_12z1, Rx0_13z1, Rx0_14z1, Rx0_15z1, Rx0_16z1, Rx0_17z5, Rx0_18z5, Ay1z5, Ay2z5, Ay3z5, Ay4z5, Ay5z5, Ay6z5, Ay7z5, Ay8z5, Ay9z5, (by decide), by show va_P D classes _ t.heap; rw [ht]; exact hP, hD⟩⟩, hS.F ht⟩) hS.2.2 d_X_one_59
      · have gc6 : rz5.toInt ≠ (0 : Int) := c_ne c6
        have R9 : 1 ≤ rz5.toInt ∧ rz5.toInt ≤ 1 := rf_neX F0z5 (show 0 ≤ (0 : Int) ∧ (0 : Int) ≤ 0 from by decide) gc6 (by decide) (by decide)
        refine lv_aload_n hx hb d_X_one_40 rfl (lv_at hl 2 rfl) ?_
        refine lv_dup hx hb d_X_one_41 rfl ?_
        refine va_get (D := D) (ci := 7) (v := .int x0_4z5) (C := "SignMachineModel") (T := F_X) (N := 64) hx hb hk fi_X hown hK.1 hP 0 rfl rfl 4 (by decide) (hk _ k_1125) (fun _ h9 => h9) rfl d_X_one_42 ?_
        refine lv_iconst (v := 1) hx hb d_X_one_45 (by decide) ?_
        refine lv_iadd hx hb d_X_one_46 ?_
        refine lv_topi (fun v10 hv10 => ?_)
        obtain ⟨ev10, Rv10⟩ : v10.toInt = x0_4z5.toInt + (1 : Int) ∧ (1 ≤ v10.toInt ∧ v10.toInt ≤ 4001) := ad3 hv10 Rx0_4z5 (show 1 ≤ (1 : Int32).toInt ∧ (1 : Int32).toInt ≤ 1 from by decide) (by decide) (by decide) (by decide) (by decide)
        refine va_put (D := D) (ci := 7) (v := .int v10) (ty := .int) (C := "SignMachineModel") (T := F_X) (N := 64) hx hb hk fi_X ft_X ft_X_ok fn_X hown hK.1 hP hD hS 0 rfl rfl 4 (by decide) (hk _ k_1125) (fun _ h9 => h9) rfl (by decide +kernel) rfl rfl (Nat.le_of_ble_eq_true rfl) d_X_one_47 (fun H locs hP hD hS => ?_)
        have hP : va_P D classes (wS50 cI cJ cZ cB p0 p1 p2 p3 p4 p5 p6 p7 p8 p9 p10 p11 p12 p13 p14 p15 p16 p17 p18 p19 p20 p21 p22 p23 p24 p25 v10 x0_5z5 x0_6z5 x0_7z5 x0_8 x0_12z1 x0_13z1 x0_14z1 x0_15z1 x0_16z1 x0_17z5 x0_18z5 x0_22 x0_23 x0_24 x0_25 x0_26 x0_27 x0_28 x0_29 x0_30 x0_31 x0_32 x0_36 x0_39 x0_40 x0_44 x0_49 x0_51 x0_53 x0_54 x0_55 x0_56 x0_57 x0_58 x0_59 x0_60 x0_61 x0_62 y1z5 y2z5 y3z5 y4z5 y5z5 y6z5 y7z5 y8z5 y9z5 y10 y11 y12 y13 y14 y15 y16 y17 y18 y19 y20 y21 y22 y23 y24 y25) H := hP
        have hD : va_D A (wS50 cI cJ cZ cB p0 p1 p2 p3 p4 p5 p6 p7 p8 p9 p10 p11 p12 p13 p14 p15 p16 p17 p18 p19 p20 p21 p22 p23 p24 p25 v10 x0_5z5 x0_6z5 x0_7z5 x0_8 x0_12z1 x0_13z1 x0_14z1 x0_15z1 x0_16z1 x0_17z5 x0_18z5 x0_22 x0_23 x0_24 x0_25 x0_26 x0_27 x0_28 x0_29 x0_30 x0_31 x0_32 x0_36 x0_39 x0_40 x0_44 x0_49 x0_51 x0_53 x0_54 x0_55 x0_56 x0_57 x0_58 x0_59 x0_60 x0_61 x0_62 y1z5 y2z5 y3z5 y4z5 y5z5 y6z5 y7z5 y8z5 y9z5 y10 y11 y12 y13 y14 y15 y16 y17 y18 y19 y20 y21 y22 y23 y24 y25) := hD
        refine lv_iload_n hx hb d_X_one_50 rfl (lv_at hl 0 rfl) ?_
        refine lv_if_eq (tgt := 58) hx hb d_X_one_51 (by decide) (fun c11 => ?_) (fun c11 => absurd (show (0 : Int32) = (0 : Int32) from (by decide)) c11)
        refine lv_iconst (v := 0) hx hb d_X_one_58 (by decide) ?_
        exact W.iret (v := (0 : Int32)) hx hb hr (fun t ht hW => ⟨⟨(0 : Int32), (0 : Int32), rfl, rfl, ⟨v10, x0_5z5, x0_6z5, x0_7z5, x0_12z1, x0_13z1, x0_14z1, x0_15z1, x0_16z1, x0_17z5, x0_18z5, y1z5, y2z5, y3z5, y4z5, y5z5, y6z5, y7z5, y8z5, y9z5, (by omega), Rx0_12z1, Rx0_13z1, Rx0_14z1, Rx0_15z1, Rx0_16z1, Rx0_17z5, Rx0_18z5, Ay1z5, Ay2z5, Ay3z5, Ay4z5, Ay5z5, Ay6z5, Ay7z5, Ay8z5, Ay9z5, (by decide), by show va_P D classes _ t.heap; rw [ht]; exact hP, hD⟩⟩, hS.F ht⟩) hS.2.2 d_X_one_59
    · have gc4 : x0_12z1.toInt = (5 : Int) := c_eq c4
      have R12 : 5 ≤ x0_12z1.toInt ∧ x0_12z1.toInt ≤ 5 := rf_eqX Rx0_12z1 (show 5 ≤ (5 : Int) ∧ (5 : Int) ≤ 5 from by decide) gc4 (by decide) (by decide)
      refine lv_aload_n hx hb d_X_one_19 rfl (lv_at hl 1 rfl) ?_
      refine va_get (D := D) (ci := 7) (v := .int x0_13z1) (C := "SignMachineModel") (T := F_X) (N := 64) hx hb hk fi_X hown hK.1 hP 0 rfl rfl 13 (by decide) (hk _ k_1134) (fun _ h9 => h9) rfl d_X_one_20 ?_
      refine lv_iconst (v := 2) hx hb d_X_one_23 (by decide) ?_
      refine lv_icmp_ne (tgt := 31) hx hb d_X_one_24 (by decide) (fun c13 => ?_) (fun c13 => ?_)
      · have gc13 : x0_13z1.toInt ≠ (2 : Int) := c_ne c13
        refine lv_iconst (v := 0) hx hb d_X_one_31 (by decide) ?_
        refine lv_istore_n (lv' := [(2, .int (0 : Int32)), (1, .int rz1), (0, .ref p0)]) hx hb d_X_one_32 rfl hl (by decide) rfl (fun ls hl => ?_)
        refine lv_aload_n hx hb d_X_one_33 rfl (lv_at hl 2 rfl) ?_
        refine sn_i (va_runV (C := "SignMachineModel") (As := []) (rest := []) ⟨hx, hb, hml, hown, hk⟩ (c_X_done l D cI cJ cZ cB p0 p1 p2 p3 p4 p5 p6 p7 p8 p9 p10 p11 p12 p13 p14 p15 p16 p17 p18 p19 p20 p21 p22 p23 p24 p25 H.size x0_4 x0_5 x0_6 x0_7 x0_8 x0_12z1 x0_13z1 x0_14z1 x0_15z1 x0_16z1 x0_17z1 x0_18z1 x0_22 x0_23 x0_24 x0_25 x0_26 x0_27 x0_28 x0_29 x0_30 x0_31 x0_32 x0_36 x0_39 x0_40 x0_44 x0_49 x0_51 x0_53 x0_54 x0_55 x0_56 x0_57 x0_58 x0_59 x0_60 x0_61 x0_62 y1 y2 y3 y4 y5 y6 y7 y8 y9 y10 y11 y12 y13 y14 y15 y16 y17 y18 y19 y20 y21 y22 y23 y24 y25  Rx0_4 (rgw R12 (by decide) (by decide)) Rx0_13z1 Rx0_15z1 Rx0_16z1 Rx0_17z1 Rx0_18z1 Ay1 Ay2 Ay3 Ay4 Ay5 Ay6 Ay7 Ay8 Ay9 (show x0_4.toInt ≤ 3999 from by omega) (F13z1 (by omega)) (F2z1 (by omega)) (F3z1 (by omega)) (F4z1 (by omega)) (F5z1 (by omega)) (F6z1 (by omega)) (F7z1 (by omega)) (F8z1 (by omega)) (F9z1 (by omega)) (F10z1 (by omega)) (F11z1 (by omega)) (F12z1 (by omega))) (v_X_done hk k_1424 ⟨Nat.le_of_ble_eq_true rfl, Nat.le_of_ble_eq_true rfl⟩) (pM_v hK hP hD (ci := 7) (q0 := 0) rfl rfl rfl) rfl rfl hl.1 rfl (lv_room (Nat.le_of_ble_eq_true rfl)) d_X_one_34 ⟨Nat.le_of_ble_eq_true rfl, Nat.le_of_ble_eq_true rfl⟩) hS hA hD (fun rz14 u t H locs hr0 ht hB hFr hS => ?_)
        subst hr0
        obtain ⟨x0_4z14, x0_5z14, x0_6z14, x0_7z14, x0_17z14, x0_18z14, y1z14, y2z14, y3z14, y4z14, y5z14, y6z14, y7z14, y8z14, y9z14, Rx0_4z14, Rx0_17z14, Rx0_18z14, Ay1z14, Ay2z14, Ay3z14, Ay4z14, Ay5z14, Ay6z14, Ay7z14, Ay8z14, Ay9z14, F0z14, F1z14, hP, hD⟩ := hB
        have F0z14 : 0 ≤ rz14.toInt ∧ rz14.toInt ≤ 1 := F0z14
        have F1z14 : rz14.toInt = 1 → x0_4z14.toInt ≤ 3999 := F1z14
        rw [ht] at hP
        have hD := dwk hD hFr
        clear ht hFr
        have hP : va_P D classes (wS50 cI cJ cZ cB p0 p1 p2 p3 p4 p5 p6 p7 p8 p9 p10 p11 p12 p13 p14 p15 p16 p17 p18 p19 p20 p21 p22 p23 p24 p25 x0_4z14 x0_5z14 x0_6z14 x0_7z14 x0_8 x0_12z1 x0_13z1 x0_14z1 x0_15z1 x0_16z1 x0_17z14 x0_18z14 x0_22 x0_23 x0_24 x0_25 x0_26 x0_27 x0_28 x0_29 x0_30 x0_31 x0_32 x0_36 x0_39 x0_40 x0_44 x0_49 x0_51 x0_53 x0_54 x0_55 x0_56 x0_57 x0_58 x0_59 x0_60 x0_61 x0_62 y1z14 y2z14 y3z14 y4z14 y5z14 y6z14 y7z14 y8z14 y9z14 y10 y11 y12 y13 y14 y15 y16 y17 y18 y19 y20 y21 y22 y23 y24 y25) H := hP
        have hD : va_D A (wS50 cI cJ cZ cB p0 p1 p2 p3 p4 p5 p6 p7 p8 p9 p10 p11 p12 p13 p14 p15 p16 p17 p18 p19 p20 p21 p22 p23 p24 p25 x0_4z14 x0_5z14 x0_6z14 x0_7z14 x0_8 x0_12z1 x0_13z1 x0_14z1 x0_15z1 x0_16z1 x0_17z14 x0_18z14 x0_22 x0_23 x0_24 x0_25 x0_26 x0_27 x0_28 x0_29 x0_30 x0_31 x0_32 x0_36 x0_39 x0_40 x0_44 x0_49 x0_51 x0_53 x0_54 x0_55 x0_56 x0_57 x0_58 x0_59 x0_60 x0_61 x0_62 y1z14 y2z14 y3z14 y4z14 y5z14 y6z14 y7z14 y8z14 y9z14 y10 y11 y12 y13 y14 y15 y16 y17 y18 y19 y20 y21 y22 y23 y24 y25) := hD
        refine lv_if_eq (tgt := 50) hx hb d_X_one_37 (by decide) (fun c15 => ?_) (fun c15 => ?_)
        · have gc15 : rz14.toInt = (0 : Int) := c_eq c15
          have R16 : 0 ≤ rz14.toInt ∧ rz14.toInt ≤ 0 := rf_eqX F0z14 (show 0 ≤ (0 : Int) ∧ (0 : Int) ≤ 0 from by decide) gc15 (by decide) (by decide)
          refine lv_iload_n hx hb d_X_one_50 rfl (lv_at hl 0 rfl) ?_
          refine lv_if_eq (tgt := 58) hx hb d_X_one_51 (by decide) (fun c17 => ?_) (fun c17 => absurd (show (0 : Int32) = (0 : Int32) from (by decide)) c17)
          refine lv_iconst (v := 0) hx hb d_X_one_58 (by decide) ?_
          exact W.iret (v := (0 : Int32)) hx hb hr (fun t ht hW => ⟨⟨(0 : Int32), (0 : Int32), rfl, rfl, ⟨x0_4z14, x0_5z14, x0_6z14, x0_7z14, x0_12z1, x0_13z1, x0_14z1, x0_15z1, x0_16z1, x0_17z14, x0_18z14, y1z14, y2z14, y3z14, y4z14, y5z14, y6z14, y7z14, y8z14, y9z14, Rx0_4z14, (rgw R12 (by decide) (by decide)), Rx0_13z1, Rx0_14z1, Rx0_15z1, Rx0_16z1, Rx0_17z14, Rx0_18z14, Ay1z14, Ay2z14, Ay3z14, Ay4z14, Ay5z14, Ay6z14, Ay7z14, Ay8z14, Ay9z14, (by decide), by show va_P D classes _ t.heap; rw [ht]; exact hP, hD⟩⟩, hS.F ht⟩) hS.2.2 d_X_one_59
        · have gc15 : rz14.toInt ≠ (0 : Int) := c_ne c15
          have R18 : 1 ≤ rz14.toInt ∧ rz14.toInt ≤ 1 := rf_neX F0z14 (show 0 ≤ (0 : Int) ∧ (0 : Int) ≤ 0 from by decide) gc15 (by decide) (by decide)
          refine lv_aload_n hx hb d_X_one_40 rfl (lv_at hl 2 rfl) ?_
          refine lv_dup hx hb d_X_one_41 rfl ?_
          refine va_get (D := D) (ci := 7) (v := .int x0_4z14) (C := "SignMachineModel") (T := F_X) (N := 64) hx hb hk fi_X hown hK.1 hP 0 rfl rfl 4 (by decide) (hk _ k_1125) (fun _ h9 => h9) rfl d_X_one_42 ?_
          refine lv_iconst (v := 1) hx hb d_X_one_45 (by decide) ?_
          refine lv_iadd hx hb d_X_one_46 ?_
          refine lv_topi (fun v19 hv19 => ?_)
          obtain ⟨ev19, Rv19⟩ : v19.toInt = x0_4z14.toInt + (1 : Int) ∧ (1 ≤ v19.toInt ∧ v19.toInt ≤ 4001) := ad3 hv19 Rx0_4z14 (show 1 ≤ (1 : Int32).toInt ∧ (1 : Int32).toInt ≤ 1 from by decide) (by decide) (by decide) (by decide) (by decide)
          refine va_put (D := D) (ci := 7) (v := .int v19) (ty := .int) (C := "SignMachineModel") (T := F_X) (N := 64) hx hb hk fi_X ft_X ft_X_ok fn_X hown hK.1 hP hD hS 0 rfl rfl 4 (by decide) (hk _ k_1125) (fun _ h9 => h9) rfl (by decide +kernel) rfl rfl (Nat.le_of_ble_eq_true rfl) d_X_one_47 (fun H locs hP hD hS => ?_)
          have hP : va_P D classes (wS50 cI cJ cZ cB p0 p1 p2 p3 p4 p5 p6 p7 p8 p9 p10 p11 p12 p13 p14 p15 p16 p17 p18 p19 p20 p21 p22 p23 p24 p25 v19 x0_5z14 x0_6z14 x0_7z14 x0_8 x0_12z1 x0_13z1 x0_14z1 x0_15z1 x0_16z1 x0_17z14 x0_18z14 x0_22 x0_23 x0_24 x0_25 x0_26 x0_27 x0_28 x0_29 x0_30 x0_31 x0_32 x0_36 x0_39 x0_40 x0_44 x0_49 x0_51 x0_53 x0_54 x0_55 x0_56 x0_57 x0_58 x0_59 x0_60 x0_61 x0_62 y1z14 y2z14 y3z14 y4z14 y5z14 y6z14 y7z14 y8z14 y9z14 y10 y11 y12 y13 y14 y15 y16 y17 y18 y19 y20 y21 y22 y23 y24 y25) H := hP
          have hD : va_D A (wS50 cI cJ cZ cB p0 p1 p2 p3 p4 p5 p6 p7 p8 p9 p10 p11 p12 p13 p14 p15 p16 p17 p18 p19 p20 p21 p22 p23 p24 p25 v19 x0_5z14 x0_6z14 x0_7z14 x0_8 x0_12z1 x0_13z1 x0_14z1 x0_15z1 x0_16z1 x0_17z14 x0_18z14 x0_22 x0_23 x0_24 x0_25 x0_26 x0_27 x0_28 x0_29 x0_30 x0_31 x0_32 x0_36 x0_39 x0_40 x0_44 x0_49 x0_51 x0_53 x0_54 x0_55 x0_56 x0_57 x0_58 x0_59 x0_60 x0_61 x0_62 y1z14 y2z14 y3z14 y4z14 y5z14 y6z14 y7z14 y8z14 y9z14 y10 y11 y12 y13 y14 y15 y16 y17 y18 y19 y20 y21 y22 y23 y24 y25) := hD
          refine lv_iload_n hx hb d_X_one_50 rfl (lv_at hl 0 rfl) ?_
          refine lv_if_eq (tgt := 58) hx hb d_X_one_51 (by decide) (fun c20 => ?_) (fun c20 => absurd (show (0 : Int32) = (0 : Int32) from (by decide)) c20)
          refine lv_iconst (v := 0) hx hb d_X_one_58 (by decide) ?_
          exact W.iret (v := (0 : Int32)) hx hb hr (fun t ht hW => ⟨⟨(0 : Int32), (0 : Int32), rfl, rfl, ⟨v19, x0_5z14, x0_6z14, x0_7z14, x0_12z1, x0_13z1, x0_14z1, x0_15z1, x0_16z1, x0_17z14, x0_18z14, y1z14, y2z14, y3z14, y4z14, y5z14, y6z14, y7z14, y8z14, y9z14, (by omega), (rgw R12 (by decide) (by decide)), Rx0_13z1, Rx0_14z1, Rx0_15z1, Rx0_16z1, Rx0_17z14, Rx0_18z14, Ay1z14, Ay2z14, Ay3z14, Ay4z14, Ay5z14, Ay6z14, Ay7z14, Ay8z14, Ay9z14, (by decide), by show va_P D classes _ t.heap; rw [ht]; exact hP, hD⟩⟩, hS.F ht⟩) hS.2.2 d_X_one_59
      · have gc13 : x0_13z1.toInt = (2 : Int) := c_eq c13
        have R21 : 2 ≤ x0_13z1.toInt ∧ x0_13z1.toInt ≤ 2 := rf_eqX Rx0_13z1 (show 2 ≤ (2 : Int) ∧ (2 : Int) ≤ 2 from by decide) gc13 (by decide) (by decide)
        refine lv_iconst (v := 1) hx hb d_X_one_27 (by decide) ?_
        refine lv_goto (tgt := 32) hx hb d_X_one_28 (by decide) ?_
        refine lv_istore_n (lv' := [(2, .int (1 : Int32)), (1, .int rz1), (0, .ref p0)]) hx hb d_X_one_32 rfl hl (by decide) rfl (fun ls hl => ?_)
        refine lv_aload_n hx hb d_X_one_33 rfl (lv_at hl 2 rfl) ?_
        refine sn_i (va_runV (C := "SignMachineModel") (As := []) (rest := []) ⟨hx, hb, hml, hown, hk⟩ (c_X_done l D cI cJ cZ cB p0 p1 p2 p3 p4 p5 p6 p7 p8 p9 p10 p11 p12 p13 p14 p15 p16 p17 p18 p19 p20 p21 p22 p23 p24 p25 H.size x0_4 x0_5 x0_6 x0_7 x0_8 x0_12z1 x0_13z1 x0_14z1 x0_15z1 x0_16z1 x0_17z1 x0_18z1 x0_22 x0_23 x0_24 x0_25 x0_26 x0_27 x0_28 x0_29 x0_30 x0_31 x0_32 x0_36 x0_39 x0_40 x0_44 x0_49 x0_51 x0_53 x0_54 x0_55 x0_56 x0_57 x0_58 x0_59 x0_60 x0_61 x0_62 y1 y2 y3 y4 y5 y6 y7 y8 y9 y10 y11 y12 y13 y14 y15 y16 y17 y18 y19 y20 y21 y22 y23 y24 y25  Rx0_4 (rgw R12 (by decide) (by decide)) (rgw R21 (by decide) (by decide)) Rx0_15z1 Rx0_16z1 Rx0_17z1 Rx0_18z1 Ay1 Ay2 Ay3 Ay4 Ay5 Ay6 Ay7 Ay8 Ay9 (show x0_4.toInt ≤ 3999 from by omega) (F13z1 (by omega)) (F2z1 (by omega)) (F3z1 (by omega)) (F4z1 (by omega)) (F5z1 (by omega)) (F6z1 (by omega)) (F7z1 (by omega)) (F8z1 (by omega)) (F9z1 (by omega)) (F10z1 (by omega)) (F11z1 (by omega)) (F12z1 (by omega))) (v_X_done hk k_1424 ⟨Nat.le_of_ble_eq_true rfl, Nat.le_of_ble_eq_true rfl⟩) (pM_v hK hP hD (ci := 7) (q0 := 0) rfl rfl rfl) rfl rfl hl.1 rfl (lv_room (Nat.le_of_ble_eq_true rfl)) d_X_one_34 ⟨Nat.le_of_ble_eq_true rfl, Nat.le_of_ble_eq_true rfl⟩) hS hA hD (fun rz22 u t H locs hr0 ht hB hFr hS => ?_)
        subst hr0
        obtain ⟨x0_4z22, x0_5z22, x0_6z22, x0_7z22, x0_17z22, x0_18z22, y1z22, y2z22, y3z22, y4z22, y5z22, y6z22, y7z22, y8z22, y9z22, Rx0_4z22, Rx0_17z22, Rx0_18z22, Ay1z22, Ay2z22, Ay3z22, Ay4z22, Ay5z22, Ay6z22, Ay7z22, Ay8z22, Ay9z22, F0z22, F1z22, hP, hD⟩ := hB
        have F0z22 : 0 ≤ rz22.toInt ∧ rz22.toInt ≤ 1 := F0z22
        have F1z22 : rz22.toInt = 1 → x0_4z22.toInt ≤ 3999 := F1z22
        rw [ht] at hP
        have hD := dwk hD hFr
        clear ht hFr
        have hP : va_P D classes (wS50 cI cJ cZ cB p0 p1 p2 p3 p4 p5 p6 p7 p8 p9 p10 p11 p12 p13 p14 p15 p16 p17 p18 p19 p20 p21 p22 p23 p24 p25 x0_4z22 x0_5z22 x0_6z22 x0_7z22 x0_8 x0_12z1 x0_13z1 x0_14z1 x0_15z1 x0_16z1 x0_17z22 x0_18z22 x0_22 x0_23 x0_24 x0_25 x0_26 x0_27 x0_28 x0_29 x0_30 x0_31 x0_32 x0_36 x0_39 x0_40 x0_44 x0_49 x0_51 x0_53 x0_54 x0_55 x0_56 x0_57 x0_58 x0_59 x0_60 x0_61 x0_62 y1z22 y2z22 y3z22 y4z22 y5z22 y6z22 y7z22 y8z22 y9z22 y10 y11 y12 y13 y14 y15 y16 y17 y18 y19 y20 y21 y22 y23 y24 y25) H := hP
        have hD : va_D A (wS50 cI cJ cZ cB p0 p1 p2 p3 p4 p5 p6 p7 p8 p9 p10 p11 p12 p13 p14 p15 p16 p17 p18 p19 p20 p21 p22 p23 p24 p25 x0_4z22 x0_5z22 x0_6z22 x0_7z22 x0_8 x0_12z1 x0_13z1 x0_14z1 x0_15z1 x0_16z1 x0_17z22 x0_18z22 x0_22 x0_23 x0_24 x0_25 x0_26 x0_27 x0_28 x0_29 x0_30 x0_31 x0_32 x0_36 x0_39 x0_40 x0_44 x0_49 x0_51 x0_53 x0_54 x0_55 x0_56 x0_57 x0_58 x0_59 x0_60 x0_61 x0_62 y1z22 y2z22 y3z22 y4z22 y5z22 y6z22 y7z22 y8z22 y9z22 y10 y11 y12 y13 y14 y15 y16 y17 y18 y19 y20 y21 y22 y23 y24 y25) := hD
        refine lv_if_eq (tgt := 50) hx hb d_X_one_37 (by decide) (fun c23 => ?_) (fun c23 => ?_)
        · have gc23 : rz22.toInt = (0 : Int) := c_eq c23
          have R24 : 0 ≤ rz22.toInt ∧ rz22.toInt ≤ 0 := rf_eqX F0z22 (show 0 ≤ (0 : Int) ∧ (0 : Int) ≤ 0 from by decide) gc23 (by decide) (by decide)
          refine lv_iload_n hx hb d_X_one_50 rfl (lv_at hl 0 rfl) ?_
          refine lv_if_eq (tgt := 58) hx hb d_X_one_51 (by decide) (fun c25 => absurd c25 (show ¬ (1 : Int32) = (0 : Int32) from (by decide))) (fun c25 => ?_)
          refine lv_iconst (v := 1) hx hb d_X_one_54 (by decide) ?_
          refine lv_goto (tgt := 59) hx hb d_X_one_55 (by decide) ?_
          exact W.iret (v := (1 : Int32)) hx hb hr (fun t ht hW => ⟨⟨(1 : Int32), (1 : Int32), rfl, rfl, ⟨x0_4z22, x0_5z22, x0_6z22, x0_7z22, x0_12z1, x0_13z1, x0_14z1, x0_15z1, x0_16z1, x0_17z22, x0_18z22, y1z22, y2z22, y3z22, y4z22, y5z22, y6z22, y7z22, y8z22, y9z22, Rx0_4z22, (rgw R12 (by decide) (by decide)), (rgw R21 (by decide) (by decide)), Rx0_14z1, Rx0_15z1, Rx0_16z1, Rx0_17z22, Rx0_18z22, Ay1z22, Ay2z22, Ay3z22, Ay4z22, Ay5z22, Ay6z22, Ay7z22, Ay8z22, Ay9z22, (by decide), by show va_P D classes _ t.heap; rw [ht]; exact hP, hD⟩⟩, hS.F ht⟩) hS.2.2 d_X_one_59
        · have gc23 : rz22.toInt ≠ (0 : Int) := c_ne c23
          have R26 : 1 ≤ rz22.toInt ∧ rz22.toInt ≤ 1 := rf_neX F0z22 (show 0 ≤ (0 : Int) ∧ (0 : Int) ≤ 0 from by decide) gc23 (by decide) (by decide)
          refine lv_aload_n hx hb d_X_one_40 rfl (lv_at hl 2 rfl) ?_
          refine lv_dup hx hb d_X_one_41 rfl ?_
          refine va_get (D := D) (ci := 7) (v := .int x0_4z22) (C := "SignMachineModel") (T := F_X) (N := 64) hx hb hk fi_X hown hK.1 hP 0 rfl rfl 4 (by decide) (hk _ k_1125) (fun _ h9 => h9) rfl d_X_one_42 ?_
          refine lv_iconst (v := 1) hx hb d_X_one_45 (by decide) ?_
          refine lv_iadd hx hb d_X_one_46 ?_
          refine lv_topi (fun v27 hv27 => ?_)
          obtain ⟨ev27, Rv27⟩ : v27.toInt = x0_4z22.toInt + (1 : Int) ∧ (1 ≤ v27.toInt ∧ v27.toInt ≤ 4001) := ad3 hv27 Rx0_4z22 (show 1 ≤ (1 : Int32).toInt ∧ (1 : Int32).toInt ≤ 1 from by decide) (by decide) (by decide) (by decide) (by decide)
          refine va_put (D := D) (ci := 7) (v := .int v27) (ty := .int) (C := "SignMachineModel") (T := F_X) (N := 64) hx hb hk fi_X ft_X ft_X_ok fn_X hown hK.1 hP hD hS 0 rfl rfl 4 (by decide) (hk _ k_1125) (fun _ h9 => h9) rfl (by decide +kernel) rfl rfl (Nat.le_of_ble_eq_true rfl) d_X_one_47 (fun H locs hP hD hS => ?_)
          have hP : va_P D classes (wS50 cI cJ cZ cB p0 p1 p2 p3 p4 p5 p6 p7 p8 p9 p10 p11 p12 p13 p14 p15 p16 p17 p18 p19 p20 p21 p22 p23 p24 p25 v27 x0_5z22 x0_6z22 x0_7z22 x0_8 x0_12z1 x0_13z1 x0_14z1 x0_15z1 x0_16z1 x0_17z22 x0_18z22 x0_22 x0_23 x0_24 x0_25 x0_26 x0_27 x0_28 x0_29 x0_30 x0_31 x0_32 x0_36 x0_39 x0_40 x0_44 x0_49 x0_51 x0_53 x0_54 x0_55 x0_56 x0_57 x0_58 x0_59 x0_60 x0_61 x0_62 y1z22 y2z22 y3z22 y4z22 y5z22 y6z22 y7z22 y8z22 y9z22 y10 y11 y12 y13 y14 y15 y16 y17 y18 y19 y20 y21 y22 y23 y24 y25) H := hP
          have hD : va_D A (wS50 cI cJ cZ cB p0 p1 p2 p3 p4 p5 p6 p7 p8 p9 p10 p11 p12 p13 p14 p15 p16 p17 p18 p19 p20 p21 p22 p23 p24 p25 v27 x0_5z22 x0_6z22 x0_7z22 x0_8 x0_12z1 x0_13z1 x0_14z1 x0_15z1 x0_16z1 x0_17z22 x0_18z22 x0_22 x0_23 x0_24 x0_25 x0_26 x0_27 x0_28 x0_29 x0_30 x0_31 x0_32 x0_36 x0_39 x0_40 x0_44 x0_49 x0_51 x0_53 x0_54 x0_55 x0_56 x0_57 x0_58 x0_59 x0_60 x0_61 x0_62 y1z22 y2z22 y3z22 y4z22 y5z22 y6z22 y7z22 y8z22 y9z22 y10 y11 y12 y13 y14 y15 y16 y17 y18 y19 y20 y21 y22 y23 y24 y25) := hD
          refine lv_iload_n hx hb d_X_one_50 rfl (lv_at hl 0 rfl) ?_
          refine lv_if_eq (tgt := 58) hx hb d_X_one_51 (by decide) (fun c28 => absurd c28 (show ¬ (1 : Int32) = (0 : Int32) from (by decide))) (fun c28 => ?_)
          refine lv_iconst (v := 1) hx hb d_X_one_54 (by decide) ?_
          refine lv_goto (tgt := 59) hx hb d_X_one_55 (by decide) ?_
          exact W.iret (v := (1 : Int32)) hx hb hr (fun t ht hW => ⟨⟨(1 : Int32), (1 : Int32), rfl, rfl, ⟨v27, x0_5z22, x0_6z22, x0_7z22, x0_12z1, x0_13z1, x0_14z1, x0_15z1, x0_16z1, x0_17z22, x0_18z22, y1z22, y2z22, y3z22, y4z22, y5z22, y6z22, y7z22, y8z22, y9z22, (by omega), (rgw R12 (by decide) (by decide)), (rgw R21 (by decide) (by decide)), Rx0_14z1, Rx0_15z1, Rx0_16z1, Rx0_17z22, Rx0_18z22, Ay1z22, Ay2z22, Ay3z22, Ay4z22, Ay5z22, Ay6z22, Ay7z22, Ay8z22, Ay9z22, (by decide), by show va_P D classes _ t.heap; rw [ht]; exact hP, hD⟩⟩, hS.F ht⟩) hS.2.2 d_X_one_59
  · have gc2 : (0 : Int) < rz1.toInt := c_nle c2
    have R29 : 1 ≤ rz1.toInt ∧ rz1.toInt ≤ 5 := rf_gtX F0z1 (show 0 ≤ (0 : Int) ∧ (0 : Int) ≤ 0 from by decide) gc2 (by decide) (by decide)
    refine lv_iload_n hx hb d_X_one_9 rfl (lv_at hl 0 rfl) ?_
    exact W.iret (v := rz1) hx hb hr (fun t ht hW => ⟨⟨rz1, rz1, rfl, rfl, ⟨x0_4, x0_5, x0_6, x0_7, x0_12z1, x0_13z1, x0_14z1, x0_15z1, x0_16z1, x0_17z1, x0_18z1, y1, y2, y3, y4, y5, y6, y7, y8, y9, Rx0_4, Rx0_12z1, Rx0_13z1, Rx0_14z1, Rx0_15z1, Rx0_16z1, Rx0_17z1, Rx0_18z1, Ay1, Ay2, Ay3, Ay4, Ay5, Ay6, Ay7, Ay8, Ay9, (rgw R29 (by decide) (by decide)), by show va_P D classes _ t.heap; rw [ht]; exact hP, hD⟩⟩, hS.F ht⟩) hS.2.2 d_X_one_10
theorem v_X_one {R : Room} {s : State} {args : Array Value} {own : String} {index : Nat} (hk : ∀ w ∈ tb, w.before args s = true) (hl : Cond.methodLink own index y_X_one ∈ tb) (hR : 5 + 1 ≤ R.frames ∧ 8 + (3 + 11) + 114 ≤ R.locals) : CallW R s args own "SignMachineModel" index y_X_one b_X_one 3 (some .int) (.code y_X_one b_X_one 3 (some .int) :: tb) ({ frames := 5, cells := 0, slots := 0, locals := 114 }) 0 0 0 := mk_v 0 hk k_1371 hl k_1370 k_60 k_119 rfl rfl h_X_one hR

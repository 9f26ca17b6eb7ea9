set_option maxHeartbeats 8000000 in
set_option maxRecDepth 100000 in
theorem c_X_compare (l : Launch) (D : va_G) (cI cJ cZ cB : ClassId) (p0 p1 p2 p3 p4 p5 p6 p7 p8 p9 p10 p11 p12 p13 p14 p15 p16 p17 p18 p19 p20 p21 p22 p23 p24 p25 : Nat) (sz : Nat) (x0_4 : Int32) (x0_5 : Int32) (x0_6 : Int32) (x0_7 : Int32) (x0_8 : Int32) (x0_12 : Int32) (x0_13 : Int32) (x0_14 : Int32) (x0_15 : Int32) (x0_16 : Int32) (x0_17 : Int32) (x0_18 : Int32) (x0_22 : Int32) (x0_23 : Int32) (x0_24 : Int32) (x0_25 : Int32) (x0_26 : Int32) (x0_27 : Int32) (x0_28 : Int32) (x0_29 : Int32) (x0_30 : Int32) (x0_31 : Int32) (x0_32 : Int32) (x0_36 : Int32) (x0_39 : Int32) (x0_40 : Int64) (x0_44 : Int32) (x0_49 : Int32) (x0_51 : Int32) (x0_53 : Int32) (x0_54 : Int32) (x0_55 : Int64) (x0_56 : Int32) (x0_57 : Int32) (x0_58 : Int32) (x0_59 : Int32) (x0_60 : Int32) (x0_61 : Int32) (x0_62 : Int64) (y1 : Nat → Int32) (y2 : Nat → Int32) (y3 : Nat → Int32) (y4 : Nat → Int32) (y5 : Nat → Int32) (y6 : Nat → Int32) (y7 : Nat → Int32) (y8 : Nat → Int32) (y9 : Nat → Int32) (y10 : Nat → Int32) (y11 : Nat → Int64) (y12 : Nat → Int32) (y13 : Nat → Int64) (y14 : Nat → Int32) (y15 : Nat → Int64) (y16 : Nat → Int32) (y17 : Nat → Int32) (y18 : Nat → Int32) (y19 : Nat → Int32) (y20 : Nat → Int32) (y21 : Nat → Int32) (y22 : Nat → Int32) (y23 : Nat → Int32) (y24 : Nat → Int64) (y25 : Nat → Int64) (a1 : Int32) (Rx0_13 : 0 ≤ x0_13.toInt ∧ x0_13.toInt ≤ 63) (Rx0_15 : (-8190) ≤ x0_15.toInt ∧ x0_15.toInt ≤ 8190) (Rx0_17 : 0 ≤ x0_17.toInt ∧ x0_17.toInt ≤ 1) (Rx0_18 : 0 ≤ x0_18.toInt ∧ x0_18.toInt ≤ 1073741823) (Ay1 : ∀ i : Nat, (0 ≤ (y1 i).toInt ∧ (y1 i).toInt ≤ 1)) (Ay2 : ∀ i : Nat, (0 ≤ (y2 i).toInt ∧ (y2 i).toInt ≤ 1073741823)) (Ay3 : ∀ i : Nat, (0 ≤ (y3 i).toInt ∧ (y3 i).toInt ≤ 1)) (Ay4 : ∀ i : Nat, ((0 ≤ (y4 i).toInt ∧ (y4 i).toInt ≤ 1073741823) ∧ ((1 ≤ (i : Int) ∧ (i : Int) ≤ 6) → (y4 i).toInt ≤ 4095))) (Q0 : (0 ≤ x0_15.toInt ∧ x0_15.toInt ≤ 3999)) (Q1 : (x0_13.toInt / 8 ≤ x0_13.toInt % 8 ∧ x0_13.toInt % 8 ≤ 5)) (Q2 : 0 ≤ a1.toInt ∧ a1.toInt ≤ 8) : Met l y_X_compare (.code y_X_compare b_X_compare 7 none :: tb) ({ frames := 3, cells := 0, slots := 0, locals := 67 }) (pM D cI cJ cZ cB (wS50 cI cJ cZ cB p0 p1 p2 p3 p4 p5 p6 p7 p8 p9 p10 p11 p12 p13 p14 p15 p16 p17 p18 p19 p20 p21 p22 p23 p24 p25 x0_4 x0_5 x0_6 x0_7 x0_8 x0_12 x0_13 x0_14 x0_15 x0_16 x0_17 x0_18 x0_22 x0_23 x0_24 x0_25 x0_26 x0_27 x0_28 x0_29 x0_30 x0_31 x0_32 x0_36 x0_39 x0_40 x0_44 x0_49 x0_51 x0_53 x0_54 x0_55 x0_56 x0_57 x0_58 x0_59 x0_60 x0_61 x0_62 y1 y2 y3 y4 y5 y6 y7 y8 y9 y10 y11 y12 y13 y14 y15 y16 y17 y18 y19 y20 y21 y22 y23 y24 y25) sz [.ref p0, .int a1]) (va_Qv (fun (_ : Unit) => True) (fun _ t => ∃ u_x0_6 : Int32, ∃ u_x0_17 : Int32, ∃ u_x0_18 : Int32, (0 ≤ u_x0_17.toInt ∧ u_x0_17.toInt ≤ 1) ∧ (0 ≤ u_x0_18.toInt ∧ u_x0_18.toInt ≤ 1073741823) ∧ va_P D classes (wS50 cI cJ cZ cB p0 p1 p2 p3 p4 p5 p6 p7 p8 p9 p10 p11 p12 p13 p14 p15 p16 p17 p18 p19 p20 p21 p22 p23 p24 p25 x0_4 x0_5 u_x0_6 x0_7 x0_8 x0_12 x0_13 x0_14 x0_15 x0_16 u_x0_17 u_x0_18 x0_22 x0_23 x0_24 x0_25 x0_26 x0_27 x0_28 x0_29 x0_30 x0_31 x0_32 x0_36 x0_39 x0_40 x0_44 x0_49 x0_51 x0_53 x0_54 x0_55 x0_56 x0_57 x0_58 x0_59 x0_60 x0_61 x0_62 y1 y2 y3 y4 y5 y6 y7 y8 y9 y10 y11 y12 y13 y14 y15 y16 y17 y18 y19 y20 y21 y22 y23 y24 y25) t.heap ∧ va_D (va_A (wS50 cI cJ cZ cB p0 p1 p2 p3 p4 p5 p6 p7 p8 p9 p10 p11 p12 p13 p14 p15 p16 p17 p18 p19 p20 p21 p22 p23 p24 p25 x0_4 x0_5 x0_6 x0_7 x0_8 x0_12 x0_13 x0_14 x0_15 x0_16 x0_17 x0_18 x0_22 x0_23 x0_24 x0_25 x0_26 x0_27 x0_28 x0_29 x0_30 x0_31 x0_32 x0_36 x0_39 x0_40 x0_44 x0_49 x0_51 x0_53 x0_54 x0_55 x0_56 x0_57 x0_58 x0_59 x0_60 x0_61 x0_62 y1 y2 y3 y4 y5 y6 y7 y8 y9 y10 y11 y12 y13 y14 y15 y16 y17 y18 y19 y20 y21 y22 y23 y24 y25) sz) (wS50 cI cJ cZ cB p0 p1 p2 p3 p4 p5 p6 p7 p8 p9 p10 p11 p12 p13 p14 p15 p16 p17 p18 p19 p20 p21 p22 p23 p24 p25 x0_4 x0_5 u_x0_6 x0_7 x0_8 x0_12 x0_13 x0_14 x0_15 x0_16 u_x0_17 u_x0_18 x0_22 x0_23 x0_24 x0_25 x0_26 x0_27 x0_28 x0_29 x0_30 x0_31 x0_32 x0_36 x0_39 x0_40 x0_44 x0_49 x0_51 x0_53 x0_54 x0_55 x0_56 x0_57 x0_58 x0_59 x0_60 x0_61 x0_62 y1 y2 y3 y4 y5 y6 y7 y8 y9 y10 y11 y12 y13 y14 y15 y16 y17 y18 y19 y20 y21 y22 y23 y24 y25)) (va_A (wS50 cI cJ cZ cB p0 p1 p2 p3 p4 p5 p6 p7 p8 p9 p10 p11 p12 p13 p14 p15 p16 p17 p18 p19 p20 p21 p22 p23 p24 p25 x0_4 x0_5 x0_6 x0_7 x0_8 x0_12 x0_13 x0_14 x0_15 x0_16 x0_17 x0_18 x0_22 x0_23 x0_24 x0_25 x0_26 x0_27 x0_28 x0_29 x0_30 x0_31 x0_32 x0_36 x0_39 x0_40 x0_44 x0_49 x0_51 x0_53 x0_54 x0_55 x0_56 x0_57 x0_58 x0_59 x0_60 x0_61 x0_62 y1 y2 y3 y4 y5 y6 y7 y8 y9 y10 y11 y12 y13 y14 y15 y16 y17 y18 y19 y20 y21 y22 y23 y24 y25) sz)) 0 0 (va_A (wS50 cI cJ cZ cB p0 p1 p2 p3 p4 p5 p6 p7 p8 p9 p10 p11 p12 p13 p14 p15 p16 p17 p18 p19 p20 p21 p22 p23 p24 p25 x0_4 x0_5 x0_6 x0_7 x0_8 x0_12 x0_13 x0_14 x0_15 x0_16 x0_17 x0_18 x0_22 x0_23 x0_24 x0_25 x0_26 x0_27 x0_28 x0_29 x0_30 x0_31 x0_32 x0_36 x0_39 x0_40 x0_44 x0_49 x0_51 x0_53 x0_54 x0_55 x0_56 x0_57 x0_58 x0_59 x0_60 x0_61 x0_62 y1 y2 y3 y4 y5 y6 y7 y8 y9 y10 y11 y12 y13 y14 y15 y16 y17 y18 y19 y20 y21 y22 y23 y24 y25) sz) := by
  refine Met.ofW (cc := b_X_compare) (maxL := 7) (ret := none) (by decide) rfl ?_
  intro p e s m args below meth c s₁ B hml hv
  obtain ⟨rfl, hsz, hK, hP, hD0⟩ := hv
  subst hsz
  have hD := hD0.self (sz := s.heap.size)
  generalize hAe : va_A (wS50 cI cJ cZ cB p0 p1 p2 p3 p4 p5 p6 p7 p8 p9 p10 p11 p12 p13 p14 p15 p16 p17 p18 p19 p20 p21 p22 p23 p24 p25 x0_4 x0_5 x0_6 x0_7 x0_8 x0_12 x0_13 x0_14 x0_15 x0_16 x0_17 x0_18 x0_22 x0_23 x0_24 x0_25 x0_26 x0_27 x0_28 x0_29 x0_30 x0_31 x0_32 x0_36 x0_39 x0_40 x0_44 x0_49 x0_51 x0_53 x0_54 x0_55 x0_56 x0_57 x0_58 x0_59 x0_60 x0_61 x0_62 y1 y2 y3 y4 y5 y6 y7 y8 y9 y10 y11 y12 y13 y14 y15 y16 y17 y18 y19 y20 y21 y22 y23 y24 y25) s.heap.size = A at hD ⊢
  have hA : ∀ q : Nat, s.heap.size ≤ q → A q := fun q h => by rw [← hAe]; exact Or.inr h
  clear hAe hD0
  have hS : va_S A s.heap s.heap [] := va_S.rf
  have hx := B.exec
  have hb := B.bytes
  have hr := B.returns
  have hts := atoms_spec (ws := .code y_X_compare b_X_compare 7 none :: tb) B.pre
  have hk : ∀ w ∈ tb, w.before [.ref p0, .int a1].toArray s = true := fun w h => hts w (List.mem_cons_of_mem _ h)
  have hown : s.vm.findClass "SignMachineModel" = some m.cls := findClass_of_methodNamed B.named
  have hlocks := B.notSynchronized
  have hl := lv_entry ([.ref p0, .int a1]) (n := 7) (Nat.le_of_ble_eq_true rfl)
  rw [lg_entry_eq]
  generalize (lg_sl ([.ref p0, .int a1]) ++ List.replicate (7 - (lg_sl ([.ref p0, .int a1])).length) Slot.unset).toArray = ls at hl ⊢
  have hl : lv_has ls 7 [(0, .ref p0), (1, .int a1)] := hl
  clear hts B
  refine lv_aload_n hx hb d_X_compare_0 rfl (lv_at hl 0 rfl) ?_
  refine kn_v (va_runV (C := "SignMachineModel") (As := []) (rest := []) ⟨hx, hb, hml, hown, hk⟩ (c_X_takeValue l D cI cJ cZ cB p0 p1 p2 p3 p4 p5 p6 p7 p8 p9 p10 p11 p12 p13 p14 p15 p16 p17 p18 p19 p20 p21 p22 p23 p24 p25 s.heap.size x0_4 x0_5 x0_6 x0_7 x0_8 x0_12 x0_13 x0_14 x0_15 x0_16 x0_17 x0_18 x0_22 x0_23 x0_24 x0_25 x0_26 x0_27 x0_28 x0_29 x0_30 x0_31 x0_32 x0_36 x0_39 x0_40 x0_44 x0_49 x0_51 x0_53 x0_54 x0_55 x0_56 x0_57 x0_58 x0_59 x0_60 x0_61 x0_62 y1 y2 y3 y4 y5 y6 y7 y8 y9 y10 y11 y12 y13 y14 y15 y16 y17 y18 y19 y20 y21 y22 y23 y24 y25  Rx0_13 Rx0_15 Rx0_17 Rx0_18 Ay1 Ay2 (show (0 ≤ x0_15.toInt ∧ x0_15.toInt ≤ 3999) from by omega) (show (x0_13.toInt / 8 ≤ x0_13.toInt % 8 ∧ x0_13.toInt % 8 ≤ 5) from by omega)) (v_X_takeValue hk k_1408 ⟨Nat.le_of_ble_eq_true rfl, Nat.le_of_ble_eq_true rfl⟩) (pM_v hK hP hD (ci := 7) (q0 := 0) rfl rfl rfl) rfl rfl hl.1 rfl (lv_room (Nat.le_of_ble_eq_true rfl)) d_X_compare_1 ⟨Nat.le_of_ble_eq_true rfl, Nat.le_of_ble_eq_true rfl⟩) hS hA hD (fun u t H locs ht hB hFr hS => ?_)
  obtain ⟨x0_17z1, x0_18z1, Rx0_17z1, Rx0_18z1, F0z1, hP, hD⟩ := hB
  have F0z1 : x0_18z1.toInt = tvf y2 x0_15 x0_13 := F0z1
  rw [ht] at hP
  have hD := dwk hD hFr
  clear ht hFr
  have hP : va_P D classes (wS50 cI cJ cZ cB p0 p1 p2 p3 p4 p5 p6 p7 p8 p9 p10 p11 p12 p13 p14 p15 p16 p17 p18 p19 p20 p21 p22 p23 p24 p25 x0_4 x0_5 x0_6 x0_7 x0_8 x0_12 x0_13 x0_14 x0_15 x0_16 x0_17z1 x0_18z1 x0_22 x0_23 x0_24 x0_25 x0_26 x0_27 x0_28 x0_29 x0_30 x0_31 x0_32 x0_36 x0_39 x0_40 x0_44 x0_49 x0_51 x0_53 x0_54 x0_55 x0_56 x0_57 x0_58 x0_59 x0_60 x0_61 x0_62 y1 y2 y3 y4 y5 y6 y7 y8 y9 y10 y11 y12 y13 y14 y15 y16 y17 y18 y19 y20 y21 y22 y23 y24 y25) H := hP
  have hD : va_D A (wS50 cI cJ cZ cB p0 p1 p2 p3 p4 p5 p6 p7 p8 p9 p10 p11 p12 p13 p14 p15 p16 p17 p18 p19 p20 p21 p22 p23 p24 p25 x0_4 x0_5 x0_6 x0_7 x0_8 x0_12 x0_13 x0_14 x0_15 x0_16 x0_17z1 x0_18z1 x0_22 x0_23 x0_24 x0_25 x0_26 x0_27 x0_28 x0_29 x0_30 x0_31 x0_32 x0_36 x0_39 x0_40 x0_44 x0_49 x0_51 x0_53 x0_54 x0_55 x0_56 x0_57 x0_58 x0_59 x0_60 x0_61 x0_62 y1 y2 y3 y4 y5 y6 y7 y8 y9 y10 y11 y12 y13 y14 y15 y16 y17 y18 y19 y20 y21 y22 y23 y24 y25) := hD
  refine lv_aload_n hx hb d_X_compare_4 rfl (lv_at hl 0 rfl) ?_
  refine va_get (D := D) (ci := 7) (v := .int x0_13) (C := "SignMachineModel") (T := F_X) (N := 64) hx hb hk fi_X hown hK.1 hP 0 rfl rfl 13 (by decide) (hk _ k_1134) (fun _ h9 => h9) rfl d_X_compare_5 ?_
  refine lv_bipush (v := 8) hx hb d_X_compare_8 (by decide) ?_
  refine lv_idiv hx hb d_X_compare_10 (by decide) ?_
  refine lv_topi (fun v2 hv2 => ?_)
  obtain ⟨ev2, Rv2⟩ : v2.toInt = x0_13.toInt / (8 : Int) ∧ (0 ≤ v2.toInt ∧ v2.toInt ≤ 7) := dv3 hv2 Rx0_13 (show 8 ≤ (8 : Int32).toInt ∧ (8 : Int32).toInt ≤ 8 from by decide) (by decide) (by decide) (by decide)
  refine lv_istore_n (lv' := [(2, .int v2), (0, .ref p0), (1, .int a1)]) hx hb d_X_compare_11 rfl hl (by decide) rfl (fun ls hl => ?_)
  refine lv_iload_n hx hb d_X_compare_12 rfl (lv_at hl 0 rfl) ?_
  refine lv_if_ne (tgt := 25) hx hb d_X_compare_13 (by decide) (fun c3 => ?_) (fun c3 => ?_)
  · have gc3 : v2.toInt ≠ (0 : Int) := c_ne c3
    have R4 : 1 ≤ v2.toInt ∧ v2.toInt ≤ 7 := rf_neX Rv2 (show 0 ≤ (0 : Int) ∧ (0 : Int) ≤ 0 from by decide) gc3 (by decide) (by decide)
    refine lv_iconst (v := 0) hx hb d_X_compare_25 (by decide) ?_
    refine lv_istore_n (lv' := [(3, .int (0 : Int32)), (2, .int v2), (0, .ref p0), (1, .int a1)]) hx hb d_X_compare_26 rfl hl (by decide) rfl (fun ls hl => ?_)
    refine lv_aload_n hx hb d_X_compare_27 rfl (lv_at hl 2 rfl) ?_
    refine va_get (D := D) (ci := 7) (v := .ref p4) (C := "SignMachineModel") (T := F_X) (N := 64) hx hb hk fi_X hown hK.1 hP 0 rfl rfl 3 (by decide) (hk _ k_1124) (fun _ h9 => h9) rfl d_X_compare_28 ?_
    refine lv_iload_n hx hb d_X_compare_31 rfl (lv_at hl 3 rfl) ?_
    refine va_iald hx hb hK.1 hP 4 0 rfl rfl (vpb Q2 (by decide) (by decide)) d_X_compare_32 ?_
    refine lv_topi (fun v5 hv5 => ?_)
    have Rv5 := Ay4 (a1).toNatClampNeg
    rw [← hv5] at Rv5
    obtain ⟨Rv5, Xv5⟩ := Rv5
    have : (((a1).toNatClampNeg : Nat) : Int) = a1.toInt := ti_n Q2 (by decide)
    refine lv_iload_n hx hb d_X_compare_33 rfl (lv_at hl 1 rfl) ?_
    refine lv_if_ne (tgt := 41) hx hb d_X_compare_34 (by decide) (fun c6 => ?_) (fun c6 => absurd c6 (show ¬ v2 = (0 : Int32) from c3))
    refine lv_iload_n hx hb d_X_compare_41 rfl (lv_at hl 1 rfl) ?_
    refine lv_aload_n hx hb d_X_compare_42 rfl (lv_at hl 2 rfl) ?_
    refine va_get (D := D) (ci := 7) (v := .int x0_13) (C := "SignMachineModel") (T := F_X) (N := 64) hx hb hk fi_X hown hK.1 hP 0 rfl rfl 13 (by decide) (hk _ k_1134) (fun _ h9 => h9) rfl d_X_compare_43 ?_
    refine lv_bipush (v := 8) hx hb d_X_compare_46 (by decide) ?_
    refine lv_irem hx hb d_X_compare_48 (by decide) ?_
    refine lv_topi (fun v7 hv7 => ?_)
    obtain ⟨ev7, lv7, Rv7⟩ : v7.toInt = x0_13.toInt % (8 : Int) ∧ v7.toInt < (8 : Int) ∧ (0 ≤ v7.toInt ∧ v7.toInt ≤ 7) := rm3 hv7 Rx0_13 (show 8 ≤ (8 : Int32).toInt ∧ (8 : Int32).toInt ≤ 8 from by decide) (by decide) (by decide) (by decide)
    refine vp_callSi (W.runS (As := [.int v5, .int v2, .int v7]) (rest := []) ⟨hx, hb, hml, hown, hk⟩ (c_X_bytes l v5 v2 v7 Rv5 (by omega) (by omega)) (s_X_bytes hk k_1412 ⟨Nat.le_of_ble_eq_true rfl, Nat.le_of_ble_eq_true rfl⟩) ⟨fun a U g mk q => q, fun U hU hW => ⟨rfl, trivial⟩⟩ rfl rfl hl.1 rfl (lv_room (Nat.le_of_ble_eq_true rfl)) d_X_compare_49 ⟨Nat.le_of_ble_eq_true rfl, Nat.le_of_ble_eq_true rfl⟩) (fun rz8 hrz8 => ?_)
    obtain ⟨F0z8, F1z8, F2z8⟩ := hrz8
    have F0z8 : 0 ≤ rz8.toInt ∧ rz8.toInt ≤ 1073741823 := F0z8
    have F1z8 : hid (v2.toInt = v7.toInt → rz8.toInt ≤ 63) := F1z8
    have F2z8 : hid (rz8.toInt = bt v5.toInt v2.toInt v7.toInt) := F2z8
    refine lv_istore (lv' := [(4, .int rz8), (3, .int (0 : Int32)), (2, .int v2), (0, .ref p0), (1, .int a1)]) hx hb d_X_compare_52 hl (by decide) rfl (fun ls hl => ?_)
    refine lv_iload_n hx hb d_X_compare_54 rfl (lv_at hl 1 rfl) ?_
    refine lv_iconst (v := 1) hx hb d_X_compare_55 (by decide) ?_
    refine lv_icmp_ne (tgt := 65) hx hb d_X_compare_56 (by decide) (fun c9 => ?_) (fun c9 => absurd c9 (show ¬ (0 : Int32) = (1 : Int32) from (by decide)))
    refine lv_iload hx hb d_X_compare_65 (lv_at hl 0 rfl) ?_
    refine lv_istore (lv' := [(5, .int rz8), (4, .int rz8), (3, .int (0 : Int32)), (2, .int v2), (0, .ref p0), (1, .int a1)]) hx hb d_X_compare_67 hl (by decide) rfl (fun ls hl => ?_)
    refine lv_aload_n hx hb d_X_compare_69 rfl (lv_at hl 4 rfl) ?_
    refine va_get (D := D) (ci := 7) (v := .int x0_17z1) (C := "SignMachineModel") (T := F_X) (N := 64) hx hb hk fi_X hown hK.1 hP 0 rfl rfl 17 (by decide) (hk _ k_1138) (fun _ h9 => h9) rfl d_X_compare_70 ?_
    refine lv_iconst (v := 1) hx hb d_X_compare_73 (by decide) ?_
    refine lv_icmp_ne (tgt := 85) hx hb d_X_compare_74 (by decide) (fun c10 => ?_) (fun c10 => ?_)
    · have gc10 : x0_17z1.toInt ≠ (1 : Int) := c_ne c10
      have R11 : 0 ≤ x0_17z1.toInt ∧ x0_17z1.toInt ≤ 0 := rf_neX Rx0_17z1 (show 1 ≤ (1 : Int) ∧ (1 : Int) ≤ 1 from by decide) gc10 (by decide) (by decide)
      refine lv_aload_n hx hb d_X_compare_85 rfl (lv_at hl 4 rfl) ?_
      refine va_get (D := D) (ci := 7) (v := .int x0_18z1) (C := "SignMachineModel") (T := F_X) (N := 64) hx hb hk fi_X hown hK.1 hP 0 rfl rfl 18 (by decide) (hk _ k_1139) (fun _ h9 => h9) rfl d_X_compare_86 ?_
      refine lv_istore (lv' := [(6, .int x0_18z1), (5, .int rz8), (4, .int rz8), (3, .int (0 : Int32)), (2, .int v2), (0, .ref p0), (1, .int a1)]) hx hb d_X_compare_89 hl (by decide) rfl (fun ls hl => ?_)
      refine lv_aload_n hx hb d_X_compare_91 rfl (lv_at hl 5 rfl) ?_
      refine lv_iload hx hb d_X_compare_92 (lv_at hl 1 rfl) ?_
      refine lv_iload hx hb d_X_compare_94 (lv_at hl 0 rfl) ?_
      refine lv_icmp_ge (tgt := 103) hx hb d_X_compare_96 (by decide) (fun c12 => ?_) (fun c12 => ?_)
      · have gc12 : x0_18z1.toInt ≤ rz8.toInt := c_le c12
        refine lv_iload hx hb d_X_compare_103 (lv_at hl 1 rfl) ?_
        refine lv_iload hx hb d_X_compare_105 (lv_at hl 0 rfl) ?_
        refine lv_icmp_le (tgt := 114) hx hb d_X_compare_107 (by decide) (fun c13 => ?_) (fun c13 => ?_)
        · have gc13 : rz8.toInt ≤ x0_18z1.toInt := c_le c13
          refine lv_iconst (v := 0) hx hb d_X_compare_114 (by decide) ?_
          refine va_put (D := D) (ci := 7) (v := .int (0 : Int32)) (ty := .int) (C := "SignMachineModel") (T := F_X) (N := 64) hx hb hk fi_X ft_X ft_X_ok fn_X hown hK.1 hP hD hS 0 rfl rfl 6 (by decide) (hk _ k_1127) (fun _ h9 => h9) rfl (by decide +kernel) rfl rfl (Nat.le_of_ble_eq_true rfl) d_X_compare_115 (fun H locs hP hD hS => ?_)
          have hP : va_P D classes (wS50 cI cJ cZ cB p0 p1 p2 p3 p4 p5 p6 p7 p8 p9 p10 p11 p12 p13 p14 p15 p16 p17 p18 p19 p20 p21 p22 p23 p24 p25 x0_4 x0_5 (0 : Int32) x0_7 x0_8 x0_12 x0_13 x0_14 x0_15 x0_16 x0_17z1 x0_18z1 x0_22 x0_23 x0_24 x0_25 x0_26 x0_27 x0_28 x0_29 x0_30 x0_31 x0_32 x0_36 x0_39 x0_40 x0_44 x0_49 x0_51 x0_53 x0_54 x0_55 x0_56 x0_57 x0_58 x0_59 x0_60 x0_61 x0_62 y1 y2 y3 y4 y5 y6 y7 y8 y9 y10 y11 y12 y13 y14 y15 y16 y17 y18 y19 y20 y21 y22 y23 y24 y25) H := hP
          have hD : va_D A (wS50 cI cJ cZ cB p0 p1 p2 p3 p4 p5 p6 p7 p8 p9 p10 p11 p12 p13 p14 p15 p16 p17 p18 p19 p20 p21 p22 p23 p24 p25 x0_4 x0_5 (0 : Int32) x0_7 x0_8 x0_12 x0_13 x0_14 x0_15 x0_16 x0_17z1 x0_18z1 x0_22 x0_23 x0_24 x0_25 x0_26 x0_27 x0_28 x0_29 x0_30 x0_31 x0_32 x0_36 x0_39 x0_40 x0_44 x0_49 x0_51 x0_53 x0_54 x0_55 x0_56 x0_57 x0_58 x0_59 x0_60 x0_61 x0_62 y1 y2 y3 y4 y5 y6 y7 y8 y9 y10 y11 y12 y13 y14 y15 y16 y17 y18 y19 y20 y21 y22 y23 y24 y25) := hD
          exact W.vret hx hb hr (fun t ht hW => ⟨⟨(), rfl, trivial, ⟨(0 : Int32), x0_17z1, x0_18z1, (rgw R11 (by decide) (by decide)), Rx0_18z1, by show va_P D classes _ t.heap; rw [ht]; exact hP, hD⟩⟩, hS.F ht⟩) hS.2.2 d_X_compare_118
        · have gc13 : x0_18z1.toInt < rz8.toInt := c_nle c13
          have R14 : 1 ≤ rz8.toInt ∧ rz8.toInt ≤ 1073741823 := rf_gtX F0z8 Rx0_18z1 gc13 (by decide) (by decide)
          have R15 : 0 ≤ x0_18z1.toInt ∧ x0_18z1.toInt ≤ 1073741822 := rf_gtY F0z8 Rx0_18z1 gc13 (by decide) (by decide)
          refine lv_iconst (v := 1) hx hb d_X_compare_110 (by decide) ?_
          refine lv_goto (tgt := 115) hx hb d_X_compare_111 (by decide) ?_
          refine va_put (D := D) (ci := 7) (v := .int (1 : Int32)) (ty := .int) (C := "SignMachineModel") (T := F_X) (N := 64) hx hb hk fi_X ft_X ft_X_ok fn_X hown hK.1 hP hD hS 0 rfl rfl 6 (by decide) (hk _ k_1127) (fun _ h9 => h9) rfl (by decide +kernel) rfl rfl (Nat.le_of_ble_eq_true rfl) d_X_compare_115 (fun H locs hP hD hS => ?_)
          have hP : va_P D classes (wS50 cI cJ cZ cB p0 p1 p2 p3 p4 p5 p6 p7 p8 p9 p10 p11 p12 p13 p14 p15 p16 p17 p18 p19 p20 p21 p22 p23 p24 p25 x0_4 x0_5 (1 : Int32) x0_7 x0_8 x0_12 x0_13 x0_14 x0_15 x0_16 x0_17z1 x0_18z1 x0_22 x0_23 x0_24 x0_25 x0_26 x0_27 x0_28 x0_29 x0_30 x0_31 x0_32 x0_36 x0_39 x0_40 x0_44 x0_49 x0_51 x0_53 x0_54 x0_55 x0_56 x0_57 x0_58 x0_59 x0_60 x0_61 x0_62 y1 y2 y3 y4 y5 y6 y7 y8 y9 y10 y11 y12 y13 y14 y15 y16 y17 y18 y19 y20 y21 y22 y23 y24 y25) H := hP
          have hD : va_D A (wS50 cI cJ cZ cB p0 p1 p2 p3 p4 p5 p6 p7 p8 p9 p10 p11 p12 p13 p14 p15 p16 p17 p18 p19 p20 p21 p22 p23 p24 p25 x0_4 x0_5 (1 : Int32) x0_7 x0_8 x0_12 x0_13 x0_14 x0_15 x0_16 x0_17z1 x0_18z1 x0_22 x0_23 x0_24 x0_25 x0_26 x0_27 x0_28 x0_29 x0_30 x0_31 x0_32 x0_36 x0_39 x0_40 x0_44 x0_49 x0_51 x0_53 x0_54 x0_55 x0_56 x0_57 x0_58 x0_59 x0_60 x0_61 x0_62 y1 y2 y3 y4 y5 y6 y7 y8 y9 y10 y11 y12 y13 y14 y15 y16 y17 y18 y19 y20 y21 y22 y23 y24 y25) := hD
          exact W.vret hx hb hr (fun t ht hW => ⟨⟨(), rfl, trivial, ⟨(1 : Int32), x0_17z1, x0_18z1, (rgw R11 (by decide) (by decide)), (rgw R15 (by decide) (by decide)), by show va_P D classes _ t.heap; rw [ht]; exact hP, hD⟩⟩, hS.F ht⟩) hS.2.2 d_X_compare_118
      · have gc12 : rz8.toInt < x0_18z1.toInt := c_nle c12
        have R16 : 0 ≤ rz8.toInt ∧ rz8.toInt ≤ 1073741822 := rf_ltX F0z8 Rx0_18z1 gc12 (by decide) (by decide)
        have R17 : 1 ≤ x0_18z1.toInt ∧ x0_18z1.toInt ≤ 1073741823 := rf_ltY F0z8 Rx0_18z1 gc12 (by decide) (by decide)
        refine lv_iconst (v := (-1)) hx hb d_X_compare_99 (by decide) ?_
        refine lv_goto (tgt := 115) hx hb d_X_compare_100 (by decide) ?_
        refine va_put (D := D) (ci := 7) (v := .int (-1 : Int32)) (ty := .int) (C := "SignMachineModel") (T := F_X) (N := 64) hx hb hk fi_X ft_X ft_X_ok fn_X hown hK.1 hP hD hS 0 rfl rfl 6 (by decide) (hk _ k_1127) (fun _ h9 => h9) rfl (by decide +kernel) rfl rfl (Nat.le_of_ble_eq_true rfl) d_X_compare_115 (fun H locs hP hD hS => ?_)
        have hP : va_P D classes (wS50 cI cJ cZ cB p0 p1 p2 p3 p4 p5 p6 p7 p8 p9 p10 p11 p12 p13 p14 p15 p16 p17 p18 p19 p20 p21 p22 p23 p24 p25 x0_4 x0_5 (-1 : Int32) x0_7 x0_8 x0_12 x0_13 x0_14 x0_15 x0_16 x0_17z1 x0_18z1 x0_22 x0_23 x0_24 x0_25 x0_26 x0_27 x0_28 x0_29 x0_30 x0_31 x0_32 x0_36 x0_39 x0_40 x0_44 x0_49 x0_51 x0_53 x0_54 x0_55 x0_56 x0_57 x0_58 x0_59 x0_60 x0_61 x0_62 y1 y2 y3 y4 y5 y6 y7 y8 y9 y10 y11 y12 y13 y14 y15 y16 y17 y18 y19 y20 y21 y22 y23 y24 y25) H := hP
        have hD : va_D A (wS50 cI cJ cZ cB p0 p1 p2 p3 p4 p5 p6 p7 p8 p9 p10 p11 p12 p13 p14 p15 p16 p17 p18 p19 p20 p21 p22 p23 p24 p25 x0_4 x0_5 (-1 : Int32) x0_7 x0_8 x0_12 x0_13 x0_14 x0_15 x0_16 x0_17z1 x0_18z1 x0_22 x0_23 x0_24 x0_25 x0_26 x0_27 x0_28 x0_29 x0_30 x0_31 x0_32 x0_36 x0_39 x0_40 x0_44 x0_49 x0_51 x0_53 x0_54 x0_55 x0_56 x0_57 x0_58 x0_59 x0_60 x0_61 x0_62 y1 y2 y3 y4 y5 y6 y7 y8 y9 y10 y11 y12 y13 y14 y15 y16 y17 y18 y19 y20 y21 y22 y23 y24 y25) := hD
        exact W.vret hx hb hr (fun t ht hW => ⟨⟨(), rfl, trivial, ⟨(-1 : Int32), x0_17z1, x0_18z1, (rgw R11 (by decide) (by decide)), (rgw R17 (by decide) (by decide)), by show va_P D classes _ t.heap; rw [ht]; exact hP, hD⟩⟩, hS.F ht⟩) hS.2.2 d_X_compare_118
    · have gc10 : x0_17z1.toInt = (1 : Int) := c_eq c10
      have R18 : 1 ≤ x0_17z1.toInt ∧ x0_17z1.toInt ≤ 1 := rf_eqX Rx0_17z1 (show 1 ≤ (1 : Int) ∧ (1 : Int) ≤ 1 from by decide) gc10 (by decide) (by decide)
      refine lv_aload_n hx hb d_X_compare_77 rfl (lv_at hl 4 rfl) ?_
      refine va_get (D := D) (ci := 7) (v := .int x0_18z1) (C := "SignMachineModel") (T := F_X) (N := 64) hx hb hk fi_X hown hK.1 hP 0 rfl rfl 18 (by decide) (hk _ k_1139) (fun _ h9 => h9) rfl d_X_compare_78 ?_
      refine lv_ineg hx hb d_X_compare_81 ?_
      refine lv_topi (fun v19 hv19 => ?_)
      obtain ⟨ev19, Rv19⟩ : v19.toInt = -x0_18z1.toInt ∧ ((-1073741823) ≤ v19.toInt ∧ v19.toInt ≤ 0) := ng3 hv19 Rx0_18z1 (by decide) (by decide) (by decide) (by decide)
      refine lv_goto (tgt := 89) hx hb d_X_compare_82 (by decide) ?_
      refine lv_istore (lv' := [(6, .int v19), (5, .int rz8), (4, .int rz8), (3, .int (0 : Int32)), (2, .int v2), (0, .ref p0), (1, .int a1)]) hx hb d_X_compare_89 hl (by decide) rfl (fun ls hl => ?_)
      refine lv_aload_n hx hb d_X_compare_91 rfl (lv_at hl 5 rfl) ?_
      refine lv_iload hx hb d_X_compare_92 (lv_at hl 1 rfl) ?_
      refine lv_iload hx hb d_X_compare_94 (lv_at hl 0 rfl) ?_
      refine lv_icmp_ge (tgt := 103) hx hb d_X_compare_96 (by decide) (fun c20 => ?_) (fun c20 => absurd (show v19 ≤ rz8 from (Int32.le_iff_toInt_le.mpr (kle Rv19 F0z8 (by decide)))) c20)
      refine lv_iload hx hb d_X_compare_103 (lv_at hl 1 rfl) ?_
      refine lv_iload hx hb d_X_compare_105 (lv_at hl 0 rfl) ?_
      refine lv_icmp_le (tgt := 114) hx hb d_X_compare_107 (by decide) (fun c21 => ?_) (fun c21 => ?_)
      · have gc21 : rz8.toInt ≤ v19.toInt := c_le c21
        have R22 : 0 ≤ rz8.toInt ∧ rz8.toInt ≤ 0 := rf_leX F0z8 Rv19 gc21 (by decide) (by decide)
        have R23 : 0 ≤ v19.toInt ∧ v19.toInt ≤ 0 := rf_leY F0z8 Rv19 gc21 (by decide) (by decide)
        refine lv_iconst (v := 0) hx hb d_X_compare_114 (by decide) ?_
        refine va_put (D := D) (ci := 7) (v := .int (0 : Int32)) (ty := .int) (C := "SignMachineModel") (T := F_X) (N := 64) hx hb hk fi_X ft_X ft_X_ok fn_X hown hK.1 hP hD hS 0 rfl rfl 6 (by decide) (hk _ k_1127) (fun _ h9 => h9) rfl (by decide +kernel) rfl rfl (Nat.le_of_ble_eq_true rfl) d_X_compare_115 (fun H locs hP hD hS => ?_)
        have hP : va_P D classes (wS50 cI cJ cZ cB p0 p1 p2 p3 p4 p5 p6 p7 p8 p9 p10 p11 p12 p13 p14 p15 p16 p17 p18 p19 p20 p21 p22 p23 p24 p25 x0_4 x0_5 (0 : Int32) x0_7 x0_8 x0_12 x0_13 x0_14 x0_15 x0_16 x0_17z1 x0_18z1 x0_22 x0_23 x0_24 x0_25 x0_26 x0_27 x0_28 x0_29 x0_30 x0_31 x0_32 x0_36 x0_39 x0_40 x0_44 x0_49 x0_51 x0_53 x0_54 x0_55 x0_56 x0_57 x0_58 x0_59 x0_60 x0_61 x0_62 y1 y2 y3 y4 y5 y6 y7 y8 y9 y10 y11 y12 y13 y14 y15 y16 y17 y18 y19 y20 y21 y22 y23 y24 y25) H := hP
        have hD : va_D A (wS50 cI cJ cZ cB p0 p1 p2 p3 p4 p5 p6 p7 p8 p9 p10 p11 p12 p13 p14 p15 p16 p17 p18 p19 p20 p21 p22 p23 p24 p25 x0_4 x0_5 (0 : Int32) x0_7 x0_8 x0_12 x0_13 x0_14 x0_15 x0_16 x0_17z1 x0_18z1 x0_22 x0_23 x0_24 x0_25 x0_26 x0_27 x0_28 x0_29 x0_30 x0_31 x0_32 x0_36 x0_39 x0_40 x0_44 x0_49 x0_51 x0_53 x0_54 x0_55 x0_56 x0_57 x0_58 x0_59 x0_60 x0_61 x0_62 y1 y2 y3 y4 y5 y6 y7 y8 y9 y10 y11 y12 y13 y14 y15 y16 y17 y18 y19 y20 y21 y22 y23 y24 y25) := hD
        exact W.vret hx hb hr (fun t ht hW => ⟨⟨(), rfl, trivial, ⟨(0 : Int32), x0_17z1, x0_18z1, (rgw R18 (by decide) (by decide)), Rx0_18z1, by show va_P D classes _ t.heap; rw [ht]; exact hP, hD⟩⟩, hS.F ht⟩) hS.2.2 d_X_compare_118
      · have gc21 : v19.toInt < rz8.toInt := c_nle c21
        refine lv_iconst (v := 1) hx hb d_X_compare_110 (by decide) ?_
        refine lv_goto (tgt := 115) hx hb d_X_compare_111 (by decide) ?_
        refine va_put (D := D) (ci := 7) (v := .int (1 : Int32)) (ty := .int) (C := "SignMachineModel") (T := F_X) (N := 64) hx hb hk fi_X ft_X ft_X_ok fn_X hown hK.1 hP hD hS 0 rfl rfl 6 (by decide) (hk _ k_1127) (fun _ h9 => h9) rfl (by decide +kernel) rfl rfl (Nat.le_of_ble_eq_true rfl) d_X_compare_115 (fun H locs hP hD hS => ?_)
        have hP : va_P D classes (wS50 cI cJ cZ cB p0 p1 p2 p3 p4 p5 p6 p7 p8 p9 p10 p11 p12 p13 p14 p15 p16 p17 p18 p19 p20 p21 p22 p23 p24 p25 x0_4 x0_5 (1 : Int32) x0_7 x0_8 x0_12 x0_13 x0_14 x0_15 x0_16 x0_17z1 x0_18z1 x0_22 x0_23 x0_24 x0_25 x0_26 x0_27 x0_28 x0_29 x0_30 x0_31 x0_32 x0_36 x0_39 x0_40 x0_44 x0_49 x0_51 x0_53 x0_54 x0_55 x0_56 x0_57 x0_58 x0_59 x0_60 x0_61 x0_62 y1 y2 y3 y4 y5 y6 y7 y8 y9 y10 y11 y12 y13 y14 y15 y16 y17 y18 y19 y20 y21 y22 y23 y24 y25) H := hP
        have hD : va_D A (wS50 cI cJ cZ cB p0 p1 p2 p3 p4 p5 p6 p7 p8 p9 p10 p11 p12 p13 p14 p15 p16 p17 p18 p19 p20 p21 p22 p23 p24 p25 x0_4 x0_5 (1 : Int32) x0_7 x0_8 x0_12 x0_13 x0_14 x0_15 x0_16 x0_17z1 x0_18z1 x0_22 x0_23 x0_24 x0_25 x0_26 x0_27 x0_28 x0_29 x0_30 x0_31 x0_32 x0_36 x0_39 x0_40 x0_44 x0_49 x0_51 x0_53 x0_54 x0_55 x0_56 x0_57 x0_58 x0_59 x0_60 x0_61 x0_62 y1 y2 y3 y4 y5 y6 y7 y8 y9 y10 y11 y12 y13 y14 y15 y16 y17 y18 y19 y20 y21 y22 y23 y24 y25) := hD
        exact W.vret hx hb hr (fun t ht hW => ⟨⟨(), rfl, trivial, ⟨(1 : Int32), x0_17z1, x0_18z1, (rgw R18 (by decide) (by decide)), Rx0_18z1, by show va_P D classes _ t.heap; rw [ht]; exact hP, hD⟩⟩, hS.F ht⟩) hS.2.2 d_X_compare_118
  · have gc3 : v2.toInt = (0 : Int) := c_eq c3
    have R24 : 0 ≤ v2.toInt ∧ v2.toInt ≤ 0 := rf_eqX Rv2 (show 0 ≤ (0 : Int) ∧ (0 : Int) ≤ 0 from by decide) gc3 (by decide) (by decide)
    refine lv_aload_n hx hb d_X_compare_16 rfl (lv_at hl 1 rfl) ?_
    refine va_get (D := D) (ci := 7) (v := .ref p3) (C := "SignMachineModel") (T := F_X) (N := 64) hx hb hk fi_X hown hK.1 hP 0 rfl rfl 2 (by decide) (hk _ k_1123) (fun _ h9 => h9) rfl d_X_compare_17 ?_
    refine lv_iload_n hx hb d_X_compare_20 rfl (lv_at hl 2 rfl) ?_
    refine va_iald hx hb hK.1 hP 3 0 rfl rfl (vpb Q2 (by decide) (by decide)) d_X_compare_21 ?_
    refine lv_topi (fun v25 hv25 => ?_)
    have Rv25 := Ay3 (a1).toNatClampNeg
    rw [← hv25] at Rv25
    refine lv_goto (tgt := 26) hx hb d_X_compare_22 (by decide) ?_
    refine lv_istore_n (lv' := [(3, .int v25), (2, .int v2), (0, .ref p0), (1, .int a1)]) hx hb d_X_compare_26 rfl hl (by decide) rfl (fun ls hl => ?_)
    refine lv_aload_n hx hb d_X_compare_27 rfl (lv_at hl 2 rfl) ?_
    refine va_get (D := D) (ci := 7) (v := .ref p4) (C := "SignMachineModel") (T := F_X) (N := 64) hx hb hk fi_X hown hK.1 hP 0 rfl rfl 3 (by decide) (hk _ k_1124) (fun _ h9 => h9) rfl d_X_compare_28 ?_
    refine lv_iload_n hx hb d_X_compare_31 rfl (lv_at hl 3 rfl) ?_
    refine va_iald hx hb hK.1 hP 4 0 rfl rfl (vpb Q2 (by decide) (by decide)) d_X_compare_32 ?_
    refine lv_topi (fun v26 hv26 => ?_)
    have Rv26 := Ay4 (a1).toNatClampNeg
    rw [← hv26] at Rv26
    obtain ⟨Rv26, Xv26⟩ := Rv26
    have : (((a1).toNatClampNeg : Nat) : Int) = a1.toInt := ti_n Q2 (by decide)
    refine lv_iload_n hx hb d_X_compare_33 rfl (lv_at hl 1 rfl) ?_
    refine lv_if_ne (tgt := 41) hx hb d_X_compare_34 (by decide) (fun c27 => absurd (show v2 = (0 : Int32) from c3) c27) (fun c27 => ?_)
    refine lv_iconst (v := 1) hx hb d_X_compare_37 (by decide) ?_
    refine lv_goto (tgt := 42) hx hb d_X_compare_38 (by decide) ?_
    refine lv_aload_n hx hb d_X_compare_42 rfl (lv_at hl 2 rfl) ?_
    refine va_get (D := D) (ci := 7) (v := .int x0_13) (C := "SignMachineModel") (T := F_X) (N := 64) hx hb hk fi_X hown hK.1 hP 0 rfl rfl 13 (by decide) (hk _ k_1134) (fun _ h9 => h9) rfl d_X_compare_43 ?_
    refine lv_bipush (v := 8) hx hb d_X_compare_46 (by decide) ?_
    refine lv_irem hx hb d_X_compare_48 (by decide) ?_
    refine lv_topi (fun v28 hv28 => ?_)
    obtain ⟨ev28, lv28, Rv28⟩ : v28.toInt = x0_13.toInt % (8 : Int) ∧ v28.toInt < (8 : Int) ∧ (0 ≤ v28.toInt ∧ v28.toInt ≤ 7) := rm3 hv28 Rx0_13 (show 8 ≤ (8 : Int32).toInt ∧ (8 : Int32).toInt ≤ 8 from by decide) (by decide) (by decide) (by decide)
    refine vp_callSi (W.runS (As := [.int v26, .int (1 : Int32), .int v28]) (rest := []) ⟨hx, hb, hml, hown, hk⟩ (c_X_bytes l v26 (1 : Int32) v28 Rv26 (by decide) (by omega)) (s_X_bytes hk k_1412 ⟨Nat.le_of_ble_eq_true rfl, Nat.le_of_ble_eq_true rfl⟩) ⟨fun a U g mk q => q, fun U hU hW => ⟨rfl, trivial⟩⟩ rfl rfl hl.1 rfl (lv_room (Nat.le_of_ble_eq_true rfl)) d_X_compare_49 ⟨Nat.le_of_ble_eq_true rfl, Nat.le_of_ble_eq_true rfl⟩) (fun rz29 hrz29 => ?_)
    obtain ⟨F0z29, F1z29, F2z29⟩ := hrz29
    have F0z29 : 0 ≤ rz29.toInt ∧ rz29.toInt ≤ 1073741823 := F0z29
    have F1z29 : hid ((1 : Int) = v28.toInt → rz29.toInt ≤ 63) := F1z29
    have F2z29 : hid (rz29.toInt = bt v26.toInt (1 : Int) v28.toInt) := F2z29
    refine lv_istore (lv' := [(4, .int rz29), (3, .int v25), (2, .int v2), (0, .ref p0), (1, .int a1)]) hx hb d_X_compare_52 hl (by decide) rfl (fun ls hl => ?_)
    refine lv_iload_n hx hb d_X_compare_54 rfl (lv_at hl 1 rfl) ?_
    refine lv_iconst (v := 1) hx hb d_X_compare_55 (by decide) ?_
    refine lv_icmp_ne (tgt := 65) hx hb d_X_compare_56 (by decide) (fun c30 => ?_) (fun c30 => ?_)
    · have gc30 : v25.toInt ≠ (1 : Int) := c_ne c30
      have R31 : 0 ≤ v25.toInt ∧ v25.toInt ≤ 0 := rf_neX Rv25 (show 1 ≤ (1 : Int) ∧ (1 : Int) ≤ 1 from by decide) gc30 (by decide) (by decide)
      refine lv_iload hx hb d_X_compare_65 (lv_at hl 0 rfl) ?_
      refine lv_istore (lv' := [(5, .int rz29), (4, .int rz29), (3, .int v25), (2, .int v2), (0, .ref p0), (1, .int a1)]) hx hb d_X_compare_67 hl (by decide) rfl (fun ls hl => ?_)
      refine lv_aload_n hx hb d_X_compare_69 rfl (lv_at hl 4 rfl) ?_
      refine va_get (D := D) (ci := 7) (v := .int x0_17z1) (C := "SignMachineModel") (T := F_X) (N := 64) hx hb hk fi_X hown hK.1 hP 0 rfl rfl 17 (by decide) (hk _ k_1138) (fun _ h9 => h9) rfl d_X_compare_70 ?_
      refine lv_iconst (v := 1) hx hb d_X_compare_73 (by decide) ?_
      refine lv_icmp_ne (tgt := 85) hx hb d_X_compare_74 (by decide) (fun c32 => ?_) (fun c32 => ?_)
      · have gc32 : x0_17z1.toInt ≠ (1 : Int) := c_ne c32
        have R33 : 0 ≤ x0_17z1.toInt ∧ x0_17z1.toInt ≤ 0 := rf_neX Rx0_17z1 (show 1 ≤ (1 : Int) ∧ (1 : Int) ≤ 1 from by decide) gc32 (by decide) (by decide)
        refine lv_aload_n hx hb d_X_compare_85 rfl (lv_at hl 4 rfl) ?_
        refine va_get (D := D) (ci := 7) (v := .int x0_18z1) (C := "SignMachineModel") (T := F_X) (N := 64) hx hb hk fi_X hown hK.1 hP 0 rfl rfl 18 (by decide) (hk _ k_1139) (fun _ h9 => h9) rfl d_X_compare_86 ?_
        refine lv_istore (lv' := [(6, .int x0_18z1), (5, .int rz29), (4, .int rz29), (3, .int v25), (2, .int v2), (0, .ref p0), (1, .int a1)]) hx hb d_X_compare_89 hl (by decide) rfl (fun ls hl => ?_)
        refine lv_aload_n hx hb d_X_compare_91 rfl (lv_at hl 5 rfl) ?_
        refine lv_iload hx hb d_X_compare_92 (lv_at hl 1 rfl) ?_
        refine lv_iload hx hb d_X_compare_94 (lv_at hl 0 rfl) ?_
        refine lv_icmp_ge (tgt := 103) hx hb d_X_compare_96 (by decide) (fun c34 => ?_) (fun c34 => ?_)
        · have gc34 : x0_18z1.toInt ≤ rz29.toInt := c_le c34
          refine lv_iload hx hb d_X_compare_103 (lv_at hl 1 rfl) ?_
          refine lv_iload hx hb d_X_compare_105 (lv_at hl 0 rfl) ?_
          refine lv_icmp_le (tgt := 114) hx hb d_X_compare_107 (by decide) (fun c35 => ?_) (fun c35 => ?_)
          · have gc35 : rz29.toInt ≤ x0_18z1.toInt := c_le c35
            refine lv_iconst (v := 0) hx hb d_X_compare_114 (by decide) ?_
            refine va_put (D := D) (ci := 7) (v := .int (0 : Int32)) (ty := .int) (C := "SignMachineModel") (T := F_X) (N := 64) hx hb hk fi_X ft_X ft_X_ok fn_X hown hK.1 hP hD hS 0 rfl rfl 6 (by decide) (hk _ k_1127) (fun _ h9 => h9) rfl (by decide +kernel) rfl rfl (Nat.le_of_ble_eq_true rfl) d_X_compare_115 (fun H locs hP hD hS => ?_)
            have hP : va_P D classes (wS50 cI cJ cZ cB p0 p1 p2 p3 p4 p5 p6 p7 p8 p9 p10 p11 p12 p13 p14 p15 p16 p17 p18 p19 p20 p21 p22 p23 p24 p25 x0_4 x0_5 (0 : Int32) x0_7 x0_8 x0_12 x0_13 x0_14 x0_15 x0_16 x0_17z1 x0_18z1 x0_22 x0_23 x0_24 x0_25 x0_26 x0_27 x0_28 x0_29 x0_30 x0_31 x0_32 x0_36 x0_39 x0_40 x0_44 x0_49 x0_51 x0_53 x0_54 x0_55 x0_56 x0_57 x0_58 x0_59 x0_60 x0_61 x0_62 y1 y2 y3 y4 y5 y6 y7 y8 y9 y10 y11 y12 y13 y14 y15 y16 y17 y18 y19 y20 y21 y22 y23 y24 y25) H := hP
            have hD : va_D A (wS50 cI cJ cZ cB p0 p1 p2 p3 p4 p5 p6 p7 p8 p9 p10 p11 p12 p13 p14 p15 p16 p17 p18 p19 p20 p21 p22 p23 p24 p25 x0_4 x0_5 (0 : Int32) x0_7 x0_8 x0_12 x0_13 x0_14 x0_15 x0_16 x0_17z1 x0_18z1 x0_22 x0_23 x0_24 x0_25 x0_26 x0_27 x0_28 x0_29 x0_30 x0_31 x0_32 x0_36 x0_39 x0_40 x0_44 x0_49 x0_51 x0_53 x0_54 x0_55 x0_56 x0_57 x0_58 x0_59 x0_60 x0_61 x0_62 y1 y2 y3 y4 y5 y6 y7 y8 y9 y10 y11 y12 y13 y14 y15 y16 y17 y18 y19 y20 y21 y22 y23 y24 y25) := hD
            exact W.vret hx hb hr (fun t ht hW => ⟨⟨(), rfl, trivial, ⟨(0 : Int32), x0_17z1, x0_18z1, (rgw R33 (by decide) (by decide)), Rx0_18z1, by show va_P D classes _ t.heap; rw [ht]; exact hP, hD⟩⟩, hS.F ht⟩) hS.2.2 d_X_compare_118
          · have gc35 : x0_18z1.toInt < rz29.toInt := c_nle c35
            have R36 : 1 ≤ rz29.toInt ∧ rz29.toInt ≤ 1073741823 := rf_gtX F0z29 Rx0_18z1 gc35 (by decide) (by decide)
            have R37 : 0 ≤ x0_18z1.toInt ∧ x0_18z1.toInt ≤ 1073741822 := rf_gtY F0z29 Rx0_18z1 gc35 (by decide) (by decide)
            refine lv_iconst (v := 1) hx hb d_X_compare_110 (by decide) ?_
            refine lv_goto (tgt := 115) hx hb d_X_compare_111 (by decide) ?_
            refine va_put (D := D) (ci := 7) (v := .int (1 : Int32)) (ty := .int) (C := "SignMachineModel") (T := F_X) (N := 64) hx hb hk fi_X ft_X ft_X_ok fn_X hown hK.1 hP hD hS 0 rfl rfl 6 (by decide) (hk _ k_1127) (fun _ h9 => h9) rfl (by decide +kernel) rfl rfl (Nat.le_of_ble_eq_true rfl) d_X_compare_115 (fun H locs hP hD hS => ?_)
            have hP : va_P D classes (wS50 cI cJ cZ cB p0 p1 p2 p3 p4 p5 p6 p7 p8 p9 p10 p11 p12 p13 p14 p15 p16 p17 p18 p19 p20 p21 p22 p23 p24 p25 x0_4 x0_5 (1 : Int32) x0_7 x0_8 x0_12 x0_13 x0_14 x0_15 x0_16 x0_17z1 x0_18z1 x0_22 x0_23 x0_24 x0_25 x0_26 x0_27 x0_28 x0_29 x0_30 x0_31 x0_32 x0_36 x0_39 x0_40 x0_44 x0_49 x0_51 x0_53 x0_54 x0_55 x0_56 x0_57 x0_58 x0_59 x0_60 x0_61 x0_62 y1 y2 y3 y4 y5 y6 y7 y8 y9 y10 y11 y12 y13 y14 y15 y16 y17 y18 y19 y20 y21 y22 y23 y24 y25) H := hP
            have hD : va_D A (wS50 cI cJ cZ cB p0 p1 p2 p3 p4 p5 p6 p7 p8 p9 p10 p11 p12 p13 p14 p15 p16 p17 p18 p19 p20 p21 p22 p23 p24 p25 x0_4 x0_5 (1 : Int32) x0_7 x0_8 x0_12 x0_13 x0_14 x0_15 x0_16 x0_17z1 x0_18z1 x0_22 x0_23 x0_24 x0_25 x0_26 x0_27 x0_28 x0_29 x0_30 x0_31 x0_32 x0_36 x0_39 x0_40 x0_44 x0_49 x0_51 x0_53 x0_54 x0_55 x0_56 x0_57 x0_58 x0_59 x0_60 x0_61 x0_62 y1 y2 y3 y4 y5 y6 y7 y8 y9 y10 y11 y12 y13 y14 y15 y16 y17 y18 y19 y20 y21 y22 y23 y24 y25) := hD
            exact W.vret hx hb hr (fun t ht hW => ⟨⟨(), rfl, trivial, ⟨(1 : Int32), x0_17z1, x0_18z1, (rgw R33 (by decide) (by decide)), (rgw R37 (by decide) (by decide)), by show va_P D classes _ t.heap; rw [ht]; exact hP, hD⟩⟩, hS.F ht⟩) hS.2.2 d_X_compare_118
        · have gc34 : rz29.toInt < x0_18z1.toInt := c_nle c34
          have R38 : 0 ≤ rz29.toInt ∧ rz29.toInt ≤ 1073741822 := rf_ltX F0z29 Rx0_18z1 gc34 (by decide) (by decide)
          have R39 : 1 ≤ x0_18z1.toInt ∧ x0_18z1.toInt ≤ 1073741823 := rf_ltY F0z29 Rx0_18z1 gc34 (by decide) (by decide)
          refine lv_iconst (v := (-1)) hx hb d_X_compare_99 (by decide) ?_
          refine lv_goto (tgt := 115) hx hb d_X_compare_100 (by decide) ?_
          refine va_put (D := D) (ci := 7) (v := .int (-1 : Int32)) (ty := .int) (C := "SignMachineModel") (T := F_X) (N := 64) hx hb hk fi_X ft_X ft_X_ok fn_X hown hK.1 hP hD hS 0 rfl rfl 6 (by decide) (hk _ k_1127) (fun _ h9 => h9) rfl (by decide +kernel) rfl rfl (Nat.le_of_ble_eq_true rfl) d_X_compare_115 (fun H locs hP hD hS => ?_)
          have hP : va_P D classes (wS50 cI cJ cZ cB p0 p1 p2 p3 p4 p5 p6 p7 p8 p9 p10 p11 p12 p13 p14 p15 p16 p17 p18 p19 p20 p21 p22 p23 p24 p25 x0_4 x0_5 (-1 : Int32) x0_7 x0_8 x0_12 x0_13 x0_14 x0_15 x0_16 x0_17z1 x0_18z1 x0_22 x0_23 x0_24 x0_25 x0_26 x0_27 x0_28 x0_29 x0_30 x0_31 x0_32 x0_36 x0_39 x0_40 x0_44 x0_49 x0_51 x0_53 x0_54 x0_55 x0_56 x0_57 x0_58 x0_59 x0_60 x0_61 x0_62 y1 y2 y3 y4 y5 y6 y7 y8 y9 y10 y11 y12 y13 y14 y15 y16 y17 y18 y19 y20 y21 y22 y23 y24 y25) H := hP
          have hD : va_D A (wS50 cI cJ cZ cB p0 p1 p2 p3 p4 p5 p6 p7 p8 p9 p10 p11 p12 p13 p14 p15 p16 p17 p18 p19 p20 p21 p22 p23 p24 p25 x0_4 x0_5 (-1 : Int32) x0_7 x0_8 x0_12 x0_13 x0_14 x0_15 x0_16 x0_17z1 x0_18z1 x0_22 x0_23 x0_24 x0_25 x0_26 x0_27 x0_28 x0_29 x0_30 x0_31 x0_32 x0_36 x0_39 x0_40 x0_44 x0_49 x0_51 x0_53 x0_54 x0_55 x0_56 x0_57 x0_58 x0_59 x0_60 x0_61 x0_62 y1 y2 y3 y4 y5 y6 y7 y8 y9 y10 y11 y12 y13 y14 y15 y16 y17 y18 y19 y20 y21 y22 y23 y24 y25) := hD
          exact W.vret hx hb hr (fun t ht hW => ⟨⟨(), rfl, trivial, ⟨(-1 : Int32), x0_17z1, x0_18z1, (rgw R33 (by decide) (by decide)), (rgw R39 (by decide) (by decide)), by show va_P D classes _ t.heap; rw [ht]; exact hP, hD⟩⟩, hS.F ht⟩) hS.2.2 d_X_compare_118
      · have gc32 : x0_17z1.toInt = (1 : Int) := c_eq c32
        have R40 : 1 ≤ x0_17z1.toInt ∧ x0_17z1.toInt ≤ 1 := rf_eqX Rx0_17z1 (show 1 ≤ (1 : Int) ∧ (1 : Int) ≤ 1 from by decide) gc32 (by decide) (by decide)
        refine lv_aload_n hx hb d_X_compare_77 rfl (lv_at hl 4 rfl) ?_
        refine va_get (D := D) (ci := 7) (v := .int x0_18z1) (C := "SignMachineModel") (T := F_X) (N := 64) hx hb hk fi_X hown hK.1 hP 0 rfl rfl 18 (by decide) (hk _ k_1139) (fun _ h9 => h9) rfl d_X_compare_78 ?_
        refine lv_ineg hx hb d_X_compare_81 ?_
        refine lv_topi (fun v41 hv41 => ?_)
        obtain ⟨ev41, Rv41⟩ : v41.toInt = -x0_18z1.toInt ∧ ((-1073741823) ≤ v41.toInt ∧ v41.toInt ≤ 0) := ng3 hv41 Rx0_18z1 (by decide) (by decide) (by decide) (by decide)
        refine lv_goto (tgt := 89) hx hb d_X_compare_82 (by decide) ?_
        refine lv_istore (lv' := [(6, .int v41), (5, .int rz29), (4, .int rz29), (3, .int v25), (2, .int v2), (0, .ref p0), (1, .int a1)]) hx hb d_X_compare_89 hl (by decide) rfl (fun ls hl => ?_)
        refine lv_aload_n hx hb d_X_compare_91 rfl (lv_at hl 5 rfl) ?_
        refine lv_iload hx hb d_X_compare_92 (lv_at hl 1 rfl) ?_
        refine lv_iload hx hb d_X_compare_94 (lv_at hl 0 rfl) ?_
        refine lv_icmp_ge (tgt := 103) hx hb d_X_compare_96 (by decide) (fun c42 => ?_) (fun c42 => absurd (show v41 ≤ rz29 from (Int32.le_iff_toInt_le.mpr (kle Rv41 F0z29 (by decide)))) c42)
        refine lv_iload hx hb d_X_compare_103 (lv_at hl 1 rfl) ?_
        refine lv_iload hx hb d_X_compare_105 (lv_at hl 0 rfl) ?_
        refine lv_icmp_le (tgt := 114) hx hb d_X_compare_107 (by decide) (fun c43 => ?_) (fun c43 => ?_)
        · have gc43 : rz29.toInt ≤ v41.toInt := c_le c43
          have R44 : 0 ≤ rz29.toInt ∧ rz29.toInt ≤ 0 := rf_leX F0z29 Rv41 gc43 (by decide) (by decide)
          have R45 : 0 ≤ v41.toInt ∧ v41.toInt ≤ 0 := rf_leY F0z29 Rv41 gc43 (by decide) (by decide)
          refine lv_iconst (v := 0) hx hb d_X_compare_114 (by decide) ?_
          refine va_put (D := D) (ci := 7) (v := .int (0 : Int32)) (ty := .int) (C := "SignMachineModel") (T := F_X) (N := 64) hx hb hk fi_X ft_X ft_X_ok fn_X hown hK.1 hP hD hS 0 rfl rfl 6 (by decide) (hk _ k_1127) (fun _ h9 => h9) rfl (by decide +kernel) rfl rfl (Nat.le_of_ble_eq_true rfl) d_X_compare_115 (fun H locs hP hD hS => ?_)
          have hP : va_P D classes (wS50 cI cJ cZ cB p0 p1 p2 p3 p4 p5 p6 p7 p8 p9 p10 p11 p12 p13 p14 p15 p16 p17 p18 p19 p20 p21 p22 p23 p24 p25 x0_4 x0_5 (0 : Int32) x0_7 x0_8 x0_12 x0_13 x0_14 x0_15 x0_16 x0_17z1 x0_18z1 x0_22 x0_23 x0_24 x0_25 x0_26 x0_27 x0_28 x0_29 x0_30 x0_31 x0_32 x0_36 x0_39 x0_40 x0_44 x0_49 x0_51 x0_53 x0_54 x0_55 x0_56 x0_57 x0_58 x0_59 x0_60 x0_61 x0_62 y1 y2 y3 y4 y5 y6 y7 y8 y9 y10 y11 y12 y13 y14 y15 y16 y17 y18 y19 y20 y21 y22 y23 y24 y25) H := hP
          have hD : va_D A (wS50 cI cJ cZ cB p0 p1 p2 p3 p4 p5 p6 p7 p8 p9 p10 p11 p12 p13 p14 p15 p16 p17 p18 p19 p20 p21 p22 p23 p24 p25 x0_4 x0_5 (0 : Int32) x0_7 x0_8 x0_12 x0_13 x0_14 x0_15 x0_16 x0_17z1 x0_18z1 x0_22 x0_23 x0_24 x0_25 x0_26 x0_27 x0_28 x0_29 x0_30 x0_31 x0_32 x0_36 x0_39 x0_40 x0_44 x0_49 x0_51 x0_53 x0_54 x0_55 x0_56 x0_57 x0_58 x0_59 x0_60 x0_61 x0_62 y1 y2 y3 y4 y5 y6 y7 y8 y9 y10 y11 y12 y13 y14 y15 y16 y17 y18 y19 y20 y21 y22 y23 y24 y25) := hD
          exact W.vret hx hb hr (fun t ht hW => ⟨⟨(), rfl, trivial, ⟨(0 : Int32), x0_17z1, x0_18z1, (rgw R40 (by decide) (by decide)), Rx0_18z1, by show va_P D classes _ t.heap; rw [ht]; exact hP, hD⟩⟩, hS.F ht⟩) hS.2.2 d_X_compare_118
        · have gc43 : v41.toInt < rz29.toInt := c_nle c43
          refine lv_iconst (v := 1) hx hb d_X_compare_110 (by decide) ?_
          refine lv_goto (tgt := 115) hx hb d_X_compare_111 (by decide) ?_
          refine va_put (D := D) (ci := 7) (v := .int (1 : Int32)) (ty := .int) (C := "SignMachineModel") (T := F_X) (N := 64) hx hb hk fi_X ft_X ft_X_ok fn_X hown hK.1 hP hD hS 0 rfl rfl 6 (by decide) (hk _ k_1127) (fun _ h9 => h9) rfl (by decide +kernel) rfl rfl (Nat.le_of_ble_eq_true rfl) d_X_compare_115 (fun H locs hP hD hS => ?_)
          have hP : va_P D classes (wS50 cI cJ cZ cB p0 p1 p2 p3 p4 p5 p6 p7 p8 p9 p10 p11 p12 p13 p14 p15 p16 p17 p18 p19 p20 p21 p22 p23 p24 p25 x0_4 x0_5 (1 : Int32) x0_7 x0_8 x0_12 x0_13 x0_14 x0_15 x0_16 x0_17z1 x0_18z1 x0_22 x0_23 x0_24 x0_25 x0_26 x0_27 x0_28 x0_29 x0_30 x0_31 x0_32 x0_36 x0_39 x0_40 x0_44 x0_49 x0_51 x0_53 x0_54 x0_55 x0_56 x0_57 x0_58 x0_59 x0_60 x0_61 x0_62 y1 y2 y3 y4 y5 y6 y7 y8 y9 y10 y11 y12 y13 y14 y15 y16 y17 y18 y19 y20 y21 y22 y23 y24 y25) H := hP
          have hD : va_D A (wS50 cI cJ cZ cB p0 p1 p2 p3 p4 p5 p6 p7 p8 p9 p10 p11 p12 p13 p14 p15 p16 p17 p18 p19 p20 p21 p22 p23 p24 p25 x0_4 x0_5 (1 : Int32) x0_7 x0_8 x0_12 x0_13 x0_14 x0_15 x0_16 x0_17z1 x0_18z1 x0_22 x0_23 x0_24 x0_25 x0_26 x0_27 x0_28 x0_29 x0_30 x0_31 x0_32 x0_36 x0_39 x0_40 x0_44 x0_49 x0_51 x0_53 x0_54 x0_55 x0_56 x0_57 x0_58 x0_59 x0_60 x0_61 x0_62 y1 y2 y3 y4 y5 y6 y7 y8 y9 y10 y11 y12 y13 y14 y15 y16 y17 y18 y19 y20 y21 y22 y23 y24 y25) := hD
          exact W.vret hx hb hr (fun t ht hW => ⟨⟨(), rfl, trivial, ⟨(1 : Int32), x0_17z1, x0_18z1, (rgw R40 (by decide) (by decide)), Rx0_18z1, by show va_P D classes _ t.heap; rw [ht]; exact hP, hD⟩⟩, hS.F ht⟩) hS.2.2 d_X_compare_118
    · have gc30 : v25.toInt = (1 : Int) := c_eq c30
      have R46 : 1 ≤ v25.toInt ∧ v25.toInt ≤ 1 := rf_eqX Rv25 (show 1 ≤ (1 : Int) ∧ (1 : Int) ≤ 1 from by decide) gc30 (by decide) (by decide)
      refine lv_iload hx hb d_X_compare_59 (lv_at hl 0 rfl) ?_
      refine lv_ineg hx hb d_X_compare_61 ?_
      refine lv_topi (fun v47 hv47 => ?_)
      obtain ⟨ev47, Rv47⟩ : v47.toInt = -rz29.toInt ∧ ((-1073741823) ≤ v47.toInt ∧ v47.toInt ≤ 0) := ng3 hv47 F0z29 (by decide) (by decide) (by decide) (by decide)
      refine lv_goto (tgt := 67) hx hb d_X_compare_62 (by decide) ?_
      refine lv_istore (lv' := [(5, .int v47), (4, .int rz29), (3, .int v25), (2, .int v2), (0, .ref p0), (1, .int a1)]) hx hb d_X_compare_67 hl (by decide) rfl (fun ls hl => ?_)
      refine lv_aload_n hx hb d_X_compare_69 rfl (lv_at hl 4 rfl) ?_
      refine va_get (D := D) (ci := 7) (v := .int x0_17z1) (C := "SignMachineModel") (T := F_X) (N := 64) hx hb hk fi_X hown hK.1 hP 0 rfl rfl 17 (by decide) (hk _ k_1138) (fun _ h9 => h9) rfl d_X_compare_70 ?_
      refine lv_iconst (v := 1) hx hb d_X_compare_73 (by decide) ?_
      refine lv_icmp_ne (tgt := 85) hx hb d_X_compare_74 (by decide) (fun c48 => ?_) (fun c48 => ?_)
      · have gc48 : x0_17z1.toInt ≠ (1 : Int) := c_ne c48
        have R49 : 0 ≤ x0_17z1.toInt ∧ x0_17z1.toInt ≤ 0 := rf_neX Rx0_17z1 (show 1 ≤ (1 : Int) ∧ (1 : Int) ≤ 1 from by decide) gc48 (by decide) (by decide)
        refine lv_aload_n hx hb d_X_compare_85 rfl (lv_at hl 4 rfl) ?_
        refine va_get (D := D) (ci := 7) (v := .int x0_18z1) (C := "SignMachineModel") (T := F_X) (N := 64) hx hb hk fi_X hown hK.1 hP 0 rfl rfl 18 (by decide) (hk _ k_1139) (fun _ h9 => h9) rfl d_X_compare_86 ?_
        refine lv_istore (lv' := [(6, .int x0_18z1), (5, .int v47), (4, .int rz29), (3, .int v25), (2, .int v2), (0, .ref p0), (1, .int a1)]) hx hb d_X_compare_89 hl (by decide) rfl (fun ls hl => ?_)
        refine lv_aload_n hx hb d_X_compare_91 rfl (lv_at hl 5 rfl) ?_
        refine lv_iload hx hb d_X_compare_92 (lv_at hl 1 rfl) ?_
        refine lv_iload hx hb d_X_compare_94 (lv_at hl 0 rfl) ?_
        refine lv_icmp_ge (tgt := 103) hx hb d_X_compare_96 (by decide) (fun c50 => ?_) (fun c50 => ?_)
        · have gc50 : x0_18z1.toInt ≤ v47.toInt := c_le c50
          have R51 : 0 ≤ v47.toInt ∧ v47.toInt ≤ 0 := rf_geX Rv47 Rx0_18z1 gc50 (by decide) (by decide)
          have R52 : 0 ≤ x0_18z1.toInt ∧ x0_18z1.toInt ≤ 0 := rf_geY Rv47 Rx0_18z1 gc50 (by decide) (by decide)
          refine lv_iload hx hb d_X_compare_103 (lv_at hl 1 rfl) ?_
          refine lv_iload hx hb d_X_compare_105 (lv_at hl 0 rfl) ?_
          refine lv_icmp_le (tgt := 114) hx hb d_X_compare_107 (by decide) (fun c53 => ?_) (fun c53 => absurd (show v47 ≤ x0_18z1 from (Int32.le_iff_toInt_le.mpr (kle R51 R52 (by decide)))) c53)
          refine lv_iconst (v := 0) hx hb d_X_compare_114 (by decide) ?_
          refine va_put (D := D) (ci := 7) (v := .int (0 : Int32)) (ty := .int) (C := "SignMachineModel") (T := F_X) (N := 64) hx hb hk fi_X ft_X ft_X_ok fn_X hown hK.1 hP hD hS 0 rfl rfl 6 (by decide) (hk _ k_1127) (fun _ h9 => h9) rfl (by decide +kernel) rfl rfl (Nat.le_of_ble_eq_true rfl) d_X_compare_115 (fun H locs hP hD hS => ?_)
          have hP : va_P D classes (wS50 cI cJ cZ cB p0 p1 p2 p3 p4 p5 p6 p7 p8 p9 p10 p11 p12 p13 p14 p15 p16 p17 p18 p19 p20 p21 p22 p23 p24 p25 x0_4 x0_5 (0 : Int32) x0_7 x0_8 x0_12 x0_13 x0_14 x0_15 x0_16 x0_17z1 x0_18z1 x0_22 x0_23 x0_24 x0_25 x0_26 x0_27 x0_28 x0_29 x0_30 x0_31 x0_32 x0_36 x0_39 x0_40 x0_44 x0_49 x0_51 x0_53 x0_54 x0_55 x0_56 x0_57 x0_58 x0_59 x0_60 x0_61 x0_62 y1 y2 y3 y4 y5 y6 y7 y8 y9 y10 y11 y12 y13 y14 y15 y16 y17 y18 y19 y20 y21 y22 y23 y24 y25) H := hP
          have hD : va_D A (wS50 cI cJ cZ cB p0 p1 p2 p3 p4 p5 p6 p7 p8 p9 p10 p11 p12 p13 p14 p15 p16 p17 p18 p19 p20 p21 p22 p23 p24 p25 x0_4 x0_5 (0 : Int32) x0_7 x0_8 x0_12 x0_13 x0_14 x0_15 x0_16 x0_17z1 x0_18z1 x0_22 x0_23 x0_24 x0_25 x0_26 x0_27 x0_28 x0_29 x0_30 x0_31 x0_32 x0_36 x0_39 x0_40 x0_44 x0_49 x0_51 x0_53 x0_54 x0_55 x0_56 x0_57 x0_58 x0_59 x0_60 x0_61 x0_62 y1 y2 y3 y4 y5 y6 y7 y8 y9 y10 y11 y12 y13 y14 y15 y16 y17 y18 y19 y20 y21 y22 y23 y24 y25) := hD
          exact W.vret hx hb hr (fun t ht hW => ⟨⟨(), rfl, trivial, ⟨(0 : Int32), x0_17z1, x0_18z1, (rgw R49 (by decide) (by decide)), (rgw R52 (by decide) (by decide)), by show va_P D classes _ t.heap; rw [ht]; exact hP, hD⟩⟩, hS.F ht⟩) hS.2.2 d_X_compare_118
        · have gc50 : v47.toInt < x0_18z1.toInt := c_nle c50
          refine lv_iconst (v := (-1)) hx hb d_X_compare_99 (by decide) ?_
          refine lv_goto (tgt := 115) hx hb d_X_compare_100 (by decide) ?_
          refine va_put (D := D) (ci := 7) (v := .int (-1 : Int32)) (ty := .int) (C := "SignMachineModel") (T := F_X) (N := 64) hx hb hk fi_X ft_X ft_X_ok fn_X hown hK.1 hP hD hS 0 rfl rfl 6 (by decide) (hk _ k_1127) (fun _ h9 => h9) rfl (by decide +kernel) rfl rfl (Nat.le_of_ble_eq_true rfl) d_X_compare_115 (fun H locs hP hD hS => ?_)
          have hP : va_P D classes (wS50 cI cJ cZ cB p0 p1 p2 p3 p4 p5 p6 p7 p8 p9 p10 p11 p12 p13 p14 p15 p16 p17 p18 p19 p20 p21 p22 p23 p24 p25 x0_4 x0_5 (-1 : Int32) x0_7 x0_8 x0_12 x0_13 x0_14 x0_15 x0_16 x0_17z1 x0_18z1 x0_22 x0_23 x0_24 x0_25 x0_26 x0_27 x0_28 x0_29 x0_30 x0_31 x0_32 x0_36 x0_39 x0_40 x0_44 x0_49 x0_51 x0_53 x0_54 x0_55 x0_56 x0_57 x0_58 x0_59 x0_60 x0_61 x0_62 y1 y2 y3 y4 y5 y6 y7 y8 y9 y10 y11 y12 y13 y14 y15 y16 y17 y18 y19 y20 y21 y22 y23 y24 y25) H := hP
          have hD : va_D A (wS50 cI cJ cZ cB p0 p1 p2 p3 p4 p5 p6 p7 p8 p9 p10 p11 p12 p13 p14 p15 p16 p17 p18 p19 p20 p21 p22 p23 p24 p25 x0_4 x0_5 (-1 : Int32) x0_7 x0_8 x0_12 x0_13 x0_14 x0_15 x0_16 x0_17z1 x0_18z1 x0_22 x0_23 x0_24 x0_25 x0_26 x0_27 x0_28 x0_29 x0_30 x0_31 x0_32 x0_36 x0_39 x0_40 x0_44 x0_49 x0_51 x0_53 x0_54 x0_55 x0_56 x0_57 x0_58 x0_59 x0_60 x0_61 x0_62 y1 y2 y3 y4 y5 y6 y7 y8 y9 y10 y11 y12 y13 y14 y15 y16 y17 y18 y19 y20 y21 y22 y23 y24 y25) := hD
          exact W.vret hx hb hr (fun t ht hW => ⟨⟨(), rfl, trivial, ⟨(-1 : Int32), x0_17z1, x0_18z1, (rgw R49 (by decide) (by decide)), Rx0_18z1, by show va_P D classes _ t.heap; rw [ht]; exact hP, hD⟩⟩, hS.F ht⟩) hS.2.2 d_X_compare_118
      · have gc48 : x0_17z1.toInt = (1 : Int) := c_eq c48
        have R54 : 1 ≤ x0_17z1.toInt ∧ x0_17z1.toInt ≤ 1 := rf_eqX Rx0_17z1 (show 1 ≤ (1 : Int) ∧ (1 : Int) ≤ 1 from by decide) gc48 (by decide) (by decide)
        refine lv_aload_n hx hb d_X_compare_77 rfl (lv_at hl 4 rfl) ?_
        refine va_get (D := D) (ci := 7) (v := .int x0_18z1) (C := "SignMachineModel") (T := F_X) (N := 64) hx hb hk fi_X hown hK.1 hP 0 rfl rfl 18 (by decide) (hk _ k_1139) (fun _ h9 => h9) rfl d_X_compare_78 ?_
        refine lv_ineg hx hb d_X_compare_81 ?_
        refine lv_topi (fun v55 hv55 => ?_)
        obtain ⟨ev55, Rv55⟩ : v55.toInt = -x0_18z1.toInt ∧ ((-1073741823) ≤ v55.toInt ∧ v55.toInt ≤ 0) := ng3 hv55 Rx0_18z1 (by decide) (by decide) (by decide) (by decide)
        refine lv_goto (tgt := 89) hx hb d_X_compare_82 (by decide) ?_
        refine lv_istore (lv' := [(6, .int v55), (5, .int v47), (4, .int rz29), (3, .int v25), (2, .int v2), (0, .ref p0), (1, .int a1)]) hx hb d_X_compare_89 hl (by decide) rfl (fun ls hl => ?_)
        refine lv_aload_n hx hb d_X_compare_91 rfl (lv_at hl 5 rfl) ?_
        refine lv_iload hx hb d_X_compare_92 (lv_at hl 1 rfl) ?_
        refine lv_iload hx hb d_X_compare_94 (lv_at hl 0 rfl) ?_
        refine lv_icmp_ge (tgt := 103) hx hb d_X_compare_96 (by decide) (fun c56 => ?_) (fun c56 => ?_)
        · have gc56 : v55.toInt ≤ v47.toInt := c_le c56
          refine lv_iload hx hb d_X_compare_103 (lv_at hl 1 rfl) ?_
          refine lv_iload hx hb d_X_compare_105 (lv_at hl 0 rfl) ?_
          refine lv_icmp_le (tgt := 114) hx hb d_X_compare_107 (by decide) (fun c57 => ?_) (fun c57 => ?_)
          · have gc57 : v47.toInt ≤ v55.toInt := c_le c57
            refine lv_iconst (v := 0) hx hb d_X_compare_114 (by decide) ?_
            refine va_put (D := D) (ci := 7) (v := .int (0 : Int32)) (ty := .int) (C := "SignMachineModel") (T := F_X) (N := 64) hx hb hk fi_X ft_X ft_X_ok fn_X hown hK.1 hP hD hS 0 rfl rfl 6 (by decide) (hk _ k_1127) (fun _ h9 => h9) rfl (by decide +kernel) rfl rfl (Nat.le_of_ble_eq_true rfl) d_X_compare_115 (fun H locs hP hD hS => ?_)
            have hP : va_P D classes (wS50 cI cJ cZ cB p0 p1 p2 p3 p4 p5 p6 p7 p8 p9 p10 p11 p12 p13 p14 p15 p16 p17 p18 p19 p20 p21 p22 p23 p24 p25 x0_4 x0_5 (0 : Int32) x0_7 x0_8 x0_12 x0_13 x0_14 x0_15 x0_16 x0_17z1 x0_18z1 x0_22 x0_23 x0_24 x0_25 x0_26 x0_27 x0_28 x0_29 x0_30 x0_31 x0_32 x0_36 x0_39 x0_40 x0_44 x0_49 x0_51 x0_53 x0_54 x0_55 x0_56 x0_57 x0_58 x0_59 x0_60 x0_61 x0_62 y1 y2 y3 y4 y5 y6 y7 y8 y9 y10 y11 y12 y13 y14 y15 y16 y17 y18 y19 y20 y21 y22 y23 y24 y25) H := hP
            have hD : va_D A (wS50 cI cJ cZ cB p0 p1 p2 p3 p4 p5 p6 p7 p8 p9 p10 p11 p12 p13 p14 p15 p16 p17 p18 p19 p20 p21 p22 p23 p24 p25 x0_4 x0_5 (0 : Int32) x0_7 x0_8 x0_12 x0_13 x0_14 x0_15 x0_16 x0_17z1 x0_18z1 x0_22 x0_23 x0_24 x0_25 x0_26 x0_27 x0_28 x0_29 x0_30 x0_31 x0_32 x0_36 x0_39 x0_40 x0_44 x0_49 x0_51 x0_53 x0_54 x0_55 x0_56 x0_57 x0_58 x0_59 x0_60 x0_61 x0_62 y1 y2 y3 y4 y5 y6 y7 y8 y9 y10 y11 y12 y13 y14 y15 y16 y17 y18 y19 y20 y21 y22 y23 y24 y25) := hD
            exact W.vret hx hb hr (fun t ht hW => ⟨⟨(), rfl, trivial, ⟨(0 : Int32), x0_17z1, x0_18z1, (rgw R54 (by decide) (by decide)), Rx0_18z1, by show va_P D classes _ t.heap; rw [ht]; exact hP, hD⟩⟩, hS.F ht⟩) hS.2.2 d_X_compare_118
          · have gc57 : v55.toInt < v47.toInt := c_nle c57
            have R58 : (-1073741822) ≤ v47.toInt ∧ v47.toInt ≤ 0 := rf_gtX Rv47 Rv55 gc57 (by decide) (by decide)
            have R59 : (-1073741823) ≤ v55.toInt ∧ v55.toInt ≤ (-1) := rf_gtY Rv47 Rv55 gc57 (by decide) (by decide)
            refine lv_iconst (v := 1) hx hb d_X_compare_110 (by decide) ?_
            refine lv_goto (tgt := 115) hx hb d_X_compare_111 (by decide) ?_
            refine va_put (D := D) (ci := 7) (v := .int (1 : Int32)) (ty := .int) (C := "SignMachineModel") (T := F_X) (N := 64) hx hb hk fi_X ft_X ft_X_ok fn_X hown hK.1 hP hD hS 0 rfl rfl 6 (by decide) (hk _ k_1127) (fun _ h9 => h9) rfl (by decide +kernel) rfl rfl (Nat.le_of_ble_eq_true rfl) d_X_compare_115 (fun H locs hP hD hS => ?_)
            have hP : va_P D classes (wS50 cI cJ cZ cB p0 p1 p2 p3 p4 p5 p6 p7 p8 p9 p10 p11 p12 p13 p14 p15 p16 p17 p18 p19 p20 p21 p22 p23 p24 p25 x0_4 x0_5 (1 : Int32) x0_7 x0_8 x0_12 x0_13 x0_14 x0_15 x0_16 x0_17z1 x0_18z1 x0_22 x0_23 x0_24 x0_25 x0_26 x0_27 x0_28 x0_29 x0_30 x0_31 x0_32 x0_36 x0_39 x0_40 x0_44 x0_49 x0_51 x0_53 x0_54 x0_55 x0_56 x0_57 x0_58 x0_59 x0_60 x0_61 x0_62 y1 y2 y3 y4 y5 y6 y7 y8 y9 y10 y11 y12 y13 y14 y15 y16 y17 y18 y19 y20 y21 y22 y23 y24 y25) H := hP
            have hD : va_D A (wS50 cI cJ cZ cB p0 p1 p2 p3 p4 p5 p6 p7 p8 p9 p10 p11 p12 p13 p14 p15 p16 p17 p18 p19 p20 p21 p22 p23 p24 p25 x0_4 x0_5 (1 : Int32) x0_7 x0_8 x0_12 x0_13 x0_14 x0_15 x0_16 x0_17z1 x0_18z1 x0_22 x0_23 x0_24 x0_25 x0_26 x0_27 x0_28 x0_29 x0_30 x0_31 x0_32 x0_36 x0_39 x0_40 x0_44 x0_49 x0_51 x0_53 x0_54 x0_55 x0_56 x0_57 x0_58 x0_59 x0_60 x0_61 x0_62 y1 y2 y3 y4 y5 y6 y7 y8 y9 y10 y11 y12 y13 y14 y15 y16 y17 y18 y19 y20 y21 y22 y23 y24 y25) := hD
            exact W.vret hx hb hr (fun t ht hW => ⟨⟨(), rfl, trivial, ⟨(1 : Int32), x0_17z1, x0_18z1, (rgw R54 (by decide) (by decide)), Rx0_18z1, by show va_P D classes _ t.heap; rw [ht]; exact hP, hD⟩⟩, hS.F ht⟩) hS.2.2 d_X_compare_118
        · have gc56 : v47.toInt < v55.toInt := c_nle c56
          have R60 : (-1073741823) ≤ v47.toInt ∧ v47.toInt ≤ (-1) := rf_ltX Rv47 Rv55 gc56 (by decide) (by decide)
          have R61 : (-1073741822) ≤ v55.toInt ∧ v55.toInt ≤ 0 := rf_ltY Rv47 Rv55 gc56 (by decide) (by decide)
          refine lv_iconst (v := (-1)) hx hb d_X_compare_99 (by decide) ?_
          refine lv_goto (tgt := 115) hx hb d_X_compare_100 (by decide) ?_
          refine va_put (D := D) (ci := 7) (v := .int (-1 : Int32)) (ty := .int) (C := "SignMachineModel") (T := F_X) (N := 64) hx hb hk fi_X ft_X ft_X_ok fn_X hown hK.1 hP hD hS 0 rfl rfl 6 (by decide) (hk _ k_1127) (fun _ h9 => h9) rfl (by decide +kernel) rfl rfl (Nat.le_of_ble_eq_true rfl) d_X_compare_115 (fun H locs hP hD hS => ?_)
          have hP : va_P D classes (wS50 cI cJ cZ cB p0 p1 p2 p3 p4 p5 p6 p7 p8 p9 p10 p11 p12 p13 p14 p15 p16 p17 p18 p19 p20 p21 p22 p23 p24 p25 x0_4 x0_5 (-1 : Int32) x0_7 x0_8 x0_12 x0_13 x0_14 x0_15 x0_16 x0_17z1 x0_18z1 x0_22 x0_23 x0_24 x0_25 x0_26 x0_27 x0_28 x0_29 x0_30 x0_31 x0_32 x0_36 x0_39 x0_40 x0_44 x0_49 x0_51 x0_53 x0_54 x0_55 x0_56 x0_57 x0_58 x0_59 x0_60 x0_61 x0_62 y1 y2 y3 y4 y5 y6 y7 y8 y9 y10 y11 y12 y13 y14 y15 y16 y17 y18 y19 y20 y21 y22 y23 y24 y25) H := hP
          have hD : va_D A (wS50 cI cJ cZ cB p0 p1 p2 p3 p4 p5 p6 p7 p8 p9 p10 p11 p12 p13 p14 p15 p16 p17 p18 p19 p20 p21 p22 p23 p24 p25 x0_4 x0_5 (-1 : Int32) x0_7 x0_8 x0_12 x0_13 x0_14 x0_15 x0_16 x0_17z1 x0_18z1 x0_22 x0_23 x0_24 x0_25 x0_26 x0_27 x0_28 x0_29 x0_30 x0_31 x0_32 x0_36 x0_39 x0_40 x0_44 x0_49 x0_51 x0_53 x0_54 x0_55 x0_56 x0_57 x0_58 x0_59 x0_60 x0_61 x0_62 y1 y2 y3 y4 y5 y6 y7 y8 y9 y10 y11 y12 y13 y14 y15 y16 y17 y18 y19 y20 y21 y22 y23 y24 y25) := hD
          exact W.vret hx hb hr (fun t ht hW => ⟨⟨(), rfl, trivial, ⟨(-1 : Int32), x0_17z1, x0_18z1, (rgw R54 (by decide) (by decide)), Rx0_18z1, by show va_P D classes _ t.heap; rw [ht]; exact hP, hD⟩⟩, hS.F ht⟩) hS.2.2 d_X_compare_118
theorem v_X_compare {R : Room} {s : State} {args : Array Value} {own : String} {index : Nat} (hk : ∀ w ∈ tb, w.before args s = true) (hl : Cond.methodLink own index y_X_compare ∈ tb) (hR : 3 + 1 ≤ R.frames ∧ 8 + (7 + 11) + 67 ≤ R.locals) : CallW R s args own "SignMachineModel" index y_X_compare b_X_compare 7 none (.code y_X_compare b_X_compare 7 none :: tb) ({ frames := 3, cells := 0, slots := 0, locals := 67 }) 0 0 1 := mk_v 1 hk k_1452 hl k_1451 k_75 k_119 rfl rfl h_X_compare hR
set_option maxHeartbeats 8000000 in
set_option maxRecDepth 100000 in
theorem c_X_doTape (l : Launch) (D : va_G) (cI cJ cZ cB : ClassId) (p0 p1 p2 p3 p4 p5 p6 p7 p8 p9 p10 p11 p12 p13 p14 p15 p16 p17 p18 p19 p20 p21 p22 p23 p24 p25 : Nat) (sz : Nat) (x0_4 : Int32) (x0_5 : Int32) (x0_6 : Int32) (x0_7 : Int32) (x0_8 : Int32) (x0_12 : Int32) (x0_13 : Int32) (x0_14 : Int32) (x0_15 : Int32) (x0_16 : Int32) (x0_17 : Int32) (x0_18 : Int32) (x0_22 : Int32) (x0_23 : Int32) (x0_24 : Int32) (x0_25 : Int32) (x0_26 : Int32) (x0_27 : Int32) (x0_28 : Int32) (x0_29 : Int32) (x0_30 : Int32) (x0_31 : Int32) (x0_32 : Int32) (x0_36 : Int32) (x0_39 : Int32) (x0_40 : Int64) (x0_44 : Int32) (x0_49 : Int32) (x0_51 : Int32) (x0_53 : Int32) (x0_54 : Int32) (x0_55 : Int64) (x0_56 : Int32) (x0_57 : Int32) (x0_58 : Int32) (x0_59 : Int32) (x0_60 : Int32) (x0_61 : Int32) (x0_62 : Int64) (y1 : Nat → Int32) (y2 : Nat → Int32) (y3 : Nat → Int32) (y4 : Nat → Int32) (y5 : Nat → Int32) (y6 : Nat → Int32) (y7 : Nat → Int32) (y8 : Nat → Int32) (y9 : Nat → Int32) (y10 : Nat → Int32) (y11 : Nat → Int64) (y12 : Nat → Int32) (y13 : Nat → Int64) (y14 : Nat → Int32) (y15 : Nat → Int64) (y16 : Nat → Int32) (y17 : Nat → Int32) (y18 : Nat → Int32) (y19 : Nat → Int32) (y20 : Nat → Int32) (y21 : Nat → Int32) (y22 : Nat → Int32) (y23 : Nat → Int32) (y24 : Nat → Int64) (y25 : Nat → Int64)  (Rx0_12 : 0 ≤ x0_12.toInt ∧ x0_12.toInt ≤ 63) (Rx0_13 : 0 ≤ x0_13.toInt ∧ x0_13.toInt ≤ 63) (Rx0_15 : (-8190) ≤ x0_15.toInt ∧ x0_15.toInt ≤ 8190) (Ay1 : ∀ i : Nat, (0 ≤ (y1 i).toInt ∧ (y1 i).toInt ≤ 1)) (Ay2 : ∀ i : Nat, (0 ≤ (y2 i).toInt ∧ (y2 i).toInt ≤ 1073741823)) (Ay5 : ∀ i : Nat, (0 ≤ (y5 i).toInt ∧ (y5 i).toInt ≤ 1)) (Ay6 : ∀ i : Nat, (0 ≤ (y6 i).toInt ∧ (y6 i).toInt ≤ 1073741823)) (Ay7 : ∀ i : Nat, (0 ≤ (y7 i).toInt ∧ (y7 i).toInt ≤ 40)) (Q0 : 35 ≤ x0_12.toInt ∧ x0_12.toInt ≤ 37) (Q1 : x0_13.toInt ≤ 1) (Q2 : (x0_12.toInt = 36 ∨ x0_12.toInt = 37) → (0 ≤ x0_15.toInt ∧ x0_15.toInt ≤ 3900)) (Q3 : x0_12.toInt = 35 → (x0_15.toInt = 0 ∨ (0 ≤ (y7 (x0_13).toNatClampNeg).toInt + x0_15.toInt ∧ (y7 (x0_13).toNatClampNeg).toInt + x0_15.toInt ≤ 40))) (Q4 : (x0_12.toInt = 36 ∨ x0_12.toInt = 37) → (y7 (x0_13).toNatClampNeg).toInt ≤ 39) : Met l y_X_doTape (.code y_X_doTape b_X_doTape 3 none :: tb) ({ frames := 0, cells := 0, slots := 0, locals := 0 }) (pM D cI cJ cZ cB (wS50 cI cJ cZ cB p0 p1 p2 p3 p4 p5 p6 p7 p8 p9 p10 p11 p12 p13 p14 p15 p16 p17 p18 p19 p20 p21 p22 p23 p24 p25 x0_4 x0_5 x0_6 x0_7 x0_8 x0_12 x0_13 x0_14 x0_15 x0_16 x0_17 x0_18 x0_22 x0_23 x0_24 x0_25 x0_26 x0_27 x0_28 x0_29 x0_30 x0_31 x0_32 x0_36 x0_39 x0_40 x0_44 x0_49 x0_51 x0_53 x0_54 x0_55 x0_56 x0_57 x0_58 x0_59 x0_60 x0_61 x0_62 y1 y2 y3 y4 y5 y6 y7 y8 y9 y10 y11 y12 y13 y14 y15 y16 y17 y18 y19 y20 y21 y22 y23 y24 y25) sz [.ref p0]) (va_Qv (fun (_ : Unit) => True) (fun _ t => ∃ u_y1 : Nat → Int32, ∃ u_y2 : Nat → Int32, ∃ u_y5 : Nat → Int32, ∃ u_y6 : Nat → Int32, ∃ u_y7 : Nat → Int32, (∀ i : Nat, (0 ≤ (u_y1 i).toInt ∧ (u_y1 i).toInt ≤ 1)) ∧ (∀ i : Nat, (0 ≤ (u_y2 i).toInt ∧ (u_y2 i).toInt ≤ 1073741823)) ∧ (∀ i : Nat, (0 ≤ (u_y5 i).toInt ∧ (u_y5 i).toInt ≤ 1)) ∧ (∀ i : Nat, (0 ≤ (u_y6 i).toInt ∧ (u_y6 i).toInt ≤ 1073741823)) ∧ (∀ i : Nat, (0 ≤ (u_y7 i).toInt ∧ (u_y7 i).toInt ≤ 40)) ∧ va_P D classes (wS50 cI cJ cZ cB p0 p1 p2 p3 p4 p5 p6 p7 p8 p9 p10 p11 p12 p13 p14 p15 p16 p17 p18 p19 p20 p21 p22 p23 p24 p25 x0_4 x0_5 x0_6 x0_7 x0_8 x0_12 x0_13 x0_14 x0_15 x0_16 x0_17 x0_18 x0_22 x0_23 x0_24 x0_25 x0_26 x0_27 x0_28 x0_29 x0_30 x0_31 x0_32 x0_36 x0_39 x0_40 x0_44 x0_49 x0_51 x0_53 x0_54 x0_55 x0_56 x0_57 x0_58 x0_59 x0_60 x0_61 x0_62 u_y1 u_y2 y3 y4 u_y5 u_y6 u_y7 y8 y9 y10 y11 y12 y13 y14 y15 y16 y17 y18 y19 y20 y21 y22 y23 y24 y25) t.heap ∧ va_D (va_A (wS50 cI cJ cZ cB p0 p1 p2 p3 p4 p5 p6 p7 p8 p9 p10 p11 p12 p13 p14 p15 p16 p17 p18 p19 p20 p21 p22 p23 p24 p25 x0_4 x0_5 x0_6 x0_7 x0_8 x0_12 x0_13 x0_14 x0_15 x0_16 x0_17 x0_18 x0_22 x0_23 x0_24 x0_25 x0_26 x0_27 x0_28 x0_29 x0_30 x0_31 x0_32 x0_36 x0_39 x0_40 x0_44 x0_49 x0_51 x0_53 x0_54 x0_55 x0_56 x0_57 x0_58 x0_59 x0_60 x0_61 x0_62 y1 y2 y3 y4 y5 y6 y7 y8 y9 y10 y11 y12 y13 y14 y15 y16 y17 y18 y19 y20 y21 y22 y23 y24 y25) sz) (wS50 cI cJ cZ cB p0 p1 p2 p3 p4 p5 p6 p7 p8 p9 p10 p11 p12 p13 p14 p15 p16 p17 p18 p19 p20 p21 p22 p23 p24 p25 x0_4 x0_5 x0_6 x0_7 x0_8 x0_12 x0_13 x0_14 x0_15 x0_16 x0_17 x0_18 x0_22 x0_23 x0_24 x0_25 x0_26 x0_27 x0_28 x0_29 x0_30 x0_31 x0_32 x0_36 x0_39 x0_40 x0_44 x0_49 x0_51 x0_53 x0_54 x0_55 x0_56 x0_57 x0_58 x0_59 x0_60 x0_61 x0_62 u_y1 u_y2 y3 y4 u_y5 u_y6 u_y7 y8 y9 y10 y11 y12 y13 y14 y15 y16 y17 y18 y19 y20 y21 y22 y23 y24 y25)) (va_A (wS50 cI cJ cZ cB p0 p1 p2 p3 p4 p5 p6 p7 p8 p9 p10 p11 p12 p13 p14 p15 p16 p17 p18 p19 p20 p21 p22 p23 p24 p25 x0_4 x0_5 x0_6 x0_7 x0_8 x0_12 x0_13 x0_14 x0_15 x0_16 x0_17 x0_18 x0_22 x0_23 x0_24 x0_25 x0_26 x0_27 x0_28 x0_29 x0_30 x0_31 x0_32 x0_36 x0_39 x0_40 x0_44 x0_49 x0_51 x0_53 x0_54 x0_55 x0_56 x0_57 x0_58 x0_59 x0_60 x0_61 x0_62 y1 y2 y3 y4 y5 y6 y7 y8 y9 y10 y11 y12 y13 y14 y15 y16 y17 y18 y19 y20 y21 y22 y23 y24 y25) sz)) 0 0 (va_A (wS50 cI cJ cZ cB p0 p1 p2 p3 p4 p5 p6 p7 p8 p9 p10 p11 p12 p13 p14 p15 p16 p17 p18 p19 p20 p21 p22 p23 p24 p25 x0_4 x0_5 x0_6 x0_7 x0_8 x0_12 x0_13 x0_14 x0_15 x0_16 x0_17 x0_18 x0_22 x0_23 x0_24 x0_25 x0_26 x0_27 x0_28 x0_29 x0_30 x0_31 x0_32 x0_36 x0_39 x0_40 x0_44 x0_49 x0_51 x0_53 x0_54 x0_55 x0_56 x0_57 x0_58 x0_59 x0_60 x0_61 x0_62 y1 y2 y3 y4 y5 y6 y7 y8 y9 y10 y11 y12 y13 y14 y15 y16 y17 y18 y19 y20 y21 y22 y23 y24 y25) sz) := by
  refine Met.ofW (cc := b_X_doTape) (maxL := 3) (ret := none) (by decide) rfl ?_
  intro p e s m args below meth c s₁ B hml hv
  obtain ⟨rfl, hsz, hK, hP, hD0⟩ := hv
  subst hsz
  have hD := hD0.self (sz := s.heap.size)
  generalize hAe : va_A (wS50 cI cJ cZ cB p0 p1 p2 p3 p4 p5 p6 p7 p8 p9 p10 p11 p12 p13 p14 p15 p16 p17 p18 p19 p20 p21 p22 p23 p24 p25 x0_4 x0_5 x0_6 x0_7 x0_8 x0_12 x0_13 x0_14 x0_15 x0_16 x0_17 x0_18 x0_22 x0_23 x0_24 x0_25 x0_26 x0_27 x0_28 x0_29 x0_30 x0_31 x0_32 x0_36 x0_39 x0_40 x0_44 x0_49 x0_51 x0_53 x0_54 x0_55 x0_56 x0_57 x0_58 x0_59 x0_60 x0_61 x0_62 y1 y2 y3 y4 y5 y6 y7 y8 y9 y10 y11 y12 y13 y14 y15 y16 y17 y18 y19 y20 y21 y22 y23 y24 y25) s.heap.size = A at hD ⊢
  have hA : ∀ q : Nat, s.heap.size ≤ q → A q := fun q h => by rw [← hAe]; exact Or.inr h
  clear hAe hD0
  have hS : va_S A s.heap s.heap [] := va_S.rf
  have hx := B.exec
  have hb := B.bytes
  have hr := B.returns
  have hts := atoms_spec (ws := .code y_X_doTape b_X_doTape 3 none :: tb) B.pre
  have hk : ∀ w ∈ tb, w.before [.ref p0].toArray s = true := fun w h => hts w (List.mem_cons_of_mem _ h)
  have hown : s.vm.findClass "SignMachineModel" = some m.cls := findClass_of_methodNamed B.named
  have hlocks := B.notSynchronized
  have hl := lv_entry ([.ref p0]) (n := 3) (Nat.le_of_ble_eq_true rfl)
  rw [lg_entry_eq]
  generalize (lg_sl ([.ref p0]) ++ List.replicate (3 - (lg_sl ([.ref p0])).length) Slot.unset).toArray = ls at hl ⊢
  have hl : lv_has ls 3 [(0, .ref p0)] := hl
  clear hts B
  refine lv_aload_n hx hb d_X_doTape_0 rfl (lv_at hl 0 rfl) ?_
  refine va_get (D := D) (ci := 7) (v := .int x0_12) (C := "SignMachineModel") (T := F_X) (N := 64) hx hb hk fi_X hown hK.1 hP 0 rfl rfl 12 (by decide) (hk _ k_1133) (fun _ h9 => h9) rfl d_X_doTape_1 ?_
  refine lv_bipush (v := 35) hx hb d_X_doTape_4 (by decide) ?_
  refine lv_icmp_ne (tgt := 44) hx hb d_X_doTape_6 (by decide) (fun c1 => ?_) (fun c1 => ?_)
  · have gc1 : x0_12.toInt ≠ (35 : Int) := c_ne c1
    refine lv_sipush (v := 4000) hx hb d_X_doTape_44 (by decide) ?_
    refine lv_aload_n hx hb d_X_doTape_47 rfl (lv_at hl 0 rfl) ?_
    refine va_get (D := D) (ci := 7) (v := .int x0_13) (C := "SignMachineModel") (T := F_X) (N := 64) hx hb hk fi_X hown hK.1 hP 0 rfl rfl 13 (by decide) (hk _ k_1134) (fun _ h9 => h9) rfl d_X_doTape_48 ?_
    refine lv_imul hx hb d_X_doTape_51 ?_
    refine lv_topi (fun v2 hv2 => ?_)
    obtain ⟨ev2, Rv2⟩ : v2.toInt = (4000 : Int) * x0_13.toInt ∧ (0 ≤ v2.toInt ∧ v2.toInt ≤ 252000) := ml3 hv2 (show 4000 ≤ (4000 : Int32).toInt ∧ (4000 : Int32).toInt ≤ 4000 from by decide) Rx0_13 (by decide) (by decide) (by decide) (by decide) (by decide) (by decide)
    refine lv_bipush (v := 100) hx hb d_X_doTape_52 (by decide) ?_
    refine lv_aload_n hx hb d_X_doTape_54 rfl (lv_at hl 0 rfl) ?_
    refine va_get (D := D) (ci := 7) (v := .ref p7) (C := "SignMachineModel") (T := F_X) (N := 64) hx hb hk fi_X hown hK.1 hP 0 rfl rfl 11 (by decide) (hk _ k_1132) (fun _ h9 => h9) rfl d_X_doTape_55 ?_
    refine lv_aload_n hx hb d_X_doTape_58 rfl (lv_at hl 0 rfl) ?_
    refine va_get (D := D) (ci := 7) (v := .int x0_13) (C := "SignMachineModel") (T := F_X) (N := 64) hx hb hk fi_X hown hK.1 hP 0 rfl rfl 13 (by decide) (hk _ k_1134) (fun _ h9 => h9) rfl d_X_doTape_59 ?_
    refine va_iald hx hb hK.1 hP 7 0 rfl rfl (by rw [vp_in_iff]; omega) d_X_doTape_62 ?_
    refine lv_topi (fun v3 hv3 => ?_)
    have Tv3 : v3.toInt = (y7 (x0_13).toNatClampNeg).toInt := congrArg _ hv3
    have Rv3 := Ay7 (x0_13).toNatClampNeg
    rw [← hv3] at Rv3
    refine lv_imul hx hb d_X_doTape_63 ?_
    refine lv_topi (fun v4 hv4 => ?_)
    obtain ⟨ev4, Rv4⟩ : v4.toInt = (100 : Int) * v3.toInt ∧ (0 ≤ v4.toInt ∧ v4.toInt ≤ 4000) := ml3 hv4 (show 100 ≤ (100 : Int32).toInt ∧ (100 : Int32).toInt ≤ 100 from by decide) Rv3 (by decide) (by decide) (by decide) (by decide) (by decide) (by decide)
    refine lv_iadd hx hb d_X_doTape_64 ?_
    refine lv_topi (fun v5 hv5 => ?_)
    obtain ⟨ev5, Rv5⟩ : v5.toInt = v2.toInt + v4.toInt ∧ (0 ≤ v5.toInt ∧ v5.toInt ≤ 256000) := ad3 hv5 Rv2 Rv4 (by decide) (by decide) (by decide) (by decide)
    refine lv_istore_n (lv' := [(1, .int v5), (0, .ref p0)]) hx hb d_X_doTape_65 rfl hl (by decide) rfl (fun ls hl => ?_)
    refine lv_iconst (v := 0) hx hb d_X_doTape_66 (by decide) ?_
    refine lv_istore_n (lv' := [(2, .int (0 : Int32)), (1, .int v5), (0, .ref p0)]) hx hb d_X_doTape_67 rfl hl (by decide) rfl (fun ls hl => ?_)
    have CUT68 : ∀ (n : Nat) (g68l2 : Int32) (g68y1 : Nat → Int32) (g68y2 : Nat → Int32) (g68y5 : Nat → Int32) (g68y6 : Nat → Int32) (H : Heap) (locs : List Loc) (ls : Array Slot), (100 - g68l2.toInt) < (n : Int) → (0 ≤ g68l2.toInt ∧ g68l2.toInt ≤ 100) → (∀ i : Nat, (0 ≤ (g68y1 i).toInt ∧ (g68y1 i).toInt ≤ 1)) → (∀ i : Nat, (0 ≤ (g68y2 i).toInt ∧ (g68y2 i).toInt ≤ 1073741823)) → (∀ i : Nat, (0 ≤ (g68y5 i).toInt ∧ (g68y5 i).toInt ≤ 1)) → (∀ i : Nat, (0 ≤ (g68y6 i).toInt ∧ (g68y6 i).toInt ≤ 1073741823)) → va_P D classes (wS50 cI cJ cZ cB p0 p1 p2 p3 p4 p5 p6 p7 p8 p9 p10 p11 p12 p13 p14 p15 p16 p17 p18 p19 p20 p21 p22 p23 p24 p25 x0_4 x0_5 x0_6 x0_7 x0_8 x0_12 x0_13 x0_14 x0_15 x0_16 x0_17 x0_18 x0_22 x0_23 x0_24 x0_25 x0_26 x0_27 x0_28 x0_29 x0_30 x0_31 x0_32 x0_36 x0_39 x0_40 x0_44 x0_49 x0_51 x0_53 x0_54 x0_55 x0_56 x0_57 x0_58 x0_59 x0_60 x0_61 x0_62 g68y1 g68y2 y3 y4 g68y5 g68y6 y7 y8 y9 y10 y11 y12 y13 y14 y15 y16 y17 y18 y19 y20 y21 y22 y23 y24 y25) H → va_D A (wS50 cI cJ cZ cB p0 p1 p2 p3 p4 p5 p6 p7 p8 p9 p10 p11 p12 p13 p14 p15 p16 p17 p18 p19 p20 p21 p22 p23 p24 p25 x0_4 x0_5 x0_6 x0_7 x0_8 x0_12 x0_13 x0_14 x0_15 x0_16 x0_17 x0_18 x0_22 x0_23 x0_24 x0_25 x0_26 x0_27 x0_28 x0_29 x0_30 x0_31 x0_32 x0_36 x0_39 x0_40 x0_44 x0_49 x0_51 x0_53 x0_54 x0_55 x0_56 x0_57 x0_58 x0_59 x0_60 x0_61 x0_62 g68y1 g68y2 y3 y4 g68y5 g68y6 y7 y8 y9 y10 y11 y12 y13 y14 y15 y16 y17 y18 y19 y20 y21 y22 y23 y24 y25) → va_S A s.heap H locs → lv_has ls 3 [(2, .int g68l2), (1, .int v5), (0, .ref p0)] → W p l e ({ frames := 0, cells := 0, slots := 0, locals := 0 }) s m [.ref p0].toArray below meth c H locs 0 0 (MQ below (va_Qv (fun (_ : Unit) => True) (fun _ t => ∃ u_y1 : Nat → Int32, ∃ u_y2 : Nat → Int32, ∃ u_y5 : Nat → Int32, ∃ u_y6 : Nat → Int32, ∃ u_y7 : Nat → Int32, (∀ i : Nat, (0 ≤ (u_y1 i).toInt ∧ (u_y1 i).toInt ≤ 1)) ∧ (∀ i : Nat, (0 ≤ (u_y2 i).toInt ∧ (u_y2 i).toInt ≤ 1073741823)) ∧ (∀ i : Nat, (0 ≤ (u_y5 i).toInt ∧ (u_y5 i).toInt ≤ 1)) ∧ (∀ i : Nat, (0 ≤ (u_y6 i).toInt ∧ (u_y6 i).toInt ≤ 1073741823)) ∧ (∀ i : Nat, (0 ≤ (u_y7 i).toInt ∧ (u_y7 i).toInt ≤ 40)) ∧ va_P D classes (wS50 cI cJ cZ cB p0 p1 p2 p3 p4 p5 p6 p7 p8 p9 p10 p11 p12 p13 p14 p15 p16 p17 p18 p19 p20 p21 p22 p23 p24 p25 x0_4 x0_5 x0_6 x0_7 x0_8 x0_12 x0_13 x0_14 x0_15 x0_16 x0_17 x0_18 x0_22 x0_23 x0_24 x0_25 x0_26 x0_27 x0_28 x0_29 x0_30 x0_31 x0_32 x0_36 x0_39 x0_40 x0_44 x0_49 x0_51 x0_53 x0_54 x0_55 x0_56 x0_57 x0_58 x0_59 x0_60 x0_61 x0_62 u_y1 u_y2 y3 y4 u_y5 u_y6 u_y7 y8 y9 y10 y11 y12 y13 y14 y15 y16 y17 y18 y19 y20 y21 y22 y23 y24 y25) t.heap ∧ va_D A (wS50 cI cJ cZ cB p0 p1 p2 p3 p4 p5 p6 p7 p8 p9 p10 p11 p12 p13 p14 p15 p16 p17 p18 p19 p20 p21 p22 p23 p24 p25 x0_4 x0_5 x0_6 x0_7 x0_8 x0_12 x0_13 x0_14 x0_15 x0_16 x0_17 x0_18 x0_22 x0_23 x0_24 x0_25 x0_26 x0_27 x0_28 x0_29 x0_30 x0_31 x0_32 x0_36 x0_39 x0_40 x0_44 x0_49 x0_51 x0_53 x0_54 x0_55 x0_56 x0_57 x0_58 x0_59 x0_60 x0_61 x0_62 u_y1 u_y2 y3 y4 u_y5 u_y6 u_y7 y8 y9 y10 y11 y12 y13 y14 y15 y16 y17 y18 y19 y20 y21 y22 y23 y24 y25)) A) [.ref p0].toArray s 0 0 A) (F0 m 68 ls []) := by
      intro n
      induction n with
      | zero => intro g68l2 g68y1 g68y2 g68y5 g68y6 H locs ls hn68 Rg68l2 Ag68y1 Ag68y2 Ag68y5 Ag68y6 hP hD hS hl; exfalso; omega
      | succ n ih68 =>
        intro g68l2 g68y1 g68y2 g68y5 g68y6 H locs ls hn68 Rg68l2 Ag68y1 Ag68y2 Ag68y5 Ag68y6 hP hD hS hl
        refine lv_iload_n hx hb d_X_doTape_68 rfl (lv_at hl 0 rfl) ?_
        refine lv_bipush (v := 100) hx hb d_X_doTape_69 (by decide) ?_
        refine lv_icmp_ge (tgt := 168) hx hb d_X_doTape_71 (by decide) (fun c6 => ?_) (fun c6 => ?_)
        · have gc6 : (100 : Int) ≤ g68l2.toInt := c_le c6
          have R7 : 100 ≤ g68l2.toInt ∧ g68l2.toInt ≤ 100 := rf_geX Rg68l2 (show 100 ≤ (100 : Int) ∧ (100 : Int) ≤ 100 from by decide) gc6 (by decide) (by decide)
          refine lv_aload_n hx hb d_X_doTape_168 rfl (lv_at hl 2 rfl) ?_
          refine va_get (D := D) (ci := 7) (v := .ref p7) (C := "SignMachineModel") (T := F_X) (N := 64) hx hb hk fi_X hown hK.1 hP 0 rfl rfl 11 (by decide) (hk _ k_1132) (fun _ h9 => h9) rfl d_X_doTape_169 ?_
          refine lv_aload_n hx hb d_X_doTape_172 rfl (lv_at hl 2 rfl) ?_
          refine va_get (D := D) (ci := 7) (v := .int x0_13) (C := "SignMachineModel") (T := F_X) (N := 64) hx hb hk fi_X hown hK.1 hP 0 rfl rfl 13 (by decide) (hk _ k_1134) (fun _ h9 => h9) rfl d_X_doTape_173 ?_
          refine lv_dup2_11 hx hb d_X_doTape_176 rfl rfl ?_
          refine va_iald hx hb hK.1 hP 7 0 rfl rfl (by rw [vp_in_iff]; omega) d_X_doTape_177 ?_
          refine lv_topi (fun v8 hv8 => ?_)
          have Tv8 : v8.toInt = (y7 (x0_13).toNatClampNeg).toInt := congrArg _ hv8
          have Rv8 := Ay7 (x0_13).toNatClampNeg
          rw [← hv8] at Rv8
          refine lv_iconst (v := 1) hx hb d_X_doTape_178 (by decide) ?_
          refine lv_iadd hx hb d_X_doTape_179 ?_
          refine lv_topi (fun v9 hv9 => ?_)
          obtain ⟨ev9, Rv9⟩ : v9.toInt = v8.toInt + (1 : Int) ∧ (1 ≤ v9.toInt ∧ v9.toInt ≤ 41) := ad3 hv9 Rv8 (show 1 ≤ (1 : Int32).toInt ∧ (1 : Int32).toInt ≤ 1 from by decide) (by decide) (by decide) (by decide) (by decide)
          refine va_iast hx hb hK.1 hP hD hS 7 0 rfl rfl (by rw [vp_in_iff]; omega) d_X_doTape_180 (fun H locs hP hD hS => ?_)
          have hP : va_P D classes (wS50 cI cJ cZ cB p0 p1 p2 p3 p4 p5 p6 p7 p8 p9 p10 p11 p12 p13 p14 p15 p16 p17 p18 p19 p20 p21 p22 p23 p24 p25 x0_4 x0_5 x0_6 x0_7 x0_8 x0_12 x0_13 x0_14 x0_15 x0_16 x0_17 x0_18 x0_22 x0_23 x0_24 x0_25 x0_26 x0_27 x0_28 x0_29 x0_30 x0_31 x0_32 x0_36 x0_39 x0_40 x0_44 x0_49 x0_51 x0_53 x0_54 x0_55 x0_56 x0_57 x0_58 x0_59 x0_60 x0_61 x0_62 g68y1 g68y2 y3 y4 g68y5 g68y6 (upd y7 (x0_13).toNatClampNeg v9) y8 y9 y10 y11 y12 y13 y14 y15 y16 y17 y18 y19 y20 y21 y22 y23 y24 y25) H := hP
          have hD : va_D A (wS50 cI cJ cZ cB p0 p1 p2 p3 p4 p5 p6 p7 p8 p9 p10 p11 p12 p13 p14 p15 p16 p17 p18 p19 p20 p21 p22 p23 p24 p25 x0_4 x0_5 x0_6 x0_7 x0_8 x0_12 x0_13 x0_14 x0_15 x0_16 x0_17 x0_18 x0_22 x0_23 x0_24 x0_25 x0_26 x0_27 x0_28 x0_29 x0_30 x0_31 x0_32 x0_36 x0_39 x0_40 x0_44 x0_49 x0_51 x0_53 x0_54 x0_55 x0_56 x0_57 x0_58 x0_59 x0_60 x0_61 x0_62 g68y1 g68y2 y3 y4 g68y5 g68y6 (upd y7 (x0_13).toNatClampNeg v9) y8 y9 y10 y11 y12 y13 y14 y15 y16 y17 y18 y19 y20 y21 y22 y23 y24 y25) := hD
          obtain ⟨v10, hv10⟩ : ∃ y : Nat → Int32, y = (upd y7 (x0_13).toNatClampNeg v9) := ⟨_, rfl⟩
          rw [← hv10] at hP hD
          have Gv10 : (0 ≤ (v9).toInt ∧ (v9).toInt ≤ 40) := (by omega)
          have Av10 : ∀ i : Nat, (0 ≤ (v10 i).toInt ∧ (v10 i).toInt ≤ 40) := by rw [hv10]; exact upd_all (P := fun i x => (0 ≤ (x).toInt ∧ (x).toInt ≤ 40)) Ay7 Gv10
          clear hv10
          exact W.vret hx hb hr (fun t ht hW => ⟨⟨(), rfl, trivial, ⟨g68y1, g68y2, g68y5, g68y6, v10, Ag68y1, Ag68y2, Ag68y5, Ag68y6, Av10, by show va_P D classes _ t.heap; rw [ht]; exact hP, hD⟩⟩, hS.F ht⟩) hS.2.2 d_X_doTape_181
        · have gc6 : g68l2.toInt < (100 : Int) := c_nle c6
          have R11 : 0 ≤ g68l2.toInt ∧ g68l2.toInt ≤ 99 := rf_ltX Rg68l2 (show 100 ≤ (100 : Int) ∧ (100 : Int) ≤ 100 from by decide) gc6 (by decide) (by decide)
          refine lv_aload_n hx hb d_X_doTape_74 rfl (lv_at hl 2 rfl) ?_
          refine va_get (D := D) (ci := 7) (v := .int x0_12) (C := "SignMachineModel") (T := F_X) (N := 64) hx hb hk fi_X hown hK.1 hP 0 rfl rfl 12 (by decide) (hk _ k_1133) (fun _ h9 => h9) rfl d_X_doTape_75 ?_
          refine lv_bipush (v := 36) hx hb d_X_doTape_78 (by decide) ?_
          refine lv_icmp_ne (tgt := 124) hx hb d_X_doTape_80 (by decide) (fun c12 => ?_) (fun c12 => ?_)
          · have gc12 : x0_12.toInt ≠ (36 : Int) := c_ne c12
            refine lv_aload_n hx hb d_X_doTape_124 rfl (lv_at hl 2 rfl) ?_
            refine va_get (D := D) (ci := 7) (v := .ref p5) (C := "SignMachineModel") (T := F_X) (N := 64) hx hb hk fi_X hown hK.1 hP 0 rfl rfl 9 (by decide) (hk _ k_1130) (fun _ h9 => h9) rfl d_X_doTape_125 ?_
            refine lv_iload_n hx hb d_X_doTape_128 rfl (lv_at hl 1 rfl) ?_
            refine lv_iload_n hx hb d_X_doTape_129 rfl (lv_at hl 0 rfl) ?_
            refine lv_iadd hx hb d_X_doTape_130 ?_
            refine lv_topi (fun v13 hv13 => ?_)
            obtain ⟨ev13, Rv13⟩ : v13.toInt = v5.toInt + g68l2.toInt ∧ (0 ≤ v13.toInt ∧ v13.toInt ≤ 256099) := ad3 hv13 Rv5 R11 (by decide) (by decide) (by decide) (by decide)
            refine lv_aload_n hx hb d_X_doTape_131 rfl (lv_at hl 2 rfl) ?_
            refine va_get (D := D) (ci := 7) (v := .ref p1) (C := "SignMachineModel") (T := F_X) (N := 64) hx hb hk fi_X hown hK.1 hP 0 rfl rfl 0 (by decide) (hk _ k_1121) (fun _ h9 => h9) rfl d_X_doTape_132 ?_
            refine lv_aload_n hx hb d_X_doTape_135 rfl (lv_at hl 2 rfl) ?_
            refine va_get (D := D) (ci := 7) (v := .int x0_15) (C := "SignMachineModel") (T := F_X) (N := 64) hx hb hk fi_X hown hK.1 hP 0 rfl rfl 15 (by decide) (hk _ k_1136) (fun _ h9 => h9) rfl d_X_doTape_136 ?_
            refine lv_iload_n hx hb d_X_doTape_139 rfl (lv_at hl 0 rfl) ?_
            refine lv_iadd hx hb d_X_doTape_140 ?_
            refine lv_topi (fun v14 hv14 => ?_)
            obtain ⟨ev14, Rv14⟩ : v14.toInt = x0_15.toInt + g68l2.toInt ∧ ((-8190) ≤ v14.toInt ∧ v14.toInt ≤ 8289) := ad3 hv14 Rx0_15 R11 (by decide) (by decide) (by decide) (by decide)
            refine va_iald hx hb hK.1 hP 1 0 rfl rfl (by rw [vp_in_iff]; omega) d_X_doTape_141 ?_
            refine lv_topi (fun v15 hv15 => ?_)
            have Rv15 := Ag68y1 (v14).toNatClampNeg
            rw [← hv15] at Rv15
            refine va_iast hx hb hK.1 hP hD hS 5 0 rfl rfl (by rw [vp_in_iff]; omega) d_X_doTape_142 (fun H locs hP hD hS => ?_)
            have hP : va_P D classes (wS50 cI cJ cZ cB p0 p1 p2 p3 p4 p5 p6 p7 p8 p9 p10 p11 p12 p13 p14 p15 p16 p17 p18 p19 p20 p21 p22 p23 p24 p25 x0_4 x0_5 x0_6 x0_7 x0_8 x0_12 x0_13 x0_14 x0_15 x0_16 x0_17 x0_18 x0_22 x0_23 x0_24 x0_25 x0_26 x0_27 x0_28 x0_29 x0_30 x0_31 x0_32 x0_36 x0_39 x0_40 x0_44 x0_49 x0_51 x0_53 x0_54 x0_55 x0_56 x0_57 x0_58 x0_59 x0_60 x0_61 x0_62 g68y1 g68y2 y3 y4 (upd g68y5 (v13).toNatClampNeg v15) g68y6 y7 y8 y9 y10 y11 y12 y13 y14 y15 y16 y17 y18 y19 y20 y21 y22 y23 y24 y25) H := hP
            have hD : va_D A (wS50 cI cJ cZ cB p0 p1 p2 p3 p4 p5 p6 p7 p8 p9 p10 p11 p12 p13 p14 p15 p16 p17 p18 p19 p20 p21 p22 p23 p24 p25 x0_4 x0_5 x0_6 x0_7 x0_8 x0_12 x0_13 x0_14 x0_15 x0_16 x0_17 x0_18 x0_22 x0_23 x0_24 x0_25 x0_26 x0_27 x0_28 x0_29 x0_30 x0_31 x0_32 x0_36 x0_39 x0_40 x0_44 x0_49 x0_51 x0_53 x0_54 x0_55 x0_56 x0_57 x0_58 x0_59 x0_60 x0_61 x0_62 g68y1 g68y2 y3 y4 (upd g68y5 (v13).toNatClampNeg v15) g68y6 y7 y8 y9 y10 y11 y12 y13 y14 y15 y16 y17 y18 y19 y20 y21 y22 y23 y24 y25) := hD
            obtain ⟨v16, hv16⟩ : ∃ y : Nat → Int32, y = (upd g68y5 (v13).toNatClampNeg v15) := ⟨_, rfl⟩
            rw [← hv16] at hP hD
            have Gv16 : (0 ≤ (v15).toInt ∧ (v15).toInt ≤ 1) := Rv15
            have Av16 : ∀ i : Nat, (0 ≤ (v16 i).toInt ∧ (v16 i).toInt ≤ 1) := by rw [hv16]; exact upd_all (P := fun i x => (0 ≤ (x).toInt ∧ (x).toInt ≤ 1)) Ag68y5 Gv16
            clear hv16
            refine lv_aload_n hx hb d_X_doTape_143 rfl (lv_at hl 2 rfl) ?_
            refine va_get (D := D) (ci := 7) (v := .ref p6) (C := "SignMachineModel") (T := F_X) (N := 64) hx hb hk fi_X hown hK.1 hP 0 rfl rfl 10 (by decide) (hk _ k_1131) (fun _ h9 => h9) rfl d_X_doTape_144 ?_
            refine lv_iload_n hx hb d_X_doTape_147 rfl (lv_at hl 1 rfl) ?_
            refine lv_iload_n hx hb d_X_doTape_148 rfl (lv_at hl 0 rfl) ?_
            refine lv_iadd hx hb d_X_doTape_149 ?_
            refine lv_topi (fun v17 hv17 => ?_)
            obtain ⟨ev17, Rv17⟩ : v17.toInt = v5.toInt + g68l2.toInt ∧ (0 ≤ v17.toInt ∧ v17.toInt ≤ 256099) := ad3 hv17 Rv5 R11 (by decide) (by decide) (by decide) (by decide)
            refine lv_aload_n hx hb d_X_doTape_150 rfl (lv_at hl 2 rfl) ?_
            refine va_get (D := D) (ci := 7) (v := .ref p2) (C := "SignMachineModel") (T := F_X) (N := 64) hx hb hk fi_X hown hK.1 hP 0 rfl rfl 1 (by decide) (hk _ k_1122) (fun _ h9 => h9) rfl d_X_doTape_151 ?_
            refine lv_aload_n hx hb d_X_doTape_154 rfl (lv_at hl 2 rfl) ?_
            refine va_get (D := D) (ci := 7) (v := .int x0_15) (C := "SignMachineModel") (T := F_X) (N := 64) hx hb hk fi_X hown hK.1 hP 0 rfl rfl 15 (by decide) (hk _ k_1136) (fun _ h9 => h9) rfl d_X_doTape_155 ?_
            refine lv_iload_n hx hb d_X_doTape_158 rfl (lv_at hl 0 rfl) ?_
            refine lv_iadd hx hb d_X_doTape_159 ?_
            refine lv_topi (fun v18 hv18 => ?_)
            obtain ⟨ev18, Rv18⟩ : v18.toInt = x0_15.toInt + g68l2.toInt ∧ ((-8190) ≤ v18.toInt ∧ v18.toInt ≤ 8289) := ad3 hv18 Rx0_15 R11 (by decide) (by decide) (by decide) (by decide)
            refine va_iald hx hb hK.1 hP 2 0 rfl rfl (by rw [vp_in_iff]; omega) d_X_doTape_160 ?_
            refine lv_topi (fun v19 hv19 => ?_)
            have Rv19 := Ag68y2 (v18).toNatClampNeg
            rw [← hv19] at Rv19
            refine va_iast hx hb hK.1 hP hD hS 6 0 rfl rfl (by rw [vp_in_iff]; omega) d_X_doTape_161 (fun H locs hP hD hS => ?_)
            have hP : va_P D classes (wS50 cI cJ cZ cB p0 p1 p2 p3 p4 p5 p6 p7 p8 p9 p10 p11 p12 p13 p14 p15 p16 p17 p18 p19 p20 p21 p22 p23 p24 p25 x0_4 x0_5 x0_6 x0_7 x0_8 x0_12 x0_13 x0_14 x0_15 x0_16 x0_17 x0_18 x0_22 x0_23 x0_24 x0_25 x0_26 x0_27 x0_28 x0_29 x0_30 x0_31 x0_32 x0_36 x0_39 x0_40 x0_44 x0_49 x0_51 x0_53 x0_54 x0_55 x0_56 x0_57 x0_58 x0_59 x0_60 x0_61 x0_62 g68y1 g68y2 y3 y4 v16 (upd g68y6 (v17).toNatClampNeg v19) y7 y8 y9 y10 y11 y12 y13 y14 y15 y16 y17 y18 y19 y20 y21 y22 y23 y24 y25) H := hP
            have hD : va_D A (wS50 cI cJ cZ cB p0 p1 p2 p3 p4 p5 p6 p7 p8 p9 p10 p11 p12 p13 p14 p15 p16 p17 p18 p19 p20 p21 p22 p23 p24 p25 x0_4 x0_5 x0_6 x0_7 x0_8 x0_12 x0_13 x0_14 x0_15 x0_16 x0_17 x0_18 x0_22 x0_23 x0_24 x0_25 x0_26 x0_27 x0_28 x0_29 x0_30 x0_31 x0_32 x0_36 x0_39 x0_40 x0_44 x0_49 x0_51 x0_53 x0_54 x0_55 x0_56 x0_57 x0_58 x0_59 x0_60 x0_61 x0_62 g68y1 g68y2 y3 y4 v16 (upd g68y6 (v17).toNatClampNeg v19) y7 y8 y9 y10 y11 y12 y13 y14 y15 y16 y17 y18 y19 y20 y21 y22 y23 y24 y25) := hD
            obtain ⟨v20, hv20⟩ : ∃ y : Nat → Int32, y = (upd g68y6 (v17).toNatClampNeg v19) := ⟨_, rfl⟩
            rw [← hv20] at hP hD
            have Gv20 : (0 ≤ (v19).toInt ∧ (v19).toInt ≤ 1073741823) := Rv19
            have Av20 : ∀ i : Nat, (0 ≤ (v20 i).toInt ∧ (v20 i).toInt ≤ 1073741823) := by rw [hv20]; exact upd_all (P := fun i x => (0 ≤ (x).toInt ∧ (x).toInt ≤ 1073741823)) Ag68y6 Gv20
            clear hv20
            obtain ⟨v21, hv21⟩ : ∃ y : Int32, y = (g68l2 + (1 : Int32)) := ⟨_, rfl⟩
            obtain ⟨ev21, Rv21⟩ : v21.toInt = g68l2.toInt + 1 ∧ (1 ≤ v21.toInt ∧ v21.toInt ≤ 100) := ad3 hv21 R11 (y := (1 : Int32)) (c := 1) (d := 1) (by decide) (by decide) (by decide) (by decide) (by decide)
            refine lv_iinc (v := v21) (lv' := [(2, .int v21), (1, .int v5), (0, .ref p0)]) hx hb d_X_doTape_162 hl (k := 0) rfl (by rw [hv21]; rfl) (by decide) rfl (fun ls hl => ?_)
            refine lv_goto (tgt := 68) hx hb d_X_doTape_165 (by decide) ?_
            exact ih68 v21 g68y1 g68y2 v16 v20 H _ ls (show 100 - v21.toInt < (n : Int) from by omega) (rgw Rv21 (by decide) (by decide)) Ag68y1 Ag68y2 Av16 Av20 hP hD hS (lv_sub hl [0, 1, 2] rfl)
          · have gc12 : x0_12.toInt = (36 : Int) := c_eq c12
            have R22 : 36 ≤ x0_12.toInt ∧ x0_12.toInt ≤ 36 := rf_eqX Rx0_12 (show 36 ≤ (36 : Int) ∧ (36 : Int) ≤ 36 from by decide) gc12 (by decide) (by decide)
            refine lv_aload_n hx hb d_X_doTape_83 rfl (lv_at hl 2 rfl) ?_
            refine va_get (D := D) (ci := 7) (v := .ref p1) (C := "SignMachineModel") (T := F_X) (N := 64) hx hb hk fi_X hown hK.1 hP 0 rfl rfl 0 (by decide) (hk _ k_1121) (fun _ h9 => h9) rfl d_X_doTape_84 ?_
            refine lv_aload_n hx hb d_X_doTape_87 rfl (lv_at hl 2 rfl) ?_
            refine va_get (D := D) (ci := 7) (v := .int x0_15) (C := "SignMachineModel") (T := F_X) (N := 64) hx hb hk fi_X hown hK.1 hP 0 rfl rfl 15 (by decide) (hk _ k_1136) (fun _ h9 => h9) rfl d_X_doTape_88 ?_
            refine lv_iload_n hx hb d_X_doTape_91 rfl (lv_at hl 0 rfl) ?_
            refine lv_iadd hx hb d_X_doTape_92 ?_
            refine lv_topi (fun v23 hv23 => ?_)
            obtain ⟨ev23, Rv23⟩ : v23.toInt = x0_15.toInt + g68l2.toInt ∧ ((-8190) ≤ v23.toInt ∧ v23.toInt ≤ 8289) := ad3 hv23 Rx0_15 R11 (by decide) (by decide) (by decide) (by decide)
            refine lv_aload_n hx hb d_X_doTape_93 rfl (lv_at hl 2 rfl) ?_
            refine va_get (D := D) (ci := 7) (v := .ref p5) (C := "SignMachineModel") (T := F_X) (N := 64) hx hb hk fi_X hown hK.1 hP 0 rfl rfl 9 (by decide) (hk _ k_1130) (fun _ h9 => h9) rfl d_X_doTape_94 ?_
            refine lv_iload_n hx hb d_X_doTape_97 rfl (lv_at hl 1 rfl) ?_
            refine lv_iload_n hx hb d_X_doTape_98 rfl (lv_at hl 0 rfl) ?_
            refine lv_iadd hx hb d_X_doTape_99 ?_
            refine lv_topi (fun v24 hv24 => ?_)
            obtain ⟨ev24, Rv24⟩ : v24.toInt = v5.toInt + g68l2.toInt ∧ (0 ≤ v24.toInt ∧ v24.toInt ≤ 256099) := ad3 hv24 Rv5 R11 (by decide) (by decide) (by decide) (by decide)
            refine va_iald hx hb hK.1 hP 5 0 rfl rfl (by rw [vp_in_iff]; omega) d_X_doTape_100 ?_
            refine lv_topi (fun v25 hv25 => ?_)
            have Rv25 := Ag68y5 (v24).toNatClampNeg
            rw [← hv25] at Rv25
            refine va_iast hx hb hK.1 hP hD hS 1 0 rfl rfl (by rw [vp_in_iff]; omega) d_X_doTape_101 (fun H locs hP hD hS => ?_)
            have hP : va_P D classes (wS50 cI cJ cZ cB p0 p1 p2 p3 p4 p5 p6 p7 p8 p9 p10 p11 p12 p13 p14 p15 p16 p17 p18 p19 p20 p21 p22 p23 p24 p25 x0_4 x0_5 x0_6 x0_7 x0_8 x0_12 x0_13 x0_14 x0_15 x0_16 x0_17 x0_18 x0_22 x0_23 x0_24 x0_25 x0_26 x0_27 x0_28 x0_29 x0_30 x0_31 x0_32 x0_36 x0_39 x0_40 x0_44 x0_49 x0_51 x0_53 x0_54 x0_55 x0_56 x0_57 x0_58 x0_59 x0_60 x0_61 x0_62 (upd g68y1 (v23).toNatClampNeg v25) g68y2 y3 y4 g68y5 g68y6 y7 y8 y9 y10 y11 y12 y13 y14 y15 y16 y17 y18 y19 y20 y21 y22 y23 y24 y25) H := hP
            have hD : va_D A (wS50 cI cJ cZ cB p0 p1 p2 p3 p4 p5 p6 p7 p8 p9 p10 p11 p12 p13 p14 p15 p16 p17 p18 p19 p20 p21 p22 p23 p24 p25 x0_4 x0_5 x0_6 x0_7 x0_8 x0_12 x0_13 x0_14 x0_15 x0_16 x0_17 x0_18 x0_22 x0_23 x0_24 x0_25 x0_26 x0_27 x0_28 x0_29 x0_30 x0_31 x0_32 x0_36 x0_39 x0_40 x0_44 x0_49 x0_51 x0_53 x0_54 x0_55 x0_56 x0_57 x0_58 x0_59 x0_60 x0_61 x0_62 (upd g68y1 (v23).toNatClampNeg v25) g68y2 y3 y4 g68y5 g68y6 y7 y8 y9 y10 y11 y12 y13 y14 y15 y16 y17 y18 y19 y20 y21 y22 y23 y24 y25) := hD
            obtain ⟨v26, hv26⟩ : ∃ y : Nat → Int32, y = (upd g68y1 (v23).toNatClampNeg v25) := ⟨_, rfl⟩
            rw [← hv26] at hP hD
            have Gv26 : (0 ≤ (v25).toInt ∧ (v25).toInt ≤ 1) := Rv25
            have Av26 : ∀ i : Nat, (0 ≤ (v26 i).toInt ∧ (v26 i).toInt ≤ 1) := by rw [hv26]; exact upd_all (P := fun i x => (0 ≤ (x).toInt ∧ (x).toInt ≤ 1)) Ag68y1 Gv26
            clear hv26
            refine lv_aload_n hx hb d_X_doTape_102 rfl (lv_at hl 2 rfl) ?_
            refine va_get (D := D) (ci := 7) (v := .ref p2) (C := "SignMachineModel") (T := F_X) (N := 64) hx hb hk fi_X hown hK.1 hP 0 rfl rfl 1 (by decide) (hk _ k_1122) (fun _ h9 => h9) rfl d_X_doTape_103 ?_
            refine lv_aload_n hx hb d_X_doTape_106 rfl (lv_at hl 2 rfl) ?_
            refine va_get (D := D) (ci := 7) (v := .int x0_15) (C := "SignMachineModel") (T := F_X) (N := 64) hx hb hk fi_X hown hK.1 hP 0 rfl rfl 15 (by decide) (hk _ k_1136) (fun _ h9 => h9) rfl d_X_doTape_107 ?_
            refine lv_iload_n hx hb d_X_doTape_110 rfl (lv_at hl 0 rfl) ?_
            refine lv_iadd hx hb d_X_doTape_111 ?_
            refine lv_topi (fun v27 hv27 => ?_)
            obtain ⟨ev27, Rv27⟩ : v27.toInt = x0_15.toInt + g68l2.toInt ∧ ((-8190) ≤ v27.toInt ∧ v27.toInt ≤ 8289) := ad3 hv27 Rx0_15 R11 (by decide) (by decide) (by decide) (by decide)
            refine lv_aload_n hx hb d_X_doTape_112 rfl (lv_at hl 2 rfl) ?_
            refine va_get (D := D) (ci := 7) (v := .ref p6) (C := "SignMachineModel") (T := F_X) (N := 64) hx hb hk fi_X hown hK.1 hP 0 rfl rfl 10 (by decide) (hk _ k_1131) (fun _ h9 => h9) rfl d_X_doTape_113 ?_
            refine lv_iload_n hx hb d_X_doTape_116 rfl (lv_at hl 1 rfl) ?_
            refine lv_iload_n hx hb d_X_doTape_117 rfl (lv_at hl 0 rfl) ?_
            refine lv_iadd hx hb d_X_doTape_118 ?_
            refine lv_topi (fun v28 hv28 => ?_)
            obtain ⟨ev28, Rv28⟩ : v28.toInt = v5.toInt + g68l2.toInt ∧ (0 ≤ v28.toInt ∧ v28.toInt ≤ 256099) := ad3 hv28 Rv5 R11 (by decide) (by decide) (by decide) (by decide)
            refine va_iald hx hb hK.1 hP 6 0 rfl rfl (by rw [vp_in_iff]; omega) d_X_doTape_119 ?_
            refine lv_topi (fun v29 hv29 => ?_)
            have Rv29 := Ag68y6 (v28).toNatClampNeg
            rw [← hv29] at Rv29
            refine va_iast hx hb hK.1 hP hD hS 2 0 rfl rfl (by rw [vp_in_iff]; omega) d_X_doTape_120 (fun H locs hP hD hS => ?_)
            have hP : va_P D classes (wS50 cI cJ cZ cB p0 p1 p2 p3 p4 p5 p6 p7 p8 p9 p10 p11 p12 p13 p14 p15 p16 p17 p18 p19 p20 p21 p22 p23 p24 p25 x0_4 x0_5 x0_6 x0_7 x0_8 x0_12 x0_13 x0_14 x0_15 x0_16 x0_17 x0_18 x0_22 x0_23 x0_24 x0_25 x0_26 x0_27 x0_28 x0_29 x0_30 x0_31 x0_32 x0_36 x0_39 x0_40 x0_44 x0_49 x0_51 x0_53 x0_54 x0_55 x0_56 x0_57 x0_58 x0_59 x0_60 x0_61 x0_62 v26 (upd g68y2 (v27).toNatClampNeg v29) y3 y4 g68y5 g68y6 y7 y8 y9 y10 y11 y12 y13 y14 y15 y16 y17 y18 y19 y20 y21 y22 y23 y24 y25) H := hP
            have hD : va_D A (wS50 cI cJ cZ cB p0 p1 p2 p3 p4 p5 p6 p7 p8 p9 p10 p11 p12 p13 p14 p15 p16 p17 p18 p19 p20 p21 p22 p23 p24 p25 x0_4 x0_5 x0_6 x0_7 x0_8 x0_12 x0_13 x0_14 x0_15 x0_16 x0_17 x0_18 x0_22 x0_23 x0_24 x0_25 x0_26 x0_27 x0_28 x0_29 x0_30 x0_31 x0_32 x0_36 x0_39 x0_40 x0_44 x0_49 x0_51 x0_53 x0_54 x0_55 x0_56 x0_57 x0_58 x0_59 x0_60 x0_61 x0_62 v26 (upd g68y2 (v27).toNatClampNeg v29) y3 y4 g68y5 g68y6 y7 y8 y9 y10 y11 y12 y13 y14 y15 y16 y17 y18 y19 y20 y21 y22 y23 y24 y25) := hD
            obtain ⟨v30, hv30⟩ : ∃ y : Nat → Int32, y = (upd g68y2 (v27).toNatClampNeg v29) := ⟨_, rfl⟩
            rw [← hv30] at hP hD
            have Gv30 : (0 ≤ (v29).toInt ∧ (v29).toInt ≤ 1073741823) := Rv29
            have Av30 : ∀ i : Nat, (0 ≤ (v30 i).toInt ∧ (v30 i).toInt ≤ 1073741823) := by rw [hv30]; exact upd_all (P := fun i x => (0 ≤ (x).toInt ∧ (x).toInt ≤ 1073741823)) Ag68y2 Gv30
            clear hv30
            refine lv_goto (tgt := 162) hx hb d_X_doTape_121 (by decide) ?_
            obtain ⟨v31, hv31⟩ : ∃ y : Int32, y = (g68l2 + (1 : Int32)) := ⟨_, rfl⟩
            obtain ⟨ev31, Rv31⟩ : v31.toInt = g68l2.toInt + 1 ∧ (1 ≤ v31.toInt ∧ v31.toInt ≤ 100) := ad3 hv31 R11 (y := (1 : Int32)) (c := 1) (d := 1) (by decide) (by decide) (by decide) (by decide) (by decide)
            refine lv_iinc (v := v31) (lv' := [(2, .int v31), (1, .int v5), (0, .ref p0)]) hx hb d_X_doTape_162 hl (k := 0) rfl (by rw [hv31]; rfl) (by decide) rfl (fun ls hl => ?_)
            refine lv_goto (tgt := 68) hx hb d_X_doTape_165 (by decide) ?_
            exact ih68 v31 v26 v30 g68y5 g68y6 H _ ls (show 100 - v31.toInt < (n : Int) from by omega) (rgw Rv31 (by decide) (by decide)) Av26 Av30 Ag68y5 Ag68y6 hP hD hS (lv_sub hl [0, 1, 2] rfl)
    exact CUT68 ((100 - (0 : Int)).toNat + 1) (0 : Int32) y1 y2 y5 y6 s.heap _ ls (show (100 - (0 : Int)) < (((100 - (0 : Int)).toNat + 1 : Nat) : Int) from by omega) (by decide) Ay1 Ay2 Ay5 Ay6 hP hD hS (lv_sub hl [0, 1, 2] rfl)
  · have gc1 : x0_12.toInt = (35 : Int) := c_eq c1
    have R32 : 35 ≤ x0_12.toInt ∧ x0_12.toInt ≤ 35 := rf_eqX Rx0_12 (show 35 ≤ (35 : Int) ∧ (35 : Int) ≤ 35 from by decide) gc1 (by decide) (by decide)
    refine lv_aload_n hx hb d_X_doTape_9 rfl (lv_at hl 0 rfl) ?_
    refine va_get (D := D) (ci := 7) (v := .ref p7) (C := "SignMachineModel") (T := F_X) (N := 64) hx hb hk fi_X hown hK.1 hP 0 rfl rfl 11 (by decide) (hk _ k_1132) (fun _ h9 => h9) rfl d_X_doTape_10 ?_
    refine lv_aload_n hx hb d_X_doTape_13 rfl (lv_at hl 0 rfl) ?_
    refine va_get (D := D) (ci := 7) (v := .int x0_13) (C := "SignMachineModel") (T := F_X) (N := 64) hx hb hk fi_X hown hK.1 hP 0 rfl rfl 13 (by decide) (hk _ k_1134) (fun _ h9 => h9) rfl d_X_doTape_14 ?_
    refine lv_aload_n hx hb d_X_doTape_17 rfl (lv_at hl 0 rfl) ?_
    refine va_get (D := D) (ci := 7) (v := .int x0_15) (C := "SignMachineModel") (T := F_X) (N := 64) hx hb hk fi_X hown hK.1 hP 0 rfl rfl 15 (by decide) (hk _ k_1136) (fun _ h9 => h9) rfl d_X_doTape_18 ?_
    refine lv_if_ne (tgt := 28) hx hb d_X_doTape_21 (by decide) (fun c33 => ?_) (fun c33 => ?_)
    · have gc33 : x0_15.toInt ≠ (0 : Int) := c_ne c33
      refine lv_aload_n hx hb d_X_doTape_28 rfl (lv_at hl 0 rfl) ?_
      refine va_get (D := D) (ci := 7) (v := .ref p7) (C := "SignMachineModel") (T := F_X) (N := 64) hx hb hk fi_X hown hK.1 hP 0 rfl rfl 11 (by decide) (hk _ k_1132) (fun _ h9 => h9) rfl d_X_doTape_29 ?_
      refine lv_aload_n hx hb d_X_doTape_32 rfl (lv_at hl 0 rfl) ?_
      refine va_get (D := D) (ci := 7) (v := .int x0_13) (C := "SignMachineModel") (T := F_X) (N := 64) hx hb hk fi_X hown hK.1 hP 0 rfl rfl 13 (by decide) (hk _ k_1134) (fun _ h9 => h9) rfl d_X_doTape_33 ?_
      refine va_iald hx hb hK.1 hP 7 0 rfl rfl (by rw [vp_in_iff]; omega) d_X_doTape_36 ?_
      refine lv_topi (fun v34 hv34 => ?_)
      have Tv34 : v34.toInt = (y7 (x0_13).toNatClampNeg).toInt := congrArg _ hv34
      have Rv34 := Ay7 (x0_13).toNatClampNeg
      rw [← hv34] at Rv34
      refine lv_aload_n hx hb d_X_doTape_37 rfl (lv_at hl 0 rfl) ?_
      refine va_get (D := D) (ci := 7) (v := .int x0_15) (C := "SignMachineModel") (T := F_X) (N := 64) hx hb hk fi_X hown hK.1 hP 0 rfl rfl 15 (by decide) (hk _ k_1136) (fun _ h9 => h9) rfl d_X_doTape_38 ?_
      refine lv_iadd hx hb d_X_doTape_41 ?_
      refine lv_topi (fun v35 hv35 => ?_)
      obtain ⟨ev35, Rv35⟩ : v35.toInt = v34.toInt + x0_15.toInt ∧ ((-8190) ≤ v35.toInt ∧ v35.toInt ≤ 8230) := ad3 hv35 Rv34 Rx0_15 (by decide) (by decide) (by decide) (by decide)
      refine va_iast hx hb hK.1 hP hD hS 7 0 rfl rfl (by rw [vp_in_iff]; omega) d_X_doTape_42 (fun H locs hP hD hS => ?_)
      have hP : va_P D classes (wS50 cI cJ cZ cB p0 p1 p2 p3 p4 p5 p6 p7 p8 p9 p10 p11 p12 p13 p14 p15 p16 p17 p18 p19 p20 p21 p22 p23 p24 p25 x0_4 x0_5 x0_6 x0_7 x0_8 x0_12 x0_13 x0_14 x0_15 x0_16 x0_17 x0_18 x0_22 x0_23 x0_24 x0_25 x0_26 x0_27 x0_28 x0_29 x0_30 x0_31 x0_32 x0_36 x0_39 x0_40 x0_44 x0_49 x0_51 x0_53 x0_54 x0_55 x0_56 x0_57 x0_58 x0_59 x0_60 x0_61 x0_62 y1 y2 y3 y4 y5 y6 (upd y7 (x0_13).toNatClampNeg v35) y8 y9 y10 y11 y12 y13 y14 y15 y16 y17 y18 y19 y20 y21 y22 y23 y24 y25) H := hP
      have hD : va_D A (wS50 cI cJ cZ cB p0 p1 p2 p3 p4 p5 p6 p7 p8 p9 p10 p11 p12 p13 p14 p15 p16 p17 p18 p19 p20 p21 p22 p23 p24 p25 x0_4 x0_5 x0_6 x0_7 x0_8 x0_12 x0_13 x0_14 x0_15 x0_16 x0_17 x0_18 x0_22 x0_23 x0_24 x0_25 x0_26 x0_27 x0_28 x0_29 x0_30 x0_31 x0_32 x0_36 x0_39 x0_40 x0_44 x0_49 x0_51 x0_53 x0_54 x0_55 x0_56 x0_57 x0_58 x0_59 x0_60 x0_61 x0_62 y1 y2 y3 y4 y5 y6 (upd y7 (x0_13).toNatClampNeg v35) y8 y9 y10 y11 y12 y13 y14 y15 y16 y17 y18 y19 y20 y21 y22 y23 y24 y25) := hD
      obtain ⟨v36, hv36⟩ : ∃ y : Nat → Int32, y = (upd y7 (x0_13).toNatClampNeg v35) := ⟨_, rfl⟩
      rw [← hv36] at hP hD
      have Gv36 : (0 ≤ (v35).toInt ∧ (v35).toInt ≤ 40) := (by omega)
      have Av36 : ∀ i : Nat, (0 ≤ (v36 i).toInt ∧ (v36 i).toInt ≤ 40) := by rw [hv36]; exact upd_all (P := fun i x => (0 ≤ (x).toInt ∧ (x).toInt ≤ 40)) Ay7 Gv36
      clear hv36
      exact W.vret hx hb hr (fun t ht hW => ⟨⟨(), rfl, trivial, ⟨y1, y2, y5, y6, v36, Ay1, Ay2, Ay5, Ay6, Av36, by show va_P D classes _ t.heap; rw [ht]; exact hP, hD⟩⟩, hS.F ht⟩) hS.2.2 d_X_doTape_43
    · have gc33 : x0_15.toInt = (0 : Int) := c_eq c33
      have R37 : 0 ≤ x0_15.toInt ∧ x0_15.toInt ≤ 0 := rf_eqX Rx0_15 (show 0 ≤ (0 : Int) ∧ (0 : Int) ≤ 0 from by decide) gc33 (by decide) (by decide)
      refine lv_iconst (v := 0) hx hb d_X_doTape_24 (by decide) ?_
      refine lv_goto (tgt := 42) hx hb d_X_doTape_25 (by decide) ?_
      refine va_iast hx hb hK.1 hP hD hS 7 0 rfl rfl (by rw [vp_in_iff]; omega) d_X_doTape_42 (fun H locs hP hD hS => ?_)
      have hP : va_P D classes (wS50 cI cJ cZ cB p0 p1 p2 p3 p4 p5 p6 p7 p8 p9 p10 p11 p12 p13 p14 p15 p16 p17 p18 p19 p20 p21 p22 p23 p24 p25 x0_4 x0_5 x0_6 x0_7 x0_8 x0_12 x0_13 x0_14 x0_15 x0_16 x0_17 x0_18 x0_22 x0_23 x0_24 x0_25 x0_26 x0_27 x0_28 x0_29 x0_30 x0_31 x0_32 x0_36 x0_39 x0_40 x0_44 x0_49 x0_51 x0_53 x0_54 x0_55 x0_56 x0_57 x0_58 x0_59 x0_60 x0_61 x0_62 y1 y2 y3 y4 y5 y6 (upd y7 (x0_13).toNatClampNeg (0 : Int32)) y8 y9 y10 y11 y12 y13 y14 y15 y16 y17 y18 y19 y20 y21 y22 y23 y24 y25) H := hP
      have hD : va_D A (wS50 cI cJ cZ cB p0 p1 p2 p3 p4 p5 p6 p7 p8 p9 p10 p11 p12 p13 p14 p15 p16 p17 p18 p19 p20 p21 p22 p23 p24 p25 x0_4 x0_5 x0_6 x0_7 x0_8 x0_12 x0_13 x0_14 x0_15 x0_16 x0_17 x0_18 x0_22 x0_23 x0_24 x0_25 x0_26 x0_27 x0_28 x0_29 x0_30 x0_31 x0_32 x0_36 x0_39 x0_40 x0_44 x0_49 x0_51 x0_53 x0_54 x0_55 x0_56 x0_57 x0_58 x0_59 x0_60 x0_61 x0_62 y1 y2 y3 y4 y5 y6 (upd y7 (x0_13).toNatClampNeg (0 : Int32)) y8 y9 y10 y11 y12 y13 y14 y15 y16 y17 y18 y19 y20 y21 y22 y23 y24 y25) := hD
      obtain ⟨v38, hv38⟩ : ∃ y : Nat → Int32, y = (upd y7 (x0_13).toNatClampNeg (0 : Int32)) := ⟨_, rfl⟩
      rw [← hv38] at hP hD
      have Gv38 : (0 ≤ ((0 : Int32)).toInt ∧ ((0 : Int32)).toInt ≤ 40) := (by decide)
      have Av38 : ∀ i : Nat, (0 ≤ (v38 i).toInt ∧ (v38 i).toInt ≤ 40) := by rw [hv38]; exact upd_all (P := fun i x => (0 ≤ (x).toInt ∧ (x).toInt ≤ 40)) Ay7 Gv38
      clear hv38
      exact W.vret hx hb hr (fun t ht hW => ⟨⟨(), rfl, trivial, ⟨y1, y2, y5, y6, v38, Ay1, Ay2, Ay5, Ay6, Av38, by show va_P D classes _ t.heap; rw [ht]; exact hP, hD⟩⟩, hS.F ht⟩) hS.2.2 d_X_doTape_43
theorem v_X_doTape {R : Room} {s : State} {args : Array Value} {own : String} {index : Nat} (hk : ∀ w ∈ tb, w.before args s = true) (hl : Cond.methodLink own index y_X_doTape ∈ tb) (hR : 0 + 1 ≤ R.frames ∧ 8 + (3 + 11) + 0 ≤ R.locals) : CallW R s args own "SignMachineModel" index y_X_doTape b_X_doTape 3 none (.code y_X_doTape b_X_doTape 3 none :: tb) ({ frames := 0, cells := 0, slots := 0, locals := 0 }) 0 0 0 := mk_v 0 hk k_1465 hl k_1464 k_78 k_119 rfl rfl h_X_doTape hR
set_option maxHeartbeats 8000000 in
set_option maxRecDepth 100000 in
theorem c_X_doFirst (l : Launch) (D : va_G) (cI cJ cZ cB : ClassId) (p0 p1 p2 p3 p4 p5 p6 p7 p8 p9 p10 p11 p12 p13 p14 p15 p16 p17 p18 p19 p20 p21 p22 p23 p24 p25 : Nat) (sz : Nat) (x0_4 : Int32) (x0_5 : Int32) (x0_6 : Int32) (x0_7 : Int32) (x0_8 : Int32) (x0_12 : Int32) (x0_13 : Int32) (x0_14 : Int32) (x0_15 : Int32) (x0_16 : Int32) (x0_17 : Int32) (x0_18 : Int32) (x0_22 : Int32) (x0_23 : Int32) (x0_24 : Int32) (x0_25 : Int32) (x0_26 : Int32) (x0_27 : Int32) (x0_28 : Int32) (x0_29 : Int32) (x0_30 : Int32) (x0_31 : Int32) (x0_32 : Int32) (x0_36 : Int32) (x0_39 : Int32) (x0_40 : Int64) (x0_44 : Int32) (x0_49 : Int32) (x0_51 : Int32) (x0_53 : Int32) (x0_54 : Int32) (x0_55 : Int64) (x0_56 : Int32) (x0_57 : Int32) (x0_58 : Int32) (x0_59 : Int32) (x0_60 : Int32) (x0_61 : Int32) (x0_62 : Int64) (y1 : Nat → Int32) (y2 : Nat → Int32) (y3 : Nat → Int32) (y4 : Nat → Int32) (y5 : Nat → Int32) (y6 : Nat → Int32) (y7 : Nat → Int32) (y8 : Nat → Int32) (y9 : Nat → Int32) (y10 : Nat → Int32) (y11 : Nat → Int64) (y12 : Nat → Int32) (y13 : Nat → Int64) (y14 : Nat → Int32) (y15 : Nat → Int64) (y16 : Nat → Int32) (y17 : Nat → Int32) (y18 : Nat → Int32) (y19 : Nat → Int32) (y20 : Nat → Int32) (y21 : Nat → Int32) (y22 : Nat → Int32) (y23 : Nat → Int32) (y24 : Nat → Int64) (y25 : Nat → Int64)  (Rx0_12 : 0 ≤ x0_12.toInt ∧ x0_12.toInt ≤ 63) (Rx0_13 : 0 ≤ x0_13.toInt ∧ x0_13.toInt ≤ 63) (Rx0_15 : (-8190) ≤ x0_15.toInt ∧ x0_15.toInt ≤ 8190) (Rx0_17 : 0 ≤ x0_17.toInt ∧ x0_17.toInt ≤ 1) (Rx0_18 : 0 ≤ x0_18.toInt ∧ x0_18.toInt ≤ 1073741823) (Ay1 : ∀ i : Nat, (0 ≤ (y1 i).toInt ∧ (y1 i).toInt ≤ 1)) (Ay2 : ∀ i : Nat, (0 ≤ (y2 i).toInt ∧ (y2 i).toInt ≤ 1073741823)) (Ay3 : ∀ i : Nat, (0 ≤ (y3 i).toInt ∧ (y3 i).toInt ≤ 1)) (Ay4 : ∀ i : Nat, ((0 ≤ (y4 i).toInt ∧ (y4 i).toInt ≤ 1073741823) ∧ ((1 ≤ (i : Int) ∧ (i : Int) ≤ 6) → (y4 i).toInt ≤ 4095))) (Ay8 : ∀ i : Nat, (0 ≤ (y8 i).toInt ∧ (y8 i).toInt ≤ 63)) (Ay9 : ∀ i : Nat, (0 ≤ (y9 i).toInt ∧ (y9 i).toInt ≤ 63)) (Q0 : x0_12.toInt ≤ 7) (Q1 : hid (((1 ≤ x0_12.toInt ∧ x0_12.toInt ≤ 4) ∨ (8 ≤ x0_12.toInt ∧ x0_12.toInt ≤ 33) ∨ 56 ≤ x0_12.toInt) → (x0_13.toInt / 8 ≤ x0_13.toInt % 8 ∧ x0_13.toInt % 8 ≤ 5))) (Q2 : hid ((((1 ≤ x0_12.toInt ∧ x0_12.toInt ≤ 4) ∨ (8 ≤ x0_12.toInt ∧ x0_12.toInt ≤ 33) ∨ 56 ≤ x0_12.toInt) ∨ x0_12.toInt = 34 ∨ (38 ≤ x0_12.toInt ∧ x0_12.toInt ≤ 47)) → (0 ≤ x0_15.toInt ∧ x0_15.toInt ≤ 3999))) (Q3 : hid ((x0_12.toInt = 7 ∧ 0 < x0_13.toInt) → (0 ≤ x0_15.toInt ∧ x0_15.toInt + x0_13.toInt ≤ 4000 ∧ 0 ≤ rv y3 y4 ((1 : Int32)).toNatClampNeg ∧ rv y3 y4 ((1 : Int32)).toNatClampNeg + x0_13.toInt ≤ 4000))) : Met l y_X_doFirst (.code y_X_doFirst b_X_doFirst 1 none :: tb) ({ frames := 3, cells := 0, slots := 0, locals := 71 }) (pM D cI cJ cZ cB (wS50 cI cJ cZ cB p0 p1 p2 p3 p4 p5 p6 p7 p8 p9 p10 p11 p12 p13 p14 p15 p16 p17 p18 p19 p20 p21 p22 p23 p24 p25 x0_4 x0_5 x0_6 x0_7 x0_8 x0_12 x0_13 x0_14 x0_15 x0_16 x0_17 x0_18 x0_22 x0_23 x0_24 x0_25 x0_26 x0_27 x0_28 x0_29 x0_30 x0_31 x0_32 x0_36 x0_39 x0_40 x0_44 x0_49 x0_51 x0_53 x0_54 x0_55 x0_56 x0_57 x0_58 x0_59 x0_60 x0_61 x0_62 y1 y2 y3 y4 y5 y6 y7 y8 y9 y10 y11 y12 y13 y14 y15 y16 y17 y18 y19 y20 y21 y22 y23 y24 y25) sz [.ref p0]) (va_Qv (fun (_ : Unit) => True) (fun _ t => ∃ u_x0_5 : Int32, ∃ u_x0_7 : Int32, ∃ u_x0_17 : Int32, ∃ u_x0_18 : Int32, ∃ u_y1 : Nat → Int32, ∃ u_y2 : Nat → Int32, ∃ u_y3 : Nat → Int32, ∃ u_y4 : Nat → Int32, ∃ u_y8 : Nat → Int32, ∃ u_y9 : Nat → Int32, (0 ≤ u_x0_17.toInt ∧ u_x0_17.toInt ≤ 1) ∧ (0 ≤ u_x0_18.toInt ∧ u_x0_18.toInt ≤ 1073741823) ∧ (∀ i : Nat, (0 ≤ (u_y1 i).toInt ∧ (u_y1 i).toInt ≤ 1)) ∧ (∀ i : Nat, (0 ≤ (u_y2 i).toInt ∧ (u_y2 i).toInt ≤ 1073741823)) ∧ (∀ i : Nat, (0 ≤ (u_y3 i).toInt ∧ (u_y3 i).toInt ≤ 1)) ∧ (∀ i : Nat, ((0 ≤ (u_y4 i).toInt ∧ (u_y4 i).toInt ≤ 1073741823) ∧ ((1 ≤ (i : Int) ∧ (i : Int) ≤ 6) → (u_y4 i).toInt ≤ 4095))) ∧ (∀ i : Nat, (0 ≤ (u_y8 i).toInt ∧ (u_y8 i).toInt ≤ 63)) ∧ (∀ i : Nat, (0 ≤ (u_y9 i).toInt ∧ (u_y9 i).toInt ≤ 63)) ∧ va_P D classes (wS50 cI cJ cZ cB p0 p1 p2 p3 p4 p5 p6 p7 p8 p9 p10 p11 p12 p13 p14 p15 p16 p17 p18 p19 p20 p21 p22 p23 p24 p25 x0_4 u_x0_5 x0_6 u_x0_7 x0_8 x0_12 x0_13 x0_14 x0_15 x0_16 u_x0_17 u_x0_18 x0_22 x0_23 x0_24 x0_25 x0_26 x0_27 x0_28 x0_29 x0_30 x0_31 x0_32 x0_36 x0_39 x0_40 x0_44 x0_49 x0_51 x0_53 x0_54 x0_55 x0_56 x0_57 x0_58 x0_59 x0_60 x0_61 x0_62 u_y1 u_y2 u_y3 u_y4 y5 y6 y7 u_y8 u_y9 y10 y11 y12 y13 y14 y15 y16 y17 y18 y19 y20 y21 y22 y23 y24 y25) t.heap ∧ va_D (va_A (wS50 cI cJ cZ cB p0 p1 p2 p3 p4 p5 p6 p7 p8 p9 p10 p11 p12 p13 p14 p15 p16 p17 p18 p19 p20 p21 p22 p23 p24 p25 x0_4 x0_5 x0_6 x0_7 x0_8 x0_12 x0_13 x0_14 x0_15 x0_16 x0_17 x0_18 x0_22 x0_23 x0_24 x0_25 x0_26 x0_27 x0_28 x0_29 x0_30 x0_31 x0_32 x0_36 x0_39 x0_40 x0_44 x0_49 x0_51 x0_53 x0_54 x0_55 x0_56 x0_57 x0_58 x0_59 x0_60 x0_61 x0_62 y1 y2 y3 y4 y5 y6 y7 y8 y9 y10 y11 y12 y13 y14 y15 y16 y17 y18 y19 y20 y21 y22 y23 y24 y25) sz) (wS50 cI cJ cZ cB p0 p1 p2 p3 p4 p5 p6 p7 p8 p9 p10 p11 p12 p13 p14 p15 p16 p17 p18 p19 p20 p21 p22 p23 p24 p25 x0_4 u_x0_5 x0_6 u_x0_7 x0_8 x0_12 x0_13 x0_14 x0_15 x0_16 u_x0_17 u_x0_18 x0_22 x0_23 x0_24 x0_25 x0_26 x0_27 x0_28 x0_29 x0_30 x0_31 x0_32 x0_36 x0_39 x0_40 x0_44 x0_49 x0_51 x0_53 x0_54 x0_55 x0_56 x0_57 x0_58 x0_59 x0_60 x0_61 x0_62 u_y1 u_y2 u_y3 u_y4 y5 y6 y7 u_y8 u_y9 y10 y11 y12 y13 y14 y15 y16 y17 y18 y19 y20 y21 y22 y23 y24 y25)) (va_A (wS50 cI cJ cZ cB p0 p1 p2 p3 p4 p5 p6 p7 p8 p9 p10 p11 p12 p13 p14 p15 p16 p17 p18 p19 p20 p21 p22 p23 p24 p25 x0_4 x0_5 x0_6 x0_7 x0_8 x0_12 x0_13 x0_14 x0_15 x0_16 x0_17 x0_18 x0_22 x0_23 x0_24 x0_25 x0_26 x0_27 x0_28 x0_29 x0_30 x0_31 x0_32 x0_36 x0_39 x0_40 x0_44 x0_49 x0_51 x0_53 x0_54 x0_55 x0_56 x0_57 x0_58 x0_59 x0_60 x0_61 x0_62 y1 y2 y3 y4 y5 y6 y7 y8 y9 y10 y11 y12 y13 y14 y15 y16 y17 y18 y19 y20 y21 y22 y23 y24 y25) sz)) 0 0 (va_A (wS50 cI cJ cZ cB p0 p1 p2 p3 p4 p5 p6 p7 p8 p9 p10 p11 p12 p13 p14 p15 p16 p17 p18 p19 p20 p21 p22 p23 p24 p25 x0_4 x0_5 x0_6 x0_7 x0_8 x0_12 x0_13 x0_14 x0_15 x0_16 x0_17 x0_18 x0_22 x0_23 x0_24 x0_25 x0_26 x0_27 x0_28 x0_29 x0_30 x0_31 x0_32 x0_36 x0_39 x0_40 x0_44 x0_49 x0_51 x0_53 x0_54 x0_55 x0_56 x0_57 x0_58 x0_59 x0_60 x0_61 x0_62 y1 y2 y3 y4 y5 y6 y7 y8 y9 y10 y11 y12 y13 y14 y15 y16 y17 y18 y19 y20 y21 y22 y23 y24 y25) sz) := by
  refine Met.ofW (cc := b_X_doFirst) (maxL := 1) (ret := none) (by decide) rfl ?_
  intro p e s m args below meth c s₁ B hml hv
  obtain ⟨rfl, hsz, hK, hP, hD0⟩ := hv
  subst hsz
  have hD := hD0.self (sz := s.heap.size)
  generalize hAe : va_A (wS50 cI cJ cZ cB p0 p1 p2 p3 p4 p5 p6 p7 p8 p9 p10 p11 p12 p13 p14 p15 p16 p17 p18 p19 p20 p21 p22 p23 p24 p25 x0_4 x0_5 x0_6 x0_7 x0_8 x0_12 x0_13 x0_14 x0_15 x0_16 x0_17 x0_18 x0_22 x0_23 x0_24 x0_25 x0_26 x0_27 x0_28 x0_29 x0_30 x0_31 x0_32 x0_36 x0_39 x0_40 x0_44 x0_49 x0_51 x0_53 x0_54 x0_55 x0_56 x0_57 x0_58 x0_59 x0_60 x0_61 x0_62 y1 y2 y3 y4 y5 y6 y7 y8 y9 y10 y11 y12 y13 y14 y15 y16 y17 y18 y19 y20 y21 y22 y23 y24 y25) s.heap.size = A at hD ⊢
  have hA : ∀ q : Nat, s.heap.size ≤ q → A q := fun q h => by rw [← hAe]; exact Or.inr h
  clear hAe hD0
  have hS : va_S A s.heap s.heap [] := va_S.rf
  have hx := B.exec
  have hb := B.bytes
  have hr := B.returns
  have hts := atoms_spec (ws := .code y_X_doFirst b_X_doFirst 1 none :: tb) B.pre
  have hk : ∀ w ∈ tb, w.before [.ref p0].toArray s = true := fun w h => hts w (List.mem_cons_of_mem _ h)
  have hown : s.vm.findClass "SignMachineModel" = some m.cls := findClass_of_methodNamed B.named
  have hlocks := B.notSynchronized
  have hl := lv_entry ([.ref p0]) (n := 1) (Nat.le_of_ble_eq_true rfl)
  rw [lg_entry_eq]
  generalize (lg_sl ([.ref p0]) ++ List.replicate (1 - (lg_sl ([.ref p0])).length) Slot.unset).toArray = ls at hl ⊢
  have hl : lv_has ls 1 [(0, .ref p0)] := hl
  clear hts B
  refine lv_aload_n hx hb d_X_doFirst_0 rfl (lv_at hl 0 rfl) ?_
  refine va_get (D := D) (ci := 7) (v := .int x0_12) (C := "SignMachineModel") (T := F_X) (N := 64) hx hb hk fi_X hown hK.1 hP 0 rfl rfl 12 (by decide) (hk _ k_1133) (fun _ h9 => h9) rfl d_X_doFirst_1 ?_
  by_cases c1 : x0_12 = (0 : Int32)
  · refine lv_tableIn (off := 44) (tgt := 48) hx hb d_X_doFirst_4 (by rw [c1]; decide) (by rw [c1]; decide) (by rw [c1]; rfl) (by decide) ?_
    have gc1 : 0 ≤ x0_12.toInt ∧ x0_12.toInt ≤ 0 := by have q9 : x0_12.toInt = 0 := c_eq c1; omega
    refine lv_aload_n hx hb d_X_doFirst_48 rfl (lv_at hl 0 rfl) ?_
    refine lv_iconst (v := 1) hx hb d_X_doFirst_49 (by decide) ?_
    refine kn_v (va_runV (C := "SignMachineModel") (As := [.int (1 : Int32)]) (rest := []) ⟨hx, hb, hml, hown, hk⟩ (c_X_passes l D cI cJ cZ cB p0 p1 p2 p3 p4 p5 p6 p7 p8 p9 p10 p11 p12 p13 p14 p15 p16 p17 p18 p19 p20 p21 p22 p23 p24 p25 s.heap.size x0_4 x0_5 x0_6 x0_7 x0_8 x0_12 x0_13 x0_14 x0_15 x0_16 x0_17 x0_18 x0_22 x0_23 x0_24 x0_25 x0_26 x0_27 x0_28 x0_29 x0_30 x0_31 x0_32 x0_36 x0_39 x0_40 x0_44 x0_49 x0_51 x0_53 x0_54 x0_55 x0_56 x0_57 x0_58 x0_59 x0_60 x0_61 x0_62 y1 y2 y3 y4 y5 y6 y7 y8 y9 y10 y11 y12 y13 y14 y15 y16 y17 y18 y19 y20 y21 y22 y23 y24 y25 (1 : Int32) ) (v_X_passes hk k_1428 ⟨Nat.le_of_ble_eq_true rfl, Nat.le_of_ble_eq_true rfl⟩) (pM_v hK hP hD (ci := 7) (q0 := 0) rfl rfl rfl) rfl rfl hl.1 rfl (lv_room (Nat.le_of_ble_eq_true rfl)) d_X_doFirst_50 ⟨Nat.le_of_ble_eq_true rfl, Nat.le_of_ble_eq_true rfl⟩) hS hA hD (fun u t H locs ht hB hFr hS => ?_)
    obtain ⟨x0_7z2, hP, hD⟩ := hB
    rw [ht] at hP
    have hD := dwk hD hFr
    clear ht hFr
    have hP : va_P D classes (wS50 cI cJ cZ cB p0 p1 p2 p3 p4 p5 p6 p7 p8 p9 p10 p11 p12 p13 p14 p15 p16 p17 p18 p19 p20 p21 p22 p23 p24 p25 x0_4 x0_5 x0_6 x0_7z2 x0_8 x0_12 x0_13 x0_14 x0_15 x0_16 x0_17 x0_18 x0_22 x0_23 x0_24 x0_25 x0_26 x0_27 x0_28 x0_29 x0_30 x0_31 x0_32 x0_36 x0_39 x0_40 x0_44 x0_49 x0_51 x0_53 x0_54 x0_55 x0_56 x0_57 x0_58 x0_59 x0_60 x0_61 x0_62 y1 y2 y3 y4 y5 y6 y7 y8 y9 y10 y11 y12 y13 y14 y15 y16 y17 y18 y19 y20 y21 y22 y23 y24 y25) H := hP
    have hD : va_D A (wS50 cI cJ cZ cB p0 p1 p2 p3 p4 p5 p6 p7 p8 p9 p10 p11 p12 p13 p14 p15 p16 p17 p18 p19 p20 p21 p22 p23 p24 p25 x0_4 x0_5 x0_6 x0_7z2 x0_8 x0_12 x0_13 x0_14 x0_15 x0_16 x0_17 x0_18 x0_22 x0_23 x0_24 x0_25 x0_26 x0_27 x0_28 x0_29 x0_30 x0_31 x0_32 x0_36 x0_39 x0_40 x0_44 x0_49 x0_51 x0_53 x0_54 x0_55 x0_56 x0_57 x0_58 x0_59 x0_60 x0_61 x0_62 y1 y2 y3 y4 y5 y6 y7 y8 y9 y10 y11 y12 y13 y14 y15 y16 y17 y18 y19 y20 y21 y22 y23 y24 y25) := hD
    refine lv_goto (tgt := 195) hx hb d_X_doFirst_53 (by decide) ?_
    exact W.vret hx hb hr (fun t ht hW => ⟨⟨(), rfl, trivial, ⟨x0_5, x0_7z2, x0_17, x0_18, y1, y2, y3, y4, y8, y9, Rx0_17, Rx0_18, Ay1, Ay2, Ay3, Ay4, Ay8, Ay9, by show va_P D classes _ t.heap; rw [ht]; exact hP, hD⟩⟩, hS.F ht⟩) hS.2.2 d_X_doFirst_195
  · by_cases c3 : x0_12 = (1 : Int32)
    · refine lv_tableIn (off := 52) (tgt := 56) hx hb d_X_doFirst_4 (by rw [c3]; decide) (by rw [c3]; decide) (by rw [c3]; rfl) (by decide) ?_
      have gc3 : 1 ≤ x0_12.toInt ∧ x0_12.toInt ≤ 1 := by have q9 : x0_12.toInt = 1 := c_eq c3; omega
      refine lv_aload_n hx hb d_X_doFirst_56 rfl (lv_at hl 0 rfl) ?_
      refine lv_iconst (v := 2) hx hb d_X_doFirst_57 (by decide) ?_
      refine kn_v (va_runV (C := "SignMachineModel") (As := [.int (2 : Int32)]) (rest := []) ⟨hx, hb, hml, hown, hk⟩ (c_X_passes l D cI cJ cZ cB p0 p1 p2 p3 p4 p5 p6 p7 p8 p9 p10 p11 p12 p13 p14 p15 p16 p17 p18 p19 p20 p21 p22 p23 p24 p25 s.heap.size x0_4 x0_5 x0_6 x0_7 x0_8 x0_12 x0_13 x0_14 x0_15 x0_16 x0_17 x0_18 x0_22 x0_23 x0_24 x0_25 x0_26 x0_27 x0_28 x0_29 x0_30 x0_31 x0_32 x0_36 x0_39 x0_40 x0_44 x0_49 x0_51 x0_53 x0_54 x0_55 x0_56 x0_57 x0_58 x0_59 x0_60 x0_61 x0_62 y1 y2 y3 y4 y5 y6 y7 y8 y9 y10 y11 y12 y13 y14 y15 y16 y17 y18 y19 y20 y21 y22 y23 y24 y25 (2 : Int32) ) (v_X_passes hk k_1428 ⟨Nat.le_of_ble_eq_true rfl, Nat.le_of_ble_eq_true rfl⟩) (pM_v hK hP hD (ci := 7) (q0 := 0) rfl rfl rfl) rfl rfl hl.1 rfl (lv_room (Nat.le_of_ble_eq_true rfl)) d_X_doFirst_58 ⟨Nat.le_of_ble_eq_true rfl, Nat.le_of_ble_eq_true rfl⟩) hS hA hD (fun u t H locs ht hB hFr hS => ?_)
      obtain ⟨x0_7z4, hP, hD⟩ := hB
      rw [ht] at hP
      have hD := dwk hD hFr
      clear ht hFr
      have hP : va_P D classes (wS50 cI cJ cZ cB p0 p1 p2 p3 p4 p5 p6 p7 p8 p9 p10 p11 p12 p13 p14 p15 p16 p17 p18 p19 p20 p21 p22 p23 p24 p25 x0_4 x0_5 x0_6 x0_7z4 x0_8 x0_12 x0_13 x0_14 x0_15 x0_16 x0_17 x0_18 x0_22 x0_23 x0_24 x0_25 x0_26 x0_27 x0_28 x0_29 x0_30 x0_31 x0_32 x0_36 x0_39 x0_40 x0_44 x0_49 x0_51 x0_53 x0_54 x0_55 x0_56 x0_57 x0_58 x0_59 x0_60 x0_61 x0_62 y1 y2 y3 y4 y5 y6 y7 y8 y9 y10 y11 y12 y13 y14 y15 y16 y17 y18 y19 y20 y21 y22 y23 y24 y25) H := hP
      have hD : va_D A (wS50 cI cJ cZ cB p0 p1 p2 p3 p4 p5 p6 p7 p8 p9 p10 p11 p12 p13 p14 p15 p16 p17 p18 p19 p20 p21 p22 p23 p24 p25 x0_4 x0_5 x0_6 x0_7z4 x0_8 x0_12 x0_13 x0_14 x0_15 x0_16 x0_17 x0_18 x0_22 x0_23 x0_24 x0_25 x0_26 x0_27 x0_28 x0_29 x0_30 x0_31 x0_32 x0_36 x0_39 x0_40 x0_44 x0_49 x0_51 x0_53 x0_54 x0_55 x0_56 x0_57 x0_58 x0_59 x0_60 x0_61 x0_62 y1 y2 y3 y4 y5 y6 y7 y8 y9 y10 y11 y12 y13 y14 y15 y16 y17 y18 y19 y20 y21 y22 y23 y24 y25) := hD
      refine lv_aload_n hx hb d_X_doFirst_61 rfl (lv_at hl 0 rfl) ?_
      refine kn_v (va_runV (C := "SignMachineModel") (As := []) (rest := []) ⟨hx, hb, hml, hown, hk⟩ (c_X_takeValue l D cI cJ cZ cB p0 p1 p2 p3 p4 p5 p6 p7 p8 p9 p10 p11 p12 p13 p14 p15 p16 p17 p18 p19 p20 p21 p22 p23 p24 p25 H.size x0_4 x0_5 x0_6 x0_7z4 x0_8 x0_12 x0_13 x0_14 x0_15 x0_16 x0_17 x0_18 x0_22 x0_23 x0_24 x0_25 x0_26 x0_27 x0_28 x0_29 x0_30 x0_31 x0_32 x0_36 x0_39 x0_40 x0_44 x0_49 x0_51 x0_53 x0_54 x0_55 x0_56 x0_57 x0_58 x0_59 x0_60 x0_61 x0_62 y1 y2 y3 y4 y5 y6 y7 y8 y9 y10 y11 y12 y13 y14 y15 y16 y17 y18 y19 y20 y21 y22 y23 y24 y25  Rx0_13 Rx0_15 Rx0_17 Rx0_18 Ay1 Ay2 (Q2 (by omega)) (Q1 (by omega))) (v_X_takeValue hk k_1408 ⟨Nat.le_of_ble_eq_true rfl, Nat.le_of_ble_eq_true rfl⟩) (pM_v hK hP hD (ci := 7) (q0 := 0) rfl rfl rfl) rfl rfl hl.1 rfl (lv_room (Nat.le_of_ble_eq_true rfl)) d_X_doFirst_62 ⟨Nat.le_of_ble_eq_true rfl, Nat.le_of_ble_eq_true rfl⟩) hS hA hD (fun u t H locs ht hB hFr hS => ?_)
      obtain ⟨x0_17z5, x0_18z5, Rx0_17z5, Rx0_18z5, F0z5, hP, hD⟩ := hB
      have F0z5 : x0_18z5.toInt = tvf y2 x0_15 x0_13 := F0z5
      rw [ht] at hP
      have hD := dwk hD hFr
      clear ht hFr
      have hP : va_P D classes (wS50 cI cJ cZ cB p0 p1 p2 p3 p4 p5 p6 p7 p8 p9 p10 p11 p12 p13 p14 p15 p16 p17 p18 p19 p20 p21 p22 p23 p24 p25 x0_4 x0_5 x0_6 x0_7z4 x0_8 x0_12 x0_13 x0_14 x0_15 x0_16 x0_17z5 x0_18z5 x0_22 x0_23 x0_24 x0_25 x0_26 x0_27 x0_28 x0_29 x0_30 x0_31 x0_32 x0_36 x0_39 x0_40 x0_44 x0_49 x0_51 x0_53 x0_54 x0_55 x0_56 x0_57 x0_58 x0_59 x0_60 x0_61 x0_62 y1 y2 y3 y4 y5 y6 y7 y8 y9 y10 y11 y12 y13 y14 y15 y16 y17 y18 y19 y20 y21 y22 y23 y24 y25) H := hP
      have hD : va_D A (wS50 cI cJ cZ cB p0 p1 p2 p3 p4 p5 p6 p7 p8 p9 p10 p11 p12 p13 p14 p15 p16 p17 p18 p19 p20 p21 p22 p23 p24 p25 x0_4 x0_5 x0_6 x0_7z4 x0_8 x0_12 x0_13 x0_14 x0_15 x0_16 x0_17z5 x0_18z5 x0_22 x0_23 x0_24 x0_25 x0_26 x0_27 x0_28 x0_29 x0_30 x0_31 x0_32 x0_36 x0_39 x0_40 x0_44 x0_49 x0_51 x0_53 x0_54 x0_55 x0_56 x0_57 x0_58 x0_59 x0_60 x0_61 x0_62 y1 y2 y3 y4 y5 y6 y7 y8 y9 y10 y11 y12 y13 y14 y15 y16 y17 y18 y19 y20 y21 y22 y23 y24 y25) := hD
      refine lv_aload_n hx hb d_X_doFirst_65 rfl (lv_at hl 0 rfl) ?_
      refine lv_iconst (v := 0) hx hb d_X_doFirst_66 (by decide) ?_
      refine lv_aload_n hx hb d_X_doFirst_67 rfl (lv_at hl 0 rfl) ?_
      refine va_get (D := D) (ci := 7) (v := .int x0_12) (C := "SignMachineModel") (T := F_X) (N := 64) hx hb hk fi_X hown hK.1 hP 0 rfl rfl 12 (by decide) (hk _ k_1133) (fun _ h9 => h9) rfl d_X_doFirst_68 ?_
      refine lv_iconst (v := 1) hx hb d_X_doFirst_71 (by decide) ?_
      refine lv_icmp_ne (tgt := 82) hx hb d_X_doFirst_72 (by decide) (fun c6 => absurd (show x0_12 = (1 : Int32) from (Int32.toInt_inj.mp (keq gc3 (show 1 ≤ (1 : Int) ∧ (1 : Int) ≤ 1 from by decide) (by decide) (by decide) (by decide)))) c6) (fun c6 => ?_)
      refine lv_aload_n hx hb d_X_doFirst_75 rfl (lv_at hl 0 rfl) ?_
      refine va_get (D := D) (ci := 7) (v := .int x0_17z5) (C := "SignMachineModel") (T := F_X) (N := 64) hx hb hk fi_X hown hK.1 hP 0 rfl rfl 17 (by decide) (hk _ k_1138) (fun _ h9 => h9) rfl d_X_doFirst_76 ?_
      refine lv_goto (tgt := 88) hx hb d_X_doFirst_79 (by decide) ?_
      refine lv_aload_n hx hb d_X_doFirst_88 rfl (lv_at hl 0 rfl) ?_
      refine va_get (D := D) (ci := 7) (v := .int x0_18z5) (C := "SignMachineModel") (T := F_X) (N := 64) hx hb hk fi_X hown hK.1 hP 0 rfl rfl 18 (by decide) (hk _ k_1139) (fun _ h9 => h9) rfl d_X_doFirst_89 ?_
      refine kn_v (va_runV (C := "SignMachineModel") (As := [.int (0 : Int32), .int x0_17z5, .int x0_18z5]) (rest := []) ⟨hx, hb, hml, hown, hk⟩ (c_X_add l D cI cJ cZ cB p0 p1 p2 p3 p4 p5 p6 p7 p8 p9 p10 p11 p12 p13 p14 p15 p16 p17 p18 p19 p20 p21 p22 p23 p24 p25 H.size x0_4 x0_5 x0_6 x0_7z4 x0_8 x0_12 x0_13 x0_14 x0_15 x0_16 x0_17z5 x0_18z5 x0_22 x0_23 x0_24 x0_25 x0_26 x0_27 x0_28 x0_29 x0_30 x0_31 x0_32 x0_36 x0_39 x0_40 x0_44 x0_49 x0_51 x0_53 x0_54 x0_55 x0_56 x0_57 x0_58 x0_59 x0_60 x0_61 x0_62 y1 y2 y3 y4 y5 y6 y7 y8 y9 y10 y11 y12 y13 y14 y15 y16 y17 y18 y19 y20 y21 y22 y23 y24 y25 (0 : Int32) x0_17z5 x0_18z5 Ay3 Ay4 (show (1 ≤ (0 : Int) ∧ (0 : Int) ≤ 6 ∧ x0_17z5.toInt = 1) → (-4095 ≤ rv y3 y4 ((0 : Int32)).toNatClampNeg - x0_18z5.toInt ∧ rv y3 y4 ((0 : Int32)).toNatClampNeg - x0_18z5.toInt ≤ 4095) from by omega) (show (1 ≤ (0 : Int) ∧ (0 : Int) ≤ 6 ∧ x0_17z5.toInt = 0) → (-4095 ≤ rv y3 y4 ((0 : Int32)).toNatClampNeg + x0_18z5.toInt ∧ rv y3 y4 ((0 : Int32)).toNatClampNeg + x0_18z5.toInt ≤ 4095) from by omega) (by decide) Rx0_17z5 Rx0_18z5) (v_X_add hk k_1457 ⟨Nat.le_of_ble_eq_true rfl, Nat.le_of_ble_eq_true rfl⟩) (pM_v hK hP hD (ci := 7) (q0 := 0) rfl rfl rfl) rfl rfl hl.1 rfl (lv_room (Nat.le_of_ble_eq_true rfl)) d_X_doFirst_92 ⟨Nat.le_of_ble_eq_true rfl, Nat.le_of_ble_eq_true rfl⟩) hS hA hD (fun u t H locs ht hB hFr hS => ?_)
      obtain ⟨x0_5z7, y3z7, y4z7, Ay3z7, Ay4z7, hP, hD⟩ := hB
      rw [ht] at hP
      have hD := dwk hD hFr
      clear ht hFr
      have hP : va_P D classes (wS50 cI cJ cZ cB p0 p1 p2 p3 p4 p5 p6 p7 p8 p9 p10 p11 p12 p13 p14 p15 p16 p17 p18 p19 p20 p21 p22 p23 p24 p25 x0_4 x0_5z7 x0_6 x0_7z4 x0_8 x0_12 x0_13 x0_14 x0_15 x0_16 x0_17z5 x0_18z5 x0_22 x0_23 x0_24 x0_25 x0_26 x0_27 x0_28 x0_29 x0_30 x0_31 x0_32 x0_36 x0_39 x0_40 x0_44 x0_49 x0_51 x0_53 x0_54 x0_55 x0_56 x0_57 x0_58 x0_59 x0_60 x0_61 x0_62 y1 y2 y3z7 y4z7 y5 y6 y7 y8 y9 y10 y11 y12 y13 y14 y15 y16 y17 y18 y19 y20 y21 y22 y23 y24 y25) H := hP
      have hD : va_D A (wS50 cI cJ cZ cB p0 p1 p2 p3 p4 p5 p6 p7 p8 p9 p10 p11 p12 p13 p14 p15 p16 p17 p18 p19 p20 p21 p22 p23 p24 p25 x0_4 x0_5z7 x0_6 x0_7z4 x0_8 x0_12 x0_13 x0_14 x0_15 x0_16 x0_17z5 x0_18z5 x0_22 x0_23 x0_24 x0_25 x0_26 x0_27 x0_28 x0_29 x0_30 x0_31 x0_32 x0_36 x0_39 x0_40 x0_44 x0_49 x0_51 x0_53 x0_54 x0_55 x0_56 x0_57 x0_58 x0_59 x0_60 x0_61 x0_62 y1 y2 y3z7 y4z7 y5 y6 y7 y8 y9 y10 y11 y12 y13 y14 y15 y16 y17 y18 y19 y20 y21 y22 y23 y24 y25) := hD
      refine lv_goto (tgt := 195) hx hb d_X_doFirst_95 (by decide) ?_
      exact W.vret hx hb hr (fun t ht hW => ⟨⟨(), rfl, trivial, ⟨x0_5z7, x0_7z4, x0_17z5, x0_18z5, y1, y2, y3z7, y4z7, y8, y9, Rx0_17z5, Rx0_18z5, Ay1, Ay2, Ay3z7, Ay4z7, Ay8, Ay9, by show va_P D classes _ t.heap; rw [ht]; exact hP, hD⟩⟩, hS.F ht⟩) hS.2.2 d_X_doFirst_195
    · by_cases c8 : x0_12 = (2 : Int32)
      · refine lv_tableIn (off := 52) (tgt := 56) hx hb d_X_doFirst_4 (by rw [c8]; decide) (by rw [c8]; decide) (by rw [c8]; rfl) (by decide) ?_
        have gc8 : 2 ≤ x0_12.toInt ∧ x0_12.toInt ≤ 2 := by have q9 : x0_12.toInt = 2 := c_eq c8; omega
        refine lv_aload_n hx hb d_X_doFirst_56 rfl (lv_at hl 0 rfl) ?_
        refine lv_iconst (v := 2) hx hb d_X_doFirst_57 (by decide) ?_
        refine kn_v (va_runV (C := "SignMachineModel") (As := [.int (2 : Int32)]) (rest := []) ⟨hx, hb, hml, hown, hk⟩ (c_X_passes l D cI cJ cZ cB p0 p1 p2 p3 p4 p5 p6 p7 p8 p9 p10 p11 p12 p13 p14 p15 p16 p17 p18 p19 p20 p21 p22 p23 p24 p25 s.heap.size x0_4 x0_5 x0_6 x0_7 x0_8 x0_12 x0_13 x0_14 x0_15 x0_16 x0_17 x0_18 x0_22 x0_23 x0_24 x0_25 x0_26 x0_27 x0_28 x0_29 x0_30 x0_31 x0_32 x0_36 x0_39 x0_40 x0_44 x0_49 x0_51 x0_53 x0_54 x0_55 x0_56 x0_57 x0_58 x0_59 x0_60 x0_61 x0_62 y1 y2 y3 y4 y5 y6 y7 y8 y9 y10 y11 y12 y13 y14 y15 y16 y17 y18 y19 y20 y21 y22 y23 y24 y25 (2 : Int32) ) (v_X_passes hk k_1428 ⟨Nat.le_of_ble_eq_true rfl, Nat.le_of_ble_eq_true rfl⟩) (pM_v hK hP hD (ci := 7) (q0 := 0) rfl rfl rfl) rfl rfl hl.1 rfl (lv_room (Nat.le_of_ble_eq_true rfl)) d_X_doFirst_58 ⟨Nat.le_of_ble_eq_true rfl, Nat.le_of_ble_eq_true rfl⟩) hS hA hD (fun u t H locs ht hB hFr hS => ?_)
        obtain ⟨x0_7z9, hP, hD⟩ := hB
        rw [ht] at hP
        have hD := dwk hD hFr
        clear ht hFr
        have hP : va_P D classes (wS50 cI cJ cZ cB p0 p1 p2 p3 p4 p5 p6 p7 p8 p9 p10 p11 p12 p13 p14 p15 p16 p17 p18 p19 p20 p21 p22 p23 p24 p25 x0_4 x0_5 x0_6 x0_7z9 x0_8 x0_12 x0_13 x0_14 x0_15 x0_16 x0_17 x0_18 x0_22 x0_23 x0_24 x0_25 x0_26 x0_27 x0_28 x0_29 x0_30 x0_31 x0_32 x0_36 x0_39 x0_40 x0_44 x0_49 x0_51 x0_53 x0_54 x0_55 x0_56 x0_57 x0_58 x0_59 x0_60 x0_61 x0_62 y1 y2 y3 y4 y5 y6 y7 y8 y9 y10 y11 y12 y13 y14 y15 y16 y17 y18 y19 y20 y21 y22 y23 y24 y25) H := hP
        have hD : va_D A (wS50 cI cJ cZ cB p0 p1 p2 p3 p4 p5 p6 p7 p8 p9 p10 p11 p12 p13 p14 p15 p16 p17 p18 p19 p20 p21 p22 p23 p24 p25 x0_4 x0_5 x0_6 x0_7z9 x0_8 x0_12 x0_13 x0_14 x0_15 x0_16 x0_17 x0_18 x0_22 x0_23 x0_24 x0_25 x0_26 x0_27 x0_28 x0_29 x0_30 x0_31 x0_32 x0_36 x0_39 x0_40 x0_44 x0_49 x0_51 x0_53 x0_54 x0_55 x0_56 x0_57 x0_58 x0_59 x0_60 x0_61 x0_62 y1 y2 y3 y4 y5 y6 y7 y8 y9 y10 y11 y12 y13 y14 y15 y16 y17 y18 y19 y20 y21 y22 y23 y24 y25) := hD
        refine lv_aload_n hx hb d_X_doFirst_61 rfl (lv_at hl 0 rfl) ?_
        refine kn_v (va_runV (C := "SignMachineModel") (As := []) (rest := []) ⟨hx, hb, hml, hown, hk⟩ (c_X_takeValue l D cI cJ cZ cB p0 p1 p2 p3 p4 p5 p6 p7 p8 p9 p10 p11 p12 p13 p14 p15 p16 p17 p18 p19 p20 p21 p22 p23 p24 p25 H.size x0_4 x0_5 x0_6 x0_7z9 x0_8 x0_12 x0_13 x0_14 x0_15 x0_16 x0_17 x0_18 x0_22 x0_23 x0_24 x0_25 x0_26 x0_27 x0_28 x0_29 x0_30 x0_31 x0_32 x0_36 x0_39 x0_40 x0_44 x0_49 x0_51 x0_53 x0_54 x0_55 x0_56 x0_57 x0_58 x0_59 x0_60 x0_61 x0_62 y1 y2 y3 y4 y5 y6 y7 y8 y9 y10 y11 y12 y13 y14 y15 y16 y17 y18 y19 y20 y21 y22 y23 y24 y25  Rx0_13 Rx0_15 Rx0_17 Rx0_18 Ay1 Ay2 (Q2 (by omega)) (Q1 (by omega))) (v_X_takeValue hk k_1408 ⟨Nat.le_of_ble_eq_true rfl, Nat.le_of_ble_eq_true rfl⟩) (pM_v hK hP hD (ci := 7) (q0 := 0) rfl rfl rfl) rfl rfl hl.1 rfl (lv_room (Nat.le_of_ble_eq_true rfl)) d_X_doFirst_62 ⟨Nat.le_of_ble_eq_true rfl, Nat.le_of_ble_eq_true rfl⟩) hS hA hD (fun u t H locs ht hB hFr hS => ?_)
        obtain ⟨x0_17z10, x0_18z10, Rx0_17z10, Rx0_18z10, F0z10, hP, hD⟩ := hB
        have F0z10 : x0_18z10.toInt = tvf y2 x0_15 x0_13 := F0z10
        rw [ht] at hP
        have hD := dwk hD hFr
        clear ht hFr
        have hP : va_P D classes (wS50 cI cJ cZ cB p0 p1 p2 p3 p4 p5 p6 p7 p8 p9 p10 p11 p12 p13 p14 p15 p16 p17 p18 p19 p20 p21 p22 p23 p24 p25 x0_4 x0_5 x0_6 x0_7z9 x0_8 x0_12 x0_13 x0_14 x0_15 x0_16 x0_17z10 x0_18z10 x0_22 x0_23 x0_24 x0_25 x0_26 x0_27 x0_28 x0_29 x0_30 x0_31 x0_32 x0_36 x0_39 x0_40 x0_44 x0_49 x0_51 x0_53 x0_54 x0_55 x0_56 x0_57 x0_58 x0_59 x0_60 x0_61 x0_62 y1 y2 y3 y4 y5 y6 y7 y8 y9 y10 y11 y12 y13 y14 y15 y16 y17 y18 y19 y20 y21 y22 y23 y24 y25) H := hP
        have hD : va_D A (wS50 cI cJ cZ cB p0 p1 p2 p3 p4 p5 p6 p7 p8 p9 p10 p11 p12 p13 p14 p15 p16 p17 p18 p19 p20 p21 p22 p23 p24 p25 x0_4 x0_5 x0_6 x0_7z9 x0_8 x0_12 x0_13 x0_14 x0_15 x0_16 x0_17z10 x0_18z10 x0_22 x0_23 x0_24 x0_25 x0_26 x0_27 x0_28 x0_29 x0_30 x0_31 x0_32 x0_36 x0_39 x0_40 x0_44 x0_49 x0_51 x0_53 x0_54 x0_55 x0_56 x0_57 x0_58 x0_59 x0_60 x0_61 x0_62 y1 y2 y3 y4 y5 y6 y7 y8 y9 y10 y11 y12 y13 y14 y15 y16 y17 y18 y19 y20 y21 y22 y23 y24 y25) := hD
        refine lv_aload_n hx hb d_X_doFirst_65 rfl (lv_at hl 0 rfl) ?_
        refine lv_iconst (v := 0) hx hb d_X_doFirst_66 (by decide) ?_
        refine lv_aload_n hx hb d_X_doFirst_67 rfl (lv_at hl 0 rfl) ?_
        refine va_get (D := D) (ci := 7) (v := .int x0_12) (C := "SignMachineModel") (T := F_X) (N := 64) hx hb hk fi_X hown hK.1 hP 0 rfl rfl 12 (by decide) (hk _ k_1133) (fun _ h9 => h9) rfl d_X_doFirst_68 ?_
        refine lv_iconst (v := 1) hx hb d_X_doFirst_71 (by decide) ?_
        refine lv_icmp_ne (tgt := 82) hx hb d_X_doFirst_72 (by decide) (fun c11 => ?_) (fun c11 => absurd c11 (show ¬ x0_12 = (1 : Int32) from (fun q9 => (knE gc8 (show 1 ≤ (1 : Int) ∧ (1 : Int) ≤ 1 from by decide) (by decide)) (c_eq q9))))
        refine lv_iconst (v := 1) hx hb d_X_doFirst_82 (by decide) ?_
        refine lv_aload_n hx hb d_X_doFirst_83 rfl (lv_at hl 0 rfl) ?_
        refine va_get (D := D) (ci := 7) (v := .int x0_17z10) (C := "SignMachineModel") (T := F_X) (N := 64) hx hb hk fi_X hown hK.1 hP 0 rfl rfl 17 (by decide) (hk _ k_1138) (fun _ h9 => h9) rfl d_X_doFirst_84 ?_
        refine lv_isub hx hb d_X_doFirst_87 ?_
        refine lv_topi (fun v12 hv12 => ?_)
        obtain ⟨ev12, Rv12⟩ : v12.toInt = (1 : Int) - x0_17z10.toInt ∧ (0 ≤ v12.toInt ∧ v12.toInt ≤ 1) := sb3 hv12 (show 1 ≤ (1 : Int32).toInt ∧ (1 : Int32).toInt ≤ 1 from by decide) Rx0_17z10 (by decide) (by decide) (by decide) (by decide)
        refine lv_aload_n hx hb d_X_doFirst_88 rfl (lv_at hl 0 rfl) ?_
        refine va_get (D := D) (ci := 7) (v := .int x0_18z10) (C := "SignMachineModel") (T := F_X) (N := 64) hx hb hk fi_X hown hK.1 hP 0 rfl rfl 18 (by decide) (hk _ k_1139) (fun _ h9 => h9) rfl d_X_doFirst_89 ?_
        refine kn_v (va_runV (C := "SignMachineModel") (As := [.int (0 : Int32), .int v12, .int x0_18z10]) (rest := []) ⟨hx, hb, hml, hown, hk⟩ (c_X_add l D cI cJ cZ cB p0 p1 p2 p3 p4 p5 p6 p7 p8 p9 p10 p11 p12 p13 p14 p15 p16 p17 p18 p19 p20 p21 p22 p23 p24 p25 H.size x0_4 x0_5 x0_6 x0_7z9 x0_8 x0_12 x0_13 x0_14 x0_15 x0_16 x0_17z10 x0_18z10 x0_22 x0_23 x0_24 x0_25 x0_26 x0_27 x0_28 x0_29 x0_30 x0_31 x0_32 x0_36 x0_39 x0_40 x0_44 x0_49 x0_51 x0_53 x0_54 x0_55 x0_56 x0_57 x0_58 x0_59 x0_60 x0_61 x0_62 y1 y2 y3 y4 y5 y6 y7 y8 y9 y10 y11 y12 y13 y14 y15 y16 y17 y18 y19 y20 y21 y22 y23 y24 y25 (0 : Int32) v12 x0_18z10 Ay3 Ay4 (show (1 ≤ (0 : Int) ∧ (0 : Int) ≤ 6 ∧ v12.toInt = 1) → (-4095 ≤ rv y3 y4 ((0 : Int32)).toNatClampNeg - x0_18z10.toInt ∧ rv y3 y4 ((0 : Int32)).toNatClampNeg - x0_18z10.toInt ≤ 4095) from by omega) (show (1 ≤ (0 : Int) ∧ (0 : Int) ≤ 6 ∧ v12.toInt = 0) → (-4095 ≤ rv y3 y4 ((0 : Int32)).toNatClampNeg + x0_18z10.toInt ∧ rv y3 y4 ((0 : Int32)).toNatClampNeg + x0_18z10.toInt ≤ 4095) from by omega) (by decide) Rv12 Rx0_18z10) (v_X_add hk k_1457 ⟨Nat.le_of_ble_eq_true rfl, Nat.le_of_ble_eq_true rfl⟩) (pM_v hK hP hD (ci := 7) (q0 := 0) rfl rfl rfl) rfl rfl hl.1 rfl (lv_room (Nat.le_of_ble_eq_true rfl)) d_X_doFirst_92 ⟨Nat.le_of_ble_eq_true rfl, Nat.le_of_ble_eq_true rfl⟩) hS hA hD (fun u t H locs ht hB hFr hS => ?_)
        obtain ⟨x0_5z13, y3z13, y4z13, Ay3z13, Ay4z13, hP, hD⟩ := hB
        rw [ht] at hP
        have hD := dwk hD hFr
        clear ht hFr
        have hP : va_P D classes (wS50 cI cJ cZ cB p0 p1 p2 p3 p4 p5 p6 p7 p8 p9 p10 p11 p12 p13 p14 p15 p16 p17 p18 p19 p20 p21 p22 p23 p24 p25 x0_4 x0_5z13 x0_6 x0_7z9 x0_8 x0_12 x0_13 x0_14 x0_15 x0_16 x0_17z10 x0_18z10 x0_22 x0_23 x0_24 x0_25 x0_26 x0_27 x0_28 x0_29 x0_30 x0_31 x0_32 x0_36 x0_39 x0_40 x0_44 x0_49 x0_51 x0_53 x0_54 x0_55 x0_56 x0_57 x0_58 x0_59 x0_60 x0_61 x0_62 y1 y2 y3z13 y4z13 y5 y6 y7 y8 y9 y10 y11 y12 y13 y14 y15 y16 y17 y18 y19 y20 y21 y22 y23 y24 y25) H := hP
        have hD : va_D A (wS50 cI cJ cZ cB p0 p1 p2 p3 p4 p5 p6 p7 p8 p9 p10 p11 p12 p13 p14 p15 p16 p17 p18 p19 p20 p21 p22 p23 p24 p25 x0_4 x0_5z13 x0_6 x0_7z9 x0_8 x0_12 x0_13 x0_14 x0_15 x0_16 x0_17z10 x0_18z10 x0_22 x0_23 x0_24 x0_25 x0_26 x0_27 x0_28 x0_29 x0_30 x0_31 x0_32 x0_36 x0_39 x0_40 x0_44 x0_49 x0_51 x0_53 x0_54 x0_55 x0_56 x0_57 x0_58 x0_59 x0_60 x0_61 x0_62 y1 y2 y3z13 y4z13 y5 y6 y7 y8 y9 y10 y11 y12 y13 y14 y15 y16 y17 y18 y19 y20 y21 y22 y23 y24 y25) := hD
        refine lv_goto (tgt := 195) hx hb d_X_doFirst_95 (by decide) ?_
        exact W.vret hx hb hr (fun t ht hW => ⟨⟨(), rfl, trivial, ⟨x0_5z13, x0_7z9, x0_17z10, x0_18z10, y1, y2, y3z13, y4z13, y8, y9, Rx0_17z10, Rx0_18z10, Ay1, Ay2, Ay3z13, Ay4z13, Ay8, Ay9, by show va_P D classes _ t.heap; rw [ht]; exact hP, hD⟩⟩, hS.F ht⟩) hS.2.2 d_X_doFirst_195
      · by_cases c14 : x0_12 = (3 : Int32)
        · refine lv_tableIn (off := 94) (tgt := 98) hx hb d_X_doFirst_4 (by rw [c14]; decide) (by rw [c14]; decide) (by rw [c14]; rfl) (by decide) ?_
          have gc14 : 3 ≤ x0_12.toInt ∧ x0_12.toInt ≤ 3 := by have q9 : x0_12.toInt = 3 := c_eq c14; omega
          refine lv_aload_n hx hb d_X_doFirst_98 rfl (lv_at hl 0 rfl) ?_
          refine lv_bipush (v := 10) hx hb d_X_doFirst_99 (by decide) ?_
          refine kn_v (va_runV (C := "SignMachineModel") (As := [.int (10 : Int32)]) (rest := []) ⟨hx, hb, hml, hown, hk⟩ (c_X_passes l D cI cJ cZ cB p0 p1 p2 p3 p4 p5 p6 p7 p8 p9 p10 p11 p12 p13 p14 p15 p16 p17 p18 p19 p20 p21 p22 p23 p24 p25 s.heap.size x0_4 x0_5 x0_6 x0_7 x0_8 x0_12 x0_13 x0_14 x0_15 x0_16 x0_17 x0_18 x0_22 x0_23 x0_24 x0_25 x0_26 x0_27 x0_28 x0_29 x0_30 x0_31 x0_32 x0_36 x0_39 x0_40 x0_44 x0_49 x0_51 x0_53 x0_54 x0_55 x0_56 x0_57 x0_58 x0_59 x0_60 x0_61 x0_62 y1 y2 y3 y4 y5 y6 y7 y8 y9 y10 y11 y12 y13 y14 y15 y16 y17 y18 y19 y20 y21 y22 y23 y24 y25 (10 : Int32) ) (v_X_passes hk k_1428 ⟨Nat.le_of_ble_eq_true rfl, Nat.le_of_ble_eq_true rfl⟩) (pM_v hK hP hD (ci := 7) (q0 := 0) rfl rfl rfl) rfl rfl hl.1 rfl (lv_room (Nat.le_of_ble_eq_true rfl)) d_X_doFirst_101 ⟨Nat.le_of_ble_eq_true rfl, Nat.le_of_ble_eq_true rfl⟩) hS hA hD (fun u t H locs ht hB hFr hS => ?_)
          obtain ⟨x0_7z15, hP, hD⟩ := hB
          rw [ht] at hP
          have hD := dwk hD hFr
          clear ht hFr
          have hP : va_P D classes (wS50 cI cJ cZ cB p0 p1 p2 p3 p4 p5 p6 p7 p8 p9 p10 p11 p12 p13 p14 p15 p16 p17 p18 p19 p20 p21 p22 p23 p24 p25 x0_4 x0_5 x0_6 x0_7z15 x0_8 x0_12 x0_13 x0_14 x0_15 x0_16 x0_17 x0_18 x0_22 x0_23 x0_24 x0_25 x0_26 x0_27 x0_28 x0_29 x0_30 x0_31 x0_32 x0_36 x0_39 x0_40 x0_44 x0_49 x0_51 x0_53 x0_54 x0_55 x0_56 x0_57 x0_58 x0_59 x0_60 x0_61 x0_62 y1 y2 y3 y4 y5 y6 y7 y8 y9 y10 y11 y12 y13 y14 y15 y16 y17 y18 y19 y20 y21 y22 y23 y24 y25) H := hP
          have hD : va_D A (wS50 cI cJ cZ cB p0 p1 p2 p3 p4 p5 p6 p7 p8 p9 p10 p11 p12 p13 p14 p15 p16 p17 p18 p19 p20 p21 p22 p23 p24 p25 x0_4 x0_5 x0_6 x0_7z15 x0_8 x0_12 x0_13 x0_14 x0_15 x0_16 x0_17 x0_18 x0_22 x0_23 x0_24 x0_25 x0_26 x0_27 x0_28 x0_29 x0_30 x0_31 x0_32 x0_36 x0_39 x0_40 x0_44 x0_49 x0_51 x0_53 x0_54 x0_55 x0_56 x0_57 x0_58 x0_59 x0_60 x0_61 x0_62 y1 y2 y3 y4 y5 y6 y7 y8 y9 y10 y11 y12 y13 y14 y15 y16 y17 y18 y19 y20 y21 y22 y23 y24 y25) := hD
          refine lv_aload_n hx hb d_X_doFirst_104 rfl (lv_at hl 0 rfl) ?_
          refine kn_v (va_runV (C := "SignMachineModel") (As := []) (rest := []) ⟨hx, hb, hml, hown, hk⟩ (c_X_takeValue l D cI cJ cZ cB p0 p1 p2 p3 p4 p5 p6 p7 p8 p9 p10 p11 p12 p13 p14 p15 p16 p17 p18 p19 p20 p21 p22 p23 p24 p25 H.size x0_4 x0_5 x0_6 x0_7z15 x0_8 x0_12 x0_13 x0_14 x0_15 x0_16 x0_17 x0_18 x0_22 x0_23 x0_24 x0_25 x0_26 x0_27 x0_28 x0_29 x0_30 x0_31 x0_32 x0_36 x0_39 x0_40 x0_44 x0_49 x0_51 x0_53 x0_54 x0_55 x0_56 x0_57 x0_58 x0_59 x0_60 x0_61 x0_62 y1 y2 y3 y4 y5 y6 y7 y8 y9 y10 y11 y12 y13 y14 y15 y16 y17 y18 y19 y20 y21 y22 y23 y24 y25  Rx0_13 Rx0_15 Rx0_17 Rx0_18 Ay1 Ay2 (Q2 (by omega)) (Q1 (by omega))) (v_X_takeValue hk k_1408 ⟨Nat.le_of_ble_eq_true rfl, Nat.le_of_ble_eq_true rfl⟩) (pM_v hK hP hD (ci := 7) (q0 := 0) rfl rfl rfl) rfl rfl hl.1 rfl (lv_room (Nat.le_of_ble_eq_true rfl)) d_X_doFirst_105 ⟨Nat.le_of_ble_eq_true rfl, Nat.le_of_ble_eq_true rfl⟩) hS hA hD (fun u t H locs ht hB hFr hS => ?_)
          obtain ⟨x0_17z16, x0_18z16, Rx0_17z16, Rx0_18z16, F0z16, hP, hD⟩ := hB
          have F0z16 : x0_18z16.toInt = tvf y2 x0_15 x0_13 := F0z16
          rw [ht] at hP
          have hD := dwk hD hFr
          clear ht hFr
          have hP : va_P D classes (wS50 cI cJ cZ cB p0 p1 p2 p3 p4 p5 p6 p7 p8 p9 p10 p11 p12 p13 p14 p15 p16 p17 p18 p19 p20 p21 p22 p23 p24 p25 x0_4 x0_5 x0_6 x0_7z15 x0_8 x0_12 x0_13 x0_14 x0_15 x0_16 x0_17z16 x0_18z16 x0_22 x0_23 x0_24 x0_25 x0_26 x0_27 x0_28 x0_29 x0_30 x0_31 x0_32 x0_36 x0_39 x0_40 x0_44 x0_49 x0_51 x0_53 x0_54 x0_55 x0_56 x0_57 x0_58 x0_59 x0_60 x0_61 x0_62 y1 y2 y3 y4 y5 y6 y7 y8 y9 y10 y11 y12 y13 y14 y15 y16 y17 y18 y19 y20 y21 y22 y23 y24 y25) H := hP
          have hD : va_D A (wS50 cI cJ cZ cB p0 p1 p2 p3 p4 p5 p6 p7 p8 p9 p10 p11 p12 p13 p14 p15 p16 p17 p18 p19 p20 p21 p22 p23 p24 p25 x0_4 x0_5 x0_6 x0_7z15 x0_8 x0_12 x0_13 x0_14 x0_15 x0_16 x0_17z16 x0_18z16 x0_22 x0_23 x0_24 x0_25 x0_26 x0_27 x0_28 x0_29 x0_30 x0_31 x0_32 x0_36 x0_39 x0_40 x0_44 x0_49 x0_51 x0_53 x0_54 x0_55 x0_56 x0_57 x0_58 x0_59 x0_60 x0_61 x0_62 y1 y2 y3 y4 y5 y6 y7 y8 y9 y10 y11 y12 y13 y14 y15 y16 y17 y18 y19 y20 y21 y22 y23 y24 y25) := hD
          refine lv_aload_n hx hb d_X_doFirst_108 rfl (lv_at hl 0 rfl) ?_
          refine kn_v (va_runV (C := "SignMachineModel") (As := []) (rest := []) ⟨hx, hb, hml, hown, hk⟩ (c_X_multiply l D cI cJ cZ cB p0 p1 p2 p3 p4 p5 p6 p7 p8 p9 p10 p11 p12 p13 p14 p15 p16 p17 p18 p19 p20 p21 p22 p23 p24 p25 H.size x0_4 x0_5 x0_6 x0_7z15 x0_8 x0_12 x0_13 x0_14 x0_15 x0_16 x0_17z16 x0_18z16 x0_22 x0_23 x0_24 x0_25 x0_26 x0_27 x0_28 x0_29 x0_30 x0_31 x0_32 x0_36 x0_39 x0_40 x0_44 x0_49 x0_51 x0_53 x0_54 x0_55 x0_56 x0_57 x0_58 x0_59 x0_60 x0_61 x0_62 y1 y2 y3 y4 y5 y6 y7 y8 y9 y10 y11 y12 y13 y14 y15 y16 y17 y18 y19 y20 y21 y22 y23 y24 y25  Rx0_17z16 Rx0_18z16 Ay3 Ay4) (v_X_multiply hk k_1478 ⟨Nat.le_of_ble_eq_true rfl, Nat.le_of_ble_eq_true rfl⟩) (pM_v hK hP hD (ci := 7) (q0 := 0) rfl rfl rfl) rfl rfl hl.1 rfl (lv_room (Nat.le_of_ble_eq_true rfl)) d_X_doFirst_109 ⟨Nat.le_of_ble_eq_true rfl, Nat.le_of_ble_eq_true rfl⟩) hS hA hD (fun u t H locs ht hB hFr hS => ?_)
          obtain ⟨y3z17, y4z17, Ay3z17, Ay4z17, hP, hD⟩ := hB
          rw [ht] at hP
          have hD := dwk hD hFr
          clear ht hFr
          have hP : va_P D classes (wS50 cI cJ cZ cB p0 p1 p2 p3 p4 p5 p6 p7 p8 p9 p10 p11 p12 p13 p14 p15 p16 p17 p18 p19 p20 p21 p22 p23 p24 p25 x0_4 x0_5 x0_6 x0_7z15 x0_8 x0_12 x0_13 x0_14 x0_15 x0_16 x0_17z16 x0_18z16 x0_22 x0_23 x0_24 x0_25 x0_26 x0_27 x0_28 x0_29 x0_30 x0_31 x0_32 x0_36 x0_39 x0_40 x0_44 x0_49 x0_51 x0_53 x0_54 x0_55 x0_56 x0_57 x0_58 x0_59 x0_60 x0_61 x0_62 y1 y2 y3z17 y4z17 y5 y6 y7 y8 y9 y10 y11 y12 y13 y14 y15 y16 y17 y18 y19 y20 y21 y22 y23 y24 y25) H := hP
          have hD : va_D A (wS50 cI cJ cZ cB p0 p1 p2 p3 p4 p5 p6 p7 p8 p9 p10 p11 p12 p13 p14 p15 p16 p17 p18 p19 p20 p21 p22 p23 p24 p25 x0_4 x0_5 x0_6 x0_7z15 x0_8 x0_12 x0_13 x0_14 x0_15 x0_16 x0_17z16 x0_18z16 x0_22 x0_23 x0_24 x0_25 x0_26 x0_27 x0_28 x0_29 x0_30 x0_31 x0_32 x0_36 x0_39 x0_40 x0_44 x0_49 x0_51 x0_53 x0_54 x0_55 x0_56 x0_57 x0_58 x0_59 x0_60 x0_61 x0_62 y1 y2 y3z17 y4z17 y5 y6 y7 y8 y9 y10 y11 y12 y13 y14 y15 y16 y17 y18 y19 y20 y21 y22 y23 y24 y25) := hD
          refine lv_goto (tgt := 195) hx hb d_X_doFirst_112 (by decide) ?_
          exact W.vret hx hb hr (fun t ht hW => ⟨⟨(), rfl, trivial, ⟨x0_5, x0_7z15, x0_17z16, x0_18z16, y1, y2, y3z17, y4z17, y8, y9, Rx0_17z16, Rx0_18z16, Ay1, Ay2, Ay3z17, Ay4z17, Ay8, Ay9, by show va_P D classes _ t.heap; rw [ht]; exact hP, hD⟩⟩, hS.F ht⟩) hS.2.2 d_X_doFirst_195
        · by_cases c18 : x0_12 = (4 : Int32)
          · refine lv_tableIn (off := 111) (tgt := 115) hx hb d_X_doFirst_4 (by rw [c18]; decide) (by rw [c18]; decide) (by rw [c18]; rfl) (by decide) ?_
            have gc18 : 4 ≤ x0_12.toInt ∧ x0_12.toInt ≤ 4 := by have q9 : x0_12.toInt = 4 := c_eq c18; omega
            refine lv_aload_n hx hb d_X_doFirst_115 rfl (lv_at hl 0 rfl) ?_
            refine lv_bipush (v := 12) hx hb d_X_doFirst_116 (by decide) ?_
            refine kn_v (va_runV (C := "SignMachineModel") (As := [.int (12 : Int32)]) (rest := []) ⟨hx, hb, hml, hown, hk⟩ (c_X_passes l D cI cJ cZ cB p0 p1 p2 p3 p4 p5 p6 p7 p8 p9 p10 p11 p12 p13 p14 p15 p16 p17 p18 p19 p20 p21 p22 p23 p24 p25 s.heap.size x0_4 x0_5 x0_6 x0_7 x0_8 x0_12 x0_13 x0_14 x0_15 x0_16 x0_17 x0_18 x0_22 x0_23 x0_24 x0_25 x0_26 x0_27 x0_28 x0_29 x0_30 x0_31 x0_32 x0_36 x0_39 x0_40 x0_44 x0_49 x0_51 x0_53 x0_54 x0_55 x0_56 x0_57 x0_58 x0_59 x0_60 x0_61 x0_62 y1 y2 y3 y4 y5 y6 y7 y8 y9 y10 y11 y12 y13 y14 y15 y16 y17 y18 y19 y20 y21 y22 y23 y24 y25 (12 : Int32) ) (v_X_passes hk k_1428 ⟨Nat.le_of_ble_eq_true rfl, Nat.le_of_ble_eq_true rfl⟩) (pM_v hK hP hD (ci := 7) (q0 := 0) rfl rfl rfl) rfl rfl hl.1 rfl (lv_room (Nat.le_of_ble_eq_true rfl)) d_X_doFirst_118 ⟨Nat.le_of_ble_eq_true rfl, Nat.le_of_ble_eq_true rfl⟩) hS hA hD (fun u t H locs ht hB hFr hS => ?_)
            obtain ⟨x0_7z19, hP, hD⟩ := hB
            rw [ht] at hP
            have hD := dwk hD hFr
            clear ht hFr
            have hP : va_P D classes (wS50 cI cJ cZ cB p0 p1 p2 p3 p4 p5 p6 p7 p8 p9 p10 p11 p12 p13 p14 p15 p16 p17 p18 p19 p20 p21 p22 p23 p24 p25 x0_4 x0_5 x0_6 x0_7z19 x0_8 x0_12 x0_13 x0_14 x0_15 x0_16 x0_17 x0_18 x0_22 x0_23 x0_24 x0_25 x0_26 x0_27 x0_28 x0_29 x0_30 x0_31 x0_32 x0_36 x0_39 x0_40 x0_44 x0_49 x0_51 x0_53 x0_54 x0_55 x0_56 x0_57 x0_58 x0_59 x0_60 x0_61 x0_62 y1 y2 y3 y4 y5 y6 y7 y8 y9 y10 y11 y12 y13 y14 y15 y16 y17 y18 y19 y20 y21 y22 y23 y24 y25) H := hP
            have hD : va_D A (wS50 cI cJ cZ cB p0 p1 p2 p3 p4 p5 p6 p7 p8 p9 p10 p11 p12 p13 p14 p15 p16 p17 p18 p19 p20 p21 p22 p23 p24 p25 x0_4 x0_5 x0_6 x0_7z19 x0_8 x0_12 x0_13 x0_14 x0_15 x0_16 x0_17 x0_18 x0_22 x0_23 x0_24 x0_25 x0_26 x0_27 x0_28 x0_29 x0_30 x0_31 x0_32 x0_36 x0_39 x0_40 x0_44 x0_49 x0_51 x0_53 x0_54 x0_55 x0_56 x0_57 x0_58 x0_59 x0_60 x0_61 x0_62 y1 y2 y3 y4 y5 y6 y7 y8 y9 y10 y11 y12 y13 y14 y15 y16 y17 y18 y19 y20 y21 y22 y23 y24 y25) := hD
            refine lv_aload_n hx hb d_X_doFirst_121 rfl (lv_at hl 0 rfl) ?_
            refine kn_v (va_runV (C := "SignMachineModel") (As := []) (rest := []) ⟨hx, hb, hml, hown, hk⟩ (c_X_takeValue l D cI cJ cZ cB p0 p1 p2 p3 p4 p5 p6 p7 p8 p9 p10 p11 p12 p13 p14 p15 p16 p17 p18 p19 p20 p21 p22 p23 p24 p25 H.size x0_4 x0_5 x0_6 x0_7z19 x0_8 x0_12 x0_13 x0_14 x0_15 x0_16 x0_17 x0_18 x0_22 x0_23 x0_24 x0_25 x0_26 x0_27 x0_28 x0_29 x0_30 x0_31 x0_32 x0_36 x0_39 x0_40 x0_44 x0_49 x0_51 x0_53 x0_54 x0_55 x0_56 x0_57 x0_58 x0_59 x0_60 x0_61 x0_62 y1 y2 y3 y4 y5 y6 y7 y8 y9 y10 y11 y12 y13 y14 y15 y16 y17 y18 y19 y20 y21 y22 y23 y24 y25  Rx0_13 Rx0_15 Rx0_17 Rx0_18 Ay1 Ay2 (Q2 (by omega)) (Q1 (by omega))) (v_X_takeValue hk k_1408 ⟨Nat.le_of_ble_eq_true rfl, Nat.le_of_ble_eq_true rfl⟩) (pM_v hK hP hD (ci := 7) (q0 := 0) rfl rfl rfl) rfl rfl hl.1 rfl (lv_room (Nat.le_of_ble_eq_true rfl)) d_X_doFirst_122 ⟨Nat.le_of_ble_eq_true rfl, Nat.le_of_ble_eq_true rfl⟩) hS hA hD (fun u t H locs ht hB hFr hS => ?_)
            obtain ⟨x0_17z20, x0_18z20, Rx0_17z20, Rx0_18z20, F0z20, hP, hD⟩ := hB
            have F0z20 : x0_18z20.toInt = tvf y2 x0_15 x0_13 := F0z20
            rw [ht] at hP
            have hD := dwk hD hFr
            clear ht hFr
            have hP : va_P D classes (wS50 cI cJ cZ cB p0 p1 p2 p3 p4 p5 p6 p7 p8 p9 p10 p11 p12 p13 p14 p15 p16 p17 p18 p19 p20 p21 p22 p23 p24 p25 x0_4 x0_5 x0_6 x0_7z19 x0_8 x0_12 x0_13 x0_14 x0_15 x0_16 x0_17z20 x0_18z20 x0_22 x0_23 x0_24 x0_25 x0_26 x0_27 x0_28 x0_29 x0_30 x0_31 x0_32 x0_36 x0_39 x0_40 x0_44 x0_49 x0_51 x0_53 x0_54 x0_55 x0_56 x0_57 x0_58 x0_59 x0_60 x0_61 x0_62 y1 y2 y3 y4 y5 y6 y7 y8 y9 y10 y11 y12 y13 y14 y15 y16 y17 y18 y19 y20 y21 y22 y23 y24 y25) H := hP
            have hD : va_D A (wS50 cI cJ cZ cB p0 p1 p2 p3 p4 p5 p6 p7 p8 p9 p10 p11 p12 p13 p14 p15 p16 p17 p18 p19 p20 p21 p22 p23 p24 p25 x0_4 x0_5 x0_6 x0_7z19 x0_8 x0_12 x0_13 x0_14 x0_15 x0_16 x0_17z20 x0_18z20 x0_22 x0_23 x0_24 x0_25 x0_26 x0_27 x0_28 x0_29 x0_30 x0_31 x0_32 x0_36 x0_39 x0_40 x0_44 x0_49 x0_51 x0_53 x0_54 x0_55 x0_56 x0_57 x0_58 x0_59 x0_60 x0_61 x0_62 y1 y2 y3 y4 y5 y6 y7 y8 y9 y10 y11 y12 y13 y14 y15 y16 y17 y18 y19 y20 y21 y22 y23 y24 y25) := hD
            refine lv_aload_n hx hb d_X_doFirst_125 rfl (lv_at hl 0 rfl) ?_
            refine kn_v (va_runV (C := "SignMachineModel") (As := []) (rest := []) ⟨hx, hb, hml, hown, hk⟩ (c_X_divide l D cI cJ cZ cB p0 p1 p2 p3 p4 p5 p6 p7 p8 p9 p10 p11 p12 p13 p14 p15 p16 p17 p18 p19 p20 p21 p22 p23 p24 p25 H.size x0_4 x0_5 x0_6 x0_7z19 x0_8 x0_12 x0_13 x0_14 x0_15 x0_16 x0_17z20 x0_18z20 x0_22 x0_23 x0_24 x0_25 x0_26 x0_27 x0_28 x0_29 x0_30 x0_31 x0_32 x0_36 x0_39 x0_40 x0_44 x0_49 x0_51 x0_53 x0_54 x0_55 x0_56 x0_57 x0_58 x0_59 x0_60 x0_61 x0_62 y1 y2 y3 y4 y5 y6 y7 y8 y9 y10 y11 y12 y13 y14 y15 y16 y17 y18 y19 y20 y21 y22 y23 y24 y25  Rx0_17z20 Rx0_18z20 Ay3 Ay4) (v_X_divide hk k_1482 ⟨Nat.le_of_ble_eq_true rfl, Nat.le_of_ble_eq_true rfl⟩) (pM_v hK hP hD (ci := 7) (q0 := 0) rfl rfl rfl) rfl rfl hl.1 rfl (lv_room (Nat.le_of_ble_eq_true rfl)) d_X_doFirst_126 ⟨Nat.le_of_ble_eq_true rfl, Nat.le_of_ble_eq_true rfl⟩) hS hA hD (fun u t H locs ht hB hFr hS => ?_)
            obtain ⟨x0_5z21, y3z21, y4z21, Ay3z21, Ay4z21, hP, hD⟩ := hB
            rw [ht] at hP
            have hD := dwk hD hFr
            clear ht hFr
            have hP : va_P D classes (wS50 cI cJ cZ cB p0 p1 p2 p3 p4 p5 p6 p7 p8 p9 p10 p11 p12 p13 p14 p15 p16 p17 p18 p19 p20 p21 p22 p23 p24 p25 x0_4 x0_5z21 x0_6 x0_7z19 x0_8 x0_12 x0_13 x0_14 x0_15 x0_16 x0_17z20 x0_18z20 x0_22 x0_23 x0_24 x0_25 x0_26 x0_27 x0_28 x0_29 x0_30 x0_31 x0_32 x0_36 x0_39 x0_40 x0_44 x0_49 x0_51 x0_53 x0_54 x0_55 x0_56 x0_57 x0_58 x0_59 x0_60 x0_61 x0_62 y1 y2 y3z21 y4z21 y5 y6 y7 y8 y9 y10 y11 y12 y13 y14 y15 y16 y17 y18 y19 y20 y21 y22 y23 y24 y25) H := hP
            have hD : va_D A (wS50 cI cJ cZ cB p0 p1 p2 p3 p4 p5 p6 p7 p8 p9 p10 p11 p12 p13 p14 p15 p16 p17 p18 p19 p20 p21 p22 p23 p24 p25 x0_4 x0_5z21 x0_6 x0_7z19 x0_8 x0_12 x0_13 x0_14 x0_15 x0_16 x0_17z20 x0_18z20 x0_22 x0_23 x0_24 x0_25 x0_26 x0_27 x0_28 x0_29 x0_30 x0_31 x0_32 x0_36 x0_39 x0_40 x0_44 x0_49 x0_51 x0_53 x0_54 x0_55 x0_56 x0_57 x0_58 x0_59 x0_60 x0_61 x0_62 y1 y2 y3z21 y4z21 y5 y6 y7 y8 y9 y10 y11 y12 y13 y14 y15 y16 y17 y18 y19 y20 y21 y22 y23 y24 y25) := hD
            refine lv_goto (tgt := 195) hx hb d_X_doFirst_129 (by decide) ?_
            exact W.vret hx hb hr (fun t ht hW => ⟨⟨(), rfl, trivial, ⟨x0_5z21, x0_7z19, x0_17z20, x0_18z20, y1, y2, y3z21, y4z21, y8, y9, Rx0_17z20, Rx0_18z20, Ay1, Ay2, Ay3z21, Ay4z21, Ay8, Ay9, by show va_P D classes _ t.heap; rw [ht]; exact hP, hD⟩⟩, hS.F ht⟩) hS.2.2 d_X_doFirst_195
          · by_cases c22 : x0_12 = (5 : Int32)
            · refine lv_tableIn (off := 128) (tgt := 132) hx hb d_X_doFirst_4 (by rw [c22]; decide) (by rw [c22]; decide) (by rw [c22]; rfl) (by decide) ?_
              have gc22 : 5 ≤ x0_12.toInt ∧ x0_12.toInt ≤ 5 := by have q9 : x0_12.toInt = 5 := c_eq c22; omega
              refine lv_aload_n hx hb d_X_doFirst_132 rfl (lv_at hl 0 rfl) ?_
              refine lv_bipush (v := 10) hx hb d_X_doFirst_133 (by decide) ?_
              refine kn_v (va_runV (C := "SignMachineModel") (As := [.int (10 : Int32)]) (rest := []) ⟨hx, hb, hml, hown, hk⟩ (c_X_passes l D cI cJ cZ cB p0 p1 p2 p3 p4 p5 p6 p7 p8 p9 p10 p11 p12 p13 p14 p15 p16 p17 p18 p19 p20 p21 p22 p23 p24 p25 s.heap.size x0_4 x0_5 x0_6 x0_7 x0_8 x0_12 x0_13 x0_14 x0_15 x0_16 x0_17 x0_18 x0_22 x0_23 x0_24 x0_25 x0_26 x0_27 x0_28 x0_29 x0_30 x0_31 x0_32 x0_36 x0_39 x0_40 x0_44 x0_49 x0_51 x0_53 x0_54 x0_55 x0_56 x0_57 x0_58 x0_59 x0_60 x0_61 x0_62 y1 y2 y3 y4 y5 y6 y7 y8 y9 y10 y11 y12 y13 y14 y15 y16 y17 y18 y19 y20 y21 y22 y23 y24 y25 (10 : Int32) ) (v_X_passes hk k_1428 ⟨Nat.le_of_ble_eq_true rfl, Nat.le_of_ble_eq_true rfl⟩) (pM_v hK hP hD (ci := 7) (q0 := 0) rfl rfl rfl) rfl rfl hl.1 rfl (lv_room (Nat.le_of_ble_eq_true rfl)) d_X_doFirst_135 ⟨Nat.le_of_ble_eq_true rfl, Nat.le_of_ble_eq_true rfl⟩) hS hA hD (fun u t H locs ht hB hFr hS => ?_)
              obtain ⟨x0_7z23, hP, hD⟩ := hB
              rw [ht] at hP
              have hD := dwk hD hFr
              clear ht hFr
              have hP : va_P D classes (wS50 cI cJ cZ cB p0 p1 p2 p3 p4 p5 p6 p7 p8 p9 p10 p11 p12 p13 p14 p15 p16 p17 p18 p19 p20 p21 p22 p23 p24 p25 x0_4 x0_5 x0_6 x0_7z23 x0_8 x0_12 x0_13 x0_14 x0_15 x0_16 x0_17 x0_18 x0_22 x0_23 x0_24 x0_25 x0_26 x0_27 x0_28 x0_29 x0_30 x0_31 x0_32 x0_36 x0_39 x0_40 x0_44 x0_49 x0_51 x0_53 x0_54 x0_55 x0_56 x0_57 x0_58 x0_59 x0_60 x0_61 x0_62 y1 y2 y3 y4 y5 y6 y7 y8 y9 y10 y11 y12 y13 y14 y15 y16 y17 y18 y19 y20 y21 y22 y23 y24 y25) H := hP
              have hD : va_D A (wS50 cI cJ cZ cB p0 p1 p2 p3 p4 p5 p6 p7 p8 p9 p10 p11 p12 p13 p14 p15 p16 p17 p18 p19 p20 p21 p22 p23 p24 p25 x0_4 x0_5 x0_6 x0_7z23 x0_8 x0_12 x0_13 x0_14 x0_15 x0_16 x0_17 x0_18 x0_22 x0_23 x0_24 x0_25 x0_26 x0_27 x0_28 x0_29 x0_30 x0_31 x0_32 x0_36 x0_39 x0_40 x0_44 x0_49 x0_51 x0_53 x0_54 x0_55 x0_56 x0_57 x0_58 x0_59 x0_60 x0_61 x0_62 y1 y2 y3 y4 y5 y6 y7 y8 y9 y10 y11 y12 y13 y14 y15 y16 y17 y18 y19 y20 y21 y22 y23 y24 y25) := hD
              refine lv_aload_n hx hb d_X_doFirst_138 rfl (lv_at hl 0 rfl) ?_
              refine va_get (D := D) (ci := 7) (v := .int x0_13) (C := "SignMachineModel") (T := F_X) (N := 64) hx hb hk fi_X hown hK.1 hP 0 rfl rfl 13 (by decide) (hk _ k_1134) (fun _ h9 => h9) rfl d_X_doFirst_139 ?_
              refine lv_if_ne (tgt := 152) hx hb d_X_doFirst_142 (by decide) (fun c24 => ?_) (fun c24 => ?_)
              · have gc24 : x0_13.toInt ≠ (0 : Int) := c_ne c24
                have R25 : 1 ≤ x0_13.toInt ∧ x0_13.toInt ≤ 63 := rf_neX Rx0_13 (show 0 ≤ (0 : Int) ∧ (0 : Int) ≤ 0 from by decide) gc24 (by decide) (by decide)
                refine lv_aload_n hx hb d_X_doFirst_152 rfl (lv_at hl 0 rfl) ?_
                refine va_get (D := D) (ci := 7) (v := .int x0_13) (C := "SignMachineModel") (T := F_X) (N := 64) hx hb hk fi_X hown hK.1 hP 0 rfl rfl 13 (by decide) (hk _ k_1134) (fun _ h9 => h9) rfl d_X_doFirst_153 ?_
                refine lv_iconst (v := 1) hx hb d_X_doFirst_156 (by decide) ?_
                refine lv_icmp_ne (tgt := 195) hx hb d_X_doFirst_157 (by decide) (fun c26 => ?_) (fun c26 => ?_)
                · have gc26 : x0_13.toInt ≠ (1 : Int) := c_ne c26
                  have R27 : 2 ≤ x0_13.toInt ∧ x0_13.toInt ≤ 63 := rf_neX R25 (show 1 ≤ (1 : Int) ∧ (1 : Int) ≤ 1 from by decide) gc26 (by decide) (by decide)
                  exact W.vret hx hb hr (fun t ht hW => ⟨⟨(), rfl, trivial, ⟨x0_5, x0_7z23, x0_17, x0_18, y1, y2, y3, y4, y8, y9, Rx0_17, Rx0_18, Ay1, Ay2, Ay3, Ay4, Ay8, Ay9, by show va_P D classes _ t.heap; rw [ht]; exact hP, hD⟩⟩, hS.F ht⟩) hS.2.2 d_X_doFirst_195
                · have gc26 : x0_13.toInt = (1 : Int) := c_eq c26
                  have R28 : 1 ≤ x0_13.toInt ∧ x0_13.toInt ≤ 1 := rf_eqX R25 (show 1 ≤ (1 : Int) ∧ (1 : Int) ≤ 1 from by decide) gc26 (by decide) (by decide)
                  refine lv_aload_n hx hb d_X_doFirst_160 rfl (lv_at hl 0 rfl) ?_
                  refine kn_v (va_runV (C := "SignMachineModel") (As := []) (rest := []) ⟨hx, hb, hml, hown, hk⟩ (c_X_letters l D cI cJ cZ cB p0 p1 p2 p3 p4 p5 p6 p7 p8 p9 p10 p11 p12 p13 p14 p15 p16 p17 p18 p19 p20 p21 p22 p23 p24 p25 H.size x0_4 x0_5 x0_6 x0_7z23 x0_8 x0_12 x0_13 x0_14 x0_15 x0_16 x0_17 x0_18 x0_22 x0_23 x0_24 x0_25 x0_26 x0_27 x0_28 x0_29 x0_30 x0_31 x0_32 x0_36 x0_39 x0_40 x0_44 x0_49 x0_51 x0_53 x0_54 x0_55 x0_56 x0_57 x0_58 x0_59 x0_60 x0_61 x0_62 y1 y2 y3 y4 y5 y6 y7 y8 y9 y10 y11 y12 y13 y14 y15 y16 y17 y18 y19 y20 y21 y22 y23 y24 y25  Ay4) (v_X_letters hk k_1491 ⟨Nat.le_of_ble_eq_true rfl, Nat.le_of_ble_eq_true rfl⟩) (pM_v hK hP hD (ci := 7) (q0 := 0) rfl rfl rfl) rfl rfl hl.1 rfl (lv_room (Nat.le_of_ble_eq_true rfl)) d_X_doFirst_161 ⟨Nat.le_of_ble_eq_true rfl, Nat.le_of_ble_eq_true rfl⟩) hS hA hD (fun u t H locs ht hB hFr hS => ?_)
                  obtain ⟨y4z29, Ay4z29, hP, hD⟩ := hB
                  rw [ht] at hP
                  have hD := dwk hD hFr
                  clear ht hFr
                  have hP : va_P D classes (wS50 cI cJ cZ cB p0 p1 p2 p3 p4 p5 p6 p7 p8 p9 p10 p11 p12 p13 p14 p15 p16 p17 p18 p19 p20 p21 p22 p23 p24 p25 x0_4 x0_5 x0_6 x0_7z23 x0_8 x0_12 x0_13 x0_14 x0_15 x0_16 x0_17 x0_18 x0_22 x0_23 x0_24 x0_25 x0_26 x0_27 x0_28 x0_29 x0_30 x0_31 x0_32 x0_36 x0_39 x0_40 x0_44 x0_49 x0_51 x0_53 x0_54 x0_55 x0_56 x0_57 x0_58 x0_59 x0_60 x0_61 x0_62 y1 y2 y3 y4z29 y5 y6 y7 y8 y9 y10 y11 y12 y13 y14 y15 y16 y17 y18 y19 y20 y21 y22 y23 y24 y25) H := hP
                  have hD : va_D A (wS50 cI cJ cZ cB p0 p1 p2 p3 p4 p5 p6 p7 p8 p9 p10 p11 p12 p13 p14 p15 p16 p17 p18 p19 p20 p21 p22 p23 p24 p25 x0_4 x0_5 x0_6 x0_7z23 x0_8 x0_12 x0_13 x0_14 x0_15 x0_16 x0_17 x0_18 x0_22 x0_23 x0_24 x0_25 x0_26 x0_27 x0_28 x0_29 x0_30 x0_31 x0_32 x0_36 x0_39 x0_40 x0_44 x0_49 x0_51 x0_53 x0_54 x0_55 x0_56 x0_57 x0_58 x0_59 x0_60 x0_61 x0_62 y1 y2 y3 y4z29 y5 y6 y7 y8 y9 y10 y11 y12 y13 y14 y15 y16 y17 y18 y19 y20 y21 y22 y23 y24 y25) := hD
                  refine lv_goto (tgt := 195) hx hb d_X_doFirst_164 (by decide) ?_
                  exact W.vret hx hb hr (fun t ht hW => ⟨⟨(), rfl, trivial, ⟨x0_5, x0_7z23, x0_17, x0_18, y1, y2, y3, y4z29, y8, y9, Rx0_17, Rx0_18, Ay1, Ay2, Ay3, Ay4z29, Ay8, Ay9, by show va_P D classes _ t.heap; rw [ht]; exact hP, hD⟩⟩, hS.F ht⟩) hS.2.2 d_X_doFirst_195
              · have gc24 : x0_13.toInt = (0 : Int) := c_eq c24
                have R30 : 0 ≤ x0_13.toInt ∧ x0_13.toInt ≤ 0 := rf_eqX Rx0_13 (show 0 ≤ (0 : Int) ∧ (0 : Int) ≤ 0 from by decide) gc24 (by decide) (by decide)
                refine lv_aload_n hx hb d_X_doFirst_145 rfl (lv_at hl 0 rfl) ?_
                refine kn_v (va_runV (C := "SignMachineModel") (As := []) (rest := []) ⟨hx, hb, hml, hown, hk⟩ (c_X_digits l D cI cJ cZ cB p0 p1 p2 p3 p4 p5 p6 p7 p8 p9 p10 p11 p12 p13 p14 p15 p16 p17 p18 p19 p20 p21 p22 p23 p24 p25 H.size x0_4 x0_5 x0_6 x0_7z23 x0_8 x0_12 x0_13 x0_14 x0_15 x0_16 x0_17 x0_18 x0_22 x0_23 x0_24 x0_25 x0_26 x0_27 x0_28 x0_29 x0_30 x0_31 x0_32 x0_36 x0_39 x0_40 x0_44 x0_49 x0_51 x0_53 x0_54 x0_55 x0_56 x0_57 x0_58 x0_59 x0_60 x0_61 x0_62 y1 y2 y3 y4 y5 y6 y7 y8 y9 y10 y11 y12 y13 y14 y15 y16 y17 y18 y19 y20 y21 y22 y23 y24 y25  Ay4) (v_X_digits hk k_1486 ⟨Nat.le_of_ble_eq_true rfl, Nat.le_of_ble_eq_true rfl⟩) (pM_v hK hP hD (ci := 7) (q0 := 0) rfl rfl rfl) rfl rfl hl.1 rfl (lv_room (Nat.le_of_ble_eq_true rfl)) d_X_doFirst_146 ⟨Nat.le_of_ble_eq_true rfl, Nat.le_of_ble_eq_true rfl⟩) hS hA hD (fun u t H locs ht hB hFr hS => ?_)
                obtain ⟨x0_5z31, y4z31, Ay4z31, hP, hD⟩ := hB
                rw [ht] at hP
                have hD := dwk hD hFr
                clear ht hFr
                have hP : va_P D classes (wS50 cI cJ cZ cB p0 p1 p2 p3 p4 p5 p6 p7 p8 p9 p10 p11 p12 p13 p14 p15 p16 p17 p18 p19 p20 p21 p22 p23 p24 p25 x0_4 x0_5z31 x0_6 x0_7z23 x0_8 x0_12 x0_13 x0_14 x0_15 x0_16 x0_17 x0_18 x0_22 x0_23 x0_24 x0_25 x0_26 x0_27 x0_28 x0_29 x0_30 x0_31 x0_32 x0_36 x0_39 x0_40 x0_44 x0_49 x0_51 x0_53 x0_54 x0_55 x0_56 x0_57 x0_58 x0_59 x0_60 x0_61 x0_62 y1 y2 y3 y4z31 y5 y6 y7 y8 y9 y10 y11 y12 y13 y14 y15 y16 y17 y18 y19 y20 y21 y22 y23 y24 y25) H := hP
                have hD : va_D A (wS50 cI cJ cZ cB p0 p1 p2 p3 p4 p5 p6 p7 p8 p9 p10 p11 p12 p13 p14 p15 p16 p17 p18 p19 p20 p21 p22 p23 p24 p25 x0_4 x0_5z31 x0_6 x0_7z23 x0_8 x0_12 x0_13 x0_14 x0_15 x0_16 x0_17 x0_18 x0_22 x0_23 x0_24 x0_25 x0_26 x0_27 x0_28 x0_29 x0_30 x0_31 x0_32 x0_36 x0_39 x0_40 x0_44 x0_49 x0_51 x0_53 x0_54 x0_55 x0_56 x0_57 x0_58 x0_59 x0_60 x0_61 x0_62 y1 y2 y3 y4z31 y5 y6 y7 y8 y9 y10 y11 y12 y13 y14 y15 y16 y17 y18 y19 y20 y21 y22 y23 y24 y25) := hD
                refine lv_goto (tgt := 195) hx hb d_X_doFirst_149 (by decide) ?_
                exact W.vret hx hb hr (fun t ht hW => ⟨⟨(), rfl, trivial, ⟨x0_5z31, x0_7z23, x0_17, x0_18, y1, y2, y3, y4z31, y8, y9, Rx0_17, Rx0_18, Ay1, Ay2, Ay3, Ay4z31, Ay8, Ay9, by show va_P D classes _ t.heap; rw [ht]; exact hP, hD⟩⟩, hS.F ht⟩) hS.2.2 d_X_doFirst_195
            · by_cases c32 : x0_12 = (6 : Int32)
              · refine lv_tableIn (off := 163) (tgt := 167) hx hb d_X_doFirst_4 (by rw [c32]; decide) (by rw [c32]; decide) (by rw [c32]; rfl) (by decide) ?_
                have gc32 : 6 ≤ x0_12.toInt ∧ x0_12.toInt ≤ 6 := by have q9 : x0_12.toInt = 6 := c_eq c32; omega
                refine lv_aload_n hx hb d_X_doFirst_167 rfl (lv_at hl 0 rfl) ?_
                refine lv_iconst (v := 2) hx hb d_X_doFirst_168 (by decide) ?_
                refine kn_v (va_runV (C := "SignMachineModel") (As := [.int (2 : Int32)]) (rest := []) ⟨hx, hb, hml, hown, hk⟩ (c_X_passes l D cI cJ cZ cB p0 p1 p2 p3 p4 p5 p6 p7 p8 p9 p10 p11 p12 p13 p14 p15 p16 p17 p18 p19 p20 p21 p22 p23 p24 p25 s.heap.size x0_4 x0_5 x0_6 x0_7 x0_8 x0_12 x0_13 x0_14 x0_15 x0_16 x0_17 x0_18 x0_22 x0_23 x0_24 x0_25 x0_26 x0_27 x0_28 x0_29 x0_30 x0_31 x0_32 x0_36 x0_39 x0_40 x0_44 x0_49 x0_51 x0_53 x0_54 x0_55 x0_56 x0_57 x0_58 x0_59 x0_60 x0_61 x0_62 y1 y2 y3 y4 y5 y6 y7 y8 y9 y10 y11 y12 y13 y14 y15 y16 y17 y18 y19 y20 y21 y22 y23 y24 y25 (2 : Int32) ) (v_X_passes hk k_1428 ⟨Nat.le_of_ble_eq_true rfl, Nat.le_of_ble_eq_true rfl⟩) (pM_v hK hP hD (ci := 7) (q0 := 0) rfl rfl rfl) rfl rfl hl.1 rfl (lv_room (Nat.le_of_ble_eq_true rfl)) d_X_doFirst_169 ⟨Nat.le_of_ble_eq_true rfl, Nat.le_of_ble_eq_true rfl⟩) hS hA hD (fun u t H locs ht hB hFr hS => ?_)
                obtain ⟨x0_7z33, hP, hD⟩ := hB
                rw [ht] at hP
                have hD := dwk hD hFr
                clear ht hFr
                have hP : va_P D classes (wS50 cI cJ cZ cB p0 p1 p2 p3 p4 p5 p6 p7 p8 p9 p10 p11 p12 p13 p14 p15 p16 p17 p18 p19 p20 p21 p22 p23 p24 p25 x0_4 x0_5 x0_6 x0_7z33 x0_8 x0_12 x0_13 x0_14 x0_15 x0_16 x0_17 x0_18 x0_22 x0_23 x0_24 x0_25 x0_26 x0_27 x0_28 x0_29 x0_30 x0_31 x0_32 x0_36 x0_39 x0_40 x0_44 x0_49 x0_51 x0_53 x0_54 x0_55 x0_56 x0_57 x0_58 x0_59 x0_60 x0_61 x0_62 y1 y2 y3 y4 y5 y6 y7 y8 y9 y10 y11 y12 y13 y14 y15 y16 y17 y18 y19 y20 y21 y22 y23 y24 y25) H := hP
                have hD : va_D A (wS50 cI cJ cZ cB p0 p1 p2 p3 p4 p5 p6 p7 p8 p9 p10 p11 p12 p13 p14 p15 p16 p17 p18 p19 p20 p21 p22 p23 p24 p25 x0_4 x0_5 x0_6 x0_7z33 x0_8 x0_12 x0_13 x0_14 x0_15 x0_16 x0_17 x0_18 x0_22 x0_23 x0_24 x0_25 x0_26 x0_27 x0_28 x0_29 x0_30 x0_31 x0_32 x0_36 x0_39 x0_40 x0_44 x0_49 x0_51 x0_53 x0_54 x0_55 x0_56 x0_57 x0_58 x0_59 x0_60 x0_61 x0_62 y1 y2 y3 y4 y5 y6 y7 y8 y9 y10 y11 y12 y13 y14 y15 y16 y17 y18 y19 y20 y21 y22 y23 y24 y25) := hD
                refine lv_aload_n hx hb d_X_doFirst_172 rfl (lv_at hl 0 rfl) ?_
                refine kn_v (va_runV (C := "SignMachineModel") (As := []) (rest := []) ⟨hx, hb, hml, hown, hk⟩ (c_X_shift l D cI cJ cZ cB p0 p1 p2 p3 p4 p5 p6 p7 p8 p9 p10 p11 p12 p13 p14 p15 p16 p17 p18 p19 p20 p21 p22 p23 p24 p25 H.size x0_4 x0_5 x0_6 x0_7z33 x0_8 x0_12 x0_13 x0_14 x0_15 x0_16 x0_17 x0_18 x0_22 x0_23 x0_24 x0_25 x0_26 x0_27 x0_28 x0_29 x0_30 x0_31 x0_32 x0_36 x0_39 x0_40 x0_44 x0_49 x0_51 x0_53 x0_54 x0_55 x0_56 x0_57 x0_58 x0_59 x0_60 x0_61 x0_62 y1 y2 y3 y4 y5 y6 y7 y8 y9 y10 y11 y12 y13 y14 y15 y16 y17 y18 y19 y20 y21 y22 y23 y24 y25  Rx0_13 Rx0_15 Ay4 Ay8 Ay9) (v_X_shift hk k_1495 ⟨Nat.le_of_ble_eq_true rfl, Nat.le_of_ble_eq_true rfl⟩) (pM_v hK hP hD (ci := 7) (q0 := 0) rfl rfl rfl) rfl rfl hl.1 rfl (lv_room (Nat.le_of_ble_eq_true rfl)) d_X_doFirst_173 ⟨Nat.le_of_ble_eq_true rfl, Nat.le_of_ble_eq_true rfl⟩) hS hA hD (fun u t H locs ht hB hFr hS => ?_)
                obtain ⟨y4z34, y8z34, y9z34, Ay4z34, Ay8z34, Ay9z34, hP, hD⟩ := hB
                rw [ht] at hP
                have hD := dwk hD hFr
                clear ht hFr
                have hP : va_P D classes (wS50 cI cJ cZ cB p0 p1 p2 p3 p4 p5 p6 p7 p8 p9 p10 p11 p12 p13 p14 p15 p16 p17 p18 p19 p20 p21 p22 p23 p24 p25 x0_4 x0_5 x0_6 x0_7z33 x0_8 x0_12 x0_13 x0_14 x0_15 x0_16 x0_17 x0_18 x0_22 x0_23 x0_24 x0_25 x0_26 x0_27 x0_28 x0_29 x0_30 x0_31 x0_32 x0_36 x0_39 x0_40 x0_44 x0_49 x0_51 x0_53 x0_54 x0_55 x0_56 x0_57 x0_58 x0_59 x0_60 x0_61 x0_62 y1 y2 y3 y4z34 y5 y6 y7 y8z34 y9z34 y10 y11 y12 y13 y14 y15 y16 y17 y18 y19 y20 y21 y22 y23 y24 y25) H := hP
                have hD : va_D A (wS50 cI cJ cZ cB p0 p1 p2 p3 p4 p5 p6 p7 p8 p9 p10 p11 p12 p13 p14 p15 p16 p17 p18 p19 p20 p21 p22 p23 p24 p25 x0_4 x0_5 x0_6 x0_7z33 x0_8 x0_12 x0_13 x0_14 x0_15 x0_16 x0_17 x0_18 x0_22 x0_23 x0_24 x0_25 x0_26 x0_27 x0_28 x0_29 x0_30 x0_31 x0_32 x0_36 x0_39 x0_40 x0_44 x0_49 x0_51 x0_53 x0_54 x0_55 x0_56 x0_57 x0_58 x0_59 x0_60 x0_61 x0_62 y1 y2 y3 y4z34 y5 y6 y7 y8z34 y9z34 y10 y11 y12 y13 y14 y15 y16 y17 y18 y19 y20 y21 y22 y23 y24 y25) := hD
                refine lv_goto (tgt := 195) hx hb d_X_doFirst_176 (by decide) ?_
                exact W.vret hx hb hr (fun t ht hW => ⟨⟨(), rfl, trivial, ⟨x0_5, x0_7z33, x0_17, x0_18, y1, y2, y3, y4z34, y8z34, y9z34, Rx0_17, Rx0_18, Ay1, Ay2, Ay3, Ay4z34, Ay8z34, Ay9z34, by show va_P D classes _ t.heap; rw [ht]; exact hP, hD⟩⟩, hS.F ht⟩) hS.2.2 d_X_doFirst_195
              · refine lv_tableOut (tgt := 179) hx hb d_X_doFirst_4 (by have q3 := fr3 x0_12; have e0 := lv_neT c1 (a := 0) rfl; have e1 := lv_neT c3 (a := 1) rfl; have e2 := lv_neT c8 (a := 2) rfl; have e3 := lv_neT c14 (a := 3) rfl; have e4 := lv_neT c18 (a := 4) rfl; have e5 := lv_neT c22 (a := 5) rfl; have e6 := lv_neT c32 (a := 6) rfl; omega) (by decide) ?_
                have gc1 : x0_12.toInt ≠ 0 := c_ne c1
                have gc3 : x0_12.toInt ≠ 1 := c_ne c3
                have gc8 : x0_12.toInt ≠ 2 := c_ne c8
                have gc14 : x0_12.toInt ≠ 3 := c_ne c14
                have gc18 : x0_12.toInt ≠ 4 := c_ne c18
                have gc22 : x0_12.toInt ≠ 5 := c_ne c22
                have gc32 : x0_12.toInt ≠ 6 := c_ne c32
                refine lv_aload_n hx hb d_X_doFirst_179 rfl (lv_at hl 0 rfl) ?_
                refine lv_iconst (v := 1) hx hb d_X_doFirst_180 (by decide) ?_
                refine lv_iconst (v := 2) hx hb d_X_doFirst_181 (by decide) ?_
                refine lv_aload_n hx hb d_X_doFirst_182 rfl (lv_at hl 0 rfl) ?_
                refine va_get (D := D) (ci := 7) (v := .int x0_13) (C := "SignMachineModel") (T := F_X) (N := 64) hx hb hk fi_X hown hK.1 hP 0 rfl rfl 13 (by decide) (hk _ k_1134) (fun _ h9 => h9) rfl d_X_doFirst_183 ?_
                refine lv_imul hx hb d_X_doFirst_186 ?_
                refine lv_topi (fun v35 hv35 => ?_)
                obtain ⟨ev35, Rv35⟩ : v35.toInt = (2 : Int) * x0_13.toInt ∧ (0 ≤ v35.toInt ∧ v35.toInt ≤ 126) := ml3 hv35 (show 2 ≤ (2 : Int32).toInt ∧ (2 : Int32).toInt ≤ 2 from by decide) Rx0_13 (by decide) (by decide) (by decide) (by decide) (by decide) (by decide)
                refine lv_iadd hx hb d_X_doFirst_187 ?_
                refine lv_topi (fun v36 hv36 => ?_)
                obtain ⟨ev36, Rv36⟩ : v36.toInt = (1 : Int) + v35.toInt ∧ (1 ≤ v36.toInt ∧ v36.toInt ≤ 127) := ad3 hv36 (show 1 ≤ (1 : Int32).toInt ∧ (1 : Int32).toInt ≤ 1 from by decide) Rv35 (by decide) (by decide) (by decide) (by decide)
                refine kn_v (va_runV (C := "SignMachineModel") (As := [.int v36]) (rest := []) ⟨hx, hb, hml, hown, hk⟩ (c_X_passes l D cI cJ cZ cB p0 p1 p2 p3 p4 p5 p6 p7 p8 p9 p10 p11 p12 p13 p14 p15 p16 p17 p18 p19 p20 p21 p22 p23 p24 p25 s.heap.size x0_4 x0_5 x0_6 x0_7 x0_8 x0_12 x0_13 x0_14 x0_15 x0_16 x0_17 x0_18 x0_22 x0_23 x0_24 x0_25 x0_26 x0_27 x0_28 x0_29 x0_30 x0_31 x0_32 x0_36 x0_39 x0_40 x0_44 x0_49 x0_51 x0_53 x0_54 x0_55 x0_56 x0_57 x0_58 x0_59 x0_60 x0_61 x0_62 y1 y2 y3 y4 y5 y6 y7 y8 y9 y10 y11 y12 y13 y14 y15 y16 y17 y18 y19 y20 y21 y22 y23 y24 y25 v36 ) (v_X_passes hk k_1428 ⟨Nat.le_of_ble_eq_true rfl, Nat.le_of_ble_eq_true rfl⟩) (pM_v hK hP hD (ci := 7) (q0 := 0) rfl rfl rfl) rfl rfl hl.1 rfl (lv_room (Nat.le_of_ble_eq_true rfl)) d_X_doFirst_188 ⟨Nat.le_of_ble_eq_true rfl, Nat.le_of_ble_eq_true rfl⟩) hS hA hD (fun u t H locs ht hB hFr hS => ?_)
                obtain ⟨x0_7z37, hP, hD⟩ := hB
                rw [ht] at hP
                have hD := dwk hD hFr
                clear ht hFr
                have hP : va_P D classes (wS50 cI cJ cZ cB p0 p1 p2 p3 p4 p5 p6 p7 p8 p9 p10 p11 p12 p13 p14 p15 p16 p17 p18 p19 p20 p21 p22 p23 p24 p25 x0_4 x0_5 x0_6 x0_7z37 x0_8 x0_12 x0_13 x0_14 x0_15 x0_16 x0_17 x0_18 x0_22 x0_23 x0_24 x0_25 x0_26 x0_27 x0_28 x0_29 x0_30 x0_31 x0_32 x0_36 x0_39 x0_40 x0_44 x0_49 x0_51 x0_53 x0_54 x0_55 x0_56 x0_57 x0_58 x0_59 x0_60 x0_61 x0_62 y1 y2 y3 y4 y5 y6 y7 y8 y9 y10 y11 y12 y13 y14 y15 y16 y17 y18 y19 y20 y21 y22 y23 y24 y25) H := hP
                have hD : va_D A (wS50 cI cJ cZ cB p0 p1 p2 p3 p4 p5 p6 p7 p8 p9 p10 p11 p12 p13 p14 p15 p16 p17 p18 p19 p20 p21 p22 p23 p24 p25 x0_4 x0_5 x0_6 x0_7z37 x0_8 x0_12 x0_13 x0_14 x0_15 x0_16 x0_17 x0_18 x0_22 x0_23 x0_24 x0_25 x0_26 x0_27 x0_28 x0_29 x0_30 x0_31 x0_32 x0_36 x0_39 x0_40 x0_44 x0_49 x0_51 x0_53 x0_54 x0_55 x0_56 x0_57 x0_58 x0_59 x0_60 x0_61 x0_62 y1 y2 y3 y4 y5 y6 y7 y8 y9 y10 y11 y12 y13 y14 y15 y16 y17 y18 y19 y20 y21 y22 y23 y24 y25) := hD
                refine lv_aload_n hx hb d_X_doFirst_191 rfl (lv_at hl 0 rfl) ?_
                refine kn_v (va_runV (C := "SignMachineModel") (As := []) (rest := []) ⟨hx, hb, hml, hown, hk⟩ (c_X_moveWords l D cI cJ cZ cB p0 p1 p2 p3 p4 p5 p6 p7 p8 p9 p10 p11 p12 p13 p14 p15 p16 p17 p18 p19 p20 p21 p22 p23 p24 p25 H.size x0_4 x0_5 x0_6 x0_7z37 x0_8 x0_12 x0_13 x0_14 x0_15 x0_16 x0_17 x0_18 x0_22 x0_23 x0_24 x0_25 x0_26 x0_27 x0_28 x0_29 x0_30 x0_31 x0_32 x0_36 x0_39 x0_40 x0_44 x0_49 x0_51 x0_53 x0_54 x0_55 x0_56 x0_57 x0_58 x0_59 x0_60 x0_61 x0_62 y1 y2 y3 y4 y5 y6 y7 y8 y9 y10 y11 y12 y13 y14 y15 y16 y17 y18 y19 y20 y21 y22 y23 y24 y25  Rx0_13 Rx0_15 Ay1 Ay2 Ay3 Ay4 (fun h => Q3 (by omega))) (v_X_moveWords hk k_1499 ⟨Nat.le_of_ble_eq_true rfl, Nat.le_of_ble_eq_true rfl⟩) (pM_v hK hP hD (ci := 7) (q0 := 0) rfl rfl rfl) rfl rfl hl.1 rfl (lv_room (Nat.le_of_ble_eq_true rfl)) d_X_doFirst_192 ⟨Nat.le_of_ble_eq_true rfl, Nat.le_of_ble_eq_true rfl⟩) hS hA hD (fun u t H locs ht hB hFr hS => ?_)
                obtain ⟨y1z38, y2z38, y3z38, y4z38, Ay1z38, Ay2z38, Ay3z38, Ay4z38, hP, hD⟩ := hB
                rw [ht] at hP
                have hD := dwk hD hFr
                clear ht hFr
                have hP : va_P D classes (wS50 cI cJ cZ cB p0 p1 p2 p3 p4 p5 p6 p7 p8 p9 p10 p11 p12 p13 p14 p15 p16 p17 p18 p19 p20 p21 p22 p23 p24 p25 x0_4 x0_5 x0_6 x0_7z37 x0_8 x0_12 x0_13 x0_14 x0_15 x0_16 x0_17 x0_18 x0_22 x0_23 x0_24 x0_25 x0_26 x0_27 x0_28 x0_29 x0_30 x0_31 x0_32 x0_36 x0_39 x0_40 x0_44 x0_49 x0_51 x0_53 x0_54 x0_55 x0_56 x0_57 x0_58 x0_59 x0_60 x0_61 x0_62 y1z38 y2z38 y3z38 y4z38 y5 y6 y7 y8 y9 y10 y11 y12 y13 y14 y15 y16 y17 y18 y19 y20 y21 y22 y23 y24 y25) H := hP
                have hD : va_D A (wS50 cI cJ cZ cB p0 p1 p2 p3 p4 p5 p6 p7 p8 p9 p10 p11 p12 p13 p14 p15 p16 p17 p18 p19 p20 p21 p22 p23 p24 p25 x0_4 x0_5 x0_6 x0_7z37 x0_8 x0_12 x0_13 x0_14 x0_15 x0_16 x0_17 x0_18 x0_22 x0_23 x0_24 x0_25 x0_26 x0_27 x0_28 x0_29 x0_30 x0_31 x0_32 x0_36 x0_39 x0_40 x0_44 x0_49 x0_51 x0_53 x0_54 x0_55 x0_56 x0_57 x0_58 x0_59 x0_60 x0_61 x0_62 y1z38 y2z38 y3z38 y4z38 y5 y6 y7 y8 y9 y10 y11 y12 y13 y14 y15 y16 y17 y18 y19 y20 y21 y22 y23 y24 y25) := hD
                exact W.vret hx hb hr (fun t ht hW => ⟨⟨(), rfl, trivial, ⟨x0_5, x0_7z37, x0_17, x0_18, y1z38, y2z38, y3z38, y4z38, y8, y9, Rx0_17, Rx0_18, Ay1z38, Ay2z38, Ay3z38, Ay4z38, Ay8, Ay9, by show va_P D classes _ t.heap; rw [ht]; exact hP, hD⟩⟩, hS.F ht⟩) hS.2.2 d_X_doFirst_195
theorem v_X_doFirst {R : Room} {s : State} {args : Array Value} {own : String} {index : Nat} (hk : ∀ w ∈ tb, w.before args s = true) (hl : Cond.methodLink own index y_X_doFirst ∈ tb) (hR : 3 + 1 ≤ R.frames ∧ 8 + (1 + 11) + 71 ≤ R.locals) : CallW R s args own "SignMachineModel" index y_X_doFirst b_X_doFirst 1 none (.code y_X_doFirst b_X_doFirst 1 none :: tb) ({ frames := 3, cells := 0, slots := 0, locals := 71 }) 0 0 0 := mk_v 0 hk k_1477 hl k_1476 k_80 k_119 rfl rfl h_X_doFirst hR

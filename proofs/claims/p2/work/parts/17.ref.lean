set_option maxHeartbeats 8000000 in
set_option maxRecDepth 100000 in
theorem c_X_expression (l : Launch) (D : va_G) (cI cJ cZ cB : ClassId) (p0 p1 p2 p3 p4 p5 p6 p7 p8 p9 p10 p11 p12 p13 p14 p15 p16 p17 p18 p19 p20 p21 p22 p23 p24 p25 : Nat) (sz : Nat) (x0_4 : Int32) (x0_5 : Int32) (x0_6 : Int32) (x0_7 : Int32) (x0_8 : Int32) (x0_12 : Int32) (x0_13 : Int32) (x0_14 : Int32) (x0_15 : Int32) (x0_16 : Int32) (x0_17 : Int32) (x0_18 : Int32) (x0_22 : Int32) (x0_23 : Int32) (x0_24 : Int32) (x0_25 : Int32) (x0_26 : Int32) (x0_27 : Int32) (x0_28 : Int32) (x0_29 : Int32) (x0_30 : Int32) (x0_31 : Int32) (x0_32 : Int32) (x0_36 : Int32) (x0_39 : Int32) (x0_40 : Int64) (x0_44 : Int32) (x0_49 : Int32) (x0_51 : Int32) (x0_53 : Int32) (x0_54 : Int32) (x0_55 : Int64) (x0_56 : Int32) (x0_57 : Int32) (x0_58 : Int32) (x0_59 : Int32) (x0_60 : Int32) (x0_61 : Int32) (x0_62 : Int64) (y1 : Nat → Int32) (y2 : Nat → Int32) (y3 : Nat → Int32) (y4 : Nat → Int32) (y5 : Nat → Int32) (y6 : Nat → Int32) (y7 : Nat → Int32) (y8 : Nat → Int32) (y9 : Nat → Int32) (y10 : Nat → Int32) (y11 : Nat → Int64) (y12 : Nat → Int32) (y13 : Nat → Int64) (y14 : Nat → Int32) (y15 : Nat → Int64) (y16 : Nat → Int32) (y17 : Nat → Int32) (y18 : Nat → Int32) (y19 : Nat → Int32) (y20 : Nat → Int32) (y21 : Nat → Int32) (y22 : Nat → Int32) (y23 : Nat → Int32) (y24 : Nat → Int64) (y25 : Nat → Int64)  (Rx0_24 : 0 ≤ x0_24.toInt ∧ x0_24.toInt ≤ 4000) (Rx0_25 : 0 ≤ x0_25.toInt ∧ x0_25.toInt ≤ 4000) (Rx0_26 : 0 ≤ x0_26.toInt ∧ x0_26.toInt ≤ 6) (Rx0_30 : (-1073741823) ≤ x0_30.toInt ∧ x0_30.toInt ≤ 1073741823) (Rx0_36 : 0 ≤ x0_36.toInt ∧ x0_36.toInt ≤ 60) (Rx0_54 : 0 ≤ x0_54.toInt ∧ x0_54.toInt ≤ 3) (Ay13 : ∀ i : Nat, (-1073741823 ≤ (y13 i).toInt ∧ (y13 i).toInt ≤ 1073741823)) (Ay15 : ∀ i : Nat, (-1073741823 ≤ (y15 i).toInt ∧ (y15 i).toInt ≤ 1073741823)) (Q0 : x0_25.toInt ≤ x0_24.toInt) : Met l y_X_expression (.code y_X_expression b_X_expression 4 (some .long) :: tb) ({ frames := 4, cells := 0, slots := 0, locals := 97 }) (pM D cI cJ cZ cB (wS50 cI cJ cZ cB p0 p1 p2 p3 p4 p5 p6 p7 p8 p9 p10 p11 p12 p13 p14 p15 p16 p17 p18 p19 p20 p21 p22 p23 p24 p25 x0_4 x0_5 x0_6 x0_7 x0_8 x0_12 x0_13 x0_14 x0_15 x0_16 x0_17 x0_18 x0_22 x0_23 x0_24 x0_25 x0_26 x0_27 x0_28 x0_29 x0_30 x0_31 x0_32 x0_36 x0_39 x0_40 x0_44 x0_49 x0_51 x0_53 x0_54 x0_55 x0_56 x0_57 x0_58 x0_59 x0_60 x0_61 x0_62 y1 y2 y3 y4 y5 y6 y7 y8 y9 y10 y11 y12 y13 y14 y15 y16 y17 y18 y19 y20 y21 y22 y23 y24 y25) sz [.ref p0]) (va_Ql (fun r (u : Int64) => r = u) (fun ur t => ∃ u_x0_25 : Int32, ∃ u_x0_26 : Int32, ∃ u_x0_54 : Int32, ∃ u_x0_55 : Int64, ∃ u_x0_56 : Int32, (0 ≤ u_x0_25.toInt ∧ u_x0_25.toInt ≤ 4000) ∧ (0 ≤ u_x0_26.toInt ∧ u_x0_26.toInt ≤ 6) ∧ (0 ≤ u_x0_54.toInt ∧ u_x0_54.toInt ≤ 3) ∧ ((-1073741823) ≤ ur.toInt ∧ ur.toInt ≤ 1073741823) ∧ (x0_25.toInt ≤ u_x0_25.toInt ∧ u_x0_25.toInt ≤ x0_24.toInt) ∧ (1 ≤ x0_26.toInt → 1 ≤ u_x0_26.toInt) ∧ va_P D classes (wS50 cI cJ cZ cB p0 p1 p2 p3 p4 p5 p6 p7 p8 p9 p10 p11 p12 p13 p14 p15 p16 p17 p18 p19 p20 p21 p22 p23 p24 p25 x0_4 x0_5 x0_6 x0_7 x0_8 x0_12 x0_13 x0_14 x0_15 x0_16 x0_17 x0_18 x0_22 x0_23 x0_24 u_x0_25 u_x0_26 x0_27 x0_28 x0_29 x0_30 x0_31 x0_32 x0_36 x0_39 x0_40 x0_44 x0_49 x0_51 x0_53 u_x0_54 u_x0_55 u_x0_56 x0_57 x0_58 x0_59 x0_60 x0_61 x0_62 y1 y2 y3 y4 y5 y6 y7 y8 y9 y10 y11 y12 y13 y14 y15 y16 y17 y18 y19 y20 y21 y22 y23 y24 y25) t.heap ∧ va_D (va_A (wS50 cI cJ cZ cB p0 p1 p2 p3 p4 p5 p6 p7 p8 p9 p10 p11 p12 p13 p14 p15 p16 p17 p18 p19 p20 p21 p22 p23 p24 p25 x0_4 x0_5 x0_6 x0_7 x0_8 x0_12 x0_13 x0_14 x0_15 x0_16 x0_17 x0_18 x0_22 x0_23 x0_24 x0_25 x0_26 x0_27 x0_28 x0_29 x0_30 x0_31 x0_32 x0_36 x0_39 x0_40 x0_44 x0_49 x0_51 x0_53 x0_54 x0_55 x0_56 x0_57 x0_58 x0_59 x0_60 x0_61 x0_62 y1 y2 y3 y4 y5 y6 y7 y8 y9 y10 y11 y12 y13 y14 y15 y16 y17 y18 y19 y20 y21 y22 y23 y24 y25) sz) (wS50 cI cJ cZ cB p0 p1 p2 p3 p4 p5 p6 p7 p8 p9 p10 p11 p12 p13 p14 p15 p16 p17 p18 p19 p20 p21 p22 p23 p24 p25 x0_4 x0_5 x0_6 x0_7 x0_8 x0_12 x0_13 x0_14 x0_15 x0_16 x0_17 x0_18 x0_22 x0_23 x0_24 u_x0_25 u_x0_26 x0_27 x0_28 x0_29 x0_30 x0_31 x0_32 x0_36 x0_39 x0_40 x0_44 x0_49 x0_51 x0_53 u_x0_54 u_x0_55 u_x0_56 x0_57 x0_58 x0_59 x0_60 x0_61 x0_62 y1 y2 y3 y4 y5 y6 y7 y8 y9 y10 y11 y12 y13 y14 y15 y16 y17 y18 y19 y20 y21 y22 y23 y24 y25)) (va_A (wS50 cI cJ cZ cB p0 p1 p2 p3 p4 p5 p6 p7 p8 p9 p10 p11 p12 p13 p14 p15 p16 p17 p18 p19 p20 p21 p22 p23 p24 p25 x0_4 x0_5 x0_6 x0_7 x0_8 x0_12 x0_13 x0_14 x0_15 x0_16 x0_17 x0_18 x0_22 x0_23 x0_24 x0_25 x0_26 x0_27 x0_28 x0_29 x0_30 x0_31 x0_32 x0_36 x0_39 x0_40 x0_44 x0_49 x0_51 x0_53 x0_54 x0_55 x0_56 x0_57 x0_58 x0_59 x0_60 x0_61 x0_62 y1 y2 y3 y4 y5 y6 y7 y8 y9 y10 y11 y12 y13 y14 y15 y16 y17 y18 y19 y20 y21 y22 y23 y24 y25) sz)) 0 0 (va_A (wS50 cI cJ cZ cB p0 p1 p2 p3 p4 p5 p6 p7 p8 p9 p10 p11 p12 p13 p14 p15 p16 p17 p18 p19 p20 p21 p22 p23 p24 p25 x0_4 x0_5 x0_6 x0_7 x0_8 x0_12 x0_13 x0_14 x0_15 x0_16 x0_17 x0_18 x0_22 x0_23 x0_24 x0_25 x0_26 x0_27 x0_28 x0_29 x0_30 x0_31 x0_32 x0_36 x0_39 x0_40 x0_44 x0_49 x0_51 x0_53 x0_54 x0_55 x0_56 x0_57 x0_58 x0_59 x0_60 x0_61 x0_62 y1 y2 y3 y4 y5 y6 y7 y8 y9 y10 y11 y12 y13 y14 y15 y16 y17 y18 y19 y20 y21 y22 y23 y24 y25) sz) := by
  refine Met.ofW (cc := b_X_expression) (maxL := 4) (ret := (some .long)) (by decide) rfl ?_
  intro p e s m args below meth c s₁ B hml hv
  obtain ⟨rfl, hsz, hK, hP, hD0⟩ := hv
  subst hsz
  have hD := hD0.self (sz := s.heap.size)
  generalize hAe : va_A (wS50 cI cJ cZ cB p0 p1 p2 p3 p4 p5 p6 p7 p8 p9 p10 p11 p12 p13 p14 p15 p16 p17 p18 p19 p20 p21 p22 p23 p24 p25 x0_4 x0_5 x0_6 x0_7 x0_8 x0_12 x0_13 x0_14 x0_15 x0_16 x0_17 x0_18 x0_22 x0_23 x0_24 x0_25 x0_26 x0_27 x0_28 x0_29 x0_30 x0_31 x0_32 x0_36 x0_39 x0_40 x0_44 x0_49 x0_51 x0_53 x0_54 x0_55 x0_56 x0_57 x0_58 x0_59 x0_60 x0_61 x0_62 y1 y2 y3 y4 y5 y6 y7 y8 y9 y10 y11 y12 y13 y14 y15 y16 y17 y18 y19 y20 y21 y22 y23 y24 y25) s.heap.size = A at hD ⊢
  have hA : ∀ q : Nat, s.heap.size ≤ q → A q := fun q h => by rw [← hAe]; exact Or.inr h
  clear hAe hD0
  have hS : va_S A s.heap s.heap [] := va_S.rf
  have hx := B.exec
  have hb := B.bytes
  have hr := B.returns
  have hts := atoms_spec (ws := .code y_X_expression b_X_expression 4 (some .long) :: tb) B.pre
  have hk : ∀ w ∈ tb, w.before [.ref p0].toArray s = true := fun w h => hts w (List.mem_cons_of_mem _ h)
  have hown : s.vm.findClass "SignMachineModel" = some m.cls := findClass_of_methodNamed B.named
  have hlocks := B.notSynchronized
  have hl := lv_entry ([.ref p0]) (n := 4) (Nat.le_of_ble_eq_true rfl)
  rw [lg_entry_eq]
  generalize (lg_sl ([.ref p0]) ++ List.replicate (4 - (lg_sl ([.ref p0])).length) Slot.unset).toArray = ls at hl ⊢
  have hl : lv_has ls 4 [(0, .ref p0)] := hl
  clear hts B
  refine lv_aload_n hx hb d_X_expression_0 rfl (lv_at hl 0 rfl) ?_
  refine sn_i (va_runV (C := "SignMachineModel") (As := []) (rest := []) ⟨hx, hb, hml, hown, hk⟩ (c_X_here l D cI cJ cZ cB p0 p1 p2 p3 p4 p5 p6 p7 p8 p9 p10 p11 p12 p13 p14 p15 p16 p17 p18 p19 p20 p21 p22 p23 p24 p25 s.heap.size x0_4 x0_5 x0_6 x0_7 x0_8 x0_12 x0_13 x0_14 x0_15 x0_16 x0_17 x0_18 x0_22 x0_23 x0_24 x0_25 x0_26 x0_27 x0_28 x0_29 x0_30 x0_31 x0_32 x0_36 x0_39 x0_40 x0_44 x0_49 x0_51 x0_53 x0_54 x0_55 x0_56 x0_57 x0_58 x0_59 x0_60 x0_61 x0_62 y1 y2 y3 y4 y5 y6 y7 y8 y9 y10 y11 y12 y13 y14 y15 y16 y17 y18 y19 y20 y21 y22 y23 y24 y25  Rx0_24 Rx0_25) (v_X_here hk k_1537 ⟨Nat.le_of_ble_eq_true rfl, Nat.le_of_ble_eq_true rfl⟩) (pM_v hK hP hD (ci := 7) (q0 := 0) rfl rfl rfl) rfl rfl hl.1 rfl (lv_room (Nat.le_of_ble_eq_true rfl)) d_X_expression_1 ⟨Nat.le_of_ble_eq_true rfl, Nat.le_of_ble_eq_true rfl⟩) hS hA hD (fun rz1 u t H locs hr0 ht hB hFr hS => ?_)
  subst hr0
  obtain ⟨F0z1, hP, hD⟩ := hB
  have F0z1 : (x0_25.toInt < x0_24.toInt ∧ rz1.toInt = (y10 (x0_25).toNatClampNeg).toInt) ∨ (x0_24.toInt ≤ x0_25.toInt ∧ rz1.toInt = -1) := F0z1
  rw [ht] at hP
  have hD := dwk hD hFr
  clear ht hFr
  have hP : va_P D classes (wS50 cI cJ cZ cB p0 p1 p2 p3 p4 p5 p6 p7 p8 p9 p10 p11 p12 p13 p14 p15 p16 p17 p18 p19 p20 p21 p22 p23 p24 p25 x0_4 x0_5 x0_6 x0_7 x0_8 x0_12 x0_13 x0_14 x0_15 x0_16 x0_17 x0_18 x0_22 x0_23 x0_24 x0_25 x0_26 x0_27 x0_28 x0_29 x0_30 x0_31 x0_32 x0_36 x0_39 x0_40 x0_44 x0_49 x0_51 x0_53 x0_54 x0_55 x0_56 x0_57 x0_58 x0_59 x0_60 x0_61 x0_62 y1 y2 y3 y4 y5 y6 y7 y8 y9 y10 y11 y12 y13 y14 y15 y16 y17 y18 y19 y20 y21 y22 y23 y24 y25) H := hP
  have hD : va_D A (wS50 cI cJ cZ cB p0 p1 p2 p3 p4 p5 p6 p7 p8 p9 p10 p11 p12 p13 p14 p15 p16 p17 p18 p19 p20 p21 p22 p23 p24 p25 x0_4 x0_5 x0_6 x0_7 x0_8 x0_12 x0_13 x0_14 x0_15 x0_16 x0_17 x0_18 x0_22 x0_23 x0_24 x0_25 x0_26 x0_27 x0_28 x0_29 x0_30 x0_31 x0_32 x0_36 x0_39 x0_40 x0_44 x0_49 x0_51 x0_53 x0_54 x0_55 x0_56 x0_57 x0_58 x0_59 x0_60 x0_61 x0_62 y1 y2 y3 y4 y5 y6 y7 y8 y9 y10 y11 y12 y13 y14 y15 y16 y17 y18 y19 y20 y21 y22 y23 y24 y25) := hD
  refine lv_bipush (v := 45) hx hb d_X_expression_4 (by decide) ?_
  refine lv_icmp_ne (tgt := 13) hx hb d_X_expression_6 (by decide) (fun c2 => ?_) (fun c2 => ?_)
  · have gc2 : rz1.toInt ≠ 45 := c_ne c2
    refine lv_iconst (v := 0) hx hb d_X_expression_13 (by decide) ?_
    refine lv_istore_n (lv' := [(1, .int (0 : Int32)), (0, .ref p0)]) hx hb d_X_expression_14 rfl hl (by decide) rfl (fun ls hl => ?_)
    refine lv_aload_n hx hb d_X_expression_15 rfl (lv_at hl 1 rfl) ?_
    refine sn_i (va_runV (C := "SignMachineModel") (As := []) (rest := []) ⟨hx, hb, hml, hown, hk⟩ (c_X_here l D cI cJ cZ cB p0 p1 p2 p3 p4 p5 p6 p7 p8 p9 p10 p11 p12 p13 p14 p15 p16 p17 p18 p19 p20 p21 p22 p23 p24 p25 H.size x0_4 x0_5 x0_6 x0_7 x0_8 x0_12 x0_13 x0_14 x0_15 x0_16 x0_17 x0_18 x0_22 x0_23 x0_24 x0_25 x0_26 x0_27 x0_28 x0_29 x0_30 x0_31 x0_32 x0_36 x0_39 x0_40 x0_44 x0_49 x0_51 x0_53 x0_54 x0_55 x0_56 x0_57 x0_58 x0_59 x0_60 x0_61 x0_62 y1 y2 y3 y4 y5 y6 y7 y8 y9 y10 y11 y12 y13 y14 y15 y16 y17 y18 y19 y20 y21 y22 y23 y24 y25  Rx0_24 Rx0_25) (v_X_here hk k_1537 ⟨Nat.le_of_ble_eq_true rfl, Nat.le_of_ble_eq_true rfl⟩) (pM_v hK hP hD (ci := 7) (q0 := 0) rfl rfl rfl) rfl rfl hl.1 rfl (lv_room (Nat.le_of_ble_eq_true rfl)) d_X_expression_16 ⟨Nat.le_of_ble_eq_true rfl, Nat.le_of_ble_eq_true rfl⟩) hS hA hD (fun rz3 u t H locs hr0 ht hB hFr hS => ?_)
    subst hr0
    obtain ⟨F0z3, hP, hD⟩ := hB
    have F0z3 : (x0_25.toInt < x0_24.toInt ∧ rz3.toInt = (y10 (x0_25).toNatClampNeg).toInt) ∨ (x0_24.toInt ≤ x0_25.toInt ∧ rz3.toInt = -1) := F0z3
    rw [ht] at hP
    have hD := dwk hD hFr
    clear ht hFr
    have hP : va_P D classes (wS50 cI cJ cZ cB p0 p1 p2 p3 p4 p5 p6 p7 p8 p9 p10 p11 p12 p13 p14 p15 p16 p17 p18 p19 p20 p21 p22 p23 p24 p25 x0_4 x0_5 x0_6 x0_7 x0_8 x0_12 x0_13 x0_14 x0_15 x0_16 x0_17 x0_18 x0_22 x0_23 x0_24 x0_25 x0_26 x0_27 x0_28 x0_29 x0_30 x0_31 x0_32 x0_36 x0_39 x0_40 x0_44 x0_49 x0_51 x0_53 x0_54 x0_55 x0_56 x0_57 x0_58 x0_59 x0_60 x0_61 x0_62 y1 y2 y3 y4 y5 y6 y7 y8 y9 y10 y11 y12 y13 y14 y15 y16 y17 y18 y19 y20 y21 y22 y23 y24 y25) H := hP
    have hD : va_D A (wS50 cI cJ cZ cB p0 p1 p2 p3 p4 p5 p6 p7 p8 p9 p10 p11 p12 p13 p14 p15 p16 p17 p18 p19 p20 p21 p22 p23 p24 p25 x0_4 x0_5 x0_6 x0_7 x0_8 x0_12 x0_13 x0_14 x0_15 x0_16 x0_17 x0_18 x0_22 x0_23 x0_24 x0_25 x0_26 x0_27 x0_28 x0_29 x0_30 x0_31 x0_32 x0_36 x0_39 x0_40 x0_44 x0_49 x0_51 x0_53 x0_54 x0_55 x0_56 x0_57 x0_58 x0_59 x0_60 x0_61 x0_62 y1 y2 y3 y4 y5 y6 y7 y8 y9 y10 y11 y12 y13 y14 y15 y16 y17 y18 y19 y20 y21 y22 y23 y24 y25) := hD
    refine lv_bipush (v := 43) hx hb d_X_expression_19 (by decide) ?_
    refine lv_icmp_eq (tgt := 28) hx hb d_X_expression_21 (by decide) (fun c4 => ?_) (fun c4 => ?_)
    · have gc4 : rz3.toInt = 43 := c_eq c4
      have R5 : 43 ≤ rz3.toInt ∧ rz3.toInt ≤ 43 := by omega
      refine lv_aload_n hx hb d_X_expression_28 rfl (lv_at hl 1 rfl) ?_
      refine lv_dup hx hb d_X_expression_29 rfl ?_
      refine va_get (D := D) (ci := 7) (v := .int x0_25) (C := "SignMachineModel") (T := F_X) (N := 64) hx hb hk fi_X hown hK.1 hP 0 rfl rfl 25 (by decide) (hk _ k_1146) (fun _ h9 => h9) rfl d_X_expression_30 ?_
      refine lv_iconst (v := 1) hx hb d_X_expression_33 (by decide) ?_
      refine lv_iadd hx hb d_X_expression_34 ?_
      refine lv_topi (fun v6 hv6 => ?_)
      obtain ⟨ev6, Rv6⟩ : v6.toInt = x0_25.toInt + 1 ∧ (1 ≤ v6.toInt ∧ v6.toInt ≤ 4001) := ad3 hv6 Rx0_25 (by decide) (by decide) (by decide) (by decide) (by decide)
      refine va_put (D := D) (ci := 7) (v := .int v6) (ty := .int) (C := "SignMachineModel") (T := F_X) (N := 64) hx hb hk fi_X ft_X ft_X_ok fn_X hown hK.1 hP hD hS 0 rfl rfl 25 (by decide) (hk _ k_1146) (fun _ h9 => h9) rfl (by decide +kernel) rfl rfl (Nat.le_of_ble_eq_true rfl) d_X_expression_35 (fun H locs hP hD hS => ?_)
      have hP : va_P D classes (wS50 cI cJ cZ cB p0 p1 p2 p3 p4 p5 p6 p7 p8 p9 p10 p11 p12 p13 p14 p15 p16 p17 p18 p19 p20 p21 p22 p23 p24 p25 x0_4 x0_5 x0_6 x0_7 x0_8 x0_12 x0_13 x0_14 x0_15 x0_16 x0_17 x0_18 x0_22 x0_23 x0_24 v6 x0_26 x0_27 x0_28 x0_29 x0_30 x0_31 x0_32 x0_36 x0_39 x0_40 x0_44 x0_49 x0_51 x0_53 x0_54 x0_55 x0_56 x0_57 x0_58 x0_59 x0_60 x0_61 x0_62 y1 y2 y3 y4 y5 y6 y7 y8 y9 y10 y11 y12 y13 y14 y15 y16 y17 y18 y19 y20 y21 y22 y23 y24 y25) H := hP
      have hD : va_D A (wS50 cI cJ cZ cB p0 p1 p2 p3 p4 p5 p6 p7 p8 p9 p10 p11 p12 p13 p14 p15 p16 p17 p18 p19 p20 p21 p22 p23 p24 p25 x0_4 x0_5 x0_6 x0_7 x0_8 x0_12 x0_13 x0_14 x0_15 x0_16 x0_17 x0_18 x0_22 x0_23 x0_24 v6 x0_26 x0_27 x0_28 x0_29 x0_30 x0_31 x0_32 x0_36 x0_39 x0_40 x0_44 x0_49 x0_51 x0_53 x0_54 x0_55 x0_56 x0_57 x0_58 x0_59 x0_60 x0_61 x0_62 y1 y2 y3 y4 y5 y6 y7 y8 y9 y10 y11 y12 y13 y14 y15 y16 y17 y18 y19 y20 y21 y22 y23 y24 y25) := hD
      refine lv_aload_n hx hb d_X_expression_38 rfl (lv_at hl 1 rfl) ?_
      refine sn_l (va_runV (C := "SignMachineModel") (As := []) (rest := []) ⟨hx, hb, hml, hown, hk⟩ (c_X_atom l D cI cJ cZ cB p0 p1 p2 p3 p4 p5 p6 p7 p8 p9 p10 p11 p12 p13 p14 p15 p16 p17 p18 p19 p20 p21 p22 p23 p24 p25 H.size x0_4 x0_5 x0_6 x0_7 x0_8 x0_12 x0_13 x0_14 x0_15 x0_16 x0_17 x0_18 x0_22 x0_23 x0_24 v6 x0_26 x0_27 x0_28 x0_29 x0_30 x0_31 x0_32 x0_36 x0_39 x0_40 x0_44 x0_49 x0_51 x0_53 x0_54 x0_55 x0_56 x0_57 x0_58 x0_59 x0_60 x0_61 x0_62 y1 y2 y3 y4 y5 y6 y7 y8 y9 y10 y11 y12 y13 y14 y15 y16 y17 y18 y19 y20 y21 y22 y23 y24 y25  Rx0_24 (by omega) Rx0_26 Rx0_30 Rx0_36 Rx0_54 Ay13 Ay15 (show v6.toInt ≤ x0_24.toInt from by omega)) (v_X_atom hk k_1657 ⟨Nat.le_of_ble_eq_true rfl, Nat.le_of_ble_eq_true rfl⟩) (pM_v hK hP hD (ci := 7) (q0 := 0) rfl rfl rfl) rfl rfl hl.1 rfl (lv_room (Nat.le_of_ble_eq_true rfl)) d_X_expression_39 ⟨Nat.le_of_ble_eq_true rfl, Nat.le_of_ble_eq_true rfl⟩) hS hA hD (fun rz7 u t H locs hr0 ht hB hFr hS => ?_)
      subst hr0
      obtain ⟨x0_25z7, x0_26z7, x0_54z7, x0_55z7, x0_56z7, Rx0_25z7, Rx0_26z7, Rx0_54z7, F0z7, F1z7, F2z7, hP, hD⟩ := hB
      have F0z7 : (-1073741823) ≤ rz7.toInt ∧ rz7.toInt ≤ 1073741823 := F0z7
      have F1z7 : v6.toInt ≤ x0_25z7.toInt ∧ x0_25z7.toInt ≤ x0_24.toInt := F1z7
      have F2z7 : 1 ≤ x0_26.toInt → 1 ≤ x0_26z7.toInt := F2z7
      rw [ht] at hP
      have hD := dwk hD hFr
      clear ht hFr
      have hP : va_P D classes (wS50 cI cJ cZ cB p0 p1 p2 p3 p4 p5 p6 p7 p8 p9 p10 p11 p12 p13 p14 p15 p16 p17 p18 p19 p20 p21 p22 p23 p24 p25 x0_4 x0_5 x0_6 x0_7 x0_8 x0_12 x0_13 x0_14 x0_15 x0_16 x0_17 x0_18 x0_22 x0_23 x0_24 x0_25z7 x0_26z7 x0_27 x0_28 x0_29 x0_30 x0_31 x0_32 x0_36 x0_39 x0_40 x0_44 x0_49 x0_51 x0_53 x0_54z7 x0_55z7 x0_56z7 x0_57 x0_58 x0_59 x0_60 x0_61 x0_62 y1 y2 y3 y4 y5 y6 y7 y8 y9 y10 y11 y12 y13 y14 y15 y16 y17 y18 y19 y20 y21 y22 y23 y24 y25) H := hP
      have hD : va_D A (wS50 cI cJ cZ cB p0 p1 p2 p3 p4 p5 p6 p7 p8 p9 p10 p11 p12 p13 p14 p15 p16 p17 p18 p19 p20 p21 p22 p23 p24 p25 x0_4 x0_5 x0_6 x0_7 x0_8 x0_12 x0_13 x0_14 x0_15 x0_16 x0_17 x0_18 x0_22 x0_23 x0_24 x0_25z7 x0_26z7 x0_27 x0_28 x0_29 x0_30 x0_31 x0_32 x0_36 x0_39 x0_40 x0_44 x0_49 x0_51 x0_53 x0_54z7 x0_55z7 x0_56z7 x0_57 x0_58 x0_59 x0_60 x0_61 x0_62 y1 y2 y3 y4 y5 y6 y7 y8 y9 y10 y11 y12 y13 y14 y15 y16 y17 y18 y19 y20 y21 y22 y23 y24 y25) := hD
      refine lv_lstore_n (lv' := [(2, .long rz7), (1, .int (0 : Int32)), (0, .ref p0)]) hx hb d_X_expression_42 rfl hl (by decide) rfl (fun ls hl => ?_)
      refine lv_iload_n hx hb d_X_expression_43 rfl (lv_at hl 1 rfl) ?_
      refine lv_if_eq (tgt := 52) hx hb d_X_expression_44 (by decide) (fun c8 => ?_) (fun c8 => absurd (show (0 : Int32) = (0 : Int32) from (by decide)) c8)
      refine lv_lload_n hx hb d_X_expression_52 rfl (lv_at hl 0 rfl) ?_
      refine lv_lstore_n (lv' := [(2, .long rz7), (1, .int (0 : Int32)), (0, .ref p0)]) hx hb d_X_expression_53 rfl hl (by decide) rfl (fun ls hl => ?_)
      refine lv_aload_n hx hb d_X_expression_54 rfl (lv_at hl 2 rfl) ?_
      refine lv_lload_n hx hb d_X_expression_55 rfl (lv_at hl 0 rfl) ?_
      refine sn_l (va_runV (C := "SignMachineModel") (As := [.long rz7]) (rest := []) ⟨hx, hb, hml, hown, hk⟩ (c_X_behindAtom l D cI cJ cZ cB p0 p1 p2 p3 p4 p5 p6 p7 p8 p9 p10 p11 p12 p13 p14 p15 p16 p17 p18 p19 p20 p21 p22 p23 p24 p25 H.size x0_4 x0_5 x0_6 x0_7 x0_8 x0_12 x0_13 x0_14 x0_15 x0_16 x0_17 x0_18 x0_22 x0_23 x0_24 x0_25z7 x0_26z7 x0_27 x0_28 x0_29 x0_30 x0_31 x0_32 x0_36 x0_39 x0_40 x0_44 x0_49 x0_51 x0_53 x0_54z7 x0_55z7 x0_56z7 x0_57 x0_58 x0_59 x0_60 x0_61 x0_62 y1 y2 y3 y4 y5 y6 y7 y8 y9 y10 y11 y12 y13 y14 y15 y16 y17 y18 y19 y20 y21 y22 y23 y24 y25 rz7 Rx0_24 Rx0_25z7 Rx0_26z7 Rx0_30 Rx0_36 Rx0_54z7 Ay13 Ay15 (show x0_25z7.toInt ≤ x0_24.toInt from by omega) F0z7) (v_X_behindAtom hk k_1666 ⟨Nat.le_of_ble_eq_true rfl, Nat.le_of_ble_eq_true rfl⟩) (pM_v hK hP hD (ci := 7) (q0 := 0) rfl rfl rfl) rfl rfl hl.1 rfl (lv_room (Nat.le_of_ble_eq_true rfl)) d_X_expression_56 ⟨Nat.le_of_ble_eq_true rfl, Nat.le_of_ble_eq_true rfl⟩) hS hA hD (fun rz9 u t H locs hr0 ht hB hFr hS => ?_)
      subst hr0
      obtain ⟨x0_25z9, x0_26z9, x0_54z9, x0_55z9, x0_56z9, Rx0_25z9, Rx0_26z9, Rx0_54z9, F0z9, F1z9, F2z9, hP, hD⟩ := hB
      have F0z9 : (-1073741823) ≤ rz9.toInt ∧ rz9.toInt ≤ 1073741823 := F0z9
      have F1z9 : x0_25z7.toInt ≤ x0_25z9.toInt ∧ x0_25z9.toInt ≤ x0_24.toInt := F1z9
      have F2z9 : 1 ≤ x0_26z7.toInt → 1 ≤ x0_26z9.toInt := F2z9
      rw [ht] at hP
      have hD := dwk hD hFr
      clear ht hFr
      have hP : va_P D classes (wS50 cI cJ cZ cB p0 p1 p2 p3 p4 p5 p6 p7 p8 p9 p10 p11 p12 p13 p14 p15 p16 p17 p18 p19 p20 p21 p22 p23 p24 p25 x0_4 x0_5 x0_6 x0_7 x0_8 x0_12 x0_13 x0_14 x0_15 x0_16 x0_17 x0_18 x0_22 x0_23 x0_24 x0_25z9 x0_26z9 x0_27 x0_28 x0_29 x0_30 x0_31 x0_32 x0_36 x0_39 x0_40 x0_44 x0_49 x0_51 x0_53 x0_54z9 x0_55z9 x0_56z9 x0_57 x0_58 x0_59 x0_60 x0_61 x0_62 y1 y2 y3 y4 y5 y6 y7 y8 y9 y10 y11 y12 y13 y14 y15 y16 y17 y18 y19 y20 y21 y22 y23 y24 y25) H := hP
      have hD : va_D A (wS50 cI cJ cZ cB p0 p1 p2 p3 p4 p5 p6 p7 p8 p9 p10 p11 p12 p13 p14 p15 p16 p17 p18 p19 p20 p21 p22 p23 p24 p25 x0_4 x0_5 x0_6 x0_7 x0_8 x0_12 x0_13 x0_14 x0_15 x0_16 x0_17 x0_18 x0_22 x0_23 x0_24 x0_25z9 x0_26z9 x0_27 x0_28 x0_29 x0_30 x0_31 x0_32 x0_36 x0_39 x0_40 x0_44 x0_49 x0_51 x0_53 x0_54z9 x0_55z9 x0_56z9 x0_57 x0_58 x0_59 x0_60 x0_61 x0_62 y1 y2 y3 y4 y5 y6 y7 y8 y9 y10 y11 y12 y13 y14 y15 y16 y17 y18 y19 y20 y21 y22 y23 y24 y25) := hD
      exact W.lret (v := rz9) hx hb hr (fun t ht hW => ⟨⟨rz9, rz9, rfl, rfl, ⟨x0_25z9, x0_26z9, x0_54z9, x0_55z9, x0_56z9, Rx0_25z9, Rx0_26z9, Rx0_54z9, F0z9, (by omega), (by omega), by show va_P D classes _ t.heap; rw [ht]; exact hP, hD⟩⟩, hS.F ht⟩) hS.2.2 d_X_expression_59
    · have gc4 : rz3.toInt ≠ 43 := c_ne c4
      refine lv_iload_n hx hb d_X_expression_24 rfl (lv_at hl 0 rfl) ?_
      refine lv_if_eq (tgt := 38) hx hb d_X_expression_25 (by decide) (fun c10 => ?_) (fun c10 => absurd (show (0 : Int32) = (0 : Int32) from (by decide)) c10)
      refine lv_aload_n hx hb d_X_expression_38 rfl (lv_at hl 1 rfl) ?_
      refine sn_l (va_runV (C := "SignMachineModel") (As := []) (rest := []) ⟨hx, hb, hml, hown, hk⟩ (c_X_atom l D cI cJ cZ cB p0 p1 p2 p3 p4 p5 p6 p7 p8 p9 p10 p11 p12 p13 p14 p15 p16 p17 p18 p19 p20 p21 p22 p23 p24 p25 H.size x0_4 x0_5 x0_6 x0_7 x0_8 x0_12 x0_13 x0_14 x0_15 x0_16 x0_17 x0_18 x0_22 x0_23 x0_24 x0_25 x0_26 x0_27 x0_28 x0_29 x0_30 x0_31 x0_32 x0_36 x0_39 x0_40 x0_44 x0_49 x0_51 x0_53 x0_54 x0_55 x0_56 x0_57 x0_58 x0_59 x0_60 x0_61 x0_62 y1 y2 y3 y4 y5 y6 y7 y8 y9 y10 y11 y12 y13 y14 y15 y16 y17 y18 y19 y20 y21 y22 y23 y24 y25  Rx0_24 Rx0_25 Rx0_26 Rx0_30 Rx0_36 Rx0_54 Ay13 Ay15 (show x0_25.toInt ≤ x0_24.toInt from by omega)) (v_X_atom hk k_1657 ⟨Nat.le_of_ble_eq_true rfl, Nat.le_of_ble_eq_true rfl⟩) (pM_v hK hP hD (ci := 7) (q0 := 0) rfl rfl rfl) rfl rfl hl.1 rfl (lv_room (Nat.le_of_ble_eq_true rfl)) d_X_expression_39 ⟨Nat.le_of_ble_eq_true rfl, Nat.le_of_ble_eq_true rfl⟩) hS hA hD (fun rz11 u t H locs hr0 ht hB hFr hS => ?_)
      subst hr0
      obtain ⟨x0_25z11, x0_26z11, x0_54z11, x0_55z11, x0_56z11, Rx0_25z11, Rx0_26z11, Rx0_54z11, F0z11, F1z11, F2z11, hP, hD⟩ := hB
      have F0z11 : (-1073741823) ≤ rz11.toInt ∧ rz11.toInt ≤ 1073741823 := F0z11
      have F1z11 : x0_25.toInt ≤ x0_25z11.toInt ∧ x0_25z11.toInt ≤ x0_24.toInt := F1z11
      have F2z11 : 1 ≤ x0_26.toInt → 1 ≤ x0_26z11.toInt := F2z11
      rw [ht] at hP
      have hD := dwk hD hFr
      clear ht hFr
      have hP : va_P D classes (wS50 cI cJ cZ cB p0 p1 p2 p3 p4 p5 p6 p7 p8 p9 p10 p11 p12 p13 p14 p15 p16 p17 p18 p19 p20 p21 p22 p23 p24 p25 x0_4 x0_5 x0_6 x0_7 x0_8 x0_12 x0_13 x0_14 x0_15 x0_16 x0_17 x0_18 x0_22 x0_23 x0_24 x0_25z11 x0_26z11 x0_27 x0_28 x0_29 x0_30 x0_31 x0_32 x0_36 x0_39 x0_40 x0_44 x0_49 x0_51 x0_53 x0_54z11 x0_55z11 x0_56z11 x0_57 x0_58 x0_59 x0_60 x0_61 x0_62 y1 y2 y3 y4 y5 y6 y7 y8 y9 y10 y11 y12 y13 y14 y15 y16 y17 y18 y19 y20 y21 y22 y23 y24 y25) H := hP
      have hD : va_D A (wS50 cI cJ cZ cB p0 p1 p2 p3 p4 p5 p6 p7 p8 p9 p10 p11 p12 p13 p14 p15 p16 p17 p18 p19 p20 p21 p22 p23 p24 p25 x0_4 x0_5 x0_6 x0_7 x0_8 x0_12 x0_13 x0_14 x0_15 x0_16 x0_17 x0_18 x0_22 x0_23 x0_24 x0_25z11 x0_26z11 x0_27 x0_28 x0_29 x0_30 x0_31 x0_32 x0_36 x0_39 x0_40 x0_44 x0_49 x0_51 x0_53 x0_54z11 x0_55z11 x0_56z11 x0_57 x0_58 x0_59 x0_60 x0_61 x0_62 y1 y2 y3 y4 y5 y6 y7 y8 y9 y10 y11 y12 y13 y14 y15 y16 y17 y18 y19 y20 y21 y22 y23 y24 y25) := hD
      refine lv_lstore_n (lv' := [(2, .long rz11), (1, .int (0 : Int32)), (0, .ref p0)]) hx hb d_X_expression_42 rfl hl (by decide) rfl (fun ls hl => ?_)
      refine lv_iload_n hx hb d_X_expression_43 rfl (lv_at hl 1 rfl) ?_
      refine lv_if_eq (tgt := 52) hx hb d_X_expression_44 (by decide) (fun c12 => ?_) (fun c12 => absurd (show (0 : Int32) = (0 : Int32) from (by decide)) c12)
      refine lv_lload_n hx hb d_X_expression_52 rfl (lv_at hl 0 rfl) ?_
      refine lv_lstore_n (lv' := [(2, .long rz11), (1, .int (0 : Int32)), (0, .ref p0)]) hx hb d_X_expression_53 rfl hl (by decide) rfl (fun ls hl => ?_)
      refine lv_aload_n hx hb d_X_expression_54 rfl (lv_at hl 2 rfl) ?_
      refine lv_lload_n hx hb d_X_expression_55 rfl (lv_at hl 0 rfl) ?_
      refine sn_l (va_runV (C := "SignMachineModel") (As := [.long rz11]) (rest := []) ⟨hx, hb, hml, hown, hk⟩ (c_X_behindAtom l D cI cJ cZ cB p0 p1 p2 p3 p4 p5 p6 p7 p8 p9 p10 p11 p12 p13 p14 p15 p16 p17 p18 p19 p20 p21 p22 p23 p24 p25 H.size x0_4 x0_5 x0_6 x0_7 x0_8 x0_12 x0_13 x0_14 x0_15 x0_16 x0_17 x0_18 x0_22 x0_23 x0_24 x0_25z11 x0_26z11 x0_27 x0_28 x0_29 x0_30 x0_31 x0_32 x0_36 x0_39 x0_40 x0_44 x0_49 x0_51 x0_53 x0_54z11 x0_55z11 x0_56z11 x0_57 x0_58 x0_59 x0_60 x0_61 x0_62 y1 y2 y3 y4 y5 y6 y7 y8 y9 y10 y11 y12 y13 y14 y15 y16 y17 y18 y19 y20 y21 y22 y23 y24 y25 rz11 Rx0_24 Rx0_25z11 Rx0_26z11 Rx0_30 Rx0_36 Rx0_54z11 Ay13 Ay15 (show x0_25z11.toInt ≤ x0_24.toInt from by omega) F0z11) (v_X_behindAtom hk k_1666 ⟨Nat.le_of_ble_eq_true rfl, Nat.le_of_ble_eq_true rfl⟩) (pM_v hK hP hD (ci := 7) (q0 := 0) rfl rfl rfl) rfl rfl hl.1 rfl (lv_room (Nat.le_of_ble_eq_true rfl)) d_X_expression_56 ⟨Nat.le_of_ble_eq_true rfl, Nat.le_of_ble_eq_true rfl⟩) hS hA hD (fun rz13 u t H locs hr0 ht hB hFr hS => ?_)
      subst hr0
      obtain ⟨x0_25z13, x0_26z13, x0_54z13, x0_55z13, x0_56z13, Rx0_25z13, Rx0_26z13, Rx0_54z13, F0z13, F1z13, F2z13, hP, hD⟩ := hB
      have F0z13 : (-1073741823) ≤ rz13.toInt ∧ rz13.toInt ≤ 1073741823 := F0z13
      have F1z13 : x0_25z11.toInt ≤ x0_25z13.toInt ∧ x0_25z13.toInt ≤ x0_24.toInt := F1z13
      have F2z13 : 1 ≤ x0_26z11.toInt → 1 ≤ x0_26z13.toInt := F2z13
      rw [ht] at hP
      have hD := dwk hD hFr
      clear ht hFr
      have hP : va_P D classes (wS50 cI cJ cZ cB p0 p1 p2 p3 p4 p5 p6 p7 p8 p9 p10 p11 p12 p13 p14 p15 p16 p17 p18 p19 p20 p21 p22 p23 p24 p25 x0_4 x0_5 x0_6 x0_7 x0_8 x0_12 x0_13 x0_14 x0_15 x0_16 x0_17 x0_18 x0_22 x0_23 x0_24 x0_25z13 x0_26z13 x0_27 x0_28 x0_29 x0_30 x0_31 x0_32 x0_36 x0_39 x0_40 x0_44 x0_49 x0_51 x0_53 x0_54z13 x0_55z13 x0_56z13 x0_57 x0_58 x0_59 x0_60 x0_61 x0_62 y1 y2 y3 y4 y5 y6 y7 y8 y9 y10 y11 y12 y13 y14 y15 y16 y17 y18 y19 y20 y21 y22 y23 y24 y25) H := hP
      have hD : va_D A (wS50 cI cJ cZ cB p0 p1 p2 p3 p4 p5 p6 p7 p8 p9 p10 p11 p12 p13 p14 p15 p16 p17 p18 p19 p20 p21 p22 p23 p24 p25 x0_4 x0_5 x0_6 x0_7 x0_8 x0_12 x0_13 x0_14 x0_15 x0_16 x0_17 x0_18 x0_22 x0_23 x0_24 x0_25z13 x0_26z13 x0_27 x0_28 x0_29 x0_30 x0_31 x0_32 x0_36 x0_39 x0_40 x0_44 x0_49 x0_51 x0_53 x0_54z13 x0_55z13 x0_56z13 x0_57 x0_58 x0_59 x0_60 x0_61 x0_62 y1 y2 y3 y4 y5 y6 y7 y8 y9 y10 y11 y12 y13 y14 y15 y16 y17 y18 y19 y20 y21 y22 y23 y24 y25) := hD
      exact W.lret (v := rz13) hx hb hr (fun t ht hW => ⟨⟨rz13, rz13, rfl, rfl, ⟨x0_25z13, x0_26z13, x0_54z13, x0_55z13, x0_56z13, Rx0_25z13, Rx0_26z13, Rx0_54z13, F0z13, (by omega), (by omega), by show va_P D classes _ t.heap; rw [ht]; exact hP, hD⟩⟩, hS.F ht⟩) hS.2.2 d_X_expression_59
  · have gc2 : rz1.toInt = 45 := c_eq c2
    have R14 : 45 ≤ rz1.toInt ∧ rz1.toInt ≤ 45 := by omega
    refine lv_iconst (v := 1) hx hb d_X_expression_9 (by decide) ?_
    refine lv_goto (tgt := 14) hx hb d_X_expression_10 (by decide) ?_
    refine lv_istore_n (lv' := [(1, .int (1 : Int32)), (0, .ref p0)]) hx hb d_X_expression_14 rfl hl (by decide) rfl (fun ls hl => ?_)
    refine lv_aload_n hx hb d_X_expression_15 rfl (lv_at hl 1 rfl) ?_
    refine sn_i (va_runV (C := "SignMachineModel") (As := []) (rest := []) ⟨hx, hb, hml, hown, hk⟩ (c_X_here l D cI cJ cZ cB p0 p1 p2 p3 p4 p5 p6 p7 p8 p9 p10 p11 p12 p13 p14 p15 p16 p17 p18 p19 p20 p21 p22 p23 p24 p25 H.size x0_4 x0_5 x0_6 x0_7 x0_8 x0_12 x0_13 x0_14 x0_15 x0_16 x0_17 x0_18 x0_22 x0_23 x0_24 x0_25 x0_26 x0_27 x0_28 x0_29 x0_30 x0_31 x0_32 x0_36 x0_39 x0_40 x0_44 x0_49 x0_51 x0_53 x0_54 x0_55 x0_56 x0_57 x0_58 x0_59 x0_60 x0_61 x0_62 y1 y2 y3 y4 y5 y6 y7 y8 y9 y10 y11 y12 y13 y14 y15 y16 y17 y18 y19 y20 y21 y22 y23 y24 y25  Rx0_24 Rx0_25) (v_X_here hk k_1537 ⟨Nat.le_of_ble_eq_true rfl, Nat.le_of_ble_eq_true rfl⟩) (pM_v hK hP hD (ci := 7) (q0 := 0) rfl rfl rfl) rfl rfl hl.1 rfl (lv_room (Nat.le_of_ble_eq_true rfl)) d_X_expression_16 ⟨Nat.le_of_ble_eq_true rfl, Nat.le_of_ble_eq_true rfl⟩) hS hA hD (fun rz15 u t H locs hr0 ht hB hFr hS => ?_)
    subst hr0
    obtain ⟨F0z15, hP, hD⟩ := hB
    have F0z15 : (x0_25.toInt < x0_24.toInt ∧ rz15.toInt = (y10 (x0_25).toNatClampNeg).toInt) ∨ (x0_24.toInt ≤ x0_25.toInt ∧ rz15.toInt = -1) := F0z15
    rw [ht] at hP
    have hD := dwk hD hFr
    clear ht hFr
    have hP : va_P D classes (wS50 cI cJ cZ cB p0 p1 p2 p3 p4 p5 p6 p7 p8 p9 p10 p11 p12 p13 p14 p15 p16 p17 p18 p19 p20 p21 p22 p23 p24 p25 x0_4 x0_5 x0_6 x0_7 x0_8 x0_12 x0_13 x0_14 x0_15 x0_16 x0_17 x0_18 x0_22 x0_23 x0_24 x0_25 x0_26 x0_27 x0_28 x0_29 x0_30 x0_31 x0_32 x0_36 x0_39 x0_40 x0_44 x0_49 x0_51 x0_53 x0_54 x0_55 x0_56 x0_57 x0_58 x0_59 x0_60 x0_61 x0_62 y1 y2 y3 y4 y5 y6 y7 y8 y9 y10 y11 y12 y13 y14 y15 y16 y17 y18 y19 y20 y21 y22 y23 y24 y25) H := hP
    have hD : va_D A (wS50 cI cJ cZ cB p0 p1 p2 p3 p4 p5 p6 p7 p8 p9 p10 p11 p12 p13 p14 p15 p16 p17 p18 p19 p20 p21 p22 p23 p24 p25 x0_4 x0_5 x0_6 x0_7 x0_8 x0_12 x0_13 x0_14 x0_15 x0_16 x0_17 x0_18 x0_22 x0_23 x0_24 x0_25 x0_26 x0_27 x0_28 x0_29 x0_30 x0_31 x0_32 x0_36 x0_39 x0_40 x0_44 x0_49 x0_51 x0_53 x0_54 x0_55 x0_56 x0_57 x0_58 x0_59 x0_60 x0_61 x0_62 y1 y2 y3 y4 y5 y6 y7 y8 y9 y10 y11 y12 y13 y14 y15 y16 y17 y18 y19 y20 y21 y22 y23 y24 y25) := hD
    refine lv_bipush (v := 43) hx hb d_X_expression_19 (by decide) ?_
    refine lv_icmp_eq (tgt := 28) hx hb d_X_expression_21 (by decide) (fun c16 => ?_) (fun c16 => ?_)
    · have gc16 : rz15.toInt = 43 := c_eq c16
      have R17 : 43 ≤ rz15.toInt ∧ rz15.toInt ≤ 43 := by omega
      refine lv_aload_n hx hb d_X_expression_28 rfl (lv_at hl 1 rfl) ?_
      refine lv_dup hx hb d_X_expression_29 rfl ?_
      refine va_get (D := D) (ci := 7) (v := .int x0_25) (C := "SignMachineModel") (T := F_X) (N := 64) hx hb hk fi_X hown hK.1 hP 0 rfl rfl 25 (by decide) (hk _ k_1146) (fun _ h9 => h9) rfl d_X_expression_30 ?_
      refine lv_iconst (v := 1) hx hb d_X_expression_33 (by decide) ?_
      refine lv_iadd hx hb d_X_expression_34 ?_
      refine lv_topi (fun v18 hv18 => ?_)
      obtain ⟨ev18, Rv18⟩ : v18.toInt = x0_25.toInt + 1 ∧ (1 ≤ v18.toInt ∧ v18.toInt ≤ 4001) := ad3 hv18 Rx0_25 (by decide) (by decide) (by decide) (by decide) (by decide)
      refine va_put (D := D) (ci := 7) (v := .int v18) (ty := .int) (C := "SignMachineModel") (T := F_X) (N := 64) hx hb hk fi_X ft_X ft_X_ok fn_X hown hK.1 hP hD hS 0 rfl rfl 25 (by decide) (hk _ k_1146) (fun _ h9 => h9) rfl (by decide +kernel) rfl rfl (Nat.le_of_ble_eq_true rfl) d_X_expression_35 (fun H locs hP hD hS => ?_)
      have hP : va_P D classes (wS50 cI cJ cZ cB p0 p1 p2 p3 p4 p5 p6 p7 p8 p9 p10 p11 p12 p13 p14 p15 p16 p17 p18 p19 p20 p21 p22 p23 p24 p25 x0_4 x0_5 x0_6 x0_7 x0_8 x0_12 x0_13 x0_14 x0_15 x0_16 x0_17 x0_18 x0_22 x0_23 x0_24 v18 x0_26 x0_27 x0_28 x0_29 x0_30 x0_31 x0_32 x0_36 x0_39 x0_40 x0_44 x0_49 x0_51 x0_53 x0_54 x0_55 x0_56 x0_57 x0_58 x0_59 x0_60 x0_61 x0_62 y1 y2 y3 y4 y5 y6 y7 y8 y9 y10 y11 y12 y13 y14 y15 y16 y17 y18 y19 y20 y21 y22 y23 y24 y25) H := hP
      have hD : va_D A (wS50 cI cJ cZ cB p0 p1 p2 p3 p4 p5 p6 p7 p8 p9 p10 p11 p12 p13 p14 p15 p16 p17 p18 p19 p20 p21 p22 p23 p24 p25 x0_4 x0_5 x0_6 x0_7 x0_8 x0_12 x0_13 x0_14 x0_15 x0_16 x0_17 x0_18 x0_22 x0_23 x0_24 v18 x0_26 x0_27 x0_28 x0_29 x0_30 x0_31 x0_32 x0_36 x0_39 x0_40 x0_44 x0_49 x0_51 x0_53 x0_54 x0_55 x0_56 x0_57 x0_58 x0_59 x0_60 x0_61 x0_62 y1 y2 y3 y4 y5 y6 y7 y8 y9 y10 y11 y12 y13 y14 y15 y16 y17 y18 y19 y20 y21 y22 y23 y24 y25) := hD
      refine lv_aload_n hx hb d_X_expression_38 rfl (lv_at hl 1 rfl) ?_
      refine sn_l (va_runV (C := "SignMachineModel") (As := []) (rest := []) ⟨hx, hb, hml, hown, hk⟩ (c_X_atom l D cI cJ cZ cB p0 p1 p2 p3 p4 p5 p6 p7 p8 p9 p10 p11 p12 p13 p14 p15 p16 p17 p18 p19 p20 p21 p22 p23 p24 p25 H.size x0_4 x0_5 x0_6 x0_7 x0_8 x0_12 x0_13 x0_14 x0_15 x0_16 x0_17 x0_18 x0_22 x0_23 x0_24 v18 x0_26 x0_27 x0_28 x0_29 x0_30 x0_31 x0_32 x0_36 x0_39 x0_40 x0_44 x0_49 x0_51 x0_53 x0_54 x0_55 x0_56 x0_57 x0_58 x0_59 x0_60 x0_61 x0_62 y1 y2 y3 y4 y5 y6 y7 y8 y9 y10 y11 y12 y13 y14 y15 y16 y17 y18 y19 y20 y21 y22 y23 y24 y25  Rx0_24 (by omega) Rx0_26 Rx0_30 Rx0_36 Rx0_54 Ay13 Ay15 (show v18.toInt ≤ x0_24.toInt from by omega)) (v_X_atom hk k_1657 ⟨Nat.le_of_ble_eq_true rfl, Nat.le_of_ble_eq_true rfl⟩) (pM_v hK hP hD (ci := 7) (q0 := 0) rfl rfl rfl) rfl rfl hl.1 rfl (lv_room (Nat.le_of_ble_eq_true rfl)) d_X_expression_39 ⟨Nat.le_of_ble_eq_true rfl, Nat.le_of_ble_eq_true rfl⟩) hS hA hD (fun rz19 u t H locs hr0 ht hB hFr hS => ?_)
      subst hr0
      obtain ⟨x0_25z19, x0_26z19, x0_54z19, x0_55z19, x0_56z19, Rx0_25z19, Rx0_26z19, Rx0_54z19, F0z19, F1z19, F2z19, hP, hD⟩ := hB
      have F0z19 : (-1073741823) ≤ rz19.toInt ∧ rz19.toInt ≤ 1073741823 := F0z19
      have F1z19 : v18.toInt ≤ x0_25z19.toInt ∧ x0_25z19.toInt ≤ x0_24.toInt := F1z19
      have F2z19 : 1 ≤ x0_26.toInt → 1 ≤ x0_26z19.toInt := F2z19
      rw [ht] at hP
      have hD := dwk hD hFr
      clear ht hFr
      have hP : va_P D classes (wS50 cI cJ cZ cB p0 p1 p2 p3 p4 p5 p6 p7 p8 p9 p10 p11 p12 p13 p14 p15 p16 p17 p18 p19 p20 p21 p22 p23 p24 p25 x0_4 x0_5 x0_6 x0_7 x0_8 x0_12 x0_13 x0_14 x0_15 x0_16 x0_17 x0_18 x0_22 x0_23 x0_24 x0_25z19 x0_26z19 x0_27 x0_28 x0_29 x0_30 x0_31 x0_32 x0_36 x0_39 x0_40 x0_44 x0_49 x0_51 x0_53 x0_54z19 x0_55z19 x0_56z19 x0_57 x0_58 x0_59 x0_60 x0_61 x0_62 y1 y2 y3 y4 y5 y6 y7 y8 y9 y10 y11 y12 y13 y14 y15 y16 y17 y18 y19 y20 y21 y22 y23 y24 y25) H := hP
      have hD : va_D A (wS50 cI cJ cZ cB p0 p1 p2 p3 p4 p5 p6 p7 p8 p9 p10 p11 p12 p13 p14 p15 p16 p17 p18 p19 p20 p21 p22 p23 p24 p25 x0_4 x0_5 x0_6 x0_7 x0_8 x0_12 x0_13 x0_14 x0_15 x0_16 x0_17 x0_18 x0_22 x0_23 x0_24 x0_25z19 x0_26z19 x0_27 x0_28 x0_29 x0_30 x0_31 x0_32 x0_36 x0_39 x0_40 x0_44 x0_49 x0_51 x0_53 x0_54z19 x0_55z19 x0_56z19 x0_57 x0_58 x0_59 x0_60 x0_61 x0_62 y1 y2 y3 y4 y5 y6 y7 y8 y9 y10 y11 y12 y13 y14 y15 y16 y17 y18 y19 y20 y21 y22 y23 y24 y25) := hD
      refine lv_lstore_n (lv' := [(2, .long rz19), (1, .int (1 : Int32)), (0, .ref p0)]) hx hb d_X_expression_42 rfl hl (by decide) rfl (fun ls hl => ?_)
      refine lv_iload_n hx hb d_X_expression_43 rfl (lv_at hl 1 rfl) ?_
      refine lv_if_eq (tgt := 52) hx hb d_X_expression_44 (by decide) (fun c20 => absurd c20 (show ¬ (1 : Int32) = (0 : Int32) from (by decide))) (fun c20 => ?_)
      refine lv_lload_n hx hb d_X_expression_47 rfl (lv_at hl 0 rfl) ?_
      refine lv_lneg hx hb d_X_expression_48 ?_
      refine lv_topl (fun v21 hv21 => ?_)
      obtain ⟨ev21, Rv21⟩ : v21.toInt = -rz19.toInt ∧ ((-1073741823) ≤ v21.toInt ∧ v21.toInt ≤ 1073741823) := ng6 hv21 F0z19 (by decide) (by decide) (by decide) (by decide)
      refine lv_goto (tgt := 53) hx hb d_X_expression_49 (by decide) ?_
      refine lv_lstore_n (lv' := [(2, .long v21), (1, .int (1 : Int32)), (0, .ref p0)]) hx hb d_X_expression_53 rfl hl (by decide) rfl (fun ls hl => ?_)
      refine lv_aload_n hx hb d_X_expression_54 rfl (lv_at hl 2 rfl) ?_
      refine lv_lload_n hx hb d_X_expression_55 rfl (lv_at hl 0 rfl) ?_
      refine sn_l (va_runV (C := "SignMachineModel") (As := [.long v21]) (rest := []) ⟨hx, hb, hml, hown, hk⟩ (c_X_behindAtom l D cI cJ cZ cB p0 p1 p2 p3 p4 p5 p6 p7 p8 p9 p10 p11 p12 p13 p14 p15 p16 p17 p18 p19 p20 p21 p22 p23 p24 p25 H.size x0_4 x0_5 x0_6 x0_7 x0_8 x0_12 x0_13 x0_14 x0_15 x0_16 x0_17 x0_18 x0_22 x0_23 x0_24 x0_25z19 x0_26z19 x0_27 x0_28 x0_29 x0_30 x0_31 x0_32 x0_36 x0_39 x0_40 x0_44 x0_49 x0_51 x0_53 x0_54z19 x0_55z19 x0_56z19 x0_57 x0_58 x0_59 x0_60 x0_61 x0_62 y1 y2 y3 y4 y5 y6 y7 y8 y9 y10 y11 y12 y13 y14 y15 y16 y17 y18 y19 y20 y21 y22 y23 y24 y25 v21 Rx0_24 Rx0_25z19 Rx0_26z19 Rx0_30 Rx0_36 Rx0_54z19 Ay13 Ay15 (show x0_25z19.toInt ≤ x0_24.toInt from by omega) Rv21) (v_X_behindAtom hk k_1666 ⟨Nat.le_of_ble_eq_true rfl, Nat.le_of_ble_eq_true rfl⟩) (pM_v hK hP hD (ci := 7) (q0 := 0) rfl rfl rfl) rfl rfl hl.1 rfl (lv_room (Nat.le_of_ble_eq_true rfl)) d_X_expression_56 ⟨Nat.le_of_ble_eq_true rfl, Nat.le_of_ble_eq_true rfl⟩) hS hA hD (fun rz22 u t H locs hr0 ht hB hFr hS => ?_)
      subst hr0
      obtain ⟨x0_25z22, x0_26z22, x0_54z22, x0_55z22, x0_56z22, Rx0_25z22, Rx0_26z22, Rx0_54z22, F0z22, F1z22, F2z22, hP, hD⟩ := hB
      have F0z22 : (-1073741823) ≤ rz22.toInt ∧ rz22.toInt ≤ 1073741823 := F0z22
      have F1z22 : x0_25z19.toInt ≤ x0_25z22.toInt ∧ x0_25z22.toInt ≤ x0_24.toInt := F1z22
      have F2z22 : 1 ≤ x0_26z19.toInt → 1 ≤ x0_26z22.toInt := F2z22
      rw [ht] at hP
      have hD := dwk hD hFr
      clear ht hFr
      have hP : va_P D classes (wS50 cI cJ cZ cB p0 p1 p2 p3 p4 p5 p6 p7 p8 p9 p10 p11 p12 p13 p14 p15 p16 p17 p18 p19 p20 p21 p22 p23 p24 p25 x0_4 x0_5 x0_6 x0_7 x0_8 x0_12 x0_13 x0_14 x0_15 x0_16 x0_17 x0_18 x0_22 x0_23 x0_24 x0_25z22 x0_26z22 x0_27 x0_28 x0_29 x0_30 x0_31 x0_32 x0_36 x0_39 x0_40 x0_44 x0_49 x0_51 x0_53 x0_54z22 x0_55z22 x0_56z22 x0_57 x0_58 x0_59 x0_60 x0_61 x0_62 y1 y2 y3 y4 y5 y6 y7 y8 y9 y10 y11 y12 y13 y14 y15 y16 y17 y18 y19 y20 y21 y22 y23 y24 y25) H := hP
      have hD : va_D A (wS50 cI cJ cZ cB p0 p1 p2 p3 p4 p5 p6 p7 p8 p9 p10 p11 p12 p13 p14 p15 p16 p17 p18 p19 p20 p21 p22 p23 p24 p25 x0_4 x0_5 x0_6 x0_7 x0_8 x0_12 x0_13 x0_14 x0_15 x0_16 x0_17 x0_18 x0_22 x0_23 x0_24 x0_25z22 x0_26z22 x0_27 x0_28 x0_29 x0_30 x0_31 x0_32 x0_36 x0_39 x0_40 x0_44 x0_49 x0_51 x0_53 x0_54z22 x0_55z22 x0_56z22 x0_57 x0_58 x0_59 x0_60 x0_61 x0_62 y1 y2 y3 y4 y5 y6 y7 y8 y9 y10 y11 y12 y13 y14 y15 y16 y17 y18 y19 y20 y21 y22 y23 y24 y25) := hD
      exact W.lret (v := rz22) hx hb hr (fun t ht hW => ⟨⟨rz22, rz22, rfl, rfl, ⟨x0_25z22, x0_26z22, x0_54z22, x0_55z22, x0_56z22, Rx0_25z22, Rx0_26z22, Rx0_54z22, F0z22, (by omega), (by omega), by show va_P D classes _ t.heap; rw [ht]; exact hP, hD⟩⟩, hS.F ht⟩) hS.2.2 d_X_expression_59
    · have gc16 : rz15.toInt ≠ 43 := c_ne c16
      refine lv_iload_n hx hb d_X_expression_24 rfl (lv_at hl 0 rfl) ?_
      refine lv_if_eq (tgt := 38) hx hb d_X_expression_25 (by decide) (fun c23 => absurd c23 (show ¬ (1 : Int32) = (0 : Int32) from (by decide))) (fun c23 => ?_)
      refine lv_aload_n hx hb d_X_expression_28 rfl (lv_at hl 1 rfl) ?_
      refine lv_dup hx hb d_X_expression_29 rfl ?_
      refine va_get (D := D) (ci := 7) (v := .int x0_25) (C := "SignMachineModel") (T := F_X) (N := 64) hx hb hk fi_X hown hK.1 hP 0 rfl rfl 25 (by decide) (hk _ k_1146) (fun _ h9 => h9) rfl d_X_expression_30 ?_
      refine lv_iconst (v := 1) hx hb d_X_expression_33 (by decide) ?_
      refine lv_iadd hx hb d_X_expression_34 ?_
      refine lv_topi (fun v24 hv24 => ?_)
      obtain ⟨ev24, Rv24⟩ : v24.toInt = x0_25.toInt + 1 ∧ (1 ≤ v24.toInt ∧ v24.toInt ≤ 4001) := ad3 hv24 Rx0_25 (by decide) (by decide) (by decide) (by decide) (by decide)
      refine va_put (D := D) (ci := 7) (v := .int v24) (ty := .int) (C := "SignMachineModel") (T := F_X) (N := 64) hx hb hk fi_X ft_X ft_X_ok fn_X hown hK.1 hP hD hS 0 rfl rfl 25 (by decide) (hk _ k_1146) (fun _ h9 => h9) rfl (by decide +kernel) rfl rfl (Nat.le_of_ble_eq_true rfl) d_X_expression_35 (fun H locs hP hD hS => ?_)
      have hP : va_P D classes (wS50 cI cJ cZ cB p0 p1 p2 p3 p4 p5 p6 p7 p8 p9 p10 p11 p12 p13 p14 p15 p16 p17 p18 p19 p20 p21 p22 p23 p24 p25 x0_4 x0_5 x0_6 x0_7 x0_8 x0_12 x0_13 x0_14 x0_15 x0_16 x0_17 x0_18 x0_22 x0_23 x0_24 v24 x0_26 x0_27 x0_28 x0_29 x0_30 x0_31 x0_32 x0_36 x0_39 x0_40 x0_44 x0_49 x0_51 x0_53 x0_54 x0_55 x0_56 x0_57 x0_58 x0_59 x0_60 x0_61 x0_62 y1 y2 y3 y4 y5 y6 y7 y8 y9 y10 y11 y12 y13 y14 y15 y16 y17 y18 y19 y20 y21 y22 y23 y24 y25) H := hP
      have hD : va_D A (wS50 cI cJ cZ cB p0 p1 p2 p3 p4 p5 p6 p7 p8 p9 p10 p11 p12 p13 p14 p15 p16 p17 p18 p19 p20 p21 p22 p23 p24 p25 x0_4 x0_5 x0_6 x0_7 x0_8 x0_12 x0_13 x0_14 x0_15 x0_16 x0_17 x0_18 x0_22 x0_23 x0_24 v24 x0_26 x0_27 x0_28 x0_29 x0_30 x0_31 x0_32 x0_36 x0_39 x0_40 x0_44 x0_49 x0_51 x0_53 x0_54 x0_55 x0_56 x0_57 x0_58 x0_59 x0_60 x0_61 x0_62 y1 y2 y3 y4 y5 y6 y7 y8 y9 y10 y11 y12 y13 y14 y15 y16 y17 y18 y19 y20 y21 y22 y23 y24 y25) := hD
      refine lv_aload_n hx hb d_X_expression_38 rfl (lv_at hl 1 rfl) ?_
      refine sn_l (va_runV (C := "SignMachineModel") (As := []) (rest := []) ⟨hx, hb, hml, hown, hk⟩ (c_X_atom l D cI cJ cZ cB p0 p1 p2 p3 p4 p5 p6 p7 p8 p9 p10 p11 p12 p13 p14 p15 p16 p17 p18 p19 p20 p21 p22 p23 p24 p25 H.size x0_4 x0_5 x0_6 x0_7 x0_8 x0_12 x0_13 x0_14 x0_15 x0_16 x0_17 x0_18 x0_22 x0_23 x0_24 v24 x0_26 x0_27 x0_28 x0_29 x0_30 x0_31 x0_32 x0_36 x0_39 x0_40 x0_44 x0_49 x0_51 x0_53 x0_54 x0_55 x0_56 x0_57 x0_58 x0_59 x0_60 x0_61 x0_62 y1 y2 y3 y4 y5 y6 y7 y8 y9 y10 y11 y12 y13 y14 y15 y16 y17 y18 y19 y20 y21 y22 y23 y24 y25  Rx0_24 (by omega) Rx0_26 Rx0_30 Rx0_36 Rx0_54 Ay13 Ay15 (show v24.toInt ≤ x0_24.toInt from by omega)) (v_X_atom hk k_1657 ⟨Nat.le_of_ble_eq_true rfl, Nat.le_of_ble_eq_true rfl⟩) (pM_v hK hP hD (ci := 7) (q0 := 0) rfl rfl rfl) rfl rfl hl.1 rfl (lv_room (Nat.le_of_ble_eq_true rfl)) d_X_expression_39 ⟨Nat.le_of_ble_eq_true rfl, Nat.le_of_ble_eq_true rfl⟩) hS hA hD (fun rz25 u t H locs hr0 ht hB hFr hS => ?_)
      subst hr0
      obtain ⟨x0_25z25, x0_26z25, x0_54z25, x0_55z25, x0_56z25, Rx0_25z25, Rx0_26z25, Rx0_54z25, F0z25, F1z25, F2z25, hP, hD⟩ := hB
      have F0z25 : (-1073741823) ≤ rz25.toInt ∧ rz25.toInt ≤ 1073741823 := F0z25
      have F1z25 : v24.toInt ≤ x0_25z25.toInt ∧ x0_25z25.toInt ≤ x0_24.toInt := F1z25
      have F2z25 : 1 ≤ x0_26.toInt → 1 ≤ x0_26z25.toInt := F2z25
      rw [ht] at hP
      have hD := dwk hD hFr
      clear ht hFr
      have hP : va_P D classes (wS50 cI cJ cZ cB p0 p1 p2 p3 p4 p5 p6 p7 p8 p9 p10 p11 p12 p13 p14 p15 p16 p17 p18 p19 p20 p21 p22 p23 p24 p25 x0_4 x0_5 x0_6 x0_7 x0_8 x0_12 x0_13 x0_14 x0_15 x0_16 x0_17 x0_18 x0_22 x0_23 x0_24 x0_25z25 x0_26z25 x0_27 x0_28 x0_29 x0_30 x0_31 x0_32 x0_36 x0_39 x0_40 x0_44 x0_49 x0_51 x0_53 x0_54z25 x0_55z25 x0_56z25 x0_57 x0_58 x0_59 x0_60 x0_61 x0_62 y1 y2 y3 y4 y5 y6 y7 y8 y9 y10 y11 y12 y13 y14 y15 y16 y17 y18 y19 y20 y21 y22 y23 y24 y25) H := hP
      have hD : va_D A (wS50 cI cJ cZ cB p0 p1 p2 p3 p4 p5 p6 p7 p8 p9 p10 p11 p12 p13 p14 p15 p16 p17 p18 p19 p20 p21 p22 p23 p24 p25 x0_4 x0_5 x0_6 x0_7 x0_8 x0_12 x0_13 x0_14 x0_15 x0_16 x0_17 x0_18 x0_22 x0_23 x0_24 x0_25z25 x0_26z25 x0_27 x0_28 x0_29 x0_30 x0_31 x0_32 x0_36 x0_39 x0_40 x0_44 x0_49 x0_51 x0_53 x0_54z25 x0_55z25 x0_56z25 x0_57 x0_58 x0_59 x0_60 x0_61 x0_62 y1 y2 y3 y4 y5 y6 y7 y8 y9 y10 y11 y12 y13 y14 y15 y16 y17 y18 y19 y20 y21 y22 y23 y24 y25) := hD
      refine lv_lstore_n (lv' := [(2, .long rz25), (1, .int (1 : Int32)), (0, .ref p0)]) hx hb d_X_expression_42 rfl hl (by decide) rfl (fun ls hl => ?_)
      refine lv_iload_n hx hb d_X_expression_43 rfl (lv_at hl 1 rfl) ?_
      refine lv_if_eq (tgt := 52) hx hb d_X_expression_44 (by decide) (fun c26 => absurd c26 (show ¬ (1 : Int32) = (0 : Int32) from (by decide))) (fun c26 => ?_)
      refine lv_lload_n hx hb d_X_expression_47 rfl (lv_at hl 0 rfl) ?_
      refine lv_lneg hx hb d_X_expression_48 ?_
      refine lv_topl (fun v27 hv27 => ?_)
      obtain ⟨ev27, Rv27⟩ : v27.toInt = -rz25.toInt ∧ ((-1073741823) ≤ v27.toInt ∧ v27.toInt ≤ 1073741823) := ng6 hv27 F0z25 (by decide) (by decide) (by decide) (by decide)
      refine lv_goto (tgt := 53) hx hb d_X_expression_49 (by decide) ?_
      refine lv_lstore_n (lv' := [(2, .long v27), (1, .int (1 : Int32)), (0, .ref p0)]) hx hb d_X_expression_53 rfl hl (by decide) rfl (fun ls hl => ?_)
      refine lv_aload_n hx hb d_X_expression_54 rfl (lv_at hl 2 rfl) ?_
      refine lv_lload_n hx hb d_X_expression_55 rfl (lv_at hl 0 rfl) ?_
      refine sn_l (va_runV (C := "SignMachineModel") (As := [.long v27]) (rest := []) ⟨hx, hb, hml, hown, hk⟩ (c_X_behindAtom l D cI cJ cZ cB p0 p1 p2 p3 p4 p5 p6 p7 p8 p9 p10 p11 p12 p13 p14 p15 p16 p17 p18 p19 p20 p21 p22 p23 p24 p25 H.size x0_4 x0_5 x0_6 x0_7 x0_8 x0_12 x0_13 x0_14 x0_15 x0_16 x0_17 x0_18 x0_22 x0_23 x0_24 x0_25z25 x0_26z25 x0_27 x0_28 x0_29 x0_30 x0_31 x0_32 x0_36 x0_39 x0_40 x0_44 x0_49 x0_51 x0_53 x0_54z25 x0_55z25 x0_56z25 x0_57 x0_58 x0_59 x0_60 x0_61 x0_62 y1 y2 y3 y4 y5 y6 y7 y8 y9 y10 y11 y12 y13 y14 y15 y16 y17 y18 y19 y20 y21 y22 y23 y24 y25 v27 Rx0_24 Rx0_25z25 Rx0_26z25 Rx0_30 Rx0_36 Rx0_54z25 Ay13 Ay15 (show x0_25z25.toInt ≤ x0_24.toInt from by omega) Rv27) (v_X_behindAtom hk k_1666 ⟨Nat.le_of_ble_eq_true rfl, Nat.le_of_ble_eq_true rfl⟩) (pM_v hK hP hD (ci := 7) (q0 := 0) rfl rfl rfl) rfl rfl hl.1 rfl (lv_room (Nat.le_of_ble_eq_true rfl)) d_X_expression_56 ⟨Nat.le_of_ble_eq_true rfl, Nat.le_of_ble_eq_true rfl⟩) hS hA hD (fun rz28 u t H locs hr0 ht hB hFr hS => ?_)
      subst hr0
      obtain ⟨x0_25z28, x0_26z28, x0_54z28, x0_55z28, x0_56z28, Rx0_25z28, Rx0_26z28, Rx0_54z28, F0z28, F1z28, F2z28, hP, hD⟩ := hB
      have F0z28 : (-1073741823) ≤ rz28.toInt ∧ rz28.toInt ≤ 1073741823 := F0z28
      have F1z28 : x0_25z25.toInt ≤ x0_25z28.toInt ∧ x0_25z28.toInt ≤ x0_24.toInt := F1z28
      have F2z28 : 1 ≤ x0_26z25.toInt → 1 ≤ x0_26z28.toInt := F2z28
      rw [ht] at hP
      have hD := dwk hD hFr
      clear ht hFr
      have hP : va_P D classes (wS50 cI cJ cZ cB p0 p1 p2 p3 p4 p5 p6 p7 p8 p9 p10 p11 p12 p13 p14 p15 p16 p17 p18 p19 p20 p21 p22 p23 p24 p25 x0_4 x0_5 x0_6 x0_7 x0_8 x0_12 x0_13 x0_14 x0_15 x0_16 x0_17 x0_18 x0_22 x0_23 x0_24 x0_25z28 x0_26z28 x0_27 x0_28 x0_29 x0_30 x0_31 x0_32 x0_36 x0_39 x0_40 x0_44 x0_49 x0_51 x0_53 x0_54z28 x0_55z28 x0_56z28 x0_57 x0_58 x0_59 x0_60 x0_61 x0_62 y1 y2 y3 y4 y5 y6 y7 y8 y9 y10 y11 y12 y13 y14 y15 y16 y17 y18 y19 y20 y21 y22 y23 y24 y25) H := hP
      have hD : va_D A (wS50 cI cJ cZ cB p0 p1 p2 p3 p4 p5 p6 p7 p8 p9 p10 p11 p12 p13 p14 p15 p16 p17 p18 p19 p20 p21 p22 p23 p24 p25 x0_4 x0_5 x0_6 x0_7 x0_8 x0_12 x0_13 x0_14 x0_15 x0_16 x0_17 x0_18 x0_22 x0_23 x0_24 x0_25z28 x0_26z28 x0_27 x0_28 x0_29 x0_30 x0_31 x0_32 x0_36 x0_39 x0_40 x0_44 x0_49 x0_51 x0_53 x0_54z28 x0_55z28 x0_56z28 x0_57 x0_58 x0_59 x0_60 x0_61 x0_62 y1 y2 y3 y4 y5 y6 y7 y8 y9 y10 y11 y12 y13 y14 y15 y16 y17 y18 y19 y20 y21 y22 y23 y24 y25) := hD
      exact W.lret (v := rz28) hx hb hr (fun t ht hW => ⟨⟨rz28, rz28, rfl, rfl, ⟨x0_25z28, x0_26z28, x0_54z28, x0_55z28, x0_56z28, Rx0_25z28, Rx0_26z28, Rx0_54z28, F0z28, (by omega), (by omega), by show va_P D classes _ t.heap; rw [ht]; exact hP, hD⟩⟩, hS.F ht⟩) hS.2.2 d_X_expression_59
theorem v_X_expression {R : Room} {s : State} {args : Array Value} {own : String} {index : Nat} (hk : ∀ w ∈ tb, w.before args s = true) (hl : Cond.methodLink own index y_X_expression ∈ tb) (hR : 4 + 1 ≤ R.frames ∧ 8 + (4 + 11) + 97 ≤ R.locals) : CallW R s args own "SignMachineModel" index y_X_expression b_X_expression 4 (some .long) (.code y_X_expression b_X_expression 4 (some .long) :: tb) ({ frames := 4, cells := 0, slots := 0, locals := 97 }) 0 0 0 := mk_v 0 hk k_1656 hl k_1655 k_103 k_119 rfl rfl h_X_expression hR
set_option maxHeartbeats 8000000 in
set_option maxRecDepth 100000 in
theorem c_X_take1 (l : Launch) (D : va_G) (cI cJ cZ cB : ClassId) (p0 p1 p2 p3 p4 p5 p6 p7 p8 p9 p10 p11 p12 p13 p14 p15 p16 p17 p18 p19 p20 p21 p22 p23 p24 p25 : Nat) (sz : Nat) (x0_4 : Int32) (x0_5 : Int32) (x0_6 : Int32) (x0_7 : Int32) (x0_8 : Int32) (x0_12 : Int32) (x0_13 : Int32) (x0_14 : Int32) (x0_15 : Int32) (x0_16 : Int32) (x0_17 : Int32) (x0_18 : Int32) (x0_22 : Int32) (x0_23 : Int32) (x0_24 : Int32) (x0_25 : Int32) (x0_26 : Int32) (x0_27 : Int32) (x0_28 : Int32) (x0_29 : Int32) (x0_30 : Int32) (x0_31 : Int32) (x0_32 : Int32) (x0_36 : Int32) (x0_39 : Int32) (x0_40 : Int64) (x0_44 : Int32) (x0_49 : Int32) (x0_51 : Int32) (x0_53 : Int32) (x0_54 : Int32) (x0_55 : Int64) (x0_56 : Int32) (x0_57 : Int32) (x0_58 : Int32) (x0_59 : Int32) (x0_60 : Int32) (x0_61 : Int32) (x0_62 : Int64) (y1 : Nat → Int32) (y2 : Nat → Int32) (y3 : Nat → Int32) (y4 : Nat → Int32) (y5 : Nat → Int32) (y6 : Nat → Int32) (y7 : Nat → Int32) (y8 : Nat → Int32) (y9 : Nat → Int32) (y10 : Nat → Int32) (y11 : Nat → Int64) (y12 : Nat → Int32) (y13 : Nat → Int64) (y14 : Nat → Int32) (y15 : Nat → Int64) (y16 : Nat → Int32) (y17 : Nat → Int32) (y18 : Nat → Int32) (y19 : Nat → Int32) (y20 : Nat → Int32) (y21 : Nat → Int32) (y22 : Nat → Int32) (y23 : Nat → Int32) (y24 : Nat → Int64) (y25 : Nat → Int64) (a1 : Int32) (Rx0_24 : 0 ≤ x0_24.toInt ∧ x0_24.toInt ≤ 4000) (Rx0_25 : 0 ≤ x0_25.toInt ∧ x0_25.toInt ≤ 4000) (Rx0_26 : 0 ≤ x0_26.toInt ∧ x0_26.toInt ≤ 6) (Q0 : x0_25.toInt ≤ x0_24.toInt) (Q1 : 0 ≤ a1.toInt ∧ a1.toInt ≤ 255) : Met l y_X_take1 (.code y_X_take1 b_X_take1 2 none :: tb) ({ frames := 1, cells := 0, slots := 0, locals := 21 }) (pM D cI cJ cZ cB (wS50 cI cJ cZ cB p0 p1 p2 p3 p4 p5 p6 p7 p8 p9 p10 p11 p12 p13 p14 p15 p16 p17 p18 p19 p20 p21 p22 p23 p24 p25 x0_4 x0_5 x0_6 x0_7 x0_8 x0_12 x0_13 x0_14 x0_15 x0_16 x0_17 x0_18 x0_22 x0_23 x0_24 x0_25 x0_26 x0_27 x0_28 x0_29 x0_30 x0_31 x0_32 x0_36 x0_39 x0_40 x0_44 x0_49 x0_51 x0_53 x0_54 x0_55 x0_56 x0_57 x0_58 x0_59 x0_60 x0_61 x0_62 y1 y2 y3 y4 y5 y6 y7 y8 y9 y10 y11 y12 y13 y14 y15 y16 y17 y18 y19 y20 y21 y22 y23 y24 y25) sz [.ref p0, .int a1]) (va_Qv (fun (_ : Unit) => True) (fun _ t => ∃ u_x0_25 : Int32, ∃ u_x0_26 : Int32, (0 ≤ u_x0_25.toInt ∧ u_x0_25.toInt ≤ 4000) ∧ (0 ≤ u_x0_26.toInt ∧ u_x0_26.toInt ≤ 6) ∧ (x0_25.toInt ≤ u_x0_25.toInt ∧ u_x0_25.toInt ≤ x0_24.toInt) ∧ (1 ≤ x0_26.toInt → 1 ≤ u_x0_26.toInt) ∧ va_P D classes (wS50 cI cJ cZ cB p0 p1 p2 p3 p4 p5 p6 p7 p8 p9 p10 p11 p12 p13 p14 p15 p16 p17 p18 p19 p20 p21 p22 p23 p24 p25 x0_4 x0_5 x0_6 x0_7 x0_8 x0_12 x0_13 x0_14 x0_15 x0_16 x0_17 x0_18 x0_22 x0_23 x0_24 u_x0_25 u_x0_26 x0_27 x0_28 x0_29 x0_30 x0_31 x0_32 x0_36 x0_39 x0_40 x0_44 x0_49 x0_51 x0_53 x0_54 x0_55 x0_56 x0_57 x0_58 x0_59 x0_60 x0_61 x0_62 y1 y2 y3 y4 y5 y6 y7 y8 y9 y10 y11 y12 y13 y14 y15 y16 y17 y18 y19 y20 y21 y22 y23 y24 y25) t.heap ∧ va_D (va_A (wS50 cI cJ cZ cB p0 p1 p2 p3 p4 p5 p6 p7 p8 p9 p10 p11 p12 p13 p14 p15 p16 p17 p18 p19 p20 p21 p22 p23 p24 p25 x0_4 x0_5 x0_6 x0_7 x0_8 x0_12 x0_13 x0_14 x0_15 x0_16 x0_17 x0_18 x0_22 x0_23 x0_24 x0_25 x0_26 x0_27 x0_28 x0_29 x0_30 x0_31 x0_32 x0_36 x0_39 x0_40 x0_44 x0_49 x0_51 x0_53 x0_54 x0_55 x0_56 x0_57 x0_58 x0_59 x0_60 x0_61 x0_62 y1 y2 y3 y4 y5 y6 y7 y8 y9 y10 y11 y12 y13 y14 y15 y16 y17 y18 y19 y20 y21 y22 y23 y24 y25) sz) (wS50 cI cJ cZ cB p0 p1 p2 p3 p4 p5 p6 p7 p8 p9 p10 p11 p12 p13 p14 p15 p16 p17 p18 p19 p20 p21 p22 p23 p24 p25 x0_4 x0_5 x0_6 x0_7 x0_8 x0_12 x0_13 x0_14 x0_15 x0_16 x0_17 x0_18 x0_22 x0_23 x0_24 u_x0_25 u_x0_26 x0_27 x0_28 x0_29 x0_30 x0_31 x0_32 x0_36 x0_39 x0_40 x0_44 x0_49 x0_51 x0_53 x0_54 x0_55 x0_56 x0_57 x0_58 x0_59 x0_60 x0_61 x0_62 y1 y2 y3 y4 y5 y6 y7 y8 y9 y10 y11 y12 y13 y14 y15 y16 y17 y18 y19 y20 y21 y22 y23 y24 y25)) (va_A (wS50 cI cJ cZ cB p0 p1 p2 p3 p4 p5 p6 p7 p8 p9 p10 p11 p12 p13 p14 p15 p16 p17 p18 p19 p20 p21 p22 p23 p24 p25 x0_4 x0_5 x0_6 x0_7 x0_8 x0_12 x0_13 x0_14 x0_15 x0_16 x0_17 x0_18 x0_22 x0_23 x0_24 x0_25 x0_26 x0_27 x0_28 x0_29 x0_30 x0_31 x0_32 x0_36 x0_39 x0_40 x0_44 x0_49 x0_51 x0_53 x0_54 x0_55 x0_56 x0_57 x0_58 x0_59 x0_60 x0_61 x0_62 y1 y2 y3 y4 y5 y6 y7 y8 y9 y10 y11 y12 y13 y14 y15 y16 y17 y18 y19 y20 y21 y22 y23 y24 y25) sz)) 0 0 (va_A (wS50 cI cJ cZ cB p0 p1 p2 p3 p4 p5 p6 p7 p8 p9 p10 p11 p12 p13 p14 p15 p16 p17 p18 p19 p20 p21 p22 p23 p24 p25 x0_4 x0_5 x0_6 x0_7 x0_8 x0_12 x0_13 x0_14 x0_15 x0_16 x0_17 x0_18 x0_22 x0_23 x0_24 x0_25 x0_26 x0_27 x0_28 x0_29 x0_30 x0_31 x0_32 x0_36 x0_39 x0_40 x0_44 x0_49 x0_51 x0_53 x0_54 x0_55 x0_56 x0_57 x0_58 x0_59 x0_60 x0_61 x0_62 y1 y2 y3 y4 y5 y6 y7 y8 y9 y10 y11 y12 y13 y14 y15 y16 y17 y18 y19 y20 y21 y22 y23 y24 y25) sz) := by
  refine Met.ofW (cc := b_X_take1) (maxL := 2) (ret := none) (by decide) rfl ?_
  intro p e s m args below meth c s₁ B hml hv
  obtain ⟨rfl, hsz, hK, hP, hD0⟩ := hv
  subst hsz
  have hD := hD0.self (sz := s.heap.size)
  generalize hAe : va_A (wS50 cI cJ cZ cB p0 p1 p2 p3 p4 p5 p6 p7 p8 p9 p10 p11 p12 p13 p14 p15 p16 p17 p18 p19 p20 p21 p22 p23 p24 p25 x0_4 x0_5 x0_6 x0_7 x0_8 x0_12 x0_13 x0_14 x0_15 x0_16 x0_17 x0_18 x0_22 x0_23 x0_24 x0_25 x0_26 x0_27 x0_28 x0_29 x0_30 x0_31 x0_32 x0_36 x0_39 x0_40 x0_44 x0_49 x0_51 x0_53 x0_54 x0_55 x0_56 x0_57 x0_58 x0_59 x0_60 x0_61 x0_62 y1 y2 y3 y4 y5 y6 y7 y8 y9 y10 y11 y12 y13 y14 y15 y16 y17 y18 y19 y20 y21 y22 y23 y24 y25) s.heap.size = A at hD ⊢
  have hA : ∀ q : Nat, s.heap.size ≤ q → A q := fun q h => by rw [← hAe]; exact Or.inr h
  clear hAe hD0
  have hS : va_S A s.heap s.heap [] := va_S.rf
  have hx := B.exec
  have hb := B.bytes
  have hr := B.returns
  have hts := atoms_spec (ws := .code y_X_take1 b_X_take1 2 none :: tb) B.pre
  have hk : ∀ w ∈ tb, w.before [.ref p0, .int a1].toArray s = true := fun w h => hts w (List.mem_cons_of_mem _ h)
  have hown : s.vm.findClass "SignMachineModel" = some m.cls := findClass_of_methodNamed B.named
  have hlocks := B.notSynchronized
  have hl := lv_entry ([.ref p0, .int a1]) (n := 2) (Nat.le_of_ble_eq_true rfl)
  rw [lg_entry_eq]
  generalize (lg_sl ([.ref p0, .int a1]) ++ List.replicate (2 - (lg_sl ([.ref p0, .int a1])).length) Slot.unset).toArray = ls at hl ⊢
  have hl : lv_has ls 2 [(0, .ref p0), (1, .int a1)] := hl
  clear hts B
  refine lv_aload_n hx hb d_X_take1_0 rfl (lv_at hl 0 rfl) ?_
  refine sn_i (va_runV (C := "SignMachineModel") (As := []) (rest := []) ⟨hx, hb, hml, hown, hk⟩ (c_X_here l D cI cJ cZ cB p0 p1 p2 p3 p4 p5 p6 p7 p8 p9 p10 p11 p12 p13 p14 p15 p16 p17 p18 p19 p20 p21 p22 p23 p24 p25 s.heap.size x0_4 x0_5 x0_6 x0_7 x0_8 x0_12 x0_13 x0_14 x0_15 x0_16 x0_17 x0_18 x0_22 x0_23 x0_24 x0_25 x0_26 x0_27 x0_28 x0_29 x0_30 x0_31 x0_32 x0_36 x0_39 x0_40 x0_44 x0_49 x0_51 x0_53 x0_54 x0_55 x0_56 x0_57 x0_58 x0_59 x0_60 x0_61 x0_62 y1 y2 y3 y4 y5 y6 y7 y8 y9 y10 y11 y12 y13 y14 y15 y16 y17 y18 y19 y20 y21 y22 y23 y24 y25  Rx0_24 Rx0_25) (v_X_here hk k_1537 ⟨Nat.le_of_ble_eq_true rfl, Nat.le_of_ble_eq_true rfl⟩) (pM_v hK hP hD (ci := 7) (q0 := 0) rfl rfl rfl) rfl rfl hl.1 rfl (lv_room (Nat.le_of_ble_eq_true rfl)) d_X_take1_1 ⟨Nat.le_of_ble_eq_true rfl, Nat.le_of_ble_eq_true rfl⟩) hS hA hD (fun rz1 u t H locs hr0 ht hB hFr hS => ?_)
  subst hr0
  obtain ⟨F0z1, hP, hD⟩ := hB
  have F0z1 : (x0_25.toInt < x0_24.toInt ∧ rz1.toInt = (y10 (x0_25).toNatClampNeg).toInt) ∨ (x0_24.toInt ≤ x0_25.toInt ∧ rz1.toInt = -1) := F0z1
  rw [ht] at hP
  have hD := dwk hD hFr
  clear ht hFr
  have hP : va_P D classes (wS50 cI cJ cZ cB p0 p1 p2 p3 p4 p5 p6 p7 p8 p9 p10 p11 p12 p13 p14 p15 p16 p17 p18 p19 p20 p21 p22 p23 p24 p25 x0_4 x0_5 x0_6 x0_7 x0_8 x0_12 x0_13 x0_14 x0_15 x0_16 x0_17 x0_18 x0_22 x0_23 x0_24 x0_25 x0_26 x0_27 x0_28 x0_29 x0_30 x0_31 x0_32 x0_36 x0_39 x0_40 x0_44 x0_49 x0_51 x0_53 x0_54 x0_55 x0_56 x0_57 x0_58 x0_59 x0_60 x0_61 x0_62 y1 y2 y3 y4 y5 y6 y7 y8 y9 y10 y11 y12 y13 y14 y15 y16 y17 y18 y19 y20 y21 y22 y23 y24 y25) H := hP
  have hD : va_D A (wS50 cI cJ cZ cB p0 p1 p2 p3 p4 p5 p6 p7 p8 p9 p10 p11 p12 p13 p14 p15 p16 p17 p18 p19 p20 p21 p22 p23 p24 p25 x0_4 x0_5 x0_6 x0_7 x0_8 x0_12 x0_13 x0_14 x0_15 x0_16 x0_17 x0_18 x0_22 x0_23 x0_24 x0_25 x0_26 x0_27 x0_28 x0_29 x0_30 x0_31 x0_32 x0_36 x0_39 x0_40 x0_44 x0_49 x0_51 x0_53 x0_54 x0_55 x0_56 x0_57 x0_58 x0_59 x0_60 x0_61 x0_62 y1 y2 y3 y4 y5 y6 y7 y8 y9 y10 y11 y12 y13 y14 y15 y16 y17 y18 y19 y20 y21 y22 y23 y24 y25) := hD
  refine lv_iload_n hx hb d_X_take1_4 rfl (lv_at hl 1 rfl) ?_
  refine lv_icmp_ne (tgt := 21) hx hb d_X_take1_5 (by decide) (fun c2 => ?_) (fun c2 => ?_)
  · have gc2 : rz1.toInt ≠ a1.toInt := c_ne c2
    refine lv_aload_n hx hb d_X_take1_21 rfl (lv_at hl 0 rfl) ?_
    refine lv_iconst (v := 1) hx hb d_X_take1_22 (by decide) ?_
    refine kn_v (va_runV (C := "SignMachineModel") (As := [.int (1 : Int32)]) (rest := []) ⟨hx, hb, hml, hown, hk⟩ (c_X_bad l D cI cJ cZ cB p0 p1 p2 p3 p4 p5 p6 p7 p8 p9 p10 p11 p12 p13 p14 p15 p16 p17 p18 p19 p20 p21 p22 p23 p24 p25 H.size x0_4 x0_5 x0_6 x0_7 x0_8 x0_12 x0_13 x0_14 x0_15 x0_16 x0_17 x0_18 x0_22 x0_23 x0_24 x0_25 x0_26 x0_27 x0_28 x0_29 x0_30 x0_31 x0_32 x0_36 x0_39 x0_40 x0_44 x0_49 x0_51 x0_53 x0_54 x0_55 x0_56 x0_57 x0_58 x0_59 x0_60 x0_61 x0_62 y1 y2 y3 y4 y5 y6 y7 y8 y9 y10 y11 y12 y13 y14 y15 y16 y17 y18 y19 y20 y21 y22 y23 y24 y25 (1 : Int32) Rx0_26 (by decide)) (v_X_bad hk k_1552 ⟨Nat.le_of_ble_eq_true rfl, Nat.le_of_ble_eq_true rfl⟩) (pM_v hK hP hD (ci := 7) (q0 := 0) rfl rfl rfl) rfl rfl hl.1 rfl (lv_room (Nat.le_of_ble_eq_true rfl)) d_X_take1_23 ⟨Nat.le_of_ble_eq_true rfl, Nat.le_of_ble_eq_true rfl⟩) hS hA hD (fun u t H locs ht hB hFr hS => ?_)
    obtain ⟨x0_26z3, Rx0_26z3, F0z3, hP, hD⟩ := hB
    have F0z3 : 1 ≤ x0_26z3.toInt := F0z3
    rw [ht] at hP
    have hD := dwk hD hFr
    clear ht hFr
    have hP : va_P D classes (wS50 cI cJ cZ cB p0 p1 p2 p3 p4 p5 p6 p7 p8 p9 p10 p11 p12 p13 p14 p15 p16 p17 p18 p19 p20 p21 p22 p23 p24 p25 x0_4 x0_5 x0_6 x0_7 x0_8 x0_12 x0_13 x0_14 x0_15 x0_16 x0_17 x0_18 x0_22 x0_23 x0_24 x0_25 x0_26z3 x0_27 x0_28 x0_29 x0_30 x0_31 x0_32 x0_36 x0_39 x0_40 x0_44 x0_49 x0_51 x0_53 x0_54 x0_55 x0_56 x0_57 x0_58 x0_59 x0_60 x0_61 x0_62 y1 y2 y3 y4 y5 y6 y7 y8 y9 y10 y11 y12 y13 y14 y15 y16 y17 y18 y19 y20 y21 y22 y23 y24 y25) H := hP
    have hD : va_D A (wS50 cI cJ cZ cB p0 p1 p2 p3 p4 p5 p6 p7 p8 p9 p10 p11 p12 p13 p14 p15 p16 p17 p18 p19 p20 p21 p22 p23 p24 p25 x0_4 x0_5 x0_6 x0_7 x0_8 x0_12 x0_13 x0_14 x0_15 x0_16 x0_17 x0_18 x0_22 x0_23 x0_24 x0_25 x0_26z3 x0_27 x0_28 x0_29 x0_30 x0_31 x0_32 x0_36 x0_39 x0_40 x0_44 x0_49 x0_51 x0_53 x0_54 x0_55 x0_56 x0_57 x0_58 x0_59 x0_60 x0_61 x0_62 y1 y2 y3 y4 y5 y6 y7 y8 y9 y10 y11 y12 y13 y14 y15 y16 y17 y18 y19 y20 y21 y22 y23 y24 y25) := hD
    exact W.vret hx hb hr (fun t ht hW => ⟨⟨(), rfl, trivial, ⟨x0_25, x0_26z3, Rx0_25, Rx0_26z3, (by omega), (by omega), by show va_P D classes _ t.heap; rw [ht]; exact hP, hD⟩⟩, hS.F ht⟩) hS.2.2 d_X_take1_26
  · have gc2 : rz1.toInt = a1.toInt := c_eq c2
    have R4 : 0 ≤ rz1.toInt ∧ rz1.toInt ≤ 255 := by omega
    refine lv_aload_n hx hb d_X_take1_8 rfl (lv_at hl 0 rfl) ?_
    refine lv_dup hx hb d_X_take1_9 rfl ?_
    refine va_get (D := D) (ci := 7) (v := .int x0_25) (C := "SignMachineModel") (T := F_X) (N := 64) hx hb hk fi_X hown hK.1 hP 0 rfl rfl 25 (by decide) (hk _ k_1146) (fun _ h9 => h9) rfl d_X_take1_10 ?_
    refine lv_iconst (v := 1) hx hb d_X_take1_13 (by decide) ?_
    refine lv_iadd hx hb d_X_take1_14 ?_
    refine lv_topi (fun v5 hv5 => ?_)
    obtain ⟨ev5, Rv5⟩ : v5.toInt = x0_25.toInt + 1 ∧ (1 ≤ v5.toInt ∧ v5.toInt ≤ 4001) := ad3 hv5 Rx0_25 (by decide) (by decide) (by decide) (by decide) (by decide)
    refine va_put (D := D) (ci := 7) (v := .int v5) (ty := .int) (C := "SignMachineModel") (T := F_X) (N := 64) hx hb hk fi_X ft_X ft_X_ok fn_X hown hK.1 hP hD hS 0 rfl rfl 25 (by decide) (hk _ k_1146) (fun _ h9 => h9) rfl (by decide +kernel) rfl rfl (Nat.le_of_ble_eq_true rfl) d_X_take1_15 (fun H locs hP hD hS => ?_)
    have hP : va_P D classes (wS50 cI cJ cZ cB p0 p1 p2 p3 p4 p5 p6 p7 p8 p9 p10 p11 p12 p13 p14 p15 p16 p17 p18 p19 p20 p21 p22 p23 p24 p25 x0_4 x0_5 x0_6 x0_7 x0_8 x0_12 x0_13 x0_14 x0_15 x0_16 x0_17 x0_18 x0_22 x0_23 x0_24 v5 x0_26 x0_27 x0_28 x0_29 x0_30 x0_31 x0_32 x0_36 x0_39 x0_40 x0_44 x0_49 x0_51 x0_53 x0_54 x0_55 x0_56 x0_57 x0_58 x0_59 x0_60 x0_61 x0_62 y1 y2 y3 y4 y5 y6 y7 y8 y9 y10 y11 y12 y13 y14 y15 y16 y17 y18 y19 y20 y21 y22 y23 y24 y25) H := hP
    have hD : va_D A (wS50 cI cJ cZ cB p0 p1 p2 p3 p4 p5 p6 p7 p8 p9 p10 p11 p12 p13 p14 p15 p16 p17 p18 p19 p20 p21 p22 p23 p24 p25 x0_4 x0_5 x0_6 x0_7 x0_8 x0_12 x0_13 x0_14 x0_15 x0_16 x0_17 x0_18 x0_22 x0_23 x0_24 v5 x0_26 x0_27 x0_28 x0_29 x0_30 x0_31 x0_32 x0_36 x0_39 x0_40 x0_44 x0_49 x0_51 x0_53 x0_54 x0_55 x0_56 x0_57 x0_58 x0_59 x0_60 x0_61 x0_62 y1 y2 y3 y4 y5 y6 y7 y8 y9 y10 y11 y12 y13 y14 y15 y16 y17 y18 y19 y20 y21 y22 y23 y24 y25) := hD
    refine lv_goto (tgt := 26) hx hb d_X_take1_18 (by decide) ?_
    exact W.vret hx hb hr (fun t ht hW => ⟨⟨(), rfl, trivial, ⟨v5, x0_26, (by omega), Rx0_26, (by omega), (by omega), by show va_P D classes _ t.heap; rw [ht]; exact hP, hD⟩⟩, hS.F ht⟩) hS.2.2 d_X_take1_26
theorem v_X_take1 {R : Room} {s : State} {args : Array Value} {own : String} {index : Nat} (hk : ∀ w ∈ tb, w.before args s = true) (hl : Cond.methodLink own index y_X_take1 ∈ tb) (hR : 1 + 1 ≤ R.frames ∧ 8 + (2 + 11) + 21 ≤ R.locals) : CallW R s args own "SignMachineModel" index y_X_take1 b_X_take1 2 none (.code y_X_take1 b_X_take1 2 none :: tb) ({ frames := 1, cells := 0, slots := 0, locals := 21 }) 0 0 1 := mk_v 1 hk k_1677 hl k_1676 k_107 k_119 rfl rfl h_X_take1 hR
set_option maxHeartbeats 8000000 in
set_option maxRecDepth 100000 in
theorem c_X_readWord (l : Launch) (D : va_G) (cI cJ cZ cB : ClassId) (p0 p1 p2 p3 p4 p5 p6 p7 p8 p9 p10 p11 p12 p13 p14 p15 p16 p17 p18 p19 p20 p21 p22 p23 p24 p25 : Nat) (sz : Nat) (x0_4 : Int32) (x0_5 : Int32) (x0_6 : Int32) (x0_7 : Int32) (x0_8 : Int32) (x0_12 : Int32) (x0_13 : Int32) (x0_14 : Int32) (x0_15 : Int32) (x0_16 : Int32) (x0_17 : Int32) (x0_18 : Int32) (x0_22 : Int32) (x0_23 : Int32) (x0_24 : Int32) (x0_25 : Int32) (x0_26 : Int32) (x0_27 : Int32) (x0_28 : Int32) (x0_29 : Int32) (x0_30 : Int32) (x0_31 : Int32) (x0_32 : Int32) (x0_36 : Int32) (x0_39 : Int32) (x0_40 : Int64) (x0_44 : Int32) (x0_49 : Int32) (x0_51 : Int32) (x0_53 : Int32) (x0_54 : Int32) (x0_55 : Int64) (x0_56 : Int32) (x0_57 : Int32) (x0_58 : Int32) (x0_59 : Int32) (x0_60 : Int32) (x0_61 : Int32) (x0_62 : Int64) (y1 : Nat → Int32) (y2 : Nat → Int32) (y3 : Nat → Int32) (y4 : Nat → Int32) (y5 : Nat → Int32) (y6 : Nat → Int32) (y7 : Nat → Int32) (y8 : Nat → Int32) (y9 : Nat → Int32) (y10 : Nat → Int32) (y11 : Nat → Int64) (y12 : Nat → Int32) (y13 : Nat → Int64) (y14 : Nat → Int32) (y15 : Nat → Int64) (y16 : Nat → Int32) (y17 : Nat → Int32) (y18 : Nat → Int32) (y19 : Nat → Int32) (y20 : Nat → Int32) (y21 : Nat → Int32) (y22 : Nat → Int32) (y23 : Nat → Int32) (y24 : Nat → Int64) (y25 : Nat → Int64)  (Rx0_24 : 0 ≤ x0_24.toInt ∧ x0_24.toInt ≤ 4000) (Rx0_25 : 0 ≤ x0_25.toInt ∧ x0_25.toInt ≤ 4000) (Rx0_26 : 0 ≤ x0_26.toInt ∧ x0_26.toInt ≤ 6) (Rx0_30 : (-1073741823) ≤ x0_30.toInt ∧ x0_30.toInt ≤ 1073741823) (Rx0_36 : 0 ≤ x0_36.toInt ∧ x0_36.toInt ≤ 60) (Rx0_54 : 0 ≤ x0_54.toInt ∧ x0_54.toInt ≤ 3) (Rx0_57 : 0 ≤ x0_57.toInt ∧ x0_57.toInt ≤ 1) (Rx0_58 : 0 ≤ x0_58.toInt ∧ x0_58.toInt ≤ 1073741823) (Ay13 : ∀ i : Nat, (-1073741823 ≤ (y13 i).toInt ∧ (y13 i).toInt ≤ 1073741823)) (Ay15 : ∀ i : Nat, (-1073741823 ≤ (y15 i).toInt ∧ (y15 i).toInt ≤ 1073741823)) (Q0 : x0_25.toInt ≤ x0_24.toInt) : Met l y_X_readWord (.code y_X_readWord b_X_readWord 7 none :: tb) ({ frames := 5, cells := 0, slots := 0, locals := 120 }) (pM D cI cJ cZ cB (wS50 cI cJ cZ cB p0 p1 p2 p3 p4 p5 p6 p7 p8 p9 p10 p11 p12 p13 p14 p15 p16 p17 p18 p19 p20 p21 p22 p23 p24 p25 x0_4 x0_5 x0_6 x0_7 x0_8 x0_12 x0_13 x0_14 x0_15 x0_16 x0_17 x0_18 x0_22 x0_23 x0_24 x0_25 x0_26 x0_27 x0_28 x0_29 x0_30 x0_31 x0_32 x0_36 x0_39 x0_40 x0_44 x0_49 x0_51 x0_53 x0_54 x0_55 x0_56 x0_57 x0_58 x0_59 x0_60 x0_61 x0_62 y1 y2 y3 y4 y5 y6 y7 y8 y9 y10 y11 y12 y13 y14 y15 y16 y17 y18 y19 y20 y21 y22 y23 y24 y25) sz [.ref p0]) (va_Qv (fun (_ : Unit) => True) (fun _ t => ∃ u_x0_25 : Int32, ∃ u_x0_26 : Int32, ∃ u_x0_54 : Int32, ∃ u_x0_55 : Int64, ∃ u_x0_56 : Int32, ∃ u_x0_57 : Int32, ∃ u_x0_58 : Int32, (0 ≤ u_x0_25.toInt ∧ u_x0_25.toInt ≤ 4000) ∧ (0 ≤ u_x0_26.toInt ∧ u_x0_26.toInt ≤ 6) ∧ (0 ≤ u_x0_54.toInt ∧ u_x0_54.toInt ≤ 3) ∧ (0 ≤ u_x0_57.toInt ∧ u_x0_57.toInt ≤ 1) ∧ (0 ≤ u_x0_58.toInt ∧ u_x0_58.toInt ≤ 1073741823) ∧ (x0_25.toInt ≤ u_x0_25.toInt ∧ u_x0_25.toInt ≤ x0_24.toInt) ∧ (1 ≤ x0_26.toInt → 1 ≤ u_x0_26.toInt) ∧ va_P D classes (wS50 cI cJ cZ cB p0 p1 p2 p3 p4 p5 p6 p7 p8 p9 p10 p11 p12 p13 p14 p15 p16 p17 p18 p19 p20 p21 p22 p23 p24 p25 x0_4 x0_5 x0_6 x0_7 x0_8 x0_12 x0_13 x0_14 x0_15 x0_16 x0_17 x0_18 x0_22 x0_23 x0_24 u_x0_25 u_x0_26 x0_27 x0_28 x0_29 x0_30 x0_31 x0_32 x0_36 x0_39 x0_40 x0_44 x0_49 x0_51 x0_53 u_x0_54 u_x0_55 u_x0_56 u_x0_57 u_x0_58 x0_59 x0_60 x0_61 x0_62 y1 y2 y3 y4 y5 y6 y7 y8 y9 y10 y11 y12 y13 y14 y15 y16 y17 y18 y19 y20 y21 y22 y23 y24 y25) t.heap ∧ va_D (va_A (wS50 cI cJ cZ cB p0 p1 p2 p3 p4 p5 p6 p7 p8 p9 p10 p11 p12 p13 p14 p15 p16 p17 p18 p19 p20 p21 p22 p23 p24 p25 x0_4 x0_5 x0_6 x0_7 x0_8 x0_12 x0_13 x0_14 x0_15 x0_16 x0_17 x0_18 x0_22 x0_23 x0_24 x0_25 x0_26 x0_27 x0_28 x0_29 x0_30 x0_31 x0_32 x0_36 x0_39 x0_40 x0_44 x0_49 x0_51 x0_53 x0_54 x0_55 x0_56 x0_57 x0_58 x0_59 x0_60 x0_61 x0_62 y1 y2 y3 y4 y5 y6 y7 y8 y9 y10 y11 y12 y13 y14 y15 y16 y17 y18 y19 y20 y21 y22 y23 y24 y25) sz) (wS50 cI cJ cZ cB p0 p1 p2 p3 p4 p5 p6 p7 p8 p9 p10 p11 p12 p13 p14 p15 p16 p17 p18 p19 p20 p21 p22 p23 p24 p25 x0_4 x0_5 x0_6 x0_7 x0_8 x0_12 x0_13 x0_14 x0_15 x0_16 x0_17 x0_18 x0_22 x0_23 x0_24 u_x0_25 u_x0_26 x0_27 x0_28 x0_29 x0_30 x0_31 x0_32 x0_36 x0_39 x0_40 x0_44 x0_49 x0_51 x0_53 u_x0_54 u_x0_55 u_x0_56 u_x0_57 u_x0_58 x0_59 x0_60 x0_61 x0_62 y1 y2 y3 y4 y5 y6 y7 y8 y9 y10 y11 y12 y13 y14 y15 y16 y17 y18 y19 y20 y21 y22 y23 y24 y25)) (va_A (wS50 cI cJ cZ cB p0 p1 p2 p3 p4 p5 p6 p7 p8 p9 p10 p11 p12 p13 p14 p15 p16 p17 p18 p19 p20 p21 p22 p23 p24 p25 x0_4 x0_5 x0_6 x0_7 x0_8 x0_12 x0_13 x0_14 x0_15 x0_16 x0_17 x0_18 x0_22 x0_23 x0_24 x0_25 x0_26 x0_27 x0_28 x0_29 x0_30 x0_31 x0_32 x0_36 x0_39 x0_40 x0_44 x0_49 x0_51 x0_53 x0_54 x0_55 x0_56 x0_57 x0_58 x0_59 x0_60 x0_61 x0_62 y1 y2 y3 y4 y5 y6 y7 y8 y9 y10 y11 y12 y13 y14 y15 y16 y17 y18 y19 y20 y21 y22 y23 y24 y25) sz)) 0 0 (va_A (wS50 cI cJ cZ cB p0 p1 p2 p3 p4 p5 p6 p7 p8 p9 p10 p11 p12 p13 p14 p15 p16 p17 p18 p19 p20 p21 p22 p23 p24 p25 x0_4 x0_5 x0_6 x0_7 x0_8 x0_12 x0_13 x0_14 x0_15 x0_16 x0_17 x0_18 x0_22 x0_23 x0_24 x0_25 x0_26 x0_27 x0_28 x0_29 x0_30 x0_31 x0_32 x0_36 x0_39 x0_40 x0_44 x0_49 x0_51 x0_53 x0_54 x0_55 x0_56 x0_57 x0_58 x0_59 x0_60 x0_61 x0_62 y1 y2 y3 y4 y5 y6 y7 y8 y9 y10 y11 y12 y13 y14 y15 y16 y17 y18 y19 y20 y21 y22 y23 y24 y25) sz) := by
  refine Met.ofW (cc := b_X_readWord) (maxL := 7) (ret := none) (by decide) rfl ?_
  intro p e s m args below meth c s₁ B hml hv
  obtain ⟨rfl, hsz, hK, hP, hD0⟩ := hv
  subst hsz
  have hD := hD0.self (sz := s.heap.size)
  generalize hAe : va_A (wS50 cI cJ cZ cB p0 p1 p2 p3 p4 p5 p6 p7 p8 p9 p10 p11 p12 p13 p14 p15 p16 p17 p18 p19 p20 p21 p22 p23 p24 p25 x0_4 x0_5 x0_6 x0_7 x0_8 x0_12 x0_13 x0_14 x0_15 x0_16 x0_17 x0_18 x0_22 x0_23 x0_24 x0_25 x0_26 x0_27 x0_28 x0_29 x0_30 x0_31 x0_32 x0_36 x0_39 x0_40 x0_44 x0_49 x0_51 x0_53 x0_54 x0_55 x0_56 x0_57 x0_58 x0_59 x0_60 x0_61 x0_62 y1 y2 y3 y4 y5 y6 y7 y8 y9 y10 y11 y12 y13 y14 y15 y16 y17 y18 y19 y20 y21 y22 y23 y24 y25) s.heap.size = A at hD ⊢
  have hA : ∀ q : Nat, s.heap.size ≤ q → A q := fun q h => by rw [← hAe]; exact Or.inr h
  clear hAe hD0
  have hS : va_S A s.heap s.heap [] := va_S.rf
  have hx := B.exec
  have hb := B.bytes
  have hr := B.returns
  have hts := atoms_spec (ws := .code y_X_readWord b_X_readWord 7 none :: tb) B.pre
  have hk : ∀ w ∈ tb, w.before [.ref p0].toArray s = true := fun w h => hts w (List.mem_cons_of_mem _ h)
  have hown : s.vm.findClass "SignMachineModel" = some m.cls := findClass_of_methodNamed B.named
  have hlocks := B.notSynchronized
  have hl := lv_entry ([.ref p0]) (n := 7) (Nat.le_of_ble_eq_true rfl)
  rw [lg_entry_eq]
  generalize (lg_sl ([.ref p0]) ++ List.replicate (7 - (lg_sl ([.ref p0])).length) Slot.unset).toArray = ls at hl ⊢
  have hl : lv_has ls 7 [(0, .ref p0)] := hl
  clear hts B
  refine lv_aload_n hx hb d_X_readWord_0 rfl (lv_at hl 0 rfl) ?_
  refine lv_iconst (v := 0) hx hb d_X_readWord_1 (by decide) ?_
  refine va_put (D := D) (ci := 7) (v := .int (0 : Int32)) (ty := .int) (C := "SignMachineModel") (T := F_X) (N := 64) hx hb hk fi_X ft_X ft_X_ok fn_X hown hK.1 hP hD hS 0 rfl rfl 57 (by decide) (hk _ k_1178) (fun _ h9 => h9) rfl (by decide +kernel) rfl rfl (Nat.le_of_ble_eq_true rfl) d_X_readWord_2 (fun H locs hP hD hS => ?_)
  have hP : va_P D classes (wS50 cI cJ cZ cB p0 p1 p2 p3 p4 p5 p6 p7 p8 p9 p10 p11 p12 p13 p14 p15 p16 p17 p18 p19 p20 p21 p22 p23 p24 p25 x0_4 x0_5 x0_6 x0_7 x0_8 x0_12 x0_13 x0_14 x0_15 x0_16 x0_17 x0_18 x0_22 x0_23 x0_24 x0_25 x0_26 x0_27 x0_28 x0_29 x0_30 x0_31 x0_32 x0_36 x0_39 x0_40 x0_44 x0_49 x0_51 x0_53 x0_54 x0_55 x0_56 (0 : Int32) x0_58 x0_59 x0_60 x0_61 x0_62 y1 y2 y3 y4 y5 y6 y7 y8 y9 y10 y11 y12 y13 y14 y15 y16 y17 y18 y19 y20 y21 y22 y23 y24 y25) H := hP
  have hD : va_D A (wS50 cI cJ cZ cB p0 p1 p2 p3 p4 p5 p6 p7 p8 p9 p10 p11 p12 p13 p14 p15 p16 p17 p18 p19 p20 p21 p22 p23 p24 p25 x0_4 x0_5 x0_6 x0_7 x0_8 x0_12 x0_13 x0_14 x0_15 x0_16 x0_17 x0_18 x0_22 x0_23 x0_24 x0_25 x0_26 x0_27 x0_28 x0_29 x0_30 x0_31 x0_32 x0_36 x0_39 x0_40 x0_44 x0_49 x0_51 x0_53 x0_54 x0_55 x0_56 (0 : Int32) x0_58 x0_59 x0_60 x0_61 x0_62 y1 y2 y3 y4 y5 y6 y7 y8 y9 y10 y11 y12 y13 y14 y15 y16 y17 y18 y19 y20 y21 y22 y23 y24 y25) := hD
  refine lv_aload_n hx hb d_X_readWord_5 rfl (lv_at hl 0 rfl) ?_
  refine lv_iconst (v := 0) hx hb d_X_readWord_6 (by decide) ?_
  refine va_put (D := D) (ci := 7) (v := .int (0 : Int32)) (ty := .int) (C := "SignMachineModel") (T := F_X) (N := 64) hx hb hk fi_X ft_X ft_X_ok fn_X hown hK.1 hP hD hS 0 rfl rfl 58 (by decide) (hk _ k_1179) (fun _ h9 => h9) rfl (by decide +kernel) rfl rfl (Nat.le_of_ble_eq_true rfl) d_X_readWord_7 (fun H locs hP hD hS => ?_)
  have hP : va_P D classes (wS50 cI cJ cZ cB p0 p1 p2 p3 p4 p5 p6 p7 p8 p9 p10 p11 p12 p13 p14 p15 p16 p17 p18 p19 p20 p21 p22 p23 p24 p25 x0_4 x0_5 x0_6 x0_7 x0_8 x0_12 x0_13 x0_14 x0_15 x0_16 x0_17 x0_18 x0_22 x0_23 x0_24 x0_25 x0_26 x0_27 x0_28 x0_29 x0_30 x0_31 x0_32 x0_36 x0_39 x0_40 x0_44 x0_49 x0_51 x0_53 x0_54 x0_55 x0_56 (0 : Int32) (0 : Int32) x0_59 x0_60 x0_61 x0_62 y1 y2 y3 y4 y5 y6 y7 y8 y9 y10 y11 y12 y13 y14 y15 y16 y17 y18 y19 y20 y21 y22 y23 y24 y25) H := hP
  have hD : va_D A (wS50 cI cJ cZ cB p0 p1 p2 p3 p4 p5 p6 p7 p8 p9 p10 p11 p12 p13 p14 p15 p16 p17 p18 p19 p20 p21 p22 p23 p24 p25 x0_4 x0_5 x0_6 x0_7 x0_8 x0_12 x0_13 x0_14 x0_15 x0_16 x0_17 x0_18 x0_22 x0_23 x0_24 x0_25 x0_26 x0_27 x0_28 x0_29 x0_30 x0_31 x0_32 x0_36 x0_39 x0_40 x0_44 x0_49 x0_51 x0_53 x0_54 x0_55 x0_56 (0 : Int32) (0 : Int32) x0_59 x0_60 x0_61 x0_62 y1 y2 y3 y4 y5 y6 y7 y8 y9 y10 y11 y12 y13 y14 y15 y16 y17 y18 y19 y20 y21 y22 y23 y24 y25) := hD
  refine lv_iconst (v := 1) hx hb d_X_readWord_10 (by decide) ?_
  refine lv_istore_n (lv' := [(1, .int (1 : Int32)), (0, .ref p0)]) hx hb d_X_readWord_11 rfl hl (by decide) rfl (fun ls hl => ?_)
  have CUT12 : ∀ (n : Nat) (g12l1 : Int32) (g12x0_25 : Int32) (g12x0_26 : Int32) (g12x0_54 : Int32) (g12x0_55 : Int64) (g12x0_56 : Int32) (g12x0_57 : Int32) (g12x0_58 : Int32) (H : Heap) (locs : List Loc) (ls : Array Slot), (2 * (x0_24.toInt - g12x0_25.toInt) + g12l1.toInt) < (n : Int) → (0 ≤ g12l1.toInt ∧ g12l1.toInt ≤ 1) → (0 ≤ g12x0_25.toInt ∧ g12x0_25.toInt ≤ 4000) → (0 ≤ g12x0_26.toInt ∧ g12x0_26.toInt ≤ 6) → (0 ≤ g12x0_54.toInt ∧ g12x0_54.toInt ≤ 3) → (0 ≤ g12x0_57.toInt ∧ g12x0_57.toInt ≤ 1) → (0 ≤ g12x0_58.toInt ∧ g12x0_58.toInt ≤ 1073741823) → (g12x0_25.toInt ≤ x0_24.toInt) → (x0_25.toInt ≤ g12x0_25.toInt) → (1 ≤ x0_26.toInt → 1 ≤ g12x0_26.toInt) → va_P D classes (wS50 cI cJ cZ cB p0 p1 p2 p3 p4 p5 p6 p7 p8 p9 p10 p11 p12 p13 p14 p15 p16 p17 p18 p19 p20 p21 p22 p23 p24 p25 x0_4 x0_5 x0_6 x0_7 x0_8 x0_12 x0_13 x0_14 x0_15 x0_16 x0_17 x0_18 x0_22 x0_23 x0_24 g12x0_25 g12x0_26 x0_27 x0_28 x0_29 x0_30 x0_31 x0_32 x0_36 x0_39 x0_40 x0_44 x0_49 x0_51 x0_53 g12x0_54 g12x0_55 g12x0_56 g12x0_57 g12x0_58 x0_59 x0_60 x0_61 x0_62 y1 y2 y3 y4 y5 y6 y7 y8 y9 y10 y11 y12 y13 y14 y15 y16 y17 y18 y19 y20 y21 y22 y23 y24 y25) H → va_D A (wS50 cI cJ cZ cB p0 p1 p2 p3 p4 p5 p6 p7 p8 p9 p10 p11 p12 p13 p14 p15 p16 p17 p18 p19 p20 p21 p22 p23 p24 p25 x0_4 x0_5 x0_6 x0_7 x0_8 x0_12 x0_13 x0_14 x0_15 x0_16 x0_17 x0_18 x0_22 x0_23 x0_24 g12x0_25 g12x0_26 x0_27 x0_28 x0_29 x0_30 x0_31 x0_32 x0_36 x0_39 x0_40 x0_44 x0_49 x0_51 x0_53 g12x0_54 g12x0_55 g12x0_56 g12x0_57 g12x0_58 x0_59 x0_60 x0_61 x0_62 y1 y2 y3 y4 y5 y6 y7 y8 y9 y10 y11 y12 y13 y14 y15 y16 y17 y18 y19 y20 y21 y22 y23 y24 y25) → va_S A s.heap H locs → lv_has ls 7 [(1, .int g12l1), (0, .ref p0)] → W p l e ({ frames := 5, cells := 0, slots := 0, locals := 120 }) s m [.ref p0].toArray below meth c H locs 0 0 (MQ below (va_Qv (fun (_ : Unit) => True) (fun _ t => ∃ u_x0_25 : Int32, ∃ u_x0_26 : Int32, ∃ u_x0_54 : Int32, ∃ u_x0_55 : Int64, ∃ u_x0_56 : Int32, ∃ u_x0_57 : Int32, ∃ u_x0_58 : Int32, (0 ≤ u_x0_25.toInt ∧ u_x0_25.toInt ≤ 4000) ∧ (0 ≤ u_x0_26.toInt ∧ u_x0_26.toInt ≤ 6) ∧ (0 ≤ u_x0_54.toInt ∧ u_x0_54.toInt ≤ 3) ∧ (0 ≤ u_x0_57.toInt ∧ u_x0_57.toInt ≤ 1) ∧ (0 ≤ u_x0_58.toInt ∧ u_x0_58.toInt ≤ 1073741823) ∧ (x0_25.toInt ≤ u_x0_25.toInt ∧ u_x0_25.toInt ≤ x0_24.toInt) ∧ (1 ≤ x0_26.toInt → 1 ≤ u_x0_26.toInt) ∧ va_P D classes (wS50 cI cJ cZ cB p0 p1 p2 p3 p4 p5 p6 p7 p8 p9 p10 p11 p12 p13 p14 p15 p16 p17 p18 p19 p20 p21 p22 p23 p24 p25 x0_4 x0_5 x0_6 x0_7 x0_8 x0_12 x0_13 x0_14 x0_15 x0_16 x0_17 x0_18 x0_22 x0_23 x0_24 u_x0_25 u_x0_26 x0_27 x0_28 x0_29 x0_30 x0_31 x0_32 x0_36 x0_39 x0_40 x0_44 x0_49 x0_51 x0_53 u_x0_54 u_x0_55 u_x0_56 u_x0_57 u_x0_58 x0_59 x0_60 x0_61 x0_62 y1 y2 y3 y4 y5 y6 y7 y8 y9 y10 y11 y12 y13 y14 y15 y16 y17 y18 y19 y20 y21 y22 y23 y24 y25) t.heap ∧ va_D A (wS50 cI cJ cZ cB p0 p1 p2 p3 p4 p5 p6 p7 p8 p9 p10 p11 p12 p13 p14 p15 p16 p17 p18 p19 p20 p21 p22 p23 p24 p25 x0_4 x0_5 x0_6 x0_7 x0_8 x0_12 x0_13 x0_14 x0_15 x0_16 x0_17 x0_18 x0_22 x0_23 x0_24 u_x0_25 u_x0_26 x0_27 x0_28 x0_29 x0_30 x0_31 x0_32 x0_36 x0_39 x0_40 x0_44 x0_49 x0_51 x0_53 u_x0_54 u_x0_55 u_x0_56 u_x0_57 u_x0_58 x0_59 x0_60 x0_61 x0_62 y1 y2 y3 y4 y5 y6 y7 y8 y9 y10 y11 y12 y13 y14 y15 y16 y17 y18 y19 y20 y21 y22 y23 y24 y25)) A) [.ref p0].toArray s 0 0 A) (F0 m 12 ls []) := by
    intro n
    induction n with
    | zero => intro g12l1 g12x0_25 g12x0_26 g12x0_54 g12x0_55 g12x0_56 g12x0_57 g12x0_58 H locs ls hn12 Rg12l1 Rg12x0_25 Rg12x0_26 Rg12x0_54 Rg12x0_57 Rg12x0_58 I12_0 I12_1 I12_2 hP hD hS hl; exfalso; omega
    | succ n ih12 =>
      intro g12l1 g12x0_25 g12x0_26 g12x0_54 g12x0_55 g12x0_56 g12x0_57 g12x0_58 H locs ls hn12 Rg12l1 Rg12x0_25 Rg12x0_26 Rg12x0_54 Rg12x0_57 Rg12x0_58 I12_0 I12_1 I12_2 hP hD hS hl
      refine lv_iload_n hx hb d_X_readWord_12 rfl (lv_at hl 0 rfl) ?_
      refine lv_if_eq (tgt := 199) hx hb d_X_readWord_13 (by decide) (fun c1 => ?_) (fun c1 => ?_)
      · have gc1 : g12l1.toInt = 0 := c_eq c1
        have R2 : 0 ≤ g12l1.toInt ∧ g12l1.toInt ≤ 0 := by omega
        exact W.vret hx hb hr (fun t ht hW => ⟨⟨(), rfl, trivial, ⟨g12x0_25, g12x0_26, g12x0_54, g12x0_55, g12x0_56, g12x0_57, g12x0_58, Rg12x0_25, Rg12x0_26, Rg12x0_54, Rg12x0_57, Rg12x0_58, (by omega), (by omega), by show va_P D classes _ t.heap; rw [ht]; exact hP, hD⟩⟩, hS.F ht⟩) hS.2.2 d_X_readWord_199
      · have gc1 : g12l1.toInt ≠ 0 := c_ne c1
        have R3 : 1 ≤ g12l1.toInt ∧ g12l1.toInt ≤ 1 := by omega
        refine lv_aload_n hx hb d_X_readWord_16 rfl (lv_at hl 1 rfl) ?_
        refine va_get (D := D) (ci := 7) (v := .int g12x0_26) (C := "SignMachineModel") (T := F_X) (N := 64) hx hb hk fi_X hown hK.1 hP 0 rfl rfl 26 (by decide) (hk _ k_1147) (fun _ h9 => h9) rfl d_X_readWord_17 ?_
        refine lv_if_ne (tgt := 199) hx hb d_X_readWord_20 (by decide) (fun c4 => ?_) (fun c4 => ?_)
        · have gc4 : g12x0_26.toInt ≠ 0 := c_ne c4
          have R5 : 1 ≤ g12x0_26.toInt ∧ g12x0_26.toInt ≤ 6 := by omega
          exact W.vret hx hb hr (fun t ht hW => ⟨⟨(), rfl, trivial, ⟨g12x0_25, g12x0_26, g12x0_54, g12x0_55, g12x0_56, g12x0_57, g12x0_58, Rg12x0_25, (rgw R5 (by decide) (by decide)), Rg12x0_54, Rg12x0_57, Rg12x0_58, (by omega), (by omega), by show va_P D classes _ t.heap; rw [ht]; exact hP, hD⟩⟩, hS.F ht⟩) hS.2.2 d_X_readWord_199
        · have gc4 : g12x0_26.toInt = 0 := c_eq c4
          have R6 : 0 ≤ g12x0_26.toInt ∧ g12x0_26.toInt ≤ 0 := by omega
          have CUT99 : ∀ (g99l2 : Int64) (g99l4 : Int64) (g99x0_25 : Int32) (g99x0_26 : Int32) (g99x0_54 : Int32) (g99x0_55 : Int64) (g99x0_56 : Int32) (H : Heap) (locs : List Loc) (ls : Array Slot), ((-1073741823) ≤ g99l2.toInt ∧ g99l2.toInt ≤ 1073741823) → (0 ≤ g99l4.toInt ∧ g99l4.toInt ≤ 63) → (0 ≤ g99x0_25.toInt ∧ g99x0_25.toInt ≤ 4000) → (0 ≤ g99x0_26.toInt ∧ g99x0_26.toInt ≤ 6) → (0 ≤ g99x0_54.toInt ∧ g99x0_54.toInt ≤ 3) → (g99l4.toInt / 8 ≤ g99l4.toInt % 8 ∧ g99l4.toInt % 8 ≤ 5) → (g12x0_25.toInt ≤ g99x0_25.toInt ∧ g99x0_25.toInt ≤ x0_24.toInt) → (1 ≤ x0_26.toInt → 1 ≤ g99x0_26.toInt) → va_P D classes (wS50 cI cJ cZ cB p0 p1 p2 p3 p4 p5 p6 p7 p8 p9 p10 p11 p12 p13 p14 p15 p16 p17 p18 p19 p20 p21 p22 p23 p24 p25 x0_4 x0_5 x0_6 x0_7 x0_8 x0_12 x0_13 x0_14 x0_15 x0_16 x0_17 x0_18 x0_22 x0_23 x0_24 g99x0_25 g99x0_26 x0_27 x0_28 x0_29 x0_30 x0_31 x0_32 x0_36 x0_39 x0_40 x0_44 x0_49 x0_51 x0_53 g99x0_54 g99x0_55 g99x0_56 g12x0_57 g12x0_58 x0_59 x0_60 x0_61 x0_62 y1 y2 y3 y4 y5 y6 y7 y8 y9 y10 y11 y12 y13 y14 y15 y16 y17 y18 y19 y20 y21 y22 y23 y24 y25) H → va_D A (wS50 cI cJ cZ cB p0 p1 p2 p3 p4 p5 p6 p7 p8 p9 p10 p11 p12 p13 p14 p15 p16 p17 p18 p19 p20 p21 p22 p23 p24 p25 x0_4 x0_5 x0_6 x0_7 x0_8 x0_12 x0_13 x0_14 x0_15 x0_16 x0_17 x0_18 x0_22 x0_23 x0_24 g99x0_25 g99x0_26 x0_27 x0_28 x0_29 x0_30 x0_31 x0_32 x0_36 x0_39 x0_40 x0_44 x0_49 x0_51 x0_53 g99x0_54 g99x0_55 g99x0_56 g12x0_57 g12x0_58 x0_59 x0_60 x0_61 x0_62 y1 y2 y3 y4 y5 y6 y7 y8 y9 y10 y11 y12 y13 y14 y15 y16 y17 y18 y19 y20 y21 y22 y23 y24 y25) → va_S A s.heap H locs → lv_has ls 7 [(1, .int g12l1), (0, .ref p0), (2, .long g99l2), (4, .long g99l4)] → W p l e ({ frames := 5, cells := 0, slots := 0, locals := 120 }) s m [.ref p0].toArray below meth c H locs 0 0 (MQ below (va_Qv (fun (_ : Unit) => True) (fun _ t => ∃ u_x0_25 : Int32, ∃ u_x0_26 : Int32, ∃ u_x0_54 : Int32, ∃ u_x0_55 : Int64, ∃ u_x0_56 : Int32, ∃ u_x0_57 : Int32, ∃ u_x0_58 : Int32, (0 ≤ u_x0_25.toInt ∧ u_x0_25.toInt ≤ 4000) ∧ (0 ≤ u_x0_26.toInt ∧ u_x0_26.toInt ≤ 6) ∧ (0 ≤ u_x0_54.toInt ∧ u_x0_54.toInt ≤ 3) ∧ (0 ≤ u_x0_57.toInt ∧ u_x0_57.toInt ≤ 1) ∧ (0 ≤ u_x0_58.toInt ∧ u_x0_58.toInt ≤ 1073741823) ∧ (x0_25.toInt ≤ u_x0_25.toInt ∧ u_x0_25.toInt ≤ x0_24.toInt) ∧ (1 ≤ x0_26.toInt → 1 ≤ u_x0_26.toInt) ∧ va_P D classes (wS50 cI cJ cZ cB p0 p1 p2 p3 p4 p5 p6 p7 p8 p9 p10 p11 p12 p13 p14 p15 p16 p17 p18 p19 p20 p21 p22 p23 p24 p25 x0_4 x0_5 x0_6 x0_7 x0_8 x0_12 x0_13 x0_14 x0_15 x0_16 x0_17 x0_18 x0_22 x0_23 x0_24 u_x0_25 u_x0_26 x0_27 x0_28 x0_29 x0_30 x0_31 x0_32 x0_36 x0_39 x0_40 x0_44 x0_49 x0_51 x0_53 u_x0_54 u_x0_55 u_x0_56 u_x0_57 u_x0_58 x0_59 x0_60 x0_61 x0_62 y1 y2 y3 y4 y5 y6 y7 y8 y9 y10 y11 y12 y13 y14 y15 y16 y17 y18 y19 y20 y21 y22 y23 y24 y25) t.heap ∧ va_D A (wS50 cI cJ cZ cB p0 p1 p2 p3 p4 p5 p6 p7 p8 p9 p10 p11 p12 p13 p14 p15 p16 p17 p18 p19 p20 p21 p22 p23 p24 p25 x0_4 x0_5 x0_6 x0_7 x0_8 x0_12 x0_13 x0_14 x0_15 x0_16 x0_17 x0_18 x0_22 x0_23 x0_24 u_x0_25 u_x0_26 x0_27 x0_28 x0_29 x0_30 x0_31 x0_32 x0_36 x0_39 x0_40 x0_44 x0_49 x0_51 x0_53 u_x0_54 u_x0_55 u_x0_56 u_x0_57 u_x0_58 x0_59 x0_60 x0_61 x0_62 y1 y2 y3 y4 y5 y6 y7 y8 y9 y10 y11 y12 y13 y14 y15 y16 y17 y18 y19 y20 y21 y22 y23 y24 y25)) A) [.ref p0].toArray s 0 0 A) (F0 m 99 ls []) := by
            intro g99l2 g99l4 g99x0_25 g99x0_26 g99x0_54 g99x0_55 g99x0_56 H locs ls Rg99l2 Rg99l4 Rg99x0_25 Rg99x0_26 Rg99x0_54 I99_0 I99_1 I99_2 hP hD hS hl
            refine lv_lload_n hx hb d_X_readWord_99 rfl (lv_at hl 2 rfl) ?_
            refine lv_lconst (v := 0) hx hb d_X_readWord_100 (by decide) ?_
            refine W.lcmp hx hb d_X_readWord_101 ?_
            refine lv_topi (fun v7 hv7 => ?_)
            refine lv_if_ge (tgt := 109) hx hb d_X_readWord_102 (by decide) (fun c8 => ?_) (fun c8 => ?_)
            · have gc8 : 0 ≤ g99l2.toInt := lc_ge hv7 c8
              have R9 : 0 ≤ g99l2.toInt ∧ g99l2.toInt ≤ 1073741823 := by omega
              refine lv_iconst (v := 0) hx hb d_X_readWord_109 (by decide) ?_
              refine lv_istore (lv' := [(6, .int (0 : Int32)), (1, .int g12l1), (0, .ref p0), (2, .long g99l2), (4, .long g99l4)]) hx hb d_X_readWord_110 hl (by decide) rfl (fun ls hl => ?_)
              have CUT163 : ∀  (g163x0_57 : Int32) (g163x0_58 : Int32) (H : Heap) (locs : List Loc) (ls : Array Slot), (0 ≤ g163x0_57.toInt ∧ g163x0_57.toInt ≤ 1) → (0 ≤ g163x0_58.toInt ∧ g163x0_58.toInt ≤ 1073741823) → va_P D classes (wS50 cI cJ cZ cB p0 p1 p2 p3 p4 p5 p6 p7 p8 p9 p10 p11 p12 p13 p14 p15 p16 p17 p18 p19 p20 p21 p22 p23 p24 p25 x0_4 x0_5 x0_6 x0_7 x0_8 x0_12 x0_13 x0_14 x0_15 x0_16 x0_17 x0_18 x0_22 x0_23 x0_24 g99x0_25 g99x0_26 x0_27 x0_28 x0_29 x0_30 x0_31 x0_32 x0_36 x0_39 x0_40 x0_44 x0_49 x0_51 x0_53 g99x0_54 g99x0_55 g99x0_56 g163x0_57 g163x0_58 x0_59 x0_60 x0_61 x0_62 y1 y2 y3 y4 y5 y6 y7 y8 y9 y10 y11 y12 y13 y14 y15 y16 y17 y18 y19 y20 y21 y22 y23 y24 y25) H → va_D A (wS50 cI cJ cZ cB p0 p1 p2 p3 p4 p5 p6 p7 p8 p9 p10 p11 p12 p13 p14 p15 p16 p17 p18 p19 p20 p21 p22 p23 p24 p25 x0_4 x0_5 x0_6 x0_7 x0_8 x0_12 x0_13 x0_14 x0_15 x0_16 x0_17 x0_18 x0_22 x0_23 x0_24 g99x0_25 g99x0_26 x0_27 x0_28 x0_29 x0_30 x0_31 x0_32 x0_36 x0_39 x0_40 x0_44 x0_49 x0_51 x0_53 g99x0_54 g99x0_55 g99x0_56 g163x0_57 g163x0_58 x0_59 x0_60 x0_61 x0_62 y1 y2 y3 y4 y5 y6 y7 y8 y9 y10 y11 y12 y13 y14 y15 y16 y17 y18 y19 y20 y21 y22 y23 y24 y25) → va_S A s.heap H locs → lv_has ls 7 [(6, .int (0 : Int32)), (1, .int g12l1), (0, .ref p0), (2, .long g99l2), (4, .long g99l4)] → W p l e ({ frames := 5, cells := 0, slots := 0, locals := 120 }) s m [.ref p0].toArray below meth c H locs 0 0 (MQ below (va_Qv (fun (_ : Unit) => True) (fun _ t => ∃ u_x0_25 : Int32, ∃ u_x0_26 : Int32, ∃ u_x0_54 : Int32, ∃ u_x0_55 : Int64, ∃ u_x0_56 : Int32, ∃ u_x0_57 : Int32, ∃ u_x0_58 : Int32, (0 ≤ u_x0_25.toInt ∧ u_x0_25.toInt ≤ 4000) ∧ (0 ≤ u_x0_26.toInt ∧ u_x0_26.toInt ≤ 6) ∧ (0 ≤ u_x0_54.toInt ∧ u_x0_54.toInt ≤ 3) ∧ (0 ≤ u_x0_57.toInt ∧ u_x0_57.toInt ≤ 1) ∧ (0 ≤ u_x0_58.toInt ∧ u_x0_58.toInt ≤ 1073741823) ∧ (x0_25.toInt ≤ u_x0_25.toInt ∧ u_x0_25.toInt ≤ x0_24.toInt) ∧ (1 ≤ x0_26.toInt → 1 ≤ u_x0_26.toInt) ∧ va_P D classes (wS50 cI cJ cZ cB p0 p1 p2 p3 p4 p5 p6 p7 p8 p9 p10 p11 p12 p13 p14 p15 p16 p17 p18 p19 p20 p21 p22 p23 p24 p25 x0_4 x0_5 x0_6 x0_7 x0_8 x0_12 x0_13 x0_14 x0_15 x0_16 x0_17 x0_18 x0_22 x0_23 x0_24 u_x0_25 u_x0_26 x0_27 x0_28 x0_29 x0_30 x0_31 x0_32 x0_36 x0_39 x0_40 x0_44 x0_49 x0_51 x0_53 u_x0_54 u_x0_55 u_x0_56 u_x0_57 u_x0_58 x0_59 x0_60 x0_61 x0_62 y1 y2 y3 y4 y5 y6 y7 y8 y9 y10 y11 y12 y13 y14 y15 y16 y17 y18 y19 y20 y21 y22 y23 y24 y25) t.heap ∧ va_D A (wS50 cI cJ cZ cB p0 p1 p2 p3 p4 p5 p6 p7 p8 p9 p10 p11 p12 p13 p14 p15 p16 p17 p18 p19 p20 p21 p22 p23 p24 p25 x0_4 x0_5 x0_6 x0_7 x0_8 x0_12 x0_13 x0_14 x0_15 x0_16 x0_17 x0_18 x0_22 x0_23 x0_24 u_x0_25 u_x0_26 x0_27 x0_28 x0_29 x0_30 x0_31 x0_32 x0_36 x0_39 x0_40 x0_44 x0_49 x0_51 x0_53 u_x0_54 u_x0_55 u_x0_56 u_x0_57 u_x0_58 x0_59 x0_60 x0_61 x0_62 y1 y2 y3 y4 y5 y6 y7 y8 y9 y10 y11 y12 y13 y14 y15 y16 y17 y18 y19 y20 y21 y22 y23 y24 y25)) A) [.ref p0].toArray s 0 0 A) (F0 m 163 ls []) := by
                intro g163x0_57 g163x0_58 H locs ls Rg163x0_57 Rg163x0_58 hP hD hS hl
                refine lv_aload_n hx hb d_X_readWord_163 rfl (lv_at hl 2 rfl) ?_
                refine sn_i (va_runV (C := "SignMachineModel") (As := []) (rest := []) ⟨hx, hb, hml, hown, hk⟩ (c_X_here l D cI cJ cZ cB p0 p1 p2 p3 p4 p5 p6 p7 p8 p9 p10 p11 p12 p13 p14 p15 p16 p17 p18 p19 p20 p21 p22 p23 p24 p25 H.size x0_4 x0_5 x0_6 x0_7 x0_8 x0_12 x0_13 x0_14 x0_15 x0_16 x0_17 x0_18 x0_22 x0_23 x0_24 g99x0_25 g99x0_26 x0_27 x0_28 x0_29 x0_30 x0_31 x0_32 x0_36 x0_39 x0_40 x0_44 x0_49 x0_51 x0_53 g99x0_54 g99x0_55 g99x0_56 g163x0_57 g163x0_58 x0_59 x0_60 x0_61 x0_62 y1 y2 y3 y4 y5 y6 y7 y8 y9 y10 y11 y12 y13 y14 y15 y16 y17 y18 y19 y20 y21 y22 y23 y24 y25  Rx0_24 Rg99x0_25) (v_X_here hk k_1537 ⟨Nat.le_of_ble_eq_true rfl, Nat.le_of_ble_eq_true rfl⟩) (pM_v hK hP hD (ci := 7) (q0 := 0) rfl rfl rfl) rfl rfl hl.1 rfl (lv_room (Nat.le_of_ble_eq_true rfl)) d_X_readWord_164 ⟨Nat.le_of_ble_eq_true rfl, Nat.le_of_ble_eq_true rfl⟩) hS hA hD (fun rz10 u t H locs hr0 ht hB hFr hS => ?_)
                subst hr0
                obtain ⟨F0z10, hP, hD⟩ := hB
                have F0z10 : (g99x0_25.toInt < x0_24.toInt ∧ rz10.toInt = (y10 (g99x0_25).toNatClampNeg).toInt) ∨ (x0_24.toInt ≤ g99x0_25.toInt ∧ rz10.toInt = -1) := F0z10
                rw [ht] at hP
                have hD := dwk hD hFr
                clear ht hFr
                have hP : va_P D classes (wS50 cI cJ cZ cB p0 p1 p2 p3 p4 p5 p6 p7 p8 p9 p10 p11 p12 p13 p14 p15 p16 p17 p18 p19 p20 p21 p22 p23 p24 p25 x0_4 x0_5 x0_6 x0_7 x0_8 x0_12 x0_13 x0_14 x0_15 x0_16 x0_17 x0_18 x0_22 x0_23 x0_24 g99x0_25 g99x0_26 x0_27 x0_28 x0_29 x0_30 x0_31 x0_32 x0_36 x0_39 x0_40 x0_44 x0_49 x0_51 x0_53 g99x0_54 g99x0_55 g99x0_56 g163x0_57 g163x0_58 x0_59 x0_60 x0_61 x0_62 y1 y2 y3 y4 y5 y6 y7 y8 y9 y10 y11 y12 y13 y14 y15 y16 y17 y18 y19 y20 y21 y22 y23 y24 y25) H := hP
                have hD : va_D A (wS50 cI cJ cZ cB p0 p1 p2 p3 p4 p5 p6 p7 p8 p9 p10 p11 p12 p13 p14 p15 p16 p17 p18 p19 p20 p21 p22 p23 p24 p25 x0_4 x0_5 x0_6 x0_7 x0_8 x0_12 x0_13 x0_14 x0_15 x0_16 x0_17 x0_18 x0_22 x0_23 x0_24 g99x0_25 g99x0_26 x0_27 x0_28 x0_29 x0_30 x0_31 x0_32 x0_36 x0_39 x0_40 x0_44 x0_49 x0_51 x0_53 g99x0_54 g99x0_55 g99x0_56 g163x0_57 g163x0_58 x0_59 x0_60 x0_61 x0_62 y1 y2 y3 y4 y5 y6 y7 y8 y9 y10 y11 y12 y13 y14 y15 y16 y17 y18 y19 y20 y21 y22 y23 y24 y25) := hD
                refine lv_bipush (v := 44) hx hb d_X_readWord_167 (by decide) ?_
                refine lv_icmp_ne (tgt := 176) hx hb d_X_readWord_169 (by decide) (fun c11 => ?_) (fun c11 => ?_)
                · have gc11 : rz10.toInt ≠ 44 := c_ne c11
                  refine lv_iconst (v := 0) hx hb d_X_readWord_176 (by decide) ?_
                  refine lv_istore_n (lv' := [(1, .int (0 : Int32)), (6, .int (0 : Int32)), (0, .ref p0), (2, .long g99l2), (4, .long g99l4)]) hx hb d_X_readWord_177 rfl hl (by decide) rfl (fun ls hl => ?_)
                  refine lv_aload_n hx hb d_X_readWord_178 rfl (lv_at hl 2 rfl) ?_
                  refine lv_dup hx hb d_X_readWord_179 rfl ?_
                  refine va_get (D := D) (ci := 7) (v := .int g99x0_25) (C := "SignMachineModel") (T := F_X) (N := 64) hx hb hk fi_X hown hK.1 hP 0 rfl rfl 25 (by decide) (hk _ k_1146) (fun _ h9 => h9) rfl d_X_readWord_180 ?_
                  refine lv_iload_n hx hb d_X_readWord_183 rfl (lv_at hl 0 rfl) ?_
                  refine lv_if_eq (tgt := 191) hx hb d_X_readWord_184 (by decide) (fun c12 => ?_) (fun c12 => absurd (show (0 : Int32) = (0 : Int32) from (by decide)) c12)
                  refine lv_iconst (v := 0) hx hb d_X_readWord_191 (by decide) ?_
                  refine lv_iadd hx hb d_X_readWord_192 ?_
                  refine lv_topi (fun v13 hv13 => ?_)
                  obtain ⟨ev13, Rv13⟩ : v13.toInt = g99x0_25.toInt + 0 ∧ (0 ≤ v13.toInt ∧ v13.toInt ≤ 4000) := ad3 hv13 Rg99x0_25 (by decide) (by decide) (by decide) (by decide) (by decide)
                  refine va_put (D := D) (ci := 7) (v := .int v13) (ty := .int) (C := "SignMachineModel") (T := F_X) (N := 64) hx hb hk fi_X ft_X ft_X_ok fn_X hown hK.1 hP hD hS 0 rfl rfl 25 (by decide) (hk _ k_1146) (fun _ h9 => h9) rfl (by decide +kernel) rfl rfl (Nat.le_of_ble_eq_true rfl) d_X_readWord_193 (fun H locs hP hD hS => ?_)
                  have hP : va_P D classes (wS50 cI cJ cZ cB p0 p1 p2 p3 p4 p5 p6 p7 p8 p9 p10 p11 p12 p13 p14 p15 p16 p17 p18 p19 p20 p21 p22 p23 p24 p25 x0_4 x0_5 x0_6 x0_7 x0_8 x0_12 x0_13 x0_14 x0_15 x0_16 x0_17 x0_18 x0_22 x0_23 x0_24 v13 g99x0_26 x0_27 x0_28 x0_29 x0_30 x0_31 x0_32 x0_36 x0_39 x0_40 x0_44 x0_49 x0_51 x0_53 g99x0_54 g99x0_55 g99x0_56 g163x0_57 g163x0_58 x0_59 x0_60 x0_61 x0_62 y1 y2 y3 y4 y5 y6 y7 y8 y9 y10 y11 y12 y13 y14 y15 y16 y17 y18 y19 y20 y21 y22 y23 y24 y25) H := hP
                  have hD : va_D A (wS50 cI cJ cZ cB p0 p1 p2 p3 p4 p5 p6 p7 p8 p9 p10 p11 p12 p13 p14 p15 p16 p17 p18 p19 p20 p21 p22 p23 p24 p25 x0_4 x0_5 x0_6 x0_7 x0_8 x0_12 x0_13 x0_14 x0_15 x0_16 x0_17 x0_18 x0_22 x0_23 x0_24 v13 g99x0_26 x0_27 x0_28 x0_29 x0_30 x0_31 x0_32 x0_36 x0_39 x0_40 x0_44 x0_49 x0_51 x0_53 g99x0_54 g99x0_55 g99x0_56 g163x0_57 g163x0_58 x0_59 x0_60 x0_61 x0_62 y1 y2 y3 y4 y5 y6 y7 y8 y9 y10 y11 y12 y13 y14 y15 y16 y17 y18 y19 y20 y21 y22 y23 y24 y25) := hD
                  refine lv_goto (tgt := 12) hx hb d_X_readWord_196 (by decide) ?_
                  exact ih12 (0 : Int32) v13 g99x0_26 g99x0_54 g99x0_55 g99x0_56 g163x0_57 g163x0_58 H _ ls (show 2 * (x0_24.toInt - v13.toInt) + 0 < (n : Int) from by omega) (by decide) Rv13 Rg99x0_26 Rg99x0_54 Rg163x0_57 Rg163x0_58 (show v13.toInt ≤ x0_24.toInt from by omega) (show x0_25.toInt ≤ v13.toInt from by omega) (show 1 ≤ x0_26.toInt → 1 ≤ g99x0_26.toInt from by omega) hP hD hS (lv_sub hl [0, 2] rfl)
                · have gc11 : rz10.toInt = 44 := c_eq c11
                  have R14 : 44 ≤ rz10.toInt ∧ rz10.toInt ≤ 44 := by omega
                  refine lv_iconst (v := 1) hx hb d_X_readWord_172 (by decide) ?_
                  refine lv_goto (tgt := 177) hx hb d_X_readWord_173 (by decide) ?_
                  refine lv_istore_n (lv' := [(1, .int (1 : Int32)), (6, .int (0 : Int32)), (0, .ref p0), (2, .long g99l2), (4, .long g99l4)]) hx hb d_X_readWord_177 rfl hl (by decide) rfl (fun ls hl => ?_)
                  refine lv_aload_n hx hb d_X_readWord_178 rfl (lv_at hl 2 rfl) ?_
                  refine lv_dup hx hb d_X_readWord_179 rfl ?_
                  refine va_get (D := D) (ci := 7) (v := .int g99x0_25) (C := "SignMachineModel") (T := F_X) (N := 64) hx hb hk fi_X hown hK.1 hP 0 rfl rfl 25 (by decide) (hk _ k_1146) (fun _ h9 => h9) rfl d_X_readWord_180 ?_
                  refine lv_iload_n hx hb d_X_readWord_183 rfl (lv_at hl 0 rfl) ?_
                  refine lv_if_eq (tgt := 191) hx hb d_X_readWord_184 (by decide) (fun c15 => absurd c15 (show ¬ (1 : Int32) = (0 : Int32) from (by decide))) (fun c15 => ?_)
                  refine lv_iconst (v := 1) hx hb d_X_readWord_187 (by decide) ?_
                  refine lv_goto (tgt := 192) hx hb d_X_readWord_188 (by decide) ?_
                  refine lv_iadd hx hb d_X_readWord_192 ?_
                  refine lv_topi (fun v16 hv16 => ?_)
                  obtain ⟨ev16, Rv16⟩ : v16.toInt = g99x0_25.toInt + 1 ∧ (1 ≤ v16.toInt ∧ v16.toInt ≤ 4001) := ad3 hv16 Rg99x0_25 (by decide) (by decide) (by decide) (by decide) (by decide)
                  refine va_put (D := D) (ci := 7) (v := .int v16) (ty := .int) (C := "SignMachineModel") (T := F_X) (N := 64) hx hb hk fi_X ft_X ft_X_ok fn_X hown hK.1 hP hD hS 0 rfl rfl 25 (by decide) (hk _ k_1146) (fun _ h9 => h9) rfl (by decide +kernel) rfl rfl (Nat.le_of_ble_eq_true rfl) d_X_readWord_193 (fun H locs hP hD hS => ?_)
                  have hP : va_P D classes (wS50 cI cJ cZ cB p0 p1 p2 p3 p4 p5 p6 p7 p8 p9 p10 p11 p12 p13 p14 p15 p16 p17 p18 p19 p20 p21 p22 p23 p24 p25 x0_4 x0_5 x0_6 x0_7 x0_8 x0_12 x0_13 x0_14 x0_15 x0_16 x0_17 x0_18 x0_22 x0_23 x0_24 v16 g99x0_26 x0_27 x0_28 x0_29 x0_30 x0_31 x0_32 x0_36 x0_39 x0_40 x0_44 x0_49 x0_51 x0_53 g99x0_54 g99x0_55 g99x0_56 g163x0_57 g163x0_58 x0_59 x0_60 x0_61 x0_62 y1 y2 y3 y4 y5 y6 y7 y8 y9 y10 y11 y12 y13 y14 y15 y16 y17 y18 y19 y20 y21 y22 y23 y24 y25) H := hP
                  have hD : va_D A (wS50 cI cJ cZ cB p0 p1 p2 p3 p4 p5 p6 p7 p8 p9 p10 p11 p12 p13 p14 p15 p16 p17 p18 p19 p20 p21 p22 p23 p24 p25 x0_4 x0_5 x0_6 x0_7 x0_8 x0_12 x0_13 x0_14 x0_15 x0_16 x0_17 x0_18 x0_22 x0_23 x0_24 v16 g99x0_26 x0_27 x0_28 x0_29 x0_30 x0_31 x0_32 x0_36 x0_39 x0_40 x0_44 x0_49 x0_51 x0_53 g99x0_54 g99x0_55 g99x0_56 g163x0_57 g163x0_58 x0_59 x0_60 x0_61 x0_62 y1 y2 y3 y4 y5 y6 y7 y8 y9 y10 y11 y12 y13 y14 y15 y16 y17 y18 y19 y20 y21 y22 y23 y24 y25) := hD
                  refine lv_goto (tgt := 12) hx hb d_X_readWord_196 (by decide) ?_
                  exact ih12 (1 : Int32) v16 g99x0_26 g99x0_54 g99x0_55 g99x0_56 g163x0_57 g163x0_58 H _ ls (show 2 * (x0_24.toInt - v16.toInt) + 1 < (n : Int) from by omega) (by decide) (by omega) Rg99x0_26 Rg99x0_54 Rg163x0_57 Rg163x0_58 (show v16.toInt ≤ x0_24.toInt from by omega) (show x0_25.toInt ≤ v16.toInt from by omega) (show 1 ≤ x0_26.toInt → 1 ≤ g99x0_26.toInt from by omega) hP hD hS (lv_sub hl [0, 2] rfl)
              refine lv_aload_n hx hb d_X_readWord_112 rfl (lv_at hl 2 rfl) ?_
              refine lv_lload hx hb d_X_readWord_113 (lv_at hl 4 rfl) ?_
              refine lv_ldc2 (v := 8) hx hb hown (hk _ k_1335) d_X_readWord_115 ?_
              refine lv_ldiv hx hb d_X_readWord_118 (by decide) ?_
              refine lv_topl (fun v17 hv17 => ?_)
              obtain ⟨ev17, Rv17⟩ : v17.toInt = g99l4.toInt / 8 ∧ (0 ≤ v17.toInt ∧ v17.toInt ≤ 7) := dv6 hv17 Rg99l4 (by decide) (by decide) (by decide) (by decide)
              refine lv_lconst (v := 0) hx hb d_X_readWord_119 (by decide) ?_
              refine W.lcmp hx hb d_X_readWord_120 ?_
              refine lv_topi (fun v18 hv18 => ?_)
              refine lv_if_ne (tgt := 129) hx hb d_X_readWord_121 (by decide) (fun c19 => ?_) (fun c19 => ?_)
              · have gc19 : v17.toInt ≠ 0 := lc_neq hv18 c19
                have R20 : 1 ≤ v17.toInt ∧ v17.toInt ≤ 7 := by omega
                refine lv_aload_n hx hb d_X_readWord_129 rfl (lv_at hl 2 rfl) ?_
                refine va_get (D := D) (ci := 7) (v := .int g12x0_57) (C := "SignMachineModel") (T := F_X) (N := 64) hx hb hk fi_X hown hK.1 hP 0 rfl rfl 57 (by decide) (hk _ k_1178) (fun _ h9 => h9) rfl d_X_readWord_130 ?_
                refine va_put (D := D) (ci := 7) (v := .int g12x0_57) (ty := .int) (C := "SignMachineModel") (T := F_X) (N := 64) hx hb hk fi_X ft_X ft_X_ok fn_X hown hK.1 hP hD hS 0 rfl rfl 57 (by decide) (hk _ k_1178) (fun _ h9 => h9) rfl (by decide +kernel) rfl rfl (Nat.le_of_ble_eq_true rfl) d_X_readWord_133 (fun H locs hP hD hS => ?_)
                have hP : va_P D classes (wS50 cI cJ cZ cB p0 p1 p2 p3 p4 p5 p6 p7 p8 p9 p10 p11 p12 p13 p14 p15 p16 p17 p18 p19 p20 p21 p22 p23 p24 p25 x0_4 x0_5 x0_6 x0_7 x0_8 x0_12 x0_13 x0_14 x0_15 x0_16 x0_17 x0_18 x0_22 x0_23 x0_24 g99x0_25 g99x0_26 x0_27 x0_28 x0_29 x0_30 x0_31 x0_32 x0_36 x0_39 x0_40 x0_44 x0_49 x0_51 x0_53 g99x0_54 g99x0_55 g99x0_56 g12x0_57 g12x0_58 x0_59 x0_60 x0_61 x0_62 y1 y2 y3 y4 y5 y6 y7 y8 y9 y10 y11 y12 y13 y14 y15 y16 y17 y18 y19 y20 y21 y22 y23 y24 y25) H := hP
                have hD : va_D A (wS50 cI cJ cZ cB p0 p1 p2 p3 p4 p5 p6 p7 p8 p9 p10 p11 p12 p13 p14 p15 p16 p17 p18 p19 p20 p21 p22 p23 p24 p25 x0_4 x0_5 x0_6 x0_7 x0_8 x0_12 x0_13 x0_14 x0_15 x0_16 x0_17 x0_18 x0_22 x0_23 x0_24 g99x0_25 g99x0_26 x0_27 x0_28 x0_29 x0_30 x0_31 x0_32 x0_36 x0_39 x0_40 x0_44 x0_49 x0_51 x0_53 g99x0_54 g99x0_55 g99x0_56 g12x0_57 g12x0_58 x0_59 x0_60 x0_61 x0_62 y1 y2 y3 y4 y5 y6 y7 y8 y9 y10 y11 y12 y13 y14 y15 y16 y17 y18 y19 y20 y21 y22 y23 y24 y25) := hD
                refine lv_aload_n hx hb d_X_readWord_136 rfl (lv_at hl 2 rfl) ?_
                refine lv_aload_n hx hb d_X_readWord_137 rfl (lv_at hl 2 rfl) ?_
                refine va_get (D := D) (ci := 7) (v := .int g12x0_58) (C := "SignMachineModel") (T := F_X) (N := 64) hx hb hk fi_X hown hK.1 hP 0 rfl rfl 58 (by decide) (hk _ k_1179) (fun _ h9 => h9) rfl d_X_readWord_138 ?_
                refine lv_lload_n hx hb d_X_readWord_141 rfl (lv_at hl 3 rfl) ?_
                refine lv_lconst (v := 0) hx hb d_X_readWord_142 (by decide) ?_
                refine W.lcmp hx hb d_X_readWord_143 ?_
                refine lv_topi (fun v21 hv21 => ?_)
                refine lv_if_ge (tgt := 152) hx hb d_X_readWord_144 (by decide) (fun c22 => ?_) (fun c22 => absurd (show (0 : Int32) ≤ v21 from (lcr_ge hv21 (by omega))) c22)
                refine lv_lload_n hx hb d_X_readWord_152 rfl (lv_at hl 3 rfl) ?_
                refine lv_l2i (v := (g99l2 : Int64).toInt32) hx hb d_X_readWord_153 rfl ?_
                refine lv_topi (fun v23 hv23 => ?_)
                obtain ⟨ev23, Rv23⟩ : v23.toInt = g99l2.toInt ∧ (0 ≤ v23.toInt ∧ v23.toInt ≤ 1073741823) := li3 hv23 R9 (by decide) (by decide)
                refine lv_lload hx hb d_X_readWord_154 (lv_at hl 4 rfl) ?_
                refine lv_l2i (v := (g99l4 : Int64).toInt32) hx hb d_X_readWord_156 rfl ?_
                refine lv_topi (fun v24 hv24 => ?_)
                obtain ⟨ev24, Rv24⟩ : v24.toInt = g99l4.toInt ∧ (0 ≤ v24.toInt ∧ v24.toInt ≤ 63) := li3 hv24 Rg99l4 (by decide) (by decide)
                refine vp_callSi (W.runS (As := [.int g12x0_58, .int v23, .int v24]) (rest := [.ref p0]) ⟨hx, hb, hml, hown, hk⟩ (c_X_stored l g12x0_58 v23 v24 (show v24.toInt / 8 ≤ v24.toInt % 8 ∧ v24.toInt % 8 ≤ 5 from by omega) Rg12x0_58 Rv23 Rv24) (s_X_stored hk k_1470 ⟨Nat.le_of_ble_eq_true rfl, Nat.le_of_ble_eq_true rfl⟩) ⟨fun a U g mk q => q, fun U hU hW => ⟨rfl, trivial⟩⟩ rfl rfl hl.1 rfl (lv_room (Nat.le_of_ble_eq_true rfl)) d_X_readWord_157 ⟨Nat.le_of_ble_eq_true rfl, Nat.le_of_ble_eq_true rfl⟩) (fun rz25 hrz25 => ?_)
                have F0z25 := hrz25
                have F0z25 : 0 ≤ rz25.toInt ∧ rz25.toInt ≤ 1073741823 := F0z25
                refine va_put (D := D) (ci := 7) (v := .int rz25) (ty := .int) (C := "SignMachineModel") (T := F_X) (N := 64) hx hb hk fi_X ft_X ft_X_ok fn_X hown hK.1 hP hD hS 0 rfl rfl 58 (by decide) (hk _ k_1179) (fun _ h9 => h9) rfl (by decide +kernel) rfl rfl (Nat.le_of_ble_eq_true rfl) d_X_readWord_160 (fun H locs hP hD hS => ?_)
                have hP : va_P D classes (wS50 cI cJ cZ cB p0 p1 p2 p3 p4 p5 p6 p7 p8 p9 p10 p11 p12 p13 p14 p15 p16 p17 p18 p19 p20 p21 p22 p23 p24 p25 x0_4 x0_5 x0_6 x0_7 x0_8 x0_12 x0_13 x0_14 x0_15 x0_16 x0_17 x0_18 x0_22 x0_23 x0_24 g99x0_25 g99x0_26 x0_27 x0_28 x0_29 x0_30 x0_31 x0_32 x0_36 x0_39 x0_40 x0_44 x0_49 x0_51 x0_53 g99x0_54 g99x0_55 g99x0_56 g12x0_57 rz25 x0_59 x0_60 x0_61 x0_62 y1 y2 y3 y4 y5 y6 y7 y8 y9 y10 y11 y12 y13 y14 y15 y16 y17 y18 y19 y20 y21 y22 y23 y24 y25) H := hP
                have hD : va_D A (wS50 cI cJ cZ cB p0 p1 p2 p3 p4 p5 p6 p7 p8 p9 p10 p11 p12 p13 p14 p15 p16 p17 p18 p19 p20 p21 p22 p23 p24 p25 x0_4 x0_5 x0_6 x0_7 x0_8 x0_12 x0_13 x0_14 x0_15 x0_16 x0_17 x0_18 x0_22 x0_23 x0_24 g99x0_25 g99x0_26 x0_27 x0_28 x0_29 x0_30 x0_31 x0_32 x0_36 x0_39 x0_40 x0_44 x0_49 x0_51 x0_53 g99x0_54 g99x0_55 g99x0_56 g12x0_57 rz25 x0_59 x0_60 x0_61 x0_62 y1 y2 y3 y4 y5 y6 y7 y8 y9 y10 y11 y12 y13 y14 y15 y16 y17 y18 y19 y20 y21 y22 y23 y24 y25) := hD
                exact CUT163 g12x0_57 rz25 H _ ls Rg12x0_57 F0z25 hP hD hS (lv_sub hl [0, 1, 2, 3, 4] rfl)
              · have gc19 : v17.toInt = 0 := lc_eq hv18 c19
                have R26 : 0 ≤ v17.toInt ∧ v17.toInt ≤ 0 := by omega
                refine lv_iload hx hb d_X_readWord_124 (lv_at hl 0 rfl) ?_
                refine lv_goto (tgt := 133) hx hb d_X_readWord_126 (by decide) ?_
                refine va_put (D := D) (ci := 7) (v := .int (0 : Int32)) (ty := .int) (C := "SignMachineModel") (T := F_X) (N := 64) hx hb hk fi_X ft_X ft_X_ok fn_X hown hK.1 hP hD hS 0 rfl rfl 57 (by decide) (hk _ k_1178) (fun _ h9 => h9) rfl (by decide +kernel) rfl rfl (Nat.le_of_ble_eq_true rfl) d_X_readWord_133 (fun H locs hP hD hS => ?_)
                have hP : va_P D classes (wS50 cI cJ cZ cB p0 p1 p2 p3 p4 p5 p6 p7 p8 p9 p10 p11 p12 p13 p14 p15 p16 p17 p18 p19 p20 p21 p22 p23 p24 p25 x0_4 x0_5 x0_6 x0_7 x0_8 x0_12 x0_13 x0_14 x0_15 x0_16 x0_17 x0_18 x0_22 x0_23 x0_24 g99x0_25 g99x0_26 x0_27 x0_28 x0_29 x0_30 x0_31 x0_32 x0_36 x0_39 x0_40 x0_44 x0_49 x0_51 x0_53 g99x0_54 g99x0_55 g99x0_56 (0 : Int32) g12x0_58 x0_59 x0_60 x0_61 x0_62 y1 y2 y3 y4 y5 y6 y7 y8 y9 y10 y11 y12 y13 y14 y15 y16 y17 y18 y19 y20 y21 y22 y23 y24 y25) H := hP
                have hD : va_D A (wS50 cI cJ cZ cB p0 p1 p2 p3 p4 p5 p6 p7 p8 p9 p10 p11 p12 p13 p14 p15 p16 p17 p18 p19 p20 p21 p22 p23 p24 p25 x0_4 x0_5 x0_6 x0_7 x0_8 x0_12 x0_13 x0_14 x0_15 x0_16 x0_17 x0_18 x0_22 x0_23 x0_24 g99x0_25 g99x0_26 x0_27 x0_28 x0_29 x0_30 x0_31 x0_32 x0_36 x0_39 x0_40 x0_44 x0_49 x0_51 x0_53 g99x0_54 g99x0_55 g99x0_56 (0 : Int32) g12x0_58 x0_59 x0_60 x0_61 x0_62 y1 y2 y3 y4 y5 y6 y7 y8 y9 y10 y11 y12 y13 y14 y15 y16 y17 y18 y19 y20 y21 y22 y23 y24 y25) := hD
                refine lv_aload_n hx hb d_X_readWord_136 rfl (lv_at hl 2 rfl) ?_
                refine lv_aload_n hx hb d_X_readWord_137 rfl (lv_at hl 2 rfl) ?_
                refine va_get (D := D) (ci := 7) (v := .int g12x0_58) (C := "SignMachineModel") (T := F_X) (N := 64) hx hb hk fi_X hown hK.1 hP 0 rfl rfl 58 (by decide) (hk _ k_1179) (fun _ h9 => h9) rfl d_X_readWord_138 ?_
                refine lv_lload_n hx hb d_X_readWord_141 rfl (lv_at hl 3 rfl) ?_
                refine lv_lconst (v := 0) hx hb d_X_readWord_142 (by decide) ?_
                refine W.lcmp hx hb d_X_readWord_143 ?_
                refine lv_topi (fun v27 hv27 => ?_)
                refine lv_if_ge (tgt := 152) hx hb d_X_readWord_144 (by decide) (fun c28 => ?_) (fun c28 => absurd (show (0 : Int32) ≤ v27 from (lcr_ge hv27 (by omega))) c28)
                refine lv_lload_n hx hb d_X_readWord_152 rfl (lv_at hl 3 rfl) ?_
                refine lv_l2i (v := (g99l2 : Int64).toInt32) hx hb d_X_readWord_153 rfl ?_
                refine lv_topi (fun v29 hv29 => ?_)
                obtain ⟨ev29, Rv29⟩ : v29.toInt = g99l2.toInt ∧ (0 ≤ v29.toInt ∧ v29.toInt ≤ 1073741823) := li3 hv29 R9 (by decide) (by decide)
                refine lv_lload hx hb d_X_readWord_154 (lv_at hl 4 rfl) ?_
                refine lv_l2i (v := (g99l4 : Int64).toInt32) hx hb d_X_readWord_156 rfl ?_
                refine lv_topi (fun v30 hv30 => ?_)
                obtain ⟨ev30, Rv30⟩ : v30.toInt = g99l4.toInt ∧ (0 ≤ v30.toInt ∧ v30.toInt ≤ 63) := li3 hv30 Rg99l4 (by decide) (by decide)
                refine vp_callSi (W.runS (As := [.int g12x0_58, .int v29, .int v30]) (rest := [.ref p0]) ⟨hx, hb, hml, hown, hk⟩ (c_X_stored l g12x0_58 v29 v30 (show v30.toInt / 8 ≤ v30.toInt % 8 ∧ v30.toInt % 8 ≤ 5 from by omega) Rg12x0_58 Rv29 Rv30) (s_X_stored hk k_1470 ⟨Nat.le_of_ble_eq_true rfl, Nat.le_of_ble_eq_true rfl⟩) ⟨fun a U g mk q => q, fun U hU hW => ⟨rfl, trivial⟩⟩ rfl rfl hl.1 rfl (lv_room (Nat.le_of_ble_eq_true rfl)) d_X_readWord_157 ⟨Nat.le_of_ble_eq_true rfl, Nat.le_of_ble_eq_true rfl⟩) (fun rz31 hrz31 => ?_)
                have F0z31 := hrz31
                have F0z31 : 0 ≤ rz31.toInt ∧ rz31.toInt ≤ 1073741823 := F0z31
                refine va_put (D := D) (ci := 7) (v := .int rz31) (ty := .int) (C := "SignMachineModel") (T := F_X) (N := 64) hx hb hk fi_X ft_X ft_X_ok fn_X hown hK.1 hP hD hS 0 rfl rfl 58 (by decide) (hk _ k_1179) (fun _ h9 => h9) rfl (by decide +kernel) rfl rfl (Nat.le_of_ble_eq_true rfl) d_X_readWord_160 (fun H locs hP hD hS => ?_)
                have hP : va_P D classes (wS50 cI cJ cZ cB p0 p1 p2 p3 p4 p5 p6 p7 p8 p9 p10 p11 p12 p13 p14 p15 p16 p17 p18 p19 p20 p21 p22 p23 p24 p25 x0_4 x0_5 x0_6 x0_7 x0_8 x0_12 x0_13 x0_14 x0_15 x0_16 x0_17 x0_18 x0_22 x0_23 x0_24 g99x0_25 g99x0_26 x0_27 x0_28 x0_29 x0_30 x0_31 x0_32 x0_36 x0_39 x0_40 x0_44 x0_49 x0_51 x0_53 g99x0_54 g99x0_55 g99x0_56 (0 : Int32) rz31 x0_59 x0_60 x0_61 x0_62 y1 y2 y3 y4 y5 y6 y7 y8 y9 y10 y11 y12 y13 y14 y15 y16 y17 y18 y19 y20 y21 y22 y23 y24 y25) H := hP
                have hD : va_D A (wS50 cI cJ cZ cB p0 p1 p2 p3 p4 p5 p6 p7 p8 p9 p10 p11 p12 p13 p14 p15 p16 p17 p18 p19 p20 p21 p22 p23 p24 p25 x0_4 x0_5 x0_6 x0_7 x0_8 x0_12 x0_13 x0_14 x0_15 x0_16 x0_17 x0_18 x0_22 x0_23 x0_24 g99x0_25 g99x0_26 x0_27 x0_28 x0_29 x0_30 x0_31 x0_32 x0_36 x0_39 x0_40 x0_44 x0_49 x0_51 x0_53 g99x0_54 g99x0_55 g99x0_56 (0 : Int32) rz31 x0_59 x0_60 x0_61 x0_62 y1 y2 y3 y4 y5 y6 y7 y8 y9 y10 y11 y12 y13 y14 y15 y16 y17 y18 y19 y20 y21 y22 y23 y24 y25) := hD
                exact CUT163 (0 : Int32) rz31 H _ ls (by decide) F0z31 hP hD hS (lv_sub hl [0, 1, 2, 3, 4] rfl)
            · have gc8 : g99l2.toInt < 0 := lc_nge hv7 c8
              have R32 : (-1073741823) ≤ g99l2.toInt ∧ g99l2.toInt ≤ (-1) := by omega
              refine lv_iconst (v := 1) hx hb d_X_readWord_105 (by decide) ?_
              refine lv_goto (tgt := 110) hx hb d_X_readWord_106 (by decide) ?_
              refine lv_istore (lv' := [(6, .int (1 : Int32)), (1, .int g12l1), (0, .ref p0), (2, .long g99l2), (4, .long g99l4)]) hx hb d_X_readWord_110 hl (by decide) rfl (fun ls hl => ?_)
              have CUT163 : ∀  (g163x0_57 : Int32) (g163x0_58 : Int32) (H : Heap) (locs : List Loc) (ls : Array Slot), (0 ≤ g163x0_57.toInt ∧ g163x0_57.toInt ≤ 1) → (0 ≤ g163x0_58.toInt ∧ g163x0_58.toInt ≤ 1073741823) → va_P D classes (wS50 cI cJ cZ cB p0 p1 p2 p3 p4 p5 p6 p7 p8 p9 p10 p11 p12 p13 p14 p15 p16 p17 p18 p19 p20 p21 p22 p23 p24 p25 x0_4 x0_5 x0_6 x0_7 x0_8 x0_12 x0_13 x0_14 x0_15 x0_16 x0_17 x0_18 x0_22 x0_23 x0_24 g99x0_25 g99x0_26 x0_27 x0_28 x0_29 x0_30 x0_31 x0_32 x0_36 x0_39 x0_40 x0_44 x0_49 x0_51 x0_53 g99x0_54 g99x0_55 g99x0_56 g163x0_57 g163x0_58 x0_59 x0_60 x0_61 x0_62 y1 y2 y3 y4 y5 y6 y7 y8 y9 y10 y11 y12 y13 y14 y15 y16 y17 y18 y19 y20 y21 y22 y23 y24 y25) H → va_D A (wS50 cI cJ cZ cB p0 p1 p2 p3 p4 p5 p6 p7 p8 p9 p10 p11 p12 p13 p14 p15 p16 p17 p18 p19 p20 p21 p22 p23 p24 p25 x0_4 x0_5 x0_6 x0_7 x0_8 x0_12 x0_13 x0_14 x0_15 x0_16 x0_17 x0_18 x0_22 x0_23 x0_24 g99x0_25 g99x0_26 x0_27 x0_28 x0_29 x0_30 x0_31 x0_32 x0_36 x0_39 x0_40 x0_44 x0_49 x0_51 x0_53 g99x0_54 g99x0_55 g99x0_56 g163x0_57 g163x0_58 x0_59 x0_60 x0_61 x0_62 y1 y2 y3 y4 y5 y6 y7 y8 y9 y10 y11 y12 y13 y14 y15 y16 y17 y18 y19 y20 y21 y22 y23 y24 y25) → va_S A s.heap H locs → lv_has ls 7 [(6, .int (1 : Int32)), (1, .int g12l1), (0, .ref p0), (2, .long g99l2), (4, .long g99l4)] → W p l e ({ frames := 5, cells := 0, slots := 0, locals := 120 }) s m [.ref p0].toArray below meth c H locs 0 0 (MQ below (va_Qv (fun (_ : Unit) => True) (fun _ t => ∃ u_x0_25 : Int32, ∃ u_x0_26 : Int32, ∃ u_x0_54 : Int32, ∃ u_x0_55 : Int64, ∃ u_x0_56 : Int32, ∃ u_x0_57 : Int32, ∃ u_x0_58 : Int32, (0 ≤ u_x0_25.toInt ∧ u_x0_25.toInt ≤ 4000) ∧ (0 ≤ u_x0_26.toInt ∧ u_x0_26.toInt ≤ 6) ∧ (0 ≤ u_x0_54.toInt ∧ u_x0_54.toInt ≤ 3) ∧ (0 ≤ u_x0_57.toInt ∧ u_x0_57.toInt ≤ 1) ∧ (0 ≤ u_x0_58.toInt ∧ u_x0_58.toInt ≤ 1073741823) ∧ (x0_25.toInt ≤ u_x0_25.toInt ∧ u_x0_25.toInt ≤ x0_24.toInt) ∧ (1 ≤ x0_26.toInt → 1 ≤ u_x0_26.toInt) ∧ va_P D classes (wS50 cI cJ cZ cB p0 p1 p2 p3 p4 p5 p6 p7 p8 p9 p10 p11 p12 p13 p14 p15 p16 p17 p18 p19 p20 p21 p22 p23 p24 p25 x0_4 x0_5 x0_6 x0_7 x0_8 x0_12 x0_13 x0_14 x0_15 x0_16 x0_17 x0_18 x0_22 x0_23 x0_24 u_x0_25 u_x0_26 x0_27 x0_28 x0_29 x0_30 x0_31 x0_32 x0_36 x0_39 x0_40 x0_44 x0_49 x0_51 x0_53 u_x0_54 u_x0_55 u_x0_56 u_x0_57 u_x0_58 x0_59 x0_60 x0_61 x0_62 y1 y2 y3 y4 y5 y6 y7 y8 y9 y10 y11 y12 y13 y14 y15 y16 y17 y18 y19 y20 y21 y22 y23 y24 y25) t.heap ∧ va_D A (wS50 cI cJ cZ cB p0 p1 p2 p3 p4 p5 p6 p7 p8 p9 p10 p11 p12 p13 p14 p15 p16 p17 p18 p19 p20 p21 p22 p23 p24 p25 x0_4 x0_5 x0_6 x0_7 x0_8 x0_12 x0_13 x0_14 x0_15 x0_16 x0_17 x0_18 x0_22 x0_23 x0_24 u_x0_25 u_x0_26 x0_27 x0_28 x0_29 x0_30 x0_31 x0_32 x0_36 x0_39 x0_40 x0_44 x0_49 x0_51 x0_53 u_x0_54 u_x0_55 u_x0_56 u_x0_57 u_x0_58 x0_59 x0_60 x0_61 x0_62 y1 y2 y3 y4 y5 y6 y7 y8 y9 y10 y11 y12 y13 y14 y15 y16 y17 y18 y19 y20 y21 y22 y23 y24 y25)) A) [.ref p0].toArray s 0 0 A) (F0 m 163 ls []) := by
                intro g163x0_57 g163x0_58 H locs ls Rg163x0_57 Rg163x0_58 hP hD hS hl
                refine lv_aload_n hx hb d_X_readWord_163 rfl (lv_at hl 2 rfl) ?_
                refine sn_i (va_runV (C := "SignMachineModel") (As := []) (rest := []) ⟨hx, hb, hml, hown, hk⟩ (c_X_here l D cI cJ cZ cB p0 p1 p2 p3 p4 p5 p6 p7 p8 p9 p10 p11 p12 p13 p14 p15 p16 p17 p18 p19 p20 p21 p22 p23 p24 p25 H.size x0_4 x0_5 x0_6 x0_7 x0_8 x0_12 x0_13 x0_14 x0_15 x0_16 x0_17 x0_18 x0_22 x0_23 x0_24 g99x0_25 g99x0_26 x0_27 x0_28 x0_29 x0_30 x0_31 x0_32 x0_36 x0_39 x0_40 x0_44 x0_49 x0_51 x0_53 g99x0_54 g99x0_55 g99x0_56 g163x0_57 g163x0_58 x0_59 x0_60 x0_61 x0_62 y1 y2 y3 y4 y5 y6 y7 y8 y9 y10 y11 y12 y13 y14 y15 y16 y17 y18 y19 y20 y21 y22 y23 y24 y25  Rx0_24 Rg99x0_25) (v_X_here hk k_1537 ⟨Nat.le_of_ble_eq_true rfl, Nat.le_of_ble_eq_true rfl⟩) (pM_v hK hP hD (ci := 7) (q0 := 0) rfl rfl rfl) rfl rfl hl.1 rfl (lv_room (Nat.le_of_ble_eq_true rfl)) d_X_readWord_164 ⟨Nat.le_of_ble_eq_true rfl, Nat.le_of_ble_eq_true rfl⟩) hS hA hD (fun rz33 u t H locs hr0 ht hB hFr hS => ?_)
                subst hr0
                obtain ⟨F0z33, hP, hD⟩ := hB
                have F0z33 : (g99x0_25.toInt < x0_24.toInt ∧ rz33.toInt = (y10 (g99x0_25).toNatClampNeg).toInt) ∨ (x0_24.toInt ≤ g99x0_25.toInt ∧ rz33.toInt = -1) := F0z33
                rw [ht] at hP
                have hD := dwk hD hFr
                clear ht hFr
                have hP : va_P D classes (wS50 cI cJ cZ cB p0 p1 p2 p3 p4 p5 p6 p7 p8 p9 p10 p11 p12 p13 p14 p15 p16 p17 p18 p19 p20 p21 p22 p23 p24 p25 x0_4 x0_5 x0_6 x0_7 x0_8 x0_12 x0_13 x0_14 x0_15 x0_16 x0_17 x0_18 x0_22 x0_23 x0_24 g99x0_25 g99x0_26 x0_27 x0_28 x0_29 x0_30 x0_31 x0_32 x0_36 x0_39 x0_40 x0_44 x0_49 x0_51 x0_53 g99x0_54 g99x0_55 g99x0_56 g163x0_57 g163x0_58 x0_59 x0_60 x0_61 x0_62 y1 y2 y3 y4 y5 y6 y7 y8 y9 y10 y11 y12 y13 y14 y15 y16 y17 y18 y19 y20 y21 y22 y23 y24 y25) H := hP
                have hD : va_D A (wS50 cI cJ cZ cB p0 p1 p2 p3 p4 p5 p6 p7 p8 p9 p10 p11 p12 p13 p14 p15 p16 p17 p18 p19 p20 p21 p22 p23 p24 p25 x0_4 x0_5 x0_6 x0_7 x0_8 x0_12 x0_13 x0_14 x0_15 x0_16 x0_17 x0_18 x0_22 x0_23 x0_24 g99x0_25 g99x0_26 x0_27 x0_28 x0_29 x0_30 x0_31 x0_32 x0_36 x0_39 x0_40 x0_44 x0_49 x0_51 x0_53 g99x0_54 g99x0_55 g99x0_56 g163x0_57 g163x0_58 x0_59 x0_60 x0_61 x0_62 y1 y2 y3 y4 y5 y6 y7 y8 y9 y10 y11 y12 y13 y14 y15 y16 y17 y18 y19 y20 y21 y22 y23 y24 y25) := hD
                refine lv_bipush (v := 44) hx hb d_X_readWord_167 (by decide) ?_
                refine lv_icmp_ne (tgt := 176) hx hb d_X_readWord_169 (by decide) (fun c34 => ?_) (fun c34 => ?_)
                · have gc34 : rz33.toInt ≠ 44 := c_ne c34
                  refine lv_iconst (v := 0) hx hb d_X_readWord_176 (by decide) ?_
                  refine lv_istore_n (lv' := [(1, .int (0 : Int32)), (6, .int (1 : Int32)), (0, .ref p0), (2, .long g99l2), (4, .long g99l4)]) hx hb d_X_readWord_177 rfl hl (by decide) rfl (fun ls hl => ?_)
                  refine lv_aload_n hx hb d_X_readWord_178 rfl (lv_at hl 2 rfl) ?_
                  refine lv_dup hx hb d_X_readWord_179 rfl ?_
                  refine va_get (D := D) (ci := 7) (v := .int g99x0_25) (C := "SignMachineModel") (T := F_X) (N := 64) hx hb hk fi_X hown hK.1 hP 0 rfl rfl 25 (by decide) (hk _ k_1146) (fun _ h9 => h9) rfl d_X_readWord_180 ?_
                  refine lv_iload_n hx hb d_X_readWord_183 rfl (lv_at hl 0 rfl) ?_
                  refine lv_if_eq (tgt := 191) hx hb d_X_readWord_184 (by decide) (fun c35 => ?_) (fun c35 => absurd (show (0 : Int32) = (0 : Int32) from (by decide)) c35)
                  refine lv_iconst (v := 0) hx hb d_X_readWord_191 (by decide) ?_
                  refine lv_iadd hx hb d_X_readWord_192 ?_
                  refine lv_topi (fun v36 hv36 => ?_)
                  obtain ⟨ev36, Rv36⟩ : v36.toInt = g99x0_25.toInt + 0 ∧ (0 ≤ v36.toInt ∧ v36.toInt ≤ 4000) := ad3 hv36 Rg99x0_25 (by decide) (by decide) (by decide) (by decide) (by decide)
                  refine va_put (D := D) (ci := 7) (v := .int v36) (ty := .int) (C := "SignMachineModel") (T := F_X) (N := 64) hx hb hk fi_X ft_X ft_X_ok fn_X hown hK.1 hP hD hS 0 rfl rfl 25 (by decide) (hk _ k_1146) (fun _ h9 => h9) rfl (by decide +kernel) rfl rfl (Nat.le_of_ble_eq_true rfl) d_X_readWord_193 (fun H locs hP hD hS => ?_)
                  have hP : va_P D classes (wS50 cI cJ cZ cB p0 p1 p2 p3 p4 p5 p6 p7 p8 p9 p10 p11 p12 p13 p14 p15 p16 p17 p18 p19 p20 p21 p22 p23 p24 p25 x0_4 x0_5 x0_6 x0_7 x0_8 x0_12 x0_13 x0_14 x0_15 x0_16 x0_17 x0_18 x0_22 x0_23 x0_24 v36 g99x0_26 x0_27 x0_28 x0_29 x0_30 x0_31 x0_32 x0_36 x0_39 x0_40 x0_44 x0_49 x0_51 x0_53 g99x0_54 g99x0_55 g99x0_56 g163x0_57 g163x0_58 x0_59 x0_60 x0_61 x0_62 y1 y2 y3 y4 y5 y6 y7 y8 y9 y10 y11 y12 y13 y14 y15 y16 y17 y18 y19 y20 y21 y22 y23 y24 y25) H := hP
                  have hD : va_D A (wS50 cI cJ cZ cB p0 p1 p2 p3 p4 p5 p6 p7 p8 p9 p10 p11 p12 p13 p14 p15 p16 p17 p18 p19 p20 p21 p22 p23 p24 p25 x0_4 x0_5 x0_6 x0_7 x0_8 x0_12 x0_13 x0_14 x0_15 x0_16 x0_17 x0_18 x0_22 x0_23 x0_24 v36 g99x0_26 x0_27 x0_28 x0_29 x0_30 x0_31 x0_32 x0_36 x0_39 x0_40 x0_44 x0_49 x0_51 x0_53 g99x0_54 g99x0_55 g99x0_56 g163x0_57 g163x0_58 x0_59 x0_60 x0_61 x0_62 y1 y2 y3 y4 y5 y6 y7 y8 y9 y10 y11 y12 y13 y14 y15 y16 y17 y18 y19 y20 y21 y22 y23 y24 y25) := hD
                  refine lv_goto (tgt := 12) hx hb d_X_readWord_196 (by decide) ?_
                  exact ih12 (0 : Int32) v36 g99x0_26 g99x0_54 g99x0_55 g99x0_56 g163x0_57 g163x0_58 H _ ls (show 2 * (x0_24.toInt - v36.toInt) + 0 < (n : Int) from by omega) (by decide) Rv36 Rg99x0_26 Rg99x0_54 Rg163x0_57 Rg163x0_58 (show v36.toInt ≤ x0_24.toInt from by omega) (show x0_25.toInt ≤ v36.toInt from by omega) (show 1 ≤ x0_26.toInt → 1 ≤ g99x0_26.toInt from by omega) hP hD hS (lv_sub hl [0, 2] rfl)
                · have gc34 : rz33.toInt = 44 := c_eq c34
                  have R37 : 44 ≤ rz33.toInt ∧ rz33.toInt ≤ 44 := by omega
                  refine lv_iconst (v := 1) hx hb d_X_readWord_172 (by decide) ?_
                  refine lv_goto (tgt := 177) hx hb d_X_readWord_173 (by decide) ?_
                  refine lv_istore_n (lv' := [(1, .int (1 : Int32)), (6, .int (1 : Int32)), (0, .ref p0), (2, .long g99l2), (4, .long g99l4)]) hx hb d_X_readWord_177 rfl hl (by decide) rfl (fun ls hl => ?_)
                  refine lv_aload_n hx hb d_X_readWord_178 rfl (lv_at hl 2 rfl) ?_
                  refine lv_dup hx hb d_X_readWord_179 rfl ?_
                  refine va_get (D := D) (ci := 7) (v := .int g99x0_25) (C := "SignMachineModel") (T := F_X) (N := 64) hx hb hk fi_X hown hK.1 hP 0 rfl rfl 25 (by decide) (hk _ k_1146) (fun _ h9 => h9) rfl d_X_readWord_180 ?_
                  refine lv_iload_n hx hb d_X_readWord_183 rfl (lv_at hl 0 rfl) ?_
                  refine lv_if_eq (tgt := 191) hx hb d_X_readWord_184 (by decide) (fun c38 => absurd c38 (show ¬ (1 : Int32) = (0 : Int32) from (by decide))) (fun c38 => ?_)
                  refine lv_iconst (v := 1) hx hb d_X_readWord_187 (by decide) ?_
                  refine lv_goto (tgt := 192) hx hb d_X_readWord_188 (by decide) ?_
                  refine lv_iadd hx hb d_X_readWord_192 ?_
                  refine lv_topi (fun v39 hv39 => ?_)
                  obtain ⟨ev39, Rv39⟩ : v39.toInt = g99x0_25.toInt + 1 ∧ (1 ≤ v39.toInt ∧ v39.toInt ≤ 4001) := ad3 hv39 Rg99x0_25 (by decide) (by decide) (by decide) (by decide) (by decide)
                  refine va_put (D := D) (ci := 7) (v := .int v39) (ty := .int) (C := "SignMachineModel") (T := F_X) (N := 64) hx hb hk fi_X ft_X ft_X_ok fn_X hown hK.1 hP hD hS 0 rfl rfl 25 (by decide) (hk _ k_1146) (fun _ h9 => h9) rfl (by decide +kernel) rfl rfl (Nat.le_of_ble_eq_true rfl) d_X_readWord_193 (fun H locs hP hD hS => ?_)
                  have hP : va_P D classes (wS50 cI cJ cZ cB p0 p1 p2 p3 p4 p5 p6 p7 p8 p9 p10 p11 p12 p13 p14 p15 p16 p17 p18 p19 p20 p21 p22 p23 p24 p25 x0_4 x0_5 x0_6 x0_7 x0_8 x0_12 x0_13 x0_14 x0_15 x0_16 x0_17 x0_18 x0_22 x0_23 x0_24 v39 g99x0_26 x0_27 x0_28 x0_29 x0_30 x0_31 x0_32 x0_36 x0_39 x0_40 x0_44 x0_49 x0_51 x0_53 g99x0_54 g99x0_55 g99x0_56 g163x0_57 g163x0_58 x0_59 x0_60 x0_61 x0_62 y1 y2 y3 y4 y5 y6 y7 y8 y9 y10 y11 y12 y13 y14 y15 y16 y17 y18 y19 y20 y21 y22 y23 y24 y25) H := hP
                  have hD : va_D A (wS50 cI cJ cZ cB p0 p1 p2 p3 p4 p5 p6 p7 p8 p9 p10 p11 p12 p13 p14 p15 p16 p17 p18 p19 p20 p21 p22 p23 p24 p25 x0_4 x0_5 x0_6 x0_7 x0_8 x0_12 x0_13 x0_14 x0_15 x0_16 x0_17 x0_18 x0_22 x0_23 x0_24 v39 g99x0_26 x0_27 x0_28 x0_29 x0_30 x0_31 x0_32 x0_36 x0_39 x0_40 x0_44 x0_49 x0_51 x0_53 g99x0_54 g99x0_55 g99x0_56 g163x0_57 g163x0_58 x0_59 x0_60 x0_61 x0_62 y1 y2 y3 y4 y5 y6 y7 y8 y9 y10 y11 y12 y13 y14 y15 y16 y17 y18 y19 y20 y21 y22 y23 y24 y25) := hD
                  refine lv_goto (tgt := 12) hx hb d_X_readWord_196 (by decide) ?_
                  exact ih12 (1 : Int32) v39 g99x0_26 g99x0_54 g99x0_55 g99x0_56 g163x0_57 g163x0_58 H _ ls (show 2 * (x0_24.toInt - v39.toInt) + 1 < (n : Int) from by omega) (by decide) (by omega) Rg99x0_26 Rg99x0_54 Rg163x0_57 Rg163x0_58 (show v39.toInt ≤ x0_24.toInt from by omega) (show x0_25.toInt ≤ v39.toInt from by omega) (show 1 ≤ x0_26.toInt → 1 ≤ g99x0_26.toInt from by omega) hP hD hS (lv_sub hl [0, 2] rfl)
              refine lv_aload_n hx hb d_X_readWord_112 rfl (lv_at hl 2 rfl) ?_
              refine lv_lload hx hb d_X_readWord_113 (lv_at hl 4 rfl) ?_
              refine lv_ldc2 (v := 8) hx hb hown (hk _ k_1335) d_X_readWord_115 ?_
              refine lv_ldiv hx hb d_X_readWord_118 (by decide) ?_
              refine lv_topl (fun v40 hv40 => ?_)
              obtain ⟨ev40, Rv40⟩ : v40.toInt = g99l4.toInt / 8 ∧ (0 ≤ v40.toInt ∧ v40.toInt ≤ 7) := dv6 hv40 Rg99l4 (by decide) (by decide) (by decide) (by decide)
              refine lv_lconst (v := 0) hx hb d_X_readWord_119 (by decide) ?_
              refine W.lcmp hx hb d_X_readWord_120 ?_
              refine lv_topi (fun v41 hv41 => ?_)
              refine lv_if_ne (tgt := 129) hx hb d_X_readWord_121 (by decide) (fun c42 => ?_) (fun c42 => ?_)
              · have gc42 : v40.toInt ≠ 0 := lc_neq hv41 c42
                have R43 : 1 ≤ v40.toInt ∧ v40.toInt ≤ 7 := by omega
                refine lv_aload_n hx hb d_X_readWord_129 rfl (lv_at hl 2 rfl) ?_
                refine va_get (D := D) (ci := 7) (v := .int g12x0_57) (C := "SignMachineModel") (T := F_X) (N := 64) hx hb hk fi_X hown hK.1 hP 0 rfl rfl 57 (by decide) (hk _ k_1178) (fun _ h9 => h9) rfl d_X_readWord_130 ?_
                refine va_put (D := D) (ci := 7) (v := .int g12x0_57) (ty := .int) (C := "SignMachineModel") (T := F_X) (N := 64) hx hb hk fi_X ft_X ft_X_ok fn_X hown hK.1 hP hD hS 0 rfl rfl 57 (by decide) (hk _ k_1178) (fun _ h9 => h9) rfl (by decide +kernel) rfl rfl (Nat.le_of_ble_eq_true rfl) d_X_readWord_133 (fun H locs hP hD hS => ?_)
                have hP : va_P D classes (wS50 cI cJ cZ cB p0 p1 p2 p3 p4 p5 p6 p7 p8 p9 p10 p11 p12 p13 p14 p15 p16 p17 p18 p19 p20 p21 p22 p23 p24 p25 x0_4 x0_5 x0_6 x0_7 x0_8 x0_12 x0_13 x0_14 x0_15 x0_16 x0_17 x0_18 x0_22 x0_23 x0_24 g99x0_25 g99x0_26 x0_27 x0_28 x0_29 x0_30 x0_31 x0_32 x0_36 x0_39 x0_40 x0_44 x0_49 x0_51 x0_53 g99x0_54 g99x0_55 g99x0_56 g12x0_57 g12x0_58 x0_59 x0_60 x0_61 x0_62 y1 y2 y3 y4 y5 y6 y7 y8 y9 y10 y11 y12 y13 y14 y15 y16 y17 y18 y19 y20 y21 y22 y23 y24 y25) H := hP
                have hD : va_D A (wS50 cI cJ cZ cB p0 p1 p2 p3 p4 p5 p6 p7 p8 p9 p10 p11 p12 p13 p14 p15 p16 p17 p18 p19 p20 p21 p22 p23 p24 p25 x0_4 x0_5 x0_6 x0_7 x0_8 x0_12 x0_13 x0_14 x0_15 x0_16 x0_17 x0_18 x0_22 x0_23 x0_24 g99x0_25 g99x0_26 x0_27 x0_28 x0_29 x0_30 x0_31 x0_32 x0_36 x0_39 x0_40 x0_44 x0_49 x0_51 x0_53 g99x0_54 g99x0_55 g99x0_56 g12x0_57 g12x0_58 x0_59 x0_60 x0_61 x0_62 y1 y2 y3 y4 y5 y6 y7 y8 y9 y10 y11 y12 y13 y14 y15 y16 y17 y18 y19 y20 y21 y22 y23 y24 y25) := hD
                refine lv_aload_n hx hb d_X_readWord_136 rfl (lv_at hl 2 rfl) ?_
                refine lv_aload_n hx hb d_X_readWord_137 rfl (lv_at hl 2 rfl) ?_
                refine va_get (D := D) (ci := 7) (v := .int g12x0_58) (C := "SignMachineModel") (T := F_X) (N := 64) hx hb hk fi_X hown hK.1 hP 0 rfl rfl 58 (by decide) (hk _ k_1179) (fun _ h9 => h9) rfl d_X_readWord_138 ?_
                refine lv_lload_n hx hb d_X_readWord_141 rfl (lv_at hl 3 rfl) ?_
                refine lv_lconst (v := 0) hx hb d_X_readWord_142 (by decide) ?_
                refine W.lcmp hx hb d_X_readWord_143 ?_
                refine lv_topi (fun v44 hv44 => ?_)
                refine lv_if_ge (tgt := 152) hx hb d_X_readWord_144 (by decide) (fun c45 => absurd c45 (show ¬ (0 : Int32) ≤ v44 from (lcr_nge hv44 (by omega)))) (fun c45 => ?_)
                refine lv_lload_n hx hb d_X_readWord_147 rfl (lv_at hl 3 rfl) ?_
                refine lv_lneg hx hb d_X_readWord_148 ?_
                refine lv_topl (fun v46 hv46 => ?_)
                obtain ⟨ev46, Rv46⟩ : v46.toInt = -g99l2.toInt ∧ (1 ≤ v46.toInt ∧ v46.toInt ≤ 1073741823) := ng6 hv46 R32 (by decide) (by decide) (by decide) (by decide)
                refine lv_goto (tgt := 153) hx hb d_X_readWord_149 (by decide) ?_
                refine lv_l2i (v := (v46 : Int64).toInt32) hx hb d_X_readWord_153 rfl ?_
                refine lv_topi (fun v47 hv47 => ?_)
                obtain ⟨ev47, Rv47⟩ : v47.toInt = v46.toInt ∧ (1 ≤ v47.toInt ∧ v47.toInt ≤ 1073741823) := li3 hv47 Rv46 (by decide) (by decide)
                refine lv_lload hx hb d_X_readWord_154 (lv_at hl 4 rfl) ?_
                refine lv_l2i (v := (g99l4 : Int64).toInt32) hx hb d_X_readWord_156 rfl ?_
                refine lv_topi (fun v48 hv48 => ?_)
                obtain ⟨ev48, Rv48⟩ : v48.toInt = g99l4.toInt ∧ (0 ≤ v48.toInt ∧ v48.toInt ≤ 63) := li3 hv48 Rg99l4 (by decide) (by decide)
                refine vp_callSi (W.runS (As := [.int g12x0_58, .int v47, .int v48]) (rest := [.ref p0]) ⟨hx, hb, hml, hown, hk⟩ (c_X_stored l g12x0_58 v47 v48 (show v48.toInt / 8 ≤ v48.toInt % 8 ∧ v48.toInt % 8 ≤ 5 from by omega) Rg12x0_58 (rgw Rv47 (by decide) (by decide)) Rv48) (s_X_stored hk k_1470 ⟨Nat.le_of_ble_eq_true rfl, Nat.le_of_ble_eq_true rfl⟩) ⟨fun a U g mk q => q, fun U hU hW => ⟨rfl, trivial⟩⟩ rfl rfl hl.1 rfl (lv_room (Nat.le_of_ble_eq_true rfl)) d_X_readWord_157 ⟨Nat.le_of_ble_eq_true rfl, Nat.le_of_ble_eq_true rfl⟩) (fun rz49 hrz49 => ?_)
                have F0z49 := hrz49
                have F0z49 : 0 ≤ rz49.toInt ∧ rz49.toInt ≤ 1073741823 := F0z49
                refine va_put (D := D) (ci := 7) (v := .int rz49) (ty := .int) (C := "SignMachineModel") (T := F_X) (N := 64) hx hb hk fi_X ft_X ft_X_ok fn_X hown hK.1 hP hD hS 0 rfl rfl 58 (by decide) (hk _ k_1179) (fun _ h9 => h9) rfl (by decide +kernel) rfl rfl (Nat.le_of_ble_eq_true rfl) d_X_readWord_160 (fun H locs hP hD hS => ?_)
                have hP : va_P D classes (wS50 cI cJ cZ cB p0 p1 p2 p3 p4 p5 p6 p7 p8 p9 p10 p11 p12 p13 p14 p15 p16 p17 p18 p19 p20 p21 p22 p23 p24 p25 x0_4 x0_5 x0_6 x0_7 x0_8 x0_12 x0_13 x0_14 x0_15 x0_16 x0_17 x0_18 x0_22 x0_23 x0_24 g99x0_25 g99x0_26 x0_27 x0_28 x0_29 x0_30 x0_31 x0_32 x0_36 x0_39 x0_40 x0_44 x0_49 x0_51 x0_53 g99x0_54 g99x0_55 g99x0_56 g12x0_57 rz49 x0_59 x0_60 x0_61 x0_62 y1 y2 y3 y4 y5 y6 y7 y8 y9 y10 y11 y12 y13 y14 y15 y16 y17 y18 y19 y20 y21 y22 y23 y24 y25) H := hP
                have hD : va_D A (wS50 cI cJ cZ cB p0 p1 p2 p3 p4 p5 p6 p7 p8 p9 p10 p11 p12 p13 p14 p15 p16 p17 p18 p19 p20 p21 p22 p23 p24 p25 x0_4 x0_5 x0_6 x0_7 x0_8 x0_12 x0_13 x0_14 x0_15 x0_16 x0_17 x0_18 x0_22 x0_23 x0_24 g99x0_25 g99x0_26 x0_27 x0_28 x0_29 x0_30 x0_31 x0_32 x0_36 x0_39 x0_40 x0_44 x0_49 x0_51 x0_53 g99x0_54 g99x0_55 g99x0_56 g12x0_57 rz49 x0_59 x0_60 x0_61 x0_62 y1 y2 y3 y4 y5 y6 y7 y8 y9 y10 y11 y12 y13 y14 y15 y16 y17 y18 y19 y20 y21 y22 y23 y24 y25) := hD
                exact CUT163 g12x0_57 rz49 H _ ls Rg12x0_57 F0z49 hP hD hS (lv_sub hl [0, 1, 2, 3, 4] rfl)
              · have gc42 : v40.toInt = 0 := lc_eq hv41 c42
                have R50 : 0 ≤ v40.toInt ∧ v40.toInt ≤ 0 := by omega
                refine lv_iload hx hb d_X_readWord_124 (lv_at hl 0 rfl) ?_
                refine lv_goto (tgt := 133) hx hb d_X_readWord_126 (by decide) ?_
                refine va_put (D := D) (ci := 7) (v := .int (1 : Int32)) (ty := .int) (C := "SignMachineModel") (T := F_X) (N := 64) hx hb hk fi_X ft_X ft_X_ok fn_X hown hK.1 hP hD hS 0 rfl rfl 57 (by decide) (hk _ k_1178) (fun _ h9 => h9) rfl (by decide +kernel) rfl rfl (Nat.le_of_ble_eq_true rfl) d_X_readWord_133 (fun H locs hP hD hS => ?_)
                have hP : va_P D classes (wS50 cI cJ cZ cB p0 p1 p2 p3 p4 p5 p6 p7 p8 p9 p10 p11 p12 p13 p14 p15 p16 p17 p18 p19 p20 p21 p22 p23 p24 p25 x0_4 x0_5 x0_6 x0_7 x0_8 x0_12 x0_13 x0_14 x0_15 x0_16 x0_17 x0_18 x0_22 x0_23 x0_24 g99x0_25 g99x0_26 x0_27 x0_28 x0_29 x0_30 x0_31 x0_32 x0_36 x0_39 x0_40 x0_44 x0_49 x0_51 x0_53 g99x0_54 g99x0_55 g99x0_56 (1 : Int32) g12x0_58 x0_59 x0_60 x0_61 x0_62 y1 y2 y3 y4 y5 y6 y7 y8 y9 y10 y11 y12 y13 y14 y15 y16 y17 y18 y19 y20 y21 y22 y23 y24 y25) H := hP
                have hD : va_D A (wS50 cI cJ cZ cB p0 p1 p2 p3 p4 p5 p6 p7 p8 p9 p10 p11 p12 p13 p14 p15 p16 p17 p18 p19 p20 p21 p22 p23 p24 p25 x0_4 x0_5 x0_6 x0_7 x0_8 x0_12 x0_13 x0_14 x0_15 x0_16 x0_17 x0_18 x0_22 x0_23 x0_24 g99x0_25 g99x0_26 x0_27 x0_28 x0_29 x0_30 x0_31 x0_32 x0_36 x0_39 x0_40 x0_44 x0_49 x0_51 x0_53 g99x0_54 g99x0_55 g99x0_56 (1 : Int32) g12x0_58 x0_59 x0_60 x0_61 x0_62 y1 y2 y3 y4 y5 y6 y7 y8 y9 y10 y11 y12 y13 y14 y15 y16 y17 y18 y19 y20 y21 y22 y23 y24 y25) := hD
                refine lv_aload_n hx hb d_X_readWord_136 rfl (lv_at hl 2 rfl) ?_
                refine lv_aload_n hx hb d_X_readWord_137 rfl (lv_at hl 2 rfl) ?_
                refine va_get (D := D) (ci := 7) (v := .int g12x0_58) (C := "SignMachineModel") (T := F_X) (N := 64) hx hb hk fi_X hown hK.1 hP 0 rfl rfl 58 (by decide) (hk _ k_1179) (fun _ h9 => h9) rfl d_X_readWord_138 ?_
                refine lv_lload_n hx hb d_X_readWord_141 rfl (lv_at hl 3 rfl) ?_
                refine lv_lconst (v := 0) hx hb d_X_readWord_142 (by decide) ?_
                refine W.lcmp hx hb d_X_readWord_143 ?_
                refine lv_topi (fun v51 hv51 => ?_)
                refine lv_if_ge (tgt := 152) hx hb d_X_readWord_144 (by decide) (fun c52 => absurd c52 (show ¬ (0 : Int32) ≤ v51 from (lcr_nge hv51 (by omega)))) (fun c52 => ?_)
                refine lv_lload_n hx hb d_X_readWord_147 rfl (lv_at hl 3 rfl) ?_
                refine lv_lneg hx hb d_X_readWord_148 ?_
                refine lv_topl (fun v53 hv53 => ?_)
                obtain ⟨ev53, Rv53⟩ : v53.toInt = -g99l2.toInt ∧ (1 ≤ v53.toInt ∧ v53.toInt ≤ 1073741823) := ng6 hv53 R32 (by decide) (by decide) (by decide) (by decide)
                refine lv_goto (tgt := 153) hx hb d_X_readWord_149 (by decide) ?_
                refine lv_l2i (v := (v53 : Int64).toInt32) hx hb d_X_readWord_153 rfl ?_
                refine lv_topi (fun v54 hv54 => ?_)
                obtain ⟨ev54, Rv54⟩ : v54.toInt = v53.toInt ∧ (1 ≤ v54.toInt ∧ v54.toInt ≤ 1073741823) := li3 hv54 Rv53 (by decide) (by decide)
                refine lv_lload hx hb d_X_readWord_154 (lv_at hl 4 rfl) ?_
                refine lv_l2i (v := (g99l4 : Int64).toInt32) hx hb d_X_readWord_156 rfl ?_
                refine lv_topi (fun v55 hv55 => ?_)
                obtain ⟨ev55, Rv55⟩ : v55.toInt = g99l4.toInt ∧ (0 ≤ v55.toInt ∧ v55.toInt ≤ 63) := li3 hv55 Rg99l4 (by decide) (by decide)
                refine vp_callSi (W.runS (As := [.int g12x0_58, .int v54, .int v55]) (rest := [.ref p0]) ⟨hx, hb, hml, hown, hk⟩ (c_X_stored l g12x0_58 v54 v55 (show v55.toInt / 8 ≤ v55.toInt % 8 ∧ v55.toInt % 8 ≤ 5 from by omega) Rg12x0_58 (rgw Rv54 (by decide) (by decide)) Rv55) (s_X_stored hk k_1470 ⟨Nat.le_of_ble_eq_true rfl, Nat.le_of_ble_eq_true rfl⟩) ⟨fun a U g mk q => q, fun U hU hW => ⟨rfl, trivial⟩⟩ rfl rfl hl.1 rfl (lv_room (Nat.le_of_ble_eq_true rfl)) d_X_readWord_157 ⟨Nat.le_of_ble_eq_true rfl, Nat.le_of_ble_eq_true rfl⟩) (fun rz56 hrz56 => ?_)
                have F0z56 := hrz56
                have F0z56 : 0 ≤ rz56.toInt ∧ rz56.toInt ≤ 1073741823 := F0z56
                refine va_put (D := D) (ci := 7) (v := .int rz56) (ty := .int) (C := "SignMachineModel") (T := F_X) (N := 64) hx hb hk fi_X ft_X ft_X_ok fn_X hown hK.1 hP hD hS 0 rfl rfl 58 (by decide) (hk _ k_1179) (fun _ h9 => h9) rfl (by decide +kernel) rfl rfl (Nat.le_of_ble_eq_true rfl) d_X_readWord_160 (fun H locs hP hD hS => ?_)
                have hP : va_P D classes (wS50 cI cJ cZ cB p0 p1 p2 p3 p4 p5 p6 p7 p8 p9 p10 p11 p12 p13 p14 p15 p16 p17 p18 p19 p20 p21 p22 p23 p24 p25 x0_4 x0_5 x0_6 x0_7 x0_8 x0_12 x0_13 x0_14 x0_15 x0_16 x0_17 x0_18 x0_22 x0_23 x0_24 g99x0_25 g99x0_26 x0_27 x0_28 x0_29 x0_30 x0_31 x0_32 x0_36 x0_39 x0_40 x0_44 x0_49 x0_51 x0_53 g99x0_54 g99x0_55 g99x0_56 (1 : Int32) rz56 x0_59 x0_60 x0_61 x0_62 y1 y2 y3 y4 y5 y6 y7 y8 y9 y10 y11 y12 y13 y14 y15 y16 y17 y18 y19 y20 y21 y22 y23 y24 y25) H := hP
                have hD : va_D A (wS50 cI cJ cZ cB p0 p1 p2 p3 p4 p5 p6 p7 p8 p9 p10 p11 p12 p13 p14 p15 p16 p17 p18 p19 p20 p21 p22 p23 p24 p25 x0_4 x0_5 x0_6 x0_7 x0_8 x0_12 x0_13 x0_14 x0_15 x0_16 x0_17 x0_18 x0_22 x0_23 x0_24 g99x0_25 g99x0_26 x0_27 x0_28 x0_29 x0_30 x0_31 x0_32 x0_36 x0_39 x0_40 x0_44 x0_49 x0_51 x0_53 g99x0_54 g99x0_55 g99x0_56 (1 : Int32) rz56 x0_59 x0_60 x0_61 x0_62 y1 y2 y3 y4 y5 y6 y7 y8 y9 y10 y11 y12 y13 y14 y15 y16 y17 y18 y19 y20 y21 y22 y23 y24 y25) := hD
                exact CUT163 (1 : Int32) rz56 H _ ls (by decide) F0z56 hP hD hS (lv_sub hl [0, 1, 2, 3, 4] rfl)
          refine lv_aload_n hx hb d_X_readWord_23 rfl (lv_at hl 1 rfl) ?_
          refine sn_l (va_runV (C := "SignMachineModel") (As := []) (rest := []) ⟨hx, hb, hml, hown, hk⟩ (c_X_expression l D cI cJ cZ cB p0 p1 p2 p3 p4 p5 p6 p7 p8 p9 p10 p11 p12 p13 p14 p15 p16 p17 p18 p19 p20 p21 p22 p23 p24 p25 H.size x0_4 x0_5 x0_6 x0_7 x0_8 x0_12 x0_13 x0_14 x0_15 x0_16 x0_17 x0_18 x0_22 x0_23 x0_24 g12x0_25 g12x0_26 x0_27 x0_28 x0_29 x0_30 x0_31 x0_32 x0_36 x0_39 x0_40 x0_44 x0_49 x0_51 x0_53 g12x0_54 g12x0_55 g12x0_56 g12x0_57 g12x0_58 x0_59 x0_60 x0_61 x0_62 y1 y2 y3 y4 y5 y6 y7 y8 y9 y10 y11 y12 y13 y14 y15 y16 y17 y18 y19 y20 y21 y22 y23 y24 y25  Rx0_24 Rg12x0_25 (rgw R6 (by decide) (by decide)) Rx0_30 Rx0_36 Rg12x0_54 Ay13 Ay15 (show g12x0_25.toInt ≤ x0_24.toInt from by omega)) (v_X_expression hk k_1653 ⟨Nat.le_of_ble_eq_true rfl, Nat.le_of_ble_eq_true rfl⟩) (pM_v hK hP hD (ci := 7) (q0 := 0) rfl rfl rfl) rfl rfl hl.1 rfl (lv_room (Nat.le_of_ble_eq_true rfl)) d_X_readWord_24 ⟨Nat.le_of_ble_eq_true rfl, Nat.le_of_ble_eq_true rfl⟩) hS hA hD (fun rz57 u t H locs hr0 ht hB hFr hS => ?_)
          subst hr0
          obtain ⟨x0_25z57, x0_26z57, x0_54z57, x0_55z57, x0_56z57, Rx0_25z57, Rx0_26z57, Rx0_54z57, F0z57, F1z57, F2z57, hP, hD⟩ := hB
          have F0z57 : (-1073741823) ≤ rz57.toInt ∧ rz57.toInt ≤ 1073741823 := F0z57
          have F1z57 : g12x0_25.toInt ≤ x0_25z57.toInt ∧ x0_25z57.toInt ≤ x0_24.toInt := F1z57
          have F2z57 : 1 ≤ g12x0_26.toInt → 1 ≤ x0_26z57.toInt := F2z57
          rw [ht] at hP
          have hD := dwk hD hFr
          clear ht hFr
          have hP : va_P D classes (wS50 cI cJ cZ cB p0 p1 p2 p3 p4 p5 p6 p7 p8 p9 p10 p11 p12 p13 p14 p15 p16 p17 p18 p19 p20 p21 p22 p23 p24 p25 x0_4 x0_5 x0_6 x0_7 x0_8 x0_12 x0_13 x0_14 x0_15 x0_16 x0_17 x0_18 x0_22 x0_23 x0_24 x0_25z57 x0_26z57 x0_27 x0_28 x0_29 x0_30 x0_31 x0_32 x0_36 x0_39 x0_40 x0_44 x0_49 x0_51 x0_53 x0_54z57 x0_55z57 x0_56z57 g12x0_57 g12x0_58 x0_59 x0_60 x0_61 x0_62 y1 y2 y3 y4 y5 y6 y7 y8 y9 y10 y11 y12 y13 y14 y15 y16 y17 y18 y19 y20 y21 y22 y23 y24 y25) H := hP
          have hD : va_D A (wS50 cI cJ cZ cB p0 p1 p2 p3 p4 p5 p6 p7 p8 p9 p10 p11 p12 p13 p14 p15 p16 p17 p18 p19 p20 p21 p22 p23 p24 p25 x0_4 x0_5 x0_6 x0_7 x0_8 x0_12 x0_13 x0_14 x0_15 x0_16 x0_17 x0_18 x0_22 x0_23 x0_24 x0_25z57 x0_26z57 x0_27 x0_28 x0_29 x0_30 x0_31 x0_32 x0_36 x0_39 x0_40 x0_44 x0_49 x0_51 x0_53 x0_54z57 x0_55z57 x0_56z57 g12x0_57 g12x0_58 x0_59 x0_60 x0_61 x0_62 y1 y2 y3 y4 y5 y6 y7 y8 y9 y10 y11 y12 y13 y14 y15 y16 y17 y18 y19 y20 y21 y22 y23 y24 y25) := hD
          refine lv_lstore_n (lv' := [(2, .long rz57), (1, .int g12l1), (0, .ref p0)]) hx hb d_X_readWord_27 rfl hl (by decide) rfl (fun ls hl => ?_)
          refine lv_ldc2 (v := 5) hx hb hown (hk _ k_1673) d_X_readWord_28 ?_
          refine lv_lstore (lv' := [(4, .long (5 : Int64)), (2, .long rz57), (1, .int g12l1), (0, .ref p0)]) hx hb d_X_readWord_31 hl (by decide) rfl (fun ls hl => ?_)
          refine lv_aload_n hx hb d_X_readWord_33 rfl (lv_at hl 3 rfl) ?_
          refine sn_i (va_runV (C := "SignMachineModel") (As := []) (rest := []) ⟨hx, hb, hml, hown, hk⟩ (c_X_here l D cI cJ cZ cB p0 p1 p2 p3 p4 p5 p6 p7 p8 p9 p10 p11 p12 p13 p14 p15 p16 p17 p18 p19 p20 p21 p22 p23 p24 p25 H.size x0_4 x0_5 x0_6 x0_7 x0_8 x0_12 x0_13 x0_14 x0_15 x0_16 x0_17 x0_18 x0_22 x0_23 x0_24 x0_25z57 x0_26z57 x0_27 x0_28 x0_29 x0_30 x0_31 x0_32 x0_36 x0_39 x0_40 x0_44 x0_49 x0_51 x0_53 x0_54z57 x0_55z57 x0_56z57 g12x0_57 g12x0_58 x0_59 x0_60 x0_61 x0_62 y1 y2 y3 y4 y5 y6 y7 y8 y9 y10 y11 y12 y13 y14 y15 y16 y17 y18 y19 y20 y21 y22 y23 y24 y25  Rx0_24 Rx0_25z57) (v_X_here hk k_1537 ⟨Nat.le_of_ble_eq_true rfl, Nat.le_of_ble_eq_true rfl⟩) (pM_v hK hP hD (ci := 7) (q0 := 0) rfl rfl rfl) rfl rfl hl.1 rfl (lv_room (Nat.le_of_ble_eq_true rfl)) d_X_readWord_34 ⟨Nat.le_of_ble_eq_true rfl, Nat.le_of_ble_eq_true rfl⟩) hS hA hD (fun rz58 u t H locs hr0 ht hB hFr hS => ?_)
          subst hr0
          obtain ⟨F0z58, hP, hD⟩ := hB
          have F0z58 : (x0_25z57.toInt < x0_24.toInt ∧ rz58.toInt = (y10 (x0_25z57).toNatClampNeg).toInt) ∨ (x0_24.toInt ≤ x0_25z57.toInt ∧ rz58.toInt = -1) := F0z58
          rw [ht] at hP
          have hD := dwk hD hFr
          clear ht hFr
          have hP : va_P D classes (wS50 cI cJ cZ cB p0 p1 p2 p3 p4 p5 p6 p7 p8 p9 p10 p11 p12 p13 p14 p15 p16 p17 p18 p19 p20 p21 p22 p23 p24 p25 x0_4 x0_5 x0_6 x0_7 x0_8 x0_12 x0_13 x0_14 x0_15 x0_16 x0_17 x0_18 x0_22 x0_23 x0_24 x0_25z57 x0_26z57 x0_27 x0_28 x0_29 x0_30 x0_31 x0_32 x0_36 x0_39 x0_40 x0_44 x0_49 x0_51 x0_53 x0_54z57 x0_55z57 x0_56z57 g12x0_57 g12x0_58 x0_59 x0_60 x0_61 x0_62 y1 y2 y3 y4 y5 y6 y7 y8 y9 y10 y11 y12 y13 y14 y15 y16 y17 y18 y19 y20 y21 y22 y23 y24 y25) H := hP
          have hD : va_D A (wS50 cI cJ cZ cB p0 p1 p2 p3 p4 p5 p6 p7 p8 p9 p10 p11 p12 p13 p14 p15 p16 p17 p18 p19 p20 p21 p22 p23 p24 p25 x0_4 x0_5 x0_6 x0_7 x0_8 x0_12 x0_13 x0_14 x0_15 x0_16 x0_17 x0_18 x0_22 x0_23 x0_24 x0_25z57 x0_26z57 x0_27 x0_28 x0_29 x0_30 x0_31 x0_32 x0_36 x0_39 x0_40 x0_44 x0_49 x0_51 x0_53 x0_54z57 x0_55z57 x0_56z57 g12x0_57 g12x0_58 x0_59 x0_60 x0_61 x0_62 y1 y2 y3 y4 y5 y6 y7 y8 y9 y10 y11 y12 y13 y14 y15 y16 y17 y18 y19 y20 y21 y22 y23 y24 y25) := hD
          refine lv_bipush (v := 40) hx hb d_X_readWord_37 (by decide) ?_
          refine lv_icmp_ne (tgt := 99) hx hb d_X_readWord_39 (by decide) (fun c59 => ?_) (fun c59 => ?_)
          · have gc59 : rz58.toInt ≠ 40 := c_ne c59
            exact CUT99 rz57 (5 : Int64) x0_25z57 x0_26z57 x0_54z57 x0_55z57 x0_56z57 H _ ls F0z57 (by decide) Rx0_25z57 Rx0_26z57 Rx0_54z57 (show 5 / 8 ≤ 5 % 8 ∧ 5 % 8 ≤ 5 from by omega) (show g12x0_25.toInt ≤ x0_25z57.toInt ∧ x0_25z57.toInt ≤ x0_24.toInt from by omega) (show 1 ≤ x0_26.toInt → 1 ≤ x0_26z57.toInt from by omega) hP hD hS (lv_sub hl [2, 3, 1, 0] rfl)
          · have gc59 : rz58.toInt = 40 := c_eq c59
            have R60 : 40 ≤ rz58.toInt ∧ rz58.toInt ≤ 40 := by omega
            refine lv_aload_n hx hb d_X_readWord_42 rfl (lv_at hl 3 rfl) ?_
            refine lv_dup hx hb d_X_readWord_43 rfl ?_
            refine va_get (D := D) (ci := 7) (v := .int x0_25z57) (C := "SignMachineModel") (T := F_X) (N := 64) hx hb hk fi_X hown hK.1 hP 0 rfl rfl 25 (by decide) (hk _ k_1146) (fun _ h9 => h9) rfl d_X_readWord_44 ?_
            refine lv_iconst (v := 1) hx hb d_X_readWord_47 (by decide) ?_
            refine lv_iadd hx hb d_X_readWord_48 ?_
            refine lv_topi (fun v61 hv61 => ?_)
            obtain ⟨ev61, Rv61⟩ : v61.toInt = x0_25z57.toInt + 1 ∧ (1 ≤ v61.toInt ∧ v61.toInt ≤ 4001) := ad3 hv61 Rx0_25z57 (by decide) (by decide) (by decide) (by decide) (by decide)
            refine va_put (D := D) (ci := 7) (v := .int v61) (ty := .int) (C := "SignMachineModel") (T := F_X) (N := 64) hx hb hk fi_X ft_X ft_X_ok fn_X hown hK.1 hP hD hS 0 rfl rfl 25 (by decide) (hk _ k_1146) (fun _ h9 => h9) rfl (by decide +kernel) rfl rfl (Nat.le_of_ble_eq_true rfl) d_X_readWord_49 (fun H locs hP hD hS => ?_)
            have hP : va_P D classes (wS50 cI cJ cZ cB p0 p1 p2 p3 p4 p5 p6 p7 p8 p9 p10 p11 p12 p13 p14 p15 p16 p17 p18 p19 p20 p21 p22 p23 p24 p25 x0_4 x0_5 x0_6 x0_7 x0_8 x0_12 x0_13 x0_14 x0_15 x0_16 x0_17 x0_18 x0_22 x0_23 x0_24 v61 x0_26z57 x0_27 x0_28 x0_29 x0_30 x0_31 x0_32 x0_36 x0_39 x0_40 x0_44 x0_49 x0_51 x0_53 x0_54z57 x0_55z57 x0_56z57 g12x0_57 g12x0_58 x0_59 x0_60 x0_61 x0_62 y1 y2 y3 y4 y5 y6 y7 y8 y9 y10 y11 y12 y13 y14 y15 y16 y17 y18 y19 y20 y21 y22 y23 y24 y25) H := hP
            have hD : va_D A (wS50 cI cJ cZ cB p0 p1 p2 p3 p4 p5 p6 p7 p8 p9 p10 p11 p12 p13 p14 p15 p16 p17 p18 p19 p20 p21 p22 p23 p24 p25 x0_4 x0_5 x0_6 x0_7 x0_8 x0_12 x0_13 x0_14 x0_15 x0_16 x0_17 x0_18 x0_22 x0_23 x0_24 v61 x0_26z57 x0_27 x0_28 x0_29 x0_30 x0_31 x0_32 x0_36 x0_39 x0_40 x0_44 x0_49 x0_51 x0_53 x0_54z57 x0_55z57 x0_56z57 g12x0_57 g12x0_58 x0_59 x0_60 x0_61 x0_62 y1 y2 y3 y4 y5 y6 y7 y8 y9 y10 y11 y12 y13 y14 y15 y16 y17 y18 y19 y20 y21 y22 y23 y24 y25) := hD
            refine lv_aload_n hx hb d_X_readWord_52 rfl (lv_at hl 3 rfl) ?_
            refine sn_l (va_runV (C := "SignMachineModel") (As := []) (rest := []) ⟨hx, hb, hml, hown, hk⟩ (c_X_expression l D cI cJ cZ cB p0 p1 p2 p3 p4 p5 p6 p7 p8 p9 p10 p11 p12 p13 p14 p15 p16 p17 p18 p19 p20 p21 p22 p23 p24 p25 H.size x0_4 x0_5 x0_6 x0_7 x0_8 x0_12 x0_13 x0_14 x0_15 x0_16 x0_17 x0_18 x0_22 x0_23 x0_24 v61 x0_26z57 x0_27 x0_28 x0_29 x0_30 x0_31 x0_32 x0_36 x0_39 x0_40 x0_44 x0_49 x0_51 x0_53 x0_54z57 x0_55z57 x0_56z57 g12x0_57 g12x0_58 x0_59 x0_60 x0_61 x0_62 y1 y2 y3 y4 y5 y6 y7 y8 y9 y10 y11 y12 y13 y14 y15 y16 y17 y18 y19 y20 y21 y22 y23 y24 y25  Rx0_24 (by omega) Rx0_26z57 Rx0_30 Rx0_36 Rx0_54z57 Ay13 Ay15 (show v61.toInt ≤ x0_24.toInt from by omega)) (v_X_expression hk k_1653 ⟨Nat.le_of_ble_eq_true rfl, Nat.le_of_ble_eq_true rfl⟩) (pM_v hK hP hD (ci := 7) (q0 := 0) rfl rfl rfl) rfl rfl hl.1 rfl (lv_room (Nat.le_of_ble_eq_true rfl)) d_X_readWord_53 ⟨Nat.le_of_ble_eq_true rfl, Nat.le_of_ble_eq_true rfl⟩) hS hA hD (fun rz62 u t H locs hr0 ht hB hFr hS => ?_)
            subst hr0
            obtain ⟨x0_25z62, x0_26z62, x0_54z62, x0_55z62, x0_56z62, Rx0_25z62, Rx0_26z62, Rx0_54z62, F0z62, F1z62, F2z62, hP, hD⟩ := hB
            have F0z62 : (-1073741823) ≤ rz62.toInt ∧ rz62.toInt ≤ 1073741823 := F0z62
            have F1z62 : v61.toInt ≤ x0_25z62.toInt ∧ x0_25z62.toInt ≤ x0_24.toInt := F1z62
            have F2z62 : 1 ≤ x0_26z57.toInt → 1 ≤ x0_26z62.toInt := F2z62
            rw [ht] at hP
            have hD := dwk hD hFr
            clear ht hFr
            have hP : va_P D classes (wS50 cI cJ cZ cB p0 p1 p2 p3 p4 p5 p6 p7 p8 p9 p10 p11 p12 p13 p14 p15 p16 p17 p18 p19 p20 p21 p22 p23 p24 p25 x0_4 x0_5 x0_6 x0_7 x0_8 x0_12 x0_13 x0_14 x0_15 x0_16 x0_17 x0_18 x0_22 x0_23 x0_24 x0_25z62 x0_26z62 x0_27 x0_28 x0_29 x0_30 x0_31 x0_32 x0_36 x0_39 x0_40 x0_44 x0_49 x0_51 x0_53 x0_54z62 x0_55z62 x0_56z62 g12x0_57 g12x0_58 x0_59 x0_60 x0_61 x0_62 y1 y2 y3 y4 y5 y6 y7 y8 y9 y10 y11 y12 y13 y14 y15 y16 y17 y18 y19 y20 y21 y22 y23 y24 y25) H := hP
            have hD : va_D A (wS50 cI cJ cZ cB p0 p1 p2 p3 p4 p5 p6 p7 p8 p9 p10 p11 p12 p13 p14 p15 p16 p17 p18 p19 p20 p21 p22 p23 p24 p25 x0_4 x0_5 x0_6 x0_7 x0_8 x0_12 x0_13 x0_14 x0_15 x0_16 x0_17 x0_18 x0_22 x0_23 x0_24 x0_25z62 x0_26z62 x0_27 x0_28 x0_29 x0_30 x0_31 x0_32 x0_36 x0_39 x0_40 x0_44 x0_49 x0_51 x0_53 x0_54z62 x0_55z62 x0_56z62 g12x0_57 g12x0_58 x0_59 x0_60 x0_61 x0_62 y1 y2 y3 y4 y5 y6 y7 y8 y9 y10 y11 y12 y13 y14 y15 y16 y17 y18 y19 y20 y21 y22 y23 y24 y25) := hD
            refine lv_lstore (lv' := [(4, .long rz62), (2, .long rz57), (1, .int g12l1), (0, .ref p0)]) hx hb d_X_readWord_56 hl (by decide) rfl (fun ls hl => ?_)
            refine lv_aload_n hx hb d_X_readWord_58 rfl (lv_at hl 3 rfl) ?_
            refine lv_bipush (v := 41) hx hb d_X_readWord_59 (by decide) ?_
            refine kn_v (va_runV (C := "SignMachineModel") (As := [.int (41 : Int32)]) (rest := []) ⟨hx, hb, hml, hown, hk⟩ (c_X_take1 l D cI cJ cZ cB p0 p1 p2 p3 p4 p5 p6 p7 p8 p9 p10 p11 p12 p13 p14 p15 p16 p17 p18 p19 p20 p21 p22 p23 p24 p25 H.size x0_4 x0_5 x0_6 x0_7 x0_8 x0_12 x0_13 x0_14 x0_15 x0_16 x0_17 x0_18 x0_22 x0_23 x0_24 x0_25z62 x0_26z62 x0_27 x0_28 x0_29 x0_30 x0_31 x0_32 x0_36 x0_39 x0_40 x0_44 x0_49 x0_51 x0_53 x0_54z62 x0_55z62 x0_56z62 g12x0_57 g12x0_58 x0_59 x0_60 x0_61 x0_62 y1 y2 y3 y4 y5 y6 y7 y8 y9 y10 y11 y12 y13 y14 y15 y16 y17 y18 y19 y20 y21 y22 y23 y24 y25 (41 : Int32) Rx0_24 Rx0_25z62 Rx0_26z62 (show x0_25z62.toInt ≤ x0_24.toInt from by omega) (by decide)) (v_X_take1 hk k_1674 ⟨Nat.le_of_ble_eq_true rfl, Nat.le_of_ble_eq_true rfl⟩) (pM_v hK hP hD (ci := 7) (q0 := 0) rfl rfl rfl) rfl rfl hl.1 rfl (lv_room (Nat.le_of_ble_eq_true rfl)) d_X_readWord_61 ⟨Nat.le_of_ble_eq_true rfl, Nat.le_of_ble_eq_true rfl⟩) hS hA hD (fun u t H locs ht hB hFr hS => ?_)
            obtain ⟨x0_25z63, x0_26z63, Rx0_25z63, Rx0_26z63, F0z63, F1z63, hP, hD⟩ := hB
            have F0z63 : x0_25z62.toInt ≤ x0_25z63.toInt ∧ x0_25z63.toInt ≤ x0_24.toInt := F0z63
            have F1z63 : 1 ≤ x0_26z62.toInt → 1 ≤ x0_26z63.toInt := F1z63
            rw [ht] at hP
            have hD := dwk hD hFr
            clear ht hFr
            have hP : va_P D classes (wS50 cI cJ cZ cB p0 p1 p2 p3 p4 p5 p6 p7 p8 p9 p10 p11 p12 p13 p14 p15 p16 p17 p18 p19 p20 p21 p22 p23 p24 p25 x0_4 x0_5 x0_6 x0_7 x0_8 x0_12 x0_13 x0_14 x0_15 x0_16 x0_17 x0_18 x0_22 x0_23 x0_24 x0_25z63 x0_26z63 x0_27 x0_28 x0_29 x0_30 x0_31 x0_32 x0_36 x0_39 x0_40 x0_44 x0_49 x0_51 x0_53 x0_54z62 x0_55z62 x0_56z62 g12x0_57 g12x0_58 x0_59 x0_60 x0_61 x0_62 y1 y2 y3 y4 y5 y6 y7 y8 y9 y10 y11 y12 y13 y14 y15 y16 y17 y18 y19 y20 y21 y22 y23 y24 y25) H := hP
            have hD : va_D A (wS50 cI cJ cZ cB p0 p1 p2 p3 p4 p5 p6 p7 p8 p9 p10 p11 p12 p13 p14 p15 p16 p17 p18 p19 p20 p21 p22 p23 p24 p25 x0_4 x0_5 x0_6 x0_7 x0_8 x0_12 x0_13 x0_14 x0_15 x0_16 x0_17 x0_18 x0_22 x0_23 x0_24 x0_25z63 x0_26z63 x0_27 x0_28 x0_29 x0_30 x0_31 x0_32 x0_36 x0_39 x0_40 x0_44 x0_49 x0_51 x0_53 x0_54z62 x0_55z62 x0_56z62 g12x0_57 g12x0_58 x0_59 x0_60 x0_61 x0_62 y1 y2 y3 y4 y5 y6 y7 y8 y9 y10 y11 y12 y13 y14 y15 y16 y17 y18 y19 y20 y21 y22 y23 y24 y25) := hD
            refine lv_lload hx hb d_X_readWord_64 (lv_at hl 0 rfl) ?_
            refine lv_lconst (v := 0) hx hb d_X_readWord_66 (by decide) ?_
            refine W.lcmp hx hb d_X_readWord_67 ?_
            refine lv_topi (fun v64 hv64 => ?_)
            refine lv_if_lt (tgt := 89) hx hb d_X_readWord_68 (by decide) (fun c65 => ?_) (fun c65 => ?_)
            · have gc65 : rz62.toInt < 0 := lc_lt hv64 c65
              have R66 : (-1073741823) ≤ rz62.toInt ∧ rz62.toInt ≤ (-1) := by omega
              refine lv_aload_n hx hb d_X_readWord_89 rfl (lv_at hl 3 rfl) ?_
              refine lv_iconst (v := 4) hx hb d_X_readWord_90 (by decide) ?_
              refine kn_v (va_runV (C := "SignMachineModel") (As := [.int (4 : Int32)]) (rest := []) ⟨hx, hb, hml, hown, hk⟩ (c_X_bad l D cI cJ cZ cB p0 p1 p2 p3 p4 p5 p6 p7 p8 p9 p10 p11 p12 p13 p14 p15 p16 p17 p18 p19 p20 p21 p22 p23 p24 p25 H.size x0_4 x0_5 x0_6 x0_7 x0_8 x0_12 x0_13 x0_14 x0_15 x0_16 x0_17 x0_18 x0_22 x0_23 x0_24 x0_25z63 x0_26z63 x0_27 x0_28 x0_29 x0_30 x0_31 x0_32 x0_36 x0_39 x0_40 x0_44 x0_49 x0_51 x0_53 x0_54z62 x0_55z62 x0_56z62 g12x0_57 g12x0_58 x0_59 x0_60 x0_61 x0_62 y1 y2 y3 y4 y5 y6 y7 y8 y9 y10 y11 y12 y13 y14 y15 y16 y17 y18 y19 y20 y21 y22 y23 y24 y25 (4 : Int32) Rx0_26z63 (by decide)) (v_X_bad hk k_1552 ⟨Nat.le_of_ble_eq_true rfl, Nat.le_of_ble_eq_true rfl⟩) (pM_v hK hP hD (ci := 7) (q0 := 0) rfl rfl rfl) rfl rfl hl.1 rfl (lv_room (Nat.le_of_ble_eq_true rfl)) d_X_readWord_91 ⟨Nat.le_of_ble_eq_true rfl, Nat.le_of_ble_eq_true rfl⟩) hS hA hD (fun u t H locs ht hB hFr hS => ?_)
              obtain ⟨x0_26z67, Rx0_26z67, F0z67, hP, hD⟩ := hB
              have F0z67 : 1 ≤ x0_26z67.toInt := F0z67
              rw [ht] at hP
              have hD := dwk hD hFr
              clear ht hFr
              have hP : va_P D classes (wS50 cI cJ cZ cB p0 p1 p2 p3 p4 p5 p6 p7 p8 p9 p10 p11 p12 p13 p14 p15 p16 p17 p18 p19 p20 p21 p22 p23 p24 p25 x0_4 x0_5 x0_6 x0_7 x0_8 x0_12 x0_13 x0_14 x0_15 x0_16 x0_17 x0_18 x0_22 x0_23 x0_24 x0_25z63 x0_26z67 x0_27 x0_28 x0_29 x0_30 x0_31 x0_32 x0_36 x0_39 x0_40 x0_44 x0_49 x0_51 x0_53 x0_54z62 x0_55z62 x0_56z62 g12x0_57 g12x0_58 x0_59 x0_60 x0_61 x0_62 y1 y2 y3 y4 y5 y6 y7 y8 y9 y10 y11 y12 y13 y14 y15 y16 y17 y18 y19 y20 y21 y22 y23 y24 y25) H := hP
              have hD : va_D A (wS50 cI cJ cZ cB p0 p1 p2 p3 p4 p5 p6 p7 p8 p9 p10 p11 p12 p13 p14 p15 p16 p17 p18 p19 p20 p21 p22 p23 p24 p25 x0_4 x0_5 x0_6 x0_7 x0_8 x0_12 x0_13 x0_14 x0_15 x0_16 x0_17 x0_18 x0_22 x0_23 x0_24 x0_25z63 x0_26z67 x0_27 x0_28 x0_29 x0_30 x0_31 x0_32 x0_36 x0_39 x0_40 x0_44 x0_49 x0_51 x0_53 x0_54z62 x0_55z62 x0_56z62 g12x0_57 g12x0_58 x0_59 x0_60 x0_61 x0_62 y1 y2 y3 y4 y5 y6 y7 y8 y9 y10 y11 y12 y13 y14 y15 y16 y17 y18 y19 y20 y21 y22 y23 y24 y25) := hD
              refine lv_ldc2 (v := 5) hx hb hown (hk _ k_1673) d_X_readWord_94 ?_
              refine lv_lstore (lv' := [(4, .long (5 : Int64)), (2, .long rz57), (1, .int g12l1), (0, .ref p0)]) hx hb d_X_readWord_97 hl (by decide) rfl (fun ls hl => ?_)
              exact CUT99 rz57 (5 : Int64) x0_25z63 x0_26z67 x0_54z62 x0_55z62 x0_56z62 H _ ls F0z57 (by decide) Rx0_25z63 Rx0_26z67 Rx0_54z62 (show 5 / 8 ≤ 5 % 8 ∧ 5 % 8 ≤ 5 from by omega) (show g12x0_25.toInt ≤ x0_25z63.toInt ∧ x0_25z63.toInt ≤ x0_24.toInt from by omega) (show 1 ≤ x0_26.toInt → 1 ≤ x0_26z67.toInt from by omega) hP hD hS (lv_sub hl [2, 3, 1, 0] rfl)
            · have gc65 : 0 ≤ rz62.toInt := lc_nlt hv64 c65
              have R68 : 0 ≤ rz62.toInt ∧ rz62.toInt ≤ 1073741823 := by omega
              refine lv_lload hx hb d_X_readWord_71 (lv_at hl 0 rfl) ?_
              refine lv_ldc2 (v := 63) hx hb hown (hk _ k_1678) d_X_readWord_73 ?_
              refine W.lcmp hx hb d_X_readWord_76 ?_
              refine lv_topi (fun v69 hv69 => ?_)
              refine lv_if_gt (tgt := 89) hx hb d_X_readWord_77 (by decide) (fun c70 => ?_) (fun c70 => ?_)
              · have gc70 : 63 < rz62.toInt := lc_gt hv69 c70
                have R71 : 64 ≤ rz62.toInt ∧ rz62.toInt ≤ 1073741823 := by omega
                refine lv_aload_n hx hb d_X_readWord_89 rfl (lv_at hl 3 rfl) ?_
                refine lv_iconst (v := 4) hx hb d_X_readWord_90 (by decide) ?_
                refine kn_v (va_runV (C := "SignMachineModel") (As := [.int (4 : Int32)]) (rest := []) ⟨hx, hb, hml, hown, hk⟩ (c_X_bad l D cI cJ cZ cB p0 p1 p2 p3 p4 p5 p6 p7 p8 p9 p10 p11 p12 p13 p14 p15 p16 p17 p18 p19 p20 p21 p22 p23 p24 p25 H.size x0_4 x0_5 x0_6 x0_7 x0_8 x0_12 x0_13 x0_14 x0_15 x0_16 x0_17 x0_18 x0_22 x0_23 x0_24 x0_25z63 x0_26z63 x0_27 x0_28 x0_29 x0_30 x0_31 x0_32 x0_36 x0_39 x0_40 x0_44 x0_49 x0_51 x0_53 x0_54z62 x0_55z62 x0_56z62 g12x0_57 g12x0_58 x0_59 x0_60 x0_61 x0_62 y1 y2 y3 y4 y5 y6 y7 y8 y9 y10 y11 y12 y13 y14 y15 y16 y17 y18 y19 y20 y21 y22 y23 y24 y25 (4 : Int32) Rx0_26z63 (by decide)) (v_X_bad hk k_1552 ⟨Nat.le_of_ble_eq_true rfl, Nat.le_of_ble_eq_true rfl⟩) (pM_v hK hP hD (ci := 7) (q0 := 0) rfl rfl rfl) rfl rfl hl.1 rfl (lv_room (Nat.le_of_ble_eq_true rfl)) d_X_readWord_91 ⟨Nat.le_of_ble_eq_true rfl, Nat.le_of_ble_eq_true rfl⟩) hS hA hD (fun u t H locs ht hB hFr hS => ?_)
                obtain ⟨x0_26z72, Rx0_26z72, F0z72, hP, hD⟩ := hB
                have F0z72 : 1 ≤ x0_26z72.toInt := F0z72
                rw [ht] at hP
                have hD := dwk hD hFr
                clear ht hFr
                have hP : va_P D classes (wS50 cI cJ cZ cB p0 p1 p2 p3 p4 p5 p6 p7 p8 p9 p10 p11 p12 p13 p14 p15 p16 p17 p18 p19 p20 p21 p22 p23 p24 p25 x0_4 x0_5 x0_6 x0_7 x0_8 x0_12 x0_13 x0_14 x0_15 x0_16 x0_17 x0_18 x0_22 x0_23 x0_24 x0_25z63 x0_26z72 x0_27 x0_28 x0_29 x0_30 x0_31 x0_32 x0_36 x0_39 x0_40 x0_44 x0_49 x0_51 x0_53 x0_54z62 x0_55z62 x0_56z62 g12x0_57 g12x0_58 x0_59 x0_60 x0_61 x0_62 y1 y2 y3 y4 y5 y6 y7 y8 y9 y10 y11 y12 y13 y14 y15 y16 y17 y18 y19 y20 y21 y22 y23 y24 y25) H := hP
                have hD : va_D A (wS50 cI cJ cZ cB p0 p1 p2 p3 p4 p5 p6 p7 p8 p9 p10 p11 p12 p13 p14 p15 p16 p17 p18 p19 p20 p21 p22 p23 p24 p25 x0_4 x0_5 x0_6 x0_7 x0_8 x0_12 x0_13 x0_14 x0_15 x0_16 x0_17 x0_18 x0_22 x0_23 x0_24 x0_25z63 x0_26z72 x0_27 x0_28 x0_29 x0_30 x0_31 x0_32 x0_36 x0_39 x0_40 x0_44 x0_49 x0_51 x0_53 x0_54z62 x0_55z62 x0_56z62 g12x0_57 g12x0_58 x0_59 x0_60 x0_61 x0_62 y1 y2 y3 y4 y5 y6 y7 y8 y9 y10 y11 y12 y13 y14 y15 y16 y17 y18 y19 y20 y21 y22 y23 y24 y25) := hD
                refine lv_ldc2 (v := 5) hx hb hown (hk _ k_1673) d_X_readWord_94 ?_
                refine lv_lstore (lv' := [(4, .long (5 : Int64)), (2, .long rz57), (1, .int g12l1), (0, .ref p0)]) hx hb d_X_readWord_97 hl (by decide) rfl (fun ls hl => ?_)
                exact CUT99 rz57 (5 : Int64) x0_25z63 x0_26z72 x0_54z62 x0_55z62 x0_56z62 H _ ls F0z57 (by decide) Rx0_25z63 Rx0_26z72 Rx0_54z62 (show 5 / 8 ≤ 5 % 8 ∧ 5 % 8 ≤ 5 from by omega) (show g12x0_25.toInt ≤ x0_25z63.toInt ∧ x0_25z63.toInt ≤ x0_24.toInt from by omega) (show 1 ≤ x0_26.toInt → 1 ≤ x0_26z72.toInt from by omega) hP hD hS (lv_sub hl [2, 3, 1, 0] rfl)
              · have gc70 : rz62.toInt ≤ 63 := lc_ngt hv69 c70
                have R73 : 0 ≤ rz62.toInt ∧ rz62.toInt ≤ 63 := by omega
                refine lv_lload hx hb d_X_readWord_80 (lv_at hl 0 rfl) ?_
                refine lv_l2i (v := (rz62 : Int64).toInt32) hx hb d_X_readWord_82 rfl ?_
                refine lv_topi (fun v74 hv74 => ?_)
                obtain ⟨ev74, Rv74⟩ : v74.toInt = rz62.toInt ∧ (0 ≤ v74.toInt ∧ v74.toInt ≤ 63) := li3 hv74 R73 (by decide) (by decide)
                refine vp_callSi (W.runS (As := [.int v74]) (rest := []) ⟨hx, hb, hml, hown, hk⟩ (c_X_isField l v74 Rv74) (s_X_isField hk k_1389 ⟨Nat.le_of_ble_eq_true rfl, Nat.le_of_ble_eq_true rfl⟩) ⟨fun a U g mk q => q, fun U hU hW => ⟨rfl, trivial⟩⟩ rfl rfl hl.1 rfl (lv_room (Nat.le_of_ble_eq_true rfl)) d_X_readWord_83 ⟨Nat.le_of_ble_eq_true rfl, Nat.le_of_ble_eq_true rfl⟩) (fun rz75 hrz75 => ?_)
                obtain ⟨F0z75, F1z75⟩ := hrz75
                have F0z75 : 0 ≤ rz75.toInt ∧ rz75.toInt ≤ 1 := F0z75
                have F1z75 : rz75.toInt = 1 → (v74.toInt / 8 ≤ v74.toInt % 8 ∧ v74.toInt % 8 ≤ 5) := F1z75
                refine lv_if_ne (tgt := 99) hx hb d_X_readWord_86 (by decide) (fun c76 => ?_) (fun c76 => ?_)
                · have gc76 : rz75.toInt ≠ 0 := c_ne c76
                  have R77 : 1 ≤ rz75.toInt ∧ rz75.toInt ≤ 1 := by omega
                  exact CUT99 rz57 rz62 x0_25z63 x0_26z63 x0_54z62 x0_55z62 x0_56z62 H _ ls F0z57 R73 Rx0_25z63 Rx0_26z63 Rx0_54z62 (show rz62.toInt / 8 ≤ rz62.toInt % 8 ∧ rz62.toInt % 8 ≤ 5 from by omega) (show g12x0_25.toInt ≤ x0_25z63.toInt ∧ x0_25z63.toInt ≤ x0_24.toInt from by omega) (show 1 ≤ x0_26.toInt → 1 ≤ x0_26z63.toInt from by omega) hP hD hS (lv_sub hl [2, 3, 1, 0] rfl)
                · have gc76 : rz75.toInt = 0 := c_eq c76
                  have R78 : 0 ≤ rz75.toInt ∧ rz75.toInt ≤ 0 := by omega
                  refine lv_aload_n hx hb d_X_readWord_89 rfl (lv_at hl 3 rfl) ?_
                  refine lv_iconst (v := 4) hx hb d_X_readWord_90 (by decide) ?_
                  refine kn_v (va_runV (C := "SignMachineModel") (As := [.int (4 : Int32)]) (rest := []) ⟨hx, hb, hml, hown, hk⟩ (c_X_bad l D cI cJ cZ cB p0 p1 p2 p3 p4 p5 p6 p7 p8 p9 p10 p11 p12 p13 p14 p15 p16 p17 p18 p19 p20 p21 p22 p23 p24 p25 H.size x0_4 x0_5 x0_6 x0_7 x0_8 x0_12 x0_13 x0_14 x0_15 x0_16 x0_17 x0_18 x0_22 x0_23 x0_24 x0_25z63 x0_26z63 x0_27 x0_28 x0_29 x0_30 x0_31 x0_32 x0_36 x0_39 x0_40 x0_44 x0_49 x0_51 x0_53 x0_54z62 x0_55z62 x0_56z62 g12x0_57 g12x0_58 x0_59 x0_60 x0_61 x0_62 y1 y2 y3 y4 y5 y6 y7 y8 y9 y10 y11 y12 y13 y14 y15 y16 y17 y18 y19 y20 y21 y22 y23 y24 y25 (4 : Int32) Rx0_26z63 (by decide)) (v_X_bad hk k_1552 ⟨Nat.le_of_ble_eq_true rfl, Nat.le_of_ble_eq_true rfl⟩) (pM_v hK hP hD (ci := 7) (q0 := 0) rfl rfl rfl) rfl rfl hl.1 rfl (lv_room (Nat.le_of_ble_eq_true rfl)) d_X_readWord_91 ⟨Nat.le_of_ble_eq_true rfl, Nat.le_of_ble_eq_true rfl⟩) hS hA hD (fun u t H locs ht hB hFr hS => ?_)
                  obtain ⟨x0_26z79, Rx0_26z79, F0z79, hP, hD⟩ := hB
                  have F0z79 : 1 ≤ x0_26z79.toInt := F0z79
                  rw [ht] at hP
                  have hD := dwk hD hFr
                  clear ht hFr
                  have hP : va_P D classes (wS50 cI cJ cZ cB p0 p1 p2 p3 p4 p5 p6 p7 p8 p9 p10 p11 p12 p13 p14 p15 p16 p17 p18 p19 p20 p21 p22 p23 p24 p25 x0_4 x0_5 x0_6 x0_7 x0_8 x0_12 x0_13 x0_14 x0_15 x0_16 x0_17 x0_18 x0_22 x0_23 x0_24 x0_25z63 x0_26z79 x0_27 x0_28 x0_29 x0_30 x0_31 x0_32 x0_36 x0_39 x0_40 x0_44 x0_49 x0_51 x0_53 x0_54z62 x0_55z62 x0_56z62 g12x0_57 g12x0_58 x0_59 x0_60 x0_61 x0_62 y1 y2 y3 y4 y5 y6 y7 y8 y9 y10 y11 y12 y13 y14 y15 y16 y17 y18 y19 y20 y21 y22 y23 y24 y25) H := hP
                  have hD : va_D A (wS50 cI cJ cZ cB p0 p1 p2 p3 p4 p5 p6 p7 p8 p9 p10 p11 p12 p13 p14 p15 p16 p17 p18 p19 p20 p21 p22 p23 p24 p25 x0_4 x0_5 x0_6 x0_7 x0_8 x0_12 x0_13 x0_14 x0_15 x0_16 x0_17 x0_18 x0_22 x0_23 x0_24 x0_25z63 x0_26z79 x0_27 x0_28 x0_29 x0_30 x0_31 x0_32 x0_36 x0_39 x0_40 x0_44 x0_49 x0_51 x0_53 x0_54z62 x0_55z62 x0_56z62 g12x0_57 g12x0_58 x0_59 x0_60 x0_61 x0_62 y1 y2 y3 y4 y5 y6 y7 y8 y9 y10 y11 y12 y13 y14 y15 y16 y17 y18 y19 y20 y21 y22 y23 y24 y25) := hD
                  refine lv_ldc2 (v := 5) hx hb hown (hk _ k_1673) d_X_readWord_94 ?_
                  refine lv_lstore (lv' := [(4, .long (5 : Int64)), (2, .long rz57), (1, .int g12l1), (0, .ref p0)]) hx hb d_X_readWord_97 hl (by decide) rfl (fun ls hl => ?_)
                  exact CUT99 rz57 (5 : Int64) x0_25z63 x0_26z79 x0_54z62 x0_55z62 x0_56z62 H _ ls F0z57 (by decide) Rx0_25z63 Rx0_26z79 Rx0_54z62 (show 5 / 8 ≤ 5 % 8 ∧ 5 % 8 ≤ 5 from by omega) (show g12x0_25.toInt ≤ x0_25z63.toInt ∧ x0_25z63.toInt ≤ x0_24.toInt from by omega) (show 1 ≤ x0_26.toInt → 1 ≤ x0_26z79.toInt from by omega) hP hD hS (lv_sub hl [2, 3, 1, 0] rfl)
  exact CUT12 ((2 * (x0_24.toInt - x0_25.toInt) + 1).toNat + 1) (1 : Int32) x0_25 x0_26 x0_54 x0_55 x0_56 (0 : Int32) (0 : Int32) H _ ls (by omega) (by decide) Rx0_25 Rx0_26 Rx0_54 (by decide) (by decide) (show x0_25.toInt ≤ x0_24.toInt from by omega) (show x0_25.toInt ≤ x0_25.toInt from by omega) (show 1 ≤ x0_26.toInt → 1 ≤ x0_26.toInt from by omega) hP hD hS (lv_sub hl [0, 1] rfl)
theorem v_X_readWord {R : Room} {s : State} {args : Array Value} {own : String} {index : Nat} (hk : ∀ w ∈ tb, w.before args s = true) (hl : Cond.methodLink own index y_X_readWord ∈ tb) (hR : 5 + 1 ≤ R.frames ∧ 8 + (7 + 11) + 120 ≤ R.locals) : CallW R s args own "SignMachineModel" index y_X_readWord b_X_readWord 7 none (.code y_X_readWord b_X_readWord 7 none :: tb) ({ frames := 5, cells := 0, slots := 0, locals := 120 }) 0 0 0 := mk_v 0 hk k_1652 hl k_1651 k_102 k_119 rfl rfl h_X_readWord hR

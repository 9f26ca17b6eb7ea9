set_option maxHeartbeats 8000000 in
set_option maxRecDepth 100000 in
theorem c_X_wholeWord (l : Launch) (D : va_G) (cI cJ cZ cB : ClassId) (p0 p1 p2 p3 p4 p5 p6 p7 p8 p9 p10 p11 p12 p13 p14 p15 p16 p17 p18 p19 p20 p21 p22 p23 p24 p25 : Nat) (sz : Nat) (x0_4 : Int32) (x0_5 : Int32) (x0_6 : Int32) (x0_7 : Int32) (x0_8 : Int32) (x0_12 : Int32) (x0_13 : Int32) (x0_14 : Int32) (x0_15 : Int32) (x0_16 : Int32) (x0_17 : Int32) (x0_18 : Int32) (x0_22 : Int32) (x0_23 : Int32) (x0_24 : Int32) (x0_25 : Int32) (x0_26 : Int32) (x0_27 : Int32) (x0_28 : Int32) (x0_29 : Int32) (x0_30 : Int32) (x0_31 : Int32) (x0_32 : Int32) (x0_36 : Int32) (x0_39 : Int32) (x0_40 : Int64) (x0_44 : Int32) (x0_49 : Int32) (x0_51 : Int32) (x0_53 : Int32) (x0_54 : Int32) (x0_55 : Int64) (x0_56 : Int32) (x0_57 : Int32) (x0_58 : Int32) (x0_59 : Int32) (x0_60 : Int32) (x0_61 : Int32) (x0_62 : Int64) (y1 : Nat → Int32) (y2 : Nat → Int32) (y3 : Nat → Int32) (y4 : Nat → Int32) (y5 : Nat → Int32) (y6 : Nat → Int32) (y7 : Nat → Int32) (y8 : Nat → Int32) (y9 : Nat → Int32) (y10 : Nat → Int32) (y11 : Nat → Int64) (y12 : Nat → Int32) (y13 : Nat → Int64) (y14 : Nat → Int32) (y15 : Nat → Int64) (y16 : Nat → Int32) (y17 : Nat → Int32) (y18 : Nat → Int32) (y19 : Nat → Int32) (y20 : Nat → Int32) (y21 : Nat → Int32) (y22 : Nat → Int32) (y23 : Nat → Int32) (y24 : Nat → Int64) (y25 : Nat → Int64)  (Rx0_24 : 0 ≤ x0_24.toInt ∧ x0_24.toInt ≤ 4000) (Rx0_25 : 0 ≤ x0_25.toInt ∧ x0_25.toInt ≤ 4000) (Rx0_26 : 0 ≤ x0_26.toInt ∧ x0_26.toInt ≤ 6) (Rx0_30 : (-1073741823) ≤ x0_30.toInt ∧ x0_30.toInt ≤ 1073741823) (Rx0_36 : 0 ≤ x0_36.toInt ∧ x0_36.toInt ≤ 60) (Rx0_54 : 0 ≤ x0_54.toInt ∧ x0_54.toInt ≤ 3) (Rx0_57 : 0 ≤ x0_57.toInt ∧ x0_57.toInt ≤ 1) (Rx0_58 : 0 ≤ x0_58.toInt ∧ x0_58.toInt ≤ 1073741823) (Ay13 : ∀ i : Nat, (-1073741823 ≤ (y13 i).toInt ∧ (y13 i).toInt ≤ 1073741823)) (Ay15 : ∀ i : Nat, (-1073741823 ≤ (y15 i).toInt ∧ (y15 i).toInt ≤ 1073741823)) (Q0 : x0_25.toInt ≤ x0_24.toInt) : Met l y_X_wholeWord (.code y_X_wholeWord b_X_wholeWord 1 none :: tb) ({ frames := 6, cells := 0, slots := 0, locals := 146 }) (pM D cI cJ cZ cB (wS50 cI cJ cZ cB p0 p1 p2 p3 p4 p5 p6 p7 p8 p9 p10 p11 p12 p13 p14 p15 p16 p17 p18 p19 p20 p21 p22 p23 p24 p25 x0_4 x0_5 x0_6 x0_7 x0_8 x0_12 x0_13 x0_14 x0_15 x0_16 x0_17 x0_18 x0_22 x0_23 x0_24 x0_25 x0_26 x0_27 x0_28 x0_29 x0_30 x0_31 x0_32 x0_36 x0_39 x0_40 x0_44 x0_49 x0_51 x0_53 x0_54 x0_55 x0_56 x0_57 x0_58 x0_59 x0_60 x0_61 x0_62 y1 y2 y3 y4 y5 y6 y7 y8 y9 y10 y11 y12 y13 y14 y15 y16 y17 y18 y19 y20 y21 y22 y23 y24 y25) sz [.ref p0]) (va_Qv (fun (_ : Unit) => True) (fun _ t => ∃ u_x0_25 : Int32, ∃ u_x0_26 : Int32, ∃ u_x0_54 : Int32, ∃ u_x0_55 : Int64, ∃ u_x0_56 : Int32, ∃ u_x0_57 : Int32, ∃ u_x0_58 : Int32, (0 ≤ u_x0_25.toInt ∧ u_x0_25.toInt ≤ 4000) ∧ (0 ≤ u_x0_26.toInt ∧ u_x0_26.toInt ≤ 6) ∧ (0 ≤ u_x0_54.toInt ∧ u_x0_54.toInt ≤ 3) ∧ (0 ≤ u_x0_57.toInt ∧ u_x0_57.toInt ≤ 1) ∧ (0 ≤ u_x0_58.toInt ∧ u_x0_58.toInt ≤ 1073741823) ∧ (x0_25.toInt ≤ u_x0_25.toInt ∧ u_x0_25.toInt ≤ x0_24.toInt) ∧ (1 ≤ x0_26.toInt → 1 ≤ u_x0_26.toInt) ∧ va_P D classes (wS50 cI cJ cZ cB p0 p1 p2 p3 p4 p5 p6 p7 p8 p9 p10 p11 p12 p13 p14 p15 p16 p17 p18 p19 p20 p21 p22 p23 p24 p25 x0_4 x0_5 x0_6 x0_7 x0_8 x0_12 x0_13 x0_14 x0_15 x0_16 x0_17 x0_18 x0_22 x0_23 x0_24 u_x0_25 u_x0_26 x0_27 x0_28 x0_29 x0_30 x0_31 x0_32 x0_36 x0_39 x0_40 x0_44 x0_49 x0_51 x0_53 u_x0_54 u_x0_55 u_x0_56 u_x0_57 u_x0_58 x0_59 x0_60 x0_61 x0_62 y1 y2 y3 y4 y5 y6 y7 y8 y9 y10 y11 y12 y13 y14 y15 y16 y17 y18 y19 y20 y21 y22 y23 y24 y25) t.heap ∧ va_D (va_A (wS50 cI cJ cZ cB p0 p1 p2 p3 p4 p5 p6 p7 p8 p9 p10 p11 p12 p13 p14 p15 p16 p17 p18 p19 p20 p21 p22 p23 p24 p25 x0_4 x0_5 x0_6 x0_7 x0_8 x0_12 x0_13 x0_14 x0_15 x0_16 x0_17 x0_18 x0_22 x0_23 x0_24 x0_25 x0_26 x0_27 x0_28 x0_29 x0_30 x0_31 x0_32 x0_36 x0_39 x0_40 x0_44 x0_49 x0_51 x0_53 x0_54 x0_55 x0_56 x0_57 x0_58 x0_59 x0_60 x0_61 x0_62 y1 y2 y3 y4 y5 y6 y7 y8 y9 y10 y11 y12 y13 y14 y15 y16 y17 y18 y19 y20 y21 y22 y23 y24 y25) sz) (wS50 cI cJ cZ cB p0 p1 p2 p3 p4 p5 p6 p7 p8 p9 p10 p11 p12 p13 p14 p15 p16 p17 p18 p19 p20 p21 p22 p23 p24 p25 x0_4 x0_5 x0_6 x0_7 x0_8 x0_12 x0_13 x0_14 x0_15 x0_16 x0_17 x0_18 x0_22 x0_23 x0_24 u_x0_25 u_x0_26 x0_27 x0_28 x0_29 x0_30 x0_31 x0_32 x0_36 x0_39 x0_40 x0_44 x0_49 x0_51 x0_53 u_x0_54 u_x0_55 u_x0_56 u_x0_57 u_x0_58 x0_59 x0_60 x0_61 x0_62 y1 y2 y3 y4 y5 y6 y7 y8 y9 y10 y11 y12 y13 y14 y15 y16 y17 y18 y19 y20 y21 y22 y23 y24 y25)) (va_A (wS50 cI cJ cZ cB p0 p1 p2 p3 p4 p5 p6 p7 p8 p9 p10 p11 p12 p13 p14 p15 p16 p17 p18 p19 p20 p21 p22 p23 p24 p25 x0_4 x0_5 x0_6 x0_7 x0_8 x0_12 x0_13 x0_14 x0_15 x0_16 x0_17 x0_18 x0_22 x0_23 x0_24 x0_25 x0_26 x0_27 x0_28 x0_29 x0_30 x0_31 x0_32 x0_36 x0_39 x0_40 x0_44 x0_49 x0_51 x0_53 x0_54 x0_55 x0_56 x0_57 x0_58 x0_59 x0_60 x0_61 x0_62 y1 y2 y3 y4 y5 y6 y7 y8 y9 y10 y11 y12 y13 y14 y15 y16 y17 y18 y19 y20 y21 y22 y23 y24 y25) sz)) 0 0 (va_A (wS50 cI cJ cZ cB p0 p1 p2 p3 p4 p5 p6 p7 p8 p9 p10 p11 p12 p13 p14 p15 p16 p17 p18 p19 p20 p21 p22 p23 p24 p25 x0_4 x0_5 x0_6 x0_7 x0_8 x0_12 x0_13 x0_14 x0_15 x0_16 x0_17 x0_18 x0_22 x0_23 x0_24 x0_25 x0_26 x0_27 x0_28 x0_29 x0_30 x0_31 x0_32 x0_36 x0_39 x0_40 x0_44 x0_49 x0_51 x0_53 x0_54 x0_55 x0_56 x0_57 x0_58 x0_59 x0_60 x0_61 x0_62 y1 y2 y3 y4 y5 y6 y7 y8 y9 y10 y11 y12 y13 y14 y15 y16 y17 y18 y19 y20 y21 y22 y23 y24 y25) sz) := by
  refine Met.ofW (cc := b_X_wholeWord) (maxL := 1) (ret := none) (by decide) rfl ?_
  intro p e s m args below meth c s₁ B hml hv
  obtain ⟨rfl, hsz, hK, hP, hD0⟩ := hv
  subst hsz
  have hD := hD0.self (sz := s.heap.size)
  generalize hAe : va_A (wS50 cI cJ cZ cB p0 p1 p2 p3 p4 p5 p6 p7 p8 p9 p10 p11 p12 p13 p14 p15 p16 p17 p18 p19 p20 p21 p22 p23 p24 p25 x0_4 x0_5 x0_6 x0_7 x0_8 x0_12 x0_13 x0_14 x0_15 x0_16 x0_17 x0_18 x0_22 x0_23 x0_24 x0_25 x0_26 x0_27 x0_28 x0_29 x0_30 x0_31 x0_32 x0_36 x0_39 x0_40 x0_44 x0_49 x0_51 x0_53 x0_54 x0_55 x0_56 x0_57 x0_58 x0_59 x0_60 x0_61 x0_62 y1 y2 y3 y4 y5 y6 y7 y8 y9 y10 y11 y12 y13 y14 y15 y16 y17 y18 y19 y20 y21 y22 y23 y24 y25) s.heap.size = A at hD ⊢
  have hA : ∀ q : Nat, s.heap.size ≤ q → A q := fun q h => by rw [← hAe]; exact Or.inr h
  clear hAe hD0
  have hS : va_S A s.heap s.heap [] := va_S.rf
  have hx := B.exec
  have hb := B.bytes
  have hr := B.returns
  have hts := atoms_spec (ws := .code y_X_wholeWord b_X_wholeWord 1 none :: tb) B.pre
  have hk : ∀ w ∈ tb, w.before [.ref p0].toArray s = true := fun w h => hts w (List.mem_cons_of_mem _ h)
  have hown : s.vm.findClass "SignMachineModel" = some m.cls := findClass_of_methodNamed B.named
  have hlocks := B.notSynchronized
  have hl := lv_entry ([.ref p0]) (n := 1) (Nat.le_of_ble_eq_true rfl)
  rw [lg_entry_eq]
  generalize (lg_sl ([.ref p0]) ++ List.replicate (1 - (lg_sl ([.ref p0])).length) Slot.unset).toArray = ls at hl ⊢
  have hl : lv_has ls 1 [(0, .ref p0)] := hl
  clear hts B
  refine lv_aload_n hx hb d_X_wholeWord_0 rfl (lv_at hl 0 rfl) ?_
  refine sn_i (va_runV (C := "SignMachineModel") (As := []) (rest := []) ⟨hx, hb, hml, hown, hk⟩ (c_X_here l D cI cJ cZ cB p0 p1 p2 p3 p4 p5 p6 p7 p8 p9 p10 p11 p12 p13 p14 p15 p16 p17 p18 p19 p20 p21 p22 p23 p24 p25 s.heap.size x0_4 x0_5 x0_6 x0_7 x0_8 x0_12 x0_13 x0_14 x0_15 x0_16 x0_17 x0_18 x0_22 x0_23 x0_24 x0_25 x0_26 x0_27 x0_28 x0_29 x0_30 x0_31 x0_32 x0_36 x0_39 x0_40 x0_44 x0_49 x0_51 x0_53 x0_54 x0_55 x0_56 x0_57 x0_58 x0_59 x0_60 x0_61 x0_62 y1 y2 y3 y4 y5 y6 y7 y8 y9 y10 y11 y12 y13 y14 y15 y16 y17 y18 y19 y20 y21 y22 y23 y24 y25  Rx0_24 Rx0_25) (v_X_here hk k_1537 ⟨Nat.le_of_ble_eq_true rfl, Nat.le_of_ble_eq_true rfl⟩) (pM_v hK hP hD (ci := 7) (q0 := 0) rfl rfl rfl) rfl rfl hl.1 rfl (lv_room (Nat.le_of_ble_eq_true rfl)) d_X_wholeWord_1 ⟨Nat.le_of_ble_eq_true rfl, Nat.le_of_ble_eq_true rfl⟩) hS hA hD (fun rz1 u t H locs hr0 ht hB hFr hS => ?_)
  subst hr0
  obtain ⟨F0z1, hP, hD⟩ := hB
  have F0z1 : (x0_25.toInt < x0_24.toInt ∧ rz1.toInt = (y10 (x0_25).toNatClampNeg).toInt) ∨ (x0_24.toInt ≤ x0_25.toInt ∧ rz1.toInt = -1) := F0z1
  rw [ht] at hP
  have hD := dwk hD hFr
  clear ht hFr
  have hP : va_P D classes (wS50 cI cJ cZ cB p0 p1 p2 p3 p4 p5 p6 p7 p8 p9 p10 p11 p12 p13 p14 p15 p16 p17 p18 p19 p20 p21 p22 p23 p24 p25 x0_4 x0_5 x0_6 x0_7 x0_8 x0_12 x0_13 x0_14 x0_15 x0_16 x0_17 x0_18 x0_22 x0_23 x0_24 x0_25 x0_26 x0_27 x0_28 x0_29 x0_30 x0_31 x0_32 x0_36 x0_39 x0_40 x0_44 x0_49 x0_51 x0_53 x0_54 x0_55 x0_56 x0_57 x0_58 x0_59 x0_60 x0_61 x0_62 y1 y2 y3 y4 y5 y6 y7 y8 y9 y10 y11 y12 y13 y14 y15 y16 y17 y18 y19 y20 y21 y22 y23 y24 y25) H := hP
  have hD : va_D A (wS50 cI cJ cZ cB p0 p1 p2 p3 p4 p5 p6 p7 p8 p9 p10 p11 p12 p13 p14 p15 p16 p17 p18 p19 p20 p21 p22 p23 p24 p25 x0_4 x0_5 x0_6 x0_7 x0_8 x0_12 x0_13 x0_14 x0_15 x0_16 x0_17 x0_18 x0_22 x0_23 x0_24 x0_25 x0_26 x0_27 x0_28 x0_29 x0_30 x0_31 x0_32 x0_36 x0_39 x0_40 x0_44 x0_49 x0_51 x0_53 x0_54 x0_55 x0_56 x0_57 x0_58 x0_59 x0_60 x0_61 x0_62 y1 y2 y3 y4 y5 y6 y7 y8 y9 y10 y11 y12 y13 y14 y15 y16 y17 y18 y19 y20 y21 y22 y23 y24 y25) := hD
  refine lv_iconst (v := (-1)) hx hb d_X_wholeWord_4 (by decide) ?_
  refine lv_icmp_ne (tgt := 24) hx hb d_X_wholeWord_5 (by decide) (fun c2 => ?_) (fun c2 => ?_)
  · have gc2 : rz1.toInt ≠ (-1 : Int) := c_ne c2
    refine lv_aload_n hx hb d_X_wholeWord_24 rfl (lv_at hl 0 rfl) ?_
    refine kn_v (va_runV (C := "SignMachineModel") (As := []) (rest := []) ⟨hx, hb, hml, hown, hk⟩ (c_X_readWord l D cI cJ cZ cB p0 p1 p2 p3 p4 p5 p6 p7 p8 p9 p10 p11 p12 p13 p14 p15 p16 p17 p18 p19 p20 p21 p22 p23 p24 p25 H.size x0_4 x0_5 x0_6 x0_7 x0_8 x0_12 x0_13 x0_14 x0_15 x0_16 x0_17 x0_18 x0_22 x0_23 x0_24 x0_25 x0_26 x0_27 x0_28 x0_29 x0_30 x0_31 x0_32 x0_36 x0_39 x0_40 x0_44 x0_49 x0_51 x0_53 x0_54 x0_55 x0_56 x0_57 x0_58 x0_59 x0_60 x0_61 x0_62 y1 y2 y3 y4 y5 y6 y7 y8 y9 y10 y11 y12 y13 y14 y15 y16 y17 y18 y19 y20 y21 y22 y23 y24 y25  Rx0_24 Rx0_25 Rx0_26 Rx0_30 Rx0_36 Rx0_54 Rx0_57 Rx0_58 Ay13 Ay15 (show x0_25.toInt ≤ x0_24.toInt from by omega)) (v_X_readWord hk k_1649 ⟨Nat.le_of_ble_eq_true rfl, Nat.le_of_ble_eq_true rfl⟩) (pM_v hK hP hD (ci := 7) (q0 := 0) rfl rfl rfl) rfl rfl hl.1 rfl (lv_room (Nat.le_of_ble_eq_true rfl)) d_X_wholeWord_25 ⟨Nat.le_of_ble_eq_true rfl, Nat.le_of_ble_eq_true rfl⟩) hS hA hD (fun u t H locs ht hB hFr hS => ?_)
    obtain ⟨x0_25z3, x0_26z3, x0_54z3, x0_55z3, x0_56z3, x0_57z3, x0_58z3, Rx0_25z3, Rx0_26z3, Rx0_54z3, Rx0_57z3, Rx0_58z3, F0z3, F1z3, hP, hD⟩ := hB
    have F0z3 : x0_25.toInt ≤ x0_25z3.toInt ∧ x0_25z3.toInt ≤ x0_24.toInt := F0z3
    have F1z3 : 1 ≤ x0_26.toInt → 1 ≤ x0_26z3.toInt := F1z3
    rw [ht] at hP
    have hD := dwk hD hFr
    clear ht hFr
    have hP : va_P D classes (wS50 cI cJ cZ cB p0 p1 p2 p3 p4 p5 p6 p7 p8 p9 p10 p11 p12 p13 p14 p15 p16 p17 p18 p19 p20 p21 p22 p23 p24 p25 x0_4 x0_5 x0_6 x0_7 x0_8 x0_12 x0_13 x0_14 x0_15 x0_16 x0_17 x0_18 x0_22 x0_23 x0_24 x0_25z3 x0_26z3 x0_27 x0_28 x0_29 x0_30 x0_31 x0_32 x0_36 x0_39 x0_40 x0_44 x0_49 x0_51 x0_53 x0_54z3 x0_55z3 x0_56z3 x0_57z3 x0_58z3 x0_59 x0_60 x0_61 x0_62 y1 y2 y3 y4 y5 y6 y7 y8 y9 y10 y11 y12 y13 y14 y15 y16 y17 y18 y19 y20 y21 y22 y23 y24 y25) H := hP
    have hD : va_D A (wS50 cI cJ cZ cB p0 p1 p2 p3 p4 p5 p6 p7 p8 p9 p10 p11 p12 p13 p14 p15 p16 p17 p18 p19 p20 p21 p22 p23 p24 p25 x0_4 x0_5 x0_6 x0_7 x0_8 x0_12 x0_13 x0_14 x0_15 x0_16 x0_17 x0_18 x0_22 x0_23 x0_24 x0_25z3 x0_26z3 x0_27 x0_28 x0_29 x0_30 x0_31 x0_32 x0_36 x0_39 x0_40 x0_44 x0_49 x0_51 x0_53 x0_54z3 x0_55z3 x0_56z3 x0_57z3 x0_58z3 x0_59 x0_60 x0_61 x0_62 y1 y2 y3 y4 y5 y6 y7 y8 y9 y10 y11 y12 y13 y14 y15 y16 y17 y18 y19 y20 y21 y22 y23 y24 y25) := hD
    refine lv_aload_n hx hb d_X_wholeWord_28 rfl (lv_at hl 0 rfl) ?_
    refine sn_i (va_runV (C := "SignMachineModel") (As := []) (rest := []) ⟨hx, hb, hml, hown, hk⟩ (c_X_here l D cI cJ cZ cB p0 p1 p2 p3 p4 p5 p6 p7 p8 p9 p10 p11 p12 p13 p14 p15 p16 p17 p18 p19 p20 p21 p22 p23 p24 p25 H.size x0_4 x0_5 x0_6 x0_7 x0_8 x0_12 x0_13 x0_14 x0_15 x0_16 x0_17 x0_18 x0_22 x0_23 x0_24 x0_25z3 x0_26z3 x0_27 x0_28 x0_29 x0_30 x0_31 x0_32 x0_36 x0_39 x0_40 x0_44 x0_49 x0_51 x0_53 x0_54z3 x0_55z3 x0_56z3 x0_57z3 x0_58z3 x0_59 x0_60 x0_61 x0_62 y1 y2 y3 y4 y5 y6 y7 y8 y9 y10 y11 y12 y13 y14 y15 y16 y17 y18 y19 y20 y21 y22 y23 y24 y25  Rx0_24 Rx0_25z3) (v_X_here hk k_1537 ⟨Nat.le_of_ble_eq_true rfl, Nat.le_of_ble_eq_true rfl⟩) (pM_v hK hP hD (ci := 7) (q0 := 0) rfl rfl rfl) rfl rfl hl.1 rfl (lv_room (Nat.le_of_ble_eq_true rfl)) d_X_wholeWord_29 ⟨Nat.le_of_ble_eq_true rfl, Nat.le_of_ble_eq_true rfl⟩) hS hA hD (fun rz4 u t H locs hr0 ht hB hFr hS => ?_)
    subst hr0
    obtain ⟨F0z4, hP, hD⟩ := hB
    have F0z4 : (x0_25z3.toInt < x0_24.toInt ∧ rz4.toInt = (y10 (x0_25z3).toNatClampNeg).toInt) ∨ (x0_24.toInt ≤ x0_25z3.toInt ∧ rz4.toInt = -1) := F0z4
    rw [ht] at hP
    have hD := dwk hD hFr
    clear ht hFr
    have hP : va_P D classes (wS50 cI cJ cZ cB p0 p1 p2 p3 p4 p5 p6 p7 p8 p9 p10 p11 p12 p13 p14 p15 p16 p17 p18 p19 p20 p21 p22 p23 p24 p25 x0_4 x0_5 x0_6 x0_7 x0_8 x0_12 x0_13 x0_14 x0_15 x0_16 x0_17 x0_18 x0_22 x0_23 x0_24 x0_25z3 x0_26z3 x0_27 x0_28 x0_29 x0_30 x0_31 x0_32 x0_36 x0_39 x0_40 x0_44 x0_49 x0_51 x0_53 x0_54z3 x0_55z3 x0_56z3 x0_57z3 x0_58z3 x0_59 x0_60 x0_61 x0_62 y1 y2 y3 y4 y5 y6 y7 y8 y9 y10 y11 y12 y13 y14 y15 y16 y17 y18 y19 y20 y21 y22 y23 y24 y25) H := hP
    have hD : va_D A (wS50 cI cJ cZ cB p0 p1 p2 p3 p4 p5 p6 p7 p8 p9 p10 p11 p12 p13 p14 p15 p16 p17 p18 p19 p20 p21 p22 p23 p24 p25 x0_4 x0_5 x0_6 x0_7 x0_8 x0_12 x0_13 x0_14 x0_15 x0_16 x0_17 x0_18 x0_22 x0_23 x0_24 x0_25z3 x0_26z3 x0_27 x0_28 x0_29 x0_30 x0_31 x0_32 x0_36 x0_39 x0_40 x0_44 x0_49 x0_51 x0_53 x0_54z3 x0_55z3 x0_56z3 x0_57z3 x0_58z3 x0_59 x0_60 x0_61 x0_62 y1 y2 y3 y4 y5 y6 y7 y8 y9 y10 y11 y12 y13 y14 y15 y16 y17 y18 y19 y20 y21 y22 y23 y24 y25) := hD
    refine lv_iconst (v := (-1)) hx hb d_X_wholeWord_32 (by decide) ?_
    refine lv_icmp_eq (tgt := 50) hx hb d_X_wholeWord_33 (by decide) (fun c5 => ?_) (fun c5 => ?_)
    · have gc5 : rz4.toInt = (-1 : Int) := c_eq c5
      have R6 : (-1) ≤ rz4.toInt ∧ rz4.toInt ≤ (-1) := rf_eqX (fr3 rz4) (show (-1) ≤ (-1 : Int) ∧ (-1 : Int) ≤ (-1) from by decide) gc5 (by decide) (by decide)
      exact W.vret hx hb hr (fun t ht hW => ⟨⟨(), rfl, trivial, ⟨x0_25z3, x0_26z3, x0_54z3, x0_55z3, x0_56z3, x0_57z3, x0_58z3, Rx0_25z3, Rx0_26z3, Rx0_54z3, Rx0_57z3, Rx0_58z3, (show x0_25.toInt ≤ x0_25z3.toInt ∧ x0_25z3.toInt ≤ x0_24.toInt from by omega), (show 1 ≤ x0_26.toInt → 1 ≤ x0_26z3.toInt from by omega), by show va_P D classes _ t.heap; rw [ht]; exact hP, hD⟩⟩, hS.F ht⟩) hS.2.2 d_X_wholeWord_50
    · have gc5 : rz4.toInt ≠ (-1 : Int) := c_ne c5
      refine lv_aload_n hx hb d_X_wholeWord_36 rfl (lv_at hl 0 rfl) ?_
      refine sn_i (va_runV (C := "SignMachineModel") (As := []) (rest := []) ⟨hx, hb, hml, hown, hk⟩ (c_X_here l D cI cJ cZ cB p0 p1 p2 p3 p4 p5 p6 p7 p8 p9 p10 p11 p12 p13 p14 p15 p16 p17 p18 p19 p20 p21 p22 p23 p24 p25 H.size x0_4 x0_5 x0_6 x0_7 x0_8 x0_12 x0_13 x0_14 x0_15 x0_16 x0_17 x0_18 x0_22 x0_23 x0_24 x0_25z3 x0_26z3 x0_27 x0_28 x0_29 x0_30 x0_31 x0_32 x0_36 x0_39 x0_40 x0_44 x0_49 x0_51 x0_53 x0_54z3 x0_55z3 x0_56z3 x0_57z3 x0_58z3 x0_59 x0_60 x0_61 x0_62 y1 y2 y3 y4 y5 y6 y7 y8 y9 y10 y11 y12 y13 y14 y15 y16 y17 y18 y19 y20 y21 y22 y23 y24 y25  Rx0_24 Rx0_25z3) (v_X_here hk k_1537 ⟨Nat.le_of_ble_eq_true rfl, Nat.le_of_ble_eq_true rfl⟩) (pM_v hK hP hD (ci := 7) (q0 := 0) rfl rfl rfl) rfl rfl hl.1 rfl (lv_room (Nat.le_of_ble_eq_true rfl)) d_X_wholeWord_37 ⟨Nat.le_of_ble_eq_true rfl, Nat.le_of_ble_eq_true rfl⟩) hS hA hD (fun rz7 u t H locs hr0 ht hB hFr hS => ?_)
      subst hr0
      obtain ⟨F0z7, hP, hD⟩ := hB
      have F0z7 : (x0_25z3.toInt < x0_24.toInt ∧ rz7.toInt = (y10 (x0_25z3).toNatClampNeg).toInt) ∨ (x0_24.toInt ≤ x0_25z3.toInt ∧ rz7.toInt = -1) := F0z7
      rw [ht] at hP
      have hD := dwk hD hFr
      clear ht hFr
      have hP : va_P D classes (wS50 cI cJ cZ cB p0 p1 p2 p3 p4 p5 p6 p7 p8 p9 p10 p11 p12 p13 p14 p15 p16 p17 p18 p19 p20 p21 p22 p23 p24 p25 x0_4 x0_5 x0_6 x0_7 x0_8 x0_12 x0_13 x0_14 x0_15 x0_16 x0_17 x0_18 x0_22 x0_23 x0_24 x0_25z3 x0_26z3 x0_27 x0_28 x0_29 x0_30 x0_31 x0_32 x0_36 x0_39 x0_40 x0_44 x0_49 x0_51 x0_53 x0_54z3 x0_55z3 x0_56z3 x0_57z3 x0_58z3 x0_59 x0_60 x0_61 x0_62 y1 y2 y3 y4 y5 y6 y7 y8 y9 y10 y11 y12 y13 y14 y15 y16 y17 y18 y19 y20 y21 y22 y23 y24 y25) H := hP
      have hD : va_D A (wS50 cI cJ cZ cB p0 p1 p2 p3 p4 p5 p6 p7 p8 p9 p10 p11 p12 p13 p14 p15 p16 p17 p18 p19 p20 p21 p22 p23 p24 p25 x0_4 x0_5 x0_6 x0_7 x0_8 x0_12 x0_13 x0_14 x0_15 x0_16 x0_17 x0_18 x0_22 x0_23 x0_24 x0_25z3 x0_26z3 x0_27 x0_28 x0_29 x0_30 x0_31 x0_32 x0_36 x0_39 x0_40 x0_44 x0_49 x0_51 x0_53 x0_54z3 x0_55z3 x0_56z3 x0_57z3 x0_58z3 x0_59 x0_60 x0_61 x0_62 y1 y2 y3 y4 y5 y6 y7 y8 y9 y10 y11 y12 y13 y14 y15 y16 y17 y18 y19 y20 y21 y22 y23 y24 y25) := hD
      refine lv_bipush (v := 32) hx hb d_X_wholeWord_40 (by decide) ?_
      refine lv_icmp_eq (tgt := 50) hx hb d_X_wholeWord_42 (by decide) (fun c8 => ?_) (fun c8 => ?_)
      · have gc8 : rz7.toInt = (32 : Int) := c_eq c8
        have R9 : 32 ≤ rz7.toInt ∧ rz7.toInt ≤ 32 := rf_eqX (fr3 rz7) (show 32 ≤ (32 : Int) ∧ (32 : Int) ≤ 32 from by decide) gc8 (by decide) (by decide)
        exact W.vret hx hb hr (fun t ht hW => ⟨⟨(), rfl, trivial, ⟨x0_25z3, x0_26z3, x0_54z3, x0_55z3, x0_56z3, x0_57z3, x0_58z3, Rx0_25z3, Rx0_26z3, Rx0_54z3, Rx0_57z3, Rx0_58z3, (show x0_25.toInt ≤ x0_25z3.toInt ∧ x0_25z3.toInt ≤ x0_24.toInt from by omega), (show 1 ≤ x0_26.toInt → 1 ≤ x0_26z3.toInt from by omega), by show va_P D classes _ t.heap; rw [ht]; exact hP, hD⟩⟩, hS.F ht⟩) hS.2.2 d_X_wholeWord_50
      · have gc8 : rz7.toInt ≠ (32 : Int) := c_ne c8
        refine lv_aload_n hx hb d_X_wholeWord_45 rfl (lv_at hl 0 rfl) ?_
        refine lv_iconst (v := 1) hx hb d_X_wholeWord_46 (by decide) ?_
        refine kn_v (va_runV (C := "SignMachineModel") (As := [.int (1 : Int32)]) (rest := []) ⟨hx, hb, hml, hown, hk⟩ (c_X_bad l D cI cJ cZ cB p0 p1 p2 p3 p4 p5 p6 p7 p8 p9 p10 p11 p12 p13 p14 p15 p16 p17 p18 p19 p20 p21 p22 p23 p24 p25 H.size x0_4 x0_5 x0_6 x0_7 x0_8 x0_12 x0_13 x0_14 x0_15 x0_16 x0_17 x0_18 x0_22 x0_23 x0_24 x0_25z3 x0_26z3 x0_27 x0_28 x0_29 x0_30 x0_31 x0_32 x0_36 x0_39 x0_40 x0_44 x0_49 x0_51 x0_53 x0_54z3 x0_55z3 x0_56z3 x0_57z3 x0_58z3 x0_59 x0_60 x0_61 x0_62 y1 y2 y3 y4 y5 y6 y7 y8 y9 y10 y11 y12 y13 y14 y15 y16 y17 y18 y19 y20 y21 y22 y23 y24 y25 (1 : Int32) Rx0_26z3 (by decide)) (v_X_bad hk k_1552 ⟨Nat.le_of_ble_eq_true rfl, Nat.le_of_ble_eq_true rfl⟩) (pM_v hK hP hD (ci := 7) (q0 := 0) rfl rfl rfl) rfl rfl hl.1 rfl (lv_room (Nat.le_of_ble_eq_true rfl)) d_X_wholeWord_47 ⟨Nat.le_of_ble_eq_true rfl, Nat.le_of_ble_eq_true rfl⟩) hS hA hD (fun u t H locs ht hB hFr hS => ?_)
        obtain ⟨x0_26z10, Rx0_26z10, F0z10, hP, hD⟩ := hB
        have F0z10 : 1 ≤ x0_26z10.toInt := F0z10
        rw [ht] at hP
        have hD := dwk hD hFr
        clear ht hFr
        have hP : va_P D classes (wS50 cI cJ cZ cB p0 p1 p2 p3 p4 p5 p6 p7 p8 p9 p10 p11 p12 p13 p14 p15 p16 p17 p18 p19 p20 p21 p22 p23 p24 p25 x0_4 x0_5 x0_6 x0_7 x0_8 x0_12 x0_13 x0_14 x0_15 x0_16 x0_17 x0_18 x0_22 x0_23 x0_24 x0_25z3 x0_26z10 x0_27 x0_28 x0_29 x0_30 x0_31 x0_32 x0_36 x0_39 x0_40 x0_44 x0_49 x0_51 x0_53 x0_54z3 x0_55z3 x0_56z3 x0_57z3 x0_58z3 x0_59 x0_60 x0_61 x0_62 y1 y2 y3 y4 y5 y6 y7 y8 y9 y10 y11 y12 y13 y14 y15 y16 y17 y18 y19 y20 y21 y22 y23 y24 y25) H := hP
        have hD : va_D A (wS50 cI cJ cZ cB p0 p1 p2 p3 p4 p5 p6 p7 p8 p9 p10 p11 p12 p13 p14 p15 p16 p17 p18 p19 p20 p21 p22 p23 p24 p25 x0_4 x0_5 x0_6 x0_7 x0_8 x0_12 x0_13 x0_14 x0_15 x0_16 x0_17 x0_18 x0_22 x0_23 x0_24 x0_25z3 x0_26z10 x0_27 x0_28 x0_29 x0_30 x0_31 x0_32 x0_36 x0_39 x0_40 x0_44 x0_49 x0_51 x0_53 x0_54z3 x0_55z3 x0_56z3 x0_57z3 x0_58z3 x0_59 x0_60 x0_61 x0_62 y1 y2 y3 y4 y5 y6 y7 y8 y9 y10 y11 y12 y13 y14 y15 y16 y17 y18 y19 y20 y21 y22 y23 y24 y25) := hD
        exact W.vret hx hb hr (fun t ht hW => ⟨⟨(), rfl, trivial, ⟨x0_25z3, x0_26z10, x0_54z3, x0_55z3, x0_56z3, x0_57z3, x0_58z3, Rx0_25z3, Rx0_26z10, Rx0_54z3, Rx0_57z3, Rx0_58z3, (show x0_25.toInt ≤ x0_25z3.toInt ∧ x0_25z3.toInt ≤ x0_24.toInt from by omega), (show 1 ≤ x0_26.toInt → 1 ≤ x0_26z10.toInt from by omega), by show va_P D classes _ t.heap; rw [ht]; exact hP, hD⟩⟩, hS.F ht⟩) hS.2.2 d_X_wholeWord_50
  · have gc2 : rz1.toInt = (-1 : Int) := c_eq c2
    have R11 : (-1) ≤ rz1.toInt ∧ rz1.toInt ≤ (-1) := rf_eqX (fr3 rz1) (show (-1) ≤ (-1 : Int) ∧ (-1 : Int) ≤ (-1) from by decide) gc2 (by decide) (by decide)
    refine lv_aload_n hx hb d_X_wholeWord_8 rfl (lv_at hl 0 rfl) ?_
    refine lv_iconst (v := 1) hx hb d_X_wholeWord_9 (by decide) ?_
    refine kn_v (va_runV (C := "SignMachineModel") (As := [.int (1 : Int32)]) (rest := []) ⟨hx, hb, hml, hown, hk⟩ (c_X_bad l D cI cJ cZ cB p0 p1 p2 p3 p4 p5 p6 p7 p8 p9 p10 p11 p12 p13 p14 p15 p16 p17 p18 p19 p20 p21 p22 p23 p24 p25 H.size x0_4 x0_5 x0_6 x0_7 x0_8 x0_12 x0_13 x0_14 x0_15 x0_16 x0_17 x0_18 x0_22 x0_23 x0_24 x0_25 x0_26 x0_27 x0_28 x0_29 x0_30 x0_31 x0_32 x0_36 x0_39 x0_40 x0_44 x0_49 x0_51 x0_53 x0_54 x0_55 x0_56 x0_57 x0_58 x0_59 x0_60 x0_61 x0_62 y1 y2 y3 y4 y5 y6 y7 y8 y9 y10 y11 y12 y13 y14 y15 y16 y17 y18 y19 y20 y21 y22 y23 y24 y25 (1 : Int32) Rx0_26 (by decide)) (v_X_bad hk k_1552 ⟨Nat.le_of_ble_eq_true rfl, Nat.le_of_ble_eq_true rfl⟩) (pM_v hK hP hD (ci := 7) (q0 := 0) rfl rfl rfl) rfl rfl hl.1 rfl (lv_room (Nat.le_of_ble_eq_true rfl)) d_X_wholeWord_10 ⟨Nat.le_of_ble_eq_true rfl, Nat.le_of_ble_eq_true rfl⟩) hS hA hD (fun u t H locs ht hB hFr hS => ?_)
    obtain ⟨x0_26z12, Rx0_26z12, F0z12, hP, hD⟩ := hB
    have F0z12 : 1 ≤ x0_26z12.toInt := F0z12
    rw [ht] at hP
    have hD := dwk hD hFr
    clear ht hFr
    have hP : va_P D classes (wS50 cI cJ cZ cB p0 p1 p2 p3 p4 p5 p6 p7 p8 p9 p10 p11 p12 p13 p14 p15 p16 p17 p18 p19 p20 p21 p22 p23 p24 p25 x0_4 x0_5 x0_6 x0_7 x0_8 x0_12 x0_13 x0_14 x0_15 x0_16 x0_17 x0_18 x0_22 x0_23 x0_24 x0_25 x0_26z12 x0_27 x0_28 x0_29 x0_30 x0_31 x0_32 x0_36 x0_39 x0_40 x0_44 x0_49 x0_51 x0_53 x0_54 x0_55 x0_56 x0_57 x0_58 x0_59 x0_60 x0_61 x0_62 y1 y2 y3 y4 y5 y6 y7 y8 y9 y10 y11 y12 y13 y14 y15 y16 y17 y18 y19 y20 y21 y22 y23 y24 y25) H := hP
    have hD : va_D A (wS50 cI cJ cZ cB p0 p1 p2 p3 p4 p5 p6 p7 p8 p9 p10 p11 p12 p13 p14 p15 p16 p17 p18 p19 p20 p21 p22 p23 p24 p25 x0_4 x0_5 x0_6 x0_7 x0_8 x0_12 x0_13 x0_14 x0_15 x0_16 x0_17 x0_18 x0_22 x0_23 x0_24 x0_25 x0_26z12 x0_27 x0_28 x0_29 x0_30 x0_31 x0_32 x0_36 x0_39 x0_40 x0_44 x0_49 x0_51 x0_53 x0_54 x0_55 x0_56 x0_57 x0_58 x0_59 x0_60 x0_61 x0_62 y1 y2 y3 y4 y5 y6 y7 y8 y9 y10 y11 y12 y13 y14 y15 y16 y17 y18 y19 y20 y21 y22 y23 y24 y25) := hD
    refine lv_aload_n hx hb d_X_wholeWord_13 rfl (lv_at hl 0 rfl) ?_
    refine lv_iconst (v := 0) hx hb d_X_wholeWord_14 (by decide) ?_
    refine va_put (D := D) (ci := 7) (v := .int (0 : Int32)) (ty := .int) (C := "SignMachineModel") (T := F_X) (N := 64) hx hb hk fi_X ft_X ft_X_ok fn_X hown hK.1 hP hD hS 0 rfl rfl 57 (by decide) (hk _ k_1178) (fun _ h9 => h9) rfl (by decide +kernel) rfl rfl (Nat.le_of_ble_eq_true rfl) d_X_wholeWord_15 (fun H locs hP hD hS => ?_)
    have hP : va_P D classes (wS50 cI cJ cZ cB p0 p1 p2 p3 p4 p5 p6 p7 p8 p9 p10 p11 p12 p13 p14 p15 p16 p17 p18 p19 p20 p21 p22 p23 p24 p25 x0_4 x0_5 x0_6 x0_7 x0_8 x0_12 x0_13 x0_14 x0_15 x0_16 x0_17 x0_18 x0_22 x0_23 x0_24 x0_25 x0_26z12 x0_27 x0_28 x0_29 x0_30 x0_31 x0_32 x0_36 x0_39 x0_40 x0_44 x0_49 x0_51 x0_53 x0_54 x0_55 x0_56 (0 : Int32) x0_58 x0_59 x0_60 x0_61 x0_62 y1 y2 y3 y4 y5 y6 y7 y8 y9 y10 y11 y12 y13 y14 y15 y16 y17 y18 y19 y20 y21 y22 y23 y24 y25) H := hP
    have hD : va_D A (wS50 cI cJ cZ cB p0 p1 p2 p3 p4 p5 p6 p7 p8 p9 p10 p11 p12 p13 p14 p15 p16 p17 p18 p19 p20 p21 p22 p23 p24 p25 x0_4 x0_5 x0_6 x0_7 x0_8 x0_12 x0_13 x0_14 x0_15 x0_16 x0_17 x0_18 x0_22 x0_23 x0_24 x0_25 x0_26z12 x0_27 x0_28 x0_29 x0_30 x0_31 x0_32 x0_36 x0_39 x0_40 x0_44 x0_49 x0_51 x0_53 x0_54 x0_55 x0_56 (0 : Int32) x0_58 x0_59 x0_60 x0_61 x0_62 y1 y2 y3 y4 y5 y6 y7 y8 y9 y10 y11 y12 y13 y14 y15 y16 y17 y18 y19 y20 y21 y22 y23 y24 y25) := hD
    refine lv_aload_n hx hb d_X_wholeWord_18 rfl (lv_at hl 0 rfl) ?_
    refine lv_iconst (v := 0) hx hb d_X_wholeWord_19 (by decide) ?_
    refine va_put (D := D) (ci := 7) (v := .int (0 : Int32)) (ty := .int) (C := "SignMachineModel") (T := F_X) (N := 64) hx hb hk fi_X ft_X ft_X_ok fn_X hown hK.1 hP hD hS 0 rfl rfl 58 (by decide) (hk _ k_1179) (fun _ h9 => h9) rfl (by decide +kernel) rfl rfl (Nat.le_of_ble_eq_true rfl) d_X_wholeWord_20 (fun H locs hP hD hS => ?_)
    have hP : va_P D classes (wS50 cI cJ cZ cB p0 p1 p2 p3 p4 p5 p6 p7 p8 p9 p10 p11 p12 p13 p14 p15 p16 p17 p18 p19 p20 p21 p22 p23 p24 p25 x0_4 x0_5 x0_6 x0_7 x0_8 x0_12 x0_13 x0_14 x0_15 x0_16 x0_17 x0_18 x0_22 x0_23 x0_24 x0_25 x0_26z12 x0_27 x0_28 x0_29 x0_30 x0_31 x0_32 x0_36 x0_39 x0_40 x0_44 x0_49 x0_51 x0_53 x0_54 x0_55 x0_56 (0 : Int32) (0 : Int32) x0_59 x0_60 x0_61 x0_62 y1 y2 y3 y4 y5 y6 y7 y8 y9 y10 y11 y12 y13 y14 y15 y16 y17 y18 y19 y20 y21 y22 y23 y24 y25) H := hP
    have hD : va_D A (wS50 cI cJ cZ cB p0 p1 p2 p3 p4 p5 p6 p7 p8 p9 p10 p11 p12 p13 p14 p15 p16 p17 p18 p19 p20 p21 p22 p23 p24 p25 x0_4 x0_5 x0_6 x0_7 x0_8 x0_12 x0_13 x0_14 x0_15 x0_16 x0_17 x0_18 x0_22 x0_23 x0_24 x0_25 x0_26z12 x0_27 x0_28 x0_29 x0_30 x0_31 x0_32 x0_36 x0_39 x0_40 x0_44 x0_49 x0_51 x0_53 x0_54 x0_55 x0_56 (0 : Int32) (0 : Int32) x0_59 x0_60 x0_61 x0_62 y1 y2 y3 y4 y5 y6 y7 y8 y9 y10 y11 y12 y13 y14 y15 y16 y17 y18 y19 y20 y21 y22 y23 y24 y25) := hD
    exact W.vret hx hb hr (fun t ht hW => ⟨⟨(), rfl, trivial, ⟨x0_25, x0_26z12, x0_54, x0_55, x0_56, (0 : Int32), (0 : Int32), Rx0_25, Rx0_26z12, Rx0_54, (by decide), (by decide), (show x0_25.toInt ≤ x0_25.toInt ∧ x0_25.toInt ≤ x0_24.toInt from by omega), (show 1 ≤ x0_26.toInt → 1 ≤ x0_26z12.toInt from by omega), by show va_P D classes _ t.heap; rw [ht]; exact hP, hD⟩⟩, hS.F ht⟩) hS.2.2 d_X_wholeWord_23
theorem v_X_wholeWord {R : Room} {s : State} {args : Array Value} {own : String} {index : Nat} (hk : ∀ w ∈ tb, w.before args s = true) (hl : Cond.methodLink own index y_X_wholeWord ∈ tb) (hR : 6 + 1 ≤ R.frames ∧ 8 + (1 + 11) + 146 ≤ R.locals) : CallW R s args own "SignMachineModel" index y_X_wholeWord b_X_wholeWord 1 none (.code y_X_wholeWord b_X_wholeWord 1 none :: tb) ({ frames := 6, cells := 0, slots := 0, locals := 146 }) 0 0 0 := mk_v 0 hk k_1648 hl k_1647 k_101 k_119 rfl rfl h_X_wholeWord hR
set_option maxHeartbeats 8000000 in
set_option maxRecDepth 100000 in
theorem c_X_readEnd (l : Launch) (D : va_G) (cI cJ cZ cB : ClassId) (p0 p1 p2 p3 p4 p5 p6 p7 p8 p9 p10 p11 p12 p13 p14 p15 p16 p17 p18 p19 p20 p21 p22 p23 p24 p25 : Nat) (sz : Nat) (x0_4 : Int32) (x0_5 : Int32) (x0_6 : Int32) (x0_7 : Int32) (x0_8 : Int32) (x0_12 : Int32) (x0_13 : Int32) (x0_14 : Int32) (x0_15 : Int32) (x0_16 : Int32) (x0_17 : Int32) (x0_18 : Int32) (x0_22 : Int32) (x0_23 : Int32) (x0_24 : Int32) (x0_25 : Int32) (x0_26 : Int32) (x0_27 : Int32) (x0_28 : Int32) (x0_29 : Int32) (x0_30 : Int32) (x0_31 : Int32) (x0_32 : Int32) (x0_36 : Int32) (x0_39 : Int32) (x0_40 : Int64) (x0_44 : Int32) (x0_49 : Int32) (x0_51 : Int32) (x0_53 : Int32) (x0_54 : Int32) (x0_55 : Int64) (x0_56 : Int32) (x0_57 : Int32) (x0_58 : Int32) (x0_59 : Int32) (x0_60 : Int32) (x0_61 : Int32) (x0_62 : Int64) (y1 : Nat → Int32) (y2 : Nat → Int32) (y3 : Nat → Int32) (y4 : Nat → Int32) (y5 : Nat → Int32) (y6 : Nat → Int32) (y7 : Nat → Int32) (y8 : Nat → Int32) (y9 : Nat → Int32) (y10 : Nat → Int32) (y11 : Nat → Int64) (y12 : Nat → Int32) (y13 : Nat → Int64) (y14 : Nat → Int32) (y15 : Nat → Int64) (y16 : Nat → Int32) (y17 : Nat → Int32) (y18 : Nat → Int32) (y19 : Nat → Int32) (y20 : Nat → Int32) (y21 : Nat → Int32) (y22 : Nat → Int32) (y23 : Nat → Int32) (y24 : Nat → Int64) (y25 : Nat → Int64)  (Rx0_24 : 0 ≤ x0_24.toInt ∧ x0_24.toInt ≤ 4000) (Rx0_25 : 0 ≤ x0_25.toInt ∧ x0_25.toInt ≤ 4000) (Rx0_26 : 0 ≤ x0_26.toInt ∧ x0_26.toInt ≤ 6) (Rx0_30 : (-1073741823) ≤ x0_30.toInt ∧ x0_30.toInt ≤ 1073741823) (Rx0_32 : 0 ≤ x0_32.toInt ∧ x0_32.toInt ≤ 1) (Rx0_36 : 0 ≤ x0_36.toInt ∧ x0_36.toInt ≤ 60) (Rx0_44 : 0 ≤ x0_44.toInt ∧ x0_44.toInt ≤ 4200) (Rx0_49 : 0 ≤ x0_49.toInt ∧ x0_49.toInt ≤ 4100) (Rx0_51 : 0 ≤ x0_51.toInt ∧ x0_51.toInt ≤ 110) (Rx0_53 : 0 ≤ x0_53.toInt ∧ x0_53.toInt ≤ 40) (Rx0_54 : 0 ≤ x0_54.toInt ∧ x0_54.toInt ≤ 3) (Rx0_57 : 0 ≤ x0_57.toInt ∧ x0_57.toInt ≤ 1) (Rx0_58 : 0 ≤ x0_58.toInt ∧ x0_58.toInt ≤ 1073741823) (Ay13 : ∀ i : Nat, (-1073741823 ≤ (y13 i).toInt ∧ (y13 i).toInt ≤ 1073741823)) (Ay15 : ∀ i : Nat, (-1073741823 ≤ (y15 i).toInt ∧ (y15 i).toInt ≤ 1073741823)) (Ay16 : ∀ i : Nat, (0 ≤ (y16 i).toInt ∧ (y16 i).toInt ≤ 3999)) (Ay17 : ∀ i : Nat, (0 ≤ (y17 i).toInt ∧ (y17 i).toInt ≤ 1)) (Ay18 : ∀ i : Nat, (0 ≤ (y18 i).toInt ∧ (y18 i).toInt ≤ 1073741823)) (Ay19 : ∀ i : Nat, (0 ≤ (y19 i).toInt ∧ (y19 i).toInt ≤ 4199)) (Ay23 : ∀ i : Nat, ((0 ≤ (y23 i).toInt ∧ (y23 i).toInt ≤ 139) ∧ ((y23 i).toInt ≤ 59 ∨ 100 ≤ (y23 i).toInt))) (Ay24 : ∀ i : Nat, (-1073741824 ≤ (y24 i).toInt ∧ (y24 i).toInt ≤ 1073741823)) (Q0 : x0_25.toInt ≤ x0_24.toInt) (Q1 : x0_51.toInt ≤ x0_36.toInt + x0_53.toInt) (Q2 : LX y19 y18 x0_49.toInt x0_44.toInt) (Q3 : x0_44.toInt ≤ 4000) : Met l y_X_readEnd (.code y_X_readEnd b_X_readEnd 7 none :: tb) ({ frames := 7, cells := 0, slots := 0, locals := 166 }) (pM D cI cJ cZ cB (wS50 cI cJ cZ cB p0 p1 p2 p3 p4 p5 p6 p7 p8 p9 p10 p11 p12 p13 p14 p15 p16 p17 p18 p19 p20 p21 p22 p23 p24 p25 x0_4 x0_5 x0_6 x0_7 x0_8 x0_12 x0_13 x0_14 x0_15 x0_16 x0_17 x0_18 x0_22 x0_23 x0_24 x0_25 x0_26 x0_27 x0_28 x0_29 x0_30 x0_31 x0_32 x0_36 x0_39 x0_40 x0_44 x0_49 x0_51 x0_53 x0_54 x0_55 x0_56 x0_57 x0_58 x0_59 x0_60 x0_61 x0_62 y1 y2 y3 y4 y5 y6 y7 y8 y9 y10 y11 y12 y13 y14 y15 y16 y17 y18 y19 y20 y21 y22 y23 y24 y25) sz [.ref p0]) (va_Qv (fun (_ : Unit) => True) (fun _ t => ∃ u_x0_25 : Int32, ∃ u_x0_26 : Int32, ∃ u_x0_29 : Int32, ∃ u_x0_30 : Int32, ∃ u_x0_31 : Int32, ∃ u_x0_32 : Int32, ∃ u_x0_44 : Int32, ∃ u_x0_54 : Int32, ∃ u_x0_55 : Int64, ∃ u_x0_56 : Int32, ∃ u_x0_57 : Int32, ∃ u_x0_58 : Int32, ∃ u_y13 : Nat → Int64, ∃ u_y16 : Nat → Int32, ∃ u_y17 : Nat → Int32, ∃ u_y18 : Nat → Int32, ∃ u_y24 : Nat → Int64, (0 ≤ u_x0_25.toInt ∧ u_x0_25.toInt ≤ 4000) ∧ (0 ≤ u_x0_26.toInt ∧ u_x0_26.toInt ≤ 6) ∧ ((-1073741823) ≤ u_x0_30.toInt ∧ u_x0_30.toInt ≤ 1073741823) ∧ (0 ≤ u_x0_32.toInt ∧ u_x0_32.toInt ≤ 1) ∧ (0 ≤ u_x0_44.toInt ∧ u_x0_44.toInt ≤ 4200) ∧ (0 ≤ u_x0_54.toInt ∧ u_x0_54.toInt ≤ 3) ∧ (0 ≤ u_x0_57.toInt ∧ u_x0_57.toInt ≤ 1) ∧ (0 ≤ u_x0_58.toInt ∧ u_x0_58.toInt ≤ 1073741823) ∧ (∀ i : Nat, (-1073741823 ≤ (u_y13 i).toInt ∧ (u_y13 i).toInt ≤ 1073741823)) ∧ (∀ i : Nat, (0 ≤ (u_y16 i).toInt ∧ (u_y16 i).toInt ≤ 3999)) ∧ (∀ i : Nat, (0 ≤ (u_y17 i).toInt ∧ (u_y17 i).toInt ≤ 1)) ∧ (∀ i : Nat, (0 ≤ (u_y18 i).toInt ∧ (u_y18 i).toInt ≤ 1073741823)) ∧ (∀ i : Nat, (-1073741824 ≤ (u_y24 i).toInt ∧ (u_y24 i).toInt ≤ 1073741823)) ∧ (LX y19 u_y18 x0_49.toInt u_x0_44.toInt) ∧ (1 ≤ x0_26.toInt → 1 ≤ u_x0_26.toInt) ∧ (u_x0_26.toInt = 0 → (0 ≤ u_x0_31.toInt ∧ u_x0_31.toInt ≤ 3999)) ∧ (u_x0_44.toInt ≤ 4110) ∧ (u_x0_32.toInt = 1) ∧ va_P D classes (wS50 cI cJ cZ cB p0 p1 p2 p3 p4 p5 p6 p7 p8 p9 p10 p11 p12 p13 p14 p15 p16 p17 p18 p19 p20 p21 p22 p23 p24 p25 x0_4 x0_5 x0_6 x0_7 x0_8 x0_12 x0_13 x0_14 x0_15 x0_16 x0_17 x0_18 x0_22 x0_23 x0_24 u_x0_25 u_x0_26 x0_27 x0_28 u_x0_29 u_x0_30 u_x0_31 u_x0_32 x0_36 x0_39 x0_40 u_x0_44 x0_49 x0_51 x0_53 u_x0_54 u_x0_55 u_x0_56 u_x0_57 u_x0_58 x0_59 x0_60 x0_61 x0_62 y1 y2 y3 y4 y5 y6 y7 y8 y9 y10 y11 y12 u_y13 y14 y15 u_y16 u_y17 u_y18 y19 y20 y21 y22 y23 u_y24 y25) t.heap ∧ va_D (va_A (wS50 cI cJ cZ cB p0 p1 p2 p3 p4 p5 p6 p7 p8 p9 p10 p11 p12 p13 p14 p15 p16 p17 p18 p19 p20 p21 p22 p23 p24 p25 x0_4 x0_5 x0_6 x0_7 x0_8 x0_12 x0_13 x0_14 x0_15 x0_16 x0_17 x0_18 x0_22 x0_23 x0_24 x0_25 x0_26 x0_27 x0_28 x0_29 x0_30 x0_31 x0_32 x0_36 x0_39 x0_40 x0_44 x0_49 x0_51 x0_53 x0_54 x0_55 x0_56 x0_57 x0_58 x0_59 x0_60 x0_61 x0_62 y1 y2 y3 y4 y5 y6 y7 y8 y9 y10 y11 y12 y13 y14 y15 y16 y17 y18 y19 y20 y21 y22 y23 y24 y25) sz) (wS50 cI cJ cZ cB p0 p1 p2 p3 p4 p5 p6 p7 p8 p9 p10 p11 p12 p13 p14 p15 p16 p17 p18 p19 p20 p21 p22 p23 p24 p25 x0_4 x0_5 x0_6 x0_7 x0_8 x0_12 x0_13 x0_14 x0_15 x0_16 x0_17 x0_18 x0_22 x0_23 x0_24 u_x0_25 u_x0_26 x0_27 x0_28 u_x0_29 u_x0_30 u_x0_31 u_x0_32 x0_36 x0_39 x0_40 u_x0_44 x0_49 x0_51 x0_53 u_x0_54 u_x0_55 u_x0_56 u_x0_57 u_x0_58 x0_59 x0_60 x0_61 x0_62 y1 y2 y3 y4 y5 y6 y7 y8 y9 y10 y11 y12 u_y13 y14 y15 u_y16 u_y17 u_y18 y19 y20 y21 y22 y23 u_y24 y25)) (va_A (wS50 cI cJ cZ cB p0 p1 p2 p3 p4 p5 p6 p7 p8 p9 p10 p11 p12 p13 p14 p15 p16 p17 p18 p19 p20 p21 p22 p23 p24 p25 x0_4 x0_5 x0_6 x0_7 x0_8 x0_12 x0_13 x0_14 x0_15 x0_16 x0_17 x0_18 x0_22 x0_23 x0_24 x0_25 x0_26 x0_27 x0_28 x0_29 x0_30 x0_31 x0_32 x0_36 x0_39 x0_40 x0_44 x0_49 x0_51 x0_53 x0_54 x0_55 x0_56 x0_57 x0_58 x0_59 x0_60 x0_61 x0_62 y1 y2 y3 y4 y5 y6 y7 y8 y9 y10 y11 y12 y13 y14 y15 y16 y17 y18 y19 y20 y21 y22 y23 y24 y25) sz)) 0 0 (va_A (wS50 cI cJ cZ cB p0 p1 p2 p3 p4 p5 p6 p7 p8 p9 p10 p11 p12 p13 p14 p15 p16 p17 p18 p19 p20 p21 p22 p23 p24 p25 x0_4 x0_5 x0_6 x0_7 x0_8 x0_12 x0_13 x0_14 x0_15 x0_16 x0_17 x0_18 x0_22 x0_23 x0_24 x0_25 x0_26 x0_27 x0_28 x0_29 x0_30 x0_31 x0_32 x0_36 x0_39 x0_40 x0_44 x0_49 x0_51 x0_53 x0_54 x0_55 x0_56 x0_57 x0_58 x0_59 x0_60 x0_61 x0_62 y1 y2 y3 y4 y5 y6 y7 y8 y9 y10 y11 y12 y13 y14 y15 y16 y17 y18 y19 y20 y21 y22 y23 y24 y25) sz) := by
  refine Met.ofW (cc := b_X_readEnd) (maxL := 7) (ret := none) (by decide) rfl ?_
  intro p e s m args below meth c s₁ B hml hv
  obtain ⟨rfl, hsz, hK, hP, hD0⟩ := hv
  subst hsz
  have hD := hD0.self (sz := s.heap.size)
  generalize hAe : va_A (wS50 cI cJ cZ cB p0 p1 p2 p3 p4 p5 p6 p7 p8 p9 p10 p11 p12 p13 p14 p15 p16 p17 p18 p19 p20 p21 p22 p23 p24 p25 x0_4 x0_5 x0_6 x0_7 x0_8 x0_12 x0_13 x0_14 x0_15 x0_16 x0_17 x0_18 x0_22 x0_23 x0_24 x0_25 x0_26 x0_27 x0_28 x0_29 x0_30 x0_31 x0_32 x0_36 x0_39 x0_40 x0_44 x0_49 x0_51 x0_53 x0_54 x0_55 x0_56 x0_57 x0_58 x0_59 x0_60 x0_61 x0_62 y1 y2 y3 y4 y5 y6 y7 y8 y9 y10 y11 y12 y13 y14 y15 y16 y17 y18 y19 y20 y21 y22 y23 y24 y25) s.heap.size = A at hD ⊢
  have hA : ∀ q : Nat, s.heap.size ≤ q → A q := fun q h => by rw [← hAe]; exact Or.inr h
  clear hAe hD0
  have hS : va_S A s.heap s.heap [] := va_S.rf
  have hx := B.exec
  have hb := B.bytes
  have hr := B.returns
  have hts := atoms_spec (ws := .code y_X_readEnd b_X_readEnd 7 none :: tb) B.pre
  have hk : ∀ w ∈ tb, w.before [.ref p0].toArray s = true := fun w h => hts w (List.mem_cons_of_mem _ h)
  have hown : s.vm.findClass "SignMachineModel" = some m.cls := findClass_of_methodNamed B.named
  have hlocks := B.notSynchronized
  have hl := lv_entry ([.ref p0]) (n := 7) (Nat.le_of_ble_eq_true rfl)
  rw [lg_entry_eq]
  generalize (lg_sl ([.ref p0]) ++ List.replicate (7 - (lg_sl ([.ref p0])).length) Slot.unset).toArray = ls at hl ⊢
  have hl : lv_has ls 7 [(0, .ref p0)] := hl
  clear hts B
  refine lv_aload_n hx hb d_X_readEnd_0 rfl (lv_at hl 0 rfl) ?_
  refine kn_v (va_runV (C := "SignMachineModel") (As := []) (rest := []) ⟨hx, hb, hml, hown, hk⟩ (c_X_wholeWord l D cI cJ cZ cB p0 p1 p2 p3 p4 p5 p6 p7 p8 p9 p10 p11 p12 p13 p14 p15 p16 p17 p18 p19 p20 p21 p22 p23 p24 p25 s.heap.size x0_4 x0_5 x0_6 x0_7 x0_8 x0_12 x0_13 x0_14 x0_15 x0_16 x0_17 x0_18 x0_22 x0_23 x0_24 x0_25 x0_26 x0_27 x0_28 x0_29 x0_30 x0_31 x0_32 x0_36 x0_39 x0_40 x0_44 x0_49 x0_51 x0_53 x0_54 x0_55 x0_56 x0_57 x0_58 x0_59 x0_60 x0_61 x0_62 y1 y2 y3 y4 y5 y6 y7 y8 y9 y10 y11 y12 y13 y14 y15 y16 y17 y18 y19 y20 y21 y22 y23 y24 y25  Rx0_24 Rx0_25 Rx0_26 Rx0_30 Rx0_36 Rx0_54 Rx0_57 Rx0_58 Ay13 Ay15 (show x0_25.toInt ≤ x0_24.toInt from by omega)) (v_X_wholeWord hk k_1645 ⟨Nat.le_of_ble_eq_true rfl, Nat.le_of_ble_eq_true rfl⟩) (pM_v hK hP hD (ci := 7) (q0 := 0) rfl rfl rfl) rfl rfl hl.1 rfl (lv_room (Nat.le_of_ble_eq_true rfl)) d_X_readEnd_1 ⟨Nat.le_of_ble_eq_true rfl, Nat.le_of_ble_eq_true rfl⟩) hS hA hD (fun u t H locs ht hB hFr hS => ?_)
  obtain ⟨x0_25z1, x0_26z1, x0_54z1, x0_55z1, x0_56z1, x0_57z1, x0_58z1, Rx0_25z1, Rx0_26z1, Rx0_54z1, Rx0_57z1, Rx0_58z1, F0z1, F1z1, hP, hD⟩ := hB
  have F0z1 : x0_25.toInt ≤ x0_25z1.toInt ∧ x0_25z1.toInt ≤ x0_24.toInt := F0z1
  have F1z1 : 1 ≤ x0_26.toInt → 1 ≤ x0_26z1.toInt := F1z1
  rw [ht] at hP
  have hD := dwk hD hFr
  clear ht hFr
  have hP : va_P D classes (wS50 cI cJ cZ cB p0 p1 p2 p3 p4 p5 p6 p7 p8 p9 p10 p11 p12 p13 p14 p15 p16 p17 p18 p19 p20 p21 p22 p23 p24 p25 x0_4 x0_5 x0_6 x0_7 x0_8 x0_12 x0_13 x0_14 x0_15 x0_16 x0_17 x0_18 x0_22 x0_23 x0_24 x0_25z1 x0_26z1 x0_27 x0_28 x0_29 x0_30 x0_31 x0_32 x0_36 x0_39 x0_40 x0_44 x0_49 x0_51 x0_53 x0_54z1 x0_55z1 x0_56z1 x0_57z1 x0_58z1 x0_59 x0_60 x0_61 x0_62 y1 y2 y3 y4 y5 y6 y7 y8 y9 y10 y11 y12 y13 y14 y15 y16 y17 y18 y19 y20 y21 y22 y23 y24 y25) H := hP
  have hD : va_D A (wS50 cI cJ cZ cB p0 p1 p2 p3 p4 p5 p6 p7 p8 p9 p10 p11 p12 p13 p14 p15 p16 p17 p18 p19 p20 p21 p22 p23 p24 p25 x0_4 x0_5 x0_6 x0_7 x0_8 x0_12 x0_13 x0_14 x0_15 x0_16 x0_17 x0_18 x0_22 x0_23 x0_24 x0_25z1 x0_26z1 x0_27 x0_28 x0_29 x0_30 x0_31 x0_32 x0_36 x0_39 x0_40 x0_44 x0_49 x0_51 x0_53 x0_54z1 x0_55z1 x0_56z1 x0_57z1 x0_58z1 x0_59 x0_60 x0_61 x0_62 y1 y2 y3 y4 y5 y6 y7 y8 y9 y10 y11 y12 y13 y14 y15 y16 y17 y18 y19 y20 y21 y22 y23 y24 y25) := hD
  refine lv_aload_n hx hb d_X_readEnd_4 rfl (lv_at hl 0 rfl) ?_
  refine sn_l (va_runV (C := "SignMachineModel") (As := []) (rest := []) ⟨hx, hb, hml, hown, hk⟩ (c_X_wordValue l D cI cJ cZ cB p0 p1 p2 p3 p4 p5 p6 p7 p8 p9 p10 p11 p12 p13 p14 p15 p16 p17 p18 p19 p20 p21 p22 p23 p24 p25 H.size x0_4 x0_5 x0_6 x0_7 x0_8 x0_12 x0_13 x0_14 x0_15 x0_16 x0_17 x0_18 x0_22 x0_23 x0_24 x0_25z1 x0_26z1 x0_27 x0_28 x0_29 x0_30 x0_31 x0_32 x0_36 x0_39 x0_40 x0_44 x0_49 x0_51 x0_53 x0_54z1 x0_55z1 x0_56z1 x0_57z1 x0_58z1 x0_59 x0_60 x0_61 x0_62 y1 y2 y3 y4 y5 y6 y7 y8 y9 y10 y11 y12 y13 y14 y15 y16 y17 y18 y19 y20 y21 y22 y23 y24 y25  Rx0_57z1 Rx0_58z1) (v_X_wordValue hk k_1679 ⟨Nat.le_of_ble_eq_true rfl, Nat.le_of_ble_eq_true rfl⟩) (pM_v hK hP hD (ci := 7) (q0 := 0) rfl rfl rfl) rfl rfl hl.1 rfl (lv_room (Nat.le_of_ble_eq_true rfl)) d_X_readEnd_5 ⟨Nat.le_of_ble_eq_true rfl, Nat.le_of_ble_eq_true rfl⟩) hS hA hD (fun rz2 u t H locs hr0 ht hB hFr hS => ?_)
  subst hr0
  obtain ⟨F0z2, hP, hD⟩ := hB
  have F0z2 : (-1073741823) ≤ rz2.toInt ∧ rz2.toInt ≤ 1073741823 := F0z2
  rw [ht] at hP
  have hD := dwk hD hFr
  clear ht hFr
  have hP : va_P D classes (wS50 cI cJ cZ cB p0 p1 p2 p3 p4 p5 p6 p7 p8 p9 p10 p11 p12 p13 p14 p15 p16 p17 p18 p19 p20 p21 p22 p23 p24 p25 x0_4 x0_5 x0_6 x0_7 x0_8 x0_12 x0_13 x0_14 x0_15 x0_16 x0_17 x0_18 x0_22 x0_23 x0_24 x0_25z1 x0_26z1 x0_27 x0_28 x0_29 x0_30 x0_31 x0_32 x0_36 x0_39 x0_40 x0_44 x0_49 x0_51 x0_53 x0_54z1 x0_55z1 x0_56z1 x0_57z1 x0_58z1 x0_59 x0_60 x0_61 x0_62 y1 y2 y3 y4 y5 y6 y7 y8 y9 y10 y11 y12 y13 y14 y15 y16 y17 y18 y19 y20 y21 y22 y23 y24 y25) H := hP
  have hD : va_D A (wS50 cI cJ cZ cB p0 p1 p2 p3 p4 p5 p6 p7 p8 p9 p10 p11 p12 p13 p14 p15 p16 p17 p18 p19 p20 p21 p22 p23 p24 p25 x0_4 x0_5 x0_6 x0_7 x0_8 x0_12 x0_13 x0_14 x0_15 x0_16 x0_17 x0_18 x0_22 x0_23 x0_24 x0_25z1 x0_26z1 x0_27 x0_28 x0_29 x0_30 x0_31 x0_32 x0_36 x0_39 x0_40 x0_44 x0_49 x0_51 x0_53 x0_54z1 x0_55z1 x0_56z1 x0_57z1 x0_58z1 x0_59 x0_60 x0_61 x0_62 y1 y2 y3 y4 y5 y6 y7 y8 y9 y10 y11 y12 y13 y14 y15 y16 y17 y18 y19 y20 y21 y22 y23 y24 y25) := hD
  refine lv_lstore_n (lv' := [(1, .long rz2), (0, .ref p0)]) hx hb d_X_readEnd_8 rfl hl (by decide) rfl (fun ls hl => ?_)
  refine lv_lload_n hx hb d_X_readEnd_9 rfl (lv_at hl 0 rfl) ?_
  refine lv_lconst (v := 0) hx hb d_X_readEnd_10 (by decide) ?_
  refine W.lcmp hx hb d_X_readEnd_11 ?_
  refine lv_topi (fun v3 hv3 => ?_)
  refine lv_if_lt (tgt := 23) hx hb d_X_readEnd_12 (by decide) (fun c4 => ?_) (fun c4 => ?_)
  · have gc4 : rz2.toInt < (0 : Int) := lc_lt hv3 c4
    have R5 : (-1073741823) ≤ rz2.toInt ∧ rz2.toInt ≤ (-1) := rf_ltX F0z2 (show 0 ≤ (0 : Int) ∧ (0 : Int) ≤ 0 from by decide) gc4 (by decide) (by decide)
    refine lv_aload_n hx hb d_X_readEnd_23 rfl (lv_at hl 1 rfl) ?_
    refine lv_iconst (v := 4) hx hb d_X_readEnd_24 (by decide) ?_
    refine kn_v (va_runV (C := "SignMachineModel") (As := [.int (4 : Int32)]) (rest := []) ⟨hx, hb, hml, hown, hk⟩ (c_X_bad l D cI cJ cZ cB p0 p1 p2 p3 p4 p5 p6 p7 p8 p9 p10 p11 p12 p13 p14 p15 p16 p17 p18 p19 p20 p21 p22 p23 p24 p25 H.size x0_4 x0_5 x0_6 x0_7 x0_8 x0_12 x0_13 x0_14 x0_15 x0_16 x0_17 x0_18 x0_22 x0_23 x0_24 x0_25z1 x0_26z1 x0_27 x0_28 x0_29 x0_30 x0_31 x0_32 x0_36 x0_39 x0_40 x0_44 x0_49 x0_51 x0_53 x0_54z1 x0_55z1 x0_56z1 x0_57z1 x0_58z1 x0_59 x0_60 x0_61 x0_62 y1 y2 y3 y4 y5 y6 y7 y8 y9 y10 y11 y12 y13 y14 y15 y16 y17 y18 y19 y20 y21 y22 y23 y24 y25 (4 : Int32) Rx0_26z1 (by decide)) (v_X_bad hk k_1552 ⟨Nat.le_of_ble_eq_true rfl, Nat.le_of_ble_eq_true rfl⟩) (pM_v hK hP hD (ci := 7) (q0 := 0) rfl rfl rfl) rfl rfl hl.1 rfl (lv_room (Nat.le_of_ble_eq_true rfl)) d_X_readEnd_25 ⟨Nat.le_of_ble_eq_true rfl, Nat.le_of_ble_eq_true rfl⟩) hS hA hD (fun u t H locs ht hB hFr hS => ?_)
    obtain ⟨x0_26z6, Rx0_26z6, F0z6, hP, hD⟩ := hB
    have F0z6 : 1 ≤ x0_26z6.toInt := F0z6
    rw [ht] at hP
    have hD := dwk hD hFr
    clear ht hFr
    have hP : va_P D classes (wS50 cI cJ cZ cB p0 p1 p2 p3 p4 p5 p6 p7 p8 p9 p10 p11 p12 p13 p14 p15 p16 p17 p18 p19 p20 p21 p22 p23 p24 p25 x0_4 x0_5 x0_6 x0_7 x0_8 x0_12 x0_13 x0_14 x0_15 x0_16 x0_17 x0_18 x0_22 x0_23 x0_24 x0_25z1 x0_26z6 x0_27 x0_28 x0_29 x0_30 x0_31 x0_32 x0_36 x0_39 x0_40 x0_44 x0_49 x0_51 x0_53 x0_54z1 x0_55z1 x0_56z1 x0_57z1 x0_58z1 x0_59 x0_60 x0_61 x0_62 y1 y2 y3 y4 y5 y6 y7 y8 y9 y10 y11 y12 y13 y14 y15 y16 y17 y18 y19 y20 y21 y22 y23 y24 y25) H := hP
    have hD : va_D A (wS50 cI cJ cZ cB p0 p1 p2 p3 p4 p5 p6 p7 p8 p9 p10 p11 p12 p13 p14 p15 p16 p17 p18 p19 p20 p21 p22 p23 p24 p25 x0_4 x0_5 x0_6 x0_7 x0_8 x0_12 x0_13 x0_14 x0_15 x0_16 x0_17 x0_18 x0_22 x0_23 x0_24 x0_25z1 x0_26z6 x0_27 x0_28 x0_29 x0_30 x0_31 x0_32 x0_36 x0_39 x0_40 x0_44 x0_49 x0_51 x0_53 x0_54z1 x0_55z1 x0_56z1 x0_57z1 x0_58z1 x0_59 x0_60 x0_61 x0_62 y1 y2 y3 y4 y5 y6 y7 y8 y9 y10 y11 y12 y13 y14 y15 y16 y17 y18 y19 y20 y21 y22 y23 y24 y25) := hD
    refine lv_aload_n hx hb d_X_readEnd_28 rfl (lv_at hl 1 rfl) ?_
    refine lv_lload_n hx hb d_X_readEnd_29 rfl (lv_at hl 0 rfl) ?_
    refine lv_l2i (v := (rz2 : Int64).toInt32) hx hb d_X_readEnd_30 rfl ?_
    refine lv_topi (fun v7 hv7 => ?_)
    obtain ⟨ev7, Rv7⟩ : v7.toInt = rz2.toInt ∧ ((-1073741823) ≤ v7.toInt ∧ v7.toInt ≤ (-1)) := li3 hv7 R5 (by decide) (by decide)
    refine va_put (D := D) (ci := 7) (v := .int v7) (ty := .int) (C := "SignMachineModel") (T := F_X) (N := 64) hx hb hk fi_X ft_X ft_X_ok fn_X hown hK.1 hP hD hS 0 rfl rfl 31 (by decide) (hk _ k_1152) (fun _ h9 => h9) rfl (by decide +kernel) rfl rfl (Nat.le_of_ble_eq_true rfl) d_X_readEnd_31 (fun H locs hP hD hS => ?_)
    have hP : va_P D classes (wS50 cI cJ cZ cB p0 p1 p2 p3 p4 p5 p6 p7 p8 p9 p10 p11 p12 p13 p14 p15 p16 p17 p18 p19 p20 p21 p22 p23 p24 p25 x0_4 x0_5 x0_6 x0_7 x0_8 x0_12 x0_13 x0_14 x0_15 x0_16 x0_17 x0_18 x0_22 x0_23 x0_24 x0_25z1 x0_26z6 x0_27 x0_28 x0_29 x0_30 v7 x0_32 x0_36 x0_39 x0_40 x0_44 x0_49 x0_51 x0_53 x0_54z1 x0_55z1 x0_56z1 x0_57z1 x0_58z1 x0_59 x0_60 x0_61 x0_62 y1 y2 y3 y4 y5 y6 y7 y8 y9 y10 y11 y12 y13 y14 y15 y16 y17 y18 y19 y20 y21 y22 y23 y24 y25) H := hP
    have hD : va_D A (wS50 cI cJ cZ cB p0 p1 p2 p3 p4 p5 p6 p7 p8 p9 p10 p11 p12 p13 p14 p15 p16 p17 p18 p19 p20 p21 p22 p23 p24 p25 x0_4 x0_5 x0_6 x0_7 x0_8 x0_12 x0_13 x0_14 x0_15 x0_16 x0_17 x0_18 x0_22 x0_23 x0_24 x0_25z1 x0_26z6 x0_27 x0_28 x0_29 x0_30 v7 x0_32 x0_36 x0_39 x0_40 x0_44 x0_49 x0_51 x0_53 x0_54z1 x0_55z1 x0_56z1 x0_57z1 x0_58z1 x0_59 x0_60 x0_61 x0_62 y1 y2 y3 y4 y5 y6 y7 y8 y9 y10 y11 y12 y13 y14 y15 y16 y17 y18 y19 y20 y21 y22 y23 y24 y25) := hD
    refine lv_aload_n hx hb d_X_readEnd_34 rfl (lv_at hl 1 rfl) ?_
    refine lv_iconst (v := 1) hx hb d_X_readEnd_35 (by decide) ?_
    refine va_put (D := D) (ci := 7) (v := .int (1 : Int32)) (ty := .boolean) (C := "SignMachineModel") (T := F_X) (N := 64) hx hb hk fi_X ft_X ft_X_ok fn_X hown hK.1 hP hD hS 0 rfl rfl 32 (by decide) (hk _ k_1153) (fun _ h9 => h9) rfl (by decide +kernel) rfl rfl (Nat.le_of_ble_eq_true rfl) d_X_readEnd_36 (fun H locs hP hD hS => ?_)
    have hP : va_P D classes (wS50 cI cJ cZ cB p0 p1 p2 p3 p4 p5 p6 p7 p8 p9 p10 p11 p12 p13 p14 p15 p16 p17 p18 p19 p20 p21 p22 p23 p24 p25 x0_4 x0_5 x0_6 x0_7 x0_8 x0_12 x0_13 x0_14 x0_15 x0_16 x0_17 x0_18 x0_22 x0_23 x0_24 x0_25z1 x0_26z6 x0_27 x0_28 x0_29 x0_30 v7 (1 : Int32) x0_36 x0_39 x0_40 x0_44 x0_49 x0_51 x0_53 x0_54z1 x0_55z1 x0_56z1 x0_57z1 x0_58z1 x0_59 x0_60 x0_61 x0_62 y1 y2 y3 y4 y5 y6 y7 y8 y9 y10 y11 y12 y13 y14 y15 y16 y17 y18 y19 y20 y21 y22 y23 y24 y25) H := hP
    have hD : va_D A (wS50 cI cJ cZ cB p0 p1 p2 p3 p4 p5 p6 p7 p8 p9 p10 p11 p12 p13 p14 p15 p16 p17 p18 p19 p20 p21 p22 p23 p24 p25 x0_4 x0_5 x0_6 x0_7 x0_8 x0_12 x0_13 x0_14 x0_15 x0_16 x0_17 x0_18 x0_22 x0_23 x0_24 x0_25z1 x0_26z6 x0_27 x0_28 x0_29 x0_30 v7 (1 : Int32) x0_36 x0_39 x0_40 x0_44 x0_49 x0_51 x0_53 x0_54z1 x0_55z1 x0_56z1 x0_57z1 x0_58z1 x0_59 x0_60 x0_61 x0_62 y1 y2 y3 y4 y5 y6 y7 y8 y9 y10 y11 y12 y13 y14 y15 y16 y17 y18 y19 y20 y21 y22 y23 y24 y25) := hD
    refine lv_aload_n hx hb d_X_readEnd_39 rfl (lv_at hl 1 rfl) ?_
    refine lv_aload_n hx hb d_X_readEnd_40 rfl (lv_at hl 1 rfl) ?_
    refine va_get (D := D) (ci := 7) (v := .int x0_30) (C := "SignMachineModel") (T := F_X) (N := 64) hx hb hk fi_X hown hK.1 hP 0 rfl rfl 30 (by decide) (hk _ k_1151) (fun _ h9 => h9) rfl d_X_readEnd_41 ?_
    refine va_put (D := D) (ci := 7) (v := .int x0_30) (ty := .int) (C := "SignMachineModel") (T := F_X) (N := 64) hx hb hk fi_X ft_X ft_X_ok fn_X hown hK.1 hP hD hS 0 rfl rfl 29 (by decide) (hk _ k_1150) (fun _ h9 => h9) rfl (by decide +kernel) rfl rfl (Nat.le_of_ble_eq_true rfl) d_X_readEnd_44 (fun H locs hP hD hS => ?_)
    have hP : va_P D classes (wS50 cI cJ cZ cB p0 p1 p2 p3 p4 p5 p6 p7 p8 p9 p10 p11 p12 p13 p14 p15 p16 p17 p18 p19 p20 p21 p22 p23 p24 p25 x0_4 x0_5 x0_6 x0_7 x0_8 x0_12 x0_13 x0_14 x0_15 x0_16 x0_17 x0_18 x0_22 x0_23 x0_24 x0_25z1 x0_26z6 x0_27 x0_28 x0_30 x0_30 v7 (1 : Int32) x0_36 x0_39 x0_40 x0_44 x0_49 x0_51 x0_53 x0_54z1 x0_55z1 x0_56z1 x0_57z1 x0_58z1 x0_59 x0_60 x0_61 x0_62 y1 y2 y3 y4 y5 y6 y7 y8 y9 y10 y11 y12 y13 y14 y15 y16 y17 y18 y19 y20 y21 y22 y23 y24 y25) H := hP
    have hD : va_D A (wS50 cI cJ cZ cB p0 p1 p2 p3 p4 p5 p6 p7 p8 p9 p10 p11 p12 p13 p14 p15 p16 p17 p18 p19 p20 p21 p22 p23 p24 p25 x0_4 x0_5 x0_6 x0_7 x0_8 x0_12 x0_13 x0_14 x0_15 x0_16 x0_17 x0_18 x0_22 x0_23 x0_24 x0_25z1 x0_26z6 x0_27 x0_28 x0_30 x0_30 v7 (1 : Int32) x0_36 x0_39 x0_40 x0_44 x0_49 x0_51 x0_53 x0_54z1 x0_55z1 x0_56z1 x0_57z1 x0_58z1 x0_59 x0_60 x0_61 x0_62 y1 y2 y3 y4 y5 y6 y7 y8 y9 y10 y11 y12 y13 y14 y15 y16 y17 y18 y19 y20 y21 y22 y23 y24 y25) := hD
    refine lv_iconst (v := 0) hx hb d_X_readEnd_47 (by decide) ?_
    refine lv_istore_n (lv' := [(3, .int (0 : Int32)), (1, .long rz2), (0, .ref p0)]) hx hb d_X_readEnd_48 rfl hl (by decide) rfl (fun ls hl => ?_)
    have CUT49 : ∀ (n : Nat) (g49l3 : Int32) (g49x0_26 : Int32) (g49x0_30 : Int32) (g49x0_44 : Int32) (g49y13 : Nat → Int64) (g49y16 : Nat → Int32) (g49y17 : Nat → Int32) (g49y18 : Nat → Int32) (g49y24 : Nat → Int64) (H : Heap) (locs : List Loc) (ls : Array Slot), (x0_51.toInt - g49l3.toInt) < (n : Int) → (0 ≤ g49l3.toInt ∧ g49l3.toInt ≤ 110) → (0 ≤ g49x0_26.toInt ∧ g49x0_26.toInt ≤ 6) → ((-1073741823) ≤ g49x0_30.toInt ∧ g49x0_30.toInt ≤ 1073741823) → (0 ≤ g49x0_44.toInt ∧ g49x0_44.toInt ≤ 4200) → (∀ i : Nat, (-1073741823 ≤ (g49y13 i).toInt ∧ (g49y13 i).toInt ≤ 1073741823)) → (∀ i : Nat, (0 ≤ (g49y16 i).toInt ∧ (g49y16 i).toInt ≤ 3999)) → (∀ i : Nat, (0 ≤ (g49y17 i).toInt ∧ (g49y17 i).toInt ≤ 1)) → (∀ i : Nat, (0 ≤ (g49y18 i).toInt ∧ (g49y18 i).toInt ≤ 1073741823)) → (∀ i : Nat, (-1073741824 ≤ (g49y24 i).toInt ∧ (g49y24 i).toInt ≤ 1073741823)) → (g49l3.toInt ≤ x0_51.toInt) → (LX y19 g49y18 x0_49.toInt g49x0_44.toInt) → (g49x0_44.toInt ≤ 4000 + g49l3.toInt) → (1 ≤ x0_26.toInt → 1 ≤ g49x0_26.toInt) → (g49x0_26.toInt = 0 → (0 ≤ v7.toInt ∧ v7.toInt ≤ 3999)) → va_P D classes (wS50 cI cJ cZ cB p0 p1 p2 p3 p4 p5 p6 p7 p8 p9 p10 p11 p12 p13 p14 p15 p16 p17 p18 p19 p20 p21 p22 p23 p24 p25 x0_4 x0_5 x0_6 x0_7 x0_8 x0_12 x0_13 x0_14 x0_15 x0_16 x0_17 x0_18 x0_22 x0_23 x0_24 x0_25z1 g49x0_26 x0_27 x0_28 x0_30 g49x0_30 v7 (1 : Int32) x0_36 x0_39 x0_40 g49x0_44 x0_49 x0_51 x0_53 x0_54z1 x0_55z1 x0_56z1 x0_57z1 x0_58z1 x0_59 x0_60 x0_61 x0_62 y1 y2 y3 y4 y5 y6 y7 y8 y9 y10 y11 y12 g49y13 y14 y15 g49y16 g49y17 g49y18 y19 y20 y21 y22 y23 g49y24 y25) H → va_D A (wS50 cI cJ cZ cB p0 p1 p2 p3 p4 p5 p6 p7 p8 p9 p10 p11 p12 p13 p14 p15 p16 p17 p18 p19 p20 p21 p22 p23 p24 p25 x0_4 x0_5 x0_6 x0_7 x0_8 x0_12 x0_13 x0_14 x0_15 x0_16 x0_17 x0_18 x0_22 x0_23 x0_24 x0_25z1 g49x0_26 x0_27 x0_28 x0_30 g49x0_30 v7 (1 : Int32) x0_36 x0_39 x0_40 g49x0_44 x0_49 x0_51 x0_53 x0_54z1 x0_55z1 x0_56z1 x0_57z1 x0_58z1 x0_59 x0_60 x0_61 x0_62 y1 y2 y3 y4 y5 y6 y7 y8 y9 y10 y11 y12 g49y13 y14 y15 g49y16 g49y17 g49y18 y19 y20 y21 y22 y23 g49y24 y25) → va_S A s.heap H locs → lv_has ls 7 [(3, .int g49l3), (1, .long rz2), (0, .ref p0)] → W p l e ({ frames := 7, cells := 0, slots := 0, locals := 166 }) s m [.ref p0].toArray below meth c H locs 0 0 (MQ below (va_Qv (fun (_ : Unit) => True) (fun _ t => ∃ u_x0_25 : Int32, ∃ u_x0_26 : Int32, ∃ u_x0_29 : Int32, ∃ u_x0_30 : Int32, ∃ u_x0_31 : Int32, ∃ u_x0_32 : Int32, ∃ u_x0_44 : Int32, ∃ u_x0_54 : Int32, ∃ u_x0_55 : Int64, ∃ u_x0_56 : Int32, ∃ u_x0_57 : Int32, ∃ u_x0_58 : Int32, ∃ u_y13 : Nat → Int64, ∃ u_y16 : Nat → Int32, ∃ u_y17 : Nat → Int32, ∃ u_y18 : Nat → Int32, ∃ u_y24 : Nat → Int64, (0 ≤ u_x0_25.toInt ∧ u_x0_25.toInt ≤ 4000) ∧ (0 ≤ u_x0_26.toInt ∧ u_x0_26.toInt ≤ 6) ∧ ((-1073741823) ≤ u_x0_30.toInt ∧ u_x0_30.toInt ≤ 1073741823) ∧ (0 ≤ u_x0_32.toInt ∧ u_x0_32.toInt ≤ 1) ∧ (0 ≤ u_x0_44.toInt ∧ u_x0_44.toInt ≤ 4200) ∧ (0 ≤ u_x0_54.toInt ∧ u_x0_54.toInt ≤ 3) ∧ (0 ≤ u_x0_57.toInt ∧ u_x0_57.toInt ≤ 1) ∧ (0 ≤ u_x0_58.toInt ∧ u_x0_58.toInt ≤ 1073741823) ∧ (∀ i : Nat, (-1073741823 ≤ (u_y13 i).toInt ∧ (u_y13 i).toInt ≤ 1073741823)) ∧ (∀ i : Nat, (0 ≤ (u_y16 i).toInt ∧ (u_y16 i).toInt ≤ 3999)) ∧ (∀ i : Nat, (0 ≤ (u_y17 i).toInt ∧ (u_y17 i).toInt ≤ 1)) ∧ (∀ i : Nat, (0 ≤ (u_y18 i).toInt ∧ (u_y18 i).toInt ≤ 1073741823)) ∧ (∀ i : Nat, (-1073741824 ≤ (u_y24 i).toInt ∧ (u_y24 i).toInt ≤ 1073741823)) ∧ (LX y19 u_y18 x0_49.toInt u_x0_44.toInt) ∧ (1 ≤ x0_26.toInt → 1 ≤ u_x0_26.toInt) ∧ (u_x0_26.toInt = 0 → (0 ≤ u_x0_31.toInt ∧ u_x0_31.toInt ≤ 3999)) ∧ (u_x0_44.toInt ≤ 4110) ∧ (u_x0_32.toInt = 1) ∧ va_P D classes (wS50 cI cJ cZ cB p0 p1 p2 p3 p4 p5 p6 p7 p8 p9 p10 p11 p12 p13 p14 p15 p16 p17 p18 p19 p20 p21 p22 p23 p24 p25 x0_4 x0_5 x0_6 x0_7 x0_8 x0_12 x0_13 x0_14 x0_15 x0_16 x0_17 x0_18 x0_22 x0_23 x0_24 u_x0_25 u_x0_26 x0_27 x0_28 u_x0_29 u_x0_30 u_x0_31 u_x0_32 x0_36 x0_39 x0_40 u_x0_44 x0_49 x0_51 x0_53 u_x0_54 u_x0_55 u_x0_56 u_x0_57 u_x0_58 x0_59 x0_60 x0_61 x0_62 y1 y2 y3 y4 y5 y6 y7 y8 y9 y10 y11 y12 u_y13 y14 y15 u_y16 u_y17 u_y18 y19 y20 y21 y22 y23 u_y24 y25) t.heap ∧ va_D A (wS50 cI cJ cZ cB p0 p1 p2 p3 p4 p5 p6 p7 p8 p9 p10 p11 p12 p13 p14 p15 p16 p17 p18 p19 p20 p21 p22 p23 p24 p25 x0_4 x0_5 x0_6 x0_7 x0_8 x0_12 x0_13 x0_14 x0_15 x0_16 x0_17 x0_18 x0_22 x0_23 x0_24 u_x0_25 u_x0_26 x0_27 x0_28 u_x0_29 u_x0_30 u_x0_31 u_x0_32 x0_36 x0_39 x0_40 u_x0_44 x0_49 x0_51 x0_53 u_x0_54 u_x0_55 u_x0_56 u_x0_57 u_x0_58 x0_59 x0_60 x0_61 x0_62 y1 y2 y3 y4 y5 y6 y7 y8 y9 y10 y11 y12 u_y13 y14 y15 u_y16 u_y17 u_y18 y19 y20 y21 y22 y23 u_y24 y25)) A) [.ref p0].toArray s 0 0 A) (F0 m 49 ls []) := by
      intro n
      induction n with
      | zero => intro g49l3 g49x0_26 g49x0_30 g49x0_44 g49y13 g49y16 g49y17 g49y18 g49y24 H locs ls hn49 Rg49l3 Rg49x0_26 Rg49x0_30 Rg49x0_44 Ag49y13 Ag49y16 Ag49y17 Ag49y18 Ag49y24 I49_0 I49_1 I49_2 I49_3 I49_4 hP hD hS hl; exfalso; omega
      | succ n ih49 =>
        intro g49l3 g49x0_26 g49x0_30 g49x0_44 g49y13 g49y16 g49y17 g49y18 g49y24 H locs ls hn49 Rg49l3 Rg49x0_26 Rg49x0_30 Rg49x0_44 Ag49y13 Ag49y16 Ag49y17 Ag49y18 Ag49y24 I49_0 I49_1 I49_2 I49_3 I49_4 hP hD hS hl
        refine lv_iload_n hx hb d_X_readEnd_49 rfl (lv_at hl 0 rfl) ?_
        refine lv_aload_n hx hb d_X_readEnd_50 rfl (lv_at hl 2 rfl) ?_
        refine va_get (D := D) (ci := 7) (v := .int x0_51) (C := "SignMachineModel") (T := F_X) (N := 64) hx hb hk fi_X hown hK.1 hP 0 rfl rfl 51 (by decide) (hk _ k_1172) (fun _ h9 => h9) rfl d_X_readEnd_51 ?_
        refine lv_icmp_ge (tgt := 179) hx hb d_X_readEnd_54 (by decide) (fun c8 => ?_) (fun c8 => ?_)
        · have gc8 : x0_51.toInt ≤ g49l3.toInt := c_le c8
          exact W.vret hx hb hr (fun t ht hW => ⟨⟨(), rfl, trivial, ⟨x0_25z1, g49x0_26, x0_30, g49x0_30, v7, (1 : Int32), g49x0_44, x0_54z1, x0_55z1, x0_56z1, x0_57z1, x0_58z1, g49y13, g49y16, g49y17, g49y18, g49y24, Rx0_25z1, Rg49x0_26, Rg49x0_30, (by decide), Rg49x0_44, Rx0_54z1, Rx0_57z1, Rx0_58z1, Ag49y13, Ag49y16, Ag49y17, Ag49y18, Ag49y24, (show LX y19 g49y18 x0_49.toInt g49x0_44.toInt from by first | assumption | exact lx_zero _ _ _), (show 1 ≤ x0_26.toInt → 1 ≤ g49x0_26.toInt from by omega), (show g49x0_26.toInt = 0 → (0 ≤ v7.toInt ∧ v7.toInt ≤ 3999) from by omega), (show g49x0_44.toInt ≤ 4110 from by omega), (show (1 : Int) = 1 from by omega), by show va_P D classes _ t.heap; rw [ht]; exact hP, hD⟩⟩, hS.F ht⟩) hS.2.2 d_X_readEnd_179
        · have gc8 : g49l3.toInt < x0_51.toInt := c_nle c8
          have R9 : 0 ≤ g49l3.toInt ∧ g49l3.toInt ≤ 109 := rf_ltX Rg49l3 Rx0_51 gc8 (by decide) (by decide)
          have R10 : 1 ≤ x0_51.toInt ∧ x0_51.toInt ≤ 110 := rf_ltY Rg49l3 Rx0_51 gc8 (by decide) (by decide)
          refine lv_aload_n hx hb d_X_readEnd_57 rfl (lv_at hl 2 rfl) ?_
          refine va_get (D := D) (ci := 7) (v := .int g49x0_26) (C := "SignMachineModel") (T := F_X) (N := 64) hx hb hk fi_X hown hK.1 hP 0 rfl rfl 26 (by decide) (hk _ k_1147) (fun _ h9 => h9) rfl d_X_readEnd_58 ?_
          refine lv_if_ne (tgt := 179) hx hb d_X_readEnd_61 (by decide) (fun c11 => ?_) (fun c11 => ?_)
          · have gc11 : g49x0_26.toInt ≠ (0 : Int) := c_ne c11
            have R12 : 1 ≤ g49x0_26.toInt ∧ g49x0_26.toInt ≤ 6 := rf_neX Rg49x0_26 (show 0 ≤ (0 : Int) ∧ (0 : Int) ≤ 0 from by decide) gc11 (by decide) (by decide)
            exact W.vret hx hb hr (fun t ht hW => ⟨⟨(), rfl, trivial, ⟨x0_25z1, g49x0_26, x0_30, g49x0_30, v7, (1 : Int32), g49x0_44, x0_54z1, x0_55z1, x0_56z1, x0_57z1, x0_58z1, g49y13, g49y16, g49y17, g49y18, g49y24, Rx0_25z1, (rgw R12 (by decide) (by decide)), Rg49x0_30, (by decide), Rg49x0_44, Rx0_54z1, Rx0_57z1, Rx0_58z1, Ag49y13, Ag49y16, Ag49y17, Ag49y18, Ag49y24, (show LX y19 g49y18 x0_49.toInt g49x0_44.toInt from by first | assumption | exact lx_zero _ _ _), (show 1 ≤ x0_26.toInt → 1 ≤ g49x0_26.toInt from by omega), (show g49x0_26.toInt = 0 → (0 ≤ v7.toInt ∧ v7.toInt ≤ 3999) from by omega), (show g49x0_44.toInt ≤ 4110 from by omega), (show (1 : Int) = 1 from by omega), by show va_P D classes _ t.heap; rw [ht]; exact hP, hD⟩⟩, hS.F ht⟩) hS.2.2 d_X_readEnd_179
          · have gc11 : g49x0_26.toInt = (0 : Int) := c_eq c11
            have R13 : 0 ≤ g49x0_26.toInt ∧ g49x0_26.toInt ≤ 0 := rf_eqX Rg49x0_26 (show 0 ≤ (0 : Int) ∧ (0 : Int) ≤ 0 from by decide) gc11 (by decide) (by decide)
            refine lv_aload_n hx hb d_X_readEnd_64 rfl (lv_at hl 2 rfl) ?_
            refine va_get (D := D) (ci := 7) (v := .ref p23) (C := "SignMachineModel") (T := F_X) (N := 64) hx hb hk fi_X hown hK.1 hP 0 rfl rfl 50 (by decide) (hk _ k_1171) (fun _ h9 => h9) rfl d_X_readEnd_65 ?_
            refine lv_iload_n hx hb d_X_readEnd_68 rfl (lv_at hl 0 rfl) ?_
            refine va_iald hx hb hK.1 hP 23 0 rfl rfl (vpb R9 (by decide) (by decide)) d_X_readEnd_69 ?_
            refine lv_topi (fun v14 hv14 => ?_)
            have Rv14 := Ay23 (g49l3).toNatClampNeg
            rw [← hv14] at Rv14
            obtain ⟨Rv14, Xv14⟩ := Rv14
            refine lv_istore (lv' := [(4, .int v14), (3, .int g49l3), (1, .long rz2), (0, .ref p0)]) hx hb d_X_readEnd_70 hl (by decide) rfl (fun ls hl => ?_)
            refine lv_iload hx hb d_X_readEnd_72 (lv_at hl 0 rfl) ?_
            refine lv_bipush (v := 100) hx hb d_X_readEnd_74 (by decide) ?_
            refine lv_icmp_lt (tgt := 144) hx hb d_X_readEnd_76 (by decide) (fun c15 => ?_) (fun c15 => ?_)
            · have gc15 : v14.toInt < (100 : Int) := c_lt c15
              have R16 : 0 ≤ v14.toInt ∧ v14.toInt ≤ 99 := rf_ltX Rv14 (show 100 ≤ (100 : Int) ∧ (100 : Int) ≤ 100 from by decide) gc15 (by decide) (by decide)
              refine lv_aload_n hx hb d_X_readEnd_144 rfl (lv_at hl 3 rfl) ?_
              refine va_get (D := D) (ci := 7) (v := .ref p12) (C := "SignMachineModel") (T := F_X) (N := 64) hx hb hk fi_X hown hK.1 hP 0 rfl rfl 34 (by decide) (hk _ k_1155) (fun _ h9 => h9) rfl d_X_readEnd_145 ?_
              refine lv_iload hx hb d_X_readEnd_148 (lv_at hl 0 rfl) ?_
              refine va_zald hx hb hK.1 hP 12 2 rfl rfl (by rw [vp_in_iff]; omega) d_X_readEnd_150 ?_
              refine lv_topi (fun v17 hv17 => ?_)
              refine lv_if_ne (tgt := 173) hx hb d_X_readEnd_151 (by decide) (fun c18 => ?_) (fun c18 => ?_)
              · have gc18 : v17.toInt ≠ (0 : Int) := c_ne c18
                obtain ⟨v19, hv19⟩ : ∃ y : Int32, y = (g49l3 + (1 : Int32)) := ⟨_, rfl⟩
                obtain ⟨ev19, Rv19⟩ : v19.toInt = g49l3.toInt + 1 ∧ (1 ≤ v19.toInt ∧ v19.toInt ≤ 110) := ad3 hv19 R9 (y := (1 : Int32)) (c := 1) (d := 1) (by decide) (by decide) (by decide) (by decide) (by decide)
                refine lv_iinc (v := v19) (lv' := [(3, .int v19), (4, .int v14), (1, .long rz2), (0, .ref p0)]) hx hb d_X_readEnd_173 hl (k := 1) rfl (by rw [hv19]; rfl) (by decide) rfl (fun ls hl => ?_)
                refine lv_goto (tgt := 49) hx hb d_X_readEnd_176 (by decide) ?_
                exact ih49 v19 g49x0_26 g49x0_30 g49x0_44 g49y13 g49y16 g49y17 g49y18 g49y24 H _ ls (show x0_51.toInt - v19.toInt < (n : Int) from by omega) (rgw Rv19 (by decide) (by decide)) (rgw R13 (by decide) (by decide)) Rg49x0_30 Rg49x0_44 Ag49y13 Ag49y16 Ag49y17 Ag49y18 Ag49y24 (show v19.toInt ≤ x0_51.toInt from by omega) (show LX y19 g49y18 x0_49.toInt g49x0_44.toInt from by first | assumption | exact lx_zero _ _ _) (show g49x0_44.toInt ≤ 4000 + v19.toInt from by omega) (show 1 ≤ x0_26.toInt → 1 ≤ g49x0_26.toInt from by omega) (show g49x0_26.toInt = 0 → (0 ≤ v7.toInt ∧ v7.toInt ≤ 3999) from by omega) hP hD hS (lv_sub hl [0, 2, 3] rfl)
              · have gc18 : v17.toInt = (0 : Int) := c_eq c18
                have R20 : 0 ≤ v17.toInt ∧ v17.toInt ≤ 0 := rf_eqX (fr3 v17) (show 0 ≤ (0 : Int) ∧ (0 : Int) ≤ 0 from by decide) gc18 (by decide) (by decide)
                refine lv_aload_n hx hb d_X_readEnd_154 rfl (lv_at hl 3 rfl) ?_
                refine va_get (D := D) (ci := 7) (v := .ref p13) (C := "SignMachineModel") (T := F_X) (N := 64) hx hb hk fi_X hown hK.1 hP 0 rfl rfl 35 (by decide) (hk _ k_1156) (fun _ h9 => h9) rfl d_X_readEnd_155 ?_
                refine lv_iload hx hb d_X_readEnd_158 (lv_at hl 0 rfl) ?_
                refine lv_aload_n hx hb d_X_readEnd_160 rfl (lv_at hl 3 rfl) ?_
                refine va_get (D := D) (ci := 7) (v := .int g49x0_30) (C := "SignMachineModel") (T := F_X) (N := 64) hx hb hk fi_X hown hK.1 hP 0 rfl rfl 30 (by decide) (hk _ k_1151) (fun _ h9 => h9) rfl d_X_readEnd_161 ?_
                refine lv_i2l (v := (g49x0_30 : Int32).toInt64) hx hb d_X_readEnd_164 rfl ?_
                refine lv_topl (fun v21 hv21 => ?_)
                obtain ⟨ev21, Rv21⟩ : v21.toInt = g49x0_30.toInt ∧ ((-1073741823) ≤ v21.toInt ∧ v21.toInt ≤ 1073741823) := il3 hv21 Rg49x0_30
                refine va_last hx hb hK.1 hP hD hS 13 1 rfl rfl (by rw [vp_in_iff]; omega) d_X_readEnd_165 (fun H locs hP hD hS => ?_)
                have hP : va_P D classes (wS50 cI cJ cZ cB p0 p1 p2 p3 p4 p5 p6 p7 p8 p9 p10 p11 p12 p13 p14 p15 p16 p17 p18 p19 p20 p21 p22 p23 p24 p25 x0_4 x0_5 x0_6 x0_7 x0_8 x0_12 x0_13 x0_14 x0_15 x0_16 x0_17 x0_18 x0_22 x0_23 x0_24 x0_25z1 g49x0_26 x0_27 x0_28 x0_30 g49x0_30 v7 (1 : Int32) x0_36 x0_39 x0_40 g49x0_44 x0_49 x0_51 x0_53 x0_54z1 x0_55z1 x0_56z1 x0_57z1 x0_58z1 x0_59 x0_60 x0_61 x0_62 y1 y2 y3 y4 y5 y6 y7 y8 y9 y10 y11 y12 (vp_updL g49y13 (v14).toNatClampNeg v21) y14 y15 g49y16 g49y17 g49y18 y19 y20 y21 y22 y23 g49y24 y25) H := hP
                have hD : va_D A (wS50 cI cJ cZ cB p0 p1 p2 p3 p4 p5 p6 p7 p8 p9 p10 p11 p12 p13 p14 p15 p16 p17 p18 p19 p20 p21 p22 p23 p24 p25 x0_4 x0_5 x0_6 x0_7 x0_8 x0_12 x0_13 x0_14 x0_15 x0_16 x0_17 x0_18 x0_22 x0_23 x0_24 x0_25z1 g49x0_26 x0_27 x0_28 x0_30 g49x0_30 v7 (1 : Int32) x0_36 x0_39 x0_40 g49x0_44 x0_49 x0_51 x0_53 x0_54z1 x0_55z1 x0_56z1 x0_57z1 x0_58z1 x0_59 x0_60 x0_61 x0_62 y1 y2 y3 y4 y5 y6 y7 y8 y9 y10 y11 y12 (vp_updL g49y13 (v14).toNatClampNeg v21) y14 y15 g49y16 g49y17 g49y18 y19 y20 y21 y22 y23 g49y24 y25) := hD
                obtain ⟨v22, hv22⟩ : ∃ y : Nat → Int64, y = (vp_updL g49y13 (v14).toNatClampNeg v21) := ⟨_, rfl⟩
                rw [← hv22] at hP hD
                have Gv22 : (-1073741823 ≤ (v21).toInt ∧ (v21).toInt ≤ 1073741823) := Rv21
                have Av22 : ∀ i : Nat, (-1073741823 ≤ (v22 i).toInt ∧ (v22 i).toInt ≤ 1073741823) := by rw [hv22]; exact updL_all (P := fun i x => (-1073741823 ≤ (x).toInt ∧ (x).toInt ≤ 1073741823)) Ag49y13 Gv22
                clear hv22
                refine lv_aload_n hx hb d_X_readEnd_166 rfl (lv_at hl 3 rfl) ?_
                refine lv_iconst (v := 0) hx hb d_X_readEnd_167 (by decide) ?_
                refine lv_iconst (v := 0) hx hb d_X_readEnd_168 (by decide) ?_
                refine sn_i (va_runV (C := "SignMachineModel") (As := [.int (0 : Int32), .int (0 : Int32)]) (rest := []) ⟨hx, hb, hml, hown, hk⟩ (c_X_comes l D cI cJ cZ cB p0 p1 p2 p3 p4 p5 p6 p7 p8 p9 p10 p11 p12 p13 p14 p15 p16 p17 p18 p19 p20 p21 p22 p23 p24 p25 H.size x0_4 x0_5 x0_6 x0_7 x0_8 x0_12 x0_13 x0_14 x0_15 x0_16 x0_17 x0_18 x0_22 x0_23 x0_24 x0_25z1 g49x0_26 x0_27 x0_28 x0_30 g49x0_30 v7 (1 : Int32) x0_36 x0_39 x0_40 g49x0_44 x0_49 x0_51 x0_53 x0_54z1 x0_55z1 x0_56z1 x0_57z1 x0_58z1 x0_59 x0_60 x0_61 x0_62 y1 y2 y3 y4 y5 y6 y7 y8 y9 y10 y11 y12 v22 y14 y15 g49y16 g49y17 g49y18 y19 y20 y21 y22 y23 g49y24 y25 (0 : Int32) (0 : Int32) (rgw R13 (by decide) (by decide)) Rg49x0_30 Rg49x0_44 Rx0_49 Ag49y16 Ag49y17 Ag49y18 Ay19 (show g49x0_44.toInt ≤ 4150 from by omega) (show LX y19 g49y18 x0_49.toInt g49x0_44.toInt from by first | assumption | exact lx_zero _ _ _) (by decide) (by decide)) (v_X_comes hk k_1641 ⟨Nat.le_of_ble_eq_true rfl, Nat.le_of_ble_eq_true rfl⟩) (pM_v hK hP hD (ci := 7) (q0 := 0) rfl rfl rfl) rfl rfl hl.1 rfl (lv_room (Nat.le_of_ble_eq_true rfl)) d_X_readEnd_169 ⟨Nat.le_of_ble_eq_true rfl, Nat.le_of_ble_eq_true rfl⟩) hS hA hD (fun rz23 u t H locs hr0 ht hB hFr hS => ?_)
                subst hr0
                obtain ⟨x0_26z23, x0_30z23, x0_44z23, y16z23, y17z23, y18z23, Rx0_26z23, Rx0_30z23, Rx0_44z23, Ay16z23, Ay17z23, Ay18z23, F0z23, F1z23, F2z23, F3z23, F4z23, F5z23, hP, hD⟩ := hB
                have F0z23 : 0 ≤ rz23.toInt ∧ rz23.toInt ≤ 4199 := F0z23
                have F1z23 : 1 ≤ g49x0_26.toInt → 1 ≤ x0_26z23.toInt := F1z23
                have F2z23 : g49x0_44.toInt ≤ x0_44z23.toInt := F2z23
                have F3z23 : x0_44z23.toInt ≤ g49x0_44.toInt + 1 := F3z23
                have F4z23 : x0_26z23.toInt = 0 → (x0_44z23.toInt = g49x0_44.toInt + 1 ∧ rz23.toInt = g49x0_44.toInt ∧ (y18z23 (rz23).toNatClampNeg).toInt = (0 : Int)) := F4z23
                have F5z23 : LX y19 y18z23 x0_49.toInt x0_44z23.toInt := F5z23
                rw [ht] at hP
                have hD := dwk hD hFr
                clear ht hFr
                have hP : va_P D classes (wS50 cI cJ cZ cB p0 p1 p2 p3 p4 p5 p6 p7 p8 p9 p10 p11 p12 p13 p14 p15 p16 p17 p18 p19 p20 p21 p22 p23 p24 p25 x0_4 x0_5 x0_6 x0_7 x0_8 x0_12 x0_13 x0_14 x0_15 x0_16 x0_17 x0_18 x0_22 x0_23 x0_24 x0_25z1 x0_26z23 x0_27 x0_28 x0_30 x0_30z23 v7 (1 : Int32) x0_36 x0_39 x0_40 x0_44z23 x0_49 x0_51 x0_53 x0_54z1 x0_55z1 x0_56z1 x0_57z1 x0_58z1 x0_59 x0_60 x0_61 x0_62 y1 y2 y3 y4 y5 y6 y7 y8 y9 y10 y11 y12 v22 y14 y15 y16z23 y17z23 y18z23 y19 y20 y21 y22 y23 g49y24 y25) H := hP
                have hD : va_D A (wS50 cI cJ cZ cB p0 p1 p2 p3 p4 p5 p6 p7 p8 p9 p10 p11 p12 p13 p14 p15 p16 p17 p18 p19 p20 p21 p22 p23 p24 p25 x0_4 x0_5 x0_6 x0_7 x0_8 x0_12 x0_13 x0_14 x0_15 x0_16 x0_17 x0_18 x0_22 x0_23 x0_24 x0_25z1 x0_26z23 x0_27 x0_28 x0_30 x0_30z23 v7 (1 : Int32) x0_36 x0_39 x0_40 x0_44z23 x0_49 x0_51 x0_53 x0_54z1 x0_55z1 x0_56z1 x0_57z1 x0_58z1 x0_59 x0_60 x0_61 x0_62 y1 y2 y3 y4 y5 y6 y7 y8 y9 y10 y11 y12 v22 y14 y15 y16z23 y17z23 y18z23 y19 y20 y21 y22 y23 g49y24 y25) := hD
                refine lv_pop hx hb d_X_readEnd_172 rfl ?_
                obtain ⟨v24, hv24⟩ : ∃ y : Int32, y = (g49l3 + (1 : Int32)) := ⟨_, rfl⟩
                obtain ⟨ev24, Rv24⟩ : v24.toInt = g49l3.toInt + 1 ∧ (1 ≤ v24.toInt ∧ v24.toInt ≤ 110) := ad3 hv24 R9 (y := (1 : Int32)) (c := 1) (d := 1) (by decide) (by decide) (by decide) (by decide) (by decide)
                refine lv_iinc (v := v24) (lv' := [(3, .int v24), (4, .int v14), (1, .long rz2), (0, .ref p0)]) hx hb d_X_readEnd_173 hl (k := 1) rfl (by rw [hv24]; rfl) (by decide) rfl (fun ls hl => ?_)
                refine lv_goto (tgt := 49) hx hb d_X_readEnd_176 (by decide) ?_
                exact ih49 v24 x0_26z23 x0_30z23 x0_44z23 v22 y16z23 y17z23 y18z23 g49y24 H _ ls (show x0_51.toInt - v24.toInt < (n : Int) from by omega) (rgw Rv24 (by decide) (by decide)) Rx0_26z23 Rx0_30z23 Rx0_44z23 Av22 Ay16z23 Ay17z23 Ay18z23 Ag49y24 (show v24.toInt ≤ x0_51.toInt from by omega) (show LX y19 y18z23 x0_49.toInt x0_44z23.toInt from by first | assumption | exact lx_zero _ _ _) (show x0_44z23.toInt ≤ 4000 + v24.toInt from by omega) (show 1 ≤ x0_26.toInt → 1 ≤ x0_26z23.toInt from by omega) (show x0_26z23.toInt = 0 → (0 ≤ v7.toInt ∧ v7.toInt ≤ 3999) from by omega) hP hD hS (lv_sub hl [0, 2, 3] rfl)
            · have gc15 : (100 : Int) ≤ v14.toInt := c_nlt c15
              have R25 : 100 ≤ v14.toInt ∧ v14.toInt ≤ 139 := rf_geX Rv14 (show 100 ≤ (100 : Int) ∧ (100 : Int) ≤ 100 from by decide) gc15 (by decide) (by decide)
              refine lv_aload_n hx hb d_X_readEnd_79 rfl (lv_at hl 3 rfl) ?_
              refine va_get (D := D) (ci := 7) (v := .ref p24) (C := "SignMachineModel") (T := F_X) (N := 64) hx hb hk fi_X hown hK.1 hP 0 rfl rfl 52 (by decide) (hk _ k_1173) (fun _ h9 => h9) rfl d_X_readEnd_80 ?_
              refine lv_iload hx hb d_X_readEnd_83 (lv_at hl 0 rfl) ?_
              refine lv_bipush (v := 100) hx hb d_X_readEnd_85 (by decide) ?_
              refine lv_isub hx hb d_X_readEnd_87 ?_
              refine lv_topi (fun v26 hv26 => ?_)
              obtain ⟨ev26, Rv26⟩ : v26.toInt = v14.toInt - (100 : Int) ∧ (0 ≤ v26.toInt ∧ v26.toInt ≤ 39) := sb3 hv26 R25 (show 100 ≤ (100 : Int32).toInt ∧ (100 : Int32).toInt ≤ 100 from by decide) (by decide) (by decide) (by decide) (by decide)
              refine va_lald hx hb hK.1 hP 24 1 rfl rfl (vpb Rv26 (by decide) (by decide)) d_X_readEnd_88 ?_
              refine lv_topl (fun v27 hv27 => ?_)
              have Rv27 := Ag49y24 (v26).toNatClampNeg
              rw [← hv27] at Rv27
              refine lv_lstore (lv' := [(5, .long v27), (4, .int v14), (3, .int g49l3), (1, .long rz2), (0, .ref p0)]) hx hb d_X_readEnd_89 hl (by decide) rfl (fun ls hl => ?_)
              refine lv_aload_n hx hb d_X_readEnd_91 rfl (lv_at hl 4 rfl) ?_
              refine va_get (D := D) (ci := 7) (v := .ref p24) (C := "SignMachineModel") (T := F_X) (N := 64) hx hb hk fi_X hown hK.1 hP 0 rfl rfl 52 (by decide) (hk _ k_1173) (fun _ h9 => h9) rfl d_X_readEnd_92 ?_
              refine lv_iload hx hb d_X_readEnd_95 (lv_at hl 1 rfl) ?_
              refine lv_bipush (v := 100) hx hb d_X_readEnd_97 (by decide) ?_
              refine lv_isub hx hb d_X_readEnd_99 ?_
              refine lv_topi (fun v28 hv28 => ?_)
              obtain ⟨ev28, Rv28⟩ : v28.toInt = v14.toInt - (100 : Int) ∧ (0 ≤ v28.toInt ∧ v28.toInt ≤ 39) := sb3 hv28 R25 (show 100 ≤ (100 : Int32).toInt ∧ (100 : Int32).toInt ≤ 100 from by decide) (by decide) (by decide) (by decide) (by decide)
              refine lv_aload_n hx hb d_X_readEnd_100 rfl (lv_at hl 4 rfl) ?_
              refine va_get (D := D) (ci := 7) (v := .int g49x0_30) (C := "SignMachineModel") (T := F_X) (N := 64) hx hb hk fi_X hown hK.1 hP 0 rfl rfl 30 (by decide) (hk _ k_1151) (fun _ h9 => h9) rfl d_X_readEnd_101 ?_
              refine lv_i2l (v := (g49x0_30 : Int32).toInt64) hx hb d_X_readEnd_104 rfl ?_
              refine lv_topl (fun v29 hv29 => ?_)
              obtain ⟨ev29, Rv29⟩ : v29.toInt = g49x0_30.toInt ∧ ((-1073741823) ≤ v29.toInt ∧ v29.toInt ≤ 1073741823) := il3 hv29 Rg49x0_30
              refine va_last hx hb hK.1 hP hD hS 24 1 rfl rfl (vpb Rv28 (by decide) (by decide)) d_X_readEnd_105 (fun H locs hP hD hS => ?_)
              have hP : va_P D classes (wS50 cI cJ cZ cB p0 p1 p2 p3 p4 p5 p6 p7 p8 p9 p10 p11 p12 p13 p14 p15 p16 p17 p18 p19 p20 p21 p22 p23 p24 p25 x0_4 x0_5 x0_6 x0_7 x0_8 x0_12 x0_13 x0_14 x0_15 x0_16 x0_17 x0_18 x0_22 x0_23 x0_24 x0_25z1 g49x0_26 x0_27 x0_28 x0_30 g49x0_30 v7 (1 : Int32) x0_36 x0_39 x0_40 g49x0_44 x0_49 x0_51 x0_53 x0_54z1 x0_55z1 x0_56z1 x0_57z1 x0_58z1 x0_59 x0_60 x0_61 x0_62 y1 y2 y3 y4 y5 y6 y7 y8 y9 y10 y11 y12 g49y13 y14 y15 g49y16 g49y17 g49y18 y19 y20 y21 y22 y23 (vp_updL g49y24 (v28).toNatClampNeg v29) y25) H := hP
              have hD : va_D A (wS50 cI cJ cZ cB p0 p1 p2 p3 p4 p5 p6 p7 p8 p9 p10 p11 p12 p13 p14 p15 p16 p17 p18 p19 p20 p21 p22 p23 p24 p25 x0_4 x0_5 x0_6 x0_7 x0_8 x0_12 x0_13 x0_14 x0_15 x0_16 x0_17 x0_18 x0_22 x0_23 x0_24 x0_25z1 g49x0_26 x0_27 x0_28 x0_30 g49x0_30 v7 (1 : Int32) x0_36 x0_39 x0_40 g49x0_44 x0_49 x0_51 x0_53 x0_54z1 x0_55z1 x0_56z1 x0_57z1 x0_58z1 x0_59 x0_60 x0_61 x0_62 y1 y2 y3 y4 y5 y6 y7 y8 y9 y10 y11 y12 g49y13 y14 y15 g49y16 g49y17 g49y18 y19 y20 y21 y22 y23 (vp_updL g49y24 (v28).toNatClampNeg v29) y25) := hD
              obtain ⟨v30, hv30⟩ : ∃ y : Nat → Int64, y = (vp_updL g49y24 (v28).toNatClampNeg v29) := ⟨_, rfl⟩
              rw [← hv30] at hP hD
              have Gv30 : (-1073741824 ≤ (v29).toInt ∧ (v29).toInt ≤ 1073741823) := (rgw Rv29 (by decide) (by decide))
              have Av30 : ∀ i : Nat, (-1073741824 ≤ (v30 i).toInt ∧ (v30 i).toInt ≤ 1073741823) := by rw [hv30]; exact updL_all (P := fun i x => (-1073741824 ≤ (x).toInt ∧ (x).toInt ≤ 1073741823)) Ag49y24 Gv30
              clear hv30
              refine lv_aload_n hx hb d_X_readEnd_106 rfl (lv_at hl 4 rfl) ?_
              refine lv_lload hx hb d_X_readEnd_107 (lv_at hl 0 rfl) ?_
              refine lv_lconst (v := 0) hx hb d_X_readEnd_109 (by decide) ?_
              refine W.lcmp hx hb d_X_readEnd_110 ?_
              refine lv_topi (fun v31 hv31 => ?_)
              refine lv_if_ge (tgt := 118) hx hb d_X_readEnd_111 (by decide) (fun c32 => ?_) (fun c32 => ?_)
              · have gc32 : (0 : Int) ≤ v27.toInt := lc_ge hv31 c32
                have R33 : 0 ≤ v27.toInt ∧ v27.toInt ≤ 1073741823 := rf_geX Rv27 (show 0 ≤ (0 : Int) ∧ (0 : Int) ≤ 0 from by decide) gc32 (by decide) (by decide)
                refine lv_iconst (v := 0) hx hb d_X_readEnd_118 (by decide) ?_
                refine lv_lload hx hb d_X_readEnd_119 (lv_at hl 0 rfl) ?_
                refine lv_lconst (v := 0) hx hb d_X_readEnd_121 (by decide) ?_
                refine W.lcmp hx hb d_X_readEnd_122 ?_
                refine lv_topi (fun v34 hv34 => ?_)
                refine lv_if_ge (tgt := 134) hx hb d_X_readEnd_123 (by decide) (fun c35 => ?_) (fun c35 => absurd (show (0 : Int32) ≤ v34 from (lcr_ge hv34 (kle (show 0 ≤ (0 : Int) ∧ (0 : Int) ≤ 0 from by decide) R33 (by decide)))) c35)
                refine lv_lload hx hb d_X_readEnd_134 (lv_at hl 0 rfl) ?_
                refine lv_l2i (v := (v27 : Int64).toInt32) hx hb d_X_readEnd_136 rfl ?_
                refine lv_topi (fun v36 hv36 => ?_)
                obtain ⟨ev36, Rv36⟩ : v36.toInt = v27.toInt ∧ (0 ≤ v36.toInt ∧ v36.toInt ≤ 1073741823) := li3 hv36 R33 (by decide) (by decide)
                refine sn_i (va_runV (C := "SignMachineModel") (As := [.int (0 : Int32), .int v36]) (rest := []) ⟨hx, hb, hml, hown, hk⟩ (c_X_comes l D cI cJ cZ cB p0 p1 p2 p3 p4 p5 p6 p7 p8 p9 p10 p11 p12 p13 p14 p15 p16 p17 p18 p19 p20 p21 p22 p23 p24 p25 H.size x0_4 x0_5 x0_6 x0_7 x0_8 x0_12 x0_13 x0_14 x0_15 x0_16 x0_17 x0_18 x0_22 x0_23 x0_24 x0_25z1 g49x0_26 x0_27 x0_28 x0_30 g49x0_30 v7 (1 : Int32) x0_36 x0_39 x0_40 g49x0_44 x0_49 x0_51 x0_53 x0_54z1 x0_55z1 x0_56z1 x0_57z1 x0_58z1 x0_59 x0_60 x0_61 x0_62 y1 y2 y3 y4 y5 y6 y7 y8 y9 y10 y11 y12 g49y13 y14 y15 g49y16 g49y17 g49y18 y19 y20 y21 y22 y23 v30 y25 (0 : Int32) v36 (rgw R13 (by decide) (by decide)) Rg49x0_30 Rg49x0_44 Rx0_49 Ag49y16 Ag49y17 Ag49y18 Ay19 (show g49x0_44.toInt ≤ 4150 from by omega) (show LX y19 g49y18 x0_49.toInt g49x0_44.toInt from by first | assumption | exact lx_zero _ _ _) (by decide) Rv36) (v_X_comes hk k_1641 ⟨Nat.le_of_ble_eq_true rfl, Nat.le_of_ble_eq_true rfl⟩) (pM_v hK hP hD (ci := 7) (q0 := 0) rfl rfl rfl) rfl rfl hl.1 rfl (lv_room (Nat.le_of_ble_eq_true rfl)) d_X_readEnd_137 ⟨Nat.le_of_ble_eq_true rfl, Nat.le_of_ble_eq_true rfl⟩) hS hA hD (fun rz37 u t H locs hr0 ht hB hFr hS => ?_)
                subst hr0
                obtain ⟨x0_26z37, x0_30z37, x0_44z37, y16z37, y17z37, y18z37, Rx0_26z37, Rx0_30z37, Rx0_44z37, Ay16z37, Ay17z37, Ay18z37, F0z37, F1z37, F2z37, F3z37, F4z37, F5z37, hP, hD⟩ := hB
                have F0z37 : 0 ≤ rz37.toInt ∧ rz37.toInt ≤ 4199 := F0z37
                have F1z37 : 1 ≤ g49x0_26.toInt → 1 ≤ x0_26z37.toInt := F1z37
                have F2z37 : g49x0_44.toInt ≤ x0_44z37.toInt := F2z37
                have F3z37 : x0_44z37.toInt ≤ g49x0_44.toInt + 1 := F3z37
                have F4z37 : x0_26z37.toInt = 0 → (x0_44z37.toInt = g49x0_44.toInt + 1 ∧ rz37.toInt = g49x0_44.toInt ∧ (y18z37 (rz37).toNatClampNeg).toInt = v36.toInt) := F4z37
                have F5z37 : LX y19 y18z37 x0_49.toInt x0_44z37.toInt := F5z37
                rw [ht] at hP
                have hD := dwk hD hFr
                clear ht hFr
                have hP : va_P D classes (wS50 cI cJ cZ cB p0 p1 p2 p3 p4 p5 p6 p7 p8 p9 p10 p11 p12 p13 p14 p15 p16 p17 p18 p19 p20 p21 p22 p23 p24 p25 x0_4 x0_5 x0_6 x0_7 x0_8 x0_12 x0_13 x0_14 x0_15 x0_16 x0_17 x0_18 x0_22 x0_23 x0_24 x0_25z1 x0_26z37 x0_27 x0_28 x0_30 x0_30z37 v7 (1 : Int32) x0_36 x0_39 x0_40 x0_44z37 x0_49 x0_51 x0_53 x0_54z1 x0_55z1 x0_56z1 x0_57z1 x0_58z1 x0_59 x0_60 x0_61 x0_62 y1 y2 y3 y4 y5 y6 y7 y8 y9 y10 y11 y12 g49y13 y14 y15 y16z37 y17z37 y18z37 y19 y20 y21 y22 y23 v30 y25) H := hP
                have hD : va_D A (wS50 cI cJ cZ cB p0 p1 p2 p3 p4 p5 p6 p7 p8 p9 p10 p11 p12 p13 p14 p15 p16 p17 p18 p19 p20 p21 p22 p23 p24 p25 x0_4 x0_5 x0_6 x0_7 x0_8 x0_12 x0_13 x0_14 x0_15 x0_16 x0_17 x0_18 x0_22 x0_23 x0_24 x0_25z1 x0_26z37 x0_27 x0_28 x0_30 x0_30z37 v7 (1 : Int32) x0_36 x0_39 x0_40 x0_44z37 x0_49 x0_51 x0_53 x0_54z1 x0_55z1 x0_56z1 x0_57z1 x0_58z1 x0_59 x0_60 x0_61 x0_62 y1 y2 y3 y4 y5 y6 y7 y8 y9 y10 y11 y12 g49y13 y14 y15 y16z37 y17z37 y18z37 y19 y20 y21 y22 y23 v30 y25) := hD
                refine lv_pop hx hb d_X_readEnd_140 rfl ?_
                refine lv_goto (tgt := 173) hx hb d_X_readEnd_141 (by decide) ?_
                obtain ⟨v38, hv38⟩ : ∃ y : Int32, y = (g49l3 + (1 : Int32)) := ⟨_, rfl⟩
                obtain ⟨ev38, Rv38⟩ : v38.toInt = g49l3.toInt + 1 ∧ (1 ≤ v38.toInt ∧ v38.toInt ≤ 110) := ad3 hv38 R9 (y := (1 : Int32)) (c := 1) (d := 1) (by decide) (by decide) (by decide) (by decide) (by decide)
                refine lv_iinc (v := v38) (lv' := [(3, .int v38), (5, .long v27), (4, .int v14), (1, .long rz2), (0, .ref p0)]) hx hb d_X_readEnd_173 hl (k := 2) rfl (by rw [hv38]; rfl) (by decide) rfl (fun ls hl => ?_)
                refine lv_goto (tgt := 49) hx hb d_X_readEnd_176 (by decide) ?_
                exact ih49 v38 x0_26z37 x0_30z37 x0_44z37 g49y13 y16z37 y17z37 y18z37 v30 H _ ls (show x0_51.toInt - v38.toInt < (n : Int) from by omega) (rgw Rv38 (by decide) (by decide)) Rx0_26z37 Rx0_30z37 Rx0_44z37 Ag49y13 Ay16z37 Ay17z37 Ay18z37 Av30 (show v38.toInt ≤ x0_51.toInt from by omega) (show LX y19 y18z37 x0_49.toInt x0_44z37.toInt from by first | assumption | exact lx_zero _ _ _) (show x0_44z37.toInt ≤ 4000 + v38.toInt from by omega) (show 1 ≤ x0_26.toInt → 1 ≤ x0_26z37.toInt from by omega) (show x0_26z37.toInt = 0 → (0 ≤ v7.toInt ∧ v7.toInt ≤ 3999) from by omega) hP hD hS (lv_sub hl [0, 3, 4] rfl)
              · have gc32 : v27.toInt < (0 : Int) := lc_nge hv31 c32
                have R39 : (-1073741824) ≤ v27.toInt ∧ v27.toInt ≤ (-1) := rf_ltX Rv27 (show 0 ≤ (0 : Int) ∧ (0 : Int) ≤ 0 from by decide) gc32 (by decide) (by decide)
                refine lv_iconst (v := 1) hx hb d_X_readEnd_114 (by decide) ?_
                refine lv_goto (tgt := 119) hx hb d_X_readEnd_115 (by decide) ?_
                refine lv_lload hx hb d_X_readEnd_119 (lv_at hl 0 rfl) ?_
                refine lv_lconst (v := 0) hx hb d_X_readEnd_121 (by decide) ?_
                refine W.lcmp hx hb d_X_readEnd_122 ?_
                refine lv_topi (fun v40 hv40 => ?_)
                refine lv_if_ge (tgt := 134) hx hb d_X_readEnd_123 (by decide) (fun c41 => absurd c41 (show ¬ (0 : Int32) ≤ v40 from (lcr_nge hv40 (klt R39 (show 0 ≤ (0 : Int) ∧ (0 : Int) ≤ 0 from by decide) (by decide))))) (fun c41 => ?_)
                refine lv_lload hx hb d_X_readEnd_126 (lv_at hl 0 rfl) ?_
                refine lv_lneg hx hb d_X_readEnd_128 ?_
                refine lv_topl (fun v42 hv42 => ?_)
                obtain ⟨ev42, Rv42⟩ : v42.toInt = -v27.toInt ∧ (1 ≤ v42.toInt ∧ v42.toInt ≤ 1073741824) := ng6 hv42 R39 (by decide) (by decide) (by decide) (by decide)
                refine lv_lconst (v := 1) hx hb d_X_readEnd_129 (by decide) ?_
                refine lv_lsub hx hb d_X_readEnd_130 ?_
                refine lv_topl (fun v43 hv43 => ?_)
                obtain ⟨ev43, Rv43⟩ : v43.toInt = v42.toInt - (1 : Int) ∧ (0 ≤ v43.toInt ∧ v43.toInt ≤ 1073741823) := sb6 hv43 Rv42 (show 1 ≤ (1 : Int64).toInt ∧ (1 : Int64).toInt ≤ 1 from by decide) (by decide) (by decide) (by decide) (by decide)
                refine lv_goto (tgt := 136) hx hb d_X_readEnd_131 (by decide) ?_
                refine lv_l2i (v := (v43 : Int64).toInt32) hx hb d_X_readEnd_136 rfl ?_
                refine lv_topi (fun v44 hv44 => ?_)
                obtain ⟨ev44, Rv44⟩ : v44.toInt = v43.toInt ∧ (0 ≤ v44.toInt ∧ v44.toInt ≤ 1073741823) := li3 hv44 Rv43 (by decide) (by decide)
                refine sn_i (va_runV (C := "SignMachineModel") (As := [.int (1 : Int32), .int v44]) (rest := []) ⟨hx, hb, hml, hown, hk⟩ (c_X_comes l D cI cJ cZ cB p0 p1 p2 p3 p4 p5 p6 p7 p8 p9 p10 p11 p12 p13 p14 p15 p16 p17 p18 p19 p20 p21 p22 p23 p24 p25 H.size x0_4 x0_5 x0_6 x0_7 x0_8 x0_12 x0_13 x0_14 x0_15 x0_16 x0_17 x0_18 x0_22 x0_23 x0_24 x0_25z1 g49x0_26 x0_27 x0_28 x0_30 g49x0_30 v7 (1 : Int32) x0_36 x0_39 x0_40 g49x0_44 x0_49 x0_51 x0_53 x0_54z1 x0_55z1 x0_56z1 x0_57z1 x0_58z1 x0_59 x0_60 x0_61 x0_62 y1 y2 y3 y4 y5 y6 y7 y8 y9 y10 y11 y12 g49y13 y14 y15 g49y16 g49y17 g49y18 y19 y20 y21 y22 y23 v30 y25 (1 : Int32) v44 (rgw R13 (by decide) (by decide)) Rg49x0_30 Rg49x0_44 Rx0_49 Ag49y16 Ag49y17 Ag49y18 Ay19 (show g49x0_44.toInt ≤ 4150 from by omega) (show LX y19 g49y18 x0_49.toInt g49x0_44.toInt from by first | assumption | exact lx_zero _ _ _) (by decide) Rv44) (v_X_comes hk k_1641 ⟨Nat.le_of_ble_eq_true rfl, Nat.le_of_ble_eq_true rfl⟩) (pM_v hK hP hD (ci := 7) (q0 := 0) rfl rfl rfl) rfl rfl hl.1 rfl (lv_room (Nat.le_of_ble_eq_true rfl)) d_X_readEnd_137 ⟨Nat.le_of_ble_eq_true rfl, Nat.le_of_ble_eq_true rfl⟩) hS hA hD (fun rz45 u t H locs hr0 ht hB hFr hS => ?_)
                subst hr0
                obtain ⟨x0_26z45, x0_30z45, x0_44z45, y16z45, y17z45, y18z45, Rx0_26z45, Rx0_30z45, Rx0_44z45, Ay16z45, Ay17z45, Ay18z45, F0z45, F1z45, F2z45, F3z45, F4z45, F5z45, hP, hD⟩ := hB
                have F0z45 : 0 ≤ rz45.toInt ∧ rz45.toInt ≤ 4199 := F0z45
                have F1z45 : 1 ≤ g49x0_26.toInt → 1 ≤ x0_26z45.toInt := F1z45
                have F2z45 : g49x0_44.toInt ≤ x0_44z45.toInt := F2z45
                have F3z45 : x0_44z45.toInt ≤ g49x0_44.toInt + 1 := F3z45
                have F4z45 : x0_26z45.toInt = 0 → (x0_44z45.toInt = g49x0_44.toInt + 1 ∧ rz45.toInt = g49x0_44.toInt ∧ (y18z45 (rz45).toNatClampNeg).toInt = v44.toInt) := F4z45
                have F5z45 : LX y19 y18z45 x0_49.toInt x0_44z45.toInt := F5z45
                rw [ht] at hP
                have hD := dwk hD hFr
                clear ht hFr
                have hP : va_P D classes (wS50 cI cJ cZ cB p0 p1 p2 p3 p4 p5 p6 p7 p8 p9 p10 p11 p12 p13 p14 p15 p16 p17 p18 p19 p20 p21 p22 p23 p24 p25 x0_4 x0_5 x0_6 x0_7 x0_8 x0_12 x0_13 x0_14 x0_15 x0_16 x0_17 x0_18 x0_22 x0_23 x0_24 x0_25z1 x0_26z45 x0_27 x0_28 x0_30 x0_30z45 v7 (1 : Int32) x0_36 x0_39 x0_40 x0_44z45 x0_49 x0_51 x0_53 x0_54z1 x0_55z1 x0_56z1 x0_57z1 x0_58z1 x0_59 x0_60 x0_61 x0_62 y1 y2 y3 y4 y5 y6 y7 y8 y9 y10 y11 y12 g49y13 y14 y15 y16z45 y17z45 y18z45 y19 y20 y21 y22 y23 v30 y25) H := hP
                have hD : va_D A (wS50 cI cJ cZ cB p0 p1 p2 p3 p4 p5 p6 p7 p8 p9 p10 p11 p12 p13 p14 p15 p16 p17 p18 p19 p20 p21 p22 p23 p24 p25 x0_4 x0_5 x0_6 x0_7 x0_8 x0_12 x0_13 x0_14 x0_15 x0_16 x0_17 x0_18 x0_22 x0_23 x0_24 x0_25z1 x0_26z45 x0_27 x0_28 x0_30 x0_30z45 v7 (1 : Int32) x0_36 x0_39 x0_40 x0_44z45 x0_49 x0_51 x0_53 x0_54z1 x0_55z1 x0_56z1 x0_57z1 x0_58z1 x0_59 x0_60 x0_61 x0_62 y1 y2 y3 y4 y5 y6 y7 y8 y9 y10 y11 y12 g49y13 y14 y15 y16z45 y17z45 y18z45 y19 y20 y21 y22 y23 v30 y25) := hD
                refine lv_pop hx hb d_X_readEnd_140 rfl ?_
                refine lv_goto (tgt := 173) hx hb d_X_readEnd_141 (by decide) ?_
                obtain ⟨v46, hv46⟩ : ∃ y : Int32, y = (g49l3 + (1 : Int32)) := ⟨_, rfl⟩
                obtain ⟨ev46, Rv46⟩ : v46.toInt = g49l3.toInt + 1 ∧ (1 ≤ v46.toInt ∧ v46.toInt ≤ 110) := ad3 hv46 R9 (y := (1 : Int32)) (c := 1) (d := 1) (by decide) (by decide) (by decide) (by decide) (by decide)
                refine lv_iinc (v := v46) (lv' := [(3, .int v46), (5, .long v27), (4, .int v14), (1, .long rz2), (0, .ref p0)]) hx hb d_X_readEnd_173 hl (k := 2) rfl (by rw [hv46]; rfl) (by decide) rfl (fun ls hl => ?_)
                refine lv_goto (tgt := 49) hx hb d_X_readEnd_176 (by decide) ?_
                exact ih49 v46 x0_26z45 x0_30z45 x0_44z45 g49y13 y16z45 y17z45 y18z45 v30 H _ ls (show x0_51.toInt - v46.toInt < (n : Int) from by omega) (rgw Rv46 (by decide) (by decide)) Rx0_26z45 Rx0_30z45 Rx0_44z45 Ag49y13 Ay16z45 Ay17z45 Ay18z45 Av30 (show v46.toInt ≤ x0_51.toInt from by omega) (show LX y19 y18z45 x0_49.toInt x0_44z45.toInt from by first | assumption | exact lx_zero _ _ _) (show x0_44z45.toInt ≤ 4000 + v46.toInt from by omega) (show 1 ≤ x0_26.toInt → 1 ≤ x0_26z45.toInt from by omega) (show x0_26z45.toInt = 0 → (0 ≤ v7.toInt ∧ v7.toInt ≤ 3999) from by omega) hP hD hS (lv_sub hl [0, 3, 4] rfl)
    exact CUT49 ((x0_51.toInt - (0 : Int)).toNat + 1) (0 : Int32) x0_26z6 x0_30 x0_44 y13 y16 y17 y18 y24 H _ ls (show (x0_51.toInt - (0 : Int)) < (((x0_51.toInt - (0 : Int)).toNat + 1 : Nat) : Int) from by omega) (by decide) Rx0_26z6 Rx0_30 Rx0_44 Ay13 Ay16 Ay17 Ay18 Ay24 (show (0 : Int) ≤ x0_51.toInt from by omega) (show LX y19 y18 x0_49.toInt x0_44.toInt from by first | assumption | exact lx_zero _ _ _) (show x0_44.toInt ≤ 4000 + (0 : Int) from by omega) (show 1 ≤ x0_26.toInt → 1 ≤ x0_26z6.toInt from by omega) (show x0_26z6.toInt = 0 → (0 ≤ v7.toInt ∧ v7.toInt ≤ 3999) from by omega) hP hD hS (lv_sub hl [0, 1, 2] rfl)
  · have gc4 : (0 : Int) ≤ rz2.toInt := lc_nlt hv3 c4
    have R47 : 0 ≤ rz2.toInt ∧ rz2.toInt ≤ 1073741823 := rf_geX F0z2 (show 0 ≤ (0 : Int) ∧ (0 : Int) ≤ 0 from by decide) gc4 (by decide) (by decide)
    refine lv_lload_n hx hb d_X_readEnd_15 rfl (lv_at hl 0 rfl) ?_
    refine lv_ldc2 (v := 4000) hx hb hown (hk _ k_1399) d_X_readEnd_16 ?_
    refine W.lcmp hx hb d_X_readEnd_19 ?_
    refine lv_topi (fun v48 hv48 => ?_)
    refine lv_if_lt (tgt := 28) hx hb d_X_readEnd_20 (by decide) (fun c49 => ?_) (fun c49 => ?_)
    · have gc49 : rz2.toInt < (4000 : Int) := lc_lt hv48 c49
      have R50 : 0 ≤ rz2.toInt ∧ rz2.toInt ≤ 3999 := rf_ltX R47 (show 4000 ≤ (4000 : Int) ∧ (4000 : Int) ≤ 4000 from by decide) gc49 (by decide) (by decide)
      refine lv_aload_n hx hb d_X_readEnd_28 rfl (lv_at hl 1 rfl) ?_
      refine lv_lload_n hx hb d_X_readEnd_29 rfl (lv_at hl 0 rfl) ?_
      refine lv_l2i (v := (rz2 : Int64).toInt32) hx hb d_X_readEnd_30 rfl ?_
      refine lv_topi (fun v51 hv51 => ?_)
      obtain ⟨ev51, Rv51⟩ : v51.toInt = rz2.toInt ∧ (0 ≤ v51.toInt ∧ v51.toInt ≤ 3999) := li3 hv51 R50 (by decide) (by decide)
      refine va_put (D := D) (ci := 7) (v := .int v51) (ty := .int) (C := "SignMachineModel") (T := F_X) (N := 64) hx hb hk fi_X ft_X ft_X_ok fn_X hown hK.1 hP hD hS 0 rfl rfl 31 (by decide) (hk _ k_1152) (fun _ h9 => h9) rfl (by decide +kernel) rfl rfl (Nat.le_of_ble_eq_true rfl) d_X_readEnd_31 (fun H locs hP hD hS => ?_)
      have hP : va_P D classes (wS50 cI cJ cZ cB p0 p1 p2 p3 p4 p5 p6 p7 p8 p9 p10 p11 p12 p13 p14 p15 p16 p17 p18 p19 p20 p21 p22 p23 p24 p25 x0_4 x0_5 x0_6 x0_7 x0_8 x0_12 x0_13 x0_14 x0_15 x0_16 x0_17 x0_18 x0_22 x0_23 x0_24 x0_25z1 x0_26z1 x0_27 x0_28 x0_29 x0_30 v51 x0_32 x0_36 x0_39 x0_40 x0_44 x0_49 x0_51 x0_53 x0_54z1 x0_55z1 x0_56z1 x0_57z1 x0_58z1 x0_59 x0_60 x0_61 x0_62 y1 y2 y3 y4 y5 y6 y7 y8 y9 y10 y11 y12 y13 y14 y15 y16 y17 y18 y19 y20 y21 y22 y23 y24 y25) H := hP
      have hD : va_D A (wS50 cI cJ cZ cB p0 p1 p2 p3 p4 p5 p6 p7 p8 p9 p10 p11 p12 p13 p14 p15 p16 p17 p18 p19 p20 p21 p22 p23 p24 p25 x0_4 x0_5 x0_6 x0_7 x0_8 x0_12 x0_13 x0_14 x0_15 x0_16 x0_17 x0_18 x0_22 x0_23 x0_24 x0_25z1 x0_26z1 x0_27 x0_28 x0_29 x0_30 v51 x0_32 x0_36 x0_39 x0_40 x0_44 x0_49 x0_51 x0_53 x0_54z1 x0_55z1 x0_56z1 x0_57z1 x0_58z1 x0_59 x0_60 x0_61 x0_62 y1 y2 y3 y4 y5 y6 y7 y8 y9 y10 y11 y12 y13 y14 y15 y16 y17 y18 y19 y20 y21 y22 y23 y24 y25) := hD
      refine lv_aload_n hx hb d_X_readEnd_34 rfl (lv_at hl 1 rfl) ?_
      refine lv_iconst (v := 1) hx hb d_X_readEnd_35 (by decide) ?_
      refine va_put (D := D) (ci := 7) (v := .int (1 : Int32)) (ty := .boolean) (C := "SignMachineModel") (T := F_X) (N := 64) hx hb hk fi_X ft_X ft_X_ok fn_X hown hK.1 hP hD hS 0 rfl rfl 32 (by decide) (hk _ k_1153) (fun _ h9 => h9) rfl (by decide +kernel) rfl rfl (Nat.le_of_ble_eq_true rfl) d_X_readEnd_36 (fun H locs hP hD hS => ?_)
      have hP : va_P D classes (wS50 cI cJ cZ cB p0 p1 p2 p3 p4 p5 p6 p7 p8 p9 p10 p11 p12 p13 p14 p15 p16 p17 p18 p19 p20 p21 p22 p23 p24 p25 x0_4 x0_5 x0_6 x0_7 x0_8 x0_12 x0_13 x0_14 x0_15 x0_16 x0_17 x0_18 x0_22 x0_23 x0_24 x0_25z1 x0_26z1 x0_27 x0_28 x0_29 x0_30 v51 (1 : Int32) x0_36 x0_39 x0_40 x0_44 x0_49 x0_51 x0_53 x0_54z1 x0_55z1 x0_56z1 x0_57z1 x0_58z1 x0_59 x0_60 x0_61 x0_62 y1 y2 y3 y4 y5 y6 y7 y8 y9 y10 y11 y12 y13 y14 y15 y16 y17 y18 y19 y20 y21 y22 y23 y24 y25) H := hP
      have hD : va_D A (wS50 cI cJ cZ cB p0 p1 p2 p3 p4 p5 p6 p7 p8 p9 p10 p11 p12 p13 p14 p15 p16 p17 p18 p19 p20 p21 p22 p23 p24 p25 x0_4 x0_5 x0_6 x0_7 x0_8 x0_12 x0_13 x0_14 x0_15 x0_16 x0_17 x0_18 x0_22 x0_23 x0_24 x0_25z1 x0_26z1 x0_27 x0_28 x0_29 x0_30 v51 (1 : Int32) x0_36 x0_39 x0_40 x0_44 x0_49 x0_51 x0_53 x0_54z1 x0_55z1 x0_56z1 x0_57z1 x0_58z1 x0_59 x0_60 x0_61 x0_62 y1 y2 y3 y4 y5 y6 y7 y8 y9 y10 y11 y12 y13 y14 y15 y16 y17 y18 y19 y20 y21 y22 y23 y24 y25) := hD
      refine lv_aload_n hx hb d_X_readEnd_39 rfl (lv_at hl 1 rfl) ?_
      refine lv_aload_n hx hb d_X_readEnd_40 rfl (lv_at hl 1 rfl) ?_
      refine va_get (D := D) (ci := 7) (v := .int x0_30) (C := "SignMachineModel") (T := F_X) (N := 64) hx hb hk fi_X hown hK.1 hP 0 rfl rfl 30 (by decide) (hk _ k_1151) (fun _ h9 => h9) rfl d_X_readEnd_41 ?_
      refine va_put (D := D) (ci := 7) (v := .int x0_30) (ty := .int) (C := "SignMachineModel") (T := F_X) (N := 64) hx hb hk fi_X ft_X ft_X_ok fn_X hown hK.1 hP hD hS 0 rfl rfl 29 (by decide) (hk _ k_1150) (fun _ h9 => h9) rfl (by decide +kernel) rfl rfl (Nat.le_of_ble_eq_true rfl) d_X_readEnd_44 (fun H locs hP hD hS => ?_)
      have hP : va_P D classes (wS50 cI cJ cZ cB p0 p1 p2 p3 p4 p5 p6 p7 p8 p9 p10 p11 p12 p13 p14 p15 p16 p17 p18 p19 p20 p21 p22 p23 p24 p25 x0_4 x0_5 x0_6 x0_7 x0_8 x0_12 x0_13 x0_14 x0_15 x0_16 x0_17 x0_18 x0_22 x0_23 x0_24 x0_25z1 x0_26z1 x0_27 x0_28 x0_30 x0_30 v51 (1 : Int32) x0_36 x0_39 x0_40 x0_44 x0_49 x0_51 x0_53 x0_54z1 x0_55z1 x0_56z1 x0_57z1 x0_58z1 x0_59 x0_60 x0_61 x0_62 y1 y2 y3 y4 y5 y6 y7 y8 y9 y10 y11 y12 y13 y14 y15 y16 y17 y18 y19 y20 y21 y22 y23 y24 y25) H := hP
      have hD : va_D A (wS50 cI cJ cZ cB p0 p1 p2 p3 p4 p5 p6 p7 p8 p9 p10 p11 p12 p13 p14 p15 p16 p17 p18 p19 p20 p21 p22 p23 p24 p25 x0_4 x0_5 x0_6 x0_7 x0_8 x0_12 x0_13 x0_14 x0_15 x0_16 x0_17 x0_18 x0_22 x0_23 x0_24 x0_25z1 x0_26z1 x0_27 x0_28 x0_30 x0_30 v51 (1 : Int32) x0_36 x0_39 x0_40 x0_44 x0_49 x0_51 x0_53 x0_54z1 x0_55z1 x0_56z1 x0_57z1 x0_58z1 x0_59 x0_60 x0_61 x0_62 y1 y2 y3 y4 y5 y6 y7 y8 y9 y10 y11 y12 y13 y14 y15 y16 y17 y18 y19 y20 y21 y22 y23 y24 y25) := hD
      refine lv_iconst (v := 0) hx hb d_X_readEnd_47 (by decide) ?_
      refine lv_istore_n (lv' := [(3, .int (0 : Int32)), (1, .long rz2), (0, .ref p0)]) hx hb d_X_readEnd_48 rfl hl (by decide) rfl (fun ls hl => ?_)
      have CUT49 : ∀ (n : Nat) (g49l3 : Int32) (g49x0_26 : Int32) (g49x0_30 : Int32) (g49x0_44 : Int32) (g49y13 : Nat → Int64) (g49y16 : Nat → Int32) (g49y17 : Nat → Int32) (g49y18 : Nat → Int32) (g49y24 : Nat → Int64) (H : Heap) (locs : List Loc) (ls : Array Slot), (x0_51.toInt - g49l3.toInt) < (n : Int) → (0 ≤ g49l3.toInt ∧ g49l3.toInt ≤ 110) → (0 ≤ g49x0_26.toInt ∧ g49x0_26.toInt ≤ 6) → ((-1073741823) ≤ g49x0_30.toInt ∧ g49x0_30.toInt ≤ 1073741823) → (0 ≤ g49x0_44.toInt ∧ g49x0_44.toInt ≤ 4200) → (∀ i : Nat, (-1073741823 ≤ (g49y13 i).toInt ∧ (g49y13 i).toInt ≤ 1073741823)) → (∀ i : Nat, (0 ≤ (g49y16 i).toInt ∧ (g49y16 i).toInt ≤ 3999)) → (∀ i : Nat, (0 ≤ (g49y17 i).toInt ∧ (g49y17 i).toInt ≤ 1)) → (∀ i : Nat, (0 ≤ (g49y18 i).toInt ∧ (g49y18 i).toInt ≤ 1073741823)) → (∀ i : Nat, (-1073741824 ≤ (g49y24 i).toInt ∧ (g49y24 i).toInt ≤ 1073741823)) → (g49l3.toInt ≤ x0_51.toInt) → (LX y19 g49y18 x0_49.toInt g49x0_44.toInt) → (g49x0_44.toInt ≤ 4000 + g49l3.toInt) → (1 ≤ x0_26.toInt → 1 ≤ g49x0_26.toInt) → (g49x0_26.toInt = 0 → (0 ≤ v51.toInt ∧ v51.toInt ≤ 3999)) → va_P D classes (wS50 cI cJ cZ cB p0 p1 p2 p3 p4 p5 p6 p7 p8 p9 p10 p11 p12 p13 p14 p15 p16 p17 p18 p19 p20 p21 p22 p23 p24 p25 x0_4 x0_5 x0_6 x0_7 x0_8 x0_12 x0_13 x0_14 x0_15 x0_16 x0_17 x0_18 x0_22 x0_23 x0_24 x0_25z1 g49x0_26 x0_27 x0_28 x0_30 g49x0_30 v51 (1 : Int32) x0_36 x0_39 x0_40 g49x0_44 x0_49 x0_51 x0_53 x0_54z1 x0_55z1 x0_56z1 x0_57z1 x0_58z1 x0_59 x0_60 x0_61 x0_62 y1 y2 y3 y4 y5 y6 y7 y8 y9 y10 y11 y12 g49y13 y14 y15 g49y16 g49y17 g49y18 y19 y20 y21 y22 y23 g49y24 y25) H → va_D A (wS50 cI cJ cZ cB p0 p1 p2 p3 p4 p5 p6 p7 p8 p9 p10 p11 p12 p13 p14 p15 p16 p17 p18 p19 p20 p21 p22 p23 p24 p25 x0_4 x0_5 x0_6 x0_7 x0_8 x0_12 x0_13 x0_14 x0_15 x0_16 x0_17 x0_18 x0_22 x0_23 x0_24 x0_25z1 g49x0_26 x0_27 x0_28 x0_30 g49x0_30 v51 (1 : Int32) x0_36 x0_39 x0_40 g49x0_44 x0_49 x0_51 x0_53 x0_54z1 x0_55z1 x0_56z1 x0_57z1 x0_58z1 x0_59 x0_60 x0_61 x0_62 y1 y2 y3 y4 y5 y6 y7 y8 y9 y10 y11 y12 g49y13 y14 y15 g49y16 g49y17 g49y18 y19 y20 y21 y22 y23 g49y24 y25) → va_S A s.heap H locs → lv_has ls 7 [(3, .int g49l3), (1, .long rz2), (0, .ref p0)] → W p l e ({ frames := 7, cells := 0, slots := 0, locals := 166 }) s m [.ref p0].toArray below meth c H locs 0 0 (MQ below (va_Qv (fun (_ : Unit) => True) (fun _ t => ∃ u_x0_25 : Int32, ∃ u_x0_26 : Int32, ∃ u_x0_29 : Int32, ∃ u_x0_30 : Int32, ∃ u_x0_31 : Int32, ∃ u_x0_32 : Int32, ∃ u_x0_44 : Int32, ∃ u_x0_54 : Int32, ∃ u_x0_55 : Int64, ∃ u_x0_56 : Int32, ∃ u_x0_57 : Int32, ∃ u_x0_58 : Int32, ∃ u_y13 : Nat → Int64, ∃ u_y16 : Nat → Int32, ∃ u_y17 : Nat → Int32, ∃ u_y18 : Nat → Int32, ∃ u_y24 : Nat → Int64, (0 ≤ u_x0_25.toInt ∧ u_x0_25.toInt ≤ 4000) ∧ (0 ≤ u_x0_26.toInt ∧ u_x0_26.toInt ≤ 6) ∧ ((-1073741823) ≤ u_x0_30.toInt ∧ u_x0_30.toInt ≤ 1073741823) ∧ (0 ≤ u_x0_32.toInt ∧ u_x0_32.toInt ≤ 1) ∧ (0 ≤ u_x0_44.toInt ∧ u_x0_44.toInt ≤ 4200) ∧ (0 ≤ u_x0_54.toInt ∧ u_x0_54.toInt ≤ 3) ∧ (0 ≤ u_x0_57.toInt ∧ u_x0_57.toInt ≤ 1) ∧ (0 ≤ u_x0_58.toInt ∧ u_x0_58.toInt ≤ 1073741823) ∧ (∀ i : Nat, (-1073741823 ≤ (u_y13 i).toInt ∧ (u_y13 i).toInt ≤ 1073741823)) ∧ (∀ i : Nat, (0 ≤ (u_y16 i).toInt ∧ (u_y16 i).toInt ≤ 3999)) ∧ (∀ i : Nat, (0 ≤ (u_y17 i).toInt ∧ (u_y17 i).toInt ≤ 1)) ∧ (∀ i : Nat, (0 ≤ (u_y18 i).toInt ∧ (u_y18 i).toInt ≤ 1073741823)) ∧ (∀ i : Nat, (-1073741824 ≤ (u_y24 i).toInt ∧ (u_y24 i).toInt ≤ 1073741823)) ∧ (LX y19 u_y18 x0_49.toInt u_x0_44.toInt) ∧ (1 ≤ x0_26.toInt → 1 ≤ u_x0_26.toInt) ∧ (u_x0_26.toInt = 0 → (0 ≤ u_x0_31.toInt ∧ u_x0_31.toInt ≤ 3999)) ∧ (u_x0_44.toInt ≤ 4110) ∧ (u_x0_32.toInt = 1) ∧ va_P D classes (wS50 cI cJ cZ cB p0 p1 p2 p3 p4 p5 p6 p7 p8 p9 p10 p11 p12 p13 p14 p15 p16 p17 p18 p19 p20 p21 p22 p23 p24 p25 x0_4 x0_5 x0_6 x0_7 x0_8 x0_12 x0_13 x0_14 x0_15 x0_16 x0_17 x0_18 x0_22 x0_23 x0_24 u_x0_25 u_x0_26 x0_27 x0_28 u_x0_29 u_x0_30 u_x0_31 u_x0_32 x0_36 x0_39 x0_40 u_x0_44 x0_49 x0_51 x0_53 u_x0_54 u_x0_55 u_x0_56 u_x0_57 u_x0_58 x0_59 x0_60 x0_61 x0_62 y1 y2 y3 y4 y5 y6 y7 y8 y9 y10 y11 y12 u_y13 y14 y15 u_y16 u_y17 u_y18 y19 y20 y21 y22 y23 u_y24 y25) t.heap ∧ va_D A (wS50 cI cJ cZ cB p0 p1 p2 p3 p4 p5 p6 p7 p8 p9 p10 p11 p12 p13 p14 p15 p16 p17 p18 p19 p20 p21 p22 p23 p24 p25 x0_4 x0_5 x0_6 x0_7 x0_8 x0_12 x0_13 x0_14 x0_15 x0_16 x0_17 x0_18 x0_22 x0_23 x0_24 u_x0_25 u_x0_26 x0_27 x0_28 u_x0_29 u_x0_30 u_x0_31 u_x0_32 x0_36 x0_39 x0_40 u_x0_44 x0_49 x0_51 x0_53 u_x0_54 u_x0_55 u_x0_56 u_x0_57 u_x0_58 x0_59 x0_60 x0_61 x0_62 y1 y2 y3 y4 y5 y6 y7 y8 y9 y10 y11 y12 u_y13 y14 y15 u_y16 u_y17 u_y18 y19 y20 y21 y22 y23 u_y24 y25)) A) [.ref p0].toArray s 0 0 A) (F0 m 49 ls []) := by
        intro n
        induction n with
        | zero => intro g49l3 g49x0_26 g49x0_30 g49x0_44 g49y13 g49y16 g49y17 g49y18 g49y24 H locs ls hn49 Rg49l3 Rg49x0_26 Rg49x0_30 Rg49x0_44 Ag49y13 Ag49y16 Ag49y17 Ag49y18 Ag49y24 I49_0 I49_1 I49_2 I49_3 I49_4 hP hD hS hl; exfalso; omega
        | succ n ih49 =>
          intro g49l3 g49x0_26 g49x0_30 g49x0_44 g49y13 g49y16 g49y17 g49y18 g49y24 H locs ls hn49 Rg49l3 Rg49x0_26 Rg49x0_30 Rg49x0_44 Ag49y13 Ag49y16 Ag49y17 Ag49y18 Ag49y24 I49_0 I49_1 I49_2 I49_3 I49_4 hP hD hS hl
          refine lv_iload_n hx hb d_X_readEnd_49 rfl (lv_at hl 0 rfl) ?_
          refine lv_aload_n hx hb d_X_readEnd_50 rfl (lv_at hl 2 rfl) ?_
          refine va_get (D := D) (ci := 7) (v := .int x0_51) (C := "SignMachineModel") (T := F_X) (N := 64) hx hb hk fi_X hown hK.1 hP 0 rfl rfl 51 (by decide) (hk _ k_1172) (fun _ h9 => h9) rfl d_X_readEnd_51 ?_
          refine lv_icmp_ge (tgt := 179) hx hb d_X_readEnd_54 (by decide) (fun c52 => ?_) (fun c52 => ?_)
          · have gc52 : x0_51.toInt ≤ g49l3.toInt := c_le c52
            exact W.vret hx hb hr (fun t ht hW => ⟨⟨(), rfl, trivial, ⟨x0_25z1, g49x0_26, x0_30, g49x0_30, v51, (1 : Int32), g49x0_44, x0_54z1, x0_55z1, x0_56z1, x0_57z1, x0_58z1, g49y13, g49y16, g49y17, g49y18, g49y24, Rx0_25z1, Rg49x0_26, Rg49x0_30, (by decide), Rg49x0_44, Rx0_54z1, Rx0_57z1, Rx0_58z1, Ag49y13, Ag49y16, Ag49y17, Ag49y18, Ag49y24, (show LX y19 g49y18 x0_49.toInt g49x0_44.toInt from by first | assumption | exact lx_zero _ _ _), (show 1 ≤ x0_26.toInt → 1 ≤ g49x0_26.toInt from by omega), (show g49x0_26.toInt = 0 → (0 ≤ v51.toInt ∧ v51.toInt ≤ 3999) from by omega), (show g49x0_44.toInt ≤ 4110 from by omega), (show (1 : Int) = 1 from by omega), by show va_P D classes _ t.heap; rw [ht]; exact hP, hD⟩⟩, hS.F ht⟩) hS.2.2 d_X_readEnd_179
          · have gc52 : g49l3.toInt < x0_51.toInt := c_nle c52
            have R53 : 0 ≤ g49l3.toInt ∧ g49l3.toInt ≤ 109 := rf_ltX Rg49l3 Rx0_51 gc52 (by decide) (by decide)
            have R54 : 1 ≤ x0_51.toInt ∧ x0_51.toInt ≤ 110 := rf_ltY Rg49l3 Rx0_51 gc52 (by decide) (by decide)
            refine lv_aload_n hx hb d_X_readEnd_57 rfl (lv_at hl 2 rfl) ?_
            refine va_get (D := D) (ci := 7) (v := .int g49x0_26) (C := "SignMachineModel") (T := F_X) (N := 64) hx hb hk fi_X hown hK.1 hP 0 rfl rfl 26 (by decide) (hk _ k_1147) (fun _ h9 => h9) rfl d_X_readEnd_58 ?_
            refine lv_if_ne (tgt := 179) hx hb d_X_readEnd_61 (by decide) (fun c55 => ?_) (fun c55 => ?_)
            · have gc55 : g49x0_26.toInt ≠ (0 : Int) := c_ne c55
              have R56 : 1 ≤ g49x0_26.toInt ∧ g49x0_26.toInt ≤ 6 := rf_neX Rg49x0_26 (show 0 ≤ (0 : Int) ∧ (0 : Int) ≤ 0 from by decide) gc55 (by decide) (by decide)
              exact W.vret hx hb hr (fun t ht hW => ⟨⟨(), rfl, trivial, ⟨x0_25z1, g49x0_26, x0_30, g49x0_30, v51, (1 : Int32), g49x0_44, x0_54z1, x0_55z1, x0_56z1, x0_57z1, x0_58z1, g49y13, g49y16, g49y17, g49y18, g49y24, Rx0_25z1, (rgw R56 (by decide) (by decide)), Rg49x0_30, (by decide), Rg49x0_44, Rx0_54z1, Rx0_57z1, Rx0_58z1, Ag49y13, Ag49y16, Ag49y17, Ag49y18, Ag49y24, (show LX y19 g49y18 x0_49.toInt g49x0_44.toInt from by first | assumption | exact lx_zero _ _ _), (show 1 ≤ x0_26.toInt → 1 ≤ g49x0_26.toInt from by omega), (show g49x0_26.toInt = 0 → (0 ≤ v51.toInt ∧ v51.toInt ≤ 3999) from by omega), (show g49x0_44.toInt ≤ 4110 from by omega), (show (1 : Int) = 1 from by omega), by show va_P D classes _ t.heap; rw [ht]; exact hP, hD⟩⟩, hS.F ht⟩) hS.2.2 d_X_readEnd_179
            · have gc55 : g49x0_26.toInt = (0 : Int) := c_eq c55
              have R57 : 0 ≤ g49x0_26.toInt ∧ g49x0_26.toInt ≤ 0 := rf_eqX Rg49x0_26 (show 0 ≤ (0 : Int) ∧ (0 : Int) ≤ 0 from by decide) gc55 (by decide) (by decide)
              refine lv_aload_n hx hb d_X_readEnd_64 rfl (lv_at hl 2 rfl) ?_
              refine va_get (D := D) (ci := 7) (v := .ref p23) (C := "SignMachineModel") (T := F_X) (N := 64) hx hb hk fi_X hown hK.1 hP 0 rfl rfl 50 (by decide) (hk _ k_1171) (fun _ h9 => h9) rfl d_X_readEnd_65 ?_
              refine lv_iload_n hx hb d_X_readEnd_68 rfl (lv_at hl 0 rfl) ?_
              refine va_iald hx hb hK.1 hP 23 0 rfl rfl (vpb R53 (by decide) (by decide)) d_X_readEnd_69 ?_
              refine lv_topi (fun v58 hv58 => ?_)
              have Rv58 := Ay23 (g49l3).toNatClampNeg
              rw [← hv58] at Rv58
              obtain ⟨Rv58, Xv58⟩ := Rv58
              refine lv_istore (lv' := [(4, .int v58), (3, .int g49l3), (1, .long rz2), (0, .ref p0)]) hx hb d_X_readEnd_70 hl (by decide) rfl (fun ls hl => ?_)
              refine lv_iload hx hb d_X_readEnd_72 (lv_at hl 0 rfl) ?_
              refine lv_bipush (v := 100) hx hb d_X_readEnd_74 (by decide) ?_
              refine lv_icmp_lt (tgt := 144) hx hb d_X_readEnd_76 (by decide) (fun c59 => ?_) (fun c59 => ?_)
              · have gc59 : v58.toInt < (100 : Int) := c_lt c59
                have R60 : 0 ≤ v58.toInt ∧ v58.toInt ≤ 99 := rf_ltX Rv58 (show 100 ≤ (100 : Int) ∧ (100 : Int) ≤ 100 from by decide) gc59 (by decide) (by decide)
                refine lv_aload_n hx hb d_X_readEnd_144 rfl (lv_at hl 3 rfl) ?_
                refine va_get (D := D) (ci := 7) (v := .ref p12) (C := "SignMachineModel") (T := F_X) (N := 64) hx hb hk fi_X hown hK.1 hP 0 rfl rfl 34 (by decide) (hk _ k_1155) (fun _ h9 => h9) rfl d_X_readEnd_145 ?_
                refine lv_iload hx hb d_X_readEnd_148 (lv_at hl 0 rfl) ?_
                refine va_zald hx hb hK.1 hP 12 2 rfl rfl (by rw [vp_in_iff]; omega) d_X_readEnd_150 ?_
                refine lv_topi (fun v61 hv61 => ?_)
                refine lv_if_ne (tgt := 173) hx hb d_X_readEnd_151 (by decide) (fun c62 => ?_) (fun c62 => ?_)
                · have gc62 : v61.toInt ≠ (0 : Int) := c_ne c62
                  obtain ⟨v63, hv63⟩ : ∃ y : Int32, y = (g49l3 + (1 : Int32)) := ⟨_, rfl⟩
                  obtain ⟨ev63, Rv63⟩ : v63.toInt = g49l3.toInt + 1 ∧ (1 ≤ v63.toInt ∧ v63.toInt ≤ 110) := ad3 hv63 R53 (y := (1 : Int32)) (c := 1) (d := 1) (by decide) (by decide) (by decide) (by decide) (by decide)
                  refine lv_iinc (v := v63) (lv' := [(3, .int v63), (4, .int v58), (1, .long rz2), (0, .ref p0)]) hx hb d_X_readEnd_173 hl (k := 1) rfl (by rw [hv63]; rfl) (by decide) rfl (fun ls hl => ?_)
                  refine lv_goto (tgt := 49) hx hb d_X_readEnd_176 (by decide) ?_
                  exact ih49 v63 g49x0_26 g49x0_30 g49x0_44 g49y13 g49y16 g49y17 g49y18 g49y24 H _ ls (show x0_51.toInt - v63.toInt < (n : Int) from by omega) (rgw Rv63 (by decide) (by decide)) (rgw R57 (by decide) (by decide)) Rg49x0_30 Rg49x0_44 Ag49y13 Ag49y16 Ag49y17 Ag49y18 Ag49y24 (show v63.toInt ≤ x0_51.toInt from by omega) (show LX y19 g49y18 x0_49.toInt g49x0_44.toInt from by first | assumption | exact lx_zero _ _ _) (show g49x0_44.toInt ≤ 4000 + v63.toInt from by omega) (show 1 ≤ x0_26.toInt → 1 ≤ g49x0_26.toInt from by omega) (show g49x0_26.toInt = 0 → (0 ≤ v51.toInt ∧ v51.toInt ≤ 3999) from by omega) hP hD hS (lv_sub hl [0, 2, 3] rfl)
                · have gc62 : v61.toInt = (0 : Int) := c_eq c62
                  have R64 : 0 ≤ v61.toInt ∧ v61.toInt ≤ 0 := rf_eqX (fr3 v61) (show 0 ≤ (0 : Int) ∧ (0 : Int) ≤ 0 from by decide) gc62 (by decide) (by decide)
                  refine lv_aload_n hx hb d_X_readEnd_154 rfl (lv_at hl 3 rfl) ?_
                  refine va_get (D := D) (ci := 7) (v := .ref p13) (C := "SignMachineModel") (T := F_X) (N := 64) hx hb hk fi_X hown hK.1 hP 0 rfl rfl 35 (by decide) (hk _ k_1156) (fun _ h9 => h9) rfl d_X_readEnd_155 ?_
                  refine lv_iload hx hb d_X_readEnd_158 (lv_at hl 0 rfl) ?_
                  refine lv_aload_n hx hb d_X_readEnd_160 rfl (lv_at hl 3 rfl) ?_
                  refine va_get (D := D) (ci := 7) (v := .int g49x0_30) (C := "SignMachineModel") (T := F_X) (N := 64) hx hb hk fi_X hown hK.1 hP 0 rfl rfl 30 (by decide) (hk _ k_1151) (fun _ h9 => h9) rfl d_X_readEnd_161 ?_
                  refine lv_i2l (v := (g49x0_30 : Int32).toInt64) hx hb d_X_readEnd_164 rfl ?_
                  refine lv_topl (fun v65 hv65 => ?_)
                  obtain ⟨ev65, Rv65⟩ : v65.toInt = g49x0_30.toInt ∧ ((-1073741823) ≤ v65.toInt ∧ v65.toInt ≤ 1073741823) := il3 hv65 Rg49x0_30
                  refine va_last hx hb hK.1 hP hD hS 13 1 rfl rfl (by rw [vp_in_iff]; omega) d_X_readEnd_165 (fun H locs hP hD hS => ?_)
                  have hP : va_P D classes (wS50 cI cJ cZ cB p0 p1 p2 p3 p4 p5 p6 p7 p8 p9 p10 p11 p12 p13 p14 p15 p16 p17 p18 p19 p20 p21 p22 p23 p24 p25 x0_4 x0_5 x0_6 x0_7 x0_8 x0_12 x0_13 x0_14 x0_15 x0_16 x0_17 x0_18 x0_22 x0_23 x0_24 x0_25z1 g49x0_26 x0_27 x0_28 x0_30 g49x0_30 v51 (1 : Int32) x0_36 x0_39 x0_40 g49x0_44 x0_49 x0_51 x0_53 x0_54z1 x0_55z1 x0_56z1 x0_57z1 x0_58z1 x0_59 x0_60 x0_61 x0_62 y1 y2 y3 y4 y5 y6 y7 y8 y9 y10 y11 y12 (vp_updL g49y13 (v58).toNatClampNeg v65) y14 y15 g49y16 g49y17 g49y18 y19 y20 y21 y22 y23 g49y24 y25) H := hP
                  have hD : va_D A (wS50 cI cJ cZ cB p0 p1 p2 p3 p4 p5 p6 p7 p8 p9 p10 p11 p12 p13 p14 p15 p16 p17 p18 p19 p20 p21 p22 p23 p24 p25 x0_4 x0_5 x0_6 x0_7 x0_8 x0_12 x0_13 x0_14 x0_15 x0_16 x0_17 x0_18 x0_22 x0_23 x0_24 x0_25z1 g49x0_26 x0_27 x0_28 x0_30 g49x0_30 v51 (1 : Int32) x0_36 x0_39 x0_40 g49x0_44 x0_49 x0_51 x0_53 x0_54z1 x0_55z1 x0_56z1 x0_57z1 x0_58z1 x0_59 x0_60 x0_61 x0_62 y1 y2 y3 y4 y5 y6 y7 y8 y9 y10 y11 y12 (vp_updL g49y13 (v58).toNatClampNeg v65) y14 y15 g49y16 g49y17 g49y18 y19 y20 y21 y22 y23 g49y24 y25) := hD
                  obtain ⟨v66, hv66⟩ : ∃ y : Nat → Int64, y = (vp_updL g49y13 (v58).toNatClampNeg v65) := ⟨_, rfl⟩
                  rw [← hv66] at hP hD
                  have Gv66 : (-1073741823 ≤ (v65).toInt ∧ (v65).toInt ≤ 1073741823) := Rv65
                  have Av66 : ∀ i : Nat, (-1073741823 ≤ (v66 i).toInt ∧ (v66 i).toInt ≤ 1073741823) := by rw [hv66]; exact updL_all (P := fun i x => (-1073741823 ≤ (x).toInt ∧ (x).toInt ≤ 1073741823)) Ag49y13 Gv66
                  clear hv66
                  refine lv_aload_n hx hb d_X_readEnd_166 rfl (lv_at hl 3 rfl) ?_
                  refine lv_iconst (v := 0) hx hb d_X_readEnd_167 (by decide) ?_
                  refine lv_iconst (v := 0) hx hb d_X_readEnd_168 (by decide) ?_
                  refine sn_i (va_runV (C := "SignMachineModel") (As := [.int (0 : Int32), .int (0 : Int32)]) (rest := []) ⟨hx, hb, hml, hown, hk⟩ (c_X_comes l D cI cJ cZ cB p0 p1 p2 p3 p4 p5 p6 p7 p8 p9 p10 p11 p12 p13 p14 p15 p16 p17 p18 p19 p20 p21 p22 p23 p24 p25 H.size x0_4 x0_5 x0_6 x0_7 x0_8 x0_12 x0_13 x0_14 x0_15 x0_16 x0_17 x0_18 x0_22 x0_23 x0_24 x0_25z1 g49x0_26 x0_27 x0_28 x0_30 g49x0_30 v51 (1 : Int32) x0_36 x0_39 x0_40 g49x0_44 x0_49 x0_51 x0_53 x0_54z1 x0_55z1 x0_56z1 x0_57z1 x0_58z1 x0_59 x0_60 x0_61 x0_62 y1 y2 y3 y4 y5 y6 y7 y8 y9 y10 y11 y12 v66 y14 y15 g49y16 g49y17 g49y18 y19 y20 y21 y22 y23 g49y24 y25 (0 : Int32) (0 : Int32) (rgw R57 (by decide) (by decide)) Rg49x0_30 Rg49x0_44 Rx0_49 Ag49y16 Ag49y17 Ag49y18 Ay19 (show g49x0_44.toInt ≤ 4150 from by omega) (show LX y19 g49y18 x0_49.toInt g49x0_44.toInt from by first | assumption | exact lx_zero _ _ _) (by decide) (by decide)) (v_X_comes hk k_1641 ⟨Nat.le_of_ble_eq_true rfl, Nat.le_of_ble_eq_true rfl⟩) (pM_v hK hP hD (ci := 7) (q0 := 0) rfl rfl rfl) rfl rfl hl.1 rfl (lv_room (Nat.le_of_ble_eq_true rfl)) d_X_readEnd_169 ⟨Nat.le_of_ble_eq_true rfl, Nat.le_of_ble_eq_true rfl⟩) hS hA hD (fun rz67 u t H locs hr0 ht hB hFr hS => ?_)
                  subst hr0
                  obtain ⟨x0_26z67, x0_30z67, x0_44z67, y16z67, y17z67, y18z67, Rx0_26z67, Rx0_30z67, Rx0_44z67, Ay16z67, Ay17z67, Ay18z67, F0z67, F1z67, F2z67, F3z67, F4z67, F5z67, hP, hD⟩ := hB
                  have F0z67 : 0 ≤ rz67.toInt ∧ rz67.toInt ≤ 4199 := F0z67
                  have F1z67 : 1 ≤ g49x0_26.toInt → 1 ≤ x0_26z67.toInt := F1z67
                  have F2z67 : g49x0_44.toInt ≤ x0_44z67.toInt := F2z67
                  have F3z67 : x0_44z67.toInt ≤ g49x0_44.toInt + 1 := F3z67
                  have F4z67 : x0_26z67.toInt = 0 → (x0_44z67.toInt = g49x0_44.toInt + 1 ∧ rz67.toInt = g49x0_44.toInt ∧ (y18z67 (rz67).toNatClampNeg).toInt = (0 : Int)) := F4z67
                  have F5z67 : LX y19 y18z67 x0_49.toInt x0_44z67.toInt := F5z67
                  rw [ht] at hP
                  have hD := dwk hD hFr
                  clear ht hFr
                  have hP : va_P D classes (wS50 cI cJ cZ cB p0 p1 p2 p3 p4 p5 p6 p7 p8 p9 p10 p11 p12 p13 p14 p15 p16 p17 p18 p19 p20 p21 p22 p23 p24 p25 x0_4 x0_5 x0_6 x0_7 x0_8 x0_12 x0_13 x0_14 x0_15 x0_16 x0_17 x0_18 x0_22 x0_23 x0_24 x0_25z1 x0_26z67 x0_27 x0_28 x0_30 x0_30z67 v51 (1 : Int32) x0_36 x0_39 x0_40 x0_44z67 x0_49 x0_51 x0_53 x0_54z1 x0_55z1 x0_56z1 x0_57z1 x0_58z1 x0_59 x0_60 x0_61 x0_62 y1 y2 y3 y4 y5 y6 y7 y8 y9 y10 y11 y12 v66 y14 y15 y16z67 y17z67 y18z67 y19 y20 y21 y22 y23 g49y24 y25) H := hP
                  have hD : va_D A (wS50 cI cJ cZ cB p0 p1 p2 p3 p4 p5 p6 p7 p8 p9 p10 p11 p12 p13 p14 p15 p16 p17 p18 p19 p20 p21 p22 p23 p24 p25 x0_4 x0_5 x0_6 x0_7 x0_8 x0_12 x0_13 x0_14 x0_15 x0_16 x0_17 x0_18 x0_22 x0_23 x0_24 x0_25z1 x0_26z67 x0_27 x0_28 x0_30 x0_30z67 v51 (1 : Int32) x0_36 x0_39 x0_40 x0_44z67 x0_49 x0_51 x0_53 x0_54z1 x0_55z1 x0_56z1 x0_57z1 x0_58z1 x0_59 x0_60 x0_61 x0_62 y1 y2 y3 y4 y5 y6 y7 y8 y9 y10 y11 y12 v66 y14 y15 y16z67 y17z67 y18z67 y19 y20 y21 y22 y23 g49y24 y25) := hD
                  refine lv_pop hx hb d_X_readEnd_172 rfl ?_
                  obtain ⟨v68, hv68⟩ : ∃ y : Int32, y = (g49l3 + (1 : Int32)) := ⟨_, rfl⟩
                  obtain ⟨ev68, Rv68⟩ : v68.toInt = g49l3.toInt + 1 ∧ (1 ≤ v68.toInt ∧ v68.toInt ≤ 110) := ad3 hv68 R53 (y := (1 : Int32)) (c := 1) (d := 1) (by decide) (by decide) (by decide) (by decide) (by decide)
                  refine lv_iinc (v := v68) (lv' := [(3, .int v68), (4, .int v58), (1, .long rz2), (0, .ref p0)]) hx hb d_X_readEnd_173 hl (k := 1) rfl (by rw [hv68]; rfl) (by decide) rfl (fun ls hl => ?_)
                  refine lv_goto (tgt := 49) hx hb d_X_readEnd_176 (by decide) ?_
                  exact ih49 v68 x0_26z67 x0_30z67 x0_44z67 v66 y16z67 y17z67 y18z67 g49y24 H _ ls (show x0_51.toInt - v68.toInt < (n : Int) from by omega) (rgw Rv68 (by decide) (by decide)) Rx0_26z67 Rx0_30z67 Rx0_44z67 Av66 Ay16z67 Ay17z67 Ay18z67 Ag49y24 (show v68.toInt ≤ x0_51.toInt from by omega) (show LX y19 y18z67 x0_49.toInt x0_44z67.toInt from by first | assumption | exact lx_zero _ _ _) (show x0_44z67.toInt ≤ 4000 + v68.toInt from by omega) (show 1 ≤ x0_26.toInt → 1 ≤ x0_26z67.toInt from by omega) (show x0_26z67.toInt = 0 → (0 ≤ v51.toInt ∧ v51.toInt ≤ 3999) from by omega) hP hD hS (lv_sub hl [0, 2, 3] rfl)
              · have gc59 : (100 : Int) ≤ v58.toInt := c_nlt c59
                have R69 : 100 ≤ v58.toInt ∧ v58.toInt ≤ 139 := rf_geX Rv58 (show 100 ≤ (100 : Int) ∧ (100 : Int) ≤ 100 from by decide) gc59 (by decide) (by decide)
                refine lv_aload_n hx hb d_X_readEnd_79 rfl (lv_at hl 3 rfl) ?_
                refine va_get (D := D) (ci := 7) (v := .ref p24) (C := "SignMachineModel") (T := F_X) (N := 64) hx hb hk fi_X hown hK.1 hP 0 rfl rfl 52 (by decide) (hk _ k_1173) (fun _ h9 => h9) rfl d_X_readEnd_80 ?_
                refine lv_iload hx hb d_X_readEnd_83 (lv_at hl 0 rfl) ?_
                refine lv_bipush (v := 100) hx hb d_X_readEnd_85 (by decide) ?_
                refine lv_isub hx hb d_X_readEnd_87 ?_
                refine lv_topi (fun v70 hv70 => ?_)
                obtain ⟨ev70, Rv70⟩ : v70.toInt = v58.toInt - (100 : Int) ∧ (0 ≤ v70.toInt ∧ v70.toInt ≤ 39) := sb3 hv70 R69 (show 100 ≤ (100 : Int32).toInt ∧ (100 : Int32).toInt ≤ 100 from by decide) (by decide) (by decide) (by decide) (by decide)
                refine va_lald hx hb hK.1 hP 24 1 rfl rfl (vpb Rv70 (by decide) (by decide)) d_X_readEnd_88 ?_
                refine lv_topl (fun v71 hv71 => ?_)
                have Rv71 := Ag49y24 (v70).toNatClampNeg
                rw [← hv71] at Rv71
                refine lv_lstore (lv' := [(5, .long v71), (4, .int v58), (3, .int g49l3), (1, .long rz2), (0, .ref p0)]) hx hb d_X_readEnd_89 hl (by decide) rfl (fun ls hl => ?_)
                refine lv_aload_n hx hb d_X_readEnd_91 rfl (lv_at hl 4 rfl) ?_
                refine va_get (D := D) (ci := 7) (v := .ref p24) (C := "SignMachineModel") (T := F_X) (N := 64) hx hb hk fi_X hown hK.1 hP 0 rfl rfl 52 (by decide) (hk _ k_1173) (fun _ h9 => h9) rfl d_X_readEnd_92 ?_
                refine lv_iload hx hb d_X_readEnd_95 (lv_at hl 1 rfl) ?_
                refine lv_bipush (v := 100) hx hb d_X_readEnd_97 (by decide) ?_
                refine lv_isub hx hb d_X_readEnd_99 ?_
                refine lv_topi (fun v72 hv72 => ?_)
                obtain ⟨ev72, Rv72⟩ : v72.toInt = v58.toInt - (100 : Int) ∧ (0 ≤ v72.toInt ∧ v72.toInt ≤ 39) := sb3 hv72 R69 (show 100 ≤ (100 : Int32).toInt ∧ (100 : Int32).toInt ≤ 100 from by decide) (by decide) (by decide) (by decide) (by decide)
                refine lv_aload_n hx hb d_X_readEnd_100 rfl (lv_at hl 4 rfl) ?_
                refine va_get (D := D) (ci := 7) (v := .int g49x0_30) (C := "SignMachineModel") (T := F_X) (N := 64) hx hb hk fi_X hown hK.1 hP 0 rfl rfl 30 (by decide) (hk _ k_1151) (fun _ h9 => h9) rfl d_X_readEnd_101 ?_
                refine lv_i2l (v := (g49x0_30 : Int32).toInt64) hx hb d_X_readEnd_104 rfl ?_
                refine lv_topl (fun v73 hv73 => ?_)
                obtain ⟨ev73, Rv73⟩ : v73.toInt = g49x0_30.toInt ∧ ((-1073741823) ≤ v73.toInt ∧ v73.toInt ≤ 1073741823) := il3 hv73 Rg49x0_30
                refine va_last hx hb hK.1 hP hD hS 24 1 rfl rfl (vpb Rv72 (by decide) (by decide)) d_X_readEnd_105 (fun H locs hP hD hS => ?_)
                have hP : va_P D classes (wS50 cI cJ cZ cB p0 p1 p2 p3 p4 p5 p6 p7 p8 p9 p10 p11 p12 p13 p14 p15 p16 p17 p18 p19 p20 p21 p22 p23 p24 p25 x0_4 x0_5 x0_6 x0_7 x0_8 x0_12 x0_13 x0_14 x0_15 x0_16 x0_17 x0_18 x0_22 x0_23 x0_24 x0_25z1 g49x0_26 x0_27 x0_28 x0_30 g49x0_30 v51 (1 : Int32) x0_36 x0_39 x0_40 g49x0_44 x0_49 x0_51 x0_53 x0_54z1 x0_55z1 x0_56z1 x0_57z1 x0_58z1 x0_59 x0_60 x0_61 x0_62 y1 y2 y3 y4 y5 y6 y7 y8 y9 y10 y11 y12 g49y13 y14 y15 g49y16 g49y17 g49y18 y19 y20 y21 y22 y23 (vp_updL g49y24 (v72).toNatClampNeg v73) y25) H := hP
                have hD : va_D A (wS50 cI cJ cZ cB p0 p1 p2 p3 p4 p5 p6 p7 p8 p9 p10 p11 p12 p13 p14 p15 p16 p17 p18 p19 p20 p21 p22 p23 p24 p25 x0_4 x0_5 x0_6 x0_7 x0_8 x0_12 x0_13 x0_14 x0_15 x0_16 x0_17 x0_18 x0_22 x0_23 x0_24 x0_25z1 g49x0_26 x0_27 x0_28 x0_30 g49x0_30 v51 (1 : Int32) x0_36 x0_39 x0_40 g49x0_44 x0_49 x0_51 x0_53 x0_54z1 x0_55z1 x0_56z1 x0_57z1 x0_58z1 x0_59 x0_60 x0_61 x0_62 y1 y2 y3 y4 y5 y6 y7 y8 y9 y10 y11 y12 g49y13 y14 y15 g49y16 g49y17 g49y18 y19 y20 y21 y22 y23 (vp_updL g49y24 (v72).toNatClampNeg v73) y25) := hD
                obtain ⟨v74, hv74⟩ : ∃ y : Nat → Int64, y = (vp_updL g49y24 (v72).toNatClampNeg v73) := ⟨_, rfl⟩
                rw [← hv74] at hP hD
                have Gv74 : (-1073741824 ≤ (v73).toInt ∧ (v73).toInt ≤ 1073741823) := (rgw Rv73 (by decide) (by decide))
                have Av74 : ∀ i : Nat, (-1073741824 ≤ (v74 i).toInt ∧ (v74 i).toInt ≤ 1073741823) := by rw [hv74]; exact updL_all (P := fun i x => (-1073741824 ≤ (x).toInt ∧ (x).toInt ≤ 1073741823)) Ag49y24 Gv74
                clear hv74
                refine lv_aload_n hx hb d_X_readEnd_106 rfl (lv_at hl 4 rfl) ?_
                refine lv_lload hx hb d_X_readEnd_107 (lv_at hl 0 rfl) ?_
                refine lv_lconst (v := 0) hx hb d_X_readEnd_109 (by decide) ?_
                refine W.lcmp hx hb d_X_readEnd_110 ?_
                refine lv_topi (fun v75 hv75 => ?_)
                refine lv_if_ge (tgt := 118) hx hb d_X_readEnd_111 (by decide) (fun c76 => ?_) (fun c76 => ?_)
                · have gc76 : (0 : Int) ≤ v71.toInt := lc_ge hv75 c76
                  have R77 : 0 ≤ v71.toInt ∧ v71.toInt ≤ 1073741823 := rf_geX Rv71 (show 0 ≤ (0 : Int) ∧ (0 : Int) ≤ 0 from by decide) gc76 (by decide) (by decide)
                  refine lv_iconst (v := 0) hx hb d_X_readEnd_118 (by decide) ?_
                  refine lv_lload hx hb d_X_readEnd_119 (lv_at hl 0 rfl) ?_
                  refine lv_lconst (v := 0) hx hb d_X_readEnd_121 (by decide) ?_
                  refine W.lcmp hx hb d_X_readEnd_122 ?_
                  refine lv_topi (fun v78 hv78 => ?_)
                  refine lv_if_ge (tgt := 134) hx hb d_X_readEnd_123 (by decide) (fun c79 => ?_) (fun c79 => absurd (show (0 : Int32) ≤ v78 from (lcr_ge hv78 (kle (show 0 ≤ (0 : Int) ∧ (0 : Int) ≤ 0 from by decide) R77 (by decide)))) c79)
                  refine lv_lload hx hb d_X_readEnd_134 (lv_at hl 0 rfl) ?_
                  refine lv_l2i (v := (v71 : Int64).toInt32) hx hb d_X_readEnd_136 rfl ?_
                  refine lv_topi (fun v80 hv80 => ?_)
                  obtain ⟨ev80, Rv80⟩ : v80.toInt = v71.toInt ∧ (0 ≤ v80.toInt ∧ v80.toInt ≤ 1073741823) := li3 hv80 R77 (by decide) (by decide)
                  refine sn_i (va_runV (C := "SignMachineModel") (As := [.int (0 : Int32), .int v80]) (rest := []) ⟨hx, hb, hml, hown, hk⟩ (c_X_comes l D cI cJ cZ cB p0 p1 p2 p3 p4 p5 p6 p7 p8 p9 p10 p11 p12 p13 p14 p15 p16 p17 p18 p19 p20 p21 p22 p23 p24 p25 H.size x0_4 x0_5 x0_6 x0_7 x0_8 x0_12 x0_13 x0_14 x0_15 x0_16 x0_17 x0_18 x0_22 x0_23 x0_24 x0_25z1 g49x0_26 x0_27 x0_28 x0_30 g49x0_30 v51 (1 : Int32) x0_36 x0_39 x0_40 g49x0_44 x0_49 x0_51 x0_53 x0_54z1 x0_55z1 x0_56z1 x0_57z1 x0_58z1 x0_59 x0_60 x0_61 x0_62 y1 y2 y3 y4 y5 y6 y7 y8 y9 y10 y11 y12 g49y13 y14 y15 g49y16 g49y17 g49y18 y19 y20 y21 y22 y23 v74 y25 (0 : Int32) v80 (rgw R57 (by decide) (by decide)) Rg49x0_30 Rg49x0_44 Rx0_49 Ag49y16 Ag49y17 Ag49y18 Ay19 (show g49x0_44.toInt ≤ 4150 from by omega) (show LX y19 g49y18 x0_49.toInt g49x0_44.toInt from by first | assumption | exact lx_zero _ _ _) (by decide) Rv80) (v_X_comes hk k_1641 ⟨Nat.le_of_ble_eq_true rfl, Nat.le_of_ble_eq_true rfl⟩) (pM_v hK hP hD (ci := 7) (q0 := 0) rfl rfl rfl) rfl rfl hl.1 rfl (lv_room (Nat.le_of_ble_eq_true rfl)) d_X_readEnd_137 ⟨Nat.le_of_ble_eq_true rfl, Nat.le_of_ble_eq_true rfl⟩) hS hA hD (fun rz81 u t H locs hr0 ht hB hFr hS => ?_)
                  subst hr0
                  obtain ⟨x0_26z81, x0_30z81, x0_44z81, y16z81, y17z81, y18z81, Rx0_26z81, Rx0_30z81, Rx0_44z81, Ay16z81, Ay17z81, Ay18z81, F0z81, F1z81, F2z81, F3z81, F4z81, F5z81, hP, hD⟩ := hB
                  have F0z81 : 0 ≤ rz81.toInt ∧ rz81.toInt ≤ 4199 := F0z81
                  have F1z81 : 1 ≤ g49x0_26.toInt → 1 ≤ x0_26z81.toInt := F1z81
                  have F2z81 : g49x0_44.toInt ≤ x0_44z81.toInt := F2z81
                  have F3z81 : x0_44z81.toInt ≤ g49x0_44.toInt + 1 := F3z81
                  have F4z81 : x0_26z81.toInt = 0 → (x0_44z81.toInt = g49x0_44.toInt + 1 ∧ rz81.toInt = g49x0_44.toInt ∧ (y18z81 (rz81).toNatClampNeg).toInt = v80.toInt) := F4z81
                  have F5z81 : LX y19 y18z81 x0_49.toInt x0_44z81.toInt := F5z81
                  rw [ht] at hP
                  have hD := dwk hD hFr
                  clear ht hFr
                  have hP : va_P D classes (wS50 cI cJ cZ cB p0 p1 p2 p3 p4 p5 p6 p7 p8 p9 p10 p11 p12 p13 p14 p15 p16 p17 p18 p19 p20 p21 p22 p23 p24 p25 x0_4 x0_5 x0_6 x0_7 x0_8 x0_12 x0_13 x0_14 x0_15 x0_16 x0_17 x0_18 x0_22 x0_23 x0_24 x0_25z1 x0_26z81 x0_27 x0_28 x0_30 x0_30z81 v51 (1 : Int32) x0_36 x0_39 x0_40 x0_44z81 x0_49 x0_51 x0_53 x0_54z1 x0_55z1 x0_56z1 x0_57z1 x0_58z1 x0_59 x0_60 x0_61 x0_62 y1 y2 y3 y4 y5 y6 y7 y8 y9 y10 y11 y12 g49y13 y14 y15 y16z81 y17z81 y18z81 y19 y20 y21 y22 y23 v74 y25) H := hP
                  have hD : va_D A (wS50 cI cJ cZ cB p0 p1 p2 p3 p4 p5 p6 p7 p8 p9 p10 p11 p12 p13 p14 p15 p16 p17 p18 p19 p20 p21 p22 p23 p24 p25 x0_4 x0_5 x0_6 x0_7 x0_8 x0_12 x0_13 x0_14 x0_15 x0_16 x0_17 x0_18 x0_22 x0_23 x0_24 x0_25z1 x0_26z81 x0_27 x0_28 x0_30 x0_30z81 v51 (1 : Int32) x0_36 x0_39 x0_40 x0_44z81 x0_49 x0_51 x0_53 x0_54z1 x0_55z1 x0_56z1 x0_57z1 x0_58z1 x0_59 x0_60 x0_61 x0_62 y1 y2 y3 y4 y5 y6 y7 y8 y9 y10 y11 y12 g49y13 y14 y15 y16z81 y17z81 y18z81 y19 y20 y21 y22 y23 v74 y25) := hD
                  refine lv_pop hx hb d_X_readEnd_140 rfl ?_
                  refine lv_goto (tgt := 173) hx hb d_X_readEnd_141 (by decide) ?_
                  obtain ⟨v82, hv82⟩ : ∃ y : Int32, y = (g49l3 + (1 : Int32)) := ⟨_, rfl⟩
                  obtain ⟨ev82, Rv82⟩ : v82.toInt = g49l3.toInt + 1 ∧ (1 ≤ v82.toInt ∧ v82.toInt ≤ 110) := ad3 hv82 R53 (y := (1 : Int32)) (c := 1) (d := 1) (by decide) (by decide) (by decide) (by decide) (by decide)
                  refine lv_iinc (v := v82) (lv' := [(3, .int v82), (5, .long v71), (4, .int v58), (1, .long rz2), (0, .ref p0)]) hx hb d_X_readEnd_173 hl (k := 2) rfl (by rw [hv82]; rfl) (by decide) rfl (fun ls hl => ?_)
                  refine lv_goto (tgt := 49) hx hb d_X_readEnd_176 (by decide) ?_
                  exact ih49 v82 x0_26z81 x0_30z81 x0_44z81 g49y13 y16z81 y17z81 y18z81 v74 H _ ls (show x0_51.toInt - v82.toInt < (n : Int) from by omega) (rgw Rv82 (by decide) (by decide)) Rx0_26z81 Rx0_30z81 Rx0_44z81 Ag49y13 Ay16z81 Ay17z81 Ay18z81 Av74 (show v82.toInt ≤ x0_51.toInt from by omega) (show LX y19 y18z81 x0_49.toInt x0_44z81.toInt from by first | assumption | exact lx_zero _ _ _) (show x0_44z81.toInt ≤ 4000 + v82.toInt from by omega) (show 1 ≤ x0_26.toInt → 1 ≤ x0_26z81.toInt from by omega) (show x0_26z81.toInt = 0 → (0 ≤ v51.toInt ∧ v51.toInt ≤ 3999) from by omega) hP hD hS (lv_sub hl [0, 3, 4] rfl)
                · have gc76 : v71.toInt < (0 : Int) := lc_nge hv75 c76
                  have R83 : (-1073741824) ≤ v71.toInt ∧ v71.toInt ≤ (-1) := rf_ltX Rv71 (show 0 ≤ (0 : Int) ∧ (0 : Int) ≤ 0 from by decide) gc76 (by decide) (by decide)
                  refine lv_iconst (v := 1) hx hb d_X_readEnd_114 (by decide) ?_
                  refine lv_goto (tgt := 119) hx hb d_X_readEnd_115 (by decide) ?_
                  refine lv_lload hx hb d_X_readEnd_119 (lv_at hl 0 rfl) ?_
                  refine lv_lconst (v := 0) hx hb d_X_readEnd_121 (by decide) ?_
                  refine W.lcmp hx hb d_X_readEnd_122 ?_
                  refine lv_topi (fun v84 hv84 => ?_)
                  refine lv_if_ge (tgt := 134) hx hb d_X_readEnd_123 (by decide) (fun c85 => absurd c85 (show ¬ (0 : Int32) ≤ v84 from (lcr_nge hv84 (klt R83 (show 0 ≤ (0 : Int) ∧ (0 : Int) ≤ 0 from by decide) (by decide))))) (fun c85 => ?_)
                  refine lv_lload hx hb d_X_readEnd_126 (lv_at hl 0 rfl) ?_
                  refine lv_lneg hx hb d_X_readEnd_128 ?_
                  refine lv_topl (fun v86 hv86 => ?_)
                  obtain ⟨ev86, Rv86⟩ : v86.toInt = -v71.toInt ∧ (1 ≤ v86.toInt ∧ v86.toInt ≤ 1073741824) := ng6 hv86 R83 (by decide) (by decide) (by decide) (by decide)
                  refine lv_lconst (v := 1) hx hb d_X_readEnd_129 (by decide) ?_
                  refine lv_lsub hx hb d_X_readEnd_130 ?_
                  refine lv_topl (fun v87 hv87 => ?_)
                  obtain ⟨ev87, Rv87⟩ : v87.toInt = v86.toInt - (1 : Int) ∧ (0 ≤ v87.toInt ∧ v87.toInt ≤ 1073741823) := sb6 hv87 Rv86 (show 1 ≤ (1 : Int64).toInt ∧ (1 : Int64).toInt ≤ 1 from by decide) (by decide) (by decide) (by decide) (by decide)
                  refine lv_goto (tgt := 136) hx hb d_X_readEnd_131 (by decide) ?_
                  refine lv_l2i (v := (v87 : Int64).toInt32) hx hb d_X_readEnd_136 rfl ?_
                  refine lv_topi (fun v88 hv88 => ?_)
                  obtain ⟨ev88, Rv88⟩ : v88.toInt = v87.toInt ∧ (0 ≤ v88.toInt ∧ v88.toInt ≤ 1073741823) := li3 hv88 Rv87 (by decide) (by decide)
                  refine sn_i (va_runV (C := "SignMachineModel") (As := [.int (1 : Int32), .int v88]) (rest := []) ⟨hx, hb, hml, hown, hk⟩ (c_X_comes l D cI cJ cZ cB p0 p1 p2 p3 p4 p5 p6 p7 p8 p9 p10 p11 p12 p13 p14 p15 p16 p17 p18 p19 p20 p21 p22 p23 p24 p25 H.size x0_4 x0_5 x0_6 x0_7 x0_8 x0_12 x0_13 x0_14 x0_15 x0_16 x0_17 x0_18 x0_22 x0_23 x0_24 x0_25z1 g49x0_26 x0_27 x0_28 x0_30 g49x0_30 v51 (1 : Int32) x0_36 x0_39 x0_40 g49x0_44 x0_49 x0_51 x0_53 x0_54z1 x0_55z1 x0_56z1 x0_57z1 x0_58z1 x0_59 x0_60 x0_61 x0_62 y1 y2 y3 y4 y5 y6 y7 y8 y9 y10 y11 y12 g49y13 y14 y15 g49y16 g49y17 g49y18 y19 y20 y21 y22 y23 v74 y25 (1 : Int32) v88 (rgw R57 (by decide) (by decide)) Rg49x0_30 Rg49x0_44 Rx0_49 Ag49y16 Ag49y17 Ag49y18 Ay19 (show g49x0_44.toInt ≤ 4150 from by omega) (show LX y19 g49y18 x0_49.toInt g49x0_44.toInt from by first | assumption | exact lx_zero _ _ _) (by decide) Rv88) (v_X_comes hk k_1641 ⟨Nat.le_of_ble_eq_true rfl, Nat.le_of_ble_eq_true rfl⟩) (pM_v hK hP hD (ci := 7) (q0 := 0) rfl rfl rfl) rfl rfl hl.1 rfl (lv_room (Nat.le_of_ble_eq_true rfl)) d_X_readEnd_137 ⟨Nat.le_of_ble_eq_true rfl, Nat.le_of_ble_eq_true rfl⟩) hS hA hD (fun rz89 u t H locs hr0 ht hB hFr hS => ?_)
                  subst hr0
                  obtain ⟨x0_26z89, x0_30z89, x0_44z89, y16z89, y17z89, y18z89, Rx0_26z89, Rx0_30z89, Rx0_44z89, Ay16z89, Ay17z89, Ay18z89, F0z89, F1z89, F2z89, F3z89, F4z89, F5z89, hP, hD⟩ := hB
                  have F0z89 : 0 ≤ rz89.toInt ∧ rz89.toInt ≤ 4199 := F0z89
                  have F1z89 : 1 ≤ g49x0_26.toInt → 1 ≤ x0_26z89.toInt := F1z89
                  have F2z89 : g49x0_44.toInt ≤ x0_44z89.toInt := F2z89
                  have F3z89 : x0_44z89.toInt ≤ g49x0_44.toInt + 1 := F3z89
                  have F4z89 : x0_26z89.toInt = 0 → (x0_44z89.toInt = g49x0_44.toInt + 1 ∧ rz89.toInt = g49x0_44.toInt ∧ (y18z89 (rz89).toNatClampNeg).toInt = v88.toInt) := F4z89
                  have F5z89 : LX y19 y18z89 x0_49.toInt x0_44z89.toInt := F5z89
                  rw [ht] at hP
                  have hD := dwk hD hFr
                  clear ht hFr
                  have hP : va_P D classes (wS50 cI cJ cZ cB p0 p1 p2 p3 p4 p5 p6 p7 p8 p9 p10 p11 p12 p13 p14 p15 p16 p17 p18 p19 p20 p21 p22 p23 p24 p25 x0_4 x0_5 x0_6 x0_7 x0_8 x0_12 x0_13 x0_14 x0_15 x0_16 x0_17 x0_18 x0_22 x0_23 x0_24 x0_25z1 x0_26z89 x0_27 x0_28 x0_30 x0_30z89 v51 (1 : Int32) x0_36 x0_39 x0_40 x0_44z89 x0_49 x0_51 x0_53 x0_54z1 x0_55z1 x0_56z1 x0_57z1 x0_58z1 x0_59 x0_60 x0_61 x0_62 y1 y2 y3 y4 y5 y6 y7 y8 y9 y10 y11 y12 g49y13 y14 y15 y16z89 y17z89 y18z89 y19 y20 y21 y22 y23 v74 y25) H := hP
                  have hD : va_D A (wS50 cI cJ cZ cB p0 p1 p2 p3 p4 p5 p6 p7 p8 p9 p10 p11 p12 p13 p14 p15 p16 p17 p18 p19 p20 p21 p22 p23 p24 p25 x0_4 x0_5 x0_6 x0_7 x0_8 x0_12 x0_13 x0_14 x0_15 x0_16 x0_17 x0_18 x0_22 x0_23 x0_24 x0_25z1 x0_26z89 x0_27 x0_28 x0_30 x0_30z89 v51 (1 : Int32) x0_36 x0_39 x0_40 x0_44z89 x0_49 x0_51 x0_53 x0_54z1 x0_55z1 x0_56z1 x0_57z1 x0_58z1 x0_59 x0_60 x0_61 x0_62 y1 y2 y3 y4 y5 y6 y7 y8 y9 y10 y11 y12 g49y13 y14 y15 y16z89 y17z89 y18z89 y19 y20 y21 y22 y23 v74 y25) := hD
                  refine lv_pop hx hb d_X_readEnd_140 rfl ?_
                  refine lv_goto (tgt := 173) hx hb d_X_readEnd_141 (by decide) ?_
                  obtain ⟨v90, hv90⟩ : ∃ y : Int32, y = (g49l3 + (1 : Int32)) := ⟨_, rfl⟩
                  obtain ⟨ev90, Rv90⟩ : v90.toInt = g49l3.toInt + 1 ∧ (1 ≤ v90.toInt ∧ v90.toInt ≤ 110) := ad3 hv90 R53 (y := (1 : Int32)) (c := 1) (d := 1) (by decide) (by decide) (by decide) (by decide) (by decide)
                  refine lv_iinc (v := v90) (lv' := [(3, .int v90), (5, .long v71), (4, .int v58), (1, .long rz2), (0, .ref p0)]) hx hb d_X_readEnd_173 hl (k := 2) rfl (by rw [hv90]; rfl) (by decide) rfl (fun ls hl => ?_)
                  refine lv_goto (tgt := 49) hx hb d_X_readEnd_176 (by decide) ?_
                  exact ih49 v90 x0_26z89 x0_30z89 x0_44z89 g49y13 y16z89 y17z89 y18z89 v74 H _ ls (show x0_51.toInt - v90.toInt < (n : Int) from by omega) (rgw Rv90 (by decide) (by decide)) Rx0_26z89 Rx0_30z89 Rx0_44z89 Ag49y13 Ay16z89 Ay17z89 Ay18z89 Av74 (show v90.toInt ≤ x0_51.toInt from by omega) (show LX y19 y18z89 x0_49.toInt x0_44z89.toInt from by first | assumption | exact lx_zero _ _ _) (show x0_44z89.toInt ≤ 4000 + v90.toInt from by omega) (show 1 ≤ x0_26.toInt → 1 ≤ x0_26z89.toInt from by omega) (show x0_26z89.toInt = 0 → (0 ≤ v51.toInt ∧ v51.toInt ≤ 3999) from by omega) hP hD hS (lv_sub hl [0, 3, 4] rfl)
      exact CUT49 ((x0_51.toInt - (0 : Int)).toNat + 1) (0 : Int32) x0_26z1 x0_30 x0_44 y13 y16 y17 y18 y24 H _ ls (show (x0_51.toInt - (0 : Int)) < (((x0_51.toInt - (0 : Int)).toNat + 1 : Nat) : Int) from by omega) (by decide) Rx0_26z1 Rx0_30 Rx0_44 Ay13 Ay16 Ay17 Ay18 Ay24 (show (0 : Int) ≤ x0_51.toInt from by omega) (show LX y19 y18 x0_49.toInt x0_44.toInt from by first | assumption | exact lx_zero _ _ _) (show x0_44.toInt ≤ 4000 + (0 : Int) from by omega) (show 1 ≤ x0_26.toInt → 1 ≤ x0_26z1.toInt from by omega) (show x0_26z1.toInt = 0 → (0 ≤ v51.toInt ∧ v51.toInt ≤ 3999) from by omega) hP hD hS (lv_sub hl [0, 1, 2] rfl)
    · have gc49 : (4000 : Int) ≤ rz2.toInt := lc_nlt hv48 c49
      have R91 : 4000 ≤ rz2.toInt ∧ rz2.toInt ≤ 1073741823 := rf_geX R47 (show 4000 ≤ (4000 : Int) ∧ (4000 : Int) ≤ 4000 from by decide) gc49 (by decide) (by decide)
      refine lv_aload_n hx hb d_X_readEnd_23 rfl (lv_at hl 1 rfl) ?_
      refine lv_iconst (v := 4) hx hb d_X_readEnd_24 (by decide) ?_
      refine kn_v (va_runV (C := "SignMachineModel") (As := [.int (4 : Int32)]) (rest := []) ⟨hx, hb, hml, hown, hk⟩ (c_X_bad l D cI cJ cZ cB p0 p1 p2 p3 p4 p5 p6 p7 p8 p9 p10 p11 p12 p13 p14 p15 p16 p17 p18 p19 p20 p21 p22 p23 p24 p25 H.size x0_4 x0_5 x0_6 x0_7 x0_8 x0_12 x0_13 x0_14 x0_15 x0_16 x0_17 x0_18 x0_22 x0_23 x0_24 x0_25z1 x0_26z1 x0_27 x0_28 x0_29 x0_30 x0_31 x0_32 x0_36 x0_39 x0_40 x0_44 x0_49 x0_51 x0_53 x0_54z1 x0_55z1 x0_56z1 x0_57z1 x0_58z1 x0_59 x0_60 x0_61 x0_62 y1 y2 y3 y4 y5 y6 y7 y8 y9 y10 y11 y12 y13 y14 y15 y16 y17 y18 y19 y20 y21 y22 y23 y24 y25 (4 : Int32) Rx0_26z1 (by decide)) (v_X_bad hk k_1552 ⟨Nat.le_of_ble_eq_true rfl, Nat.le_of_ble_eq_true rfl⟩) (pM_v hK hP hD (ci := 7) (q0 := 0) rfl rfl rfl) rfl rfl hl.1 rfl (lv_room (Nat.le_of_ble_eq_true rfl)) d_X_readEnd_25 ⟨Nat.le_of_ble_eq_true rfl, Nat.le_of_ble_eq_true rfl⟩) hS hA hD (fun u t H locs ht hB hFr hS => ?_)
      obtain ⟨x0_26z92, Rx0_26z92, F0z92, hP, hD⟩ := hB
      have F0z92 : 1 ≤ x0_26z92.toInt := F0z92
      rw [ht] at hP
      have hD := dwk hD hFr
      clear ht hFr
      have hP : va_P D classes (wS50 cI cJ cZ cB p0 p1 p2 p3 p4 p5 p6 p7 p8 p9 p10 p11 p12 p13 p14 p15 p16 p17 p18 p19 p20 p21 p22 p23 p24 p25 x0_4 x0_5 x0_6 x0_7 x0_8 x0_12 x0_13 x0_14 x0_15 x0_16 x0_17 x0_18 x0_22 x0_23 x0_24 x0_25z1 x0_26z92 x0_27 x0_28 x0_29 x0_30 x0_31 x0_32 x0_36 x0_39 x0_40 x0_44 x0_49 x0_51 x0_53 x0_54z1 x0_55z1 x0_56z1 x0_57z1 x0_58z1 x0_59 x0_60 x0_61 x0_62 y1 y2 y3 y4 y5 y6 y7 y8 y9 y10 y11 y12 y13 y14 y15 y16 y17 y18 y19 y20 y21 y22 y23 y24 y25) H := hP
      have hD : va_D A (wS50 cI cJ cZ cB p0 p1 p2 p3 p4 p5 p6 p7 p8 p9 p10 p11 p12 p13 p14 p15 p16 p17 p18 p19 p20 p21 p22 p23 p24 p25 x0_4 x0_5 x0_6 x0_7 x0_8 x0_12 x0_13 x0_14 x0_15 x0_16 x0_17 x0_18 x0_22 x0_23 x0_24 x0_25z1 x0_26z92 x0_27 x0_28 x0_29 x0_30 x0_31 x0_32 x0_36 x0_39 x0_40 x0_44 x0_49 x0_51 x0_53 x0_54z1 x0_55z1 x0_56z1 x0_57z1 x0_58z1 x0_59 x0_60 x0_61 x0_62 y1 y2 y3 y4 y5 y6 y7 y8 y9 y10 y11 y12 y13 y14 y15 y16 y17 y18 y19 y20 y21 y22 y23 y24 y25) := hD
      refine lv_aload_n hx hb d_X_readEnd_28 rfl (lv_at hl 1 rfl) ?_
      refine lv_lload_n hx hb d_X_readEnd_29 rfl (lv_at hl 0 rfl) ?_
      refine lv_l2i (v := (rz2 : Int64).toInt32) hx hb d_X_readEnd_30 rfl ?_
      refine lv_topi (fun v93 hv93 => ?_)
      obtain ⟨ev93, Rv93⟩ : v93.toInt = rz2.toInt ∧ (4000 ≤ v93.toInt ∧ v93.toInt ≤ 1073741823) := li3 hv93 R91 (by decide) (by decide)
      refine va_put (D := D) (ci := 7) (v := .int v93) (ty := .int) (C := "SignMachineModel") (T := F_X) (N := 64) hx hb hk fi_X ft_X ft_X_ok fn_X hown hK.1 hP hD hS 0 rfl rfl 31 (by decide) (hk _ k_1152) (fun _ h9 => h9) rfl (by decide +kernel) rfl rfl (Nat.le_of_ble_eq_true rfl) d_X_readEnd_31 (fun H locs hP hD hS => ?_)
      have hP : va_P D classes (wS50 cI cJ cZ cB p0 p1 p2 p3 p4 p5 p6 p7 p8 p9 p10 p11 p12 p13 p14 p15 p16 p17 p18 p19 p20 p21 p22 p23 p24 p25 x0_4 x0_5 x0_6 x0_7 x0_8 x0_12 x0_13 x0_14 x0_15 x0_16 x0_17 x0_18 x0_22 x0_23 x0_24 x0_25z1 x0_26z92 x0_27 x0_28 x0_29 x0_30 v93 x0_32 x0_36 x0_39 x0_40 x0_44 x0_49 x0_51 x0_53 x0_54z1 x0_55z1 x0_56z1 x0_57z1 x0_58z1 x0_59 x0_60 x0_61 x0_62 y1 y2 y3 y4 y5 y6 y7 y8 y9 y10 y11 y12 y13 y14 y15 y16 y17 y18 y19 y20 y21 y22 y23 y24 y25) H := hP
      have hD : va_D A (wS50 cI cJ cZ cB p0 p1 p2 p3 p4 p5 p6 p7 p8 p9 p10 p11 p12 p13 p14 p15 p16 p17 p18 p19 p20 p21 p22 p23 p24 p25 x0_4 x0_5 x0_6 x0_7 x0_8 x0_12 x0_13 x0_14 x0_15 x0_16 x0_17 x0_18 x0_22 x0_23 x0_24 x0_25z1 x0_26z92 x0_27 x0_28 x0_29 x0_30 v93 x0_32 x0_36 x0_39 x0_40 x0_44 x0_49 x0_51 x0_53 x0_54z1 x0_55z1 x0_56z1 x0_57z1 x0_58z1 x0_59 x0_60 x0_61 x0_62 y1 y2 y3 y4 y5 y6 y7 y8 y9 y10 y11 y12 y13 y14 y15 y16 y17 y18 y19 y20 y21 y22 y23 y24 y25) := hD
      refine lv_aload_n hx hb d_X_readEnd_34 rfl (lv_at hl 1 rfl) ?_
      refine lv_iconst (v := 1) hx hb d_X_readEnd_35 (by decide) ?_
      refine va_put (D := D) (ci := 7) (v := .int (1 : Int32)) (ty := .boolean) (C := "SignMachineModel") (T := F_X) (N := 64) hx hb hk fi_X ft_X ft_X_ok fn_X hown hK.1 hP hD hS 0 rfl rfl 32 (by decide) (hk _ k_1153) (fun _ h9 => h9) rfl (by decide +kernel) rfl rfl (Nat.le_of_ble_eq_true rfl) d_X_readEnd_36 (fun H locs hP hD hS => ?_)
      have hP : va_P D classes (wS50 cI cJ cZ cB p0 p1 p2 p3 p4 p5 p6 p7 p8 p9 p10 p11 p12 p13 p14 p15 p16 p17 p18 p19 p20 p21 p22 p23 p24 p25 x0_4 x0_5 x0_6 x0_7 x0_8 x0_12 x0_13 x0_14 x0_15 x0_16 x0_17 x0_18 x0_22 x0_23 x0_24 x0_25z1 x0_26z92 x0_27 x0_28 x0_29 x0_30 v93 (1 : Int32) x0_36 x0_39 x0_40 x0_44 x0_49 x0_51 x0_53 x0_54z1 x0_55z1 x0_56z1 x0_57z1 x0_58z1 x0_59 x0_60 x0_61 x0_62 y1 y2 y3 y4 y5 y6 y7 y8 y9 y10 y11 y12 y13 y14 y15 y16 y17 y18 y19 y20 y21 y22 y23 y24 y25) H := hP
      have hD : va_D A (wS50 cI cJ cZ cB p0 p1 p2 p3 p4 p5 p6 p7 p8 p9 p10 p11 p12 p13 p14 p15 p16 p17 p18 p19 p20 p21 p22 p23 p24 p25 x0_4 x0_5 x0_6 x0_7 x0_8 x0_12 x0_13 x0_14 x0_15 x0_16 x0_17 x0_18 x0_22 x0_23 x0_24 x0_25z1 x0_26z92 x0_27 x0_28 x0_29 x0_30 v93 (1 : Int32) x0_36 x0_39 x0_40 x0_44 x0_49 x0_51 x0_53 x0_54z1 x0_55z1 x0_56z1 x0_57z1 x0_58z1 x0_59 x0_60 x0_61 x0_62 y1 y2 y3 y4 y5 y6 y7 y8 y9 y10 y11 y12 y13 y14 y15 y16 y17 y18 y19 y20 y21 y22 y23 y24 y25) := hD
      refine lv_aload_n hx hb d_X_readEnd_39 rfl (lv_at hl 1 rfl) ?_
      refine lv_aload_n hx hb d_X_readEnd_40 rfl (lv_at hl 1 rfl) ?_
      refine va_get (D := D) (ci := 7) (v := .int x0_30) (C := "SignMachineModel") (T := F_X) (N := 64) hx hb hk fi_X hown hK.1 hP 0 rfl rfl 30 (by decide) (hk _ k_1151) (fun _ h9 => h9) rfl d_X_readEnd_41 ?_
      refine va_put (D := D) (ci := 7) (v := .int x0_30) (ty := .int) (C := "SignMachineModel") (T := F_X) (N := 64) hx hb hk fi_X ft_X ft_X_ok fn_X hown hK.1 hP hD hS 0 rfl rfl 29 (by decide) (hk _ k_1150) (fun _ h9 => h9) rfl (by decide +kernel) rfl rfl (Nat.le_of_ble_eq_true rfl) d_X_readEnd_44 (fun H locs hP hD hS => ?_)
      have hP : va_P D classes (wS50 cI cJ cZ cB p0 p1 p2 p3 p4 p5 p6 p7 p8 p9 p10 p11 p12 p13 p14 p15 p16 p17 p18 p19 p20 p21 p22 p23 p24 p25 x0_4 x0_5 x0_6 x0_7 x0_8 x0_12 x0_13 x0_14 x0_15 x0_16 x0_17 x0_18 x0_22 x0_23 x0_24 x0_25z1 x0_26z92 x0_27 x0_28 x0_30 x0_30 v93 (1 : Int32) x0_36 x0_39 x0_40 x0_44 x0_49 x0_51 x0_53 x0_54z1 x0_55z1 x0_56z1 x0_57z1 x0_58z1 x0_59 x0_60 x0_61 x0_62 y1 y2 y3 y4 y5 y6 y7 y8 y9 y10 y11 y12 y13 y14 y15 y16 y17 y18 y19 y20 y21 y22 y23 y24 y25) H := hP
      have hD : va_D A (wS50 cI cJ cZ cB p0 p1 p2 p3 p4 p5 p6 p7 p8 p9 p10 p11 p12 p13 p14 p15 p16 p17 p18 p19 p20 p21 p22 p23 p24 p25 x0_4 x0_5 x0_6 x0_7 x0_8 x0_12 x0_13 x0_14 x0_15 x0_16 x0_17 x0_18 x0_22 x0_23 x0_24 x0_25z1 x0_26z92 x0_27 x0_28 x0_30 x0_30 v93 (1 : Int32) x0_36 x0_39 x0_40 x0_44 x0_49 x0_51 x0_53 x0_54z1 x0_55z1 x0_56z1 x0_57z1 x0_58z1 x0_59 x0_60 x0_61 x0_62 y1 y2 y3 y4 y5 y6 y7 y8 y9 y10 y11 y12 y13 y14 y15 y16 y17 y18 y19 y20 y21 y22 y23 y24 y25) := hD
      refine lv_iconst (v := 0) hx hb d_X_readEnd_47 (by decide) ?_
      refine lv_istore_n (lv' := [(3, .int (0 : Int32)), (1, .long rz2), (0, .ref p0)]) hx hb d_X_readEnd_48 rfl hl (by decide) rfl (fun ls hl => ?_)
      have CUT49 : ∀ (n : Nat) (g49l3 : Int32) (g49x0_26 : Int32) (g49x0_30 : Int32) (g49x0_44 : Int32) (g49y13 : Nat → Int64) (g49y16 : Nat → Int32) (g49y17 : Nat → Int32) (g49y18 : Nat → Int32) (g49y24 : Nat → Int64) (H : Heap) (locs : List Loc) (ls : Array Slot), (x0_51.toInt - g49l3.toInt) < (n : Int) → (0 ≤ g49l3.toInt ∧ g49l3.toInt ≤ 110) → (0 ≤ g49x0_26.toInt ∧ g49x0_26.toInt ≤ 6) → ((-1073741823) ≤ g49x0_30.toInt ∧ g49x0_30.toInt ≤ 1073741823) → (0 ≤ g49x0_44.toInt ∧ g49x0_44.toInt ≤ 4200) → (∀ i : Nat, (-1073741823 ≤ (g49y13 i).toInt ∧ (g49y13 i).toInt ≤ 1073741823)) → (∀ i : Nat, (0 ≤ (g49y16 i).toInt ∧ (g49y16 i).toInt ≤ 3999)) → (∀ i : Nat, (0 ≤ (g49y17 i).toInt ∧ (g49y17 i).toInt ≤ 1)) → (∀ i : Nat, (0 ≤ (g49y18 i).toInt ∧ (g49y18 i).toInt ≤ 1073741823)) → (∀ i : Nat, (-1073741824 ≤ (g49y24 i).toInt ∧ (g49y24 i).toInt ≤ 1073741823)) → (g49l3.toInt ≤ x0_51.toInt) → (LX y19 g49y18 x0_49.toInt g49x0_44.toInt) → (g49x0_44.toInt ≤ 4000 + g49l3.toInt) → (1 ≤ x0_26.toInt → 1 ≤ g49x0_26.toInt) → (g49x0_26.toInt = 0 → (0 ≤ v93.toInt ∧ v93.toInt ≤ 3999)) → va_P D classes (wS50 cI cJ cZ cB p0 p1 p2 p3 p4 p5 p6 p7 p8 p9 p10 p11 p12 p13 p14 p15 p16 p17 p18 p19 p20 p21 p22 p23 p24 p25 x0_4 x0_5 x0_6 x0_7 x0_8 x0_12 x0_13 x0_14 x0_15 x0_16 x0_17 x0_18 x0_22 x0_23 x0_24 x0_25z1 g49x0_26 x0_27 x0_28 x0_30 g49x0_30 v93 (1 : Int32) x0_36 x0_39 x0_40 g49x0_44 x0_49 x0_51 x0_53 x0_54z1 x0_55z1 x0_56z1 x0_57z1 x0_58z1 x0_59 x0_60 x0_61 x0_62 y1 y2 y3 y4 y5 y6 y7 y8 y9 y10 y11 y12 g49y13 y14 y15 g49y16 g49y17 g49y18 y19 y20 y21 y22 y23 g49y24 y25) H → va_D A (wS50 cI cJ cZ cB p0 p1 p2 p3 p4 p5 p6 p7 p8 p9 p10 p11 p12 p13 p14 p15 p16 p17 p18 p19 p20 p21 p22 p23 p24 p25 x0_4 x0_5 x0_6 x0_7 x0_8 x0_12 x0_13 x0_14 x0_15 x0_16 x0_17 x0_18 x0_22 x0_23 x0_24 x0_25z1 g49x0_26 x0_27 x0_28 x0_30 g49x0_30 v93 (1 : Int32) x0_36 x0_39 x0_40 g49x0_44 x0_49 x0_51 x0_53 x0_54z1 x0_55z1 x0_56z1 x0_57z1 x0_58z1 x0_59 x0_60 x0_61 x0_62 y1 y2 y3 y4 y5 y6 y7 y8 y9 y10 y11 y12 g49y13 y14 y15 g49y16 g49y17 g49y18 y19 y20 y21 y22 y23 g49y24 y25) → va_S A s.heap H locs → lv_has ls 7 [(3, .int g49l3), (1, .long rz2), (0, .ref p0)] → W p l e ({ frames := 7, cells := 0, slots := 0, locals := 166 }) s m [.ref p0].toArray below meth c H locs 0 0 (MQ below (va_Qv (fun (_ : Unit) => True) (fun _ t => ∃ u_x0_25 : Int32, ∃ u_x0_26 : Int32, ∃ u_x0_29 : Int32, ∃ u_x0_30 : Int32, ∃ u_x0_31 : Int32, ∃ u_x0_32 : Int32, ∃ u_x0_44 : Int32, ∃ u_x0_54 : Int32, ∃ u_x0_55 : Int64, ∃ u_x0_56 : Int32, ∃ u_x0_57 : Int32, ∃ u_x0_58 : Int32, ∃ u_y13 : Nat → Int64, ∃ u_y16 : Nat → Int32, ∃ u_y17 : Nat → Int32, ∃ u_y18 : Nat → Int32, ∃ u_y24 : Nat → Int64, (0 ≤ u_x0_25.toInt ∧ u_x0_25.toInt ≤ 4000) ∧ (0 ≤ u_x0_26.toInt ∧ u_x0_26.toInt ≤ 6) ∧ ((-1073741823) ≤ u_x0_30.toInt ∧ u_x0_30.toInt ≤ 1073741823) ∧ (0 ≤ u_x0_32.toInt ∧ u_x0_32.toInt ≤ 1) ∧ (0 ≤ u_x0_44.toInt ∧ u_x0_44.toInt ≤ 4200) ∧ (0 ≤ u_x0_54.toInt ∧ u_x0_54.toInt ≤ 3) ∧ (0 ≤ u_x0_57.toInt ∧ u_x0_57.toInt ≤ 1) ∧ (0 ≤ u_x0_58.toInt ∧ u_x0_58.toInt ≤ 1073741823) ∧ (∀ i : Nat, (-1073741823 ≤ (u_y13 i).toInt ∧ (u_y13 i).toInt ≤ 1073741823)) ∧ (∀ i : Nat, (0 ≤ (u_y16 i).toInt ∧ (u_y16 i).toInt ≤ 3999)) ∧ (∀ i : Nat, (0 ≤ (u_y17 i).toInt ∧ (u_y17 i).toInt ≤ 1)) ∧ (∀ i : Nat, (0 ≤ (u_y18 i).toInt ∧ (u_y18 i).toInt ≤ 1073741823)) ∧ (∀ i : Nat, (-1073741824 ≤ (u_y24 i).toInt ∧ (u_y24 i).toInt ≤ 1073741823)) ∧ (LX y19 u_y18 x0_49.toInt u_x0_44.toInt) ∧ (1 ≤ x0_26.toInt → 1 ≤ u_x0_26.toInt) ∧ (u_x0_26.toInt = 0 → (0 ≤ u_x0_31.toInt ∧ u_x0_31.toInt ≤ 3999)) ∧ (u_x0_44.toInt ≤ 4110) ∧ (u_x0_32.toInt = 1) ∧ va_P D classes (wS50 cI cJ cZ cB p0 p1 p2 p3 p4 p5 p6 p7 p8 p9 p10 p11 p12 p13 p14 p15 p16 p17 p18 p19 p20 p21 p22 p23 p24 p25 x0_4 x0_5 x0_6 x0_7 x0_8 x0_12 x0_13 x0_14 x0_15 x0_16 x0_17 x0_18 x0_22 x0_23 x0_24 u_x0_25 u_x0_26 x0_27 x0_28 u_x0_29 u_x0_30 u_x0_31 u_x0_32 x0_36 x0_39 x0_40 u_x0_44 x0_49 x0_51 x0_53 u_x0_54 u_x0_55 u_x0_56 u_x0_57 u_x0_58 x0_59 x0_60 x0_61 x0_62 y1 y2 y3 y4 y5 y6 y7 y8 y9 y10 y11 y12 u_y13 y14 y15 u_y16 u_y17 u_y18 y19 y20 y21 y22 y23 u_y24 y25) t.heap ∧ va_D A (wS50 cI cJ cZ cB p0 p1 p2 p3 p4 p5 p6 p7 p8 p9 p10 p11 p12 p13 p14 p15 p16 p17 p18 p19 p20 p21 p22 p23 p24 p25 x0_4 x0_5 x0_6 x0_7 x0_8 x0_12 x0_13 x0_14 x0_15 x0_16 x0_17 x0_18 x0_22 x0_23 x0_24 u_x0_25 u_x0_26 x0_27 x0_28 u_x0_29 u_x0_30 u_x0_31 u_x0_32 x0_36 x0_39 x0_40 u_x0_44 x0_49 x0_51 x0_53 u_x0_54 u_x0_55 u_x0_56 u_x0_57 u_x0_58 x0_59 x0_60 x0_61 x0_62 y1 y2 y3 y4 y5 y6 y7 y8 y9 y10 y11 y12 u_y13 y14 y15 u_y16 u_y17 u_y18 y19 y20 y21 y22 y23 u_y24 y25)) A) [.ref p0].toArray s 0 0 A) (F0 m 49 ls []) := by
        intro n
        induction n with
        | zero => intro g49l3 g49x0_26 g49x0_30 g49x0_44 g49y13 g49y16 g49y17 g49y18 g49y24 H locs ls hn49 Rg49l3 Rg49x0_26 Rg49x0_30 Rg49x0_44 Ag49y13 Ag49y16 Ag49y17 Ag49y18 Ag49y24 I49_0 I49_1 I49_2 I49_3 I49_4 hP hD hS hl; exfalso; omega
        | succ n ih49 =>
          intro g49l3 g49x0_26 g49x0_30 g49x0_44 g49y13 g49y16 g49y17 g49y18 g49y24 H locs ls hn49 Rg49l3 Rg49x0_26 Rg49x0_30 Rg49x0_44 Ag49y13 Ag49y16 Ag49y17 Ag49y18 Ag49y24 I49_0 I49_1 I49_2 I49_3 I49_4 hP hD hS hl
          refine lv_iload_n hx hb d_X_readEnd_49 rfl (lv_at hl 0 rfl) ?_
          refine lv_aload_n hx hb d_X_readEnd_50 rfl (lv_at hl 2 rfl) ?_
          refine va_get (D := D) (ci := 7) (v := .int x0_51) (C := "SignMachineModel") (T := F_X) (N := 64) hx hb hk fi_X hown hK.1 hP 0 rfl rfl 51 (by decide) (hk _ k_1172) (fun _ h9 => h9) rfl d_X_readEnd_51 ?_
          refine lv_icmp_ge (tgt := 179) hx hb d_X_readEnd_54 (by decide) (fun c94 => ?_) (fun c94 => ?_)
          · have gc94 : x0_51.toInt ≤ g49l3.toInt := c_le c94
            exact W.vret hx hb hr (fun t ht hW => ⟨⟨(), rfl, trivial, ⟨x0_25z1, g49x0_26, x0_30, g49x0_30, v93, (1 : Int32), g49x0_44, x0_54z1, x0_55z1, x0_56z1, x0_57z1, x0_58z1, g49y13, g49y16, g49y17, g49y18, g49y24, Rx0_25z1, Rg49x0_26, Rg49x0_30, (by decide), Rg49x0_44, Rx0_54z1, Rx0_57z1, Rx0_58z1, Ag49y13, Ag49y16, Ag49y17, Ag49y18, Ag49y24, (show LX y19 g49y18 x0_49.toInt g49x0_44.toInt from by first | assumption | exact lx_zero _ _ _), (show 1 ≤ x0_26.toInt → 1 ≤ g49x0_26.toInt from by omega), (show g49x0_26.toInt = 0 → (0 ≤ v93.toInt ∧ v93.toInt ≤ 3999) from by omega), (show g49x0_44.toInt ≤ 4110 from by omega), (show (1 : Int) = 1 from by omega), by show va_P D classes _ t.heap; rw [ht]; exact hP, hD⟩⟩, hS.F ht⟩) hS.2.2 d_X_readEnd_179
          · have gc94 : g49l3.toInt < x0_51.toInt := c_nle c94
            have R95 : 0 ≤ g49l3.toInt ∧ g49l3.toInt ≤ 109 := rf_ltX Rg49l3 Rx0_51 gc94 (by decide) (by decide)
            have R96 : 1 ≤ x0_51.toInt ∧ x0_51.toInt ≤ 110 := rf_ltY Rg49l3 Rx0_51 gc94 (by decide) (by decide)
            refine lv_aload_n hx hb d_X_readEnd_57 rfl (lv_at hl 2 rfl) ?_
            refine va_get (D := D) (ci := 7) (v := .int g49x0_26) (C := "SignMachineModel") (T := F_X) (N := 64) hx hb hk fi_X hown hK.1 hP 0 rfl rfl 26 (by decide) (hk _ k_1147) (fun _ h9 => h9) rfl d_X_readEnd_58 ?_
            refine lv_if_ne (tgt := 179) hx hb d_X_readEnd_61 (by decide) (fun c97 => ?_) (fun c97 => ?_)
            · have gc97 : g49x0_26.toInt ≠ (0 : Int) := c_ne c97
              have R98 : 1 ≤ g49x0_26.toInt ∧ g49x0_26.toInt ≤ 6 := rf_neX Rg49x0_26 (show 0 ≤ (0 : Int) ∧ (0 : Int) ≤ 0 from by decide) gc97 (by decide) (by decide)
              exact W.vret hx hb hr (fun t ht hW => ⟨⟨(), rfl, trivial, ⟨x0_25z1, g49x0_26, x0_30, g49x0_30, v93, (1 : Int32), g49x0_44, x0_54z1, x0_55z1, x0_56z1, x0_57z1, x0_58z1, g49y13, g49y16, g49y17, g49y18, g49y24, Rx0_25z1, (rgw R98 (by decide) (by decide)), Rg49x0_30, (by decide), Rg49x0_44, Rx0_54z1, Rx0_57z1, Rx0_58z1, Ag49y13, Ag49y16, Ag49y17, Ag49y18, Ag49y24, (show LX y19 g49y18 x0_49.toInt g49x0_44.toInt from by first | assumption | exact lx_zero _ _ _), (show 1 ≤ x0_26.toInt → 1 ≤ g49x0_26.toInt from by omega), (show g49x0_26.toInt = 0 → (0 ≤ v93.toInt ∧ v93.toInt ≤ 3999) from by omega), (show g49x0_44.toInt ≤ 4110 from by omega), (show (1 : Int) = 1 from by omega), by show va_P D classes _ t.heap; rw [ht]; exact hP, hD⟩⟩, hS.F ht⟩) hS.2.2 d_X_readEnd_179
            · have gc97 : g49x0_26.toInt = (0 : Int) := c_eq c97
              have R99 : 0 ≤ g49x0_26.toInt ∧ g49x0_26.toInt ≤ 0 := rf_eqX Rg49x0_26 (show 0 ≤ (0 : Int) ∧ (0 : Int) ≤ 0 from by decide) gc97 (by decide) (by decide)
              refine lv_aload_n hx hb d_X_readEnd_64 rfl (lv_at hl 2 rfl) ?_
              refine va_get (D := D) (ci := 7) (v := .ref p23) (C := "SignMachineModel") (T := F_X) (N := 64) hx hb hk fi_X hown hK.1 hP 0 rfl rfl 50 (by decide) (hk _ k_1171) (fun _ h9 => h9) rfl d_X_readEnd_65 ?_
              refine lv_iload_n hx hb d_X_readEnd_68 rfl (lv_at hl 0 rfl) ?_
              refine va_iald hx hb hK.1 hP 23 0 rfl rfl (vpb R95 (by decide) (by decide)) d_X_readEnd_69 ?_
              refine lv_topi (fun v100 hv100 => ?_)
              have Rv100 := Ay23 (g49l3).toNatClampNeg
              rw [← hv100] at Rv100
              obtain ⟨Rv100, Xv100⟩ := Rv100
              refine lv_istore (lv' := [(4, .int v100), (3, .int g49l3), (1, .long rz2), (0, .ref p0)]) hx hb d_X_readEnd_70 hl (by decide) rfl (fun ls hl => ?_)
              refine lv_iload hx hb d_X_readEnd_72 (lv_at hl 0 rfl) ?_
              refine lv_bipush (v := 100) hx hb d_X_readEnd_74 (by decide) ?_
              refine lv_icmp_lt (tgt := 144) hx hb d_X_readEnd_76 (by decide) (fun c101 => ?_) (fun c101 => ?_)
              · have gc101 : v100.toInt < (100 : Int) := c_lt c101
                have R102 : 0 ≤ v100.toInt ∧ v100.toInt ≤ 99 := rf_ltX Rv100 (show 100 ≤ (100 : Int) ∧ (100 : Int) ≤ 100 from by decide) gc101 (by decide) (by decide)
                refine lv_aload_n hx hb d_X_readEnd_144 rfl (lv_at hl 3 rfl) ?_
                refine va_get (D := D) (ci := 7) (v := .ref p12) (C := "SignMachineModel") (T := F_X) (N := 64) hx hb hk fi_X hown hK.1 hP 0 rfl rfl 34 (by decide) (hk _ k_1155) (fun _ h9 => h9) rfl d_X_readEnd_145 ?_
                refine lv_iload hx hb d_X_readEnd_148 (lv_at hl 0 rfl) ?_
                refine va_zald hx hb hK.1 hP 12 2 rfl rfl (by rw [vp_in_iff]; omega) d_X_readEnd_150 ?_
                refine lv_topi (fun v103 hv103 => ?_)
                refine lv_if_ne (tgt := 173) hx hb d_X_readEnd_151 (by decide) (fun c104 => ?_) (fun c104 => ?_)
                · have gc104 : v103.toInt ≠ (0 : Int) := c_ne c104
                  obtain ⟨v105, hv105⟩ : ∃ y : Int32, y = (g49l3 + (1 : Int32)) := ⟨_, rfl⟩
                  obtain ⟨ev105, Rv105⟩ : v105.toInt = g49l3.toInt + 1 ∧ (1 ≤ v105.toInt ∧ v105.toInt ≤ 110) := ad3 hv105 R95 (y := (1 : Int32)) (c := 1) (d := 1) (by decide) (by decide) (by decide) (by decide) (by decide)
                  refine lv_iinc (v := v105) (lv' := [(3, .int v105), (4, .int v100), (1, .long rz2), (0, .ref p0)]) hx hb d_X_readEnd_173 hl (k := 1) rfl (by rw [hv105]; rfl) (by decide) rfl (fun ls hl => ?_)
                  refine lv_goto (tgt := 49) hx hb d_X_readEnd_176 (by decide) ?_
                  exact ih49 v105 g49x0_26 g49x0_30 g49x0_44 g49y13 g49y16 g49y17 g49y18 g49y24 H _ ls (show x0_51.toInt - v105.toInt < (n : Int) from by omega) (rgw Rv105 (by decide) (by decide)) (rgw R99 (by decide) (by decide)) Rg49x0_30 Rg49x0_44 Ag49y13 Ag49y16 Ag49y17 Ag49y18 Ag49y24 (show v105.toInt ≤ x0_51.toInt from by omega) (show LX y19 g49y18 x0_49.toInt g49x0_44.toInt from by first | assumption | exact lx_zero _ _ _) (show g49x0_44.toInt ≤ 4000 + v105.toInt from by omega) (show 1 ≤ x0_26.toInt → 1 ≤ g49x0_26.toInt from by omega) (show g49x0_26.toInt = 0 → (0 ≤ v93.toInt ∧ v93.toInt ≤ 3999) from by omega) hP hD hS (lv_sub hl [0, 2, 3] rfl)
                · have gc104 : v103.toInt = (0 : Int) := c_eq c104
                  have R106 : 0 ≤ v103.toInt ∧ v103.toInt ≤ 0 := rf_eqX (fr3 v103) (show 0 ≤ (0 : Int) ∧ (0 : Int) ≤ 0 from by decide) gc104 (by decide) (by decide)
                  refine lv_aload_n hx hb d_X_readEnd_154 rfl (lv_at hl 3 rfl) ?_
                  refine va_get (D := D) (ci := 7) (v := .ref p13) (C := "SignMachineModel") (T := F_X) (N := 64) hx hb hk fi_X hown hK.1 hP 0 rfl rfl 35 (by decide) (hk _ k_1156) (fun _ h9 => h9) rfl d_X_readEnd_155 ?_
                  refine lv_iload hx hb d_X_readEnd_158 (lv_at hl 0 rfl) ?_
                  refine lv_aload_n hx hb d_X_readEnd_160 rfl (lv_at hl 3 rfl) ?_
                  refine va_get (D := D) (ci := 7) (v := .int g49x0_30) (C := "SignMachineModel") (T := F_X) (N := 64) hx hb hk fi_X hown hK.1 hP 0 rfl rfl 30 (by decide) (hk _ k_1151) (fun _ h9 => h9) rfl d_X_readEnd_161 ?_
                  refine lv_i2l (v := (g49x0_30 : Int32).toInt64) hx hb d_X_readEnd_164 rfl ?_
                  refine lv_topl (fun v107 hv107 => ?_)
                  obtain ⟨ev107, Rv107⟩ : v107.toInt = g49x0_30.toInt ∧ ((-1073741823) ≤ v107.toInt ∧ v107.toInt ≤ 1073741823) := il3 hv107 Rg49x0_30
                  refine va_last hx hb hK.1 hP hD hS 13 1 rfl rfl (by rw [vp_in_iff]; omega) d_X_readEnd_165 (fun H locs hP hD hS => ?_)
                  have hP : va_P D classes (wS50 cI cJ cZ cB p0 p1 p2 p3 p4 p5 p6 p7 p8 p9 p10 p11 p12 p13 p14 p15 p16 p17 p18 p19 p20 p21 p22 p23 p24 p25 x0_4 x0_5 x0_6 x0_7 x0_8 x0_12 x0_13 x0_14 x0_15 x0_16 x0_17 x0_18 x0_22 x0_23 x0_24 x0_25z1 g49x0_26 x0_27 x0_28 x0_30 g49x0_30 v93 (1 : Int32) x0_36 x0_39 x0_40 g49x0_44 x0_49 x0_51 x0_53 x0_54z1 x0_55z1 x0_56z1 x0_57z1 x0_58z1 x0_59 x0_60 x0_61 x0_62 y1 y2 y3 y4 y5 y6 y7 y8 y9 y10 y11 y12 (vp_updL g49y13 (v100).toNatClampNeg v107) y14 y15 g49y16 g49y17 g49y18 y19 y20 y21 y22 y23 g49y24 y25) H := hP
                  have hD : va_D A (wS50 cI cJ cZ cB p0 p1 p2 p3 p4 p5 p6 p7 p8 p9 p10 p11 p12 p13 p14 p15 p16 p17 p18 p19 p20 p21 p22 p23 p24 p25 x0_4 x0_5 x0_6 x0_7 x0_8 x0_12 x0_13 x0_14 x0_15 x0_16 x0_17 x0_18 x0_22 x0_23 x0_24 x0_25z1 g49x0_26 x0_27 x0_28 x0_30 g49x0_30 v93 (1 : Int32) x0_36 x0_39 x0_40 g49x0_44 x0_49 x0_51 x0_53 x0_54z1 x0_55z1 x0_56z1 x0_57z1 x0_58z1 x0_59 x0_60 x0_61 x0_62 y1 y2 y3 y4 y5 y6 y7 y8 y9 y10 y11 y12 (vp_updL g49y13 (v100).toNatClampNeg v107) y14 y15 g49y16 g49y17 g49y18 y19 y20 y21 y22 y23 g49y24 y25) := hD
                  obtain ⟨v108, hv108⟩ : ∃ y : Nat → Int64, y = (vp_updL g49y13 (v100).toNatClampNeg v107) := ⟨_, rfl⟩
                  rw [← hv108] at hP hD
                  have Gv108 : (-1073741823 ≤ (v107).toInt ∧ (v107).toInt ≤ 1073741823) := Rv107
                  have Av108 : ∀ i : Nat, (-1073741823 ≤ (v108 i).toInt ∧ (v108 i).toInt ≤ 1073741823) := by rw [hv108]; exact updL_all (P := fun i x => (-1073741823 ≤ (x).toInt ∧ (x).toInt ≤ 1073741823)) Ag49y13 Gv108
                  clear hv108
                  refine lv_aload_n hx hb d_X_readEnd_166 rfl (lv_at hl 3 rfl) ?_
                  refine lv_iconst (v := 0) hx hb d_X_readEnd_167 (by decide) ?_
                  refine lv_iconst (v := 0) hx hb d_X_readEnd_168 (by decide) ?_
                  refine sn_i (va_runV (C := "SignMachineModel") (As := [.int (0 : Int32), .int (0 : Int32)]) (rest := []) ⟨hx, hb, hml, hown, hk⟩ (c_X_comes l D cI cJ cZ cB p0 p1 p2 p3 p4 p5 p6 p7 p8 p9 p10 p11 p12 p13 p14 p15 p16 p17 p18 p19 p20 p21 p22 p23 p24 p25 H.size x0_4 x0_5 x0_6 x0_7 x0_8 x0_12 x0_13 x0_14 x0_15 x0_16 x0_17 x0_18 x0_22 x0_23 x0_24 x0_25z1 g49x0_26 x0_27 x0_28 x0_30 g49x0_30 v93 (1 : Int32) x0_36 x0_39 x0_40 g49x0_44 x0_49 x0_51 x0_53 x0_54z1 x0_55z1 x0_56z1 x0_57z1 x0_58z1 x0_59 x0_60 x0_61 x0_62 y1 y2 y3 y4 y5 y6 y7 y8 y9 y10 y11 y12 v108 y14 y15 g49y16 g49y17 g49y18 y19 y20 y21 y22 y23 g49y24 y25 (0 : Int32) (0 : Int32) (rgw R99 (by decide) (by decide)) Rg49x0_30 Rg49x0_44 Rx0_49 Ag49y16 Ag49y17 Ag49y18 Ay19 (show g49x0_44.toInt ≤ 4150 from by omega) (show LX y19 g49y18 x0_49.toInt g49x0_44.toInt from by first | assumption | exact lx_zero _ _ _) (by decide) (by decide)) (v_X_comes hk k_1641 ⟨Nat.le_of_ble_eq_true rfl, Nat.le_of_ble_eq_true rfl⟩) (pM_v hK hP hD (ci := 7) (q0 := 0) rfl rfl rfl) rfl rfl hl.1 rfl (lv_room (Nat.le_of_ble_eq_true rfl)) d_X_readEnd_169 ⟨Nat.le_of_ble_eq_true rfl, Nat.le_of_ble_eq_true rfl⟩) hS hA hD (fun rz109 u t H locs hr0 ht hB hFr hS => ?_)
                  subst hr0
                  obtain ⟨x0_26z109, x0_30z109, x0_44z109, y16z109, y17z109, y18z109, Rx0_26z109, Rx0_30z109, Rx0_44z109, Ay16z109, Ay17z109, Ay18z109, F0z109, F1z109, F2z109, F3z109, F4z109, F5z109, hP, hD⟩ := hB
                  have F0z109 : 0 ≤ rz109.toInt ∧ rz109.toInt ≤ 4199 := F0z109
                  have F1z109 : 1 ≤ g49x0_26.toInt → 1 ≤ x0_26z109.toInt := F1z109
                  have F2z109 : g49x0_44.toInt ≤ x0_44z109.toInt := F2z109
                  have F3z109 : x0_44z109.toInt ≤ g49x0_44.toInt + 1 := F3z109
                  have F4z109 : x0_26z109.toInt = 0 → (x0_44z109.toInt = g49x0_44.toInt + 1 ∧ rz109.toInt = g49x0_44.toInt ∧ (y18z109 (rz109).toNatClampNeg).toInt = (0 : Int)) := F4z109
                  have F5z109 : LX y19 y18z109 x0_49.toInt x0_44z109.toInt := F5z109
                  rw [ht] at hP
                  have hD := dwk hD hFr
                  clear ht hFr
                  have hP : va_P D classes (wS50 cI cJ cZ cB p0 p1 p2 p3 p4 p5 p6 p7 p8 p9 p10 p11 p12 p13 p14 p15 p16 p17 p18 p19 p20 p21 p22 p23 p24 p25 x0_4 x0_5 x0_6 x0_7 x0_8 x0_12 x0_13 x0_14 x0_15 x0_16 x0_17 x0_18 x0_22 x0_23 x0_24 x0_25z1 x0_26z109 x0_27 x0_28 x0_30 x0_30z109 v93 (1 : Int32) x0_36 x0_39 x0_40 x0_44z109 x0_49 x0_51 x0_53 x0_54z1 x0_55z1 x0_56z1 x0_57z1 x0_58z1 x0_59 x0_60 x0_61 x0_62 y1 y2 y3 y4 y5 y6 y7 y8 y9 y10 y11 y12 v108 y14 y15 y16z109 y17z109 y18z109 y19 y20 y21 y22 y23 g49y24 y25) H := hP
                  have hD : va_D A (wS50 cI cJ cZ cB p0 p1 p2 p3 p4 p5 p6 p7 p8 p9 p10 p11 p12 p13 p14 p15 p16 p17 p18 p19 p20 p21 p22 p23 p24 p25 x0_4 x0_5 x0_6 x0_7 x0_8 x0_12 x0_13 x0_14 x0_15 x0_16 x0_17 x0_18 x0_22 x0_23 x0_24 x0_25z1 x0_26z109 x0_27 x0_28 x0_30 x0_30z109 v93 (1 : Int32) x0_36 x0_39 x0_40 x0_44z109 x0_49 x0_51 x0_53 x0_54z1 x0_55z1 x0_56z1 x0_57z1 x0_58z1 x0_59 x0_60 x0_61 x0_62 y1 y2 y3 y4 y5 y6 y7 y8 y9 y10 y11 y12 v108 y14 y15 y16z109 y17z109 y18z109 y19 y20 y21 y22 y23 g49y24 y25) := hD
                  refine lv_pop hx hb d_X_readEnd_172 rfl ?_
                  obtain ⟨v110, hv110⟩ : ∃ y : Int32, y = (g49l3 + (1 : Int32)) := ⟨_, rfl⟩
                  obtain ⟨ev110, Rv110⟩ : v110.toInt = g49l3.toInt + 1 ∧ (1 ≤ v110.toInt ∧ v110.toInt ≤ 110) := ad3 hv110 R95 (y := (1 : Int32)) (c := 1) (d := 1) (by decide) (by decide) (by decide) (by decide) (by decide)
                  refine lv_iinc (v := v110) (lv' := [(3, .int v110), (4, .int v100), (1, .long rz2), (0, .ref p0)]) hx hb d_X_readEnd_173 hl (k := 1) rfl (by rw [hv110]; rfl) (by decide) rfl (fun ls hl => ?_)
                  refine lv_goto (tgt := 49) hx hb d_X_readEnd_176 (by decide) ?_
                  exact ih49 v110 x0_26z109 x0_30z109 x0_44z109 v108 y16z109 y17z109 y18z109 g49y24 H _ ls (show x0_51.toInt - v110.toInt < (n : Int) from by omega) (rgw Rv110 (by decide) (by decide)) Rx0_26z109 Rx0_30z109 Rx0_44z109 Av108 Ay16z109 Ay17z109 Ay18z109 Ag49y24 (show v110.toInt ≤ x0_51.toInt from by omega) (show LX y19 y18z109 x0_49.toInt x0_44z109.toInt from by first | assumption | exact lx_zero _ _ _) (show x0_44z109.toInt ≤ 4000 + v110.toInt from by omega) (show 1 ≤ x0_26.toInt → 1 ≤ x0_26z109.toInt from by omega) (show x0_26z109.toInt = 0 → (0 ≤ v93.toInt ∧ v93.toInt ≤ 3999) from by omega) hP hD hS (lv_sub hl [0, 2, 3] rfl)
              · have gc101 : (100 : Int) ≤ v100.toInt := c_nlt c101
                have R111 : 100 ≤ v100.toInt ∧ v100.toInt ≤ 139 := rf_geX Rv100 (show 100 ≤ (100 : Int) ∧ (100 : Int) ≤ 100 from by decide) gc101 (by decide) (by decide)
                refine lv_aload_n hx hb d_X_readEnd_79 rfl (lv_at hl 3 rfl) ?_
                refine va_get (D := D) (ci := 7) (v := .ref p24) (C := "SignMachineModel") (T := F_X) (N := 64) hx hb hk fi_X hown hK.1 hP 0 rfl rfl 52 (by decide) (hk _ k_1173) (fun _ h9 => h9) rfl d_X_readEnd_80 ?_
                refine lv_iload hx hb d_X_readEnd_83 (lv_at hl 0 rfl) ?_
                refine lv_bipush (v := 100) hx hb d_X_readEnd_85 (by decide) ?_
                refine lv_isub hx hb d_X_readEnd_87 ?_
                refine lv_topi (fun v112 hv112 => ?_)
                obtain ⟨ev112, Rv112⟩ : v112.toInt = v100.toInt - (100 : Int) ∧ (0 ≤ v112.toInt ∧ v112.toInt ≤ 39) := sb3 hv112 R111 (show 100 ≤ (100 : Int32).toInt ∧ (100 : Int32).toInt ≤ 100 from by decide) (by decide) (by decide) (by decide) (by decide)
                refine va_lald hx hb hK.1 hP 24 1 rfl rfl (vpb Rv112 (by decide) (by decide)) d_X_readEnd_88 ?_
                refine lv_topl (fun v113 hv113 => ?_)
                have Rv113 := Ag49y24 (v112).toNatClampNeg
                rw [← hv113] at Rv113
                refine lv_lstore (lv' := [(5, .long v113), (4, .int v100), (3, .int g49l3), (1, .long rz2), (0, .ref p0)]) hx hb d_X_readEnd_89 hl (by decide) rfl (fun ls hl => ?_)
                refine lv_aload_n hx hb d_X_readEnd_91 rfl (lv_at hl 4 rfl) ?_
                refine va_get (D := D) (ci := 7) (v := .ref p24) (C := "SignMachineModel") (T := F_X) (N := 64) hx hb hk fi_X hown hK.1 hP 0 rfl rfl 52 (by decide) (hk _ k_1173) (fun _ h9 => h9) rfl d_X_readEnd_92 ?_
                refine lv_iload hx hb d_X_readEnd_95 (lv_at hl 1 rfl) ?_
                refine lv_bipush (v := 100) hx hb d_X_readEnd_97 (by decide) ?_
                refine lv_isub hx hb d_X_readEnd_99 ?_
                refine lv_topi (fun v114 hv114 => ?_)
                obtain ⟨ev114, Rv114⟩ : v114.toInt = v100.toInt - (100 : Int) ∧ (0 ≤ v114.toInt ∧ v114.toInt ≤ 39) := sb3 hv114 R111 (show 100 ≤ (100 : Int32).toInt ∧ (100 : Int32).toInt ≤ 100 from by decide) (by decide) (by decide) (by decide) (by decide)
                refine lv_aload_n hx hb d_X_readEnd_100 rfl (lv_at hl 4 rfl) ?_
                refine va_get (D := D) (ci := 7) (v := .int g49x0_30) (C := "SignMachineModel") (T := F_X) (N := 64) hx hb hk fi_X hown hK.1 hP 0 rfl rfl 30 (by decide) (hk _ k_1151) (fun _ h9 => h9) rfl d_X_readEnd_101 ?_
                refine lv_i2l (v := (g49x0_30 : Int32).toInt64) hx hb d_X_readEnd_104 rfl ?_
                refine lv_topl (fun v115 hv115 => ?_)
                obtain ⟨ev115, Rv115⟩ : v115.toInt = g49x0_30.toInt ∧ ((-1073741823) ≤ v115.toInt ∧ v115.toInt ≤ 1073741823) := il3 hv115 Rg49x0_30
                refine va_last hx hb hK.1 hP hD hS 24 1 rfl rfl (vpb Rv114 (by decide) (by decide)) d_X_readEnd_105 (fun H locs hP hD hS => ?_)
                have hP : va_P D classes (wS50 cI cJ cZ cB p0 p1 p2 p3 p4 p5 p6 p7 p8 p9 p10 p11 p12 p13 p14 p15 p16 p17 p18 p19 p20 p21 p22 p23 p24 p25 x0_4 x0_5 x0_6 x0_7 x0_8 x0_12 x0_13 x0_14 x0_15 x0_16 x0_17 x0_18 x0_22 x0_23 x0_24 x0_25z1 g49x0_26 x0_27 x0_28 x0_30 g49x0_30 v93 (1 : Int32) x0_36 x0_39 x0_40 g49x0_44 x0_49 x0_51 x0_53 x0_54z1 x0_55z1 x0_56z1 x0_57z1 x0_58z1 x0_59 x0_60 x0_61 x0_62 y1 y2 y3 y4 y5 y6 y7 y8 y9 y10 y11 y12 g49y13 y14 y15 g49y16 g49y17 g49y18 y19 y20 y21 y22 y23 (vp_updL g49y24 (v114).toNatClampNeg v115) y25) H := hP
                have hD : va_D A (wS50 cI cJ cZ cB p0 p1 p2 p3 p4 p5 p6 p7 p8 p9 p10 p11 p12 p13 p14 p15 p16 p17 p18 p19 p20 p21 p22 p23 p24 p25 x0_4 x0_5 x0_6 x0_7 x0_8 x0_12 x0_13 x0_14 x0_15 x0_16 x0_17 x0_18 x0_22 x0_23 x0_24 x0_25z1 g49x0_26 x0_27 x0_28 x0_30 g49x0_30 v93 (1 : Int32) x0_36 x0_39 x0_40 g49x0_44 x0_49 x0_51 x0_53 x0_54z1 x0_55z1 x0_56z1 x0_57z1 x0_58z1 x0_59 x0_60 x0_61 x0_62 y1 y2 y3 y4 y5 y6 y7 y8 y9 y10 y11 y12 g49y13 y14 y15 g49y16 g49y17 g49y18 y19 y20 y21 y22 y23 (vp_updL g49y24 (v114).toNatClampNeg v115) y25) := hD
                obtain ⟨v116, hv116⟩ : ∃ y : Nat → Int64, y = (vp_updL g49y24 (v114).toNatClampNeg v115) := ⟨_, rfl⟩
                rw [← hv116] at hP hD
                have Gv116 : (-1073741824 ≤ (v115).toInt ∧ (v115).toInt ≤ 1073741823) := (rgw Rv115 (by decide) (by decide))
                have Av116 : ∀ i : Nat, (-1073741824 ≤ (v116 i).toInt ∧ (v116 i).toInt ≤ 1073741823) := by rw [hv116]; exact updL_all (P := fun i x => (-1073741824 ≤ (x).toInt ∧ (x).toInt ≤ 1073741823)) Ag49y24 Gv116
                clear hv116
                refine lv_aload_n hx hb d_X_readEnd_106 rfl (lv_at hl 4 rfl) ?_
                refine lv_lload hx hb d_X_readEnd_107 (lv_at hl 0 rfl) ?_
                refine lv_lconst (v := 0) hx hb d_X_readEnd_109 (by decide) ?_
                refine W.lcmp hx hb d_X_readEnd_110 ?_
                refine lv_topi (fun v117 hv117 => ?_)
                refine lv_if_ge (tgt := 118) hx hb d_X_readEnd_111 (by decide) (fun c118 => ?_) (fun c118 => ?_)
                · have gc118 : (0 : Int) ≤ v113.toInt := lc_ge hv117 c118
                  have R119 : 0 ≤ v113.toInt ∧ v113.toInt ≤ 1073741823 := rf_geX Rv113 (show 0 ≤ (0 : Int) ∧ (0 : Int) ≤ 0 from by decide) gc118 (by decide) (by decide)
                  refine lv_iconst (v := 0) hx hb d_X_readEnd_118 (by decide) ?_
                  refine lv_lload hx hb d_X_readEnd_119 (lv_at hl 0 rfl) ?_
                  refine lv_lconst (v := 0) hx hb d_X_readEnd_121 (by decide) ?_
                  refine W.lcmp hx hb d_X_readEnd_122 ?_
                  refine lv_topi (fun v120 hv120 => ?_)
                  refine lv_if_ge (tgt := 134) hx hb d_X_readEnd_123 (by decide) (fun c121 => ?_) (fun c121 => absurd (show (0 : Int32) ≤ v120 from (lcr_ge hv120 (kle (show 0 ≤ (0 : Int) ∧ (0 : Int) ≤ 0 from by decide) R119 (by decide)))) c121)
                  refine lv_lload hx hb d_X_readEnd_134 (lv_at hl 0 rfl) ?_
                  refine lv_l2i (v := (v113 : Int64).toInt32) hx hb d_X_readEnd_136 rfl ?_
                  refine lv_topi (fun v122 hv122 => ?_)
                  obtain ⟨ev122, Rv122⟩ : v122.toInt = v113.toInt ∧ (0 ≤ v122.toInt ∧ v122.toInt ≤ 1073741823) := li3 hv122 R119 (by decide) (by decide)
                  refine sn_i (va_runV (C := "SignMachineModel") (As := [.int (0 : Int32), .int v122]) (rest := []) ⟨hx, hb, hml, hown, hk⟩ (c_X_comes l D cI cJ cZ cB p0 p1 p2 p3 p4 p5 p6 p7 p8 p9 p10 p11 p12 p13 p14 p15 p16 p17 p18 p19 p20 p21 p22 p23 p24 p25 H.size x0_4 x0_5 x0_6 x0_7 x0_8 x0_12 x0_13 x0_14 x0_15 x0_16 x0_17 x0_18 x0_22 x0_23 x0_24 x0_25z1 g49x0_26 x0_27 x0_28 x0_30 g49x0_30 v93 (1 : Int32) x0_36 x0_39 x0_40 g49x0_44 x0_49 x0_51 x0_53 x0_54z1 x0_55z1 x0_56z1 x0_57z1 x0_58z1 x0_59 x0_60 x0_61 x0_62 y1 y2 y3 y4 y5 y6 y7 y8 y9 y10 y11 y12 g49y13 y14 y15 g49y16 g49y17 g49y18 y19 y20 y21 y22 y23 v116 y25 (0 : Int32) v122 (rgw R99 (by decide) (by decide)) Rg49x0_30 Rg49x0_44 Rx0_49 Ag49y16 Ag49y17 Ag49y18 Ay19 (show g49x0_44.toInt ≤ 4150 from by omega) (show LX y19 g49y18 x0_49.toInt g49x0_44.toInt from by first | assumption | exact lx_zero _ _ _) (by decide) Rv122) (v_X_comes hk k_1641 ⟨Nat.le_of_ble_eq_true rfl, Nat.le_of_ble_eq_true rfl⟩) (pM_v hK hP hD (ci := 7) (q0 := 0) rfl rfl rfl) rfl rfl hl.1 rfl (lv_room (Nat.le_of_ble_eq_true rfl)) d_X_readEnd_137 ⟨Nat.le_of_ble_eq_true rfl, Nat.le_of_ble_eq_true rfl⟩) hS hA hD (fun rz123 u t H locs hr0 ht hB hFr hS => ?_)
                  subst hr0
                  obtain ⟨x0_26z123, x0_30z123, x0_44z123, y16z123, y17z123, y18z123, Rx0_26z123, Rx0_30z123, Rx0_44z123, Ay16z123, Ay17z123, Ay18z123, F0z123, F1z123, F2z123, F3z123, F4z123, F5z123, hP, hD⟩ := hB
                  have F0z123 : 0 ≤ rz123.toInt ∧ rz123.toInt ≤ 4199 := F0z123
                  have F1z123 : 1 ≤ g49x0_26.toInt → 1 ≤ x0_26z123.toInt := F1z123
                  have F2z123 : g49x0_44.toInt ≤ x0_44z123.toInt := F2z123
                  have F3z123 : x0_44z123.toInt ≤ g49x0_44.toInt + 1 := F3z123
                  have F4z123 : x0_26z123.toInt = 0 → (x0_44z123.toInt = g49x0_44.toInt + 1 ∧ rz123.toInt = g49x0_44.toInt ∧ (y18z123 (rz123).toNatClampNeg).toInt = v122.toInt) := F4z123
                  have F5z123 : LX y19 y18z123 x0_49.toInt x0_44z123.toInt := F5z123
                  rw [ht] at hP
                  have hD := dwk hD hFr
                  clear ht hFr
                  have hP : va_P D classes (wS50 cI cJ cZ cB p0 p1 p2 p3 p4 p5 p6 p7 p8 p9 p10 p11 p12 p13 p14 p15 p16 p17 p18 p19 p20 p21 p22 p23 p24 p25 x0_4 x0_5 x0_6 x0_7 x0_8 x0_12 x0_13 x0_14 x0_15 x0_16 x0_17 x0_18 x0_22 x0_23 x0_24 x0_25z1 x0_26z123 x0_27 x0_28 x0_30 x0_30z123 v93 (1 : Int32) x0_36 x0_39 x0_40 x0_44z123 x0_49 x0_51 x0_53 x0_54z1 x0_55z1 x0_56z1 x0_57z1 x0_58z1 x0_59 x0_60 x0_61 x0_62 y1 y2 y3 y4 y5 y6 y7 y8 y9 y10 y11 y12 g49y13 y14 y15 y16z123 y17z123 y18z123 y19 y20 y21 y22 y23 v116 y25) H := hP
                  have hD : va_D A (wS50 cI cJ cZ cB p0 p1 p2 p3 p4 p5 p6 p7 p8 p9 p10 p11 p12 p13 p14 p15 p16 p17 p18 p19 p20 p21 p22 p23 p24 p25 x0_4 x0_5 x0_6 x0_7 x0_8 x0_12 x0_13 x0_14 x0_15 x0_16 x0_17 x0_18 x0_22 x0_23 x0_24 x0_25z1 x0_26z123 x0_27 x0_28 x0_30 x0_30z123 v93 (1 : Int32) x0_36 x0_39 x0_40 x0_44z123 x0_49 x0_51 x0_53 x0_54z1 x0_55z1 x0_56z1 x0_57z1 x0_58z1 x0_59 x0_60 x0_61 x0_62 y1 y2 y3 y4 y5 y6 y7 y8 y9 y10 y11 y12 g49y13 y14 y15 y16z123 y17z123 y18z123 y19 y20 y21 y22 y23 v116 y25) := hD
                  refine lv_pop hx hb d_X_readEnd_140 rfl ?_
                  refine lv_goto (tgt := 173) hx hb d_X_readEnd_141 (by decide) ?_
                  obtain ⟨v124, hv124⟩ : ∃ y : Int32, y = (g49l3 + (1 : Int32)) := ⟨_, rfl⟩
                  obtain ⟨ev124, Rv124⟩ : v124.toInt = g49l3.toInt + 1 ∧ (1 ≤ v124.toInt ∧ v124.toInt ≤ 110) := ad3 hv124 R95 (y := (1 : Int32)) (c := 1) (d := 1) (by decide) (by decide) (by decide) (by decide) (by decide)
                  refine lv_iinc (v := v124) (lv' := [(3, .int v124), (5, .long v113), (4, .int v100), (1, .long rz2), (0, .ref p0)]) hx hb d_X_readEnd_173 hl (k := 2) rfl (by rw [hv124]; rfl) (by decide) rfl (fun ls hl => ?_)
                  refine lv_goto (tgt := 49) hx hb d_X_readEnd_176 (by decide) ?_
                  exact ih49 v124 x0_26z123 x0_30z123 x0_44z123 g49y13 y16z123 y17z123 y18z123 v116 H _ ls (show x0_51.toInt - v124.toInt < (n : Int) from by omega) (rgw Rv124 (by decide) (by decide)) Rx0_26z123 Rx0_30z123 Rx0_44z123 Ag49y13 Ay16z123 Ay17z123 Ay18z123 Av116 (show v124.toInt ≤ x0_51.toInt from by omega) (show LX y19 y18z123 x0_49.toInt x0_44z123.toInt from by first | assumption | exact lx_zero _ _ _) (show x0_44z123.toInt ≤ 4000 + v124.toInt from by omega) (show 1 ≤ x0_26.toInt → 1 ≤ x0_26z123.toInt from by omega) (show x0_26z123.toInt = 0 → (0 ≤ v93.toInt ∧ v93.toInt ≤ 3999) from by omega) hP hD hS (lv_sub hl [0, 3, 4] rfl)
                · have gc118 : v113.toInt < (0 : Int) := lc_nge hv117 c118
                  have R125 : (-1073741824) ≤ v113.toInt ∧ v113.toInt ≤ (-1) := rf_ltX Rv113 (show 0 ≤ (0 : Int) ∧ (0 : Int) ≤ 0 from by decide) gc118 (by decide) (by decide)
                  refine lv_iconst (v := 1) hx hb d_X_readEnd_114 (by decide) ?_
                  refine lv_goto (tgt := 119) hx hb d_X_readEnd_115 (by decide) ?_
                  refine lv_lload hx hb d_X_readEnd_119 (lv_at hl 0 rfl) ?_
                  refine lv_lconst (v := 0) hx hb d_X_readEnd_121 (by decide) ?_
                  refine W.lcmp hx hb d_X_readEnd_122 ?_
                  refine lv_topi (fun v126 hv126 => ?_)
                  refine lv_if_ge (tgt := 134) hx hb d_X_readEnd_123 (by decide) (fun c127 => absurd c127 (show ¬ (0 : Int32) ≤ v126 from (lcr_nge hv126 (klt R125 (show 0 ≤ (0 : Int) ∧ (0 : Int) ≤ 0 from by decide) (by decide))))) (fun c127 => ?_)
                  refine lv_lload hx hb d_X_readEnd_126 (lv_at hl 0 rfl) ?_
                  refine lv_lneg hx hb d_X_readEnd_128 ?_
                  refine lv_topl (fun v128 hv128 => ?_)
                  obtain ⟨ev128, Rv128⟩ : v128.toInt = -v113.toInt ∧ (1 ≤ v128.toInt ∧ v128.toInt ≤ 1073741824) := ng6 hv128 R125 (by decide) (by decide) (by decide) (by decide)
                  refine lv_lconst (v := 1) hx hb d_X_readEnd_129 (by decide) ?_
                  refine lv_lsub hx hb d_X_readEnd_130 ?_
                  refine lv_topl (fun v129 hv129 => ?_)
                  obtain ⟨ev129, Rv129⟩ : v129.toInt = v128.toInt - (1 : Int) ∧ (0 ≤ v129.toInt ∧ v129.toInt ≤ 1073741823) := sb6 hv129 Rv128 (show 1 ≤ (1 : Int64).toInt ∧ (1 : Int64).toInt ≤ 1 from by decide) (by decide) (by decide) (by decide) (by decide)
                  refine lv_goto (tgt := 136) hx hb d_X_readEnd_131 (by decide) ?_
                  refine lv_l2i (v := (v129 : Int64).toInt32) hx hb d_X_readEnd_136 rfl ?_
                  refine lv_topi (fun v130 hv130 => ?_)
                  obtain ⟨ev130, Rv130⟩ : v130.toInt = v129.toInt ∧ (0 ≤ v130.toInt ∧ v130.toInt ≤ 1073741823) := li3 hv130 Rv129 (by decide) (by decide)
                  refine sn_i (va_runV (C := "SignMachineModel") (As := [.int (1 : Int32), .int v130]) (rest := []) ⟨hx, hb, hml, hown, hk⟩ (c_X_comes l D cI cJ cZ cB p0 p1 p2 p3 p4 p5 p6 p7 p8 p9 p10 p11 p12 p13 p14 p15 p16 p17 p18 p19 p20 p21 p22 p23 p24 p25 H.size x0_4 x0_5 x0_6 x0_7 x0_8 x0_12 x0_13 x0_14 x0_15 x0_16 x0_17 x0_18 x0_22 x0_23 x0_24 x0_25z1 g49x0_26 x0_27 x0_28 x0_30 g49x0_30 v93 (1 : Int32) x0_36 x0_39 x0_40 g49x0_44 x0_49 x0_51 x0_53 x0_54z1 x0_55z1 x0_56z1 x0_57z1 x0_58z1 x0_59 x0_60 x0_61 x0_62 y1 y2 y3 y4 y5 y6 y7 y8 y9 y10 y11 y12 g49y13 y14 y15 g49y16 g49y17 g49y18 y19 y20 y21 y22 y23 v116 y25 (1 : Int32) v130 (rgw R99 (by decide) (by decide)) Rg49x0_30 Rg49x0_44 Rx0_49 Ag49y16 Ag49y17 Ag49y18 Ay19 (show g49x0_44.toInt ≤ 4150 from by omega) (show LX y19 g49y18 x0_49.toInt g49x0_44.toInt from by first | assumption | exact lx_zero _ _ _) (by decide) Rv130) (v_X_comes hk k_1641 ⟨Nat.le_of_ble_eq_true rfl, Nat.le_of_ble_eq_true rfl⟩) (pM_v hK hP hD (ci := 7) (q0 := 0) rfl rfl rfl) rfl rfl hl.1 rfl (lv_room (Nat.le_of_ble_eq_true rfl)) d_X_readEnd_137 ⟨Nat.le_of_ble_eq_true rfl, Nat.le_of_ble_eq_true rfl⟩) hS hA hD (fun rz131 u t H locs hr0 ht hB hFr hS => ?_)
                  subst hr0
                  obtain ⟨x0_26z131, x0_30z131, x0_44z131, y16z131, y17z131, y18z131, Rx0_26z131, Rx0_30z131, Rx0_44z131, Ay16z131, Ay17z131, Ay18z131, F0z131, F1z131, F2z131, F3z131, F4z131, F5z131, hP, hD⟩ := hB
                  have F0z131 : 0 ≤ rz131.toInt ∧ rz131.toInt ≤ 4199 := F0z131
                  have F1z131 : 1 ≤ g49x0_26.toInt → 1 ≤ x0_26z131.toInt := F1z131
                  have F2z131 : g49x0_44.toInt ≤ x0_44z131.toInt := F2z131
                  have F3z131 : x0_44z131.toInt ≤ g49x0_44.toInt + 1 := F3z131
                  have F4z131 : x0_26z131.toInt = 0 → (x0_44z131.toInt = g49x0_44.toInt + 1 ∧ rz131.toInt = g49x0_44.toInt ∧ (y18z131 (rz131).toNatClampNeg).toInt = v130.toInt) := F4z131
                  have F5z131 : LX y19 y18z131 x0_49.toInt x0_44z131.toInt := F5z131
                  rw [ht] at hP
                  have hD := dwk hD hFr
                  clear ht hFr
                  have hP : va_P D classes (wS50 cI cJ cZ cB p0 p1 p2 p3 p4 p5 p6 p7 p8 p9 p10 p11 p12 p13 p14 p15 p16 p17 p18 p19 p20 p21 p22 p23 p24 p25 x0_4 x0_5 x0_6 x0_7 x0_8 x0_12 x0_13 x0_14 x0_15 x0_16 x0_17 x0_18 x0_22 x0_23 x0_24 x0_25z1 x0_26z131 x0_27 x0_28 x0_30 x0_30z131 v93 (1 : Int32) x0_36 x0_39 x0_40 x0_44z131 x0_49 x0_51 x0_53 x0_54z1 x0_55z1 x0_56z1 x0_57z1 x0_58z1 x0_59 x0_60 x0_61 x0_62 y1 y2 y3 y4 y5 y6 y7 y8 y9 y10 y11 y12 g49y13 y14 y15 y16z131 y17z131 y18z131 y19 y20 y21 y22 y23 v116 y25) H := hP
                  have hD : va_D A (wS50 cI cJ cZ cB p0 p1 p2 p3 p4 p5 p6 p7 p8 p9 p10 p11 p12 p13 p14 p15 p16 p17 p18 p19 p20 p21 p22 p23 p24 p25 x0_4 x0_5 x0_6 x0_7 x0_8 x0_12 x0_13 x0_14 x0_15 x0_16 x0_17 x0_18 x0_22 x0_23 x0_24 x0_25z1 x0_26z131 x0_27 x0_28 x0_30 x0_30z131 v93 (1 : Int32) x0_36 x0_39 x0_40 x0_44z131 x0_49 x0_51 x0_53 x0_54z1 x0_55z1 x0_56z1 x0_57z1 x0_58z1 x0_59 x0_60 x0_61 x0_62 y1 y2 y3 y4 y5 y6 y7 y8 y9 y10 y11 y12 g49y13 y14 y15 y16z131 y17z131 y18z131 y19 y20 y21 y22 y23 v116 y25) := hD
                  refine lv_pop hx hb d_X_readEnd_140 rfl ?_
                  refine lv_goto (tgt := 173) hx hb d_X_readEnd_141 (by decide) ?_
                  obtain ⟨v132, hv132⟩ : ∃ y : Int32, y = (g49l3 + (1 : Int32)) := ⟨_, rfl⟩
                  obtain ⟨ev132, Rv132⟩ : v132.toInt = g49l3.toInt + 1 ∧ (1 ≤ v132.toInt ∧ v132.toInt ≤ 110) := ad3 hv132 R95 (y := (1 : Int32)) (c := 1) (d := 1) (by decide) (by decide) (by decide) (by decide) (by decide)
                  refine lv_iinc (v := v132) (lv' := [(3, .int v132), (5, .long v113), (4, .int v100), (1, .long rz2), (0, .ref p0)]) hx hb d_X_readEnd_173 hl (k := 2) rfl (by rw [hv132]; rfl) (by decide) rfl (fun ls hl => ?_)
                  refine lv_goto (tgt := 49) hx hb d_X_readEnd_176 (by decide) ?_
                  exact ih49 v132 x0_26z131 x0_30z131 x0_44z131 g49y13 y16z131 y17z131 y18z131 v116 H _ ls (show x0_51.toInt - v132.toInt < (n : Int) from by omega) (rgw Rv132 (by decide) (by decide)) Rx0_26z131 Rx0_30z131 Rx0_44z131 Ag49y13 Ay16z131 Ay17z131 Ay18z131 Av116 (show v132.toInt ≤ x0_51.toInt from by omega) (show LX y19 y18z131 x0_49.toInt x0_44z131.toInt from by first | assumption | exact lx_zero _ _ _) (show x0_44z131.toInt ≤ 4000 + v132.toInt from by omega) (show 1 ≤ x0_26.toInt → 1 ≤ x0_26z131.toInt from by omega) (show x0_26z131.toInt = 0 → (0 ≤ v93.toInt ∧ v93.toInt ≤ 3999) from by omega) hP hD hS (lv_sub hl [0, 3, 4] rfl)
      exact CUT49 ((x0_51.toInt - (0 : Int)).toNat + 1) (0 : Int32) x0_26z92 x0_30 x0_44 y13 y16 y17 y18 y24 H _ ls (show (x0_51.toInt - (0 : Int)) < (((x0_51.toInt - (0 : Int)).toNat + 1 : Nat) : Int) from by omega) (by decide) Rx0_26z92 Rx0_30 Rx0_44 Ay13 Ay16 Ay17 Ay18 Ay24 (show (0 : Int) ≤ x0_51.toInt from by omega) (show LX y19 y18 x0_49.toInt x0_44.toInt from by first | assumption | exact lx_zero _ _ _) (show x0_44.toInt ≤ 4000 + (0 : Int) from by omega) (show 1 ≤ x0_26.toInt → 1 ≤ x0_26z92.toInt from by omega) (show x0_26z92.toInt = 0 → (0 ≤ v93.toInt ∧ v93.toInt ≤ 3999) from by omega) hP hD hS (lv_sub hl [0, 1, 2] rfl)
theorem v_X_readEnd {R : Room} {s : State} {args : Array Value} {own : String} {index : Nat} (hk : ∀ w ∈ tb, w.before args s = true) (hl : Cond.methodLink own index y_X_readEnd ∈ tb) (hR : 7 + 1 ≤ R.frames ∧ 8 + (7 + 11) + 166 ≤ R.locals) : CallW R s args own "SignMachineModel" index y_X_readEnd b_X_readEnd 7 none (.code y_X_readEnd b_X_readEnd 7 none :: tb) ({ frames := 7, cells := 0, slots := 0, locals := 166 }) 0 0 0 := mk_v 0 hk k_1686 hl k_1685 k_109 k_119 rfl rfl h_X_readEnd hR

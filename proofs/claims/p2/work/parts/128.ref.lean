set_option maxHeartbeats 8000000 in
set_option maxRecDepth 100000 in
theorem c_X_tellLabel (l : Launch) (D : va_G) (cI cJ cZ cB : ClassId) (p0 p1 p2 p3 p4 p5 p6 p7 p8 p9 p10 p11 p12 p13 p14 p15 p16 p17 p18 p19 p20 p21 p22 p23 p24 p25 : Nat) (sz : Nat) (x0_4 : Int32) (x0_5 : Int32) (x0_6 : Int32) (x0_7 : Int32) (x0_8 : Int32) (x0_12 : Int32) (x0_13 : Int32) (x0_14 : Int32) (x0_15 : Int32) (x0_16 : Int32) (x0_17 : Int32) (x0_18 : Int32) (x0_22 : Int32) (x0_23 : Int32) (x0_24 : Int32) (x0_25 : Int32) (x0_26 : Int32) (x0_27 : Int32) (x0_28 : Int32) (x0_29 : Int32) (x0_30 : Int32) (x0_31 : Int32) (x0_32 : Int32) (x0_36 : Int32) (x0_39 : Int32) (x0_40 : Int64) (x0_44 : Int32) (x0_49 : Int32) (x0_51 : Int32) (x0_53 : Int32) (x0_54 : Int32) (x0_55 : Int64) (x0_56 : Int32) (x0_57 : Int32) (x0_58 : Int32) (x0_59 : Int32) (x0_60 : Int32) (x0_61 : Int32) (x0_62 : Int64) (y1 : Nat → Int32) (y2 : Nat → Int32) (y3 : Nat → Int32) (y4 : Nat → Int32) (y5 : Nat → Int32) (y6 : Nat → Int32) (y7 : Nat → Int32) (y8 : Nat → Int32) (y9 : Nat → Int32) (y10 : Nat → Int32) (y11 : Nat → Int64) (y12 : Nat → Int32) (y13 : Nat → Int64) (y14 : Nat → Int32) (y15 : Nat → Int64) (y16 : Nat → Int32) (y17 : Nat → Int32) (y18 : Nat → Int32) (y19 : Nat → Int32) (y20 : Nat → Int32) (y21 : Nat → Int32) (y22 : Nat → Int32) (y23 : Nat → Int32) (y24 : Nat → Int64) (y25 : Nat → Int64) (a1 : Int64) (Rx0_26 : 0 ≤ x0_26.toInt ∧ x0_26.toInt ≤ 6) (Rx0_36 : 0 ≤ x0_36.toInt ∧ x0_36.toInt ≤ 60) (Rx0_39 : (-1) ≤ x0_39.toInt ∧ x0_39.toInt ≤ 9) (Rx0_40 : (-1073741823) ≤ x0_40.toInt ∧ x0_40.toInt ≤ 1073741823) (Rx0_49 : 0 ≤ x0_49.toInt ∧ x0_49.toInt ≤ 4100) (Rx0_51 : 0 ≤ x0_51.toInt ∧ x0_51.toInt ≤ 110) (Rx0_53 : 0 ≤ x0_53.toInt ∧ x0_53.toInt ≤ 40) (Rx0_61 : 0 ≤ x0_61.toInt ∧ x0_61.toInt ≤ 3) (Ay13 : ∀ i : Nat, (-1073741823 ≤ (y13 i).toInt ∧ (y13 i).toInt ≤ 1073741823)) (Ay21 : ∀ i : Nat, ((-10 ≤ (y21 i).toInt ∧ (y21 i).toInt ≤ 139) ∧ ((y21 i).toInt ≤ 59 ∨ 100 ≤ (y21 i).toInt))) (Ay25 : ∀ i : Nat, (-1073741823 ≤ (y25 i).toInt ∧ (y25 i).toInt ≤ 1073741823)) (Q0 : x0_51.toInt ≤ x0_36.toInt + x0_53.toInt) (Q1 : x0_61.toInt = 3 → (0 ≤ x0_62.toInt ∧ x0_62.toInt ≤ 9)) (Q2 : (-1073741823) ≤ a1.toInt ∧ a1.toInt ≤ 1073741823) : Met l y_X_tellLabel (.code y_X_tellLabel b_X_tellLabel 4 none :: tb) ({ frames := 2, cells := 0, slots := 0, locals := 43 }) (pM D cI cJ cZ cB (wS50 cI cJ cZ cB p0 p1 p2 p3 p4 p5 p6 p7 p8 p9 p10 p11 p12 p13 p14 p15 p16 p17 p18 p19 p20 p21 p22 p23 p24 p25 x0_4 x0_5 x0_6 x0_7 x0_8 x0_12 x0_13 x0_14 x0_15 x0_16 x0_17 x0_18 x0_22 x0_23 x0_24 x0_25 x0_26 x0_27 x0_28 x0_29 x0_30 x0_31 x0_32 x0_36 x0_39 x0_40 x0_44 x0_49 x0_51 x0_53 x0_54 x0_55 x0_56 x0_57 x0_58 x0_59 x0_60 x0_61 x0_62 y1 y2 y3 y4 y5 y6 y7 y8 y9 y10 y11 y12 y13 y14 y15 y16 y17 y18 y19 y20 y21 y22 y23 y24 y25) sz [.ref p0, .long a1]) (va_Qv (fun (_ : Unit) => True) (fun _ t => ∃ u_x0_26 : Int32, ∃ u_x0_36 : Int32, ∃ u_x0_39 : Int32, ∃ u_x0_40 : Int64, ∃ u_y11 : Nat → Int64, ∃ u_y12 : Nat → Int32, ∃ u_y13 : Nat → Int64, ∃ u_y22 : Nat → Int32, ∃ u_y25 : Nat → Int64, (0 ≤ u_x0_26.toInt ∧ u_x0_26.toInt ≤ 6) ∧ (0 ≤ u_x0_36.toInt ∧ u_x0_36.toInt ≤ 60) ∧ ((-1) ≤ u_x0_39.toInt ∧ u_x0_39.toInt ≤ 9) ∧ ((-1073741823) ≤ u_x0_40.toInt ∧ u_x0_40.toInt ≤ 1073741823) ∧ (∀ i : Nat, (-1073741823 ≤ (u_y13 i).toInt ∧ (u_y13 i).toInt ≤ 1073741823)) ∧ (∀ i : Nat, (-1073741823 ≤ (u_y25 i).toInt ∧ (u_y25 i).toInt ≤ 1073741823)) ∧ (x0_51.toInt ≤ u_x0_36.toInt + x0_53.toInt) ∧ (1 ≤ x0_26.toInt → 1 ≤ u_x0_26.toInt) ∧ va_P D classes (wS50 cI cJ cZ cB p0 p1 p2 p3 p4 p5 p6 p7 p8 p9 p10 p11 p12 p13 p14 p15 p16 p17 p18 p19 p20 p21 p22 p23 p24 p25 x0_4 x0_5 x0_6 x0_7 x0_8 x0_12 x0_13 x0_14 x0_15 x0_16 x0_17 x0_18 x0_22 x0_23 x0_24 x0_25 u_x0_26 x0_27 x0_28 x0_29 x0_30 x0_31 x0_32 u_x0_36 u_x0_39 u_x0_40 x0_44 x0_49 x0_51 x0_53 x0_54 x0_55 x0_56 x0_57 x0_58 x0_59 x0_60 x0_61 x0_62 y1 y2 y3 y4 y5 y6 y7 y8 y9 y10 u_y11 u_y12 u_y13 y14 y15 y16 y17 y18 y19 y20 y21 u_y22 y23 y24 u_y25) t.heap ∧ va_D (va_A (wS50 cI cJ cZ cB p0 p1 p2 p3 p4 p5 p6 p7 p8 p9 p10 p11 p12 p13 p14 p15 p16 p17 p18 p19 p20 p21 p22 p23 p24 p25 x0_4 x0_5 x0_6 x0_7 x0_8 x0_12 x0_13 x0_14 x0_15 x0_16 x0_17 x0_18 x0_22 x0_23 x0_24 x0_25 x0_26 x0_27 x0_28 x0_29 x0_30 x0_31 x0_32 x0_36 x0_39 x0_40 x0_44 x0_49 x0_51 x0_53 x0_54 x0_55 x0_56 x0_57 x0_58 x0_59 x0_60 x0_61 x0_62 y1 y2 y3 y4 y5 y6 y7 y8 y9 y10 y11 y12 y13 y14 y15 y16 y17 y18 y19 y20 y21 y22 y23 y24 y25) sz) (wS50 cI cJ cZ cB p0 p1 p2 p3 p4 p5 p6 p7 p8 p9 p10 p11 p12 p13 p14 p15 p16 p17 p18 p19 p20 p21 p22 p23 p24 p25 x0_4 x0_5 x0_6 x0_7 x0_8 x0_12 x0_13 x0_14 x0_15 x0_16 x0_17 x0_18 x0_22 x0_23 x0_24 x0_25 u_x0_26 x0_27 x0_28 x0_29 x0_30 x0_31 x0_32 u_x0_36 u_x0_39 u_x0_40 x0_44 x0_49 x0_51 x0_53 x0_54 x0_55 x0_56 x0_57 x0_58 x0_59 x0_60 x0_61 x0_62 y1 y2 y3 y4 y5 y6 y7 y8 y9 y10 u_y11 u_y12 u_y13 y14 y15 y16 y17 y18 y19 y20 y21 u_y22 y23 y24 u_y25)) (va_A (wS50 cI cJ cZ cB p0 p1 p2 p3 p4 p5 p6 p7 p8 p9 p10 p11 p12 p13 p14 p15 p16 p17 p18 p19 p20 p21 p22 p23 p24 p25 x0_4 x0_5 x0_6 x0_7 x0_8 x0_12 x0_13 x0_14 x0_15 x0_16 x0_17 x0_18 x0_22 x0_23 x0_24 x0_25 x0_26 x0_27 x0_28 x0_29 x0_30 x0_31 x0_32 x0_36 x0_39 x0_40 x0_44 x0_49 x0_51 x0_53 x0_54 x0_55 x0_56 x0_57 x0_58 x0_59 x0_60 x0_61 x0_62 y1 y2 y3 y4 y5 y6 y7 y8 y9 y10 y11 y12 y13 y14 y15 y16 y17 y18 y19 y20 y21 y22 y23 y24 y25) sz)) 0 0 (va_A (wS50 cI cJ cZ cB p0 p1 p2 p3 p4 p5 p6 p7 p8 p9 p10 p11 p12 p13 p14 p15 p16 p17 p18 p19 p20 p21 p22 p23 p24 p25 x0_4 x0_5 x0_6 x0_7 x0_8 x0_12 x0_13 x0_14 x0_15 x0_16 x0_17 x0_18 x0_22 x0_23 x0_24 x0_25 x0_26 x0_27 x0_28 x0_29 x0_30 x0_31 x0_32 x0_36 x0_39 x0_40 x0_44 x0_49 x0_51 x0_53 x0_54 x0_55 x0_56 x0_57 x0_58 x0_59 x0_60 x0_61 x0_62 y1 y2 y3 y4 y5 y6 y7 y8 y9 y10 y11 y12 y13 y14 y15 y16 y17 y18 y19 y20 y21 y22 y23 y24 y25) sz) := by
  refine Met.ofW (cc := b_X_tellLabel) (maxL := 4) (ret := none) (by decide) rfl ?_
  intro p e s m args below meth c s₁ B hml hv
  obtain ⟨rfl, hsz, hK, hP, hD0⟩ := hv
  subst hsz
  have hD := hD0.self (sz := s.heap.size)
  generalize hAe : va_A (wS50 cI cJ cZ cB p0 p1 p2 p3 p4 p5 p6 p7 p8 p9 p10 p11 p12 p13 p14 p15 p16 p17 p18 p19 p20 p21 p22 p23 p24 p25 x0_4 x0_5 x0_6 x0_7 x0_8 x0_12 x0_13 x0_14 x0_15 x0_16 x0_17 x0_18 x0_22 x0_23 x0_24 x0_25 x0_26 x0_27 x0_28 x0_29 x0_30 x0_31 x0_32 x0_36 x0_39 x0_40 x0_44 x0_49 x0_51 x0_53 x0_54 x0_55 x0_56 x0_57 x0_58 x0_59 x0_60 x0_61 x0_62 y1 y2 y3 y4 y5 y6 y7 y8 y9 y10 y11 y12 y13 y14 y15 y16 y17 y18 y19 y20 y21 y22 y23 y24 y25) s.heap.size = A at hD ⊢
  have hA : ∀ q : Nat, s.heap.size ≤ q → A q := fun q h => by rw [← hAe]; exact Or.inr h
  clear hAe hD0
  have hS : va_S A s.heap s.heap [] := va_S.rf
  have hx := B.exec
  have hb := B.bytes
  have hr := B.returns
  have hts := atoms_spec (ws := .code y_X_tellLabel b_X_tellLabel 4 none :: tb) B.pre
  have hk : ∀ w ∈ tb, w.before [.ref p0, .long a1].toArray s = true := fun w h => hts w (List.mem_cons_of_mem _ h)
  have hown : s.vm.findClass "SignMachineModel" = some m.cls := findClass_of_methodNamed B.named
  have hlocks := B.notSynchronized
  have hl := lv_entry ([.ref p0, .long a1]) (n := 4) (Nat.le_of_ble_eq_true rfl)
  rw [lg_entry_eq]
  generalize (lg_sl ([.ref p0, .long a1]) ++ List.replicate (4 - (lg_sl ([.ref p0, .long a1])).length) Slot.unset).toArray = ls at hl ⊢
  have hl : lv_has ls 4 [(0, .ref p0), (1, .long a1)] := hl
  clear hts B
  refine lv_aload_n hx hb d_X_tellLabel_0 rfl (lv_at hl 0 rfl) ?_
  refine va_get (D := D) (ci := 7) (v := .int x0_61) (C := "SignMachineModel") (T := F_X) (N := 64) hx hb hk fi_X hown hK.1 hP 0 rfl rfl 61 (by decide) (hk _ k_1182) (fun _ h9 => h9) rfl d_X_tellLabel_1 ?_
  refine lv_iconst (v := 3) hx hb d_X_tellLabel_4 (by decide) ?_
  refine lv_icmp_ne (tgt := 79) hx hb d_X_tellLabel_5 (by decide) (fun c1 => ?_) (fun c1 => ?_)
  · have gc1 : x0_61.toInt ≠ (3 : Int) := c_ne c1
    have R2 : 0 ≤ x0_61.toInt ∧ x0_61.toInt ≤ 2 := by omega
    refine lv_aload_n hx hb d_X_tellLabel_79 rfl (lv_at hl 0 rfl) ?_
    refine va_get (D := D) (ci := 7) (v := .int x0_61) (C := "SignMachineModel") (T := F_X) (N := 64) hx hb hk fi_X hown hK.1 hP 0 rfl rfl 61 (by decide) (hk _ k_1182) (fun _ h9 => h9) rfl d_X_tellLabel_80 ?_
    refine lv_iconst (v := 2) hx hb d_X_tellLabel_83 (by decide) ?_
    refine lv_icmp_ne (tgt := 156) hx hb d_X_tellLabel_84 (by decide) (fun c3 => ?_) (fun c3 => ?_)
    · have gc3 : x0_61.toInt ≠ (2 : Int) := c_ne c3
      have R4 : 0 ≤ x0_61.toInt ∧ x0_61.toInt ≤ 1 := by omega
      exact W.vret hx hb hr (fun t ht hW => ⟨⟨(), rfl, trivial, ⟨x0_26, x0_36, x0_39, x0_40, y11, y12, y13, y22, y25, Rx0_26, Rx0_36, Rx0_39, Rx0_40, Ay13, Ay25, (show x0_51.toInt ≤ x0_36.toInt + x0_53.toInt from by omega), (show 1 ≤ x0_26.toInt → 1 ≤ x0_26.toInt from by omega), by show va_P D classes _ t.heap; rw [ht]; exact hP, hD⟩⟩, hS.F ht⟩) hS.2.2 d_X_tellLabel_156
    · have gc3 : x0_61.toInt = (2 : Int) := c_eq c3
      have R5 : 2 ≤ x0_61.toInt ∧ x0_61.toInt ≤ 2 := by omega
      refine lv_aload_n hx hb d_X_tellLabel_87 rfl (lv_at hl 0 rfl) ?_
      refine lv_aload_n hx hb d_X_tellLabel_88 rfl (lv_at hl 0 rfl) ?_
      refine va_get (D := D) (ci := 7) (v := .long x0_62) (C := "SignMachineModel") (T := F_X) (N := 64) hx hb hk fi_X hown hK.1 hP 0 rfl rfl 62 (by decide) (hk _ k_1183) (fun _ h9 => h9) rfl d_X_tellLabel_89 ?_
      refine sn_i (va_runV (C := "SignMachineModel") (As := [.long x0_62]) (rest := []) ⟨hx, hb, hml, hown, hk⟩ (c_X_findSymbol l D cI cJ cZ cB p0 p1 p2 p3 p4 p5 p6 p7 p8 p9 p10 p11 p12 p13 p14 p15 p16 p17 p18 p19 p20 p21 p22 p23 p24 p25 s.heap.size x0_4 x0_5 x0_6 x0_7 x0_8 x0_12 x0_13 x0_14 x0_15 x0_16 x0_17 x0_18 x0_22 x0_23 x0_24 x0_25 x0_26 x0_27 x0_28 x0_29 x0_30 x0_31 x0_32 x0_36 x0_39 x0_40 x0_44 x0_49 x0_51 x0_53 x0_54 x0_55 x0_56 x0_57 x0_58 x0_59 x0_60 x0_61 x0_62 y1 y2 y3 y4 y5 y6 y7 y8 y9 y10 y11 y12 y13 y14 y15 y16 y17 y18 y19 y20 y21 y22 y23 y24 y25 x0_62 Rx0_36) (v_X_findSymbol hk k_1626 ⟨Nat.le_of_ble_eq_true rfl, Nat.le_of_ble_eq_true rfl⟩) (pM_v hK hP hD (ci := 7) (q0 := 0) rfl rfl rfl) rfl rfl hl.1 rfl (lv_room (Nat.le_of_ble_eq_true rfl)) d_X_tellLabel_92 ⟨Nat.le_of_ble_eq_true rfl, Nat.le_of_ble_eq_true rfl⟩) hS hA hD (fun rz6 u t H locs hr0 ht hB hFr hS => ?_)
      subst hr0
      obtain ⟨F0z6, F1z6, F2z6, hP, hD⟩ := hB
      have F0z6 : (-2) ≤ rz6.toInt ∧ rz6.toInt ≤ 59 := F0z6
      have F1z6 : rz6.toInt = -2 ∨ (0 ≤ rz6.toInt ∧ rz6.toInt < x0_36.toInt) := F1z6
      have F2z6 : (rz6.toInt = -2 ∧ nsI y11 x0_36.toInt x0_62 = 0) ∨ (rz6.toInt ≠ -2 ∧ nsI y11 x0_36.toInt x0_62 = 1) := F2z6
      rw [ht] at hP
      have hD := dwk hD hFr
      clear ht hFr
      have hP : va_P D classes (wS50 cI cJ cZ cB p0 p1 p2 p3 p4 p5 p6 p7 p8 p9 p10 p11 p12 p13 p14 p15 p16 p17 p18 p19 p20 p21 p22 p23 p24 p25 x0_4 x0_5 x0_6 x0_7 x0_8 x0_12 x0_13 x0_14 x0_15 x0_16 x0_17 x0_18 x0_22 x0_23 x0_24 x0_25 x0_26 x0_27 x0_28 x0_29 x0_30 x0_31 x0_32 x0_36 x0_39 x0_40 x0_44 x0_49 x0_51 x0_53 x0_54 x0_55 x0_56 x0_57 x0_58 x0_59 x0_60 x0_61 x0_62 y1 y2 y3 y4 y5 y6 y7 y8 y9 y10 y11 y12 y13 y14 y15 y16 y17 y18 y19 y20 y21 y22 y23 y24 y25) H := hP
      have hD : va_D A (wS50 cI cJ cZ cB p0 p1 p2 p3 p4 p5 p6 p7 p8 p9 p10 p11 p12 p13 p14 p15 p16 p17 p18 p19 p20 p21 p22 p23 p24 p25 x0_4 x0_5 x0_6 x0_7 x0_8 x0_12 x0_13 x0_14 x0_15 x0_16 x0_17 x0_18 x0_22 x0_23 x0_24 x0_25 x0_26 x0_27 x0_28 x0_29 x0_30 x0_31 x0_32 x0_36 x0_39 x0_40 x0_44 x0_49 x0_51 x0_53 x0_54 x0_55 x0_56 x0_57 x0_58 x0_59 x0_60 x0_61 x0_62 y1 y2 y3 y4 y5 y6 y7 y8 y9 y10 y11 y12 y13 y14 y15 y16 y17 y18 y19 y20 y21 y22 y23 y24 y25) := hD
      refine lv_istore_n (lv' := [(3, .int rz6), (0, .ref p0), (1, .long a1)]) hx hb d_X_tellLabel_95 rfl hl (by decide) rfl (fun ls hl => ?_)
      refine lv_iload_n hx hb d_X_tellLabel_96 rfl (lv_at hl 0 rfl) ?_
      refine lv_bipush (v := (-2)) hx hb d_X_tellLabel_97 (by decide) ?_
      refine lv_icmp_eq (tgt := 117) hx hb d_X_tellLabel_99 (by decide) (fun c7 => ?_) (fun c7 => ?_)
      · have gc7 : rz6.toInt = (-2 : Int) := c_eq c7
        have R8 : (-2) ≤ rz6.toInt ∧ rz6.toInt ≤ (-2) := by omega
        refine lv_iload_n hx hb d_X_tellLabel_117 rfl (lv_at hl 0 rfl) ?_
        refine lv_bipush (v := (-2)) hx hb d_X_tellLabel_118 (by decide) ?_
        refine lv_icmp_ne (tgt := 134) hx hb d_X_tellLabel_120 (by decide) (fun c9 => absurd (show rz6 = (-2 : Int32) from c7) c9) (fun c9 => ?_)
        refine lv_aload_n hx hb d_X_tellLabel_123 rfl (lv_at hl 1 rfl) ?_
        refine lv_aload_n hx hb d_X_tellLabel_124 rfl (lv_at hl 1 rfl) ?_
        refine va_get (D := D) (ci := 7) (v := .long x0_62) (C := "SignMachineModel") (T := F_X) (N := 64) hx hb hk fi_X hown hK.1 hP 0 rfl rfl 62 (by decide) (hk _ k_1183) (fun _ h9 => h9) rfl d_X_tellLabel_125 ?_
        refine sn_i (va_runV (C := "SignMachineModel") (As := [.long x0_62]) (rest := []) ⟨hx, hb, hml, hown, hk⟩ (c_X_newSymbol l D cI cJ cZ cB p0 p1 p2 p3 p4 p5 p6 p7 p8 p9 p10 p11 p12 p13 p14 p15 p16 p17 p18 p19 p20 p21 p22 p23 p24 p25 H.size x0_4 x0_5 x0_6 x0_7 x0_8 x0_12 x0_13 x0_14 x0_15 x0_16 x0_17 x0_18 x0_22 x0_23 x0_24 x0_25 x0_26 x0_27 x0_28 x0_29 x0_30 x0_31 x0_32 x0_36 x0_39 x0_40 x0_44 x0_49 x0_51 x0_53 x0_54 x0_55 x0_56 x0_57 x0_58 x0_59 x0_60 x0_61 x0_62 y1 y2 y3 y4 y5 y6 y7 y8 y9 y10 y11 y12 y13 y14 y15 y16 y17 y18 y19 y20 y21 y22 y23 y24 y25 x0_62 Rx0_26 Rx0_36) (v_X_newSymbol hk k_1630 ⟨Nat.le_of_ble_eq_true rfl, Nat.le_of_ble_eq_true rfl⟩) (pM_v hK hP hD (ci := 7) (q0 := 0) rfl rfl rfl) rfl rfl hl.1 rfl (lv_room (Nat.le_of_ble_eq_true rfl)) d_X_tellLabel_128 ⟨Nat.le_of_ble_eq_true rfl, Nat.le_of_ble_eq_true rfl⟩) hS hA hD (fun rz10 u t H locs hr0 ht hB hFr hS => ?_)
        subst hr0
        obtain ⟨x0_26z10, x0_36z10, y11z10, y12z10, Rx0_26z10, Rx0_36z10, F0z10, F1z10, hP, hD⟩ := hB
        have F0z10 : (-2) ≤ rz10.toInt ∧ rz10.toInt ≤ 59 := F0z10
        have F1z10 : (rz10.toInt = -2 ∧ x0_36z10.toInt = x0_36.toInt ∧ 1 ≤ x0_26z10.toInt) ∨ (rz10.toInt = x0_36.toInt ∧ x0_36z10.toInt = x0_36.toInt + 1 ∧ x0_26z10.toInt = x0_26.toInt) := F1z10
        rw [ht] at hP
        have hD := dwk hD hFr
        clear ht hFr
        have hP : va_P D classes (wS50 cI cJ cZ cB p0 p1 p2 p3 p4 p5 p6 p7 p8 p9 p10 p11 p12 p13 p14 p15 p16 p17 p18 p19 p20 p21 p22 p23 p24 p25 x0_4 x0_5 x0_6 x0_7 x0_8 x0_12 x0_13 x0_14 x0_15 x0_16 x0_17 x0_18 x0_22 x0_23 x0_24 x0_25 x0_26z10 x0_27 x0_28 x0_29 x0_30 x0_31 x0_32 x0_36z10 x0_39 x0_40 x0_44 x0_49 x0_51 x0_53 x0_54 x0_55 x0_56 x0_57 x0_58 x0_59 x0_60 x0_61 x0_62 y1 y2 y3 y4 y5 y6 y7 y8 y9 y10 y11z10 y12z10 y13 y14 y15 y16 y17 y18 y19 y20 y21 y22 y23 y24 y25) H := hP
        have hD : va_D A (wS50 cI cJ cZ cB p0 p1 p2 p3 p4 p5 p6 p7 p8 p9 p10 p11 p12 p13 p14 p15 p16 p17 p18 p19 p20 p21 p22 p23 p24 p25 x0_4 x0_5 x0_6 x0_7 x0_8 x0_12 x0_13 x0_14 x0_15 x0_16 x0_17 x0_18 x0_22 x0_23 x0_24 x0_25 x0_26z10 x0_27 x0_28 x0_29 x0_30 x0_31 x0_32 x0_36z10 x0_39 x0_40 x0_44 x0_49 x0_51 x0_53 x0_54 x0_55 x0_56 x0_57 x0_58 x0_59 x0_60 x0_61 x0_62 y1 y2 y3 y4 y5 y6 y7 y8 y9 y10 y11z10 y12z10 y13 y14 y15 y16 y17 y18 y19 y20 y21 y22 y23 y24 y25) := hD
        refine lv_goto (tgt := 135) hx hb d_X_tellLabel_131 (by decide) ?_
        refine lv_istore_n (lv' := [(3, .int rz10), (0, .ref p0), (1, .long a1)]) hx hb d_X_tellLabel_135 rfl hl (by decide) rfl (fun ls hl => ?_)
        refine lv_iload_n hx hb d_X_tellLabel_136 rfl (lv_at hl 0 rfl) ?_
        refine lv_bipush (v := (-2)) hx hb d_X_tellLabel_137 (by decide) ?_
        refine lv_icmp_eq (tgt := 156) hx hb d_X_tellLabel_139 (by decide) (fun c11 => ?_) (fun c11 => ?_)
        · have gc11 : rz10.toInt = (-2 : Int) := c_eq c11
          have R12 : (-2) ≤ rz10.toInt ∧ rz10.toInt ≤ (-2) := by omega
          exact W.vret hx hb hr (fun t ht hW => ⟨⟨(), rfl, trivial, ⟨x0_26z10, x0_36z10, x0_39, x0_40, y11z10, y12z10, y13, y22, y25, Rx0_26z10, Rx0_36z10, Rx0_39, Rx0_40, Ay13, Ay25, (show x0_51.toInt ≤ x0_36z10.toInt + x0_53.toInt from by omega), (show 1 ≤ x0_26.toInt → 1 ≤ x0_26z10.toInt from by omega), by show va_P D classes _ t.heap; rw [ht]; exact hP, hD⟩⟩, hS.F ht⟩) hS.2.2 d_X_tellLabel_156
        · have gc11 : rz10.toInt ≠ (-2 : Int) := c_ne c11
          have R13 : (-1) ≤ rz10.toInt ∧ rz10.toInt ≤ 59 := by omega
          refine lv_aload_n hx hb d_X_tellLabel_142 rfl (lv_at hl 1 rfl) ?_
          refine va_get (D := D) (ci := 7) (v := .ref p12) (C := "SignMachineModel") (T := F_X) (N := 64) hx hb hk fi_X hown hK.1 hP 0 rfl rfl 34 (by decide) (hk _ k_1155) (fun _ h9 => h9) rfl d_X_tellLabel_143 ?_
          refine lv_iload_n hx hb d_X_tellLabel_146 rfl (lv_at hl 0 rfl) ?_
          refine lv_iconst (v := 1) hx hb d_X_tellLabel_147 (by decide) ?_
          refine va_zast hx hb hK.1 hP hD hS 12 2 rfl rfl (by rw [vp_in_iff]; omega) d_X_tellLabel_148 (fun H locs hP hD hS => ?_)
          have hP : va_P D classes (wS50 cI cJ cZ cB p0 p1 p2 p3 p4 p5 p6 p7 p8 p9 p10 p11 p12 p13 p14 p15 p16 p17 p18 p19 p20 p21 p22 p23 p24 p25 x0_4 x0_5 x0_6 x0_7 x0_8 x0_12 x0_13 x0_14 x0_15 x0_16 x0_17 x0_18 x0_22 x0_23 x0_24 x0_25 x0_26z10 x0_27 x0_28 x0_29 x0_30 x0_31 x0_32 x0_36z10 x0_39 x0_40 x0_44 x0_49 x0_51 x0_53 x0_54 x0_55 x0_56 x0_57 x0_58 x0_59 x0_60 x0_61 x0_62 y1 y2 y3 y4 y5 y6 y7 y8 y9 y10 y11z10 (upd y12z10 (rz10).toNatClampNeg (vp_nar .boolean (1 : Int32))) y13 y14 y15 y16 y17 y18 y19 y20 y21 y22 y23 y24 y25) H := hP
          have hD : va_D A (wS50 cI cJ cZ cB p0 p1 p2 p3 p4 p5 p6 p7 p8 p9 p10 p11 p12 p13 p14 p15 p16 p17 p18 p19 p20 p21 p22 p23 p24 p25 x0_4 x0_5 x0_6 x0_7 x0_8 x0_12 x0_13 x0_14 x0_15 x0_16 x0_17 x0_18 x0_22 x0_23 x0_24 x0_25 x0_26z10 x0_27 x0_28 x0_29 x0_30 x0_31 x0_32 x0_36z10 x0_39 x0_40 x0_44 x0_49 x0_51 x0_53 x0_54 x0_55 x0_56 x0_57 x0_58 x0_59 x0_60 x0_61 x0_62 y1 y2 y3 y4 y5 y6 y7 y8 y9 y10 y11z10 (upd y12z10 (rz10).toNatClampNeg (vp_nar .boolean (1 : Int32))) y13 y14 y15 y16 y17 y18 y19 y20 y21 y22 y23 y24 y25) := hD
          obtain ⟨v14, hv14⟩ : ∃ y : Nat → Int32, y = (upd y12z10 (rz10).toNatClampNeg (vp_nar .boolean (1 : Int32))) := ⟨_, rfl⟩
          rw [← hv14] at hP hD
          clear hv14
          refine lv_aload_n hx hb d_X_tellLabel_149 rfl (lv_at hl 1 rfl) ?_
          refine va_get (D := D) (ci := 7) (v := .ref p13) (C := "SignMachineModel") (T := F_X) (N := 64) hx hb hk fi_X hown hK.1 hP 0 rfl rfl 35 (by decide) (hk _ k_1156) (fun _ h9 => h9) rfl d_X_tellLabel_150 ?_
          refine lv_iload_n hx hb d_X_tellLabel_153 rfl (lv_at hl 0 rfl) ?_
          refine lv_lload_n hx hb d_X_tellLabel_154 rfl (lv_at hl 2 rfl) ?_
          refine va_last hx hb hK.1 hP hD hS 13 1 rfl rfl (by rw [vp_in_iff]; omega) d_X_tellLabel_155 (fun H locs hP hD hS => ?_)
          have hP : va_P D classes (wS50 cI cJ cZ cB p0 p1 p2 p3 p4 p5 p6 p7 p8 p9 p10 p11 p12 p13 p14 p15 p16 p17 p18 p19 p20 p21 p22 p23 p24 p25 x0_4 x0_5 x0_6 x0_7 x0_8 x0_12 x0_13 x0_14 x0_15 x0_16 x0_17 x0_18 x0_22 x0_23 x0_24 x0_25 x0_26z10 x0_27 x0_28 x0_29 x0_30 x0_31 x0_32 x0_36z10 x0_39 x0_40 x0_44 x0_49 x0_51 x0_53 x0_54 x0_55 x0_56 x0_57 x0_58 x0_59 x0_60 x0_61 x0_62 y1 y2 y3 y4 y5 y6 y7 y8 y9 y10 y11z10 v14 (vp_updL y13 (rz10).toNatClampNeg a1) y14 y15 y16 y17 y18 y19 y20 y21 y22 y23 y24 y25) H := hP
          have hD : va_D A (wS50 cI cJ cZ cB p0 p1 p2 p3 p4 p5 p6 p7 p8 p9 p10 p11 p12 p13 p14 p15 p16 p17 p18 p19 p20 p21 p22 p23 p24 p25 x0_4 x0_5 x0_6 x0_7 x0_8 x0_12 x0_13 x0_14 x0_15 x0_16 x0_17 x0_18 x0_22 x0_23 x0_24 x0_25 x0_26z10 x0_27 x0_28 x0_29 x0_30 x0_31 x0_32 x0_36z10 x0_39 x0_40 x0_44 x0_49 x0_51 x0_53 x0_54 x0_55 x0_56 x0_57 x0_58 x0_59 x0_60 x0_61 x0_62 y1 y2 y3 y4 y5 y6 y7 y8 y9 y10 y11z10 v14 (vp_updL y13 (rz10).toNatClampNeg a1) y14 y15 y16 y17 y18 y19 y20 y21 y22 y23 y24 y25) := hD
          obtain ⟨v15, hv15⟩ : ∃ y : Nat → Int64, y = (vp_updL y13 (rz10).toNatClampNeg a1) := ⟨_, rfl⟩
          rw [← hv15] at hP hD
          have Gv15 : (-1073741823 ≤ (a1).toInt ∧ (a1).toInt ≤ 1073741823) := Q2
          have Av15 : ∀ i : Nat, (-1073741823 ≤ (v15 i).toInt ∧ (v15 i).toInt ≤ 1073741823) := by rw [hv15]; exact updL_all (P := fun i x => (-1073741823 ≤ (x).toInt ∧ (x).toInt ≤ 1073741823)) Ay13 Gv15
          clear hv15
          exact W.vret hx hb hr (fun t ht hW => ⟨⟨(), rfl, trivial, ⟨x0_26z10, x0_36z10, x0_39, x0_40, y11z10, v14, v15, y22, y25, Rx0_26z10, Rx0_36z10, Rx0_39, Rx0_40, Av15, Ay25, (show x0_51.toInt ≤ x0_36z10.toInt + x0_53.toInt from by omega), (show 1 ≤ x0_26.toInt → 1 ≤ x0_26z10.toInt from by omega), by show va_P D classes _ t.heap; rw [ht]; exact hP, hD⟩⟩, hS.F ht⟩) hS.2.2 d_X_tellLabel_156
      · have gc7 : rz6.toInt ≠ (-2 : Int) := c_ne c7
        have R16 : (-1) ≤ rz6.toInt ∧ rz6.toInt ≤ 59 := by omega
        refine lv_aload_n hx hb d_X_tellLabel_102 rfl (lv_at hl 1 rfl) ?_
        refine va_get (D := D) (ci := 7) (v := .ref p12) (C := "SignMachineModel") (T := F_X) (N := 64) hx hb hk fi_X hown hK.1 hP 0 rfl rfl 34 (by decide) (hk _ k_1155) (fun _ h9 => h9) rfl d_X_tellLabel_103 ?_
        refine lv_iload_n hx hb d_X_tellLabel_106 rfl (lv_at hl 0 rfl) ?_
        refine va_zald hx hb hK.1 hP 12 2 rfl rfl (by rw [vp_in_iff]; omega) d_X_tellLabel_107 ?_
        refine lv_topi (fun v17 hv17 => ?_)
        refine lv_if_eq (tgt := 117) hx hb d_X_tellLabel_108 (by decide) (fun c18 => ?_) (fun c18 => ?_)
        · have gc18 : v17.toInt = (0 : Int) := c_eq c18
          have R19 : 0 ≤ v17.toInt ∧ v17.toInt ≤ 0 := by have q9 := fr3 v17; omega
          refine lv_iload_n hx hb d_X_tellLabel_117 rfl (lv_at hl 0 rfl) ?_
          refine lv_bipush (v := (-2)) hx hb d_X_tellLabel_118 (by decide) ?_
          refine lv_icmp_ne (tgt := 134) hx hb d_X_tellLabel_120 (by decide) (fun c20 => ?_) (fun c20 => absurd c20 (show ¬ rz6 = (-2 : Int32) from c7))
          refine lv_iload_n hx hb d_X_tellLabel_134 rfl (lv_at hl 0 rfl) ?_
          refine lv_istore_n (lv' := [(3, .int rz6), (0, .ref p0), (1, .long a1)]) hx hb d_X_tellLabel_135 rfl hl (by decide) rfl (fun ls hl => ?_)
          refine lv_iload_n hx hb d_X_tellLabel_136 rfl (lv_at hl 0 rfl) ?_
          refine lv_bipush (v := (-2)) hx hb d_X_tellLabel_137 (by decide) ?_
          refine lv_icmp_eq (tgt := 156) hx hb d_X_tellLabel_139 (by decide) (fun c21 => absurd c21 (show ¬ rz6 = (-2 : Int32) from c7)) (fun c21 => ?_)
          refine lv_aload_n hx hb d_X_tellLabel_142 rfl (lv_at hl 1 rfl) ?_
          refine va_get (D := D) (ci := 7) (v := .ref p12) (C := "SignMachineModel") (T := F_X) (N := 64) hx hb hk fi_X hown hK.1 hP 0 rfl rfl 34 (by decide) (hk _ k_1155) (fun _ h9 => h9) rfl d_X_tellLabel_143 ?_
          refine lv_iload_n hx hb d_X_tellLabel_146 rfl (lv_at hl 0 rfl) ?_
          refine lv_iconst (v := 1) hx hb d_X_tellLabel_147 (by decide) ?_
          refine va_zast hx hb hK.1 hP hD hS 12 2 rfl rfl (by rw [vp_in_iff]; omega) d_X_tellLabel_148 (fun H locs hP hD hS => ?_)
          have hP : va_P D classes (wS50 cI cJ cZ cB p0 p1 p2 p3 p4 p5 p6 p7 p8 p9 p10 p11 p12 p13 p14 p15 p16 p17 p18 p19 p20 p21 p22 p23 p24 p25 x0_4 x0_5 x0_6 x0_7 x0_8 x0_12 x0_13 x0_14 x0_15 x0_16 x0_17 x0_18 x0_22 x0_23 x0_24 x0_25 x0_26 x0_27 x0_28 x0_29 x0_30 x0_31 x0_32 x0_36 x0_39 x0_40 x0_44 x0_49 x0_51 x0_53 x0_54 x0_55 x0_56 x0_57 x0_58 x0_59 x0_60 x0_61 x0_62 y1 y2 y3 y4 y5 y6 y7 y8 y9 y10 y11 (upd y12 (rz6).toNatClampNeg (vp_nar .boolean (1 : Int32))) y13 y14 y15 y16 y17 y18 y19 y20 y21 y22 y23 y24 y25) H := hP
          have hD : va_D A (wS50 cI cJ cZ cB p0 p1 p2 p3 p4 p5 p6 p7 p8 p9 p10 p11 p12 p13 p14 p15 p16 p17 p18 p19 p20 p21 p22 p23 p24 p25 x0_4 x0_5 x0_6 x0_7 x0_8 x0_12 x0_13 x0_14 x0_15 x0_16 x0_17 x0_18 x0_22 x0_23 x0_24 x0_25 x0_26 x0_27 x0_28 x0_29 x0_30 x0_31 x0_32 x0_36 x0_39 x0_40 x0_44 x0_49 x0_51 x0_53 x0_54 x0_55 x0_56 x0_57 x0_58 x0_59 x0_60 x0_61 x0_62 y1 y2 y3 y4 y5 y6 y7 y8 y9 y10 y11 (upd y12 (rz6).toNatClampNeg (vp_nar .boolean (1 : Int32))) y13 y14 y15 y16 y17 y18 y19 y20 y21 y22 y23 y24 y25) := hD
          obtain ⟨v22, hv22⟩ : ∃ y : Nat → Int32, y = (upd y12 (rz6).toNatClampNeg (vp_nar .boolean (1 : Int32))) := ⟨_, rfl⟩
          rw [← hv22] at hP hD
          clear hv22
          refine lv_aload_n hx hb d_X_tellLabel_149 rfl (lv_at hl 1 rfl) ?_
          refine va_get (D := D) (ci := 7) (v := .ref p13) (C := "SignMachineModel") (T := F_X) (N := 64) hx hb hk fi_X hown hK.1 hP 0 rfl rfl 35 (by decide) (hk _ k_1156) (fun _ h9 => h9) rfl d_X_tellLabel_150 ?_
          refine lv_iload_n hx hb d_X_tellLabel_153 rfl (lv_at hl 0 rfl) ?_
          refine lv_lload_n hx hb d_X_tellLabel_154 rfl (lv_at hl 2 rfl) ?_
          refine va_last hx hb hK.1 hP hD hS 13 1 rfl rfl (by rw [vp_in_iff]; omega) d_X_tellLabel_155 (fun H locs hP hD hS => ?_)
          have hP : va_P D classes (wS50 cI cJ cZ cB p0 p1 p2 p3 p4 p5 p6 p7 p8 p9 p10 p11 p12 p13 p14 p15 p16 p17 p18 p19 p20 p21 p22 p23 p24 p25 x0_4 x0_5 x0_6 x0_7 x0_8 x0_12 x0_13 x0_14 x0_15 x0_16 x0_17 x0_18 x0_22 x0_23 x0_24 x0_25 x0_26 x0_27 x0_28 x0_29 x0_30 x0_31 x0_32 x0_36 x0_39 x0_40 x0_44 x0_49 x0_51 x0_53 x0_54 x0_55 x0_56 x0_57 x0_58 x0_59 x0_60 x0_61 x0_62 y1 y2 y3 y4 y5 y6 y7 y8 y9 y10 y11 v22 (vp_updL y13 (rz6).toNatClampNeg a1) y14 y15 y16 y17 y18 y19 y20 y21 y22 y23 y24 y25) H := hP
          have hD : va_D A (wS50 cI cJ cZ cB p0 p1 p2 p3 p4 p5 p6 p7 p8 p9 p10 p11 p12 p13 p14 p15 p16 p17 p18 p19 p20 p21 p22 p23 p24 p25 x0_4 x0_5 x0_6 x0_7 x0_8 x0_12 x0_13 x0_14 x0_15 x0_16 x0_17 x0_18 x0_22 x0_23 x0_24 x0_25 x0_26 x0_27 x0_28 x0_29 x0_30 x0_31 x0_32 x0_36 x0_39 x0_40 x0_44 x0_49 x0_51 x0_53 x0_54 x0_55 x0_56 x0_57 x0_58 x0_59 x0_60 x0_61 x0_62 y1 y2 y3 y4 y5 y6 y7 y8 y9 y10 y11 v22 (vp_updL y13 (rz6).toNatClampNeg a1) y14 y15 y16 y17 y18 y19 y20 y21 y22 y23 y24 y25) := hD
          obtain ⟨v23, hv23⟩ : ∃ y : Nat → Int64, y = (vp_updL y13 (rz6).toNatClampNeg a1) := ⟨_, rfl⟩
          rw [← hv23] at hP hD
          have Gv23 : (-1073741823 ≤ (a1).toInt ∧ (a1).toInt ≤ 1073741823) := Q2
          have Av23 : ∀ i : Nat, (-1073741823 ≤ (v23 i).toInt ∧ (v23 i).toInt ≤ 1073741823) := by rw [hv23]; exact updL_all (P := fun i x => (-1073741823 ≤ (x).toInt ∧ (x).toInt ≤ 1073741823)) Ay13 Gv23
          clear hv23
          exact W.vret hx hb hr (fun t ht hW => ⟨⟨(), rfl, trivial, ⟨x0_26, x0_36, x0_39, x0_40, y11, v22, v23, y22, y25, Rx0_26, Rx0_36, Rx0_39, Rx0_40, Av23, Ay25, (show x0_51.toInt ≤ x0_36.toInt + x0_53.toInt from by omega), (show 1 ≤ x0_26.toInt → 1 ≤ x0_26.toInt from by omega), by show va_P D classes _ t.heap; rw [ht]; exact hP, hD⟩⟩, hS.F ht⟩) hS.2.2 d_X_tellLabel_156
        · have gc18 : v17.toInt ≠ (0 : Int) := c_ne c18
          refine lv_aload_n hx hb d_X_tellLabel_111 rfl (lv_at hl 1 rfl) ?_
          refine lv_iconst (v := 3) hx hb d_X_tellLabel_112 (by decide) ?_
          refine kn_v (va_runV (C := "SignMachineModel") (As := [.int (3 : Int32)]) (rest := []) ⟨hx, hb, hml, hown, hk⟩ (c_X_bad l D cI cJ cZ cB p0 p1 p2 p3 p4 p5 p6 p7 p8 p9 p10 p11 p12 p13 p14 p15 p16 p17 p18 p19 p20 p21 p22 p23 p24 p25 H.size x0_4 x0_5 x0_6 x0_7 x0_8 x0_12 x0_13 x0_14 x0_15 x0_16 x0_17 x0_18 x0_22 x0_23 x0_24 x0_25 x0_26 x0_27 x0_28 x0_29 x0_30 x0_31 x0_32 x0_36 x0_39 x0_40 x0_44 x0_49 x0_51 x0_53 x0_54 x0_55 x0_56 x0_57 x0_58 x0_59 x0_60 x0_61 x0_62 y1 y2 y3 y4 y5 y6 y7 y8 y9 y10 y11 y12 y13 y14 y15 y16 y17 y18 y19 y20 y21 y22 y23 y24 y25 (3 : Int32) Rx0_26 (by decide)) (v_X_bad hk k_1552 ⟨Nat.le_of_ble_eq_true rfl, Nat.le_of_ble_eq_true rfl⟩) (pM_v hK hP hD (ci := 7) (q0 := 0) rfl rfl rfl) rfl rfl hl.1 rfl (lv_room (Nat.le_of_ble_eq_true rfl)) d_X_tellLabel_113 ⟨Nat.le_of_ble_eq_true rfl, Nat.le_of_ble_eq_true rfl⟩) hS hA hD (fun u t H locs ht hB hFr hS => ?_)
          obtain ⟨x0_26z24, Rx0_26z24, F0z24, hP, hD⟩ := hB
          have F0z24 : 1 ≤ x0_26z24.toInt := F0z24
          rw [ht] at hP
          have hD := dwk hD hFr
          clear ht hFr
          have hP : va_P D classes (wS50 cI cJ cZ cB p0 p1 p2 p3 p4 p5 p6 p7 p8 p9 p10 p11 p12 p13 p14 p15 p16 p17 p18 p19 p20 p21 p22 p23 p24 p25 x0_4 x0_5 x0_6 x0_7 x0_8 x0_12 x0_13 x0_14 x0_15 x0_16 x0_17 x0_18 x0_22 x0_23 x0_24 x0_25 x0_26z24 x0_27 x0_28 x0_29 x0_30 x0_31 x0_32 x0_36 x0_39 x0_40 x0_44 x0_49 x0_51 x0_53 x0_54 x0_55 x0_56 x0_57 x0_58 x0_59 x0_60 x0_61 x0_62 y1 y2 y3 y4 y5 y6 y7 y8 y9 y10 y11 y12 y13 y14 y15 y16 y17 y18 y19 y20 y21 y22 y23 y24 y25) H := hP
          have hD : va_D A (wS50 cI cJ cZ cB p0 p1 p2 p3 p4 p5 p6 p7 p8 p9 p10 p11 p12 p13 p14 p15 p16 p17 p18 p19 p20 p21 p22 p23 p24 p25 x0_4 x0_5 x0_6 x0_7 x0_8 x0_12 x0_13 x0_14 x0_15 x0_16 x0_17 x0_18 x0_22 x0_23 x0_24 x0_25 x0_26z24 x0_27 x0_28 x0_29 x0_30 x0_31 x0_32 x0_36 x0_39 x0_40 x0_44 x0_49 x0_51 x0_53 x0_54 x0_55 x0_56 x0_57 x0_58 x0_59 x0_60 x0_61 x0_62 y1 y2 y3 y4 y5 y6 y7 y8 y9 y10 y11 y12 y13 y14 y15 y16 y17 y18 y19 y20 y21 y22 y23 y24 y25) := hD
          exact W.vret hx hb hr (fun t ht hW => ⟨⟨(), rfl, trivial, ⟨x0_26z24, x0_36, x0_39, x0_40, y11, y12, y13, y22, y25, Rx0_26z24, Rx0_36, Rx0_39, Rx0_40, Ay13, Ay25, (show x0_51.toInt ≤ x0_36.toInt + x0_53.toInt from by omega), (show 1 ≤ x0_26.toInt → 1 ≤ x0_26z24.toInt from by omega), by show va_P D classes _ t.heap; rw [ht]; exact hP, hD⟩⟩, hS.F ht⟩) hS.2.2 d_X_tellLabel_116
  · have gc1 : x0_61.toInt = (3 : Int) := c_eq c1
    have R25 : 3 ≤ x0_61.toInt ∧ x0_61.toInt ≤ 3 := by omega
    refine lv_aload_n hx hb d_X_tellLabel_8 rfl (lv_at hl 0 rfl) ?_
    refine lv_aload_n hx hb d_X_tellLabel_9 rfl (lv_at hl 0 rfl) ?_
    refine va_get (D := D) (ci := 7) (v := .long x0_62) (C := "SignMachineModel") (T := F_X) (N := 64) hx hb hk fi_X hown hK.1 hP 0 rfl rfl 62 (by decide) (hk _ k_1183) (fun _ h9 => h9) rfl d_X_tellLabel_10 ?_
    have R26 : 0 ≤ x0_62.toInt ∧ x0_62.toInt ≤ 9 := by omega
    refine lv_l2i (v := (x0_62 : Int64).toInt32) hx hb d_X_tellLabel_13 rfl ?_
    refine lv_topi (fun v27 hv27 => ?_)
    obtain ⟨ev27, Rv27⟩ : v27.toInt = x0_62.toInt ∧ (0 ≤ v27.toInt ∧ v27.toInt ≤ 9) := li3 hv27 R26 (by decide) (by decide)
    refine va_put (D := D) (ci := 7) (v := .int v27) (ty := .int) (C := "SignMachineModel") (T := F_X) (N := 64) hx hb hk fi_X ft_X ft_X_ok fn_X hown hK.1 hP hD hS 0 rfl rfl 39 (by decide) (hk _ k_1160) (fun _ h9 => h9) rfl (by decide +kernel) rfl rfl (Nat.le_of_ble_eq_true rfl) d_X_tellLabel_14 (fun H locs hP hD hS => ?_)
    have hP : va_P D classes (wS50 cI cJ cZ cB p0 p1 p2 p3 p4 p5 p6 p7 p8 p9 p10 p11 p12 p13 p14 p15 p16 p17 p18 p19 p20 p21 p22 p23 p24 p25 x0_4 x0_5 x0_6 x0_7 x0_8 x0_12 x0_13 x0_14 x0_15 x0_16 x0_17 x0_18 x0_22 x0_23 x0_24 x0_25 x0_26 x0_27 x0_28 x0_29 x0_30 x0_31 x0_32 x0_36 v27 x0_40 x0_44 x0_49 x0_51 x0_53 x0_54 x0_55 x0_56 x0_57 x0_58 x0_59 x0_60 x0_61 x0_62 y1 y2 y3 y4 y5 y6 y7 y8 y9 y10 y11 y12 y13 y14 y15 y16 y17 y18 y19 y20 y21 y22 y23 y24 y25) H := hP
    have hD : va_D A (wS50 cI cJ cZ cB p0 p1 p2 p3 p4 p5 p6 p7 p8 p9 p10 p11 p12 p13 p14 p15 p16 p17 p18 p19 p20 p21 p22 p23 p24 p25 x0_4 x0_5 x0_6 x0_7 x0_8 x0_12 x0_13 x0_14 x0_15 x0_16 x0_17 x0_18 x0_22 x0_23 x0_24 x0_25 x0_26 x0_27 x0_28 x0_29 x0_30 x0_31 x0_32 x0_36 v27 x0_40 x0_44 x0_49 x0_51 x0_53 x0_54 x0_55 x0_56 x0_57 x0_58 x0_59 x0_60 x0_61 x0_62 y1 y2 y3 y4 y5 y6 y7 y8 y9 y10 y11 y12 y13 y14 y15 y16 y17 y18 y19 y20 y21 y22 y23 y24 y25) := hD
    refine lv_aload_n hx hb d_X_tellLabel_17 rfl (lv_at hl 0 rfl) ?_
    refine lv_lload_n hx hb d_X_tellLabel_18 rfl (lv_at hl 1 rfl) ?_
    refine va_put (D := D) (ci := 7) (v := .long a1) (ty := .long) (C := "SignMachineModel") (T := F_X) (N := 64) hx hb hk fi_X ft_X ft_X_ok fn_X hown hK.1 hP hD hS 0 rfl rfl 40 (by decide) (hk _ k_1161) (fun _ h9 => h9) rfl (by decide +kernel) rfl rfl (Nat.le_of_ble_eq_true rfl) d_X_tellLabel_19 (fun H locs hP hD hS => ?_)
    have hP : va_P D classes (wS50 cI cJ cZ cB p0 p1 p2 p3 p4 p5 p6 p7 p8 p9 p10 p11 p12 p13 p14 p15 p16 p17 p18 p19 p20 p21 p22 p23 p24 p25 x0_4 x0_5 x0_6 x0_7 x0_8 x0_12 x0_13 x0_14 x0_15 x0_16 x0_17 x0_18 x0_22 x0_23 x0_24 x0_25 x0_26 x0_27 x0_28 x0_29 x0_30 x0_31 x0_32 x0_36 v27 a1 x0_44 x0_49 x0_51 x0_53 x0_54 x0_55 x0_56 x0_57 x0_58 x0_59 x0_60 x0_61 x0_62 y1 y2 y3 y4 y5 y6 y7 y8 y9 y10 y11 y12 y13 y14 y15 y16 y17 y18 y19 y20 y21 y22 y23 y24 y25) H := hP
    have hD : va_D A (wS50 cI cJ cZ cB p0 p1 p2 p3 p4 p5 p6 p7 p8 p9 p10 p11 p12 p13 p14 p15 p16 p17 p18 p19 p20 p21 p22 p23 p24 p25 x0_4 x0_5 x0_6 x0_7 x0_8 x0_12 x0_13 x0_14 x0_15 x0_16 x0_17 x0_18 x0_22 x0_23 x0_24 x0_25 x0_26 x0_27 x0_28 x0_29 x0_30 x0_31 x0_32 x0_36 v27 a1 x0_44 x0_49 x0_51 x0_53 x0_54 x0_55 x0_56 x0_57 x0_58 x0_59 x0_60 x0_61 x0_62 y1 y2 y3 y4 y5 y6 y7 y8 y9 y10 y11 y12 y13 y14 y15 y16 y17 y18 y19 y20 y21 y22 y23 y24 y25) := hD
    refine lv_iconst (v := 0) hx hb d_X_tellLabel_22 (by decide) ?_
    refine lv_istore_n (lv' := [(3, .int (0 : Int32)), (0, .ref p0), (1, .long a1)]) hx hb d_X_tellLabel_23 rfl hl (by decide) rfl (fun ls hl => ?_)
    have CUT24 : ∀ (n : Nat) (g24l3 : Int32) (g24y22 : Nat → Int32) (g24y25 : Nat → Int64) (H : Heap) (locs : List Loc) (ls : Array Slot), (x0_49.toInt - g24l3.toInt) < (n : Int) → (0 ≤ g24l3.toInt ∧ g24l3.toInt ≤ 4100) → (∀ i : Nat, (-1073741823 ≤ (g24y25 i).toInt ∧ (g24y25 i).toInt ≤ 1073741823)) → (g24l3.toInt ≤ x0_49.toInt) → va_P D classes (wS50 cI cJ cZ cB p0 p1 p2 p3 p4 p5 p6 p7 p8 p9 p10 p11 p12 p13 p14 p15 p16 p17 p18 p19 p20 p21 p22 p23 p24 p25 x0_4 x0_5 x0_6 x0_7 x0_8 x0_12 x0_13 x0_14 x0_15 x0_16 x0_17 x0_18 x0_22 x0_23 x0_24 x0_25 x0_26 x0_27 x0_28 x0_29 x0_30 x0_31 x0_32 x0_36 v27 a1 x0_44 x0_49 x0_51 x0_53 x0_54 x0_55 x0_56 x0_57 x0_58 x0_59 x0_60 x0_61 x0_62 y1 y2 y3 y4 y5 y6 y7 y8 y9 y10 y11 y12 y13 y14 y15 y16 y17 y18 y19 y20 y21 g24y22 y23 y24 g24y25) H → va_D A (wS50 cI cJ cZ cB p0 p1 p2 p3 p4 p5 p6 p7 p8 p9 p10 p11 p12 p13 p14 p15 p16 p17 p18 p19 p20 p21 p22 p23 p24 p25 x0_4 x0_5 x0_6 x0_7 x0_8 x0_12 x0_13 x0_14 x0_15 x0_16 x0_17 x0_18 x0_22 x0_23 x0_24 x0_25 x0_26 x0_27 x0_28 x0_29 x0_30 x0_31 x0_32 x0_36 v27 a1 x0_44 x0_49 x0_51 x0_53 x0_54 x0_55 x0_56 x0_57 x0_58 x0_59 x0_60 x0_61 x0_62 y1 y2 y3 y4 y5 y6 y7 y8 y9 y10 y11 y12 y13 y14 y15 y16 y17 y18 y19 y20 y21 g24y22 y23 y24 g24y25) → va_S A s.heap H locs → lv_has ls 4 [(3, .int g24l3), (0, .ref p0), (1, .long a1)] → W p l e ({ frames := 2, cells := 0, slots := 0, locals := 43 }) s m [.ref p0, .long a1].toArray below meth c H locs 0 0 (MQ below (va_Qv (fun (_ : Unit) => True) (fun _ t => ∃ u_x0_26 : Int32, ∃ u_x0_36 : Int32, ∃ u_x0_39 : Int32, ∃ u_x0_40 : Int64, ∃ u_y11 : Nat → Int64, ∃ u_y12 : Nat → Int32, ∃ u_y13 : Nat → Int64, ∃ u_y22 : Nat → Int32, ∃ u_y25 : Nat → Int64, (0 ≤ u_x0_26.toInt ∧ u_x0_26.toInt ≤ 6) ∧ (0 ≤ u_x0_36.toInt ∧ u_x0_36.toInt ≤ 60) ∧ ((-1) ≤ u_x0_39.toInt ∧ u_x0_39.toInt ≤ 9) ∧ ((-1073741823) ≤ u_x0_40.toInt ∧ u_x0_40.toInt ≤ 1073741823) ∧ (∀ i : Nat, (-1073741823 ≤ (u_y13 i).toInt ∧ (u_y13 i).toInt ≤ 1073741823)) ∧ (∀ i : Nat, (-1073741823 ≤ (u_y25 i).toInt ∧ (u_y25 i).toInt ≤ 1073741823)) ∧ (x0_51.toInt ≤ u_x0_36.toInt + x0_53.toInt) ∧ (1 ≤ x0_26.toInt → 1 ≤ u_x0_26.toInt) ∧ va_P D classes (wS50 cI cJ cZ cB p0 p1 p2 p3 p4 p5 p6 p7 p8 p9 p10 p11 p12 p13 p14 p15 p16 p17 p18 p19 p20 p21 p22 p23 p24 p25 x0_4 x0_5 x0_6 x0_7 x0_8 x0_12 x0_13 x0_14 x0_15 x0_16 x0_17 x0_18 x0_22 x0_23 x0_24 x0_25 u_x0_26 x0_27 x0_28 x0_29 x0_30 x0_31 x0_32 u_x0_36 u_x0_39 u_x0_40 x0_44 x0_49 x0_51 x0_53 x0_54 x0_55 x0_56 x0_57 x0_58 x0_59 x0_60 x0_61 x0_62 y1 y2 y3 y4 y5 y6 y7 y8 y9 y10 u_y11 u_y12 u_y13 y14 y15 y16 y17 y18 y19 y20 y21 u_y22 y23 y24 u_y25) t.heap ∧ va_D A (wS50 cI cJ cZ cB p0 p1 p2 p3 p4 p5 p6 p7 p8 p9 p10 p11 p12 p13 p14 p15 p16 p17 p18 p19 p20 p21 p22 p23 p24 p25 x0_4 x0_5 x0_6 x0_7 x0_8 x0_12 x0_13 x0_14 x0_15 x0_16 x0_17 x0_18 x0_22 x0_23 x0_24 x0_25 u_x0_26 x0_27 x0_28 x0_29 x0_30 x0_31 x0_32 u_x0_36 u_x0_39 u_x0_40 x0_44 x0_49 x0_51 x0_53 x0_54 x0_55 x0_56 x0_57 x0_58 x0_59 x0_60 x0_61 x0_62 y1 y2 y3 y4 y5 y6 y7 y8 y9 y10 u_y11 u_y12 u_y13 y14 y15 y16 y17 y18 y19 y20 y21 u_y22 y23 y24 u_y25)) A) [.ref p0, .long a1].toArray s 0 0 A) (F0 m 24 ls []) := by
      intro n
      induction n with
      | zero => intro g24l3 g24y22 g24y25 H locs ls hn24 Rg24l3 Ag24y25 I24_0 hP hD hS hl; exfalso; omega
      | succ n ih24 =>
        intro g24l3 g24y22 g24y25 H locs ls hn24 Rg24l3 Ag24y25 I24_0 hP hD hS hl
        refine lv_iload_n hx hb d_X_tellLabel_24 rfl (lv_at hl 0 rfl) ?_
        refine lv_aload_n hx hb d_X_tellLabel_25 rfl (lv_at hl 1 rfl) ?_
        refine va_get (D := D) (ci := 7) (v := .int x0_49) (C := "SignMachineModel") (T := F_X) (N := 64) hx hb hk fi_X hown hK.1 hP 0 rfl rfl 49 (by decide) (hk _ k_1170) (fun _ h9 => h9) rfl d_X_tellLabel_26 ?_
        refine lv_icmp_ge (tgt := 76) hx hb d_X_tellLabel_29 (by decide) (fun c28 => ?_) (fun c28 => ?_)
        · have gc28 : x0_49.toInt ≤ g24l3.toInt := c_le c28
          refine lv_goto (tgt := 156) hx hb d_X_tellLabel_76 (by decide) ?_
          exact W.vret hx hb hr (fun t ht hW => ⟨⟨(), rfl, trivial, ⟨x0_26, x0_36, v27, a1, y11, y12, y13, g24y22, g24y25, Rx0_26, Rx0_36, (rgw Rv27 (by decide) (by decide)), Q2, Ay13, Ag24y25, (show x0_51.toInt ≤ x0_36.toInt + x0_53.toInt from by omega), (show 1 ≤ x0_26.toInt → 1 ≤ x0_26.toInt from by omega), by show va_P D classes _ t.heap; rw [ht]; exact hP, hD⟩⟩, hS.F ht⟩) hS.2.2 d_X_tellLabel_156
        · have gc28 : g24l3.toInt < x0_49.toInt := c_nle c28
          have R29 : 0 ≤ g24l3.toInt ∧ g24l3.toInt ≤ 4099 := by omega
          have R30 : 1 ≤ x0_49.toInt ∧ x0_49.toInt ≤ 4100 := by omega
          refine lv_aload_n hx hb d_X_tellLabel_32 rfl (lv_at hl 1 rfl) ?_
          refine va_get (D := D) (ci := 7) (v := .ref p21) (C := "SignMachineModel") (T := F_X) (N := 64) hx hb hk fi_X hown hK.1 hP 0 rfl rfl 47 (by decide) (hk _ k_1168) (fun _ h9 => h9) rfl d_X_tellLabel_33 ?_
          refine lv_iload_n hx hb d_X_tellLabel_36 rfl (lv_at hl 0 rfl) ?_
          refine va_iald hx hb hK.1 hP 21 0 rfl rfl (vpb R29 (by decide) (by decide)) d_X_tellLabel_37 ?_
          refine lv_topi (fun v31 hv31 => ?_)
          have Rv31 := Ay21 (g24l3).toNatClampNeg
          rw [← hv31] at Rv31
          obtain ⟨Rv31, Xv31⟩ := Rv31
          refine lv_iconst (v := (-1)) hx hb d_X_tellLabel_38 (by decide) ?_
          refine lv_aload_n hx hb d_X_tellLabel_39 rfl (lv_at hl 1 rfl) ?_
          refine va_get (D := D) (ci := 7) (v := .int v27) (C := "SignMachineModel") (T := F_X) (N := 64) hx hb hk fi_X hown hK.1 hP 0 rfl rfl 39 (by decide) (hk _ k_1160) (fun _ h9 => h9) rfl d_X_tellLabel_40 ?_
          refine lv_isub hx hb d_X_tellLabel_43 ?_
          refine lv_topi (fun v32 hv32 => ?_)
          obtain ⟨ev32, Rv32⟩ : v32.toInt = (-1 : Int) - v27.toInt ∧ ((-10) ≤ v32.toInt ∧ v32.toInt ≤ (-1)) := sb3 hv32 (show (-1) ≤ (-1 : Int32).toInt ∧ (-1 : Int32).toInt ≤ (-1) from by decide) Rv27 (by decide) (by decide) (by decide) (by decide)
          refine lv_icmp_ne (tgt := 70) hx hb d_X_tellLabel_44 (by decide) (fun c33 => ?_) (fun c33 => ?_)
          · have gc33 : v31.toInt ≠ v32.toInt := c_ne c33
            obtain ⟨v34, hv34⟩ : ∃ y : Int32, y = (g24l3 + (1 : Int32)) := ⟨_, rfl⟩
            obtain ⟨ev34, Rv34⟩ : v34.toInt = g24l3.toInt + 1 ∧ (1 ≤ v34.toInt ∧ v34.toInt ≤ 4100) := ad3 hv34 R29 (y := (1 : Int32)) (c := 1) (d := 1) (by decide) (by decide) (by decide) (by decide) (by decide)
            refine lv_iinc (v := v34) (lv' := [(3, .int v34), (0, .ref p0), (1, .long a1)]) hx hb d_X_tellLabel_70 hl (k := 0) rfl (by rw [hv34]; rfl) (by decide) rfl (fun ls hl => ?_)
            refine lv_goto (tgt := 24) hx hb d_X_tellLabel_73 (by decide) ?_
            exact ih24 v34 g24y22 g24y25 H _ ls (show x0_49.toInt - v34.toInt < (n : Int) from by omega) (rgw Rv34 (by decide) (by decide)) Ag24y25 (show v34.toInt ≤ x0_49.toInt from by omega) hP hD hS (lv_sub hl [0, 1, 2] rfl)
          · have gc33 : v31.toInt = v32.toInt := c_eq c33
            have R35 : (-10) ≤ v31.toInt ∧ v31.toInt ≤ (-1) := by omega
            refine lv_aload_n hx hb d_X_tellLabel_47 rfl (lv_at hl 1 rfl) ?_
            refine va_get (D := D) (ci := 7) (v := .ref p22) (C := "SignMachineModel") (T := F_X) (N := 64) hx hb hk fi_X hown hK.1 hP 0 rfl rfl 48 (by decide) (hk _ k_1169) (fun _ h9 => h9) rfl d_X_tellLabel_48 ?_
            refine lv_iload_n hx hb d_X_tellLabel_51 rfl (lv_at hl 0 rfl) ?_
            refine va_zald hx hb hK.1 hP 22 2 rfl rfl (vpb R29 (by decide) (by decide)) d_X_tellLabel_52 ?_
            refine lv_topi (fun v36 hv36 => ?_)
            refine lv_if_ne (tgt := 70) hx hb d_X_tellLabel_53 (by decide) (fun c37 => ?_) (fun c37 => ?_)
            · have gc37 : v36.toInt ≠ (0 : Int) := c_ne c37
              obtain ⟨v38, hv38⟩ : ∃ y : Int32, y = (g24l3 + (1 : Int32)) := ⟨_, rfl⟩
              obtain ⟨ev38, Rv38⟩ : v38.toInt = g24l3.toInt + 1 ∧ (1 ≤ v38.toInt ∧ v38.toInt ≤ 4100) := ad3 hv38 R29 (y := (1 : Int32)) (c := 1) (d := 1) (by decide) (by decide) (by decide) (by decide) (by decide)
              refine lv_iinc (v := v38) (lv' := [(3, .int v38), (0, .ref p0), (1, .long a1)]) hx hb d_X_tellLabel_70 hl (k := 0) rfl (by rw [hv38]; rfl) (by decide) rfl (fun ls hl => ?_)
              refine lv_goto (tgt := 24) hx hb d_X_tellLabel_73 (by decide) ?_
              exact ih24 v38 g24y22 g24y25 H _ ls (show x0_49.toInt - v38.toInt < (n : Int) from by omega) (rgw Rv38 (by decide) (by decide)) Ag24y25 (show v38.toInt ≤ x0_49.toInt from by omega) hP hD hS (lv_sub hl [0, 1, 2] rfl)
            · have gc37 : v36.toInt = (0 : Int) := c_eq c37
              have R39 : 0 ≤ v36.toInt ∧ v36.toInt ≤ 0 := by have q9 := fr3 v36; omega
              refine lv_aload_n hx hb d_X_tellLabel_56 rfl (lv_at hl 1 rfl) ?_
              refine va_get (D := D) (ci := 7) (v := .ref p22) (C := "SignMachineModel") (T := F_X) (N := 64) hx hb hk fi_X hown hK.1 hP 0 rfl rfl 48 (by decide) (hk _ k_1169) (fun _ h9 => h9) rfl d_X_tellLabel_57 ?_
              refine lv_iload_n hx hb d_X_tellLabel_60 rfl (lv_at hl 0 rfl) ?_
              refine lv_iconst (v := 1) hx hb d_X_tellLabel_61 (by decide) ?_
              refine va_zast hx hb hK.1 hP hD hS 22 2 rfl rfl (vpb R29 (by decide) (by decide)) d_X_tellLabel_62 (fun H locs hP hD hS => ?_)
              have hP : va_P D classes (wS50 cI cJ cZ cB p0 p1 p2 p3 p4 p5 p6 p7 p8 p9 p10 p11 p12 p13 p14 p15 p16 p17 p18 p19 p20 p21 p22 p23 p24 p25 x0_4 x0_5 x0_6 x0_7 x0_8 x0_12 x0_13 x0_14 x0_15 x0_16 x0_17 x0_18 x0_22 x0_23 x0_24 x0_25 x0_26 x0_27 x0_28 x0_29 x0_30 x0_31 x0_32 x0_36 v27 a1 x0_44 x0_49 x0_51 x0_53 x0_54 x0_55 x0_56 x0_57 x0_58 x0_59 x0_60 x0_61 x0_62 y1 y2 y3 y4 y5 y6 y7 y8 y9 y10 y11 y12 y13 y14 y15 y16 y17 y18 y19 y20 y21 (upd g24y22 (g24l3).toNatClampNeg (vp_nar .boolean (1 : Int32))) y23 y24 g24y25) H := hP
              have hD : va_D A (wS50 cI cJ cZ cB p0 p1 p2 p3 p4 p5 p6 p7 p8 p9 p10 p11 p12 p13 p14 p15 p16 p17 p18 p19 p20 p21 p22 p23 p24 p25 x0_4 x0_5 x0_6 x0_7 x0_8 x0_12 x0_13 x0_14 x0_15 x0_16 x0_17 x0_18 x0_22 x0_23 x0_24 x0_25 x0_26 x0_27 x0_28 x0_29 x0_30 x0_31 x0_32 x0_36 v27 a1 x0_44 x0_49 x0_51 x0_53 x0_54 x0_55 x0_56 x0_57 x0_58 x0_59 x0_60 x0_61 x0_62 y1 y2 y3 y4 y5 y6 y7 y8 y9 y10 y11 y12 y13 y14 y15 y16 y17 y18 y19 y20 y21 (upd g24y22 (g24l3).toNatClampNeg (vp_nar .boolean (1 : Int32))) y23 y24 g24y25) := hD
              obtain ⟨v40, hv40⟩ : ∃ y : Nat → Int32, y = (upd g24y22 (g24l3).toNatClampNeg (vp_nar .boolean (1 : Int32))) := ⟨_, rfl⟩
              rw [← hv40] at hP hD
              clear hv40
              refine lv_aload_n hx hb d_X_tellLabel_63 rfl (lv_at hl 1 rfl) ?_
              refine va_get (D := D) (ci := 7) (v := .ref p25) (C := "SignMachineModel") (T := F_X) (N := 64) hx hb hk fi_X hown hK.1 hP 0 rfl rfl 63 (by decide) (hk _ k_1184) (fun _ h9 => h9) rfl d_X_tellLabel_64 ?_
              refine lv_iload_n hx hb d_X_tellLabel_67 rfl (lv_at hl 0 rfl) ?_
              refine lv_lload_n hx hb d_X_tellLabel_68 rfl (lv_at hl 2 rfl) ?_
              refine va_last hx hb hK.1 hP hD hS 25 1 rfl rfl (vpb R29 (by decide) (by decide)) d_X_tellLabel_69 (fun H locs hP hD hS => ?_)
              have hP : va_P D classes (wS50 cI cJ cZ cB p0 p1 p2 p3 p4 p5 p6 p7 p8 p9 p10 p11 p12 p13 p14 p15 p16 p17 p18 p19 p20 p21 p22 p23 p24 p25 x0_4 x0_5 x0_6 x0_7 x0_8 x0_12 x0_13 x0_14 x0_15 x0_16 x0_17 x0_18 x0_22 x0_23 x0_24 x0_25 x0_26 x0_27 x0_28 x0_29 x0_30 x0_31 x0_32 x0_36 v27 a1 x0_44 x0_49 x0_51 x0_53 x0_54 x0_55 x0_56 x0_57 x0_58 x0_59 x0_60 x0_61 x0_62 y1 y2 y3 y4 y5 y6 y7 y8 y9 y10 y11 y12 y13 y14 y15 y16 y17 y18 y19 y20 y21 v40 y23 y24 (vp_updL g24y25 (g24l3).toNatClampNeg a1)) H := hP
              have hD : va_D A (wS50 cI cJ cZ cB p0 p1 p2 p3 p4 p5 p6 p7 p8 p9 p10 p11 p12 p13 p14 p15 p16 p17 p18 p19 p20 p21 p22 p23 p24 p25 x0_4 x0_5 x0_6 x0_7 x0_8 x0_12 x0_13 x0_14 x0_15 x0_16 x0_17 x0_18 x0_22 x0_23 x0_24 x0_25 x0_26 x0_27 x0_28 x0_29 x0_30 x0_31 x0_32 x0_36 v27 a1 x0_44 x0_49 x0_51 x0_53 x0_54 x0_55 x0_56 x0_57 x0_58 x0_59 x0_60 x0_61 x0_62 y1 y2 y3 y4 y5 y6 y7 y8 y9 y10 y11 y12 y13 y14 y15 y16 y17 y18 y19 y20 y21 v40 y23 y24 (vp_updL g24y25 (g24l3).toNatClampNeg a1)) := hD
              obtain ⟨v41, hv41⟩ : ∃ y : Nat → Int64, y = (vp_updL g24y25 (g24l3).toNatClampNeg a1) := ⟨_, rfl⟩
              rw [← hv41] at hP hD
              have Gv41 : (-1073741823 ≤ (a1).toInt ∧ (a1).toInt ≤ 1073741823) := Q2
              have Av41 : ∀ i : Nat, (-1073741823 ≤ (v41 i).toInt ∧ (v41 i).toInt ≤ 1073741823) := by rw [hv41]; exact updL_all (P := fun i x => (-1073741823 ≤ (x).toInt ∧ (x).toInt ≤ 1073741823)) Ag24y25 Gv41
              clear hv41
              obtain ⟨v42, hv42⟩ : ∃ y : Int32, y = (g24l3 + (1 : Int32)) := ⟨_, rfl⟩
              obtain ⟨ev42, Rv42⟩ : v42.toInt = g24l3.toInt + 1 ∧ (1 ≤ v42.toInt ∧ v42.toInt ≤ 4100) := ad3 hv42 R29 (y := (1 : Int32)) (c := 1) (d := 1) (by decide) (by decide) (by decide) (by decide) (by decide)
              refine lv_iinc (v := v42) (lv' := [(3, .int v42), (0, .ref p0), (1, .long a1)]) hx hb d_X_tellLabel_70 hl (k := 0) rfl (by rw [hv42]; rfl) (by decide) rfl (fun ls hl => ?_)
              refine lv_goto (tgt := 24) hx hb d_X_tellLabel_73 (by decide) ?_
              exact ih24 v42 v40 v41 H _ ls (show x0_49.toInt - v42.toInt < (n : Int) from by omega) (rgw Rv42 (by decide) (by decide)) Av41 (show v42.toInt ≤ x0_49.toInt from by omega) hP hD hS (lv_sub hl [0, 1, 2] rfl)
    exact CUT24 ((x0_49.toInt - (0 : Int)).toNat + 1) (0 : Int32) y22 y25 H _ ls (show (x0_49.toInt - (0 : Int)) < (((x0_49.toInt - (0 : Int)).toNat + 1 : Nat) : Int) from by omega) (by decide) Ay25 (show (0 : Int) ≤ x0_49.toInt from by omega) hP hD hS (lv_sub hl [0, 1, 2] rfl)
theorem v_X_tellLabel {R : Room} {s : State} {args : Array Value} {own : String} {index : Nat} (hk : ∀ w ∈ tb, w.before args s = true) (hl : Cond.methodLink own index y_X_tellLabel ∈ tb) (hR : 2 + 1 ≤ R.frames ∧ 8 + (4 + 11) + 43 ≤ R.locals) : CallW R s args own "SignMachineModel" index y_X_tellLabel b_X_tellLabel 4 none (.code y_X_tellLabel b_X_tellLabel 4 none :: tb) ({ frames := 2, cells := 0, slots := 0, locals := 43 }) 0 0 1 := mk_v 1 hk k_1625 hl k_1624 k_96 k_119 rfl rfl h_X_tellLabel hR
set_option maxHeartbeats 8000000 in
set_option maxRecDepth 100000 in
theorem c_X_skipBlanks (l : Launch) (D : va_G) (cI cJ cZ cB : ClassId) (p0 p1 p2 p3 p4 p5 p6 p7 p8 p9 p10 p11 p12 p13 p14 p15 p16 p17 p18 p19 p20 p21 p22 p23 p24 p25 : Nat) (sz : Nat) (x0_4 : Int32) (x0_5 : Int32) (x0_6 : Int32) (x0_7 : Int32) (x0_8 : Int32) (x0_12 : Int32) (x0_13 : Int32) (x0_14 : Int32) (x0_15 : Int32) (x0_16 : Int32) (x0_17 : Int32) (x0_18 : Int32) (x0_22 : Int32) (x0_23 : Int32) (x0_24 : Int32) (x0_25 : Int32) (x0_26 : Int32) (x0_27 : Int32) (x0_28 : Int32) (x0_29 : Int32) (x0_30 : Int32) (x0_31 : Int32) (x0_32 : Int32) (x0_36 : Int32) (x0_39 : Int32) (x0_40 : Int64) (x0_44 : Int32) (x0_49 : Int32) (x0_51 : Int32) (x0_53 : Int32) (x0_54 : Int32) (x0_55 : Int64) (x0_56 : Int32) (x0_57 : Int32) (x0_58 : Int32) (x0_59 : Int32) (x0_60 : Int32) (x0_61 : Int32) (x0_62 : Int64) (y1 : Nat → Int32) (y2 : Nat → Int32) (y3 : Nat → Int32) (y4 : Nat → Int32) (y5 : Nat → Int32) (y6 : Nat → Int32) (y7 : Nat → Int32) (y8 : Nat → Int32) (y9 : Nat → Int32) (y10 : Nat → Int32) (y11 : Nat → Int64) (y12 : Nat → Int32) (y13 : Nat → Int64) (y14 : Nat → Int32) (y15 : Nat → Int64) (y16 : Nat → Int32) (y17 : Nat → Int32) (y18 : Nat → Int32) (y19 : Nat → Int32) (y20 : Nat → Int32) (y21 : Nat → Int32) (y22 : Nat → Int32) (y23 : Nat → Int32) (y24 : Nat → Int64) (y25 : Nat → Int64)  (Rx0_24 : 0 ≤ x0_24.toInt ∧ x0_24.toInt ≤ 4000) (Rx0_25 : 0 ≤ x0_25.toInt ∧ x0_25.toInt ≤ 4000) (Q0 : x0_25.toInt ≤ x0_24.toInt) : Met l y_X_skipBlanks (.code y_X_skipBlanks b_X_skipBlanks 1 none :: tb) ({ frames := 1, cells := 0, slots := 0, locals := 20 }) (pM D cI cJ cZ cB (wS50 cI cJ cZ cB p0 p1 p2 p3 p4 p5 p6 p7 p8 p9 p10 p11 p12 p13 p14 p15 p16 p17 p18 p19 p20 p21 p22 p23 p24 p25 x0_4 x0_5 x0_6 x0_7 x0_8 x0_12 x0_13 x0_14 x0_15 x0_16 x0_17 x0_18 x0_22 x0_23 x0_24 x0_25 x0_26 x0_27 x0_28 x0_29 x0_30 x0_31 x0_32 x0_36 x0_39 x0_40 x0_44 x0_49 x0_51 x0_53 x0_54 x0_55 x0_56 x0_57 x0_58 x0_59 x0_60 x0_61 x0_62 y1 y2 y3 y4 y5 y6 y7 y8 y9 y10 y11 y12 y13 y14 y15 y16 y17 y18 y19 y20 y21 y22 y23 y24 y25) sz [.ref p0]) (va_Qv (fun (_ : Unit) => True) (fun _ t => ∃ u_x0_25 : Int32, (0 ≤ u_x0_25.toInt ∧ u_x0_25.toInt ≤ 4000) ∧ (x0_25.toInt ≤ u_x0_25.toInt ∧ u_x0_25.toInt ≤ x0_24.toInt) ∧ va_P D classes (wS50 cI cJ cZ cB p0 p1 p2 p3 p4 p5 p6 p7 p8 p9 p10 p11 p12 p13 p14 p15 p16 p17 p18 p19 p20 p21 p22 p23 p24 p25 x0_4 x0_5 x0_6 x0_7 x0_8 x0_12 x0_13 x0_14 x0_15 x0_16 x0_17 x0_18 x0_22 x0_23 x0_24 u_x0_25 x0_26 x0_27 x0_28 x0_29 x0_30 x0_31 x0_32 x0_36 x0_39 x0_40 x0_44 x0_49 x0_51 x0_53 x0_54 x0_55 x0_56 x0_57 x0_58 x0_59 x0_60 x0_61 x0_62 y1 y2 y3 y4 y5 y6 y7 y8 y9 y10 y11 y12 y13 y14 y15 y16 y17 y18 y19 y20 y21 y22 y23 y24 y25) t.heap ∧ va_D (va_A (wS50 cI cJ cZ cB p0 p1 p2 p3 p4 p5 p6 p7 p8 p9 p10 p11 p12 p13 p14 p15 p16 p17 p18 p19 p20 p21 p22 p23 p24 p25 x0_4 x0_5 x0_6 x0_7 x0_8 x0_12 x0_13 x0_14 x0_15 x0_16 x0_17 x0_18 x0_22 x0_23 x0_24 x0_25 x0_26 x0_27 x0_28 x0_29 x0_30 x0_31 x0_32 x0_36 x0_39 x0_40 x0_44 x0_49 x0_51 x0_53 x0_54 x0_55 x0_56 x0_57 x0_58 x0_59 x0_60 x0_61 x0_62 y1 y2 y3 y4 y5 y6 y7 y8 y9 y10 y11 y12 y13 y14 y15 y16 y17 y18 y19 y20 y21 y22 y23 y24 y25) sz) (wS50 cI cJ cZ cB p0 p1 p2 p3 p4 p5 p6 p7 p8 p9 p10 p11 p12 p13 p14 p15 p16 p17 p18 p19 p20 p21 p22 p23 p24 p25 x0_4 x0_5 x0_6 x0_7 x0_8 x0_12 x0_13 x0_14 x0_15 x0_16 x0_17 x0_18 x0_22 x0_23 x0_24 u_x0_25 x0_26 x0_27 x0_28 x0_29 x0_30 x0_31 x0_32 x0_36 x0_39 x0_40 x0_44 x0_49 x0_51 x0_53 x0_54 x0_55 x0_56 x0_57 x0_58 x0_59 x0_60 x0_61 x0_62 y1 y2 y3 y4 y5 y6 y7 y8 y9 y10 y11 y12 y13 y14 y15 y16 y17 y18 y19 y20 y21 y22 y23 y24 y25)) (va_A (wS50 cI cJ cZ cB p0 p1 p2 p3 p4 p5 p6 p7 p8 p9 p10 p11 p12 p13 p14 p15 p16 p17 p18 p19 p20 p21 p22 p23 p24 p25 x0_4 x0_5 x0_6 x0_7 x0_8 x0_12 x0_13 x0_14 x0_15 x0_16 x0_17 x0_18 x0_22 x0_23 x0_24 x0_25 x0_26 x0_27 x0_28 x0_29 x0_30 x0_31 x0_32 x0_36 x0_39 x0_40 x0_44 x0_49 x0_51 x0_53 x0_54 x0_55 x0_56 x0_57 x0_58 x0_59 x0_60 x0_61 x0_62 y1 y2 y3 y4 y5 y6 y7 y8 y9 y10 y11 y12 y13 y14 y15 y16 y17 y18 y19 y20 y21 y22 y23 y24 y25) sz)) 0 0 (va_A (wS50 cI cJ cZ cB p0 p1 p2 p3 p4 p5 p6 p7 p8 p9 p10 p11 p12 p13 p14 p15 p16 p17 p18 p19 p20 p21 p22 p23 p24 p25 x0_4 x0_5 x0_6 x0_7 x0_8 x0_12 x0_13 x0_14 x0_15 x0_16 x0_17 x0_18 x0_22 x0_23 x0_24 x0_25 x0_26 x0_27 x0_28 x0_29 x0_30 x0_31 x0_32 x0_36 x0_39 x0_40 x0_44 x0_49 x0_51 x0_53 x0_54 x0_55 x0_56 x0_57 x0_58 x0_59 x0_60 x0_61 x0_62 y1 y2 y3 y4 y5 y6 y7 y8 y9 y10 y11 y12 y13 y14 y15 y16 y17 y18 y19 y20 y21 y22 y23 y24 y25) sz) := by
  refine Met.ofW (cc := b_X_skipBlanks) (maxL := 1) (ret := none) (by decide) rfl ?_
  intro p e s m args below meth c s₁ B hml hv
  obtain ⟨rfl, hsz, hK, hP, hD0⟩ := hv
  subst hsz
  have hD := hD0.self (sz := s.heap.size)
  generalize hAe : va_A (wS50 cI cJ cZ cB p0 p1 p2 p3 p4 p5 p6 p7 p8 p9 p10 p11 p12 p13 p14 p15 p16 p17 p18 p19 p20 p21 p22 p23 p24 p25 x0_4 x0_5 x0_6 x0_7 x0_8 x0_12 x0_13 x0_14 x0_15 x0_16 x0_17 x0_18 x0_22 x0_23 x0_24 x0_25 x0_26 x0_27 x0_28 x0_29 x0_30 x0_31 x0_32 x0_36 x0_39 x0_40 x0_44 x0_49 x0_51 x0_53 x0_54 x0_55 x0_56 x0_57 x0_58 x0_59 x0_60 x0_61 x0_62 y1 y2 y3 y4 y5 y6 y7 y8 y9 y10 y11 y12 y13 y14 y15 y16 y17 y18 y19 y20 y21 y22 y23 y24 y25) s.heap.size = A at hD ⊢
  have hA : ∀ q : Nat, s.heap.size ≤ q → A q := fun q h => by rw [← hAe]; exact Or.inr h
  clear hAe hD0
  have hS : va_S A s.heap s.heap [] := va_S.rf
  have hx := B.exec
  have hb := B.bytes
  have hr := B.returns
  have hts := atoms_spec (ws := .code y_X_skipBlanks b_X_skipBlanks 1 none :: tb) B.pre
  have hk : ∀ w ∈ tb, w.before [.ref p0].toArray s = true := fun w h => hts w (List.mem_cons_of_mem _ h)
  have hown : s.vm.findClass "SignMachineModel" = some m.cls := findClass_of_methodNamed B.named
  have hlocks := B.notSynchronized
  have hl := lv_entry ([.ref p0]) (n := 1) (Nat.le_of_ble_eq_true rfl)
  rw [lg_entry_eq]
  generalize (lg_sl ([.ref p0]) ++ List.replicate (1 - (lg_sl ([.ref p0])).length) Slot.unset).toArray = ls at hl ⊢
  have hl : lv_has ls 1 [(0, .ref p0)] := hl
  clear hts B
  have CUT0 : ∀ (n : Nat)  (g0x0_25 : Int32) (H : Heap) (locs : List Loc) (ls : Array Slot), (x0_24.toInt - g0x0_25.toInt) < (n : Int) → (0 ≤ g0x0_25.toInt ∧ g0x0_25.toInt ≤ 4000) → (g0x0_25.toInt ≤ x0_24.toInt) → (x0_25.toInt ≤ g0x0_25.toInt) → va_P D classes (wS50 cI cJ cZ cB p0 p1 p2 p3 p4 p5 p6 p7 p8 p9 p10 p11 p12 p13 p14 p15 p16 p17 p18 p19 p20 p21 p22 p23 p24 p25 x0_4 x0_5 x0_6 x0_7 x0_8 x0_12 x0_13 x0_14 x0_15 x0_16 x0_17 x0_18 x0_22 x0_23 x0_24 g0x0_25 x0_26 x0_27 x0_28 x0_29 x0_30 x0_31 x0_32 x0_36 x0_39 x0_40 x0_44 x0_49 x0_51 x0_53 x0_54 x0_55 x0_56 x0_57 x0_58 x0_59 x0_60 x0_61 x0_62 y1 y2 y3 y4 y5 y6 y7 y8 y9 y10 y11 y12 y13 y14 y15 y16 y17 y18 y19 y20 y21 y22 y23 y24 y25) H → va_D A (wS50 cI cJ cZ cB p0 p1 p2 p3 p4 p5 p6 p7 p8 p9 p10 p11 p12 p13 p14 p15 p16 p17 p18 p19 p20 p21 p22 p23 p24 p25 x0_4 x0_5 x0_6 x0_7 x0_8 x0_12 x0_13 x0_14 x0_15 x0_16 x0_17 x0_18 x0_22 x0_23 x0_24 g0x0_25 x0_26 x0_27 x0_28 x0_29 x0_30 x0_31 x0_32 x0_36 x0_39 x0_40 x0_44 x0_49 x0_51 x0_53 x0_54 x0_55 x0_56 x0_57 x0_58 x0_59 x0_60 x0_61 x0_62 y1 y2 y3 y4 y5 y6 y7 y8 y9 y10 y11 y12 y13 y14 y15 y16 y17 y18 y19 y20 y21 y22 y23 y24 y25) → va_S A s.heap H locs → lv_has ls 1 [(0, .ref p0)] → W p l e ({ frames := 1, cells := 0, slots := 0, locals := 20 }) s m [.ref p0].toArray below meth c H locs 0 0 (MQ below (va_Qv (fun (_ : Unit) => True) (fun _ t => ∃ u_x0_25 : Int32, (0 ≤ u_x0_25.toInt ∧ u_x0_25.toInt ≤ 4000) ∧ (x0_25.toInt ≤ u_x0_25.toInt ∧ u_x0_25.toInt ≤ x0_24.toInt) ∧ va_P D classes (wS50 cI cJ cZ cB p0 p1 p2 p3 p4 p5 p6 p7 p8 p9 p10 p11 p12 p13 p14 p15 p16 p17 p18 p19 p20 p21 p22 p23 p24 p25 x0_4 x0_5 x0_6 x0_7 x0_8 x0_12 x0_13 x0_14 x0_15 x0_16 x0_17 x0_18 x0_22 x0_23 x0_24 u_x0_25 x0_26 x0_27 x0_28 x0_29 x0_30 x0_31 x0_32 x0_36 x0_39 x0_40 x0_44 x0_49 x0_51 x0_53 x0_54 x0_55 x0_56 x0_57 x0_58 x0_59 x0_60 x0_61 x0_62 y1 y2 y3 y4 y5 y6 y7 y8 y9 y10 y11 y12 y13 y14 y15 y16 y17 y18 y19 y20 y21 y22 y23 y24 y25) t.heap ∧ va_D A (wS50 cI cJ cZ cB p0 p1 p2 p3 p4 p5 p6 p7 p8 p9 p10 p11 p12 p13 p14 p15 p16 p17 p18 p19 p20 p21 p22 p23 p24 p25 x0_4 x0_5 x0_6 x0_7 x0_8 x0_12 x0_13 x0_14 x0_15 x0_16 x0_17 x0_18 x0_22 x0_23 x0_24 u_x0_25 x0_26 x0_27 x0_28 x0_29 x0_30 x0_31 x0_32 x0_36 x0_39 x0_40 x0_44 x0_49 x0_51 x0_53 x0_54 x0_55 x0_56 x0_57 x0_58 x0_59 x0_60 x0_61 x0_62 y1 y2 y3 y4 y5 y6 y7 y8 y9 y10 y11 y12 y13 y14 y15 y16 y17 y18 y19 y20 y21 y22 y23 y24 y25)) A) [.ref p0].toArray s 0 0 A) (F0 m 0 ls []) := by
    intro n
    induction n with
    | zero => intro g0x0_25 H locs ls hn0 Rg0x0_25 I0_0 I0_1 hP hD hS hl; exfalso; omega
    | succ n ih0 =>
      intro g0x0_25 H locs ls hn0 Rg0x0_25 I0_0 I0_1 hP hD hS hl
      refine lv_aload_n hx hb d_X_skipBlanks_0 rfl (lv_at hl 0 rfl) ?_
      refine sn_i (va_runV (C := "SignMachineModel") (As := []) (rest := []) ⟨hx, hb, hml, hown, hk⟩ (c_X_here l D cI cJ cZ cB p0 p1 p2 p3 p4 p5 p6 p7 p8 p9 p10 p11 p12 p13 p14 p15 p16 p17 p18 p19 p20 p21 p22 p23 p24 p25 H.size x0_4 x0_5 x0_6 x0_7 x0_8 x0_12 x0_13 x0_14 x0_15 x0_16 x0_17 x0_18 x0_22 x0_23 x0_24 g0x0_25 x0_26 x0_27 x0_28 x0_29 x0_30 x0_31 x0_32 x0_36 x0_39 x0_40 x0_44 x0_49 x0_51 x0_53 x0_54 x0_55 x0_56 x0_57 x0_58 x0_59 x0_60 x0_61 x0_62 y1 y2 y3 y4 y5 y6 y7 y8 y9 y10 y11 y12 y13 y14 y15 y16 y17 y18 y19 y20 y21 y22 y23 y24 y25  Rx0_24 Rg0x0_25) (v_X_here hk k_1537 ⟨Nat.le_of_ble_eq_true rfl, Nat.le_of_ble_eq_true rfl⟩) (pM_v hK hP hD (ci := 7) (q0 := 0) rfl rfl rfl) rfl rfl hl.1 rfl (lv_room (Nat.le_of_ble_eq_true rfl)) d_X_skipBlanks_1 ⟨Nat.le_of_ble_eq_true rfl, Nat.le_of_ble_eq_true rfl⟩) hS hA hD (fun rz1 u t H locs hr0 ht hB hFr hS => ?_)
      subst hr0
      obtain ⟨F0z1, hP, hD⟩ := hB
      have F0z1 : (g0x0_25.toInt < x0_24.toInt ∧ rz1.toInt = (y10 (g0x0_25).toNatClampNeg).toInt) ∨ (x0_24.toInt ≤ g0x0_25.toInt ∧ rz1.toInt = -1) := F0z1
      rw [ht] at hP
      have hD := dwk hD hFr
      clear ht hFr
      have hP : va_P D classes (wS50 cI cJ cZ cB p0 p1 p2 p3 p4 p5 p6 p7 p8 p9 p10 p11 p12 p13 p14 p15 p16 p17 p18 p19 p20 p21 p22 p23 p24 p25 x0_4 x0_5 x0_6 x0_7 x0_8 x0_12 x0_13 x0_14 x0_15 x0_16 x0_17 x0_18 x0_22 x0_23 x0_24 g0x0_25 x0_26 x0_27 x0_28 x0_29 x0_30 x0_31 x0_32 x0_36 x0_39 x0_40 x0_44 x0_49 x0_51 x0_53 x0_54 x0_55 x0_56 x0_57 x0_58 x0_59 x0_60 x0_61 x0_62 y1 y2 y3 y4 y5 y6 y7 y8 y9 y10 y11 y12 y13 y14 y15 y16 y17 y18 y19 y20 y21 y22 y23 y24 y25) H := hP
      have hD : va_D A (wS50 cI cJ cZ cB p0 p1 p2 p3 p4 p5 p6 p7 p8 p9 p10 p11 p12 p13 p14 p15 p16 p17 p18 p19 p20 p21 p22 p23 p24 p25 x0_4 x0_5 x0_6 x0_7 x0_8 x0_12 x0_13 x0_14 x0_15 x0_16 x0_17 x0_18 x0_22 x0_23 x0_24 g0x0_25 x0_26 x0_27 x0_28 x0_29 x0_30 x0_31 x0_32 x0_36 x0_39 x0_40 x0_44 x0_49 x0_51 x0_53 x0_54 x0_55 x0_56 x0_57 x0_58 x0_59 x0_60 x0_61 x0_62 y1 y2 y3 y4 y5 y6 y7 y8 y9 y10 y11 y12 y13 y14 y15 y16 y17 y18 y19 y20 y21 y22 y23 y24 y25) := hD
      refine lv_bipush (v := 32) hx hb d_X_skipBlanks_4 (by decide) ?_
      refine lv_icmp_ne (tgt := 22) hx hb d_X_skipBlanks_6 (by decide) (fun c2 => ?_) (fun c2 => ?_)
      · have gc2 : rz1.toInt ≠ (32 : Int) := c_ne c2
        exact W.vret hx hb hr (fun t ht hW => ⟨⟨(), rfl, trivial, ⟨g0x0_25, Rg0x0_25, (show x0_25.toInt ≤ g0x0_25.toInt ∧ g0x0_25.toInt ≤ x0_24.toInt from by omega), by show va_P D classes _ t.heap; rw [ht]; exact hP, hD⟩⟩, hS.F ht⟩) hS.2.2 d_X_skipBlanks_22
      · have gc2 : rz1.toInt = (32 : Int) := c_eq c2
        have R3 : 32 ≤ rz1.toInt ∧ rz1.toInt ≤ 32 := by have q9 := fr3 rz1; omega
        refine lv_aload_n hx hb d_X_skipBlanks_9 rfl (lv_at hl 0 rfl) ?_
        refine lv_dup hx hb d_X_skipBlanks_10 rfl ?_
        refine va_get (D := D) (ci := 7) (v := .int g0x0_25) (C := "SignMachineModel") (T := F_X) (N := 64) hx hb hk fi_X hown hK.1 hP 0 rfl rfl 25 (by decide) (hk _ k_1146) (fun _ h9 => h9) rfl d_X_skipBlanks_11 ?_
        refine lv_iconst (v := 1) hx hb d_X_skipBlanks_14 (by decide) ?_
        refine lv_iadd hx hb d_X_skipBlanks_15 ?_
        refine lv_topi (fun v4 hv4 => ?_)
        obtain ⟨ev4, Rv4⟩ : v4.toInt = g0x0_25.toInt + (1 : Int) ∧ (1 ≤ v4.toInt ∧ v4.toInt ≤ 4001) := ad3 hv4 Rg0x0_25 (show 1 ≤ (1 : Int32).toInt ∧ (1 : Int32).toInt ≤ 1 from by decide) (by decide) (by decide) (by decide) (by decide)
        refine va_put (D := D) (ci := 7) (v := .int v4) (ty := .int) (C := "SignMachineModel") (T := F_X) (N := 64) hx hb hk fi_X ft_X ft_X_ok fn_X hown hK.1 hP hD hS 0 rfl rfl 25 (by decide) (hk _ k_1146) (fun _ h9 => h9) rfl (by decide +kernel) rfl rfl (Nat.le_of_ble_eq_true rfl) d_X_skipBlanks_16 (fun H locs hP hD hS => ?_)
        have hP : va_P D classes (wS50 cI cJ cZ cB p0 p1 p2 p3 p4 p5 p6 p7 p8 p9 p10 p11 p12 p13 p14 p15 p16 p17 p18 p19 p20 p21 p22 p23 p24 p25 x0_4 x0_5 x0_6 x0_7 x0_8 x0_12 x0_13 x0_14 x0_15 x0_16 x0_17 x0_18 x0_22 x0_23 x0_24 v4 x0_26 x0_27 x0_28 x0_29 x0_30 x0_31 x0_32 x0_36 x0_39 x0_40 x0_44 x0_49 x0_51 x0_53 x0_54 x0_55 x0_56 x0_57 x0_58 x0_59 x0_60 x0_61 x0_62 y1 y2 y3 y4 y5 y6 y7 y8 y9 y10 y11 y12 y13 y14 y15 y16 y17 y18 y19 y20 y21 y22 y23 y24 y25) H := hP
        have hD : va_D A (wS50 cI cJ cZ cB p0 p1 p2 p3 p4 p5 p6 p7 p8 p9 p10 p11 p12 p13 p14 p15 p16 p17 p18 p19 p20 p21 p22 p23 p24 p25 x0_4 x0_5 x0_6 x0_7 x0_8 x0_12 x0_13 x0_14 x0_15 x0_16 x0_17 x0_18 x0_22 x0_23 x0_24 v4 x0_26 x0_27 x0_28 x0_29 x0_30 x0_31 x0_32 x0_36 x0_39 x0_40 x0_44 x0_49 x0_51 x0_53 x0_54 x0_55 x0_56 x0_57 x0_58 x0_59 x0_60 x0_61 x0_62 y1 y2 y3 y4 y5 y6 y7 y8 y9 y10 y11 y12 y13 y14 y15 y16 y17 y18 y19 y20 y21 y22 y23 y24 y25) := hD
        refine lv_goto (tgt := 0) hx hb d_X_skipBlanks_19 (by decide) ?_
        exact ih0 v4 H _ ls (show x0_24.toInt - v4.toInt < (n : Int) from by omega) (by omega) (show v4.toInt ≤ x0_24.toInt from by omega) (show x0_25.toInt ≤ v4.toInt from by omega) hP hD hS (lv_sub hl [0] rfl)
  exact CUT0 ((x0_24.toInt - x0_25.toInt).toNat + 1) x0_25 s.heap _ ls (show (x0_24.toInt - x0_25.toInt) < (((x0_24.toInt - x0_25.toInt).toNat + 1 : Nat) : Int) from by omega) Rx0_25 (show x0_25.toInt ≤ x0_24.toInt from by omega) (show x0_25.toInt ≤ x0_25.toInt from by omega) hP hD hS (lv_sub hl [0] rfl)
theorem v_X_skipBlanks {R : Room} {s : State} {args : Array Value} {own : String} {index : Nat} (hk : ∀ w ∈ tb, w.before args s = true) (hl : Cond.methodLink own index y_X_skipBlanks ∈ tb) (hR : 1 + 1 ≤ R.frames ∧ 8 + (1 + 11) + 20 ≤ R.locals) : CallW R s args own "SignMachineModel" index y_X_skipBlanks b_X_skipBlanks 1 none (.code y_X_skipBlanks b_X_skipBlanks 1 none :: tb) ({ frames := 1, cells := 0, slots := 0, locals := 20 }) 0 0 0 := mk_v 0 hk k_1559 hl k_1558 k_94 k_119 rfl rfl h_X_skipBlanks hR
set_option maxHeartbeats 8000000 in
set_option maxRecDepth 100000 in
theorem c_X_readAlf (l : Launch) (D : va_G) (cI cJ cZ cB : ClassId) (p0 p1 p2 p3 p4 p5 p6 p7 p8 p9 p10 p11 p12 p13 p14 p15 p16 p17 p18 p19 p20 p21 p22 p23 p24 p25 : Nat) (sz : Nat) (x0_4 : Int32) (x0_5 : Int32) (x0_6 : Int32) (x0_7 : Int32) (x0_8 : Int32) (x0_12 : Int32) (x0_13 : Int32) (x0_14 : Int32) (x0_15 : Int32) (x0_16 : Int32) (x0_17 : Int32) (x0_18 : Int32) (x0_22 : Int32) (x0_23 : Int32) (x0_24 : Int32) (x0_25 : Int32) (x0_26 : Int32) (x0_27 : Int32) (x0_28 : Int32) (x0_29 : Int32) (x0_30 : Int32) (x0_31 : Int32) (x0_32 : Int32) (x0_36 : Int32) (x0_39 : Int32) (x0_40 : Int64) (x0_44 : Int32) (x0_49 : Int32) (x0_51 : Int32) (x0_53 : Int32) (x0_54 : Int32) (x0_55 : Int64) (x0_56 : Int32) (x0_57 : Int32) (x0_58 : Int32) (x0_59 : Int32) (x0_60 : Int32) (x0_61 : Int32) (x0_62 : Int64) (y1 : Nat → Int32) (y2 : Nat → Int32) (y3 : Nat → Int32) (y4 : Nat → Int32) (y5 : Nat → Int32) (y6 : Nat → Int32) (y7 : Nat → Int32) (y8 : Nat → Int32) (y9 : Nat → Int32) (y10 : Nat → Int32) (y11 : Nat → Int64) (y12 : Nat → Int32) (y13 : Nat → Int64) (y14 : Nat → Int32) (y15 : Nat → Int64) (y16 : Nat → Int32) (y17 : Nat → Int32) (y18 : Nat → Int32) (y19 : Nat → Int32) (y20 : Nat → Int32) (y21 : Nat → Int32) (y22 : Nat → Int32) (y23 : Nat → Int32) (y24 : Nat → Int64) (y25 : Nat → Int64)  (Rx0_24 : 0 ≤ x0_24.toInt ∧ x0_24.toInt ≤ 4000) (Rx0_25 : 0 ≤ x0_25.toInt ∧ x0_25.toInt ≤ 4000) (Rx0_26 : 0 ≤ x0_26.toInt ∧ x0_26.toInt ≤ 6) (Rx0_30 : (-1073741823) ≤ x0_30.toInt ∧ x0_30.toInt ≤ 1073741823) (Rx0_44 : 0 ≤ x0_44.toInt ∧ x0_44.toInt ≤ 4200) (Rx0_49 : 0 ≤ x0_49.toInt ∧ x0_49.toInt ≤ 4100) (Ay16 : ∀ i : Nat, (0 ≤ (y16 i).toInt ∧ (y16 i).toInt ≤ 3999)) (Ay17 : ∀ i : Nat, (0 ≤ (y17 i).toInt ∧ (y17 i).toInt ≤ 1)) (Ay18 : ∀ i : Nat, (0 ≤ (y18 i).toInt ∧ (y18 i).toInt ≤ 1073741823)) (Ay19 : ∀ i : Nat, (0 ≤ (y19 i).toInt ∧ (y19 i).toInt ≤ 4199)) (Q0 : x0_25.toInt ≤ x0_24.toInt) (Q1 : x0_44.toInt ≤ 4150) (Q2 : LX y19 y18 x0_49.toInt x0_44.toInt) : Met l y_X_readAlf (.code y_X_readAlf b_X_readAlf 5 none :: tb) ({ frames := 2, cells := 0, slots := 0, locals := 43 }) (pM D cI cJ cZ cB (wS50 cI cJ cZ cB p0 p1 p2 p3 p4 p5 p6 p7 p8 p9 p10 p11 p12 p13 p14 p15 p16 p17 p18 p19 p20 p21 p22 p23 p24 p25 x0_4 x0_5 x0_6 x0_7 x0_8 x0_12 x0_13 x0_14 x0_15 x0_16 x0_17 x0_18 x0_22 x0_23 x0_24 x0_25 x0_26 x0_27 x0_28 x0_29 x0_30 x0_31 x0_32 x0_36 x0_39 x0_40 x0_44 x0_49 x0_51 x0_53 x0_54 x0_55 x0_56 x0_57 x0_58 x0_59 x0_60 x0_61 x0_62 y1 y2 y3 y4 y5 y6 y7 y8 y9 y10 y11 y12 y13 y14 y15 y16 y17 y18 y19 y20 y21 y22 y23 y24 y25) sz [.ref p0]) (va_Qv (fun (_ : Unit) => True) (fun _ t => ∃ u_x0_25 : Int32, ∃ u_x0_26 : Int32, ∃ u_x0_30 : Int32, ∃ u_x0_44 : Int32, ∃ u_y16 : Nat → Int32, ∃ u_y17 : Nat → Int32, ∃ u_y18 : Nat → Int32, (0 ≤ u_x0_25.toInt ∧ u_x0_25.toInt ≤ 4000) ∧ (0 ≤ u_x0_26.toInt ∧ u_x0_26.toInt ≤ 6) ∧ ((-1073741823) ≤ u_x0_30.toInt ∧ u_x0_30.toInt ≤ 1073741823) ∧ (0 ≤ u_x0_44.toInt ∧ u_x0_44.toInt ≤ 4200) ∧ (∀ i : Nat, (0 ≤ (u_y16 i).toInt ∧ (u_y16 i).toInt ≤ 3999)) ∧ (∀ i : Nat, (0 ≤ (u_y17 i).toInt ∧ (u_y17 i).toInt ≤ 1)) ∧ (∀ i : Nat, (0 ≤ (u_y18 i).toInt ∧ (u_y18 i).toInt ≤ 1073741823)) ∧ (1 ≤ x0_26.toInt → 1 ≤ u_x0_26.toInt) ∧ (x0_44.toInt ≤ u_x0_44.toInt) ∧ (u_x0_44.toInt ≤ x0_44.toInt + 1) ∧ (LX y19 u_y18 x0_49.toInt u_x0_44.toInt) ∧ va_P D classes (wS50 cI cJ cZ cB p0 p1 p2 p3 p4 p5 p6 p7 p8 p9 p10 p11 p12 p13 p14 p15 p16 p17 p18 p19 p20 p21 p22 p23 p24 p25 x0_4 x0_5 x0_6 x0_7 x0_8 x0_12 x0_13 x0_14 x0_15 x0_16 x0_17 x0_18 x0_22 x0_23 x0_24 u_x0_25 u_x0_26 x0_27 x0_28 x0_29 u_x0_30 x0_31 x0_32 x0_36 x0_39 x0_40 u_x0_44 x0_49 x0_51 x0_53 x0_54 x0_55 x0_56 x0_57 x0_58 x0_59 x0_60 x0_61 x0_62 y1 y2 y3 y4 y5 y6 y7 y8 y9 y10 y11 y12 y13 y14 y15 u_y16 u_y17 u_y18 y19 y20 y21 y22 y23 y24 y25) t.heap ∧ va_D (va_A (wS50 cI cJ cZ cB p0 p1 p2 p3 p4 p5 p6 p7 p8 p9 p10 p11 p12 p13 p14 p15 p16 p17 p18 p19 p20 p21 p22 p23 p24 p25 x0_4 x0_5 x0_6 x0_7 x0_8 x0_12 x0_13 x0_14 x0_15 x0_16 x0_17 x0_18 x0_22 x0_23 x0_24 x0_25 x0_26 x0_27 x0_28 x0_29 x0_30 x0_31 x0_32 x0_36 x0_39 x0_40 x0_44 x0_49 x0_51 x0_53 x0_54 x0_55 x0_56 x0_57 x0_58 x0_59 x0_60 x0_61 x0_62 y1 y2 y3 y4 y5 y6 y7 y8 y9 y10 y11 y12 y13 y14 y15 y16 y17 y18 y19 y20 y21 y22 y23 y24 y25) sz) (wS50 cI cJ cZ cB p0 p1 p2 p3 p4 p5 p6 p7 p8 p9 p10 p11 p12 p13 p14 p15 p16 p17 p18 p19 p20 p21 p22 p23 p24 p25 x0_4 x0_5 x0_6 x0_7 x0_8 x0_12 x0_13 x0_14 x0_15 x0_16 x0_17 x0_18 x0_22 x0_23 x0_24 u_x0_25 u_x0_26 x0_27 x0_28 x0_29 u_x0_30 x0_31 x0_32 x0_36 x0_39 x0_40 u_x0_44 x0_49 x0_51 x0_53 x0_54 x0_55 x0_56 x0_57 x0_58 x0_59 x0_60 x0_61 x0_62 y1 y2 y3 y4 y5 y6 y7 y8 y9 y10 y11 y12 y13 y14 y15 u_y16 u_y17 u_y18 y19 y20 y21 y22 y23 y24 y25)) (va_A (wS50 cI cJ cZ cB p0 p1 p2 p3 p4 p5 p6 p7 p8 p9 p10 p11 p12 p13 p14 p15 p16 p17 p18 p19 p20 p21 p22 p23 p24 p25 x0_4 x0_5 x0_6 x0_7 x0_8 x0_12 x0_13 x0_14 x0_15 x0_16 x0_17 x0_18 x0_22 x0_23 x0_24 x0_25 x0_26 x0_27 x0_28 x0_29 x0_30 x0_31 x0_32 x0_36 x0_39 x0_40 x0_44 x0_49 x0_51 x0_53 x0_54 x0_55 x0_56 x0_57 x0_58 x0_59 x0_60 x0_61 x0_62 y1 y2 y3 y4 y5 y6 y7 y8 y9 y10 y11 y12 y13 y14 y15 y16 y17 y18 y19 y20 y21 y22 y23 y24 y25) sz)) 0 0 (va_A (wS50 cI cJ cZ cB p0 p1 p2 p3 p4 p5 p6 p7 p8 p9 p10 p11 p12 p13 p14 p15 p16 p17 p18 p19 p20 p21 p22 p23 p24 p25 x0_4 x0_5 x0_6 x0_7 x0_8 x0_12 x0_13 x0_14 x0_15 x0_16 x0_17 x0_18 x0_22 x0_23 x0_24 x0_25 x0_26 x0_27 x0_28 x0_29 x0_30 x0_31 x0_32 x0_36 x0_39 x0_40 x0_44 x0_49 x0_51 x0_53 x0_54 x0_55 x0_56 x0_57 x0_58 x0_59 x0_60 x0_61 x0_62 y1 y2 y3 y4 y5 y6 y7 y8 y9 y10 y11 y12 y13 y14 y15 y16 y17 y18 y19 y20 y21 y22 y23 y24 y25) sz) := by
  refine Met.ofW (cc := b_X_readAlf) (maxL := 5) (ret := none) (by decide) rfl ?_
  intro p e s m args below meth c s₁ B hml hv
  obtain ⟨rfl, hsz, hK, hP, hD0⟩ := hv
  subst hsz
  have hD := hD0.self (sz := s.heap.size)
  generalize hAe : va_A (wS50 cI cJ cZ cB p0 p1 p2 p3 p4 p5 p6 p7 p8 p9 p10 p11 p12 p13 p14 p15 p16 p17 p18 p19 p20 p21 p22 p23 p24 p25 x0_4 x0_5 x0_6 x0_7 x0_8 x0_12 x0_13 x0_14 x0_15 x0_16 x0_17 x0_18 x0_22 x0_23 x0_24 x0_25 x0_26 x0_27 x0_28 x0_29 x0_30 x0_31 x0_32 x0_36 x0_39 x0_40 x0_44 x0_49 x0_51 x0_53 x0_54 x0_55 x0_56 x0_57 x0_58 x0_59 x0_60 x0_61 x0_62 y1 y2 y3 y4 y5 y6 y7 y8 y9 y10 y11 y12 y13 y14 y15 y16 y17 y18 y19 y20 y21 y22 y23 y24 y25) s.heap.size = A at hD ⊢
  have hA : ∀ q : Nat, s.heap.size ≤ q → A q := fun q h => by rw [← hAe]; exact Or.inr h
  clear hAe hD0
  have hS : va_S A s.heap s.heap [] := va_S.rf
  have hx := B.exec
  have hb := B.bytes
  have hr := B.returns
  have hts := atoms_spec (ws := .code y_X_readAlf b_X_readAlf 5 none :: tb) B.pre
  have hk : ∀ w ∈ tb, w.before [.ref p0].toArray s = true := fun w h => hts w (List.mem_cons_of_mem _ h)
  have hown : s.vm.findClass "SignMachineModel" = some m.cls := findClass_of_methodNamed B.named
  have hlocks := B.notSynchronized
  have hl := lv_entry ([.ref p0]) (n := 5) (Nat.le_of_ble_eq_true rfl)
  rw [lg_entry_eq]
  generalize (lg_sl ([.ref p0]) ++ List.replicate (5 - (lg_sl ([.ref p0])).length) Slot.unset).toArray = ls at hl ⊢
  have hl : lv_has ls 5 [(0, .ref p0)] := hl
  clear hts B
  refine lv_iconst (v := 0) hx hb d_X_readAlf_0 (by decide) ?_
  refine lv_istore_n (lv' := [(1, .int (0 : Int32)), (0, .ref p0)]) hx hb d_X_readAlf_1 rfl hl (by decide) rfl (fun ls hl => ?_)
  refine lv_aload_n hx hb d_X_readAlf_2 rfl (lv_at hl 1 rfl) ?_
  refine sn_i (va_runV (C := "SignMachineModel") (As := []) (rest := []) ⟨hx, hb, hml, hown, hk⟩ (c_X_here l D cI cJ cZ cB p0 p1 p2 p3 p4 p5 p6 p7 p8 p9 p10 p11 p12 p13 p14 p15 p16 p17 p18 p19 p20 p21 p22 p23 p24 p25 s.heap.size x0_4 x0_5 x0_6 x0_7 x0_8 x0_12 x0_13 x0_14 x0_15 x0_16 x0_17 x0_18 x0_22 x0_23 x0_24 x0_25 x0_26 x0_27 x0_28 x0_29 x0_30 x0_31 x0_32 x0_36 x0_39 x0_40 x0_44 x0_49 x0_51 x0_53 x0_54 x0_55 x0_56 x0_57 x0_58 x0_59 x0_60 x0_61 x0_62 y1 y2 y3 y4 y5 y6 y7 y8 y9 y10 y11 y12 y13 y14 y15 y16 y17 y18 y19 y20 y21 y22 y23 y24 y25  Rx0_24 Rx0_25) (v_X_here hk k_1537 ⟨Nat.le_of_ble_eq_true rfl, Nat.le_of_ble_eq_true rfl⟩) (pM_v hK hP hD (ci := 7) (q0 := 0) rfl rfl rfl) rfl rfl hl.1 rfl (lv_room (Nat.le_of_ble_eq_true rfl)) d_X_readAlf_3 ⟨Nat.le_of_ble_eq_true rfl, Nat.le_of_ble_eq_true rfl⟩) hS hA hD (fun rz1 u t H locs hr0 ht hB hFr hS => ?_)
  subst hr0
  obtain ⟨F0z1, hP, hD⟩ := hB
  have F0z1 : (x0_25.toInt < x0_24.toInt ∧ rz1.toInt = (y10 (x0_25).toNatClampNeg).toInt) ∨ (x0_24.toInt ≤ x0_25.toInt ∧ rz1.toInt = -1) := F0z1
  rw [ht] at hP
  have hD := dwk hD hFr
  clear ht hFr
  have hP : va_P D classes (wS50 cI cJ cZ cB p0 p1 p2 p3 p4 p5 p6 p7 p8 p9 p10 p11 p12 p13 p14 p15 p16 p17 p18 p19 p20 p21 p22 p23 p24 p25 x0_4 x0_5 x0_6 x0_7 x0_8 x0_12 x0_13 x0_14 x0_15 x0_16 x0_17 x0_18 x0_22 x0_23 x0_24 x0_25 x0_26 x0_27 x0_28 x0_29 x0_30 x0_31 x0_32 x0_36 x0_39 x0_40 x0_44 x0_49 x0_51 x0_53 x0_54 x0_55 x0_56 x0_57 x0_58 x0_59 x0_60 x0_61 x0_62 y1 y2 y3 y4 y5 y6 y7 y8 y9 y10 y11 y12 y13 y14 y15 y16 y17 y18 y19 y20 y21 y22 y23 y24 y25) H := hP
  have hD : va_D A (wS50 cI cJ cZ cB p0 p1 p2 p3 p4 p5 p6 p7 p8 p9 p10 p11 p12 p13 p14 p15 p16 p17 p18 p19 p20 p21 p22 p23 p24 p25 x0_4 x0_5 x0_6 x0_7 x0_8 x0_12 x0_13 x0_14 x0_15 x0_16 x0_17 x0_18 x0_22 x0_23 x0_24 x0_25 x0_26 x0_27 x0_28 x0_29 x0_30 x0_31 x0_32 x0_36 x0_39 x0_40 x0_44 x0_49 x0_51 x0_53 x0_54 x0_55 x0_56 x0_57 x0_58 x0_59 x0_60 x0_61 x0_62 y1 y2 y3 y4 y5 y6 y7 y8 y9 y10 y11 y12 y13 y14 y15 y16 y17 y18 y19 y20 y21 y22 y23 y24 y25) := hD
  refine lv_bipush (v := 32) hx hb d_X_readAlf_6 (by decide) ?_
  refine lv_icmp_ne (tgt := 15) hx hb d_X_readAlf_8 (by decide) (fun c2 => ?_) (fun c2 => ?_)
  · have gc2 : rz1.toInt ≠ (32 : Int) := c_ne c2
    refine lv_iconst (v := 0) hx hb d_X_readAlf_15 (by decide) ?_
    refine lv_istore_n (lv' := [(2, .int (0 : Int32)), (1, .int (0 : Int32)), (0, .ref p0)]) hx hb d_X_readAlf_16 rfl hl (by decide) rfl (fun ls hl => ?_)
    refine lv_aload_n hx hb d_X_readAlf_17 rfl (lv_at hl 2 rfl) ?_
    refine lv_dup hx hb d_X_readAlf_18 rfl ?_
    refine va_get (D := D) (ci := 7) (v := .int x0_25) (C := "SignMachineModel") (T := F_X) (N := 64) hx hb hk fi_X hown hK.1 hP 0 rfl rfl 25 (by decide) (hk _ k_1146) (fun _ h9 => h9) rfl d_X_readAlf_19 ?_
    refine lv_iload_n hx hb d_X_readAlf_22 rfl (lv_at hl 0 rfl) ?_
    refine lv_if_eq (tgt := 30) hx hb d_X_readAlf_23 (by decide) (fun c3 => ?_) (fun c3 => absurd (show (0 : Int32) = (0 : Int32) from (by decide)) c3)
    refine lv_iconst (v := 0) hx hb d_X_readAlf_30 (by decide) ?_
    refine lv_iadd hx hb d_X_readAlf_31 ?_
    refine lv_topi (fun v4 hv4 => ?_)
    obtain ⟨ev4, Rv4⟩ : v4.toInt = x0_25.toInt + (0 : Int) ∧ (0 ≤ v4.toInt ∧ v4.toInt ≤ 4000) := ad3 hv4 Rx0_25 (show 0 ≤ (0 : Int32).toInt ∧ (0 : Int32).toInt ≤ 0 from by decide) (by decide) (by decide) (by decide) (by decide)
    refine va_put (D := D) (ci := 7) (v := .int v4) (ty := .int) (C := "SignMachineModel") (T := F_X) (N := 64) hx hb hk fi_X ft_X ft_X_ok fn_X hown hK.1 hP hD hS 0 rfl rfl 25 (by decide) (hk _ k_1146) (fun _ h9 => h9) rfl (by decide +kernel) rfl rfl (Nat.le_of_ble_eq_true rfl) d_X_readAlf_32 (fun H locs hP hD hS => ?_)
    have hP : va_P D classes (wS50 cI cJ cZ cB p0 p1 p2 p3 p4 p5 p6 p7 p8 p9 p10 p11 p12 p13 p14 p15 p16 p17 p18 p19 p20 p21 p22 p23 p24 p25 x0_4 x0_5 x0_6 x0_7 x0_8 x0_12 x0_13 x0_14 x0_15 x0_16 x0_17 x0_18 x0_22 x0_23 x0_24 v4 x0_26 x0_27 x0_28 x0_29 x0_30 x0_31 x0_32 x0_36 x0_39 x0_40 x0_44 x0_49 x0_51 x0_53 x0_54 x0_55 x0_56 x0_57 x0_58 x0_59 x0_60 x0_61 x0_62 y1 y2 y3 y4 y5 y6 y7 y8 y9 y10 y11 y12 y13 y14 y15 y16 y17 y18 y19 y20 y21 y22 y23 y24 y25) H := hP
    have hD : va_D A (wS50 cI cJ cZ cB p0 p1 p2 p3 p4 p5 p6 p7 p8 p9 p10 p11 p12 p13 p14 p15 p16 p17 p18 p19 p20 p21 p22 p23 p24 p25 x0_4 x0_5 x0_6 x0_7 x0_8 x0_12 x0_13 x0_14 x0_15 x0_16 x0_17 x0_18 x0_22 x0_23 x0_24 v4 x0_26 x0_27 x0_28 x0_29 x0_30 x0_31 x0_32 x0_36 x0_39 x0_40 x0_44 x0_49 x0_51 x0_53 x0_54 x0_55 x0_56 x0_57 x0_58 x0_59 x0_60 x0_61 x0_62 y1 y2 y3 y4 y5 y6 y7 y8 y9 y10 y11 y12 y13 y14 y15 y16 y17 y18 y19 y20 y21 y22 y23 y24 y25) := hD
    refine lv_iconst (v := 0) hx hb d_X_readAlf_35 (by decide) ?_
    refine lv_istore_n (lv' := [(3, .int (0 : Int32)), (2, .int (0 : Int32)), (1, .int (0 : Int32)), (0, .ref p0)]) hx hb d_X_readAlf_36 rfl hl (by decide) rfl (fun ls hl => ?_)
    have CUT37 : ∀ (n : Nat) (g37l3 : Int32) (g37l1 : Int32) (g37x0_25 : Int32) (g37x0_26 : Int32) (H : Heap) (locs : List Loc) (ls : Array Slot), (5 - g37l3.toInt) < (n : Int) → (0 ≤ g37l1.toInt ∧ g37l1.toInt ≤ 1073741823) → (0 ≤ g37l3.toInt ∧ g37l3.toInt ≤ 5) → (0 ≤ g37x0_25.toInt ∧ g37x0_25.toInt ≤ 4000) → (0 ≤ g37x0_26.toInt ∧ g37x0_26.toInt ≤ 6) → (g37x0_25.toInt ≤ x0_24.toInt) → (1 ≤ x0_26.toInt → 1 ≤ g37x0_26.toInt) → (g37l3.toInt = 0 → g37l1.toInt < 1) → (g37l3.toInt = 1 → g37l1.toInt < 64) → (g37l3.toInt = 2 → g37l1.toInt < 4096) → (g37l3.toInt = 3 → g37l1.toInt < 262144) → (g37l3.toInt = 4 → g37l1.toInt < 16777216) → (g37l3.toInt = 5 → g37l1.toInt < 1073741824) → va_P D classes (wS50 cI cJ cZ cB p0 p1 p2 p3 p4 p5 p6 p7 p8 p9 p10 p11 p12 p13 p14 p15 p16 p17 p18 p19 p20 p21 p22 p23 p24 p25 x0_4 x0_5 x0_6 x0_7 x0_8 x0_12 x0_13 x0_14 x0_15 x0_16 x0_17 x0_18 x0_22 x0_23 x0_24 g37x0_25 g37x0_26 x0_27 x0_28 x0_29 x0_30 x0_31 x0_32 x0_36 x0_39 x0_40 x0_44 x0_49 x0_51 x0_53 x0_54 x0_55 x0_56 x0_57 x0_58 x0_59 x0_60 x0_61 x0_62 y1 y2 y3 y4 y5 y6 y7 y8 y9 y10 y11 y12 y13 y14 y15 y16 y17 y18 y19 y20 y21 y22 y23 y24 y25) H → va_D A (wS50 cI cJ cZ cB p0 p1 p2 p3 p4 p5 p6 p7 p8 p9 p10 p11 p12 p13 p14 p15 p16 p17 p18 p19 p20 p21 p22 p23 p24 p25 x0_4 x0_5 x0_6 x0_7 x0_8 x0_12 x0_13 x0_14 x0_15 x0_16 x0_17 x0_18 x0_22 x0_23 x0_24 g37x0_25 g37x0_26 x0_27 x0_28 x0_29 x0_30 x0_31 x0_32 x0_36 x0_39 x0_40 x0_44 x0_49 x0_51 x0_53 x0_54 x0_55 x0_56 x0_57 x0_58 x0_59 x0_60 x0_61 x0_62 y1 y2 y3 y4 y5 y6 y7 y8 y9 y10 y11 y12 y13 y14 y15 y16 y17 y18 y19 y20 y21 y22 y23 y24 y25) → va_S A s.heap H locs → lv_has ls 5 [(3, .int g37l3), (2, .int (0 : Int32)), (1, .int g37l1), (0, .ref p0)] → W p l e ({ frames := 2, cells := 0, slots := 0, locals := 43 }) s m [.ref p0].toArray below meth c H locs 0 0 (MQ below (va_Qv (fun (_ : Unit) => True) (fun _ t => ∃ u_x0_25 : Int32, ∃ u_x0_26 : Int32, ∃ u_x0_30 : Int32, ∃ u_x0_44 : Int32, ∃ u_y16 : Nat → Int32, ∃ u_y17 : Nat → Int32, ∃ u_y18 : Nat → Int32, (0 ≤ u_x0_25.toInt ∧ u_x0_25.toInt ≤ 4000) ∧ (0 ≤ u_x0_26.toInt ∧ u_x0_26.toInt ≤ 6) ∧ ((-1073741823) ≤ u_x0_30.toInt ∧ u_x0_30.toInt ≤ 1073741823) ∧ (0 ≤ u_x0_44.toInt ∧ u_x0_44.toInt ≤ 4200) ∧ (∀ i : Nat, (0 ≤ (u_y16 i).toInt ∧ (u_y16 i).toInt ≤ 3999)) ∧ (∀ i : Nat, (0 ≤ (u_y17 i).toInt ∧ (u_y17 i).toInt ≤ 1)) ∧ (∀ i : Nat, (0 ≤ (u_y18 i).toInt ∧ (u_y18 i).toInt ≤ 1073741823)) ∧ (1 ≤ x0_26.toInt → 1 ≤ u_x0_26.toInt) ∧ (x0_44.toInt ≤ u_x0_44.toInt) ∧ (u_x0_44.toInt ≤ x0_44.toInt + 1) ∧ (LX y19 u_y18 x0_49.toInt u_x0_44.toInt) ∧ va_P D classes (wS50 cI cJ cZ cB p0 p1 p2 p3 p4 p5 p6 p7 p8 p9 p10 p11 p12 p13 p14 p15 p16 p17 p18 p19 p20 p21 p22 p23 p24 p25 x0_4 x0_5 x0_6 x0_7 x0_8 x0_12 x0_13 x0_14 x0_15 x0_16 x0_17 x0_18 x0_22 x0_23 x0_24 u_x0_25 u_x0_26 x0_27 x0_28 x0_29 u_x0_30 x0_31 x0_32 x0_36 x0_39 x0_40 u_x0_44 x0_49 x0_51 x0_53 x0_54 x0_55 x0_56 x0_57 x0_58 x0_59 x0_60 x0_61 x0_62 y1 y2 y3 y4 y5 y6 y7 y8 y9 y10 y11 y12 y13 y14 y15 u_y16 u_y17 u_y18 y19 y20 y21 y22 y23 y24 y25) t.heap ∧ va_D A (wS50 cI cJ cZ cB p0 p1 p2 p3 p4 p5 p6 p7 p8 p9 p10 p11 p12 p13 p14 p15 p16 p17 p18 p19 p20 p21 p22 p23 p24 p25 x0_4 x0_5 x0_6 x0_7 x0_8 x0_12 x0_13 x0_14 x0_15 x0_16 x0_17 x0_18 x0_22 x0_23 x0_24 u_x0_25 u_x0_26 x0_27 x0_28 x0_29 u_x0_30 x0_31 x0_32 x0_36 x0_39 x0_40 u_x0_44 x0_49 x0_51 x0_53 x0_54 x0_55 x0_56 x0_57 x0_58 x0_59 x0_60 x0_61 x0_62 y1 y2 y3 y4 y5 y6 y7 y8 y9 y10 y11 y12 y13 y14 y15 u_y16 u_y17 u_y18 y19 y20 y21 y22 y23 y24 y25)) A) [.ref p0].toArray s 0 0 A) (F0 m 37 ls []) := by
      intro n
      induction n with
      | zero => intro g37l3 g37l1 g37x0_25 g37x0_26 H locs ls hn37 Rg37l1 Rg37l3 Rg37x0_25 Rg37x0_26 I37_0 I37_1 I37_2 I37_3 I37_4 I37_5 I37_6 I37_7 hP hD hS hl; exfalso; omega
      | succ n ih37 =>
        intro g37l3 g37l1 g37x0_25 g37x0_26 H locs ls hn37 Rg37l1 Rg37l3 Rg37x0_25 Rg37x0_26 I37_0 I37_1 I37_2 I37_3 I37_4 I37_5 I37_6 I37_7 hP hD hS hl
        refine lv_iload_n hx hb d_X_readAlf_37 rfl (lv_at hl 0 rfl) ?_
        refine lv_iconst (v := 5) hx hb d_X_readAlf_38 (by decide) ?_
        refine lv_icmp_ge (tgt := 131) hx hb d_X_readAlf_39 (by decide) (fun c5 => ?_) (fun c5 => ?_)
        · have gc5 : (5 : Int) ≤ g37l3.toInt := c_le c5
          have R6 : 5 ≤ g37l3.toInt ∧ g37l3.toInt ≤ 5 := by omega
          refine lv_aload_n hx hb d_X_readAlf_131 rfl (lv_at hl 3 rfl) ?_
          refine lv_iconst (v := 0) hx hb d_X_readAlf_132 (by decide) ?_
          refine lv_iload_n hx hb d_X_readAlf_133 rfl (lv_at hl 2 rfl) ?_
          refine sn_i (va_runV (C := "SignMachineModel") (As := [.int (0 : Int32), .int g37l1]) (rest := []) ⟨hx, hb, hml, hown, hk⟩ (c_X_comes l D cI cJ cZ cB p0 p1 p2 p3 p4 p5 p6 p7 p8 p9 p10 p11 p12 p13 p14 p15 p16 p17 p18 p19 p20 p21 p22 p23 p24 p25 H.size x0_4 x0_5 x0_6 x0_7 x0_8 x0_12 x0_13 x0_14 x0_15 x0_16 x0_17 x0_18 x0_22 x0_23 x0_24 g37x0_25 g37x0_26 x0_27 x0_28 x0_29 x0_30 x0_31 x0_32 x0_36 x0_39 x0_40 x0_44 x0_49 x0_51 x0_53 x0_54 x0_55 x0_56 x0_57 x0_58 x0_59 x0_60 x0_61 x0_62 y1 y2 y3 y4 y5 y6 y7 y8 y9 y10 y11 y12 y13 y14 y15 y16 y17 y18 y19 y20 y21 y22 y23 y24 y25 (0 : Int32) g37l1 Rg37x0_26 Rx0_30 Rx0_44 Rx0_49 Ay16 Ay17 Ay18 Ay19 (show x0_44.toInt ≤ 4150 from by omega) (show LX y19 y18 x0_49.toInt x0_44.toInt from by first | assumption | exact lx_zero _ _ _) (by decide) Rg37l1) (v_X_comes hk k_1641 ⟨Nat.le_of_ble_eq_true rfl, Nat.le_of_ble_eq_true rfl⟩) (pM_v hK hP hD (ci := 7) (q0 := 0) rfl rfl rfl) rfl rfl hl.1 rfl (lv_room (Nat.le_of_ble_eq_true rfl)) d_X_readAlf_134 ⟨Nat.le_of_ble_eq_true rfl, Nat.le_of_ble_eq_true rfl⟩) hS hA hD (fun rz7 u t H locs hr0 ht hB hFr hS => ?_)
          subst hr0
          obtain ⟨x0_26z7, x0_30z7, x0_44z7, y16z7, y17z7, y18z7, Rx0_26z7, Rx0_30z7, Rx0_44z7, Ay16z7, Ay17z7, Ay18z7, F0z7, F1z7, F2z7, F3z7, F4z7, F5z7, hP, hD⟩ := hB
          have F0z7 : 0 ≤ rz7.toInt ∧ rz7.toInt ≤ 4199 := F0z7
          have F1z7 : 1 ≤ g37x0_26.toInt → 1 ≤ x0_26z7.toInt := F1z7
          have F2z7 : x0_44.toInt ≤ x0_44z7.toInt := F2z7
          have F3z7 : x0_44z7.toInt ≤ x0_44.toInt + 1 := F3z7
          have F4z7 : x0_26z7.toInt = 0 → (x0_44z7.toInt = x0_44.toInt + 1 ∧ rz7.toInt = x0_44.toInt ∧ (y18z7 (rz7).toNatClampNeg).toInt = g37l1.toInt) := F4z7
          have F5z7 : LX y19 y18z7 x0_49.toInt x0_44z7.toInt := F5z7
          rw [ht] at hP
          have hD := dwk hD hFr
          clear ht hFr
          have hP : va_P D classes (wS50 cI cJ cZ cB p0 p1 p2 p3 p4 p5 p6 p7 p8 p9 p10 p11 p12 p13 p14 p15 p16 p17 p18 p19 p20 p21 p22 p23 p24 p25 x0_4 x0_5 x0_6 x0_7 x0_8 x0_12 x0_13 x0_14 x0_15 x0_16 x0_17 x0_18 x0_22 x0_23 x0_24 g37x0_25 x0_26z7 x0_27 x0_28 x0_29 x0_30z7 x0_31 x0_32 x0_36 x0_39 x0_40 x0_44z7 x0_49 x0_51 x0_53 x0_54 x0_55 x0_56 x0_57 x0_58 x0_59 x0_60 x0_61 x0_62 y1 y2 y3 y4 y5 y6 y7 y8 y9 y10 y11 y12 y13 y14 y15 y16z7 y17z7 y18z7 y19 y20 y21 y22 y23 y24 y25) H := hP
          have hD : va_D A (wS50 cI cJ cZ cB p0 p1 p2 p3 p4 p5 p6 p7 p8 p9 p10 p11 p12 p13 p14 p15 p16 p17 p18 p19 p20 p21 p22 p23 p24 p25 x0_4 x0_5 x0_6 x0_7 x0_8 x0_12 x0_13 x0_14 x0_15 x0_16 x0_17 x0_18 x0_22 x0_23 x0_24 g37x0_25 x0_26z7 x0_27 x0_28 x0_29 x0_30z7 x0_31 x0_32 x0_36 x0_39 x0_40 x0_44z7 x0_49 x0_51 x0_53 x0_54 x0_55 x0_56 x0_57 x0_58 x0_59 x0_60 x0_61 x0_62 y1 y2 y3 y4 y5 y6 y7 y8 y9 y10 y11 y12 y13 y14 y15 y16z7 y17z7 y18z7 y19 y20 y21 y22 y23 y24 y25) := hD
          refine lv_pop hx hb d_X_readAlf_137 rfl ?_
          exact W.vret hx hb hr (fun t ht hW => ⟨⟨(), rfl, trivial, ⟨g37x0_25, x0_26z7, x0_30z7, x0_44z7, y16z7, y17z7, y18z7, Rg37x0_25, Rx0_26z7, Rx0_30z7, Rx0_44z7, Ay16z7, Ay17z7, Ay18z7, (show 1 ≤ x0_26.toInt → 1 ≤ x0_26z7.toInt from by omega), (show x0_44.toInt ≤ x0_44z7.toInt from by omega), (show x0_44z7.toInt ≤ x0_44.toInt + 1 from by omega), (show LX y19 y18z7 x0_49.toInt x0_44z7.toInt from by first | assumption | exact lx_zero _ _ _), by show va_P D classes _ t.heap; rw [ht]; exact hP, hD⟩⟩, hS.F ht⟩) hS.2.2 d_X_readAlf_138
        · have gc5 : g37l3.toInt < (5 : Int) := c_nle c5
          have R8 : 0 ≤ g37l3.toInt ∧ g37l3.toInt ≤ 4 := by omega
          have CUT104 : ∀ (g104l4 : Int32) (g104x0_25 : Int32) (H : Heap) (locs : List Loc) (ls : Array Slot), ((-1) ≤ g104l4.toInt ∧ g104l4.toInt ≤ 55) → (0 ≤ g104x0_25.toInt ∧ g104x0_25.toInt ≤ 4000) → (g104x0_25.toInt ≤ x0_24.toInt) → va_P D classes (wS50 cI cJ cZ cB p0 p1 p2 p3 p4 p5 p6 p7 p8 p9 p10 p11 p12 p13 p14 p15 p16 p17 p18 p19 p20 p21 p22 p23 p24 p25 x0_4 x0_5 x0_6 x0_7 x0_8 x0_12 x0_13 x0_14 x0_15 x0_16 x0_17 x0_18 x0_22 x0_23 x0_24 g104x0_25 g37x0_26 x0_27 x0_28 x0_29 x0_30 x0_31 x0_32 x0_36 x0_39 x0_40 x0_44 x0_49 x0_51 x0_53 x0_54 x0_55 x0_56 x0_57 x0_58 x0_59 x0_60 x0_61 x0_62 y1 y2 y3 y4 y5 y6 y7 y8 y9 y10 y11 y12 y13 y14 y15 y16 y17 y18 y19 y20 y21 y22 y23 y24 y25) H → va_D A (wS50 cI cJ cZ cB p0 p1 p2 p3 p4 p5 p6 p7 p8 p9 p10 p11 p12 p13 p14 p15 p16 p17 p18 p19 p20 p21 p22 p23 p24 p25 x0_4 x0_5 x0_6 x0_7 x0_8 x0_12 x0_13 x0_14 x0_15 x0_16 x0_17 x0_18 x0_22 x0_23 x0_24 g104x0_25 g37x0_26 x0_27 x0_28 x0_29 x0_30 x0_31 x0_32 x0_36 x0_39 x0_40 x0_44 x0_49 x0_51 x0_53 x0_54 x0_55 x0_56 x0_57 x0_58 x0_59 x0_60 x0_61 x0_62 y1 y2 y3 y4 y5 y6 y7 y8 y9 y10 y11 y12 y13 y14 y15 y16 y17 y18 y19 y20 y21 y22 y23 y24 y25) → va_S A s.heap H locs → lv_has ls 5 [(3, .int g37l3), (2, .int (0 : Int32)), (1, .int g37l1), (0, .ref p0), (4, .int g104l4)] → W p l e ({ frames := 2, cells := 0, slots := 0, locals := 43 }) s m [.ref p0].toArray below meth c H locs 0 0 (MQ below (va_Qv (fun (_ : Unit) => True) (fun _ t => ∃ u_x0_25 : Int32, ∃ u_x0_26 : Int32, ∃ u_x0_30 : Int32, ∃ u_x0_44 : Int32, ∃ u_y16 : Nat → Int32, ∃ u_y17 : Nat → Int32, ∃ u_y18 : Nat → Int32, (0 ≤ u_x0_25.toInt ∧ u_x0_25.toInt ≤ 4000) ∧ (0 ≤ u_x0_26.toInt ∧ u_x0_26.toInt ≤ 6) ∧ ((-1073741823) ≤ u_x0_30.toInt ∧ u_x0_30.toInt ≤ 1073741823) ∧ (0 ≤ u_x0_44.toInt ∧ u_x0_44.toInt ≤ 4200) ∧ (∀ i : Nat, (0 ≤ (u_y16 i).toInt ∧ (u_y16 i).toInt ≤ 3999)) ∧ (∀ i : Nat, (0 ≤ (u_y17 i).toInt ∧ (u_y17 i).toInt ≤ 1)) ∧ (∀ i : Nat, (0 ≤ (u_y18 i).toInt ∧ (u_y18 i).toInt ≤ 1073741823)) ∧ (1 ≤ x0_26.toInt → 1 ≤ u_x0_26.toInt) ∧ (x0_44.toInt ≤ u_x0_44.toInt) ∧ (u_x0_44.toInt ≤ x0_44.toInt + 1) ∧ (LX y19 u_y18 x0_49.toInt u_x0_44.toInt) ∧ va_P D classes (wS50 cI cJ cZ cB p0 p1 p2 p3 p4 p5 p6 p7 p8 p9 p10 p11 p12 p13 p14 p15 p16 p17 p18 p19 p20 p21 p22 p23 p24 p25 x0_4 x0_5 x0_6 x0_7 x0_8 x0_12 x0_13 x0_14 x0_15 x0_16 x0_17 x0_18 x0_22 x0_23 x0_24 u_x0_25 u_x0_26 x0_27 x0_28 x0_29 u_x0_30 x0_31 x0_32 x0_36 x0_39 x0_40 u_x0_44 x0_49 x0_51 x0_53 x0_54 x0_55 x0_56 x0_57 x0_58 x0_59 x0_60 x0_61 x0_62 y1 y2 y3 y4 y5 y6 y7 y8 y9 y10 y11 y12 y13 y14 y15 u_y16 u_y17 u_y18 y19 y20 y21 y22 y23 y24 y25) t.heap ∧ va_D A (wS50 cI cJ cZ cB p0 p1 p2 p3 p4 p5 p6 p7 p8 p9 p10 p11 p12 p13 p14 p15 p16 p17 p18 p19 p20 p21 p22 p23 p24 p25 x0_4 x0_5 x0_6 x0_7 x0_8 x0_12 x0_13 x0_14 x0_15 x0_16 x0_17 x0_18 x0_22 x0_23 x0_24 u_x0_25 u_x0_26 x0_27 x0_28 x0_29 u_x0_30 x0_31 x0_32 x0_36 x0_39 x0_40 u_x0_44 x0_49 x0_51 x0_53 x0_54 x0_55 x0_56 x0_57 x0_58 x0_59 x0_60 x0_61 x0_62 y1 y2 y3 y4 y5 y6 y7 y8 y9 y10 y11 y12 y13 y14 y15 u_y16 u_y17 u_y18 y19 y20 y21 y22 y23 y24 y25)) A) [.ref p0].toArray s 0 0 A) (F0 m 104 ls []) := by
            intro g104l4 g104x0_25 H locs ls Rg104l4 Rg104x0_25 I104_0 hP hD hS hl
            refine lv_iload hx hb d_X_readAlf_104 (lv_at hl 4 rfl) ?_
            refine lv_if_ge (tgt := 117) hx hb d_X_readAlf_106 (by decide) (fun c9 => ?_) (fun c9 => ?_)
            · have gc9 : (0 : Int) ≤ g104l4.toInt := c_le c9
              have R10 : 0 ≤ g104l4.toInt ∧ g104l4.toInt ≤ 55 := by omega
              have R11 : 0 ≤ g37l1.toInt ∧ g37l1.toInt ≤ 16777215 := by omega
              refine lv_iload_n hx hb d_X_readAlf_117 rfl (lv_at hl 2 rfl) ?_
              refine lv_bipush (v := 64) hx hb d_X_readAlf_118 (by decide) ?_
              refine lv_imul hx hb d_X_readAlf_120 ?_
              refine lv_topi (fun v12 hv12 => ?_)
              obtain ⟨ev12, Rv12⟩ : v12.toInt = g37l1.toInt * (64 : Int) ∧ (0 ≤ v12.toInt ∧ v12.toInt ≤ 1073741760) := ml3 hv12 R11 (show 64 ≤ (64 : Int32).toInt ∧ (64 : Int32).toInt ≤ 64 from by decide) (by decide) (by decide) (by decide) (by decide) (by decide) (by decide)
              refine lv_iload hx hb d_X_readAlf_121 (lv_at hl 4 rfl) ?_
              refine lv_iadd hx hb d_X_readAlf_123 ?_
              refine lv_topi (fun v13 hv13 => ?_)
              obtain ⟨ev13, Rv13⟩ : v13.toInt = v12.toInt + g104l4.toInt ∧ (0 ≤ v13.toInt ∧ v13.toInt ≤ 1073741815) := ad3 hv13 Rv12 R10 (by decide) (by decide) (by decide) (by decide)
              refine lv_istore_n (lv' := [(1, .int v13), (3, .int g37l3), (2, .int (0 : Int32)), (0, .ref p0), (4, .int g104l4)]) hx hb d_X_readAlf_124 rfl hl (by decide) rfl (fun ls hl => ?_)
              obtain ⟨v14, hv14⟩ : ∃ y : Int32, y = (g37l3 + (1 : Int32)) := ⟨_, rfl⟩
              obtain ⟨ev14, Rv14⟩ : v14.toInt = g37l3.toInt + 1 ∧ (1 ≤ v14.toInt ∧ v14.toInt ≤ 5) := ad3 hv14 R8 (y := (1 : Int32)) (c := 1) (d := 1) (by decide) (by decide) (by decide) (by decide) (by decide)
              refine lv_iinc (v := v14) (lv' := [(3, .int v14), (1, .int v13), (2, .int (0 : Int32)), (0, .ref p0), (4, .int g104l4)]) hx hb d_X_readAlf_125 hl (k := 1) rfl (by rw [hv14]; rfl) (by decide) rfl (fun ls hl => ?_)
              refine lv_goto (tgt := 37) hx hb d_X_readAlf_128 (by decide) ?_
              exact ih37 v14 v13 g104x0_25 g37x0_26 H _ ls (show 5 - v14.toInt < (n : Int) from by omega) (rgw Rv13 (by decide) (by decide)) (rgw Rv14 (by decide) (by decide)) Rg104x0_25 Rg37x0_26 (show g104x0_25.toInt ≤ x0_24.toInt from by omega) (show 1 ≤ x0_26.toInt → 1 ≤ g37x0_26.toInt from by omega) (show v14.toInt = 0 → v13.toInt < 1 from by omega) (show v14.toInt = 1 → v13.toInt < 64 from by omega) (show v14.toInt = 2 → v13.toInt < 4096 from by omega) (show v14.toInt = 3 → v13.toInt < 262144 from by omega) (show v14.toInt = 4 → v13.toInt < 16777216 from by omega) (show v14.toInt = 5 → v13.toInt < 1073741824 from by omega) hP hD hS (lv_sub hl [0, 2, 1, 3] rfl)
            · have gc9 : g104l4.toInt < (0 : Int) := c_nle c9
              have R15 : (-1) ≤ g104l4.toInt ∧ g104l4.toInt ≤ (-1) := by omega
              refine lv_aload_n hx hb d_X_readAlf_109 rfl (lv_at hl 3 rfl) ?_
              refine lv_iconst (v := 1) hx hb d_X_readAlf_110 (by decide) ?_
              refine kn_v (va_runV (C := "SignMachineModel") (As := [.int (1 : Int32)]) (rest := []) ⟨hx, hb, hml, hown, hk⟩ (c_X_bad l D cI cJ cZ cB p0 p1 p2 p3 p4 p5 p6 p7 p8 p9 p10 p11 p12 p13 p14 p15 p16 p17 p18 p19 p20 p21 p22 p23 p24 p25 H.size x0_4 x0_5 x0_6 x0_7 x0_8 x0_12 x0_13 x0_14 x0_15 x0_16 x0_17 x0_18 x0_22 x0_23 x0_24 g104x0_25 g37x0_26 x0_27 x0_28 x0_29 x0_30 x0_31 x0_32 x0_36 x0_39 x0_40 x0_44 x0_49 x0_51 x0_53 x0_54 x0_55 x0_56 x0_57 x0_58 x0_59 x0_60 x0_61 x0_62 y1 y2 y3 y4 y5 y6 y7 y8 y9 y10 y11 y12 y13 y14 y15 y16 y17 y18 y19 y20 y21 y22 y23 y24 y25 (1 : Int32) Rg37x0_26 (by decide)) (v_X_bad hk k_1552 ⟨Nat.le_of_ble_eq_true rfl, Nat.le_of_ble_eq_true rfl⟩) (pM_v hK hP hD (ci := 7) (q0 := 0) rfl rfl rfl) rfl rfl hl.1 rfl (lv_room (Nat.le_of_ble_eq_true rfl)) d_X_readAlf_111 ⟨Nat.le_of_ble_eq_true rfl, Nat.le_of_ble_eq_true rfl⟩) hS hA hD (fun u t H locs ht hB hFr hS => ?_)
              obtain ⟨x0_26z16, Rx0_26z16, F0z16, hP, hD⟩ := hB
              have F0z16 : 1 ≤ x0_26z16.toInt := F0z16
              rw [ht] at hP
              have hD := dwk hD hFr
              clear ht hFr
              have hP : va_P D classes (wS50 cI cJ cZ cB p0 p1 p2 p3 p4 p5 p6 p7 p8 p9 p10 p11 p12 p13 p14 p15 p16 p17 p18 p19 p20 p21 p22 p23 p24 p25 x0_4 x0_5 x0_6 x0_7 x0_8 x0_12 x0_13 x0_14 x0_15 x0_16 x0_17 x0_18 x0_22 x0_23 x0_24 g104x0_25 x0_26z16 x0_27 x0_28 x0_29 x0_30 x0_31 x0_32 x0_36 x0_39 x0_40 x0_44 x0_49 x0_51 x0_53 x0_54 x0_55 x0_56 x0_57 x0_58 x0_59 x0_60 x0_61 x0_62 y1 y2 y3 y4 y5 y6 y7 y8 y9 y10 y11 y12 y13 y14 y15 y16 y17 y18 y19 y20 y21 y22 y23 y24 y25) H := hP
              have hD : va_D A (wS50 cI cJ cZ cB p0 p1 p2 p3 p4 p5 p6 p7 p8 p9 p10 p11 p12 p13 p14 p15 p16 p17 p18 p19 p20 p21 p22 p23 p24 p25 x0_4 x0_5 x0_6 x0_7 x0_8 x0_12 x0_13 x0_14 x0_15 x0_16 x0_17 x0_18 x0_22 x0_23 x0_24 g104x0_25 x0_26z16 x0_27 x0_28 x0_29 x0_30 x0_31 x0_32 x0_36 x0_39 x0_40 x0_44 x0_49 x0_51 x0_53 x0_54 x0_55 x0_56 x0_57 x0_58 x0_59 x0_60 x0_61 x0_62 y1 y2 y3 y4 y5 y6 y7 y8 y9 y10 y11 y12 y13 y14 y15 y16 y17 y18 y19 y20 y21 y22 y23 y24 y25) := hD
              refine lv_iconst (v := 0) hx hb d_X_readAlf_114 (by decide) ?_
              refine lv_istore (lv' := [(4, .int (0 : Int32)), (3, .int g37l3), (2, .int (0 : Int32)), (1, .int g37l1), (0, .ref p0)]) hx hb d_X_readAlf_115 hl (by decide) rfl (fun ls hl => ?_)
              have R17 : 0 ≤ g37l1.toInt ∧ g37l1.toInt ≤ 16777215 := by omega
              refine lv_iload_n hx hb d_X_readAlf_117 rfl (lv_at hl 3 rfl) ?_
              refine lv_bipush (v := 64) hx hb d_X_readAlf_118 (by decide) ?_
              refine lv_imul hx hb d_X_readAlf_120 ?_
              refine lv_topi (fun v18 hv18 => ?_)
              obtain ⟨ev18, Rv18⟩ : v18.toInt = g37l1.toInt * (64 : Int) ∧ (0 ≤ v18.toInt ∧ v18.toInt ≤ 1073741760) := ml3 hv18 R17 (show 64 ≤ (64 : Int32).toInt ∧ (64 : Int32).toInt ≤ 64 from by decide) (by decide) (by decide) (by decide) (by decide) (by decide) (by decide)
              refine lv_iload hx hb d_X_readAlf_121 (lv_at hl 0 rfl) ?_
              refine lv_iadd hx hb d_X_readAlf_123 ?_
              refine lv_topi (fun v19 hv19 => ?_)
              obtain ⟨ev19, Rv19⟩ : v19.toInt = v18.toInt + (0 : Int) ∧ (0 ≤ v19.toInt ∧ v19.toInt ≤ 1073741760) := ad3 hv19 Rv18 (show 0 ≤ (0 : Int32).toInt ∧ (0 : Int32).toInt ≤ 0 from by decide) (by decide) (by decide) (by decide) (by decide)
              refine lv_istore_n (lv' := [(1, .int v19), (4, .int (0 : Int32)), (3, .int g37l3), (2, .int (0 : Int32)), (0, .ref p0)]) hx hb d_X_readAlf_124 rfl hl (by decide) rfl (fun ls hl => ?_)
              obtain ⟨v20, hv20⟩ : ∃ y : Int32, y = (g37l3 + (1 : Int32)) := ⟨_, rfl⟩
              obtain ⟨ev20, Rv20⟩ : v20.toInt = g37l3.toInt + 1 ∧ (1 ≤ v20.toInt ∧ v20.toInt ≤ 5) := ad3 hv20 R8 (y := (1 : Int32)) (c := 1) (d := 1) (by decide) (by decide) (by decide) (by decide) (by decide)
              refine lv_iinc (v := v20) (lv' := [(3, .int v20), (1, .int v19), (4, .int (0 : Int32)), (2, .int (0 : Int32)), (0, .ref p0)]) hx hb d_X_readAlf_125 hl (k := 2) rfl (by rw [hv20]; rfl) (by decide) rfl (fun ls hl => ?_)
              refine lv_goto (tgt := 37) hx hb d_X_readAlf_128 (by decide) ?_
              exact ih37 v20 v19 g104x0_25 x0_26z16 H _ ls (show 5 - v20.toInt < (n : Int) from by omega) (rgw Rv19 (by decide) (by decide)) (rgw Rv20 (by decide) (by decide)) Rg104x0_25 Rx0_26z16 (show g104x0_25.toInt ≤ x0_24.toInt from by omega) (show 1 ≤ x0_26.toInt → 1 ≤ x0_26z16.toInt from by omega) (show v20.toInt = 0 → v19.toInt < 1 from by omega) (show v20.toInt = 1 → v19.toInt < 64 from by omega) (show v20.toInt = 2 → v19.toInt < 4096 from by omega) (show v20.toInt = 3 → v19.toInt < 262144 from by omega) (show v20.toInt = 4 → v19.toInt < 16777216 from by omega) (show v20.toInt = 5 → v19.toInt < 1073741824 from by omega) hP hD hS (lv_sub hl [0, 3, 1, 4] rfl)
          refine lv_iload_n hx hb d_X_readAlf_42 rfl (lv_at hl 1 rfl) ?_
          refine lv_if_eq (tgt := 72) hx hb d_X_readAlf_43 (by decide) (fun c21 => ?_) (fun c21 => absurd (show (0 : Int32) = (0 : Int32) from (by decide)) c21)
          refine lv_iconst (v := 0) hx hb d_X_readAlf_72 (by decide) ?_
          refine lv_istore (lv' := [(4, .int (0 : Int32)), (3, .int g37l3), (2, .int (0 : Int32)), (1, .int g37l1), (0, .ref p0)]) hx hb d_X_readAlf_73 hl (by decide) rfl (fun ls hl => ?_)
          refine lv_aload_n hx hb d_X_readAlf_75 rfl (lv_at hl 4 rfl) ?_
          refine lv_dup hx hb d_X_readAlf_76 rfl ?_
          refine va_get (D := D) (ci := 7) (v := .int g37x0_25) (C := "SignMachineModel") (T := F_X) (N := 64) hx hb hk fi_X hown hK.1 hP 0 rfl rfl 25 (by decide) (hk _ k_1146) (fun _ h9 => h9) rfl d_X_readAlf_77 ?_
          refine lv_iload_n hx hb d_X_readAlf_80 rfl (lv_at hl 2 rfl) ?_
          refine lv_if_eq (tgt := 99) hx hb d_X_readAlf_81 (by decide) (fun c22 => ?_) (fun c22 => absurd (show (0 : Int32) = (0 : Int32) from (by decide)) c22)
          refine lv_iconst (v := 0) hx hb d_X_readAlf_99 (by decide) ?_
          refine lv_iadd hx hb d_X_readAlf_100 ?_
          refine lv_topi (fun v23 hv23 => ?_)
          obtain ⟨ev23, Rv23⟩ : v23.toInt = g37x0_25.toInt + (0 : Int) ∧ (0 ≤ v23.toInt ∧ v23.toInt ≤ 4000) := ad3 hv23 Rg37x0_25 (show 0 ≤ (0 : Int32).toInt ∧ (0 : Int32).toInt ≤ 0 from by decide) (by decide) (by decide) (by decide) (by decide)
          refine va_put (D := D) (ci := 7) (v := .int v23) (ty := .int) (C := "SignMachineModel") (T := F_X) (N := 64) hx hb hk fi_X ft_X ft_X_ok fn_X hown hK.1 hP hD hS 0 rfl rfl 25 (by decide) (hk _ k_1146) (fun _ h9 => h9) rfl (by decide +kernel) rfl rfl (Nat.le_of_ble_eq_true rfl) d_X_readAlf_101 (fun H locs hP hD hS => ?_)
          have hP : va_P D classes (wS50 cI cJ cZ cB p0 p1 p2 p3 p4 p5 p6 p7 p8 p9 p10 p11 p12 p13 p14 p15 p16 p17 p18 p19 p20 p21 p22 p23 p24 p25 x0_4 x0_5 x0_6 x0_7 x0_8 x0_12 x0_13 x0_14 x0_15 x0_16 x0_17 x0_18 x0_22 x0_23 x0_24 v23 g37x0_26 x0_27 x0_28 x0_29 x0_30 x0_31 x0_32 x0_36 x0_39 x0_40 x0_44 x0_49 x0_51 x0_53 x0_54 x0_55 x0_56 x0_57 x0_58 x0_59 x0_60 x0_61 x0_62 y1 y2 y3 y4 y5 y6 y7 y8 y9 y10 y11 y12 y13 y14 y15 y16 y17 y18 y19 y20 y21 y22 y23 y24 y25) H := hP
          have hD : va_D A (wS50 cI cJ cZ cB p0 p1 p2 p3 p4 p5 p6 p7 p8 p9 p10 p11 p12 p13 p14 p15 p16 p17 p18 p19 p20 p21 p22 p23 p24 p25 x0_4 x0_5 x0_6 x0_7 x0_8 x0_12 x0_13 x0_14 x0_15 x0_16 x0_17 x0_18 x0_22 x0_23 x0_24 v23 g37x0_26 x0_27 x0_28 x0_29 x0_30 x0_31 x0_32 x0_36 x0_39 x0_40 x0_44 x0_49 x0_51 x0_53 x0_54 x0_55 x0_56 x0_57 x0_58 x0_59 x0_60 x0_61 x0_62 y1 y2 y3 y4 y5 y6 y7 y8 y9 y10 y11 y12 y13 y14 y15 y16 y17 y18 y19 y20 y21 y22 y23 y24 y25) := hD
          exact CUT104 (0 : Int32) v23 H _ ls (by decide) Rv23 (show v23.toInt ≤ x0_24.toInt from by omega) hP hD hS (lv_sub hl [1, 2, 3, 4, 0] rfl)
    exact CUT37 ((5 - (0 : Int)).toNat + 1) (0 : Int32) (0 : Int32) v4 x0_26 H _ ls (show (5 - (0 : Int)) < (((5 - (0 : Int)).toNat + 1 : Nat) : Int) from by omega) (by decide) (by decide) Rv4 Rx0_26 (show v4.toInt ≤ x0_24.toInt from by omega) (show 1 ≤ x0_26.toInt → 1 ≤ x0_26.toInt from by omega) (show (0 : Int) = 0 → (0 : Int) < 1 from by omega) (show (0 : Int) = 1 → (0 : Int) < 64 from by omega) (show (0 : Int) = 2 → (0 : Int) < 4096 from by omega) (show (0 : Int) = 3 → (0 : Int) < 262144 from by omega) (show (0 : Int) = 4 → (0 : Int) < 16777216 from by omega) (show (0 : Int) = 5 → (0 : Int) < 1073741824 from by omega) hP hD hS (lv_sub hl [0, 1, 2, 3] rfl)
  · have gc2 : rz1.toInt = (32 : Int) := c_eq c2
    have R24 : 32 ≤ rz1.toInt ∧ rz1.toInt ≤ 32 := by have q9 := fr3 rz1; omega
    refine lv_iconst (v := 1) hx hb d_X_readAlf_11 (by decide) ?_
    refine lv_goto (tgt := 16) hx hb d_X_readAlf_12 (by decide) ?_
    refine lv_istore_n (lv' := [(2, .int (1 : Int32)), (1, .int (0 : Int32)), (0, .ref p0)]) hx hb d_X_readAlf_16 rfl hl (by decide) rfl (fun ls hl => ?_)
    refine lv_aload_n hx hb d_X_readAlf_17 rfl (lv_at hl 2 rfl) ?_
    refine lv_dup hx hb d_X_readAlf_18 rfl ?_
    refine va_get (D := D) (ci := 7) (v := .int x0_25) (C := "SignMachineModel") (T := F_X) (N := 64) hx hb hk fi_X hown hK.1 hP 0 rfl rfl 25 (by decide) (hk _ k_1146) (fun _ h9 => h9) rfl d_X_readAlf_19 ?_
    refine lv_iload_n hx hb d_X_readAlf_22 rfl (lv_at hl 0 rfl) ?_
    refine lv_if_eq (tgt := 30) hx hb d_X_readAlf_23 (by decide) (fun c25 => absurd c25 (show ¬ (1 : Int32) = (0 : Int32) from (by decide))) (fun c25 => ?_)
    refine lv_iconst (v := 1) hx hb d_X_readAlf_26 (by decide) ?_
    refine lv_goto (tgt := 31) hx hb d_X_readAlf_27 (by decide) ?_
    refine lv_iadd hx hb d_X_readAlf_31 ?_
    refine lv_topi (fun v26 hv26 => ?_)
    obtain ⟨ev26, Rv26⟩ : v26.toInt = x0_25.toInt + (1 : Int) ∧ (1 ≤ v26.toInt ∧ v26.toInt ≤ 4001) := ad3 hv26 Rx0_25 (show 1 ≤ (1 : Int32).toInt ∧ (1 : Int32).toInt ≤ 1 from by decide) (by decide) (by decide) (by decide) (by decide)
    refine va_put (D := D) (ci := 7) (v := .int v26) (ty := .int) (C := "SignMachineModel") (T := F_X) (N := 64) hx hb hk fi_X ft_X ft_X_ok fn_X hown hK.1 hP hD hS 0 rfl rfl 25 (by decide) (hk _ k_1146) (fun _ h9 => h9) rfl (by decide +kernel) rfl rfl (Nat.le_of_ble_eq_true rfl) d_X_readAlf_32 (fun H locs hP hD hS => ?_)
    have hP : va_P D classes (wS50 cI cJ cZ cB p0 p1 p2 p3 p4 p5 p6 p7 p8 p9 p10 p11 p12 p13 p14 p15 p16 p17 p18 p19 p20 p21 p22 p23 p24 p25 x0_4 x0_5 x0_6 x0_7 x0_8 x0_12 x0_13 x0_14 x0_15 x0_16 x0_17 x0_18 x0_22 x0_23 x0_24 v26 x0_26 x0_27 x0_28 x0_29 x0_30 x0_31 x0_32 x0_36 x0_39 x0_40 x0_44 x0_49 x0_51 x0_53 x0_54 x0_55 x0_56 x0_57 x0_58 x0_59 x0_60 x0_61 x0_62 y1 y2 y3 y4 y5 y6 y7 y8 y9 y10 y11 y12 y13 y14 y15 y16 y17 y18 y19 y20 y21 y22 y23 y24 y25) H := hP
    have hD : va_D A (wS50 cI cJ cZ cB p0 p1 p2 p3 p4 p5 p6 p7 p8 p9 p10 p11 p12 p13 p14 p15 p16 p17 p18 p19 p20 p21 p22 p23 p24 p25 x0_4 x0_5 x0_6 x0_7 x0_8 x0_12 x0_13 x0_14 x0_15 x0_16 x0_17 x0_18 x0_22 x0_23 x0_24 v26 x0_26 x0_27 x0_28 x0_29 x0_30 x0_31 x0_32 x0_36 x0_39 x0_40 x0_44 x0_49 x0_51 x0_53 x0_54 x0_55 x0_56 x0_57 x0_58 x0_59 x0_60 x0_61 x0_62 y1 y2 y3 y4 y5 y6 y7 y8 y9 y10 y11 y12 y13 y14 y15 y16 y17 y18 y19 y20 y21 y22 y23 y24 y25) := hD
    refine lv_iconst (v := 0) hx hb d_X_readAlf_35 (by decide) ?_
    refine lv_istore_n (lv' := [(3, .int (0 : Int32)), (2, .int (1 : Int32)), (1, .int (0 : Int32)), (0, .ref p0)]) hx hb d_X_readAlf_36 rfl hl (by decide) rfl (fun ls hl => ?_)
    have CUT37 : ∀ (n : Nat) (g37l3 : Int32) (g37l1 : Int32) (g37x0_25 : Int32) (g37x0_26 : Int32) (H : Heap) (locs : List Loc) (ls : Array Slot), (5 - g37l3.toInt) < (n : Int) → (0 ≤ g37l1.toInt ∧ g37l1.toInt ≤ 1073741823) → (0 ≤ g37l3.toInt ∧ g37l3.toInt ≤ 5) → (0 ≤ g37x0_25.toInt ∧ g37x0_25.toInt ≤ 4000) → (0 ≤ g37x0_26.toInt ∧ g37x0_26.toInt ≤ 6) → (g37x0_25.toInt ≤ x0_24.toInt) → (1 ≤ x0_26.toInt → 1 ≤ g37x0_26.toInt) → (g37l3.toInt = 0 → g37l1.toInt < 1) → (g37l3.toInt = 1 → g37l1.toInt < 64) → (g37l3.toInt = 2 → g37l1.toInt < 4096) → (g37l3.toInt = 3 → g37l1.toInt < 262144) → (g37l3.toInt = 4 → g37l1.toInt < 16777216) → (g37l3.toInt = 5 → g37l1.toInt < 1073741824) → va_P D classes (wS50 cI cJ cZ cB p0 p1 p2 p3 p4 p5 p6 p7 p8 p9 p10 p11 p12 p13 p14 p15 p16 p17 p18 p19 p20 p21 p22 p23 p24 p25 x0_4 x0_5 x0_6 x0_7 x0_8 x0_12 x0_13 x0_14 x0_15 x0_16 x0_17 x0_18 x0_22 x0_23 x0_24 g37x0_25 g37x0_26 x0_27 x0_28 x0_29 x0_30 x0_31 x0_32 x0_36 x0_39 x0_40 x0_44 x0_49 x0_51 x0_53 x0_54 x0_55 x0_56 x0_57 x0_58 x0_59 x0_60 x0_61 x0_62 y1 y2 y3 y4 y5 y6 y7 y8 y9 y10 y11 y12 y13 y14 y15 y16 y17 y18 y19 y20 y21 y22 y23 y24 y25) H → va_D A (wS50 cI cJ cZ cB p0 p1 p2 p3 p4 p5 p6 p7 p8 p9 p10 p11 p12 p13 p14 p15 p16 p17 p18 p19 p20 p21 p22 p23 p24 p25 x0_4 x0_5 x0_6 x0_7 x0_8 x0_12 x0_13 x0_14 x0_15 x0_16 x0_17 x0_18 x0_22 x0_23 x0_24 g37x0_25 g37x0_26 x0_27 x0_28 x0_29 x0_30 x0_31 x0_32 x0_36 x0_39 x0_40 x0_44 x0_49 x0_51 x0_53 x0_54 x0_55 x0_56 x0_57 x0_58 x0_59 x0_60 x0_61 x0_62 y1 y2 y3 y4 y5 y6 y7 y8 y9 y10 y11 y12 y13 y14 y15 y16 y17 y18 y19 y20 y21 y22 y23 y24 y25) → va_S A s.heap H locs → lv_has ls 5 [(3, .int g37l3), (2, .int (1 : Int32)), (1, .int g37l1), (0, .ref p0)] → W p l e ({ frames := 2, cells := 0, slots := 0, locals := 43 }) s m [.ref p0].toArray below meth c H locs 0 0 (MQ below (va_Qv (fun (_ : Unit) => True) (fun _ t => ∃ u_x0_25 : Int32, ∃ u_x0_26 : Int32, ∃ u_x0_30 : Int32, ∃ u_x0_44 : Int32, ∃ u_y16 : Nat → Int32, ∃ u_y17 : Nat → Int32, ∃ u_y18 : Nat → Int32, (0 ≤ u_x0_25.toInt ∧ u_x0_25.toInt ≤ 4000) ∧ (0 ≤ u_x0_26.toInt ∧ u_x0_26.toInt ≤ 6) ∧ ((-1073741823) ≤ u_x0_30.toInt ∧ u_x0_30.toInt ≤ 1073741823) ∧ (0 ≤ u_x0_44.toInt ∧ u_x0_44.toInt ≤ 4200) ∧ (∀ i : Nat, (0 ≤ (u_y16 i).toInt ∧ (u_y16 i).toInt ≤ 3999)) ∧ (∀ i : Nat, (0 ≤ (u_y17 i).toInt ∧ (u_y17 i).toInt ≤ 1)) ∧ (∀ i : Nat, (0 ≤ (u_y18 i).toInt ∧ (u_y18 i).toInt ≤ 1073741823)) ∧ (1 ≤ x0_26.toInt → 1 ≤ u_x0_26.toInt) ∧ (x0_44.toInt ≤ u_x0_44.toInt) ∧ (u_x0_44.toInt ≤ x0_44.toInt + 1) ∧ (LX y19 u_y18 x0_49.toInt u_x0_44.toInt) ∧ va_P D classes (wS50 cI cJ cZ cB p0 p1 p2 p3 p4 p5 p6 p7 p8 p9 p10 p11 p12 p13 p14 p15 p16 p17 p18 p19 p20 p21 p22 p23 p24 p25 x0_4 x0_5 x0_6 x0_7 x0_8 x0_12 x0_13 x0_14 x0_15 x0_16 x0_17 x0_18 x0_22 x0_23 x0_24 u_x0_25 u_x0_26 x0_27 x0_28 x0_29 u_x0_30 x0_31 x0_32 x0_36 x0_39 x0_40 u_x0_44 x0_49 x0_51 x0_53 x0_54 x0_55 x0_56 x0_57 x0_58 x0_59 x0_60 x0_61 x0_62 y1 y2 y3 y4 y5 y6 y7 y8 y9 y10 y11 y12 y13 y14 y15 u_y16 u_y17 u_y18 y19 y20 y21 y22 y23 y24 y25) t.heap ∧ va_D A (wS50 cI cJ cZ cB p0 p1 p2 p3 p4 p5 p6 p7 p8 p9 p10 p11 p12 p13 p14 p15 p16 p17 p18 p19 p20 p21 p22 p23 p24 p25 x0_4 x0_5 x0_6 x0_7 x0_8 x0_12 x0_13 x0_14 x0_15 x0_16 x0_17 x0_18 x0_22 x0_23 x0_24 u_x0_25 u_x0_26 x0_27 x0_28 x0_29 u_x0_30 x0_31 x0_32 x0_36 x0_39 x0_40 u_x0_44 x0_49 x0_51 x0_53 x0_54 x0_55 x0_56 x0_57 x0_58 x0_59 x0_60 x0_61 x0_62 y1 y2 y3 y4 y5 y6 y7 y8 y9 y10 y11 y12 y13 y14 y15 u_y16 u_y17 u_y18 y19 y20 y21 y22 y23 y24 y25)) A) [.ref p0].toArray s 0 0 A) (F0 m 37 ls []) := by
      intro n
      induction n with
      | zero => intro g37l3 g37l1 g37x0_25 g37x0_26 H locs ls hn37 Rg37l1 Rg37l3 Rg37x0_25 Rg37x0_26 I37_0 I37_1 I37_2 I37_3 I37_4 I37_5 I37_6 I37_7 hP hD hS hl; exfalso; omega
      | succ n ih37 =>
        intro g37l3 g37l1 g37x0_25 g37x0_26 H locs ls hn37 Rg37l1 Rg37l3 Rg37x0_25 Rg37x0_26 I37_0 I37_1 I37_2 I37_3 I37_4 I37_5 I37_6 I37_7 hP hD hS hl
        refine lv_iload_n hx hb d_X_readAlf_37 rfl (lv_at hl 0 rfl) ?_
        refine lv_iconst (v := 5) hx hb d_X_readAlf_38 (by decide) ?_
        refine lv_icmp_ge (tgt := 131) hx hb d_X_readAlf_39 (by decide) (fun c27 => ?_) (fun c27 => ?_)
        · have gc27 : (5 : Int) ≤ g37l3.toInt := c_le c27
          have R28 : 5 ≤ g37l3.toInt ∧ g37l3.toInt ≤ 5 := by omega
          refine lv_aload_n hx hb d_X_readAlf_131 rfl (lv_at hl 3 rfl) ?_
          refine lv_iconst (v := 0) hx hb d_X_readAlf_132 (by decide) ?_
          refine lv_iload_n hx hb d_X_readAlf_133 rfl (lv_at hl 2 rfl) ?_
          refine sn_i (va_runV (C := "SignMachineModel") (As := [.int (0 : Int32), .int g37l1]) (rest := []) ⟨hx, hb, hml, hown, hk⟩ (c_X_comes l D cI cJ cZ cB p0 p1 p2 p3 p4 p5 p6 p7 p8 p9 p10 p11 p12 p13 p14 p15 p16 p17 p18 p19 p20 p21 p22 p23 p24 p25 H.size x0_4 x0_5 x0_6 x0_7 x0_8 x0_12 x0_13 x0_14 x0_15 x0_16 x0_17 x0_18 x0_22 x0_23 x0_24 g37x0_25 g37x0_26 x0_27 x0_28 x0_29 x0_30 x0_31 x0_32 x0_36 x0_39 x0_40 x0_44 x0_49 x0_51 x0_53 x0_54 x0_55 x0_56 x0_57 x0_58 x0_59 x0_60 x0_61 x0_62 y1 y2 y3 y4 y5 y6 y7 y8 y9 y10 y11 y12 y13 y14 y15 y16 y17 y18 y19 y20 y21 y22 y23 y24 y25 (0 : Int32) g37l1 Rg37x0_26 Rx0_30 Rx0_44 Rx0_49 Ay16 Ay17 Ay18 Ay19 (show x0_44.toInt ≤ 4150 from by omega) (show LX y19 y18 x0_49.toInt x0_44.toInt from by first | assumption | exact lx_zero _ _ _) (by decide) Rg37l1) (v_X_comes hk k_1641 ⟨Nat.le_of_ble_eq_true rfl, Nat.le_of_ble_eq_true rfl⟩) (pM_v hK hP hD (ci := 7) (q0 := 0) rfl rfl rfl) rfl rfl hl.1 rfl (lv_room (Nat.le_of_ble_eq_true rfl)) d_X_readAlf_134 ⟨Nat.le_of_ble_eq_true rfl, Nat.le_of_ble_eq_true rfl⟩) hS hA hD (fun rz29 u t H locs hr0 ht hB hFr hS => ?_)
          subst hr0
          obtain ⟨x0_26z29, x0_30z29, x0_44z29, y16z29, y17z29, y18z29, Rx0_26z29, Rx0_30z29, Rx0_44z29, Ay16z29, Ay17z29, Ay18z29, F0z29, F1z29, F2z29, F3z29, F4z29, F5z29, hP, hD⟩ := hB
          have F0z29 : 0 ≤ rz29.toInt ∧ rz29.toInt ≤ 4199 := F0z29
          have F1z29 : 1 ≤ g37x0_26.toInt → 1 ≤ x0_26z29.toInt := F1z29
          have F2z29 : x0_44.toInt ≤ x0_44z29.toInt := F2z29
          have F3z29 : x0_44z29.toInt ≤ x0_44.toInt + 1 := F3z29
          have F4z29 : x0_26z29.toInt = 0 → (x0_44z29.toInt = x0_44.toInt + 1 ∧ rz29.toInt = x0_44.toInt ∧ (y18z29 (rz29).toNatClampNeg).toInt = g37l1.toInt) := F4z29
          have F5z29 : LX y19 y18z29 x0_49.toInt x0_44z29.toInt := F5z29
          rw [ht] at hP
          have hD := dwk hD hFr
          clear ht hFr
          have hP : va_P D classes (wS50 cI cJ cZ cB p0 p1 p2 p3 p4 p5 p6 p7 p8 p9 p10 p11 p12 p13 p14 p15 p16 p17 p18 p19 p20 p21 p22 p23 p24 p25 x0_4 x0_5 x0_6 x0_7 x0_8 x0_12 x0_13 x0_14 x0_15 x0_16 x0_17 x0_18 x0_22 x0_23 x0_24 g37x0_25 x0_26z29 x0_27 x0_28 x0_29 x0_30z29 x0_31 x0_32 x0_36 x0_39 x0_40 x0_44z29 x0_49 x0_51 x0_53 x0_54 x0_55 x0_56 x0_57 x0_58 x0_59 x0_60 x0_61 x0_62 y1 y2 y3 y4 y5 y6 y7 y8 y9 y10 y11 y12 y13 y14 y15 y16z29 y17z29 y18z29 y19 y20 y21 y22 y23 y24 y25) H := hP
          have hD : va_D A (wS50 cI cJ cZ cB p0 p1 p2 p3 p4 p5 p6 p7 p8 p9 p10 p11 p12 p13 p14 p15 p16 p17 p18 p19 p20 p21 p22 p23 p24 p25 x0_4 x0_5 x0_6 x0_7 x0_8 x0_12 x0_13 x0_14 x0_15 x0_16 x0_17 x0_18 x0_22 x0_23 x0_24 g37x0_25 x0_26z29 x0_27 x0_28 x0_29 x0_30z29 x0_31 x0_32 x0_36 x0_39 x0_40 x0_44z29 x0_49 x0_51 x0_53 x0_54 x0_55 x0_56 x0_57 x0_58 x0_59 x0_60 x0_61 x0_62 y1 y2 y3 y4 y5 y6 y7 y8 y9 y10 y11 y12 y13 y14 y15 y16z29 y17z29 y18z29 y19 y20 y21 y22 y23 y24 y25) := hD
          refine lv_pop hx hb d_X_readAlf_137 rfl ?_
          exact W.vret hx hb hr (fun t ht hW => ⟨⟨(), rfl, trivial, ⟨g37x0_25, x0_26z29, x0_30z29, x0_44z29, y16z29, y17z29, y18z29, Rg37x0_25, Rx0_26z29, Rx0_30z29, Rx0_44z29, Ay16z29, Ay17z29, Ay18z29, (show 1 ≤ x0_26.toInt → 1 ≤ x0_26z29.toInt from by omega), (show x0_44.toInt ≤ x0_44z29.toInt from by omega), (show x0_44z29.toInt ≤ x0_44.toInt + 1 from by omega), (show LX y19 y18z29 x0_49.toInt x0_44z29.toInt from by first | assumption | exact lx_zero _ _ _), by show va_P D classes _ t.heap; rw [ht]; exact hP, hD⟩⟩, hS.F ht⟩) hS.2.2 d_X_readAlf_138
        · have gc27 : g37l3.toInt < (5 : Int) := c_nle c27
          have R30 : 0 ≤ g37l3.toInt ∧ g37l3.toInt ≤ 4 := by omega
          have CUT104 : ∀ (g104l4 : Int32) (g104x0_25 : Int32) (H : Heap) (locs : List Loc) (ls : Array Slot), ((-1) ≤ g104l4.toInt ∧ g104l4.toInt ≤ 55) → (0 ≤ g104x0_25.toInt ∧ g104x0_25.toInt ≤ 4000) → (g104x0_25.toInt ≤ x0_24.toInt) → va_P D classes (wS50 cI cJ cZ cB p0 p1 p2 p3 p4 p5 p6 p7 p8 p9 p10 p11 p12 p13 p14 p15 p16 p17 p18 p19 p20 p21 p22 p23 p24 p25 x0_4 x0_5 x0_6 x0_7 x0_8 x0_12 x0_13 x0_14 x0_15 x0_16 x0_17 x0_18 x0_22 x0_23 x0_24 g104x0_25 g37x0_26 x0_27 x0_28 x0_29 x0_30 x0_31 x0_32 x0_36 x0_39 x0_40 x0_44 x0_49 x0_51 x0_53 x0_54 x0_55 x0_56 x0_57 x0_58 x0_59 x0_60 x0_61 x0_62 y1 y2 y3 y4 y5 y6 y7 y8 y9 y10 y11 y12 y13 y14 y15 y16 y17 y18 y19 y20 y21 y22 y23 y24 y25) H → va_D A (wS50 cI cJ cZ cB p0 p1 p2 p3 p4 p5 p6 p7 p8 p9 p10 p11 p12 p13 p14 p15 p16 p17 p18 p19 p20 p21 p22 p23 p24 p25 x0_4 x0_5 x0_6 x0_7 x0_8 x0_12 x0_13 x0_14 x0_15 x0_16 x0_17 x0_18 x0_22 x0_23 x0_24 g104x0_25 g37x0_26 x0_27 x0_28 x0_29 x0_30 x0_31 x0_32 x0_36 x0_39 x0_40 x0_44 x0_49 x0_51 x0_53 x0_54 x0_55 x0_56 x0_57 x0_58 x0_59 x0_60 x0_61 x0_62 y1 y2 y3 y4 y5 y6 y7 y8 y9 y10 y11 y12 y13 y14 y15 y16 y17 y18 y19 y20 y21 y22 y23 y24 y25) → va_S A s.heap H locs → lv_has ls 5 [(3, .int g37l3), (2, .int (1 : Int32)), (1, .int g37l1), (0, .ref p0), (4, .int g104l4)] → W p l e ({ frames := 2, cells := 0, slots := 0, locals := 43 }) s m [.ref p0].toArray below meth c H locs 0 0 (MQ below (va_Qv (fun (_ : Unit) => True) (fun _ t => ∃ u_x0_25 : Int32, ∃ u_x0_26 : Int32, ∃ u_x0_30 : Int32, ∃ u_x0_44 : Int32, ∃ u_y16 : Nat → Int32, ∃ u_y17 : Nat → Int32, ∃ u_y18 : Nat → Int32, (0 ≤ u_x0_25.toInt ∧ u_x0_25.toInt ≤ 4000) ∧ (0 ≤ u_x0_26.toInt ∧ u_x0_26.toInt ≤ 6) ∧ ((-1073741823) ≤ u_x0_30.toInt ∧ u_x0_30.toInt ≤ 1073741823) ∧ (0 ≤ u_x0_44.toInt ∧ u_x0_44.toInt ≤ 4200) ∧ (∀ i : Nat, (0 ≤ (u_y16 i).toInt ∧ (u_y16 i).toInt ≤ 3999)) ∧ (∀ i : Nat, (0 ≤ (u_y17 i).toInt ∧ (u_y17 i).toInt ≤ 1)) ∧ (∀ i : Nat, (0 ≤ (u_y18 i).toInt ∧ (u_y18 i).toInt ≤ 1073741823)) ∧ (1 ≤ x0_26.toInt → 1 ≤ u_x0_26.toInt) ∧ (x0_44.toInt ≤ u_x0_44.toInt) ∧ (u_x0_44.toInt ≤ x0_44.toInt + 1) ∧ (LX y19 u_y18 x0_49.toInt u_x0_44.toInt) ∧ va_P D classes (wS50 cI cJ cZ cB p0 p1 p2 p3 p4 p5 p6 p7 p8 p9 p10 p11 p12 p13 p14 p15 p16 p17 p18 p19 p20 p21 p22 p23 p24 p25 x0_4 x0_5 x0_6 x0_7 x0_8 x0_12 x0_13 x0_14 x0_15 x0_16 x0_17 x0_18 x0_22 x0_23 x0_24 u_x0_25 u_x0_26 x0_27 x0_28 x0_29 u_x0_30 x0_31 x0_32 x0_36 x0_39 x0_40 u_x0_44 x0_49 x0_51 x0_53 x0_54 x0_55 x0_56 x0_57 x0_58 x0_59 x0_60 x0_61 x0_62 y1 y2 y3 y4 y5 y6 y7 y8 y9 y10 y11 y12 y13 y14 y15 u_y16 u_y17 u_y18 y19 y20 y21 y22 y23 y24 y25) t.heap ∧ va_D A (wS50 cI cJ cZ cB p0 p1 p2 p3 p4 p5 p6 p7 p8 p9 p10 p11 p12 p13 p14 p15 p16 p17 p18 p19 p20 p21 p22 p23 p24 p25 x0_4 x0_5 x0_6 x0_7 x0_8 x0_12 x0_13 x0_14 x0_15 x0_16 x0_17 x0_18 x0_22 x0_23 x0_24 u_x0_25 u_x0_26 x0_27 x0_28 x0_29 u_x0_30 x0_31 x0_32 x0_36 x0_39 x0_40 u_x0_44 x0_49 x0_51 x0_53 x0_54 x0_55 x0_56 x0_57 x0_58 x0_59 x0_60 x0_61 x0_62 y1 y2 y3 y4 y5 y6 y7 y8 y9 y10 y11 y12 y13 y14 y15 u_y16 u_y17 u_y18 y19 y20 y21 y22 y23 y24 y25)) A) [.ref p0].toArray s 0 0 A) (F0 m 104 ls []) := by
            intro g104l4 g104x0_25 H locs ls Rg104l4 Rg104x0_25 I104_0 hP hD hS hl
            refine lv_iload hx hb d_X_readAlf_104 (lv_at hl 4 rfl) ?_
            refine lv_if_ge (tgt := 117) hx hb d_X_readAlf_106 (by decide) (fun c31 => ?_) (fun c31 => ?_)
            · have gc31 : (0 : Int) ≤ g104l4.toInt := c_le c31
              have R32 : 0 ≤ g104l4.toInt ∧ g104l4.toInt ≤ 55 := by omega
              have R33 : 0 ≤ g37l1.toInt ∧ g37l1.toInt ≤ 16777215 := by omega
              refine lv_iload_n hx hb d_X_readAlf_117 rfl (lv_at hl 2 rfl) ?_
              refine lv_bipush (v := 64) hx hb d_X_readAlf_118 (by decide) ?_
              refine lv_imul hx hb d_X_readAlf_120 ?_
              refine lv_topi (fun v34 hv34 => ?_)
              obtain ⟨ev34, Rv34⟩ : v34.toInt = g37l1.toInt * (64 : Int) ∧ (0 ≤ v34.toInt ∧ v34.toInt ≤ 1073741760) := ml3 hv34 R33 (show 64 ≤ (64 : Int32).toInt ∧ (64 : Int32).toInt ≤ 64 from by decide) (by decide) (by decide) (by decide) (by decide) (by decide) (by decide)
              refine lv_iload hx hb d_X_readAlf_121 (lv_at hl 4 rfl) ?_
              refine lv_iadd hx hb d_X_readAlf_123 ?_
              refine lv_topi (fun v35 hv35 => ?_)
              obtain ⟨ev35, Rv35⟩ : v35.toInt = v34.toInt + g104l4.toInt ∧ (0 ≤ v35.toInt ∧ v35.toInt ≤ 1073741815) := ad3 hv35 Rv34 R32 (by decide) (by decide) (by decide) (by decide)
              refine lv_istore_n (lv' := [(1, .int v35), (3, .int g37l3), (2, .int (1 : Int32)), (0, .ref p0), (4, .int g104l4)]) hx hb d_X_readAlf_124 rfl hl (by decide) rfl (fun ls hl => ?_)
              obtain ⟨v36, hv36⟩ : ∃ y : Int32, y = (g37l3 + (1 : Int32)) := ⟨_, rfl⟩
              obtain ⟨ev36, Rv36⟩ : v36.toInt = g37l3.toInt + 1 ∧ (1 ≤ v36.toInt ∧ v36.toInt ≤ 5) := ad3 hv36 R30 (y := (1 : Int32)) (c := 1) (d := 1) (by decide) (by decide) (by decide) (by decide) (by decide)
              refine lv_iinc (v := v36) (lv' := [(3, .int v36), (1, .int v35), (2, .int (1 : Int32)), (0, .ref p0), (4, .int g104l4)]) hx hb d_X_readAlf_125 hl (k := 1) rfl (by rw [hv36]; rfl) (by decide) rfl (fun ls hl => ?_)
              refine lv_goto (tgt := 37) hx hb d_X_readAlf_128 (by decide) ?_
              exact ih37 v36 v35 g104x0_25 g37x0_26 H _ ls (show 5 - v36.toInt < (n : Int) from by omega) (rgw Rv35 (by decide) (by decide)) (rgw Rv36 (by decide) (by decide)) Rg104x0_25 Rg37x0_26 (show g104x0_25.toInt ≤ x0_24.toInt from by omega) (show 1 ≤ x0_26.toInt → 1 ≤ g37x0_26.toInt from by omega) (show v36.toInt = 0 → v35.toInt < 1 from by omega) (show v36.toInt = 1 → v35.toInt < 64 from by omega) (show v36.toInt = 2 → v35.toInt < 4096 from by omega) (show v36.toInt = 3 → v35.toInt < 262144 from by omega) (show v36.toInt = 4 → v35.toInt < 16777216 from by omega) (show v36.toInt = 5 → v35.toInt < 1073741824 from by omega) hP hD hS (lv_sub hl [0, 2, 1, 3] rfl)
            · have gc31 : g104l4.toInt < (0 : Int) := c_nle c31
              have R37 : (-1) ≤ g104l4.toInt ∧ g104l4.toInt ≤ (-1) := by omega
              refine lv_aload_n hx hb d_X_readAlf_109 rfl (lv_at hl 3 rfl) ?_
              refine lv_iconst (v := 1) hx hb d_X_readAlf_110 (by decide) ?_
              refine kn_v (va_runV (C := "SignMachineModel") (As := [.int (1 : Int32)]) (rest := []) ⟨hx, hb, hml, hown, hk⟩ (c_X_bad l D cI cJ cZ cB p0 p1 p2 p3 p4 p5 p6 p7 p8 p9 p10 p11 p12 p13 p14 p15 p16 p17 p18 p19 p20 p21 p22 p23 p24 p25 H.size x0_4 x0_5 x0_6 x0_7 x0_8 x0_12 x0_13 x0_14 x0_15 x0_16 x0_17 x0_18 x0_22 x0_23 x0_24 g104x0_25 g37x0_26 x0_27 x0_28 x0_29 x0_30 x0_31 x0_32 x0_36 x0_39 x0_40 x0_44 x0_49 x0_51 x0_53 x0_54 x0_55 x0_56 x0_57 x0_58 x0_59 x0_60 x0_61 x0_62 y1 y2 y3 y4 y5 y6 y7 y8 y9 y10 y11 y12 y13 y14 y15 y16 y17 y18 y19 y20 y21 y22 y23 y24 y25 (1 : Int32) Rg37x0_26 (by decide)) (v_X_bad hk k_1552 ⟨Nat.le_of_ble_eq_true rfl, Nat.le_of_ble_eq_true rfl⟩) (pM_v hK hP hD (ci := 7) (q0 := 0) rfl rfl rfl) rfl rfl hl.1 rfl (lv_room (Nat.le_of_ble_eq_true rfl)) d_X_readAlf_111 ⟨Nat.le_of_ble_eq_true rfl, Nat.le_of_ble_eq_true rfl⟩) hS hA hD (fun u t H locs ht hB hFr hS => ?_)
              obtain ⟨x0_26z38, Rx0_26z38, F0z38, hP, hD⟩ := hB
              have F0z38 : 1 ≤ x0_26z38.toInt := F0z38
              rw [ht] at hP
              have hD := dwk hD hFr
              clear ht hFr
              have hP : va_P D classes (wS50 cI cJ cZ cB p0 p1 p2 p3 p4 p5 p6 p7 p8 p9 p10 p11 p12 p13 p14 p15 p16 p17 p18 p19 p20 p21 p22 p23 p24 p25 x0_4 x0_5 x0_6 x0_7 x0_8 x0_12 x0_13 x0_14 x0_15 x0_16 x0_17 x0_18 x0_22 x0_23 x0_24 g104x0_25 x0_26z38 x0_27 x0_28 x0_29 x0_30 x0_31 x0_32 x0_36 x0_39 x0_40 x0_44 x0_49 x0_51 x0_53 x0_54 x0_55 x0_56 x0_57 x0_58 x0_59 x0_60 x0_61 x0_62 y1 y2 y3 y4 y5 y6 y7 y8 y9 y10 y11 y12 y13 y14 y15 y16 y17 y18 y19 y20 y21 y22 y23 y24 y25) H := hP
              have hD : va_D A (wS50 cI cJ cZ cB p0 p1 p2 p3 p4 p5 p6 p7 p8 p9 p10 p11 p12 p13 p14 p15 p16 p17 p18 p19 p20 p21 p22 p23 p24 p25 x0_4 x0_5 x0_6 x0_7 x0_8 x0_12 x0_13 x0_14 x0_15 x0_16 x0_17 x0_18 x0_22 x0_23 x0_24 g104x0_25 x0_26z38 x0_27 x0_28 x0_29 x0_30 x0_31 x0_32 x0_36 x0_39 x0_40 x0_44 x0_49 x0_51 x0_53 x0_54 x0_55 x0_56 x0_57 x0_58 x0_59 x0_60 x0_61 x0_62 y1 y2 y3 y4 y5 y6 y7 y8 y9 y10 y11 y12 y13 y14 y15 y16 y17 y18 y19 y20 y21 y22 y23 y24 y25) := hD
              refine lv_iconst (v := 0) hx hb d_X_readAlf_114 (by decide) ?_
              refine lv_istore (lv' := [(4, .int (0 : Int32)), (3, .int g37l3), (2, .int (1 : Int32)), (1, .int g37l1), (0, .ref p0)]) hx hb d_X_readAlf_115 hl (by decide) rfl (fun ls hl => ?_)
              have R39 : 0 ≤ g37l1.toInt ∧ g37l1.toInt ≤ 16777215 := by omega
              refine lv_iload_n hx hb d_X_readAlf_117 rfl (lv_at hl 3 rfl) ?_
              refine lv_bipush (v := 64) hx hb d_X_readAlf_118 (by decide) ?_
              refine lv_imul hx hb d_X_readAlf_120 ?_
              refine lv_topi (fun v40 hv40 => ?_)
              obtain ⟨ev40, Rv40⟩ : v40.toInt = g37l1.toInt * (64 : Int) ∧ (0 ≤ v40.toInt ∧ v40.toInt ≤ 1073741760) := ml3 hv40 R39 (show 64 ≤ (64 : Int32).toInt ∧ (64 : Int32).toInt ≤ 64 from by decide) (by decide) (by decide) (by decide) (by decide) (by decide) (by decide)
              refine lv_iload hx hb d_X_readAlf_121 (lv_at hl 0 rfl) ?_
              refine lv_iadd hx hb d_X_readAlf_123 ?_
              refine lv_topi (fun v41 hv41 => ?_)
              obtain ⟨ev41, Rv41⟩ : v41.toInt = v40.toInt + (0 : Int) ∧ (0 ≤ v41.toInt ∧ v41.toInt ≤ 1073741760) := ad3 hv41 Rv40 (show 0 ≤ (0 : Int32).toInt ∧ (0 : Int32).toInt ≤ 0 from by decide) (by decide) (by decide) (by decide) (by decide)
              refine lv_istore_n (lv' := [(1, .int v41), (4, .int (0 : Int32)), (3, .int g37l3), (2, .int (1 : Int32)), (0, .ref p0)]) hx hb d_X_readAlf_124 rfl hl (by decide) rfl (fun ls hl => ?_)
              obtain ⟨v42, hv42⟩ : ∃ y : Int32, y = (g37l3 + (1 : Int32)) := ⟨_, rfl⟩
              obtain ⟨ev42, Rv42⟩ : v42.toInt = g37l3.toInt + 1 ∧ (1 ≤ v42.toInt ∧ v42.toInt ≤ 5) := ad3 hv42 R30 (y := (1 : Int32)) (c := 1) (d := 1) (by decide) (by decide) (by decide) (by decide) (by decide)
              refine lv_iinc (v := v42) (lv' := [(3, .int v42), (1, .int v41), (4, .int (0 : Int32)), (2, .int (1 : Int32)), (0, .ref p0)]) hx hb d_X_readAlf_125 hl (k := 2) rfl (by rw [hv42]; rfl) (by decide) rfl (fun ls hl => ?_)
              refine lv_goto (tgt := 37) hx hb d_X_readAlf_128 (by decide) ?_
              exact ih37 v42 v41 g104x0_25 x0_26z38 H _ ls (show 5 - v42.toInt < (n : Int) from by omega) (rgw Rv41 (by decide) (by decide)) (rgw Rv42 (by decide) (by decide)) Rg104x0_25 Rx0_26z38 (show g104x0_25.toInt ≤ x0_24.toInt from by omega) (show 1 ≤ x0_26.toInt → 1 ≤ x0_26z38.toInt from by omega) (show v42.toInt = 0 → v41.toInt < 1 from by omega) (show v42.toInt = 1 → v41.toInt < 64 from by omega) (show v42.toInt = 2 → v41.toInt < 4096 from by omega) (show v42.toInt = 3 → v41.toInt < 262144 from by omega) (show v42.toInt = 4 → v41.toInt < 16777216 from by omega) (show v42.toInt = 5 → v41.toInt < 1073741824 from by omega) hP hD hS (lv_sub hl [0, 3, 1, 4] rfl)
          refine lv_iload_n hx hb d_X_readAlf_42 rfl (lv_at hl 1 rfl) ?_
          refine lv_if_eq (tgt := 72) hx hb d_X_readAlf_43 (by decide) (fun c43 => absurd c43 (show ¬ (1 : Int32) = (0 : Int32) from (by decide))) (fun c43 => ?_)
          refine lv_aload_n hx hb d_X_readAlf_46 rfl (lv_at hl 3 rfl) ?_
          refine va_get (D := D) (ci := 7) (v := .int g37x0_25) (C := "SignMachineModel") (T := F_X) (N := 64) hx hb hk fi_X hown hK.1 hP 0 rfl rfl 25 (by decide) (hk _ k_1146) (fun _ h9 => h9) rfl d_X_readAlf_47 ?_
          refine lv_aload_n hx hb d_X_readAlf_50 rfl (lv_at hl 3 rfl) ?_
          refine va_get (D := D) (ci := 7) (v := .int x0_24) (C := "SignMachineModel") (T := F_X) (N := 64) hx hb hk fi_X hown hK.1 hP 0 rfl rfl 24 (by decide) (hk _ k_1145) (fun _ h9 => h9) rfl d_X_readAlf_51 ?_
          refine lv_icmp_ge (tgt := 72) hx hb d_X_readAlf_54 (by decide) (fun c44 => ?_) (fun c44 => ?_)
          · have gc44 : x0_24.toInt ≤ g37x0_25.toInt := c_le c44
            refine lv_iconst (v := 0) hx hb d_X_readAlf_72 (by decide) ?_
            refine lv_istore (lv' := [(4, .int (0 : Int32)), (3, .int g37l3), (2, .int (1 : Int32)), (1, .int g37l1), (0, .ref p0)]) hx hb d_X_readAlf_73 hl (by decide) rfl (fun ls hl => ?_)
            refine lv_aload_n hx hb d_X_readAlf_75 rfl (lv_at hl 4 rfl) ?_
            refine lv_dup hx hb d_X_readAlf_76 rfl ?_
            refine va_get (D := D) (ci := 7) (v := .int g37x0_25) (C := "SignMachineModel") (T := F_X) (N := 64) hx hb hk fi_X hown hK.1 hP 0 rfl rfl 25 (by decide) (hk _ k_1146) (fun _ h9 => h9) rfl d_X_readAlf_77 ?_
            refine lv_iload_n hx hb d_X_readAlf_80 rfl (lv_at hl 2 rfl) ?_
            refine lv_if_eq (tgt := 99) hx hb d_X_readAlf_81 (by decide) (fun c45 => absurd c45 (show ¬ (1 : Int32) = (0 : Int32) from (by decide))) (fun c45 => ?_)
            refine lv_aload_n hx hb d_X_readAlf_84 rfl (lv_at hl 4 rfl) ?_
            refine va_get (D := D) (ci := 7) (v := .int g37x0_25) (C := "SignMachineModel") (T := F_X) (N := 64) hx hb hk fi_X hown hK.1 hP 0 rfl rfl 25 (by decide) (hk _ k_1146) (fun _ h9 => h9) rfl d_X_readAlf_85 ?_
            refine lv_aload_n hx hb d_X_readAlf_88 rfl (lv_at hl 4 rfl) ?_
            refine va_get (D := D) (ci := 7) (v := .int x0_24) (C := "SignMachineModel") (T := F_X) (N := 64) hx hb hk fi_X hown hK.1 hP 0 rfl rfl 24 (by decide) (hk _ k_1145) (fun _ h9 => h9) rfl d_X_readAlf_89 ?_
            refine lv_icmp_ge (tgt := 99) hx hb d_X_readAlf_92 (by decide) (fun c46 => ?_) (fun c46 => absurd (show x0_24 ≤ g37x0_25 from c44) c46)
            refine lv_iconst (v := 0) hx hb d_X_readAlf_99 (by decide) ?_
            refine lv_iadd hx hb d_X_readAlf_100 ?_
            refine lv_topi (fun v47 hv47 => ?_)
            obtain ⟨ev47, Rv47⟩ : v47.toInt = g37x0_25.toInt + (0 : Int) ∧ (0 ≤ v47.toInt ∧ v47.toInt ≤ 4000) := ad3 hv47 Rg37x0_25 (show 0 ≤ (0 : Int32).toInt ∧ (0 : Int32).toInt ≤ 0 from by decide) (by decide) (by decide) (by decide) (by decide)
            refine va_put (D := D) (ci := 7) (v := .int v47) (ty := .int) (C := "SignMachineModel") (T := F_X) (N := 64) hx hb hk fi_X ft_X ft_X_ok fn_X hown hK.1 hP hD hS 0 rfl rfl 25 (by decide) (hk _ k_1146) (fun _ h9 => h9) rfl (by decide +kernel) rfl rfl (Nat.le_of_ble_eq_true rfl) d_X_readAlf_101 (fun H locs hP hD hS => ?_)
            have hP : va_P D classes (wS50 cI cJ cZ cB p0 p1 p2 p3 p4 p5 p6 p7 p8 p9 p10 p11 p12 p13 p14 p15 p16 p17 p18 p19 p20 p21 p22 p23 p24 p25 x0_4 x0_5 x0_6 x0_7 x0_8 x0_12 x0_13 x0_14 x0_15 x0_16 x0_17 x0_18 x0_22 x0_23 x0_24 v47 g37x0_26 x0_27 x0_28 x0_29 x0_30 x0_31 x0_32 x0_36 x0_39 x0_40 x0_44 x0_49 x0_51 x0_53 x0_54 x0_55 x0_56 x0_57 x0_58 x0_59 x0_60 x0_61 x0_62 y1 y2 y3 y4 y5 y6 y7 y8 y9 y10 y11 y12 y13 y14 y15 y16 y17 y18 y19 y20 y21 y22 y23 y24 y25) H := hP
            have hD : va_D A (wS50 cI cJ cZ cB p0 p1 p2 p3 p4 p5 p6 p7 p8 p9 p10 p11 p12 p13 p14 p15 p16 p17 p18 p19 p20 p21 p22 p23 p24 p25 x0_4 x0_5 x0_6 x0_7 x0_8 x0_12 x0_13 x0_14 x0_15 x0_16 x0_17 x0_18 x0_22 x0_23 x0_24 v47 g37x0_26 x0_27 x0_28 x0_29 x0_30 x0_31 x0_32 x0_36 x0_39 x0_40 x0_44 x0_49 x0_51 x0_53 x0_54 x0_55 x0_56 x0_57 x0_58 x0_59 x0_60 x0_61 x0_62 y1 y2 y3 y4 y5 y6 y7 y8 y9 y10 y11 y12 y13 y14 y15 y16 y17 y18 y19 y20 y21 y22 y23 y24 y25) := hD
            exact CUT104 (0 : Int32) v47 H _ ls (by decide) Rv47 (show v47.toInt ≤ x0_24.toInt from by omega) hP hD hS (lv_sub hl [1, 2, 3, 4, 0] rfl)
          · have gc44 : g37x0_25.toInt < x0_24.toInt := c_nle c44
            have R48 : 0 ≤ g37x0_25.toInt ∧ g37x0_25.toInt ≤ 3999 := by omega
            have R49 : 1 ≤ x0_24.toInt ∧ x0_24.toInt ≤ 4000 := by omega
            refine lv_aload_n hx hb d_X_readAlf_57 rfl (lv_at hl 3 rfl) ?_
            refine va_get (D := D) (ci := 7) (v := .ref p10) (C := "SignMachineModel") (T := F_X) (N := 64) hx hb hk fi_X hown hK.1 hP 0 rfl rfl 21 (by decide) (hk _ k_1142) (fun _ h9 => h9) rfl d_X_readAlf_58 ?_
            refine lv_aload_n hx hb d_X_readAlf_61 rfl (lv_at hl 3 rfl) ?_
            refine va_get (D := D) (ci := 7) (v := .int g37x0_25) (C := "SignMachineModel") (T := F_X) (N := 64) hx hb hk fi_X hown hK.1 hP 0 rfl rfl 25 (by decide) (hk _ k_1146) (fun _ h9 => h9) rfl d_X_readAlf_62 ?_
            refine va_iald hx hb hK.1 hP 10 0 rfl rfl (vpb R48 (by decide) (by decide)) d_X_readAlf_65 ?_
            refine lv_topi (fun v50 hv50 => ?_)
            refine vp_callSi (W.runS (As := [.int v50]) (rest := []) ⟨hx, hb, hml, hown, hk⟩ (c_X_codeOf l v50 ) (s_X_codeOf hk k_1638 ⟨Nat.le_of_ble_eq_true rfl, Nat.le_of_ble_eq_true rfl⟩) ⟨fun a U g mk q => q, fun U hU hW => ⟨rfl, trivial⟩⟩ rfl rfl hl.1 rfl (lv_room (Nat.le_of_ble_eq_true rfl)) d_X_readAlf_66 ⟨Nat.le_of_ble_eq_true rfl, Nat.le_of_ble_eq_true rfl⟩) (fun rz51 hrz51 => ?_)
            have F0z51 := hrz51
            have F0z51 : (-1) ≤ rz51.toInt ∧ rz51.toInt ≤ 55 := F0z51
            refine lv_goto (tgt := 73) hx hb d_X_readAlf_69 (by decide) ?_
            refine lv_istore (lv' := [(4, .int rz51), (3, .int g37l3), (2, .int (1 : Int32)), (1, .int g37l1), (0, .ref p0)]) hx hb d_X_readAlf_73 hl (by decide) rfl (fun ls hl => ?_)
            refine lv_aload_n hx hb d_X_readAlf_75 rfl (lv_at hl 4 rfl) ?_
            refine lv_dup hx hb d_X_readAlf_76 rfl ?_
            refine va_get (D := D) (ci := 7) (v := .int g37x0_25) (C := "SignMachineModel") (T := F_X) (N := 64) hx hb hk fi_X hown hK.1 hP 0 rfl rfl 25 (by decide) (hk _ k_1146) (fun _ h9 => h9) rfl d_X_readAlf_77 ?_
            refine lv_iload_n hx hb d_X_readAlf_80 rfl (lv_at hl 2 rfl) ?_
            refine lv_if_eq (tgt := 99) hx hb d_X_readAlf_81 (by decide) (fun c52 => absurd c52 (show ¬ (1 : Int32) = (0 : Int32) from (by decide))) (fun c52 => ?_)
            refine lv_aload_n hx hb d_X_readAlf_84 rfl (lv_at hl 4 rfl) ?_
            refine va_get (D := D) (ci := 7) (v := .int g37x0_25) (C := "SignMachineModel") (T := F_X) (N := 64) hx hb hk fi_X hown hK.1 hP 0 rfl rfl 25 (by decide) (hk _ k_1146) (fun _ h9 => h9) rfl d_X_readAlf_85 ?_
            refine lv_aload_n hx hb d_X_readAlf_88 rfl (lv_at hl 4 rfl) ?_
            refine va_get (D := D) (ci := 7) (v := .int x0_24) (C := "SignMachineModel") (T := F_X) (N := 64) hx hb hk fi_X hown hK.1 hP 0 rfl rfl 24 (by decide) (hk _ k_1145) (fun _ h9 => h9) rfl d_X_readAlf_89 ?_
            refine lv_icmp_ge (tgt := 99) hx hb d_X_readAlf_92 (by decide) (fun c53 => absurd c53 (show ¬ x0_24 ≤ g37x0_25 from c44)) (fun c53 => ?_)
            refine lv_iconst (v := 1) hx hb d_X_readAlf_95 (by decide) ?_
            refine lv_goto (tgt := 100) hx hb d_X_readAlf_96 (by decide) ?_
            refine lv_iadd hx hb d_X_readAlf_100 ?_
            refine lv_topi (fun v54 hv54 => ?_)
            obtain ⟨ev54, Rv54⟩ : v54.toInt = g37x0_25.toInt + (1 : Int) ∧ (1 ≤ v54.toInt ∧ v54.toInt ≤ 4000) := ad3 hv54 R48 (show 1 ≤ (1 : Int32).toInt ∧ (1 : Int32).toInt ≤ 1 from by decide) (by decide) (by decide) (by decide) (by decide)
            refine va_put (D := D) (ci := 7) (v := .int v54) (ty := .int) (C := "SignMachineModel") (T := F_X) (N := 64) hx hb hk fi_X ft_X ft_X_ok fn_X hown hK.1 hP hD hS 0 rfl rfl 25 (by decide) (hk _ k_1146) (fun _ h9 => h9) rfl (by decide +kernel) rfl rfl (Nat.le_of_ble_eq_true rfl) d_X_readAlf_101 (fun H locs hP hD hS => ?_)
            have hP : va_P D classes (wS50 cI cJ cZ cB p0 p1 p2 p3 p4 p5 p6 p7 p8 p9 p10 p11 p12 p13 p14 p15 p16 p17 p18 p19 p20 p21 p22 p23 p24 p25 x0_4 x0_5 x0_6 x0_7 x0_8 x0_12 x0_13 x0_14 x0_15 x0_16 x0_17 x0_18 x0_22 x0_23 x0_24 v54 g37x0_26 x0_27 x0_28 x0_29 x0_30 x0_31 x0_32 x0_36 x0_39 x0_40 x0_44 x0_49 x0_51 x0_53 x0_54 x0_55 x0_56 x0_57 x0_58 x0_59 x0_60 x0_61 x0_62 y1 y2 y3 y4 y5 y6 y7 y8 y9 y10 y11 y12 y13 y14 y15 y16 y17 y18 y19 y20 y21 y22 y23 y24 y25) H := hP
            have hD : va_D A (wS50 cI cJ cZ cB p0 p1 p2 p3 p4 p5 p6 p7 p8 p9 p10 p11 p12 p13 p14 p15 p16 p17 p18 p19 p20 p21 p22 p23 p24 p25 x0_4 x0_5 x0_6 x0_7 x0_8 x0_12 x0_13 x0_14 x0_15 x0_16 x0_17 x0_18 x0_22 x0_23 x0_24 v54 g37x0_26 x0_27 x0_28 x0_29 x0_30 x0_31 x0_32 x0_36 x0_39 x0_40 x0_44 x0_49 x0_51 x0_53 x0_54 x0_55 x0_56 x0_57 x0_58 x0_59 x0_60 x0_61 x0_62 y1 y2 y3 y4 y5 y6 y7 y8 y9 y10 y11 y12 y13 y14 y15 y16 y17 y18 y19 y20 y21 y22 y23 y24 y25) := hD
            exact CUT104 rz51 v54 H _ ls F0z51 (rgw Rv54 (by decide) (by decide)) (show v54.toInt ≤ x0_24.toInt from by omega) hP hD hS (lv_sub hl [1, 2, 3, 4, 0] rfl)
    exact CUT37 ((5 - (0 : Int)).toNat + 1) (0 : Int32) (0 : Int32) v26 x0_26 H _ ls (show (5 - (0 : Int)) < (((5 - (0 : Int)).toNat + 1 : Nat) : Int) from by omega) (by decide) (by decide) (by omega) Rx0_26 (show v26.toInt ≤ x0_24.toInt from by omega) (show 1 ≤ x0_26.toInt → 1 ≤ x0_26.toInt from by omega) (show (0 : Int) = 0 → (0 : Int) < 1 from by omega) (show (0 : Int) = 1 → (0 : Int) < 64 from by omega) (show (0 : Int) = 2 → (0 : Int) < 4096 from by omega) (show (0 : Int) = 3 → (0 : Int) < 262144 from by omega) (show (0 : Int) = 4 → (0 : Int) < 16777216 from by omega) (show (0 : Int) = 5 → (0 : Int) < 1073741824 from by omega) hP hD hS (lv_sub hl [0, 1, 2, 3] rfl)
theorem v_X_readAlf {R : Room} {s : State} {args : Array Value} {own : String} {index : Nat} (hk : ∀ w ∈ tb, w.before args s = true) (hl : Cond.methodLink own index y_X_readAlf ∈ tb) (hR : 2 + 1 ≤ R.frames ∧ 8 + (5 + 11) + 43 ≤ R.locals) : CallW R s args own "SignMachineModel" index y_X_readAlf b_X_readAlf 5 none (.code y_X_readAlf b_X_readAlf 5 none :: tb) ({ frames := 2, cells := 0, slots := 0, locals := 43 }) 0 0 0 := mk_v 0 hk k_1637 hl k_1636 k_99 k_119 rfl rfl h_X_readAlf hR

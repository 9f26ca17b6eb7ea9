set_option maxHeartbeats 8000000 in
set_option maxRecDepth 100000 in
theorem c_X_tape (l : Launch) (D : va_G) (cI cJ cZ cB : ClassId) (p0 p1 p2 p3 p4 p5 p6 p7 p8 p9 p10 p11 p12 p13 p14 p15 p16 p17 p18 p19 p20 p21 p22 p23 p24 p25 : Nat) (sz : Nat) (x0_4 : Int32) (x0_5 : Int32) (x0_6 : Int32) (x0_7 : Int32) (x0_8 : Int32) (x0_12 : Int32) (x0_13 : Int32) (x0_14 : Int32) (x0_15 : Int32) (x0_16 : Int32) (x0_17 : Int32) (x0_18 : Int32) (x0_22 : Int32) (x0_23 : Int32) (x0_24 : Int32) (x0_25 : Int32) (x0_26 : Int32) (x0_27 : Int32) (x0_28 : Int32) (x0_29 : Int32) (x0_30 : Int32) (x0_31 : Int32) (x0_32 : Int32) (x0_36 : Int32) (x0_39 : Int32) (x0_40 : Int64) (x0_44 : Int32) (x0_49 : Int32) (x0_51 : Int32) (x0_53 : Int32) (x0_54 : Int32) (x0_55 : Int64) (x0_56 : Int32) (x0_57 : Int32) (x0_58 : Int32) (x0_59 : Int32) (x0_60 : Int32) (x0_61 : Int32) (x0_62 : Int64) (y1 : Nat → Int32) (y2 : Nat → Int32) (y3 : Nat → Int32) (y4 : Nat → Int32) (y5 : Nat → Int32) (y6 : Nat → Int32) (y7 : Nat → Int32) (y8 : Nat → Int32) (y9 : Nat → Int32) (y10 : Nat → Int32) (y11 : Nat → Int64) (y12 : Nat → Int32) (y13 : Nat → Int64) (y14 : Nat → Int32) (y15 : Nat → Int64) (y16 : Nat → Int32) (y17 : Nat → Int32) (y18 : Nat → Int32) (y19 : Nat → Int32) (y20 : Nat → Int32) (y21 : Nat → Int32) (y22 : Nat → Int32) (y23 : Nat → Int32) (y24 : Nat → Int64) (y25 : Nat → Int64) (a1 : Int32) (a2 : Int32) (a3 : Int32) (Ay5 : ∀ i : Nat, (0 ≤ (y5 i).toInt ∧ (y5 i).toInt ≤ 1)) (Ay6 : ∀ i : Nat, (0 ≤ (y6 i).toInt ∧ (y6 i).toInt ≤ 1073741823)) : Met l y_X_tape (.code y_X_tape b_X_tape 5 (some .int) :: tb) ({ frames := 1, cells := 0, slots := 0, locals := 25 }) (pM D cI cJ cZ cB (wS50 cI cJ cZ cB p0 p1 p2 p3 p4 p5 p6 p7 p8 p9 p10 p11 p12 p13 p14 p15 p16 p17 p18 p19 p20 p21 p22 p23 p24 p25 x0_4 x0_5 x0_6 x0_7 x0_8 x0_12 x0_13 x0_14 x0_15 x0_16 x0_17 x0_18 x0_22 x0_23 x0_24 x0_25 x0_26 x0_27 x0_28 x0_29 x0_30 x0_31 x0_32 x0_36 x0_39 x0_40 x0_44 x0_49 x0_51 x0_53 x0_54 x0_55 x0_56 x0_57 x0_58 x0_59 x0_60 x0_61 x0_62 y1 y2 y3 y4 y5 y6 y7 y8 y9 y10 y11 y12 y13 y14 y15 y16 y17 y18 y19 y20 y21 y22 y23 y24 y25) sz [.ref p0, .int a1, .int a2, .int a3]) (va_Qi (fun r (u : Int32) => r = u) (fun ur t => va_P D classes (wS50 cI cJ cZ cB p0 p1 p2 p3 p4 p5 p6 p7 p8 p9 p10 p11 p12 p13 p14 p15 p16 p17 p18 p19 p20 p21 p22 p23 p24 p25 x0_4 x0_5 x0_6 x0_7 x0_8 x0_12 x0_13 x0_14 x0_15 x0_16 x0_17 x0_18 x0_22 x0_23 x0_24 x0_25 x0_26 x0_27 x0_28 x0_29 x0_30 x0_31 x0_32 x0_36 x0_39 x0_40 x0_44 x0_49 x0_51 x0_53 x0_54 x0_55 x0_56 x0_57 x0_58 x0_59 x0_60 x0_61 x0_62 y1 y2 y3 y4 y5 y6 y7 y8 y9 y10 y11 y12 y13 y14 y15 y16 y17 y18 y19 y20 y21 y22 y23 y24 y25) t.heap ∧ va_D (va_A (wS50 cI cJ cZ cB p0 p1 p2 p3 p4 p5 p6 p7 p8 p9 p10 p11 p12 p13 p14 p15 p16 p17 p18 p19 p20 p21 p22 p23 p24 p25 x0_4 x0_5 x0_6 x0_7 x0_8 x0_12 x0_13 x0_14 x0_15 x0_16 x0_17 x0_18 x0_22 x0_23 x0_24 x0_25 x0_26 x0_27 x0_28 x0_29 x0_30 x0_31 x0_32 x0_36 x0_39 x0_40 x0_44 x0_49 x0_51 x0_53 x0_54 x0_55 x0_56 x0_57 x0_58 x0_59 x0_60 x0_61 x0_62 y1 y2 y3 y4 y5 y6 y7 y8 y9 y10 y11 y12 y13 y14 y15 y16 y17 y18 y19 y20 y21 y22 y23 y24 y25) sz) (wS50 cI cJ cZ cB p0 p1 p2 p3 p4 p5 p6 p7 p8 p9 p10 p11 p12 p13 p14 p15 p16 p17 p18 p19 p20 p21 p22 p23 p24 p25 x0_4 x0_5 x0_6 x0_7 x0_8 x0_12 x0_13 x0_14 x0_15 x0_16 x0_17 x0_18 x0_22 x0_23 x0_24 x0_25 x0_26 x0_27 x0_28 x0_29 x0_30 x0_31 x0_32 x0_36 x0_39 x0_40 x0_44 x0_49 x0_51 x0_53 x0_54 x0_55 x0_56 x0_57 x0_58 x0_59 x0_60 x0_61 x0_62 y1 y2 y3 y4 y5 y6 y7 y8 y9 y10 y11 y12 y13 y14 y15 y16 y17 y18 y19 y20 y21 y22 y23 y24 y25)) (va_A (wS50 cI cJ cZ cB p0 p1 p2 p3 p4 p5 p6 p7 p8 p9 p10 p11 p12 p13 p14 p15 p16 p17 p18 p19 p20 p21 p22 p23 p24 p25 x0_4 x0_5 x0_6 x0_7 x0_8 x0_12 x0_13 x0_14 x0_15 x0_16 x0_17 x0_18 x0_22 x0_23 x0_24 x0_25 x0_26 x0_27 x0_28 x0_29 x0_30 x0_31 x0_32 x0_36 x0_39 x0_40 x0_44 x0_49 x0_51 x0_53 x0_54 x0_55 x0_56 x0_57 x0_58 x0_59 x0_60 x0_61 x0_62 y1 y2 y3 y4 y5 y6 y7 y8 y9 y10 y11 y12 y13 y14 y15 y16 y17 y18 y19 y20 y21 y22 y23 y24 y25) sz)) 0 0 (va_A (wS50 cI cJ cZ cB p0 p1 p2 p3 p4 p5 p6 p7 p8 p9 p10 p11 p12 p13 p14 p15 p16 p17 p18 p19 p20 p21 p22 p23 p24 p25 x0_4 x0_5 x0_6 x0_7 x0_8 x0_12 x0_13 x0_14 x0_15 x0_16 x0_17 x0_18 x0_22 x0_23 x0_24 x0_25 x0_26 x0_27 x0_28 x0_29 x0_30 x0_31 x0_32 x0_36 x0_39 x0_40 x0_44 x0_49 x0_51 x0_53 x0_54 x0_55 x0_56 x0_57 x0_58 x0_59 x0_60 x0_61 x0_62 y1 y2 y3 y4 y5 y6 y7 y8 y9 y10 y11 y12 y13 y14 y15 y16 y17 y18 y19 y20 y21 y22 y23 y24 y25) sz) := by
  refine Met.ofW (cc := b_X_tape) (maxL := 5) (ret := (some .int)) (by decide) rfl ?_
  intro p e s m args below meth c s₁ B hml hv
  obtain ⟨rfl, hsz, hK, hP, hD0⟩ := hv
  subst hsz
  have hD := hD0.self (sz := s.heap.size)
  generalize hAe : va_A (wS50 cI cJ cZ cB p0 p1 p2 p3 p4 p5 p6 p7 p8 p9 p10 p11 p12 p13 p14 p15 p16 p17 p18 p19 p20 p21 p22 p23 p24 p25 x0_4 x0_5 x0_6 x0_7 x0_8 x0_12 x0_13 x0_14 x0_15 x0_16 x0_17 x0_18 x0_22 x0_23 x0_24 x0_25 x0_26 x0_27 x0_28 x0_29 x0_30 x0_31 x0_32 x0_36 x0_39 x0_40 x0_44 x0_49 x0_51 x0_53 x0_54 x0_55 x0_56 x0_57 x0_58 x0_59 x0_60 x0_61 x0_62 y1 y2 y3 y4 y5 y6 y7 y8 y9 y10 y11 y12 y13 y14 y15 y16 y17 y18 y19 y20 y21 y22 y23 y24 y25) s.heap.size = A at hD ⊢
  have hA : ∀ q : Nat, s.heap.size ≤ q → A q := fun q h => by rw [← hAe]; exact Or.inr h
  clear hAe hD0
  have hS : va_S A s.heap s.heap [] := va_S.rf
  have hx := B.exec
  have hb := B.bytes
  have hr := B.returns
  have hts := atoms_spec (ws := .code y_X_tape b_X_tape 5 (some .int) :: tb) B.pre
  have hk : ∀ w ∈ tb, w.before [.ref p0, .int a1, .int a2, .int a3].toArray s = true := fun w h => hts w (List.mem_cons_of_mem _ h)
  have hown : s.vm.findClass "SignMachineModel" = some m.cls := findClass_of_methodNamed B.named
  have hlocks := B.notSynchronized
  have hl := lv_entry ([.ref p0, .int a1, .int a2, .int a3]) (n := 5) (Nat.le_of_ble_eq_true rfl)
  rw [lg_entry_eq]
  generalize (lg_sl ([.ref p0, .int a1, .int a2, .int a3]) ++ List.replicate (5 - (lg_sl ([.ref p0, .int a1, .int a2, .int a3])).length) Slot.unset).toArray = ls at hl ⊢
  have hl : lv_has ls 5 [(0, .ref p0), (1, .int a1), (2, .int a2), (3, .int a3)] := hl
  clear hts B
  refine lv_iload_n hx hb d_X_tape_0 rfl (lv_at hl 1 rfl) ?_
  refine lv_i2l (v := (a1 : Int32).toInt64) hx hb d_X_tape_1 rfl ?_
  refine lv_topl (fun v1 hv1 => ?_)
  obtain ⟨ev1, Rv1⟩ : v1.toInt = a1.toInt ∧ ((-2147483648) ≤ v1.toInt ∧ v1.toInt ≤ 2147483647) := il3 hv1 (fr3 a1)
  refine lv_lconst (v := 0) hx hb d_X_tape_2 (by decide) ?_
  refine lv_lconst (v := 1) hx hb d_X_tape_3 (by decide) ?_
  refine vp_callSi (W.runS (As := [.long v1, .long (0 : Int64), .long (1 : Int64)]) (rest := []) ⟨hx, hb, hml, hown, hk⟩ (c_X_isIn l v1 (0 : Int64) (1 : Int64) ) (s_X_isIn hk k_1319 ⟨Nat.le_of_ble_eq_true rfl, Nat.le_of_ble_eq_true rfl⟩) ⟨fun a U g mk q => q, fun U hU hW => ⟨rfl, trivial⟩⟩ rfl rfl hl.1 rfl (lv_room (Nat.le_of_ble_eq_true rfl)) d_X_tape_4 ⟨Nat.le_of_ble_eq_true rfl, Nat.le_of_ble_eq_true rfl⟩) (fun rz2 hrz2 => ?_)
  obtain ⟨F0z2, F1z2, F2z2⟩ := hrz2
  have F0z2 : 0 ≤ rz2.toInt ∧ rz2.toInt ≤ 1 := F0z2
  have F1z2 : rz2.toInt = 1 → ((0 : Int) ≤ v1.toInt ∧ v1.toInt ≤ (1 : Int)) := F1z2
  have F2z2 : rz2.toInt = 0 → (v1.toInt < (0 : Int) ∨ (1 : Int) < v1.toInt) := F2z2
  refine lv_if_eq (tgt := 34) hx hb d_X_tape_7 (by decide) (fun c3 => ?_) (fun c3 => ?_)
  · have gc3 : rz2.toInt = (0 : Int) := c_eq c3
    have R4 : 0 ≤ rz2.toInt ∧ rz2.toInt ≤ 0 := rf_eqX F0z2 (show 0 ≤ (0 : Int) ∧ (0 : Int) ≤ 0 from by decide) gc3 (by decide) (by decide)
    refine lv_ldc (v := (-2000000000)) hx hb hown (hk _ k_1362) d_X_tape_34 ?_
    exact W.iret (v := (-2000000000 : Int32)) hx hb hr (fun t ht hW => ⟨⟨(-2000000000 : Int32), (-2000000000 : Int32), rfl, rfl, ⟨by show va_P D classes _ t.heap; rw [ht]; exact hP, hD⟩⟩, hS.F ht⟩) hS.2.2 d_X_tape_36
  · have gc3 : rz2.toInt ≠ (0 : Int) := c_ne c3
    have R5 : 1 ≤ rz2.toInt ∧ rz2.toInt ≤ 1 := rf_neX F0z2 (show 0 ≤ (0 : Int) ∧ (0 : Int) ≤ 0 from by decide) gc3 (by decide) (by decide)
    refine lv_iload_n hx hb d_X_tape_10 rfl (lv_at hl 2 rfl) ?_
    refine lv_i2l (v := (a2 : Int32).toInt64) hx hb d_X_tape_11 rfl ?_
    refine lv_topl (fun v6 hv6 => ?_)
    obtain ⟨ev6, Rv6⟩ : v6.toInt = a2.toInt ∧ ((-2147483648) ≤ v6.toInt ∧ v6.toInt ≤ 2147483647) := il3 hv6 (fr3 a2)
    refine lv_lconst (v := 0) hx hb d_X_tape_12 (by decide) ?_
    refine lv_ldc2 (v := 39) hx hb hown (hk _ k_1360) d_X_tape_13 ?_
    refine vp_callSi (W.runS (As := [.long v6, .long (0 : Int64), .long (39 : Int64)]) (rest := []) ⟨hx, hb, hml, hown, hk⟩ (c_X_isIn l v6 (0 : Int64) (39 : Int64) ) (s_X_isIn hk k_1319 ⟨Nat.le_of_ble_eq_true rfl, Nat.le_of_ble_eq_true rfl⟩) ⟨fun a U g mk q => q, fun U hU hW => ⟨rfl, trivial⟩⟩ rfl rfl hl.1 rfl (lv_room (Nat.le_of_ble_eq_true rfl)) d_X_tape_16 ⟨Nat.le_of_ble_eq_true rfl, Nat.le_of_ble_eq_true rfl⟩) (fun rz7 hrz7 => ?_)
    obtain ⟨F0z7, F1z7, F2z7⟩ := hrz7
    have F0z7 : 0 ≤ rz7.toInt ∧ rz7.toInt ≤ 1 := F0z7
    have F1z7 : rz7.toInt = 1 → ((0 : Int) ≤ v6.toInt ∧ v6.toInt ≤ (39 : Int)) := F1z7
    have F2z7 : rz7.toInt = 0 → (v6.toInt < (0 : Int) ∨ (39 : Int) < v6.toInt) := F2z7
    refine lv_if_eq (tgt := 34) hx hb d_X_tape_19 (by decide) (fun c8 => ?_) (fun c8 => ?_)
    · have gc8 : rz7.toInt = (0 : Int) := c_eq c8
      have R9 : 0 ≤ rz7.toInt ∧ rz7.toInt ≤ 0 := rf_eqX F0z7 (show 0 ≤ (0 : Int) ∧ (0 : Int) ≤ 0 from by decide) gc8 (by decide) (by decide)
      refine lv_ldc (v := (-2000000000)) hx hb hown (hk _ k_1362) d_X_tape_34 ?_
      exact W.iret (v := (-2000000000 : Int32)) hx hb hr (fun t ht hW => ⟨⟨(-2000000000 : Int32), (-2000000000 : Int32), rfl, rfl, ⟨by show va_P D classes _ t.heap; rw [ht]; exact hP, hD⟩⟩, hS.F ht⟩) hS.2.2 d_X_tape_36
    · have gc8 : rz7.toInt ≠ (0 : Int) := c_ne c8
      have R10 : 1 ≤ rz7.toInt ∧ rz7.toInt ≤ 1 := rf_neX F0z7 (show 0 ≤ (0 : Int) ∧ (0 : Int) ≤ 0 from by decide) gc8 (by decide) (by decide)
      refine lv_iload_n hx hb d_X_tape_22 rfl (lv_at hl 3 rfl) ?_
      refine lv_i2l (v := (a3 : Int32).toInt64) hx hb d_X_tape_23 rfl ?_
      refine lv_topl (fun v11 hv11 => ?_)
      obtain ⟨ev11, Rv11⟩ : v11.toInt = a3.toInt ∧ ((-2147483648) ≤ v11.toInt ∧ v11.toInt ≤ 2147483647) := il3 hv11 (fr3 a3)
      refine lv_lconst (v := 0) hx hb d_X_tape_24 (by decide) ?_
      refine lv_ldc2 (v := 99) hx hb hown (hk _ k_1361) d_X_tape_25 ?_
      refine vp_callSi (W.runS (As := [.long v11, .long (0 : Int64), .long (99 : Int64)]) (rest := []) ⟨hx, hb, hml, hown, hk⟩ (c_X_isIn l v11 (0 : Int64) (99 : Int64) ) (s_X_isIn hk k_1319 ⟨Nat.le_of_ble_eq_true rfl, Nat.le_of_ble_eq_true rfl⟩) ⟨fun a U g mk q => q, fun U hU hW => ⟨rfl, trivial⟩⟩ rfl rfl hl.1 rfl (lv_room (Nat.le_of_ble_eq_true rfl)) d_X_tape_28 ⟨Nat.le_of_ble_eq_true rfl, Nat.le_of_ble_eq_true rfl⟩) (fun rz12 hrz12 => ?_)
      obtain ⟨F0z12, F1z12, F2z12⟩ := hrz12
      have F0z12 : 0 ≤ rz12.toInt ∧ rz12.toInt ≤ 1 := F0z12
      have F1z12 : rz12.toInt = 1 → ((0 : Int) ≤ v11.toInt ∧ v11.toInt ≤ (99 : Int)) := F1z12
      have F2z12 : rz12.toInt = 0 → (v11.toInt < (0 : Int) ∨ (99 : Int) < v11.toInt) := F2z12
      refine lv_if_ne (tgt := 37) hx hb d_X_tape_31 (by decide) (fun c13 => ?_) (fun c13 => ?_)
      · have gc13 : rz12.toInt ≠ (0 : Int) := c_ne c13
        have R14 : 1 ≤ rz12.toInt ∧ rz12.toInt ≤ 1 := rf_neX F0z12 (show 0 ≤ (0 : Int) ∧ (0 : Int) ≤ 0 from by decide) gc13 (by decide) (by decide)
        have R15 : 0 ≤ a1.toInt ∧ a1.toInt ≤ 1 := by omega
        have R16 : 0 ≤ a2.toInt ∧ a2.toInt ≤ 39 := by omega
        have R17 : 0 ≤ a3.toInt ∧ a3.toInt ≤ 99 := by omega
        refine lv_sipush (v := 4000) hx hb d_X_tape_37 (by decide) ?_
        refine lv_iload_n hx hb d_X_tape_40 rfl (lv_at hl 1 rfl) ?_
        refine lv_imul hx hb d_X_tape_41 ?_
        refine lv_topi (fun v18 hv18 => ?_)
        obtain ⟨ev18, Rv18⟩ : v18.toInt = (4000 : Int) * a1.toInt ∧ (0 ≤ v18.toInt ∧ v18.toInt ≤ 4000) := ml3 hv18 (show 4000 ≤ (4000 : Int32).toInt ∧ (4000 : Int32).toInt ≤ 4000 from by decide) R15 (by decide) (by decide) (by decide) (by decide) (by decide) (by decide)
        refine lv_bipush (v := 100) hx hb d_X_tape_42 (by decide) ?_
        refine lv_iload_n hx hb d_X_tape_44 rfl (lv_at hl 2 rfl) ?_
        refine lv_imul hx hb d_X_tape_45 ?_
        refine lv_topi (fun v19 hv19 => ?_)
        obtain ⟨ev19, Rv19⟩ : v19.toInt = (100 : Int) * a2.toInt ∧ (0 ≤ v19.toInt ∧ v19.toInt ≤ 3900) := ml3 hv19 (show 100 ≤ (100 : Int32).toInt ∧ (100 : Int32).toInt ≤ 100 from by decide) R16 (by decide) (by decide) (by decide) (by decide) (by decide) (by decide)
        refine lv_iadd hx hb d_X_tape_46 ?_
        refine lv_topi (fun v20 hv20 => ?_)
        obtain ⟨ev20, Rv20⟩ : v20.toInt = v18.toInt + v19.toInt ∧ (0 ≤ v20.toInt ∧ v20.toInt ≤ 7900) := ad3 hv20 Rv18 Rv19 (by decide) (by decide) (by decide) (by decide)
        refine lv_iload_n hx hb d_X_tape_47 rfl (lv_at hl 3 rfl) ?_
        refine lv_iadd hx hb d_X_tape_48 ?_
        refine lv_topi (fun v21 hv21 => ?_)
        obtain ⟨ev21, Rv21⟩ : v21.toInt = v20.toInt + a3.toInt ∧ (0 ≤ v21.toInt ∧ v21.toInt ≤ 7999) := ad3 hv21 Rv20 R17 (by decide) (by decide) (by decide) (by decide)
        refine lv_istore (lv' := [(4, .int v21), (0, .ref p0), (1, .int a1), (2, .int a2), (3, .int a3)]) hx hb d_X_tape_49 hl (by decide) rfl (fun ls hl => ?_)
        refine lv_aload_n hx hb d_X_tape_51 rfl (lv_at hl 1 rfl) ?_
        refine va_get (D := D) (ci := 7) (v := .ref p5) (C := "SignMachineModel") (T := F_X) (N := 64) hx hb hk fi_X hown hK.1 hP 0 rfl rfl 9 (by decide) (hk _ k_1130) (fun _ h9 => h9) rfl d_X_tape_52 ?_
        refine lv_iload hx hb d_X_tape_55 (lv_at hl 0 rfl) ?_
        refine va_iald hx hb hK.1 hP 5 0 rfl rfl (vpb Rv21 (by decide) (by decide)) d_X_tape_57 ?_
        refine lv_topi (fun v22 hv22 => ?_)
        have Rv22 := Ay5 (v21).toNatClampNeg
        rw [← hv22] at Rv22
        refine lv_if_ne (tgt := 71) hx hb d_X_tape_58 (by decide) (fun c23 => ?_) (fun c23 => ?_)
        · have gc23 : v22.toInt ≠ (0 : Int) := c_ne c23
          have R24 : 1 ≤ v22.toInt ∧ v22.toInt ≤ 1 := rf_neX Rv22 (show 0 ≤ (0 : Int) ∧ (0 : Int) ≤ 0 from by decide) gc23 (by decide) (by decide)
          refine lv_aload_n hx hb d_X_tape_71 rfl (lv_at hl 1 rfl) ?_
          refine va_get (D := D) (ci := 7) (v := .ref p6) (C := "SignMachineModel") (T := F_X) (N := 64) hx hb hk fi_X hown hK.1 hP 0 rfl rfl 10 (by decide) (hk _ k_1131) (fun _ h9 => h9) rfl d_X_tape_72 ?_
          refine lv_iload hx hb d_X_tape_75 (lv_at hl 0 rfl) ?_
          refine va_iald hx hb hK.1 hP 6 0 rfl rfl (vpb Rv21 (by decide) (by decide)) d_X_tape_77 ?_
          refine lv_topi (fun v25 hv25 => ?_)
          have Rv25 := Ay6 (v21).toNatClampNeg
          rw [← hv25] at Rv25
          refine lv_if_ne (tgt := 86) hx hb d_X_tape_78 (by decide) (fun c26 => ?_) (fun c26 => ?_)
          · have gc26 : v25.toInt ≠ (0 : Int) := c_ne c26
            have R27 : 1 ≤ v25.toInt ∧ v25.toInt ≤ 1073741823 := rf_neX Rv25 (show 0 ≤ (0 : Int) ∧ (0 : Int) ≤ 0 from by decide) gc26 (by decide) (by decide)
            refine lv_aload_n hx hb d_X_tape_86 rfl (lv_at hl 1 rfl) ?_
            refine va_get (D := D) (ci := 7) (v := .ref p6) (C := "SignMachineModel") (T := F_X) (N := 64) hx hb hk fi_X hown hK.1 hP 0 rfl rfl 10 (by decide) (hk _ k_1131) (fun _ h9 => h9) rfl d_X_tape_87 ?_
            refine lv_iload hx hb d_X_tape_90 (lv_at hl 0 rfl) ?_
            refine va_iald hx hb hK.1 hP 6 0 rfl rfl (vpb Rv21 (by decide) (by decide)) d_X_tape_92 ?_
            refine lv_topi (fun v28 hv28 => ?_)
            have Rv28 := Ay6 (v21).toNatClampNeg
            rw [← hv28] at Rv28
            refine lv_ineg hx hb d_X_tape_93 ?_
            refine lv_topi (fun v29 hv29 => ?_)
            obtain ⟨ev29, Rv29⟩ : v29.toInt = -v28.toInt ∧ ((-1073741823) ≤ v29.toInt ∧ v29.toInt ≤ 0) := ng3 hv29 Rv28 (by decide) (by decide) (by decide) (by decide)
            exact W.iret (v := v29) hx hb hr (fun t ht hW => ⟨⟨v29, v29, rfl, rfl, ⟨by show va_P D classes _ t.heap; rw [ht]; exact hP, hD⟩⟩, hS.F ht⟩) hS.2.2 d_X_tape_94
          · have gc26 : v25.toInt = (0 : Int) := c_eq c26
            have R30 : 0 ≤ v25.toInt ∧ v25.toInt ≤ 0 := rf_eqX Rv25 (show 0 ≤ (0 : Int) ∧ (0 : Int) ≤ 0 from by decide) gc26 (by decide) (by decide)
            refine lv_ldc (v := (-1073741824)) hx hb hown (hk _ k_1363) d_X_tape_81 ?_
            refine lv_goto (tgt := 94) hx hb d_X_tape_83 (by decide) ?_
            exact W.iret (v := (-1073741824 : Int32)) hx hb hr (fun t ht hW => ⟨⟨(-1073741824 : Int32), (-1073741824 : Int32), rfl, rfl, ⟨by show va_P D classes _ t.heap; rw [ht]; exact hP, hD⟩⟩, hS.F ht⟩) hS.2.2 d_X_tape_94
        · have gc23 : v22.toInt = (0 : Int) := c_eq c23
          have R31 : 0 ≤ v22.toInt ∧ v22.toInt ≤ 0 := rf_eqX Rv22 (show 0 ≤ (0 : Int) ∧ (0 : Int) ≤ 0 from by decide) gc23 (by decide) (by decide)
          refine lv_aload_n hx hb d_X_tape_61 rfl (lv_at hl 1 rfl) ?_
          refine va_get (D := D) (ci := 7) (v := .ref p6) (C := "SignMachineModel") (T := F_X) (N := 64) hx hb hk fi_X hown hK.1 hP 0 rfl rfl 10 (by decide) (hk _ k_1131) (fun _ h9 => h9) rfl d_X_tape_62 ?_
          refine lv_iload hx hb d_X_tape_65 (lv_at hl 0 rfl) ?_
          refine va_iald hx hb hK.1 hP 6 0 rfl rfl (vpb Rv21 (by decide) (by decide)) d_X_tape_67 ?_
          refine lv_topi (fun v32 hv32 => ?_)
          have Rv32 := Ay6 (v21).toNatClampNeg
          rw [← hv32] at Rv32
          refine lv_goto (tgt := 94) hx hb d_X_tape_68 (by decide) ?_
          exact W.iret (v := v32) hx hb hr (fun t ht hW => ⟨⟨v32, v32, rfl, rfl, ⟨by show va_P D classes _ t.heap; rw [ht]; exact hP, hD⟩⟩, hS.F ht⟩) hS.2.2 d_X_tape_94
      · have gc13 : rz12.toInt = (0 : Int) := c_eq c13
        have R33 : 0 ≤ rz12.toInt ∧ rz12.toInt ≤ 0 := rf_eqX F0z12 (show 0 ≤ (0 : Int) ∧ (0 : Int) ≤ 0 from by decide) gc13 (by decide) (by decide)
        refine lv_ldc (v := (-2000000000)) hx hb hown (hk _ k_1362) d_X_tape_34 ?_
        exact W.iret (v := (-2000000000 : Int32)) hx hb hr (fun t ht hW => ⟨⟨(-2000000000 : Int32), (-2000000000 : Int32), rfl, rfl, ⟨by show va_P D classes _ t.heap; rw [ht]; exact hP, hD⟩⟩, hS.F ht⟩) hS.2.2 d_X_tape_36
theorem v_X_tape {R : Room} {s : State} {args : Array Value} {own : String} {index : Nat} (hk : ∀ w ∈ tb, w.before args s = true) (hl : Cond.methodLink own index y_X_tape ∈ tb) (hR : 1 + 1 ≤ R.frames ∧ 8 + (5 + 11) + 25 ≤ R.locals) : CallW R s args own "SignMachineModel" index y_X_tape b_X_tape 5 (some .int) (.code y_X_tape b_X_tape 5 (some .int) :: tb) ({ frames := 1, cells := 0, slots := 0, locals := 25 }) 0 0 3 := mk_v 3 hk k_1359 hl k_1357 k_1358 k_119 rfl rfl h_X_tape hR
set_option maxHeartbeats 8000000 in
set_option maxRecDepth 100000 in
theorem c_X_power (l : Launch)  (a1 : Int32) (Q0 : 0 ≤ a1.toInt ∧ a1.toInt ≤ 5) : Met l y_X_power (.code y_X_power b_X_power 3 (some .int) :: tb) ({ frames := 0, cells := 0, slots := 0, locals := 0 }) (va_Pc [.int a1] (fun _ => True)) (vp_Si (fun ur => (1 ≤ ur.toInt ∧ ur.toInt ≤ 1073741824) ∧ (a1.toInt = 0 → ur.toInt = 1) ∧ (a1.toInt = 1 → ur.toInt = 64) ∧ (a1.toInt = 2 → ur.toInt = 4096) ∧ (a1.toInt = 3 → ur.toInt = 262144) ∧ (a1.toInt = 4 → ur.toInt = 16777216) ∧ (a1.toInt = 5 → ur.toInt = 1073741824) ∧ (ur.toInt = pw a1.toInt))) 0 0 (fun _ => False) := by
  refine Met.ofW (cc := b_X_power) (maxL := 3) (ret := (some .int)) (by decide) rfl ?_
  intro p e s m args below meth c s₁ B hml hv
  obtain ⟨rfl, -⟩ := hv
  have hx := B.exec
  have hb := B.bytes
  have hr := B.returns
  have hts := atoms_spec (ws := .code y_X_power b_X_power 3 (some .int) :: tb) B.pre
  have hk : ∀ w ∈ tb, w.before [.int a1].toArray s = true := fun w h => hts w (List.mem_cons_of_mem _ h)
  have hown : s.vm.findClass "SignMachineModel" = some m.cls := findClass_of_methodNamed B.named
  have hlocks := B.notSynchronized
  have hl := lv_entry ([.int a1]) (n := 3) (Nat.le_of_ble_eq_true rfl)
  rw [lg_entry_eq]
  generalize (lg_sl ([.int a1]) ++ List.replicate (3 - (lg_sl ([.int a1])).length) Slot.unset).toArray = ls at hl ⊢
  have hl : lv_has ls 3 [(0, .int a1)] := hl
  clear hts B
  refine lv_iconst (v := 1) hx hb d_X_power_0 (by decide) ?_
  refine lv_istore_n (lv' := [(1, .int (1 : Int32)), (0, .int a1)]) hx hb d_X_power_1 rfl hl (by decide) rfl (fun ls hl => ?_)
  refine lv_iconst (v := 0) hx hb d_X_power_2 (by decide) ?_
  refine lv_istore_n (lv' := [(2, .int (0 : Int32)), (1, .int (1 : Int32)), (0, .int a1)]) hx hb d_X_power_3 rfl hl (by decide) rfl (fun ls hl => ?_)
  have CUT4 : ∀ (n : Nat) (g4l2 : Int32) (g4l1 : Int32)  (ls : Array Slot), (a1.toInt - g4l2.toInt) < (n : Int) → (1 ≤ g4l1.toInt ∧ g4l1.toInt ≤ 1073741824) → (0 ≤ g4l2.toInt ∧ g4l2.toInt ≤ 5) → (g4l2.toInt ≤ a1.toInt) → (g4l2.toInt = 0 → g4l1.toInt = 1) → (g4l2.toInt = 1 → g4l1.toInt = 64) → (g4l2.toInt = 2 → g4l1.toInt = 4096) → (g4l2.toInt = 3 → g4l1.toInt = 262144) → (g4l2.toInt = 4 → g4l1.toInt = 16777216) → (g4l2.toInt = 5 → g4l1.toInt = 1073741824) → lv_has ls 3 [(2, .int g4l2), (1, .int g4l1), (0, .int a1)] → W p l e ({ frames := 0, cells := 0, slots := 0, locals := 0 }) s m [.int a1].toArray below meth c s.heap [] 0 0 (MQ below (vp_Si (fun ur => (1 ≤ ur.toInt ∧ ur.toInt ≤ 1073741824) ∧ (a1.toInt = 0 → ur.toInt = 1) ∧ (a1.toInt = 1 → ur.toInt = 64) ∧ (a1.toInt = 2 → ur.toInt = 4096) ∧ (a1.toInt = 3 → ur.toInt = 262144) ∧ (a1.toInt = 4 → ur.toInt = 16777216) ∧ (a1.toInt = 5 → ur.toInt = 1073741824) ∧ (ur.toInt = pw a1.toInt))) [.int a1].toArray s 0 0 (fun _ => False)) (F0 m 4 ls []) := by
    intro n
    induction n with
    | zero => intro g4l2 g4l1 ls hn4 Rg4l1 Rg4l2 I4_0 I4_1 I4_2 I4_3 I4_4 I4_5 I4_6 hl; exfalso; omega
    | succ n ih4 =>
      intro g4l2 g4l1 ls hn4 Rg4l1 Rg4l2 I4_0 I4_1 I4_2 I4_3 I4_4 I4_5 I4_6 hl
      refine lv_iload_n hx hb d_X_power_4 rfl (lv_at hl 0 rfl) ?_
      refine lv_iload_n hx hb d_X_power_5 rfl (lv_at hl 2 rfl) ?_
      refine lv_icmp_ge (tgt := 20) hx hb d_X_power_6 (by decide) (fun c1 => ?_) (fun c1 => ?_)
      · have gc1 : a1.toInt ≤ g4l2.toInt := c_le c1
        refine lv_iload_n hx hb d_X_power_20 rfl (lv_at hl 1 rfl) ?_
        exact W.iret (v := g4l1) hx hb hr (fun t ht hW => ⟨g4l1, rfl, ⟨Rg4l1, (show a1.toInt = 0 → g4l1.toInt = 1 from by omega), (show a1.toInt = 1 → g4l1.toInt = 64 from by omega), (show a1.toInt = 2 → g4l1.toInt = 4096 from by omega), (show a1.toInt = 3 → g4l1.toInt = 262144 from by omega), (show a1.toInt = 4 → g4l1.toInt = 16777216 from by omega), (show a1.toInt = 5 → g4l1.toInt = 1073741824 from by omega), (show g4l1.toInt = pw a1.toInt from by unfold pw; (repeat' split) <;> omega)⟩, ht⟩) (fun q h => absurd h List.not_mem_nil) d_X_power_21
      · have gc1 : g4l2.toInt < a1.toInt := c_nle c1
        have R2 : 0 ≤ g4l2.toInt ∧ g4l2.toInt ≤ 4 := rf_ltX Rg4l2 Q0 gc1 (by decide) (by decide)
        have R3 : 1 ≤ a1.toInt ∧ a1.toInt ≤ 5 := rf_ltY Rg4l2 Q0 gc1 (by decide) (by decide)
        have R4 : 1 ≤ g4l1.toInt ∧ g4l1.toInt ≤ 16777216 := by omega
        refine lv_iload_n hx hb d_X_power_9 rfl (lv_at hl 1 rfl) ?_
        refine lv_bipush (v := 64) hx hb d_X_power_10 (by decide) ?_
        refine lv_imul hx hb d_X_power_12 ?_
        refine lv_topi (fun v5 hv5 => ?_)
        obtain ⟨ev5, Rv5⟩ : v5.toInt = g4l1.toInt * (64 : Int) ∧ (64 ≤ v5.toInt ∧ v5.toInt ≤ 1073741824) := ml3 hv5 R4 (show 64 ≤ (64 : Int32).toInt ∧ (64 : Int32).toInt ≤ 64 from by decide) (by decide) (by decide) (by decide) (by decide) (by decide) (by decide)
        refine lv_istore_n (lv' := [(1, .int v5), (2, .int g4l2), (0, .int a1)]) hx hb d_X_power_13 rfl hl (by decide) rfl (fun ls hl => ?_)
        obtain ⟨v6, hv6⟩ : ∃ y : Int32, y = (g4l2 + (1 : Int32)) := ⟨_, rfl⟩
        obtain ⟨ev6, Rv6⟩ : v6.toInt = g4l2.toInt + 1 ∧ (1 ≤ v6.toInt ∧ v6.toInt ≤ 5) := ad3 hv6 R2 (y := (1 : Int32)) (c := 1) (d := 1) (by decide) (by decide) (by decide) (by decide) (by decide)
        refine lv_iinc (v := v6) (lv' := [(2, .int v6), (1, .int v5), (0, .int a1)]) hx hb d_X_power_14 hl (k := 1) rfl (by rw [hv6]; rfl) (by decide) rfl (fun ls hl => ?_)
        refine lv_goto (tgt := 4) hx hb d_X_power_17 (by decide) ?_
        exact ih4 v6 v5 ls (show a1.toInt - v6.toInt < (n : Int) from by omega) (rgw Rv5 (by decide) (by decide)) (rgw Rv6 (by decide) (by decide)) (show v6.toInt ≤ a1.toInt from by omega) (show v6.toInt = 0 → v5.toInt = 1 from by omega) (show v6.toInt = 1 → v5.toInt = 64 from by omega) (show v6.toInt = 2 → v5.toInt = 4096 from by omega) (show v6.toInt = 3 → v5.toInt = 262144 from by omega) (show v6.toInt = 4 → v5.toInt = 16777216 from by omega) (show v6.toInt = 5 → v5.toInt = 1073741824 from by omega) (lv_sub hl [0, 1, 2] rfl)
  exact CUT4 ((a1.toInt - (0 : Int)).toNat + 1) (0 : Int32) (1 : Int32) ls (show (a1.toInt - (0 : Int)) < (((a1.toInt - (0 : Int)).toNat + 1 : Nat) : Int) from by omega) (by decide) (by decide) (show (0 : Int) ≤ a1.toInt from by omega) (show (0 : Int) = 0 → (1 : Int) = 1 from by omega) (show (0 : Int) = 1 → (1 : Int) = 64 from by omega) (show (0 : Int) = 2 → (1 : Int) = 4096 from by omega) (show (0 : Int) = 3 → (1 : Int) = 262144 from by omega) (show (0 : Int) = 4 → (1 : Int) = 16777216 from by omega) (show (0 : Int) = 5 → (1 : Int) = 1073741824 from by omega) (lv_sub hl [0, 1, 2] rfl)
theorem s_X_power {R : Room} {s : State} {args : Array Value} {own : String} {index : Nat} (hk : ∀ w ∈ tb, w.before args s = true) (hl : Cond.methodLink own index y_X_power ∈ tb) (hR : 0 + 1 ≤ R.frames ∧ 8 + (3 + 11) + 0 ≤ R.locals) : CallB R s args own index y_X_power b_X_power 3 (some .int) (.code y_X_power b_X_power 3 (some .int) :: tb) ({ frames := 0, cells := 0, slots := 0, locals := 0 }) 0 0 1 ∧ (Cond.static y_X_power).before args s = true := mk_s 1 hk k_1417 hl k_1416 k_119 rfl rfl h_X_power hR
set_option maxHeartbeats 8000000 in
set_option maxRecDepth 100000 in
theorem c_X_bytes (l : Launch)  (a1 : Int32) (a2 : Int32) (a3 : Int32) (Q0 : 0 ≤ a1.toInt ∧ a1.toInt ≤ 1073741823) (Q1 : 1 ≤ a2.toInt ∧ a2.toInt ≤ 5) (Q2 : 0 ≤ a3.toInt ∧ a3.toInt ≤ 5) : Met l y_X_bytes (.code y_X_bytes b_X_bytes 4 (some .int) :: tb) ({ frames := 1, cells := 0, slots := 0, locals := 22 }) (va_Pc [.int a1, .int a2, .int a3] (fun _ => True)) (vp_Si (fun ur => (0 ≤ ur.toInt ∧ ur.toInt ≤ 1073741823) ∧ (hid (a2.toInt = a3.toInt → ur.toInt ≤ 63)) ∧ (hid (ur.toInt = bt a1.toInt a2.toInt a3.toInt)))) 0 0 (fun _ => False) := by
  refine Met.ofW (cc := b_X_bytes) (maxL := 4) (ret := (some .int)) (by decide) rfl ?_
  intro p e s m args below meth c s₁ B hml hv
  obtain ⟨rfl, -⟩ := hv
  have hx := B.exec
  have hb := B.bytes
  have hr := B.returns
  have hts := atoms_spec (ws := .code y_X_bytes b_X_bytes 4 (some .int) :: tb) B.pre
  have hk : ∀ w ∈ tb, w.before [.int a1, .int a2, .int a3].toArray s = true := fun w h => hts w (List.mem_cons_of_mem _ h)
  have hown : s.vm.findClass "SignMachineModel" = some m.cls := findClass_of_methodNamed B.named
  have hlocks := B.notSynchronized
  have hl := lv_entry ([.int a1, .int a2, .int a3]) (n := 4) (Nat.le_of_ble_eq_true rfl)
  rw [lg_entry_eq]
  generalize (lg_sl ([.int a1, .int a2, .int a3]) ++ List.replicate (4 - (lg_sl ([.int a1, .int a2, .int a3])).length) Slot.unset).toArray = ls at hl ⊢
  have hl : lv_has ls 4 [(0, .int a1), (1, .int a2), (2, .int a3)] := hl
  clear hts B
  refine lv_iload_n hx hb d_X_bytes_0 rfl (lv_at hl 0 rfl) ?_
  refine lv_iconst (v := 5) hx hb d_X_bytes_1 (by decide) ?_
  refine lv_iload_n hx hb d_X_bytes_2 rfl (lv_at hl 2 rfl) ?_
  refine lv_isub hx hb d_X_bytes_3 ?_
  refine lv_topi (fun v1 hv1 => ?_)
  obtain ⟨ev1, Rv1⟩ : v1.toInt = (5 : Int) - a3.toInt ∧ (0 ≤ v1.toInt ∧ v1.toInt ≤ 5) := sb3 hv1 (show 5 ≤ (5 : Int32).toInt ∧ (5 : Int32).toInt ≤ 5 from by decide) Q2 (by decide) (by decide) (by decide) (by decide)
  refine vp_callSi (W.runS (As := [.int v1]) (rest := [.int a1]) ⟨hx, hb, hml, hown, hk⟩ (c_X_power l v1 Rv1) (s_X_power hk k_1415 ⟨Nat.le_of_ble_eq_true rfl, Nat.le_of_ble_eq_true rfl⟩) ⟨fun a U g mk q => q, fun U hU hW => ⟨rfl, trivial⟩⟩ rfl rfl hl.1 rfl (lv_room (Nat.le_of_ble_eq_true rfl)) d_X_bytes_4 ⟨Nat.le_of_ble_eq_true rfl, Nat.le_of_ble_eq_true rfl⟩) (fun rz2 hrz2 => ?_)
  obtain ⟨F0z2, F1z2, F2z2, F3z2, F4z2, F5z2, F6z2, F7z2⟩ := hrz2
  have F0z2 : 1 ≤ rz2.toInt ∧ rz2.toInt ≤ 1073741824 := F0z2
  have F1z2 : v1.toInt = 0 → rz2.toInt = 1 := F1z2
  have F2z2 : v1.toInt = 1 → rz2.toInt = 64 := F2z2
  have F3z2 : v1.toInt = 2 → rz2.toInt = 4096 := F3z2
  have F4z2 : v1.toInt = 3 → rz2.toInt = 262144 := F4z2
  have F5z2 : v1.toInt = 4 → rz2.toInt = 16777216 := F5z2
  have F6z2 : v1.toInt = 5 → rz2.toInt = 1073741824 := F6z2
  have F7z2 : rz2.toInt = pw v1.toInt := F7z2
  refine lv_idiv hx hb d_X_bytes_7 (by first | exact nz3 (by omega) | exact nz6 (by omega)) ?_
  refine lv_topi (fun v3 hv3 => ?_)
  obtain ⟨ev3, Rv3⟩ : v3.toInt = a1.toInt / rz2.toInt ∧ (0 ≤ v3.toInt ∧ v3.toInt ≤ 1073741823) := dv3 hv3 Q0 F0z2 (by decide) (by decide) (by decide)
  refine lv_istore_n (lv' := [(3, .int v3), (0, .int a1), (1, .int a2), (2, .int a3)]) hx hb d_X_bytes_8 rfl hl (by decide) rfl (fun ls hl => ?_)
  refine lv_iload_n hx hb d_X_bytes_9 rfl (lv_at hl 3 rfl) ?_
  refine lv_iload_n hx hb d_X_bytes_10 rfl (lv_at hl 2 rfl) ?_
  refine lv_icmp_ge (tgt := 18) hx hb d_X_bytes_11 (by decide) (fun c4 => ?_) (fun c4 => ?_)
  · have gc4 : a2.toInt ≤ a3.toInt := c_le c4
    have R5 : 1 ≤ a3.toInt ∧ a3.toInt ≤ 5 := rf_geX Q2 Q1 gc4 (by decide) (by decide)
    refine lv_iload_n hx hb d_X_bytes_18 rfl (lv_at hl 3 rfl) ?_
    refine lv_iload_n hx hb d_X_bytes_19 rfl (lv_at hl 2 rfl) ?_
    refine lv_isub hx hb d_X_bytes_20 ?_
    refine lv_topi (fun v6 hv6 => ?_)
    obtain ⟨ev6, Rv6⟩ : v6.toInt = a3.toInt - a2.toInt ∧ ((-4) ≤ v6.toInt ∧ v6.toInt ≤ 4) := sb3 hv6 R5 Q1 (by decide) (by decide) (by decide) (by decide)
    refine lv_iconst (v := 1) hx hb d_X_bytes_21 (by decide) ?_
    refine lv_iadd hx hb d_X_bytes_22 ?_
    refine lv_topi (fun v7 hv7 => ?_)
    obtain ⟨ev7, Rv7⟩ : v7.toInt = v6.toInt + (1 : Int) ∧ ((-3) ≤ v7.toInt ∧ v7.toInt ≤ 5) := ad3 hv7 Rv6 (show 1 ≤ (1 : Int32).toInt ∧ (1 : Int32).toInt ≤ 1 from by decide) (by decide) (by decide) (by decide) (by decide)
    refine lv_iconst (v := 5) hx hb d_X_bytes_23 (by decide) ?_
    refine lv_icmp_ne (tgt := 31) hx hb d_X_bytes_24 (by decide) (fun c8 => ?_) (fun c8 => ?_)
    · have gc8 : v7.toInt ≠ (5 : Int) := c_ne c8
      have R9 : (-3) ≤ v7.toInt ∧ v7.toInt ≤ 4 := rf_neX Rv7 (show 5 ≤ (5 : Int) ∧ (5 : Int) ≤ 5 from by decide) gc8 (by decide) (by decide)
      refine lv_iload_n hx hb d_X_bytes_31 rfl (lv_at hl 0 rfl) ?_
      refine lv_iload_n hx hb d_X_bytes_32 rfl (lv_at hl 3 rfl) ?_
      refine lv_iload_n hx hb d_X_bytes_33 rfl (lv_at hl 2 rfl) ?_
      refine lv_isub hx hb d_X_bytes_34 ?_
      refine lv_topi (fun v10 hv10 => ?_)
      obtain ⟨ev10, Rv10⟩ : v10.toInt = a3.toInt - a2.toInt ∧ ((-4) ≤ v10.toInt ∧ v10.toInt ≤ 4) := sb3 hv10 R5 Q1 (by decide) (by decide) (by decide) (by decide)
      refine lv_iconst (v := 1) hx hb d_X_bytes_35 (by decide) ?_
      refine lv_iadd hx hb d_X_bytes_36 ?_
      refine lv_topi (fun v11 hv11 => ?_)
      obtain ⟨ev11, Rv11⟩ : v11.toInt = v10.toInt + (1 : Int) ∧ ((-3) ≤ v11.toInt ∧ v11.toInt ≤ 5) := ad3 hv11 Rv10 (show 1 ≤ (1 : Int32).toInt ∧ (1 : Int32).toInt ≤ 1 from by decide) (by decide) (by decide) (by decide) (by decide)
      refine vp_callSi (W.runS (As := [.int v11]) (rest := [.int v3]) ⟨hx, hb, hml, hown, hk⟩ (c_X_power l v11 (by omega)) (s_X_power hk k_1415 ⟨Nat.le_of_ble_eq_true rfl, Nat.le_of_ble_eq_true rfl⟩) ⟨fun a U g mk q => q, fun U hU hW => ⟨rfl, trivial⟩⟩ rfl rfl hl.1 rfl (lv_room (Nat.le_of_ble_eq_true rfl)) d_X_bytes_37 ⟨Nat.le_of_ble_eq_true rfl, Nat.le_of_ble_eq_true rfl⟩) (fun rz12 hrz12 => ?_)
      obtain ⟨F0z12, F1z12, F2z12, F3z12, F4z12, F5z12, F6z12, F7z12⟩ := hrz12
      have F0z12 : 1 ≤ rz12.toInt ∧ rz12.toInt ≤ 1073741824 := F0z12
      have F1z12 : v11.toInt = 0 → rz12.toInt = 1 := F1z12
      have F2z12 : v11.toInt = 1 → rz12.toInt = 64 := F2z12
      have F3z12 : v11.toInt = 2 → rz12.toInt = 4096 := F3z12
      have F4z12 : v11.toInt = 3 → rz12.toInt = 262144 := F4z12
      have F5z12 : v11.toInt = 4 → rz12.toInt = 16777216 := F5z12
      have F6z12 : v11.toInt = 5 → rz12.toInt = 1073741824 := F6z12
      have F7z12 : rz12.toInt = pw v11.toInt := F7z12
      refine lv_irem hx hb d_X_bytes_40 (by first | exact nz3 (by omega) | exact nz6 (by omega)) ?_
      refine lv_topi (fun v13 hv13 => ?_)
      obtain ⟨ev13, lv13, Rv13⟩ : v13.toInt = v3.toInt % rz12.toInt ∧ v13.toInt < rz12.toInt ∧ (0 ≤ v13.toInt ∧ v13.toInt ≤ 1073741823) := rm3 hv13 Rv3 F0z12 (by decide) (by decide) (by decide)
      exact W.iret (v := v13) hx hb hr (fun t ht hW => ⟨v13, rfl, ⟨Rv13, (show hid (a2.toInt = a3.toInt → v13.toInt ≤ 63) from by first | assumption | (unfold hid; omega)), (show hid (v13.toInt = bt a1.toInt a2.toInt a3.toInt) from by show _ = bt _ _ _; unfold bt; rw [if_neg (by omega), if_neg (by omega), ev13, F7z12, ev3, F7z2, ev1, show v11.toInt = a3.toInt - a2.toInt + 1 from by omega])⟩, ht⟩) (fun q h => absurd h List.not_mem_nil) d_X_bytes_41
    · have gc8 : v7.toInt = (5 : Int) := c_eq c8
      have R14 : 5 ≤ v7.toInt ∧ v7.toInt ≤ 5 := rf_eqX Rv7 (show 5 ≤ (5 : Int) ∧ (5 : Int) ≤ 5 from by decide) gc8 (by decide) (by decide)
      refine lv_iload_n hx hb d_X_bytes_27 rfl (lv_at hl 0 rfl) ?_
      refine lv_goto (tgt := 41) hx hb d_X_bytes_28 (by decide) ?_
      exact W.iret (v := v3) hx hb hr (fun t ht hW => ⟨v3, rfl, ⟨Rv3, (show hid (a2.toInt = a3.toInt → v3.toInt ≤ 63) from by first | assumption | (unfold hid; omega)), (show hid (v3.toInt = bt a1.toInt a2.toInt a3.toInt) from by show _ = bt _ _ _; unfold bt; rw [if_neg (by omega), if_pos (by omega), ev3, F7z2, ev1])⟩, ht⟩) (fun q h => absurd h List.not_mem_nil) d_X_bytes_41
  · have gc4 : a3.toInt < a2.toInt := c_nle c4
    have R15 : 0 ≤ a3.toInt ∧ a3.toInt ≤ 4 := rf_ltX Q2 Q1 gc4 (by decide) (by decide)
    refine lv_iconst (v := 0) hx hb d_X_bytes_14 (by decide) ?_
    refine lv_goto (tgt := 41) hx hb d_X_bytes_15 (by decide) ?_
    exact W.iret (v := (0 : Int32)) hx hb hr (fun t ht hW => ⟨(0 : Int32), rfl, ⟨(by decide), (show hid (a2.toInt = a3.toInt → (0 : Int) ≤ 63) from by first | assumption | (unfold hid; omega)), (show hid ((0 : Int) = bt a1.toInt a2.toInt a3.toInt) from by show _ = bt _ _ _; unfold bt; rw [if_pos (by omega)])⟩, ht⟩) (fun q h => absurd h List.not_mem_nil) d_X_bytes_41
theorem s_X_bytes {R : Room} {s : State} {args : Array Value} {own : String} {index : Nat} (hk : ∀ w ∈ tb, w.before args s = true) (hl : Cond.methodLink own index y_X_bytes ∈ tb) (hR : 1 + 1 ≤ R.frames ∧ 8 + (4 + 11) + 22 ≤ R.locals) : CallB R s args own index y_X_bytes b_X_bytes 4 (some .int) (.code y_X_bytes b_X_bytes 4 (some .int) :: tb) ({ frames := 1, cells := 0, slots := 0, locals := 22 }) 0 0 3 ∧ (Cond.static y_X_bytes).before args s = true := mk_s 3 hk k_1414 hl k_1413 k_119 rfl rfl h_X_bytes hR
set_option maxHeartbeats 8000000 in
set_option maxRecDepth 100000 in
theorem c_X_isField (l : Launch)  (a1 : Int32) (Q0 : 0 ≤ a1.toInt ∧ a1.toInt ≤ 63) : Met l y_X_isField (.code y_X_isField b_X_isField 1 (some .boolean) :: tb) ({ frames := 0, cells := 0, slots := 0, locals := 0 }) (va_Pc [.int a1] (fun _ => True)) (vp_Si (fun ur => (0 ≤ ur.toInt ∧ ur.toInt ≤ 1) ∧ (ur.toInt = 1 → (a1.toInt / 8 ≤ a1.toInt % 8 ∧ a1.toInt % 8 ≤ 5)))) 0 0 (fun _ => False) := by
  refine Met.ofW (cc := b_X_isField) (maxL := 1) (ret := (some .boolean)) (by decide) rfl ?_
  intro p e s m args below meth c s₁ B hml hv
  obtain ⟨rfl, -⟩ := hv
  have hx := B.exec
  have hb := B.bytes
  have hr := B.returns
  have hts := atoms_spec (ws := .code y_X_isField b_X_isField 1 (some .boolean) :: tb) B.pre
  have hk : ∀ w ∈ tb, w.before [.int a1].toArray s = true := fun w h => hts w (List.mem_cons_of_mem _ h)
  have hown : s.vm.findClass "SignMachineModel" = some m.cls := findClass_of_methodNamed B.named
  have hlocks := B.notSynchronized
  have hl := lv_entry ([.int a1]) (n := 1) (Nat.le_of_ble_eq_true rfl)
  rw [lg_entry_eq]
  generalize (lg_sl ([.int a1]) ++ List.replicate (1 - (lg_sl ([.int a1])).length) Slot.unset).toArray = ls at hl ⊢
  have hl : lv_has ls 1 [(0, .int a1)] := hl
  clear hts B
  refine lv_iload_n hx hb d_X_isField_0 rfl (lv_at hl 0 rfl) ?_
  refine lv_bipush (v := 8) hx hb d_X_isField_1 (by decide) ?_
  refine lv_idiv hx hb d_X_isField_3 (by decide) ?_
  refine lv_topi (fun v1 hv1 => ?_)
  obtain ⟨ev1, Rv1⟩ : v1.toInt = a1.toInt / (8 : Int) ∧ (0 ≤ v1.toInt ∧ v1.toInt ≤ 7) := dv3 hv1 Q0 (show 8 ≤ (8 : Int32).toInt ∧ (8 : Int32).toInt ≤ 8 from by decide) (by decide) (by decide) (by decide)
  refine lv_iload_n hx hb d_X_isField_4 rfl (lv_at hl 0 rfl) ?_
  refine lv_bipush (v := 8) hx hb d_X_isField_5 (by decide) ?_
  refine lv_irem hx hb d_X_isField_7 (by decide) ?_
  refine lv_topi (fun v2 hv2 => ?_)
  obtain ⟨ev2, lv2, Rv2⟩ : v2.toInt = a1.toInt % (8 : Int) ∧ v2.toInt < (8 : Int) ∧ (0 ≤ v2.toInt ∧ v2.toInt ≤ 7) := rm3 hv2 Q0 (show 8 ≤ (8 : Int32).toInt ∧ (8 : Int32).toInt ≤ 8 from by decide) (by decide) (by decide) (by decide)
  refine lv_icmp_gt (tgt := 23) hx hb d_X_isField_8 (by decide) (fun c3 => ?_) (fun c3 => ?_)
  · have gc3 : v2.toInt < v1.toInt := c_lt c3
    have R4 : 1 ≤ v1.toInt ∧ v1.toInt ≤ 7 := rf_gtX Rv1 Rv2 gc3 (by decide) (by decide)
    have R5 : 0 ≤ v2.toInt ∧ v2.toInt ≤ 6 := rf_gtY Rv1 Rv2 gc3 (by decide) (by decide)
    refine lv_iconst (v := 0) hx hb d_X_isField_23 (by decide) ?_
    exact W.zret (v := (0 : Int32)) hx hb hr (nar01 (by decide)) (fun t ht hW => ⟨(0 : Int32), rfl, ⟨(by decide), (show (0 : Int) = 1 → (a1.toInt / 8 ≤ a1.toInt % 8 ∧ a1.toInt % 8 ≤ 5) from by omega)⟩, ht⟩) (fun q h => absurd h List.not_mem_nil) d_X_isField_24
  · have gc3 : v1.toInt ≤ v2.toInt := c_nlt c3
    refine lv_iload_n hx hb d_X_isField_11 rfl (lv_at hl 0 rfl) ?_
    refine lv_bipush (v := 8) hx hb d_X_isField_12 (by decide) ?_
    refine lv_irem hx hb d_X_isField_14 (by decide) ?_
    refine lv_topi (fun v6 hv6 => ?_)
    obtain ⟨ev6, lv6, Rv6⟩ : v6.toInt = a1.toInt % (8 : Int) ∧ v6.toInt < (8 : Int) ∧ (0 ≤ v6.toInt ∧ v6.toInt ≤ 7) := rm3 hv6 Q0 (show 8 ≤ (8 : Int32).toInt ∧ (8 : Int32).toInt ≤ 8 from by decide) (by decide) (by decide) (by decide)
    refine lv_iconst (v := 5) hx hb d_X_isField_15 (by decide) ?_
    refine lv_icmp_gt (tgt := 23) hx hb d_X_isField_16 (by decide) (fun c7 => ?_) (fun c7 => ?_)
    · have gc7 : (5 : Int) < v6.toInt := c_lt c7
      have R8 : 6 ≤ v6.toInt ∧ v6.toInt ≤ 7 := rf_gtX Rv6 (show 5 ≤ (5 : Int) ∧ (5 : Int) ≤ 5 from by decide) gc7 (by decide) (by decide)
      refine lv_iconst (v := 0) hx hb d_X_isField_23 (by decide) ?_
      exact W.zret (v := (0 : Int32)) hx hb hr (nar01 (by decide)) (fun t ht hW => ⟨(0 : Int32), rfl, ⟨(by decide), (show (0 : Int) = 1 → (a1.toInt / 8 ≤ a1.toInt % 8 ∧ a1.toInt % 8 ≤ 5) from by omega)⟩, ht⟩) (fun q h => absurd h List.not_mem_nil) d_X_isField_24
    · have gc7 : v6.toInt ≤ (5 : Int) := c_nlt c7
      have R9 : 0 ≤ v6.toInt ∧ v6.toInt ≤ 5 := rf_leX Rv6 (show 5 ≤ (5 : Int) ∧ (5 : Int) ≤ 5 from by decide) gc7 (by decide) (by decide)
      refine lv_iconst (v := 1) hx hb d_X_isField_19 (by decide) ?_
      refine lv_goto (tgt := 24) hx hb d_X_isField_20 (by decide) ?_
      exact W.zret (v := (1 : Int32)) hx hb hr (nar01 (by decide)) (fun t ht hW => ⟨(1 : Int32), rfl, ⟨(by decide), (show (1 : Int) = 1 → (a1.toInt / 8 ≤ a1.toInt % 8 ∧ a1.toInt % 8 ≤ 5) from by omega)⟩, ht⟩) (fun q h => absurd h List.not_mem_nil) d_X_isField_24
theorem s_X_isField {R : Room} {s : State} {args : Array Value} {own : String} {index : Nat} (hk : ∀ w ∈ tb, w.before args s = true) (hl : Cond.methodLink own index y_X_isField ∈ tb) (hR : 0 + 1 ≤ R.frames ∧ 8 + (1 + 11) + 0 ≤ R.locals) : CallB R s args own index y_X_isField b_X_isField 1 (some .boolean) (.code y_X_isField b_X_isField 1 (some .boolean) :: tb) ({ frames := 0, cells := 0, slots := 0, locals := 0 }) 0 0 1 ∧ (Cond.static y_X_isField).before args s = true := mk_s 1 hk k_1391 hl k_1390 k_119 rfl rfl h_X_isField hR
set_option maxHeartbeats 8000000 in
set_option maxRecDepth 100000 in
theorem c_X_takesWord (l : Launch)  (a1 : Int32) (Q0 : 0 ≤ a1.toInt ∧ a1.toInt ≤ 63) : Met l y_X_takesWord (.code y_X_takesWord b_X_takesWord 1 (some .boolean) :: tb) ({ frames := 0, cells := 0, slots := 0, locals := 0 }) (va_Pc [.int a1] (fun _ => True)) (vp_Si (fun ur => (0 ≤ ur.toInt ∧ ur.toInt ≤ 1) ∧ (ur.toInt = 1 → (((1 ≤ a1.toInt ∧ a1.toInt ≤ 4) ∨ (8 ≤ a1.toInt ∧ a1.toInt ≤ 33) ∨ 56 ≤ a1.toInt))) ∧ (ur.toInt = 0 → (¬ ((1 ≤ a1.toInt ∧ a1.toInt ≤ 4) ∨ (8 ≤ a1.toInt ∧ a1.toInt ≤ 33) ∨ 56 ≤ a1.toInt))))) 0 0 (fun _ => False) := by
  refine Met.ofW (cc := b_X_takesWord) (maxL := 1) (ret := (some .boolean)) (by decide) rfl ?_
  intro p e s m args below meth c s₁ B hml hv
  obtain ⟨rfl, -⟩ := hv
  have hx := B.exec
  have hb := B.bytes
  have hr := B.returns
  have hts := atoms_spec (ws := .code y_X_takesWord b_X_takesWord 1 (some .boolean) :: tb) B.pre
  have hk : ∀ w ∈ tb, w.before [.int a1].toArray s = true := fun w h => hts w (List.mem_cons_of_mem _ h)
  have hown : s.vm.findClass "SignMachineModel" = some m.cls := findClass_of_methodNamed B.named
  have hlocks := B.notSynchronized
  have hl := lv_entry ([.int a1]) (n := 1) (Nat.le_of_ble_eq_true rfl)
  rw [lg_entry_eq]
  generalize (lg_sl ([.int a1]) ++ List.replicate (1 - (lg_sl ([.int a1])).length) Slot.unset).toArray = ls at hl ⊢
  have hl : lv_has ls 1 [(0, .int a1)] := hl
  clear hts B
  refine lv_iload_n hx hb d_X_takesWord_0 rfl (lv_at hl 0 rfl) ?_
  refine lv_iconst (v := 1) hx hb d_X_takesWord_1 (by decide) ?_
  refine lv_icmp_lt (tgt := 10) hx hb d_X_takesWord_2 (by decide) (fun c1 => ?_) (fun c1 => ?_)
  · have gc1 : a1.toInt < (1 : Int) := c_lt c1
    have R2 : 0 ≤ a1.toInt ∧ a1.toInt ≤ 0 := rf_ltX Q0 (show 1 ≤ (1 : Int) ∧ (1 : Int) ≤ 1 from by decide) gc1 (by decide) (by decide)
    refine lv_iload_n hx hb d_X_takesWord_10 rfl (lv_at hl 0 rfl) ?_
    refine lv_bipush (v := 8) hx hb d_X_takesWord_11 (by decide) ?_
    refine lv_icmp_lt (tgt := 22) hx hb d_X_takesWord_13 (by decide) (fun c3 => ?_) (fun c3 => absurd (show a1 < (8 : Int32) from (Int32.lt_iff_toInt_lt.mpr (klt R2 (show 8 ≤ (8 : Int) ∧ (8 : Int) ≤ 8 from by decide) (by decide)))) c3)
    refine lv_iload_n hx hb d_X_takesWord_22 rfl (lv_at hl 0 rfl) ?_
    refine lv_bipush (v := 56) hx hb d_X_takesWord_23 (by decide) ?_
    refine lv_icmp_lt (tgt := 32) hx hb d_X_takesWord_25 (by decide) (fun c4 => ?_) (fun c4 => absurd (show a1 < (56 : Int32) from (Int32.lt_iff_toInt_lt.mpr (klt R2 (show 56 ≤ (56 : Int) ∧ (56 : Int) ≤ 56 from by decide) (by decide)))) c4)
    refine lv_iconst (v := 0) hx hb d_X_takesWord_32 (by decide) ?_
    exact W.zret (v := (0 : Int32)) hx hb hr (nar01 (by decide)) (fun t ht hW => ⟨(0 : Int32), rfl, ⟨(by decide), (show (0 : Int) = 1 → (((1 ≤ a1.toInt ∧ a1.toInt ≤ 4) ∨ (8 ≤ a1.toInt ∧ a1.toInt ≤ 33) ∨ 56 ≤ a1.toInt)) from by omega), (show (0 : Int) = 0 → (¬ ((1 ≤ a1.toInt ∧ a1.toInt ≤ 4) ∨ (8 ≤ a1.toInt ∧ a1.toInt ≤ 33) ∨ 56 ≤ a1.toInt)) from by omega)⟩, ht⟩) (fun q h => absurd h List.not_mem_nil) d_X_takesWord_33
  · have gc1 : (1 : Int) ≤ a1.toInt := c_nlt c1
    have R5 : 1 ≤ a1.toInt ∧ a1.toInt ≤ 63 := rf_geX Q0 (show 1 ≤ (1 : Int) ∧ (1 : Int) ≤ 1 from by decide) gc1 (by decide) (by decide)
    refine lv_iload_n hx hb d_X_takesWord_5 rfl (lv_at hl 0 rfl) ?_
    refine lv_iconst (v := 4) hx hb d_X_takesWord_6 (by decide) ?_
    refine lv_icmp_le (tgt := 28) hx hb d_X_takesWord_7 (by decide) (fun c6 => ?_) (fun c6 => ?_)
    · have gc6 : a1.toInt ≤ (4 : Int) := c_le c6
      have R7 : 1 ≤ a1.toInt ∧ a1.toInt ≤ 4 := rf_leX R5 (show 4 ≤ (4 : Int) ∧ (4 : Int) ≤ 4 from by decide) gc6 (by decide) (by decide)
      refine lv_iconst (v := 1) hx hb d_X_takesWord_28 (by decide) ?_
      refine lv_goto (tgt := 33) hx hb d_X_takesWord_29 (by decide) ?_
      exact W.zret (v := (1 : Int32)) hx hb hr (nar01 (by decide)) (fun t ht hW => ⟨(1 : Int32), rfl, ⟨(by decide), (show (1 : Int) = 1 → (((1 ≤ a1.toInt ∧ a1.toInt ≤ 4) ∨ (8 ≤ a1.toInt ∧ a1.toInt ≤ 33) ∨ 56 ≤ a1.toInt)) from by omega), (show (1 : Int) = 0 → (¬ ((1 ≤ a1.toInt ∧ a1.toInt ≤ 4) ∨ (8 ≤ a1.toInt ∧ a1.toInt ≤ 33) ∨ 56 ≤ a1.toInt)) from by omega)⟩, ht⟩) (fun q h => absurd h List.not_mem_nil) d_X_takesWord_33
    · have gc6 : (4 : Int) < a1.toInt := c_nle c6
      have R8 : 5 ≤ a1.toInt ∧ a1.toInt ≤ 63 := rf_gtX R5 (show 4 ≤ (4 : Int) ∧ (4 : Int) ≤ 4 from by decide) gc6 (by decide) (by decide)
      refine lv_iload_n hx hb d_X_takesWord_10 rfl (lv_at hl 0 rfl) ?_
      refine lv_bipush (v := 8) hx hb d_X_takesWord_11 (by decide) ?_
      refine lv_icmp_lt (tgt := 22) hx hb d_X_takesWord_13 (by decide) (fun c9 => ?_) (fun c9 => ?_)
      · have gc9 : a1.toInt < (8 : Int) := c_lt c9
        have R10 : 5 ≤ a1.toInt ∧ a1.toInt ≤ 7 := rf_ltX R8 (show 8 ≤ (8 : Int) ∧ (8 : Int) ≤ 8 from by decide) gc9 (by decide) (by decide)
        refine lv_iload_n hx hb d_X_takesWord_22 rfl (lv_at hl 0 rfl) ?_
        refine lv_bipush (v := 56) hx hb d_X_takesWord_23 (by decide) ?_
        refine lv_icmp_lt (tgt := 32) hx hb d_X_takesWord_25 (by decide) (fun c11 => ?_) (fun c11 => absurd (show a1 < (56 : Int32) from (Int32.lt_iff_toInt_lt.mpr (klt R10 (show 56 ≤ (56 : Int) ∧ (56 : Int) ≤ 56 from by decide) (by decide)))) c11)
        refine lv_iconst (v := 0) hx hb d_X_takesWord_32 (by decide) ?_
        exact W.zret (v := (0 : Int32)) hx hb hr (nar01 (by decide)) (fun t ht hW => ⟨(0 : Int32), rfl, ⟨(by decide), (show (0 : Int) = 1 → (((1 ≤ a1.toInt ∧ a1.toInt ≤ 4) ∨ (8 ≤ a1.toInt ∧ a1.toInt ≤ 33) ∨ 56 ≤ a1.toInt)) from by omega), (show (0 : Int) = 0 → (¬ ((1 ≤ a1.toInt ∧ a1.toInt ≤ 4) ∨ (8 ≤ a1.toInt ∧ a1.toInt ≤ 33) ∨ 56 ≤ a1.toInt)) from by omega)⟩, ht⟩) (fun q h => absurd h List.not_mem_nil) d_X_takesWord_33
      · have gc9 : (8 : Int) ≤ a1.toInt := c_nlt c9
        have R12 : 8 ≤ a1.toInt ∧ a1.toInt ≤ 63 := rf_geX R8 (show 8 ≤ (8 : Int) ∧ (8 : Int) ≤ 8 from by decide) gc9 (by decide) (by decide)
        refine lv_iload_n hx hb d_X_takesWord_16 rfl (lv_at hl 0 rfl) ?_
        refine lv_bipush (v := 33) hx hb d_X_takesWord_17 (by decide) ?_
        refine lv_icmp_le (tgt := 28) hx hb d_X_takesWord_19 (by decide) (fun c13 => ?_) (fun c13 => ?_)
        · have gc13 : a1.toInt ≤ (33 : Int) := c_le c13
          have R14 : 8 ≤ a1.toInt ∧ a1.toInt ≤ 33 := rf_leX R12 (show 33 ≤ (33 : Int) ∧ (33 : Int) ≤ 33 from by decide) gc13 (by decide) (by decide)
          refine lv_iconst (v := 1) hx hb d_X_takesWord_28 (by decide) ?_
          refine lv_goto (tgt := 33) hx hb d_X_takesWord_29 (by decide) ?_
          exact W.zret (v := (1 : Int32)) hx hb hr (nar01 (by decide)) (fun t ht hW => ⟨(1 : Int32), rfl, ⟨(by decide), (show (1 : Int) = 1 → (((1 ≤ a1.toInt ∧ a1.toInt ≤ 4) ∨ (8 ≤ a1.toInt ∧ a1.toInt ≤ 33) ∨ 56 ≤ a1.toInt)) from by omega), (show (1 : Int) = 0 → (¬ ((1 ≤ a1.toInt ∧ a1.toInt ≤ 4) ∨ (8 ≤ a1.toInt ∧ a1.toInt ≤ 33) ∨ 56 ≤ a1.toInt)) from by omega)⟩, ht⟩) (fun q h => absurd h List.not_mem_nil) d_X_takesWord_33
        · have gc13 : (33 : Int) < a1.toInt := c_nle c13
          have R15 : 34 ≤ a1.toInt ∧ a1.toInt ≤ 63 := rf_gtX R12 (show 33 ≤ (33 : Int) ∧ (33 : Int) ≤ 33 from by decide) gc13 (by decide) (by decide)
          refine lv_iload_n hx hb d_X_takesWord_22 rfl (lv_at hl 0 rfl) ?_
          refine lv_bipush (v := 56) hx hb d_X_takesWord_23 (by decide) ?_
          refine lv_icmp_lt (tgt := 32) hx hb d_X_takesWord_25 (by decide) (fun c16 => ?_) (fun c16 => ?_)
          · have gc16 : a1.toInt < (56 : Int) := c_lt c16
            have R17 : 34 ≤ a1.toInt ∧ a1.toInt ≤ 55 := rf_ltX R15 (show 56 ≤ (56 : Int) ∧ (56 : Int) ≤ 56 from by decide) gc16 (by decide) (by decide)
            refine lv_iconst (v := 0) hx hb d_X_takesWord_32 (by decide) ?_
            exact W.zret (v := (0 : Int32)) hx hb hr (nar01 (by decide)) (fun t ht hW => ⟨(0 : Int32), rfl, ⟨(by decide), (show (0 : Int) = 1 → (((1 ≤ a1.toInt ∧ a1.toInt ≤ 4) ∨ (8 ≤ a1.toInt ∧ a1.toInt ≤ 33) ∨ 56 ≤ a1.toInt)) from by omega), (show (0 : Int) = 0 → (¬ ((1 ≤ a1.toInt ∧ a1.toInt ≤ 4) ∨ (8 ≤ a1.toInt ∧ a1.toInt ≤ 33) ∨ 56 ≤ a1.toInt)) from by omega)⟩, ht⟩) (fun q h => absurd h List.not_mem_nil) d_X_takesWord_33
          · have gc16 : (56 : Int) ≤ a1.toInt := c_nlt c16
            have R18 : 56 ≤ a1.toInt ∧ a1.toInt ≤ 63 := rf_geX R15 (show 56 ≤ (56 : Int) ∧ (56 : Int) ≤ 56 from by decide) gc16 (by decide) (by decide)
            refine lv_iconst (v := 1) hx hb d_X_takesWord_28 (by decide) ?_
            refine lv_goto (tgt := 33) hx hb d_X_takesWord_29 (by decide) ?_
            exact W.zret (v := (1 : Int32)) hx hb hr (nar01 (by decide)) (fun t ht hW => ⟨(1 : Int32), rfl, ⟨(by decide), (show (1 : Int) = 1 → (((1 ≤ a1.toInt ∧ a1.toInt ≤ 4) ∨ (8 ≤ a1.toInt ∧ a1.toInt ≤ 33) ∨ 56 ≤ a1.toInt)) from by omega), (show (1 : Int) = 0 → (¬ ((1 ≤ a1.toInt ∧ a1.toInt ≤ 4) ∨ (8 ≤ a1.toInt ∧ a1.toInt ≤ 33) ∨ 56 ≤ a1.toInt)) from by omega)⟩, ht⟩) (fun q h => absurd h List.not_mem_nil) d_X_takesWord_33
theorem s_X_takesWord {R : Room} {s : State} {args : Array Value} {own : String} {index : Nat} (hk : ∀ w ∈ tb, w.before args s = true) (hl : Cond.methodLink own index y_X_takesWord ∈ tb) (hR : 0 + 1 ≤ R.frames ∧ 8 + (1 + 11) + 0 ≤ R.locals) : CallB R s args own index y_X_takesWord b_X_takesWord 1 (some .boolean) (.code y_X_takesWord b_X_takesWord 1 (some .boolean) :: tb) ({ frames := 0, cells := 0, slots := 0, locals := 0 }) 0 0 1 ∧ (Cond.static y_X_takesWord).before args s = true := mk_s 1 hk k_1388 hl k_1387 k_119 rfl rfl h_X_takesWord hR
set_option maxHeartbeats 8000000 in
set_option maxRecDepth 100000 in
theorem c_X_take (l : Launch) (D : va_G) (cI cJ cZ cB : ClassId) (p0 p1 p2 p3 p4 p5 p6 p7 p8 p9 p10 p11 p12 p13 p14 p15 p16 p17 p18 p19 p20 p21 p22 p23 p24 p25 : Nat) (sz : Nat) (x0_4 : Int32) (x0_5 : Int32) (x0_6 : Int32) (x0_7 : Int32) (x0_8 : Int32) (x0_12 : Int32) (x0_13 : Int32) (x0_14 : Int32) (x0_15 : Int32) (x0_16 : Int32) (x0_17 : Int32) (x0_18 : Int32) (x0_22 : Int32) (x0_23 : Int32) (x0_24 : Int32) (x0_25 : Int32) (x0_26 : Int32) (x0_27 : Int32) (x0_28 : Int32) (x0_29 : Int32) (x0_30 : Int32) (x0_31 : Int32) (x0_32 : Int32) (x0_36 : Int32) (x0_39 : Int32) (x0_40 : Int64) (x0_44 : Int32) (x0_49 : Int32) (x0_51 : Int32) (x0_53 : Int32) (x0_54 : Int32) (x0_55 : Int64) (x0_56 : Int32) (x0_57 : Int32) (x0_58 : Int32) (x0_59 : Int32) (x0_60 : Int32) (x0_61 : Int32) (x0_62 : Int64) (y1 : Nat → Int32) (y2 : Nat → Int32) (y3 : Nat → Int32) (y4 : Nat → Int32) (y5 : Nat → Int32) (y6 : Nat → Int32) (y7 : Nat → Int32) (y8 : Nat → Int32) (y9 : Nat → Int32) (y10 : Nat → Int32) (y11 : Nat → Int64) (y12 : Nat → Int32) (y13 : Nat → Int64) (y14 : Nat → Int32) (y15 : Nat → Int64) (y16 : Nat → Int32) (y17 : Nat → Int32) (y18 : Nat → Int32) (y19 : Nat → Int32) (y20 : Nat → Int32) (y21 : Nat → Int32) (y22 : Nat → Int32) (y23 : Nat → Int32) (y24 : Nat → Int64) (y25 : Nat → Int64)  (Rx0_4 : 0 ≤ x0_4.toInt ∧ x0_4.toInt ≤ 4000) (Rx0_12 : 0 ≤ x0_12.toInt ∧ x0_12.toInt ≤ 63) (Rx0_13 : 0 ≤ x0_13.toInt ∧ x0_13.toInt ≤ 63) (Rx0_14 : 0 ≤ x0_14.toInt ∧ x0_14.toInt ≤ 63) (Rx0_15 : (-8190) ≤ x0_15.toInt ∧ x0_15.toInt ≤ 8190) (Rx0_16 : 0 ≤ x0_16.toInt ∧ x0_16.toInt ≤ 1) (Ay1 : ∀ i : Nat, (0 ≤ (y1 i).toInt ∧ (y1 i).toInt ≤ 1)) (Ay2 : ∀ i : Nat, (0 ≤ (y2 i).toInt ∧ (y2 i).toInt ≤ 1073741823)) (Ay3 : ∀ i : Nat, (0 ≤ (y3 i).toInt ∧ (y3 i).toInt ≤ 1)) (Ay4 : ∀ i : Nat, ((0 ≤ (y4 i).toInt ∧ (y4 i).toInt ≤ 1073741823) ∧ ((1 ≤ (i : Int) ∧ (i : Int) ≤ 6) → (y4 i).toInt ≤ 4095))) (Q0 : x0_4.toInt ≤ 3999) : Met l y_X_take (.code y_X_take b_X_take 3 none :: tb) ({ frames := 1, cells := 0, slots := 0, locals := 25 }) (pM D cI cJ cZ cB (wS50 cI cJ cZ cB p0 p1 p2 p3 p4 p5 p6 p7 p8 p9 p10 p11 p12 p13 p14 p15 p16 p17 p18 p19 p20 p21 p22 p23 p24 p25 x0_4 x0_5 x0_6 x0_7 x0_8 x0_12 x0_13 x0_14 x0_15 x0_16 x0_17 x0_18 x0_22 x0_23 x0_24 x0_25 x0_26 x0_27 x0_28 x0_29 x0_30 x0_31 x0_32 x0_36 x0_39 x0_40 x0_44 x0_49 x0_51 x0_53 x0_54 x0_55 x0_56 x0_57 x0_58 x0_59 x0_60 x0_61 x0_62 y1 y2 y3 y4 y5 y6 y7 y8 y9 y10 y11 y12 y13 y14 y15 y16 y17 y18 y19 y20 y21 y22 y23 y24 y25) sz [.ref p0]) (va_Qv (fun (_ : Unit) => True) (fun _ t => ∃ u_x0_12 : Int32, ∃ u_x0_13 : Int32, ∃ u_x0_14 : Int32, ∃ u_x0_15 : Int32, ∃ u_x0_16 : Int32, (0 ≤ u_x0_12.toInt ∧ u_x0_12.toInt ≤ 63) ∧ (0 ≤ u_x0_13.toInt ∧ u_x0_13.toInt ≤ 63) ∧ (0 ≤ u_x0_14.toInt ∧ u_x0_14.toInt ≤ 63) ∧ ((-8190) ≤ u_x0_15.toInt ∧ u_x0_15.toInt ≤ 8190) ∧ (0 ≤ u_x0_16.toInt ∧ u_x0_16.toInt ≤ 1) ∧ ((u_x0_15.toInt < 0 → u_x0_16.toInt = 1) ∧ (0 < u_x0_15.toInt → u_x0_16.toInt = 0)) ∧ va_P D classes (wS50 cI cJ cZ cB p0 p1 p2 p3 p4 p5 p6 p7 p8 p9 p10 p11 p12 p13 p14 p15 p16 p17 p18 p19 p20 p21 p22 p23 p24 p25 x0_4 x0_5 x0_6 x0_7 x0_8 u_x0_12 u_x0_13 u_x0_14 u_x0_15 u_x0_16 x0_17 x0_18 x0_22 x0_23 x0_24 x0_25 x0_26 x0_27 x0_28 x0_29 x0_30 x0_31 x0_32 x0_36 x0_39 x0_40 x0_44 x0_49 x0_51 x0_53 x0_54 x0_55 x0_56 x0_57 x0_58 x0_59 x0_60 x0_61 x0_62 y1 y2 y3 y4 y5 y6 y7 y8 y9 y10 y11 y12 y13 y14 y15 y16 y17 y18 y19 y20 y21 y22 y23 y24 y25) t.heap ∧ va_D (va_A (wS50 cI cJ cZ cB p0 p1 p2 p3 p4 p5 p6 p7 p8 p9 p10 p11 p12 p13 p14 p15 p16 p17 p18 p19 p20 p21 p22 p23 p24 p25 x0_4 x0_5 x0_6 x0_7 x0_8 x0_12 x0_13 x0_14 x0_15 x0_16 x0_17 x0_18 x0_22 x0_23 x0_24 x0_25 x0_26 x0_27 x0_28 x0_29 x0_30 x0_31 x0_32 x0_36 x0_39 x0_40 x0_44 x0_49 x0_51 x0_53 x0_54 x0_55 x0_56 x0_57 x0_58 x0_59 x0_60 x0_61 x0_62 y1 y2 y3 y4 y5 y6 y7 y8 y9 y10 y11 y12 y13 y14 y15 y16 y17 y18 y19 y20 y21 y22 y23 y24 y25) sz) (wS50 cI cJ cZ cB p0 p1 p2 p3 p4 p5 p6 p7 p8 p9 p10 p11 p12 p13 p14 p15 p16 p17 p18 p19 p20 p21 p22 p23 p24 p25 x0_4 x0_5 x0_6 x0_7 x0_8 u_x0_12 u_x0_13 u_x0_14 u_x0_15 u_x0_16 x0_17 x0_18 x0_22 x0_23 x0_24 x0_25 x0_26 x0_27 x0_28 x0_29 x0_30 x0_31 x0_32 x0_36 x0_39 x0_40 x0_44 x0_49 x0_51 x0_53 x0_54 x0_55 x0_56 x0_57 x0_58 x0_59 x0_60 x0_61 x0_62 y1 y2 y3 y4 y5 y6 y7 y8 y9 y10 y11 y12 y13 y14 y15 y16 y17 y18 y19 y20 y21 y22 y23 y24 y25)) (va_A (wS50 cI cJ cZ cB p0 p1 p2 p3 p4 p5 p6 p7 p8 p9 p10 p11 p12 p13 p14 p15 p16 p17 p18 p19 p20 p21 p22 p23 p24 p25 x0_4 x0_5 x0_6 x0_7 x0_8 x0_12 x0_13 x0_14 x0_15 x0_16 x0_17 x0_18 x0_22 x0_23 x0_24 x0_25 x0_26 x0_27 x0_28 x0_29 x0_30 x0_31 x0_32 x0_36 x0_39 x0_40 x0_44 x0_49 x0_51 x0_53 x0_54 x0_55 x0_56 x0_57 x0_58 x0_59 x0_60 x0_61 x0_62 y1 y2 y3 y4 y5 y6 y7 y8 y9 y10 y11 y12 y13 y14 y15 y16 y17 y18 y19 y20 y21 y22 y23 y24 y25) sz)) 0 0 (va_A (wS50 cI cJ cZ cB p0 p1 p2 p3 p4 p5 p6 p7 p8 p9 p10 p11 p12 p13 p14 p15 p16 p17 p18 p19 p20 p21 p22 p23 p24 p25 x0_4 x0_5 x0_6 x0_7 x0_8 x0_12 x0_13 x0_14 x0_15 x0_16 x0_17 x0_18 x0_22 x0_23 x0_24 x0_25 x0_26 x0_27 x0_28 x0_29 x0_30 x0_31 x0_32 x0_36 x0_39 x0_40 x0_44 x0_49 x0_51 x0_53 x0_54 x0_55 x0_56 x0_57 x0_58 x0_59 x0_60 x0_61 x0_62 y1 y2 y3 y4 y5 y6 y7 y8 y9 y10 y11 y12 y13 y14 y15 y16 y17 y18 y19 y20 y21 y22 y23 y24 y25) sz) := by
  refine Met.ofW (cc := b_X_take) (maxL := 3) (ret := none) (by decide) rfl ?_
  intro p e s m args below meth c s₁ B hml hv
  obtain ⟨rfl, hsz, hK, hP, hD0⟩ := hv
  subst hsz
  have hD := hD0.self (sz := s.heap.size)
  generalize hAe : va_A (wS50 cI cJ cZ cB p0 p1 p2 p3 p4 p5 p6 p7 p8 p9 p10 p11 p12 p13 p14 p15 p16 p17 p18 p19 p20 p21 p22 p23 p24 p25 x0_4 x0_5 x0_6 x0_7 x0_8 x0_12 x0_13 x0_14 x0_15 x0_16 x0_17 x0_18 x0_22 x0_23 x0_24 x0_25 x0_26 x0_27 x0_28 x0_29 x0_30 x0_31 x0_32 x0_36 x0_39 x0_40 x0_44 x0_49 x0_51 x0_53 x0_54 x0_55 x0_56 x0_57 x0_58 x0_59 x0_60 x0_61 x0_62 y1 y2 y3 y4 y5 y6 y7 y8 y9 y10 y11 y12 y13 y14 y15 y16 y17 y18 y19 y20 y21 y22 y23 y24 y25) s.heap.size = A at hD ⊢
  have hA : ∀ q : Nat, s.heap.size ≤ q → A q := fun q h => by rw [← hAe]; exact Or.inr h
  clear hAe hD0
  have hS : va_S A s.heap s.heap [] := va_S.rf
  have hx := B.exec
  have hb := B.bytes
  have hr := B.returns
  have hts := atoms_spec (ws := .code y_X_take b_X_take 3 none :: tb) B.pre
  have hk : ∀ w ∈ tb, w.before [.ref p0].toArray s = true := fun w h => hts w (List.mem_cons_of_mem _ h)
  have hown : s.vm.findClass "SignMachineModel" = some m.cls := findClass_of_methodNamed B.named
  have hlocks := B.notSynchronized
  have hl := lv_entry ([.ref p0]) (n := 3) (Nat.le_of_ble_eq_true rfl)
  rw [lg_entry_eq]
  generalize (lg_sl ([.ref p0]) ++ List.replicate (3 - (lg_sl ([.ref p0])).length) Slot.unset).toArray = ls at hl ⊢
  have hl : lv_has ls 3 [(0, .ref p0)] := hl
  clear hts B
  refine lv_aload_n hx hb d_X_take_0 rfl (lv_at hl 0 rfl) ?_
  refine va_get (D := D) (ci := 7) (v := .ref p2) (C := "SignMachineModel") (T := F_X) (N := 64) hx hb hk fi_X hown hK.1 hP 0 rfl rfl 1 (by decide) (hk _ k_1122) (fun _ h9 => h9) rfl d_X_take_1 ?_
  refine lv_aload_n hx hb d_X_take_4 rfl (lv_at hl 0 rfl) ?_
  refine va_get (D := D) (ci := 7) (v := .int x0_4) (C := "SignMachineModel") (T := F_X) (N := 64) hx hb hk fi_X hown hK.1 hP 0 rfl rfl 4 (by decide) (hk _ k_1125) (fun _ h9 => h9) rfl d_X_take_5 ?_
  refine va_iald hx hb hK.1 hP 2 0 rfl rfl (by rw [vp_in_iff]; omega) d_X_take_8 ?_
  refine lv_topi (fun v1 hv1 => ?_)
  have Rv1 := Ay2 (x0_4).toNatClampNeg
  rw [← hv1] at Rv1
  refine lv_istore_n (lv' := [(1, .int v1), (0, .ref p0)]) hx hb d_X_take_9 rfl hl (by decide) rfl (fun ls hl => ?_)
  refine lv_aload_n hx hb d_X_take_10 rfl (lv_at hl 1 rfl) ?_
  refine lv_iload_n hx hb d_X_take_11 rfl (lv_at hl 0 rfl) ?_
  refine lv_bipush (v := 64) hx hb d_X_take_12 (by decide) ?_
  refine lv_irem hx hb d_X_take_14 (by decide) ?_
  refine lv_topi (fun v2 hv2 => ?_)
  obtain ⟨ev2, lv2, Rv2⟩ : v2.toInt = v1.toInt % (64 : Int) ∧ v2.toInt < (64 : Int) ∧ (0 ≤ v2.toInt ∧ v2.toInt ≤ 63) := rm3 hv2 Rv1 (show 64 ≤ (64 : Int32).toInt ∧ (64 : Int32).toInt ≤ 64 from by decide) (by decide) (by decide) (by decide)
  refine va_put (D := D) (ci := 7) (v := .int v2) (ty := .int) (C := "SignMachineModel") (T := F_X) (N := 64) hx hb hk fi_X ft_X ft_X_ok fn_X hown hK.1 hP hD hS 0 rfl rfl 12 (by decide) (hk _ k_1133) (fun _ h9 => h9) rfl (by decide +kernel) rfl rfl (Nat.le_of_ble_eq_true rfl) d_X_take_15 (fun H locs hP hD hS => ?_)
  have hP : va_P D classes (wS50 cI cJ cZ cB p0 p1 p2 p3 p4 p5 p6 p7 p8 p9 p10 p11 p12 p13 p14 p15 p16 p17 p18 p19 p20 p21 p22 p23 p24 p25 x0_4 x0_5 x0_6 x0_7 x0_8 v2 x0_13 x0_14 x0_15 x0_16 x0_17 x0_18 x0_22 x0_23 x0_24 x0_25 x0_26 x0_27 x0_28 x0_29 x0_30 x0_31 x0_32 x0_36 x0_39 x0_40 x0_44 x0_49 x0_51 x0_53 x0_54 x0_55 x0_56 x0_57 x0_58 x0_59 x0_60 x0_61 x0_62 y1 y2 y3 y4 y5 y6 y7 y8 y9 y10 y11 y12 y13 y14 y15 y16 y17 y18 y19 y20 y21 y22 y23 y24 y25) H := hP
  have hD : va_D A (wS50 cI cJ cZ cB p0 p1 p2 p3 p4 p5 p6 p7 p8 p9 p10 p11 p12 p13 p14 p15 p16 p17 p18 p19 p20 p21 p22 p23 p24 p25 x0_4 x0_5 x0_6 x0_7 x0_8 v2 x0_13 x0_14 x0_15 x0_16 x0_17 x0_18 x0_22 x0_23 x0_24 x0_25 x0_26 x0_27 x0_28 x0_29 x0_30 x0_31 x0_32 x0_36 x0_39 x0_40 x0_44 x0_49 x0_51 x0_53 x0_54 x0_55 x0_56 x0_57 x0_58 x0_59 x0_60 x0_61 x0_62 y1 y2 y3 y4 y5 y6 y7 y8 y9 y10 y11 y12 y13 y14 y15 y16 y17 y18 y19 y20 y21 y22 y23 y24 y25) := hD
  refine lv_aload_n hx hb d_X_take_18 rfl (lv_at hl 1 rfl) ?_
  refine lv_iload_n hx hb d_X_take_19 rfl (lv_at hl 0 rfl) ?_
  refine lv_bipush (v := 64) hx hb d_X_take_20 (by decide) ?_
  refine lv_idiv hx hb d_X_take_22 (by decide) ?_
  refine lv_topi (fun v3 hv3 => ?_)
  obtain ⟨ev3, Rv3⟩ : v3.toInt = v1.toInt / (64 : Int) ∧ (0 ≤ v3.toInt ∧ v3.toInt ≤ 16777215) := dv3 hv3 Rv1 (show 64 ≤ (64 : Int32).toInt ∧ (64 : Int32).toInt ≤ 64 from by decide) (by decide) (by decide) (by decide)
  refine lv_bipush (v := 64) hx hb d_X_take_23 (by decide) ?_
  refine lv_irem hx hb d_X_take_25 (by decide) ?_
  refine lv_topi (fun v4 hv4 => ?_)
  obtain ⟨ev4, lv4, Rv4⟩ : v4.toInt = v3.toInt % (64 : Int) ∧ v4.toInt < (64 : Int) ∧ (0 ≤ v4.toInt ∧ v4.toInt ≤ 63) := rm3 hv4 Rv3 (show 64 ≤ (64 : Int32).toInt ∧ (64 : Int32).toInt ≤ 64 from by decide) (by decide) (by decide) (by decide)
  refine va_put (D := D) (ci := 7) (v := .int v4) (ty := .int) (C := "SignMachineModel") (T := F_X) (N := 64) hx hb hk fi_X ft_X ft_X_ok fn_X hown hK.1 hP hD hS 0 rfl rfl 13 (by decide) (hk _ k_1134) (fun _ h9 => h9) rfl (by decide +kernel) rfl rfl (Nat.le_of_ble_eq_true rfl) d_X_take_26 (fun H locs hP hD hS => ?_)
  have hP : va_P D classes (wS50 cI cJ cZ cB p0 p1 p2 p3 p4 p5 p6 p7 p8 p9 p10 p11 p12 p13 p14 p15 p16 p17 p18 p19 p20 p21 p22 p23 p24 p25 x0_4 x0_5 x0_6 x0_7 x0_8 v2 v4 x0_14 x0_15 x0_16 x0_17 x0_18 x0_22 x0_23 x0_24 x0_25 x0_26 x0_27 x0_28 x0_29 x0_30 x0_31 x0_32 x0_36 x0_39 x0_40 x0_44 x0_49 x0_51 x0_53 x0_54 x0_55 x0_56 x0_57 x0_58 x0_59 x0_60 x0_61 x0_62 y1 y2 y3 y4 y5 y6 y7 y8 y9 y10 y11 y12 y13 y14 y15 y16 y17 y18 y19 y20 y21 y22 y23 y24 y25) H := hP
  have hD : va_D A (wS50 cI cJ cZ cB p0 p1 p2 p3 p4 p5 p6 p7 p8 p9 p10 p11 p12 p13 p14 p15 p16 p17 p18 p19 p20 p21 p22 p23 p24 p25 x0_4 x0_5 x0_6 x0_7 x0_8 v2 v4 x0_14 x0_15 x0_16 x0_17 x0_18 x0_22 x0_23 x0_24 x0_25 x0_26 x0_27 x0_28 x0_29 x0_30 x0_31 x0_32 x0_36 x0_39 x0_40 x0_44 x0_49 x0_51 x0_53 x0_54 x0_55 x0_56 x0_57 x0_58 x0_59 x0_60 x0_61 x0_62 y1 y2 y3 y4 y5 y6 y7 y8 y9 y10 y11 y12 y13 y14 y15 y16 y17 y18 y19 y20 y21 y22 y23 y24 y25) := hD
  refine lv_aload_n hx hb d_X_take_29 rfl (lv_at hl 1 rfl) ?_
  refine lv_iload_n hx hb d_X_take_30 rfl (lv_at hl 0 rfl) ?_
  refine lv_sipush (v := 4096) hx hb d_X_take_31 (by decide) ?_
  refine lv_idiv hx hb d_X_take_34 (by decide) ?_
  refine lv_topi (fun v5 hv5 => ?_)
  obtain ⟨ev5, Rv5⟩ : v5.toInt = v1.toInt / (4096 : Int) ∧ (0 ≤ v5.toInt ∧ v5.toInt ≤ 262143) := dv3 hv5 Rv1 (show 4096 ≤ (4096 : Int32).toInt ∧ (4096 : Int32).toInt ≤ 4096 from by decide) (by decide) (by decide) (by decide)
  refine lv_bipush (v := 64) hx hb d_X_take_35 (by decide) ?_
  refine lv_irem hx hb d_X_take_37 (by decide) ?_
  refine lv_topi (fun v6 hv6 => ?_)
  obtain ⟨ev6, lv6, Rv6⟩ : v6.toInt = v5.toInt % (64 : Int) ∧ v6.toInt < (64 : Int) ∧ (0 ≤ v6.toInt ∧ v6.toInt ≤ 63) := rm3 hv6 Rv5 (show 64 ≤ (64 : Int32).toInt ∧ (64 : Int32).toInt ≤ 64 from by decide) (by decide) (by decide) (by decide)
  refine va_put (D := D) (ci := 7) (v := .int v6) (ty := .int) (C := "SignMachineModel") (T := F_X) (N := 64) hx hb hk fi_X ft_X ft_X_ok fn_X hown hK.1 hP hD hS 0 rfl rfl 14 (by decide) (hk _ k_1135) (fun _ h9 => h9) rfl (by decide +kernel) rfl rfl (Nat.le_of_ble_eq_true rfl) d_X_take_38 (fun H locs hP hD hS => ?_)
  have hP : va_P D classes (wS50 cI cJ cZ cB p0 p1 p2 p3 p4 p5 p6 p7 p8 p9 p10 p11 p12 p13 p14 p15 p16 p17 p18 p19 p20 p21 p22 p23 p24 p25 x0_4 x0_5 x0_6 x0_7 x0_8 v2 v4 v6 x0_15 x0_16 x0_17 x0_18 x0_22 x0_23 x0_24 x0_25 x0_26 x0_27 x0_28 x0_29 x0_30 x0_31 x0_32 x0_36 x0_39 x0_40 x0_44 x0_49 x0_51 x0_53 x0_54 x0_55 x0_56 x0_57 x0_58 x0_59 x0_60 x0_61 x0_62 y1 y2 y3 y4 y5 y6 y7 y8 y9 y10 y11 y12 y13 y14 y15 y16 y17 y18 y19 y20 y21 y22 y23 y24 y25) H := hP
  have hD : va_D A (wS50 cI cJ cZ cB p0 p1 p2 p3 p4 p5 p6 p7 p8 p9 p10 p11 p12 p13 p14 p15 p16 p17 p18 p19 p20 p21 p22 p23 p24 p25 x0_4 x0_5 x0_6 x0_7 x0_8 v2 v4 v6 x0_15 x0_16 x0_17 x0_18 x0_22 x0_23 x0_24 x0_25 x0_26 x0_27 x0_28 x0_29 x0_30 x0_31 x0_32 x0_36 x0_39 x0_40 x0_44 x0_49 x0_51 x0_53 x0_54 x0_55 x0_56 x0_57 x0_58 x0_59 x0_60 x0_61 x0_62 y1 y2 y3 y4 y5 y6 y7 y8 y9 y10 y11 y12 y13 y14 y15 y16 y17 y18 y19 y20 y21 y22 y23 y24 y25) := hD
  refine lv_iload_n hx hb d_X_take_41 rfl (lv_at hl 0 rfl) ?_
  refine lv_ldc (v := 262144) hx hb hown (hk _ k_1380) d_X_take_42 ?_
  refine lv_idiv hx hb d_X_take_44 (by decide) ?_
  refine lv_topi (fun v7 hv7 => ?_)
  obtain ⟨ev7, Rv7⟩ : v7.toInt = v1.toInt / (262144 : Int) ∧ (0 ≤ v7.toInt ∧ v7.toInt ≤ 4095) := dv3 hv7 Rv1 (show 262144 ≤ (262144 : Int32).toInt ∧ (262144 : Int32).toInt ≤ 262144 from by decide) (by decide) (by decide) (by decide)
  refine lv_istore_n (lv' := [(2, .int v7), (1, .int v1), (0, .ref p0)]) hx hb d_X_take_45 rfl hl (by decide) rfl (fun ls hl => ?_)
  refine lv_aload_n hx hb d_X_take_46 rfl (lv_at hl 2 rfl) ?_
  refine lv_aload_n hx hb d_X_take_47 rfl (lv_at hl 2 rfl) ?_
  refine va_get (D := D) (ci := 7) (v := .ref p1) (C := "SignMachineModel") (T := F_X) (N := 64) hx hb hk fi_X hown hK.1 hP 0 rfl rfl 0 (by decide) (hk _ k_1121) (fun _ h9 => h9) rfl d_X_take_48 ?_
  refine lv_aload_n hx hb d_X_take_51 rfl (lv_at hl 2 rfl) ?_
  refine va_get (D := D) (ci := 7) (v := .int x0_4) (C := "SignMachineModel") (T := F_X) (N := 64) hx hb hk fi_X hown hK.1 hP 0 rfl rfl 4 (by decide) (hk _ k_1125) (fun _ h9 => h9) rfl d_X_take_52 ?_
  refine va_iald hx hb hK.1 hP 1 0 rfl rfl (by rw [vp_in_iff]; omega) d_X_take_55 ?_
  refine lv_topi (fun v8 hv8 => ?_)
  have Rv8 := Ay1 (x0_4).toNatClampNeg
  rw [← hv8] at Rv8
  refine lv_iconst (v := 1) hx hb d_X_take_56 (by decide) ?_
  refine lv_icmp_ne (tgt := 65) hx hb d_X_take_57 (by decide) (fun c9 => ?_) (fun c9 => ?_)
  · have gc9 : v8.toInt ≠ (1 : Int) := c_ne c9
    have R10 : 0 ≤ v8.toInt ∧ v8.toInt ≤ 0 := rf_neX Rv8 (show 1 ≤ (1 : Int) ∧ (1 : Int) ≤ 1 from by decide) gc9 (by decide) (by decide)
    refine lv_iload_n hx hb d_X_take_65 rfl (lv_at hl 0 rfl) ?_
    refine va_put (D := D) (ci := 7) (v := .int v7) (ty := .int) (C := "SignMachineModel") (T := F_X) (N := 64) hx hb hk fi_X ft_X ft_X_ok fn_X hown hK.1 hP hD hS 0 rfl rfl 15 (by decide) (hk _ k_1136) (fun _ h9 => h9) rfl (by decide +kernel) rfl rfl (Nat.le_of_ble_eq_true rfl) d_X_take_66 (fun H locs hP hD hS => ?_)
    have hP : va_P D classes (wS50 cI cJ cZ cB p0 p1 p2 p3 p4 p5 p6 p7 p8 p9 p10 p11 p12 p13 p14 p15 p16 p17 p18 p19 p20 p21 p22 p23 p24 p25 x0_4 x0_5 x0_6 x0_7 x0_8 v2 v4 v6 v7 x0_16 x0_17 x0_18 x0_22 x0_23 x0_24 x0_25 x0_26 x0_27 x0_28 x0_29 x0_30 x0_31 x0_32 x0_36 x0_39 x0_40 x0_44 x0_49 x0_51 x0_53 x0_54 x0_55 x0_56 x0_57 x0_58 x0_59 x0_60 x0_61 x0_62 y1 y2 y3 y4 y5 y6 y7 y8 y9 y10 y11 y12 y13 y14 y15 y16 y17 y18 y19 y20 y21 y22 y23 y24 y25) H := hP
    have hD : va_D A (wS50 cI cJ cZ cB p0 p1 p2 p3 p4 p5 p6 p7 p8 p9 p10 p11 p12 p13 p14 p15 p16 p17 p18 p19 p20 p21 p22 p23 p24 p25 x0_4 x0_5 x0_6 x0_7 x0_8 v2 v4 v6 v7 x0_16 x0_17 x0_18 x0_22 x0_23 x0_24 x0_25 x0_26 x0_27 x0_28 x0_29 x0_30 x0_31 x0_32 x0_36 x0_39 x0_40 x0_44 x0_49 x0_51 x0_53 x0_54 x0_55 x0_56 x0_57 x0_58 x0_59 x0_60 x0_61 x0_62 y1 y2 y3 y4 y5 y6 y7 y8 y9 y10 y11 y12 y13 y14 y15 y16 y17 y18 y19 y20 y21 y22 y23 y24 y25) := hD
    refine lv_aload_n hx hb d_X_take_69 rfl (lv_at hl 2 rfl) ?_
    refine va_get (D := D) (ci := 7) (v := .int v6) (C := "SignMachineModel") (T := F_X) (N := 64) hx hb hk fi_X hown hK.1 hP 0 rfl rfl 14 (by decide) (hk _ k_1135) (fun _ h9 => h9) rfl d_X_take_70 ?_
    refine lv_i2l (v := (v6 : Int32).toInt64) hx hb d_X_take_73 rfl ?_
    refine lv_topl (fun v11 hv11 => ?_)
    obtain ⟨ev11, Rv11⟩ : v11.toInt = v6.toInt ∧ (0 ≤ v11.toInt ∧ v11.toInt ≤ 63) := il3 hv11 Rv6
    refine lv_lconst (v := 1) hx hb d_X_take_74 (by decide) ?_
    refine lv_ldc2 (v := 6) hx hb hown (hk _ k_1381) d_X_take_75 ?_
    refine vp_callSi (W.runS (As := [.long v11, .long (1 : Int64), .long (6 : Int64)]) (rest := []) ⟨hx, hb, hml, hown, hk⟩ (c_X_isIn l v11 (1 : Int64) (6 : Int64) ) (s_X_isIn hk k_1319 ⟨Nat.le_of_ble_eq_true rfl, Nat.le_of_ble_eq_true rfl⟩) ⟨fun a U g mk q => q, fun U hU hW => ⟨rfl, trivial⟩⟩ rfl rfl hl.1 rfl (lv_room (Nat.le_of_ble_eq_true rfl)) d_X_take_78 ⟨Nat.le_of_ble_eq_true rfl, Nat.le_of_ble_eq_true rfl⟩) (fun rz12 hrz12 => ?_)
    obtain ⟨F0z12, F1z12, F2z12⟩ := hrz12
    have F0z12 : 0 ≤ rz12.toInt ∧ rz12.toInt ≤ 1 := F0z12
    have F1z12 : rz12.toInt = 1 → ((1 : Int) ≤ v11.toInt ∧ v11.toInt ≤ (6 : Int)) := F1z12
    have F2z12 : rz12.toInt = 0 → (v11.toInt < (1 : Int) ∨ (6 : Int) < v11.toInt) := F2z12
    refine lv_if_eq (tgt := 128) hx hb d_X_take_81 (by decide) (fun c13 => ?_) (fun c13 => ?_)
    · have gc13 : rz12.toInt = (0 : Int) := c_eq c13
      have R14 : 0 ≤ rz12.toInt ∧ rz12.toInt ≤ 0 := rf_eqX F0z12 (show 0 ≤ (0 : Int) ∧ (0 : Int) ≤ 0 from by decide) gc13 (by decide) (by decide)
      refine lv_aload_n hx hb d_X_take_128 rfl (lv_at hl 2 rfl) ?_
      refine lv_aload_n hx hb d_X_take_129 rfl (lv_at hl 2 rfl) ?_
      refine va_get (D := D) (ci := 7) (v := .int v7) (C := "SignMachineModel") (T := F_X) (N := 64) hx hb hk fi_X hown hK.1 hP 0 rfl rfl 15 (by decide) (hk _ k_1136) (fun _ h9 => h9) rfl d_X_take_130 ?_
      refine lv_if_ge (tgt := 140) hx hb d_X_take_133 (by decide) (fun c15 => ?_) (fun c15 => absurd (show (0 : Int32) ≤ v7 from (Int32.le_iff_toInt_le.mpr (kle (show 0 ≤ (0 : Int) ∧ (0 : Int) ≤ 0 from by decide) Rv7 (by decide)))) c15)
      refine lv_aload_n hx hb d_X_take_140 rfl (lv_at hl 2 rfl) ?_
      refine va_get (D := D) (ci := 7) (v := .int v7) (C := "SignMachineModel") (T := F_X) (N := 64) hx hb hk fi_X hown hK.1 hP 0 rfl rfl 15 (by decide) (hk _ k_1136) (fun _ h9 => h9) rfl d_X_take_141 ?_
      refine lv_if_le (tgt := 151) hx hb d_X_take_144 (by decide) (fun c16 => ?_) (fun c16 => ?_)
      · have gc16 : v7.toInt ≤ (0 : Int) := c_le c16
        have R17 : 0 ≤ v7.toInt ∧ v7.toInt ≤ 0 := rf_leX Rv7 (show 0 ≤ (0 : Int) ∧ (0 : Int) ≤ 0 from by decide) gc16 (by decide) (by decide)
        refine lv_aload_n hx hb d_X_take_151 rfl (lv_at hl 2 rfl) ?_
        refine va_get (D := D) (ci := 7) (v := .ref p1) (C := "SignMachineModel") (T := F_X) (N := 64) hx hb hk fi_X hown hK.1 hP 0 rfl rfl 0 (by decide) (hk _ k_1121) (fun _ h9 => h9) rfl d_X_take_152 ?_
        refine lv_aload_n hx hb d_X_take_155 rfl (lv_at hl 2 rfl) ?_
        refine va_get (D := D) (ci := 7) (v := .int x0_4) (C := "SignMachineModel") (T := F_X) (N := 64) hx hb hk fi_X hown hK.1 hP 0 rfl rfl 4 (by decide) (hk _ k_1125) (fun _ h9 => h9) rfl d_X_take_156 ?_
        refine va_iald hx hb hK.1 hP 1 0 rfl rfl (by rw [vp_in_iff]; omega) d_X_take_159 ?_
        refine lv_topi (fun v18 hv18 => ?_)
        have Rv18 := Ay1 (x0_4).toNatClampNeg
        rw [← hv18] at Rv18
        refine va_put (D := D) (ci := 7) (v := .int v18) (ty := .int) (C := "SignMachineModel") (T := F_X) (N := 64) hx hb hk fi_X ft_X ft_X_ok fn_X hown hK.1 hP hD hS 0 rfl rfl 16 (by decide) (hk _ k_1137) (fun _ h9 => h9) rfl (by decide +kernel) rfl rfl (Nat.le_of_ble_eq_true rfl) d_X_take_160 (fun H locs hP hD hS => ?_)
        have hP : va_P D classes (wS50 cI cJ cZ cB p0 p1 p2 p3 p4 p5 p6 p7 p8 p9 p10 p11 p12 p13 p14 p15 p16 p17 p18 p19 p20 p21 p22 p23 p24 p25 x0_4 x0_5 x0_6 x0_7 x0_8 v2 v4 v6 v7 v18 x0_17 x0_18 x0_22 x0_23 x0_24 x0_25 x0_26 x0_27 x0_28 x0_29 x0_30 x0_31 x0_32 x0_36 x0_39 x0_40 x0_44 x0_49 x0_51 x0_53 x0_54 x0_55 x0_56 x0_57 x0_58 x0_59 x0_60 x0_61 x0_62 y1 y2 y3 y4 y5 y6 y7 y8 y9 y10 y11 y12 y13 y14 y15 y16 y17 y18 y19 y20 y21 y22 y23 y24 y25) H := hP
        have hD : va_D A (wS50 cI cJ cZ cB p0 p1 p2 p3 p4 p5 p6 p7 p8 p9 p10 p11 p12 p13 p14 p15 p16 p17 p18 p19 p20 p21 p22 p23 p24 p25 x0_4 x0_5 x0_6 x0_7 x0_8 v2 v4 v6 v7 v18 x0_17 x0_18 x0_22 x0_23 x0_24 x0_25 x0_26 x0_27 x0_28 x0_29 x0_30 x0_31 x0_32 x0_36 x0_39 x0_40 x0_44 x0_49 x0_51 x0_53 x0_54 x0_55 x0_56 x0_57 x0_58 x0_59 x0_60 x0_61 x0_62 y1 y2 y3 y4 y5 y6 y7 y8 y9 y10 y11 y12 y13 y14 y15 y16 y17 y18 y19 y20 y21 y22 y23 y24 y25) := hD
        exact W.vret hx hb hr (fun t ht hW => ⟨⟨(), rfl, trivial, ⟨v2, v4, v6, v7, v18, Rv2, Rv4, Rv6, (rgw R17 (by decide) (by decide)), Rv18, (show (v7.toInt < 0 → v18.toInt = 1) ∧ (0 < v7.toInt → v18.toInt = 0) from by omega), by show va_P D classes _ t.heap; rw [ht]; exact hP, hD⟩⟩, hS.F ht⟩) hS.2.2 d_X_take_163
      · have gc16 : (0 : Int) < v7.toInt := c_nle c16
        have R19 : 1 ≤ v7.toInt ∧ v7.toInt ≤ 4095 := rf_gtX Rv7 (show 0 ≤ (0 : Int) ∧ (0 : Int) ≤ 0 from by decide) gc16 (by decide) (by decide)
        refine lv_iconst (v := 0) hx hb d_X_take_147 (by decide) ?_
        refine lv_goto (tgt := 160) hx hb d_X_take_148 (by decide) ?_
        refine va_put (D := D) (ci := 7) (v := .int (0 : Int32)) (ty := .int) (C := "SignMachineModel") (T := F_X) (N := 64) hx hb hk fi_X ft_X ft_X_ok fn_X hown hK.1 hP hD hS 0 rfl rfl 16 (by decide) (hk _ k_1137) (fun _ h9 => h9) rfl (by decide +kernel) rfl rfl (Nat.le_of_ble_eq_true rfl) d_X_take_160 (fun H locs hP hD hS => ?_)
        have hP : va_P D classes (wS50 cI cJ cZ cB p0 p1 p2 p3 p4 p5 p6 p7 p8 p9 p10 p11 p12 p13 p14 p15 p16 p17 p18 p19 p20 p21 p22 p23 p24 p25 x0_4 x0_5 x0_6 x0_7 x0_8 v2 v4 v6 v7 (0 : Int32) x0_17 x0_18 x0_22 x0_23 x0_24 x0_25 x0_26 x0_27 x0_28 x0_29 x0_30 x0_31 x0_32 x0_36 x0_39 x0_40 x0_44 x0_49 x0_51 x0_53 x0_54 x0_55 x0_56 x0_57 x0_58 x0_59 x0_60 x0_61 x0_62 y1 y2 y3 y4 y5 y6 y7 y8 y9 y10 y11 y12 y13 y14 y15 y16 y17 y18 y19 y20 y21 y22 y23 y24 y25) H := hP
        have hD : va_D A (wS50 cI cJ cZ cB p0 p1 p2 p3 p4 p5 p6 p7 p8 p9 p10 p11 p12 p13 p14 p15 p16 p17 p18 p19 p20 p21 p22 p23 p24 p25 x0_4 x0_5 x0_6 x0_7 x0_8 v2 v4 v6 v7 (0 : Int32) x0_17 x0_18 x0_22 x0_23 x0_24 x0_25 x0_26 x0_27 x0_28 x0_29 x0_30 x0_31 x0_32 x0_36 x0_39 x0_40 x0_44 x0_49 x0_51 x0_53 x0_54 x0_55 x0_56 x0_57 x0_58 x0_59 x0_60 x0_61 x0_62 y1 y2 y3 y4 y5 y6 y7 y8 y9 y10 y11 y12 y13 y14 y15 y16 y17 y18 y19 y20 y21 y22 y23 y24 y25) := hD
        exact W.vret hx hb hr (fun t ht hW => ⟨⟨(), rfl, trivial, ⟨v2, v4, v6, v7, (0 : Int32), Rv2, Rv4, Rv6, (rgw R19 (by decide) (by decide)), (by decide), (show (v7.toInt < 0 → (0 : Int) = 1) ∧ (0 < v7.toInt → (0 : Int) = 0) from by omega), by show va_P D classes _ t.heap; rw [ht]; exact hP, hD⟩⟩, hS.F ht⟩) hS.2.2 d_X_take_163
    · have gc13 : rz12.toInt ≠ (0 : Int) := c_ne c13
      have R20 : 1 ≤ rz12.toInt ∧ rz12.toInt ≤ 1 := rf_neX F0z12 (show 0 ≤ (0 : Int) ∧ (0 : Int) ≤ 0 from by decide) gc13 (by decide) (by decide)
      refine lv_aload_n hx hb d_X_take_84 rfl (lv_at hl 2 rfl) ?_
      refine lv_dup hx hb d_X_take_85 rfl ?_
      refine va_get (D := D) (ci := 7) (v := .int v7) (C := "SignMachineModel") (T := F_X) (N := 64) hx hb hk fi_X hown hK.1 hP 0 rfl rfl 15 (by decide) (hk _ k_1136) (fun _ h9 => h9) rfl d_X_take_86 ?_
      refine lv_aload_n hx hb d_X_take_89 rfl (lv_at hl 2 rfl) ?_
      refine va_get (D := D) (ci := 7) (v := .ref p3) (C := "SignMachineModel") (T := F_X) (N := 64) hx hb hk fi_X hown hK.1 hP 0 rfl rfl 2 (by decide) (hk _ k_1123) (fun _ h9 => h9) rfl d_X_take_90 ?_
      refine lv_aload_n hx hb d_X_take_93 rfl (lv_at hl 2 rfl) ?_
      refine va_get (D := D) (ci := 7) (v := .int v6) (C := "SignMachineModel") (T := F_X) (N := 64) hx hb hk fi_X hown hK.1 hP 0 rfl rfl 14 (by decide) (hk _ k_1135) (fun _ h9 => h9) rfl d_X_take_94 ?_
      refine va_iald hx hb hK.1 hP 3 0 rfl rfl (by rw [vp_in_iff]; omega) d_X_take_97 ?_
      refine lv_topi (fun v21 hv21 => ?_)
      have Rv21 := Ay3 (v6).toNatClampNeg
      rw [← hv21] at Rv21
      refine lv_iconst (v := 1) hx hb d_X_take_98 (by decide) ?_
      refine lv_icmp_ne (tgt := 115) hx hb d_X_take_99 (by decide) (fun c22 => ?_) (fun c22 => ?_)
      · have gc22 : v21.toInt ≠ (1 : Int) := c_ne c22
        have R23 : 0 ≤ v21.toInt ∧ v21.toInt ≤ 0 := rf_neX Rv21 (show 1 ≤ (1 : Int) ∧ (1 : Int) ≤ 1 from by decide) gc22 (by decide) (by decide)
        refine lv_aload_n hx hb d_X_take_115 rfl (lv_at hl 2 rfl) ?_
        refine va_get (D := D) (ci := 7) (v := .ref p4) (C := "SignMachineModel") (T := F_X) (N := 64) hx hb hk fi_X hown hK.1 hP 0 rfl rfl 3 (by decide) (hk _ k_1124) (fun _ h9 => h9) rfl d_X_take_116 ?_
        refine lv_aload_n hx hb d_X_take_119 rfl (lv_at hl 2 rfl) ?_
        refine va_get (D := D) (ci := 7) (v := .int v6) (C := "SignMachineModel") (T := F_X) (N := 64) hx hb hk fi_X hown hK.1 hP 0 rfl rfl 14 (by decide) (hk _ k_1135) (fun _ h9 => h9) rfl d_X_take_120 ?_
        refine va_iald hx hb hK.1 hP 4 0 rfl rfl (by rw [vp_in_iff]; omega) d_X_take_123 ?_
        refine lv_topi (fun v24 hv24 => ?_)
        have Rv24 := Ay4 (v6).toNatClampNeg
        rw [← hv24] at Rv24
        obtain ⟨Rv24, Xv24⟩ := Rv24
        have : (((v6).toNatClampNeg : Nat) : Int) = v6.toInt := ti_n Rv6 (by decide)
        refine lv_iadd hx hb d_X_take_124 ?_
        refine lv_topi (fun v25 hv25 => ?_)
        obtain ⟨ev25, Rv25⟩ : v25.toInt = v7.toInt + v24.toInt ∧ (0 ≤ v25.toInt ∧ v25.toInt ≤ 1073745918) := ad3 hv25 Rv7 Rv24 (by decide) (by decide) (by decide) (by decide)
        refine va_put (D := D) (ci := 7) (v := .int v25) (ty := .int) (C := "SignMachineModel") (T := F_X) (N := 64) hx hb hk fi_X ft_X ft_X_ok fn_X hown hK.1 hP hD hS 0 rfl rfl 15 (by decide) (hk _ k_1136) (fun _ h9 => h9) rfl (by decide +kernel) rfl rfl (Nat.le_of_ble_eq_true rfl) d_X_take_125 (fun H locs hP hD hS => ?_)
        have hP : va_P D classes (wS50 cI cJ cZ cB p0 p1 p2 p3 p4 p5 p6 p7 p8 p9 p10 p11 p12 p13 p14 p15 p16 p17 p18 p19 p20 p21 p22 p23 p24 p25 x0_4 x0_5 x0_6 x0_7 x0_8 v2 v4 v6 v25 x0_16 x0_17 x0_18 x0_22 x0_23 x0_24 x0_25 x0_26 x0_27 x0_28 x0_29 x0_30 x0_31 x0_32 x0_36 x0_39 x0_40 x0_44 x0_49 x0_51 x0_53 x0_54 x0_55 x0_56 x0_57 x0_58 x0_59 x0_60 x0_61 x0_62 y1 y2 y3 y4 y5 y6 y7 y8 y9 y10 y11 y12 y13 y14 y15 y16 y17 y18 y19 y20 y21 y22 y23 y24 y25) H := hP
        have hD : va_D A (wS50 cI cJ cZ cB p0 p1 p2 p3 p4 p5 p6 p7 p8 p9 p10 p11 p12 p13 p14 p15 p16 p17 p18 p19 p20 p21 p22 p23 p24 p25 x0_4 x0_5 x0_6 x0_7 x0_8 v2 v4 v6 v25 x0_16 x0_17 x0_18 x0_22 x0_23 x0_24 x0_25 x0_26 x0_27 x0_28 x0_29 x0_30 x0_31 x0_32 x0_36 x0_39 x0_40 x0_44 x0_49 x0_51 x0_53 x0_54 x0_55 x0_56 x0_57 x0_58 x0_59 x0_60 x0_61 x0_62 y1 y2 y3 y4 y5 y6 y7 y8 y9 y10 y11 y12 y13 y14 y15 y16 y17 y18 y19 y20 y21 y22 y23 y24 y25) := hD
        refine lv_aload_n hx hb d_X_take_128 rfl (lv_at hl 2 rfl) ?_
        refine lv_aload_n hx hb d_X_take_129 rfl (lv_at hl 2 rfl) ?_
        refine va_get (D := D) (ci := 7) (v := .int v25) (C := "SignMachineModel") (T := F_X) (N := 64) hx hb hk fi_X hown hK.1 hP 0 rfl rfl 15 (by decide) (hk _ k_1136) (fun _ h9 => h9) rfl d_X_take_130 ?_
        refine lv_if_ge (tgt := 140) hx hb d_X_take_133 (by decide) (fun c26 => ?_) (fun c26 => absurd (show (0 : Int32) ≤ v25 from (Int32.le_iff_toInt_le.mpr (kle (show 0 ≤ (0 : Int) ∧ (0 : Int) ≤ 0 from by decide) Rv25 (by decide)))) c26)
        refine lv_aload_n hx hb d_X_take_140 rfl (lv_at hl 2 rfl) ?_
        refine va_get (D := D) (ci := 7) (v := .int v25) (C := "SignMachineModel") (T := F_X) (N := 64) hx hb hk fi_X hown hK.1 hP 0 rfl rfl 15 (by decide) (hk _ k_1136) (fun _ h9 => h9) rfl d_X_take_141 ?_
        refine lv_if_le (tgt := 151) hx hb d_X_take_144 (by decide) (fun c27 => ?_) (fun c27 => ?_)
        · have gc27 : v25.toInt ≤ (0 : Int) := c_le c27
          have R28 : 0 ≤ v25.toInt ∧ v25.toInt ≤ 0 := rf_leX Rv25 (show 0 ≤ (0 : Int) ∧ (0 : Int) ≤ 0 from by decide) gc27 (by decide) (by decide)
          refine lv_aload_n hx hb d_X_take_151 rfl (lv_at hl 2 rfl) ?_
          refine va_get (D := D) (ci := 7) (v := .ref p1) (C := "SignMachineModel") (T := F_X) (N := 64) hx hb hk fi_X hown hK.1 hP 0 rfl rfl 0 (by decide) (hk _ k_1121) (fun _ h9 => h9) rfl d_X_take_152 ?_
          refine lv_aload_n hx hb d_X_take_155 rfl (lv_at hl 2 rfl) ?_
          refine va_get (D := D) (ci := 7) (v := .int x0_4) (C := "SignMachineModel") (T := F_X) (N := 64) hx hb hk fi_X hown hK.1 hP 0 rfl rfl 4 (by decide) (hk _ k_1125) (fun _ h9 => h9) rfl d_X_take_156 ?_
          refine va_iald hx hb hK.1 hP 1 0 rfl rfl (by rw [vp_in_iff]; omega) d_X_take_159 ?_
          refine lv_topi (fun v29 hv29 => ?_)
          have Rv29 := Ay1 (x0_4).toNatClampNeg
          rw [← hv29] at Rv29
          refine va_put (D := D) (ci := 7) (v := .int v29) (ty := .int) (C := "SignMachineModel") (T := F_X) (N := 64) hx hb hk fi_X ft_X ft_X_ok fn_X hown hK.1 hP hD hS 0 rfl rfl 16 (by decide) (hk _ k_1137) (fun _ h9 => h9) rfl (by decide +kernel) rfl rfl (Nat.le_of_ble_eq_true rfl) d_X_take_160 (fun H locs hP hD hS => ?_)
          have hP : va_P D classes (wS50 cI cJ cZ cB p0 p1 p2 p3 p4 p5 p6 p7 p8 p9 p10 p11 p12 p13 p14 p15 p16 p17 p18 p19 p20 p21 p22 p23 p24 p25 x0_4 x0_5 x0_6 x0_7 x0_8 v2 v4 v6 v25 v29 x0_17 x0_18 x0_22 x0_23 x0_24 x0_25 x0_26 x0_27 x0_28 x0_29 x0_30 x0_31 x0_32 x0_36 x0_39 x0_40 x0_44 x0_49 x0_51 x0_53 x0_54 x0_55 x0_56 x0_57 x0_58 x0_59 x0_60 x0_61 x0_62 y1 y2 y3 y4 y5 y6 y7 y8 y9 y10 y11 y12 y13 y14 y15 y16 y17 y18 y19 y20 y21 y22 y23 y24 y25) H := hP
          have hD : va_D A (wS50 cI cJ cZ cB p0 p1 p2 p3 p4 p5 p6 p7 p8 p9 p10 p11 p12 p13 p14 p15 p16 p17 p18 p19 p20 p21 p22 p23 p24 p25 x0_4 x0_5 x0_6 x0_7 x0_8 v2 v4 v6 v25 v29 x0_17 x0_18 x0_22 x0_23 x0_24 x0_25 x0_26 x0_27 x0_28 x0_29 x0_30 x0_31 x0_32 x0_36 x0_39 x0_40 x0_44 x0_49 x0_51 x0_53 x0_54 x0_55 x0_56 x0_57 x0_58 x0_59 x0_60 x0_61 x0_62 y1 y2 y3 y4 y5 y6 y7 y8 y9 y10 y11 y12 y13 y14 y15 y16 y17 y18 y19 y20 y21 y22 y23 y24 y25) := hD
          exact W.vret hx hb hr (fun t ht hW => ⟨⟨(), rfl, trivial, ⟨v2, v4, v6, v25, v29, Rv2, Rv4, Rv6, (rgw R28 (by decide) (by decide)), Rv29, (show (v25.toInt < 0 → v29.toInt = 1) ∧ (0 < v25.toInt → v29.toInt = 0) from by omega), by show va_P D classes _ t.heap; rw [ht]; exact hP, hD⟩⟩, hS.F ht⟩) hS.2.2 d_X_take_163
        · have gc27 : (0 : Int) < v25.toInt := c_nle c27
          have R30 : 1 ≤ v25.toInt ∧ v25.toInt ≤ 1073745918 := rf_gtX Rv25 (show 0 ≤ (0 : Int) ∧ (0 : Int) ≤ 0 from by decide) gc27 (by decide) (by decide)
          refine lv_iconst (v := 0) hx hb d_X_take_147 (by decide) ?_
          refine lv_goto (tgt := 160) hx hb d_X_take_148 (by decide) ?_
          refine va_put (D := D) (ci := 7) (v := .int (0 : Int32)) (ty := .int) (C := "SignMachineModel") (T := F_X) (N := 64) hx hb hk fi_X ft_X ft_X_ok fn_X hown hK.1 hP hD hS 0 rfl rfl 16 (by decide) (hk _ k_1137) (fun _ h9 => h9) rfl (by decide +kernel) rfl rfl (Nat.le_of_ble_eq_true rfl) d_X_take_160 (fun H locs hP hD hS => ?_)
          have hP : va_P D classes (wS50 cI cJ cZ cB p0 p1 p2 p3 p4 p5 p6 p7 p8 p9 p10 p11 p12 p13 p14 p15 p16 p17 p18 p19 p20 p21 p22 p23 p24 p25 x0_4 x0_5 x0_6 x0_7 x0_8 v2 v4 v6 v25 (0 : Int32) x0_17 x0_18 x0_22 x0_23 x0_24 x0_25 x0_26 x0_27 x0_28 x0_29 x0_30 x0_31 x0_32 x0_36 x0_39 x0_40 x0_44 x0_49 x0_51 x0_53 x0_54 x0_55 x0_56 x0_57 x0_58 x0_59 x0_60 x0_61 x0_62 y1 y2 y3 y4 y5 y6 y7 y8 y9 y10 y11 y12 y13 y14 y15 y16 y17 y18 y19 y20 y21 y22 y23 y24 y25) H := hP
          have hD : va_D A (wS50 cI cJ cZ cB p0 p1 p2 p3 p4 p5 p6 p7 p8 p9 p10 p11 p12 p13 p14 p15 p16 p17 p18 p19 p20 p21 p22 p23 p24 p25 x0_4 x0_5 x0_6 x0_7 x0_8 v2 v4 v6 v25 (0 : Int32) x0_17 x0_18 x0_22 x0_23 x0_24 x0_25 x0_26 x0_27 x0_28 x0_29 x0_30 x0_31 x0_32 x0_36 x0_39 x0_40 x0_44 x0_49 x0_51 x0_53 x0_54 x0_55 x0_56 x0_57 x0_58 x0_59 x0_60 x0_61 x0_62 y1 y2 y3 y4 y5 y6 y7 y8 y9 y10 y11 y12 y13 y14 y15 y16 y17 y18 y19 y20 y21 y22 y23 y24 y25) := hD
          exact W.vret hx hb hr (fun t ht hW => ⟨⟨(), rfl, trivial, ⟨v2, v4, v6, v25, (0 : Int32), Rv2, Rv4, Rv6, (by omega), (by decide), (show (v25.toInt < 0 → (0 : Int) = 1) ∧ (0 < v25.toInt → (0 : Int) = 0) from by omega), by show va_P D classes _ t.heap; rw [ht]; exact hP, hD⟩⟩, hS.F ht⟩) hS.2.2 d_X_take_163
      · have gc22 : v21.toInt = (1 : Int) := c_eq c22
        have R31 : 1 ≤ v21.toInt ∧ v21.toInt ≤ 1 := rf_eqX Rv21 (show 1 ≤ (1 : Int) ∧ (1 : Int) ≤ 1 from by decide) gc22 (by decide) (by decide)
        refine lv_aload_n hx hb d_X_take_102 rfl (lv_at hl 2 rfl) ?_
        refine va_get (D := D) (ci := 7) (v := .ref p4) (C := "SignMachineModel") (T := F_X) (N := 64) hx hb hk fi_X hown hK.1 hP 0 rfl rfl 3 (by decide) (hk _ k_1124) (fun _ h9 => h9) rfl d_X_take_103 ?_
        refine lv_aload_n hx hb d_X_take_106 rfl (lv_at hl 2 rfl) ?_
        refine va_get (D := D) (ci := 7) (v := .int v6) (C := "SignMachineModel") (T := F_X) (N := 64) hx hb hk fi_X hown hK.1 hP 0 rfl rfl 14 (by decide) (hk _ k_1135) (fun _ h9 => h9) rfl d_X_take_107 ?_
        refine va_iald hx hb hK.1 hP 4 0 rfl rfl (by rw [vp_in_iff]; omega) d_X_take_110 ?_
        refine lv_topi (fun v32 hv32 => ?_)
        have Rv32 := Ay4 (v6).toNatClampNeg
        rw [← hv32] at Rv32
        obtain ⟨Rv32, Xv32⟩ := Rv32
        have : (((v6).toNatClampNeg : Nat) : Int) = v6.toInt := ti_n Rv6 (by decide)
        refine lv_ineg hx hb d_X_take_111 ?_
        refine lv_topi (fun v33 hv33 => ?_)
        obtain ⟨ev33, Rv33⟩ : v33.toInt = -v32.toInt ∧ ((-1073741823) ≤ v33.toInt ∧ v33.toInt ≤ 0) := ng3 hv33 Rv32 (by decide) (by decide) (by decide) (by decide)
        refine lv_goto (tgt := 124) hx hb d_X_take_112 (by decide) ?_
        refine lv_iadd hx hb d_X_take_124 ?_
        refine lv_topi (fun v34 hv34 => ?_)
        obtain ⟨ev34, Rv34⟩ : v34.toInt = v7.toInt + v33.toInt ∧ ((-1073741823) ≤ v34.toInt ∧ v34.toInt ≤ 4095) := ad3 hv34 Rv7 Rv33 (by decide) (by decide) (by decide) (by decide)
        refine va_put (D := D) (ci := 7) (v := .int v34) (ty := .int) (C := "SignMachineModel") (T := F_X) (N := 64) hx hb hk fi_X ft_X ft_X_ok fn_X hown hK.1 hP hD hS 0 rfl rfl 15 (by decide) (hk _ k_1136) (fun _ h9 => h9) rfl (by decide +kernel) rfl rfl (Nat.le_of_ble_eq_true rfl) d_X_take_125 (fun H locs hP hD hS => ?_)
        have hP : va_P D classes (wS50 cI cJ cZ cB p0 p1 p2 p3 p4 p5 p6 p7 p8 p9 p10 p11 p12 p13 p14 p15 p16 p17 p18 p19 p20 p21 p22 p23 p24 p25 x0_4 x0_5 x0_6 x0_7 x0_8 v2 v4 v6 v34 x0_16 x0_17 x0_18 x0_22 x0_23 x0_24 x0_25 x0_26 x0_27 x0_28 x0_29 x0_30 x0_31 x0_32 x0_36 x0_39 x0_40 x0_44 x0_49 x0_51 x0_53 x0_54 x0_55 x0_56 x0_57 x0_58 x0_59 x0_60 x0_61 x0_62 y1 y2 y3 y4 y5 y6 y7 y8 y9 y10 y11 y12 y13 y14 y15 y16 y17 y18 y19 y20 y21 y22 y23 y24 y25) H := hP
        have hD : va_D A (wS50 cI cJ cZ cB p0 p1 p2 p3 p4 p5 p6 p7 p8 p9 p10 p11 p12 p13 p14 p15 p16 p17 p18 p19 p20 p21 p22 p23 p24 p25 x0_4 x0_5 x0_6 x0_7 x0_8 v2 v4 v6 v34 x0_16 x0_17 x0_18 x0_22 x0_23 x0_24 x0_25 x0_26 x0_27 x0_28 x0_29 x0_30 x0_31 x0_32 x0_36 x0_39 x0_40 x0_44 x0_49 x0_51 x0_53 x0_54 x0_55 x0_56 x0_57 x0_58 x0_59 x0_60 x0_61 x0_62 y1 y2 y3 y4 y5 y6 y7 y8 y9 y10 y11 y12 y13 y14 y15 y16 y17 y18 y19 y20 y21 y22 y23 y24 y25) := hD
        refine lv_aload_n hx hb d_X_take_128 rfl (lv_at hl 2 rfl) ?_
        refine lv_aload_n hx hb d_X_take_129 rfl (lv_at hl 2 rfl) ?_
        refine va_get (D := D) (ci := 7) (v := .int v34) (C := "SignMachineModel") (T := F_X) (N := 64) hx hb hk fi_X hown hK.1 hP 0 rfl rfl 15 (by decide) (hk _ k_1136) (fun _ h9 => h9) rfl d_X_take_130 ?_
        refine lv_if_ge (tgt := 140) hx hb d_X_take_133 (by decide) (fun c35 => ?_) (fun c35 => ?_)
        · have gc35 : (0 : Int) ≤ v34.toInt := c_le c35
          have R36 : 0 ≤ v34.toInt ∧ v34.toInt ≤ 4095 := rf_geX Rv34 (show 0 ≤ (0 : Int) ∧ (0 : Int) ≤ 0 from by decide) gc35 (by decide) (by decide)
          refine lv_aload_n hx hb d_X_take_140 rfl (lv_at hl 2 rfl) ?_
          refine va_get (D := D) (ci := 7) (v := .int v34) (C := "SignMachineModel") (T := F_X) (N := 64) hx hb hk fi_X hown hK.1 hP 0 rfl rfl 15 (by decide) (hk _ k_1136) (fun _ h9 => h9) rfl d_X_take_141 ?_
          refine lv_if_le (tgt := 151) hx hb d_X_take_144 (by decide) (fun c37 => ?_) (fun c37 => ?_)
          · have gc37 : v34.toInt ≤ (0 : Int) := c_le c37
            have R38 : 0 ≤ v34.toInt ∧ v34.toInt ≤ 0 := rf_leX R36 (show 0 ≤ (0 : Int) ∧ (0 : Int) ≤ 0 from by decide) gc37 (by decide) (by decide)
            refine lv_aload_n hx hb d_X_take_151 rfl (lv_at hl 2 rfl) ?_
            refine va_get (D := D) (ci := 7) (v := .ref p1) (C := "SignMachineModel") (T := F_X) (N := 64) hx hb hk fi_X hown hK.1 hP 0 rfl rfl 0 (by decide) (hk _ k_1121) (fun _ h9 => h9) rfl d_X_take_152 ?_
            refine lv_aload_n hx hb d_X_take_155 rfl (lv_at hl 2 rfl) ?_
            refine va_get (D := D) (ci := 7) (v := .int x0_4) (C := "SignMachineModel") (T := F_X) (N := 64) hx hb hk fi_X hown hK.1 hP 0 rfl rfl 4 (by decide) (hk _ k_1125) (fun _ h9 => h9) rfl d_X_take_156 ?_
            refine va_iald hx hb hK.1 hP 1 0 rfl rfl (by rw [vp_in_iff]; omega) d_X_take_159 ?_
            refine lv_topi (fun v39 hv39 => ?_)
            have Rv39 := Ay1 (x0_4).toNatClampNeg
            rw [← hv39] at Rv39
            refine va_put (D := D) (ci := 7) (v := .int v39) (ty := .int) (C := "SignMachineModel") (T := F_X) (N := 64) hx hb hk fi_X ft_X ft_X_ok fn_X hown hK.1 hP hD hS 0 rfl rfl 16 (by decide) (hk _ k_1137) (fun _ h9 => h9) rfl (by decide +kernel) rfl rfl (Nat.le_of_ble_eq_true rfl) d_X_take_160 (fun H locs hP hD hS => ?_)
            have hP : va_P D classes (wS50 cI cJ cZ cB p0 p1 p2 p3 p4 p5 p6 p7 p8 p9 p10 p11 p12 p13 p14 p15 p16 p17 p18 p19 p20 p21 p22 p23 p24 p25 x0_4 x0_5 x0_6 x0_7 x0_8 v2 v4 v6 v34 v39 x0_17 x0_18 x0_22 x0_23 x0_24 x0_25 x0_26 x0_27 x0_28 x0_29 x0_30 x0_31 x0_32 x0_36 x0_39 x0_40 x0_44 x0_49 x0_51 x0_53 x0_54 x0_55 x0_56 x0_57 x0_58 x0_59 x0_60 x0_61 x0_62 y1 y2 y3 y4 y5 y6 y7 y8 y9 y10 y11 y12 y13 y14 y15 y16 y17 y18 y19 y20 y21 y22 y23 y24 y25) H := hP
            have hD : va_D A (wS50 cI cJ cZ cB p0 p1 p2 p3 p4 p5 p6 p7 p8 p9 p10 p11 p12 p13 p14 p15 p16 p17 p18 p19 p20 p21 p22 p23 p24 p25 x0_4 x0_5 x0_6 x0_7 x0_8 v2 v4 v6 v34 v39 x0_17 x0_18 x0_22 x0_23 x0_24 x0_25 x0_26 x0_27 x0_28 x0_29 x0_30 x0_31 x0_32 x0_36 x0_39 x0_40 x0_44 x0_49 x0_51 x0_53 x0_54 x0_55 x0_56 x0_57 x0_58 x0_59 x0_60 x0_61 x0_62 y1 y2 y3 y4 y5 y6 y7 y8 y9 y10 y11 y12 y13 y14 y15 y16 y17 y18 y19 y20 y21 y22 y23 y24 y25) := hD
            exact W.vret hx hb hr (fun t ht hW => ⟨⟨(), rfl, trivial, ⟨v2, v4, v6, v34, v39, Rv2, Rv4, Rv6, (rgw R38 (by decide) (by decide)), Rv39, (show (v34.toInt < 0 → v39.toInt = 1) ∧ (0 < v34.toInt → v39.toInt = 0) from by omega), by show va_P D classes _ t.heap; rw [ht]; exact hP, hD⟩⟩, hS.F ht⟩) hS.2.2 d_X_take_163
          · have gc37 : (0 : Int) < v34.toInt := c_nle c37
            have R40 : 1 ≤ v34.toInt ∧ v34.toInt ≤ 4095 := rf_gtX R36 (show 0 ≤ (0 : Int) ∧ (0 : Int) ≤ 0 from by decide) gc37 (by decide) (by decide)
            refine lv_iconst (v := 0) hx hb d_X_take_147 (by decide) ?_
            refine lv_goto (tgt := 160) hx hb d_X_take_148 (by decide) ?_
            refine va_put (D := D) (ci := 7) (v := .int (0 : Int32)) (ty := .int) (C := "SignMachineModel") (T := F_X) (N := 64) hx hb hk fi_X ft_X ft_X_ok fn_X hown hK.1 hP hD hS 0 rfl rfl 16 (by decide) (hk _ k_1137) (fun _ h9 => h9) rfl (by decide +kernel) rfl rfl (Nat.le_of_ble_eq_true rfl) d_X_take_160 (fun H locs hP hD hS => ?_)
            have hP : va_P D classes (wS50 cI cJ cZ cB p0 p1 p2 p3 p4 p5 p6 p7 p8 p9 p10 p11 p12 p13 p14 p15 p16 p17 p18 p19 p20 p21 p22 p23 p24 p25 x0_4 x0_5 x0_6 x0_7 x0_8 v2 v4 v6 v34 (0 : Int32) x0_17 x0_18 x0_22 x0_23 x0_24 x0_25 x0_26 x0_27 x0_28 x0_29 x0_30 x0_31 x0_32 x0_36 x0_39 x0_40 x0_44 x0_49 x0_51 x0_53 x0_54 x0_55 x0_56 x0_57 x0_58 x0_59 x0_60 x0_61 x0_62 y1 y2 y3 y4 y5 y6 y7 y8 y9 y10 y11 y12 y13 y14 y15 y16 y17 y18 y19 y20 y21 y22 y23 y24 y25) H := hP
            have hD : va_D A (wS50 cI cJ cZ cB p0 p1 p2 p3 p4 p5 p6 p7 p8 p9 p10 p11 p12 p13 p14 p15 p16 p17 p18 p19 p20 p21 p22 p23 p24 p25 x0_4 x0_5 x0_6 x0_7 x0_8 v2 v4 v6 v34 (0 : Int32) x0_17 x0_18 x0_22 x0_23 x0_24 x0_25 x0_26 x0_27 x0_28 x0_29 x0_30 x0_31 x0_32 x0_36 x0_39 x0_40 x0_44 x0_49 x0_51 x0_53 x0_54 x0_55 x0_56 x0_57 x0_58 x0_59 x0_60 x0_61 x0_62 y1 y2 y3 y4 y5 y6 y7 y8 y9 y10 y11 y12 y13 y14 y15 y16 y17 y18 y19 y20 y21 y22 y23 y24 y25) := hD
            exact W.vret hx hb hr (fun t ht hW => ⟨⟨(), rfl, trivial, ⟨v2, v4, v6, v34, (0 : Int32), Rv2, Rv4, Rv6, (rgw R40 (by decide) (by decide)), (by decide), (show (v34.toInt < 0 → (0 : Int) = 1) ∧ (0 < v34.toInt → (0 : Int) = 0) from by omega), by show va_P D classes _ t.heap; rw [ht]; exact hP, hD⟩⟩, hS.F ht⟩) hS.2.2 d_X_take_163
        · have gc35 : v34.toInt < (0 : Int) := c_nle c35
          have R41 : (-1073741823) ≤ v34.toInt ∧ v34.toInt ≤ (-1) := rf_ltX Rv34 (show 0 ≤ (0 : Int) ∧ (0 : Int) ≤ 0 from by decide) gc35 (by decide) (by decide)
          refine lv_iconst (v := 1) hx hb d_X_take_136 (by decide) ?_
          refine lv_goto (tgt := 160) hx hb d_X_take_137 (by decide) ?_
          refine va_put (D := D) (ci := 7) (v := .int (1 : Int32)) (ty := .int) (C := "SignMachineModel") (T := F_X) (N := 64) hx hb hk fi_X ft_X ft_X_ok fn_X hown hK.1 hP hD hS 0 rfl rfl 16 (by decide) (hk _ k_1137) (fun _ h9 => h9) rfl (by decide +kernel) rfl rfl (Nat.le_of_ble_eq_true rfl) d_X_take_160 (fun H locs hP hD hS => ?_)
          have hP : va_P D classes (wS50 cI cJ cZ cB p0 p1 p2 p3 p4 p5 p6 p7 p8 p9 p10 p11 p12 p13 p14 p15 p16 p17 p18 p19 p20 p21 p22 p23 p24 p25 x0_4 x0_5 x0_6 x0_7 x0_8 v2 v4 v6 v34 (1 : Int32) x0_17 x0_18 x0_22 x0_23 x0_24 x0_25 x0_26 x0_27 x0_28 x0_29 x0_30 x0_31 x0_32 x0_36 x0_39 x0_40 x0_44 x0_49 x0_51 x0_53 x0_54 x0_55 x0_56 x0_57 x0_58 x0_59 x0_60 x0_61 x0_62 y1 y2 y3 y4 y5 y6 y7 y8 y9 y10 y11 y12 y13 y14 y15 y16 y17 y18 y19 y20 y21 y22 y23 y24 y25) H := hP
          have hD : va_D A (wS50 cI cJ cZ cB p0 p1 p2 p3 p4 p5 p6 p7 p8 p9 p10 p11 p12 p13 p14 p15 p16 p17 p18 p19 p20 p21 p22 p23 p24 p25 x0_4 x0_5 x0_6 x0_7 x0_8 v2 v4 v6 v34 (1 : Int32) x0_17 x0_18 x0_22 x0_23 x0_24 x0_25 x0_26 x0_27 x0_28 x0_29 x0_30 x0_31 x0_32 x0_36 x0_39 x0_40 x0_44 x0_49 x0_51 x0_53 x0_54 x0_55 x0_56 x0_57 x0_58 x0_59 x0_60 x0_61 x0_62 y1 y2 y3 y4 y5 y6 y7 y8 y9 y10 y11 y12 y13 y14 y15 y16 y17 y18 y19 y20 y21 y22 y23 y24 y25) := hD
          exact W.vret hx hb hr (fun t ht hW => ⟨⟨(), rfl, trivial, ⟨v2, v4, v6, v34, (1 : Int32), Rv2, Rv4, Rv6, (by omega), (by decide), (show (v34.toInt < 0 → (1 : Int) = 1) ∧ (0 < v34.toInt → (1 : Int) = 0) from by omega), by show va_P D classes _ t.heap; rw [ht]; exact hP, hD⟩⟩, hS.F ht⟩) hS.2.2 d_X_take_163
  · have gc9 : v8.toInt = (1 : Int) := c_eq c9
    have R42 : 1 ≤ v8.toInt ∧ v8.toInt ≤ 1 := rf_eqX Rv8 (show 1 ≤ (1 : Int) ∧ (1 : Int) ≤ 1 from by decide) gc9 (by decide) (by decide)
    refine lv_iload_n hx hb d_X_take_60 rfl (lv_at hl 0 rfl) ?_
    refine lv_ineg hx hb d_X_take_61 ?_
    refine lv_topi (fun v43 hv43 => ?_)
    obtain ⟨ev43, Rv43⟩ : v43.toInt = -v7.toInt ∧ ((-4095) ≤ v43.toInt ∧ v43.toInt ≤ 0) := ng3 hv43 Rv7 (by decide) (by decide) (by decide) (by decide)
    refine lv_goto (tgt := 66) hx hb d_X_take_62 (by decide) ?_
    refine va_put (D := D) (ci := 7) (v := .int v43) (ty := .int) (C := "SignMachineModel") (T := F_X) (N := 64) hx hb hk fi_X ft_X ft_X_ok fn_X hown hK.1 hP hD hS 0 rfl rfl 15 (by decide) (hk _ k_1136) (fun _ h9 => h9) rfl (by decide +kernel) rfl rfl (Nat.le_of_ble_eq_true rfl) d_X_take_66 (fun H locs hP hD hS => ?_)
    have hP : va_P D classes (wS50 cI cJ cZ cB p0 p1 p2 p3 p4 p5 p6 p7 p8 p9 p10 p11 p12 p13 p14 p15 p16 p17 p18 p19 p20 p21 p22 p23 p24 p25 x0_4 x0_5 x0_6 x0_7 x0_8 v2 v4 v6 v43 x0_16 x0_17 x0_18 x0_22 x0_23 x0_24 x0_25 x0_26 x0_27 x0_28 x0_29 x0_30 x0_31 x0_32 x0_36 x0_39 x0_40 x0_44 x0_49 x0_51 x0_53 x0_54 x0_55 x0_56 x0_57 x0_58 x0_59 x0_60 x0_61 x0_62 y1 y2 y3 y4 y5 y6 y7 y8 y9 y10 y11 y12 y13 y14 y15 y16 y17 y18 y19 y20 y21 y22 y23 y24 y25) H := hP
    have hD : va_D A (wS50 cI cJ cZ cB p0 p1 p2 p3 p4 p5 p6 p7 p8 p9 p10 p11 p12 p13 p14 p15 p16 p17 p18 p19 p20 p21 p22 p23 p24 p25 x0_4 x0_5 x0_6 x0_7 x0_8 v2 v4 v6 v43 x0_16 x0_17 x0_18 x0_22 x0_23 x0_24 x0_25 x0_26 x0_27 x0_28 x0_29 x0_30 x0_31 x0_32 x0_36 x0_39 x0_40 x0_44 x0_49 x0_51 x0_53 x0_54 x0_55 x0_56 x0_57 x0_58 x0_59 x0_60 x0_61 x0_62 y1 y2 y3 y4 y5 y6 y7 y8 y9 y10 y11 y12 y13 y14 y15 y16 y17 y18 y19 y20 y21 y22 y23 y24 y25) := hD
    refine lv_aload_n hx hb d_X_take_69 rfl (lv_at hl 2 rfl) ?_
    refine va_get (D := D) (ci := 7) (v := .int v6) (C := "SignMachineModel") (T := F_X) (N := 64) hx hb hk fi_X hown hK.1 hP 0 rfl rfl 14 (by decide) (hk _ k_1135) (fun _ h9 => h9) rfl d_X_take_70 ?_
    refine lv_i2l (v := (v6 : Int32).toInt64) hx hb d_X_take_73 rfl ?_
    refine lv_topl (fun v44 hv44 => ?_)
    obtain ⟨ev44, Rv44⟩ : v44.toInt = v6.toInt ∧ (0 ≤ v44.toInt ∧ v44.toInt ≤ 63) := il3 hv44 Rv6
    refine lv_lconst (v := 1) hx hb d_X_take_74 (by decide) ?_
    refine lv_ldc2 (v := 6) hx hb hown (hk _ k_1381) d_X_take_75 ?_
    refine vp_callSi (W.runS (As := [.long v44, .long (1 : Int64), .long (6 : Int64)]) (rest := []) ⟨hx, hb, hml, hown, hk⟩ (c_X_isIn l v44 (1 : Int64) (6 : Int64) ) (s_X_isIn hk k_1319 ⟨Nat.le_of_ble_eq_true rfl, Nat.le_of_ble_eq_true rfl⟩) ⟨fun a U g mk q => q, fun U hU hW => ⟨rfl, trivial⟩⟩ rfl rfl hl.1 rfl (lv_room (Nat.le_of_ble_eq_true rfl)) d_X_take_78 ⟨Nat.le_of_ble_eq_true rfl, Nat.le_of_ble_eq_true rfl⟩) (fun rz45 hrz45 => ?_)
    obtain ⟨F0z45, F1z45, F2z45⟩ := hrz45
    have F0z45 : 0 ≤ rz45.toInt ∧ rz45.toInt ≤ 1 := F0z45
    have F1z45 : rz45.toInt = 1 → ((1 : Int) ≤ v44.toInt ∧ v44.toInt ≤ (6 : Int)) := F1z45
    have F2z45 : rz45.toInt = 0 → (v44.toInt < (1 : Int) ∨ (6 : Int) < v44.toInt) := F2z45
    refine lv_if_eq (tgt := 128) hx hb d_X_take_81 (by decide) (fun c46 => ?_) (fun c46 => ?_)
    · have gc46 : rz45.toInt = (0 : Int) := c_eq c46
      have R47 : 0 ≤ rz45.toInt ∧ rz45.toInt ≤ 0 := rf_eqX F0z45 (show 0 ≤ (0 : Int) ∧ (0 : Int) ≤ 0 from by decide) gc46 (by decide) (by decide)
      refine lv_aload_n hx hb d_X_take_128 rfl (lv_at hl 2 rfl) ?_
      refine lv_aload_n hx hb d_X_take_129 rfl (lv_at hl 2 rfl) ?_
      refine va_get (D := D) (ci := 7) (v := .int v43) (C := "SignMachineModel") (T := F_X) (N := 64) hx hb hk fi_X hown hK.1 hP 0 rfl rfl 15 (by decide) (hk _ k_1136) (fun _ h9 => h9) rfl d_X_take_130 ?_
      refine lv_if_ge (tgt := 140) hx hb d_X_take_133 (by decide) (fun c48 => ?_) (fun c48 => ?_)
      · have gc48 : (0 : Int) ≤ v43.toInt := c_le c48
        have R49 : 0 ≤ v43.toInt ∧ v43.toInt ≤ 0 := rf_geX Rv43 (show 0 ≤ (0 : Int) ∧ (0 : Int) ≤ 0 from by decide) gc48 (by decide) (by decide)
        refine lv_aload_n hx hb d_X_take_140 rfl (lv_at hl 2 rfl) ?_
        refine va_get (D := D) (ci := 7) (v := .int v43) (C := "SignMachineModel") (T := F_X) (N := 64) hx hb hk fi_X hown hK.1 hP 0 rfl rfl 15 (by decide) (hk _ k_1136) (fun _ h9 => h9) rfl d_X_take_141 ?_
        refine lv_if_le (tgt := 151) hx hb d_X_take_144 (by decide) (fun c50 => ?_) (fun c50 => absurd (show v43 ≤ (0 : Int32) from (Int32.le_iff_toInt_le.mpr (kle R49 (show 0 ≤ (0 : Int) ∧ (0 : Int) ≤ 0 from by decide) (by decide)))) c50)
        refine lv_aload_n hx hb d_X_take_151 rfl (lv_at hl 2 rfl) ?_
        refine va_get (D := D) (ci := 7) (v := .ref p1) (C := "SignMachineModel") (T := F_X) (N := 64) hx hb hk fi_X hown hK.1 hP 0 rfl rfl 0 (by decide) (hk _ k_1121) (fun _ h9 => h9) rfl d_X_take_152 ?_
        refine lv_aload_n hx hb d_X_take_155 rfl (lv_at hl 2 rfl) ?_
        refine va_get (D := D) (ci := 7) (v := .int x0_4) (C := "SignMachineModel") (T := F_X) (N := 64) hx hb hk fi_X hown hK.1 hP 0 rfl rfl 4 (by decide) (hk _ k_1125) (fun _ h9 => h9) rfl d_X_take_156 ?_
        refine va_iald hx hb hK.1 hP 1 0 rfl rfl (by rw [vp_in_iff]; omega) d_X_take_159 ?_
        refine lv_topi (fun v51 hv51 => ?_)
        have Rv51 := Ay1 (x0_4).toNatClampNeg
        rw [← hv51] at Rv51
        refine va_put (D := D) (ci := 7) (v := .int v51) (ty := .int) (C := "SignMachineModel") (T := F_X) (N := 64) hx hb hk fi_X ft_X ft_X_ok fn_X hown hK.1 hP hD hS 0 rfl rfl 16 (by decide) (hk _ k_1137) (fun _ h9 => h9) rfl (by decide +kernel) rfl rfl (Nat.le_of_ble_eq_true rfl) d_X_take_160 (fun H locs hP hD hS => ?_)
        have hP : va_P D classes (wS50 cI cJ cZ cB p0 p1 p2 p3 p4 p5 p6 p7 p8 p9 p10 p11 p12 p13 p14 p15 p16 p17 p18 p19 p20 p21 p22 p23 p24 p25 x0_4 x0_5 x0_6 x0_7 x0_8 v2 v4 v6 v43 v51 x0_17 x0_18 x0_22 x0_23 x0_24 x0_25 x0_26 x0_27 x0_28 x0_29 x0_30 x0_31 x0_32 x0_36 x0_39 x0_40 x0_44 x0_49 x0_51 x0_53 x0_54 x0_55 x0_56 x0_57 x0_58 x0_59 x0_60 x0_61 x0_62 y1 y2 y3 y4 y5 y6 y7 y8 y9 y10 y11 y12 y13 y14 y15 y16 y17 y18 y19 y20 y21 y22 y23 y24 y25) H := hP
        have hD : va_D A (wS50 cI cJ cZ cB p0 p1 p2 p3 p4 p5 p6 p7 p8 p9 p10 p11 p12 p13 p14 p15 p16 p17 p18 p19 p20 p21 p22 p23 p24 p25 x0_4 x0_5 x0_6 x0_7 x0_8 v2 v4 v6 v43 v51 x0_17 x0_18 x0_22 x0_23 x0_24 x0_25 x0_26 x0_27 x0_28 x0_29 x0_30 x0_31 x0_32 x0_36 x0_39 x0_40 x0_44 x0_49 x0_51 x0_53 x0_54 x0_55 x0_56 x0_57 x0_58 x0_59 x0_60 x0_61 x0_62 y1 y2 y3 y4 y5 y6 y7 y8 y9 y10 y11 y12 y13 y14 y15 y16 y17 y18 y19 y20 y21 y22 y23 y24 y25) := hD
        exact W.vret hx hb hr (fun t ht hW => ⟨⟨(), rfl, trivial, ⟨v2, v4, v6, v43, v51, Rv2, Rv4, Rv6, (rgw R49 (by decide) (by decide)), Rv51, (show (v43.toInt < 0 → v51.toInt = 1) ∧ (0 < v43.toInt → v51.toInt = 0) from by omega), by show va_P D classes _ t.heap; rw [ht]; exact hP, hD⟩⟩, hS.F ht⟩) hS.2.2 d_X_take_163
      · have gc48 : v43.toInt < (0 : Int) := c_nle c48
        have R52 : (-4095) ≤ v43.toInt ∧ v43.toInt ≤ (-1) := rf_ltX Rv43 (show 0 ≤ (0 : Int) ∧ (0 : Int) ≤ 0 from by decide) gc48 (by decide) (by decide)
        refine lv_iconst (v := 1) hx hb d_X_take_136 (by decide) ?_
        refine lv_goto (tgt := 160) hx hb d_X_take_137 (by decide) ?_
        refine va_put (D := D) (ci := 7) (v := .int (1 : Int32)) (ty := .int) (C := "SignMachineModel") (T := F_X) (N := 64) hx hb hk fi_X ft_X ft_X_ok fn_X hown hK.1 hP hD hS 0 rfl rfl 16 (by decide) (hk _ k_1137) (fun _ h9 => h9) rfl (by decide +kernel) rfl rfl (Nat.le_of_ble_eq_true rfl) d_X_take_160 (fun H locs hP hD hS => ?_)
        have hP : va_P D classes (wS50 cI cJ cZ cB p0 p1 p2 p3 p4 p5 p6 p7 p8 p9 p10 p11 p12 p13 p14 p15 p16 p17 p18 p19 p20 p21 p22 p23 p24 p25 x0_4 x0_5 x0_6 x0_7 x0_8 v2 v4 v6 v43 (1 : Int32) x0_17 x0_18 x0_22 x0_23 x0_24 x0_25 x0_26 x0_27 x0_28 x0_29 x0_30 x0_31 x0_32 x0_36 x0_39 x0_40 x0_44 x0_49 x0_51 x0_53 x0_54 x0_55 x0_56 x0_57 x0_58 x0_59 x0_60 x0_61 x0_62 y1 y2 y3 y4 y5 y6 y7 y8 y9 y10 y11 y12 y13 y14 y15 y16 y17 y18 y19 y20 y21 y22 y23 y24 y25) H := hP
        have hD : va_D A (wS50 cI cJ cZ cB p0 p1 p2 p3 p4 p5 p6 p7 p8 p9 p10 p11 p12 p13 p14 p15 p16 p17 p18 p19 p20 p21 p22 p23 p24 p25 x0_4 x0_5 x0_6 x0_7 x0_8 v2 v4 v6 v43 (1 : Int32) x0_17 x0_18 x0_22 x0_23 x0_24 x0_25 x0_26 x0_27 x0_28 x0_29 x0_30 x0_31 x0_32 x0_36 x0_39 x0_40 x0_44 x0_49 x0_51 x0_53 x0_54 x0_55 x0_56 x0_57 x0_58 x0_59 x0_60 x0_61 x0_62 y1 y2 y3 y4 y5 y6 y7 y8 y9 y10 y11 y12 y13 y14 y15 y16 y17 y18 y19 y20 y21 y22 y23 y24 y25) := hD
        exact W.vret hx hb hr (fun t ht hW => ⟨⟨(), rfl, trivial, ⟨v2, v4, v6, v43, (1 : Int32), Rv2, Rv4, Rv6, (rgw R52 (by decide) (by decide)), (by decide), (show (v43.toInt < 0 → (1 : Int) = 1) ∧ (0 < v43.toInt → (1 : Int) = 0) from by omega), by show va_P D classes _ t.heap; rw [ht]; exact hP, hD⟩⟩, hS.F ht⟩) hS.2.2 d_X_take_163
    · have gc46 : rz45.toInt ≠ (0 : Int) := c_ne c46
      have R53 : 1 ≤ rz45.toInt ∧ rz45.toInt ≤ 1 := rf_neX F0z45 (show 0 ≤ (0 : Int) ∧ (0 : Int) ≤ 0 from by decide) gc46 (by decide) (by decide)
      refine lv_aload_n hx hb d_X_take_84 rfl (lv_at hl 2 rfl) ?_
      refine lv_dup hx hb d_X_take_85 rfl ?_
      refine va_get (D := D) (ci := 7) (v := .int v43) (C := "SignMachineModel") (T := F_X) (N := 64) hx hb hk fi_X hown hK.1 hP 0 rfl rfl 15 (by decide) (hk _ k_1136) (fun _ h9 => h9) rfl d_X_take_86 ?_
      refine lv_aload_n hx hb d_X_take_89 rfl (lv_at hl 2 rfl) ?_
      refine va_get (D := D) (ci := 7) (v := .ref p3) (C := "SignMachineModel") (T := F_X) (N := 64) hx hb hk fi_X hown hK.1 hP 0 rfl rfl 2 (by decide) (hk _ k_1123) (fun _ h9 => h9) rfl d_X_take_90 ?_
      refine lv_aload_n hx hb d_X_take_93 rfl (lv_at hl 2 rfl) ?_
      refine va_get (D := D) (ci := 7) (v := .int v6) (C := "SignMachineModel") (T := F_X) (N := 64) hx hb hk fi_X hown hK.1 hP 0 rfl rfl 14 (by decide) (hk _ k_1135) (fun _ h9 => h9) rfl d_X_take_94 ?_
      refine va_iald hx hb hK.1 hP 3 0 rfl rfl (by rw [vp_in_iff]; omega) d_X_take_97 ?_
      refine lv_topi (fun v54 hv54 => ?_)
      have Rv54 := Ay3 (v6).toNatClampNeg
      rw [← hv54] at Rv54
      refine lv_iconst (v := 1) hx hb d_X_take_98 (by decide) ?_
      refine lv_icmp_ne (tgt := 115) hx hb d_X_take_99 (by decide) (fun c55 => ?_) (fun c55 => ?_)
      · have gc55 : v54.toInt ≠ (1 : Int) := c_ne c55
        have R56 : 0 ≤ v54.toInt ∧ v54.toInt ≤ 0 := rf_neX Rv54 (show 1 ≤ (1 : Int) ∧ (1 : Int) ≤ 1 from by decide) gc55 (by decide) (by decide)
        refine lv_aload_n hx hb d_X_take_115 rfl (lv_at hl 2 rfl) ?_
        refine va_get (D := D) (ci := 7) (v := .ref p4) (C := "SignMachineModel") (T := F_X) (N := 64) hx hb hk fi_X hown hK.1 hP 0 rfl rfl 3 (by decide) (hk _ k_1124) (fun _ h9 => h9) rfl d_X_take_116 ?_
        refine lv_aload_n hx hb d_X_take_119 rfl (lv_at hl 2 rfl) ?_
        refine va_get (D := D) (ci := 7) (v := .int v6) (C := "SignMachineModel") (T := F_X) (N := 64) hx hb hk fi_X hown hK.1 hP 0 rfl rfl 14 (by decide) (hk _ k_1135) (fun _ h9 => h9) rfl d_X_take_120 ?_
        refine va_iald hx hb hK.1 hP 4 0 rfl rfl (by rw [vp_in_iff]; omega) d_X_take_123 ?_
        refine lv_topi (fun v57 hv57 => ?_)
        have Rv57 := Ay4 (v6).toNatClampNeg
        rw [← hv57] at Rv57
        obtain ⟨Rv57, Xv57⟩ := Rv57
        have : (((v6).toNatClampNeg : Nat) : Int) = v6.toInt := ti_n Rv6 (by decide)
        refine lv_iadd hx hb d_X_take_124 ?_
        refine lv_topi (fun v58 hv58 => ?_)
        obtain ⟨ev58, Rv58⟩ : v58.toInt = v43.toInt + v57.toInt ∧ ((-4095) ≤ v58.toInt ∧ v58.toInt ≤ 1073741823) := ad3 hv58 Rv43 Rv57 (by decide) (by decide) (by decide) (by decide)
        refine va_put (D := D) (ci := 7) (v := .int v58) (ty := .int) (C := "SignMachineModel") (T := F_X) (N := 64) hx hb hk fi_X ft_X ft_X_ok fn_X hown hK.1 hP hD hS 0 rfl rfl 15 (by decide) (hk _ k_1136) (fun _ h9 => h9) rfl (by decide +kernel) rfl rfl (Nat.le_of_ble_eq_true rfl) d_X_take_125 (fun H locs hP hD hS => ?_)
        have hP : va_P D classes (wS50 cI cJ cZ cB p0 p1 p2 p3 p4 p5 p6 p7 p8 p9 p10 p11 p12 p13 p14 p15 p16 p17 p18 p19 p20 p21 p22 p23 p24 p25 x0_4 x0_5 x0_6 x0_7 x0_8 v2 v4 v6 v58 x0_16 x0_17 x0_18 x0_22 x0_23 x0_24 x0_25 x0_26 x0_27 x0_28 x0_29 x0_30 x0_31 x0_32 x0_36 x0_39 x0_40 x0_44 x0_49 x0_51 x0_53 x0_54 x0_55 x0_56 x0_57 x0_58 x0_59 x0_60 x0_61 x0_62 y1 y2 y3 y4 y5 y6 y7 y8 y9 y10 y11 y12 y13 y14 y15 y16 y17 y18 y19 y20 y21 y22 y23 y24 y25) H := hP
        have hD : va_D A (wS50 cI cJ cZ cB p0 p1 p2 p3 p4 p5 p6 p7 p8 p9 p10 p11 p12 p13 p14 p15 p16 p17 p18 p19 p20 p21 p22 p23 p24 p25 x0_4 x0_5 x0_6 x0_7 x0_8 v2 v4 v6 v58 x0_16 x0_17 x0_18 x0_22 x0_23 x0_24 x0_25 x0_26 x0_27 x0_28 x0_29 x0_30 x0_31 x0_32 x0_36 x0_39 x0_40 x0_44 x0_49 x0_51 x0_53 x0_54 x0_55 x0_56 x0_57 x0_58 x0_59 x0_60 x0_61 x0_62 y1 y2 y3 y4 y5 y6 y7 y8 y9 y10 y11 y12 y13 y14 y15 y16 y17 y18 y19 y20 y21 y22 y23 y24 y25) := hD
        refine lv_aload_n hx hb d_X_take_128 rfl (lv_at hl 2 rfl) ?_
        refine lv_aload_n hx hb d_X_take_129 rfl (lv_at hl 2 rfl) ?_
        refine va_get (D := D) (ci := 7) (v := .int v58) (C := "SignMachineModel") (T := F_X) (N := 64) hx hb hk fi_X hown hK.1 hP 0 rfl rfl 15 (by decide) (hk _ k_1136) (fun _ h9 => h9) rfl d_X_take_130 ?_
        refine lv_if_ge (tgt := 140) hx hb d_X_take_133 (by decide) (fun c59 => ?_) (fun c59 => ?_)
        · have gc59 : (0 : Int) ≤ v58.toInt := c_le c59
          have R60 : 0 ≤ v58.toInt ∧ v58.toInt ≤ 1073741823 := rf_geX Rv58 (show 0 ≤ (0 : Int) ∧ (0 : Int) ≤ 0 from by decide) gc59 (by decide) (by decide)
          refine lv_aload_n hx hb d_X_take_140 rfl (lv_at hl 2 rfl) ?_
          refine va_get (D := D) (ci := 7) (v := .int v58) (C := "SignMachineModel") (T := F_X) (N := 64) hx hb hk fi_X hown hK.1 hP 0 rfl rfl 15 (by decide) (hk _ k_1136) (fun _ h9 => h9) rfl d_X_take_141 ?_
          refine lv_if_le (tgt := 151) hx hb d_X_take_144 (by decide) (fun c61 => ?_) (fun c61 => ?_)
          · have gc61 : v58.toInt ≤ (0 : Int) := c_le c61
            have R62 : 0 ≤ v58.toInt ∧ v58.toInt ≤ 0 := rf_leX R60 (show 0 ≤ (0 : Int) ∧ (0 : Int) ≤ 0 from by decide) gc61 (by decide) (by decide)
            refine lv_aload_n hx hb d_X_take_151 rfl (lv_at hl 2 rfl) ?_
            refine va_get (D := D) (ci := 7) (v := .ref p1) (C := "SignMachineModel") (T := F_X) (N := 64) hx hb hk fi_X hown hK.1 hP 0 rfl rfl 0 (by decide) (hk _ k_1121) (fun _ h9 => h9) rfl d_X_take_152 ?_
            refine lv_aload_n hx hb d_X_take_155 rfl (lv_at hl 2 rfl) ?_
            refine va_get (D := D) (ci := 7) (v := .int x0_4) (C := "SignMachineModel") (T := F_X) (N := 64) hx hb hk fi_X hown hK.1 hP 0 rfl rfl 4 (by decide) (hk _ k_1125) (fun _ h9 => h9) rfl d_X_take_156 ?_
            refine va_iald hx hb hK.1 hP 1 0 rfl rfl (by rw [vp_in_iff]; omega) d_X_take_159 ?_
            refine lv_topi (fun v63 hv63 => ?_)
            have Rv63 := Ay1 (x0_4).toNatClampNeg
            rw [← hv63] at Rv63
            refine va_put (D := D) (ci := 7) (v := .int v63) (ty := .int) (C := "SignMachineModel") (T := F_X) (N := 64) hx hb hk fi_X ft_X ft_X_ok fn_X hown hK.1 hP hD hS 0 rfl rfl 16 (by decide) (hk _ k_1137) (fun _ h9 => h9) rfl (by decide +kernel) rfl rfl (Nat.le_of_ble_eq_true rfl) d_X_take_160 (fun H locs hP hD hS => ?_)
            have hP : va_P D classes (wS50 cI cJ cZ cB p0 p1 p2 p3 p4 p5 p6 p7 p8 p9 p10 p11 p12 p13 p14 p15 p16 p17 p18 p19 p20 p21 p22 p23 p24 p25 x0_4 x0_5 x0_6 x0_7 x0_8 v2 v4 v6 v58 v63 x0_17 x0_18 x0_22 x0_23 x0_24 x0_25 x0_26 x0_27 x0_28 x0_29 x0_30 x0_31 x0_32 x0_36 x0_39 x0_40 x0_44 x0_49 x0_51 x0_53 x0_54 x0_55 x0_56 x0_57 x0_58 x0_59 x0_60 x0_61 x0_62 y1 y2 y3 y4 y5 y6 y7 y8 y9 y10 y11 y12 y13 y14 y15 y16 y17 y18 y19 y20 y21 y22 y23 y24 y25) H := hP
            have hD : va_D A (wS50 cI cJ cZ cB p0 p1 p2 p3 p4 p5 p6 p7 p8 p9 p10 p11 p12 p13 p14 p15 p16 p17 p18 p19 p20 p21 p22 p23 p24 p25 x0_4 x0_5 x0_6 x0_7 x0_8 v2 v4 v6 v58 v63 x0_17 x0_18 x0_22 x0_23 x0_24 x0_25 x0_26 x0_27 x0_28 x0_29 x0_30 x0_31 x0_32 x0_36 x0_39 x0_40 x0_44 x0_49 x0_51 x0_53 x0_54 x0_55 x0_56 x0_57 x0_58 x0_59 x0_60 x0_61 x0_62 y1 y2 y3 y4 y5 y6 y7 y8 y9 y10 y11 y12 y13 y14 y15 y16 y17 y18 y19 y20 y21 y22 y23 y24 y25) := hD
            exact W.vret hx hb hr (fun t ht hW => ⟨⟨(), rfl, trivial, ⟨v2, v4, v6, v58, v63, Rv2, Rv4, Rv6, (rgw R62 (by decide) (by decide)), Rv63, (show (v58.toInt < 0 → v63.toInt = 1) ∧ (0 < v58.toInt → v63.toInt = 0) from by omega), by show va_P D classes _ t.heap; rw [ht]; exact hP, hD⟩⟩, hS.F ht⟩) hS.2.2 d_X_take_163
          · have gc61 : (0 : Int) < v58.toInt := c_nle c61
            have R64 : 1 ≤ v58.toInt ∧ v58.toInt ≤ 1073741823 := rf_gtX R60 (show 0 ≤ (0 : Int) ∧ (0 : Int) ≤ 0 from by decide) gc61 (by decide) (by decide)
            refine lv_iconst (v := 0) hx hb d_X_take_147 (by decide) ?_
            refine lv_goto (tgt := 160) hx hb d_X_take_148 (by decide) ?_
            refine va_put (D := D) (ci := 7) (v := .int (0 : Int32)) (ty := .int) (C := "SignMachineModel") (T := F_X) (N := 64) hx hb hk fi_X ft_X ft_X_ok fn_X hown hK.1 hP hD hS 0 rfl rfl 16 (by decide) (hk _ k_1137) (fun _ h9 => h9) rfl (by decide +kernel) rfl rfl (Nat.le_of_ble_eq_true rfl) d_X_take_160 (fun H locs hP hD hS => ?_)
            have hP : va_P D classes (wS50 cI cJ cZ cB p0 p1 p2 p3 p4 p5 p6 p7 p8 p9 p10 p11 p12 p13 p14 p15 p16 p17 p18 p19 p20 p21 p22 p23 p24 p25 x0_4 x0_5 x0_6 x0_7 x0_8 v2 v4 v6 v58 (0 : Int32) x0_17 x0_18 x0_22 x0_23 x0_24 x0_25 x0_26 x0_27 x0_28 x0_29 x0_30 x0_31 x0_32 x0_36 x0_39 x0_40 x0_44 x0_49 x0_51 x0_53 x0_54 x0_55 x0_56 x0_57 x0_58 x0_59 x0_60 x0_61 x0_62 y1 y2 y3 y4 y5 y6 y7 y8 y9 y10 y11 y12 y13 y14 y15 y16 y17 y18 y19 y20 y21 y22 y23 y24 y25) H := hP
            have hD : va_D A (wS50 cI cJ cZ cB p0 p1 p2 p3 p4 p5 p6 p7 p8 p9 p10 p11 p12 p13 p14 p15 p16 p17 p18 p19 p20 p21 p22 p23 p24 p25 x0_4 x0_5 x0_6 x0_7 x0_8 v2 v4 v6 v58 (0 : Int32) x0_17 x0_18 x0_22 x0_23 x0_24 x0_25 x0_26 x0_27 x0_28 x0_29 x0_30 x0_31 x0_32 x0_36 x0_39 x0_40 x0_44 x0_49 x0_51 x0_53 x0_54 x0_55 x0_56 x0_57 x0_58 x0_59 x0_60 x0_61 x0_62 y1 y2 y3 y4 y5 y6 y7 y8 y9 y10 y11 y12 y13 y14 y15 y16 y17 y18 y19 y20 y21 y22 y23 y24 y25) := hD
            exact W.vret hx hb hr (fun t ht hW => ⟨⟨(), rfl, trivial, ⟨v2, v4, v6, v58, (0 : Int32), Rv2, Rv4, Rv6, (by omega), (by decide), (show (v58.toInt < 0 → (0 : Int) = 1) ∧ (0 < v58.toInt → (0 : Int) = 0) from by omega), by show va_P D classes _ t.heap; rw [ht]; exact hP, hD⟩⟩, hS.F ht⟩) hS.2.2 d_X_take_163
        · have gc59 : v58.toInt < (0 : Int) := c_nle c59
          have R65 : (-4095) ≤ v58.toInt ∧ v58.toInt ≤ (-1) := rf_ltX Rv58 (show 0 ≤ (0 : Int) ∧ (0 : Int) ≤ 0 from by decide) gc59 (by decide) (by decide)
          refine lv_iconst (v := 1) hx hb d_X_take_136 (by decide) ?_
          refine lv_goto (tgt := 160) hx hb d_X_take_137 (by decide) ?_
          refine va_put (D := D) (ci := 7) (v := .int (1 : Int32)) (ty := .int) (C := "SignMachineModel") (T := F_X) (N := 64) hx hb hk fi_X ft_X ft_X_ok fn_X hown hK.1 hP hD hS 0 rfl rfl 16 (by decide) (hk _ k_1137) (fun _ h9 => h9) rfl (by decide +kernel) rfl rfl (Nat.le_of_ble_eq_true rfl) d_X_take_160 (fun H locs hP hD hS => ?_)
          have hP : va_P D classes (wS50 cI cJ cZ cB p0 p1 p2 p3 p4 p5 p6 p7 p8 p9 p10 p11 p12 p13 p14 p15 p16 p17 p18 p19 p20 p21 p22 p23 p24 p25 x0_4 x0_5 x0_6 x0_7 x0_8 v2 v4 v6 v58 (1 : Int32) x0_17 x0_18 x0_22 x0_23 x0_24 x0_25 x0_26 x0_27 x0_28 x0_29 x0_30 x0_31 x0_32 x0_36 x0_39 x0_40 x0_44 x0_49 x0_51 x0_53 x0_54 x0_55 x0_56 x0_57 x0_58 x0_59 x0_60 x0_61 x0_62 y1 y2 y3 y4 y5 y6 y7 y8 y9 y10 y11 y12 y13 y14 y15 y16 y17 y18 y19 y20 y21 y22 y23 y24 y25) H := hP
          have hD : va_D A (wS50 cI cJ cZ cB p0 p1 p2 p3 p4 p5 p6 p7 p8 p9 p10 p11 p12 p13 p14 p15 p16 p17 p18 p19 p20 p21 p22 p23 p24 p25 x0_4 x0_5 x0_6 x0_7 x0_8 v2 v4 v6 v58 (1 : Int32) x0_17 x0_18 x0_22 x0_23 x0_24 x0_25 x0_26 x0_27 x0_28 x0_29 x0_30 x0_31 x0_32 x0_36 x0_39 x0_40 x0_44 x0_49 x0_51 x0_53 x0_54 x0_55 x0_56 x0_57 x0_58 x0_59 x0_60 x0_61 x0_62 y1 y2 y3 y4 y5 y6 y7 y8 y9 y10 y11 y12 y13 y14 y15 y16 y17 y18 y19 y20 y21 y22 y23 y24 y25) := hD
          exact W.vret hx hb hr (fun t ht hW => ⟨⟨(), rfl, trivial, ⟨v2, v4, v6, v58, (1 : Int32), Rv2, Rv4, Rv6, (rgw R65 (by decide) (by decide)), (by decide), (show (v58.toInt < 0 → (1 : Int) = 1) ∧ (0 < v58.toInt → (1 : Int) = 0) from by omega), by show va_P D classes _ t.heap; rw [ht]; exact hP, hD⟩⟩, hS.F ht⟩) hS.2.2 d_X_take_163
      · have gc55 : v54.toInt = (1 : Int) := c_eq c55
        have R66 : 1 ≤ v54.toInt ∧ v54.toInt ≤ 1 := rf_eqX Rv54 (show 1 ≤ (1 : Int) ∧ (1 : Int) ≤ 1 from by decide) gc55 (by decide) (by decide)
        refine lv_aload_n hx hb d_X_take_102 rfl (lv_at hl 2 rfl) ?_
        refine va_get (D := D) (ci := 7) (v := .ref p4) (C := "SignMachineModel") (T := F_X) (N := 64) hx hb hk fi_X hown hK.1 hP 0 rfl rfl 3 (by decide) (hk _ k_1124) (fun _ h9 => h9) rfl d_X_take_103 ?_
        refine lv_aload_n hx hb d_X_take_106 rfl (lv_at hl 2 rfl) ?_
        refine va_get (D := D) (ci := 7) (v := .int v6) (C := "SignMachineModel") (T := F_X) (N := 64) hx hb hk fi_X hown hK.1 hP 0 rfl rfl 14 (by decide) (hk _ k_1135) (fun _ h9 => h9) rfl d_X_take_107 ?_
        refine va_iald hx hb hK.1 hP 4 0 rfl rfl (by rw [vp_in_iff]; omega) d_X_take_110 ?_
        refine lv_topi (fun v67 hv67 => ?_)
        have Rv67 := Ay4 (v6).toNatClampNeg
        rw [← hv67] at Rv67
        obtain ⟨Rv67, Xv67⟩ := Rv67
        have : (((v6).toNatClampNeg : Nat) : Int) = v6.toInt := ti_n Rv6 (by decide)
        refine lv_ineg hx hb d_X_take_111 ?_
        refine lv_topi (fun v68 hv68 => ?_)
        obtain ⟨ev68, Rv68⟩ : v68.toInt = -v67.toInt ∧ ((-1073741823) ≤ v68.toInt ∧ v68.toInt ≤ 0) := ng3 hv68 Rv67 (by decide) (by decide) (by decide) (by decide)
        refine lv_goto (tgt := 124) hx hb d_X_take_112 (by decide) ?_
        refine lv_iadd hx hb d_X_take_124 ?_
        refine lv_topi (fun v69 hv69 => ?_)
        obtain ⟨ev69, Rv69⟩ : v69.toInt = v43.toInt + v68.toInt ∧ ((-1073745918) ≤ v69.toInt ∧ v69.toInt ≤ 0) := ad3 hv69 Rv43 Rv68 (by decide) (by decide) (by decide) (by decide)
        refine va_put (D := D) (ci := 7) (v := .int v69) (ty := .int) (C := "SignMachineModel") (T := F_X) (N := 64) hx hb hk fi_X ft_X ft_X_ok fn_X hown hK.1 hP hD hS 0 rfl rfl 15 (by decide) (hk _ k_1136) (fun _ h9 => h9) rfl (by decide +kernel) rfl rfl (Nat.le_of_ble_eq_true rfl) d_X_take_125 (fun H locs hP hD hS => ?_)
        have hP : va_P D classes (wS50 cI cJ cZ cB p0 p1 p2 p3 p4 p5 p6 p7 p8 p9 p10 p11 p12 p13 p14 p15 p16 p17 p18 p19 p20 p21 p22 p23 p24 p25 x0_4 x0_5 x0_6 x0_7 x0_8 v2 v4 v6 v69 x0_16 x0_17 x0_18 x0_22 x0_23 x0_24 x0_25 x0_26 x0_27 x0_28 x0_29 x0_30 x0_31 x0_32 x0_36 x0_39 x0_40 x0_44 x0_49 x0_51 x0_53 x0_54 x0_55 x0_56 x0_57 x0_58 x0_59 x0_60 x0_61 x0_62 y1 y2 y3 y4 y5 y6 y7 y8 y9 y10 y11 y12 y13 y14 y15 y16 y17 y18 y19 y20 y21 y22 y23 y24 y25) H := hP
        have hD : va_D A (wS50 cI cJ cZ cB p0 p1 p2 p3 p4 p5 p6 p7 p8 p9 p10 p11 p12 p13 p14 p15 p16 p17 p18 p19 p20 p21 p22 p23 p24 p25 x0_4 x0_5 x0_6 x0_7 x0_8 v2 v4 v6 v69 x0_16 x0_17 x0_18 x0_22 x0_23 x0_24 x0_25 x0_26 x0_27 x0_28 x0_29 x0_30 x0_31 x0_32 x0_36 x0_39 x0_40 x0_44 x0_49 x0_51 x0_53 x0_54 x0_55 x0_56 x0_57 x0_58 x0_59 x0_60 x0_61 x0_62 y1 y2 y3 y4 y5 y6 y7 y8 y9 y10 y11 y12 y13 y14 y15 y16 y17 y18 y19 y20 y21 y22 y23 y24 y25) := hD
        refine lv_aload_n hx hb d_X_take_128 rfl (lv_at hl 2 rfl) ?_
        refine lv_aload_n hx hb d_X_take_129 rfl (lv_at hl 2 rfl) ?_
        refine va_get (D := D) (ci := 7) (v := .int v69) (C := "SignMachineModel") (T := F_X) (N := 64) hx hb hk fi_X hown hK.1 hP 0 rfl rfl 15 (by decide) (hk _ k_1136) (fun _ h9 => h9) rfl d_X_take_130 ?_
        refine lv_if_ge (tgt := 140) hx hb d_X_take_133 (by decide) (fun c70 => ?_) (fun c70 => ?_)
        · have gc70 : (0 : Int) ≤ v69.toInt := c_le c70
          have R71 : 0 ≤ v69.toInt ∧ v69.toInt ≤ 0 := rf_geX Rv69 (show 0 ≤ (0 : Int) ∧ (0 : Int) ≤ 0 from by decide) gc70 (by decide) (by decide)
          refine lv_aload_n hx hb d_X_take_140 rfl (lv_at hl 2 rfl) ?_
          refine va_get (D := D) (ci := 7) (v := .int v69) (C := "SignMachineModel") (T := F_X) (N := 64) hx hb hk fi_X hown hK.1 hP 0 rfl rfl 15 (by decide) (hk _ k_1136) (fun _ h9 => h9) rfl d_X_take_141 ?_
          refine lv_if_le (tgt := 151) hx hb d_X_take_144 (by decide) (fun c72 => ?_) (fun c72 => absurd (show v69 ≤ (0 : Int32) from (Int32.le_iff_toInt_le.mpr (kle R71 (show 0 ≤ (0 : Int) ∧ (0 : Int) ≤ 0 from by decide) (by decide)))) c72)
          refine lv_aload_n hx hb d_X_take_151 rfl (lv_at hl 2 rfl) ?_
          refine va_get (D := D) (ci := 7) (v := .ref p1) (C := "SignMachineModel") (T := F_X) (N := 64) hx hb hk fi_X hown hK.1 hP 0 rfl rfl 0 (by decide) (hk _ k_1121) (fun _ h9 => h9) rfl d_X_take_152 ?_
          refine lv_aload_n hx hb d_X_take_155 rfl (lv_at hl 2 rfl) ?_
          refine va_get (D := D) (ci := 7) (v := .int x0_4) (C := "SignMachineModel") (T := F_X) (N := 64) hx hb hk fi_X hown hK.1 hP 0 rfl rfl 4 (by decide) (hk _ k_1125) (fun _ h9 => h9) rfl d_X_take_156 ?_
          refine va_iald hx hb hK.1 hP 1 0 rfl rfl (by rw [vp_in_iff]; omega) d_X_take_159 ?_
          refine lv_topi (fun v73 hv73 => ?_)
          have Rv73 := Ay1 (x0_4).toNatClampNeg
          rw [← hv73] at Rv73
          refine va_put (D := D) (ci := 7) (v := .int v73) (ty := .int) (C := "SignMachineModel") (T := F_X) (N := 64) hx hb hk fi_X ft_X ft_X_ok fn_X hown hK.1 hP hD hS 0 rfl rfl 16 (by decide) (hk _ k_1137) (fun _ h9 => h9) rfl (by decide +kernel) rfl rfl (Nat.le_of_ble_eq_true rfl) d_X_take_160 (fun H locs hP hD hS => ?_)
          have hP : va_P D classes (wS50 cI cJ cZ cB p0 p1 p2 p3 p4 p5 p6 p7 p8 p9 p10 p11 p12 p13 p14 p15 p16 p17 p18 p19 p20 p21 p22 p23 p24 p25 x0_4 x0_5 x0_6 x0_7 x0_8 v2 v4 v6 v69 v73 x0_17 x0_18 x0_22 x0_23 x0_24 x0_25 x0_26 x0_27 x0_28 x0_29 x0_30 x0_31 x0_32 x0_36 x0_39 x0_40 x0_44 x0_49 x0_51 x0_53 x0_54 x0_55 x0_56 x0_57 x0_58 x0_59 x0_60 x0_61 x0_62 y1 y2 y3 y4 y5 y6 y7 y8 y9 y10 y11 y12 y13 y14 y15 y16 y17 y18 y19 y20 y21 y22 y23 y24 y25) H := hP
          have hD : va_D A (wS50 cI cJ cZ cB p0 p1 p2 p3 p4 p5 p6 p7 p8 p9 p10 p11 p12 p13 p14 p15 p16 p17 p18 p19 p20 p21 p22 p23 p24 p25 x0_4 x0_5 x0_6 x0_7 x0_8 v2 v4 v6 v69 v73 x0_17 x0_18 x0_22 x0_23 x0_24 x0_25 x0_26 x0_27 x0_28 x0_29 x0_30 x0_31 x0_32 x0_36 x0_39 x0_40 x0_44 x0_49 x0_51 x0_53 x0_54 x0_55 x0_56 x0_57 x0_58 x0_59 x0_60 x0_61 x0_62 y1 y2 y3 y4 y5 y6 y7 y8 y9 y10 y11 y12 y13 y14 y15 y16 y17 y18 y19 y20 y21 y22 y23 y24 y25) := hD
          exact W.vret hx hb hr (fun t ht hW => ⟨⟨(), rfl, trivial, ⟨v2, v4, v6, v69, v73, Rv2, Rv4, Rv6, (rgw R71 (by decide) (by decide)), Rv73, (show (v69.toInt < 0 → v73.toInt = 1) ∧ (0 < v69.toInt → v73.toInt = 0) from by omega), by show va_P D classes _ t.heap; rw [ht]; exact hP, hD⟩⟩, hS.F ht⟩) hS.2.2 d_X_take_163
        · have gc70 : v69.toInt < (0 : Int) := c_nle c70
          have R74 : (-1073745918) ≤ v69.toInt ∧ v69.toInt ≤ (-1) := rf_ltX Rv69 (show 0 ≤ (0 : Int) ∧ (0 : Int) ≤ 0 from by decide) gc70 (by decide) (by decide)
          refine lv_iconst (v := 1) hx hb d_X_take_136 (by decide) ?_
          refine lv_goto (tgt := 160) hx hb d_X_take_137 (by decide) ?_
          refine va_put (D := D) (ci := 7) (v := .int (1 : Int32)) (ty := .int) (C := "SignMachineModel") (T := F_X) (N := 64) hx hb hk fi_X ft_X ft_X_ok fn_X hown hK.1 hP hD hS 0 rfl rfl 16 (by decide) (hk _ k_1137) (fun _ h9 => h9) rfl (by decide +kernel) rfl rfl (Nat.le_of_ble_eq_true rfl) d_X_take_160 (fun H locs hP hD hS => ?_)
          have hP : va_P D classes (wS50 cI cJ cZ cB p0 p1 p2 p3 p4 p5 p6 p7 p8 p9 p10 p11 p12 p13 p14 p15 p16 p17 p18 p19 p20 p21 p22 p23 p24 p25 x0_4 x0_5 x0_6 x0_7 x0_8 v2 v4 v6 v69 (1 : Int32) x0_17 x0_18 x0_22 x0_23 x0_24 x0_25 x0_26 x0_27 x0_28 x0_29 x0_30 x0_31 x0_32 x0_36 x0_39 x0_40 x0_44 x0_49 x0_51 x0_53 x0_54 x0_55 x0_56 x0_57 x0_58 x0_59 x0_60 x0_61 x0_62 y1 y2 y3 y4 y5 y6 y7 y8 y9 y10 y11 y12 y13 y14 y15 y16 y17 y18 y19 y20 y21 y22 y23 y24 y25) H := hP
          have hD : va_D A (wS50 cI cJ cZ cB p0 p1 p2 p3 p4 p5 p6 p7 p8 p9 p10 p11 p12 p13 p14 p15 p16 p17 p18 p19 p20 p21 p22 p23 p24 p25 x0_4 x0_5 x0_6 x0_7 x0_8 v2 v4 v6 v69 (1 : Int32) x0_17 x0_18 x0_22 x0_23 x0_24 x0_25 x0_26 x0_27 x0_28 x0_29 x0_30 x0_31 x0_32 x0_36 x0_39 x0_40 x0_44 x0_49 x0_51 x0_53 x0_54 x0_55 x0_56 x0_57 x0_58 x0_59 x0_60 x0_61 x0_62 y1 y2 y3 y4 y5 y6 y7 y8 y9 y10 y11 y12 y13 y14 y15 y16 y17 y18 y19 y20 y21 y22 y23 y24 y25) := hD
          exact W.vret hx hb hr (fun t ht hW => ⟨⟨(), rfl, trivial, ⟨v2, v4, v6, v69, (1 : Int32), Rv2, Rv4, Rv6, (by omega), (by decide), (show (v69.toInt < 0 → (1 : Int) = 1) ∧ (0 < v69.toInt → (1 : Int) = 0) from by omega), by show va_P D classes _ t.heap; rw [ht]; exact hP, hD⟩⟩, hS.F ht⟩) hS.2.2 d_X_take_163
theorem v_X_take {R : Room} {s : State} {args : Array Value} {own : String} {index : Nat} (hk : ∀ w ∈ tb, w.before args s = true) (hl : Cond.methodLink own index y_X_take ∈ tb) (hR : 1 + 1 ≤ R.frames ∧ 8 + (3 + 11) + 25 ≤ R.locals) : CallW R s args own "SignMachineModel" index y_X_take b_X_take 3 none (.code y_X_take b_X_take 3 none :: tb) ({ frames := 1, cells := 0, slots := 0, locals := 25 }) 0 0 0 := mk_v 0 hk k_1379 hl k_1378 k_62 k_119 rfl rfl h_X_take hR

set_option maxHeartbeats 8000000 in
set_option maxRecDepth 100000 in
theorem c_X_shift (l : Launch) (D : va_G) (cI cJ cZ cB : ClassId) (p0 p1 p2 p3 p4 p5 p6 p7 p8 p9 p10 p11 p12 p13 p14 p15 p16 p17 p18 p19 p20 p21 p22 p23 p24 p25 : Nat) (sz : Nat) (x0_4 : Int32) (x0_5 : Int32) (x0_6 : Int32) (x0_7 : Int32) (x0_8 : Int32) (x0_12 : Int32) (x0_13 : Int32) (x0_14 : Int32) (x0_15 : Int32) (x0_16 : Int32) (x0_17 : Int32) (x0_18 : Int32) (x0_22 : Int32) (x0_23 : Int32) (x0_24 : Int32) (x0_25 : Int32) (x0_26 : Int32) (x0_27 : Int32) (x0_28 : Int32) (x0_29 : Int32) (x0_30 : Int32) (x0_31 : Int32) (x0_32 : Int32) (x0_36 : Int32) (x0_39 : Int32) (x0_40 : Int64) (x0_44 : Int32) (x0_49 : Int32) (x0_51 : Int32) (x0_53 : Int32) (x0_54 : Int32) (x0_55 : Int64) (x0_56 : Int32) (x0_57 : Int32) (x0_58 : Int32) (x0_59 : Int32) (x0_60 : Int32) (x0_61 : Int32) (x0_62 : Int64) (y1 : Nat → Int32) (y2 : Nat → Int32) (y3 : Nat → Int32) (y4 : Nat → Int32) (y5 : Nat → Int32) (y6 : Nat → Int32) (y7 : Nat → Int32) (y8 : Nat → Int32) (y9 : Nat → Int32) (y10 : Nat → Int32) (y11 : Nat → Int64) (y12 : Nat → Int32) (y13 : Nat → Int64) (y14 : Nat → Int32) (y15 : Nat → Int64) (y16 : Nat → Int32) (y17 : Nat → Int32) (y18 : Nat → Int32) (y19 : Nat → Int32) (y20 : Nat → Int32) (y21 : Nat → Int32) (y22 : Nat → Int32) (y23 : Nat → Int32) (y24 : Nat → Int64) (y25 : Nat → Int64)  (Rx0_13 : 0 ≤ x0_13.toInt ∧ x0_13.toInt ≤ 63) (Rx0_15 : (-8190) ≤ x0_15.toInt ∧ x0_15.toInt ≤ 8190) (Ay4 : ∀ i : Nat, ((0 ≤ (y4 i).toInt ∧ (y4 i).toInt ≤ 1073741823) ∧ ((1 ≤ (i : Int) ∧ (i : Int) ≤ 6) → (y4 i).toInt ≤ 4095))) (Ay8 : ∀ i : Nat, (0 ≤ (y8 i).toInt ∧ (y8 i).toInt ≤ 63)) (Ay9 : ∀ i : Nat, (0 ≤ (y9 i).toInt ∧ (y9 i).toInt ≤ 63)) : Met l y_X_shift (.code y_X_shift b_X_shift 7 none :: tb) ({ frames := 2, cells := 0, slots := 0, locals := 45 }) (pM D cI cJ cZ cB (wS50 cI cJ cZ cB p0 p1 p2 p3 p4 p5 p6 p7 p8 p9 p10 p11 p12 p13 p14 p15 p16 p17 p18 p19 p20 p21 p22 p23 p24 p25 x0_4 x0_5 x0_6 x0_7 x0_8 x0_12 x0_13 x0_14 x0_15 x0_16 x0_17 x0_18 x0_22 x0_23 x0_24 x0_25 x0_26 x0_27 x0_28 x0_29 x0_30 x0_31 x0_32 x0_36 x0_39 x0_40 x0_44 x0_49 x0_51 x0_53 x0_54 x0_55 x0_56 x0_57 x0_58 x0_59 x0_60 x0_61 x0_62 y1 y2 y3 y4 y5 y6 y7 y8 y9 y10 y11 y12 y13 y14 y15 y16 y17 y18 y19 y20 y21 y22 y23 y24 y25) sz [.ref p0]) (va_Qv (fun (_ : Unit) => True) (fun _ t => ∃ u_y4 : Nat → Int32, ∃ u_y8 : Nat → Int32, ∃ u_y9 : Nat → Int32, (∀ i : Nat, ((0 ≤ (u_y4 i).toInt ∧ (u_y4 i).toInt ≤ 1073741823) ∧ ((1 ≤ (i : Int) ∧ (i : Int) ≤ 6) → (u_y4 i).toInt ≤ 4095))) ∧ (∀ i : Nat, (0 ≤ (u_y8 i).toInt ∧ (u_y8 i).toInt ≤ 63)) ∧ (∀ i : Nat, (0 ≤ (u_y9 i).toInt ∧ (u_y9 i).toInt ≤ 63)) ∧ va_P D classes (wS50 cI cJ cZ cB p0 p1 p2 p3 p4 p5 p6 p7 p8 p9 p10 p11 p12 p13 p14 p15 p16 p17 p18 p19 p20 p21 p22 p23 p24 p25 x0_4 x0_5 x0_6 x0_7 x0_8 x0_12 x0_13 x0_14 x0_15 x0_16 x0_17 x0_18 x0_22 x0_23 x0_24 x0_25 x0_26 x0_27 x0_28 x0_29 x0_30 x0_31 x0_32 x0_36 x0_39 x0_40 x0_44 x0_49 x0_51 x0_53 x0_54 x0_55 x0_56 x0_57 x0_58 x0_59 x0_60 x0_61 x0_62 y1 y2 y3 u_y4 y5 y6 y7 u_y8 u_y9 y10 y11 y12 y13 y14 y15 y16 y17 y18 y19 y20 y21 y22 y23 y24 y25) t.heap ∧ va_D (va_A (wS50 cI cJ cZ cB p0 p1 p2 p3 p4 p5 p6 p7 p8 p9 p10 p11 p12 p13 p14 p15 p16 p17 p18 p19 p20 p21 p22 p23 p24 p25 x0_4 x0_5 x0_6 x0_7 x0_8 x0_12 x0_13 x0_14 x0_15 x0_16 x0_17 x0_18 x0_22 x0_23 x0_24 x0_25 x0_26 x0_27 x0_28 x0_29 x0_30 x0_31 x0_32 x0_36 x0_39 x0_40 x0_44 x0_49 x0_51 x0_53 x0_54 x0_55 x0_56 x0_57 x0_58 x0_59 x0_60 x0_61 x0_62 y1 y2 y3 y4 y5 y6 y7 y8 y9 y10 y11 y12 y13 y14 y15 y16 y17 y18 y19 y20 y21 y22 y23 y24 y25) sz) (wS50 cI cJ cZ cB p0 p1 p2 p3 p4 p5 p6 p7 p8 p9 p10 p11 p12 p13 p14 p15 p16 p17 p18 p19 p20 p21 p22 p23 p24 p25 x0_4 x0_5 x0_6 x0_7 x0_8 x0_12 x0_13 x0_14 x0_15 x0_16 x0_17 x0_18 x0_22 x0_23 x0_24 x0_25 x0_26 x0_27 x0_28 x0_29 x0_30 x0_31 x0_32 x0_36 x0_39 x0_40 x0_44 x0_49 x0_51 x0_53 x0_54 x0_55 x0_56 x0_57 x0_58 x0_59 x0_60 x0_61 x0_62 y1 y2 y3 u_y4 y5 y6 y7 u_y8 u_y9 y10 y11 y12 y13 y14 y15 y16 y17 y18 y19 y20 y21 y22 y23 y24 y25)) (va_A (wS50 cI cJ cZ cB p0 p1 p2 p3 p4 p5 p6 p7 p8 p9 p10 p11 p12 p13 p14 p15 p16 p17 p18 p19 p20 p21 p22 p23 p24 p25 x0_4 x0_5 x0_6 x0_7 x0_8 x0_12 x0_13 x0_14 x0_15 x0_16 x0_17 x0_18 x0_22 x0_23 x0_24 x0_25 x0_26 x0_27 x0_28 x0_29 x0_30 x0_31 x0_32 x0_36 x0_39 x0_40 x0_44 x0_49 x0_51 x0_53 x0_54 x0_55 x0_56 x0_57 x0_58 x0_59 x0_60 x0_61 x0_62 y1 y2 y3 y4 y5 y6 y7 y8 y9 y10 y11 y12 y13 y14 y15 y16 y17 y18 y19 y20 y21 y22 y23 y24 y25) sz)) 0 0 (va_A (wS50 cI cJ cZ cB p0 p1 p2 p3 p4 p5 p6 p7 p8 p9 p10 p11 p12 p13 p14 p15 p16 p17 p18 p19 p20 p21 p22 p23 p24 p25 x0_4 x0_5 x0_6 x0_7 x0_8 x0_12 x0_13 x0_14 x0_15 x0_16 x0_17 x0_18 x0_22 x0_23 x0_24 x0_25 x0_26 x0_27 x0_28 x0_29 x0_30 x0_31 x0_32 x0_36 x0_39 x0_40 x0_44 x0_49 x0_51 x0_53 x0_54 x0_55 x0_56 x0_57 x0_58 x0_59 x0_60 x0_61 x0_62 y1 y2 y3 y4 y5 y6 y7 y8 y9 y10 y11 y12 y13 y14 y15 y16 y17 y18 y19 y20 y21 y22 y23 y24 y25) sz) := by
  refine Met.ofW (cc := b_X_shift) (maxL := 7) (ret := none) (by decide) rfl ?_
  intro p e s m args below meth c s₁ B hml hv
  obtain ⟨rfl, hsz, hK, hP, hD0⟩ := hv
  subst hsz
  have hD := hD0.self (sz := s.heap.size)
  generalize hAe : va_A (wS50 cI cJ cZ cB p0 p1 p2 p3 p4 p5 p6 p7 p8 p9 p10 p11 p12 p13 p14 p15 p16 p17 p18 p19 p20 p21 p22 p23 p24 p25 x0_4 x0_5 x0_6 x0_7 x0_8 x0_12 x0_13 x0_14 x0_15 x0_16 x0_17 x0_18 x0_22 x0_23 x0_24 x0_25 x0_26 x0_27 x0_28 x0_29 x0_30 x0_31 x0_32 x0_36 x0_39 x0_40 x0_44 x0_49 x0_51 x0_53 x0_54 x0_55 x0_56 x0_57 x0_58 x0_59 x0_60 x0_61 x0_62 y1 y2 y3 y4 y5 y6 y7 y8 y9 y10 y11 y12 y13 y14 y15 y16 y17 y18 y19 y20 y21 y22 y23 y24 y25) s.heap.size = A at hD ⊢
  have hA : ∀ q : Nat, s.heap.size ≤ q → A q := fun q h => by rw [← hAe]; exact Or.inr h
  clear hAe hD0
  have hS : va_S A s.heap s.heap [] := va_S.rf
  have hx := B.exec
  have hb := B.bytes
  have hr := B.returns
  have hts := atoms_spec (ws := .code y_X_shift b_X_shift 7 none :: tb) B.pre
  have hk : ∀ w ∈ tb, w.before [.ref p0].toArray s = true := fun w h => hts w (List.mem_cons_of_mem _ h)
  have hown : s.vm.findClass "SignMachineModel" = some m.cls := findClass_of_methodNamed B.named
  have hlocks := B.notSynchronized
  have hl := lv_entry ([.ref p0]) (n := 7) (Nat.le_of_ble_eq_true rfl)
  rw [lg_entry_eq]
  generalize (lg_sl ([.ref p0]) ++ List.replicate (7 - (lg_sl ([.ref p0])).length) Slot.unset).toArray = ls at hl ⊢
  have hl : lv_has ls 7 [(0, .ref p0)] := hl
  clear hts B
  refine lv_iconst (v := 0) hx hb d_X_shift_0 (by decide) ?_
  refine lv_istore_n (lv' := [(1, .int (0 : Int32)), (0, .ref p0)]) hx hb d_X_shift_1 rfl hl (by decide) rfl (fun ls hl => ?_)
  refine lv_iload_n hx hb d_X_shift_2 rfl (lv_at hl 0 rfl) ?_
  refine lv_bipush (v := 10) hx hb d_X_shift_3 (by decide) ?_
  refine lv_icmp_ge (tgt := 59) hx hb d_X_shift_5 (by decide) (fun c1 => absurd c1 (show ¬ (10 : Int32) ≤ (0 : Int32) from (by decide))) (fun c1 => ?_)
  refine lv_aload_n hx hb d_X_shift_8 rfl (lv_at hl 1 rfl) ?_
  refine va_get (D := D) (ci := 7) (v := .ref p8) (C := "SignMachineModel") (T := F_X) (N := 64) hx hb hk fi_X hown hK.1 hP 0 rfl rfl 19 (by decide) (hk _ k_1140) (fun _ h9 => h9) rfl d_X_shift_9 ?_
  refine lv_iload_n hx hb d_X_shift_12 rfl (lv_at hl 0 rfl) ?_
  refine lv_iload_n hx hb d_X_shift_13 rfl (lv_at hl 0 rfl) ?_
  refine lv_iconst (v := 5) hx hb d_X_shift_14 (by decide) ?_
  refine lv_icmp_ge (tgt := 36) hx hb d_X_shift_15 (by decide) (fun c2 => absurd c2 (show ¬ (5 : Int32) ≤ (0 : Int32) from (by decide))) (fun c2 => ?_)
  refine lv_aload_n hx hb d_X_shift_18 rfl (lv_at hl 1 rfl) ?_
  refine va_get (D := D) (ci := 7) (v := .ref p4) (C := "SignMachineModel") (T := F_X) (N := 64) hx hb hk fi_X hown hK.1 hP 0 rfl rfl 3 (by decide) (hk _ k_1124) (fun _ h9 => h9) rfl d_X_shift_19 ?_
  refine lv_iconst (v := 0) hx hb d_X_shift_22 (by decide) ?_
  refine va_iald hx hb hK.1 hP 4 0 rfl rfl (by unfold vp_in; decide) d_X_shift_23 ?_
  refine lv_topi (fun v3 hv3 => ?_)
  have Rv3 := Ay4 ((0 : Int32)).toNatClampNeg
  rw [← hv3] at Rv3
  obtain ⟨Rv3, Xv3⟩ := Rv3
  have : ((((0 : Int32)).toNatClampNeg : Nat) : Int) = 0 := by decide
  refine lv_iload_n hx hb d_X_shift_24 rfl (lv_at hl 0 rfl) ?_
  refine lv_iconst (v := 1) hx hb d_X_shift_25 (by decide) ?_
  refine lv_iadd hx hb d_X_shift_26 ?_
  refine tpi (y := (1 : Int32)) (by decide) ?_
  refine lv_iload_n hx hb d_X_shift_27 rfl (lv_at hl 0 rfl) ?_
  refine lv_iconst (v := 1) hx hb d_X_shift_28 (by decide) ?_
  refine lv_iadd hx hb d_X_shift_29 ?_
  refine tpi (y := (1 : Int32)) (by decide) ?_
  refine vp_callSi (W.runS (As := [.int v3, .int (1 : Int32), .int (1 : Int32)]) (rest := [.int (0 : Int32), .ref p8]) ⟨hx, hb, hml, hown, hk⟩ (c_X_bytes l v3 (1 : Int32) (1 : Int32) Rv3 (by decide) (by decide)) (s_X_bytes hk k_1412 ⟨Nat.le_of_ble_eq_true rfl, Nat.le_of_ble_eq_true rfl⟩) ⟨fun a U g mk q => q, fun U hU hW => ⟨rfl, trivial⟩⟩ rfl rfl hl.1 rfl (lv_room (Nat.le_of_ble_eq_true rfl)) d_X_shift_30 ⟨Nat.le_of_ble_eq_true rfl, Nat.le_of_ble_eq_true rfl⟩) (fun rz4 hrz4 => ?_)
  obtain ⟨F0z4, F1z4, F2z4⟩ := hrz4
  have F0z4 : 0 ≤ rz4.toInt ∧ rz4.toInt ≤ 1073741823 := F0z4
  have F1z4 : hid ((1 : Int) = (1 : Int) → rz4.toInt ≤ 63) := F1z4
  have F2z4 : hid (rz4.toInt = bt v3.toInt (1 : Int) (1 : Int)) := F2z4
  have wz4 : 0 ≤ rz4.toInt ∧ rz4.toInt ≤ 63 := ⟨F0z4.1, F1z4 rfl⟩
  refine lv_goto (tgt := 52) hx hb d_X_shift_33 (by decide) ?_
  refine va_iast hx hb hK.1 hP hD hS 8 0 rfl rfl (by unfold vp_in; decide) d_X_shift_52 (fun H locs hP hD hS => ?_)
  have hP : va_P D classes (wS50 cI cJ cZ cB p0 p1 p2 p3 p4 p5 p6 p7 p8 p9 p10 p11 p12 p13 p14 p15 p16 p17 p18 p19 p20 p21 p22 p23 p24 p25 x0_4 x0_5 x0_6 x0_7 x0_8 x0_12 x0_13 x0_14 x0_15 x0_16 x0_17 x0_18 x0_22 x0_23 x0_24 x0_25 x0_26 x0_27 x0_28 x0_29 x0_30 x0_31 x0_32 x0_36 x0_39 x0_40 x0_44 x0_49 x0_51 x0_53 x0_54 x0_55 x0_56 x0_57 x0_58 x0_59 x0_60 x0_61 x0_62 y1 y2 y3 y4 y5 y6 y7 (upd y8 ((0 : Int32)).toNatClampNeg rz4) y9 y10 y11 y12 y13 y14 y15 y16 y17 y18 y19 y20 y21 y22 y23 y24 y25) H := hP
  have hD : va_D A (wS50 cI cJ cZ cB p0 p1 p2 p3 p4 p5 p6 p7 p8 p9 p10 p11 p12 p13 p14 p15 p16 p17 p18 p19 p20 p21 p22 p23 p24 p25 x0_4 x0_5 x0_6 x0_7 x0_8 x0_12 x0_13 x0_14 x0_15 x0_16 x0_17 x0_18 x0_22 x0_23 x0_24 x0_25 x0_26 x0_27 x0_28 x0_29 x0_30 x0_31 x0_32 x0_36 x0_39 x0_40 x0_44 x0_49 x0_51 x0_53 x0_54 x0_55 x0_56 x0_57 x0_58 x0_59 x0_60 x0_61 x0_62 y1 y2 y3 y4 y5 y6 y7 (upd y8 ((0 : Int32)).toNatClampNeg rz4) y9 y10 y11 y12 y13 y14 y15 y16 y17 y18 y19 y20 y21 y22 y23 y24 y25) := hD
  obtain ⟨v5, hv5⟩ : ∃ y : Nat → Int32, y = (upd y8 ((0 : Int32)).toNatClampNeg rz4) := ⟨_, rfl⟩
  rw [← hv5] at hP hD
  have Gv5 : (0 ≤ (rz4).toInt ∧ (rz4).toInt ≤ 63) := wz4
  have Av5 : ∀ i : Nat, (0 ≤ (v5 i).toInt ∧ (v5 i).toInt ≤ 63) := by rw [hv5]; exact upd_all (P := fun i x => (0 ≤ (x).toInt ∧ (x).toInt ≤ 63)) Ay8 Gv5
  clear hv5
  refine lv_iinc (v := (1 : Int32)) (lv' := [(1, .int (1 : Int32)), (0, .ref p0)]) hx hb d_X_shift_53 hl (k := 0) rfl (by decide) (by decide) rfl (fun ls hl => ?_)
  refine lv_goto (tgt := 2) hx hb d_X_shift_56 (by decide) ?_
  refine lv_iload_n hx hb d_X_shift_2 rfl (lv_at hl 0 rfl) ?_
  refine lv_bipush (v := 10) hx hb d_X_shift_3 (by decide) ?_
  refine lv_icmp_ge (tgt := 59) hx hb d_X_shift_5 (by decide) (fun c6 => absurd c6 (show ¬ (10 : Int32) ≤ (1 : Int32) from (by decide))) (fun c6 => ?_)
  refine lv_aload_n hx hb d_X_shift_8 rfl (lv_at hl 1 rfl) ?_
  refine va_get (D := D) (ci := 7) (v := .ref p8) (C := "SignMachineModel") (T := F_X) (N := 64) hx hb hk fi_X hown hK.1 hP 0 rfl rfl 19 (by decide) (hk _ k_1140) (fun _ h9 => h9) rfl d_X_shift_9 ?_
  refine lv_iload_n hx hb d_X_shift_12 rfl (lv_at hl 0 rfl) ?_
  refine lv_iload_n hx hb d_X_shift_13 rfl (lv_at hl 0 rfl) ?_
  refine lv_iconst (v := 5) hx hb d_X_shift_14 (by decide) ?_
  refine lv_icmp_ge (tgt := 36) hx hb d_X_shift_15 (by decide) (fun c7 => absurd c7 (show ¬ (5 : Int32) ≤ (1 : Int32) from (by decide))) (fun c7 => ?_)
  refine lv_aload_n hx hb d_X_shift_18 rfl (lv_at hl 1 rfl) ?_
  refine va_get (D := D) (ci := 7) (v := .ref p4) (C := "SignMachineModel") (T := F_X) (N := 64) hx hb hk fi_X hown hK.1 hP 0 rfl rfl 3 (by decide) (hk _ k_1124) (fun _ h9 => h9) rfl d_X_shift_19 ?_
  refine lv_iconst (v := 0) hx hb d_X_shift_22 (by decide) ?_
  refine va_iald hx hb hK.1 hP 4 0 rfl rfl (by unfold vp_in; decide) d_X_shift_23 ?_
  refine lv_topi (fun v8 hv8 => ?_)
  have Rv8 := Ay4 ((0 : Int32)).toNatClampNeg
  rw [← hv8] at Rv8
  obtain ⟨Rv8, Xv8⟩ := Rv8
  have : ((((0 : Int32)).toNatClampNeg : Nat) : Int) = 0 := by decide
  refine lv_iload_n hx hb d_X_shift_24 rfl (lv_at hl 0 rfl) ?_
  refine lv_iconst (v := 1) hx hb d_X_shift_25 (by decide) ?_
  refine lv_iadd hx hb d_X_shift_26 ?_
  refine tpi (y := (2 : Int32)) (by decide) ?_
  refine lv_iload_n hx hb d_X_shift_27 rfl (lv_at hl 0 rfl) ?_
  refine lv_iconst (v := 1) hx hb d_X_shift_28 (by decide) ?_
  refine lv_iadd hx hb d_X_shift_29 ?_
  refine tpi (y := (2 : Int32)) (by decide) ?_
  refine vp_callSi (W.runS (As := [.int v8, .int (2 : Int32), .int (2 : Int32)]) (rest := [.int (1 : Int32), .ref p8]) ⟨hx, hb, hml, hown, hk⟩ (c_X_bytes l v8 (2 : Int32) (2 : Int32) Rv8 (by decide) (by decide)) (s_X_bytes hk k_1412 ⟨Nat.le_of_ble_eq_true rfl, Nat.le_of_ble_eq_true rfl⟩) ⟨fun a U g mk q => q, fun U hU hW => ⟨rfl, trivial⟩⟩ rfl rfl hl.1 rfl (lv_room (Nat.le_of_ble_eq_true rfl)) d_X_shift_30 ⟨Nat.le_of_ble_eq_true rfl, Nat.le_of_ble_eq_true rfl⟩) (fun rz9 hrz9 => ?_)
  obtain ⟨F0z9, F1z9, F2z9⟩ := hrz9
  have F0z9 : 0 ≤ rz9.toInt ∧ rz9.toInt ≤ 1073741823 := F0z9
  have F1z9 : hid ((2 : Int) = (2 : Int) → rz9.toInt ≤ 63) := F1z9
  have F2z9 : hid (rz9.toInt = bt v8.toInt (2 : Int) (2 : Int)) := F2z9
  have wz9 : 0 ≤ rz9.toInt ∧ rz9.toInt ≤ 63 := ⟨F0z9.1, F1z9 rfl⟩
  refine lv_goto (tgt := 52) hx hb d_X_shift_33 (by decide) ?_
  refine va_iast hx hb hK.1 hP hD hS 8 0 rfl rfl (by unfold vp_in; decide) d_X_shift_52 (fun H locs hP hD hS => ?_)
  have hP : va_P D classes (wS50 cI cJ cZ cB p0 p1 p2 p3 p4 p5 p6 p7 p8 p9 p10 p11 p12 p13 p14 p15 p16 p17 p18 p19 p20 p21 p22 p23 p24 p25 x0_4 x0_5 x0_6 x0_7 x0_8 x0_12 x0_13 x0_14 x0_15 x0_16 x0_17 x0_18 x0_22 x0_23 x0_24 x0_25 x0_26 x0_27 x0_28 x0_29 x0_30 x0_31 x0_32 x0_36 x0_39 x0_40 x0_44 x0_49 x0_51 x0_53 x0_54 x0_55 x0_56 x0_57 x0_58 x0_59 x0_60 x0_61 x0_62 y1 y2 y3 y4 y5 y6 y7 (upd v5 ((1 : Int32)).toNatClampNeg rz9) y9 y10 y11 y12 y13 y14 y15 y16 y17 y18 y19 y20 y21 y22 y23 y24 y25) H := hP
  have hD : va_D A (wS50 cI cJ cZ cB p0 p1 p2 p3 p4 p5 p6 p7 p8 p9 p10 p11 p12 p13 p14 p15 p16 p17 p18 p19 p20 p21 p22 p23 p24 p25 x0_4 x0_5 x0_6 x0_7 x0_8 x0_12 x0_13 x0_14 x0_15 x0_16 x0_17 x0_18 x0_22 x0_23 x0_24 x0_25 x0_26 x0_27 x0_28 x0_29 x0_30 x0_31 x0_32 x0_36 x0_39 x0_40 x0_44 x0_49 x0_51 x0_53 x0_54 x0_55 x0_56 x0_57 x0_58 x0_59 x0_60 x0_61 x0_62 y1 y2 y3 y4 y5 y6 y7 (upd v5 ((1 : Int32)).toNatClampNeg rz9) y9 y10 y11 y12 y13 y14 y15 y16 y17 y18 y19 y20 y21 y22 y23 y24 y25) := hD
  obtain ⟨v10, hv10⟩ : ∃ y : Nat → Int32, y = (upd v5 ((1 : Int32)).toNatClampNeg rz9) := ⟨_, rfl⟩
  rw [← hv10] at hP hD
  have Gv10 : (0 ≤ (rz9).toInt ∧ (rz9).toInt ≤ 63) := wz9
  have Av10 : ∀ i : Nat, (0 ≤ (v10 i).toInt ∧ (v10 i).toInt ≤ 63) := by rw [hv10]; exact upd_all (P := fun i x => (0 ≤ (x).toInt ∧ (x).toInt ≤ 63)) Av5 Gv10
  clear hv10
  refine lv_iinc (v := (2 : Int32)) (lv' := [(1, .int (2 : Int32)), (0, .ref p0)]) hx hb d_X_shift_53 hl (k := 0) rfl (by decide) (by decide) rfl (fun ls hl => ?_)
  refine lv_goto (tgt := 2) hx hb d_X_shift_56 (by decide) ?_
  refine lv_iload_n hx hb d_X_shift_2 rfl (lv_at hl 0 rfl) ?_
  refine lv_bipush (v := 10) hx hb d_X_shift_3 (by decide) ?_
  refine lv_icmp_ge (tgt := 59) hx hb d_X_shift_5 (by decide) (fun c11 => absurd c11 (show ¬ (10 : Int32) ≤ (2 : Int32) from (by decide))) (fun c11 => ?_)
  refine lv_aload_n hx hb d_X_shift_8 rfl (lv_at hl 1 rfl) ?_
  refine va_get (D := D) (ci := 7) (v := .ref p8) (C := "SignMachineModel") (T := F_X) (N := 64) hx hb hk fi_X hown hK.1 hP 0 rfl rfl 19 (by decide) (hk _ k_1140) (fun _ h9 => h9) rfl d_X_shift_9 ?_
  refine lv_iload_n hx hb d_X_shift_12 rfl (lv_at hl 0 rfl) ?_
  refine lv_iload_n hx hb d_X_shift_13 rfl (lv_at hl 0 rfl) ?_
  refine lv_iconst (v := 5) hx hb d_X_shift_14 (by decide) ?_
  refine lv_icmp_ge (tgt := 36) hx hb d_X_shift_15 (by decide) (fun c12 => absurd c12 (show ¬ (5 : Int32) ≤ (2 : Int32) from (by decide))) (fun c12 => ?_)
  refine lv_aload_n hx hb d_X_shift_18 rfl (lv_at hl 1 rfl) ?_
  refine va_get (D := D) (ci := 7) (v := .ref p4) (C := "SignMachineModel") (T := F_X) (N := 64) hx hb hk fi_X hown hK.1 hP 0 rfl rfl 3 (by decide) (hk _ k_1124) (fun _ h9 => h9) rfl d_X_shift_19 ?_
  refine lv_iconst (v := 0) hx hb d_X_shift_22 (by decide) ?_
  refine va_iald hx hb hK.1 hP 4 0 rfl rfl (by unfold vp_in; decide) d_X_shift_23 ?_
  refine lv_topi (fun v13 hv13 => ?_)
  have Rv13 := Ay4 ((0 : Int32)).toNatClampNeg
  rw [← hv13] at Rv13
  obtain ⟨Rv13, Xv13⟩ := Rv13
  have : ((((0 : Int32)).toNatClampNeg : Nat) : Int) = 0 := by decide
  refine lv_iload_n hx hb d_X_shift_24 rfl (lv_at hl 0 rfl) ?_
  refine lv_iconst (v := 1) hx hb d_X_shift_25 (by decide) ?_
  refine lv_iadd hx hb d_X_shift_26 ?_
  refine tpi (y := (3 : Int32)) (by decide) ?_
  refine lv_iload_n hx hb d_X_shift_27 rfl (lv_at hl 0 rfl) ?_
  refine lv_iconst (v := 1) hx hb d_X_shift_28 (by decide) ?_
  refine lv_iadd hx hb d_X_shift_29 ?_
  refine tpi (y := (3 : Int32)) (by decide) ?_
  refine vp_callSi (W.runS (As := [.int v13, .int (3 : Int32), .int (3 : Int32)]) (rest := [.int (2 : Int32), .ref p8]) ⟨hx, hb, hml, hown, hk⟩ (c_X_bytes l v13 (3 : Int32) (3 : Int32) Rv13 (by decide) (by decide)) (s_X_bytes hk k_1412 ⟨Nat.le_of_ble_eq_true rfl, Nat.le_of_ble_eq_true rfl⟩) ⟨fun a U g mk q => q, fun U hU hW => ⟨rfl, trivial⟩⟩ rfl rfl hl.1 rfl (lv_room (Nat.le_of_ble_eq_true rfl)) d_X_shift_30 ⟨Nat.le_of_ble_eq_true rfl, Nat.le_of_ble_eq_true rfl⟩) (fun rz14 hrz14 => ?_)
  obtain ⟨F0z14, F1z14, F2z14⟩ := hrz14
  have F0z14 : 0 ≤ rz14.toInt ∧ rz14.toInt ≤ 1073741823 := F0z14
  have F1z14 : hid ((3 : Int) = (3 : Int) → rz14.toInt ≤ 63) := F1z14
  have F2z14 : hid (rz14.toInt = bt v13.toInt (3 : Int) (3 : Int)) := F2z14
  have wz14 : 0 ≤ rz14.toInt ∧ rz14.toInt ≤ 63 := ⟨F0z14.1, F1z14 rfl⟩
  refine lv_goto (tgt := 52) hx hb d_X_shift_33 (by decide) ?_
  refine va_iast hx hb hK.1 hP hD hS 8 0 rfl rfl (by unfold vp_in; decide) d_X_shift_52 (fun H locs hP hD hS => ?_)
  have hP : va_P D classes (wS50 cI cJ cZ cB p0 p1 p2 p3 p4 p5 p6 p7 p8 p9 p10 p11 p12 p13 p14 p15 p16 p17 p18 p19 p20 p21 p22 p23 p24 p25 x0_4 x0_5 x0_6 x0_7 x0_8 x0_12 x0_13 x0_14 x0_15 x0_16 x0_17 x0_18 x0_22 x0_23 x0_24 x0_25 x0_26 x0_27 x0_28 x0_29 x0_30 x0_31 x0_32 x0_36 x0_39 x0_40 x0_44 x0_49 x0_51 x0_53 x0_54 x0_55 x0_56 x0_57 x0_58 x0_59 x0_60 x0_61 x0_62 y1 y2 y3 y4 y5 y6 y7 (upd v10 ((2 : Int32)).toNatClampNeg rz14) y9 y10 y11 y12 y13 y14 y15 y16 y17 y18 y19 y20 y21 y22 y23 y24 y25) H := hP
  have hD : va_D A (wS50 cI cJ cZ cB p0 p1 p2 p3 p4 p5 p6 p7 p8 p9 p10 p11 p12 p13 p14 p15 p16 p17 p18 p19 p20 p21 p22 p23 p24 p25 x0_4 x0_5 x0_6 x0_7 x0_8 x0_12 x0_13 x0_14 x0_15 x0_16 x0_17 x0_18 x0_22 x0_23 x0_24 x0_25 x0_26 x0_27 x0_28 x0_29 x0_30 x0_31 x0_32 x0_36 x0_39 x0_40 x0_44 x0_49 x0_51 x0_53 x0_54 x0_55 x0_56 x0_57 x0_58 x0_59 x0_60 x0_61 x0_62 y1 y2 y3 y4 y5 y6 y7 (upd v10 ((2 : Int32)).toNatClampNeg rz14) y9 y10 y11 y12 y13 y14 y15 y16 y17 y18 y19 y20 y21 y22 y23 y24 y25) := hD
  obtain ⟨v15, hv15⟩ : ∃ y : Nat → Int32, y = (upd v10 ((2 : Int32)).toNatClampNeg rz14) := ⟨_, rfl⟩
  rw [← hv15] at hP hD
  have Gv15 : (0 ≤ (rz14).toInt ∧ (rz14).toInt ≤ 63) := wz14
  have Av15 : ∀ i : Nat, (0 ≤ (v15 i).toInt ∧ (v15 i).toInt ≤ 63) := by rw [hv15]; exact upd_all (P := fun i x => (0 ≤ (x).toInt ∧ (x).toInt ≤ 63)) Av10 Gv15
  clear hv15
  refine lv_iinc (v := (3 : Int32)) (lv' := [(1, .int (3 : Int32)), (0, .ref p0)]) hx hb d_X_shift_53 hl (k := 0) rfl (by decide) (by decide) rfl (fun ls hl => ?_)
  refine lv_goto (tgt := 2) hx hb d_X_shift_56 (by decide) ?_
  refine lv_iload_n hx hb d_X_shift_2 rfl (lv_at hl 0 rfl) ?_
  refine lv_bipush (v := 10) hx hb d_X_shift_3 (by decide) ?_
  refine lv_icmp_ge (tgt := 59) hx hb d_X_shift_5 (by decide) (fun c16 => absurd c16 (show ¬ (10 : Int32) ≤ (3 : Int32) from (by decide))) (fun c16 => ?_)
  refine lv_aload_n hx hb d_X_shift_8 rfl (lv_at hl 1 rfl) ?_
  refine va_get (D := D) (ci := 7) (v := .ref p8) (C := "SignMachineModel") (T := F_X) (N := 64) hx hb hk fi_X hown hK.1 hP 0 rfl rfl 19 (by decide) (hk _ k_1140) (fun _ h9 => h9) rfl d_X_shift_9 ?_
  refine lv_iload_n hx hb d_X_shift_12 rfl (lv_at hl 0 rfl) ?_
  refine lv_iload_n hx hb d_X_shift_13 rfl (lv_at hl 0 rfl) ?_
  refine lv_iconst (v := 5) hx hb d_X_shift_14 (by decide) ?_
  refine lv_icmp_ge (tgt := 36) hx hb d_X_shift_15 (by decide) (fun c17 => absurd c17 (show ¬ (5 : Int32) ≤ (3 : Int32) from (by decide))) (fun c17 => ?_)
  refine lv_aload_n hx hb d_X_shift_18 rfl (lv_at hl 1 rfl) ?_
  refine va_get (D := D) (ci := 7) (v := .ref p4) (C := "SignMachineModel") (T := F_X) (N := 64) hx hb hk fi_X hown hK.1 hP 0 rfl rfl 3 (by decide) (hk _ k_1124) (fun _ h9 => h9) rfl d_X_shift_19 ?_
  refine lv_iconst (v := 0) hx hb d_X_shift_22 (by decide) ?_
  refine va_iald hx hb hK.1 hP 4 0 rfl rfl (by unfold vp_in; decide) d_X_shift_23 ?_
  refine lv_topi (fun v18 hv18 => ?_)
  have Rv18 := Ay4 ((0 : Int32)).toNatClampNeg
  rw [← hv18] at Rv18
  obtain ⟨Rv18, Xv18⟩ := Rv18
  have : ((((0 : Int32)).toNatClampNeg : Nat) : Int) = 0 := by decide
  refine lv_iload_n hx hb d_X_shift_24 rfl (lv_at hl 0 rfl) ?_
  refine lv_iconst (v := 1) hx hb d_X_shift_25 (by decide) ?_
  refine lv_iadd hx hb d_X_shift_26 ?_
  refine tpi (y := (4 : Int32)) (by decide) ?_
  refine lv_iload_n hx hb d_X_shift_27 rfl (lv_at hl 0 rfl) ?_
  refine lv_iconst (v := 1) hx hb d_X_shift_28 (by decide) ?_
  refine lv_iadd hx hb d_X_shift_29 ?_
  refine tpi (y := (4 : Int32)) (by decide) ?_
  refine vp_callSi (W.runS (As := [.int v18, .int (4 : Int32), .int (4 : Int32)]) (rest := [.int (3 : Int32), .ref p8]) ⟨hx, hb, hml, hown, hk⟩ (c_X_bytes l v18 (4 : Int32) (4 : Int32) Rv18 (by decide) (by decide)) (s_X_bytes hk k_1412 ⟨Nat.le_of_ble_eq_true rfl, Nat.le_of_ble_eq_true rfl⟩) ⟨fun a U g mk q => q, fun U hU hW => ⟨rfl, trivial⟩⟩ rfl rfl hl.1 rfl (lv_room (Nat.le_of_ble_eq_true rfl)) d_X_shift_30 ⟨Nat.le_of_ble_eq_true rfl, Nat.le_of_ble_eq_true rfl⟩) (fun rz19 hrz19 => ?_)
  obtain ⟨F0z19, F1z19, F2z19⟩ := hrz19
  have F0z19 : 0 ≤ rz19.toInt ∧ rz19.toInt ≤ 1073741823 := F0z19
  have F1z19 : hid ((4 : Int) = (4 : Int) → rz19.toInt ≤ 63) := F1z19
  have F2z19 : hid (rz19.toInt = bt v18.toInt (4 : Int) (4 : Int)) := F2z19
  have wz19 : 0 ≤ rz19.toInt ∧ rz19.toInt ≤ 63 := ⟨F0z19.1, F1z19 rfl⟩
  refine lv_goto (tgt := 52) hx hb d_X_shift_33 (by decide) ?_
  refine va_iast hx hb hK.1 hP hD hS 8 0 rfl rfl (by unfold vp_in; decide) d_X_shift_52 (fun H locs hP hD hS => ?_)
  have hP : va_P D classes (wS50 cI cJ cZ cB p0 p1 p2 p3 p4 p5 p6 p7 p8 p9 p10 p11 p12 p13 p14 p15 p16 p17 p18 p19 p20 p21 p22 p23 p24 p25 x0_4 x0_5 x0_6 x0_7 x0_8 x0_12 x0_13 x0_14 x0_15 x0_16 x0_17 x0_18 x0_22 x0_23 x0_24 x0_25 x0_26 x0_27 x0_28 x0_29 x0_30 x0_31 x0_32 x0_36 x0_39 x0_40 x0_44 x0_49 x0_51 x0_53 x0_54 x0_55 x0_56 x0_57 x0_58 x0_59 x0_60 x0_61 x0_62 y1 y2 y3 y4 y5 y6 y7 (upd v15 ((3 : Int32)).toNatClampNeg rz19) y9 y10 y11 y12 y13 y14 y15 y16 y17 y18 y19 y20 y21 y22 y23 y24 y25) H := hP
  have hD : va_D A (wS50 cI cJ cZ cB p0 p1 p2 p3 p4 p5 p6 p7 p8 p9 p10 p11 p12 p13 p14 p15 p16 p17 p18 p19 p20 p21 p22 p23 p24 p25 x0_4 x0_5 x0_6 x0_7 x0_8 x0_12 x0_13 x0_14 x0_15 x0_16 x0_17 x0_18 x0_22 x0_23 x0_24 x0_25 x0_26 x0_27 x0_28 x0_29 x0_30 x0_31 x0_32 x0_36 x0_39 x0_40 x0_44 x0_49 x0_51 x0_53 x0_54 x0_55 x0_56 x0_57 x0_58 x0_59 x0_60 x0_61 x0_62 y1 y2 y3 y4 y5 y6 y7 (upd v15 ((3 : Int32)).toNatClampNeg rz19) y9 y10 y11 y12 y13 y14 y15 y16 y17 y18 y19 y20 y21 y22 y23 y24 y25) := hD
  obtain ⟨v20, hv20⟩ : ∃ y : Nat → Int32, y = (upd v15 ((3 : Int32)).toNatClampNeg rz19) := ⟨_, rfl⟩
  rw [← hv20] at hP hD
  have Gv20 : (0 ≤ (rz19).toInt ∧ (rz19).toInt ≤ 63) := wz19
  have Av20 : ∀ i : Nat, (0 ≤ (v20 i).toInt ∧ (v20 i).toInt ≤ 63) := by rw [hv20]; exact upd_all (P := fun i x => (0 ≤ (x).toInt ∧ (x).toInt ≤ 63)) Av15 Gv20
  clear hv20
  refine lv_iinc (v := (4 : Int32)) (lv' := [(1, .int (4 : Int32)), (0, .ref p0)]) hx hb d_X_shift_53 hl (k := 0) rfl (by decide) (by decide) rfl (fun ls hl => ?_)
  refine lv_goto (tgt := 2) hx hb d_X_shift_56 (by decide) ?_
  refine lv_iload_n hx hb d_X_shift_2 rfl (lv_at hl 0 rfl) ?_
  refine lv_bipush (v := 10) hx hb d_X_shift_3 (by decide) ?_
  refine lv_icmp_ge (tgt := 59) hx hb d_X_shift_5 (by decide) (fun c21 => absurd c21 (show ¬ (10 : Int32) ≤ (4 : Int32) from (by decide))) (fun c21 => ?_)
  refine lv_aload_n hx hb d_X_shift_8 rfl (lv_at hl 1 rfl) ?_
  refine va_get (D := D) (ci := 7) (v := .ref p8) (C := "SignMachineModel") (T := F_X) (N := 64) hx hb hk fi_X hown hK.1 hP 0 rfl rfl 19 (by decide) (hk _ k_1140) (fun _ h9 => h9) rfl d_X_shift_9 ?_
  refine lv_iload_n hx hb d_X_shift_12 rfl (lv_at hl 0 rfl) ?_
  refine lv_iload_n hx hb d_X_shift_13 rfl (lv_at hl 0 rfl) ?_
  refine lv_iconst (v := 5) hx hb d_X_shift_14 (by decide) ?_
  refine lv_icmp_ge (tgt := 36) hx hb d_X_shift_15 (by decide) (fun c22 => absurd c22 (show ¬ (5 : Int32) ≤ (4 : Int32) from (by decide))) (fun c22 => ?_)
  refine lv_aload_n hx hb d_X_shift_18 rfl (lv_at hl 1 rfl) ?_
  refine va_get (D := D) (ci := 7) (v := .ref p4) (C := "SignMachineModel") (T := F_X) (N := 64) hx hb hk fi_X hown hK.1 hP 0 rfl rfl 3 (by decide) (hk _ k_1124) (fun _ h9 => h9) rfl d_X_shift_19 ?_
  refine lv_iconst (v := 0) hx hb d_X_shift_22 (by decide) ?_
  refine va_iald hx hb hK.1 hP 4 0 rfl rfl (by unfold vp_in; decide) d_X_shift_23 ?_
  refine lv_topi (fun v23 hv23 => ?_)
  have Rv23 := Ay4 ((0 : Int32)).toNatClampNeg
  rw [← hv23] at Rv23
  obtain ⟨Rv23, Xv23⟩ := Rv23
  have : ((((0 : Int32)).toNatClampNeg : Nat) : Int) = 0 := by decide
  refine lv_iload_n hx hb d_X_shift_24 rfl (lv_at hl 0 rfl) ?_
  refine lv_iconst (v := 1) hx hb d_X_shift_25 (by decide) ?_
  refine lv_iadd hx hb d_X_shift_26 ?_
  refine tpi (y := (5 : Int32)) (by decide) ?_
  refine lv_iload_n hx hb d_X_shift_27 rfl (lv_at hl 0 rfl) ?_
  refine lv_iconst (v := 1) hx hb d_X_shift_28 (by decide) ?_
  refine lv_iadd hx hb d_X_shift_29 ?_
  refine tpi (y := (5 : Int32)) (by decide) ?_
  refine vp_callSi (W.runS (As := [.int v23, .int (5 : Int32), .int (5 : Int32)]) (rest := [.int (4 : Int32), .ref p8]) ⟨hx, hb, hml, hown, hk⟩ (c_X_bytes l v23 (5 : Int32) (5 : Int32) Rv23 (by decide) (by decide)) (s_X_bytes hk k_1412 ⟨Nat.le_of_ble_eq_true rfl, Nat.le_of_ble_eq_true rfl⟩) ⟨fun a U g mk q => q, fun U hU hW => ⟨rfl, trivial⟩⟩ rfl rfl hl.1 rfl (lv_room (Nat.le_of_ble_eq_true rfl)) d_X_shift_30 ⟨Nat.le_of_ble_eq_true rfl, Nat.le_of_ble_eq_true rfl⟩) (fun rz24 hrz24 => ?_)
  obtain ⟨F0z24, F1z24, F2z24⟩ := hrz24
  have F0z24 : 0 ≤ rz24.toInt ∧ rz24.toInt ≤ 1073741823 := F0z24
  have F1z24 : hid ((5 : Int) = (5 : Int) → rz24.toInt ≤ 63) := F1z24
  have F2z24 : hid (rz24.toInt = bt v23.toInt (5 : Int) (5 : Int)) := F2z24
  have wz24 : 0 ≤ rz24.toInt ∧ rz24.toInt ≤ 63 := ⟨F0z24.1, F1z24 rfl⟩
  refine lv_goto (tgt := 52) hx hb d_X_shift_33 (by decide) ?_
  refine va_iast hx hb hK.1 hP hD hS 8 0 rfl rfl (by unfold vp_in; decide) d_X_shift_52 (fun H locs hP hD hS => ?_)
  have hP : va_P D classes (wS50 cI cJ cZ cB p0 p1 p2 p3 p4 p5 p6 p7 p8 p9 p10 p11 p12 p13 p14 p15 p16 p17 p18 p19 p20 p21 p22 p23 p24 p25 x0_4 x0_5 x0_6 x0_7 x0_8 x0_12 x0_13 x0_14 x0_15 x0_16 x0_17 x0_18 x0_22 x0_23 x0_24 x0_25 x0_26 x0_27 x0_28 x0_29 x0_30 x0_31 x0_32 x0_36 x0_39 x0_40 x0_44 x0_49 x0_51 x0_53 x0_54 x0_55 x0_56 x0_57 x0_58 x0_59 x0_60 x0_61 x0_62 y1 y2 y3 y4 y5 y6 y7 (upd v20 ((4 : Int32)).toNatClampNeg rz24) y9 y10 y11 y12 y13 y14 y15 y16 y17 y18 y19 y20 y21 y22 y23 y24 y25) H := hP
  have hD : va_D A (wS50 cI cJ cZ cB p0 p1 p2 p3 p4 p5 p6 p7 p8 p9 p10 p11 p12 p13 p14 p15 p16 p17 p18 p19 p20 p21 p22 p23 p24 p25 x0_4 x0_5 x0_6 x0_7 x0_8 x0_12 x0_13 x0_14 x0_15 x0_16 x0_17 x0_18 x0_22 x0_23 x0_24 x0_25 x0_26 x0_27 x0_28 x0_29 x0_30 x0_31 x0_32 x0_36 x0_39 x0_40 x0_44 x0_49 x0_51 x0_53 x0_54 x0_55 x0_56 x0_57 x0_58 x0_59 x0_60 x0_61 x0_62 y1 y2 y3 y4 y5 y6 y7 (upd v20 ((4 : Int32)).toNatClampNeg rz24) y9 y10 y11 y12 y13 y14 y15 y16 y17 y18 y19 y20 y21 y22 y23 y24 y25) := hD
  obtain ⟨v25, hv25⟩ : ∃ y : Nat → Int32, y = (upd v20 ((4 : Int32)).toNatClampNeg rz24) := ⟨_, rfl⟩
  rw [← hv25] at hP hD
  have Gv25 : (0 ≤ (rz24).toInt ∧ (rz24).toInt ≤ 63) := wz24
  have Av25 : ∀ i : Nat, (0 ≤ (v25 i).toInt ∧ (v25 i).toInt ≤ 63) := by rw [hv25]; exact upd_all (P := fun i x => (0 ≤ (x).toInt ∧ (x).toInt ≤ 63)) Av20 Gv25
  clear hv25
  refine lv_iinc (v := (5 : Int32)) (lv' := [(1, .int (5 : Int32)), (0, .ref p0)]) hx hb d_X_shift_53 hl (k := 0) rfl (by decide) (by decide) rfl (fun ls hl => ?_)
  refine lv_goto (tgt := 2) hx hb d_X_shift_56 (by decide) ?_
  refine lv_iload_n hx hb d_X_shift_2 rfl (lv_at hl 0 rfl) ?_
  refine lv_bipush (v := 10) hx hb d_X_shift_3 (by decide) ?_
  refine lv_icmp_ge (tgt := 59) hx hb d_X_shift_5 (by decide) (fun c26 => absurd c26 (show ¬ (10 : Int32) ≤ (5 : Int32) from (by decide))) (fun c26 => ?_)
  refine lv_aload_n hx hb d_X_shift_8 rfl (lv_at hl 1 rfl) ?_
  refine va_get (D := D) (ci := 7) (v := .ref p8) (C := "SignMachineModel") (T := F_X) (N := 64) hx hb hk fi_X hown hK.1 hP 0 rfl rfl 19 (by decide) (hk _ k_1140) (fun _ h9 => h9) rfl d_X_shift_9 ?_
  refine lv_iload_n hx hb d_X_shift_12 rfl (lv_at hl 0 rfl) ?_
  refine lv_iload_n hx hb d_X_shift_13 rfl (lv_at hl 0 rfl) ?_
  refine lv_iconst (v := 5) hx hb d_X_shift_14 (by decide) ?_
  refine lv_icmp_ge (tgt := 36) hx hb d_X_shift_15 (by decide) (fun c27 => ?_) (fun c27 => absurd (show (5 : Int32) ≤ (5 : Int32) from (by decide)) c27)
  refine lv_aload_n hx hb d_X_shift_36 rfl (lv_at hl 1 rfl) ?_
  refine va_get (D := D) (ci := 7) (v := .ref p4) (C := "SignMachineModel") (T := F_X) (N := 64) hx hb hk fi_X hown hK.1 hP 0 rfl rfl 3 (by decide) (hk _ k_1124) (fun _ h9 => h9) rfl d_X_shift_37 ?_
  refine lv_bipush (v := 7) hx hb d_X_shift_40 (by decide) ?_
  refine va_iald hx hb hK.1 hP 4 0 rfl rfl (by unfold vp_in; decide) d_X_shift_42 ?_
  refine lv_topi (fun v28 hv28 => ?_)
  have Rv28 := Ay4 ((7 : Int32)).toNatClampNeg
  rw [← hv28] at Rv28
  obtain ⟨Rv28, Xv28⟩ := Rv28
  have : ((((7 : Int32)).toNatClampNeg : Nat) : Int) = 7 := by decide
  refine lv_iload_n hx hb d_X_shift_43 rfl (lv_at hl 0 rfl) ?_
  refine lv_iconst (v := 4) hx hb d_X_shift_44 (by decide) ?_
  refine lv_isub hx hb d_X_shift_45 ?_
  refine tpi (y := (1 : Int32)) (by decide) ?_
  refine lv_iload_n hx hb d_X_shift_46 rfl (lv_at hl 0 rfl) ?_
  refine lv_iconst (v := 4) hx hb d_X_shift_47 (by decide) ?_
  refine lv_isub hx hb d_X_shift_48 ?_
  refine tpi (y := (1 : Int32)) (by decide) ?_
  refine vp_callSi (W.runS (As := [.int v28, .int (1 : Int32), .int (1 : Int32)]) (rest := [.int (5 : Int32), .ref p8]) ⟨hx, hb, hml, hown, hk⟩ (c_X_bytes l v28 (1 : Int32) (1 : Int32) Rv28 (by decide) (by decide)) (s_X_bytes hk k_1412 ⟨Nat.le_of_ble_eq_true rfl, Nat.le_of_ble_eq_true rfl⟩) ⟨fun a U g mk q => q, fun U hU hW => ⟨rfl, trivial⟩⟩ rfl rfl hl.1 rfl (lv_room (Nat.le_of_ble_eq_true rfl)) d_X_shift_49 ⟨Nat.le_of_ble_eq_true rfl, Nat.le_of_ble_eq_true rfl⟩) (fun rz29 hrz29 => ?_)
  obtain ⟨F0z29, F1z29, F2z29⟩ := hrz29
  have F0z29 : 0 ≤ rz29.toInt ∧ rz29.toInt ≤ 1073741823 := F0z29
  have F1z29 : hid ((1 : Int) = (1 : Int) → rz29.toInt ≤ 63) := F1z29
  have F2z29 : hid (rz29.toInt = bt v28.toInt (1 : Int) (1 : Int)) := F2z29
  have wz29 : 0 ≤ rz29.toInt ∧ rz29.toInt ≤ 63 := ⟨F0z29.1, F1z29 rfl⟩
  refine va_iast hx hb hK.1 hP hD hS 8 0 rfl rfl (by unfold vp_in; decide) d_X_shift_52 (fun H locs hP hD hS => ?_)
  have hP : va_P D classes (wS50 cI cJ cZ cB p0 p1 p2 p3 p4 p5 p6 p7 p8 p9 p10 p11 p12 p13 p14 p15 p16 p17 p18 p19 p20 p21 p22 p23 p24 p25 x0_4 x0_5 x0_6 x0_7 x0_8 x0_12 x0_13 x0_14 x0_15 x0_16 x0_17 x0_18 x0_22 x0_23 x0_24 x0_25 x0_26 x0_27 x0_28 x0_29 x0_30 x0_31 x0_32 x0_36 x0_39 x0_40 x0_44 x0_49 x0_51 x0_53 x0_54 x0_55 x0_56 x0_57 x0_58 x0_59 x0_60 x0_61 x0_62 y1 y2 y3 y4 y5 y6 y7 (upd v25 ((5 : Int32)).toNatClampNeg rz29) y9 y10 y11 y12 y13 y14 y15 y16 y17 y18 y19 y20 y21 y22 y23 y24 y25) H := hP
  have hD : va_D A (wS50 cI cJ cZ cB p0 p1 p2 p3 p4 p5 p6 p7 p8 p9 p10 p11 p12 p13 p14 p15 p16 p17 p18 p19 p20 p21 p22 p23 p24 p25 x0_4 x0_5 x0_6 x0_7 x0_8 x0_12 x0_13 x0_14 x0_15 x0_16 x0_17 x0_18 x0_22 x0_23 x0_24 x0_25 x0_26 x0_27 x0_28 x0_29 x0_30 x0_31 x0_32 x0_36 x0_39 x0_40 x0_44 x0_49 x0_51 x0_53 x0_54 x0_55 x0_56 x0_57 x0_58 x0_59 x0_60 x0_61 x0_62 y1 y2 y3 y4 y5 y6 y7 (upd v25 ((5 : Int32)).toNatClampNeg rz29) y9 y10 y11 y12 y13 y14 y15 y16 y17 y18 y19 y20 y21 y22 y23 y24 y25) := hD
  obtain ⟨v30, hv30⟩ : ∃ y : Nat → Int32, y = (upd v25 ((5 : Int32)).toNatClampNeg rz29) := ⟨_, rfl⟩
  rw [← hv30] at hP hD
  have Gv30 : (0 ≤ (rz29).toInt ∧ (rz29).toInt ≤ 63) := wz29
  have Av30 : ∀ i : Nat, (0 ≤ (v30 i).toInt ∧ (v30 i).toInt ≤ 63) := by rw [hv30]; exact upd_all (P := fun i x => (0 ≤ (x).toInt ∧ (x).toInt ≤ 63)) Av25 Gv30
  clear hv30
  refine lv_iinc (v := (6 : Int32)) (lv' := [(1, .int (6 : Int32)), (0, .ref p0)]) hx hb d_X_shift_53 hl (k := 0) rfl (by decide) (by decide) rfl (fun ls hl => ?_)
  refine lv_goto (tgt := 2) hx hb d_X_shift_56 (by decide) ?_
  refine lv_iload_n hx hb d_X_shift_2 rfl (lv_at hl 0 rfl) ?_
  refine lv_bipush (v := 10) hx hb d_X_shift_3 (by decide) ?_
  refine lv_icmp_ge (tgt := 59) hx hb d_X_shift_5 (by decide) (fun c31 => absurd c31 (show ¬ (10 : Int32) ≤ (6 : Int32) from (by decide))) (fun c31 => ?_)
  refine lv_aload_n hx hb d_X_shift_8 rfl (lv_at hl 1 rfl) ?_
  refine va_get (D := D) (ci := 7) (v := .ref p8) (C := "SignMachineModel") (T := F_X) (N := 64) hx hb hk fi_X hown hK.1 hP 0 rfl rfl 19 (by decide) (hk _ k_1140) (fun _ h9 => h9) rfl d_X_shift_9 ?_
  refine lv_iload_n hx hb d_X_shift_12 rfl (lv_at hl 0 rfl) ?_
  refine lv_iload_n hx hb d_X_shift_13 rfl (lv_at hl 0 rfl) ?_
  refine lv_iconst (v := 5) hx hb d_X_shift_14 (by decide) ?_
  refine lv_icmp_ge (tgt := 36) hx hb d_X_shift_15 (by decide) (fun c32 => ?_) (fun c32 => absurd (show (5 : Int32) ≤ (6 : Int32) from (by decide)) c32)
  refine lv_aload_n hx hb d_X_shift_36 rfl (lv_at hl 1 rfl) ?_
  refine va_get (D := D) (ci := 7) (v := .ref p4) (C := "SignMachineModel") (T := F_X) (N := 64) hx hb hk fi_X hown hK.1 hP 0 rfl rfl 3 (by decide) (hk _ k_1124) (fun _ h9 => h9) rfl d_X_shift_37 ?_
  refine lv_bipush (v := 7) hx hb d_X_shift_40 (by decide) ?_
  refine va_iald hx hb hK.1 hP 4 0 rfl rfl (by unfold vp_in; decide) d_X_shift_42 ?_
  refine lv_topi (fun v33 hv33 => ?_)
  have Rv33 := Ay4 ((7 : Int32)).toNatClampNeg
  rw [← hv33] at Rv33
  obtain ⟨Rv33, Xv33⟩ := Rv33
  have : ((((7 : Int32)).toNatClampNeg : Nat) : Int) = 7 := by decide
  refine lv_iload_n hx hb d_X_shift_43 rfl (lv_at hl 0 rfl) ?_
  refine lv_iconst (v := 4) hx hb d_X_shift_44 (by decide) ?_
  refine lv_isub hx hb d_X_shift_45 ?_
  refine tpi (y := (2 : Int32)) (by decide) ?_
  refine lv_iload_n hx hb d_X_shift_46 rfl (lv_at hl 0 rfl) ?_
  refine lv_iconst (v := 4) hx hb d_X_shift_47 (by decide) ?_
  refine lv_isub hx hb d_X_shift_48 ?_
  refine tpi (y := (2 : Int32)) (by decide) ?_
  refine vp_callSi (W.runS (As := [.int v33, .int (2 : Int32), .int (2 : Int32)]) (rest := [.int (6 : Int32), .ref p8]) ⟨hx, hb, hml, hown, hk⟩ (c_X_bytes l v33 (2 : Int32) (2 : Int32) Rv33 (by decide) (by decide)) (s_X_bytes hk k_1412 ⟨Nat.le_of_ble_eq_true rfl, Nat.le_of_ble_eq_true rfl⟩) ⟨fun a U g mk q => q, fun U hU hW => ⟨rfl, trivial⟩⟩ rfl rfl hl.1 rfl (lv_room (Nat.le_of_ble_eq_true rfl)) d_X_shift_49 ⟨Nat.le_of_ble_eq_true rfl, Nat.le_of_ble_eq_true rfl⟩) (fun rz34 hrz34 => ?_)
  obtain ⟨F0z34, F1z34, F2z34⟩ := hrz34
  have F0z34 : 0 ≤ rz34.toInt ∧ rz34.toInt ≤ 1073741823 := F0z34
  have F1z34 : hid ((2 : Int) = (2 : Int) → rz34.toInt ≤ 63) := F1z34
  have F2z34 : hid (rz34.toInt = bt v33.toInt (2 : Int) (2 : Int)) := F2z34
  have wz34 : 0 ≤ rz34.toInt ∧ rz34.toInt ≤ 63 := ⟨F0z34.1, F1z34 rfl⟩
  refine va_iast hx hb hK.1 hP hD hS 8 0 rfl rfl (by unfold vp_in; decide) d_X_shift_52 (fun H locs hP hD hS => ?_)
  have hP : va_P D classes (wS50 cI cJ cZ cB p0 p1 p2 p3 p4 p5 p6 p7 p8 p9 p10 p11 p12 p13 p14 p15 p16 p17 p18 p19 p20 p21 p22 p23 p24 p25 x0_4 x0_5 x0_6 x0_7 x0_8 x0_12 x0_13 x0_14 x0_15 x0_16 x0_17 x0_18 x0_22 x0_23 x0_24 x0_25 x0_26 x0_27 x0_28 x0_29 x0_30 x0_31 x0_32 x0_36 x0_39 x0_40 x0_44 x0_49 x0_51 x0_53 x0_54 x0_55 x0_56 x0_57 x0_58 x0_59 x0_60 x0_61 x0_62 y1 y2 y3 y4 y5 y6 y7 (upd v30 ((6 : Int32)).toNatClampNeg rz34) y9 y10 y11 y12 y13 y14 y15 y16 y17 y18 y19 y20 y21 y22 y23 y24 y25) H := hP
  have hD : va_D A (wS50 cI cJ cZ cB p0 p1 p2 p3 p4 p5 p6 p7 p8 p9 p10 p11 p12 p13 p14 p15 p16 p17 p18 p19 p20 p21 p22 p23 p24 p25 x0_4 x0_5 x0_6 x0_7 x0_8 x0_12 x0_13 x0_14 x0_15 x0_16 x0_17 x0_18 x0_22 x0_23 x0_24 x0_25 x0_26 x0_27 x0_28 x0_29 x0_30 x0_31 x0_32 x0_36 x0_39 x0_40 x0_44 x0_49 x0_51 x0_53 x0_54 x0_55 x0_56 x0_57 x0_58 x0_59 x0_60 x0_61 x0_62 y1 y2 y3 y4 y5 y6 y7 (upd v30 ((6 : Int32)).toNatClampNeg rz34) y9 y10 y11 y12 y13 y14 y15 y16 y17 y18 y19 y20 y21 y22 y23 y24 y25) := hD
  obtain ⟨v35, hv35⟩ : ∃ y : Nat → Int32, y = (upd v30 ((6 : Int32)).toNatClampNeg rz34) := ⟨_, rfl⟩
  rw [← hv35] at hP hD
  have Gv35 : (0 ≤ (rz34).toInt ∧ (rz34).toInt ≤ 63) := wz34
  have Av35 : ∀ i : Nat, (0 ≤ (v35 i).toInt ∧ (v35 i).toInt ≤ 63) := by rw [hv35]; exact upd_all (P := fun i x => (0 ≤ (x).toInt ∧ (x).toInt ≤ 63)) Av30 Gv35
  clear hv35
  refine lv_iinc (v := (7 : Int32)) (lv' := [(1, .int (7 : Int32)), (0, .ref p0)]) hx hb d_X_shift_53 hl (k := 0) rfl (by decide) (by decide) rfl (fun ls hl => ?_)
  refine lv_goto (tgt := 2) hx hb d_X_shift_56 (by decide) ?_
  refine lv_iload_n hx hb d_X_shift_2 rfl (lv_at hl 0 rfl) ?_
  refine lv_bipush (v := 10) hx hb d_X_shift_3 (by decide) ?_
  refine lv_icmp_ge (tgt := 59) hx hb d_X_shift_5 (by decide) (fun c36 => absurd c36 (show ¬ (10 : Int32) ≤ (7 : Int32) from (by decide))) (fun c36 => ?_)
  refine lv_aload_n hx hb d_X_shift_8 rfl (lv_at hl 1 rfl) ?_
  refine va_get (D := D) (ci := 7) (v := .ref p8) (C := "SignMachineModel") (T := F_X) (N := 64) hx hb hk fi_X hown hK.1 hP 0 rfl rfl 19 (by decide) (hk _ k_1140) (fun _ h9 => h9) rfl d_X_shift_9 ?_
  refine lv_iload_n hx hb d_X_shift_12 rfl (lv_at hl 0 rfl) ?_
  refine lv_iload_n hx hb d_X_shift_13 rfl (lv_at hl 0 rfl) ?_
  refine lv_iconst (v := 5) hx hb d_X_shift_14 (by decide) ?_
  refine lv_icmp_ge (tgt := 36) hx hb d_X_shift_15 (by decide) (fun c37 => ?_) (fun c37 => absurd (show (5 : Int32) ≤ (7 : Int32) from (by decide)) c37)
  refine lv_aload_n hx hb d_X_shift_36 rfl (lv_at hl 1 rfl) ?_
  refine va_get (D := D) (ci := 7) (v := .ref p4) (C := "SignMachineModel") (T := F_X) (N := 64) hx hb hk fi_X hown hK.1 hP 0 rfl rfl 3 (by decide) (hk _ k_1124) (fun _ h9 => h9) rfl d_X_shift_37 ?_
  refine lv_bipush (v := 7) hx hb d_X_shift_40 (by decide) ?_
  refine va_iald hx hb hK.1 hP 4 0 rfl rfl (by unfold vp_in; decide) d_X_shift_42 ?_
  refine lv_topi (fun v38 hv38 => ?_)
  have Rv38 := Ay4 ((7 : Int32)).toNatClampNeg
  rw [← hv38] at Rv38
  obtain ⟨Rv38, Xv38⟩ := Rv38
  have : ((((7 : Int32)).toNatClampNeg : Nat) : Int) = 7 := by decide
  refine lv_iload_n hx hb d_X_shift_43 rfl (lv_at hl 0 rfl) ?_
  refine lv_iconst (v := 4) hx hb d_X_shift_44 (by decide) ?_
  refine lv_isub hx hb d_X_shift_45 ?_
  refine tpi (y := (3 : Int32)) (by decide) ?_
  refine lv_iload_n hx hb d_X_shift_46 rfl (lv_at hl 0 rfl) ?_
  refine lv_iconst (v := 4) hx hb d_X_shift_47 (by decide) ?_
  refine lv_isub hx hb d_X_shift_48 ?_
  refine tpi (y := (3 : Int32)) (by decide) ?_
  refine vp_callSi (W.runS (As := [.int v38, .int (3 : Int32), .int (3 : Int32)]) (rest := [.int (7 : Int32), .ref p8]) ⟨hx, hb, hml, hown, hk⟩ (c_X_bytes l v38 (3 : Int32) (3 : Int32) Rv38 (by decide) (by decide)) (s_X_bytes hk k_1412 ⟨Nat.le_of_ble_eq_true rfl, Nat.le_of_ble_eq_true rfl⟩) ⟨fun a U g mk q => q, fun U hU hW => ⟨rfl, trivial⟩⟩ rfl rfl hl.1 rfl (lv_room (Nat.le_of_ble_eq_true rfl)) d_X_shift_49 ⟨Nat.le_of_ble_eq_true rfl, Nat.le_of_ble_eq_true rfl⟩) (fun rz39 hrz39 => ?_)
  obtain ⟨F0z39, F1z39, F2z39⟩ := hrz39
  have F0z39 : 0 ≤ rz39.toInt ∧ rz39.toInt ≤ 1073741823 := F0z39
  have F1z39 : hid ((3 : Int) = (3 : Int) → rz39.toInt ≤ 63) := F1z39
  have F2z39 : hid (rz39.toInt = bt v38.toInt (3 : Int) (3 : Int)) := F2z39
  have wz39 : 0 ≤ rz39.toInt ∧ rz39.toInt ≤ 63 := ⟨F0z39.1, F1z39 rfl⟩
  refine va_iast hx hb hK.1 hP hD hS 8 0 rfl rfl (by unfold vp_in; decide) d_X_shift_52 (fun H locs hP hD hS => ?_)
  have hP : va_P D classes (wS50 cI cJ cZ cB p0 p1 p2 p3 p4 p5 p6 p7 p8 p9 p10 p11 p12 p13 p14 p15 p16 p17 p18 p19 p20 p21 p22 p23 p24 p25 x0_4 x0_5 x0_6 x0_7 x0_8 x0_12 x0_13 x0_14 x0_15 x0_16 x0_17 x0_18 x0_22 x0_23 x0_24 x0_25 x0_26 x0_27 x0_28 x0_29 x0_30 x0_31 x0_32 x0_36 x0_39 x0_40 x0_44 x0_49 x0_51 x0_53 x0_54 x0_55 x0_56 x0_57 x0_58 x0_59 x0_60 x0_61 x0_62 y1 y2 y3 y4 y5 y6 y7 (upd v35 ((7 : Int32)).toNatClampNeg rz39) y9 y10 y11 y12 y13 y14 y15 y16 y17 y18 y19 y20 y21 y22 y23 y24 y25) H := hP
  have hD : va_D A (wS50 cI cJ cZ cB p0 p1 p2 p3 p4 p5 p6 p7 p8 p9 p10 p11 p12 p13 p14 p15 p16 p17 p18 p19 p20 p21 p22 p23 p24 p25 x0_4 x0_5 x0_6 x0_7 x0_8 x0_12 x0_13 x0_14 x0_15 x0_16 x0_17 x0_18 x0_22 x0_23 x0_24 x0_25 x0_26 x0_27 x0_28 x0_29 x0_30 x0_31 x0_32 x0_36 x0_39 x0_40 x0_44 x0_49 x0_51 x0_53 x0_54 x0_55 x0_56 x0_57 x0_58 x0_59 x0_60 x0_61 x0_62 y1 y2 y3 y4 y5 y6 y7 (upd v35 ((7 : Int32)).toNatClampNeg rz39) y9 y10 y11 y12 y13 y14 y15 y16 y17 y18 y19 y20 y21 y22 y23 y24 y25) := hD
  obtain ⟨v40, hv40⟩ : ∃ y : Nat → Int32, y = (upd v35 ((7 : Int32)).toNatClampNeg rz39) := ⟨_, rfl⟩
  rw [← hv40] at hP hD
  have Gv40 : (0 ≤ (rz39).toInt ∧ (rz39).toInt ≤ 63) := wz39
  have Av40 : ∀ i : Nat, (0 ≤ (v40 i).toInt ∧ (v40 i).toInt ≤ 63) := by rw [hv40]; exact upd_all (P := fun i x => (0 ≤ (x).toInt ∧ (x).toInt ≤ 63)) Av35 Gv40
  clear hv40
  refine lv_iinc (v := (8 : Int32)) (lv' := [(1, .int (8 : Int32)), (0, .ref p0)]) hx hb d_X_shift_53 hl (k := 0) rfl (by decide) (by decide) rfl (fun ls hl => ?_)
  refine lv_goto (tgt := 2) hx hb d_X_shift_56 (by decide) ?_
  refine lv_iload_n hx hb d_X_shift_2 rfl (lv_at hl 0 rfl) ?_
  refine lv_bipush (v := 10) hx hb d_X_shift_3 (by decide) ?_
  refine lv_icmp_ge (tgt := 59) hx hb d_X_shift_5 (by decide) (fun c41 => absurd c41 (show ¬ (10 : Int32) ≤ (8 : Int32) from (by decide))) (fun c41 => ?_)
  refine lv_aload_n hx hb d_X_shift_8 rfl (lv_at hl 1 rfl) ?_
  refine va_get (D := D) (ci := 7) (v := .ref p8) (C := "SignMachineModel") (T := F_X) (N := 64) hx hb hk fi_X hown hK.1 hP 0 rfl rfl 19 (by decide) (hk _ k_1140) (fun _ h9 => h9) rfl d_X_shift_9 ?_
  refine lv_iload_n hx hb d_X_shift_12 rfl (lv_at hl 0 rfl) ?_
  refine lv_iload_n hx hb d_X_shift_13 rfl (lv_at hl 0 rfl) ?_
  refine lv_iconst (v := 5) hx hb d_X_shift_14 (by decide) ?_
  refine lv_icmp_ge (tgt := 36) hx hb d_X_shift_15 (by decide) (fun c42 => ?_) (fun c42 => absurd (show (5 : Int32) ≤ (8 : Int32) from (by decide)) c42)
  refine lv_aload_n hx hb d_X_shift_36 rfl (lv_at hl 1 rfl) ?_
  refine va_get (D := D) (ci := 7) (v := .ref p4) (C := "SignMachineModel") (T := F_X) (N := 64) hx hb hk fi_X hown hK.1 hP 0 rfl rfl 3 (by decide) (hk _ k_1124) (fun _ h9 => h9) rfl d_X_shift_37 ?_
  refine lv_bipush (v := 7) hx hb d_X_shift_40 (by decide) ?_
  refine va_iald hx hb hK.1 hP 4 0 rfl rfl (by unfold vp_in; decide) d_X_shift_42 ?_
  refine lv_topi (fun v43 hv43 => ?_)
  have Rv43 := Ay4 ((7 : Int32)).toNatClampNeg
  rw [← hv43] at Rv43
  obtain ⟨Rv43, Xv43⟩ := Rv43
  have : ((((7 : Int32)).toNatClampNeg : Nat) : Int) = 7 := by decide
  refine lv_iload_n hx hb d_X_shift_43 rfl (lv_at hl 0 rfl) ?_
  refine lv_iconst (v := 4) hx hb d_X_shift_44 (by decide) ?_
  refine lv_isub hx hb d_X_shift_45 ?_
  refine tpi (y := (4 : Int32)) (by decide) ?_
  refine lv_iload_n hx hb d_X_shift_46 rfl (lv_at hl 0 rfl) ?_
  refine lv_iconst (v := 4) hx hb d_X_shift_47 (by decide) ?_
  refine lv_isub hx hb d_X_shift_48 ?_
  refine tpi (y := (4 : Int32)) (by decide) ?_
  refine vp_callSi (W.runS (As := [.int v43, .int (4 : Int32), .int (4 : Int32)]) (rest := [.int (8 : Int32), .ref p8]) ⟨hx, hb, hml, hown, hk⟩ (c_X_bytes l v43 (4 : Int32) (4 : Int32) Rv43 (by decide) (by decide)) (s_X_bytes hk k_1412 ⟨Nat.le_of_ble_eq_true rfl, Nat.le_of_ble_eq_true rfl⟩) ⟨fun a U g mk q => q, fun U hU hW => ⟨rfl, trivial⟩⟩ rfl rfl hl.1 rfl (lv_room (Nat.le_of_ble_eq_true rfl)) d_X_shift_49 ⟨Nat.le_of_ble_eq_true rfl, Nat.le_of_ble_eq_true rfl⟩) (fun rz44 hrz44 => ?_)
  obtain ⟨F0z44, F1z44, F2z44⟩ := hrz44
  have F0z44 : 0 ≤ rz44.toInt ∧ rz44.toInt ≤ 1073741823 := F0z44
  have F1z44 : hid ((4 : Int) = (4 : Int) → rz44.toInt ≤ 63) := F1z44
  have F2z44 : hid (rz44.toInt = bt v43.toInt (4 : Int) (4 : Int)) := F2z44
  have wz44 : 0 ≤ rz44.toInt ∧ rz44.toInt ≤ 63 := ⟨F0z44.1, F1z44 rfl⟩
  refine va_iast hx hb hK.1 hP hD hS 8 0 rfl rfl (by unfold vp_in; decide) d_X_shift_52 (fun H locs hP hD hS => ?_)
  have hP : va_P D classes (wS50 cI cJ cZ cB p0 p1 p2 p3 p4 p5 p6 p7 p8 p9 p10 p11 p12 p13 p14 p15 p16 p17 p18 p19 p20 p21 p22 p23 p24 p25 x0_4 x0_5 x0_6 x0_7 x0_8 x0_12 x0_13 x0_14 x0_15 x0_16 x0_17 x0_18 x0_22 x0_23 x0_24 x0_25 x0_26 x0_27 x0_28 x0_29 x0_30 x0_31 x0_32 x0_36 x0_39 x0_40 x0_44 x0_49 x0_51 x0_53 x0_54 x0_55 x0_56 x0_57 x0_58 x0_59 x0_60 x0_61 x0_62 y1 y2 y3 y4 y5 y6 y7 (upd v40 ((8 : Int32)).toNatClampNeg rz44) y9 y10 y11 y12 y13 y14 y15 y16 y17 y18 y19 y20 y21 y22 y23 y24 y25) H := hP
  have hD : va_D A (wS50 cI cJ cZ cB p0 p1 p2 p3 p4 p5 p6 p7 p8 p9 p10 p11 p12 p13 p14 p15 p16 p17 p18 p19 p20 p21 p22 p23 p24 p25 x0_4 x0_5 x0_6 x0_7 x0_8 x0_12 x0_13 x0_14 x0_15 x0_16 x0_17 x0_18 x0_22 x0_23 x0_24 x0_25 x0_26 x0_27 x0_28 x0_29 x0_30 x0_31 x0_32 x0_36 x0_39 x0_40 x0_44 x0_49 x0_51 x0_53 x0_54 x0_55 x0_56 x0_57 x0_58 x0_59 x0_60 x0_61 x0_62 y1 y2 y3 y4 y5 y6 y7 (upd v40 ((8 : Int32)).toNatClampNeg rz44) y9 y10 y11 y12 y13 y14 y15 y16 y17 y18 y19 y20 y21 y22 y23 y24 y25) := hD
  obtain ⟨v45, hv45⟩ : ∃ y : Nat → Int32, y = (upd v40 ((8 : Int32)).toNatClampNeg rz44) := ⟨_, rfl⟩
  rw [← hv45] at hP hD
  have Gv45 : (0 ≤ (rz44).toInt ∧ (rz44).toInt ≤ 63) := wz44
  have Av45 : ∀ i : Nat, (0 ≤ (v45 i).toInt ∧ (v45 i).toInt ≤ 63) := by rw [hv45]; exact upd_all (P := fun i x => (0 ≤ (x).toInt ∧ (x).toInt ≤ 63)) Av40 Gv45
  clear hv45
  refine lv_iinc (v := (9 : Int32)) (lv' := [(1, .int (9 : Int32)), (0, .ref p0)]) hx hb d_X_shift_53 hl (k := 0) rfl (by decide) (by decide) rfl (fun ls hl => ?_)
  refine lv_goto (tgt := 2) hx hb d_X_shift_56 (by decide) ?_
  refine lv_iload_n hx hb d_X_shift_2 rfl (lv_at hl 0 rfl) ?_
  refine lv_bipush (v := 10) hx hb d_X_shift_3 (by decide) ?_
  refine lv_icmp_ge (tgt := 59) hx hb d_X_shift_5 (by decide) (fun c46 => absurd c46 (show ¬ (10 : Int32) ≤ (9 : Int32) from (by decide))) (fun c46 => ?_)
  refine lv_aload_n hx hb d_X_shift_8 rfl (lv_at hl 1 rfl) ?_
  refine va_get (D := D) (ci := 7) (v := .ref p8) (C := "SignMachineModel") (T := F_X) (N := 64) hx hb hk fi_X hown hK.1 hP 0 rfl rfl 19 (by decide) (hk _ k_1140) (fun _ h9 => h9) rfl d_X_shift_9 ?_
  refine lv_iload_n hx hb d_X_shift_12 rfl (lv_at hl 0 rfl) ?_
  refine lv_iload_n hx hb d_X_shift_13 rfl (lv_at hl 0 rfl) ?_
  refine lv_iconst (v := 5) hx hb d_X_shift_14 (by decide) ?_
  refine lv_icmp_ge (tgt := 36) hx hb d_X_shift_15 (by decide) (fun c47 => ?_) (fun c47 => absurd (show (5 : Int32) ≤ (9 : Int32) from (by decide)) c47)
  refine lv_aload_n hx hb d_X_shift_36 rfl (lv_at hl 1 rfl) ?_
  refine va_get (D := D) (ci := 7) (v := .ref p4) (C := "SignMachineModel") (T := F_X) (N := 64) hx hb hk fi_X hown hK.1 hP 0 rfl rfl 3 (by decide) (hk _ k_1124) (fun _ h9 => h9) rfl d_X_shift_37 ?_
  refine lv_bipush (v := 7) hx hb d_X_shift_40 (by decide) ?_
  refine va_iald hx hb hK.1 hP 4 0 rfl rfl (by unfold vp_in; decide) d_X_shift_42 ?_
  refine lv_topi (fun v48 hv48 => ?_)
  have Rv48 := Ay4 ((7 : Int32)).toNatClampNeg
  rw [← hv48] at Rv48
  obtain ⟨Rv48, Xv48⟩ := Rv48
  have : ((((7 : Int32)).toNatClampNeg : Nat) : Int) = 7 := by decide
  refine lv_iload_n hx hb d_X_shift_43 rfl (lv_at hl 0 rfl) ?_
  refine lv_iconst (v := 4) hx hb d_X_shift_44 (by decide) ?_
  refine lv_isub hx hb d_X_shift_45 ?_
  refine tpi (y := (5 : Int32)) (by decide) ?_
  refine lv_iload_n hx hb d_X_shift_46 rfl (lv_at hl 0 rfl) ?_
  refine lv_iconst (v := 4) hx hb d_X_shift_47 (by decide) ?_
  refine lv_isub hx hb d_X_shift_48 ?_
  refine tpi (y := (5 : Int32)) (by decide) ?_
  refine vp_callSi (W.runS (As := [.int v48, .int (5 : Int32), .int (5 : Int32)]) (rest := [.int (9 : Int32), .ref p8]) ⟨hx, hb, hml, hown, hk⟩ (c_X_bytes l v48 (5 : Int32) (5 : Int32) Rv48 (by decide) (by decide)) (s_X_bytes hk k_1412 ⟨Nat.le_of_ble_eq_true rfl, Nat.le_of_ble_eq_true rfl⟩) ⟨fun a U g mk q => q, fun U hU hW => ⟨rfl, trivial⟩⟩ rfl rfl hl.1 rfl (lv_room (Nat.le_of_ble_eq_true rfl)) d_X_shift_49 ⟨Nat.le_of_ble_eq_true rfl, Nat.le_of_ble_eq_true rfl⟩) (fun rz49 hrz49 => ?_)
  obtain ⟨F0z49, F1z49, F2z49⟩ := hrz49
  have F0z49 : 0 ≤ rz49.toInt ∧ rz49.toInt ≤ 1073741823 := F0z49
  have F1z49 : hid ((5 : Int) = (5 : Int) → rz49.toInt ≤ 63) := F1z49
  have F2z49 : hid (rz49.toInt = bt v48.toInt (5 : Int) (5 : Int)) := F2z49
  have wz49 : 0 ≤ rz49.toInt ∧ rz49.toInt ≤ 63 := ⟨F0z49.1, F1z49 rfl⟩
  refine va_iast hx hb hK.1 hP hD hS 8 0 rfl rfl (by unfold vp_in; decide) d_X_shift_52 (fun H locs hP hD hS => ?_)
  have hP : va_P D classes (wS50 cI cJ cZ cB p0 p1 p2 p3 p4 p5 p6 p7 p8 p9 p10 p11 p12 p13 p14 p15 p16 p17 p18 p19 p20 p21 p22 p23 p24 p25 x0_4 x0_5 x0_6 x0_7 x0_8 x0_12 x0_13 x0_14 x0_15 x0_16 x0_17 x0_18 x0_22 x0_23 x0_24 x0_25 x0_26 x0_27 x0_28 x0_29 x0_30 x0_31 x0_32 x0_36 x0_39 x0_40 x0_44 x0_49 x0_51 x0_53 x0_54 x0_55 x0_56 x0_57 x0_58 x0_59 x0_60 x0_61 x0_62 y1 y2 y3 y4 y5 y6 y7 (upd v45 ((9 : Int32)).toNatClampNeg rz49) y9 y10 y11 y12 y13 y14 y15 y16 y17 y18 y19 y20 y21 y22 y23 y24 y25) H := hP
  have hD : va_D A (wS50 cI cJ cZ cB p0 p1 p2 p3 p4 p5 p6 p7 p8 p9 p10 p11 p12 p13 p14 p15 p16 p17 p18 p19 p20 p21 p22 p23 p24 p25 x0_4 x0_5 x0_6 x0_7 x0_8 x0_12 x0_13 x0_14 x0_15 x0_16 x0_17 x0_18 x0_22 x0_23 x0_24 x0_25 x0_26 x0_27 x0_28 x0_29 x0_30 x0_31 x0_32 x0_36 x0_39 x0_40 x0_44 x0_49 x0_51 x0_53 x0_54 x0_55 x0_56 x0_57 x0_58 x0_59 x0_60 x0_61 x0_62 y1 y2 y3 y4 y5 y6 y7 (upd v45 ((9 : Int32)).toNatClampNeg rz49) y9 y10 y11 y12 y13 y14 y15 y16 y17 y18 y19 y20 y21 y22 y23 y24 y25) := hD
  obtain ⟨v50, hv50⟩ : ∃ y : Nat → Int32, y = (upd v45 ((9 : Int32)).toNatClampNeg rz49) := ⟨_, rfl⟩
  rw [← hv50] at hP hD
  have Gv50 : (0 ≤ (rz49).toInt ∧ (rz49).toInt ≤ 63) := wz49
  have Av50 : ∀ i : Nat, (0 ≤ (v50 i).toInt ∧ (v50 i).toInt ≤ 63) := by rw [hv50]; exact upd_all (P := fun i x => (0 ≤ (x).toInt ∧ (x).toInt ≤ 63)) Av45 Gv50
  clear hv50
  refine lv_iinc (v := (10 : Int32)) (lv' := [(1, .int (10 : Int32)), (0, .ref p0)]) hx hb d_X_shift_53 hl (k := 0) rfl (by decide) (by decide) rfl (fun ls hl => ?_)
  refine lv_goto (tgt := 2) hx hb d_X_shift_56 (by decide) ?_
  refine lv_iload_n hx hb d_X_shift_2 rfl (lv_at hl 0 rfl) ?_
  refine lv_bipush (v := 10) hx hb d_X_shift_3 (by decide) ?_
  refine lv_icmp_ge (tgt := 59) hx hb d_X_shift_5 (by decide) (fun c51 => ?_) (fun c51 => absurd (show (10 : Int32) ≤ (10 : Int32) from (by decide)) c51)
  refine lv_aload_n hx hb d_X_shift_59 rfl (lv_at hl 1 rfl) ?_
  refine va_get (D := D) (ci := 7) (v := .int x0_13) (C := "SignMachineModel") (T := F_X) (N := 64) hx hb hk fi_X hown hK.1 hP 0 rfl rfl 13 (by decide) (hk _ k_1134) (fun _ h9 => h9) rfl d_X_shift_60 ?_
  refine lv_iconst (v := 2) hx hb d_X_shift_63 (by decide) ?_
  refine lv_icmp_ge (tgt := 71) hx hb d_X_shift_64 (by decide) (fun c52 => ?_) (fun c52 => ?_)
  · have gc52 : (2 : Int) ≤ x0_13.toInt := c_le c52
    have R53 : 2 ≤ x0_13.toInt ∧ x0_13.toInt ≤ 63 := rf_geX Rx0_13 (show 2 ≤ (2 : Int) ∧ (2 : Int) ≤ 2 from by decide) gc52 (by decide) (by decide)
    refine lv_iconst (v := 0) hx hb d_X_shift_71 (by decide) ?_
    refine lv_istore_n (lv' := [(1, .int (0 : Int32)), (0, .ref p0)]) hx hb d_X_shift_72 rfl hl (by decide) rfl (fun ls hl => ?_)
    refine lv_aload_n hx hb d_X_shift_73 rfl (lv_at hl 1 rfl) ?_
    refine va_get (D := D) (ci := 7) (v := .int x0_13) (C := "SignMachineModel") (T := F_X) (N := 64) hx hb hk fi_X hown hK.1 hP 0 rfl rfl 13 (by decide) (hk _ k_1134) (fun _ h9 => h9) rfl d_X_shift_74 ?_
    refine lv_iconst (v := 2) hx hb d_X_shift_77 (by decide) ?_
    refine lv_irem hx hb d_X_shift_78 (by decide) ?_
    refine lv_topi (fun v54 hv54 => ?_)
    obtain ⟨ev54, lv54, Rv54⟩ : v54.toInt = x0_13.toInt % (2 : Int) ∧ v54.toInt < (2 : Int) ∧ (0 ≤ v54.toInt ∧ v54.toInt ≤ 1) := rm3 hv54 R53 (show 2 ≤ (2 : Int32).toInt ∧ (2 : Int32).toInt ≤ 2 from by decide) (by decide) (by decide) (by decide)
    refine lv_if_ne (tgt := 89) hx hb d_X_shift_79 (by decide) (fun c55 => ?_) (fun c55 => ?_)
    · have gc55 : v54.toInt ≠ (0 : Int) := c_ne c55
      have R56 : 1 ≤ v54.toInt ∧ v54.toInt ≤ 1 := rf_neX Rv54 (show 0 ≤ (0 : Int) ∧ (0 : Int) ≤ 0 from by decide) gc55 (by decide) (by decide)
      refine lv_aload_n hx hb d_X_shift_89 rfl (lv_at hl 1 rfl) ?_
      refine va_get (D := D) (ci := 7) (v := .int x0_15) (C := "SignMachineModel") (T := F_X) (N := 64) hx hb hk fi_X hown hK.1 hP 0 rfl rfl 15 (by decide) (hk _ k_1136) (fun _ h9 => h9) rfl d_X_shift_90 ?_
      refine lv_ineg hx hb d_X_shift_93 ?_
      refine lv_topi (fun v57 hv57 => ?_)
      obtain ⟨ev57, Rv57⟩ : v57.toInt = -x0_15.toInt ∧ ((-8190) ≤ v57.toInt ∧ v57.toInt ≤ 8190) := ng3 hv57 Rx0_15 (by decide) (by decide) (by decide) (by decide)
      refine lv_istore_n (lv' := [(2, .int v57), (1, .int (0 : Int32)), (0, .ref p0)]) hx hb d_X_shift_94 rfl hl (by decide) rfl (fun ls hl => ?_)
      refine lv_iconst (v := 0) hx hb d_X_shift_95 (by decide) ?_
      refine lv_istore_n (lv' := [(3, .int (0 : Int32)), (2, .int v57), (1, .int (0 : Int32)), (0, .ref p0)]) hx hb d_X_shift_96 rfl hl (by decide) rfl (fun ls hl => ?_)
      have CUT97 : ∀ (n : Nat) (g97l3 : Int32) (g97y9 : Nat → Int32) (H : Heap) (locs : List Loc) (ls : Array Slot), (10 - g97l3.toInt) < (n : Int) → (0 ≤ g97l3.toInt ∧ g97l3.toInt ≤ 10) → (∀ i : Nat, (0 ≤ (g97y9 i).toInt ∧ (g97y9 i).toInt ≤ 63)) → va_P D classes (wS50 cI cJ cZ cB p0 p1 p2 p3 p4 p5 p6 p7 p8 p9 p10 p11 p12 p13 p14 p15 p16 p17 p18 p19 p20 p21 p22 p23 p24 p25 x0_4 x0_5 x0_6 x0_7 x0_8 x0_12 x0_13 x0_14 x0_15 x0_16 x0_17 x0_18 x0_22 x0_23 x0_24 x0_25 x0_26 x0_27 x0_28 x0_29 x0_30 x0_31 x0_32 x0_36 x0_39 x0_40 x0_44 x0_49 x0_51 x0_53 x0_54 x0_55 x0_56 x0_57 x0_58 x0_59 x0_60 x0_61 x0_62 y1 y2 y3 y4 y5 y6 y7 v50 g97y9 y10 y11 y12 y13 y14 y15 y16 y17 y18 y19 y20 y21 y22 y23 y24 y25) H → va_D A (wS50 cI cJ cZ cB p0 p1 p2 p3 p4 p5 p6 p7 p8 p9 p10 p11 p12 p13 p14 p15 p16 p17 p18 p19 p20 p21 p22 p23 p24 p25 x0_4 x0_5 x0_6 x0_7 x0_8 x0_12 x0_13 x0_14 x0_15 x0_16 x0_17 x0_18 x0_22 x0_23 x0_24 x0_25 x0_26 x0_27 x0_28 x0_29 x0_30 x0_31 x0_32 x0_36 x0_39 x0_40 x0_44 x0_49 x0_51 x0_53 x0_54 x0_55 x0_56 x0_57 x0_58 x0_59 x0_60 x0_61 x0_62 y1 y2 y3 y4 y5 y6 y7 v50 g97y9 y10 y11 y12 y13 y14 y15 y16 y17 y18 y19 y20 y21 y22 y23 y24 y25) → va_S A s.heap H locs → lv_has ls 7 [(3, .int g97l3), (2, .int v57), (1, .int (0 : Int32)), (0, .ref p0)] → W p l e ({ frames := 2, cells := 0, slots := 0, locals := 45 }) s m [.ref p0].toArray below meth c H locs 0 0 (MQ below (va_Qv (fun (_ : Unit) => True) (fun _ t => ∃ u_y4 : Nat → Int32, ∃ u_y8 : Nat → Int32, ∃ u_y9 : Nat → Int32, (∀ i : Nat, ((0 ≤ (u_y4 i).toInt ∧ (u_y4 i).toInt ≤ 1073741823) ∧ ((1 ≤ (i : Int) ∧ (i : Int) ≤ 6) → (u_y4 i).toInt ≤ 4095))) ∧ (∀ i : Nat, (0 ≤ (u_y8 i).toInt ∧ (u_y8 i).toInt ≤ 63)) ∧ (∀ i : Nat, (0 ≤ (u_y9 i).toInt ∧ (u_y9 i).toInt ≤ 63)) ∧ va_P D classes (wS50 cI cJ cZ cB p0 p1 p2 p3 p4 p5 p6 p7 p8 p9 p10 p11 p12 p13 p14 p15 p16 p17 p18 p19 p20 p21 p22 p23 p24 p25 x0_4 x0_5 x0_6 x0_7 x0_8 x0_12 x0_13 x0_14 x0_15 x0_16 x0_17 x0_18 x0_22 x0_23 x0_24 x0_25 x0_26 x0_27 x0_28 x0_29 x0_30 x0_31 x0_32 x0_36 x0_39 x0_40 x0_44 x0_49 x0_51 x0_53 x0_54 x0_55 x0_56 x0_57 x0_58 x0_59 x0_60 x0_61 x0_62 y1 y2 y3 u_y4 y5 y6 y7 u_y8 u_y9 y10 y11 y12 y13 y14 y15 y16 y17 y18 y19 y20 y21 y22 y23 y24 y25) t.heap ∧ va_D A (wS50 cI cJ cZ cB p0 p1 p2 p3 p4 p5 p6 p7 p8 p9 p10 p11 p12 p13 p14 p15 p16 p17 p18 p19 p20 p21 p22 p23 p24 p25 x0_4 x0_5 x0_6 x0_7 x0_8 x0_12 x0_13 x0_14 x0_15 x0_16 x0_17 x0_18 x0_22 x0_23 x0_24 x0_25 x0_26 x0_27 x0_28 x0_29 x0_30 x0_31 x0_32 x0_36 x0_39 x0_40 x0_44 x0_49 x0_51 x0_53 x0_54 x0_55 x0_56 x0_57 x0_58 x0_59 x0_60 x0_61 x0_62 y1 y2 y3 u_y4 y5 y6 y7 u_y8 u_y9 y10 y11 y12 y13 y14 y15 y16 y17 y18 y19 y20 y21 y22 y23 y24 y25)) A) [.ref p0].toArray s 0 0 A) (F0 m 97 ls []) := by
        intro n
        induction n with
        | zero => intro g97l3 g97y9 H locs ls hn97 Rg97l3 Ag97y9 hP hD hS hl; exfalso; omega
        | succ n ih97 =>
          intro g97l3 g97y9 H locs ls hn97 Rg97l3 Ag97y9 hP hD hS hl
          refine lv_iload_n hx hb d_X_shift_97 rfl (lv_at hl 0 rfl) ?_
          refine lv_bipush (v := 10) hx hb d_X_shift_98 (by decide) ?_
          refine lv_icmp_ge (tgt := 212) hx hb d_X_shift_100 (by decide) (fun c58 => ?_) (fun c58 => ?_)
          · have gc58 : (10 : Int) ≤ g97l3.toInt := c_le c58
            have R59 : 10 ≤ g97l3.toInt ∧ g97l3.toInt ≤ 10 := rf_geX Rg97l3 (show 10 ≤ (10 : Int) ∧ (10 : Int) ≤ 10 from by decide) gc58 (by decide) (by decide)
            refine lv_iconst (v := 0) hx hb d_X_shift_212 (by decide) ?_
            refine lv_istore_n (lv' := [(3, .int (0 : Int32)), (2, .int v57), (1, .int (0 : Int32)), (0, .ref p0)]) hx hb d_X_shift_213 rfl hl (by decide) rfl (fun ls hl => ?_)
            refine lv_iconst (v := 0) hx hb d_X_shift_214 (by decide) ?_
            refine lv_istore (lv' := [(4, .int (0 : Int32)), (3, .int (0 : Int32)), (2, .int v57), (1, .int (0 : Int32)), (0, .ref p0)]) hx hb d_X_shift_215 hl (by decide) rfl (fun ls hl => ?_)
            refine lv_iconst (v := 0) hx hb d_X_shift_217 (by decide) ?_
            refine lv_istore (lv' := [(5, .int (0 : Int32)), (4, .int (0 : Int32)), (3, .int (0 : Int32)), (2, .int v57), (1, .int (0 : Int32)), (0, .ref p0)]) hx hb d_X_shift_218 hl (by decide) rfl (fun ls hl => ?_)
            refine lv_iload hx hb d_X_shift_220 (lv_at hl 0 rfl) ?_
            refine lv_iconst (v := 5) hx hb d_X_shift_222 (by decide) ?_
            refine lv_icmp_ge (tgt := 262) hx hb d_X_shift_223 (by decide) (fun c60 => absurd c60 (show ¬ (5 : Int32) ≤ (0 : Int32) from (by decide))) (fun c60 => ?_)
            refine lv_iload_n hx hb d_X_shift_226 rfl (lv_at hl 2 rfl) ?_
            refine lv_bipush (v := 64) hx hb d_X_shift_227 (by decide) ?_
            refine lv_imul hx hb d_X_shift_229 ?_
            refine tpi (y := (0 : Int32)) (by decide) ?_
            refine lv_aload_n hx hb d_X_shift_230 rfl (lv_at hl 5 rfl) ?_
            refine va_get (D := D) (ci := 7) (v := .ref p9) (C := "SignMachineModel") (T := F_X) (N := 64) hx hb hk fi_X hown hK.1 hP 0 rfl rfl 20 (by decide) (hk _ k_1141) (fun _ h9 => h9) rfl d_X_shift_231 ?_
            refine lv_iload hx hb d_X_shift_234 (lv_at hl 0 rfl) ?_
            refine va_iald hx hb hK.1 hP 9 0 rfl rfl (by unfold vp_in; decide) d_X_shift_236 ?_
            refine lv_topi (fun v61 hv61 => ?_)
            have Rv61 := Ag97y9 ((0 : Int32)).toNatClampNeg
            rw [← hv61] at Rv61
            refine lv_iadd hx hb d_X_shift_237 ?_
            refine lv_topi (fun v62 hv62 => ?_)
            obtain ⟨ev62, Rv62⟩ : v62.toInt = (0 : Int) + v61.toInt ∧ (0 ≤ v62.toInt ∧ v62.toInt ≤ 63) := ad3 hv62 (show 0 ≤ (0 : Int32).toInt ∧ (0 : Int32).toInt ≤ 0 from by decide) Rv61 (by decide) (by decide) (by decide) (by decide)
            refine lv_istore_n (lv' := [(3, .int v62), (5, .int (0 : Int32)), (4, .int (0 : Int32)), (2, .int v57), (1, .int (0 : Int32)), (0, .ref p0)]) hx hb d_X_shift_238 rfl hl (by decide) rfl (fun ls hl => ?_)
            refine lv_iload hx hb d_X_shift_239 (lv_at hl 2 rfl) ?_
            refine lv_bipush (v := 64) hx hb d_X_shift_241 (by decide) ?_
            refine lv_imul hx hb d_X_shift_243 ?_
            refine tpi (y := (0 : Int32)) (by decide) ?_
            refine lv_aload_n hx hb d_X_shift_244 rfl (lv_at hl 5 rfl) ?_
            refine va_get (D := D) (ci := 7) (v := .ref p9) (C := "SignMachineModel") (T := F_X) (N := 64) hx hb hk fi_X hown hK.1 hP 0 rfl rfl 20 (by decide) (hk _ k_1141) (fun _ h9 => h9) rfl d_X_shift_245 ?_
            refine lv_iload hx hb d_X_shift_248 (lv_at hl 1 rfl) ?_
            refine lv_iconst (v := 5) hx hb d_X_shift_250 (by decide) ?_
            refine lv_iadd hx hb d_X_shift_251 ?_
            refine tpi (y := (5 : Int32)) (by decide) ?_
            refine va_iald hx hb hK.1 hP 9 0 rfl rfl (by unfold vp_in; decide) d_X_shift_252 ?_
            refine lv_topi (fun v63 hv63 => ?_)
            have Rv63 := Ag97y9 ((5 : Int32)).toNatClampNeg
            rw [← hv63] at Rv63
            refine lv_iadd hx hb d_X_shift_253 ?_
            refine lv_topi (fun v64 hv64 => ?_)
            obtain ⟨ev64, Rv64⟩ : v64.toInt = (0 : Int) + v63.toInt ∧ (0 ≤ v64.toInt ∧ v64.toInt ≤ 63) := ad3 hv64 (show 0 ≤ (0 : Int32).toInt ∧ (0 : Int32).toInt ≤ 0 from by decide) Rv63 (by decide) (by decide) (by decide) (by decide)
            refine lv_istore (lv' := [(4, .int v64), (3, .int v62), (5, .int (0 : Int32)), (2, .int v57), (1, .int (0 : Int32)), (0, .ref p0)]) hx hb d_X_shift_254 hl (by decide) rfl (fun ls hl => ?_)
            refine lv_iinc (v := (1 : Int32)) (lv' := [(5, .int (1 : Int32)), (4, .int v64), (3, .int v62), (2, .int v57), (1, .int (0 : Int32)), (0, .ref p0)]) hx hb d_X_shift_256 hl (k := 2) rfl (by decide) (by decide) rfl (fun ls hl => ?_)
            refine lv_goto (tgt := 220) hx hb d_X_shift_259 (by decide) ?_
            refine lv_iload hx hb d_X_shift_220 (lv_at hl 0 rfl) ?_
            refine lv_iconst (v := 5) hx hb d_X_shift_222 (by decide) ?_
            refine lv_icmp_ge (tgt := 262) hx hb d_X_shift_223 (by decide) (fun c65 => absurd c65 (show ¬ (5 : Int32) ≤ (1 : Int32) from (by decide))) (fun c65 => ?_)
            refine lv_iload_n hx hb d_X_shift_226 rfl (lv_at hl 2 rfl) ?_
            refine lv_bipush (v := 64) hx hb d_X_shift_227 (by decide) ?_
            refine lv_imul hx hb d_X_shift_229 ?_
            refine lv_topi (fun v66 hv66 => ?_)
            obtain ⟨ev66, Rv66⟩ : v66.toInt = v62.toInt * (64 : Int) ∧ (0 ≤ v66.toInt ∧ v66.toInt ≤ 4032) := ml3 hv66 Rv62 (show 64 ≤ (64 : Int32).toInt ∧ (64 : Int32).toInt ≤ 64 from by decide) (by decide) (by decide) (by decide) (by decide) (by decide) (by decide)
            refine lv_aload_n hx hb d_X_shift_230 rfl (lv_at hl 5 rfl) ?_
            refine va_get (D := D) (ci := 7) (v := .ref p9) (C := "SignMachineModel") (T := F_X) (N := 64) hx hb hk fi_X hown hK.1 hP 0 rfl rfl 20 (by decide) (hk _ k_1141) (fun _ h9 => h9) rfl d_X_shift_231 ?_
            refine lv_iload hx hb d_X_shift_234 (lv_at hl 0 rfl) ?_
            refine va_iald hx hb hK.1 hP 9 0 rfl rfl (by unfold vp_in; decide) d_X_shift_236 ?_
            refine lv_topi (fun v67 hv67 => ?_)
            have Rv67 := Ag97y9 ((1 : Int32)).toNatClampNeg
            rw [← hv67] at Rv67
            refine lv_iadd hx hb d_X_shift_237 ?_
            refine lv_topi (fun v68 hv68 => ?_)
            obtain ⟨ev68, Rv68⟩ : v68.toInt = v66.toInt + v67.toInt ∧ (0 ≤ v68.toInt ∧ v68.toInt ≤ 4095) := ad3 hv68 Rv66 Rv67 (by decide) (by decide) (by decide) (by decide)
            refine lv_istore_n (lv' := [(3, .int v68), (5, .int (1 : Int32)), (4, .int v64), (2, .int v57), (1, .int (0 : Int32)), (0, .ref p0)]) hx hb d_X_shift_238 rfl hl (by decide) rfl (fun ls hl => ?_)
            refine lv_iload hx hb d_X_shift_239 (lv_at hl 2 rfl) ?_
            refine lv_bipush (v := 64) hx hb d_X_shift_241 (by decide) ?_
            refine lv_imul hx hb d_X_shift_243 ?_
            refine lv_topi (fun v69 hv69 => ?_)
            obtain ⟨ev69, Rv69⟩ : v69.toInt = v64.toInt * (64 : Int) ∧ (0 ≤ v69.toInt ∧ v69.toInt ≤ 4032) := ml3 hv69 Rv64 (show 64 ≤ (64 : Int32).toInt ∧ (64 : Int32).toInt ≤ 64 from by decide) (by decide) (by decide) (by decide) (by decide) (by decide) (by decide)
            refine lv_aload_n hx hb d_X_shift_244 rfl (lv_at hl 5 rfl) ?_
            refine va_get (D := D) (ci := 7) (v := .ref p9) (C := "SignMachineModel") (T := F_X) (N := 64) hx hb hk fi_X hown hK.1 hP 0 rfl rfl 20 (by decide) (hk _ k_1141) (fun _ h9 => h9) rfl d_X_shift_245 ?_
            refine lv_iload hx hb d_X_shift_248 (lv_at hl 1 rfl) ?_
            refine lv_iconst (v := 5) hx hb d_X_shift_250 (by decide) ?_
            refine lv_iadd hx hb d_X_shift_251 ?_
            refine tpi (y := (6 : Int32)) (by decide) ?_
            refine va_iald hx hb hK.1 hP 9 0 rfl rfl (by unfold vp_in; decide) d_X_shift_252 ?_
            refine lv_topi (fun v70 hv70 => ?_)
            have Rv70 := Ag97y9 ((6 : Int32)).toNatClampNeg
            rw [← hv70] at Rv70
            refine lv_iadd hx hb d_X_shift_253 ?_
            refine lv_topi (fun v71 hv71 => ?_)
            obtain ⟨ev71, Rv71⟩ : v71.toInt = v69.toInt + v70.toInt ∧ (0 ≤ v71.toInt ∧ v71.toInt ≤ 4095) := ad3 hv71 Rv69 Rv70 (by decide) (by decide) (by decide) (by decide)
            refine lv_istore (lv' := [(4, .int v71), (3, .int v68), (5, .int (1 : Int32)), (2, .int v57), (1, .int (0 : Int32)), (0, .ref p0)]) hx hb d_X_shift_254 hl (by decide) rfl (fun ls hl => ?_)
            refine lv_iinc (v := (2 : Int32)) (lv' := [(5, .int (2 : Int32)), (4, .int v71), (3, .int v68), (2, .int v57), (1, .int (0 : Int32)), (0, .ref p0)]) hx hb d_X_shift_256 hl (k := 2) rfl (by decide) (by decide) rfl (fun ls hl => ?_)
            refine lv_goto (tgt := 220) hx hb d_X_shift_259 (by decide) ?_
            refine lv_iload hx hb d_X_shift_220 (lv_at hl 0 rfl) ?_
            refine lv_iconst (v := 5) hx hb d_X_shift_222 (by decide) ?_
            refine lv_icmp_ge (tgt := 262) hx hb d_X_shift_223 (by decide) (fun c72 => absurd c72 (show ¬ (5 : Int32) ≤ (2 : Int32) from (by decide))) (fun c72 => ?_)
            refine lv_iload_n hx hb d_X_shift_226 rfl (lv_at hl 2 rfl) ?_
            refine lv_bipush (v := 64) hx hb d_X_shift_227 (by decide) ?_
            refine lv_imul hx hb d_X_shift_229 ?_
            refine lv_topi (fun v73 hv73 => ?_)
            obtain ⟨ev73, Rv73⟩ : v73.toInt = v68.toInt * (64 : Int) ∧ (0 ≤ v73.toInt ∧ v73.toInt ≤ 262080) := ml3 hv73 Rv68 (show 64 ≤ (64 : Int32).toInt ∧ (64 : Int32).toInt ≤ 64 from by decide) (by decide) (by decide) (by decide) (by decide) (by decide) (by decide)
            refine lv_aload_n hx hb d_X_shift_230 rfl (lv_at hl 5 rfl) ?_
            refine va_get (D := D) (ci := 7) (v := .ref p9) (C := "SignMachineModel") (T := F_X) (N := 64) hx hb hk fi_X hown hK.1 hP 0 rfl rfl 20 (by decide) (hk _ k_1141) (fun _ h9 => h9) rfl d_X_shift_231 ?_
            refine lv_iload hx hb d_X_shift_234 (lv_at hl 0 rfl) ?_
            refine va_iald hx hb hK.1 hP 9 0 rfl rfl (by unfold vp_in; decide) d_X_shift_236 ?_
            refine lv_topi (fun v74 hv74 => ?_)
            have Rv74 := Ag97y9 ((2 : Int32)).toNatClampNeg
            rw [← hv74] at Rv74
            refine lv_iadd hx hb d_X_shift_237 ?_
            refine lv_topi (fun v75 hv75 => ?_)
            obtain ⟨ev75, Rv75⟩ : v75.toInt = v73.toInt + v74.toInt ∧ (0 ≤ v75.toInt ∧ v75.toInt ≤ 262143) := ad3 hv75 Rv73 Rv74 (by decide) (by decide) (by decide) (by decide)
            refine lv_istore_n (lv' := [(3, .int v75), (5, .int (2 : Int32)), (4, .int v71), (2, .int v57), (1, .int (0 : Int32)), (0, .ref p0)]) hx hb d_X_shift_238 rfl hl (by decide) rfl (fun ls hl => ?_)
            refine lv_iload hx hb d_X_shift_239 (lv_at hl 2 rfl) ?_
            refine lv_bipush (v := 64) hx hb d_X_shift_241 (by decide) ?_
            refine lv_imul hx hb d_X_shift_243 ?_
            refine lv_topi (fun v76 hv76 => ?_)
            obtain ⟨ev76, Rv76⟩ : v76.toInt = v71.toInt * (64 : Int) ∧ (0 ≤ v76.toInt ∧ v76.toInt ≤ 262080) := ml3 hv76 Rv71 (show 64 ≤ (64 : Int32).toInt ∧ (64 : Int32).toInt ≤ 64 from by decide) (by decide) (by decide) (by decide) (by decide) (by decide) (by decide)
            refine lv_aload_n hx hb d_X_shift_244 rfl (lv_at hl 5 rfl) ?_
            refine va_get (D := D) (ci := 7) (v := .ref p9) (C := "SignMachineModel") (T := F_X) (N := 64) hx hb hk fi_X hown hK.1 hP 0 rfl rfl 20 (by decide) (hk _ k_1141) (fun _ h9 => h9) rfl d_X_shift_245 ?_
            refine lv_iload hx hb d_X_shift_248 (lv_at hl 1 rfl) ?_
            refine lv_iconst (v := 5) hx hb d_X_shift_250 (by decide) ?_
            refine lv_iadd hx hb d_X_shift_251 ?_
            refine tpi (y := (7 : Int32)) (by decide) ?_
            refine va_iald hx hb hK.1 hP 9 0 rfl rfl (by unfold vp_in; decide) d_X_shift_252 ?_
            refine lv_topi (fun v77 hv77 => ?_)
            have Rv77 := Ag97y9 ((7 : Int32)).toNatClampNeg
            rw [← hv77] at Rv77
            refine lv_iadd hx hb d_X_shift_253 ?_
            refine lv_topi (fun v78 hv78 => ?_)
            obtain ⟨ev78, Rv78⟩ : v78.toInt = v76.toInt + v77.toInt ∧ (0 ≤ v78.toInt ∧ v78.toInt ≤ 262143) := ad3 hv78 Rv76 Rv77 (by decide) (by decide) (by decide) (by decide)
            refine lv_istore (lv' := [(4, .int v78), (3, .int v75), (5, .int (2 : Int32)), (2, .int v57), (1, .int (0 : Int32)), (0, .ref p0)]) hx hb d_X_shift_254 hl (by decide) rfl (fun ls hl => ?_)
            refine lv_iinc (v := (3 : Int32)) (lv' := [(5, .int (3 : Int32)), (4, .int v78), (3, .int v75), (2, .int v57), (1, .int (0 : Int32)), (0, .ref p0)]) hx hb d_X_shift_256 hl (k := 2) rfl (by decide) (by decide) rfl (fun ls hl => ?_)
            refine lv_goto (tgt := 220) hx hb d_X_shift_259 (by decide) ?_
            refine lv_iload hx hb d_X_shift_220 (lv_at hl 0 rfl) ?_
            refine lv_iconst (v := 5) hx hb d_X_shift_222 (by decide) ?_
            refine lv_icmp_ge (tgt := 262) hx hb d_X_shift_223 (by decide) (fun c79 => absurd c79 (show ¬ (5 : Int32) ≤ (3 : Int32) from (by decide))) (fun c79 => ?_)
            refine lv_iload_n hx hb d_X_shift_226 rfl (lv_at hl 2 rfl) ?_
            refine lv_bipush (v := 64) hx hb d_X_shift_227 (by decide) ?_
            refine lv_imul hx hb d_X_shift_229 ?_
            refine lv_topi (fun v80 hv80 => ?_)
            obtain ⟨ev80, Rv80⟩ : v80.toInt = v75.toInt * (64 : Int) ∧ (0 ≤ v80.toInt ∧ v80.toInt ≤ 16777152) := ml3 hv80 Rv75 (show 64 ≤ (64 : Int32).toInt ∧ (64 : Int32).toInt ≤ 64 from by decide) (by decide) (by decide) (by decide) (by decide) (by decide) (by decide)
            refine lv_aload_n hx hb d_X_shift_230 rfl (lv_at hl 5 rfl) ?_
            refine va_get (D := D) (ci := 7) (v := .ref p9) (C := "SignMachineModel") (T := F_X) (N := 64) hx hb hk fi_X hown hK.1 hP 0 rfl rfl 20 (by decide) (hk _ k_1141) (fun _ h9 => h9) rfl d_X_shift_231 ?_
            refine lv_iload hx hb d_X_shift_234 (lv_at hl 0 rfl) ?_
            refine va_iald hx hb hK.1 hP 9 0 rfl rfl (by unfold vp_in; decide) d_X_shift_236 ?_
            refine lv_topi (fun v81 hv81 => ?_)
            have Rv81 := Ag97y9 ((3 : Int32)).toNatClampNeg
            rw [← hv81] at Rv81
            refine lv_iadd hx hb d_X_shift_237 ?_
            refine lv_topi (fun v82 hv82 => ?_)
            obtain ⟨ev82, Rv82⟩ : v82.toInt = v80.toInt + v81.toInt ∧ (0 ≤ v82.toInt ∧ v82.toInt ≤ 16777215) := ad3 hv82 Rv80 Rv81 (by decide) (by decide) (by decide) (by decide)
            refine lv_istore_n (lv' := [(3, .int v82), (5, .int (3 : Int32)), (4, .int v78), (2, .int v57), (1, .int (0 : Int32)), (0, .ref p0)]) hx hb d_X_shift_238 rfl hl (by decide) rfl (fun ls hl => ?_)
            refine lv_iload hx hb d_X_shift_239 (lv_at hl 2 rfl) ?_
            refine lv_bipush (v := 64) hx hb d_X_shift_241 (by decide) ?_
            refine lv_imul hx hb d_X_shift_243 ?_
            refine lv_topi (fun v83 hv83 => ?_)
            obtain ⟨ev83, Rv83⟩ : v83.toInt = v78.toInt * (64 : Int) ∧ (0 ≤ v83.toInt ∧ v83.toInt ≤ 16777152) := ml3 hv83 Rv78 (show 64 ≤ (64 : Int32).toInt ∧ (64 : Int32).toInt ≤ 64 from by decide) (by decide) (by decide) (by decide) (by decide) (by decide) (by decide)
            refine lv_aload_n hx hb d_X_shift_244 rfl (lv_at hl 5 rfl) ?_
            refine va_get (D := D) (ci := 7) (v := .ref p9) (C := "SignMachineModel") (T := F_X) (N := 64) hx hb hk fi_X hown hK.1 hP 0 rfl rfl 20 (by decide) (hk _ k_1141) (fun _ h9 => h9) rfl d_X_shift_245 ?_
            refine lv_iload hx hb d_X_shift_248 (lv_at hl 1 rfl) ?_
            refine lv_iconst (v := 5) hx hb d_X_shift_250 (by decide) ?_
            refine lv_iadd hx hb d_X_shift_251 ?_
            refine tpi (y := (8 : Int32)) (by decide) ?_
            refine va_iald hx hb hK.1 hP 9 0 rfl rfl (by unfold vp_in; decide) d_X_shift_252 ?_
            refine lv_topi (fun v84 hv84 => ?_)
            have Rv84 := Ag97y9 ((8 : Int32)).toNatClampNeg
            rw [← hv84] at Rv84
            refine lv_iadd hx hb d_X_shift_253 ?_
            refine lv_topi (fun v85 hv85 => ?_)
            obtain ⟨ev85, Rv85⟩ : v85.toInt = v83.toInt + v84.toInt ∧ (0 ≤ v85.toInt ∧ v85.toInt ≤ 16777215) := ad3 hv85 Rv83 Rv84 (by decide) (by decide) (by decide) (by decide)
            refine lv_istore (lv' := [(4, .int v85), (3, .int v82), (5, .int (3 : Int32)), (2, .int v57), (1, .int (0 : Int32)), (0, .ref p0)]) hx hb d_X_shift_254 hl (by decide) rfl (fun ls hl => ?_)
            refine lv_iinc (v := (4 : Int32)) (lv' := [(5, .int (4 : Int32)), (4, .int v85), (3, .int v82), (2, .int v57), (1, .int (0 : Int32)), (0, .ref p0)]) hx hb d_X_shift_256 hl (k := 2) rfl (by decide) (by decide) rfl (fun ls hl => ?_)
            refine lv_goto (tgt := 220) hx hb d_X_shift_259 (by decide) ?_
            refine lv_iload hx hb d_X_shift_220 (lv_at hl 0 rfl) ?_
            refine lv_iconst (v := 5) hx hb d_X_shift_222 (by decide) ?_
            refine lv_icmp_ge (tgt := 262) hx hb d_X_shift_223 (by decide) (fun c86 => absurd c86 (show ¬ (5 : Int32) ≤ (4 : Int32) from (by decide))) (fun c86 => ?_)
            refine lv_iload_n hx hb d_X_shift_226 rfl (lv_at hl 2 rfl) ?_
            refine lv_bipush (v := 64) hx hb d_X_shift_227 (by decide) ?_
            refine lv_imul hx hb d_X_shift_229 ?_
            refine lv_topi (fun v87 hv87 => ?_)
            obtain ⟨ev87, Rv87⟩ : v87.toInt = v82.toInt * (64 : Int) ∧ (0 ≤ v87.toInt ∧ v87.toInt ≤ 1073741760) := ml3 hv87 Rv82 (show 64 ≤ (64 : Int32).toInt ∧ (64 : Int32).toInt ≤ 64 from by decide) (by decide) (by decide) (by decide) (by decide) (by decide) (by decide)
            refine lv_aload_n hx hb d_X_shift_230 rfl (lv_at hl 5 rfl) ?_
            refine va_get (D := D) (ci := 7) (v := .ref p9) (C := "SignMachineModel") (T := F_X) (N := 64) hx hb hk fi_X hown hK.1 hP 0 rfl rfl 20 (by decide) (hk _ k_1141) (fun _ h9 => h9) rfl d_X_shift_231 ?_
            refine lv_iload hx hb d_X_shift_234 (lv_at hl 0 rfl) ?_
            refine va_iald hx hb hK.1 hP 9 0 rfl rfl (by unfold vp_in; decide) d_X_shift_236 ?_
            refine lv_topi (fun v88 hv88 => ?_)
            have Rv88 := Ag97y9 ((4 : Int32)).toNatClampNeg
            rw [← hv88] at Rv88
            refine lv_iadd hx hb d_X_shift_237 ?_
            refine lv_topi (fun v89 hv89 => ?_)
            obtain ⟨ev89, Rv89⟩ : v89.toInt = v87.toInt + v88.toInt ∧ (0 ≤ v89.toInt ∧ v89.toInt ≤ 1073741823) := ad3 hv89 Rv87 Rv88 (by decide) (by decide) (by decide) (by decide)
            refine lv_istore_n (lv' := [(3, .int v89), (5, .int (4 : Int32)), (4, .int v85), (2, .int v57), (1, .int (0 : Int32)), (0, .ref p0)]) hx hb d_X_shift_238 rfl hl (by decide) rfl (fun ls hl => ?_)
            refine lv_iload hx hb d_X_shift_239 (lv_at hl 2 rfl) ?_
            refine lv_bipush (v := 64) hx hb d_X_shift_241 (by decide) ?_
            refine lv_imul hx hb d_X_shift_243 ?_
            refine lv_topi (fun v90 hv90 => ?_)
            obtain ⟨ev90, Rv90⟩ : v90.toInt = v85.toInt * (64 : Int) ∧ (0 ≤ v90.toInt ∧ v90.toInt ≤ 1073741760) := ml3 hv90 Rv85 (show 64 ≤ (64 : Int32).toInt ∧ (64 : Int32).toInt ≤ 64 from by decide) (by decide) (by decide) (by decide) (by decide) (by decide) (by decide)
            refine lv_aload_n hx hb d_X_shift_244 rfl (lv_at hl 5 rfl) ?_
            refine va_get (D := D) (ci := 7) (v := .ref p9) (C := "SignMachineModel") (T := F_X) (N := 64) hx hb hk fi_X hown hK.1 hP 0 rfl rfl 20 (by decide) (hk _ k_1141) (fun _ h9 => h9) rfl d_X_shift_245 ?_
            refine lv_iload hx hb d_X_shift_248 (lv_at hl 1 rfl) ?_
            refine lv_iconst (v := 5) hx hb d_X_shift_250 (by decide) ?_
            refine lv_iadd hx hb d_X_shift_251 ?_
            refine tpi (y := (9 : Int32)) (by decide) ?_
            refine va_iald hx hb hK.1 hP 9 0 rfl rfl (by unfold vp_in; decide) d_X_shift_252 ?_
            refine lv_topi (fun v91 hv91 => ?_)
            have Rv91 := Ag97y9 ((9 : Int32)).toNatClampNeg
            rw [← hv91] at Rv91
            refine lv_iadd hx hb d_X_shift_253 ?_
            refine lv_topi (fun v92 hv92 => ?_)
            obtain ⟨ev92, Rv92⟩ : v92.toInt = v90.toInt + v91.toInt ∧ (0 ≤ v92.toInt ∧ v92.toInt ≤ 1073741823) := ad3 hv92 Rv90 Rv91 (by decide) (by decide) (by decide) (by decide)
            refine lv_istore (lv' := [(4, .int v92), (3, .int v89), (5, .int (4 : Int32)), (2, .int v57), (1, .int (0 : Int32)), (0, .ref p0)]) hx hb d_X_shift_254 hl (by decide) rfl (fun ls hl => ?_)
            refine lv_iinc (v := (5 : Int32)) (lv' := [(5, .int (5 : Int32)), (4, .int v92), (3, .int v89), (2, .int v57), (1, .int (0 : Int32)), (0, .ref p0)]) hx hb d_X_shift_256 hl (k := 2) rfl (by decide) (by decide) rfl (fun ls hl => ?_)
            refine lv_goto (tgt := 220) hx hb d_X_shift_259 (by decide) ?_
            refine lv_iload hx hb d_X_shift_220 (lv_at hl 0 rfl) ?_
            refine lv_iconst (v := 5) hx hb d_X_shift_222 (by decide) ?_
            refine lv_icmp_ge (tgt := 262) hx hb d_X_shift_223 (by decide) (fun c93 => ?_) (fun c93 => absurd (show (5 : Int32) ≤ (5 : Int32) from (by decide)) c93)
            refine lv_aload_n hx hb d_X_shift_262 rfl (lv_at hl 5 rfl) ?_
            refine va_get (D := D) (ci := 7) (v := .ref p4) (C := "SignMachineModel") (T := F_X) (N := 64) hx hb hk fi_X hown hK.1 hP 0 rfl rfl 3 (by decide) (hk _ k_1124) (fun _ h9 => h9) rfl d_X_shift_263 ?_
            refine lv_iconst (v := 0) hx hb d_X_shift_266 (by decide) ?_
            refine lv_iload_n hx hb d_X_shift_267 rfl (lv_at hl 2 rfl) ?_
            refine va_iast hx hb hK.1 hP hD hS 4 0 rfl rfl (by unfold vp_in; decide) d_X_shift_268 (fun H locs hP hD hS => ?_)
            have hP : va_P D classes (wS50 cI cJ cZ cB p0 p1 p2 p3 p4 p5 p6 p7 p8 p9 p10 p11 p12 p13 p14 p15 p16 p17 p18 p19 p20 p21 p22 p23 p24 p25 x0_4 x0_5 x0_6 x0_7 x0_8 x0_12 x0_13 x0_14 x0_15 x0_16 x0_17 x0_18 x0_22 x0_23 x0_24 x0_25 x0_26 x0_27 x0_28 x0_29 x0_30 x0_31 x0_32 x0_36 x0_39 x0_40 x0_44 x0_49 x0_51 x0_53 x0_54 x0_55 x0_56 x0_57 x0_58 x0_59 x0_60 x0_61 x0_62 y1 y2 y3 (upd y4 ((0 : Int32)).toNatClampNeg v89) y5 y6 y7 v50 g97y9 y10 y11 y12 y13 y14 y15 y16 y17 y18 y19 y20 y21 y22 y23 y24 y25) H := hP
            have hD : va_D A (wS50 cI cJ cZ cB p0 p1 p2 p3 p4 p5 p6 p7 p8 p9 p10 p11 p12 p13 p14 p15 p16 p17 p18 p19 p20 p21 p22 p23 p24 p25 x0_4 x0_5 x0_6 x0_7 x0_8 x0_12 x0_13 x0_14 x0_15 x0_16 x0_17 x0_18 x0_22 x0_23 x0_24 x0_25 x0_26 x0_27 x0_28 x0_29 x0_30 x0_31 x0_32 x0_36 x0_39 x0_40 x0_44 x0_49 x0_51 x0_53 x0_54 x0_55 x0_56 x0_57 x0_58 x0_59 x0_60 x0_61 x0_62 y1 y2 y3 (upd y4 ((0 : Int32)).toNatClampNeg v89) y5 y6 y7 v50 g97y9 y10 y11 y12 y13 y14 y15 y16 y17 y18 y19 y20 y21 y22 y23 y24 y25) := hD
            obtain ⟨v94, hv94⟩ : ∃ y : Nat → Int32, y = (upd y4 ((0 : Int32)).toNatClampNeg v89) := ⟨_, rfl⟩
            rw [← hv94] at hP hD
            have : ((((0 : Int32)).toNatClampNeg : Nat) : Int) = 0 := by decide
            have Gv94 : ((0 ≤ (v89).toInt ∧ (v89).toInt ≤ 1073741823) ∧ ((1 ≤ ((((0 : Int32)).toNatClampNeg : Nat) : Int) ∧ ((((0 : Int32)).toNatClampNeg : Nat) : Int) ≤ 6) → (v89).toInt ≤ 4095)) := ⟨Rv89, fun h => absurd h (by decide)⟩
            have Av94 : ∀ i : Nat, ((0 ≤ (v94 i).toInt ∧ (v94 i).toInt ≤ 1073741823) ∧ ((1 ≤ (i : Int) ∧ (i : Int) ≤ 6) → (v94 i).toInt ≤ 4095)) := by rw [hv94]; exact upd_all (P := fun i x => ((0 ≤ (x).toInt ∧ (x).toInt ≤ 1073741823) ∧ ((1 ≤ (i : Int) ∧ (i : Int) ≤ 6) → (x).toInt ≤ 4095))) Ay4 Gv94
            clear hv94
            refine lv_aload_n hx hb d_X_shift_269 rfl (lv_at hl 5 rfl) ?_
            refine va_get (D := D) (ci := 7) (v := .ref p4) (C := "SignMachineModel") (T := F_X) (N := 64) hx hb hk fi_X hown hK.1 hP 0 rfl rfl 3 (by decide) (hk _ k_1124) (fun _ h9 => h9) rfl d_X_shift_270 ?_
            refine lv_bipush (v := 7) hx hb d_X_shift_273 (by decide) ?_
            refine lv_iload hx hb d_X_shift_275 (lv_at hl 1 rfl) ?_
            refine va_iast hx hb hK.1 hP hD hS 4 0 rfl rfl (by unfold vp_in; decide) d_X_shift_277 (fun H locs hP hD hS => ?_)
            have hP : va_P D classes (wS50 cI cJ cZ cB p0 p1 p2 p3 p4 p5 p6 p7 p8 p9 p10 p11 p12 p13 p14 p15 p16 p17 p18 p19 p20 p21 p22 p23 p24 p25 x0_4 x0_5 x0_6 x0_7 x0_8 x0_12 x0_13 x0_14 x0_15 x0_16 x0_17 x0_18 x0_22 x0_23 x0_24 x0_25 x0_26 x0_27 x0_28 x0_29 x0_30 x0_31 x0_32 x0_36 x0_39 x0_40 x0_44 x0_49 x0_51 x0_53 x0_54 x0_55 x0_56 x0_57 x0_58 x0_59 x0_60 x0_61 x0_62 y1 y2 y3 (upd v94 ((7 : Int32)).toNatClampNeg v92) y5 y6 y7 v50 g97y9 y10 y11 y12 y13 y14 y15 y16 y17 y18 y19 y20 y21 y22 y23 y24 y25) H := hP
            have hD : va_D A (wS50 cI cJ cZ cB p0 p1 p2 p3 p4 p5 p6 p7 p8 p9 p10 p11 p12 p13 p14 p15 p16 p17 p18 p19 p20 p21 p22 p23 p24 p25 x0_4 x0_5 x0_6 x0_7 x0_8 x0_12 x0_13 x0_14 x0_15 x0_16 x0_17 x0_18 x0_22 x0_23 x0_24 x0_25 x0_26 x0_27 x0_28 x0_29 x0_30 x0_31 x0_32 x0_36 x0_39 x0_40 x0_44 x0_49 x0_51 x0_53 x0_54 x0_55 x0_56 x0_57 x0_58 x0_59 x0_60 x0_61 x0_62 y1 y2 y3 (upd v94 ((7 : Int32)).toNatClampNeg v92) y5 y6 y7 v50 g97y9 y10 y11 y12 y13 y14 y15 y16 y17 y18 y19 y20 y21 y22 y23 y24 y25) := hD
            obtain ⟨v95, hv95⟩ : ∃ y : Nat → Int32, y = (upd v94 ((7 : Int32)).toNatClampNeg v92) := ⟨_, rfl⟩
            rw [← hv95] at hP hD
            have : ((((7 : Int32)).toNatClampNeg : Nat) : Int) = 7 := by decide
            have Gv95 : ((0 ≤ (v92).toInt ∧ (v92).toInt ≤ 1073741823) ∧ ((1 ≤ ((((7 : Int32)).toNatClampNeg : Nat) : Int) ∧ ((((7 : Int32)).toNatClampNeg : Nat) : Int) ≤ 6) → (v92).toInt ≤ 4095)) := ⟨Rv92, fun h => absurd h (by decide)⟩
            have Av95 : ∀ i : Nat, ((0 ≤ (v95 i).toInt ∧ (v95 i).toInt ≤ 1073741823) ∧ ((1 ≤ (i : Int) ∧ (i : Int) ≤ 6) → (v95 i).toInt ≤ 4095)) := by rw [hv95]; exact upd_all (P := fun i x => ((0 ≤ (x).toInt ∧ (x).toInt ≤ 1073741823) ∧ ((1 ≤ (i : Int) ∧ (i : Int) ≤ 6) → (x).toInt ≤ 4095))) Av94 Gv95
            clear hv95
            exact W.vret hx hb hr (fun t ht hW => ⟨⟨(), rfl, trivial, ⟨v95, v50, g97y9, Av95, Av50, Ag97y9, by show va_P D classes _ t.heap; rw [ht]; exact hP, hD⟩⟩, hS.F ht⟩) hS.2.2 d_X_shift_278
          · have gc58 : g97l3.toInt < (10 : Int) := c_nle c58
            have R96 : 0 ≤ g97l3.toInt ∧ g97l3.toInt ≤ 9 := rf_ltX Rg97l3 (show 10 ≤ (10 : Int) ∧ (10 : Int) ≤ 10 from by decide) gc58 (by decide) (by decide)
            refine lv_iload_n hx hb d_X_shift_103 rfl (lv_at hl 0 rfl) ?_
            refine lv_i2l (v := (g97l3 : Int32).toInt64) hx hb d_X_shift_104 rfl ?_
            refine lv_topl (fun v97 hv97 => ?_)
            obtain ⟨ev97, Rv97⟩ : v97.toInt = g97l3.toInt ∧ (0 ≤ v97.toInt ∧ v97.toInt ≤ 9) := il3 hv97 R96
            refine lv_iload_n hx hb d_X_shift_105 rfl (lv_at hl 1 rfl) ?_
            refine lv_i2l (v := (v57 : Int32).toInt64) hx hb d_X_shift_106 rfl ?_
            refine lv_topl (fun v98 hv98 => ?_)
            obtain ⟨ev98, Rv98⟩ : v98.toInt = v57.toInt ∧ ((-8190) ≤ v98.toInt ∧ v98.toInt ≤ 8190) := il3 hv98 Rv57
            refine lv_ladd hx hb d_X_shift_107 ?_
            refine lv_topl (fun v99 hv99 => ?_)
            obtain ⟨ev99, Rv99⟩ : v99.toInt = v97.toInt + v98.toInt ∧ ((-8190) ≤ v99.toInt ∧ v99.toInt ≤ 8199) := ad6 hv99 Rv97 Rv98 (by decide) (by decide) (by decide) (by decide)
            refine lv_lstore (lv' := [(4, .long v99), (3, .int g97l3), (2, .int v57), (1, .int (0 : Int32)), (0, .ref p0)]) hx hb d_X_shift_108 hl (by decide) rfl (fun ls hl => ?_)
            refine lv_aload_n hx hb d_X_shift_110 rfl (lv_at hl 4 rfl) ?_
            refine va_get (D := D) (ci := 7) (v := .int x0_13) (C := "SignMachineModel") (T := F_X) (N := 64) hx hb hk fi_X hown hK.1 hP 0 rfl rfl 13 (by decide) (hk _ k_1134) (fun _ h9 => h9) rfl d_X_shift_111 ?_
            refine lv_iconst (v := 4) hx hb d_X_shift_114 (by decide) ?_
            refine lv_icmp_lt (tgt := 134) hx hb d_X_shift_115 (by decide) (fun c100 => ?_) (fun c100 => ?_)
            · have gc100 : x0_13.toInt < (4 : Int) := c_lt c100
              have R101 : 2 ≤ x0_13.toInt ∧ x0_13.toInt ≤ 3 := rf_ltX R53 (show 4 ≤ (4 : Int) ∧ (4 : Int) ≤ 4 from by decide) gc100 (by decide) (by decide)
              refine lv_iload_n hx hb d_X_shift_134 rfl (lv_at hl 3 rfl) ?_
              refine lv_if_eq (tgt := 147) hx hb d_X_shift_135 (by decide) (fun c102 => ?_) (fun c102 => absurd (show (0 : Int32) = (0 : Int32) from (by decide)) c102)
              refine lv_iconst (v := 0) hx hb d_X_shift_147 (by decide) ?_
              refine lv_istore (lv' := [(6, .int (0 : Int32)), (4, .long v99), (3, .int g97l3), (2, .int v57), (1, .int (0 : Int32)), (0, .ref p0)]) hx hb d_X_shift_148 hl (by decide) rfl (fun ls hl => ?_)
              refine lv_aload_n hx hb d_X_shift_150 rfl (lv_at hl 5 rfl) ?_
              refine va_get (D := D) (ci := 7) (v := .ref p9) (C := "SignMachineModel") (T := F_X) (N := 64) hx hb hk fi_X hown hK.1 hP 0 rfl rfl 20 (by decide) (hk _ k_1141) (fun _ h9 => h9) rfl d_X_shift_151 ?_
              refine lv_iload_n hx hb d_X_shift_154 rfl (lv_at hl 2 rfl) ?_
              refine lv_iload hx hb d_X_shift_155 (lv_at hl 0 rfl) ?_
              refine lv_if_eq (tgt := 169) hx hb d_X_shift_157 (by decide) (fun c103 => ?_) (fun c103 => absurd (show (0 : Int32) = (0 : Int32) from (by decide)) c103)
              refine lv_lload hx hb d_X_shift_169 (lv_at hl 1 rfl) ?_
              refine lv_lconst (v := 0) hx hb d_X_shift_171 (by decide) ?_
              refine W.lcmp hx hb d_X_shift_172 ?_
              refine lv_topi (fun v104 hv104 => ?_)
              refine lv_if_lt (tgt := 204) hx hb d_X_shift_173 (by decide) (fun c105 => ?_) (fun c105 => ?_)
              · have gc105 : v99.toInt < (0 : Int) := lc_lt hv104 c105
                have R106 : (-8190) ≤ v99.toInt ∧ v99.toInt ≤ (-1) := rf_ltX Rv99 (show 0 ≤ (0 : Int) ∧ (0 : Int) ≤ 0 from by decide) gc105 (by decide) (by decide)
                refine lv_iconst (v := 0) hx hb d_X_shift_204 (by decide) ?_
                refine va_iast hx hb hK.1 hP hD hS 9 0 rfl rfl (vpb R96 (by decide) (by decide)) d_X_shift_205 (fun H locs hP hD hS => ?_)
                have hP : va_P D classes (wS50 cI cJ cZ cB p0 p1 p2 p3 p4 p5 p6 p7 p8 p9 p10 p11 p12 p13 p14 p15 p16 p17 p18 p19 p20 p21 p22 p23 p24 p25 x0_4 x0_5 x0_6 x0_7 x0_8 x0_12 x0_13 x0_14 x0_15 x0_16 x0_17 x0_18 x0_22 x0_23 x0_24 x0_25 x0_26 x0_27 x0_28 x0_29 x0_30 x0_31 x0_32 x0_36 x0_39 x0_40 x0_44 x0_49 x0_51 x0_53 x0_54 x0_55 x0_56 x0_57 x0_58 x0_59 x0_60 x0_61 x0_62 y1 y2 y3 y4 y5 y6 y7 v50 (upd g97y9 (g97l3).toNatClampNeg (0 : Int32)) y10 y11 y12 y13 y14 y15 y16 y17 y18 y19 y20 y21 y22 y23 y24 y25) H := hP
                have hD : va_D A (wS50 cI cJ cZ cB p0 p1 p2 p3 p4 p5 p6 p7 p8 p9 p10 p11 p12 p13 p14 p15 p16 p17 p18 p19 p20 p21 p22 p23 p24 p25 x0_4 x0_5 x0_6 x0_7 x0_8 x0_12 x0_13 x0_14 x0_15 x0_16 x0_17 x0_18 x0_22 x0_23 x0_24 x0_25 x0_26 x0_27 x0_28 x0_29 x0_30 x0_31 x0_32 x0_36 x0_39 x0_40 x0_44 x0_49 x0_51 x0_53 x0_54 x0_55 x0_56 x0_57 x0_58 x0_59 x0_60 x0_61 x0_62 y1 y2 y3 y4 y5 y6 y7 v50 (upd g97y9 (g97l3).toNatClampNeg (0 : Int32)) y10 y11 y12 y13 y14 y15 y16 y17 y18 y19 y20 y21 y22 y23 y24 y25) := hD
                obtain ⟨v107, hv107⟩ : ∃ y : Nat → Int32, y = (upd g97y9 (g97l3).toNatClampNeg (0 : Int32)) := ⟨_, rfl⟩
                rw [← hv107] at hP hD
                have Gv107 : (0 ≤ ((0 : Int32)).toInt ∧ ((0 : Int32)).toInt ≤ 63) := (by decide)
                have Av107 : ∀ i : Nat, (0 ≤ (v107 i).toInt ∧ (v107 i).toInt ≤ 63) := by rw [hv107]; exact upd_all (P := fun i x => (0 ≤ (x).toInt ∧ (x).toInt ≤ 63)) Ag97y9 Gv107
                clear hv107
                obtain ⟨v108, hv108⟩ : ∃ y : Int32, y = (g97l3 + (1 : Int32)) := ⟨_, rfl⟩
                obtain ⟨ev108, Rv108⟩ : v108.toInt = g97l3.toInt + 1 ∧ (1 ≤ v108.toInt ∧ v108.toInt ≤ 10) := ad3 hv108 R96 (y := (1 : Int32)) (c := 1) (d := 1) (by decide) (by decide) (by decide) (by decide) (by decide)
                refine lv_iinc (v := v108) (lv' := [(3, .int v108), (6, .int (0 : Int32)), (4, .long v99), (2, .int v57), (1, .int (0 : Int32)), (0, .ref p0)]) hx hb d_X_shift_206 hl (k := 2) rfl (by rw [hv108]; rfl) (by decide) rfl (fun ls hl => ?_)
                refine lv_goto (tgt := 97) hx hb d_X_shift_209 (by decide) ?_
                exact ih97 v108 v107 H _ ls (show 10 - v108.toInt < (n : Int) from by omega) (rgw Rv108 (by decide) (by decide)) Av107 hP hD hS (lv_sub hl [0, 3, 4, 5] rfl)
              · have gc105 : (0 : Int) ≤ v99.toInt := lc_nlt hv104 c105
                have R109 : 0 ≤ v99.toInt ∧ v99.toInt ≤ 8199 := rf_geX Rv99 (show 0 ≤ (0 : Int) ∧ (0 : Int) ≤ 0 from by decide) gc105 (by decide) (by decide)
                refine lv_lload hx hb d_X_shift_176 (lv_at hl 1 rfl) ?_
                refine lv_iload_n hx hb d_X_shift_178 rfl (lv_at hl 4 rfl) ?_
                refine lv_if_eq (tgt := 186) hx hb d_X_shift_179 (by decide) (fun c110 => ?_) (fun c110 => absurd (show (0 : Int32) = (0 : Int32) from (by decide)) c110)
                refine lv_bipush (v := 10) hx hb d_X_shift_186 (by decide) ?_
                refine lv_i2l (v := ((10 : Int32) : Int32).toInt64) hx hb d_X_shift_188 rfl ?_
                refine tpl (y := (10 : Int64)) (by decide) ?_
                refine W.lcmp hx hb d_X_shift_189 ?_
                refine lv_topi (fun v111 hv111 => ?_)
                refine lv_if_ge (tgt := 204) hx hb d_X_shift_190 (by decide) (fun c112 => ?_) (fun c112 => ?_)
                · have gc112 : (10 : Int) ≤ v99.toInt := lc_ge hv111 c112
                  have R113 : 10 ≤ v99.toInt ∧ v99.toInt ≤ 8199 := rf_geX R109 (show 10 ≤ (10 : Int) ∧ (10 : Int) ≤ 10 from by decide) gc112 (by decide) (by decide)
                  refine lv_iconst (v := 0) hx hb d_X_shift_204 (by decide) ?_
                  refine va_iast hx hb hK.1 hP hD hS 9 0 rfl rfl (vpb R96 (by decide) (by decide)) d_X_shift_205 (fun H locs hP hD hS => ?_)
                  have hP : va_P D classes (wS50 cI cJ cZ cB p0 p1 p2 p3 p4 p5 p6 p7 p8 p9 p10 p11 p12 p13 p14 p15 p16 p17 p18 p19 p20 p21 p22 p23 p24 p25 x0_4 x0_5 x0_6 x0_7 x0_8 x0_12 x0_13 x0_14 x0_15 x0_16 x0_17 x0_18 x0_22 x0_23 x0_24 x0_25 x0_26 x0_27 x0_28 x0_29 x0_30 x0_31 x0_32 x0_36 x0_39 x0_40 x0_44 x0_49 x0_51 x0_53 x0_54 x0_55 x0_56 x0_57 x0_58 x0_59 x0_60 x0_61 x0_62 y1 y2 y3 y4 y5 y6 y7 v50 (upd g97y9 (g97l3).toNatClampNeg (0 : Int32)) y10 y11 y12 y13 y14 y15 y16 y17 y18 y19 y20 y21 y22 y23 y24 y25) H := hP
                  have hD : va_D A (wS50 cI cJ cZ cB p0 p1 p2 p3 p4 p5 p6 p7 p8 p9 p10 p11 p12 p13 p14 p15 p16 p17 p18 p19 p20 p21 p22 p23 p24 p25 x0_4 x0_5 x0_6 x0_7 x0_8 x0_12 x0_13 x0_14 x0_15 x0_16 x0_17 x0_18 x0_22 x0_23 x0_24 x0_25 x0_26 x0_27 x0_28 x0_29 x0_30 x0_31 x0_32 x0_36 x0_39 x0_40 x0_44 x0_49 x0_51 x0_53 x0_54 x0_55 x0_56 x0_57 x0_58 x0_59 x0_60 x0_61 x0_62 y1 y2 y3 y4 y5 y6 y7 v50 (upd g97y9 (g97l3).toNatClampNeg (0 : Int32)) y10 y11 y12 y13 y14 y15 y16 y17 y18 y19 y20 y21 y22 y23 y24 y25) := hD
                  obtain ⟨v114, hv114⟩ : ∃ y : Nat → Int32, y = (upd g97y9 (g97l3).toNatClampNeg (0 : Int32)) := ⟨_, rfl⟩
                  rw [← hv114] at hP hD
                  have Gv114 : (0 ≤ ((0 : Int32)).toInt ∧ ((0 : Int32)).toInt ≤ 63) := (by decide)
                  have Av114 : ∀ i : Nat, (0 ≤ (v114 i).toInt ∧ (v114 i).toInt ≤ 63) := by rw [hv114]; exact upd_all (P := fun i x => (0 ≤ (x).toInt ∧ (x).toInt ≤ 63)) Ag97y9 Gv114
                  clear hv114
                  obtain ⟨v115, hv115⟩ : ∃ y : Int32, y = (g97l3 + (1 : Int32)) := ⟨_, rfl⟩
                  obtain ⟨ev115, Rv115⟩ : v115.toInt = g97l3.toInt + 1 ∧ (1 ≤ v115.toInt ∧ v115.toInt ≤ 10) := ad3 hv115 R96 (y := (1 : Int32)) (c := 1) (d := 1) (by decide) (by decide) (by decide) (by decide) (by decide)
                  refine lv_iinc (v := v115) (lv' := [(3, .int v115), (6, .int (0 : Int32)), (4, .long v99), (2, .int v57), (1, .int (0 : Int32)), (0, .ref p0)]) hx hb d_X_shift_206 hl (k := 2) rfl (by rw [hv115]; rfl) (by decide) rfl (fun ls hl => ?_)
                  refine lv_goto (tgt := 97) hx hb d_X_shift_209 (by decide) ?_
                  exact ih97 v115 v114 H _ ls (show 10 - v115.toInt < (n : Int) from by omega) (rgw Rv115 (by decide) (by decide)) Av114 hP hD hS (lv_sub hl [0, 3, 4, 5] rfl)
                · have gc112 : v99.toInt < (10 : Int) := lc_nge hv111 c112
                  have R116 : 0 ≤ v99.toInt ∧ v99.toInt ≤ 9 := rf_ltX R109 (show 10 ≤ (10 : Int) ∧ (10 : Int) ≤ 10 from by decide) gc112 (by decide) (by decide)
                  refine lv_aload_n hx hb d_X_shift_193 rfl (lv_at hl 5 rfl) ?_
                  refine va_get (D := D) (ci := 7) (v := .ref p8) (C := "SignMachineModel") (T := F_X) (N := 64) hx hb hk fi_X hown hK.1 hP 0 rfl rfl 19 (by decide) (hk _ k_1140) (fun _ h9 => h9) rfl d_X_shift_194 ?_
                  refine lv_lload hx hb d_X_shift_197 (lv_at hl 1 rfl) ?_
                  refine lv_l2i (v := (v99 : Int64).toInt32) hx hb d_X_shift_199 rfl ?_
                  refine lv_topi (fun v117 hv117 => ?_)
                  obtain ⟨ev117, Rv117⟩ : v117.toInt = v99.toInt ∧ (0 ≤ v117.toInt ∧ v117.toInt ≤ 9) := li3 hv117 R116 (by decide) (by decide)
                  refine va_iald hx hb hK.1 hP 8 0 rfl rfl (vpb Rv117 (by decide) (by decide)) d_X_shift_200 ?_
                  refine lv_topi (fun v118 hv118 => ?_)
                  have Rv118 := Av50 (v117).toNatClampNeg
                  rw [← hv118] at Rv118
                  refine lv_goto (tgt := 205) hx hb d_X_shift_201 (by decide) ?_
                  refine va_iast hx hb hK.1 hP hD hS 9 0 rfl rfl (vpb R96 (by decide) (by decide)) d_X_shift_205 (fun H locs hP hD hS => ?_)
                  have hP : va_P D classes (wS50 cI cJ cZ cB p0 p1 p2 p3 p4 p5 p6 p7 p8 p9 p10 p11 p12 p13 p14 p15 p16 p17 p18 p19 p20 p21 p22 p23 p24 p25 x0_4 x0_5 x0_6 x0_7 x0_8 x0_12 x0_13 x0_14 x0_15 x0_16 x0_17 x0_18 x0_22 x0_23 x0_24 x0_25 x0_26 x0_27 x0_28 x0_29 x0_30 x0_31 x0_32 x0_36 x0_39 x0_40 x0_44 x0_49 x0_51 x0_53 x0_54 x0_55 x0_56 x0_57 x0_58 x0_59 x0_60 x0_61 x0_62 y1 y2 y3 y4 y5 y6 y7 v50 (upd g97y9 (g97l3).toNatClampNeg v118) y10 y11 y12 y13 y14 y15 y16 y17 y18 y19 y20 y21 y22 y23 y24 y25) H := hP
                  have hD : va_D A (wS50 cI cJ cZ cB p0 p1 p2 p3 p4 p5 p6 p7 p8 p9 p10 p11 p12 p13 p14 p15 p16 p17 p18 p19 p20 p21 p22 p23 p24 p25 x0_4 x0_5 x0_6 x0_7 x0_8 x0_12 x0_13 x0_14 x0_15 x0_16 x0_17 x0_18 x0_22 x0_23 x0_24 x0_25 x0_26 x0_27 x0_28 x0_29 x0_30 x0_31 x0_32 x0_36 x0_39 x0_40 x0_44 x0_49 x0_51 x0_53 x0_54 x0_55 x0_56 x0_57 x0_58 x0_59 x0_60 x0_61 x0_62 y1 y2 y3 y4 y5 y6 y7 v50 (upd g97y9 (g97l3).toNatClampNeg v118) y10 y11 y12 y13 y14 y15 y16 y17 y18 y19 y20 y21 y22 y23 y24 y25) := hD
                  obtain ⟨v119, hv119⟩ : ∃ y : Nat → Int32, y = (upd g97y9 (g97l3).toNatClampNeg v118) := ⟨_, rfl⟩
                  rw [← hv119] at hP hD
                  have Gv119 : (0 ≤ (v118).toInt ∧ (v118).toInt ≤ 63) := Rv118
                  have Av119 : ∀ i : Nat, (0 ≤ (v119 i).toInt ∧ (v119 i).toInt ≤ 63) := by rw [hv119]; exact upd_all (P := fun i x => (0 ≤ (x).toInt ∧ (x).toInt ≤ 63)) Ag97y9 Gv119
                  clear hv119
                  obtain ⟨v120, hv120⟩ : ∃ y : Int32, y = (g97l3 + (1 : Int32)) := ⟨_, rfl⟩
                  obtain ⟨ev120, Rv120⟩ : v120.toInt = g97l3.toInt + 1 ∧ (1 ≤ v120.toInt ∧ v120.toInt ≤ 10) := ad3 hv120 R96 (y := (1 : Int32)) (c := 1) (d := 1) (by decide) (by decide) (by decide) (by decide) (by decide)
                  refine lv_iinc (v := v120) (lv' := [(3, .int v120), (6, .int (0 : Int32)), (4, .long v99), (2, .int v57), (1, .int (0 : Int32)), (0, .ref p0)]) hx hb d_X_shift_206 hl (k := 2) rfl (by rw [hv120]; rfl) (by decide) rfl (fun ls hl => ?_)
                  refine lv_goto (tgt := 97) hx hb d_X_shift_209 (by decide) ?_
                  exact ih97 v120 v119 H _ ls (show 10 - v120.toInt < (n : Int) from by omega) (rgw Rv120 (by decide) (by decide)) Av119 hP hD hS (lv_sub hl [0, 3, 4, 5] rfl)
            · have gc100 : (4 : Int) ≤ x0_13.toInt := c_nlt c100
              have R121 : 4 ≤ x0_13.toInt ∧ x0_13.toInt ≤ 63 := rf_geX R53 (show 4 ≤ (4 : Int) ∧ (4 : Int) ≤ 4 from by decide) gc100 (by decide) (by decide)
              refine lv_lload hx hb d_X_shift_118 (lv_at hl 0 rfl) ?_
              refine lv_ldc2 (v := 10) hx hb hown (hk _ k_1490) d_X_shift_120 ?_
              refine lv_lrem hx hb d_X_shift_123 (by decide) ?_
              refine lv_topl (fun v122 hv122 => ?_)
              have Rv122 : (-9) ≤ v122.toInt ∧ v122.toInt ≤ 9 := rz6 hv122 (show 10 ≤ (10 : Int64).toInt ∧ (10 : Int64).toInt ≤ 10 from by decide) (by decide) (by decide) (by decide)
              refine lv_ldc2 (v := 10) hx hb hown (hk _ k_1490) d_X_shift_124 ?_
              refine lv_ladd hx hb d_X_shift_127 ?_
              refine lv_topl (fun v123 hv123 => ?_)
              obtain ⟨ev123, Rv123⟩ : v123.toInt = v122.toInt + (10 : Int) ∧ (1 ≤ v123.toInt ∧ v123.toInt ≤ 19) := ad6 hv123 Rv122 (show 10 ≤ (10 : Int64).toInt ∧ (10 : Int64).toInt ≤ 10 from by decide) (by decide) (by decide) (by decide) (by decide)
              refine lv_ldc2 (v := 10) hx hb hown (hk _ k_1490) d_X_shift_128 ?_
              refine lv_lrem hx hb d_X_shift_131 (by decide) ?_
              refine lv_topl (fun v124 hv124 => ?_)
              obtain ⟨ev124, lv124, Rv124⟩ : v124.toInt = v123.toInt % (10 : Int) ∧ v124.toInt < (10 : Int) ∧ (0 ≤ v124.toInt ∧ v124.toInt ≤ 9) := rm6 hv124 Rv123 (show 10 ≤ (10 : Int64).toInt ∧ (10 : Int64).toInt ≤ 10 from by decide) (by decide) (by decide) (by decide)
              refine lv_lstore (lv' := [(4, .long v124), (3, .int g97l3), (2, .int v57), (1, .int (0 : Int32)), (0, .ref p0)]) hx hb d_X_shift_132 hl (by decide) rfl (fun ls hl => ?_)
              refine lv_iload_n hx hb d_X_shift_134 rfl (lv_at hl 3 rfl) ?_
              refine lv_if_eq (tgt := 147) hx hb d_X_shift_135 (by decide) (fun c125 => ?_) (fun c125 => absurd (show (0 : Int32) = (0 : Int32) from (by decide)) c125)
              refine lv_iconst (v := 0) hx hb d_X_shift_147 (by decide) ?_
              refine lv_istore (lv' := [(6, .int (0 : Int32)), (4, .long v124), (3, .int g97l3), (2, .int v57), (1, .int (0 : Int32)), (0, .ref p0)]) hx hb d_X_shift_148 hl (by decide) rfl (fun ls hl => ?_)
              refine lv_aload_n hx hb d_X_shift_150 rfl (lv_at hl 5 rfl) ?_
              refine va_get (D := D) (ci := 7) (v := .ref p9) (C := "SignMachineModel") (T := F_X) (N := 64) hx hb hk fi_X hown hK.1 hP 0 rfl rfl 20 (by decide) (hk _ k_1141) (fun _ h9 => h9) rfl d_X_shift_151 ?_
              refine lv_iload_n hx hb d_X_shift_154 rfl (lv_at hl 2 rfl) ?_
              refine lv_iload hx hb d_X_shift_155 (lv_at hl 0 rfl) ?_
              refine lv_if_eq (tgt := 169) hx hb d_X_shift_157 (by decide) (fun c126 => ?_) (fun c126 => absurd (show (0 : Int32) = (0 : Int32) from (by decide)) c126)
              refine lv_lload hx hb d_X_shift_169 (lv_at hl 1 rfl) ?_
              refine lv_lconst (v := 0) hx hb d_X_shift_171 (by decide) ?_
              refine W.lcmp hx hb d_X_shift_172 ?_
              refine lv_topi (fun v127 hv127 => ?_)
              refine lv_if_lt (tgt := 204) hx hb d_X_shift_173 (by decide) (fun c128 => absurd c128 (show ¬ v127 < (0 : Int32) from (lcr_nlt hv127 (kle (show 0 ≤ (0 : Int) ∧ (0 : Int) ≤ 0 from by decide) Rv124 (by decide))))) (fun c128 => ?_)
              refine lv_lload hx hb d_X_shift_176 (lv_at hl 1 rfl) ?_
              refine lv_iload_n hx hb d_X_shift_178 rfl (lv_at hl 4 rfl) ?_
              refine lv_if_eq (tgt := 186) hx hb d_X_shift_179 (by decide) (fun c129 => ?_) (fun c129 => absurd (show (0 : Int32) = (0 : Int32) from (by decide)) c129)
              refine lv_bipush (v := 10) hx hb d_X_shift_186 (by decide) ?_
              refine lv_i2l (v := ((10 : Int32) : Int32).toInt64) hx hb d_X_shift_188 rfl ?_
              refine tpl (y := (10 : Int64)) (by decide) ?_
              refine W.lcmp hx hb d_X_shift_189 ?_
              refine lv_topi (fun v130 hv130 => ?_)
              refine lv_if_ge (tgt := 204) hx hb d_X_shift_190 (by decide) (fun c131 => absurd c131 (show ¬ (0 : Int32) ≤ v130 from (lcr_nge hv130 (klt Rv124 (show 10 ≤ (10 : Int) ∧ (10 : Int) ≤ 10 from by decide) (by decide))))) (fun c131 => ?_)
              refine lv_aload_n hx hb d_X_shift_193 rfl (lv_at hl 5 rfl) ?_
              refine va_get (D := D) (ci := 7) (v := .ref p8) (C := "SignMachineModel") (T := F_X) (N := 64) hx hb hk fi_X hown hK.1 hP 0 rfl rfl 19 (by decide) (hk _ k_1140) (fun _ h9 => h9) rfl d_X_shift_194 ?_
              refine lv_lload hx hb d_X_shift_197 (lv_at hl 1 rfl) ?_
              refine lv_l2i (v := (v124 : Int64).toInt32) hx hb d_X_shift_199 rfl ?_
              refine lv_topi (fun v132 hv132 => ?_)
              obtain ⟨ev132, Rv132⟩ : v132.toInt = v124.toInt ∧ (0 ≤ v132.toInt ∧ v132.toInt ≤ 9) := li3 hv132 Rv124 (by decide) (by decide)
              refine va_iald hx hb hK.1 hP 8 0 rfl rfl (vpb Rv132 (by decide) (by decide)) d_X_shift_200 ?_
              refine lv_topi (fun v133 hv133 => ?_)
              have Rv133 := Av50 (v132).toNatClampNeg
              rw [← hv133] at Rv133
              refine lv_goto (tgt := 205) hx hb d_X_shift_201 (by decide) ?_
              refine va_iast hx hb hK.1 hP hD hS 9 0 rfl rfl (vpb R96 (by decide) (by decide)) d_X_shift_205 (fun H locs hP hD hS => ?_)
              have hP : va_P D classes (wS50 cI cJ cZ cB p0 p1 p2 p3 p4 p5 p6 p7 p8 p9 p10 p11 p12 p13 p14 p15 p16 p17 p18 p19 p20 p21 p22 p23 p24 p25 x0_4 x0_5 x0_6 x0_7 x0_8 x0_12 x0_13 x0_14 x0_15 x0_16 x0_17 x0_18 x0_22 x0_23 x0_24 x0_25 x0_26 x0_27 x0_28 x0_29 x0_30 x0_31 x0_32 x0_36 x0_39 x0_40 x0_44 x0_49 x0_51 x0_53 x0_54 x0_55 x0_56 x0_57 x0_58 x0_59 x0_60 x0_61 x0_62 y1 y2 y3 y4 y5 y6 y7 v50 (upd g97y9 (g97l3).toNatClampNeg v133) y10 y11 y12 y13 y14 y15 y16 y17 y18 y19 y20 y21 y22 y23 y24 y25) H := hP
              have hD : va_D A (wS50 cI cJ cZ cB p0 p1 p2 p3 p4 p5 p6 p7 p8 p9 p10 p11 p12 p13 p14 p15 p16 p17 p18 p19 p20 p21 p22 p23 p24 p25 x0_4 x0_5 x0_6 x0_7 x0_8 x0_12 x0_13 x0_14 x0_15 x0_16 x0_17 x0_18 x0_22 x0_23 x0_24 x0_25 x0_26 x0_27 x0_28 x0_29 x0_30 x0_31 x0_32 x0_36 x0_39 x0_40 x0_44 x0_49 x0_51 x0_53 x0_54 x0_55 x0_56 x0_57 x0_58 x0_59 x0_60 x0_61 x0_62 y1 y2 y3 y4 y5 y6 y7 v50 (upd g97y9 (g97l3).toNatClampNeg v133) y10 y11 y12 y13 y14 y15 y16 y17 y18 y19 y20 y21 y22 y23 y24 y25) := hD
              obtain ⟨v134, hv134⟩ : ∃ y : Nat → Int32, y = (upd g97y9 (g97l3).toNatClampNeg v133) := ⟨_, rfl⟩
              rw [← hv134] at hP hD
              have Gv134 : (0 ≤ (v133).toInt ∧ (v133).toInt ≤ 63) := Rv133
              have Av134 : ∀ i : Nat, (0 ≤ (v134 i).toInt ∧ (v134 i).toInt ≤ 63) := by rw [hv134]; exact upd_all (P := fun i x => (0 ≤ (x).toInt ∧ (x).toInt ≤ 63)) Ag97y9 Gv134
              clear hv134
              obtain ⟨v135, hv135⟩ : ∃ y : Int32, y = (g97l3 + (1 : Int32)) := ⟨_, rfl⟩
              obtain ⟨ev135, Rv135⟩ : v135.toInt = g97l3.toInt + 1 ∧ (1 ≤ v135.toInt ∧ v135.toInt ≤ 10) := ad3 hv135 R96 (y := (1 : Int32)) (c := 1) (d := 1) (by decide) (by decide) (by decide) (by decide) (by decide)
              refine lv_iinc (v := v135) (lv' := [(3, .int v135), (6, .int (0 : Int32)), (4, .long v124), (2, .int v57), (1, .int (0 : Int32)), (0, .ref p0)]) hx hb d_X_shift_206 hl (k := 2) rfl (by rw [hv135]; rfl) (by decide) rfl (fun ls hl => ?_)
              refine lv_goto (tgt := 97) hx hb d_X_shift_209 (by decide) ?_
              exact ih97 v135 v134 H _ ls (show 10 - v135.toInt < (n : Int) from by omega) (rgw Rv135 (by decide) (by decide)) Av134 hP hD hS (lv_sub hl [0, 3, 4, 5] rfl)
      exact CUT97 ((10 - (0 : Int)).toNat + 1) (0 : Int32) y9 H _ ls (show (10 - (0 : Int)) < (((10 - (0 : Int)).toNat + 1 : Nat) : Int) from by omega) (by decide) Ay9 hP hD hS (lv_sub hl [0, 1, 2, 3] rfl)
    · have gc55 : v54.toInt = (0 : Int) := c_eq c55
      have R136 : 0 ≤ v54.toInt ∧ v54.toInt ≤ 0 := rf_eqX Rv54 (show 0 ≤ (0 : Int) ∧ (0 : Int) ≤ 0 from by decide) gc55 (by decide) (by decide)
      refine lv_aload_n hx hb d_X_shift_82 rfl (lv_at hl 1 rfl) ?_
      refine va_get (D := D) (ci := 7) (v := .int x0_15) (C := "SignMachineModel") (T := F_X) (N := 64) hx hb hk fi_X hown hK.1 hP 0 rfl rfl 15 (by decide) (hk _ k_1136) (fun _ h9 => h9) rfl d_X_shift_83 ?_
      refine lv_goto (tgt := 94) hx hb d_X_shift_86 (by decide) ?_
      refine lv_istore_n (lv' := [(2, .int x0_15), (1, .int (0 : Int32)), (0, .ref p0)]) hx hb d_X_shift_94 rfl hl (by decide) rfl (fun ls hl => ?_)
      refine lv_iconst (v := 0) hx hb d_X_shift_95 (by decide) ?_
      refine lv_istore_n (lv' := [(3, .int (0 : Int32)), (2, .int x0_15), (1, .int (0 : Int32)), (0, .ref p0)]) hx hb d_X_shift_96 rfl hl (by decide) rfl (fun ls hl => ?_)
      have CUT97 : ∀ (n : Nat) (g97l3 : Int32) (g97y9 : Nat → Int32) (H : Heap) (locs : List Loc) (ls : Array Slot), (10 - g97l3.toInt) < (n : Int) → (0 ≤ g97l3.toInt ∧ g97l3.toInt ≤ 10) → (∀ i : Nat, (0 ≤ (g97y9 i).toInt ∧ (g97y9 i).toInt ≤ 63)) → va_P D classes (wS50 cI cJ cZ cB p0 p1 p2 p3 p4 p5 p6 p7 p8 p9 p10 p11 p12 p13 p14 p15 p16 p17 p18 p19 p20 p21 p22 p23 p24 p25 x0_4 x0_5 x0_6 x0_7 x0_8 x0_12 x0_13 x0_14 x0_15 x0_16 x0_17 x0_18 x0_22 x0_23 x0_24 x0_25 x0_26 x0_27 x0_28 x0_29 x0_30 x0_31 x0_32 x0_36 x0_39 x0_40 x0_44 x0_49 x0_51 x0_53 x0_54 x0_55 x0_56 x0_57 x0_58 x0_59 x0_60 x0_61 x0_62 y1 y2 y3 y4 y5 y6 y7 v50 g97y9 y10 y11 y12 y13 y14 y15 y16 y17 y18 y19 y20 y21 y22 y23 y24 y25) H → va_D A (wS50 cI cJ cZ cB p0 p1 p2 p3 p4 p5 p6 p7 p8 p9 p10 p11 p12 p13 p14 p15 p16 p17 p18 p19 p20 p21 p22 p23 p24 p25 x0_4 x0_5 x0_6 x0_7 x0_8 x0_12 x0_13 x0_14 x0_15 x0_16 x0_17 x0_18 x0_22 x0_23 x0_24 x0_25 x0_26 x0_27 x0_28 x0_29 x0_30 x0_31 x0_32 x0_36 x0_39 x0_40 x0_44 x0_49 x0_51 x0_53 x0_54 x0_55 x0_56 x0_57 x0_58 x0_59 x0_60 x0_61 x0_62 y1 y2 y3 y4 y5 y6 y7 v50 g97y9 y10 y11 y12 y13 y14 y15 y16 y17 y18 y19 y20 y21 y22 y23 y24 y25) → va_S A s.heap H locs → lv_has ls 7 [(3, .int g97l3), (2, .int x0_15), (1, .int (0 : Int32)), (0, .ref p0)] → W p l e ({ frames := 2, cells := 0, slots := 0, locals := 45 }) s m [.ref p0].toArray below meth c H locs 0 0 (MQ below (va_Qv (fun (_ : Unit) => True) (fun _ t => ∃ u_y4 : Nat → Int32, ∃ u_y8 : Nat → Int32, ∃ u_y9 : Nat → Int32, (∀ i : Nat, ((0 ≤ (u_y4 i).toInt ∧ (u_y4 i).toInt ≤ 1073741823) ∧ ((1 ≤ (i : Int) ∧ (i : Int) ≤ 6) → (u_y4 i).toInt ≤ 4095))) ∧ (∀ i : Nat, (0 ≤ (u_y8 i).toInt ∧ (u_y8 i).toInt ≤ 63)) ∧ (∀ i : Nat, (0 ≤ (u_y9 i).toInt ∧ (u_y9 i).toInt ≤ 63)) ∧ va_P D classes (wS50 cI cJ cZ cB p0 p1 p2 p3 p4 p5 p6 p7 p8 p9 p10 p11 p12 p13 p14 p15 p16 p17 p18 p19 p20 p21 p22 p23 p24 p25 x0_4 x0_5 x0_6 x0_7 x0_8 x0_12 x0_13 x0_14 x0_15 x0_16 x0_17 x0_18 x0_22 x0_23 x0_24 x0_25 x0_26 x0_27 x0_28 x0_29 x0_30 x0_31 x0_32 x0_36 x0_39 x0_40 x0_44 x0_49 x0_51 x0_53 x0_54 x0_55 x0_56 x0_57 x0_58 x0_59 x0_60 x0_61 x0_62 y1 y2 y3 u_y4 y5 y6 y7 u_y8 u_y9 y10 y11 y12 y13 y14 y15 y16 y17 y18 y19 y20 y21 y22 y23 y24 y25) t.heap ∧ va_D A (wS50 cI cJ cZ cB p0 p1 p2 p3 p4 p5 p6 p7 p8 p9 p10 p11 p12 p13 p14 p15 p16 p17 p18 p19 p20 p21 p22 p23 p24 p25 x0_4 x0_5 x0_6 x0_7 x0_8 x0_12 x0_13 x0_14 x0_15 x0_16 x0_17 x0_18 x0_22 x0_23 x0_24 x0_25 x0_26 x0_27 x0_28 x0_29 x0_30 x0_31 x0_32 x0_36 x0_39 x0_40 x0_44 x0_49 x0_51 x0_53 x0_54 x0_55 x0_56 x0_57 x0_58 x0_59 x0_60 x0_61 x0_62 y1 y2 y3 u_y4 y5 y6 y7 u_y8 u_y9 y10 y11 y12 y13 y14 y15 y16 y17 y18 y19 y20 y21 y22 y23 y24 y25)) A) [.ref p0].toArray s 0 0 A) (F0 m 97 ls []) := by
        intro n
        induction n with
        | zero => intro g97l3 g97y9 H locs ls hn97 Rg97l3 Ag97y9 hP hD hS hl; exfalso; omega
        | succ n ih97 =>
          intro g97l3 g97y9 H locs ls hn97 Rg97l3 Ag97y9 hP hD hS hl
          refine lv_iload_n hx hb d_X_shift_97 rfl (lv_at hl 0 rfl) ?_
          refine lv_bipush (v := 10) hx hb d_X_shift_98 (by decide) ?_
          refine lv_icmp_ge (tgt := 212) hx hb d_X_shift_100 (by decide) (fun c137 => ?_) (fun c137 => ?_)
          · have gc137 : (10 : Int) ≤ g97l3.toInt := c_le c137
            have R138 : 10 ≤ g97l3.toInt ∧ g97l3.toInt ≤ 10 := rf_geX Rg97l3 (show 10 ≤ (10 : Int) ∧ (10 : Int) ≤ 10 from by decide) gc137 (by decide) (by decide)
            refine lv_iconst (v := 0) hx hb d_X_shift_212 (by decide) ?_
            refine lv_istore_n (lv' := [(3, .int (0 : Int32)), (2, .int x0_15), (1, .int (0 : Int32)), (0, .ref p0)]) hx hb d_X_shift_213 rfl hl (by decide) rfl (fun ls hl => ?_)
            refine lv_iconst (v := 0) hx hb d_X_shift_214 (by decide) ?_
            refine lv_istore (lv' := [(4, .int (0 : Int32)), (3, .int (0 : Int32)), (2, .int x0_15), (1, .int (0 : Int32)), (0, .ref p0)]) hx hb d_X_shift_215 hl (by decide) rfl (fun ls hl => ?_)
            refine lv_iconst (v := 0) hx hb d_X_shift_217 (by decide) ?_
            refine lv_istore (lv' := [(5, .int (0 : Int32)), (4, .int (0 : Int32)), (3, .int (0 : Int32)), (2, .int x0_15), (1, .int (0 : Int32)), (0, .ref p0)]) hx hb d_X_shift_218 hl (by decide) rfl (fun ls hl => ?_)
            refine lv_iload hx hb d_X_shift_220 (lv_at hl 0 rfl) ?_
            refine lv_iconst (v := 5) hx hb d_X_shift_222 (by decide) ?_
            refine lv_icmp_ge (tgt := 262) hx hb d_X_shift_223 (by decide) (fun c139 => absurd c139 (show ¬ (5 : Int32) ≤ (0 : Int32) from (by decide))) (fun c139 => ?_)
            refine lv_iload_n hx hb d_X_shift_226 rfl (lv_at hl 2 rfl) ?_
            refine lv_bipush (v := 64) hx hb d_X_shift_227 (by decide) ?_
            refine lv_imul hx hb d_X_shift_229 ?_
            refine tpi (y := (0 : Int32)) (by decide) ?_
            refine lv_aload_n hx hb d_X_shift_230 rfl (lv_at hl 5 rfl) ?_
            refine va_get (D := D) (ci := 7) (v := .ref p9) (C := "SignMachineModel") (T := F_X) (N := 64) hx hb hk fi_X hown hK.1 hP 0 rfl rfl 20 (by decide) (hk _ k_1141) (fun _ h9 => h9) rfl d_X_shift_231 ?_
            refine lv_iload hx hb d_X_shift_234 (lv_at hl 0 rfl) ?_
            refine va_iald hx hb hK.1 hP 9 0 rfl rfl (by unfold vp_in; decide) d_X_shift_236 ?_
            refine lv_topi (fun v140 hv140 => ?_)
            have Rv140 := Ag97y9 ((0 : Int32)).toNatClampNeg
            rw [← hv140] at Rv140
            refine lv_iadd hx hb d_X_shift_237 ?_
            refine lv_topi (fun v141 hv141 => ?_)
            obtain ⟨ev141, Rv141⟩ : v141.toInt = (0 : Int) + v140.toInt ∧ (0 ≤ v141.toInt ∧ v141.toInt ≤ 63) := ad3 hv141 (show 0 ≤ (0 : Int32).toInt ∧ (0 : Int32).toInt ≤ 0 from by decide) Rv140 (by decide) (by decide) (by decide) (by decide)
            refine lv_istore_n (lv' := [(3, .int v141), (5, .int (0 : Int32)), (4, .int (0 : Int32)), (2, .int x0_15), (1, .int (0 : Int32)), (0, .ref p0)]) hx hb d_X_shift_238 rfl hl (by decide) rfl (fun ls hl => ?_)
            refine lv_iload hx hb d_X_shift_239 (lv_at hl 2 rfl) ?_
            refine lv_bipush (v := 64) hx hb d_X_shift_241 (by decide) ?_
            refine lv_imul hx hb d_X_shift_243 ?_
            refine tpi (y := (0 : Int32)) (by decide) ?_
            refine lv_aload_n hx hb d_X_shift_244 rfl (lv_at hl 5 rfl) ?_
            refine va_get (D := D) (ci := 7) (v := .ref p9) (C := "SignMachineModel") (T := F_X) (N := 64) hx hb hk fi_X hown hK.1 hP 0 rfl rfl 20 (by decide) (hk _ k_1141) (fun _ h9 => h9) rfl d_X_shift_245 ?_
            refine lv_iload hx hb d_X_shift_248 (lv_at hl 1 rfl) ?_
            refine lv_iconst (v := 5) hx hb d_X_shift_250 (by decide) ?_
            refine lv_iadd hx hb d_X_shift_251 ?_
            refine tpi (y := (5 : Int32)) (by decide) ?_
            refine va_iald hx hb hK.1 hP 9 0 rfl rfl (by unfold vp_in; decide) d_X_shift_252 ?_
            refine lv_topi (fun v142 hv142 => ?_)
            have Rv142 := Ag97y9 ((5 : Int32)).toNatClampNeg
            rw [← hv142] at Rv142
            refine lv_iadd hx hb d_X_shift_253 ?_
            refine lv_topi (fun v143 hv143 => ?_)
            obtain ⟨ev143, Rv143⟩ : v143.toInt = (0 : Int) + v142.toInt ∧ (0 ≤ v143.toInt ∧ v143.toInt ≤ 63) := ad3 hv143 (show 0 ≤ (0 : Int32).toInt ∧ (0 : Int32).toInt ≤ 0 from by decide) Rv142 (by decide) (by decide) (by decide) (by decide)
            refine lv_istore (lv' := [(4, .int v143), (3, .int v141), (5, .int (0 : Int32)), (2, .int x0_15), (1, .int (0 : Int32)), (0, .ref p0)]) hx hb d_X_shift_254 hl (by decide) rfl (fun ls hl => ?_)
            refine lv_iinc (v := (1 : Int32)) (lv' := [(5, .int (1 : Int32)), (4, .int v143), (3, .int v141), (2, .int x0_15), (1, .int (0 : Int32)), (0, .ref p0)]) hx hb d_X_shift_256 hl (k := 2) rfl (by decide) (by decide) rfl (fun ls hl => ?_)
            refine lv_goto (tgt := 220) hx hb d_X_shift_259 (by decide) ?_
            refine lv_iload hx hb d_X_shift_220 (lv_at hl 0 rfl) ?_
            refine lv_iconst (v := 5) hx hb d_X_shift_222 (by decide) ?_
            refine lv_icmp_ge (tgt := 262) hx hb d_X_shift_223 (by decide) (fun c144 => absurd c144 (show ¬ (5 : Int32) ≤ (1 : Int32) from (by decide))) (fun c144 => ?_)
            refine lv_iload_n hx hb d_X_shift_226 rfl (lv_at hl 2 rfl) ?_
            refine lv_bipush (v := 64) hx hb d_X_shift_227 (by decide) ?_
            refine lv_imul hx hb d_X_shift_229 ?_
            refine lv_topi (fun v145 hv145 => ?_)
            obtain ⟨ev145, Rv145⟩ : v145.toInt = v141.toInt * (64 : Int) ∧ (0 ≤ v145.toInt ∧ v145.toInt ≤ 4032) := ml3 hv145 Rv141 (show 64 ≤ (64 : Int32).toInt ∧ (64 : Int32).toInt ≤ 64 from by decide) (by decide) (by decide) (by decide) (by decide) (by decide) (by decide)
            refine lv_aload_n hx hb d_X_shift_230 rfl (lv_at hl 5 rfl) ?_
            refine va_get (D := D) (ci := 7) (v := .ref p9) (C := "SignMachineModel") (T := F_X) (N := 64) hx hb hk fi_X hown hK.1 hP 0 rfl rfl 20 (by decide) (hk _ k_1141) (fun _ h9 => h9) rfl d_X_shift_231 ?_
            refine lv_iload hx hb d_X_shift_234 (lv_at hl 0 rfl) ?_
            refine va_iald hx hb hK.1 hP 9 0 rfl rfl (by unfold vp_in; decide) d_X_shift_236 ?_
            refine lv_topi (fun v146 hv146 => ?_)
            have Rv146 := Ag97y9 ((1 : Int32)).toNatClampNeg
            rw [← hv146] at Rv146
            refine lv_iadd hx hb d_X_shift_237 ?_
            refine lv_topi (fun v147 hv147 => ?_)
            obtain ⟨ev147, Rv147⟩ : v147.toInt = v145.toInt + v146.toInt ∧ (0 ≤ v147.toInt ∧ v147.toInt ≤ 4095) := ad3 hv147 Rv145 Rv146 (by decide) (by decide) (by decide) (by decide)
            refine lv_istore_n (lv' := [(3, .int v147), (5, .int (1 : Int32)), (4, .int v143), (2, .int x0_15), (1, .int (0 : Int32)), (0, .ref p0)]) hx hb d_X_shift_238 rfl hl (by decide) rfl (fun ls hl => ?_)
            refine lv_iload hx hb d_X_shift_239 (lv_at hl 2 rfl) ?_
            refine lv_bipush (v := 64) hx hb d_X_shift_241 (by decide) ?_
            refine lv_imul hx hb d_X_shift_243 ?_
            refine lv_topi (fun v148 hv148 => ?_)
            obtain ⟨ev148, Rv148⟩ : v148.toInt = v143.toInt * (64 : Int) ∧ (0 ≤ v148.toInt ∧ v148.toInt ≤ 4032) := ml3 hv148 Rv143 (show 64 ≤ (64 : Int32).toInt ∧ (64 : Int32).toInt ≤ 64 from by decide) (by decide) (by decide) (by decide) (by decide) (by decide) (by decide)
            refine lv_aload_n hx hb d_X_shift_244 rfl (lv_at hl 5 rfl) ?_
            refine va_get (D := D) (ci := 7) (v := .ref p9) (C := "SignMachineModel") (T := F_X) (N := 64) hx hb hk fi_X hown hK.1 hP 0 rfl rfl 20 (by decide) (hk _ k_1141) (fun _ h9 => h9) rfl d_X_shift_245 ?_
            refine lv_iload hx hb d_X_shift_248 (lv_at hl 1 rfl) ?_
            refine lv_iconst (v := 5) hx hb d_X_shift_250 (by decide) ?_
            refine lv_iadd hx hb d_X_shift_251 ?_
            refine tpi (y := (6 : Int32)) (by decide) ?_
            refine va_iald hx hb hK.1 hP 9 0 rfl rfl (by unfold vp_in; decide) d_X_shift_252 ?_
            refine lv_topi (fun v149 hv149 => ?_)
            have Rv149 := Ag97y9 ((6 : Int32)).toNatClampNeg
            rw [← hv149] at Rv149
            refine lv_iadd hx hb d_X_shift_253 ?_
            refine lv_topi (fun v150 hv150 => ?_)
            obtain ⟨ev150, Rv150⟩ : v150.toInt = v148.toInt + v149.toInt ∧ (0 ≤ v150.toInt ∧ v150.toInt ≤ 4095) := ad3 hv150 Rv148 Rv149 (by decide) (by decide) (by decide) (by decide)
            refine lv_istore (lv' := [(4, .int v150), (3, .int v147), (5, .int (1 : Int32)), (2, .int x0_15), (1, .int (0 : Int32)), (0, .ref p0)]) hx hb d_X_shift_254 hl (by decide) rfl (fun ls hl => ?_)
            refine lv_iinc (v := (2 : Int32)) (lv' := [(5, .int (2 : Int32)), (4, .int v150), (3, .int v147), (2, .int x0_15), (1, .int (0 : Int32)), (0, .ref p0)]) hx hb d_X_shift_256 hl (k := 2) rfl (by decide) (by decide) rfl (fun ls hl => ?_)
            refine lv_goto (tgt := 220) hx hb d_X_shift_259 (by decide) ?_
            refine lv_iload hx hb d_X_shift_220 (lv_at hl 0 rfl) ?_
            refine lv_iconst (v := 5) hx hb d_X_shift_222 (by decide) ?_
            refine lv_icmp_ge (tgt := 262) hx hb d_X_shift_223 (by decide) (fun c151 => absurd c151 (show ¬ (5 : Int32) ≤ (2 : Int32) from (by decide))) (fun c151 => ?_)
            refine lv_iload_n hx hb d_X_shift_226 rfl (lv_at hl 2 rfl) ?_
            refine lv_bipush (v := 64) hx hb d_X_shift_227 (by decide) ?_
            refine lv_imul hx hb d_X_shift_229 ?_
            refine lv_topi (fun v152 hv152 => ?_)
            obtain ⟨ev152, Rv152⟩ : v152.toInt = v147.toInt * (64 : Int) ∧ (0 ≤ v152.toInt ∧ v152.toInt ≤ 262080) := ml3 hv152 Rv147 (show 64 ≤ (64 : Int32).toInt ∧ (64 : Int32).toInt ≤ 64 from by decide) (by decide) (by decide) (by decide) (by decide) (by decide) (by decide)
            refine lv_aload_n hx hb d_X_shift_230 rfl (lv_at hl 5 rfl) ?_
            refine va_get (D := D) (ci := 7) (v := .ref p9) (C := "SignMachineModel") (T := F_X) (N := 64) hx hb hk fi_X hown hK.1 hP 0 rfl rfl 20 (by decide) (hk _ k_1141) (fun _ h9 => h9) rfl d_X_shift_231 ?_
            refine lv_iload hx hb d_X_shift_234 (lv_at hl 0 rfl) ?_
            refine va_iald hx hb hK.1 hP 9 0 rfl rfl (by unfold vp_in; decide) d_X_shift_236 ?_
            refine lv_topi (fun v153 hv153 => ?_)
            have Rv153 := Ag97y9 ((2 : Int32)).toNatClampNeg
            rw [← hv153] at Rv153
            refine lv_iadd hx hb d_X_shift_237 ?_
            refine lv_topi (fun v154 hv154 => ?_)
            obtain ⟨ev154, Rv154⟩ : v154.toInt = v152.toInt + v153.toInt ∧ (0 ≤ v154.toInt ∧ v154.toInt ≤ 262143) := ad3 hv154 Rv152 Rv153 (by decide) (by decide) (by decide) (by decide)
            refine lv_istore_n (lv' := [(3, .int v154), (5, .int (2 : Int32)), (4, .int v150), (2, .int x0_15), (1, .int (0 : Int32)), (0, .ref p0)]) hx hb d_X_shift_238 rfl hl (by decide) rfl (fun ls hl => ?_)
            refine lv_iload hx hb d_X_shift_239 (lv_at hl 2 rfl) ?_
            refine lv_bipush (v := 64) hx hb d_X_shift_241 (by decide) ?_
            refine lv_imul hx hb d_X_shift_243 ?_
            refine lv_topi (fun v155 hv155 => ?_)
            obtain ⟨ev155, Rv155⟩ : v155.toInt = v150.toInt * (64 : Int) ∧ (0 ≤ v155.toInt ∧ v155.toInt ≤ 262080) := ml3 hv155 Rv150 (show 64 ≤ (64 : Int32).toInt ∧ (64 : Int32).toInt ≤ 64 from by decide) (by decide) (by decide) (by decide) (by decide) (by decide) (by decide)
            refine lv_aload_n hx hb d_X_shift_244 rfl (lv_at hl 5 rfl) ?_
            refine va_get (D := D) (ci := 7) (v := .ref p9) (C := "SignMachineModel") (T := F_X) (N := 64) hx hb hk fi_X hown hK.1 hP 0 rfl rfl 20 (by decide) (hk _ k_1141) (fun _ h9 => h9) rfl d_X_shift_245 ?_
            refine lv_iload hx hb d_X_shift_248 (lv_at hl 1 rfl) ?_
            refine lv_iconst (v := 5) hx hb d_X_shift_250 (by decide) ?_
            refine lv_iadd hx hb d_X_shift_251 ?_
            refine tpi (y := (7 : Int32)) (by decide) ?_
            refine va_iald hx hb hK.1 hP 9 0 rfl rfl (by unfold vp_in; decide) d_X_shift_252 ?_
            refine lv_topi (fun v156 hv156 => ?_)
            have Rv156 := Ag97y9 ((7 : Int32)).toNatClampNeg
            rw [← hv156] at Rv156
            refine lv_iadd hx hb d_X_shift_253 ?_
            refine lv_topi (fun v157 hv157 => ?_)
            obtain ⟨ev157, Rv157⟩ : v157.toInt = v155.toInt + v156.toInt ∧ (0 ≤ v157.toInt ∧ v157.toInt ≤ 262143) := ad3 hv157 Rv155 Rv156 (by decide) (by decide) (by decide) (by decide)
            refine lv_istore (lv' := [(4, .int v157), (3, .int v154), (5, .int (2 : Int32)), (2, .int x0_15), (1, .int (0 : Int32)), (0, .ref p0)]) hx hb d_X_shift_254 hl (by decide) rfl (fun ls hl => ?_)
            refine lv_iinc (v := (3 : Int32)) (lv' := [(5, .int (3 : Int32)), (4, .int v157), (3, .int v154), (2, .int x0_15), (1, .int (0 : Int32)), (0, .ref p0)]) hx hb d_X_shift_256 hl (k := 2) rfl (by decide) (by decide) rfl (fun ls hl => ?_)
            refine lv_goto (tgt := 220) hx hb d_X_shift_259 (by decide) ?_
            refine lv_iload hx hb d_X_shift_220 (lv_at hl 0 rfl) ?_
            refine lv_iconst (v := 5) hx hb d_X_shift_222 (by decide) ?_
            refine lv_icmp_ge (tgt := 262) hx hb d_X_shift_223 (by decide) (fun c158 => absurd c158 (show ¬ (5 : Int32) ≤ (3 : Int32) from (by decide))) (fun c158 => ?_)
            refine lv_iload_n hx hb d_X_shift_226 rfl (lv_at hl 2 rfl) ?_
            refine lv_bipush (v := 64) hx hb d_X_shift_227 (by decide) ?_
            refine lv_imul hx hb d_X_shift_229 ?_
            refine lv_topi (fun v159 hv159 => ?_)
            obtain ⟨ev159, Rv159⟩ : v159.toInt = v154.toInt * (64 : Int) ∧ (0 ≤ v159.toInt ∧ v159.toInt ≤ 16777152) := ml3 hv159 Rv154 (show 64 ≤ (64 : Int32).toInt ∧ (64 : Int32).toInt ≤ 64 from by decide) (by decide) (by decide) (by decide) (by decide) (by decide) (by decide)
            refine lv_aload_n hx hb d_X_shift_230 rfl (lv_at hl 5 rfl) ?_
            refine va_get (D := D) (ci := 7) (v := .ref p9) (C := "SignMachineModel") (T := F_X) (N := 64) hx hb hk fi_X hown hK.1 hP 0 rfl rfl 20 (by decide) (hk _ k_1141) (fun _ h9 => h9) rfl d_X_shift_231 ?_
            refine lv_iload hx hb d_X_shift_234 (lv_at hl 0 rfl) ?_
            refine va_iald hx hb hK.1 hP 9 0 rfl rfl (by unfold vp_in; decide) d_X_shift_236 ?_
            refine lv_topi (fun v160 hv160 => ?_)
            have Rv160 := Ag97y9 ((3 : Int32)).toNatClampNeg
            rw [← hv160] at Rv160
            refine lv_iadd hx hb d_X_shift_237 ?_
            refine lv_topi (fun v161 hv161 => ?_)
            obtain ⟨ev161, Rv161⟩ : v161.toInt = v159.toInt + v160.toInt ∧ (0 ≤ v161.toInt ∧ v161.toInt ≤ 16777215) := ad3 hv161 Rv159 Rv160 (by decide) (by decide) (by decide) (by decide)
            refine lv_istore_n (lv' := [(3, .int v161), (5, .int (3 : Int32)), (4, .int v157), (2, .int x0_15), (1, .int (0 : Int32)), (0, .ref p0)]) hx hb d_X_shift_238 rfl hl (by decide) rfl (fun ls hl => ?_)
            refine lv_iload hx hb d_X_shift_239 (lv_at hl 2 rfl) ?_
            refine lv_bipush (v := 64) hx hb d_X_shift_241 (by decide) ?_
            refine lv_imul hx hb d_X_shift_243 ?_
            refine lv_topi (fun v162 hv162 => ?_)
            obtain ⟨ev162, Rv162⟩ : v162.toInt = v157.toInt * (64 : Int) ∧ (0 ≤ v162.toInt ∧ v162.toInt ≤ 16777152) := ml3 hv162 Rv157 (show 64 ≤ (64 : Int32).toInt ∧ (64 : Int32).toInt ≤ 64 from by decide) (by decide) (by decide) (by decide) (by decide) (by decide) (by decide)
            refine lv_aload_n hx hb d_X_shift_244 rfl (lv_at hl 5 rfl) ?_
            refine va_get (D := D) (ci := 7) (v := .ref p9) (C := "SignMachineModel") (T := F_X) (N := 64) hx hb hk fi_X hown hK.1 hP 0 rfl rfl 20 (by decide) (hk _ k_1141) (fun _ h9 => h9) rfl d_X_shift_245 ?_
            refine lv_iload hx hb d_X_shift_248 (lv_at hl 1 rfl) ?_
            refine lv_iconst (v := 5) hx hb d_X_shift_250 (by decide) ?_
            refine lv_iadd hx hb d_X_shift_251 ?_
            refine tpi (y := (8 : Int32)) (by decide) ?_
            refine va_iald hx hb hK.1 hP 9 0 rfl rfl (by unfold vp_in; decide) d_X_shift_252 ?_
            refine lv_topi (fun v163 hv163 => ?_)
            have Rv163 := Ag97y9 ((8 : Int32)).toNatClampNeg
            rw [← hv163] at Rv163
            refine lv_iadd hx hb d_X_shift_253 ?_
            refine lv_topi (fun v164 hv164 => ?_)
            obtain ⟨ev164, Rv164⟩ : v164.toInt = v162.toInt + v163.toInt ∧ (0 ≤ v164.toInt ∧ v164.toInt ≤ 16777215) := ad3 hv164 Rv162 Rv163 (by decide) (by decide) (by decide) (by decide)
            refine lv_istore (lv' := [(4, .int v164), (3, .int v161), (5, .int (3 : Int32)), (2, .int x0_15), (1, .int (0 : Int32)), (0, .ref p0)]) hx hb d_X_shift_254 hl (by decide) rfl (fun ls hl => ?_)
            refine lv_iinc (v := (4 : Int32)) (lv' := [(5, .int (4 : Int32)), (4, .int v164), (3, .int v161), (2, .int x0_15), (1, .int (0 : Int32)), (0, .ref p0)]) hx hb d_X_shift_256 hl (k := 2) rfl (by decide) (by decide) rfl (fun ls hl => ?_)
            refine lv_goto (tgt := 220) hx hb d_X_shift_259 (by decide) ?_
            refine lv_iload hx hb d_X_shift_220 (lv_at hl 0 rfl) ?_
            refine lv_iconst (v := 5) hx hb d_X_shift_222 (by decide) ?_
            refine lv_icmp_ge (tgt := 262) hx hb d_X_shift_223 (by decide) (fun c165 => absurd c165 (show ¬ (5 : Int32) ≤ (4 : Int32) from (by decide))) (fun c165 => ?_)
            refine lv_iload_n hx hb d_X_shift_226 rfl (lv_at hl 2 rfl) ?_
            refine lv_bipush (v := 64) hx hb d_X_shift_227 (by decide) ?_
            refine lv_imul hx hb d_X_shift_229 ?_
            refine lv_topi (fun v166 hv166 => ?_)
            obtain ⟨ev166, Rv166⟩ : v166.toInt = v161.toInt * (64 : Int) ∧ (0 ≤ v166.toInt ∧ v166.toInt ≤ 1073741760) := ml3 hv166 Rv161 (show 64 ≤ (64 : Int32).toInt ∧ (64 : Int32).toInt ≤ 64 from by decide) (by decide) (by decide) (by decide) (by decide) (by decide) (by decide)
            refine lv_aload_n hx hb d_X_shift_230 rfl (lv_at hl 5 rfl) ?_
            refine va_get (D := D) (ci := 7) (v := .ref p9) (C := "SignMachineModel") (T := F_X) (N := 64) hx hb hk fi_X hown hK.1 hP 0 rfl rfl 20 (by decide) (hk _ k_1141) (fun _ h9 => h9) rfl d_X_shift_231 ?_
            refine lv_iload hx hb d_X_shift_234 (lv_at hl 0 rfl) ?_
            refine va_iald hx hb hK.1 hP 9 0 rfl rfl (by unfold vp_in; decide) d_X_shift_236 ?_
            refine lv_topi (fun v167 hv167 => ?_)
            have Rv167 := Ag97y9 ((4 : Int32)).toNatClampNeg
            rw [← hv167] at Rv167
            refine lv_iadd hx hb d_X_shift_237 ?_
            refine lv_topi (fun v168 hv168 => ?_)
            obtain ⟨ev168, Rv168⟩ : v168.toInt = v166.toInt + v167.toInt ∧ (0 ≤ v168.toInt ∧ v168.toInt ≤ 1073741823) := ad3 hv168 Rv166 Rv167 (by decide) (by decide) (by decide) (by decide)
            refine lv_istore_n (lv' := [(3, .int v168), (5, .int (4 : Int32)), (4, .int v164), (2, .int x0_15), (1, .int (0 : Int32)), (0, .ref p0)]) hx hb d_X_shift_238 rfl hl (by decide) rfl (fun ls hl => ?_)
            refine lv_iload hx hb d_X_shift_239 (lv_at hl 2 rfl) ?_
            refine lv_bipush (v := 64) hx hb d_X_shift_241 (by decide) ?_
            refine lv_imul hx hb d_X_shift_243 ?_
            refine lv_topi (fun v169 hv169 => ?_)
            obtain ⟨ev169, Rv169⟩ : v169.toInt = v164.toInt * (64 : Int) ∧ (0 ≤ v169.toInt ∧ v169.toInt ≤ 1073741760) := ml3 hv169 Rv164 (show 64 ≤ (64 : Int32).toInt ∧ (64 : Int32).toInt ≤ 64 from by decide) (by decide) (by decide) (by decide) (by decide) (by decide) (by decide)
            refine lv_aload_n hx hb d_X_shift_244 rfl (lv_at hl 5 rfl) ?_
            refine va_get (D := D) (ci := 7) (v := .ref p9) (C := "SignMachineModel") (T := F_X) (N := 64) hx hb hk fi_X hown hK.1 hP 0 rfl rfl 20 (by decide) (hk _ k_1141) (fun _ h9 => h9) rfl d_X_shift_245 ?_
            refine lv_iload hx hb d_X_shift_248 (lv_at hl 1 rfl) ?_
            refine lv_iconst (v := 5) hx hb d_X_shift_250 (by decide) ?_
            refine lv_iadd hx hb d_X_shift_251 ?_
            refine tpi (y := (9 : Int32)) (by decide) ?_
            refine va_iald hx hb hK.1 hP 9 0 rfl rfl (by unfold vp_in; decide) d_X_shift_252 ?_
            refine lv_topi (fun v170 hv170 => ?_)
            have Rv170 := Ag97y9 ((9 : Int32)).toNatClampNeg
            rw [← hv170] at Rv170
            refine lv_iadd hx hb d_X_shift_253 ?_
            refine lv_topi (fun v171 hv171 => ?_)
            obtain ⟨ev171, Rv171⟩ : v171.toInt = v169.toInt + v170.toInt ∧ (0 ≤ v171.toInt ∧ v171.toInt ≤ 1073741823) := ad3 hv171 Rv169 Rv170 (by decide) (by decide) (by decide) (by decide)
            refine lv_istore (lv' := [(4, .int v171), (3, .int v168), (5, .int (4 : Int32)), (2, .int x0_15), (1, .int (0 : Int32)), (0, .ref p0)]) hx hb d_X_shift_254 hl (by decide) rfl (fun ls hl => ?_)
            refine lv_iinc (v := (5 : Int32)) (lv' := [(5, .int (5 : Int32)), (4, .int v171), (3, .int v168), (2, .int x0_15), (1, .int (0 : Int32)), (0, .ref p0)]) hx hb d_X_shift_256 hl (k := 2) rfl (by decide) (by decide) rfl (fun ls hl => ?_)
            refine lv_goto (tgt := 220) hx hb d_X_shift_259 (by decide) ?_
            refine lv_iload hx hb d_X_shift_220 (lv_at hl 0 rfl) ?_
            refine lv_iconst (v := 5) hx hb d_X_shift_222 (by decide) ?_
            refine lv_icmp_ge (tgt := 262) hx hb d_X_shift_223 (by decide) (fun c172 => ?_) (fun c172 => absurd (show (5 : Int32) ≤ (5 : Int32) from (by decide)) c172)
            refine lv_aload_n hx hb d_X_shift_262 rfl (lv_at hl 5 rfl) ?_
            refine va_get (D := D) (ci := 7) (v := .ref p4) (C := "SignMachineModel") (T := F_X) (N := 64) hx hb hk fi_X hown hK.1 hP 0 rfl rfl 3 (by decide) (hk _ k_1124) (fun _ h9 => h9) rfl d_X_shift_263 ?_
            refine lv_iconst (v := 0) hx hb d_X_shift_266 (by decide) ?_
            refine lv_iload_n hx hb d_X_shift_267 rfl (lv_at hl 2 rfl) ?_
            refine va_iast hx hb hK.1 hP hD hS 4 0 rfl rfl (by unfold vp_in; decide) d_X_shift_268 (fun H locs hP hD hS => ?_)
            have hP : va_P D classes (wS50 cI cJ cZ cB p0 p1 p2 p3 p4 p5 p6 p7 p8 p9 p10 p11 p12 p13 p14 p15 p16 p17 p18 p19 p20 p21 p22 p23 p24 p25 x0_4 x0_5 x0_6 x0_7 x0_8 x0_12 x0_13 x0_14 x0_15 x0_16 x0_17 x0_18 x0_22 x0_23 x0_24 x0_25 x0_26 x0_27 x0_28 x0_29 x0_30 x0_31 x0_32 x0_36 x0_39 x0_40 x0_44 x0_49 x0_51 x0_53 x0_54 x0_55 x0_56 x0_57 x0_58 x0_59 x0_60 x0_61 x0_62 y1 y2 y3 (upd y4 ((0 : Int32)).toNatClampNeg v168) y5 y6 y7 v50 g97y9 y10 y11 y12 y13 y14 y15 y16 y17 y18 y19 y20 y21 y22 y23 y24 y25) H := hP
            have hD : va_D A (wS50 cI cJ cZ cB p0 p1 p2 p3 p4 p5 p6 p7 p8 p9 p10 p11 p12 p13 p14 p15 p16 p17 p18 p19 p20 p21 p22 p23 p24 p25 x0_4 x0_5 x0_6 x0_7 x0_8 x0_12 x0_13 x0_14 x0_15 x0_16 x0_17 x0_18 x0_22 x0_23 x0_24 x0_25 x0_26 x0_27 x0_28 x0_29 x0_30 x0_31 x0_32 x0_36 x0_39 x0_40 x0_44 x0_49 x0_51 x0_53 x0_54 x0_55 x0_56 x0_57 x0_58 x0_59 x0_60 x0_61 x0_62 y1 y2 y3 (upd y4 ((0 : Int32)).toNatClampNeg v168) y5 y6 y7 v50 g97y9 y10 y11 y12 y13 y14 y15 y16 y17 y18 y19 y20 y21 y22 y23 y24 y25) := hD
            obtain ⟨v173, hv173⟩ : ∃ y : Nat → Int32, y = (upd y4 ((0 : Int32)).toNatClampNeg v168) := ⟨_, rfl⟩
            rw [← hv173] at hP hD
            have : ((((0 : Int32)).toNatClampNeg : Nat) : Int) = 0 := by decide
            have Gv173 : ((0 ≤ (v168).toInt ∧ (v168).toInt ≤ 1073741823) ∧ ((1 ≤ ((((0 : Int32)).toNatClampNeg : Nat) : Int) ∧ ((((0 : Int32)).toNatClampNeg : Nat) : Int) ≤ 6) → (v168).toInt ≤ 4095)) := ⟨Rv168, fun h => absurd h (by decide)⟩
            have Av173 : ∀ i : Nat, ((0 ≤ (v173 i).toInt ∧ (v173 i).toInt ≤ 1073741823) ∧ ((1 ≤ (i : Int) ∧ (i : Int) ≤ 6) → (v173 i).toInt ≤ 4095)) := by rw [hv173]; exact upd_all (P := fun i x => ((0 ≤ (x).toInt ∧ (x).toInt ≤ 1073741823) ∧ ((1 ≤ (i : Int) ∧ (i : Int) ≤ 6) → (x).toInt ≤ 4095))) Ay4 Gv173
            clear hv173
            refine lv_aload_n hx hb d_X_shift_269 rfl (lv_at hl 5 rfl) ?_
            refine va_get (D := D) (ci := 7) (v := .ref p4) (C := "SignMachineModel") (T := F_X) (N := 64) hx hb hk fi_X hown hK.1 hP 0 rfl rfl 3 (by decide) (hk _ k_1124) (fun _ h9 => h9) rfl d_X_shift_270 ?_
            refine lv_bipush (v := 7) hx hb d_X_shift_273 (by decide) ?_
            refine lv_iload hx hb d_X_shift_275 (lv_at hl 1 rfl) ?_
            refine va_iast hx hb hK.1 hP hD hS 4 0 rfl rfl (by unfold vp_in; decide) d_X_shift_277 (fun H locs hP hD hS => ?_)
            have hP : va_P D classes (wS50 cI cJ cZ cB p0 p1 p2 p3 p4 p5 p6 p7 p8 p9 p10 p11 p12 p13 p14 p15 p16 p17 p18 p19 p20 p21 p22 p23 p24 p25 x0_4 x0_5 x0_6 x0_7 x0_8 x0_12 x0_13 x0_14 x0_15 x0_16 x0_17 x0_18 x0_22 x0_23 x0_24 x0_25 x0_26 x0_27 x0_28 x0_29 x0_30 x0_31 x0_32 x0_36 x0_39 x0_40 x0_44 x0_49 x0_51 x0_53 x0_54 x0_55 x0_56 x0_57 x0_58 x0_59 x0_60 x0_61 x0_62 y1 y2 y3 (upd v173 ((7 : Int32)).toNatClampNeg v171) y5 y6 y7 v50 g97y9 y10 y11 y12 y13 y14 y15 y16 y17 y18 y19 y20 y21 y22 y23 y24 y25) H := hP
            have hD : va_D A (wS50 cI cJ cZ cB p0 p1 p2 p3 p4 p5 p6 p7 p8 p9 p10 p11 p12 p13 p14 p15 p16 p17 p18 p19 p20 p21 p22 p23 p24 p25 x0_4 x0_5 x0_6 x0_7 x0_8 x0_12 x0_13 x0_14 x0_15 x0_16 x0_17 x0_18 x0_22 x0_23 x0_24 x0_25 x0_26 x0_27 x0_28 x0_29 x0_30 x0_31 x0_32 x0_36 x0_39 x0_40 x0_44 x0_49 x0_51 x0_53 x0_54 x0_55 x0_56 x0_57 x0_58 x0_59 x0_60 x0_61 x0_62 y1 y2 y3 (upd v173 ((7 : Int32)).toNatClampNeg v171) y5 y6 y7 v50 g97y9 y10 y11 y12 y13 y14 y15 y16 y17 y18 y19 y20 y21 y22 y23 y24 y25) := hD
            obtain ⟨v174, hv174⟩ : ∃ y : Nat → Int32, y = (upd v173 ((7 : Int32)).toNatClampNeg v171) := ⟨_, rfl⟩
            rw [← hv174] at hP hD
            have : ((((7 : Int32)).toNatClampNeg : Nat) : Int) = 7 := by decide
            have Gv174 : ((0 ≤ (v171).toInt ∧ (v171).toInt ≤ 1073741823) ∧ ((1 ≤ ((((7 : Int32)).toNatClampNeg : Nat) : Int) ∧ ((((7 : Int32)).toNatClampNeg : Nat) : Int) ≤ 6) → (v171).toInt ≤ 4095)) := ⟨Rv171, fun h => absurd h (by decide)⟩
            have Av174 : ∀ i : Nat, ((0 ≤ (v174 i).toInt ∧ (v174 i).toInt ≤ 1073741823) ∧ ((1 ≤ (i : Int) ∧ (i : Int) ≤ 6) → (v174 i).toInt ≤ 4095)) := by rw [hv174]; exact upd_all (P := fun i x => ((0 ≤ (x).toInt ∧ (x).toInt ≤ 1073741823) ∧ ((1 ≤ (i : Int) ∧ (i : Int) ≤ 6) → (x).toInt ≤ 4095))) Av173 Gv174
            clear hv174
            exact W.vret hx hb hr (fun t ht hW => ⟨⟨(), rfl, trivial, ⟨v174, v50, g97y9, Av174, Av50, Ag97y9, by show va_P D classes _ t.heap; rw [ht]; exact hP, hD⟩⟩, hS.F ht⟩) hS.2.2 d_X_shift_278
          · have gc137 : g97l3.toInt < (10 : Int) := c_nle c137
            have R175 : 0 ≤ g97l3.toInt ∧ g97l3.toInt ≤ 9 := rf_ltX Rg97l3 (show 10 ≤ (10 : Int) ∧ (10 : Int) ≤ 10 from by decide) gc137 (by decide) (by decide)
            refine lv_iload_n hx hb d_X_shift_103 rfl (lv_at hl 0 rfl) ?_
            refine lv_i2l (v := (g97l3 : Int32).toInt64) hx hb d_X_shift_104 rfl ?_
            refine lv_topl (fun v176 hv176 => ?_)
            obtain ⟨ev176, Rv176⟩ : v176.toInt = g97l3.toInt ∧ (0 ≤ v176.toInt ∧ v176.toInt ≤ 9) := il3 hv176 R175
            refine lv_iload_n hx hb d_X_shift_105 rfl (lv_at hl 1 rfl) ?_
            refine lv_i2l (v := (x0_15 : Int32).toInt64) hx hb d_X_shift_106 rfl ?_
            refine lv_topl (fun v177 hv177 => ?_)
            obtain ⟨ev177, Rv177⟩ : v177.toInt = x0_15.toInt ∧ ((-8190) ≤ v177.toInt ∧ v177.toInt ≤ 8190) := il3 hv177 Rx0_15
            refine lv_ladd hx hb d_X_shift_107 ?_
            refine lv_topl (fun v178 hv178 => ?_)
            obtain ⟨ev178, Rv178⟩ : v178.toInt = v176.toInt + v177.toInt ∧ ((-8190) ≤ v178.toInt ∧ v178.toInt ≤ 8199) := ad6 hv178 Rv176 Rv177 (by decide) (by decide) (by decide) (by decide)
            refine lv_lstore (lv' := [(4, .long v178), (3, .int g97l3), (2, .int x0_15), (1, .int (0 : Int32)), (0, .ref p0)]) hx hb d_X_shift_108 hl (by decide) rfl (fun ls hl => ?_)
            refine lv_aload_n hx hb d_X_shift_110 rfl (lv_at hl 4 rfl) ?_
            refine va_get (D := D) (ci := 7) (v := .int x0_13) (C := "SignMachineModel") (T := F_X) (N := 64) hx hb hk fi_X hown hK.1 hP 0 rfl rfl 13 (by decide) (hk _ k_1134) (fun _ h9 => h9) rfl d_X_shift_111 ?_
            refine lv_iconst (v := 4) hx hb d_X_shift_114 (by decide) ?_
            refine lv_icmp_lt (tgt := 134) hx hb d_X_shift_115 (by decide) (fun c179 => ?_) (fun c179 => ?_)
            · have gc179 : x0_13.toInt < (4 : Int) := c_lt c179
              have R180 : 2 ≤ x0_13.toInt ∧ x0_13.toInt ≤ 3 := rf_ltX R53 (show 4 ≤ (4 : Int) ∧ (4 : Int) ≤ 4 from by decide) gc179 (by decide) (by decide)
              refine lv_iload_n hx hb d_X_shift_134 rfl (lv_at hl 3 rfl) ?_
              refine lv_if_eq (tgt := 147) hx hb d_X_shift_135 (by decide) (fun c181 => ?_) (fun c181 => absurd (show (0 : Int32) = (0 : Int32) from (by decide)) c181)
              refine lv_iconst (v := 0) hx hb d_X_shift_147 (by decide) ?_
              refine lv_istore (lv' := [(6, .int (0 : Int32)), (4, .long v178), (3, .int g97l3), (2, .int x0_15), (1, .int (0 : Int32)), (0, .ref p0)]) hx hb d_X_shift_148 hl (by decide) rfl (fun ls hl => ?_)
              refine lv_aload_n hx hb d_X_shift_150 rfl (lv_at hl 5 rfl) ?_
              refine va_get (D := D) (ci := 7) (v := .ref p9) (C := "SignMachineModel") (T := F_X) (N := 64) hx hb hk fi_X hown hK.1 hP 0 rfl rfl 20 (by decide) (hk _ k_1141) (fun _ h9 => h9) rfl d_X_shift_151 ?_
              refine lv_iload_n hx hb d_X_shift_154 rfl (lv_at hl 2 rfl) ?_
              refine lv_iload hx hb d_X_shift_155 (lv_at hl 0 rfl) ?_
              refine lv_if_eq (tgt := 169) hx hb d_X_shift_157 (by decide) (fun c182 => ?_) (fun c182 => absurd (show (0 : Int32) = (0 : Int32) from (by decide)) c182)
              refine lv_lload hx hb d_X_shift_169 (lv_at hl 1 rfl) ?_
              refine lv_lconst (v := 0) hx hb d_X_shift_171 (by decide) ?_
              refine W.lcmp hx hb d_X_shift_172 ?_
              refine lv_topi (fun v183 hv183 => ?_)
              refine lv_if_lt (tgt := 204) hx hb d_X_shift_173 (by decide) (fun c184 => ?_) (fun c184 => ?_)
              · have gc184 : v178.toInt < (0 : Int) := lc_lt hv183 c184
                have R185 : (-8190) ≤ v178.toInt ∧ v178.toInt ≤ (-1) := rf_ltX Rv178 (show 0 ≤ (0 : Int) ∧ (0 : Int) ≤ 0 from by decide) gc184 (by decide) (by decide)
                refine lv_iconst (v := 0) hx hb d_X_shift_204 (by decide) ?_
                refine va_iast hx hb hK.1 hP hD hS 9 0 rfl rfl (vpb R175 (by decide) (by decide)) d_X_shift_205 (fun H locs hP hD hS => ?_)
                have hP : va_P D classes (wS50 cI cJ cZ cB p0 p1 p2 p3 p4 p5 p6 p7 p8 p9 p10 p11 p12 p13 p14 p15 p16 p17 p18 p19 p20 p21 p22 p23 p24 p25 x0_4 x0_5 x0_6 x0_7 x0_8 x0_12 x0_13 x0_14 x0_15 x0_16 x0_17 x0_18 x0_22 x0_23 x0_24 x0_25 x0_26 x0_27 x0_28 x0_29 x0_30 x0_31 x0_32 x0_36 x0_39 x0_40 x0_44 x0_49 x0_51 x0_53 x0_54 x0_55 x0_56 x0_57 x0_58 x0_59 x0_60 x0_61 x0_62 y1 y2 y3 y4 y5 y6 y7 v50 (upd g97y9 (g97l3).toNatClampNeg (0 : Int32)) y10 y11 y12 y13 y14 y15 y16 y17 y18 y19 y20 y21 y22 y23 y24 y25) H := hP
                have hD : va_D A (wS50 cI cJ cZ cB p0 p1 p2 p3 p4 p5 p6 p7 p8 p9 p10 p11 p12 p13 p14 p15 p16 p17 p18 p19 p20 p21 p22 p23 p24 p25 x0_4 x0_5 x0_6 x0_7 x0_8 x0_12 x0_13 x0_14 x0_15 x0_16 x0_17 x0_18 x0_22 x0_23 x0_24 x0_25 x0_26 x0_27 x0_28 x0_29 x0_30 x0_31 x0_32 x0_36 x0_39 x0_40 x0_44 x0_49 x0_51 x0_53 x0_54 x0_55 x0_56 x0_57 x0_58 x0_59 x0_60 x0_61 x0_62 y1 y2 y3 y4 y5 y6 y7 v50 (upd g97y9 (g97l3).toNatClampNeg (0 : Int32)) y10 y11 y12 y13 y14 y15 y16 y17 y18 y19 y20 y21 y22 y23 y24 y25) := hD
                obtain ⟨v186, hv186⟩ : ∃ y : Nat → Int32, y = (upd g97y9 (g97l3).toNatClampNeg (0 : Int32)) := ⟨_, rfl⟩
                rw [← hv186] at hP hD
                have Gv186 : (0 ≤ ((0 : Int32)).toInt ∧ ((0 : Int32)).toInt ≤ 63) := (by decide)
                have Av186 : ∀ i : Nat, (0 ≤ (v186 i).toInt ∧ (v186 i).toInt ≤ 63) := by rw [hv186]; exact upd_all (P := fun i x => (0 ≤ (x).toInt ∧ (x).toInt ≤ 63)) Ag97y9 Gv186
                clear hv186
                obtain ⟨v187, hv187⟩ : ∃ y : Int32, y = (g97l3 + (1 : Int32)) := ⟨_, rfl⟩
                obtain ⟨ev187, Rv187⟩ : v187.toInt = g97l3.toInt + 1 ∧ (1 ≤ v187.toInt ∧ v187.toInt ≤ 10) := ad3 hv187 R175 (y := (1 : Int32)) (c := 1) (d := 1) (by decide) (by decide) (by decide) (by decide) (by decide)
                refine lv_iinc (v := v187) (lv' := [(3, .int v187), (6, .int (0 : Int32)), (4, .long v178), (2, .int x0_15), (1, .int (0 : Int32)), (0, .ref p0)]) hx hb d_X_shift_206 hl (k := 2) rfl (by rw [hv187]; rfl) (by decide) rfl (fun ls hl => ?_)
                refine lv_goto (tgt := 97) hx hb d_X_shift_209 (by decide) ?_
                exact ih97 v187 v186 H _ ls (show 10 - v187.toInt < (n : Int) from by omega) (rgw Rv187 (by decide) (by decide)) Av186 hP hD hS (lv_sub hl [0, 3, 4, 5] rfl)
              · have gc184 : (0 : Int) ≤ v178.toInt := lc_nlt hv183 c184
                have R188 : 0 ≤ v178.toInt ∧ v178.toInt ≤ 8199 := rf_geX Rv178 (show 0 ≤ (0 : Int) ∧ (0 : Int) ≤ 0 from by decide) gc184 (by decide) (by decide)
                refine lv_lload hx hb d_X_shift_176 (lv_at hl 1 rfl) ?_
                refine lv_iload_n hx hb d_X_shift_178 rfl (lv_at hl 4 rfl) ?_
                refine lv_if_eq (tgt := 186) hx hb d_X_shift_179 (by decide) (fun c189 => ?_) (fun c189 => absurd (show (0 : Int32) = (0 : Int32) from (by decide)) c189)
                refine lv_bipush (v := 10) hx hb d_X_shift_186 (by decide) ?_
                refine lv_i2l (v := ((10 : Int32) : Int32).toInt64) hx hb d_X_shift_188 rfl ?_
                refine tpl (y := (10 : Int64)) (by decide) ?_
                refine W.lcmp hx hb d_X_shift_189 ?_
                refine lv_topi (fun v190 hv190 => ?_)
                refine lv_if_ge (tgt := 204) hx hb d_X_shift_190 (by decide) (fun c191 => ?_) (fun c191 => ?_)
                · have gc191 : (10 : Int) ≤ v178.toInt := lc_ge hv190 c191
                  have R192 : 10 ≤ v178.toInt ∧ v178.toInt ≤ 8199 := rf_geX R188 (show 10 ≤ (10 : Int) ∧ (10 : Int) ≤ 10 from by decide) gc191 (by decide) (by decide)
                  refine lv_iconst (v := 0) hx hb d_X_shift_204 (by decide) ?_
                  refine va_iast hx hb hK.1 hP hD hS 9 0 rfl rfl (vpb R175 (by decide) (by decide)) d_X_shift_205 (fun H locs hP hD hS => ?_)
                  have hP : va_P D classes (wS50 cI cJ cZ cB p0 p1 p2 p3 p4 p5 p6 p7 p8 p9 p10 p11 p12 p13 p14 p15 p16 p17 p18 p19 p20 p21 p22 p23 p24 p25 x0_4 x0_5 x0_6 x0_7 x0_8 x0_12 x0_13 x0_14 x0_15 x0_16 x0_17 x0_18 x0_22 x0_23 x0_24 x0_25 x0_26 x0_27 x0_28 x0_29 x0_30 x0_31 x0_32 x0_36 x0_39 x0_40 x0_44 x0_49 x0_51 x0_53 x0_54 x0_55 x0_56 x0_57 x0_58 x0_59 x0_60 x0_61 x0_62 y1 y2 y3 y4 y5 y6 y7 v50 (upd g97y9 (g97l3).toNatClampNeg (0 : Int32)) y10 y11 y12 y13 y14 y15 y16 y17 y18 y19 y20 y21 y22 y23 y24 y25) H := hP
                  have hD : va_D A (wS50 cI cJ cZ cB p0 p1 p2 p3 p4 p5 p6 p7 p8 p9 p10 p11 p12 p13 p14 p15 p16 p17 p18 p19 p20 p21 p22 p23 p24 p25 x0_4 x0_5 x0_6 x0_7 x0_8 x0_12 x0_13 x0_14 x0_15 x0_16 x0_17 x0_18 x0_22 x0_23 x0_24 x0_25 x0_26 x0_27 x0_28 x0_29 x0_30 x0_31 x0_32 x0_36 x0_39 x0_40 x0_44 x0_49 x0_51 x0_53 x0_54 x0_55 x0_56 x0_57 x0_58 x0_59 x0_60 x0_61 x0_62 y1 y2 y3 y4 y5 y6 y7 v50 (upd g97y9 (g97l3).toNatClampNeg (0 : Int32)) y10 y11 y12 y13 y14 y15 y16 y17 y18 y19 y20 y21 y22 y23 y24 y25) := hD
                  obtain ⟨v193, hv193⟩ : ∃ y : Nat → Int32, y = (upd g97y9 (g97l3).toNatClampNeg (0 : Int32)) := ⟨_, rfl⟩
                  rw [← hv193] at hP hD
                  have Gv193 : (0 ≤ ((0 : Int32)).toInt ∧ ((0 : Int32)).toInt ≤ 63) := (by decide)
                  have Av193 : ∀ i : Nat, (0 ≤ (v193 i).toInt ∧ (v193 i).toInt ≤ 63) := by rw [hv193]; exact upd_all (P := fun i x => (0 ≤ (x).toInt ∧ (x).toInt ≤ 63)) Ag97y9 Gv193
                  clear hv193
                  obtain ⟨v194, hv194⟩ : ∃ y : Int32, y = (g97l3 + (1 : Int32)) := ⟨_, rfl⟩
                  obtain ⟨ev194, Rv194⟩ : v194.toInt = g97l3.toInt + 1 ∧ (1 ≤ v194.toInt ∧ v194.toInt ≤ 10) := ad3 hv194 R175 (y := (1 : Int32)) (c := 1) (d := 1) (by decide) (by decide) (by decide) (by decide) (by decide)
                  refine lv_iinc (v := v194) (lv' := [(3, .int v194), (6, .int (0 : Int32)), (4, .long v178), (2, .int x0_15), (1, .int (0 : Int32)), (0, .ref p0)]) hx hb d_X_shift_206 hl (k := 2) rfl (by rw [hv194]; rfl) (by decide) rfl (fun ls hl => ?_)
                  refine lv_goto (tgt := 97) hx hb d_X_shift_209 (by decide) ?_
                  exact ih97 v194 v193 H _ ls (show 10 - v194.toInt < (n : Int) from by omega) (rgw Rv194 (by decide) (by decide)) Av193 hP hD hS (lv_sub hl [0, 3, 4, 5] rfl)
                · have gc191 : v178.toInt < (10 : Int) := lc_nge hv190 c191
                  have R195 : 0 ≤ v178.toInt ∧ v178.toInt ≤ 9 := rf_ltX R188 (show 10 ≤ (10 : Int) ∧ (10 : Int) ≤ 10 from by decide) gc191 (by decide) (by decide)
                  refine lv_aload_n hx hb d_X_shift_193 rfl (lv_at hl 5 rfl) ?_
                  refine va_get (D := D) (ci := 7) (v := .ref p8) (C := "SignMachineModel") (T := F_X) (N := 64) hx hb hk fi_X hown hK.1 hP 0 rfl rfl 19 (by decide) (hk _ k_1140) (fun _ h9 => h9) rfl d_X_shift_194 ?_
                  refine lv_lload hx hb d_X_shift_197 (lv_at hl 1 rfl) ?_
                  refine lv_l2i (v := (v178 : Int64).toInt32) hx hb d_X_shift_199 rfl ?_
                  refine lv_topi (fun v196 hv196 => ?_)
                  obtain ⟨ev196, Rv196⟩ : v196.toInt = v178.toInt ∧ (0 ≤ v196.toInt ∧ v196.toInt ≤ 9) := li3 hv196 R195 (by decide) (by decide)
                  refine va_iald hx hb hK.1 hP 8 0 rfl rfl (vpb Rv196 (by decide) (by decide)) d_X_shift_200 ?_
                  refine lv_topi (fun v197 hv197 => ?_)
                  have Rv197 := Av50 (v196).toNatClampNeg
                  rw [← hv197] at Rv197
                  refine lv_goto (tgt := 205) hx hb d_X_shift_201 (by decide) ?_
                  refine va_iast hx hb hK.1 hP hD hS 9 0 rfl rfl (vpb R175 (by decide) (by decide)) d_X_shift_205 (fun H locs hP hD hS => ?_)
                  have hP : va_P D classes (wS50 cI cJ cZ cB p0 p1 p2 p3 p4 p5 p6 p7 p8 p9 p10 p11 p12 p13 p14 p15 p16 p17 p18 p19 p20 p21 p22 p23 p24 p25 x0_4 x0_5 x0_6 x0_7 x0_8 x0_12 x0_13 x0_14 x0_15 x0_16 x0_17 x0_18 x0_22 x0_23 x0_24 x0_25 x0_26 x0_27 x0_28 x0_29 x0_30 x0_31 x0_32 x0_36 x0_39 x0_40 x0_44 x0_49 x0_51 x0_53 x0_54 x0_55 x0_56 x0_57 x0_58 x0_59 x0_60 x0_61 x0_62 y1 y2 y3 y4 y5 y6 y7 v50 (upd g97y9 (g97l3).toNatClampNeg v197) y10 y11 y12 y13 y14 y15 y16 y17 y18 y19 y20 y21 y22 y23 y24 y25) H := hP
                  have hD : va_D A (wS50 cI cJ cZ cB p0 p1 p2 p3 p4 p5 p6 p7 p8 p9 p10 p11 p12 p13 p14 p15 p16 p17 p18 p19 p20 p21 p22 p23 p24 p25 x0_4 x0_5 x0_6 x0_7 x0_8 x0_12 x0_13 x0_14 x0_15 x0_16 x0_17 x0_18 x0_22 x0_23 x0_24 x0_25 x0_26 x0_27 x0_28 x0_29 x0_30 x0_31 x0_32 x0_36 x0_39 x0_40 x0_44 x0_49 x0_51 x0_53 x0_54 x0_55 x0_56 x0_57 x0_58 x0_59 x0_60 x0_61 x0_62 y1 y2 y3 y4 y5 y6 y7 v50 (upd g97y9 (g97l3).toNatClampNeg v197) y10 y11 y12 y13 y14 y15 y16 y17 y18 y19 y20 y21 y22 y23 y24 y25) := hD
                  obtain ⟨v198, hv198⟩ : ∃ y : Nat → Int32, y = (upd g97y9 (g97l3).toNatClampNeg v197) := ⟨_, rfl⟩
                  rw [← hv198] at hP hD
                  have Gv198 : (0 ≤ (v197).toInt ∧ (v197).toInt ≤ 63) := Rv197
                  have Av198 : ∀ i : Nat, (0 ≤ (v198 i).toInt ∧ (v198 i).toInt ≤ 63) := by rw [hv198]; exact upd_all (P := fun i x => (0 ≤ (x).toInt ∧ (x).toInt ≤ 63)) Ag97y9 Gv198
                  clear hv198
                  obtain ⟨v199, hv199⟩ : ∃ y : Int32, y = (g97l3 + (1 : Int32)) := ⟨_, rfl⟩
                  obtain ⟨ev199, Rv199⟩ : v199.toInt = g97l3.toInt + 1 ∧ (1 ≤ v199.toInt ∧ v199.toInt ≤ 10) := ad3 hv199 R175 (y := (1 : Int32)) (c := 1) (d := 1) (by decide) (by decide) (by decide) (by decide) (by decide)
                  refine lv_iinc (v := v199) (lv' := [(3, .int v199), (6, .int (0 : Int32)), (4, .long v178), (2, .int x0_15), (1, .int (0 : Int32)), (0, .ref p0)]) hx hb d_X_shift_206 hl (k := 2) rfl (by rw [hv199]; rfl) (by decide) rfl (fun ls hl => ?_)
                  refine lv_goto (tgt := 97) hx hb d_X_shift_209 (by decide) ?_
                  exact ih97 v199 v198 H _ ls (show 10 - v199.toInt < (n : Int) from by omega) (rgw Rv199 (by decide) (by decide)) Av198 hP hD hS (lv_sub hl [0, 3, 4, 5] rfl)
            · have gc179 : (4 : Int) ≤ x0_13.toInt := c_nlt c179
              have R200 : 4 ≤ x0_13.toInt ∧ x0_13.toInt ≤ 63 := rf_geX R53 (show 4 ≤ (4 : Int) ∧ (4 : Int) ≤ 4 from by decide) gc179 (by decide) (by decide)
              refine lv_lload hx hb d_X_shift_118 (lv_at hl 0 rfl) ?_
              refine lv_ldc2 (v := 10) hx hb hown (hk _ k_1490) d_X_shift_120 ?_
              refine lv_lrem hx hb d_X_shift_123 (by decide) ?_
              refine lv_topl (fun v201 hv201 => ?_)
              have Rv201 : (-9) ≤ v201.toInt ∧ v201.toInt ≤ 9 := rz6 hv201 (show 10 ≤ (10 : Int64).toInt ∧ (10 : Int64).toInt ≤ 10 from by decide) (by decide) (by decide) (by decide)
              refine lv_ldc2 (v := 10) hx hb hown (hk _ k_1490) d_X_shift_124 ?_
              refine lv_ladd hx hb d_X_shift_127 ?_
              refine lv_topl (fun v202 hv202 => ?_)
              obtain ⟨ev202, Rv202⟩ : v202.toInt = v201.toInt + (10 : Int) ∧ (1 ≤ v202.toInt ∧ v202.toInt ≤ 19) := ad6 hv202 Rv201 (show 10 ≤ (10 : Int64).toInt ∧ (10 : Int64).toInt ≤ 10 from by decide) (by decide) (by decide) (by decide) (by decide)
              refine lv_ldc2 (v := 10) hx hb hown (hk _ k_1490) d_X_shift_128 ?_
              refine lv_lrem hx hb d_X_shift_131 (by decide) ?_
              refine lv_topl (fun v203 hv203 => ?_)
              obtain ⟨ev203, lv203, Rv203⟩ : v203.toInt = v202.toInt % (10 : Int) ∧ v203.toInt < (10 : Int) ∧ (0 ≤ v203.toInt ∧ v203.toInt ≤ 9) := rm6 hv203 Rv202 (show 10 ≤ (10 : Int64).toInt ∧ (10 : Int64).toInt ≤ 10 from by decide) (by decide) (by decide) (by decide)
              refine lv_lstore (lv' := [(4, .long v203), (3, .int g97l3), (2, .int x0_15), (1, .int (0 : Int32)), (0, .ref p0)]) hx hb d_X_shift_132 hl (by decide) rfl (fun ls hl => ?_)
              refine lv_iload_n hx hb d_X_shift_134 rfl (lv_at hl 3 rfl) ?_
              refine lv_if_eq (tgt := 147) hx hb d_X_shift_135 (by decide) (fun c204 => ?_) (fun c204 => absurd (show (0 : Int32) = (0 : Int32) from (by decide)) c204)
              refine lv_iconst (v := 0) hx hb d_X_shift_147 (by decide) ?_
              refine lv_istore (lv' := [(6, .int (0 : Int32)), (4, .long v203), (3, .int g97l3), (2, .int x0_15), (1, .int (0 : Int32)), (0, .ref p0)]) hx hb d_X_shift_148 hl (by decide) rfl (fun ls hl => ?_)
              refine lv_aload_n hx hb d_X_shift_150 rfl (lv_at hl 5 rfl) ?_
              refine va_get (D := D) (ci := 7) (v := .ref p9) (C := "SignMachineModel") (T := F_X) (N := 64) hx hb hk fi_X hown hK.1 hP 0 rfl rfl 20 (by decide) (hk _ k_1141) (fun _ h9 => h9) rfl d_X_shift_151 ?_
              refine lv_iload_n hx hb d_X_shift_154 rfl (lv_at hl 2 rfl) ?_
              refine lv_iload hx hb d_X_shift_155 (lv_at hl 0 rfl) ?_
              refine lv_if_eq (tgt := 169) hx hb d_X_shift_157 (by decide) (fun c205 => ?_) (fun c205 => absurd (show (0 : Int32) = (0 : Int32) from (by decide)) c205)
              refine lv_lload hx hb d_X_shift_169 (lv_at hl 1 rfl) ?_
              refine lv_lconst (v := 0) hx hb d_X_shift_171 (by decide) ?_
              refine W.lcmp hx hb d_X_shift_172 ?_
              refine lv_topi (fun v206 hv206 => ?_)
              refine lv_if_lt (tgt := 204) hx hb d_X_shift_173 (by decide) (fun c207 => absurd c207 (show ¬ v206 < (0 : Int32) from (lcr_nlt hv206 (kle (show 0 ≤ (0 : Int) ∧ (0 : Int) ≤ 0 from by decide) Rv203 (by decide))))) (fun c207 => ?_)
              refine lv_lload hx hb d_X_shift_176 (lv_at hl 1 rfl) ?_
              refine lv_iload_n hx hb d_X_shift_178 rfl (lv_at hl 4 rfl) ?_
              refine lv_if_eq (tgt := 186) hx hb d_X_shift_179 (by decide) (fun c208 => ?_) (fun c208 => absurd (show (0 : Int32) = (0 : Int32) from (by decide)) c208)
              refine lv_bipush (v := 10) hx hb d_X_shift_186 (by decide) ?_
              refine lv_i2l (v := ((10 : Int32) : Int32).toInt64) hx hb d_X_shift_188 rfl ?_
              refine tpl (y := (10 : Int64)) (by decide) ?_
              refine W.lcmp hx hb d_X_shift_189 ?_
              refine lv_topi (fun v209 hv209 => ?_)
              refine lv_if_ge (tgt := 204) hx hb d_X_shift_190 (by decide) (fun c210 => absurd c210 (show ¬ (0 : Int32) ≤ v209 from (lcr_nge hv209 (klt Rv203 (show 10 ≤ (10 : Int) ∧ (10 : Int) ≤ 10 from by decide) (by decide))))) (fun c210 => ?_)
              refine lv_aload_n hx hb d_X_shift_193 rfl (lv_at hl 5 rfl) ?_
              refine va_get (D := D) (ci := 7) (v := .ref p8) (C := "SignMachineModel") (T := F_X) (N := 64) hx hb hk fi_X hown hK.1 hP 0 rfl rfl 19 (by decide) (hk _ k_1140) (fun _ h9 => h9) rfl d_X_shift_194 ?_
              refine lv_lload hx hb d_X_shift_197 (lv_at hl 1 rfl) ?_
              refine lv_l2i (v := (v203 : Int64).toInt32) hx hb d_X_shift_199 rfl ?_
              refine lv_topi (fun v211 hv211 => ?_)
              obtain ⟨ev211, Rv211⟩ : v211.toInt = v203.toInt ∧ (0 ≤ v211.toInt ∧ v211.toInt ≤ 9) := li3 hv211 Rv203 (by decide) (by decide)
              refine va_iald hx hb hK.1 hP 8 0 rfl rfl (vpb Rv211 (by decide) (by decide)) d_X_shift_200 ?_
              refine lv_topi (fun v212 hv212 => ?_)
              have Rv212 := Av50 (v211).toNatClampNeg
              rw [← hv212] at Rv212
              refine lv_goto (tgt := 205) hx hb d_X_shift_201 (by decide) ?_
              refine va_iast hx hb hK.1 hP hD hS 9 0 rfl rfl (vpb R175 (by decide) (by decide)) d_X_shift_205 (fun H locs hP hD hS => ?_)
              have hP : va_P D classes (wS50 cI cJ cZ cB p0 p1 p2 p3 p4 p5 p6 p7 p8 p9 p10 p11 p12 p13 p14 p15 p16 p17 p18 p19 p20 p21 p22 p23 p24 p25 x0_4 x0_5 x0_6 x0_7 x0_8 x0_12 x0_13 x0_14 x0_15 x0_16 x0_17 x0_18 x0_22 x0_23 x0_24 x0_25 x0_26 x0_27 x0_28 x0_29 x0_30 x0_31 x0_32 x0_36 x0_39 x0_40 x0_44 x0_49 x0_51 x0_53 x0_54 x0_55 x0_56 x0_57 x0_58 x0_59 x0_60 x0_61 x0_62 y1 y2 y3 y4 y5 y6 y7 v50 (upd g97y9 (g97l3).toNatClampNeg v212) y10 y11 y12 y13 y14 y15 y16 y17 y18 y19 y20 y21 y22 y23 y24 y25) H := hP
              have hD : va_D A (wS50 cI cJ cZ cB p0 p1 p2 p3 p4 p5 p6 p7 p8 p9 p10 p11 p12 p13 p14 p15 p16 p17 p18 p19 p20 p21 p22 p23 p24 p25 x0_4 x0_5 x0_6 x0_7 x0_8 x0_12 x0_13 x0_14 x0_15 x0_16 x0_17 x0_18 x0_22 x0_23 x0_24 x0_25 x0_26 x0_27 x0_28 x0_29 x0_30 x0_31 x0_32 x0_36 x0_39 x0_40 x0_44 x0_49 x0_51 x0_53 x0_54 x0_55 x0_56 x0_57 x0_58 x0_59 x0_60 x0_61 x0_62 y1 y2 y3 y4 y5 y6 y7 v50 (upd g97y9 (g97l3).toNatClampNeg v212) y10 y11 y12 y13 y14 y15 y16 y17 y18 y19 y20 y21 y22 y23 y24 y25) := hD
              obtain ⟨v213, hv213⟩ : ∃ y : Nat → Int32, y = (upd g97y9 (g97l3).toNatClampNeg v212) := ⟨_, rfl⟩
              rw [← hv213] at hP hD
              have Gv213 : (0 ≤ (v212).toInt ∧ (v212).toInt ≤ 63) := Rv212
              have Av213 : ∀ i : Nat, (0 ≤ (v213 i).toInt ∧ (v213 i).toInt ≤ 63) := by rw [hv213]; exact upd_all (P := fun i x => (0 ≤ (x).toInt ∧ (x).toInt ≤ 63)) Ag97y9 Gv213
              clear hv213
              obtain ⟨v214, hv214⟩ : ∃ y : Int32, y = (g97l3 + (1 : Int32)) := ⟨_, rfl⟩
              obtain ⟨ev214, Rv214⟩ : v214.toInt = g97l3.toInt + 1 ∧ (1 ≤ v214.toInt ∧ v214.toInt ≤ 10) := ad3 hv214 R175 (y := (1 : Int32)) (c := 1) (d := 1) (by decide) (by decide) (by decide) (by decide) (by decide)
              refine lv_iinc (v := v214) (lv' := [(3, .int v214), (6, .int (0 : Int32)), (4, .long v203), (2, .int x0_15), (1, .int (0 : Int32)), (0, .ref p0)]) hx hb d_X_shift_206 hl (k := 2) rfl (by rw [hv214]; rfl) (by decide) rfl (fun ls hl => ?_)
              refine lv_goto (tgt := 97) hx hb d_X_shift_209 (by decide) ?_
              exact ih97 v214 v213 H _ ls (show 10 - v214.toInt < (n : Int) from by omega) (rgw Rv214 (by decide) (by decide)) Av213 hP hD hS (lv_sub hl [0, 3, 4, 5] rfl)
      exact CUT97 ((10 - (0 : Int)).toNat + 1) (0 : Int32) y9 H _ ls (show (10 - (0 : Int)) < (((10 - (0 : Int)).toNat + 1 : Nat) : Int) from by omega) (by decide) Ay9 hP hD hS (lv_sub hl [0, 1, 2, 3] rfl)
  · have gc52 : x0_13.toInt < (2 : Int) := c_nle c52
    have R215 : 0 ≤ x0_13.toInt ∧ x0_13.toInt ≤ 1 := rf_ltX Rx0_13 (show 2 ≤ (2 : Int) ∧ (2 : Int) ≤ 2 from by decide) gc52 (by decide) (by decide)
    refine lv_iconst (v := 1) hx hb d_X_shift_67 (by decide) ?_
    refine lv_goto (tgt := 72) hx hb d_X_shift_68 (by decide) ?_
    refine lv_istore_n (lv' := [(1, .int (1 : Int32)), (0, .ref p0)]) hx hb d_X_shift_72 rfl hl (by decide) rfl (fun ls hl => ?_)
    refine lv_aload_n hx hb d_X_shift_73 rfl (lv_at hl 1 rfl) ?_
    refine va_get (D := D) (ci := 7) (v := .int x0_13) (C := "SignMachineModel") (T := F_X) (N := 64) hx hb hk fi_X hown hK.1 hP 0 rfl rfl 13 (by decide) (hk _ k_1134) (fun _ h9 => h9) rfl d_X_shift_74 ?_
    refine lv_iconst (v := 2) hx hb d_X_shift_77 (by decide) ?_
    refine lv_irem hx hb d_X_shift_78 (by decide) ?_
    refine lv_topi (fun v216 hv216 => ?_)
    obtain ⟨ev216, lv216, Rv216⟩ : v216.toInt = x0_13.toInt % (2 : Int) ∧ v216.toInt < (2 : Int) ∧ (0 ≤ v216.toInt ∧ v216.toInt ≤ 1) := rm3 hv216 R215 (show 2 ≤ (2 : Int32).toInt ∧ (2 : Int32).toInt ≤ 2 from by decide) (by decide) (by decide) (by decide)
    refine lv_if_ne (tgt := 89) hx hb d_X_shift_79 (by decide) (fun c217 => ?_) (fun c217 => ?_)
    · have gc217 : v216.toInt ≠ (0 : Int) := c_ne c217
      have R218 : 1 ≤ v216.toInt ∧ v216.toInt ≤ 1 := rf_neX Rv216 (show 0 ≤ (0 : Int) ∧ (0 : Int) ≤ 0 from by decide) gc217 (by decide) (by decide)
      refine lv_aload_n hx hb d_X_shift_89 rfl (lv_at hl 1 rfl) ?_
      refine va_get (D := D) (ci := 7) (v := .int x0_15) (C := "SignMachineModel") (T := F_X) (N := 64) hx hb hk fi_X hown hK.1 hP 0 rfl rfl 15 (by decide) (hk _ k_1136) (fun _ h9 => h9) rfl d_X_shift_90 ?_
      refine lv_ineg hx hb d_X_shift_93 ?_
      refine lv_topi (fun v219 hv219 => ?_)
      obtain ⟨ev219, Rv219⟩ : v219.toInt = -x0_15.toInt ∧ ((-8190) ≤ v219.toInt ∧ v219.toInt ≤ 8190) := ng3 hv219 Rx0_15 (by decide) (by decide) (by decide) (by decide)
      refine lv_istore_n (lv' := [(2, .int v219), (1, .int (1 : Int32)), (0, .ref p0)]) hx hb d_X_shift_94 rfl hl (by decide) rfl (fun ls hl => ?_)
      refine lv_iconst (v := 0) hx hb d_X_shift_95 (by decide) ?_
      refine lv_istore_n (lv' := [(3, .int (0 : Int32)), (2, .int v219), (1, .int (1 : Int32)), (0, .ref p0)]) hx hb d_X_shift_96 rfl hl (by decide) rfl (fun ls hl => ?_)
      have CUT97 : ∀ (n : Nat) (g97l3 : Int32) (g97y9 : Nat → Int32) (H : Heap) (locs : List Loc) (ls : Array Slot), (10 - g97l3.toInt) < (n : Int) → (0 ≤ g97l3.toInt ∧ g97l3.toInt ≤ 10) → (∀ i : Nat, (0 ≤ (g97y9 i).toInt ∧ (g97y9 i).toInt ≤ 63)) → va_P D classes (wS50 cI cJ cZ cB p0 p1 p2 p3 p4 p5 p6 p7 p8 p9 p10 p11 p12 p13 p14 p15 p16 p17 p18 p19 p20 p21 p22 p23 p24 p25 x0_4 x0_5 x0_6 x0_7 x0_8 x0_12 x0_13 x0_14 x0_15 x0_16 x0_17 x0_18 x0_22 x0_23 x0_24 x0_25 x0_26 x0_27 x0_28 x0_29 x0_30 x0_31 x0_32 x0_36 x0_39 x0_40 x0_44 x0_49 x0_51 x0_53 x0_54 x0_55 x0_56 x0_57 x0_58 x0_59 x0_60 x0_61 x0_62 y1 y2 y3 y4 y5 y6 y7 v50 g97y9 y10 y11 y12 y13 y14 y15 y16 y17 y18 y19 y20 y21 y22 y23 y24 y25) H → va_D A (wS50 cI cJ cZ cB p0 p1 p2 p3 p4 p5 p6 p7 p8 p9 p10 p11 p12 p13 p14 p15 p16 p17 p18 p19 p20 p21 p22 p23 p24 p25 x0_4 x0_5 x0_6 x0_7 x0_8 x0_12 x0_13 x0_14 x0_15 x0_16 x0_17 x0_18 x0_22 x0_23 x0_24 x0_25 x0_26 x0_27 x0_28 x0_29 x0_30 x0_31 x0_32 x0_36 x0_39 x0_40 x0_44 x0_49 x0_51 x0_53 x0_54 x0_55 x0_56 x0_57 x0_58 x0_59 x0_60 x0_61 x0_62 y1 y2 y3 y4 y5 y6 y7 v50 g97y9 y10 y11 y12 y13 y14 y15 y16 y17 y18 y19 y20 y21 y22 y23 y24 y25) → va_S A s.heap H locs → lv_has ls 7 [(3, .int g97l3), (2, .int v219), (1, .int (1 : Int32)), (0, .ref p0)] → W p l e ({ frames := 2, cells := 0, slots := 0, locals := 45 }) s m [.ref p0].toArray below meth c H locs 0 0 (MQ below (va_Qv (fun (_ : Unit) => True) (fun _ t => ∃ u_y4 : Nat → Int32, ∃ u_y8 : Nat → Int32, ∃ u_y9 : Nat → Int32, (∀ i : Nat, ((0 ≤ (u_y4 i).toInt ∧ (u_y4 i).toInt ≤ 1073741823) ∧ ((1 ≤ (i : Int) ∧ (i : Int) ≤ 6) → (u_y4 i).toInt ≤ 4095))) ∧ (∀ i : Nat, (0 ≤ (u_y8 i).toInt ∧ (u_y8 i).toInt ≤ 63)) ∧ (∀ i : Nat, (0 ≤ (u_y9 i).toInt ∧ (u_y9 i).toInt ≤ 63)) ∧ va_P D classes (wS50 cI cJ cZ cB p0 p1 p2 p3 p4 p5 p6 p7 p8 p9 p10 p11 p12 p13 p14 p15 p16 p17 p18 p19 p20 p21 p22 p23 p24 p25 x0_4 x0_5 x0_6 x0_7 x0_8 x0_12 x0_13 x0_14 x0_15 x0_16 x0_17 x0_18 x0_22 x0_23 x0_24 x0_25 x0_26 x0_27 x0_28 x0_29 x0_30 x0_31 x0_32 x0_36 x0_39 x0_40 x0_44 x0_49 x0_51 x0_53 x0_54 x0_55 x0_56 x0_57 x0_58 x0_59 x0_60 x0_61 x0_62 y1 y2 y3 u_y4 y5 y6 y7 u_y8 u_y9 y10 y11 y12 y13 y14 y15 y16 y17 y18 y19 y20 y21 y22 y23 y24 y25) t.heap ∧ va_D A (wS50 cI cJ cZ cB p0 p1 p2 p3 p4 p5 p6 p7 p8 p9 p10 p11 p12 p13 p14 p15 p16 p17 p18 p19 p20 p21 p22 p23 p24 p25 x0_4 x0_5 x0_6 x0_7 x0_8 x0_12 x0_13 x0_14 x0_15 x0_16 x0_17 x0_18 x0_22 x0_23 x0_24 x0_25 x0_26 x0_27 x0_28 x0_29 x0_30 x0_31 x0_32 x0_36 x0_39 x0_40 x0_44 x0_49 x0_51 x0_53 x0_54 x0_55 x0_56 x0_57 x0_58 x0_59 x0_60 x0_61 x0_62 y1 y2 y3 u_y4 y5 y6 y7 u_y8 u_y9 y10 y11 y12 y13 y14 y15 y16 y17 y18 y19 y20 y21 y22 y23 y24 y25)) A) [.ref p0].toArray s 0 0 A) (F0 m 97 ls []) := by
        intro n
        induction n with
        | zero => intro g97l3 g97y9 H locs ls hn97 Rg97l3 Ag97y9 hP hD hS hl; exfalso; omega
        | succ n ih97 =>
          intro g97l3 g97y9 H locs ls hn97 Rg97l3 Ag97y9 hP hD hS hl
          refine lv_iload_n hx hb d_X_shift_97 rfl (lv_at hl 0 rfl) ?_
          refine lv_bipush (v := 10) hx hb d_X_shift_98 (by decide) ?_
          refine lv_icmp_ge (tgt := 212) hx hb d_X_shift_100 (by decide) (fun c220 => ?_) (fun c220 => ?_)
          · have gc220 : (10 : Int) ≤ g97l3.toInt := c_le c220
            have R221 : 10 ≤ g97l3.toInt ∧ g97l3.toInt ≤ 10 := rf_geX Rg97l3 (show 10 ≤ (10 : Int) ∧ (10 : Int) ≤ 10 from by decide) gc220 (by decide) (by decide)
            refine lv_iconst (v := 0) hx hb d_X_shift_212 (by decide) ?_
            refine lv_istore_n (lv' := [(3, .int (0 : Int32)), (2, .int v219), (1, .int (1 : Int32)), (0, .ref p0)]) hx hb d_X_shift_213 rfl hl (by decide) rfl (fun ls hl => ?_)
            refine lv_iconst (v := 0) hx hb d_X_shift_214 (by decide) ?_
            refine lv_istore (lv' := [(4, .int (0 : Int32)), (3, .int (0 : Int32)), (2, .int v219), (1, .int (1 : Int32)), (0, .ref p0)]) hx hb d_X_shift_215 hl (by decide) rfl (fun ls hl => ?_)
            refine lv_iconst (v := 0) hx hb d_X_shift_217 (by decide) ?_
            refine lv_istore (lv' := [(5, .int (0 : Int32)), (4, .int (0 : Int32)), (3, .int (0 : Int32)), (2, .int v219), (1, .int (1 : Int32)), (0, .ref p0)]) hx hb d_X_shift_218 hl (by decide) rfl (fun ls hl => ?_)
            refine lv_iload hx hb d_X_shift_220 (lv_at hl 0 rfl) ?_
            refine lv_iconst (v := 5) hx hb d_X_shift_222 (by decide) ?_
            refine lv_icmp_ge (tgt := 262) hx hb d_X_shift_223 (by decide) (fun c222 => absurd c222 (show ¬ (5 : Int32) ≤ (0 : Int32) from (by decide))) (fun c222 => ?_)
            refine lv_iload_n hx hb d_X_shift_226 rfl (lv_at hl 2 rfl) ?_
            refine lv_bipush (v := 64) hx hb d_X_shift_227 (by decide) ?_
            refine lv_imul hx hb d_X_shift_229 ?_
            refine tpi (y := (0 : Int32)) (by decide) ?_
            refine lv_aload_n hx hb d_X_shift_230 rfl (lv_at hl 5 rfl) ?_
            refine va_get (D := D) (ci := 7) (v := .ref p9) (C := "SignMachineModel") (T := F_X) (N := 64) hx hb hk fi_X hown hK.1 hP 0 rfl rfl 20 (by decide) (hk _ k_1141) (fun _ h9 => h9) rfl d_X_shift_231 ?_
            refine lv_iload hx hb d_X_shift_234 (lv_at hl 0 rfl) ?_
            refine va_iald hx hb hK.1 hP 9 0 rfl rfl (by unfold vp_in; decide) d_X_shift_236 ?_
            refine lv_topi (fun v223 hv223 => ?_)
            have Rv223 := Ag97y9 ((0 : Int32)).toNatClampNeg
            rw [← hv223] at Rv223
            refine lv_iadd hx hb d_X_shift_237 ?_
            refine lv_topi (fun v224 hv224 => ?_)
            obtain ⟨ev224, Rv224⟩ : v224.toInt = (0 : Int) + v223.toInt ∧ (0 ≤ v224.toInt ∧ v224.toInt ≤ 63) := ad3 hv224 (show 0 ≤ (0 : Int32).toInt ∧ (0 : Int32).toInt ≤ 0 from by decide) Rv223 (by decide) (by decide) (by decide) (by decide)
            refine lv_istore_n (lv' := [(3, .int v224), (5, .int (0 : Int32)), (4, .int (0 : Int32)), (2, .int v219), (1, .int (1 : Int32)), (0, .ref p0)]) hx hb d_X_shift_238 rfl hl (by decide) rfl (fun ls hl => ?_)
            refine lv_iload hx hb d_X_shift_239 (lv_at hl 2 rfl) ?_
            refine lv_bipush (v := 64) hx hb d_X_shift_241 (by decide) ?_
            refine lv_imul hx hb d_X_shift_243 ?_
            refine tpi (y := (0 : Int32)) (by decide) ?_
            refine lv_aload_n hx hb d_X_shift_244 rfl (lv_at hl 5 rfl) ?_
            refine va_get (D := D) (ci := 7) (v := .ref p9) (C := "SignMachineModel") (T := F_X) (N := 64) hx hb hk fi_X hown hK.1 hP 0 rfl rfl 20 (by decide) (hk _ k_1141) (fun _ h9 => h9) rfl d_X_shift_245 ?_
            refine lv_iload hx hb d_X_shift_248 (lv_at hl 1 rfl) ?_
            refine lv_iconst (v := 5) hx hb d_X_shift_250 (by decide) ?_
            refine lv_iadd hx hb d_X_shift_251 ?_
            refine tpi (y := (5 : Int32)) (by decide) ?_
            refine va_iald hx hb hK.1 hP 9 0 rfl rfl (by unfold vp_in; decide) d_X_shift_252 ?_
            refine lv_topi (fun v225 hv225 => ?_)
            have Rv225 := Ag97y9 ((5 : Int32)).toNatClampNeg
            rw [← hv225] at Rv225
            refine lv_iadd hx hb d_X_shift_253 ?_
            refine lv_topi (fun v226 hv226 => ?_)
            obtain ⟨ev226, Rv226⟩ : v226.toInt = (0 : Int) + v225.toInt ∧ (0 ≤ v226.toInt ∧ v226.toInt ≤ 63) := ad3 hv226 (show 0 ≤ (0 : Int32).toInt ∧ (0 : Int32).toInt ≤ 0 from by decide) Rv225 (by decide) (by decide) (by decide) (by decide)
            refine lv_istore (lv' := [(4, .int v226), (3, .int v224), (5, .int (0 : Int32)), (2, .int v219), (1, .int (1 : Int32)), (0, .ref p0)]) hx hb d_X_shift_254 hl (by decide) rfl (fun ls hl => ?_)
            refine lv_iinc (v := (1 : Int32)) (lv' := [(5, .int (1 : Int32)), (4, .int v226), (3, .int v224), (2, .int v219), (1, .int (1 : Int32)), (0, .ref p0)]) hx hb d_X_shift_256 hl (k := 2) rfl (by decide) (by decide) rfl (fun ls hl => ?_)
            refine lv_goto (tgt := 220) hx hb d_X_shift_259 (by decide) ?_
            refine lv_iload hx hb d_X_shift_220 (lv_at hl 0 rfl) ?_
            refine lv_iconst (v := 5) hx hb d_X_shift_222 (by decide) ?_
            refine lv_icmp_ge (tgt := 262) hx hb d_X_shift_223 (by decide) (fun c227 => absurd c227 (show ¬ (5 : Int32) ≤ (1 : Int32) from (by decide))) (fun c227 => ?_)
            refine lv_iload_n hx hb d_X_shift_226 rfl (lv_at hl 2 rfl) ?_
            refine lv_bipush (v := 64) hx hb d_X_shift_227 (by decide) ?_
            refine lv_imul hx hb d_X_shift_229 ?_
            refine lv_topi (fun v228 hv228 => ?_)
            obtain ⟨ev228, Rv228⟩ : v228.toInt = v224.toInt * (64 : Int) ∧ (0 ≤ v228.toInt ∧ v228.toInt ≤ 4032) := ml3 hv228 Rv224 (show 64 ≤ (64 : Int32).toInt ∧ (64 : Int32).toInt ≤ 64 from by decide) (by decide) (by decide) (by decide) (by decide) (by decide) (by decide)
            refine lv_aload_n hx hb d_X_shift_230 rfl (lv_at hl 5 rfl) ?_
            refine va_get (D := D) (ci := 7) (v := .ref p9) (C := "SignMachineModel") (T := F_X) (N := 64) hx hb hk fi_X hown hK.1 hP 0 rfl rfl 20 (by decide) (hk _ k_1141) (fun _ h9 => h9) rfl d_X_shift_231 ?_
            refine lv_iload hx hb d_X_shift_234 (lv_at hl 0 rfl) ?_
            refine va_iald hx hb hK.1 hP 9 0 rfl rfl (by unfold vp_in; decide) d_X_shift_236 ?_
            refine lv_topi (fun v229 hv229 => ?_)
            have Rv229 := Ag97y9 ((1 : Int32)).toNatClampNeg
            rw [← hv229] at Rv229
            refine lv_iadd hx hb d_X_shift_237 ?_
            refine lv_topi (fun v230 hv230 => ?_)
            obtain ⟨ev230, Rv230⟩ : v230.toInt = v228.toInt + v229.toInt ∧ (0 ≤ v230.toInt ∧ v230.toInt ≤ 4095) := ad3 hv230 Rv228 Rv229 (by decide) (by decide) (by decide) (by decide)
            refine lv_istore_n (lv' := [(3, .int v230), (5, .int (1 : Int32)), (4, .int v226), (2, .int v219), (1, .int (1 : Int32)), (0, .ref p0)]) hx hb d_X_shift_238 rfl hl (by decide) rfl (fun ls hl => ?_)
            refine lv_iload hx hb d_X_shift_239 (lv_at hl 2 rfl) ?_
            refine lv_bipush (v := 64) hx hb d_X_shift_241 (by decide) ?_
            refine lv_imul hx hb d_X_shift_243 ?_
            refine lv_topi (fun v231 hv231 => ?_)
            obtain ⟨ev231, Rv231⟩ : v231.toInt = v226.toInt * (64 : Int) ∧ (0 ≤ v231.toInt ∧ v231.toInt ≤ 4032) := ml3 hv231 Rv226 (show 64 ≤ (64 : Int32).toInt ∧ (64 : Int32).toInt ≤ 64 from by decide) (by decide) (by decide) (by decide) (by decide) (by decide) (by decide)
            refine lv_aload_n hx hb d_X_shift_244 rfl (lv_at hl 5 rfl) ?_
            refine va_get (D := D) (ci := 7) (v := .ref p9) (C := "SignMachineModel") (T := F_X) (N := 64) hx hb hk fi_X hown hK.1 hP 0 rfl rfl 20 (by decide) (hk _ k_1141) (fun _ h9 => h9) rfl d_X_shift_245 ?_
            refine lv_iload hx hb d_X_shift_248 (lv_at hl 1 rfl) ?_
            refine lv_iconst (v := 5) hx hb d_X_shift_250 (by decide) ?_
            refine lv_iadd hx hb d_X_shift_251 ?_
            refine tpi (y := (6 : Int32)) (by decide) ?_
            refine va_iald hx hb hK.1 hP 9 0 rfl rfl (by unfold vp_in; decide) d_X_shift_252 ?_
            refine lv_topi (fun v232 hv232 => ?_)
            have Rv232 := Ag97y9 ((6 : Int32)).toNatClampNeg
            rw [← hv232] at Rv232
            refine lv_iadd hx hb d_X_shift_253 ?_
            refine lv_topi (fun v233 hv233 => ?_)
            obtain ⟨ev233, Rv233⟩ : v233.toInt = v231.toInt + v232.toInt ∧ (0 ≤ v233.toInt ∧ v233.toInt ≤ 4095) := ad3 hv233 Rv231 Rv232 (by decide) (by decide) (by decide) (by decide)
            refine lv_istore (lv' := [(4, .int v233), (3, .int v230), (5, .int (1 : Int32)), (2, .int v219), (1, .int (1 : Int32)), (0, .ref p0)]) hx hb d_X_shift_254 hl (by decide) rfl (fun ls hl => ?_)
            refine lv_iinc (v := (2 : Int32)) (lv' := [(5, .int (2 : Int32)), (4, .int v233), (3, .int v230), (2, .int v219), (1, .int (1 : Int32)), (0, .ref p0)]) hx hb d_X_shift_256 hl (k := 2) rfl (by decide) (by decide) rfl (fun ls hl => ?_)
            refine lv_goto (tgt := 220) hx hb d_X_shift_259 (by decide) ?_
            refine lv_iload hx hb d_X_shift_220 (lv_at hl 0 rfl) ?_
            refine lv_iconst (v := 5) hx hb d_X_shift_222 (by decide) ?_
            refine lv_icmp_ge (tgt := 262) hx hb d_X_shift_223 (by decide) (fun c234 => absurd c234 (show ¬ (5 : Int32) ≤ (2 : Int32) from (by decide))) (fun c234 => ?_)
            refine lv_iload_n hx hb d_X_shift_226 rfl (lv_at hl 2 rfl) ?_
            refine lv_bipush (v := 64) hx hb d_X_shift_227 (by decide) ?_
            refine lv_imul hx hb d_X_shift_229 ?_
            refine lv_topi (fun v235 hv235 => ?_)
            obtain ⟨ev235, Rv235⟩ : v235.toInt = v230.toInt * (64 : Int) ∧ (0 ≤ v235.toInt ∧ v235.toInt ≤ 262080) := ml3 hv235 Rv230 (show 64 ≤ (64 : Int32).toInt ∧ (64 : Int32).toInt ≤ 64 from by decide) (by decide) (by decide) (by decide) (by decide) (by decide) (by decide)
            refine lv_aload_n hx hb d_X_shift_230 rfl (lv_at hl 5 rfl) ?_
            refine va_get (D := D) (ci := 7) (v := .ref p9) (C := "SignMachineModel") (T := F_X) (N := 64) hx hb hk fi_X hown hK.1 hP 0 rfl rfl 20 (by decide) (hk _ k_1141) (fun _ h9 => h9) rfl d_X_shift_231 ?_
            refine lv_iload hx hb d_X_shift_234 (lv_at hl 0 rfl) ?_
            refine va_iald hx hb hK.1 hP 9 0 rfl rfl (by unfold vp_in; decide) d_X_shift_236 ?_
            refine lv_topi (fun v236 hv236 => ?_)
            have Rv236 := Ag97y9 ((2 : Int32)).toNatClampNeg
            rw [← hv236] at Rv236
            refine lv_iadd hx hb d_X_shift_237 ?_
            refine lv_topi (fun v237 hv237 => ?_)
            obtain ⟨ev237, Rv237⟩ : v237.toInt = v235.toInt + v236.toInt ∧ (0 ≤ v237.toInt ∧ v237.toInt ≤ 262143) := ad3 hv237 Rv235 Rv236 (by decide) (by decide) (by decide) (by decide)
            refine lv_istore_n (lv' := [(3, .int v237), (5, .int (2 : Int32)), (4, .int v233), (2, .int v219), (1, .int (1 : Int32)), (0, .ref p0)]) hx hb d_X_shift_238 rfl hl (by decide) rfl (fun ls hl => ?_)
            refine lv_iload hx hb d_X_shift_239 (lv_at hl 2 rfl) ?_
            refine lv_bipush (v := 64) hx hb d_X_shift_241 (by decide) ?_
            refine lv_imul hx hb d_X_shift_243 ?_
            refine lv_topi (fun v238 hv238 => ?_)
            obtain ⟨ev238, Rv238⟩ : v238.toInt = v233.toInt * (64 : Int) ∧ (0 ≤ v238.toInt ∧ v238.toInt ≤ 262080) := ml3 hv238 Rv233 (show 64 ≤ (64 : Int32).toInt ∧ (64 : Int32).toInt ≤ 64 from by decide) (by decide) (by decide) (by decide) (by decide) (by decide) (by decide)
            refine lv_aload_n hx hb d_X_shift_244 rfl (lv_at hl 5 rfl) ?_
            refine va_get (D := D) (ci := 7) (v := .ref p9) (C := "SignMachineModel") (T := F_X) (N := 64) hx hb hk fi_X hown hK.1 hP 0 rfl rfl 20 (by decide) (hk _ k_1141) (fun _ h9 => h9) rfl d_X_shift_245 ?_
            refine lv_iload hx hb d_X_shift_248 (lv_at hl 1 rfl) ?_
            refine lv_iconst (v := 5) hx hb d_X_shift_250 (by decide) ?_
            refine lv_iadd hx hb d_X_shift_251 ?_
            refine tpi (y := (7 : Int32)) (by decide) ?_
            refine va_iald hx hb hK.1 hP 9 0 rfl rfl (by unfold vp_in; decide) d_X_shift_252 ?_
            refine lv_topi (fun v239 hv239 => ?_)
            have Rv239 := Ag97y9 ((7 : Int32)).toNatClampNeg
            rw [← hv239] at Rv239
            refine lv_iadd hx hb d_X_shift_253 ?_
            refine lv_topi (fun v240 hv240 => ?_)
            obtain ⟨ev240, Rv240⟩ : v240.toInt = v238.toInt + v239.toInt ∧ (0 ≤ v240.toInt ∧ v240.toInt ≤ 262143) := ad3 hv240 Rv238 Rv239 (by decide) (by decide) (by decide) (by decide)
            refine lv_istore (lv' := [(4, .int v240), (3, .int v237), (5, .int (2 : Int32)), (2, .int v219), (1, .int (1 : Int32)), (0, .ref p0)]) hx hb d_X_shift_254 hl (by decide) rfl (fun ls hl => ?_)
            refine lv_iinc (v := (3 : Int32)) (lv' := [(5, .int (3 : Int32)), (4, .int v240), (3, .int v237), (2, .int v219), (1, .int (1 : Int32)), (0, .ref p0)]) hx hb d_X_shift_256 hl (k := 2) rfl (by decide) (by decide) rfl (fun ls hl => ?_)
            refine lv_goto (tgt := 220) hx hb d_X_shift_259 (by decide) ?_
            refine lv_iload hx hb d_X_shift_220 (lv_at hl 0 rfl) ?_
            refine lv_iconst (v := 5) hx hb d_X_shift_222 (by decide) ?_
            refine lv_icmp_ge (tgt := 262) hx hb d_X_shift_223 (by decide) (fun c241 => absurd c241 (show ¬ (5 : Int32) ≤ (3 : Int32) from (by decide))) (fun c241 => ?_)
            refine lv_iload_n hx hb d_X_shift_226 rfl (lv_at hl 2 rfl) ?_
            refine lv_bipush (v := 64) hx hb d_X_shift_227 (by decide) ?_
            refine lv_imul hx hb d_X_shift_229 ?_
            refine lv_topi (fun v242 hv242 => ?_)
            obtain ⟨ev242, Rv242⟩ : v242.toInt = v237.toInt * (64 : Int) ∧ (0 ≤ v242.toInt ∧ v242.toInt ≤ 16777152) := ml3 hv242 Rv237 (show 64 ≤ (64 : Int32).toInt ∧ (64 : Int32).toInt ≤ 64 from by decide) (by decide) (by decide) (by decide) (by decide) (by decide) (by decide)
            refine lv_aload_n hx hb d_X_shift_230 rfl (lv_at hl 5 rfl) ?_
            refine va_get (D := D) (ci := 7) (v := .ref p9) (C := "SignMachineModel") (T := F_X) (N := 64) hx hb hk fi_X hown hK.1 hP 0 rfl rfl 20 (by decide) (hk _ k_1141) (fun _ h9 => h9) rfl d_X_shift_231 ?_
            refine lv_iload hx hb d_X_shift_234 (lv_at hl 0 rfl) ?_
            refine va_iald hx hb hK.1 hP 9 0 rfl rfl (by unfold vp_in; decide) d_X_shift_236 ?_
            refine lv_topi (fun v243 hv243 => ?_)
            have Rv243 := Ag97y9 ((3 : Int32)).toNatClampNeg
            rw [← hv243] at Rv243
            refine lv_iadd hx hb d_X_shift_237 ?_
            refine lv_topi (fun v244 hv244 => ?_)
            obtain ⟨ev244, Rv244⟩ : v244.toInt = v242.toInt + v243.toInt ∧ (0 ≤ v244.toInt ∧ v244.toInt ≤ 16777215) := ad3 hv244 Rv242 Rv243 (by decide) (by decide) (by decide) (by decide)
            refine lv_istore_n (lv' := [(3, .int v244), (5, .int (3 : Int32)), (4, .int v240), (2, .int v219), (1, .int (1 : Int32)), (0, .ref p0)]) hx hb d_X_shift_238 rfl hl (by decide) rfl (fun ls hl => ?_)
            refine lv_iload hx hb d_X_shift_239 (lv_at hl 2 rfl) ?_
            refine lv_bipush (v := 64) hx hb d_X_shift_241 (by decide) ?_
            refine lv_imul hx hb d_X_shift_243 ?_
            refine lv_topi (fun v245 hv245 => ?_)
            obtain ⟨ev245, Rv245⟩ : v245.toInt = v240.toInt * (64 : Int) ∧ (0 ≤ v245.toInt ∧ v245.toInt ≤ 16777152) := ml3 hv245 Rv240 (show 64 ≤ (64 : Int32).toInt ∧ (64 : Int32).toInt ≤ 64 from by decide) (by decide) (by decide) (by decide) (by decide) (by decide) (by decide)
            refine lv_aload_n hx hb d_X_shift_244 rfl (lv_at hl 5 rfl) ?_
            refine va_get (D := D) (ci := 7) (v := .ref p9) (C := "SignMachineModel") (T := F_X) (N := 64) hx hb hk fi_X hown hK.1 hP 0 rfl rfl 20 (by decide) (hk _ k_1141) (fun _ h9 => h9) rfl d_X_shift_245 ?_
            refine lv_iload hx hb d_X_shift_248 (lv_at hl 1 rfl) ?_
            refine lv_iconst (v := 5) hx hb d_X_shift_250 (by decide) ?_
            refine lv_iadd hx hb d_X_shift_251 ?_
            refine tpi (y := (8 : Int32)) (by decide) ?_
            refine va_iald hx hb hK.1 hP 9 0 rfl rfl (by unfold vp_in; decide) d_X_shift_252 ?_
            refine lv_topi (fun v246 hv246 => ?_)
            have Rv246 := Ag97y9 ((8 : Int32)).toNatClampNeg
            rw [← hv246] at Rv246
            refine lv_iadd hx hb d_X_shift_253 ?_
            refine lv_topi (fun v247 hv247 => ?_)
            obtain ⟨ev247, Rv247⟩ : v247.toInt = v245.toInt + v246.toInt ∧ (0 ≤ v247.toInt ∧ v247.toInt ≤ 16777215) := ad3 hv247 Rv245 Rv246 (by decide) (by decide) (by decide) (by decide)
            refine lv_istore (lv' := [(4, .int v247), (3, .int v244), (5, .int (3 : Int32)), (2, .int v219), (1, .int (1 : Int32)), (0, .ref p0)]) hx hb d_X_shift_254 hl (by decide) rfl (fun ls hl => ?_)
            refine lv_iinc (v := (4 : Int32)) (lv' := [(5, .int (4 : Int32)), (4, .int v247), (3, .int v244), (2, .int v219), (1, .int (1 : Int32)), (0, .ref p0)]) hx hb d_X_shift_256 hl (k := 2) rfl (by decide) (by decide) rfl (fun ls hl => ?_)
            refine lv_goto (tgt := 220) hx hb d_X_shift_259 (by decide) ?_
            refine lv_iload hx hb d_X_shift_220 (lv_at hl 0 rfl) ?_
            refine lv_iconst (v := 5) hx hb d_X_shift_222 (by decide) ?_
            refine lv_icmp_ge (tgt := 262) hx hb d_X_shift_223 (by decide) (fun c248 => absurd c248 (show ¬ (5 : Int32) ≤ (4 : Int32) from (by decide))) (fun c248 => ?_)
            refine lv_iload_n hx hb d_X_shift_226 rfl (lv_at hl 2 rfl) ?_
            refine lv_bipush (v := 64) hx hb d_X_shift_227 (by decide) ?_
            refine lv_imul hx hb d_X_shift_229 ?_
            refine lv_topi (fun v249 hv249 => ?_)
            obtain ⟨ev249, Rv249⟩ : v249.toInt = v244.toInt * (64 : Int) ∧ (0 ≤ v249.toInt ∧ v249.toInt ≤ 1073741760) := ml3 hv249 Rv244 (show 64 ≤ (64 : Int32).toInt ∧ (64 : Int32).toInt ≤ 64 from by decide) (by decide) (by decide) (by decide) (by decide) (by decide) (by decide)
            refine lv_aload_n hx hb d_X_shift_230 rfl (lv_at hl 5 rfl) ?_
            refine va_get (D := D) (ci := 7) (v := .ref p9) (C := "SignMachineModel") (T := F_X) (N := 64) hx hb hk fi_X hown hK.1 hP 0 rfl rfl 20 (by decide) (hk _ k_1141) (fun _ h9 => h9) rfl d_X_shift_231 ?_
            refine lv_iload hx hb d_X_shift_234 (lv_at hl 0 rfl) ?_
            refine va_iald hx hb hK.1 hP 9 0 rfl rfl (by unfold vp_in; decide) d_X_shift_236 ?_
            refine lv_topi (fun v250 hv250 => ?_)
            have Rv250 := Ag97y9 ((4 : Int32)).toNatClampNeg
            rw [← hv250] at Rv250
            refine lv_iadd hx hb d_X_shift_237 ?_
            refine lv_topi (fun v251 hv251 => ?_)
            obtain ⟨ev251, Rv251⟩ : v251.toInt = v249.toInt + v250.toInt ∧ (0 ≤ v251.toInt ∧ v251.toInt ≤ 1073741823) := ad3 hv251 Rv249 Rv250 (by decide) (by decide) (by decide) (by decide)
            refine lv_istore_n (lv' := [(3, .int v251), (5, .int (4 : Int32)), (4, .int v247), (2, .int v219), (1, .int (1 : Int32)), (0, .ref p0)]) hx hb d_X_shift_238 rfl hl (by decide) rfl (fun ls hl => ?_)
            refine lv_iload hx hb d_X_shift_239 (lv_at hl 2 rfl) ?_
            refine lv_bipush (v := 64) hx hb d_X_shift_241 (by decide) ?_
            refine lv_imul hx hb d_X_shift_243 ?_
            refine lv_topi (fun v252 hv252 => ?_)
            obtain ⟨ev252, Rv252⟩ : v252.toInt = v247.toInt * (64 : Int) ∧ (0 ≤ v252.toInt ∧ v252.toInt ≤ 1073741760) := ml3 hv252 Rv247 (show 64 ≤ (64 : Int32).toInt ∧ (64 : Int32).toInt ≤ 64 from by decide) (by decide) (by decide) (by decide) (by decide) (by decide) (by decide)
            refine lv_aload_n hx hb d_X_shift_244 rfl (lv_at hl 5 rfl) ?_
            refine va_get (D := D) (ci := 7) (v := .ref p9) (C := "SignMachineModel") (T := F_X) (N := 64) hx hb hk fi_X hown hK.1 hP 0 rfl rfl 20 (by decide) (hk _ k_1141) (fun _ h9 => h9) rfl d_X_shift_245 ?_
            refine lv_iload hx hb d_X_shift_248 (lv_at hl 1 rfl) ?_
            refine lv_iconst (v := 5) hx hb d_X_shift_250 (by decide) ?_
            refine lv_iadd hx hb d_X_shift_251 ?_
            refine tpi (y := (9 : Int32)) (by decide) ?_
            refine va_iald hx hb hK.1 hP 9 0 rfl rfl (by unfold vp_in; decide) d_X_shift_252 ?_
            refine lv_topi (fun v253 hv253 => ?_)
            have Rv253 := Ag97y9 ((9 : Int32)).toNatClampNeg
            rw [← hv253] at Rv253
            refine lv_iadd hx hb d_X_shift_253 ?_
            refine lv_topi (fun v254 hv254 => ?_)
            obtain ⟨ev254, Rv254⟩ : v254.toInt = v252.toInt + v253.toInt ∧ (0 ≤ v254.toInt ∧ v254.toInt ≤ 1073741823) := ad3 hv254 Rv252 Rv253 (by decide) (by decide) (by decide) (by decide)
            refine lv_istore (lv' := [(4, .int v254), (3, .int v251), (5, .int (4 : Int32)), (2, .int v219), (1, .int (1 : Int32)), (0, .ref p0)]) hx hb d_X_shift_254 hl (by decide) rfl (fun ls hl => ?_)
            refine lv_iinc (v := (5 : Int32)) (lv' := [(5, .int (5 : Int32)), (4, .int v254), (3, .int v251), (2, .int v219), (1, .int (1 : Int32)), (0, .ref p0)]) hx hb d_X_shift_256 hl (k := 2) rfl (by decide) (by decide) rfl (fun ls hl => ?_)
            refine lv_goto (tgt := 220) hx hb d_X_shift_259 (by decide) ?_
            refine lv_iload hx hb d_X_shift_220 (lv_at hl 0 rfl) ?_
            refine lv_iconst (v := 5) hx hb d_X_shift_222 (by decide) ?_
            refine lv_icmp_ge (tgt := 262) hx hb d_X_shift_223 (by decide) (fun c255 => ?_) (fun c255 => absurd (show (5 : Int32) ≤ (5 : Int32) from (by decide)) c255)
            refine lv_aload_n hx hb d_X_shift_262 rfl (lv_at hl 5 rfl) ?_
            refine va_get (D := D) (ci := 7) (v := .ref p4) (C := "SignMachineModel") (T := F_X) (N := 64) hx hb hk fi_X hown hK.1 hP 0 rfl rfl 3 (by decide) (hk _ k_1124) (fun _ h9 => h9) rfl d_X_shift_263 ?_
            refine lv_iconst (v := 0) hx hb d_X_shift_266 (by decide) ?_
            refine lv_iload_n hx hb d_X_shift_267 rfl (lv_at hl 2 rfl) ?_
            refine va_iast hx hb hK.1 hP hD hS 4 0 rfl rfl (by unfold vp_in; decide) d_X_shift_268 (fun H locs hP hD hS => ?_)
            have hP : va_P D classes (wS50 cI cJ cZ cB p0 p1 p2 p3 p4 p5 p6 p7 p8 p9 p10 p11 p12 p13 p14 p15 p16 p17 p18 p19 p20 p21 p22 p23 p24 p25 x0_4 x0_5 x0_6 x0_7 x0_8 x0_12 x0_13 x0_14 x0_15 x0_16 x0_17 x0_18 x0_22 x0_23 x0_24 x0_25 x0_26 x0_27 x0_28 x0_29 x0_30 x0_31 x0_32 x0_36 x0_39 x0_40 x0_44 x0_49 x0_51 x0_53 x0_54 x0_55 x0_56 x0_57 x0_58 x0_59 x0_60 x0_61 x0_62 y1 y2 y3 (upd y4 ((0 : Int32)).toNatClampNeg v251) y5 y6 y7 v50 g97y9 y10 y11 y12 y13 y14 y15 y16 y17 y18 y19 y20 y21 y22 y23 y24 y25) H := hP
            have hD : va_D A (wS50 cI cJ cZ cB p0 p1 p2 p3 p4 p5 p6 p7 p8 p9 p10 p11 p12 p13 p14 p15 p16 p17 p18 p19 p20 p21 p22 p23 p24 p25 x0_4 x0_5 x0_6 x0_7 x0_8 x0_12 x0_13 x0_14 x0_15 x0_16 x0_17 x0_18 x0_22 x0_23 x0_24 x0_25 x0_26 x0_27 x0_28 x0_29 x0_30 x0_31 x0_32 x0_36 x0_39 x0_40 x0_44 x0_49 x0_51 x0_53 x0_54 x0_55 x0_56 x0_57 x0_58 x0_59 x0_60 x0_61 x0_62 y1 y2 y3 (upd y4 ((0 : Int32)).toNatClampNeg v251) y5 y6 y7 v50 g97y9 y10 y11 y12 y13 y14 y15 y16 y17 y18 y19 y20 y21 y22 y23 y24 y25) := hD
            obtain ⟨v256, hv256⟩ : ∃ y : Nat → Int32, y = (upd y4 ((0 : Int32)).toNatClampNeg v251) := ⟨_, rfl⟩
            rw [← hv256] at hP hD
            have : ((((0 : Int32)).toNatClampNeg : Nat) : Int) = 0 := by decide
            have Gv256 : ((0 ≤ (v251).toInt ∧ (v251).toInt ≤ 1073741823) ∧ ((1 ≤ ((((0 : Int32)).toNatClampNeg : Nat) : Int) ∧ ((((0 : Int32)).toNatClampNeg : Nat) : Int) ≤ 6) → (v251).toInt ≤ 4095)) := ⟨Rv251, fun h => absurd h (by decide)⟩
            have Av256 : ∀ i : Nat, ((0 ≤ (v256 i).toInt ∧ (v256 i).toInt ≤ 1073741823) ∧ ((1 ≤ (i : Int) ∧ (i : Int) ≤ 6) → (v256 i).toInt ≤ 4095)) := by rw [hv256]; exact upd_all (P := fun i x => ((0 ≤ (x).toInt ∧ (x).toInt ≤ 1073741823) ∧ ((1 ≤ (i : Int) ∧ (i : Int) ≤ 6) → (x).toInt ≤ 4095))) Ay4 Gv256
            clear hv256
            refine lv_aload_n hx hb d_X_shift_269 rfl (lv_at hl 5 rfl) ?_
            refine va_get (D := D) (ci := 7) (v := .ref p4) (C := "SignMachineModel") (T := F_X) (N := 64) hx hb hk fi_X hown hK.1 hP 0 rfl rfl 3 (by decide) (hk _ k_1124) (fun _ h9 => h9) rfl d_X_shift_270 ?_
            refine lv_bipush (v := 7) hx hb d_X_shift_273 (by decide) ?_
            refine lv_iload hx hb d_X_shift_275 (lv_at hl 1 rfl) ?_
            refine va_iast hx hb hK.1 hP hD hS 4 0 rfl rfl (by unfold vp_in; decide) d_X_shift_277 (fun H locs hP hD hS => ?_)
            have hP : va_P D classes (wS50 cI cJ cZ cB p0 p1 p2 p3 p4 p5 p6 p7 p8 p9 p10 p11 p12 p13 p14 p15 p16 p17 p18 p19 p20 p21 p22 p23 p24 p25 x0_4 x0_5 x0_6 x0_7 x0_8 x0_12 x0_13 x0_14 x0_15 x0_16 x0_17 x0_18 x0_22 x0_23 x0_24 x0_25 x0_26 x0_27 x0_28 x0_29 x0_30 x0_31 x0_32 x0_36 x0_39 x0_40 x0_44 x0_49 x0_51 x0_53 x0_54 x0_55 x0_56 x0_57 x0_58 x0_59 x0_60 x0_61 x0_62 y1 y2 y3 (upd v256 ((7 : Int32)).toNatClampNeg v254) y5 y6 y7 v50 g97y9 y10 y11 y12 y13 y14 y15 y16 y17 y18 y19 y20 y21 y22 y23 y24 y25) H := hP
            have hD : va_D A (wS50 cI cJ cZ cB p0 p1 p2 p3 p4 p5 p6 p7 p8 p9 p10 p11 p12 p13 p14 p15 p16 p17 p18 p19 p20 p21 p22 p23 p24 p25 x0_4 x0_5 x0_6 x0_7 x0_8 x0_12 x0_13 x0_14 x0_15 x0_16 x0_17 x0_18 x0_22 x0_23 x0_24 x0_25 x0_26 x0_27 x0_28 x0_29 x0_30 x0_31 x0_32 x0_36 x0_39 x0_40 x0_44 x0_49 x0_51 x0_53 x0_54 x0_55 x0_56 x0_57 x0_58 x0_59 x0_60 x0_61 x0_62 y1 y2 y3 (upd v256 ((7 : Int32)).toNatClampNeg v254) y5 y6 y7 v50 g97y9 y10 y11 y12 y13 y14 y15 y16 y17 y18 y19 y20 y21 y22 y23 y24 y25) := hD
            obtain ⟨v257, hv257⟩ : ∃ y : Nat → Int32, y = (upd v256 ((7 : Int32)).toNatClampNeg v254) := ⟨_, rfl⟩
            rw [← hv257] at hP hD
            have : ((((7 : Int32)).toNatClampNeg : Nat) : Int) = 7 := by decide
            have Gv257 : ((0 ≤ (v254).toInt ∧ (v254).toInt ≤ 1073741823) ∧ ((1 ≤ ((((7 : Int32)).toNatClampNeg : Nat) : Int) ∧ ((((7 : Int32)).toNatClampNeg : Nat) : Int) ≤ 6) → (v254).toInt ≤ 4095)) := ⟨Rv254, fun h => absurd h (by decide)⟩
            have Av257 : ∀ i : Nat, ((0 ≤ (v257 i).toInt ∧ (v257 i).toInt ≤ 1073741823) ∧ ((1 ≤ (i : Int) ∧ (i : Int) ≤ 6) → (v257 i).toInt ≤ 4095)) := by rw [hv257]; exact upd_all (P := fun i x => ((0 ≤ (x).toInt ∧ (x).toInt ≤ 1073741823) ∧ ((1 ≤ (i : Int) ∧ (i : Int) ≤ 6) → (x).toInt ≤ 4095))) Av256 Gv257
            clear hv257
            exact W.vret hx hb hr (fun t ht hW => ⟨⟨(), rfl, trivial, ⟨v257, v50, g97y9, Av257, Av50, Ag97y9, by show va_P D classes _ t.heap; rw [ht]; exact hP, hD⟩⟩, hS.F ht⟩) hS.2.2 d_X_shift_278
          · have gc220 : g97l3.toInt < (10 : Int) := c_nle c220
            have R258 : 0 ≤ g97l3.toInt ∧ g97l3.toInt ≤ 9 := rf_ltX Rg97l3 (show 10 ≤ (10 : Int) ∧ (10 : Int) ≤ 10 from by decide) gc220 (by decide) (by decide)
            refine lv_iload_n hx hb d_X_shift_103 rfl (lv_at hl 0 rfl) ?_
            refine lv_i2l (v := (g97l3 : Int32).toInt64) hx hb d_X_shift_104 rfl ?_
            refine lv_topl (fun v259 hv259 => ?_)
            obtain ⟨ev259, Rv259⟩ : v259.toInt = g97l3.toInt ∧ (0 ≤ v259.toInt ∧ v259.toInt ≤ 9) := il3 hv259 R258
            refine lv_iload_n hx hb d_X_shift_105 rfl (lv_at hl 1 rfl) ?_
            refine lv_i2l (v := (v219 : Int32).toInt64) hx hb d_X_shift_106 rfl ?_
            refine lv_topl (fun v260 hv260 => ?_)
            obtain ⟨ev260, Rv260⟩ : v260.toInt = v219.toInt ∧ ((-8190) ≤ v260.toInt ∧ v260.toInt ≤ 8190) := il3 hv260 Rv219
            refine lv_ladd hx hb d_X_shift_107 ?_
            refine lv_topl (fun v261 hv261 => ?_)
            obtain ⟨ev261, Rv261⟩ : v261.toInt = v259.toInt + v260.toInt ∧ ((-8190) ≤ v261.toInt ∧ v261.toInt ≤ 8199) := ad6 hv261 Rv259 Rv260 (by decide) (by decide) (by decide) (by decide)
            refine lv_lstore (lv' := [(4, .long v261), (3, .int g97l3), (2, .int v219), (1, .int (1 : Int32)), (0, .ref p0)]) hx hb d_X_shift_108 hl (by decide) rfl (fun ls hl => ?_)
            refine lv_aload_n hx hb d_X_shift_110 rfl (lv_at hl 4 rfl) ?_
            refine va_get (D := D) (ci := 7) (v := .int x0_13) (C := "SignMachineModel") (T := F_X) (N := 64) hx hb hk fi_X hown hK.1 hP 0 rfl rfl 13 (by decide) (hk _ k_1134) (fun _ h9 => h9) rfl d_X_shift_111 ?_
            refine lv_iconst (v := 4) hx hb d_X_shift_114 (by decide) ?_
            refine lv_icmp_lt (tgt := 134) hx hb d_X_shift_115 (by decide) (fun c262 => ?_) (fun c262 => absurd (show x0_13 < (4 : Int32) from (Int32.lt_iff_toInt_lt.mpr (klt R215 (show 4 ≤ (4 : Int) ∧ (4 : Int) ≤ 4 from by decide) (by decide)))) c262)
            refine lv_iload_n hx hb d_X_shift_134 rfl (lv_at hl 3 rfl) ?_
            refine lv_if_eq (tgt := 147) hx hb d_X_shift_135 (by decide) (fun c263 => absurd c263 (show ¬ (1 : Int32) = (0 : Int32) from (by decide))) (fun c263 => ?_)
            refine lv_iload_n hx hb d_X_shift_138 rfl (lv_at hl 1 rfl) ?_
            refine lv_iconst (v := 5) hx hb d_X_shift_139 (by decide) ?_
            refine lv_icmp_lt (tgt := 147) hx hb d_X_shift_140 (by decide) (fun c264 => ?_) (fun c264 => ?_)
            · have gc264 : g97l3.toInt < (5 : Int) := c_lt c264
              have R265 : 0 ≤ g97l3.toInt ∧ g97l3.toInt ≤ 4 := rf_ltX R258 (show 5 ≤ (5 : Int) ∧ (5 : Int) ≤ 5 from by decide) gc264 (by decide) (by decide)
              refine lv_iconst (v := 0) hx hb d_X_shift_147 (by decide) ?_
              refine lv_istore (lv' := [(6, .int (0 : Int32)), (4, .long v261), (3, .int g97l3), (2, .int v219), (1, .int (1 : Int32)), (0, .ref p0)]) hx hb d_X_shift_148 hl (by decide) rfl (fun ls hl => ?_)
              refine lv_aload_n hx hb d_X_shift_150 rfl (lv_at hl 5 rfl) ?_
              refine va_get (D := D) (ci := 7) (v := .ref p9) (C := "SignMachineModel") (T := F_X) (N := 64) hx hb hk fi_X hown hK.1 hP 0 rfl rfl 20 (by decide) (hk _ k_1141) (fun _ h9 => h9) rfl d_X_shift_151 ?_
              refine lv_iload_n hx hb d_X_shift_154 rfl (lv_at hl 2 rfl) ?_
              refine lv_iload hx hb d_X_shift_155 (lv_at hl 0 rfl) ?_
              refine lv_if_eq (tgt := 169) hx hb d_X_shift_157 (by decide) (fun c266 => ?_) (fun c266 => absurd (show (0 : Int32) = (0 : Int32) from (by decide)) c266)
              refine lv_lload hx hb d_X_shift_169 (lv_at hl 1 rfl) ?_
              refine lv_lconst (v := 0) hx hb d_X_shift_171 (by decide) ?_
              refine W.lcmp hx hb d_X_shift_172 ?_
              refine lv_topi (fun v267 hv267 => ?_)
              refine lv_if_lt (tgt := 204) hx hb d_X_shift_173 (by decide) (fun c268 => ?_) (fun c268 => ?_)
              · have gc268 : v261.toInt < (0 : Int) := lc_lt hv267 c268
                have R269 : (-8190) ≤ v261.toInt ∧ v261.toInt ≤ (-1) := rf_ltX Rv261 (show 0 ≤ (0 : Int) ∧ (0 : Int) ≤ 0 from by decide) gc268 (by decide) (by decide)
                refine lv_iconst (v := 0) hx hb d_X_shift_204 (by decide) ?_
                refine va_iast hx hb hK.1 hP hD hS 9 0 rfl rfl (vpb R265 (by decide) (by decide)) d_X_shift_205 (fun H locs hP hD hS => ?_)
                have hP : va_P D classes (wS50 cI cJ cZ cB p0 p1 p2 p3 p4 p5 p6 p7 p8 p9 p10 p11 p12 p13 p14 p15 p16 p17 p18 p19 p20 p21 p22 p23 p24 p25 x0_4 x0_5 x0_6 x0_7 x0_8 x0_12 x0_13 x0_14 x0_15 x0_16 x0_17 x0_18 x0_22 x0_23 x0_24 x0_25 x0_26 x0_27 x0_28 x0_29 x0_30 x0_31 x0_32 x0_36 x0_39 x0_40 x0_44 x0_49 x0_51 x0_53 x0_54 x0_55 x0_56 x0_57 x0_58 x0_59 x0_60 x0_61 x0_62 y1 y2 y3 y4 y5 y6 y7 v50 (upd g97y9 (g97l3).toNatClampNeg (0 : Int32)) y10 y11 y12 y13 y14 y15 y16 y17 y18 y19 y20 y21 y22 y23 y24 y25) H := hP
                have hD : va_D A (wS50 cI cJ cZ cB p0 p1 p2 p3 p4 p5 p6 p7 p8 p9 p10 p11 p12 p13 p14 p15 p16 p17 p18 p19 p20 p21 p22 p23 p24 p25 x0_4 x0_5 x0_6 x0_7 x0_8 x0_12 x0_13 x0_14 x0_15 x0_16 x0_17 x0_18 x0_22 x0_23 x0_24 x0_25 x0_26 x0_27 x0_28 x0_29 x0_30 x0_31 x0_32 x0_36 x0_39 x0_40 x0_44 x0_49 x0_51 x0_53 x0_54 x0_55 x0_56 x0_57 x0_58 x0_59 x0_60 x0_61 x0_62 y1 y2 y3 y4 y5 y6 y7 v50 (upd g97y9 (g97l3).toNatClampNeg (0 : Int32)) y10 y11 y12 y13 y14 y15 y16 y17 y18 y19 y20 y21 y22 y23 y24 y25) := hD
                obtain ⟨v270, hv270⟩ : ∃ y : Nat → Int32, y = (upd g97y9 (g97l3).toNatClampNeg (0 : Int32)) := ⟨_, rfl⟩
                rw [← hv270] at hP hD
                have Gv270 : (0 ≤ ((0 : Int32)).toInt ∧ ((0 : Int32)).toInt ≤ 63) := (by decide)
                have Av270 : ∀ i : Nat, (0 ≤ (v270 i).toInt ∧ (v270 i).toInt ≤ 63) := by rw [hv270]; exact upd_all (P := fun i x => (0 ≤ (x).toInt ∧ (x).toInt ≤ 63)) Ag97y9 Gv270
                clear hv270
                obtain ⟨v271, hv271⟩ : ∃ y : Int32, y = (g97l3 + (1 : Int32)) := ⟨_, rfl⟩
                obtain ⟨ev271, Rv271⟩ : v271.toInt = g97l3.toInt + 1 ∧ (1 ≤ v271.toInt ∧ v271.toInt ≤ 5) := ad3 hv271 R265 (y := (1 : Int32)) (c := 1) (d := 1) (by decide) (by decide) (by decide) (by decide) (by decide)
                refine lv_iinc (v := v271) (lv' := [(3, .int v271), (6, .int (0 : Int32)), (4, .long v261), (2, .int v219), (1, .int (1 : Int32)), (0, .ref p0)]) hx hb d_X_shift_206 hl (k := 2) rfl (by rw [hv271]; rfl) (by decide) rfl (fun ls hl => ?_)
                refine lv_goto (tgt := 97) hx hb d_X_shift_209 (by decide) ?_
                exact ih97 v271 v270 H _ ls (show 10 - v271.toInt < (n : Int) from by omega) (rgw Rv271 (by decide) (by decide)) Av270 hP hD hS (lv_sub hl [0, 3, 4, 5] rfl)
              · have gc268 : (0 : Int) ≤ v261.toInt := lc_nlt hv267 c268
                have R272 : 0 ≤ v261.toInt ∧ v261.toInt ≤ 8199 := rf_geX Rv261 (show 0 ≤ (0 : Int) ∧ (0 : Int) ≤ 0 from by decide) gc268 (by decide) (by decide)
                refine lv_lload hx hb d_X_shift_176 (lv_at hl 1 rfl) ?_
                refine lv_iload_n hx hb d_X_shift_178 rfl (lv_at hl 4 rfl) ?_
                refine lv_if_eq (tgt := 186) hx hb d_X_shift_179 (by decide) (fun c273 => absurd c273 (show ¬ (1 : Int32) = (0 : Int32) from (by decide))) (fun c273 => ?_)
                refine lv_iconst (v := 5) hx hb d_X_shift_182 (by decide) ?_
                refine lv_goto (tgt := 188) hx hb d_X_shift_183 (by decide) ?_
                refine lv_i2l (v := ((5 : Int32) : Int32).toInt64) hx hb d_X_shift_188 rfl ?_
                refine tpl (y := (5 : Int64)) (by decide) ?_
                refine W.lcmp hx hb d_X_shift_189 ?_
                refine lv_topi (fun v274 hv274 => ?_)
                refine lv_if_ge (tgt := 204) hx hb d_X_shift_190 (by decide) (fun c275 => ?_) (fun c275 => ?_)
                · have gc275 : (5 : Int) ≤ v261.toInt := lc_ge hv274 c275
                  have R276 : 5 ≤ v261.toInt ∧ v261.toInt ≤ 8199 := rf_geX R272 (show 5 ≤ (5 : Int) ∧ (5 : Int) ≤ 5 from by decide) gc275 (by decide) (by decide)
                  refine lv_iconst (v := 0) hx hb d_X_shift_204 (by decide) ?_
                  refine va_iast hx hb hK.1 hP hD hS 9 0 rfl rfl (vpb R265 (by decide) (by decide)) d_X_shift_205 (fun H locs hP hD hS => ?_)
                  have hP : va_P D classes (wS50 cI cJ cZ cB p0 p1 p2 p3 p4 p5 p6 p7 p8 p9 p10 p11 p12 p13 p14 p15 p16 p17 p18 p19 p20 p21 p22 p23 p24 p25 x0_4 x0_5 x0_6 x0_7 x0_8 x0_12 x0_13 x0_14 x0_15 x0_16 x0_17 x0_18 x0_22 x0_23 x0_24 x0_25 x0_26 x0_27 x0_28 x0_29 x0_30 x0_31 x0_32 x0_36 x0_39 x0_40 x0_44 x0_49 x0_51 x0_53 x0_54 x0_55 x0_56 x0_57 x0_58 x0_59 x0_60 x0_61 x0_62 y1 y2 y3 y4 y5 y6 y7 v50 (upd g97y9 (g97l3).toNatClampNeg (0 : Int32)) y10 y11 y12 y13 y14 y15 y16 y17 y18 y19 y20 y21 y22 y23 y24 y25) H := hP
                  have hD : va_D A (wS50 cI cJ cZ cB p0 p1 p2 p3 p4 p5 p6 p7 p8 p9 p10 p11 p12 p13 p14 p15 p16 p17 p18 p19 p20 p21 p22 p23 p24 p25 x0_4 x0_5 x0_6 x0_7 x0_8 x0_12 x0_13 x0_14 x0_15 x0_16 x0_17 x0_18 x0_22 x0_23 x0_24 x0_25 x0_26 x0_27 x0_28 x0_29 x0_30 x0_31 x0_32 x0_36 x0_39 x0_40 x0_44 x0_49 x0_51 x0_53 x0_54 x0_55 x0_56 x0_57 x0_58 x0_59 x0_60 x0_61 x0_62 y1 y2 y3 y4 y5 y6 y7 v50 (upd g97y9 (g97l3).toNatClampNeg (0 : Int32)) y10 y11 y12 y13 y14 y15 y16 y17 y18 y19 y20 y21 y22 y23 y24 y25) := hD
                  obtain ⟨v277, hv277⟩ : ∃ y : Nat → Int32, y = (upd g97y9 (g97l3).toNatClampNeg (0 : Int32)) := ⟨_, rfl⟩
                  rw [← hv277] at hP hD
                  have Gv277 : (0 ≤ ((0 : Int32)).toInt ∧ ((0 : Int32)).toInt ≤ 63) := (by decide)
                  have Av277 : ∀ i : Nat, (0 ≤ (v277 i).toInt ∧ (v277 i).toInt ≤ 63) := by rw [hv277]; exact upd_all (P := fun i x => (0 ≤ (x).toInt ∧ (x).toInt ≤ 63)) Ag97y9 Gv277
                  clear hv277
                  obtain ⟨v278, hv278⟩ : ∃ y : Int32, y = (g97l3 + (1 : Int32)) := ⟨_, rfl⟩
                  obtain ⟨ev278, Rv278⟩ : v278.toInt = g97l3.toInt + 1 ∧ (1 ≤ v278.toInt ∧ v278.toInt ≤ 5) := ad3 hv278 R265 (y := (1 : Int32)) (c := 1) (d := 1) (by decide) (by decide) (by decide) (by decide) (by decide)
                  refine lv_iinc (v := v278) (lv' := [(3, .int v278), (6, .int (0 : Int32)), (4, .long v261), (2, .int v219), (1, .int (1 : Int32)), (0, .ref p0)]) hx hb d_X_shift_206 hl (k := 2) rfl (by rw [hv278]; rfl) (by decide) rfl (fun ls hl => ?_)
                  refine lv_goto (tgt := 97) hx hb d_X_shift_209 (by decide) ?_
                  exact ih97 v278 v277 H _ ls (show 10 - v278.toInt < (n : Int) from by omega) (rgw Rv278 (by decide) (by decide)) Av277 hP hD hS (lv_sub hl [0, 3, 4, 5] rfl)
                · have gc275 : v261.toInt < (5 : Int) := lc_nge hv274 c275
                  have R279 : 0 ≤ v261.toInt ∧ v261.toInt ≤ 4 := rf_ltX R272 (show 5 ≤ (5 : Int) ∧ (5 : Int) ≤ 5 from by decide) gc275 (by decide) (by decide)
                  refine lv_aload_n hx hb d_X_shift_193 rfl (lv_at hl 5 rfl) ?_
                  refine va_get (D := D) (ci := 7) (v := .ref p8) (C := "SignMachineModel") (T := F_X) (N := 64) hx hb hk fi_X hown hK.1 hP 0 rfl rfl 19 (by decide) (hk _ k_1140) (fun _ h9 => h9) rfl d_X_shift_194 ?_
                  refine lv_lload hx hb d_X_shift_197 (lv_at hl 1 rfl) ?_
                  refine lv_l2i (v := (v261 : Int64).toInt32) hx hb d_X_shift_199 rfl ?_
                  refine lv_topi (fun v280 hv280 => ?_)
                  obtain ⟨ev280, Rv280⟩ : v280.toInt = v261.toInt ∧ (0 ≤ v280.toInt ∧ v280.toInt ≤ 4) := li3 hv280 R279 (by decide) (by decide)
                  refine va_iald hx hb hK.1 hP 8 0 rfl rfl (vpb Rv280 (by decide) (by decide)) d_X_shift_200 ?_
                  refine lv_topi (fun v281 hv281 => ?_)
                  have Rv281 := Av50 (v280).toNatClampNeg
                  rw [← hv281] at Rv281
                  refine lv_goto (tgt := 205) hx hb d_X_shift_201 (by decide) ?_
                  refine va_iast hx hb hK.1 hP hD hS 9 0 rfl rfl (vpb R265 (by decide) (by decide)) d_X_shift_205 (fun H locs hP hD hS => ?_)
                  have hP : va_P D classes (wS50 cI cJ cZ cB p0 p1 p2 p3 p4 p5 p6 p7 p8 p9 p10 p11 p12 p13 p14 p15 p16 p17 p18 p19 p20 p21 p22 p23 p24 p25 x0_4 x0_5 x0_6 x0_7 x0_8 x0_12 x0_13 x0_14 x0_15 x0_16 x0_17 x0_18 x0_22 x0_23 x0_24 x0_25 x0_26 x0_27 x0_28 x0_29 x0_30 x0_31 x0_32 x0_36 x0_39 x0_40 x0_44 x0_49 x0_51 x0_53 x0_54 x0_55 x0_56 x0_57 x0_58 x0_59 x0_60 x0_61 x0_62 y1 y2 y3 y4 y5 y6 y7 v50 (upd g97y9 (g97l3).toNatClampNeg v281) y10 y11 y12 y13 y14 y15 y16 y17 y18 y19 y20 y21 y22 y23 y24 y25) H := hP
                  have hD : va_D A (wS50 cI cJ cZ cB p0 p1 p2 p3 p4 p5 p6 p7 p8 p9 p10 p11 p12 p13 p14 p15 p16 p17 p18 p19 p20 p21 p22 p23 p24 p25 x0_4 x0_5 x0_6 x0_7 x0_8 x0_12 x0_13 x0_14 x0_15 x0_16 x0_17 x0_18 x0_22 x0_23 x0_24 x0_25 x0_26 x0_27 x0_28 x0_29 x0_30 x0_31 x0_32 x0_36 x0_39 x0_40 x0_44 x0_49 x0_51 x0_53 x0_54 x0_55 x0_56 x0_57 x0_58 x0_59 x0_60 x0_61 x0_62 y1 y2 y3 y4 y5 y6 y7 v50 (upd g97y9 (g97l3).toNatClampNeg v281) y10 y11 y12 y13 y14 y15 y16 y17 y18 y19 y20 y21 y22 y23 y24 y25) := hD
                  obtain ⟨v282, hv282⟩ : ∃ y : Nat → Int32, y = (upd g97y9 (g97l3).toNatClampNeg v281) := ⟨_, rfl⟩
                  rw [← hv282] at hP hD
                  have Gv282 : (0 ≤ (v281).toInt ∧ (v281).toInt ≤ 63) := Rv281
                  have Av282 : ∀ i : Nat, (0 ≤ (v282 i).toInt ∧ (v282 i).toInt ≤ 63) := by rw [hv282]; exact upd_all (P := fun i x => (0 ≤ (x).toInt ∧ (x).toInt ≤ 63)) Ag97y9 Gv282
                  clear hv282
                  obtain ⟨v283, hv283⟩ : ∃ y : Int32, y = (g97l3 + (1 : Int32)) := ⟨_, rfl⟩
                  obtain ⟨ev283, Rv283⟩ : v283.toInt = g97l3.toInt + 1 ∧ (1 ≤ v283.toInt ∧ v283.toInt ≤ 5) := ad3 hv283 R265 (y := (1 : Int32)) (c := 1) (d := 1) (by decide) (by decide) (by decide) (by decide) (by decide)
                  refine lv_iinc (v := v283) (lv' := [(3, .int v283), (6, .int (0 : Int32)), (4, .long v261), (2, .int v219), (1, .int (1 : Int32)), (0, .ref p0)]) hx hb d_X_shift_206 hl (k := 2) rfl (by rw [hv283]; rfl) (by decide) rfl (fun ls hl => ?_)
                  refine lv_goto (tgt := 97) hx hb d_X_shift_209 (by decide) ?_
                  exact ih97 v283 v282 H _ ls (show 10 - v283.toInt < (n : Int) from by omega) (rgw Rv283 (by decide) (by decide)) Av282 hP hD hS (lv_sub hl [0, 3, 4, 5] rfl)
            · have gc264 : (5 : Int) ≤ g97l3.toInt := c_nlt c264
              have R284 : 5 ≤ g97l3.toInt ∧ g97l3.toInt ≤ 9 := rf_geX R258 (show 5 ≤ (5 : Int) ∧ (5 : Int) ≤ 5 from by decide) gc264 (by decide) (by decide)
              refine lv_iconst (v := 1) hx hb d_X_shift_143 (by decide) ?_
              refine lv_goto (tgt := 148) hx hb d_X_shift_144 (by decide) ?_
              refine lv_istore (lv' := [(6, .int (1 : Int32)), (4, .long v261), (3, .int g97l3), (2, .int v219), (1, .int (1 : Int32)), (0, .ref p0)]) hx hb d_X_shift_148 hl (by decide) rfl (fun ls hl => ?_)
              refine lv_aload_n hx hb d_X_shift_150 rfl (lv_at hl 5 rfl) ?_
              refine va_get (D := D) (ci := 7) (v := .ref p9) (C := "SignMachineModel") (T := F_X) (N := 64) hx hb hk fi_X hown hK.1 hP 0 rfl rfl 20 (by decide) (hk _ k_1141) (fun _ h9 => h9) rfl d_X_shift_151 ?_
              refine lv_iload_n hx hb d_X_shift_154 rfl (lv_at hl 2 rfl) ?_
              refine lv_iload hx hb d_X_shift_155 (lv_at hl 0 rfl) ?_
              refine lv_if_eq (tgt := 169) hx hb d_X_shift_157 (by decide) (fun c285 => absurd c285 (show ¬ (1 : Int32) = (0 : Int32) from (by decide))) (fun c285 => ?_)
              refine lv_aload_n hx hb d_X_shift_160 rfl (lv_at hl 5 rfl) ?_
              refine va_get (D := D) (ci := 7) (v := .ref p8) (C := "SignMachineModel") (T := F_X) (N := 64) hx hb hk fi_X hown hK.1 hP 0 rfl rfl 19 (by decide) (hk _ k_1140) (fun _ h9 => h9) rfl d_X_shift_161 ?_
              refine lv_iload_n hx hb d_X_shift_164 rfl (lv_at hl 2 rfl) ?_
              refine va_iald hx hb hK.1 hP 8 0 rfl rfl (vpb R284 (by decide) (by decide)) d_X_shift_165 ?_
              refine lv_topi (fun v286 hv286 => ?_)
              have Rv286 := Av50 (g97l3).toNatClampNeg
              rw [← hv286] at Rv286
              refine lv_goto (tgt := 205) hx hb d_X_shift_166 (by decide) ?_
              refine va_iast hx hb hK.1 hP hD hS 9 0 rfl rfl (vpb R284 (by decide) (by decide)) d_X_shift_205 (fun H locs hP hD hS => ?_)
              have hP : va_P D classes (wS50 cI cJ cZ cB p0 p1 p2 p3 p4 p5 p6 p7 p8 p9 p10 p11 p12 p13 p14 p15 p16 p17 p18 p19 p20 p21 p22 p23 p24 p25 x0_4 x0_5 x0_6 x0_7 x0_8 x0_12 x0_13 x0_14 x0_15 x0_16 x0_17 x0_18 x0_22 x0_23 x0_24 x0_25 x0_26 x0_27 x0_28 x0_29 x0_30 x0_31 x0_32 x0_36 x0_39 x0_40 x0_44 x0_49 x0_51 x0_53 x0_54 x0_55 x0_56 x0_57 x0_58 x0_59 x0_60 x0_61 x0_62 y1 y2 y3 y4 y5 y6 y7 v50 (upd g97y9 (g97l3).toNatClampNeg v286) y10 y11 y12 y13 y14 y15 y16 y17 y18 y19 y20 y21 y22 y23 y24 y25) H := hP
              have hD : va_D A (wS50 cI cJ cZ cB p0 p1 p2 p3 p4 p5 p6 p7 p8 p9 p10 p11 p12 p13 p14 p15 p16 p17 p18 p19 p20 p21 p22 p23 p24 p25 x0_4 x0_5 x0_6 x0_7 x0_8 x0_12 x0_13 x0_14 x0_15 x0_16 x0_17 x0_18 x0_22 x0_23 x0_24 x0_25 x0_26 x0_27 x0_28 x0_29 x0_30 x0_31 x0_32 x0_36 x0_39 x0_40 x0_44 x0_49 x0_51 x0_53 x0_54 x0_55 x0_56 x0_57 x0_58 x0_59 x0_60 x0_61 x0_62 y1 y2 y3 y4 y5 y6 y7 v50 (upd g97y9 (g97l3).toNatClampNeg v286) y10 y11 y12 y13 y14 y15 y16 y17 y18 y19 y20 y21 y22 y23 y24 y25) := hD
              obtain ⟨v287, hv287⟩ : ∃ y : Nat → Int32, y = (upd g97y9 (g97l3).toNatClampNeg v286) := ⟨_, rfl⟩
              rw [← hv287] at hP hD
              have Gv287 : (0 ≤ (v286).toInt ∧ (v286).toInt ≤ 63) := Rv286
              have Av287 : ∀ i : Nat, (0 ≤ (v287 i).toInt ∧ (v287 i).toInt ≤ 63) := by rw [hv287]; exact upd_all (P := fun i x => (0 ≤ (x).toInt ∧ (x).toInt ≤ 63)) Ag97y9 Gv287
              clear hv287
              obtain ⟨v288, hv288⟩ : ∃ y : Int32, y = (g97l3 + (1 : Int32)) := ⟨_, rfl⟩
              obtain ⟨ev288, Rv288⟩ : v288.toInt = g97l3.toInt + 1 ∧ (6 ≤ v288.toInt ∧ v288.toInt ≤ 10) := ad3 hv288 R284 (y := (1 : Int32)) (c := 1) (d := 1) (by decide) (by decide) (by decide) (by decide) (by decide)
              refine lv_iinc (v := v288) (lv' := [(3, .int v288), (6, .int (1 : Int32)), (4, .long v261), (2, .int v219), (1, .int (1 : Int32)), (0, .ref p0)]) hx hb d_X_shift_206 hl (k := 2) rfl (by rw [hv288]; rfl) (by decide) rfl (fun ls hl => ?_)
              refine lv_goto (tgt := 97) hx hb d_X_shift_209 (by decide) ?_
              exact ih97 v288 v287 H _ ls (show 10 - v288.toInt < (n : Int) from by omega) (rgw Rv288 (by decide) (by decide)) Av287 hP hD hS (lv_sub hl [0, 3, 4, 5] rfl)
      exact CUT97 ((10 - (0 : Int)).toNat + 1) (0 : Int32) y9 H _ ls (show (10 - (0 : Int)) < (((10 - (0 : Int)).toNat + 1 : Nat) : Int) from by omega) (by decide) Ay9 hP hD hS (lv_sub hl [0, 1, 2, 3] rfl)
    · have gc217 : v216.toInt = (0 : Int) := c_eq c217
      have R289 : 0 ≤ v216.toInt ∧ v216.toInt ≤ 0 := rf_eqX Rv216 (show 0 ≤ (0 : Int) ∧ (0 : Int) ≤ 0 from by decide) gc217 (by decide) (by decide)
      refine lv_aload_n hx hb d_X_shift_82 rfl (lv_at hl 1 rfl) ?_
      refine va_get (D := D) (ci := 7) (v := .int x0_15) (C := "SignMachineModel") (T := F_X) (N := 64) hx hb hk fi_X hown hK.1 hP 0 rfl rfl 15 (by decide) (hk _ k_1136) (fun _ h9 => h9) rfl d_X_shift_83 ?_
      refine lv_goto (tgt := 94) hx hb d_X_shift_86 (by decide) ?_
      refine lv_istore_n (lv' := [(2, .int x0_15), (1, .int (1 : Int32)), (0, .ref p0)]) hx hb d_X_shift_94 rfl hl (by decide) rfl (fun ls hl => ?_)
      refine lv_iconst (v := 0) hx hb d_X_shift_95 (by decide) ?_
      refine lv_istore_n (lv' := [(3, .int (0 : Int32)), (2, .int x0_15), (1, .int (1 : Int32)), (0, .ref p0)]) hx hb d_X_shift_96 rfl hl (by decide) rfl (fun ls hl => ?_)
      have CUT97 : ∀ (n : Nat) (g97l3 : Int32) (g97y9 : Nat → Int32) (H : Heap) (locs : List Loc) (ls : Array Slot), (10 - g97l3.toInt) < (n : Int) → (0 ≤ g97l3.toInt ∧ g97l3.toInt ≤ 10) → (∀ i : Nat, (0 ≤ (g97y9 i).toInt ∧ (g97y9 i).toInt ≤ 63)) → va_P D classes (wS50 cI cJ cZ cB p0 p1 p2 p3 p4 p5 p6 p7 p8 p9 p10 p11 p12 p13 p14 p15 p16 p17 p18 p19 p20 p21 p22 p23 p24 p25 x0_4 x0_5 x0_6 x0_7 x0_8 x0_12 x0_13 x0_14 x0_15 x0_16 x0_17 x0_18 x0_22 x0_23 x0_24 x0_25 x0_26 x0_27 x0_28 x0_29 x0_30 x0_31 x0_32 x0_36 x0_39 x0_40 x0_44 x0_49 x0_51 x0_53 x0_54 x0_55 x0_56 x0_57 x0_58 x0_59 x0_60 x0_61 x0_62 y1 y2 y3 y4 y5 y6 y7 v50 g97y9 y10 y11 y12 y13 y14 y15 y16 y17 y18 y19 y20 y21 y22 y23 y24 y25) H → va_D A (wS50 cI cJ cZ cB p0 p1 p2 p3 p4 p5 p6 p7 p8 p9 p10 p11 p12 p13 p14 p15 p16 p17 p18 p19 p20 p21 p22 p23 p24 p25 x0_4 x0_5 x0_6 x0_7 x0_8 x0_12 x0_13 x0_14 x0_15 x0_16 x0_17 x0_18 x0_22 x0_23 x0_24 x0_25 x0_26 x0_27 x0_28 x0_29 x0_30 x0_31 x0_32 x0_36 x0_39 x0_40 x0_44 x0_49 x0_51 x0_53 x0_54 x0_55 x0_56 x0_57 x0_58 x0_59 x0_60 x0_61 x0_62 y1 y2 y3 y4 y5 y6 y7 v50 g97y9 y10 y11 y12 y13 y14 y15 y16 y17 y18 y19 y20 y21 y22 y23 y24 y25) → va_S A s.heap H locs → lv_has ls 7 [(3, .int g97l3), (2, .int x0_15), (1, .int (1 : Int32)), (0, .ref p0)] → W p l e ({ frames := 2, cells := 0, slots := 0, locals := 45 }) s m [.ref p0].toArray below meth c H locs 0 0 (MQ below (va_Qv (fun (_ : Unit) => True) (fun _ t => ∃ u_y4 : Nat → Int32, ∃ u_y8 : Nat → Int32, ∃ u_y9 : Nat → Int32, (∀ i : Nat, ((0 ≤ (u_y4 i).toInt ∧ (u_y4 i).toInt ≤ 1073741823) ∧ ((1 ≤ (i : Int) ∧ (i : Int) ≤ 6) → (u_y4 i).toInt ≤ 4095))) ∧ (∀ i : Nat, (0 ≤ (u_y8 i).toInt ∧ (u_y8 i).toInt ≤ 63)) ∧ (∀ i : Nat, (0 ≤ (u_y9 i).toInt ∧ (u_y9 i).toInt ≤ 63)) ∧ va_P D classes (wS50 cI cJ cZ cB p0 p1 p2 p3 p4 p5 p6 p7 p8 p9 p10 p11 p12 p13 p14 p15 p16 p17 p18 p19 p20 p21 p22 p23 p24 p25 x0_4 x0_5 x0_6 x0_7 x0_8 x0_12 x0_13 x0_14 x0_15 x0_16 x0_17 x0_18 x0_22 x0_23 x0_24 x0_25 x0_26 x0_27 x0_28 x0_29 x0_30 x0_31 x0_32 x0_36 x0_39 x0_40 x0_44 x0_49 x0_51 x0_53 x0_54 x0_55 x0_56 x0_57 x0_58 x0_59 x0_60 x0_61 x0_62 y1 y2 y3 u_y4 y5 y6 y7 u_y8 u_y9 y10 y11 y12 y13 y14 y15 y16 y17 y18 y19 y20 y21 y22 y23 y24 y25) t.heap ∧ va_D A (wS50 cI cJ cZ cB p0 p1 p2 p3 p4 p5 p6 p7 p8 p9 p10 p11 p12 p13 p14 p15 p16 p17 p18 p19 p20 p21 p22 p23 p24 p25 x0_4 x0_5 x0_6 x0_7 x0_8 x0_12 x0_13 x0_14 x0_15 x0_16 x0_17 x0_18 x0_22 x0_23 x0_24 x0_25 x0_26 x0_27 x0_28 x0_29 x0_30 x0_31 x0_32 x0_36 x0_39 x0_40 x0_44 x0_49 x0_51 x0_53 x0_54 x0_55 x0_56 x0_57 x0_58 x0_59 x0_60 x0_61 x0_62 y1 y2 y3 u_y4 y5 y6 y7 u_y8 u_y9 y10 y11 y12 y13 y14 y15 y16 y17 y18 y19 y20 y21 y22 y23 y24 y25)) A) [.ref p0].toArray s 0 0 A) (F0 m 97 ls []) := by
        intro n
        induction n with
        | zero => intro g97l3 g97y9 H locs ls hn97 Rg97l3 Ag97y9 hP hD hS hl; exfalso; omega
        | succ n ih97 =>
          intro g97l3 g97y9 H locs ls hn97 Rg97l3 Ag97y9 hP hD hS hl
          refine lv_iload_n hx hb d_X_shift_97 rfl (lv_at hl 0 rfl) ?_
          refine lv_bipush (v := 10) hx hb d_X_shift_98 (by decide) ?_
          refine lv_icmp_ge (tgt := 212) hx hb d_X_shift_100 (by decide) (fun c290 => ?_) (fun c290 => ?_)
          · have gc290 : (10 : Int) ≤ g97l3.toInt := c_le c290
            have R291 : 10 ≤ g97l3.toInt ∧ g97l3.toInt ≤ 10 := rf_geX Rg97l3 (show 10 ≤ (10 : Int) ∧ (10 : Int) ≤ 10 from by decide) gc290 (by decide) (by decide)
            refine lv_iconst (v := 0) hx hb d_X_shift_212 (by decide) ?_
            refine lv_istore_n (lv' := [(3, .int (0 : Int32)), (2, .int x0_15), (1, .int (1 : Int32)), (0, .ref p0)]) hx hb d_X_shift_213 rfl hl (by decide) rfl (fun ls hl => ?_)
            refine lv_iconst (v := 0) hx hb d_X_shift_214 (by decide) ?_
            refine lv_istore (lv' := [(4, .int (0 : Int32)), (3, .int (0 : Int32)), (2, .int x0_15), (1, .int (1 : Int32)), (0, .ref p0)]) hx hb d_X_shift_215 hl (by decide) rfl (fun ls hl => ?_)
            refine lv_iconst (v := 0) hx hb d_X_shift_217 (by decide) ?_
            refine lv_istore (lv' := [(5, .int (0 : Int32)), (4, .int (0 : Int32)), (3, .int (0 : Int32)), (2, .int x0_15), (1, .int (1 : Int32)), (0, .ref p0)]) hx hb d_X_shift_218 hl (by decide) rfl (fun ls hl => ?_)
            refine lv_iload hx hb d_X_shift_220 (lv_at hl 0 rfl) ?_
            refine lv_iconst (v := 5) hx hb d_X_shift_222 (by decide) ?_
            refine lv_icmp_ge (tgt := 262) hx hb d_X_shift_223 (by decide) (fun c292 => absurd c292 (show ¬ (5 : Int32) ≤ (0 : Int32) from (by decide))) (fun c292 => ?_)
            refine lv_iload_n hx hb d_X_shift_226 rfl (lv_at hl 2 rfl) ?_
            refine lv_bipush (v := 64) hx hb d_X_shift_227 (by decide) ?_
            refine lv_imul hx hb d_X_shift_229 ?_
            refine tpi (y := (0 : Int32)) (by decide) ?_
            refine lv_aload_n hx hb d_X_shift_230 rfl (lv_at hl 5 rfl) ?_
            refine va_get (D := D) (ci := 7) (v := .ref p9) (C := "SignMachineModel") (T := F_X) (N := 64) hx hb hk fi_X hown hK.1 hP 0 rfl rfl 20 (by decide) (hk _ k_1141) (fun _ h9 => h9) rfl d_X_shift_231 ?_
            refine lv_iload hx hb d_X_shift_234 (lv_at hl 0 rfl) ?_
            refine va_iald hx hb hK.1 hP 9 0 rfl rfl (by unfold vp_in; decide) d_X_shift_236 ?_
            refine lv_topi (fun v293 hv293 => ?_)
            have Rv293 := Ag97y9 ((0 : Int32)).toNatClampNeg
            rw [← hv293] at Rv293
            refine lv_iadd hx hb d_X_shift_237 ?_
            refine lv_topi (fun v294 hv294 => ?_)
            obtain ⟨ev294, Rv294⟩ : v294.toInt = (0 : Int) + v293.toInt ∧ (0 ≤ v294.toInt ∧ v294.toInt ≤ 63) := ad3 hv294 (show 0 ≤ (0 : Int32).toInt ∧ (0 : Int32).toInt ≤ 0 from by decide) Rv293 (by decide) (by decide) (by decide) (by decide)
            refine lv_istore_n (lv' := [(3, .int v294), (5, .int (0 : Int32)), (4, .int (0 : Int32)), (2, .int x0_15), (1, .int (1 : Int32)), (0, .ref p0)]) hx hb d_X_shift_238 rfl hl (by decide) rfl (fun ls hl => ?_)
            refine lv_iload hx hb d_X_shift_239 (lv_at hl 2 rfl) ?_
            refine lv_bipush (v := 64) hx hb d_X_shift_241 (by decide) ?_
            refine lv_imul hx hb d_X_shift_243 ?_
            refine tpi (y := (0 : Int32)) (by decide) ?_
            refine lv_aload_n hx hb d_X_shift_244 rfl (lv_at hl 5 rfl) ?_
            refine va_get (D := D) (ci := 7) (v := .ref p9) (C := "SignMachineModel") (T := F_X) (N := 64) hx hb hk fi_X hown hK.1 hP 0 rfl rfl 20 (by decide) (hk _ k_1141) (fun _ h9 => h9) rfl d_X_shift_245 ?_
            refine lv_iload hx hb d_X_shift_248 (lv_at hl 1 rfl) ?_
            refine lv_iconst (v := 5) hx hb d_X_shift_250 (by decide) ?_
            refine lv_iadd hx hb d_X_shift_251 ?_
            refine tpi (y := (5 : Int32)) (by decide) ?_
            refine va_iald hx hb hK.1 hP 9 0 rfl rfl (by unfold vp_in; decide) d_X_shift_252 ?_
            refine lv_topi (fun v295 hv295 => ?_)
            have Rv295 := Ag97y9 ((5 : Int32)).toNatClampNeg
            rw [← hv295] at Rv295
            refine lv_iadd hx hb d_X_shift_253 ?_
            refine lv_topi (fun v296 hv296 => ?_)
            obtain ⟨ev296, Rv296⟩ : v296.toInt = (0 : Int) + v295.toInt ∧ (0 ≤ v296.toInt ∧ v296.toInt ≤ 63) := ad3 hv296 (show 0 ≤ (0 : Int32).toInt ∧ (0 : Int32).toInt ≤ 0 from by decide) Rv295 (by decide) (by decide) (by decide) (by decide)
            refine lv_istore (lv' := [(4, .int v296), (3, .int v294), (5, .int (0 : Int32)), (2, .int x0_15), (1, .int (1 : Int32)), (0, .ref p0)]) hx hb d_X_shift_254 hl (by decide) rfl (fun ls hl => ?_)
            refine lv_iinc (v := (1 : Int32)) (lv' := [(5, .int (1 : Int32)), (4, .int v296), (3, .int v294), (2, .int x0_15), (1, .int (1 : Int32)), (0, .ref p0)]) hx hb d_X_shift_256 hl (k := 2) rfl (by decide) (by decide) rfl (fun ls hl => ?_)
            refine lv_goto (tgt := 220) hx hb d_X_shift_259 (by decide) ?_
            refine lv_iload hx hb d_X_shift_220 (lv_at hl 0 rfl) ?_
            refine lv_iconst (v := 5) hx hb d_X_shift_222 (by decide) ?_
            refine lv_icmp_ge (tgt := 262) hx hb d_X_shift_223 (by decide) (fun c297 => absurd c297 (show ¬ (5 : Int32) ≤ (1 : Int32) from (by decide))) (fun c297 => ?_)
            refine lv_iload_n hx hb d_X_shift_226 rfl (lv_at hl 2 rfl) ?_
            refine lv_bipush (v := 64) hx hb d_X_shift_227 (by decide) ?_
            refine lv_imul hx hb d_X_shift_229 ?_
            refine lv_topi (fun v298 hv298 => ?_)
            obtain ⟨ev298, Rv298⟩ : v298.toInt = v294.toInt * (64 : Int) ∧ (0 ≤ v298.toInt ∧ v298.toInt ≤ 4032) := ml3 hv298 Rv294 (show 64 ≤ (64 : Int32).toInt ∧ (64 : Int32).toInt ≤ 64 from by decide) (by decide) (by decide) (by decide) (by decide) (by decide) (by decide)
            refine lv_aload_n hx hb d_X_shift_230 rfl (lv_at hl 5 rfl) ?_
            refine va_get (D := D) (ci := 7) (v := .ref p9) (C := "SignMachineModel") (T := F_X) (N := 64) hx hb hk fi_X hown hK.1 hP 0 rfl rfl 20 (by decide) (hk _ k_1141) (fun _ h9 => h9) rfl d_X_shift_231 ?_
            refine lv_iload hx hb d_X_shift_234 (lv_at hl 0 rfl) ?_
            refine va_iald hx hb hK.1 hP 9 0 rfl rfl (by unfold vp_in; decide) d_X_shift_236 ?_
            refine lv_topi (fun v299 hv299 => ?_)
            have Rv299 := Ag97y9 ((1 : Int32)).toNatClampNeg
            rw [← hv299] at Rv299
            refine lv_iadd hx hb d_X_shift_237 ?_
            refine lv_topi (fun v300 hv300 => ?_)
            obtain ⟨ev300, Rv300⟩ : v300.toInt = v298.toInt + v299.toInt ∧ (0 ≤ v300.toInt ∧ v300.toInt ≤ 4095) := ad3 hv300 Rv298 Rv299 (by decide) (by decide) (by decide) (by decide)
            refine lv_istore_n (lv' := [(3, .int v300), (5, .int (1 : Int32)), (4, .int v296), (2, .int x0_15), (1, .int (1 : Int32)), (0, .ref p0)]) hx hb d_X_shift_238 rfl hl (by decide) rfl (fun ls hl => ?_)
            refine lv_iload hx hb d_X_shift_239 (lv_at hl 2 rfl) ?_
            refine lv_bipush (v := 64) hx hb d_X_shift_241 (by decide) ?_
            refine lv_imul hx hb d_X_shift_243 ?_
            refine lv_topi (fun v301 hv301 => ?_)
            obtain ⟨ev301, Rv301⟩ : v301.toInt = v296.toInt * (64 : Int) ∧ (0 ≤ v301.toInt ∧ v301.toInt ≤ 4032) := ml3 hv301 Rv296 (show 64 ≤ (64 : Int32).toInt ∧ (64 : Int32).toInt ≤ 64 from by decide) (by decide) (by decide) (by decide) (by decide) (by decide) (by decide)
            refine lv_aload_n hx hb d_X_shift_244 rfl (lv_at hl 5 rfl) ?_
            refine va_get (D := D) (ci := 7) (v := .ref p9) (C := "SignMachineModel") (T := F_X) (N := 64) hx hb hk fi_X hown hK.1 hP 0 rfl rfl 20 (by decide) (hk _ k_1141) (fun _ h9 => h9) rfl d_X_shift_245 ?_
            refine lv_iload hx hb d_X_shift_248 (lv_at hl 1 rfl) ?_
            refine lv_iconst (v := 5) hx hb d_X_shift_250 (by decide) ?_
            refine lv_iadd hx hb d_X_shift_251 ?_
            refine tpi (y := (6 : Int32)) (by decide) ?_
            refine va_iald hx hb hK.1 hP 9 0 rfl rfl (by unfold vp_in; decide) d_X_shift_252 ?_
            refine lv_topi (fun v302 hv302 => ?_)
            have Rv302 := Ag97y9 ((6 : Int32)).toNatClampNeg
            rw [← hv302] at Rv302
            refine lv_iadd hx hb d_X_shift_253 ?_
            refine lv_topi (fun v303 hv303 => ?_)
            obtain ⟨ev303, Rv303⟩ : v303.toInt = v301.toInt + v302.toInt ∧ (0 ≤ v303.toInt ∧ v303.toInt ≤ 4095) := ad3 hv303 Rv301 Rv302 (by decide) (by decide) (by decide) (by decide)
            refine lv_istore (lv' := [(4, .int v303), (3, .int v300), (5, .int (1 : Int32)), (2, .int x0_15), (1, .int (1 : Int32)), (0, .ref p0)]) hx hb d_X_shift_254 hl (by decide) rfl (fun ls hl => ?_)
            refine lv_iinc (v := (2 : Int32)) (lv' := [(5, .int (2 : Int32)), (4, .int v303), (3, .int v300), (2, .int x0_15), (1, .int (1 : Int32)), (0, .ref p0)]) hx hb d_X_shift_256 hl (k := 2) rfl (by decide) (by decide) rfl (fun ls hl => ?_)
            refine lv_goto (tgt := 220) hx hb d_X_shift_259 (by decide) ?_
            refine lv_iload hx hb d_X_shift_220 (lv_at hl 0 rfl) ?_
            refine lv_iconst (v := 5) hx hb d_X_shift_222 (by decide) ?_
            refine lv_icmp_ge (tgt := 262) hx hb d_X_shift_223 (by decide) (fun c304 => absurd c304 (show ¬ (5 : Int32) ≤ (2 : Int32) from (by decide))) (fun c304 => ?_)
            refine lv_iload_n hx hb d_X_shift_226 rfl (lv_at hl 2 rfl) ?_
            refine lv_bipush (v := 64) hx hb d_X_shift_227 (by decide) ?_
            refine lv_imul hx hb d_X_shift_229 ?_
            refine lv_topi (fun v305 hv305 => ?_)
            obtain ⟨ev305, Rv305⟩ : v305.toInt = v300.toInt * (64 : Int) ∧ (0 ≤ v305.toInt ∧ v305.toInt ≤ 262080) := ml3 hv305 Rv300 (show 64 ≤ (64 : Int32).toInt ∧ (64 : Int32).toInt ≤ 64 from by decide) (by decide) (by decide) (by decide) (by decide) (by decide) (by decide)
            refine lv_aload_n hx hb d_X_shift_230 rfl (lv_at hl 5 rfl) ?_
            refine va_get (D := D) (ci := 7) (v := .ref p9) (C := "SignMachineModel") (T := F_X) (N := 64) hx hb hk fi_X hown hK.1 hP 0 rfl rfl 20 (by decide) (hk _ k_1141) (fun _ h9 => h9) rfl d_X_shift_231 ?_
            refine lv_iload hx hb d_X_shift_234 (lv_at hl 0 rfl) ?_
            refine va_iald hx hb hK.1 hP 9 0 rfl rfl (by unfold vp_in; decide) d_X_shift_236 ?_
            refine lv_topi (fun v306 hv306 => ?_)
            have Rv306 := Ag97y9 ((2 : Int32)).toNatClampNeg
            rw [← hv306] at Rv306
            refine lv_iadd hx hb d_X_shift_237 ?_
            refine lv_topi (fun v307 hv307 => ?_)
            obtain ⟨ev307, Rv307⟩ : v307.toInt = v305.toInt + v306.toInt ∧ (0 ≤ v307.toInt ∧ v307.toInt ≤ 262143) := ad3 hv307 Rv305 Rv306 (by decide) (by decide) (by decide) (by decide)
            refine lv_istore_n (lv' := [(3, .int v307), (5, .int (2 : Int32)), (4, .int v303), (2, .int x0_15), (1, .int (1 : Int32)), (0, .ref p0)]) hx hb d_X_shift_238 rfl hl (by decide) rfl (fun ls hl => ?_)
            refine lv_iload hx hb d_X_shift_239 (lv_at hl 2 rfl) ?_
            refine lv_bipush (v := 64) hx hb d_X_shift_241 (by decide) ?_
            refine lv_imul hx hb d_X_shift_243 ?_
            refine lv_topi (fun v308 hv308 => ?_)
            obtain ⟨ev308, Rv308⟩ : v308.toInt = v303.toInt * (64 : Int) ∧ (0 ≤ v308.toInt ∧ v308.toInt ≤ 262080) := ml3 hv308 Rv303 (show 64 ≤ (64 : Int32).toInt ∧ (64 : Int32).toInt ≤ 64 from by decide) (by decide) (by decide) (by decide) (by decide) (by decide) (by decide)
            refine lv_aload_n hx hb d_X_shift_244 rfl (lv_at hl 5 rfl) ?_
            refine va_get (D := D) (ci := 7) (v := .ref p9) (C := "SignMachineModel") (T := F_X) (N := 64) hx hb hk fi_X hown hK.1 hP 0 rfl rfl 20 (by decide) (hk _ k_1141) (fun _ h9 => h9) rfl d_X_shift_245 ?_
            refine lv_iload hx hb d_X_shift_248 (lv_at hl 1 rfl) ?_
            refine lv_iconst (v := 5) hx hb d_X_shift_250 (by decide) ?_
            refine lv_iadd hx hb d_X_shift_251 ?_
            refine tpi (y := (7 : Int32)) (by decide) ?_
            refine va_iald hx hb hK.1 hP 9 0 rfl rfl (by unfold vp_in; decide) d_X_shift_252 ?_
            refine lv_topi (fun v309 hv309 => ?_)
            have Rv309 := Ag97y9 ((7 : Int32)).toNatClampNeg
            rw [← hv309] at Rv309
            refine lv_iadd hx hb d_X_shift_253 ?_
            refine lv_topi (fun v310 hv310 => ?_)
            obtain ⟨ev310, Rv310⟩ : v310.toInt = v308.toInt + v309.toInt ∧ (0 ≤ v310.toInt ∧ v310.toInt ≤ 262143) := ad3 hv310 Rv308 Rv309 (by decide) (by decide) (by decide) (by decide)
            refine lv_istore (lv' := [(4, .int v310), (3, .int v307), (5, .int (2 : Int32)), (2, .int x0_15), (1, .int (1 : Int32)), (0, .ref p0)]) hx hb d_X_shift_254 hl (by decide) rfl (fun ls hl => ?_)
            refine lv_iinc (v := (3 : Int32)) (lv' := [(5, .int (3 : Int32)), (4, .int v310), (3, .int v307), (2, .int x0_15), (1, .int (1 : Int32)), (0, .ref p0)]) hx hb d_X_shift_256 hl (k := 2) rfl (by decide) (by decide) rfl (fun ls hl => ?_)
            refine lv_goto (tgt := 220) hx hb d_X_shift_259 (by decide) ?_
            refine lv_iload hx hb d_X_shift_220 (lv_at hl 0 rfl) ?_
            refine lv_iconst (v := 5) hx hb d_X_shift_222 (by decide) ?_
            refine lv_icmp_ge (tgt := 262) hx hb d_X_shift_223 (by decide) (fun c311 => absurd c311 (show ¬ (5 : Int32) ≤ (3 : Int32) from (by decide))) (fun c311 => ?_)
            refine lv_iload_n hx hb d_X_shift_226 rfl (lv_at hl 2 rfl) ?_
            refine lv_bipush (v := 64) hx hb d_X_shift_227 (by decide) ?_
            refine lv_imul hx hb d_X_shift_229 ?_
            refine lv_topi (fun v312 hv312 => ?_)
            obtain ⟨ev312, Rv312⟩ : v312.toInt = v307.toInt * (64 : Int) ∧ (0 ≤ v312.toInt ∧ v312.toInt ≤ 16777152) := ml3 hv312 Rv307 (show 64 ≤ (64 : Int32).toInt ∧ (64 : Int32).toInt ≤ 64 from by decide) (by decide) (by decide) (by decide) (by decide) (by decide) (by decide)
            refine lv_aload_n hx hb d_X_shift_230 rfl (lv_at hl 5 rfl) ?_
            refine va_get (D := D) (ci := 7) (v := .ref p9) (C := "SignMachineModel") (T := F_X) (N := 64) hx hb hk fi_X hown hK.1 hP 0 rfl rfl 20 (by decide) (hk _ k_1141) (fun _ h9 => h9) rfl d_X_shift_231 ?_
            refine lv_iload hx hb d_X_shift_234 (lv_at hl 0 rfl) ?_
            refine va_iald hx hb hK.1 hP 9 0 rfl rfl (by unfold vp_in; decide) d_X_shift_236 ?_
            refine lv_topi (fun v313 hv313 => ?_)
            have Rv313 := Ag97y9 ((3 : Int32)).toNatClampNeg
            rw [← hv313] at Rv313
            refine lv_iadd hx hb d_X_shift_237 ?_
            refine lv_topi (fun v314 hv314 => ?_)
            obtain ⟨ev314, Rv314⟩ : v314.toInt = v312.toInt + v313.toInt ∧ (0 ≤ v314.toInt ∧ v314.toInt ≤ 16777215) := ad3 hv314 Rv312 Rv313 (by decide) (by decide) (by decide) (by decide)
            refine lv_istore_n (lv' := [(3, .int v314), (5, .int (3 : Int32)), (4, .int v310), (2, .int x0_15), (1, .int (1 : Int32)), (0, .ref p0)]) hx hb d_X_shift_238 rfl hl (by decide) rfl (fun ls hl => ?_)
            refine lv_iload hx hb d_X_shift_239 (lv_at hl 2 rfl) ?_
            refine lv_bipush (v := 64) hx hb d_X_shift_241 (by decide) ?_
            refine lv_imul hx hb d_X_shift_243 ?_
            refine lv_topi (fun v315 hv315 => ?_)
            obtain ⟨ev315, Rv315⟩ : v315.toInt = v310.toInt * (64 : Int) ∧ (0 ≤ v315.toInt ∧ v315.toInt ≤ 16777152) := ml3 hv315 Rv310 (show 64 ≤ (64 : Int32).toInt ∧ (64 : Int32).toInt ≤ 64 from by decide) (by decide) (by decide) (by decide) (by decide) (by decide) (by decide)
            refine lv_aload_n hx hb d_X_shift_244 rfl (lv_at hl 5 rfl) ?_
            refine va_get (D := D) (ci := 7) (v := .ref p9) (C := "SignMachineModel") (T := F_X) (N := 64) hx hb hk fi_X hown hK.1 hP 0 rfl rfl 20 (by decide) (hk _ k_1141) (fun _ h9 => h9) rfl d_X_shift_245 ?_
            refine lv_iload hx hb d_X_shift_248 (lv_at hl 1 rfl) ?_
            refine lv_iconst (v := 5) hx hb d_X_shift_250 (by decide) ?_
            refine lv_iadd hx hb d_X_shift_251 ?_
            refine tpi (y := (8 : Int32)) (by decide) ?_
            refine va_iald hx hb hK.1 hP 9 0 rfl rfl (by unfold vp_in; decide) d_X_shift_252 ?_
            refine lv_topi (fun v316 hv316 => ?_)
            have Rv316 := Ag97y9 ((8 : Int32)).toNatClampNeg
            rw [← hv316] at Rv316
            refine lv_iadd hx hb d_X_shift_253 ?_
            refine lv_topi (fun v317 hv317 => ?_)
            obtain ⟨ev317, Rv317⟩ : v317.toInt = v315.toInt + v316.toInt ∧ (0 ≤ v317.toInt ∧ v317.toInt ≤ 16777215) := ad3 hv317 Rv315 Rv316 (by decide) (by decide) (by decide) (by decide)
            refine lv_istore (lv' := [(4, .int v317), (3, .int v314), (5, .int (3 : Int32)), (2, .int x0_15), (1, .int (1 : Int32)), (0, .ref p0)]) hx hb d_X_shift_254 hl (by decide) rfl (fun ls hl => ?_)
            refine lv_iinc (v := (4 : Int32)) (lv' := [(5, .int (4 : Int32)), (4, .int v317), (3, .int v314), (2, .int x0_15), (1, .int (1 : Int32)), (0, .ref p0)]) hx hb d_X_shift_256 hl (k := 2) rfl (by decide) (by decide) rfl (fun ls hl => ?_)
            refine lv_goto (tgt := 220) hx hb d_X_shift_259 (by decide) ?_
            refine lv_iload hx hb d_X_shift_220 (lv_at hl 0 rfl) ?_
            refine lv_iconst (v := 5) hx hb d_X_shift_222 (by decide) ?_
            refine lv_icmp_ge (tgt := 262) hx hb d_X_shift_223 (by decide) (fun c318 => absurd c318 (show ¬ (5 : Int32) ≤ (4 : Int32) from (by decide))) (fun c318 => ?_)
            refine lv_iload_n hx hb d_X_shift_226 rfl (lv_at hl 2 rfl) ?_
            refine lv_bipush (v := 64) hx hb d_X_shift_227 (by decide) ?_
            refine lv_imul hx hb d_X_shift_229 ?_
            refine lv_topi (fun v319 hv319 => ?_)
            obtain ⟨ev319, Rv319⟩ : v319.toInt = v314.toInt * (64 : Int) ∧ (0 ≤ v319.toInt ∧ v319.toInt ≤ 1073741760) := ml3 hv319 Rv314 (show 64 ≤ (64 : Int32).toInt ∧ (64 : Int32).toInt ≤ 64 from by decide) (by decide) (by decide) (by decide) (by decide) (by decide) (by decide)
            refine lv_aload_n hx hb d_X_shift_230 rfl (lv_at hl 5 rfl) ?_
            refine va_get (D := D) (ci := 7) (v := .ref p9) (C := "SignMachineModel") (T := F_X) (N := 64) hx hb hk fi_X hown hK.1 hP 0 rfl rfl 20 (by decide) (hk _ k_1141) (fun _ h9 => h9) rfl d_X_shift_231 ?_
            refine lv_iload hx hb d_X_shift_234 (lv_at hl 0 rfl) ?_
            refine va_iald hx hb hK.1 hP 9 0 rfl rfl (by unfold vp_in; decide) d_X_shift_236 ?_
            refine lv_topi (fun v320 hv320 => ?_)
            have Rv320 := Ag97y9 ((4 : Int32)).toNatClampNeg
            rw [← hv320] at Rv320
            refine lv_iadd hx hb d_X_shift_237 ?_
            refine lv_topi (fun v321 hv321 => ?_)
            obtain ⟨ev321, Rv321⟩ : v321.toInt = v319.toInt + v320.toInt ∧ (0 ≤ v321.toInt ∧ v321.toInt ≤ 1073741823) := ad3 hv321 Rv319 Rv320 (by decide) (by decide) (by decide) (by decide)
            refine lv_istore_n (lv' := [(3, .int v321), (5, .int (4 : Int32)), (4, .int v317), (2, .int x0_15), (1, .int (1 : Int32)), (0, .ref p0)]) hx hb d_X_shift_238 rfl hl (by decide) rfl (fun ls hl => ?_)
            refine lv_iload hx hb d_X_shift_239 (lv_at hl 2 rfl) ?_
            refine lv_bipush (v := 64) hx hb d_X_shift_241 (by decide) ?_
            refine lv_imul hx hb d_X_shift_243 ?_
            refine lv_topi (fun v322 hv322 => ?_)
            obtain ⟨ev322, Rv322⟩ : v322.toInt = v317.toInt * (64 : Int) ∧ (0 ≤ v322.toInt ∧ v322.toInt ≤ 1073741760) := ml3 hv322 Rv317 (show 64 ≤ (64 : Int32).toInt ∧ (64 : Int32).toInt ≤ 64 from by decide) (by decide) (by decide) (by decide) (by decide) (by decide) (by decide)
            refine lv_aload_n hx hb d_X_shift_244 rfl (lv_at hl 5 rfl) ?_
            refine va_get (D := D) (ci := 7) (v := .ref p9) (C := "SignMachineModel") (T := F_X) (N := 64) hx hb hk fi_X hown hK.1 hP 0 rfl rfl 20 (by decide) (hk _ k_1141) (fun _ h9 => h9) rfl d_X_shift_245 ?_
            refine lv_iload hx hb d_X_shift_248 (lv_at hl 1 rfl) ?_
            refine lv_iconst (v := 5) hx hb d_X_shift_250 (by decide) ?_
            refine lv_iadd hx hb d_X_shift_251 ?_
            refine tpi (y := (9 : Int32)) (by decide) ?_
            refine va_iald hx hb hK.1 hP 9 0 rfl rfl (by unfold vp_in; decide) d_X_shift_252 ?_
            refine lv_topi (fun v323 hv323 => ?_)
            have Rv323 := Ag97y9 ((9 : Int32)).toNatClampNeg
            rw [← hv323] at Rv323
            refine lv_iadd hx hb d_X_shift_253 ?_
            refine lv_topi (fun v324 hv324 => ?_)
            obtain ⟨ev324, Rv324⟩ : v324.toInt = v322.toInt + v323.toInt ∧ (0 ≤ v324.toInt ∧ v324.toInt ≤ 1073741823) := ad3 hv324 Rv322 Rv323 (by decide) (by decide) (by decide) (by decide)
            refine lv_istore (lv' := [(4, .int v324), (3, .int v321), (5, .int (4 : Int32)), (2, .int x0_15), (1, .int (1 : Int32)), (0, .ref p0)]) hx hb d_X_shift_254 hl (by decide) rfl (fun ls hl => ?_)
            refine lv_iinc (v := (5 : Int32)) (lv' := [(5, .int (5 : Int32)), (4, .int v324), (3, .int v321), (2, .int x0_15), (1, .int (1 : Int32)), (0, .ref p0)]) hx hb d_X_shift_256 hl (k := 2) rfl (by decide) (by decide) rfl (fun ls hl => ?_)
            refine lv_goto (tgt := 220) hx hb d_X_shift_259 (by decide) ?_
            refine lv_iload hx hb d_X_shift_220 (lv_at hl 0 rfl) ?_
            refine lv_iconst (v := 5) hx hb d_X_shift_222 (by decide) ?_
            refine lv_icmp_ge (tgt := 262) hx hb d_X_shift_223 (by decide) (fun c325 => ?_) (fun c325 => absurd (show (5 : Int32) ≤ (5 : Int32) from (by decide)) c325)
            refine lv_aload_n hx hb d_X_shift_262 rfl (lv_at hl 5 rfl) ?_
            refine va_get (D := D) (ci := 7) (v := .ref p4) (C := "SignMachineModel") (T := F_X) (N := 64) hx hb hk fi_X hown hK.1 hP 0 rfl rfl 3 (by decide) (hk _ k_1124) (fun _ h9 => h9) rfl d_X_shift_263 ?_
            refine lv_iconst (v := 0) hx hb d_X_shift_266 (by decide) ?_
            refine lv_iload_n hx hb d_X_shift_267 rfl (lv_at hl 2 rfl) ?_
            refine va_iast hx hb hK.1 hP hD hS 4 0 rfl rfl (by unfold vp_in; decide) d_X_shift_268 (fun H locs hP hD hS => ?_)
            have hP : va_P D classes (wS50 cI cJ cZ cB p0 p1 p2 p3 p4 p5 p6 p7 p8 p9 p10 p11 p12 p13 p14 p15 p16 p17 p18 p19 p20 p21 p22 p23 p24 p25 x0_4 x0_5 x0_6 x0_7 x0_8 x0_12 x0_13 x0_14 x0_15 x0_16 x0_17 x0_18 x0_22 x0_23 x0_24 x0_25 x0_26 x0_27 x0_28 x0_29 x0_30 x0_31 x0_32 x0_36 x0_39 x0_40 x0_44 x0_49 x0_51 x0_53 x0_54 x0_55 x0_56 x0_57 x0_58 x0_59 x0_60 x0_61 x0_62 y1 y2 y3 (upd y4 ((0 : Int32)).toNatClampNeg v321) y5 y6 y7 v50 g97y9 y10 y11 y12 y13 y14 y15 y16 y17 y18 y19 y20 y21 y22 y23 y24 y25) H := hP
            have hD : va_D A (wS50 cI cJ cZ cB p0 p1 p2 p3 p4 p5 p6 p7 p8 p9 p10 p11 p12 p13 p14 p15 p16 p17 p18 p19 p20 p21 p22 p23 p24 p25 x0_4 x0_5 x0_6 x0_7 x0_8 x0_12 x0_13 x0_14 x0_15 x0_16 x0_17 x0_18 x0_22 x0_23 x0_24 x0_25 x0_26 x0_27 x0_28 x0_29 x0_30 x0_31 x0_32 x0_36 x0_39 x0_40 x0_44 x0_49 x0_51 x0_53 x0_54 x0_55 x0_56 x0_57 x0_58 x0_59 x0_60 x0_61 x0_62 y1 y2 y3 (upd y4 ((0 : Int32)).toNatClampNeg v321) y5 y6 y7 v50 g97y9 y10 y11 y12 y13 y14 y15 y16 y17 y18 y19 y20 y21 y22 y23 y24 y25) := hD
            obtain ⟨v326, hv326⟩ : ∃ y : Nat → Int32, y = (upd y4 ((0 : Int32)).toNatClampNeg v321) := ⟨_, rfl⟩
            rw [← hv326] at hP hD
            have : ((((0 : Int32)).toNatClampNeg : Nat) : Int) = 0 := by decide
            have Gv326 : ((0 ≤ (v321).toInt ∧ (v321).toInt ≤ 1073741823) ∧ ((1 ≤ ((((0 : Int32)).toNatClampNeg : Nat) : Int) ∧ ((((0 : Int32)).toNatClampNeg : Nat) : Int) ≤ 6) → (v321).toInt ≤ 4095)) := ⟨Rv321, fun h => absurd h (by decide)⟩
            have Av326 : ∀ i : Nat, ((0 ≤ (v326 i).toInt ∧ (v326 i).toInt ≤ 1073741823) ∧ ((1 ≤ (i : Int) ∧ (i : Int) ≤ 6) → (v326 i).toInt ≤ 4095)) := by rw [hv326]; exact upd_all (P := fun i x => ((0 ≤ (x).toInt ∧ (x).toInt ≤ 1073741823) ∧ ((1 ≤ (i : Int) ∧ (i : Int) ≤ 6) → (x).toInt ≤ 4095))) Ay4 Gv326
            clear hv326
            refine lv_aload_n hx hb d_X_shift_269 rfl (lv_at hl 5 rfl) ?_
            refine va_get (D := D) (ci := 7) (v := .ref p4) (C := "SignMachineModel") (T := F_X) (N := 64) hx hb hk fi_X hown hK.1 hP 0 rfl rfl 3 (by decide) (hk _ k_1124) (fun _ h9 => h9) rfl d_X_shift_270 ?_
            refine lv_bipush (v := 7) hx hb d_X_shift_273 (by decide) ?_
            refine lv_iload hx hb d_X_shift_275 (lv_at hl 1 rfl) ?_
            refine va_iast hx hb hK.1 hP hD hS 4 0 rfl rfl (by unfold vp_in; decide) d_X_shift_277 (fun H locs hP hD hS => ?_)
            have hP : va_P D classes (wS50 cI cJ cZ cB p0 p1 p2 p3 p4 p5 p6 p7 p8 p9 p10 p11 p12 p13 p14 p15 p16 p17 p18 p19 p20 p21 p22 p23 p24 p25 x0_4 x0_5 x0_6 x0_7 x0_8 x0_12 x0_13 x0_14 x0_15 x0_16 x0_17 x0_18 x0_22 x0_23 x0_24 x0_25 x0_26 x0_27 x0_28 x0_29 x0_30 x0_31 x0_32 x0_36 x0_39 x0_40 x0_44 x0_49 x0_51 x0_53 x0_54 x0_55 x0_56 x0_57 x0_58 x0_59 x0_60 x0_61 x0_62 y1 y2 y3 (upd v326 ((7 : Int32)).toNatClampNeg v324) y5 y6 y7 v50 g97y9 y10 y11 y12 y13 y14 y15 y16 y17 y18 y19 y20 y21 y22 y23 y24 y25) H := hP
            have hD : va_D A (wS50 cI cJ cZ cB p0 p1 p2 p3 p4 p5 p6 p7 p8 p9 p10 p11 p12 p13 p14 p15 p16 p17 p18 p19 p20 p21 p22 p23 p24 p25 x0_4 x0_5 x0_6 x0_7 x0_8 x0_12 x0_13 x0_14 x0_15 x0_16 x0_17 x0_18 x0_22 x0_23 x0_24 x0_25 x0_26 x0_27 x0_28 x0_29 x0_30 x0_31 x0_32 x0_36 x0_39 x0_40 x0_44 x0_49 x0_51 x0_53 x0_54 x0_55 x0_56 x0_57 x0_58 x0_59 x0_60 x0_61 x0_62 y1 y2 y3 (upd v326 ((7 : Int32)).toNatClampNeg v324) y5 y6 y7 v50 g97y9 y10 y11 y12 y13 y14 y15 y16 y17 y18 y19 y20 y21 y22 y23 y24 y25) := hD
            obtain ⟨v327, hv327⟩ : ∃ y : Nat → Int32, y = (upd v326 ((7 : Int32)).toNatClampNeg v324) := ⟨_, rfl⟩
            rw [← hv327] at hP hD
            have : ((((7 : Int32)).toNatClampNeg : Nat) : Int) = 7 := by decide
            have Gv327 : ((0 ≤ (v324).toInt ∧ (v324).toInt ≤ 1073741823) ∧ ((1 ≤ ((((7 : Int32)).toNatClampNeg : Nat) : Int) ∧ ((((7 : Int32)).toNatClampNeg : Nat) : Int) ≤ 6) → (v324).toInt ≤ 4095)) := ⟨Rv324, fun h => absurd h (by decide)⟩
            have Av327 : ∀ i : Nat, ((0 ≤ (v327 i).toInt ∧ (v327 i).toInt ≤ 1073741823) ∧ ((1 ≤ (i : Int) ∧ (i : Int) ≤ 6) → (v327 i).toInt ≤ 4095)) := by rw [hv327]; exact upd_all (P := fun i x => ((0 ≤ (x).toInt ∧ (x).toInt ≤ 1073741823) ∧ ((1 ≤ (i : Int) ∧ (i : Int) ≤ 6) → (x).toInt ≤ 4095))) Av326 Gv327
            clear hv327
            exact W.vret hx hb hr (fun t ht hW => ⟨⟨(), rfl, trivial, ⟨v327, v50, g97y9, Av327, Av50, Ag97y9, by show va_P D classes _ t.heap; rw [ht]; exact hP, hD⟩⟩, hS.F ht⟩) hS.2.2 d_X_shift_278
          · have gc290 : g97l3.toInt < (10 : Int) := c_nle c290
            have R328 : 0 ≤ g97l3.toInt ∧ g97l3.toInt ≤ 9 := rf_ltX Rg97l3 (show 10 ≤ (10 : Int) ∧ (10 : Int) ≤ 10 from by decide) gc290 (by decide) (by decide)
            refine lv_iload_n hx hb d_X_shift_103 rfl (lv_at hl 0 rfl) ?_
            refine lv_i2l (v := (g97l3 : Int32).toInt64) hx hb d_X_shift_104 rfl ?_
            refine lv_topl (fun v329 hv329 => ?_)
            obtain ⟨ev329, Rv329⟩ : v329.toInt = g97l3.toInt ∧ (0 ≤ v329.toInt ∧ v329.toInt ≤ 9) := il3 hv329 R328
            refine lv_iload_n hx hb d_X_shift_105 rfl (lv_at hl 1 rfl) ?_
            refine lv_i2l (v := (x0_15 : Int32).toInt64) hx hb d_X_shift_106 rfl ?_
            refine lv_topl (fun v330 hv330 => ?_)
            obtain ⟨ev330, Rv330⟩ : v330.toInt = x0_15.toInt ∧ ((-8190) ≤ v330.toInt ∧ v330.toInt ≤ 8190) := il3 hv330 Rx0_15
            refine lv_ladd hx hb d_X_shift_107 ?_
            refine lv_topl (fun v331 hv331 => ?_)
            obtain ⟨ev331, Rv331⟩ : v331.toInt = v329.toInt + v330.toInt ∧ ((-8190) ≤ v331.toInt ∧ v331.toInt ≤ 8199) := ad6 hv331 Rv329 Rv330 (by decide) (by decide) (by decide) (by decide)
            refine lv_lstore (lv' := [(4, .long v331), (3, .int g97l3), (2, .int x0_15), (1, .int (1 : Int32)), (0, .ref p0)]) hx hb d_X_shift_108 hl (by decide) rfl (fun ls hl => ?_)
            refine lv_aload_n hx hb d_X_shift_110 rfl (lv_at hl 4 rfl) ?_
            refine va_get (D := D) (ci := 7) (v := .int x0_13) (C := "SignMachineModel") (T := F_X) (N := 64) hx hb hk fi_X hown hK.1 hP 0 rfl rfl 13 (by decide) (hk _ k_1134) (fun _ h9 => h9) rfl d_X_shift_111 ?_
            refine lv_iconst (v := 4) hx hb d_X_shift_114 (by decide) ?_
            refine lv_icmp_lt (tgt := 134) hx hb d_X_shift_115 (by decide) (fun c332 => ?_) (fun c332 => absurd (show x0_13 < (4 : Int32) from (Int32.lt_iff_toInt_lt.mpr (klt R215 (show 4 ≤ (4 : Int) ∧ (4 : Int) ≤ 4 from by decide) (by decide)))) c332)
            refine lv_iload_n hx hb d_X_shift_134 rfl (lv_at hl 3 rfl) ?_
            refine lv_if_eq (tgt := 147) hx hb d_X_shift_135 (by decide) (fun c333 => absurd c333 (show ¬ (1 : Int32) = (0 : Int32) from (by decide))) (fun c333 => ?_)
            refine lv_iload_n hx hb d_X_shift_138 rfl (lv_at hl 1 rfl) ?_
            refine lv_iconst (v := 5) hx hb d_X_shift_139 (by decide) ?_
            refine lv_icmp_lt (tgt := 147) hx hb d_X_shift_140 (by decide) (fun c334 => ?_) (fun c334 => ?_)
            · have gc334 : g97l3.toInt < (5 : Int) := c_lt c334
              have R335 : 0 ≤ g97l3.toInt ∧ g97l3.toInt ≤ 4 := rf_ltX R328 (show 5 ≤ (5 : Int) ∧ (5 : Int) ≤ 5 from by decide) gc334 (by decide) (by decide)
              refine lv_iconst (v := 0) hx hb d_X_shift_147 (by decide) ?_
              refine lv_istore (lv' := [(6, .int (0 : Int32)), (4, .long v331), (3, .int g97l3), (2, .int x0_15), (1, .int (1 : Int32)), (0, .ref p0)]) hx hb d_X_shift_148 hl (by decide) rfl (fun ls hl => ?_)
              refine lv_aload_n hx hb d_X_shift_150 rfl (lv_at hl 5 rfl) ?_
              refine va_get (D := D) (ci := 7) (v := .ref p9) (C := "SignMachineModel") (T := F_X) (N := 64) hx hb hk fi_X hown hK.1 hP 0 rfl rfl 20 (by decide) (hk _ k_1141) (fun _ h9 => h9) rfl d_X_shift_151 ?_
              refine lv_iload_n hx hb d_X_shift_154 rfl (lv_at hl 2 rfl) ?_
              refine lv_iload hx hb d_X_shift_155 (lv_at hl 0 rfl) ?_
              refine lv_if_eq (tgt := 169) hx hb d_X_shift_157 (by decide) (fun c336 => ?_) (fun c336 => absurd (show (0 : Int32) = (0 : Int32) from (by decide)) c336)
              refine lv_lload hx hb d_X_shift_169 (lv_at hl 1 rfl) ?_
              refine lv_lconst (v := 0) hx hb d_X_shift_171 (by decide) ?_
              refine W.lcmp hx hb d_X_shift_172 ?_
              refine lv_topi (fun v337 hv337 => ?_)
              refine lv_if_lt (tgt := 204) hx hb d_X_shift_173 (by decide) (fun c338 => ?_) (fun c338 => ?_)
              · have gc338 : v331.toInt < (0 : Int) := lc_lt hv337 c338
                have R339 : (-8190) ≤ v331.toInt ∧ v331.toInt ≤ (-1) := rf_ltX Rv331 (show 0 ≤ (0 : Int) ∧ (0 : Int) ≤ 0 from by decide) gc338 (by decide) (by decide)
                refine lv_iconst (v := 0) hx hb d_X_shift_204 (by decide) ?_
                refine va_iast hx hb hK.1 hP hD hS 9 0 rfl rfl (vpb R335 (by decide) (by decide)) d_X_shift_205 (fun H locs hP hD hS => ?_)
                have hP : va_P D classes (wS50 cI cJ cZ cB p0 p1 p2 p3 p4 p5 p6 p7 p8 p9 p10 p11 p12 p13 p14 p15 p16 p17 p18 p19 p20 p21 p22 p23 p24 p25 x0_4 x0_5 x0_6 x0_7 x0_8 x0_12 x0_13 x0_14 x0_15 x0_16 x0_17 x0_18 x0_22 x0_23 x0_24 x0_25 x0_26 x0_27 x0_28 x0_29 x0_30 x0_31 x0_32 x0_36 x0_39 x0_40 x0_44 x0_49 x0_51 x0_53 x0_54 x0_55 x0_56 x0_57 x0_58 x0_59 x0_60 x0_61 x0_62 y1 y2 y3 y4 y5 y6 y7 v50 (upd g97y9 (g97l3).toNatClampNeg (0 : Int32)) y10 y11 y12 y13 y14 y15 y16 y17 y18 y19 y20 y21 y22 y23 y24 y25) H := hP
                have hD : va_D A (wS50 cI cJ cZ cB p0 p1 p2 p3 p4 p5 p6 p7 p8 p9 p10 p11 p12 p13 p14 p15 p16 p17 p18 p19 p20 p21 p22 p23 p24 p25 x0_4 x0_5 x0_6 x0_7 x0_8 x0_12 x0_13 x0_14 x0_15 x0_16 x0_17 x0_18 x0_22 x0_23 x0_24 x0_25 x0_26 x0_27 x0_28 x0_29 x0_30 x0_31 x0_32 x0_36 x0_39 x0_40 x0_44 x0_49 x0_51 x0_53 x0_54 x0_55 x0_56 x0_57 x0_58 x0_59 x0_60 x0_61 x0_62 y1 y2 y3 y4 y5 y6 y7 v50 (upd g97y9 (g97l3).toNatClampNeg (0 : Int32)) y10 y11 y12 y13 y14 y15 y16 y17 y18 y19 y20 y21 y22 y23 y24 y25) := hD
                obtain ⟨v340, hv340⟩ : ∃ y : Nat → Int32, y = (upd g97y9 (g97l3).toNatClampNeg (0 : Int32)) := ⟨_, rfl⟩
                rw [← hv340] at hP hD
                have Gv340 : (0 ≤ ((0 : Int32)).toInt ∧ ((0 : Int32)).toInt ≤ 63) := (by decide)
                have Av340 : ∀ i : Nat, (0 ≤ (v340 i).toInt ∧ (v340 i).toInt ≤ 63) := by rw [hv340]; exact upd_all (P := fun i x => (0 ≤ (x).toInt ∧ (x).toInt ≤ 63)) Ag97y9 Gv340
                clear hv340
                obtain ⟨v341, hv341⟩ : ∃ y : Int32, y = (g97l3 + (1 : Int32)) := ⟨_, rfl⟩
                obtain ⟨ev341, Rv341⟩ : v341.toInt = g97l3.toInt + 1 ∧ (1 ≤ v341.toInt ∧ v341.toInt ≤ 5) := ad3 hv341 R335 (y := (1 : Int32)) (c := 1) (d := 1) (by decide) (by decide) (by decide) (by decide) (by decide)
                refine lv_iinc (v := v341) (lv' := [(3, .int v341), (6, .int (0 : Int32)), (4, .long v331), (2, .int x0_15), (1, .int (1 : Int32)), (0, .ref p0)]) hx hb d_X_shift_206 hl (k := 2) rfl (by rw [hv341]; rfl) (by decide) rfl (fun ls hl => ?_)
                refine lv_goto (tgt := 97) hx hb d_X_shift_209 (by decide) ?_
                exact ih97 v341 v340 H _ ls (show 10 - v341.toInt < (n : Int) from by omega) (rgw Rv341 (by decide) (by decide)) Av340 hP hD hS (lv_sub hl [0, 3, 4, 5] rfl)
              · have gc338 : (0 : Int) ≤ v331.toInt := lc_nlt hv337 c338
                have R342 : 0 ≤ v331.toInt ∧ v331.toInt ≤ 8199 := rf_geX Rv331 (show 0 ≤ (0 : Int) ∧ (0 : Int) ≤ 0 from by decide) gc338 (by decide) (by decide)
                refine lv_lload hx hb d_X_shift_176 (lv_at hl 1 rfl) ?_
                refine lv_iload_n hx hb d_X_shift_178 rfl (lv_at hl 4 rfl) ?_
                refine lv_if_eq (tgt := 186) hx hb d_X_shift_179 (by decide) (fun c343 => absurd c343 (show ¬ (1 : Int32) = (0 : Int32) from (by decide))) (fun c343 => ?_)
                refine lv_iconst (v := 5) hx hb d_X_shift_182 (by decide) ?_
                refine lv_goto (tgt := 188) hx hb d_X_shift_183 (by decide) ?_
                refine lv_i2l (v := ((5 : Int32) : Int32).toInt64) hx hb d_X_shift_188 rfl ?_
                refine tpl (y := (5 : Int64)) (by decide) ?_
                refine W.lcmp hx hb d_X_shift_189 ?_
                refine lv_topi (fun v344 hv344 => ?_)
                refine lv_if_ge (tgt := 204) hx hb d_X_shift_190 (by decide) (fun c345 => ?_) (fun c345 => ?_)
                · have gc345 : (5 : Int) ≤ v331.toInt := lc_ge hv344 c345
                  have R346 : 5 ≤ v331.toInt ∧ v331.toInt ≤ 8199 := rf_geX R342 (show 5 ≤ (5 : Int) ∧ (5 : Int) ≤ 5 from by decide) gc345 (by decide) (by decide)
                  refine lv_iconst (v := 0) hx hb d_X_shift_204 (by decide) ?_
                  refine va_iast hx hb hK.1 hP hD hS 9 0 rfl rfl (vpb R335 (by decide) (by decide)) d_X_shift_205 (fun H locs hP hD hS => ?_)
                  have hP : va_P D classes (wS50 cI cJ cZ cB p0 p1 p2 p3 p4 p5 p6 p7 p8 p9 p10 p11 p12 p13 p14 p15 p16 p17 p18 p19 p20 p21 p22 p23 p24 p25 x0_4 x0_5 x0_6 x0_7 x0_8 x0_12 x0_13 x0_14 x0_15 x0_16 x0_17 x0_18 x0_22 x0_23 x0_24 x0_25 x0_26 x0_27 x0_28 x0_29 x0_30 x0_31 x0_32 x0_36 x0_39 x0_40 x0_44 x0_49 x0_51 x0_53 x0_54 x0_55 x0_56 x0_57 x0_58 x0_59 x0_60 x0_61 x0_62 y1 y2 y3 y4 y5 y6 y7 v50 (upd g97y9 (g97l3).toNatClampNeg (0 : Int32)) y10 y11 y12 y13 y14 y15 y16 y17 y18 y19 y20 y21 y22 y23 y24 y25) H := hP
                  have hD : va_D A (wS50 cI cJ cZ cB p0 p1 p2 p3 p4 p5 p6 p7 p8 p9 p10 p11 p12 p13 p14 p15 p16 p17 p18 p19 p20 p21 p22 p23 p24 p25 x0_4 x0_5 x0_6 x0_7 x0_8 x0_12 x0_13 x0_14 x0_15 x0_16 x0_17 x0_18 x0_22 x0_23 x0_24 x0_25 x0_26 x0_27 x0_28 x0_29 x0_30 x0_31 x0_32 x0_36 x0_39 x0_40 x0_44 x0_49 x0_51 x0_53 x0_54 x0_55 x0_56 x0_57 x0_58 x0_59 x0_60 x0_61 x0_62 y1 y2 y3 y4 y5 y6 y7 v50 (upd g97y9 (g97l3).toNatClampNeg (0 : Int32)) y10 y11 y12 y13 y14 y15 y16 y17 y18 y19 y20 y21 y22 y23 y24 y25) := hD
                  obtain ⟨v347, hv347⟩ : ∃ y : Nat → Int32, y = (upd g97y9 (g97l3).toNatClampNeg (0 : Int32)) := ⟨_, rfl⟩
                  rw [← hv347] at hP hD
                  have Gv347 : (0 ≤ ((0 : Int32)).toInt ∧ ((0 : Int32)).toInt ≤ 63) := (by decide)
                  have Av347 : ∀ i : Nat, (0 ≤ (v347 i).toInt ∧ (v347 i).toInt ≤ 63) := by rw [hv347]; exact upd_all (P := fun i x => (0 ≤ (x).toInt ∧ (x).toInt ≤ 63)) Ag97y9 Gv347
                  clear hv347
                  obtain ⟨v348, hv348⟩ : ∃ y : Int32, y = (g97l3 + (1 : Int32)) := ⟨_, rfl⟩
                  obtain ⟨ev348, Rv348⟩ : v348.toInt = g97l3.toInt + 1 ∧ (1 ≤ v348.toInt ∧ v348.toInt ≤ 5) := ad3 hv348 R335 (y := (1 : Int32)) (c := 1) (d := 1) (by decide) (by decide) (by decide) (by decide) (by decide)
                  refine lv_iinc (v := v348) (lv' := [(3, .int v348), (6, .int (0 : Int32)), (4, .long v331), (2, .int x0_15), (1, .int (1 : Int32)), (0, .ref p0)]) hx hb d_X_shift_206 hl (k := 2) rfl (by rw [hv348]; rfl) (by decide) rfl (fun ls hl => ?_)
                  refine lv_goto (tgt := 97) hx hb d_X_shift_209 (by decide) ?_
                  exact ih97 v348 v347 H _ ls (show 10 - v348.toInt < (n : Int) from by omega) (rgw Rv348 (by decide) (by decide)) Av347 hP hD hS (lv_sub hl [0, 3, 4, 5] rfl)
                · have gc345 : v331.toInt < (5 : Int) := lc_nge hv344 c345
                  have R349 : 0 ≤ v331.toInt ∧ v331.toInt ≤ 4 := rf_ltX R342 (show 5 ≤ (5 : Int) ∧ (5 : Int) ≤ 5 from by decide) gc345 (by decide) (by decide)
                  refine lv_aload_n hx hb d_X_shift_193 rfl (lv_at hl 5 rfl) ?_
                  refine va_get (D := D) (ci := 7) (v := .ref p8) (C := "SignMachineModel") (T := F_X) (N := 64) hx hb hk fi_X hown hK.1 hP 0 rfl rfl 19 (by decide) (hk _ k_1140) (fun _ h9 => h9) rfl d_X_shift_194 ?_
                  refine lv_lload hx hb d_X_shift_197 (lv_at hl 1 rfl) ?_
                  refine lv_l2i (v := (v331 : Int64).toInt32) hx hb d_X_shift_199 rfl ?_
                  refine lv_topi (fun v350 hv350 => ?_)
                  obtain ⟨ev350, Rv350⟩ : v350.toInt = v331.toInt ∧ (0 ≤ v350.toInt ∧ v350.toInt ≤ 4) := li3 hv350 R349 (by decide) (by decide)
                  refine va_iald hx hb hK.1 hP 8 0 rfl rfl (vpb Rv350 (by decide) (by decide)) d_X_shift_200 ?_
                  refine lv_topi (fun v351 hv351 => ?_)
                  have Rv351 := Av50 (v350).toNatClampNeg
                  rw [← hv351] at Rv351
                  refine lv_goto (tgt := 205) hx hb d_X_shift_201 (by decide) ?_
                  refine va_iast hx hb hK.1 hP hD hS 9 0 rfl rfl (vpb R335 (by decide) (by decide)) d_X_shift_205 (fun H locs hP hD hS => ?_)
                  have hP : va_P D classes (wS50 cI cJ cZ cB p0 p1 p2 p3 p4 p5 p6 p7 p8 p9 p10 p11 p12 p13 p14 p15 p16 p17 p18 p19 p20 p21 p22 p23 p24 p25 x0_4 x0_5 x0_6 x0_7 x0_8 x0_12 x0_13 x0_14 x0_15 x0_16 x0_17 x0_18 x0_22 x0_23 x0_24 x0_25 x0_26 x0_27 x0_28 x0_29 x0_30 x0_31 x0_32 x0_36 x0_39 x0_40 x0_44 x0_49 x0_51 x0_53 x0_54 x0_55 x0_56 x0_57 x0_58 x0_59 x0_60 x0_61 x0_62 y1 y2 y3 y4 y5 y6 y7 v50 (upd g97y9 (g97l3).toNatClampNeg v351) y10 y11 y12 y13 y14 y15 y16 y17 y18 y19 y20 y21 y22 y23 y24 y25) H := hP
                  have hD : va_D A (wS50 cI cJ cZ cB p0 p1 p2 p3 p4 p5 p6 p7 p8 p9 p10 p11 p12 p13 p14 p15 p16 p17 p18 p19 p20 p21 p22 p23 p24 p25 x0_4 x0_5 x0_6 x0_7 x0_8 x0_12 x0_13 x0_14 x0_15 x0_16 x0_17 x0_18 x0_22 x0_23 x0_24 x0_25 x0_26 x0_27 x0_28 x0_29 x0_30 x0_31 x0_32 x0_36 x0_39 x0_40 x0_44 x0_49 x0_51 x0_53 x0_54 x0_55 x0_56 x0_57 x0_58 x0_59 x0_60 x0_61 x0_62 y1 y2 y3 y4 y5 y6 y7 v50 (upd g97y9 (g97l3).toNatClampNeg v351) y10 y11 y12 y13 y14 y15 y16 y17 y18 y19 y20 y21 y22 y23 y24 y25) := hD
                  obtain ⟨v352, hv352⟩ : ∃ y : Nat → Int32, y = (upd g97y9 (g97l3).toNatClampNeg v351) := ⟨_, rfl⟩
                  rw [← hv352] at hP hD
                  have Gv352 : (0 ≤ (v351).toInt ∧ (v351).toInt ≤ 63) := Rv351
                  have Av352 : ∀ i : Nat, (0 ≤ (v352 i).toInt ∧ (v352 i).toInt ≤ 63) := by rw [hv352]; exact upd_all (P := fun i x => (0 ≤ (x).toInt ∧ (x).toInt ≤ 63)) Ag97y9 Gv352
                  clear hv352
                  obtain ⟨v353, hv353⟩ : ∃ y : Int32, y = (g97l3 + (1 : Int32)) := ⟨_, rfl⟩
                  obtain ⟨ev353, Rv353⟩ : v353.toInt = g97l3.toInt + 1 ∧ (1 ≤ v353.toInt ∧ v353.toInt ≤ 5) := ad3 hv353 R335 (y := (1 : Int32)) (c := 1) (d := 1) (by decide) (by decide) (by decide) (by decide) (by decide)
                  refine lv_iinc (v := v353) (lv' := [(3, .int v353), (6, .int (0 : Int32)), (4, .long v331), (2, .int x0_15), (1, .int (1 : Int32)), (0, .ref p0)]) hx hb d_X_shift_206 hl (k := 2) rfl (by rw [hv353]; rfl) (by decide) rfl (fun ls hl => ?_)
                  refine lv_goto (tgt := 97) hx hb d_X_shift_209 (by decide) ?_
                  exact ih97 v353 v352 H _ ls (show 10 - v353.toInt < (n : Int) from by omega) (rgw Rv353 (by decide) (by decide)) Av352 hP hD hS (lv_sub hl [0, 3, 4, 5] rfl)
            · have gc334 : (5 : Int) ≤ g97l3.toInt := c_nlt c334
              have R354 : 5 ≤ g97l3.toInt ∧ g97l3.toInt ≤ 9 := rf_geX R328 (show 5 ≤ (5 : Int) ∧ (5 : Int) ≤ 5 from by decide) gc334 (by decide) (by decide)
              refine lv_iconst (v := 1) hx hb d_X_shift_143 (by decide) ?_
              refine lv_goto (tgt := 148) hx hb d_X_shift_144 (by decide) ?_
              refine lv_istore (lv' := [(6, .int (1 : Int32)), (4, .long v331), (3, .int g97l3), (2, .int x0_15), (1, .int (1 : Int32)), (0, .ref p0)]) hx hb d_X_shift_148 hl (by decide) rfl (fun ls hl => ?_)
              refine lv_aload_n hx hb d_X_shift_150 rfl (lv_at hl 5 rfl) ?_
              refine va_get (D := D) (ci := 7) (v := .ref p9) (C := "SignMachineModel") (T := F_X) (N := 64) hx hb hk fi_X hown hK.1 hP 0 rfl rfl 20 (by decide) (hk _ k_1141) (fun _ h9 => h9) rfl d_X_shift_151 ?_
              refine lv_iload_n hx hb d_X_shift_154 rfl (lv_at hl 2 rfl) ?_
              refine lv_iload hx hb d_X_shift_155 (lv_at hl 0 rfl) ?_
              refine lv_if_eq (tgt := 169) hx hb d_X_shift_157 (by decide) (fun c355 => absurd c355 (show ¬ (1 : Int32) = (0 : Int32) from (by decide))) (fun c355 => ?_)
              refine lv_aload_n hx hb d_X_shift_160 rfl (lv_at hl 5 rfl) ?_
              refine va_get (D := D) (ci := 7) (v := .ref p8) (C := "SignMachineModel") (T := F_X) (N := 64) hx hb hk fi_X hown hK.1 hP 0 rfl rfl 19 (by decide) (hk _ k_1140) (fun _ h9 => h9) rfl d_X_shift_161 ?_
              refine lv_iload_n hx hb d_X_shift_164 rfl (lv_at hl 2 rfl) ?_
              refine va_iald hx hb hK.1 hP 8 0 rfl rfl (vpb R354 (by decide) (by decide)) d_X_shift_165 ?_
              refine lv_topi (fun v356 hv356 => ?_)
              have Rv356 := Av50 (g97l3).toNatClampNeg
              rw [← hv356] at Rv356
              refine lv_goto (tgt := 205) hx hb d_X_shift_166 (by decide) ?_
              refine va_iast hx hb hK.1 hP hD hS 9 0 rfl rfl (vpb R354 (by decide) (by decide)) d_X_shift_205 (fun H locs hP hD hS => ?_)
              have hP : va_P D classes (wS50 cI cJ cZ cB p0 p1 p2 p3 p4 p5 p6 p7 p8 p9 p10 p11 p12 p13 p14 p15 p16 p17 p18 p19 p20 p21 p22 p23 p24 p25 x0_4 x0_5 x0_6 x0_7 x0_8 x0_12 x0_13 x0_14 x0_15 x0_16 x0_17 x0_18 x0_22 x0_23 x0_24 x0_25 x0_26 x0_27 x0_28 x0_29 x0_30 x0_31 x0_32 x0_36 x0_39 x0_40 x0_44 x0_49 x0_51 x0_53 x0_54 x0_55 x0_56 x0_57 x0_58 x0_59 x0_60 x0_61 x0_62 y1 y2 y3 y4 y5 y6 y7 v50 (upd g97y9 (g97l3).toNatClampNeg v356) y10 y11 y12 y13 y14 y15 y16 y17 y18 y19 y20 y21 y22 y23 y24 y25) H := hP
              have hD : va_D A (wS50 cI cJ cZ cB p0 p1 p2 p3 p4 p5 p6 p7 p8 p9 p10 p11 p12 p13 p14 p15 p16 p17 p18 p19 p20 p21 p22 p23 p24 p25 x0_4 x0_5 x0_6 x0_7 x0_8 x0_12 x0_13 x0_14 x0_15 x0_16 x0_17 x0_18 x0_22 x0_23 x0_24 x0_25 x0_26 x0_27 x0_28 x0_29 x0_30 x0_31 x0_32 x0_36 x0_39 x0_40 x0_44 x0_49 x0_51 x0_53 x0_54 x0_55 x0_56 x0_57 x0_58 x0_59 x0_60 x0_61 x0_62 y1 y2 y3 y4 y5 y6 y7 v50 (upd g97y9 (g97l3).toNatClampNeg v356) y10 y11 y12 y13 y14 y15 y16 y17 y18 y19 y20 y21 y22 y23 y24 y25) := hD
              obtain ⟨v357, hv357⟩ : ∃ y : Nat → Int32, y = (upd g97y9 (g97l3).toNatClampNeg v356) := ⟨_, rfl⟩
              rw [← hv357] at hP hD
              have Gv357 : (0 ≤ (v356).toInt ∧ (v356).toInt ≤ 63) := Rv356
              have Av357 : ∀ i : Nat, (0 ≤ (v357 i).toInt ∧ (v357 i).toInt ≤ 63) := by rw [hv357]; exact upd_all (P := fun i x => (0 ≤ (x).toInt ∧ (x).toInt ≤ 63)) Ag97y9 Gv357
              clear hv357
              obtain ⟨v358, hv358⟩ : ∃ y : Int32, y = (g97l3 + (1 : Int32)) := ⟨_, rfl⟩
              obtain ⟨ev358, Rv358⟩ : v358.toInt = g97l3.toInt + 1 ∧ (6 ≤ v358.toInt ∧ v358.toInt ≤ 10) := ad3 hv358 R354 (y := (1 : Int32)) (c := 1) (d := 1) (by decide) (by decide) (by decide) (by decide) (by decide)
              refine lv_iinc (v := v358) (lv' := [(3, .int v358), (6, .int (1 : Int32)), (4, .long v331), (2, .int x0_15), (1, .int (1 : Int32)), (0, .ref p0)]) hx hb d_X_shift_206 hl (k := 2) rfl (by rw [hv358]; rfl) (by decide) rfl (fun ls hl => ?_)
              refine lv_goto (tgt := 97) hx hb d_X_shift_209 (by decide) ?_
              exact ih97 v358 v357 H _ ls (show 10 - v358.toInt < (n : Int) from by omega) (rgw Rv358 (by decide) (by decide)) Av357 hP hD hS (lv_sub hl [0, 3, 4, 5] rfl)
      exact CUT97 ((10 - (0 : Int)).toNat + 1) (0 : Int32) y9 H _ ls (show (10 - (0 : Int)) < (((10 - (0 : Int)).toNat + 1 : Nat) : Int) from by omega) (by decide) Ay9 hP hD hS (lv_sub hl [0, 1, 2, 3] rfl)
theorem v_X_shift {R : Room} {s : State} {args : Array Value} {own : String} {index : Nat} (hk : ∀ w ∈ tb, w.before args s = true) (hl : Cond.methodLink own index y_X_shift ∈ tb) (hR : 2 + 1 ≤ R.frames ∧ 8 + (7 + 11) + 45 ≤ R.locals) : CallW R s args own "SignMachineModel" index y_X_shift b_X_shift 7 none (.code y_X_shift b_X_shift 7 none :: tb) ({ frames := 2, cells := 0, slots := 0, locals := 45 }) 0 0 0 := mk_v 0 hk k_1498 hl k_1497 k_85 k_119 rfl rfl h_X_shift hR

set_option maxHeartbeats 8000000 in
set_option maxRecDepth 100000 in
theorem c_X_multiply (l : Launch) (D : va_G) (cI cJ cZ cB : ClassId) (p0 p1 p2 p3 p4 p5 p6 p7 p8 p9 p10 p11 p12 p13 p14 p15 p16 p17 p18 p19 p20 p21 p22 p23 p24 p25 : Nat) (sz : Nat) (x0_4 : Int32) (x0_5 : Int32) (x0_6 : Int32) (x0_7 : Int32) (x0_8 : Int32) (x0_12 : Int32) (x0_13 : Int32) (x0_14 : Int32) (x0_15 : Int32) (x0_16 : Int32) (x0_17 : Int32) (x0_18 : Int32) (x0_22 : Int32) (x0_23 : Int32) (x0_24 : Int32) (x0_25 : Int32) (x0_26 : Int32) (x0_27 : Int32) (x0_28 : Int32) (x0_29 : Int32) (x0_30 : Int32) (x0_31 : Int32) (x0_32 : Int32) (x0_36 : Int32) (x0_39 : Int32) (x0_40 : Int64) (x0_44 : Int32) (x0_49 : Int32) (x0_51 : Int32) (x0_53 : Int32) (x0_54 : Int32) (x0_55 : Int64) (x0_56 : Int32) (x0_57 : Int32) (x0_58 : Int32) (x0_59 : Int32) (x0_60 : Int32) (x0_61 : Int32) (x0_62 : Int64) (y1 : Nat → Int32) (y2 : Nat → Int32) (y3 : Nat → Int32) (y4 : Nat → Int32) (y5 : Nat → Int32) (y6 : Nat → Int32) (y7 : Nat → Int32) (y8 : Nat → Int32) (y9 : Nat → Int32) (y10 : Nat → Int32) (y11 : Nat → Int64) (y12 : Nat → Int32) (y13 : Nat → Int64) (y14 : Nat → Int32) (y15 : Nat → Int64) (y16 : Nat → Int32) (y17 : Nat → Int32) (y18 : Nat → Int32) (y19 : Nat → Int32) (y20 : Nat → Int32) (y21 : Nat → Int32) (y22 : Nat → Int32) (y23 : Nat → Int32) (y24 : Nat → Int64) (y25 : Nat → Int64)  (Rx0_17 : 0 ≤ x0_17.toInt ∧ x0_17.toInt ≤ 1) (Rx0_18 : 0 ≤ x0_18.toInt ∧ x0_18.toInt ≤ 1073741823) (Ay3 : ∀ i : Nat, (0 ≤ (y3 i).toInt ∧ (y3 i).toInt ≤ 1)) (Ay4 : ∀ i : Nat, ((0 ≤ (y4 i).toInt ∧ (y4 i).toInt ≤ 1073741823) ∧ ((1 ≤ (i : Int) ∧ (i : Int) ≤ 6) → (y4 i).toInt ≤ 4095))) : Met l y_X_multiply (.code y_X_multiply b_X_multiply 4 none :: tb) ({ frames := 0, cells := 0, slots := 0, locals := 0 }) (pM D cI cJ cZ cB (wS50 cI cJ cZ cB p0 p1 p2 p3 p4 p5 p6 p7 p8 p9 p10 p11 p12 p13 p14 p15 p16 p17 p18 p19 p20 p21 p22 p23 p24 p25 x0_4 x0_5 x0_6 x0_7 x0_8 x0_12 x0_13 x0_14 x0_15 x0_16 x0_17 x0_18 x0_22 x0_23 x0_24 x0_25 x0_26 x0_27 x0_28 x0_29 x0_30 x0_31 x0_32 x0_36 x0_39 x0_40 x0_44 x0_49 x0_51 x0_53 x0_54 x0_55 x0_56 x0_57 x0_58 x0_59 x0_60 x0_61 x0_62 y1 y2 y3 y4 y5 y6 y7 y8 y9 y10 y11 y12 y13 y14 y15 y16 y17 y18 y19 y20 y21 y22 y23 y24 y25) sz [.ref p0]) (va_Qv (fun (_ : Unit) => True) (fun _ t => ∃ u_y3 : Nat → Int32, ∃ u_y4 : Nat → Int32, (∀ i : Nat, (0 ≤ (u_y3 i).toInt ∧ (u_y3 i).toInt ≤ 1)) ∧ (∀ i : Nat, ((0 ≤ (u_y4 i).toInt ∧ (u_y4 i).toInt ≤ 1073741823) ∧ ((1 ≤ (i : Int) ∧ (i : Int) ≤ 6) → (u_y4 i).toInt ≤ 4095))) ∧ va_P D classes (wS50 cI cJ cZ cB p0 p1 p2 p3 p4 p5 p6 p7 p8 p9 p10 p11 p12 p13 p14 p15 p16 p17 p18 p19 p20 p21 p22 p23 p24 p25 x0_4 x0_5 x0_6 x0_7 x0_8 x0_12 x0_13 x0_14 x0_15 x0_16 x0_17 x0_18 x0_22 x0_23 x0_24 x0_25 x0_26 x0_27 x0_28 x0_29 x0_30 x0_31 x0_32 x0_36 x0_39 x0_40 x0_44 x0_49 x0_51 x0_53 x0_54 x0_55 x0_56 x0_57 x0_58 x0_59 x0_60 x0_61 x0_62 y1 y2 u_y3 u_y4 y5 y6 y7 y8 y9 y10 y11 y12 y13 y14 y15 y16 y17 y18 y19 y20 y21 y22 y23 y24 y25) t.heap ∧ va_D (va_A (wS50 cI cJ cZ cB p0 p1 p2 p3 p4 p5 p6 p7 p8 p9 p10 p11 p12 p13 p14 p15 p16 p17 p18 p19 p20 p21 p22 p23 p24 p25 x0_4 x0_5 x0_6 x0_7 x0_8 x0_12 x0_13 x0_14 x0_15 x0_16 x0_17 x0_18 x0_22 x0_23 x0_24 x0_25 x0_26 x0_27 x0_28 x0_29 x0_30 x0_31 x0_32 x0_36 x0_39 x0_40 x0_44 x0_49 x0_51 x0_53 x0_54 x0_55 x0_56 x0_57 x0_58 x0_59 x0_60 x0_61 x0_62 y1 y2 y3 y4 y5 y6 y7 y8 y9 y10 y11 y12 y13 y14 y15 y16 y17 y18 y19 y20 y21 y22 y23 y24 y25) sz) (wS50 cI cJ cZ cB p0 p1 p2 p3 p4 p5 p6 p7 p8 p9 p10 p11 p12 p13 p14 p15 p16 p17 p18 p19 p20 p21 p22 p23 p24 p25 x0_4 x0_5 x0_6 x0_7 x0_8 x0_12 x0_13 x0_14 x0_15 x0_16 x0_17 x0_18 x0_22 x0_23 x0_24 x0_25 x0_26 x0_27 x0_28 x0_29 x0_30 x0_31 x0_32 x0_36 x0_39 x0_40 x0_44 x0_49 x0_51 x0_53 x0_54 x0_55 x0_56 x0_57 x0_58 x0_59 x0_60 x0_61 x0_62 y1 y2 u_y3 u_y4 y5 y6 y7 y8 y9 y10 y11 y12 y13 y14 y15 y16 y17 y18 y19 y20 y21 y22 y23 y24 y25)) (va_A (wS50 cI cJ cZ cB p0 p1 p2 p3 p4 p5 p6 p7 p8 p9 p10 p11 p12 p13 p14 p15 p16 p17 p18 p19 p20 p21 p22 p23 p24 p25 x0_4 x0_5 x0_6 x0_7 x0_8 x0_12 x0_13 x0_14 x0_15 x0_16 x0_17 x0_18 x0_22 x0_23 x0_24 x0_25 x0_26 x0_27 x0_28 x0_29 x0_30 x0_31 x0_32 x0_36 x0_39 x0_40 x0_44 x0_49 x0_51 x0_53 x0_54 x0_55 x0_56 x0_57 x0_58 x0_59 x0_60 x0_61 x0_62 y1 y2 y3 y4 y5 y6 y7 y8 y9 y10 y11 y12 y13 y14 y15 y16 y17 y18 y19 y20 y21 y22 y23 y24 y25) sz)) 0 0 (va_A (wS50 cI cJ cZ cB p0 p1 p2 p3 p4 p5 p6 p7 p8 p9 p10 p11 p12 p13 p14 p15 p16 p17 p18 p19 p20 p21 p22 p23 p24 p25 x0_4 x0_5 x0_6 x0_7 x0_8 x0_12 x0_13 x0_14 x0_15 x0_16 x0_17 x0_18 x0_22 x0_23 x0_24 x0_25 x0_26 x0_27 x0_28 x0_29 x0_30 x0_31 x0_32 x0_36 x0_39 x0_40 x0_44 x0_49 x0_51 x0_53 x0_54 x0_55 x0_56 x0_57 x0_58 x0_59 x0_60 x0_61 x0_62 y1 y2 y3 y4 y5 y6 y7 y8 y9 y10 y11 y12 y13 y14 y15 y16 y17 y18 y19 y20 y21 y22 y23 y24 y25) sz) := by
  refine Met.ofW (cc := b_X_multiply) (maxL := 4) (ret := none) (by decide) rfl ?_
  intro p e s m args below meth c s₁ B hml hv
  obtain ⟨rfl, hsz, hK, hP, hD0⟩ := hv
  subst hsz
  have hD := hD0.self (sz := s.heap.size)
  generalize hAe : va_A (wS50 cI cJ cZ cB p0 p1 p2 p3 p4 p5 p6 p7 p8 p9 p10 p11 p12 p13 p14 p15 p16 p17 p18 p19 p20 p21 p22 p23 p24 p25 x0_4 x0_5 x0_6 x0_7 x0_8 x0_12 x0_13 x0_14 x0_15 x0_16 x0_17 x0_18 x0_22 x0_23 x0_24 x0_25 x0_26 x0_27 x0_28 x0_29 x0_30 x0_31 x0_32 x0_36 x0_39 x0_40 x0_44 x0_49 x0_51 x0_53 x0_54 x0_55 x0_56 x0_57 x0_58 x0_59 x0_60 x0_61 x0_62 y1 y2 y3 y4 y5 y6 y7 y8 y9 y10 y11 y12 y13 y14 y15 y16 y17 y18 y19 y20 y21 y22 y23 y24 y25) s.heap.size = A at hD ⊢
  have hA : ∀ q : Nat, s.heap.size ≤ q → A q := fun q h => by rw [← hAe]; exact Or.inr h
  clear hAe hD0
  have hS : va_S A s.heap s.heap [] := va_S.rf
  have hx := B.exec
  have hb := B.bytes
  have hr := B.returns
  have hts := atoms_spec (ws := .code y_X_multiply b_X_multiply 4 none :: tb) B.pre
  have hk : ∀ w ∈ tb, w.before [.ref p0].toArray s = true := fun w h => hts w (List.mem_cons_of_mem _ h)
  have hown : s.vm.findClass "SignMachineModel" = some m.cls := findClass_of_methodNamed B.named
  have hlocks := B.notSynchronized
  have hl := lv_entry ([.ref p0]) (n := 4) (Nat.le_of_ble_eq_true rfl)
  rw [lg_entry_eq]
  generalize (lg_sl ([.ref p0]) ++ List.replicate (4 - (lg_sl ([.ref p0])).length) Slot.unset).toArray = ls at hl ⊢
  have hl : lv_has ls 4 [(0, .ref p0)] := hl
  clear hts B
  refine lv_aload_n hx hb d_X_multiply_0 rfl (lv_at hl 0 rfl) ?_
  refine va_get (D := D) (ci := 7) (v := .ref p4) (C := "SignMachineModel") (T := F_X) (N := 64) hx hb hk fi_X hown hK.1 hP 0 rfl rfl 3 (by decide) (hk _ k_1124) (fun _ h9 => h9) rfl d_X_multiply_1 ?_
  refine lv_iconst (v := 0) hx hb d_X_multiply_4 (by decide) ?_
  refine va_iald hx hb hK.1 hP 4 0 rfl rfl (by unfold vp_in; decide) d_X_multiply_5 ?_
  refine lv_topi (fun v1 hv1 => ?_)
  have Rv1 := Ay4 ((0 : Int32)).toNatClampNeg
  rw [← hv1] at Rv1
  obtain ⟨Rv1, Xv1⟩ := Rv1
  have : ((((0 : Int32)).toNatClampNeg : Nat) : Int) = 0 := by decide
  refine lv_i2l (v := (v1 : Int32).toInt64) hx hb d_X_multiply_6 rfl ?_
  refine lv_topl (fun v2 hv2 => ?_)
  obtain ⟨ev2, Rv2⟩ : v2.toInt = v1.toInt ∧ (0 ≤ v2.toInt ∧ v2.toInt ≤ 1073741823) := il3 hv2 Rv1
  refine lv_aload_n hx hb d_X_multiply_7 rfl (lv_at hl 0 rfl) ?_
  refine va_get (D := D) (ci := 7) (v := .int x0_18) (C := "SignMachineModel") (T := F_X) (N := 64) hx hb hk fi_X hown hK.1 hP 0 rfl rfl 18 (by decide) (hk _ k_1139) (fun _ h9 => h9) rfl d_X_multiply_8 ?_
  refine lv_i2l (v := (x0_18 : Int32).toInt64) hx hb d_X_multiply_11 rfl ?_
  refine lv_topl (fun v3 hv3 => ?_)
  obtain ⟨ev3, Rv3⟩ : v3.toInt = x0_18.toInt ∧ (0 ≤ v3.toInt ∧ v3.toInt ≤ 1073741823) := il3 hv3 Rx0_18
  refine lv_lmul hx hb d_X_multiply_12 ?_
  refine lv_topl (fun v4 hv4 => ?_)
  obtain ⟨ev4, Rv4⟩ : v4.toInt = v2.toInt * v3.toInt ∧ (0 ≤ v4.toInt ∧ v4.toInt ≤ 1152921502459363329) := ml6 hv4 Rv2 Rv3 (by decide) (by decide) (by decide) (by decide) (by decide) (by decide)
  refine lv_lstore_n (lv' := [(1, .long v4), (0, .ref p0)]) hx hb d_X_multiply_13 rfl hl (by decide) rfl (fun ls hl => ?_)
  refine lv_aload_n hx hb d_X_multiply_14 rfl (lv_at hl 1 rfl) ?_
  refine va_get (D := D) (ci := 7) (v := .ref p3) (C := "SignMachineModel") (T := F_X) (N := 64) hx hb hk fi_X hown hK.1 hP 0 rfl rfl 2 (by decide) (hk _ k_1123) (fun _ h9 => h9) rfl d_X_multiply_15 ?_
  refine lv_iconst (v := 0) hx hb d_X_multiply_18 (by decide) ?_
  refine va_iald hx hb hK.1 hP 3 0 rfl rfl (by unfold vp_in; decide) d_X_multiply_19 ?_
  refine lv_topi (fun v5 hv5 => ?_)
  have Rv5 := Ay3 ((0 : Int32)).toNatClampNeg
  rw [← hv5] at Rv5
  refine lv_aload_n hx hb d_X_multiply_20 rfl (lv_at hl 1 rfl) ?_
  refine va_get (D := D) (ci := 7) (v := .int x0_17) (C := "SignMachineModel") (T := F_X) (N := 64) hx hb hk fi_X hown hK.1 hP 0 rfl rfl 17 (by decide) (hk _ k_1138) (fun _ h9 => h9) rfl d_X_multiply_21 ?_
  refine lv_ixor hx hb d_X_multiply_24 ?_
  refine lv_topi (fun v6 hv6 => ?_)
  have Rv6 : 0 ≤ v6.toInt ∧ v6.toInt ≤ 1 := xr3 hv6 Rv5 Rx0_17
  refine lv_istore_n (lv' := [(3, .int v6), (1, .long v4), (0, .ref p0)]) hx hb d_X_multiply_25 rfl hl (by decide) rfl (fun ls hl => ?_)
  refine lv_aload_n hx hb d_X_multiply_26 rfl (lv_at hl 2 rfl) ?_
  refine va_get (D := D) (ci := 7) (v := .ref p4) (C := "SignMachineModel") (T := F_X) (N := 64) hx hb hk fi_X hown hK.1 hP 0 rfl rfl 3 (by decide) (hk _ k_1124) (fun _ h9 => h9) rfl d_X_multiply_27 ?_
  refine lv_iconst (v := 0) hx hb d_X_multiply_30 (by decide) ?_
  refine lv_lload_n hx hb d_X_multiply_31 rfl (lv_at hl 1 rfl) ?_
  refine lv_ldc2 (v := 1073741824) hx hb hown (hk _ k_1461) d_X_multiply_32 ?_
  refine lv_ldiv hx hb d_X_multiply_35 (by decide) ?_
  refine lv_topl (fun v7 hv7 => ?_)
  obtain ⟨ev7, Rv7⟩ : v7.toInt = v4.toInt / (1073741824 : Int) ∧ (0 ≤ v7.toInt ∧ v7.toInt ≤ 1073741822) := dv6 hv7 Rv4 (show 1073741824 ≤ (1073741824 : Int64).toInt ∧ (1073741824 : Int64).toInt ≤ 1073741824 from by decide) (by decide) (by decide) (by decide)
  refine lv_l2i (v := (v7 : Int64).toInt32) hx hb d_X_multiply_36 rfl ?_
  refine lv_topi (fun v8 hv8 => ?_)
  obtain ⟨ev8, Rv8⟩ : v8.toInt = v7.toInt ∧ (0 ≤ v8.toInt ∧ v8.toInt ≤ 1073741822) := li3 hv8 Rv7 (by decide) (by decide)
  refine va_iast hx hb hK.1 hP hD hS 4 0 rfl rfl (by unfold vp_in; decide) d_X_multiply_37 (fun H locs hP hD hS => ?_)
  have hP : va_P D classes (wS50 cI cJ cZ cB p0 p1 p2 p3 p4 p5 p6 p7 p8 p9 p10 p11 p12 p13 p14 p15 p16 p17 p18 p19 p20 p21 p22 p23 p24 p25 x0_4 x0_5 x0_6 x0_7 x0_8 x0_12 x0_13 x0_14 x0_15 x0_16 x0_17 x0_18 x0_22 x0_23 x0_24 x0_25 x0_26 x0_27 x0_28 x0_29 x0_30 x0_31 x0_32 x0_36 x0_39 x0_40 x0_44 x0_49 x0_51 x0_53 x0_54 x0_55 x0_56 x0_57 x0_58 x0_59 x0_60 x0_61 x0_62 y1 y2 y3 (upd y4 ((0 : Int32)).toNatClampNeg v8) y5 y6 y7 y8 y9 y10 y11 y12 y13 y14 y15 y16 y17 y18 y19 y20 y21 y22 y23 y24 y25) H := hP
  have hD : va_D A (wS50 cI cJ cZ cB p0 p1 p2 p3 p4 p5 p6 p7 p8 p9 p10 p11 p12 p13 p14 p15 p16 p17 p18 p19 p20 p21 p22 p23 p24 p25 x0_4 x0_5 x0_6 x0_7 x0_8 x0_12 x0_13 x0_14 x0_15 x0_16 x0_17 x0_18 x0_22 x0_23 x0_24 x0_25 x0_26 x0_27 x0_28 x0_29 x0_30 x0_31 x0_32 x0_36 x0_39 x0_40 x0_44 x0_49 x0_51 x0_53 x0_54 x0_55 x0_56 x0_57 x0_58 x0_59 x0_60 x0_61 x0_62 y1 y2 y3 (upd y4 ((0 : Int32)).toNatClampNeg v8) y5 y6 y7 y8 y9 y10 y11 y12 y13 y14 y15 y16 y17 y18 y19 y20 y21 y22 y23 y24 y25) := hD
  obtain ⟨v9, hv9⟩ : ∃ y : Nat → Int32, y = (upd y4 ((0 : Int32)).toNatClampNeg v8) := ⟨_, rfl⟩
  rw [← hv9] at hP hD
  have : ((((0 : Int32)).toNatClampNeg : Nat) : Int) = 0 := by decide
  have Gv9 : ((0 ≤ (v8).toInt ∧ (v8).toInt ≤ 1073741823) ∧ ((1 ≤ ((((0 : Int32)).toNatClampNeg : Nat) : Int) ∧ ((((0 : Int32)).toNatClampNeg : Nat) : Int) ≤ 6) → (v8).toInt ≤ 4095)) := ⟨(rgw Rv8 (by decide) (by decide)), fun h => absurd h (by decide)⟩
  have Av9 : ∀ i : Nat, ((0 ≤ (v9 i).toInt ∧ (v9 i).toInt ≤ 1073741823) ∧ ((1 ≤ (i : Int) ∧ (i : Int) ≤ 6) → (v9 i).toInt ≤ 4095)) := by rw [hv9]; exact upd_all (P := fun i x => ((0 ≤ (x).toInt ∧ (x).toInt ≤ 1073741823) ∧ ((1 ≤ (i : Int) ∧ (i : Int) ≤ 6) → (x).toInt ≤ 4095))) Ay4 Gv9
  clear hv9
  refine lv_aload_n hx hb d_X_multiply_38 rfl (lv_at hl 2 rfl) ?_
  refine va_get (D := D) (ci := 7) (v := .ref p4) (C := "SignMachineModel") (T := F_X) (N := 64) hx hb hk fi_X hown hK.1 hP 0 rfl rfl 3 (by decide) (hk _ k_1124) (fun _ h9 => h9) rfl d_X_multiply_39 ?_
  refine lv_bipush (v := 7) hx hb d_X_multiply_42 (by decide) ?_
  refine lv_lload_n hx hb d_X_multiply_44 rfl (lv_at hl 1 rfl) ?_
  refine lv_ldc2 (v := 1073741824) hx hb hown (hk _ k_1461) d_X_multiply_45 ?_
  refine lv_lrem hx hb d_X_multiply_48 (by decide) ?_
  refine lv_topl (fun v10 hv10 => ?_)
  obtain ⟨ev10, lv10, Rv10⟩ : v10.toInt = v4.toInt % (1073741824 : Int) ∧ v10.toInt < (1073741824 : Int) ∧ (0 ≤ v10.toInt ∧ v10.toInt ≤ 1073741823) := rm6 hv10 Rv4 (show 1073741824 ≤ (1073741824 : Int64).toInt ∧ (1073741824 : Int64).toInt ≤ 1073741824 from by decide) (by decide) (by decide) (by decide)
  refine lv_l2i (v := (v10 : Int64).toInt32) hx hb d_X_multiply_49 rfl ?_
  refine lv_topi (fun v11 hv11 => ?_)
  obtain ⟨ev11, Rv11⟩ : v11.toInt = v10.toInt ∧ (0 ≤ v11.toInt ∧ v11.toInt ≤ 1073741823) := li3 hv11 Rv10 (by decide) (by decide)
  refine va_iast hx hb hK.1 hP hD hS 4 0 rfl rfl (by unfold vp_in; decide) d_X_multiply_50 (fun H locs hP hD hS => ?_)
  have hP : va_P D classes (wS50 cI cJ cZ cB p0 p1 p2 p3 p4 p5 p6 p7 p8 p9 p10 p11 p12 p13 p14 p15 p16 p17 p18 p19 p20 p21 p22 p23 p24 p25 x0_4 x0_5 x0_6 x0_7 x0_8 x0_12 x0_13 x0_14 x0_15 x0_16 x0_17 x0_18 x0_22 x0_23 x0_24 x0_25 x0_26 x0_27 x0_28 x0_29 x0_30 x0_31 x0_32 x0_36 x0_39 x0_40 x0_44 x0_49 x0_51 x0_53 x0_54 x0_55 x0_56 x0_57 x0_58 x0_59 x0_60 x0_61 x0_62 y1 y2 y3 (upd v9 ((7 : Int32)).toNatClampNeg v11) y5 y6 y7 y8 y9 y10 y11 y12 y13 y14 y15 y16 y17 y18 y19 y20 y21 y22 y23 y24 y25) H := hP
  have hD : va_D A (wS50 cI cJ cZ cB p0 p1 p2 p3 p4 p5 p6 p7 p8 p9 p10 p11 p12 p13 p14 p15 p16 p17 p18 p19 p20 p21 p22 p23 p24 p25 x0_4 x0_5 x0_6 x0_7 x0_8 x0_12 x0_13 x0_14 x0_15 x0_16 x0_17 x0_18 x0_22 x0_23 x0_24 x0_25 x0_26 x0_27 x0_28 x0_29 x0_30 x0_31 x0_32 x0_36 x0_39 x0_40 x0_44 x0_49 x0_51 x0_53 x0_54 x0_55 x0_56 x0_57 x0_58 x0_59 x0_60 x0_61 x0_62 y1 y2 y3 (upd v9 ((7 : Int32)).toNatClampNeg v11) y5 y6 y7 y8 y9 y10 y11 y12 y13 y14 y15 y16 y17 y18 y19 y20 y21 y22 y23 y24 y25) := hD
  obtain ⟨v12, hv12⟩ : ∃ y : Nat → Int32, y = (upd v9 ((7 : Int32)).toNatClampNeg v11) := ⟨_, rfl⟩
  rw [← hv12] at hP hD
  have : ((((7 : Int32)).toNatClampNeg : Nat) : Int) = 7 := by decide
  have Gv12 : ((0 ≤ (v11).toInt ∧ (v11).toInt ≤ 1073741823) ∧ ((1 ≤ ((((7 : Int32)).toNatClampNeg : Nat) : Int) ∧ ((((7 : Int32)).toNatClampNeg : Nat) : Int) ≤ 6) → (v11).toInt ≤ 4095)) := ⟨Rv11, fun h => absurd h (by decide)⟩
  have Av12 : ∀ i : Nat, ((0 ≤ (v12 i).toInt ∧ (v12 i).toInt ≤ 1073741823) ∧ ((1 ≤ (i : Int) ∧ (i : Int) ≤ 6) → (v12 i).toInt ≤ 4095)) := by rw [hv12]; exact upd_all (P := fun i x => ((0 ≤ (x).toInt ∧ (x).toInt ≤ 1073741823) ∧ ((1 ≤ (i : Int) ∧ (i : Int) ≤ 6) → (x).toInt ≤ 4095))) Av9 Gv12
  clear hv12
  refine lv_aload_n hx hb d_X_multiply_51 rfl (lv_at hl 2 rfl) ?_
  refine va_get (D := D) (ci := 7) (v := .ref p3) (C := "SignMachineModel") (T := F_X) (N := 64) hx hb hk fi_X hown hK.1 hP 0 rfl rfl 2 (by decide) (hk _ k_1123) (fun _ h9 => h9) rfl d_X_multiply_52 ?_
  refine lv_iconst (v := 0) hx hb d_X_multiply_55 (by decide) ?_
  refine lv_iload_n hx hb d_X_multiply_56 rfl (lv_at hl 0 rfl) ?_
  refine va_iast hx hb hK.1 hP hD hS 3 0 rfl rfl (by unfold vp_in; decide) d_X_multiply_57 (fun H locs hP hD hS => ?_)
  have hP : va_P D classes (wS50 cI cJ cZ cB p0 p1 p2 p3 p4 p5 p6 p7 p8 p9 p10 p11 p12 p13 p14 p15 p16 p17 p18 p19 p20 p21 p22 p23 p24 p25 x0_4 x0_5 x0_6 x0_7 x0_8 x0_12 x0_13 x0_14 x0_15 x0_16 x0_17 x0_18 x0_22 x0_23 x0_24 x0_25 x0_26 x0_27 x0_28 x0_29 x0_30 x0_31 x0_32 x0_36 x0_39 x0_40 x0_44 x0_49 x0_51 x0_53 x0_54 x0_55 x0_56 x0_57 x0_58 x0_59 x0_60 x0_61 x0_62 y1 y2 (upd y3 ((0 : Int32)).toNatClampNeg v6) v12 y5 y6 y7 y8 y9 y10 y11 y12 y13 y14 y15 y16 y17 y18 y19 y20 y21 y22 y23 y24 y25) H := hP
  have hD : va_D A (wS50 cI cJ cZ cB p0 p1 p2 p3 p4 p5 p6 p7 p8 p9 p10 p11 p12 p13 p14 p15 p16 p17 p18 p19 p20 p21 p22 p23 p24 p25 x0_4 x0_5 x0_6 x0_7 x0_8 x0_12 x0_13 x0_14 x0_15 x0_16 x0_17 x0_18 x0_22 x0_23 x0_24 x0_25 x0_26 x0_27 x0_28 x0_29 x0_30 x0_31 x0_32 x0_36 x0_39 x0_40 x0_44 x0_49 x0_51 x0_53 x0_54 x0_55 x0_56 x0_57 x0_58 x0_59 x0_60 x0_61 x0_62 y1 y2 (upd y3 ((0 : Int32)).toNatClampNeg v6) v12 y5 y6 y7 y8 y9 y10 y11 y12 y13 y14 y15 y16 y17 y18 y19 y20 y21 y22 y23 y24 y25) := hD
  obtain ⟨v13, hv13⟩ : ∃ y : Nat → Int32, y = (upd y3 ((0 : Int32)).toNatClampNeg v6) := ⟨_, rfl⟩
  rw [← hv13] at hP hD
  have Gv13 : (0 ≤ (v6).toInt ∧ (v6).toInt ≤ 1) := Rv6
  have Av13 : ∀ i : Nat, (0 ≤ (v13 i).toInt ∧ (v13 i).toInt ≤ 1) := by rw [hv13]; exact upd_all (P := fun i x => (0 ≤ (x).toInt ∧ (x).toInt ≤ 1)) Ay3 Gv13
  clear hv13
  refine lv_aload_n hx hb d_X_multiply_58 rfl (lv_at hl 2 rfl) ?_
  refine va_get (D := D) (ci := 7) (v := .ref p3) (C := "SignMachineModel") (T := F_X) (N := 64) hx hb hk fi_X hown hK.1 hP 0 rfl rfl 2 (by decide) (hk _ k_1123) (fun _ h9 => h9) rfl d_X_multiply_59 ?_
  refine lv_bipush (v := 7) hx hb d_X_multiply_62 (by decide) ?_
  refine lv_iload_n hx hb d_X_multiply_64 rfl (lv_at hl 0 rfl) ?_
  refine va_iast hx hb hK.1 hP hD hS 3 0 rfl rfl (by unfold vp_in; decide) d_X_multiply_65 (fun H locs hP hD hS => ?_)
  have hP : va_P D classes (wS50 cI cJ cZ cB p0 p1 p2 p3 p4 p5 p6 p7 p8 p9 p10 p11 p12 p13 p14 p15 p16 p17 p18 p19 p20 p21 p22 p23 p24 p25 x0_4 x0_5 x0_6 x0_7 x0_8 x0_12 x0_13 x0_14 x0_15 x0_16 x0_17 x0_18 x0_22 x0_23 x0_24 x0_25 x0_26 x0_27 x0_28 x0_29 x0_30 x0_31 x0_32 x0_36 x0_39 x0_40 x0_44 x0_49 x0_51 x0_53 x0_54 x0_55 x0_56 x0_57 x0_58 x0_59 x0_60 x0_61 x0_62 y1 y2 (upd v13 ((7 : Int32)).toNatClampNeg v6) v12 y5 y6 y7 y8 y9 y10 y11 y12 y13 y14 y15 y16 y17 y18 y19 y20 y21 y22 y23 y24 y25) H := hP
  have hD : va_D A (wS50 cI cJ cZ cB p0 p1 p2 p3 p4 p5 p6 p7 p8 p9 p10 p11 p12 p13 p14 p15 p16 p17 p18 p19 p20 p21 p22 p23 p24 p25 x0_4 x0_5 x0_6 x0_7 x0_8 x0_12 x0_13 x0_14 x0_15 x0_16 x0_17 x0_18 x0_22 x0_23 x0_24 x0_25 x0_26 x0_27 x0_28 x0_29 x0_30 x0_31 x0_32 x0_36 x0_39 x0_40 x0_44 x0_49 x0_51 x0_53 x0_54 x0_55 x0_56 x0_57 x0_58 x0_59 x0_60 x0_61 x0_62 y1 y2 (upd v13 ((7 : Int32)).toNatClampNeg v6) v12 y5 y6 y7 y8 y9 y10 y11 y12 y13 y14 y15 y16 y17 y18 y19 y20 y21 y22 y23 y24 y25) := hD
  obtain ⟨v14, hv14⟩ : ∃ y : Nat → Int32, y = (upd v13 ((7 : Int32)).toNatClampNeg v6) := ⟨_, rfl⟩
  rw [← hv14] at hP hD
  have Gv14 : (0 ≤ (v6).toInt ∧ (v6).toInt ≤ 1) := Rv6
  have Av14 : ∀ i : Nat, (0 ≤ (v14 i).toInt ∧ (v14 i).toInt ≤ 1) := by rw [hv14]; exact upd_all (P := fun i x => (0 ≤ (x).toInt ∧ (x).toInt ≤ 1)) Av13 Gv14
  clear hv14
  exact W.vret hx hb hr (fun t ht hW => ⟨⟨(), rfl, trivial, ⟨v14, v12, Av14, Av12, by show va_P D classes _ t.heap; rw [ht]; exact hP, hD⟩⟩, hS.F ht⟩) hS.2.2 d_X_multiply_66
theorem v_X_multiply {R : Room} {s : State} {args : Array Value} {own : String} {index : Nat} (hk : ∀ w ∈ tb, w.before args s = true) (hl : Cond.methodLink own index y_X_multiply ∈ tb) (hR : 0 + 1 ≤ R.frames ∧ 8 + (4 + 11) + 0 ≤ R.locals) : CallW R s args own "SignMachineModel" index y_X_multiply b_X_multiply 4 none (.code y_X_multiply b_X_multiply 4 none :: tb) ({ frames := 0, cells := 0, slots := 0, locals := 0 }) 0 0 0 := mk_v 0 hk k_1481 hl k_1480 k_81 k_119 rfl rfl h_X_multiply hR
set_option maxHeartbeats 8000000 in
set_option maxRecDepth 100000 in
theorem c_X_divide (l : Launch) (D : va_G) (cI cJ cZ cB : ClassId) (p0 p1 p2 p3 p4 p5 p6 p7 p8 p9 p10 p11 p12 p13 p14 p15 p16 p17 p18 p19 p20 p21 p22 p23 p24 p25 : Nat) (sz : Nat) (x0_4 : Int32) (x0_5 : Int32) (x0_6 : Int32) (x0_7 : Int32) (x0_8 : Int32) (x0_12 : Int32) (x0_13 : Int32) (x0_14 : Int32) (x0_15 : Int32) (x0_16 : Int32) (x0_17 : Int32) (x0_18 : Int32) (x0_22 : Int32) (x0_23 : Int32) (x0_24 : Int32) (x0_25 : Int32) (x0_26 : Int32) (x0_27 : Int32) (x0_28 : Int32) (x0_29 : Int32) (x0_30 : Int32) (x0_31 : Int32) (x0_32 : Int32) (x0_36 : Int32) (x0_39 : Int32) (x0_40 : Int64) (x0_44 : Int32) (x0_49 : Int32) (x0_51 : Int32) (x0_53 : Int32) (x0_54 : Int32) (x0_55 : Int64) (x0_56 : Int32) (x0_57 : Int32) (x0_58 : Int32) (x0_59 : Int32) (x0_60 : Int32) (x0_61 : Int32) (x0_62 : Int64) (y1 : Nat → Int32) (y2 : Nat → Int32) (y3 : Nat → Int32) (y4 : Nat → Int32) (y5 : Nat → Int32) (y6 : Nat → Int32) (y7 : Nat → Int32) (y8 : Nat → Int32) (y9 : Nat → Int32) (y10 : Nat → Int32) (y11 : Nat → Int64) (y12 : Nat → Int32) (y13 : Nat → Int64) (y14 : Nat → Int32) (y15 : Nat → Int64) (y16 : Nat → Int32) (y17 : Nat → Int32) (y18 : Nat → Int32) (y19 : Nat → Int32) (y20 : Nat → Int32) (y21 : Nat → Int32) (y22 : Nat → Int32) (y23 : Nat → Int32) (y24 : Nat → Int64) (y25 : Nat → Int64)  (Rx0_17 : 0 ≤ x0_17.toInt ∧ x0_17.toInt ≤ 1) (Rx0_18 : 0 ≤ x0_18.toInt ∧ x0_18.toInt ≤ 1073741823) (Ay3 : ∀ i : Nat, (0 ≤ (y3 i).toInt ∧ (y3 i).toInt ≤ 1)) (Ay4 : ∀ i : Nat, ((0 ≤ (y4 i).toInt ∧ (y4 i).toInt ≤ 1073741823) ∧ ((1 ≤ (i : Int) ∧ (i : Int) ≤ 6) → (y4 i).toInt ≤ 4095))) : Met l y_X_divide (.code y_X_divide b_X_divide 4 none :: tb) ({ frames := 0, cells := 0, slots := 0, locals := 0 }) (pM D cI cJ cZ cB (wS50 cI cJ cZ cB p0 p1 p2 p3 p4 p5 p6 p7 p8 p9 p10 p11 p12 p13 p14 p15 p16 p17 p18 p19 p20 p21 p22 p23 p24 p25 x0_4 x0_5 x0_6 x0_7 x0_8 x0_12 x0_13 x0_14 x0_15 x0_16 x0_17 x0_18 x0_22 x0_23 x0_24 x0_25 x0_26 x0_27 x0_28 x0_29 x0_30 x0_31 x0_32 x0_36 x0_39 x0_40 x0_44 x0_49 x0_51 x0_53 x0_54 x0_55 x0_56 x0_57 x0_58 x0_59 x0_60 x0_61 x0_62 y1 y2 y3 y4 y5 y6 y7 y8 y9 y10 y11 y12 y13 y14 y15 y16 y17 y18 y19 y20 y21 y22 y23 y24 y25) sz [.ref p0]) (va_Qv (fun (_ : Unit) => True) (fun _ t => ∃ u_x0_5 : Int32, ∃ u_y3 : Nat → Int32, ∃ u_y4 : Nat → Int32, (∀ i : Nat, (0 ≤ (u_y3 i).toInt ∧ (u_y3 i).toInt ≤ 1)) ∧ (∀ i : Nat, ((0 ≤ (u_y4 i).toInt ∧ (u_y4 i).toInt ≤ 1073741823) ∧ ((1 ≤ (i : Int) ∧ (i : Int) ≤ 6) → (u_y4 i).toInt ≤ 4095))) ∧ va_P D classes (wS50 cI cJ cZ cB p0 p1 p2 p3 p4 p5 p6 p7 p8 p9 p10 p11 p12 p13 p14 p15 p16 p17 p18 p19 p20 p21 p22 p23 p24 p25 x0_4 u_x0_5 x0_6 x0_7 x0_8 x0_12 x0_13 x0_14 x0_15 x0_16 x0_17 x0_18 x0_22 x0_23 x0_24 x0_25 x0_26 x0_27 x0_28 x0_29 x0_30 x0_31 x0_32 x0_36 x0_39 x0_40 x0_44 x0_49 x0_51 x0_53 x0_54 x0_55 x0_56 x0_57 x0_58 x0_59 x0_60 x0_61 x0_62 y1 y2 u_y3 u_y4 y5 y6 y7 y8 y9 y10 y11 y12 y13 y14 y15 y16 y17 y18 y19 y20 y21 y22 y23 y24 y25) t.heap ∧ va_D (va_A (wS50 cI cJ cZ cB p0 p1 p2 p3 p4 p5 p6 p7 p8 p9 p10 p11 p12 p13 p14 p15 p16 p17 p18 p19 p20 p21 p22 p23 p24 p25 x0_4 x0_5 x0_6 x0_7 x0_8 x0_12 x0_13 x0_14 x0_15 x0_16 x0_17 x0_18 x0_22 x0_23 x0_24 x0_25 x0_26 x0_27 x0_28 x0_29 x0_30 x0_31 x0_32 x0_36 x0_39 x0_40 x0_44 x0_49 x0_51 x0_53 x0_54 x0_55 x0_56 x0_57 x0_58 x0_59 x0_60 x0_61 x0_62 y1 y2 y3 y4 y5 y6 y7 y8 y9 y10 y11 y12 y13 y14 y15 y16 y17 y18 y19 y20 y21 y22 y23 y24 y25) sz) (wS50 cI cJ cZ cB p0 p1 p2 p3 p4 p5 p6 p7 p8 p9 p10 p11 p12 p13 p14 p15 p16 p17 p18 p19 p20 p21 p22 p23 p24 p25 x0_4 u_x0_5 x0_6 x0_7 x0_8 x0_12 x0_13 x0_14 x0_15 x0_16 x0_17 x0_18 x0_22 x0_23 x0_24 x0_25 x0_26 x0_27 x0_28 x0_29 x0_30 x0_31 x0_32 x0_36 x0_39 x0_40 x0_44 x0_49 x0_51 x0_53 x0_54 x0_55 x0_56 x0_57 x0_58 x0_59 x0_60 x0_61 x0_62 y1 y2 u_y3 u_y4 y5 y6 y7 y8 y9 y10 y11 y12 y13 y14 y15 y16 y17 y18 y19 y20 y21 y22 y23 y24 y25)) (va_A (wS50 cI cJ cZ cB p0 p1 p2 p3 p4 p5 p6 p7 p8 p9 p10 p11 p12 p13 p14 p15 p16 p17 p18 p19 p20 p21 p22 p23 p24 p25 x0_4 x0_5 x0_6 x0_7 x0_8 x0_12 x0_13 x0_14 x0_15 x0_16 x0_17 x0_18 x0_22 x0_23 x0_24 x0_25 x0_26 x0_27 x0_28 x0_29 x0_30 x0_31 x0_32 x0_36 x0_39 x0_40 x0_44 x0_49 x0_51 x0_53 x0_54 x0_55 x0_56 x0_57 x0_58 x0_59 x0_60 x0_61 x0_62 y1 y2 y3 y4 y5 y6 y7 y8 y9 y10 y11 y12 y13 y14 y15 y16 y17 y18 y19 y20 y21 y22 y23 y24 y25) sz)) 0 0 (va_A (wS50 cI cJ cZ cB p0 p1 p2 p3 p4 p5 p6 p7 p8 p9 p10 p11 p12 p13 p14 p15 p16 p17 p18 p19 p20 p21 p22 p23 p24 p25 x0_4 x0_5 x0_6 x0_7 x0_8 x0_12 x0_13 x0_14 x0_15 x0_16 x0_17 x0_18 x0_22 x0_23 x0_24 x0_25 x0_26 x0_27 x0_28 x0_29 x0_30 x0_31 x0_32 x0_36 x0_39 x0_40 x0_44 x0_49 x0_51 x0_53 x0_54 x0_55 x0_56 x0_57 x0_58 x0_59 x0_60 x0_61 x0_62 y1 y2 y3 y4 y5 y6 y7 y8 y9 y10 y11 y12 y13 y14 y15 y16 y17 y18 y19 y20 y21 y22 y23 y24 y25) sz) := by
  refine Met.ofW (cc := b_X_divide) (maxL := 4) (ret := none) (by decide) rfl ?_
  intro p e s m args below meth c s₁ B hml hv
  obtain ⟨rfl, hsz, hK, hP, hD0⟩ := hv
  subst hsz
  have hD := hD0.self (sz := s.heap.size)
  generalize hAe : va_A (wS50 cI cJ cZ cB p0 p1 p2 p3 p4 p5 p6 p7 p8 p9 p10 p11 p12 p13 p14 p15 p16 p17 p18 p19 p20 p21 p22 p23 p24 p25 x0_4 x0_5 x0_6 x0_7 x0_8 x0_12 x0_13 x0_14 x0_15 x0_16 x0_17 x0_18 x0_22 x0_23 x0_24 x0_25 x0_26 x0_27 x0_28 x0_29 x0_30 x0_31 x0_32 x0_36 x0_39 x0_40 x0_44 x0_49 x0_51 x0_53 x0_54 x0_55 x0_56 x0_57 x0_58 x0_59 x0_60 x0_61 x0_62 y1 y2 y3 y4 y5 y6 y7 y8 y9 y10 y11 y12 y13 y14 y15 y16 y17 y18 y19 y20 y21 y22 y23 y24 y25) s.heap.size = A at hD ⊢
  have hA : ∀ q : Nat, s.heap.size ≤ q → A q := fun q h => by rw [← hAe]; exact Or.inr h
  clear hAe hD0
  have hS : va_S A s.heap s.heap [] := va_S.rf
  have hx := B.exec
  have hb := B.bytes
  have hr := B.returns
  have hts := atoms_spec (ws := .code y_X_divide b_X_divide 4 none :: tb) B.pre
  have hk : ∀ w ∈ tb, w.before [.ref p0].toArray s = true := fun w h => hts w (List.mem_cons_of_mem _ h)
  have hown : s.vm.findClass "SignMachineModel" = some m.cls := findClass_of_methodNamed B.named
  have hlocks := B.notSynchronized
  have hl := lv_entry ([.ref p0]) (n := 4) (Nat.le_of_ble_eq_true rfl)
  rw [lg_entry_eq]
  generalize (lg_sl ([.ref p0]) ++ List.replicate (4 - (lg_sl ([.ref p0])).length) Slot.unset).toArray = ls at hl ⊢
  have hl : lv_has ls 4 [(0, .ref p0)] := hl
  clear hts B
  refine lv_aload_n hx hb d_X_divide_0 rfl (lv_at hl 0 rfl) ?_
  refine va_get (D := D) (ci := 7) (v := .ref p4) (C := "SignMachineModel") (T := F_X) (N := 64) hx hb hk fi_X hown hK.1 hP 0 rfl rfl 3 (by decide) (hk _ k_1124) (fun _ h9 => h9) rfl d_X_divide_1 ?_
  refine lv_iconst (v := 0) hx hb d_X_divide_4 (by decide) ?_
  refine va_iald hx hb hK.1 hP 4 0 rfl rfl (by unfold vp_in; decide) d_X_divide_5 ?_
  refine lv_topi (fun v1 hv1 => ?_)
  have Tv1 : v1.toInt = (y4 ((0 : Int32)).toNatClampNeg).toInt := congrArg _ hv1
  have Rv1 := Ay4 ((0 : Int32)).toNatClampNeg
  rw [← hv1] at Rv1
  obtain ⟨Rv1, Xv1⟩ := Rv1
  have : ((((0 : Int32)).toNatClampNeg : Nat) : Int) = 0 := by decide
  refine lv_aload_n hx hb d_X_divide_6 rfl (lv_at hl 0 rfl) ?_
  refine va_get (D := D) (ci := 7) (v := .int x0_18) (C := "SignMachineModel") (T := F_X) (N := 64) hx hb hk fi_X hown hK.1 hP 0 rfl rfl 18 (by decide) (hk _ k_1139) (fun _ h9 => h9) rfl d_X_divide_7 ?_
  refine lv_icmp_lt (tgt := 19) hx hb d_X_divide_10 (by decide) (fun c2 => ?_) (fun c2 => ?_)
  · have gc2 : v1.toInt < x0_18.toInt := c_lt c2
    have R3 : 0 ≤ v1.toInt ∧ v1.toInt ≤ 1073741822 := rf_ltX Rv1 Rx0_18 gc2 (by decide) (by decide)
    have R4 : 1 ≤ x0_18.toInt ∧ x0_18.toInt ≤ 1073741823 := rf_ltY Rv1 Rx0_18 gc2 (by decide) (by decide)
    refine lv_aload_n hx hb d_X_divide_19 rfl (lv_at hl 0 rfl) ?_
    refine va_get (D := D) (ci := 7) (v := .ref p4) (C := "SignMachineModel") (T := F_X) (N := 64) hx hb hk fi_X hown hK.1 hP 0 rfl rfl 3 (by decide) (hk _ k_1124) (fun _ h9 => h9) rfl d_X_divide_20 ?_
    refine lv_iconst (v := 0) hx hb d_X_divide_23 (by decide) ?_
    refine va_iald hx hb hK.1 hP 4 0 rfl rfl (by unfold vp_in; decide) d_X_divide_24 ?_
    refine lv_topi (fun v5 hv5 => ?_)
    have Tv5 : v5.toInt = (y4 ((0 : Int32)).toNatClampNeg).toInt := congrArg _ hv5
    have Rv5 := Ay4 ((0 : Int32)).toNatClampNeg
    rw [← hv5] at Rv5
    obtain ⟨Rv5, Xv5⟩ := Rv5
    have : ((((0 : Int32)).toNatClampNeg : Nat) : Int) = 0 := by decide
    refine lv_i2l (v := (v5 : Int32).toInt64) hx hb d_X_divide_25 rfl ?_
    refine lv_topl (fun v6 hv6 => ?_)
    obtain ⟨ev6, Rv6⟩ : v6.toInt = v5.toInt ∧ (0 ≤ v6.toInt ∧ v6.toInt ≤ 1073741823) := il3 hv6 Rv5
    refine lv_ldc2 (v := 1073741824) hx hb hown (hk _ k_1461) d_X_divide_26 ?_
    refine lv_lmul hx hb d_X_divide_29 ?_
    refine lv_topl (fun v7 hv7 => ?_)
    obtain ⟨ev7, Rv7⟩ : v7.toInt = v6.toInt * (1073741824 : Int) ∧ (0 ≤ v7.toInt ∧ v7.toInt ≤ 1152921503533105152) := ml6 hv7 Rv6 (show 1073741824 ≤ (1073741824 : Int64).toInt ∧ (1073741824 : Int64).toInt ≤ 1073741824 from by decide) (by decide) (by decide) (by decide) (by decide) (by decide) (by decide)
    refine lv_aload_n hx hb d_X_divide_30 rfl (lv_at hl 0 rfl) ?_
    refine va_get (D := D) (ci := 7) (v := .ref p4) (C := "SignMachineModel") (T := F_X) (N := 64) hx hb hk fi_X hown hK.1 hP 0 rfl rfl 3 (by decide) (hk _ k_1124) (fun _ h9 => h9) rfl d_X_divide_31 ?_
    refine lv_bipush (v := 7) hx hb d_X_divide_34 (by decide) ?_
    refine va_iald hx hb hK.1 hP 4 0 rfl rfl (by unfold vp_in; decide) d_X_divide_36 ?_
    refine lv_topi (fun v8 hv8 => ?_)
    have Tv8 : v8.toInt = (y4 ((7 : Int32)).toNatClampNeg).toInt := congrArg _ hv8
    have Rv8 := Ay4 ((7 : Int32)).toNatClampNeg
    rw [← hv8] at Rv8
    obtain ⟨Rv8, Xv8⟩ := Rv8
    have : ((((7 : Int32)).toNatClampNeg : Nat) : Int) = 7 := by decide
    refine lv_i2l (v := (v8 : Int32).toInt64) hx hb d_X_divide_37 rfl ?_
    refine lv_topl (fun v9 hv9 => ?_)
    obtain ⟨ev9, Rv9⟩ : v9.toInt = v8.toInt ∧ (0 ≤ v9.toInt ∧ v9.toInt ≤ 1073741823) := il3 hv9 Rv8
    refine lv_ladd hx hb d_X_divide_38 ?_
    refine lv_topl (fun v10 hv10 => ?_)
    obtain ⟨ev10, Rv10⟩ : v10.toInt = v7.toInt + v9.toInt ∧ (0 ≤ v10.toInt ∧ v10.toInt ≤ 1152921504606846975) := ad6 hv10 Rv7 Rv9 (by decide) (by decide) (by decide) (by decide)
    refine lv_lstore_n (lv' := [(1, .long v10), (0, .ref p0)]) hx hb d_X_divide_39 rfl hl (by decide) rfl (fun ls hl => ?_)
    refine lv_aload_n hx hb d_X_divide_40 rfl (lv_at hl 1 rfl) ?_
    refine va_get (D := D) (ci := 7) (v := .ref p3) (C := "SignMachineModel") (T := F_X) (N := 64) hx hb hk fi_X hown hK.1 hP 0 rfl rfl 2 (by decide) (hk _ k_1123) (fun _ h9 => h9) rfl d_X_divide_41 ?_
    refine lv_iconst (v := 0) hx hb d_X_divide_44 (by decide) ?_
    refine va_iald hx hb hK.1 hP 3 0 rfl rfl (by unfold vp_in; decide) d_X_divide_45 ?_
    refine lv_topi (fun v11 hv11 => ?_)
    have Rv11 := Ay3 ((0 : Int32)).toNatClampNeg
    rw [← hv11] at Rv11
    refine lv_istore_n (lv' := [(3, .int v11), (1, .long v10), (0, .ref p0)]) hx hb d_X_divide_46 rfl hl (by decide) rfl (fun ls hl => ?_)
    refine lv_aload_n hx hb d_X_divide_47 rfl (lv_at hl 2 rfl) ?_
    refine va_get (D := D) (ci := 7) (v := .ref p4) (C := "SignMachineModel") (T := F_X) (N := 64) hx hb hk fi_X hown hK.1 hP 0 rfl rfl 3 (by decide) (hk _ k_1124) (fun _ h9 => h9) rfl d_X_divide_48 ?_
    refine lv_iconst (v := 0) hx hb d_X_divide_51 (by decide) ?_
    refine lv_lload_n hx hb d_X_divide_52 rfl (lv_at hl 1 rfl) ?_
    refine lv_aload_n hx hb d_X_divide_53 rfl (lv_at hl 2 rfl) ?_
    refine va_get (D := D) (ci := 7) (v := .int x0_18) (C := "SignMachineModel") (T := F_X) (N := 64) hx hb hk fi_X hown hK.1 hP 0 rfl rfl 18 (by decide) (hk _ k_1139) (fun _ h9 => h9) rfl d_X_divide_54 ?_
    refine lv_i2l (v := (x0_18 : Int32).toInt64) hx hb d_X_divide_57 rfl ?_
    refine lv_topl (fun v12 hv12 => ?_)
    obtain ⟨ev12, Rv12⟩ : v12.toInt = x0_18.toInt ∧ (1 ≤ v12.toInt ∧ v12.toInt ≤ 1073741823) := il3 hv12 R4
    refine lv_ldiv hx hb d_X_divide_58 (by first | exact nz3 (by omega) | exact nz6 (by omega)) ?_
    refine lv_topl (fun v13 hv13 => ?_)
    obtain ⟨ev13, Rv13⟩ : v13.toInt = v10.toInt / v12.toInt ∧ (0 ≤ v13.toInt ∧ v13.toInt ≤ 1152921504606846975) := dv6 hv13 Rv10 Rv12 (by decide) (by decide) (by decide)
    have R14 : 0 ≤ v13.toInt ∧ v13.toInt ≤ 1073741823 := dq ev13 (by omega) (by omega) (by omega)
    refine lv_l2i (v := (v13 : Int64).toInt32) hx hb d_X_divide_59 rfl ?_
    refine lv_topi (fun v15 hv15 => ?_)
    obtain ⟨ev15, Rv15⟩ : v15.toInt = v13.toInt ∧ (0 ≤ v15.toInt ∧ v15.toInt ≤ 1073741823) := li3 hv15 R14 (by decide) (by decide)
    refine va_iast hx hb hK.1 hP hD hS 4 0 rfl rfl (by unfold vp_in; decide) d_X_divide_60 (fun H locs hP hD hS => ?_)
    have hP : va_P D classes (wS50 cI cJ cZ cB p0 p1 p2 p3 p4 p5 p6 p7 p8 p9 p10 p11 p12 p13 p14 p15 p16 p17 p18 p19 p20 p21 p22 p23 p24 p25 x0_4 x0_5 x0_6 x0_7 x0_8 x0_12 x0_13 x0_14 x0_15 x0_16 x0_17 x0_18 x0_22 x0_23 x0_24 x0_25 x0_26 x0_27 x0_28 x0_29 x0_30 x0_31 x0_32 x0_36 x0_39 x0_40 x0_44 x0_49 x0_51 x0_53 x0_54 x0_55 x0_56 x0_57 x0_58 x0_59 x0_60 x0_61 x0_62 y1 y2 y3 (upd y4 ((0 : Int32)).toNatClampNeg v15) y5 y6 y7 y8 y9 y10 y11 y12 y13 y14 y15 y16 y17 y18 y19 y20 y21 y22 y23 y24 y25) H := hP
    have hD : va_D A (wS50 cI cJ cZ cB p0 p1 p2 p3 p4 p5 p6 p7 p8 p9 p10 p11 p12 p13 p14 p15 p16 p17 p18 p19 p20 p21 p22 p23 p24 p25 x0_4 x0_5 x0_6 x0_7 x0_8 x0_12 x0_13 x0_14 x0_15 x0_16 x0_17 x0_18 x0_22 x0_23 x0_24 x0_25 x0_26 x0_27 x0_28 x0_29 x0_30 x0_31 x0_32 x0_36 x0_39 x0_40 x0_44 x0_49 x0_51 x0_53 x0_54 x0_55 x0_56 x0_57 x0_58 x0_59 x0_60 x0_61 x0_62 y1 y2 y3 (upd y4 ((0 : Int32)).toNatClampNeg v15) y5 y6 y7 y8 y9 y10 y11 y12 y13 y14 y15 y16 y17 y18 y19 y20 y21 y22 y23 y24 y25) := hD
    obtain ⟨v16, hv16⟩ : ∃ y : Nat → Int32, y = (upd y4 ((0 : Int32)).toNatClampNeg v15) := ⟨_, rfl⟩
    rw [← hv16] at hP hD
    have : ((((0 : Int32)).toNatClampNeg : Nat) : Int) = 0 := by decide
    have Gv16 : ((0 ≤ (v15).toInt ∧ (v15).toInt ≤ 1073741823) ∧ ((1 ≤ ((((0 : Int32)).toNatClampNeg : Nat) : Int) ∧ ((((0 : Int32)).toNatClampNeg : Nat) : Int) ≤ 6) → (v15).toInt ≤ 4095)) := ⟨Rv15, fun h => absurd h (by decide)⟩
    have Av16 : ∀ i : Nat, ((0 ≤ (v16 i).toInt ∧ (v16 i).toInt ≤ 1073741823) ∧ ((1 ≤ (i : Int) ∧ (i : Int) ≤ 6) → (v16 i).toInt ≤ 4095)) := by rw [hv16]; exact upd_all (P := fun i x => ((0 ≤ (x).toInt ∧ (x).toInt ≤ 1073741823) ∧ ((1 ≤ (i : Int) ∧ (i : Int) ≤ 6) → (x).toInt ≤ 4095))) Ay4 Gv16
    clear hv16
    refine lv_aload_n hx hb d_X_divide_61 rfl (lv_at hl 2 rfl) ?_
    refine va_get (D := D) (ci := 7) (v := .ref p4) (C := "SignMachineModel") (T := F_X) (N := 64) hx hb hk fi_X hown hK.1 hP 0 rfl rfl 3 (by decide) (hk _ k_1124) (fun _ h9 => h9) rfl d_X_divide_62 ?_
    refine lv_bipush (v := 7) hx hb d_X_divide_65 (by decide) ?_
    refine lv_lload_n hx hb d_X_divide_67 rfl (lv_at hl 1 rfl) ?_
    refine lv_aload_n hx hb d_X_divide_68 rfl (lv_at hl 2 rfl) ?_
    refine va_get (D := D) (ci := 7) (v := .int x0_18) (C := "SignMachineModel") (T := F_X) (N := 64) hx hb hk fi_X hown hK.1 hP 0 rfl rfl 18 (by decide) (hk _ k_1139) (fun _ h9 => h9) rfl d_X_divide_69 ?_
    refine lv_i2l (v := (x0_18 : Int32).toInt64) hx hb d_X_divide_72 rfl ?_
    refine lv_topl (fun v17 hv17 => ?_)
    obtain ⟨ev17, Rv17⟩ : v17.toInt = x0_18.toInt ∧ (1 ≤ v17.toInt ∧ v17.toInt ≤ 1073741823) := il3 hv17 R4
    refine lv_lrem hx hb d_X_divide_73 (by first | exact nz3 (by omega) | exact nz6 (by omega)) ?_
    refine lv_topl (fun v18 hv18 => ?_)
    obtain ⟨ev18, lv18, Rv18⟩ : v18.toInt = v10.toInt % v17.toInt ∧ v18.toInt < v17.toInt ∧ (0 ≤ v18.toInt ∧ v18.toInt ≤ 1073741822) := rm6 hv18 Rv10 Rv17 (by decide) (by decide) (by decide)
    refine lv_l2i (v := (v18 : Int64).toInt32) hx hb d_X_divide_74 rfl ?_
    refine lv_topi (fun v19 hv19 => ?_)
    obtain ⟨ev19, Rv19⟩ : v19.toInt = v18.toInt ∧ (0 ≤ v19.toInt ∧ v19.toInt ≤ 1073741822) := li3 hv19 Rv18 (by decide) (by decide)
    refine va_iast hx hb hK.1 hP hD hS 4 0 rfl rfl (by unfold vp_in; decide) d_X_divide_75 (fun H locs hP hD hS => ?_)
    have hP : va_P D classes (wS50 cI cJ cZ cB p0 p1 p2 p3 p4 p5 p6 p7 p8 p9 p10 p11 p12 p13 p14 p15 p16 p17 p18 p19 p20 p21 p22 p23 p24 p25 x0_4 x0_5 x0_6 x0_7 x0_8 x0_12 x0_13 x0_14 x0_15 x0_16 x0_17 x0_18 x0_22 x0_23 x0_24 x0_25 x0_26 x0_27 x0_28 x0_29 x0_30 x0_31 x0_32 x0_36 x0_39 x0_40 x0_44 x0_49 x0_51 x0_53 x0_54 x0_55 x0_56 x0_57 x0_58 x0_59 x0_60 x0_61 x0_62 y1 y2 y3 (upd v16 ((7 : Int32)).toNatClampNeg v19) y5 y6 y7 y8 y9 y10 y11 y12 y13 y14 y15 y16 y17 y18 y19 y20 y21 y22 y23 y24 y25) H := hP
    have hD : va_D A (wS50 cI cJ cZ cB p0 p1 p2 p3 p4 p5 p6 p7 p8 p9 p10 p11 p12 p13 p14 p15 p16 p17 p18 p19 p20 p21 p22 p23 p24 p25 x0_4 x0_5 x0_6 x0_7 x0_8 x0_12 x0_13 x0_14 x0_15 x0_16 x0_17 x0_18 x0_22 x0_23 x0_24 x0_25 x0_26 x0_27 x0_28 x0_29 x0_30 x0_31 x0_32 x0_36 x0_39 x0_40 x0_44 x0_49 x0_51 x0_53 x0_54 x0_55 x0_56 x0_57 x0_58 x0_59 x0_60 x0_61 x0_62 y1 y2 y3 (upd v16 ((7 : Int32)).toNatClampNeg v19) y5 y6 y7 y8 y9 y10 y11 y12 y13 y14 y15 y16 y17 y18 y19 y20 y21 y22 y23 y24 y25) := hD
    obtain ⟨v20, hv20⟩ : ∃ y : Nat → Int32, y = (upd v16 ((7 : Int32)).toNatClampNeg v19) := ⟨_, rfl⟩
    rw [← hv20] at hP hD
    have : ((((7 : Int32)).toNatClampNeg : Nat) : Int) = 7 := by decide
    have Gv20 : ((0 ≤ (v19).toInt ∧ (v19).toInt ≤ 1073741823) ∧ ((1 ≤ ((((7 : Int32)).toNatClampNeg : Nat) : Int) ∧ ((((7 : Int32)).toNatClampNeg : Nat) : Int) ≤ 6) → (v19).toInt ≤ 4095)) := ⟨(rgw Rv19 (by decide) (by decide)), fun h => absurd h (by decide)⟩
    have Av20 : ∀ i : Nat, ((0 ≤ (v20 i).toInt ∧ (v20 i).toInt ≤ 1073741823) ∧ ((1 ≤ (i : Int) ∧ (i : Int) ≤ 6) → (v20 i).toInt ≤ 4095)) := by rw [hv20]; exact upd_all (P := fun i x => ((0 ≤ (x).toInt ∧ (x).toInt ≤ 1073741823) ∧ ((1 ≤ (i : Int) ∧ (i : Int) ≤ 6) → (x).toInt ≤ 4095))) Av16 Gv20
    clear hv20
    refine lv_aload_n hx hb d_X_divide_76 rfl (lv_at hl 2 rfl) ?_
    refine va_get (D := D) (ci := 7) (v := .ref p3) (C := "SignMachineModel") (T := F_X) (N := 64) hx hb hk fi_X hown hK.1 hP 0 rfl rfl 2 (by decide) (hk _ k_1123) (fun _ h9 => h9) rfl d_X_divide_77 ?_
    refine lv_iconst (v := 0) hx hb d_X_divide_80 (by decide) ?_
    refine lv_iload_n hx hb d_X_divide_81 rfl (lv_at hl 0 rfl) ?_
    refine lv_aload_n hx hb d_X_divide_82 rfl (lv_at hl 2 rfl) ?_
    refine va_get (D := D) (ci := 7) (v := .int x0_17) (C := "SignMachineModel") (T := F_X) (N := 64) hx hb hk fi_X hown hK.1 hP 0 rfl rfl 17 (by decide) (hk _ k_1138) (fun _ h9 => h9) rfl d_X_divide_83 ?_
    refine lv_ixor hx hb d_X_divide_86 ?_
    refine lv_topi (fun v21 hv21 => ?_)
    have Rv21 : 0 ≤ v21.toInt ∧ v21.toInt ≤ 1 := xr3 hv21 Rv11 Rx0_17
    refine va_iast hx hb hK.1 hP hD hS 3 0 rfl rfl (by unfold vp_in; decide) d_X_divide_87 (fun H locs hP hD hS => ?_)
    have hP : va_P D classes (wS50 cI cJ cZ cB p0 p1 p2 p3 p4 p5 p6 p7 p8 p9 p10 p11 p12 p13 p14 p15 p16 p17 p18 p19 p20 p21 p22 p23 p24 p25 x0_4 x0_5 x0_6 x0_7 x0_8 x0_12 x0_13 x0_14 x0_15 x0_16 x0_17 x0_18 x0_22 x0_23 x0_24 x0_25 x0_26 x0_27 x0_28 x0_29 x0_30 x0_31 x0_32 x0_36 x0_39 x0_40 x0_44 x0_49 x0_51 x0_53 x0_54 x0_55 x0_56 x0_57 x0_58 x0_59 x0_60 x0_61 x0_62 y1 y2 (upd y3 ((0 : Int32)).toNatClampNeg v21) v20 y5 y6 y7 y8 y9 y10 y11 y12 y13 y14 y15 y16 y17 y18 y19 y20 y21 y22 y23 y24 y25) H := hP
    have hD : va_D A (wS50 cI cJ cZ cB p0 p1 p2 p3 p4 p5 p6 p7 p8 p9 p10 p11 p12 p13 p14 p15 p16 p17 p18 p19 p20 p21 p22 p23 p24 p25 x0_4 x0_5 x0_6 x0_7 x0_8 x0_12 x0_13 x0_14 x0_15 x0_16 x0_17 x0_18 x0_22 x0_23 x0_24 x0_25 x0_26 x0_27 x0_28 x0_29 x0_30 x0_31 x0_32 x0_36 x0_39 x0_40 x0_44 x0_49 x0_51 x0_53 x0_54 x0_55 x0_56 x0_57 x0_58 x0_59 x0_60 x0_61 x0_62 y1 y2 (upd y3 ((0 : Int32)).toNatClampNeg v21) v20 y5 y6 y7 y8 y9 y10 y11 y12 y13 y14 y15 y16 y17 y18 y19 y20 y21 y22 y23 y24 y25) := hD
    obtain ⟨v22, hv22⟩ : ∃ y : Nat → Int32, y = (upd y3 ((0 : Int32)).toNatClampNeg v21) := ⟨_, rfl⟩
    rw [← hv22] at hP hD
    have Gv22 : (0 ≤ (v21).toInt ∧ (v21).toInt ≤ 1) := Rv21
    have Av22 : ∀ i : Nat, (0 ≤ (v22 i).toInt ∧ (v22 i).toInt ≤ 1) := by rw [hv22]; exact upd_all (P := fun i x => (0 ≤ (x).toInt ∧ (x).toInt ≤ 1)) Ay3 Gv22
    clear hv22
    refine lv_aload_n hx hb d_X_divide_88 rfl (lv_at hl 2 rfl) ?_
    refine va_get (D := D) (ci := 7) (v := .ref p3) (C := "SignMachineModel") (T := F_X) (N := 64) hx hb hk fi_X hown hK.1 hP 0 rfl rfl 2 (by decide) (hk _ k_1123) (fun _ h9 => h9) rfl d_X_divide_89 ?_
    refine lv_bipush (v := 7) hx hb d_X_divide_92 (by decide) ?_
    refine lv_iload_n hx hb d_X_divide_94 rfl (lv_at hl 0 rfl) ?_
    refine va_iast hx hb hK.1 hP hD hS 3 0 rfl rfl (by unfold vp_in; decide) d_X_divide_95 (fun H locs hP hD hS => ?_)
    have hP : va_P D classes (wS50 cI cJ cZ cB p0 p1 p2 p3 p4 p5 p6 p7 p8 p9 p10 p11 p12 p13 p14 p15 p16 p17 p18 p19 p20 p21 p22 p23 p24 p25 x0_4 x0_5 x0_6 x0_7 x0_8 x0_12 x0_13 x0_14 x0_15 x0_16 x0_17 x0_18 x0_22 x0_23 x0_24 x0_25 x0_26 x0_27 x0_28 x0_29 x0_30 x0_31 x0_32 x0_36 x0_39 x0_40 x0_44 x0_49 x0_51 x0_53 x0_54 x0_55 x0_56 x0_57 x0_58 x0_59 x0_60 x0_61 x0_62 y1 y2 (upd v22 ((7 : Int32)).toNatClampNeg v11) v20 y5 y6 y7 y8 y9 y10 y11 y12 y13 y14 y15 y16 y17 y18 y19 y20 y21 y22 y23 y24 y25) H := hP
    have hD : va_D A (wS50 cI cJ cZ cB p0 p1 p2 p3 p4 p5 p6 p7 p8 p9 p10 p11 p12 p13 p14 p15 p16 p17 p18 p19 p20 p21 p22 p23 p24 p25 x0_4 x0_5 x0_6 x0_7 x0_8 x0_12 x0_13 x0_14 x0_15 x0_16 x0_17 x0_18 x0_22 x0_23 x0_24 x0_25 x0_26 x0_27 x0_28 x0_29 x0_30 x0_31 x0_32 x0_36 x0_39 x0_40 x0_44 x0_49 x0_51 x0_53 x0_54 x0_55 x0_56 x0_57 x0_58 x0_59 x0_60 x0_61 x0_62 y1 y2 (upd v22 ((7 : Int32)).toNatClampNeg v11) v20 y5 y6 y7 y8 y9 y10 y11 y12 y13 y14 y15 y16 y17 y18 y19 y20 y21 y22 y23 y24 y25) := hD
    obtain ⟨v23, hv23⟩ : ∃ y : Nat → Int32, y = (upd v22 ((7 : Int32)).toNatClampNeg v11) := ⟨_, rfl⟩
    rw [← hv23] at hP hD
    have Gv23 : (0 ≤ (v11).toInt ∧ (v11).toInt ≤ 1) := Rv11
    have Av23 : ∀ i : Nat, (0 ≤ (v23 i).toInt ∧ (v23 i).toInt ≤ 1) := by rw [hv23]; exact upd_all (P := fun i x => (0 ≤ (x).toInt ∧ (x).toInt ≤ 1)) Av22 Gv23
    clear hv23
    exact W.vret hx hb hr (fun t ht hW => ⟨⟨(), rfl, trivial, ⟨x0_5, v23, v20, Av23, Av20, by show va_P D classes _ t.heap; rw [ht]; exact hP, hD⟩⟩, hS.F ht⟩) hS.2.2 d_X_divide_96
  · have gc2 : x0_18.toInt ≤ v1.toInt := c_nlt c2
    refine lv_aload_n hx hb d_X_divide_13 rfl (lv_at hl 0 rfl) ?_
    refine lv_iconst (v := 1) hx hb d_X_divide_14 (by decide) ?_
    refine va_put (D := D) (ci := 7) (v := .int (1 : Int32)) (ty := .int) (C := "SignMachineModel") (T := F_X) (N := 64) hx hb hk fi_X ft_X ft_X_ok fn_X hown hK.1 hP hD hS 0 rfl rfl 5 (by decide) (hk _ k_1126) (fun _ h9 => h9) rfl (by decide +kernel) rfl rfl (Nat.le_of_ble_eq_true rfl) d_X_divide_15 (fun H locs hP hD hS => ?_)
    have hP : va_P D classes (wS50 cI cJ cZ cB p0 p1 p2 p3 p4 p5 p6 p7 p8 p9 p10 p11 p12 p13 p14 p15 p16 p17 p18 p19 p20 p21 p22 p23 p24 p25 x0_4 (1 : Int32) x0_6 x0_7 x0_8 x0_12 x0_13 x0_14 x0_15 x0_16 x0_17 x0_18 x0_22 x0_23 x0_24 x0_25 x0_26 x0_27 x0_28 x0_29 x0_30 x0_31 x0_32 x0_36 x0_39 x0_40 x0_44 x0_49 x0_51 x0_53 x0_54 x0_55 x0_56 x0_57 x0_58 x0_59 x0_60 x0_61 x0_62 y1 y2 y3 y4 y5 y6 y7 y8 y9 y10 y11 y12 y13 y14 y15 y16 y17 y18 y19 y20 y21 y22 y23 y24 y25) H := hP
    have hD : va_D A (wS50 cI cJ cZ cB p0 p1 p2 p3 p4 p5 p6 p7 p8 p9 p10 p11 p12 p13 p14 p15 p16 p17 p18 p19 p20 p21 p22 p23 p24 p25 x0_4 (1 : Int32) x0_6 x0_7 x0_8 x0_12 x0_13 x0_14 x0_15 x0_16 x0_17 x0_18 x0_22 x0_23 x0_24 x0_25 x0_26 x0_27 x0_28 x0_29 x0_30 x0_31 x0_32 x0_36 x0_39 x0_40 x0_44 x0_49 x0_51 x0_53 x0_54 x0_55 x0_56 x0_57 x0_58 x0_59 x0_60 x0_61 x0_62 y1 y2 y3 y4 y5 y6 y7 y8 y9 y10 y11 y12 y13 y14 y15 y16 y17 y18 y19 y20 y21 y22 y23 y24 y25) := hD
    exact W.vret hx hb hr (fun t ht hW => ⟨⟨(), rfl, trivial, ⟨(1 : Int32), y3, y4, Ay3, Ay4, by show va_P D classes _ t.heap; rw [ht]; exact hP, hD⟩⟩, hS.F ht⟩) hS.2.2 d_X_divide_18
theorem v_X_divide {R : Room} {s : State} {args : Array Value} {own : String} {index : Nat} (hk : ∀ w ∈ tb, w.before args s = true) (hl : Cond.methodLink own index y_X_divide ∈ tb) (hR : 0 + 1 ≤ R.frames ∧ 8 + (4 + 11) + 0 ≤ R.locals) : CallW R s args own "SignMachineModel" index y_X_divide b_X_divide 4 none (.code y_X_divide b_X_divide 4 none :: tb) ({ frames := 0, cells := 0, slots := 0, locals := 0 }) 0 0 0 := mk_v 0 hk k_1485 hl k_1484 k_82 k_119 rfl rfl h_X_divide hR
set_option maxHeartbeats 8000000 in
set_option maxRecDepth 100000 in
theorem c_X_digits (l : Launch) (D : va_G) (cI cJ cZ cB : ClassId) (p0 p1 p2 p3 p4 p5 p6 p7 p8 p9 p10 p11 p12 p13 p14 p15 p16 p17 p18 p19 p20 p21 p22 p23 p24 p25 : Nat) (sz : Nat) (x0_4 : Int32) (x0_5 : Int32) (x0_6 : Int32) (x0_7 : Int32) (x0_8 : Int32) (x0_12 : Int32) (x0_13 : Int32) (x0_14 : Int32) (x0_15 : Int32) (x0_16 : Int32) (x0_17 : Int32) (x0_18 : Int32) (x0_22 : Int32) (x0_23 : Int32) (x0_24 : Int32) (x0_25 : Int32) (x0_26 : Int32) (x0_27 : Int32) (x0_28 : Int32) (x0_29 : Int32) (x0_30 : Int32) (x0_31 : Int32) (x0_32 : Int32) (x0_36 : Int32) (x0_39 : Int32) (x0_40 : Int64) (x0_44 : Int32) (x0_49 : Int32) (x0_51 : Int32) (x0_53 : Int32) (x0_54 : Int32) (x0_55 : Int64) (x0_56 : Int32) (x0_57 : Int32) (x0_58 : Int32) (x0_59 : Int32) (x0_60 : Int32) (x0_61 : Int32) (x0_62 : Int64) (y1 : Nat → Int32) (y2 : Nat → Int32) (y3 : Nat → Int32) (y4 : Nat → Int32) (y5 : Nat → Int32) (y6 : Nat → Int32) (y7 : Nat → Int32) (y8 : Nat → Int32) (y9 : Nat → Int32) (y10 : Nat → Int32) (y11 : Nat → Int64) (y12 : Nat → Int32) (y13 : Nat → Int64) (y14 : Nat → Int32) (y15 : Nat → Int64) (y16 : Nat → Int32) (y17 : Nat → Int32) (y18 : Nat → Int32) (y19 : Nat → Int32) (y20 : Nat → Int32) (y21 : Nat → Int32) (y22 : Nat → Int32) (y23 : Nat → Int32) (y24 : Nat → Int64) (y25 : Nat → Int64)  (Ay4 : ∀ i : Nat, ((0 ≤ (y4 i).toInt ∧ (y4 i).toInt ≤ 1073741823) ∧ ((1 ≤ (i : Int) ∧ (i : Int) ≤ 6) → (y4 i).toInt ≤ 4095))) : Met l y_X_digits (.code y_X_digits b_X_digits 5 none :: tb) ({ frames := 2, cells := 0, slots := 0, locals := 45 }) (pM D cI cJ cZ cB (wS50 cI cJ cZ cB p0 p1 p2 p3 p4 p5 p6 p7 p8 p9 p10 p11 p12 p13 p14 p15 p16 p17 p18 p19 p20 p21 p22 p23 p24 p25 x0_4 x0_5 x0_6 x0_7 x0_8 x0_12 x0_13 x0_14 x0_15 x0_16 x0_17 x0_18 x0_22 x0_23 x0_24 x0_25 x0_26 x0_27 x0_28 x0_29 x0_30 x0_31 x0_32 x0_36 x0_39 x0_40 x0_44 x0_49 x0_51 x0_53 x0_54 x0_55 x0_56 x0_57 x0_58 x0_59 x0_60 x0_61 x0_62 y1 y2 y3 y4 y5 y6 y7 y8 y9 y10 y11 y12 y13 y14 y15 y16 y17 y18 y19 y20 y21 y22 y23 y24 y25) sz [.ref p0]) (va_Qv (fun (_ : Unit) => True) (fun _ t => ∃ u_x0_5 : Int32, ∃ u_y4 : Nat → Int32, (∀ i : Nat, ((0 ≤ (u_y4 i).toInt ∧ (u_y4 i).toInt ≤ 1073741823) ∧ ((1 ≤ (i : Int) ∧ (i : Int) ≤ 6) → (u_y4 i).toInt ≤ 4095))) ∧ va_P D classes (wS50 cI cJ cZ cB p0 p1 p2 p3 p4 p5 p6 p7 p8 p9 p10 p11 p12 p13 p14 p15 p16 p17 p18 p19 p20 p21 p22 p23 p24 p25 x0_4 u_x0_5 x0_6 x0_7 x0_8 x0_12 x0_13 x0_14 x0_15 x0_16 x0_17 x0_18 x0_22 x0_23 x0_24 x0_25 x0_26 x0_27 x0_28 x0_29 x0_30 x0_31 x0_32 x0_36 x0_39 x0_40 x0_44 x0_49 x0_51 x0_53 x0_54 x0_55 x0_56 x0_57 x0_58 x0_59 x0_60 x0_61 x0_62 y1 y2 y3 u_y4 y5 y6 y7 y8 y9 y10 y11 y12 y13 y14 y15 y16 y17 y18 y19 y20 y21 y22 y23 y24 y25) t.heap ∧ va_D (va_A (wS50 cI cJ cZ cB p0 p1 p2 p3 p4 p5 p6 p7 p8 p9 p10 p11 p12 p13 p14 p15 p16 p17 p18 p19 p20 p21 p22 p23 p24 p25 x0_4 x0_5 x0_6 x0_7 x0_8 x0_12 x0_13 x0_14 x0_15 x0_16 x0_17 x0_18 x0_22 x0_23 x0_24 x0_25 x0_26 x0_27 x0_28 x0_29 x0_30 x0_31 x0_32 x0_36 x0_39 x0_40 x0_44 x0_49 x0_51 x0_53 x0_54 x0_55 x0_56 x0_57 x0_58 x0_59 x0_60 x0_61 x0_62 y1 y2 y3 y4 y5 y6 y7 y8 y9 y10 y11 y12 y13 y14 y15 y16 y17 y18 y19 y20 y21 y22 y23 y24 y25) sz) (wS50 cI cJ cZ cB p0 p1 p2 p3 p4 p5 p6 p7 p8 p9 p10 p11 p12 p13 p14 p15 p16 p17 p18 p19 p20 p21 p22 p23 p24 p25 x0_4 u_x0_5 x0_6 x0_7 x0_8 x0_12 x0_13 x0_14 x0_15 x0_16 x0_17 x0_18 x0_22 x0_23 x0_24 x0_25 x0_26 x0_27 x0_28 x0_29 x0_30 x0_31 x0_32 x0_36 x0_39 x0_40 x0_44 x0_49 x0_51 x0_53 x0_54 x0_55 x0_56 x0_57 x0_58 x0_59 x0_60 x0_61 x0_62 y1 y2 y3 u_y4 y5 y6 y7 y8 y9 y10 y11 y12 y13 y14 y15 y16 y17 y18 y19 y20 y21 y22 y23 y24 y25)) (va_A (wS50 cI cJ cZ cB p0 p1 p2 p3 p4 p5 p6 p7 p8 p9 p10 p11 p12 p13 p14 p15 p16 p17 p18 p19 p20 p21 p22 p23 p24 p25 x0_4 x0_5 x0_6 x0_7 x0_8 x0_12 x0_13 x0_14 x0_15 x0_16 x0_17 x0_18 x0_22 x0_23 x0_24 x0_25 x0_26 x0_27 x0_28 x0_29 x0_30 x0_31 x0_32 x0_36 x0_39 x0_40 x0_44 x0_49 x0_51 x0_53 x0_54 x0_55 x0_56 x0_57 x0_58 x0_59 x0_60 x0_61 x0_62 y1 y2 y3 y4 y5 y6 y7 y8 y9 y10 y11 y12 y13 y14 y15 y16 y17 y18 y19 y20 y21 y22 y23 y24 y25) sz)) 0 0 (va_A (wS50 cI cJ cZ cB p0 p1 p2 p3 p4 p5 p6 p7 p8 p9 p10 p11 p12 p13 p14 p15 p16 p17 p18 p19 p20 p21 p22 p23 p24 p25 x0_4 x0_5 x0_6 x0_7 x0_8 x0_12 x0_13 x0_14 x0_15 x0_16 x0_17 x0_18 x0_22 x0_23 x0_24 x0_25 x0_26 x0_27 x0_28 x0_29 x0_30 x0_31 x0_32 x0_36 x0_39 x0_40 x0_44 x0_49 x0_51 x0_53 x0_54 x0_55 x0_56 x0_57 x0_58 x0_59 x0_60 x0_61 x0_62 y1 y2 y3 y4 y5 y6 y7 y8 y9 y10 y11 y12 y13 y14 y15 y16 y17 y18 y19 y20 y21 y22 y23 y24 y25) sz) := by
  refine Met.ofW (cc := b_X_digits) (maxL := 5) (ret := none) (by decide) rfl ?_
  intro p e s m args below meth c s₁ B hml hv
  obtain ⟨rfl, hsz, hK, hP, hD0⟩ := hv
  subst hsz
  have hD := hD0.self (sz := s.heap.size)
  generalize hAe : va_A (wS50 cI cJ cZ cB p0 p1 p2 p3 p4 p5 p6 p7 p8 p9 p10 p11 p12 p13 p14 p15 p16 p17 p18 p19 p20 p21 p22 p23 p24 p25 x0_4 x0_5 x0_6 x0_7 x0_8 x0_12 x0_13 x0_14 x0_15 x0_16 x0_17 x0_18 x0_22 x0_23 x0_24 x0_25 x0_26 x0_27 x0_28 x0_29 x0_30 x0_31 x0_32 x0_36 x0_39 x0_40 x0_44 x0_49 x0_51 x0_53 x0_54 x0_55 x0_56 x0_57 x0_58 x0_59 x0_60 x0_61 x0_62 y1 y2 y3 y4 y5 y6 y7 y8 y9 y10 y11 y12 y13 y14 y15 y16 y17 y18 y19 y20 y21 y22 y23 y24 y25) s.heap.size = A at hD ⊢
  have hA : ∀ q : Nat, s.heap.size ≤ q → A q := fun q h => by rw [← hAe]; exact Or.inr h
  clear hAe hD0
  have hS : va_S A s.heap s.heap [] := va_S.rf
  have hx := B.exec
  have hb := B.bytes
  have hr := B.returns
  have hts := atoms_spec (ws := .code y_X_digits b_X_digits 5 none :: tb) B.pre
  have hk : ∀ w ∈ tb, w.before [.ref p0].toArray s = true := fun w h => hts w (List.mem_cons_of_mem _ h)
  have hown : s.vm.findClass "SignMachineModel" = some m.cls := findClass_of_methodNamed B.named
  have hlocks := B.notSynchronized
  have hl := lv_entry ([.ref p0]) (n := 5) (Nat.le_of_ble_eq_true rfl)
  rw [lg_entry_eq]
  generalize (lg_sl ([.ref p0]) ++ List.replicate (5 - (lg_sl ([.ref p0])).length) Slot.unset).toArray = ls at hl ⊢
  have hl : lv_has ls 5 [(0, .ref p0)] := hl
  clear hts B
  refine lv_lconst (v := 0) hx hb d_X_digits_0 (by decide) ?_
  refine lv_lstore_n (lv' := [(1, .long (0 : Int64)), (0, .ref p0)]) hx hb d_X_digits_1 rfl hl (by decide) rfl (fun ls hl => ?_)
  refine lv_iconst (v := 1) hx hb d_X_digits_2 (by decide) ?_
  refine lv_istore_n (lv' := [(3, .int (1 : Int32)), (1, .long (0 : Int64)), (0, .ref p0)]) hx hb d_X_digits_3 rfl hl (by decide) rfl (fun ls hl => ?_)
  refine lv_iload_n hx hb d_X_digits_4 rfl (lv_at hl 0 rfl) ?_
  refine lv_bipush (v := 10) hx hb d_X_digits_5 (by decide) ?_
  refine lv_icmp_gt (tgt := 66) hx hb d_X_digits_7 (by decide) (fun c1 => absurd c1 (show ¬ (10 : Int32) < (1 : Int32) from (by decide))) (fun c1 => ?_)
  refine lv_iload_n hx hb d_X_digits_10 rfl (lv_at hl 0 rfl) ?_
  refine lv_iconst (v := 5) hx hb d_X_digits_11 (by decide) ?_
  refine lv_icmp_gt (tgt := 29) hx hb d_X_digits_12 (by decide) (fun c2 => absurd c2 (show ¬ (5 : Int32) < (1 : Int32) from (by decide))) (fun c2 => ?_)
  refine lv_aload_n hx hb d_X_digits_15 rfl (lv_at hl 2 rfl) ?_
  refine va_get (D := D) (ci := 7) (v := .ref p4) (C := "SignMachineModel") (T := F_X) (N := 64) hx hb hk fi_X hown hK.1 hP 0 rfl rfl 3 (by decide) (hk _ k_1124) (fun _ h9 => h9) rfl d_X_digits_16 ?_
  refine lv_iconst (v := 0) hx hb d_X_digits_19 (by decide) ?_
  refine va_iald hx hb hK.1 hP 4 0 rfl rfl (by unfold vp_in; decide) d_X_digits_20 ?_
  refine lv_topi (fun v3 hv3 => ?_)
  have Rv3 := Ay4 ((0 : Int32)).toNatClampNeg
  rw [← hv3] at Rv3
  obtain ⟨Rv3, Xv3⟩ := Rv3
  have : ((((0 : Int32)).toNatClampNeg : Nat) : Int) = 0 := by decide
  refine lv_iload_n hx hb d_X_digits_21 rfl (lv_at hl 0 rfl) ?_
  refine lv_iload_n hx hb d_X_digits_22 rfl (lv_at hl 0 rfl) ?_
  refine vp_callSi (W.runS (As := [.int v3, .int (1 : Int32), .int (1 : Int32)]) (rest := []) ⟨hx, hb, hml, hown, hk⟩ (c_X_bytes l v3 (1 : Int32) (1 : Int32) Rv3 (by decide) (by decide)) (s_X_bytes hk k_1412 ⟨Nat.le_of_ble_eq_true rfl, Nat.le_of_ble_eq_true rfl⟩) ⟨fun a U g mk q => q, fun U hU hW => ⟨rfl, trivial⟩⟩ rfl rfl hl.1 rfl (lv_room (Nat.le_of_ble_eq_true rfl)) d_X_digits_23 ⟨Nat.le_of_ble_eq_true rfl, Nat.le_of_ble_eq_true rfl⟩) (fun rz4 hrz4 => ?_)
  obtain ⟨F0z4, F1z4, F2z4⟩ := hrz4
  have F0z4 : 0 ≤ rz4.toInt ∧ rz4.toInt ≤ 1073741823 := F0z4
  have F1z4 : hid ((1 : Int) = (1 : Int) → rz4.toInt ≤ 63) := F1z4
  have F2z4 : hid (rz4.toInt = bt v3.toInt (1 : Int) (1 : Int)) := F2z4
  refine lv_goto (tgt := 45) hx hb d_X_digits_26 (by decide) ?_
  refine lv_istore (lv' := [(4, .int rz4), (3, .int (1 : Int32)), (1, .long (0 : Int64)), (0, .ref p0)]) hx hb d_X_digits_45 hl (by decide) rfl (fun ls hl => ?_)
  refine lv_ldc2 (v := 10) hx hb hown (hk _ k_1490) d_X_digits_47 ?_
  refine lv_lload_n hx hb d_X_digits_50 rfl (lv_at hl 2 rfl) ?_
  refine lv_lmul hx hb d_X_digits_51 ?_
  refine tpl (y := (0 : Int64)) (by decide) ?_
  refine lv_iload hx hb d_X_digits_52 (lv_at hl 0 rfl) ?_
  refine lv_bipush (v := 10) hx hb d_X_digits_54 (by decide) ?_
  refine lv_irem hx hb d_X_digits_56 (by decide) ?_
  refine lv_topi (fun v5 hv5 => ?_)
  obtain ⟨ev5, lv5, Rv5⟩ : v5.toInt = rz4.toInt % (10 : Int) ∧ v5.toInt < (10 : Int) ∧ (0 ≤ v5.toInt ∧ v5.toInt ≤ 9) := rm3 hv5 F0z4 (show 10 ≤ (10 : Int32).toInt ∧ (10 : Int32).toInt ≤ 10 from by decide) (by decide) (by decide) (by decide)
  refine lv_i2l (v := (v5 : Int32).toInt64) hx hb d_X_digits_57 rfl ?_
  refine lv_topl (fun v6 hv6 => ?_)
  obtain ⟨ev6, Rv6⟩ : v6.toInt = v5.toInt ∧ (0 ≤ v6.toInt ∧ v6.toInt ≤ 9) := il3 hv6 Rv5
  refine lv_ladd hx hb d_X_digits_58 ?_
  refine lv_topl (fun v7 hv7 => ?_)
  obtain ⟨ev7, Rv7⟩ : v7.toInt = (0 : Int) + v6.toInt ∧ (0 ≤ v7.toInt ∧ v7.toInt ≤ 9) := ad6 hv7 (show 0 ≤ (0 : Int64).toInt ∧ (0 : Int64).toInt ≤ 0 from by decide) Rv6 (by decide) (by decide) (by decide) (by decide)
  refine lv_lstore_n (lv' := [(1, .long v7), (4, .int rz4), (3, .int (1 : Int32)), (0, .ref p0)]) hx hb d_X_digits_59 rfl hl (by decide) rfl (fun ls hl => ?_)
  refine lv_iinc (v := (2 : Int32)) (lv' := [(3, .int (2 : Int32)), (1, .long v7), (4, .int rz4), (0, .ref p0)]) hx hb d_X_digits_60 hl (k := 2) rfl (by decide) (by decide) rfl (fun ls hl => ?_)
  refine lv_goto (tgt := 4) hx hb d_X_digits_63 (by decide) ?_
  refine lv_iload_n hx hb d_X_digits_4 rfl (lv_at hl 0 rfl) ?_
  refine lv_bipush (v := 10) hx hb d_X_digits_5 (by decide) ?_
  refine lv_icmp_gt (tgt := 66) hx hb d_X_digits_7 (by decide) (fun c8 => absurd c8 (show ¬ (10 : Int32) < (2 : Int32) from (by decide))) (fun c8 => ?_)
  refine lv_iload_n hx hb d_X_digits_10 rfl (lv_at hl 0 rfl) ?_
  refine lv_iconst (v := 5) hx hb d_X_digits_11 (by decide) ?_
  refine lv_icmp_gt (tgt := 29) hx hb d_X_digits_12 (by decide) (fun c9 => absurd c9 (show ¬ (5 : Int32) < (2 : Int32) from (by decide))) (fun c9 => ?_)
  refine lv_aload_n hx hb d_X_digits_15 rfl (lv_at hl 3 rfl) ?_
  refine va_get (D := D) (ci := 7) (v := .ref p4) (C := "SignMachineModel") (T := F_X) (N := 64) hx hb hk fi_X hown hK.1 hP 0 rfl rfl 3 (by decide) (hk _ k_1124) (fun _ h9 => h9) rfl d_X_digits_16 ?_
  refine lv_iconst (v := 0) hx hb d_X_digits_19 (by decide) ?_
  refine va_iald hx hb hK.1 hP 4 0 rfl rfl (by unfold vp_in; decide) d_X_digits_20 ?_
  refine lv_topi (fun v10 hv10 => ?_)
  have Rv10 := Ay4 ((0 : Int32)).toNatClampNeg
  rw [← hv10] at Rv10
  obtain ⟨Rv10, Xv10⟩ := Rv10
  have : ((((0 : Int32)).toNatClampNeg : Nat) : Int) = 0 := by decide
  refine lv_iload_n hx hb d_X_digits_21 rfl (lv_at hl 0 rfl) ?_
  refine lv_iload_n hx hb d_X_digits_22 rfl (lv_at hl 0 rfl) ?_
  refine vp_callSi (W.runS (As := [.int v10, .int (2 : Int32), .int (2 : Int32)]) (rest := []) ⟨hx, hb, hml, hown, hk⟩ (c_X_bytes l v10 (2 : Int32) (2 : Int32) Rv10 (by decide) (by decide)) (s_X_bytes hk k_1412 ⟨Nat.le_of_ble_eq_true rfl, Nat.le_of_ble_eq_true rfl⟩) ⟨fun a U g mk q => q, fun U hU hW => ⟨rfl, trivial⟩⟩ rfl rfl hl.1 rfl (lv_room (Nat.le_of_ble_eq_true rfl)) d_X_digits_23 ⟨Nat.le_of_ble_eq_true rfl, Nat.le_of_ble_eq_true rfl⟩) (fun rz11 hrz11 => ?_)
  obtain ⟨F0z11, F1z11, F2z11⟩ := hrz11
  have F0z11 : 0 ≤ rz11.toInt ∧ rz11.toInt ≤ 1073741823 := F0z11
  have F1z11 : hid ((2 : Int) = (2 : Int) → rz11.toInt ≤ 63) := F1z11
  have F2z11 : hid (rz11.toInt = bt v10.toInt (2 : Int) (2 : Int)) := F2z11
  refine lv_goto (tgt := 45) hx hb d_X_digits_26 (by decide) ?_
  refine lv_istore (lv' := [(4, .int rz11), (3, .int (2 : Int32)), (1, .long v7), (0, .ref p0)]) hx hb d_X_digits_45 hl (by decide) rfl (fun ls hl => ?_)
  refine lv_ldc2 (v := 10) hx hb hown (hk _ k_1490) d_X_digits_47 ?_
  refine lv_lload_n hx hb d_X_digits_50 rfl (lv_at hl 2 rfl) ?_
  refine lv_lmul hx hb d_X_digits_51 ?_
  refine lv_topl (fun v12 hv12 => ?_)
  obtain ⟨ev12, Rv12⟩ : v12.toInt = (10 : Int) * v7.toInt ∧ (0 ≤ v12.toInt ∧ v12.toInt ≤ 90) := ml6 hv12 (show 10 ≤ (10 : Int64).toInt ∧ (10 : Int64).toInt ≤ 10 from by decide) Rv7 (by decide) (by decide) (by decide) (by decide) (by decide) (by decide)
  refine lv_iload hx hb d_X_digits_52 (lv_at hl 0 rfl) ?_
  refine lv_bipush (v := 10) hx hb d_X_digits_54 (by decide) ?_
  refine lv_irem hx hb d_X_digits_56 (by decide) ?_
  refine lv_topi (fun v13 hv13 => ?_)
  obtain ⟨ev13, lv13, Rv13⟩ : v13.toInt = rz11.toInt % (10 : Int) ∧ v13.toInt < (10 : Int) ∧ (0 ≤ v13.toInt ∧ v13.toInt ≤ 9) := rm3 hv13 F0z11 (show 10 ≤ (10 : Int32).toInt ∧ (10 : Int32).toInt ≤ 10 from by decide) (by decide) (by decide) (by decide)
  refine lv_i2l (v := (v13 : Int32).toInt64) hx hb d_X_digits_57 rfl ?_
  refine lv_topl (fun v14 hv14 => ?_)
  obtain ⟨ev14, Rv14⟩ : v14.toInt = v13.toInt ∧ (0 ≤ v14.toInt ∧ v14.toInt ≤ 9) := il3 hv14 Rv13
  refine lv_ladd hx hb d_X_digits_58 ?_
  refine lv_topl (fun v15 hv15 => ?_)
  obtain ⟨ev15, Rv15⟩ : v15.toInt = v12.toInt + v14.toInt ∧ (0 ≤ v15.toInt ∧ v15.toInt ≤ 99) := ad6 hv15 Rv12 Rv14 (by decide) (by decide) (by decide) (by decide)
  refine lv_lstore_n (lv' := [(1, .long v15), (4, .int rz11), (3, .int (2 : Int32)), (0, .ref p0)]) hx hb d_X_digits_59 rfl hl (by decide) rfl (fun ls hl => ?_)
  refine lv_iinc (v := (3 : Int32)) (lv' := [(3, .int (3 : Int32)), (1, .long v15), (4, .int rz11), (0, .ref p0)]) hx hb d_X_digits_60 hl (k := 2) rfl (by decide) (by decide) rfl (fun ls hl => ?_)
  refine lv_goto (tgt := 4) hx hb d_X_digits_63 (by decide) ?_
  refine lv_iload_n hx hb d_X_digits_4 rfl (lv_at hl 0 rfl) ?_
  refine lv_bipush (v := 10) hx hb d_X_digits_5 (by decide) ?_
  refine lv_icmp_gt (tgt := 66) hx hb d_X_digits_7 (by decide) (fun c16 => absurd c16 (show ¬ (10 : Int32) < (3 : Int32) from (by decide))) (fun c16 => ?_)
  refine lv_iload_n hx hb d_X_digits_10 rfl (lv_at hl 0 rfl) ?_
  refine lv_iconst (v := 5) hx hb d_X_digits_11 (by decide) ?_
  refine lv_icmp_gt (tgt := 29) hx hb d_X_digits_12 (by decide) (fun c17 => absurd c17 (show ¬ (5 : Int32) < (3 : Int32) from (by decide))) (fun c17 => ?_)
  refine lv_aload_n hx hb d_X_digits_15 rfl (lv_at hl 3 rfl) ?_
  refine va_get (D := D) (ci := 7) (v := .ref p4) (C := "SignMachineModel") (T := F_X) (N := 64) hx hb hk fi_X hown hK.1 hP 0 rfl rfl 3 (by decide) (hk _ k_1124) (fun _ h9 => h9) rfl d_X_digits_16 ?_
  refine lv_iconst (v := 0) hx hb d_X_digits_19 (by decide) ?_
  refine va_iald hx hb hK.1 hP 4 0 rfl rfl (by unfold vp_in; decide) d_X_digits_20 ?_
  refine lv_topi (fun v18 hv18 => ?_)
  have Rv18 := Ay4 ((0 : Int32)).toNatClampNeg
  rw [← hv18] at Rv18
  obtain ⟨Rv18, Xv18⟩ := Rv18
  have : ((((0 : Int32)).toNatClampNeg : Nat) : Int) = 0 := by decide
  refine lv_iload_n hx hb d_X_digits_21 rfl (lv_at hl 0 rfl) ?_
  refine lv_iload_n hx hb d_X_digits_22 rfl (lv_at hl 0 rfl) ?_
  refine vp_callSi (W.runS (As := [.int v18, .int (3 : Int32), .int (3 : Int32)]) (rest := []) ⟨hx, hb, hml, hown, hk⟩ (c_X_bytes l v18 (3 : Int32) (3 : Int32) Rv18 (by decide) (by decide)) (s_X_bytes hk k_1412 ⟨Nat.le_of_ble_eq_true rfl, Nat.le_of_ble_eq_true rfl⟩) ⟨fun a U g mk q => q, fun U hU hW => ⟨rfl, trivial⟩⟩ rfl rfl hl.1 rfl (lv_room (Nat.le_of_ble_eq_true rfl)) d_X_digits_23 ⟨Nat.le_of_ble_eq_true rfl, Nat.le_of_ble_eq_true rfl⟩) (fun rz19 hrz19 => ?_)
  obtain ⟨F0z19, F1z19, F2z19⟩ := hrz19
  have F0z19 : 0 ≤ rz19.toInt ∧ rz19.toInt ≤ 1073741823 := F0z19
  have F1z19 : hid ((3 : Int) = (3 : Int) → rz19.toInt ≤ 63) := F1z19
  have F2z19 : hid (rz19.toInt = bt v18.toInt (3 : Int) (3 : Int)) := F2z19
  refine lv_goto (tgt := 45) hx hb d_X_digits_26 (by decide) ?_
  refine lv_istore (lv' := [(4, .int rz19), (3, .int (3 : Int32)), (1, .long v15), (0, .ref p0)]) hx hb d_X_digits_45 hl (by decide) rfl (fun ls hl => ?_)
  refine lv_ldc2 (v := 10) hx hb hown (hk _ k_1490) d_X_digits_47 ?_
  refine lv_lload_n hx hb d_X_digits_50 rfl (lv_at hl 2 rfl) ?_
  refine lv_lmul hx hb d_X_digits_51 ?_
  refine lv_topl (fun v20 hv20 => ?_)
  obtain ⟨ev20, Rv20⟩ : v20.toInt = (10 : Int) * v15.toInt ∧ (0 ≤ v20.toInt ∧ v20.toInt ≤ 990) := ml6 hv20 (show 10 ≤ (10 : Int64).toInt ∧ (10 : Int64).toInt ≤ 10 from by decide) Rv15 (by decide) (by decide) (by decide) (by decide) (by decide) (by decide)
  refine lv_iload hx hb d_X_digits_52 (lv_at hl 0 rfl) ?_
  refine lv_bipush (v := 10) hx hb d_X_digits_54 (by decide) ?_
  refine lv_irem hx hb d_X_digits_56 (by decide) ?_
  refine lv_topi (fun v21 hv21 => ?_)
  obtain ⟨ev21, lv21, Rv21⟩ : v21.toInt = rz19.toInt % (10 : Int) ∧ v21.toInt < (10 : Int) ∧ (0 ≤ v21.toInt ∧ v21.toInt ≤ 9) := rm3 hv21 F0z19 (show 10 ≤ (10 : Int32).toInt ∧ (10 : Int32).toInt ≤ 10 from by decide) (by decide) (by decide) (by decide)
  refine lv_i2l (v := (v21 : Int32).toInt64) hx hb d_X_digits_57 rfl ?_
  refine lv_topl (fun v22 hv22 => ?_)
  obtain ⟨ev22, Rv22⟩ : v22.toInt = v21.toInt ∧ (0 ≤ v22.toInt ∧ v22.toInt ≤ 9) := il3 hv22 Rv21
  refine lv_ladd hx hb d_X_digits_58 ?_
  refine lv_topl (fun v23 hv23 => ?_)
  obtain ⟨ev23, Rv23⟩ : v23.toInt = v20.toInt + v22.toInt ∧ (0 ≤ v23.toInt ∧ v23.toInt ≤ 999) := ad6 hv23 Rv20 Rv22 (by decide) (by decide) (by decide) (by decide)
  refine lv_lstore_n (lv' := [(1, .long v23), (4, .int rz19), (3, .int (3 : Int32)), (0, .ref p0)]) hx hb d_X_digits_59 rfl hl (by decide) rfl (fun ls hl => ?_)
  refine lv_iinc (v := (4 : Int32)) (lv' := [(3, .int (4 : Int32)), (1, .long v23), (4, .int rz19), (0, .ref p0)]) hx hb d_X_digits_60 hl (k := 2) rfl (by decide) (by decide) rfl (fun ls hl => ?_)
  refine lv_goto (tgt := 4) hx hb d_X_digits_63 (by decide) ?_
  refine lv_iload_n hx hb d_X_digits_4 rfl (lv_at hl 0 rfl) ?_
  refine lv_bipush (v := 10) hx hb d_X_digits_5 (by decide) ?_
  refine lv_icmp_gt (tgt := 66) hx hb d_X_digits_7 (by decide) (fun c24 => absurd c24 (show ¬ (10 : Int32) < (4 : Int32) from (by decide))) (fun c24 => ?_)
  refine lv_iload_n hx hb d_X_digits_10 rfl (lv_at hl 0 rfl) ?_
  refine lv_iconst (v := 5) hx hb d_X_digits_11 (by decide) ?_
  refine lv_icmp_gt (tgt := 29) hx hb d_X_digits_12 (by decide) (fun c25 => absurd c25 (show ¬ (5 : Int32) < (4 : Int32) from (by decide))) (fun c25 => ?_)
  refine lv_aload_n hx hb d_X_digits_15 rfl (lv_at hl 3 rfl) ?_
  refine va_get (D := D) (ci := 7) (v := .ref p4) (C := "SignMachineModel") (T := F_X) (N := 64) hx hb hk fi_X hown hK.1 hP 0 rfl rfl 3 (by decide) (hk _ k_1124) (fun _ h9 => h9) rfl d_X_digits_16 ?_
  refine lv_iconst (v := 0) hx hb d_X_digits_19 (by decide) ?_
  refine va_iald hx hb hK.1 hP 4 0 rfl rfl (by unfold vp_in; decide) d_X_digits_20 ?_
  refine lv_topi (fun v26 hv26 => ?_)
  have Rv26 := Ay4 ((0 : Int32)).toNatClampNeg
  rw [← hv26] at Rv26
  obtain ⟨Rv26, Xv26⟩ := Rv26
  have : ((((0 : Int32)).toNatClampNeg : Nat) : Int) = 0 := by decide
  refine lv_iload_n hx hb d_X_digits_21 rfl (lv_at hl 0 rfl) ?_
  refine lv_iload_n hx hb d_X_digits_22 rfl (lv_at hl 0 rfl) ?_
  refine vp_callSi (W.runS (As := [.int v26, .int (4 : Int32), .int (4 : Int32)]) (rest := []) ⟨hx, hb, hml, hown, hk⟩ (c_X_bytes l v26 (4 : Int32) (4 : Int32) Rv26 (by decide) (by decide)) (s_X_bytes hk k_1412 ⟨Nat.le_of_ble_eq_true rfl, Nat.le_of_ble_eq_true rfl⟩) ⟨fun a U g mk q => q, fun U hU hW => ⟨rfl, trivial⟩⟩ rfl rfl hl.1 rfl (lv_room (Nat.le_of_ble_eq_true rfl)) d_X_digits_23 ⟨Nat.le_of_ble_eq_true rfl, Nat.le_of_ble_eq_true rfl⟩) (fun rz27 hrz27 => ?_)
  obtain ⟨F0z27, F1z27, F2z27⟩ := hrz27
  have F0z27 : 0 ≤ rz27.toInt ∧ rz27.toInt ≤ 1073741823 := F0z27
  have F1z27 : hid ((4 : Int) = (4 : Int) → rz27.toInt ≤ 63) := F1z27
  have F2z27 : hid (rz27.toInt = bt v26.toInt (4 : Int) (4 : Int)) := F2z27
  refine lv_goto (tgt := 45) hx hb d_X_digits_26 (by decide) ?_
  refine lv_istore (lv' := [(4, .int rz27), (3, .int (4 : Int32)), (1, .long v23), (0, .ref p0)]) hx hb d_X_digits_45 hl (by decide) rfl (fun ls hl => ?_)
  refine lv_ldc2 (v := 10) hx hb hown (hk _ k_1490) d_X_digits_47 ?_
  refine lv_lload_n hx hb d_X_digits_50 rfl (lv_at hl 2 rfl) ?_
  refine lv_lmul hx hb d_X_digits_51 ?_
  refine lv_topl (fun v28 hv28 => ?_)
  obtain ⟨ev28, Rv28⟩ : v28.toInt = (10 : Int) * v23.toInt ∧ (0 ≤ v28.toInt ∧ v28.toInt ≤ 9990) := ml6 hv28 (show 10 ≤ (10 : Int64).toInt ∧ (10 : Int64).toInt ≤ 10 from by decide) Rv23 (by decide) (by decide) (by decide) (by decide) (by decide) (by decide)
  refine lv_iload hx hb d_X_digits_52 (lv_at hl 0 rfl) ?_
  refine lv_bipush (v := 10) hx hb d_X_digits_54 (by decide) ?_
  refine lv_irem hx hb d_X_digits_56 (by decide) ?_
  refine lv_topi (fun v29 hv29 => ?_)
  obtain ⟨ev29, lv29, Rv29⟩ : v29.toInt = rz27.toInt % (10 : Int) ∧ v29.toInt < (10 : Int) ∧ (0 ≤ v29.toInt ∧ v29.toInt ≤ 9) := rm3 hv29 F0z27 (show 10 ≤ (10 : Int32).toInt ∧ (10 : Int32).toInt ≤ 10 from by decide) (by decide) (by decide) (by decide)
  refine lv_i2l (v := (v29 : Int32).toInt64) hx hb d_X_digits_57 rfl ?_
  refine lv_topl (fun v30 hv30 => ?_)
  obtain ⟨ev30, Rv30⟩ : v30.toInt = v29.toInt ∧ (0 ≤ v30.toInt ∧ v30.toInt ≤ 9) := il3 hv30 Rv29
  refine lv_ladd hx hb d_X_digits_58 ?_
  refine lv_topl (fun v31 hv31 => ?_)
  obtain ⟨ev31, Rv31⟩ : v31.toInt = v28.toInt + v30.toInt ∧ (0 ≤ v31.toInt ∧ v31.toInt ≤ 9999) := ad6 hv31 Rv28 Rv30 (by decide) (by decide) (by decide) (by decide)
  refine lv_lstore_n (lv' := [(1, .long v31), (4, .int rz27), (3, .int (4 : Int32)), (0, .ref p0)]) hx hb d_X_digits_59 rfl hl (by decide) rfl (fun ls hl => ?_)
  refine lv_iinc (v := (5 : Int32)) (lv' := [(3, .int (5 : Int32)), (1, .long v31), (4, .int rz27), (0, .ref p0)]) hx hb d_X_digits_60 hl (k := 2) rfl (by decide) (by decide) rfl (fun ls hl => ?_)
  refine lv_goto (tgt := 4) hx hb d_X_digits_63 (by decide) ?_
  refine lv_iload_n hx hb d_X_digits_4 rfl (lv_at hl 0 rfl) ?_
  refine lv_bipush (v := 10) hx hb d_X_digits_5 (by decide) ?_
  refine lv_icmp_gt (tgt := 66) hx hb d_X_digits_7 (by decide) (fun c32 => absurd c32 (show ¬ (10 : Int32) < (5 : Int32) from (by decide))) (fun c32 => ?_)
  refine lv_iload_n hx hb d_X_digits_10 rfl (lv_at hl 0 rfl) ?_
  refine lv_iconst (v := 5) hx hb d_X_digits_11 (by decide) ?_
  refine lv_icmp_gt (tgt := 29) hx hb d_X_digits_12 (by decide) (fun c33 => absurd c33 (show ¬ (5 : Int32) < (5 : Int32) from (by decide))) (fun c33 => ?_)
  refine lv_aload_n hx hb d_X_digits_15 rfl (lv_at hl 3 rfl) ?_
  refine va_get (D := D) (ci := 7) (v := .ref p4) (C := "SignMachineModel") (T := F_X) (N := 64) hx hb hk fi_X hown hK.1 hP 0 rfl rfl 3 (by decide) (hk _ k_1124) (fun _ h9 => h9) rfl d_X_digits_16 ?_
  refine lv_iconst (v := 0) hx hb d_X_digits_19 (by decide) ?_
  refine va_iald hx hb hK.1 hP 4 0 rfl rfl (by unfold vp_in; decide) d_X_digits_20 ?_
  refine lv_topi (fun v34 hv34 => ?_)
  have Rv34 := Ay4 ((0 : Int32)).toNatClampNeg
  rw [← hv34] at Rv34
  obtain ⟨Rv34, Xv34⟩ := Rv34
  have : ((((0 : Int32)).toNatClampNeg : Nat) : Int) = 0 := by decide
  refine lv_iload_n hx hb d_X_digits_21 rfl (lv_at hl 0 rfl) ?_
  refine lv_iload_n hx hb d_X_digits_22 rfl (lv_at hl 0 rfl) ?_
  refine vp_callSi (W.runS (As := [.int v34, .int (5 : Int32), .int (5 : Int32)]) (rest := []) ⟨hx, hb, hml, hown, hk⟩ (c_X_bytes l v34 (5 : Int32) (5 : Int32) Rv34 (by decide) (by decide)) (s_X_bytes hk k_1412 ⟨Nat.le_of_ble_eq_true rfl, Nat.le_of_ble_eq_true rfl⟩) ⟨fun a U g mk q => q, fun U hU hW => ⟨rfl, trivial⟩⟩ rfl rfl hl.1 rfl (lv_room (Nat.le_of_ble_eq_true rfl)) d_X_digits_23 ⟨Nat.le_of_ble_eq_true rfl, Nat.le_of_ble_eq_true rfl⟩) (fun rz35 hrz35 => ?_)
  obtain ⟨F0z35, F1z35, F2z35⟩ := hrz35
  have F0z35 : 0 ≤ rz35.toInt ∧ rz35.toInt ≤ 1073741823 := F0z35
  have F1z35 : hid ((5 : Int) = (5 : Int) → rz35.toInt ≤ 63) := F1z35
  have F2z35 : hid (rz35.toInt = bt v34.toInt (5 : Int) (5 : Int)) := F2z35
  refine lv_goto (tgt := 45) hx hb d_X_digits_26 (by decide) ?_
  refine lv_istore (lv' := [(4, .int rz35), (3, .int (5 : Int32)), (1, .long v31), (0, .ref p0)]) hx hb d_X_digits_45 hl (by decide) rfl (fun ls hl => ?_)
  refine lv_ldc2 (v := 10) hx hb hown (hk _ k_1490) d_X_digits_47 ?_
  refine lv_lload_n hx hb d_X_digits_50 rfl (lv_at hl 2 rfl) ?_
  refine lv_lmul hx hb d_X_digits_51 ?_
  refine lv_topl (fun v36 hv36 => ?_)
  obtain ⟨ev36, Rv36⟩ : v36.toInt = (10 : Int) * v31.toInt ∧ (0 ≤ v36.toInt ∧ v36.toInt ≤ 99990) := ml6 hv36 (show 10 ≤ (10 : Int64).toInt ∧ (10 : Int64).toInt ≤ 10 from by decide) Rv31 (by decide) (by decide) (by decide) (by decide) (by decide) (by decide)
  refine lv_iload hx hb d_X_digits_52 (lv_at hl 0 rfl) ?_
  refine lv_bipush (v := 10) hx hb d_X_digits_54 (by decide) ?_
  refine lv_irem hx hb d_X_digits_56 (by decide) ?_
  refine lv_topi (fun v37 hv37 => ?_)
  obtain ⟨ev37, lv37, Rv37⟩ : v37.toInt = rz35.toInt % (10 : Int) ∧ v37.toInt < (10 : Int) ∧ (0 ≤ v37.toInt ∧ v37.toInt ≤ 9) := rm3 hv37 F0z35 (show 10 ≤ (10 : Int32).toInt ∧ (10 : Int32).toInt ≤ 10 from by decide) (by decide) (by decide) (by decide)
  refine lv_i2l (v := (v37 : Int32).toInt64) hx hb d_X_digits_57 rfl ?_
  refine lv_topl (fun v38 hv38 => ?_)
  obtain ⟨ev38, Rv38⟩ : v38.toInt = v37.toInt ∧ (0 ≤ v38.toInt ∧ v38.toInt ≤ 9) := il3 hv38 Rv37
  refine lv_ladd hx hb d_X_digits_58 ?_
  refine lv_topl (fun v39 hv39 => ?_)
  obtain ⟨ev39, Rv39⟩ : v39.toInt = v36.toInt + v38.toInt ∧ (0 ≤ v39.toInt ∧ v39.toInt ≤ 99999) := ad6 hv39 Rv36 Rv38 (by decide) (by decide) (by decide) (by decide)
  refine lv_lstore_n (lv' := [(1, .long v39), (4, .int rz35), (3, .int (5 : Int32)), (0, .ref p0)]) hx hb d_X_digits_59 rfl hl (by decide) rfl (fun ls hl => ?_)
  refine lv_iinc (v := (6 : Int32)) (lv' := [(3, .int (6 : Int32)), (1, .long v39), (4, .int rz35), (0, .ref p0)]) hx hb d_X_digits_60 hl (k := 2) rfl (by decide) (by decide) rfl (fun ls hl => ?_)
  refine lv_goto (tgt := 4) hx hb d_X_digits_63 (by decide) ?_
  refine lv_iload_n hx hb d_X_digits_4 rfl (lv_at hl 0 rfl) ?_
  refine lv_bipush (v := 10) hx hb d_X_digits_5 (by decide) ?_
  refine lv_icmp_gt (tgt := 66) hx hb d_X_digits_7 (by decide) (fun c40 => absurd c40 (show ¬ (10 : Int32) < (6 : Int32) from (by decide))) (fun c40 => ?_)
  refine lv_iload_n hx hb d_X_digits_10 rfl (lv_at hl 0 rfl) ?_
  refine lv_iconst (v := 5) hx hb d_X_digits_11 (by decide) ?_
  refine lv_icmp_gt (tgt := 29) hx hb d_X_digits_12 (by decide) (fun c41 => ?_) (fun c41 => absurd (show (5 : Int32) < (6 : Int32) from (by decide)) c41)
  refine lv_aload_n hx hb d_X_digits_29 rfl (lv_at hl 3 rfl) ?_
  refine va_get (D := D) (ci := 7) (v := .ref p4) (C := "SignMachineModel") (T := F_X) (N := 64) hx hb hk fi_X hown hK.1 hP 0 rfl rfl 3 (by decide) (hk _ k_1124) (fun _ h9 => h9) rfl d_X_digits_30 ?_
  refine lv_bipush (v := 7) hx hb d_X_digits_33 (by decide) ?_
  refine va_iald hx hb hK.1 hP 4 0 rfl rfl (by unfold vp_in; decide) d_X_digits_35 ?_
  refine lv_topi (fun v42 hv42 => ?_)
  have Rv42 := Ay4 ((7 : Int32)).toNatClampNeg
  rw [← hv42] at Rv42
  obtain ⟨Rv42, Xv42⟩ := Rv42
  have : ((((7 : Int32)).toNatClampNeg : Nat) : Int) = 7 := by decide
  refine lv_iload_n hx hb d_X_digits_36 rfl (lv_at hl 0 rfl) ?_
  refine lv_iconst (v := 5) hx hb d_X_digits_37 (by decide) ?_
  refine lv_isub hx hb d_X_digits_38 ?_
  refine tpi (y := (1 : Int32)) (by decide) ?_
  refine lv_iload_n hx hb d_X_digits_39 rfl (lv_at hl 0 rfl) ?_
  refine lv_iconst (v := 5) hx hb d_X_digits_40 (by decide) ?_
  refine lv_isub hx hb d_X_digits_41 ?_
  refine tpi (y := (1 : Int32)) (by decide) ?_
  refine vp_callSi (W.runS (As := [.int v42, .int (1 : Int32), .int (1 : Int32)]) (rest := []) ⟨hx, hb, hml, hown, hk⟩ (c_X_bytes l v42 (1 : Int32) (1 : Int32) Rv42 (by decide) (by decide)) (s_X_bytes hk k_1412 ⟨Nat.le_of_ble_eq_true rfl, Nat.le_of_ble_eq_true rfl⟩) ⟨fun a U g mk q => q, fun U hU hW => ⟨rfl, trivial⟩⟩ rfl rfl hl.1 rfl (lv_room (Nat.le_of_ble_eq_true rfl)) d_X_digits_42 ⟨Nat.le_of_ble_eq_true rfl, Nat.le_of_ble_eq_true rfl⟩) (fun rz43 hrz43 => ?_)
  obtain ⟨F0z43, F1z43, F2z43⟩ := hrz43
  have F0z43 : 0 ≤ rz43.toInt ∧ rz43.toInt ≤ 1073741823 := F0z43
  have F1z43 : hid ((1 : Int) = (1 : Int) → rz43.toInt ≤ 63) := F1z43
  have F2z43 : hid (rz43.toInt = bt v42.toInt (1 : Int) (1 : Int)) := F2z43
  refine lv_istore (lv' := [(4, .int rz43), (3, .int (6 : Int32)), (1, .long v39), (0, .ref p0)]) hx hb d_X_digits_45 hl (by decide) rfl (fun ls hl => ?_)
  refine lv_ldc2 (v := 10) hx hb hown (hk _ k_1490) d_X_digits_47 ?_
  refine lv_lload_n hx hb d_X_digits_50 rfl (lv_at hl 2 rfl) ?_
  refine lv_lmul hx hb d_X_digits_51 ?_
  refine lv_topl (fun v44 hv44 => ?_)
  obtain ⟨ev44, Rv44⟩ : v44.toInt = (10 : Int) * v39.toInt ∧ (0 ≤ v44.toInt ∧ v44.toInt ≤ 999990) := ml6 hv44 (show 10 ≤ (10 : Int64).toInt ∧ (10 : Int64).toInt ≤ 10 from by decide) Rv39 (by decide) (by decide) (by decide) (by decide) (by decide) (by decide)
  refine lv_iload hx hb d_X_digits_52 (lv_at hl 0 rfl) ?_
  refine lv_bipush (v := 10) hx hb d_X_digits_54 (by decide) ?_
  refine lv_irem hx hb d_X_digits_56 (by decide) ?_
  refine lv_topi (fun v45 hv45 => ?_)
  obtain ⟨ev45, lv45, Rv45⟩ : v45.toInt = rz43.toInt % (10 : Int) ∧ v45.toInt < (10 : Int) ∧ (0 ≤ v45.toInt ∧ v45.toInt ≤ 9) := rm3 hv45 F0z43 (show 10 ≤ (10 : Int32).toInt ∧ (10 : Int32).toInt ≤ 10 from by decide) (by decide) (by decide) (by decide)
  refine lv_i2l (v := (v45 : Int32).toInt64) hx hb d_X_digits_57 rfl ?_
  refine lv_topl (fun v46 hv46 => ?_)
  obtain ⟨ev46, Rv46⟩ : v46.toInt = v45.toInt ∧ (0 ≤ v46.toInt ∧ v46.toInt ≤ 9) := il3 hv46 Rv45
  refine lv_ladd hx hb d_X_digits_58 ?_
  refine lv_topl (fun v47 hv47 => ?_)
  obtain ⟨ev47, Rv47⟩ : v47.toInt = v44.toInt + v46.toInt ∧ (0 ≤ v47.toInt ∧ v47.toInt ≤ 999999) := ad6 hv47 Rv44 Rv46 (by decide) (by decide) (by decide) (by decide)
  refine lv_lstore_n (lv' := [(1, .long v47), (4, .int rz43), (3, .int (6 : Int32)), (0, .ref p0)]) hx hb d_X_digits_59 rfl hl (by decide) rfl (fun ls hl => ?_)
  refine lv_iinc (v := (7 : Int32)) (lv' := [(3, .int (7 : Int32)), (1, .long v47), (4, .int rz43), (0, .ref p0)]) hx hb d_X_digits_60 hl (k := 2) rfl (by decide) (by decide) rfl (fun ls hl => ?_)
  refine lv_goto (tgt := 4) hx hb d_X_digits_63 (by decide) ?_
  refine lv_iload_n hx hb d_X_digits_4 rfl (lv_at hl 0 rfl) ?_
  refine lv_bipush (v := 10) hx hb d_X_digits_5 (by decide) ?_
  refine lv_icmp_gt (tgt := 66) hx hb d_X_digits_7 (by decide) (fun c48 => absurd c48 (show ¬ (10 : Int32) < (7 : Int32) from (by decide))) (fun c48 => ?_)
  refine lv_iload_n hx hb d_X_digits_10 rfl (lv_at hl 0 rfl) ?_
  refine lv_iconst (v := 5) hx hb d_X_digits_11 (by decide) ?_
  refine lv_icmp_gt (tgt := 29) hx hb d_X_digits_12 (by decide) (fun c49 => ?_) (fun c49 => absurd (show (5 : Int32) < (7 : Int32) from (by decide)) c49)
  refine lv_aload_n hx hb d_X_digits_29 rfl (lv_at hl 3 rfl) ?_
  refine va_get (D := D) (ci := 7) (v := .ref p4) (C := "SignMachineModel") (T := F_X) (N := 64) hx hb hk fi_X hown hK.1 hP 0 rfl rfl 3 (by decide) (hk _ k_1124) (fun _ h9 => h9) rfl d_X_digits_30 ?_
  refine lv_bipush (v := 7) hx hb d_X_digits_33 (by decide) ?_
  refine va_iald hx hb hK.1 hP 4 0 rfl rfl (by unfold vp_in; decide) d_X_digits_35 ?_
  refine lv_topi (fun v50 hv50 => ?_)
  have Rv50 := Ay4 ((7 : Int32)).toNatClampNeg
  rw [← hv50] at Rv50
  obtain ⟨Rv50, Xv50⟩ := Rv50
  have : ((((7 : Int32)).toNatClampNeg : Nat) : Int) = 7 := by decide
  refine lv_iload_n hx hb d_X_digits_36 rfl (lv_at hl 0 rfl) ?_
  refine lv_iconst (v := 5) hx hb d_X_digits_37 (by decide) ?_
  refine lv_isub hx hb d_X_digits_38 ?_
  refine tpi (y := (2 : Int32)) (by decide) ?_
  refine lv_iload_n hx hb d_X_digits_39 rfl (lv_at hl 0 rfl) ?_
  refine lv_iconst (v := 5) hx hb d_X_digits_40 (by decide) ?_
  refine lv_isub hx hb d_X_digits_41 ?_
  refine tpi (y := (2 : Int32)) (by decide) ?_
  refine vp_callSi (W.runS (As := [.int v50, .int (2 : Int32), .int (2 : Int32)]) (rest := []) ⟨hx, hb, hml, hown, hk⟩ (c_X_bytes l v50 (2 : Int32) (2 : Int32) Rv50 (by decide) (by decide)) (s_X_bytes hk k_1412 ⟨Nat.le_of_ble_eq_true rfl, Nat.le_of_ble_eq_true rfl⟩) ⟨fun a U g mk q => q, fun U hU hW => ⟨rfl, trivial⟩⟩ rfl rfl hl.1 rfl (lv_room (Nat.le_of_ble_eq_true rfl)) d_X_digits_42 ⟨Nat.le_of_ble_eq_true rfl, Nat.le_of_ble_eq_true rfl⟩) (fun rz51 hrz51 => ?_)
  obtain ⟨F0z51, F1z51, F2z51⟩ := hrz51
  have F0z51 : 0 ≤ rz51.toInt ∧ rz51.toInt ≤ 1073741823 := F0z51
  have F1z51 : hid ((2 : Int) = (2 : Int) → rz51.toInt ≤ 63) := F1z51
  have F2z51 : hid (rz51.toInt = bt v50.toInt (2 : Int) (2 : Int)) := F2z51
  refine lv_istore (lv' := [(4, .int rz51), (3, .int (7 : Int32)), (1, .long v47), (0, .ref p0)]) hx hb d_X_digits_45 hl (by decide) rfl (fun ls hl => ?_)
  refine lv_ldc2 (v := 10) hx hb hown (hk _ k_1490) d_X_digits_47 ?_
  refine lv_lload_n hx hb d_X_digits_50 rfl (lv_at hl 2 rfl) ?_
  refine lv_lmul hx hb d_X_digits_51 ?_
  refine lv_topl (fun v52 hv52 => ?_)
  obtain ⟨ev52, Rv52⟩ : v52.toInt = (10 : Int) * v47.toInt ∧ (0 ≤ v52.toInt ∧ v52.toInt ≤ 9999990) := ml6 hv52 (show 10 ≤ (10 : Int64).toInt ∧ (10 : Int64).toInt ≤ 10 from by decide) Rv47 (by decide) (by decide) (by decide) (by decide) (by decide) (by decide)
  refine lv_iload hx hb d_X_digits_52 (lv_at hl 0 rfl) ?_
  refine lv_bipush (v := 10) hx hb d_X_digits_54 (by decide) ?_
  refine lv_irem hx hb d_X_digits_56 (by decide) ?_
  refine lv_topi (fun v53 hv53 => ?_)
  obtain ⟨ev53, lv53, Rv53⟩ : v53.toInt = rz51.toInt % (10 : Int) ∧ v53.toInt < (10 : Int) ∧ (0 ≤ v53.toInt ∧ v53.toInt ≤ 9) := rm3 hv53 F0z51 (show 10 ≤ (10 : Int32).toInt ∧ (10 : Int32).toInt ≤ 10 from by decide) (by decide) (by decide) (by decide)
  refine lv_i2l (v := (v53 : Int32).toInt64) hx hb d_X_digits_57 rfl ?_
  refine lv_topl (fun v54 hv54 => ?_)
  obtain ⟨ev54, Rv54⟩ : v54.toInt = v53.toInt ∧ (0 ≤ v54.toInt ∧ v54.toInt ≤ 9) := il3 hv54 Rv53
  refine lv_ladd hx hb d_X_digits_58 ?_
  refine lv_topl (fun v55 hv55 => ?_)
  obtain ⟨ev55, Rv55⟩ : v55.toInt = v52.toInt + v54.toInt ∧ (0 ≤ v55.toInt ∧ v55.toInt ≤ 9999999) := ad6 hv55 Rv52 Rv54 (by decide) (by decide) (by decide) (by decide)
  refine lv_lstore_n (lv' := [(1, .long v55), (4, .int rz51), (3, .int (7 : Int32)), (0, .ref p0)]) hx hb d_X_digits_59 rfl hl (by decide) rfl (fun ls hl => ?_)
  refine lv_iinc (v := (8 : Int32)) (lv' := [(3, .int (8 : Int32)), (1, .long v55), (4, .int rz51), (0, .ref p0)]) hx hb d_X_digits_60 hl (k := 2) rfl (by decide) (by decide) rfl (fun ls hl => ?_)
  refine lv_goto (tgt := 4) hx hb d_X_digits_63 (by decide) ?_
  refine lv_iload_n hx hb d_X_digits_4 rfl (lv_at hl 0 rfl) ?_
  refine lv_bipush (v := 10) hx hb d_X_digits_5 (by decide) ?_
  refine lv_icmp_gt (tgt := 66) hx hb d_X_digits_7 (by decide) (fun c56 => absurd c56 (show ¬ (10 : Int32) < (8 : Int32) from (by decide))) (fun c56 => ?_)
  refine lv_iload_n hx hb d_X_digits_10 rfl (lv_at hl 0 rfl) ?_
  refine lv_iconst (v := 5) hx hb d_X_digits_11 (by decide) ?_
  refine lv_icmp_gt (tgt := 29) hx hb d_X_digits_12 (by decide) (fun c57 => ?_) (fun c57 => absurd (show (5 : Int32) < (8 : Int32) from (by decide)) c57)
  refine lv_aload_n hx hb d_X_digits_29 rfl (lv_at hl 3 rfl) ?_
  refine va_get (D := D) (ci := 7) (v := .ref p4) (C := "SignMachineModel") (T := F_X) (N := 64) hx hb hk fi_X hown hK.1 hP 0 rfl rfl 3 (by decide) (hk _ k_1124) (fun _ h9 => h9) rfl d_X_digits_30 ?_
  refine lv_bipush (v := 7) hx hb d_X_digits_33 (by decide) ?_
  refine va_iald hx hb hK.1 hP 4 0 rfl rfl (by unfold vp_in; decide) d_X_digits_35 ?_
  refine lv_topi (fun v58 hv58 => ?_)
  have Rv58 := Ay4 ((7 : Int32)).toNatClampNeg
  rw [← hv58] at Rv58
  obtain ⟨Rv58, Xv58⟩ := Rv58
  have : ((((7 : Int32)).toNatClampNeg : Nat) : Int) = 7 := by decide
  refine lv_iload_n hx hb d_X_digits_36 rfl (lv_at hl 0 rfl) ?_
  refine lv_iconst (v := 5) hx hb d_X_digits_37 (by decide) ?_
  refine lv_isub hx hb d_X_digits_38 ?_
  refine tpi (y := (3 : Int32)) (by decide) ?_
  refine lv_iload_n hx hb d_X_digits_39 rfl (lv_at hl 0 rfl) ?_
  refine lv_iconst (v := 5) hx hb d_X_digits_40 (by decide) ?_
  refine lv_isub hx hb d_X_digits_41 ?_
  refine tpi (y := (3 : Int32)) (by decide) ?_
  refine vp_callSi (W.runS (As := [.int v58, .int (3 : Int32), .int (3 : Int32)]) (rest := []) ⟨hx, hb, hml, hown, hk⟩ (c_X_bytes l v58 (3 : Int32) (3 : Int32) Rv58 (by decide) (by decide)) (s_X_bytes hk k_1412 ⟨Nat.le_of_ble_eq_true rfl, Nat.le_of_ble_eq_true rfl⟩) ⟨fun a U g mk q => q, fun U hU hW => ⟨rfl, trivial⟩⟩ rfl rfl hl.1 rfl (lv_room (Nat.le_of_ble_eq_true rfl)) d_X_digits_42 ⟨Nat.le_of_ble_eq_true rfl, Nat.le_of_ble_eq_true rfl⟩) (fun rz59 hrz59 => ?_)
  obtain ⟨F0z59, F1z59, F2z59⟩ := hrz59
  have F0z59 : 0 ≤ rz59.toInt ∧ rz59.toInt ≤ 1073741823 := F0z59
  have F1z59 : hid ((3 : Int) = (3 : Int) → rz59.toInt ≤ 63) := F1z59
  have F2z59 : hid (rz59.toInt = bt v58.toInt (3 : Int) (3 : Int)) := F2z59
  refine lv_istore (lv' := [(4, .int rz59), (3, .int (8 : Int32)), (1, .long v55), (0, .ref p0)]) hx hb d_X_digits_45 hl (by decide) rfl (fun ls hl => ?_)
  refine lv_ldc2 (v := 10) hx hb hown (hk _ k_1490) d_X_digits_47 ?_
  refine lv_lload_n hx hb d_X_digits_50 rfl (lv_at hl 2 rfl) ?_
  refine lv_lmul hx hb d_X_digits_51 ?_
  refine lv_topl (fun v60 hv60 => ?_)
  obtain ⟨ev60, Rv60⟩ : v60.toInt = (10 : Int) * v55.toInt ∧ (0 ≤ v60.toInt ∧ v60.toInt ≤ 99999990) := ml6 hv60 (show 10 ≤ (10 : Int64).toInt ∧ (10 : Int64).toInt ≤ 10 from by decide) Rv55 (by decide) (by decide) (by decide) (by decide) (by decide) (by decide)
  refine lv_iload hx hb d_X_digits_52 (lv_at hl 0 rfl) ?_
  refine lv_bipush (v := 10) hx hb d_X_digits_54 (by decide) ?_
  refine lv_irem hx hb d_X_digits_56 (by decide) ?_
  refine lv_topi (fun v61 hv61 => ?_)
  obtain ⟨ev61, lv61, Rv61⟩ : v61.toInt = rz59.toInt % (10 : Int) ∧ v61.toInt < (10 : Int) ∧ (0 ≤ v61.toInt ∧ v61.toInt ≤ 9) := rm3 hv61 F0z59 (show 10 ≤ (10 : Int32).toInt ∧ (10 : Int32).toInt ≤ 10 from by decide) (by decide) (by decide) (by decide)
  refine lv_i2l (v := (v61 : Int32).toInt64) hx hb d_X_digits_57 rfl ?_
  refine lv_topl (fun v62 hv62 => ?_)
  obtain ⟨ev62, Rv62⟩ : v62.toInt = v61.toInt ∧ (0 ≤ v62.toInt ∧ v62.toInt ≤ 9) := il3 hv62 Rv61
  refine lv_ladd hx hb d_X_digits_58 ?_
  refine lv_topl (fun v63 hv63 => ?_)
  obtain ⟨ev63, Rv63⟩ : v63.toInt = v60.toInt + v62.toInt ∧ (0 ≤ v63.toInt ∧ v63.toInt ≤ 99999999) := ad6 hv63 Rv60 Rv62 (by decide) (by decide) (by decide) (by decide)
  refine lv_lstore_n (lv' := [(1, .long v63), (4, .int rz59), (3, .int (8 : Int32)), (0, .ref p0)]) hx hb d_X_digits_59 rfl hl (by decide) rfl (fun ls hl => ?_)
  refine lv_iinc (v := (9 : Int32)) (lv' := [(3, .int (9 : Int32)), (1, .long v63), (4, .int rz59), (0, .ref p0)]) hx hb d_X_digits_60 hl (k := 2) rfl (by decide) (by decide) rfl (fun ls hl => ?_)
  refine lv_goto (tgt := 4) hx hb d_X_digits_63 (by decide) ?_
  refine lv_iload_n hx hb d_X_digits_4 rfl (lv_at hl 0 rfl) ?_
  refine lv_bipush (v := 10) hx hb d_X_digits_5 (by decide) ?_
  refine lv_icmp_gt (tgt := 66) hx hb d_X_digits_7 (by decide) (fun c64 => absurd c64 (show ¬ (10 : Int32) < (9 : Int32) from (by decide))) (fun c64 => ?_)
  refine lv_iload_n hx hb d_X_digits_10 rfl (lv_at hl 0 rfl) ?_
  refine lv_iconst (v := 5) hx hb d_X_digits_11 (by decide) ?_
  refine lv_icmp_gt (tgt := 29) hx hb d_X_digits_12 (by decide) (fun c65 => ?_) (fun c65 => absurd (show (5 : Int32) < (9 : Int32) from (by decide)) c65)
  refine lv_aload_n hx hb d_X_digits_29 rfl (lv_at hl 3 rfl) ?_
  refine va_get (D := D) (ci := 7) (v := .ref p4) (C := "SignMachineModel") (T := F_X) (N := 64) hx hb hk fi_X hown hK.1 hP 0 rfl rfl 3 (by decide) (hk _ k_1124) (fun _ h9 => h9) rfl d_X_digits_30 ?_
  refine lv_bipush (v := 7) hx hb d_X_digits_33 (by decide) ?_
  refine va_iald hx hb hK.1 hP 4 0 rfl rfl (by unfold vp_in; decide) d_X_digits_35 ?_
  refine lv_topi (fun v66 hv66 => ?_)
  have Rv66 := Ay4 ((7 : Int32)).toNatClampNeg
  rw [← hv66] at Rv66
  obtain ⟨Rv66, Xv66⟩ := Rv66
  have : ((((7 : Int32)).toNatClampNeg : Nat) : Int) = 7 := by decide
  refine lv_iload_n hx hb d_X_digits_36 rfl (lv_at hl 0 rfl) ?_
  refine lv_iconst (v := 5) hx hb d_X_digits_37 (by decide) ?_
  refine lv_isub hx hb d_X_digits_38 ?_
  refine tpi (y := (4 : Int32)) (by decide) ?_
  refine lv_iload_n hx hb d_X_digits_39 rfl (lv_at hl 0 rfl) ?_
  refine lv_iconst (v := 5) hx hb d_X_digits_40 (by decide) ?_
  refine lv_isub hx hb d_X_digits_41 ?_
  refine tpi (y := (4 : Int32)) (by decide) ?_
  refine vp_callSi (W.runS (As := [.int v66, .int (4 : Int32), .int (4 : Int32)]) (rest := []) ⟨hx, hb, hml, hown, hk⟩ (c_X_bytes l v66 (4 : Int32) (4 : Int32) Rv66 (by decide) (by decide)) (s_X_bytes hk k_1412 ⟨Nat.le_of_ble_eq_true rfl, Nat.le_of_ble_eq_true rfl⟩) ⟨fun a U g mk q => q, fun U hU hW => ⟨rfl, trivial⟩⟩ rfl rfl hl.1 rfl (lv_room (Nat.le_of_ble_eq_true rfl)) d_X_digits_42 ⟨Nat.le_of_ble_eq_true rfl, Nat.le_of_ble_eq_true rfl⟩) (fun rz67 hrz67 => ?_)
  obtain ⟨F0z67, F1z67, F2z67⟩ := hrz67
  have F0z67 : 0 ≤ rz67.toInt ∧ rz67.toInt ≤ 1073741823 := F0z67
  have F1z67 : hid ((4 : Int) = (4 : Int) → rz67.toInt ≤ 63) := F1z67
  have F2z67 : hid (rz67.toInt = bt v66.toInt (4 : Int) (4 : Int)) := F2z67
  refine lv_istore (lv' := [(4, .int rz67), (3, .int (9 : Int32)), (1, .long v63), (0, .ref p0)]) hx hb d_X_digits_45 hl (by decide) rfl (fun ls hl => ?_)
  refine lv_ldc2 (v := 10) hx hb hown (hk _ k_1490) d_X_digits_47 ?_
  refine lv_lload_n hx hb d_X_digits_50 rfl (lv_at hl 2 rfl) ?_
  refine lv_lmul hx hb d_X_digits_51 ?_
  refine lv_topl (fun v68 hv68 => ?_)
  obtain ⟨ev68, Rv68⟩ : v68.toInt = (10 : Int) * v63.toInt ∧ (0 ≤ v68.toInt ∧ v68.toInt ≤ 999999990) := ml6 hv68 (show 10 ≤ (10 : Int64).toInt ∧ (10 : Int64).toInt ≤ 10 from by decide) Rv63 (by decide) (by decide) (by decide) (by decide) (by decide) (by decide)
  refine lv_iload hx hb d_X_digits_52 (lv_at hl 0 rfl) ?_
  refine lv_bipush (v := 10) hx hb d_X_digits_54 (by decide) ?_
  refine lv_irem hx hb d_X_digits_56 (by decide) ?_
  refine lv_topi (fun v69 hv69 => ?_)
  obtain ⟨ev69, lv69, Rv69⟩ : v69.toInt = rz67.toInt % (10 : Int) ∧ v69.toInt < (10 : Int) ∧ (0 ≤ v69.toInt ∧ v69.toInt ≤ 9) := rm3 hv69 F0z67 (show 10 ≤ (10 : Int32).toInt ∧ (10 : Int32).toInt ≤ 10 from by decide) (by decide) (by decide) (by decide)
  refine lv_i2l (v := (v69 : Int32).toInt64) hx hb d_X_digits_57 rfl ?_
  refine lv_topl (fun v70 hv70 => ?_)
  obtain ⟨ev70, Rv70⟩ : v70.toInt = v69.toInt ∧ (0 ≤ v70.toInt ∧ v70.toInt ≤ 9) := il3 hv70 Rv69
  refine lv_ladd hx hb d_X_digits_58 ?_
  refine lv_topl (fun v71 hv71 => ?_)
  obtain ⟨ev71, Rv71⟩ : v71.toInt = v68.toInt + v70.toInt ∧ (0 ≤ v71.toInt ∧ v71.toInt ≤ 999999999) := ad6 hv71 Rv68 Rv70 (by decide) (by decide) (by decide) (by decide)
  refine lv_lstore_n (lv' := [(1, .long v71), (4, .int rz67), (3, .int (9 : Int32)), (0, .ref p0)]) hx hb d_X_digits_59 rfl hl (by decide) rfl (fun ls hl => ?_)
  refine lv_iinc (v := (10 : Int32)) (lv' := [(3, .int (10 : Int32)), (1, .long v71), (4, .int rz67), (0, .ref p0)]) hx hb d_X_digits_60 hl (k := 2) rfl (by decide) (by decide) rfl (fun ls hl => ?_)
  refine lv_goto (tgt := 4) hx hb d_X_digits_63 (by decide) ?_
  refine lv_iload_n hx hb d_X_digits_4 rfl (lv_at hl 0 rfl) ?_
  refine lv_bipush (v := 10) hx hb d_X_digits_5 (by decide) ?_
  refine lv_icmp_gt (tgt := 66) hx hb d_X_digits_7 (by decide) (fun c72 => absurd c72 (show ¬ (10 : Int32) < (10 : Int32) from (by decide))) (fun c72 => ?_)
  refine lv_iload_n hx hb d_X_digits_10 rfl (lv_at hl 0 rfl) ?_
  refine lv_iconst (v := 5) hx hb d_X_digits_11 (by decide) ?_
  refine lv_icmp_gt (tgt := 29) hx hb d_X_digits_12 (by decide) (fun c73 => ?_) (fun c73 => absurd (show (5 : Int32) < (10 : Int32) from (by decide)) c73)
  refine lv_aload_n hx hb d_X_digits_29 rfl (lv_at hl 3 rfl) ?_
  refine va_get (D := D) (ci := 7) (v := .ref p4) (C := "SignMachineModel") (T := F_X) (N := 64) hx hb hk fi_X hown hK.1 hP 0 rfl rfl 3 (by decide) (hk _ k_1124) (fun _ h9 => h9) rfl d_X_digits_30 ?_
  refine lv_bipush (v := 7) hx hb d_X_digits_33 (by decide) ?_
  refine va_iald hx hb hK.1 hP 4 0 rfl rfl (by unfold vp_in; decide) d_X_digits_35 ?_
  refine lv_topi (fun v74 hv74 => ?_)
  have Rv74 := Ay4 ((7 : Int32)).toNatClampNeg
  rw [← hv74] at Rv74
  obtain ⟨Rv74, Xv74⟩ := Rv74
  have : ((((7 : Int32)).toNatClampNeg : Nat) : Int) = 7 := by decide
  refine lv_iload_n hx hb d_X_digits_36 rfl (lv_at hl 0 rfl) ?_
  refine lv_iconst (v := 5) hx hb d_X_digits_37 (by decide) ?_
  refine lv_isub hx hb d_X_digits_38 ?_
  refine tpi (y := (5 : Int32)) (by decide) ?_
  refine lv_iload_n hx hb d_X_digits_39 rfl (lv_at hl 0 rfl) ?_
  refine lv_iconst (v := 5) hx hb d_X_digits_40 (by decide) ?_
  refine lv_isub hx hb d_X_digits_41 ?_
  refine tpi (y := (5 : Int32)) (by decide) ?_
  refine vp_callSi (W.runS (As := [.int v74, .int (5 : Int32), .int (5 : Int32)]) (rest := []) ⟨hx, hb, hml, hown, hk⟩ (c_X_bytes l v74 (5 : Int32) (5 : Int32) Rv74 (by decide) (by decide)) (s_X_bytes hk k_1412 ⟨Nat.le_of_ble_eq_true rfl, Nat.le_of_ble_eq_true rfl⟩) ⟨fun a U g mk q => q, fun U hU hW => ⟨rfl, trivial⟩⟩ rfl rfl hl.1 rfl (lv_room (Nat.le_of_ble_eq_true rfl)) d_X_digits_42 ⟨Nat.le_of_ble_eq_true rfl, Nat.le_of_ble_eq_true rfl⟩) (fun rz75 hrz75 => ?_)
  obtain ⟨F0z75, F1z75, F2z75⟩ := hrz75
  have F0z75 : 0 ≤ rz75.toInt ∧ rz75.toInt ≤ 1073741823 := F0z75
  have F1z75 : hid ((5 : Int) = (5 : Int) → rz75.toInt ≤ 63) := F1z75
  have F2z75 : hid (rz75.toInt = bt v74.toInt (5 : Int) (5 : Int)) := F2z75
  refine lv_istore (lv' := [(4, .int rz75), (3, .int (10 : Int32)), (1, .long v71), (0, .ref p0)]) hx hb d_X_digits_45 hl (by decide) rfl (fun ls hl => ?_)
  refine lv_ldc2 (v := 10) hx hb hown (hk _ k_1490) d_X_digits_47 ?_
  refine lv_lload_n hx hb d_X_digits_50 rfl (lv_at hl 2 rfl) ?_
  refine lv_lmul hx hb d_X_digits_51 ?_
  refine lv_topl (fun v76 hv76 => ?_)
  obtain ⟨ev76, Rv76⟩ : v76.toInt = (10 : Int) * v71.toInt ∧ (0 ≤ v76.toInt ∧ v76.toInt ≤ 9999999990) := ml6 hv76 (show 10 ≤ (10 : Int64).toInt ∧ (10 : Int64).toInt ≤ 10 from by decide) Rv71 (by decide) (by decide) (by decide) (by decide) (by decide) (by decide)
  refine lv_iload hx hb d_X_digits_52 (lv_at hl 0 rfl) ?_
  refine lv_bipush (v := 10) hx hb d_X_digits_54 (by decide) ?_
  refine lv_irem hx hb d_X_digits_56 (by decide) ?_
  refine lv_topi (fun v77 hv77 => ?_)
  obtain ⟨ev77, lv77, Rv77⟩ : v77.toInt = rz75.toInt % (10 : Int) ∧ v77.toInt < (10 : Int) ∧ (0 ≤ v77.toInt ∧ v77.toInt ≤ 9) := rm3 hv77 F0z75 (show 10 ≤ (10 : Int32).toInt ∧ (10 : Int32).toInt ≤ 10 from by decide) (by decide) (by decide) (by decide)
  refine lv_i2l (v := (v77 : Int32).toInt64) hx hb d_X_digits_57 rfl ?_
  refine lv_topl (fun v78 hv78 => ?_)
  obtain ⟨ev78, Rv78⟩ : v78.toInt = v77.toInt ∧ (0 ≤ v78.toInt ∧ v78.toInt ≤ 9) := il3 hv78 Rv77
  refine lv_ladd hx hb d_X_digits_58 ?_
  refine lv_topl (fun v79 hv79 => ?_)
  obtain ⟨ev79, Rv79⟩ : v79.toInt = v76.toInt + v78.toInt ∧ (0 ≤ v79.toInt ∧ v79.toInt ≤ 9999999999) := ad6 hv79 Rv76 Rv78 (by decide) (by decide) (by decide) (by decide)
  refine lv_lstore_n (lv' := [(1, .long v79), (4, .int rz75), (3, .int (10 : Int32)), (0, .ref p0)]) hx hb d_X_digits_59 rfl hl (by decide) rfl (fun ls hl => ?_)
  refine lv_iinc (v := (11 : Int32)) (lv' := [(3, .int (11 : Int32)), (1, .long v79), (4, .int rz75), (0, .ref p0)]) hx hb d_X_digits_60 hl (k := 2) rfl (by decide) (by decide) rfl (fun ls hl => ?_)
  refine lv_goto (tgt := 4) hx hb d_X_digits_63 (by decide) ?_
  refine lv_iload_n hx hb d_X_digits_4 rfl (lv_at hl 0 rfl) ?_
  refine lv_bipush (v := 10) hx hb d_X_digits_5 (by decide) ?_
  refine lv_icmp_gt (tgt := 66) hx hb d_X_digits_7 (by decide) (fun c80 => ?_) (fun c80 => absurd (show (10 : Int32) < (11 : Int32) from (by decide)) c80)
  refine lv_aload_n hx hb d_X_digits_66 rfl (lv_at hl 3 rfl) ?_
  refine lv_lload_n hx hb d_X_digits_67 rfl (lv_at hl 1 rfl) ?_
  refine lv_ldc2 (v := 1073741824) hx hb hown (hk _ k_1461) d_X_digits_68 ?_
  refine W.lcmp hx hb d_X_digits_71 ?_
  refine lv_topi (fun v81 hv81 => ?_)
  refine lv_if_lt (tgt := 79) hx hb d_X_digits_72 (by decide) (fun c82 => ?_) (fun c82 => ?_)
  · have gc82 : v79.toInt < (1073741824 : Int) := lc_lt hv81 c82
    have R83 : 0 ≤ v79.toInt ∧ v79.toInt ≤ 1073741823 := rf_ltX Rv79 (show 1073741824 ≤ (1073741824 : Int) ∧ (1073741824 : Int) ≤ 1073741824 from by decide) gc82 (by decide) (by decide)
    refine lv_aload_n hx hb d_X_digits_79 rfl (lv_at hl 3 rfl) ?_
    refine va_get (D := D) (ci := 7) (v := .int x0_5) (C := "SignMachineModel") (T := F_X) (N := 64) hx hb hk fi_X hown hK.1 hP 0 rfl rfl 5 (by decide) (hk _ k_1126) (fun _ h9 => h9) rfl d_X_digits_80 ?_
    refine va_put (D := D) (ci := 7) (v := .int x0_5) (ty := .int) (C := "SignMachineModel") (T := F_X) (N := 64) hx hb hk fi_X ft_X ft_X_ok fn_X hown hK.1 hP hD hS 0 rfl rfl 5 (by decide) (hk _ k_1126) (fun _ h9 => h9) rfl (by decide +kernel) rfl rfl (Nat.le_of_ble_eq_true rfl) d_X_digits_83 (fun H locs hP hD hS => ?_)
    have hP : va_P D classes (wS50 cI cJ cZ cB p0 p1 p2 p3 p4 p5 p6 p7 p8 p9 p10 p11 p12 p13 p14 p15 p16 p17 p18 p19 p20 p21 p22 p23 p24 p25 x0_4 x0_5 x0_6 x0_7 x0_8 x0_12 x0_13 x0_14 x0_15 x0_16 x0_17 x0_18 x0_22 x0_23 x0_24 x0_25 x0_26 x0_27 x0_28 x0_29 x0_30 x0_31 x0_32 x0_36 x0_39 x0_40 x0_44 x0_49 x0_51 x0_53 x0_54 x0_55 x0_56 x0_57 x0_58 x0_59 x0_60 x0_61 x0_62 y1 y2 y3 y4 y5 y6 y7 y8 y9 y10 y11 y12 y13 y14 y15 y16 y17 y18 y19 y20 y21 y22 y23 y24 y25) H := hP
    have hD : va_D A (wS50 cI cJ cZ cB p0 p1 p2 p3 p4 p5 p6 p7 p8 p9 p10 p11 p12 p13 p14 p15 p16 p17 p18 p19 p20 p21 p22 p23 p24 p25 x0_4 x0_5 x0_6 x0_7 x0_8 x0_12 x0_13 x0_14 x0_15 x0_16 x0_17 x0_18 x0_22 x0_23 x0_24 x0_25 x0_26 x0_27 x0_28 x0_29 x0_30 x0_31 x0_32 x0_36 x0_39 x0_40 x0_44 x0_49 x0_51 x0_53 x0_54 x0_55 x0_56 x0_57 x0_58 x0_59 x0_60 x0_61 x0_62 y1 y2 y3 y4 y5 y6 y7 y8 y9 y10 y11 y12 y13 y14 y15 y16 y17 y18 y19 y20 y21 y22 y23 y24 y25) := hD
    refine lv_aload_n hx hb d_X_digits_86 rfl (lv_at hl 3 rfl) ?_
    refine va_get (D := D) (ci := 7) (v := .ref p4) (C := "SignMachineModel") (T := F_X) (N := 64) hx hb hk fi_X hown hK.1 hP 0 rfl rfl 3 (by decide) (hk _ k_1124) (fun _ h9 => h9) rfl d_X_digits_87 ?_
    refine lv_iconst (v := 0) hx hb d_X_digits_90 (by decide) ?_
    refine lv_lload_n hx hb d_X_digits_91 rfl (lv_at hl 1 rfl) ?_
    refine lv_ldc2 (v := 1073741824) hx hb hown (hk _ k_1461) d_X_digits_92 ?_
    refine lv_lrem hx hb d_X_digits_95 (by decide) ?_
    refine lv_topl (fun v84 hv84 => ?_)
    obtain ⟨ev84, lv84, Rv84⟩ : v84.toInt = v79.toInt % (1073741824 : Int) ∧ v84.toInt < (1073741824 : Int) ∧ (0 ≤ v84.toInt ∧ v84.toInt ≤ 1073741823) := rm6 hv84 R83 (show 1073741824 ≤ (1073741824 : Int64).toInt ∧ (1073741824 : Int64).toInt ≤ 1073741824 from by decide) (by decide) (by decide) (by decide)
    refine lv_l2i (v := (v84 : Int64).toInt32) hx hb d_X_digits_96 rfl ?_
    refine lv_topi (fun v85 hv85 => ?_)
    obtain ⟨ev85, Rv85⟩ : v85.toInt = v84.toInt ∧ (0 ≤ v85.toInt ∧ v85.toInt ≤ 1073741823) := li3 hv85 Rv84 (by decide) (by decide)
    refine va_iast hx hb hK.1 hP hD hS 4 0 rfl rfl (by unfold vp_in; decide) d_X_digits_97 (fun H locs hP hD hS => ?_)
    have hP : va_P D classes (wS50 cI cJ cZ cB p0 p1 p2 p3 p4 p5 p6 p7 p8 p9 p10 p11 p12 p13 p14 p15 p16 p17 p18 p19 p20 p21 p22 p23 p24 p25 x0_4 x0_5 x0_6 x0_7 x0_8 x0_12 x0_13 x0_14 x0_15 x0_16 x0_17 x0_18 x0_22 x0_23 x0_24 x0_25 x0_26 x0_27 x0_28 x0_29 x0_30 x0_31 x0_32 x0_36 x0_39 x0_40 x0_44 x0_49 x0_51 x0_53 x0_54 x0_55 x0_56 x0_57 x0_58 x0_59 x0_60 x0_61 x0_62 y1 y2 y3 (upd y4 ((0 : Int32)).toNatClampNeg v85) y5 y6 y7 y8 y9 y10 y11 y12 y13 y14 y15 y16 y17 y18 y19 y20 y21 y22 y23 y24 y25) H := hP
    have hD : va_D A (wS50 cI cJ cZ cB p0 p1 p2 p3 p4 p5 p6 p7 p8 p9 p10 p11 p12 p13 p14 p15 p16 p17 p18 p19 p20 p21 p22 p23 p24 p25 x0_4 x0_5 x0_6 x0_7 x0_8 x0_12 x0_13 x0_14 x0_15 x0_16 x0_17 x0_18 x0_22 x0_23 x0_24 x0_25 x0_26 x0_27 x0_28 x0_29 x0_30 x0_31 x0_32 x0_36 x0_39 x0_40 x0_44 x0_49 x0_51 x0_53 x0_54 x0_55 x0_56 x0_57 x0_58 x0_59 x0_60 x0_61 x0_62 y1 y2 y3 (upd y4 ((0 : Int32)).toNatClampNeg v85) y5 y6 y7 y8 y9 y10 y11 y12 y13 y14 y15 y16 y17 y18 y19 y20 y21 y22 y23 y24 y25) := hD
    obtain ⟨v86, hv86⟩ : ∃ y : Nat → Int32, y = (upd y4 ((0 : Int32)).toNatClampNeg v85) := ⟨_, rfl⟩
    rw [← hv86] at hP hD
    have : ((((0 : Int32)).toNatClampNeg : Nat) : Int) = 0 := by decide
    have Gv86 : ((0 ≤ (v85).toInt ∧ (v85).toInt ≤ 1073741823) ∧ ((1 ≤ ((((0 : Int32)).toNatClampNeg : Nat) : Int) ∧ ((((0 : Int32)).toNatClampNeg : Nat) : Int) ≤ 6) → (v85).toInt ≤ 4095)) := ⟨Rv85, fun h => absurd h (by decide)⟩
    have Av86 : ∀ i : Nat, ((0 ≤ (v86 i).toInt ∧ (v86 i).toInt ≤ 1073741823) ∧ ((1 ≤ (i : Int) ∧ (i : Int) ≤ 6) → (v86 i).toInt ≤ 4095)) := by rw [hv86]; exact upd_all (P := fun i x => ((0 ≤ (x).toInt ∧ (x).toInt ≤ 1073741823) ∧ ((1 ≤ (i : Int) ∧ (i : Int) ≤ 6) → (x).toInt ≤ 4095))) Ay4 Gv86
    clear hv86
    exact W.vret hx hb hr (fun t ht hW => ⟨⟨(), rfl, trivial, ⟨x0_5, v86, Av86, by show va_P D classes _ t.heap; rw [ht]; exact hP, hD⟩⟩, hS.F ht⟩) hS.2.2 d_X_digits_98
  · have gc82 : (1073741824 : Int) ≤ v79.toInt := lc_nlt hv81 c82
    have R87 : 1073741824 ≤ v79.toInt ∧ v79.toInt ≤ 9999999999 := rf_geX Rv79 (show 1073741824 ≤ (1073741824 : Int) ∧ (1073741824 : Int) ≤ 1073741824 from by decide) gc82 (by decide) (by decide)
    refine lv_iconst (v := 1) hx hb d_X_digits_75 (by decide) ?_
    refine lv_goto (tgt := 83) hx hb d_X_digits_76 (by decide) ?_
    refine va_put (D := D) (ci := 7) (v := .int (1 : Int32)) (ty := .int) (C := "SignMachineModel") (T := F_X) (N := 64) hx hb hk fi_X ft_X ft_X_ok fn_X hown hK.1 hP hD hS 0 rfl rfl 5 (by decide) (hk _ k_1126) (fun _ h9 => h9) rfl (by decide +kernel) rfl rfl (Nat.le_of_ble_eq_true rfl) d_X_digits_83 (fun H locs hP hD hS => ?_)
    have hP : va_P D classes (wS50 cI cJ cZ cB p0 p1 p2 p3 p4 p5 p6 p7 p8 p9 p10 p11 p12 p13 p14 p15 p16 p17 p18 p19 p20 p21 p22 p23 p24 p25 x0_4 (1 : Int32) x0_6 x0_7 x0_8 x0_12 x0_13 x0_14 x0_15 x0_16 x0_17 x0_18 x0_22 x0_23 x0_24 x0_25 x0_26 x0_27 x0_28 x0_29 x0_30 x0_31 x0_32 x0_36 x0_39 x0_40 x0_44 x0_49 x0_51 x0_53 x0_54 x0_55 x0_56 x0_57 x0_58 x0_59 x0_60 x0_61 x0_62 y1 y2 y3 y4 y5 y6 y7 y8 y9 y10 y11 y12 y13 y14 y15 y16 y17 y18 y19 y20 y21 y22 y23 y24 y25) H := hP
    have hD : va_D A (wS50 cI cJ cZ cB p0 p1 p2 p3 p4 p5 p6 p7 p8 p9 p10 p11 p12 p13 p14 p15 p16 p17 p18 p19 p20 p21 p22 p23 p24 p25 x0_4 (1 : Int32) x0_6 x0_7 x0_8 x0_12 x0_13 x0_14 x0_15 x0_16 x0_17 x0_18 x0_22 x0_23 x0_24 x0_25 x0_26 x0_27 x0_28 x0_29 x0_30 x0_31 x0_32 x0_36 x0_39 x0_40 x0_44 x0_49 x0_51 x0_53 x0_54 x0_55 x0_56 x0_57 x0_58 x0_59 x0_60 x0_61 x0_62 y1 y2 y3 y4 y5 y6 y7 y8 y9 y10 y11 y12 y13 y14 y15 y16 y17 y18 y19 y20 y21 y22 y23 y24 y25) := hD
    refine lv_aload_n hx hb d_X_digits_86 rfl (lv_at hl 3 rfl) ?_
    refine va_get (D := D) (ci := 7) (v := .ref p4) (C := "SignMachineModel") (T := F_X) (N := 64) hx hb hk fi_X hown hK.1 hP 0 rfl rfl 3 (by decide) (hk _ k_1124) (fun _ h9 => h9) rfl d_X_digits_87 ?_
    refine lv_iconst (v := 0) hx hb d_X_digits_90 (by decide) ?_
    refine lv_lload_n hx hb d_X_digits_91 rfl (lv_at hl 1 rfl) ?_
    refine lv_ldc2 (v := 1073741824) hx hb hown (hk _ k_1461) d_X_digits_92 ?_
    refine lv_lrem hx hb d_X_digits_95 (by decide) ?_
    refine lv_topl (fun v88 hv88 => ?_)
    obtain ⟨ev88, lv88, Rv88⟩ : v88.toInt = v79.toInt % (1073741824 : Int) ∧ v88.toInt < (1073741824 : Int) ∧ (0 ≤ v88.toInt ∧ v88.toInt ≤ 1073741823) := rm6 hv88 R87 (show 1073741824 ≤ (1073741824 : Int64).toInt ∧ (1073741824 : Int64).toInt ≤ 1073741824 from by decide) (by decide) (by decide) (by decide)
    refine lv_l2i (v := (v88 : Int64).toInt32) hx hb d_X_digits_96 rfl ?_
    refine lv_topi (fun v89 hv89 => ?_)
    obtain ⟨ev89, Rv89⟩ : v89.toInt = v88.toInt ∧ (0 ≤ v89.toInt ∧ v89.toInt ≤ 1073741823) := li3 hv89 Rv88 (by decide) (by decide)
    refine va_iast hx hb hK.1 hP hD hS 4 0 rfl rfl (by unfold vp_in; decide) d_X_digits_97 (fun H locs hP hD hS => ?_)
    have hP : va_P D classes (wS50 cI cJ cZ cB p0 p1 p2 p3 p4 p5 p6 p7 p8 p9 p10 p11 p12 p13 p14 p15 p16 p17 p18 p19 p20 p21 p22 p23 p24 p25 x0_4 (1 : Int32) x0_6 x0_7 x0_8 x0_12 x0_13 x0_14 x0_15 x0_16 x0_17 x0_18 x0_22 x0_23 x0_24 x0_25 x0_26 x0_27 x0_28 x0_29 x0_30 x0_31 x0_32 x0_36 x0_39 x0_40 x0_44 x0_49 x0_51 x0_53 x0_54 x0_55 x0_56 x0_57 x0_58 x0_59 x0_60 x0_61 x0_62 y1 y2 y3 (upd y4 ((0 : Int32)).toNatClampNeg v89) y5 y6 y7 y8 y9 y10 y11 y12 y13 y14 y15 y16 y17 y18 y19 y20 y21 y22 y23 y24 y25) H := hP
    have hD : va_D A (wS50 cI cJ cZ cB p0 p1 p2 p3 p4 p5 p6 p7 p8 p9 p10 p11 p12 p13 p14 p15 p16 p17 p18 p19 p20 p21 p22 p23 p24 p25 x0_4 (1 : Int32) x0_6 x0_7 x0_8 x0_12 x0_13 x0_14 x0_15 x0_16 x0_17 x0_18 x0_22 x0_23 x0_24 x0_25 x0_26 x0_27 x0_28 x0_29 x0_30 x0_31 x0_32 x0_36 x0_39 x0_40 x0_44 x0_49 x0_51 x0_53 x0_54 x0_55 x0_56 x0_57 x0_58 x0_59 x0_60 x0_61 x0_62 y1 y2 y3 (upd y4 ((0 : Int32)).toNatClampNeg v89) y5 y6 y7 y8 y9 y10 y11 y12 y13 y14 y15 y16 y17 y18 y19 y20 y21 y22 y23 y24 y25) := hD
    obtain ⟨v90, hv90⟩ : ∃ y : Nat → Int32, y = (upd y4 ((0 : Int32)).toNatClampNeg v89) := ⟨_, rfl⟩
    rw [← hv90] at hP hD
    have : ((((0 : Int32)).toNatClampNeg : Nat) : Int) = 0 := by decide
    have Gv90 : ((0 ≤ (v89).toInt ∧ (v89).toInt ≤ 1073741823) ∧ ((1 ≤ ((((0 : Int32)).toNatClampNeg : Nat) : Int) ∧ ((((0 : Int32)).toNatClampNeg : Nat) : Int) ≤ 6) → (v89).toInt ≤ 4095)) := ⟨Rv89, fun h => absurd h (by decide)⟩
    have Av90 : ∀ i : Nat, ((0 ≤ (v90 i).toInt ∧ (v90 i).toInt ≤ 1073741823) ∧ ((1 ≤ (i : Int) ∧ (i : Int) ≤ 6) → (v90 i).toInt ≤ 4095)) := by rw [hv90]; exact upd_all (P := fun i x => ((0 ≤ (x).toInt ∧ (x).toInt ≤ 1073741823) ∧ ((1 ≤ (i : Int) ∧ (i : Int) ≤ 6) → (x).toInt ≤ 4095))) Ay4 Gv90
    clear hv90
    exact W.vret hx hb hr (fun t ht hW => ⟨⟨(), rfl, trivial, ⟨(1 : Int32), v90, Av90, by show va_P D classes _ t.heap; rw [ht]; exact hP, hD⟩⟩, hS.F ht⟩) hS.2.2 d_X_digits_98
theorem v_X_digits {R : Room} {s : State} {args : Array Value} {own : String} {index : Nat} (hk : ∀ w ∈ tb, w.before args s = true) (hl : Cond.methodLink own index y_X_digits ∈ tb) (hR : 2 + 1 ≤ R.frames ∧ 8 + (5 + 11) + 45 ≤ R.locals) : CallW R s args own "SignMachineModel" index y_X_digits b_X_digits 5 none (.code y_X_digits b_X_digits 5 none :: tb) ({ frames := 2, cells := 0, slots := 0, locals := 45 }) 0 0 0 := mk_v 0 hk k_1489 hl k_1488 k_83 k_119 rfl rfl h_X_digits hR
set_option maxHeartbeats 8000000 in
set_option maxRecDepth 100000 in
theorem c_X_letters (l : Launch) (D : va_G) (cI cJ cZ cB : ClassId) (p0 p1 p2 p3 p4 p5 p6 p7 p8 p9 p10 p11 p12 p13 p14 p15 p16 p17 p18 p19 p20 p21 p22 p23 p24 p25 : Nat) (sz : Nat) (x0_4 : Int32) (x0_5 : Int32) (x0_6 : Int32) (x0_7 : Int32) (x0_8 : Int32) (x0_12 : Int32) (x0_13 : Int32) (x0_14 : Int32) (x0_15 : Int32) (x0_16 : Int32) (x0_17 : Int32) (x0_18 : Int32) (x0_22 : Int32) (x0_23 : Int32) (x0_24 : Int32) (x0_25 : Int32) (x0_26 : Int32) (x0_27 : Int32) (x0_28 : Int32) (x0_29 : Int32) (x0_30 : Int32) (x0_31 : Int32) (x0_32 : Int32) (x0_36 : Int32) (x0_39 : Int32) (x0_40 : Int64) (x0_44 : Int32) (x0_49 : Int32) (x0_51 : Int32) (x0_53 : Int32) (x0_54 : Int32) (x0_55 : Int64) (x0_56 : Int32) (x0_57 : Int32) (x0_58 : Int32) (x0_59 : Int32) (x0_60 : Int32) (x0_61 : Int32) (x0_62 : Int64) (y1 : Nat → Int32) (y2 : Nat → Int32) (y3 : Nat → Int32) (y4 : Nat → Int32) (y5 : Nat → Int32) (y6 : Nat → Int32) (y7 : Nat → Int32) (y8 : Nat → Int32) (y9 : Nat → Int32) (y10 : Nat → Int32) (y11 : Nat → Int64) (y12 : Nat → Int32) (y13 : Nat → Int64) (y14 : Nat → Int32) (y15 : Nat → Int64) (y16 : Nat → Int32) (y17 : Nat → Int32) (y18 : Nat → Int32) (y19 : Nat → Int32) (y20 : Nat → Int32) (y21 : Nat → Int32) (y22 : Nat → Int32) (y23 : Nat → Int32) (y24 : Nat → Int64) (y25 : Nat → Int64)  (Ay4 : ∀ i : Nat, ((0 ≤ (y4 i).toInt ∧ (y4 i).toInt ≤ 1073741823) ∧ ((1 ≤ (i : Int) ∧ (i : Int) ≤ 6) → (y4 i).toInt ≤ 4095))) : Met l y_X_letters (.code y_X_letters b_X_letters 7 none :: tb) ({ frames := 0, cells := 0, slots := 0, locals := 0 }) (pM D cI cJ cZ cB (wS50 cI cJ cZ cB p0 p1 p2 p3 p4 p5 p6 p7 p8 p9 p10 p11 p12 p13 p14 p15 p16 p17 p18 p19 p20 p21 p22 p23 p24 p25 x0_4 x0_5 x0_6 x0_7 x0_8 x0_12 x0_13 x0_14 x0_15 x0_16 x0_17 x0_18 x0_22 x0_23 x0_24 x0_25 x0_26 x0_27 x0_28 x0_29 x0_30 x0_31 x0_32 x0_36 x0_39 x0_40 x0_44 x0_49 x0_51 x0_53 x0_54 x0_55 x0_56 x0_57 x0_58 x0_59 x0_60 x0_61 x0_62 y1 y2 y3 y4 y5 y6 y7 y8 y9 y10 y11 y12 y13 y14 y15 y16 y17 y18 y19 y20 y21 y22 y23 y24 y25) sz [.ref p0]) (va_Qv (fun (_ : Unit) => True) (fun _ t => ∃ u_y4 : Nat → Int32, (∀ i : Nat, ((0 ≤ (u_y4 i).toInt ∧ (u_y4 i).toInt ≤ 1073741823) ∧ ((1 ≤ (i : Int) ∧ (i : Int) ≤ 6) → (u_y4 i).toInt ≤ 4095))) ∧ va_P D classes (wS50 cI cJ cZ cB p0 p1 p2 p3 p4 p5 p6 p7 p8 p9 p10 p11 p12 p13 p14 p15 p16 p17 p18 p19 p20 p21 p22 p23 p24 p25 x0_4 x0_5 x0_6 x0_7 x0_8 x0_12 x0_13 x0_14 x0_15 x0_16 x0_17 x0_18 x0_22 x0_23 x0_24 x0_25 x0_26 x0_27 x0_28 x0_29 x0_30 x0_31 x0_32 x0_36 x0_39 x0_40 x0_44 x0_49 x0_51 x0_53 x0_54 x0_55 x0_56 x0_57 x0_58 x0_59 x0_60 x0_61 x0_62 y1 y2 y3 u_y4 y5 y6 y7 y8 y9 y10 y11 y12 y13 y14 y15 y16 y17 y18 y19 y20 y21 y22 y23 y24 y25) t.heap ∧ va_D (va_A (wS50 cI cJ cZ cB p0 p1 p2 p3 p4 p5 p6 p7 p8 p9 p10 p11 p12 p13 p14 p15 p16 p17 p18 p19 p20 p21 p22 p23 p24 p25 x0_4 x0_5 x0_6 x0_7 x0_8 x0_12 x0_13 x0_14 x0_15 x0_16 x0_17 x0_18 x0_22 x0_23 x0_24 x0_25 x0_26 x0_27 x0_28 x0_29 x0_30 x0_31 x0_32 x0_36 x0_39 x0_40 x0_44 x0_49 x0_51 x0_53 x0_54 x0_55 x0_56 x0_57 x0_58 x0_59 x0_60 x0_61 x0_62 y1 y2 y3 y4 y5 y6 y7 y8 y9 y10 y11 y12 y13 y14 y15 y16 y17 y18 y19 y20 y21 y22 y23 y24 y25) sz) (wS50 cI cJ cZ cB p0 p1 p2 p3 p4 p5 p6 p7 p8 p9 p10 p11 p12 p13 p14 p15 p16 p17 p18 p19 p20 p21 p22 p23 p24 p25 x0_4 x0_5 x0_6 x0_7 x0_8 x0_12 x0_13 x0_14 x0_15 x0_16 x0_17 x0_18 x0_22 x0_23 x0_24 x0_25 x0_26 x0_27 x0_28 x0_29 x0_30 x0_31 x0_32 x0_36 x0_39 x0_40 x0_44 x0_49 x0_51 x0_53 x0_54 x0_55 x0_56 x0_57 x0_58 x0_59 x0_60 x0_61 x0_62 y1 y2 y3 u_y4 y5 y6 y7 y8 y9 y10 y11 y12 y13 y14 y15 y16 y17 y18 y19 y20 y21 y22 y23 y24 y25)) (va_A (wS50 cI cJ cZ cB p0 p1 p2 p3 p4 p5 p6 p7 p8 p9 p10 p11 p12 p13 p14 p15 p16 p17 p18 p19 p20 p21 p22 p23 p24 p25 x0_4 x0_5 x0_6 x0_7 x0_8 x0_12 x0_13 x0_14 x0_15 x0_16 x0_17 x0_18 x0_22 x0_23 x0_24 x0_25 x0_26 x0_27 x0_28 x0_29 x0_30 x0_31 x0_32 x0_36 x0_39 x0_40 x0_44 x0_49 x0_51 x0_53 x0_54 x0_55 x0_56 x0_57 x0_58 x0_59 x0_60 x0_61 x0_62 y1 y2 y3 y4 y5 y6 y7 y8 y9 y10 y11 y12 y13 y14 y15 y16 y17 y18 y19 y20 y21 y22 y23 y24 y25) sz)) 0 0 (va_A (wS50 cI cJ cZ cB p0 p1 p2 p3 p4 p5 p6 p7 p8 p9 p10 p11 p12 p13 p14 p15 p16 p17 p18 p19 p20 p21 p22 p23 p24 p25 x0_4 x0_5 x0_6 x0_7 x0_8 x0_12 x0_13 x0_14 x0_15 x0_16 x0_17 x0_18 x0_22 x0_23 x0_24 x0_25 x0_26 x0_27 x0_28 x0_29 x0_30 x0_31 x0_32 x0_36 x0_39 x0_40 x0_44 x0_49 x0_51 x0_53 x0_54 x0_55 x0_56 x0_57 x0_58 x0_59 x0_60 x0_61 x0_62 y1 y2 y3 y4 y5 y6 y7 y8 y9 y10 y11 y12 y13 y14 y15 y16 y17 y18 y19 y20 y21 y22 y23 y24 y25) sz) := by
  refine Met.ofW (cc := b_X_letters) (maxL := 7) (ret := none) (by decide) rfl ?_
  intro p e s m args below meth c s₁ B hml hv
  obtain ⟨rfl, hsz, hK, hP, hD0⟩ := hv
  subst hsz
  have hD := hD0.self (sz := s.heap.size)
  generalize hAe : va_A (wS50 cI cJ cZ cB p0 p1 p2 p3 p4 p5 p6 p7 p8 p9 p10 p11 p12 p13 p14 p15 p16 p17 p18 p19 p20 p21 p22 p23 p24 p25 x0_4 x0_5 x0_6 x0_7 x0_8 x0_12 x0_13 x0_14 x0_15 x0_16 x0_17 x0_18 x0_22 x0_23 x0_24 x0_25 x0_26 x0_27 x0_28 x0_29 x0_30 x0_31 x0_32 x0_36 x0_39 x0_40 x0_44 x0_49 x0_51 x0_53 x0_54 x0_55 x0_56 x0_57 x0_58 x0_59 x0_60 x0_61 x0_62 y1 y2 y3 y4 y5 y6 y7 y8 y9 y10 y11 y12 y13 y14 y15 y16 y17 y18 y19 y20 y21 y22 y23 y24 y25) s.heap.size = A at hD ⊢
  have hA : ∀ q : Nat, s.heap.size ≤ q → A q := fun q h => by rw [← hAe]; exact Or.inr h
  clear hAe hD0
  have hS : va_S A s.heap s.heap [] := va_S.rf
  have hx := B.exec
  have hb := B.bytes
  have hr := B.returns
  have hts := atoms_spec (ws := .code y_X_letters b_X_letters 7 none :: tb) B.pre
  have hk : ∀ w ∈ tb, w.before [.ref p0].toArray s = true := fun w h => hts w (List.mem_cons_of_mem _ h)
  have hown : s.vm.findClass "SignMachineModel" = some m.cls := findClass_of_methodNamed B.named
  have hlocks := B.notSynchronized
  have hl := lv_entry ([.ref p0]) (n := 7) (Nat.le_of_ble_eq_true rfl)
  rw [lg_entry_eq]
  generalize (lg_sl ([.ref p0]) ++ List.replicate (7 - (lg_sl ([.ref p0])).length) Slot.unset).toArray = ls at hl ⊢
  have hl : lv_has ls 7 [(0, .ref p0)] := hl
  clear hts B
  refine lv_aload_n hx hb d_X_letters_0 rfl (lv_at hl 0 rfl) ?_
  refine va_get (D := D) (ci := 7) (v := .ref p4) (C := "SignMachineModel") (T := F_X) (N := 64) hx hb hk fi_X hown hK.1 hP 0 rfl rfl 3 (by decide) (hk _ k_1124) (fun _ h9 => h9) rfl d_X_letters_1 ?_
  refine lv_iconst (v := 0) hx hb d_X_letters_4 (by decide) ?_
  refine va_iald hx hb hK.1 hP 4 0 rfl rfl (by unfold vp_in; decide) d_X_letters_5 ?_
  refine lv_topi (fun v1 hv1 => ?_)
  have Rv1 := Ay4 ((0 : Int32)).toNatClampNeg
  rw [← hv1] at Rv1
  obtain ⟨Rv1, Xv1⟩ := Rv1
  have : ((((0 : Int32)).toNatClampNeg : Nat) : Int) = 0 := by decide
  refine lv_istore_n (lv' := [(1, .int v1), (0, .ref p0)]) hx hb d_X_letters_6 rfl hl (by decide) rfl (fun ls hl => ?_)
  refine lv_iconst (v := 0) hx hb d_X_letters_7 (by decide) ?_
  refine lv_istore_n (lv' := [(2, .int (0 : Int32)), (1, .int v1), (0, .ref p0)]) hx hb d_X_letters_8 rfl hl (by decide) rfl (fun ls hl => ?_)
  refine lv_iconst (v := 0) hx hb d_X_letters_9 (by decide) ?_
  refine lv_istore_n (lv' := [(3, .int (0 : Int32)), (2, .int (0 : Int32)), (1, .int v1), (0, .ref p0)]) hx hb d_X_letters_10 rfl hl (by decide) rfl (fun ls hl => ?_)
  refine lv_iconst (v := 1) hx hb d_X_letters_11 (by decide) ?_
  refine lv_istore (lv' := [(4, .int (1 : Int32)), (3, .int (0 : Int32)), (2, .int (0 : Int32)), (1, .int v1), (0, .ref p0)]) hx hb d_X_letters_12 hl (by decide) rfl (fun ls hl => ?_)
  refine lv_iconst (v := 0) hx hb d_X_letters_14 (by decide) ?_
  refine lv_istore (lv' := [(5, .int (0 : Int32)), (4, .int (1 : Int32)), (3, .int (0 : Int32)), (2, .int (0 : Int32)), (1, .int v1), (0, .ref p0)]) hx hb d_X_letters_15 hl (by decide) rfl (fun ls hl => ?_)
  refine lv_iload hx hb d_X_letters_17 (lv_at hl 0 rfl) ?_
  refine lv_bipush (v := 10) hx hb d_X_letters_19 (by decide) ?_
  refine lv_icmp_ge (tgt := 86) hx hb d_X_letters_21 (by decide) (fun c2 => absurd c2 (show ¬ (10 : Int32) ≤ (0 : Int32) from (by decide))) (fun c2 => ?_)
  refine lv_bipush (v := 30) hx hb d_X_letters_24 (by decide) ?_
  refine lv_iload_n hx hb d_X_letters_26 rfl (lv_at hl 4 rfl) ?_
  refine lv_bipush (v := 10) hx hb d_X_letters_27 (by decide) ?_
  refine lv_irem hx hb d_X_letters_29 (by decide) ?_
  refine lv_topi (fun v3 hv3 => ?_)
  obtain ⟨ev3, lv3, Rv3⟩ : v3.toInt = v1.toInt % (10 : Int) ∧ v3.toInt < (10 : Int) ∧ (0 ≤ v3.toInt ∧ v3.toInt ≤ 9) := rm3 hv3 Rv1 (show 10 ≤ (10 : Int32).toInt ∧ (10 : Int32).toInt ≤ 10 from by decide) (by decide) (by decide) (by decide)
  refine lv_iadd hx hb d_X_letters_30 ?_
  refine lv_topi (fun v4 hv4 => ?_)
  obtain ⟨ev4, Rv4⟩ : v4.toInt = (30 : Int) + v3.toInt ∧ (30 ≤ v4.toInt ∧ v4.toInt ≤ 39) := ad3 hv4 (show 30 ≤ (30 : Int32).toInt ∧ (30 : Int32).toInt ≤ 30 from by decide) Rv3 (by decide) (by decide) (by decide) (by decide)
  refine lv_istore (lv' := [(6, .int v4), (5, .int (0 : Int32)), (4, .int (1 : Int32)), (3, .int (0 : Int32)), (2, .int (0 : Int32)), (1, .int v1), (0, .ref p0)]) hx hb d_X_letters_31 hl (by decide) rfl (fun ls hl => ?_)
  refine lv_iload_n hx hb d_X_letters_33 rfl (lv_at hl 5 rfl) ?_
  refine lv_bipush (v := 10) hx hb d_X_letters_34 (by decide) ?_
  refine lv_idiv hx hb d_X_letters_36 (by decide) ?_
  refine lv_topi (fun v5 hv5 => ?_)
  obtain ⟨ev5, Rv5⟩ : v5.toInt = v1.toInt / (10 : Int) ∧ (0 ≤ v5.toInt ∧ v5.toInt ≤ 107374182) := dv3 hv5 Rv1 (show 10 ≤ (10 : Int32).toInt ∧ (10 : Int32).toInt ≤ 10 from by decide) (by decide) (by decide) (by decide)
  refine lv_istore_n (lv' := [(1, .int v5), (6, .int v4), (5, .int (0 : Int32)), (4, .int (1 : Int32)), (3, .int (0 : Int32)), (2, .int (0 : Int32)), (0, .ref p0)]) hx hb d_X_letters_37 rfl hl (by decide) rfl (fun ls hl => ?_)
  refine lv_iload hx hb d_X_letters_38 (lv_at hl 2 rfl) ?_
  refine lv_iconst (v := 5) hx hb d_X_letters_40 (by decide) ?_
  refine lv_icmp_ge (tgt := 55) hx hb d_X_letters_41 (by decide) (fun c6 => absurd c6 (show ¬ (5 : Int32) ≤ (0 : Int32) from (by decide))) (fun c6 => ?_)
  refine lv_iload_n hx hb d_X_letters_44 rfl (lv_at hl 4 rfl) ?_
  refine lv_iload hx hb d_X_letters_45 (lv_at hl 1 rfl) ?_
  refine lv_iload hx hb d_X_letters_47 (lv_at hl 3 rfl) ?_
  refine lv_imul hx hb d_X_letters_49 ?_
  refine lv_topi (fun v7 hv7 => ?_)
  obtain ⟨ev7, Rv7⟩ : v7.toInt = v4.toInt * (1 : Int) ∧ (30 ≤ v7.toInt ∧ v7.toInt ≤ 39) := ml3 hv7 Rv4 (show 1 ≤ (1 : Int32).toInt ∧ (1 : Int32).toInt ≤ 1 from by decide) (by decide) (by decide) (by decide) (by decide) (by decide) (by decide)
  refine lv_iadd hx hb d_X_letters_50 ?_
  refine lv_topi (fun v8 hv8 => ?_)
  obtain ⟨ev8, Rv8⟩ : v8.toInt = (0 : Int) + v7.toInt ∧ (30 ≤ v8.toInt ∧ v8.toInt ≤ 39) := ad3 hv8 (show 0 ≤ (0 : Int32).toInt ∧ (0 : Int32).toInt ≤ 0 from by decide) Rv7 (by decide) (by decide) (by decide) (by decide)
  refine lv_istore_n (lv' := [(3, .int v8), (1, .int v5), (6, .int v4), (5, .int (0 : Int32)), (4, .int (1 : Int32)), (2, .int (0 : Int32)), (0, .ref p0)]) hx hb d_X_letters_51 rfl hl (by decide) rfl (fun ls hl => ?_)
  refine lv_goto (tgt := 63) hx hb d_X_letters_52 (by decide) ?_
  refine lv_iload hx hb d_X_letters_63 (lv_at hl 3 rfl) ?_
  refine lv_iconst (v := 4) hx hb d_X_letters_65 (by decide) ?_
  refine lv_icmp_ne (tgt := 73) hx hb d_X_letters_66 (by decide) (fun c9 => ?_) (fun c9 => absurd c9 (show ¬ (0 : Int32) = (4 : Int32) from (by decide)))
  refine lv_iload hx hb d_X_letters_73 (lv_at hl 4 rfl) ?_
  refine lv_bipush (v := 64) hx hb d_X_letters_75 (by decide) ?_
  refine lv_imul hx hb d_X_letters_77 ?_
  refine tpi (y := (64 : Int32)) (by decide) ?_
  refine lv_istore (lv' := [(4, .int (64 : Int32)), (3, .int v8), (1, .int v5), (6, .int v4), (5, .int (0 : Int32)), (2, .int (0 : Int32)), (0, .ref p0)]) hx hb d_X_letters_78 hl (by decide) rfl (fun ls hl => ?_)
  refine lv_iinc (v := (1 : Int32)) (lv' := [(5, .int (1 : Int32)), (4, .int (64 : Int32)), (3, .int v8), (1, .int v5), (6, .int v4), (2, .int (0 : Int32)), (0, .ref p0)]) hx hb d_X_letters_80 hl (k := 4) rfl (by decide) (by decide) rfl (fun ls hl => ?_)
  refine lv_goto (tgt := 17) hx hb d_X_letters_83 (by decide) ?_
  refine lv_iload hx hb d_X_letters_17 (lv_at hl 0 rfl) ?_
  refine lv_bipush (v := 10) hx hb d_X_letters_19 (by decide) ?_
  refine lv_icmp_ge (tgt := 86) hx hb d_X_letters_21 (by decide) (fun c10 => absurd c10 (show ¬ (10 : Int32) ≤ (1 : Int32) from (by decide))) (fun c10 => ?_)
  refine lv_bipush (v := 30) hx hb d_X_letters_24 (by decide) ?_
  refine lv_iload_n hx hb d_X_letters_26 rfl (lv_at hl 3 rfl) ?_
  refine lv_bipush (v := 10) hx hb d_X_letters_27 (by decide) ?_
  refine lv_irem hx hb d_X_letters_29 (by decide) ?_
  refine lv_topi (fun v11 hv11 => ?_)
  obtain ⟨ev11, lv11, Rv11⟩ : v11.toInt = v5.toInt % (10 : Int) ∧ v11.toInt < (10 : Int) ∧ (0 ≤ v11.toInt ∧ v11.toInt ≤ 9) := rm3 hv11 Rv5 (show 10 ≤ (10 : Int32).toInt ∧ (10 : Int32).toInt ≤ 10 from by decide) (by decide) (by decide) (by decide)
  refine lv_iadd hx hb d_X_letters_30 ?_
  refine lv_topi (fun v12 hv12 => ?_)
  obtain ⟨ev12, Rv12⟩ : v12.toInt = (30 : Int) + v11.toInt ∧ (30 ≤ v12.toInt ∧ v12.toInt ≤ 39) := ad3 hv12 (show 30 ≤ (30 : Int32).toInt ∧ (30 : Int32).toInt ≤ 30 from by decide) Rv11 (by decide) (by decide) (by decide) (by decide)
  refine lv_istore (lv' := [(6, .int v12), (5, .int (1 : Int32)), (4, .int (64 : Int32)), (3, .int v8), (1, .int v5), (2, .int (0 : Int32)), (0, .ref p0)]) hx hb d_X_letters_31 hl (by decide) rfl (fun ls hl => ?_)
  refine lv_iload_n hx hb d_X_letters_33 rfl (lv_at hl 4 rfl) ?_
  refine lv_bipush (v := 10) hx hb d_X_letters_34 (by decide) ?_
  refine lv_idiv hx hb d_X_letters_36 (by decide) ?_
  refine lv_topi (fun v13 hv13 => ?_)
  obtain ⟨ev13, Rv13⟩ : v13.toInt = v5.toInt / (10 : Int) ∧ (0 ≤ v13.toInt ∧ v13.toInt ≤ 10737418) := dv3 hv13 Rv5 (show 10 ≤ (10 : Int32).toInt ∧ (10 : Int32).toInt ≤ 10 from by decide) (by decide) (by decide) (by decide)
  refine lv_istore_n (lv' := [(1, .int v13), (6, .int v12), (5, .int (1 : Int32)), (4, .int (64 : Int32)), (3, .int v8), (2, .int (0 : Int32)), (0, .ref p0)]) hx hb d_X_letters_37 rfl hl (by decide) rfl (fun ls hl => ?_)
  refine lv_iload hx hb d_X_letters_38 (lv_at hl 2 rfl) ?_
  refine lv_iconst (v := 5) hx hb d_X_letters_40 (by decide) ?_
  refine lv_icmp_ge (tgt := 55) hx hb d_X_letters_41 (by decide) (fun c14 => absurd c14 (show ¬ (5 : Int32) ≤ (1 : Int32) from (by decide))) (fun c14 => ?_)
  refine lv_iload_n hx hb d_X_letters_44 rfl (lv_at hl 4 rfl) ?_
  refine lv_iload hx hb d_X_letters_45 (lv_at hl 1 rfl) ?_
  refine lv_iload hx hb d_X_letters_47 (lv_at hl 3 rfl) ?_
  refine lv_imul hx hb d_X_letters_49 ?_
  refine lv_topi (fun v15 hv15 => ?_)
  obtain ⟨ev15, Rv15⟩ : v15.toInt = v12.toInt * (64 : Int) ∧ (1920 ≤ v15.toInt ∧ v15.toInt ≤ 2496) := ml3 hv15 Rv12 (show 64 ≤ (64 : Int32).toInt ∧ (64 : Int32).toInt ≤ 64 from by decide) (by decide) (by decide) (by decide) (by decide) (by decide) (by decide)
  refine lv_iadd hx hb d_X_letters_50 ?_
  refine lv_topi (fun v16 hv16 => ?_)
  obtain ⟨ev16, Rv16⟩ : v16.toInt = v8.toInt + v15.toInt ∧ (1950 ≤ v16.toInt ∧ v16.toInt ≤ 2535) := ad3 hv16 Rv8 Rv15 (by decide) (by decide) (by decide) (by decide)
  refine lv_istore_n (lv' := [(3, .int v16), (1, .int v13), (6, .int v12), (5, .int (1 : Int32)), (4, .int (64 : Int32)), (2, .int (0 : Int32)), (0, .ref p0)]) hx hb d_X_letters_51 rfl hl (by decide) rfl (fun ls hl => ?_)
  refine lv_goto (tgt := 63) hx hb d_X_letters_52 (by decide) ?_
  refine lv_iload hx hb d_X_letters_63 (lv_at hl 3 rfl) ?_
  refine lv_iconst (v := 4) hx hb d_X_letters_65 (by decide) ?_
  refine lv_icmp_ne (tgt := 73) hx hb d_X_letters_66 (by decide) (fun c17 => ?_) (fun c17 => absurd c17 (show ¬ (1 : Int32) = (4 : Int32) from (by decide)))
  refine lv_iload hx hb d_X_letters_73 (lv_at hl 4 rfl) ?_
  refine lv_bipush (v := 64) hx hb d_X_letters_75 (by decide) ?_
  refine lv_imul hx hb d_X_letters_77 ?_
  refine tpi (y := (4096 : Int32)) (by decide) ?_
  refine lv_istore (lv' := [(4, .int (4096 : Int32)), (3, .int v16), (1, .int v13), (6, .int v12), (5, .int (1 : Int32)), (2, .int (0 : Int32)), (0, .ref p0)]) hx hb d_X_letters_78 hl (by decide) rfl (fun ls hl => ?_)
  refine lv_iinc (v := (2 : Int32)) (lv' := [(5, .int (2 : Int32)), (4, .int (4096 : Int32)), (3, .int v16), (1, .int v13), (6, .int v12), (2, .int (0 : Int32)), (0, .ref p0)]) hx hb d_X_letters_80 hl (k := 4) rfl (by decide) (by decide) rfl (fun ls hl => ?_)
  refine lv_goto (tgt := 17) hx hb d_X_letters_83 (by decide) ?_
  refine lv_iload hx hb d_X_letters_17 (lv_at hl 0 rfl) ?_
  refine lv_bipush (v := 10) hx hb d_X_letters_19 (by decide) ?_
  refine lv_icmp_ge (tgt := 86) hx hb d_X_letters_21 (by decide) (fun c18 => absurd c18 (show ¬ (10 : Int32) ≤ (2 : Int32) from (by decide))) (fun c18 => ?_)
  refine lv_bipush (v := 30) hx hb d_X_letters_24 (by decide) ?_
  refine lv_iload_n hx hb d_X_letters_26 rfl (lv_at hl 3 rfl) ?_
  refine lv_bipush (v := 10) hx hb d_X_letters_27 (by decide) ?_
  refine lv_irem hx hb d_X_letters_29 (by decide) ?_
  refine lv_topi (fun v19 hv19 => ?_)
  obtain ⟨ev19, lv19, Rv19⟩ : v19.toInt = v13.toInt % (10 : Int) ∧ v19.toInt < (10 : Int) ∧ (0 ≤ v19.toInt ∧ v19.toInt ≤ 9) := rm3 hv19 Rv13 (show 10 ≤ (10 : Int32).toInt ∧ (10 : Int32).toInt ≤ 10 from by decide) (by decide) (by decide) (by decide)
  refine lv_iadd hx hb d_X_letters_30 ?_
  refine lv_topi (fun v20 hv20 => ?_)
  obtain ⟨ev20, Rv20⟩ : v20.toInt = (30 : Int) + v19.toInt ∧ (30 ≤ v20.toInt ∧ v20.toInt ≤ 39) := ad3 hv20 (show 30 ≤ (30 : Int32).toInt ∧ (30 : Int32).toInt ≤ 30 from by decide) Rv19 (by decide) (by decide) (by decide) (by decide)
  refine lv_istore (lv' := [(6, .int v20), (5, .int (2 : Int32)), (4, .int (4096 : Int32)), (3, .int v16), (1, .int v13), (2, .int (0 : Int32)), (0, .ref p0)]) hx hb d_X_letters_31 hl (by decide) rfl (fun ls hl => ?_)
  refine lv_iload_n hx hb d_X_letters_33 rfl (lv_at hl 4 rfl) ?_
  refine lv_bipush (v := 10) hx hb d_X_letters_34 (by decide) ?_
  refine lv_idiv hx hb d_X_letters_36 (by decide) ?_
  refine lv_topi (fun v21 hv21 => ?_)
  obtain ⟨ev21, Rv21⟩ : v21.toInt = v13.toInt / (10 : Int) ∧ (0 ≤ v21.toInt ∧ v21.toInt ≤ 1073741) := dv3 hv21 Rv13 (show 10 ≤ (10 : Int32).toInt ∧ (10 : Int32).toInt ≤ 10 from by decide) (by decide) (by decide) (by decide)
  refine lv_istore_n (lv' := [(1, .int v21), (6, .int v20), (5, .int (2 : Int32)), (4, .int (4096 : Int32)), (3, .int v16), (2, .int (0 : Int32)), (0, .ref p0)]) hx hb d_X_letters_37 rfl hl (by decide) rfl (fun ls hl => ?_)
  refine lv_iload hx hb d_X_letters_38 (lv_at hl 2 rfl) ?_
  refine lv_iconst (v := 5) hx hb d_X_letters_40 (by decide) ?_
  refine lv_icmp_ge (tgt := 55) hx hb d_X_letters_41 (by decide) (fun c22 => absurd c22 (show ¬ (5 : Int32) ≤ (2 : Int32) from (by decide))) (fun c22 => ?_)
  refine lv_iload_n hx hb d_X_letters_44 rfl (lv_at hl 4 rfl) ?_
  refine lv_iload hx hb d_X_letters_45 (lv_at hl 1 rfl) ?_
  refine lv_iload hx hb d_X_letters_47 (lv_at hl 3 rfl) ?_
  refine lv_imul hx hb d_X_letters_49 ?_
  refine lv_topi (fun v23 hv23 => ?_)
  obtain ⟨ev23, Rv23⟩ : v23.toInt = v20.toInt * (4096 : Int) ∧ (122880 ≤ v23.toInt ∧ v23.toInt ≤ 159744) := ml3 hv23 Rv20 (show 4096 ≤ (4096 : Int32).toInt ∧ (4096 : Int32).toInt ≤ 4096 from by decide) (by decide) (by decide) (by decide) (by decide) (by decide) (by decide)
  refine lv_iadd hx hb d_X_letters_50 ?_
  refine lv_topi (fun v24 hv24 => ?_)
  obtain ⟨ev24, Rv24⟩ : v24.toInt = v16.toInt + v23.toInt ∧ (124830 ≤ v24.toInt ∧ v24.toInt ≤ 162279) := ad3 hv24 Rv16 Rv23 (by decide) (by decide) (by decide) (by decide)
  refine lv_istore_n (lv' := [(3, .int v24), (1, .int v21), (6, .int v20), (5, .int (2 : Int32)), (4, .int (4096 : Int32)), (2, .int (0 : Int32)), (0, .ref p0)]) hx hb d_X_letters_51 rfl hl (by decide) rfl (fun ls hl => ?_)
  refine lv_goto (tgt := 63) hx hb d_X_letters_52 (by decide) ?_
  refine lv_iload hx hb d_X_letters_63 (lv_at hl 3 rfl) ?_
  refine lv_iconst (v := 4) hx hb d_X_letters_65 (by decide) ?_
  refine lv_icmp_ne (tgt := 73) hx hb d_X_letters_66 (by decide) (fun c25 => ?_) (fun c25 => absurd c25 (show ¬ (2 : Int32) = (4 : Int32) from (by decide)))
  refine lv_iload hx hb d_X_letters_73 (lv_at hl 4 rfl) ?_
  refine lv_bipush (v := 64) hx hb d_X_letters_75 (by decide) ?_
  refine lv_imul hx hb d_X_letters_77 ?_
  refine tpi (y := (262144 : Int32)) (by decide) ?_
  refine lv_istore (lv' := [(4, .int (262144 : Int32)), (3, .int v24), (1, .int v21), (6, .int v20), (5, .int (2 : Int32)), (2, .int (0 : Int32)), (0, .ref p0)]) hx hb d_X_letters_78 hl (by decide) rfl (fun ls hl => ?_)
  refine lv_iinc (v := (3 : Int32)) (lv' := [(5, .int (3 : Int32)), (4, .int (262144 : Int32)), (3, .int v24), (1, .int v21), (6, .int v20), (2, .int (0 : Int32)), (0, .ref p0)]) hx hb d_X_letters_80 hl (k := 4) rfl (by decide) (by decide) rfl (fun ls hl => ?_)
  refine lv_goto (tgt := 17) hx hb d_X_letters_83 (by decide) ?_
  refine lv_iload hx hb d_X_letters_17 (lv_at hl 0 rfl) ?_
  refine lv_bipush (v := 10) hx hb d_X_letters_19 (by decide) ?_
  refine lv_icmp_ge (tgt := 86) hx hb d_X_letters_21 (by decide) (fun c26 => absurd c26 (show ¬ (10 : Int32) ≤ (3 : Int32) from (by decide))) (fun c26 => ?_)
  refine lv_bipush (v := 30) hx hb d_X_letters_24 (by decide) ?_
  refine lv_iload_n hx hb d_X_letters_26 rfl (lv_at hl 3 rfl) ?_
  refine lv_bipush (v := 10) hx hb d_X_letters_27 (by decide) ?_
  refine lv_irem hx hb d_X_letters_29 (by decide) ?_
  refine lv_topi (fun v27 hv27 => ?_)
  obtain ⟨ev27, lv27, Rv27⟩ : v27.toInt = v21.toInt % (10 : Int) ∧ v27.toInt < (10 : Int) ∧ (0 ≤ v27.toInt ∧ v27.toInt ≤ 9) := rm3 hv27 Rv21 (show 10 ≤ (10 : Int32).toInt ∧ (10 : Int32).toInt ≤ 10 from by decide) (by decide) (by decide) (by decide)
  refine lv_iadd hx hb d_X_letters_30 ?_
  refine lv_topi (fun v28 hv28 => ?_)
  obtain ⟨ev28, Rv28⟩ : v28.toInt = (30 : Int) + v27.toInt ∧ (30 ≤ v28.toInt ∧ v28.toInt ≤ 39) := ad3 hv28 (show 30 ≤ (30 : Int32).toInt ∧ (30 : Int32).toInt ≤ 30 from by decide) Rv27 (by decide) (by decide) (by decide) (by decide)
  refine lv_istore (lv' := [(6, .int v28), (5, .int (3 : Int32)), (4, .int (262144 : Int32)), (3, .int v24), (1, .int v21), (2, .int (0 : Int32)), (0, .ref p0)]) hx hb d_X_letters_31 hl (by decide) rfl (fun ls hl => ?_)
  refine lv_iload_n hx hb d_X_letters_33 rfl (lv_at hl 4 rfl) ?_
  refine lv_bipush (v := 10) hx hb d_X_letters_34 (by decide) ?_
  refine lv_idiv hx hb d_X_letters_36 (by decide) ?_
  refine lv_topi (fun v29 hv29 => ?_)
  obtain ⟨ev29, Rv29⟩ : v29.toInt = v21.toInt / (10 : Int) ∧ (0 ≤ v29.toInt ∧ v29.toInt ≤ 107374) := dv3 hv29 Rv21 (show 10 ≤ (10 : Int32).toInt ∧ (10 : Int32).toInt ≤ 10 from by decide) (by decide) (by decide) (by decide)
  refine lv_istore_n (lv' := [(1, .int v29), (6, .int v28), (5, .int (3 : Int32)), (4, .int (262144 : Int32)), (3, .int v24), (2, .int (0 : Int32)), (0, .ref p0)]) hx hb d_X_letters_37 rfl hl (by decide) rfl (fun ls hl => ?_)
  refine lv_iload hx hb d_X_letters_38 (lv_at hl 2 rfl) ?_
  refine lv_iconst (v := 5) hx hb d_X_letters_40 (by decide) ?_
  refine lv_icmp_ge (tgt := 55) hx hb d_X_letters_41 (by decide) (fun c30 => absurd c30 (show ¬ (5 : Int32) ≤ (3 : Int32) from (by decide))) (fun c30 => ?_)
  refine lv_iload_n hx hb d_X_letters_44 rfl (lv_at hl 4 rfl) ?_
  refine lv_iload hx hb d_X_letters_45 (lv_at hl 1 rfl) ?_
  refine lv_iload hx hb d_X_letters_47 (lv_at hl 3 rfl) ?_
  refine lv_imul hx hb d_X_letters_49 ?_
  refine lv_topi (fun v31 hv31 => ?_)
  obtain ⟨ev31, Rv31⟩ : v31.toInt = v28.toInt * (262144 : Int) ∧ (7864320 ≤ v31.toInt ∧ v31.toInt ≤ 10223616) := ml3 hv31 Rv28 (show 262144 ≤ (262144 : Int32).toInt ∧ (262144 : Int32).toInt ≤ 262144 from by decide) (by decide) (by decide) (by decide) (by decide) (by decide) (by decide)
  refine lv_iadd hx hb d_X_letters_50 ?_
  refine lv_topi (fun v32 hv32 => ?_)
  obtain ⟨ev32, Rv32⟩ : v32.toInt = v24.toInt + v31.toInt ∧ (7989150 ≤ v32.toInt ∧ v32.toInt ≤ 10385895) := ad3 hv32 Rv24 Rv31 (by decide) (by decide) (by decide) (by decide)
  refine lv_istore_n (lv' := [(3, .int v32), (1, .int v29), (6, .int v28), (5, .int (3 : Int32)), (4, .int (262144 : Int32)), (2, .int (0 : Int32)), (0, .ref p0)]) hx hb d_X_letters_51 rfl hl (by decide) rfl (fun ls hl => ?_)
  refine lv_goto (tgt := 63) hx hb d_X_letters_52 (by decide) ?_
  refine lv_iload hx hb d_X_letters_63 (lv_at hl 3 rfl) ?_
  refine lv_iconst (v := 4) hx hb d_X_letters_65 (by decide) ?_
  refine lv_icmp_ne (tgt := 73) hx hb d_X_letters_66 (by decide) (fun c33 => ?_) (fun c33 => absurd c33 (show ¬ (3 : Int32) = (4 : Int32) from (by decide)))
  refine lv_iload hx hb d_X_letters_73 (lv_at hl 4 rfl) ?_
  refine lv_bipush (v := 64) hx hb d_X_letters_75 (by decide) ?_
  refine lv_imul hx hb d_X_letters_77 ?_
  refine tpi (y := (16777216 : Int32)) (by decide) ?_
  refine lv_istore (lv' := [(4, .int (16777216 : Int32)), (3, .int v32), (1, .int v29), (6, .int v28), (5, .int (3 : Int32)), (2, .int (0 : Int32)), (0, .ref p0)]) hx hb d_X_letters_78 hl (by decide) rfl (fun ls hl => ?_)
  refine lv_iinc (v := (4 : Int32)) (lv' := [(5, .int (4 : Int32)), (4, .int (16777216 : Int32)), (3, .int v32), (1, .int v29), (6, .int v28), (2, .int (0 : Int32)), (0, .ref p0)]) hx hb d_X_letters_80 hl (k := 4) rfl (by decide) (by decide) rfl (fun ls hl => ?_)
  refine lv_goto (tgt := 17) hx hb d_X_letters_83 (by decide) ?_
  refine lv_iload hx hb d_X_letters_17 (lv_at hl 0 rfl) ?_
  refine lv_bipush (v := 10) hx hb d_X_letters_19 (by decide) ?_
  refine lv_icmp_ge (tgt := 86) hx hb d_X_letters_21 (by decide) (fun c34 => absurd c34 (show ¬ (10 : Int32) ≤ (4 : Int32) from (by decide))) (fun c34 => ?_)
  refine lv_bipush (v := 30) hx hb d_X_letters_24 (by decide) ?_
  refine lv_iload_n hx hb d_X_letters_26 rfl (lv_at hl 3 rfl) ?_
  refine lv_bipush (v := 10) hx hb d_X_letters_27 (by decide) ?_
  refine lv_irem hx hb d_X_letters_29 (by decide) ?_
  refine lv_topi (fun v35 hv35 => ?_)
  obtain ⟨ev35, lv35, Rv35⟩ : v35.toInt = v29.toInt % (10 : Int) ∧ v35.toInt < (10 : Int) ∧ (0 ≤ v35.toInt ∧ v35.toInt ≤ 9) := rm3 hv35 Rv29 (show 10 ≤ (10 : Int32).toInt ∧ (10 : Int32).toInt ≤ 10 from by decide) (by decide) (by decide) (by decide)
  refine lv_iadd hx hb d_X_letters_30 ?_
  refine lv_topi (fun v36 hv36 => ?_)
  obtain ⟨ev36, Rv36⟩ : v36.toInt = (30 : Int) + v35.toInt ∧ (30 ≤ v36.toInt ∧ v36.toInt ≤ 39) := ad3 hv36 (show 30 ≤ (30 : Int32).toInt ∧ (30 : Int32).toInt ≤ 30 from by decide) Rv35 (by decide) (by decide) (by decide) (by decide)
  refine lv_istore (lv' := [(6, .int v36), (5, .int (4 : Int32)), (4, .int (16777216 : Int32)), (3, .int v32), (1, .int v29), (2, .int (0 : Int32)), (0, .ref p0)]) hx hb d_X_letters_31 hl (by decide) rfl (fun ls hl => ?_)
  refine lv_iload_n hx hb d_X_letters_33 rfl (lv_at hl 4 rfl) ?_
  refine lv_bipush (v := 10) hx hb d_X_letters_34 (by decide) ?_
  refine lv_idiv hx hb d_X_letters_36 (by decide) ?_
  refine lv_topi (fun v37 hv37 => ?_)
  obtain ⟨ev37, Rv37⟩ : v37.toInt = v29.toInt / (10 : Int) ∧ (0 ≤ v37.toInt ∧ v37.toInt ≤ 10737) := dv3 hv37 Rv29 (show 10 ≤ (10 : Int32).toInt ∧ (10 : Int32).toInt ≤ 10 from by decide) (by decide) (by decide) (by decide)
  refine lv_istore_n (lv' := [(1, .int v37), (6, .int v36), (5, .int (4 : Int32)), (4, .int (16777216 : Int32)), (3, .int v32), (2, .int (0 : Int32)), (0, .ref p0)]) hx hb d_X_letters_37 rfl hl (by decide) rfl (fun ls hl => ?_)
  refine lv_iload hx hb d_X_letters_38 (lv_at hl 2 rfl) ?_
  refine lv_iconst (v := 5) hx hb d_X_letters_40 (by decide) ?_
  refine lv_icmp_ge (tgt := 55) hx hb d_X_letters_41 (by decide) (fun c38 => absurd c38 (show ¬ (5 : Int32) ≤ (4 : Int32) from (by decide))) (fun c38 => ?_)
  refine lv_iload_n hx hb d_X_letters_44 rfl (lv_at hl 4 rfl) ?_
  refine lv_iload hx hb d_X_letters_45 (lv_at hl 1 rfl) ?_
  refine lv_iload hx hb d_X_letters_47 (lv_at hl 3 rfl) ?_
  refine lv_imul hx hb d_X_letters_49 ?_
  refine lv_topi (fun v39 hv39 => ?_)
  obtain ⟨ev39, Rv39⟩ : v39.toInt = v36.toInt * (16777216 : Int) ∧ (503316480 ≤ v39.toInt ∧ v39.toInt ≤ 654311424) := ml3 hv39 Rv36 (show 16777216 ≤ (16777216 : Int32).toInt ∧ (16777216 : Int32).toInt ≤ 16777216 from by decide) (by decide) (by decide) (by decide) (by decide) (by decide) (by decide)
  refine lv_iadd hx hb d_X_letters_50 ?_
  refine lv_topi (fun v40 hv40 => ?_)
  obtain ⟨ev40, Rv40⟩ : v40.toInt = v32.toInt + v39.toInt ∧ (511305630 ≤ v40.toInt ∧ v40.toInt ≤ 664697319) := ad3 hv40 Rv32 Rv39 (by decide) (by decide) (by decide) (by decide)
  refine lv_istore_n (lv' := [(3, .int v40), (1, .int v37), (6, .int v36), (5, .int (4 : Int32)), (4, .int (16777216 : Int32)), (2, .int (0 : Int32)), (0, .ref p0)]) hx hb d_X_letters_51 rfl hl (by decide) rfl (fun ls hl => ?_)
  refine lv_goto (tgt := 63) hx hb d_X_letters_52 (by decide) ?_
  refine lv_iload hx hb d_X_letters_63 (lv_at hl 3 rfl) ?_
  refine lv_iconst (v := 4) hx hb d_X_letters_65 (by decide) ?_
  refine lv_icmp_ne (tgt := 73) hx hb d_X_letters_66 (by decide) (fun c41 => absurd (show (4 : Int32) = (4 : Int32) from (by decide)) c41) (fun c41 => ?_)
  refine lv_iconst (v := 1) hx hb d_X_letters_69 (by decide) ?_
  refine lv_goto (tgt := 78) hx hb d_X_letters_70 (by decide) ?_
  refine lv_istore (lv' := [(4, .int (1 : Int32)), (3, .int v40), (1, .int v37), (6, .int v36), (5, .int (4 : Int32)), (2, .int (0 : Int32)), (0, .ref p0)]) hx hb d_X_letters_78 hl (by decide) rfl (fun ls hl => ?_)
  refine lv_iinc (v := (5 : Int32)) (lv' := [(5, .int (5 : Int32)), (4, .int (1 : Int32)), (3, .int v40), (1, .int v37), (6, .int v36), (2, .int (0 : Int32)), (0, .ref p0)]) hx hb d_X_letters_80 hl (k := 4) rfl (by decide) (by decide) rfl (fun ls hl => ?_)
  refine lv_goto (tgt := 17) hx hb d_X_letters_83 (by decide) ?_
  refine lv_iload hx hb d_X_letters_17 (lv_at hl 0 rfl) ?_
  refine lv_bipush (v := 10) hx hb d_X_letters_19 (by decide) ?_
  refine lv_icmp_ge (tgt := 86) hx hb d_X_letters_21 (by decide) (fun c42 => absurd c42 (show ¬ (10 : Int32) ≤ (5 : Int32) from (by decide))) (fun c42 => ?_)
  refine lv_bipush (v := 30) hx hb d_X_letters_24 (by decide) ?_
  refine lv_iload_n hx hb d_X_letters_26 rfl (lv_at hl 3 rfl) ?_
  refine lv_bipush (v := 10) hx hb d_X_letters_27 (by decide) ?_
  refine lv_irem hx hb d_X_letters_29 (by decide) ?_
  refine lv_topi (fun v43 hv43 => ?_)
  obtain ⟨ev43, lv43, Rv43⟩ : v43.toInt = v37.toInt % (10 : Int) ∧ v43.toInt < (10 : Int) ∧ (0 ≤ v43.toInt ∧ v43.toInt ≤ 9) := rm3 hv43 Rv37 (show 10 ≤ (10 : Int32).toInt ∧ (10 : Int32).toInt ≤ 10 from by decide) (by decide) (by decide) (by decide)
  refine lv_iadd hx hb d_X_letters_30 ?_
  refine lv_topi (fun v44 hv44 => ?_)
  obtain ⟨ev44, Rv44⟩ : v44.toInt = (30 : Int) + v43.toInt ∧ (30 ≤ v44.toInt ∧ v44.toInt ≤ 39) := ad3 hv44 (show 30 ≤ (30 : Int32).toInt ∧ (30 : Int32).toInt ≤ 30 from by decide) Rv43 (by decide) (by decide) (by decide) (by decide)
  refine lv_istore (lv' := [(6, .int v44), (5, .int (5 : Int32)), (4, .int (1 : Int32)), (3, .int v40), (1, .int v37), (2, .int (0 : Int32)), (0, .ref p0)]) hx hb d_X_letters_31 hl (by decide) rfl (fun ls hl => ?_)
  refine lv_iload_n hx hb d_X_letters_33 rfl (lv_at hl 4 rfl) ?_
  refine lv_bipush (v := 10) hx hb d_X_letters_34 (by decide) ?_
  refine lv_idiv hx hb d_X_letters_36 (by decide) ?_
  refine lv_topi (fun v45 hv45 => ?_)
  obtain ⟨ev45, Rv45⟩ : v45.toInt = v37.toInt / (10 : Int) ∧ (0 ≤ v45.toInt ∧ v45.toInt ≤ 1073) := dv3 hv45 Rv37 (show 10 ≤ (10 : Int32).toInt ∧ (10 : Int32).toInt ≤ 10 from by decide) (by decide) (by decide) (by decide)
  refine lv_istore_n (lv' := [(1, .int v45), (6, .int v44), (5, .int (5 : Int32)), (4, .int (1 : Int32)), (3, .int v40), (2, .int (0 : Int32)), (0, .ref p0)]) hx hb d_X_letters_37 rfl hl (by decide) rfl (fun ls hl => ?_)
  refine lv_iload hx hb d_X_letters_38 (lv_at hl 2 rfl) ?_
  refine lv_iconst (v := 5) hx hb d_X_letters_40 (by decide) ?_
  refine lv_icmp_ge (tgt := 55) hx hb d_X_letters_41 (by decide) (fun c46 => ?_) (fun c46 => absurd (show (5 : Int32) ≤ (5 : Int32) from (by decide)) c46)
  refine lv_iload_n hx hb d_X_letters_55 rfl (lv_at hl 5 rfl) ?_
  refine lv_iload hx hb d_X_letters_56 (lv_at hl 1 rfl) ?_
  refine lv_iload hx hb d_X_letters_58 (lv_at hl 3 rfl) ?_
  refine lv_imul hx hb d_X_letters_60 ?_
  refine lv_topi (fun v47 hv47 => ?_)
  obtain ⟨ev47, Rv47⟩ : v47.toInt = v44.toInt * (1 : Int) ∧ (30 ≤ v47.toInt ∧ v47.toInt ≤ 39) := ml3 hv47 Rv44 (show 1 ≤ (1 : Int32).toInt ∧ (1 : Int32).toInt ≤ 1 from by decide) (by decide) (by decide) (by decide) (by decide) (by decide) (by decide)
  refine lv_iadd hx hb d_X_letters_61 ?_
  refine lv_topi (fun v48 hv48 => ?_)
  obtain ⟨ev48, Rv48⟩ : v48.toInt = (0 : Int) + v47.toInt ∧ (30 ≤ v48.toInt ∧ v48.toInt ≤ 39) := ad3 hv48 (show 0 ≤ (0 : Int32).toInt ∧ (0 : Int32).toInt ≤ 0 from by decide) Rv47 (by decide) (by decide) (by decide) (by decide)
  refine lv_istore_n (lv' := [(2, .int v48), (1, .int v45), (6, .int v44), (5, .int (5 : Int32)), (4, .int (1 : Int32)), (3, .int v40), (0, .ref p0)]) hx hb d_X_letters_62 rfl hl (by decide) rfl (fun ls hl => ?_)
  refine lv_iload hx hb d_X_letters_63 (lv_at hl 3 rfl) ?_
  refine lv_iconst (v := 4) hx hb d_X_letters_65 (by decide) ?_
  refine lv_icmp_ne (tgt := 73) hx hb d_X_letters_66 (by decide) (fun c49 => ?_) (fun c49 => absurd c49 (show ¬ (5 : Int32) = (4 : Int32) from (by decide)))
  refine lv_iload hx hb d_X_letters_73 (lv_at hl 4 rfl) ?_
  refine lv_bipush (v := 64) hx hb d_X_letters_75 (by decide) ?_
  refine lv_imul hx hb d_X_letters_77 ?_
  refine tpi (y := (64 : Int32)) (by decide) ?_
  refine lv_istore (lv' := [(4, .int (64 : Int32)), (2, .int v48), (1, .int v45), (6, .int v44), (5, .int (5 : Int32)), (3, .int v40), (0, .ref p0)]) hx hb d_X_letters_78 hl (by decide) rfl (fun ls hl => ?_)
  refine lv_iinc (v := (6 : Int32)) (lv' := [(5, .int (6 : Int32)), (4, .int (64 : Int32)), (2, .int v48), (1, .int v45), (6, .int v44), (3, .int v40), (0, .ref p0)]) hx hb d_X_letters_80 hl (k := 4) rfl (by decide) (by decide) rfl (fun ls hl => ?_)
  refine lv_goto (tgt := 17) hx hb d_X_letters_83 (by decide) ?_
  refine lv_iload hx hb d_X_letters_17 (lv_at hl 0 rfl) ?_
  refine lv_bipush (v := 10) hx hb d_X_letters_19 (by decide) ?_
  refine lv_icmp_ge (tgt := 86) hx hb d_X_letters_21 (by decide) (fun c50 => absurd c50 (show ¬ (10 : Int32) ≤ (6 : Int32) from (by decide))) (fun c50 => ?_)
  refine lv_bipush (v := 30) hx hb d_X_letters_24 (by decide) ?_
  refine lv_iload_n hx hb d_X_letters_26 rfl (lv_at hl 3 rfl) ?_
  refine lv_bipush (v := 10) hx hb d_X_letters_27 (by decide) ?_
  refine lv_irem hx hb d_X_letters_29 (by decide) ?_
  refine lv_topi (fun v51 hv51 => ?_)
  obtain ⟨ev51, lv51, Rv51⟩ : v51.toInt = v45.toInt % (10 : Int) ∧ v51.toInt < (10 : Int) ∧ (0 ≤ v51.toInt ∧ v51.toInt ≤ 9) := rm3 hv51 Rv45 (show 10 ≤ (10 : Int32).toInt ∧ (10 : Int32).toInt ≤ 10 from by decide) (by decide) (by decide) (by decide)
  refine lv_iadd hx hb d_X_letters_30 ?_
  refine lv_topi (fun v52 hv52 => ?_)
  obtain ⟨ev52, Rv52⟩ : v52.toInt = (30 : Int) + v51.toInt ∧ (30 ≤ v52.toInt ∧ v52.toInt ≤ 39) := ad3 hv52 (show 30 ≤ (30 : Int32).toInt ∧ (30 : Int32).toInt ≤ 30 from by decide) Rv51 (by decide) (by decide) (by decide) (by decide)
  refine lv_istore (lv' := [(6, .int v52), (5, .int (6 : Int32)), (4, .int (64 : Int32)), (2, .int v48), (1, .int v45), (3, .int v40), (0, .ref p0)]) hx hb d_X_letters_31 hl (by decide) rfl (fun ls hl => ?_)
  refine lv_iload_n hx hb d_X_letters_33 rfl (lv_at hl 4 rfl) ?_
  refine lv_bipush (v := 10) hx hb d_X_letters_34 (by decide) ?_
  refine lv_idiv hx hb d_X_letters_36 (by decide) ?_
  refine lv_topi (fun v53 hv53 => ?_)
  obtain ⟨ev53, Rv53⟩ : v53.toInt = v45.toInt / (10 : Int) ∧ (0 ≤ v53.toInt ∧ v53.toInt ≤ 107) := dv3 hv53 Rv45 (show 10 ≤ (10 : Int32).toInt ∧ (10 : Int32).toInt ≤ 10 from by decide) (by decide) (by decide) (by decide)
  refine lv_istore_n (lv' := [(1, .int v53), (6, .int v52), (5, .int (6 : Int32)), (4, .int (64 : Int32)), (2, .int v48), (3, .int v40), (0, .ref p0)]) hx hb d_X_letters_37 rfl hl (by decide) rfl (fun ls hl => ?_)
  refine lv_iload hx hb d_X_letters_38 (lv_at hl 2 rfl) ?_
  refine lv_iconst (v := 5) hx hb d_X_letters_40 (by decide) ?_
  refine lv_icmp_ge (tgt := 55) hx hb d_X_letters_41 (by decide) (fun c54 => ?_) (fun c54 => absurd (show (5 : Int32) ≤ (6 : Int32) from (by decide)) c54)
  refine lv_iload_n hx hb d_X_letters_55 rfl (lv_at hl 4 rfl) ?_
  refine lv_iload hx hb d_X_letters_56 (lv_at hl 1 rfl) ?_
  refine lv_iload hx hb d_X_letters_58 (lv_at hl 3 rfl) ?_
  refine lv_imul hx hb d_X_letters_60 ?_
  refine lv_topi (fun v55 hv55 => ?_)
  obtain ⟨ev55, Rv55⟩ : v55.toInt = v52.toInt * (64 : Int) ∧ (1920 ≤ v55.toInt ∧ v55.toInt ≤ 2496) := ml3 hv55 Rv52 (show 64 ≤ (64 : Int32).toInt ∧ (64 : Int32).toInt ≤ 64 from by decide) (by decide) (by decide) (by decide) (by decide) (by decide) (by decide)
  refine lv_iadd hx hb d_X_letters_61 ?_
  refine lv_topi (fun v56 hv56 => ?_)
  obtain ⟨ev56, Rv56⟩ : v56.toInt = v48.toInt + v55.toInt ∧ (1950 ≤ v56.toInt ∧ v56.toInt ≤ 2535) := ad3 hv56 Rv48 Rv55 (by decide) (by decide) (by decide) (by decide)
  refine lv_istore_n (lv' := [(2, .int v56), (1, .int v53), (6, .int v52), (5, .int (6 : Int32)), (4, .int (64 : Int32)), (3, .int v40), (0, .ref p0)]) hx hb d_X_letters_62 rfl hl (by decide) rfl (fun ls hl => ?_)
  refine lv_iload hx hb d_X_letters_63 (lv_at hl 3 rfl) ?_
  refine lv_iconst (v := 4) hx hb d_X_letters_65 (by decide) ?_
  refine lv_icmp_ne (tgt := 73) hx hb d_X_letters_66 (by decide) (fun c57 => ?_) (fun c57 => absurd c57 (show ¬ (6 : Int32) = (4 : Int32) from (by decide)))
  refine lv_iload hx hb d_X_letters_73 (lv_at hl 4 rfl) ?_
  refine lv_bipush (v := 64) hx hb d_X_letters_75 (by decide) ?_
  refine lv_imul hx hb d_X_letters_77 ?_
  refine tpi (y := (4096 : Int32)) (by decide) ?_
  refine lv_istore (lv' := [(4, .int (4096 : Int32)), (2, .int v56), (1, .int v53), (6, .int v52), (5, .int (6 : Int32)), (3, .int v40), (0, .ref p0)]) hx hb d_X_letters_78 hl (by decide) rfl (fun ls hl => ?_)
  refine lv_iinc (v := (7 : Int32)) (lv' := [(5, .int (7 : Int32)), (4, .int (4096 : Int32)), (2, .int v56), (1, .int v53), (6, .int v52), (3, .int v40), (0, .ref p0)]) hx hb d_X_letters_80 hl (k := 4) rfl (by decide) (by decide) rfl (fun ls hl => ?_)
  refine lv_goto (tgt := 17) hx hb d_X_letters_83 (by decide) ?_
  refine lv_iload hx hb d_X_letters_17 (lv_at hl 0 rfl) ?_
  refine lv_bipush (v := 10) hx hb d_X_letters_19 (by decide) ?_
  refine lv_icmp_ge (tgt := 86) hx hb d_X_letters_21 (by decide) (fun c58 => absurd c58 (show ¬ (10 : Int32) ≤ (7 : Int32) from (by decide))) (fun c58 => ?_)
  refine lv_bipush (v := 30) hx hb d_X_letters_24 (by decide) ?_
  refine lv_iload_n hx hb d_X_letters_26 rfl (lv_at hl 3 rfl) ?_
  refine lv_bipush (v := 10) hx hb d_X_letters_27 (by decide) ?_
  refine lv_irem hx hb d_X_letters_29 (by decide) ?_
  refine lv_topi (fun v59 hv59 => ?_)
  obtain ⟨ev59, lv59, Rv59⟩ : v59.toInt = v53.toInt % (10 : Int) ∧ v59.toInt < (10 : Int) ∧ (0 ≤ v59.toInt ∧ v59.toInt ≤ 9) := rm3 hv59 Rv53 (show 10 ≤ (10 : Int32).toInt ∧ (10 : Int32).toInt ≤ 10 from by decide) (by decide) (by decide) (by decide)
  refine lv_iadd hx hb d_X_letters_30 ?_
  refine lv_topi (fun v60 hv60 => ?_)
  obtain ⟨ev60, Rv60⟩ : v60.toInt = (30 : Int) + v59.toInt ∧ (30 ≤ v60.toInt ∧ v60.toInt ≤ 39) := ad3 hv60 (show 30 ≤ (30 : Int32).toInt ∧ (30 : Int32).toInt ≤ 30 from by decide) Rv59 (by decide) (by decide) (by decide) (by decide)
  refine lv_istore (lv' := [(6, .int v60), (5, .int (7 : Int32)), (4, .int (4096 : Int32)), (2, .int v56), (1, .int v53), (3, .int v40), (0, .ref p0)]) hx hb d_X_letters_31 hl (by decide) rfl (fun ls hl => ?_)
  refine lv_iload_n hx hb d_X_letters_33 rfl (lv_at hl 4 rfl) ?_
  refine lv_bipush (v := 10) hx hb d_X_letters_34 (by decide) ?_
  refine lv_idiv hx hb d_X_letters_36 (by decide) ?_
  refine lv_topi (fun v61 hv61 => ?_)
  obtain ⟨ev61, Rv61⟩ : v61.toInt = v53.toInt / (10 : Int) ∧ (0 ≤ v61.toInt ∧ v61.toInt ≤ 10) := dv3 hv61 Rv53 (show 10 ≤ (10 : Int32).toInt ∧ (10 : Int32).toInt ≤ 10 from by decide) (by decide) (by decide) (by decide)
  refine lv_istore_n (lv' := [(1, .int v61), (6, .int v60), (5, .int (7 : Int32)), (4, .int (4096 : Int32)), (2, .int v56), (3, .int v40), (0, .ref p0)]) hx hb d_X_letters_37 rfl hl (by decide) rfl (fun ls hl => ?_)
  refine lv_iload hx hb d_X_letters_38 (lv_at hl 2 rfl) ?_
  refine lv_iconst (v := 5) hx hb d_X_letters_40 (by decide) ?_
  refine lv_icmp_ge (tgt := 55) hx hb d_X_letters_41 (by decide) (fun c62 => ?_) (fun c62 => absurd (show (5 : Int32) ≤ (7 : Int32) from (by decide)) c62)
  refine lv_iload_n hx hb d_X_letters_55 rfl (lv_at hl 4 rfl) ?_
  refine lv_iload hx hb d_X_letters_56 (lv_at hl 1 rfl) ?_
  refine lv_iload hx hb d_X_letters_58 (lv_at hl 3 rfl) ?_
  refine lv_imul hx hb d_X_letters_60 ?_
  refine lv_topi (fun v63 hv63 => ?_)
  obtain ⟨ev63, Rv63⟩ : v63.toInt = v60.toInt * (4096 : Int) ∧ (122880 ≤ v63.toInt ∧ v63.toInt ≤ 159744) := ml3 hv63 Rv60 (show 4096 ≤ (4096 : Int32).toInt ∧ (4096 : Int32).toInt ≤ 4096 from by decide) (by decide) (by decide) (by decide) (by decide) (by decide) (by decide)
  refine lv_iadd hx hb d_X_letters_61 ?_
  refine lv_topi (fun v64 hv64 => ?_)
  obtain ⟨ev64, Rv64⟩ : v64.toInt = v56.toInt + v63.toInt ∧ (124830 ≤ v64.toInt ∧ v64.toInt ≤ 162279) := ad3 hv64 Rv56 Rv63 (by decide) (by decide) (by decide) (by decide)
  refine lv_istore_n (lv' := [(2, .int v64), (1, .int v61), (6, .int v60), (5, .int (7 : Int32)), (4, .int (4096 : Int32)), (3, .int v40), (0, .ref p0)]) hx hb d_X_letters_62 rfl hl (by decide) rfl (fun ls hl => ?_)
  refine lv_iload hx hb d_X_letters_63 (lv_at hl 3 rfl) ?_
  refine lv_iconst (v := 4) hx hb d_X_letters_65 (by decide) ?_
  refine lv_icmp_ne (tgt := 73) hx hb d_X_letters_66 (by decide) (fun c65 => ?_) (fun c65 => absurd c65 (show ¬ (7 : Int32) = (4 : Int32) from (by decide)))
  refine lv_iload hx hb d_X_letters_73 (lv_at hl 4 rfl) ?_
  refine lv_bipush (v := 64) hx hb d_X_letters_75 (by decide) ?_
  refine lv_imul hx hb d_X_letters_77 ?_
  refine tpi (y := (262144 : Int32)) (by decide) ?_
  refine lv_istore (lv' := [(4, .int (262144 : Int32)), (2, .int v64), (1, .int v61), (6, .int v60), (5, .int (7 : Int32)), (3, .int v40), (0, .ref p0)]) hx hb d_X_letters_78 hl (by decide) rfl (fun ls hl => ?_)
  refine lv_iinc (v := (8 : Int32)) (lv' := [(5, .int (8 : Int32)), (4, .int (262144 : Int32)), (2, .int v64), (1, .int v61), (6, .int v60), (3, .int v40), (0, .ref p0)]) hx hb d_X_letters_80 hl (k := 4) rfl (by decide) (by decide) rfl (fun ls hl => ?_)
  refine lv_goto (tgt := 17) hx hb d_X_letters_83 (by decide) ?_
  refine lv_iload hx hb d_X_letters_17 (lv_at hl 0 rfl) ?_
  refine lv_bipush (v := 10) hx hb d_X_letters_19 (by decide) ?_
  refine lv_icmp_ge (tgt := 86) hx hb d_X_letters_21 (by decide) (fun c66 => absurd c66 (show ¬ (10 : Int32) ≤ (8 : Int32) from (by decide))) (fun c66 => ?_)
  refine lv_bipush (v := 30) hx hb d_X_letters_24 (by decide) ?_
  refine lv_iload_n hx hb d_X_letters_26 rfl (lv_at hl 3 rfl) ?_
  refine lv_bipush (v := 10) hx hb d_X_letters_27 (by decide) ?_
  refine lv_irem hx hb d_X_letters_29 (by decide) ?_
  refine lv_topi (fun v67 hv67 => ?_)
  obtain ⟨ev67, lv67, Rv67⟩ : v67.toInt = v61.toInt % (10 : Int) ∧ v67.toInt < (10 : Int) ∧ (0 ≤ v67.toInt ∧ v67.toInt ≤ 9) := rm3 hv67 Rv61 (show 10 ≤ (10 : Int32).toInt ∧ (10 : Int32).toInt ≤ 10 from by decide) (by decide) (by decide) (by decide)
  refine lv_iadd hx hb d_X_letters_30 ?_
  refine lv_topi (fun v68 hv68 => ?_)
  obtain ⟨ev68, Rv68⟩ : v68.toInt = (30 : Int) + v67.toInt ∧ (30 ≤ v68.toInt ∧ v68.toInt ≤ 39) := ad3 hv68 (show 30 ≤ (30 : Int32).toInt ∧ (30 : Int32).toInt ≤ 30 from by decide) Rv67 (by decide) (by decide) (by decide) (by decide)
  refine lv_istore (lv' := [(6, .int v68), (5, .int (8 : Int32)), (4, .int (262144 : Int32)), (2, .int v64), (1, .int v61), (3, .int v40), (0, .ref p0)]) hx hb d_X_letters_31 hl (by decide) rfl (fun ls hl => ?_)
  refine lv_iload_n hx hb d_X_letters_33 rfl (lv_at hl 4 rfl) ?_
  refine lv_bipush (v := 10) hx hb d_X_letters_34 (by decide) ?_
  refine lv_idiv hx hb d_X_letters_36 (by decide) ?_
  refine lv_topi (fun v69 hv69 => ?_)
  obtain ⟨ev69, Rv69⟩ : v69.toInt = v61.toInt / (10 : Int) ∧ (0 ≤ v69.toInt ∧ v69.toInt ≤ 1) := dv3 hv69 Rv61 (show 10 ≤ (10 : Int32).toInt ∧ (10 : Int32).toInt ≤ 10 from by decide) (by decide) (by decide) (by decide)
  refine lv_istore_n (lv' := [(1, .int v69), (6, .int v68), (5, .int (8 : Int32)), (4, .int (262144 : Int32)), (2, .int v64), (3, .int v40), (0, .ref p0)]) hx hb d_X_letters_37 rfl hl (by decide) rfl (fun ls hl => ?_)
  refine lv_iload hx hb d_X_letters_38 (lv_at hl 2 rfl) ?_
  refine lv_iconst (v := 5) hx hb d_X_letters_40 (by decide) ?_
  refine lv_icmp_ge (tgt := 55) hx hb d_X_letters_41 (by decide) (fun c70 => ?_) (fun c70 => absurd (show (5 : Int32) ≤ (8 : Int32) from (by decide)) c70)
  refine lv_iload_n hx hb d_X_letters_55 rfl (lv_at hl 4 rfl) ?_
  refine lv_iload hx hb d_X_letters_56 (lv_at hl 1 rfl) ?_
  refine lv_iload hx hb d_X_letters_58 (lv_at hl 3 rfl) ?_
  refine lv_imul hx hb d_X_letters_60 ?_
  refine lv_topi (fun v71 hv71 => ?_)
  obtain ⟨ev71, Rv71⟩ : v71.toInt = v68.toInt * (262144 : Int) ∧ (7864320 ≤ v71.toInt ∧ v71.toInt ≤ 10223616) := ml3 hv71 Rv68 (show 262144 ≤ (262144 : Int32).toInt ∧ (262144 : Int32).toInt ≤ 262144 from by decide) (by decide) (by decide) (by decide) (by decide) (by decide) (by decide)
  refine lv_iadd hx hb d_X_letters_61 ?_
  refine lv_topi (fun v72 hv72 => ?_)
  obtain ⟨ev72, Rv72⟩ : v72.toInt = v64.toInt + v71.toInt ∧ (7989150 ≤ v72.toInt ∧ v72.toInt ≤ 10385895) := ad3 hv72 Rv64 Rv71 (by decide) (by decide) (by decide) (by decide)
  refine lv_istore_n (lv' := [(2, .int v72), (1, .int v69), (6, .int v68), (5, .int (8 : Int32)), (4, .int (262144 : Int32)), (3, .int v40), (0, .ref p0)]) hx hb d_X_letters_62 rfl hl (by decide) rfl (fun ls hl => ?_)
  refine lv_iload hx hb d_X_letters_63 (lv_at hl 3 rfl) ?_
  refine lv_iconst (v := 4) hx hb d_X_letters_65 (by decide) ?_
  refine lv_icmp_ne (tgt := 73) hx hb d_X_letters_66 (by decide) (fun c73 => ?_) (fun c73 => absurd c73 (show ¬ (8 : Int32) = (4 : Int32) from (by decide)))
  refine lv_iload hx hb d_X_letters_73 (lv_at hl 4 rfl) ?_
  refine lv_bipush (v := 64) hx hb d_X_letters_75 (by decide) ?_
  refine lv_imul hx hb d_X_letters_77 ?_
  refine tpi (y := (16777216 : Int32)) (by decide) ?_
  refine lv_istore (lv' := [(4, .int (16777216 : Int32)), (2, .int v72), (1, .int v69), (6, .int v68), (5, .int (8 : Int32)), (3, .int v40), (0, .ref p0)]) hx hb d_X_letters_78 hl (by decide) rfl (fun ls hl => ?_)
  refine lv_iinc (v := (9 : Int32)) (lv' := [(5, .int (9 : Int32)), (4, .int (16777216 : Int32)), (2, .int v72), (1, .int v69), (6, .int v68), (3, .int v40), (0, .ref p0)]) hx hb d_X_letters_80 hl (k := 4) rfl (by decide) (by decide) rfl (fun ls hl => ?_)
  refine lv_goto (tgt := 17) hx hb d_X_letters_83 (by decide) ?_
  refine lv_iload hx hb d_X_letters_17 (lv_at hl 0 rfl) ?_
  refine lv_bipush (v := 10) hx hb d_X_letters_19 (by decide) ?_
  refine lv_icmp_ge (tgt := 86) hx hb d_X_letters_21 (by decide) (fun c74 => absurd c74 (show ¬ (10 : Int32) ≤ (9 : Int32) from (by decide))) (fun c74 => ?_)
  refine lv_bipush (v := 30) hx hb d_X_letters_24 (by decide) ?_
  refine lv_iload_n hx hb d_X_letters_26 rfl (lv_at hl 3 rfl) ?_
  refine lv_bipush (v := 10) hx hb d_X_letters_27 (by decide) ?_
  refine lv_irem hx hb d_X_letters_29 (by decide) ?_
  refine lv_topi (fun v75 hv75 => ?_)
  obtain ⟨ev75, lv75, Rv75⟩ : v75.toInt = v69.toInt % (10 : Int) ∧ v75.toInt < (10 : Int) ∧ (0 ≤ v75.toInt ∧ v75.toInt ≤ 9) := rm3 hv75 Rv69 (show 10 ≤ (10 : Int32).toInt ∧ (10 : Int32).toInt ≤ 10 from by decide) (by decide) (by decide) (by decide)
  refine lv_iadd hx hb d_X_letters_30 ?_
  refine lv_topi (fun v76 hv76 => ?_)
  obtain ⟨ev76, Rv76⟩ : v76.toInt = (30 : Int) + v75.toInt ∧ (30 ≤ v76.toInt ∧ v76.toInt ≤ 39) := ad3 hv76 (show 30 ≤ (30 : Int32).toInt ∧ (30 : Int32).toInt ≤ 30 from by decide) Rv75 (by decide) (by decide) (by decide) (by decide)
  refine lv_istore (lv' := [(6, .int v76), (5, .int (9 : Int32)), (4, .int (16777216 : Int32)), (2, .int v72), (1, .int v69), (3, .int v40), (0, .ref p0)]) hx hb d_X_letters_31 hl (by decide) rfl (fun ls hl => ?_)
  refine lv_iload_n hx hb d_X_letters_33 rfl (lv_at hl 4 rfl) ?_
  refine lv_bipush (v := 10) hx hb d_X_letters_34 (by decide) ?_
  refine lv_idiv hx hb d_X_letters_36 (by decide) ?_
  refine lv_topi (fun v77 hv77 => ?_)
  obtain ⟨ev77, Rv77⟩ : v77.toInt = v69.toInt / (10 : Int) ∧ (0 ≤ v77.toInt ∧ v77.toInt ≤ 0) := dv3 hv77 Rv69 (show 10 ≤ (10 : Int32).toInt ∧ (10 : Int32).toInt ≤ 10 from by decide) (by decide) (by decide) (by decide)
  refine lv_istore_n (lv' := [(1, .int v77), (6, .int v76), (5, .int (9 : Int32)), (4, .int (16777216 : Int32)), (2, .int v72), (3, .int v40), (0, .ref p0)]) hx hb d_X_letters_37 rfl hl (by decide) rfl (fun ls hl => ?_)
  refine lv_iload hx hb d_X_letters_38 (lv_at hl 2 rfl) ?_
  refine lv_iconst (v := 5) hx hb d_X_letters_40 (by decide) ?_
  refine lv_icmp_ge (tgt := 55) hx hb d_X_letters_41 (by decide) (fun c78 => ?_) (fun c78 => absurd (show (5 : Int32) ≤ (9 : Int32) from (by decide)) c78)
  refine lv_iload_n hx hb d_X_letters_55 rfl (lv_at hl 4 rfl) ?_
  refine lv_iload hx hb d_X_letters_56 (lv_at hl 1 rfl) ?_
  refine lv_iload hx hb d_X_letters_58 (lv_at hl 3 rfl) ?_
  refine lv_imul hx hb d_X_letters_60 ?_
  refine lv_topi (fun v79 hv79 => ?_)
  obtain ⟨ev79, Rv79⟩ : v79.toInt = v76.toInt * (16777216 : Int) ∧ (503316480 ≤ v79.toInt ∧ v79.toInt ≤ 654311424) := ml3 hv79 Rv76 (show 16777216 ≤ (16777216 : Int32).toInt ∧ (16777216 : Int32).toInt ≤ 16777216 from by decide) (by decide) (by decide) (by decide) (by decide) (by decide) (by decide)
  refine lv_iadd hx hb d_X_letters_61 ?_
  refine lv_topi (fun v80 hv80 => ?_)
  obtain ⟨ev80, Rv80⟩ : v80.toInt = v72.toInt + v79.toInt ∧ (511305630 ≤ v80.toInt ∧ v80.toInt ≤ 664697319) := ad3 hv80 Rv72 Rv79 (by decide) (by decide) (by decide) (by decide)
  refine lv_istore_n (lv' := [(2, .int v80), (1, .int v77), (6, .int v76), (5, .int (9 : Int32)), (4, .int (16777216 : Int32)), (3, .int v40), (0, .ref p0)]) hx hb d_X_letters_62 rfl hl (by decide) rfl (fun ls hl => ?_)
  refine lv_iload hx hb d_X_letters_63 (lv_at hl 3 rfl) ?_
  refine lv_iconst (v := 4) hx hb d_X_letters_65 (by decide) ?_
  refine lv_icmp_ne (tgt := 73) hx hb d_X_letters_66 (by decide) (fun c81 => ?_) (fun c81 => absurd c81 (show ¬ (9 : Int32) = (4 : Int32) from (by decide)))
  refine lv_iload hx hb d_X_letters_73 (lv_at hl 4 rfl) ?_
  refine lv_bipush (v := 64) hx hb d_X_letters_75 (by decide) ?_
  refine lv_imul hx hb d_X_letters_77 ?_
  refine tpi (y := (1073741824 : Int32)) (by decide) ?_
  refine lv_istore (lv' := [(4, .int (1073741824 : Int32)), (2, .int v80), (1, .int v77), (6, .int v76), (5, .int (9 : Int32)), (3, .int v40), (0, .ref p0)]) hx hb d_X_letters_78 hl (by decide) rfl (fun ls hl => ?_)
  refine lv_iinc (v := (10 : Int32)) (lv' := [(5, .int (10 : Int32)), (4, .int (1073741824 : Int32)), (2, .int v80), (1, .int v77), (6, .int v76), (3, .int v40), (0, .ref p0)]) hx hb d_X_letters_80 hl (k := 4) rfl (by decide) (by decide) rfl (fun ls hl => ?_)
  refine lv_goto (tgt := 17) hx hb d_X_letters_83 (by decide) ?_
  refine lv_iload hx hb d_X_letters_17 (lv_at hl 0 rfl) ?_
  refine lv_bipush (v := 10) hx hb d_X_letters_19 (by decide) ?_
  refine lv_icmp_ge (tgt := 86) hx hb d_X_letters_21 (by decide) (fun c82 => ?_) (fun c82 => absurd (show (10 : Int32) ≤ (10 : Int32) from (by decide)) c82)
  refine lv_aload_n hx hb d_X_letters_86 rfl (lv_at hl 6 rfl) ?_
  refine va_get (D := D) (ci := 7) (v := .ref p4) (C := "SignMachineModel") (T := F_X) (N := 64) hx hb hk fi_X hown hK.1 hP 0 rfl rfl 3 (by decide) (hk _ k_1124) (fun _ h9 => h9) rfl d_X_letters_87 ?_
  refine lv_iconst (v := 0) hx hb d_X_letters_90 (by decide) ?_
  refine lv_iload_n hx hb d_X_letters_91 rfl (lv_at hl 2 rfl) ?_
  refine va_iast hx hb hK.1 hP hD hS 4 0 rfl rfl (by unfold vp_in; decide) d_X_letters_92 (fun H locs hP hD hS => ?_)
  have hP : va_P D classes (wS50 cI cJ cZ cB p0 p1 p2 p3 p4 p5 p6 p7 p8 p9 p10 p11 p12 p13 p14 p15 p16 p17 p18 p19 p20 p21 p22 p23 p24 p25 x0_4 x0_5 x0_6 x0_7 x0_8 x0_12 x0_13 x0_14 x0_15 x0_16 x0_17 x0_18 x0_22 x0_23 x0_24 x0_25 x0_26 x0_27 x0_28 x0_29 x0_30 x0_31 x0_32 x0_36 x0_39 x0_40 x0_44 x0_49 x0_51 x0_53 x0_54 x0_55 x0_56 x0_57 x0_58 x0_59 x0_60 x0_61 x0_62 y1 y2 y3 (upd y4 ((0 : Int32)).toNatClampNeg v80) y5 y6 y7 y8 y9 y10 y11 y12 y13 y14 y15 y16 y17 y18 y19 y20 y21 y22 y23 y24 y25) H := hP
  have hD : va_D A (wS50 cI cJ cZ cB p0 p1 p2 p3 p4 p5 p6 p7 p8 p9 p10 p11 p12 p13 p14 p15 p16 p17 p18 p19 p20 p21 p22 p23 p24 p25 x0_4 x0_5 x0_6 x0_7 x0_8 x0_12 x0_13 x0_14 x0_15 x0_16 x0_17 x0_18 x0_22 x0_23 x0_24 x0_25 x0_26 x0_27 x0_28 x0_29 x0_30 x0_31 x0_32 x0_36 x0_39 x0_40 x0_44 x0_49 x0_51 x0_53 x0_54 x0_55 x0_56 x0_57 x0_58 x0_59 x0_60 x0_61 x0_62 y1 y2 y3 (upd y4 ((0 : Int32)).toNatClampNeg v80) y5 y6 y7 y8 y9 y10 y11 y12 y13 y14 y15 y16 y17 y18 y19 y20 y21 y22 y23 y24 y25) := hD
  obtain ⟨v83, hv83⟩ : ∃ y : Nat → Int32, y = (upd y4 ((0 : Int32)).toNatClampNeg v80) := ⟨_, rfl⟩
  rw [← hv83] at hP hD
  have : ((((0 : Int32)).toNatClampNeg : Nat) : Int) = 0 := by decide
  have Gv83 : ((0 ≤ (v80).toInt ∧ (v80).toInt ≤ 1073741823) ∧ ((1 ≤ ((((0 : Int32)).toNatClampNeg : Nat) : Int) ∧ ((((0 : Int32)).toNatClampNeg : Nat) : Int) ≤ 6) → (v80).toInt ≤ 4095)) := ⟨(rgw Rv80 (by decide) (by decide)), fun h => absurd h (by decide)⟩
  have Av83 : ∀ i : Nat, ((0 ≤ (v83 i).toInt ∧ (v83 i).toInt ≤ 1073741823) ∧ ((1 ≤ (i : Int) ∧ (i : Int) ≤ 6) → (v83 i).toInt ≤ 4095)) := by rw [hv83]; exact upd_all (P := fun i x => ((0 ≤ (x).toInt ∧ (x).toInt ≤ 1073741823) ∧ ((1 ≤ (i : Int) ∧ (i : Int) ≤ 6) → (x).toInt ≤ 4095))) Ay4 Gv83
  clear hv83
  refine lv_aload_n hx hb d_X_letters_93 rfl (lv_at hl 6 rfl) ?_
  refine va_get (D := D) (ci := 7) (v := .ref p4) (C := "SignMachineModel") (T := F_X) (N := 64) hx hb hk fi_X hown hK.1 hP 0 rfl rfl 3 (by decide) (hk _ k_1124) (fun _ h9 => h9) rfl d_X_letters_94 ?_
  refine lv_bipush (v := 7) hx hb d_X_letters_97 (by decide) ?_
  refine lv_iload_n hx hb d_X_letters_99 rfl (lv_at hl 5 rfl) ?_
  refine va_iast hx hb hK.1 hP hD hS 4 0 rfl rfl (by unfold vp_in; decide) d_X_letters_100 (fun H locs hP hD hS => ?_)
  have hP : va_P D classes (wS50 cI cJ cZ cB p0 p1 p2 p3 p4 p5 p6 p7 p8 p9 p10 p11 p12 p13 p14 p15 p16 p17 p18 p19 p20 p21 p22 p23 p24 p25 x0_4 x0_5 x0_6 x0_7 x0_8 x0_12 x0_13 x0_14 x0_15 x0_16 x0_17 x0_18 x0_22 x0_23 x0_24 x0_25 x0_26 x0_27 x0_28 x0_29 x0_30 x0_31 x0_32 x0_36 x0_39 x0_40 x0_44 x0_49 x0_51 x0_53 x0_54 x0_55 x0_56 x0_57 x0_58 x0_59 x0_60 x0_61 x0_62 y1 y2 y3 (upd v83 ((7 : Int32)).toNatClampNeg v40) y5 y6 y7 y8 y9 y10 y11 y12 y13 y14 y15 y16 y17 y18 y19 y20 y21 y22 y23 y24 y25) H := hP
  have hD : va_D A (wS50 cI cJ cZ cB p0 p1 p2 p3 p4 p5 p6 p7 p8 p9 p10 p11 p12 p13 p14 p15 p16 p17 p18 p19 p20 p21 p22 p23 p24 p25 x0_4 x0_5 x0_6 x0_7 x0_8 x0_12 x0_13 x0_14 x0_15 x0_16 x0_17 x0_18 x0_22 x0_23 x0_24 x0_25 x0_26 x0_27 x0_28 x0_29 x0_30 x0_31 x0_32 x0_36 x0_39 x0_40 x0_44 x0_49 x0_51 x0_53 x0_54 x0_55 x0_56 x0_57 x0_58 x0_59 x0_60 x0_61 x0_62 y1 y2 y3 (upd v83 ((7 : Int32)).toNatClampNeg v40) y5 y6 y7 y8 y9 y10 y11 y12 y13 y14 y15 y16 y17 y18 y19 y20 y21 y22 y23 y24 y25) := hD
  obtain ⟨v84, hv84⟩ : ∃ y : Nat → Int32, y = (upd v83 ((7 : Int32)).toNatClampNeg v40) := ⟨_, rfl⟩
  rw [← hv84] at hP hD
  have : ((((7 : Int32)).toNatClampNeg : Nat) : Int) = 7 := by decide
  have Gv84 : ((0 ≤ (v40).toInt ∧ (v40).toInt ≤ 1073741823) ∧ ((1 ≤ ((((7 : Int32)).toNatClampNeg : Nat) : Int) ∧ ((((7 : Int32)).toNatClampNeg : Nat) : Int) ≤ 6) → (v40).toInt ≤ 4095)) := ⟨(rgw Rv40 (by decide) (by decide)), fun h => absurd h (by decide)⟩
  have Av84 : ∀ i : Nat, ((0 ≤ (v84 i).toInt ∧ (v84 i).toInt ≤ 1073741823) ∧ ((1 ≤ (i : Int) ∧ (i : Int) ≤ 6) → (v84 i).toInt ≤ 4095)) := by rw [hv84]; exact upd_all (P := fun i x => ((0 ≤ (x).toInt ∧ (x).toInt ≤ 1073741823) ∧ ((1 ≤ (i : Int) ∧ (i : Int) ≤ 6) → (x).toInt ≤ 4095))) Av83 Gv84
  clear hv84
  exact W.vret hx hb hr (fun t ht hW => ⟨⟨(), rfl, trivial, ⟨v84, Av84, by show va_P D classes _ t.heap; rw [ht]; exact hP, hD⟩⟩, hS.F ht⟩) hS.2.2 d_X_letters_101
theorem v_X_letters {R : Room} {s : State} {args : Array Value} {own : String} {index : Nat} (hk : ∀ w ∈ tb, w.before args s = true) (hl : Cond.methodLink own index y_X_letters ∈ tb) (hR : 0 + 1 ≤ R.frames ∧ 8 + (7 + 11) + 0 ≤ R.locals) : CallW R s args own "SignMachineModel" index y_X_letters b_X_letters 7 none (.code y_X_letters b_X_letters 7 none :: tb) ({ frames := 0, cells := 0, slots := 0, locals := 0 }) 0 0 0 := mk_v 0 hk k_1494 hl k_1493 k_84 k_119 rfl rfl h_X_letters hR

set_option maxHeartbeats 8000000 in
set_option maxRecDepth 100000 in
theorem c_X_isBlock (l : Launch) (D : va_G) (cI cJ cZ cB : ClassId) (p0 p1 p2 p3 p4 p5 p6 p7 p8 p9 p10 p11 p12 p13 p14 p15 p16 p17 p18 p19 p20 p21 p22 p23 p24 p25 : Nat) (sz : Nat) (x0_4 : Int32) (x0_5 : Int32) (x0_6 : Int32) (x0_7 : Int32) (x0_8 : Int32) (x0_12 : Int32) (x0_13 : Int32) (x0_14 : Int32) (x0_15 : Int32) (x0_16 : Int32) (x0_17 : Int32) (x0_18 : Int32) (x0_22 : Int32) (x0_23 : Int32) (x0_24 : Int32) (x0_25 : Int32) (x0_26 : Int32) (x0_27 : Int32) (x0_28 : Int32) (x0_29 : Int32) (x0_30 : Int32) (x0_31 : Int32) (x0_32 : Int32) (x0_36 : Int32) (x0_39 : Int32) (x0_40 : Int64) (x0_44 : Int32) (x0_49 : Int32) (x0_51 : Int32) (x0_53 : Int32) (x0_54 : Int32) (x0_55 : Int64) (x0_56 : Int32) (x0_57 : Int32) (x0_58 : Int32) (x0_59 : Int32) (x0_60 : Int32) (x0_61 : Int32) (x0_62 : Int64) (y1 : Nat → Int32) (y2 : Nat → Int32) (y3 : Nat → Int32) (y4 : Nat → Int32) (y5 : Nat → Int32) (y6 : Nat → Int32) (y7 : Nat → Int32) (y8 : Nat → Int32) (y9 : Nat → Int32) (y10 : Nat → Int32) (y11 : Nat → Int64) (y12 : Nat → Int32) (y13 : Nat → Int64) (y14 : Nat → Int32) (y15 : Nat → Int64) (y16 : Nat → Int32) (y17 : Nat → Int32) (y18 : Nat → Int32) (y19 : Nat → Int32) (y20 : Nat → Int32) (y21 : Nat → Int32) (y22 : Nat → Int32) (y23 : Nat → Int32) (y24 : Nat → Int64) (y25 : Nat → Int64)  (Rx0_12 : 0 ≤ x0_12.toInt ∧ x0_12.toInt ≤ 63) (Rx0_13 : 0 ≤ x0_13.toInt ∧ x0_13.toInt ≤ 63) (Rx0_15 : (-8190) ≤ x0_15.toInt ∧ x0_15.toInt ≤ 8190) (Ay7 : ∀ i : Nat, (0 ≤ (y7 i).toInt ∧ (y7 i).toInt ≤ 40)) (Q0 : (34 ≤ x0_12.toInt ∧ x0_12.toInt ≤ 38) → x0_13.toInt ≤ 1) : Met l y_X_isBlock (.code y_X_isBlock b_X_isBlock 1 (some .boolean) :: tb) ({ frames := 1, cells := 0, slots := 0, locals := 25 }) (pM D cI cJ cZ cB (wS50 cI cJ cZ cB p0 p1 p2 p3 p4 p5 p6 p7 p8 p9 p10 p11 p12 p13 p14 p15 p16 p17 p18 p19 p20 p21 p22 p23 p24 p25 x0_4 x0_5 x0_6 x0_7 x0_8 x0_12 x0_13 x0_14 x0_15 x0_16 x0_17 x0_18 x0_22 x0_23 x0_24 x0_25 x0_26 x0_27 x0_28 x0_29 x0_30 x0_31 x0_32 x0_36 x0_39 x0_40 x0_44 x0_49 x0_51 x0_53 x0_54 x0_55 x0_56 x0_57 x0_58 x0_59 x0_60 x0_61 x0_62 y1 y2 y3 y4 y5 y6 y7 y8 y9 y10 y11 y12 y13 y14 y15 y16 y17 y18 y19 y20 y21 y22 y23 y24 y25) sz [.ref p0]) (va_Qi (fun r (u : Int32) => r = u) (fun ur t => (0 ≤ ur.toInt ∧ ur.toInt ≤ 1) ∧ (hid (ur.toInt = 1 → (x0_12.toInt = 35 → (x0_15.toInt = 0 ∨ (0 ≤ (y7 (x0_13).toNatClampNeg).toInt + x0_15.toInt ∧ (y7 (x0_13).toNatClampNeg).toInt + x0_15.toInt ≤ 40))))) ∧ (hid (ur.toInt = 1 → ((x0_12.toInt = 36 ∨ x0_12.toInt = 37) → (y7 (x0_13).toNatClampNeg).toInt ≤ 39))) ∧ va_P D classes (wS50 cI cJ cZ cB p0 p1 p2 p3 p4 p5 p6 p7 p8 p9 p10 p11 p12 p13 p14 p15 p16 p17 p18 p19 p20 p21 p22 p23 p24 p25 x0_4 x0_5 x0_6 x0_7 x0_8 x0_12 x0_13 x0_14 x0_15 x0_16 x0_17 x0_18 x0_22 x0_23 x0_24 x0_25 x0_26 x0_27 x0_28 x0_29 x0_30 x0_31 x0_32 x0_36 x0_39 x0_40 x0_44 x0_49 x0_51 x0_53 x0_54 x0_55 x0_56 x0_57 x0_58 x0_59 x0_60 x0_61 x0_62 y1 y2 y3 y4 y5 y6 y7 y8 y9 y10 y11 y12 y13 y14 y15 y16 y17 y18 y19 y20 y21 y22 y23 y24 y25) t.heap ∧ va_D (va_A (wS50 cI cJ cZ cB p0 p1 p2 p3 p4 p5 p6 p7 p8 p9 p10 p11 p12 p13 p14 p15 p16 p17 p18 p19 p20 p21 p22 p23 p24 p25 x0_4 x0_5 x0_6 x0_7 x0_8 x0_12 x0_13 x0_14 x0_15 x0_16 x0_17 x0_18 x0_22 x0_23 x0_24 x0_25 x0_26 x0_27 x0_28 x0_29 x0_30 x0_31 x0_32 x0_36 x0_39 x0_40 x0_44 x0_49 x0_51 x0_53 x0_54 x0_55 x0_56 x0_57 x0_58 x0_59 x0_60 x0_61 x0_62 y1 y2 y3 y4 y5 y6 y7 y8 y9 y10 y11 y12 y13 y14 y15 y16 y17 y18 y19 y20 y21 y22 y23 y24 y25) sz) (wS50 cI cJ cZ cB p0 p1 p2 p3 p4 p5 p6 p7 p8 p9 p10 p11 p12 p13 p14 p15 p16 p17 p18 p19 p20 p21 p22 p23 p24 p25 x0_4 x0_5 x0_6 x0_7 x0_8 x0_12 x0_13 x0_14 x0_15 x0_16 x0_17 x0_18 x0_22 x0_23 x0_24 x0_25 x0_26 x0_27 x0_28 x0_29 x0_30 x0_31 x0_32 x0_36 x0_39 x0_40 x0_44 x0_49 x0_51 x0_53 x0_54 x0_55 x0_56 x0_57 x0_58 x0_59 x0_60 x0_61 x0_62 y1 y2 y3 y4 y5 y6 y7 y8 y9 y10 y11 y12 y13 y14 y15 y16 y17 y18 y19 y20 y21 y22 y23 y24 y25)) (va_A (wS50 cI cJ cZ cB p0 p1 p2 p3 p4 p5 p6 p7 p8 p9 p10 p11 p12 p13 p14 p15 p16 p17 p18 p19 p20 p21 p22 p23 p24 p25 x0_4 x0_5 x0_6 x0_7 x0_8 x0_12 x0_13 x0_14 x0_15 x0_16 x0_17 x0_18 x0_22 x0_23 x0_24 x0_25 x0_26 x0_27 x0_28 x0_29 x0_30 x0_31 x0_32 x0_36 x0_39 x0_40 x0_44 x0_49 x0_51 x0_53 x0_54 x0_55 x0_56 x0_57 x0_58 x0_59 x0_60 x0_61 x0_62 y1 y2 y3 y4 y5 y6 y7 y8 y9 y10 y11 y12 y13 y14 y15 y16 y17 y18 y19 y20 y21 y22 y23 y24 y25) sz)) 0 0 (va_A (wS50 cI cJ cZ cB p0 p1 p2 p3 p4 p5 p6 p7 p8 p9 p10 p11 p12 p13 p14 p15 p16 p17 p18 p19 p20 p21 p22 p23 p24 p25 x0_4 x0_5 x0_6 x0_7 x0_8 x0_12 x0_13 x0_14 x0_15 x0_16 x0_17 x0_18 x0_22 x0_23 x0_24 x0_25 x0_26 x0_27 x0_28 x0_29 x0_30 x0_31 x0_32 x0_36 x0_39 x0_40 x0_44 x0_49 x0_51 x0_53 x0_54 x0_55 x0_56 x0_57 x0_58 x0_59 x0_60 x0_61 x0_62 y1 y2 y3 y4 y5 y6 y7 y8 y9 y10 y11 y12 y13 y14 y15 y16 y17 y18 y19 y20 y21 y22 y23 y24 y25) sz) := by
  refine Met.ofW (cc := b_X_isBlock) (maxL := 1) (ret := (some .boolean)) (by decide) rfl ?_
  intro p e s m args below meth c s₁ B hml hv
  obtain ⟨rfl, hsz, hK, hP, hD0⟩ := hv
  subst hsz
  have hD := hD0.self (sz := s.heap.size)
  generalize hAe : va_A (wS50 cI cJ cZ cB p0 p1 p2 p3 p4 p5 p6 p7 p8 p9 p10 p11 p12 p13 p14 p15 p16 p17 p18 p19 p20 p21 p22 p23 p24 p25 x0_4 x0_5 x0_6 x0_7 x0_8 x0_12 x0_13 x0_14 x0_15 x0_16 x0_17 x0_18 x0_22 x0_23 x0_24 x0_25 x0_26 x0_27 x0_28 x0_29 x0_30 x0_31 x0_32 x0_36 x0_39 x0_40 x0_44 x0_49 x0_51 x0_53 x0_54 x0_55 x0_56 x0_57 x0_58 x0_59 x0_60 x0_61 x0_62 y1 y2 y3 y4 y5 y6 y7 y8 y9 y10 y11 y12 y13 y14 y15 y16 y17 y18 y19 y20 y21 y22 y23 y24 y25) s.heap.size = A at hD ⊢
  have hA : ∀ q : Nat, s.heap.size ≤ q → A q := fun q h => by rw [← hAe]; exact Or.inr h
  clear hAe hD0
  have hS : va_S A s.heap s.heap [] := va_S.rf
  have hx := B.exec
  have hb := B.bytes
  have hr := B.returns
  have hts := atoms_spec (ws := .code y_X_isBlock b_X_isBlock 1 (some .boolean) :: tb) B.pre
  have hk : ∀ w ∈ tb, w.before [.ref p0].toArray s = true := fun w h => hts w (List.mem_cons_of_mem _ h)
  have hown : s.vm.findClass "SignMachineModel" = some m.cls := findClass_of_methodNamed B.named
  have hlocks := B.notSynchronized
  have hl := lv_entry ([.ref p0]) (n := 1) (Nat.le_of_ble_eq_true rfl)
  rw [lg_entry_eq]
  generalize (lg_sl ([.ref p0]) ++ List.replicate (1 - (lg_sl ([.ref p0])).length) Slot.unset).toArray = ls at hl ⊢
  have hl : lv_has ls 1 [(0, .ref p0)] := hl
  clear hts B
  refine lv_aload_n hx hb d_X_isBlock_0 rfl (lv_at hl 0 rfl) ?_
  refine va_get (D := D) (ci := 7) (v := .int x0_12) (C := "SignMachineModel") (T := F_X) (N := 64) hx hb hk fi_X hown hK.1 hP 0 rfl rfl 12 (by decide) (hk _ k_1133) (fun _ h9 => h9) rfl d_X_isBlock_1 ?_
  refine lv_bipush (v := 35) hx hb d_X_isBlock_4 (by decide) ?_
  refine lv_icmp_ne (tgt := 47) hx hb d_X_isBlock_6 (by decide) (fun c1 => ?_) (fun c1 => ?_)
  · have gc1 : x0_12.toInt ≠ (35 : Int) := c_ne c1
    refine lv_aload_n hx hb d_X_isBlock_47 rfl (lv_at hl 0 rfl) ?_
    refine va_get (D := D) (ci := 7) (v := .int x0_12) (C := "SignMachineModel") (T := F_X) (N := 64) hx hb hk fi_X hown hK.1 hP 0 rfl rfl 12 (by decide) (hk _ k_1133) (fun _ h9 => h9) rfl d_X_isBlock_48 ?_
    refine lv_bipush (v := 36) hx hb d_X_isBlock_51 (by decide) ?_
    refine lv_icmp_eq (tgt := 65) hx hb d_X_isBlock_53 (by decide) (fun c2 => ?_) (fun c2 => ?_)
    · have gc2 : x0_12.toInt = (36 : Int) := c_eq c2
      have R3 : 36 ≤ x0_12.toInt ∧ x0_12.toInt ≤ 36 := rf_eqX Rx0_12 (show 36 ≤ (36 : Int) ∧ (36 : Int) ≤ 36 from by decide) gc2 (by decide) (by decide)
      refine lv_aload_n hx hb d_X_isBlock_65 rfl (lv_at hl 0 rfl) ?_
      refine va_get (D := D) (ci := 7) (v := .ref p7) (C := "SignMachineModel") (T := F_X) (N := 64) hx hb hk fi_X hown hK.1 hP 0 rfl rfl 11 (by decide) (hk _ k_1132) (fun _ h9 => h9) rfl d_X_isBlock_66 ?_
      refine lv_aload_n hx hb d_X_isBlock_69 rfl (lv_at hl 0 rfl) ?_
      refine va_get (D := D) (ci := 7) (v := .int x0_13) (C := "SignMachineModel") (T := F_X) (N := 64) hx hb hk fi_X hown hK.1 hP 0 rfl rfl 13 (by decide) (hk _ k_1134) (fun _ h9 => h9) rfl d_X_isBlock_70 ?_
      refine va_iald hx hb hK.1 hP 7 0 rfl rfl (by rw [vp_in_iff]; omega) d_X_isBlock_73 ?_
      refine lv_topi (fun v4 hv4 => ?_)
      have Tv4 : v4.toInt = (y7 (x0_13).toNatClampNeg).toInt := congrArg _ hv4
      have Rv4 := Ay7 (x0_13).toNatClampNeg
      rw [← hv4] at Rv4
      refine lv_bipush (v := 40) hx hb d_X_isBlock_74 (by decide) ?_
      refine lv_icmp_ge (tgt := 83) hx hb d_X_isBlock_76 (by decide) (fun c5 => ?_) (fun c5 => ?_)
      · have gc5 : (40 : Int) ≤ v4.toInt := c_le c5
        have R6 : 40 ≤ v4.toInt ∧ v4.toInt ≤ 40 := rf_geX Rv4 (show 40 ≤ (40 : Int) ∧ (40 : Int) ≤ 40 from by decide) gc5 (by decide) (by decide)
        refine lv_iconst (v := 0) hx hb d_X_isBlock_83 (by decide) ?_
        exact W.zret (v := (0 : Int32)) hx hb hr (nar01 (by decide)) (fun t ht hW => ⟨⟨(0 : Int32), (0 : Int32), rfl, rfl, ⟨(by decide), (show hid ((0 : Int) = 1 → (x0_12.toInt = 35 → (x0_15.toInt = 0 ∨ (0 ≤ (y7 (x0_13).toNatClampNeg).toInt + x0_15.toInt ∧ (y7 (x0_13).toNatClampNeg).toInt + x0_15.toInt ≤ 40)))) from by first | assumption | (unfold hid; omega)), (show hid ((0 : Int) = 1 → ((x0_12.toInt = 36 ∨ x0_12.toInt = 37) → (y7 (x0_13).toNatClampNeg).toInt ≤ 39)) from by first | assumption | (unfold hid; omega)), by show va_P D classes _ t.heap; rw [ht]; exact hP, hD⟩⟩, hS.F ht⟩) hS.2.2 d_X_isBlock_84
      · have gc5 : v4.toInt < (40 : Int) := c_nle c5
        have R7 : 0 ≤ v4.toInt ∧ v4.toInt ≤ 39 := rf_ltX Rv4 (show 40 ≤ (40 : Int) ∧ (40 : Int) ≤ 40 from by decide) gc5 (by decide) (by decide)
        refine lv_iconst (v := 1) hx hb d_X_isBlock_79 (by decide) ?_
        refine lv_goto (tgt := 84) hx hb d_X_isBlock_80 (by decide) ?_
        exact W.zret (v := (1 : Int32)) hx hb hr (nar01 (by decide)) (fun t ht hW => ⟨⟨(1 : Int32), (1 : Int32), rfl, rfl, ⟨(by decide), (show hid ((1 : Int) = 1 → (x0_12.toInt = 35 → (x0_15.toInt = 0 ∨ (0 ≤ (y7 (x0_13).toNatClampNeg).toInt + x0_15.toInt ∧ (y7 (x0_13).toNatClampNeg).toInt + x0_15.toInt ≤ 40)))) from by first | assumption | (unfold hid; omega)), (show hid ((1 : Int) = 1 → ((x0_12.toInt = 36 ∨ x0_12.toInt = 37) → (y7 (x0_13).toNatClampNeg).toInt ≤ 39)) from by first | assumption | (unfold hid; omega)), by show va_P D classes _ t.heap; rw [ht]; exact hP, hD⟩⟩, hS.F ht⟩) hS.2.2 d_X_isBlock_84
    · have gc2 : x0_12.toInt ≠ (36 : Int) := c_ne c2
      refine lv_aload_n hx hb d_X_isBlock_56 rfl (lv_at hl 0 rfl) ?_
      refine va_get (D := D) (ci := 7) (v := .int x0_12) (C := "SignMachineModel") (T := F_X) (N := 64) hx hb hk fi_X hown hK.1 hP 0 rfl rfl 12 (by decide) (hk _ k_1133) (fun _ h9 => h9) rfl d_X_isBlock_57 ?_
      refine lv_bipush (v := 37) hx hb d_X_isBlock_60 (by decide) ?_
      refine lv_icmp_ne (tgt := 79) hx hb d_X_isBlock_62 (by decide) (fun c8 => ?_) (fun c8 => ?_)
      · have gc8 : x0_12.toInt ≠ (37 : Int) := c_ne c8
        refine lv_iconst (v := 1) hx hb d_X_isBlock_79 (by decide) ?_
        refine lv_goto (tgt := 84) hx hb d_X_isBlock_80 (by decide) ?_
        exact W.zret (v := (1 : Int32)) hx hb hr (nar01 (by decide)) (fun t ht hW => ⟨⟨(1 : Int32), (1 : Int32), rfl, rfl, ⟨(by decide), (show hid ((1 : Int) = 1 → (x0_12.toInt = 35 → (x0_15.toInt = 0 ∨ (0 ≤ (y7 (x0_13).toNatClampNeg).toInt + x0_15.toInt ∧ (y7 (x0_13).toNatClampNeg).toInt + x0_15.toInt ≤ 40)))) from by first | assumption | (unfold hid; omega)), (show hid ((1 : Int) = 1 → ((x0_12.toInt = 36 ∨ x0_12.toInt = 37) → (y7 (x0_13).toNatClampNeg).toInt ≤ 39)) from by first | assumption | (unfold hid; omega)), by show va_P D classes _ t.heap; rw [ht]; exact hP, hD⟩⟩, hS.F ht⟩) hS.2.2 d_X_isBlock_84
      · have gc8 : x0_12.toInt = (37 : Int) := c_eq c8
        have R9 : 37 ≤ x0_12.toInt ∧ x0_12.toInt ≤ 37 := rf_eqX Rx0_12 (show 37 ≤ (37 : Int) ∧ (37 : Int) ≤ 37 from by decide) gc8 (by decide) (by decide)
        refine lv_aload_n hx hb d_X_isBlock_65 rfl (lv_at hl 0 rfl) ?_
        refine va_get (D := D) (ci := 7) (v := .ref p7) (C := "SignMachineModel") (T := F_X) (N := 64) hx hb hk fi_X hown hK.1 hP 0 rfl rfl 11 (by decide) (hk _ k_1132) (fun _ h9 => h9) rfl d_X_isBlock_66 ?_
        refine lv_aload_n hx hb d_X_isBlock_69 rfl (lv_at hl 0 rfl) ?_
        refine va_get (D := D) (ci := 7) (v := .int x0_13) (C := "SignMachineModel") (T := F_X) (N := 64) hx hb hk fi_X hown hK.1 hP 0 rfl rfl 13 (by decide) (hk _ k_1134) (fun _ h9 => h9) rfl d_X_isBlock_70 ?_
        refine va_iald hx hb hK.1 hP 7 0 rfl rfl (by rw [vp_in_iff]; omega) d_X_isBlock_73 ?_
        refine lv_topi (fun v10 hv10 => ?_)
        have Tv10 : v10.toInt = (y7 (x0_13).toNatClampNeg).toInt := congrArg _ hv10
        have Rv10 := Ay7 (x0_13).toNatClampNeg
        rw [← hv10] at Rv10
        refine lv_bipush (v := 40) hx hb d_X_isBlock_74 (by decide) ?_
        refine lv_icmp_ge (tgt := 83) hx hb d_X_isBlock_76 (by decide) (fun c11 => ?_) (fun c11 => ?_)
        · have gc11 : (40 : Int) ≤ v10.toInt := c_le c11
          have R12 : 40 ≤ v10.toInt ∧ v10.toInt ≤ 40 := rf_geX Rv10 (show 40 ≤ (40 : Int) ∧ (40 : Int) ≤ 40 from by decide) gc11 (by decide) (by decide)
          refine lv_iconst (v := 0) hx hb d_X_isBlock_83 (by decide) ?_
          exact W.zret (v := (0 : Int32)) hx hb hr (nar01 (by decide)) (fun t ht hW => ⟨⟨(0 : Int32), (0 : Int32), rfl, rfl, ⟨(by decide), (show hid ((0 : Int) = 1 → (x0_12.toInt = 35 → (x0_15.toInt = 0 ∨ (0 ≤ (y7 (x0_13).toNatClampNeg).toInt + x0_15.toInt ∧ (y7 (x0_13).toNatClampNeg).toInt + x0_15.toInt ≤ 40)))) from by first | assumption | (unfold hid; omega)), (show hid ((0 : Int) = 1 → ((x0_12.toInt = 36 ∨ x0_12.toInt = 37) → (y7 (x0_13).toNatClampNeg).toInt ≤ 39)) from by first | assumption | (unfold hid; omega)), by show va_P D classes _ t.heap; rw [ht]; exact hP, hD⟩⟩, hS.F ht⟩) hS.2.2 d_X_isBlock_84
        · have gc11 : v10.toInt < (40 : Int) := c_nle c11
          have R13 : 0 ≤ v10.toInt ∧ v10.toInt ≤ 39 := rf_ltX Rv10 (show 40 ≤ (40 : Int) ∧ (40 : Int) ≤ 40 from by decide) gc11 (by decide) (by decide)
          refine lv_iconst (v := 1) hx hb d_X_isBlock_79 (by decide) ?_
          refine lv_goto (tgt := 84) hx hb d_X_isBlock_80 (by decide) ?_
          exact W.zret (v := (1 : Int32)) hx hb hr (nar01 (by decide)) (fun t ht hW => ⟨⟨(1 : Int32), (1 : Int32), rfl, rfl, ⟨(by decide), (show hid ((1 : Int) = 1 → (x0_12.toInt = 35 → (x0_15.toInt = 0 ∨ (0 ≤ (y7 (x0_13).toNatClampNeg).toInt + x0_15.toInt ∧ (y7 (x0_13).toNatClampNeg).toInt + x0_15.toInt ≤ 40)))) from by first | assumption | (unfold hid; omega)), (show hid ((1 : Int) = 1 → ((x0_12.toInt = 36 ∨ x0_12.toInt = 37) → (y7 (x0_13).toNatClampNeg).toInt ≤ 39)) from by first | assumption | (unfold hid; omega)), by show va_P D classes _ t.heap; rw [ht]; exact hP, hD⟩⟩, hS.F ht⟩) hS.2.2 d_X_isBlock_84
  · have gc1 : x0_12.toInt = (35 : Int) := c_eq c1
    have R14 : 35 ≤ x0_12.toInt ∧ x0_12.toInt ≤ 35 := rf_eqX Rx0_12 (show 35 ≤ (35 : Int) ∧ (35 : Int) ≤ 35 from by decide) gc1 (by decide) (by decide)
    refine lv_aload_n hx hb d_X_isBlock_9 rfl (lv_at hl 0 rfl) ?_
    refine va_get (D := D) (ci := 7) (v := .int x0_15) (C := "SignMachineModel") (T := F_X) (N := 64) hx hb hk fi_X hown hK.1 hP 0 rfl rfl 15 (by decide) (hk _ k_1136) (fun _ h9 => h9) rfl d_X_isBlock_10 ?_
    refine lv_if_eq (tgt := 41) hx hb d_X_isBlock_13 (by decide) (fun c15 => ?_) (fun c15 => ?_)
    · have gc15 : x0_15.toInt = (0 : Int) := c_eq c15
      have R16 : 0 ≤ x0_15.toInt ∧ x0_15.toInt ≤ 0 := rf_eqX Rx0_15 (show 0 ≤ (0 : Int) ∧ (0 : Int) ≤ 0 from by decide) gc15 (by decide) (by decide)
      refine lv_iconst (v := 1) hx hb d_X_isBlock_41 (by decide) ?_
      refine lv_goto (tgt := 46) hx hb d_X_isBlock_42 (by decide) ?_
      exact W.zret (v := (1 : Int32)) hx hb hr (nar01 (by decide)) (fun t ht hW => ⟨⟨(1 : Int32), (1 : Int32), rfl, rfl, ⟨(by decide), (show hid ((1 : Int) = 1 → (x0_12.toInt = 35 → (x0_15.toInt = 0 ∨ (0 ≤ (y7 (x0_13).toNatClampNeg).toInt + x0_15.toInt ∧ (y7 (x0_13).toNatClampNeg).toInt + x0_15.toInt ≤ 40)))) from by first | assumption | (unfold hid; omega)), (show hid ((1 : Int) = 1 → ((x0_12.toInt = 36 ∨ x0_12.toInt = 37) → (y7 (x0_13).toNatClampNeg).toInt ≤ 39)) from by first | assumption | (unfold hid; omega)), by show va_P D classes _ t.heap; rw [ht]; exact hP, hD⟩⟩, hS.F ht⟩) hS.2.2 d_X_isBlock_46
    · have gc15 : x0_15.toInt ≠ (0 : Int) := c_ne c15
      refine lv_aload_n hx hb d_X_isBlock_16 rfl (lv_at hl 0 rfl) ?_
      refine va_get (D := D) (ci := 7) (v := .ref p7) (C := "SignMachineModel") (T := F_X) (N := 64) hx hb hk fi_X hown hK.1 hP 0 rfl rfl 11 (by decide) (hk _ k_1132) (fun _ h9 => h9) rfl d_X_isBlock_17 ?_
      refine lv_aload_n hx hb d_X_isBlock_20 rfl (lv_at hl 0 rfl) ?_
      refine va_get (D := D) (ci := 7) (v := .int x0_13) (C := "SignMachineModel") (T := F_X) (N := 64) hx hb hk fi_X hown hK.1 hP 0 rfl rfl 13 (by decide) (hk _ k_1134) (fun _ h9 => h9) rfl d_X_isBlock_21 ?_
      refine va_iald hx hb hK.1 hP 7 0 rfl rfl (by rw [vp_in_iff]; omega) d_X_isBlock_24 ?_
      refine lv_topi (fun v17 hv17 => ?_)
      have Tv17 : v17.toInt = (y7 (x0_13).toNatClampNeg).toInt := congrArg _ hv17
      have Rv17 := Ay7 (x0_13).toNatClampNeg
      rw [← hv17] at Rv17
      refine lv_aload_n hx hb d_X_isBlock_25 rfl (lv_at hl 0 rfl) ?_
      refine va_get (D := D) (ci := 7) (v := .int x0_15) (C := "SignMachineModel") (T := F_X) (N := 64) hx hb hk fi_X hown hK.1 hP 0 rfl rfl 15 (by decide) (hk _ k_1136) (fun _ h9 => h9) rfl d_X_isBlock_26 ?_
      refine lv_iadd hx hb d_X_isBlock_29 ?_
      refine lv_topi (fun v18 hv18 => ?_)
      obtain ⟨ev18, Rv18⟩ : v18.toInt = v17.toInt + x0_15.toInt ∧ ((-8190) ≤ v18.toInt ∧ v18.toInt ≤ 8230) := ad3 hv18 Rv17 Rx0_15 (by decide) (by decide) (by decide) (by decide)
      refine lv_i2l (v := (v18 : Int32).toInt64) hx hb d_X_isBlock_30 rfl ?_
      refine lv_topl (fun v19 hv19 => ?_)
      obtain ⟨ev19, Rv19⟩ : v19.toInt = v18.toInt ∧ ((-8190) ≤ v19.toInt ∧ v19.toInt ≤ 8230) := il3 hv19 Rv18
      refine lv_lconst (v := 0) hx hb d_X_isBlock_31 (by decide) ?_
      refine lv_ldc2 (v := 40) hx hb hown (hk _ k_1423) d_X_isBlock_32 ?_
      refine vp_callSi (W.runS (As := [.long v19, .long (0 : Int64), .long (40 : Int64)]) (rest := []) ⟨hx, hb, hml, hown, hk⟩ (c_X_isIn l v19 (0 : Int64) (40 : Int64) ) (s_X_isIn hk k_1319 ⟨Nat.le_of_ble_eq_true rfl, Nat.le_of_ble_eq_true rfl⟩) ⟨fun a U g mk q => q, fun U hU hW => ⟨rfl, trivial⟩⟩ rfl rfl hl.1 rfl (lv_room (Nat.le_of_ble_eq_true rfl)) d_X_isBlock_35 ⟨Nat.le_of_ble_eq_true rfl, Nat.le_of_ble_eq_true rfl⟩) (fun rz20 hrz20 => ?_)
      obtain ⟨F0z20, F1z20, F2z20⟩ := hrz20
      have F0z20 : 0 ≤ rz20.toInt ∧ rz20.toInt ≤ 1 := F0z20
      have F1z20 : rz20.toInt = 1 → ((0 : Int) ≤ v19.toInt ∧ v19.toInt ≤ (40 : Int)) := F1z20
      have F2z20 : rz20.toInt = 0 → (v19.toInt < (0 : Int) ∨ (40 : Int) < v19.toInt) := F2z20
      refine lv_if_eq (tgt := 45) hx hb d_X_isBlock_38 (by decide) (fun c21 => ?_) (fun c21 => ?_)
      · have gc21 : rz20.toInt = (0 : Int) := c_eq c21
        have R22 : 0 ≤ rz20.toInt ∧ rz20.toInt ≤ 0 := rf_eqX F0z20 (show 0 ≤ (0 : Int) ∧ (0 : Int) ≤ 0 from by decide) gc21 (by decide) (by decide)
        refine lv_iconst (v := 0) hx hb d_X_isBlock_45 (by decide) ?_
        exact W.zret (v := (0 : Int32)) hx hb hr (nar01 (by decide)) (fun t ht hW => ⟨⟨(0 : Int32), (0 : Int32), rfl, rfl, ⟨(by decide), (show hid ((0 : Int) = 1 → (x0_12.toInt = 35 → (x0_15.toInt = 0 ∨ (0 ≤ (y7 (x0_13).toNatClampNeg).toInt + x0_15.toInt ∧ (y7 (x0_13).toNatClampNeg).toInt + x0_15.toInt ≤ 40)))) from by first | assumption | (unfold hid; omega)), (show hid ((0 : Int) = 1 → ((x0_12.toInt = 36 ∨ x0_12.toInt = 37) → (y7 (x0_13).toNatClampNeg).toInt ≤ 39)) from by first | assumption | (unfold hid; omega)), by show va_P D classes _ t.heap; rw [ht]; exact hP, hD⟩⟩, hS.F ht⟩) hS.2.2 d_X_isBlock_46
      · have gc21 : rz20.toInt ≠ (0 : Int) := c_ne c21
        have R23 : 1 ≤ rz20.toInt ∧ rz20.toInt ≤ 1 := rf_neX F0z20 (show 0 ≤ (0 : Int) ∧ (0 : Int) ≤ 0 from by decide) gc21 (by decide) (by decide)
        refine lv_iconst (v := 1) hx hb d_X_isBlock_41 (by decide) ?_
        refine lv_goto (tgt := 46) hx hb d_X_isBlock_42 (by decide) ?_
        exact W.zret (v := (1 : Int32)) hx hb hr (nar01 (by decide)) (fun t ht hW => ⟨⟨(1 : Int32), (1 : Int32), rfl, rfl, ⟨(by decide), (show hid ((1 : Int) = 1 → (x0_12.toInt = 35 → (x0_15.toInt = 0 ∨ (0 ≤ (y7 (x0_13).toNatClampNeg).toInt + x0_15.toInt ∧ (y7 (x0_13).toNatClampNeg).toInt + x0_15.toInt ≤ 40)))) from by first | assumption | (unfold hid; omega)), (show hid ((1 : Int) = 1 → ((x0_12.toInt = 36 ∨ x0_12.toInt = 37) → (y7 (x0_13).toNatClampNeg).toInt ≤ 39)) from by first | assumption | (unfold hid; omega)), by show va_P D classes _ t.heap; rw [ht]; exact hP, hD⟩⟩, hS.F ht⟩) hS.2.2 d_X_isBlock_46
theorem v_X_isBlock {R : Room} {s : State} {args : Array Value} {own : String} {index : Nat} (hk : ∀ w ∈ tb, w.before args s = true) (hl : Cond.methodLink own index y_X_isBlock ∈ tb) (hR : 1 + 1 ≤ R.frames ∧ 8 + (1 + 11) + 25 ≤ R.locals) : CallW R s args own "SignMachineModel" index y_X_isBlock b_X_isBlock 1 (some .boolean) (.code y_X_isBlock b_X_isBlock 1 (some .boolean) :: tb) ({ frames := 1, cells := 0, slots := 0, locals := 25 }) 0 0 0 := mk_v 0 hk k_1422 hl k_1421 k_68 k_119 rfl rfl h_X_isBlock hR
set_option maxHeartbeats 8000000 in
set_option maxRecDepth 100000 in
theorem c_X_judge (l : Launch) (D : va_G) (cI cJ cZ cB : ClassId) (p0 p1 p2 p3 p4 p5 p6 p7 p8 p9 p10 p11 p12 p13 p14 p15 p16 p17 p18 p19 p20 p21 p22 p23 p24 p25 : Nat) (sz : Nat) (x0_4 : Int32) (x0_5 : Int32) (x0_6 : Int32) (x0_7 : Int32) (x0_8 : Int32) (x0_12 : Int32) (x0_13 : Int32) (x0_14 : Int32) (x0_15 : Int32) (x0_16 : Int32) (x0_17 : Int32) (x0_18 : Int32) (x0_22 : Int32) (x0_23 : Int32) (x0_24 : Int32) (x0_25 : Int32) (x0_26 : Int32) (x0_27 : Int32) (x0_28 : Int32) (x0_29 : Int32) (x0_30 : Int32) (x0_31 : Int32) (x0_32 : Int32) (x0_36 : Int32) (x0_39 : Int32) (x0_40 : Int64) (x0_44 : Int32) (x0_49 : Int32) (x0_51 : Int32) (x0_53 : Int32) (x0_54 : Int32) (x0_55 : Int64) (x0_56 : Int32) (x0_57 : Int32) (x0_58 : Int32) (x0_59 : Int32) (x0_60 : Int32) (x0_61 : Int32) (x0_62 : Int64) (y1 : Nat → Int32) (y2 : Nat → Int32) (y3 : Nat → Int32) (y4 : Nat → Int32) (y5 : Nat → Int32) (y6 : Nat → Int32) (y7 : Nat → Int32) (y8 : Nat → Int32) (y9 : Nat → Int32) (y10 : Nat → Int32) (y11 : Nat → Int64) (y12 : Nat → Int32) (y13 : Nat → Int64) (y14 : Nat → Int32) (y15 : Nat → Int64) (y16 : Nat → Int32) (y17 : Nat → Int32) (y18 : Nat → Int32) (y19 : Nat → Int32) (y20 : Nat → Int32) (y21 : Nat → Int32) (y22 : Nat → Int32) (y23 : Nat → Int32) (y24 : Nat → Int64) (y25 : Nat → Int64)  (Rx0_4 : 0 ≤ x0_4.toInt ∧ x0_4.toInt ≤ 4000) (Rx0_12 : 0 ≤ x0_12.toInt ∧ x0_12.toInt ≤ 63) (Rx0_13 : 0 ≤ x0_13.toInt ∧ x0_13.toInt ≤ 63) (Rx0_14 : 0 ≤ x0_14.toInt ∧ x0_14.toInt ≤ 63) (Rx0_15 : (-8190) ≤ x0_15.toInt ∧ x0_15.toInt ≤ 8190) (Rx0_16 : 0 ≤ x0_16.toInt ∧ x0_16.toInt ≤ 1) (Rx0_17 : 0 ≤ x0_17.toInt ∧ x0_17.toInt ≤ 1) (Rx0_18 : 0 ≤ x0_18.toInt ∧ x0_18.toInt ≤ 1073741823) (Ay1 : ∀ i : Nat, (0 ≤ (y1 i).toInt ∧ (y1 i).toInt ≤ 1)) (Ay2 : ∀ i : Nat, (0 ≤ (y2 i).toInt ∧ (y2 i).toInt ≤ 1073741823)) (Ay3 : ∀ i : Nat, (0 ≤ (y3 i).toInt ∧ (y3 i).toInt ≤ 1)) (Ay4 : ∀ i : Nat, ((0 ≤ (y4 i).toInt ∧ (y4 i).toInt ≤ 1073741823) ∧ ((1 ≤ (i : Int) ∧ (i : Int) ≤ 6) → (y4 i).toInt ≤ 4095))) (Ay7 : ∀ i : Nat, (0 ≤ (y7 i).toInt ∧ (y7 i).toInt ≤ 40)) : Met l y_X_judge (.code y_X_judge b_X_judge 1 (some .int) :: tb) ({ frames := 4, cells := 0, slots := 0, locals := 89 }) (pM D cI cJ cZ cB (wS50 cI cJ cZ cB p0 p1 p2 p3 p4 p5 p6 p7 p8 p9 p10 p11 p12 p13 p14 p15 p16 p17 p18 p19 p20 p21 p22 p23 p24 p25 x0_4 x0_5 x0_6 x0_7 x0_8 x0_12 x0_13 x0_14 x0_15 x0_16 x0_17 x0_18 x0_22 x0_23 x0_24 x0_25 x0_26 x0_27 x0_28 x0_29 x0_30 x0_31 x0_32 x0_36 x0_39 x0_40 x0_44 x0_49 x0_51 x0_53 x0_54 x0_55 x0_56 x0_57 x0_58 x0_59 x0_60 x0_61 x0_62 y1 y2 y3 y4 y5 y6 y7 y8 y9 y10 y11 y12 y13 y14 y15 y16 y17 y18 y19 y20 y21 y22 y23 y24 y25) sz [.ref p0]) (va_Qi (fun r (u : Int32) => r = u) (fun ur t => ∃ u_x0_12 : Int32, ∃ u_x0_13 : Int32, ∃ u_x0_14 : Int32, ∃ u_x0_15 : Int32, ∃ u_x0_16 : Int32, ∃ u_x0_17 : Int32, ∃ u_x0_18 : Int32, (0 ≤ u_x0_12.toInt ∧ u_x0_12.toInt ≤ 63) ∧ (0 ≤ u_x0_13.toInt ∧ u_x0_13.toInt ≤ 63) ∧ (0 ≤ u_x0_14.toInt ∧ u_x0_14.toInt ≤ 63) ∧ ((-8190) ≤ u_x0_15.toInt ∧ u_x0_15.toInt ≤ 8190) ∧ (0 ≤ u_x0_16.toInt ∧ u_x0_16.toInt ≤ 1) ∧ (0 ≤ u_x0_17.toInt ∧ u_x0_17.toInt ≤ 1) ∧ (0 ≤ u_x0_18.toInt ∧ u_x0_18.toInt ≤ 1073741823) ∧ (0 ≤ ur.toInt ∧ ur.toInt ≤ 5) ∧ (ur.toInt = 0 → x0_4.toInt ≤ 3999) ∧ (hid (ur.toInt = 0 → (((1 ≤ u_x0_12.toInt ∧ u_x0_12.toInt ≤ 4) ∨ (8 ≤ u_x0_12.toInt ∧ u_x0_12.toInt ≤ 33) ∨ 56 ≤ u_x0_12.toInt) → (u_x0_13.toInt / 8 ≤ u_x0_13.toInt % 8 ∧ u_x0_13.toInt % 8 ≤ 5)))) ∧ (hid (ur.toInt = 0 → ((34 ≤ u_x0_12.toInt ∧ u_x0_12.toInt ≤ 38) → u_x0_13.toInt ≤ 1))) ∧ (hid (ur.toInt = 0 → ((((1 ≤ u_x0_12.toInt ∧ u_x0_12.toInt ≤ 4) ∨ (8 ≤ u_x0_12.toInt ∧ u_x0_12.toInt ≤ 33) ∨ 56 ≤ u_x0_12.toInt) ∨ u_x0_12.toInt = 34 ∨ (38 ≤ u_x0_12.toInt ∧ u_x0_12.toInt ≤ 47)) → (0 ≤ u_x0_15.toInt ∧ u_x0_15.toInt ≤ 3999)))) ∧ (hid (ur.toInt = 0 → ((u_x0_12.toInt = 7 ∧ 0 < u_x0_13.toInt) → (0 ≤ u_x0_15.toInt ∧ u_x0_15.toInt + u_x0_13.toInt ≤ 4000 ∧ 0 ≤ rv y3 y4 ((1 : Int32)).toNatClampNeg ∧ rv y3 y4 ((1 : Int32)).toNatClampNeg + u_x0_13.toInt ≤ 4000)))) ∧ (hid (ur.toInt = 0 → ((u_x0_12.toInt = 36 ∨ u_x0_12.toInt = 37) → (0 ≤ u_x0_15.toInt ∧ u_x0_15.toInt ≤ 3900)))) ∧ (hid (ur.toInt = 0 → ((8 ≤ u_x0_12.toInt ∧ u_x0_12.toInt ≤ 23 ∧ u_x0_12.toInt % 8 ≠ 0 ∧ u_x0_12.toInt % 8 ≠ 7) → tvf y2 u_x0_15 u_x0_13 ≤ 4095))) ∧ (hid (ur.toInt = 0 → ((49 ≤ u_x0_12.toInt ∧ u_x0_12.toInt ≤ 54 ∧ u_x0_13.toInt = 0) → (-4095 ≤ rv y3 y4 (u_x0_12 - (48 : Int32)).toNatClampNeg + u_x0_15.toInt ∧ rv y3 y4 (u_x0_12 - (48 : Int32)).toNatClampNeg + u_x0_15.toInt ≤ 4095)))) ∧ (hid (ur.toInt = 0 → ((49 ≤ u_x0_12.toInt ∧ u_x0_12.toInt ≤ 54 ∧ u_x0_13.toInt = 1) → (-4095 ≤ rv y3 y4 (u_x0_12 - (48 : Int32)).toNatClampNeg - u_x0_15.toInt ∧ rv y3 y4 (u_x0_12 - (48 : Int32)).toNatClampNeg - u_x0_15.toInt ≤ 4095)))) ∧ (hid (ur.toInt = 0 → ((49 ≤ u_x0_12.toInt ∧ u_x0_12.toInt ≤ 54 ∧ 2 ≤ u_x0_13.toInt) → (-4095 ≤ u_x0_15.toInt ∧ u_x0_15.toInt ≤ 4095)))) ∧ (hid (ur.toInt = 0 → (u_x0_12.toInt = 35 → (u_x0_15.toInt = 0 ∨ (0 ≤ (y7 (u_x0_13).toNatClampNeg).toInt + u_x0_15.toInt ∧ (y7 (u_x0_13).toNatClampNeg).toInt + u_x0_15.toInt ≤ 40))))) ∧ (hid (ur.toInt = 0 → ((u_x0_12.toInt = 36 ∨ u_x0_12.toInt = 37) → (y7 (u_x0_13).toNatClampNeg).toInt ≤ 39))) ∧ (hid (ur.toInt = 0 → ((u_x0_15.toInt < 0 → u_x0_16.toInt = 1) ∧ (0 < u_x0_15.toInt → u_x0_16.toInt = 0)))) ∧ va_P D classes (wS50 cI cJ cZ cB p0 p1 p2 p3 p4 p5 p6 p7 p8 p9 p10 p11 p12 p13 p14 p15 p16 p17 p18 p19 p20 p21 p22 p23 p24 p25 x0_4 x0_5 x0_6 x0_7 x0_8 u_x0_12 u_x0_13 u_x0_14 u_x0_15 u_x0_16 u_x0_17 u_x0_18 x0_22 x0_23 x0_24 x0_25 x0_26 x0_27 x0_28 x0_29 x0_30 x0_31 x0_32 x0_36 x0_39 x0_40 x0_44 x0_49 x0_51 x0_53 x0_54 x0_55 x0_56 x0_57 x0_58 x0_59 x0_60 x0_61 x0_62 y1 y2 y3 y4 y5 y6 y7 y8 y9 y10 y11 y12 y13 y14 y15 y16 y17 y18 y19 y20 y21 y22 y23 y24 y25) t.heap ∧ va_D (va_A (wS50 cI cJ cZ cB p0 p1 p2 p3 p4 p5 p6 p7 p8 p9 p10 p11 p12 p13 p14 p15 p16 p17 p18 p19 p20 p21 p22 p23 p24 p25 x0_4 x0_5 x0_6 x0_7 x0_8 x0_12 x0_13 x0_14 x0_15 x0_16 x0_17 x0_18 x0_22 x0_23 x0_24 x0_25 x0_26 x0_27 x0_28 x0_29 x0_30 x0_31 x0_32 x0_36 x0_39 x0_40 x0_44 x0_49 x0_51 x0_53 x0_54 x0_55 x0_56 x0_57 x0_58 x0_59 x0_60 x0_61 x0_62 y1 y2 y3 y4 y5 y6 y7 y8 y9 y10 y11 y12 y13 y14 y15 y16 y17 y18 y19 y20 y21 y22 y23 y24 y25) sz) (wS50 cI cJ cZ cB p0 p1 p2 p3 p4 p5 p6 p7 p8 p9 p10 p11 p12 p13 p14 p15 p16 p17 p18 p19 p20 p21 p22 p23 p24 p25 x0_4 x0_5 x0_6 x0_7 x0_8 u_x0_12 u_x0_13 u_x0_14 u_x0_15 u_x0_16 u_x0_17 u_x0_18 x0_22 x0_23 x0_24 x0_25 x0_26 x0_27 x0_28 x0_29 x0_30 x0_31 x0_32 x0_36 x0_39 x0_40 x0_44 x0_49 x0_51 x0_53 x0_54 x0_55 x0_56 x0_57 x0_58 x0_59 x0_60 x0_61 x0_62 y1 y2 y3 y4 y5 y6 y7 y8 y9 y10 y11 y12 y13 y14 y15 y16 y17 y18 y19 y20 y21 y22 y23 y24 y25)) (va_A (wS50 cI cJ cZ cB p0 p1 p2 p3 p4 p5 p6 p7 p8 p9 p10 p11 p12 p13 p14 p15 p16 p17 p18 p19 p20 p21 p22 p23 p24 p25 x0_4 x0_5 x0_6 x0_7 x0_8 x0_12 x0_13 x0_14 x0_15 x0_16 x0_17 x0_18 x0_22 x0_23 x0_24 x0_25 x0_26 x0_27 x0_28 x0_29 x0_30 x0_31 x0_32 x0_36 x0_39 x0_40 x0_44 x0_49 x0_51 x0_53 x0_54 x0_55 x0_56 x0_57 x0_58 x0_59 x0_60 x0_61 x0_62 y1 y2 y3 y4 y5 y6 y7 y8 y9 y10 y11 y12 y13 y14 y15 y16 y17 y18 y19 y20 y21 y22 y23 y24 y25) sz)) 0 0 (va_A (wS50 cI cJ cZ cB p0 p1 p2 p3 p4 p5 p6 p7 p8 p9 p10 p11 p12 p13 p14 p15 p16 p17 p18 p19 p20 p21 p22 p23 p24 p25 x0_4 x0_5 x0_6 x0_7 x0_8 x0_12 x0_13 x0_14 x0_15 x0_16 x0_17 x0_18 x0_22 x0_23 x0_24 x0_25 x0_26 x0_27 x0_28 x0_29 x0_30 x0_31 x0_32 x0_36 x0_39 x0_40 x0_44 x0_49 x0_51 x0_53 x0_54 x0_55 x0_56 x0_57 x0_58 x0_59 x0_60 x0_61 x0_62 y1 y2 y3 y4 y5 y6 y7 y8 y9 y10 y11 y12 y13 y14 y15 y16 y17 y18 y19 y20 y21 y22 y23 y24 y25) sz) := by
  refine Met.ofW (cc := b_X_judge) (maxL := 1) (ret := (some .int)) (by decide) rfl ?_
  intro p e s m args below meth c s₁ B hml hv
  obtain ⟨rfl, hsz, hK, hP, hD0⟩ := hv
  subst hsz
  have hD := hD0.self (sz := s.heap.size)
  generalize hAe : va_A (wS50 cI cJ cZ cB p0 p1 p2 p3 p4 p5 p6 p7 p8 p9 p10 p11 p12 p13 p14 p15 p16 p17 p18 p19 p20 p21 p22 p23 p24 p25 x0_4 x0_5 x0_6 x0_7 x0_8 x0_12 x0_13 x0_14 x0_15 x0_16 x0_17 x0_18 x0_22 x0_23 x0_24 x0_25 x0_26 x0_27 x0_28 x0_29 x0_30 x0_31 x0_32 x0_36 x0_39 x0_40 x0_44 x0_49 x0_51 x0_53 x0_54 x0_55 x0_56 x0_57 x0_58 x0_59 x0_60 x0_61 x0_62 y1 y2 y3 y4 y5 y6 y7 y8 y9 y10 y11 y12 y13 y14 y15 y16 y17 y18 y19 y20 y21 y22 y23 y24 y25) s.heap.size = A at hD ⊢
  have hA : ∀ q : Nat, s.heap.size ≤ q → A q := fun q h => by rw [← hAe]; exact Or.inr h
  clear hAe hD0
  have hS : va_S A s.heap s.heap [] := va_S.rf
  have hx := B.exec
  have hb := B.bytes
  have hr := B.returns
  have hts := atoms_spec (ws := .code y_X_judge b_X_judge 1 (some .int) :: tb) B.pre
  have hk : ∀ w ∈ tb, w.before [.ref p0].toArray s = true := fun w h => hts w (List.mem_cons_of_mem _ h)
  have hown : s.vm.findClass "SignMachineModel" = some m.cls := findClass_of_methodNamed B.named
  have hlocks := B.notSynchronized
  have hl := lv_entry ([.ref p0]) (n := 1) (Nat.le_of_ble_eq_true rfl)
  rw [lg_entry_eq]
  generalize (lg_sl ([.ref p0]) ++ List.replicate (1 - (lg_sl ([.ref p0])).length) Slot.unset).toArray = ls at hl ⊢
  have hl : lv_has ls 1 [(0, .ref p0)] := hl
  clear hts B
  refine lv_aload_n hx hb d_X_judge_0 rfl (lv_at hl 0 rfl) ?_
  refine va_get (D := D) (ci := 7) (v := .int x0_4) (C := "SignMachineModel") (T := F_X) (N := 64) hx hb hk fi_X hown hK.1 hP 0 rfl rfl 4 (by decide) (hk _ k_1125) (fun _ h9 => h9) rfl d_X_judge_1 ?_
  refine lv_sipush (v := 4000) hx hb d_X_judge_4 (by decide) ?_
  refine lv_icmp_lt (tgt := 12) hx hb d_X_judge_7 (by decide) (fun c1 => ?_) (fun c1 => ?_)
  · have gc1 : x0_4.toInt < (4000 : Int) := c_lt c1
    have R2 : 0 ≤ x0_4.toInt ∧ x0_4.toInt ≤ 3999 := rf_ltX Rx0_4 (show 4000 ≤ (4000 : Int) ∧ (4000 : Int) ≤ 4000 from by decide) gc1 (by decide) (by decide)
    refine lv_aload_n hx hb d_X_judge_12 rfl (lv_at hl 0 rfl) ?_
    refine kn_v (va_runV (C := "SignMachineModel") (As := []) (rest := []) ⟨hx, hb, hml, hown, hk⟩ (c_X_take l D cI cJ cZ cB p0 p1 p2 p3 p4 p5 p6 p7 p8 p9 p10 p11 p12 p13 p14 p15 p16 p17 p18 p19 p20 p21 p22 p23 p24 p25 s.heap.size x0_4 x0_5 x0_6 x0_7 x0_8 x0_12 x0_13 x0_14 x0_15 x0_16 x0_17 x0_18 x0_22 x0_23 x0_24 x0_25 x0_26 x0_27 x0_28 x0_29 x0_30 x0_31 x0_32 x0_36 x0_39 x0_40 x0_44 x0_49 x0_51 x0_53 x0_54 x0_55 x0_56 x0_57 x0_58 x0_59 x0_60 x0_61 x0_62 y1 y2 y3 y4 y5 y6 y7 y8 y9 y10 y11 y12 y13 y14 y15 y16 y17 y18 y19 y20 y21 y22 y23 y24 y25  (rgw R2 (by decide) (by decide)) Rx0_12 Rx0_13 Rx0_14 Rx0_15 Rx0_16 Ay1 Ay2 Ay3 Ay4 (show x0_4.toInt ≤ 3999 from by omega)) (v_X_take hk k_1376 ⟨Nat.le_of_ble_eq_true rfl, Nat.le_of_ble_eq_true rfl⟩) (pM_v hK hP hD (ci := 7) (q0 := 0) rfl rfl rfl) rfl rfl hl.1 rfl (lv_room (Nat.le_of_ble_eq_true rfl)) d_X_judge_13 ⟨Nat.le_of_ble_eq_true rfl, Nat.le_of_ble_eq_true rfl⟩) hS hA hD (fun u t H locs ht hB hFr hS => ?_)
    obtain ⟨x0_12z3, x0_13z3, x0_14z3, x0_15z3, x0_16z3, Rx0_12z3, Rx0_13z3, Rx0_14z3, Rx0_15z3, Rx0_16z3, F0z3, hP, hD⟩ := hB
    have F0z3 : (x0_15z3.toInt < 0 → x0_16z3.toInt = 1) ∧ (0 < x0_15z3.toInt → x0_16z3.toInt = 0) := F0z3
    rw [ht] at hP
    have hD := dwk hD hFr
    clear ht hFr
    have hP : va_P D classes (wS50 cI cJ cZ cB p0 p1 p2 p3 p4 p5 p6 p7 p8 p9 p10 p11 p12 p13 p14 p15 p16 p17 p18 p19 p20 p21 p22 p23 p24 p25 x0_4 x0_5 x0_6 x0_7 x0_8 x0_12z3 x0_13z3 x0_14z3 x0_15z3 x0_16z3 x0_17 x0_18 x0_22 x0_23 x0_24 x0_25 x0_26 x0_27 x0_28 x0_29 x0_30 x0_31 x0_32 x0_36 x0_39 x0_40 x0_44 x0_49 x0_51 x0_53 x0_54 x0_55 x0_56 x0_57 x0_58 x0_59 x0_60 x0_61 x0_62 y1 y2 y3 y4 y5 y6 y7 y8 y9 y10 y11 y12 y13 y14 y15 y16 y17 y18 y19 y20 y21 y22 y23 y24 y25) H := hP
    have hD : va_D A (wS50 cI cJ cZ cB p0 p1 p2 p3 p4 p5 p6 p7 p8 p9 p10 p11 p12 p13 p14 p15 p16 p17 p18 p19 p20 p21 p22 p23 p24 p25 x0_4 x0_5 x0_6 x0_7 x0_8 x0_12z3 x0_13z3 x0_14z3 x0_15z3 x0_16z3 x0_17 x0_18 x0_22 x0_23 x0_24 x0_25 x0_26 x0_27 x0_28 x0_29 x0_30 x0_31 x0_32 x0_36 x0_39 x0_40 x0_44 x0_49 x0_51 x0_53 x0_54 x0_55 x0_56 x0_57 x0_58 x0_59 x0_60 x0_61 x0_62 y1 y2 y3 y4 y5 y6 y7 y8 y9 y10 y11 y12 y13 y14 y15 y16 y17 y18 y19 y20 y21 y22 y23 y24 y25) := hD
    refine lv_aload_n hx hb d_X_judge_16 rfl (lv_at hl 0 rfl) ?_
    refine va_get (D := D) (ci := 7) (v := .int x0_14z3) (C := "SignMachineModel") (T := F_X) (N := 64) hx hb hk fi_X hown hK.1 hP 0 rfl rfl 14 (by decide) (hk _ k_1135) (fun _ h9 => h9) rfl d_X_judge_17 ?_
    refine lv_bipush (v := 6) hx hb d_X_judge_20 (by decide) ?_
    refine lv_icmp_gt (tgt := 32) hx hb d_X_judge_22 (by decide) (fun c4 => ?_) (fun c4 => ?_)
    · have gc4 : (6 : Int) < x0_14z3.toInt := c_lt c4
      have R5 : 7 ≤ x0_14z3.toInt ∧ x0_14z3.toInt ≤ 63 := rf_gtX Rx0_14z3 (show 6 ≤ (6 : Int) ∧ (6 : Int) ≤ 6 from by decide) gc4 (by decide) (by decide)
      refine lv_iconst (v := 2) hx hb d_X_judge_32 (by decide) ?_
      exact W.iret (v := (2 : Int32)) hx hb hr (fun t ht hW => ⟨⟨(2 : Int32), (2 : Int32), rfl, rfl, ⟨x0_12z3, x0_13z3, x0_14z3, x0_15z3, x0_16z3, x0_17, x0_18, Rx0_12z3, Rx0_13z3, (rgw R5 (by decide) (by decide)), Rx0_15z3, Rx0_16z3, Rx0_17, Rx0_18, (by decide), (show (2 : Int) = 0 → x0_4.toInt ≤ 3999 from by omega), (show hid ((2 : Int) = 0 → (((1 ≤ x0_12z3.toInt ∧ x0_12z3.toInt ≤ 4) ∨ (8 ≤ x0_12z3.toInt ∧ x0_12z3.toInt ≤ 33) ∨ 56 ≤ x0_12z3.toInt) → (x0_13z3.toInt / 8 ≤ x0_13z3.toInt % 8 ∧ x0_13z3.toInt % 8 ≤ 5))) from fun h => absurd h (by decide)), (show hid ((2 : Int) = 0 → ((34 ≤ x0_12z3.toInt ∧ x0_12z3.toInt ≤ 38) → x0_13z3.toInt ≤ 1)) from fun h => absurd h (by decide)), (show hid ((2 : Int) = 0 → ((((1 ≤ x0_12z3.toInt ∧ x0_12z3.toInt ≤ 4) ∨ (8 ≤ x0_12z3.toInt ∧ x0_12z3.toInt ≤ 33) ∨ 56 ≤ x0_12z3.toInt) ∨ x0_12z3.toInt = 34 ∨ (38 ≤ x0_12z3.toInt ∧ x0_12z3.toInt ≤ 47)) → (0 ≤ x0_15z3.toInt ∧ x0_15z3.toInt ≤ 3999))) from fun h => absurd h (by decide)), (show hid ((2 : Int) = 0 → ((x0_12z3.toInt = 7 ∧ 0 < x0_13z3.toInt) → (0 ≤ x0_15z3.toInt ∧ x0_15z3.toInt + x0_13z3.toInt ≤ 4000 ∧ 0 ≤ rv y3 y4 ((1 : Int32)).toNatClampNeg ∧ rv y3 y4 ((1 : Int32)).toNatClampNeg + x0_13z3.toInt ≤ 4000))) from fun h => absurd h (by decide)), (show hid ((2 : Int) = 0 → ((x0_12z3.toInt = 36 ∨ x0_12z3.toInt = 37) → (0 ≤ x0_15z3.toInt ∧ x0_15z3.toInt ≤ 3900))) from fun h => absurd h (by decide)), (show hid ((2 : Int) = 0 → ((8 ≤ x0_12z3.toInt ∧ x0_12z3.toInt ≤ 23 ∧ x0_12z3.toInt % 8 ≠ 0 ∧ x0_12z3.toInt % 8 ≠ 7) → tvf y2 x0_15z3 x0_13z3 ≤ 4095)) from fun h => absurd h (by decide)), (show hid ((2 : Int) = 0 → ((49 ≤ x0_12z3.toInt ∧ x0_12z3.toInt ≤ 54 ∧ x0_13z3.toInt = 0) → (-4095 ≤ rv y3 y4 (x0_12z3 - (48 : Int32)).toNatClampNeg + x0_15z3.toInt ∧ rv y3 y4 (x0_12z3 - (48 : Int32)).toNatClampNeg + x0_15z3.toInt ≤ 4095))) from fun h => absurd h (by decide)), (show hid ((2 : Int) = 0 → ((49 ≤ x0_12z3.toInt ∧ x0_12z3.toInt ≤ 54 ∧ x0_13z3.toInt = 1) → (-4095 ≤ rv y3 y4 (x0_12z3 - (48 : Int32)).toNatClampNeg - x0_15z3.toInt ∧ rv y3 y4 (x0_12z3 - (48 : Int32)).toNatClampNeg - x0_15z3.toInt ≤ 4095))) from fun h => absurd h (by decide)), (show hid ((2 : Int) = 0 → ((49 ≤ x0_12z3.toInt ∧ x0_12z3.toInt ≤ 54 ∧ 2 ≤ x0_13z3.toInt) → (-4095 ≤ x0_15z3.toInt ∧ x0_15z3.toInt ≤ 4095))) from fun h => absurd h (by decide)), (show hid ((2 : Int) = 0 → (x0_12z3.toInt = 35 → (x0_15z3.toInt = 0 ∨ (0 ≤ (y7 (x0_13z3).toNatClampNeg).toInt + x0_15z3.toInt ∧ (y7 (x0_13z3).toNatClampNeg).toInt + x0_15z3.toInt ≤ 40)))) from fun h => absurd h (by decide)), (show hid ((2 : Int) = 0 → ((x0_12z3.toInt = 36 ∨ x0_12z3.toInt = 37) → (y7 (x0_13z3).toNatClampNeg).toInt ≤ 39)) from fun h => absurd h (by decide)), (show hid ((2 : Int) = 0 → ((x0_15z3.toInt < 0 → x0_16z3.toInt = 1) ∧ (0 < x0_15z3.toInt → x0_16z3.toInt = 0))) from fun h => absurd h (by decide)), by show va_P D classes _ t.heap; rw [ht]; exact hP, hD⟩⟩, hS.F ht⟩) hS.2.2 d_X_judge_33
    · have gc4 : x0_14z3.toInt ≤ (6 : Int) := c_nlt c4
      have R6 : 0 ≤ x0_14z3.toInt ∧ x0_14z3.toInt ≤ 6 := rf_leX Rx0_14z3 (show 6 ≤ (6 : Int) ∧ (6 : Int) ≤ 6 from by decide) gc4 (by decide) (by decide)
      refine lv_aload_n hx hb d_X_judge_25 rfl (lv_at hl 0 rfl) ?_
      refine sn_i (va_runV (C := "SignMachineModel") (As := []) (rest := []) ⟨hx, hb, hml, hown, hk⟩ (c_X_isFieldRight l D cI cJ cZ cB p0 p1 p2 p3 p4 p5 p6 p7 p8 p9 p10 p11 p12 p13 p14 p15 p16 p17 p18 p19 p20 p21 p22 p23 p24 p25 H.size x0_4 x0_5 x0_6 x0_7 x0_8 x0_12z3 x0_13z3 x0_14z3 x0_15z3 x0_16z3 x0_17 x0_18 x0_22 x0_23 x0_24 x0_25 x0_26 x0_27 x0_28 x0_29 x0_30 x0_31 x0_32 x0_36 x0_39 x0_40 x0_44 x0_49 x0_51 x0_53 x0_54 x0_55 x0_56 x0_57 x0_58 x0_59 x0_60 x0_61 x0_62 y1 y2 y3 y4 y5 y6 y7 y8 y9 y10 y11 y12 y13 y14 y15 y16 y17 y18 y19 y20 y21 y22 y23 y24 y25  Rx0_12z3 Rx0_13z3) (v_X_isFieldRight hk k_1382 ⟨Nat.le_of_ble_eq_true rfl, Nat.le_of_ble_eq_true rfl⟩) (pM_v hK hP hD (ci := 7) (q0 := 0) rfl rfl rfl) rfl rfl hl.1 rfl (lv_room (Nat.le_of_ble_eq_true rfl)) d_X_judge_26 ⟨Nat.le_of_ble_eq_true rfl, Nat.le_of_ble_eq_true rfl⟩) hS hA hD (fun rz7 u t H locs hr0 ht hB hFr hS => ?_)
      subst hr0
      obtain ⟨F0z7, F1z7, F2z7, hP, hD⟩ := hB
      have F0z7 : 0 ≤ rz7.toInt ∧ rz7.toInt ≤ 1 := F0z7
      have F1z7 : hid (rz7.toInt = 1 → (((1 ≤ x0_12z3.toInt ∧ x0_12z3.toInt ≤ 4) ∨ (8 ≤ x0_12z3.toInt ∧ x0_12z3.toInt ≤ 33) ∨ 56 ≤ x0_12z3.toInt) → (x0_13z3.toInt / 8 ≤ x0_13z3.toInt % 8 ∧ x0_13z3.toInt % 8 ≤ 5))) := F1z7
      have F2z7 : hid (rz7.toInt = 1 → ((34 ≤ x0_12z3.toInt ∧ x0_12z3.toInt ≤ 38) → x0_13z3.toInt ≤ 1)) := F2z7
      rw [ht] at hP
      have hD := dwk hD hFr
      clear ht hFr
      have hP : va_P D classes (wS50 cI cJ cZ cB p0 p1 p2 p3 p4 p5 p6 p7 p8 p9 p10 p11 p12 p13 p14 p15 p16 p17 p18 p19 p20 p21 p22 p23 p24 p25 x0_4 x0_5 x0_6 x0_7 x0_8 x0_12z3 x0_13z3 x0_14z3 x0_15z3 x0_16z3 x0_17 x0_18 x0_22 x0_23 x0_24 x0_25 x0_26 x0_27 x0_28 x0_29 x0_30 x0_31 x0_32 x0_36 x0_39 x0_40 x0_44 x0_49 x0_51 x0_53 x0_54 x0_55 x0_56 x0_57 x0_58 x0_59 x0_60 x0_61 x0_62 y1 y2 y3 y4 y5 y6 y7 y8 y9 y10 y11 y12 y13 y14 y15 y16 y17 y18 y19 y20 y21 y22 y23 y24 y25) H := hP
      have hD : va_D A (wS50 cI cJ cZ cB p0 p1 p2 p3 p4 p5 p6 p7 p8 p9 p10 p11 p12 p13 p14 p15 p16 p17 p18 p19 p20 p21 p22 p23 p24 p25 x0_4 x0_5 x0_6 x0_7 x0_8 x0_12z3 x0_13z3 x0_14z3 x0_15z3 x0_16z3 x0_17 x0_18 x0_22 x0_23 x0_24 x0_25 x0_26 x0_27 x0_28 x0_29 x0_30 x0_31 x0_32 x0_36 x0_39 x0_40 x0_44 x0_49 x0_51 x0_53 x0_54 x0_55 x0_56 x0_57 x0_58 x0_59 x0_60 x0_61 x0_62 y1 y2 y3 y4 y5 y6 y7 y8 y9 y10 y11 y12 y13 y14 y15 y16 y17 y18 y19 y20 y21 y22 y23 y24 y25) := hD
      refine lv_if_ne (tgt := 34) hx hb d_X_judge_29 (by decide) (fun c8 => ?_) (fun c8 => ?_)
      · have gc8 : rz7.toInt ≠ (0 : Int) := c_ne c8
        have R9 : 1 ≤ rz7.toInt ∧ rz7.toInt ≤ 1 := rf_neX F0z7 (show 0 ≤ (0 : Int) ∧ (0 : Int) ≤ 0 from by decide) gc8 (by decide) (by decide)
        refine lv_aload_n hx hb d_X_judge_34 rfl (lv_at hl 0 rfl) ?_
        refine sn_i (va_runV (C := "SignMachineModel") (As := []) (rest := []) ⟨hx, hb, hml, hown, hk⟩ (c_X_areAddresses l D cI cJ cZ cB p0 p1 p2 p3 p4 p5 p6 p7 p8 p9 p10 p11 p12 p13 p14 p15 p16 p17 p18 p19 p20 p21 p22 p23 p24 p25 H.size x0_4 x0_5 x0_6 x0_7 x0_8 x0_12z3 x0_13z3 x0_14z3 x0_15z3 x0_16z3 x0_17 x0_18 x0_22 x0_23 x0_24 x0_25 x0_26 x0_27 x0_28 x0_29 x0_30 x0_31 x0_32 x0_36 x0_39 x0_40 x0_44 x0_49 x0_51 x0_53 x0_54 x0_55 x0_56 x0_57 x0_58 x0_59 x0_60 x0_61 x0_62 y1 y2 y3 y4 y5 y6 y7 y8 y9 y10 y11 y12 y13 y14 y15 y16 y17 y18 y19 y20 y21 y22 y23 y24 y25  Rx0_12z3 Rx0_13z3 Rx0_15z3 Ay3 Ay4) (v_X_areAddresses hk k_1392 ⟨Nat.le_of_ble_eq_true rfl, Nat.le_of_ble_eq_true rfl⟩) (pM_v hK hP hD (ci := 7) (q0 := 0) rfl rfl rfl) rfl rfl hl.1 rfl (lv_room (Nat.le_of_ble_eq_true rfl)) d_X_judge_35 ⟨Nat.le_of_ble_eq_true rfl, Nat.le_of_ble_eq_true rfl⟩) hS hA hD (fun rz10 u t H locs hr0 ht hB hFr hS => ?_)
        subst hr0
        obtain ⟨F0z10, F1z10, F2z10, F3z10, hP, hD⟩ := hB
        have F0z10 : 0 ≤ rz10.toInt ∧ rz10.toInt ≤ 1 := F0z10
        have F1z10 : hid (rz10.toInt = 1 → ((((1 ≤ x0_12z3.toInt ∧ x0_12z3.toInt ≤ 4) ∨ (8 ≤ x0_12z3.toInt ∧ x0_12z3.toInt ≤ 33) ∨ 56 ≤ x0_12z3.toInt) ∨ x0_12z3.toInt = 34 ∨ (38 ≤ x0_12z3.toInt ∧ x0_12z3.toInt ≤ 47)) → (0 ≤ x0_15z3.toInt ∧ x0_15z3.toInt ≤ 3999))) := F1z10
        have F2z10 : hid (rz10.toInt = 1 → ((x0_12z3.toInt = 7 ∧ 0 < x0_13z3.toInt) → (0 ≤ x0_15z3.toInt ∧ x0_15z3.toInt + x0_13z3.toInt ≤ 4000 ∧ 0 ≤ rv y3 y4 ((1 : Int32)).toNatClampNeg ∧ rv y3 y4 ((1 : Int32)).toNatClampNeg + x0_13z3.toInt ≤ 4000))) := F2z10
        have F3z10 : hid (rz10.toInt = 1 → ((x0_12z3.toInt = 36 ∨ x0_12z3.toInt = 37) → (0 ≤ x0_15z3.toInt ∧ x0_15z3.toInt ≤ 3900))) := F3z10
        rw [ht] at hP
        have hD := dwk hD hFr
        clear ht hFr
        have hP : va_P D classes (wS50 cI cJ cZ cB p0 p1 p2 p3 p4 p5 p6 p7 p8 p9 p10 p11 p12 p13 p14 p15 p16 p17 p18 p19 p20 p21 p22 p23 p24 p25 x0_4 x0_5 x0_6 x0_7 x0_8 x0_12z3 x0_13z3 x0_14z3 x0_15z3 x0_16z3 x0_17 x0_18 x0_22 x0_23 x0_24 x0_25 x0_26 x0_27 x0_28 x0_29 x0_30 x0_31 x0_32 x0_36 x0_39 x0_40 x0_44 x0_49 x0_51 x0_53 x0_54 x0_55 x0_56 x0_57 x0_58 x0_59 x0_60 x0_61 x0_62 y1 y2 y3 y4 y5 y6 y7 y8 y9 y10 y11 y12 y13 y14 y15 y16 y17 y18 y19 y20 y21 y22 y23 y24 y25) H := hP
        have hD : va_D A (wS50 cI cJ cZ cB p0 p1 p2 p3 p4 p5 p6 p7 p8 p9 p10 p11 p12 p13 p14 p15 p16 p17 p18 p19 p20 p21 p22 p23 p24 p25 x0_4 x0_5 x0_6 x0_7 x0_8 x0_12z3 x0_13z3 x0_14z3 x0_15z3 x0_16z3 x0_17 x0_18 x0_22 x0_23 x0_24 x0_25 x0_26 x0_27 x0_28 x0_29 x0_30 x0_31 x0_32 x0_36 x0_39 x0_40 x0_44 x0_49 x0_51 x0_53 x0_54 x0_55 x0_56 x0_57 x0_58 x0_59 x0_60 x0_61 x0_62 y1 y2 y3 y4 y5 y6 y7 y8 y9 y10 y11 y12 y13 y14 y15 y16 y17 y18 y19 y20 y21 y22 y23 y24 y25) := hD
        refine lv_if_ne (tgt := 45) hx hb d_X_judge_38 (by decide) (fun c11 => ?_) (fun c11 => ?_)
        · have gc11 : rz10.toInt ≠ (0 : Int) := c_ne c11
          have R12 : 1 ≤ rz10.toInt ∧ rz10.toInt ≤ 1 := rf_neX F0z10 (show 0 ≤ (0 : Int) ∧ (0 : Int) ≤ 0 from by decide) gc11 (by decide) (by decide)
          refine lv_aload_n hx hb d_X_judge_45 rfl (lv_at hl 0 rfl) ?_
          refine sn_i (va_runV (C := "SignMachineModel") (As := []) (rest := []) ⟨hx, hb, hml, hown, hk⟩ (c_X_fitsIndex l D cI cJ cZ cB p0 p1 p2 p3 p4 p5 p6 p7 p8 p9 p10 p11 p12 p13 p14 p15 p16 p17 p18 p19 p20 p21 p22 p23 p24 p25 H.size x0_4 x0_5 x0_6 x0_7 x0_8 x0_12z3 x0_13z3 x0_14z3 x0_15z3 x0_16z3 x0_17 x0_18 x0_22 x0_23 x0_24 x0_25 x0_26 x0_27 x0_28 x0_29 x0_30 x0_31 x0_32 x0_36 x0_39 x0_40 x0_44 x0_49 x0_51 x0_53 x0_54 x0_55 x0_56 x0_57 x0_58 x0_59 x0_60 x0_61 x0_62 y1 y2 y3 y4 y5 y6 y7 y8 y9 y10 y11 y12 y13 y14 y15 y16 y17 y18 y19 y20 y21 y22 y23 y24 y25  Rx0_12z3 Rx0_13z3 Rx0_15z3 Rx0_17 Rx0_18 Ay1 Ay2 Ay3 Ay4 (F1z7 (by omega)) (F1z10 (by omega))) (v_X_fitsIndex hk k_1404 ⟨Nat.le_of_ble_eq_true rfl, Nat.le_of_ble_eq_true rfl⟩) (pM_v hK hP hD (ci := 7) (q0 := 0) rfl rfl rfl) rfl rfl hl.1 rfl (lv_room (Nat.le_of_ble_eq_true rfl)) d_X_judge_46 ⟨Nat.le_of_ble_eq_true rfl, Nat.le_of_ble_eq_true rfl⟩) hS hA hD (fun rz13 u t H locs hr0 ht hB hFr hS => ?_)
          subst hr0
          obtain ⟨x0_17z13, x0_18z13, Rx0_17z13, Rx0_18z13, F0z13, F1z13, F2z13, F3z13, F4z13, hP, hD⟩ := hB
          have F0z13 : 0 ≤ rz13.toInt ∧ rz13.toInt ≤ 1 := F0z13
          have F1z13 : hid (rz13.toInt = 1 → ((8 ≤ x0_12z3.toInt ∧ x0_12z3.toInt ≤ 23 ∧ x0_12z3.toInt % 8 ≠ 0 ∧ x0_12z3.toInt % 8 ≠ 7) → tvf y2 x0_15z3 x0_13z3 ≤ 4095)) := F1z13
          have F2z13 : hid (rz13.toInt = 1 → ((49 ≤ x0_12z3.toInt ∧ x0_12z3.toInt ≤ 54 ∧ x0_13z3.toInt = 0) → (-4095 ≤ rv y3 y4 (x0_12z3 - (48 : Int32)).toNatClampNeg + x0_15z3.toInt ∧ rv y3 y4 (x0_12z3 - (48 : Int32)).toNatClampNeg + x0_15z3.toInt ≤ 4095))) := F2z13
          have F3z13 : hid (rz13.toInt = 1 → ((49 ≤ x0_12z3.toInt ∧ x0_12z3.toInt ≤ 54 ∧ x0_13z3.toInt = 1) → (-4095 ≤ rv y3 y4 (x0_12z3 - (48 : Int32)).toNatClampNeg - x0_15z3.toInt ∧ rv y3 y4 (x0_12z3 - (48 : Int32)).toNatClampNeg - x0_15z3.toInt ≤ 4095))) := F3z13
          have F4z13 : hid (rz13.toInt = 1 → ((49 ≤ x0_12z3.toInt ∧ x0_12z3.toInt ≤ 54 ∧ 2 ≤ x0_13z3.toInt) → (-4095 ≤ x0_15z3.toInt ∧ x0_15z3.toInt ≤ 4095))) := F4z13
          rw [ht] at hP
          have hD := dwk hD hFr
          clear ht hFr
          have hP : va_P D classes (wS50 cI cJ cZ cB p0 p1 p2 p3 p4 p5 p6 p7 p8 p9 p10 p11 p12 p13 p14 p15 p16 p17 p18 p19 p20 p21 p22 p23 p24 p25 x0_4 x0_5 x0_6 x0_7 x0_8 x0_12z3 x0_13z3 x0_14z3 x0_15z3 x0_16z3 x0_17z13 x0_18z13 x0_22 x0_23 x0_24 x0_25 x0_26 x0_27 x0_28 x0_29 x0_30 x0_31 x0_32 x0_36 x0_39 x0_40 x0_44 x0_49 x0_51 x0_53 x0_54 x0_55 x0_56 x0_57 x0_58 x0_59 x0_60 x0_61 x0_62 y1 y2 y3 y4 y5 y6 y7 y8 y9 y10 y11 y12 y13 y14 y15 y16 y17 y18 y19 y20 y21 y22 y23 y24 y25) H := hP
          have hD : va_D A (wS50 cI cJ cZ cB p0 p1 p2 p3 p4 p5 p6 p7 p8 p9 p10 p11 p12 p13 p14 p15 p16 p17 p18 p19 p20 p21 p22 p23 p24 p25 x0_4 x0_5 x0_6 x0_7 x0_8 x0_12z3 x0_13z3 x0_14z3 x0_15z3 x0_16z3 x0_17z13 x0_18z13 x0_22 x0_23 x0_24 x0_25 x0_26 x0_27 x0_28 x0_29 x0_30 x0_31 x0_32 x0_36 x0_39 x0_40 x0_44 x0_49 x0_51 x0_53 x0_54 x0_55 x0_56 x0_57 x0_58 x0_59 x0_60 x0_61 x0_62 y1 y2 y3 y4 y5 y6 y7 y8 y9 y10 y11 y12 y13 y14 y15 y16 y17 y18 y19 y20 y21 y22 y23 y24 y25) := hD
          refine lv_if_ne (tgt := 56) hx hb d_X_judge_49 (by decide) (fun c14 => ?_) (fun c14 => ?_)
          · have gc14 : rz13.toInt ≠ (0 : Int) := c_ne c14
            have R15 : 1 ≤ rz13.toInt ∧ rz13.toInt ≤ 1 := rf_neX F0z13 (show 0 ≤ (0 : Int) ∧ (0 : Int) ≤ 0 from by decide) gc14 (by decide) (by decide)
            refine lv_aload_n hx hb d_X_judge_56 rfl (lv_at hl 0 rfl) ?_
            refine sn_i (va_runV (C := "SignMachineModel") (As := []) (rest := []) ⟨hx, hb, hml, hown, hk⟩ (c_X_isBlock l D cI cJ cZ cB p0 p1 p2 p3 p4 p5 p6 p7 p8 p9 p10 p11 p12 p13 p14 p15 p16 p17 p18 p19 p20 p21 p22 p23 p24 p25 H.size x0_4 x0_5 x0_6 x0_7 x0_8 x0_12z3 x0_13z3 x0_14z3 x0_15z3 x0_16z3 x0_17z13 x0_18z13 x0_22 x0_23 x0_24 x0_25 x0_26 x0_27 x0_28 x0_29 x0_30 x0_31 x0_32 x0_36 x0_39 x0_40 x0_44 x0_49 x0_51 x0_53 x0_54 x0_55 x0_56 x0_57 x0_58 x0_59 x0_60 x0_61 x0_62 y1 y2 y3 y4 y5 y6 y7 y8 y9 y10 y11 y12 y13 y14 y15 y16 y17 y18 y19 y20 y21 y22 y23 y24 y25  Rx0_12z3 Rx0_13z3 Rx0_15z3 Ay7 (F2z7 (by omega))) (v_X_isBlock hk k_1419 ⟨Nat.le_of_ble_eq_true rfl, Nat.le_of_ble_eq_true rfl⟩) (pM_v hK hP hD (ci := 7) (q0 := 0) rfl rfl rfl) rfl rfl hl.1 rfl (lv_room (Nat.le_of_ble_eq_true rfl)) d_X_judge_57 ⟨Nat.le_of_ble_eq_true rfl, Nat.le_of_ble_eq_true rfl⟩) hS hA hD (fun rz16 u t H locs hr0 ht hB hFr hS => ?_)
            subst hr0
            obtain ⟨F0z16, F1z16, F2z16, hP, hD⟩ := hB
            have F0z16 : 0 ≤ rz16.toInt ∧ rz16.toInt ≤ 1 := F0z16
            have F1z16 : hid (rz16.toInt = 1 → (x0_12z3.toInt = 35 → (x0_15z3.toInt = 0 ∨ (0 ≤ (y7 (x0_13z3).toNatClampNeg).toInt + x0_15z3.toInt ∧ (y7 (x0_13z3).toNatClampNeg).toInt + x0_15z3.toInt ≤ 40)))) := F1z16
            have F2z16 : hid (rz16.toInt = 1 → ((x0_12z3.toInt = 36 ∨ x0_12z3.toInt = 37) → (y7 (x0_13z3).toNatClampNeg).toInt ≤ 39)) := F2z16
            rw [ht] at hP
            have hD := dwk hD hFr
            clear ht hFr
            have hP : va_P D classes (wS50 cI cJ cZ cB p0 p1 p2 p3 p4 p5 p6 p7 p8 p9 p10 p11 p12 p13 p14 p15 p16 p17 p18 p19 p20 p21 p22 p23 p24 p25 x0_4 x0_5 x0_6 x0_7 x0_8 x0_12z3 x0_13z3 x0_14z3 x0_15z3 x0_16z3 x0_17z13 x0_18z13 x0_22 x0_23 x0_24 x0_25 x0_26 x0_27 x0_28 x0_29 x0_30 x0_31 x0_32 x0_36 x0_39 x0_40 x0_44 x0_49 x0_51 x0_53 x0_54 x0_55 x0_56 x0_57 x0_58 x0_59 x0_60 x0_61 x0_62 y1 y2 y3 y4 y5 y6 y7 y8 y9 y10 y11 y12 y13 y14 y15 y16 y17 y18 y19 y20 y21 y22 y23 y24 y25) H := hP
            have hD : va_D A (wS50 cI cJ cZ cB p0 p1 p2 p3 p4 p5 p6 p7 p8 p9 p10 p11 p12 p13 p14 p15 p16 p17 p18 p19 p20 p21 p22 p23 p24 p25 x0_4 x0_5 x0_6 x0_7 x0_8 x0_12z3 x0_13z3 x0_14z3 x0_15z3 x0_16z3 x0_17z13 x0_18z13 x0_22 x0_23 x0_24 x0_25 x0_26 x0_27 x0_28 x0_29 x0_30 x0_31 x0_32 x0_36 x0_39 x0_40 x0_44 x0_49 x0_51 x0_53 x0_54 x0_55 x0_56 x0_57 x0_58 x0_59 x0_60 x0_61 x0_62 y1 y2 y3 y4 y5 y6 y7 y8 y9 y10 y11 y12 y13 y14 y15 y16 y17 y18 y19 y20 y21 y22 y23 y24 y25) := hD
            refine lv_if_ne (tgt := 67) hx hb d_X_judge_60 (by decide) (fun c17 => ?_) (fun c17 => ?_)
            · have gc17 : rz16.toInt ≠ (0 : Int) := c_ne c17
              have R18 : 1 ≤ rz16.toInt ∧ rz16.toInt ≤ 1 := rf_neX F0z16 (show 0 ≤ (0 : Int) ∧ (0 : Int) ≤ 0 from by decide) gc17 (by decide) (by decide)
              refine lv_iconst (v := 0) hx hb d_X_judge_67 (by decide) ?_
              exact W.iret (v := (0 : Int32)) hx hb hr (fun t ht hW => ⟨⟨(0 : Int32), (0 : Int32), rfl, rfl, ⟨x0_12z3, x0_13z3, x0_14z3, x0_15z3, x0_16z3, x0_17z13, x0_18z13, Rx0_12z3, Rx0_13z3, (rgw R6 (by decide) (by decide)), Rx0_15z3, Rx0_16z3, Rx0_17z13, Rx0_18z13, (by decide), (show (0 : Int) = 0 → x0_4.toInt ≤ 3999 from by omega), (show hid ((0 : Int) = 0 → (((1 ≤ x0_12z3.toInt ∧ x0_12z3.toInt ≤ 4) ∨ (8 ≤ x0_12z3.toInt ∧ x0_12z3.toInt ≤ 33) ∨ 56 ≤ x0_12z3.toInt) → (x0_13z3.toInt / 8 ≤ x0_13z3.toInt % 8 ∧ x0_13z3.toInt % 8 ≤ 5))) from fun _ => F1z7 (by omega)), (show hid ((0 : Int) = 0 → ((34 ≤ x0_12z3.toInt ∧ x0_12z3.toInt ≤ 38) → x0_13z3.toInt ≤ 1)) from fun _ => F2z7 (by omega)), (show hid ((0 : Int) = 0 → ((((1 ≤ x0_12z3.toInt ∧ x0_12z3.toInt ≤ 4) ∨ (8 ≤ x0_12z3.toInt ∧ x0_12z3.toInt ≤ 33) ∨ 56 ≤ x0_12z3.toInt) ∨ x0_12z3.toInt = 34 ∨ (38 ≤ x0_12z3.toInt ∧ x0_12z3.toInt ≤ 47)) → (0 ≤ x0_15z3.toInt ∧ x0_15z3.toInt ≤ 3999))) from fun _ => F1z10 (by omega)), (show hid ((0 : Int) = 0 → ((x0_12z3.toInt = 7 ∧ 0 < x0_13z3.toInt) → (0 ≤ x0_15z3.toInt ∧ x0_15z3.toInt + x0_13z3.toInt ≤ 4000 ∧ 0 ≤ rv y3 y4 ((1 : Int32)).toNatClampNeg ∧ rv y3 y4 ((1 : Int32)).toNatClampNeg + x0_13z3.toInt ≤ 4000))) from fun _ => F2z10 (by omega)), (show hid ((0 : Int) = 0 → ((x0_12z3.toInt = 36 ∨ x0_12z3.toInt = 37) → (0 ≤ x0_15z3.toInt ∧ x0_15z3.toInt ≤ 3900))) from fun _ => F3z10 (by omega)), (show hid ((0 : Int) = 0 → ((8 ≤ x0_12z3.toInt ∧ x0_12z3.toInt ≤ 23 ∧ x0_12z3.toInt % 8 ≠ 0 ∧ x0_12z3.toInt % 8 ≠ 7) → tvf y2 x0_15z3 x0_13z3 ≤ 4095)) from fun _ => F1z13 (by omega)), (show hid ((0 : Int) = 0 → ((49 ≤ x0_12z3.toInt ∧ x0_12z3.toInt ≤ 54 ∧ x0_13z3.toInt = 0) → (-4095 ≤ rv y3 y4 (x0_12z3 - (48 : Int32)).toNatClampNeg + x0_15z3.toInt ∧ rv y3 y4 (x0_12z3 - (48 : Int32)).toNatClampNeg + x0_15z3.toInt ≤ 4095))) from fun _ => F2z13 (by omega)), (show hid ((0 : Int) = 0 → ((49 ≤ x0_12z3.toInt ∧ x0_12z3.toInt ≤ 54 ∧ x0_13z3.toInt = 1) → (-4095 ≤ rv y3 y4 (x0_12z3 - (48 : Int32)).toNatClampNeg - x0_15z3.toInt ∧ rv y3 y4 (x0_12z3 - (48 : Int32)).toNatClampNeg - x0_15z3.toInt ≤ 4095))) from fun _ => F3z13 (by omega)), (show hid ((0 : Int) = 0 → ((49 ≤ x0_12z3.toInt ∧ x0_12z3.toInt ≤ 54 ∧ 2 ≤ x0_13z3.toInt) → (-4095 ≤ x0_15z3.toInt ∧ x0_15z3.toInt ≤ 4095))) from fun _ => F4z13 (by omega)), (show hid ((0 : Int) = 0 → (x0_12z3.toInt = 35 → (x0_15z3.toInt = 0 ∨ (0 ≤ (y7 (x0_13z3).toNatClampNeg).toInt + x0_15z3.toInt ∧ (y7 (x0_13z3).toNatClampNeg).toInt + x0_15z3.toInt ≤ 40)))) from fun _ => F1z16 (by omega)), (show hid ((0 : Int) = 0 → ((x0_12z3.toInt = 36 ∨ x0_12z3.toInt = 37) → (y7 (x0_13z3).toNatClampNeg).toInt ≤ 39)) from fun _ => F2z16 (by omega)), (show hid ((0 : Int) = 0 → ((x0_15z3.toInt < 0 → x0_16z3.toInt = 1) ∧ (0 < x0_15z3.toInt → x0_16z3.toInt = 0))) from fun _ => F0z3), by show va_P D classes _ t.heap; rw [ht]; exact hP, hD⟩⟩, hS.F ht⟩) hS.2.2 d_X_judge_68
            · have gc17 : rz16.toInt = (0 : Int) := c_eq c17
              have R19 : 0 ≤ rz16.toInt ∧ rz16.toInt ≤ 0 := rf_eqX F0z16 (show 0 ≤ (0 : Int) ∧ (0 : Int) ≤ 0 from by decide) gc17 (by decide) (by decide)
              refine lv_iconst (v := 5) hx hb d_X_judge_63 (by decide) ?_
              refine lv_goto (tgt := 68) hx hb d_X_judge_64 (by decide) ?_
              exact W.iret (v := (5 : Int32)) hx hb hr (fun t ht hW => ⟨⟨(5 : Int32), (5 : Int32), rfl, rfl, ⟨x0_12z3, x0_13z3, x0_14z3, x0_15z3, x0_16z3, x0_17z13, x0_18z13, Rx0_12z3, Rx0_13z3, (rgw R6 (by decide) (by decide)), Rx0_15z3, Rx0_16z3, Rx0_17z13, Rx0_18z13, (by decide), (show (5 : Int) = 0 → x0_4.toInt ≤ 3999 from by omega), (show hid ((5 : Int) = 0 → (((1 ≤ x0_12z3.toInt ∧ x0_12z3.toInt ≤ 4) ∨ (8 ≤ x0_12z3.toInt ∧ x0_12z3.toInt ≤ 33) ∨ 56 ≤ x0_12z3.toInt) → (x0_13z3.toInt / 8 ≤ x0_13z3.toInt % 8 ∧ x0_13z3.toInt % 8 ≤ 5))) from fun h => absurd h (by decide)), (show hid ((5 : Int) = 0 → ((34 ≤ x0_12z3.toInt ∧ x0_12z3.toInt ≤ 38) → x0_13z3.toInt ≤ 1)) from fun h => absurd h (by decide)), (show hid ((5 : Int) = 0 → ((((1 ≤ x0_12z3.toInt ∧ x0_12z3.toInt ≤ 4) ∨ (8 ≤ x0_12z3.toInt ∧ x0_12z3.toInt ≤ 33) ∨ 56 ≤ x0_12z3.toInt) ∨ x0_12z3.toInt = 34 ∨ (38 ≤ x0_12z3.toInt ∧ x0_12z3.toInt ≤ 47)) → (0 ≤ x0_15z3.toInt ∧ x0_15z3.toInt ≤ 3999))) from fun h => absurd h (by decide)), (show hid ((5 : Int) = 0 → ((x0_12z3.toInt = 7 ∧ 0 < x0_13z3.toInt) → (0 ≤ x0_15z3.toInt ∧ x0_15z3.toInt + x0_13z3.toInt ≤ 4000 ∧ 0 ≤ rv y3 y4 ((1 : Int32)).toNatClampNeg ∧ rv y3 y4 ((1 : Int32)).toNatClampNeg + x0_13z3.toInt ≤ 4000))) from fun h => absurd h (by decide)), (show hid ((5 : Int) = 0 → ((x0_12z3.toInt = 36 ∨ x0_12z3.toInt = 37) → (0 ≤ x0_15z3.toInt ∧ x0_15z3.toInt ≤ 3900))) from fun h => absurd h (by decide)), (show hid ((5 : Int) = 0 → ((8 ≤ x0_12z3.toInt ∧ x0_12z3.toInt ≤ 23 ∧ x0_12z3.toInt % 8 ≠ 0 ∧ x0_12z3.toInt % 8 ≠ 7) → tvf y2 x0_15z3 x0_13z3 ≤ 4095)) from fun h => absurd h (by decide)), (show hid ((5 : Int) = 0 → ((49 ≤ x0_12z3.toInt ∧ x0_12z3.toInt ≤ 54 ∧ x0_13z3.toInt = 0) → (-4095 ≤ rv y3 y4 (x0_12z3 - (48 : Int32)).toNatClampNeg + x0_15z3.toInt ∧ rv y3 y4 (x0_12z3 - (48 : Int32)).toNatClampNeg + x0_15z3.toInt ≤ 4095))) from fun h => absurd h (by decide)), (show hid ((5 : Int) = 0 → ((49 ≤ x0_12z3.toInt ∧ x0_12z3.toInt ≤ 54 ∧ x0_13z3.toInt = 1) → (-4095 ≤ rv y3 y4 (x0_12z3 - (48 : Int32)).toNatClampNeg - x0_15z3.toInt ∧ rv y3 y4 (x0_12z3 - (48 : Int32)).toNatClampNeg - x0_15z3.toInt ≤ 4095))) from fun h => absurd h (by decide)), (show hid ((5 : Int) = 0 → ((49 ≤ x0_12z3.toInt ∧ x0_12z3.toInt ≤ 54 ∧ 2 ≤ x0_13z3.toInt) → (-4095 ≤ x0_15z3.toInt ∧ x0_15z3.toInt ≤ 4095))) from fun h => absurd h (by decide)), (show hid ((5 : Int) = 0 → (x0_12z3.toInt = 35 → (x0_15z3.toInt = 0 ∨ (0 ≤ (y7 (x0_13z3).toNatClampNeg).toInt + x0_15z3.toInt ∧ (y7 (x0_13z3).toNatClampNeg).toInt + x0_15z3.toInt ≤ 40)))) from fun h => absurd h (by decide)), (show hid ((5 : Int) = 0 → ((x0_12z3.toInt = 36 ∨ x0_12z3.toInt = 37) → (y7 (x0_13z3).toNatClampNeg).toInt ≤ 39)) from fun h => absurd h (by decide)), (show hid ((5 : Int) = 0 → ((x0_15z3.toInt < 0 → x0_16z3.toInt = 1) ∧ (0 < x0_15z3.toInt → x0_16z3.toInt = 0))) from fun h => absurd h (by decide)), by show va_P D classes _ t.heap; rw [ht]; exact hP, hD⟩⟩, hS.F ht⟩) hS.2.2 d_X_judge_68
          · have gc14 : rz13.toInt = (0 : Int) := c_eq c14
            have R20 : 0 ≤ rz13.toInt ∧ rz13.toInt ≤ 0 := rf_eqX F0z13 (show 0 ≤ (0 : Int) ∧ (0 : Int) ≤ 0 from by decide) gc14 (by decide) (by decide)
            refine lv_iconst (v := 4) hx hb d_X_judge_52 (by decide) ?_
            refine lv_goto (tgt := 68) hx hb d_X_judge_53 (by decide) ?_
            exact W.iret (v := (4 : Int32)) hx hb hr (fun t ht hW => ⟨⟨(4 : Int32), (4 : Int32), rfl, rfl, ⟨x0_12z3, x0_13z3, x0_14z3, x0_15z3, x0_16z3, x0_17z13, x0_18z13, Rx0_12z3, Rx0_13z3, (rgw R6 (by decide) (by decide)), Rx0_15z3, Rx0_16z3, Rx0_17z13, Rx0_18z13, (by decide), (show (4 : Int) = 0 → x0_4.toInt ≤ 3999 from by omega), (show hid ((4 : Int) = 0 → (((1 ≤ x0_12z3.toInt ∧ x0_12z3.toInt ≤ 4) ∨ (8 ≤ x0_12z3.toInt ∧ x0_12z3.toInt ≤ 33) ∨ 56 ≤ x0_12z3.toInt) → (x0_13z3.toInt / 8 ≤ x0_13z3.toInt % 8 ∧ x0_13z3.toInt % 8 ≤ 5))) from fun h => absurd h (by decide)), (show hid ((4 : Int) = 0 → ((34 ≤ x0_12z3.toInt ∧ x0_12z3.toInt ≤ 38) → x0_13z3.toInt ≤ 1)) from fun h => absurd h (by decide)), (show hid ((4 : Int) = 0 → ((((1 ≤ x0_12z3.toInt ∧ x0_12z3.toInt ≤ 4) ∨ (8 ≤ x0_12z3.toInt ∧ x0_12z3.toInt ≤ 33) ∨ 56 ≤ x0_12z3.toInt) ∨ x0_12z3.toInt = 34 ∨ (38 ≤ x0_12z3.toInt ∧ x0_12z3.toInt ≤ 47)) → (0 ≤ x0_15z3.toInt ∧ x0_15z3.toInt ≤ 3999))) from fun h => absurd h (by decide)), (show hid ((4 : Int) = 0 → ((x0_12z3.toInt = 7 ∧ 0 < x0_13z3.toInt) → (0 ≤ x0_15z3.toInt ∧ x0_15z3.toInt + x0_13z3.toInt ≤ 4000 ∧ 0 ≤ rv y3 y4 ((1 : Int32)).toNatClampNeg ∧ rv y3 y4 ((1 : Int32)).toNatClampNeg + x0_13z3.toInt ≤ 4000))) from fun h => absurd h (by decide)), (show hid ((4 : Int) = 0 → ((x0_12z3.toInt = 36 ∨ x0_12z3.toInt = 37) → (0 ≤ x0_15z3.toInt ∧ x0_15z3.toInt ≤ 3900))) from fun h => absurd h (by decide)), (show hid ((4 : Int) = 0 → ((8 ≤ x0_12z3.toInt ∧ x0_12z3.toInt ≤ 23 ∧ x0_12z3.toInt % 8 ≠ 0 ∧ x0_12z3.toInt % 8 ≠ 7) → tvf y2 x0_15z3 x0_13z3 ≤ 4095)) from fun h => absurd h (by decide)), (show hid ((4 : Int) = 0 → ((49 ≤ x0_12z3.toInt ∧ x0_12z3.toInt ≤ 54 ∧ x0_13z3.toInt = 0) → (-4095 ≤ rv y3 y4 (x0_12z3 - (48 : Int32)).toNatClampNeg + x0_15z3.toInt ∧ rv y3 y4 (x0_12z3 - (48 : Int32)).toNatClampNeg + x0_15z3.toInt ≤ 4095))) from fun h => absurd h (by decide)), (show hid ((4 : Int) = 0 → ((49 ≤ x0_12z3.toInt ∧ x0_12z3.toInt ≤ 54 ∧ x0_13z3.toInt = 1) → (-4095 ≤ rv y3 y4 (x0_12z3 - (48 : Int32)).toNatClampNeg - x0_15z3.toInt ∧ rv y3 y4 (x0_12z3 - (48 : Int32)).toNatClampNeg - x0_15z3.toInt ≤ 4095))) from fun h => absurd h (by decide)), (show hid ((4 : Int) = 0 → ((49 ≤ x0_12z3.toInt ∧ x0_12z3.toInt ≤ 54 ∧ 2 ≤ x0_13z3.toInt) → (-4095 ≤ x0_15z3.toInt ∧ x0_15z3.toInt ≤ 4095))) from fun h => absurd h (by decide)), (show hid ((4 : Int) = 0 → (x0_12z3.toInt = 35 → (x0_15z3.toInt = 0 ∨ (0 ≤ (y7 (x0_13z3).toNatClampNeg).toInt + x0_15z3.toInt ∧ (y7 (x0_13z3).toNatClampNeg).toInt + x0_15z3.toInt ≤ 40)))) from fun h => absurd h (by decide)), (show hid ((4 : Int) = 0 → ((x0_12z3.toInt = 36 ∨ x0_12z3.toInt = 37) → (y7 (x0_13z3).toNatClampNeg).toInt ≤ 39)) from fun h => absurd h (by decide)), (show hid ((4 : Int) = 0 → ((x0_15z3.toInt < 0 → x0_16z3.toInt = 1) ∧ (0 < x0_15z3.toInt → x0_16z3.toInt = 0))) from fun h => absurd h (by decide)), by show va_P D classes _ t.heap; rw [ht]; exact hP, hD⟩⟩, hS.F ht⟩) hS.2.2 d_X_judge_68
        · have gc11 : rz10.toInt = (0 : Int) := c_eq c11
          have R21 : 0 ≤ rz10.toInt ∧ rz10.toInt ≤ 0 := rf_eqX F0z10 (show 0 ≤ (0 : Int) ∧ (0 : Int) ≤ 0 from by decide) gc11 (by decide) (by decide)
          refine lv_iconst (v := 3) hx hb d_X_judge_41 (by decide) ?_
          refine lv_goto (tgt := 68) hx hb d_X_judge_42 (by decide) ?_
          exact W.iret (v := (3 : Int32)) hx hb hr (fun t ht hW => ⟨⟨(3 : Int32), (3 : Int32), rfl, rfl, ⟨x0_12z3, x0_13z3, x0_14z3, x0_15z3, x0_16z3, x0_17, x0_18, Rx0_12z3, Rx0_13z3, (rgw R6 (by decide) (by decide)), Rx0_15z3, Rx0_16z3, Rx0_17, Rx0_18, (by decide), (show (3 : Int) = 0 → x0_4.toInt ≤ 3999 from by omega), (show hid ((3 : Int) = 0 → (((1 ≤ x0_12z3.toInt ∧ x0_12z3.toInt ≤ 4) ∨ (8 ≤ x0_12z3.toInt ∧ x0_12z3.toInt ≤ 33) ∨ 56 ≤ x0_12z3.toInt) → (x0_13z3.toInt / 8 ≤ x0_13z3.toInt % 8 ∧ x0_13z3.toInt % 8 ≤ 5))) from fun h => absurd h (by decide)), (show hid ((3 : Int) = 0 → ((34 ≤ x0_12z3.toInt ∧ x0_12z3.toInt ≤ 38) → x0_13z3.toInt ≤ 1)) from fun h => absurd h (by decide)), (show hid ((3 : Int) = 0 → ((((1 ≤ x0_12z3.toInt ∧ x0_12z3.toInt ≤ 4) ∨ (8 ≤ x0_12z3.toInt ∧ x0_12z3.toInt ≤ 33) ∨ 56 ≤ x0_12z3.toInt) ∨ x0_12z3.toInt = 34 ∨ (38 ≤ x0_12z3.toInt ∧ x0_12z3.toInt ≤ 47)) → (0 ≤ x0_15z3.toInt ∧ x0_15z3.toInt ≤ 3999))) from fun h => absurd h (by decide)), (show hid ((3 : Int) = 0 → ((x0_12z3.toInt = 7 ∧ 0 < x0_13z3.toInt) → (0 ≤ x0_15z3.toInt ∧ x0_15z3.toInt + x0_13z3.toInt ≤ 4000 ∧ 0 ≤ rv y3 y4 ((1 : Int32)).toNatClampNeg ∧ rv y3 y4 ((1 : Int32)).toNatClampNeg + x0_13z3.toInt ≤ 4000))) from fun h => absurd h (by decide)), (show hid ((3 : Int) = 0 → ((x0_12z3.toInt = 36 ∨ x0_12z3.toInt = 37) → (0 ≤ x0_15z3.toInt ∧ x0_15z3.toInt ≤ 3900))) from fun h => absurd h (by decide)), (show hid ((3 : Int) = 0 → ((8 ≤ x0_12z3.toInt ∧ x0_12z3.toInt ≤ 23 ∧ x0_12z3.toInt % 8 ≠ 0 ∧ x0_12z3.toInt % 8 ≠ 7) → tvf y2 x0_15z3 x0_13z3 ≤ 4095)) from fun h => absurd h (by decide)), (show hid ((3 : Int) = 0 → ((49 ≤ x0_12z3.toInt ∧ x0_12z3.toInt ≤ 54 ∧ x0_13z3.toInt = 0) → (-4095 ≤ rv y3 y4 (x0_12z3 - (48 : Int32)).toNatClampNeg + x0_15z3.toInt ∧ rv y3 y4 (x0_12z3 - (48 : Int32)).toNatClampNeg + x0_15z3.toInt ≤ 4095))) from fun h => absurd h (by decide)), (show hid ((3 : Int) = 0 → ((49 ≤ x0_12z3.toInt ∧ x0_12z3.toInt ≤ 54 ∧ x0_13z3.toInt = 1) → (-4095 ≤ rv y3 y4 (x0_12z3 - (48 : Int32)).toNatClampNeg - x0_15z3.toInt ∧ rv y3 y4 (x0_12z3 - (48 : Int32)).toNatClampNeg - x0_15z3.toInt ≤ 4095))) from fun h => absurd h (by decide)), (show hid ((3 : Int) = 0 → ((49 ≤ x0_12z3.toInt ∧ x0_12z3.toInt ≤ 54 ∧ 2 ≤ x0_13z3.toInt) → (-4095 ≤ x0_15z3.toInt ∧ x0_15z3.toInt ≤ 4095))) from fun h => absurd h (by decide)), (show hid ((3 : Int) = 0 → (x0_12z3.toInt = 35 → (x0_15z3.toInt = 0 ∨ (0 ≤ (y7 (x0_13z3).toNatClampNeg).toInt + x0_15z3.toInt ∧ (y7 (x0_13z3).toNatClampNeg).toInt + x0_15z3.toInt ≤ 40)))) from fun h => absurd h (by decide)), (show hid ((3 : Int) = 0 → ((x0_12z3.toInt = 36 ∨ x0_12z3.toInt = 37) → (y7 (x0_13z3).toNatClampNeg).toInt ≤ 39)) from fun h => absurd h (by decide)), (show hid ((3 : Int) = 0 → ((x0_15z3.toInt < 0 → x0_16z3.toInt = 1) ∧ (0 < x0_15z3.toInt → x0_16z3.toInt = 0))) from fun h => absurd h (by decide)), by show va_P D classes _ t.heap; rw [ht]; exact hP, hD⟩⟩, hS.F ht⟩) hS.2.2 d_X_judge_68
      · have gc8 : rz7.toInt = (0 : Int) := c_eq c8
        have R22 : 0 ≤ rz7.toInt ∧ rz7.toInt ≤ 0 := rf_eqX F0z7 (show 0 ≤ (0 : Int) ∧ (0 : Int) ≤ 0 from by decide) gc8 (by decide) (by decide)
        refine lv_iconst (v := 2) hx hb d_X_judge_32 (by decide) ?_
        exact W.iret (v := (2 : Int32)) hx hb hr (fun t ht hW => ⟨⟨(2 : Int32), (2 : Int32), rfl, rfl, ⟨x0_12z3, x0_13z3, x0_14z3, x0_15z3, x0_16z3, x0_17, x0_18, Rx0_12z3, Rx0_13z3, (rgw R6 (by decide) (by decide)), Rx0_15z3, Rx0_16z3, Rx0_17, Rx0_18, (by decide), (show (2 : Int) = 0 → x0_4.toInt ≤ 3999 from by omega), (show hid ((2 : Int) = 0 → (((1 ≤ x0_12z3.toInt ∧ x0_12z3.toInt ≤ 4) ∨ (8 ≤ x0_12z3.toInt ∧ x0_12z3.toInt ≤ 33) ∨ 56 ≤ x0_12z3.toInt) → (x0_13z3.toInt / 8 ≤ x0_13z3.toInt % 8 ∧ x0_13z3.toInt % 8 ≤ 5))) from fun h => absurd h (by decide)), (show hid ((2 : Int) = 0 → ((34 ≤ x0_12z3.toInt ∧ x0_12z3.toInt ≤ 38) → x0_13z3.toInt ≤ 1)) from fun h => absurd h (by decide)), (show hid ((2 : Int) = 0 → ((((1 ≤ x0_12z3.toInt ∧ x0_12z3.toInt ≤ 4) ∨ (8 ≤ x0_12z3.toInt ∧ x0_12z3.toInt ≤ 33) ∨ 56 ≤ x0_12z3.toInt) ∨ x0_12z3.toInt = 34 ∨ (38 ≤ x0_12z3.toInt ∧ x0_12z3.toInt ≤ 47)) → (0 ≤ x0_15z3.toInt ∧ x0_15z3.toInt ≤ 3999))) from fun h => absurd h (by decide)), (show hid ((2 : Int) = 0 → ((x0_12z3.toInt = 7 ∧ 0 < x0_13z3.toInt) → (0 ≤ x0_15z3.toInt ∧ x0_15z3.toInt + x0_13z3.toInt ≤ 4000 ∧ 0 ≤ rv y3 y4 ((1 : Int32)).toNatClampNeg ∧ rv y3 y4 ((1 : Int32)).toNatClampNeg + x0_13z3.toInt ≤ 4000))) from fun h => absurd h (by decide)), (show hid ((2 : Int) = 0 → ((x0_12z3.toInt = 36 ∨ x0_12z3.toInt = 37) → (0 ≤ x0_15z3.toInt ∧ x0_15z3.toInt ≤ 3900))) from fun h => absurd h (by decide)), (show hid ((2 : Int) = 0 → ((8 ≤ x0_12z3.toInt ∧ x0_12z3.toInt ≤ 23 ∧ x0_12z3.toInt % 8 ≠ 0 ∧ x0_12z3.toInt % 8 ≠ 7) → tvf y2 x0_15z3 x0_13z3 ≤ 4095)) from fun h => absurd h (by decide)), (show hid ((2 : Int) = 0 → ((49 ≤ x0_12z3.toInt ∧ x0_12z3.toInt ≤ 54 ∧ x0_13z3.toInt = 0) → (-4095 ≤ rv y3 y4 (x0_12z3 - (48 : Int32)).toNatClampNeg + x0_15z3.toInt ∧ rv y3 y4 (x0_12z3 - (48 : Int32)).toNatClampNeg + x0_15z3.toInt ≤ 4095))) from fun h => absurd h (by decide)), (show hid ((2 : Int) = 0 → ((49 ≤ x0_12z3.toInt ∧ x0_12z3.toInt ≤ 54 ∧ x0_13z3.toInt = 1) → (-4095 ≤ rv y3 y4 (x0_12z3 - (48 : Int32)).toNatClampNeg - x0_15z3.toInt ∧ rv y3 y4 (x0_12z3 - (48 : Int32)).toNatClampNeg - x0_15z3.toInt ≤ 4095))) from fun h => absurd h (by decide)), (show hid ((2 : Int) = 0 → ((49 ≤ x0_12z3.toInt ∧ x0_12z3.toInt ≤ 54 ∧ 2 ≤ x0_13z3.toInt) → (-4095 ≤ x0_15z3.toInt ∧ x0_15z3.toInt ≤ 4095))) from fun h => absurd h (by decide)), (show hid ((2 : Int) = 0 → (x0_12z3.toInt = 35 → (x0_15z3.toInt = 0 ∨ (0 ≤ (y7 (x0_13z3).toNatClampNeg).toInt + x0_15z3.toInt ∧ (y7 (x0_13z3).toNatClampNeg).toInt + x0_15z3.toInt ≤ 40)))) from fun h => absurd h (by decide)), (show hid ((2 : Int) = 0 → ((x0_12z3.toInt = 36 ∨ x0_12z3.toInt = 37) → (y7 (x0_13z3).toNatClampNeg).toInt ≤ 39)) from fun h => absurd h (by decide)), (show hid ((2 : Int) = 0 → ((x0_15z3.toInt < 0 → x0_16z3.toInt = 1) ∧ (0 < x0_15z3.toInt → x0_16z3.toInt = 0))) from fun h => absurd h (by decide)), by show va_P D classes _ t.heap; rw [ht]; exact hP, hD⟩⟩, hS.F ht⟩) hS.2.2 d_X_judge_33
  · have gc1 : (4000 : Int) ≤ x0_4.toInt := c_nlt c1
    have R23 : 4000 ≤ x0_4.toInt ∧ x0_4.toInt ≤ 4000 := rf_geX Rx0_4 (show 4000 ≤ (4000 : Int) ∧ (4000 : Int) ≤ 4000 from by decide) gc1 (by decide) (by decide)
    refine lv_iconst (v := 3) hx hb d_X_judge_10 (by decide) ?_
    exact W.iret (v := (3 : Int32)) hx hb hr (fun t ht hW => ⟨⟨(3 : Int32), (3 : Int32), rfl, rfl, ⟨x0_12, x0_13, x0_14, x0_15, x0_16, x0_17, x0_18, Rx0_12, Rx0_13, Rx0_14, Rx0_15, Rx0_16, Rx0_17, Rx0_18, (by decide), (show (3 : Int) = 0 → x0_4.toInt ≤ 3999 from by omega), (show hid ((3 : Int) = 0 → (((1 ≤ x0_12.toInt ∧ x0_12.toInt ≤ 4) ∨ (8 ≤ x0_12.toInt ∧ x0_12.toInt ≤ 33) ∨ 56 ≤ x0_12.toInt) → (x0_13.toInt / 8 ≤ x0_13.toInt % 8 ∧ x0_13.toInt % 8 ≤ 5))) from fun h => absurd h (by decide)), (show hid ((3 : Int) = 0 → ((34 ≤ x0_12.toInt ∧ x0_12.toInt ≤ 38) → x0_13.toInt ≤ 1)) from fun h => absurd h (by decide)), (show hid ((3 : Int) = 0 → ((((1 ≤ x0_12.toInt ∧ x0_12.toInt ≤ 4) ∨ (8 ≤ x0_12.toInt ∧ x0_12.toInt ≤ 33) ∨ 56 ≤ x0_12.toInt) ∨ x0_12.toInt = 34 ∨ (38 ≤ x0_12.toInt ∧ x0_12.toInt ≤ 47)) → (0 ≤ x0_15.toInt ∧ x0_15.toInt ≤ 3999))) from fun h => absurd h (by decide)), (show hid ((3 : Int) = 0 → ((x0_12.toInt = 7 ∧ 0 < x0_13.toInt) → (0 ≤ x0_15.toInt ∧ x0_15.toInt + x0_13.toInt ≤ 4000 ∧ 0 ≤ rv y3 y4 ((1 : Int32)).toNatClampNeg ∧ rv y3 y4 ((1 : Int32)).toNatClampNeg + x0_13.toInt ≤ 4000))) from fun h => absurd h (by decide)), (show hid ((3 : Int) = 0 → ((x0_12.toInt = 36 ∨ x0_12.toInt = 37) → (0 ≤ x0_15.toInt ∧ x0_15.toInt ≤ 3900))) from fun h => absurd h (by decide)), (show hid ((3 : Int) = 0 → ((8 ≤ x0_12.toInt ∧ x0_12.toInt ≤ 23 ∧ x0_12.toInt % 8 ≠ 0 ∧ x0_12.toInt % 8 ≠ 7) → tvf y2 x0_15 x0_13 ≤ 4095)) from fun h => absurd h (by decide)), (show hid ((3 : Int) = 0 → ((49 ≤ x0_12.toInt ∧ x0_12.toInt ≤ 54 ∧ x0_13.toInt = 0) → (-4095 ≤ rv y3 y4 (x0_12 - (48 : Int32)).toNatClampNeg + x0_15.toInt ∧ rv y3 y4 (x0_12 - (48 : Int32)).toNatClampNeg + x0_15.toInt ≤ 4095))) from fun h => absurd h (by decide)), (show hid ((3 : Int) = 0 → ((49 ≤ x0_12.toInt ∧ x0_12.toInt ≤ 54 ∧ x0_13.toInt = 1) → (-4095 ≤ rv y3 y4 (x0_12 - (48 : Int32)).toNatClampNeg - x0_15.toInt ∧ rv y3 y4 (x0_12 - (48 : Int32)).toNatClampNeg - x0_15.toInt ≤ 4095))) from fun h => absurd h (by decide)), (show hid ((3 : Int) = 0 → ((49 ≤ x0_12.toInt ∧ x0_12.toInt ≤ 54 ∧ 2 ≤ x0_13.toInt) → (-4095 ≤ x0_15.toInt ∧ x0_15.toInt ≤ 4095))) from fun h => absurd h (by decide)), (show hid ((3 : Int) = 0 → (x0_12.toInt = 35 → (x0_15.toInt = 0 ∨ (0 ≤ (y7 (x0_13).toNatClampNeg).toInt + x0_15.toInt ∧ (y7 (x0_13).toNatClampNeg).toInt + x0_15.toInt ≤ 40)))) from fun h => absurd h (by decide)), (show hid ((3 : Int) = 0 → ((x0_12.toInt = 36 ∨ x0_12.toInt = 37) → (y7 (x0_13).toNatClampNeg).toInt ≤ 39)) from fun h => absurd h (by decide)), (show hid ((3 : Int) = 0 → ((x0_15.toInt < 0 → x0_16.toInt = 1) ∧ (0 < x0_15.toInt → x0_16.toInt = 0))) from fun h => absurd h (by decide)), by show va_P D classes _ t.heap; rw [ht]; exact hP, hD⟩⟩, hS.F ht⟩) hS.2.2 d_X_judge_11
theorem v_X_judge {R : Room} {s : State} {args : Array Value} {own : String} {index : Nat} (hk : ∀ w ∈ tb, w.before args s = true) (hl : Cond.methodLink own index y_X_judge ∈ tb) (hR : 4 + 1 ≤ R.frames ∧ 8 + (1 + 11) + 89 ≤ R.locals) : CallW R s args own "SignMachineModel" index y_X_judge b_X_judge 1 (some .int) (.code y_X_judge b_X_judge 1 (some .int) :: tb) ({ frames := 4, cells := 0, slots := 0, locals := 89 }) 0 0 0 := mk_v 0 hk k_1375 hl k_1374 k_61 k_119 rfl rfl h_X_judge hR
set_option maxHeartbeats 8000000 in
set_option maxRecDepth 100000 in
theorem c_X_passes (l : Launch) (D : va_G) (cI cJ cZ cB : ClassId) (p0 p1 p2 p3 p4 p5 p6 p7 p8 p9 p10 p11 p12 p13 p14 p15 p16 p17 p18 p19 p20 p21 p22 p23 p24 p25 : Nat) (sz : Nat) (x0_4 : Int32) (x0_5 : Int32) (x0_6 : Int32) (x0_7 : Int32) (x0_8 : Int32) (x0_12 : Int32) (x0_13 : Int32) (x0_14 : Int32) (x0_15 : Int32) (x0_16 : Int32) (x0_17 : Int32) (x0_18 : Int32) (x0_22 : Int32) (x0_23 : Int32) (x0_24 : Int32) (x0_25 : Int32) (x0_26 : Int32) (x0_27 : Int32) (x0_28 : Int32) (x0_29 : Int32) (x0_30 : Int32) (x0_31 : Int32) (x0_32 : Int32) (x0_36 : Int32) (x0_39 : Int32) (x0_40 : Int64) (x0_44 : Int32) (x0_49 : Int32) (x0_51 : Int32) (x0_53 : Int32) (x0_54 : Int32) (x0_55 : Int64) (x0_56 : Int32) (x0_57 : Int32) (x0_58 : Int32) (x0_59 : Int32) (x0_60 : Int32) (x0_61 : Int32) (x0_62 : Int64) (y1 : Nat → Int32) (y2 : Nat → Int32) (y3 : Nat → Int32) (y4 : Nat → Int32) (y5 : Nat → Int32) (y6 : Nat → Int32) (y7 : Nat → Int32) (y8 : Nat → Int32) (y9 : Nat → Int32) (y10 : Nat → Int32) (y11 : Nat → Int64) (y12 : Nat → Int32) (y13 : Nat → Int64) (y14 : Nat → Int32) (y15 : Nat → Int64) (y16 : Nat → Int32) (y17 : Nat → Int32) (y18 : Nat → Int32) (y19 : Nat → Int32) (y20 : Nat → Int32) (y21 : Nat → Int32) (y22 : Nat → Int32) (y23 : Nat → Int32) (y24 : Nat → Int64) (y25 : Nat → Int64) (a1 : Int32)  : Met l y_X_passes (.code y_X_passes b_X_passes 2 none :: tb) ({ frames := 0, cells := 0, slots := 0, locals := 0 }) (pM D cI cJ cZ cB (wS50 cI cJ cZ cB p0 p1 p2 p3 p4 p5 p6 p7 p8 p9 p10 p11 p12 p13 p14 p15 p16 p17 p18 p19 p20 p21 p22 p23 p24 p25 x0_4 x0_5 x0_6 x0_7 x0_8 x0_12 x0_13 x0_14 x0_15 x0_16 x0_17 x0_18 x0_22 x0_23 x0_24 x0_25 x0_26 x0_27 x0_28 x0_29 x0_30 x0_31 x0_32 x0_36 x0_39 x0_40 x0_44 x0_49 x0_51 x0_53 x0_54 x0_55 x0_56 x0_57 x0_58 x0_59 x0_60 x0_61 x0_62 y1 y2 y3 y4 y5 y6 y7 y8 y9 y10 y11 y12 y13 y14 y15 y16 y17 y18 y19 y20 y21 y22 y23 y24 y25) sz [.ref p0, .int a1]) (va_Qv (fun (_ : Unit) => True) (fun _ t => ∃ u_x0_7 : Int32, va_P D classes (wS50 cI cJ cZ cB p0 p1 p2 p3 p4 p5 p6 p7 p8 p9 p10 p11 p12 p13 p14 p15 p16 p17 p18 p19 p20 p21 p22 p23 p24 p25 x0_4 x0_5 x0_6 u_x0_7 x0_8 x0_12 x0_13 x0_14 x0_15 x0_16 x0_17 x0_18 x0_22 x0_23 x0_24 x0_25 x0_26 x0_27 x0_28 x0_29 x0_30 x0_31 x0_32 x0_36 x0_39 x0_40 x0_44 x0_49 x0_51 x0_53 x0_54 x0_55 x0_56 x0_57 x0_58 x0_59 x0_60 x0_61 x0_62 y1 y2 y3 y4 y5 y6 y7 y8 y9 y10 y11 y12 y13 y14 y15 y16 y17 y18 y19 y20 y21 y22 y23 y24 y25) t.heap ∧ va_D (va_A (wS50 cI cJ cZ cB p0 p1 p2 p3 p4 p5 p6 p7 p8 p9 p10 p11 p12 p13 p14 p15 p16 p17 p18 p19 p20 p21 p22 p23 p24 p25 x0_4 x0_5 x0_6 x0_7 x0_8 x0_12 x0_13 x0_14 x0_15 x0_16 x0_17 x0_18 x0_22 x0_23 x0_24 x0_25 x0_26 x0_27 x0_28 x0_29 x0_30 x0_31 x0_32 x0_36 x0_39 x0_40 x0_44 x0_49 x0_51 x0_53 x0_54 x0_55 x0_56 x0_57 x0_58 x0_59 x0_60 x0_61 x0_62 y1 y2 y3 y4 y5 y6 y7 y8 y9 y10 y11 y12 y13 y14 y15 y16 y17 y18 y19 y20 y21 y22 y23 y24 y25) sz) (wS50 cI cJ cZ cB p0 p1 p2 p3 p4 p5 p6 p7 p8 p9 p10 p11 p12 p13 p14 p15 p16 p17 p18 p19 p20 p21 p22 p23 p24 p25 x0_4 x0_5 x0_6 u_x0_7 x0_8 x0_12 x0_13 x0_14 x0_15 x0_16 x0_17 x0_18 x0_22 x0_23 x0_24 x0_25 x0_26 x0_27 x0_28 x0_29 x0_30 x0_31 x0_32 x0_36 x0_39 x0_40 x0_44 x0_49 x0_51 x0_53 x0_54 x0_55 x0_56 x0_57 x0_58 x0_59 x0_60 x0_61 x0_62 y1 y2 y3 y4 y5 y6 y7 y8 y9 y10 y11 y12 y13 y14 y15 y16 y17 y18 y19 y20 y21 y22 y23 y24 y25)) (va_A (wS50 cI cJ cZ cB p0 p1 p2 p3 p4 p5 p6 p7 p8 p9 p10 p11 p12 p13 p14 p15 p16 p17 p18 p19 p20 p21 p22 p23 p24 p25 x0_4 x0_5 x0_6 x0_7 x0_8 x0_12 x0_13 x0_14 x0_15 x0_16 x0_17 x0_18 x0_22 x0_23 x0_24 x0_25 x0_26 x0_27 x0_28 x0_29 x0_30 x0_31 x0_32 x0_36 x0_39 x0_40 x0_44 x0_49 x0_51 x0_53 x0_54 x0_55 x0_56 x0_57 x0_58 x0_59 x0_60 x0_61 x0_62 y1 y2 y3 y4 y5 y6 y7 y8 y9 y10 y11 y12 y13 y14 y15 y16 y17 y18 y19 y20 y21 y22 y23 y24 y25) sz)) 0 0 (va_A (wS50 cI cJ cZ cB p0 p1 p2 p3 p4 p5 p6 p7 p8 p9 p10 p11 p12 p13 p14 p15 p16 p17 p18 p19 p20 p21 p22 p23 p24 p25 x0_4 x0_5 x0_6 x0_7 x0_8 x0_12 x0_13 x0_14 x0_15 x0_16 x0_17 x0_18 x0_22 x0_23 x0_24 x0_25 x0_26 x0_27 x0_28 x0_29 x0_30 x0_31 x0_32 x0_36 x0_39 x0_40 x0_44 x0_49 x0_51 x0_53 x0_54 x0_55 x0_56 x0_57 x0_58 x0_59 x0_60 x0_61 x0_62 y1 y2 y3 y4 y5 y6 y7 y8 y9 y10 y11 y12 y13 y14 y15 y16 y17 y18 y19 y20 y21 y22 y23 y24 y25) sz) := by
  refine Met.ofW (cc := b_X_passes) (maxL := 2) (ret := none) (by decide) rfl ?_
  intro p e s m args below meth c s₁ B hml hv
  obtain ⟨rfl, hsz, hK, hP, hD0⟩ := hv
  subst hsz
  have hD := hD0.self (sz := s.heap.size)
  generalize hAe : va_A (wS50 cI cJ cZ cB p0 p1 p2 p3 p4 p5 p6 p7 p8 p9 p10 p11 p12 p13 p14 p15 p16 p17 p18 p19 p20 p21 p22 p23 p24 p25 x0_4 x0_5 x0_6 x0_7 x0_8 x0_12 x0_13 x0_14 x0_15 x0_16 x0_17 x0_18 x0_22 x0_23 x0_24 x0_25 x0_26 x0_27 x0_28 x0_29 x0_30 x0_31 x0_32 x0_36 x0_39 x0_40 x0_44 x0_49 x0_51 x0_53 x0_54 x0_55 x0_56 x0_57 x0_58 x0_59 x0_60 x0_61 x0_62 y1 y2 y3 y4 y5 y6 y7 y8 y9 y10 y11 y12 y13 y14 y15 y16 y17 y18 y19 y20 y21 y22 y23 y24 y25) s.heap.size = A at hD ⊢
  have hA : ∀ q : Nat, s.heap.size ≤ q → A q := fun q h => by rw [← hAe]; exact Or.inr h
  clear hAe hD0
  have hS : va_S A s.heap s.heap [] := va_S.rf
  have hx := B.exec
  have hb := B.bytes
  have hr := B.returns
  have hts := atoms_spec (ws := .code y_X_passes b_X_passes 2 none :: tb) B.pre
  have hk : ∀ w ∈ tb, w.before [.ref p0, .int a1].toArray s = true := fun w h => hts w (List.mem_cons_of_mem _ h)
  have hown : s.vm.findClass "SignMachineModel" = some m.cls := findClass_of_methodNamed B.named
  have hlocks := B.notSynchronized
  have hl := lv_entry ([.ref p0, .int a1]) (n := 2) (Nat.le_of_ble_eq_true rfl)
  rw [lg_entry_eq]
  generalize (lg_sl ([.ref p0, .int a1]) ++ List.replicate (2 - (lg_sl ([.ref p0, .int a1])).length) Slot.unset).toArray = ls at hl ⊢
  have hl : lv_has ls 2 [(0, .ref p0), (1, .int a1)] := hl
  clear hts B
  refine lv_aload_n hx hb d_X_passes_0 rfl (lv_at hl 0 rfl) ?_
  refine lv_aload_n hx hb d_X_passes_1 rfl (lv_at hl 0 rfl) ?_
  refine va_get (D := D) (ci := 7) (v := .int x0_7) (C := "SignMachineModel") (T := F_X) (N := 64) hx hb hk fi_X hown hK.1 hP 0 rfl rfl 7 (by decide) (hk _ k_1128) (fun _ h9 => h9) rfl d_X_passes_2 ?_
  refine lv_iload_n hx hb d_X_passes_5 rfl (lv_at hl 1 rfl) ?_
  refine lv_iadd hx hb d_X_passes_6 ?_
  refine lv_topi (fun v1 hv1 => ?_)
  refine lv_ldc (v := 1073741823) hx hb hown (hk _ k_1432) d_X_passes_7 ?_
  refine lv_iand hx hb d_X_passes_9 ?_
  refine lv_topi (fun v2 hv2 => ?_)
  refine va_put (D := D) (ci := 7) (v := .int v2) (ty := .int) (C := "SignMachineModel") (T := F_X) (N := 64) hx hb hk fi_X ft_X ft_X_ok fn_X hown hK.1 hP hD hS 0 rfl rfl 7 (by decide) (hk _ k_1128) (fun _ h9 => h9) rfl (by decide +kernel) rfl rfl (Nat.le_of_ble_eq_true rfl) d_X_passes_10 (fun H locs hP hD hS => ?_)
  have hP : va_P D classes (wS50 cI cJ cZ cB p0 p1 p2 p3 p4 p5 p6 p7 p8 p9 p10 p11 p12 p13 p14 p15 p16 p17 p18 p19 p20 p21 p22 p23 p24 p25 x0_4 x0_5 x0_6 v2 x0_8 x0_12 x0_13 x0_14 x0_15 x0_16 x0_17 x0_18 x0_22 x0_23 x0_24 x0_25 x0_26 x0_27 x0_28 x0_29 x0_30 x0_31 x0_32 x0_36 x0_39 x0_40 x0_44 x0_49 x0_51 x0_53 x0_54 x0_55 x0_56 x0_57 x0_58 x0_59 x0_60 x0_61 x0_62 y1 y2 y3 y4 y5 y6 y7 y8 y9 y10 y11 y12 y13 y14 y15 y16 y17 y18 y19 y20 y21 y22 y23 y24 y25) H := hP
  have hD : va_D A (wS50 cI cJ cZ cB p0 p1 p2 p3 p4 p5 p6 p7 p8 p9 p10 p11 p12 p13 p14 p15 p16 p17 p18 p19 p20 p21 p22 p23 p24 p25 x0_4 x0_5 x0_6 v2 x0_8 x0_12 x0_13 x0_14 x0_15 x0_16 x0_17 x0_18 x0_22 x0_23 x0_24 x0_25 x0_26 x0_27 x0_28 x0_29 x0_30 x0_31 x0_32 x0_36 x0_39 x0_40 x0_44 x0_49 x0_51 x0_53 x0_54 x0_55 x0_56 x0_57 x0_58 x0_59 x0_60 x0_61 x0_62 y1 y2 y3 y4 y5 y6 y7 y8 y9 y10 y11 y12 y13 y14 y15 y16 y17 y18 y19 y20 y21 y22 y23 y24 y25) := hD
  exact W.vret hx hb hr (fun t ht hW => ⟨⟨(), rfl, trivial, ⟨v2, by show va_P D classes _ t.heap; rw [ht]; exact hP, hD⟩⟩, hS.F ht⟩) hS.2.2 d_X_passes_13
theorem v_X_passes {R : Room} {s : State} {args : Array Value} {own : String} {index : Nat} (hk : ∀ w ∈ tb, w.before args s = true) (hl : Cond.methodLink own index y_X_passes ∈ tb) (hR : 0 + 1 ≤ R.frames ∧ 8 + (2 + 11) + 0 ≤ R.locals) : CallW R s args own "SignMachineModel" index y_X_passes b_X_passes 2 none (.code y_X_passes b_X_passes 2 none :: tb) ({ frames := 0, cells := 0, slots := 0, locals := 0 }) 0 0 1 := mk_v 1 hk k_1431 hl k_1430 k_70 k_119 rfl rfl h_X_passes hR
set_option maxHeartbeats 8000000 in
set_option maxRecDepth 100000 in
theorem c_X_add (l : Launch) (D : va_G) (cI cJ cZ cB : ClassId) (p0 p1 p2 p3 p4 p5 p6 p7 p8 p9 p10 p11 p12 p13 p14 p15 p16 p17 p18 p19 p20 p21 p22 p23 p24 p25 : Nat) (sz : Nat) (x0_4 : Int32) (x0_5 : Int32) (x0_6 : Int32) (x0_7 : Int32) (x0_8 : Int32) (x0_12 : Int32) (x0_13 : Int32) (x0_14 : Int32) (x0_15 : Int32) (x0_16 : Int32) (x0_17 : Int32) (x0_18 : Int32) (x0_22 : Int32) (x0_23 : Int32) (x0_24 : Int32) (x0_25 : Int32) (x0_26 : Int32) (x0_27 : Int32) (x0_28 : Int32) (x0_29 : Int32) (x0_30 : Int32) (x0_31 : Int32) (x0_32 : Int32) (x0_36 : Int32) (x0_39 : Int32) (x0_40 : Int64) (x0_44 : Int32) (x0_49 : Int32) (x0_51 : Int32) (x0_53 : Int32) (x0_54 : Int32) (x0_55 : Int64) (x0_56 : Int32) (x0_57 : Int32) (x0_58 : Int32) (x0_59 : Int32) (x0_60 : Int32) (x0_61 : Int32) (x0_62 : Int64) (y1 : Nat → Int32) (y2 : Nat → Int32) (y3 : Nat → Int32) (y4 : Nat → Int32) (y5 : Nat → Int32) (y6 : Nat → Int32) (y7 : Nat → Int32) (y8 : Nat → Int32) (y9 : Nat → Int32) (y10 : Nat → Int32) (y11 : Nat → Int64) (y12 : Nat → Int32) (y13 : Nat → Int64) (y14 : Nat → Int32) (y15 : Nat → Int64) (y16 : Nat → Int32) (y17 : Nat → Int32) (y18 : Nat → Int32) (y19 : Nat → Int32) (y20 : Nat → Int32) (y21 : Nat → Int32) (y22 : Nat → Int32) (y23 : Nat → Int32) (y24 : Nat → Int64) (y25 : Nat → Int64) (a1 : Int32) (a2 : Int32) (a3 : Int32) (Ay3 : ∀ i : Nat, (0 ≤ (y3 i).toInt ∧ (y3 i).toInt ≤ 1)) (Ay4 : ∀ i : Nat, ((0 ≤ (y4 i).toInt ∧ (y4 i).toInt ≤ 1073741823) ∧ ((1 ≤ (i : Int) ∧ (i : Int) ≤ 6) → (y4 i).toInt ≤ 4095))) (Q0 : (1 ≤ a1.toInt ∧ a1.toInt ≤ 6 ∧ a2.toInt = 1) → (-4095 ≤ rv y3 y4 (a1).toNatClampNeg - a3.toInt ∧ rv y3 y4 (a1).toNatClampNeg - a3.toInt ≤ 4095)) (Q1 : (1 ≤ a1.toInt ∧ a1.toInt ≤ 6 ∧ a2.toInt = 0) → (-4095 ≤ rv y3 y4 (a1).toNatClampNeg + a3.toInt ∧ rv y3 y4 (a1).toNatClampNeg + a3.toInt ≤ 4095)) (Q2 : 0 ≤ a1.toInt ∧ a1.toInt ≤ 8) (Q3 : 0 ≤ a2.toInt ∧ a2.toInt ≤ 1) (Q4 : 0 ≤ a3.toInt ∧ a3.toInt ≤ 1073741823) : Met l y_X_add (.code y_X_add b_X_add 10 none :: tb) ({ frames := 0, cells := 0, slots := 0, locals := 0 }) (pM D cI cJ cZ cB (wS50 cI cJ cZ cB p0 p1 p2 p3 p4 p5 p6 p7 p8 p9 p10 p11 p12 p13 p14 p15 p16 p17 p18 p19 p20 p21 p22 p23 p24 p25 x0_4 x0_5 x0_6 x0_7 x0_8 x0_12 x0_13 x0_14 x0_15 x0_16 x0_17 x0_18 x0_22 x0_23 x0_24 x0_25 x0_26 x0_27 x0_28 x0_29 x0_30 x0_31 x0_32 x0_36 x0_39 x0_40 x0_44 x0_49 x0_51 x0_53 x0_54 x0_55 x0_56 x0_57 x0_58 x0_59 x0_60 x0_61 x0_62 y1 y2 y3 y4 y5 y6 y7 y8 y9 y10 y11 y12 y13 y14 y15 y16 y17 y18 y19 y20 y21 y22 y23 y24 y25) sz [.ref p0, .int a1, .int a2, .int a3]) (va_Qv (fun (_ : Unit) => True) (fun _ t => ∃ u_x0_5 : Int32, ∃ u_y3 : Nat → Int32, ∃ u_y4 : Nat → Int32, (∀ i : Nat, (0 ≤ (u_y3 i).toInt ∧ (u_y3 i).toInt ≤ 1)) ∧ (∀ i : Nat, ((0 ≤ (u_y4 i).toInt ∧ (u_y4 i).toInt ≤ 1073741823) ∧ ((1 ≤ (i : Int) ∧ (i : Int) ≤ 6) → (u_y4 i).toInt ≤ 4095))) ∧ va_P D classes (wS50 cI cJ cZ cB p0 p1 p2 p3 p4 p5 p6 p7 p8 p9 p10 p11 p12 p13 p14 p15 p16 p17 p18 p19 p20 p21 p22 p23 p24 p25 x0_4 u_x0_5 x0_6 x0_7 x0_8 x0_12 x0_13 x0_14 x0_15 x0_16 x0_17 x0_18 x0_22 x0_23 x0_24 x0_25 x0_26 x0_27 x0_28 x0_29 x0_30 x0_31 x0_32 x0_36 x0_39 x0_40 x0_44 x0_49 x0_51 x0_53 x0_54 x0_55 x0_56 x0_57 x0_58 x0_59 x0_60 x0_61 x0_62 y1 y2 u_y3 u_y4 y5 y6 y7 y8 y9 y10 y11 y12 y13 y14 y15 y16 y17 y18 y19 y20 y21 y22 y23 y24 y25) t.heap ∧ va_D (va_A (wS50 cI cJ cZ cB p0 p1 p2 p3 p4 p5 p6 p7 p8 p9 p10 p11 p12 p13 p14 p15 p16 p17 p18 p19 p20 p21 p22 p23 p24 p25 x0_4 x0_5 x0_6 x0_7 x0_8 x0_12 x0_13 x0_14 x0_15 x0_16 x0_17 x0_18 x0_22 x0_23 x0_24 x0_25 x0_26 x0_27 x0_28 x0_29 x0_30 x0_31 x0_32 x0_36 x0_39 x0_40 x0_44 x0_49 x0_51 x0_53 x0_54 x0_55 x0_56 x0_57 x0_58 x0_59 x0_60 x0_61 x0_62 y1 y2 y3 y4 y5 y6 y7 y8 y9 y10 y11 y12 y13 y14 y15 y16 y17 y18 y19 y20 y21 y22 y23 y24 y25) sz) (wS50 cI cJ cZ cB p0 p1 p2 p3 p4 p5 p6 p7 p8 p9 p10 p11 p12 p13 p14 p15 p16 p17 p18 p19 p20 p21 p22 p23 p24 p25 x0_4 u_x0_5 x0_6 x0_7 x0_8 x0_12 x0_13 x0_14 x0_15 x0_16 x0_17 x0_18 x0_22 x0_23 x0_24 x0_25 x0_26 x0_27 x0_28 x0_29 x0_30 x0_31 x0_32 x0_36 x0_39 x0_40 x0_44 x0_49 x0_51 x0_53 x0_54 x0_55 x0_56 x0_57 x0_58 x0_59 x0_60 x0_61 x0_62 y1 y2 u_y3 u_y4 y5 y6 y7 y8 y9 y10 y11 y12 y13 y14 y15 y16 y17 y18 y19 y20 y21 y22 y23 y24 y25)) (va_A (wS50 cI cJ cZ cB p0 p1 p2 p3 p4 p5 p6 p7 p8 p9 p10 p11 p12 p13 p14 p15 p16 p17 p18 p19 p20 p21 p22 p23 p24 p25 x0_4 x0_5 x0_6 x0_7 x0_8 x0_12 x0_13 x0_14 x0_15 x0_16 x0_17 x0_18 x0_22 x0_23 x0_24 x0_25 x0_26 x0_27 x0_28 x0_29 x0_30 x0_31 x0_32 x0_36 x0_39 x0_40 x0_44 x0_49 x0_51 x0_53 x0_54 x0_55 x0_56 x0_57 x0_58 x0_59 x0_60 x0_61 x0_62 y1 y2 y3 y4 y5 y6 y7 y8 y9 y10 y11 y12 y13 y14 y15 y16 y17 y18 y19 y20 y21 y22 y23 y24 y25) sz)) 0 0 (va_A (wS50 cI cJ cZ cB p0 p1 p2 p3 p4 p5 p6 p7 p8 p9 p10 p11 p12 p13 p14 p15 p16 p17 p18 p19 p20 p21 p22 p23 p24 p25 x0_4 x0_5 x0_6 x0_7 x0_8 x0_12 x0_13 x0_14 x0_15 x0_16 x0_17 x0_18 x0_22 x0_23 x0_24 x0_25 x0_26 x0_27 x0_28 x0_29 x0_30 x0_31 x0_32 x0_36 x0_39 x0_40 x0_44 x0_49 x0_51 x0_53 x0_54 x0_55 x0_56 x0_57 x0_58 x0_59 x0_60 x0_61 x0_62 y1 y2 y3 y4 y5 y6 y7 y8 y9 y10 y11 y12 y13 y14 y15 y16 y17 y18 y19 y20 y21 y22 y23 y24 y25) sz) := by
  refine Met.ofW (cc := b_X_add) (maxL := 10) (ret := none) (by decide) rfl ?_
  intro p e s m args below meth c s₁ B hml hv
  obtain ⟨rfl, hsz, hK, hP, hD0⟩ := hv
  subst hsz
  have hD := hD0.self (sz := s.heap.size)
  generalize hAe : va_A (wS50 cI cJ cZ cB p0 p1 p2 p3 p4 p5 p6 p7 p8 p9 p10 p11 p12 p13 p14 p15 p16 p17 p18 p19 p20 p21 p22 p23 p24 p25 x0_4 x0_5 x0_6 x0_7 x0_8 x0_12 x0_13 x0_14 x0_15 x0_16 x0_17 x0_18 x0_22 x0_23 x0_24 x0_25 x0_26 x0_27 x0_28 x0_29 x0_30 x0_31 x0_32 x0_36 x0_39 x0_40 x0_44 x0_49 x0_51 x0_53 x0_54 x0_55 x0_56 x0_57 x0_58 x0_59 x0_60 x0_61 x0_62 y1 y2 y3 y4 y5 y6 y7 y8 y9 y10 y11 y12 y13 y14 y15 y16 y17 y18 y19 y20 y21 y22 y23 y24 y25) s.heap.size = A at hD ⊢
  have hA : ∀ q : Nat, s.heap.size ≤ q → A q := fun q h => by rw [← hAe]; exact Or.inr h
  clear hAe hD0
  have hS : va_S A s.heap s.heap [] := va_S.rf
  have hx := B.exec
  have hb := B.bytes
  have hr := B.returns
  have hts := atoms_spec (ws := .code y_X_add b_X_add 10 none :: tb) B.pre
  have hk : ∀ w ∈ tb, w.before [.ref p0, .int a1, .int a2, .int a3].toArray s = true := fun w h => hts w (List.mem_cons_of_mem _ h)
  have hown : s.vm.findClass "SignMachineModel" = some m.cls := findClass_of_methodNamed B.named
  have hlocks := B.notSynchronized
  have hl := lv_entry ([.ref p0, .int a1, .int a2, .int a3]) (n := 10) (Nat.le_of_ble_eq_true rfl)
  rw [lg_entry_eq]
  generalize (lg_sl ([.ref p0, .int a1, .int a2, .int a3]) ++ List.replicate (10 - (lg_sl ([.ref p0, .int a1, .int a2, .int a3])).length) Slot.unset).toArray = ls at hl ⊢
  have hl : lv_has ls 10 [(0, .ref p0), (1, .int a1), (2, .int a2), (3, .int a3)] := hl
  clear hts B
  have rd := rv_def y3 y4 (a1).toNatClampNeg
  refine lv_aload_n hx hb d_X_add_0 rfl (lv_at hl 0 rfl) ?_
  refine va_get (D := D) (ci := 7) (v := .ref p3) (C := "SignMachineModel") (T := F_X) (N := 64) hx hb hk fi_X hown hK.1 hP 0 rfl rfl 2 (by decide) (hk _ k_1123) (fun _ h9 => h9) rfl d_X_add_1 ?_
  refine lv_iload_n hx hb d_X_add_4 rfl (lv_at hl 1 rfl) ?_
  refine va_iald hx hb hK.1 hP 3 0 rfl rfl (vpb Q2 (by decide) (by decide)) d_X_add_5 ?_
  refine lv_topi (fun v1 hv1 => ?_)
  have Tv1 : v1.toInt = (y3 (a1).toNatClampNeg).toInt := congrArg _ hv1
  have Rv1 := Ay3 (a1).toNatClampNeg
  rw [← hv1] at Rv1
  refine lv_iconst (v := 1) hx hb d_X_add_6 (by decide) ?_
  refine lv_icmp_ne (tgt := 21) hx hb d_X_add_7 (by decide) (fun c2 => ?_) (fun c2 => ?_)
  · have gc2 : v1.toInt ≠ (1 : Int) := c_ne c2
    have R3 : 0 ≤ v1.toInt ∧ v1.toInt ≤ 0 := rf_neX Rv1 (show 1 ≤ (1 : Int) ∧ (1 : Int) ≤ 1 from by decide) gc2 (by decide) (by decide)
    refine lv_aload_n hx hb d_X_add_21 rfl (lv_at hl 0 rfl) ?_
    refine va_get (D := D) (ci := 7) (v := .ref p4) (C := "SignMachineModel") (T := F_X) (N := 64) hx hb hk fi_X hown hK.1 hP 0 rfl rfl 3 (by decide) (hk _ k_1124) (fun _ h9 => h9) rfl d_X_add_22 ?_
    refine lv_iload_n hx hb d_X_add_25 rfl (lv_at hl 1 rfl) ?_
    refine va_iald hx hb hK.1 hP 4 0 rfl rfl (vpb Q2 (by decide) (by decide)) d_X_add_26 ?_
    refine lv_topi (fun v4 hv4 => ?_)
    have Tv4 : v4.toInt = (y4 (a1).toNatClampNeg).toInt := congrArg _ hv4
    have Rv4 := Ay4 (a1).toNatClampNeg
    rw [← hv4] at Rv4
    obtain ⟨Rv4, Xv4⟩ := Rv4
    have : (((a1).toNatClampNeg : Nat) : Int) = a1.toInt := ti_n Q2 (by decide)
    refine lv_i2l (v := (v4 : Int32).toInt64) hx hb d_X_add_27 rfl ?_
    refine lv_topl (fun v5 hv5 => ?_)
    obtain ⟨ev5, Rv5⟩ : v5.toInt = v4.toInt ∧ (0 ≤ v5.toInt ∧ v5.toInt ≤ 1073741823) := il3 hv5 Rv4
    refine lv_lstore (lv' := [(4, .long v5), (0, .ref p0), (1, .int a1), (2, .int a2), (3, .int a3)]) hx hb d_X_add_28 hl (by decide) rfl (fun ls hl => ?_)
    refine lv_lload hx hb d_X_add_30 (lv_at hl 0 rfl) ?_
    refine lv_iload_n hx hb d_X_add_32 rfl (lv_at hl 3 rfl) ?_
    refine lv_iconst (v := 1) hx hb d_X_add_33 (by decide) ?_
    refine lv_icmp_ne (tgt := 43) hx hb d_X_add_34 (by decide) (fun c6 => ?_) (fun c6 => ?_)
    · have gc6 : a2.toInt ≠ (1 : Int) := c_ne c6
      have R7 : 0 ≤ a2.toInt ∧ a2.toInt ≤ 0 := rf_neX Q3 (show 1 ≤ (1 : Int) ∧ (1 : Int) ≤ 1 from by decide) gc6 (by decide) (by decide)
      refine lv_iload_n hx hb d_X_add_43 rfl (lv_at hl 4 rfl) ?_
      refine lv_i2l (v := (a3 : Int32).toInt64) hx hb d_X_add_44 rfl ?_
      refine lv_topl (fun v8 hv8 => ?_)
      obtain ⟨ev8, Rv8⟩ : v8.toInt = a3.toInt ∧ (0 ≤ v8.toInt ∧ v8.toInt ≤ 1073741823) := il3 hv8 Q4
      refine lv_ladd hx hb d_X_add_45 ?_
      refine lv_topl (fun v9 hv9 => ?_)
      obtain ⟨ev9, Rv9⟩ : v9.toInt = v5.toInt + v8.toInt ∧ (0 ≤ v9.toInt ∧ v9.toInt ≤ 2147483646) := ad6 hv9 Rv5 Rv8 (by decide) (by decide) (by decide) (by decide)
      refine lv_lstore (lv' := [(6, .long v9), (4, .long v5), (0, .ref p0), (1, .int a1), (2, .int a2), (3, .int a3)]) hx hb d_X_add_46 hl (by decide) rfl (fun ls hl => ?_)
      refine lv_aload_n hx hb d_X_add_48 rfl (lv_at hl 2 rfl) ?_
      refine va_get (D := D) (ci := 7) (v := .ref p3) (C := "SignMachineModel") (T := F_X) (N := 64) hx hb hk fi_X hown hK.1 hP 0 rfl rfl 2 (by decide) (hk _ k_1123) (fun _ h9 => h9) rfl d_X_add_49 ?_
      refine lv_iload_n hx hb d_X_add_52 rfl (lv_at hl 3 rfl) ?_
      refine lv_lload hx hb d_X_add_53 (lv_at hl 0 rfl) ?_
      refine lv_lconst (v := 0) hx hb d_X_add_55 (by decide) ?_
      refine W.lcmp hx hb d_X_add_56 ?_
      refine lv_topi (fun v10 hv10 => ?_)
      refine lv_if_ge (tgt := 64) hx hb d_X_add_57 (by decide) (fun c11 => ?_) (fun c11 => absurd (show (0 : Int32) ≤ v10 from (lcr_ge hv10 (kle (show 0 ≤ (0 : Int) ∧ (0 : Int) ≤ 0 from by decide) Rv9 (by decide)))) c11)
      refine lv_lload hx hb d_X_add_64 (lv_at hl 0 rfl) ?_
      refine lv_lconst (v := 0) hx hb d_X_add_66 (by decide) ?_
      refine W.lcmp hx hb d_X_add_67 ?_
      refine lv_topi (fun v12 hv12 => ?_)
      refine lv_if_le (tgt := 75) hx hb d_X_add_68 (by decide) (fun c13 => ?_) (fun c13 => ?_)
      · have gc13 : v9.toInt ≤ (0 : Int) := lc_le hv12 c13
        have R14 : 0 ≤ v9.toInt ∧ v9.toInt ≤ 0 := rf_leX Rv9 (show 0 ≤ (0 : Int) ∧ (0 : Int) ≤ 0 from by decide) gc13 (by decide) (by decide)
        refine lv_aload_n hx hb d_X_add_75 rfl (lv_at hl 2 rfl) ?_
        refine va_get (D := D) (ci := 7) (v := .ref p3) (C := "SignMachineModel") (T := F_X) (N := 64) hx hb hk fi_X hown hK.1 hP 0 rfl rfl 2 (by decide) (hk _ k_1123) (fun _ h9 => h9) rfl d_X_add_76 ?_
        refine lv_iload_n hx hb d_X_add_79 rfl (lv_at hl 3 rfl) ?_
        refine va_iald hx hb hK.1 hP 3 0 rfl rfl (vpb Q2 (by decide) (by decide)) d_X_add_80 ?_
        refine lv_topi (fun v15 hv15 => ?_)
        have Tv15 : v15.toInt = (y3 (a1).toNatClampNeg).toInt := congrArg _ hv15
        have Rv15 := Ay3 (a1).toNatClampNeg
        rw [← hv15] at Rv15
        refine va_iast hx hb hK.1 hP hD hS 3 0 rfl rfl (vpb Q2 (by decide) (by decide)) d_X_add_81 (fun H locs hP hD hS => ?_)
        have hP : va_P D classes (wS50 cI cJ cZ cB p0 p1 p2 p3 p4 p5 p6 p7 p8 p9 p10 p11 p12 p13 p14 p15 p16 p17 p18 p19 p20 p21 p22 p23 p24 p25 x0_4 x0_5 x0_6 x0_7 x0_8 x0_12 x0_13 x0_14 x0_15 x0_16 x0_17 x0_18 x0_22 x0_23 x0_24 x0_25 x0_26 x0_27 x0_28 x0_29 x0_30 x0_31 x0_32 x0_36 x0_39 x0_40 x0_44 x0_49 x0_51 x0_53 x0_54 x0_55 x0_56 x0_57 x0_58 x0_59 x0_60 x0_61 x0_62 y1 y2 (upd y3 (a1).toNatClampNeg v15) y4 y5 y6 y7 y8 y9 y10 y11 y12 y13 y14 y15 y16 y17 y18 y19 y20 y21 y22 y23 y24 y25) H := hP
        have hD : va_D A (wS50 cI cJ cZ cB p0 p1 p2 p3 p4 p5 p6 p7 p8 p9 p10 p11 p12 p13 p14 p15 p16 p17 p18 p19 p20 p21 p22 p23 p24 p25 x0_4 x0_5 x0_6 x0_7 x0_8 x0_12 x0_13 x0_14 x0_15 x0_16 x0_17 x0_18 x0_22 x0_23 x0_24 x0_25 x0_26 x0_27 x0_28 x0_29 x0_30 x0_31 x0_32 x0_36 x0_39 x0_40 x0_44 x0_49 x0_51 x0_53 x0_54 x0_55 x0_56 x0_57 x0_58 x0_59 x0_60 x0_61 x0_62 y1 y2 (upd y3 (a1).toNatClampNeg v15) y4 y5 y6 y7 y8 y9 y10 y11 y12 y13 y14 y15 y16 y17 y18 y19 y20 y21 y22 y23 y24 y25) := hD
        obtain ⟨v16, hv16⟩ : ∃ y : Nat → Int32, y = (upd y3 (a1).toNatClampNeg v15) := ⟨_, rfl⟩
        rw [← hv16] at hP hD
        have Gv16 : (0 ≤ (v15).toInt ∧ (v15).toInt ≤ 1) := Rv15
        have Av16 : ∀ i : Nat, (0 ≤ (v16 i).toInt ∧ (v16 i).toInt ≤ 1) := by rw [hv16]; exact upd_all (P := fun i x => (0 ≤ (x).toInt ∧ (x).toInt ≤ 1)) Ay3 Gv16
        clear hv16
        refine lv_lload hx hb d_X_add_82 (lv_at hl 0 rfl) ?_
        refine lv_lconst (v := 0) hx hb d_X_add_84 (by decide) ?_
        refine W.lcmp hx hb d_X_add_85 ?_
        refine lv_topi (fun v17 hv17 => ?_)
        refine lv_if_ge (tgt := 95) hx hb d_X_add_86 (by decide) (fun c18 => ?_) (fun c18 => absurd (show (0 : Int32) ≤ v17 from (lcr_ge hv17 (kle (show 0 ≤ (0 : Int) ∧ (0 : Int) ≤ 0 from by decide) R14 (by decide)))) c18)
        refine lv_lload hx hb d_X_add_95 (lv_at hl 0 rfl) ?_
        refine lv_lstore (lv' := [(8, .long v9), (6, .long v9), (4, .long v5), (0, .ref p0), (1, .int a1), (2, .int a2), (3, .int a3)]) hx hb d_X_add_97 hl (by decide) rfl (fun ls hl => ?_)
        refine lv_lload hx hb d_X_add_99 (lv_at hl 0 rfl) ?_
        refine lv_ldc2 (v := 1073741824) hx hb hown (hk _ k_1461) d_X_add_101 ?_
        refine W.lcmp hx hb d_X_add_104 ?_
        refine lv_topi (fun v19 hv19 => ?_)
        refine lv_if_lt (tgt := 121) hx hb d_X_add_105 (by decide) (fun c20 => ?_) (fun c20 => absurd (show v19 < (0 : Int32) from (lcr_lt hv19 (klt R14 (show 1073741824 ≤ (1073741824 : Int) ∧ (1073741824 : Int) ≤ 1073741824 from by decide) (by decide)))) c20)
        refine lv_aload_n hx hb d_X_add_121 rfl (lv_at hl 3 rfl) ?_
        refine va_get (D := D) (ci := 7) (v := .ref p4) (C := "SignMachineModel") (T := F_X) (N := 64) hx hb hk fi_X hown hK.1 hP 0 rfl rfl 3 (by decide) (hk _ k_1124) (fun _ h9 => h9) rfl d_X_add_122 ?_
        refine lv_iload_n hx hb d_X_add_125 rfl (lv_at hl 4 rfl) ?_
        refine lv_lload hx hb d_X_add_126 (lv_at hl 0 rfl) ?_
        refine lv_l2i (v := (v9 : Int64).toInt32) hx hb d_X_add_128 rfl ?_
        refine lv_topi (fun v21 hv21 => ?_)
        obtain ⟨ev21, Rv21⟩ : v21.toInt = v9.toInt ∧ (0 ≤ v21.toInt ∧ v21.toInt ≤ 0) := li3 hv21 R14 (by decide) (by decide)
        refine va_iast hx hb hK.1 hP hD hS 4 0 rfl rfl (vpb Q2 (by decide) (by decide)) d_X_add_129 (fun H locs hP hD hS => ?_)
        have hP : va_P D classes (wS50 cI cJ cZ cB p0 p1 p2 p3 p4 p5 p6 p7 p8 p9 p10 p11 p12 p13 p14 p15 p16 p17 p18 p19 p20 p21 p22 p23 p24 p25 x0_4 x0_5 x0_6 x0_7 x0_8 x0_12 x0_13 x0_14 x0_15 x0_16 x0_17 x0_18 x0_22 x0_23 x0_24 x0_25 x0_26 x0_27 x0_28 x0_29 x0_30 x0_31 x0_32 x0_36 x0_39 x0_40 x0_44 x0_49 x0_51 x0_53 x0_54 x0_55 x0_56 x0_57 x0_58 x0_59 x0_60 x0_61 x0_62 y1 y2 v16 (upd y4 (a1).toNatClampNeg v21) y5 y6 y7 y8 y9 y10 y11 y12 y13 y14 y15 y16 y17 y18 y19 y20 y21 y22 y23 y24 y25) H := hP
        have hD : va_D A (wS50 cI cJ cZ cB p0 p1 p2 p3 p4 p5 p6 p7 p8 p9 p10 p11 p12 p13 p14 p15 p16 p17 p18 p19 p20 p21 p22 p23 p24 p25 x0_4 x0_5 x0_6 x0_7 x0_8 x0_12 x0_13 x0_14 x0_15 x0_16 x0_17 x0_18 x0_22 x0_23 x0_24 x0_25 x0_26 x0_27 x0_28 x0_29 x0_30 x0_31 x0_32 x0_36 x0_39 x0_40 x0_44 x0_49 x0_51 x0_53 x0_54 x0_55 x0_56 x0_57 x0_58 x0_59 x0_60 x0_61 x0_62 y1 y2 v16 (upd y4 (a1).toNatClampNeg v21) y5 y6 y7 y8 y9 y10 y11 y12 y13 y14 y15 y16 y17 y18 y19 y20 y21 y22 y23 y24 y25) := hD
        obtain ⟨v22, hv22⟩ : ∃ y : Nat → Int32, y = (upd y4 (a1).toNatClampNeg v21) := ⟨_, rfl⟩
        rw [← hv22] at hP hD
        have : (((a1).toNatClampNeg : Nat) : Int) = a1.toInt := ti_n Q2 (by decide)
        have Gv22 : ((0 ≤ (v21).toInt ∧ (v21).toInt ≤ 1073741823) ∧ ((1 ≤ (((a1).toNatClampNeg : Nat) : Int) ∧ (((a1).toNatClampNeg : Nat) : Int) ≤ 6) → (v21).toInt ≤ 4095)) := by refine ⟨by omega, ?_⟩; omega
        have Av22 : ∀ i : Nat, ((0 ≤ (v22 i).toInt ∧ (v22 i).toInt ≤ 1073741823) ∧ ((1 ≤ (i : Int) ∧ (i : Int) ≤ 6) → (v22 i).toInt ≤ 4095)) := by rw [hv22]; exact upd_all (P := fun i x => ((0 ≤ (x).toInt ∧ (x).toInt ≤ 1073741823) ∧ ((1 ≤ (i : Int) ∧ (i : Int) ≤ 6) → (x).toInt ≤ 4095))) Ay4 Gv22
        clear hv22
        exact W.vret hx hb hr (fun t ht hW => ⟨⟨(), rfl, trivial, ⟨x0_5, v16, v22, Av16, Av22, by show va_P D classes _ t.heap; rw [ht]; exact hP, hD⟩⟩, hS.F ht⟩) hS.2.2 d_X_add_130
      · have gc13 : (0 : Int) < v9.toInt := lc_nle hv12 c13
        have R23 : 1 ≤ v9.toInt ∧ v9.toInt ≤ 2147483646 := rf_gtX Rv9 (show 0 ≤ (0 : Int) ∧ (0 : Int) ≤ 0 from by decide) gc13 (by decide) (by decide)
        refine lv_iconst (v := 0) hx hb d_X_add_71 (by decide) ?_
        refine lv_goto (tgt := 81) hx hb d_X_add_72 (by decide) ?_
        refine va_iast hx hb hK.1 hP hD hS 3 0 rfl rfl (vpb Q2 (by decide) (by decide)) d_X_add_81 (fun H locs hP hD hS => ?_)
        have hP : va_P D classes (wS50 cI cJ cZ cB p0 p1 p2 p3 p4 p5 p6 p7 p8 p9 p10 p11 p12 p13 p14 p15 p16 p17 p18 p19 p20 p21 p22 p23 p24 p25 x0_4 x0_5 x0_6 x0_7 x0_8 x0_12 x0_13 x0_14 x0_15 x0_16 x0_17 x0_18 x0_22 x0_23 x0_24 x0_25 x0_26 x0_27 x0_28 x0_29 x0_30 x0_31 x0_32 x0_36 x0_39 x0_40 x0_44 x0_49 x0_51 x0_53 x0_54 x0_55 x0_56 x0_57 x0_58 x0_59 x0_60 x0_61 x0_62 y1 y2 (upd y3 (a1).toNatClampNeg (0 : Int32)) y4 y5 y6 y7 y8 y9 y10 y11 y12 y13 y14 y15 y16 y17 y18 y19 y20 y21 y22 y23 y24 y25) H := hP
        have hD : va_D A (wS50 cI cJ cZ cB p0 p1 p2 p3 p4 p5 p6 p7 p8 p9 p10 p11 p12 p13 p14 p15 p16 p17 p18 p19 p20 p21 p22 p23 p24 p25 x0_4 x0_5 x0_6 x0_7 x0_8 x0_12 x0_13 x0_14 x0_15 x0_16 x0_17 x0_18 x0_22 x0_23 x0_24 x0_25 x0_26 x0_27 x0_28 x0_29 x0_30 x0_31 x0_32 x0_36 x0_39 x0_40 x0_44 x0_49 x0_51 x0_53 x0_54 x0_55 x0_56 x0_57 x0_58 x0_59 x0_60 x0_61 x0_62 y1 y2 (upd y3 (a1).toNatClampNeg (0 : Int32)) y4 y5 y6 y7 y8 y9 y10 y11 y12 y13 y14 y15 y16 y17 y18 y19 y20 y21 y22 y23 y24 y25) := hD
        obtain ⟨v24, hv24⟩ : ∃ y : Nat → Int32, y = (upd y3 (a1).toNatClampNeg (0 : Int32)) := ⟨_, rfl⟩
        rw [← hv24] at hP hD
        have Gv24 : (0 ≤ ((0 : Int32)).toInt ∧ ((0 : Int32)).toInt ≤ 1) := (by decide)
        have Av24 : ∀ i : Nat, (0 ≤ (v24 i).toInt ∧ (v24 i).toInt ≤ 1) := by rw [hv24]; exact upd_all (P := fun i x => (0 ≤ (x).toInt ∧ (x).toInt ≤ 1)) Ay3 Gv24
        clear hv24
        refine lv_lload hx hb d_X_add_82 (lv_at hl 0 rfl) ?_
        refine lv_lconst (v := 0) hx hb d_X_add_84 (by decide) ?_
        refine W.lcmp hx hb d_X_add_85 ?_
        refine lv_topi (fun v25 hv25 => ?_)
        refine lv_if_ge (tgt := 95) hx hb d_X_add_86 (by decide) (fun c26 => ?_) (fun c26 => absurd (show (0 : Int32) ≤ v25 from (lcr_ge hv25 (kle (show 0 ≤ (0 : Int) ∧ (0 : Int) ≤ 0 from by decide) R23 (by decide)))) c26)
        refine lv_lload hx hb d_X_add_95 (lv_at hl 0 rfl) ?_
        refine lv_lstore (lv' := [(8, .long v9), (6, .long v9), (4, .long v5), (0, .ref p0), (1, .int a1), (2, .int a2), (3, .int a3)]) hx hb d_X_add_97 hl (by decide) rfl (fun ls hl => ?_)
        refine lv_lload hx hb d_X_add_99 (lv_at hl 0 rfl) ?_
        refine lv_ldc2 (v := 1073741824) hx hb hown (hk _ k_1461) d_X_add_101 ?_
        refine W.lcmp hx hb d_X_add_104 ?_
        refine lv_topi (fun v27 hv27 => ?_)
        refine lv_if_lt (tgt := 121) hx hb d_X_add_105 (by decide) (fun c28 => ?_) (fun c28 => ?_)
        · have gc28 : v9.toInt < (1073741824 : Int) := lc_lt hv27 c28
          have R29 : 1 ≤ v9.toInt ∧ v9.toInt ≤ 1073741823 := rf_ltX R23 (show 1073741824 ≤ (1073741824 : Int) ∧ (1073741824 : Int) ≤ 1073741824 from by decide) gc28 (by decide) (by decide)
          refine lv_aload_n hx hb d_X_add_121 rfl (lv_at hl 3 rfl) ?_
          refine va_get (D := D) (ci := 7) (v := .ref p4) (C := "SignMachineModel") (T := F_X) (N := 64) hx hb hk fi_X hown hK.1 hP 0 rfl rfl 3 (by decide) (hk _ k_1124) (fun _ h9 => h9) rfl d_X_add_122 ?_
          refine lv_iload_n hx hb d_X_add_125 rfl (lv_at hl 4 rfl) ?_
          refine lv_lload hx hb d_X_add_126 (lv_at hl 0 rfl) ?_
          refine lv_l2i (v := (v9 : Int64).toInt32) hx hb d_X_add_128 rfl ?_
          refine lv_topi (fun v30 hv30 => ?_)
          obtain ⟨ev30, Rv30⟩ : v30.toInt = v9.toInt ∧ (1 ≤ v30.toInt ∧ v30.toInt ≤ 1073741823) := li3 hv30 R29 (by decide) (by decide)
          refine va_iast hx hb hK.1 hP hD hS 4 0 rfl rfl (vpb Q2 (by decide) (by decide)) d_X_add_129 (fun H locs hP hD hS => ?_)
          have hP : va_P D classes (wS50 cI cJ cZ cB p0 p1 p2 p3 p4 p5 p6 p7 p8 p9 p10 p11 p12 p13 p14 p15 p16 p17 p18 p19 p20 p21 p22 p23 p24 p25 x0_4 x0_5 x0_6 x0_7 x0_8 x0_12 x0_13 x0_14 x0_15 x0_16 x0_17 x0_18 x0_22 x0_23 x0_24 x0_25 x0_26 x0_27 x0_28 x0_29 x0_30 x0_31 x0_32 x0_36 x0_39 x0_40 x0_44 x0_49 x0_51 x0_53 x0_54 x0_55 x0_56 x0_57 x0_58 x0_59 x0_60 x0_61 x0_62 y1 y2 v24 (upd y4 (a1).toNatClampNeg v30) y5 y6 y7 y8 y9 y10 y11 y12 y13 y14 y15 y16 y17 y18 y19 y20 y21 y22 y23 y24 y25) H := hP
          have hD : va_D A (wS50 cI cJ cZ cB p0 p1 p2 p3 p4 p5 p6 p7 p8 p9 p10 p11 p12 p13 p14 p15 p16 p17 p18 p19 p20 p21 p22 p23 p24 p25 x0_4 x0_5 x0_6 x0_7 x0_8 x0_12 x0_13 x0_14 x0_15 x0_16 x0_17 x0_18 x0_22 x0_23 x0_24 x0_25 x0_26 x0_27 x0_28 x0_29 x0_30 x0_31 x0_32 x0_36 x0_39 x0_40 x0_44 x0_49 x0_51 x0_53 x0_54 x0_55 x0_56 x0_57 x0_58 x0_59 x0_60 x0_61 x0_62 y1 y2 v24 (upd y4 (a1).toNatClampNeg v30) y5 y6 y7 y8 y9 y10 y11 y12 y13 y14 y15 y16 y17 y18 y19 y20 y21 y22 y23 y24 y25) := hD
          obtain ⟨v31, hv31⟩ : ∃ y : Nat → Int32, y = (upd y4 (a1).toNatClampNeg v30) := ⟨_, rfl⟩
          rw [← hv31] at hP hD
          have : (((a1).toNatClampNeg : Nat) : Int) = a1.toInt := ti_n Q2 (by decide)
          have Gv31 : ((0 ≤ (v30).toInt ∧ (v30).toInt ≤ 1073741823) ∧ ((1 ≤ (((a1).toNatClampNeg : Nat) : Int) ∧ (((a1).toNatClampNeg : Nat) : Int) ≤ 6) → (v30).toInt ≤ 4095)) := by refine ⟨by omega, ?_⟩; omega
          have Av31 : ∀ i : Nat, ((0 ≤ (v31 i).toInt ∧ (v31 i).toInt ≤ 1073741823) ∧ ((1 ≤ (i : Int) ∧ (i : Int) ≤ 6) → (v31 i).toInt ≤ 4095)) := by rw [hv31]; exact upd_all (P := fun i x => ((0 ≤ (x).toInt ∧ (x).toInt ≤ 1073741823) ∧ ((1 ≤ (i : Int) ∧ (i : Int) ≤ 6) → (x).toInt ≤ 4095))) Ay4 Gv31
          clear hv31
          exact W.vret hx hb hr (fun t ht hW => ⟨⟨(), rfl, trivial, ⟨x0_5, v24, v31, Av24, Av31, by show va_P D classes _ t.heap; rw [ht]; exact hP, hD⟩⟩, hS.F ht⟩) hS.2.2 d_X_add_130
        · have gc28 : (1073741824 : Int) ≤ v9.toInt := lc_nlt hv27 c28
          have R32 : 1073741824 ≤ v9.toInt ∧ v9.toInt ≤ 2147483646 := rf_geX R23 (show 1073741824 ≤ (1073741824 : Int) ∧ (1073741824 : Int) ≤ 1073741824 from by decide) gc28 (by decide) (by decide)
          refine lv_aload_n hx hb d_X_add_108 rfl (lv_at hl 3 rfl) ?_
          refine lv_iconst (v := 1) hx hb d_X_add_109 (by decide) ?_
          refine va_put (D := D) (ci := 7) (v := .int (1 : Int32)) (ty := .int) (C := "SignMachineModel") (T := F_X) (N := 64) hx hb hk fi_X ft_X ft_X_ok fn_X hown hK.1 hP hD hS 0 rfl rfl 5 (by decide) (hk _ k_1126) (fun _ h9 => h9) rfl (by decide +kernel) rfl rfl (Nat.le_of_ble_eq_true rfl) d_X_add_110 (fun H locs hP hD hS => ?_)
          have hP : va_P D classes (wS50 cI cJ cZ cB p0 p1 p2 p3 p4 p5 p6 p7 p8 p9 p10 p11 p12 p13 p14 p15 p16 p17 p18 p19 p20 p21 p22 p23 p24 p25 x0_4 (1 : Int32) x0_6 x0_7 x0_8 x0_12 x0_13 x0_14 x0_15 x0_16 x0_17 x0_18 x0_22 x0_23 x0_24 x0_25 x0_26 x0_27 x0_28 x0_29 x0_30 x0_31 x0_32 x0_36 x0_39 x0_40 x0_44 x0_49 x0_51 x0_53 x0_54 x0_55 x0_56 x0_57 x0_58 x0_59 x0_60 x0_61 x0_62 y1 y2 v24 y4 y5 y6 y7 y8 y9 y10 y11 y12 y13 y14 y15 y16 y17 y18 y19 y20 y21 y22 y23 y24 y25) H := hP
          have hD : va_D A (wS50 cI cJ cZ cB p0 p1 p2 p3 p4 p5 p6 p7 p8 p9 p10 p11 p12 p13 p14 p15 p16 p17 p18 p19 p20 p21 p22 p23 p24 p25 x0_4 (1 : Int32) x0_6 x0_7 x0_8 x0_12 x0_13 x0_14 x0_15 x0_16 x0_17 x0_18 x0_22 x0_23 x0_24 x0_25 x0_26 x0_27 x0_28 x0_29 x0_30 x0_31 x0_32 x0_36 x0_39 x0_40 x0_44 x0_49 x0_51 x0_53 x0_54 x0_55 x0_56 x0_57 x0_58 x0_59 x0_60 x0_61 x0_62 y1 y2 v24 y4 y5 y6 y7 y8 y9 y10 y11 y12 y13 y14 y15 y16 y17 y18 y19 y20 y21 y22 y23 y24 y25) := hD
          refine lv_lload hx hb d_X_add_113 (lv_at hl 0 rfl) ?_
          refine lv_ldc2 (v := 1073741824) hx hb hown (hk _ k_1461) d_X_add_115 ?_
          refine lv_lsub hx hb d_X_add_118 ?_
          refine lv_topl (fun v33 hv33 => ?_)
          obtain ⟨ev33, Rv33⟩ : v33.toInt = v9.toInt - (1073741824 : Int) ∧ (0 ≤ v33.toInt ∧ v33.toInt ≤ 1073741822) := sb6 hv33 R32 (show 1073741824 ≤ (1073741824 : Int64).toInt ∧ (1073741824 : Int64).toInt ≤ 1073741824 from by decide) (by decide) (by decide) (by decide) (by decide)
          refine lv_lstore (lv' := [(8, .long v33), (6, .long v9), (4, .long v5), (0, .ref p0), (1, .int a1), (2, .int a2), (3, .int a3)]) hx hb d_X_add_119 hl (by decide) rfl (fun ls hl => ?_)
          refine lv_aload_n hx hb d_X_add_121 rfl (lv_at hl 3 rfl) ?_
          refine va_get (D := D) (ci := 7) (v := .ref p4) (C := "SignMachineModel") (T := F_X) (N := 64) hx hb hk fi_X hown hK.1 hP 0 rfl rfl 3 (by decide) (hk _ k_1124) (fun _ h9 => h9) rfl d_X_add_122 ?_
          refine lv_iload_n hx hb d_X_add_125 rfl (lv_at hl 4 rfl) ?_
          refine lv_lload hx hb d_X_add_126 (lv_at hl 0 rfl) ?_
          refine lv_l2i (v := (v33 : Int64).toInt32) hx hb d_X_add_128 rfl ?_
          refine lv_topi (fun v34 hv34 => ?_)
          obtain ⟨ev34, Rv34⟩ : v34.toInt = v33.toInt ∧ (0 ≤ v34.toInt ∧ v34.toInt ≤ 1073741822) := li3 hv34 Rv33 (by decide) (by decide)
          refine va_iast hx hb hK.1 hP hD hS 4 0 rfl rfl (vpb Q2 (by decide) (by decide)) d_X_add_129 (fun H locs hP hD hS => ?_)
          have hP : va_P D classes (wS50 cI cJ cZ cB p0 p1 p2 p3 p4 p5 p6 p7 p8 p9 p10 p11 p12 p13 p14 p15 p16 p17 p18 p19 p20 p21 p22 p23 p24 p25 x0_4 (1 : Int32) x0_6 x0_7 x0_8 x0_12 x0_13 x0_14 x0_15 x0_16 x0_17 x0_18 x0_22 x0_23 x0_24 x0_25 x0_26 x0_27 x0_28 x0_29 x0_30 x0_31 x0_32 x0_36 x0_39 x0_40 x0_44 x0_49 x0_51 x0_53 x0_54 x0_55 x0_56 x0_57 x0_58 x0_59 x0_60 x0_61 x0_62 y1 y2 v24 (upd y4 (a1).toNatClampNeg v34) y5 y6 y7 y8 y9 y10 y11 y12 y13 y14 y15 y16 y17 y18 y19 y20 y21 y22 y23 y24 y25) H := hP
          have hD : va_D A (wS50 cI cJ cZ cB p0 p1 p2 p3 p4 p5 p6 p7 p8 p9 p10 p11 p12 p13 p14 p15 p16 p17 p18 p19 p20 p21 p22 p23 p24 p25 x0_4 (1 : Int32) x0_6 x0_7 x0_8 x0_12 x0_13 x0_14 x0_15 x0_16 x0_17 x0_18 x0_22 x0_23 x0_24 x0_25 x0_26 x0_27 x0_28 x0_29 x0_30 x0_31 x0_32 x0_36 x0_39 x0_40 x0_44 x0_49 x0_51 x0_53 x0_54 x0_55 x0_56 x0_57 x0_58 x0_59 x0_60 x0_61 x0_62 y1 y2 v24 (upd y4 (a1).toNatClampNeg v34) y5 y6 y7 y8 y9 y10 y11 y12 y13 y14 y15 y16 y17 y18 y19 y20 y21 y22 y23 y24 y25) := hD
          obtain ⟨v35, hv35⟩ : ∃ y : Nat → Int32, y = (upd y4 (a1).toNatClampNeg v34) := ⟨_, rfl⟩
          rw [← hv35] at hP hD
          have : (((a1).toNatClampNeg : Nat) : Int) = a1.toInt := ti_n Q2 (by decide)
          have Gv35 : ((0 ≤ (v34).toInt ∧ (v34).toInt ≤ 1073741823) ∧ ((1 ≤ (((a1).toNatClampNeg : Nat) : Int) ∧ (((a1).toNatClampNeg : Nat) : Int) ≤ 6) → (v34).toInt ≤ 4095)) := by refine ⟨by omega, ?_⟩; omega
          have Av35 : ∀ i : Nat, ((0 ≤ (v35 i).toInt ∧ (v35 i).toInt ≤ 1073741823) ∧ ((1 ≤ (i : Int) ∧ (i : Int) ≤ 6) → (v35 i).toInt ≤ 4095)) := by rw [hv35]; exact upd_all (P := fun i x => ((0 ≤ (x).toInt ∧ (x).toInt ≤ 1073741823) ∧ ((1 ≤ (i : Int) ∧ (i : Int) ≤ 6) → (x).toInt ≤ 4095))) Ay4 Gv35
          clear hv35
          exact W.vret hx hb hr (fun t ht hW => ⟨⟨(), rfl, trivial, ⟨(1 : Int32), v24, v35, Av24, Av35, by show va_P D classes _ t.heap; rw [ht]; exact hP, hD⟩⟩, hS.F ht⟩) hS.2.2 d_X_add_130
    · have gc6 : a2.toInt = (1 : Int) := c_eq c6
      have R36 : 1 ≤ a2.toInt ∧ a2.toInt ≤ 1 := rf_eqX Q3 (show 1 ≤ (1 : Int) ∧ (1 : Int) ≤ 1 from by decide) gc6 (by decide) (by decide)
      refine lv_iload_n hx hb d_X_add_37 rfl (lv_at hl 4 rfl) ?_
      refine lv_i2l (v := (a3 : Int32).toInt64) hx hb d_X_add_38 rfl ?_
      refine lv_topl (fun v37 hv37 => ?_)
      obtain ⟨ev37, Rv37⟩ : v37.toInt = a3.toInt ∧ (0 ≤ v37.toInt ∧ v37.toInt ≤ 1073741823) := il3 hv37 Q4
      refine lv_lneg hx hb d_X_add_39 ?_
      refine lv_topl (fun v38 hv38 => ?_)
      obtain ⟨ev38, Rv38⟩ : v38.toInt = -v37.toInt ∧ ((-1073741823) ≤ v38.toInt ∧ v38.toInt ≤ 0) := ng6 hv38 Rv37 (by decide) (by decide) (by decide) (by decide)
      refine lv_goto (tgt := 45) hx hb d_X_add_40 (by decide) ?_
      refine lv_ladd hx hb d_X_add_45 ?_
      refine lv_topl (fun v39 hv39 => ?_)
      obtain ⟨ev39, Rv39⟩ : v39.toInt = v5.toInt + v38.toInt ∧ ((-1073741823) ≤ v39.toInt ∧ v39.toInt ≤ 1073741823) := ad6 hv39 Rv5 Rv38 (by decide) (by decide) (by decide) (by decide)
      refine lv_lstore (lv' := [(6, .long v39), (4, .long v5), (0, .ref p0), (1, .int a1), (2, .int a2), (3, .int a3)]) hx hb d_X_add_46 hl (by decide) rfl (fun ls hl => ?_)
      refine lv_aload_n hx hb d_X_add_48 rfl (lv_at hl 2 rfl) ?_
      refine va_get (D := D) (ci := 7) (v := .ref p3) (C := "SignMachineModel") (T := F_X) (N := 64) hx hb hk fi_X hown hK.1 hP 0 rfl rfl 2 (by decide) (hk _ k_1123) (fun _ h9 => h9) rfl d_X_add_49 ?_
      refine lv_iload_n hx hb d_X_add_52 rfl (lv_at hl 3 rfl) ?_
      refine lv_lload hx hb d_X_add_53 (lv_at hl 0 rfl) ?_
      refine lv_lconst (v := 0) hx hb d_X_add_55 (by decide) ?_
      refine W.lcmp hx hb d_X_add_56 ?_
      refine lv_topi (fun v40 hv40 => ?_)
      refine lv_if_ge (tgt := 64) hx hb d_X_add_57 (by decide) (fun c41 => ?_) (fun c41 => ?_)
      · have gc41 : (0 : Int) ≤ v39.toInt := lc_ge hv40 c41
        have R42 : 0 ≤ v39.toInt ∧ v39.toInt ≤ 1073741823 := rf_geX Rv39 (show 0 ≤ (0 : Int) ∧ (0 : Int) ≤ 0 from by decide) gc41 (by decide) (by decide)
        refine lv_lload hx hb d_X_add_64 (lv_at hl 0 rfl) ?_
        refine lv_lconst (v := 0) hx hb d_X_add_66 (by decide) ?_
        refine W.lcmp hx hb d_X_add_67 ?_
        refine lv_topi (fun v43 hv43 => ?_)
        refine lv_if_le (tgt := 75) hx hb d_X_add_68 (by decide) (fun c44 => ?_) (fun c44 => ?_)
        · have gc44 : v39.toInt ≤ (0 : Int) := lc_le hv43 c44
          have R45 : 0 ≤ v39.toInt ∧ v39.toInt ≤ 0 := rf_leX R42 (show 0 ≤ (0 : Int) ∧ (0 : Int) ≤ 0 from by decide) gc44 (by decide) (by decide)
          refine lv_aload_n hx hb d_X_add_75 rfl (lv_at hl 2 rfl) ?_
          refine va_get (D := D) (ci := 7) (v := .ref p3) (C := "SignMachineModel") (T := F_X) (N := 64) hx hb hk fi_X hown hK.1 hP 0 rfl rfl 2 (by decide) (hk _ k_1123) (fun _ h9 => h9) rfl d_X_add_76 ?_
          refine lv_iload_n hx hb d_X_add_79 rfl (lv_at hl 3 rfl) ?_
          refine va_iald hx hb hK.1 hP 3 0 rfl rfl (vpb Q2 (by decide) (by decide)) d_X_add_80 ?_
          refine lv_topi (fun v46 hv46 => ?_)
          have Tv46 : v46.toInt = (y3 (a1).toNatClampNeg).toInt := congrArg _ hv46
          have Rv46 := Ay3 (a1).toNatClampNeg
          rw [← hv46] at Rv46
          refine va_iast hx hb hK.1 hP hD hS 3 0 rfl rfl (vpb Q2 (by decide) (by decide)) d_X_add_81 (fun H locs hP hD hS => ?_)
          have hP : va_P D classes (wS50 cI cJ cZ cB p0 p1 p2 p3 p4 p5 p6 p7 p8 p9 p10 p11 p12 p13 p14 p15 p16 p17 p18 p19 p20 p21 p22 p23 p24 p25 x0_4 x0_5 x0_6 x0_7 x0_8 x0_12 x0_13 x0_14 x0_15 x0_16 x0_17 x0_18 x0_22 x0_23 x0_24 x0_25 x0_26 x0_27 x0_28 x0_29 x0_30 x0_31 x0_32 x0_36 x0_39 x0_40 x0_44 x0_49 x0_51 x0_53 x0_54 x0_55 x0_56 x0_57 x0_58 x0_59 x0_60 x0_61 x0_62 y1 y2 (upd y3 (a1).toNatClampNeg v46) y4 y5 y6 y7 y8 y9 y10 y11 y12 y13 y14 y15 y16 y17 y18 y19 y20 y21 y22 y23 y24 y25) H := hP
          have hD : va_D A (wS50 cI cJ cZ cB p0 p1 p2 p3 p4 p5 p6 p7 p8 p9 p10 p11 p12 p13 p14 p15 p16 p17 p18 p19 p20 p21 p22 p23 p24 p25 x0_4 x0_5 x0_6 x0_7 x0_8 x0_12 x0_13 x0_14 x0_15 x0_16 x0_17 x0_18 x0_22 x0_23 x0_24 x0_25 x0_26 x0_27 x0_28 x0_29 x0_30 x0_31 x0_32 x0_36 x0_39 x0_40 x0_44 x0_49 x0_51 x0_53 x0_54 x0_55 x0_56 x0_57 x0_58 x0_59 x0_60 x0_61 x0_62 y1 y2 (upd y3 (a1).toNatClampNeg v46) y4 y5 y6 y7 y8 y9 y10 y11 y12 y13 y14 y15 y16 y17 y18 y19 y20 y21 y22 y23 y24 y25) := hD
          obtain ⟨v47, hv47⟩ : ∃ y : Nat → Int32, y = (upd y3 (a1).toNatClampNeg v46) := ⟨_, rfl⟩
          rw [← hv47] at hP hD
          have Gv47 : (0 ≤ (v46).toInt ∧ (v46).toInt ≤ 1) := Rv46
          have Av47 : ∀ i : Nat, (0 ≤ (v47 i).toInt ∧ (v47 i).toInt ≤ 1) := by rw [hv47]; exact upd_all (P := fun i x => (0 ≤ (x).toInt ∧ (x).toInt ≤ 1)) Ay3 Gv47
          clear hv47
          refine lv_lload hx hb d_X_add_82 (lv_at hl 0 rfl) ?_
          refine lv_lconst (v := 0) hx hb d_X_add_84 (by decide) ?_
          refine W.lcmp hx hb d_X_add_85 ?_
          refine lv_topi (fun v48 hv48 => ?_)
          refine lv_if_ge (tgt := 95) hx hb d_X_add_86 (by decide) (fun c49 => ?_) (fun c49 => absurd (show (0 : Int32) ≤ v48 from (lcr_ge hv48 (kle (show 0 ≤ (0 : Int) ∧ (0 : Int) ≤ 0 from by decide) R45 (by decide)))) c49)
          refine lv_lload hx hb d_X_add_95 (lv_at hl 0 rfl) ?_
          refine lv_lstore (lv' := [(8, .long v39), (6, .long v39), (4, .long v5), (0, .ref p0), (1, .int a1), (2, .int a2), (3, .int a3)]) hx hb d_X_add_97 hl (by decide) rfl (fun ls hl => ?_)
          refine lv_lload hx hb d_X_add_99 (lv_at hl 0 rfl) ?_
          refine lv_ldc2 (v := 1073741824) hx hb hown (hk _ k_1461) d_X_add_101 ?_
          refine W.lcmp hx hb d_X_add_104 ?_
          refine lv_topi (fun v50 hv50 => ?_)
          refine lv_if_lt (tgt := 121) hx hb d_X_add_105 (by decide) (fun c51 => ?_) (fun c51 => absurd (show v50 < (0 : Int32) from (lcr_lt hv50 (klt R45 (show 1073741824 ≤ (1073741824 : Int) ∧ (1073741824 : Int) ≤ 1073741824 from by decide) (by decide)))) c51)
          refine lv_aload_n hx hb d_X_add_121 rfl (lv_at hl 3 rfl) ?_
          refine va_get (D := D) (ci := 7) (v := .ref p4) (C := "SignMachineModel") (T := F_X) (N := 64) hx hb hk fi_X hown hK.1 hP 0 rfl rfl 3 (by decide) (hk _ k_1124) (fun _ h9 => h9) rfl d_X_add_122 ?_
          refine lv_iload_n hx hb d_X_add_125 rfl (lv_at hl 4 rfl) ?_
          refine lv_lload hx hb d_X_add_126 (lv_at hl 0 rfl) ?_
          refine lv_l2i (v := (v39 : Int64).toInt32) hx hb d_X_add_128 rfl ?_
          refine lv_topi (fun v52 hv52 => ?_)
          obtain ⟨ev52, Rv52⟩ : v52.toInt = v39.toInt ∧ (0 ≤ v52.toInt ∧ v52.toInt ≤ 0) := li3 hv52 R45 (by decide) (by decide)
          refine va_iast hx hb hK.1 hP hD hS 4 0 rfl rfl (vpb Q2 (by decide) (by decide)) d_X_add_129 (fun H locs hP hD hS => ?_)
          have hP : va_P D classes (wS50 cI cJ cZ cB p0 p1 p2 p3 p4 p5 p6 p7 p8 p9 p10 p11 p12 p13 p14 p15 p16 p17 p18 p19 p20 p21 p22 p23 p24 p25 x0_4 x0_5 x0_6 x0_7 x0_8 x0_12 x0_13 x0_14 x0_15 x0_16 x0_17 x0_18 x0_22 x0_23 x0_24 x0_25 x0_26 x0_27 x0_28 x0_29 x0_30 x0_31 x0_32 x0_36 x0_39 x0_40 x0_44 x0_49 x0_51 x0_53 x0_54 x0_55 x0_56 x0_57 x0_58 x0_59 x0_60 x0_61 x0_62 y1 y2 v47 (upd y4 (a1).toNatClampNeg v52) y5 y6 y7 y8 y9 y10 y11 y12 y13 y14 y15 y16 y17 y18 y19 y20 y21 y22 y23 y24 y25) H := hP
          have hD : va_D A (wS50 cI cJ cZ cB p0 p1 p2 p3 p4 p5 p6 p7 p8 p9 p10 p11 p12 p13 p14 p15 p16 p17 p18 p19 p20 p21 p22 p23 p24 p25 x0_4 x0_5 x0_6 x0_7 x0_8 x0_12 x0_13 x0_14 x0_15 x0_16 x0_17 x0_18 x0_22 x0_23 x0_24 x0_25 x0_26 x0_27 x0_28 x0_29 x0_30 x0_31 x0_32 x0_36 x0_39 x0_40 x0_44 x0_49 x0_51 x0_53 x0_54 x0_55 x0_56 x0_57 x0_58 x0_59 x0_60 x0_61 x0_62 y1 y2 v47 (upd y4 (a1).toNatClampNeg v52) y5 y6 y7 y8 y9 y10 y11 y12 y13 y14 y15 y16 y17 y18 y19 y20 y21 y22 y23 y24 y25) := hD
          obtain ⟨v53, hv53⟩ : ∃ y : Nat → Int32, y = (upd y4 (a1).toNatClampNeg v52) := ⟨_, rfl⟩
          rw [← hv53] at hP hD
          have : (((a1).toNatClampNeg : Nat) : Int) = a1.toInt := ti_n Q2 (by decide)
          have Gv53 : ((0 ≤ (v52).toInt ∧ (v52).toInt ≤ 1073741823) ∧ ((1 ≤ (((a1).toNatClampNeg : Nat) : Int) ∧ (((a1).toNatClampNeg : Nat) : Int) ≤ 6) → (v52).toInt ≤ 4095)) := by refine ⟨by omega, ?_⟩; omega
          have Av53 : ∀ i : Nat, ((0 ≤ (v53 i).toInt ∧ (v53 i).toInt ≤ 1073741823) ∧ ((1 ≤ (i : Int) ∧ (i : Int) ≤ 6) → (v53 i).toInt ≤ 4095)) := by rw [hv53]; exact upd_all (P := fun i x => ((0 ≤ (x).toInt ∧ (x).toInt ≤ 1073741823) ∧ ((1 ≤ (i : Int) ∧ (i : Int) ≤ 6) → (x).toInt ≤ 4095))) Ay4 Gv53
          clear hv53
          exact W.vret hx hb hr (fun t ht hW => ⟨⟨(), rfl, trivial, ⟨x0_5, v47, v53, Av47, Av53, by show va_P D classes _ t.heap; rw [ht]; exact hP, hD⟩⟩, hS.F ht⟩) hS.2.2 d_X_add_130
        · have gc44 : (0 : Int) < v39.toInt := lc_nle hv43 c44
          have R54 : 1 ≤ v39.toInt ∧ v39.toInt ≤ 1073741823 := rf_gtX R42 (show 0 ≤ (0 : Int) ∧ (0 : Int) ≤ 0 from by decide) gc44 (by decide) (by decide)
          refine lv_iconst (v := 0) hx hb d_X_add_71 (by decide) ?_
          refine lv_goto (tgt := 81) hx hb d_X_add_72 (by decide) ?_
          refine va_iast hx hb hK.1 hP hD hS 3 0 rfl rfl (vpb Q2 (by decide) (by decide)) d_X_add_81 (fun H locs hP hD hS => ?_)
          have hP : va_P D classes (wS50 cI cJ cZ cB p0 p1 p2 p3 p4 p5 p6 p7 p8 p9 p10 p11 p12 p13 p14 p15 p16 p17 p18 p19 p20 p21 p22 p23 p24 p25 x0_4 x0_5 x0_6 x0_7 x0_8 x0_12 x0_13 x0_14 x0_15 x0_16 x0_17 x0_18 x0_22 x0_23 x0_24 x0_25 x0_26 x0_27 x0_28 x0_29 x0_30 x0_31 x0_32 x0_36 x0_39 x0_40 x0_44 x0_49 x0_51 x0_53 x0_54 x0_55 x0_56 x0_57 x0_58 x0_59 x0_60 x0_61 x0_62 y1 y2 (upd y3 (a1).toNatClampNeg (0 : Int32)) y4 y5 y6 y7 y8 y9 y10 y11 y12 y13 y14 y15 y16 y17 y18 y19 y20 y21 y22 y23 y24 y25) H := hP
          have hD : va_D A (wS50 cI cJ cZ cB p0 p1 p2 p3 p4 p5 p6 p7 p8 p9 p10 p11 p12 p13 p14 p15 p16 p17 p18 p19 p20 p21 p22 p23 p24 p25 x0_4 x0_5 x0_6 x0_7 x0_8 x0_12 x0_13 x0_14 x0_15 x0_16 x0_17 x0_18 x0_22 x0_23 x0_24 x0_25 x0_26 x0_27 x0_28 x0_29 x0_30 x0_31 x0_32 x0_36 x0_39 x0_40 x0_44 x0_49 x0_51 x0_53 x0_54 x0_55 x0_56 x0_57 x0_58 x0_59 x0_60 x0_61 x0_62 y1 y2 (upd y3 (a1).toNatClampNeg (0 : Int32)) y4 y5 y6 y7 y8 y9 y10 y11 y12 y13 y14 y15 y16 y17 y18 y19 y20 y21 y22 y23 y24 y25) := hD
          obtain ⟨v55, hv55⟩ : ∃ y : Nat → Int32, y = (upd y3 (a1).toNatClampNeg (0 : Int32)) := ⟨_, rfl⟩
          rw [← hv55] at hP hD
          have Gv55 : (0 ≤ ((0 : Int32)).toInt ∧ ((0 : Int32)).toInt ≤ 1) := (by decide)
          have Av55 : ∀ i : Nat, (0 ≤ (v55 i).toInt ∧ (v55 i).toInt ≤ 1) := by rw [hv55]; exact upd_all (P := fun i x => (0 ≤ (x).toInt ∧ (x).toInt ≤ 1)) Ay3 Gv55
          clear hv55
          refine lv_lload hx hb d_X_add_82 (lv_at hl 0 rfl) ?_
          refine lv_lconst (v := 0) hx hb d_X_add_84 (by decide) ?_
          refine W.lcmp hx hb d_X_add_85 ?_
          refine lv_topi (fun v56 hv56 => ?_)
          refine lv_if_ge (tgt := 95) hx hb d_X_add_86 (by decide) (fun c57 => ?_) (fun c57 => absurd (show (0 : Int32) ≤ v56 from (lcr_ge hv56 (kle (show 0 ≤ (0 : Int) ∧ (0 : Int) ≤ 0 from by decide) R54 (by decide)))) c57)
          refine lv_lload hx hb d_X_add_95 (lv_at hl 0 rfl) ?_
          refine lv_lstore (lv' := [(8, .long v39), (6, .long v39), (4, .long v5), (0, .ref p0), (1, .int a1), (2, .int a2), (3, .int a3)]) hx hb d_X_add_97 hl (by decide) rfl (fun ls hl => ?_)
          refine lv_lload hx hb d_X_add_99 (lv_at hl 0 rfl) ?_
          refine lv_ldc2 (v := 1073741824) hx hb hown (hk _ k_1461) d_X_add_101 ?_
          refine W.lcmp hx hb d_X_add_104 ?_
          refine lv_topi (fun v58 hv58 => ?_)
          refine lv_if_lt (tgt := 121) hx hb d_X_add_105 (by decide) (fun c59 => ?_) (fun c59 => absurd (show v58 < (0 : Int32) from (lcr_lt hv58 (klt R54 (show 1073741824 ≤ (1073741824 : Int) ∧ (1073741824 : Int) ≤ 1073741824 from by decide) (by decide)))) c59)
          refine lv_aload_n hx hb d_X_add_121 rfl (lv_at hl 3 rfl) ?_
          refine va_get (D := D) (ci := 7) (v := .ref p4) (C := "SignMachineModel") (T := F_X) (N := 64) hx hb hk fi_X hown hK.1 hP 0 rfl rfl 3 (by decide) (hk _ k_1124) (fun _ h9 => h9) rfl d_X_add_122 ?_
          refine lv_iload_n hx hb d_X_add_125 rfl (lv_at hl 4 rfl) ?_
          refine lv_lload hx hb d_X_add_126 (lv_at hl 0 rfl) ?_
          refine lv_l2i (v := (v39 : Int64).toInt32) hx hb d_X_add_128 rfl ?_
          refine lv_topi (fun v60 hv60 => ?_)
          obtain ⟨ev60, Rv60⟩ : v60.toInt = v39.toInt ∧ (1 ≤ v60.toInt ∧ v60.toInt ≤ 1073741823) := li3 hv60 R54 (by decide) (by decide)
          refine va_iast hx hb hK.1 hP hD hS 4 0 rfl rfl (vpb Q2 (by decide) (by decide)) d_X_add_129 (fun H locs hP hD hS => ?_)
          have hP : va_P D classes (wS50 cI cJ cZ cB p0 p1 p2 p3 p4 p5 p6 p7 p8 p9 p10 p11 p12 p13 p14 p15 p16 p17 p18 p19 p20 p21 p22 p23 p24 p25 x0_4 x0_5 x0_6 x0_7 x0_8 x0_12 x0_13 x0_14 x0_15 x0_16 x0_17 x0_18 x0_22 x0_23 x0_24 x0_25 x0_26 x0_27 x0_28 x0_29 x0_30 x0_31 x0_32 x0_36 x0_39 x0_40 x0_44 x0_49 x0_51 x0_53 x0_54 x0_55 x0_56 x0_57 x0_58 x0_59 x0_60 x0_61 x0_62 y1 y2 v55 (upd y4 (a1).toNatClampNeg v60) y5 y6 y7 y8 y9 y10 y11 y12 y13 y14 y15 y16 y17 y18 y19 y20 y21 y22 y23 y24 y25) H := hP
          have hD : va_D A (wS50 cI cJ cZ cB p0 p1 p2 p3 p4 p5 p6 p7 p8 p9 p10 p11 p12 p13 p14 p15 p16 p17 p18 p19 p20 p21 p22 p23 p24 p25 x0_4 x0_5 x0_6 x0_7 x0_8 x0_12 x0_13 x0_14 x0_15 x0_16 x0_17 x0_18 x0_22 x0_23 x0_24 x0_25 x0_26 x0_27 x0_28 x0_29 x0_30 x0_31 x0_32 x0_36 x0_39 x0_40 x0_44 x0_49 x0_51 x0_53 x0_54 x0_55 x0_56 x0_57 x0_58 x0_59 x0_60 x0_61 x0_62 y1 y2 v55 (upd y4 (a1).toNatClampNeg v60) y5 y6 y7 y8 y9 y10 y11 y12 y13 y14 y15 y16 y17 y18 y19 y20 y21 y22 y23 y24 y25) := hD
          obtain ⟨v61, hv61⟩ : ∃ y : Nat → Int32, y = (upd y4 (a1).toNatClampNeg v60) := ⟨_, rfl⟩
          rw [← hv61] at hP hD
          have : (((a1).toNatClampNeg : Nat) : Int) = a1.toInt := ti_n Q2 (by decide)
          have Gv61 : ((0 ≤ (v60).toInt ∧ (v60).toInt ≤ 1073741823) ∧ ((1 ≤ (((a1).toNatClampNeg : Nat) : Int) ∧ (((a1).toNatClampNeg : Nat) : Int) ≤ 6) → (v60).toInt ≤ 4095)) := by refine ⟨by omega, ?_⟩; omega
          have Av61 : ∀ i : Nat, ((0 ≤ (v61 i).toInt ∧ (v61 i).toInt ≤ 1073741823) ∧ ((1 ≤ (i : Int) ∧ (i : Int) ≤ 6) → (v61 i).toInt ≤ 4095)) := by rw [hv61]; exact upd_all (P := fun i x => ((0 ≤ (x).toInt ∧ (x).toInt ≤ 1073741823) ∧ ((1 ≤ (i : Int) ∧ (i : Int) ≤ 6) → (x).toInt ≤ 4095))) Ay4 Gv61
          clear hv61
          exact W.vret hx hb hr (fun t ht hW => ⟨⟨(), rfl, trivial, ⟨x0_5, v55, v61, Av55, Av61, by show va_P D classes _ t.heap; rw [ht]; exact hP, hD⟩⟩, hS.F ht⟩) hS.2.2 d_X_add_130
      · have gc41 : v39.toInt < (0 : Int) := lc_nge hv40 c41
        have R62 : (-1073741823) ≤ v39.toInt ∧ v39.toInt ≤ (-1) := rf_ltX Rv39 (show 0 ≤ (0 : Int) ∧ (0 : Int) ≤ 0 from by decide) gc41 (by decide) (by decide)
        refine lv_iconst (v := 1) hx hb d_X_add_60 (by decide) ?_
        refine lv_goto (tgt := 81) hx hb d_X_add_61 (by decide) ?_
        refine va_iast hx hb hK.1 hP hD hS 3 0 rfl rfl (vpb Q2 (by decide) (by decide)) d_X_add_81 (fun H locs hP hD hS => ?_)
        have hP : va_P D classes (wS50 cI cJ cZ cB p0 p1 p2 p3 p4 p5 p6 p7 p8 p9 p10 p11 p12 p13 p14 p15 p16 p17 p18 p19 p20 p21 p22 p23 p24 p25 x0_4 x0_5 x0_6 x0_7 x0_8 x0_12 x0_13 x0_14 x0_15 x0_16 x0_17 x0_18 x0_22 x0_23 x0_24 x0_25 x0_26 x0_27 x0_28 x0_29 x0_30 x0_31 x0_32 x0_36 x0_39 x0_40 x0_44 x0_49 x0_51 x0_53 x0_54 x0_55 x0_56 x0_57 x0_58 x0_59 x0_60 x0_61 x0_62 y1 y2 (upd y3 (a1).toNatClampNeg (1 : Int32)) y4 y5 y6 y7 y8 y9 y10 y11 y12 y13 y14 y15 y16 y17 y18 y19 y20 y21 y22 y23 y24 y25) H := hP
        have hD : va_D A (wS50 cI cJ cZ cB p0 p1 p2 p3 p4 p5 p6 p7 p8 p9 p10 p11 p12 p13 p14 p15 p16 p17 p18 p19 p20 p21 p22 p23 p24 p25 x0_4 x0_5 x0_6 x0_7 x0_8 x0_12 x0_13 x0_14 x0_15 x0_16 x0_17 x0_18 x0_22 x0_23 x0_24 x0_25 x0_26 x0_27 x0_28 x0_29 x0_30 x0_31 x0_32 x0_36 x0_39 x0_40 x0_44 x0_49 x0_51 x0_53 x0_54 x0_55 x0_56 x0_57 x0_58 x0_59 x0_60 x0_61 x0_62 y1 y2 (upd y3 (a1).toNatClampNeg (1 : Int32)) y4 y5 y6 y7 y8 y9 y10 y11 y12 y13 y14 y15 y16 y17 y18 y19 y20 y21 y22 y23 y24 y25) := hD
        obtain ⟨v63, hv63⟩ : ∃ y : Nat → Int32, y = (upd y3 (a1).toNatClampNeg (1 : Int32)) := ⟨_, rfl⟩
        rw [← hv63] at hP hD
        have Gv63 : (0 ≤ ((1 : Int32)).toInt ∧ ((1 : Int32)).toInt ≤ 1) := (by decide)
        have Av63 : ∀ i : Nat, (0 ≤ (v63 i).toInt ∧ (v63 i).toInt ≤ 1) := by rw [hv63]; exact upd_all (P := fun i x => (0 ≤ (x).toInt ∧ (x).toInt ≤ 1)) Ay3 Gv63
        clear hv63
        refine lv_lload hx hb d_X_add_82 (lv_at hl 0 rfl) ?_
        refine lv_lconst (v := 0) hx hb d_X_add_84 (by decide) ?_
        refine W.lcmp hx hb d_X_add_85 ?_
        refine lv_topi (fun v64 hv64 => ?_)
        refine lv_if_ge (tgt := 95) hx hb d_X_add_86 (by decide) (fun c65 => absurd c65 (show ¬ (0 : Int32) ≤ v64 from (lcr_nge hv64 (klt R62 (show 0 ≤ (0 : Int) ∧ (0 : Int) ≤ 0 from by decide) (by decide))))) (fun c65 => ?_)
        refine lv_lload hx hb d_X_add_89 (lv_at hl 0 rfl) ?_
        refine lv_lneg hx hb d_X_add_91 ?_
        refine lv_topl (fun v66 hv66 => ?_)
        obtain ⟨ev66, Rv66⟩ : v66.toInt = -v39.toInt ∧ (1 ≤ v66.toInt ∧ v66.toInt ≤ 1073741823) := ng6 hv66 R62 (by decide) (by decide) (by decide) (by decide)
        refine lv_goto (tgt := 97) hx hb d_X_add_92 (by decide) ?_
        refine lv_lstore (lv' := [(8, .long v66), (6, .long v39), (4, .long v5), (0, .ref p0), (1, .int a1), (2, .int a2), (3, .int a3)]) hx hb d_X_add_97 hl (by decide) rfl (fun ls hl => ?_)
        refine lv_lload hx hb d_X_add_99 (lv_at hl 0 rfl) ?_
        refine lv_ldc2 (v := 1073741824) hx hb hown (hk _ k_1461) d_X_add_101 ?_
        refine W.lcmp hx hb d_X_add_104 ?_
        refine lv_topi (fun v67 hv67 => ?_)
        refine lv_if_lt (tgt := 121) hx hb d_X_add_105 (by decide) (fun c68 => ?_) (fun c68 => absurd (show v67 < (0 : Int32) from (lcr_lt hv67 (klt Rv66 (show 1073741824 ≤ (1073741824 : Int) ∧ (1073741824 : Int) ≤ 1073741824 from by decide) (by decide)))) c68)
        refine lv_aload_n hx hb d_X_add_121 rfl (lv_at hl 3 rfl) ?_
        refine va_get (D := D) (ci := 7) (v := .ref p4) (C := "SignMachineModel") (T := F_X) (N := 64) hx hb hk fi_X hown hK.1 hP 0 rfl rfl 3 (by decide) (hk _ k_1124) (fun _ h9 => h9) rfl d_X_add_122 ?_
        refine lv_iload_n hx hb d_X_add_125 rfl (lv_at hl 4 rfl) ?_
        refine lv_lload hx hb d_X_add_126 (lv_at hl 0 rfl) ?_
        refine lv_l2i (v := (v66 : Int64).toInt32) hx hb d_X_add_128 rfl ?_
        refine lv_topi (fun v69 hv69 => ?_)
        obtain ⟨ev69, Rv69⟩ : v69.toInt = v66.toInt ∧ (1 ≤ v69.toInt ∧ v69.toInt ≤ 1073741823) := li3 hv69 Rv66 (by decide) (by decide)
        refine va_iast hx hb hK.1 hP hD hS 4 0 rfl rfl (vpb Q2 (by decide) (by decide)) d_X_add_129 (fun H locs hP hD hS => ?_)
        have hP : va_P D classes (wS50 cI cJ cZ cB p0 p1 p2 p3 p4 p5 p6 p7 p8 p9 p10 p11 p12 p13 p14 p15 p16 p17 p18 p19 p20 p21 p22 p23 p24 p25 x0_4 x0_5 x0_6 x0_7 x0_8 x0_12 x0_13 x0_14 x0_15 x0_16 x0_17 x0_18 x0_22 x0_23 x0_24 x0_25 x0_26 x0_27 x0_28 x0_29 x0_30 x0_31 x0_32 x0_36 x0_39 x0_40 x0_44 x0_49 x0_51 x0_53 x0_54 x0_55 x0_56 x0_57 x0_58 x0_59 x0_60 x0_61 x0_62 y1 y2 v63 (upd y4 (a1).toNatClampNeg v69) y5 y6 y7 y8 y9 y10 y11 y12 y13 y14 y15 y16 y17 y18 y19 y20 y21 y22 y23 y24 y25) H := hP
        have hD : va_D A (wS50 cI cJ cZ cB p0 p1 p2 p3 p4 p5 p6 p7 p8 p9 p10 p11 p12 p13 p14 p15 p16 p17 p18 p19 p20 p21 p22 p23 p24 p25 x0_4 x0_5 x0_6 x0_7 x0_8 x0_12 x0_13 x0_14 x0_15 x0_16 x0_17 x0_18 x0_22 x0_23 x0_24 x0_25 x0_26 x0_27 x0_28 x0_29 x0_30 x0_31 x0_32 x0_36 x0_39 x0_40 x0_44 x0_49 x0_51 x0_53 x0_54 x0_55 x0_56 x0_57 x0_58 x0_59 x0_60 x0_61 x0_62 y1 y2 v63 (upd y4 (a1).toNatClampNeg v69) y5 y6 y7 y8 y9 y10 y11 y12 y13 y14 y15 y16 y17 y18 y19 y20 y21 y22 y23 y24 y25) := hD
        obtain ⟨v70, hv70⟩ : ∃ y : Nat → Int32, y = (upd y4 (a1).toNatClampNeg v69) := ⟨_, rfl⟩
        rw [← hv70] at hP hD
        have : (((a1).toNatClampNeg : Nat) : Int) = a1.toInt := ti_n Q2 (by decide)
        have Gv70 : ((0 ≤ (v69).toInt ∧ (v69).toInt ≤ 1073741823) ∧ ((1 ≤ (((a1).toNatClampNeg : Nat) : Int) ∧ (((a1).toNatClampNeg : Nat) : Int) ≤ 6) → (v69).toInt ≤ 4095)) := by refine ⟨by omega, ?_⟩; omega
        have Av70 : ∀ i : Nat, ((0 ≤ (v70 i).toInt ∧ (v70 i).toInt ≤ 1073741823) ∧ ((1 ≤ (i : Int) ∧ (i : Int) ≤ 6) → (v70 i).toInt ≤ 4095)) := by rw [hv70]; exact upd_all (P := fun i x => ((0 ≤ (x).toInt ∧ (x).toInt ≤ 1073741823) ∧ ((1 ≤ (i : Int) ∧ (i : Int) ≤ 6) → (x).toInt ≤ 4095))) Ay4 Gv70
        clear hv70
        exact W.vret hx hb hr (fun t ht hW => ⟨⟨(), rfl, trivial, ⟨x0_5, v63, v70, Av63, Av70, by show va_P D classes _ t.heap; rw [ht]; exact hP, hD⟩⟩, hS.F ht⟩) hS.2.2 d_X_add_130
  · have gc2 : v1.toInt = (1 : Int) := c_eq c2
    have R71 : 1 ≤ v1.toInt ∧ v1.toInt ≤ 1 := rf_eqX Rv1 (show 1 ≤ (1 : Int) ∧ (1 : Int) ≤ 1 from by decide) gc2 (by decide) (by decide)
    refine lv_aload_n hx hb d_X_add_10 rfl (lv_at hl 0 rfl) ?_
    refine va_get (D := D) (ci := 7) (v := .ref p4) (C := "SignMachineModel") (T := F_X) (N := 64) hx hb hk fi_X hown hK.1 hP 0 rfl rfl 3 (by decide) (hk _ k_1124) (fun _ h9 => h9) rfl d_X_add_11 ?_
    refine lv_iload_n hx hb d_X_add_14 rfl (lv_at hl 1 rfl) ?_
    refine va_iald hx hb hK.1 hP 4 0 rfl rfl (vpb Q2 (by decide) (by decide)) d_X_add_15 ?_
    refine lv_topi (fun v72 hv72 => ?_)
    have Tv72 : v72.toInt = (y4 (a1).toNatClampNeg).toInt := congrArg _ hv72
    have Rv72 := Ay4 (a1).toNatClampNeg
    rw [← hv72] at Rv72
    obtain ⟨Rv72, Xv72⟩ := Rv72
    have : (((a1).toNatClampNeg : Nat) : Int) = a1.toInt := ti_n Q2 (by decide)
    refine lv_i2l (v := (v72 : Int32).toInt64) hx hb d_X_add_16 rfl ?_
    refine lv_topl (fun v73 hv73 => ?_)
    obtain ⟨ev73, Rv73⟩ : v73.toInt = v72.toInt ∧ (0 ≤ v73.toInt ∧ v73.toInt ≤ 1073741823) := il3 hv73 Rv72
    refine lv_lneg hx hb d_X_add_17 ?_
    refine lv_topl (fun v74 hv74 => ?_)
    obtain ⟨ev74, Rv74⟩ : v74.toInt = -v73.toInt ∧ ((-1073741823) ≤ v74.toInt ∧ v74.toInt ≤ 0) := ng6 hv74 Rv73 (by decide) (by decide) (by decide) (by decide)
    refine lv_goto (tgt := 28) hx hb d_X_add_18 (by decide) ?_
    refine lv_lstore (lv' := [(4, .long v74), (0, .ref p0), (1, .int a1), (2, .int a2), (3, .int a3)]) hx hb d_X_add_28 hl (by decide) rfl (fun ls hl => ?_)
    refine lv_lload hx hb d_X_add_30 (lv_at hl 0 rfl) ?_
    refine lv_iload_n hx hb d_X_add_32 rfl (lv_at hl 3 rfl) ?_
    refine lv_iconst (v := 1) hx hb d_X_add_33 (by decide) ?_
    refine lv_icmp_ne (tgt := 43) hx hb d_X_add_34 (by decide) (fun c75 => ?_) (fun c75 => ?_)
    · have gc75 : a2.toInt ≠ (1 : Int) := c_ne c75
      have R76 : 0 ≤ a2.toInt ∧ a2.toInt ≤ 0 := rf_neX Q3 (show 1 ≤ (1 : Int) ∧ (1 : Int) ≤ 1 from by decide) gc75 (by decide) (by decide)
      refine lv_iload_n hx hb d_X_add_43 rfl (lv_at hl 4 rfl) ?_
      refine lv_i2l (v := (a3 : Int32).toInt64) hx hb d_X_add_44 rfl ?_
      refine lv_topl (fun v77 hv77 => ?_)
      obtain ⟨ev77, Rv77⟩ : v77.toInt = a3.toInt ∧ (0 ≤ v77.toInt ∧ v77.toInt ≤ 1073741823) := il3 hv77 Q4
      refine lv_ladd hx hb d_X_add_45 ?_
      refine lv_topl (fun v78 hv78 => ?_)
      obtain ⟨ev78, Rv78⟩ : v78.toInt = v74.toInt + v77.toInt ∧ ((-1073741823) ≤ v78.toInt ∧ v78.toInt ≤ 1073741823) := ad6 hv78 Rv74 Rv77 (by decide) (by decide) (by decide) (by decide)
      refine lv_lstore (lv' := [(6, .long v78), (4, .long v74), (0, .ref p0), (1, .int a1), (2, .int a2), (3, .int a3)]) hx hb d_X_add_46 hl (by decide) rfl (fun ls hl => ?_)
      refine lv_aload_n hx hb d_X_add_48 rfl (lv_at hl 2 rfl) ?_
      refine va_get (D := D) (ci := 7) (v := .ref p3) (C := "SignMachineModel") (T := F_X) (N := 64) hx hb hk fi_X hown hK.1 hP 0 rfl rfl 2 (by decide) (hk _ k_1123) (fun _ h9 => h9) rfl d_X_add_49 ?_
      refine lv_iload_n hx hb d_X_add_52 rfl (lv_at hl 3 rfl) ?_
      refine lv_lload hx hb d_X_add_53 (lv_at hl 0 rfl) ?_
      refine lv_lconst (v := 0) hx hb d_X_add_55 (by decide) ?_
      refine W.lcmp hx hb d_X_add_56 ?_
      refine lv_topi (fun v79 hv79 => ?_)
      refine lv_if_ge (tgt := 64) hx hb d_X_add_57 (by decide) (fun c80 => ?_) (fun c80 => ?_)
      · have gc80 : (0 : Int) ≤ v78.toInt := lc_ge hv79 c80
        have R81 : 0 ≤ v78.toInt ∧ v78.toInt ≤ 1073741823 := rf_geX Rv78 (show 0 ≤ (0 : Int) ∧ (0 : Int) ≤ 0 from by decide) gc80 (by decide) (by decide)
        refine lv_lload hx hb d_X_add_64 (lv_at hl 0 rfl) ?_
        refine lv_lconst (v := 0) hx hb d_X_add_66 (by decide) ?_
        refine W.lcmp hx hb d_X_add_67 ?_
        refine lv_topi (fun v82 hv82 => ?_)
        refine lv_if_le (tgt := 75) hx hb d_X_add_68 (by decide) (fun c83 => ?_) (fun c83 => ?_)
        · have gc83 : v78.toInt ≤ (0 : Int) := lc_le hv82 c83
          have R84 : 0 ≤ v78.toInt ∧ v78.toInt ≤ 0 := rf_leX R81 (show 0 ≤ (0 : Int) ∧ (0 : Int) ≤ 0 from by decide) gc83 (by decide) (by decide)
          refine lv_aload_n hx hb d_X_add_75 rfl (lv_at hl 2 rfl) ?_
          refine va_get (D := D) (ci := 7) (v := .ref p3) (C := "SignMachineModel") (T := F_X) (N := 64) hx hb hk fi_X hown hK.1 hP 0 rfl rfl 2 (by decide) (hk _ k_1123) (fun _ h9 => h9) rfl d_X_add_76 ?_
          refine lv_iload_n hx hb d_X_add_79 rfl (lv_at hl 3 rfl) ?_
          refine va_iald hx hb hK.1 hP 3 0 rfl rfl (vpb Q2 (by decide) (by decide)) d_X_add_80 ?_
          refine lv_topi (fun v85 hv85 => ?_)
          have Tv85 : v85.toInt = (y3 (a1).toNatClampNeg).toInt := congrArg _ hv85
          have Rv85 := Ay3 (a1).toNatClampNeg
          rw [← hv85] at Rv85
          refine va_iast hx hb hK.1 hP hD hS 3 0 rfl rfl (vpb Q2 (by decide) (by decide)) d_X_add_81 (fun H locs hP hD hS => ?_)
          have hP : va_P D classes (wS50 cI cJ cZ cB p0 p1 p2 p3 p4 p5 p6 p7 p8 p9 p10 p11 p12 p13 p14 p15 p16 p17 p18 p19 p20 p21 p22 p23 p24 p25 x0_4 x0_5 x0_6 x0_7 x0_8 x0_12 x0_13 x0_14 x0_15 x0_16 x0_17 x0_18 x0_22 x0_23 x0_24 x0_25 x0_26 x0_27 x0_28 x0_29 x0_30 x0_31 x0_32 x0_36 x0_39 x0_40 x0_44 x0_49 x0_51 x0_53 x0_54 x0_55 x0_56 x0_57 x0_58 x0_59 x0_60 x0_61 x0_62 y1 y2 (upd y3 (a1).toNatClampNeg v85) y4 y5 y6 y7 y8 y9 y10 y11 y12 y13 y14 y15 y16 y17 y18 y19 y20 y21 y22 y23 y24 y25) H := hP
          have hD : va_D A (wS50 cI cJ cZ cB p0 p1 p2 p3 p4 p5 p6 p7 p8 p9 p10 p11 p12 p13 p14 p15 p16 p17 p18 p19 p20 p21 p22 p23 p24 p25 x0_4 x0_5 x0_6 x0_7 x0_8 x0_12 x0_13 x0_14 x0_15 x0_16 x0_17 x0_18 x0_22 x0_23 x0_24 x0_25 x0_26 x0_27 x0_28 x0_29 x0_30 x0_31 x0_32 x0_36 x0_39 x0_40 x0_44 x0_49 x0_51 x0_53 x0_54 x0_55 x0_56 x0_57 x0_58 x0_59 x0_60 x0_61 x0_62 y1 y2 (upd y3 (a1).toNatClampNeg v85) y4 y5 y6 y7 y8 y9 y10 y11 y12 y13 y14 y15 y16 y17 y18 y19 y20 y21 y22 y23 y24 y25) := hD
          obtain ⟨v86, hv86⟩ : ∃ y : Nat → Int32, y = (upd y3 (a1).toNatClampNeg v85) := ⟨_, rfl⟩
          rw [← hv86] at hP hD
          have Gv86 : (0 ≤ (v85).toInt ∧ (v85).toInt ≤ 1) := Rv85
          have Av86 : ∀ i : Nat, (0 ≤ (v86 i).toInt ∧ (v86 i).toInt ≤ 1) := by rw [hv86]; exact upd_all (P := fun i x => (0 ≤ (x).toInt ∧ (x).toInt ≤ 1)) Ay3 Gv86
          clear hv86
          refine lv_lload hx hb d_X_add_82 (lv_at hl 0 rfl) ?_
          refine lv_lconst (v := 0) hx hb d_X_add_84 (by decide) ?_
          refine W.lcmp hx hb d_X_add_85 ?_
          refine lv_topi (fun v87 hv87 => ?_)
          refine lv_if_ge (tgt := 95) hx hb d_X_add_86 (by decide) (fun c88 => ?_) (fun c88 => absurd (show (0 : Int32) ≤ v87 from (lcr_ge hv87 (kle (show 0 ≤ (0 : Int) ∧ (0 : Int) ≤ 0 from by decide) R84 (by decide)))) c88)
          refine lv_lload hx hb d_X_add_95 (lv_at hl 0 rfl) ?_
          refine lv_lstore (lv' := [(8, .long v78), (6, .long v78), (4, .long v74), (0, .ref p0), (1, .int a1), (2, .int a2), (3, .int a3)]) hx hb d_X_add_97 hl (by decide) rfl (fun ls hl => ?_)
          refine lv_lload hx hb d_X_add_99 (lv_at hl 0 rfl) ?_
          refine lv_ldc2 (v := 1073741824) hx hb hown (hk _ k_1461) d_X_add_101 ?_
          refine W.lcmp hx hb d_X_add_104 ?_
          refine lv_topi (fun v89 hv89 => ?_)
          refine lv_if_lt (tgt := 121) hx hb d_X_add_105 (by decide) (fun c90 => ?_) (fun c90 => absurd (show v89 < (0 : Int32) from (lcr_lt hv89 (klt R84 (show 1073741824 ≤ (1073741824 : Int) ∧ (1073741824 : Int) ≤ 1073741824 from by decide) (by decide)))) c90)
          refine lv_aload_n hx hb d_X_add_121 rfl (lv_at hl 3 rfl) ?_
          refine va_get (D := D) (ci := 7) (v := .ref p4) (C := "SignMachineModel") (T := F_X) (N := 64) hx hb hk fi_X hown hK.1 hP 0 rfl rfl 3 (by decide) (hk _ k_1124) (fun _ h9 => h9) rfl d_X_add_122 ?_
          refine lv_iload_n hx hb d_X_add_125 rfl (lv_at hl 4 rfl) ?_
          refine lv_lload hx hb d_X_add_126 (lv_at hl 0 rfl) ?_
          refine lv_l2i (v := (v78 : Int64).toInt32) hx hb d_X_add_128 rfl ?_
          refine lv_topi (fun v91 hv91 => ?_)
          obtain ⟨ev91, Rv91⟩ : v91.toInt = v78.toInt ∧ (0 ≤ v91.toInt ∧ v91.toInt ≤ 0) := li3 hv91 R84 (by decide) (by decide)
          refine va_iast hx hb hK.1 hP hD hS 4 0 rfl rfl (vpb Q2 (by decide) (by decide)) d_X_add_129 (fun H locs hP hD hS => ?_)
          have hP : va_P D classes (wS50 cI cJ cZ cB p0 p1 p2 p3 p4 p5 p6 p7 p8 p9 p10 p11 p12 p13 p14 p15 p16 p17 p18 p19 p20 p21 p22 p23 p24 p25 x0_4 x0_5 x0_6 x0_7 x0_8 x0_12 x0_13 x0_14 x0_15 x0_16 x0_17 x0_18 x0_22 x0_23 x0_24 x0_25 x0_26 x0_27 x0_28 x0_29 x0_30 x0_31 x0_32 x0_36 x0_39 x0_40 x0_44 x0_49 x0_51 x0_53 x0_54 x0_55 x0_56 x0_57 x0_58 x0_59 x0_60 x0_61 x0_62 y1 y2 v86 (upd y4 (a1).toNatClampNeg v91) y5 y6 y7 y8 y9 y10 y11 y12 y13 y14 y15 y16 y17 y18 y19 y20 y21 y22 y23 y24 y25) H := hP
          have hD : va_D A (wS50 cI cJ cZ cB p0 p1 p2 p3 p4 p5 p6 p7 p8 p9 p10 p11 p12 p13 p14 p15 p16 p17 p18 p19 p20 p21 p22 p23 p24 p25 x0_4 x0_5 x0_6 x0_7 x0_8 x0_12 x0_13 x0_14 x0_15 x0_16 x0_17 x0_18 x0_22 x0_23 x0_24 x0_25 x0_26 x0_27 x0_28 x0_29 x0_30 x0_31 x0_32 x0_36 x0_39 x0_40 x0_44 x0_49 x0_51 x0_53 x0_54 x0_55 x0_56 x0_57 x0_58 x0_59 x0_60 x0_61 x0_62 y1 y2 v86 (upd y4 (a1).toNatClampNeg v91) y5 y6 y7 y8 y9 y10 y11 y12 y13 y14 y15 y16 y17 y18 y19 y20 y21 y22 y23 y24 y25) := hD
          obtain ⟨v92, hv92⟩ : ∃ y : Nat → Int32, y = (upd y4 (a1).toNatClampNeg v91) := ⟨_, rfl⟩
          rw [← hv92] at hP hD
          have : (((a1).toNatClampNeg : Nat) : Int) = a1.toInt := ti_n Q2 (by decide)
          have Gv92 : ((0 ≤ (v91).toInt ∧ (v91).toInt ≤ 1073741823) ∧ ((1 ≤ (((a1).toNatClampNeg : Nat) : Int) ∧ (((a1).toNatClampNeg : Nat) : Int) ≤ 6) → (v91).toInt ≤ 4095)) := by refine ⟨by omega, ?_⟩; omega
          have Av92 : ∀ i : Nat, ((0 ≤ (v92 i).toInt ∧ (v92 i).toInt ≤ 1073741823) ∧ ((1 ≤ (i : Int) ∧ (i : Int) ≤ 6) → (v92 i).toInt ≤ 4095)) := by rw [hv92]; exact upd_all (P := fun i x => ((0 ≤ (x).toInt ∧ (x).toInt ≤ 1073741823) ∧ ((1 ≤ (i : Int) ∧ (i : Int) ≤ 6) → (x).toInt ≤ 4095))) Ay4 Gv92
          clear hv92
          exact W.vret hx hb hr (fun t ht hW => ⟨⟨(), rfl, trivial, ⟨x0_5, v86, v92, Av86, Av92, by show va_P D classes _ t.heap; rw [ht]; exact hP, hD⟩⟩, hS.F ht⟩) hS.2.2 d_X_add_130
        · have gc83 : (0 : Int) < v78.toInt := lc_nle hv82 c83
          have R93 : 1 ≤ v78.toInt ∧ v78.toInt ≤ 1073741823 := rf_gtX R81 (show 0 ≤ (0 : Int) ∧ (0 : Int) ≤ 0 from by decide) gc83 (by decide) (by decide)
          refine lv_iconst (v := 0) hx hb d_X_add_71 (by decide) ?_
          refine lv_goto (tgt := 81) hx hb d_X_add_72 (by decide) ?_
          refine va_iast hx hb hK.1 hP hD hS 3 0 rfl rfl (vpb Q2 (by decide) (by decide)) d_X_add_81 (fun H locs hP hD hS => ?_)
          have hP : va_P D classes (wS50 cI cJ cZ cB p0 p1 p2 p3 p4 p5 p6 p7 p8 p9 p10 p11 p12 p13 p14 p15 p16 p17 p18 p19 p20 p21 p22 p23 p24 p25 x0_4 x0_5 x0_6 x0_7 x0_8 x0_12 x0_13 x0_14 x0_15 x0_16 x0_17 x0_18 x0_22 x0_23 x0_24 x0_25 x0_26 x0_27 x0_28 x0_29 x0_30 x0_31 x0_32 x0_36 x0_39 x0_40 x0_44 x0_49 x0_51 x0_53 x0_54 x0_55 x0_56 x0_57 x0_58 x0_59 x0_60 x0_61 x0_62 y1 y2 (upd y3 (a1).toNatClampNeg (0 : Int32)) y4 y5 y6 y7 y8 y9 y10 y11 y12 y13 y14 y15 y16 y17 y18 y19 y20 y21 y22 y23 y24 y25) H := hP
          have hD : va_D A (wS50 cI cJ cZ cB p0 p1 p2 p3 p4 p5 p6 p7 p8 p9 p10 p11 p12 p13 p14 p15 p16 p17 p18 p19 p20 p21 p22 p23 p24 p25 x0_4 x0_5 x0_6 x0_7 x0_8 x0_12 x0_13 x0_14 x0_15 x0_16 x0_17 x0_18 x0_22 x0_23 x0_24 x0_25 x0_26 x0_27 x0_28 x0_29 x0_30 x0_31 x0_32 x0_36 x0_39 x0_40 x0_44 x0_49 x0_51 x0_53 x0_54 x0_55 x0_56 x0_57 x0_58 x0_59 x0_60 x0_61 x0_62 y1 y2 (upd y3 (a1).toNatClampNeg (0 : Int32)) y4 y5 y6 y7 y8 y9 y10 y11 y12 y13 y14 y15 y16 y17 y18 y19 y20 y21 y22 y23 y24 y25) := hD
          obtain ⟨v94, hv94⟩ : ∃ y : Nat → Int32, y = (upd y3 (a1).toNatClampNeg (0 : Int32)) := ⟨_, rfl⟩
          rw [← hv94] at hP hD
          have Gv94 : (0 ≤ ((0 : Int32)).toInt ∧ ((0 : Int32)).toInt ≤ 1) := (by decide)
          have Av94 : ∀ i : Nat, (0 ≤ (v94 i).toInt ∧ (v94 i).toInt ≤ 1) := by rw [hv94]; exact upd_all (P := fun i x => (0 ≤ (x).toInt ∧ (x).toInt ≤ 1)) Ay3 Gv94
          clear hv94
          refine lv_lload hx hb d_X_add_82 (lv_at hl 0 rfl) ?_
          refine lv_lconst (v := 0) hx hb d_X_add_84 (by decide) ?_
          refine W.lcmp hx hb d_X_add_85 ?_
          refine lv_topi (fun v95 hv95 => ?_)
          refine lv_if_ge (tgt := 95) hx hb d_X_add_86 (by decide) (fun c96 => ?_) (fun c96 => absurd (show (0 : Int32) ≤ v95 from (lcr_ge hv95 (kle (show 0 ≤ (0 : Int) ∧ (0 : Int) ≤ 0 from by decide) R93 (by decide)))) c96)
          refine lv_lload hx hb d_X_add_95 (lv_at hl 0 rfl) ?_
          refine lv_lstore (lv' := [(8, .long v78), (6, .long v78), (4, .long v74), (0, .ref p0), (1, .int a1), (2, .int a2), (3, .int a3)]) hx hb d_X_add_97 hl (by decide) rfl (fun ls hl => ?_)
          refine lv_lload hx hb d_X_add_99 (lv_at hl 0 rfl) ?_
          refine lv_ldc2 (v := 1073741824) hx hb hown (hk _ k_1461) d_X_add_101 ?_
          refine W.lcmp hx hb d_X_add_104 ?_
          refine lv_topi (fun v97 hv97 => ?_)
          refine lv_if_lt (tgt := 121) hx hb d_X_add_105 (by decide) (fun c98 => ?_) (fun c98 => absurd (show v97 < (0 : Int32) from (lcr_lt hv97 (klt R93 (show 1073741824 ≤ (1073741824 : Int) ∧ (1073741824 : Int) ≤ 1073741824 from by decide) (by decide)))) c98)
          refine lv_aload_n hx hb d_X_add_121 rfl (lv_at hl 3 rfl) ?_
          refine va_get (D := D) (ci := 7) (v := .ref p4) (C := "SignMachineModel") (T := F_X) (N := 64) hx hb hk fi_X hown hK.1 hP 0 rfl rfl 3 (by decide) (hk _ k_1124) (fun _ h9 => h9) rfl d_X_add_122 ?_
          refine lv_iload_n hx hb d_X_add_125 rfl (lv_at hl 4 rfl) ?_
          refine lv_lload hx hb d_X_add_126 (lv_at hl 0 rfl) ?_
          refine lv_l2i (v := (v78 : Int64).toInt32) hx hb d_X_add_128 rfl ?_
          refine lv_topi (fun v99 hv99 => ?_)
          obtain ⟨ev99, Rv99⟩ : v99.toInt = v78.toInt ∧ (1 ≤ v99.toInt ∧ v99.toInt ≤ 1073741823) := li3 hv99 R93 (by decide) (by decide)
          refine va_iast hx hb hK.1 hP hD hS 4 0 rfl rfl (vpb Q2 (by decide) (by decide)) d_X_add_129 (fun H locs hP hD hS => ?_)
          have hP : va_P D classes (wS50 cI cJ cZ cB p0 p1 p2 p3 p4 p5 p6 p7 p8 p9 p10 p11 p12 p13 p14 p15 p16 p17 p18 p19 p20 p21 p22 p23 p24 p25 x0_4 x0_5 x0_6 x0_7 x0_8 x0_12 x0_13 x0_14 x0_15 x0_16 x0_17 x0_18 x0_22 x0_23 x0_24 x0_25 x0_26 x0_27 x0_28 x0_29 x0_30 x0_31 x0_32 x0_36 x0_39 x0_40 x0_44 x0_49 x0_51 x0_53 x0_54 x0_55 x0_56 x0_57 x0_58 x0_59 x0_60 x0_61 x0_62 y1 y2 v94 (upd y4 (a1).toNatClampNeg v99) y5 y6 y7 y8 y9 y10 y11 y12 y13 y14 y15 y16 y17 y18 y19 y20 y21 y22 y23 y24 y25) H := hP
          have hD : va_D A (wS50 cI cJ cZ cB p0 p1 p2 p3 p4 p5 p6 p7 p8 p9 p10 p11 p12 p13 p14 p15 p16 p17 p18 p19 p20 p21 p22 p23 p24 p25 x0_4 x0_5 x0_6 x0_7 x0_8 x0_12 x0_13 x0_14 x0_15 x0_16 x0_17 x0_18 x0_22 x0_23 x0_24 x0_25 x0_26 x0_27 x0_28 x0_29 x0_30 x0_31 x0_32 x0_36 x0_39 x0_40 x0_44 x0_49 x0_51 x0_53 x0_54 x0_55 x0_56 x0_57 x0_58 x0_59 x0_60 x0_61 x0_62 y1 y2 v94 (upd y4 (a1).toNatClampNeg v99) y5 y6 y7 y8 y9 y10 y11 y12 y13 y14 y15 y16 y17 y18 y19 y20 y21 y22 y23 y24 y25) := hD
          obtain ⟨v100, hv100⟩ : ∃ y : Nat → Int32, y = (upd y4 (a1).toNatClampNeg v99) := ⟨_, rfl⟩
          rw [← hv100] at hP hD
          have : (((a1).toNatClampNeg : Nat) : Int) = a1.toInt := ti_n Q2 (by decide)
          have Gv100 : ((0 ≤ (v99).toInt ∧ (v99).toInt ≤ 1073741823) ∧ ((1 ≤ (((a1).toNatClampNeg : Nat) : Int) ∧ (((a1).toNatClampNeg : Nat) : Int) ≤ 6) → (v99).toInt ≤ 4095)) := by refine ⟨by omega, ?_⟩; omega
          have Av100 : ∀ i : Nat, ((0 ≤ (v100 i).toInt ∧ (v100 i).toInt ≤ 1073741823) ∧ ((1 ≤ (i : Int) ∧ (i : Int) ≤ 6) → (v100 i).toInt ≤ 4095)) := by rw [hv100]; exact upd_all (P := fun i x => ((0 ≤ (x).toInt ∧ (x).toInt ≤ 1073741823) ∧ ((1 ≤ (i : Int) ∧ (i : Int) ≤ 6) → (x).toInt ≤ 4095))) Ay4 Gv100
          clear hv100
          exact W.vret hx hb hr (fun t ht hW => ⟨⟨(), rfl, trivial, ⟨x0_5, v94, v100, Av94, Av100, by show va_P D classes _ t.heap; rw [ht]; exact hP, hD⟩⟩, hS.F ht⟩) hS.2.2 d_X_add_130
      · have gc80 : v78.toInt < (0 : Int) := lc_nge hv79 c80
        have R101 : (-1073741823) ≤ v78.toInt ∧ v78.toInt ≤ (-1) := rf_ltX Rv78 (show 0 ≤ (0 : Int) ∧ (0 : Int) ≤ 0 from by decide) gc80 (by decide) (by decide)
        refine lv_iconst (v := 1) hx hb d_X_add_60 (by decide) ?_
        refine lv_goto (tgt := 81) hx hb d_X_add_61 (by decide) ?_
        refine va_iast hx hb hK.1 hP hD hS 3 0 rfl rfl (vpb Q2 (by decide) (by decide)) d_X_add_81 (fun H locs hP hD hS => ?_)
        have hP : va_P D classes (wS50 cI cJ cZ cB p0 p1 p2 p3 p4 p5 p6 p7 p8 p9 p10 p11 p12 p13 p14 p15 p16 p17 p18 p19 p20 p21 p22 p23 p24 p25 x0_4 x0_5 x0_6 x0_7 x0_8 x0_12 x0_13 x0_14 x0_15 x0_16 x0_17 x0_18 x0_22 x0_23 x0_24 x0_25 x0_26 x0_27 x0_28 x0_29 x0_30 x0_31 x0_32 x0_36 x0_39 x0_40 x0_44 x0_49 x0_51 x0_53 x0_54 x0_55 x0_56 x0_57 x0_58 x0_59 x0_60 x0_61 x0_62 y1 y2 (upd y3 (a1).toNatClampNeg (1 : Int32)) y4 y5 y6 y7 y8 y9 y10 y11 y12 y13 y14 y15 y16 y17 y18 y19 y20 y21 y22 y23 y24 y25) H := hP
        have hD : va_D A (wS50 cI cJ cZ cB p0 p1 p2 p3 p4 p5 p6 p7 p8 p9 p10 p11 p12 p13 p14 p15 p16 p17 p18 p19 p20 p21 p22 p23 p24 p25 x0_4 x0_5 x0_6 x0_7 x0_8 x0_12 x0_13 x0_14 x0_15 x0_16 x0_17 x0_18 x0_22 x0_23 x0_24 x0_25 x0_26 x0_27 x0_28 x0_29 x0_30 x0_31 x0_32 x0_36 x0_39 x0_40 x0_44 x0_49 x0_51 x0_53 x0_54 x0_55 x0_56 x0_57 x0_58 x0_59 x0_60 x0_61 x0_62 y1 y2 (upd y3 (a1).toNatClampNeg (1 : Int32)) y4 y5 y6 y7 y8 y9 y10 y11 y12 y13 y14 y15 y16 y17 y18 y19 y20 y21 y22 y23 y24 y25) := hD
        obtain ⟨v102, hv102⟩ : ∃ y : Nat → Int32, y = (upd y3 (a1).toNatClampNeg (1 : Int32)) := ⟨_, rfl⟩
        rw [← hv102] at hP hD
        have Gv102 : (0 ≤ ((1 : Int32)).toInt ∧ ((1 : Int32)).toInt ≤ 1) := (by decide)
        have Av102 : ∀ i : Nat, (0 ≤ (v102 i).toInt ∧ (v102 i).toInt ≤ 1) := by rw [hv102]; exact upd_all (P := fun i x => (0 ≤ (x).toInt ∧ (x).toInt ≤ 1)) Ay3 Gv102
        clear hv102
        refine lv_lload hx hb d_X_add_82 (lv_at hl 0 rfl) ?_
        refine lv_lconst (v := 0) hx hb d_X_add_84 (by decide) ?_
        refine W.lcmp hx hb d_X_add_85 ?_
        refine lv_topi (fun v103 hv103 => ?_)
        refine lv_if_ge (tgt := 95) hx hb d_X_add_86 (by decide) (fun c104 => absurd c104 (show ¬ (0 : Int32) ≤ v103 from (lcr_nge hv103 (klt R101 (show 0 ≤ (0 : Int) ∧ (0 : Int) ≤ 0 from by decide) (by decide))))) (fun c104 => ?_)
        refine lv_lload hx hb d_X_add_89 (lv_at hl 0 rfl) ?_
        refine lv_lneg hx hb d_X_add_91 ?_
        refine lv_topl (fun v105 hv105 => ?_)
        obtain ⟨ev105, Rv105⟩ : v105.toInt = -v78.toInt ∧ (1 ≤ v105.toInt ∧ v105.toInt ≤ 1073741823) := ng6 hv105 R101 (by decide) (by decide) (by decide) (by decide)
        refine lv_goto (tgt := 97) hx hb d_X_add_92 (by decide) ?_
        refine lv_lstore (lv' := [(8, .long v105), (6, .long v78), (4, .long v74), (0, .ref p0), (1, .int a1), (2, .int a2), (3, .int a3)]) hx hb d_X_add_97 hl (by decide) rfl (fun ls hl => ?_)
        refine lv_lload hx hb d_X_add_99 (lv_at hl 0 rfl) ?_
        refine lv_ldc2 (v := 1073741824) hx hb hown (hk _ k_1461) d_X_add_101 ?_
        refine W.lcmp hx hb d_X_add_104 ?_
        refine lv_topi (fun v106 hv106 => ?_)
        refine lv_if_lt (tgt := 121) hx hb d_X_add_105 (by decide) (fun c107 => ?_) (fun c107 => absurd (show v106 < (0 : Int32) from (lcr_lt hv106 (klt Rv105 (show 1073741824 ≤ (1073741824 : Int) ∧ (1073741824 : Int) ≤ 1073741824 from by decide) (by decide)))) c107)
        refine lv_aload_n hx hb d_X_add_121 rfl (lv_at hl 3 rfl) ?_
        refine va_get (D := D) (ci := 7) (v := .ref p4) (C := "SignMachineModel") (T := F_X) (N := 64) hx hb hk fi_X hown hK.1 hP 0 rfl rfl 3 (by decide) (hk _ k_1124) (fun _ h9 => h9) rfl d_X_add_122 ?_
        refine lv_iload_n hx hb d_X_add_125 rfl (lv_at hl 4 rfl) ?_
        refine lv_lload hx hb d_X_add_126 (lv_at hl 0 rfl) ?_
        refine lv_l2i (v := (v105 : Int64).toInt32) hx hb d_X_add_128 rfl ?_
        refine lv_topi (fun v108 hv108 => ?_)
        obtain ⟨ev108, Rv108⟩ : v108.toInt = v105.toInt ∧ (1 ≤ v108.toInt ∧ v108.toInt ≤ 1073741823) := li3 hv108 Rv105 (by decide) (by decide)
        refine va_iast hx hb hK.1 hP hD hS 4 0 rfl rfl (vpb Q2 (by decide) (by decide)) d_X_add_129 (fun H locs hP hD hS => ?_)
        have hP : va_P D classes (wS50 cI cJ cZ cB p0 p1 p2 p3 p4 p5 p6 p7 p8 p9 p10 p11 p12 p13 p14 p15 p16 p17 p18 p19 p20 p21 p22 p23 p24 p25 x0_4 x0_5 x0_6 x0_7 x0_8 x0_12 x0_13 x0_14 x0_15 x0_16 x0_17 x0_18 x0_22 x0_23 x0_24 x0_25 x0_26 x0_27 x0_28 x0_29 x0_30 x0_31 x0_32 x0_36 x0_39 x0_40 x0_44 x0_49 x0_51 x0_53 x0_54 x0_55 x0_56 x0_57 x0_58 x0_59 x0_60 x0_61 x0_62 y1 y2 v102 (upd y4 (a1).toNatClampNeg v108) y5 y6 y7 y8 y9 y10 y11 y12 y13 y14 y15 y16 y17 y18 y19 y20 y21 y22 y23 y24 y25) H := hP
        have hD : va_D A (wS50 cI cJ cZ cB p0 p1 p2 p3 p4 p5 p6 p7 p8 p9 p10 p11 p12 p13 p14 p15 p16 p17 p18 p19 p20 p21 p22 p23 p24 p25 x0_4 x0_5 x0_6 x0_7 x0_8 x0_12 x0_13 x0_14 x0_15 x0_16 x0_17 x0_18 x0_22 x0_23 x0_24 x0_25 x0_26 x0_27 x0_28 x0_29 x0_30 x0_31 x0_32 x0_36 x0_39 x0_40 x0_44 x0_49 x0_51 x0_53 x0_54 x0_55 x0_56 x0_57 x0_58 x0_59 x0_60 x0_61 x0_62 y1 y2 v102 (upd y4 (a1).toNatClampNeg v108) y5 y6 y7 y8 y9 y10 y11 y12 y13 y14 y15 y16 y17 y18 y19 y20 y21 y22 y23 y24 y25) := hD
        obtain ⟨v109, hv109⟩ : ∃ y : Nat → Int32, y = (upd y4 (a1).toNatClampNeg v108) := ⟨_, rfl⟩
        rw [← hv109] at hP hD
        have : (((a1).toNatClampNeg : Nat) : Int) = a1.toInt := ti_n Q2 (by decide)
        have Gv109 : ((0 ≤ (v108).toInt ∧ (v108).toInt ≤ 1073741823) ∧ ((1 ≤ (((a1).toNatClampNeg : Nat) : Int) ∧ (((a1).toNatClampNeg : Nat) : Int) ≤ 6) → (v108).toInt ≤ 4095)) := by refine ⟨by omega, ?_⟩; omega
        have Av109 : ∀ i : Nat, ((0 ≤ (v109 i).toInt ∧ (v109 i).toInt ≤ 1073741823) ∧ ((1 ≤ (i : Int) ∧ (i : Int) ≤ 6) → (v109 i).toInt ≤ 4095)) := by rw [hv109]; exact upd_all (P := fun i x => ((0 ≤ (x).toInt ∧ (x).toInt ≤ 1073741823) ∧ ((1 ≤ (i : Int) ∧ (i : Int) ≤ 6) → (x).toInt ≤ 4095))) Ay4 Gv109
        clear hv109
        exact W.vret hx hb hr (fun t ht hW => ⟨⟨(), rfl, trivial, ⟨x0_5, v102, v109, Av102, Av109, by show va_P D classes _ t.heap; rw [ht]; exact hP, hD⟩⟩, hS.F ht⟩) hS.2.2 d_X_add_130
    · have gc75 : a2.toInt = (1 : Int) := c_eq c75
      have R110 : 1 ≤ a2.toInt ∧ a2.toInt ≤ 1 := rf_eqX Q3 (show 1 ≤ (1 : Int) ∧ (1 : Int) ≤ 1 from by decide) gc75 (by decide) (by decide)
      refine lv_iload_n hx hb d_X_add_37 rfl (lv_at hl 4 rfl) ?_
      refine lv_i2l (v := (a3 : Int32).toInt64) hx hb d_X_add_38 rfl ?_
      refine lv_topl (fun v111 hv111 => ?_)
      obtain ⟨ev111, Rv111⟩ : v111.toInt = a3.toInt ∧ (0 ≤ v111.toInt ∧ v111.toInt ≤ 1073741823) := il3 hv111 Q4
      refine lv_lneg hx hb d_X_add_39 ?_
      refine lv_topl (fun v112 hv112 => ?_)
      obtain ⟨ev112, Rv112⟩ : v112.toInt = -v111.toInt ∧ ((-1073741823) ≤ v112.toInt ∧ v112.toInt ≤ 0) := ng6 hv112 Rv111 (by decide) (by decide) (by decide) (by decide)
      refine lv_goto (tgt := 45) hx hb d_X_add_40 (by decide) ?_
      refine lv_ladd hx hb d_X_add_45 ?_
      refine lv_topl (fun v113 hv113 => ?_)
      obtain ⟨ev113, Rv113⟩ : v113.toInt = v74.toInt + v112.toInt ∧ ((-2147483646) ≤ v113.toInt ∧ v113.toInt ≤ 0) := ad6 hv113 Rv74 Rv112 (by decide) (by decide) (by decide) (by decide)
      refine lv_lstore (lv' := [(6, .long v113), (4, .long v74), (0, .ref p0), (1, .int a1), (2, .int a2), (3, .int a3)]) hx hb d_X_add_46 hl (by decide) rfl (fun ls hl => ?_)
      refine lv_aload_n hx hb d_X_add_48 rfl (lv_at hl 2 rfl) ?_
      refine va_get (D := D) (ci := 7) (v := .ref p3) (C := "SignMachineModel") (T := F_X) (N := 64) hx hb hk fi_X hown hK.1 hP 0 rfl rfl 2 (by decide) (hk _ k_1123) (fun _ h9 => h9) rfl d_X_add_49 ?_
      refine lv_iload_n hx hb d_X_add_52 rfl (lv_at hl 3 rfl) ?_
      refine lv_lload hx hb d_X_add_53 (lv_at hl 0 rfl) ?_
      refine lv_lconst (v := 0) hx hb d_X_add_55 (by decide) ?_
      refine W.lcmp hx hb d_X_add_56 ?_
      refine lv_topi (fun v114 hv114 => ?_)
      refine lv_if_ge (tgt := 64) hx hb d_X_add_57 (by decide) (fun c115 => ?_) (fun c115 => ?_)
      · have gc115 : (0 : Int) ≤ v113.toInt := lc_ge hv114 c115
        have R116 : 0 ≤ v113.toInt ∧ v113.toInt ≤ 0 := rf_geX Rv113 (show 0 ≤ (0 : Int) ∧ (0 : Int) ≤ 0 from by decide) gc115 (by decide) (by decide)
        refine lv_lload hx hb d_X_add_64 (lv_at hl 0 rfl) ?_
        refine lv_lconst (v := 0) hx hb d_X_add_66 (by decide) ?_
        refine W.lcmp hx hb d_X_add_67 ?_
        refine lv_topi (fun v117 hv117 => ?_)
        refine lv_if_le (tgt := 75) hx hb d_X_add_68 (by decide) (fun c118 => ?_) (fun c118 => absurd (show v117 ≤ (0 : Int32) from (lcr_le hv117 (kle R116 (show 0 ≤ (0 : Int) ∧ (0 : Int) ≤ 0 from by decide) (by decide)))) c118)
        refine lv_aload_n hx hb d_X_add_75 rfl (lv_at hl 2 rfl) ?_
        refine va_get (D := D) (ci := 7) (v := .ref p3) (C := "SignMachineModel") (T := F_X) (N := 64) hx hb hk fi_X hown hK.1 hP 0 rfl rfl 2 (by decide) (hk _ k_1123) (fun _ h9 => h9) rfl d_X_add_76 ?_
        refine lv_iload_n hx hb d_X_add_79 rfl (lv_at hl 3 rfl) ?_
        refine va_iald hx hb hK.1 hP 3 0 rfl rfl (vpb Q2 (by decide) (by decide)) d_X_add_80 ?_
        refine lv_topi (fun v119 hv119 => ?_)
        have Tv119 : v119.toInt = (y3 (a1).toNatClampNeg).toInt := congrArg _ hv119
        have Rv119 := Ay3 (a1).toNatClampNeg
        rw [← hv119] at Rv119
        refine va_iast hx hb hK.1 hP hD hS 3 0 rfl rfl (vpb Q2 (by decide) (by decide)) d_X_add_81 (fun H locs hP hD hS => ?_)
        have hP : va_P D classes (wS50 cI cJ cZ cB p0 p1 p2 p3 p4 p5 p6 p7 p8 p9 p10 p11 p12 p13 p14 p15 p16 p17 p18 p19 p20 p21 p22 p23 p24 p25 x0_4 x0_5 x0_6 x0_7 x0_8 x0_12 x0_13 x0_14 x0_15 x0_16 x0_17 x0_18 x0_22 x0_23 x0_24 x0_25 x0_26 x0_27 x0_28 x0_29 x0_30 x0_31 x0_32 x0_36 x0_39 x0_40 x0_44 x0_49 x0_51 x0_53 x0_54 x0_55 x0_56 x0_57 x0_58 x0_59 x0_60 x0_61 x0_62 y1 y2 (upd y3 (a1).toNatClampNeg v119) y4 y5 y6 y7 y8 y9 y10 y11 y12 y13 y14 y15 y16 y17 y18 y19 y20 y21 y22 y23 y24 y25) H := hP
        have hD : va_D A (wS50 cI cJ cZ cB p0 p1 p2 p3 p4 p5 p6 p7 p8 p9 p10 p11 p12 p13 p14 p15 p16 p17 p18 p19 p20 p21 p22 p23 p24 p25 x0_4 x0_5 x0_6 x0_7 x0_8 x0_12 x0_13 x0_14 x0_15 x0_16 x0_17 x0_18 x0_22 x0_23 x0_24 x0_25 x0_26 x0_27 x0_28 x0_29 x0_30 x0_31 x0_32 x0_36 x0_39 x0_40 x0_44 x0_49 x0_51 x0_53 x0_54 x0_55 x0_56 x0_57 x0_58 x0_59 x0_60 x0_61 x0_62 y1 y2 (upd y3 (a1).toNatClampNeg v119) y4 y5 y6 y7 y8 y9 y10 y11 y12 y13 y14 y15 y16 y17 y18 y19 y20 y21 y22 y23 y24 y25) := hD
        obtain ⟨v120, hv120⟩ : ∃ y : Nat → Int32, y = (upd y3 (a1).toNatClampNeg v119) := ⟨_, rfl⟩
        rw [← hv120] at hP hD
        have Gv120 : (0 ≤ (v119).toInt ∧ (v119).toInt ≤ 1) := Rv119
        have Av120 : ∀ i : Nat, (0 ≤ (v120 i).toInt ∧ (v120 i).toInt ≤ 1) := by rw [hv120]; exact upd_all (P := fun i x => (0 ≤ (x).toInt ∧ (x).toInt ≤ 1)) Ay3 Gv120
        clear hv120
        refine lv_lload hx hb d_X_add_82 (lv_at hl 0 rfl) ?_
        refine lv_lconst (v := 0) hx hb d_X_add_84 (by decide) ?_
        refine W.lcmp hx hb d_X_add_85 ?_
        refine lv_topi (fun v121 hv121 => ?_)
        refine lv_if_ge (tgt := 95) hx hb d_X_add_86 (by decide) (fun c122 => ?_) (fun c122 => absurd (show (0 : Int32) ≤ v121 from (lcr_ge hv121 (kle (show 0 ≤ (0 : Int) ∧ (0 : Int) ≤ 0 from by decide) R116 (by decide)))) c122)
        refine lv_lload hx hb d_X_add_95 (lv_at hl 0 rfl) ?_
        refine lv_lstore (lv' := [(8, .long v113), (6, .long v113), (4, .long v74), (0, .ref p0), (1, .int a1), (2, .int a2), (3, .int a3)]) hx hb d_X_add_97 hl (by decide) rfl (fun ls hl => ?_)
        refine lv_lload hx hb d_X_add_99 (lv_at hl 0 rfl) ?_
        refine lv_ldc2 (v := 1073741824) hx hb hown (hk _ k_1461) d_X_add_101 ?_
        refine W.lcmp hx hb d_X_add_104 ?_
        refine lv_topi (fun v123 hv123 => ?_)
        refine lv_if_lt (tgt := 121) hx hb d_X_add_105 (by decide) (fun c124 => ?_) (fun c124 => absurd (show v123 < (0 : Int32) from (lcr_lt hv123 (klt R116 (show 1073741824 ≤ (1073741824 : Int) ∧ (1073741824 : Int) ≤ 1073741824 from by decide) (by decide)))) c124)
        refine lv_aload_n hx hb d_X_add_121 rfl (lv_at hl 3 rfl) ?_
        refine va_get (D := D) (ci := 7) (v := .ref p4) (C := "SignMachineModel") (T := F_X) (N := 64) hx hb hk fi_X hown hK.1 hP 0 rfl rfl 3 (by decide) (hk _ k_1124) (fun _ h9 => h9) rfl d_X_add_122 ?_
        refine lv_iload_n hx hb d_X_add_125 rfl (lv_at hl 4 rfl) ?_
        refine lv_lload hx hb d_X_add_126 (lv_at hl 0 rfl) ?_
        refine lv_l2i (v := (v113 : Int64).toInt32) hx hb d_X_add_128 rfl ?_
        refine lv_topi (fun v125 hv125 => ?_)
        obtain ⟨ev125, Rv125⟩ : v125.toInt = v113.toInt ∧ (0 ≤ v125.toInt ∧ v125.toInt ≤ 0) := li3 hv125 R116 (by decide) (by decide)
        refine va_iast hx hb hK.1 hP hD hS 4 0 rfl rfl (vpb Q2 (by decide) (by decide)) d_X_add_129 (fun H locs hP hD hS => ?_)
        have hP : va_P D classes (wS50 cI cJ cZ cB p0 p1 p2 p3 p4 p5 p6 p7 p8 p9 p10 p11 p12 p13 p14 p15 p16 p17 p18 p19 p20 p21 p22 p23 p24 p25 x0_4 x0_5 x0_6 x0_7 x0_8 x0_12 x0_13 x0_14 x0_15 x0_16 x0_17 x0_18 x0_22 x0_23 x0_24 x0_25 x0_26 x0_27 x0_28 x0_29 x0_30 x0_31 x0_32 x0_36 x0_39 x0_40 x0_44 x0_49 x0_51 x0_53 x0_54 x0_55 x0_56 x0_57 x0_58 x0_59 x0_60 x0_61 x0_62 y1 y2 v120 (upd y4 (a1).toNatClampNeg v125) y5 y6 y7 y8 y9 y10 y11 y12 y13 y14 y15 y16 y17 y18 y19 y20 y21 y22 y23 y24 y25) H := hP
        have hD : va_D A (wS50 cI cJ cZ cB p0 p1 p2 p3 p4 p5 p6 p7 p8 p9 p10 p11 p12 p13 p14 p15 p16 p17 p18 p19 p20 p21 p22 p23 p24 p25 x0_4 x0_5 x0_6 x0_7 x0_8 x0_12 x0_13 x0_14 x0_15 x0_16 x0_17 x0_18 x0_22 x0_23 x0_24 x0_25 x0_26 x0_27 x0_28 x0_29 x0_30 x0_31 x0_32 x0_36 x0_39 x0_40 x0_44 x0_49 x0_51 x0_53 x0_54 x0_55 x0_56 x0_57 x0_58 x0_59 x0_60 x0_61 x0_62 y1 y2 v120 (upd y4 (a1).toNatClampNeg v125) y5 y6 y7 y8 y9 y10 y11 y12 y13 y14 y15 y16 y17 y18 y19 y20 y21 y22 y23 y24 y25) := hD
        obtain ⟨v126, hv126⟩ : ∃ y : Nat → Int32, y = (upd y4 (a1).toNatClampNeg v125) := ⟨_, rfl⟩
        rw [← hv126] at hP hD
        have : (((a1).toNatClampNeg : Nat) : Int) = a1.toInt := ti_n Q2 (by decide)
        have Gv126 : ((0 ≤ (v125).toInt ∧ (v125).toInt ≤ 1073741823) ∧ ((1 ≤ (((a1).toNatClampNeg : Nat) : Int) ∧ (((a1).toNatClampNeg : Nat) : Int) ≤ 6) → (v125).toInt ≤ 4095)) := by refine ⟨by omega, ?_⟩; omega
        have Av126 : ∀ i : Nat, ((0 ≤ (v126 i).toInt ∧ (v126 i).toInt ≤ 1073741823) ∧ ((1 ≤ (i : Int) ∧ (i : Int) ≤ 6) → (v126 i).toInt ≤ 4095)) := by rw [hv126]; exact upd_all (P := fun i x => ((0 ≤ (x).toInt ∧ (x).toInt ≤ 1073741823) ∧ ((1 ≤ (i : Int) ∧ (i : Int) ≤ 6) → (x).toInt ≤ 4095))) Ay4 Gv126
        clear hv126
        exact W.vret hx hb hr (fun t ht hW => ⟨⟨(), rfl, trivial, ⟨x0_5, v120, v126, Av120, Av126, by show va_P D classes _ t.heap; rw [ht]; exact hP, hD⟩⟩, hS.F ht⟩) hS.2.2 d_X_add_130
      · have gc115 : v113.toInt < (0 : Int) := lc_nge hv114 c115
        have R127 : (-2147483646) ≤ v113.toInt ∧ v113.toInt ≤ (-1) := rf_ltX Rv113 (show 0 ≤ (0 : Int) ∧ (0 : Int) ≤ 0 from by decide) gc115 (by decide) (by decide)
        refine lv_iconst (v := 1) hx hb d_X_add_60 (by decide) ?_
        refine lv_goto (tgt := 81) hx hb d_X_add_61 (by decide) ?_
        refine va_iast hx hb hK.1 hP hD hS 3 0 rfl rfl (vpb Q2 (by decide) (by decide)) d_X_add_81 (fun H locs hP hD hS => ?_)
        have hP : va_P D classes (wS50 cI cJ cZ cB p0 p1 p2 p3 p4 p5 p6 p7 p8 p9 p10 p11 p12 p13 p14 p15 p16 p17 p18 p19 p20 p21 p22 p23 p24 p25 x0_4 x0_5 x0_6 x0_7 x0_8 x0_12 x0_13 x0_14 x0_15 x0_16 x0_17 x0_18 x0_22 x0_23 x0_24 x0_25 x0_26 x0_27 x0_28 x0_29 x0_30 x0_31 x0_32 x0_36 x0_39 x0_40 x0_44 x0_49 x0_51 x0_53 x0_54 x0_55 x0_56 x0_57 x0_58 x0_59 x0_60 x0_61 x0_62 y1 y2 (upd y3 (a1).toNatClampNeg (1 : Int32)) y4 y5 y6 y7 y8 y9 y10 y11 y12 y13 y14 y15 y16 y17 y18 y19 y20 y21 y22 y23 y24 y25) H := hP
        have hD : va_D A (wS50 cI cJ cZ cB p0 p1 p2 p3 p4 p5 p6 p7 p8 p9 p10 p11 p12 p13 p14 p15 p16 p17 p18 p19 p20 p21 p22 p23 p24 p25 x0_4 x0_5 x0_6 x0_7 x0_8 x0_12 x0_13 x0_14 x0_15 x0_16 x0_17 x0_18 x0_22 x0_23 x0_24 x0_25 x0_26 x0_27 x0_28 x0_29 x0_30 x0_31 x0_32 x0_36 x0_39 x0_40 x0_44 x0_49 x0_51 x0_53 x0_54 x0_55 x0_56 x0_57 x0_58 x0_59 x0_60 x0_61 x0_62 y1 y2 (upd y3 (a1).toNatClampNeg (1 : Int32)) y4 y5 y6 y7 y8 y9 y10 y11 y12 y13 y14 y15 y16 y17 y18 y19 y20 y21 y22 y23 y24 y25) := hD
        obtain ⟨v128, hv128⟩ : ∃ y : Nat → Int32, y = (upd y3 (a1).toNatClampNeg (1 : Int32)) := ⟨_, rfl⟩
        rw [← hv128] at hP hD
        have Gv128 : (0 ≤ ((1 : Int32)).toInt ∧ ((1 : Int32)).toInt ≤ 1) := (by decide)
        have Av128 : ∀ i : Nat, (0 ≤ (v128 i).toInt ∧ (v128 i).toInt ≤ 1) := by rw [hv128]; exact upd_all (P := fun i x => (0 ≤ (x).toInt ∧ (x).toInt ≤ 1)) Ay3 Gv128
        clear hv128
        refine lv_lload hx hb d_X_add_82 (lv_at hl 0 rfl) ?_
        refine lv_lconst (v := 0) hx hb d_X_add_84 (by decide) ?_
        refine W.lcmp hx hb d_X_add_85 ?_
        refine lv_topi (fun v129 hv129 => ?_)
        refine lv_if_ge (tgt := 95) hx hb d_X_add_86 (by decide) (fun c130 => absurd c130 (show ¬ (0 : Int32) ≤ v129 from (lcr_nge hv129 (klt R127 (show 0 ≤ (0 : Int) ∧ (0 : Int) ≤ 0 from by decide) (by decide))))) (fun c130 => ?_)
        refine lv_lload hx hb d_X_add_89 (lv_at hl 0 rfl) ?_
        refine lv_lneg hx hb d_X_add_91 ?_
        refine lv_topl (fun v131 hv131 => ?_)
        obtain ⟨ev131, Rv131⟩ : v131.toInt = -v113.toInt ∧ (1 ≤ v131.toInt ∧ v131.toInt ≤ 2147483646) := ng6 hv131 R127 (by decide) (by decide) (by decide) (by decide)
        refine lv_goto (tgt := 97) hx hb d_X_add_92 (by decide) ?_
        refine lv_lstore (lv' := [(8, .long v131), (6, .long v113), (4, .long v74), (0, .ref p0), (1, .int a1), (2, .int a2), (3, .int a3)]) hx hb d_X_add_97 hl (by decide) rfl (fun ls hl => ?_)
        refine lv_lload hx hb d_X_add_99 (lv_at hl 0 rfl) ?_
        refine lv_ldc2 (v := 1073741824) hx hb hown (hk _ k_1461) d_X_add_101 ?_
        refine W.lcmp hx hb d_X_add_104 ?_
        refine lv_topi (fun v132 hv132 => ?_)
        refine lv_if_lt (tgt := 121) hx hb d_X_add_105 (by decide) (fun c133 => ?_) (fun c133 => ?_)
        · have gc133 : v131.toInt < (1073741824 : Int) := lc_lt hv132 c133
          have R134 : 1 ≤ v131.toInt ∧ v131.toInt ≤ 1073741823 := rf_ltX Rv131 (show 1073741824 ≤ (1073741824 : Int) ∧ (1073741824 : Int) ≤ 1073741824 from by decide) gc133 (by decide) (by decide)
          refine lv_aload_n hx hb d_X_add_121 rfl (lv_at hl 3 rfl) ?_
          refine va_get (D := D) (ci := 7) (v := .ref p4) (C := "SignMachineModel") (T := F_X) (N := 64) hx hb hk fi_X hown hK.1 hP 0 rfl rfl 3 (by decide) (hk _ k_1124) (fun _ h9 => h9) rfl d_X_add_122 ?_
          refine lv_iload_n hx hb d_X_add_125 rfl (lv_at hl 4 rfl) ?_
          refine lv_lload hx hb d_X_add_126 (lv_at hl 0 rfl) ?_
          refine lv_l2i (v := (v131 : Int64).toInt32) hx hb d_X_add_128 rfl ?_
          refine lv_topi (fun v135 hv135 => ?_)
          obtain ⟨ev135, Rv135⟩ : v135.toInt = v131.toInt ∧ (1 ≤ v135.toInt ∧ v135.toInt ≤ 1073741823) := li3 hv135 R134 (by decide) (by decide)
          refine va_iast hx hb hK.1 hP hD hS 4 0 rfl rfl (vpb Q2 (by decide) (by decide)) d_X_add_129 (fun H locs hP hD hS => ?_)
          have hP : va_P D classes (wS50 cI cJ cZ cB p0 p1 p2 p3 p4 p5 p6 p7 p8 p9 p10 p11 p12 p13 p14 p15 p16 p17 p18 p19 p20 p21 p22 p23 p24 p25 x0_4 x0_5 x0_6 x0_7 x0_8 x0_12 x0_13 x0_14 x0_15 x0_16 x0_17 x0_18 x0_22 x0_23 x0_24 x0_25 x0_26 x0_27 x0_28 x0_29 x0_30 x0_31 x0_32 x0_36 x0_39 x0_40 x0_44 x0_49 x0_51 x0_53 x0_54 x0_55 x0_56 x0_57 x0_58 x0_59 x0_60 x0_61 x0_62 y1 y2 v128 (upd y4 (a1).toNatClampNeg v135) y5 y6 y7 y8 y9 y10 y11 y12 y13 y14 y15 y16 y17 y18 y19 y20 y21 y22 y23 y24 y25) H := hP
          have hD : va_D A (wS50 cI cJ cZ cB p0 p1 p2 p3 p4 p5 p6 p7 p8 p9 p10 p11 p12 p13 p14 p15 p16 p17 p18 p19 p20 p21 p22 p23 p24 p25 x0_4 x0_5 x0_6 x0_7 x0_8 x0_12 x0_13 x0_14 x0_15 x0_16 x0_17 x0_18 x0_22 x0_23 x0_24 x0_25 x0_26 x0_27 x0_28 x0_29 x0_30 x0_31 x0_32 x0_36 x0_39 x0_40 x0_44 x0_49 x0_51 x0_53 x0_54 x0_55 x0_56 x0_57 x0_58 x0_59 x0_60 x0_61 x0_62 y1 y2 v128 (upd y4 (a1).toNatClampNeg v135) y5 y6 y7 y8 y9 y10 y11 y12 y13 y14 y15 y16 y17 y18 y19 y20 y21 y22 y23 y24 y25) := hD
          obtain ⟨v136, hv136⟩ : ∃ y : Nat → Int32, y = (upd y4 (a1).toNatClampNeg v135) := ⟨_, rfl⟩
          rw [← hv136] at hP hD
          have : (((a1).toNatClampNeg : Nat) : Int) = a1.toInt := ti_n Q2 (by decide)
          have Gv136 : ((0 ≤ (v135).toInt ∧ (v135).toInt ≤ 1073741823) ∧ ((1 ≤ (((a1).toNatClampNeg : Nat) : Int) ∧ (((a1).toNatClampNeg : Nat) : Int) ≤ 6) → (v135).toInt ≤ 4095)) := by refine ⟨by omega, ?_⟩; omega
          have Av136 : ∀ i : Nat, ((0 ≤ (v136 i).toInt ∧ (v136 i).toInt ≤ 1073741823) ∧ ((1 ≤ (i : Int) ∧ (i : Int) ≤ 6) → (v136 i).toInt ≤ 4095)) := by rw [hv136]; exact upd_all (P := fun i x => ((0 ≤ (x).toInt ∧ (x).toInt ≤ 1073741823) ∧ ((1 ≤ (i : Int) ∧ (i : Int) ≤ 6) → (x).toInt ≤ 4095))) Ay4 Gv136
          clear hv136
          exact W.vret hx hb hr (fun t ht hW => ⟨⟨(), rfl, trivial, ⟨x0_5, v128, v136, Av128, Av136, by show va_P D classes _ t.heap; rw [ht]; exact hP, hD⟩⟩, hS.F ht⟩) hS.2.2 d_X_add_130
        · have gc133 : (1073741824 : Int) ≤ v131.toInt := lc_nlt hv132 c133
          have R137 : 1073741824 ≤ v131.toInt ∧ v131.toInt ≤ 2147483646 := rf_geX Rv131 (show 1073741824 ≤ (1073741824 : Int) ∧ (1073741824 : Int) ≤ 1073741824 from by decide) gc133 (by decide) (by decide)
          refine lv_aload_n hx hb d_X_add_108 rfl (lv_at hl 3 rfl) ?_
          refine lv_iconst (v := 1) hx hb d_X_add_109 (by decide) ?_
          refine va_put (D := D) (ci := 7) (v := .int (1 : Int32)) (ty := .int) (C := "SignMachineModel") (T := F_X) (N := 64) hx hb hk fi_X ft_X ft_X_ok fn_X hown hK.1 hP hD hS 0 rfl rfl 5 (by decide) (hk _ k_1126) (fun _ h9 => h9) rfl (by decide +kernel) rfl rfl (Nat.le_of_ble_eq_true rfl) d_X_add_110 (fun H locs hP hD hS => ?_)
          have hP : va_P D classes (wS50 cI cJ cZ cB p0 p1 p2 p3 p4 p5 p6 p7 p8 p9 p10 p11 p12 p13 p14 p15 p16 p17 p18 p19 p20 p21 p22 p23 p24 p25 x0_4 (1 : Int32) x0_6 x0_7 x0_8 x0_12 x0_13 x0_14 x0_15 x0_16 x0_17 x0_18 x0_22 x0_23 x0_24 x0_25 x0_26 x0_27 x0_28 x0_29 x0_30 x0_31 x0_32 x0_36 x0_39 x0_40 x0_44 x0_49 x0_51 x0_53 x0_54 x0_55 x0_56 x0_57 x0_58 x0_59 x0_60 x0_61 x0_62 y1 y2 v128 y4 y5 y6 y7 y8 y9 y10 y11 y12 y13 y14 y15 y16 y17 y18 y19 y20 y21 y22 y23 y24 y25) H := hP
          have hD : va_D A (wS50 cI cJ cZ cB p0 p1 p2 p3 p4 p5 p6 p7 p8 p9 p10 p11 p12 p13 p14 p15 p16 p17 p18 p19 p20 p21 p22 p23 p24 p25 x0_4 (1 : Int32) x0_6 x0_7 x0_8 x0_12 x0_13 x0_14 x0_15 x0_16 x0_17 x0_18 x0_22 x0_23 x0_24 x0_25 x0_26 x0_27 x0_28 x0_29 x0_30 x0_31 x0_32 x0_36 x0_39 x0_40 x0_44 x0_49 x0_51 x0_53 x0_54 x0_55 x0_56 x0_57 x0_58 x0_59 x0_60 x0_61 x0_62 y1 y2 v128 y4 y5 y6 y7 y8 y9 y10 y11 y12 y13 y14 y15 y16 y17 y18 y19 y20 y21 y22 y23 y24 y25) := hD
          refine lv_lload hx hb d_X_add_113 (lv_at hl 0 rfl) ?_
          refine lv_ldc2 (v := 1073741824) hx hb hown (hk _ k_1461) d_X_add_115 ?_
          refine lv_lsub hx hb d_X_add_118 ?_
          refine lv_topl (fun v138 hv138 => ?_)
          obtain ⟨ev138, Rv138⟩ : v138.toInt = v131.toInt - (1073741824 : Int) ∧ (0 ≤ v138.toInt ∧ v138.toInt ≤ 1073741822) := sb6 hv138 R137 (show 1073741824 ≤ (1073741824 : Int64).toInt ∧ (1073741824 : Int64).toInt ≤ 1073741824 from by decide) (by decide) (by decide) (by decide) (by decide)
          refine lv_lstore (lv' := [(8, .long v138), (6, .long v113), (4, .long v74), (0, .ref p0), (1, .int a1), (2, .int a2), (3, .int a3)]) hx hb d_X_add_119 hl (by decide) rfl (fun ls hl => ?_)
          refine lv_aload_n hx hb d_X_add_121 rfl (lv_at hl 3 rfl) ?_
          refine va_get (D := D) (ci := 7) (v := .ref p4) (C := "SignMachineModel") (T := F_X) (N := 64) hx hb hk fi_X hown hK.1 hP 0 rfl rfl 3 (by decide) (hk _ k_1124) (fun _ h9 => h9) rfl d_X_add_122 ?_
          refine lv_iload_n hx hb d_X_add_125 rfl (lv_at hl 4 rfl) ?_
          refine lv_lload hx hb d_X_add_126 (lv_at hl 0 rfl) ?_
          refine lv_l2i (v := (v138 : Int64).toInt32) hx hb d_X_add_128 rfl ?_
          refine lv_topi (fun v139 hv139 => ?_)
          obtain ⟨ev139, Rv139⟩ : v139.toInt = v138.toInt ∧ (0 ≤ v139.toInt ∧ v139.toInt ≤ 1073741822) := li3 hv139 Rv138 (by decide) (by decide)
          refine va_iast hx hb hK.1 hP hD hS 4 0 rfl rfl (vpb Q2 (by decide) (by decide)) d_X_add_129 (fun H locs hP hD hS => ?_)
          have hP : va_P D classes (wS50 cI cJ cZ cB p0 p1 p2 p3 p4 p5 p6 p7 p8 p9 p10 p11 p12 p13 p14 p15 p16 p17 p18 p19 p20 p21 p22 p23 p24 p25 x0_4 (1 : Int32) x0_6 x0_7 x0_8 x0_12 x0_13 x0_14 x0_15 x0_16 x0_17 x0_18 x0_22 x0_23 x0_24 x0_25 x0_26 x0_27 x0_28 x0_29 x0_30 x0_31 x0_32 x0_36 x0_39 x0_40 x0_44 x0_49 x0_51 x0_53 x0_54 x0_55 x0_56 x0_57 x0_58 x0_59 x0_60 x0_61 x0_62 y1 y2 v128 (upd y4 (a1).toNatClampNeg v139) y5 y6 y7 y8 y9 y10 y11 y12 y13 y14 y15 y16 y17 y18 y19 y20 y21 y22 y23 y24 y25) H := hP
          have hD : va_D A (wS50 cI cJ cZ cB p0 p1 p2 p3 p4 p5 p6 p7 p8 p9 p10 p11 p12 p13 p14 p15 p16 p17 p18 p19 p20 p21 p22 p23 p24 p25 x0_4 (1 : Int32) x0_6 x0_7 x0_8 x0_12 x0_13 x0_14 x0_15 x0_16 x0_17 x0_18 x0_22 x0_23 x0_24 x0_25 x0_26 x0_27 x0_28 x0_29 x0_30 x0_31 x0_32 x0_36 x0_39 x0_40 x0_44 x0_49 x0_51 x0_53 x0_54 x0_55 x0_56 x0_57 x0_58 x0_59 x0_60 x0_61 x0_62 y1 y2 v128 (upd y4 (a1).toNatClampNeg v139) y5 y6 y7 y8 y9 y10 y11 y12 y13 y14 y15 y16 y17 y18 y19 y20 y21 y22 y23 y24 y25) := hD
          obtain ⟨v140, hv140⟩ : ∃ y : Nat → Int32, y = (upd y4 (a1).toNatClampNeg v139) := ⟨_, rfl⟩
          rw [← hv140] at hP hD
          have : (((a1).toNatClampNeg : Nat) : Int) = a1.toInt := ti_n Q2 (by decide)
          have Gv140 : ((0 ≤ (v139).toInt ∧ (v139).toInt ≤ 1073741823) ∧ ((1 ≤ (((a1).toNatClampNeg : Nat) : Int) ∧ (((a1).toNatClampNeg : Nat) : Int) ≤ 6) → (v139).toInt ≤ 4095)) := by refine ⟨by omega, ?_⟩; omega
          have Av140 : ∀ i : Nat, ((0 ≤ (v140 i).toInt ∧ (v140 i).toInt ≤ 1073741823) ∧ ((1 ≤ (i : Int) ∧ (i : Int) ≤ 6) → (v140 i).toInt ≤ 4095)) := by rw [hv140]; exact upd_all (P := fun i x => ((0 ≤ (x).toInt ∧ (x).toInt ≤ 1073741823) ∧ ((1 ≤ (i : Int) ∧ (i : Int) ≤ 6) → (x).toInt ≤ 4095))) Ay4 Gv140
          clear hv140
          exact W.vret hx hb hr (fun t ht hW => ⟨⟨(), rfl, trivial, ⟨(1 : Int32), v128, v140, Av128, Av140, by show va_P D classes _ t.heap; rw [ht]; exact hP, hD⟩⟩, hS.F ht⟩) hS.2.2 d_X_add_130
theorem v_X_add {R : Room} {s : State} {args : Array Value} {own : String} {index : Nat} (hk : ∀ w ∈ tb, w.before args s = true) (hl : Cond.methodLink own index y_X_add ∈ tb) (hR : 0 + 1 ≤ R.frames ∧ 8 + (10 + 11) + 0 ≤ R.locals) : CallW R s args own "SignMachineModel" index y_X_add b_X_add 10 none (.code y_X_add b_X_add 10 none :: tb) ({ frames := 0, cells := 0, slots := 0, locals := 0 }) 0 0 3 := mk_v 3 hk k_1460 hl k_1459 k_77 k_119 rfl rfl h_X_add hR

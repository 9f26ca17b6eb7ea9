set_option maxHeartbeats 8000000 in
set_option maxRecDepth 100000 in
theorem c_X_goesByIndicator (l : Launch) (D : va_G) (cI cJ cZ cB : ClassId) (p0 p1 p2 p3 p4 p5 p6 p7 p8 p9 p10 p11 p12 p13 p14 p15 p16 p17 p18 p19 p20 p21 p22 p23 p24 p25 : Nat) (sz : Nat) (x0_4 : Int32) (x0_5 : Int32) (x0_6 : Int32) (x0_7 : Int32) (x0_8 : Int32) (x0_12 : Int32) (x0_13 : Int32) (x0_14 : Int32) (x0_15 : Int32) (x0_16 : Int32) (x0_17 : Int32) (x0_18 : Int32) (x0_22 : Int32) (x0_23 : Int32) (x0_24 : Int32) (x0_25 : Int32) (x0_26 : Int32) (x0_27 : Int32) (x0_28 : Int32) (x0_29 : Int32) (x0_30 : Int32) (x0_31 : Int32) (x0_32 : Int32) (x0_36 : Int32) (x0_39 : Int32) (x0_40 : Int64) (x0_44 : Int32) (x0_49 : Int32) (x0_51 : Int32) (x0_53 : Int32) (x0_54 : Int32) (x0_55 : Int64) (x0_56 : Int32) (x0_57 : Int32) (x0_58 : Int32) (x0_59 : Int32) (x0_60 : Int32) (x0_61 : Int32) (x0_62 : Int64) (y1 : Nat → Int32) (y2 : Nat → Int32) (y3 : Nat → Int32) (y4 : Nat → Int32) (y5 : Nat → Int32) (y6 : Nat → Int32) (y7 : Nat → Int32) (y8 : Nat → Int32) (y9 : Nat → Int32) (y10 : Nat → Int32) (y11 : Nat → Int64) (y12 : Nat → Int32) (y13 : Nat → Int64) (y14 : Nat → Int32) (y15 : Nat → Int64) (y16 : Nat → Int32) (y17 : Nat → Int32) (y18 : Nat → Int32) (y19 : Nat → Int32) (y20 : Nat → Int32) (y21 : Nat → Int32) (y22 : Nat → Int32) (y23 : Nat → Int32) (y24 : Nat → Int64) (y25 : Nat → Int64)  (Rx0_13 : 0 ≤ x0_13.toInt ∧ x0_13.toInt ≤ 63) : Met l y_X_goesByIndicator (.code y_X_goesByIndicator b_X_goesByIndicator 1 (some .boolean) :: tb) ({ frames := 0, cells := 0, slots := 0, locals := 0 }) (pM D cI cJ cZ cB (wS50 cI cJ cZ cB p0 p1 p2 p3 p4 p5 p6 p7 p8 p9 p10 p11 p12 p13 p14 p15 p16 p17 p18 p19 p20 p21 p22 p23 p24 p25 x0_4 x0_5 x0_6 x0_7 x0_8 x0_12 x0_13 x0_14 x0_15 x0_16 x0_17 x0_18 x0_22 x0_23 x0_24 x0_25 x0_26 x0_27 x0_28 x0_29 x0_30 x0_31 x0_32 x0_36 x0_39 x0_40 x0_44 x0_49 x0_51 x0_53 x0_54 x0_55 x0_56 x0_57 x0_58 x0_59 x0_60 x0_61 x0_62 y1 y2 y3 y4 y5 y6 y7 y8 y9 y10 y11 y12 y13 y14 y15 y16 y17 y18 y19 y20 y21 y22 y23 y24 y25) sz [.ref p0]) (va_Qi (fun r (u : Int32) => r = u) (fun ur t => (0 ≤ ur.toInt ∧ ur.toInt ≤ 1) ∧ va_P D classes (wS50 cI cJ cZ cB p0 p1 p2 p3 p4 p5 p6 p7 p8 p9 p10 p11 p12 p13 p14 p15 p16 p17 p18 p19 p20 p21 p22 p23 p24 p25 x0_4 x0_5 x0_6 x0_7 x0_8 x0_12 x0_13 x0_14 x0_15 x0_16 x0_17 x0_18 x0_22 x0_23 x0_24 x0_25 x0_26 x0_27 x0_28 x0_29 x0_30 x0_31 x0_32 x0_36 x0_39 x0_40 x0_44 x0_49 x0_51 x0_53 x0_54 x0_55 x0_56 x0_57 x0_58 x0_59 x0_60 x0_61 x0_62 y1 y2 y3 y4 y5 y6 y7 y8 y9 y10 y11 y12 y13 y14 y15 y16 y17 y18 y19 y20 y21 y22 y23 y24 y25) t.heap ∧ va_D (va_A (wS50 cI cJ cZ cB p0 p1 p2 p3 p4 p5 p6 p7 p8 p9 p10 p11 p12 p13 p14 p15 p16 p17 p18 p19 p20 p21 p22 p23 p24 p25 x0_4 x0_5 x0_6 x0_7 x0_8 x0_12 x0_13 x0_14 x0_15 x0_16 x0_17 x0_18 x0_22 x0_23 x0_24 x0_25 x0_26 x0_27 x0_28 x0_29 x0_30 x0_31 x0_32 x0_36 x0_39 x0_40 x0_44 x0_49 x0_51 x0_53 x0_54 x0_55 x0_56 x0_57 x0_58 x0_59 x0_60 x0_61 x0_62 y1 y2 y3 y4 y5 y6 y7 y8 y9 y10 y11 y12 y13 y14 y15 y16 y17 y18 y19 y20 y21 y22 y23 y24 y25) sz) (wS50 cI cJ cZ cB p0 p1 p2 p3 p4 p5 p6 p7 p8 p9 p10 p11 p12 p13 p14 p15 p16 p17 p18 p19 p20 p21 p22 p23 p24 p25 x0_4 x0_5 x0_6 x0_7 x0_8 x0_12 x0_13 x0_14 x0_15 x0_16 x0_17 x0_18 x0_22 x0_23 x0_24 x0_25 x0_26 x0_27 x0_28 x0_29 x0_30 x0_31 x0_32 x0_36 x0_39 x0_40 x0_44 x0_49 x0_51 x0_53 x0_54 x0_55 x0_56 x0_57 x0_58 x0_59 x0_60 x0_61 x0_62 y1 y2 y3 y4 y5 y6 y7 y8 y9 y10 y11 y12 y13 y14 y15 y16 y17 y18 y19 y20 y21 y22 y23 y24 y25)) (va_A (wS50 cI cJ cZ cB p0 p1 p2 p3 p4 p5 p6 p7 p8 p9 p10 p11 p12 p13 p14 p15 p16 p17 p18 p19 p20 p21 p22 p23 p24 p25 x0_4 x0_5 x0_6 x0_7 x0_8 x0_12 x0_13 x0_14 x0_15 x0_16 x0_17 x0_18 x0_22 x0_23 x0_24 x0_25 x0_26 x0_27 x0_28 x0_29 x0_30 x0_31 x0_32 x0_36 x0_39 x0_40 x0_44 x0_49 x0_51 x0_53 x0_54 x0_55 x0_56 x0_57 x0_58 x0_59 x0_60 x0_61 x0_62 y1 y2 y3 y4 y5 y6 y7 y8 y9 y10 y11 y12 y13 y14 y15 y16 y17 y18 y19 y20 y21 y22 y23 y24 y25) sz)) 0 0 (va_A (wS50 cI cJ cZ cB p0 p1 p2 p3 p4 p5 p6 p7 p8 p9 p10 p11 p12 p13 p14 p15 p16 p17 p18 p19 p20 p21 p22 p23 p24 p25 x0_4 x0_5 x0_6 x0_7 x0_8 x0_12 x0_13 x0_14 x0_15 x0_16 x0_17 x0_18 x0_22 x0_23 x0_24 x0_25 x0_26 x0_27 x0_28 x0_29 x0_30 x0_31 x0_32 x0_36 x0_39 x0_40 x0_44 x0_49 x0_51 x0_53 x0_54 x0_55 x0_56 x0_57 x0_58 x0_59 x0_60 x0_61 x0_62 y1 y2 y3 y4 y5 y6 y7 y8 y9 y10 y11 y12 y13 y14 y15 y16 y17 y18 y19 y20 y21 y22 y23 y24 y25) sz) := by
  refine Met.ofW (cc := b_X_goesByIndicator) (maxL := 1) (ret := (some .boolean)) (by decide) rfl ?_
  intro p e s m args below meth c s₁ B hml hv
  obtain ⟨rfl, hsz, hK, hP, hD0⟩ := hv
  subst hsz
  have hD := hD0.self (sz := s.heap.size)
  generalize hAe : va_A (wS50 cI cJ cZ cB p0 p1 p2 p3 p4 p5 p6 p7 p8 p9 p10 p11 p12 p13 p14 p15 p16 p17 p18 p19 p20 p21 p22 p23 p24 p25 x0_4 x0_5 x0_6 x0_7 x0_8 x0_12 x0_13 x0_14 x0_15 x0_16 x0_17 x0_18 x0_22 x0_23 x0_24 x0_25 x0_26 x0_27 x0_28 x0_29 x0_30 x0_31 x0_32 x0_36 x0_39 x0_40 x0_44 x0_49 x0_51 x0_53 x0_54 x0_55 x0_56 x0_57 x0_58 x0_59 x0_60 x0_61 x0_62 y1 y2 y3 y4 y5 y6 y7 y8 y9 y10 y11 y12 y13 y14 y15 y16 y17 y18 y19 y20 y21 y22 y23 y24 y25) s.heap.size = A at hD ⊢
  have hA : ∀ q : Nat, s.heap.size ≤ q → A q := fun q h => by rw [← hAe]; exact Or.inr h
  clear hAe hD0
  have hS : va_S A s.heap s.heap [] := va_S.rf
  have hx := B.exec
  have hb := B.bytes
  have hr := B.returns
  have hts := atoms_spec (ws := .code y_X_goesByIndicator b_X_goesByIndicator 1 (some .boolean) :: tb) B.pre
  have hk : ∀ w ∈ tb, w.before [.ref p0].toArray s = true := fun w h => hts w (List.mem_cons_of_mem _ h)
  have hown : s.vm.findClass "SignMachineModel" = some m.cls := findClass_of_methodNamed B.named
  have hlocks := B.notSynchronized
  have hl := lv_entry ([.ref p0]) (n := 1) (Nat.le_of_ble_eq_true rfl)
  rw [lg_entry_eq]
  generalize (lg_sl ([.ref p0]) ++ List.replicate (1 - (lg_sl ([.ref p0])).length) Slot.unset).toArray = ls at hl ⊢
  have hl : lv_has ls 1 [(0, .ref p0)] := hl
  clear hts B
  refine lv_aload_n hx hb d_X_goesByIndicator_0 rfl (lv_at hl 0 rfl) ?_
  refine va_get (D := D) (ci := 7) (v := .int x0_13) (C := "SignMachineModel") (T := F_X) (N := 64) hx hb hk fi_X hown hK.1 hP 0 rfl rfl 13 (by decide) (hk _ k_1134) (fun _ h9 => h9) rfl d_X_goesByIndicator_1 ?_
  by_cases c1 : x0_13 = (4 : Int32)
  · refine lv_tableIn (off := 36) (tgt := 40) hx hb d_X_goesByIndicator_4 (by rw [c1]; decide) (by rw [c1]; decide) (by rw [c1]; rfl) (by decide) ?_
    have gc1 : 4 ≤ x0_13.toInt ∧ x0_13.toInt ≤ 4 := by have q9 : x0_13.toInt = 4 := c_eq c1; omega
    refine lv_aload_n hx hb d_X_goesByIndicator_40 rfl (lv_at hl 0 rfl) ?_
    refine va_get (D := D) (ci := 7) (v := .int x0_6) (C := "SignMachineModel") (T := F_X) (N := 64) hx hb hk fi_X hown hK.1 hP 0 rfl rfl 6 (by decide) (hk _ k_1127) (fun _ h9 => h9) rfl d_X_goesByIndicator_41 ?_
    refine lv_if_ge (tgt := 51) hx hb d_X_goesByIndicator_44 (by decide) (fun c2 => ?_) (fun c2 => ?_)
    · have gc2 : (0 : Int) ≤ x0_6.toInt := c_le c2
      have R3 : 0 ≤ x0_6.toInt ∧ x0_6.toInt ≤ 2147483647 := rf_geX (fr3 x0_6) (show 0 ≤ (0 : Int) ∧ (0 : Int) ≤ 0 from by decide) gc2 (by decide) (by decide)
      refine lv_iconst (v := 0) hx hb d_X_goesByIndicator_51 (by decide) ?_
      exact W.zret (v := (0 : Int32)) hx hb hr (nar01 (by decide)) (fun t ht hW => ⟨⟨(0 : Int32), (0 : Int32), rfl, rfl, ⟨(by decide), by show va_P D classes _ t.heap; rw [ht]; exact hP, hD⟩⟩, hS.F ht⟩) hS.2.2 d_X_goesByIndicator_52
    · have gc2 : x0_6.toInt < (0 : Int) := c_nle c2
      have R4 : (-2147483648) ≤ x0_6.toInt ∧ x0_6.toInt ≤ (-1) := rf_ltX (fr3 x0_6) (show 0 ≤ (0 : Int) ∧ (0 : Int) ≤ 0 from by decide) gc2 (by decide) (by decide)
      refine lv_iconst (v := 1) hx hb d_X_goesByIndicator_47 (by decide) ?_
      refine lv_goto (tgt := 52) hx hb d_X_goesByIndicator_48 (by decide) ?_
      exact W.zret (v := (1 : Int32)) hx hb hr (nar01 (by decide)) (fun t ht hW => ⟨⟨(1 : Int32), (1 : Int32), rfl, rfl, ⟨(by decide), by show va_P D classes _ t.heap; rw [ht]; exact hP, hD⟩⟩, hS.F ht⟩) hS.2.2 d_X_goesByIndicator_52
  · by_cases c5 : x0_13 = (5 : Int32)
    · refine lv_tableIn (off := 49) (tgt := 53) hx hb d_X_goesByIndicator_4 (by rw [c5]; decide) (by rw [c5]; decide) (by rw [c5]; rfl) (by decide) ?_
      have gc5 : 5 ≤ x0_13.toInt ∧ x0_13.toInt ≤ 5 := by have q9 : x0_13.toInt = 5 := c_eq c5; omega
      refine lv_aload_n hx hb d_X_goesByIndicator_53 rfl (lv_at hl 0 rfl) ?_
      refine va_get (D := D) (ci := 7) (v := .int x0_6) (C := "SignMachineModel") (T := F_X) (N := 64) hx hb hk fi_X hown hK.1 hP 0 rfl rfl 6 (by decide) (hk _ k_1127) (fun _ h9 => h9) rfl d_X_goesByIndicator_54 ?_
      refine lv_if_ne (tgt := 64) hx hb d_X_goesByIndicator_57 (by decide) (fun c6 => ?_) (fun c6 => ?_)
      · have gc6 : x0_6.toInt ≠ (0 : Int) := c_ne c6
        refine lv_iconst (v := 0) hx hb d_X_goesByIndicator_64 (by decide) ?_
        exact W.zret (v := (0 : Int32)) hx hb hr (nar01 (by decide)) (fun t ht hW => ⟨⟨(0 : Int32), (0 : Int32), rfl, rfl, ⟨(by decide), by show va_P D classes _ t.heap; rw [ht]; exact hP, hD⟩⟩, hS.F ht⟩) hS.2.2 d_X_goesByIndicator_65
      · have gc6 : x0_6.toInt = (0 : Int) := c_eq c6
        have R7 : 0 ≤ x0_6.toInt ∧ x0_6.toInt ≤ 0 := rf_eqX (fr3 x0_6) (show 0 ≤ (0 : Int) ∧ (0 : Int) ≤ 0 from by decide) gc6 (by decide) (by decide)
        refine lv_iconst (v := 1) hx hb d_X_goesByIndicator_60 (by decide) ?_
        refine lv_goto (tgt := 65) hx hb d_X_goesByIndicator_61 (by decide) ?_
        exact W.zret (v := (1 : Int32)) hx hb hr (nar01 (by decide)) (fun t ht hW => ⟨⟨(1 : Int32), (1 : Int32), rfl, rfl, ⟨(by decide), by show va_P D classes _ t.heap; rw [ht]; exact hP, hD⟩⟩, hS.F ht⟩) hS.2.2 d_X_goesByIndicator_65
    · by_cases c8 : x0_13 = (6 : Int32)
      · refine lv_tableIn (off := 62) (tgt := 66) hx hb d_X_goesByIndicator_4 (by rw [c8]; decide) (by rw [c8]; decide) (by rw [c8]; rfl) (by decide) ?_
        have gc8 : 6 ≤ x0_13.toInt ∧ x0_13.toInt ≤ 6 := by have q9 : x0_13.toInt = 6 := c_eq c8; omega
        refine lv_aload_n hx hb d_X_goesByIndicator_66 rfl (lv_at hl 0 rfl) ?_
        refine va_get (D := D) (ci := 7) (v := .int x0_6) (C := "SignMachineModel") (T := F_X) (N := 64) hx hb hk fi_X hown hK.1 hP 0 rfl rfl 6 (by decide) (hk _ k_1127) (fun _ h9 => h9) rfl d_X_goesByIndicator_67 ?_
        refine lv_if_le (tgt := 77) hx hb d_X_goesByIndicator_70 (by decide) (fun c9 => ?_) (fun c9 => ?_)
        · have gc9 : x0_6.toInt ≤ (0 : Int) := c_le c9
          have R10 : (-2147483648) ≤ x0_6.toInt ∧ x0_6.toInt ≤ 0 := rf_leX (fr3 x0_6) (show 0 ≤ (0 : Int) ∧ (0 : Int) ≤ 0 from by decide) gc9 (by decide) (by decide)
          refine lv_iconst (v := 0) hx hb d_X_goesByIndicator_77 (by decide) ?_
          exact W.zret (v := (0 : Int32)) hx hb hr (nar01 (by decide)) (fun t ht hW => ⟨⟨(0 : Int32), (0 : Int32), rfl, rfl, ⟨(by decide), by show va_P D classes _ t.heap; rw [ht]; exact hP, hD⟩⟩, hS.F ht⟩) hS.2.2 d_X_goesByIndicator_78
        · have gc9 : (0 : Int) < x0_6.toInt := c_nle c9
          have R11 : 1 ≤ x0_6.toInt ∧ x0_6.toInt ≤ 2147483647 := rf_gtX (fr3 x0_6) (show 0 ≤ (0 : Int) ∧ (0 : Int) ≤ 0 from by decide) gc9 (by decide) (by decide)
          refine lv_iconst (v := 1) hx hb d_X_goesByIndicator_73 (by decide) ?_
          refine lv_goto (tgt := 78) hx hb d_X_goesByIndicator_74 (by decide) ?_
          exact W.zret (v := (1 : Int32)) hx hb hr (nar01 (by decide)) (fun t ht hW => ⟨⟨(1 : Int32), (1 : Int32), rfl, rfl, ⟨(by decide), by show va_P D classes _ t.heap; rw [ht]; exact hP, hD⟩⟩, hS.F ht⟩) hS.2.2 d_X_goesByIndicator_78
      · by_cases c12 : x0_13 = (7 : Int32)
        · refine lv_tableIn (off := 75) (tgt := 79) hx hb d_X_goesByIndicator_4 (by rw [c12]; decide) (by rw [c12]; decide) (by rw [c12]; rfl) (by decide) ?_
          have gc12 : 7 ≤ x0_13.toInt ∧ x0_13.toInt ≤ 7 := by have q9 : x0_13.toInt = 7 := c_eq c12; omega
          refine lv_aload_n hx hb d_X_goesByIndicator_79 rfl (lv_at hl 0 rfl) ?_
          refine va_get (D := D) (ci := 7) (v := .int x0_6) (C := "SignMachineModel") (T := F_X) (N := 64) hx hb hk fi_X hown hK.1 hP 0 rfl rfl 6 (by decide) (hk _ k_1127) (fun _ h9 => h9) rfl d_X_goesByIndicator_80 ?_
          refine lv_if_lt (tgt := 90) hx hb d_X_goesByIndicator_83 (by decide) (fun c13 => ?_) (fun c13 => ?_)
          · have gc13 : x0_6.toInt < (0 : Int) := c_lt c13
            have R14 : (-2147483648) ≤ x0_6.toInt ∧ x0_6.toInt ≤ (-1) := rf_ltX (fr3 x0_6) (show 0 ≤ (0 : Int) ∧ (0 : Int) ≤ 0 from by decide) gc13 (by decide) (by decide)
            refine lv_iconst (v := 0) hx hb d_X_goesByIndicator_90 (by decide) ?_
            exact W.zret (v := (0 : Int32)) hx hb hr (nar01 (by decide)) (fun t ht hW => ⟨⟨(0 : Int32), (0 : Int32), rfl, rfl, ⟨(by decide), by show va_P D classes _ t.heap; rw [ht]; exact hP, hD⟩⟩, hS.F ht⟩) hS.2.2 d_X_goesByIndicator_91
          · have gc13 : (0 : Int) ≤ x0_6.toInt := c_nlt c13
            have R15 : 0 ≤ x0_6.toInt ∧ x0_6.toInt ≤ 2147483647 := rf_geX (fr3 x0_6) (show 0 ≤ (0 : Int) ∧ (0 : Int) ≤ 0 from by decide) gc13 (by decide) (by decide)
            refine lv_iconst (v := 1) hx hb d_X_goesByIndicator_86 (by decide) ?_
            refine lv_goto (tgt := 91) hx hb d_X_goesByIndicator_87 (by decide) ?_
            exact W.zret (v := (1 : Int32)) hx hb hr (nar01 (by decide)) (fun t ht hW => ⟨⟨(1 : Int32), (1 : Int32), rfl, rfl, ⟨(by decide), by show va_P D classes _ t.heap; rw [ht]; exact hP, hD⟩⟩, hS.F ht⟩) hS.2.2 d_X_goesByIndicator_91
        · by_cases c16 : x0_13 = (8 : Int32)
          · refine lv_tableIn (off := 88) (tgt := 92) hx hb d_X_goesByIndicator_4 (by rw [c16]; decide) (by rw [c16]; decide) (by rw [c16]; rfl) (by decide) ?_
            have gc16 : 8 ≤ x0_13.toInt ∧ x0_13.toInt ≤ 8 := by have q9 : x0_13.toInt = 8 := c_eq c16; omega
            refine lv_aload_n hx hb d_X_goesByIndicator_92 rfl (lv_at hl 0 rfl) ?_
            refine va_get (D := D) (ci := 7) (v := .int x0_6) (C := "SignMachineModel") (T := F_X) (N := 64) hx hb hk fi_X hown hK.1 hP 0 rfl rfl 6 (by decide) (hk _ k_1127) (fun _ h9 => h9) rfl d_X_goesByIndicator_93 ?_
            refine lv_if_eq (tgt := 103) hx hb d_X_goesByIndicator_96 (by decide) (fun c17 => ?_) (fun c17 => ?_)
            · have gc17 : x0_6.toInt = (0 : Int) := c_eq c17
              have R18 : 0 ≤ x0_6.toInt ∧ x0_6.toInt ≤ 0 := rf_eqX (fr3 x0_6) (show 0 ≤ (0 : Int) ∧ (0 : Int) ≤ 0 from by decide) gc17 (by decide) (by decide)
              refine lv_iconst (v := 0) hx hb d_X_goesByIndicator_103 (by decide) ?_
              exact W.zret (v := (0 : Int32)) hx hb hr (nar01 (by decide)) (fun t ht hW => ⟨⟨(0 : Int32), (0 : Int32), rfl, rfl, ⟨(by decide), by show va_P D classes _ t.heap; rw [ht]; exact hP, hD⟩⟩, hS.F ht⟩) hS.2.2 d_X_goesByIndicator_104
            · have gc17 : x0_6.toInt ≠ (0 : Int) := c_ne c17
              refine lv_iconst (v := 1) hx hb d_X_goesByIndicator_99 (by decide) ?_
              refine lv_goto (tgt := 104) hx hb d_X_goesByIndicator_100 (by decide) ?_
              exact W.zret (v := (1 : Int32)) hx hb hr (nar01 (by decide)) (fun t ht hW => ⟨⟨(1 : Int32), (1 : Int32), rfl, rfl, ⟨(by decide), by show va_P D classes _ t.heap; rw [ht]; exact hP, hD⟩⟩, hS.F ht⟩) hS.2.2 d_X_goesByIndicator_104
          · refine lv_tableOut (tgt := 105) hx hb d_X_goesByIndicator_4 (by have q3 := fr3 x0_13; have e0 := lv_neT c1 (a := 4) rfl; have e1 := lv_neT c5 (a := 5) rfl; have e2 := lv_neT c8 (a := 6) rfl; have e3 := lv_neT c12 (a := 7) rfl; have e4 := lv_neT c16 (a := 8) rfl; omega) (by decide) ?_
            have gc1 : x0_13.toInt ≠ 4 := c_ne c1
            have gc5 : x0_13.toInt ≠ 5 := c_ne c5
            have gc8 : x0_13.toInt ≠ 6 := c_ne c8
            have gc12 : x0_13.toInt ≠ 7 := c_ne c12
            have gc16 : x0_13.toInt ≠ 8 := c_ne c16
            refine lv_aload_n hx hb d_X_goesByIndicator_105 rfl (lv_at hl 0 rfl) ?_
            refine va_get (D := D) (ci := 7) (v := .int x0_6) (C := "SignMachineModel") (T := F_X) (N := 64) hx hb hk fi_X hown hK.1 hP 0 rfl rfl 6 (by decide) (hk _ k_1127) (fun _ h9 => h9) rfl d_X_goesByIndicator_106 ?_
            refine lv_if_gt (tgt := 116) hx hb d_X_goesByIndicator_109 (by decide) (fun c19 => ?_) (fun c19 => ?_)
            · have gc19 : (0 : Int) < x0_6.toInt := c_lt c19
              have R20 : 1 ≤ x0_6.toInt ∧ x0_6.toInt ≤ 2147483647 := rf_gtX (fr3 x0_6) (show 0 ≤ (0 : Int) ∧ (0 : Int) ≤ 0 from by decide) gc19 (by decide) (by decide)
              refine lv_iconst (v := 0) hx hb d_X_goesByIndicator_116 (by decide) ?_
              exact W.zret (v := (0 : Int32)) hx hb hr (nar01 (by decide)) (fun t ht hW => ⟨⟨(0 : Int32), (0 : Int32), rfl, rfl, ⟨(by decide), by show va_P D classes _ t.heap; rw [ht]; exact hP, hD⟩⟩, hS.F ht⟩) hS.2.2 d_X_goesByIndicator_117
            · have gc19 : x0_6.toInt ≤ (0 : Int) := c_nlt c19
              have R21 : (-2147483648) ≤ x0_6.toInt ∧ x0_6.toInt ≤ 0 := rf_leX (fr3 x0_6) (show 0 ≤ (0 : Int) ∧ (0 : Int) ≤ 0 from by decide) gc19 (by decide) (by decide)
              refine lv_iconst (v := 1) hx hb d_X_goesByIndicator_112 (by decide) ?_
              refine lv_goto (tgt := 117) hx hb d_X_goesByIndicator_113 (by decide) ?_
              exact W.zret (v := (1 : Int32)) hx hb hr (nar01 (by decide)) (fun t ht hW => ⟨⟨(1 : Int32), (1 : Int32), rfl, rfl, ⟨(by decide), by show va_P D classes _ t.heap; rw [ht]; exact hP, hD⟩⟩, hS.F ht⟩) hS.2.2 d_X_goesByIndicator_117
theorem v_X_goesByIndicator {R : Room} {s : State} {args : Array Value} {own : String} {index : Nat} (hk : ∀ w ∈ tb, w.before args s = true) (hl : Cond.methodLink own index y_X_goesByIndicator ∈ tb) (hR : 0 + 1 ≤ R.frames ∧ 8 + (1 + 11) + 0 ≤ R.locals) : CallW R s args own "SignMachineModel" index y_X_goesByIndicator b_X_goesByIndicator 1 (some .boolean) (.code y_X_goesByIndicator b_X_goesByIndicator 1 (some .boolean) :: tb) ({ frames := 0, cells := 0, slots := 0, locals := 0 }) 0 0 0 := mk_v 0 hk k_1440 hl k_1439 k_72 k_119 rfl rfl h_X_goesByIndicator hR
set_option maxHeartbeats 8000000 in
set_option maxRecDepth 100000 in
theorem c_X_goes39 (l : Launch) (D : va_G) (cI cJ cZ cB : ClassId) (p0 p1 p2 p3 p4 p5 p6 p7 p8 p9 p10 p11 p12 p13 p14 p15 p16 p17 p18 p19 p20 p21 p22 p23 p24 p25 : Nat) (sz : Nat) (x0_4 : Int32) (x0_5 : Int32) (x0_6 : Int32) (x0_7 : Int32) (x0_8 : Int32) (x0_12 : Int32) (x0_13 : Int32) (x0_14 : Int32) (x0_15 : Int32) (x0_16 : Int32) (x0_17 : Int32) (x0_18 : Int32) (x0_22 : Int32) (x0_23 : Int32) (x0_24 : Int32) (x0_25 : Int32) (x0_26 : Int32) (x0_27 : Int32) (x0_28 : Int32) (x0_29 : Int32) (x0_30 : Int32) (x0_31 : Int32) (x0_32 : Int32) (x0_36 : Int32) (x0_39 : Int32) (x0_40 : Int64) (x0_44 : Int32) (x0_49 : Int32) (x0_51 : Int32) (x0_53 : Int32) (x0_54 : Int32) (x0_55 : Int64) (x0_56 : Int32) (x0_57 : Int32) (x0_58 : Int32) (x0_59 : Int32) (x0_60 : Int32) (x0_61 : Int32) (x0_62 : Int64) (y1 : Nat → Int32) (y2 : Nat → Int32) (y3 : Nat → Int32) (y4 : Nat → Int32) (y5 : Nat → Int32) (y6 : Nat → Int32) (y7 : Nat → Int32) (y8 : Nat → Int32) (y9 : Nat → Int32) (y10 : Nat → Int32) (y11 : Nat → Int64) (y12 : Nat → Int32) (y13 : Nat → Int64) (y14 : Nat → Int32) (y15 : Nat → Int64) (y16 : Nat → Int32) (y17 : Nat → Int32) (y18 : Nat → Int32) (y19 : Nat → Int32) (y20 : Nat → Int32) (y21 : Nat → Int32) (y22 : Nat → Int32) (y23 : Nat → Int32) (y24 : Nat → Int64) (y25 : Nat → Int64)  (Rx0_4 : 0 ≤ x0_4.toInt ∧ x0_4.toInt ≤ 4000) (Rx0_13 : 0 ≤ x0_13.toInt ∧ x0_13.toInt ≤ 63) (Rx0_15 : (-8190) ≤ x0_15.toInt ∧ x0_15.toInt ≤ 8190) (Ay4 : ∀ i : Nat, ((0 ≤ (y4 i).toInt ∧ (y4 i).toInt ≤ 1073741823) ∧ ((1 ≤ (i : Int) ∧ (i : Int) ≤ 6) → (y4 i).toInt ≤ 4095))) (Q0 : x0_4.toInt ≤ 3999) (Q1 : (0 ≤ x0_15.toInt ∧ x0_15.toInt ≤ 3999)) : Met l y_X_goes39 (.code y_X_goes39 b_X_goes39 3 none :: tb) ({ frames := 1, cells := 0, slots := 0, locals := 22 }) (pM D cI cJ cZ cB (wS50 cI cJ cZ cB p0 p1 p2 p3 p4 p5 p6 p7 p8 p9 p10 p11 p12 p13 p14 p15 p16 p17 p18 p19 p20 p21 p22 p23 p24 p25 x0_4 x0_5 x0_6 x0_7 x0_8 x0_12 x0_13 x0_14 x0_15 x0_16 x0_17 x0_18 x0_22 x0_23 x0_24 x0_25 x0_26 x0_27 x0_28 x0_29 x0_30 x0_31 x0_32 x0_36 x0_39 x0_40 x0_44 x0_49 x0_51 x0_53 x0_54 x0_55 x0_56 x0_57 x0_58 x0_59 x0_60 x0_61 x0_62 y1 y2 y3 y4 y5 y6 y7 y8 y9 y10 y11 y12 y13 y14 y15 y16 y17 y18 y19 y20 y21 y22 y23 y24 y25) sz [.ref p0]) (va_Qv (fun (_ : Unit) => True) (fun _ t => ∃ u_x0_4 : Int32, ∃ u_x0_5 : Int32, ∃ u_y4 : Nat → Int32, (0 ≤ u_x0_4.toInt ∧ u_x0_4.toInt ≤ 4000) ∧ (∀ i : Nat, ((0 ≤ (u_y4 i).toInt ∧ (u_y4 i).toInt ≤ 1073741823) ∧ ((1 ≤ (i : Int) ∧ (i : Int) ≤ 6) → (u_y4 i).toInt ≤ 4095))) ∧ va_P D classes (wS50 cI cJ cZ cB p0 p1 p2 p3 p4 p5 p6 p7 p8 p9 p10 p11 p12 p13 p14 p15 p16 p17 p18 p19 p20 p21 p22 p23 p24 p25 u_x0_4 u_x0_5 x0_6 x0_7 x0_8 x0_12 x0_13 x0_14 x0_15 x0_16 x0_17 x0_18 x0_22 x0_23 x0_24 x0_25 x0_26 x0_27 x0_28 x0_29 x0_30 x0_31 x0_32 x0_36 x0_39 x0_40 x0_44 x0_49 x0_51 x0_53 x0_54 x0_55 x0_56 x0_57 x0_58 x0_59 x0_60 x0_61 x0_62 y1 y2 y3 u_y4 y5 y6 y7 y8 y9 y10 y11 y12 y13 y14 y15 y16 y17 y18 y19 y20 y21 y22 y23 y24 y25) t.heap ∧ va_D (va_A (wS50 cI cJ cZ cB p0 p1 p2 p3 p4 p5 p6 p7 p8 p9 p10 p11 p12 p13 p14 p15 p16 p17 p18 p19 p20 p21 p22 p23 p24 p25 x0_4 x0_5 x0_6 x0_7 x0_8 x0_12 x0_13 x0_14 x0_15 x0_16 x0_17 x0_18 x0_22 x0_23 x0_24 x0_25 x0_26 x0_27 x0_28 x0_29 x0_30 x0_31 x0_32 x0_36 x0_39 x0_40 x0_44 x0_49 x0_51 x0_53 x0_54 x0_55 x0_56 x0_57 x0_58 x0_59 x0_60 x0_61 x0_62 y1 y2 y3 y4 y5 y6 y7 y8 y9 y10 y11 y12 y13 y14 y15 y16 y17 y18 y19 y20 y21 y22 y23 y24 y25) sz) (wS50 cI cJ cZ cB p0 p1 p2 p3 p4 p5 p6 p7 p8 p9 p10 p11 p12 p13 p14 p15 p16 p17 p18 p19 p20 p21 p22 p23 p24 p25 u_x0_4 u_x0_5 x0_6 x0_7 x0_8 x0_12 x0_13 x0_14 x0_15 x0_16 x0_17 x0_18 x0_22 x0_23 x0_24 x0_25 x0_26 x0_27 x0_28 x0_29 x0_30 x0_31 x0_32 x0_36 x0_39 x0_40 x0_44 x0_49 x0_51 x0_53 x0_54 x0_55 x0_56 x0_57 x0_58 x0_59 x0_60 x0_61 x0_62 y1 y2 y3 u_y4 y5 y6 y7 y8 y9 y10 y11 y12 y13 y14 y15 y16 y17 y18 y19 y20 y21 y22 y23 y24 y25)) (va_A (wS50 cI cJ cZ cB p0 p1 p2 p3 p4 p5 p6 p7 p8 p9 p10 p11 p12 p13 p14 p15 p16 p17 p18 p19 p20 p21 p22 p23 p24 p25 x0_4 x0_5 x0_6 x0_7 x0_8 x0_12 x0_13 x0_14 x0_15 x0_16 x0_17 x0_18 x0_22 x0_23 x0_24 x0_25 x0_26 x0_27 x0_28 x0_29 x0_30 x0_31 x0_32 x0_36 x0_39 x0_40 x0_44 x0_49 x0_51 x0_53 x0_54 x0_55 x0_56 x0_57 x0_58 x0_59 x0_60 x0_61 x0_62 y1 y2 y3 y4 y5 y6 y7 y8 y9 y10 y11 y12 y13 y14 y15 y16 y17 y18 y19 y20 y21 y22 y23 y24 y25) sz)) 0 0 (va_A (wS50 cI cJ cZ cB p0 p1 p2 p3 p4 p5 p6 p7 p8 p9 p10 p11 p12 p13 p14 p15 p16 p17 p18 p19 p20 p21 p22 p23 p24 p25 x0_4 x0_5 x0_6 x0_7 x0_8 x0_12 x0_13 x0_14 x0_15 x0_16 x0_17 x0_18 x0_22 x0_23 x0_24 x0_25 x0_26 x0_27 x0_28 x0_29 x0_30 x0_31 x0_32 x0_36 x0_39 x0_40 x0_44 x0_49 x0_51 x0_53 x0_54 x0_55 x0_56 x0_57 x0_58 x0_59 x0_60 x0_61 x0_62 y1 y2 y3 y4 y5 y6 y7 y8 y9 y10 y11 y12 y13 y14 y15 y16 y17 y18 y19 y20 y21 y22 y23 y24 y25) sz) := by
  refine Met.ofW (cc := b_X_goes39) (maxL := 3) (ret := none) (by decide) rfl ?_
  intro p e s m args below meth c s₁ B hml hv
  obtain ⟨rfl, hsz, hK, hP, hD0⟩ := hv
  subst hsz
  have hD := hD0.self (sz := s.heap.size)
  generalize hAe : va_A (wS50 cI cJ cZ cB p0 p1 p2 p3 p4 p5 p6 p7 p8 p9 p10 p11 p12 p13 p14 p15 p16 p17 p18 p19 p20 p21 p22 p23 p24 p25 x0_4 x0_5 x0_6 x0_7 x0_8 x0_12 x0_13 x0_14 x0_15 x0_16 x0_17 x0_18 x0_22 x0_23 x0_24 x0_25 x0_26 x0_27 x0_28 x0_29 x0_30 x0_31 x0_32 x0_36 x0_39 x0_40 x0_44 x0_49 x0_51 x0_53 x0_54 x0_55 x0_56 x0_57 x0_58 x0_59 x0_60 x0_61 x0_62 y1 y2 y3 y4 y5 y6 y7 y8 y9 y10 y11 y12 y13 y14 y15 y16 y17 y18 y19 y20 y21 y22 y23 y24 y25) s.heap.size = A at hD ⊢
  have hA : ∀ q : Nat, s.heap.size ≤ q → A q := fun q h => by rw [← hAe]; exact Or.inr h
  clear hAe hD0
  have hS : va_S A s.heap s.heap [] := va_S.rf
  have hx := B.exec
  have hb := B.bytes
  have hr := B.returns
  have hts := atoms_spec (ws := .code y_X_goes39 b_X_goes39 3 none :: tb) B.pre
  have hk : ∀ w ∈ tb, w.before [.ref p0].toArray s = true := fun w h => hts w (List.mem_cons_of_mem _ h)
  have hown : s.vm.findClass "SignMachineModel" = some m.cls := findClass_of_methodNamed B.named
  have hlocks := B.notSynchronized
  have hl := lv_entry ([.ref p0]) (n := 3) (Nat.le_of_ble_eq_true rfl)
  rw [lg_entry_eq]
  generalize (lg_sl ([.ref p0]) ++ List.replicate (3 - (lg_sl ([.ref p0])).length) Slot.unset).toArray = ls at hl ⊢
  have hl : lv_has ls 3 [(0, .ref p0)] := hl
  clear hts B
  refine lv_aload_n hx hb d_X_goes39_0 rfl (lv_at hl 0 rfl) ?_
  refine va_get (D := D) (ci := 7) (v := .int x0_5) (C := "SignMachineModel") (T := F_X) (N := 64) hx hb hk fi_X hown hK.1 hP 0 rfl rfl 5 (by decide) (hk _ k_1126) (fun _ h9 => h9) rfl d_X_goes39_1 ?_
  refine lv_iconst (v := 1) hx hb d_X_goes39_4 (by decide) ?_
  refine lv_icmp_ne (tgt := 12) hx hb d_X_goes39_5 (by decide) (fun c1 => ?_) (fun c1 => ?_)
  · have gc1 : x0_5.toInt ≠ (1 : Int) := c_ne c1
    refine lv_iconst (v := 0) hx hb d_X_goes39_12 (by decide) ?_
    refine lv_istore_n (lv' := [(1, .int (0 : Int32)), (0, .ref p0)]) hx hb d_X_goes39_13 rfl hl (by decide) rfl (fun ls hl => ?_)
    refine lv_aload_n hx hb d_X_goes39_14 rfl (lv_at hl 1 rfl) ?_
    refine va_get (D := D) (ci := 7) (v := .int x0_13) (C := "SignMachineModel") (T := F_X) (N := 64) hx hb hk fi_X hown hK.1 hP 0 rfl rfl 13 (by decide) (hk _ k_1134) (fun _ h9 => h9) rfl d_X_goes39_15 ?_
    refine lv_iconst (v := 2) hx hb d_X_goes39_18 (by decide) ?_
    refine lv_icmp_lt (tgt := 59) hx hb d_X_goes39_19 (by decide) (fun c2 => ?_) (fun c2 => ?_)
    · have gc2 : x0_13.toInt < (2 : Int) := c_lt c2
      have R3 : 0 ≤ x0_13.toInt ∧ x0_13.toInt ≤ 1 := rf_ltX Rx0_13 (show 2 ≤ (2 : Int) ∧ (2 : Int) ≤ 2 from by decide) gc2 (by decide) (by decide)
      refine lv_iconst (v := 1) hx hb d_X_goes39_59 (by decide) ?_
      refine lv_goto (tgt := 64) hx hb d_X_goes39_60 (by decide) ?_
      refine lv_istore_n (lv' := [(2, .int (1 : Int32)), (1, .int (0 : Int32)), (0, .ref p0)]) hx hb d_X_goes39_64 rfl hl (by decide) rfl (fun ls hl => ?_)
      refine lv_aload_n hx hb d_X_goes39_65 rfl (lv_at hl 2 rfl) ?_
      refine lv_aload_n hx hb d_X_goes39_66 rfl (lv_at hl 2 rfl) ?_
      refine va_get (D := D) (ci := 7) (v := .int x0_13) (C := "SignMachineModel") (T := F_X) (N := 64) hx hb hk fi_X hown hK.1 hP 0 rfl rfl 13 (by decide) (hk _ k_1134) (fun _ h9 => h9) rfl d_X_goes39_67 ?_
      refine lv_iconst (v := 2) hx hb d_X_goes39_70 (by decide) ?_
      refine lv_icmp_eq (tgt := 82) hx hb d_X_goes39_71 (by decide) (fun c4 => absurd c4 (show ¬ x0_13 = (2 : Int32) from (fun q9 => (knE R3 (show 2 ≤ (2 : Int) ∧ (2 : Int) ≤ 2 from by decide) (by decide)) (c_eq q9)))) (fun c4 => ?_)
      refine lv_aload_n hx hb d_X_goes39_74 rfl (lv_at hl 2 rfl) ?_
      refine va_get (D := D) (ci := 7) (v := .int x0_13) (C := "SignMachineModel") (T := F_X) (N := 64) hx hb hk fi_X hown hK.1 hP 0 rfl rfl 13 (by decide) (hk _ k_1134) (fun _ h9 => h9) rfl d_X_goes39_75 ?_
      refine lv_iconst (v := 3) hx hb d_X_goes39_78 (by decide) ?_
      refine lv_icmp_ne (tgt := 86) hx hb d_X_goes39_79 (by decide) (fun c5 => ?_) (fun c5 => absurd c5 (show ¬ x0_13 = (3 : Int32) from (fun q9 => (knE R3 (show 3 ≤ (3 : Int) ∧ (3 : Int) ≤ 3 from by decide) (by decide)) (c_eq q9))))
      refine lv_aload_n hx hb d_X_goes39_86 rfl (lv_at hl 2 rfl) ?_
      refine va_get (D := D) (ci := 7) (v := .int x0_5) (C := "SignMachineModel") (T := F_X) (N := 64) hx hb hk fi_X hown hK.1 hP 0 rfl rfl 5 (by decide) (hk _ k_1126) (fun _ h9 => h9) rfl d_X_goes39_87 ?_
      refine va_put (D := D) (ci := 7) (v := .int x0_5) (ty := .int) (C := "SignMachineModel") (T := F_X) (N := 64) hx hb hk fi_X ft_X ft_X_ok fn_X hown hK.1 hP hD hS 0 rfl rfl 5 (by decide) (hk _ k_1126) (fun _ h9 => h9) rfl (by decide +kernel) rfl rfl (Nat.le_of_ble_eq_true rfl) d_X_goes39_90 (fun H locs hP hD hS => ?_)
      have hP : va_P D classes (wS50 cI cJ cZ cB p0 p1 p2 p3 p4 p5 p6 p7 p8 p9 p10 p11 p12 p13 p14 p15 p16 p17 p18 p19 p20 p21 p22 p23 p24 p25 x0_4 x0_5 x0_6 x0_7 x0_8 x0_12 x0_13 x0_14 x0_15 x0_16 x0_17 x0_18 x0_22 x0_23 x0_24 x0_25 x0_26 x0_27 x0_28 x0_29 x0_30 x0_31 x0_32 x0_36 x0_39 x0_40 x0_44 x0_49 x0_51 x0_53 x0_54 x0_55 x0_56 x0_57 x0_58 x0_59 x0_60 x0_61 x0_62 y1 y2 y3 y4 y5 y6 y7 y8 y9 y10 y11 y12 y13 y14 y15 y16 y17 y18 y19 y20 y21 y22 y23 y24 y25) H := hP
      have hD : va_D A (wS50 cI cJ cZ cB p0 p1 p2 p3 p4 p5 p6 p7 p8 p9 p10 p11 p12 p13 p14 p15 p16 p17 p18 p19 p20 p21 p22 p23 p24 p25 x0_4 x0_5 x0_6 x0_7 x0_8 x0_12 x0_13 x0_14 x0_15 x0_16 x0_17 x0_18 x0_22 x0_23 x0_24 x0_25 x0_26 x0_27 x0_28 x0_29 x0_30 x0_31 x0_32 x0_36 x0_39 x0_40 x0_44 x0_49 x0_51 x0_53 x0_54 x0_55 x0_56 x0_57 x0_58 x0_59 x0_60 x0_61 x0_62 y1 y2 y3 y4 y5 y6 y7 y8 y9 y10 y11 y12 y13 y14 y15 y16 y17 y18 y19 y20 y21 y22 y23 y24 y25) := hD
      refine lv_aload_n hx hb d_X_goes39_93 rfl (lv_at hl 2 rfl) ?_
      refine lv_iload_n hx hb d_X_goes39_94 rfl (lv_at hl 0 rfl) ?_
      refine lv_aload_n hx hb d_X_goes39_95 rfl (lv_at hl 2 rfl) ?_
      refine va_get (D := D) (ci := 7) (v := .int x0_13) (C := "SignMachineModel") (T := F_X) (N := 64) hx hb hk fi_X hown hK.1 hP 0 rfl rfl 13 (by decide) (hk _ k_1134) (fun _ h9 => h9) rfl d_X_goes39_96 ?_
      refine lv_iconst (v := 1) hx hb d_X_goes39_99 (by decide) ?_
      refine lv_icmp_ne (tgt := 107) hx hb d_X_goes39_100 (by decide) (fun c6 => ?_) (fun c6 => ?_)
      · have gc6 : x0_13.toInt ≠ (1 : Int) := c_ne c6
        have R7 : 0 ≤ x0_13.toInt ∧ x0_13.toInt ≤ 0 := rf_neX R3 (show 1 ≤ (1 : Int) ∧ (1 : Int) ≤ 1 from by decide) gc6 (by decide) (by decide)
        refine lv_iconst (v := 0) hx hb d_X_goes39_107 (by decide) ?_
        refine kn_v (va_runV (C := "SignMachineModel") (As := [.int (1 : Int32), .int (0 : Int32)]) (rest := []) ⟨hx, hb, hml, hown, hk⟩ (c_X_goTo l D cI cJ cZ cB p0 p1 p2 p3 p4 p5 p6 p7 p8 p9 p10 p11 p12 p13 p14 p15 p16 p17 p18 p19 p20 p21 p22 p23 p24 p25 H.size x0_4 x0_5 x0_6 x0_7 x0_8 x0_12 x0_13 x0_14 x0_15 x0_16 x0_17 x0_18 x0_22 x0_23 x0_24 x0_25 x0_26 x0_27 x0_28 x0_29 x0_30 x0_31 x0_32 x0_36 x0_39 x0_40 x0_44 x0_49 x0_51 x0_53 x0_54 x0_55 x0_56 x0_57 x0_58 x0_59 x0_60 x0_61 x0_62 y1 y2 y3 y4 y5 y6 y7 y8 y9 y10 y11 y12 y13 y14 y15 y16 y17 y18 y19 y20 y21 y22 y23 y24 y25 (1 : Int32) (0 : Int32) Rx0_4 Rx0_15 Ay4 (show x0_4.toInt ≤ 3999 from by omega) (show (1 : Int) = 1 → (0 ≤ x0_15.toInt ∧ x0_15.toInt ≤ 3999) from by omega) (by decide) (by decide)) (v_X_goTo hk k_1441 ⟨Nat.le_of_ble_eq_true rfl, Nat.le_of_ble_eq_true rfl⟩) (pM_v hK hP hD (ci := 7) (q0 := 0) rfl rfl rfl) rfl rfl hl.1 rfl (lv_room (Nat.le_of_ble_eq_true rfl)) d_X_goes39_108 ⟨Nat.le_of_ble_eq_true rfl, Nat.le_of_ble_eq_true rfl⟩) hS hA hD (fun u t H locs ht hB hFr hS => ?_)
        obtain ⟨x0_4z8, y4z8, Rx0_4z8, Ay4z8, hP, hD⟩ := hB
        rw [ht] at hP
        have hD := dwk hD hFr
        clear ht hFr
        have hP : va_P D classes (wS50 cI cJ cZ cB p0 p1 p2 p3 p4 p5 p6 p7 p8 p9 p10 p11 p12 p13 p14 p15 p16 p17 p18 p19 p20 p21 p22 p23 p24 p25 x0_4z8 x0_5 x0_6 x0_7 x0_8 x0_12 x0_13 x0_14 x0_15 x0_16 x0_17 x0_18 x0_22 x0_23 x0_24 x0_25 x0_26 x0_27 x0_28 x0_29 x0_30 x0_31 x0_32 x0_36 x0_39 x0_40 x0_44 x0_49 x0_51 x0_53 x0_54 x0_55 x0_56 x0_57 x0_58 x0_59 x0_60 x0_61 x0_62 y1 y2 y3 y4z8 y5 y6 y7 y8 y9 y10 y11 y12 y13 y14 y15 y16 y17 y18 y19 y20 y21 y22 y23 y24 y25) H := hP
        have hD : va_D A (wS50 cI cJ cZ cB p0 p1 p2 p3 p4 p5 p6 p7 p8 p9 p10 p11 p12 p13 p14 p15 p16 p17 p18 p19 p20 p21 p22 p23 p24 p25 x0_4z8 x0_5 x0_6 x0_7 x0_8 x0_12 x0_13 x0_14 x0_15 x0_16 x0_17 x0_18 x0_22 x0_23 x0_24 x0_25 x0_26 x0_27 x0_28 x0_29 x0_30 x0_31 x0_32 x0_36 x0_39 x0_40 x0_44 x0_49 x0_51 x0_53 x0_54 x0_55 x0_56 x0_57 x0_58 x0_59 x0_60 x0_61 x0_62 y1 y2 y3 y4z8 y5 y6 y7 y8 y9 y10 y11 y12 y13 y14 y15 y16 y17 y18 y19 y20 y21 y22 y23 y24 y25) := hD
        exact W.vret hx hb hr (fun t ht hW => ⟨⟨(), rfl, trivial, ⟨x0_4z8, x0_5, y4z8, Rx0_4z8, Ay4z8, by show va_P D classes _ t.heap; rw [ht]; exact hP, hD⟩⟩, hS.F ht⟩) hS.2.2 d_X_goes39_111
      · have gc6 : x0_13.toInt = (1 : Int) := c_eq c6
        have R9 : 1 ≤ x0_13.toInt ∧ x0_13.toInt ≤ 1 := rf_eqX R3 (show 1 ≤ (1 : Int) ∧ (1 : Int) ≤ 1 from by decide) gc6 (by decide) (by decide)
        refine lv_iconst (v := 1) hx hb d_X_goes39_103 (by decide) ?_
        refine lv_goto (tgt := 108) hx hb d_X_goes39_104 (by decide) ?_
        refine kn_v (va_runV (C := "SignMachineModel") (As := [.int (1 : Int32), .int (1 : Int32)]) (rest := []) ⟨hx, hb, hml, hown, hk⟩ (c_X_goTo l D cI cJ cZ cB p0 p1 p2 p3 p4 p5 p6 p7 p8 p9 p10 p11 p12 p13 p14 p15 p16 p17 p18 p19 p20 p21 p22 p23 p24 p25 H.size x0_4 x0_5 x0_6 x0_7 x0_8 x0_12 x0_13 x0_14 x0_15 x0_16 x0_17 x0_18 x0_22 x0_23 x0_24 x0_25 x0_26 x0_27 x0_28 x0_29 x0_30 x0_31 x0_32 x0_36 x0_39 x0_40 x0_44 x0_49 x0_51 x0_53 x0_54 x0_55 x0_56 x0_57 x0_58 x0_59 x0_60 x0_61 x0_62 y1 y2 y3 y4 y5 y6 y7 y8 y9 y10 y11 y12 y13 y14 y15 y16 y17 y18 y19 y20 y21 y22 y23 y24 y25 (1 : Int32) (1 : Int32) Rx0_4 Rx0_15 Ay4 (show x0_4.toInt ≤ 3999 from by omega) (show (1 : Int) = 1 → (0 ≤ x0_15.toInt ∧ x0_15.toInt ≤ 3999) from by omega) (by decide) (by decide)) (v_X_goTo hk k_1441 ⟨Nat.le_of_ble_eq_true rfl, Nat.le_of_ble_eq_true rfl⟩) (pM_v hK hP hD (ci := 7) (q0 := 0) rfl rfl rfl) rfl rfl hl.1 rfl (lv_room (Nat.le_of_ble_eq_true rfl)) d_X_goes39_108 ⟨Nat.le_of_ble_eq_true rfl, Nat.le_of_ble_eq_true rfl⟩) hS hA hD (fun u t H locs ht hB hFr hS => ?_)
        obtain ⟨x0_4z10, y4z10, Rx0_4z10, Ay4z10, hP, hD⟩ := hB
        rw [ht] at hP
        have hD := dwk hD hFr
        clear ht hFr
        have hP : va_P D classes (wS50 cI cJ cZ cB p0 p1 p2 p3 p4 p5 p6 p7 p8 p9 p10 p11 p12 p13 p14 p15 p16 p17 p18 p19 p20 p21 p22 p23 p24 p25 x0_4z10 x0_5 x0_6 x0_7 x0_8 x0_12 x0_13 x0_14 x0_15 x0_16 x0_17 x0_18 x0_22 x0_23 x0_24 x0_25 x0_26 x0_27 x0_28 x0_29 x0_30 x0_31 x0_32 x0_36 x0_39 x0_40 x0_44 x0_49 x0_51 x0_53 x0_54 x0_55 x0_56 x0_57 x0_58 x0_59 x0_60 x0_61 x0_62 y1 y2 y3 y4z10 y5 y6 y7 y8 y9 y10 y11 y12 y13 y14 y15 y16 y17 y18 y19 y20 y21 y22 y23 y24 y25) H := hP
        have hD : va_D A (wS50 cI cJ cZ cB p0 p1 p2 p3 p4 p5 p6 p7 p8 p9 p10 p11 p12 p13 p14 p15 p16 p17 p18 p19 p20 p21 p22 p23 p24 p25 x0_4z10 x0_5 x0_6 x0_7 x0_8 x0_12 x0_13 x0_14 x0_15 x0_16 x0_17 x0_18 x0_22 x0_23 x0_24 x0_25 x0_26 x0_27 x0_28 x0_29 x0_30 x0_31 x0_32 x0_36 x0_39 x0_40 x0_44 x0_49 x0_51 x0_53 x0_54 x0_55 x0_56 x0_57 x0_58 x0_59 x0_60 x0_61 x0_62 y1 y2 y3 y4z10 y5 y6 y7 y8 y9 y10 y11 y12 y13 y14 y15 y16 y17 y18 y19 y20 y21 y22 y23 y24 y25) := hD
        exact W.vret hx hb hr (fun t ht hW => ⟨⟨(), rfl, trivial, ⟨x0_4z10, x0_5, y4z10, Rx0_4z10, Ay4z10, by show va_P D classes _ t.heap; rw [ht]; exact hP, hD⟩⟩, hS.F ht⟩) hS.2.2 d_X_goes39_111
    · have gc2 : (2 : Int) ≤ x0_13.toInt := c_nlt c2
      have R11 : 2 ≤ x0_13.toInt ∧ x0_13.toInt ≤ 63 := rf_geX Rx0_13 (show 2 ≤ (2 : Int) ∧ (2 : Int) ≤ 2 from by decide) gc2 (by decide) (by decide)
      refine lv_aload_n hx hb d_X_goes39_22 rfl (lv_at hl 1 rfl) ?_
      refine va_get (D := D) (ci := 7) (v := .int x0_13) (C := "SignMachineModel") (T := F_X) (N := 64) hx hb hk fi_X hown hK.1 hP 0 rfl rfl 13 (by decide) (hk _ k_1134) (fun _ h9 => h9) rfl d_X_goes39_23 ?_
      refine lv_iconst (v := 2) hx hb d_X_goes39_26 (by decide) ?_
      refine lv_icmp_ne (tgt := 37) hx hb d_X_goes39_27 (by decide) (fun c12 => ?_) (fun c12 => ?_)
      · have gc12 : x0_13.toInt ≠ (2 : Int) := c_ne c12
        have R13 : 3 ≤ x0_13.toInt ∧ x0_13.toInt ≤ 63 := rf_neX R11 (show 2 ≤ (2 : Int) ∧ (2 : Int) ≤ 2 from by decide) gc12 (by decide) (by decide)
        refine lv_aload_n hx hb d_X_goes39_37 rfl (lv_at hl 1 rfl) ?_
        refine va_get (D := D) (ci := 7) (v := .int x0_13) (C := "SignMachineModel") (T := F_X) (N := 64) hx hb hk fi_X hown hK.1 hP 0 rfl rfl 13 (by decide) (hk _ k_1134) (fun _ h9 => h9) rfl d_X_goes39_38 ?_
        refine lv_iconst (v := 3) hx hb d_X_goes39_41 (by decide) ?_
        refine lv_icmp_ne (tgt := 52) hx hb d_X_goes39_42 (by decide) (fun c14 => ?_) (fun c14 => ?_)
        · have gc14 : x0_13.toInt ≠ (3 : Int) := c_ne c14
          have R15 : 4 ≤ x0_13.toInt ∧ x0_13.toInt ≤ 63 := rf_neX R13 (show 3 ≤ (3 : Int) ∧ (3 : Int) ≤ 3 from by decide) gc14 (by decide) (by decide)
          refine lv_aload_n hx hb d_X_goes39_52 rfl (lv_at hl 1 rfl) ?_
          refine sn_i (va_runV (C := "SignMachineModel") (As := []) (rest := []) ⟨hx, hb, hml, hown, hk⟩ (c_X_goesByIndicator l D cI cJ cZ cB p0 p1 p2 p3 p4 p5 p6 p7 p8 p9 p10 p11 p12 p13 p14 p15 p16 p17 p18 p19 p20 p21 p22 p23 p24 p25 s.heap.size x0_4 x0_5 x0_6 x0_7 x0_8 x0_12 x0_13 x0_14 x0_15 x0_16 x0_17 x0_18 x0_22 x0_23 x0_24 x0_25 x0_26 x0_27 x0_28 x0_29 x0_30 x0_31 x0_32 x0_36 x0_39 x0_40 x0_44 x0_49 x0_51 x0_53 x0_54 x0_55 x0_56 x0_57 x0_58 x0_59 x0_60 x0_61 x0_62 y1 y2 y3 y4 y5 y6 y7 y8 y9 y10 y11 y12 y13 y14 y15 y16 y17 y18 y19 y20 y21 y22 y23 y24 y25  (rgw R15 (by decide) (by decide))) (v_X_goesByIndicator hk k_1437 ⟨Nat.le_of_ble_eq_true rfl, Nat.le_of_ble_eq_true rfl⟩) (pM_v hK hP hD (ci := 7) (q0 := 0) rfl rfl rfl) rfl rfl hl.1 rfl (lv_room (Nat.le_of_ble_eq_true rfl)) d_X_goes39_53 ⟨Nat.le_of_ble_eq_true rfl, Nat.le_of_ble_eq_true rfl⟩) hS hA hD (fun rz16 u t H locs hr0 ht hB hFr hS => ?_)
          subst hr0
          obtain ⟨F0z16, hP, hD⟩ := hB
          have F0z16 : 0 ≤ rz16.toInt ∧ rz16.toInt ≤ 1 := F0z16
          rw [ht] at hP
          have hD := dwk hD hFr
          clear ht hFr
          have hP : va_P D classes (wS50 cI cJ cZ cB p0 p1 p2 p3 p4 p5 p6 p7 p8 p9 p10 p11 p12 p13 p14 p15 p16 p17 p18 p19 p20 p21 p22 p23 p24 p25 x0_4 x0_5 x0_6 x0_7 x0_8 x0_12 x0_13 x0_14 x0_15 x0_16 x0_17 x0_18 x0_22 x0_23 x0_24 x0_25 x0_26 x0_27 x0_28 x0_29 x0_30 x0_31 x0_32 x0_36 x0_39 x0_40 x0_44 x0_49 x0_51 x0_53 x0_54 x0_55 x0_56 x0_57 x0_58 x0_59 x0_60 x0_61 x0_62 y1 y2 y3 y4 y5 y6 y7 y8 y9 y10 y11 y12 y13 y14 y15 y16 y17 y18 y19 y20 y21 y22 y23 y24 y25) H := hP
          have hD : va_D A (wS50 cI cJ cZ cB p0 p1 p2 p3 p4 p5 p6 p7 p8 p9 p10 p11 p12 p13 p14 p15 p16 p17 p18 p19 p20 p21 p22 p23 p24 p25 x0_4 x0_5 x0_6 x0_7 x0_8 x0_12 x0_13 x0_14 x0_15 x0_16 x0_17 x0_18 x0_22 x0_23 x0_24 x0_25 x0_26 x0_27 x0_28 x0_29 x0_30 x0_31 x0_32 x0_36 x0_39 x0_40 x0_44 x0_49 x0_51 x0_53 x0_54 x0_55 x0_56 x0_57 x0_58 x0_59 x0_60 x0_61 x0_62 y1 y2 y3 y4 y5 y6 y7 y8 y9 y10 y11 y12 y13 y14 y15 y16 y17 y18 y19 y20 y21 y22 y23 y24 y25) := hD
          refine lv_if_eq (tgt := 63) hx hb d_X_goes39_56 (by decide) (fun c17 => ?_) (fun c17 => ?_)
          · have gc17 : rz16.toInt = (0 : Int) := c_eq c17
            have R18 : 0 ≤ rz16.toInt ∧ rz16.toInt ≤ 0 := rf_eqX F0z16 (show 0 ≤ (0 : Int) ∧ (0 : Int) ≤ 0 from by decide) gc17 (by decide) (by decide)
            refine lv_iconst (v := 0) hx hb d_X_goes39_63 (by decide) ?_
            refine lv_istore_n (lv' := [(2, .int (0 : Int32)), (1, .int (0 : Int32)), (0, .ref p0)]) hx hb d_X_goes39_64 rfl hl (by decide) rfl (fun ls hl => ?_)
            refine lv_aload_n hx hb d_X_goes39_65 rfl (lv_at hl 2 rfl) ?_
            refine lv_aload_n hx hb d_X_goes39_66 rfl (lv_at hl 2 rfl) ?_
            refine va_get (D := D) (ci := 7) (v := .int x0_13) (C := "SignMachineModel") (T := F_X) (N := 64) hx hb hk fi_X hown hK.1 hP 0 rfl rfl 13 (by decide) (hk _ k_1134) (fun _ h9 => h9) rfl d_X_goes39_67 ?_
            refine lv_iconst (v := 2) hx hb d_X_goes39_70 (by decide) ?_
            refine lv_icmp_eq (tgt := 82) hx hb d_X_goes39_71 (by decide) (fun c19 => absurd c19 (show ¬ x0_13 = (2 : Int32) from c12)) (fun c19 => ?_)
            refine lv_aload_n hx hb d_X_goes39_74 rfl (lv_at hl 2 rfl) ?_
            refine va_get (D := D) (ci := 7) (v := .int x0_13) (C := "SignMachineModel") (T := F_X) (N := 64) hx hb hk fi_X hown hK.1 hP 0 rfl rfl 13 (by decide) (hk _ k_1134) (fun _ h9 => h9) rfl d_X_goes39_75 ?_
            refine lv_iconst (v := 3) hx hb d_X_goes39_78 (by decide) ?_
            refine lv_icmp_ne (tgt := 86) hx hb d_X_goes39_79 (by decide) (fun c20 => ?_) (fun c20 => absurd c20 (show ¬ x0_13 = (3 : Int32) from c14))
            refine lv_aload_n hx hb d_X_goes39_86 rfl (lv_at hl 2 rfl) ?_
            refine va_get (D := D) (ci := 7) (v := .int x0_5) (C := "SignMachineModel") (T := F_X) (N := 64) hx hb hk fi_X hown hK.1 hP 0 rfl rfl 5 (by decide) (hk _ k_1126) (fun _ h9 => h9) rfl d_X_goes39_87 ?_
            refine va_put (D := D) (ci := 7) (v := .int x0_5) (ty := .int) (C := "SignMachineModel") (T := F_X) (N := 64) hx hb hk fi_X ft_X ft_X_ok fn_X hown hK.1 hP hD hS 0 rfl rfl 5 (by decide) (hk _ k_1126) (fun _ h9 => h9) rfl (by decide +kernel) rfl rfl (Nat.le_of_ble_eq_true rfl) d_X_goes39_90 (fun H locs hP hD hS => ?_)
            have hP : va_P D classes (wS50 cI cJ cZ cB p0 p1 p2 p3 p4 p5 p6 p7 p8 p9 p10 p11 p12 p13 p14 p15 p16 p17 p18 p19 p20 p21 p22 p23 p24 p25 x0_4 x0_5 x0_6 x0_7 x0_8 x0_12 x0_13 x0_14 x0_15 x0_16 x0_17 x0_18 x0_22 x0_23 x0_24 x0_25 x0_26 x0_27 x0_28 x0_29 x0_30 x0_31 x0_32 x0_36 x0_39 x0_40 x0_44 x0_49 x0_51 x0_53 x0_54 x0_55 x0_56 x0_57 x0_58 x0_59 x0_60 x0_61 x0_62 y1 y2 y3 y4 y5 y6 y7 y8 y9 y10 y11 y12 y13 y14 y15 y16 y17 y18 y19 y20 y21 y22 y23 y24 y25) H := hP
            have hD : va_D A (wS50 cI cJ cZ cB p0 p1 p2 p3 p4 p5 p6 p7 p8 p9 p10 p11 p12 p13 p14 p15 p16 p17 p18 p19 p20 p21 p22 p23 p24 p25 x0_4 x0_5 x0_6 x0_7 x0_8 x0_12 x0_13 x0_14 x0_15 x0_16 x0_17 x0_18 x0_22 x0_23 x0_24 x0_25 x0_26 x0_27 x0_28 x0_29 x0_30 x0_31 x0_32 x0_36 x0_39 x0_40 x0_44 x0_49 x0_51 x0_53 x0_54 x0_55 x0_56 x0_57 x0_58 x0_59 x0_60 x0_61 x0_62 y1 y2 y3 y4 y5 y6 y7 y8 y9 y10 y11 y12 y13 y14 y15 y16 y17 y18 y19 y20 y21 y22 y23 y24 y25) := hD
            refine lv_aload_n hx hb d_X_goes39_93 rfl (lv_at hl 2 rfl) ?_
            refine lv_iload_n hx hb d_X_goes39_94 rfl (lv_at hl 0 rfl) ?_
            refine lv_aload_n hx hb d_X_goes39_95 rfl (lv_at hl 2 rfl) ?_
            refine va_get (D := D) (ci := 7) (v := .int x0_13) (C := "SignMachineModel") (T := F_X) (N := 64) hx hb hk fi_X hown hK.1 hP 0 rfl rfl 13 (by decide) (hk _ k_1134) (fun _ h9 => h9) rfl d_X_goes39_96 ?_
            refine lv_iconst (v := 1) hx hb d_X_goes39_99 (by decide) ?_
            refine lv_icmp_ne (tgt := 107) hx hb d_X_goes39_100 (by decide) (fun c21 => ?_) (fun c21 => absurd c21 (show ¬ x0_13 = (1 : Int32) from (fun q9 => (knE R15 (show 1 ≤ (1 : Int) ∧ (1 : Int) ≤ 1 from by decide) (by decide)) (c_eq q9))))
            refine lv_iconst (v := 0) hx hb d_X_goes39_107 (by decide) ?_
            refine kn_v (va_runV (C := "SignMachineModel") (As := [.int (0 : Int32), .int (0 : Int32)]) (rest := []) ⟨hx, hb, hml, hown, hk⟩ (c_X_goTo l D cI cJ cZ cB p0 p1 p2 p3 p4 p5 p6 p7 p8 p9 p10 p11 p12 p13 p14 p15 p16 p17 p18 p19 p20 p21 p22 p23 p24 p25 H.size x0_4 x0_5 x0_6 x0_7 x0_8 x0_12 x0_13 x0_14 x0_15 x0_16 x0_17 x0_18 x0_22 x0_23 x0_24 x0_25 x0_26 x0_27 x0_28 x0_29 x0_30 x0_31 x0_32 x0_36 x0_39 x0_40 x0_44 x0_49 x0_51 x0_53 x0_54 x0_55 x0_56 x0_57 x0_58 x0_59 x0_60 x0_61 x0_62 y1 y2 y3 y4 y5 y6 y7 y8 y9 y10 y11 y12 y13 y14 y15 y16 y17 y18 y19 y20 y21 y22 y23 y24 y25 (0 : Int32) (0 : Int32) Rx0_4 Rx0_15 Ay4 (show x0_4.toInt ≤ 3999 from by omega) (show (0 : Int) = 1 → (0 ≤ x0_15.toInt ∧ x0_15.toInt ≤ 3999) from by omega) (by decide) (by decide)) (v_X_goTo hk k_1441 ⟨Nat.le_of_ble_eq_true rfl, Nat.le_of_ble_eq_true rfl⟩) (pM_v hK hP hD (ci := 7) (q0 := 0) rfl rfl rfl) rfl rfl hl.1 rfl (lv_room (Nat.le_of_ble_eq_true rfl)) d_X_goes39_108 ⟨Nat.le_of_ble_eq_true rfl, Nat.le_of_ble_eq_true rfl⟩) hS hA hD (fun u t H locs ht hB hFr hS => ?_)
            obtain ⟨x0_4z22, y4z22, Rx0_4z22, Ay4z22, hP, hD⟩ := hB
            rw [ht] at hP
            have hD := dwk hD hFr
            clear ht hFr
            have hP : va_P D classes (wS50 cI cJ cZ cB p0 p1 p2 p3 p4 p5 p6 p7 p8 p9 p10 p11 p12 p13 p14 p15 p16 p17 p18 p19 p20 p21 p22 p23 p24 p25 x0_4z22 x0_5 x0_6 x0_7 x0_8 x0_12 x0_13 x0_14 x0_15 x0_16 x0_17 x0_18 x0_22 x0_23 x0_24 x0_25 x0_26 x0_27 x0_28 x0_29 x0_30 x0_31 x0_32 x0_36 x0_39 x0_40 x0_44 x0_49 x0_51 x0_53 x0_54 x0_55 x0_56 x0_57 x0_58 x0_59 x0_60 x0_61 x0_62 y1 y2 y3 y4z22 y5 y6 y7 y8 y9 y10 y11 y12 y13 y14 y15 y16 y17 y18 y19 y20 y21 y22 y23 y24 y25) H := hP
            have hD : va_D A (wS50 cI cJ cZ cB p0 p1 p2 p3 p4 p5 p6 p7 p8 p9 p10 p11 p12 p13 p14 p15 p16 p17 p18 p19 p20 p21 p22 p23 p24 p25 x0_4z22 x0_5 x0_6 x0_7 x0_8 x0_12 x0_13 x0_14 x0_15 x0_16 x0_17 x0_18 x0_22 x0_23 x0_24 x0_25 x0_26 x0_27 x0_28 x0_29 x0_30 x0_31 x0_32 x0_36 x0_39 x0_40 x0_44 x0_49 x0_51 x0_53 x0_54 x0_55 x0_56 x0_57 x0_58 x0_59 x0_60 x0_61 x0_62 y1 y2 y3 y4z22 y5 y6 y7 y8 y9 y10 y11 y12 y13 y14 y15 y16 y17 y18 y19 y20 y21 y22 y23 y24 y25) := hD
            exact W.vret hx hb hr (fun t ht hW => ⟨⟨(), rfl, trivial, ⟨x0_4z22, x0_5, y4z22, Rx0_4z22, Ay4z22, by show va_P D classes _ t.heap; rw [ht]; exact hP, hD⟩⟩, hS.F ht⟩) hS.2.2 d_X_goes39_111
          · have gc17 : rz16.toInt ≠ (0 : Int) := c_ne c17
            have R23 : 1 ≤ rz16.toInt ∧ rz16.toInt ≤ 1 := rf_neX F0z16 (show 0 ≤ (0 : Int) ∧ (0 : Int) ≤ 0 from by decide) gc17 (by decide) (by decide)
            refine lv_iconst (v := 1) hx hb d_X_goes39_59 (by decide) ?_
            refine lv_goto (tgt := 64) hx hb d_X_goes39_60 (by decide) ?_
            refine lv_istore_n (lv' := [(2, .int (1 : Int32)), (1, .int (0 : Int32)), (0, .ref p0)]) hx hb d_X_goes39_64 rfl hl (by decide) rfl (fun ls hl => ?_)
            refine lv_aload_n hx hb d_X_goes39_65 rfl (lv_at hl 2 rfl) ?_
            refine lv_aload_n hx hb d_X_goes39_66 rfl (lv_at hl 2 rfl) ?_
            refine va_get (D := D) (ci := 7) (v := .int x0_13) (C := "SignMachineModel") (T := F_X) (N := 64) hx hb hk fi_X hown hK.1 hP 0 rfl rfl 13 (by decide) (hk _ k_1134) (fun _ h9 => h9) rfl d_X_goes39_67 ?_
            refine lv_iconst (v := 2) hx hb d_X_goes39_70 (by decide) ?_
            refine lv_icmp_eq (tgt := 82) hx hb d_X_goes39_71 (by decide) (fun c24 => absurd c24 (show ¬ x0_13 = (2 : Int32) from c12)) (fun c24 => ?_)
            refine lv_aload_n hx hb d_X_goes39_74 rfl (lv_at hl 2 rfl) ?_
            refine va_get (D := D) (ci := 7) (v := .int x0_13) (C := "SignMachineModel") (T := F_X) (N := 64) hx hb hk fi_X hown hK.1 hP 0 rfl rfl 13 (by decide) (hk _ k_1134) (fun _ h9 => h9) rfl d_X_goes39_75 ?_
            refine lv_iconst (v := 3) hx hb d_X_goes39_78 (by decide) ?_
            refine lv_icmp_ne (tgt := 86) hx hb d_X_goes39_79 (by decide) (fun c25 => ?_) (fun c25 => absurd c25 (show ¬ x0_13 = (3 : Int32) from c14))
            refine lv_aload_n hx hb d_X_goes39_86 rfl (lv_at hl 2 rfl) ?_
            refine va_get (D := D) (ci := 7) (v := .int x0_5) (C := "SignMachineModel") (T := F_X) (N := 64) hx hb hk fi_X hown hK.1 hP 0 rfl rfl 5 (by decide) (hk _ k_1126) (fun _ h9 => h9) rfl d_X_goes39_87 ?_
            refine va_put (D := D) (ci := 7) (v := .int x0_5) (ty := .int) (C := "SignMachineModel") (T := F_X) (N := 64) hx hb hk fi_X ft_X ft_X_ok fn_X hown hK.1 hP hD hS 0 rfl rfl 5 (by decide) (hk _ k_1126) (fun _ h9 => h9) rfl (by decide +kernel) rfl rfl (Nat.le_of_ble_eq_true rfl) d_X_goes39_90 (fun H locs hP hD hS => ?_)
            have hP : va_P D classes (wS50 cI cJ cZ cB p0 p1 p2 p3 p4 p5 p6 p7 p8 p9 p10 p11 p12 p13 p14 p15 p16 p17 p18 p19 p20 p21 p22 p23 p24 p25 x0_4 x0_5 x0_6 x0_7 x0_8 x0_12 x0_13 x0_14 x0_15 x0_16 x0_17 x0_18 x0_22 x0_23 x0_24 x0_25 x0_26 x0_27 x0_28 x0_29 x0_30 x0_31 x0_32 x0_36 x0_39 x0_40 x0_44 x0_49 x0_51 x0_53 x0_54 x0_55 x0_56 x0_57 x0_58 x0_59 x0_60 x0_61 x0_62 y1 y2 y3 y4 y5 y6 y7 y8 y9 y10 y11 y12 y13 y14 y15 y16 y17 y18 y19 y20 y21 y22 y23 y24 y25) H := hP
            have hD : va_D A (wS50 cI cJ cZ cB p0 p1 p2 p3 p4 p5 p6 p7 p8 p9 p10 p11 p12 p13 p14 p15 p16 p17 p18 p19 p20 p21 p22 p23 p24 p25 x0_4 x0_5 x0_6 x0_7 x0_8 x0_12 x0_13 x0_14 x0_15 x0_16 x0_17 x0_18 x0_22 x0_23 x0_24 x0_25 x0_26 x0_27 x0_28 x0_29 x0_30 x0_31 x0_32 x0_36 x0_39 x0_40 x0_44 x0_49 x0_51 x0_53 x0_54 x0_55 x0_56 x0_57 x0_58 x0_59 x0_60 x0_61 x0_62 y1 y2 y3 y4 y5 y6 y7 y8 y9 y10 y11 y12 y13 y14 y15 y16 y17 y18 y19 y20 y21 y22 y23 y24 y25) := hD
            refine lv_aload_n hx hb d_X_goes39_93 rfl (lv_at hl 2 rfl) ?_
            refine lv_iload_n hx hb d_X_goes39_94 rfl (lv_at hl 0 rfl) ?_
            refine lv_aload_n hx hb d_X_goes39_95 rfl (lv_at hl 2 rfl) ?_
            refine va_get (D := D) (ci := 7) (v := .int x0_13) (C := "SignMachineModel") (T := F_X) (N := 64) hx hb hk fi_X hown hK.1 hP 0 rfl rfl 13 (by decide) (hk _ k_1134) (fun _ h9 => h9) rfl d_X_goes39_96 ?_
            refine lv_iconst (v := 1) hx hb d_X_goes39_99 (by decide) ?_
            refine lv_icmp_ne (tgt := 107) hx hb d_X_goes39_100 (by decide) (fun c26 => ?_) (fun c26 => absurd c26 (show ¬ x0_13 = (1 : Int32) from (fun q9 => (knE R15 (show 1 ≤ (1 : Int) ∧ (1 : Int) ≤ 1 from by decide) (by decide)) (c_eq q9))))
            refine lv_iconst (v := 0) hx hb d_X_goes39_107 (by decide) ?_
            refine kn_v (va_runV (C := "SignMachineModel") (As := [.int (1 : Int32), .int (0 : Int32)]) (rest := []) ⟨hx, hb, hml, hown, hk⟩ (c_X_goTo l D cI cJ cZ cB p0 p1 p2 p3 p4 p5 p6 p7 p8 p9 p10 p11 p12 p13 p14 p15 p16 p17 p18 p19 p20 p21 p22 p23 p24 p25 H.size x0_4 x0_5 x0_6 x0_7 x0_8 x0_12 x0_13 x0_14 x0_15 x0_16 x0_17 x0_18 x0_22 x0_23 x0_24 x0_25 x0_26 x0_27 x0_28 x0_29 x0_30 x0_31 x0_32 x0_36 x0_39 x0_40 x0_44 x0_49 x0_51 x0_53 x0_54 x0_55 x0_56 x0_57 x0_58 x0_59 x0_60 x0_61 x0_62 y1 y2 y3 y4 y5 y6 y7 y8 y9 y10 y11 y12 y13 y14 y15 y16 y17 y18 y19 y20 y21 y22 y23 y24 y25 (1 : Int32) (0 : Int32) Rx0_4 Rx0_15 Ay4 (show x0_4.toInt ≤ 3999 from by omega) (show (1 : Int) = 1 → (0 ≤ x0_15.toInt ∧ x0_15.toInt ≤ 3999) from by omega) (by decide) (by decide)) (v_X_goTo hk k_1441 ⟨Nat.le_of_ble_eq_true rfl, Nat.le_of_ble_eq_true rfl⟩) (pM_v hK hP hD (ci := 7) (q0 := 0) rfl rfl rfl) rfl rfl hl.1 rfl (lv_room (Nat.le_of_ble_eq_true rfl)) d_X_goes39_108 ⟨Nat.le_of_ble_eq_true rfl, Nat.le_of_ble_eq_true rfl⟩) hS hA hD (fun u t H locs ht hB hFr hS => ?_)
            obtain ⟨x0_4z27, y4z27, Rx0_4z27, Ay4z27, hP, hD⟩ := hB
            rw [ht] at hP
            have hD := dwk hD hFr
            clear ht hFr
            have hP : va_P D classes (wS50 cI cJ cZ cB p0 p1 p2 p3 p4 p5 p6 p7 p8 p9 p10 p11 p12 p13 p14 p15 p16 p17 p18 p19 p20 p21 p22 p23 p24 p25 x0_4z27 x0_5 x0_6 x0_7 x0_8 x0_12 x0_13 x0_14 x0_15 x0_16 x0_17 x0_18 x0_22 x0_23 x0_24 x0_25 x0_26 x0_27 x0_28 x0_29 x0_30 x0_31 x0_32 x0_36 x0_39 x0_40 x0_44 x0_49 x0_51 x0_53 x0_54 x0_55 x0_56 x0_57 x0_58 x0_59 x0_60 x0_61 x0_62 y1 y2 y3 y4z27 y5 y6 y7 y8 y9 y10 y11 y12 y13 y14 y15 y16 y17 y18 y19 y20 y21 y22 y23 y24 y25) H := hP
            have hD : va_D A (wS50 cI cJ cZ cB p0 p1 p2 p3 p4 p5 p6 p7 p8 p9 p10 p11 p12 p13 p14 p15 p16 p17 p18 p19 p20 p21 p22 p23 p24 p25 x0_4z27 x0_5 x0_6 x0_7 x0_8 x0_12 x0_13 x0_14 x0_15 x0_16 x0_17 x0_18 x0_22 x0_23 x0_24 x0_25 x0_26 x0_27 x0_28 x0_29 x0_30 x0_31 x0_32 x0_36 x0_39 x0_40 x0_44 x0_49 x0_51 x0_53 x0_54 x0_55 x0_56 x0_57 x0_58 x0_59 x0_60 x0_61 x0_62 y1 y2 y3 y4z27 y5 y6 y7 y8 y9 y10 y11 y12 y13 y14 y15 y16 y17 y18 y19 y20 y21 y22 y23 y24 y25) := hD
            exact W.vret hx hb hr (fun t ht hW => ⟨⟨(), rfl, trivial, ⟨x0_4z27, x0_5, y4z27, Rx0_4z27, Ay4z27, by show va_P D classes _ t.heap; rw [ht]; exact hP, hD⟩⟩, hS.F ht⟩) hS.2.2 d_X_goes39_111
        · have gc14 : x0_13.toInt = (3 : Int) := c_eq c14
          have R28 : 3 ≤ x0_13.toInt ∧ x0_13.toInt ≤ 3 := rf_eqX R13 (show 3 ≤ (3 : Int) ∧ (3 : Int) ≤ 3 from by decide) gc14 (by decide) (by decide)
          refine lv_iload_n hx hb d_X_goes39_45 rfl (lv_at hl 0 rfl) ?_
          refine lv_if_ne (tgt := 63) hx hb d_X_goes39_46 (by decide) (fun c29 => absurd (show (0 : Int32) = (0 : Int32) from (by decide)) c29) (fun c29 => ?_)
          refine lv_goto (tgt := 59) hx hb d_X_goes39_49 (by decide) ?_
          refine lv_iconst (v := 1) hx hb d_X_goes39_59 (by decide) ?_
          refine lv_goto (tgt := 64) hx hb d_X_goes39_60 (by decide) ?_
          refine lv_istore_n (lv' := [(2, .int (1 : Int32)), (1, .int (0 : Int32)), (0, .ref p0)]) hx hb d_X_goes39_64 rfl hl (by decide) rfl (fun ls hl => ?_)
          refine lv_aload_n hx hb d_X_goes39_65 rfl (lv_at hl 2 rfl) ?_
          refine lv_aload_n hx hb d_X_goes39_66 rfl (lv_at hl 2 rfl) ?_
          refine va_get (D := D) (ci := 7) (v := .int x0_13) (C := "SignMachineModel") (T := F_X) (N := 64) hx hb hk fi_X hown hK.1 hP 0 rfl rfl 13 (by decide) (hk _ k_1134) (fun _ h9 => h9) rfl d_X_goes39_67 ?_
          refine lv_iconst (v := 2) hx hb d_X_goes39_70 (by decide) ?_
          refine lv_icmp_eq (tgt := 82) hx hb d_X_goes39_71 (by decide) (fun c30 => absurd c30 (show ¬ x0_13 = (2 : Int32) from c12)) (fun c30 => ?_)
          refine lv_aload_n hx hb d_X_goes39_74 rfl (lv_at hl 2 rfl) ?_
          refine va_get (D := D) (ci := 7) (v := .int x0_13) (C := "SignMachineModel") (T := F_X) (N := 64) hx hb hk fi_X hown hK.1 hP 0 rfl rfl 13 (by decide) (hk _ k_1134) (fun _ h9 => h9) rfl d_X_goes39_75 ?_
          refine lv_iconst (v := 3) hx hb d_X_goes39_78 (by decide) ?_
          refine lv_icmp_ne (tgt := 86) hx hb d_X_goes39_79 (by decide) (fun c31 => absurd (show x0_13 = (3 : Int32) from c14) c31) (fun c31 => ?_)
          refine lv_iconst (v := 0) hx hb d_X_goes39_82 (by decide) ?_
          refine lv_goto (tgt := 90) hx hb d_X_goes39_83 (by decide) ?_
          refine va_put (D := D) (ci := 7) (v := .int (0 : Int32)) (ty := .int) (C := "SignMachineModel") (T := F_X) (N := 64) hx hb hk fi_X ft_X ft_X_ok fn_X hown hK.1 hP hD hS 0 rfl rfl 5 (by decide) (hk _ k_1126) (fun _ h9 => h9) rfl (by decide +kernel) rfl rfl (Nat.le_of_ble_eq_true rfl) d_X_goes39_90 (fun H locs hP hD hS => ?_)
          have hP : va_P D classes (wS50 cI cJ cZ cB p0 p1 p2 p3 p4 p5 p6 p7 p8 p9 p10 p11 p12 p13 p14 p15 p16 p17 p18 p19 p20 p21 p22 p23 p24 p25 x0_4 (0 : Int32) x0_6 x0_7 x0_8 x0_12 x0_13 x0_14 x0_15 x0_16 x0_17 x0_18 x0_22 x0_23 x0_24 x0_25 x0_26 x0_27 x0_28 x0_29 x0_30 x0_31 x0_32 x0_36 x0_39 x0_40 x0_44 x0_49 x0_51 x0_53 x0_54 x0_55 x0_56 x0_57 x0_58 x0_59 x0_60 x0_61 x0_62 y1 y2 y3 y4 y5 y6 y7 y8 y9 y10 y11 y12 y13 y14 y15 y16 y17 y18 y19 y20 y21 y22 y23 y24 y25) H := hP
          have hD : va_D A (wS50 cI cJ cZ cB p0 p1 p2 p3 p4 p5 p6 p7 p8 p9 p10 p11 p12 p13 p14 p15 p16 p17 p18 p19 p20 p21 p22 p23 p24 p25 x0_4 (0 : Int32) x0_6 x0_7 x0_8 x0_12 x0_13 x0_14 x0_15 x0_16 x0_17 x0_18 x0_22 x0_23 x0_24 x0_25 x0_26 x0_27 x0_28 x0_29 x0_30 x0_31 x0_32 x0_36 x0_39 x0_40 x0_44 x0_49 x0_51 x0_53 x0_54 x0_55 x0_56 x0_57 x0_58 x0_59 x0_60 x0_61 x0_62 y1 y2 y3 y4 y5 y6 y7 y8 y9 y10 y11 y12 y13 y14 y15 y16 y17 y18 y19 y20 y21 y22 y23 y24 y25) := hD
          refine lv_aload_n hx hb d_X_goes39_93 rfl (lv_at hl 2 rfl) ?_
          refine lv_iload_n hx hb d_X_goes39_94 rfl (lv_at hl 0 rfl) ?_
          refine lv_aload_n hx hb d_X_goes39_95 rfl (lv_at hl 2 rfl) ?_
          refine va_get (D := D) (ci := 7) (v := .int x0_13) (C := "SignMachineModel") (T := F_X) (N := 64) hx hb hk fi_X hown hK.1 hP 0 rfl rfl 13 (by decide) (hk _ k_1134) (fun _ h9 => h9) rfl d_X_goes39_96 ?_
          refine lv_iconst (v := 1) hx hb d_X_goes39_99 (by decide) ?_
          refine lv_icmp_ne (tgt := 107) hx hb d_X_goes39_100 (by decide) (fun c32 => ?_) (fun c32 => absurd c32 (show ¬ x0_13 = (1 : Int32) from (fun q9 => (knE R28 (show 1 ≤ (1 : Int) ∧ (1 : Int) ≤ 1 from by decide) (by decide)) (c_eq q9))))
          refine lv_iconst (v := 0) hx hb d_X_goes39_107 (by decide) ?_
          refine kn_v (va_runV (C := "SignMachineModel") (As := [.int (1 : Int32), .int (0 : Int32)]) (rest := []) ⟨hx, hb, hml, hown, hk⟩ (c_X_goTo l D cI cJ cZ cB p0 p1 p2 p3 p4 p5 p6 p7 p8 p9 p10 p11 p12 p13 p14 p15 p16 p17 p18 p19 p20 p21 p22 p23 p24 p25 H.size x0_4 (0 : Int32) x0_6 x0_7 x0_8 x0_12 x0_13 x0_14 x0_15 x0_16 x0_17 x0_18 x0_22 x0_23 x0_24 x0_25 x0_26 x0_27 x0_28 x0_29 x0_30 x0_31 x0_32 x0_36 x0_39 x0_40 x0_44 x0_49 x0_51 x0_53 x0_54 x0_55 x0_56 x0_57 x0_58 x0_59 x0_60 x0_61 x0_62 y1 y2 y3 y4 y5 y6 y7 y8 y9 y10 y11 y12 y13 y14 y15 y16 y17 y18 y19 y20 y21 y22 y23 y24 y25 (1 : Int32) (0 : Int32) Rx0_4 Rx0_15 Ay4 (show x0_4.toInt ≤ 3999 from by omega) (show (1 : Int) = 1 → (0 ≤ x0_15.toInt ∧ x0_15.toInt ≤ 3999) from by omega) (by decide) (by decide)) (v_X_goTo hk k_1441 ⟨Nat.le_of_ble_eq_true rfl, Nat.le_of_ble_eq_true rfl⟩) (pM_v hK hP hD (ci := 7) (q0 := 0) rfl rfl rfl) rfl rfl hl.1 rfl (lv_room (Nat.le_of_ble_eq_true rfl)) d_X_goes39_108 ⟨Nat.le_of_ble_eq_true rfl, Nat.le_of_ble_eq_true rfl⟩) hS hA hD (fun u t H locs ht hB hFr hS => ?_)
          obtain ⟨x0_4z33, y4z33, Rx0_4z33, Ay4z33, hP, hD⟩ := hB
          rw [ht] at hP
          have hD := dwk hD hFr
          clear ht hFr
          have hP : va_P D classes (wS50 cI cJ cZ cB p0 p1 p2 p3 p4 p5 p6 p7 p8 p9 p10 p11 p12 p13 p14 p15 p16 p17 p18 p19 p20 p21 p22 p23 p24 p25 x0_4z33 (0 : Int32) x0_6 x0_7 x0_8 x0_12 x0_13 x0_14 x0_15 x0_16 x0_17 x0_18 x0_22 x0_23 x0_24 x0_25 x0_26 x0_27 x0_28 x0_29 x0_30 x0_31 x0_32 x0_36 x0_39 x0_40 x0_44 x0_49 x0_51 x0_53 x0_54 x0_55 x0_56 x0_57 x0_58 x0_59 x0_60 x0_61 x0_62 y1 y2 y3 y4z33 y5 y6 y7 y8 y9 y10 y11 y12 y13 y14 y15 y16 y17 y18 y19 y20 y21 y22 y23 y24 y25) H := hP
          have hD : va_D A (wS50 cI cJ cZ cB p0 p1 p2 p3 p4 p5 p6 p7 p8 p9 p10 p11 p12 p13 p14 p15 p16 p17 p18 p19 p20 p21 p22 p23 p24 p25 x0_4z33 (0 : Int32) x0_6 x0_7 x0_8 x0_12 x0_13 x0_14 x0_15 x0_16 x0_17 x0_18 x0_22 x0_23 x0_24 x0_25 x0_26 x0_27 x0_28 x0_29 x0_30 x0_31 x0_32 x0_36 x0_39 x0_40 x0_44 x0_49 x0_51 x0_53 x0_54 x0_55 x0_56 x0_57 x0_58 x0_59 x0_60 x0_61 x0_62 y1 y2 y3 y4z33 y5 y6 y7 y8 y9 y10 y11 y12 y13 y14 y15 y16 y17 y18 y19 y20 y21 y22 y23 y24 y25) := hD
          exact W.vret hx hb hr (fun t ht hW => ⟨⟨(), rfl, trivial, ⟨x0_4z33, (0 : Int32), y4z33, Rx0_4z33, Ay4z33, by show va_P D classes _ t.heap; rw [ht]; exact hP, hD⟩⟩, hS.F ht⟩) hS.2.2 d_X_goes39_111
      · have gc12 : x0_13.toInt = (2 : Int) := c_eq c12
        have R34 : 2 ≤ x0_13.toInt ∧ x0_13.toInt ≤ 2 := rf_eqX R11 (show 2 ≤ (2 : Int) ∧ (2 : Int) ≤ 2 from by decide) gc12 (by decide) (by decide)
        refine lv_iload_n hx hb d_X_goes39_30 rfl (lv_at hl 0 rfl) ?_
        refine lv_if_eq (tgt := 63) hx hb d_X_goes39_31 (by decide) (fun c35 => ?_) (fun c35 => absurd (show (0 : Int32) = (0 : Int32) from (by decide)) c35)
        refine lv_iconst (v := 0) hx hb d_X_goes39_63 (by decide) ?_
        refine lv_istore_n (lv' := [(2, .int (0 : Int32)), (1, .int (0 : Int32)), (0, .ref p0)]) hx hb d_X_goes39_64 rfl hl (by decide) rfl (fun ls hl => ?_)
        refine lv_aload_n hx hb d_X_goes39_65 rfl (lv_at hl 2 rfl) ?_
        refine lv_aload_n hx hb d_X_goes39_66 rfl (lv_at hl 2 rfl) ?_
        refine va_get (D := D) (ci := 7) (v := .int x0_13) (C := "SignMachineModel") (T := F_X) (N := 64) hx hb hk fi_X hown hK.1 hP 0 rfl rfl 13 (by decide) (hk _ k_1134) (fun _ h9 => h9) rfl d_X_goes39_67 ?_
        refine lv_iconst (v := 2) hx hb d_X_goes39_70 (by decide) ?_
        refine lv_icmp_eq (tgt := 82) hx hb d_X_goes39_71 (by decide) (fun c36 => ?_) (fun c36 => absurd (show x0_13 = (2 : Int32) from c12) c36)
        refine lv_iconst (v := 0) hx hb d_X_goes39_82 (by decide) ?_
        refine lv_goto (tgt := 90) hx hb d_X_goes39_83 (by decide) ?_
        refine va_put (D := D) (ci := 7) (v := .int (0 : Int32)) (ty := .int) (C := "SignMachineModel") (T := F_X) (N := 64) hx hb hk fi_X ft_X ft_X_ok fn_X hown hK.1 hP hD hS 0 rfl rfl 5 (by decide) (hk _ k_1126) (fun _ h9 => h9) rfl (by decide +kernel) rfl rfl (Nat.le_of_ble_eq_true rfl) d_X_goes39_90 (fun H locs hP hD hS => ?_)
        have hP : va_P D classes (wS50 cI cJ cZ cB p0 p1 p2 p3 p4 p5 p6 p7 p8 p9 p10 p11 p12 p13 p14 p15 p16 p17 p18 p19 p20 p21 p22 p23 p24 p25 x0_4 (0 : Int32) x0_6 x0_7 x0_8 x0_12 x0_13 x0_14 x0_15 x0_16 x0_17 x0_18 x0_22 x0_23 x0_24 x0_25 x0_26 x0_27 x0_28 x0_29 x0_30 x0_31 x0_32 x0_36 x0_39 x0_40 x0_44 x0_49 x0_51 x0_53 x0_54 x0_55 x0_56 x0_57 x0_58 x0_59 x0_60 x0_61 x0_62 y1 y2 y3 y4 y5 y6 y7 y8 y9 y10 y11 y12 y13 y14 y15 y16 y17 y18 y19 y20 y21 y22 y23 y24 y25) H := hP
        have hD : va_D A (wS50 cI cJ cZ cB p0 p1 p2 p3 p4 p5 p6 p7 p8 p9 p10 p11 p12 p13 p14 p15 p16 p17 p18 p19 p20 p21 p22 p23 p24 p25 x0_4 (0 : Int32) x0_6 x0_7 x0_8 x0_12 x0_13 x0_14 x0_15 x0_16 x0_17 x0_18 x0_22 x0_23 x0_24 x0_25 x0_26 x0_27 x0_28 x0_29 x0_30 x0_31 x0_32 x0_36 x0_39 x0_40 x0_44 x0_49 x0_51 x0_53 x0_54 x0_55 x0_56 x0_57 x0_58 x0_59 x0_60 x0_61 x0_62 y1 y2 y3 y4 y5 y6 y7 y8 y9 y10 y11 y12 y13 y14 y15 y16 y17 y18 y19 y20 y21 y22 y23 y24 y25) := hD
        refine lv_aload_n hx hb d_X_goes39_93 rfl (lv_at hl 2 rfl) ?_
        refine lv_iload_n hx hb d_X_goes39_94 rfl (lv_at hl 0 rfl) ?_
        refine lv_aload_n hx hb d_X_goes39_95 rfl (lv_at hl 2 rfl) ?_
        refine va_get (D := D) (ci := 7) (v := .int x0_13) (C := "SignMachineModel") (T := F_X) (N := 64) hx hb hk fi_X hown hK.1 hP 0 rfl rfl 13 (by decide) (hk _ k_1134) (fun _ h9 => h9) rfl d_X_goes39_96 ?_
        refine lv_iconst (v := 1) hx hb d_X_goes39_99 (by decide) ?_
        refine lv_icmp_ne (tgt := 107) hx hb d_X_goes39_100 (by decide) (fun c37 => ?_) (fun c37 => absurd c37 (show ¬ x0_13 = (1 : Int32) from (fun q9 => (knE R34 (show 1 ≤ (1 : Int) ∧ (1 : Int) ≤ 1 from by decide) (by decide)) (c_eq q9))))
        refine lv_iconst (v := 0) hx hb d_X_goes39_107 (by decide) ?_
        refine kn_v (va_runV (C := "SignMachineModel") (As := [.int (0 : Int32), .int (0 : Int32)]) (rest := []) ⟨hx, hb, hml, hown, hk⟩ (c_X_goTo l D cI cJ cZ cB p0 p1 p2 p3 p4 p5 p6 p7 p8 p9 p10 p11 p12 p13 p14 p15 p16 p17 p18 p19 p20 p21 p22 p23 p24 p25 H.size x0_4 (0 : Int32) x0_6 x0_7 x0_8 x0_12 x0_13 x0_14 x0_15 x0_16 x0_17 x0_18 x0_22 x0_23 x0_24 x0_25 x0_26 x0_27 x0_28 x0_29 x0_30 x0_31 x0_32 x0_36 x0_39 x0_40 x0_44 x0_49 x0_51 x0_53 x0_54 x0_55 x0_56 x0_57 x0_58 x0_59 x0_60 x0_61 x0_62 y1 y2 y3 y4 y5 y6 y7 y8 y9 y10 y11 y12 y13 y14 y15 y16 y17 y18 y19 y20 y21 y22 y23 y24 y25 (0 : Int32) (0 : Int32) Rx0_4 Rx0_15 Ay4 (show x0_4.toInt ≤ 3999 from by omega) (show (0 : Int) = 1 → (0 ≤ x0_15.toInt ∧ x0_15.toInt ≤ 3999) from by omega) (by decide) (by decide)) (v_X_goTo hk k_1441 ⟨Nat.le_of_ble_eq_true rfl, Nat.le_of_ble_eq_true rfl⟩) (pM_v hK hP hD (ci := 7) (q0 := 0) rfl rfl rfl) rfl rfl hl.1 rfl (lv_room (Nat.le_of_ble_eq_true rfl)) d_X_goes39_108 ⟨Nat.le_of_ble_eq_true rfl, Nat.le_of_ble_eq_true rfl⟩) hS hA hD (fun u t H locs ht hB hFr hS => ?_)
        obtain ⟨x0_4z38, y4z38, Rx0_4z38, Ay4z38, hP, hD⟩ := hB
        rw [ht] at hP
        have hD := dwk hD hFr
        clear ht hFr
        have hP : va_P D classes (wS50 cI cJ cZ cB p0 p1 p2 p3 p4 p5 p6 p7 p8 p9 p10 p11 p12 p13 p14 p15 p16 p17 p18 p19 p20 p21 p22 p23 p24 p25 x0_4z38 (0 : Int32) x0_6 x0_7 x0_8 x0_12 x0_13 x0_14 x0_15 x0_16 x0_17 x0_18 x0_22 x0_23 x0_24 x0_25 x0_26 x0_27 x0_28 x0_29 x0_30 x0_31 x0_32 x0_36 x0_39 x0_40 x0_44 x0_49 x0_51 x0_53 x0_54 x0_55 x0_56 x0_57 x0_58 x0_59 x0_60 x0_61 x0_62 y1 y2 y3 y4z38 y5 y6 y7 y8 y9 y10 y11 y12 y13 y14 y15 y16 y17 y18 y19 y20 y21 y22 y23 y24 y25) H := hP
        have hD : va_D A (wS50 cI cJ cZ cB p0 p1 p2 p3 p4 p5 p6 p7 p8 p9 p10 p11 p12 p13 p14 p15 p16 p17 p18 p19 p20 p21 p22 p23 p24 p25 x0_4z38 (0 : Int32) x0_6 x0_7 x0_8 x0_12 x0_13 x0_14 x0_15 x0_16 x0_17 x0_18 x0_22 x0_23 x0_24 x0_25 x0_26 x0_27 x0_28 x0_29 x0_30 x0_31 x0_32 x0_36 x0_39 x0_40 x0_44 x0_49 x0_51 x0_53 x0_54 x0_55 x0_56 x0_57 x0_58 x0_59 x0_60 x0_61 x0_62 y1 y2 y3 y4z38 y5 y6 y7 y8 y9 y10 y11 y12 y13 y14 y15 y16 y17 y18 y19 y20 y21 y22 y23 y24 y25) := hD
        exact W.vret hx hb hr (fun t ht hW => ⟨⟨(), rfl, trivial, ⟨x0_4z38, (0 : Int32), y4z38, Rx0_4z38, Ay4z38, by show va_P D classes _ t.heap; rw [ht]; exact hP, hD⟩⟩, hS.F ht⟩) hS.2.2 d_X_goes39_111
  · have gc1 : x0_5.toInt = (1 : Int) := c_eq c1
    have R39 : 1 ≤ x0_5.toInt ∧ x0_5.toInt ≤ 1 := rf_eqX (fr3 x0_5) (show 1 ≤ (1 : Int) ∧ (1 : Int) ≤ 1 from by decide) gc1 (by decide) (by decide)
    refine lv_iconst (v := 1) hx hb d_X_goes39_8 (by decide) ?_
    refine lv_goto (tgt := 13) hx hb d_X_goes39_9 (by decide) ?_
    refine lv_istore_n (lv' := [(1, .int (1 : Int32)), (0, .ref p0)]) hx hb d_X_goes39_13 rfl hl (by decide) rfl (fun ls hl => ?_)
    refine lv_aload_n hx hb d_X_goes39_14 rfl (lv_at hl 1 rfl) ?_
    refine va_get (D := D) (ci := 7) (v := .int x0_13) (C := "SignMachineModel") (T := F_X) (N := 64) hx hb hk fi_X hown hK.1 hP 0 rfl rfl 13 (by decide) (hk _ k_1134) (fun _ h9 => h9) rfl d_X_goes39_15 ?_
    refine lv_iconst (v := 2) hx hb d_X_goes39_18 (by decide) ?_
    refine lv_icmp_lt (tgt := 59) hx hb d_X_goes39_19 (by decide) (fun c40 => ?_) (fun c40 => ?_)
    · have gc40 : x0_13.toInt < (2 : Int) := c_lt c40
      have R41 : 0 ≤ x0_13.toInt ∧ x0_13.toInt ≤ 1 := rf_ltX Rx0_13 (show 2 ≤ (2 : Int) ∧ (2 : Int) ≤ 2 from by decide) gc40 (by decide) (by decide)
      refine lv_iconst (v := 1) hx hb d_X_goes39_59 (by decide) ?_
      refine lv_goto (tgt := 64) hx hb d_X_goes39_60 (by decide) ?_
      refine lv_istore_n (lv' := [(2, .int (1 : Int32)), (1, .int (1 : Int32)), (0, .ref p0)]) hx hb d_X_goes39_64 rfl hl (by decide) rfl (fun ls hl => ?_)
      refine lv_aload_n hx hb d_X_goes39_65 rfl (lv_at hl 2 rfl) ?_
      refine lv_aload_n hx hb d_X_goes39_66 rfl (lv_at hl 2 rfl) ?_
      refine va_get (D := D) (ci := 7) (v := .int x0_13) (C := "SignMachineModel") (T := F_X) (N := 64) hx hb hk fi_X hown hK.1 hP 0 rfl rfl 13 (by decide) (hk _ k_1134) (fun _ h9 => h9) rfl d_X_goes39_67 ?_
      refine lv_iconst (v := 2) hx hb d_X_goes39_70 (by decide) ?_
      refine lv_icmp_eq (tgt := 82) hx hb d_X_goes39_71 (by decide) (fun c42 => absurd c42 (show ¬ x0_13 = (2 : Int32) from (fun q9 => (knE R41 (show 2 ≤ (2 : Int) ∧ (2 : Int) ≤ 2 from by decide) (by decide)) (c_eq q9)))) (fun c42 => ?_)
      refine lv_aload_n hx hb d_X_goes39_74 rfl (lv_at hl 2 rfl) ?_
      refine va_get (D := D) (ci := 7) (v := .int x0_13) (C := "SignMachineModel") (T := F_X) (N := 64) hx hb hk fi_X hown hK.1 hP 0 rfl rfl 13 (by decide) (hk _ k_1134) (fun _ h9 => h9) rfl d_X_goes39_75 ?_
      refine lv_iconst (v := 3) hx hb d_X_goes39_78 (by decide) ?_
      refine lv_icmp_ne (tgt := 86) hx hb d_X_goes39_79 (by decide) (fun c43 => ?_) (fun c43 => absurd c43 (show ¬ x0_13 = (3 : Int32) from (fun q9 => (knE R41 (show 3 ≤ (3 : Int) ∧ (3 : Int) ≤ 3 from by decide) (by decide)) (c_eq q9))))
      refine lv_aload_n hx hb d_X_goes39_86 rfl (lv_at hl 2 rfl) ?_
      refine va_get (D := D) (ci := 7) (v := .int x0_5) (C := "SignMachineModel") (T := F_X) (N := 64) hx hb hk fi_X hown hK.1 hP 0 rfl rfl 5 (by decide) (hk _ k_1126) (fun _ h9 => h9) rfl d_X_goes39_87 ?_
      refine va_put (D := D) (ci := 7) (v := .int x0_5) (ty := .int) (C := "SignMachineModel") (T := F_X) (N := 64) hx hb hk fi_X ft_X ft_X_ok fn_X hown hK.1 hP hD hS 0 rfl rfl 5 (by decide) (hk _ k_1126) (fun _ h9 => h9) rfl (by decide +kernel) rfl rfl (Nat.le_of_ble_eq_true rfl) d_X_goes39_90 (fun H locs hP hD hS => ?_)
      have hP : va_P D classes (wS50 cI cJ cZ cB p0 p1 p2 p3 p4 p5 p6 p7 p8 p9 p10 p11 p12 p13 p14 p15 p16 p17 p18 p19 p20 p21 p22 p23 p24 p25 x0_4 x0_5 x0_6 x0_7 x0_8 x0_12 x0_13 x0_14 x0_15 x0_16 x0_17 x0_18 x0_22 x0_23 x0_24 x0_25 x0_26 x0_27 x0_28 x0_29 x0_30 x0_31 x0_32 x0_36 x0_39 x0_40 x0_44 x0_49 x0_51 x0_53 x0_54 x0_55 x0_56 x0_57 x0_58 x0_59 x0_60 x0_61 x0_62 y1 y2 y3 y4 y5 y6 y7 y8 y9 y10 y11 y12 y13 y14 y15 y16 y17 y18 y19 y20 y21 y22 y23 y24 y25) H := hP
      have hD : va_D A (wS50 cI cJ cZ cB p0 p1 p2 p3 p4 p5 p6 p7 p8 p9 p10 p11 p12 p13 p14 p15 p16 p17 p18 p19 p20 p21 p22 p23 p24 p25 x0_4 x0_5 x0_6 x0_7 x0_8 x0_12 x0_13 x0_14 x0_15 x0_16 x0_17 x0_18 x0_22 x0_23 x0_24 x0_25 x0_26 x0_27 x0_28 x0_29 x0_30 x0_31 x0_32 x0_36 x0_39 x0_40 x0_44 x0_49 x0_51 x0_53 x0_54 x0_55 x0_56 x0_57 x0_58 x0_59 x0_60 x0_61 x0_62 y1 y2 y3 y4 y5 y6 y7 y8 y9 y10 y11 y12 y13 y14 y15 y16 y17 y18 y19 y20 y21 y22 y23 y24 y25) := hD
      refine lv_aload_n hx hb d_X_goes39_93 rfl (lv_at hl 2 rfl) ?_
      refine lv_iload_n hx hb d_X_goes39_94 rfl (lv_at hl 0 rfl) ?_
      refine lv_aload_n hx hb d_X_goes39_95 rfl (lv_at hl 2 rfl) ?_
      refine va_get (D := D) (ci := 7) (v := .int x0_13) (C := "SignMachineModel") (T := F_X) (N := 64) hx hb hk fi_X hown hK.1 hP 0 rfl rfl 13 (by decide) (hk _ k_1134) (fun _ h9 => h9) rfl d_X_goes39_96 ?_
      refine lv_iconst (v := 1) hx hb d_X_goes39_99 (by decide) ?_
      refine lv_icmp_ne (tgt := 107) hx hb d_X_goes39_100 (by decide) (fun c44 => ?_) (fun c44 => ?_)
      · have gc44 : x0_13.toInt ≠ (1 : Int) := c_ne c44
        have R45 : 0 ≤ x0_13.toInt ∧ x0_13.toInt ≤ 0 := rf_neX R41 (show 1 ≤ (1 : Int) ∧ (1 : Int) ≤ 1 from by decide) gc44 (by decide) (by decide)
        refine lv_iconst (v := 0) hx hb d_X_goes39_107 (by decide) ?_
        refine kn_v (va_runV (C := "SignMachineModel") (As := [.int (1 : Int32), .int (0 : Int32)]) (rest := []) ⟨hx, hb, hml, hown, hk⟩ (c_X_goTo l D cI cJ cZ cB p0 p1 p2 p3 p4 p5 p6 p7 p8 p9 p10 p11 p12 p13 p14 p15 p16 p17 p18 p19 p20 p21 p22 p23 p24 p25 H.size x0_4 x0_5 x0_6 x0_7 x0_8 x0_12 x0_13 x0_14 x0_15 x0_16 x0_17 x0_18 x0_22 x0_23 x0_24 x0_25 x0_26 x0_27 x0_28 x0_29 x0_30 x0_31 x0_32 x0_36 x0_39 x0_40 x0_44 x0_49 x0_51 x0_53 x0_54 x0_55 x0_56 x0_57 x0_58 x0_59 x0_60 x0_61 x0_62 y1 y2 y3 y4 y5 y6 y7 y8 y9 y10 y11 y12 y13 y14 y15 y16 y17 y18 y19 y20 y21 y22 y23 y24 y25 (1 : Int32) (0 : Int32) Rx0_4 Rx0_15 Ay4 (show x0_4.toInt ≤ 3999 from by omega) (show (1 : Int) = 1 → (0 ≤ x0_15.toInt ∧ x0_15.toInt ≤ 3999) from by omega) (by decide) (by decide)) (v_X_goTo hk k_1441 ⟨Nat.le_of_ble_eq_true rfl, Nat.le_of_ble_eq_true rfl⟩) (pM_v hK hP hD (ci := 7) (q0 := 0) rfl rfl rfl) rfl rfl hl.1 rfl (lv_room (Nat.le_of_ble_eq_true rfl)) d_X_goes39_108 ⟨Nat.le_of_ble_eq_true rfl, Nat.le_of_ble_eq_true rfl⟩) hS hA hD (fun u t H locs ht hB hFr hS => ?_)
        obtain ⟨x0_4z46, y4z46, Rx0_4z46, Ay4z46, hP, hD⟩ := hB
        rw [ht] at hP
        have hD := dwk hD hFr
        clear ht hFr
        have hP : va_P D classes (wS50 cI cJ cZ cB p0 p1 p2 p3 p4 p5 p6 p7 p8 p9 p10 p11 p12 p13 p14 p15 p16 p17 p18 p19 p20 p21 p22 p23 p24 p25 x0_4z46 x0_5 x0_6 x0_7 x0_8 x0_12 x0_13 x0_14 x0_15 x0_16 x0_17 x0_18 x0_22 x0_23 x0_24 x0_25 x0_26 x0_27 x0_28 x0_29 x0_30 x0_31 x0_32 x0_36 x0_39 x0_40 x0_44 x0_49 x0_51 x0_53 x0_54 x0_55 x0_56 x0_57 x0_58 x0_59 x0_60 x0_61 x0_62 y1 y2 y3 y4z46 y5 y6 y7 y8 y9 y10 y11 y12 y13 y14 y15 y16 y17 y18 y19 y20 y21 y22 y23 y24 y25) H := hP
        have hD : va_D A (wS50 cI cJ cZ cB p0 p1 p2 p3 p4 p5 p6 p7 p8 p9 p10 p11 p12 p13 p14 p15 p16 p17 p18 p19 p20 p21 p22 p23 p24 p25 x0_4z46 x0_5 x0_6 x0_7 x0_8 x0_12 x0_13 x0_14 x0_15 x0_16 x0_17 x0_18 x0_22 x0_23 x0_24 x0_25 x0_26 x0_27 x0_28 x0_29 x0_30 x0_31 x0_32 x0_36 x0_39 x0_40 x0_44 x0_49 x0_51 x0_53 x0_54 x0_55 x0_56 x0_57 x0_58 x0_59 x0_60 x0_61 x0_62 y1 y2 y3 y4z46 y5 y6 y7 y8 y9 y10 y11 y12 y13 y14 y15 y16 y17 y18 y19 y20 y21 y22 y23 y24 y25) := hD
        exact W.vret hx hb hr (fun t ht hW => ⟨⟨(), rfl, trivial, ⟨x0_4z46, x0_5, y4z46, Rx0_4z46, Ay4z46, by show va_P D classes _ t.heap; rw [ht]; exact hP, hD⟩⟩, hS.F ht⟩) hS.2.2 d_X_goes39_111
      · have gc44 : x0_13.toInt = (1 : Int) := c_eq c44
        have R47 : 1 ≤ x0_13.toInt ∧ x0_13.toInt ≤ 1 := rf_eqX R41 (show 1 ≤ (1 : Int) ∧ (1 : Int) ≤ 1 from by decide) gc44 (by decide) (by decide)
        refine lv_iconst (v := 1) hx hb d_X_goes39_103 (by decide) ?_
        refine lv_goto (tgt := 108) hx hb d_X_goes39_104 (by decide) ?_
        refine kn_v (va_runV (C := "SignMachineModel") (As := [.int (1 : Int32), .int (1 : Int32)]) (rest := []) ⟨hx, hb, hml, hown, hk⟩ (c_X_goTo l D cI cJ cZ cB p0 p1 p2 p3 p4 p5 p6 p7 p8 p9 p10 p11 p12 p13 p14 p15 p16 p17 p18 p19 p20 p21 p22 p23 p24 p25 H.size x0_4 x0_5 x0_6 x0_7 x0_8 x0_12 x0_13 x0_14 x0_15 x0_16 x0_17 x0_18 x0_22 x0_23 x0_24 x0_25 x0_26 x0_27 x0_28 x0_29 x0_30 x0_31 x0_32 x0_36 x0_39 x0_40 x0_44 x0_49 x0_51 x0_53 x0_54 x0_55 x0_56 x0_57 x0_58 x0_59 x0_60 x0_61 x0_62 y1 y2 y3 y4 y5 y6 y7 y8 y9 y10 y11 y12 y13 y14 y15 y16 y17 y18 y19 y20 y21 y22 y23 y24 y25 (1 : Int32) (1 : Int32) Rx0_4 Rx0_15 Ay4 (show x0_4.toInt ≤ 3999 from by omega) (show (1 : Int) = 1 → (0 ≤ x0_15.toInt ∧ x0_15.toInt ≤ 3999) from by omega) (by decide) (by decide)) (v_X_goTo hk k_1441 ⟨Nat.le_of_ble_eq_true rfl, Nat.le_of_ble_eq_true rfl⟩) (pM_v hK hP hD (ci := 7) (q0 := 0) rfl rfl rfl) rfl rfl hl.1 rfl (lv_room (Nat.le_of_ble_eq_true rfl)) d_X_goes39_108 ⟨Nat.le_of_ble_eq_true rfl, Nat.le_of_ble_eq_true rfl⟩) hS hA hD (fun u t H locs ht hB hFr hS => ?_)
        obtain ⟨x0_4z48, y4z48, Rx0_4z48, Ay4z48, hP, hD⟩ := hB
        rw [ht] at hP
        have hD := dwk hD hFr
        clear ht hFr
        have hP : va_P D classes (wS50 cI cJ cZ cB p0 p1 p2 p3 p4 p5 p6 p7 p8 p9 p10 p11 p12 p13 p14 p15 p16 p17 p18 p19 p20 p21 p22 p23 p24 p25 x0_4z48 x0_5 x0_6 x0_7 x0_8 x0_12 x0_13 x0_14 x0_15 x0_16 x0_17 x0_18 x0_22 x0_23 x0_24 x0_25 x0_26 x0_27 x0_28 x0_29 x0_30 x0_31 x0_32 x0_36 x0_39 x0_40 x0_44 x0_49 x0_51 x0_53 x0_54 x0_55 x0_56 x0_57 x0_58 x0_59 x0_60 x0_61 x0_62 y1 y2 y3 y4z48 y5 y6 y7 y8 y9 y10 y11 y12 y13 y14 y15 y16 y17 y18 y19 y20 y21 y22 y23 y24 y25) H := hP
        have hD : va_D A (wS50 cI cJ cZ cB p0 p1 p2 p3 p4 p5 p6 p7 p8 p9 p10 p11 p12 p13 p14 p15 p16 p17 p18 p19 p20 p21 p22 p23 p24 p25 x0_4z48 x0_5 x0_6 x0_7 x0_8 x0_12 x0_13 x0_14 x0_15 x0_16 x0_17 x0_18 x0_22 x0_23 x0_24 x0_25 x0_26 x0_27 x0_28 x0_29 x0_30 x0_31 x0_32 x0_36 x0_39 x0_40 x0_44 x0_49 x0_51 x0_53 x0_54 x0_55 x0_56 x0_57 x0_58 x0_59 x0_60 x0_61 x0_62 y1 y2 y3 y4z48 y5 y6 y7 y8 y9 y10 y11 y12 y13 y14 y15 y16 y17 y18 y19 y20 y21 y22 y23 y24 y25) := hD
        exact W.vret hx hb hr (fun t ht hW => ⟨⟨(), rfl, trivial, ⟨x0_4z48, x0_5, y4z48, Rx0_4z48, Ay4z48, by show va_P D classes _ t.heap; rw [ht]; exact hP, hD⟩⟩, hS.F ht⟩) hS.2.2 d_X_goes39_111
    · have gc40 : (2 : Int) ≤ x0_13.toInt := c_nlt c40
      have R49 : 2 ≤ x0_13.toInt ∧ x0_13.toInt ≤ 63 := rf_geX Rx0_13 (show 2 ≤ (2 : Int) ∧ (2 : Int) ≤ 2 from by decide) gc40 (by decide) (by decide)
      refine lv_aload_n hx hb d_X_goes39_22 rfl (lv_at hl 1 rfl) ?_
      refine va_get (D := D) (ci := 7) (v := .int x0_13) (C := "SignMachineModel") (T := F_X) (N := 64) hx hb hk fi_X hown hK.1 hP 0 rfl rfl 13 (by decide) (hk _ k_1134) (fun _ h9 => h9) rfl d_X_goes39_23 ?_
      refine lv_iconst (v := 2) hx hb d_X_goes39_26 (by decide) ?_
      refine lv_icmp_ne (tgt := 37) hx hb d_X_goes39_27 (by decide) (fun c50 => ?_) (fun c50 => ?_)
      · have gc50 : x0_13.toInt ≠ (2 : Int) := c_ne c50
        have R51 : 3 ≤ x0_13.toInt ∧ x0_13.toInt ≤ 63 := rf_neX R49 (show 2 ≤ (2 : Int) ∧ (2 : Int) ≤ 2 from by decide) gc50 (by decide) (by decide)
        refine lv_aload_n hx hb d_X_goes39_37 rfl (lv_at hl 1 rfl) ?_
        refine va_get (D := D) (ci := 7) (v := .int x0_13) (C := "SignMachineModel") (T := F_X) (N := 64) hx hb hk fi_X hown hK.1 hP 0 rfl rfl 13 (by decide) (hk _ k_1134) (fun _ h9 => h9) rfl d_X_goes39_38 ?_
        refine lv_iconst (v := 3) hx hb d_X_goes39_41 (by decide) ?_
        refine lv_icmp_ne (tgt := 52) hx hb d_X_goes39_42 (by decide) (fun c52 => ?_) (fun c52 => ?_)
        · have gc52 : x0_13.toInt ≠ (3 : Int) := c_ne c52
          have R53 : 4 ≤ x0_13.toInt ∧ x0_13.toInt ≤ 63 := rf_neX R51 (show 3 ≤ (3 : Int) ∧ (3 : Int) ≤ 3 from by decide) gc52 (by decide) (by decide)
          refine lv_aload_n hx hb d_X_goes39_52 rfl (lv_at hl 1 rfl) ?_
          refine sn_i (va_runV (C := "SignMachineModel") (As := []) (rest := []) ⟨hx, hb, hml, hown, hk⟩ (c_X_goesByIndicator l D cI cJ cZ cB p0 p1 p2 p3 p4 p5 p6 p7 p8 p9 p10 p11 p12 p13 p14 p15 p16 p17 p18 p19 p20 p21 p22 p23 p24 p25 s.heap.size x0_4 x0_5 x0_6 x0_7 x0_8 x0_12 x0_13 x0_14 x0_15 x0_16 x0_17 x0_18 x0_22 x0_23 x0_24 x0_25 x0_26 x0_27 x0_28 x0_29 x0_30 x0_31 x0_32 x0_36 x0_39 x0_40 x0_44 x0_49 x0_51 x0_53 x0_54 x0_55 x0_56 x0_57 x0_58 x0_59 x0_60 x0_61 x0_62 y1 y2 y3 y4 y5 y6 y7 y8 y9 y10 y11 y12 y13 y14 y15 y16 y17 y18 y19 y20 y21 y22 y23 y24 y25  (rgw R53 (by decide) (by decide))) (v_X_goesByIndicator hk k_1437 ⟨Nat.le_of_ble_eq_true rfl, Nat.le_of_ble_eq_true rfl⟩) (pM_v hK hP hD (ci := 7) (q0 := 0) rfl rfl rfl) rfl rfl hl.1 rfl (lv_room (Nat.le_of_ble_eq_true rfl)) d_X_goes39_53 ⟨Nat.le_of_ble_eq_true rfl, Nat.le_of_ble_eq_true rfl⟩) hS hA hD (fun rz54 u t H locs hr0 ht hB hFr hS => ?_)
          subst hr0
          obtain ⟨F0z54, hP, hD⟩ := hB
          have F0z54 : 0 ≤ rz54.toInt ∧ rz54.toInt ≤ 1 := F0z54
          rw [ht] at hP
          have hD := dwk hD hFr
          clear ht hFr
          have hP : va_P D classes (wS50 cI cJ cZ cB p0 p1 p2 p3 p4 p5 p6 p7 p8 p9 p10 p11 p12 p13 p14 p15 p16 p17 p18 p19 p20 p21 p22 p23 p24 p25 x0_4 x0_5 x0_6 x0_7 x0_8 x0_12 x0_13 x0_14 x0_15 x0_16 x0_17 x0_18 x0_22 x0_23 x0_24 x0_25 x0_26 x0_27 x0_28 x0_29 x0_30 x0_31 x0_32 x0_36 x0_39 x0_40 x0_44 x0_49 x0_51 x0_53 x0_54 x0_55 x0_56 x0_57 x0_58 x0_59 x0_60 x0_61 x0_62 y1 y2 y3 y4 y5 y6 y7 y8 y9 y10 y11 y12 y13 y14 y15 y16 y17 y18 y19 y20 y21 y22 y23 y24 y25) H := hP
          have hD : va_D A (wS50 cI cJ cZ cB p0 p1 p2 p3 p4 p5 p6 p7 p8 p9 p10 p11 p12 p13 p14 p15 p16 p17 p18 p19 p20 p21 p22 p23 p24 p25 x0_4 x0_5 x0_6 x0_7 x0_8 x0_12 x0_13 x0_14 x0_15 x0_16 x0_17 x0_18 x0_22 x0_23 x0_24 x0_25 x0_26 x0_27 x0_28 x0_29 x0_30 x0_31 x0_32 x0_36 x0_39 x0_40 x0_44 x0_49 x0_51 x0_53 x0_54 x0_55 x0_56 x0_57 x0_58 x0_59 x0_60 x0_61 x0_62 y1 y2 y3 y4 y5 y6 y7 y8 y9 y10 y11 y12 y13 y14 y15 y16 y17 y18 y19 y20 y21 y22 y23 y24 y25) := hD
          refine lv_if_eq (tgt := 63) hx hb d_X_goes39_56 (by decide) (fun c55 => ?_) (fun c55 => ?_)
          · have gc55 : rz54.toInt = (0 : Int) := c_eq c55
            have R56 : 0 ≤ rz54.toInt ∧ rz54.toInt ≤ 0 := rf_eqX F0z54 (show 0 ≤ (0 : Int) ∧ (0 : Int) ≤ 0 from by decide) gc55 (by decide) (by decide)
            refine lv_iconst (v := 0) hx hb d_X_goes39_63 (by decide) ?_
            refine lv_istore_n (lv' := [(2, .int (0 : Int32)), (1, .int (1 : Int32)), (0, .ref p0)]) hx hb d_X_goes39_64 rfl hl (by decide) rfl (fun ls hl => ?_)
            refine lv_aload_n hx hb d_X_goes39_65 rfl (lv_at hl 2 rfl) ?_
            refine lv_aload_n hx hb d_X_goes39_66 rfl (lv_at hl 2 rfl) ?_
            refine va_get (D := D) (ci := 7) (v := .int x0_13) (C := "SignMachineModel") (T := F_X) (N := 64) hx hb hk fi_X hown hK.1 hP 0 rfl rfl 13 (by decide) (hk _ k_1134) (fun _ h9 => h9) rfl d_X_goes39_67 ?_
            refine lv_iconst (v := 2) hx hb d_X_goes39_70 (by decide) ?_
            refine lv_icmp_eq (tgt := 82) hx hb d_X_goes39_71 (by decide) (fun c57 => absurd c57 (show ¬ x0_13 = (2 : Int32) from c50)) (fun c57 => ?_)
            refine lv_aload_n hx hb d_X_goes39_74 rfl (lv_at hl 2 rfl) ?_
            refine va_get (D := D) (ci := 7) (v := .int x0_13) (C := "SignMachineModel") (T := F_X) (N := 64) hx hb hk fi_X hown hK.1 hP 0 rfl rfl 13 (by decide) (hk _ k_1134) (fun _ h9 => h9) rfl d_X_goes39_75 ?_
            refine lv_iconst (v := 3) hx hb d_X_goes39_78 (by decide) ?_
            refine lv_icmp_ne (tgt := 86) hx hb d_X_goes39_79 (by decide) (fun c58 => ?_) (fun c58 => absurd c58 (show ¬ x0_13 = (3 : Int32) from c52))
            refine lv_aload_n hx hb d_X_goes39_86 rfl (lv_at hl 2 rfl) ?_
            refine va_get (D := D) (ci := 7) (v := .int x0_5) (C := "SignMachineModel") (T := F_X) (N := 64) hx hb hk fi_X hown hK.1 hP 0 rfl rfl 5 (by decide) (hk _ k_1126) (fun _ h9 => h9) rfl d_X_goes39_87 ?_
            refine va_put (D := D) (ci := 7) (v := .int x0_5) (ty := .int) (C := "SignMachineModel") (T := F_X) (N := 64) hx hb hk fi_X ft_X ft_X_ok fn_X hown hK.1 hP hD hS 0 rfl rfl 5 (by decide) (hk _ k_1126) (fun _ h9 => h9) rfl (by decide +kernel) rfl rfl (Nat.le_of_ble_eq_true rfl) d_X_goes39_90 (fun H locs hP hD hS => ?_)
            have hP : va_P D classes (wS50 cI cJ cZ cB p0 p1 p2 p3 p4 p5 p6 p7 p8 p9 p10 p11 p12 p13 p14 p15 p16 p17 p18 p19 p20 p21 p22 p23 p24 p25 x0_4 x0_5 x0_6 x0_7 x0_8 x0_12 x0_13 x0_14 x0_15 x0_16 x0_17 x0_18 x0_22 x0_23 x0_24 x0_25 x0_26 x0_27 x0_28 x0_29 x0_30 x0_31 x0_32 x0_36 x0_39 x0_40 x0_44 x0_49 x0_51 x0_53 x0_54 x0_55 x0_56 x0_57 x0_58 x0_59 x0_60 x0_61 x0_62 y1 y2 y3 y4 y5 y6 y7 y8 y9 y10 y11 y12 y13 y14 y15 y16 y17 y18 y19 y20 y21 y22 y23 y24 y25) H := hP
            have hD : va_D A (wS50 cI cJ cZ cB p0 p1 p2 p3 p4 p5 p6 p7 p8 p9 p10 p11 p12 p13 p14 p15 p16 p17 p18 p19 p20 p21 p22 p23 p24 p25 x0_4 x0_5 x0_6 x0_7 x0_8 x0_12 x0_13 x0_14 x0_15 x0_16 x0_17 x0_18 x0_22 x0_23 x0_24 x0_25 x0_26 x0_27 x0_28 x0_29 x0_30 x0_31 x0_32 x0_36 x0_39 x0_40 x0_44 x0_49 x0_51 x0_53 x0_54 x0_55 x0_56 x0_57 x0_58 x0_59 x0_60 x0_61 x0_62 y1 y2 y3 y4 y5 y6 y7 y8 y9 y10 y11 y12 y13 y14 y15 y16 y17 y18 y19 y20 y21 y22 y23 y24 y25) := hD
            refine lv_aload_n hx hb d_X_goes39_93 rfl (lv_at hl 2 rfl) ?_
            refine lv_iload_n hx hb d_X_goes39_94 rfl (lv_at hl 0 rfl) ?_
            refine lv_aload_n hx hb d_X_goes39_95 rfl (lv_at hl 2 rfl) ?_
            refine va_get (D := D) (ci := 7) (v := .int x0_13) (C := "SignMachineModel") (T := F_X) (N := 64) hx hb hk fi_X hown hK.1 hP 0 rfl rfl 13 (by decide) (hk _ k_1134) (fun _ h9 => h9) rfl d_X_goes39_96 ?_
            refine lv_iconst (v := 1) hx hb d_X_goes39_99 (by decide) ?_
            refine lv_icmp_ne (tgt := 107) hx hb d_X_goes39_100 (by decide) (fun c59 => ?_) (fun c59 => absurd c59 (show ¬ x0_13 = (1 : Int32) from (fun q9 => (knE R53 (show 1 ≤ (1 : Int) ∧ (1 : Int) ≤ 1 from by decide) (by decide)) (c_eq q9))))
            refine lv_iconst (v := 0) hx hb d_X_goes39_107 (by decide) ?_
            refine kn_v (va_runV (C := "SignMachineModel") (As := [.int (0 : Int32), .int (0 : Int32)]) (rest := []) ⟨hx, hb, hml, hown, hk⟩ (c_X_goTo l D cI cJ cZ cB p0 p1 p2 p3 p4 p5 p6 p7 p8 p9 p10 p11 p12 p13 p14 p15 p16 p17 p18 p19 p20 p21 p22 p23 p24 p25 H.size x0_4 x0_5 x0_6 x0_7 x0_8 x0_12 x0_13 x0_14 x0_15 x0_16 x0_17 x0_18 x0_22 x0_23 x0_24 x0_25 x0_26 x0_27 x0_28 x0_29 x0_30 x0_31 x0_32 x0_36 x0_39 x0_40 x0_44 x0_49 x0_51 x0_53 x0_54 x0_55 x0_56 x0_57 x0_58 x0_59 x0_60 x0_61 x0_62 y1 y2 y3 y4 y5 y6 y7 y8 y9 y10 y11 y12 y13 y14 y15 y16 y17 y18 y19 y20 y21 y22 y23 y24 y25 (0 : Int32) (0 : Int32) Rx0_4 Rx0_15 Ay4 (show x0_4.toInt ≤ 3999 from by omega) (show (0 : Int) = 1 → (0 ≤ x0_15.toInt ∧ x0_15.toInt ≤ 3999) from by omega) (by decide) (by decide)) (v_X_goTo hk k_1441 ⟨Nat.le_of_ble_eq_true rfl, Nat.le_of_ble_eq_true rfl⟩) (pM_v hK hP hD (ci := 7) (q0 := 0) rfl rfl rfl) rfl rfl hl.1 rfl (lv_room (Nat.le_of_ble_eq_true rfl)) d_X_goes39_108 ⟨Nat.le_of_ble_eq_true rfl, Nat.le_of_ble_eq_true rfl⟩) hS hA hD (fun u t H locs ht hB hFr hS => ?_)
            obtain ⟨x0_4z60, y4z60, Rx0_4z60, Ay4z60, hP, hD⟩ := hB
            rw [ht] at hP
            have hD := dwk hD hFr
            clear ht hFr
            have hP : va_P D classes (wS50 cI cJ cZ cB p0 p1 p2 p3 p4 p5 p6 p7 p8 p9 p10 p11 p12 p13 p14 p15 p16 p17 p18 p19 p20 p21 p22 p23 p24 p25 x0_4z60 x0_5 x0_6 x0_7 x0_8 x0_12 x0_13 x0_14 x0_15 x0_16 x0_17 x0_18 x0_22 x0_23 x0_24 x0_25 x0_26 x0_27 x0_28 x0_29 x0_30 x0_31 x0_32 x0_36 x0_39 x0_40 x0_44 x0_49 x0_51 x0_53 x0_54 x0_55 x0_56 x0_57 x0_58 x0_59 x0_60 x0_61 x0_62 y1 y2 y3 y4z60 y5 y6 y7 y8 y9 y10 y11 y12 y13 y14 y15 y16 y17 y18 y19 y20 y21 y22 y23 y24 y25) H := hP
            have hD : va_D A (wS50 cI cJ cZ cB p0 p1 p2 p3 p4 p5 p6 p7 p8 p9 p10 p11 p12 p13 p14 p15 p16 p17 p18 p19 p20 p21 p22 p23 p24 p25 x0_4z60 x0_5 x0_6 x0_7 x0_8 x0_12 x0_13 x0_14 x0_15 x0_16 x0_17 x0_18 x0_22 x0_23 x0_24 x0_25 x0_26 x0_27 x0_28 x0_29 x0_30 x0_31 x0_32 x0_36 x0_39 x0_40 x0_44 x0_49 x0_51 x0_53 x0_54 x0_55 x0_56 x0_57 x0_58 x0_59 x0_60 x0_61 x0_62 y1 y2 y3 y4z60 y5 y6 y7 y8 y9 y10 y11 y12 y13 y14 y15 y16 y17 y18 y19 y20 y21 y22 y23 y24 y25) := hD
            exact W.vret hx hb hr (fun t ht hW => ⟨⟨(), rfl, trivial, ⟨x0_4z60, x0_5, y4z60, Rx0_4z60, Ay4z60, by show va_P D classes _ t.heap; rw [ht]; exact hP, hD⟩⟩, hS.F ht⟩) hS.2.2 d_X_goes39_111
          · have gc55 : rz54.toInt ≠ (0 : Int) := c_ne c55
            have R61 : 1 ≤ rz54.toInt ∧ rz54.toInt ≤ 1 := rf_neX F0z54 (show 0 ≤ (0 : Int) ∧ (0 : Int) ≤ 0 from by decide) gc55 (by decide) (by decide)
            refine lv_iconst (v := 1) hx hb d_X_goes39_59 (by decide) ?_
            refine lv_goto (tgt := 64) hx hb d_X_goes39_60 (by decide) ?_
            refine lv_istore_n (lv' := [(2, .int (1 : Int32)), (1, .int (1 : Int32)), (0, .ref p0)]) hx hb d_X_goes39_64 rfl hl (by decide) rfl (fun ls hl => ?_)
            refine lv_aload_n hx hb d_X_goes39_65 rfl (lv_at hl 2 rfl) ?_
            refine lv_aload_n hx hb d_X_goes39_66 rfl (lv_at hl 2 rfl) ?_
            refine va_get (D := D) (ci := 7) (v := .int x0_13) (C := "SignMachineModel") (T := F_X) (N := 64) hx hb hk fi_X hown hK.1 hP 0 rfl rfl 13 (by decide) (hk _ k_1134) (fun _ h9 => h9) rfl d_X_goes39_67 ?_
            refine lv_iconst (v := 2) hx hb d_X_goes39_70 (by decide) ?_
            refine lv_icmp_eq (tgt := 82) hx hb d_X_goes39_71 (by decide) (fun c62 => absurd c62 (show ¬ x0_13 = (2 : Int32) from c50)) (fun c62 => ?_)
            refine lv_aload_n hx hb d_X_goes39_74 rfl (lv_at hl 2 rfl) ?_
            refine va_get (D := D) (ci := 7) (v := .int x0_13) (C := "SignMachineModel") (T := F_X) (N := 64) hx hb hk fi_X hown hK.1 hP 0 rfl rfl 13 (by decide) (hk _ k_1134) (fun _ h9 => h9) rfl d_X_goes39_75 ?_
            refine lv_iconst (v := 3) hx hb d_X_goes39_78 (by decide) ?_
            refine lv_icmp_ne (tgt := 86) hx hb d_X_goes39_79 (by decide) (fun c63 => ?_) (fun c63 => absurd c63 (show ¬ x0_13 = (3 : Int32) from c52))
            refine lv_aload_n hx hb d_X_goes39_86 rfl (lv_at hl 2 rfl) ?_
            refine va_get (D := D) (ci := 7) (v := .int x0_5) (C := "SignMachineModel") (T := F_X) (N := 64) hx hb hk fi_X hown hK.1 hP 0 rfl rfl 5 (by decide) (hk _ k_1126) (fun _ h9 => h9) rfl d_X_goes39_87 ?_
            refine va_put (D := D) (ci := 7) (v := .int x0_5) (ty := .int) (C := "SignMachineModel") (T := F_X) (N := 64) hx hb hk fi_X ft_X ft_X_ok fn_X hown hK.1 hP hD hS 0 rfl rfl 5 (by decide) (hk _ k_1126) (fun _ h9 => h9) rfl (by decide +kernel) rfl rfl (Nat.le_of_ble_eq_true rfl) d_X_goes39_90 (fun H locs hP hD hS => ?_)
            have hP : va_P D classes (wS50 cI cJ cZ cB p0 p1 p2 p3 p4 p5 p6 p7 p8 p9 p10 p11 p12 p13 p14 p15 p16 p17 p18 p19 p20 p21 p22 p23 p24 p25 x0_4 x0_5 x0_6 x0_7 x0_8 x0_12 x0_13 x0_14 x0_15 x0_16 x0_17 x0_18 x0_22 x0_23 x0_24 x0_25 x0_26 x0_27 x0_28 x0_29 x0_30 x0_31 x0_32 x0_36 x0_39 x0_40 x0_44 x0_49 x0_51 x0_53 x0_54 x0_55 x0_56 x0_57 x0_58 x0_59 x0_60 x0_61 x0_62 y1 y2 y3 y4 y5 y6 y7 y8 y9 y10 y11 y12 y13 y14 y15 y16 y17 y18 y19 y20 y21 y22 y23 y24 y25) H := hP
            have hD : va_D A (wS50 cI cJ cZ cB p0 p1 p2 p3 p4 p5 p6 p7 p8 p9 p10 p11 p12 p13 p14 p15 p16 p17 p18 p19 p20 p21 p22 p23 p24 p25 x0_4 x0_5 x0_6 x0_7 x0_8 x0_12 x0_13 x0_14 x0_15 x0_16 x0_17 x0_18 x0_22 x0_23 x0_24 x0_25 x0_26 x0_27 x0_28 x0_29 x0_30 x0_31 x0_32 x0_36 x0_39 x0_40 x0_44 x0_49 x0_51 x0_53 x0_54 x0_55 x0_56 x0_57 x0_58 x0_59 x0_60 x0_61 x0_62 y1 y2 y3 y4 y5 y6 y7 y8 y9 y10 y11 y12 y13 y14 y15 y16 y17 y18 y19 y20 y21 y22 y23 y24 y25) := hD
            refine lv_aload_n hx hb d_X_goes39_93 rfl (lv_at hl 2 rfl) ?_
            refine lv_iload_n hx hb d_X_goes39_94 rfl (lv_at hl 0 rfl) ?_
            refine lv_aload_n hx hb d_X_goes39_95 rfl (lv_at hl 2 rfl) ?_
            refine va_get (D := D) (ci := 7) (v := .int x0_13) (C := "SignMachineModel") (T := F_X) (N := 64) hx hb hk fi_X hown hK.1 hP 0 rfl rfl 13 (by decide) (hk _ k_1134) (fun _ h9 => h9) rfl d_X_goes39_96 ?_
            refine lv_iconst (v := 1) hx hb d_X_goes39_99 (by decide) ?_
            refine lv_icmp_ne (tgt := 107) hx hb d_X_goes39_100 (by decide) (fun c64 => ?_) (fun c64 => absurd c64 (show ¬ x0_13 = (1 : Int32) from (fun q9 => (knE R53 (show 1 ≤ (1 : Int) ∧ (1 : Int) ≤ 1 from by decide) (by decide)) (c_eq q9))))
            refine lv_iconst (v := 0) hx hb d_X_goes39_107 (by decide) ?_
            refine kn_v (va_runV (C := "SignMachineModel") (As := [.int (1 : Int32), .int (0 : Int32)]) (rest := []) ⟨hx, hb, hml, hown, hk⟩ (c_X_goTo l D cI cJ cZ cB p0 p1 p2 p3 p4 p5 p6 p7 p8 p9 p10 p11 p12 p13 p14 p15 p16 p17 p18 p19 p20 p21 p22 p23 p24 p25 H.size x0_4 x0_5 x0_6 x0_7 x0_8 x0_12 x0_13 x0_14 x0_15 x0_16 x0_17 x0_18 x0_22 x0_23 x0_24 x0_25 x0_26 x0_27 x0_28 x0_29 x0_30 x0_31 x0_32 x0_36 x0_39 x0_40 x0_44 x0_49 x0_51 x0_53 x0_54 x0_55 x0_56 x0_57 x0_58 x0_59 x0_60 x0_61 x0_62 y1 y2 y3 y4 y5 y6 y7 y8 y9 y10 y11 y12 y13 y14 y15 y16 y17 y18 y19 y20 y21 y22 y23 y24 y25 (1 : Int32) (0 : Int32) Rx0_4 Rx0_15 Ay4 (show x0_4.toInt ≤ 3999 from by omega) (show (1 : Int) = 1 → (0 ≤ x0_15.toInt ∧ x0_15.toInt ≤ 3999) from by omega) (by decide) (by decide)) (v_X_goTo hk k_1441 ⟨Nat.le_of_ble_eq_true rfl, Nat.le_of_ble_eq_true rfl⟩) (pM_v hK hP hD (ci := 7) (q0 := 0) rfl rfl rfl) rfl rfl hl.1 rfl (lv_room (Nat.le_of_ble_eq_true rfl)) d_X_goes39_108 ⟨Nat.le_of_ble_eq_true rfl, Nat.le_of_ble_eq_true rfl⟩) hS hA hD (fun u t H locs ht hB hFr hS => ?_)
            obtain ⟨x0_4z65, y4z65, Rx0_4z65, Ay4z65, hP, hD⟩ := hB
            rw [ht] at hP
            have hD := dwk hD hFr
            clear ht hFr
            have hP : va_P D classes (wS50 cI cJ cZ cB p0 p1 p2 p3 p4 p5 p6 p7 p8 p9 p10 p11 p12 p13 p14 p15 p16 p17 p18 p19 p20 p21 p22 p23 p24 p25 x0_4z65 x0_5 x0_6 x0_7 x0_8 x0_12 x0_13 x0_14 x0_15 x0_16 x0_17 x0_18 x0_22 x0_23 x0_24 x0_25 x0_26 x0_27 x0_28 x0_29 x0_30 x0_31 x0_32 x0_36 x0_39 x0_40 x0_44 x0_49 x0_51 x0_53 x0_54 x0_55 x0_56 x0_57 x0_58 x0_59 x0_60 x0_61 x0_62 y1 y2 y3 y4z65 y5 y6 y7 y8 y9 y10 y11 y12 y13 y14 y15 y16 y17 y18 y19 y20 y21 y22 y23 y24 y25) H := hP
            have hD : va_D A (wS50 cI cJ cZ cB p0 p1 p2 p3 p4 p5 p6 p7 p8 p9 p10 p11 p12 p13 p14 p15 p16 p17 p18 p19 p20 p21 p22 p23 p24 p25 x0_4z65 x0_5 x0_6 x0_7 x0_8 x0_12 x0_13 x0_14 x0_15 x0_16 x0_17 x0_18 x0_22 x0_23 x0_24 x0_25 x0_26 x0_27 x0_28 x0_29 x0_30 x0_31 x0_32 x0_36 x0_39 x0_40 x0_44 x0_49 x0_51 x0_53 x0_54 x0_55 x0_56 x0_57 x0_58 x0_59 x0_60 x0_61 x0_62 y1 y2 y3 y4z65 y5 y6 y7 y8 y9 y10 y11 y12 y13 y14 y15 y16 y17 y18 y19 y20 y21 y22 y23 y24 y25) := hD
            exact W.vret hx hb hr (fun t ht hW => ⟨⟨(), rfl, trivial, ⟨x0_4z65, x0_5, y4z65, Rx0_4z65, Ay4z65, by show va_P D classes _ t.heap; rw [ht]; exact hP, hD⟩⟩, hS.F ht⟩) hS.2.2 d_X_goes39_111
        · have gc52 : x0_13.toInt = (3 : Int) := c_eq c52
          have R66 : 3 ≤ x0_13.toInt ∧ x0_13.toInt ≤ 3 := rf_eqX R51 (show 3 ≤ (3 : Int) ∧ (3 : Int) ≤ 3 from by decide) gc52 (by decide) (by decide)
          refine lv_iload_n hx hb d_X_goes39_45 rfl (lv_at hl 0 rfl) ?_
          refine lv_if_ne (tgt := 63) hx hb d_X_goes39_46 (by decide) (fun c67 => ?_) (fun c67 => absurd c67 (show ¬ (1 : Int32) = (0 : Int32) from (by decide)))
          refine lv_iconst (v := 0) hx hb d_X_goes39_63 (by decide) ?_
          refine lv_istore_n (lv' := [(2, .int (0 : Int32)), (1, .int (1 : Int32)), (0, .ref p0)]) hx hb d_X_goes39_64 rfl hl (by decide) rfl (fun ls hl => ?_)
          refine lv_aload_n hx hb d_X_goes39_65 rfl (lv_at hl 2 rfl) ?_
          refine lv_aload_n hx hb d_X_goes39_66 rfl (lv_at hl 2 rfl) ?_
          refine va_get (D := D) (ci := 7) (v := .int x0_13) (C := "SignMachineModel") (T := F_X) (N := 64) hx hb hk fi_X hown hK.1 hP 0 rfl rfl 13 (by decide) (hk _ k_1134) (fun _ h9 => h9) rfl d_X_goes39_67 ?_
          refine lv_iconst (v := 2) hx hb d_X_goes39_70 (by decide) ?_
          refine lv_icmp_eq (tgt := 82) hx hb d_X_goes39_71 (by decide) (fun c68 => absurd c68 (show ¬ x0_13 = (2 : Int32) from c50)) (fun c68 => ?_)
          refine lv_aload_n hx hb d_X_goes39_74 rfl (lv_at hl 2 rfl) ?_
          refine va_get (D := D) (ci := 7) (v := .int x0_13) (C := "SignMachineModel") (T := F_X) (N := 64) hx hb hk fi_X hown hK.1 hP 0 rfl rfl 13 (by decide) (hk _ k_1134) (fun _ h9 => h9) rfl d_X_goes39_75 ?_
          refine lv_iconst (v := 3) hx hb d_X_goes39_78 (by decide) ?_
          refine lv_icmp_ne (tgt := 86) hx hb d_X_goes39_79 (by decide) (fun c69 => absurd (show x0_13 = (3 : Int32) from c52) c69) (fun c69 => ?_)
          refine lv_iconst (v := 0) hx hb d_X_goes39_82 (by decide) ?_
          refine lv_goto (tgt := 90) hx hb d_X_goes39_83 (by decide) ?_
          refine va_put (D := D) (ci := 7) (v := .int (0 : Int32)) (ty := .int) (C := "SignMachineModel") (T := F_X) (N := 64) hx hb hk fi_X ft_X ft_X_ok fn_X hown hK.1 hP hD hS 0 rfl rfl 5 (by decide) (hk _ k_1126) (fun _ h9 => h9) rfl (by decide +kernel) rfl rfl (Nat.le_of_ble_eq_true rfl) d_X_goes39_90 (fun H locs hP hD hS => ?_)
          have hP : va_P D classes (wS50 cI cJ cZ cB p0 p1 p2 p3 p4 p5 p6 p7 p8 p9 p10 p11 p12 p13 p14 p15 p16 p17 p18 p19 p20 p21 p22 p23 p24 p25 x0_4 (0 : Int32) x0_6 x0_7 x0_8 x0_12 x0_13 x0_14 x0_15 x0_16 x0_17 x0_18 x0_22 x0_23 x0_24 x0_25 x0_26 x0_27 x0_28 x0_29 x0_30 x0_31 x0_32 x0_36 x0_39 x0_40 x0_44 x0_49 x0_51 x0_53 x0_54 x0_55 x0_56 x0_57 x0_58 x0_59 x0_60 x0_61 x0_62 y1 y2 y3 y4 y5 y6 y7 y8 y9 y10 y11 y12 y13 y14 y15 y16 y17 y18 y19 y20 y21 y22 y23 y24 y25) H := hP
          have hD : va_D A (wS50 cI cJ cZ cB p0 p1 p2 p3 p4 p5 p6 p7 p8 p9 p10 p11 p12 p13 p14 p15 p16 p17 p18 p19 p20 p21 p22 p23 p24 p25 x0_4 (0 : Int32) x0_6 x0_7 x0_8 x0_12 x0_13 x0_14 x0_15 x0_16 x0_17 x0_18 x0_22 x0_23 x0_24 x0_25 x0_26 x0_27 x0_28 x0_29 x0_30 x0_31 x0_32 x0_36 x0_39 x0_40 x0_44 x0_49 x0_51 x0_53 x0_54 x0_55 x0_56 x0_57 x0_58 x0_59 x0_60 x0_61 x0_62 y1 y2 y3 y4 y5 y6 y7 y8 y9 y10 y11 y12 y13 y14 y15 y16 y17 y18 y19 y20 y21 y22 y23 y24 y25) := hD
          refine lv_aload_n hx hb d_X_goes39_93 rfl (lv_at hl 2 rfl) ?_
          refine lv_iload_n hx hb d_X_goes39_94 rfl (lv_at hl 0 rfl) ?_
          refine lv_aload_n hx hb d_X_goes39_95 rfl (lv_at hl 2 rfl) ?_
          refine va_get (D := D) (ci := 7) (v := .int x0_13) (C := "SignMachineModel") (T := F_X) (N := 64) hx hb hk fi_X hown hK.1 hP 0 rfl rfl 13 (by decide) (hk _ k_1134) (fun _ h9 => h9) rfl d_X_goes39_96 ?_
          refine lv_iconst (v := 1) hx hb d_X_goes39_99 (by decide) ?_
          refine lv_icmp_ne (tgt := 107) hx hb d_X_goes39_100 (by decide) (fun c70 => ?_) (fun c70 => absurd c70 (show ¬ x0_13 = (1 : Int32) from (fun q9 => (knE R66 (show 1 ≤ (1 : Int) ∧ (1 : Int) ≤ 1 from by decide) (by decide)) (c_eq q9))))
          refine lv_iconst (v := 0) hx hb d_X_goes39_107 (by decide) ?_
          refine kn_v (va_runV (C := "SignMachineModel") (As := [.int (0 : Int32), .int (0 : Int32)]) (rest := []) ⟨hx, hb, hml, hown, hk⟩ (c_X_goTo l D cI cJ cZ cB p0 p1 p2 p3 p4 p5 p6 p7 p8 p9 p10 p11 p12 p13 p14 p15 p16 p17 p18 p19 p20 p21 p22 p23 p24 p25 H.size x0_4 (0 : Int32) x0_6 x0_7 x0_8 x0_12 x0_13 x0_14 x0_15 x0_16 x0_17 x0_18 x0_22 x0_23 x0_24 x0_25 x0_26 x0_27 x0_28 x0_29 x0_30 x0_31 x0_32 x0_36 x0_39 x0_40 x0_44 x0_49 x0_51 x0_53 x0_54 x0_55 x0_56 x0_57 x0_58 x0_59 x0_60 x0_61 x0_62 y1 y2 y3 y4 y5 y6 y7 y8 y9 y10 y11 y12 y13 y14 y15 y16 y17 y18 y19 y20 y21 y22 y23 y24 y25 (0 : Int32) (0 : Int32) Rx0_4 Rx0_15 Ay4 (show x0_4.toInt ≤ 3999 from by omega) (show (0 : Int) = 1 → (0 ≤ x0_15.toInt ∧ x0_15.toInt ≤ 3999) from by omega) (by decide) (by decide)) (v_X_goTo hk k_1441 ⟨Nat.le_of_ble_eq_true rfl, Nat.le_of_ble_eq_true rfl⟩) (pM_v hK hP hD (ci := 7) (q0 := 0) rfl rfl rfl) rfl rfl hl.1 rfl (lv_room (Nat.le_of_ble_eq_true rfl)) d_X_goes39_108 ⟨Nat.le_of_ble_eq_true rfl, Nat.le_of_ble_eq_true rfl⟩) hS hA hD (fun u t H locs ht hB hFr hS => ?_)
          obtain ⟨x0_4z71, y4z71, Rx0_4z71, Ay4z71, hP, hD⟩ := hB
          rw [ht] at hP
          have hD := dwk hD hFr
          clear ht hFr
          have hP : va_P D classes (wS50 cI cJ cZ cB p0 p1 p2 p3 p4 p5 p6 p7 p8 p9 p10 p11 p12 p13 p14 p15 p16 p17 p18 p19 p20 p21 p22 p23 p24 p25 x0_4z71 (0 : Int32) x0_6 x0_7 x0_8 x0_12 x0_13 x0_14 x0_15 x0_16 x0_17 x0_18 x0_22 x0_23 x0_24 x0_25 x0_26 x0_27 x0_28 x0_29 x0_30 x0_31 x0_32 x0_36 x0_39 x0_40 x0_44 x0_49 x0_51 x0_53 x0_54 x0_55 x0_56 x0_57 x0_58 x0_59 x0_60 x0_61 x0_62 y1 y2 y3 y4z71 y5 y6 y7 y8 y9 y10 y11 y12 y13 y14 y15 y16 y17 y18 y19 y20 y21 y22 y23 y24 y25) H := hP
          have hD : va_D A (wS50 cI cJ cZ cB p0 p1 p2 p3 p4 p5 p6 p7 p8 p9 p10 p11 p12 p13 p14 p15 p16 p17 p18 p19 p20 p21 p22 p23 p24 p25 x0_4z71 (0 : Int32) x0_6 x0_7 x0_8 x0_12 x0_13 x0_14 x0_15 x0_16 x0_17 x0_18 x0_22 x0_23 x0_24 x0_25 x0_26 x0_27 x0_28 x0_29 x0_30 x0_31 x0_32 x0_36 x0_39 x0_40 x0_44 x0_49 x0_51 x0_53 x0_54 x0_55 x0_56 x0_57 x0_58 x0_59 x0_60 x0_61 x0_62 y1 y2 y3 y4z71 y5 y6 y7 y8 y9 y10 y11 y12 y13 y14 y15 y16 y17 y18 y19 y20 y21 y22 y23 y24 y25) := hD
          exact W.vret hx hb hr (fun t ht hW => ⟨⟨(), rfl, trivial, ⟨x0_4z71, (0 : Int32), y4z71, Rx0_4z71, Ay4z71, by show va_P D classes _ t.heap; rw [ht]; exact hP, hD⟩⟩, hS.F ht⟩) hS.2.2 d_X_goes39_111
      · have gc50 : x0_13.toInt = (2 : Int) := c_eq c50
        have R72 : 2 ≤ x0_13.toInt ∧ x0_13.toInt ≤ 2 := rf_eqX R49 (show 2 ≤ (2 : Int) ∧ (2 : Int) ≤ 2 from by decide) gc50 (by decide) (by decide)
        refine lv_iload_n hx hb d_X_goes39_30 rfl (lv_at hl 0 rfl) ?_
        refine lv_if_eq (tgt := 63) hx hb d_X_goes39_31 (by decide) (fun c73 => absurd c73 (show ¬ (1 : Int32) = (0 : Int32) from (by decide))) (fun c73 => ?_)
        refine lv_goto (tgt := 59) hx hb d_X_goes39_34 (by decide) ?_
        refine lv_iconst (v := 1) hx hb d_X_goes39_59 (by decide) ?_
        refine lv_goto (tgt := 64) hx hb d_X_goes39_60 (by decide) ?_
        refine lv_istore_n (lv' := [(2, .int (1 : Int32)), (1, .int (1 : Int32)), (0, .ref p0)]) hx hb d_X_goes39_64 rfl hl (by decide) rfl (fun ls hl => ?_)
        refine lv_aload_n hx hb d_X_goes39_65 rfl (lv_at hl 2 rfl) ?_
        refine lv_aload_n hx hb d_X_goes39_66 rfl (lv_at hl 2 rfl) ?_
        refine va_get (D := D) (ci := 7) (v := .int x0_13) (C := "SignMachineModel") (T := F_X) (N := 64) hx hb hk fi_X hown hK.1 hP 0 rfl rfl 13 (by decide) (hk _ k_1134) (fun _ h9 => h9) rfl d_X_goes39_67 ?_
        refine lv_iconst (v := 2) hx hb d_X_goes39_70 (by decide) ?_
        refine lv_icmp_eq (tgt := 82) hx hb d_X_goes39_71 (by decide) (fun c74 => ?_) (fun c74 => absurd (show x0_13 = (2 : Int32) from c50) c74)
        refine lv_iconst (v := 0) hx hb d_X_goes39_82 (by decide) ?_
        refine lv_goto (tgt := 90) hx hb d_X_goes39_83 (by decide) ?_
        refine va_put (D := D) (ci := 7) (v := .int (0 : Int32)) (ty := .int) (C := "SignMachineModel") (T := F_X) (N := 64) hx hb hk fi_X ft_X ft_X_ok fn_X hown hK.1 hP hD hS 0 rfl rfl 5 (by decide) (hk _ k_1126) (fun _ h9 => h9) rfl (by decide +kernel) rfl rfl (Nat.le_of_ble_eq_true rfl) d_X_goes39_90 (fun H locs hP hD hS => ?_)
        have hP : va_P D classes (wS50 cI cJ cZ cB p0 p1 p2 p3 p4 p5 p6 p7 p8 p9 p10 p11 p12 p13 p14 p15 p16 p17 p18 p19 p20 p21 p22 p23 p24 p25 x0_4 (0 : Int32) x0_6 x0_7 x0_8 x0_12 x0_13 x0_14 x0_15 x0_16 x0_17 x0_18 x0_22 x0_23 x0_24 x0_25 x0_26 x0_27 x0_28 x0_29 x0_30 x0_31 x0_32 x0_36 x0_39 x0_40 x0_44 x0_49 x0_51 x0_53 x0_54 x0_55 x0_56 x0_57 x0_58 x0_59 x0_60 x0_61 x0_62 y1 y2 y3 y4 y5 y6 y7 y8 y9 y10 y11 y12 y13 y14 y15 y16 y17 y18 y19 y20 y21 y22 y23 y24 y25) H := hP
        have hD : va_D A (wS50 cI cJ cZ cB p0 p1 p2 p3 p4 p5 p6 p7 p8 p9 p10 p11 p12 p13 p14 p15 p16 p17 p18 p19 p20 p21 p22 p23 p24 p25 x0_4 (0 : Int32) x0_6 x0_7 x0_8 x0_12 x0_13 x0_14 x0_15 x0_16 x0_17 x0_18 x0_22 x0_23 x0_24 x0_25 x0_26 x0_27 x0_28 x0_29 x0_30 x0_31 x0_32 x0_36 x0_39 x0_40 x0_44 x0_49 x0_51 x0_53 x0_54 x0_55 x0_56 x0_57 x0_58 x0_59 x0_60 x0_61 x0_62 y1 y2 y3 y4 y5 y6 y7 y8 y9 y10 y11 y12 y13 y14 y15 y16 y17 y18 y19 y20 y21 y22 y23 y24 y25) := hD
        refine lv_aload_n hx hb d_X_goes39_93 rfl (lv_at hl 2 rfl) ?_
        refine lv_iload_n hx hb d_X_goes39_94 rfl (lv_at hl 0 rfl) ?_
        refine lv_aload_n hx hb d_X_goes39_95 rfl (lv_at hl 2 rfl) ?_
        refine va_get (D := D) (ci := 7) (v := .int x0_13) (C := "SignMachineModel") (T := F_X) (N := 64) hx hb hk fi_X hown hK.1 hP 0 rfl rfl 13 (by decide) (hk _ k_1134) (fun _ h9 => h9) rfl d_X_goes39_96 ?_
        refine lv_iconst (v := 1) hx hb d_X_goes39_99 (by decide) ?_
        refine lv_icmp_ne (tgt := 107) hx hb d_X_goes39_100 (by decide) (fun c75 => ?_) (fun c75 => absurd c75 (show ¬ x0_13 = (1 : Int32) from (fun q9 => (knE R72 (show 1 ≤ (1 : Int) ∧ (1 : Int) ≤ 1 from by decide) (by decide)) (c_eq q9))))
        refine lv_iconst (v := 0) hx hb d_X_goes39_107 (by decide) ?_
        refine kn_v (va_runV (C := "SignMachineModel") (As := [.int (1 : Int32), .int (0 : Int32)]) (rest := []) ⟨hx, hb, hml, hown, hk⟩ (c_X_goTo l D cI cJ cZ cB p0 p1 p2 p3 p4 p5 p6 p7 p8 p9 p10 p11 p12 p13 p14 p15 p16 p17 p18 p19 p20 p21 p22 p23 p24 p25 H.size x0_4 (0 : Int32) x0_6 x0_7 x0_8 x0_12 x0_13 x0_14 x0_15 x0_16 x0_17 x0_18 x0_22 x0_23 x0_24 x0_25 x0_26 x0_27 x0_28 x0_29 x0_30 x0_31 x0_32 x0_36 x0_39 x0_40 x0_44 x0_49 x0_51 x0_53 x0_54 x0_55 x0_56 x0_57 x0_58 x0_59 x0_60 x0_61 x0_62 y1 y2 y3 y4 y5 y6 y7 y8 y9 y10 y11 y12 y13 y14 y15 y16 y17 y18 y19 y20 y21 y22 y23 y24 y25 (1 : Int32) (0 : Int32) Rx0_4 Rx0_15 Ay4 (show x0_4.toInt ≤ 3999 from by omega) (show (1 : Int) = 1 → (0 ≤ x0_15.toInt ∧ x0_15.toInt ≤ 3999) from by omega) (by decide) (by decide)) (v_X_goTo hk k_1441 ⟨Nat.le_of_ble_eq_true rfl, Nat.le_of_ble_eq_true rfl⟩) (pM_v hK hP hD (ci := 7) (q0 := 0) rfl rfl rfl) rfl rfl hl.1 rfl (lv_room (Nat.le_of_ble_eq_true rfl)) d_X_goes39_108 ⟨Nat.le_of_ble_eq_true rfl, Nat.le_of_ble_eq_true rfl⟩) hS hA hD (fun u t H locs ht hB hFr hS => ?_)
        obtain ⟨x0_4z76, y4z76, Rx0_4z76, Ay4z76, hP, hD⟩ := hB
        rw [ht] at hP
        have hD := dwk hD hFr
        clear ht hFr
        have hP : va_P D classes (wS50 cI cJ cZ cB p0 p1 p2 p3 p4 p5 p6 p7 p8 p9 p10 p11 p12 p13 p14 p15 p16 p17 p18 p19 p20 p21 p22 p23 p24 p25 x0_4z76 (0 : Int32) x0_6 x0_7 x0_8 x0_12 x0_13 x0_14 x0_15 x0_16 x0_17 x0_18 x0_22 x0_23 x0_24 x0_25 x0_26 x0_27 x0_28 x0_29 x0_30 x0_31 x0_32 x0_36 x0_39 x0_40 x0_44 x0_49 x0_51 x0_53 x0_54 x0_55 x0_56 x0_57 x0_58 x0_59 x0_60 x0_61 x0_62 y1 y2 y3 y4z76 y5 y6 y7 y8 y9 y10 y11 y12 y13 y14 y15 y16 y17 y18 y19 y20 y21 y22 y23 y24 y25) H := hP
        have hD : va_D A (wS50 cI cJ cZ cB p0 p1 p2 p3 p4 p5 p6 p7 p8 p9 p10 p11 p12 p13 p14 p15 p16 p17 p18 p19 p20 p21 p22 p23 p24 p25 x0_4z76 (0 : Int32) x0_6 x0_7 x0_8 x0_12 x0_13 x0_14 x0_15 x0_16 x0_17 x0_18 x0_22 x0_23 x0_24 x0_25 x0_26 x0_27 x0_28 x0_29 x0_30 x0_31 x0_32 x0_36 x0_39 x0_40 x0_44 x0_49 x0_51 x0_53 x0_54 x0_55 x0_56 x0_57 x0_58 x0_59 x0_60 x0_61 x0_62 y1 y2 y3 y4z76 y5 y6 y7 y8 y9 y10 y11 y12 y13 y14 y15 y16 y17 y18 y19 y20 y21 y22 y23 y24 y25) := hD
        exact W.vret hx hb hr (fun t ht hW => ⟨⟨(), rfl, trivial, ⟨x0_4z76, (0 : Int32), y4z76, Rx0_4z76, Ay4z76, by show va_P D classes _ t.heap; rw [ht]; exact hP, hD⟩⟩, hS.F ht⟩) hS.2.2 d_X_goes39_111
theorem v_X_goes39 {R : Room} {s : State} {args : Array Value} {own : String} {index : Nat} (hk : ∀ w ∈ tb, w.before args s = true) (hl : Cond.methodLink own index y_X_goes39 ∈ tb) (hR : 1 + 1 ≤ R.frames ∧ 8 + (3 + 11) + 22 ≤ R.locals) : CallW R s args own "SignMachineModel" index y_X_goes39 b_X_goes39 3 none (.code y_X_goes39 b_X_goes39 3 none :: tb) ({ frames := 1, cells := 0, slots := 0, locals := 22 }) 0 0 0 := mk_v 0 hk k_1436 hl k_1435 k_71 k_119 rfl rfl h_X_goes39 hR
set_option maxHeartbeats 8000000 in
set_option maxRecDepth 100000 in
theorem c_X_change (l : Launch) (D : va_G) (cI cJ cZ cB : ClassId) (p0 p1 p2 p3 p4 p5 p6 p7 p8 p9 p10 p11 p12 p13 p14 p15 p16 p17 p18 p19 p20 p21 p22 p23 p24 p25 : Nat) (sz : Nat) (x0_4 : Int32) (x0_5 : Int32) (x0_6 : Int32) (x0_7 : Int32) (x0_8 : Int32) (x0_12 : Int32) (x0_13 : Int32) (x0_14 : Int32) (x0_15 : Int32) (x0_16 : Int32) (x0_17 : Int32) (x0_18 : Int32) (x0_22 : Int32) (x0_23 : Int32) (x0_24 : Int32) (x0_25 : Int32) (x0_26 : Int32) (x0_27 : Int32) (x0_28 : Int32) (x0_29 : Int32) (x0_30 : Int32) (x0_31 : Int32) (x0_32 : Int32) (x0_36 : Int32) (x0_39 : Int32) (x0_40 : Int64) (x0_44 : Int32) (x0_49 : Int32) (x0_51 : Int32) (x0_53 : Int32) (x0_54 : Int32) (x0_55 : Int64) (x0_56 : Int32) (x0_57 : Int32) (x0_58 : Int32) (x0_59 : Int32) (x0_60 : Int32) (x0_61 : Int32) (x0_62 : Int64) (y1 : Nat → Int32) (y2 : Nat → Int32) (y3 : Nat → Int32) (y4 : Nat → Int32) (y5 : Nat → Int32) (y6 : Nat → Int32) (y7 : Nat → Int32) (y8 : Nat → Int32) (y9 : Nat → Int32) (y10 : Nat → Int32) (y11 : Nat → Int64) (y12 : Nat → Int32) (y13 : Nat → Int64) (y14 : Nat → Int32) (y15 : Nat → Int64) (y16 : Nat → Int32) (y17 : Nat → Int32) (y18 : Nat → Int32) (y19 : Nat → Int32) (y20 : Nat → Int32) (y21 : Nat → Int32) (y22 : Nat → Int32) (y23 : Nat → Int32) (y24 : Nat → Int64) (y25 : Nat → Int64) (a1 : Int32) (Rx0_13 : 0 ≤ x0_13.toInt ∧ x0_13.toInt ≤ 63) (Rx0_15 : (-8190) ≤ x0_15.toInt ∧ x0_15.toInt ≤ 8190) (Rx0_16 : 0 ≤ x0_16.toInt ∧ x0_16.toInt ≤ 1) (Ay3 : ∀ i : Nat, (0 ≤ (y3 i).toInt ∧ (y3 i).toInt ≤ 1)) (Ay4 : ∀ i : Nat, ((0 ≤ (y4 i).toInt ∧ (y4 i).toInt ≤ 1073741823) ∧ ((1 ≤ (i : Int) ∧ (i : Int) ≤ 6) → (y4 i).toInt ≤ 4095))) (Q0 : (x0_15.toInt < 0 → x0_16.toInt = 1) ∧ (0 < x0_15.toInt → x0_16.toInt = 0)) (Q1 : (1 ≤ a1.toInt ∧ a1.toInt ≤ 6 ∧ x0_13.toInt = 0) → (-4095 ≤ rv y3 y4 (a1).toNatClampNeg + x0_15.toInt ∧ rv y3 y4 (a1).toNatClampNeg + x0_15.toInt ≤ 4095)) (Q2 : (1 ≤ a1.toInt ∧ a1.toInt ≤ 6 ∧ x0_13.toInt = 1) → (-4095 ≤ rv y3 y4 (a1).toNatClampNeg - x0_15.toInt ∧ rv y3 y4 (a1).toNatClampNeg - x0_15.toInt ≤ 4095)) (Q3 : (1 ≤ a1.toInt ∧ a1.toInt ≤ 6 ∧ 2 ≤ x0_13.toInt) → (-4095 ≤ x0_15.toInt ∧ x0_15.toInt ≤ 4095)) (Q4 : 0 ≤ a1.toInt ∧ a1.toInt ≤ 7) : Met l y_X_change (.code y_X_change b_X_change 2 none :: tb) ({ frames := 1, cells := 0, slots := 0, locals := 29 }) (pM D cI cJ cZ cB (wS50 cI cJ cZ cB p0 p1 p2 p3 p4 p5 p6 p7 p8 p9 p10 p11 p12 p13 p14 p15 p16 p17 p18 p19 p20 p21 p22 p23 p24 p25 x0_4 x0_5 x0_6 x0_7 x0_8 x0_12 x0_13 x0_14 x0_15 x0_16 x0_17 x0_18 x0_22 x0_23 x0_24 x0_25 x0_26 x0_27 x0_28 x0_29 x0_30 x0_31 x0_32 x0_36 x0_39 x0_40 x0_44 x0_49 x0_51 x0_53 x0_54 x0_55 x0_56 x0_57 x0_58 x0_59 x0_60 x0_61 x0_62 y1 y2 y3 y4 y5 y6 y7 y8 y9 y10 y11 y12 y13 y14 y15 y16 y17 y18 y19 y20 y21 y22 y23 y24 y25) sz [.ref p0, .int a1]) (va_Qv (fun (_ : Unit) => True) (fun _ t => ∃ u_x0_5 : Int32, ∃ u_y3 : Nat → Int32, ∃ u_y4 : Nat → Int32, (∀ i : Nat, (0 ≤ (u_y3 i).toInt ∧ (u_y3 i).toInt ≤ 1)) ∧ (∀ i : Nat, ((0 ≤ (u_y4 i).toInt ∧ (u_y4 i).toInt ≤ 1073741823) ∧ ((1 ≤ (i : Int) ∧ (i : Int) ≤ 6) → (u_y4 i).toInt ≤ 4095))) ∧ va_P D classes (wS50 cI cJ cZ cB p0 p1 p2 p3 p4 p5 p6 p7 p8 p9 p10 p11 p12 p13 p14 p15 p16 p17 p18 p19 p20 p21 p22 p23 p24 p25 x0_4 u_x0_5 x0_6 x0_7 x0_8 x0_12 x0_13 x0_14 x0_15 x0_16 x0_17 x0_18 x0_22 x0_23 x0_24 x0_25 x0_26 x0_27 x0_28 x0_29 x0_30 x0_31 x0_32 x0_36 x0_39 x0_40 x0_44 x0_49 x0_51 x0_53 x0_54 x0_55 x0_56 x0_57 x0_58 x0_59 x0_60 x0_61 x0_62 y1 y2 u_y3 u_y4 y5 y6 y7 y8 y9 y10 y11 y12 y13 y14 y15 y16 y17 y18 y19 y20 y21 y22 y23 y24 y25) t.heap ∧ va_D (va_A (wS50 cI cJ cZ cB p0 p1 p2 p3 p4 p5 p6 p7 p8 p9 p10 p11 p12 p13 p14 p15 p16 p17 p18 p19 p20 p21 p22 p23 p24 p25 x0_4 x0_5 x0_6 x0_7 x0_8 x0_12 x0_13 x0_14 x0_15 x0_16 x0_17 x0_18 x0_22 x0_23 x0_24 x0_25 x0_26 x0_27 x0_28 x0_29 x0_30 x0_31 x0_32 x0_36 x0_39 x0_40 x0_44 x0_49 x0_51 x0_53 x0_54 x0_55 x0_56 x0_57 x0_58 x0_59 x0_60 x0_61 x0_62 y1 y2 y3 y4 y5 y6 y7 y8 y9 y10 y11 y12 y13 y14 y15 y16 y17 y18 y19 y20 y21 y22 y23 y24 y25) sz) (wS50 cI cJ cZ cB p0 p1 p2 p3 p4 p5 p6 p7 p8 p9 p10 p11 p12 p13 p14 p15 p16 p17 p18 p19 p20 p21 p22 p23 p24 p25 x0_4 u_x0_5 x0_6 x0_7 x0_8 x0_12 x0_13 x0_14 x0_15 x0_16 x0_17 x0_18 x0_22 x0_23 x0_24 x0_25 x0_26 x0_27 x0_28 x0_29 x0_30 x0_31 x0_32 x0_36 x0_39 x0_40 x0_44 x0_49 x0_51 x0_53 x0_54 x0_55 x0_56 x0_57 x0_58 x0_59 x0_60 x0_61 x0_62 y1 y2 u_y3 u_y4 y5 y6 y7 y8 y9 y10 y11 y12 y13 y14 y15 y16 y17 y18 y19 y20 y21 y22 y23 y24 y25)) (va_A (wS50 cI cJ cZ cB p0 p1 p2 p3 p4 p5 p6 p7 p8 p9 p10 p11 p12 p13 p14 p15 p16 p17 p18 p19 p20 p21 p22 p23 p24 p25 x0_4 x0_5 x0_6 x0_7 x0_8 x0_12 x0_13 x0_14 x0_15 x0_16 x0_17 x0_18 x0_22 x0_23 x0_24 x0_25 x0_26 x0_27 x0_28 x0_29 x0_30 x0_31 x0_32 x0_36 x0_39 x0_40 x0_44 x0_49 x0_51 x0_53 x0_54 x0_55 x0_56 x0_57 x0_58 x0_59 x0_60 x0_61 x0_62 y1 y2 y3 y4 y5 y6 y7 y8 y9 y10 y11 y12 y13 y14 y15 y16 y17 y18 y19 y20 y21 y22 y23 y24 y25) sz)) 0 0 (va_A (wS50 cI cJ cZ cB p0 p1 p2 p3 p4 p5 p6 p7 p8 p9 p10 p11 p12 p13 p14 p15 p16 p17 p18 p19 p20 p21 p22 p23 p24 p25 x0_4 x0_5 x0_6 x0_7 x0_8 x0_12 x0_13 x0_14 x0_15 x0_16 x0_17 x0_18 x0_22 x0_23 x0_24 x0_25 x0_26 x0_27 x0_28 x0_29 x0_30 x0_31 x0_32 x0_36 x0_39 x0_40 x0_44 x0_49 x0_51 x0_53 x0_54 x0_55 x0_56 x0_57 x0_58 x0_59 x0_60 x0_61 x0_62 y1 y2 y3 y4 y5 y6 y7 y8 y9 y10 y11 y12 y13 y14 y15 y16 y17 y18 y19 y20 y21 y22 y23 y24 y25) sz) := by
  refine Met.ofW (cc := b_X_change) (maxL := 2) (ret := none) (by decide) rfl ?_
  intro p e s m args below meth c s₁ B hml hv
  obtain ⟨rfl, hsz, hK, hP, hD0⟩ := hv
  subst hsz
  have hD := hD0.self (sz := s.heap.size)
  generalize hAe : va_A (wS50 cI cJ cZ cB p0 p1 p2 p3 p4 p5 p6 p7 p8 p9 p10 p11 p12 p13 p14 p15 p16 p17 p18 p19 p20 p21 p22 p23 p24 p25 x0_4 x0_5 x0_6 x0_7 x0_8 x0_12 x0_13 x0_14 x0_15 x0_16 x0_17 x0_18 x0_22 x0_23 x0_24 x0_25 x0_26 x0_27 x0_28 x0_29 x0_30 x0_31 x0_32 x0_36 x0_39 x0_40 x0_44 x0_49 x0_51 x0_53 x0_54 x0_55 x0_56 x0_57 x0_58 x0_59 x0_60 x0_61 x0_62 y1 y2 y3 y4 y5 y6 y7 y8 y9 y10 y11 y12 y13 y14 y15 y16 y17 y18 y19 y20 y21 y22 y23 y24 y25) s.heap.size = A at hD ⊢
  have hA : ∀ q : Nat, s.heap.size ≤ q → A q := fun q h => by rw [← hAe]; exact Or.inr h
  clear hAe hD0
  have hS : va_S A s.heap s.heap [] := va_S.rf
  have hx := B.exec
  have hb := B.bytes
  have hr := B.returns
  have hts := atoms_spec (ws := .code y_X_change b_X_change 2 none :: tb) B.pre
  have hk : ∀ w ∈ tb, w.before [.ref p0, .int a1].toArray s = true := fun w h => hts w (List.mem_cons_of_mem _ h)
  have hown : s.vm.findClass "SignMachineModel" = some m.cls := findClass_of_methodNamed B.named
  have hlocks := B.notSynchronized
  have hl := lv_entry ([.ref p0, .int a1]) (n := 2) (Nat.le_of_ble_eq_true rfl)
  rw [lg_entry_eq]
  generalize (lg_sl ([.ref p0, .int a1]) ++ List.replicate (2 - (lg_sl ([.ref p0, .int a1])).length) Slot.unset).toArray = ls at hl ⊢
  have hl : lv_has ls 2 [(0, .ref p0), (1, .int a1)] := hl
  clear hts B
  refine lv_aload_n hx hb d_X_change_0 rfl (lv_at hl 0 rfl) ?_
  refine va_get (D := D) (ci := 7) (v := .int x0_13) (C := "SignMachineModel") (T := F_X) (N := 64) hx hb hk fi_X hown hK.1 hP 0 rfl rfl 13 (by decide) (hk _ k_1134) (fun _ h9 => h9) rfl d_X_change_1 ?_
  refine lv_iconst (v := 2) hx hb d_X_change_4 (by decide) ?_
  refine lv_icmp_ge (tgt := 55) hx hb d_X_change_5 (by decide) (fun c1 => ?_) (fun c1 => ?_)
  · have gc1 : (2 : Int) ≤ x0_13.toInt := c_le c1
    have R2 : 2 ≤ x0_13.toInt ∧ x0_13.toInt ≤ 63 := rf_geX Rx0_13 (show 2 ≤ (2 : Int) ∧ (2 : Int) ≤ 2 from by decide) gc1 (by decide) (by decide)
    refine lv_aload_n hx hb d_X_change_55 rfl (lv_at hl 0 rfl) ?_
    refine va_get (D := D) (ci := 7) (v := .ref p3) (C := "SignMachineModel") (T := F_X) (N := 64) hx hb hk fi_X hown hK.1 hP 0 rfl rfl 2 (by decide) (hk _ k_1123) (fun _ h9 => h9) rfl d_X_change_56 ?_
    refine lv_iload_n hx hb d_X_change_59 rfl (lv_at hl 1 rfl) ?_
    refine lv_aload_n hx hb d_X_change_60 rfl (lv_at hl 0 rfl) ?_
    refine va_get (D := D) (ci := 7) (v := .int x0_13) (C := "SignMachineModel") (T := F_X) (N := 64) hx hb hk fi_X hown hK.1 hP 0 rfl rfl 13 (by decide) (hk _ k_1134) (fun _ h9 => h9) rfl d_X_change_61 ?_
    refine lv_iconst (v := 2) hx hb d_X_change_64 (by decide) ?_
    refine lv_icmp_ne (tgt := 75) hx hb d_X_change_65 (by decide) (fun c3 => ?_) (fun c3 => ?_)
    · have gc3 : x0_13.toInt ≠ (2 : Int) := c_ne c3
      have R4 : 3 ≤ x0_13.toInt ∧ x0_13.toInt ≤ 63 := rf_neX R2 (show 2 ≤ (2 : Int) ∧ (2 : Int) ≤ 2 from by decide) gc3 (by decide) (by decide)
      refine lv_iconst (v := 1) hx hb d_X_change_75 (by decide) ?_
      refine lv_aload_n hx hb d_X_change_76 rfl (lv_at hl 0 rfl) ?_
      refine va_get (D := D) (ci := 7) (v := .int x0_16) (C := "SignMachineModel") (T := F_X) (N := 64) hx hb hk fi_X hown hK.1 hP 0 rfl rfl 16 (by decide) (hk _ k_1137) (fun _ h9 => h9) rfl d_X_change_77 ?_
      refine lv_isub hx hb d_X_change_80 ?_
      refine lv_topi (fun v5 hv5 => ?_)
      obtain ⟨ev5, Rv5⟩ : v5.toInt = (1 : Int) - x0_16.toInt ∧ (0 ≤ v5.toInt ∧ v5.toInt ≤ 1) := sb3 hv5 (show 1 ≤ (1 : Int32).toInt ∧ (1 : Int32).toInt ≤ 1 from by decide) Rx0_16 (by decide) (by decide) (by decide) (by decide)
      refine va_iast hx hb hK.1 hP hD hS 3 0 rfl rfl (vpb Q4 (by decide) (by decide)) d_X_change_81 (fun H locs hP hD hS => ?_)
      have hP : va_P D classes (wS50 cI cJ cZ cB p0 p1 p2 p3 p4 p5 p6 p7 p8 p9 p10 p11 p12 p13 p14 p15 p16 p17 p18 p19 p20 p21 p22 p23 p24 p25 x0_4 x0_5 x0_6 x0_7 x0_8 x0_12 x0_13 x0_14 x0_15 x0_16 x0_17 x0_18 x0_22 x0_23 x0_24 x0_25 x0_26 x0_27 x0_28 x0_29 x0_30 x0_31 x0_32 x0_36 x0_39 x0_40 x0_44 x0_49 x0_51 x0_53 x0_54 x0_55 x0_56 x0_57 x0_58 x0_59 x0_60 x0_61 x0_62 y1 y2 (upd y3 (a1).toNatClampNeg v5) y4 y5 y6 y7 y8 y9 y10 y11 y12 y13 y14 y15 y16 y17 y18 y19 y20 y21 y22 y23 y24 y25) H := hP
      have hD : va_D A (wS50 cI cJ cZ cB p0 p1 p2 p3 p4 p5 p6 p7 p8 p9 p10 p11 p12 p13 p14 p15 p16 p17 p18 p19 p20 p21 p22 p23 p24 p25 x0_4 x0_5 x0_6 x0_7 x0_8 x0_12 x0_13 x0_14 x0_15 x0_16 x0_17 x0_18 x0_22 x0_23 x0_24 x0_25 x0_26 x0_27 x0_28 x0_29 x0_30 x0_31 x0_32 x0_36 x0_39 x0_40 x0_44 x0_49 x0_51 x0_53 x0_54 x0_55 x0_56 x0_57 x0_58 x0_59 x0_60 x0_61 x0_62 y1 y2 (upd y3 (a1).toNatClampNeg v5) y4 y5 y6 y7 y8 y9 y10 y11 y12 y13 y14 y15 y16 y17 y18 y19 y20 y21 y22 y23 y24 y25) := hD
      obtain ⟨v6, hv6⟩ : ∃ y : Nat → Int32, y = (upd y3 (a1).toNatClampNeg v5) := ⟨_, rfl⟩
      rw [← hv6] at hP hD
      have Gv6 : (0 ≤ (v5).toInt ∧ (v5).toInt ≤ 1) := Rv5
      have Av6 : ∀ i : Nat, (0 ≤ (v6 i).toInt ∧ (v6 i).toInt ≤ 1) := by rw [hv6]; exact upd_all (P := fun i x => (0 ≤ (x).toInt ∧ (x).toInt ≤ 1)) Ay3 Gv6
      clear hv6
      refine lv_aload_n hx hb d_X_change_82 rfl (lv_at hl 0 rfl) ?_
      refine va_get (D := D) (ci := 7) (v := .ref p4) (C := "SignMachineModel") (T := F_X) (N := 64) hx hb hk fi_X hown hK.1 hP 0 rfl rfl 3 (by decide) (hk _ k_1124) (fun _ h9 => h9) rfl d_X_change_83 ?_
      refine lv_iload_n hx hb d_X_change_86 rfl (lv_at hl 1 rfl) ?_
      refine lv_aload_n hx hb d_X_change_87 rfl (lv_at hl 0 rfl) ?_
      refine va_get (D := D) (ci := 7) (v := .int x0_15) (C := "SignMachineModel") (T := F_X) (N := 64) hx hb hk fi_X hown hK.1 hP 0 rfl rfl 15 (by decide) (hk _ k_1136) (fun _ h9 => h9) rfl d_X_change_88 ?_
      refine lv_if_ge (tgt := 102) hx hb d_X_change_91 (by decide) (fun c7 => ?_) (fun c7 => ?_)
      · have gc7 : (0 : Int) ≤ x0_15.toInt := c_le c7
        have R8 : 0 ≤ x0_15.toInt ∧ x0_15.toInt ≤ 8190 := rf_geX Rx0_15 (show 0 ≤ (0 : Int) ∧ (0 : Int) ≤ 0 from by decide) gc7 (by decide) (by decide)
        refine lv_aload_n hx hb d_X_change_102 rfl (lv_at hl 0 rfl) ?_
        refine va_get (D := D) (ci := 7) (v := .int x0_15) (C := "SignMachineModel") (T := F_X) (N := 64) hx hb hk fi_X hown hK.1 hP 0 rfl rfl 15 (by decide) (hk _ k_1136) (fun _ h9 => h9) rfl d_X_change_103 ?_
        refine va_iast hx hb hK.1 hP hD hS 4 0 rfl rfl (vpb Q4 (by decide) (by decide)) d_X_change_106 (fun H locs hP hD hS => ?_)
        have hP : va_P D classes (wS50 cI cJ cZ cB p0 p1 p2 p3 p4 p5 p6 p7 p8 p9 p10 p11 p12 p13 p14 p15 p16 p17 p18 p19 p20 p21 p22 p23 p24 p25 x0_4 x0_5 x0_6 x0_7 x0_8 x0_12 x0_13 x0_14 x0_15 x0_16 x0_17 x0_18 x0_22 x0_23 x0_24 x0_25 x0_26 x0_27 x0_28 x0_29 x0_30 x0_31 x0_32 x0_36 x0_39 x0_40 x0_44 x0_49 x0_51 x0_53 x0_54 x0_55 x0_56 x0_57 x0_58 x0_59 x0_60 x0_61 x0_62 y1 y2 v6 (upd y4 (a1).toNatClampNeg x0_15) y5 y6 y7 y8 y9 y10 y11 y12 y13 y14 y15 y16 y17 y18 y19 y20 y21 y22 y23 y24 y25) H := hP
        have hD : va_D A (wS50 cI cJ cZ cB p0 p1 p2 p3 p4 p5 p6 p7 p8 p9 p10 p11 p12 p13 p14 p15 p16 p17 p18 p19 p20 p21 p22 p23 p24 p25 x0_4 x0_5 x0_6 x0_7 x0_8 x0_12 x0_13 x0_14 x0_15 x0_16 x0_17 x0_18 x0_22 x0_23 x0_24 x0_25 x0_26 x0_27 x0_28 x0_29 x0_30 x0_31 x0_32 x0_36 x0_39 x0_40 x0_44 x0_49 x0_51 x0_53 x0_54 x0_55 x0_56 x0_57 x0_58 x0_59 x0_60 x0_61 x0_62 y1 y2 v6 (upd y4 (a1).toNatClampNeg x0_15) y5 y6 y7 y8 y9 y10 y11 y12 y13 y14 y15 y16 y17 y18 y19 y20 y21 y22 y23 y24 y25) := hD
        obtain ⟨v9, hv9⟩ : ∃ y : Nat → Int32, y = (upd y4 (a1).toNatClampNeg x0_15) := ⟨_, rfl⟩
        rw [← hv9] at hP hD
        have : (((a1).toNatClampNeg : Nat) : Int) = a1.toInt := ti_n Q4 (by decide)
        have Gv9 : ((0 ≤ (x0_15).toInt ∧ (x0_15).toInt ≤ 1073741823) ∧ ((1 ≤ (((a1).toNatClampNeg : Nat) : Int) ∧ (((a1).toNatClampNeg : Nat) : Int) ≤ 6) → (x0_15).toInt ≤ 4095)) := by refine ⟨by omega, ?_⟩; omega
        have Av9 : ∀ i : Nat, ((0 ≤ (v9 i).toInt ∧ (v9 i).toInt ≤ 1073741823) ∧ ((1 ≤ (i : Int) ∧ (i : Int) ≤ 6) → (v9 i).toInt ≤ 4095)) := by rw [hv9]; exact upd_all (P := fun i x => ((0 ≤ (x).toInt ∧ (x).toInt ≤ 1073741823) ∧ ((1 ≤ (i : Int) ∧ (i : Int) ≤ 6) → (x).toInt ≤ 4095))) Ay4 Gv9
        clear hv9
        exact W.vret hx hb hr (fun t ht hW => ⟨⟨(), rfl, trivial, ⟨x0_5, v6, v9, Av6, Av9, by show va_P D classes _ t.heap; rw [ht]; exact hP, hD⟩⟩, hS.F ht⟩) hS.2.2 d_X_change_107
      · have gc7 : x0_15.toInt < (0 : Int) := c_nle c7
        have R10 : (-8190) ≤ x0_15.toInt ∧ x0_15.toInt ≤ (-1) := rf_ltX Rx0_15 (show 0 ≤ (0 : Int) ∧ (0 : Int) ≤ 0 from by decide) gc7 (by decide) (by decide)
        refine lv_aload_n hx hb d_X_change_94 rfl (lv_at hl 0 rfl) ?_
        refine va_get (D := D) (ci := 7) (v := .int x0_15) (C := "SignMachineModel") (T := F_X) (N := 64) hx hb hk fi_X hown hK.1 hP 0 rfl rfl 15 (by decide) (hk _ k_1136) (fun _ h9 => h9) rfl d_X_change_95 ?_
        refine lv_ineg hx hb d_X_change_98 ?_
        refine lv_topi (fun v11 hv11 => ?_)
        obtain ⟨ev11, Rv11⟩ : v11.toInt = -x0_15.toInt ∧ (1 ≤ v11.toInt ∧ v11.toInt ≤ 8190) := ng3 hv11 R10 (by decide) (by decide) (by decide) (by decide)
        refine lv_goto (tgt := 106) hx hb d_X_change_99 (by decide) ?_
        refine va_iast hx hb hK.1 hP hD hS 4 0 rfl rfl (vpb Q4 (by decide) (by decide)) d_X_change_106 (fun H locs hP hD hS => ?_)
        have hP : va_P D classes (wS50 cI cJ cZ cB p0 p1 p2 p3 p4 p5 p6 p7 p8 p9 p10 p11 p12 p13 p14 p15 p16 p17 p18 p19 p20 p21 p22 p23 p24 p25 x0_4 x0_5 x0_6 x0_7 x0_8 x0_12 x0_13 x0_14 x0_15 x0_16 x0_17 x0_18 x0_22 x0_23 x0_24 x0_25 x0_26 x0_27 x0_28 x0_29 x0_30 x0_31 x0_32 x0_36 x0_39 x0_40 x0_44 x0_49 x0_51 x0_53 x0_54 x0_55 x0_56 x0_57 x0_58 x0_59 x0_60 x0_61 x0_62 y1 y2 v6 (upd y4 (a1).toNatClampNeg v11) y5 y6 y7 y8 y9 y10 y11 y12 y13 y14 y15 y16 y17 y18 y19 y20 y21 y22 y23 y24 y25) H := hP
        have hD : va_D A (wS50 cI cJ cZ cB p0 p1 p2 p3 p4 p5 p6 p7 p8 p9 p10 p11 p12 p13 p14 p15 p16 p17 p18 p19 p20 p21 p22 p23 p24 p25 x0_4 x0_5 x0_6 x0_7 x0_8 x0_12 x0_13 x0_14 x0_15 x0_16 x0_17 x0_18 x0_22 x0_23 x0_24 x0_25 x0_26 x0_27 x0_28 x0_29 x0_30 x0_31 x0_32 x0_36 x0_39 x0_40 x0_44 x0_49 x0_51 x0_53 x0_54 x0_55 x0_56 x0_57 x0_58 x0_59 x0_60 x0_61 x0_62 y1 y2 v6 (upd y4 (a1).toNatClampNeg v11) y5 y6 y7 y8 y9 y10 y11 y12 y13 y14 y15 y16 y17 y18 y19 y20 y21 y22 y23 y24 y25) := hD
        obtain ⟨v12, hv12⟩ : ∃ y : Nat → Int32, y = (upd y4 (a1).toNatClampNeg v11) := ⟨_, rfl⟩
        rw [← hv12] at hP hD
        have : (((a1).toNatClampNeg : Nat) : Int) = a1.toInt := ti_n Q4 (by decide)
        have Gv12 : ((0 ≤ (v11).toInt ∧ (v11).toInt ≤ 1073741823) ∧ ((1 ≤ (((a1).toNatClampNeg : Nat) : Int) ∧ (((a1).toNatClampNeg : Nat) : Int) ≤ 6) → (v11).toInt ≤ 4095)) := by refine ⟨by omega, ?_⟩; omega
        have Av12 : ∀ i : Nat, ((0 ≤ (v12 i).toInt ∧ (v12 i).toInt ≤ 1073741823) ∧ ((1 ≤ (i : Int) ∧ (i : Int) ≤ 6) → (v12 i).toInt ≤ 4095)) := by rw [hv12]; exact upd_all (P := fun i x => ((0 ≤ (x).toInt ∧ (x).toInt ≤ 1073741823) ∧ ((1 ≤ (i : Int) ∧ (i : Int) ≤ 6) → (x).toInt ≤ 4095))) Ay4 Gv12
        clear hv12
        exact W.vret hx hb hr (fun t ht hW => ⟨⟨(), rfl, trivial, ⟨x0_5, v6, v12, Av6, Av12, by show va_P D classes _ t.heap; rw [ht]; exact hP, hD⟩⟩, hS.F ht⟩) hS.2.2 d_X_change_107
    · have gc3 : x0_13.toInt = (2 : Int) := c_eq c3
      have R13 : 2 ≤ x0_13.toInt ∧ x0_13.toInt ≤ 2 := rf_eqX R2 (show 2 ≤ (2 : Int) ∧ (2 : Int) ≤ 2 from by decide) gc3 (by decide) (by decide)
      refine lv_aload_n hx hb d_X_change_68 rfl (lv_at hl 0 rfl) ?_
      refine va_get (D := D) (ci := 7) (v := .int x0_16) (C := "SignMachineModel") (T := F_X) (N := 64) hx hb hk fi_X hown hK.1 hP 0 rfl rfl 16 (by decide) (hk _ k_1137) (fun _ h9 => h9) rfl d_X_change_69 ?_
      refine lv_goto (tgt := 81) hx hb d_X_change_72 (by decide) ?_
      refine va_iast hx hb hK.1 hP hD hS 3 0 rfl rfl (vpb Q4 (by decide) (by decide)) d_X_change_81 (fun H locs hP hD hS => ?_)
      have hP : va_P D classes (wS50 cI cJ cZ cB p0 p1 p2 p3 p4 p5 p6 p7 p8 p9 p10 p11 p12 p13 p14 p15 p16 p17 p18 p19 p20 p21 p22 p23 p24 p25 x0_4 x0_5 x0_6 x0_7 x0_8 x0_12 x0_13 x0_14 x0_15 x0_16 x0_17 x0_18 x0_22 x0_23 x0_24 x0_25 x0_26 x0_27 x0_28 x0_29 x0_30 x0_31 x0_32 x0_36 x0_39 x0_40 x0_44 x0_49 x0_51 x0_53 x0_54 x0_55 x0_56 x0_57 x0_58 x0_59 x0_60 x0_61 x0_62 y1 y2 (upd y3 (a1).toNatClampNeg x0_16) y4 y5 y6 y7 y8 y9 y10 y11 y12 y13 y14 y15 y16 y17 y18 y19 y20 y21 y22 y23 y24 y25) H := hP
      have hD : va_D A (wS50 cI cJ cZ cB p0 p1 p2 p3 p4 p5 p6 p7 p8 p9 p10 p11 p12 p13 p14 p15 p16 p17 p18 p19 p20 p21 p22 p23 p24 p25 x0_4 x0_5 x0_6 x0_7 x0_8 x0_12 x0_13 x0_14 x0_15 x0_16 x0_17 x0_18 x0_22 x0_23 x0_24 x0_25 x0_26 x0_27 x0_28 x0_29 x0_30 x0_31 x0_32 x0_36 x0_39 x0_40 x0_44 x0_49 x0_51 x0_53 x0_54 x0_55 x0_56 x0_57 x0_58 x0_59 x0_60 x0_61 x0_62 y1 y2 (upd y3 (a1).toNatClampNeg x0_16) y4 y5 y6 y7 y8 y9 y10 y11 y12 y13 y14 y15 y16 y17 y18 y19 y20 y21 y22 y23 y24 y25) := hD
      obtain ⟨v14, hv14⟩ : ∃ y : Nat → Int32, y = (upd y3 (a1).toNatClampNeg x0_16) := ⟨_, rfl⟩
      rw [← hv14] at hP hD
      have Gv14 : (0 ≤ (x0_16).toInt ∧ (x0_16).toInt ≤ 1) := Rx0_16
      have Av14 : ∀ i : Nat, (0 ≤ (v14 i).toInt ∧ (v14 i).toInt ≤ 1) := by rw [hv14]; exact upd_all (P := fun i x => (0 ≤ (x).toInt ∧ (x).toInt ≤ 1)) Ay3 Gv14
      clear hv14
      refine lv_aload_n hx hb d_X_change_82 rfl (lv_at hl 0 rfl) ?_
      refine va_get (D := D) (ci := 7) (v := .ref p4) (C := "SignMachineModel") (T := F_X) (N := 64) hx hb hk fi_X hown hK.1 hP 0 rfl rfl 3 (by decide) (hk _ k_1124) (fun _ h9 => h9) rfl d_X_change_83 ?_
      refine lv_iload_n hx hb d_X_change_86 rfl (lv_at hl 1 rfl) ?_
      refine lv_aload_n hx hb d_X_change_87 rfl (lv_at hl 0 rfl) ?_
      refine va_get (D := D) (ci := 7) (v := .int x0_15) (C := "SignMachineModel") (T := F_X) (N := 64) hx hb hk fi_X hown hK.1 hP 0 rfl rfl 15 (by decide) (hk _ k_1136) (fun _ h9 => h9) rfl d_X_change_88 ?_
      refine lv_if_ge (tgt := 102) hx hb d_X_change_91 (by decide) (fun c15 => ?_) (fun c15 => ?_)
      · have gc15 : (0 : Int) ≤ x0_15.toInt := c_le c15
        have R16 : 0 ≤ x0_15.toInt ∧ x0_15.toInt ≤ 8190 := rf_geX Rx0_15 (show 0 ≤ (0 : Int) ∧ (0 : Int) ≤ 0 from by decide) gc15 (by decide) (by decide)
        refine lv_aload_n hx hb d_X_change_102 rfl (lv_at hl 0 rfl) ?_
        refine va_get (D := D) (ci := 7) (v := .int x0_15) (C := "SignMachineModel") (T := F_X) (N := 64) hx hb hk fi_X hown hK.1 hP 0 rfl rfl 15 (by decide) (hk _ k_1136) (fun _ h9 => h9) rfl d_X_change_103 ?_
        refine va_iast hx hb hK.1 hP hD hS 4 0 rfl rfl (vpb Q4 (by decide) (by decide)) d_X_change_106 (fun H locs hP hD hS => ?_)
        have hP : va_P D classes (wS50 cI cJ cZ cB p0 p1 p2 p3 p4 p5 p6 p7 p8 p9 p10 p11 p12 p13 p14 p15 p16 p17 p18 p19 p20 p21 p22 p23 p24 p25 x0_4 x0_5 x0_6 x0_7 x0_8 x0_12 x0_13 x0_14 x0_15 x0_16 x0_17 x0_18 x0_22 x0_23 x0_24 x0_25 x0_26 x0_27 x0_28 x0_29 x0_30 x0_31 x0_32 x0_36 x0_39 x0_40 x0_44 x0_49 x0_51 x0_53 x0_54 x0_55 x0_56 x0_57 x0_58 x0_59 x0_60 x0_61 x0_62 y1 y2 v14 (upd y4 (a1).toNatClampNeg x0_15) y5 y6 y7 y8 y9 y10 y11 y12 y13 y14 y15 y16 y17 y18 y19 y20 y21 y22 y23 y24 y25) H := hP
        have hD : va_D A (wS50 cI cJ cZ cB p0 p1 p2 p3 p4 p5 p6 p7 p8 p9 p10 p11 p12 p13 p14 p15 p16 p17 p18 p19 p20 p21 p22 p23 p24 p25 x0_4 x0_5 x0_6 x0_7 x0_8 x0_12 x0_13 x0_14 x0_15 x0_16 x0_17 x0_18 x0_22 x0_23 x0_24 x0_25 x0_26 x0_27 x0_28 x0_29 x0_30 x0_31 x0_32 x0_36 x0_39 x0_40 x0_44 x0_49 x0_51 x0_53 x0_54 x0_55 x0_56 x0_57 x0_58 x0_59 x0_60 x0_61 x0_62 y1 y2 v14 (upd y4 (a1).toNatClampNeg x0_15) y5 y6 y7 y8 y9 y10 y11 y12 y13 y14 y15 y16 y17 y18 y19 y20 y21 y22 y23 y24 y25) := hD
        obtain ⟨v17, hv17⟩ : ∃ y : Nat → Int32, y = (upd y4 (a1).toNatClampNeg x0_15) := ⟨_, rfl⟩
        rw [← hv17] at hP hD
        have : (((a1).toNatClampNeg : Nat) : Int) = a1.toInt := ti_n Q4 (by decide)
        have Gv17 : ((0 ≤ (x0_15).toInt ∧ (x0_15).toInt ≤ 1073741823) ∧ ((1 ≤ (((a1).toNatClampNeg : Nat) : Int) ∧ (((a1).toNatClampNeg : Nat) : Int) ≤ 6) → (x0_15).toInt ≤ 4095)) := by refine ⟨by omega, ?_⟩; omega
        have Av17 : ∀ i : Nat, ((0 ≤ (v17 i).toInt ∧ (v17 i).toInt ≤ 1073741823) ∧ ((1 ≤ (i : Int) ∧ (i : Int) ≤ 6) → (v17 i).toInt ≤ 4095)) := by rw [hv17]; exact upd_all (P := fun i x => ((0 ≤ (x).toInt ∧ (x).toInt ≤ 1073741823) ∧ ((1 ≤ (i : Int) ∧ (i : Int) ≤ 6) → (x).toInt ≤ 4095))) Ay4 Gv17
        clear hv17
        exact W.vret hx hb hr (fun t ht hW => ⟨⟨(), rfl, trivial, ⟨x0_5, v14, v17, Av14, Av17, by show va_P D classes _ t.heap; rw [ht]; exact hP, hD⟩⟩, hS.F ht⟩) hS.2.2 d_X_change_107
      · have gc15 : x0_15.toInt < (0 : Int) := c_nle c15
        have R18 : (-8190) ≤ x0_15.toInt ∧ x0_15.toInt ≤ (-1) := rf_ltX Rx0_15 (show 0 ≤ (0 : Int) ∧ (0 : Int) ≤ 0 from by decide) gc15 (by decide) (by decide)
        refine lv_aload_n hx hb d_X_change_94 rfl (lv_at hl 0 rfl) ?_
        refine va_get (D := D) (ci := 7) (v := .int x0_15) (C := "SignMachineModel") (T := F_X) (N := 64) hx hb hk fi_X hown hK.1 hP 0 rfl rfl 15 (by decide) (hk _ k_1136) (fun _ h9 => h9) rfl d_X_change_95 ?_
        refine lv_ineg hx hb d_X_change_98 ?_
        refine lv_topi (fun v19 hv19 => ?_)
        obtain ⟨ev19, Rv19⟩ : v19.toInt = -x0_15.toInt ∧ (1 ≤ v19.toInt ∧ v19.toInt ≤ 8190) := ng3 hv19 R18 (by decide) (by decide) (by decide) (by decide)
        refine lv_goto (tgt := 106) hx hb d_X_change_99 (by decide) ?_
        refine va_iast hx hb hK.1 hP hD hS 4 0 rfl rfl (vpb Q4 (by decide) (by decide)) d_X_change_106 (fun H locs hP hD hS => ?_)
        have hP : va_P D classes (wS50 cI cJ cZ cB p0 p1 p2 p3 p4 p5 p6 p7 p8 p9 p10 p11 p12 p13 p14 p15 p16 p17 p18 p19 p20 p21 p22 p23 p24 p25 x0_4 x0_5 x0_6 x0_7 x0_8 x0_12 x0_13 x0_14 x0_15 x0_16 x0_17 x0_18 x0_22 x0_23 x0_24 x0_25 x0_26 x0_27 x0_28 x0_29 x0_30 x0_31 x0_32 x0_36 x0_39 x0_40 x0_44 x0_49 x0_51 x0_53 x0_54 x0_55 x0_56 x0_57 x0_58 x0_59 x0_60 x0_61 x0_62 y1 y2 v14 (upd y4 (a1).toNatClampNeg v19) y5 y6 y7 y8 y9 y10 y11 y12 y13 y14 y15 y16 y17 y18 y19 y20 y21 y22 y23 y24 y25) H := hP
        have hD : va_D A (wS50 cI cJ cZ cB p0 p1 p2 p3 p4 p5 p6 p7 p8 p9 p10 p11 p12 p13 p14 p15 p16 p17 p18 p19 p20 p21 p22 p23 p24 p25 x0_4 x0_5 x0_6 x0_7 x0_8 x0_12 x0_13 x0_14 x0_15 x0_16 x0_17 x0_18 x0_22 x0_23 x0_24 x0_25 x0_26 x0_27 x0_28 x0_29 x0_30 x0_31 x0_32 x0_36 x0_39 x0_40 x0_44 x0_49 x0_51 x0_53 x0_54 x0_55 x0_56 x0_57 x0_58 x0_59 x0_60 x0_61 x0_62 y1 y2 v14 (upd y4 (a1).toNatClampNeg v19) y5 y6 y7 y8 y9 y10 y11 y12 y13 y14 y15 y16 y17 y18 y19 y20 y21 y22 y23 y24 y25) := hD
        obtain ⟨v20, hv20⟩ : ∃ y : Nat → Int32, y = (upd y4 (a1).toNatClampNeg v19) := ⟨_, rfl⟩
        rw [← hv20] at hP hD
        have : (((a1).toNatClampNeg : Nat) : Int) = a1.toInt := ti_n Q4 (by decide)
        have Gv20 : ((0 ≤ (v19).toInt ∧ (v19).toInt ≤ 1073741823) ∧ ((1 ≤ (((a1).toNatClampNeg : Nat) : Int) ∧ (((a1).toNatClampNeg : Nat) : Int) ≤ 6) → (v19).toInt ≤ 4095)) := by refine ⟨by omega, ?_⟩; omega
        have Av20 : ∀ i : Nat, ((0 ≤ (v20 i).toInt ∧ (v20 i).toInt ≤ 1073741823) ∧ ((1 ≤ (i : Int) ∧ (i : Int) ≤ 6) → (v20 i).toInt ≤ 4095)) := by rw [hv20]; exact upd_all (P := fun i x => ((0 ≤ (x).toInt ∧ (x).toInt ≤ 1073741823) ∧ ((1 ≤ (i : Int) ∧ (i : Int) ≤ 6) → (x).toInt ≤ 4095))) Ay4 Gv20
        clear hv20
        exact W.vret hx hb hr (fun t ht hW => ⟨⟨(), rfl, trivial, ⟨x0_5, v14, v20, Av14, Av20, by show va_P D classes _ t.heap; rw [ht]; exact hP, hD⟩⟩, hS.F ht⟩) hS.2.2 d_X_change_107
  · have gc1 : x0_13.toInt < (2 : Int) := c_nle c1
    have R21 : 0 ≤ x0_13.toInt ∧ x0_13.toInt ≤ 1 := rf_ltX Rx0_13 (show 2 ≤ (2 : Int) ∧ (2 : Int) ≤ 2 from by decide) gc1 (by decide) (by decide)
    refine lv_aload_n hx hb d_X_change_8 rfl (lv_at hl 0 rfl) ?_
    refine lv_iload_n hx hb d_X_change_9 rfl (lv_at hl 1 rfl) ?_
    refine lv_aload_n hx hb d_X_change_10 rfl (lv_at hl 0 rfl) ?_
    refine va_get (D := D) (ci := 7) (v := .int x0_13) (C := "SignMachineModel") (T := F_X) (N := 64) hx hb hk fi_X hown hK.1 hP 0 rfl rfl 13 (by decide) (hk _ k_1134) (fun _ h9 => h9) rfl d_X_change_11 ?_
    refine lv_if_ne (tgt := 24) hx hb d_X_change_14 (by decide) (fun c22 => ?_) (fun c22 => ?_)
    · have gc22 : x0_13.toInt ≠ (0 : Int) := c_ne c22
      have R23 : 1 ≤ x0_13.toInt ∧ x0_13.toInt ≤ 1 := rf_neX R21 (show 0 ≤ (0 : Int) ∧ (0 : Int) ≤ 0 from by decide) gc22 (by decide) (by decide)
      refine lv_iconst (v := 1) hx hb d_X_change_24 (by decide) ?_
      refine lv_aload_n hx hb d_X_change_25 rfl (lv_at hl 0 rfl) ?_
      refine va_get (D := D) (ci := 7) (v := .int x0_16) (C := "SignMachineModel") (T := F_X) (N := 64) hx hb hk fi_X hown hK.1 hP 0 rfl rfl 16 (by decide) (hk _ k_1137) (fun _ h9 => h9) rfl d_X_change_26 ?_
      refine lv_isub hx hb d_X_change_29 ?_
      refine lv_topi (fun v24 hv24 => ?_)
      obtain ⟨ev24, Rv24⟩ : v24.toInt = (1 : Int) - x0_16.toInt ∧ (0 ≤ v24.toInt ∧ v24.toInt ≤ 1) := sb3 hv24 (show 1 ≤ (1 : Int32).toInt ∧ (1 : Int32).toInt ≤ 1 from by decide) Rx0_16 (by decide) (by decide) (by decide) (by decide)
      refine lv_aload_n hx hb d_X_change_30 rfl (lv_at hl 0 rfl) ?_
      refine va_get (D := D) (ci := 7) (v := .int x0_15) (C := "SignMachineModel") (T := F_X) (N := 64) hx hb hk fi_X hown hK.1 hP 0 rfl rfl 15 (by decide) (hk _ k_1136) (fun _ h9 => h9) rfl d_X_change_31 ?_
      refine lv_if_ge (tgt := 45) hx hb d_X_change_34 (by decide) (fun c25 => ?_) (fun c25 => ?_)
      · have gc25 : (0 : Int) ≤ x0_15.toInt := c_le c25
        have R26 : 0 ≤ x0_15.toInt ∧ x0_15.toInt ≤ 8190 := rf_geX Rx0_15 (show 0 ≤ (0 : Int) ∧ (0 : Int) ≤ 0 from by decide) gc25 (by decide) (by decide)
        refine lv_aload_n hx hb d_X_change_45 rfl (lv_at hl 0 rfl) ?_
        refine va_get (D := D) (ci := 7) (v := .int x0_15) (C := "SignMachineModel") (T := F_X) (N := 64) hx hb hk fi_X hown hK.1 hP 0 rfl rfl 15 (by decide) (hk _ k_1136) (fun _ h9 => h9) rfl d_X_change_46 ?_
        refine kn_v (va_runV (C := "SignMachineModel") (As := [.int a1, .int v24, .int x0_15]) (rest := []) ⟨hx, hb, hml, hown, hk⟩ (c_X_add l D cI cJ cZ cB p0 p1 p2 p3 p4 p5 p6 p7 p8 p9 p10 p11 p12 p13 p14 p15 p16 p17 p18 p19 p20 p21 p22 p23 p24 p25 s.heap.size x0_4 x0_5 x0_6 x0_7 x0_8 x0_12 x0_13 x0_14 x0_15 x0_16 x0_17 x0_18 x0_22 x0_23 x0_24 x0_25 x0_26 x0_27 x0_28 x0_29 x0_30 x0_31 x0_32 x0_36 x0_39 x0_40 x0_44 x0_49 x0_51 x0_53 x0_54 x0_55 x0_56 x0_57 x0_58 x0_59 x0_60 x0_61 x0_62 y1 y2 y3 y4 y5 y6 y7 y8 y9 y10 y11 y12 y13 y14 y15 y16 y17 y18 y19 y20 y21 y22 y23 y24 y25 a1 v24 x0_15 Ay3 Ay4 (show (1 ≤ a1.toInt ∧ a1.toInt ≤ 6 ∧ v24.toInt = 1) → (-4095 ≤ rv y3 y4 (a1).toNatClampNeg - x0_15.toInt ∧ rv y3 y4 (a1).toNatClampNeg - x0_15.toInt ≤ 4095) from by omega) (show (1 ≤ a1.toInt ∧ a1.toInt ≤ 6 ∧ v24.toInt = 0) → (-4095 ≤ rv y3 y4 (a1).toNatClampNeg + x0_15.toInt ∧ rv y3 y4 (a1).toNatClampNeg + x0_15.toInt ≤ 4095) from by omega) (rgw Q4 (by decide) (by decide)) Rv24 (rgw R26 (by decide) (by decide))) (v_X_add hk k_1457 ⟨Nat.le_of_ble_eq_true rfl, Nat.le_of_ble_eq_true rfl⟩) (pM_v hK hP hD (ci := 7) (q0 := 0) rfl rfl rfl) rfl rfl hl.1 rfl (lv_room (Nat.le_of_ble_eq_true rfl)) d_X_change_49 ⟨Nat.le_of_ble_eq_true rfl, Nat.le_of_ble_eq_true rfl⟩) hS hA hD (fun u t H locs ht hB hFr hS => ?_)
        obtain ⟨x0_5z27, y3z27, y4z27, Ay3z27, Ay4z27, hP, hD⟩ := hB
        rw [ht] at hP
        have hD := dwk hD hFr
        clear ht hFr
        have hP : va_P D classes (wS50 cI cJ cZ cB p0 p1 p2 p3 p4 p5 p6 p7 p8 p9 p10 p11 p12 p13 p14 p15 p16 p17 p18 p19 p20 p21 p22 p23 p24 p25 x0_4 x0_5z27 x0_6 x0_7 x0_8 x0_12 x0_13 x0_14 x0_15 x0_16 x0_17 x0_18 x0_22 x0_23 x0_24 x0_25 x0_26 x0_27 x0_28 x0_29 x0_30 x0_31 x0_32 x0_36 x0_39 x0_40 x0_44 x0_49 x0_51 x0_53 x0_54 x0_55 x0_56 x0_57 x0_58 x0_59 x0_60 x0_61 x0_62 y1 y2 y3z27 y4z27 y5 y6 y7 y8 y9 y10 y11 y12 y13 y14 y15 y16 y17 y18 y19 y20 y21 y22 y23 y24 y25) H := hP
        have hD : va_D A (wS50 cI cJ cZ cB p0 p1 p2 p3 p4 p5 p6 p7 p8 p9 p10 p11 p12 p13 p14 p15 p16 p17 p18 p19 p20 p21 p22 p23 p24 p25 x0_4 x0_5z27 x0_6 x0_7 x0_8 x0_12 x0_13 x0_14 x0_15 x0_16 x0_17 x0_18 x0_22 x0_23 x0_24 x0_25 x0_26 x0_27 x0_28 x0_29 x0_30 x0_31 x0_32 x0_36 x0_39 x0_40 x0_44 x0_49 x0_51 x0_53 x0_54 x0_55 x0_56 x0_57 x0_58 x0_59 x0_60 x0_61 x0_62 y1 y2 y3z27 y4z27 y5 y6 y7 y8 y9 y10 y11 y12 y13 y14 y15 y16 y17 y18 y19 y20 y21 y22 y23 y24 y25) := hD
        refine lv_goto (tgt := 107) hx hb d_X_change_52 (by decide) ?_
        exact W.vret hx hb hr (fun t ht hW => ⟨⟨(), rfl, trivial, ⟨x0_5z27, y3z27, y4z27, Ay3z27, Ay4z27, by show va_P D classes _ t.heap; rw [ht]; exact hP, hD⟩⟩, hS.F ht⟩) hS.2.2 d_X_change_107
      · have gc25 : x0_15.toInt < (0 : Int) := c_nle c25
        have R28 : (-8190) ≤ x0_15.toInt ∧ x0_15.toInt ≤ (-1) := rf_ltX Rx0_15 (show 0 ≤ (0 : Int) ∧ (0 : Int) ≤ 0 from by decide) gc25 (by decide) (by decide)
        refine lv_aload_n hx hb d_X_change_37 rfl (lv_at hl 0 rfl) ?_
        refine va_get (D := D) (ci := 7) (v := .int x0_15) (C := "SignMachineModel") (T := F_X) (N := 64) hx hb hk fi_X hown hK.1 hP 0 rfl rfl 15 (by decide) (hk _ k_1136) (fun _ h9 => h9) rfl d_X_change_38 ?_
        refine lv_ineg hx hb d_X_change_41 ?_
        refine lv_topi (fun v29 hv29 => ?_)
        obtain ⟨ev29, Rv29⟩ : v29.toInt = -x0_15.toInt ∧ (1 ≤ v29.toInt ∧ v29.toInt ≤ 8190) := ng3 hv29 R28 (by decide) (by decide) (by decide) (by decide)
        refine lv_goto (tgt := 49) hx hb d_X_change_42 (by decide) ?_
        refine kn_v (va_runV (C := "SignMachineModel") (As := [.int a1, .int v24, .int v29]) (rest := []) ⟨hx, hb, hml, hown, hk⟩ (c_X_add l D cI cJ cZ cB p0 p1 p2 p3 p4 p5 p6 p7 p8 p9 p10 p11 p12 p13 p14 p15 p16 p17 p18 p19 p20 p21 p22 p23 p24 p25 s.heap.size x0_4 x0_5 x0_6 x0_7 x0_8 x0_12 x0_13 x0_14 x0_15 x0_16 x0_17 x0_18 x0_22 x0_23 x0_24 x0_25 x0_26 x0_27 x0_28 x0_29 x0_30 x0_31 x0_32 x0_36 x0_39 x0_40 x0_44 x0_49 x0_51 x0_53 x0_54 x0_55 x0_56 x0_57 x0_58 x0_59 x0_60 x0_61 x0_62 y1 y2 y3 y4 y5 y6 y7 y8 y9 y10 y11 y12 y13 y14 y15 y16 y17 y18 y19 y20 y21 y22 y23 y24 y25 a1 v24 v29 Ay3 Ay4 (show (1 ≤ a1.toInt ∧ a1.toInt ≤ 6 ∧ v24.toInt = 1) → (-4095 ≤ rv y3 y4 (a1).toNatClampNeg - v29.toInt ∧ rv y3 y4 (a1).toNatClampNeg - v29.toInt ≤ 4095) from by omega) (show (1 ≤ a1.toInt ∧ a1.toInt ≤ 6 ∧ v24.toInt = 0) → (-4095 ≤ rv y3 y4 (a1).toNatClampNeg + v29.toInt ∧ rv y3 y4 (a1).toNatClampNeg + v29.toInt ≤ 4095) from by omega) (rgw Q4 (by decide) (by decide)) Rv24 (rgw Rv29 (by decide) (by decide))) (v_X_add hk k_1457 ⟨Nat.le_of_ble_eq_true rfl, Nat.le_of_ble_eq_true rfl⟩) (pM_v hK hP hD (ci := 7) (q0 := 0) rfl rfl rfl) rfl rfl hl.1 rfl (lv_room (Nat.le_of_ble_eq_true rfl)) d_X_change_49 ⟨Nat.le_of_ble_eq_true rfl, Nat.le_of_ble_eq_true rfl⟩) hS hA hD (fun u t H locs ht hB hFr hS => ?_)
        obtain ⟨x0_5z30, y3z30, y4z30, Ay3z30, Ay4z30, hP, hD⟩ := hB
        rw [ht] at hP
        have hD := dwk hD hFr
        clear ht hFr
        have hP : va_P D classes (wS50 cI cJ cZ cB p0 p1 p2 p3 p4 p5 p6 p7 p8 p9 p10 p11 p12 p13 p14 p15 p16 p17 p18 p19 p20 p21 p22 p23 p24 p25 x0_4 x0_5z30 x0_6 x0_7 x0_8 x0_12 x0_13 x0_14 x0_15 x0_16 x0_17 x0_18 x0_22 x0_23 x0_24 x0_25 x0_26 x0_27 x0_28 x0_29 x0_30 x0_31 x0_32 x0_36 x0_39 x0_40 x0_44 x0_49 x0_51 x0_53 x0_54 x0_55 x0_56 x0_57 x0_58 x0_59 x0_60 x0_61 x0_62 y1 y2 y3z30 y4z30 y5 y6 y7 y8 y9 y10 y11 y12 y13 y14 y15 y16 y17 y18 y19 y20 y21 y22 y23 y24 y25) H := hP
        have hD : va_D A (wS50 cI cJ cZ cB p0 p1 p2 p3 p4 p5 p6 p7 p8 p9 p10 p11 p12 p13 p14 p15 p16 p17 p18 p19 p20 p21 p22 p23 p24 p25 x0_4 x0_5z30 x0_6 x0_7 x0_8 x0_12 x0_13 x0_14 x0_15 x0_16 x0_17 x0_18 x0_22 x0_23 x0_24 x0_25 x0_26 x0_27 x0_28 x0_29 x0_30 x0_31 x0_32 x0_36 x0_39 x0_40 x0_44 x0_49 x0_51 x0_53 x0_54 x0_55 x0_56 x0_57 x0_58 x0_59 x0_60 x0_61 x0_62 y1 y2 y3z30 y4z30 y5 y6 y7 y8 y9 y10 y11 y12 y13 y14 y15 y16 y17 y18 y19 y20 y21 y22 y23 y24 y25) := hD
        refine lv_goto (tgt := 107) hx hb d_X_change_52 (by decide) ?_
        exact W.vret hx hb hr (fun t ht hW => ⟨⟨(), rfl, trivial, ⟨x0_5z30, y3z30, y4z30, Ay3z30, Ay4z30, by show va_P D classes _ t.heap; rw [ht]; exact hP, hD⟩⟩, hS.F ht⟩) hS.2.2 d_X_change_107
    · have gc22 : x0_13.toInt = (0 : Int) := c_eq c22
      have R31 : 0 ≤ x0_13.toInt ∧ x0_13.toInt ≤ 0 := rf_eqX R21 (show 0 ≤ (0 : Int) ∧ (0 : Int) ≤ 0 from by decide) gc22 (by decide) (by decide)
      refine lv_aload_n hx hb d_X_change_17 rfl (lv_at hl 0 rfl) ?_
      refine va_get (D := D) (ci := 7) (v := .int x0_16) (C := "SignMachineModel") (T := F_X) (N := 64) hx hb hk fi_X hown hK.1 hP 0 rfl rfl 16 (by decide) (hk _ k_1137) (fun _ h9 => h9) rfl d_X_change_18 ?_
      refine lv_goto (tgt := 30) hx hb d_X_change_21 (by decide) ?_
      refine lv_aload_n hx hb d_X_change_30 rfl (lv_at hl 0 rfl) ?_
      refine va_get (D := D) (ci := 7) (v := .int x0_15) (C := "SignMachineModel") (T := F_X) (N := 64) hx hb hk fi_X hown hK.1 hP 0 rfl rfl 15 (by decide) (hk _ k_1136) (fun _ h9 => h9) rfl d_X_change_31 ?_
      refine lv_if_ge (tgt := 45) hx hb d_X_change_34 (by decide) (fun c32 => ?_) (fun c32 => ?_)
      · have gc32 : (0 : Int) ≤ x0_15.toInt := c_le c32
        have R33 : 0 ≤ x0_15.toInt ∧ x0_15.toInt ≤ 8190 := rf_geX Rx0_15 (show 0 ≤ (0 : Int) ∧ (0 : Int) ≤ 0 from by decide) gc32 (by decide) (by decide)
        refine lv_aload_n hx hb d_X_change_45 rfl (lv_at hl 0 rfl) ?_
        refine va_get (D := D) (ci := 7) (v := .int x0_15) (C := "SignMachineModel") (T := F_X) (N := 64) hx hb hk fi_X hown hK.1 hP 0 rfl rfl 15 (by decide) (hk _ k_1136) (fun _ h9 => h9) rfl d_X_change_46 ?_
        refine kn_v (va_runV (C := "SignMachineModel") (As := [.int a1, .int x0_16, .int x0_15]) (rest := []) ⟨hx, hb, hml, hown, hk⟩ (c_X_add l D cI cJ cZ cB p0 p1 p2 p3 p4 p5 p6 p7 p8 p9 p10 p11 p12 p13 p14 p15 p16 p17 p18 p19 p20 p21 p22 p23 p24 p25 s.heap.size x0_4 x0_5 x0_6 x0_7 x0_8 x0_12 x0_13 x0_14 x0_15 x0_16 x0_17 x0_18 x0_22 x0_23 x0_24 x0_25 x0_26 x0_27 x0_28 x0_29 x0_30 x0_31 x0_32 x0_36 x0_39 x0_40 x0_44 x0_49 x0_51 x0_53 x0_54 x0_55 x0_56 x0_57 x0_58 x0_59 x0_60 x0_61 x0_62 y1 y2 y3 y4 y5 y6 y7 y8 y9 y10 y11 y12 y13 y14 y15 y16 y17 y18 y19 y20 y21 y22 y23 y24 y25 a1 x0_16 x0_15 Ay3 Ay4 (show (1 ≤ a1.toInt ∧ a1.toInt ≤ 6 ∧ x0_16.toInt = 1) → (-4095 ≤ rv y3 y4 (a1).toNatClampNeg - x0_15.toInt ∧ rv y3 y4 (a1).toNatClampNeg - x0_15.toInt ≤ 4095) from by omega) (show (1 ≤ a1.toInt ∧ a1.toInt ≤ 6 ∧ x0_16.toInt = 0) → (-4095 ≤ rv y3 y4 (a1).toNatClampNeg + x0_15.toInt ∧ rv y3 y4 (a1).toNatClampNeg + x0_15.toInt ≤ 4095) from by omega) (rgw Q4 (by decide) (by decide)) Rx0_16 (rgw R33 (by decide) (by decide))) (v_X_add hk k_1457 ⟨Nat.le_of_ble_eq_true rfl, Nat.le_of_ble_eq_true rfl⟩) (pM_v hK hP hD (ci := 7) (q0 := 0) rfl rfl rfl) rfl rfl hl.1 rfl (lv_room (Nat.le_of_ble_eq_true rfl)) d_X_change_49 ⟨Nat.le_of_ble_eq_true rfl, Nat.le_of_ble_eq_true rfl⟩) hS hA hD (fun u t H locs ht hB hFr hS => ?_)
        obtain ⟨x0_5z34, y3z34, y4z34, Ay3z34, Ay4z34, hP, hD⟩ := hB
        rw [ht] at hP
        have hD := dwk hD hFr
        clear ht hFr
        have hP : va_P D classes (wS50 cI cJ cZ cB p0 p1 p2 p3 p4 p5 p6 p7 p8 p9 p10 p11 p12 p13 p14 p15 p16 p17 p18 p19 p20 p21 p22 p23 p24 p25 x0_4 x0_5z34 x0_6 x0_7 x0_8 x0_12 x0_13 x0_14 x0_15 x0_16 x0_17 x0_18 x0_22 x0_23 x0_24 x0_25 x0_26 x0_27 x0_28 x0_29 x0_30 x0_31 x0_32 x0_36 x0_39 x0_40 x0_44 x0_49 x0_51 x0_53 x0_54 x0_55 x0_56 x0_57 x0_58 x0_59 x0_60 x0_61 x0_62 y1 y2 y3z34 y4z34 y5 y6 y7 y8 y9 y10 y11 y12 y13 y14 y15 y16 y17 y18 y19 y20 y21 y22 y23 y24 y25) H := hP
        have hD : va_D A (wS50 cI cJ cZ cB p0 p1 p2 p3 p4 p5 p6 p7 p8 p9 p10 p11 p12 p13 p14 p15 p16 p17 p18 p19 p20 p21 p22 p23 p24 p25 x0_4 x0_5z34 x0_6 x0_7 x0_8 x0_12 x0_13 x0_14 x0_15 x0_16 x0_17 x0_18 x0_22 x0_23 x0_24 x0_25 x0_26 x0_27 x0_28 x0_29 x0_30 x0_31 x0_32 x0_36 x0_39 x0_40 x0_44 x0_49 x0_51 x0_53 x0_54 x0_55 x0_56 x0_57 x0_58 x0_59 x0_60 x0_61 x0_62 y1 y2 y3z34 y4z34 y5 y6 y7 y8 y9 y10 y11 y12 y13 y14 y15 y16 y17 y18 y19 y20 y21 y22 y23 y24 y25) := hD
        refine lv_goto (tgt := 107) hx hb d_X_change_52 (by decide) ?_
        exact W.vret hx hb hr (fun t ht hW => ⟨⟨(), rfl, trivial, ⟨x0_5z34, y3z34, y4z34, Ay3z34, Ay4z34, by show va_P D classes _ t.heap; rw [ht]; exact hP, hD⟩⟩, hS.F ht⟩) hS.2.2 d_X_change_107
      · have gc32 : x0_15.toInt < (0 : Int) := c_nle c32
        have R35 : (-8190) ≤ x0_15.toInt ∧ x0_15.toInt ≤ (-1) := rf_ltX Rx0_15 (show 0 ≤ (0 : Int) ∧ (0 : Int) ≤ 0 from by decide) gc32 (by decide) (by decide)
        refine lv_aload_n hx hb d_X_change_37 rfl (lv_at hl 0 rfl) ?_
        refine va_get (D := D) (ci := 7) (v := .int x0_15) (C := "SignMachineModel") (T := F_X) (N := 64) hx hb hk fi_X hown hK.1 hP 0 rfl rfl 15 (by decide) (hk _ k_1136) (fun _ h9 => h9) rfl d_X_change_38 ?_
        refine lv_ineg hx hb d_X_change_41 ?_
        refine lv_topi (fun v36 hv36 => ?_)
        obtain ⟨ev36, Rv36⟩ : v36.toInt = -x0_15.toInt ∧ (1 ≤ v36.toInt ∧ v36.toInt ≤ 8190) := ng3 hv36 R35 (by decide) (by decide) (by decide) (by decide)
        refine lv_goto (tgt := 49) hx hb d_X_change_42 (by decide) ?_
        refine kn_v (va_runV (C := "SignMachineModel") (As := [.int a1, .int x0_16, .int v36]) (rest := []) ⟨hx, hb, hml, hown, hk⟩ (c_X_add l D cI cJ cZ cB p0 p1 p2 p3 p4 p5 p6 p7 p8 p9 p10 p11 p12 p13 p14 p15 p16 p17 p18 p19 p20 p21 p22 p23 p24 p25 s.heap.size x0_4 x0_5 x0_6 x0_7 x0_8 x0_12 x0_13 x0_14 x0_15 x0_16 x0_17 x0_18 x0_22 x0_23 x0_24 x0_25 x0_26 x0_27 x0_28 x0_29 x0_30 x0_31 x0_32 x0_36 x0_39 x0_40 x0_44 x0_49 x0_51 x0_53 x0_54 x0_55 x0_56 x0_57 x0_58 x0_59 x0_60 x0_61 x0_62 y1 y2 y3 y4 y5 y6 y7 y8 y9 y10 y11 y12 y13 y14 y15 y16 y17 y18 y19 y20 y21 y22 y23 y24 y25 a1 x0_16 v36 Ay3 Ay4 (show (1 ≤ a1.toInt ∧ a1.toInt ≤ 6 ∧ x0_16.toInt = 1) → (-4095 ≤ rv y3 y4 (a1).toNatClampNeg - v36.toInt ∧ rv y3 y4 (a1).toNatClampNeg - v36.toInt ≤ 4095) from by omega) (show (1 ≤ a1.toInt ∧ a1.toInt ≤ 6 ∧ x0_16.toInt = 0) → (-4095 ≤ rv y3 y4 (a1).toNatClampNeg + v36.toInt ∧ rv y3 y4 (a1).toNatClampNeg + v36.toInt ≤ 4095) from by omega) (rgw Q4 (by decide) (by decide)) Rx0_16 (rgw Rv36 (by decide) (by decide))) (v_X_add hk k_1457 ⟨Nat.le_of_ble_eq_true rfl, Nat.le_of_ble_eq_true rfl⟩) (pM_v hK hP hD (ci := 7) (q0 := 0) rfl rfl rfl) rfl rfl hl.1 rfl (lv_room (Nat.le_of_ble_eq_true rfl)) d_X_change_49 ⟨Nat.le_of_ble_eq_true rfl, Nat.le_of_ble_eq_true rfl⟩) hS hA hD (fun u t H locs ht hB hFr hS => ?_)
        obtain ⟨x0_5z37, y3z37, y4z37, Ay3z37, Ay4z37, hP, hD⟩ := hB
        rw [ht] at hP
        have hD := dwk hD hFr
        clear ht hFr
        have hP : va_P D classes (wS50 cI cJ cZ cB p0 p1 p2 p3 p4 p5 p6 p7 p8 p9 p10 p11 p12 p13 p14 p15 p16 p17 p18 p19 p20 p21 p22 p23 p24 p25 x0_4 x0_5z37 x0_6 x0_7 x0_8 x0_12 x0_13 x0_14 x0_15 x0_16 x0_17 x0_18 x0_22 x0_23 x0_24 x0_25 x0_26 x0_27 x0_28 x0_29 x0_30 x0_31 x0_32 x0_36 x0_39 x0_40 x0_44 x0_49 x0_51 x0_53 x0_54 x0_55 x0_56 x0_57 x0_58 x0_59 x0_60 x0_61 x0_62 y1 y2 y3z37 y4z37 y5 y6 y7 y8 y9 y10 y11 y12 y13 y14 y15 y16 y17 y18 y19 y20 y21 y22 y23 y24 y25) H := hP
        have hD : va_D A (wS50 cI cJ cZ cB p0 p1 p2 p3 p4 p5 p6 p7 p8 p9 p10 p11 p12 p13 p14 p15 p16 p17 p18 p19 p20 p21 p22 p23 p24 p25 x0_4 x0_5z37 x0_6 x0_7 x0_8 x0_12 x0_13 x0_14 x0_15 x0_16 x0_17 x0_18 x0_22 x0_23 x0_24 x0_25 x0_26 x0_27 x0_28 x0_29 x0_30 x0_31 x0_32 x0_36 x0_39 x0_40 x0_44 x0_49 x0_51 x0_53 x0_54 x0_55 x0_56 x0_57 x0_58 x0_59 x0_60 x0_61 x0_62 y1 y2 y3z37 y4z37 y5 y6 y7 y8 y9 y10 y11 y12 y13 y14 y15 y16 y17 y18 y19 y20 y21 y22 y23 y24 y25) := hD
        refine lv_goto (tgt := 107) hx hb d_X_change_52 (by decide) ?_
        exact W.vret hx hb hr (fun t ht hW => ⟨⟨(), rfl, trivial, ⟨x0_5z37, y3z37, y4z37, Ay3z37, Ay4z37, by show va_P D classes _ t.heap; rw [ht]; exact hP, hD⟩⟩, hS.F ht⟩) hS.2.2 d_X_change_107
theorem v_X_change {R : Room} {s : State} {args : Array Value} {own : String} {index : Nat} (hk : ∀ w ∈ tb, w.before args s = true) (hl : Cond.methodLink own index y_X_change ∈ tb) (hR : 1 + 1 ≤ R.frames ∧ 8 + (2 + 11) + 29 ≤ R.locals) : CallW R s args own "SignMachineModel" index y_X_change b_X_change 2 none (.code y_X_change b_X_change 2 none :: tb) ({ frames := 1, cells := 0, slots := 0, locals := 29 }) 0 0 1 := mk_v 1 hk k_1456 hl k_1455 k_76 k_119 rfl rfl h_X_change hR

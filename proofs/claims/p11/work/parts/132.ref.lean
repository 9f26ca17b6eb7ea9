set_option maxHeartbeats 8000000 in
set_option maxRecDepth 100000 in
theorem c_X_isNothing (l : Launch) (D : va_G) (cI cJ cZ cB : ClassId) (p0 p1 p2 p3 p4 p5 p6 p7 p8 p9 p10 p11 p12 p13 p14 p15 p16 p17 p18 p19 p20 p21 p22 p23 p24 p25 : Nat) (sz : Nat) (x0_4 : Int32) (x0_5 : Int32) (x0_6 : Int32) (x0_7 : Int32) (x0_8 : Int32) (x0_12 : Int32) (x0_13 : Int32) (x0_14 : Int32) (x0_15 : Int32) (x0_16 : Int32) (x0_17 : Int32) (x0_18 : Int32) (x0_22 : Int32) (x0_23 : Int32) (x0_24 : Int32) (x0_25 : Int32) (x0_26 : Int32) (x0_27 : Int32) (x0_28 : Int32) (x0_29 : Int32) (x0_30 : Int32) (x0_31 : Int32) (x0_32 : Int32) (x0_36 : Int32) (x0_39 : Int32) (x0_40 : Int64) (x0_44 : Int32) (x0_49 : Int32) (x0_51 : Int32) (x0_53 : Int32) (x0_54 : Int32) (x0_55 : Int64) (x0_56 : Int32) (x0_57 : Int32) (x0_58 : Int32) (x0_59 : Int32) (x0_60 : Int32) (x0_61 : Int32) (x0_62 : Int64) (y1 : Nat → Int32) (y2 : Nat → Int32) (y3 : Nat → Int32) (y4 : Nat → Int32) (y5 : Nat → Int32) (y6 : Nat → Int32) (y7 : Nat → Int32) (y8 : Nat → Int32) (y9 : Nat → Int32) (y10 : Nat → Int32) (y11 : Nat → Int64) (y12 : Nat → Int32) (y13 : Nat → Int64) (y14 : Nat → Int32) (y15 : Nat → Int64) (y16 : Nat → Int32) (y17 : Nat → Int32) (y18 : Nat → Int32) (y19 : Nat → Int32) (y20 : Nat → Int32) (y21 : Nat → Int32) (y22 : Nat → Int32) (y23 : Nat → Int32) (y24 : Nat → Int64) (y25 : Nat → Int64)  (Rx0_24 : 0 ≤ x0_24.toInt ∧ x0_24.toInt ≤ 4000) (Rx0_25 : 0 ≤ x0_25.toInt ∧ x0_25.toInt ≤ 4000) (Q0 : x0_25.toInt ≤ x0_24.toInt) (Q1 : x0_25.toInt ≤ 3999) : Met l y_X_isNothing (.code y_X_isNothing b_X_isNothing 3 (some .boolean) :: tb) ({ frames := 0, cells := 0, slots := 0, locals := 0 }) (pM D cI cJ cZ cB (wS50 cI cJ cZ cB p0 p1 p2 p3 p4 p5 p6 p7 p8 p9 p10 p11 p12 p13 p14 p15 p16 p17 p18 p19 p20 p21 p22 p23 p24 p25 x0_4 x0_5 x0_6 x0_7 x0_8 x0_12 x0_13 x0_14 x0_15 x0_16 x0_17 x0_18 x0_22 x0_23 x0_24 x0_25 x0_26 x0_27 x0_28 x0_29 x0_30 x0_31 x0_32 x0_36 x0_39 x0_40 x0_44 x0_49 x0_51 x0_53 x0_54 x0_55 x0_56 x0_57 x0_58 x0_59 x0_60 x0_61 x0_62 y1 y2 y3 y4 y5 y6 y7 y8 y9 y10 y11 y12 y13 y14 y15 y16 y17 y18 y19 y20 y21 y22 y23 y24 y25) sz [.ref p0]) (va_Qi (fun r (u : Int32) => r = u) (fun ur t => (0 ≤ ur.toInt ∧ ur.toInt ≤ 1) ∧ va_P D classes (wS50 cI cJ cZ cB p0 p1 p2 p3 p4 p5 p6 p7 p8 p9 p10 p11 p12 p13 p14 p15 p16 p17 p18 p19 p20 p21 p22 p23 p24 p25 x0_4 x0_5 x0_6 x0_7 x0_8 x0_12 x0_13 x0_14 x0_15 x0_16 x0_17 x0_18 x0_22 x0_23 x0_24 x0_25 x0_26 x0_27 x0_28 x0_29 x0_30 x0_31 x0_32 x0_36 x0_39 x0_40 x0_44 x0_49 x0_51 x0_53 x0_54 x0_55 x0_56 x0_57 x0_58 x0_59 x0_60 x0_61 x0_62 y1 y2 y3 y4 y5 y6 y7 y8 y9 y10 y11 y12 y13 y14 y15 y16 y17 y18 y19 y20 y21 y22 y23 y24 y25) t.heap ∧ va_D (va_A (wS50 cI cJ cZ cB p0 p1 p2 p3 p4 p5 p6 p7 p8 p9 p10 p11 p12 p13 p14 p15 p16 p17 p18 p19 p20 p21 p22 p23 p24 p25 x0_4 x0_5 x0_6 x0_7 x0_8 x0_12 x0_13 x0_14 x0_15 x0_16 x0_17 x0_18 x0_22 x0_23 x0_24 x0_25 x0_26 x0_27 x0_28 x0_29 x0_30 x0_31 x0_32 x0_36 x0_39 x0_40 x0_44 x0_49 x0_51 x0_53 x0_54 x0_55 x0_56 x0_57 x0_58 x0_59 x0_60 x0_61 x0_62 y1 y2 y3 y4 y5 y6 y7 y8 y9 y10 y11 y12 y13 y14 y15 y16 y17 y18 y19 y20 y21 y22 y23 y24 y25) sz) (wS50 cI cJ cZ cB p0 p1 p2 p3 p4 p5 p6 p7 p8 p9 p10 p11 p12 p13 p14 p15 p16 p17 p18 p19 p20 p21 p22 p23 p24 p25 x0_4 x0_5 x0_6 x0_7 x0_8 x0_12 x0_13 x0_14 x0_15 x0_16 x0_17 x0_18 x0_22 x0_23 x0_24 x0_25 x0_26 x0_27 x0_28 x0_29 x0_30 x0_31 x0_32 x0_36 x0_39 x0_40 x0_44 x0_49 x0_51 x0_53 x0_54 x0_55 x0_56 x0_57 x0_58 x0_59 x0_60 x0_61 x0_62 y1 y2 y3 y4 y5 y6 y7 y8 y9 y10 y11 y12 y13 y14 y15 y16 y17 y18 y19 y20 y21 y22 y23 y24 y25)) (va_A (wS50 cI cJ cZ cB p0 p1 p2 p3 p4 p5 p6 p7 p8 p9 p10 p11 p12 p13 p14 p15 p16 p17 p18 p19 p20 p21 p22 p23 p24 p25 x0_4 x0_5 x0_6 x0_7 x0_8 x0_12 x0_13 x0_14 x0_15 x0_16 x0_17 x0_18 x0_22 x0_23 x0_24 x0_25 x0_26 x0_27 x0_28 x0_29 x0_30 x0_31 x0_32 x0_36 x0_39 x0_40 x0_44 x0_49 x0_51 x0_53 x0_54 x0_55 x0_56 x0_57 x0_58 x0_59 x0_60 x0_61 x0_62 y1 y2 y3 y4 y5 y6 y7 y8 y9 y10 y11 y12 y13 y14 y15 y16 y17 y18 y19 y20 y21 y22 y23 y24 y25) sz)) 0 0 (va_A (wS50 cI cJ cZ cB p0 p1 p2 p3 p4 p5 p6 p7 p8 p9 p10 p11 p12 p13 p14 p15 p16 p17 p18 p19 p20 p21 p22 p23 p24 p25 x0_4 x0_5 x0_6 x0_7 x0_8 x0_12 x0_13 x0_14 x0_15 x0_16 x0_17 x0_18 x0_22 x0_23 x0_24 x0_25 x0_26 x0_27 x0_28 x0_29 x0_30 x0_31 x0_32 x0_36 x0_39 x0_40 x0_44 x0_49 x0_51 x0_53 x0_54 x0_55 x0_56 x0_57 x0_58 x0_59 x0_60 x0_61 x0_62 y1 y2 y3 y4 y5 y6 y7 y8 y9 y10 y11 y12 y13 y14 y15 y16 y17 y18 y19 y20 y21 y22 y23 y24 y25) sz) := by
  refine Met.ofW (cc := b_X_isNothing) (maxL := 3) (ret := (some .boolean)) (by decide) rfl ?_
  intro p e s m args below meth c s₁ B hml hv
  obtain ⟨rfl, hsz, hK, hP, hD0⟩ := hv
  subst hsz
  have hD := hD0.self (sz := s.heap.size)
  generalize hAe : va_A (wS50 cI cJ cZ cB p0 p1 p2 p3 p4 p5 p6 p7 p8 p9 p10 p11 p12 p13 p14 p15 p16 p17 p18 p19 p20 p21 p22 p23 p24 p25 x0_4 x0_5 x0_6 x0_7 x0_8 x0_12 x0_13 x0_14 x0_15 x0_16 x0_17 x0_18 x0_22 x0_23 x0_24 x0_25 x0_26 x0_27 x0_28 x0_29 x0_30 x0_31 x0_32 x0_36 x0_39 x0_40 x0_44 x0_49 x0_51 x0_53 x0_54 x0_55 x0_56 x0_57 x0_58 x0_59 x0_60 x0_61 x0_62 y1 y2 y3 y4 y5 y6 y7 y8 y9 y10 y11 y12 y13 y14 y15 y16 y17 y18 y19 y20 y21 y22 y23 y24 y25) s.heap.size = A at hD ⊢
  have hA : ∀ q : Nat, s.heap.size ≤ q → A q := fun q h => by rw [← hAe]; exact Or.inr h
  clear hAe hD0
  have hS : va_S A s.heap s.heap [] := va_S.rf
  have hx := B.exec
  have hb := B.bytes
  have hr := B.returns
  have hts := atoms_spec (ws := .code y_X_isNothing b_X_isNothing 3 (some .boolean) :: tb) B.pre
  have hk : ∀ w ∈ tb, w.before [.ref p0].toArray s = true := fun w h => hts w (List.mem_cons_of_mem _ h)
  have hown : s.vm.findClass "SignMachineModel" = some m.cls := findClass_of_methodNamed B.named
  have hlocks := B.notSynchronized
  have hl := lv_entry ([.ref p0]) (n := 3) (Nat.le_of_ble_eq_true rfl)
  rw [lg_entry_eq]
  generalize (lg_sl ([.ref p0]) ++ List.replicate (3 - (lg_sl ([.ref p0])).length) Slot.unset).toArray = ls at hl ⊢
  have hl : lv_has ls 3 [(0, .ref p0)] := hl
  clear hts B
  refine lv_iconst (v := 1) hx hb d_X_isNothing_0 (by decide) ?_
  refine lv_istore_n (lv' := [(1, .int (1 : Int32)), (0, .ref p0)]) hx hb d_X_isNothing_1 rfl hl (by decide) rfl (fun ls hl => ?_)
  refine lv_aload_n hx hb d_X_isNothing_2 rfl (lv_at hl 1 rfl) ?_
  refine va_get (D := D) (ci := 7) (v := .int x0_25) (C := "SignMachineModel") (T := F_X) (N := 64) hx hb hk fi_X hown hK.1 hP 0 rfl rfl 25 (by decide) (hk _ k_1146) (fun _ h9 => h9) rfl d_X_isNothing_3 ?_
  refine lv_istore_n (lv' := [(2, .int x0_25), (1, .int (1 : Int32)), (0, .ref p0)]) hx hb d_X_isNothing_6 rfl hl (by decide) rfl (fun ls hl => ?_)
  have CUT7 : ∀ (n : Nat) (g7l2 : Int32) (g7l1 : Int32)  (H : Heap) (locs : List Loc) (ls : Array Slot), (x0_24.toInt - g7l2.toInt) < (n : Int) → (0 ≤ g7l1.toInt ∧ g7l1.toInt ≤ 1) → (0 ≤ g7l2.toInt ∧ g7l2.toInt ≤ 4000) → (g7l2.toInt ≤ x0_24.toInt) → va_P D classes (wS50 cI cJ cZ cB p0 p1 p2 p3 p4 p5 p6 p7 p8 p9 p10 p11 p12 p13 p14 p15 p16 p17 p18 p19 p20 p21 p22 p23 p24 p25 x0_4 x0_5 x0_6 x0_7 x0_8 x0_12 x0_13 x0_14 x0_15 x0_16 x0_17 x0_18 x0_22 x0_23 x0_24 x0_25 x0_26 x0_27 x0_28 x0_29 x0_30 x0_31 x0_32 x0_36 x0_39 x0_40 x0_44 x0_49 x0_51 x0_53 x0_54 x0_55 x0_56 x0_57 x0_58 x0_59 x0_60 x0_61 x0_62 y1 y2 y3 y4 y5 y6 y7 y8 y9 y10 y11 y12 y13 y14 y15 y16 y17 y18 y19 y20 y21 y22 y23 y24 y25) H → va_D A (wS50 cI cJ cZ cB p0 p1 p2 p3 p4 p5 p6 p7 p8 p9 p10 p11 p12 p13 p14 p15 p16 p17 p18 p19 p20 p21 p22 p23 p24 p25 x0_4 x0_5 x0_6 x0_7 x0_8 x0_12 x0_13 x0_14 x0_15 x0_16 x0_17 x0_18 x0_22 x0_23 x0_24 x0_25 x0_26 x0_27 x0_28 x0_29 x0_30 x0_31 x0_32 x0_36 x0_39 x0_40 x0_44 x0_49 x0_51 x0_53 x0_54 x0_55 x0_56 x0_57 x0_58 x0_59 x0_60 x0_61 x0_62 y1 y2 y3 y4 y5 y6 y7 y8 y9 y10 y11 y12 y13 y14 y15 y16 y17 y18 y19 y20 y21 y22 y23 y24 y25) → va_S A s.heap H locs → lv_has ls 3 [(2, .int g7l2), (1, .int g7l1), (0, .ref p0)] → W p l e ({ frames := 0, cells := 0, slots := 0, locals := 0 }) s m [.ref p0].toArray below meth c H locs 0 0 (MQ below (va_Qi (fun r (u : Int32) => r = u) (fun ur t => (0 ≤ ur.toInt ∧ ur.toInt ≤ 1) ∧ va_P D classes (wS50 cI cJ cZ cB p0 p1 p2 p3 p4 p5 p6 p7 p8 p9 p10 p11 p12 p13 p14 p15 p16 p17 p18 p19 p20 p21 p22 p23 p24 p25 x0_4 x0_5 x0_6 x0_7 x0_8 x0_12 x0_13 x0_14 x0_15 x0_16 x0_17 x0_18 x0_22 x0_23 x0_24 x0_25 x0_26 x0_27 x0_28 x0_29 x0_30 x0_31 x0_32 x0_36 x0_39 x0_40 x0_44 x0_49 x0_51 x0_53 x0_54 x0_55 x0_56 x0_57 x0_58 x0_59 x0_60 x0_61 x0_62 y1 y2 y3 y4 y5 y6 y7 y8 y9 y10 y11 y12 y13 y14 y15 y16 y17 y18 y19 y20 y21 y22 y23 y24 y25) t.heap ∧ va_D A (wS50 cI cJ cZ cB p0 p1 p2 p3 p4 p5 p6 p7 p8 p9 p10 p11 p12 p13 p14 p15 p16 p17 p18 p19 p20 p21 p22 p23 p24 p25 x0_4 x0_5 x0_6 x0_7 x0_8 x0_12 x0_13 x0_14 x0_15 x0_16 x0_17 x0_18 x0_22 x0_23 x0_24 x0_25 x0_26 x0_27 x0_28 x0_29 x0_30 x0_31 x0_32 x0_36 x0_39 x0_40 x0_44 x0_49 x0_51 x0_53 x0_54 x0_55 x0_56 x0_57 x0_58 x0_59 x0_60 x0_61 x0_62 y1 y2 y3 y4 y5 y6 y7 y8 y9 y10 y11 y12 y13 y14 y15 y16 y17 y18 y19 y20 y21 y22 y23 y24 y25)) A) [.ref p0].toArray s 0 0 A) (F0 m 7 ls []) := by
    intro n
    induction n with
    | zero => intro g7l2 g7l1 H locs ls hn7 Rg7l1 Rg7l2 I7_0 hP hD hS hl; exfalso; omega
    | succ n ih7 =>
      intro g7l2 g7l1 H locs ls hn7 Rg7l1 Rg7l2 I7_0 hP hD hS hl
      refine lv_iload_n hx hb d_X_isNothing_7 rfl (lv_at hl 0 rfl) ?_
      refine lv_aload_n hx hb d_X_isNothing_8 rfl (lv_at hl 2 rfl) ?_
      refine va_get (D := D) (ci := 7) (v := .int x0_24) (C := "SignMachineModel") (T := F_X) (N := 64) hx hb hk fi_X hown hK.1 hP 0 rfl rfl 24 (by decide) (hk _ k_1145) (fun _ h9 => h9) rfl d_X_isNothing_9 ?_
      refine lv_icmp_ge (tgt := 42) hx hb d_X_isNothing_12 (by decide) (fun c1 => ?_) (fun c1 => ?_)
      · have gc1 : x0_24.toInt ≤ g7l2.toInt := c_le c1
        refine lv_iload_n hx hb d_X_isNothing_42 rfl (lv_at hl 1 rfl) ?_
        refine lv_if_ne (tgt := 60) hx hb d_X_isNothing_43 (by decide) (fun c2 => ?_) (fun c2 => ?_)
        · have gc2 : g7l1.toInt ≠ (0 : Int) := c_ne c2
          have R3 : 1 ≤ g7l1.toInt ∧ g7l1.toInt ≤ 1 := rf_neX Rg7l1 (show 0 ≤ (0 : Int) ∧ (0 : Int) ≤ 0 from by decide) gc2 (by decide) (by decide)
          refine lv_iconst (v := 1) hx hb d_X_isNothing_60 (by decide) ?_
          refine lv_goto (tgt := 65) hx hb d_X_isNothing_61 (by decide) ?_
          exact W.zret (v := (1 : Int32)) hx hb hr (nar01 (by decide)) (fun t ht hW => ⟨⟨(1 : Int32), (1 : Int32), rfl, rfl, ⟨(by decide), by show va_P D classes _ t.heap; rw [ht]; exact hP, hD⟩⟩, hS.F ht⟩) hS.2.2 d_X_isNothing_65
        · have gc2 : g7l1.toInt = (0 : Int) := c_eq c2
          have R4 : 0 ≤ g7l1.toInt ∧ g7l1.toInt ≤ 0 := rf_eqX Rg7l1 (show 0 ≤ (0 : Int) ∧ (0 : Int) ≤ 0 from by decide) gc2 (by decide) (by decide)
          refine lv_aload_n hx hb d_X_isNothing_46 rfl (lv_at hl 2 rfl) ?_
          refine va_get (D := D) (ci := 7) (v := .ref p10) (C := "SignMachineModel") (T := F_X) (N := 64) hx hb hk fi_X hown hK.1 hP 0 rfl rfl 21 (by decide) (hk _ k_1142) (fun _ h9 => h9) rfl d_X_isNothing_47 ?_
          refine lv_aload_n hx hb d_X_isNothing_50 rfl (lv_at hl 2 rfl) ?_
          refine va_get (D := D) (ci := 7) (v := .int x0_25) (C := "SignMachineModel") (T := F_X) (N := 64) hx hb hk fi_X hown hK.1 hP 0 rfl rfl 25 (by decide) (hk _ k_1146) (fun _ h9 => h9) rfl d_X_isNothing_51 ?_
          refine va_iald hx hb hK.1 hP 10 0 rfl rfl (by rw [vp_in_iff]; omega) d_X_isNothing_54 ?_
          refine lv_topi (fun v5 hv5 => ?_)
          refine lv_bipush (v := 59) hx hb d_X_isNothing_55 (by decide) ?_
          refine lv_icmp_ne (tgt := 64) hx hb d_X_isNothing_57 (by decide) (fun c6 => ?_) (fun c6 => ?_)
          · have gc6 : v5.toInt ≠ (59 : Int) := c_ne c6
            refine lv_iconst (v := 0) hx hb d_X_isNothing_64 (by decide) ?_
            exact W.zret (v := (0 : Int32)) hx hb hr (nar01 (by decide)) (fun t ht hW => ⟨⟨(0 : Int32), (0 : Int32), rfl, rfl, ⟨(by decide), by show va_P D classes _ t.heap; rw [ht]; exact hP, hD⟩⟩, hS.F ht⟩) hS.2.2 d_X_isNothing_65
          · have gc6 : v5.toInt = (59 : Int) := c_eq c6
            have R7 : 59 ≤ v5.toInt ∧ v5.toInt ≤ 59 := rf_eqX (fr3 v5) (show 59 ≤ (59 : Int) ∧ (59 : Int) ≤ 59 from by decide) gc6 (by decide) (by decide)
            refine lv_iconst (v := 1) hx hb d_X_isNothing_60 (by decide) ?_
            refine lv_goto (tgt := 65) hx hb d_X_isNothing_61 (by decide) ?_
            exact W.zret (v := (1 : Int32)) hx hb hr (nar01 (by decide)) (fun t ht hW => ⟨⟨(1 : Int32), (1 : Int32), rfl, rfl, ⟨(by decide), by show va_P D classes _ t.heap; rw [ht]; exact hP, hD⟩⟩, hS.F ht⟩) hS.2.2 d_X_isNothing_65
      · have gc1 : g7l2.toInt < x0_24.toInt := c_nle c1
        have R8 : 0 ≤ g7l2.toInt ∧ g7l2.toInt ≤ 3999 := rf_ltX Rg7l2 Rx0_24 gc1 (by decide) (by decide)
        have R9 : 1 ≤ x0_24.toInt ∧ x0_24.toInt ≤ 4000 := rf_ltY Rg7l2 Rx0_24 gc1 (by decide) (by decide)
        refine lv_iload_n hx hb d_X_isNothing_15 rfl (lv_at hl 1 rfl) ?_
        refine lv_if_eq (tgt := 34) hx hb d_X_isNothing_16 (by decide) (fun c10 => ?_) (fun c10 => ?_)
        · have gc10 : g7l1.toInt = (0 : Int) := c_eq c10
          have R11 : 0 ≤ g7l1.toInt ∧ g7l1.toInt ≤ 0 := rf_eqX Rg7l1 (show 0 ≤ (0 : Int) ∧ (0 : Int) ≤ 0 from by decide) gc10 (by decide) (by decide)
          refine lv_iconst (v := 0) hx hb d_X_isNothing_34 (by decide) ?_
          refine lv_istore_n (lv' := [(1, .int (0 : Int32)), (2, .int g7l2), (0, .ref p0)]) hx hb d_X_isNothing_35 rfl hl (by decide) rfl (fun ls hl => ?_)
          obtain ⟨v12, hv12⟩ : ∃ y : Int32, y = (g7l2 + (1 : Int32)) := ⟨_, rfl⟩
          obtain ⟨ev12, Rv12⟩ : v12.toInt = g7l2.toInt + 1 ∧ (1 ≤ v12.toInt ∧ v12.toInt ≤ 4000) := ad3 hv12 R8 (y := (1 : Int32)) (c := 1) (d := 1) (by decide) (by decide) (by decide) (by decide) (by decide)
          refine lv_iinc (v := v12) (lv' := [(2, .int v12), (1, .int (0 : Int32)), (0, .ref p0)]) hx hb d_X_isNothing_36 hl (k := 1) rfl (by rw [hv12]; rfl) (by decide) rfl (fun ls hl => ?_)
          refine lv_goto (tgt := 7) hx hb d_X_isNothing_39 (by decide) ?_
          exact ih7 v12 (0 : Int32) H _ ls (show x0_24.toInt - v12.toInt < (n : Int) from by omega) (by decide) (rgw Rv12 (by decide) (by decide)) (show v12.toInt ≤ x0_24.toInt from by omega) hP hD hS (lv_sub hl [0, 1, 2] rfl)
        · have gc10 : g7l1.toInt ≠ (0 : Int) := c_ne c10
          have R13 : 1 ≤ g7l1.toInt ∧ g7l1.toInt ≤ 1 := rf_neX Rg7l1 (show 0 ≤ (0 : Int) ∧ (0 : Int) ≤ 0 from by decide) gc10 (by decide) (by decide)
          refine lv_aload_n hx hb d_X_isNothing_19 rfl (lv_at hl 2 rfl) ?_
          refine va_get (D := D) (ci := 7) (v := .ref p10) (C := "SignMachineModel") (T := F_X) (N := 64) hx hb hk fi_X hown hK.1 hP 0 rfl rfl 21 (by decide) (hk _ k_1142) (fun _ h9 => h9) rfl d_X_isNothing_20 ?_
          refine lv_iload_n hx hb d_X_isNothing_23 rfl (lv_at hl 0 rfl) ?_
          refine va_iald hx hb hK.1 hP 10 0 rfl rfl (vpb R8 (by decide) (by decide)) d_X_isNothing_24 ?_
          refine lv_topi (fun v14 hv14 => ?_)
          refine lv_bipush (v := 32) hx hb d_X_isNothing_25 (by decide) ?_
          refine lv_icmp_ne (tgt := 34) hx hb d_X_isNothing_27 (by decide) (fun c15 => ?_) (fun c15 => ?_)
          · have gc15 : v14.toInt ≠ (32 : Int) := c_ne c15
            refine lv_iconst (v := 0) hx hb d_X_isNothing_34 (by decide) ?_
            refine lv_istore_n (lv' := [(1, .int (0 : Int32)), (2, .int g7l2), (0, .ref p0)]) hx hb d_X_isNothing_35 rfl hl (by decide) rfl (fun ls hl => ?_)
            obtain ⟨v16, hv16⟩ : ∃ y : Int32, y = (g7l2 + (1 : Int32)) := ⟨_, rfl⟩
            obtain ⟨ev16, Rv16⟩ : v16.toInt = g7l2.toInt + 1 ∧ (1 ≤ v16.toInt ∧ v16.toInt ≤ 4000) := ad3 hv16 R8 (y := (1 : Int32)) (c := 1) (d := 1) (by decide) (by decide) (by decide) (by decide) (by decide)
            refine lv_iinc (v := v16) (lv' := [(2, .int v16), (1, .int (0 : Int32)), (0, .ref p0)]) hx hb d_X_isNothing_36 hl (k := 1) rfl (by rw [hv16]; rfl) (by decide) rfl (fun ls hl => ?_)
            refine lv_goto (tgt := 7) hx hb d_X_isNothing_39 (by decide) ?_
            exact ih7 v16 (0 : Int32) H _ ls (show x0_24.toInt - v16.toInt < (n : Int) from by omega) (by decide) (rgw Rv16 (by decide) (by decide)) (show v16.toInt ≤ x0_24.toInt from by omega) hP hD hS (lv_sub hl [0, 1, 2] rfl)
          · have gc15 : v14.toInt = (32 : Int) := c_eq c15
            have R17 : 32 ≤ v14.toInt ∧ v14.toInt ≤ 32 := rf_eqX (fr3 v14) (show 32 ≤ (32 : Int) ∧ (32 : Int) ≤ 32 from by decide) gc15 (by decide) (by decide)
            refine lv_iconst (v := 1) hx hb d_X_isNothing_30 (by decide) ?_
            refine lv_goto (tgt := 35) hx hb d_X_isNothing_31 (by decide) ?_
            refine lv_istore_n (lv' := [(1, .int (1 : Int32)), (2, .int g7l2), (0, .ref p0)]) hx hb d_X_isNothing_35 rfl hl (by decide) rfl (fun ls hl => ?_)
            obtain ⟨v18, hv18⟩ : ∃ y : Int32, y = (g7l2 + (1 : Int32)) := ⟨_, rfl⟩
            obtain ⟨ev18, Rv18⟩ : v18.toInt = g7l2.toInt + 1 ∧ (1 ≤ v18.toInt ∧ v18.toInt ≤ 4000) := ad3 hv18 R8 (y := (1 : Int32)) (c := 1) (d := 1) (by decide) (by decide) (by decide) (by decide) (by decide)
            refine lv_iinc (v := v18) (lv' := [(2, .int v18), (1, .int (1 : Int32)), (0, .ref p0)]) hx hb d_X_isNothing_36 hl (k := 1) rfl (by rw [hv18]; rfl) (by decide) rfl (fun ls hl => ?_)
            refine lv_goto (tgt := 7) hx hb d_X_isNothing_39 (by decide) ?_
            exact ih7 v18 (1 : Int32) H _ ls (show x0_24.toInt - v18.toInt < (n : Int) from by omega) (by decide) (rgw Rv18 (by decide) (by decide)) (show v18.toInt ≤ x0_24.toInt from by omega) hP hD hS (lv_sub hl [0, 1, 2] rfl)
  exact CUT7 ((x0_24.toInt - x0_25.toInt).toNat + 1) x0_25 (1 : Int32) s.heap _ ls (show (x0_24.toInt - x0_25.toInt) < (((x0_24.toInt - x0_25.toInt).toNat + 1 : Nat) : Int) from by omega) (by decide) Rx0_25 (show x0_25.toInt ≤ x0_24.toInt from by omega) hP hD hS (lv_sub hl [0, 1, 2] rfl)
theorem v_X_isNothing {R : Room} {s : State} {args : Array Value} {own : String} {index : Nat} (hk : ∀ w ∈ tb, w.before args s = true) (hl : Cond.methodLink own index y_X_isNothing ∈ tb) (hR : 0 + 1 ≤ R.frames ∧ 8 + (3 + 11) + 0 ≤ R.locals) : CallW R s args own "SignMachineModel" index y_X_isNothing b_X_isNothing 3 (some .boolean) (.code y_X_isNothing b_X_isNothing 3 (some .boolean) :: tb) ({ frames := 0, cells := 0, slots := 0, locals := 0 }) 0 0 0 := mk_v 0 hk k_1528 hl k_1527 k_88 k_119 rfl rfl h_X_isNothing hR
set_option maxHeartbeats 8000000 in
set_option maxRecDepth 100000 in
theorem c_X_putIn (l : Launch) (D : va_G) (cI cJ cZ cB : ClassId) (p0 p1 p2 p3 p4 p5 p6 p7 p8 p9 p10 p11 p12 p13 p14 p15 p16 p17 p18 p19 p20 p21 p22 p23 p24 p25 : Nat) (sz : Nat) (x0_4 : Int32) (x0_5 : Int32) (x0_6 : Int32) (x0_7 : Int32) (x0_8 : Int32) (x0_12 : Int32) (x0_13 : Int32) (x0_14 : Int32) (x0_15 : Int32) (x0_16 : Int32) (x0_17 : Int32) (x0_18 : Int32) (x0_22 : Int32) (x0_23 : Int32) (x0_24 : Int32) (x0_25 : Int32) (x0_26 : Int32) (x0_27 : Int32) (x0_28 : Int32) (x0_29 : Int32) (x0_30 : Int32) (x0_31 : Int32) (x0_32 : Int32) (x0_36 : Int32) (x0_39 : Int32) (x0_40 : Int64) (x0_44 : Int32) (x0_49 : Int32) (x0_51 : Int32) (x0_53 : Int32) (x0_54 : Int32) (x0_55 : Int64) (x0_56 : Int32) (x0_57 : Int32) (x0_58 : Int32) (x0_59 : Int32) (x0_60 : Int32) (x0_61 : Int32) (x0_62 : Int64) (y1 : Nat → Int32) (y2 : Nat → Int32) (y3 : Nat → Int32) (y4 : Nat → Int32) (y5 : Nat → Int32) (y6 : Nat → Int32) (y7 : Nat → Int32) (y8 : Nat → Int32) (y9 : Nat → Int32) (y10 : Nat → Int32) (y11 : Nat → Int64) (y12 : Nat → Int32) (y13 : Nat → Int64) (y14 : Nat → Int32) (y15 : Nat → Int64) (y16 : Nat → Int32) (y17 : Nat → Int32) (y18 : Nat → Int32) (y19 : Nat → Int32) (y20 : Nat → Int32) (y21 : Nat → Int32) (y22 : Nat → Int32) (y23 : Nat → Int32) (y24 : Nat → Int64) (y25 : Nat → Int64)  (Rx0_26 : 0 ≤ x0_26.toInt ∧ x0_26.toInt ≤ 6) (Rx0_44 : 0 ≤ x0_44.toInt ∧ x0_44.toInt ≤ 4200) (Rx0_49 : 0 ≤ x0_49.toInt ∧ x0_49.toInt ≤ 4100) (Ay13 : ∀ i : Nat, (-1073741823 ≤ (y13 i).toInt ∧ (y13 i).toInt ≤ 1073741823)) (Ay17 : ∀ i : Nat, (0 ≤ (y17 i).toInt ∧ (y17 i).toInt ≤ 1)) (Ay18 : ∀ i : Nat, (0 ≤ (y18 i).toInt ∧ (y18 i).toInt ≤ 1073741823)) (Ay19 : ∀ i : Nat, (0 ≤ (y19 i).toInt ∧ (y19 i).toInt ≤ 4199)) (Ay21 : ∀ i : Nat, ((-10 ≤ (y21 i).toInt ∧ (y21 i).toInt ≤ 139) ∧ ((y21 i).toInt ≤ 59 ∨ 100 ≤ (y21 i).toInt))) (Ay24 : ∀ i : Nat, (-1073741824 ≤ (y24 i).toInt ∧ (y24 i).toInt ≤ 1073741823)) (Ay25 : ∀ i : Nat, (-1073741823 ≤ (y25 i).toInt ∧ (y25 i).toInt ≤ 1073741823)) (Q0 : LX y19 y18 x0_49.toInt x0_44.toInt) : Met l y_X_putIn (.code y_X_putIn b_X_putIn 7 none :: tb) ({ frames := 0, cells := 0, slots := 0, locals := 0 }) (pM D cI cJ cZ cB (wS50 cI cJ cZ cB p0 p1 p2 p3 p4 p5 p6 p7 p8 p9 p10 p11 p12 p13 p14 p15 p16 p17 p18 p19 p20 p21 p22 p23 p24 p25 x0_4 x0_5 x0_6 x0_7 x0_8 x0_12 x0_13 x0_14 x0_15 x0_16 x0_17 x0_18 x0_22 x0_23 x0_24 x0_25 x0_26 x0_27 x0_28 x0_29 x0_30 x0_31 x0_32 x0_36 x0_39 x0_40 x0_44 x0_49 x0_51 x0_53 x0_54 x0_55 x0_56 x0_57 x0_58 x0_59 x0_60 x0_61 x0_62 y1 y2 y3 y4 y5 y6 y7 y8 y9 y10 y11 y12 y13 y14 y15 y16 y17 y18 y19 y20 y21 y22 y23 y24 y25) sz [.ref p0]) (va_Qv (fun (_ : Unit) => True) (fun _ t => ∃ u_x0_26 : Int32, ∃ u_x0_27 : Int32, ∃ u_y17 : Nat → Int32, ∃ u_y18 : Nat → Int32, (0 ≤ u_x0_26.toInt ∧ u_x0_26.toInt ≤ 6) ∧ (∀ i : Nat, (0 ≤ (u_y17 i).toInt ∧ (u_y17 i).toInt ≤ 1)) ∧ (∀ i : Nat, (0 ≤ (u_y18 i).toInt ∧ (u_y18 i).toInt ≤ 1073741823)) ∧ va_P D classes (wS50 cI cJ cZ cB p0 p1 p2 p3 p4 p5 p6 p7 p8 p9 p10 p11 p12 p13 p14 p15 p16 p17 p18 p19 p20 p21 p22 p23 p24 p25 x0_4 x0_5 x0_6 x0_7 x0_8 x0_12 x0_13 x0_14 x0_15 x0_16 x0_17 x0_18 x0_22 x0_23 x0_24 x0_25 u_x0_26 u_x0_27 x0_28 x0_29 x0_30 x0_31 x0_32 x0_36 x0_39 x0_40 x0_44 x0_49 x0_51 x0_53 x0_54 x0_55 x0_56 x0_57 x0_58 x0_59 x0_60 x0_61 x0_62 y1 y2 y3 y4 y5 y6 y7 y8 y9 y10 y11 y12 y13 y14 y15 y16 u_y17 u_y18 y19 y20 y21 y22 y23 y24 y25) t.heap ∧ va_D (va_A (wS50 cI cJ cZ cB p0 p1 p2 p3 p4 p5 p6 p7 p8 p9 p10 p11 p12 p13 p14 p15 p16 p17 p18 p19 p20 p21 p22 p23 p24 p25 x0_4 x0_5 x0_6 x0_7 x0_8 x0_12 x0_13 x0_14 x0_15 x0_16 x0_17 x0_18 x0_22 x0_23 x0_24 x0_25 x0_26 x0_27 x0_28 x0_29 x0_30 x0_31 x0_32 x0_36 x0_39 x0_40 x0_44 x0_49 x0_51 x0_53 x0_54 x0_55 x0_56 x0_57 x0_58 x0_59 x0_60 x0_61 x0_62 y1 y2 y3 y4 y5 y6 y7 y8 y9 y10 y11 y12 y13 y14 y15 y16 y17 y18 y19 y20 y21 y22 y23 y24 y25) sz) (wS50 cI cJ cZ cB p0 p1 p2 p3 p4 p5 p6 p7 p8 p9 p10 p11 p12 p13 p14 p15 p16 p17 p18 p19 p20 p21 p22 p23 p24 p25 x0_4 x0_5 x0_6 x0_7 x0_8 x0_12 x0_13 x0_14 x0_15 x0_16 x0_17 x0_18 x0_22 x0_23 x0_24 x0_25 u_x0_26 u_x0_27 x0_28 x0_29 x0_30 x0_31 x0_32 x0_36 x0_39 x0_40 x0_44 x0_49 x0_51 x0_53 x0_54 x0_55 x0_56 x0_57 x0_58 x0_59 x0_60 x0_61 x0_62 y1 y2 y3 y4 y5 y6 y7 y8 y9 y10 y11 y12 y13 y14 y15 y16 u_y17 u_y18 y19 y20 y21 y22 y23 y24 y25)) (va_A (wS50 cI cJ cZ cB p0 p1 p2 p3 p4 p5 p6 p7 p8 p9 p10 p11 p12 p13 p14 p15 p16 p17 p18 p19 p20 p21 p22 p23 p24 p25 x0_4 x0_5 x0_6 x0_7 x0_8 x0_12 x0_13 x0_14 x0_15 x0_16 x0_17 x0_18 x0_22 x0_23 x0_24 x0_25 x0_26 x0_27 x0_28 x0_29 x0_30 x0_31 x0_32 x0_36 x0_39 x0_40 x0_44 x0_49 x0_51 x0_53 x0_54 x0_55 x0_56 x0_57 x0_58 x0_59 x0_60 x0_61 x0_62 y1 y2 y3 y4 y5 y6 y7 y8 y9 y10 y11 y12 y13 y14 y15 y16 y17 y18 y19 y20 y21 y22 y23 y24 y25) sz)) 0 0 (va_A (wS50 cI cJ cZ cB p0 p1 p2 p3 p4 p5 p6 p7 p8 p9 p10 p11 p12 p13 p14 p15 p16 p17 p18 p19 p20 p21 p22 p23 p24 p25 x0_4 x0_5 x0_6 x0_7 x0_8 x0_12 x0_13 x0_14 x0_15 x0_16 x0_17 x0_18 x0_22 x0_23 x0_24 x0_25 x0_26 x0_27 x0_28 x0_29 x0_30 x0_31 x0_32 x0_36 x0_39 x0_40 x0_44 x0_49 x0_51 x0_53 x0_54 x0_55 x0_56 x0_57 x0_58 x0_59 x0_60 x0_61 x0_62 y1 y2 y3 y4 y5 y6 y7 y8 y9 y10 y11 y12 y13 y14 y15 y16 y17 y18 y19 y20 y21 y22 y23 y24 y25) sz) := by
  refine Met.ofW (cc := b_X_putIn) (maxL := 7) (ret := none) (by decide) rfl ?_
  intro p e s m args below meth c s₁ B hml hv
  obtain ⟨rfl, hsz, hK, hP, hD0⟩ := hv
  subst hsz
  have hD := hD0.self (sz := s.heap.size)
  generalize hAe : va_A (wS50 cI cJ cZ cB p0 p1 p2 p3 p4 p5 p6 p7 p8 p9 p10 p11 p12 p13 p14 p15 p16 p17 p18 p19 p20 p21 p22 p23 p24 p25 x0_4 x0_5 x0_6 x0_7 x0_8 x0_12 x0_13 x0_14 x0_15 x0_16 x0_17 x0_18 x0_22 x0_23 x0_24 x0_25 x0_26 x0_27 x0_28 x0_29 x0_30 x0_31 x0_32 x0_36 x0_39 x0_40 x0_44 x0_49 x0_51 x0_53 x0_54 x0_55 x0_56 x0_57 x0_58 x0_59 x0_60 x0_61 x0_62 y1 y2 y3 y4 y5 y6 y7 y8 y9 y10 y11 y12 y13 y14 y15 y16 y17 y18 y19 y20 y21 y22 y23 y24 y25) s.heap.size = A at hD ⊢
  have hA : ∀ q : Nat, s.heap.size ≤ q → A q := fun q h => by rw [← hAe]; exact Or.inr h
  clear hAe hD0
  have hS : va_S A s.heap s.heap [] := va_S.rf
  have hx := B.exec
  have hb := B.bytes
  have hr := B.returns
  have hts := atoms_spec (ws := .code y_X_putIn b_X_putIn 7 none :: tb) B.pre
  have hk : ∀ w ∈ tb, w.before [.ref p0].toArray s = true := fun w h => hts w (List.mem_cons_of_mem _ h)
  have hown : s.vm.findClass "SignMachineModel" = some m.cls := findClass_of_methodNamed B.named
  have hlocks := B.notSynchronized
  have hl := lv_entry ([.ref p0]) (n := 7) (Nat.le_of_ble_eq_true rfl)
  rw [lg_entry_eq]
  generalize (lg_sl ([.ref p0]) ++ List.replicate (7 - (lg_sl ([.ref p0])).length) Slot.unset).toArray = ls at hl ⊢
  have hl : lv_has ls 7 [(0, .ref p0)] := hl
  clear hts B
  refine lv_iconst (v := 0) hx hb d_X_putIn_0 (by decide) ?_
  refine lv_istore_n (lv' := [(1, .int (0 : Int32)), (0, .ref p0)]) hx hb d_X_putIn_1 rfl hl (by decide) rfl (fun ls hl => ?_)
  have CUT2 : ∀ (n : Nat) (g2l1 : Int32) (g2x0_26 : Int32) (g2x0_27 : Int32) (g2y17 : Nat → Int32) (g2y18 : Nat → Int32) (H : Heap) (locs : List Loc) (ls : Array Slot), (x0_49.toInt - g2l1.toInt) < (n : Int) → (0 ≤ g2l1.toInt ∧ g2l1.toInt ≤ 4100) → (0 ≤ g2x0_26.toInt ∧ g2x0_26.toInt ≤ 6) → (∀ i : Nat, (0 ≤ (g2y17 i).toInt ∧ (g2y17 i).toInt ≤ 1)) → (∀ i : Nat, (0 ≤ (g2y18 i).toInt ∧ (g2y18 i).toInt ≤ 1073741823)) → (g2l1.toInt ≤ x0_49.toInt) → (LY y19 g2y18 g2l1.toInt x0_49.toInt) → va_P D classes (wS50 cI cJ cZ cB p0 p1 p2 p3 p4 p5 p6 p7 p8 p9 p10 p11 p12 p13 p14 p15 p16 p17 p18 p19 p20 p21 p22 p23 p24 p25 x0_4 x0_5 x0_6 x0_7 x0_8 x0_12 x0_13 x0_14 x0_15 x0_16 x0_17 x0_18 x0_22 x0_23 x0_24 x0_25 g2x0_26 g2x0_27 x0_28 x0_29 x0_30 x0_31 x0_32 x0_36 x0_39 x0_40 x0_44 x0_49 x0_51 x0_53 x0_54 x0_55 x0_56 x0_57 x0_58 x0_59 x0_60 x0_61 x0_62 y1 y2 y3 y4 y5 y6 y7 y8 y9 y10 y11 y12 y13 y14 y15 y16 g2y17 g2y18 y19 y20 y21 y22 y23 y24 y25) H → va_D A (wS50 cI cJ cZ cB p0 p1 p2 p3 p4 p5 p6 p7 p8 p9 p10 p11 p12 p13 p14 p15 p16 p17 p18 p19 p20 p21 p22 p23 p24 p25 x0_4 x0_5 x0_6 x0_7 x0_8 x0_12 x0_13 x0_14 x0_15 x0_16 x0_17 x0_18 x0_22 x0_23 x0_24 x0_25 g2x0_26 g2x0_27 x0_28 x0_29 x0_30 x0_31 x0_32 x0_36 x0_39 x0_40 x0_44 x0_49 x0_51 x0_53 x0_54 x0_55 x0_56 x0_57 x0_58 x0_59 x0_60 x0_61 x0_62 y1 y2 y3 y4 y5 y6 y7 y8 y9 y10 y11 y12 y13 y14 y15 y16 g2y17 g2y18 y19 y20 y21 y22 y23 y24 y25) → va_S A s.heap H locs → lv_has ls 7 [(1, .int g2l1), (0, .ref p0)] → W p l e ({ frames := 0, cells := 0, slots := 0, locals := 0 }) s m [.ref p0].toArray below meth c H locs 0 0 (MQ below (va_Qv (fun (_ : Unit) => True) (fun _ t => ∃ u_x0_26 : Int32, ∃ u_x0_27 : Int32, ∃ u_y17 : Nat → Int32, ∃ u_y18 : Nat → Int32, (0 ≤ u_x0_26.toInt ∧ u_x0_26.toInt ≤ 6) ∧ (∀ i : Nat, (0 ≤ (u_y17 i).toInt ∧ (u_y17 i).toInt ≤ 1)) ∧ (∀ i : Nat, (0 ≤ (u_y18 i).toInt ∧ (u_y18 i).toInt ≤ 1073741823)) ∧ va_P D classes (wS50 cI cJ cZ cB p0 p1 p2 p3 p4 p5 p6 p7 p8 p9 p10 p11 p12 p13 p14 p15 p16 p17 p18 p19 p20 p21 p22 p23 p24 p25 x0_4 x0_5 x0_6 x0_7 x0_8 x0_12 x0_13 x0_14 x0_15 x0_16 x0_17 x0_18 x0_22 x0_23 x0_24 x0_25 u_x0_26 u_x0_27 x0_28 x0_29 x0_30 x0_31 x0_32 x0_36 x0_39 x0_40 x0_44 x0_49 x0_51 x0_53 x0_54 x0_55 x0_56 x0_57 x0_58 x0_59 x0_60 x0_61 x0_62 y1 y2 y3 y4 y5 y6 y7 y8 y9 y10 y11 y12 y13 y14 y15 y16 u_y17 u_y18 y19 y20 y21 y22 y23 y24 y25) t.heap ∧ va_D A (wS50 cI cJ cZ cB p0 p1 p2 p3 p4 p5 p6 p7 p8 p9 p10 p11 p12 p13 p14 p15 p16 p17 p18 p19 p20 p21 p22 p23 p24 p25 x0_4 x0_5 x0_6 x0_7 x0_8 x0_12 x0_13 x0_14 x0_15 x0_16 x0_17 x0_18 x0_22 x0_23 x0_24 x0_25 u_x0_26 u_x0_27 x0_28 x0_29 x0_30 x0_31 x0_32 x0_36 x0_39 x0_40 x0_44 x0_49 x0_51 x0_53 x0_54 x0_55 x0_56 x0_57 x0_58 x0_59 x0_60 x0_61 x0_62 y1 y2 y3 y4 y5 y6 y7 y8 y9 y10 y11 y12 y13 y14 y15 y16 u_y17 u_y18 y19 y20 y21 y22 y23 y24 y25)) A) [.ref p0].toArray s 0 0 A) (F0 m 2 ls []) := by
    intro n
    induction n with
    | zero => intro g2l1 g2x0_26 g2x0_27 g2y17 g2y18 H locs ls hn2 Rg2l1 Rg2x0_26 Ag2y17 Ag2y18 I2_0 I2_1 hP hD hS hl; exfalso; omega
    | succ n ih2 =>
      intro g2l1 g2x0_26 g2x0_27 g2y17 g2y18 H locs ls hn2 Rg2l1 Rg2x0_26 Ag2y17 Ag2y18 I2_0 I2_1 hP hD hS hl
      refine lv_iload_n hx hb d_X_putIn_2 rfl (lv_at hl 0 rfl) ?_
      refine lv_aload_n hx hb d_X_putIn_3 rfl (lv_at hl 1 rfl) ?_
      refine va_get (D := D) (ci := 7) (v := .int x0_49) (C := "SignMachineModel") (T := F_X) (N := 64) hx hb hk fi_X hown hK.1 hP 0 rfl rfl 49 (by decide) (hk _ k_1170) (fun _ h9 => h9) rfl d_X_putIn_4 ?_
      refine lv_icmp_ge (tgt := 175) hx hb d_X_putIn_7 (by decide) (fun c1 => ?_) (fun c1 => ?_)
      · have gc1 : x0_49.toInt ≤ g2l1.toInt := c_le c1
        exact W.vret hx hb hr (fun t ht hW => ⟨⟨(), rfl, trivial, ⟨g2x0_26, g2x0_27, g2y17, g2y18, Rg2x0_26, Ag2y17, Ag2y18, by show va_P D classes _ t.heap; rw [ht]; exact hP, hD⟩⟩, hS.F ht⟩) hS.2.2 d_X_putIn_175
      · have gc1 : g2l1.toInt < x0_49.toInt := c_nle c1
        have R2 : 0 ≤ g2l1.toInt ∧ g2l1.toInt ≤ 4099 := rf_ltX Rg2l1 Rx0_49 gc1 (by decide) (by decide)
        have R3 : 1 ≤ x0_49.toInt ∧ x0_49.toInt ≤ 4100 := rf_ltY Rg2l1 Rx0_49 gc1 (by decide) (by decide)
        refine lv_aload_n hx hb d_X_putIn_10 rfl (lv_at hl 1 rfl) ?_
        refine va_get (D := D) (ci := 7) (v := .ref p21) (C := "SignMachineModel") (T := F_X) (N := 64) hx hb hk fi_X hown hK.1 hP 0 rfl rfl 47 (by decide) (hk _ k_1168) (fun _ h9 => h9) rfl d_X_putIn_11 ?_
        refine lv_iload_n hx hb d_X_putIn_14 rfl (lv_at hl 0 rfl) ?_
        refine va_iald hx hb hK.1 hP 21 0 rfl rfl (vpb R2 (by decide) (by decide)) d_X_putIn_15 ?_
        refine lv_topi (fun v4 hv4 => ?_)
        have Rv4 := Ay21 (g2l1).toNatClampNeg
        rw [← hv4] at Rv4
        obtain ⟨Rv4, Xv4⟩ := Rv4
        refine lv_istore_n (lv' := [(2, .int v4), (1, .int g2l1), (0, .ref p0)]) hx hb d_X_putIn_16 rfl hl (by decide) rfl (fun ls hl => ?_)
        refine lv_iload_n hx hb d_X_putIn_17 rfl (lv_at hl 0 rfl) ?_
        refine lv_bipush (v := 100) hx hb d_X_putIn_18 (by decide) ?_
        refine lv_icmp_lt (tgt := 35) hx hb d_X_putIn_20 (by decide) (fun c5 => ?_) (fun c5 => ?_)
        · have gc5 : v4.toInt < (100 : Int) := c_lt c5
          have R6 : (-10) ≤ v4.toInt ∧ v4.toInt ≤ 99 := rf_ltX Rv4 (show 100 ≤ (100 : Int) ∧ (100 : Int) ≤ 100 from by decide) gc5 (by decide) (by decide)
          refine lv_iload_n hx hb d_X_putIn_35 rfl (lv_at hl 0 rfl) ?_
          refine lv_if_lt (tgt := 48) hx hb d_X_putIn_36 (by decide) (fun c7 => ?_) (fun c7 => ?_)
          · have gc7 : v4.toInt < (0 : Int) := c_lt c7
            have R8 : (-10) ≤ v4.toInt ∧ v4.toInt ≤ (-1) := rf_ltX R6 (show 0 ≤ (0 : Int) ∧ (0 : Int) ≤ 0 from by decide) gc7 (by decide) (by decide)
            refine lv_aload_n hx hb d_X_putIn_48 rfl (lv_at hl 2 rfl) ?_
            refine va_get (D := D) (ci := 7) (v := .ref p25) (C := "SignMachineModel") (T := F_X) (N := 64) hx hb hk fi_X hown hK.1 hP 0 rfl rfl 63 (by decide) (hk _ k_1184) (fun _ h9 => h9) rfl d_X_putIn_49 ?_
            refine lv_iload_n hx hb d_X_putIn_52 rfl (lv_at hl 1 rfl) ?_
            refine va_lald hx hb hK.1 hP 25 1 rfl rfl (vpb R2 (by decide) (by decide)) d_X_putIn_53 ?_
            refine lv_topl (fun v9 hv9 => ?_)
            have Rv9 := Ay25 (g2l1).toNatClampNeg
            rw [← hv9] at Rv9
            refine lv_lstore_n (lv' := [(3, .long v9), (2, .int v4), (1, .int g2l1), (0, .ref p0)]) hx hb d_X_putIn_54 rfl hl (by decide) rfl (fun ls hl => ?_)
            refine lv_iload_n hx hb d_X_putIn_55 rfl (lv_at hl 1 rfl) ?_
            refine lv_if_ge (tgt := 72) hx hb d_X_putIn_56 (by decide) (fun c10 => absurd c10 (show ¬ (0 : Int32) ≤ v4 from (fun q9 => Int.not_le.mpr (klt R8 (show 0 ≤ (0 : Int) ∧ (0 : Int) ≤ 0 from by decide) (by decide)) (c_le q9)))) (fun c10 => ?_)
            refine lv_aload_n hx hb d_X_putIn_59 rfl (lv_at hl 3 rfl) ?_
            refine va_get (D := D) (ci := 7) (v := .ref p22) (C := "SignMachineModel") (T := F_X) (N := 64) hx hb hk fi_X hown hK.1 hP 0 rfl rfl 48 (by decide) (hk _ k_1169) (fun _ h9 => h9) rfl d_X_putIn_60 ?_
            refine lv_iload_n hx hb d_X_putIn_63 rfl (lv_at hl 2 rfl) ?_
            refine va_zald hx hb hK.1 hP 22 2 rfl rfl (vpb R2 (by decide) (by decide)) d_X_putIn_64 ?_
            refine lv_topi (fun v11 hv11 => ?_)
            refine lv_if_ne (tgt := 72) hx hb d_X_putIn_65 (by decide) (fun c12 => ?_) (fun c12 => ?_)
            · have gc12 : v11.toInt ≠ (0 : Int) := c_ne c12
              refine lv_lload_n hx hb d_X_putIn_72 rfl (lv_at hl 0 rfl) ?_
              refine lv_ldc2 (v := 4095) hx hb hown (hk _ k_1347) d_X_putIn_73 ?_
              refine W.lcmp hx hb d_X_putIn_76 ?_
              refine lv_topi (fun v13 hv13 => ?_)
              refine lv_if_gt (tgt := 88) hx hb d_X_putIn_77 (by decide) (fun c14 => ?_) (fun c14 => ?_)
              · have gc14 : (4095 : Int) < v9.toInt := lc_gt hv13 c14
                have R15 : 4096 ≤ v9.toInt ∧ v9.toInt ≤ 1073741823 := rf_gtX Rv9 (show 4095 ≤ (4095 : Int) ∧ (4095 : Int) ≤ 4095 from by decide) gc14 (by decide) (by decide)
                refine lv_iconst (v := 4) hx hb d_X_putIn_88 (by decide) ?_
                refine lv_goto (tgt := 93) hx hb d_X_putIn_89 (by decide) ?_
                refine lv_istore (lv' := [(5, .int (4 : Int32)), (3, .long v9), (2, .int v4), (1, .int g2l1), (0, .ref p0)]) hx hb d_X_putIn_93 hl (by decide) rfl (fun ls hl => ?_)
                refine lv_iload hx hb d_X_putIn_95 (lv_at hl 0 rfl) ?_
                refine lv_if_le (tgt := 117) hx hb d_X_putIn_97 (by decide) (fun c16 => absurd c16 (show ¬ (4 : Int32) ≤ (0 : Int32) from (by decide))) (fun c16 => ?_)
                refine lv_aload_n hx hb d_X_putIn_100 rfl (lv_at hl 4 rfl) ?_
                refine lv_iload hx hb d_X_putIn_101 (lv_at hl 0 rfl) ?_
                refine va_put (D := D) (ci := 7) (v := .int (4 : Int32)) (ty := .int) (C := "SignMachineModel") (T := F_X) (N := 64) hx hb hk fi_X ft_X ft_X_ok fn_X hown hK.1 hP hD hS 0 rfl rfl 26 (by decide) (hk _ k_1147) (fun _ h9 => h9) rfl (by decide +kernel) rfl rfl (Nat.le_of_ble_eq_true rfl) d_X_putIn_103 (fun H locs hP hD hS => ?_)
                have hP : va_P D classes (wS50 cI cJ cZ cB p0 p1 p2 p3 p4 p5 p6 p7 p8 p9 p10 p11 p12 p13 p14 p15 p16 p17 p18 p19 p20 p21 p22 p23 p24 p25 x0_4 x0_5 x0_6 x0_7 x0_8 x0_12 x0_13 x0_14 x0_15 x0_16 x0_17 x0_18 x0_22 x0_23 x0_24 x0_25 (4 : Int32) g2x0_27 x0_28 x0_29 x0_30 x0_31 x0_32 x0_36 x0_39 x0_40 x0_44 x0_49 x0_51 x0_53 x0_54 x0_55 x0_56 x0_57 x0_58 x0_59 x0_60 x0_61 x0_62 y1 y2 y3 y4 y5 y6 y7 y8 y9 y10 y11 y12 y13 y14 y15 y16 g2y17 g2y18 y19 y20 y21 y22 y23 y24 y25) H := hP
                have hD : va_D A (wS50 cI cJ cZ cB p0 p1 p2 p3 p4 p5 p6 p7 p8 p9 p10 p11 p12 p13 p14 p15 p16 p17 p18 p19 p20 p21 p22 p23 p24 p25 x0_4 x0_5 x0_6 x0_7 x0_8 x0_12 x0_13 x0_14 x0_15 x0_16 x0_17 x0_18 x0_22 x0_23 x0_24 x0_25 (4 : Int32) g2x0_27 x0_28 x0_29 x0_30 x0_31 x0_32 x0_36 x0_39 x0_40 x0_44 x0_49 x0_51 x0_53 x0_54 x0_55 x0_56 x0_57 x0_58 x0_59 x0_60 x0_61 x0_62 y1 y2 y3 y4 y5 y6 y7 y8 y9 y10 y11 y12 y13 y14 y15 y16 g2y17 g2y18 y19 y20 y21 y22 y23 y24 y25) := hD
                refine lv_aload_n hx hb d_X_putIn_106 rfl (lv_at hl 4 rfl) ?_
                refine lv_aload_n hx hb d_X_putIn_107 rfl (lv_at hl 4 rfl) ?_
                refine va_get (D := D) (ci := 7) (v := .ref p20) (C := "SignMachineModel") (T := F_X) (N := 64) hx hb hk fi_X hown hK.1 hP 0 rfl rfl 46 (by decide) (hk _ k_1167) (fun _ h9 => h9) rfl d_X_putIn_108 ?_
                refine lv_iload_n hx hb d_X_putIn_111 rfl (lv_at hl 3 rfl) ?_
                refine va_iald hx hb hK.1 hP 20 0 rfl rfl (vpb R2 (by decide) (by decide)) d_X_putIn_112 ?_
                refine lv_topi (fun v17 hv17 => ?_)
                refine va_put (D := D) (ci := 7) (v := .int v17) (ty := .int) (C := "SignMachineModel") (T := F_X) (N := 64) hx hb hk fi_X ft_X ft_X_ok fn_X hown hK.1 hP hD hS 0 rfl rfl 27 (by decide) (hk _ k_1148) (fun _ h9 => h9) rfl (by decide +kernel) rfl rfl (Nat.le_of_ble_eq_true rfl) d_X_putIn_113 (fun H locs hP hD hS => ?_)
                have hP : va_P D classes (wS50 cI cJ cZ cB p0 p1 p2 p3 p4 p5 p6 p7 p8 p9 p10 p11 p12 p13 p14 p15 p16 p17 p18 p19 p20 p21 p22 p23 p24 p25 x0_4 x0_5 x0_6 x0_7 x0_8 x0_12 x0_13 x0_14 x0_15 x0_16 x0_17 x0_18 x0_22 x0_23 x0_24 x0_25 (4 : Int32) v17 x0_28 x0_29 x0_30 x0_31 x0_32 x0_36 x0_39 x0_40 x0_44 x0_49 x0_51 x0_53 x0_54 x0_55 x0_56 x0_57 x0_58 x0_59 x0_60 x0_61 x0_62 y1 y2 y3 y4 y5 y6 y7 y8 y9 y10 y11 y12 y13 y14 y15 y16 g2y17 g2y18 y19 y20 y21 y22 y23 y24 y25) H := hP
                have hD : va_D A (wS50 cI cJ cZ cB p0 p1 p2 p3 p4 p5 p6 p7 p8 p9 p10 p11 p12 p13 p14 p15 p16 p17 p18 p19 p20 p21 p22 p23 p24 p25 x0_4 x0_5 x0_6 x0_7 x0_8 x0_12 x0_13 x0_14 x0_15 x0_16 x0_17 x0_18 x0_22 x0_23 x0_24 x0_25 (4 : Int32) v17 x0_28 x0_29 x0_30 x0_31 x0_32 x0_36 x0_39 x0_40 x0_44 x0_49 x0_51 x0_53 x0_54 x0_55 x0_56 x0_57 x0_58 x0_59 x0_60 x0_61 x0_62 y1 y2 y3 y4 y5 y6 y7 y8 y9 y10 y11 y12 y13 y14 y15 y16 g2y17 g2y18 y19 y20 y21 y22 y23 y24 y25) := hD
                exact W.vret hx hb hr (fun t ht hW => ⟨⟨(), rfl, trivial, ⟨(4 : Int32), v17, g2y17, g2y18, (by decide), Ag2y17, Ag2y18, by show va_P D classes _ t.heap; rw [ht]; exact hP, hD⟩⟩, hS.F ht⟩) hS.2.2 d_X_putIn_116
              · have gc14 : v9.toInt ≤ (4095 : Int) := lc_ngt hv13 c14
                have R18 : (-1073741823) ≤ v9.toInt ∧ v9.toInt ≤ 4095 := rf_leX Rv9 (show 4095 ≤ (4095 : Int) ∧ (4095 : Int) ≤ 4095 from by decide) gc14 (by decide) (by decide)
                refine lv_lload_n hx hb d_X_putIn_80 rfl (lv_at hl 0 rfl) ?_
                refine lv_ldc2 (v := (-4095)) hx hb hown (hk _ k_1418) d_X_putIn_81 ?_
                refine W.lcmp hx hb d_X_putIn_84 ?_
                refine lv_topi (fun v19 hv19 => ?_)
                refine lv_if_ge (tgt := 92) hx hb d_X_putIn_85 (by decide) (fun c20 => ?_) (fun c20 => ?_)
                · have gc20 : (-4095 : Int) ≤ v9.toInt := lc_ge hv19 c20
                  have R21 : (-4095) ≤ v9.toInt ∧ v9.toInt ≤ 4095 := rf_geX R18 (show (-4095) ≤ (-4095 : Int) ∧ (-4095 : Int) ≤ (-4095) from by decide) gc20 (by decide) (by decide)
                  refine lv_iconst (v := 0) hx hb d_X_putIn_92 (by decide) ?_
                  refine lv_istore (lv' := [(5, .int (0 : Int32)), (3, .long v9), (2, .int v4), (1, .int g2l1), (0, .ref p0)]) hx hb d_X_putIn_93 hl (by decide) rfl (fun ls hl => ?_)
                  refine lv_iload hx hb d_X_putIn_95 (lv_at hl 0 rfl) ?_
                  refine lv_if_le (tgt := 117) hx hb d_X_putIn_97 (by decide) (fun c22 => ?_) (fun c22 => absurd (show (0 : Int32) ≤ (0 : Int32) from (by decide)) c22)
                  refine lv_aload_n hx hb d_X_putIn_117 rfl (lv_at hl 4 rfl) ?_
                  refine va_get (D := D) (ci := 7) (v := .ref p19) (C := "SignMachineModel") (T := F_X) (N := 64) hx hb hk fi_X hown hK.1 hP 0 rfl rfl 45 (by decide) (hk _ k_1166) (fun _ h9 => h9) rfl d_X_putIn_118 ?_
                  refine lv_iload_n hx hb d_X_putIn_121 rfl (lv_at hl 3 rfl) ?_
                  refine va_iald hx hb hK.1 hP 19 0 rfl rfl (vpb R2 (by decide) (by decide)) d_X_putIn_122 ?_
                  refine lv_topi (fun v23 hv23 => ?_)
                  have Rv23 := Ay19 (g2l1).toNatClampNeg
                  rw [← hv23] at Rv23
                  refine lv_istore (lv' := [(6, .int v23), (5, .int (0 : Int32)), (3, .long v9), (2, .int v4), (1, .int g2l1), (0, .ref p0)]) hx hb d_X_putIn_123 hl (by decide) rfl (fun ls hl => ?_)
                  refine lv_aload_n hx hb d_X_putIn_125 rfl (lv_at hl 5 rfl) ?_
                  refine va_get (D := D) (ci := 7) (v := .ref p17) (C := "SignMachineModel") (T := F_X) (N := 64) hx hb hk fi_X hown hK.1 hP 0 rfl rfl 42 (by decide) (hk _ k_1163) (fun _ h9 => h9) rfl d_X_putIn_126 ?_
                  refine lv_iload hx hb d_X_putIn_129 (lv_at hl 0 rfl) ?_
                  refine lv_lload_n hx hb d_X_putIn_131 rfl (lv_at hl 2 rfl) ?_
                  refine lv_lconst (v := 0) hx hb d_X_putIn_132 (by decide) ?_
                  refine W.lcmp hx hb d_X_putIn_133 ?_
                  refine lv_topi (fun v24 hv24 => ?_)
                  refine lv_if_ge (tgt := 141) hx hb d_X_putIn_134 (by decide) (fun c25 => ?_) (fun c25 => ?_)
                  · have gc25 : (0 : Int) ≤ v9.toInt := lc_ge hv24 c25
                    have R26 : 0 ≤ v9.toInt ∧ v9.toInt ≤ 4095 := rf_geX R21 (show 0 ≤ (0 : Int) ∧ (0 : Int) ≤ 0 from by decide) gc25 (by decide) (by decide)
                    refine lv_iconst (v := 0) hx hb d_X_putIn_141 (by decide) ?_
                    refine va_iast hx hb hK.1 hP hD hS 17 0 rfl rfl (vpb Rv23 (by decide) (by decide)) d_X_putIn_142 (fun H locs hP hD hS => ?_)
                    have hP : va_P D classes (wS50 cI cJ cZ cB p0 p1 p2 p3 p4 p5 p6 p7 p8 p9 p10 p11 p12 p13 p14 p15 p16 p17 p18 p19 p20 p21 p22 p23 p24 p25 x0_4 x0_5 x0_6 x0_7 x0_8 x0_12 x0_13 x0_14 x0_15 x0_16 x0_17 x0_18 x0_22 x0_23 x0_24 x0_25 g2x0_26 g2x0_27 x0_28 x0_29 x0_30 x0_31 x0_32 x0_36 x0_39 x0_40 x0_44 x0_49 x0_51 x0_53 x0_54 x0_55 x0_56 x0_57 x0_58 x0_59 x0_60 x0_61 x0_62 y1 y2 y3 y4 y5 y6 y7 y8 y9 y10 y11 y12 y13 y14 y15 y16 (upd g2y17 (v23).toNatClampNeg (0 : Int32)) g2y18 y19 y20 y21 y22 y23 y24 y25) H := hP
                    have hD : va_D A (wS50 cI cJ cZ cB p0 p1 p2 p3 p4 p5 p6 p7 p8 p9 p10 p11 p12 p13 p14 p15 p16 p17 p18 p19 p20 p21 p22 p23 p24 p25 x0_4 x0_5 x0_6 x0_7 x0_8 x0_12 x0_13 x0_14 x0_15 x0_16 x0_17 x0_18 x0_22 x0_23 x0_24 x0_25 g2x0_26 g2x0_27 x0_28 x0_29 x0_30 x0_31 x0_32 x0_36 x0_39 x0_40 x0_44 x0_49 x0_51 x0_53 x0_54 x0_55 x0_56 x0_57 x0_58 x0_59 x0_60 x0_61 x0_62 y1 y2 y3 y4 y5 y6 y7 y8 y9 y10 y11 y12 y13 y14 y15 y16 (upd g2y17 (v23).toNatClampNeg (0 : Int32)) g2y18 y19 y20 y21 y22 y23 y24 y25) := hD
                    obtain ⟨v27, hv27⟩ : ∃ y : Nat → Int32, y = (upd g2y17 (v23).toNatClampNeg (0 : Int32)) := ⟨_, rfl⟩
                    rw [← hv27] at hP hD
                    have Gv27 : (0 ≤ ((0 : Int32)).toInt ∧ ((0 : Int32)).toInt ≤ 1) := (by decide)
                    have Av27 : ∀ i : Nat, (0 ≤ (v27 i).toInt ∧ (v27 i).toInt ≤ 1) := by rw [hv27]; exact upd_all (P := fun i x => (0 ≤ (x).toInt ∧ (x).toInt ≤ 1)) Ag2y17 Gv27
                    clear hv27
                    have ly := ly_get I2_1 hv23 (by omega) (by omega) (by omega)
                    refine lv_aload_n hx hb d_X_putIn_143 rfl (lv_at hl 5 rfl) ?_
                    refine va_get (D := D) (ci := 7) (v := .ref p18) (C := "SignMachineModel") (T := F_X) (N := 64) hx hb hk fi_X hown hK.1 hP 0 rfl rfl 43 (by decide) (hk _ k_1164) (fun _ h9 => h9) rfl d_X_putIn_144 ?_
                    refine lv_iload hx hb d_X_putIn_147 (lv_at hl 0 rfl) ?_
                    refine lv_dup2_11 hx hb d_X_putIn_149 rfl rfl ?_
                    refine va_iald hx hb hK.1 hP 18 0 rfl rfl (vpb Rv23 (by decide) (by decide)) d_X_putIn_150 ?_
                    refine lv_topi (fun v28 hv28 => ?_)
                    have Tv28 : v28.toInt = (g2y18 (v23).toNatClampNeg).toInt := congrArg _ hv28
                    have Rv28 := Ag2y18 (v23).toNatClampNeg
                    rw [← hv28] at Rv28
                    refine lv_lload_n hx hb d_X_putIn_151 rfl (lv_at hl 2 rfl) ?_
                    refine lv_lconst (v := 0) hx hb d_X_putIn_152 (by decide) ?_
                    refine W.lcmp hx hb d_X_putIn_153 ?_
                    refine lv_topi (fun v29 hv29 => ?_)
                    refine lv_if_ge (tgt := 162) hx hb d_X_putIn_154 (by decide) (fun c30 => ?_) (fun c30 => absurd (show (0 : Int32) ≤ v29 from (lcr_ge hv29 (kle (show 0 ≤ (0 : Int) ∧ (0 : Int) ≤ 0 from by decide) R26 (by decide)))) c30)
                    refine lv_lload_n hx hb d_X_putIn_162 rfl (lv_at hl 2 rfl) ?_
                    refine lv_l2i (v := (v9 : Int64).toInt32) hx hb d_X_putIn_163 rfl ?_
                    refine lv_topi (fun v31 hv31 => ?_)
                    obtain ⟨ev31, Rv31⟩ : v31.toInt = v9.toInt ∧ (0 ≤ v31.toInt ∧ v31.toInt ≤ 4095) := li3 hv31 R26 (by decide) (by decide)
                    refine lv_ldc (v := 262144) hx hb hown (hk _ k_1380) d_X_putIn_164 ?_
                    refine lv_imul hx hb d_X_putIn_166 ?_
                    refine lv_topi (fun v32 hv32 => ?_)
                    obtain ⟨ev32, Rv32⟩ : v32.toInt = v31.toInt * (262144 : Int) ∧ (0 ≤ v32.toInt ∧ v32.toInt ≤ 1073479680) := ml3 hv32 Rv31 (show 262144 ≤ (262144 : Int32).toInt ∧ (262144 : Int32).toInt ≤ 262144 from by decide) (by decide) (by decide) (by decide) (by decide) (by decide) (by decide)
                    refine lv_iadd hx hb d_X_putIn_167 ?_
                    refine lv_topi (fun v33 hv33 => ?_)
                    obtain ⟨ev33, Rv33⟩ : v33.toInt = v28.toInt + v32.toInt ∧ (0 ≤ v33.toInt ∧ v33.toInt ≤ 2147221503) := ad3 hv33 Rv28 Rv32 (by decide) (by decide) (by decide) (by decide)
                    refine va_iast hx hb hK.1 hP hD hS 18 0 rfl rfl (vpb Rv23 (by decide) (by decide)) d_X_putIn_168 (fun H locs hP hD hS => ?_)
                    have hP : va_P D classes (wS50 cI cJ cZ cB p0 p1 p2 p3 p4 p5 p6 p7 p8 p9 p10 p11 p12 p13 p14 p15 p16 p17 p18 p19 p20 p21 p22 p23 p24 p25 x0_4 x0_5 x0_6 x0_7 x0_8 x0_12 x0_13 x0_14 x0_15 x0_16 x0_17 x0_18 x0_22 x0_23 x0_24 x0_25 g2x0_26 g2x0_27 x0_28 x0_29 x0_30 x0_31 x0_32 x0_36 x0_39 x0_40 x0_44 x0_49 x0_51 x0_53 x0_54 x0_55 x0_56 x0_57 x0_58 x0_59 x0_60 x0_61 x0_62 y1 y2 y3 y4 y5 y6 y7 y8 y9 y10 y11 y12 y13 y14 y15 y16 v27 (upd g2y18 (v23).toNatClampNeg v33) y19 y20 y21 y22 y23 y24 y25) H := hP
                    have hD : va_D A (wS50 cI cJ cZ cB p0 p1 p2 p3 p4 p5 p6 p7 p8 p9 p10 p11 p12 p13 p14 p15 p16 p17 p18 p19 p20 p21 p22 p23 p24 p25 x0_4 x0_5 x0_6 x0_7 x0_8 x0_12 x0_13 x0_14 x0_15 x0_16 x0_17 x0_18 x0_22 x0_23 x0_24 x0_25 g2x0_26 g2x0_27 x0_28 x0_29 x0_30 x0_31 x0_32 x0_36 x0_39 x0_40 x0_44 x0_49 x0_51 x0_53 x0_54 x0_55 x0_56 x0_57 x0_58 x0_59 x0_60 x0_61 x0_62 y1 y2 y3 y4 y5 y6 y7 y8 y9 y10 y11 y12 y13 y14 y15 y16 v27 (upd g2y18 (v23).toNatClampNeg v33) y19 y20 y21 y22 y23 y24 y25) := hD
                    obtain ⟨v34, hv34⟩ : ∃ y : Nat → Int32, y = (upd g2y18 (v23).toNatClampNeg v33) := ⟨_, rfl⟩
                    rw [← hv34] at hP hD
                    have Gv34 : (0 ≤ (v33).toInt ∧ (v33).toInt ≤ 1073741823) := (by omega)
                    have Av34 : ∀ i : Nat, (0 ≤ (v34 i).toInt ∧ (v34 i).toInt ≤ 1073741823) := by rw [hv34]; exact upd_all (P := fun i x => (0 ≤ (x).toInt ∧ (x).toInt ≤ 1073741823)) Ag2y18 Gv34
                    obtain ⟨v35, hv35⟩ : ∃ y : Int32, y = (g2l1 + (1 : Int32)) := ⟨_, rfl⟩
                    obtain ⟨ev35, Rv35⟩ : v35.toInt = g2l1.toInt + 1 ∧ (1 ≤ v35.toInt ∧ v35.toInt ≤ 4100) := ad3 hv35 R2 (y := (1 : Int32)) (c := 1) (d := 1) (by decide) (by decide) (by decide) (by decide) (by decide)
                    refine lv_iinc (v := v35) (lv' := [(1, .int v35), (6, .int v23), (5, .int (0 : Int32)), (3, .long v9), (2, .int v4), (0, .ref p0)]) hx hb d_X_putIn_169 hl (k := 4) rfl (by rw [hv35]; rfl) (by decide) rfl (fun ls hl => ?_)
                    refine lv_goto (tgt := 2) hx hb d_X_putIn_172 (by decide) ?_
                    exact ih2 v35 g2x0_26 g2x0_27 v27 v34 H _ ls (show x0_49.toInt - v35.toInt < (n : Int) from by omega) (rgw Rv35 (by decide) (by decide)) Rg2x0_26 Av27 Av34 (show v35.toInt ≤ x0_49.toInt from by omega) (show LY y19 v34 v35.toInt x0_49.toInt from by exact ly_step I2_1 Ay19 hv23 (by omega) (by omega) hv34 (by omega)) hP hD hS (lv_sub hl [0, 5] rfl)
                  · have gc25 : v9.toInt < (0 : Int) := lc_nge hv24 c25
                    have R36 : (-4095) ≤ v9.toInt ∧ v9.toInt ≤ (-1) := rf_ltX R21 (show 0 ≤ (0 : Int) ∧ (0 : Int) ≤ 0 from by decide) gc25 (by decide) (by decide)
                    refine lv_iconst (v := 1) hx hb d_X_putIn_137 (by decide) ?_
                    refine lv_goto (tgt := 142) hx hb d_X_putIn_138 (by decide) ?_
                    refine va_iast hx hb hK.1 hP hD hS 17 0 rfl rfl (vpb Rv23 (by decide) (by decide)) d_X_putIn_142 (fun H locs hP hD hS => ?_)
                    have hP : va_P D classes (wS50 cI cJ cZ cB p0 p1 p2 p3 p4 p5 p6 p7 p8 p9 p10 p11 p12 p13 p14 p15 p16 p17 p18 p19 p20 p21 p22 p23 p24 p25 x0_4 x0_5 x0_6 x0_7 x0_8 x0_12 x0_13 x0_14 x0_15 x0_16 x0_17 x0_18 x0_22 x0_23 x0_24 x0_25 g2x0_26 g2x0_27 x0_28 x0_29 x0_30 x0_31 x0_32 x0_36 x0_39 x0_40 x0_44 x0_49 x0_51 x0_53 x0_54 x0_55 x0_56 x0_57 x0_58 x0_59 x0_60 x0_61 x0_62 y1 y2 y3 y4 y5 y6 y7 y8 y9 y10 y11 y12 y13 y14 y15 y16 (upd g2y17 (v23).toNatClampNeg (1 : Int32)) g2y18 y19 y20 y21 y22 y23 y24 y25) H := hP
                    have hD : va_D A (wS50 cI cJ cZ cB p0 p1 p2 p3 p4 p5 p6 p7 p8 p9 p10 p11 p12 p13 p14 p15 p16 p17 p18 p19 p20 p21 p22 p23 p24 p25 x0_4 x0_5 x0_6 x0_7 x0_8 x0_12 x0_13 x0_14 x0_15 x0_16 x0_17 x0_18 x0_22 x0_23 x0_24 x0_25 g2x0_26 g2x0_27 x0_28 x0_29 x0_30 x0_31 x0_32 x0_36 x0_39 x0_40 x0_44 x0_49 x0_51 x0_53 x0_54 x0_55 x0_56 x0_57 x0_58 x0_59 x0_60 x0_61 x0_62 y1 y2 y3 y4 y5 y6 y7 y8 y9 y10 y11 y12 y13 y14 y15 y16 (upd g2y17 (v23).toNatClampNeg (1 : Int32)) g2y18 y19 y20 y21 y22 y23 y24 y25) := hD
                    obtain ⟨v37, hv37⟩ : ∃ y : Nat → Int32, y = (upd g2y17 (v23).toNatClampNeg (1 : Int32)) := ⟨_, rfl⟩
                    rw [← hv37] at hP hD
                    have Gv37 : (0 ≤ ((1 : Int32)).toInt ∧ ((1 : Int32)).toInt ≤ 1) := (by decide)
                    have Av37 : ∀ i : Nat, (0 ≤ (v37 i).toInt ∧ (v37 i).toInt ≤ 1) := by rw [hv37]; exact upd_all (P := fun i x => (0 ≤ (x).toInt ∧ (x).toInt ≤ 1)) Ag2y17 Gv37
                    clear hv37
                    have ly := ly_get I2_1 hv23 (by omega) (by omega) (by omega)
                    refine lv_aload_n hx hb d_X_putIn_143 rfl (lv_at hl 5 rfl) ?_
                    refine va_get (D := D) (ci := 7) (v := .ref p18) (C := "SignMachineModel") (T := F_X) (N := 64) hx hb hk fi_X hown hK.1 hP 0 rfl rfl 43 (by decide) (hk _ k_1164) (fun _ h9 => h9) rfl d_X_putIn_144 ?_
                    refine lv_iload hx hb d_X_putIn_147 (lv_at hl 0 rfl) ?_
                    refine lv_dup2_11 hx hb d_X_putIn_149 rfl rfl ?_
                    refine va_iald hx hb hK.1 hP 18 0 rfl rfl (vpb Rv23 (by decide) (by decide)) d_X_putIn_150 ?_
                    refine lv_topi (fun v38 hv38 => ?_)
                    have Tv38 : v38.toInt = (g2y18 (v23).toNatClampNeg).toInt := congrArg _ hv38
                    have Rv38 := Ag2y18 (v23).toNatClampNeg
                    rw [← hv38] at Rv38
                    refine lv_lload_n hx hb d_X_putIn_151 rfl (lv_at hl 2 rfl) ?_
                    refine lv_lconst (v := 0) hx hb d_X_putIn_152 (by decide) ?_
                    refine W.lcmp hx hb d_X_putIn_153 ?_
                    refine lv_topi (fun v39 hv39 => ?_)
                    refine lv_if_ge (tgt := 162) hx hb d_X_putIn_154 (by decide) (fun c40 => absurd c40 (show ¬ (0 : Int32) ≤ v39 from (lcr_nge hv39 (klt R36 (show 0 ≤ (0 : Int) ∧ (0 : Int) ≤ 0 from by decide) (by decide))))) (fun c40 => ?_)
                    refine lv_lload_n hx hb d_X_putIn_157 rfl (lv_at hl 2 rfl) ?_
                    refine lv_lneg hx hb d_X_putIn_158 ?_
                    refine lv_topl (fun v41 hv41 => ?_)
                    obtain ⟨ev41, Rv41⟩ : v41.toInt = -v9.toInt ∧ (1 ≤ v41.toInt ∧ v41.toInt ≤ 4095) := ng6 hv41 R36 (by decide) (by decide) (by decide) (by decide)
                    refine lv_goto (tgt := 163) hx hb d_X_putIn_159 (by decide) ?_
                    refine lv_l2i (v := (v41 : Int64).toInt32) hx hb d_X_putIn_163 rfl ?_
                    refine lv_topi (fun v42 hv42 => ?_)
                    obtain ⟨ev42, Rv42⟩ : v42.toInt = v41.toInt ∧ (1 ≤ v42.toInt ∧ v42.toInt ≤ 4095) := li3 hv42 Rv41 (by decide) (by decide)
                    refine lv_ldc (v := 262144) hx hb hown (hk _ k_1380) d_X_putIn_164 ?_
                    refine lv_imul hx hb d_X_putIn_166 ?_
                    refine lv_topi (fun v43 hv43 => ?_)
                    obtain ⟨ev43, Rv43⟩ : v43.toInt = v42.toInt * (262144 : Int) ∧ (262144 ≤ v43.toInt ∧ v43.toInt ≤ 1073479680) := ml3 hv43 Rv42 (show 262144 ≤ (262144 : Int32).toInt ∧ (262144 : Int32).toInt ≤ 262144 from by decide) (by decide) (by decide) (by decide) (by decide) (by decide) (by decide)
                    refine lv_iadd hx hb d_X_putIn_167 ?_
                    refine lv_topi (fun v44 hv44 => ?_)
                    obtain ⟨ev44, Rv44⟩ : v44.toInt = v38.toInt + v43.toInt ∧ (262144 ≤ v44.toInt ∧ v44.toInt ≤ 2147221503) := ad3 hv44 Rv38 Rv43 (by decide) (by decide) (by decide) (by decide)
                    refine va_iast hx hb hK.1 hP hD hS 18 0 rfl rfl (vpb Rv23 (by decide) (by decide)) d_X_putIn_168 (fun H locs hP hD hS => ?_)
                    have hP : va_P D classes (wS50 cI cJ cZ cB p0 p1 p2 p3 p4 p5 p6 p7 p8 p9 p10 p11 p12 p13 p14 p15 p16 p17 p18 p19 p20 p21 p22 p23 p24 p25 x0_4 x0_5 x0_6 x0_7 x0_8 x0_12 x0_13 x0_14 x0_15 x0_16 x0_17 x0_18 x0_22 x0_23 x0_24 x0_25 g2x0_26 g2x0_27 x0_28 x0_29 x0_30 x0_31 x0_32 x0_36 x0_39 x0_40 x0_44 x0_49 x0_51 x0_53 x0_54 x0_55 x0_56 x0_57 x0_58 x0_59 x0_60 x0_61 x0_62 y1 y2 y3 y4 y5 y6 y7 y8 y9 y10 y11 y12 y13 y14 y15 y16 v37 (upd g2y18 (v23).toNatClampNeg v44) y19 y20 y21 y22 y23 y24 y25) H := hP
                    have hD : va_D A (wS50 cI cJ cZ cB p0 p1 p2 p3 p4 p5 p6 p7 p8 p9 p10 p11 p12 p13 p14 p15 p16 p17 p18 p19 p20 p21 p22 p23 p24 p25 x0_4 x0_5 x0_6 x0_7 x0_8 x0_12 x0_13 x0_14 x0_15 x0_16 x0_17 x0_18 x0_22 x0_23 x0_24 x0_25 g2x0_26 g2x0_27 x0_28 x0_29 x0_30 x0_31 x0_32 x0_36 x0_39 x0_40 x0_44 x0_49 x0_51 x0_53 x0_54 x0_55 x0_56 x0_57 x0_58 x0_59 x0_60 x0_61 x0_62 y1 y2 y3 y4 y5 y6 y7 y8 y9 y10 y11 y12 y13 y14 y15 y16 v37 (upd g2y18 (v23).toNatClampNeg v44) y19 y20 y21 y22 y23 y24 y25) := hD
                    obtain ⟨v45, hv45⟩ : ∃ y : Nat → Int32, y = (upd g2y18 (v23).toNatClampNeg v44) := ⟨_, rfl⟩
                    rw [← hv45] at hP hD
                    have Gv45 : (0 ≤ (v44).toInt ∧ (v44).toInt ≤ 1073741823) := (by omega)
                    have Av45 : ∀ i : Nat, (0 ≤ (v45 i).toInt ∧ (v45 i).toInt ≤ 1073741823) := by rw [hv45]; exact upd_all (P := fun i x => (0 ≤ (x).toInt ∧ (x).toInt ≤ 1073741823)) Ag2y18 Gv45
                    obtain ⟨v46, hv46⟩ : ∃ y : Int32, y = (g2l1 + (1 : Int32)) := ⟨_, rfl⟩
                    obtain ⟨ev46, Rv46⟩ : v46.toInt = g2l1.toInt + 1 ∧ (1 ≤ v46.toInt ∧ v46.toInt ≤ 4100) := ad3 hv46 R2 (y := (1 : Int32)) (c := 1) (d := 1) (by decide) (by decide) (by decide) (by decide) (by decide)
                    refine lv_iinc (v := v46) (lv' := [(1, .int v46), (6, .int v23), (5, .int (0 : Int32)), (3, .long v9), (2, .int v4), (0, .ref p0)]) hx hb d_X_putIn_169 hl (k := 4) rfl (by rw [hv46]; rfl) (by decide) rfl (fun ls hl => ?_)
                    refine lv_goto (tgt := 2) hx hb d_X_putIn_172 (by decide) ?_
                    exact ih2 v46 g2x0_26 g2x0_27 v37 v45 H _ ls (show x0_49.toInt - v46.toInt < (n : Int) from by omega) (rgw Rv46 (by decide) (by decide)) Rg2x0_26 Av37 Av45 (show v46.toInt ≤ x0_49.toInt from by omega) (show LY y19 v45 v46.toInt x0_49.toInt from by exact ly_step I2_1 Ay19 hv23 (by omega) (by omega) hv45 (by omega)) hP hD hS (lv_sub hl [0, 5] rfl)
                · have gc20 : v9.toInt < (-4095 : Int) := lc_nge hv19 c20
                  have R47 : (-1073741823) ≤ v9.toInt ∧ v9.toInt ≤ (-4096) := rf_ltX R18 (show (-4095) ≤ (-4095 : Int) ∧ (-4095 : Int) ≤ (-4095) from by decide) gc20 (by decide) (by decide)
                  refine lv_iconst (v := 4) hx hb d_X_putIn_88 (by decide) ?_
                  refine lv_goto (tgt := 93) hx hb d_X_putIn_89 (by decide) ?_
                  refine lv_istore (lv' := [(5, .int (4 : Int32)), (3, .long v9), (2, .int v4), (1, .int g2l1), (0, .ref p0)]) hx hb d_X_putIn_93 hl (by decide) rfl (fun ls hl => ?_)
                  refine lv_iload hx hb d_X_putIn_95 (lv_at hl 0 rfl) ?_
                  refine lv_if_le (tgt := 117) hx hb d_X_putIn_97 (by decide) (fun c48 => absurd c48 (show ¬ (4 : Int32) ≤ (0 : Int32) from (by decide))) (fun c48 => ?_)
                  refine lv_aload_n hx hb d_X_putIn_100 rfl (lv_at hl 4 rfl) ?_
                  refine lv_iload hx hb d_X_putIn_101 (lv_at hl 0 rfl) ?_
                  refine va_put (D := D) (ci := 7) (v := .int (4 : Int32)) (ty := .int) (C := "SignMachineModel") (T := F_X) (N := 64) hx hb hk fi_X ft_X ft_X_ok fn_X hown hK.1 hP hD hS 0 rfl rfl 26 (by decide) (hk _ k_1147) (fun _ h9 => h9) rfl (by decide +kernel) rfl rfl (Nat.le_of_ble_eq_true rfl) d_X_putIn_103 (fun H locs hP hD hS => ?_)
                  have hP : va_P D classes (wS50 cI cJ cZ cB p0 p1 p2 p3 p4 p5 p6 p7 p8 p9 p10 p11 p12 p13 p14 p15 p16 p17 p18 p19 p20 p21 p22 p23 p24 p25 x0_4 x0_5 x0_6 x0_7 x0_8 x0_12 x0_13 x0_14 x0_15 x0_16 x0_17 x0_18 x0_22 x0_23 x0_24 x0_25 (4 : Int32) g2x0_27 x0_28 x0_29 x0_30 x0_31 x0_32 x0_36 x0_39 x0_40 x0_44 x0_49 x0_51 x0_53 x0_54 x0_55 x0_56 x0_57 x0_58 x0_59 x0_60 x0_61 x0_62 y1 y2 y3 y4 y5 y6 y7 y8 y9 y10 y11 y12 y13 y14 y15 y16 g2y17 g2y18 y19 y20 y21 y22 y23 y24 y25) H := hP
                  have hD : va_D A (wS50 cI cJ cZ cB p0 p1 p2 p3 p4 p5 p6 p7 p8 p9 p10 p11 p12 p13 p14 p15 p16 p17 p18 p19 p20 p21 p22 p23 p24 p25 x0_4 x0_5 x0_6 x0_7 x0_8 x0_12 x0_13 x0_14 x0_15 x0_16 x0_17 x0_18 x0_22 x0_23 x0_24 x0_25 (4 : Int32) g2x0_27 x0_28 x0_29 x0_30 x0_31 x0_32 x0_36 x0_39 x0_40 x0_44 x0_49 x0_51 x0_53 x0_54 x0_55 x0_56 x0_57 x0_58 x0_59 x0_60 x0_61 x0_62 y1 y2 y3 y4 y5 y6 y7 y8 y9 y10 y11 y12 y13 y14 y15 y16 g2y17 g2y18 y19 y20 y21 y22 y23 y24 y25) := hD
                  refine lv_aload_n hx hb d_X_putIn_106 rfl (lv_at hl 4 rfl) ?_
                  refine lv_aload_n hx hb d_X_putIn_107 rfl (lv_at hl 4 rfl) ?_
                  refine va_get (D := D) (ci := 7) (v := .ref p20) (C := "SignMachineModel") (T := F_X) (N := 64) hx hb hk fi_X hown hK.1 hP 0 rfl rfl 46 (by decide) (hk _ k_1167) (fun _ h9 => h9) rfl d_X_putIn_108 ?_
                  refine lv_iload_n hx hb d_X_putIn_111 rfl (lv_at hl 3 rfl) ?_
                  refine va_iald hx hb hK.1 hP 20 0 rfl rfl (vpb R2 (by decide) (by decide)) d_X_putIn_112 ?_
                  refine lv_topi (fun v49 hv49 => ?_)
                  refine va_put (D := D) (ci := 7) (v := .int v49) (ty := .int) (C := "SignMachineModel") (T := F_X) (N := 64) hx hb hk fi_X ft_X ft_X_ok fn_X hown hK.1 hP hD hS 0 rfl rfl 27 (by decide) (hk _ k_1148) (fun _ h9 => h9) rfl (by decide +kernel) rfl rfl (Nat.le_of_ble_eq_true rfl) d_X_putIn_113 (fun H locs hP hD hS => ?_)
                  have hP : va_P D classes (wS50 cI cJ cZ cB p0 p1 p2 p3 p4 p5 p6 p7 p8 p9 p10 p11 p12 p13 p14 p15 p16 p17 p18 p19 p20 p21 p22 p23 p24 p25 x0_4 x0_5 x0_6 x0_7 x0_8 x0_12 x0_13 x0_14 x0_15 x0_16 x0_17 x0_18 x0_22 x0_23 x0_24 x0_25 (4 : Int32) v49 x0_28 x0_29 x0_30 x0_31 x0_32 x0_36 x0_39 x0_40 x0_44 x0_49 x0_51 x0_53 x0_54 x0_55 x0_56 x0_57 x0_58 x0_59 x0_60 x0_61 x0_62 y1 y2 y3 y4 y5 y6 y7 y8 y9 y10 y11 y12 y13 y14 y15 y16 g2y17 g2y18 y19 y20 y21 y22 y23 y24 y25) H := hP
                  have hD : va_D A (wS50 cI cJ cZ cB p0 p1 p2 p3 p4 p5 p6 p7 p8 p9 p10 p11 p12 p13 p14 p15 p16 p17 p18 p19 p20 p21 p22 p23 p24 p25 x0_4 x0_5 x0_6 x0_7 x0_8 x0_12 x0_13 x0_14 x0_15 x0_16 x0_17 x0_18 x0_22 x0_23 x0_24 x0_25 (4 : Int32) v49 x0_28 x0_29 x0_30 x0_31 x0_32 x0_36 x0_39 x0_40 x0_44 x0_49 x0_51 x0_53 x0_54 x0_55 x0_56 x0_57 x0_58 x0_59 x0_60 x0_61 x0_62 y1 y2 y3 y4 y5 y6 y7 y8 y9 y10 y11 y12 y13 y14 y15 y16 g2y17 g2y18 y19 y20 y21 y22 y23 y24 y25) := hD
                  exact W.vret hx hb hr (fun t ht hW => ⟨⟨(), rfl, trivial, ⟨(4 : Int32), v49, g2y17, g2y18, (by decide), Ag2y17, Ag2y18, by show va_P D classes _ t.heap; rw [ht]; exact hP, hD⟩⟩, hS.F ht⟩) hS.2.2 d_X_putIn_116
            · have gc12 : v11.toInt = (0 : Int) := c_eq c12
              have R50 : 0 ≤ v11.toInt ∧ v11.toInt ≤ 0 := rf_eqX (fr3 v11) (show 0 ≤ (0 : Int) ∧ (0 : Int) ≤ 0 from by decide) gc12 (by decide) (by decide)
              refine lv_iconst (v := 3) hx hb d_X_putIn_68 (by decide) ?_
              refine lv_goto (tgt := 93) hx hb d_X_putIn_69 (by decide) ?_
              refine lv_istore (lv' := [(5, .int (3 : Int32)), (3, .long v9), (2, .int v4), (1, .int g2l1), (0, .ref p0)]) hx hb d_X_putIn_93 hl (by decide) rfl (fun ls hl => ?_)
              refine lv_iload hx hb d_X_putIn_95 (lv_at hl 0 rfl) ?_
              refine lv_if_le (tgt := 117) hx hb d_X_putIn_97 (by decide) (fun c51 => absurd c51 (show ¬ (3 : Int32) ≤ (0 : Int32) from (by decide))) (fun c51 => ?_)
              refine lv_aload_n hx hb d_X_putIn_100 rfl (lv_at hl 4 rfl) ?_
              refine lv_iload hx hb d_X_putIn_101 (lv_at hl 0 rfl) ?_
              refine va_put (D := D) (ci := 7) (v := .int (3 : Int32)) (ty := .int) (C := "SignMachineModel") (T := F_X) (N := 64) hx hb hk fi_X ft_X ft_X_ok fn_X hown hK.1 hP hD hS 0 rfl rfl 26 (by decide) (hk _ k_1147) (fun _ h9 => h9) rfl (by decide +kernel) rfl rfl (Nat.le_of_ble_eq_true rfl) d_X_putIn_103 (fun H locs hP hD hS => ?_)
              have hP : va_P D classes (wS50 cI cJ cZ cB p0 p1 p2 p3 p4 p5 p6 p7 p8 p9 p10 p11 p12 p13 p14 p15 p16 p17 p18 p19 p20 p21 p22 p23 p24 p25 x0_4 x0_5 x0_6 x0_7 x0_8 x0_12 x0_13 x0_14 x0_15 x0_16 x0_17 x0_18 x0_22 x0_23 x0_24 x0_25 (3 : Int32) g2x0_27 x0_28 x0_29 x0_30 x0_31 x0_32 x0_36 x0_39 x0_40 x0_44 x0_49 x0_51 x0_53 x0_54 x0_55 x0_56 x0_57 x0_58 x0_59 x0_60 x0_61 x0_62 y1 y2 y3 y4 y5 y6 y7 y8 y9 y10 y11 y12 y13 y14 y15 y16 g2y17 g2y18 y19 y20 y21 y22 y23 y24 y25) H := hP
              have hD : va_D A (wS50 cI cJ cZ cB p0 p1 p2 p3 p4 p5 p6 p7 p8 p9 p10 p11 p12 p13 p14 p15 p16 p17 p18 p19 p20 p21 p22 p23 p24 p25 x0_4 x0_5 x0_6 x0_7 x0_8 x0_12 x0_13 x0_14 x0_15 x0_16 x0_17 x0_18 x0_22 x0_23 x0_24 x0_25 (3 : Int32) g2x0_27 x0_28 x0_29 x0_30 x0_31 x0_32 x0_36 x0_39 x0_40 x0_44 x0_49 x0_51 x0_53 x0_54 x0_55 x0_56 x0_57 x0_58 x0_59 x0_60 x0_61 x0_62 y1 y2 y3 y4 y5 y6 y7 y8 y9 y10 y11 y12 y13 y14 y15 y16 g2y17 g2y18 y19 y20 y21 y22 y23 y24 y25) := hD
              refine lv_aload_n hx hb d_X_putIn_106 rfl (lv_at hl 4 rfl) ?_
              refine lv_aload_n hx hb d_X_putIn_107 rfl (lv_at hl 4 rfl) ?_
              refine va_get (D := D) (ci := 7) (v := .ref p20) (C := "SignMachineModel") (T := F_X) (N := 64) hx hb hk fi_X hown hK.1 hP 0 rfl rfl 46 (by decide) (hk _ k_1167) (fun _ h9 => h9) rfl d_X_putIn_108 ?_
              refine lv_iload_n hx hb d_X_putIn_111 rfl (lv_at hl 3 rfl) ?_
              refine va_iald hx hb hK.1 hP 20 0 rfl rfl (vpb R2 (by decide) (by decide)) d_X_putIn_112 ?_
              refine lv_topi (fun v52 hv52 => ?_)
              refine va_put (D := D) (ci := 7) (v := .int v52) (ty := .int) (C := "SignMachineModel") (T := F_X) (N := 64) hx hb hk fi_X ft_X ft_X_ok fn_X hown hK.1 hP hD hS 0 rfl rfl 27 (by decide) (hk _ k_1148) (fun _ h9 => h9) rfl (by decide +kernel) rfl rfl (Nat.le_of_ble_eq_true rfl) d_X_putIn_113 (fun H locs hP hD hS => ?_)
              have hP : va_P D classes (wS50 cI cJ cZ cB p0 p1 p2 p3 p4 p5 p6 p7 p8 p9 p10 p11 p12 p13 p14 p15 p16 p17 p18 p19 p20 p21 p22 p23 p24 p25 x0_4 x0_5 x0_6 x0_7 x0_8 x0_12 x0_13 x0_14 x0_15 x0_16 x0_17 x0_18 x0_22 x0_23 x0_24 x0_25 (3 : Int32) v52 x0_28 x0_29 x0_30 x0_31 x0_32 x0_36 x0_39 x0_40 x0_44 x0_49 x0_51 x0_53 x0_54 x0_55 x0_56 x0_57 x0_58 x0_59 x0_60 x0_61 x0_62 y1 y2 y3 y4 y5 y6 y7 y8 y9 y10 y11 y12 y13 y14 y15 y16 g2y17 g2y18 y19 y20 y21 y22 y23 y24 y25) H := hP
              have hD : va_D A (wS50 cI cJ cZ cB p0 p1 p2 p3 p4 p5 p6 p7 p8 p9 p10 p11 p12 p13 p14 p15 p16 p17 p18 p19 p20 p21 p22 p23 p24 p25 x0_4 x0_5 x0_6 x0_7 x0_8 x0_12 x0_13 x0_14 x0_15 x0_16 x0_17 x0_18 x0_22 x0_23 x0_24 x0_25 (3 : Int32) v52 x0_28 x0_29 x0_30 x0_31 x0_32 x0_36 x0_39 x0_40 x0_44 x0_49 x0_51 x0_53 x0_54 x0_55 x0_56 x0_57 x0_58 x0_59 x0_60 x0_61 x0_62 y1 y2 y3 y4 y5 y6 y7 y8 y9 y10 y11 y12 y13 y14 y15 y16 g2y17 g2y18 y19 y20 y21 y22 y23 y24 y25) := hD
              exact W.vret hx hb hr (fun t ht hW => ⟨⟨(), rfl, trivial, ⟨(3 : Int32), v52, g2y17, g2y18, (by decide), Ag2y17, Ag2y18, by show va_P D classes _ t.heap; rw [ht]; exact hP, hD⟩⟩, hS.F ht⟩) hS.2.2 d_X_putIn_116
          · have gc7 : (0 : Int) ≤ v4.toInt := c_nlt c7
            have R53 : 0 ≤ v4.toInt ∧ v4.toInt ≤ 99 := rf_geX R6 (show 0 ≤ (0 : Int) ∧ (0 : Int) ≤ 0 from by decide) gc7 (by decide) (by decide)
            refine lv_aload_n hx hb d_X_putIn_39 rfl (lv_at hl 2 rfl) ?_
            refine va_get (D := D) (ci := 7) (v := .ref p13) (C := "SignMachineModel") (T := F_X) (N := 64) hx hb hk fi_X hown hK.1 hP 0 rfl rfl 35 (by decide) (hk _ k_1156) (fun _ h9 => h9) rfl d_X_putIn_40 ?_
            refine lv_iload_n hx hb d_X_putIn_43 rfl (lv_at hl 0 rfl) ?_
            refine va_lald hx hb hK.1 hP 13 1 rfl rfl (by rw [vp_in_iff]; omega) d_X_putIn_44 ?_
            refine lv_topl (fun v54 hv54 => ?_)
            have Rv54 := Ay13 (v4).toNatClampNeg
            rw [← hv54] at Rv54
            refine lv_goto (tgt := 54) hx hb d_X_putIn_45 (by decide) ?_
            refine lv_lstore_n (lv' := [(3, .long v54), (2, .int v4), (1, .int g2l1), (0, .ref p0)]) hx hb d_X_putIn_54 rfl hl (by decide) rfl (fun ls hl => ?_)
            refine lv_iload_n hx hb d_X_putIn_55 rfl (lv_at hl 1 rfl) ?_
            refine lv_if_ge (tgt := 72) hx hb d_X_putIn_56 (by decide) (fun c55 => ?_) (fun c55 => absurd (show (0 : Int32) ≤ v4 from (Int32.le_iff_toInt_le.mpr (kle (show 0 ≤ (0 : Int) ∧ (0 : Int) ≤ 0 from by decide) R53 (by decide)))) c55)
            refine lv_lload_n hx hb d_X_putIn_72 rfl (lv_at hl 0 rfl) ?_
            refine lv_ldc2 (v := 4095) hx hb hown (hk _ k_1347) d_X_putIn_73 ?_
            refine W.lcmp hx hb d_X_putIn_76 ?_
            refine lv_topi (fun v56 hv56 => ?_)
            refine lv_if_gt (tgt := 88) hx hb d_X_putIn_77 (by decide) (fun c57 => ?_) (fun c57 => ?_)
            · have gc57 : (4095 : Int) < v54.toInt := lc_gt hv56 c57
              have R58 : 4096 ≤ v54.toInt ∧ v54.toInt ≤ 1073741823 := rf_gtX Rv54 (show 4095 ≤ (4095 : Int) ∧ (4095 : Int) ≤ 4095 from by decide) gc57 (by decide) (by decide)
              refine lv_iconst (v := 4) hx hb d_X_putIn_88 (by decide) ?_
              refine lv_goto (tgt := 93) hx hb d_X_putIn_89 (by decide) ?_
              refine lv_istore (lv' := [(5, .int (4 : Int32)), (3, .long v54), (2, .int v4), (1, .int g2l1), (0, .ref p0)]) hx hb d_X_putIn_93 hl (by decide) rfl (fun ls hl => ?_)
              refine lv_iload hx hb d_X_putIn_95 (lv_at hl 0 rfl) ?_
              refine lv_if_le (tgt := 117) hx hb d_X_putIn_97 (by decide) (fun c59 => absurd c59 (show ¬ (4 : Int32) ≤ (0 : Int32) from (by decide))) (fun c59 => ?_)
              refine lv_aload_n hx hb d_X_putIn_100 rfl (lv_at hl 4 rfl) ?_
              refine lv_iload hx hb d_X_putIn_101 (lv_at hl 0 rfl) ?_
              refine va_put (D := D) (ci := 7) (v := .int (4 : Int32)) (ty := .int) (C := "SignMachineModel") (T := F_X) (N := 64) hx hb hk fi_X ft_X ft_X_ok fn_X hown hK.1 hP hD hS 0 rfl rfl 26 (by decide) (hk _ k_1147) (fun _ h9 => h9) rfl (by decide +kernel) rfl rfl (Nat.le_of_ble_eq_true rfl) d_X_putIn_103 (fun H locs hP hD hS => ?_)
              have hP : va_P D classes (wS50 cI cJ cZ cB p0 p1 p2 p3 p4 p5 p6 p7 p8 p9 p10 p11 p12 p13 p14 p15 p16 p17 p18 p19 p20 p21 p22 p23 p24 p25 x0_4 x0_5 x0_6 x0_7 x0_8 x0_12 x0_13 x0_14 x0_15 x0_16 x0_17 x0_18 x0_22 x0_23 x0_24 x0_25 (4 : Int32) g2x0_27 x0_28 x0_29 x0_30 x0_31 x0_32 x0_36 x0_39 x0_40 x0_44 x0_49 x0_51 x0_53 x0_54 x0_55 x0_56 x0_57 x0_58 x0_59 x0_60 x0_61 x0_62 y1 y2 y3 y4 y5 y6 y7 y8 y9 y10 y11 y12 y13 y14 y15 y16 g2y17 g2y18 y19 y20 y21 y22 y23 y24 y25) H := hP
              have hD : va_D A (wS50 cI cJ cZ cB p0 p1 p2 p3 p4 p5 p6 p7 p8 p9 p10 p11 p12 p13 p14 p15 p16 p17 p18 p19 p20 p21 p22 p23 p24 p25 x0_4 x0_5 x0_6 x0_7 x0_8 x0_12 x0_13 x0_14 x0_15 x0_16 x0_17 x0_18 x0_22 x0_23 x0_24 x0_25 (4 : Int32) g2x0_27 x0_28 x0_29 x0_30 x0_31 x0_32 x0_36 x0_39 x0_40 x0_44 x0_49 x0_51 x0_53 x0_54 x0_55 x0_56 x0_57 x0_58 x0_59 x0_60 x0_61 x0_62 y1 y2 y3 y4 y5 y6 y7 y8 y9 y10 y11 y12 y13 y14 y15 y16 g2y17 g2y18 y19 y20 y21 y22 y23 y24 y25) := hD
              refine lv_aload_n hx hb d_X_putIn_106 rfl (lv_at hl 4 rfl) ?_
              refine lv_aload_n hx hb d_X_putIn_107 rfl (lv_at hl 4 rfl) ?_
              refine va_get (D := D) (ci := 7) (v := .ref p20) (C := "SignMachineModel") (T := F_X) (N := 64) hx hb hk fi_X hown hK.1 hP 0 rfl rfl 46 (by decide) (hk _ k_1167) (fun _ h9 => h9) rfl d_X_putIn_108 ?_
              refine lv_iload_n hx hb d_X_putIn_111 rfl (lv_at hl 3 rfl) ?_
              refine va_iald hx hb hK.1 hP 20 0 rfl rfl (vpb R2 (by decide) (by decide)) d_X_putIn_112 ?_
              refine lv_topi (fun v60 hv60 => ?_)
              refine va_put (D := D) (ci := 7) (v := .int v60) (ty := .int) (C := "SignMachineModel") (T := F_X) (N := 64) hx hb hk fi_X ft_X ft_X_ok fn_X hown hK.1 hP hD hS 0 rfl rfl 27 (by decide) (hk _ k_1148) (fun _ h9 => h9) rfl (by decide +kernel) rfl rfl (Nat.le_of_ble_eq_true rfl) d_X_putIn_113 (fun H locs hP hD hS => ?_)
              have hP : va_P D classes (wS50 cI cJ cZ cB p0 p1 p2 p3 p4 p5 p6 p7 p8 p9 p10 p11 p12 p13 p14 p15 p16 p17 p18 p19 p20 p21 p22 p23 p24 p25 x0_4 x0_5 x0_6 x0_7 x0_8 x0_12 x0_13 x0_14 x0_15 x0_16 x0_17 x0_18 x0_22 x0_23 x0_24 x0_25 (4 : Int32) v60 x0_28 x0_29 x0_30 x0_31 x0_32 x0_36 x0_39 x0_40 x0_44 x0_49 x0_51 x0_53 x0_54 x0_55 x0_56 x0_57 x0_58 x0_59 x0_60 x0_61 x0_62 y1 y2 y3 y4 y5 y6 y7 y8 y9 y10 y11 y12 y13 y14 y15 y16 g2y17 g2y18 y19 y20 y21 y22 y23 y24 y25) H := hP
              have hD : va_D A (wS50 cI cJ cZ cB p0 p1 p2 p3 p4 p5 p6 p7 p8 p9 p10 p11 p12 p13 p14 p15 p16 p17 p18 p19 p20 p21 p22 p23 p24 p25 x0_4 x0_5 x0_6 x0_7 x0_8 x0_12 x0_13 x0_14 x0_15 x0_16 x0_17 x0_18 x0_22 x0_23 x0_24 x0_25 (4 : Int32) v60 x0_28 x0_29 x0_30 x0_31 x0_32 x0_36 x0_39 x0_40 x0_44 x0_49 x0_51 x0_53 x0_54 x0_55 x0_56 x0_57 x0_58 x0_59 x0_60 x0_61 x0_62 y1 y2 y3 y4 y5 y6 y7 y8 y9 y10 y11 y12 y13 y14 y15 y16 g2y17 g2y18 y19 y20 y21 y22 y23 y24 y25) := hD
              exact W.vret hx hb hr (fun t ht hW => ⟨⟨(), rfl, trivial, ⟨(4 : Int32), v60, g2y17, g2y18, (by decide), Ag2y17, Ag2y18, by show va_P D classes _ t.heap; rw [ht]; exact hP, hD⟩⟩, hS.F ht⟩) hS.2.2 d_X_putIn_116
            · have gc57 : v54.toInt ≤ (4095 : Int) := lc_ngt hv56 c57
              have R61 : (-1073741823) ≤ v54.toInt ∧ v54.toInt ≤ 4095 := rf_leX Rv54 (show 4095 ≤ (4095 : Int) ∧ (4095 : Int) ≤ 4095 from by decide) gc57 (by decide) (by decide)
              refine lv_lload_n hx hb d_X_putIn_80 rfl (lv_at hl 0 rfl) ?_
              refine lv_ldc2 (v := (-4095)) hx hb hown (hk _ k_1418) d_X_putIn_81 ?_
              refine W.lcmp hx hb d_X_putIn_84 ?_
              refine lv_topi (fun v62 hv62 => ?_)
              refine lv_if_ge (tgt := 92) hx hb d_X_putIn_85 (by decide) (fun c63 => ?_) (fun c63 => ?_)
              · have gc63 : (-4095 : Int) ≤ v54.toInt := lc_ge hv62 c63
                have R64 : (-4095) ≤ v54.toInt ∧ v54.toInt ≤ 4095 := rf_geX R61 (show (-4095) ≤ (-4095 : Int) ∧ (-4095 : Int) ≤ (-4095) from by decide) gc63 (by decide) (by decide)
                refine lv_iconst (v := 0) hx hb d_X_putIn_92 (by decide) ?_
                refine lv_istore (lv' := [(5, .int (0 : Int32)), (3, .long v54), (2, .int v4), (1, .int g2l1), (0, .ref p0)]) hx hb d_X_putIn_93 hl (by decide) rfl (fun ls hl => ?_)
                refine lv_iload hx hb d_X_putIn_95 (lv_at hl 0 rfl) ?_
                refine lv_if_le (tgt := 117) hx hb d_X_putIn_97 (by decide) (fun c65 => ?_) (fun c65 => absurd (show (0 : Int32) ≤ (0 : Int32) from (by decide)) c65)
                refine lv_aload_n hx hb d_X_putIn_117 rfl (lv_at hl 4 rfl) ?_
                refine va_get (D := D) (ci := 7) (v := .ref p19) (C := "SignMachineModel") (T := F_X) (N := 64) hx hb hk fi_X hown hK.1 hP 0 rfl rfl 45 (by decide) (hk _ k_1166) (fun _ h9 => h9) rfl d_X_putIn_118 ?_
                refine lv_iload_n hx hb d_X_putIn_121 rfl (lv_at hl 3 rfl) ?_
                refine va_iald hx hb hK.1 hP 19 0 rfl rfl (vpb R2 (by decide) (by decide)) d_X_putIn_122 ?_
                refine lv_topi (fun v66 hv66 => ?_)
                have Rv66 := Ay19 (g2l1).toNatClampNeg
                rw [← hv66] at Rv66
                refine lv_istore (lv' := [(6, .int v66), (5, .int (0 : Int32)), (3, .long v54), (2, .int v4), (1, .int g2l1), (0, .ref p0)]) hx hb d_X_putIn_123 hl (by decide) rfl (fun ls hl => ?_)
                refine lv_aload_n hx hb d_X_putIn_125 rfl (lv_at hl 5 rfl) ?_
                refine va_get (D := D) (ci := 7) (v := .ref p17) (C := "SignMachineModel") (T := F_X) (N := 64) hx hb hk fi_X hown hK.1 hP 0 rfl rfl 42 (by decide) (hk _ k_1163) (fun _ h9 => h9) rfl d_X_putIn_126 ?_
                refine lv_iload hx hb d_X_putIn_129 (lv_at hl 0 rfl) ?_
                refine lv_lload_n hx hb d_X_putIn_131 rfl (lv_at hl 2 rfl) ?_
                refine lv_lconst (v := 0) hx hb d_X_putIn_132 (by decide) ?_
                refine W.lcmp hx hb d_X_putIn_133 ?_
                refine lv_topi (fun v67 hv67 => ?_)
                refine lv_if_ge (tgt := 141) hx hb d_X_putIn_134 (by decide) (fun c68 => ?_) (fun c68 => ?_)
                · have gc68 : (0 : Int) ≤ v54.toInt := lc_ge hv67 c68
                  have R69 : 0 ≤ v54.toInt ∧ v54.toInt ≤ 4095 := rf_geX R64 (show 0 ≤ (0 : Int) ∧ (0 : Int) ≤ 0 from by decide) gc68 (by decide) (by decide)
                  refine lv_iconst (v := 0) hx hb d_X_putIn_141 (by decide) ?_
                  refine va_iast hx hb hK.1 hP hD hS 17 0 rfl rfl (vpb Rv66 (by decide) (by decide)) d_X_putIn_142 (fun H locs hP hD hS => ?_)
                  have hP : va_P D classes (wS50 cI cJ cZ cB p0 p1 p2 p3 p4 p5 p6 p7 p8 p9 p10 p11 p12 p13 p14 p15 p16 p17 p18 p19 p20 p21 p22 p23 p24 p25 x0_4 x0_5 x0_6 x0_7 x0_8 x0_12 x0_13 x0_14 x0_15 x0_16 x0_17 x0_18 x0_22 x0_23 x0_24 x0_25 g2x0_26 g2x0_27 x0_28 x0_29 x0_30 x0_31 x0_32 x0_36 x0_39 x0_40 x0_44 x0_49 x0_51 x0_53 x0_54 x0_55 x0_56 x0_57 x0_58 x0_59 x0_60 x0_61 x0_62 y1 y2 y3 y4 y5 y6 y7 y8 y9 y10 y11 y12 y13 y14 y15 y16 (upd g2y17 (v66).toNatClampNeg (0 : Int32)) g2y18 y19 y20 y21 y22 y23 y24 y25) H := hP
                  have hD : va_D A (wS50 cI cJ cZ cB p0 p1 p2 p3 p4 p5 p6 p7 p8 p9 p10 p11 p12 p13 p14 p15 p16 p17 p18 p19 p20 p21 p22 p23 p24 p25 x0_4 x0_5 x0_6 x0_7 x0_8 x0_12 x0_13 x0_14 x0_15 x0_16 x0_17 x0_18 x0_22 x0_23 x0_24 x0_25 g2x0_26 g2x0_27 x0_28 x0_29 x0_30 x0_31 x0_32 x0_36 x0_39 x0_40 x0_44 x0_49 x0_51 x0_53 x0_54 x0_55 x0_56 x0_57 x0_58 x0_59 x0_60 x0_61 x0_62 y1 y2 y3 y4 y5 y6 y7 y8 y9 y10 y11 y12 y13 y14 y15 y16 (upd g2y17 (v66).toNatClampNeg (0 : Int32)) g2y18 y19 y20 y21 y22 y23 y24 y25) := hD
                  obtain ⟨v70, hv70⟩ : ∃ y : Nat → Int32, y = (upd g2y17 (v66).toNatClampNeg (0 : Int32)) := ⟨_, rfl⟩
                  rw [← hv70] at hP hD
                  have Gv70 : (0 ≤ ((0 : Int32)).toInt ∧ ((0 : Int32)).toInt ≤ 1) := (by decide)
                  have Av70 : ∀ i : Nat, (0 ≤ (v70 i).toInt ∧ (v70 i).toInt ≤ 1) := by rw [hv70]; exact upd_all (P := fun i x => (0 ≤ (x).toInt ∧ (x).toInt ≤ 1)) Ag2y17 Gv70
                  clear hv70
                  have ly := ly_get I2_1 hv66 (by omega) (by omega) (by omega)
                  refine lv_aload_n hx hb d_X_putIn_143 rfl (lv_at hl 5 rfl) ?_
                  refine va_get (D := D) (ci := 7) (v := .ref p18) (C := "SignMachineModel") (T := F_X) (N := 64) hx hb hk fi_X hown hK.1 hP 0 rfl rfl 43 (by decide) (hk _ k_1164) (fun _ h9 => h9) rfl d_X_putIn_144 ?_
                  refine lv_iload hx hb d_X_putIn_147 (lv_at hl 0 rfl) ?_
                  refine lv_dup2_11 hx hb d_X_putIn_149 rfl rfl ?_
                  refine va_iald hx hb hK.1 hP 18 0 rfl rfl (vpb Rv66 (by decide) (by decide)) d_X_putIn_150 ?_
                  refine lv_topi (fun v71 hv71 => ?_)
                  have Tv71 : v71.toInt = (g2y18 (v66).toNatClampNeg).toInt := congrArg _ hv71
                  have Rv71 := Ag2y18 (v66).toNatClampNeg
                  rw [← hv71] at Rv71
                  refine lv_lload_n hx hb d_X_putIn_151 rfl (lv_at hl 2 rfl) ?_
                  refine lv_lconst (v := 0) hx hb d_X_putIn_152 (by decide) ?_
                  refine W.lcmp hx hb d_X_putIn_153 ?_
                  refine lv_topi (fun v72 hv72 => ?_)
                  refine lv_if_ge (tgt := 162) hx hb d_X_putIn_154 (by decide) (fun c73 => ?_) (fun c73 => absurd (show (0 : Int32) ≤ v72 from (lcr_ge hv72 (kle (show 0 ≤ (0 : Int) ∧ (0 : Int) ≤ 0 from by decide) R69 (by decide)))) c73)
                  refine lv_lload_n hx hb d_X_putIn_162 rfl (lv_at hl 2 rfl) ?_
                  refine lv_l2i (v := (v54 : Int64).toInt32) hx hb d_X_putIn_163 rfl ?_
                  refine lv_topi (fun v74 hv74 => ?_)
                  obtain ⟨ev74, Rv74⟩ : v74.toInt = v54.toInt ∧ (0 ≤ v74.toInt ∧ v74.toInt ≤ 4095) := li3 hv74 R69 (by decide) (by decide)
                  refine lv_ldc (v := 262144) hx hb hown (hk _ k_1380) d_X_putIn_164 ?_
                  refine lv_imul hx hb d_X_putIn_166 ?_
                  refine lv_topi (fun v75 hv75 => ?_)
                  obtain ⟨ev75, Rv75⟩ : v75.toInt = v74.toInt * (262144 : Int) ∧ (0 ≤ v75.toInt ∧ v75.toInt ≤ 1073479680) := ml3 hv75 Rv74 (show 262144 ≤ (262144 : Int32).toInt ∧ (262144 : Int32).toInt ≤ 262144 from by decide) (by decide) (by decide) (by decide) (by decide) (by decide) (by decide)
                  refine lv_iadd hx hb d_X_putIn_167 ?_
                  refine lv_topi (fun v76 hv76 => ?_)
                  obtain ⟨ev76, Rv76⟩ : v76.toInt = v71.toInt + v75.toInt ∧ (0 ≤ v76.toInt ∧ v76.toInt ≤ 2147221503) := ad3 hv76 Rv71 Rv75 (by decide) (by decide) (by decide) (by decide)
                  refine va_iast hx hb hK.1 hP hD hS 18 0 rfl rfl (vpb Rv66 (by decide) (by decide)) d_X_putIn_168 (fun H locs hP hD hS => ?_)
                  have hP : va_P D classes (wS50 cI cJ cZ cB p0 p1 p2 p3 p4 p5 p6 p7 p8 p9 p10 p11 p12 p13 p14 p15 p16 p17 p18 p19 p20 p21 p22 p23 p24 p25 x0_4 x0_5 x0_6 x0_7 x0_8 x0_12 x0_13 x0_14 x0_15 x0_16 x0_17 x0_18 x0_22 x0_23 x0_24 x0_25 g2x0_26 g2x0_27 x0_28 x0_29 x0_30 x0_31 x0_32 x0_36 x0_39 x0_40 x0_44 x0_49 x0_51 x0_53 x0_54 x0_55 x0_56 x0_57 x0_58 x0_59 x0_60 x0_61 x0_62 y1 y2 y3 y4 y5 y6 y7 y8 y9 y10 y11 y12 y13 y14 y15 y16 v70 (upd g2y18 (v66).toNatClampNeg v76) y19 y20 y21 y22 y23 y24 y25) H := hP
                  have hD : va_D A (wS50 cI cJ cZ cB p0 p1 p2 p3 p4 p5 p6 p7 p8 p9 p10 p11 p12 p13 p14 p15 p16 p17 p18 p19 p20 p21 p22 p23 p24 p25 x0_4 x0_5 x0_6 x0_7 x0_8 x0_12 x0_13 x0_14 x0_15 x0_16 x0_17 x0_18 x0_22 x0_23 x0_24 x0_25 g2x0_26 g2x0_27 x0_28 x0_29 x0_30 x0_31 x0_32 x0_36 x0_39 x0_40 x0_44 x0_49 x0_51 x0_53 x0_54 x0_55 x0_56 x0_57 x0_58 x0_59 x0_60 x0_61 x0_62 y1 y2 y3 y4 y5 y6 y7 y8 y9 y10 y11 y12 y13 y14 y15 y16 v70 (upd g2y18 (v66).toNatClampNeg v76) y19 y20 y21 y22 y23 y24 y25) := hD
                  obtain ⟨v77, hv77⟩ : ∃ y : Nat → Int32, y = (upd g2y18 (v66).toNatClampNeg v76) := ⟨_, rfl⟩
                  rw [← hv77] at hP hD
                  have Gv77 : (0 ≤ (v76).toInt ∧ (v76).toInt ≤ 1073741823) := (by omega)
                  have Av77 : ∀ i : Nat, (0 ≤ (v77 i).toInt ∧ (v77 i).toInt ≤ 1073741823) := by rw [hv77]; exact upd_all (P := fun i x => (0 ≤ (x).toInt ∧ (x).toInt ≤ 1073741823)) Ag2y18 Gv77
                  obtain ⟨v78, hv78⟩ : ∃ y : Int32, y = (g2l1 + (1 : Int32)) := ⟨_, rfl⟩
                  obtain ⟨ev78, Rv78⟩ : v78.toInt = g2l1.toInt + 1 ∧ (1 ≤ v78.toInt ∧ v78.toInt ≤ 4100) := ad3 hv78 R2 (y := (1 : Int32)) (c := 1) (d := 1) (by decide) (by decide) (by decide) (by decide) (by decide)
                  refine lv_iinc (v := v78) (lv' := [(1, .int v78), (6, .int v66), (5, .int (0 : Int32)), (3, .long v54), (2, .int v4), (0, .ref p0)]) hx hb d_X_putIn_169 hl (k := 4) rfl (by rw [hv78]; rfl) (by decide) rfl (fun ls hl => ?_)
                  refine lv_goto (tgt := 2) hx hb d_X_putIn_172 (by decide) ?_
                  exact ih2 v78 g2x0_26 g2x0_27 v70 v77 H _ ls (show x0_49.toInt - v78.toInt < (n : Int) from by omega) (rgw Rv78 (by decide) (by decide)) Rg2x0_26 Av70 Av77 (show v78.toInt ≤ x0_49.toInt from by omega) (show LY y19 v77 v78.toInt x0_49.toInt from by exact ly_step I2_1 Ay19 hv66 (by omega) (by omega) hv77 (by omega)) hP hD hS (lv_sub hl [0, 5] rfl)
                · have gc68 : v54.toInt < (0 : Int) := lc_nge hv67 c68
                  have R79 : (-4095) ≤ v54.toInt ∧ v54.toInt ≤ (-1) := rf_ltX R64 (show 0 ≤ (0 : Int) ∧ (0 : Int) ≤ 0 from by decide) gc68 (by decide) (by decide)
                  refine lv_iconst (v := 1) hx hb d_X_putIn_137 (by decide) ?_
                  refine lv_goto (tgt := 142) hx hb d_X_putIn_138 (by decide) ?_
                  refine va_iast hx hb hK.1 hP hD hS 17 0 rfl rfl (vpb Rv66 (by decide) (by decide)) d_X_putIn_142 (fun H locs hP hD hS => ?_)
                  have hP : va_P D classes (wS50 cI cJ cZ cB p0 p1 p2 p3 p4 p5 p6 p7 p8 p9 p10 p11 p12 p13 p14 p15 p16 p17 p18 p19 p20 p21 p22 p23 p24 p25 x0_4 x0_5 x0_6 x0_7 x0_8 x0_12 x0_13 x0_14 x0_15 x0_16 x0_17 x0_18 x0_22 x0_23 x0_24 x0_25 g2x0_26 g2x0_27 x0_28 x0_29 x0_30 x0_31 x0_32 x0_36 x0_39 x0_40 x0_44 x0_49 x0_51 x0_53 x0_54 x0_55 x0_56 x0_57 x0_58 x0_59 x0_60 x0_61 x0_62 y1 y2 y3 y4 y5 y6 y7 y8 y9 y10 y11 y12 y13 y14 y15 y16 (upd g2y17 (v66).toNatClampNeg (1 : Int32)) g2y18 y19 y20 y21 y22 y23 y24 y25) H := hP
                  have hD : va_D A (wS50 cI cJ cZ cB p0 p1 p2 p3 p4 p5 p6 p7 p8 p9 p10 p11 p12 p13 p14 p15 p16 p17 p18 p19 p20 p21 p22 p23 p24 p25 x0_4 x0_5 x0_6 x0_7 x0_8 x0_12 x0_13 x0_14 x0_15 x0_16 x0_17 x0_18 x0_22 x0_23 x0_24 x0_25 g2x0_26 g2x0_27 x0_28 x0_29 x0_30 x0_31 x0_32 x0_36 x0_39 x0_40 x0_44 x0_49 x0_51 x0_53 x0_54 x0_55 x0_56 x0_57 x0_58 x0_59 x0_60 x0_61 x0_62 y1 y2 y3 y4 y5 y6 y7 y8 y9 y10 y11 y12 y13 y14 y15 y16 (upd g2y17 (v66).toNatClampNeg (1 : Int32)) g2y18 y19 y20 y21 y22 y23 y24 y25) := hD
                  obtain ⟨v80, hv80⟩ : ∃ y : Nat → Int32, y = (upd g2y17 (v66).toNatClampNeg (1 : Int32)) := ⟨_, rfl⟩
                  rw [← hv80] at hP hD
                  have Gv80 : (0 ≤ ((1 : Int32)).toInt ∧ ((1 : Int32)).toInt ≤ 1) := (by decide)
                  have Av80 : ∀ i : Nat, (0 ≤ (v80 i).toInt ∧ (v80 i).toInt ≤ 1) := by rw [hv80]; exact upd_all (P := fun i x => (0 ≤ (x).toInt ∧ (x).toInt ≤ 1)) Ag2y17 Gv80
                  clear hv80
                  have ly := ly_get I2_1 hv66 (by omega) (by omega) (by omega)
                  refine lv_aload_n hx hb d_X_putIn_143 rfl (lv_at hl 5 rfl) ?_
                  refine va_get (D := D) (ci := 7) (v := .ref p18) (C := "SignMachineModel") (T := F_X) (N := 64) hx hb hk fi_X hown hK.1 hP 0 rfl rfl 43 (by decide) (hk _ k_1164) (fun _ h9 => h9) rfl d_X_putIn_144 ?_
                  refine lv_iload hx hb d_X_putIn_147 (lv_at hl 0 rfl) ?_
                  refine lv_dup2_11 hx hb d_X_putIn_149 rfl rfl ?_
                  refine va_iald hx hb hK.1 hP 18 0 rfl rfl (vpb Rv66 (by decide) (by decide)) d_X_putIn_150 ?_
                  refine lv_topi (fun v81 hv81 => ?_)
                  have Tv81 : v81.toInt = (g2y18 (v66).toNatClampNeg).toInt := congrArg _ hv81
                  have Rv81 := Ag2y18 (v66).toNatClampNeg
                  rw [← hv81] at Rv81
                  refine lv_lload_n hx hb d_X_putIn_151 rfl (lv_at hl 2 rfl) ?_
                  refine lv_lconst (v := 0) hx hb d_X_putIn_152 (by decide) ?_
                  refine W.lcmp hx hb d_X_putIn_153 ?_
                  refine lv_topi (fun v82 hv82 => ?_)
                  refine lv_if_ge (tgt := 162) hx hb d_X_putIn_154 (by decide) (fun c83 => absurd c83 (show ¬ (0 : Int32) ≤ v82 from (lcr_nge hv82 (klt R79 (show 0 ≤ (0 : Int) ∧ (0 : Int) ≤ 0 from by decide) (by decide))))) (fun c83 => ?_)
                  refine lv_lload_n hx hb d_X_putIn_157 rfl (lv_at hl 2 rfl) ?_
                  refine lv_lneg hx hb d_X_putIn_158 ?_
                  refine lv_topl (fun v84 hv84 => ?_)
                  obtain ⟨ev84, Rv84⟩ : v84.toInt = -v54.toInt ∧ (1 ≤ v84.toInt ∧ v84.toInt ≤ 4095) := ng6 hv84 R79 (by decide) (by decide) (by decide) (by decide)
                  refine lv_goto (tgt := 163) hx hb d_X_putIn_159 (by decide) ?_
                  refine lv_l2i (v := (v84 : Int64).toInt32) hx hb d_X_putIn_163 rfl ?_
                  refine lv_topi (fun v85 hv85 => ?_)
                  obtain ⟨ev85, Rv85⟩ : v85.toInt = v84.toInt ∧ (1 ≤ v85.toInt ∧ v85.toInt ≤ 4095) := li3 hv85 Rv84 (by decide) (by decide)
                  refine lv_ldc (v := 262144) hx hb hown (hk _ k_1380) d_X_putIn_164 ?_
                  refine lv_imul hx hb d_X_putIn_166 ?_
                  refine lv_topi (fun v86 hv86 => ?_)
                  obtain ⟨ev86, Rv86⟩ : v86.toInt = v85.toInt * (262144 : Int) ∧ (262144 ≤ v86.toInt ∧ v86.toInt ≤ 1073479680) := ml3 hv86 Rv85 (show 262144 ≤ (262144 : Int32).toInt ∧ (262144 : Int32).toInt ≤ 262144 from by decide) (by decide) (by decide) (by decide) (by decide) (by decide) (by decide)
                  refine lv_iadd hx hb d_X_putIn_167 ?_
                  refine lv_topi (fun v87 hv87 => ?_)
                  obtain ⟨ev87, Rv87⟩ : v87.toInt = v81.toInt + v86.toInt ∧ (262144 ≤ v87.toInt ∧ v87.toInt ≤ 2147221503) := ad3 hv87 Rv81 Rv86 (by decide) (by decide) (by decide) (by decide)
                  refine va_iast hx hb hK.1 hP hD hS 18 0 rfl rfl (vpb Rv66 (by decide) (by decide)) d_X_putIn_168 (fun H locs hP hD hS => ?_)
                  have hP : va_P D classes (wS50 cI cJ cZ cB p0 p1 p2 p3 p4 p5 p6 p7 p8 p9 p10 p11 p12 p13 p14 p15 p16 p17 p18 p19 p20 p21 p22 p23 p24 p25 x0_4 x0_5 x0_6 x0_7 x0_8 x0_12 x0_13 x0_14 x0_15 x0_16 x0_17 x0_18 x0_22 x0_23 x0_24 x0_25 g2x0_26 g2x0_27 x0_28 x0_29 x0_30 x0_31 x0_32 x0_36 x0_39 x0_40 x0_44 x0_49 x0_51 x0_53 x0_54 x0_55 x0_56 x0_57 x0_58 x0_59 x0_60 x0_61 x0_62 y1 y2 y3 y4 y5 y6 y7 y8 y9 y10 y11 y12 y13 y14 y15 y16 v80 (upd g2y18 (v66).toNatClampNeg v87) y19 y20 y21 y22 y23 y24 y25) H := hP
                  have hD : va_D A (wS50 cI cJ cZ cB p0 p1 p2 p3 p4 p5 p6 p7 p8 p9 p10 p11 p12 p13 p14 p15 p16 p17 p18 p19 p20 p21 p22 p23 p24 p25 x0_4 x0_5 x0_6 x0_7 x0_8 x0_12 x0_13 x0_14 x0_15 x0_16 x0_17 x0_18 x0_22 x0_23 x0_24 x0_25 g2x0_26 g2x0_27 x0_28 x0_29 x0_30 x0_31 x0_32 x0_36 x0_39 x0_40 x0_44 x0_49 x0_51 x0_53 x0_54 x0_55 x0_56 x0_57 x0_58 x0_59 x0_60 x0_61 x0_62 y1 y2 y3 y4 y5 y6 y7 y8 y9 y10 y11 y12 y13 y14 y15 y16 v80 (upd g2y18 (v66).toNatClampNeg v87) y19 y20 y21 y22 y23 y24 y25) := hD
                  obtain ⟨v88, hv88⟩ : ∃ y : Nat → Int32, y = (upd g2y18 (v66).toNatClampNeg v87) := ⟨_, rfl⟩
                  rw [← hv88] at hP hD
                  have Gv88 : (0 ≤ (v87).toInt ∧ (v87).toInt ≤ 1073741823) := (by omega)
                  have Av88 : ∀ i : Nat, (0 ≤ (v88 i).toInt ∧ (v88 i).toInt ≤ 1073741823) := by rw [hv88]; exact upd_all (P := fun i x => (0 ≤ (x).toInt ∧ (x).toInt ≤ 1073741823)) Ag2y18 Gv88
                  obtain ⟨v89, hv89⟩ : ∃ y : Int32, y = (g2l1 + (1 : Int32)) := ⟨_, rfl⟩
                  obtain ⟨ev89, Rv89⟩ : v89.toInt = g2l1.toInt + 1 ∧ (1 ≤ v89.toInt ∧ v89.toInt ≤ 4100) := ad3 hv89 R2 (y := (1 : Int32)) (c := 1) (d := 1) (by decide) (by decide) (by decide) (by decide) (by decide)
                  refine lv_iinc (v := v89) (lv' := [(1, .int v89), (6, .int v66), (5, .int (0 : Int32)), (3, .long v54), (2, .int v4), (0, .ref p0)]) hx hb d_X_putIn_169 hl (k := 4) rfl (by rw [hv89]; rfl) (by decide) rfl (fun ls hl => ?_)
                  refine lv_goto (tgt := 2) hx hb d_X_putIn_172 (by decide) ?_
                  exact ih2 v89 g2x0_26 g2x0_27 v80 v88 H _ ls (show x0_49.toInt - v89.toInt < (n : Int) from by omega) (rgw Rv89 (by decide) (by decide)) Rg2x0_26 Av80 Av88 (show v89.toInt ≤ x0_49.toInt from by omega) (show LY y19 v88 v89.toInt x0_49.toInt from by exact ly_step I2_1 Ay19 hv66 (by omega) (by omega) hv88 (by omega)) hP hD hS (lv_sub hl [0, 5] rfl)
              · have gc63 : v54.toInt < (-4095 : Int) := lc_nge hv62 c63
                have R90 : (-1073741823) ≤ v54.toInt ∧ v54.toInt ≤ (-4096) := rf_ltX R61 (show (-4095) ≤ (-4095 : Int) ∧ (-4095 : Int) ≤ (-4095) from by decide) gc63 (by decide) (by decide)
                refine lv_iconst (v := 4) hx hb d_X_putIn_88 (by decide) ?_
                refine lv_goto (tgt := 93) hx hb d_X_putIn_89 (by decide) ?_
                refine lv_istore (lv' := [(5, .int (4 : Int32)), (3, .long v54), (2, .int v4), (1, .int g2l1), (0, .ref p0)]) hx hb d_X_putIn_93 hl (by decide) rfl (fun ls hl => ?_)
                refine lv_iload hx hb d_X_putIn_95 (lv_at hl 0 rfl) ?_
                refine lv_if_le (tgt := 117) hx hb d_X_putIn_97 (by decide) (fun c91 => absurd c91 (show ¬ (4 : Int32) ≤ (0 : Int32) from (by decide))) (fun c91 => ?_)
                refine lv_aload_n hx hb d_X_putIn_100 rfl (lv_at hl 4 rfl) ?_
                refine lv_iload hx hb d_X_putIn_101 (lv_at hl 0 rfl) ?_
                refine va_put (D := D) (ci := 7) (v := .int (4 : Int32)) (ty := .int) (C := "SignMachineModel") (T := F_X) (N := 64) hx hb hk fi_X ft_X ft_X_ok fn_X hown hK.1 hP hD hS 0 rfl rfl 26 (by decide) (hk _ k_1147) (fun _ h9 => h9) rfl (by decide +kernel) rfl rfl (Nat.le_of_ble_eq_true rfl) d_X_putIn_103 (fun H locs hP hD hS => ?_)
                have hP : va_P D classes (wS50 cI cJ cZ cB p0 p1 p2 p3 p4 p5 p6 p7 p8 p9 p10 p11 p12 p13 p14 p15 p16 p17 p18 p19 p20 p21 p22 p23 p24 p25 x0_4 x0_5 x0_6 x0_7 x0_8 x0_12 x0_13 x0_14 x0_15 x0_16 x0_17 x0_18 x0_22 x0_23 x0_24 x0_25 (4 : Int32) g2x0_27 x0_28 x0_29 x0_30 x0_31 x0_32 x0_36 x0_39 x0_40 x0_44 x0_49 x0_51 x0_53 x0_54 x0_55 x0_56 x0_57 x0_58 x0_59 x0_60 x0_61 x0_62 y1 y2 y3 y4 y5 y6 y7 y8 y9 y10 y11 y12 y13 y14 y15 y16 g2y17 g2y18 y19 y20 y21 y22 y23 y24 y25) H := hP
                have hD : va_D A (wS50 cI cJ cZ cB p0 p1 p2 p3 p4 p5 p6 p7 p8 p9 p10 p11 p12 p13 p14 p15 p16 p17 p18 p19 p20 p21 p22 p23 p24 p25 x0_4 x0_5 x0_6 x0_7 x0_8 x0_12 x0_13 x0_14 x0_15 x0_16 x0_17 x0_18 x0_22 x0_23 x0_24 x0_25 (4 : Int32) g2x0_27 x0_28 x0_29 x0_30 x0_31 x0_32 x0_36 x0_39 x0_40 x0_44 x0_49 x0_51 x0_53 x0_54 x0_55 x0_56 x0_57 x0_58 x0_59 x0_60 x0_61 x0_62 y1 y2 y3 y4 y5 y6 y7 y8 y9 y10 y11 y12 y13 y14 y15 y16 g2y17 g2y18 y19 y20 y21 y22 y23 y24 y25) := hD
                refine lv_aload_n hx hb d_X_putIn_106 rfl (lv_at hl 4 rfl) ?_
                refine lv_aload_n hx hb d_X_putIn_107 rfl (lv_at hl 4 rfl) ?_
                refine va_get (D := D) (ci := 7) (v := .ref p20) (C := "SignMachineModel") (T := F_X) (N := 64) hx hb hk fi_X hown hK.1 hP 0 rfl rfl 46 (by decide) (hk _ k_1167) (fun _ h9 => h9) rfl d_X_putIn_108 ?_
                refine lv_iload_n hx hb d_X_putIn_111 rfl (lv_at hl 3 rfl) ?_
                refine va_iald hx hb hK.1 hP 20 0 rfl rfl (vpb R2 (by decide) (by decide)) d_X_putIn_112 ?_
                refine lv_topi (fun v92 hv92 => ?_)
                refine va_put (D := D) (ci := 7) (v := .int v92) (ty := .int) (C := "SignMachineModel") (T := F_X) (N := 64) hx hb hk fi_X ft_X ft_X_ok fn_X hown hK.1 hP hD hS 0 rfl rfl 27 (by decide) (hk _ k_1148) (fun _ h9 => h9) rfl (by decide +kernel) rfl rfl (Nat.le_of_ble_eq_true rfl) d_X_putIn_113 (fun H locs hP hD hS => ?_)
                have hP : va_P D classes (wS50 cI cJ cZ cB p0 p1 p2 p3 p4 p5 p6 p7 p8 p9 p10 p11 p12 p13 p14 p15 p16 p17 p18 p19 p20 p21 p22 p23 p24 p25 x0_4 x0_5 x0_6 x0_7 x0_8 x0_12 x0_13 x0_14 x0_15 x0_16 x0_17 x0_18 x0_22 x0_23 x0_24 x0_25 (4 : Int32) v92 x0_28 x0_29 x0_30 x0_31 x0_32 x0_36 x0_39 x0_40 x0_44 x0_49 x0_51 x0_53 x0_54 x0_55 x0_56 x0_57 x0_58 x0_59 x0_60 x0_61 x0_62 y1 y2 y3 y4 y5 y6 y7 y8 y9 y10 y11 y12 y13 y14 y15 y16 g2y17 g2y18 y19 y20 y21 y22 y23 y24 y25) H := hP
                have hD : va_D A (wS50 cI cJ cZ cB p0 p1 p2 p3 p4 p5 p6 p7 p8 p9 p10 p11 p12 p13 p14 p15 p16 p17 p18 p19 p20 p21 p22 p23 p24 p25 x0_4 x0_5 x0_6 x0_7 x0_8 x0_12 x0_13 x0_14 x0_15 x0_16 x0_17 x0_18 x0_22 x0_23 x0_24 x0_25 (4 : Int32) v92 x0_28 x0_29 x0_30 x0_31 x0_32 x0_36 x0_39 x0_40 x0_44 x0_49 x0_51 x0_53 x0_54 x0_55 x0_56 x0_57 x0_58 x0_59 x0_60 x0_61 x0_62 y1 y2 y3 y4 y5 y6 y7 y8 y9 y10 y11 y12 y13 y14 y15 y16 g2y17 g2y18 y19 y20 y21 y22 y23 y24 y25) := hD
                exact W.vret hx hb hr (fun t ht hW => ⟨⟨(), rfl, trivial, ⟨(4 : Int32), v92, g2y17, g2y18, (by decide), Ag2y17, Ag2y18, by show va_P D classes _ t.heap; rw [ht]; exact hP, hD⟩⟩, hS.F ht⟩) hS.2.2 d_X_putIn_116
        · have gc5 : (100 : Int) ≤ v4.toInt := c_nlt c5
          have R93 : 100 ≤ v4.toInt ∧ v4.toInt ≤ 139 := rf_geX Rv4 (show 100 ≤ (100 : Int) ∧ (100 : Int) ≤ 100 from by decide) gc5 (by decide) (by decide)
          refine lv_aload_n hx hb d_X_putIn_23 rfl (lv_at hl 2 rfl) ?_
          refine va_get (D := D) (ci := 7) (v := .ref p24) (C := "SignMachineModel") (T := F_X) (N := 64) hx hb hk fi_X hown hK.1 hP 0 rfl rfl 52 (by decide) (hk _ k_1173) (fun _ h9 => h9) rfl d_X_putIn_24 ?_
          refine lv_iload_n hx hb d_X_putIn_27 rfl (lv_at hl 0 rfl) ?_
          refine lv_bipush (v := 100) hx hb d_X_putIn_28 (by decide) ?_
          refine lv_isub hx hb d_X_putIn_30 ?_
          refine lv_topi (fun v94 hv94 => ?_)
          obtain ⟨ev94, Rv94⟩ : v94.toInt = v4.toInt - (100 : Int) ∧ (0 ≤ v94.toInt ∧ v94.toInt ≤ 39) := sb3 hv94 R93 (show 100 ≤ (100 : Int32).toInt ∧ (100 : Int32).toInt ≤ 100 from by decide) (by decide) (by decide) (by decide) (by decide)
          refine va_lald hx hb hK.1 hP 24 1 rfl rfl (vpb Rv94 (by decide) (by decide)) d_X_putIn_31 ?_
          refine lv_topl (fun v95 hv95 => ?_)
          have Rv95 := Ay24 (v94).toNatClampNeg
          rw [← hv95] at Rv95
          refine lv_goto (tgt := 54) hx hb d_X_putIn_32 (by decide) ?_
          refine lv_lstore_n (lv' := [(3, .long v95), (2, .int v4), (1, .int g2l1), (0, .ref p0)]) hx hb d_X_putIn_54 rfl hl (by decide) rfl (fun ls hl => ?_)
          refine lv_iload_n hx hb d_X_putIn_55 rfl (lv_at hl 1 rfl) ?_
          refine lv_if_ge (tgt := 72) hx hb d_X_putIn_56 (by decide) (fun c96 => ?_) (fun c96 => absurd (show (0 : Int32) ≤ v4 from (Int32.le_iff_toInt_le.mpr (kle (show 0 ≤ (0 : Int) ∧ (0 : Int) ≤ 0 from by decide) R93 (by decide)))) c96)
          refine lv_lload_n hx hb d_X_putIn_72 rfl (lv_at hl 0 rfl) ?_
          refine lv_ldc2 (v := 4095) hx hb hown (hk _ k_1347) d_X_putIn_73 ?_
          refine W.lcmp hx hb d_X_putIn_76 ?_
          refine lv_topi (fun v97 hv97 => ?_)
          refine lv_if_gt (tgt := 88) hx hb d_X_putIn_77 (by decide) (fun c98 => ?_) (fun c98 => ?_)
          · have gc98 : (4095 : Int) < v95.toInt := lc_gt hv97 c98
            have R99 : 4096 ≤ v95.toInt ∧ v95.toInt ≤ 1073741823 := rf_gtX Rv95 (show 4095 ≤ (4095 : Int) ∧ (4095 : Int) ≤ 4095 from by decide) gc98 (by decide) (by decide)
            refine lv_iconst (v := 4) hx hb d_X_putIn_88 (by decide) ?_
            refine lv_goto (tgt := 93) hx hb d_X_putIn_89 (by decide) ?_
            refine lv_istore (lv' := [(5, .int (4 : Int32)), (3, .long v95), (2, .int v4), (1, .int g2l1), (0, .ref p0)]) hx hb d_X_putIn_93 hl (by decide) rfl (fun ls hl => ?_)
            refine lv_iload hx hb d_X_putIn_95 (lv_at hl 0 rfl) ?_
            refine lv_if_le (tgt := 117) hx hb d_X_putIn_97 (by decide) (fun c100 => absurd c100 (show ¬ (4 : Int32) ≤ (0 : Int32) from (by decide))) (fun c100 => ?_)
            refine lv_aload_n hx hb d_X_putIn_100 rfl (lv_at hl 4 rfl) ?_
            refine lv_iload hx hb d_X_putIn_101 (lv_at hl 0 rfl) ?_
            refine va_put (D := D) (ci := 7) (v := .int (4 : Int32)) (ty := .int) (C := "SignMachineModel") (T := F_X) (N := 64) hx hb hk fi_X ft_X ft_X_ok fn_X hown hK.1 hP hD hS 0 rfl rfl 26 (by decide) (hk _ k_1147) (fun _ h9 => h9) rfl (by decide +kernel) rfl rfl (Nat.le_of_ble_eq_true rfl) d_X_putIn_103 (fun H locs hP hD hS => ?_)
            have hP : va_P D classes (wS50 cI cJ cZ cB p0 p1 p2 p3 p4 p5 p6 p7 p8 p9 p10 p11 p12 p13 p14 p15 p16 p17 p18 p19 p20 p21 p22 p23 p24 p25 x0_4 x0_5 x0_6 x0_7 x0_8 x0_12 x0_13 x0_14 x0_15 x0_16 x0_17 x0_18 x0_22 x0_23 x0_24 x0_25 (4 : Int32) g2x0_27 x0_28 x0_29 x0_30 x0_31 x0_32 x0_36 x0_39 x0_40 x0_44 x0_49 x0_51 x0_53 x0_54 x0_55 x0_56 x0_57 x0_58 x0_59 x0_60 x0_61 x0_62 y1 y2 y3 y4 y5 y6 y7 y8 y9 y10 y11 y12 y13 y14 y15 y16 g2y17 g2y18 y19 y20 y21 y22 y23 y24 y25) H := hP
            have hD : va_D A (wS50 cI cJ cZ cB p0 p1 p2 p3 p4 p5 p6 p7 p8 p9 p10 p11 p12 p13 p14 p15 p16 p17 p18 p19 p20 p21 p22 p23 p24 p25 x0_4 x0_5 x0_6 x0_7 x0_8 x0_12 x0_13 x0_14 x0_15 x0_16 x0_17 x0_18 x0_22 x0_23 x0_24 x0_25 (4 : Int32) g2x0_27 x0_28 x0_29 x0_30 x0_31 x0_32 x0_36 x0_39 x0_40 x0_44 x0_49 x0_51 x0_53 x0_54 x0_55 x0_56 x0_57 x0_58 x0_59 x0_60 x0_61 x0_62 y1 y2 y3 y4 y5 y6 y7 y8 y9 y10 y11 y12 y13 y14 y15 y16 g2y17 g2y18 y19 y20 y21 y22 y23 y24 y25) := hD
            refine lv_aload_n hx hb d_X_putIn_106 rfl (lv_at hl 4 rfl) ?_
            refine lv_aload_n hx hb d_X_putIn_107 rfl (lv_at hl 4 rfl) ?_
            refine va_get (D := D) (ci := 7) (v := .ref p20) (C := "SignMachineModel") (T := F_X) (N := 64) hx hb hk fi_X hown hK.1 hP 0 rfl rfl 46 (by decide) (hk _ k_1167) (fun _ h9 => h9) rfl d_X_putIn_108 ?_
            refine lv_iload_n hx hb d_X_putIn_111 rfl (lv_at hl 3 rfl) ?_
            refine va_iald hx hb hK.1 hP 20 0 rfl rfl (vpb R2 (by decide) (by decide)) d_X_putIn_112 ?_
            refine lv_topi (fun v101 hv101 => ?_)
            refine va_put (D := D) (ci := 7) (v := .int v101) (ty := .int) (C := "SignMachineModel") (T := F_X) (N := 64) hx hb hk fi_X ft_X ft_X_ok fn_X hown hK.1 hP hD hS 0 rfl rfl 27 (by decide) (hk _ k_1148) (fun _ h9 => h9) rfl (by decide +kernel) rfl rfl (Nat.le_of_ble_eq_true rfl) d_X_putIn_113 (fun H locs hP hD hS => ?_)
            have hP : va_P D classes (wS50 cI cJ cZ cB p0 p1 p2 p3 p4 p5 p6 p7 p8 p9 p10 p11 p12 p13 p14 p15 p16 p17 p18 p19 p20 p21 p22 p23 p24 p25 x0_4 x0_5 x0_6 x0_7 x0_8 x0_12 x0_13 x0_14 x0_15 x0_16 x0_17 x0_18 x0_22 x0_23 x0_24 x0_25 (4 : Int32) v101 x0_28 x0_29 x0_30 x0_31 x0_32 x0_36 x0_39 x0_40 x0_44 x0_49 x0_51 x0_53 x0_54 x0_55 x0_56 x0_57 x0_58 x0_59 x0_60 x0_61 x0_62 y1 y2 y3 y4 y5 y6 y7 y8 y9 y10 y11 y12 y13 y14 y15 y16 g2y17 g2y18 y19 y20 y21 y22 y23 y24 y25) H := hP
            have hD : va_D A (wS50 cI cJ cZ cB p0 p1 p2 p3 p4 p5 p6 p7 p8 p9 p10 p11 p12 p13 p14 p15 p16 p17 p18 p19 p20 p21 p22 p23 p24 p25 x0_4 x0_5 x0_6 x0_7 x0_8 x0_12 x0_13 x0_14 x0_15 x0_16 x0_17 x0_18 x0_22 x0_23 x0_24 x0_25 (4 : Int32) v101 x0_28 x0_29 x0_30 x0_31 x0_32 x0_36 x0_39 x0_40 x0_44 x0_49 x0_51 x0_53 x0_54 x0_55 x0_56 x0_57 x0_58 x0_59 x0_60 x0_61 x0_62 y1 y2 y3 y4 y5 y6 y7 y8 y9 y10 y11 y12 y13 y14 y15 y16 g2y17 g2y18 y19 y20 y21 y22 y23 y24 y25) := hD
            exact W.vret hx hb hr (fun t ht hW => ⟨⟨(), rfl, trivial, ⟨(4 : Int32), v101, g2y17, g2y18, (by decide), Ag2y17, Ag2y18, by show va_P D classes _ t.heap; rw [ht]; exact hP, hD⟩⟩, hS.F ht⟩) hS.2.2 d_X_putIn_116
          · have gc98 : v95.toInt ≤ (4095 : Int) := lc_ngt hv97 c98
            have R102 : (-1073741824) ≤ v95.toInt ∧ v95.toInt ≤ 4095 := rf_leX Rv95 (show 4095 ≤ (4095 : Int) ∧ (4095 : Int) ≤ 4095 from by decide) gc98 (by decide) (by decide)
            refine lv_lload_n hx hb d_X_putIn_80 rfl (lv_at hl 0 rfl) ?_
            refine lv_ldc2 (v := (-4095)) hx hb hown (hk _ k_1418) d_X_putIn_81 ?_
            refine W.lcmp hx hb d_X_putIn_84 ?_
            refine lv_topi (fun v103 hv103 => ?_)
            refine lv_if_ge (tgt := 92) hx hb d_X_putIn_85 (by decide) (fun c104 => ?_) (fun c104 => ?_)
            · have gc104 : (-4095 : Int) ≤ v95.toInt := lc_ge hv103 c104
              have R105 : (-4095) ≤ v95.toInt ∧ v95.toInt ≤ 4095 := rf_geX R102 (show (-4095) ≤ (-4095 : Int) ∧ (-4095 : Int) ≤ (-4095) from by decide) gc104 (by decide) (by decide)
              refine lv_iconst (v := 0) hx hb d_X_putIn_92 (by decide) ?_
              refine lv_istore (lv' := [(5, .int (0 : Int32)), (3, .long v95), (2, .int v4), (1, .int g2l1), (0, .ref p0)]) hx hb d_X_putIn_93 hl (by decide) rfl (fun ls hl => ?_)
              refine lv_iload hx hb d_X_putIn_95 (lv_at hl 0 rfl) ?_
              refine lv_if_le (tgt := 117) hx hb d_X_putIn_97 (by decide) (fun c106 => ?_) (fun c106 => absurd (show (0 : Int32) ≤ (0 : Int32) from (by decide)) c106)
              refine lv_aload_n hx hb d_X_putIn_117 rfl (lv_at hl 4 rfl) ?_
              refine va_get (D := D) (ci := 7) (v := .ref p19) (C := "SignMachineModel") (T := F_X) (N := 64) hx hb hk fi_X hown hK.1 hP 0 rfl rfl 45 (by decide) (hk _ k_1166) (fun _ h9 => h9) rfl d_X_putIn_118 ?_
              refine lv_iload_n hx hb d_X_putIn_121 rfl (lv_at hl 3 rfl) ?_
              refine va_iald hx hb hK.1 hP 19 0 rfl rfl (vpb R2 (by decide) (by decide)) d_X_putIn_122 ?_
              refine lv_topi (fun v107 hv107 => ?_)
              have Rv107 := Ay19 (g2l1).toNatClampNeg
              rw [← hv107] at Rv107
              refine lv_istore (lv' := [(6, .int v107), (5, .int (0 : Int32)), (3, .long v95), (2, .int v4), (1, .int g2l1), (0, .ref p0)]) hx hb d_X_putIn_123 hl (by decide) rfl (fun ls hl => ?_)
              refine lv_aload_n hx hb d_X_putIn_125 rfl (lv_at hl 5 rfl) ?_
              refine va_get (D := D) (ci := 7) (v := .ref p17) (C := "SignMachineModel") (T := F_X) (N := 64) hx hb hk fi_X hown hK.1 hP 0 rfl rfl 42 (by decide) (hk _ k_1163) (fun _ h9 => h9) rfl d_X_putIn_126 ?_
              refine lv_iload hx hb d_X_putIn_129 (lv_at hl 0 rfl) ?_
              refine lv_lload_n hx hb d_X_putIn_131 rfl (lv_at hl 2 rfl) ?_
              refine lv_lconst (v := 0) hx hb d_X_putIn_132 (by decide) ?_
              refine W.lcmp hx hb d_X_putIn_133 ?_
              refine lv_topi (fun v108 hv108 => ?_)
              refine lv_if_ge (tgt := 141) hx hb d_X_putIn_134 (by decide) (fun c109 => ?_) (fun c109 => ?_)
              · have gc109 : (0 : Int) ≤ v95.toInt := lc_ge hv108 c109
                have R110 : 0 ≤ v95.toInt ∧ v95.toInt ≤ 4095 := rf_geX R105 (show 0 ≤ (0 : Int) ∧ (0 : Int) ≤ 0 from by decide) gc109 (by decide) (by decide)
                refine lv_iconst (v := 0) hx hb d_X_putIn_141 (by decide) ?_
                refine va_iast hx hb hK.1 hP hD hS 17 0 rfl rfl (vpb Rv107 (by decide) (by decide)) d_X_putIn_142 (fun H locs hP hD hS => ?_)
                have hP : va_P D classes (wS50 cI cJ cZ cB p0 p1 p2 p3 p4 p5 p6 p7 p8 p9 p10 p11 p12 p13 p14 p15 p16 p17 p18 p19 p20 p21 p22 p23 p24 p25 x0_4 x0_5 x0_6 x0_7 x0_8 x0_12 x0_13 x0_14 x0_15 x0_16 x0_17 x0_18 x0_22 x0_23 x0_24 x0_25 g2x0_26 g2x0_27 x0_28 x0_29 x0_30 x0_31 x0_32 x0_36 x0_39 x0_40 x0_44 x0_49 x0_51 x0_53 x0_54 x0_55 x0_56 x0_57 x0_58 x0_59 x0_60 x0_61 x0_62 y1 y2 y3 y4 y5 y6 y7 y8 y9 y10 y11 y12 y13 y14 y15 y16 (upd g2y17 (v107).toNatClampNeg (0 : Int32)) g2y18 y19 y20 y21 y22 y23 y24 y25) H := hP
                have hD : va_D A (wS50 cI cJ cZ cB p0 p1 p2 p3 p4 p5 p6 p7 p8 p9 p10 p11 p12 p13 p14 p15 p16 p17 p18 p19 p20 p21 p22 p23 p24 p25 x0_4 x0_5 x0_6 x0_7 x0_8 x0_12 x0_13 x0_14 x0_15 x0_16 x0_17 x0_18 x0_22 x0_23 x0_24 x0_25 g2x0_26 g2x0_27 x0_28 x0_29 x0_30 x0_31 x0_32 x0_36 x0_39 x0_40 x0_44 x0_49 x0_51 x0_53 x0_54 x0_55 x0_56 x0_57 x0_58 x0_59 x0_60 x0_61 x0_62 y1 y2 y3 y4 y5 y6 y7 y8 y9 y10 y11 y12 y13 y14 y15 y16 (upd g2y17 (v107).toNatClampNeg (0 : Int32)) g2y18 y19 y20 y21 y22 y23 y24 y25) := hD
                obtain ⟨v111, hv111⟩ : ∃ y : Nat → Int32, y = (upd g2y17 (v107).toNatClampNeg (0 : Int32)) := ⟨_, rfl⟩
                rw [← hv111] at hP hD
                have Gv111 : (0 ≤ ((0 : Int32)).toInt ∧ ((0 : Int32)).toInt ≤ 1) := (by decide)
                have Av111 : ∀ i : Nat, (0 ≤ (v111 i).toInt ∧ (v111 i).toInt ≤ 1) := by rw [hv111]; exact upd_all (P := fun i x => (0 ≤ (x).toInt ∧ (x).toInt ≤ 1)) Ag2y17 Gv111
                clear hv111
                have ly := ly_get I2_1 hv107 (by omega) (by omega) (by omega)
                refine lv_aload_n hx hb d_X_putIn_143 rfl (lv_at hl 5 rfl) ?_
                refine va_get (D := D) (ci := 7) (v := .ref p18) (C := "SignMachineModel") (T := F_X) (N := 64) hx hb hk fi_X hown hK.1 hP 0 rfl rfl 43 (by decide) (hk _ k_1164) (fun _ h9 => h9) rfl d_X_putIn_144 ?_
                refine lv_iload hx hb d_X_putIn_147 (lv_at hl 0 rfl) ?_
                refine lv_dup2_11 hx hb d_X_putIn_149 rfl rfl ?_
                refine va_iald hx hb hK.1 hP 18 0 rfl rfl (vpb Rv107 (by decide) (by decide)) d_X_putIn_150 ?_
                refine lv_topi (fun v112 hv112 => ?_)
                have Tv112 : v112.toInt = (g2y18 (v107).toNatClampNeg).toInt := congrArg _ hv112
                have Rv112 := Ag2y18 (v107).toNatClampNeg
                rw [← hv112] at Rv112
                refine lv_lload_n hx hb d_X_putIn_151 rfl (lv_at hl 2 rfl) ?_
                refine lv_lconst (v := 0) hx hb d_X_putIn_152 (by decide) ?_
                refine W.lcmp hx hb d_X_putIn_153 ?_
                refine lv_topi (fun v113 hv113 => ?_)
                refine lv_if_ge (tgt := 162) hx hb d_X_putIn_154 (by decide) (fun c114 => ?_) (fun c114 => absurd (show (0 : Int32) ≤ v113 from (lcr_ge hv113 (kle (show 0 ≤ (0 : Int) ∧ (0 : Int) ≤ 0 from by decide) R110 (by decide)))) c114)
                refine lv_lload_n hx hb d_X_putIn_162 rfl (lv_at hl 2 rfl) ?_
                refine lv_l2i (v := (v95 : Int64).toInt32) hx hb d_X_putIn_163 rfl ?_
                refine lv_topi (fun v115 hv115 => ?_)
                obtain ⟨ev115, Rv115⟩ : v115.toInt = v95.toInt ∧ (0 ≤ v115.toInt ∧ v115.toInt ≤ 4095) := li3 hv115 R110 (by decide) (by decide)
                refine lv_ldc (v := 262144) hx hb hown (hk _ k_1380) d_X_putIn_164 ?_
                refine lv_imul hx hb d_X_putIn_166 ?_
                refine lv_topi (fun v116 hv116 => ?_)
                obtain ⟨ev116, Rv116⟩ : v116.toInt = v115.toInt * (262144 : Int) ∧ (0 ≤ v116.toInt ∧ v116.toInt ≤ 1073479680) := ml3 hv116 Rv115 (show 262144 ≤ (262144 : Int32).toInt ∧ (262144 : Int32).toInt ≤ 262144 from by decide) (by decide) (by decide) (by decide) (by decide) (by decide) (by decide)
                refine lv_iadd hx hb d_X_putIn_167 ?_
                refine lv_topi (fun v117 hv117 => ?_)
                obtain ⟨ev117, Rv117⟩ : v117.toInt = v112.toInt + v116.toInt ∧ (0 ≤ v117.toInt ∧ v117.toInt ≤ 2147221503) := ad3 hv117 Rv112 Rv116 (by decide) (by decide) (by decide) (by decide)
                refine va_iast hx hb hK.1 hP hD hS 18 0 rfl rfl (vpb Rv107 (by decide) (by decide)) d_X_putIn_168 (fun H locs hP hD hS => ?_)
                have hP : va_P D classes (wS50 cI cJ cZ cB p0 p1 p2 p3 p4 p5 p6 p7 p8 p9 p10 p11 p12 p13 p14 p15 p16 p17 p18 p19 p20 p21 p22 p23 p24 p25 x0_4 x0_5 x0_6 x0_7 x0_8 x0_12 x0_13 x0_14 x0_15 x0_16 x0_17 x0_18 x0_22 x0_23 x0_24 x0_25 g2x0_26 g2x0_27 x0_28 x0_29 x0_30 x0_31 x0_32 x0_36 x0_39 x0_40 x0_44 x0_49 x0_51 x0_53 x0_54 x0_55 x0_56 x0_57 x0_58 x0_59 x0_60 x0_61 x0_62 y1 y2 y3 y4 y5 y6 y7 y8 y9 y10 y11 y12 y13 y14 y15 y16 v111 (upd g2y18 (v107).toNatClampNeg v117) y19 y20 y21 y22 y23 y24 y25) H := hP
                have hD : va_D A (wS50 cI cJ cZ cB p0 p1 p2 p3 p4 p5 p6 p7 p8 p9 p10 p11 p12 p13 p14 p15 p16 p17 p18 p19 p20 p21 p22 p23 p24 p25 x0_4 x0_5 x0_6 x0_7 x0_8 x0_12 x0_13 x0_14 x0_15 x0_16 x0_17 x0_18 x0_22 x0_23 x0_24 x0_25 g2x0_26 g2x0_27 x0_28 x0_29 x0_30 x0_31 x0_32 x0_36 x0_39 x0_40 x0_44 x0_49 x0_51 x0_53 x0_54 x0_55 x0_56 x0_57 x0_58 x0_59 x0_60 x0_61 x0_62 y1 y2 y3 y4 y5 y6 y7 y8 y9 y10 y11 y12 y13 y14 y15 y16 v111 (upd g2y18 (v107).toNatClampNeg v117) y19 y20 y21 y22 y23 y24 y25) := hD
                obtain ⟨v118, hv118⟩ : ∃ y : Nat → Int32, y = (upd g2y18 (v107).toNatClampNeg v117) := ⟨_, rfl⟩
                rw [← hv118] at hP hD
                have Gv118 : (0 ≤ (v117).toInt ∧ (v117).toInt ≤ 1073741823) := (by omega)
                have Av118 : ∀ i : Nat, (0 ≤ (v118 i).toInt ∧ (v118 i).toInt ≤ 1073741823) := by rw [hv118]; exact upd_all (P := fun i x => (0 ≤ (x).toInt ∧ (x).toInt ≤ 1073741823)) Ag2y18 Gv118
                obtain ⟨v119, hv119⟩ : ∃ y : Int32, y = (g2l1 + (1 : Int32)) := ⟨_, rfl⟩
                obtain ⟨ev119, Rv119⟩ : v119.toInt = g2l1.toInt + 1 ∧ (1 ≤ v119.toInt ∧ v119.toInt ≤ 4100) := ad3 hv119 R2 (y := (1 : Int32)) (c := 1) (d := 1) (by decide) (by decide) (by decide) (by decide) (by decide)
                refine lv_iinc (v := v119) (lv' := [(1, .int v119), (6, .int v107), (5, .int (0 : Int32)), (3, .long v95), (2, .int v4), (0, .ref p0)]) hx hb d_X_putIn_169 hl (k := 4) rfl (by rw [hv119]; rfl) (by decide) rfl (fun ls hl => ?_)
                refine lv_goto (tgt := 2) hx hb d_X_putIn_172 (by decide) ?_
                exact ih2 v119 g2x0_26 g2x0_27 v111 v118 H _ ls (show x0_49.toInt - v119.toInt < (n : Int) from by omega) (rgw Rv119 (by decide) (by decide)) Rg2x0_26 Av111 Av118 (show v119.toInt ≤ x0_49.toInt from by omega) (show LY y19 v118 v119.toInt x0_49.toInt from by exact ly_step I2_1 Ay19 hv107 (by omega) (by omega) hv118 (by omega)) hP hD hS (lv_sub hl [0, 5] rfl)
              · have gc109 : v95.toInt < (0 : Int) := lc_nge hv108 c109
                have R120 : (-4095) ≤ v95.toInt ∧ v95.toInt ≤ (-1) := rf_ltX R105 (show 0 ≤ (0 : Int) ∧ (0 : Int) ≤ 0 from by decide) gc109 (by decide) (by decide)
                refine lv_iconst (v := 1) hx hb d_X_putIn_137 (by decide) ?_
                refine lv_goto (tgt := 142) hx hb d_X_putIn_138 (by decide) ?_
                refine va_iast hx hb hK.1 hP hD hS 17 0 rfl rfl (vpb Rv107 (by decide) (by decide)) d_X_putIn_142 (fun H locs hP hD hS => ?_)
                have hP : va_P D classes (wS50 cI cJ cZ cB p0 p1 p2 p3 p4 p5 p6 p7 p8 p9 p10 p11 p12 p13 p14 p15 p16 p17 p18 p19 p20 p21 p22 p23 p24 p25 x0_4 x0_5 x0_6 x0_7 x0_8 x0_12 x0_13 x0_14 x0_15 x0_16 x0_17 x0_18 x0_22 x0_23 x0_24 x0_25 g2x0_26 g2x0_27 x0_28 x0_29 x0_30 x0_31 x0_32 x0_36 x0_39 x0_40 x0_44 x0_49 x0_51 x0_53 x0_54 x0_55 x0_56 x0_57 x0_58 x0_59 x0_60 x0_61 x0_62 y1 y2 y3 y4 y5 y6 y7 y8 y9 y10 y11 y12 y13 y14 y15 y16 (upd g2y17 (v107).toNatClampNeg (1 : Int32)) g2y18 y19 y20 y21 y22 y23 y24 y25) H := hP
                have hD : va_D A (wS50 cI cJ cZ cB p0 p1 p2 p3 p4 p5 p6 p7 p8 p9 p10 p11 p12 p13 p14 p15 p16 p17 p18 p19 p20 p21 p22 p23 p24 p25 x0_4 x0_5 x0_6 x0_7 x0_8 x0_12 x0_13 x0_14 x0_15 x0_16 x0_17 x0_18 x0_22 x0_23 x0_24 x0_25 g2x0_26 g2x0_27 x0_28 x0_29 x0_30 x0_31 x0_32 x0_36 x0_39 x0_40 x0_44 x0_49 x0_51 x0_53 x0_54 x0_55 x0_56 x0_57 x0_58 x0_59 x0_60 x0_61 x0_62 y1 y2 y3 y4 y5 y6 y7 y8 y9 y10 y11 y12 y13 y14 y15 y16 (upd g2y17 (v107).toNatClampNeg (1 : Int32)) g2y18 y19 y20 y21 y22 y23 y24 y25) := hD
                obtain ⟨v121, hv121⟩ : ∃ y : Nat → Int32, y = (upd g2y17 (v107).toNatClampNeg (1 : Int32)) := ⟨_, rfl⟩
                rw [← hv121] at hP hD
                have Gv121 : (0 ≤ ((1 : Int32)).toInt ∧ ((1 : Int32)).toInt ≤ 1) := (by decide)
                have Av121 : ∀ i : Nat, (0 ≤ (v121 i).toInt ∧ (v121 i).toInt ≤ 1) := by rw [hv121]; exact upd_all (P := fun i x => (0 ≤ (x).toInt ∧ (x).toInt ≤ 1)) Ag2y17 Gv121
                clear hv121
                have ly := ly_get I2_1 hv107 (by omega) (by omega) (by omega)
                refine lv_aload_n hx hb d_X_putIn_143 rfl (lv_at hl 5 rfl) ?_
                refine va_get (D := D) (ci := 7) (v := .ref p18) (C := "SignMachineModel") (T := F_X) (N := 64) hx hb hk fi_X hown hK.1 hP 0 rfl rfl 43 (by decide) (hk _ k_1164) (fun _ h9 => h9) rfl d_X_putIn_144 ?_
                refine lv_iload hx hb d_X_putIn_147 (lv_at hl 0 rfl) ?_
                refine lv_dup2_11 hx hb d_X_putIn_149 rfl rfl ?_
                refine va_iald hx hb hK.1 hP 18 0 rfl rfl (vpb Rv107 (by decide) (by decide)) d_X_putIn_150 ?_
                refine lv_topi (fun v122 hv122 => ?_)
                have Tv122 : v122.toInt = (g2y18 (v107).toNatClampNeg).toInt := congrArg _ hv122
                have Rv122 := Ag2y18 (v107).toNatClampNeg
                rw [← hv122] at Rv122
                refine lv_lload_n hx hb d_X_putIn_151 rfl (lv_at hl 2 rfl) ?_
                refine lv_lconst (v := 0) hx hb d_X_putIn_152 (by decide) ?_
                refine W.lcmp hx hb d_X_putIn_153 ?_
                refine lv_topi (fun v123 hv123 => ?_)
                refine lv_if_ge (tgt := 162) hx hb d_X_putIn_154 (by decide) (fun c124 => absurd c124 (show ¬ (0 : Int32) ≤ v123 from (lcr_nge hv123 (klt R120 (show 0 ≤ (0 : Int) ∧ (0 : Int) ≤ 0 from by decide) (by decide))))) (fun c124 => ?_)
                refine lv_lload_n hx hb d_X_putIn_157 rfl (lv_at hl 2 rfl) ?_
                refine lv_lneg hx hb d_X_putIn_158 ?_
                refine lv_topl (fun v125 hv125 => ?_)
                obtain ⟨ev125, Rv125⟩ : v125.toInt = -v95.toInt ∧ (1 ≤ v125.toInt ∧ v125.toInt ≤ 4095) := ng6 hv125 R120 (by decide) (by decide) (by decide) (by decide)
                refine lv_goto (tgt := 163) hx hb d_X_putIn_159 (by decide) ?_
                refine lv_l2i (v := (v125 : Int64).toInt32) hx hb d_X_putIn_163 rfl ?_
                refine lv_topi (fun v126 hv126 => ?_)
                obtain ⟨ev126, Rv126⟩ : v126.toInt = v125.toInt ∧ (1 ≤ v126.toInt ∧ v126.toInt ≤ 4095) := li3 hv126 Rv125 (by decide) (by decide)
                refine lv_ldc (v := 262144) hx hb hown (hk _ k_1380) d_X_putIn_164 ?_
                refine lv_imul hx hb d_X_putIn_166 ?_
                refine lv_topi (fun v127 hv127 => ?_)
                obtain ⟨ev127, Rv127⟩ : v127.toInt = v126.toInt * (262144 : Int) ∧ (262144 ≤ v127.toInt ∧ v127.toInt ≤ 1073479680) := ml3 hv127 Rv126 (show 262144 ≤ (262144 : Int32).toInt ∧ (262144 : Int32).toInt ≤ 262144 from by decide) (by decide) (by decide) (by decide) (by decide) (by decide) (by decide)
                refine lv_iadd hx hb d_X_putIn_167 ?_
                refine lv_topi (fun v128 hv128 => ?_)
                obtain ⟨ev128, Rv128⟩ : v128.toInt = v122.toInt + v127.toInt ∧ (262144 ≤ v128.toInt ∧ v128.toInt ≤ 2147221503) := ad3 hv128 Rv122 Rv127 (by decide) (by decide) (by decide) (by decide)
                refine va_iast hx hb hK.1 hP hD hS 18 0 rfl rfl (vpb Rv107 (by decide) (by decide)) d_X_putIn_168 (fun H locs hP hD hS => ?_)
                have hP : va_P D classes (wS50 cI cJ cZ cB p0 p1 p2 p3 p4 p5 p6 p7 p8 p9 p10 p11 p12 p13 p14 p15 p16 p17 p18 p19 p20 p21 p22 p23 p24 p25 x0_4 x0_5 x0_6 x0_7 x0_8 x0_12 x0_13 x0_14 x0_15 x0_16 x0_17 x0_18 x0_22 x0_23 x0_24 x0_25 g2x0_26 g2x0_27 x0_28 x0_29 x0_30 x0_31 x0_32 x0_36 x0_39 x0_40 x0_44 x0_49 x0_51 x0_53 x0_54 x0_55 x0_56 x0_57 x0_58 x0_59 x0_60 x0_61 x0_62 y1 y2 y3 y4 y5 y6 y7 y8 y9 y10 y11 y12 y13 y14 y15 y16 v121 (upd g2y18 (v107).toNatClampNeg v128) y19 y20 y21 y22 y23 y24 y25) H := hP
                have hD : va_D A (wS50 cI cJ cZ cB p0 p1 p2 p3 p4 p5 p6 p7 p8 p9 p10 p11 p12 p13 p14 p15 p16 p17 p18 p19 p20 p21 p22 p23 p24 p25 x0_4 x0_5 x0_6 x0_7 x0_8 x0_12 x0_13 x0_14 x0_15 x0_16 x0_17 x0_18 x0_22 x0_23 x0_24 x0_25 g2x0_26 g2x0_27 x0_28 x0_29 x0_30 x0_31 x0_32 x0_36 x0_39 x0_40 x0_44 x0_49 x0_51 x0_53 x0_54 x0_55 x0_56 x0_57 x0_58 x0_59 x0_60 x0_61 x0_62 y1 y2 y3 y4 y5 y6 y7 y8 y9 y10 y11 y12 y13 y14 y15 y16 v121 (upd g2y18 (v107).toNatClampNeg v128) y19 y20 y21 y22 y23 y24 y25) := hD
                obtain ⟨v129, hv129⟩ : ∃ y : Nat → Int32, y = (upd g2y18 (v107).toNatClampNeg v128) := ⟨_, rfl⟩
                rw [← hv129] at hP hD
                have Gv129 : (0 ≤ (v128).toInt ∧ (v128).toInt ≤ 1073741823) := (by omega)
                have Av129 : ∀ i : Nat, (0 ≤ (v129 i).toInt ∧ (v129 i).toInt ≤ 1073741823) := by rw [hv129]; exact upd_all (P := fun i x => (0 ≤ (x).toInt ∧ (x).toInt ≤ 1073741823)) Ag2y18 Gv129
                obtain ⟨v130, hv130⟩ : ∃ y : Int32, y = (g2l1 + (1 : Int32)) := ⟨_, rfl⟩
                obtain ⟨ev130, Rv130⟩ : v130.toInt = g2l1.toInt + 1 ∧ (1 ≤ v130.toInt ∧ v130.toInt ≤ 4100) := ad3 hv130 R2 (y := (1 : Int32)) (c := 1) (d := 1) (by decide) (by decide) (by decide) (by decide) (by decide)
                refine lv_iinc (v := v130) (lv' := [(1, .int v130), (6, .int v107), (5, .int (0 : Int32)), (3, .long v95), (2, .int v4), (0, .ref p0)]) hx hb d_X_putIn_169 hl (k := 4) rfl (by rw [hv130]; rfl) (by decide) rfl (fun ls hl => ?_)
                refine lv_goto (tgt := 2) hx hb d_X_putIn_172 (by decide) ?_
                exact ih2 v130 g2x0_26 g2x0_27 v121 v129 H _ ls (show x0_49.toInt - v130.toInt < (n : Int) from by omega) (rgw Rv130 (by decide) (by decide)) Rg2x0_26 Av121 Av129 (show v130.toInt ≤ x0_49.toInt from by omega) (show LY y19 v129 v130.toInt x0_49.toInt from by exact ly_step I2_1 Ay19 hv107 (by omega) (by omega) hv129 (by omega)) hP hD hS (lv_sub hl [0, 5] rfl)
            · have gc104 : v95.toInt < (-4095 : Int) := lc_nge hv103 c104
              have R131 : (-1073741824) ≤ v95.toInt ∧ v95.toInt ≤ (-4096) := rf_ltX R102 (show (-4095) ≤ (-4095 : Int) ∧ (-4095 : Int) ≤ (-4095) from by decide) gc104 (by decide) (by decide)
              refine lv_iconst (v := 4) hx hb d_X_putIn_88 (by decide) ?_
              refine lv_goto (tgt := 93) hx hb d_X_putIn_89 (by decide) ?_
              refine lv_istore (lv' := [(5, .int (4 : Int32)), (3, .long v95), (2, .int v4), (1, .int g2l1), (0, .ref p0)]) hx hb d_X_putIn_93 hl (by decide) rfl (fun ls hl => ?_)
              refine lv_iload hx hb d_X_putIn_95 (lv_at hl 0 rfl) ?_
              refine lv_if_le (tgt := 117) hx hb d_X_putIn_97 (by decide) (fun c132 => absurd c132 (show ¬ (4 : Int32) ≤ (0 : Int32) from (by decide))) (fun c132 => ?_)
              refine lv_aload_n hx hb d_X_putIn_100 rfl (lv_at hl 4 rfl) ?_
              refine lv_iload hx hb d_X_putIn_101 (lv_at hl 0 rfl) ?_
              refine va_put (D := D) (ci := 7) (v := .int (4 : Int32)) (ty := .int) (C := "SignMachineModel") (T := F_X) (N := 64) hx hb hk fi_X ft_X ft_X_ok fn_X hown hK.1 hP hD hS 0 rfl rfl 26 (by decide) (hk _ k_1147) (fun _ h9 => h9) rfl (by decide +kernel) rfl rfl (Nat.le_of_ble_eq_true rfl) d_X_putIn_103 (fun H locs hP hD hS => ?_)
              have hP : va_P D classes (wS50 cI cJ cZ cB p0 p1 p2 p3 p4 p5 p6 p7 p8 p9 p10 p11 p12 p13 p14 p15 p16 p17 p18 p19 p20 p21 p22 p23 p24 p25 x0_4 x0_5 x0_6 x0_7 x0_8 x0_12 x0_13 x0_14 x0_15 x0_16 x0_17 x0_18 x0_22 x0_23 x0_24 x0_25 (4 : Int32) g2x0_27 x0_28 x0_29 x0_30 x0_31 x0_32 x0_36 x0_39 x0_40 x0_44 x0_49 x0_51 x0_53 x0_54 x0_55 x0_56 x0_57 x0_58 x0_59 x0_60 x0_61 x0_62 y1 y2 y3 y4 y5 y6 y7 y8 y9 y10 y11 y12 y13 y14 y15 y16 g2y17 g2y18 y19 y20 y21 y22 y23 y24 y25) H := hP
              have hD : va_D A (wS50 cI cJ cZ cB p0 p1 p2 p3 p4 p5 p6 p7 p8 p9 p10 p11 p12 p13 p14 p15 p16 p17 p18 p19 p20 p21 p22 p23 p24 p25 x0_4 x0_5 x0_6 x0_7 x0_8 x0_12 x0_13 x0_14 x0_15 x0_16 x0_17 x0_18 x0_22 x0_23 x0_24 x0_25 (4 : Int32) g2x0_27 x0_28 x0_29 x0_30 x0_31 x0_32 x0_36 x0_39 x0_40 x0_44 x0_49 x0_51 x0_53 x0_54 x0_55 x0_56 x0_57 x0_58 x0_59 x0_60 x0_61 x0_62 y1 y2 y3 y4 y5 y6 y7 y8 y9 y10 y11 y12 y13 y14 y15 y16 g2y17 g2y18 y19 y20 y21 y22 y23 y24 y25) := hD
              refine lv_aload_n hx hb d_X_putIn_106 rfl (lv_at hl 4 rfl) ?_
              refine lv_aload_n hx hb d_X_putIn_107 rfl (lv_at hl 4 rfl) ?_
              refine va_get (D := D) (ci := 7) (v := .ref p20) (C := "SignMachineModel") (T := F_X) (N := 64) hx hb hk fi_X hown hK.1 hP 0 rfl rfl 46 (by decide) (hk _ k_1167) (fun _ h9 => h9) rfl d_X_putIn_108 ?_
              refine lv_iload_n hx hb d_X_putIn_111 rfl (lv_at hl 3 rfl) ?_
              refine va_iald hx hb hK.1 hP 20 0 rfl rfl (vpb R2 (by decide) (by decide)) d_X_putIn_112 ?_
              refine lv_topi (fun v133 hv133 => ?_)
              refine va_put (D := D) (ci := 7) (v := .int v133) (ty := .int) (C := "SignMachineModel") (T := F_X) (N := 64) hx hb hk fi_X ft_X ft_X_ok fn_X hown hK.1 hP hD hS 0 rfl rfl 27 (by decide) (hk _ k_1148) (fun _ h9 => h9) rfl (by decide +kernel) rfl rfl (Nat.le_of_ble_eq_true rfl) d_X_putIn_113 (fun H locs hP hD hS => ?_)
              have hP : va_P D classes (wS50 cI cJ cZ cB p0 p1 p2 p3 p4 p5 p6 p7 p8 p9 p10 p11 p12 p13 p14 p15 p16 p17 p18 p19 p20 p21 p22 p23 p24 p25 x0_4 x0_5 x0_6 x0_7 x0_8 x0_12 x0_13 x0_14 x0_15 x0_16 x0_17 x0_18 x0_22 x0_23 x0_24 x0_25 (4 : Int32) v133 x0_28 x0_29 x0_30 x0_31 x0_32 x0_36 x0_39 x0_40 x0_44 x0_49 x0_51 x0_53 x0_54 x0_55 x0_56 x0_57 x0_58 x0_59 x0_60 x0_61 x0_62 y1 y2 y3 y4 y5 y6 y7 y8 y9 y10 y11 y12 y13 y14 y15 y16 g2y17 g2y18 y19 y20 y21 y22 y23 y24 y25) H := hP
              have hD : va_D A (wS50 cI cJ cZ cB p0 p1 p2 p3 p4 p5 p6 p7 p8 p9 p10 p11 p12 p13 p14 p15 p16 p17 p18 p19 p20 p21 p22 p23 p24 p25 x0_4 x0_5 x0_6 x0_7 x0_8 x0_12 x0_13 x0_14 x0_15 x0_16 x0_17 x0_18 x0_22 x0_23 x0_24 x0_25 (4 : Int32) v133 x0_28 x0_29 x0_30 x0_31 x0_32 x0_36 x0_39 x0_40 x0_44 x0_49 x0_51 x0_53 x0_54 x0_55 x0_56 x0_57 x0_58 x0_59 x0_60 x0_61 x0_62 y1 y2 y3 y4 y5 y6 y7 y8 y9 y10 y11 y12 y13 y14 y15 y16 g2y17 g2y18 y19 y20 y21 y22 y23 y24 y25) := hD
              exact W.vret hx hb hr (fun t ht hW => ⟨⟨(), rfl, trivial, ⟨(4 : Int32), v133, g2y17, g2y18, (by decide), Ag2y17, Ag2y18, by show va_P D classes _ t.heap; rw [ht]; exact hP, hD⟩⟩, hS.F ht⟩) hS.2.2 d_X_putIn_116
  exact CUT2 ((x0_49.toInt - (0 : Int)).toNat + 1) (0 : Int32) x0_26 x0_27 y17 y18 s.heap _ ls (show (x0_49.toInt - (0 : Int)) < (((x0_49.toInt - (0 : Int)).toNat + 1 : Nat) : Int) from by omega) (by decide) Rx0_26 Ay17 Ay18 (show (0 : Int) ≤ x0_49.toInt from by omega) (show LY y19 y18 (0 : Int) x0_49.toInt from by exact lx_ly (by assumption)) hP hD hS (lv_sub hl [0, 1] rfl)
theorem v_X_putIn {R : Room} {s : State} {args : Array Value} {own : String} {index : Nat} (hk : ∀ w ∈ tb, w.before args s = true) (hl : Cond.methodLink own index y_X_putIn ∈ tb) (hR : 0 + 1 ≤ R.frames ∧ 8 + (7 + 11) + 0 ≤ R.locals) : CallW R s args own "SignMachineModel" index y_X_putIn b_X_putIn 7 none (.code y_X_putIn b_X_putIn 7 none :: tb) ({ frames := 0, cells := 0, slots := 0, locals := 0 }) 0 0 0 := mk_v 0 hk k_1706 hl k_1705 k_114 k_119 rfl rfl h_X_putIn hR

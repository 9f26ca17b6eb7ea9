set_option maxHeartbeats 8000000 in
set_option maxRecDepth 100000 in
theorem c_X_findSymbol (l : Launch) (D : va_G) (cI cJ cZ cB : ClassId) (p0 p1 p2 p3 p4 p5 p6 p7 p8 p9 p10 p11 p12 p13 p14 p15 p16 p17 p18 p19 p20 p21 p22 p23 p24 p25 : Nat) (sz : Nat) (x0_4 : Int32) (x0_5 : Int32) (x0_6 : Int32) (x0_7 : Int32) (x0_8 : Int32) (x0_12 : Int32) (x0_13 : Int32) (x0_14 : Int32) (x0_15 : Int32) (x0_16 : Int32) (x0_17 : Int32) (x0_18 : Int32) (x0_22 : Int32) (x0_23 : Int32) (x0_24 : Int32) (x0_25 : Int32) (x0_26 : Int32) (x0_27 : Int32) (x0_28 : Int32) (x0_29 : Int32) (x0_30 : Int32) (x0_31 : Int32) (x0_32 : Int32) (x0_36 : Int32) (x0_39 : Int32) (x0_40 : Int64) (x0_44 : Int32) (x0_49 : Int32) (x0_51 : Int32) (x0_53 : Int32) (x0_54 : Int32) (x0_55 : Int64) (x0_56 : Int32) (x0_57 : Int32) (x0_58 : Int32) (x0_59 : Int32) (x0_60 : Int32) (x0_61 : Int32) (x0_62 : Int64) (y1 : Nat → Int32) (y2 : Nat → Int32) (y3 : Nat → Int32) (y4 : Nat → Int32) (y5 : Nat → Int32) (y6 : Nat → Int32) (y7 : Nat → Int32) (y8 : Nat → Int32) (y9 : Nat → Int32) (y10 : Nat → Int32) (y11 : Nat → Int64) (y12 : Nat → Int32) (y13 : Nat → Int64) (y14 : Nat → Int32) (y15 : Nat → Int64) (y16 : Nat → Int32) (y17 : Nat → Int32) (y18 : Nat → Int32) (y19 : Nat → Int32) (y20 : Nat → Int32) (y21 : Nat → Int32) (y22 : Nat → Int32) (y23 : Nat → Int32) (y24 : Nat → Int64) (y25 : Nat → Int64) (a1 : Int64) (Rx0_36 : 0 ≤ x0_36.toInt ∧ x0_36.toInt ≤ 60) : Met l y_X_findSymbol (.code y_X_findSymbol b_X_findSymbol 4 (some .int) :: tb) ({ frames := 0, cells := 0, slots := 0, locals := 0 }) (pM D cI cJ cZ cB (wS50 cI cJ cZ cB p0 p1 p2 p3 p4 p5 p6 p7 p8 p9 p10 p11 p12 p13 p14 p15 p16 p17 p18 p19 p20 p21 p22 p23 p24 p25 x0_4 x0_5 x0_6 x0_7 x0_8 x0_12 x0_13 x0_14 x0_15 x0_16 x0_17 x0_18 x0_22 x0_23 x0_24 x0_25 x0_26 x0_27 x0_28 x0_29 x0_30 x0_31 x0_32 x0_36 x0_39 x0_40 x0_44 x0_49 x0_51 x0_53 x0_54 x0_55 x0_56 x0_57 x0_58 x0_59 x0_60 x0_61 x0_62 y1 y2 y3 y4 y5 y6 y7 y8 y9 y10 y11 y12 y13 y14 y15 y16 y17 y18 y19 y20 y21 y22 y23 y24 y25) sz [.ref p0, .long a1]) (va_Qi (fun r (u : Int32) => r = u) (fun ur t => ((-2) ≤ ur.toInt ∧ ur.toInt ≤ 59) ∧ (ur.toInt = -2 ∨ (0 ≤ ur.toInt ∧ ur.toInt < x0_36.toInt)) ∧ ((ur.toInt = -2 ∧ nsI y11 x0_36.toInt a1 = 0) ∨ (ur.toInt ≠ -2 ∧ nsI y11 x0_36.toInt a1 = 1)) ∧ va_P D classes (wS50 cI cJ cZ cB p0 p1 p2 p3 p4 p5 p6 p7 p8 p9 p10 p11 p12 p13 p14 p15 p16 p17 p18 p19 p20 p21 p22 p23 p24 p25 x0_4 x0_5 x0_6 x0_7 x0_8 x0_12 x0_13 x0_14 x0_15 x0_16 x0_17 x0_18 x0_22 x0_23 x0_24 x0_25 x0_26 x0_27 x0_28 x0_29 x0_30 x0_31 x0_32 x0_36 x0_39 x0_40 x0_44 x0_49 x0_51 x0_53 x0_54 x0_55 x0_56 x0_57 x0_58 x0_59 x0_60 x0_61 x0_62 y1 y2 y3 y4 y5 y6 y7 y8 y9 y10 y11 y12 y13 y14 y15 y16 y17 y18 y19 y20 y21 y22 y23 y24 y25) t.heap ∧ va_D (va_A (wS50 cI cJ cZ cB p0 p1 p2 p3 p4 p5 p6 p7 p8 p9 p10 p11 p12 p13 p14 p15 p16 p17 p18 p19 p20 p21 p22 p23 p24 p25 x0_4 x0_5 x0_6 x0_7 x0_8 x0_12 x0_13 x0_14 x0_15 x0_16 x0_17 x0_18 x0_22 x0_23 x0_24 x0_25 x0_26 x0_27 x0_28 x0_29 x0_30 x0_31 x0_32 x0_36 x0_39 x0_40 x0_44 x0_49 x0_51 x0_53 x0_54 x0_55 x0_56 x0_57 x0_58 x0_59 x0_60 x0_61 x0_62 y1 y2 y3 y4 y5 y6 y7 y8 y9 y10 y11 y12 y13 y14 y15 y16 y17 y18 y19 y20 y21 y22 y23 y24 y25) sz) (wS50 cI cJ cZ cB p0 p1 p2 p3 p4 p5 p6 p7 p8 p9 p10 p11 p12 p13 p14 p15 p16 p17 p18 p19 p20 p21 p22 p23 p24 p25 x0_4 x0_5 x0_6 x0_7 x0_8 x0_12 x0_13 x0_14 x0_15 x0_16 x0_17 x0_18 x0_22 x0_23 x0_24 x0_25 x0_26 x0_27 x0_28 x0_29 x0_30 x0_31 x0_32 x0_36 x0_39 x0_40 x0_44 x0_49 x0_51 x0_53 x0_54 x0_55 x0_56 x0_57 x0_58 x0_59 x0_60 x0_61 x0_62 y1 y2 y3 y4 y5 y6 y7 y8 y9 y10 y11 y12 y13 y14 y15 y16 y17 y18 y19 y20 y21 y22 y23 y24 y25)) (va_A (wS50 cI cJ cZ cB p0 p1 p2 p3 p4 p5 p6 p7 p8 p9 p10 p11 p12 p13 p14 p15 p16 p17 p18 p19 p20 p21 p22 p23 p24 p25 x0_4 x0_5 x0_6 x0_7 x0_8 x0_12 x0_13 x0_14 x0_15 x0_16 x0_17 x0_18 x0_22 x0_23 x0_24 x0_25 x0_26 x0_27 x0_28 x0_29 x0_30 x0_31 x0_32 x0_36 x0_39 x0_40 x0_44 x0_49 x0_51 x0_53 x0_54 x0_55 x0_56 x0_57 x0_58 x0_59 x0_60 x0_61 x0_62 y1 y2 y3 y4 y5 y6 y7 y8 y9 y10 y11 y12 y13 y14 y15 y16 y17 y18 y19 y20 y21 y22 y23 y24 y25) sz)) 0 0 (va_A (wS50 cI cJ cZ cB p0 p1 p2 p3 p4 p5 p6 p7 p8 p9 p10 p11 p12 p13 p14 p15 p16 p17 p18 p19 p20 p21 p22 p23 p24 p25 x0_4 x0_5 x0_6 x0_7 x0_8 x0_12 x0_13 x0_14 x0_15 x0_16 x0_17 x0_18 x0_22 x0_23 x0_24 x0_25 x0_26 x0_27 x0_28 x0_29 x0_30 x0_31 x0_32 x0_36 x0_39 x0_40 x0_44 x0_49 x0_51 x0_53 x0_54 x0_55 x0_56 x0_57 x0_58 x0_59 x0_60 x0_61 x0_62 y1 y2 y3 y4 y5 y6 y7 y8 y9 y10 y11 y12 y13 y14 y15 y16 y17 y18 y19 y20 y21 y22 y23 y24 y25) sz) := by
  refine Met.ofW (cc := b_X_findSymbol) (maxL := 4) (ret := (some .int)) (by decide) rfl ?_
  intro p e s m args below meth c s₁ B hml hv
  obtain ⟨rfl, hsz, hK, hP, hD0⟩ := hv
  subst hsz
  have hD := hD0.self (sz := s.heap.size)
  generalize hAe : va_A (wS50 cI cJ cZ cB p0 p1 p2 p3 p4 p5 p6 p7 p8 p9 p10 p11 p12 p13 p14 p15 p16 p17 p18 p19 p20 p21 p22 p23 p24 p25 x0_4 x0_5 x0_6 x0_7 x0_8 x0_12 x0_13 x0_14 x0_15 x0_16 x0_17 x0_18 x0_22 x0_23 x0_24 x0_25 x0_26 x0_27 x0_28 x0_29 x0_30 x0_31 x0_32 x0_36 x0_39 x0_40 x0_44 x0_49 x0_51 x0_53 x0_54 x0_55 x0_56 x0_57 x0_58 x0_59 x0_60 x0_61 x0_62 y1 y2 y3 y4 y5 y6 y7 y8 y9 y10 y11 y12 y13 y14 y15 y16 y17 y18 y19 y20 y21 y22 y23 y24 y25) s.heap.size = A at hD ⊢
  have hA : ∀ q : Nat, s.heap.size ≤ q → A q := fun q h => by rw [← hAe]; exact Or.inr h
  clear hAe hD0
  have hS : va_S A s.heap s.heap [] := va_S.rf
  have hx := B.exec
  have hb := B.bytes
  have hr := B.returns
  have hts := atoms_spec (ws := .code y_X_findSymbol b_X_findSymbol 4 (some .int) :: tb) B.pre
  have hk : ∀ w ∈ tb, w.before [.ref p0, .long a1].toArray s = true := fun w h => hts w (List.mem_cons_of_mem _ h)
  have hown : s.vm.findClass "SignMachineModel" = some m.cls := findClass_of_methodNamed B.named
  have hlocks := B.notSynchronized
  have hl := lv_entry ([.ref p0, .long a1]) (n := 4) (Nat.le_of_ble_eq_true rfl)
  rw [lg_entry_eq]
  generalize (lg_sl ([.ref p0, .long a1]) ++ List.replicate (4 - (lg_sl ([.ref p0, .long a1])).length) Slot.unset).toArray = ls at hl ⊢
  have hl : lv_has ls 4 [(0, .ref p0), (1, .long a1)] := hl
  clear hts B
  refine lv_iconst (v := 0) hx hb d_X_findSymbol_0 (by decide) ?_
  refine lv_istore_n (lv' := [(3, .int (0 : Int32)), (0, .ref p0), (1, .long a1)]) hx hb d_X_findSymbol_1 rfl hl (by decide) rfl (fun ls hl => ?_)
  have CUT2 : ∀ (n : Nat) (g2l3 : Int32)  (H : Heap) (locs : List Loc) (ls : Array Slot), (x0_36.toInt - g2l3.toInt) < (n : Int) → (0 ≤ g2l3.toInt ∧ g2l3.toInt ≤ 60) → (g2l3.toInt ≤ x0_36.toInt) → (nsI y11 g2l3.toInt a1 = 0) → va_P D classes (wS50 cI cJ cZ cB p0 p1 p2 p3 p4 p5 p6 p7 p8 p9 p10 p11 p12 p13 p14 p15 p16 p17 p18 p19 p20 p21 p22 p23 p24 p25 x0_4 x0_5 x0_6 x0_7 x0_8 x0_12 x0_13 x0_14 x0_15 x0_16 x0_17 x0_18 x0_22 x0_23 x0_24 x0_25 x0_26 x0_27 x0_28 x0_29 x0_30 x0_31 x0_32 x0_36 x0_39 x0_40 x0_44 x0_49 x0_51 x0_53 x0_54 x0_55 x0_56 x0_57 x0_58 x0_59 x0_60 x0_61 x0_62 y1 y2 y3 y4 y5 y6 y7 y8 y9 y10 y11 y12 y13 y14 y15 y16 y17 y18 y19 y20 y21 y22 y23 y24 y25) H → va_D A (wS50 cI cJ cZ cB p0 p1 p2 p3 p4 p5 p6 p7 p8 p9 p10 p11 p12 p13 p14 p15 p16 p17 p18 p19 p20 p21 p22 p23 p24 p25 x0_4 x0_5 x0_6 x0_7 x0_8 x0_12 x0_13 x0_14 x0_15 x0_16 x0_17 x0_18 x0_22 x0_23 x0_24 x0_25 x0_26 x0_27 x0_28 x0_29 x0_30 x0_31 x0_32 x0_36 x0_39 x0_40 x0_44 x0_49 x0_51 x0_53 x0_54 x0_55 x0_56 x0_57 x0_58 x0_59 x0_60 x0_61 x0_62 y1 y2 y3 y4 y5 y6 y7 y8 y9 y10 y11 y12 y13 y14 y15 y16 y17 y18 y19 y20 y21 y22 y23 y24 y25) → va_S A s.heap H locs → lv_has ls 4 [(3, .int g2l3), (0, .ref p0), (1, .long a1)] → W p l e ({ frames := 0, cells := 0, slots := 0, locals := 0 }) s m [.ref p0, .long a1].toArray below meth c H locs 0 0 (MQ below (va_Qi (fun r (u : Int32) => r = u) (fun ur t => ((-2) ≤ ur.toInt ∧ ur.toInt ≤ 59) ∧ (ur.toInt = -2 ∨ (0 ≤ ur.toInt ∧ ur.toInt < x0_36.toInt)) ∧ ((ur.toInt = -2 ∧ nsI y11 x0_36.toInt a1 = 0) ∨ (ur.toInt ≠ -2 ∧ nsI y11 x0_36.toInt a1 = 1)) ∧ va_P D classes (wS50 cI cJ cZ cB p0 p1 p2 p3 p4 p5 p6 p7 p8 p9 p10 p11 p12 p13 p14 p15 p16 p17 p18 p19 p20 p21 p22 p23 p24 p25 x0_4 x0_5 x0_6 x0_7 x0_8 x0_12 x0_13 x0_14 x0_15 x0_16 x0_17 x0_18 x0_22 x0_23 x0_24 x0_25 x0_26 x0_27 x0_28 x0_29 x0_30 x0_31 x0_32 x0_36 x0_39 x0_40 x0_44 x0_49 x0_51 x0_53 x0_54 x0_55 x0_56 x0_57 x0_58 x0_59 x0_60 x0_61 x0_62 y1 y2 y3 y4 y5 y6 y7 y8 y9 y10 y11 y12 y13 y14 y15 y16 y17 y18 y19 y20 y21 y22 y23 y24 y25) t.heap ∧ va_D A (wS50 cI cJ cZ cB p0 p1 p2 p3 p4 p5 p6 p7 p8 p9 p10 p11 p12 p13 p14 p15 p16 p17 p18 p19 p20 p21 p22 p23 p24 p25 x0_4 x0_5 x0_6 x0_7 x0_8 x0_12 x0_13 x0_14 x0_15 x0_16 x0_17 x0_18 x0_22 x0_23 x0_24 x0_25 x0_26 x0_27 x0_28 x0_29 x0_30 x0_31 x0_32 x0_36 x0_39 x0_40 x0_44 x0_49 x0_51 x0_53 x0_54 x0_55 x0_56 x0_57 x0_58 x0_59 x0_60 x0_61 x0_62 y1 y2 y3 y4 y5 y6 y7 y8 y9 y10 y11 y12 y13 y14 y15 y16 y17 y18 y19 y20 y21 y22 y23 y24 y25)) A) [.ref p0, .long a1].toArray s 0 0 A) (F0 m 2 ls []) := by
    intro n
    induction n with
    | zero => intro g2l3 H locs ls hn2 Rg2l3 I2_0 I2_1 hP hD hS hl; exfalso; omega
    | succ n ih2 =>
      intro g2l3 H locs ls hn2 Rg2l3 I2_0 I2_1 hP hD hS hl
      refine lv_iload_n hx hb d_X_findSymbol_2 rfl (lv_at hl 0 rfl) ?_
      refine lv_aload_n hx hb d_X_findSymbol_3 rfl (lv_at hl 1 rfl) ?_
      refine va_get (D := D) (ci := 7) (v := .int x0_36) (C := "SignMachineModel") (T := F_X) (N := 64) hx hb hk fi_X hown hK.1 hP 0 rfl rfl 36 (by decide) (hk _ k_1157) (fun _ h9 => h9) rfl d_X_findSymbol_4 ?_
      refine lv_icmp_ge (tgt := 29) hx hb d_X_findSymbol_7 (by decide) (fun c1 => ?_) (fun c1 => ?_)
      · have gc1 : x0_36.toInt ≤ g2l3.toInt := c_le c1
        refine lv_bipush (v := (-2)) hx hb d_X_findSymbol_29 (by decide) ?_
        exact W.iret (v := (-2 : Int32)) hx hb hr (fun t ht hW => ⟨⟨(-2 : Int32), (-2 : Int32), rfl, rfl, ⟨(by decide), (show (-2 : Int) = -2 ∨ (0 ≤ (-2 : Int) ∧ (-2 : Int) < x0_36.toInt) from by omega), (show ((-2 : Int) = -2 ∧ nsI y11 x0_36.toInt a1 = 0) ∨ ((-2 : Int) ≠ -2 ∧ nsI y11 x0_36.toInt a1 = 1) from by refine Or.inl ⟨rfl, ?_⟩; rw [show x0_36.toInt = g2l3.toInt from by omega]; exact I2_1), by show va_P D classes _ t.heap; rw [ht]; exact hP, hD⟩⟩, hS.F ht⟩) hS.2.2 d_X_findSymbol_31
      · have gc1 : g2l3.toInt < x0_36.toInt := c_nle c1
        have R2 : 0 ≤ g2l3.toInt ∧ g2l3.toInt ≤ 59 := rf_ltX Rg2l3 Rx0_36 gc1 (by decide) (by decide)
        have R3 : 1 ≤ x0_36.toInt ∧ x0_36.toInt ≤ 60 := rf_ltY Rg2l3 Rx0_36 gc1 (by decide) (by decide)
        refine lv_aload_n hx hb d_X_findSymbol_10 rfl (lv_at hl 1 rfl) ?_
        refine va_get (D := D) (ci := 7) (v := .ref p11) (C := "SignMachineModel") (T := F_X) (N := 64) hx hb hk fi_X hown hK.1 hP 0 rfl rfl 33 (by decide) (hk _ k_1154) (fun _ h9 => h9) rfl d_X_findSymbol_11 ?_
        refine lv_iload_n hx hb d_X_findSymbol_14 rfl (lv_at hl 0 rfl) ?_
        refine va_lald hx hb hK.1 hP 11 1 rfl rfl (vpb R2 (by decide) (by decide)) d_X_findSymbol_15 ?_
        refine lv_topl (fun v4 hv4 => ?_)
        refine lv_lload_n hx hb d_X_findSymbol_16 rfl (lv_at hl 2 rfl) ?_
        refine W.lcmp hx hb d_X_findSymbol_17 ?_
        refine lv_topi (fun v5 hv5 => ?_)
        refine lv_if_ne (tgt := 23) hx hb d_X_findSymbol_18 (by decide) (fun c6 => ?_) (fun c6 => ?_)
        · have gc6 : v4.toInt ≠ a1.toInt := lc_neq hv5 c6
          obtain ⟨v7, hv7⟩ : ∃ y : Int32, y = (g2l3 + (1 : Int32)) := ⟨_, rfl⟩
          obtain ⟨ev7, Rv7⟩ : v7.toInt = g2l3.toInt + 1 ∧ (1 ≤ v7.toInt ∧ v7.toInt ≤ 60) := ad3 hv7 R2 (y := (1 : Int32)) (c := 1) (d := 1) (by decide) (by decide) (by decide) (by decide) (by decide)
          refine lv_iinc (v := v7) (lv' := [(3, .int v7), (0, .ref p0), (1, .long a1)]) hx hb d_X_findSymbol_23 hl (k := 0) rfl (by rw [hv7]; rfl) (by decide) rfl (fun ls hl => ?_)
          refine lv_goto (tgt := 2) hx hb d_X_findSymbol_26 (by decide) ?_
          exact ih2 v7 H _ ls (show x0_36.toInt - v7.toInt < (n : Int) from by omega) (rgw Rv7 (by decide) (by decide)) (show v7.toInt ≤ x0_36.toInt from by omega) (show nsI y11 v7.toInt a1 = 0 from by exact nsI_s I2_1 hv4 (by omega) (by omega) (by omega)) hP hD hS (lv_sub hl [0, 1, 2] rfl)
        · have gc6 : v4.toInt = a1.toInt := lc_eq hv5 c6
          refine lv_iload_n hx hb d_X_findSymbol_21 rfl (lv_at hl 0 rfl) ?_
          exact W.iret (v := g2l3) hx hb hr (fun t ht hW => ⟨⟨g2l3, g2l3, rfl, rfl, ⟨(rgw R2 (by decide) (by decide)), (show g2l3.toInt = -2 ∨ (0 ≤ g2l3.toInt ∧ g2l3.toInt < x0_36.toInt) from by omega), (show (g2l3.toInt = -2 ∧ nsI y11 x0_36.toInt a1 = 0) ∨ (g2l3.toInt ≠ -2 ∧ nsI y11 x0_36.toInt a1 = 1) from by exact Or.inr ⟨by omega, nsI_f hv4 (by omega) (by omega) (by omega)⟩), by show va_P D classes _ t.heap; rw [ht]; exact hP, hD⟩⟩, hS.F ht⟩) hS.2.2 d_X_findSymbol_22
  exact CUT2 ((x0_36.toInt - (0 : Int)).toNat + 1) (0 : Int32) s.heap _ ls (show (x0_36.toInt - (0 : Int)) < (((x0_36.toInt - (0 : Int)).toNat + 1 : Nat) : Int) from by omega) (by decide) (show (0 : Int) ≤ x0_36.toInt from by omega) (show nsI y11 (0 : Int) a1 = 0 from by exact nsI_z _ _) hP hD hS (lv_sub hl [0, 1, 2] rfl)
theorem v_X_findSymbol {R : Room} {s : State} {args : Array Value} {own : String} {index : Nat} (hk : ∀ w ∈ tb, w.before args s = true) (hl : Cond.methodLink own index y_X_findSymbol ∈ tb) (hR : 0 + 1 ≤ R.frames ∧ 8 + (4 + 11) + 0 ≤ R.locals) : CallW R s args own "SignMachineModel" index y_X_findSymbol b_X_findSymbol 4 (some .int) (.code y_X_findSymbol b_X_findSymbol 4 (some .int) :: tb) ({ frames := 0, cells := 0, slots := 0, locals := 0 }) 0 0 1 := mk_v 1 hk k_1629 hl k_1628 k_97 k_119 rfl rfl h_X_findSymbol hR
set_option maxHeartbeats 8000000 in
set_option maxRecDepth 100000 in
theorem c_X_newSymbol (l : Launch) (D : va_G) (cI cJ cZ cB : ClassId) (p0 p1 p2 p3 p4 p5 p6 p7 p8 p9 p10 p11 p12 p13 p14 p15 p16 p17 p18 p19 p20 p21 p22 p23 p24 p25 : Nat) (sz : Nat) (x0_4 : Int32) (x0_5 : Int32) (x0_6 : Int32) (x0_7 : Int32) (x0_8 : Int32) (x0_12 : Int32) (x0_13 : Int32) (x0_14 : Int32) (x0_15 : Int32) (x0_16 : Int32) (x0_17 : Int32) (x0_18 : Int32) (x0_22 : Int32) (x0_23 : Int32) (x0_24 : Int32) (x0_25 : Int32) (x0_26 : Int32) (x0_27 : Int32) (x0_28 : Int32) (x0_29 : Int32) (x0_30 : Int32) (x0_31 : Int32) (x0_32 : Int32) (x0_36 : Int32) (x0_39 : Int32) (x0_40 : Int64) (x0_44 : Int32) (x0_49 : Int32) (x0_51 : Int32) (x0_53 : Int32) (x0_54 : Int32) (x0_55 : Int64) (x0_56 : Int32) (x0_57 : Int32) (x0_58 : Int32) (x0_59 : Int32) (x0_60 : Int32) (x0_61 : Int32) (x0_62 : Int64) (y1 : Nat → Int32) (y2 : Nat → Int32) (y3 : Nat → Int32) (y4 : Nat → Int32) (y5 : Nat → Int32) (y6 : Nat → Int32) (y7 : Nat → Int32) (y8 : Nat → Int32) (y9 : Nat → Int32) (y10 : Nat → Int32) (y11 : Nat → Int64) (y12 : Nat → Int32) (y13 : Nat → Int64) (y14 : Nat → Int32) (y15 : Nat → Int64) (y16 : Nat → Int32) (y17 : Nat → Int32) (y18 : Nat → Int32) (y19 : Nat → Int32) (y20 : Nat → Int32) (y21 : Nat → Int32) (y22 : Nat → Int32) (y23 : Nat → Int32) (y24 : Nat → Int64) (y25 : Nat → Int64) (a1 : Int64) (Rx0_26 : 0 ≤ x0_26.toInt ∧ x0_26.toInt ≤ 6) (Rx0_36 : 0 ≤ x0_36.toInt ∧ x0_36.toInt ≤ 60) : Met l y_X_newSymbol (.code y_X_newSymbol b_X_newSymbol 3 (some .int) :: tb) ({ frames := 1, cells := 0, slots := 0, locals := 21 }) (pM D cI cJ cZ cB (wS50 cI cJ cZ cB p0 p1 p2 p3 p4 p5 p6 p7 p8 p9 p10 p11 p12 p13 p14 p15 p16 p17 p18 p19 p20 p21 p22 p23 p24 p25 x0_4 x0_5 x0_6 x0_7 x0_8 x0_12 x0_13 x0_14 x0_15 x0_16 x0_17 x0_18 x0_22 x0_23 x0_24 x0_25 x0_26 x0_27 x0_28 x0_29 x0_30 x0_31 x0_32 x0_36 x0_39 x0_40 x0_44 x0_49 x0_51 x0_53 x0_54 x0_55 x0_56 x0_57 x0_58 x0_59 x0_60 x0_61 x0_62 y1 y2 y3 y4 y5 y6 y7 y8 y9 y10 y11 y12 y13 y14 y15 y16 y17 y18 y19 y20 y21 y22 y23 y24 y25) sz [.ref p0, .long a1]) (va_Qi (fun r (u : Int32) => r = u) (fun ur t => ∃ u_x0_26 : Int32, ∃ u_x0_36 : Int32, ∃ u_y11 : Nat → Int64, ∃ u_y12 : Nat → Int32, (0 ≤ u_x0_26.toInt ∧ u_x0_26.toInt ≤ 6) ∧ (0 ≤ u_x0_36.toInt ∧ u_x0_36.toInt ≤ 60) ∧ ((-2) ≤ ur.toInt ∧ ur.toInt ≤ 59) ∧ ((ur.toInt = -2 ∧ u_x0_36.toInt = x0_36.toInt ∧ 1 ≤ u_x0_26.toInt) ∨ (ur.toInt = x0_36.toInt ∧ u_x0_36.toInt = x0_36.toInt + 1 ∧ u_x0_26.toInt = x0_26.toInt)) ∧ va_P D classes (wS50 cI cJ cZ cB p0 p1 p2 p3 p4 p5 p6 p7 p8 p9 p10 p11 p12 p13 p14 p15 p16 p17 p18 p19 p20 p21 p22 p23 p24 p25 x0_4 x0_5 x0_6 x0_7 x0_8 x0_12 x0_13 x0_14 x0_15 x0_16 x0_17 x0_18 x0_22 x0_23 x0_24 x0_25 u_x0_26 x0_27 x0_28 x0_29 x0_30 x0_31 x0_32 u_x0_36 x0_39 x0_40 x0_44 x0_49 x0_51 x0_53 x0_54 x0_55 x0_56 x0_57 x0_58 x0_59 x0_60 x0_61 x0_62 y1 y2 y3 y4 y5 y6 y7 y8 y9 y10 u_y11 u_y12 y13 y14 y15 y16 y17 y18 y19 y20 y21 y22 y23 y24 y25) t.heap ∧ va_D (va_A (wS50 cI cJ cZ cB p0 p1 p2 p3 p4 p5 p6 p7 p8 p9 p10 p11 p12 p13 p14 p15 p16 p17 p18 p19 p20 p21 p22 p23 p24 p25 x0_4 x0_5 x0_6 x0_7 x0_8 x0_12 x0_13 x0_14 x0_15 x0_16 x0_17 x0_18 x0_22 x0_23 x0_24 x0_25 x0_26 x0_27 x0_28 x0_29 x0_30 x0_31 x0_32 x0_36 x0_39 x0_40 x0_44 x0_49 x0_51 x0_53 x0_54 x0_55 x0_56 x0_57 x0_58 x0_59 x0_60 x0_61 x0_62 y1 y2 y3 y4 y5 y6 y7 y8 y9 y10 y11 y12 y13 y14 y15 y16 y17 y18 y19 y20 y21 y22 y23 y24 y25) sz) (wS50 cI cJ cZ cB p0 p1 p2 p3 p4 p5 p6 p7 p8 p9 p10 p11 p12 p13 p14 p15 p16 p17 p18 p19 p20 p21 p22 p23 p24 p25 x0_4 x0_5 x0_6 x0_7 x0_8 x0_12 x0_13 x0_14 x0_15 x0_16 x0_17 x0_18 x0_22 x0_23 x0_24 x0_25 u_x0_26 x0_27 x0_28 x0_29 x0_30 x0_31 x0_32 u_x0_36 x0_39 x0_40 x0_44 x0_49 x0_51 x0_53 x0_54 x0_55 x0_56 x0_57 x0_58 x0_59 x0_60 x0_61 x0_62 y1 y2 y3 y4 y5 y6 y7 y8 y9 y10 u_y11 u_y12 y13 y14 y15 y16 y17 y18 y19 y20 y21 y22 y23 y24 y25)) (va_A (wS50 cI cJ cZ cB p0 p1 p2 p3 p4 p5 p6 p7 p8 p9 p10 p11 p12 p13 p14 p15 p16 p17 p18 p19 p20 p21 p22 p23 p24 p25 x0_4 x0_5 x0_6 x0_7 x0_8 x0_12 x0_13 x0_14 x0_15 x0_16 x0_17 x0_18 x0_22 x0_23 x0_24 x0_25 x0_26 x0_27 x0_28 x0_29 x0_30 x0_31 x0_32 x0_36 x0_39 x0_40 x0_44 x0_49 x0_51 x0_53 x0_54 x0_55 x0_56 x0_57 x0_58 x0_59 x0_60 x0_61 x0_62 y1 y2 y3 y4 y5 y6 y7 y8 y9 y10 y11 y12 y13 y14 y15 y16 y17 y18 y19 y20 y21 y22 y23 y24 y25) sz)) 0 0 (va_A (wS50 cI cJ cZ cB p0 p1 p2 p3 p4 p5 p6 p7 p8 p9 p10 p11 p12 p13 p14 p15 p16 p17 p18 p19 p20 p21 p22 p23 p24 p25 x0_4 x0_5 x0_6 x0_7 x0_8 x0_12 x0_13 x0_14 x0_15 x0_16 x0_17 x0_18 x0_22 x0_23 x0_24 x0_25 x0_26 x0_27 x0_28 x0_29 x0_30 x0_31 x0_32 x0_36 x0_39 x0_40 x0_44 x0_49 x0_51 x0_53 x0_54 x0_55 x0_56 x0_57 x0_58 x0_59 x0_60 x0_61 x0_62 y1 y2 y3 y4 y5 y6 y7 y8 y9 y10 y11 y12 y13 y14 y15 y16 y17 y18 y19 y20 y21 y22 y23 y24 y25) sz) := by
  refine Met.ofW (cc := b_X_newSymbol) (maxL := 3) (ret := (some .int)) (by decide) rfl ?_
  intro p e s m args below meth c s₁ B hml hv
  obtain ⟨rfl, hsz, hK, hP, hD0⟩ := hv
  subst hsz
  have hD := hD0.self (sz := s.heap.size)
  generalize hAe : va_A (wS50 cI cJ cZ cB p0 p1 p2 p3 p4 p5 p6 p7 p8 p9 p10 p11 p12 p13 p14 p15 p16 p17 p18 p19 p20 p21 p22 p23 p24 p25 x0_4 x0_5 x0_6 x0_7 x0_8 x0_12 x0_13 x0_14 x0_15 x0_16 x0_17 x0_18 x0_22 x0_23 x0_24 x0_25 x0_26 x0_27 x0_28 x0_29 x0_30 x0_31 x0_32 x0_36 x0_39 x0_40 x0_44 x0_49 x0_51 x0_53 x0_54 x0_55 x0_56 x0_57 x0_58 x0_59 x0_60 x0_61 x0_62 y1 y2 y3 y4 y5 y6 y7 y8 y9 y10 y11 y12 y13 y14 y15 y16 y17 y18 y19 y20 y21 y22 y23 y24 y25) s.heap.size = A at hD ⊢
  have hA : ∀ q : Nat, s.heap.size ≤ q → A q := fun q h => by rw [← hAe]; exact Or.inr h
  clear hAe hD0
  have hS : va_S A s.heap s.heap [] := va_S.rf
  have hx := B.exec
  have hb := B.bytes
  have hr := B.returns
  have hts := atoms_spec (ws := .code y_X_newSymbol b_X_newSymbol 3 (some .int) :: tb) B.pre
  have hk : ∀ w ∈ tb, w.before [.ref p0, .long a1].toArray s = true := fun w h => hts w (List.mem_cons_of_mem _ h)
  have hown : s.vm.findClass "SignMachineModel" = some m.cls := findClass_of_methodNamed B.named
  have hlocks := B.notSynchronized
  have hl := lv_entry ([.ref p0, .long a1]) (n := 3) (Nat.le_of_ble_eq_true rfl)
  rw [lg_entry_eq]
  generalize (lg_sl ([.ref p0, .long a1]) ++ List.replicate (3 - (lg_sl ([.ref p0, .long a1])).length) Slot.unset).toArray = ls at hl ⊢
  have hl : lv_has ls 3 [(0, .ref p0), (1, .long a1)] := hl
  clear hts B
  refine lv_aload_n hx hb d_X_newSymbol_0 rfl (lv_at hl 0 rfl) ?_
  refine va_get (D := D) (ci := 7) (v := .int x0_36) (C := "SignMachineModel") (T := F_X) (N := 64) hx hb hk fi_X hown hK.1 hP 0 rfl rfl 36 (by decide) (hk _ k_1157) (fun _ h9 => h9) rfl d_X_newSymbol_1 ?_
  refine lv_bipush (v := 60) hx hb d_X_newSymbol_4 (by decide) ?_
  refine lv_icmp_ne (tgt := 17) hx hb d_X_newSymbol_6 (by decide) (fun c1 => ?_) (fun c1 => ?_)
  · have gc1 : x0_36.toInt ≠ (60 : Int) := c_ne c1
    have R2 : 0 ≤ x0_36.toInt ∧ x0_36.toInt ≤ 59 := rf_neX Rx0_36 (show 60 ≤ (60 : Int) ∧ (60 : Int) ≤ 60 from by decide) gc1 (by decide) (by decide)
    refine lv_aload_n hx hb d_X_newSymbol_17 rfl (lv_at hl 0 rfl) ?_
    refine va_get (D := D) (ci := 7) (v := .ref p11) (C := "SignMachineModel") (T := F_X) (N := 64) hx hb hk fi_X hown hK.1 hP 0 rfl rfl 33 (by decide) (hk _ k_1154) (fun _ h9 => h9) rfl d_X_newSymbol_18 ?_
    refine lv_aload_n hx hb d_X_newSymbol_21 rfl (lv_at hl 0 rfl) ?_
    refine va_get (D := D) (ci := 7) (v := .int x0_36) (C := "SignMachineModel") (T := F_X) (N := 64) hx hb hk fi_X hown hK.1 hP 0 rfl rfl 36 (by decide) (hk _ k_1157) (fun _ h9 => h9) rfl d_X_newSymbol_22 ?_
    refine lv_lload_n hx hb d_X_newSymbol_25 rfl (lv_at hl 1 rfl) ?_
    refine va_last hx hb hK.1 hP hD hS 11 1 rfl rfl (vpb R2 (by decide) (by decide)) d_X_newSymbol_26 (fun H locs hP hD hS => ?_)
    have hP : va_P D classes (wS50 cI cJ cZ cB p0 p1 p2 p3 p4 p5 p6 p7 p8 p9 p10 p11 p12 p13 p14 p15 p16 p17 p18 p19 p20 p21 p22 p23 p24 p25 x0_4 x0_5 x0_6 x0_7 x0_8 x0_12 x0_13 x0_14 x0_15 x0_16 x0_17 x0_18 x0_22 x0_23 x0_24 x0_25 x0_26 x0_27 x0_28 x0_29 x0_30 x0_31 x0_32 x0_36 x0_39 x0_40 x0_44 x0_49 x0_51 x0_53 x0_54 x0_55 x0_56 x0_57 x0_58 x0_59 x0_60 x0_61 x0_62 y1 y2 y3 y4 y5 y6 y7 y8 y9 y10 (vp_updL y11 (x0_36).toNatClampNeg a1) y12 y13 y14 y15 y16 y17 y18 y19 y20 y21 y22 y23 y24 y25) H := hP
    have hD : va_D A (wS50 cI cJ cZ cB p0 p1 p2 p3 p4 p5 p6 p7 p8 p9 p10 p11 p12 p13 p14 p15 p16 p17 p18 p19 p20 p21 p22 p23 p24 p25 x0_4 x0_5 x0_6 x0_7 x0_8 x0_12 x0_13 x0_14 x0_15 x0_16 x0_17 x0_18 x0_22 x0_23 x0_24 x0_25 x0_26 x0_27 x0_28 x0_29 x0_30 x0_31 x0_32 x0_36 x0_39 x0_40 x0_44 x0_49 x0_51 x0_53 x0_54 x0_55 x0_56 x0_57 x0_58 x0_59 x0_60 x0_61 x0_62 y1 y2 y3 y4 y5 y6 y7 y8 y9 y10 (vp_updL y11 (x0_36).toNatClampNeg a1) y12 y13 y14 y15 y16 y17 y18 y19 y20 y21 y22 y23 y24 y25) := hD
    obtain ⟨v3, hv3⟩ : ∃ y : Nat → Int64, y = (vp_updL y11 (x0_36).toNatClampNeg a1) := ⟨_, rfl⟩
    rw [← hv3] at hP hD
    clear hv3
    refine lv_aload_n hx hb d_X_newSymbol_27 rfl (lv_at hl 0 rfl) ?_
    refine va_get (D := D) (ci := 7) (v := .ref p12) (C := "SignMachineModel") (T := F_X) (N := 64) hx hb hk fi_X hown hK.1 hP 0 rfl rfl 34 (by decide) (hk _ k_1155) (fun _ h9 => h9) rfl d_X_newSymbol_28 ?_
    refine lv_aload_n hx hb d_X_newSymbol_31 rfl (lv_at hl 0 rfl) ?_
    refine va_get (D := D) (ci := 7) (v := .int x0_36) (C := "SignMachineModel") (T := F_X) (N := 64) hx hb hk fi_X hown hK.1 hP 0 rfl rfl 36 (by decide) (hk _ k_1157) (fun _ h9 => h9) rfl d_X_newSymbol_32 ?_
    refine lv_iconst (v := 0) hx hb d_X_newSymbol_35 (by decide) ?_
    refine va_zast hx hb hK.1 hP hD hS 12 2 rfl rfl (vpb R2 (by decide) (by decide)) d_X_newSymbol_36 (fun H locs hP hD hS => ?_)
    have hP : va_P D classes (wS50 cI cJ cZ cB p0 p1 p2 p3 p4 p5 p6 p7 p8 p9 p10 p11 p12 p13 p14 p15 p16 p17 p18 p19 p20 p21 p22 p23 p24 p25 x0_4 x0_5 x0_6 x0_7 x0_8 x0_12 x0_13 x0_14 x0_15 x0_16 x0_17 x0_18 x0_22 x0_23 x0_24 x0_25 x0_26 x0_27 x0_28 x0_29 x0_30 x0_31 x0_32 x0_36 x0_39 x0_40 x0_44 x0_49 x0_51 x0_53 x0_54 x0_55 x0_56 x0_57 x0_58 x0_59 x0_60 x0_61 x0_62 y1 y2 y3 y4 y5 y6 y7 y8 y9 y10 v3 (upd y12 (x0_36).toNatClampNeg (vp_nar .boolean (0 : Int32))) y13 y14 y15 y16 y17 y18 y19 y20 y21 y22 y23 y24 y25) H := hP
    have hD : va_D A (wS50 cI cJ cZ cB p0 p1 p2 p3 p4 p5 p6 p7 p8 p9 p10 p11 p12 p13 p14 p15 p16 p17 p18 p19 p20 p21 p22 p23 p24 p25 x0_4 x0_5 x0_6 x0_7 x0_8 x0_12 x0_13 x0_14 x0_15 x0_16 x0_17 x0_18 x0_22 x0_23 x0_24 x0_25 x0_26 x0_27 x0_28 x0_29 x0_30 x0_31 x0_32 x0_36 x0_39 x0_40 x0_44 x0_49 x0_51 x0_53 x0_54 x0_55 x0_56 x0_57 x0_58 x0_59 x0_60 x0_61 x0_62 y1 y2 y3 y4 y5 y6 y7 y8 y9 y10 v3 (upd y12 (x0_36).toNatClampNeg (vp_nar .boolean (0 : Int32))) y13 y14 y15 y16 y17 y18 y19 y20 y21 y22 y23 y24 y25) := hD
    obtain ⟨v4, hv4⟩ : ∃ y : Nat → Int32, y = (upd y12 (x0_36).toNatClampNeg (vp_nar .boolean (0 : Int32))) := ⟨_, rfl⟩
    rw [← hv4] at hP hD
    clear hv4
    refine lv_aload_n hx hb d_X_newSymbol_37 rfl (lv_at hl 0 rfl) ?_
    refine lv_dup hx hb d_X_newSymbol_38 rfl ?_
    refine va_get (D := D) (ci := 7) (v := .int x0_36) (C := "SignMachineModel") (T := F_X) (N := 64) hx hb hk fi_X hown hK.1 hP 0 rfl rfl 36 (by decide) (hk _ k_1157) (fun _ h9 => h9) rfl d_X_newSymbol_39 ?_
    refine lv_iconst (v := 1) hx hb d_X_newSymbol_42 (by decide) ?_
    refine lv_iadd hx hb d_X_newSymbol_43 ?_
    refine lv_topi (fun v5 hv5 => ?_)
    obtain ⟨ev5, Rv5⟩ : v5.toInt = x0_36.toInt + (1 : Int) ∧ (1 ≤ v5.toInt ∧ v5.toInt ≤ 60) := ad3 hv5 R2 (show 1 ≤ (1 : Int32).toInt ∧ (1 : Int32).toInt ≤ 1 from by decide) (by decide) (by decide) (by decide) (by decide)
    refine va_put (D := D) (ci := 7) (v := .int v5) (ty := .int) (C := "SignMachineModel") (T := F_X) (N := 64) hx hb hk fi_X ft_X ft_X_ok fn_X hown hK.1 hP hD hS 0 rfl rfl 36 (by decide) (hk _ k_1157) (fun _ h9 => h9) rfl (by decide +kernel) rfl rfl (Nat.le_of_ble_eq_true rfl) d_X_newSymbol_44 (fun H locs hP hD hS => ?_)
    have hP : va_P D classes (wS50 cI cJ cZ cB p0 p1 p2 p3 p4 p5 p6 p7 p8 p9 p10 p11 p12 p13 p14 p15 p16 p17 p18 p19 p20 p21 p22 p23 p24 p25 x0_4 x0_5 x0_6 x0_7 x0_8 x0_12 x0_13 x0_14 x0_15 x0_16 x0_17 x0_18 x0_22 x0_23 x0_24 x0_25 x0_26 x0_27 x0_28 x0_29 x0_30 x0_31 x0_32 v5 x0_39 x0_40 x0_44 x0_49 x0_51 x0_53 x0_54 x0_55 x0_56 x0_57 x0_58 x0_59 x0_60 x0_61 x0_62 y1 y2 y3 y4 y5 y6 y7 y8 y9 y10 v3 v4 y13 y14 y15 y16 y17 y18 y19 y20 y21 y22 y23 y24 y25) H := hP
    have hD : va_D A (wS50 cI cJ cZ cB p0 p1 p2 p3 p4 p5 p6 p7 p8 p9 p10 p11 p12 p13 p14 p15 p16 p17 p18 p19 p20 p21 p22 p23 p24 p25 x0_4 x0_5 x0_6 x0_7 x0_8 x0_12 x0_13 x0_14 x0_15 x0_16 x0_17 x0_18 x0_22 x0_23 x0_24 x0_25 x0_26 x0_27 x0_28 x0_29 x0_30 x0_31 x0_32 v5 x0_39 x0_40 x0_44 x0_49 x0_51 x0_53 x0_54 x0_55 x0_56 x0_57 x0_58 x0_59 x0_60 x0_61 x0_62 y1 y2 y3 y4 y5 y6 y7 y8 y9 y10 v3 v4 y13 y14 y15 y16 y17 y18 y19 y20 y21 y22 y23 y24 y25) := hD
    refine lv_aload_n hx hb d_X_newSymbol_47 rfl (lv_at hl 0 rfl) ?_
    refine va_get (D := D) (ci := 7) (v := .int v5) (C := "SignMachineModel") (T := F_X) (N := 64) hx hb hk fi_X hown hK.1 hP 0 rfl rfl 36 (by decide) (hk _ k_1157) (fun _ h9 => h9) rfl d_X_newSymbol_48 ?_
    refine lv_iconst (v := 1) hx hb d_X_newSymbol_51 (by decide) ?_
    refine lv_isub hx hb d_X_newSymbol_52 ?_
    refine lv_topi (fun v6 hv6 => ?_)
    obtain ⟨ev6, Rv6⟩ : v6.toInt = v5.toInt - (1 : Int) ∧ (0 ≤ v6.toInt ∧ v6.toInt ≤ 59) := sb3 hv6 Rv5 (show 1 ≤ (1 : Int32).toInt ∧ (1 : Int32).toInt ≤ 1 from by decide) (by decide) (by decide) (by decide) (by decide)
    exact W.iret (v := v6) hx hb hr (fun t ht hW => ⟨⟨v6, v6, rfl, rfl, ⟨x0_26, v5, v3, v4, Rx0_26, (rgw Rv5 (by decide) (by decide)), (rgw Rv6 (by decide) (by decide)), (show (v6.toInt = -2 ∧ v5.toInt = x0_36.toInt ∧ 1 ≤ x0_26.toInt) ∨ (v6.toInt = x0_36.toInt ∧ v5.toInt = x0_36.toInt + 1 ∧ x0_26.toInt = x0_26.toInt) from by omega), by show va_P D classes _ t.heap; rw [ht]; exact hP, hD⟩⟩, hS.F ht⟩) hS.2.2 d_X_newSymbol_53
  · have gc1 : x0_36.toInt = (60 : Int) := c_eq c1
    have R7 : 60 ≤ x0_36.toInt ∧ x0_36.toInt ≤ 60 := rf_eqX Rx0_36 (show 60 ≤ (60 : Int) ∧ (60 : Int) ≤ 60 from by decide) gc1 (by decide) (by decide)
    refine lv_aload_n hx hb d_X_newSymbol_9 rfl (lv_at hl 0 rfl) ?_
    refine lv_iconst (v := 5) hx hb d_X_newSymbol_10 (by decide) ?_
    refine kn_v (va_runV (C := "SignMachineModel") (As := [.int (5 : Int32)]) (rest := []) ⟨hx, hb, hml, hown, hk⟩ (c_X_bad l D cI cJ cZ cB p0 p1 p2 p3 p4 p5 p6 p7 p8 p9 p10 p11 p12 p13 p14 p15 p16 p17 p18 p19 p20 p21 p22 p23 p24 p25 s.heap.size x0_4 x0_5 x0_6 x0_7 x0_8 x0_12 x0_13 x0_14 x0_15 x0_16 x0_17 x0_18 x0_22 x0_23 x0_24 x0_25 x0_26 x0_27 x0_28 x0_29 x0_30 x0_31 x0_32 x0_36 x0_39 x0_40 x0_44 x0_49 x0_51 x0_53 x0_54 x0_55 x0_56 x0_57 x0_58 x0_59 x0_60 x0_61 x0_62 y1 y2 y3 y4 y5 y6 y7 y8 y9 y10 y11 y12 y13 y14 y15 y16 y17 y18 y19 y20 y21 y22 y23 y24 y25 (5 : Int32) Rx0_26 (by decide)) (v_X_bad hk k_1552 ⟨Nat.le_of_ble_eq_true rfl, Nat.le_of_ble_eq_true rfl⟩) (pM_v hK hP hD (ci := 7) (q0 := 0) rfl rfl rfl) rfl rfl hl.1 rfl (lv_room (Nat.le_of_ble_eq_true rfl)) d_X_newSymbol_11 ⟨Nat.le_of_ble_eq_true rfl, Nat.le_of_ble_eq_true rfl⟩) hS hA hD (fun u t H locs ht hB hFr hS => ?_)
    obtain ⟨x0_26z8, Rx0_26z8, F0z8, hP, hD⟩ := hB
    have F0z8 : 1 ≤ x0_26z8.toInt := F0z8
    rw [ht] at hP
    have hD := dwk hD hFr
    clear ht hFr
    have hP : va_P D classes (wS50 cI cJ cZ cB p0 p1 p2 p3 p4 p5 p6 p7 p8 p9 p10 p11 p12 p13 p14 p15 p16 p17 p18 p19 p20 p21 p22 p23 p24 p25 x0_4 x0_5 x0_6 x0_7 x0_8 x0_12 x0_13 x0_14 x0_15 x0_16 x0_17 x0_18 x0_22 x0_23 x0_24 x0_25 x0_26z8 x0_27 x0_28 x0_29 x0_30 x0_31 x0_32 x0_36 x0_39 x0_40 x0_44 x0_49 x0_51 x0_53 x0_54 x0_55 x0_56 x0_57 x0_58 x0_59 x0_60 x0_61 x0_62 y1 y2 y3 y4 y5 y6 y7 y8 y9 y10 y11 y12 y13 y14 y15 y16 y17 y18 y19 y20 y21 y22 y23 y24 y25) H := hP
    have hD : va_D A (wS50 cI cJ cZ cB p0 p1 p2 p3 p4 p5 p6 p7 p8 p9 p10 p11 p12 p13 p14 p15 p16 p17 p18 p19 p20 p21 p22 p23 p24 p25 x0_4 x0_5 x0_6 x0_7 x0_8 x0_12 x0_13 x0_14 x0_15 x0_16 x0_17 x0_18 x0_22 x0_23 x0_24 x0_25 x0_26z8 x0_27 x0_28 x0_29 x0_30 x0_31 x0_32 x0_36 x0_39 x0_40 x0_44 x0_49 x0_51 x0_53 x0_54 x0_55 x0_56 x0_57 x0_58 x0_59 x0_60 x0_61 x0_62 y1 y2 y3 y4 y5 y6 y7 y8 y9 y10 y11 y12 y13 y14 y15 y16 y17 y18 y19 y20 y21 y22 y23 y24 y25) := hD
    refine lv_bipush (v := (-2)) hx hb d_X_newSymbol_14 (by decide) ?_
    exact W.iret (v := (-2 : Int32)) hx hb hr (fun t ht hW => ⟨⟨(-2 : Int32), (-2 : Int32), rfl, rfl, ⟨x0_26z8, x0_36, y11, y12, Rx0_26z8, (rgw R7 (by decide) (by decide)), (by decide), (show ((-2 : Int) = -2 ∧ x0_36.toInt = x0_36.toInt ∧ 1 ≤ x0_26z8.toInt) ∨ ((-2 : Int) = x0_36.toInt ∧ x0_36.toInt = x0_36.toInt + 1 ∧ x0_26z8.toInt = x0_26.toInt) from by omega), by show va_P D classes _ t.heap; rw [ht]; exact hP, hD⟩⟩, hS.F ht⟩) hS.2.2 d_X_newSymbol_16
theorem v_X_newSymbol {R : Room} {s : State} {args : Array Value} {own : String} {index : Nat} (hk : ∀ w ∈ tb, w.before args s = true) (hl : Cond.methodLink own index y_X_newSymbol ∈ tb) (hR : 1 + 1 ≤ R.frames ∧ 8 + (3 + 11) + 21 ≤ R.locals) : CallW R s args own "SignMachineModel" index y_X_newSymbol b_X_newSymbol 3 (some .int) (.code y_X_newSymbol b_X_newSymbol 3 (some .int) :: tb) ({ frames := 1, cells := 0, slots := 0, locals := 21 }) 0 0 1 := mk_v 1 hk k_1633 hl k_1632 k_98 k_119 rfl rfl h_X_newSymbol hR
set_option maxHeartbeats 8000000 in
set_option maxRecDepth 100000 in
theorem c_X_looked (l : Launch) (D : va_G) (cI cJ cZ cB : ClassId) (p0 p1 p2 p3 p4 p5 p6 p7 p8 p9 p10 p11 p12 p13 p14 p15 p16 p17 p18 p19 p20 p21 p22 p23 p24 p25 : Nat) (sz : Nat) (x0_4 : Int32) (x0_5 : Int32) (x0_6 : Int32) (x0_7 : Int32) (x0_8 : Int32) (x0_12 : Int32) (x0_13 : Int32) (x0_14 : Int32) (x0_15 : Int32) (x0_16 : Int32) (x0_17 : Int32) (x0_18 : Int32) (x0_22 : Int32) (x0_23 : Int32) (x0_24 : Int32) (x0_25 : Int32) (x0_26 : Int32) (x0_27 : Int32) (x0_28 : Int32) (x0_29 : Int32) (x0_30 : Int32) (x0_31 : Int32) (x0_32 : Int32) (x0_36 : Int32) (x0_39 : Int32) (x0_40 : Int64) (x0_44 : Int32) (x0_49 : Int32) (x0_51 : Int32) (x0_53 : Int32) (x0_54 : Int32) (x0_55 : Int64) (x0_56 : Int32) (x0_57 : Int32) (x0_58 : Int32) (x0_59 : Int32) (x0_60 : Int32) (x0_61 : Int32) (x0_62 : Int64) (y1 : Nat → Int32) (y2 : Nat → Int32) (y3 : Nat → Int32) (y4 : Nat → Int32) (y5 : Nat → Int32) (y6 : Nat → Int32) (y7 : Nat → Int32) (y8 : Nat → Int32) (y9 : Nat → Int32) (y10 : Nat → Int32) (y11 : Nat → Int64) (y12 : Nat → Int32) (y13 : Nat → Int64) (y14 : Nat → Int32) (y15 : Nat → Int64) (y16 : Nat → Int32) (y17 : Nat → Int32) (y18 : Nat → Int32) (y19 : Nat → Int32) (y20 : Nat → Int32) (y21 : Nat → Int32) (y22 : Nat → Int32) (y23 : Nat → Int32) (y24 : Nat → Int64) (y25 : Nat → Int64) (a1 : Int64) (Rx0_26 : 0 ≤ x0_26.toInt ∧ x0_26.toInt ≤ 6) : Met l y_X_looked (.code y_X_looked b_X_looked 3 (some .long) :: tb) ({ frames := 1, cells := 0, slots := 0, locals := 21 }) (pM D cI cJ cZ cB (wS50 cI cJ cZ cB p0 p1 p2 p3 p4 p5 p6 p7 p8 p9 p10 p11 p12 p13 p14 p15 p16 p17 p18 p19 p20 p21 p22 p23 p24 p25 x0_4 x0_5 x0_6 x0_7 x0_8 x0_12 x0_13 x0_14 x0_15 x0_16 x0_17 x0_18 x0_22 x0_23 x0_24 x0_25 x0_26 x0_27 x0_28 x0_29 x0_30 x0_31 x0_32 x0_36 x0_39 x0_40 x0_44 x0_49 x0_51 x0_53 x0_54 x0_55 x0_56 x0_57 x0_58 x0_59 x0_60 x0_61 x0_62 y1 y2 y3 y4 y5 y6 y7 y8 y9 y10 y11 y12 y13 y14 y15 y16 y17 y18 y19 y20 y21 y22 y23 y24 y25) sz [.ref p0, .long a1]) (va_Ql (fun r (u : Int64) => r = u) (fun ur t => ∃ u_x0_26 : Int32, (0 ≤ u_x0_26.toInt ∧ u_x0_26.toInt ≤ 6) ∧ ((-1073741823) ≤ ur.toInt ∧ ur.toInt ≤ 1073741823) ∧ (1 ≤ x0_26.toInt → 1 ≤ u_x0_26.toInt) ∧ va_P D classes (wS50 cI cJ cZ cB p0 p1 p2 p3 p4 p5 p6 p7 p8 p9 p10 p11 p12 p13 p14 p15 p16 p17 p18 p19 p20 p21 p22 p23 p24 p25 x0_4 x0_5 x0_6 x0_7 x0_8 x0_12 x0_13 x0_14 x0_15 x0_16 x0_17 x0_18 x0_22 x0_23 x0_24 x0_25 u_x0_26 x0_27 x0_28 x0_29 x0_30 x0_31 x0_32 x0_36 x0_39 x0_40 x0_44 x0_49 x0_51 x0_53 x0_54 x0_55 x0_56 x0_57 x0_58 x0_59 x0_60 x0_61 x0_62 y1 y2 y3 y4 y5 y6 y7 y8 y9 y10 y11 y12 y13 y14 y15 y16 y17 y18 y19 y20 y21 y22 y23 y24 y25) t.heap ∧ va_D (va_A (wS50 cI cJ cZ cB p0 p1 p2 p3 p4 p5 p6 p7 p8 p9 p10 p11 p12 p13 p14 p15 p16 p17 p18 p19 p20 p21 p22 p23 p24 p25 x0_4 x0_5 x0_6 x0_7 x0_8 x0_12 x0_13 x0_14 x0_15 x0_16 x0_17 x0_18 x0_22 x0_23 x0_24 x0_25 x0_26 x0_27 x0_28 x0_29 x0_30 x0_31 x0_32 x0_36 x0_39 x0_40 x0_44 x0_49 x0_51 x0_53 x0_54 x0_55 x0_56 x0_57 x0_58 x0_59 x0_60 x0_61 x0_62 y1 y2 y3 y4 y5 y6 y7 y8 y9 y10 y11 y12 y13 y14 y15 y16 y17 y18 y19 y20 y21 y22 y23 y24 y25) sz) (wS50 cI cJ cZ cB p0 p1 p2 p3 p4 p5 p6 p7 p8 p9 p10 p11 p12 p13 p14 p15 p16 p17 p18 p19 p20 p21 p22 p23 p24 p25 x0_4 x0_5 x0_6 x0_7 x0_8 x0_12 x0_13 x0_14 x0_15 x0_16 x0_17 x0_18 x0_22 x0_23 x0_24 x0_25 u_x0_26 x0_27 x0_28 x0_29 x0_30 x0_31 x0_32 x0_36 x0_39 x0_40 x0_44 x0_49 x0_51 x0_53 x0_54 x0_55 x0_56 x0_57 x0_58 x0_59 x0_60 x0_61 x0_62 y1 y2 y3 y4 y5 y6 y7 y8 y9 y10 y11 y12 y13 y14 y15 y16 y17 y18 y19 y20 y21 y22 y23 y24 y25)) (va_A (wS50 cI cJ cZ cB p0 p1 p2 p3 p4 p5 p6 p7 p8 p9 p10 p11 p12 p13 p14 p15 p16 p17 p18 p19 p20 p21 p22 p23 p24 p25 x0_4 x0_5 x0_6 x0_7 x0_8 x0_12 x0_13 x0_14 x0_15 x0_16 x0_17 x0_18 x0_22 x0_23 x0_24 x0_25 x0_26 x0_27 x0_28 x0_29 x0_30 x0_31 x0_32 x0_36 x0_39 x0_40 x0_44 x0_49 x0_51 x0_53 x0_54 x0_55 x0_56 x0_57 x0_58 x0_59 x0_60 x0_61 x0_62 y1 y2 y3 y4 y5 y6 y7 y8 y9 y10 y11 y12 y13 y14 y15 y16 y17 y18 y19 y20 y21 y22 y23 y24 y25) sz)) 0 0 (va_A (wS50 cI cJ cZ cB p0 p1 p2 p3 p4 p5 p6 p7 p8 p9 p10 p11 p12 p13 p14 p15 p16 p17 p18 p19 p20 p21 p22 p23 p24 p25 x0_4 x0_5 x0_6 x0_7 x0_8 x0_12 x0_13 x0_14 x0_15 x0_16 x0_17 x0_18 x0_22 x0_23 x0_24 x0_25 x0_26 x0_27 x0_28 x0_29 x0_30 x0_31 x0_32 x0_36 x0_39 x0_40 x0_44 x0_49 x0_51 x0_53 x0_54 x0_55 x0_56 x0_57 x0_58 x0_59 x0_60 x0_61 x0_62 y1 y2 y3 y4 y5 y6 y7 y8 y9 y10 y11 y12 y13 y14 y15 y16 y17 y18 y19 y20 y21 y22 y23 y24 y25) sz) := by
  refine Met.ofW (cc := b_X_looked) (maxL := 3) (ret := (some .long)) (by decide) rfl ?_
  intro p e s m args below meth c s₁ B hml hv
  obtain ⟨rfl, hsz, hK, hP, hD0⟩ := hv
  subst hsz
  have hD := hD0.self (sz := s.heap.size)
  generalize hAe : va_A (wS50 cI cJ cZ cB p0 p1 p2 p3 p4 p5 p6 p7 p8 p9 p10 p11 p12 p13 p14 p15 p16 p17 p18 p19 p20 p21 p22 p23 p24 p25 x0_4 x0_5 x0_6 x0_7 x0_8 x0_12 x0_13 x0_14 x0_15 x0_16 x0_17 x0_18 x0_22 x0_23 x0_24 x0_25 x0_26 x0_27 x0_28 x0_29 x0_30 x0_31 x0_32 x0_36 x0_39 x0_40 x0_44 x0_49 x0_51 x0_53 x0_54 x0_55 x0_56 x0_57 x0_58 x0_59 x0_60 x0_61 x0_62 y1 y2 y3 y4 y5 y6 y7 y8 y9 y10 y11 y12 y13 y14 y15 y16 y17 y18 y19 y20 y21 y22 y23 y24 y25) s.heap.size = A at hD ⊢
  have hA : ∀ q : Nat, s.heap.size ≤ q → A q := fun q h => by rw [← hAe]; exact Or.inr h
  clear hAe hD0
  have hS : va_S A s.heap s.heap [] := va_S.rf
  have hx := B.exec
  have hb := B.bytes
  have hr := B.returns
  have hts := atoms_spec (ws := .code y_X_looked b_X_looked 3 (some .long) :: tb) B.pre
  have hk : ∀ w ∈ tb, w.before [.ref p0, .long a1].toArray s = true := fun w h => hts w (List.mem_cons_of_mem _ h)
  have hown : s.vm.findClass "SignMachineModel" = some m.cls := findClass_of_methodNamed B.named
  have hlocks := B.notSynchronized
  have hl := lv_entry ([.ref p0, .long a1]) (n := 3) (Nat.le_of_ble_eq_true rfl)
  rw [lg_entry_eq]
  generalize (lg_sl ([.ref p0, .long a1]) ++ List.replicate (3 - (lg_sl ([.ref p0, .long a1])).length) Slot.unset).toArray = ls at hl ⊢
  have hl : lv_has ls 3 [(0, .ref p0), (1, .long a1)] := hl
  clear hts B
  refine lv_lload_n hx hb d_X_looked_0 rfl (lv_at hl 1 rfl) ?_
  refine lv_ldc2 (v := 1073741824) hx hb hown (hk _ k_1461) d_X_looked_1 ?_
  refine W.lcmp hx hb d_X_looked_4 ?_
  refine lv_topi (fun v1 hv1 => ?_)
  refine lv_if_ge (tgt := 16) hx hb d_X_looked_5 (by decide) (fun c2 => ?_) (fun c2 => ?_)
  · have gc2 : (1073741824 : Int) ≤ a1.toInt := lc_ge hv1 c2
    have R3 : 1073741824 ≤ a1.toInt ∧ a1.toInt ≤ 9223372036854775807 := rf_geX (fr6 a1) (show 1073741824 ≤ (1073741824 : Int) ∧ (1073741824 : Int) ≤ 1073741824 from by decide) gc2 (by decide) (by decide)
    refine lv_aload_n hx hb d_X_looked_16 rfl (lv_at hl 0 rfl) ?_
    refine lv_iconst (v := 4) hx hb d_X_looked_17 (by decide) ?_
    refine kn_v (va_runV (C := "SignMachineModel") (As := [.int (4 : Int32)]) (rest := []) ⟨hx, hb, hml, hown, hk⟩ (c_X_bad l D cI cJ cZ cB p0 p1 p2 p3 p4 p5 p6 p7 p8 p9 p10 p11 p12 p13 p14 p15 p16 p17 p18 p19 p20 p21 p22 p23 p24 p25 s.heap.size x0_4 x0_5 x0_6 x0_7 x0_8 x0_12 x0_13 x0_14 x0_15 x0_16 x0_17 x0_18 x0_22 x0_23 x0_24 x0_25 x0_26 x0_27 x0_28 x0_29 x0_30 x0_31 x0_32 x0_36 x0_39 x0_40 x0_44 x0_49 x0_51 x0_53 x0_54 x0_55 x0_56 x0_57 x0_58 x0_59 x0_60 x0_61 x0_62 y1 y2 y3 y4 y5 y6 y7 y8 y9 y10 y11 y12 y13 y14 y15 y16 y17 y18 y19 y20 y21 y22 y23 y24 y25 (4 : Int32) Rx0_26 (by decide)) (v_X_bad hk k_1552 ⟨Nat.le_of_ble_eq_true rfl, Nat.le_of_ble_eq_true rfl⟩) (pM_v hK hP hD (ci := 7) (q0 := 0) rfl rfl rfl) rfl rfl hl.1 rfl (lv_room (Nat.le_of_ble_eq_true rfl)) d_X_looked_18 ⟨Nat.le_of_ble_eq_true rfl, Nat.le_of_ble_eq_true rfl⟩) hS hA hD (fun u t H locs ht hB hFr hS => ?_)
    obtain ⟨x0_26z4, Rx0_26z4, F0z4, hP, hD⟩ := hB
    have F0z4 : 1 ≤ x0_26z4.toInt := F0z4
    rw [ht] at hP
    have hD := dwk hD hFr
    clear ht hFr
    have hP : va_P D classes (wS50 cI cJ cZ cB p0 p1 p2 p3 p4 p5 p6 p7 p8 p9 p10 p11 p12 p13 p14 p15 p16 p17 p18 p19 p20 p21 p22 p23 p24 p25 x0_4 x0_5 x0_6 x0_7 x0_8 x0_12 x0_13 x0_14 x0_15 x0_16 x0_17 x0_18 x0_22 x0_23 x0_24 x0_25 x0_26z4 x0_27 x0_28 x0_29 x0_30 x0_31 x0_32 x0_36 x0_39 x0_40 x0_44 x0_49 x0_51 x0_53 x0_54 x0_55 x0_56 x0_57 x0_58 x0_59 x0_60 x0_61 x0_62 y1 y2 y3 y4 y5 y6 y7 y8 y9 y10 y11 y12 y13 y14 y15 y16 y17 y18 y19 y20 y21 y22 y23 y24 y25) H := hP
    have hD : va_D A (wS50 cI cJ cZ cB p0 p1 p2 p3 p4 p5 p6 p7 p8 p9 p10 p11 p12 p13 p14 p15 p16 p17 p18 p19 p20 p21 p22 p23 p24 p25 x0_4 x0_5 x0_6 x0_7 x0_8 x0_12 x0_13 x0_14 x0_15 x0_16 x0_17 x0_18 x0_22 x0_23 x0_24 x0_25 x0_26z4 x0_27 x0_28 x0_29 x0_30 x0_31 x0_32 x0_36 x0_39 x0_40 x0_44 x0_49 x0_51 x0_53 x0_54 x0_55 x0_56 x0_57 x0_58 x0_59 x0_60 x0_61 x0_62 y1 y2 y3 y4 y5 y6 y7 y8 y9 y10 y11 y12 y13 y14 y15 y16 y17 y18 y19 y20 y21 y22 y23 y24 y25) := hD
    refine lv_lconst (v := 0) hx hb d_X_looked_21 (by decide) ?_
    exact W.lret (v := (0 : Int64)) hx hb hr (fun t ht hW => ⟨⟨(0 : Int64), (0 : Int64), rfl, rfl, ⟨x0_26z4, Rx0_26z4, (by decide), (show 1 ≤ x0_26.toInt → 1 ≤ x0_26z4.toInt from by omega), by show va_P D classes _ t.heap; rw [ht]; exact hP, hD⟩⟩, hS.F ht⟩) hS.2.2 d_X_looked_22
  · have gc2 : a1.toInt < (1073741824 : Int) := lc_nge hv1 c2
    have R5 : (-9223372036854775808) ≤ a1.toInt ∧ a1.toInt ≤ 1073741823 := rf_ltX (fr6 a1) (show 1073741824 ≤ (1073741824 : Int) ∧ (1073741824 : Int) ≤ 1073741824 from by decide) gc2 (by decide) (by decide)
    refine lv_lload_n hx hb d_X_looked_8 rfl (lv_at hl 1 rfl) ?_
    refine lv_ldc2 (v := (-1073741824)) hx hb hown (hk _ k_1665) d_X_looked_9 ?_
    refine W.lcmp hx hb d_X_looked_12 ?_
    refine lv_topi (fun v6 hv6 => ?_)
    refine lv_if_gt (tgt := 23) hx hb d_X_looked_13 (by decide) (fun c7 => ?_) (fun c7 => ?_)
    · have gc7 : (-1073741824 : Int) < a1.toInt := lc_gt hv6 c7
      have R8 : (-1073741823) ≤ a1.toInt ∧ a1.toInt ≤ 1073741823 := rf_gtX R5 (show (-1073741824) ≤ (-1073741824 : Int) ∧ (-1073741824 : Int) ≤ (-1073741824) from by decide) gc7 (by decide) (by decide)
      refine lv_lload_n hx hb d_X_looked_23 rfl (lv_at hl 1 rfl) ?_
      exact W.lret (v := a1) hx hb hr (fun t ht hW => ⟨⟨a1, a1, rfl, rfl, ⟨x0_26, Rx0_26, R8, (show 1 ≤ x0_26.toInt → 1 ≤ x0_26.toInt from by omega), by show va_P D classes _ t.heap; rw [ht]; exact hP, hD⟩⟩, hS.F ht⟩) hS.2.2 d_X_looked_24
    · have gc7 : a1.toInt ≤ (-1073741824 : Int) := lc_ngt hv6 c7
      have R9 : (-9223372036854775808) ≤ a1.toInt ∧ a1.toInt ≤ (-1073741824) := rf_leX R5 (show (-1073741824) ≤ (-1073741824 : Int) ∧ (-1073741824 : Int) ≤ (-1073741824) from by decide) gc7 (by decide) (by decide)
      refine lv_aload_n hx hb d_X_looked_16 rfl (lv_at hl 0 rfl) ?_
      refine lv_iconst (v := 4) hx hb d_X_looked_17 (by decide) ?_
      refine kn_v (va_runV (C := "SignMachineModel") (As := [.int (4 : Int32)]) (rest := []) ⟨hx, hb, hml, hown, hk⟩ (c_X_bad l D cI cJ cZ cB p0 p1 p2 p3 p4 p5 p6 p7 p8 p9 p10 p11 p12 p13 p14 p15 p16 p17 p18 p19 p20 p21 p22 p23 p24 p25 s.heap.size x0_4 x0_5 x0_6 x0_7 x0_8 x0_12 x0_13 x0_14 x0_15 x0_16 x0_17 x0_18 x0_22 x0_23 x0_24 x0_25 x0_26 x0_27 x0_28 x0_29 x0_30 x0_31 x0_32 x0_36 x0_39 x0_40 x0_44 x0_49 x0_51 x0_53 x0_54 x0_55 x0_56 x0_57 x0_58 x0_59 x0_60 x0_61 x0_62 y1 y2 y3 y4 y5 y6 y7 y8 y9 y10 y11 y12 y13 y14 y15 y16 y17 y18 y19 y20 y21 y22 y23 y24 y25 (4 : Int32) Rx0_26 (by decide)) (v_X_bad hk k_1552 ⟨Nat.le_of_ble_eq_true rfl, Nat.le_of_ble_eq_true rfl⟩) (pM_v hK hP hD (ci := 7) (q0 := 0) rfl rfl rfl) rfl rfl hl.1 rfl (lv_room (Nat.le_of_ble_eq_true rfl)) d_X_looked_18 ⟨Nat.le_of_ble_eq_true rfl, Nat.le_of_ble_eq_true rfl⟩) hS hA hD (fun u t H locs ht hB hFr hS => ?_)
      obtain ⟨x0_26z10, Rx0_26z10, F0z10, hP, hD⟩ := hB
      have F0z10 : 1 ≤ x0_26z10.toInt := F0z10
      rw [ht] at hP
      have hD := dwk hD hFr
      clear ht hFr
      have hP : va_P D classes (wS50 cI cJ cZ cB p0 p1 p2 p3 p4 p5 p6 p7 p8 p9 p10 p11 p12 p13 p14 p15 p16 p17 p18 p19 p20 p21 p22 p23 p24 p25 x0_4 x0_5 x0_6 x0_7 x0_8 x0_12 x0_13 x0_14 x0_15 x0_16 x0_17 x0_18 x0_22 x0_23 x0_24 x0_25 x0_26z10 x0_27 x0_28 x0_29 x0_30 x0_31 x0_32 x0_36 x0_39 x0_40 x0_44 x0_49 x0_51 x0_53 x0_54 x0_55 x0_56 x0_57 x0_58 x0_59 x0_60 x0_61 x0_62 y1 y2 y3 y4 y5 y6 y7 y8 y9 y10 y11 y12 y13 y14 y15 y16 y17 y18 y19 y20 y21 y22 y23 y24 y25) H := hP
      have hD : va_D A (wS50 cI cJ cZ cB p0 p1 p2 p3 p4 p5 p6 p7 p8 p9 p10 p11 p12 p13 p14 p15 p16 p17 p18 p19 p20 p21 p22 p23 p24 p25 x0_4 x0_5 x0_6 x0_7 x0_8 x0_12 x0_13 x0_14 x0_15 x0_16 x0_17 x0_18 x0_22 x0_23 x0_24 x0_25 x0_26z10 x0_27 x0_28 x0_29 x0_30 x0_31 x0_32 x0_36 x0_39 x0_40 x0_44 x0_49 x0_51 x0_53 x0_54 x0_55 x0_56 x0_57 x0_58 x0_59 x0_60 x0_61 x0_62 y1 y2 y3 y4 y5 y6 y7 y8 y9 y10 y11 y12 y13 y14 y15 y16 y17 y18 y19 y20 y21 y22 y23 y24 y25) := hD
      refine lv_lconst (v := 0) hx hb d_X_looked_21 (by decide) ?_
      exact W.lret (v := (0 : Int64)) hx hb hr (fun t ht hW => ⟨⟨(0 : Int64), (0 : Int64), rfl, rfl, ⟨x0_26z10, Rx0_26z10, (by decide), (show 1 ≤ x0_26.toInt → 1 ≤ x0_26z10.toInt from by omega), by show va_P D classes _ t.heap; rw [ht]; exact hP, hD⟩⟩, hS.F ht⟩) hS.2.2 d_X_looked_22
theorem v_X_looked {R : Room} {s : State} {args : Array Value} {own : String} {index : Nat} (hk : ∀ w ∈ tb, w.before args s = true) (hl : Cond.methodLink own index y_X_looked ∈ tb) (hR : 1 + 1 ≤ R.frames ∧ 8 + (3 + 11) + 21 ≤ R.locals) : CallW R s args own "SignMachineModel" index y_X_looked b_X_looked 3 (some .long) (.code y_X_looked b_X_looked 3 (some .long) :: tb) ({ frames := 1, cells := 0, slots := 0, locals := 21 }) 0 0 1 := mk_v 1 hk k_1664 hl k_1663 k_105 k_119 rfl rfl h_X_looked hR
set_option maxHeartbeats 8000000 in
set_option maxRecDepth 100000 in
theorem c_X_atom (l : Launch) (D : va_G) (cI cJ cZ cB : ClassId) (p0 p1 p2 p3 p4 p5 p6 p7 p8 p9 p10 p11 p12 p13 p14 p15 p16 p17 p18 p19 p20 p21 p22 p23 p24 p25 : Nat) (sz : Nat) (x0_4 : Int32) (x0_5 : Int32) (x0_6 : Int32) (x0_7 : Int32) (x0_8 : Int32) (x0_12 : Int32) (x0_13 : Int32) (x0_14 : Int32) (x0_15 : Int32) (x0_16 : Int32) (x0_17 : Int32) (x0_18 : Int32) (x0_22 : Int32) (x0_23 : Int32) (x0_24 : Int32) (x0_25 : Int32) (x0_26 : Int32) (x0_27 : Int32) (x0_28 : Int32) (x0_29 : Int32) (x0_30 : Int32) (x0_31 : Int32) (x0_32 : Int32) (x0_36 : Int32) (x0_39 : Int32) (x0_40 : Int64) (x0_44 : Int32) (x0_49 : Int32) (x0_51 : Int32) (x0_53 : Int32) (x0_54 : Int32) (x0_55 : Int64) (x0_56 : Int32) (x0_57 : Int32) (x0_58 : Int32) (x0_59 : Int32) (x0_60 : Int32) (x0_61 : Int32) (x0_62 : Int64) (y1 : Nat → Int32) (y2 : Nat → Int32) (y3 : Nat → Int32) (y4 : Nat → Int32) (y5 : Nat → Int32) (y6 : Nat → Int32) (y7 : Nat → Int32) (y8 : Nat → Int32) (y9 : Nat → Int32) (y10 : Nat → Int32) (y11 : Nat → Int64) (y12 : Nat → Int32) (y13 : Nat → Int64) (y14 : Nat → Int32) (y15 : Nat → Int64) (y16 : Nat → Int32) (y17 : Nat → Int32) (y18 : Nat → Int32) (y19 : Nat → Int32) (y20 : Nat → Int32) (y21 : Nat → Int32) (y22 : Nat → Int32) (y23 : Nat → Int32) (y24 : Nat → Int64) (y25 : Nat → Int64)  (Rx0_24 : 0 ≤ x0_24.toInt ∧ x0_24.toInt ≤ 4000) (Rx0_25 : 0 ≤ x0_25.toInt ∧ x0_25.toInt ≤ 4000) (Rx0_26 : 0 ≤ x0_26.toInt ∧ x0_26.toInt ≤ 6) (Rx0_30 : (-1073741823) ≤ x0_30.toInt ∧ x0_30.toInt ≤ 1073741823) (Rx0_36 : 0 ≤ x0_36.toInt ∧ x0_36.toInt ≤ 60) (Rx0_54 : 0 ≤ x0_54.toInt ∧ x0_54.toInt ≤ 3) (Ay13 : ∀ i : Nat, (-1073741823 ≤ (y13 i).toInt ∧ (y13 i).toInt ≤ 1073741823)) (Ay15 : ∀ i : Nat, (-1073741823 ≤ (y15 i).toInt ∧ (y15 i).toInt ≤ 1073741823)) (Q0 : x0_25.toInt ≤ x0_24.toInt) : Met l y_X_atom (.code y_X_atom b_X_atom 2 (some .long) :: tb) ({ frames := 2, cells := 0, slots := 0, locals := 49 }) (pM D cI cJ cZ cB (wS50 cI cJ cZ cB p0 p1 p2 p3 p4 p5 p6 p7 p8 p9 p10 p11 p12 p13 p14 p15 p16 p17 p18 p19 p20 p21 p22 p23 p24 p25 x0_4 x0_5 x0_6 x0_7 x0_8 x0_12 x0_13 x0_14 x0_15 x0_16 x0_17 x0_18 x0_22 x0_23 x0_24 x0_25 x0_26 x0_27 x0_28 x0_29 x0_30 x0_31 x0_32 x0_36 x0_39 x0_40 x0_44 x0_49 x0_51 x0_53 x0_54 x0_55 x0_56 x0_57 x0_58 x0_59 x0_60 x0_61 x0_62 y1 y2 y3 y4 y5 y6 y7 y8 y9 y10 y11 y12 y13 y14 y15 y16 y17 y18 y19 y20 y21 y22 y23 y24 y25) sz [.ref p0]) (va_Ql (fun r (u : Int64) => r = u) (fun ur t => ∃ u_x0_25 : Int32, ∃ u_x0_26 : Int32, ∃ u_x0_54 : Int32, ∃ u_x0_55 : Int64, ∃ u_x0_56 : Int32, (0 ≤ u_x0_25.toInt ∧ u_x0_25.toInt ≤ 4000) ∧ (0 ≤ u_x0_26.toInt ∧ u_x0_26.toInt ≤ 6) ∧ (0 ≤ u_x0_54.toInt ∧ u_x0_54.toInt ≤ 3) ∧ ((-1073741823) ≤ ur.toInt ∧ ur.toInt ≤ 1073741823) ∧ (x0_25.toInt ≤ u_x0_25.toInt ∧ u_x0_25.toInt ≤ x0_24.toInt) ∧ (1 ≤ x0_26.toInt → 1 ≤ u_x0_26.toInt) ∧ va_P D classes (wS50 cI cJ cZ cB p0 p1 p2 p3 p4 p5 p6 p7 p8 p9 p10 p11 p12 p13 p14 p15 p16 p17 p18 p19 p20 p21 p22 p23 p24 p25 x0_4 x0_5 x0_6 x0_7 x0_8 x0_12 x0_13 x0_14 x0_15 x0_16 x0_17 x0_18 x0_22 x0_23 x0_24 u_x0_25 u_x0_26 x0_27 x0_28 x0_29 x0_30 x0_31 x0_32 x0_36 x0_39 x0_40 x0_44 x0_49 x0_51 x0_53 u_x0_54 u_x0_55 u_x0_56 x0_57 x0_58 x0_59 x0_60 x0_61 x0_62 y1 y2 y3 y4 y5 y6 y7 y8 y9 y10 y11 y12 y13 y14 y15 y16 y17 y18 y19 y20 y21 y22 y23 y24 y25) t.heap ∧ va_D (va_A (wS50 cI cJ cZ cB p0 p1 p2 p3 p4 p5 p6 p7 p8 p9 p10 p11 p12 p13 p14 p15 p16 p17 p18 p19 p20 p21 p22 p23 p24 p25 x0_4 x0_5 x0_6 x0_7 x0_8 x0_12 x0_13 x0_14 x0_15 x0_16 x0_17 x0_18 x0_22 x0_23 x0_24 x0_25 x0_26 x0_27 x0_28 x0_29 x0_30 x0_31 x0_32 x0_36 x0_39 x0_40 x0_44 x0_49 x0_51 x0_53 x0_54 x0_55 x0_56 x0_57 x0_58 x0_59 x0_60 x0_61 x0_62 y1 y2 y3 y4 y5 y6 y7 y8 y9 y10 y11 y12 y13 y14 y15 y16 y17 y18 y19 y20 y21 y22 y23 y24 y25) sz) (wS50 cI cJ cZ cB p0 p1 p2 p3 p4 p5 p6 p7 p8 p9 p10 p11 p12 p13 p14 p15 p16 p17 p18 p19 p20 p21 p22 p23 p24 p25 x0_4 x0_5 x0_6 x0_7 x0_8 x0_12 x0_13 x0_14 x0_15 x0_16 x0_17 x0_18 x0_22 x0_23 x0_24 u_x0_25 u_x0_26 x0_27 x0_28 x0_29 x0_30 x0_31 x0_32 x0_36 x0_39 x0_40 x0_44 x0_49 x0_51 x0_53 u_x0_54 u_x0_55 u_x0_56 x0_57 x0_58 x0_59 x0_60 x0_61 x0_62 y1 y2 y3 y4 y5 y6 y7 y8 y9 y10 y11 y12 y13 y14 y15 y16 y17 y18 y19 y20 y21 y22 y23 y24 y25)) (va_A (wS50 cI cJ cZ cB p0 p1 p2 p3 p4 p5 p6 p7 p8 p9 p10 p11 p12 p13 p14 p15 p16 p17 p18 p19 p20 p21 p22 p23 p24 p25 x0_4 x0_5 x0_6 x0_7 x0_8 x0_12 x0_13 x0_14 x0_15 x0_16 x0_17 x0_18 x0_22 x0_23 x0_24 x0_25 x0_26 x0_27 x0_28 x0_29 x0_30 x0_31 x0_32 x0_36 x0_39 x0_40 x0_44 x0_49 x0_51 x0_53 x0_54 x0_55 x0_56 x0_57 x0_58 x0_59 x0_60 x0_61 x0_62 y1 y2 y3 y4 y5 y6 y7 y8 y9 y10 y11 y12 y13 y14 y15 y16 y17 y18 y19 y20 y21 y22 y23 y24 y25) sz)) 0 0 (va_A (wS50 cI cJ cZ cB p0 p1 p2 p3 p4 p5 p6 p7 p8 p9 p10 p11 p12 p13 p14 p15 p16 p17 p18 p19 p20 p21 p22 p23 p24 p25 x0_4 x0_5 x0_6 x0_7 x0_8 x0_12 x0_13 x0_14 x0_15 x0_16 x0_17 x0_18 x0_22 x0_23 x0_24 x0_25 x0_26 x0_27 x0_28 x0_29 x0_30 x0_31 x0_32 x0_36 x0_39 x0_40 x0_44 x0_49 x0_51 x0_53 x0_54 x0_55 x0_56 x0_57 x0_58 x0_59 x0_60 x0_61 x0_62 y1 y2 y3 y4 y5 y6 y7 y8 y9 y10 y11 y12 y13 y14 y15 y16 y17 y18 y19 y20 y21 y22 y23 y24 y25) sz) := by
  refine Met.ofW (cc := b_X_atom) (maxL := 2) (ret := (some .long)) (by decide) rfl ?_
  intro p e s m args below meth c s₁ B hml hv
  obtain ⟨rfl, hsz, hK, hP, hD0⟩ := hv
  subst hsz
  have hD := hD0.self (sz := s.heap.size)
  generalize hAe : va_A (wS50 cI cJ cZ cB p0 p1 p2 p3 p4 p5 p6 p7 p8 p9 p10 p11 p12 p13 p14 p15 p16 p17 p18 p19 p20 p21 p22 p23 p24 p25 x0_4 x0_5 x0_6 x0_7 x0_8 x0_12 x0_13 x0_14 x0_15 x0_16 x0_17 x0_18 x0_22 x0_23 x0_24 x0_25 x0_26 x0_27 x0_28 x0_29 x0_30 x0_31 x0_32 x0_36 x0_39 x0_40 x0_44 x0_49 x0_51 x0_53 x0_54 x0_55 x0_56 x0_57 x0_58 x0_59 x0_60 x0_61 x0_62 y1 y2 y3 y4 y5 y6 y7 y8 y9 y10 y11 y12 y13 y14 y15 y16 y17 y18 y19 y20 y21 y22 y23 y24 y25) s.heap.size = A at hD ⊢
  have hA : ∀ q : Nat, s.heap.size ≤ q → A q := fun q h => by rw [← hAe]; exact Or.inr h
  clear hAe hD0
  have hS : va_S A s.heap s.heap [] := va_S.rf
  have hx := B.exec
  have hb := B.bytes
  have hr := B.returns
  have hts := atoms_spec (ws := .code y_X_atom b_X_atom 2 (some .long) :: tb) B.pre
  have hk : ∀ w ∈ tb, w.before [.ref p0].toArray s = true := fun w h => hts w (List.mem_cons_of_mem _ h)
  have hown : s.vm.findClass "SignMachineModel" = some m.cls := findClass_of_methodNamed B.named
  have hlocks := B.notSynchronized
  have hl := lv_entry ([.ref p0]) (n := 2) (Nat.le_of_ble_eq_true rfl)
  rw [lg_entry_eq]
  generalize (lg_sl ([.ref p0]) ++ List.replicate (2 - (lg_sl ([.ref p0])).length) Slot.unset).toArray = ls at hl ⊢
  have hl : lv_has ls 2 [(0, .ref p0)] := hl
  clear hts B
  refine lv_aload_n hx hb d_X_atom_0 rfl (lv_at hl 0 rfl) ?_
  refine sn_i (va_runV (C := "SignMachineModel") (As := []) (rest := []) ⟨hx, hb, hml, hown, hk⟩ (c_X_here l D cI cJ cZ cB p0 p1 p2 p3 p4 p5 p6 p7 p8 p9 p10 p11 p12 p13 p14 p15 p16 p17 p18 p19 p20 p21 p22 p23 p24 p25 s.heap.size x0_4 x0_5 x0_6 x0_7 x0_8 x0_12 x0_13 x0_14 x0_15 x0_16 x0_17 x0_18 x0_22 x0_23 x0_24 x0_25 x0_26 x0_27 x0_28 x0_29 x0_30 x0_31 x0_32 x0_36 x0_39 x0_40 x0_44 x0_49 x0_51 x0_53 x0_54 x0_55 x0_56 x0_57 x0_58 x0_59 x0_60 x0_61 x0_62 y1 y2 y3 y4 y5 y6 y7 y8 y9 y10 y11 y12 y13 y14 y15 y16 y17 y18 y19 y20 y21 y22 y23 y24 y25  Rx0_24 Rx0_25) (v_X_here hk k_1537 ⟨Nat.le_of_ble_eq_true rfl, Nat.le_of_ble_eq_true rfl⟩) (pM_v hK hP hD (ci := 7) (q0 := 0) rfl rfl rfl) rfl rfl hl.1 rfl (lv_room (Nat.le_of_ble_eq_true rfl)) d_X_atom_1 ⟨Nat.le_of_ble_eq_true rfl, Nat.le_of_ble_eq_true rfl⟩) hS hA hD (fun rz1 u t H locs hr0 ht hB hFr hS => ?_)
  subst hr0
  obtain ⟨F0z1, hP, hD⟩ := hB
  have F0z1 : (x0_25.toInt < x0_24.toInt ∧ rz1.toInt = (y10 (x0_25).toNatClampNeg).toInt) ∨ (x0_24.toInt ≤ x0_25.toInt ∧ rz1.toInt = -1) := F0z1
  rw [ht] at hP
  have hD := dwk hD hFr
  clear ht hFr
  have hP : va_P D classes (wS50 cI cJ cZ cB p0 p1 p2 p3 p4 p5 p6 p7 p8 p9 p10 p11 p12 p13 p14 p15 p16 p17 p18 p19 p20 p21 p22 p23 p24 p25 x0_4 x0_5 x0_6 x0_7 x0_8 x0_12 x0_13 x0_14 x0_15 x0_16 x0_17 x0_18 x0_22 x0_23 x0_24 x0_25 x0_26 x0_27 x0_28 x0_29 x0_30 x0_31 x0_32 x0_36 x0_39 x0_40 x0_44 x0_49 x0_51 x0_53 x0_54 x0_55 x0_56 x0_57 x0_58 x0_59 x0_60 x0_61 x0_62 y1 y2 y3 y4 y5 y6 y7 y8 y9 y10 y11 y12 y13 y14 y15 y16 y17 y18 y19 y20 y21 y22 y23 y24 y25) H := hP
  have hD : va_D A (wS50 cI cJ cZ cB p0 p1 p2 p3 p4 p5 p6 p7 p8 p9 p10 p11 p12 p13 p14 p15 p16 p17 p18 p19 p20 p21 p22 p23 p24 p25 x0_4 x0_5 x0_6 x0_7 x0_8 x0_12 x0_13 x0_14 x0_15 x0_16 x0_17 x0_18 x0_22 x0_23 x0_24 x0_25 x0_26 x0_27 x0_28 x0_29 x0_30 x0_31 x0_32 x0_36 x0_39 x0_40 x0_44 x0_49 x0_51 x0_53 x0_54 x0_55 x0_56 x0_57 x0_58 x0_59 x0_60 x0_61 x0_62 y1 y2 y3 y4 y5 y6 y7 y8 y9 y10 y11 y12 y13 y14 y15 y16 y17 y18 y19 y20 y21 y22 y23 y24 y25) := hD
  refine lv_bipush (v := 42) hx hb d_X_atom_4 (by decide) ?_
  refine lv_icmp_ne (tgt := 29) hx hb d_X_atom_6 (by decide) (fun c2 => ?_) (fun c2 => ?_)
  · have gc2 : rz1.toInt ≠ (42 : Int) := c_ne c2
    refine lv_aload_n hx hb d_X_atom_29 rfl (lv_at hl 0 rfl) ?_
    refine kn_v (va_runV (C := "SignMachineModel") (As := []) (rest := []) ⟨hx, hb, hml, hown, hk⟩ (c_X_readName l D cI cJ cZ cB p0 p1 p2 p3 p4 p5 p6 p7 p8 p9 p10 p11 p12 p13 p14 p15 p16 p17 p18 p19 p20 p21 p22 p23 p24 p25 H.size x0_4 x0_5 x0_6 x0_7 x0_8 x0_12 x0_13 x0_14 x0_15 x0_16 x0_17 x0_18 x0_22 x0_23 x0_24 x0_25 x0_26 x0_27 x0_28 x0_29 x0_30 x0_31 x0_32 x0_36 x0_39 x0_40 x0_44 x0_49 x0_51 x0_53 x0_54 x0_55 x0_56 x0_57 x0_58 x0_59 x0_60 x0_61 x0_62 y1 y2 y3 y4 y5 y6 y7 y8 y9 y10 y11 y12 y13 y14 y15 y16 y17 y18 y19 y20 y21 y22 y23 y24 y25  Rx0_24 Rx0_25 Rx0_26 Rx0_54 (show x0_25.toInt ≤ x0_24.toInt from by omega)) (v_X_readName hk k_1541 ⟨Nat.le_of_ble_eq_true rfl, Nat.le_of_ble_eq_true rfl⟩) (pM_v hK hP hD (ci := 7) (q0 := 0) rfl rfl rfl) rfl rfl hl.1 rfl (lv_room (Nat.le_of_ble_eq_true rfl)) d_X_atom_30 ⟨Nat.le_of_ble_eq_true rfl, Nat.le_of_ble_eq_true rfl⟩) hS hA hD (fun u t H locs ht hB hFr hS => ?_)
    obtain ⟨x0_25z3, x0_26z3, x0_54z3, x0_55z3, x0_56z3, Rx0_25z3, Rx0_26z3, Rx0_54z3, F0z3, F1z3, F2z3, F3z3, hP, hD⟩ := hB
    have F0z3 : x0_25.toInt ≤ x0_25z3.toInt ∧ x0_25z3.toInt ≤ x0_24.toInt := F0z3
    have F1z3 : 1 ≤ x0_26.toInt → 1 ≤ x0_26z3.toInt := F1z3
    have F2z3 : x0_54z3.toInt = 1 → (0 ≤ x0_55z3.toInt ∧ x0_55z3.toInt ≤ 1073741823) := F2z3
    have F3z3 : x0_54z3.toInt = 3 → (0 ≤ x0_55z3.toInt ∧ x0_55z3.toInt ≤ 9) := F3z3
    rw [ht] at hP
    have hD := dwk hD hFr
    clear ht hFr
    have hP : va_P D classes (wS50 cI cJ cZ cB p0 p1 p2 p3 p4 p5 p6 p7 p8 p9 p10 p11 p12 p13 p14 p15 p16 p17 p18 p19 p20 p21 p22 p23 p24 p25 x0_4 x0_5 x0_6 x0_7 x0_8 x0_12 x0_13 x0_14 x0_15 x0_16 x0_17 x0_18 x0_22 x0_23 x0_24 x0_25z3 x0_26z3 x0_27 x0_28 x0_29 x0_30 x0_31 x0_32 x0_36 x0_39 x0_40 x0_44 x0_49 x0_51 x0_53 x0_54z3 x0_55z3 x0_56z3 x0_57 x0_58 x0_59 x0_60 x0_61 x0_62 y1 y2 y3 y4 y5 y6 y7 y8 y9 y10 y11 y12 y13 y14 y15 y16 y17 y18 y19 y20 y21 y22 y23 y24 y25) H := hP
    have hD : va_D A (wS50 cI cJ cZ cB p0 p1 p2 p3 p4 p5 p6 p7 p8 p9 p10 p11 p12 p13 p14 p15 p16 p17 p18 p19 p20 p21 p22 p23 p24 p25 x0_4 x0_5 x0_6 x0_7 x0_8 x0_12 x0_13 x0_14 x0_15 x0_16 x0_17 x0_18 x0_22 x0_23 x0_24 x0_25z3 x0_26z3 x0_27 x0_28 x0_29 x0_30 x0_31 x0_32 x0_36 x0_39 x0_40 x0_44 x0_49 x0_51 x0_53 x0_54z3 x0_55z3 x0_56z3 x0_57 x0_58 x0_59 x0_60 x0_61 x0_62 y1 y2 y3 y4 y5 y6 y7 y8 y9 y10 y11 y12 y13 y14 y15 y16 y17 y18 y19 y20 y21 y22 y23 y24 y25) := hD
    refine lv_aload_n hx hb d_X_atom_33 rfl (lv_at hl 0 rfl) ?_
    refine va_get (D := D) (ci := 7) (v := .int x0_54z3) (C := "SignMachineModel") (T := F_X) (N := 64) hx hb hk fi_X hown hK.1 hP 0 rfl rfl 54 (by decide) (hk _ k_1175) (fun _ h9 => h9) rfl d_X_atom_34 ?_
    refine lv_iconst (v := 2) hx hb d_X_atom_37 (by decide) ?_
    refine lv_icmp_ne (tgt := 79) hx hb d_X_atom_38 (by decide) (fun c4 => ?_) (fun c4 => ?_)
    · have gc4 : x0_54z3.toInt ≠ (2 : Int) := c_ne c4
      refine lv_aload_n hx hb d_X_atom_79 rfl (lv_at hl 0 rfl) ?_
      refine va_get (D := D) (ci := 7) (v := .int x0_54z3) (C := "SignMachineModel") (T := F_X) (N := 64) hx hb hk fi_X hown hK.1 hP 0 rfl rfl 54 (by decide) (hk _ k_1175) (fun _ h9 => h9) rfl d_X_atom_80 ?_
      refine lv_iconst (v := 3) hx hb d_X_atom_83 (by decide) ?_
      refine lv_icmp_ne (tgt := 127) hx hb d_X_atom_84 (by decide) (fun c5 => ?_) (fun c5 => ?_)
      · have gc5 : x0_54z3.toInt ≠ (3 : Int) := c_ne c5
        have R6 : 0 ≤ x0_54z3.toInt ∧ x0_54z3.toInt ≤ 2 := rf_neX Rx0_54z3 (show 3 ≤ (3 : Int) ∧ (3 : Int) ≤ 3 from by decide) gc5 (by decide) (by decide)
        refine lv_aload_n hx hb d_X_atom_127 rfl (lv_at hl 0 rfl) ?_
        refine va_get (D := D) (ci := 7) (v := .int x0_54z3) (C := "SignMachineModel") (T := F_X) (N := 64) hx hb hk fi_X hown hK.1 hP 0 rfl rfl 54 (by decide) (hk _ k_1175) (fun _ h9 => h9) rfl d_X_atom_128 ?_
        refine lv_iconst (v := 1) hx hb d_X_atom_131 (by decide) ?_
        refine lv_icmp_ne (tgt := 142) hx hb d_X_atom_132 (by decide) (fun c7 => ?_) (fun c7 => ?_)
        · have gc7 : x0_54z3.toInt ≠ (1 : Int) := c_ne c7
          refine lv_lconst (v := 0) hx hb d_X_atom_142 (by decide) ?_
          exact W.lret (v := (0 : Int64)) hx hb hr (fun t ht hW => ⟨⟨(0 : Int64), (0 : Int64), rfl, rfl, ⟨x0_25z3, x0_26z3, x0_54z3, x0_55z3, x0_56z3, Rx0_25z3, Rx0_26z3, (rgw R6 (by decide) (by decide)), (by decide), (show x0_25.toInt ≤ x0_25z3.toInt ∧ x0_25z3.toInt ≤ x0_24.toInt from by omega), (show 1 ≤ x0_26.toInt → 1 ≤ x0_26z3.toInt from by omega), by show va_P D classes _ t.heap; rw [ht]; exact hP, hD⟩⟩, hS.F ht⟩) hS.2.2 d_X_atom_143
        · have gc7 : x0_54z3.toInt = (1 : Int) := c_eq c7
          have R8 : 1 ≤ x0_54z3.toInt ∧ x0_54z3.toInt ≤ 1 := rf_eqX R6 (show 1 ≤ (1 : Int) ∧ (1 : Int) ≤ 1 from by decide) gc7 (by decide) (by decide)
          refine lv_aload_n hx hb d_X_atom_135 rfl (lv_at hl 0 rfl) ?_
          refine va_get (D := D) (ci := 7) (v := .long x0_55z3) (C := "SignMachineModel") (T := F_X) (N := 64) hx hb hk fi_X hown hK.1 hP 0 rfl rfl 55 (by decide) (hk _ k_1176) (fun _ h9 => h9) rfl d_X_atom_136 ?_
          refine lv_goto (tgt := 143) hx hb d_X_atom_139 (by decide) ?_
          exact W.lret (v := x0_55z3) hx hb hr (fun t ht hW => ⟨⟨x0_55z3, x0_55z3, rfl, rfl, ⟨x0_25z3, x0_26z3, x0_54z3, x0_55z3, x0_56z3, Rx0_25z3, Rx0_26z3, (rgw R8 (by decide) (by decide)), (by omega), (show x0_25.toInt ≤ x0_25z3.toInt ∧ x0_25z3.toInt ≤ x0_24.toInt from by omega), (show 1 ≤ x0_26.toInt → 1 ≤ x0_26z3.toInt from by omega), by show va_P D classes _ t.heap; rw [ht]; exact hP, hD⟩⟩, hS.F ht⟩) hS.2.2 d_X_atom_143
      · have gc5 : x0_54z3.toInt = (3 : Int) := c_eq c5
        have R9 : 3 ≤ x0_54z3.toInt ∧ x0_54z3.toInt ≤ 3 := rf_eqX Rx0_54z3 (show 3 ≤ (3 : Int) ∧ (3 : Int) ≤ 3 from by decide) gc5 (by decide) (by decide)
        refine lv_aload_n hx hb d_X_atom_87 rfl (lv_at hl 0 rfl) ?_
        refine va_get (D := D) (ci := 7) (v := .int x0_56z3) (C := "SignMachineModel") (T := F_X) (N := 64) hx hb hk fi_X hown hK.1 hP 0 rfl rfl 56 (by decide) (hk _ k_1177) (fun _ h9 => h9) rfl d_X_atom_88 ?_
        refine lv_bipush (v := 66) hx hb d_X_atom_91 (by decide) ?_
        refine lv_icmp_ne (tgt := 109) hx hb d_X_atom_93 (by decide) (fun c10 => ?_) (fun c10 => ?_)
        · have gc10 : x0_56z3.toInt ≠ (66 : Int) := c_ne c10
          refine lv_aload_n hx hb d_X_atom_109 rfl (lv_at hl 0 rfl) ?_
          refine lv_iconst (v := 3) hx hb d_X_atom_110 (by decide) ?_
          refine kn_v (va_runV (C := "SignMachineModel") (As := [.int (3 : Int32)]) (rest := []) ⟨hx, hb, hml, hown, hk⟩ (c_X_bad l D cI cJ cZ cB p0 p1 p2 p3 p4 p5 p6 p7 p8 p9 p10 p11 p12 p13 p14 p15 p16 p17 p18 p19 p20 p21 p22 p23 p24 p25 H.size x0_4 x0_5 x0_6 x0_7 x0_8 x0_12 x0_13 x0_14 x0_15 x0_16 x0_17 x0_18 x0_22 x0_23 x0_24 x0_25z3 x0_26z3 x0_27 x0_28 x0_29 x0_30 x0_31 x0_32 x0_36 x0_39 x0_40 x0_44 x0_49 x0_51 x0_53 x0_54z3 x0_55z3 x0_56z3 x0_57 x0_58 x0_59 x0_60 x0_61 x0_62 y1 y2 y3 y4 y5 y6 y7 y8 y9 y10 y11 y12 y13 y14 y15 y16 y17 y18 y19 y20 y21 y22 y23 y24 y25 (3 : Int32) Rx0_26z3 (by decide)) (v_X_bad hk k_1552 ⟨Nat.le_of_ble_eq_true rfl, Nat.le_of_ble_eq_true rfl⟩) (pM_v hK hP hD (ci := 7) (q0 := 0) rfl rfl rfl) rfl rfl hl.1 rfl (lv_room (Nat.le_of_ble_eq_true rfl)) d_X_atom_111 ⟨Nat.le_of_ble_eq_true rfl, Nat.le_of_ble_eq_true rfl⟩) hS hA hD (fun u t H locs ht hB hFr hS => ?_)
          obtain ⟨x0_26z11, Rx0_26z11, F0z11, hP, hD⟩ := hB
          have F0z11 : 1 ≤ x0_26z11.toInt := F0z11
          rw [ht] at hP
          have hD := dwk hD hFr
          clear ht hFr
          have hP : va_P D classes (wS50 cI cJ cZ cB p0 p1 p2 p3 p4 p5 p6 p7 p8 p9 p10 p11 p12 p13 p14 p15 p16 p17 p18 p19 p20 p21 p22 p23 p24 p25 x0_4 x0_5 x0_6 x0_7 x0_8 x0_12 x0_13 x0_14 x0_15 x0_16 x0_17 x0_18 x0_22 x0_23 x0_24 x0_25z3 x0_26z11 x0_27 x0_28 x0_29 x0_30 x0_31 x0_32 x0_36 x0_39 x0_40 x0_44 x0_49 x0_51 x0_53 x0_54z3 x0_55z3 x0_56z3 x0_57 x0_58 x0_59 x0_60 x0_61 x0_62 y1 y2 y3 y4 y5 y6 y7 y8 y9 y10 y11 y12 y13 y14 y15 y16 y17 y18 y19 y20 y21 y22 y23 y24 y25) H := hP
          have hD : va_D A (wS50 cI cJ cZ cB p0 p1 p2 p3 p4 p5 p6 p7 p8 p9 p10 p11 p12 p13 p14 p15 p16 p17 p18 p19 p20 p21 p22 p23 p24 p25 x0_4 x0_5 x0_6 x0_7 x0_8 x0_12 x0_13 x0_14 x0_15 x0_16 x0_17 x0_18 x0_22 x0_23 x0_24 x0_25z3 x0_26z11 x0_27 x0_28 x0_29 x0_30 x0_31 x0_32 x0_36 x0_39 x0_40 x0_44 x0_49 x0_51 x0_53 x0_54z3 x0_55z3 x0_56z3 x0_57 x0_58 x0_59 x0_60 x0_61 x0_62 y1 y2 y3 y4 y5 y6 y7 y8 y9 y10 y11 y12 y13 y14 y15 y16 y17 y18 y19 y20 y21 y22 y23 y24 y25) := hD
          refine lv_lconst (v := 0) hx hb d_X_atom_114 (by decide) ?_
          exact W.lret (v := (0 : Int64)) hx hb hr (fun t ht hW => ⟨⟨(0 : Int64), (0 : Int64), rfl, rfl, ⟨x0_25z3, x0_26z11, x0_54z3, x0_55z3, x0_56z3, Rx0_25z3, Rx0_26z11, (rgw R9 (by decide) (by decide)), (by decide), (show x0_25.toInt ≤ x0_25z3.toInt ∧ x0_25z3.toInt ≤ x0_24.toInt from by omega), (show 1 ≤ x0_26.toInt → 1 ≤ x0_26z11.toInt from by omega), by show va_P D classes _ t.heap; rw [ht]; exact hP, hD⟩⟩, hS.F ht⟩) hS.2.2 d_X_atom_115
        · have gc10 : x0_56z3.toInt = (66 : Int) := c_eq c10
          have R12 : 66 ≤ x0_56z3.toInt ∧ x0_56z3.toInt ≤ 66 := rf_eqX (fr3 x0_56z3) (show 66 ≤ (66 : Int) ∧ (66 : Int) ≤ 66 from by decide) gc10 (by decide) (by decide)
          refine lv_aload_n hx hb d_X_atom_96 rfl (lv_at hl 0 rfl) ?_
          refine va_get (D := D) (ci := 7) (v := .ref p14) (C := "SignMachineModel") (T := F_X) (N := 64) hx hb hk fi_X hown hK.1 hP 0 rfl rfl 37 (by decide) (hk _ k_1158) (fun _ h9 => h9) rfl d_X_atom_97 ?_
          refine lv_aload_n hx hb d_X_atom_100 rfl (lv_at hl 0 rfl) ?_
          refine va_get (D := D) (ci := 7) (v := .long x0_55z3) (C := "SignMachineModel") (T := F_X) (N := 64) hx hb hk fi_X hown hK.1 hP 0 rfl rfl 55 (by decide) (hk _ k_1176) (fun _ h9 => h9) rfl d_X_atom_101 ?_
          have R13 : 0 ≤ x0_55z3.toInt ∧ x0_55z3.toInt ≤ 9 := by omega
          refine lv_l2i (v := (x0_55z3 : Int64).toInt32) hx hb d_X_atom_104 rfl ?_
          refine lv_topi (fun v14 hv14 => ?_)
          obtain ⟨ev14, Rv14⟩ : v14.toInt = x0_55z3.toInt ∧ (0 ≤ v14.toInt ∧ v14.toInt ≤ 9) := li3 hv14 R13 (by decide) (by decide)
          refine va_zald hx hb hK.1 hP 14 2 rfl rfl (vpb Rv14 (by decide) (by decide)) d_X_atom_105 ?_
          refine lv_topi (fun v15 hv15 => ?_)
          refine lv_if_ne (tgt := 116) hx hb d_X_atom_106 (by decide) (fun c16 => ?_) (fun c16 => ?_)
          · have gc16 : v15.toInt ≠ (0 : Int) := c_ne c16
            refine lv_aload_n hx hb d_X_atom_116 rfl (lv_at hl 0 rfl) ?_
            refine va_get (D := D) (ci := 7) (v := .ref p15) (C := "SignMachineModel") (T := F_X) (N := 64) hx hb hk fi_X hown hK.1 hP 0 rfl rfl 38 (by decide) (hk _ k_1159) (fun _ h9 => h9) rfl d_X_atom_117 ?_
            refine lv_aload_n hx hb d_X_atom_120 rfl (lv_at hl 0 rfl) ?_
            refine va_get (D := D) (ci := 7) (v := .long x0_55z3) (C := "SignMachineModel") (T := F_X) (N := 64) hx hb hk fi_X hown hK.1 hP 0 rfl rfl 55 (by decide) (hk _ k_1176) (fun _ h9 => h9) rfl d_X_atom_121 ?_
            refine lv_l2i (v := (x0_55z3 : Int64).toInt32) hx hb d_X_atom_124 rfl ?_
            refine lv_topi (fun v17 hv17 => ?_)
            obtain ⟨ev17, Rv17⟩ : v17.toInt = x0_55z3.toInt ∧ (0 ≤ v17.toInt ∧ v17.toInt ≤ 9) := li3 hv17 R13 (by decide) (by decide)
            refine va_lald hx hb hK.1 hP 15 1 rfl rfl (vpb Rv17 (by decide) (by decide)) d_X_atom_125 ?_
            refine lv_topl (fun v18 hv18 => ?_)
            have Rv18 := Ay15 (v17).toNatClampNeg
            rw [← hv18] at Rv18
            exact W.lret (v := v18) hx hb hr (fun t ht hW => ⟨⟨v18, v18, rfl, rfl, ⟨x0_25z3, x0_26z3, x0_54z3, x0_55z3, x0_56z3, Rx0_25z3, Rx0_26z3, (rgw R9 (by decide) (by decide)), Rv18, (show x0_25.toInt ≤ x0_25z3.toInt ∧ x0_25z3.toInt ≤ x0_24.toInt from by omega), (show 1 ≤ x0_26.toInt → 1 ≤ x0_26z3.toInt from by omega), by show va_P D classes _ t.heap; rw [ht]; exact hP, hD⟩⟩, hS.F ht⟩) hS.2.2 d_X_atom_126
          · have gc16 : v15.toInt = (0 : Int) := c_eq c16
            have R19 : 0 ≤ v15.toInt ∧ v15.toInt ≤ 0 := rf_eqX (fr3 v15) (show 0 ≤ (0 : Int) ∧ (0 : Int) ≤ 0 from by decide) gc16 (by decide) (by decide)
            refine lv_aload_n hx hb d_X_atom_109 rfl (lv_at hl 0 rfl) ?_
            refine lv_iconst (v := 3) hx hb d_X_atom_110 (by decide) ?_
            refine kn_v (va_runV (C := "SignMachineModel") (As := [.int (3 : Int32)]) (rest := []) ⟨hx, hb, hml, hown, hk⟩ (c_X_bad l D cI cJ cZ cB p0 p1 p2 p3 p4 p5 p6 p7 p8 p9 p10 p11 p12 p13 p14 p15 p16 p17 p18 p19 p20 p21 p22 p23 p24 p25 H.size x0_4 x0_5 x0_6 x0_7 x0_8 x0_12 x0_13 x0_14 x0_15 x0_16 x0_17 x0_18 x0_22 x0_23 x0_24 x0_25z3 x0_26z3 x0_27 x0_28 x0_29 x0_30 x0_31 x0_32 x0_36 x0_39 x0_40 x0_44 x0_49 x0_51 x0_53 x0_54z3 x0_55z3 x0_56z3 x0_57 x0_58 x0_59 x0_60 x0_61 x0_62 y1 y2 y3 y4 y5 y6 y7 y8 y9 y10 y11 y12 y13 y14 y15 y16 y17 y18 y19 y20 y21 y22 y23 y24 y25 (3 : Int32) Rx0_26z3 (by decide)) (v_X_bad hk k_1552 ⟨Nat.le_of_ble_eq_true rfl, Nat.le_of_ble_eq_true rfl⟩) (pM_v hK hP hD (ci := 7) (q0 := 0) rfl rfl rfl) rfl rfl hl.1 rfl (lv_room (Nat.le_of_ble_eq_true rfl)) d_X_atom_111 ⟨Nat.le_of_ble_eq_true rfl, Nat.le_of_ble_eq_true rfl⟩) hS hA hD (fun u t H locs ht hB hFr hS => ?_)
            obtain ⟨x0_26z20, Rx0_26z20, F0z20, hP, hD⟩ := hB
            have F0z20 : 1 ≤ x0_26z20.toInt := F0z20
            rw [ht] at hP
            have hD := dwk hD hFr
            clear ht hFr
            have hP : va_P D classes (wS50 cI cJ cZ cB p0 p1 p2 p3 p4 p5 p6 p7 p8 p9 p10 p11 p12 p13 p14 p15 p16 p17 p18 p19 p20 p21 p22 p23 p24 p25 x0_4 x0_5 x0_6 x0_7 x0_8 x0_12 x0_13 x0_14 x0_15 x0_16 x0_17 x0_18 x0_22 x0_23 x0_24 x0_25z3 x0_26z20 x0_27 x0_28 x0_29 x0_30 x0_31 x0_32 x0_36 x0_39 x0_40 x0_44 x0_49 x0_51 x0_53 x0_54z3 x0_55z3 x0_56z3 x0_57 x0_58 x0_59 x0_60 x0_61 x0_62 y1 y2 y3 y4 y5 y6 y7 y8 y9 y10 y11 y12 y13 y14 y15 y16 y17 y18 y19 y20 y21 y22 y23 y24 y25) H := hP
            have hD : va_D A (wS50 cI cJ cZ cB p0 p1 p2 p3 p4 p5 p6 p7 p8 p9 p10 p11 p12 p13 p14 p15 p16 p17 p18 p19 p20 p21 p22 p23 p24 p25 x0_4 x0_5 x0_6 x0_7 x0_8 x0_12 x0_13 x0_14 x0_15 x0_16 x0_17 x0_18 x0_22 x0_23 x0_24 x0_25z3 x0_26z20 x0_27 x0_28 x0_29 x0_30 x0_31 x0_32 x0_36 x0_39 x0_40 x0_44 x0_49 x0_51 x0_53 x0_54z3 x0_55z3 x0_56z3 x0_57 x0_58 x0_59 x0_60 x0_61 x0_62 y1 y2 y3 y4 y5 y6 y7 y8 y9 y10 y11 y12 y13 y14 y15 y16 y17 y18 y19 y20 y21 y22 y23 y24 y25) := hD
            refine lv_lconst (v := 0) hx hb d_X_atom_114 (by decide) ?_
            exact W.lret (v := (0 : Int64)) hx hb hr (fun t ht hW => ⟨⟨(0 : Int64), (0 : Int64), rfl, rfl, ⟨x0_25z3, x0_26z20, x0_54z3, x0_55z3, x0_56z3, Rx0_25z3, Rx0_26z20, (rgw R9 (by decide) (by decide)), (by decide), (show x0_25.toInt ≤ x0_25z3.toInt ∧ x0_25z3.toInt ≤ x0_24.toInt from by omega), (show 1 ≤ x0_26.toInt → 1 ≤ x0_26z20.toInt from by omega), by show va_P D classes _ t.heap; rw [ht]; exact hP, hD⟩⟩, hS.F ht⟩) hS.2.2 d_X_atom_115
    · have gc4 : x0_54z3.toInt = (2 : Int) := c_eq c4
      have R21 : 2 ≤ x0_54z3.toInt ∧ x0_54z3.toInt ≤ 2 := rf_eqX Rx0_54z3 (show 2 ≤ (2 : Int) ∧ (2 : Int) ≤ 2 from by decide) gc4 (by decide) (by decide)
      refine lv_aload_n hx hb d_X_atom_41 rfl (lv_at hl 0 rfl) ?_
      refine lv_aload_n hx hb d_X_atom_42 rfl (lv_at hl 0 rfl) ?_
      refine va_get (D := D) (ci := 7) (v := .long x0_55z3) (C := "SignMachineModel") (T := F_X) (N := 64) hx hb hk fi_X hown hK.1 hP 0 rfl rfl 55 (by decide) (hk _ k_1176) (fun _ h9 => h9) rfl d_X_atom_43 ?_
      refine sn_i (va_runV (C := "SignMachineModel") (As := [.long x0_55z3]) (rest := []) ⟨hx, hb, hml, hown, hk⟩ (c_X_findSymbol l D cI cJ cZ cB p0 p1 p2 p3 p4 p5 p6 p7 p8 p9 p10 p11 p12 p13 p14 p15 p16 p17 p18 p19 p20 p21 p22 p23 p24 p25 H.size x0_4 x0_5 x0_6 x0_7 x0_8 x0_12 x0_13 x0_14 x0_15 x0_16 x0_17 x0_18 x0_22 x0_23 x0_24 x0_25z3 x0_26z3 x0_27 x0_28 x0_29 x0_30 x0_31 x0_32 x0_36 x0_39 x0_40 x0_44 x0_49 x0_51 x0_53 x0_54z3 x0_55z3 x0_56z3 x0_57 x0_58 x0_59 x0_60 x0_61 x0_62 y1 y2 y3 y4 y5 y6 y7 y8 y9 y10 y11 y12 y13 y14 y15 y16 y17 y18 y19 y20 y21 y22 y23 y24 y25 x0_55z3 Rx0_36) (v_X_findSymbol hk k_1626 ⟨Nat.le_of_ble_eq_true rfl, Nat.le_of_ble_eq_true rfl⟩) (pM_v hK hP hD (ci := 7) (q0 := 0) rfl rfl rfl) rfl rfl hl.1 rfl (lv_room (Nat.le_of_ble_eq_true rfl)) d_X_atom_46 ⟨Nat.le_of_ble_eq_true rfl, Nat.le_of_ble_eq_true rfl⟩) hS hA hD (fun rz22 u t H locs hr0 ht hB hFr hS => ?_)
      subst hr0
      obtain ⟨F0z22, F1z22, F2z22, hP, hD⟩ := hB
      have F0z22 : (-2) ≤ rz22.toInt ∧ rz22.toInt ≤ 59 := F0z22
      have F1z22 : rz22.toInt = -2 ∨ (0 ≤ rz22.toInt ∧ rz22.toInt < x0_36.toInt) := F1z22
      have F2z22 : (rz22.toInt = -2 ∧ nsI y11 x0_36.toInt x0_55z3 = 0) ∨ (rz22.toInt ≠ -2 ∧ nsI y11 x0_36.toInt x0_55z3 = 1) := F2z22
      rw [ht] at hP
      have hD := dwk hD hFr
      clear ht hFr
      have hP : va_P D classes (wS50 cI cJ cZ cB p0 p1 p2 p3 p4 p5 p6 p7 p8 p9 p10 p11 p12 p13 p14 p15 p16 p17 p18 p19 p20 p21 p22 p23 p24 p25 x0_4 x0_5 x0_6 x0_7 x0_8 x0_12 x0_13 x0_14 x0_15 x0_16 x0_17 x0_18 x0_22 x0_23 x0_24 x0_25z3 x0_26z3 x0_27 x0_28 x0_29 x0_30 x0_31 x0_32 x0_36 x0_39 x0_40 x0_44 x0_49 x0_51 x0_53 x0_54z3 x0_55z3 x0_56z3 x0_57 x0_58 x0_59 x0_60 x0_61 x0_62 y1 y2 y3 y4 y5 y6 y7 y8 y9 y10 y11 y12 y13 y14 y15 y16 y17 y18 y19 y20 y21 y22 y23 y24 y25) H := hP
      have hD : va_D A (wS50 cI cJ cZ cB p0 p1 p2 p3 p4 p5 p6 p7 p8 p9 p10 p11 p12 p13 p14 p15 p16 p17 p18 p19 p20 p21 p22 p23 p24 p25 x0_4 x0_5 x0_6 x0_7 x0_8 x0_12 x0_13 x0_14 x0_15 x0_16 x0_17 x0_18 x0_22 x0_23 x0_24 x0_25z3 x0_26z3 x0_27 x0_28 x0_29 x0_30 x0_31 x0_32 x0_36 x0_39 x0_40 x0_44 x0_49 x0_51 x0_53 x0_54z3 x0_55z3 x0_56z3 x0_57 x0_58 x0_59 x0_60 x0_61 x0_62 y1 y2 y3 y4 y5 y6 y7 y8 y9 y10 y11 y12 y13 y14 y15 y16 y17 y18 y19 y20 y21 y22 y23 y24 y25) := hD
      refine lv_istore_n (lv' := [(1, .int rz22), (0, .ref p0)]) hx hb d_X_atom_49 rfl hl (by decide) rfl (fun ls hl => ?_)
      refine lv_iload_n hx hb d_X_atom_50 rfl (lv_at hl 0 rfl) ?_
      refine lv_bipush (v := (-2)) hx hb d_X_atom_51 (by decide) ?_
      refine lv_icmp_eq (tgt := 65) hx hb d_X_atom_53 (by decide) (fun c23 => ?_) (fun c23 => ?_)
      · have gc23 : rz22.toInt = (-2 : Int) := c_eq c23
        have R24 : (-2) ≤ rz22.toInt ∧ rz22.toInt ≤ (-2) := rf_eqX F0z22 (show (-2) ≤ (-2 : Int) ∧ (-2 : Int) ≤ (-2) from by decide) gc23 (by decide) (by decide)
        refine lv_aload_n hx hb d_X_atom_65 rfl (lv_at hl 1 rfl) ?_
        refine lv_iconst (v := 3) hx hb d_X_atom_66 (by decide) ?_
        refine kn_v (va_runV (C := "SignMachineModel") (As := [.int (3 : Int32)]) (rest := []) ⟨hx, hb, hml, hown, hk⟩ (c_X_bad l D cI cJ cZ cB p0 p1 p2 p3 p4 p5 p6 p7 p8 p9 p10 p11 p12 p13 p14 p15 p16 p17 p18 p19 p20 p21 p22 p23 p24 p25 H.size x0_4 x0_5 x0_6 x0_7 x0_8 x0_12 x0_13 x0_14 x0_15 x0_16 x0_17 x0_18 x0_22 x0_23 x0_24 x0_25z3 x0_26z3 x0_27 x0_28 x0_29 x0_30 x0_31 x0_32 x0_36 x0_39 x0_40 x0_44 x0_49 x0_51 x0_53 x0_54z3 x0_55z3 x0_56z3 x0_57 x0_58 x0_59 x0_60 x0_61 x0_62 y1 y2 y3 y4 y5 y6 y7 y8 y9 y10 y11 y12 y13 y14 y15 y16 y17 y18 y19 y20 y21 y22 y23 y24 y25 (3 : Int32) Rx0_26z3 (by decide)) (v_X_bad hk k_1552 ⟨Nat.le_of_ble_eq_true rfl, Nat.le_of_ble_eq_true rfl⟩) (pM_v hK hP hD (ci := 7) (q0 := 0) rfl rfl rfl) rfl rfl hl.1 rfl (lv_room (Nat.le_of_ble_eq_true rfl)) d_X_atom_67 ⟨Nat.le_of_ble_eq_true rfl, Nat.le_of_ble_eq_true rfl⟩) hS hA hD (fun u t H locs ht hB hFr hS => ?_)
        obtain ⟨x0_26z25, Rx0_26z25, F0z25, hP, hD⟩ := hB
        have F0z25 : 1 ≤ x0_26z25.toInt := F0z25
        rw [ht] at hP
        have hD := dwk hD hFr
        clear ht hFr
        have hP : va_P D classes (wS50 cI cJ cZ cB p0 p1 p2 p3 p4 p5 p6 p7 p8 p9 p10 p11 p12 p13 p14 p15 p16 p17 p18 p19 p20 p21 p22 p23 p24 p25 x0_4 x0_5 x0_6 x0_7 x0_8 x0_12 x0_13 x0_14 x0_15 x0_16 x0_17 x0_18 x0_22 x0_23 x0_24 x0_25z3 x0_26z25 x0_27 x0_28 x0_29 x0_30 x0_31 x0_32 x0_36 x0_39 x0_40 x0_44 x0_49 x0_51 x0_53 x0_54z3 x0_55z3 x0_56z3 x0_57 x0_58 x0_59 x0_60 x0_61 x0_62 y1 y2 y3 y4 y5 y6 y7 y8 y9 y10 y11 y12 y13 y14 y15 y16 y17 y18 y19 y20 y21 y22 y23 y24 y25) H := hP
        have hD : va_D A (wS50 cI cJ cZ cB p0 p1 p2 p3 p4 p5 p6 p7 p8 p9 p10 p11 p12 p13 p14 p15 p16 p17 p18 p19 p20 p21 p22 p23 p24 p25 x0_4 x0_5 x0_6 x0_7 x0_8 x0_12 x0_13 x0_14 x0_15 x0_16 x0_17 x0_18 x0_22 x0_23 x0_24 x0_25z3 x0_26z25 x0_27 x0_28 x0_29 x0_30 x0_31 x0_32 x0_36 x0_39 x0_40 x0_44 x0_49 x0_51 x0_53 x0_54z3 x0_55z3 x0_56z3 x0_57 x0_58 x0_59 x0_60 x0_61 x0_62 y1 y2 y3 y4 y5 y6 y7 y8 y9 y10 y11 y12 y13 y14 y15 y16 y17 y18 y19 y20 y21 y22 y23 y24 y25) := hD
        refine lv_lconst (v := 0) hx hb d_X_atom_70 (by decide) ?_
        exact W.lret (v := (0 : Int64)) hx hb hr (fun t ht hW => ⟨⟨(0 : Int64), (0 : Int64), rfl, rfl, ⟨x0_25z3, x0_26z25, x0_54z3, x0_55z3, x0_56z3, Rx0_25z3, Rx0_26z25, (rgw R21 (by decide) (by decide)), (by decide), (show x0_25.toInt ≤ x0_25z3.toInt ∧ x0_25z3.toInt ≤ x0_24.toInt from by omega), (show 1 ≤ x0_26.toInt → 1 ≤ x0_26z25.toInt from by omega), by show va_P D classes _ t.heap; rw [ht]; exact hP, hD⟩⟩, hS.F ht⟩) hS.2.2 d_X_atom_71
      · have gc23 : rz22.toInt ≠ (-2 : Int) := c_ne c23
        have R26 : (-1) ≤ rz22.toInt ∧ rz22.toInt ≤ 59 := rf_neX F0z22 (show (-2) ≤ (-2 : Int) ∧ (-2 : Int) ≤ (-2) from by decide) gc23 (by decide) (by decide)
        refine lv_aload_n hx hb d_X_atom_56 rfl (lv_at hl 1 rfl) ?_
        refine va_get (D := D) (ci := 7) (v := .ref p12) (C := "SignMachineModel") (T := F_X) (N := 64) hx hb hk fi_X hown hK.1 hP 0 rfl rfl 34 (by decide) (hk _ k_1155) (fun _ h9 => h9) rfl d_X_atom_57 ?_
        refine lv_iload_n hx hb d_X_atom_60 rfl (lv_at hl 0 rfl) ?_
        refine va_zald hx hb hK.1 hP 12 2 rfl rfl (by rw [vp_in_iff]; omega) d_X_atom_61 ?_
        refine lv_topi (fun v27 hv27 => ?_)
        refine lv_if_ne (tgt := 72) hx hb d_X_atom_62 (by decide) (fun c28 => ?_) (fun c28 => ?_)
        · have gc28 : v27.toInt ≠ (0 : Int) := c_ne c28
          refine lv_aload_n hx hb d_X_atom_72 rfl (lv_at hl 1 rfl) ?_
          refine va_get (D := D) (ci := 7) (v := .ref p13) (C := "SignMachineModel") (T := F_X) (N := 64) hx hb hk fi_X hown hK.1 hP 0 rfl rfl 35 (by decide) (hk _ k_1156) (fun _ h9 => h9) rfl d_X_atom_73 ?_
          refine lv_iload_n hx hb d_X_atom_76 rfl (lv_at hl 0 rfl) ?_
          refine va_lald hx hb hK.1 hP 13 1 rfl rfl (by rw [vp_in_iff]; omega) d_X_atom_77 ?_
          refine lv_topl (fun v29 hv29 => ?_)
          have Rv29 := Ay13 (rz22).toNatClampNeg
          rw [← hv29] at Rv29
          exact W.lret (v := v29) hx hb hr (fun t ht hW => ⟨⟨v29, v29, rfl, rfl, ⟨x0_25z3, x0_26z3, x0_54z3, x0_55z3, x0_56z3, Rx0_25z3, Rx0_26z3, (rgw R21 (by decide) (by decide)), Rv29, (show x0_25.toInt ≤ x0_25z3.toInt ∧ x0_25z3.toInt ≤ x0_24.toInt from by omega), (show 1 ≤ x0_26.toInt → 1 ≤ x0_26z3.toInt from by omega), by show va_P D classes _ t.heap; rw [ht]; exact hP, hD⟩⟩, hS.F ht⟩) hS.2.2 d_X_atom_78
        · have gc28 : v27.toInt = (0 : Int) := c_eq c28
          have R30 : 0 ≤ v27.toInt ∧ v27.toInt ≤ 0 := rf_eqX (fr3 v27) (show 0 ≤ (0 : Int) ∧ (0 : Int) ≤ 0 from by decide) gc28 (by decide) (by decide)
          refine lv_aload_n hx hb d_X_atom_65 rfl (lv_at hl 1 rfl) ?_
          refine lv_iconst (v := 3) hx hb d_X_atom_66 (by decide) ?_
          refine kn_v (va_runV (C := "SignMachineModel") (As := [.int (3 : Int32)]) (rest := []) ⟨hx, hb, hml, hown, hk⟩ (c_X_bad l D cI cJ cZ cB p0 p1 p2 p3 p4 p5 p6 p7 p8 p9 p10 p11 p12 p13 p14 p15 p16 p17 p18 p19 p20 p21 p22 p23 p24 p25 H.size x0_4 x0_5 x0_6 x0_7 x0_8 x0_12 x0_13 x0_14 x0_15 x0_16 x0_17 x0_18 x0_22 x0_23 x0_24 x0_25z3 x0_26z3 x0_27 x0_28 x0_29 x0_30 x0_31 x0_32 x0_36 x0_39 x0_40 x0_44 x0_49 x0_51 x0_53 x0_54z3 x0_55z3 x0_56z3 x0_57 x0_58 x0_59 x0_60 x0_61 x0_62 y1 y2 y3 y4 y5 y6 y7 y8 y9 y10 y11 y12 y13 y14 y15 y16 y17 y18 y19 y20 y21 y22 y23 y24 y25 (3 : Int32) Rx0_26z3 (by decide)) (v_X_bad hk k_1552 ⟨Nat.le_of_ble_eq_true rfl, Nat.le_of_ble_eq_true rfl⟩) (pM_v hK hP hD (ci := 7) (q0 := 0) rfl rfl rfl) rfl rfl hl.1 rfl (lv_room (Nat.le_of_ble_eq_true rfl)) d_X_atom_67 ⟨Nat.le_of_ble_eq_true rfl, Nat.le_of_ble_eq_true rfl⟩) hS hA hD (fun u t H locs ht hB hFr hS => ?_)
          obtain ⟨x0_26z31, Rx0_26z31, F0z31, hP, hD⟩ := hB
          have F0z31 : 1 ≤ x0_26z31.toInt := F0z31
          rw [ht] at hP
          have hD := dwk hD hFr
          clear ht hFr
          have hP : va_P D classes (wS50 cI cJ cZ cB p0 p1 p2 p3 p4 p5 p6 p7 p8 p9 p10 p11 p12 p13 p14 p15 p16 p17 p18 p19 p20 p21 p22 p23 p24 p25 x0_4 x0_5 x0_6 x0_7 x0_8 x0_12 x0_13 x0_14 x0_15 x0_16 x0_17 x0_18 x0_22 x0_23 x0_24 x0_25z3 x0_26z31 x0_27 x0_28 x0_29 x0_30 x0_31 x0_32 x0_36 x0_39 x0_40 x0_44 x0_49 x0_51 x0_53 x0_54z3 x0_55z3 x0_56z3 x0_57 x0_58 x0_59 x0_60 x0_61 x0_62 y1 y2 y3 y4 y5 y6 y7 y8 y9 y10 y11 y12 y13 y14 y15 y16 y17 y18 y19 y20 y21 y22 y23 y24 y25) H := hP
          have hD : va_D A (wS50 cI cJ cZ cB p0 p1 p2 p3 p4 p5 p6 p7 p8 p9 p10 p11 p12 p13 p14 p15 p16 p17 p18 p19 p20 p21 p22 p23 p24 p25 x0_4 x0_5 x0_6 x0_7 x0_8 x0_12 x0_13 x0_14 x0_15 x0_16 x0_17 x0_18 x0_22 x0_23 x0_24 x0_25z3 x0_26z31 x0_27 x0_28 x0_29 x0_30 x0_31 x0_32 x0_36 x0_39 x0_40 x0_44 x0_49 x0_51 x0_53 x0_54z3 x0_55z3 x0_56z3 x0_57 x0_58 x0_59 x0_60 x0_61 x0_62 y1 y2 y3 y4 y5 y6 y7 y8 y9 y10 y11 y12 y13 y14 y15 y16 y17 y18 y19 y20 y21 y22 y23 y24 y25) := hD
          refine lv_lconst (v := 0) hx hb d_X_atom_70 (by decide) ?_
          exact W.lret (v := (0 : Int64)) hx hb hr (fun t ht hW => ⟨⟨(0 : Int64), (0 : Int64), rfl, rfl, ⟨x0_25z3, x0_26z31, x0_54z3, x0_55z3, x0_56z3, Rx0_25z3, Rx0_26z31, (rgw R21 (by decide) (by decide)), (by decide), (show x0_25.toInt ≤ x0_25z3.toInt ∧ x0_25z3.toInt ≤ x0_24.toInt from by omega), (show 1 ≤ x0_26.toInt → 1 ≤ x0_26z31.toInt from by omega), by show va_P D classes _ t.heap; rw [ht]; exact hP, hD⟩⟩, hS.F ht⟩) hS.2.2 d_X_atom_71
  · have gc2 : rz1.toInt = (42 : Int) := c_eq c2
    have R32 : 42 ≤ rz1.toInt ∧ rz1.toInt ≤ 42 := rf_eqX (fr3 rz1) (show 42 ≤ (42 : Int) ∧ (42 : Int) ≤ 42 from by decide) gc2 (by decide) (by decide)
    refine lv_aload_n hx hb d_X_atom_9 rfl (lv_at hl 0 rfl) ?_
    refine lv_dup hx hb d_X_atom_10 rfl ?_
    refine va_get (D := D) (ci := 7) (v := .int x0_25) (C := "SignMachineModel") (T := F_X) (N := 64) hx hb hk fi_X hown hK.1 hP 0 rfl rfl 25 (by decide) (hk _ k_1146) (fun _ h9 => h9) rfl d_X_atom_11 ?_
    refine lv_iconst (v := 1) hx hb d_X_atom_14 (by decide) ?_
    refine lv_iadd hx hb d_X_atom_15 ?_
    refine lv_topi (fun v33 hv33 => ?_)
    obtain ⟨ev33, Rv33⟩ : v33.toInt = x0_25.toInt + (1 : Int) ∧ (1 ≤ v33.toInt ∧ v33.toInt ≤ 4001) := ad3 hv33 Rx0_25 (show 1 ≤ (1 : Int32).toInt ∧ (1 : Int32).toInt ≤ 1 from by decide) (by decide) (by decide) (by decide) (by decide)
    refine va_put (D := D) (ci := 7) (v := .int v33) (ty := .int) (C := "SignMachineModel") (T := F_X) (N := 64) hx hb hk fi_X ft_X ft_X_ok fn_X hown hK.1 hP hD hS 0 rfl rfl 25 (by decide) (hk _ k_1146) (fun _ h9 => h9) rfl (by decide +kernel) rfl rfl (Nat.le_of_ble_eq_true rfl) d_X_atom_16 (fun H locs hP hD hS => ?_)
    have hP : va_P D classes (wS50 cI cJ cZ cB p0 p1 p2 p3 p4 p5 p6 p7 p8 p9 p10 p11 p12 p13 p14 p15 p16 p17 p18 p19 p20 p21 p22 p23 p24 p25 x0_4 x0_5 x0_6 x0_7 x0_8 x0_12 x0_13 x0_14 x0_15 x0_16 x0_17 x0_18 x0_22 x0_23 x0_24 v33 x0_26 x0_27 x0_28 x0_29 x0_30 x0_31 x0_32 x0_36 x0_39 x0_40 x0_44 x0_49 x0_51 x0_53 x0_54 x0_55 x0_56 x0_57 x0_58 x0_59 x0_60 x0_61 x0_62 y1 y2 y3 y4 y5 y6 y7 y8 y9 y10 y11 y12 y13 y14 y15 y16 y17 y18 y19 y20 y21 y22 y23 y24 y25) H := hP
    have hD : va_D A (wS50 cI cJ cZ cB p0 p1 p2 p3 p4 p5 p6 p7 p8 p9 p10 p11 p12 p13 p14 p15 p16 p17 p18 p19 p20 p21 p22 p23 p24 p25 x0_4 x0_5 x0_6 x0_7 x0_8 x0_12 x0_13 x0_14 x0_15 x0_16 x0_17 x0_18 x0_22 x0_23 x0_24 v33 x0_26 x0_27 x0_28 x0_29 x0_30 x0_31 x0_32 x0_36 x0_39 x0_40 x0_44 x0_49 x0_51 x0_53 x0_54 x0_55 x0_56 x0_57 x0_58 x0_59 x0_60 x0_61 x0_62 y1 y2 y3 y4 y5 y6 y7 y8 y9 y10 y11 y12 y13 y14 y15 y16 y17 y18 y19 y20 y21 y22 y23 y24 y25) := hD
    refine lv_aload_n hx hb d_X_atom_19 rfl (lv_at hl 0 rfl) ?_
    refine lv_aload_n hx hb d_X_atom_20 rfl (lv_at hl 0 rfl) ?_
    refine va_get (D := D) (ci := 7) (v := .int x0_30) (C := "SignMachineModel") (T := F_X) (N := 64) hx hb hk fi_X hown hK.1 hP 0 rfl rfl 30 (by decide) (hk _ k_1151) (fun _ h9 => h9) rfl d_X_atom_21 ?_
    refine lv_i2l (v := (x0_30 : Int32).toInt64) hx hb d_X_atom_24 rfl ?_
    refine lv_topl (fun v34 hv34 => ?_)
    obtain ⟨ev34, Rv34⟩ : v34.toInt = x0_30.toInt ∧ ((-1073741823) ≤ v34.toInt ∧ v34.toInt ≤ 1073741823) := il3 hv34 Rx0_30
    refine sn_l (va_runV (C := "SignMachineModel") (As := [.long v34]) (rest := []) ⟨hx, hb, hml, hown, hk⟩ (c_X_looked l D cI cJ cZ cB p0 p1 p2 p3 p4 p5 p6 p7 p8 p9 p10 p11 p12 p13 p14 p15 p16 p17 p18 p19 p20 p21 p22 p23 p24 p25 H.size x0_4 x0_5 x0_6 x0_7 x0_8 x0_12 x0_13 x0_14 x0_15 x0_16 x0_17 x0_18 x0_22 x0_23 x0_24 v33 x0_26 x0_27 x0_28 x0_29 x0_30 x0_31 x0_32 x0_36 x0_39 x0_40 x0_44 x0_49 x0_51 x0_53 x0_54 x0_55 x0_56 x0_57 x0_58 x0_59 x0_60 x0_61 x0_62 y1 y2 y3 y4 y5 y6 y7 y8 y9 y10 y11 y12 y13 y14 y15 y16 y17 y18 y19 y20 y21 y22 y23 y24 y25 v34 Rx0_26) (v_X_looked hk k_1661 ⟨Nat.le_of_ble_eq_true rfl, Nat.le_of_ble_eq_true rfl⟩) (pM_v hK hP hD (ci := 7) (q0 := 0) rfl rfl rfl) rfl rfl hl.1 rfl (lv_room (Nat.le_of_ble_eq_true rfl)) d_X_atom_25 ⟨Nat.le_of_ble_eq_true rfl, Nat.le_of_ble_eq_true rfl⟩) hS hA hD (fun rz35 u t H locs hr0 ht hB hFr hS => ?_)
    subst hr0
    obtain ⟨x0_26z35, Rx0_26z35, F0z35, F1z35, hP, hD⟩ := hB
    have F0z35 : (-1073741823) ≤ rz35.toInt ∧ rz35.toInt ≤ 1073741823 := F0z35
    have F1z35 : 1 ≤ x0_26.toInt → 1 ≤ x0_26z35.toInt := F1z35
    rw [ht] at hP
    have hD := dwk hD hFr
    clear ht hFr
    have hP : va_P D classes (wS50 cI cJ cZ cB p0 p1 p2 p3 p4 p5 p6 p7 p8 p9 p10 p11 p12 p13 p14 p15 p16 p17 p18 p19 p20 p21 p22 p23 p24 p25 x0_4 x0_5 x0_6 x0_7 x0_8 x0_12 x0_13 x0_14 x0_15 x0_16 x0_17 x0_18 x0_22 x0_23 x0_24 v33 x0_26z35 x0_27 x0_28 x0_29 x0_30 x0_31 x0_32 x0_36 x0_39 x0_40 x0_44 x0_49 x0_51 x0_53 x0_54 x0_55 x0_56 x0_57 x0_58 x0_59 x0_60 x0_61 x0_62 y1 y2 y3 y4 y5 y6 y7 y8 y9 y10 y11 y12 y13 y14 y15 y16 y17 y18 y19 y20 y21 y22 y23 y24 y25) H := hP
    have hD : va_D A (wS50 cI cJ cZ cB p0 p1 p2 p3 p4 p5 p6 p7 p8 p9 p10 p11 p12 p13 p14 p15 p16 p17 p18 p19 p20 p21 p22 p23 p24 p25 x0_4 x0_5 x0_6 x0_7 x0_8 x0_12 x0_13 x0_14 x0_15 x0_16 x0_17 x0_18 x0_22 x0_23 x0_24 v33 x0_26z35 x0_27 x0_28 x0_29 x0_30 x0_31 x0_32 x0_36 x0_39 x0_40 x0_44 x0_49 x0_51 x0_53 x0_54 x0_55 x0_56 x0_57 x0_58 x0_59 x0_60 x0_61 x0_62 y1 y2 y3 y4 y5 y6 y7 y8 y9 y10 y11 y12 y13 y14 y15 y16 y17 y18 y19 y20 y21 y22 y23 y24 y25) := hD
    exact W.lret (v := rz35) hx hb hr (fun t ht hW => ⟨⟨rz35, rz35, rfl, rfl, ⟨v33, x0_26z35, x0_54, x0_55, x0_56, (by omega), Rx0_26z35, Rx0_54, F0z35, (show x0_25.toInt ≤ v33.toInt ∧ v33.toInt ≤ x0_24.toInt from by omega), (show 1 ≤ x0_26.toInt → 1 ≤ x0_26z35.toInt from by omega), by show va_P D classes _ t.heap; rw [ht]; exact hP, hD⟩⟩, hS.F ht⟩) hS.2.2 d_X_atom_28
theorem v_X_atom {R : Room} {s : State} {args : Array Value} {own : String} {index : Nat} (hk : ∀ w ∈ tb, w.before args s = true) (hl : Cond.methodLink own index y_X_atom ∈ tb) (hR : 2 + 1 ≤ R.frames ∧ 8 + (2 + 11) + 49 ≤ R.locals) : CallW R s args own "SignMachineModel" index y_X_atom b_X_atom 2 (some .long) (.code y_X_atom b_X_atom 2 (some .long) :: tb) ({ frames := 2, cells := 0, slots := 0, locals := 49 }) 0 0 0 := mk_v 0 hk k_1660 hl k_1659 k_104 k_119 rfl rfl h_X_atom hR
set_option maxHeartbeats 8000000 in
set_option maxRecDepth 100000 in
theorem c_X_isOperator (l : Launch)  (a1 : Int32)  : Met l y_X_isOperator (.code y_X_isOperator b_X_isOperator 1 (some .boolean) :: tb) ({ frames := 0, cells := 0, slots := 0, locals := 0 }) (va_Pc [.int a1] (fun _ => True)) (vp_Si (fun ur => (0 ≤ ur.toInt ∧ ur.toInt ≤ 1) ∧ (ur.toInt = 1 → (42 ≤ a1.toInt ∧ a1.toInt ≤ 58)))) 0 0 (fun _ => False) := by
  refine Met.ofW (cc := b_X_isOperator) (maxL := 1) (ret := (some .boolean)) (by decide) rfl ?_
  intro p e s m args below meth c s₁ B hml hv
  obtain ⟨rfl, -⟩ := hv
  have hx := B.exec
  have hb := B.bytes
  have hr := B.returns
  have hts := atoms_spec (ws := .code y_X_isOperator b_X_isOperator 1 (some .boolean) :: tb) B.pre
  have hk : ∀ w ∈ tb, w.before [.int a1].toArray s = true := fun w h => hts w (List.mem_cons_of_mem _ h)
  have hown : s.vm.findClass "SignMachineModel" = some m.cls := findClass_of_methodNamed B.named
  have hlocks := B.notSynchronized
  have hl := lv_entry ([.int a1]) (n := 1) (Nat.le_of_ble_eq_true rfl)
  rw [lg_entry_eq]
  generalize (lg_sl ([.int a1]) ++ List.replicate (1 - (lg_sl ([.int a1])).length) Slot.unset).toArray = ls at hl ⊢
  have hl : lv_has ls 1 [(0, .int a1)] := hl
  clear hts B
  refine lv_iload_n hx hb d_X_isOperator_0 rfl (lv_at hl 0 rfl) ?_
  refine lv_bipush (v := 43) hx hb d_X_isOperator_1 (by decide) ?_
  refine lv_icmp_eq (tgt := 30) hx hb d_X_isOperator_3 (by decide) (fun c1 => ?_) (fun c1 => ?_)
  · have gc1 : a1.toInt = (43 : Int) := c_eq c1
    have R2 : 43 ≤ a1.toInt ∧ a1.toInt ≤ 43 := rf_eqX (fr3 a1) (show 43 ≤ (43 : Int) ∧ (43 : Int) ≤ 43 from by decide) gc1 (by decide) (by decide)
    refine lv_iconst (v := 1) hx hb d_X_isOperator_30 (by decide) ?_
    refine lv_goto (tgt := 35) hx hb d_X_isOperator_31 (by decide) ?_
    exact W.zret (v := (1 : Int32)) hx hb hr (nar01 (by decide)) (fun t ht hW => ⟨(1 : Int32), rfl, ⟨(by decide), (show (1 : Int) = 1 → (42 ≤ a1.toInt ∧ a1.toInt ≤ 58) from by omega)⟩, ht⟩) (fun q h => absurd h List.not_mem_nil) d_X_isOperator_35
  · have gc1 : a1.toInt ≠ (43 : Int) := c_ne c1
    refine lv_iload_n hx hb d_X_isOperator_6 rfl (lv_at hl 0 rfl) ?_
    refine lv_bipush (v := 45) hx hb d_X_isOperator_7 (by decide) ?_
    refine lv_icmp_eq (tgt := 30) hx hb d_X_isOperator_9 (by decide) (fun c3 => ?_) (fun c3 => ?_)
    · have gc3 : a1.toInt = (45 : Int) := c_eq c3
      have R4 : 45 ≤ a1.toInt ∧ a1.toInt ≤ 45 := rf_eqX (fr3 a1) (show 45 ≤ (45 : Int) ∧ (45 : Int) ≤ 45 from by decide) gc3 (by decide) (by decide)
      refine lv_iconst (v := 1) hx hb d_X_isOperator_30 (by decide) ?_
      refine lv_goto (tgt := 35) hx hb d_X_isOperator_31 (by decide) ?_
      exact W.zret (v := (1 : Int32)) hx hb hr (nar01 (by decide)) (fun t ht hW => ⟨(1 : Int32), rfl, ⟨(by decide), (show (1 : Int) = 1 → (42 ≤ a1.toInt ∧ a1.toInt ≤ 58) from by omega)⟩, ht⟩) (fun q h => absurd h List.not_mem_nil) d_X_isOperator_35
    · have gc3 : a1.toInt ≠ (45 : Int) := c_ne c3
      refine lv_iload_n hx hb d_X_isOperator_12 rfl (lv_at hl 0 rfl) ?_
      refine lv_bipush (v := 42) hx hb d_X_isOperator_13 (by decide) ?_
      refine lv_icmp_eq (tgt := 30) hx hb d_X_isOperator_15 (by decide) (fun c5 => ?_) (fun c5 => ?_)
      · have gc5 : a1.toInt = (42 : Int) := c_eq c5
        have R6 : 42 ≤ a1.toInt ∧ a1.toInt ≤ 42 := rf_eqX (fr3 a1) (show 42 ≤ (42 : Int) ∧ (42 : Int) ≤ 42 from by decide) gc5 (by decide) (by decide)
        refine lv_iconst (v := 1) hx hb d_X_isOperator_30 (by decide) ?_
        refine lv_goto (tgt := 35) hx hb d_X_isOperator_31 (by decide) ?_
        exact W.zret (v := (1 : Int32)) hx hb hr (nar01 (by decide)) (fun t ht hW => ⟨(1 : Int32), rfl, ⟨(by decide), (show (1 : Int) = 1 → (42 ≤ a1.toInt ∧ a1.toInt ≤ 58) from by omega)⟩, ht⟩) (fun q h => absurd h List.not_mem_nil) d_X_isOperator_35
      · have gc5 : a1.toInt ≠ (42 : Int) := c_ne c5
        refine lv_iload_n hx hb d_X_isOperator_18 rfl (lv_at hl 0 rfl) ?_
        refine lv_bipush (v := 47) hx hb d_X_isOperator_19 (by decide) ?_
        refine lv_icmp_eq (tgt := 30) hx hb d_X_isOperator_21 (by decide) (fun c7 => ?_) (fun c7 => ?_)
        · have gc7 : a1.toInt = (47 : Int) := c_eq c7
          have R8 : 47 ≤ a1.toInt ∧ a1.toInt ≤ 47 := rf_eqX (fr3 a1) (show 47 ≤ (47 : Int) ∧ (47 : Int) ≤ 47 from by decide) gc7 (by decide) (by decide)
          refine lv_iconst (v := 1) hx hb d_X_isOperator_30 (by decide) ?_
          refine lv_goto (tgt := 35) hx hb d_X_isOperator_31 (by decide) ?_
          exact W.zret (v := (1 : Int32)) hx hb hr (nar01 (by decide)) (fun t ht hW => ⟨(1 : Int32), rfl, ⟨(by decide), (show (1 : Int) = 1 → (42 ≤ a1.toInt ∧ a1.toInt ≤ 58) from by omega)⟩, ht⟩) (fun q h => absurd h List.not_mem_nil) d_X_isOperator_35
        · have gc7 : a1.toInt ≠ (47 : Int) := c_ne c7
          refine lv_iload_n hx hb d_X_isOperator_24 rfl (lv_at hl 0 rfl) ?_
          refine lv_bipush (v := 58) hx hb d_X_isOperator_25 (by decide) ?_
          refine lv_icmp_ne (tgt := 34) hx hb d_X_isOperator_27 (by decide) (fun c9 => ?_) (fun c9 => ?_)
          · have gc9 : a1.toInt ≠ (58 : Int) := c_ne c9
            refine lv_iconst (v := 0) hx hb d_X_isOperator_34 (by decide) ?_
            exact W.zret (v := (0 : Int32)) hx hb hr (nar01 (by decide)) (fun t ht hW => ⟨(0 : Int32), rfl, ⟨(by decide), (show (0 : Int) = 1 → (42 ≤ a1.toInt ∧ a1.toInt ≤ 58) from by omega)⟩, ht⟩) (fun q h => absurd h List.not_mem_nil) d_X_isOperator_35
          · have gc9 : a1.toInt = (58 : Int) := c_eq c9
            have R10 : 58 ≤ a1.toInt ∧ a1.toInt ≤ 58 := rf_eqX (fr3 a1) (show 58 ≤ (58 : Int) ∧ (58 : Int) ≤ 58 from by decide) gc9 (by decide) (by decide)
            refine lv_iconst (v := 1) hx hb d_X_isOperator_30 (by decide) ?_
            refine lv_goto (tgt := 35) hx hb d_X_isOperator_31 (by decide) ?_
            exact W.zret (v := (1 : Int32)) hx hb hr (nar01 (by decide)) (fun t ht hW => ⟨(1 : Int32), rfl, ⟨(by decide), (show (1 : Int) = 1 → (42 ≤ a1.toInt ∧ a1.toInt ≤ 58) from by omega)⟩, ht⟩) (fun q h => absurd h List.not_mem_nil) d_X_isOperator_35
theorem s_X_isOperator {R : Room} {s : State} {args : Array Value} {own : String} {index : Nat} (hk : ∀ w ∈ tb, w.before args s = true) (hl : Cond.methodLink own index y_X_isOperator ∈ tb) (hR : 0 + 1 ≤ R.frames ∧ 8 + (1 + 11) + 0 ≤ R.locals) : CallB R s args own index y_X_isOperator b_X_isOperator 1 (some .boolean) (.code y_X_isOperator b_X_isOperator 1 (some .boolean) :: tb) ({ frames := 0, cells := 0, slots := 0, locals := 0 }) 0 0 1 ∧ (Cond.static y_X_isOperator).before args s = true := mk_s 1 hk k_1672 hl k_1671 k_119 rfl rfl h_X_isOperator hR
set_option maxHeartbeats 8000000 in
set_option maxRecDepth 100000 in
theorem c_X_behindAtom (l : Launch) (D : va_G) (cI cJ cZ cB : ClassId) (p0 p1 p2 p3 p4 p5 p6 p7 p8 p9 p10 p11 p12 p13 p14 p15 p16 p17 p18 p19 p20 p21 p22 p23 p24 p25 : Nat) (sz : Nat) (x0_4 : Int32) (x0_5 : Int32) (x0_6 : Int32) (x0_7 : Int32) (x0_8 : Int32) (x0_12 : Int32) (x0_13 : Int32) (x0_14 : Int32) (x0_15 : Int32) (x0_16 : Int32) (x0_17 : Int32) (x0_18 : Int32) (x0_22 : Int32) (x0_23 : Int32) (x0_24 : Int32) (x0_25 : Int32) (x0_26 : Int32) (x0_27 : Int32) (x0_28 : Int32) (x0_29 : Int32) (x0_30 : Int32) (x0_31 : Int32) (x0_32 : Int32) (x0_36 : Int32) (x0_39 : Int32) (x0_40 : Int64) (x0_44 : Int32) (x0_49 : Int32) (x0_51 : Int32) (x0_53 : Int32) (x0_54 : Int32) (x0_55 : Int64) (x0_56 : Int32) (x0_57 : Int32) (x0_58 : Int32) (x0_59 : Int32) (x0_60 : Int32) (x0_61 : Int32) (x0_62 : Int64) (y1 : Nat → Int32) (y2 : Nat → Int32) (y3 : Nat → Int32) (y4 : Nat → Int32) (y5 : Nat → Int32) (y6 : Nat → Int32) (y7 : Nat → Int32) (y8 : Nat → Int32) (y9 : Nat → Int32) (y10 : Nat → Int32) (y11 : Nat → Int64) (y12 : Nat → Int32) (y13 : Nat → Int64) (y14 : Nat → Int32) (y15 : Nat → Int64) (y16 : Nat → Int32) (y17 : Nat → Int32) (y18 : Nat → Int32) (y19 : Nat → Int32) (y20 : Nat → Int32) (y21 : Nat → Int32) (y22 : Nat → Int32) (y23 : Nat → Int32) (y24 : Nat → Int64) (y25 : Nat → Int64) (a1 : Int64) (Rx0_24 : 0 ≤ x0_24.toInt ∧ x0_24.toInt ≤ 4000) (Rx0_25 : 0 ≤ x0_25.toInt ∧ x0_25.toInt ≤ 4000) (Rx0_26 : 0 ≤ x0_26.toInt ∧ x0_26.toInt ≤ 6) (Rx0_30 : (-1073741823) ≤ x0_30.toInt ∧ x0_30.toInt ≤ 1073741823) (Rx0_36 : 0 ≤ x0_36.toInt ∧ x0_36.toInt ≤ 60) (Rx0_54 : 0 ≤ x0_54.toInt ∧ x0_54.toInt ≤ 3) (Ay13 : ∀ i : Nat, (-1073741823 ≤ (y13 i).toInt ∧ (y13 i).toInt ≤ 1073741823)) (Ay15 : ∀ i : Nat, (-1073741823 ≤ (y15 i).toInt ∧ (y15 i).toInt ≤ 1073741823)) (Q0 : x0_25.toInt ≤ x0_24.toInt) (Q1 : (-1073741823) ≤ a1.toInt ∧ a1.toInt ≤ 1073741823) : Met l y_X_behindAtom (.code y_X_behindAtom b_X_behindAtom 8 (some .long) :: tb) ({ frames := 3, cells := 0, slots := 0, locals := 70 }) (pM D cI cJ cZ cB (wS50 cI cJ cZ cB p0 p1 p2 p3 p4 p5 p6 p7 p8 p9 p10 p11 p12 p13 p14 p15 p16 p17 p18 p19 p20 p21 p22 p23 p24 p25 x0_4 x0_5 x0_6 x0_7 x0_8 x0_12 x0_13 x0_14 x0_15 x0_16 x0_17 x0_18 x0_22 x0_23 x0_24 x0_25 x0_26 x0_27 x0_28 x0_29 x0_30 x0_31 x0_32 x0_36 x0_39 x0_40 x0_44 x0_49 x0_51 x0_53 x0_54 x0_55 x0_56 x0_57 x0_58 x0_59 x0_60 x0_61 x0_62 y1 y2 y3 y4 y5 y6 y7 y8 y9 y10 y11 y12 y13 y14 y15 y16 y17 y18 y19 y20 y21 y22 y23 y24 y25) sz [.ref p0, .long a1]) (va_Ql (fun r (u : Int64) => r = u) (fun ur t => ∃ u_x0_25 : Int32, ∃ u_x0_26 : Int32, ∃ u_x0_54 : Int32, ∃ u_x0_55 : Int64, ∃ u_x0_56 : Int32, (0 ≤ u_x0_25.toInt ∧ u_x0_25.toInt ≤ 4000) ∧ (0 ≤ u_x0_26.toInt ∧ u_x0_26.toInt ≤ 6) ∧ (0 ≤ u_x0_54.toInt ∧ u_x0_54.toInt ≤ 3) ∧ ((-1073741823) ≤ ur.toInt ∧ ur.toInt ≤ 1073741823) ∧ (x0_25.toInt ≤ u_x0_25.toInt ∧ u_x0_25.toInt ≤ x0_24.toInt) ∧ (1 ≤ x0_26.toInt → 1 ≤ u_x0_26.toInt) ∧ va_P D classes (wS50 cI cJ cZ cB p0 p1 p2 p3 p4 p5 p6 p7 p8 p9 p10 p11 p12 p13 p14 p15 p16 p17 p18 p19 p20 p21 p22 p23 p24 p25 x0_4 x0_5 x0_6 x0_7 x0_8 x0_12 x0_13 x0_14 x0_15 x0_16 x0_17 x0_18 x0_22 x0_23 x0_24 u_x0_25 u_x0_26 x0_27 x0_28 x0_29 x0_30 x0_31 x0_32 x0_36 x0_39 x0_40 x0_44 x0_49 x0_51 x0_53 u_x0_54 u_x0_55 u_x0_56 x0_57 x0_58 x0_59 x0_60 x0_61 x0_62 y1 y2 y3 y4 y5 y6 y7 y8 y9 y10 y11 y12 y13 y14 y15 y16 y17 y18 y19 y20 y21 y22 y23 y24 y25) t.heap ∧ va_D (va_A (wS50 cI cJ cZ cB p0 p1 p2 p3 p4 p5 p6 p7 p8 p9 p10 p11 p12 p13 p14 p15 p16 p17 p18 p19 p20 p21 p22 p23 p24 p25 x0_4 x0_5 x0_6 x0_7 x0_8 x0_12 x0_13 x0_14 x0_15 x0_16 x0_17 x0_18 x0_22 x0_23 x0_24 x0_25 x0_26 x0_27 x0_28 x0_29 x0_30 x0_31 x0_32 x0_36 x0_39 x0_40 x0_44 x0_49 x0_51 x0_53 x0_54 x0_55 x0_56 x0_57 x0_58 x0_59 x0_60 x0_61 x0_62 y1 y2 y3 y4 y5 y6 y7 y8 y9 y10 y11 y12 y13 y14 y15 y16 y17 y18 y19 y20 y21 y22 y23 y24 y25) sz) (wS50 cI cJ cZ cB p0 p1 p2 p3 p4 p5 p6 p7 p8 p9 p10 p11 p12 p13 p14 p15 p16 p17 p18 p19 p20 p21 p22 p23 p24 p25 x0_4 x0_5 x0_6 x0_7 x0_8 x0_12 x0_13 x0_14 x0_15 x0_16 x0_17 x0_18 x0_22 x0_23 x0_24 u_x0_25 u_x0_26 x0_27 x0_28 x0_29 x0_30 x0_31 x0_32 x0_36 x0_39 x0_40 x0_44 x0_49 x0_51 x0_53 u_x0_54 u_x0_55 u_x0_56 x0_57 x0_58 x0_59 x0_60 x0_61 x0_62 y1 y2 y3 y4 y5 y6 y7 y8 y9 y10 y11 y12 y13 y14 y15 y16 y17 y18 y19 y20 y21 y22 y23 y24 y25)) (va_A (wS50 cI cJ cZ cB p0 p1 p2 p3 p4 p5 p6 p7 p8 p9 p10 p11 p12 p13 p14 p15 p16 p17 p18 p19 p20 p21 p22 p23 p24 p25 x0_4 x0_5 x0_6 x0_7 x0_8 x0_12 x0_13 x0_14 x0_15 x0_16 x0_17 x0_18 x0_22 x0_23 x0_24 x0_25 x0_26 x0_27 x0_28 x0_29 x0_30 x0_31 x0_32 x0_36 x0_39 x0_40 x0_44 x0_49 x0_51 x0_53 x0_54 x0_55 x0_56 x0_57 x0_58 x0_59 x0_60 x0_61 x0_62 y1 y2 y3 y4 y5 y6 y7 y8 y9 y10 y11 y12 y13 y14 y15 y16 y17 y18 y19 y20 y21 y22 y23 y24 y25) sz)) 0 0 (va_A (wS50 cI cJ cZ cB p0 p1 p2 p3 p4 p5 p6 p7 p8 p9 p10 p11 p12 p13 p14 p15 p16 p17 p18 p19 p20 p21 p22 p23 p24 p25 x0_4 x0_5 x0_6 x0_7 x0_8 x0_12 x0_13 x0_14 x0_15 x0_16 x0_17 x0_18 x0_22 x0_23 x0_24 x0_25 x0_26 x0_27 x0_28 x0_29 x0_30 x0_31 x0_32 x0_36 x0_39 x0_40 x0_44 x0_49 x0_51 x0_53 x0_54 x0_55 x0_56 x0_57 x0_58 x0_59 x0_60 x0_61 x0_62 y1 y2 y3 y4 y5 y6 y7 y8 y9 y10 y11 y12 y13 y14 y15 y16 y17 y18 y19 y20 y21 y22 y23 y24 y25) sz) := by
  refine Met.ofW (cc := b_X_behindAtom) (maxL := 8) (ret := (some .long)) (by decide) rfl ?_
  intro p e s m args below meth c s₁ B hml hv
  obtain ⟨rfl, hsz, hK, hP, hD0⟩ := hv
  subst hsz
  have hD := hD0.self (sz := s.heap.size)
  generalize hAe : va_A (wS50 cI cJ cZ cB p0 p1 p2 p3 p4 p5 p6 p7 p8 p9 p10 p11 p12 p13 p14 p15 p16 p17 p18 p19 p20 p21 p22 p23 p24 p25 x0_4 x0_5 x0_6 x0_7 x0_8 x0_12 x0_13 x0_14 x0_15 x0_16 x0_17 x0_18 x0_22 x0_23 x0_24 x0_25 x0_26 x0_27 x0_28 x0_29 x0_30 x0_31 x0_32 x0_36 x0_39 x0_40 x0_44 x0_49 x0_51 x0_53 x0_54 x0_55 x0_56 x0_57 x0_58 x0_59 x0_60 x0_61 x0_62 y1 y2 y3 y4 y5 y6 y7 y8 y9 y10 y11 y12 y13 y14 y15 y16 y17 y18 y19 y20 y21 y22 y23 y24 y25) s.heap.size = A at hD ⊢
  have hA : ∀ q : Nat, s.heap.size ≤ q → A q := fun q h => by rw [← hAe]; exact Or.inr h
  clear hAe hD0
  have hS : va_S A s.heap s.heap [] := va_S.rf
  have hx := B.exec
  have hb := B.bytes
  have hr := B.returns
  have hts := atoms_spec (ws := .code y_X_behindAtom b_X_behindAtom 8 (some .long) :: tb) B.pre
  have hk : ∀ w ∈ tb, w.before [.ref p0, .long a1].toArray s = true := fun w h => hts w (List.mem_cons_of_mem _ h)
  have hown : s.vm.findClass "SignMachineModel" = some m.cls := findClass_of_methodNamed B.named
  have hlocks := B.notSynchronized
  have hl := lv_entry ([.ref p0, .long a1]) (n := 8) (Nat.le_of_ble_eq_true rfl)
  rw [lg_entry_eq]
  generalize (lg_sl ([.ref p0, .long a1]) ++ List.replicate (8 - (lg_sl ([.ref p0, .long a1])).length) Slot.unset).toArray = ls at hl ⊢
  have hl : lv_has ls 8 [(0, .ref p0), (1, .long a1)] := hl
  clear hts B
  refine lv_lload_n hx hb d_X_behindAtom_0 rfl (lv_at hl 1 rfl) ?_
  refine lv_lstore_n (lv' := [(3, .long a1), (0, .ref p0), (1, .long a1)]) hx hb d_X_behindAtom_1 rfl hl (by decide) rfl (fun ls hl => ?_)
  have CUT2 : ∀ (n : Nat) (g2l3 : Int64) (g2x0_25 : Int32) (g2x0_26 : Int32) (g2x0_54 : Int32) (g2x0_55 : Int64) (g2x0_56 : Int32) (H : Heap) (locs : List Loc) (ls : Array Slot), (x0_24.toInt - g2x0_25.toInt) < (n : Int) → ((-1073741823) ≤ g2l3.toInt ∧ g2l3.toInt ≤ 1073741823) → (0 ≤ g2x0_25.toInt ∧ g2x0_25.toInt ≤ 4000) → (0 ≤ g2x0_26.toInt ∧ g2x0_26.toInt ≤ 6) → (0 ≤ g2x0_54.toInt ∧ g2x0_54.toInt ≤ 3) → (g2x0_25.toInt ≤ x0_24.toInt) → (x0_25.toInt ≤ g2x0_25.toInt) → (1 ≤ x0_26.toInt → 1 ≤ g2x0_26.toInt) → va_P D classes (wS50 cI cJ cZ cB p0 p1 p2 p3 p4 p5 p6 p7 p8 p9 p10 p11 p12 p13 p14 p15 p16 p17 p18 p19 p20 p21 p22 p23 p24 p25 x0_4 x0_5 x0_6 x0_7 x0_8 x0_12 x0_13 x0_14 x0_15 x0_16 x0_17 x0_18 x0_22 x0_23 x0_24 g2x0_25 g2x0_26 x0_27 x0_28 x0_29 x0_30 x0_31 x0_32 x0_36 x0_39 x0_40 x0_44 x0_49 x0_51 x0_53 g2x0_54 g2x0_55 g2x0_56 x0_57 x0_58 x0_59 x0_60 x0_61 x0_62 y1 y2 y3 y4 y5 y6 y7 y8 y9 y10 y11 y12 y13 y14 y15 y16 y17 y18 y19 y20 y21 y22 y23 y24 y25) H → va_D A (wS50 cI cJ cZ cB p0 p1 p2 p3 p4 p5 p6 p7 p8 p9 p10 p11 p12 p13 p14 p15 p16 p17 p18 p19 p20 p21 p22 p23 p24 p25 x0_4 x0_5 x0_6 x0_7 x0_8 x0_12 x0_13 x0_14 x0_15 x0_16 x0_17 x0_18 x0_22 x0_23 x0_24 g2x0_25 g2x0_26 x0_27 x0_28 x0_29 x0_30 x0_31 x0_32 x0_36 x0_39 x0_40 x0_44 x0_49 x0_51 x0_53 g2x0_54 g2x0_55 g2x0_56 x0_57 x0_58 x0_59 x0_60 x0_61 x0_62 y1 y2 y3 y4 y5 y6 y7 y8 y9 y10 y11 y12 y13 y14 y15 y16 y17 y18 y19 y20 y21 y22 y23 y24 y25) → va_S A s.heap H locs → lv_has ls 8 [(3, .long g2l3), (0, .ref p0), (1, .long a1)] → W p l e ({ frames := 3, cells := 0, slots := 0, locals := 70 }) s m [.ref p0, .long a1].toArray below meth c H locs 0 0 (MQ below (va_Ql (fun r (u : Int64) => r = u) (fun ur t => ∃ u_x0_25 : Int32, ∃ u_x0_26 : Int32, ∃ u_x0_54 : Int32, ∃ u_x0_55 : Int64, ∃ u_x0_56 : Int32, (0 ≤ u_x0_25.toInt ∧ u_x0_25.toInt ≤ 4000) ∧ (0 ≤ u_x0_26.toInt ∧ u_x0_26.toInt ≤ 6) ∧ (0 ≤ u_x0_54.toInt ∧ u_x0_54.toInt ≤ 3) ∧ ((-1073741823) ≤ ur.toInt ∧ ur.toInt ≤ 1073741823) ∧ (x0_25.toInt ≤ u_x0_25.toInt ∧ u_x0_25.toInt ≤ x0_24.toInt) ∧ (1 ≤ x0_26.toInt → 1 ≤ u_x0_26.toInt) ∧ va_P D classes (wS50 cI cJ cZ cB p0 p1 p2 p3 p4 p5 p6 p7 p8 p9 p10 p11 p12 p13 p14 p15 p16 p17 p18 p19 p20 p21 p22 p23 p24 p25 x0_4 x0_5 x0_6 x0_7 x0_8 x0_12 x0_13 x0_14 x0_15 x0_16 x0_17 x0_18 x0_22 x0_23 x0_24 u_x0_25 u_x0_26 x0_27 x0_28 x0_29 x0_30 x0_31 x0_32 x0_36 x0_39 x0_40 x0_44 x0_49 x0_51 x0_53 u_x0_54 u_x0_55 u_x0_56 x0_57 x0_58 x0_59 x0_60 x0_61 x0_62 y1 y2 y3 y4 y5 y6 y7 y8 y9 y10 y11 y12 y13 y14 y15 y16 y17 y18 y19 y20 y21 y22 y23 y24 y25) t.heap ∧ va_D A (wS50 cI cJ cZ cB p0 p1 p2 p3 p4 p5 p6 p7 p8 p9 p10 p11 p12 p13 p14 p15 p16 p17 p18 p19 p20 p21 p22 p23 p24 p25 x0_4 x0_5 x0_6 x0_7 x0_8 x0_12 x0_13 x0_14 x0_15 x0_16 x0_17 x0_18 x0_22 x0_23 x0_24 u_x0_25 u_x0_26 x0_27 x0_28 x0_29 x0_30 x0_31 x0_32 x0_36 x0_39 x0_40 x0_44 x0_49 x0_51 x0_53 u_x0_54 u_x0_55 u_x0_56 x0_57 x0_58 x0_59 x0_60 x0_61 x0_62 y1 y2 y3 y4 y5 y6 y7 y8 y9 y10 y11 y12 y13 y14 y15 y16 y17 y18 y19 y20 y21 y22 y23 y24 y25)) A) [.ref p0, .long a1].toArray s 0 0 A) (F0 m 2 ls []) := by
    intro n
    induction n with
    | zero => intro g2l3 g2x0_25 g2x0_26 g2x0_54 g2x0_55 g2x0_56 H locs ls hn2 Rg2l3 Rg2x0_25 Rg2x0_26 Rg2x0_54 I2_0 I2_1 I2_2 hP hD hS hl; exfalso; omega
    | succ n ih2 =>
      intro g2l3 g2x0_25 g2x0_26 g2x0_54 g2x0_55 g2x0_56 H locs ls hn2 Rg2l3 Rg2x0_25 Rg2x0_26 Rg2x0_54 I2_0 I2_1 I2_2 hP hD hS hl
      refine lv_aload_n hx hb d_X_behindAtom_2 rfl (lv_at hl 1 rfl) ?_
      refine sn_i (va_runV (C := "SignMachineModel") (As := []) (rest := []) ⟨hx, hb, hml, hown, hk⟩ (c_X_here l D cI cJ cZ cB p0 p1 p2 p3 p4 p5 p6 p7 p8 p9 p10 p11 p12 p13 p14 p15 p16 p17 p18 p19 p20 p21 p22 p23 p24 p25 H.size x0_4 x0_5 x0_6 x0_7 x0_8 x0_12 x0_13 x0_14 x0_15 x0_16 x0_17 x0_18 x0_22 x0_23 x0_24 g2x0_25 g2x0_26 x0_27 x0_28 x0_29 x0_30 x0_31 x0_32 x0_36 x0_39 x0_40 x0_44 x0_49 x0_51 x0_53 g2x0_54 g2x0_55 g2x0_56 x0_57 x0_58 x0_59 x0_60 x0_61 x0_62 y1 y2 y3 y4 y5 y6 y7 y8 y9 y10 y11 y12 y13 y14 y15 y16 y17 y18 y19 y20 y21 y22 y23 y24 y25  Rx0_24 Rg2x0_25) (v_X_here hk k_1537 ⟨Nat.le_of_ble_eq_true rfl, Nat.le_of_ble_eq_true rfl⟩) (pM_v hK hP hD (ci := 7) (q0 := 0) rfl rfl rfl) rfl rfl hl.1 rfl (lv_room (Nat.le_of_ble_eq_true rfl)) d_X_behindAtom_3 ⟨Nat.le_of_ble_eq_true rfl, Nat.le_of_ble_eq_true rfl⟩) hS hA hD (fun rz1 u t H locs hr0 ht hB hFr hS => ?_)
      subst hr0
      obtain ⟨F0z1, hP, hD⟩ := hB
      have F0z1 : (g2x0_25.toInt < x0_24.toInt ∧ rz1.toInt = (y10 (g2x0_25).toNatClampNeg).toInt) ∨ (x0_24.toInt ≤ g2x0_25.toInt ∧ rz1.toInt = -1) := F0z1
      rw [ht] at hP
      have hD := dwk hD hFr
      clear ht hFr
      have hP : va_P D classes (wS50 cI cJ cZ cB p0 p1 p2 p3 p4 p5 p6 p7 p8 p9 p10 p11 p12 p13 p14 p15 p16 p17 p18 p19 p20 p21 p22 p23 p24 p25 x0_4 x0_5 x0_6 x0_7 x0_8 x0_12 x0_13 x0_14 x0_15 x0_16 x0_17 x0_18 x0_22 x0_23 x0_24 g2x0_25 g2x0_26 x0_27 x0_28 x0_29 x0_30 x0_31 x0_32 x0_36 x0_39 x0_40 x0_44 x0_49 x0_51 x0_53 g2x0_54 g2x0_55 g2x0_56 x0_57 x0_58 x0_59 x0_60 x0_61 x0_62 y1 y2 y3 y4 y5 y6 y7 y8 y9 y10 y11 y12 y13 y14 y15 y16 y17 y18 y19 y20 y21 y22 y23 y24 y25) H := hP
      have hD : va_D A (wS50 cI cJ cZ cB p0 p1 p2 p3 p4 p5 p6 p7 p8 p9 p10 p11 p12 p13 p14 p15 p16 p17 p18 p19 p20 p21 p22 p23 p24 p25 x0_4 x0_5 x0_6 x0_7 x0_8 x0_12 x0_13 x0_14 x0_15 x0_16 x0_17 x0_18 x0_22 x0_23 x0_24 g2x0_25 g2x0_26 x0_27 x0_28 x0_29 x0_30 x0_31 x0_32 x0_36 x0_39 x0_40 x0_44 x0_49 x0_51 x0_53 g2x0_54 g2x0_55 g2x0_56 x0_57 x0_58 x0_59 x0_60 x0_61 x0_62 y1 y2 y3 y4 y5 y6 y7 y8 y9 y10 y11 y12 y13 y14 y15 y16 y17 y18 y19 y20 y21 y22 y23 y24 y25) := hD
      refine vp_callSi (W.runS (As := [.int rz1]) (rest := []) ⟨hx, hb, hml, hown, hk⟩ (c_X_isOperator l rz1 ) (s_X_isOperator hk k_1670 ⟨Nat.le_of_ble_eq_true rfl, Nat.le_of_ble_eq_true rfl⟩) ⟨fun a U g mk q => q, fun U hU hW => ⟨rfl, trivial⟩⟩ rfl rfl hl.1 rfl (lv_room (Nat.le_of_ble_eq_true rfl)) d_X_behindAtom_6 ⟨Nat.le_of_ble_eq_true rfl, Nat.le_of_ble_eq_true rfl⟩) (fun rz2 hrz2 => ?_)
      obtain ⟨F0z2, F1z2⟩ := hrz2
      have F0z2 : 0 ≤ rz2.toInt ∧ rz2.toInt ≤ 1 := F0z2
      have F1z2 : rz2.toInt = 1 → (42 ≤ rz1.toInt ∧ rz1.toInt ≤ 58) := F1z2
      refine lv_if_eq (tgt := 135) hx hb d_X_behindAtom_9 (by decide) (fun c3 => ?_) (fun c3 => ?_)
      · have gc3 : rz2.toInt = (0 : Int) := c_eq c3
        have R4 : 0 ≤ rz2.toInt ∧ rz2.toInt ≤ 0 := rf_eqX F0z2 (show 0 ≤ (0 : Int) ∧ (0 : Int) ≤ 0 from by decide) gc3 (by decide) (by decide)
        refine lv_lload_n hx hb d_X_behindAtom_135 rfl (lv_at hl 0 rfl) ?_
        exact W.lret (v := g2l3) hx hb hr (fun t ht hW => ⟨⟨g2l3, g2l3, rfl, rfl, ⟨g2x0_25, g2x0_26, g2x0_54, g2x0_55, g2x0_56, Rg2x0_25, Rg2x0_26, Rg2x0_54, Rg2l3, (show x0_25.toInt ≤ g2x0_25.toInt ∧ g2x0_25.toInt ≤ x0_24.toInt from by omega), (show 1 ≤ x0_26.toInt → 1 ≤ g2x0_26.toInt from by omega), by show va_P D classes _ t.heap; rw [ht]; exact hP, hD⟩⟩, hS.F ht⟩) hS.2.2 d_X_behindAtom_136
      · have gc3 : rz2.toInt ≠ (0 : Int) := c_ne c3
        have R5 : 1 ≤ rz2.toInt ∧ rz2.toInt ≤ 1 := rf_neX F0z2 (show 0 ≤ (0 : Int) ∧ (0 : Int) ≤ 0 from by decide) gc3 (by decide) (by decide)
        refine lv_aload_n hx hb d_X_behindAtom_12 rfl (lv_at hl 1 rfl) ?_
        refine va_get (D := D) (ci := 7) (v := .int g2x0_26) (C := "SignMachineModel") (T := F_X) (N := 64) hx hb hk fi_X hown hK.1 hP 0 rfl rfl 26 (by decide) (hk _ k_1147) (fun _ h9 => h9) rfl d_X_behindAtom_13 ?_
        refine lv_if_ne (tgt := 135) hx hb d_X_behindAtom_16 (by decide) (fun c6 => ?_) (fun c6 => ?_)
        · have gc6 : g2x0_26.toInt ≠ (0 : Int) := c_ne c6
          have R7 : 1 ≤ g2x0_26.toInt ∧ g2x0_26.toInt ≤ 6 := rf_neX Rg2x0_26 (show 0 ≤ (0 : Int) ∧ (0 : Int) ≤ 0 from by decide) gc6 (by decide) (by decide)
          refine lv_lload_n hx hb d_X_behindAtom_135 rfl (lv_at hl 0 rfl) ?_
          exact W.lret (v := g2l3) hx hb hr (fun t ht hW => ⟨⟨g2l3, g2l3, rfl, rfl, ⟨g2x0_25, g2x0_26, g2x0_54, g2x0_55, g2x0_56, Rg2x0_25, (rgw R7 (by decide) (by decide)), Rg2x0_54, Rg2l3, (show x0_25.toInt ≤ g2x0_25.toInt ∧ g2x0_25.toInt ≤ x0_24.toInt from by omega), (show 1 ≤ x0_26.toInt → 1 ≤ g2x0_26.toInt from by omega), by show va_P D classes _ t.heap; rw [ht]; exact hP, hD⟩⟩, hS.F ht⟩) hS.2.2 d_X_behindAtom_136
        · have gc6 : g2x0_26.toInt = (0 : Int) := c_eq c6
          have R8 : 0 ≤ g2x0_26.toInt ∧ g2x0_26.toInt ≤ 0 := rf_eqX Rg2x0_26 (show 0 ≤ (0 : Int) ∧ (0 : Int) ≤ 0 from by decide) gc6 (by decide) (by decide)
          refine lv_aload_n hx hb d_X_behindAtom_19 rfl (lv_at hl 1 rfl) ?_
          refine sn_i (va_runV (C := "SignMachineModel") (As := []) (rest := []) ⟨hx, hb, hml, hown, hk⟩ (c_X_here l D cI cJ cZ cB p0 p1 p2 p3 p4 p5 p6 p7 p8 p9 p10 p11 p12 p13 p14 p15 p16 p17 p18 p19 p20 p21 p22 p23 p24 p25 H.size x0_4 x0_5 x0_6 x0_7 x0_8 x0_12 x0_13 x0_14 x0_15 x0_16 x0_17 x0_18 x0_22 x0_23 x0_24 g2x0_25 g2x0_26 x0_27 x0_28 x0_29 x0_30 x0_31 x0_32 x0_36 x0_39 x0_40 x0_44 x0_49 x0_51 x0_53 g2x0_54 g2x0_55 g2x0_56 x0_57 x0_58 x0_59 x0_60 x0_61 x0_62 y1 y2 y3 y4 y5 y6 y7 y8 y9 y10 y11 y12 y13 y14 y15 y16 y17 y18 y19 y20 y21 y22 y23 y24 y25  Rx0_24 Rg2x0_25) (v_X_here hk k_1537 ⟨Nat.le_of_ble_eq_true rfl, Nat.le_of_ble_eq_true rfl⟩) (pM_v hK hP hD (ci := 7) (q0 := 0) rfl rfl rfl) rfl rfl hl.1 rfl (lv_room (Nat.le_of_ble_eq_true rfl)) d_X_behindAtom_20 ⟨Nat.le_of_ble_eq_true rfl, Nat.le_of_ble_eq_true rfl⟩) hS hA hD (fun rz9 u t H locs hr0 ht hB hFr hS => ?_)
          subst hr0
          obtain ⟨F0z9, hP, hD⟩ := hB
          have F0z9 : (g2x0_25.toInt < x0_24.toInt ∧ rz9.toInt = (y10 (g2x0_25).toNatClampNeg).toInt) ∨ (x0_24.toInt ≤ g2x0_25.toInt ∧ rz9.toInt = -1) := F0z9
          rw [ht] at hP
          have hD := dwk hD hFr
          clear ht hFr
          have hP : va_P D classes (wS50 cI cJ cZ cB p0 p1 p2 p3 p4 p5 p6 p7 p8 p9 p10 p11 p12 p13 p14 p15 p16 p17 p18 p19 p20 p21 p22 p23 p24 p25 x0_4 x0_5 x0_6 x0_7 x0_8 x0_12 x0_13 x0_14 x0_15 x0_16 x0_17 x0_18 x0_22 x0_23 x0_24 g2x0_25 g2x0_26 x0_27 x0_28 x0_29 x0_30 x0_31 x0_32 x0_36 x0_39 x0_40 x0_44 x0_49 x0_51 x0_53 g2x0_54 g2x0_55 g2x0_56 x0_57 x0_58 x0_59 x0_60 x0_61 x0_62 y1 y2 y3 y4 y5 y6 y7 y8 y9 y10 y11 y12 y13 y14 y15 y16 y17 y18 y19 y20 y21 y22 y23 y24 y25) H := hP
          have hD : va_D A (wS50 cI cJ cZ cB p0 p1 p2 p3 p4 p5 p6 p7 p8 p9 p10 p11 p12 p13 p14 p15 p16 p17 p18 p19 p20 p21 p22 p23 p24 p25 x0_4 x0_5 x0_6 x0_7 x0_8 x0_12 x0_13 x0_14 x0_15 x0_16 x0_17 x0_18 x0_22 x0_23 x0_24 g2x0_25 g2x0_26 x0_27 x0_28 x0_29 x0_30 x0_31 x0_32 x0_36 x0_39 x0_40 x0_44 x0_49 x0_51 x0_53 g2x0_54 g2x0_55 g2x0_56 x0_57 x0_58 x0_59 x0_60 x0_61 x0_62 y1 y2 y3 y4 y5 y6 y7 y8 y9 y10 y11 y12 y13 y14 y15 y16 y17 y18 y19 y20 y21 y22 y23 y24 y25) := hD
          refine lv_istore (lv' := [(5, .int rz9), (3, .long g2l3), (0, .ref p0), (1, .long a1)]) hx hb d_X_behindAtom_23 hl (by decide) rfl (fun ls hl => ?_)
          refine lv_aload_n hx hb d_X_behindAtom_25 rfl (lv_at hl 2 rfl) ?_
          refine lv_dup hx hb d_X_behindAtom_26 rfl ?_
          refine va_get (D := D) (ci := 7) (v := .int g2x0_25) (C := "SignMachineModel") (T := F_X) (N := 64) hx hb hk fi_X hown hK.1 hP 0 rfl rfl 25 (by decide) (hk _ k_1146) (fun _ h9 => h9) rfl d_X_behindAtom_27 ?_
          refine lv_iconst (v := 1) hx hb d_X_behindAtom_30 (by decide) ?_
          refine lv_iadd hx hb d_X_behindAtom_31 ?_
          refine lv_topi (fun v10 hv10 => ?_)
          obtain ⟨ev10, Rv10⟩ : v10.toInt = g2x0_25.toInt + (1 : Int) ∧ (1 ≤ v10.toInt ∧ v10.toInt ≤ 4001) := ad3 hv10 Rg2x0_25 (show 1 ≤ (1 : Int32).toInt ∧ (1 : Int32).toInt ≤ 1 from by decide) (by decide) (by decide) (by decide) (by decide)
          refine va_put (D := D) (ci := 7) (v := .int v10) (ty := .int) (C := "SignMachineModel") (T := F_X) (N := 64) hx hb hk fi_X ft_X ft_X_ok fn_X hown hK.1 hP hD hS 0 rfl rfl 25 (by decide) (hk _ k_1146) (fun _ h9 => h9) rfl (by decide +kernel) rfl rfl (Nat.le_of_ble_eq_true rfl) d_X_behindAtom_32 (fun H locs hP hD hS => ?_)
          have hP : va_P D classes (wS50 cI cJ cZ cB p0 p1 p2 p3 p4 p5 p6 p7 p8 p9 p10 p11 p12 p13 p14 p15 p16 p17 p18 p19 p20 p21 p22 p23 p24 p25 x0_4 x0_5 x0_6 x0_7 x0_8 x0_12 x0_13 x0_14 x0_15 x0_16 x0_17 x0_18 x0_22 x0_23 x0_24 v10 g2x0_26 x0_27 x0_28 x0_29 x0_30 x0_31 x0_32 x0_36 x0_39 x0_40 x0_44 x0_49 x0_51 x0_53 g2x0_54 g2x0_55 g2x0_56 x0_57 x0_58 x0_59 x0_60 x0_61 x0_62 y1 y2 y3 y4 y5 y6 y7 y8 y9 y10 y11 y12 y13 y14 y15 y16 y17 y18 y19 y20 y21 y22 y23 y24 y25) H := hP
          have hD : va_D A (wS50 cI cJ cZ cB p0 p1 p2 p3 p4 p5 p6 p7 p8 p9 p10 p11 p12 p13 p14 p15 p16 p17 p18 p19 p20 p21 p22 p23 p24 p25 x0_4 x0_5 x0_6 x0_7 x0_8 x0_12 x0_13 x0_14 x0_15 x0_16 x0_17 x0_18 x0_22 x0_23 x0_24 v10 g2x0_26 x0_27 x0_28 x0_29 x0_30 x0_31 x0_32 x0_36 x0_39 x0_40 x0_44 x0_49 x0_51 x0_53 g2x0_54 g2x0_55 g2x0_56 x0_57 x0_58 x0_59 x0_60 x0_61 x0_62 y1 y2 y3 y4 y5 y6 y7 y8 y9 y10 y11 y12 y13 y14 y15 y16 y17 y18 y19 y20 y21 y22 y23 y24 y25) := hD
          refine lv_aload_n hx hb d_X_behindAtom_35 rfl (lv_at hl 2 rfl) ?_
          refine sn_l (va_runV (C := "SignMachineModel") (As := []) (rest := []) ⟨hx, hb, hml, hown, hk⟩ (c_X_atom l D cI cJ cZ cB p0 p1 p2 p3 p4 p5 p6 p7 p8 p9 p10 p11 p12 p13 p14 p15 p16 p17 p18 p19 p20 p21 p22 p23 p24 p25 H.size x0_4 x0_5 x0_6 x0_7 x0_8 x0_12 x0_13 x0_14 x0_15 x0_16 x0_17 x0_18 x0_22 x0_23 x0_24 v10 g2x0_26 x0_27 x0_28 x0_29 x0_30 x0_31 x0_32 x0_36 x0_39 x0_40 x0_44 x0_49 x0_51 x0_53 g2x0_54 g2x0_55 g2x0_56 x0_57 x0_58 x0_59 x0_60 x0_61 x0_62 y1 y2 y3 y4 y5 y6 y7 y8 y9 y10 y11 y12 y13 y14 y15 y16 y17 y18 y19 y20 y21 y22 y23 y24 y25  Rx0_24 (by omega) (rgw R8 (by decide) (by decide)) Rx0_30 Rx0_36 Rg2x0_54 Ay13 Ay15 (show v10.toInt ≤ x0_24.toInt from by omega)) (v_X_atom hk k_1657 ⟨Nat.le_of_ble_eq_true rfl, Nat.le_of_ble_eq_true rfl⟩) (pM_v hK hP hD (ci := 7) (q0 := 0) rfl rfl rfl) rfl rfl hl.1 rfl (lv_room (Nat.le_of_ble_eq_true rfl)) d_X_behindAtom_36 ⟨Nat.le_of_ble_eq_true rfl, Nat.le_of_ble_eq_true rfl⟩) hS hA hD (fun rz11 u t H locs hr0 ht hB hFr hS => ?_)
          subst hr0
          obtain ⟨x0_25z11, x0_26z11, x0_54z11, x0_55z11, x0_56z11, Rx0_25z11, Rx0_26z11, Rx0_54z11, F0z11, F1z11, F2z11, hP, hD⟩ := hB
          have F0z11 : (-1073741823) ≤ rz11.toInt ∧ rz11.toInt ≤ 1073741823 := F0z11
          have F1z11 : v10.toInt ≤ x0_25z11.toInt ∧ x0_25z11.toInt ≤ x0_24.toInt := F1z11
          have F2z11 : 1 ≤ g2x0_26.toInt → 1 ≤ x0_26z11.toInt := F2z11
          rw [ht] at hP
          have hD := dwk hD hFr
          clear ht hFr
          have hP : va_P D classes (wS50 cI cJ cZ cB p0 p1 p2 p3 p4 p5 p6 p7 p8 p9 p10 p11 p12 p13 p14 p15 p16 p17 p18 p19 p20 p21 p22 p23 p24 p25 x0_4 x0_5 x0_6 x0_7 x0_8 x0_12 x0_13 x0_14 x0_15 x0_16 x0_17 x0_18 x0_22 x0_23 x0_24 x0_25z11 x0_26z11 x0_27 x0_28 x0_29 x0_30 x0_31 x0_32 x0_36 x0_39 x0_40 x0_44 x0_49 x0_51 x0_53 x0_54z11 x0_55z11 x0_56z11 x0_57 x0_58 x0_59 x0_60 x0_61 x0_62 y1 y2 y3 y4 y5 y6 y7 y8 y9 y10 y11 y12 y13 y14 y15 y16 y17 y18 y19 y20 y21 y22 y23 y24 y25) H := hP
          have hD : va_D A (wS50 cI cJ cZ cB p0 p1 p2 p3 p4 p5 p6 p7 p8 p9 p10 p11 p12 p13 p14 p15 p16 p17 p18 p19 p20 p21 p22 p23 p24 p25 x0_4 x0_5 x0_6 x0_7 x0_8 x0_12 x0_13 x0_14 x0_15 x0_16 x0_17 x0_18 x0_22 x0_23 x0_24 x0_25z11 x0_26z11 x0_27 x0_28 x0_29 x0_30 x0_31 x0_32 x0_36 x0_39 x0_40 x0_44 x0_49 x0_51 x0_53 x0_54z11 x0_55z11 x0_56z11 x0_57 x0_58 x0_59 x0_60 x0_61 x0_62 y1 y2 y3 y4 y5 y6 y7 y8 y9 y10 y11 y12 y13 y14 y15 y16 y17 y18 y19 y20 y21 y22 y23 y24 y25) := hD
          refine lv_lstore (lv' := [(6, .long rz11), (5, .int rz9), (3, .long g2l3), (0, .ref p0), (1, .long a1)]) hx hb d_X_behindAtom_39 hl (by decide) rfl (fun ls hl => ?_)
          refine lv_iload hx hb d_X_behindAtom_41 (lv_at hl 1 rfl) ?_
          refine lv_bipush (v := 47) hx hb d_X_behindAtom_43 (by decide) ?_
          refine lv_icmp_ne (tgt := 63) hx hb d_X_behindAtom_45 (by decide) (fun c12 => ?_) (fun c12 => ?_)
          · have gc12 : rz9.toInt ≠ (47 : Int) := c_ne c12
            refine lv_aload_n hx hb d_X_behindAtom_63 rfl (lv_at hl 3 rfl) ?_
            refine lv_iload hx hb d_X_behindAtom_64 (lv_at hl 1 rfl) ?_
            refine lv_bipush (v := 43) hx hb d_X_behindAtom_66 (by decide) ?_
            refine lv_icmp_ne (tgt := 78) hx hb d_X_behindAtom_68 (by decide) (fun c13 => ?_) (fun c13 => ?_)
            · have gc13 : rz9.toInt ≠ (43 : Int) := c_ne c13
              refine lv_iload hx hb d_X_behindAtom_78 (lv_at hl 1 rfl) ?_
              refine lv_bipush (v := 45) hx hb d_X_behindAtom_80 (by decide) ?_
              refine lv_icmp_ne (tgt := 92) hx hb d_X_behindAtom_82 (by decide) (fun c14 => ?_) (fun c14 => ?_)
              · have gc14 : rz9.toInt ≠ (45 : Int) := c_ne c14
                refine lv_iload hx hb d_X_behindAtom_92 (lv_at hl 1 rfl) ?_
                refine lv_bipush (v := 42) hx hb d_X_behindAtom_94 (by decide) ?_
                refine lv_icmp_ne (tgt := 106) hx hb d_X_behindAtom_96 (by decide) (fun c15 => ?_) (fun c15 => ?_)
                · have gc15 : rz9.toInt ≠ (42 : Int) := c_ne c15
                  refine lv_iload hx hb d_X_behindAtom_106 (lv_at hl 1 rfl) ?_
                  refine lv_bipush (v := 47) hx hb d_X_behindAtom_108 (by decide) ?_
                  refine lv_icmp_ne (tgt := 120) hx hb d_X_behindAtom_110 (by decide) (fun c16 => ?_) (fun c16 => absurd c16 (show ¬ rz9 = (47 : Int32) from c12))
                  refine lv_ldc2 (v := 8) hx hb hown (hk _ k_1335) d_X_behindAtom_120 ?_
                  refine lv_lload_n hx hb d_X_behindAtom_123 rfl (lv_at hl 2 rfl) ?_
                  refine lv_lmul hx hb d_X_behindAtom_124 ?_
                  refine lv_topl (fun v17 hv17 => ?_)
                  refine lv_lload hx hb d_X_behindAtom_125 (lv_at hl 0 rfl) ?_
                  refine lv_ladd hx hb d_X_behindAtom_127 ?_
                  refine lv_topl (fun v18 hv18 => ?_)
                  refine sn_l (va_runV (C := "SignMachineModel") (As := [.long v18]) (rest := []) ⟨hx, hb, hml, hown, hk⟩ (c_X_looked l D cI cJ cZ cB p0 p1 p2 p3 p4 p5 p6 p7 p8 p9 p10 p11 p12 p13 p14 p15 p16 p17 p18 p19 p20 p21 p22 p23 p24 p25 H.size x0_4 x0_5 x0_6 x0_7 x0_8 x0_12 x0_13 x0_14 x0_15 x0_16 x0_17 x0_18 x0_22 x0_23 x0_24 x0_25z11 x0_26z11 x0_27 x0_28 x0_29 x0_30 x0_31 x0_32 x0_36 x0_39 x0_40 x0_44 x0_49 x0_51 x0_53 x0_54z11 x0_55z11 x0_56z11 x0_57 x0_58 x0_59 x0_60 x0_61 x0_62 y1 y2 y3 y4 y5 y6 y7 y8 y9 y10 y11 y12 y13 y14 y15 y16 y17 y18 y19 y20 y21 y22 y23 y24 y25 v18 Rx0_26z11) (v_X_looked hk k_1661 ⟨Nat.le_of_ble_eq_true rfl, Nat.le_of_ble_eq_true rfl⟩) (pM_v hK hP hD (ci := 7) (q0 := 0) rfl rfl rfl) rfl rfl hl.1 rfl (lv_room (Nat.le_of_ble_eq_true rfl)) d_X_behindAtom_128 ⟨Nat.le_of_ble_eq_true rfl, Nat.le_of_ble_eq_true rfl⟩) hS hA hD (fun rz19 u t H locs hr0 ht hB hFr hS => ?_)
                  subst hr0
                  obtain ⟨x0_26z19, Rx0_26z19, F0z19, F1z19, hP, hD⟩ := hB
                  have F0z19 : (-1073741823) ≤ rz19.toInt ∧ rz19.toInt ≤ 1073741823 := F0z19
                  have F1z19 : 1 ≤ x0_26z11.toInt → 1 ≤ x0_26z19.toInt := F1z19
                  rw [ht] at hP
                  have hD := dwk hD hFr
                  clear ht hFr
                  have hP : va_P D classes (wS50 cI cJ cZ cB p0 p1 p2 p3 p4 p5 p6 p7 p8 p9 p10 p11 p12 p13 p14 p15 p16 p17 p18 p19 p20 p21 p22 p23 p24 p25 x0_4 x0_5 x0_6 x0_7 x0_8 x0_12 x0_13 x0_14 x0_15 x0_16 x0_17 x0_18 x0_22 x0_23 x0_24 x0_25z11 x0_26z19 x0_27 x0_28 x0_29 x0_30 x0_31 x0_32 x0_36 x0_39 x0_40 x0_44 x0_49 x0_51 x0_53 x0_54z11 x0_55z11 x0_56z11 x0_57 x0_58 x0_59 x0_60 x0_61 x0_62 y1 y2 y3 y4 y5 y6 y7 y8 y9 y10 y11 y12 y13 y14 y15 y16 y17 y18 y19 y20 y21 y22 y23 y24 y25) H := hP
                  have hD : va_D A (wS50 cI cJ cZ cB p0 p1 p2 p3 p4 p5 p6 p7 p8 p9 p10 p11 p12 p13 p14 p15 p16 p17 p18 p19 p20 p21 p22 p23 p24 p25 x0_4 x0_5 x0_6 x0_7 x0_8 x0_12 x0_13 x0_14 x0_15 x0_16 x0_17 x0_18 x0_22 x0_23 x0_24 x0_25z11 x0_26z19 x0_27 x0_28 x0_29 x0_30 x0_31 x0_32 x0_36 x0_39 x0_40 x0_44 x0_49 x0_51 x0_53 x0_54z11 x0_55z11 x0_56z11 x0_57 x0_58 x0_59 x0_60 x0_61 x0_62 y1 y2 y3 y4 y5 y6 y7 y8 y9 y10 y11 y12 y13 y14 y15 y16 y17 y18 y19 y20 y21 y22 y23 y24 y25) := hD
                  refine lv_lstore_n (lv' := [(3, .long rz19), (6, .long rz11), (5, .int rz9), (0, .ref p0), (1, .long a1)]) hx hb d_X_behindAtom_131 rfl hl (by decide) rfl (fun ls hl => ?_)
                  refine lv_goto (tgt := 2) hx hb d_X_behindAtom_132 (by decide) ?_
                  exact ih2 rz19 x0_25z11 x0_26z19 x0_54z11 x0_55z11 x0_56z11 H _ ls (show x0_24.toInt - x0_25z11.toInt < (n : Int) from by omega) F0z19 Rx0_25z11 Rx0_26z19 Rx0_54z11 (show x0_25z11.toInt ≤ x0_24.toInt from by omega) (show x0_25.toInt ≤ x0_25z11.toInt from by omega) (show 1 ≤ x0_26.toInt → 1 ≤ x0_26z19.toInt from by omega) hP hD hS (lv_sub hl [0, 3, 4] rfl)
                · have gc15 : rz9.toInt = (42 : Int) := c_eq c15
                  have R20 : 42 ≤ rz9.toInt ∧ rz9.toInt ≤ 42 := rf_eqX (fr3 rz9) (show 42 ≤ (42 : Int) ∧ (42 : Int) ≤ 42 from by decide) gc15 (by decide) (by decide)
                  refine lv_lload_n hx hb d_X_behindAtom_99 rfl (lv_at hl 2 rfl) ?_
                  refine lv_lload hx hb d_X_behindAtom_100 (lv_at hl 0 rfl) ?_
                  refine lv_lmul hx hb d_X_behindAtom_102 ?_
                  refine lv_topl (fun v21 hv21 => ?_)
                  refine lv_goto (tgt := 128) hx hb d_X_behindAtom_103 (by decide) ?_
                  refine sn_l (va_runV (C := "SignMachineModel") (As := [.long v21]) (rest := []) ⟨hx, hb, hml, hown, hk⟩ (c_X_looked l D cI cJ cZ cB p0 p1 p2 p3 p4 p5 p6 p7 p8 p9 p10 p11 p12 p13 p14 p15 p16 p17 p18 p19 p20 p21 p22 p23 p24 p25 H.size x0_4 x0_5 x0_6 x0_7 x0_8 x0_12 x0_13 x0_14 x0_15 x0_16 x0_17 x0_18 x0_22 x0_23 x0_24 x0_25z11 x0_26z11 x0_27 x0_28 x0_29 x0_30 x0_31 x0_32 x0_36 x0_39 x0_40 x0_44 x0_49 x0_51 x0_53 x0_54z11 x0_55z11 x0_56z11 x0_57 x0_58 x0_59 x0_60 x0_61 x0_62 y1 y2 y3 y4 y5 y6 y7 y8 y9 y10 y11 y12 y13 y14 y15 y16 y17 y18 y19 y20 y21 y22 y23 y24 y25 v21 Rx0_26z11) (v_X_looked hk k_1661 ⟨Nat.le_of_ble_eq_true rfl, Nat.le_of_ble_eq_true rfl⟩) (pM_v hK hP hD (ci := 7) (q0 := 0) rfl rfl rfl) rfl rfl hl.1 rfl (lv_room (Nat.le_of_ble_eq_true rfl)) d_X_behindAtom_128 ⟨Nat.le_of_ble_eq_true rfl, Nat.le_of_ble_eq_true rfl⟩) hS hA hD (fun rz22 u t H locs hr0 ht hB hFr hS => ?_)
                  subst hr0
                  obtain ⟨x0_26z22, Rx0_26z22, F0z22, F1z22, hP, hD⟩ := hB
                  have F0z22 : (-1073741823) ≤ rz22.toInt ∧ rz22.toInt ≤ 1073741823 := F0z22
                  have F1z22 : 1 ≤ x0_26z11.toInt → 1 ≤ x0_26z22.toInt := F1z22
                  rw [ht] at hP
                  have hD := dwk hD hFr
                  clear ht hFr
                  have hP : va_P D classes (wS50 cI cJ cZ cB p0 p1 p2 p3 p4 p5 p6 p7 p8 p9 p10 p11 p12 p13 p14 p15 p16 p17 p18 p19 p20 p21 p22 p23 p24 p25 x0_4 x0_5 x0_6 x0_7 x0_8 x0_12 x0_13 x0_14 x0_15 x0_16 x0_17 x0_18 x0_22 x0_23 x0_24 x0_25z11 x0_26z22 x0_27 x0_28 x0_29 x0_30 x0_31 x0_32 x0_36 x0_39 x0_40 x0_44 x0_49 x0_51 x0_53 x0_54z11 x0_55z11 x0_56z11 x0_57 x0_58 x0_59 x0_60 x0_61 x0_62 y1 y2 y3 y4 y5 y6 y7 y8 y9 y10 y11 y12 y13 y14 y15 y16 y17 y18 y19 y20 y21 y22 y23 y24 y25) H := hP
                  have hD : va_D A (wS50 cI cJ cZ cB p0 p1 p2 p3 p4 p5 p6 p7 p8 p9 p10 p11 p12 p13 p14 p15 p16 p17 p18 p19 p20 p21 p22 p23 p24 p25 x0_4 x0_5 x0_6 x0_7 x0_8 x0_12 x0_13 x0_14 x0_15 x0_16 x0_17 x0_18 x0_22 x0_23 x0_24 x0_25z11 x0_26z22 x0_27 x0_28 x0_29 x0_30 x0_31 x0_32 x0_36 x0_39 x0_40 x0_44 x0_49 x0_51 x0_53 x0_54z11 x0_55z11 x0_56z11 x0_57 x0_58 x0_59 x0_60 x0_61 x0_62 y1 y2 y3 y4 y5 y6 y7 y8 y9 y10 y11 y12 y13 y14 y15 y16 y17 y18 y19 y20 y21 y22 y23 y24 y25) := hD
                  refine lv_lstore_n (lv' := [(3, .long rz22), (6, .long rz11), (5, .int rz9), (0, .ref p0), (1, .long a1)]) hx hb d_X_behindAtom_131 rfl hl (by decide) rfl (fun ls hl => ?_)
                  refine lv_goto (tgt := 2) hx hb d_X_behindAtom_132 (by decide) ?_
                  exact ih2 rz22 x0_25z11 x0_26z22 x0_54z11 x0_55z11 x0_56z11 H _ ls (show x0_24.toInt - x0_25z11.toInt < (n : Int) from by omega) F0z22 Rx0_25z11 Rx0_26z22 Rx0_54z11 (show x0_25z11.toInt ≤ x0_24.toInt from by omega) (show x0_25.toInt ≤ x0_25z11.toInt from by omega) (show 1 ≤ x0_26.toInt → 1 ≤ x0_26z22.toInt from by omega) hP hD hS (lv_sub hl [0, 3, 4] rfl)
              · have gc14 : rz9.toInt = (45 : Int) := c_eq c14
                have R23 : 45 ≤ rz9.toInt ∧ rz9.toInt ≤ 45 := rf_eqX (fr3 rz9) (show 45 ≤ (45 : Int) ∧ (45 : Int) ≤ 45 from by decide) gc14 (by decide) (by decide)
                refine lv_lload_n hx hb d_X_behindAtom_85 rfl (lv_at hl 2 rfl) ?_
                refine lv_lload hx hb d_X_behindAtom_86 (lv_at hl 0 rfl) ?_
                refine lv_lsub hx hb d_X_behindAtom_88 ?_
                refine lv_topl (fun v24 hv24 => ?_)
                obtain ⟨ev24, Rv24⟩ : v24.toInt = g2l3.toInt - rz11.toInt ∧ ((-2147483646) ≤ v24.toInt ∧ v24.toInt ≤ 2147483646) := sb6 hv24 Rg2l3 F0z11 (by decide) (by decide) (by decide) (by decide)
                refine lv_goto (tgt := 128) hx hb d_X_behindAtom_89 (by decide) ?_
                refine sn_l (va_runV (C := "SignMachineModel") (As := [.long v24]) (rest := []) ⟨hx, hb, hml, hown, hk⟩ (c_X_looked l D cI cJ cZ cB p0 p1 p2 p3 p4 p5 p6 p7 p8 p9 p10 p11 p12 p13 p14 p15 p16 p17 p18 p19 p20 p21 p22 p23 p24 p25 H.size x0_4 x0_5 x0_6 x0_7 x0_8 x0_12 x0_13 x0_14 x0_15 x0_16 x0_17 x0_18 x0_22 x0_23 x0_24 x0_25z11 x0_26z11 x0_27 x0_28 x0_29 x0_30 x0_31 x0_32 x0_36 x0_39 x0_40 x0_44 x0_49 x0_51 x0_53 x0_54z11 x0_55z11 x0_56z11 x0_57 x0_58 x0_59 x0_60 x0_61 x0_62 y1 y2 y3 y4 y5 y6 y7 y8 y9 y10 y11 y12 y13 y14 y15 y16 y17 y18 y19 y20 y21 y22 y23 y24 y25 v24 Rx0_26z11) (v_X_looked hk k_1661 ⟨Nat.le_of_ble_eq_true rfl, Nat.le_of_ble_eq_true rfl⟩) (pM_v hK hP hD (ci := 7) (q0 := 0) rfl rfl rfl) rfl rfl hl.1 rfl (lv_room (Nat.le_of_ble_eq_true rfl)) d_X_behindAtom_128 ⟨Nat.le_of_ble_eq_true rfl, Nat.le_of_ble_eq_true rfl⟩) hS hA hD (fun rz25 u t H locs hr0 ht hB hFr hS => ?_)
                subst hr0
                obtain ⟨x0_26z25, Rx0_26z25, F0z25, F1z25, hP, hD⟩ := hB
                have F0z25 : (-1073741823) ≤ rz25.toInt ∧ rz25.toInt ≤ 1073741823 := F0z25
                have F1z25 : 1 ≤ x0_26z11.toInt → 1 ≤ x0_26z25.toInt := F1z25
                rw [ht] at hP
                have hD := dwk hD hFr
                clear ht hFr
                have hP : va_P D classes (wS50 cI cJ cZ cB p0 p1 p2 p3 p4 p5 p6 p7 p8 p9 p10 p11 p12 p13 p14 p15 p16 p17 p18 p19 p20 p21 p22 p23 p24 p25 x0_4 x0_5 x0_6 x0_7 x0_8 x0_12 x0_13 x0_14 x0_15 x0_16 x0_17 x0_18 x0_22 x0_23 x0_24 x0_25z11 x0_26z25 x0_27 x0_28 x0_29 x0_30 x0_31 x0_32 x0_36 x0_39 x0_40 x0_44 x0_49 x0_51 x0_53 x0_54z11 x0_55z11 x0_56z11 x0_57 x0_58 x0_59 x0_60 x0_61 x0_62 y1 y2 y3 y4 y5 y6 y7 y8 y9 y10 y11 y12 y13 y14 y15 y16 y17 y18 y19 y20 y21 y22 y23 y24 y25) H := hP
                have hD : va_D A (wS50 cI cJ cZ cB p0 p1 p2 p3 p4 p5 p6 p7 p8 p9 p10 p11 p12 p13 p14 p15 p16 p17 p18 p19 p20 p21 p22 p23 p24 p25 x0_4 x0_5 x0_6 x0_7 x0_8 x0_12 x0_13 x0_14 x0_15 x0_16 x0_17 x0_18 x0_22 x0_23 x0_24 x0_25z11 x0_26z25 x0_27 x0_28 x0_29 x0_30 x0_31 x0_32 x0_36 x0_39 x0_40 x0_44 x0_49 x0_51 x0_53 x0_54z11 x0_55z11 x0_56z11 x0_57 x0_58 x0_59 x0_60 x0_61 x0_62 y1 y2 y3 y4 y5 y6 y7 y8 y9 y10 y11 y12 y13 y14 y15 y16 y17 y18 y19 y20 y21 y22 y23 y24 y25) := hD
                refine lv_lstore_n (lv' := [(3, .long rz25), (6, .long rz11), (5, .int rz9), (0, .ref p0), (1, .long a1)]) hx hb d_X_behindAtom_131 rfl hl (by decide) rfl (fun ls hl => ?_)
                refine lv_goto (tgt := 2) hx hb d_X_behindAtom_132 (by decide) ?_
                exact ih2 rz25 x0_25z11 x0_26z25 x0_54z11 x0_55z11 x0_56z11 H _ ls (show x0_24.toInt - x0_25z11.toInt < (n : Int) from by omega) F0z25 Rx0_25z11 Rx0_26z25 Rx0_54z11 (show x0_25z11.toInt ≤ x0_24.toInt from by omega) (show x0_25.toInt ≤ x0_25z11.toInt from by omega) (show 1 ≤ x0_26.toInt → 1 ≤ x0_26z25.toInt from by omega) hP hD hS (lv_sub hl [0, 3, 4] rfl)
            · have gc13 : rz9.toInt = (43 : Int) := c_eq c13
              have R26 : 43 ≤ rz9.toInt ∧ rz9.toInt ≤ 43 := rf_eqX (fr3 rz9) (show 43 ≤ (43 : Int) ∧ (43 : Int) ≤ 43 from by decide) gc13 (by decide) (by decide)
              refine lv_lload_n hx hb d_X_behindAtom_71 rfl (lv_at hl 2 rfl) ?_
              refine lv_lload hx hb d_X_behindAtom_72 (lv_at hl 0 rfl) ?_
              refine lv_ladd hx hb d_X_behindAtom_74 ?_
              refine lv_topl (fun v27 hv27 => ?_)
              obtain ⟨ev27, Rv27⟩ : v27.toInt = g2l3.toInt + rz11.toInt ∧ ((-2147483646) ≤ v27.toInt ∧ v27.toInt ≤ 2147483646) := ad6 hv27 Rg2l3 F0z11 (by decide) (by decide) (by decide) (by decide)
              refine lv_goto (tgt := 128) hx hb d_X_behindAtom_75 (by decide) ?_
              refine sn_l (va_runV (C := "SignMachineModel") (As := [.long v27]) (rest := []) ⟨hx, hb, hml, hown, hk⟩ (c_X_looked l D cI cJ cZ cB p0 p1 p2 p3 p4 p5 p6 p7 p8 p9 p10 p11 p12 p13 p14 p15 p16 p17 p18 p19 p20 p21 p22 p23 p24 p25 H.size x0_4 x0_5 x0_6 x0_7 x0_8 x0_12 x0_13 x0_14 x0_15 x0_16 x0_17 x0_18 x0_22 x0_23 x0_24 x0_25z11 x0_26z11 x0_27 x0_28 x0_29 x0_30 x0_31 x0_32 x0_36 x0_39 x0_40 x0_44 x0_49 x0_51 x0_53 x0_54z11 x0_55z11 x0_56z11 x0_57 x0_58 x0_59 x0_60 x0_61 x0_62 y1 y2 y3 y4 y5 y6 y7 y8 y9 y10 y11 y12 y13 y14 y15 y16 y17 y18 y19 y20 y21 y22 y23 y24 y25 v27 Rx0_26z11) (v_X_looked hk k_1661 ⟨Nat.le_of_ble_eq_true rfl, Nat.le_of_ble_eq_true rfl⟩) (pM_v hK hP hD (ci := 7) (q0 := 0) rfl rfl rfl) rfl rfl hl.1 rfl (lv_room (Nat.le_of_ble_eq_true rfl)) d_X_behindAtom_128 ⟨Nat.le_of_ble_eq_true rfl, Nat.le_of_ble_eq_true rfl⟩) hS hA hD (fun rz28 u t H locs hr0 ht hB hFr hS => ?_)
              subst hr0
              obtain ⟨x0_26z28, Rx0_26z28, F0z28, F1z28, hP, hD⟩ := hB
              have F0z28 : (-1073741823) ≤ rz28.toInt ∧ rz28.toInt ≤ 1073741823 := F0z28
              have F1z28 : 1 ≤ x0_26z11.toInt → 1 ≤ x0_26z28.toInt := F1z28
              rw [ht] at hP
              have hD := dwk hD hFr
              clear ht hFr
              have hP : va_P D classes (wS50 cI cJ cZ cB p0 p1 p2 p3 p4 p5 p6 p7 p8 p9 p10 p11 p12 p13 p14 p15 p16 p17 p18 p19 p20 p21 p22 p23 p24 p25 x0_4 x0_5 x0_6 x0_7 x0_8 x0_12 x0_13 x0_14 x0_15 x0_16 x0_17 x0_18 x0_22 x0_23 x0_24 x0_25z11 x0_26z28 x0_27 x0_28 x0_29 x0_30 x0_31 x0_32 x0_36 x0_39 x0_40 x0_44 x0_49 x0_51 x0_53 x0_54z11 x0_55z11 x0_56z11 x0_57 x0_58 x0_59 x0_60 x0_61 x0_62 y1 y2 y3 y4 y5 y6 y7 y8 y9 y10 y11 y12 y13 y14 y15 y16 y17 y18 y19 y20 y21 y22 y23 y24 y25) H := hP
              have hD : va_D A (wS50 cI cJ cZ cB p0 p1 p2 p3 p4 p5 p6 p7 p8 p9 p10 p11 p12 p13 p14 p15 p16 p17 p18 p19 p20 p21 p22 p23 p24 p25 x0_4 x0_5 x0_6 x0_7 x0_8 x0_12 x0_13 x0_14 x0_15 x0_16 x0_17 x0_18 x0_22 x0_23 x0_24 x0_25z11 x0_26z28 x0_27 x0_28 x0_29 x0_30 x0_31 x0_32 x0_36 x0_39 x0_40 x0_44 x0_49 x0_51 x0_53 x0_54z11 x0_55z11 x0_56z11 x0_57 x0_58 x0_59 x0_60 x0_61 x0_62 y1 y2 y3 y4 y5 y6 y7 y8 y9 y10 y11 y12 y13 y14 y15 y16 y17 y18 y19 y20 y21 y22 y23 y24 y25) := hD
              refine lv_lstore_n (lv' := [(3, .long rz28), (6, .long rz11), (5, .int rz9), (0, .ref p0), (1, .long a1)]) hx hb d_X_behindAtom_131 rfl hl (by decide) rfl (fun ls hl => ?_)
              refine lv_goto (tgt := 2) hx hb d_X_behindAtom_132 (by decide) ?_
              exact ih2 rz28 x0_25z11 x0_26z28 x0_54z11 x0_55z11 x0_56z11 H _ ls (show x0_24.toInt - x0_25z11.toInt < (n : Int) from by omega) F0z28 Rx0_25z11 Rx0_26z28 Rx0_54z11 (show x0_25z11.toInt ≤ x0_24.toInt from by omega) (show x0_25.toInt ≤ x0_25z11.toInt from by omega) (show 1 ≤ x0_26.toInt → 1 ≤ x0_26z28.toInt from by omega) hP hD hS (lv_sub hl [0, 3, 4] rfl)
          · have gc12 : rz9.toInt = (47 : Int) := c_eq c12
            have R29 : 47 ≤ rz9.toInt ∧ rz9.toInt ≤ 47 := rf_eqX (fr3 rz9) (show 47 ≤ (47 : Int) ∧ (47 : Int) ≤ 47 from by decide) gc12 (by decide) (by decide)
            refine lv_lload hx hb d_X_behindAtom_48 (lv_at hl 0 rfl) ?_
            refine lv_lconst (v := 0) hx hb d_X_behindAtom_50 (by decide) ?_
            refine W.lcmp hx hb d_X_behindAtom_51 ?_
            refine lv_topi (fun v30 hv30 => ?_)
            refine lv_if_ne (tgt := 63) hx hb d_X_behindAtom_52 (by decide) (fun c31 => ?_) (fun c31 => ?_)
            · have gc31 : rz11.toInt ≠ (0 : Int) := lc_neq hv30 c31
              refine lv_aload_n hx hb d_X_behindAtom_63 rfl (lv_at hl 3 rfl) ?_
              refine lv_iload hx hb d_X_behindAtom_64 (lv_at hl 1 rfl) ?_
              refine lv_bipush (v := 43) hx hb d_X_behindAtom_66 (by decide) ?_
              refine lv_icmp_ne (tgt := 78) hx hb d_X_behindAtom_68 (by decide) (fun c32 => ?_) (fun c32 => absurd c32 (show ¬ rz9 = (43 : Int32) from (fun q9 => (knE R29 (show 43 ≤ (43 : Int) ∧ (43 : Int) ≤ 43 from by decide) (by decide)) (c_eq q9))))
              refine lv_iload hx hb d_X_behindAtom_78 (lv_at hl 1 rfl) ?_
              refine lv_bipush (v := 45) hx hb d_X_behindAtom_80 (by decide) ?_
              refine lv_icmp_ne (tgt := 92) hx hb d_X_behindAtom_82 (by decide) (fun c33 => ?_) (fun c33 => absurd c33 (show ¬ rz9 = (45 : Int32) from (fun q9 => (knE R29 (show 45 ≤ (45 : Int) ∧ (45 : Int) ≤ 45 from by decide) (by decide)) (c_eq q9))))
              refine lv_iload hx hb d_X_behindAtom_92 (lv_at hl 1 rfl) ?_
              refine lv_bipush (v := 42) hx hb d_X_behindAtom_94 (by decide) ?_
              refine lv_icmp_ne (tgt := 106) hx hb d_X_behindAtom_96 (by decide) (fun c34 => ?_) (fun c34 => absurd c34 (show ¬ rz9 = (42 : Int32) from (fun q9 => (knE R29 (show 42 ≤ (42 : Int) ∧ (42 : Int) ≤ 42 from by decide) (by decide)) (c_eq q9))))
              refine lv_iload hx hb d_X_behindAtom_106 (lv_at hl 1 rfl) ?_
              refine lv_bipush (v := 47) hx hb d_X_behindAtom_108 (by decide) ?_
              refine lv_icmp_ne (tgt := 120) hx hb d_X_behindAtom_110 (by decide) (fun c35 => absurd (show rz9 = (47 : Int32) from c12) c35) (fun c35 => ?_)
              refine lv_lload_n hx hb d_X_behindAtom_113 rfl (lv_at hl 2 rfl) ?_
              refine lv_lload hx hb d_X_behindAtom_114 (lv_at hl 0 rfl) ?_
              refine lv_ldiv hx hb d_X_behindAtom_116 (by first | exact nz3 (by omega) | exact nz6 (by omega)) ?_
              refine lv_topl (fun v36 hv36 => ?_)
              refine lv_goto (tgt := 128) hx hb d_X_behindAtom_117 (by decide) ?_
              refine sn_l (va_runV (C := "SignMachineModel") (As := [.long v36]) (rest := []) ⟨hx, hb, hml, hown, hk⟩ (c_X_looked l D cI cJ cZ cB p0 p1 p2 p3 p4 p5 p6 p7 p8 p9 p10 p11 p12 p13 p14 p15 p16 p17 p18 p19 p20 p21 p22 p23 p24 p25 H.size x0_4 x0_5 x0_6 x0_7 x0_8 x0_12 x0_13 x0_14 x0_15 x0_16 x0_17 x0_18 x0_22 x0_23 x0_24 x0_25z11 x0_26z11 x0_27 x0_28 x0_29 x0_30 x0_31 x0_32 x0_36 x0_39 x0_40 x0_44 x0_49 x0_51 x0_53 x0_54z11 x0_55z11 x0_56z11 x0_57 x0_58 x0_59 x0_60 x0_61 x0_62 y1 y2 y3 y4 y5 y6 y7 y8 y9 y10 y11 y12 y13 y14 y15 y16 y17 y18 y19 y20 y21 y22 y23 y24 y25 v36 Rx0_26z11) (v_X_looked hk k_1661 ⟨Nat.le_of_ble_eq_true rfl, Nat.le_of_ble_eq_true rfl⟩) (pM_v hK hP hD (ci := 7) (q0 := 0) rfl rfl rfl) rfl rfl hl.1 rfl (lv_room (Nat.le_of_ble_eq_true rfl)) d_X_behindAtom_128 ⟨Nat.le_of_ble_eq_true rfl, Nat.le_of_ble_eq_true rfl⟩) hS hA hD (fun rz37 u t H locs hr0 ht hB hFr hS => ?_)
              subst hr0
              obtain ⟨x0_26z37, Rx0_26z37, F0z37, F1z37, hP, hD⟩ := hB
              have F0z37 : (-1073741823) ≤ rz37.toInt ∧ rz37.toInt ≤ 1073741823 := F0z37
              have F1z37 : 1 ≤ x0_26z11.toInt → 1 ≤ x0_26z37.toInt := F1z37
              rw [ht] at hP
              have hD := dwk hD hFr
              clear ht hFr
              have hP : va_P D classes (wS50 cI cJ cZ cB p0 p1 p2 p3 p4 p5 p6 p7 p8 p9 p10 p11 p12 p13 p14 p15 p16 p17 p18 p19 p20 p21 p22 p23 p24 p25 x0_4 x0_5 x0_6 x0_7 x0_8 x0_12 x0_13 x0_14 x0_15 x0_16 x0_17 x0_18 x0_22 x0_23 x0_24 x0_25z11 x0_26z37 x0_27 x0_28 x0_29 x0_30 x0_31 x0_32 x0_36 x0_39 x0_40 x0_44 x0_49 x0_51 x0_53 x0_54z11 x0_55z11 x0_56z11 x0_57 x0_58 x0_59 x0_60 x0_61 x0_62 y1 y2 y3 y4 y5 y6 y7 y8 y9 y10 y11 y12 y13 y14 y15 y16 y17 y18 y19 y20 y21 y22 y23 y24 y25) H := hP
              have hD : va_D A (wS50 cI cJ cZ cB p0 p1 p2 p3 p4 p5 p6 p7 p8 p9 p10 p11 p12 p13 p14 p15 p16 p17 p18 p19 p20 p21 p22 p23 p24 p25 x0_4 x0_5 x0_6 x0_7 x0_8 x0_12 x0_13 x0_14 x0_15 x0_16 x0_17 x0_18 x0_22 x0_23 x0_24 x0_25z11 x0_26z37 x0_27 x0_28 x0_29 x0_30 x0_31 x0_32 x0_36 x0_39 x0_40 x0_44 x0_49 x0_51 x0_53 x0_54z11 x0_55z11 x0_56z11 x0_57 x0_58 x0_59 x0_60 x0_61 x0_62 y1 y2 y3 y4 y5 y6 y7 y8 y9 y10 y11 y12 y13 y14 y15 y16 y17 y18 y19 y20 y21 y22 y23 y24 y25) := hD
              refine lv_lstore_n (lv' := [(3, .long rz37), (6, .long rz11), (5, .int rz9), (0, .ref p0), (1, .long a1)]) hx hb d_X_behindAtom_131 rfl hl (by decide) rfl (fun ls hl => ?_)
              refine lv_goto (tgt := 2) hx hb d_X_behindAtom_132 (by decide) ?_
              exact ih2 rz37 x0_25z11 x0_26z37 x0_54z11 x0_55z11 x0_56z11 H _ ls (show x0_24.toInt - x0_25z11.toInt < (n : Int) from by omega) F0z37 Rx0_25z11 Rx0_26z37 Rx0_54z11 (show x0_25z11.toInt ≤ x0_24.toInt from by omega) (show x0_25.toInt ≤ x0_25z11.toInt from by omega) (show 1 ≤ x0_26.toInt → 1 ≤ x0_26z37.toInt from by omega) hP hD hS (lv_sub hl [0, 3, 4] rfl)
            · have gc31 : rz11.toInt = (0 : Int) := lc_eq hv30 c31
              have R38 : 0 ≤ rz11.toInt ∧ rz11.toInt ≤ 0 := rf_eqX F0z11 (show 0 ≤ (0 : Int) ∧ (0 : Int) ≤ 0 from by decide) gc31 (by decide) (by decide)
              refine lv_aload_n hx hb d_X_behindAtom_55 rfl (lv_at hl 3 rfl) ?_
              refine lv_iconst (v := 4) hx hb d_X_behindAtom_56 (by decide) ?_
              refine kn_v (va_runV (C := "SignMachineModel") (As := [.int (4 : Int32)]) (rest := []) ⟨hx, hb, hml, hown, hk⟩ (c_X_bad l D cI cJ cZ cB p0 p1 p2 p3 p4 p5 p6 p7 p8 p9 p10 p11 p12 p13 p14 p15 p16 p17 p18 p19 p20 p21 p22 p23 p24 p25 H.size x0_4 x0_5 x0_6 x0_7 x0_8 x0_12 x0_13 x0_14 x0_15 x0_16 x0_17 x0_18 x0_22 x0_23 x0_24 x0_25z11 x0_26z11 x0_27 x0_28 x0_29 x0_30 x0_31 x0_32 x0_36 x0_39 x0_40 x0_44 x0_49 x0_51 x0_53 x0_54z11 x0_55z11 x0_56z11 x0_57 x0_58 x0_59 x0_60 x0_61 x0_62 y1 y2 y3 y4 y5 y6 y7 y8 y9 y10 y11 y12 y13 y14 y15 y16 y17 y18 y19 y20 y21 y22 y23 y24 y25 (4 : Int32) Rx0_26z11 (by decide)) (v_X_bad hk k_1552 ⟨Nat.le_of_ble_eq_true rfl, Nat.le_of_ble_eq_true rfl⟩) (pM_v hK hP hD (ci := 7) (q0 := 0) rfl rfl rfl) rfl rfl hl.1 rfl (lv_room (Nat.le_of_ble_eq_true rfl)) d_X_behindAtom_57 ⟨Nat.le_of_ble_eq_true rfl, Nat.le_of_ble_eq_true rfl⟩) hS hA hD (fun u t H locs ht hB hFr hS => ?_)
              obtain ⟨x0_26z39, Rx0_26z39, F0z39, hP, hD⟩ := hB
              have F0z39 : 1 ≤ x0_26z39.toInt := F0z39
              rw [ht] at hP
              have hD := dwk hD hFr
              clear ht hFr
              have hP : va_P D classes (wS50 cI cJ cZ cB p0 p1 p2 p3 p4 p5 p6 p7 p8 p9 p10 p11 p12 p13 p14 p15 p16 p17 p18 p19 p20 p21 p22 p23 p24 p25 x0_4 x0_5 x0_6 x0_7 x0_8 x0_12 x0_13 x0_14 x0_15 x0_16 x0_17 x0_18 x0_22 x0_23 x0_24 x0_25z11 x0_26z39 x0_27 x0_28 x0_29 x0_30 x0_31 x0_32 x0_36 x0_39 x0_40 x0_44 x0_49 x0_51 x0_53 x0_54z11 x0_55z11 x0_56z11 x0_57 x0_58 x0_59 x0_60 x0_61 x0_62 y1 y2 y3 y4 y5 y6 y7 y8 y9 y10 y11 y12 y13 y14 y15 y16 y17 y18 y19 y20 y21 y22 y23 y24 y25) H := hP
              have hD : va_D A (wS50 cI cJ cZ cB p0 p1 p2 p3 p4 p5 p6 p7 p8 p9 p10 p11 p12 p13 p14 p15 p16 p17 p18 p19 p20 p21 p22 p23 p24 p25 x0_4 x0_5 x0_6 x0_7 x0_8 x0_12 x0_13 x0_14 x0_15 x0_16 x0_17 x0_18 x0_22 x0_23 x0_24 x0_25z11 x0_26z39 x0_27 x0_28 x0_29 x0_30 x0_31 x0_32 x0_36 x0_39 x0_40 x0_44 x0_49 x0_51 x0_53 x0_54z11 x0_55z11 x0_56z11 x0_57 x0_58 x0_59 x0_60 x0_61 x0_62 y1 y2 y3 y4 y5 y6 y7 y8 y9 y10 y11 y12 y13 y14 y15 y16 y17 y18 y19 y20 y21 y22 y23 y24 y25) := hD
              refine lv_lconst (v := 1) hx hb d_X_behindAtom_60 (by decide) ?_
              refine lv_lstore (lv' := [(6, .long (1 : Int64)), (5, .int rz9), (3, .long g2l3), (0, .ref p0), (1, .long a1)]) hx hb d_X_behindAtom_61 hl (by decide) rfl (fun ls hl => ?_)
              refine lv_aload_n hx hb d_X_behindAtom_63 rfl (lv_at hl 3 rfl) ?_
              refine lv_iload hx hb d_X_behindAtom_64 (lv_at hl 1 rfl) ?_
              refine lv_bipush (v := 43) hx hb d_X_behindAtom_66 (by decide) ?_
              refine lv_icmp_ne (tgt := 78) hx hb d_X_behindAtom_68 (by decide) (fun c40 => ?_) (fun c40 => absurd c40 (show ¬ rz9 = (43 : Int32) from (fun q9 => (knE R29 (show 43 ≤ (43 : Int) ∧ (43 : Int) ≤ 43 from by decide) (by decide)) (c_eq q9))))
              refine lv_iload hx hb d_X_behindAtom_78 (lv_at hl 1 rfl) ?_
              refine lv_bipush (v := 45) hx hb d_X_behindAtom_80 (by decide) ?_
              refine lv_icmp_ne (tgt := 92) hx hb d_X_behindAtom_82 (by decide) (fun c41 => ?_) (fun c41 => absurd c41 (show ¬ rz9 = (45 : Int32) from (fun q9 => (knE R29 (show 45 ≤ (45 : Int) ∧ (45 : Int) ≤ 45 from by decide) (by decide)) (c_eq q9))))
              refine lv_iload hx hb d_X_behindAtom_92 (lv_at hl 1 rfl) ?_
              refine lv_bipush (v := 42) hx hb d_X_behindAtom_94 (by decide) ?_
              refine lv_icmp_ne (tgt := 106) hx hb d_X_behindAtom_96 (by decide) (fun c42 => ?_) (fun c42 => absurd c42 (show ¬ rz9 = (42 : Int32) from (fun q9 => (knE R29 (show 42 ≤ (42 : Int) ∧ (42 : Int) ≤ 42 from by decide) (by decide)) (c_eq q9))))
              refine lv_iload hx hb d_X_behindAtom_106 (lv_at hl 1 rfl) ?_
              refine lv_bipush (v := 47) hx hb d_X_behindAtom_108 (by decide) ?_
              refine lv_icmp_ne (tgt := 120) hx hb d_X_behindAtom_110 (by decide) (fun c43 => absurd (show rz9 = (47 : Int32) from c12) c43) (fun c43 => ?_)
              refine lv_lload_n hx hb d_X_behindAtom_113 rfl (lv_at hl 2 rfl) ?_
              refine lv_lload hx hb d_X_behindAtom_114 (lv_at hl 0 rfl) ?_
              refine lv_ldiv hx hb d_X_behindAtom_116 (by decide) ?_
              refine lv_topl (fun v44 hv44 => ?_)
              refine lv_goto (tgt := 128) hx hb d_X_behindAtom_117 (by decide) ?_
              refine sn_l (va_runV (C := "SignMachineModel") (As := [.long v44]) (rest := []) ⟨hx, hb, hml, hown, hk⟩ (c_X_looked l D cI cJ cZ cB p0 p1 p2 p3 p4 p5 p6 p7 p8 p9 p10 p11 p12 p13 p14 p15 p16 p17 p18 p19 p20 p21 p22 p23 p24 p25 H.size x0_4 x0_5 x0_6 x0_7 x0_8 x0_12 x0_13 x0_14 x0_15 x0_16 x0_17 x0_18 x0_22 x0_23 x0_24 x0_25z11 x0_26z39 x0_27 x0_28 x0_29 x0_30 x0_31 x0_32 x0_36 x0_39 x0_40 x0_44 x0_49 x0_51 x0_53 x0_54z11 x0_55z11 x0_56z11 x0_57 x0_58 x0_59 x0_60 x0_61 x0_62 y1 y2 y3 y4 y5 y6 y7 y8 y9 y10 y11 y12 y13 y14 y15 y16 y17 y18 y19 y20 y21 y22 y23 y24 y25 v44 Rx0_26z39) (v_X_looked hk k_1661 ⟨Nat.le_of_ble_eq_true rfl, Nat.le_of_ble_eq_true rfl⟩) (pM_v hK hP hD (ci := 7) (q0 := 0) rfl rfl rfl) rfl rfl hl.1 rfl (lv_room (Nat.le_of_ble_eq_true rfl)) d_X_behindAtom_128 ⟨Nat.le_of_ble_eq_true rfl, Nat.le_of_ble_eq_true rfl⟩) hS hA hD (fun rz45 u t H locs hr0 ht hB hFr hS => ?_)
              subst hr0
              obtain ⟨x0_26z45, Rx0_26z45, F0z45, F1z45, hP, hD⟩ := hB
              have F0z45 : (-1073741823) ≤ rz45.toInt ∧ rz45.toInt ≤ 1073741823 := F0z45
              have F1z45 : 1 ≤ x0_26z39.toInt → 1 ≤ x0_26z45.toInt := F1z45
              rw [ht] at hP
              have hD := dwk hD hFr
              clear ht hFr
              have hP : va_P D classes (wS50 cI cJ cZ cB p0 p1 p2 p3 p4 p5 p6 p7 p8 p9 p10 p11 p12 p13 p14 p15 p16 p17 p18 p19 p20 p21 p22 p23 p24 p25 x0_4 x0_5 x0_6 x0_7 x0_8 x0_12 x0_13 x0_14 x0_15 x0_16 x0_17 x0_18 x0_22 x0_23 x0_24 x0_25z11 x0_26z45 x0_27 x0_28 x0_29 x0_30 x0_31 x0_32 x0_36 x0_39 x0_40 x0_44 x0_49 x0_51 x0_53 x0_54z11 x0_55z11 x0_56z11 x0_57 x0_58 x0_59 x0_60 x0_61 x0_62 y1 y2 y3 y4 y5 y6 y7 y8 y9 y10 y11 y12 y13 y14 y15 y16 y17 y18 y19 y20 y21 y22 y23 y24 y25) H := hP
              have hD : va_D A (wS50 cI cJ cZ cB p0 p1 p2 p3 p4 p5 p6 p7 p8 p9 p10 p11 p12 p13 p14 p15 p16 p17 p18 p19 p20 p21 p22 p23 p24 p25 x0_4 x0_5 x0_6 x0_7 x0_8 x0_12 x0_13 x0_14 x0_15 x0_16 x0_17 x0_18 x0_22 x0_23 x0_24 x0_25z11 x0_26z45 x0_27 x0_28 x0_29 x0_30 x0_31 x0_32 x0_36 x0_39 x0_40 x0_44 x0_49 x0_51 x0_53 x0_54z11 x0_55z11 x0_56z11 x0_57 x0_58 x0_59 x0_60 x0_61 x0_62 y1 y2 y3 y4 y5 y6 y7 y8 y9 y10 y11 y12 y13 y14 y15 y16 y17 y18 y19 y20 y21 y22 y23 y24 y25) := hD
              refine lv_lstore_n (lv' := [(3, .long rz45), (6, .long (1 : Int64)), (5, .int rz9), (0, .ref p0), (1, .long a1)]) hx hb d_X_behindAtom_131 rfl hl (by decide) rfl (fun ls hl => ?_)
              refine lv_goto (tgt := 2) hx hb d_X_behindAtom_132 (by decide) ?_
              exact ih2 rz45 x0_25z11 x0_26z45 x0_54z11 x0_55z11 x0_56z11 H _ ls (show x0_24.toInt - x0_25z11.toInt < (n : Int) from by omega) F0z45 Rx0_25z11 Rx0_26z45 Rx0_54z11 (show x0_25z11.toInt ≤ x0_24.toInt from by omega) (show x0_25.toInt ≤ x0_25z11.toInt from by omega) (show 1 ≤ x0_26.toInt → 1 ≤ x0_26z45.toInt from by omega) hP hD hS (lv_sub hl [0, 3, 4] rfl)
  exact CUT2 ((x0_24.toInt - x0_25.toInt).toNat + 1) a1 x0_25 x0_26 x0_54 x0_55 x0_56 s.heap _ ls (show (x0_24.toInt - x0_25.toInt) < (((x0_24.toInt - x0_25.toInt).toNat + 1 : Nat) : Int) from by omega) Q1 Rx0_25 Rx0_26 Rx0_54 (show x0_25.toInt ≤ x0_24.toInt from by omega) (show x0_25.toInt ≤ x0_25.toInt from by omega) (show 1 ≤ x0_26.toInt → 1 ≤ x0_26.toInt from by omega) hP hD hS (lv_sub hl [0, 1, 2] rfl)
theorem v_X_behindAtom {R : Room} {s : State} {args : Array Value} {own : String} {index : Nat} (hk : ∀ w ∈ tb, w.before args s = true) (hl : Cond.methodLink own index y_X_behindAtom ∈ tb) (hR : 3 + 1 ≤ R.frames ∧ 8 + (8 + 11) + 70 ≤ R.locals) : CallW R s args own "SignMachineModel" index y_X_behindAtom b_X_behindAtom 8 (some .long) (.code y_X_behindAtom b_X_behindAtom 8 (some .long) :: tb) ({ frames := 3, cells := 0, slots := 0, locals := 70 }) 0 0 1 := mk_v 1 hk k_1669 hl k_1668 k_106 k_119 rfl rfl h_X_behindAtom hR

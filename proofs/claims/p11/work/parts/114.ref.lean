set_option maxHeartbeats 8000000 in
set_option maxRecDepth 100000 in
theorem c_X_isWord (l : Launch)  (a1 : Int64)  : Met l y_X_isWord (.code y_X_isWord b_X_isWord 2 (some .boolean) :: tb) ({ frames := 0, cells := 0, slots := 0, locals := 0 }) (va_Pc [.long a1] (fun _ => True)) (vp_Si (fun ur => (0 ≤ ur.toInt ∧ ur.toInt ≤ 1) ∧ (ur.toInt = 1 → (0 ≤ a1.toInt ∧ a1.toInt ≤ 3999)) ∧ (ur.toInt = 0 → (a1.toInt < 0 ∨ 3999 < a1.toInt)))) 0 0 (fun _ => False) := by
  refine Met.ofW (cc := b_X_isWord) (maxL := 2) (ret := (some .boolean)) (by decide) rfl ?_
  intro p e s m args below meth c s₁ B hml hv
  obtain ⟨rfl, -⟩ := hv
  have hx := B.exec
  have hb := B.bytes
  have hr := B.returns
  have hts := atoms_spec (ws := .code y_X_isWord b_X_isWord 2 (some .boolean) :: tb) B.pre
  have hk : ∀ w ∈ tb, w.before [.long a1].toArray s = true := fun w h => hts w (List.mem_cons_of_mem _ h)
  have hown : s.vm.findClass "SignMachineModel" = some m.cls := findClass_of_methodNamed B.named
  have hlocks := B.notSynchronized
  have hl := lv_entry ([.long a1]) (n := 2) (Nat.le_of_ble_eq_true rfl)
  rw [lg_entry_eq]
  generalize (lg_sl ([.long a1]) ++ List.replicate (2 - (lg_sl ([.long a1])).length) Slot.unset).toArray = ls at hl ⊢
  have hl : lv_has ls 2 [(0, .long a1)] := hl
  clear hts B
  refine lv_lload_n hx hb d_X_isWord_0 rfl (lv_at hl 0 rfl) ?_
  refine lv_lconst (v := 0) hx hb d_X_isWord_1 (by decide) ?_
  refine W.lcmp hx hb d_X_isWord_2 ?_
  refine lv_topi (fun v1 hv1 => ?_)
  refine lv_if_lt (tgt := 18) hx hb d_X_isWord_3 (by decide) (fun c2 => ?_) (fun c2 => ?_)
  · have gc2 : a1.toInt < (0 : Int) := lc_lt hv1 c2
    have R3 : (-9223372036854775808) ≤ a1.toInt ∧ a1.toInt ≤ (-1) := rf_ltX (fr6 a1) (show 0 ≤ (0 : Int) ∧ (0 : Int) ≤ 0 from by decide) gc2 (by decide) (by decide)
    refine lv_iconst (v := 0) hx hb d_X_isWord_18 (by decide) ?_
    exact W.zret (v := (0 : Int32)) hx hb hr (nar01 (by decide)) (fun t ht hW => ⟨(0 : Int32), rfl, ⟨(by decide), (show (0 : Int) = 1 → (0 ≤ a1.toInt ∧ a1.toInt ≤ 3999) from by omega), (show (0 : Int) = 0 → (a1.toInt < 0 ∨ 3999 < a1.toInt) from by omega)⟩, ht⟩) (fun q h => absurd h List.not_mem_nil) d_X_isWord_19
  · have gc2 : (0 : Int) ≤ a1.toInt := lc_nlt hv1 c2
    have R4 : 0 ≤ a1.toInt ∧ a1.toInt ≤ 9223372036854775807 := rf_geX (fr6 a1) (show 0 ≤ (0 : Int) ∧ (0 : Int) ≤ 0 from by decide) gc2 (by decide) (by decide)
    refine lv_lload_n hx hb d_X_isWord_6 rfl (lv_at hl 0 rfl) ?_
    refine lv_ldc2 (v := 4000) hx hb hown (hk _ k_1399) d_X_isWord_7 ?_
    refine W.lcmp hx hb d_X_isWord_10 ?_
    refine lv_topi (fun v5 hv5 => ?_)
    refine lv_if_ge (tgt := 18) hx hb d_X_isWord_11 (by decide) (fun c6 => ?_) (fun c6 => ?_)
    · have gc6 : (4000 : Int) ≤ a1.toInt := lc_ge hv5 c6
      have R7 : 4000 ≤ a1.toInt ∧ a1.toInt ≤ 9223372036854775807 := rf_geX R4 (show 4000 ≤ (4000 : Int) ∧ (4000 : Int) ≤ 4000 from by decide) gc6 (by decide) (by decide)
      refine lv_iconst (v := 0) hx hb d_X_isWord_18 (by decide) ?_
      exact W.zret (v := (0 : Int32)) hx hb hr (nar01 (by decide)) (fun t ht hW => ⟨(0 : Int32), rfl, ⟨(by decide), (show (0 : Int) = 1 → (0 ≤ a1.toInt ∧ a1.toInt ≤ 3999) from by omega), (show (0 : Int) = 0 → (a1.toInt < 0 ∨ 3999 < a1.toInt) from by omega)⟩, ht⟩) (fun q h => absurd h List.not_mem_nil) d_X_isWord_19
    · have gc6 : a1.toInt < (4000 : Int) := lc_nge hv5 c6
      have R8 : 0 ≤ a1.toInt ∧ a1.toInt ≤ 3999 := rf_ltX R4 (show 4000 ≤ (4000 : Int) ∧ (4000 : Int) ≤ 4000 from by decide) gc6 (by decide) (by decide)
      refine lv_iconst (v := 1) hx hb d_X_isWord_14 (by decide) ?_
      refine lv_goto (tgt := 19) hx hb d_X_isWord_15 (by decide) ?_
      exact W.zret (v := (1 : Int32)) hx hb hr (nar01 (by decide)) (fun t ht hW => ⟨(1 : Int32), rfl, ⟨(by decide), (show (1 : Int) = 1 → (0 ≤ a1.toInt ∧ a1.toInt ≤ 3999) from by omega), (show (1 : Int) = 0 → (a1.toInt < 0 ∨ 3999 < a1.toInt) from by omega)⟩, ht⟩) (fun q h => absurd h List.not_mem_nil) d_X_isWord_19
theorem s_X_isWord {R : Room} {s : State} {args : Array Value} {own : String} {index : Nat} (hk : ∀ w ∈ tb, w.before args s = true) (hl : Cond.methodLink own index y_X_isWord ∈ tb) (hR : 0 + 1 ≤ R.frames ∧ 8 + (2 + 11) + 0 ≤ R.locals) : CallB R s args own index y_X_isWord b_X_isWord 2 (some .boolean) (.code y_X_isWord b_X_isWord 2 (some .boolean) :: tb) ({ frames := 0, cells := 0, slots := 0, locals := 0 }) 0 0 1 ∧ (Cond.static y_X_isWord).before args s = true := mk_s 1 hk k_1398 hl k_1397 k_119 rfl rfl h_X_isWord hR
set_option maxHeartbeats 8000000 in
set_option maxRecDepth 100000 in
theorem c_X_indexValue (l : Launch) (D : va_G) (cI cJ cZ cB : ClassId) (p0 p1 p2 p3 p4 p5 p6 p7 p8 p9 p10 p11 p12 p13 p14 p15 p16 p17 p18 p19 p20 p21 p22 p23 p24 p25 : Nat) (sz : Nat) (x0_4 : Int32) (x0_5 : Int32) (x0_6 : Int32) (x0_7 : Int32) (x0_8 : Int32) (x0_12 : Int32) (x0_13 : Int32) (x0_14 : Int32) (x0_15 : Int32) (x0_16 : Int32) (x0_17 : Int32) (x0_18 : Int32) (x0_22 : Int32) (x0_23 : Int32) (x0_24 : Int32) (x0_25 : Int32) (x0_26 : Int32) (x0_27 : Int32) (x0_28 : Int32) (x0_29 : Int32) (x0_30 : Int32) (x0_31 : Int32) (x0_32 : Int32) (x0_36 : Int32) (x0_39 : Int32) (x0_40 : Int64) (x0_44 : Int32) (x0_49 : Int32) (x0_51 : Int32) (x0_53 : Int32) (x0_54 : Int32) (x0_55 : Int64) (x0_56 : Int32) (x0_57 : Int32) (x0_58 : Int32) (x0_59 : Int32) (x0_60 : Int32) (x0_61 : Int32) (x0_62 : Int64) (y1 : Nat → Int32) (y2 : Nat → Int32) (y3 : Nat → Int32) (y4 : Nat → Int32) (y5 : Nat → Int32) (y6 : Nat → Int32) (y7 : Nat → Int32) (y8 : Nat → Int32) (y9 : Nat → Int32) (y10 : Nat → Int32) (y11 : Nat → Int64) (y12 : Nat → Int32) (y13 : Nat → Int64) (y14 : Nat → Int32) (y15 : Nat → Int64) (y16 : Nat → Int32) (y17 : Nat → Int32) (y18 : Nat → Int32) (y19 : Nat → Int32) (y20 : Nat → Int32) (y21 : Nat → Int32) (y22 : Nat → Int32) (y23 : Nat → Int32) (y24 : Nat → Int64) (y25 : Nat → Int64) (a1 : Int32) (Ay3 : ∀ i : Nat, (0 ≤ (y3 i).toInt ∧ (y3 i).toInt ≤ 1)) (Ay4 : ∀ i : Nat, ((0 ≤ (y4 i).toInt ∧ (y4 i).toInt ≤ 1073741823) ∧ ((1 ≤ (i : Int) ∧ (i : Int) ≤ 6) → (y4 i).toInt ≤ 4095))) (Q0 : 0 ≤ a1.toInt ∧ a1.toInt ≤ 8) : Met l y_X_indexValue (.code y_X_indexValue b_X_indexValue 2 (some .int) :: tb) ({ frames := 0, cells := 0, slots := 0, locals := 0 }) (pM D cI cJ cZ cB (wS50 cI cJ cZ cB p0 p1 p2 p3 p4 p5 p6 p7 p8 p9 p10 p11 p12 p13 p14 p15 p16 p17 p18 p19 p20 p21 p22 p23 p24 p25 x0_4 x0_5 x0_6 x0_7 x0_8 x0_12 x0_13 x0_14 x0_15 x0_16 x0_17 x0_18 x0_22 x0_23 x0_24 x0_25 x0_26 x0_27 x0_28 x0_29 x0_30 x0_31 x0_32 x0_36 x0_39 x0_40 x0_44 x0_49 x0_51 x0_53 x0_54 x0_55 x0_56 x0_57 x0_58 x0_59 x0_60 x0_61 x0_62 y1 y2 y3 y4 y5 y6 y7 y8 y9 y10 y11 y12 y13 y14 y15 y16 y17 y18 y19 y20 y21 y22 y23 y24 y25) sz [.ref p0, .int a1]) (va_Qi (fun r (u : Int32) => r = u) (fun ur t => ((-1073741823) ≤ ur.toInt ∧ ur.toInt ≤ 1073741823) ∧ (ur.toInt = rv y3 y4 (a1).toNatClampNeg) ∧ ((1 ≤ a1.toInt ∧ a1.toInt ≤ 6) → (-4095 ≤ ur.toInt ∧ ur.toInt ≤ 4095)) ∧ va_P D classes (wS50 cI cJ cZ cB p0 p1 p2 p3 p4 p5 p6 p7 p8 p9 p10 p11 p12 p13 p14 p15 p16 p17 p18 p19 p20 p21 p22 p23 p24 p25 x0_4 x0_5 x0_6 x0_7 x0_8 x0_12 x0_13 x0_14 x0_15 x0_16 x0_17 x0_18 x0_22 x0_23 x0_24 x0_25 x0_26 x0_27 x0_28 x0_29 x0_30 x0_31 x0_32 x0_36 x0_39 x0_40 x0_44 x0_49 x0_51 x0_53 x0_54 x0_55 x0_56 x0_57 x0_58 x0_59 x0_60 x0_61 x0_62 y1 y2 y3 y4 y5 y6 y7 y8 y9 y10 y11 y12 y13 y14 y15 y16 y17 y18 y19 y20 y21 y22 y23 y24 y25) t.heap ∧ va_D (va_A (wS50 cI cJ cZ cB p0 p1 p2 p3 p4 p5 p6 p7 p8 p9 p10 p11 p12 p13 p14 p15 p16 p17 p18 p19 p20 p21 p22 p23 p24 p25 x0_4 x0_5 x0_6 x0_7 x0_8 x0_12 x0_13 x0_14 x0_15 x0_16 x0_17 x0_18 x0_22 x0_23 x0_24 x0_25 x0_26 x0_27 x0_28 x0_29 x0_30 x0_31 x0_32 x0_36 x0_39 x0_40 x0_44 x0_49 x0_51 x0_53 x0_54 x0_55 x0_56 x0_57 x0_58 x0_59 x0_60 x0_61 x0_62 y1 y2 y3 y4 y5 y6 y7 y8 y9 y10 y11 y12 y13 y14 y15 y16 y17 y18 y19 y20 y21 y22 y23 y24 y25) sz) (wS50 cI cJ cZ cB p0 p1 p2 p3 p4 p5 p6 p7 p8 p9 p10 p11 p12 p13 p14 p15 p16 p17 p18 p19 p20 p21 p22 p23 p24 p25 x0_4 x0_5 x0_6 x0_7 x0_8 x0_12 x0_13 x0_14 x0_15 x0_16 x0_17 x0_18 x0_22 x0_23 x0_24 x0_25 x0_26 x0_27 x0_28 x0_29 x0_30 x0_31 x0_32 x0_36 x0_39 x0_40 x0_44 x0_49 x0_51 x0_53 x0_54 x0_55 x0_56 x0_57 x0_58 x0_59 x0_60 x0_61 x0_62 y1 y2 y3 y4 y5 y6 y7 y8 y9 y10 y11 y12 y13 y14 y15 y16 y17 y18 y19 y20 y21 y22 y23 y24 y25)) (va_A (wS50 cI cJ cZ cB p0 p1 p2 p3 p4 p5 p6 p7 p8 p9 p10 p11 p12 p13 p14 p15 p16 p17 p18 p19 p20 p21 p22 p23 p24 p25 x0_4 x0_5 x0_6 x0_7 x0_8 x0_12 x0_13 x0_14 x0_15 x0_16 x0_17 x0_18 x0_22 x0_23 x0_24 x0_25 x0_26 x0_27 x0_28 x0_29 x0_30 x0_31 x0_32 x0_36 x0_39 x0_40 x0_44 x0_49 x0_51 x0_53 x0_54 x0_55 x0_56 x0_57 x0_58 x0_59 x0_60 x0_61 x0_62 y1 y2 y3 y4 y5 y6 y7 y8 y9 y10 y11 y12 y13 y14 y15 y16 y17 y18 y19 y20 y21 y22 y23 y24 y25) sz)) 0 0 (va_A (wS50 cI cJ cZ cB p0 p1 p2 p3 p4 p5 p6 p7 p8 p9 p10 p11 p12 p13 p14 p15 p16 p17 p18 p19 p20 p21 p22 p23 p24 p25 x0_4 x0_5 x0_6 x0_7 x0_8 x0_12 x0_13 x0_14 x0_15 x0_16 x0_17 x0_18 x0_22 x0_23 x0_24 x0_25 x0_26 x0_27 x0_28 x0_29 x0_30 x0_31 x0_32 x0_36 x0_39 x0_40 x0_44 x0_49 x0_51 x0_53 x0_54 x0_55 x0_56 x0_57 x0_58 x0_59 x0_60 x0_61 x0_62 y1 y2 y3 y4 y5 y6 y7 y8 y9 y10 y11 y12 y13 y14 y15 y16 y17 y18 y19 y20 y21 y22 y23 y24 y25) sz) := by
  refine Met.ofW (cc := b_X_indexValue) (maxL := 2) (ret := (some .int)) (by decide) rfl ?_
  intro p e s m args below meth c s₁ B hml hv
  obtain ⟨rfl, hsz, hK, hP, hD0⟩ := hv
  subst hsz
  have hD := hD0.self (sz := s.heap.size)
  generalize hAe : va_A (wS50 cI cJ cZ cB p0 p1 p2 p3 p4 p5 p6 p7 p8 p9 p10 p11 p12 p13 p14 p15 p16 p17 p18 p19 p20 p21 p22 p23 p24 p25 x0_4 x0_5 x0_6 x0_7 x0_8 x0_12 x0_13 x0_14 x0_15 x0_16 x0_17 x0_18 x0_22 x0_23 x0_24 x0_25 x0_26 x0_27 x0_28 x0_29 x0_30 x0_31 x0_32 x0_36 x0_39 x0_40 x0_44 x0_49 x0_51 x0_53 x0_54 x0_55 x0_56 x0_57 x0_58 x0_59 x0_60 x0_61 x0_62 y1 y2 y3 y4 y5 y6 y7 y8 y9 y10 y11 y12 y13 y14 y15 y16 y17 y18 y19 y20 y21 y22 y23 y24 y25) s.heap.size = A at hD ⊢
  have hA : ∀ q : Nat, s.heap.size ≤ q → A q := fun q h => by rw [← hAe]; exact Or.inr h
  clear hAe hD0
  have hS : va_S A s.heap s.heap [] := va_S.rf
  have hx := B.exec
  have hb := B.bytes
  have hr := B.returns
  have hts := atoms_spec (ws := .code y_X_indexValue b_X_indexValue 2 (some .int) :: tb) B.pre
  have hk : ∀ w ∈ tb, w.before [.ref p0, .int a1].toArray s = true := fun w h => hts w (List.mem_cons_of_mem _ h)
  have hown : s.vm.findClass "SignMachineModel" = some m.cls := findClass_of_methodNamed B.named
  have hlocks := B.notSynchronized
  have hl := lv_entry ([.ref p0, .int a1]) (n := 2) (Nat.le_of_ble_eq_true rfl)
  rw [lg_entry_eq]
  generalize (lg_sl ([.ref p0, .int a1]) ++ List.replicate (2 - (lg_sl ([.ref p0, .int a1])).length) Slot.unset).toArray = ls at hl ⊢
  have hl : lv_has ls 2 [(0, .ref p0), (1, .int a1)] := hl
  clear hts B
  have rd := rv_def y3 y4 (a1).toNatClampNeg
  refine lv_aload_n hx hb d_X_indexValue_0 rfl (lv_at hl 0 rfl) ?_
  refine va_get (D := D) (ci := 7) (v := .ref p3) (C := "SignMachineModel") (T := F_X) (N := 64) hx hb hk fi_X hown hK.1 hP 0 rfl rfl 2 (by decide) (hk _ k_1123) (fun _ h9 => h9) rfl d_X_indexValue_1 ?_
  refine lv_iload_n hx hb d_X_indexValue_4 rfl (lv_at hl 1 rfl) ?_
  refine va_iald hx hb hK.1 hP 3 0 rfl rfl (vpb Q0 (by decide) (by decide)) d_X_indexValue_5 ?_
  refine lv_topi (fun v1 hv1 => ?_)
  have Tv1 : v1.toInt = (y3 (a1).toNatClampNeg).toInt := congrArg _ hv1
  have Rv1 := Ay3 (a1).toNatClampNeg
  rw [← hv1] at Rv1
  refine lv_iconst (v := 1) hx hb d_X_indexValue_6 (by decide) ?_
  refine lv_icmp_ne (tgt := 20) hx hb d_X_indexValue_7 (by decide) (fun c2 => ?_) (fun c2 => ?_)
  · have gc2 : v1.toInt ≠ (1 : Int) := c_ne c2
    have R3 : 0 ≤ v1.toInt ∧ v1.toInt ≤ 0 := rf_neX Rv1 (show 1 ≤ (1 : Int) ∧ (1 : Int) ≤ 1 from by decide) gc2 (by decide) (by decide)
    refine lv_aload_n hx hb d_X_indexValue_20 rfl (lv_at hl 0 rfl) ?_
    refine va_get (D := D) (ci := 7) (v := .ref p4) (C := "SignMachineModel") (T := F_X) (N := 64) hx hb hk fi_X hown hK.1 hP 0 rfl rfl 3 (by decide) (hk _ k_1124) (fun _ h9 => h9) rfl d_X_indexValue_21 ?_
    refine lv_iload_n hx hb d_X_indexValue_24 rfl (lv_at hl 1 rfl) ?_
    refine va_iald hx hb hK.1 hP 4 0 rfl rfl (vpb Q0 (by decide) (by decide)) d_X_indexValue_25 ?_
    refine lv_topi (fun v4 hv4 => ?_)
    have Tv4 : v4.toInt = (y4 (a1).toNatClampNeg).toInt := congrArg _ hv4
    have Rv4 := Ay4 (a1).toNatClampNeg
    rw [← hv4] at Rv4
    obtain ⟨Rv4, Xv4⟩ := Rv4
    have : (((a1).toNatClampNeg : Nat) : Int) = a1.toInt := ti_n Q0 (by decide)
    exact W.iret (v := v4) hx hb hr (fun t ht hW => ⟨⟨v4, v4, rfl, rfl, ⟨(rgw Rv4 (by decide) (by decide)), (show v4.toInt = rv y3 y4 (a1).toNatClampNeg from by omega), (show (1 ≤ a1.toInt ∧ a1.toInt ≤ 6) → (-4095 ≤ v4.toInt ∧ v4.toInt ≤ 4095) from by omega), by show va_P D classes _ t.heap; rw [ht]; exact hP, hD⟩⟩, hS.F ht⟩) hS.2.2 d_X_indexValue_26
  · have gc2 : v1.toInt = (1 : Int) := c_eq c2
    have R5 : 1 ≤ v1.toInt ∧ v1.toInt ≤ 1 := rf_eqX Rv1 (show 1 ≤ (1 : Int) ∧ (1 : Int) ≤ 1 from by decide) gc2 (by decide) (by decide)
    refine lv_aload_n hx hb d_X_indexValue_10 rfl (lv_at hl 0 rfl) ?_
    refine va_get (D := D) (ci := 7) (v := .ref p4) (C := "SignMachineModel") (T := F_X) (N := 64) hx hb hk fi_X hown hK.1 hP 0 rfl rfl 3 (by decide) (hk _ k_1124) (fun _ h9 => h9) rfl d_X_indexValue_11 ?_
    refine lv_iload_n hx hb d_X_indexValue_14 rfl (lv_at hl 1 rfl) ?_
    refine va_iald hx hb hK.1 hP 4 0 rfl rfl (vpb Q0 (by decide) (by decide)) d_X_indexValue_15 ?_
    refine lv_topi (fun v6 hv6 => ?_)
    have Tv6 : v6.toInt = (y4 (a1).toNatClampNeg).toInt := congrArg _ hv6
    have Rv6 := Ay4 (a1).toNatClampNeg
    rw [← hv6] at Rv6
    obtain ⟨Rv6, Xv6⟩ := Rv6
    have : (((a1).toNatClampNeg : Nat) : Int) = a1.toInt := ti_n Q0 (by decide)
    refine lv_ineg hx hb d_X_indexValue_16 ?_
    refine lv_topi (fun v7 hv7 => ?_)
    obtain ⟨ev7, Rv7⟩ : v7.toInt = -v6.toInt ∧ ((-1073741823) ≤ v7.toInt ∧ v7.toInt ≤ 0) := ng3 hv7 Rv6 (by decide) (by decide) (by decide) (by decide)
    refine lv_goto (tgt := 26) hx hb d_X_indexValue_17 (by decide) ?_
    exact W.iret (v := v7) hx hb hr (fun t ht hW => ⟨⟨v7, v7, rfl, rfl, ⟨(rgw Rv7 (by decide) (by decide)), (show v7.toInt = rv y3 y4 (a1).toNatClampNeg from by omega), (show (1 ≤ a1.toInt ∧ a1.toInt ≤ 6) → (-4095 ≤ v7.toInt ∧ v7.toInt ≤ 4095) from by omega), by show va_P D classes _ t.heap; rw [ht]; exact hP, hD⟩⟩, hS.F ht⟩) hS.2.2 d_X_indexValue_26
theorem v_X_indexValue {R : Room} {s : State} {args : Array Value} {own : String} {index : Nat} (hk : ∀ w ∈ tb, w.before args s = true) (hl : Cond.methodLink own index y_X_indexValue ∈ tb) (hR : 0 + 1 ≤ R.frames ∧ 8 + (2 + 11) + 0 ≤ R.locals) : CallW R s args own "SignMachineModel" index y_X_indexValue b_X_indexValue 2 (some .int) (.code y_X_indexValue b_X_indexValue 2 (some .int) :: tb) ({ frames := 0, cells := 0, slots := 0, locals := 0 }) 0 0 1 := mk_v 1 hk k_1403 hl k_1402 k_65 k_119 rfl rfl h_X_indexValue hR
set_option maxHeartbeats 8000000 in
set_option maxRecDepth 100000 in
theorem c_X_areAddresses (l : Launch) (D : va_G) (cI cJ cZ cB : ClassId) (p0 p1 p2 p3 p4 p5 p6 p7 p8 p9 p10 p11 p12 p13 p14 p15 p16 p17 p18 p19 p20 p21 p22 p23 p24 p25 : Nat) (sz : Nat) (x0_4 : Int32) (x0_5 : Int32) (x0_6 : Int32) (x0_7 : Int32) (x0_8 : Int32) (x0_12 : Int32) (x0_13 : Int32) (x0_14 : Int32) (x0_15 : Int32) (x0_16 : Int32) (x0_17 : Int32) (x0_18 : Int32) (x0_22 : Int32) (x0_23 : Int32) (x0_24 : Int32) (x0_25 : Int32) (x0_26 : Int32) (x0_27 : Int32) (x0_28 : Int32) (x0_29 : Int32) (x0_30 : Int32) (x0_31 : Int32) (x0_32 : Int32) (x0_36 : Int32) (x0_39 : Int32) (x0_40 : Int64) (x0_44 : Int32) (x0_49 : Int32) (x0_51 : Int32) (x0_53 : Int32) (x0_54 : Int32) (x0_55 : Int64) (x0_56 : Int32) (x0_57 : Int32) (x0_58 : Int32) (x0_59 : Int32) (x0_60 : Int32) (x0_61 : Int32) (x0_62 : Int64) (y1 : Nat → Int32) (y2 : Nat → Int32) (y3 : Nat → Int32) (y4 : Nat → Int32) (y5 : Nat → Int32) (y6 : Nat → Int32) (y7 : Nat → Int32) (y8 : Nat → Int32) (y9 : Nat → Int32) (y10 : Nat → Int32) (y11 : Nat → Int64) (y12 : Nat → Int32) (y13 : Nat → Int64) (y14 : Nat → Int32) (y15 : Nat → Int64) (y16 : Nat → Int32) (y17 : Nat → Int32) (y18 : Nat → Int32) (y19 : Nat → Int32) (y20 : Nat → Int32) (y21 : Nat → Int32) (y22 : Nat → Int32) (y23 : Nat → Int32) (y24 : Nat → Int64) (y25 : Nat → Int64)  (Rx0_12 : 0 ≤ x0_12.toInt ∧ x0_12.toInt ≤ 63) (Rx0_13 : 0 ≤ x0_13.toInt ∧ x0_13.toInt ≤ 63) (Rx0_15 : (-8190) ≤ x0_15.toInt ∧ x0_15.toInt ≤ 8190) (Ay3 : ∀ i : Nat, (0 ≤ (y3 i).toInt ∧ (y3 i).toInt ≤ 1)) (Ay4 : ∀ i : Nat, ((0 ≤ (y4 i).toInt ∧ (y4 i).toInt ≤ 1073741823) ∧ ((1 ≤ (i : Int) ∧ (i : Int) ≤ 6) → (y4 i).toInt ≤ 4095))) : Met l y_X_areAddresses (.code y_X_areAddresses b_X_areAddresses 2 (some .boolean) :: tb) ({ frames := 1, cells := 0, slots := 0, locals := 21 }) (pM D cI cJ cZ cB (wS50 cI cJ cZ cB p0 p1 p2 p3 p4 p5 p6 p7 p8 p9 p10 p11 p12 p13 p14 p15 p16 p17 p18 p19 p20 p21 p22 p23 p24 p25 x0_4 x0_5 x0_6 x0_7 x0_8 x0_12 x0_13 x0_14 x0_15 x0_16 x0_17 x0_18 x0_22 x0_23 x0_24 x0_25 x0_26 x0_27 x0_28 x0_29 x0_30 x0_31 x0_32 x0_36 x0_39 x0_40 x0_44 x0_49 x0_51 x0_53 x0_54 x0_55 x0_56 x0_57 x0_58 x0_59 x0_60 x0_61 x0_62 y1 y2 y3 y4 y5 y6 y7 y8 y9 y10 y11 y12 y13 y14 y15 y16 y17 y18 y19 y20 y21 y22 y23 y24 y25) sz [.ref p0]) (va_Qi (fun r (u : Int32) => r = u) (fun ur t => (0 ≤ ur.toInt ∧ ur.toInt ≤ 1) ∧ (hid (ur.toInt = 1 → ((((1 ≤ x0_12.toInt ∧ x0_12.toInt ≤ 4) ∨ (8 ≤ x0_12.toInt ∧ x0_12.toInt ≤ 33) ∨ 56 ≤ x0_12.toInt) ∨ x0_12.toInt = 34 ∨ (38 ≤ x0_12.toInt ∧ x0_12.toInt ≤ 47)) → (0 ≤ x0_15.toInt ∧ x0_15.toInt ≤ 3999)))) ∧ (hid (ur.toInt = 1 → ((x0_12.toInt = 7 ∧ 0 < x0_13.toInt) → (0 ≤ x0_15.toInt ∧ x0_15.toInt + x0_13.toInt ≤ 4000 ∧ 0 ≤ rv y3 y4 ((1 : Int32)).toNatClampNeg ∧ rv y3 y4 ((1 : Int32)).toNatClampNeg + x0_13.toInt ≤ 4000)))) ∧ (hid (ur.toInt = 1 → ((x0_12.toInt = 36 ∨ x0_12.toInt = 37) → (0 ≤ x0_15.toInt ∧ x0_15.toInt ≤ 3900)))) ∧ va_P D classes (wS50 cI cJ cZ cB p0 p1 p2 p3 p4 p5 p6 p7 p8 p9 p10 p11 p12 p13 p14 p15 p16 p17 p18 p19 p20 p21 p22 p23 p24 p25 x0_4 x0_5 x0_6 x0_7 x0_8 x0_12 x0_13 x0_14 x0_15 x0_16 x0_17 x0_18 x0_22 x0_23 x0_24 x0_25 x0_26 x0_27 x0_28 x0_29 x0_30 x0_31 x0_32 x0_36 x0_39 x0_40 x0_44 x0_49 x0_51 x0_53 x0_54 x0_55 x0_56 x0_57 x0_58 x0_59 x0_60 x0_61 x0_62 y1 y2 y3 y4 y5 y6 y7 y8 y9 y10 y11 y12 y13 y14 y15 y16 y17 y18 y19 y20 y21 y22 y23 y24 y25) t.heap ∧ va_D (va_A (wS50 cI cJ cZ cB p0 p1 p2 p3 p4 p5 p6 p7 p8 p9 p10 p11 p12 p13 p14 p15 p16 p17 p18 p19 p20 p21 p22 p23 p24 p25 x0_4 x0_5 x0_6 x0_7 x0_8 x0_12 x0_13 x0_14 x0_15 x0_16 x0_17 x0_18 x0_22 x0_23 x0_24 x0_25 x0_26 x0_27 x0_28 x0_29 x0_30 x0_31 x0_32 x0_36 x0_39 x0_40 x0_44 x0_49 x0_51 x0_53 x0_54 x0_55 x0_56 x0_57 x0_58 x0_59 x0_60 x0_61 x0_62 y1 y2 y3 y4 y5 y6 y7 y8 y9 y10 y11 y12 y13 y14 y15 y16 y17 y18 y19 y20 y21 y22 y23 y24 y25) sz) (wS50 cI cJ cZ cB p0 p1 p2 p3 p4 p5 p6 p7 p8 p9 p10 p11 p12 p13 p14 p15 p16 p17 p18 p19 p20 p21 p22 p23 p24 p25 x0_4 x0_5 x0_6 x0_7 x0_8 x0_12 x0_13 x0_14 x0_15 x0_16 x0_17 x0_18 x0_22 x0_23 x0_24 x0_25 x0_26 x0_27 x0_28 x0_29 x0_30 x0_31 x0_32 x0_36 x0_39 x0_40 x0_44 x0_49 x0_51 x0_53 x0_54 x0_55 x0_56 x0_57 x0_58 x0_59 x0_60 x0_61 x0_62 y1 y2 y3 y4 y5 y6 y7 y8 y9 y10 y11 y12 y13 y14 y15 y16 y17 y18 y19 y20 y21 y22 y23 y24 y25)) (va_A (wS50 cI cJ cZ cB p0 p1 p2 p3 p4 p5 p6 p7 p8 p9 p10 p11 p12 p13 p14 p15 p16 p17 p18 p19 p20 p21 p22 p23 p24 p25 x0_4 x0_5 x0_6 x0_7 x0_8 x0_12 x0_13 x0_14 x0_15 x0_16 x0_17 x0_18 x0_22 x0_23 x0_24 x0_25 x0_26 x0_27 x0_28 x0_29 x0_30 x0_31 x0_32 x0_36 x0_39 x0_40 x0_44 x0_49 x0_51 x0_53 x0_54 x0_55 x0_56 x0_57 x0_58 x0_59 x0_60 x0_61 x0_62 y1 y2 y3 y4 y5 y6 y7 y8 y9 y10 y11 y12 y13 y14 y15 y16 y17 y18 y19 y20 y21 y22 y23 y24 y25) sz)) 0 0 (va_A (wS50 cI cJ cZ cB p0 p1 p2 p3 p4 p5 p6 p7 p8 p9 p10 p11 p12 p13 p14 p15 p16 p17 p18 p19 p20 p21 p22 p23 p24 p25 x0_4 x0_5 x0_6 x0_7 x0_8 x0_12 x0_13 x0_14 x0_15 x0_16 x0_17 x0_18 x0_22 x0_23 x0_24 x0_25 x0_26 x0_27 x0_28 x0_29 x0_30 x0_31 x0_32 x0_36 x0_39 x0_40 x0_44 x0_49 x0_51 x0_53 x0_54 x0_55 x0_56 x0_57 x0_58 x0_59 x0_60 x0_61 x0_62 y1 y2 y3 y4 y5 y6 y7 y8 y9 y10 y11 y12 y13 y14 y15 y16 y17 y18 y19 y20 y21 y22 y23 y24 y25) sz) := by
  refine Met.ofW (cc := b_X_areAddresses) (maxL := 2) (ret := (some .boolean)) (by decide) rfl ?_
  intro p e s m args below meth c s₁ B hml hv
  obtain ⟨rfl, hsz, hK, hP, hD0⟩ := hv
  subst hsz
  have hD := hD0.self (sz := s.heap.size)
  generalize hAe : va_A (wS50 cI cJ cZ cB p0 p1 p2 p3 p4 p5 p6 p7 p8 p9 p10 p11 p12 p13 p14 p15 p16 p17 p18 p19 p20 p21 p22 p23 p24 p25 x0_4 x0_5 x0_6 x0_7 x0_8 x0_12 x0_13 x0_14 x0_15 x0_16 x0_17 x0_18 x0_22 x0_23 x0_24 x0_25 x0_26 x0_27 x0_28 x0_29 x0_30 x0_31 x0_32 x0_36 x0_39 x0_40 x0_44 x0_49 x0_51 x0_53 x0_54 x0_55 x0_56 x0_57 x0_58 x0_59 x0_60 x0_61 x0_62 y1 y2 y3 y4 y5 y6 y7 y8 y9 y10 y11 y12 y13 y14 y15 y16 y17 y18 y19 y20 y21 y22 y23 y24 y25) s.heap.size = A at hD ⊢
  have hA : ∀ q : Nat, s.heap.size ≤ q → A q := fun q h => by rw [← hAe]; exact Or.inr h
  clear hAe hD0
  have hS : va_S A s.heap s.heap [] := va_S.rf
  have hx := B.exec
  have hb := B.bytes
  have hr := B.returns
  have hts := atoms_spec (ws := .code y_X_areAddresses b_X_areAddresses 2 (some .boolean) :: tb) B.pre
  have hk : ∀ w ∈ tb, w.before [.ref p0].toArray s = true := fun w h => hts w (List.mem_cons_of_mem _ h)
  have hown : s.vm.findClass "SignMachineModel" = some m.cls := findClass_of_methodNamed B.named
  have hlocks := B.notSynchronized
  have hl := lv_entry ([.ref p0]) (n := 2) (Nat.le_of_ble_eq_true rfl)
  rw [lg_entry_eq]
  generalize (lg_sl ([.ref p0]) ++ List.replicate (2 - (lg_sl ([.ref p0])).length) Slot.unset).toArray = ls at hl ⊢
  have hl : lv_has ls 2 [(0, .ref p0)] := hl
  clear hts B
  refine lv_aload_n hx hb d_X_areAddresses_0 rfl (lv_at hl 0 rfl) ?_
  refine va_get (D := D) (ci := 7) (v := .int x0_12) (C := "SignMachineModel") (T := F_X) (N := 64) hx hb hk fi_X hown hK.1 hP 0 rfl rfl 12 (by decide) (hk _ k_1133) (fun _ h9 => h9) rfl d_X_areAddresses_1 ?_
  refine vp_callSi (W.runS (As := [.int x0_12]) (rest := []) ⟨hx, hb, hml, hown, hk⟩ (c_X_takesWord l x0_12 Rx0_12) (s_X_takesWord hk k_1386 ⟨Nat.le_of_ble_eq_true rfl, Nat.le_of_ble_eq_true rfl⟩) ⟨fun a U g mk q => q, fun U hU hW => ⟨rfl, trivial⟩⟩ rfl rfl hl.1 rfl (lv_room (Nat.le_of_ble_eq_true rfl)) d_X_areAddresses_4 ⟨Nat.le_of_ble_eq_true rfl, Nat.le_of_ble_eq_true rfl⟩) (fun rz1 hrz1 => ?_)
  obtain ⟨F0z1, F1z1, F2z1⟩ := hrz1
  have F0z1 : 0 ≤ rz1.toInt ∧ rz1.toInt ≤ 1 := F0z1
  have F1z1 : rz1.toInt = 1 → (((1 ≤ x0_12.toInt ∧ x0_12.toInt ≤ 4) ∨ (8 ≤ x0_12.toInt ∧ x0_12.toInt ≤ 33) ∨ 56 ≤ x0_12.toInt)) := F1z1
  have F2z1 : rz1.toInt = 0 → (¬ ((1 ≤ x0_12.toInt ∧ x0_12.toInt ≤ 4) ∨ (8 ≤ x0_12.toInt ∧ x0_12.toInt ≤ 33) ∨ 56 ≤ x0_12.toInt)) := F2z1
  refine lv_if_ne (tgt := 37) hx hb d_X_areAddresses_7 (by decide) (fun c2 => ?_) (fun c2 => ?_)
  · have gc2 : rz1.toInt ≠ (0 : Int) := c_ne c2
    have R3 : 1 ≤ rz1.toInt ∧ rz1.toInt ≤ 1 := rf_neX F0z1 (show 0 ≤ (0 : Int) ∧ (0 : Int) ≤ 0 from by decide) gc2 (by decide) (by decide)
    refine lv_aload_n hx hb d_X_areAddresses_37 rfl (lv_at hl 0 rfl) ?_
    refine va_get (D := D) (ci := 7) (v := .int x0_15) (C := "SignMachineModel") (T := F_X) (N := 64) hx hb hk fi_X hown hK.1 hP 0 rfl rfl 15 (by decide) (hk _ k_1136) (fun _ h9 => h9) rfl d_X_areAddresses_38 ?_
    refine lv_i2l (v := (x0_15 : Int32).toInt64) hx hb d_X_areAddresses_41 rfl ?_
    refine lv_topl (fun v4 hv4 => ?_)
    obtain ⟨ev4, Rv4⟩ : v4.toInt = x0_15.toInt ∧ ((-8190) ≤ v4.toInt ∧ v4.toInt ≤ 8190) := il3 hv4 Rx0_15
    refine vp_callSi (W.runS (As := [.long v4]) (rest := []) ⟨hx, hb, hml, hown, hk⟩ (c_X_isWord l v4 ) (s_X_isWord hk k_1396 ⟨Nat.le_of_ble_eq_true rfl, Nat.le_of_ble_eq_true rfl⟩) ⟨fun a U g mk q => q, fun U hU hW => ⟨rfl, trivial⟩⟩ rfl rfl hl.1 rfl (lv_room (Nat.le_of_ble_eq_true rfl)) d_X_areAddresses_42 ⟨Nat.le_of_ble_eq_true rfl, Nat.le_of_ble_eq_true rfl⟩) (fun rz5 hrz5 => ?_)
    obtain ⟨F0z5, F1z5, F2z5⟩ := hrz5
    have F0z5 : 0 ≤ rz5.toInt ∧ rz5.toInt ≤ 1 := F0z5
    have F1z5 : rz5.toInt = 1 → (0 ≤ v4.toInt ∧ v4.toInt ≤ 3999) := F1z5
    have F2z5 : rz5.toInt = 0 → (v4.toInt < 0 ∨ 3999 < v4.toInt) := F2z5
    exact W.zret (v := rz5) hx hb hr (nar01 F0z5) (fun t ht hW => ⟨⟨rz5, rz5, rfl, rfl, ⟨F0z5, (show hid (rz5.toInt = 1 → ((((1 ≤ x0_12.toInt ∧ x0_12.toInt ≤ 4) ∨ (8 ≤ x0_12.toInt ∧ x0_12.toInt ≤ 33) ∨ 56 ≤ x0_12.toInt) ∨ x0_12.toInt = 34 ∨ (38 ≤ x0_12.toInt ∧ x0_12.toInt ≤ 47)) → (0 ≤ x0_15.toInt ∧ x0_15.toInt ≤ 3999))) from by first | assumption | (unfold hid; omega)), (show hid (rz5.toInt = 1 → ((x0_12.toInt = 7 ∧ 0 < x0_13.toInt) → (0 ≤ x0_15.toInt ∧ x0_15.toInt + x0_13.toInt ≤ 4000 ∧ 0 ≤ rv y3 y4 ((1 : Int32)).toNatClampNeg ∧ rv y3 y4 ((1 : Int32)).toNatClampNeg + x0_13.toInt ≤ 4000))) from by first | assumption | (unfold hid; omega)), (show hid (rz5.toInt = 1 → ((x0_12.toInt = 36 ∨ x0_12.toInt = 37) → (0 ≤ x0_15.toInt ∧ x0_15.toInt ≤ 3900))) from by first | assumption | (unfold hid; omega)), by show va_P D classes _ t.heap; rw [ht]; exact hP, hD⟩⟩, hS.F ht⟩) hS.2.2 d_X_areAddresses_45
  · have gc2 : rz1.toInt = (0 : Int) := c_eq c2
    have R6 : 0 ≤ rz1.toInt ∧ rz1.toInt ≤ 0 := rf_eqX F0z1 (show 0 ≤ (0 : Int) ∧ (0 : Int) ≤ 0 from by decide) gc2 (by decide) (by decide)
    refine lv_aload_n hx hb d_X_areAddresses_10 rfl (lv_at hl 0 rfl) ?_
    refine va_get (D := D) (ci := 7) (v := .int x0_12) (C := "SignMachineModel") (T := F_X) (N := 64) hx hb hk fi_X hown hK.1 hP 0 rfl rfl 12 (by decide) (hk _ k_1133) (fun _ h9 => h9) rfl d_X_areAddresses_11 ?_
    refine lv_bipush (v := 34) hx hb d_X_areAddresses_14 (by decide) ?_
    refine lv_icmp_eq (tgt := 37) hx hb d_X_areAddresses_16 (by decide) (fun c7 => ?_) (fun c7 => ?_)
    · have gc7 : x0_12.toInt = (34 : Int) := c_eq c7
      have R8 : 34 ≤ x0_12.toInt ∧ x0_12.toInt ≤ 34 := rf_eqX Rx0_12 (show 34 ≤ (34 : Int) ∧ (34 : Int) ≤ 34 from by decide) gc7 (by decide) (by decide)
      refine lv_aload_n hx hb d_X_areAddresses_37 rfl (lv_at hl 0 rfl) ?_
      refine va_get (D := D) (ci := 7) (v := .int x0_15) (C := "SignMachineModel") (T := F_X) (N := 64) hx hb hk fi_X hown hK.1 hP 0 rfl rfl 15 (by decide) (hk _ k_1136) (fun _ h9 => h9) rfl d_X_areAddresses_38 ?_
      refine lv_i2l (v := (x0_15 : Int32).toInt64) hx hb d_X_areAddresses_41 rfl ?_
      refine lv_topl (fun v9 hv9 => ?_)
      obtain ⟨ev9, Rv9⟩ : v9.toInt = x0_15.toInt ∧ ((-8190) ≤ v9.toInt ∧ v9.toInt ≤ 8190) := il3 hv9 Rx0_15
      refine vp_callSi (W.runS (As := [.long v9]) (rest := []) ⟨hx, hb, hml, hown, hk⟩ (c_X_isWord l v9 ) (s_X_isWord hk k_1396 ⟨Nat.le_of_ble_eq_true rfl, Nat.le_of_ble_eq_true rfl⟩) ⟨fun a U g mk q => q, fun U hU hW => ⟨rfl, trivial⟩⟩ rfl rfl hl.1 rfl (lv_room (Nat.le_of_ble_eq_true rfl)) d_X_areAddresses_42 ⟨Nat.le_of_ble_eq_true rfl, Nat.le_of_ble_eq_true rfl⟩) (fun rz10 hrz10 => ?_)
      obtain ⟨F0z10, F1z10, F2z10⟩ := hrz10
      have F0z10 : 0 ≤ rz10.toInt ∧ rz10.toInt ≤ 1 := F0z10
      have F1z10 : rz10.toInt = 1 → (0 ≤ v9.toInt ∧ v9.toInt ≤ 3999) := F1z10
      have F2z10 : rz10.toInt = 0 → (v9.toInt < 0 ∨ 3999 < v9.toInt) := F2z10
      exact W.zret (v := rz10) hx hb hr (nar01 F0z10) (fun t ht hW => ⟨⟨rz10, rz10, rfl, rfl, ⟨F0z10, (show hid (rz10.toInt = 1 → ((((1 ≤ x0_12.toInt ∧ x0_12.toInt ≤ 4) ∨ (8 ≤ x0_12.toInt ∧ x0_12.toInt ≤ 33) ∨ 56 ≤ x0_12.toInt) ∨ x0_12.toInt = 34 ∨ (38 ≤ x0_12.toInt ∧ x0_12.toInt ≤ 47)) → (0 ≤ x0_15.toInt ∧ x0_15.toInt ≤ 3999))) from by first | assumption | (unfold hid; omega)), (show hid (rz10.toInt = 1 → ((x0_12.toInt = 7 ∧ 0 < x0_13.toInt) → (0 ≤ x0_15.toInt ∧ x0_15.toInt + x0_13.toInt ≤ 4000 ∧ 0 ≤ rv y3 y4 ((1 : Int32)).toNatClampNeg ∧ rv y3 y4 ((1 : Int32)).toNatClampNeg + x0_13.toInt ≤ 4000))) from by first | assumption | (unfold hid; omega)), (show hid (rz10.toInt = 1 → ((x0_12.toInt = 36 ∨ x0_12.toInt = 37) → (0 ≤ x0_15.toInt ∧ x0_15.toInt ≤ 3900))) from by first | assumption | (unfold hid; omega)), by show va_P D classes _ t.heap; rw [ht]; exact hP, hD⟩⟩, hS.F ht⟩) hS.2.2 d_X_areAddresses_45
    · have gc7 : x0_12.toInt ≠ (34 : Int) := c_ne c7
      refine lv_aload_n hx hb d_X_areAddresses_19 rfl (lv_at hl 0 rfl) ?_
      refine va_get (D := D) (ci := 7) (v := .int x0_12) (C := "SignMachineModel") (T := F_X) (N := 64) hx hb hk fi_X hown hK.1 hP 0 rfl rfl 12 (by decide) (hk _ k_1133) (fun _ h9 => h9) rfl d_X_areAddresses_20 ?_
      refine lv_bipush (v := 38) hx hb d_X_areAddresses_23 (by decide) ?_
      refine lv_icmp_lt (tgt := 46) hx hb d_X_areAddresses_25 (by decide) (fun c11 => ?_) (fun c11 => ?_)
      · have gc11 : x0_12.toInt < (38 : Int) := c_lt c11
        have R12 : 0 ≤ x0_12.toInt ∧ x0_12.toInt ≤ 37 := rf_ltX Rx0_12 (show 38 ≤ (38 : Int) ∧ (38 : Int) ≤ 38 from by decide) gc11 (by decide) (by decide)
        refine lv_aload_n hx hb d_X_areAddresses_46 rfl (lv_at hl 0 rfl) ?_
        refine va_get (D := D) (ci := 7) (v := .int x0_12) (C := "SignMachineModel") (T := F_X) (N := 64) hx hb hk fi_X hown hK.1 hP 0 rfl rfl 12 (by decide) (hk _ k_1133) (fun _ h9 => h9) rfl d_X_areAddresses_47 ?_
        refine lv_bipush (v := 6) hx hb d_X_areAddresses_50 (by decide) ?_
        refine lv_icmp_ne (tgt := 68) hx hb d_X_areAddresses_52 (by decide) (fun c13 => ?_) (fun c13 => ?_)
        · have gc13 : x0_12.toInt ≠ (6 : Int) := c_ne c13
          refine lv_aload_n hx hb d_X_areAddresses_68 rfl (lv_at hl 0 rfl) ?_
          refine va_get (D := D) (ci := 7) (v := .int x0_12) (C := "SignMachineModel") (T := F_X) (N := 64) hx hb hk fi_X hown hK.1 hP 0 rfl rfl 12 (by decide) (hk _ k_1133) (fun _ h9 => h9) rfl d_X_areAddresses_69 ?_
          refine lv_bipush (v := 7) hx hb d_X_areAddresses_72 (by decide) ?_
          refine lv_icmp_ne (tgt := 148) hx hb d_X_areAddresses_74 (by decide) (fun c14 => ?_) (fun c14 => ?_)
          · have gc14 : x0_12.toInt ≠ (7 : Int) := c_ne c14
            refine lv_aload_n hx hb d_X_areAddresses_148 rfl (lv_at hl 0 rfl) ?_
            refine va_get (D := D) (ci := 7) (v := .int x0_12) (C := "SignMachineModel") (T := F_X) (N := 64) hx hb hk fi_X hown hK.1 hP 0 rfl rfl 12 (by decide) (hk _ k_1133) (fun _ h9 => h9) rfl d_X_areAddresses_149 ?_
            refine lv_bipush (v := 36) hx hb d_X_areAddresses_152 (by decide) ?_
            refine lv_icmp_eq (tgt := 166) hx hb d_X_areAddresses_154 (by decide) (fun c15 => ?_) (fun c15 => ?_)
            · have gc15 : x0_12.toInt = (36 : Int) := c_eq c15
              have R16 : 36 ≤ x0_12.toInt ∧ x0_12.toInt ≤ 36 := rf_eqX R12 (show 36 ≤ (36 : Int) ∧ (36 : Int) ≤ 36 from by decide) gc15 (by decide) (by decide)
              refine lv_aload_n hx hb d_X_areAddresses_166 rfl (lv_at hl 0 rfl) ?_
              refine va_get (D := D) (ci := 7) (v := .int x0_15) (C := "SignMachineModel") (T := F_X) (N := 64) hx hb hk fi_X hown hK.1 hP 0 rfl rfl 15 (by decide) (hk _ k_1136) (fun _ h9 => h9) rfl d_X_areAddresses_167 ?_
              refine lv_i2l (v := (x0_15 : Int32).toInt64) hx hb d_X_areAddresses_170 rfl ?_
              refine lv_topl (fun v17 hv17 => ?_)
              obtain ⟨ev17, Rv17⟩ : v17.toInt = x0_15.toInt ∧ ((-8190) ≤ v17.toInt ∧ v17.toInt ≤ 8190) := il3 hv17 Rx0_15
              refine vp_callSi (W.runS (As := [.long v17]) (rest := []) ⟨hx, hb, hml, hown, hk⟩ (c_X_isWord l v17 ) (s_X_isWord hk k_1396 ⟨Nat.le_of_ble_eq_true rfl, Nat.le_of_ble_eq_true rfl⟩) ⟨fun a U g mk q => q, fun U hU hW => ⟨rfl, trivial⟩⟩ rfl rfl hl.1 rfl (lv_room (Nat.le_of_ble_eq_true rfl)) d_X_areAddresses_171 ⟨Nat.le_of_ble_eq_true rfl, Nat.le_of_ble_eq_true rfl⟩) (fun rz18 hrz18 => ?_)
              obtain ⟨F0z18, F1z18, F2z18⟩ := hrz18
              have F0z18 : 0 ≤ rz18.toInt ∧ rz18.toInt ≤ 1 := F0z18
              have F1z18 : rz18.toInt = 1 → (0 ≤ v17.toInt ∧ v17.toInt ≤ 3999) := F1z18
              have F2z18 : rz18.toInt = 0 → (v17.toInt < 0 ∨ 3999 < v17.toInt) := F2z18
              refine lv_if_eq (tgt := 196) hx hb d_X_areAddresses_174 (by decide) (fun c19 => ?_) (fun c19 => ?_)
              · have gc19 : rz18.toInt = (0 : Int) := c_eq c19
                have R20 : 0 ≤ rz18.toInt ∧ rz18.toInt ≤ 0 := rf_eqX F0z18 (show 0 ≤ (0 : Int) ∧ (0 : Int) ≤ 0 from by decide) gc19 (by decide) (by decide)
                refine lv_iconst (v := 0) hx hb d_X_areAddresses_196 (by decide) ?_
                exact W.zret (v := (0 : Int32)) hx hb hr (nar01 (by decide)) (fun t ht hW => ⟨⟨(0 : Int32), (0 : Int32), rfl, rfl, ⟨(by decide), (show hid ((0 : Int) = 1 → ((((1 ≤ x0_12.toInt ∧ x0_12.toInt ≤ 4) ∨ (8 ≤ x0_12.toInt ∧ x0_12.toInt ≤ 33) ∨ 56 ≤ x0_12.toInt) ∨ x0_12.toInt = 34 ∨ (38 ≤ x0_12.toInt ∧ x0_12.toInt ≤ 47)) → (0 ≤ x0_15.toInt ∧ x0_15.toInt ≤ 3999))) from by first | assumption | (unfold hid; omega)), (show hid ((0 : Int) = 1 → ((x0_12.toInt = 7 ∧ 0 < x0_13.toInt) → (0 ≤ x0_15.toInt ∧ x0_15.toInt + x0_13.toInt ≤ 4000 ∧ 0 ≤ rv y3 y4 ((1 : Int32)).toNatClampNeg ∧ rv y3 y4 ((1 : Int32)).toNatClampNeg + x0_13.toInt ≤ 4000))) from by first | assumption | (unfold hid; omega)), (show hid ((0 : Int) = 1 → ((x0_12.toInt = 36 ∨ x0_12.toInt = 37) → (0 ≤ x0_15.toInt ∧ x0_15.toInt ≤ 3900))) from by first | assumption | (unfold hid; omega)), by show va_P D classes _ t.heap; rw [ht]; exact hP, hD⟩⟩, hS.F ht⟩) hS.2.2 d_X_areAddresses_197
              · have gc19 : rz18.toInt ≠ (0 : Int) := c_ne c19
                have R21 : 1 ≤ rz18.toInt ∧ rz18.toInt ≤ 1 := rf_neX F0z18 (show 0 ≤ (0 : Int) ∧ (0 : Int) ≤ 0 from by decide) gc19 (by decide) (by decide)
                refine lv_aload_n hx hb d_X_areAddresses_177 rfl (lv_at hl 0 rfl) ?_
                refine va_get (D := D) (ci := 7) (v := .int x0_15) (C := "SignMachineModel") (T := F_X) (N := 64) hx hb hk fi_X hown hK.1 hP 0 rfl rfl 15 (by decide) (hk _ k_1136) (fun _ h9 => h9) rfl d_X_areAddresses_178 ?_
                refine lv_i2l (v := (x0_15 : Int32).toInt64) hx hb d_X_areAddresses_181 rfl ?_
                refine lv_topl (fun v22 hv22 => ?_)
                obtain ⟨ev22, Rv22⟩ : v22.toInt = x0_15.toInt ∧ ((-8190) ≤ v22.toInt ∧ v22.toInt ≤ 8190) := il3 hv22 Rx0_15
                refine lv_ldc2 (v := 99) hx hb hown (hk _ k_1361) d_X_areAddresses_182 ?_
                refine lv_ladd hx hb d_X_areAddresses_185 ?_
                refine lv_topl (fun v23 hv23 => ?_)
                obtain ⟨ev23, Rv23⟩ : v23.toInt = v22.toInt + (99 : Int) ∧ ((-8091) ≤ v23.toInt ∧ v23.toInt ≤ 8289) := ad6 hv23 Rv22 (show 99 ≤ (99 : Int64).toInt ∧ (99 : Int64).toInt ≤ 99 from by decide) (by decide) (by decide) (by decide) (by decide)
                refine vp_callSi (W.runS (As := [.long v23]) (rest := []) ⟨hx, hb, hml, hown, hk⟩ (c_X_isWord l v23 ) (s_X_isWord hk k_1396 ⟨Nat.le_of_ble_eq_true rfl, Nat.le_of_ble_eq_true rfl⟩) ⟨fun a U g mk q => q, fun U hU hW => ⟨rfl, trivial⟩⟩ rfl rfl hl.1 rfl (lv_room (Nat.le_of_ble_eq_true rfl)) d_X_areAddresses_186 ⟨Nat.le_of_ble_eq_true rfl, Nat.le_of_ble_eq_true rfl⟩) (fun rz24 hrz24 => ?_)
                obtain ⟨F0z24, F1z24, F2z24⟩ := hrz24
                have F0z24 : 0 ≤ rz24.toInt ∧ rz24.toInt ≤ 1 := F0z24
                have F1z24 : rz24.toInt = 1 → (0 ≤ v23.toInt ∧ v23.toInt ≤ 3999) := F1z24
                have F2z24 : rz24.toInt = 0 → (v23.toInt < 0 ∨ 3999 < v23.toInt) := F2z24
                refine lv_if_eq (tgt := 196) hx hb d_X_areAddresses_189 (by decide) (fun c25 => ?_) (fun c25 => ?_)
                · have gc25 : rz24.toInt = (0 : Int) := c_eq c25
                  have R26 : 0 ≤ rz24.toInt ∧ rz24.toInt ≤ 0 := rf_eqX F0z24 (show 0 ≤ (0 : Int) ∧ (0 : Int) ≤ 0 from by decide) gc25 (by decide) (by decide)
                  refine lv_iconst (v := 0) hx hb d_X_areAddresses_196 (by decide) ?_
                  exact W.zret (v := (0 : Int32)) hx hb hr (nar01 (by decide)) (fun t ht hW => ⟨⟨(0 : Int32), (0 : Int32), rfl, rfl, ⟨(by decide), (show hid ((0 : Int) = 1 → ((((1 ≤ x0_12.toInt ∧ x0_12.toInt ≤ 4) ∨ (8 ≤ x0_12.toInt ∧ x0_12.toInt ≤ 33) ∨ 56 ≤ x0_12.toInt) ∨ x0_12.toInt = 34 ∨ (38 ≤ x0_12.toInt ∧ x0_12.toInt ≤ 47)) → (0 ≤ x0_15.toInt ∧ x0_15.toInt ≤ 3999))) from by first | assumption | (unfold hid; omega)), (show hid ((0 : Int) = 1 → ((x0_12.toInt = 7 ∧ 0 < x0_13.toInt) → (0 ≤ x0_15.toInt ∧ x0_15.toInt + x0_13.toInt ≤ 4000 ∧ 0 ≤ rv y3 y4 ((1 : Int32)).toNatClampNeg ∧ rv y3 y4 ((1 : Int32)).toNatClampNeg + x0_13.toInt ≤ 4000))) from by first | assumption | (unfold hid; omega)), (show hid ((0 : Int) = 1 → ((x0_12.toInt = 36 ∨ x0_12.toInt = 37) → (0 ≤ x0_15.toInt ∧ x0_15.toInt ≤ 3900))) from by first | assumption | (unfold hid; omega)), by show va_P D classes _ t.heap; rw [ht]; exact hP, hD⟩⟩, hS.F ht⟩) hS.2.2 d_X_areAddresses_197
                · have gc25 : rz24.toInt ≠ (0 : Int) := c_ne c25
                  have R27 : 1 ≤ rz24.toInt ∧ rz24.toInt ≤ 1 := rf_neX F0z24 (show 0 ≤ (0 : Int) ∧ (0 : Int) ≤ 0 from by decide) gc25 (by decide) (by decide)
                  refine lv_iconst (v := 1) hx hb d_X_areAddresses_192 (by decide) ?_
                  refine lv_goto (tgt := 197) hx hb d_X_areAddresses_193 (by decide) ?_
                  exact W.zret (v := (1 : Int32)) hx hb hr (nar01 (by decide)) (fun t ht hW => ⟨⟨(1 : Int32), (1 : Int32), rfl, rfl, ⟨(by decide), (show hid ((1 : Int) = 1 → ((((1 ≤ x0_12.toInt ∧ x0_12.toInt ≤ 4) ∨ (8 ≤ x0_12.toInt ∧ x0_12.toInt ≤ 33) ∨ 56 ≤ x0_12.toInt) ∨ x0_12.toInt = 34 ∨ (38 ≤ x0_12.toInt ∧ x0_12.toInt ≤ 47)) → (0 ≤ x0_15.toInt ∧ x0_15.toInt ≤ 3999))) from by first | assumption | (unfold hid; omega)), (show hid ((1 : Int) = 1 → ((x0_12.toInt = 7 ∧ 0 < x0_13.toInt) → (0 ≤ x0_15.toInt ∧ x0_15.toInt + x0_13.toInt ≤ 4000 ∧ 0 ≤ rv y3 y4 ((1 : Int32)).toNatClampNeg ∧ rv y3 y4 ((1 : Int32)).toNatClampNeg + x0_13.toInt ≤ 4000))) from by first | assumption | (unfold hid; omega)), (show hid ((1 : Int) = 1 → ((x0_12.toInt = 36 ∨ x0_12.toInt = 37) → (0 ≤ x0_15.toInt ∧ x0_15.toInt ≤ 3900))) from by first | assumption | (unfold hid; omega)), by show va_P D classes _ t.heap; rw [ht]; exact hP, hD⟩⟩, hS.F ht⟩) hS.2.2 d_X_areAddresses_197
            · have gc15 : x0_12.toInt ≠ (36 : Int) := c_ne c15
              refine lv_aload_n hx hb d_X_areAddresses_157 rfl (lv_at hl 0 rfl) ?_
              refine va_get (D := D) (ci := 7) (v := .int x0_12) (C := "SignMachineModel") (T := F_X) (N := 64) hx hb hk fi_X hown hK.1 hP 0 rfl rfl 12 (by decide) (hk _ k_1133) (fun _ h9 => h9) rfl d_X_areAddresses_158 ?_
              refine lv_bipush (v := 37) hx hb d_X_areAddresses_161 (by decide) ?_
              refine lv_icmp_ne (tgt := 192) hx hb d_X_areAddresses_163 (by decide) (fun c28 => ?_) (fun c28 => ?_)
              · have gc28 : x0_12.toInt ≠ (37 : Int) := c_ne c28
                have R29 : 0 ≤ x0_12.toInt ∧ x0_12.toInt ≤ 36 := rf_neX R12 (show 37 ≤ (37 : Int) ∧ (37 : Int) ≤ 37 from by decide) gc28 (by decide) (by decide)
                refine lv_iconst (v := 1) hx hb d_X_areAddresses_192 (by decide) ?_
                refine lv_goto (tgt := 197) hx hb d_X_areAddresses_193 (by decide) ?_
                exact W.zret (v := (1 : Int32)) hx hb hr (nar01 (by decide)) (fun t ht hW => ⟨⟨(1 : Int32), (1 : Int32), rfl, rfl, ⟨(by decide), (show hid ((1 : Int) = 1 → ((((1 ≤ x0_12.toInt ∧ x0_12.toInt ≤ 4) ∨ (8 ≤ x0_12.toInt ∧ x0_12.toInt ≤ 33) ∨ 56 ≤ x0_12.toInt) ∨ x0_12.toInt = 34 ∨ (38 ≤ x0_12.toInt ∧ x0_12.toInt ≤ 47)) → (0 ≤ x0_15.toInt ∧ x0_15.toInt ≤ 3999))) from by first | assumption | (unfold hid; omega)), (show hid ((1 : Int) = 1 → ((x0_12.toInt = 7 ∧ 0 < x0_13.toInt) → (0 ≤ x0_15.toInt ∧ x0_15.toInt + x0_13.toInt ≤ 4000 ∧ 0 ≤ rv y3 y4 ((1 : Int32)).toNatClampNeg ∧ rv y3 y4 ((1 : Int32)).toNatClampNeg + x0_13.toInt ≤ 4000))) from by first | assumption | (unfold hid; omega)), (show hid ((1 : Int) = 1 → ((x0_12.toInt = 36 ∨ x0_12.toInt = 37) → (0 ≤ x0_15.toInt ∧ x0_15.toInt ≤ 3900))) from by first | assumption | (unfold hid; omega)), by show va_P D classes _ t.heap; rw [ht]; exact hP, hD⟩⟩, hS.F ht⟩) hS.2.2 d_X_areAddresses_197
              · have gc28 : x0_12.toInt = (37 : Int) := c_eq c28
                have R30 : 37 ≤ x0_12.toInt ∧ x0_12.toInt ≤ 37 := rf_eqX R12 (show 37 ≤ (37 : Int) ∧ (37 : Int) ≤ 37 from by decide) gc28 (by decide) (by decide)
                refine lv_aload_n hx hb d_X_areAddresses_166 rfl (lv_at hl 0 rfl) ?_
                refine va_get (D := D) (ci := 7) (v := .int x0_15) (C := "SignMachineModel") (T := F_X) (N := 64) hx hb hk fi_X hown hK.1 hP 0 rfl rfl 15 (by decide) (hk _ k_1136) (fun _ h9 => h9) rfl d_X_areAddresses_167 ?_
                refine lv_i2l (v := (x0_15 : Int32).toInt64) hx hb d_X_areAddresses_170 rfl ?_
                refine lv_topl (fun v31 hv31 => ?_)
                obtain ⟨ev31, Rv31⟩ : v31.toInt = x0_15.toInt ∧ ((-8190) ≤ v31.toInt ∧ v31.toInt ≤ 8190) := il3 hv31 Rx0_15
                refine vp_callSi (W.runS (As := [.long v31]) (rest := []) ⟨hx, hb, hml, hown, hk⟩ (c_X_isWord l v31 ) (s_X_isWord hk k_1396 ⟨Nat.le_of_ble_eq_true rfl, Nat.le_of_ble_eq_true rfl⟩) ⟨fun a U g mk q => q, fun U hU hW => ⟨rfl, trivial⟩⟩ rfl rfl hl.1 rfl (lv_room (Nat.le_of_ble_eq_true rfl)) d_X_areAddresses_171 ⟨Nat.le_of_ble_eq_true rfl, Nat.le_of_ble_eq_true rfl⟩) (fun rz32 hrz32 => ?_)
                obtain ⟨F0z32, F1z32, F2z32⟩ := hrz32
                have F0z32 : 0 ≤ rz32.toInt ∧ rz32.toInt ≤ 1 := F0z32
                have F1z32 : rz32.toInt = 1 → (0 ≤ v31.toInt ∧ v31.toInt ≤ 3999) := F1z32
                have F2z32 : rz32.toInt = 0 → (v31.toInt < 0 ∨ 3999 < v31.toInt) := F2z32
                refine lv_if_eq (tgt := 196) hx hb d_X_areAddresses_174 (by decide) (fun c33 => ?_) (fun c33 => ?_)
                · have gc33 : rz32.toInt = (0 : Int) := c_eq c33
                  have R34 : 0 ≤ rz32.toInt ∧ rz32.toInt ≤ 0 := rf_eqX F0z32 (show 0 ≤ (0 : Int) ∧ (0 : Int) ≤ 0 from by decide) gc33 (by decide) (by decide)
                  refine lv_iconst (v := 0) hx hb d_X_areAddresses_196 (by decide) ?_
                  exact W.zret (v := (0 : Int32)) hx hb hr (nar01 (by decide)) (fun t ht hW => ⟨⟨(0 : Int32), (0 : Int32), rfl, rfl, ⟨(by decide), (show hid ((0 : Int) = 1 → ((((1 ≤ x0_12.toInt ∧ x0_12.toInt ≤ 4) ∨ (8 ≤ x0_12.toInt ∧ x0_12.toInt ≤ 33) ∨ 56 ≤ x0_12.toInt) ∨ x0_12.toInt = 34 ∨ (38 ≤ x0_12.toInt ∧ x0_12.toInt ≤ 47)) → (0 ≤ x0_15.toInt ∧ x0_15.toInt ≤ 3999))) from by first | assumption | (unfold hid; omega)), (show hid ((0 : Int) = 1 → ((x0_12.toInt = 7 ∧ 0 < x0_13.toInt) → (0 ≤ x0_15.toInt ∧ x0_15.toInt + x0_13.toInt ≤ 4000 ∧ 0 ≤ rv y3 y4 ((1 : Int32)).toNatClampNeg ∧ rv y3 y4 ((1 : Int32)).toNatClampNeg + x0_13.toInt ≤ 4000))) from by first | assumption | (unfold hid; omega)), (show hid ((0 : Int) = 1 → ((x0_12.toInt = 36 ∨ x0_12.toInt = 37) → (0 ≤ x0_15.toInt ∧ x0_15.toInt ≤ 3900))) from by first | assumption | (unfold hid; omega)), by show va_P D classes _ t.heap; rw [ht]; exact hP, hD⟩⟩, hS.F ht⟩) hS.2.2 d_X_areAddresses_197
                · have gc33 : rz32.toInt ≠ (0 : Int) := c_ne c33
                  have R35 : 1 ≤ rz32.toInt ∧ rz32.toInt ≤ 1 := rf_neX F0z32 (show 0 ≤ (0 : Int) ∧ (0 : Int) ≤ 0 from by decide) gc33 (by decide) (by decide)
                  refine lv_aload_n hx hb d_X_areAddresses_177 rfl (lv_at hl 0 rfl) ?_
                  refine va_get (D := D) (ci := 7) (v := .int x0_15) (C := "SignMachineModel") (T := F_X) (N := 64) hx hb hk fi_X hown hK.1 hP 0 rfl rfl 15 (by decide) (hk _ k_1136) (fun _ h9 => h9) rfl d_X_areAddresses_178 ?_
                  refine lv_i2l (v := (x0_15 : Int32).toInt64) hx hb d_X_areAddresses_181 rfl ?_
                  refine lv_topl (fun v36 hv36 => ?_)
                  obtain ⟨ev36, Rv36⟩ : v36.toInt = x0_15.toInt ∧ ((-8190) ≤ v36.toInt ∧ v36.toInt ≤ 8190) := il3 hv36 Rx0_15
                  refine lv_ldc2 (v := 99) hx hb hown (hk _ k_1361) d_X_areAddresses_182 ?_
                  refine lv_ladd hx hb d_X_areAddresses_185 ?_
                  refine lv_topl (fun v37 hv37 => ?_)
                  obtain ⟨ev37, Rv37⟩ : v37.toInt = v36.toInt + (99 : Int) ∧ ((-8091) ≤ v37.toInt ∧ v37.toInt ≤ 8289) := ad6 hv37 Rv36 (show 99 ≤ (99 : Int64).toInt ∧ (99 : Int64).toInt ≤ 99 from by decide) (by decide) (by decide) (by decide) (by decide)
                  refine vp_callSi (W.runS (As := [.long v37]) (rest := []) ⟨hx, hb, hml, hown, hk⟩ (c_X_isWord l v37 ) (s_X_isWord hk k_1396 ⟨Nat.le_of_ble_eq_true rfl, Nat.le_of_ble_eq_true rfl⟩) ⟨fun a U g mk q => q, fun U hU hW => ⟨rfl, trivial⟩⟩ rfl rfl hl.1 rfl (lv_room (Nat.le_of_ble_eq_true rfl)) d_X_areAddresses_186 ⟨Nat.le_of_ble_eq_true rfl, Nat.le_of_ble_eq_true rfl⟩) (fun rz38 hrz38 => ?_)
                  obtain ⟨F0z38, F1z38, F2z38⟩ := hrz38
                  have F0z38 : 0 ≤ rz38.toInt ∧ rz38.toInt ≤ 1 := F0z38
                  have F1z38 : rz38.toInt = 1 → (0 ≤ v37.toInt ∧ v37.toInt ≤ 3999) := F1z38
                  have F2z38 : rz38.toInt = 0 → (v37.toInt < 0 ∨ 3999 < v37.toInt) := F2z38
                  refine lv_if_eq (tgt := 196) hx hb d_X_areAddresses_189 (by decide) (fun c39 => ?_) (fun c39 => ?_)
                  · have gc39 : rz38.toInt = (0 : Int) := c_eq c39
                    have R40 : 0 ≤ rz38.toInt ∧ rz38.toInt ≤ 0 := rf_eqX F0z38 (show 0 ≤ (0 : Int) ∧ (0 : Int) ≤ 0 from by decide) gc39 (by decide) (by decide)
                    refine lv_iconst (v := 0) hx hb d_X_areAddresses_196 (by decide) ?_
                    exact W.zret (v := (0 : Int32)) hx hb hr (nar01 (by decide)) (fun t ht hW => ⟨⟨(0 : Int32), (0 : Int32), rfl, rfl, ⟨(by decide), (show hid ((0 : Int) = 1 → ((((1 ≤ x0_12.toInt ∧ x0_12.toInt ≤ 4) ∨ (8 ≤ x0_12.toInt ∧ x0_12.toInt ≤ 33) ∨ 56 ≤ x0_12.toInt) ∨ x0_12.toInt = 34 ∨ (38 ≤ x0_12.toInt ∧ x0_12.toInt ≤ 47)) → (0 ≤ x0_15.toInt ∧ x0_15.toInt ≤ 3999))) from by first | assumption | (unfold hid; omega)), (show hid ((0 : Int) = 1 → ((x0_12.toInt = 7 ∧ 0 < x0_13.toInt) → (0 ≤ x0_15.toInt ∧ x0_15.toInt + x0_13.toInt ≤ 4000 ∧ 0 ≤ rv y3 y4 ((1 : Int32)).toNatClampNeg ∧ rv y3 y4 ((1 : Int32)).toNatClampNeg + x0_13.toInt ≤ 4000))) from by first | assumption | (unfold hid; omega)), (show hid ((0 : Int) = 1 → ((x0_12.toInt = 36 ∨ x0_12.toInt = 37) → (0 ≤ x0_15.toInt ∧ x0_15.toInt ≤ 3900))) from by first | assumption | (unfold hid; omega)), by show va_P D classes _ t.heap; rw [ht]; exact hP, hD⟩⟩, hS.F ht⟩) hS.2.2 d_X_areAddresses_197
                  · have gc39 : rz38.toInt ≠ (0 : Int) := c_ne c39
                    have R41 : 1 ≤ rz38.toInt ∧ rz38.toInt ≤ 1 := rf_neX F0z38 (show 0 ≤ (0 : Int) ∧ (0 : Int) ≤ 0 from by decide) gc39 (by decide) (by decide)
                    refine lv_iconst (v := 1) hx hb d_X_areAddresses_192 (by decide) ?_
                    refine lv_goto (tgt := 197) hx hb d_X_areAddresses_193 (by decide) ?_
                    exact W.zret (v := (1 : Int32)) hx hb hr (nar01 (by decide)) (fun t ht hW => ⟨⟨(1 : Int32), (1 : Int32), rfl, rfl, ⟨(by decide), (show hid ((1 : Int) = 1 → ((((1 ≤ x0_12.toInt ∧ x0_12.toInt ≤ 4) ∨ (8 ≤ x0_12.toInt ∧ x0_12.toInt ≤ 33) ∨ 56 ≤ x0_12.toInt) ∨ x0_12.toInt = 34 ∨ (38 ≤ x0_12.toInt ∧ x0_12.toInt ≤ 47)) → (0 ≤ x0_15.toInt ∧ x0_15.toInt ≤ 3999))) from by first | assumption | (unfold hid; omega)), (show hid ((1 : Int) = 1 → ((x0_12.toInt = 7 ∧ 0 < x0_13.toInt) → (0 ≤ x0_15.toInt ∧ x0_15.toInt + x0_13.toInt ≤ 4000 ∧ 0 ≤ rv y3 y4 ((1 : Int32)).toNatClampNeg ∧ rv y3 y4 ((1 : Int32)).toNatClampNeg + x0_13.toInt ≤ 4000))) from by first | assumption | (unfold hid; omega)), (show hid ((1 : Int) = 1 → ((x0_12.toInt = 36 ∨ x0_12.toInt = 37) → (0 ≤ x0_15.toInt ∧ x0_15.toInt ≤ 3900))) from by first | assumption | (unfold hid; omega)), by show va_P D classes _ t.heap; rw [ht]; exact hP, hD⟩⟩, hS.F ht⟩) hS.2.2 d_X_areAddresses_197
          · have gc14 : x0_12.toInt = (7 : Int) := c_eq c14
            have R42 : 7 ≤ x0_12.toInt ∧ x0_12.toInt ≤ 7 := rf_eqX R12 (show 7 ≤ (7 : Int) ∧ (7 : Int) ≤ 7 from by decide) gc14 (by decide) (by decide)
            refine lv_aload_n hx hb d_X_areAddresses_77 rfl (lv_at hl 0 rfl) ?_
            refine va_get (D := D) (ci := 7) (v := .int x0_13) (C := "SignMachineModel") (T := F_X) (N := 64) hx hb hk fi_X hown hK.1 hP 0 rfl rfl 13 (by decide) (hk _ k_1134) (fun _ h9 => h9) rfl d_X_areAddresses_78 ?_
            refine lv_if_le (tgt := 148) hx hb d_X_areAddresses_81 (by decide) (fun c43 => ?_) (fun c43 => ?_)
            · have gc43 : x0_13.toInt ≤ (0 : Int) := c_le c43
              have R44 : 0 ≤ x0_13.toInt ∧ x0_13.toInt ≤ 0 := rf_leX Rx0_13 (show 0 ≤ (0 : Int) ∧ (0 : Int) ≤ 0 from by decide) gc43 (by decide) (by decide)
              refine lv_aload_n hx hb d_X_areAddresses_148 rfl (lv_at hl 0 rfl) ?_
              refine va_get (D := D) (ci := 7) (v := .int x0_12) (C := "SignMachineModel") (T := F_X) (N := 64) hx hb hk fi_X hown hK.1 hP 0 rfl rfl 12 (by decide) (hk _ k_1133) (fun _ h9 => h9) rfl d_X_areAddresses_149 ?_
              refine lv_bipush (v := 36) hx hb d_X_areAddresses_152 (by decide) ?_
              refine lv_icmp_eq (tgt := 166) hx hb d_X_areAddresses_154 (by decide) (fun c45 => absurd c45 (show ¬ x0_12 = (36 : Int32) from (fun q9 => (knE R42 (show 36 ≤ (36 : Int) ∧ (36 : Int) ≤ 36 from by decide) (by decide)) (c_eq q9)))) (fun c45 => ?_)
              refine lv_aload_n hx hb d_X_areAddresses_157 rfl (lv_at hl 0 rfl) ?_
              refine va_get (D := D) (ci := 7) (v := .int x0_12) (C := "SignMachineModel") (T := F_X) (N := 64) hx hb hk fi_X hown hK.1 hP 0 rfl rfl 12 (by decide) (hk _ k_1133) (fun _ h9 => h9) rfl d_X_areAddresses_158 ?_
              refine lv_bipush (v := 37) hx hb d_X_areAddresses_161 (by decide) ?_
              refine lv_icmp_ne (tgt := 192) hx hb d_X_areAddresses_163 (by decide) (fun c46 => ?_) (fun c46 => absurd c46 (show ¬ x0_12 = (37 : Int32) from (fun q9 => (knE R42 (show 37 ≤ (37 : Int) ∧ (37 : Int) ≤ 37 from by decide) (by decide)) (c_eq q9))))
              refine lv_iconst (v := 1) hx hb d_X_areAddresses_192 (by decide) ?_
              refine lv_goto (tgt := 197) hx hb d_X_areAddresses_193 (by decide) ?_
              exact W.zret (v := (1 : Int32)) hx hb hr (nar01 (by decide)) (fun t ht hW => ⟨⟨(1 : Int32), (1 : Int32), rfl, rfl, ⟨(by decide), (show hid ((1 : Int) = 1 → ((((1 ≤ x0_12.toInt ∧ x0_12.toInt ≤ 4) ∨ (8 ≤ x0_12.toInt ∧ x0_12.toInt ≤ 33) ∨ 56 ≤ x0_12.toInt) ∨ x0_12.toInt = 34 ∨ (38 ≤ x0_12.toInt ∧ x0_12.toInt ≤ 47)) → (0 ≤ x0_15.toInt ∧ x0_15.toInt ≤ 3999))) from by first | assumption | (unfold hid; omega)), (show hid ((1 : Int) = 1 → ((x0_12.toInt = 7 ∧ 0 < x0_13.toInt) → (0 ≤ x0_15.toInt ∧ x0_15.toInt + x0_13.toInt ≤ 4000 ∧ 0 ≤ rv y3 y4 ((1 : Int32)).toNatClampNeg ∧ rv y3 y4 ((1 : Int32)).toNatClampNeg + x0_13.toInt ≤ 4000))) from by first | assumption | (unfold hid; omega)), (show hid ((1 : Int) = 1 → ((x0_12.toInt = 36 ∨ x0_12.toInt = 37) → (0 ≤ x0_15.toInt ∧ x0_15.toInt ≤ 3900))) from by first | assumption | (unfold hid; omega)), by show va_P D classes _ t.heap; rw [ht]; exact hP, hD⟩⟩, hS.F ht⟩) hS.2.2 d_X_areAddresses_197
            · have gc43 : (0 : Int) < x0_13.toInt := c_nle c43
              have R47 : 1 ≤ x0_13.toInt ∧ x0_13.toInt ≤ 63 := rf_gtX Rx0_13 (show 0 ≤ (0 : Int) ∧ (0 : Int) ≤ 0 from by decide) gc43 (by decide) (by decide)
              refine lv_aload_n hx hb d_X_areAddresses_84 rfl (lv_at hl 0 rfl) ?_
              refine lv_iconst (v := 1) hx hb d_X_areAddresses_85 (by decide) ?_
              refine sn_i (va_runV (C := "SignMachineModel") (As := [.int (1 : Int32)]) (rest := []) ⟨hx, hb, hml, hown, hk⟩ (c_X_indexValue l D cI cJ cZ cB p0 p1 p2 p3 p4 p5 p6 p7 p8 p9 p10 p11 p12 p13 p14 p15 p16 p17 p18 p19 p20 p21 p22 p23 p24 p25 s.heap.size x0_4 x0_5 x0_6 x0_7 x0_8 x0_12 x0_13 x0_14 x0_15 x0_16 x0_17 x0_18 x0_22 x0_23 x0_24 x0_25 x0_26 x0_27 x0_28 x0_29 x0_30 x0_31 x0_32 x0_36 x0_39 x0_40 x0_44 x0_49 x0_51 x0_53 x0_54 x0_55 x0_56 x0_57 x0_58 x0_59 x0_60 x0_61 x0_62 y1 y2 y3 y4 y5 y6 y7 y8 y9 y10 y11 y12 y13 y14 y15 y16 y17 y18 y19 y20 y21 y22 y23 y24 y25 (1 : Int32) Ay3 Ay4 (by decide)) (v_X_indexValue hk k_1400 ⟨Nat.le_of_ble_eq_true rfl, Nat.le_of_ble_eq_true rfl⟩) (pM_v hK hP hD (ci := 7) (q0 := 0) rfl rfl rfl) rfl rfl hl.1 rfl (lv_room (Nat.le_of_ble_eq_true rfl)) d_X_areAddresses_86 ⟨Nat.le_of_ble_eq_true rfl, Nat.le_of_ble_eq_true rfl⟩) hS hA hD (fun rz48 u t H locs hr0 ht hB hFr hS => ?_)
              subst hr0
              obtain ⟨F0z48, F1z48, F2z48, hP, hD⟩ := hB
              have F0z48 : (-1073741823) ≤ rz48.toInt ∧ rz48.toInt ≤ 1073741823 := F0z48
              have F1z48 : rz48.toInt = rv y3 y4 ((1 : Int32)).toNatClampNeg := F1z48
              have F2z48 : (1 ≤ (1 : Int) ∧ (1 : Int) ≤ 6) → (-4095 ≤ rz48.toInt ∧ rz48.toInt ≤ 4095) := F2z48
              rw [ht] at hP
              have hD := dwk hD hFr
              clear ht hFr
              have hP : va_P D classes (wS50 cI cJ cZ cB p0 p1 p2 p3 p4 p5 p6 p7 p8 p9 p10 p11 p12 p13 p14 p15 p16 p17 p18 p19 p20 p21 p22 p23 p24 p25 x0_4 x0_5 x0_6 x0_7 x0_8 x0_12 x0_13 x0_14 x0_15 x0_16 x0_17 x0_18 x0_22 x0_23 x0_24 x0_25 x0_26 x0_27 x0_28 x0_29 x0_30 x0_31 x0_32 x0_36 x0_39 x0_40 x0_44 x0_49 x0_51 x0_53 x0_54 x0_55 x0_56 x0_57 x0_58 x0_59 x0_60 x0_61 x0_62 y1 y2 y3 y4 y5 y6 y7 y8 y9 y10 y11 y12 y13 y14 y15 y16 y17 y18 y19 y20 y21 y22 y23 y24 y25) H := hP
              have hD : va_D A (wS50 cI cJ cZ cB p0 p1 p2 p3 p4 p5 p6 p7 p8 p9 p10 p11 p12 p13 p14 p15 p16 p17 p18 p19 p20 p21 p22 p23 p24 p25 x0_4 x0_5 x0_6 x0_7 x0_8 x0_12 x0_13 x0_14 x0_15 x0_16 x0_17 x0_18 x0_22 x0_23 x0_24 x0_25 x0_26 x0_27 x0_28 x0_29 x0_30 x0_31 x0_32 x0_36 x0_39 x0_40 x0_44 x0_49 x0_51 x0_53 x0_54 x0_55 x0_56 x0_57 x0_58 x0_59 x0_60 x0_61 x0_62 y1 y2 y3 y4 y5 y6 y7 y8 y9 y10 y11 y12 y13 y14 y15 y16 y17 y18 y19 y20 y21 y22 y23 y24 y25) := hD
              refine lv_istore_n (lv' := [(1, .int rz48), (0, .ref p0)]) hx hb d_X_areAddresses_89 rfl hl (by decide) rfl (fun ls hl => ?_)
              refine lv_aload_n hx hb d_X_areAddresses_90 rfl (lv_at hl 1 rfl) ?_
              refine va_get (D := D) (ci := 7) (v := .int x0_15) (C := "SignMachineModel") (T := F_X) (N := 64) hx hb hk fi_X hown hK.1 hP 0 rfl rfl 15 (by decide) (hk _ k_1136) (fun _ h9 => h9) rfl d_X_areAddresses_91 ?_
              refine lv_i2l (v := (x0_15 : Int32).toInt64) hx hb d_X_areAddresses_94 rfl ?_
              refine lv_topl (fun v49 hv49 => ?_)
              obtain ⟨ev49, Rv49⟩ : v49.toInt = x0_15.toInt ∧ ((-8190) ≤ v49.toInt ∧ v49.toInt ≤ 8190) := il3 hv49 Rx0_15
              refine vp_callSi (W.runS (As := [.long v49]) (rest := []) ⟨hx, hb, hml, hown, hk⟩ (c_X_isWord l v49 ) (s_X_isWord hk k_1396 ⟨Nat.le_of_ble_eq_true rfl, Nat.le_of_ble_eq_true rfl⟩) ⟨fun a U g mk q => q, fun U hU hW => ⟨rfl, trivial⟩⟩ rfl rfl hl.1 rfl (lv_room (Nat.le_of_ble_eq_true rfl)) d_X_areAddresses_95 ⟨Nat.le_of_ble_eq_true rfl, Nat.le_of_ble_eq_true rfl⟩) (fun rz50 hrz50 => ?_)
              obtain ⟨F0z50, F1z50, F2z50⟩ := hrz50
              have F0z50 : 0 ≤ rz50.toInt ∧ rz50.toInt ≤ 1 := F0z50
              have F1z50 : rz50.toInt = 1 → (0 ≤ v49.toInt ∧ v49.toInt ≤ 3999) := F1z50
              have F2z50 : rz50.toInt = 0 → (v49.toInt < 0 ∨ 3999 < v49.toInt) := F2z50
              refine lv_if_eq (tgt := 146) hx hb d_X_areAddresses_98 (by decide) (fun c51 => ?_) (fun c51 => ?_)
              · have gc51 : rz50.toInt = (0 : Int) := c_eq c51
                have R52 : 0 ≤ rz50.toInt ∧ rz50.toInt ≤ 0 := rf_eqX F0z50 (show 0 ≤ (0 : Int) ∧ (0 : Int) ≤ 0 from by decide) gc51 (by decide) (by decide)
                refine lv_iconst (v := 0) hx hb d_X_areAddresses_146 (by decide) ?_
                exact W.zret (v := (0 : Int32)) hx hb hr (nar01 (by decide)) (fun t ht hW => ⟨⟨(0 : Int32), (0 : Int32), rfl, rfl, ⟨(by decide), (show hid ((0 : Int) = 1 → ((((1 ≤ x0_12.toInt ∧ x0_12.toInt ≤ 4) ∨ (8 ≤ x0_12.toInt ∧ x0_12.toInt ≤ 33) ∨ 56 ≤ x0_12.toInt) ∨ x0_12.toInt = 34 ∨ (38 ≤ x0_12.toInt ∧ x0_12.toInt ≤ 47)) → (0 ≤ x0_15.toInt ∧ x0_15.toInt ≤ 3999))) from by first | assumption | (unfold hid; omega)), (show hid ((0 : Int) = 1 → ((x0_12.toInt = 7 ∧ 0 < x0_13.toInt) → (0 ≤ x0_15.toInt ∧ x0_15.toInt + x0_13.toInt ≤ 4000 ∧ 0 ≤ rv y3 y4 ((1 : Int32)).toNatClampNeg ∧ rv y3 y4 ((1 : Int32)).toNatClampNeg + x0_13.toInt ≤ 4000))) from by first | assumption | (unfold hid; omega)), (show hid ((0 : Int) = 1 → ((x0_12.toInt = 36 ∨ x0_12.toInt = 37) → (0 ≤ x0_15.toInt ∧ x0_15.toInt ≤ 3900))) from by first | assumption | (unfold hid; omega)), by show va_P D classes _ t.heap; rw [ht]; exact hP, hD⟩⟩, hS.F ht⟩) hS.2.2 d_X_areAddresses_147
              · have gc51 : rz50.toInt ≠ (0 : Int) := c_ne c51
                have R53 : 1 ≤ rz50.toInt ∧ rz50.toInt ≤ 1 := rf_neX F0z50 (show 0 ≤ (0 : Int) ∧ (0 : Int) ≤ 0 from by decide) gc51 (by decide) (by decide)
                refine lv_aload_n hx hb d_X_areAddresses_101 rfl (lv_at hl 1 rfl) ?_
                refine va_get (D := D) (ci := 7) (v := .int x0_15) (C := "SignMachineModel") (T := F_X) (N := 64) hx hb hk fi_X hown hK.1 hP 0 rfl rfl 15 (by decide) (hk _ k_1136) (fun _ h9 => h9) rfl d_X_areAddresses_102 ?_
                refine lv_aload_n hx hb d_X_areAddresses_105 rfl (lv_at hl 1 rfl) ?_
                refine va_get (D := D) (ci := 7) (v := .int x0_13) (C := "SignMachineModel") (T := F_X) (N := 64) hx hb hk fi_X hown hK.1 hP 0 rfl rfl 13 (by decide) (hk _ k_1134) (fun _ h9 => h9) rfl d_X_areAddresses_106 ?_
                refine lv_iadd hx hb d_X_areAddresses_109 ?_
                refine lv_topi (fun v54 hv54 => ?_)
                obtain ⟨ev54, Rv54⟩ : v54.toInt = x0_15.toInt + x0_13.toInt ∧ ((-8189) ≤ v54.toInt ∧ v54.toInt ≤ 8253) := ad3 hv54 Rx0_15 R47 (by decide) (by decide) (by decide) (by decide)
                refine lv_i2l (v := (v54 : Int32).toInt64) hx hb d_X_areAddresses_110 rfl ?_
                refine lv_topl (fun v55 hv55 => ?_)
                obtain ⟨ev55, Rv55⟩ : v55.toInt = v54.toInt ∧ ((-8189) ≤ v55.toInt ∧ v55.toInt ≤ 8253) := il3 hv55 Rv54
                refine lv_lconst (v := 1) hx hb d_X_areAddresses_111 (by decide) ?_
                refine lv_lsub hx hb d_X_areAddresses_112 ?_
                refine lv_topl (fun v56 hv56 => ?_)
                obtain ⟨ev56, Rv56⟩ : v56.toInt = v55.toInt - (1 : Int) ∧ ((-8190) ≤ v56.toInt ∧ v56.toInt ≤ 8252) := sb6 hv56 Rv55 (show 1 ≤ (1 : Int64).toInt ∧ (1 : Int64).toInt ≤ 1 from by decide) (by decide) (by decide) (by decide) (by decide)
                refine vp_callSi (W.runS (As := [.long v56]) (rest := []) ⟨hx, hb, hml, hown, hk⟩ (c_X_isWord l v56 ) (s_X_isWord hk k_1396 ⟨Nat.le_of_ble_eq_true rfl, Nat.le_of_ble_eq_true rfl⟩) ⟨fun a U g mk q => q, fun U hU hW => ⟨rfl, trivial⟩⟩ rfl rfl hl.1 rfl (lv_room (Nat.le_of_ble_eq_true rfl)) d_X_areAddresses_113 ⟨Nat.le_of_ble_eq_true rfl, Nat.le_of_ble_eq_true rfl⟩) (fun rz57 hrz57 => ?_)
                obtain ⟨F0z57, F1z57, F2z57⟩ := hrz57
                have F0z57 : 0 ≤ rz57.toInt ∧ rz57.toInt ≤ 1 := F0z57
                have F1z57 : rz57.toInt = 1 → (0 ≤ v56.toInt ∧ v56.toInt ≤ 3999) := F1z57
                have F2z57 : rz57.toInt = 0 → (v56.toInt < 0 ∨ 3999 < v56.toInt) := F2z57
                refine lv_if_eq (tgt := 146) hx hb d_X_areAddresses_116 (by decide) (fun c58 => ?_) (fun c58 => ?_)
                · have gc58 : rz57.toInt = (0 : Int) := c_eq c58
                  have R59 : 0 ≤ rz57.toInt ∧ rz57.toInt ≤ 0 := rf_eqX F0z57 (show 0 ≤ (0 : Int) ∧ (0 : Int) ≤ 0 from by decide) gc58 (by decide) (by decide)
                  refine lv_iconst (v := 0) hx hb d_X_areAddresses_146 (by decide) ?_
                  exact W.zret (v := (0 : Int32)) hx hb hr (nar01 (by decide)) (fun t ht hW => ⟨⟨(0 : Int32), (0 : Int32), rfl, rfl, ⟨(by decide), (show hid ((0 : Int) = 1 → ((((1 ≤ x0_12.toInt ∧ x0_12.toInt ≤ 4) ∨ (8 ≤ x0_12.toInt ∧ x0_12.toInt ≤ 33) ∨ 56 ≤ x0_12.toInt) ∨ x0_12.toInt = 34 ∨ (38 ≤ x0_12.toInt ∧ x0_12.toInt ≤ 47)) → (0 ≤ x0_15.toInt ∧ x0_15.toInt ≤ 3999))) from by first | assumption | (unfold hid; omega)), (show hid ((0 : Int) = 1 → ((x0_12.toInt = 7 ∧ 0 < x0_13.toInt) → (0 ≤ x0_15.toInt ∧ x0_15.toInt + x0_13.toInt ≤ 4000 ∧ 0 ≤ rv y3 y4 ((1 : Int32)).toNatClampNeg ∧ rv y3 y4 ((1 : Int32)).toNatClampNeg + x0_13.toInt ≤ 4000))) from by first | assumption | (unfold hid; omega)), (show hid ((0 : Int) = 1 → ((x0_12.toInt = 36 ∨ x0_12.toInt = 37) → (0 ≤ x0_15.toInt ∧ x0_15.toInt ≤ 3900))) from by first | assumption | (unfold hid; omega)), by show va_P D classes _ t.heap; rw [ht]; exact hP, hD⟩⟩, hS.F ht⟩) hS.2.2 d_X_areAddresses_147
                · have gc58 : rz57.toInt ≠ (0 : Int) := c_ne c58
                  have R60 : 1 ≤ rz57.toInt ∧ rz57.toInt ≤ 1 := rf_neX F0z57 (show 0 ≤ (0 : Int) ∧ (0 : Int) ≤ 0 from by decide) gc58 (by decide) (by decide)
                  refine lv_iload_n hx hb d_X_areAddresses_119 rfl (lv_at hl 0 rfl) ?_
                  refine lv_i2l (v := (rz48 : Int32).toInt64) hx hb d_X_areAddresses_120 rfl ?_
                  refine lv_topl (fun v61 hv61 => ?_)
                  obtain ⟨ev61, Rv61⟩ : v61.toInt = rz48.toInt ∧ ((-1073741823) ≤ v61.toInt ∧ v61.toInt ≤ 1073741823) := il3 hv61 F0z48
                  refine vp_callSi (W.runS (As := [.long v61]) (rest := []) ⟨hx, hb, hml, hown, hk⟩ (c_X_isWord l v61 ) (s_X_isWord hk k_1396 ⟨Nat.le_of_ble_eq_true rfl, Nat.le_of_ble_eq_true rfl⟩) ⟨fun a U g mk q => q, fun U hU hW => ⟨rfl, trivial⟩⟩ rfl rfl hl.1 rfl (lv_room (Nat.le_of_ble_eq_true rfl)) d_X_areAddresses_121 ⟨Nat.le_of_ble_eq_true rfl, Nat.le_of_ble_eq_true rfl⟩) (fun rz62 hrz62 => ?_)
                  obtain ⟨F0z62, F1z62, F2z62⟩ := hrz62
                  have F0z62 : 0 ≤ rz62.toInt ∧ rz62.toInt ≤ 1 := F0z62
                  have F1z62 : rz62.toInt = 1 → (0 ≤ v61.toInt ∧ v61.toInt ≤ 3999) := F1z62
                  have F2z62 : rz62.toInt = 0 → (v61.toInt < 0 ∨ 3999 < v61.toInt) := F2z62
                  refine lv_if_eq (tgt := 146) hx hb d_X_areAddresses_124 (by decide) (fun c63 => ?_) (fun c63 => ?_)
                  · have gc63 : rz62.toInt = (0 : Int) := c_eq c63
                    have R64 : 0 ≤ rz62.toInt ∧ rz62.toInt ≤ 0 := rf_eqX F0z62 (show 0 ≤ (0 : Int) ∧ (0 : Int) ≤ 0 from by decide) gc63 (by decide) (by decide)
                    refine lv_iconst (v := 0) hx hb d_X_areAddresses_146 (by decide) ?_
                    exact W.zret (v := (0 : Int32)) hx hb hr (nar01 (by decide)) (fun t ht hW => ⟨⟨(0 : Int32), (0 : Int32), rfl, rfl, ⟨(by decide), (show hid ((0 : Int) = 1 → ((((1 ≤ x0_12.toInt ∧ x0_12.toInt ≤ 4) ∨ (8 ≤ x0_12.toInt ∧ x0_12.toInt ≤ 33) ∨ 56 ≤ x0_12.toInt) ∨ x0_12.toInt = 34 ∨ (38 ≤ x0_12.toInt ∧ x0_12.toInt ≤ 47)) → (0 ≤ x0_15.toInt ∧ x0_15.toInt ≤ 3999))) from by first | assumption | (unfold hid; omega)), (show hid ((0 : Int) = 1 → ((x0_12.toInt = 7 ∧ 0 < x0_13.toInt) → (0 ≤ x0_15.toInt ∧ x0_15.toInt + x0_13.toInt ≤ 4000 ∧ 0 ≤ rv y3 y4 ((1 : Int32)).toNatClampNeg ∧ rv y3 y4 ((1 : Int32)).toNatClampNeg + x0_13.toInt ≤ 4000))) from by first | assumption | (unfold hid; omega)), (show hid ((0 : Int) = 1 → ((x0_12.toInt = 36 ∨ x0_12.toInt = 37) → (0 ≤ x0_15.toInt ∧ x0_15.toInt ≤ 3900))) from by first | assumption | (unfold hid; omega)), by show va_P D classes _ t.heap; rw [ht]; exact hP, hD⟩⟩, hS.F ht⟩) hS.2.2 d_X_areAddresses_147
                  · have gc63 : rz62.toInt ≠ (0 : Int) := c_ne c63
                    have R65 : 1 ≤ rz62.toInt ∧ rz62.toInt ≤ 1 := rf_neX F0z62 (show 0 ≤ (0 : Int) ∧ (0 : Int) ≤ 0 from by decide) gc63 (by decide) (by decide)
                    refine lv_iload_n hx hb d_X_areAddresses_127 rfl (lv_at hl 0 rfl) ?_
                    refine lv_aload_n hx hb d_X_areAddresses_128 rfl (lv_at hl 1 rfl) ?_
                    refine va_get (D := D) (ci := 7) (v := .int x0_13) (C := "SignMachineModel") (T := F_X) (N := 64) hx hb hk fi_X hown hK.1 hP 0 rfl rfl 13 (by decide) (hk _ k_1134) (fun _ h9 => h9) rfl d_X_areAddresses_129 ?_
                    refine lv_iadd hx hb d_X_areAddresses_132 ?_
                    refine lv_topi (fun v66 hv66 => ?_)
                    obtain ⟨ev66, Rv66⟩ : v66.toInt = rz48.toInt + x0_13.toInt ∧ ((-1073741822) ≤ v66.toInt ∧ v66.toInt ≤ 1073741886) := ad3 hv66 F0z48 R47 (by decide) (by decide) (by decide) (by decide)
                    refine lv_i2l (v := (v66 : Int32).toInt64) hx hb d_X_areAddresses_133 rfl ?_
                    refine lv_topl (fun v67 hv67 => ?_)
                    obtain ⟨ev67, Rv67⟩ : v67.toInt = v66.toInt ∧ ((-1073741822) ≤ v67.toInt ∧ v67.toInt ≤ 1073741886) := il3 hv67 Rv66
                    refine lv_lconst (v := 1) hx hb d_X_areAddresses_134 (by decide) ?_
                    refine lv_lsub hx hb d_X_areAddresses_135 ?_
                    refine lv_topl (fun v68 hv68 => ?_)
                    obtain ⟨ev68, Rv68⟩ : v68.toInt = v67.toInt - (1 : Int) ∧ ((-1073741823) ≤ v68.toInt ∧ v68.toInt ≤ 1073741885) := sb6 hv68 Rv67 (show 1 ≤ (1 : Int64).toInt ∧ (1 : Int64).toInt ≤ 1 from by decide) (by decide) (by decide) (by decide) (by decide)
                    refine vp_callSi (W.runS (As := [.long v68]) (rest := []) ⟨hx, hb, hml, hown, hk⟩ (c_X_isWord l v68 ) (s_X_isWord hk k_1396 ⟨Nat.le_of_ble_eq_true rfl, Nat.le_of_ble_eq_true rfl⟩) ⟨fun a U g mk q => q, fun U hU hW => ⟨rfl, trivial⟩⟩ rfl rfl hl.1 rfl (lv_room (Nat.le_of_ble_eq_true rfl)) d_X_areAddresses_136 ⟨Nat.le_of_ble_eq_true rfl, Nat.le_of_ble_eq_true rfl⟩) (fun rz69 hrz69 => ?_)
                    obtain ⟨F0z69, F1z69, F2z69⟩ := hrz69
                    have F0z69 : 0 ≤ rz69.toInt ∧ rz69.toInt ≤ 1 := F0z69
                    have F1z69 : rz69.toInt = 1 → (0 ≤ v68.toInt ∧ v68.toInt ≤ 3999) := F1z69
                    have F2z69 : rz69.toInt = 0 → (v68.toInt < 0 ∨ 3999 < v68.toInt) := F2z69
                    refine lv_if_eq (tgt := 146) hx hb d_X_areAddresses_139 (by decide) (fun c70 => ?_) (fun c70 => ?_)
                    · have gc70 : rz69.toInt = (0 : Int) := c_eq c70
                      have R71 : 0 ≤ rz69.toInt ∧ rz69.toInt ≤ 0 := rf_eqX F0z69 (show 0 ≤ (0 : Int) ∧ (0 : Int) ≤ 0 from by decide) gc70 (by decide) (by decide)
                      refine lv_iconst (v := 0) hx hb d_X_areAddresses_146 (by decide) ?_
                      exact W.zret (v := (0 : Int32)) hx hb hr (nar01 (by decide)) (fun t ht hW => ⟨⟨(0 : Int32), (0 : Int32), rfl, rfl, ⟨(by decide), (show hid ((0 : Int) = 1 → ((((1 ≤ x0_12.toInt ∧ x0_12.toInt ≤ 4) ∨ (8 ≤ x0_12.toInt ∧ x0_12.toInt ≤ 33) ∨ 56 ≤ x0_12.toInt) ∨ x0_12.toInt = 34 ∨ (38 ≤ x0_12.toInt ∧ x0_12.toInt ≤ 47)) → (0 ≤ x0_15.toInt ∧ x0_15.toInt ≤ 3999))) from by first | assumption | (unfold hid; omega)), (show hid ((0 : Int) = 1 → ((x0_12.toInt = 7 ∧ 0 < x0_13.toInt) → (0 ≤ x0_15.toInt ∧ x0_15.toInt + x0_13.toInt ≤ 4000 ∧ 0 ≤ rv y3 y4 ((1 : Int32)).toNatClampNeg ∧ rv y3 y4 ((1 : Int32)).toNatClampNeg + x0_13.toInt ≤ 4000))) from by first | assumption | (unfold hid; omega)), (show hid ((0 : Int) = 1 → ((x0_12.toInt = 36 ∨ x0_12.toInt = 37) → (0 ≤ x0_15.toInt ∧ x0_15.toInt ≤ 3900))) from by first | assumption | (unfold hid; omega)), by show va_P D classes _ t.heap; rw [ht]; exact hP, hD⟩⟩, hS.F ht⟩) hS.2.2 d_X_areAddresses_147
                    · have gc70 : rz69.toInt ≠ (0 : Int) := c_ne c70
                      have R72 : 1 ≤ rz69.toInt ∧ rz69.toInt ≤ 1 := rf_neX F0z69 (show 0 ≤ (0 : Int) ∧ (0 : Int) ≤ 0 from by decide) gc70 (by decide) (by decide)
                      refine lv_iconst (v := 1) hx hb d_X_areAddresses_142 (by decide) ?_
                      refine lv_goto (tgt := 147) hx hb d_X_areAddresses_143 (by decide) ?_
                      exact W.zret (v := (1 : Int32)) hx hb hr (nar01 (by decide)) (fun t ht hW => ⟨⟨(1 : Int32), (1 : Int32), rfl, rfl, ⟨(by decide), (show hid ((1 : Int) = 1 → ((((1 ≤ x0_12.toInt ∧ x0_12.toInt ≤ 4) ∨ (8 ≤ x0_12.toInt ∧ x0_12.toInt ≤ 33) ∨ 56 ≤ x0_12.toInt) ∨ x0_12.toInt = 34 ∨ (38 ≤ x0_12.toInt ∧ x0_12.toInt ≤ 47)) → (0 ≤ x0_15.toInt ∧ x0_15.toInt ≤ 3999))) from by first | assumption | (unfold hid; omega)), (show hid ((1 : Int) = 1 → ((x0_12.toInt = 7 ∧ 0 < x0_13.toInt) → (0 ≤ x0_15.toInt ∧ x0_15.toInt + x0_13.toInt ≤ 4000 ∧ 0 ≤ rv y3 y4 ((1 : Int32)).toNatClampNeg ∧ rv y3 y4 ((1 : Int32)).toNatClampNeg + x0_13.toInt ≤ 4000))) from by first | assumption | (unfold hid; omega)), (show hid ((1 : Int) = 1 → ((x0_12.toInt = 36 ∨ x0_12.toInt = 37) → (0 ≤ x0_15.toInt ∧ x0_15.toInt ≤ 3900))) from by first | assumption | (unfold hid; omega)), by show va_P D classes _ t.heap; rw [ht]; exact hP, hD⟩⟩, hS.F ht⟩) hS.2.2 d_X_areAddresses_147
        · have gc13 : x0_12.toInt = (6 : Int) := c_eq c13
          have R73 : 6 ≤ x0_12.toInt ∧ x0_12.toInt ≤ 6 := rf_eqX R12 (show 6 ≤ (6 : Int) ∧ (6 : Int) ≤ 6 from by decide) gc13 (by decide) (by decide)
          refine lv_aload_n hx hb d_X_areAddresses_55 rfl (lv_at hl 0 rfl) ?_
          refine va_get (D := D) (ci := 7) (v := .int x0_15) (C := "SignMachineModel") (T := F_X) (N := 64) hx hb hk fi_X hown hK.1 hP 0 rfl rfl 15 (by decide) (hk _ k_1136) (fun _ h9 => h9) rfl d_X_areAddresses_56 ?_
          refine lv_if_lt (tgt := 66) hx hb d_X_areAddresses_59 (by decide) (fun c74 => ?_) (fun c74 => ?_)
          · have gc74 : x0_15.toInt < (0 : Int) := c_lt c74
            have R75 : (-8190) ≤ x0_15.toInt ∧ x0_15.toInt ≤ (-1) := rf_ltX Rx0_15 (show 0 ≤ (0 : Int) ∧ (0 : Int) ≤ 0 from by decide) gc74 (by decide) (by decide)
            refine lv_iconst (v := 0) hx hb d_X_areAddresses_66 (by decide) ?_
            exact W.zret (v := (0 : Int32)) hx hb hr (nar01 (by decide)) (fun t ht hW => ⟨⟨(0 : Int32), (0 : Int32), rfl, rfl, ⟨(by decide), (show hid ((0 : Int) = 1 → ((((1 ≤ x0_12.toInt ∧ x0_12.toInt ≤ 4) ∨ (8 ≤ x0_12.toInt ∧ x0_12.toInt ≤ 33) ∨ 56 ≤ x0_12.toInt) ∨ x0_12.toInt = 34 ∨ (38 ≤ x0_12.toInt ∧ x0_12.toInt ≤ 47)) → (0 ≤ x0_15.toInt ∧ x0_15.toInt ≤ 3999))) from by first | assumption | (unfold hid; omega)), (show hid ((0 : Int) = 1 → ((x0_12.toInt = 7 ∧ 0 < x0_13.toInt) → (0 ≤ x0_15.toInt ∧ x0_15.toInt + x0_13.toInt ≤ 4000 ∧ 0 ≤ rv y3 y4 ((1 : Int32)).toNatClampNeg ∧ rv y3 y4 ((1 : Int32)).toNatClampNeg + x0_13.toInt ≤ 4000))) from by first | assumption | (unfold hid; omega)), (show hid ((0 : Int) = 1 → ((x0_12.toInt = 36 ∨ x0_12.toInt = 37) → (0 ≤ x0_15.toInt ∧ x0_15.toInt ≤ 3900))) from by first | assumption | (unfold hid; omega)), by show va_P D classes _ t.heap; rw [ht]; exact hP, hD⟩⟩, hS.F ht⟩) hS.2.2 d_X_areAddresses_67
          · have gc74 : (0 : Int) ≤ x0_15.toInt := c_nlt c74
            have R76 : 0 ≤ x0_15.toInt ∧ x0_15.toInt ≤ 8190 := rf_geX Rx0_15 (show 0 ≤ (0 : Int) ∧ (0 : Int) ≤ 0 from by decide) gc74 (by decide) (by decide)
            refine lv_iconst (v := 1) hx hb d_X_areAddresses_62 (by decide) ?_
            refine lv_goto (tgt := 67) hx hb d_X_areAddresses_63 (by decide) ?_
            exact W.zret (v := (1 : Int32)) hx hb hr (nar01 (by decide)) (fun t ht hW => ⟨⟨(1 : Int32), (1 : Int32), rfl, rfl, ⟨(by decide), (show hid ((1 : Int) = 1 → ((((1 ≤ x0_12.toInt ∧ x0_12.toInt ≤ 4) ∨ (8 ≤ x0_12.toInt ∧ x0_12.toInt ≤ 33) ∨ 56 ≤ x0_12.toInt) ∨ x0_12.toInt = 34 ∨ (38 ≤ x0_12.toInt ∧ x0_12.toInt ≤ 47)) → (0 ≤ x0_15.toInt ∧ x0_15.toInt ≤ 3999))) from by first | assumption | (unfold hid; omega)), (show hid ((1 : Int) = 1 → ((x0_12.toInt = 7 ∧ 0 < x0_13.toInt) → (0 ≤ x0_15.toInt ∧ x0_15.toInt + x0_13.toInt ≤ 4000 ∧ 0 ≤ rv y3 y4 ((1 : Int32)).toNatClampNeg ∧ rv y3 y4 ((1 : Int32)).toNatClampNeg + x0_13.toInt ≤ 4000))) from by first | assumption | (unfold hid; omega)), (show hid ((1 : Int) = 1 → ((x0_12.toInt = 36 ∨ x0_12.toInt = 37) → (0 ≤ x0_15.toInt ∧ x0_15.toInt ≤ 3900))) from by first | assumption | (unfold hid; omega)), by show va_P D classes _ t.heap; rw [ht]; exact hP, hD⟩⟩, hS.F ht⟩) hS.2.2 d_X_areAddresses_67
      · have gc11 : (38 : Int) ≤ x0_12.toInt := c_nlt c11
        have R77 : 38 ≤ x0_12.toInt ∧ x0_12.toInt ≤ 63 := rf_geX Rx0_12 (show 38 ≤ (38 : Int) ∧ (38 : Int) ≤ 38 from by decide) gc11 (by decide) (by decide)
        refine lv_aload_n hx hb d_X_areAddresses_28 rfl (lv_at hl 0 rfl) ?_
        refine va_get (D := D) (ci := 7) (v := .int x0_12) (C := "SignMachineModel") (T := F_X) (N := 64) hx hb hk fi_X hown hK.1 hP 0 rfl rfl 12 (by decide) (hk _ k_1133) (fun _ h9 => h9) rfl d_X_areAddresses_29 ?_
        refine lv_bipush (v := 47) hx hb d_X_areAddresses_32 (by decide) ?_
        refine lv_icmp_gt (tgt := 46) hx hb d_X_areAddresses_34 (by decide) (fun c78 => ?_) (fun c78 => ?_)
        · have gc78 : (47 : Int) < x0_12.toInt := c_lt c78
          have R79 : 48 ≤ x0_12.toInt ∧ x0_12.toInt ≤ 63 := rf_gtX R77 (show 47 ≤ (47 : Int) ∧ (47 : Int) ≤ 47 from by decide) gc78 (by decide) (by decide)
          refine lv_aload_n hx hb d_X_areAddresses_46 rfl (lv_at hl 0 rfl) ?_
          refine va_get (D := D) (ci := 7) (v := .int x0_12) (C := "SignMachineModel") (T := F_X) (N := 64) hx hb hk fi_X hown hK.1 hP 0 rfl rfl 12 (by decide) (hk _ k_1133) (fun _ h9 => h9) rfl d_X_areAddresses_47 ?_
          refine lv_bipush (v := 6) hx hb d_X_areAddresses_50 (by decide) ?_
          refine lv_icmp_ne (tgt := 68) hx hb d_X_areAddresses_52 (by decide) (fun c80 => ?_) (fun c80 => absurd c80 (show ¬ x0_12 = (6 : Int32) from (fun q9 => (knE R79 (show 6 ≤ (6 : Int) ∧ (6 : Int) ≤ 6 from by decide) (by decide)) (c_eq q9))))
          refine lv_aload_n hx hb d_X_areAddresses_68 rfl (lv_at hl 0 rfl) ?_
          refine va_get (D := D) (ci := 7) (v := .int x0_12) (C := "SignMachineModel") (T := F_X) (N := 64) hx hb hk fi_X hown hK.1 hP 0 rfl rfl 12 (by decide) (hk _ k_1133) (fun _ h9 => h9) rfl d_X_areAddresses_69 ?_
          refine lv_bipush (v := 7) hx hb d_X_areAddresses_72 (by decide) ?_
          refine lv_icmp_ne (tgt := 148) hx hb d_X_areAddresses_74 (by decide) (fun c81 => ?_) (fun c81 => absurd c81 (show ¬ x0_12 = (7 : Int32) from (fun q9 => (knE R79 (show 7 ≤ (7 : Int) ∧ (7 : Int) ≤ 7 from by decide) (by decide)) (c_eq q9))))
          refine lv_aload_n hx hb d_X_areAddresses_148 rfl (lv_at hl 0 rfl) ?_
          refine va_get (D := D) (ci := 7) (v := .int x0_12) (C := "SignMachineModel") (T := F_X) (N := 64) hx hb hk fi_X hown hK.1 hP 0 rfl rfl 12 (by decide) (hk _ k_1133) (fun _ h9 => h9) rfl d_X_areAddresses_149 ?_
          refine lv_bipush (v := 36) hx hb d_X_areAddresses_152 (by decide) ?_
          refine lv_icmp_eq (tgt := 166) hx hb d_X_areAddresses_154 (by decide) (fun c82 => absurd c82 (show ¬ x0_12 = (36 : Int32) from (fun q9 => (knE R79 (show 36 ≤ (36 : Int) ∧ (36 : Int) ≤ 36 from by decide) (by decide)) (c_eq q9)))) (fun c82 => ?_)
          refine lv_aload_n hx hb d_X_areAddresses_157 rfl (lv_at hl 0 rfl) ?_
          refine va_get (D := D) (ci := 7) (v := .int x0_12) (C := "SignMachineModel") (T := F_X) (N := 64) hx hb hk fi_X hown hK.1 hP 0 rfl rfl 12 (by decide) (hk _ k_1133) (fun _ h9 => h9) rfl d_X_areAddresses_158 ?_
          refine lv_bipush (v := 37) hx hb d_X_areAddresses_161 (by decide) ?_
          refine lv_icmp_ne (tgt := 192) hx hb d_X_areAddresses_163 (by decide) (fun c83 => ?_) (fun c83 => absurd c83 (show ¬ x0_12 = (37 : Int32) from (fun q9 => (knE R79 (show 37 ≤ (37 : Int) ∧ (37 : Int) ≤ 37 from by decide) (by decide)) (c_eq q9))))
          refine lv_iconst (v := 1) hx hb d_X_areAddresses_192 (by decide) ?_
          refine lv_goto (tgt := 197) hx hb d_X_areAddresses_193 (by decide) ?_
          exact W.zret (v := (1 : Int32)) hx hb hr (nar01 (by decide)) (fun t ht hW => ⟨⟨(1 : Int32), (1 : Int32), rfl, rfl, ⟨(by decide), (show hid ((1 : Int) = 1 → ((((1 ≤ x0_12.toInt ∧ x0_12.toInt ≤ 4) ∨ (8 ≤ x0_12.toInt ∧ x0_12.toInt ≤ 33) ∨ 56 ≤ x0_12.toInt) ∨ x0_12.toInt = 34 ∨ (38 ≤ x0_12.toInt ∧ x0_12.toInt ≤ 47)) → (0 ≤ x0_15.toInt ∧ x0_15.toInt ≤ 3999))) from by first | assumption | (unfold hid; omega)), (show hid ((1 : Int) = 1 → ((x0_12.toInt = 7 ∧ 0 < x0_13.toInt) → (0 ≤ x0_15.toInt ∧ x0_15.toInt + x0_13.toInt ≤ 4000 ∧ 0 ≤ rv y3 y4 ((1 : Int32)).toNatClampNeg ∧ rv y3 y4 ((1 : Int32)).toNatClampNeg + x0_13.toInt ≤ 4000))) from by first | assumption | (unfold hid; omega)), (show hid ((1 : Int) = 1 → ((x0_12.toInt = 36 ∨ x0_12.toInt = 37) → (0 ≤ x0_15.toInt ∧ x0_15.toInt ≤ 3900))) from by first | assumption | (unfold hid; omega)), by show va_P D classes _ t.heap; rw [ht]; exact hP, hD⟩⟩, hS.F ht⟩) hS.2.2 d_X_areAddresses_197
        · have gc78 : x0_12.toInt ≤ (47 : Int) := c_nlt c78
          have R84 : 38 ≤ x0_12.toInt ∧ x0_12.toInt ≤ 47 := rf_leX R77 (show 47 ≤ (47 : Int) ∧ (47 : Int) ≤ 47 from by decide) gc78 (by decide) (by decide)
          refine lv_aload_n hx hb d_X_areAddresses_37 rfl (lv_at hl 0 rfl) ?_
          refine va_get (D := D) (ci := 7) (v := .int x0_15) (C := "SignMachineModel") (T := F_X) (N := 64) hx hb hk fi_X hown hK.1 hP 0 rfl rfl 15 (by decide) (hk _ k_1136) (fun _ h9 => h9) rfl d_X_areAddresses_38 ?_
          refine lv_i2l (v := (x0_15 : Int32).toInt64) hx hb d_X_areAddresses_41 rfl ?_
          refine lv_topl (fun v85 hv85 => ?_)
          obtain ⟨ev85, Rv85⟩ : v85.toInt = x0_15.toInt ∧ ((-8190) ≤ v85.toInt ∧ v85.toInt ≤ 8190) := il3 hv85 Rx0_15
          refine vp_callSi (W.runS (As := [.long v85]) (rest := []) ⟨hx, hb, hml, hown, hk⟩ (c_X_isWord l v85 ) (s_X_isWord hk k_1396 ⟨Nat.le_of_ble_eq_true rfl, Nat.le_of_ble_eq_true rfl⟩) ⟨fun a U g mk q => q, fun U hU hW => ⟨rfl, trivial⟩⟩ rfl rfl hl.1 rfl (lv_room (Nat.le_of_ble_eq_true rfl)) d_X_areAddresses_42 ⟨Nat.le_of_ble_eq_true rfl, Nat.le_of_ble_eq_true rfl⟩) (fun rz86 hrz86 => ?_)
          obtain ⟨F0z86, F1z86, F2z86⟩ := hrz86
          have F0z86 : 0 ≤ rz86.toInt ∧ rz86.toInt ≤ 1 := F0z86
          have F1z86 : rz86.toInt = 1 → (0 ≤ v85.toInt ∧ v85.toInt ≤ 3999) := F1z86
          have F2z86 : rz86.toInt = 0 → (v85.toInt < 0 ∨ 3999 < v85.toInt) := F2z86
          exact W.zret (v := rz86) hx hb hr (nar01 F0z86) (fun t ht hW => ⟨⟨rz86, rz86, rfl, rfl, ⟨F0z86, (show hid (rz86.toInt = 1 → ((((1 ≤ x0_12.toInt ∧ x0_12.toInt ≤ 4) ∨ (8 ≤ x0_12.toInt ∧ x0_12.toInt ≤ 33) ∨ 56 ≤ x0_12.toInt) ∨ x0_12.toInt = 34 ∨ (38 ≤ x0_12.toInt ∧ x0_12.toInt ≤ 47)) → (0 ≤ x0_15.toInt ∧ x0_15.toInt ≤ 3999))) from by first | assumption | (unfold hid; omega)), (show hid (rz86.toInt = 1 → ((x0_12.toInt = 7 ∧ 0 < x0_13.toInt) → (0 ≤ x0_15.toInt ∧ x0_15.toInt + x0_13.toInt ≤ 4000 ∧ 0 ≤ rv y3 y4 ((1 : Int32)).toNatClampNeg ∧ rv y3 y4 ((1 : Int32)).toNatClampNeg + x0_13.toInt ≤ 4000))) from by first | assumption | (unfold hid; omega)), (show hid (rz86.toInt = 1 → ((x0_12.toInt = 36 ∨ x0_12.toInt = 37) → (0 ≤ x0_15.toInt ∧ x0_15.toInt ≤ 3900))) from by first | assumption | (unfold hid; omega)), by show va_P D classes _ t.heap; rw [ht]; exact hP, hD⟩⟩, hS.F ht⟩) hS.2.2 d_X_areAddresses_45
theorem v_X_areAddresses {R : Room} {s : State} {args : Array Value} {own : String} {index : Nat} (hk : ∀ w ∈ tb, w.before args s = true) (hl : Cond.methodLink own index y_X_areAddresses ∈ tb) (hR : 1 + 1 ≤ R.frames ∧ 8 + (2 + 11) + 21 ≤ R.locals) : CallW R s args own "SignMachineModel" index y_X_areAddresses b_X_areAddresses 2 (some .boolean) (.code y_X_areAddresses b_X_areAddresses 2 (some .boolean) :: tb) ({ frames := 1, cells := 0, slots := 0, locals := 21 }) 0 0 0 := mk_v 0 hk k_1395 hl k_1394 k_64 k_119 rfl rfl h_X_areAddresses hR
set_option maxHeartbeats 8000000 in
set_option maxRecDepth 100000 in
theorem c_X_takeValue (l : Launch) (D : va_G) (cI cJ cZ cB : ClassId) (p0 p1 p2 p3 p4 p5 p6 p7 p8 p9 p10 p11 p12 p13 p14 p15 p16 p17 p18 p19 p20 p21 p22 p23 p24 p25 : Nat) (sz : Nat) (x0_4 : Int32) (x0_5 : Int32) (x0_6 : Int32) (x0_7 : Int32) (x0_8 : Int32) (x0_12 : Int32) (x0_13 : Int32) (x0_14 : Int32) (x0_15 : Int32) (x0_16 : Int32) (x0_17 : Int32) (x0_18 : Int32) (x0_22 : Int32) (x0_23 : Int32) (x0_24 : Int32) (x0_25 : Int32) (x0_26 : Int32) (x0_27 : Int32) (x0_28 : Int32) (x0_29 : Int32) (x0_30 : Int32) (x0_31 : Int32) (x0_32 : Int32) (x0_36 : Int32) (x0_39 : Int32) (x0_40 : Int64) (x0_44 : Int32) (x0_49 : Int32) (x0_51 : Int32) (x0_53 : Int32) (x0_54 : Int32) (x0_55 : Int64) (x0_56 : Int32) (x0_57 : Int32) (x0_58 : Int32) (x0_59 : Int32) (x0_60 : Int32) (x0_61 : Int32) (x0_62 : Int64) (y1 : Nat → Int32) (y2 : Nat → Int32) (y3 : Nat → Int32) (y4 : Nat → Int32) (y5 : Nat → Int32) (y6 : Nat → Int32) (y7 : Nat → Int32) (y8 : Nat → Int32) (y9 : Nat → Int32) (y10 : Nat → Int32) (y11 : Nat → Int64) (y12 : Nat → Int32) (y13 : Nat → Int64) (y14 : Nat → Int32) (y15 : Nat → Int64) (y16 : Nat → Int32) (y17 : Nat → Int32) (y18 : Nat → Int32) (y19 : Nat → Int32) (y20 : Nat → Int32) (y21 : Nat → Int32) (y22 : Nat → Int32) (y23 : Nat → Int32) (y24 : Nat → Int64) (y25 : Nat → Int64)  (Rx0_13 : 0 ≤ x0_13.toInt ∧ x0_13.toInt ≤ 63) (Rx0_15 : (-8190) ≤ x0_15.toInt ∧ x0_15.toInt ≤ 8190) (Rx0_17 : 0 ≤ x0_17.toInt ∧ x0_17.toInt ≤ 1) (Rx0_18 : 0 ≤ x0_18.toInt ∧ x0_18.toInt ≤ 1073741823) (Ay1 : ∀ i : Nat, (0 ≤ (y1 i).toInt ∧ (y1 i).toInt ≤ 1)) (Ay2 : ∀ i : Nat, (0 ≤ (y2 i).toInt ∧ (y2 i).toInt ≤ 1073741823)) (Q0 : (0 ≤ x0_15.toInt ∧ x0_15.toInt ≤ 3999)) (Q1 : (x0_13.toInt / 8 ≤ x0_13.toInt % 8 ∧ x0_13.toInt % 8 ≤ 5)) : Met l y_X_takeValue (.code y_X_takeValue b_X_takeValue 3 none :: tb) ({ frames := 2, cells := 0, slots := 0, locals := 45 }) (pM D cI cJ cZ cB (wS50 cI cJ cZ cB p0 p1 p2 p3 p4 p5 p6 p7 p8 p9 p10 p11 p12 p13 p14 p15 p16 p17 p18 p19 p20 p21 p22 p23 p24 p25 x0_4 x0_5 x0_6 x0_7 x0_8 x0_12 x0_13 x0_14 x0_15 x0_16 x0_17 x0_18 x0_22 x0_23 x0_24 x0_25 x0_26 x0_27 x0_28 x0_29 x0_30 x0_31 x0_32 x0_36 x0_39 x0_40 x0_44 x0_49 x0_51 x0_53 x0_54 x0_55 x0_56 x0_57 x0_58 x0_59 x0_60 x0_61 x0_62 y1 y2 y3 y4 y5 y6 y7 y8 y9 y10 y11 y12 y13 y14 y15 y16 y17 y18 y19 y20 y21 y22 y23 y24 y25) sz [.ref p0]) (va_Qv (fun (_ : Unit) => True) (fun _ t => ∃ u_x0_17 : Int32, ∃ u_x0_18 : Int32, (0 ≤ u_x0_17.toInt ∧ u_x0_17.toInt ≤ 1) ∧ (0 ≤ u_x0_18.toInt ∧ u_x0_18.toInt ≤ 1073741823) ∧ (u_x0_18.toInt = tvf y2 x0_15 x0_13) ∧ va_P D classes (wS50 cI cJ cZ cB p0 p1 p2 p3 p4 p5 p6 p7 p8 p9 p10 p11 p12 p13 p14 p15 p16 p17 p18 p19 p20 p21 p22 p23 p24 p25 x0_4 x0_5 x0_6 x0_7 x0_8 x0_12 x0_13 x0_14 x0_15 x0_16 u_x0_17 u_x0_18 x0_22 x0_23 x0_24 x0_25 x0_26 x0_27 x0_28 x0_29 x0_30 x0_31 x0_32 x0_36 x0_39 x0_40 x0_44 x0_49 x0_51 x0_53 x0_54 x0_55 x0_56 x0_57 x0_58 x0_59 x0_60 x0_61 x0_62 y1 y2 y3 y4 y5 y6 y7 y8 y9 y10 y11 y12 y13 y14 y15 y16 y17 y18 y19 y20 y21 y22 y23 y24 y25) t.heap ∧ va_D (va_A (wS50 cI cJ cZ cB p0 p1 p2 p3 p4 p5 p6 p7 p8 p9 p10 p11 p12 p13 p14 p15 p16 p17 p18 p19 p20 p21 p22 p23 p24 p25 x0_4 x0_5 x0_6 x0_7 x0_8 x0_12 x0_13 x0_14 x0_15 x0_16 x0_17 x0_18 x0_22 x0_23 x0_24 x0_25 x0_26 x0_27 x0_28 x0_29 x0_30 x0_31 x0_32 x0_36 x0_39 x0_40 x0_44 x0_49 x0_51 x0_53 x0_54 x0_55 x0_56 x0_57 x0_58 x0_59 x0_60 x0_61 x0_62 y1 y2 y3 y4 y5 y6 y7 y8 y9 y10 y11 y12 y13 y14 y15 y16 y17 y18 y19 y20 y21 y22 y23 y24 y25) sz) (wS50 cI cJ cZ cB p0 p1 p2 p3 p4 p5 p6 p7 p8 p9 p10 p11 p12 p13 p14 p15 p16 p17 p18 p19 p20 p21 p22 p23 p24 p25 x0_4 x0_5 x0_6 x0_7 x0_8 x0_12 x0_13 x0_14 x0_15 x0_16 u_x0_17 u_x0_18 x0_22 x0_23 x0_24 x0_25 x0_26 x0_27 x0_28 x0_29 x0_30 x0_31 x0_32 x0_36 x0_39 x0_40 x0_44 x0_49 x0_51 x0_53 x0_54 x0_55 x0_56 x0_57 x0_58 x0_59 x0_60 x0_61 x0_62 y1 y2 y3 y4 y5 y6 y7 y8 y9 y10 y11 y12 y13 y14 y15 y16 y17 y18 y19 y20 y21 y22 y23 y24 y25)) (va_A (wS50 cI cJ cZ cB p0 p1 p2 p3 p4 p5 p6 p7 p8 p9 p10 p11 p12 p13 p14 p15 p16 p17 p18 p19 p20 p21 p22 p23 p24 p25 x0_4 x0_5 x0_6 x0_7 x0_8 x0_12 x0_13 x0_14 x0_15 x0_16 x0_17 x0_18 x0_22 x0_23 x0_24 x0_25 x0_26 x0_27 x0_28 x0_29 x0_30 x0_31 x0_32 x0_36 x0_39 x0_40 x0_44 x0_49 x0_51 x0_53 x0_54 x0_55 x0_56 x0_57 x0_58 x0_59 x0_60 x0_61 x0_62 y1 y2 y3 y4 y5 y6 y7 y8 y9 y10 y11 y12 y13 y14 y15 y16 y17 y18 y19 y20 y21 y22 y23 y24 y25) sz)) 0 0 (va_A (wS50 cI cJ cZ cB p0 p1 p2 p3 p4 p5 p6 p7 p8 p9 p10 p11 p12 p13 p14 p15 p16 p17 p18 p19 p20 p21 p22 p23 p24 p25 x0_4 x0_5 x0_6 x0_7 x0_8 x0_12 x0_13 x0_14 x0_15 x0_16 x0_17 x0_18 x0_22 x0_23 x0_24 x0_25 x0_26 x0_27 x0_28 x0_29 x0_30 x0_31 x0_32 x0_36 x0_39 x0_40 x0_44 x0_49 x0_51 x0_53 x0_54 x0_55 x0_56 x0_57 x0_58 x0_59 x0_60 x0_61 x0_62 y1 y2 y3 y4 y5 y6 y7 y8 y9 y10 y11 y12 y13 y14 y15 y16 y17 y18 y19 y20 y21 y22 y23 y24 y25) sz) := by
  refine Met.ofW (cc := b_X_takeValue) (maxL := 3) (ret := none) (by decide) rfl ?_
  intro p e s m args below meth c s₁ B hml hv
  obtain ⟨rfl, hsz, hK, hP, hD0⟩ := hv
  subst hsz
  have hD := hD0.self (sz := s.heap.size)
  generalize hAe : va_A (wS50 cI cJ cZ cB p0 p1 p2 p3 p4 p5 p6 p7 p8 p9 p10 p11 p12 p13 p14 p15 p16 p17 p18 p19 p20 p21 p22 p23 p24 p25 x0_4 x0_5 x0_6 x0_7 x0_8 x0_12 x0_13 x0_14 x0_15 x0_16 x0_17 x0_18 x0_22 x0_23 x0_24 x0_25 x0_26 x0_27 x0_28 x0_29 x0_30 x0_31 x0_32 x0_36 x0_39 x0_40 x0_44 x0_49 x0_51 x0_53 x0_54 x0_55 x0_56 x0_57 x0_58 x0_59 x0_60 x0_61 x0_62 y1 y2 y3 y4 y5 y6 y7 y8 y9 y10 y11 y12 y13 y14 y15 y16 y17 y18 y19 y20 y21 y22 y23 y24 y25) s.heap.size = A at hD ⊢
  have hA : ∀ q : Nat, s.heap.size ≤ q → A q := fun q h => by rw [← hAe]; exact Or.inr h
  clear hAe hD0
  have hS : va_S A s.heap s.heap [] := va_S.rf
  have hx := B.exec
  have hb := B.bytes
  have hr := B.returns
  have hts := atoms_spec (ws := .code y_X_takeValue b_X_takeValue 3 none :: tb) B.pre
  have hk : ∀ w ∈ tb, w.before [.ref p0].toArray s = true := fun w h => hts w (List.mem_cons_of_mem _ h)
  have hown : s.vm.findClass "SignMachineModel" = some m.cls := findClass_of_methodNamed B.named
  have hlocks := B.notSynchronized
  have hl := lv_entry ([.ref p0]) (n := 3) (Nat.le_of_ble_eq_true rfl)
  rw [lg_entry_eq]
  generalize (lg_sl ([.ref p0]) ++ List.replicate (3 - (lg_sl ([.ref p0])).length) Slot.unset).toArray = ls at hl ⊢
  have hl : lv_has ls 3 [(0, .ref p0)] := hl
  clear hts B
  refine lv_aload_n hx hb d_X_takeValue_0 rfl (lv_at hl 0 rfl) ?_
  refine va_get (D := D) (ci := 7) (v := .int x0_13) (C := "SignMachineModel") (T := F_X) (N := 64) hx hb hk fi_X hown hK.1 hP 0 rfl rfl 13 (by decide) (hk _ k_1134) (fun _ h9 => h9) rfl d_X_takeValue_1 ?_
  refine lv_bipush (v := 8) hx hb d_X_takeValue_4 (by decide) ?_
  refine lv_idiv hx hb d_X_takeValue_6 (by decide) ?_
  refine lv_topi (fun v1 hv1 => ?_)
  obtain ⟨ev1, Rv1⟩ : v1.toInt = x0_13.toInt / (8 : Int) ∧ (0 ≤ v1.toInt ∧ v1.toInt ≤ 7) := dv3 hv1 Rx0_13 (show 8 ≤ (8 : Int32).toInt ∧ (8 : Int32).toInt ≤ 8 from by decide) (by decide) (by decide) (by decide)
  refine lv_istore_n (lv' := [(1, .int v1), (0, .ref p0)]) hx hb d_X_takeValue_7 rfl hl (by decide) rfl (fun ls hl => ?_)
  refine lv_aload_n hx hb d_X_takeValue_8 rfl (lv_at hl 1 rfl) ?_
  refine va_get (D := D) (ci := 7) (v := .int x0_13) (C := "SignMachineModel") (T := F_X) (N := 64) hx hb hk fi_X hown hK.1 hP 0 rfl rfl 13 (by decide) (hk _ k_1134) (fun _ h9 => h9) rfl d_X_takeValue_9 ?_
  refine lv_bipush (v := 8) hx hb d_X_takeValue_12 (by decide) ?_
  refine lv_irem hx hb d_X_takeValue_14 (by decide) ?_
  refine lv_topi (fun v2 hv2 => ?_)
  obtain ⟨ev2, lv2, Rv2⟩ : v2.toInt = x0_13.toInt % (8 : Int) ∧ v2.toInt < (8 : Int) ∧ (0 ≤ v2.toInt ∧ v2.toInt ≤ 7) := rm3 hv2 Rx0_13 (show 8 ≤ (8 : Int32).toInt ∧ (8 : Int32).toInt ≤ 8 from by decide) (by decide) (by decide) (by decide)
  refine lv_istore_n (lv' := [(2, .int v2), (1, .int v1), (0, .ref p0)]) hx hb d_X_takeValue_15 rfl hl (by decide) rfl (fun ls hl => ?_)
  refine lv_aload_n hx hb d_X_takeValue_16 rfl (lv_at hl 2 rfl) ?_
  refine lv_iload_n hx hb d_X_takeValue_17 rfl (lv_at hl 1 rfl) ?_
  refine lv_if_ne (tgt := 33) hx hb d_X_takeValue_18 (by decide) (fun c3 => ?_) (fun c3 => ?_)
  · have gc3 : v1.toInt ≠ (0 : Int) := c_ne c3
    have R4 : 1 ≤ v1.toInt ∧ v1.toInt ≤ 7 := rf_neX Rv1 (show 0 ≤ (0 : Int) ∧ (0 : Int) ≤ 0 from by decide) gc3 (by decide) (by decide)
    refine lv_iconst (v := 0) hx hb d_X_takeValue_33 (by decide) ?_
    refine va_put (D := D) (ci := 7) (v := .int (0 : Int32)) (ty := .int) (C := "SignMachineModel") (T := F_X) (N := 64) hx hb hk fi_X ft_X ft_X_ok fn_X hown hK.1 hP hD hS 0 rfl rfl 17 (by decide) (hk _ k_1138) (fun _ h9 => h9) rfl (by decide +kernel) rfl rfl (Nat.le_of_ble_eq_true rfl) d_X_takeValue_34 (fun H locs hP hD hS => ?_)
    have hP : va_P D classes (wS50 cI cJ cZ cB p0 p1 p2 p3 p4 p5 p6 p7 p8 p9 p10 p11 p12 p13 p14 p15 p16 p17 p18 p19 p20 p21 p22 p23 p24 p25 x0_4 x0_5 x0_6 x0_7 x0_8 x0_12 x0_13 x0_14 x0_15 x0_16 (0 : Int32) x0_18 x0_22 x0_23 x0_24 x0_25 x0_26 x0_27 x0_28 x0_29 x0_30 x0_31 x0_32 x0_36 x0_39 x0_40 x0_44 x0_49 x0_51 x0_53 x0_54 x0_55 x0_56 x0_57 x0_58 x0_59 x0_60 x0_61 x0_62 y1 y2 y3 y4 y5 y6 y7 y8 y9 y10 y11 y12 y13 y14 y15 y16 y17 y18 y19 y20 y21 y22 y23 y24 y25) H := hP
    have hD : va_D A (wS50 cI cJ cZ cB p0 p1 p2 p3 p4 p5 p6 p7 p8 p9 p10 p11 p12 p13 p14 p15 p16 p17 p18 p19 p20 p21 p22 p23 p24 p25 x0_4 x0_5 x0_6 x0_7 x0_8 x0_12 x0_13 x0_14 x0_15 x0_16 (0 : Int32) x0_18 x0_22 x0_23 x0_24 x0_25 x0_26 x0_27 x0_28 x0_29 x0_30 x0_31 x0_32 x0_36 x0_39 x0_40 x0_44 x0_49 x0_51 x0_53 x0_54 x0_55 x0_56 x0_57 x0_58 x0_59 x0_60 x0_61 x0_62 y1 y2 y3 y4 y5 y6 y7 y8 y9 y10 y11 y12 y13 y14 y15 y16 y17 y18 y19 y20 y21 y22 y23 y24 y25) := hD
    refine lv_aload_n hx hb d_X_takeValue_37 rfl (lv_at hl 2 rfl) ?_
    refine lv_aload_n hx hb d_X_takeValue_38 rfl (lv_at hl 2 rfl) ?_
    refine va_get (D := D) (ci := 7) (v := .ref p2) (C := "SignMachineModel") (T := F_X) (N := 64) hx hb hk fi_X hown hK.1 hP 0 rfl rfl 1 (by decide) (hk _ k_1122) (fun _ h9 => h9) rfl d_X_takeValue_39 ?_
    refine lv_aload_n hx hb d_X_takeValue_42 rfl (lv_at hl 2 rfl) ?_
    refine va_get (D := D) (ci := 7) (v := .int x0_15) (C := "SignMachineModel") (T := F_X) (N := 64) hx hb hk fi_X hown hK.1 hP 0 rfl rfl 15 (by decide) (hk _ k_1136) (fun _ h9 => h9) rfl d_X_takeValue_43 ?_
    refine va_iald hx hb hK.1 hP 2 0 rfl rfl (by rw [vp_in_iff]; omega) d_X_takeValue_46 ?_
    refine lv_topi (fun v5 hv5 => ?_)
    have Tv5 : v5.toInt = (y2 (x0_15).toNatClampNeg).toInt := congrArg _ hv5
    have Rv5 := Ay2 (x0_15).toNatClampNeg
    rw [← hv5] at Rv5
    refine lv_iload_n hx hb d_X_takeValue_47 rfl (lv_at hl 1 rfl) ?_
    refine lv_if_ne (tgt := 55) hx hb d_X_takeValue_48 (by decide) (fun c6 => ?_) (fun c6 => absurd c6 (show ¬ v1 = (0 : Int32) from c3))
    refine lv_iload_n hx hb d_X_takeValue_55 rfl (lv_at hl 1 rfl) ?_
    refine lv_iload_n hx hb d_X_takeValue_56 rfl (lv_at hl 0 rfl) ?_
    refine vp_callSi (W.runS (As := [.int v5, .int v1, .int v2]) (rest := [.ref p0]) ⟨hx, hb, hml, hown, hk⟩ (c_X_bytes l v5 v1 v2 Rv5 (by omega) (by omega)) (s_X_bytes hk k_1412 ⟨Nat.le_of_ble_eq_true rfl, Nat.le_of_ble_eq_true rfl⟩) ⟨fun a U g mk q => q, fun U hU hW => ⟨rfl, trivial⟩⟩ rfl rfl hl.1 rfl (lv_room (Nat.le_of_ble_eq_true rfl)) d_X_takeValue_57 ⟨Nat.le_of_ble_eq_true rfl, Nat.le_of_ble_eq_true rfl⟩) (fun rz7 hrz7 => ?_)
    obtain ⟨F0z7, F1z7, F2z7⟩ := hrz7
    have F0z7 : 0 ≤ rz7.toInt ∧ rz7.toInt ≤ 1073741823 := F0z7
    have F1z7 : hid (v1.toInt = v2.toInt → rz7.toInt ≤ 63) := F1z7
    have F2z7 : hid (rz7.toInt = bt v5.toInt v1.toInt v2.toInt) := F2z7
    refine va_put (D := D) (ci := 7) (v := .int rz7) (ty := .int) (C := "SignMachineModel") (T := F_X) (N := 64) hx hb hk fi_X ft_X ft_X_ok fn_X hown hK.1 hP hD hS 0 rfl rfl 18 (by decide) (hk _ k_1139) (fun _ h9 => h9) rfl (by decide +kernel) rfl rfl (Nat.le_of_ble_eq_true rfl) d_X_takeValue_60 (fun H locs hP hD hS => ?_)
    have hP : va_P D classes (wS50 cI cJ cZ cB p0 p1 p2 p3 p4 p5 p6 p7 p8 p9 p10 p11 p12 p13 p14 p15 p16 p17 p18 p19 p20 p21 p22 p23 p24 p25 x0_4 x0_5 x0_6 x0_7 x0_8 x0_12 x0_13 x0_14 x0_15 x0_16 (0 : Int32) rz7 x0_22 x0_23 x0_24 x0_25 x0_26 x0_27 x0_28 x0_29 x0_30 x0_31 x0_32 x0_36 x0_39 x0_40 x0_44 x0_49 x0_51 x0_53 x0_54 x0_55 x0_56 x0_57 x0_58 x0_59 x0_60 x0_61 x0_62 y1 y2 y3 y4 y5 y6 y7 y8 y9 y10 y11 y12 y13 y14 y15 y16 y17 y18 y19 y20 y21 y22 y23 y24 y25) H := hP
    have hD : va_D A (wS50 cI cJ cZ cB p0 p1 p2 p3 p4 p5 p6 p7 p8 p9 p10 p11 p12 p13 p14 p15 p16 p17 p18 p19 p20 p21 p22 p23 p24 p25 x0_4 x0_5 x0_6 x0_7 x0_8 x0_12 x0_13 x0_14 x0_15 x0_16 (0 : Int32) rz7 x0_22 x0_23 x0_24 x0_25 x0_26 x0_27 x0_28 x0_29 x0_30 x0_31 x0_32 x0_36 x0_39 x0_40 x0_44 x0_49 x0_51 x0_53 x0_54 x0_55 x0_56 x0_57 x0_58 x0_59 x0_60 x0_61 x0_62 y1 y2 y3 y4 y5 y6 y7 y8 y9 y10 y11 y12 y13 y14 y15 y16 y17 y18 y19 y20 y21 y22 y23 y24 y25) := hD
    exact W.vret hx hb hr (fun t ht hW => ⟨⟨(), rfl, trivial, ⟨(0 : Int32), rz7, (by decide), F0z7, (show rz7.toInt = tvf y2 x0_15 x0_13 from by unfold tvf; rw [if_neg (by omega), show rz7.toInt = bt v5.toInt v1.toInt v2.toInt from F2z7, Tv5, ev1, ev2]), by show va_P D classes _ t.heap; rw [ht]; exact hP, hD⟩⟩, hS.F ht⟩) hS.2.2 d_X_takeValue_63
  · have gc3 : v1.toInt = (0 : Int) := c_eq c3
    have R8 : 0 ≤ v1.toInt ∧ v1.toInt ≤ 0 := rf_eqX Rv1 (show 0 ≤ (0 : Int) ∧ (0 : Int) ≤ 0 from by decide) gc3 (by decide) (by decide)
    refine lv_aload_n hx hb d_X_takeValue_21 rfl (lv_at hl 2 rfl) ?_
    refine va_get (D := D) (ci := 7) (v := .ref p1) (C := "SignMachineModel") (T := F_X) (N := 64) hx hb hk fi_X hown hK.1 hP 0 rfl rfl 0 (by decide) (hk _ k_1121) (fun _ h9 => h9) rfl d_X_takeValue_22 ?_
    refine lv_aload_n hx hb d_X_takeValue_25 rfl (lv_at hl 2 rfl) ?_
    refine va_get (D := D) (ci := 7) (v := .int x0_15) (C := "SignMachineModel") (T := F_X) (N := 64) hx hb hk fi_X hown hK.1 hP 0 rfl rfl 15 (by decide) (hk _ k_1136) (fun _ h9 => h9) rfl d_X_takeValue_26 ?_
    refine va_iald hx hb hK.1 hP 1 0 rfl rfl (by rw [vp_in_iff]; omega) d_X_takeValue_29 ?_
    refine lv_topi (fun v9 hv9 => ?_)
    have Rv9 := Ay1 (x0_15).toNatClampNeg
    rw [← hv9] at Rv9
    refine lv_goto (tgt := 34) hx hb d_X_takeValue_30 (by decide) ?_
    refine va_put (D := D) (ci := 7) (v := .int v9) (ty := .int) (C := "SignMachineModel") (T := F_X) (N := 64) hx hb hk fi_X ft_X ft_X_ok fn_X hown hK.1 hP hD hS 0 rfl rfl 17 (by decide) (hk _ k_1138) (fun _ h9 => h9) rfl (by decide +kernel) rfl rfl (Nat.le_of_ble_eq_true rfl) d_X_takeValue_34 (fun H locs hP hD hS => ?_)
    have hP : va_P D classes (wS50 cI cJ cZ cB p0 p1 p2 p3 p4 p5 p6 p7 p8 p9 p10 p11 p12 p13 p14 p15 p16 p17 p18 p19 p20 p21 p22 p23 p24 p25 x0_4 x0_5 x0_6 x0_7 x0_8 x0_12 x0_13 x0_14 x0_15 x0_16 v9 x0_18 x0_22 x0_23 x0_24 x0_25 x0_26 x0_27 x0_28 x0_29 x0_30 x0_31 x0_32 x0_36 x0_39 x0_40 x0_44 x0_49 x0_51 x0_53 x0_54 x0_55 x0_56 x0_57 x0_58 x0_59 x0_60 x0_61 x0_62 y1 y2 y3 y4 y5 y6 y7 y8 y9 y10 y11 y12 y13 y14 y15 y16 y17 y18 y19 y20 y21 y22 y23 y24 y25) H := hP
    have hD : va_D A (wS50 cI cJ cZ cB p0 p1 p2 p3 p4 p5 p6 p7 p8 p9 p10 p11 p12 p13 p14 p15 p16 p17 p18 p19 p20 p21 p22 p23 p24 p25 x0_4 x0_5 x0_6 x0_7 x0_8 x0_12 x0_13 x0_14 x0_15 x0_16 v9 x0_18 x0_22 x0_23 x0_24 x0_25 x0_26 x0_27 x0_28 x0_29 x0_30 x0_31 x0_32 x0_36 x0_39 x0_40 x0_44 x0_49 x0_51 x0_53 x0_54 x0_55 x0_56 x0_57 x0_58 x0_59 x0_60 x0_61 x0_62 y1 y2 y3 y4 y5 y6 y7 y8 y9 y10 y11 y12 y13 y14 y15 y16 y17 y18 y19 y20 y21 y22 y23 y24 y25) := hD
    refine lv_aload_n hx hb d_X_takeValue_37 rfl (lv_at hl 2 rfl) ?_
    refine lv_aload_n hx hb d_X_takeValue_38 rfl (lv_at hl 2 rfl) ?_
    refine va_get (D := D) (ci := 7) (v := .ref p2) (C := "SignMachineModel") (T := F_X) (N := 64) hx hb hk fi_X hown hK.1 hP 0 rfl rfl 1 (by decide) (hk _ k_1122) (fun _ h9 => h9) rfl d_X_takeValue_39 ?_
    refine lv_aload_n hx hb d_X_takeValue_42 rfl (lv_at hl 2 rfl) ?_
    refine va_get (D := D) (ci := 7) (v := .int x0_15) (C := "SignMachineModel") (T := F_X) (N := 64) hx hb hk fi_X hown hK.1 hP 0 rfl rfl 15 (by decide) (hk _ k_1136) (fun _ h9 => h9) rfl d_X_takeValue_43 ?_
    refine va_iald hx hb hK.1 hP 2 0 rfl rfl (by rw [vp_in_iff]; omega) d_X_takeValue_46 ?_
    refine lv_topi (fun v10 hv10 => ?_)
    have Tv10 : v10.toInt = (y2 (x0_15).toNatClampNeg).toInt := congrArg _ hv10
    have Rv10 := Ay2 (x0_15).toNatClampNeg
    rw [← hv10] at Rv10
    refine lv_iload_n hx hb d_X_takeValue_47 rfl (lv_at hl 1 rfl) ?_
    refine lv_if_ne (tgt := 55) hx hb d_X_takeValue_48 (by decide) (fun c11 => absurd (show v1 = (0 : Int32) from c3) c11) (fun c11 => ?_)
    refine lv_iconst (v := 1) hx hb d_X_takeValue_51 (by decide) ?_
    refine lv_goto (tgt := 56) hx hb d_X_takeValue_52 (by decide) ?_
    refine lv_iload_n hx hb d_X_takeValue_56 rfl (lv_at hl 0 rfl) ?_
    refine vp_callSi (W.runS (As := [.int v10, .int (1 : Int32), .int v2]) (rest := [.ref p0]) ⟨hx, hb, hml, hown, hk⟩ (c_X_bytes l v10 (1 : Int32) v2 Rv10 (by decide) (by omega)) (s_X_bytes hk k_1412 ⟨Nat.le_of_ble_eq_true rfl, Nat.le_of_ble_eq_true rfl⟩) ⟨fun a U g mk q => q, fun U hU hW => ⟨rfl, trivial⟩⟩ rfl rfl hl.1 rfl (lv_room (Nat.le_of_ble_eq_true rfl)) d_X_takeValue_57 ⟨Nat.le_of_ble_eq_true rfl, Nat.le_of_ble_eq_true rfl⟩) (fun rz12 hrz12 => ?_)
    obtain ⟨F0z12, F1z12, F2z12⟩ := hrz12
    have F0z12 : 0 ≤ rz12.toInt ∧ rz12.toInt ≤ 1073741823 := F0z12
    have F1z12 : hid ((1 : Int) = v2.toInt → rz12.toInt ≤ 63) := F1z12
    have F2z12 : hid (rz12.toInt = bt v10.toInt (1 : Int) v2.toInt) := F2z12
    refine va_put (D := D) (ci := 7) (v := .int rz12) (ty := .int) (C := "SignMachineModel") (T := F_X) (N := 64) hx hb hk fi_X ft_X ft_X_ok fn_X hown hK.1 hP hD hS 0 rfl rfl 18 (by decide) (hk _ k_1139) (fun _ h9 => h9) rfl (by decide +kernel) rfl rfl (Nat.le_of_ble_eq_true rfl) d_X_takeValue_60 (fun H locs hP hD hS => ?_)
    have hP : va_P D classes (wS50 cI cJ cZ cB p0 p1 p2 p3 p4 p5 p6 p7 p8 p9 p10 p11 p12 p13 p14 p15 p16 p17 p18 p19 p20 p21 p22 p23 p24 p25 x0_4 x0_5 x0_6 x0_7 x0_8 x0_12 x0_13 x0_14 x0_15 x0_16 v9 rz12 x0_22 x0_23 x0_24 x0_25 x0_26 x0_27 x0_28 x0_29 x0_30 x0_31 x0_32 x0_36 x0_39 x0_40 x0_44 x0_49 x0_51 x0_53 x0_54 x0_55 x0_56 x0_57 x0_58 x0_59 x0_60 x0_61 x0_62 y1 y2 y3 y4 y5 y6 y7 y8 y9 y10 y11 y12 y13 y14 y15 y16 y17 y18 y19 y20 y21 y22 y23 y24 y25) H := hP
    have hD : va_D A (wS50 cI cJ cZ cB p0 p1 p2 p3 p4 p5 p6 p7 p8 p9 p10 p11 p12 p13 p14 p15 p16 p17 p18 p19 p20 p21 p22 p23 p24 p25 x0_4 x0_5 x0_6 x0_7 x0_8 x0_12 x0_13 x0_14 x0_15 x0_16 v9 rz12 x0_22 x0_23 x0_24 x0_25 x0_26 x0_27 x0_28 x0_29 x0_30 x0_31 x0_32 x0_36 x0_39 x0_40 x0_44 x0_49 x0_51 x0_53 x0_54 x0_55 x0_56 x0_57 x0_58 x0_59 x0_60 x0_61 x0_62 y1 y2 y3 y4 y5 y6 y7 y8 y9 y10 y11 y12 y13 y14 y15 y16 y17 y18 y19 y20 y21 y22 y23 y24 y25) := hD
    exact W.vret hx hb hr (fun t ht hW => ⟨⟨(), rfl, trivial, ⟨v9, rz12, Rv9, F0z12, (show rz12.toInt = tvf y2 x0_15 x0_13 from by unfold tvf; rw [if_pos (by omega), show rz12.toInt = bt v10.toInt (1 : Int) v2.toInt from F2z12, Tv10, ev2]), by show va_P D classes _ t.heap; rw [ht]; exact hP, hD⟩⟩, hS.F ht⟩) hS.2.2 d_X_takeValue_63
theorem v_X_takeValue {R : Room} {s : State} {args : Array Value} {own : String} {index : Nat} (hk : ∀ w ∈ tb, w.before args s = true) (hl : Cond.methodLink own index y_X_takeValue ∈ tb) (hR : 2 + 1 ≤ R.frames ∧ 8 + (3 + 11) + 45 ≤ R.locals) : CallW R s args own "SignMachineModel" index y_X_takeValue b_X_takeValue 3 none (.code y_X_takeValue b_X_takeValue 3 none :: tb) ({ frames := 2, cells := 0, slots := 0, locals := 45 }) 0 0 0 := mk_v 0 hk k_1411 hl k_1410 k_67 k_119 rfl rfl h_X_takeValue hR
set_option maxHeartbeats 8000000 in
set_option maxRecDepth 100000 in
theorem c_X_fitsIndex (l : Launch) (D : va_G) (cI cJ cZ cB : ClassId) (p0 p1 p2 p3 p4 p5 p6 p7 p8 p9 p10 p11 p12 p13 p14 p15 p16 p17 p18 p19 p20 p21 p22 p23 p24 p25 : Nat) (sz : Nat) (x0_4 : Int32) (x0_5 : Int32) (x0_6 : Int32) (x0_7 : Int32) (x0_8 : Int32) (x0_12 : Int32) (x0_13 : Int32) (x0_14 : Int32) (x0_15 : Int32) (x0_16 : Int32) (x0_17 : Int32) (x0_18 : Int32) (x0_22 : Int32) (x0_23 : Int32) (x0_24 : Int32) (x0_25 : Int32) (x0_26 : Int32) (x0_27 : Int32) (x0_28 : Int32) (x0_29 : Int32) (x0_30 : Int32) (x0_31 : Int32) (x0_32 : Int32) (x0_36 : Int32) (x0_39 : Int32) (x0_40 : Int64) (x0_44 : Int32) (x0_49 : Int32) (x0_51 : Int32) (x0_53 : Int32) (x0_54 : Int32) (x0_55 : Int64) (x0_56 : Int32) (x0_57 : Int32) (x0_58 : Int32) (x0_59 : Int32) (x0_60 : Int32) (x0_61 : Int32) (x0_62 : Int64) (y1 : Nat → Int32) (y2 : Nat → Int32) (y3 : Nat → Int32) (y4 : Nat → Int32) (y5 : Nat → Int32) (y6 : Nat → Int32) (y7 : Nat → Int32) (y8 : Nat → Int32) (y9 : Nat → Int32) (y10 : Nat → Int32) (y11 : Nat → Int64) (y12 : Nat → Int32) (y13 : Nat → Int64) (y14 : Nat → Int32) (y15 : Nat → Int64) (y16 : Nat → Int32) (y17 : Nat → Int32) (y18 : Nat → Int32) (y19 : Nat → Int32) (y20 : Nat → Int32) (y21 : Nat → Int32) (y22 : Nat → Int32) (y23 : Nat → Int32) (y24 : Nat → Int64) (y25 : Nat → Int64)  (Rx0_12 : 0 ≤ x0_12.toInt ∧ x0_12.toInt ≤ 63) (Rx0_13 : 0 ≤ x0_13.toInt ∧ x0_13.toInt ≤ 63) (Rx0_15 : (-8190) ≤ x0_15.toInt ∧ x0_15.toInt ≤ 8190) (Rx0_17 : 0 ≤ x0_17.toInt ∧ x0_17.toInt ≤ 1) (Rx0_18 : 0 ≤ x0_18.toInt ∧ x0_18.toInt ≤ 1073741823) (Ay1 : ∀ i : Nat, (0 ≤ (y1 i).toInt ∧ (y1 i).toInt ≤ 1)) (Ay2 : ∀ i : Nat, (0 ≤ (y2 i).toInt ∧ (y2 i).toInt ≤ 1073741823)) (Ay3 : ∀ i : Nat, (0 ≤ (y3 i).toInt ∧ (y3 i).toInt ≤ 1)) (Ay4 : ∀ i : Nat, ((0 ≤ (y4 i).toInt ∧ (y4 i).toInt ≤ 1073741823) ∧ ((1 ≤ (i : Int) ∧ (i : Int) ≤ 6) → (y4 i).toInt ≤ 4095))) (Q0 : hid (((1 ≤ x0_12.toInt ∧ x0_12.toInt ≤ 4) ∨ (8 ≤ x0_12.toInt ∧ x0_12.toInt ≤ 33) ∨ 56 ≤ x0_12.toInt) → (x0_13.toInt / 8 ≤ x0_13.toInt % 8 ∧ x0_13.toInt % 8 ≤ 5))) (Q1 : hid ((((1 ≤ x0_12.toInt ∧ x0_12.toInt ≤ 4) ∨ (8 ≤ x0_12.toInt ∧ x0_12.toInt ≤ 33) ∨ 56 ≤ x0_12.toInt) ∨ x0_12.toInt = 34 ∨ (38 ≤ x0_12.toInt ∧ x0_12.toInt ≤ 47)) → (0 ≤ x0_15.toInt ∧ x0_15.toInt ≤ 3999))) : Met l y_X_fitsIndex (.code y_X_fitsIndex b_X_fitsIndex 3 (some .boolean) :: tb) ({ frames := 3, cells := 0, slots := 0, locals := 67 }) (pM D cI cJ cZ cB (wS50 cI cJ cZ cB p0 p1 p2 p3 p4 p5 p6 p7 p8 p9 p10 p11 p12 p13 p14 p15 p16 p17 p18 p19 p20 p21 p22 p23 p24 p25 x0_4 x0_5 x0_6 x0_7 x0_8 x0_12 x0_13 x0_14 x0_15 x0_16 x0_17 x0_18 x0_22 x0_23 x0_24 x0_25 x0_26 x0_27 x0_28 x0_29 x0_30 x0_31 x0_32 x0_36 x0_39 x0_40 x0_44 x0_49 x0_51 x0_53 x0_54 x0_55 x0_56 x0_57 x0_58 x0_59 x0_60 x0_61 x0_62 y1 y2 y3 y4 y5 y6 y7 y8 y9 y10 y11 y12 y13 y14 y15 y16 y17 y18 y19 y20 y21 y22 y23 y24 y25) sz [.ref p0]) (va_Qi (fun r (u : Int32) => r = u) (fun ur t => ∃ u_x0_17 : Int32, ∃ u_x0_18 : Int32, (0 ≤ u_x0_17.toInt ∧ u_x0_17.toInt ≤ 1) ∧ (0 ≤ u_x0_18.toInt ∧ u_x0_18.toInt ≤ 1073741823) ∧ (0 ≤ ur.toInt ∧ ur.toInt ≤ 1) ∧ (hid (ur.toInt = 1 → ((8 ≤ x0_12.toInt ∧ x0_12.toInt ≤ 23 ∧ x0_12.toInt % 8 ≠ 0 ∧ x0_12.toInt % 8 ≠ 7) → tvf y2 x0_15 x0_13 ≤ 4095))) ∧ (hid (ur.toInt = 1 → ((49 ≤ x0_12.toInt ∧ x0_12.toInt ≤ 54 ∧ x0_13.toInt = 0) → (-4095 ≤ rv y3 y4 (x0_12 - (48 : Int32)).toNatClampNeg + x0_15.toInt ∧ rv y3 y4 (x0_12 - (48 : Int32)).toNatClampNeg + x0_15.toInt ≤ 4095)))) ∧ (hid (ur.toInt = 1 → ((49 ≤ x0_12.toInt ∧ x0_12.toInt ≤ 54 ∧ x0_13.toInt = 1) → (-4095 ≤ rv y3 y4 (x0_12 - (48 : Int32)).toNatClampNeg - x0_15.toInt ∧ rv y3 y4 (x0_12 - (48 : Int32)).toNatClampNeg - x0_15.toInt ≤ 4095)))) ∧ (hid (ur.toInt = 1 → ((49 ≤ x0_12.toInt ∧ x0_12.toInt ≤ 54 ∧ 2 ≤ x0_13.toInt) → (-4095 ≤ x0_15.toInt ∧ x0_15.toInt ≤ 4095)))) ∧ va_P D classes (wS50 cI cJ cZ cB p0 p1 p2 p3 p4 p5 p6 p7 p8 p9 p10 p11 p12 p13 p14 p15 p16 p17 p18 p19 p20 p21 p22 p23 p24 p25 x0_4 x0_5 x0_6 x0_7 x0_8 x0_12 x0_13 x0_14 x0_15 x0_16 u_x0_17 u_x0_18 x0_22 x0_23 x0_24 x0_25 x0_26 x0_27 x0_28 x0_29 x0_30 x0_31 x0_32 x0_36 x0_39 x0_40 x0_44 x0_49 x0_51 x0_53 x0_54 x0_55 x0_56 x0_57 x0_58 x0_59 x0_60 x0_61 x0_62 y1 y2 y3 y4 y5 y6 y7 y8 y9 y10 y11 y12 y13 y14 y15 y16 y17 y18 y19 y20 y21 y22 y23 y24 y25) t.heap ∧ va_D (va_A (wS50 cI cJ cZ cB p0 p1 p2 p3 p4 p5 p6 p7 p8 p9 p10 p11 p12 p13 p14 p15 p16 p17 p18 p19 p20 p21 p22 p23 p24 p25 x0_4 x0_5 x0_6 x0_7 x0_8 x0_12 x0_13 x0_14 x0_15 x0_16 x0_17 x0_18 x0_22 x0_23 x0_24 x0_25 x0_26 x0_27 x0_28 x0_29 x0_30 x0_31 x0_32 x0_36 x0_39 x0_40 x0_44 x0_49 x0_51 x0_53 x0_54 x0_55 x0_56 x0_57 x0_58 x0_59 x0_60 x0_61 x0_62 y1 y2 y3 y4 y5 y6 y7 y8 y9 y10 y11 y12 y13 y14 y15 y16 y17 y18 y19 y20 y21 y22 y23 y24 y25) sz) (wS50 cI cJ cZ cB p0 p1 p2 p3 p4 p5 p6 p7 p8 p9 p10 p11 p12 p13 p14 p15 p16 p17 p18 p19 p20 p21 p22 p23 p24 p25 x0_4 x0_5 x0_6 x0_7 x0_8 x0_12 x0_13 x0_14 x0_15 x0_16 u_x0_17 u_x0_18 x0_22 x0_23 x0_24 x0_25 x0_26 x0_27 x0_28 x0_29 x0_30 x0_31 x0_32 x0_36 x0_39 x0_40 x0_44 x0_49 x0_51 x0_53 x0_54 x0_55 x0_56 x0_57 x0_58 x0_59 x0_60 x0_61 x0_62 y1 y2 y3 y4 y5 y6 y7 y8 y9 y10 y11 y12 y13 y14 y15 y16 y17 y18 y19 y20 y21 y22 y23 y24 y25)) (va_A (wS50 cI cJ cZ cB p0 p1 p2 p3 p4 p5 p6 p7 p8 p9 p10 p11 p12 p13 p14 p15 p16 p17 p18 p19 p20 p21 p22 p23 p24 p25 x0_4 x0_5 x0_6 x0_7 x0_8 x0_12 x0_13 x0_14 x0_15 x0_16 x0_17 x0_18 x0_22 x0_23 x0_24 x0_25 x0_26 x0_27 x0_28 x0_29 x0_30 x0_31 x0_32 x0_36 x0_39 x0_40 x0_44 x0_49 x0_51 x0_53 x0_54 x0_55 x0_56 x0_57 x0_58 x0_59 x0_60 x0_61 x0_62 y1 y2 y3 y4 y5 y6 y7 y8 y9 y10 y11 y12 y13 y14 y15 y16 y17 y18 y19 y20 y21 y22 y23 y24 y25) sz)) 0 0 (va_A (wS50 cI cJ cZ cB p0 p1 p2 p3 p4 p5 p6 p7 p8 p9 p10 p11 p12 p13 p14 p15 p16 p17 p18 p19 p20 p21 p22 p23 p24 p25 x0_4 x0_5 x0_6 x0_7 x0_8 x0_12 x0_13 x0_14 x0_15 x0_16 x0_17 x0_18 x0_22 x0_23 x0_24 x0_25 x0_26 x0_27 x0_28 x0_29 x0_30 x0_31 x0_32 x0_36 x0_39 x0_40 x0_44 x0_49 x0_51 x0_53 x0_54 x0_55 x0_56 x0_57 x0_58 x0_59 x0_60 x0_61 x0_62 y1 y2 y3 y4 y5 y6 y7 y8 y9 y10 y11 y12 y13 y14 y15 y16 y17 y18 y19 y20 y21 y22 y23 y24 y25) sz) := by
  refine Met.ofW (cc := b_X_fitsIndex) (maxL := 3) (ret := (some .boolean)) (by decide) rfl ?_
  intro p e s m args below meth c s₁ B hml hv
  obtain ⟨rfl, hsz, hK, hP, hD0⟩ := hv
  subst hsz
  have hD := hD0.self (sz := s.heap.size)
  generalize hAe : va_A (wS50 cI cJ cZ cB p0 p1 p2 p3 p4 p5 p6 p7 p8 p9 p10 p11 p12 p13 p14 p15 p16 p17 p18 p19 p20 p21 p22 p23 p24 p25 x0_4 x0_5 x0_6 x0_7 x0_8 x0_12 x0_13 x0_14 x0_15 x0_16 x0_17 x0_18 x0_22 x0_23 x0_24 x0_25 x0_26 x0_27 x0_28 x0_29 x0_30 x0_31 x0_32 x0_36 x0_39 x0_40 x0_44 x0_49 x0_51 x0_53 x0_54 x0_55 x0_56 x0_57 x0_58 x0_59 x0_60 x0_61 x0_62 y1 y2 y3 y4 y5 y6 y7 y8 y9 y10 y11 y12 y13 y14 y15 y16 y17 y18 y19 y20 y21 y22 y23 y24 y25) s.heap.size = A at hD ⊢
  have hA : ∀ q : Nat, s.heap.size ≤ q → A q := fun q h => by rw [← hAe]; exact Or.inr h
  clear hAe hD0
  have hS : va_S A s.heap s.heap [] := va_S.rf
  have hx := B.exec
  have hb := B.bytes
  have hr := B.returns
  have hts := atoms_spec (ws := .code y_X_fitsIndex b_X_fitsIndex 3 (some .boolean) :: tb) B.pre
  have hk : ∀ w ∈ tb, w.before [.ref p0].toArray s = true := fun w h => hts w (List.mem_cons_of_mem _ h)
  have hown : s.vm.findClass "SignMachineModel" = some m.cls := findClass_of_methodNamed B.named
  have hlocks := B.notSynchronized
  have hl := lv_entry ([.ref p0]) (n := 3) (Nat.le_of_ble_eq_true rfl)
  rw [lg_entry_eq]
  generalize (lg_sl ([.ref p0]) ++ List.replicate (3 - (lg_sl ([.ref p0])).length) Slot.unset).toArray = ls at hl ⊢
  have hl : lv_has ls 3 [(0, .ref p0)] := hl
  clear hts B
  refine lv_aload_n hx hb d_X_fitsIndex_0 rfl (lv_at hl 0 rfl) ?_
  refine va_get (D := D) (ci := 7) (v := .int x0_12) (C := "SignMachineModel") (T := F_X) (N := 64) hx hb hk fi_X hown hK.1 hP 0 rfl rfl 12 (by decide) (hk _ k_1133) (fun _ h9 => h9) rfl d_X_fitsIndex_1 ?_
  refine lv_bipush (v := 8) hx hb d_X_fitsIndex_4 (by decide) ?_
  refine lv_icmp_lt (tgt := 51) hx hb d_X_fitsIndex_6 (by decide) (fun c1 => ?_) (fun c1 => ?_)
  · have gc1 : x0_12.toInt < (8 : Int) := c_lt c1
    have R2 : 0 ≤ x0_12.toInt ∧ x0_12.toInt ≤ 7 := rf_ltX Rx0_12 (show 8 ≤ (8 : Int) ∧ (8 : Int) ≤ 8 from by decide) gc1 (by decide) (by decide)
    refine lv_aload_n hx hb d_X_fitsIndex_51 rfl (lv_at hl 0 rfl) ?_
    refine va_get (D := D) (ci := 7) (v := .int x0_12) (C := "SignMachineModel") (T := F_X) (N := 64) hx hb hk fi_X hown hK.1 hP 0 rfl rfl 12 (by decide) (hk _ k_1133) (fun _ h9 => h9) rfl d_X_fitsIndex_52 ?_
    refine lv_bipush (v := 48) hx hb d_X_fitsIndex_55 (by decide) ?_
    refine lv_icmp_lt (tgt := 144) hx hb d_X_fitsIndex_57 (by decide) (fun c3 => ?_) (fun c3 => absurd (show x0_12 < (48 : Int32) from (Int32.lt_iff_toInt_lt.mpr (klt R2 (show 48 ≤ (48 : Int) ∧ (48 : Int) ≤ 48 from by decide) (by decide)))) c3)
    refine lv_aload_n hx hb d_X_fitsIndex_144 rfl (lv_at hl 0 rfl) ?_
    refine va_get (D := D) (ci := 7) (v := .int x0_12) (C := "SignMachineModel") (T := F_X) (N := 64) hx hb hk fi_X hown hK.1 hP 0 rfl rfl 12 (by decide) (hk _ k_1133) (fun _ h9 => h9) rfl d_X_fitsIndex_145 ?_
    refine lv_bipush (v := 7) hx hb d_X_fitsIndex_148 (by decide) ?_
    refine lv_icmp_ne (tgt := 169) hx hb d_X_fitsIndex_150 (by decide) (fun c4 => ?_) (fun c4 => ?_)
    · have gc4 : x0_12.toInt ≠ (7 : Int) := c_ne c4
      have R5 : 0 ≤ x0_12.toInt ∧ x0_12.toInt ≤ 6 := rf_neX R2 (show 7 ≤ (7 : Int) ∧ (7 : Int) ≤ 7 from by decide) gc4 (by decide) (by decide)
      refine lv_iconst (v := 1) hx hb d_X_fitsIndex_169 (by decide) ?_
      refine lv_goto (tgt := 174) hx hb d_X_fitsIndex_170 (by decide) ?_
      exact W.zret (v := (1 : Int32)) hx hb hr (nar01 (by decide)) (fun t ht hW => ⟨⟨(1 : Int32), (1 : Int32), rfl, rfl, ⟨x0_17, x0_18, Rx0_17, Rx0_18, (by decide), (show hid ((1 : Int) = 1 → ((8 ≤ x0_12.toInt ∧ x0_12.toInt ≤ 23 ∧ x0_12.toInt % 8 ≠ 0 ∧ x0_12.toInt % 8 ≠ 7) → tvf y2 x0_15 x0_13 ≤ 4095)) from by first | assumption | (unfold hid; omega)), (show hid ((1 : Int) = 1 → ((49 ≤ x0_12.toInt ∧ x0_12.toInt ≤ 54 ∧ x0_13.toInt = 0) → (-4095 ≤ rv y3 y4 (x0_12 - (48 : Int32)).toNatClampNeg + x0_15.toInt ∧ rv y3 y4 (x0_12 - (48 : Int32)).toNatClampNeg + x0_15.toInt ≤ 4095))) from by first | assumption | (unfold hid; omega)), (show hid ((1 : Int) = 1 → ((49 ≤ x0_12.toInt ∧ x0_12.toInt ≤ 54 ∧ x0_13.toInt = 1) → (-4095 ≤ rv y3 y4 (x0_12 - (48 : Int32)).toNatClampNeg - x0_15.toInt ∧ rv y3 y4 (x0_12 - (48 : Int32)).toNatClampNeg - x0_15.toInt ≤ 4095))) from by first | assumption | (unfold hid; omega)), (show hid ((1 : Int) = 1 → ((49 ≤ x0_12.toInt ∧ x0_12.toInt ≤ 54 ∧ 2 ≤ x0_13.toInt) → (-4095 ≤ x0_15.toInt ∧ x0_15.toInt ≤ 4095))) from by first | assumption | (unfold hid; omega)), by show va_P D classes _ t.heap; rw [ht]; exact hP, hD⟩⟩, hS.F ht⟩) hS.2.2 d_X_fitsIndex_174
    · have gc4 : x0_12.toInt = (7 : Int) := c_eq c4
      have R6 : 7 ≤ x0_12.toInt ∧ x0_12.toInt ≤ 7 := rf_eqX R2 (show 7 ≤ (7 : Int) ∧ (7 : Int) ≤ 7 from by decide) gc4 (by decide) (by decide)
      refine lv_aload_n hx hb d_X_fitsIndex_153 rfl (lv_at hl 0 rfl) ?_
      refine lv_iconst (v := 1) hx hb d_X_fitsIndex_154 (by decide) ?_
      refine sn_i (va_runV (C := "SignMachineModel") (As := [.int (1 : Int32)]) (rest := []) ⟨hx, hb, hml, hown, hk⟩ (c_X_indexValue l D cI cJ cZ cB p0 p1 p2 p3 p4 p5 p6 p7 p8 p9 p10 p11 p12 p13 p14 p15 p16 p17 p18 p19 p20 p21 p22 p23 p24 p25 s.heap.size x0_4 x0_5 x0_6 x0_7 x0_8 x0_12 x0_13 x0_14 x0_15 x0_16 x0_17 x0_18 x0_22 x0_23 x0_24 x0_25 x0_26 x0_27 x0_28 x0_29 x0_30 x0_31 x0_32 x0_36 x0_39 x0_40 x0_44 x0_49 x0_51 x0_53 x0_54 x0_55 x0_56 x0_57 x0_58 x0_59 x0_60 x0_61 x0_62 y1 y2 y3 y4 y5 y6 y7 y8 y9 y10 y11 y12 y13 y14 y15 y16 y17 y18 y19 y20 y21 y22 y23 y24 y25 (1 : Int32) Ay3 Ay4 (by decide)) (v_X_indexValue hk k_1400 ⟨Nat.le_of_ble_eq_true rfl, Nat.le_of_ble_eq_true rfl⟩) (pM_v hK hP hD (ci := 7) (q0 := 0) rfl rfl rfl) rfl rfl hl.1 rfl (lv_room (Nat.le_of_ble_eq_true rfl)) d_X_fitsIndex_155 ⟨Nat.le_of_ble_eq_true rfl, Nat.le_of_ble_eq_true rfl⟩) hS hA hD (fun rz7 u t H locs hr0 ht hB hFr hS => ?_)
      subst hr0
      obtain ⟨F0z7, F1z7, F2z7, hP, hD⟩ := hB
      have F0z7 : (-1073741823) ≤ rz7.toInt ∧ rz7.toInt ≤ 1073741823 := F0z7
      have F1z7 : rz7.toInt = rv y3 y4 ((1 : Int32)).toNatClampNeg := F1z7
      have F2z7 : (1 ≤ (1 : Int) ∧ (1 : Int) ≤ 6) → (-4095 ≤ rz7.toInt ∧ rz7.toInt ≤ 4095) := F2z7
      rw [ht] at hP
      have hD := dwk hD hFr
      clear ht hFr
      have hP : va_P D classes (wS50 cI cJ cZ cB p0 p1 p2 p3 p4 p5 p6 p7 p8 p9 p10 p11 p12 p13 p14 p15 p16 p17 p18 p19 p20 p21 p22 p23 p24 p25 x0_4 x0_5 x0_6 x0_7 x0_8 x0_12 x0_13 x0_14 x0_15 x0_16 x0_17 x0_18 x0_22 x0_23 x0_24 x0_25 x0_26 x0_27 x0_28 x0_29 x0_30 x0_31 x0_32 x0_36 x0_39 x0_40 x0_44 x0_49 x0_51 x0_53 x0_54 x0_55 x0_56 x0_57 x0_58 x0_59 x0_60 x0_61 x0_62 y1 y2 y3 y4 y5 y6 y7 y8 y9 y10 y11 y12 y13 y14 y15 y16 y17 y18 y19 y20 y21 y22 y23 y24 y25) H := hP
      have hD : va_D A (wS50 cI cJ cZ cB p0 p1 p2 p3 p4 p5 p6 p7 p8 p9 p10 p11 p12 p13 p14 p15 p16 p17 p18 p19 p20 p21 p22 p23 p24 p25 x0_4 x0_5 x0_6 x0_7 x0_8 x0_12 x0_13 x0_14 x0_15 x0_16 x0_17 x0_18 x0_22 x0_23 x0_24 x0_25 x0_26 x0_27 x0_28 x0_29 x0_30 x0_31 x0_32 x0_36 x0_39 x0_40 x0_44 x0_49 x0_51 x0_53 x0_54 x0_55 x0_56 x0_57 x0_58 x0_59 x0_60 x0_61 x0_62 y1 y2 y3 y4 y5 y6 y7 y8 y9 y10 y11 y12 y13 y14 y15 y16 y17 y18 y19 y20 y21 y22 y23 y24 y25) := hD
      refine lv_aload_n hx hb d_X_fitsIndex_158 rfl (lv_at hl 0 rfl) ?_
      refine va_get (D := D) (ci := 7) (v := .int x0_13) (C := "SignMachineModel") (T := F_X) (N := 64) hx hb hk fi_X hown hK.1 hP 0 rfl rfl 13 (by decide) (hk _ k_1134) (fun _ h9 => h9) rfl d_X_fitsIndex_159 ?_
      refine lv_iadd hx hb d_X_fitsIndex_162 ?_
      refine lv_topi (fun v8 hv8 => ?_)
      obtain ⟨ev8, Rv8⟩ : v8.toInt = rz7.toInt + x0_13.toInt ∧ ((-1073741823) ≤ v8.toInt ∧ v8.toInt ≤ 1073741886) := ad3 hv8 F0z7 Rx0_13 (by decide) (by decide) (by decide) (by decide)
      refine lv_sipush (v := 4095) hx hb d_X_fitsIndex_163 (by decide) ?_
      refine lv_icmp_gt (tgt := 173) hx hb d_X_fitsIndex_166 (by decide) (fun c9 => ?_) (fun c9 => ?_)
      · have gc9 : (4095 : Int) < v8.toInt := c_lt c9
        have R10 : 4096 ≤ v8.toInt ∧ v8.toInt ≤ 1073741886 := rf_gtX Rv8 (show 4095 ≤ (4095 : Int) ∧ (4095 : Int) ≤ 4095 from by decide) gc9 (by decide) (by decide)
        refine lv_iconst (v := 0) hx hb d_X_fitsIndex_173 (by decide) ?_
        exact W.zret (v := (0 : Int32)) hx hb hr (nar01 (by decide)) (fun t ht hW => ⟨⟨(0 : Int32), (0 : Int32), rfl, rfl, ⟨x0_17, x0_18, Rx0_17, Rx0_18, (by decide), (show hid ((0 : Int) = 1 → ((8 ≤ x0_12.toInt ∧ x0_12.toInt ≤ 23 ∧ x0_12.toInt % 8 ≠ 0 ∧ x0_12.toInt % 8 ≠ 7) → tvf y2 x0_15 x0_13 ≤ 4095)) from by first | assumption | (unfold hid; omega)), (show hid ((0 : Int) = 1 → ((49 ≤ x0_12.toInt ∧ x0_12.toInt ≤ 54 ∧ x0_13.toInt = 0) → (-4095 ≤ rv y3 y4 (x0_12 - (48 : Int32)).toNatClampNeg + x0_15.toInt ∧ rv y3 y4 (x0_12 - (48 : Int32)).toNatClampNeg + x0_15.toInt ≤ 4095))) from by first | assumption | (unfold hid; omega)), (show hid ((0 : Int) = 1 → ((49 ≤ x0_12.toInt ∧ x0_12.toInt ≤ 54 ∧ x0_13.toInt = 1) → (-4095 ≤ rv y3 y4 (x0_12 - (48 : Int32)).toNatClampNeg - x0_15.toInt ∧ rv y3 y4 (x0_12 - (48 : Int32)).toNatClampNeg - x0_15.toInt ≤ 4095))) from by first | assumption | (unfold hid; omega)), (show hid ((0 : Int) = 1 → ((49 ≤ x0_12.toInt ∧ x0_12.toInt ≤ 54 ∧ 2 ≤ x0_13.toInt) → (-4095 ≤ x0_15.toInt ∧ x0_15.toInt ≤ 4095))) from by first | assumption | (unfold hid; omega)), by show va_P D classes _ t.heap; rw [ht]; exact hP, hD⟩⟩, hS.F ht⟩) hS.2.2 d_X_fitsIndex_174
      · have gc9 : v8.toInt ≤ (4095 : Int) := c_nlt c9
        have R11 : (-1073741823) ≤ v8.toInt ∧ v8.toInt ≤ 4095 := rf_leX Rv8 (show 4095 ≤ (4095 : Int) ∧ (4095 : Int) ≤ 4095 from by decide) gc9 (by decide) (by decide)
        refine lv_iconst (v := 1) hx hb d_X_fitsIndex_169 (by decide) ?_
        refine lv_goto (tgt := 174) hx hb d_X_fitsIndex_170 (by decide) ?_
        exact W.zret (v := (1 : Int32)) hx hb hr (nar01 (by decide)) (fun t ht hW => ⟨⟨(1 : Int32), (1 : Int32), rfl, rfl, ⟨x0_17, x0_18, Rx0_17, Rx0_18, (by decide), (show hid ((1 : Int) = 1 → ((8 ≤ x0_12.toInt ∧ x0_12.toInt ≤ 23 ∧ x0_12.toInt % 8 ≠ 0 ∧ x0_12.toInt % 8 ≠ 7) → tvf y2 x0_15 x0_13 ≤ 4095)) from by first | assumption | (unfold hid; omega)), (show hid ((1 : Int) = 1 → ((49 ≤ x0_12.toInt ∧ x0_12.toInt ≤ 54 ∧ x0_13.toInt = 0) → (-4095 ≤ rv y3 y4 (x0_12 - (48 : Int32)).toNatClampNeg + x0_15.toInt ∧ rv y3 y4 (x0_12 - (48 : Int32)).toNatClampNeg + x0_15.toInt ≤ 4095))) from by first | assumption | (unfold hid; omega)), (show hid ((1 : Int) = 1 → ((49 ≤ x0_12.toInt ∧ x0_12.toInt ≤ 54 ∧ x0_13.toInt = 1) → (-4095 ≤ rv y3 y4 (x0_12 - (48 : Int32)).toNatClampNeg - x0_15.toInt ∧ rv y3 y4 (x0_12 - (48 : Int32)).toNatClampNeg - x0_15.toInt ≤ 4095))) from by first | assumption | (unfold hid; omega)), (show hid ((1 : Int) = 1 → ((49 ≤ x0_12.toInt ∧ x0_12.toInt ≤ 54 ∧ 2 ≤ x0_13.toInt) → (-4095 ≤ x0_15.toInt ∧ x0_15.toInt ≤ 4095))) from by first | assumption | (unfold hid; omega)), by show va_P D classes _ t.heap; rw [ht]; exact hP, hD⟩⟩, hS.F ht⟩) hS.2.2 d_X_fitsIndex_174
  · have gc1 : (8 : Int) ≤ x0_12.toInt := c_nlt c1
    have R12 : 8 ≤ x0_12.toInt ∧ x0_12.toInt ≤ 63 := rf_geX Rx0_12 (show 8 ≤ (8 : Int) ∧ (8 : Int) ≤ 8 from by decide) gc1 (by decide) (by decide)
    refine lv_aload_n hx hb d_X_fitsIndex_9 rfl (lv_at hl 0 rfl) ?_
    refine va_get (D := D) (ci := 7) (v := .int x0_12) (C := "SignMachineModel") (T := F_X) (N := 64) hx hb hk fi_X hown hK.1 hP 0 rfl rfl 12 (by decide) (hk _ k_1133) (fun _ h9 => h9) rfl d_X_fitsIndex_10 ?_
    refine lv_bipush (v := 23) hx hb d_X_fitsIndex_13 (by decide) ?_
    refine lv_icmp_gt (tgt := 51) hx hb d_X_fitsIndex_15 (by decide) (fun c13 => ?_) (fun c13 => ?_)
    · have gc13 : (23 : Int) < x0_12.toInt := c_lt c13
      have R14 : 24 ≤ x0_12.toInt ∧ x0_12.toInt ≤ 63 := rf_gtX R12 (show 23 ≤ (23 : Int) ∧ (23 : Int) ≤ 23 from by decide) gc13 (by decide) (by decide)
      refine lv_aload_n hx hb d_X_fitsIndex_51 rfl (lv_at hl 0 rfl) ?_
      refine va_get (D := D) (ci := 7) (v := .int x0_12) (C := "SignMachineModel") (T := F_X) (N := 64) hx hb hk fi_X hown hK.1 hP 0 rfl rfl 12 (by decide) (hk _ k_1133) (fun _ h9 => h9) rfl d_X_fitsIndex_52 ?_
      refine lv_bipush (v := 48) hx hb d_X_fitsIndex_55 (by decide) ?_
      refine lv_icmp_lt (tgt := 144) hx hb d_X_fitsIndex_57 (by decide) (fun c15 => ?_) (fun c15 => ?_)
      · have gc15 : x0_12.toInt < (48 : Int) := c_lt c15
        have R16 : 24 ≤ x0_12.toInt ∧ x0_12.toInt ≤ 47 := rf_ltX R14 (show 48 ≤ (48 : Int) ∧ (48 : Int) ≤ 48 from by decide) gc15 (by decide) (by decide)
        refine lv_aload_n hx hb d_X_fitsIndex_144 rfl (lv_at hl 0 rfl) ?_
        refine va_get (D := D) (ci := 7) (v := .int x0_12) (C := "SignMachineModel") (T := F_X) (N := 64) hx hb hk fi_X hown hK.1 hP 0 rfl rfl 12 (by decide) (hk _ k_1133) (fun _ h9 => h9) rfl d_X_fitsIndex_145 ?_
        refine lv_bipush (v := 7) hx hb d_X_fitsIndex_148 (by decide) ?_
        refine lv_icmp_ne (tgt := 169) hx hb d_X_fitsIndex_150 (by decide) (fun c17 => ?_) (fun c17 => absurd c17 (show ¬ x0_12 = (7 : Int32) from (fun q9 => (knE R16 (show 7 ≤ (7 : Int) ∧ (7 : Int) ≤ 7 from by decide) (by decide)) (c_eq q9))))
        refine lv_iconst (v := 1) hx hb d_X_fitsIndex_169 (by decide) ?_
        refine lv_goto (tgt := 174) hx hb d_X_fitsIndex_170 (by decide) ?_
        exact W.zret (v := (1 : Int32)) hx hb hr (nar01 (by decide)) (fun t ht hW => ⟨⟨(1 : Int32), (1 : Int32), rfl, rfl, ⟨x0_17, x0_18, Rx0_17, Rx0_18, (by decide), (show hid ((1 : Int) = 1 → ((8 ≤ x0_12.toInt ∧ x0_12.toInt ≤ 23 ∧ x0_12.toInt % 8 ≠ 0 ∧ x0_12.toInt % 8 ≠ 7) → tvf y2 x0_15 x0_13 ≤ 4095)) from by first | assumption | (unfold hid; omega)), (show hid ((1 : Int) = 1 → ((49 ≤ x0_12.toInt ∧ x0_12.toInt ≤ 54 ∧ x0_13.toInt = 0) → (-4095 ≤ rv y3 y4 (x0_12 - (48 : Int32)).toNatClampNeg + x0_15.toInt ∧ rv y3 y4 (x0_12 - (48 : Int32)).toNatClampNeg + x0_15.toInt ≤ 4095))) from by first | assumption | (unfold hid; omega)), (show hid ((1 : Int) = 1 → ((49 ≤ x0_12.toInt ∧ x0_12.toInt ≤ 54 ∧ x0_13.toInt = 1) → (-4095 ≤ rv y3 y4 (x0_12 - (48 : Int32)).toNatClampNeg - x0_15.toInt ∧ rv y3 y4 (x0_12 - (48 : Int32)).toNatClampNeg - x0_15.toInt ≤ 4095))) from by first | assumption | (unfold hid; omega)), (show hid ((1 : Int) = 1 → ((49 ≤ x0_12.toInt ∧ x0_12.toInt ≤ 54 ∧ 2 ≤ x0_13.toInt) → (-4095 ≤ x0_15.toInt ∧ x0_15.toInt ≤ 4095))) from by first | assumption | (unfold hid; omega)), by show va_P D classes _ t.heap; rw [ht]; exact hP, hD⟩⟩, hS.F ht⟩) hS.2.2 d_X_fitsIndex_174
      · have gc15 : (48 : Int) ≤ x0_12.toInt := c_nlt c15
        have R18 : 48 ≤ x0_12.toInt ∧ x0_12.toInt ≤ 63 := rf_geX R14 (show 48 ≤ (48 : Int) ∧ (48 : Int) ≤ 48 from by decide) gc15 (by decide) (by decide)
        refine lv_aload_n hx hb d_X_fitsIndex_60 rfl (lv_at hl 0 rfl) ?_
        refine va_get (D := D) (ci := 7) (v := .int x0_12) (C := "SignMachineModel") (T := F_X) (N := 64) hx hb hk fi_X hown hK.1 hP 0 rfl rfl 12 (by decide) (hk _ k_1133) (fun _ h9 => h9) rfl d_X_fitsIndex_61 ?_
        refine lv_bipush (v := 55) hx hb d_X_fitsIndex_64 (by decide) ?_
        refine lv_icmp_gt (tgt := 144) hx hb d_X_fitsIndex_66 (by decide) (fun c19 => ?_) (fun c19 => ?_)
        · have gc19 : (55 : Int) < x0_12.toInt := c_lt c19
          have R20 : 56 ≤ x0_12.toInt ∧ x0_12.toInt ≤ 63 := rf_gtX R18 (show 55 ≤ (55 : Int) ∧ (55 : Int) ≤ 55 from by decide) gc19 (by decide) (by decide)
          refine lv_aload_n hx hb d_X_fitsIndex_144 rfl (lv_at hl 0 rfl) ?_
          refine va_get (D := D) (ci := 7) (v := .int x0_12) (C := "SignMachineModel") (T := F_X) (N := 64) hx hb hk fi_X hown hK.1 hP 0 rfl rfl 12 (by decide) (hk _ k_1133) (fun _ h9 => h9) rfl d_X_fitsIndex_145 ?_
          refine lv_bipush (v := 7) hx hb d_X_fitsIndex_148 (by decide) ?_
          refine lv_icmp_ne (tgt := 169) hx hb d_X_fitsIndex_150 (by decide) (fun c21 => ?_) (fun c21 => absurd c21 (show ¬ x0_12 = (7 : Int32) from (fun q9 => (knE R20 (show 7 ≤ (7 : Int) ∧ (7 : Int) ≤ 7 from by decide) (by decide)) (c_eq q9))))
          refine lv_iconst (v := 1) hx hb d_X_fitsIndex_169 (by decide) ?_
          refine lv_goto (tgt := 174) hx hb d_X_fitsIndex_170 (by decide) ?_
          exact W.zret (v := (1 : Int32)) hx hb hr (nar01 (by decide)) (fun t ht hW => ⟨⟨(1 : Int32), (1 : Int32), rfl, rfl, ⟨x0_17, x0_18, Rx0_17, Rx0_18, (by decide), (show hid ((1 : Int) = 1 → ((8 ≤ x0_12.toInt ∧ x0_12.toInt ≤ 23 ∧ x0_12.toInt % 8 ≠ 0 ∧ x0_12.toInt % 8 ≠ 7) → tvf y2 x0_15 x0_13 ≤ 4095)) from by first | assumption | (unfold hid; omega)), (show hid ((1 : Int) = 1 → ((49 ≤ x0_12.toInt ∧ x0_12.toInt ≤ 54 ∧ x0_13.toInt = 0) → (-4095 ≤ rv y3 y4 (x0_12 - (48 : Int32)).toNatClampNeg + x0_15.toInt ∧ rv y3 y4 (x0_12 - (48 : Int32)).toNatClampNeg + x0_15.toInt ≤ 4095))) from by first | assumption | (unfold hid; omega)), (show hid ((1 : Int) = 1 → ((49 ≤ x0_12.toInt ∧ x0_12.toInt ≤ 54 ∧ x0_13.toInt = 1) → (-4095 ≤ rv y3 y4 (x0_12 - (48 : Int32)).toNatClampNeg - x0_15.toInt ∧ rv y3 y4 (x0_12 - (48 : Int32)).toNatClampNeg - x0_15.toInt ≤ 4095))) from by first | assumption | (unfold hid; omega)), (show hid ((1 : Int) = 1 → ((49 ≤ x0_12.toInt ∧ x0_12.toInt ≤ 54 ∧ 2 ≤ x0_13.toInt) → (-4095 ≤ x0_15.toInt ∧ x0_15.toInt ≤ 4095))) from by first | assumption | (unfold hid; omega)), by show va_P D classes _ t.heap; rw [ht]; exact hP, hD⟩⟩, hS.F ht⟩) hS.2.2 d_X_fitsIndex_174
        · have gc19 : x0_12.toInt ≤ (55 : Int) := c_nlt c19
          have R22 : 48 ≤ x0_12.toInt ∧ x0_12.toInt ≤ 55 := rf_leX R18 (show 55 ≤ (55 : Int) ∧ (55 : Int) ≤ 55 from by decide) gc19 (by decide) (by decide)
          refine lv_aload_n hx hb d_X_fitsIndex_69 rfl (lv_at hl 0 rfl) ?_
          refine va_get (D := D) (ci := 7) (v := .int x0_12) (C := "SignMachineModel") (T := F_X) (N := 64) hx hb hk fi_X hown hK.1 hP 0 rfl rfl 12 (by decide) (hk _ k_1133) (fun _ h9 => h9) rfl d_X_fitsIndex_70 ?_
          refine lv_bipush (v := 48) hx hb d_X_fitsIndex_73 (by decide) ?_
          refine lv_isub hx hb d_X_fitsIndex_75 ?_
          refine lv_topi (fun v23 hv23 => ?_)
          obtain ⟨ev23, Rv23⟩ : v23.toInt = x0_12.toInt - (48 : Int) ∧ (0 ≤ v23.toInt ∧ v23.toInt ≤ 7) := sb3 hv23 R22 (show 48 ≤ (48 : Int32).toInt ∧ (48 : Int32).toInt ≤ 48 from by decide) (by decide) (by decide) (by decide) (by decide)
          refine vp_callSi (W.runS (As := [.int v23]) (rest := []) ⟨hx, hb, hml, hown, hk⟩ (c_X_isShort l v23 ) (s_X_isShort hk k_1344 ⟨Nat.le_of_ble_eq_true rfl, Nat.le_of_ble_eq_true rfl⟩) ⟨fun a U g mk q => q, fun U hU hW => ⟨rfl, trivial⟩⟩ rfl rfl hl.1 rfl (lv_room (Nat.le_of_ble_eq_true rfl)) d_X_fitsIndex_76 ⟨Nat.le_of_ble_eq_true rfl, Nat.le_of_ble_eq_true rfl⟩) (fun rz24 hrz24 => ?_)
          obtain ⟨F0z24, F1z24, F2z24⟩ := hrz24
          have F0z24 : 0 ≤ rz24.toInt ∧ rz24.toInt ≤ 1 := F0z24
          have F1z24 : rz24.toInt = 0 → (v23.toInt = 0 ∨ v23.toInt = 7) := F1z24
          have F2z24 : rz24.toInt = 1 → (v23.toInt ≠ 0 ∧ v23.toInt ≠ 7) := F2z24
          refine lv_if_eq (tgt := 144) hx hb d_X_fitsIndex_79 (by decide) (fun c25 => ?_) (fun c25 => ?_)
          · have gc25 : rz24.toInt = (0 : Int) := c_eq c25
            have R26 : 0 ≤ rz24.toInt ∧ rz24.toInt ≤ 0 := rf_eqX F0z24 (show 0 ≤ (0 : Int) ∧ (0 : Int) ≤ 0 from by decide) gc25 (by decide) (by decide)
            refine lv_aload_n hx hb d_X_fitsIndex_144 rfl (lv_at hl 0 rfl) ?_
            refine va_get (D := D) (ci := 7) (v := .int x0_12) (C := "SignMachineModel") (T := F_X) (N := 64) hx hb hk fi_X hown hK.1 hP 0 rfl rfl 12 (by decide) (hk _ k_1133) (fun _ h9 => h9) rfl d_X_fitsIndex_145 ?_
            refine lv_bipush (v := 7) hx hb d_X_fitsIndex_148 (by decide) ?_
            refine lv_icmp_ne (tgt := 169) hx hb d_X_fitsIndex_150 (by decide) (fun c27 => ?_) (fun c27 => absurd c27 (show ¬ x0_12 = (7 : Int32) from (fun q9 => (knE R22 (show 7 ≤ (7 : Int) ∧ (7 : Int) ≤ 7 from by decide) (by decide)) (c_eq q9))))
            refine lv_iconst (v := 1) hx hb d_X_fitsIndex_169 (by decide) ?_
            refine lv_goto (tgt := 174) hx hb d_X_fitsIndex_170 (by decide) ?_
            exact W.zret (v := (1 : Int32)) hx hb hr (nar01 (by decide)) (fun t ht hW => ⟨⟨(1 : Int32), (1 : Int32), rfl, rfl, ⟨x0_17, x0_18, Rx0_17, Rx0_18, (by decide), (show hid ((1 : Int) = 1 → ((8 ≤ x0_12.toInt ∧ x0_12.toInt ≤ 23 ∧ x0_12.toInt % 8 ≠ 0 ∧ x0_12.toInt % 8 ≠ 7) → tvf y2 x0_15 x0_13 ≤ 4095)) from by first | assumption | (unfold hid; omega)), (show hid ((1 : Int) = 1 → ((49 ≤ x0_12.toInt ∧ x0_12.toInt ≤ 54 ∧ x0_13.toInt = 0) → (-4095 ≤ rv y3 y4 (x0_12 - (48 : Int32)).toNatClampNeg + x0_15.toInt ∧ rv y3 y4 (x0_12 - (48 : Int32)).toNatClampNeg + x0_15.toInt ≤ 4095))) from by first | assumption | (unfold hid; omega)), (show hid ((1 : Int) = 1 → ((49 ≤ x0_12.toInt ∧ x0_12.toInt ≤ 54 ∧ x0_13.toInt = 1) → (-4095 ≤ rv y3 y4 (x0_12 - (48 : Int32)).toNatClampNeg - x0_15.toInt ∧ rv y3 y4 (x0_12 - (48 : Int32)).toNatClampNeg - x0_15.toInt ≤ 4095))) from by first | assumption | (unfold hid; omega)), (show hid ((1 : Int) = 1 → ((49 ≤ x0_12.toInt ∧ x0_12.toInt ≤ 54 ∧ 2 ≤ x0_13.toInt) → (-4095 ≤ x0_15.toInt ∧ x0_15.toInt ≤ 4095))) from by first | assumption | (unfold hid; omega)), by show va_P D classes _ t.heap; rw [ht]; exact hP, hD⟩⟩, hS.F ht⟩) hS.2.2 d_X_fitsIndex_174
          · have gc25 : rz24.toInt ≠ (0 : Int) := c_ne c25
            have R28 : 1 ≤ rz24.toInt ∧ rz24.toInt ≤ 1 := rf_neX F0z24 (show 0 ≤ (0 : Int) ∧ (0 : Int) ≤ 0 from by decide) gc25 (by decide) (by decide)
            refine lv_aload_n hx hb d_X_fitsIndex_82 rfl (lv_at hl 0 rfl) ?_
            refine lv_aload_n hx hb d_X_fitsIndex_83 rfl (lv_at hl 0 rfl) ?_
            refine va_get (D := D) (ci := 7) (v := .int x0_12) (C := "SignMachineModel") (T := F_X) (N := 64) hx hb hk fi_X hown hK.1 hP 0 rfl rfl 12 (by decide) (hk _ k_1133) (fun _ h9 => h9) rfl d_X_fitsIndex_84 ?_
            refine lv_bipush (v := 48) hx hb d_X_fitsIndex_87 (by decide) ?_
            refine lv_isub hx hb d_X_fitsIndex_89 ?_
            refine lv_topi (fun v29 hv29 => ?_)
            obtain ⟨ev29, Rv29⟩ : v29.toInt = x0_12.toInt - (48 : Int) ∧ (0 ≤ v29.toInt ∧ v29.toInt ≤ 7) := sb3 hv29 R22 (show 48 ≤ (48 : Int32).toInt ∧ (48 : Int32).toInt ≤ 48 from by decide) (by decide) (by decide) (by decide) (by decide)
            refine sn_i (va_runV (C := "SignMachineModel") (As := [.int v29]) (rest := []) ⟨hx, hb, hml, hown, hk⟩ (c_X_indexValue l D cI cJ cZ cB p0 p1 p2 p3 p4 p5 p6 p7 p8 p9 p10 p11 p12 p13 p14 p15 p16 p17 p18 p19 p20 p21 p22 p23 p24 p25 s.heap.size x0_4 x0_5 x0_6 x0_7 x0_8 x0_12 x0_13 x0_14 x0_15 x0_16 x0_17 x0_18 x0_22 x0_23 x0_24 x0_25 x0_26 x0_27 x0_28 x0_29 x0_30 x0_31 x0_32 x0_36 x0_39 x0_40 x0_44 x0_49 x0_51 x0_53 x0_54 x0_55 x0_56 x0_57 x0_58 x0_59 x0_60 x0_61 x0_62 y1 y2 y3 y4 y5 y6 y7 y8 y9 y10 y11 y12 y13 y14 y15 y16 y17 y18 y19 y20 y21 y22 y23 y24 y25 v29 Ay3 Ay4 (rgw Rv29 (by decide) (by decide))) (v_X_indexValue hk k_1400 ⟨Nat.le_of_ble_eq_true rfl, Nat.le_of_ble_eq_true rfl⟩) (pM_v hK hP hD (ci := 7) (q0 := 0) rfl rfl rfl) rfl rfl hl.1 rfl (lv_room (Nat.le_of_ble_eq_true rfl)) d_X_fitsIndex_90 ⟨Nat.le_of_ble_eq_true rfl, Nat.le_of_ble_eq_true rfl⟩) hS hA hD (fun rz30 u t H locs hr0 ht hB hFr hS => ?_)
            subst hr0
            obtain ⟨F0z30, F1z30, F2z30, hP, hD⟩ := hB
            have F0z30 : (-1073741823) ≤ rz30.toInt ∧ rz30.toInt ≤ 1073741823 := F0z30
            have F1z30 : rz30.toInt = rv y3 y4 (v29).toNatClampNeg := F1z30
            have F2z30 : (1 ≤ v29.toInt ∧ v29.toInt ≤ 6) → (-4095 ≤ rz30.toInt ∧ rz30.toInt ≤ 4095) := F2z30
            rw [ht] at hP
            have hD := dwk hD hFr
            clear ht hFr
            have hP : va_P D classes (wS50 cI cJ cZ cB p0 p1 p2 p3 p4 p5 p6 p7 p8 p9 p10 p11 p12 p13 p14 p15 p16 p17 p18 p19 p20 p21 p22 p23 p24 p25 x0_4 x0_5 x0_6 x0_7 x0_8 x0_12 x0_13 x0_14 x0_15 x0_16 x0_17 x0_18 x0_22 x0_23 x0_24 x0_25 x0_26 x0_27 x0_28 x0_29 x0_30 x0_31 x0_32 x0_36 x0_39 x0_40 x0_44 x0_49 x0_51 x0_53 x0_54 x0_55 x0_56 x0_57 x0_58 x0_59 x0_60 x0_61 x0_62 y1 y2 y3 y4 y5 y6 y7 y8 y9 y10 y11 y12 y13 y14 y15 y16 y17 y18 y19 y20 y21 y22 y23 y24 y25) H := hP
            have hD : va_D A (wS50 cI cJ cZ cB p0 p1 p2 p3 p4 p5 p6 p7 p8 p9 p10 p11 p12 p13 p14 p15 p16 p17 p18 p19 p20 p21 p22 p23 p24 p25 x0_4 x0_5 x0_6 x0_7 x0_8 x0_12 x0_13 x0_14 x0_15 x0_16 x0_17 x0_18 x0_22 x0_23 x0_24 x0_25 x0_26 x0_27 x0_28 x0_29 x0_30 x0_31 x0_32 x0_36 x0_39 x0_40 x0_44 x0_49 x0_51 x0_53 x0_54 x0_55 x0_56 x0_57 x0_58 x0_59 x0_60 x0_61 x0_62 y1 y2 y3 y4 y5 y6 y7 y8 y9 y10 y11 y12 y13 y14 y15 y16 y17 y18 y19 y20 y21 y22 y23 y24 y25) := hD
            rw [hv29] at F1z30
            refine lv_istore_n (lv' := [(1, .int rz30), (0, .ref p0)]) hx hb d_X_fitsIndex_93 rfl hl (by decide) rfl (fun ls hl => ?_)
            refine lv_aload_n hx hb d_X_fitsIndex_94 rfl (lv_at hl 1 rfl) ?_
            refine va_get (D := D) (ci := 7) (v := .int x0_13) (C := "SignMachineModel") (T := F_X) (N := 64) hx hb hk fi_X hown hK.1 hP 0 rfl rfl 13 (by decide) (hk _ k_1134) (fun _ h9 => h9) rfl d_X_fitsIndex_95 ?_
            refine lv_if_ne (tgt := 110) hx hb d_X_fitsIndex_98 (by decide) (fun c31 => ?_) (fun c31 => ?_)
            · have gc31 : x0_13.toInt ≠ (0 : Int) := c_ne c31
              have R32 : 1 ≤ x0_13.toInt ∧ x0_13.toInt ≤ 63 := rf_neX Rx0_13 (show 0 ≤ (0 : Int) ∧ (0 : Int) ≤ 0 from by decide) gc31 (by decide) (by decide)
              refine lv_aload_n hx hb d_X_fitsIndex_110 rfl (lv_at hl 1 rfl) ?_
              refine va_get (D := D) (ci := 7) (v := .int x0_13) (C := "SignMachineModel") (T := F_X) (N := 64) hx hb hk fi_X hown hK.1 hP 0 rfl rfl 13 (by decide) (hk _ k_1134) (fun _ h9 => h9) rfl d_X_fitsIndex_111 ?_
              refine lv_iconst (v := 1) hx hb d_X_fitsIndex_114 (by decide) ?_
              refine lv_icmp_ne (tgt := 127) hx hb d_X_fitsIndex_115 (by decide) (fun c33 => ?_) (fun c33 => ?_)
              · have gc33 : x0_13.toInt ≠ (1 : Int) := c_ne c33
                have R34 : 2 ≤ x0_13.toInt ∧ x0_13.toInt ≤ 63 := rf_neX R32 (show 1 ≤ (1 : Int) ∧ (1 : Int) ≤ 1 from by decide) gc33 (by decide) (by decide)
                refine lv_aload_n hx hb d_X_fitsIndex_127 rfl (lv_at hl 1 rfl) ?_
                refine va_get (D := D) (ci := 7) (v := .int x0_15) (C := "SignMachineModel") (T := F_X) (N := 64) hx hb hk fi_X hown hK.1 hP 0 rfl rfl 15 (by decide) (hk _ k_1136) (fun _ h9 => h9) rfl d_X_fitsIndex_128 ?_
                refine lv_istore_n (lv' := [(2, .int x0_15), (1, .int rz30), (0, .ref p0)]) hx hb d_X_fitsIndex_131 rfl hl (by decide) rfl (fun ls hl => ?_)
                refine lv_iload_n hx hb d_X_fitsIndex_132 rfl (lv_at hl 0 rfl) ?_
                refine lv_i2l (v := (x0_15 : Int32).toInt64) hx hb d_X_fitsIndex_133 rfl ?_
                refine lv_topl (fun v35 hv35 => ?_)
                obtain ⟨ev35, Rv35⟩ : v35.toInt = x0_15.toInt ∧ ((-8190) ≤ v35.toInt ∧ v35.toInt ≤ 8190) := il3 hv35 Rx0_15
                refine lv_ldc2 (v := (-4095)) hx hb hown (hk _ k_1418) d_X_fitsIndex_134 ?_
                refine lv_ldc2 (v := 4095) hx hb hown (hk _ k_1347) d_X_fitsIndex_137 ?_
                refine vp_callSi (W.runS (As := [.long v35, .long (-4095 : Int64), .long (4095 : Int64)]) (rest := []) ⟨hx, hb, hml, hown, hk⟩ (c_X_isIn l v35 (-4095 : Int64) (4095 : Int64) ) (s_X_isIn hk k_1319 ⟨Nat.le_of_ble_eq_true rfl, Nat.le_of_ble_eq_true rfl⟩) ⟨fun a U g mk q => q, fun U hU hW => ⟨rfl, trivial⟩⟩ rfl rfl hl.1 rfl (lv_room (Nat.le_of_ble_eq_true rfl)) d_X_fitsIndex_140 ⟨Nat.le_of_ble_eq_true rfl, Nat.le_of_ble_eq_true rfl⟩) (fun rz36 hrz36 => ?_)
                obtain ⟨F0z36, F1z36, F2z36⟩ := hrz36
                have F0z36 : 0 ≤ rz36.toInt ∧ rz36.toInt ≤ 1 := F0z36
                have F1z36 : rz36.toInt = 1 → ((-4095 : Int) ≤ v35.toInt ∧ v35.toInt ≤ (4095 : Int)) := F1z36
                have F2z36 : rz36.toInt = 0 → (v35.toInt < (-4095 : Int) ∨ (4095 : Int) < v35.toInt) := F2z36
                exact W.zret (v := rz36) hx hb hr (nar01 F0z36) (fun t ht hW => ⟨⟨rz36, rz36, rfl, rfl, ⟨x0_17, x0_18, Rx0_17, Rx0_18, F0z36, (show hid (rz36.toInt = 1 → ((8 ≤ x0_12.toInt ∧ x0_12.toInt ≤ 23 ∧ x0_12.toInt % 8 ≠ 0 ∧ x0_12.toInt % 8 ≠ 7) → tvf y2 x0_15 x0_13 ≤ 4095)) from by first | assumption | (unfold hid; omega)), (show hid (rz36.toInt = 1 → ((49 ≤ x0_12.toInt ∧ x0_12.toInt ≤ 54 ∧ x0_13.toInt = 0) → (-4095 ≤ rv y3 y4 (x0_12 - (48 : Int32)).toNatClampNeg + x0_15.toInt ∧ rv y3 y4 (x0_12 - (48 : Int32)).toNatClampNeg + x0_15.toInt ≤ 4095))) from by first | assumption | (unfold hid; omega)), (show hid (rz36.toInt = 1 → ((49 ≤ x0_12.toInt ∧ x0_12.toInt ≤ 54 ∧ x0_13.toInt = 1) → (-4095 ≤ rv y3 y4 (x0_12 - (48 : Int32)).toNatClampNeg - x0_15.toInt ∧ rv y3 y4 (x0_12 - (48 : Int32)).toNatClampNeg - x0_15.toInt ≤ 4095))) from by first | assumption | (unfold hid; omega)), (show hid (rz36.toInt = 1 → ((49 ≤ x0_12.toInt ∧ x0_12.toInt ≤ 54 ∧ 2 ≤ x0_13.toInt) → (-4095 ≤ x0_15.toInt ∧ x0_15.toInt ≤ 4095))) from by first | assumption | (unfold hid; omega)), by show va_P D classes _ t.heap; rw [ht]; exact hP, hD⟩⟩, hS.F ht⟩) hS.2.2 d_X_fitsIndex_143
              · have gc33 : x0_13.toInt = (1 : Int) := c_eq c33
                have R37 : 1 ≤ x0_13.toInt ∧ x0_13.toInt ≤ 1 := rf_eqX R32 (show 1 ≤ (1 : Int) ∧ (1 : Int) ≤ 1 from by decide) gc33 (by decide) (by decide)
                refine lv_iload_n hx hb d_X_fitsIndex_118 rfl (lv_at hl 0 rfl) ?_
                refine lv_aload_n hx hb d_X_fitsIndex_119 rfl (lv_at hl 1 rfl) ?_
                refine va_get (D := D) (ci := 7) (v := .int x0_15) (C := "SignMachineModel") (T := F_X) (N := 64) hx hb hk fi_X hown hK.1 hP 0 rfl rfl 15 (by decide) (hk _ k_1136) (fun _ h9 => h9) rfl d_X_fitsIndex_120 ?_
                refine lv_isub hx hb d_X_fitsIndex_123 ?_
                refine lv_topi (fun v38 hv38 => ?_)
                obtain ⟨ev38, Rv38⟩ : v38.toInt = rz30.toInt - x0_15.toInt ∧ ((-1073750013) ≤ v38.toInt ∧ v38.toInt ≤ 1073750013) := sb3 hv38 F0z30 Rx0_15 (by decide) (by decide) (by decide) (by decide)
                refine lv_goto (tgt := 131) hx hb d_X_fitsIndex_124 (by decide) ?_
                refine lv_istore_n (lv' := [(2, .int v38), (1, .int rz30), (0, .ref p0)]) hx hb d_X_fitsIndex_131 rfl hl (by decide) rfl (fun ls hl => ?_)
                refine lv_iload_n hx hb d_X_fitsIndex_132 rfl (lv_at hl 0 rfl) ?_
                refine lv_i2l (v := (v38 : Int32).toInt64) hx hb d_X_fitsIndex_133 rfl ?_
                refine lv_topl (fun v39 hv39 => ?_)
                obtain ⟨ev39, Rv39⟩ : v39.toInt = v38.toInt ∧ ((-1073750013) ≤ v39.toInt ∧ v39.toInt ≤ 1073750013) := il3 hv39 Rv38
                refine lv_ldc2 (v := (-4095)) hx hb hown (hk _ k_1418) d_X_fitsIndex_134 ?_
                refine lv_ldc2 (v := 4095) hx hb hown (hk _ k_1347) d_X_fitsIndex_137 ?_
                refine vp_callSi (W.runS (As := [.long v39, .long (-4095 : Int64), .long (4095 : Int64)]) (rest := []) ⟨hx, hb, hml, hown, hk⟩ (c_X_isIn l v39 (-4095 : Int64) (4095 : Int64) ) (s_X_isIn hk k_1319 ⟨Nat.le_of_ble_eq_true rfl, Nat.le_of_ble_eq_true rfl⟩) ⟨fun a U g mk q => q, fun U hU hW => ⟨rfl, trivial⟩⟩ rfl rfl hl.1 rfl (lv_room (Nat.le_of_ble_eq_true rfl)) d_X_fitsIndex_140 ⟨Nat.le_of_ble_eq_true rfl, Nat.le_of_ble_eq_true rfl⟩) (fun rz40 hrz40 => ?_)
                obtain ⟨F0z40, F1z40, F2z40⟩ := hrz40
                have F0z40 : 0 ≤ rz40.toInt ∧ rz40.toInt ≤ 1 := F0z40
                have F1z40 : rz40.toInt = 1 → ((-4095 : Int) ≤ v39.toInt ∧ v39.toInt ≤ (4095 : Int)) := F1z40
                have F2z40 : rz40.toInt = 0 → (v39.toInt < (-4095 : Int) ∨ (4095 : Int) < v39.toInt) := F2z40
                exact W.zret (v := rz40) hx hb hr (nar01 F0z40) (fun t ht hW => ⟨⟨rz40, rz40, rfl, rfl, ⟨x0_17, x0_18, Rx0_17, Rx0_18, F0z40, (show hid (rz40.toInt = 1 → ((8 ≤ x0_12.toInt ∧ x0_12.toInt ≤ 23 ∧ x0_12.toInt % 8 ≠ 0 ∧ x0_12.toInt % 8 ≠ 7) → tvf y2 x0_15 x0_13 ≤ 4095)) from by first | assumption | (unfold hid; omega)), (show hid (rz40.toInt = 1 → ((49 ≤ x0_12.toInt ∧ x0_12.toInt ≤ 54 ∧ x0_13.toInt = 0) → (-4095 ≤ rv y3 y4 (x0_12 - (48 : Int32)).toNatClampNeg + x0_15.toInt ∧ rv y3 y4 (x0_12 - (48 : Int32)).toNatClampNeg + x0_15.toInt ≤ 4095))) from by first | assumption | (unfold hid; omega)), (show hid (rz40.toInt = 1 → ((49 ≤ x0_12.toInt ∧ x0_12.toInt ≤ 54 ∧ x0_13.toInt = 1) → (-4095 ≤ rv y3 y4 (x0_12 - (48 : Int32)).toNatClampNeg - x0_15.toInt ∧ rv y3 y4 (x0_12 - (48 : Int32)).toNatClampNeg - x0_15.toInt ≤ 4095))) from by first | assumption | (unfold hid; omega)), (show hid (rz40.toInt = 1 → ((49 ≤ x0_12.toInt ∧ x0_12.toInt ≤ 54 ∧ 2 ≤ x0_13.toInt) → (-4095 ≤ x0_15.toInt ∧ x0_15.toInt ≤ 4095))) from by first | assumption | (unfold hid; omega)), by show va_P D classes _ t.heap; rw [ht]; exact hP, hD⟩⟩, hS.F ht⟩) hS.2.2 d_X_fitsIndex_143
            · have gc31 : x0_13.toInt = (0 : Int) := c_eq c31
              have R41 : 0 ≤ x0_13.toInt ∧ x0_13.toInt ≤ 0 := rf_eqX Rx0_13 (show 0 ≤ (0 : Int) ∧ (0 : Int) ≤ 0 from by decide) gc31 (by decide) (by decide)
              refine lv_iload_n hx hb d_X_fitsIndex_101 rfl (lv_at hl 0 rfl) ?_
              refine lv_aload_n hx hb d_X_fitsIndex_102 rfl (lv_at hl 1 rfl) ?_
              refine va_get (D := D) (ci := 7) (v := .int x0_15) (C := "SignMachineModel") (T := F_X) (N := 64) hx hb hk fi_X hown hK.1 hP 0 rfl rfl 15 (by decide) (hk _ k_1136) (fun _ h9 => h9) rfl d_X_fitsIndex_103 ?_
              refine lv_iadd hx hb d_X_fitsIndex_106 ?_
              refine lv_topi (fun v42 hv42 => ?_)
              obtain ⟨ev42, Rv42⟩ : v42.toInt = rz30.toInt + x0_15.toInt ∧ ((-1073750013) ≤ v42.toInt ∧ v42.toInt ≤ 1073750013) := ad3 hv42 F0z30 Rx0_15 (by decide) (by decide) (by decide) (by decide)
              refine lv_goto (tgt := 131) hx hb d_X_fitsIndex_107 (by decide) ?_
              refine lv_istore_n (lv' := [(2, .int v42), (1, .int rz30), (0, .ref p0)]) hx hb d_X_fitsIndex_131 rfl hl (by decide) rfl (fun ls hl => ?_)
              refine lv_iload_n hx hb d_X_fitsIndex_132 rfl (lv_at hl 0 rfl) ?_
              refine lv_i2l (v := (v42 : Int32).toInt64) hx hb d_X_fitsIndex_133 rfl ?_
              refine lv_topl (fun v43 hv43 => ?_)
              obtain ⟨ev43, Rv43⟩ : v43.toInt = v42.toInt ∧ ((-1073750013) ≤ v43.toInt ∧ v43.toInt ≤ 1073750013) := il3 hv43 Rv42
              refine lv_ldc2 (v := (-4095)) hx hb hown (hk _ k_1418) d_X_fitsIndex_134 ?_
              refine lv_ldc2 (v := 4095) hx hb hown (hk _ k_1347) d_X_fitsIndex_137 ?_
              refine vp_callSi (W.runS (As := [.long v43, .long (-4095 : Int64), .long (4095 : Int64)]) (rest := []) ⟨hx, hb, hml, hown, hk⟩ (c_X_isIn l v43 (-4095 : Int64) (4095 : Int64) ) (s_X_isIn hk k_1319 ⟨Nat.le_of_ble_eq_true rfl, Nat.le_of_ble_eq_true rfl⟩) ⟨fun a U g mk q => q, fun U hU hW => ⟨rfl, trivial⟩⟩ rfl rfl hl.1 rfl (lv_room (Nat.le_of_ble_eq_true rfl)) d_X_fitsIndex_140 ⟨Nat.le_of_ble_eq_true rfl, Nat.le_of_ble_eq_true rfl⟩) (fun rz44 hrz44 => ?_)
              obtain ⟨F0z44, F1z44, F2z44⟩ := hrz44
              have F0z44 : 0 ≤ rz44.toInt ∧ rz44.toInt ≤ 1 := F0z44
              have F1z44 : rz44.toInt = 1 → ((-4095 : Int) ≤ v43.toInt ∧ v43.toInt ≤ (4095 : Int)) := F1z44
              have F2z44 : rz44.toInt = 0 → (v43.toInt < (-4095 : Int) ∨ (4095 : Int) < v43.toInt) := F2z44
              exact W.zret (v := rz44) hx hb hr (nar01 F0z44) (fun t ht hW => ⟨⟨rz44, rz44, rfl, rfl, ⟨x0_17, x0_18, Rx0_17, Rx0_18, F0z44, (show hid (rz44.toInt = 1 → ((8 ≤ x0_12.toInt ∧ x0_12.toInt ≤ 23 ∧ x0_12.toInt % 8 ≠ 0 ∧ x0_12.toInt % 8 ≠ 7) → tvf y2 x0_15 x0_13 ≤ 4095)) from by first | assumption | (unfold hid; omega)), (show hid (rz44.toInt = 1 → ((49 ≤ x0_12.toInt ∧ x0_12.toInt ≤ 54 ∧ x0_13.toInt = 0) → (-4095 ≤ rv y3 y4 (x0_12 - (48 : Int32)).toNatClampNeg + x0_15.toInt ∧ rv y3 y4 (x0_12 - (48 : Int32)).toNatClampNeg + x0_15.toInt ≤ 4095))) from by first | assumption | (unfold hid; omega)), (show hid (rz44.toInt = 1 → ((49 ≤ x0_12.toInt ∧ x0_12.toInt ≤ 54 ∧ x0_13.toInt = 1) → (-4095 ≤ rv y3 y4 (x0_12 - (48 : Int32)).toNatClampNeg - x0_15.toInt ∧ rv y3 y4 (x0_12 - (48 : Int32)).toNatClampNeg - x0_15.toInt ≤ 4095))) from by first | assumption | (unfold hid; omega)), (show hid (rz44.toInt = 1 → ((49 ≤ x0_12.toInt ∧ x0_12.toInt ≤ 54 ∧ 2 ≤ x0_13.toInt) → (-4095 ≤ x0_15.toInt ∧ x0_15.toInt ≤ 4095))) from by first | assumption | (unfold hid; omega)), by show va_P D classes _ t.heap; rw [ht]; exact hP, hD⟩⟩, hS.F ht⟩) hS.2.2 d_X_fitsIndex_143
    · have gc13 : x0_12.toInt ≤ (23 : Int) := c_nlt c13
      have R45 : 8 ≤ x0_12.toInt ∧ x0_12.toInt ≤ 23 := rf_leX R12 (show 23 ≤ (23 : Int) ∧ (23 : Int) ≤ 23 from by decide) gc13 (by decide) (by decide)
      refine lv_aload_n hx hb d_X_fitsIndex_18 rfl (lv_at hl 0 rfl) ?_
      refine kn_v (va_runV (C := "SignMachineModel") (As := []) (rest := []) ⟨hx, hb, hml, hown, hk⟩ (c_X_takeValue l D cI cJ cZ cB p0 p1 p2 p3 p4 p5 p6 p7 p8 p9 p10 p11 p12 p13 p14 p15 p16 p17 p18 p19 p20 p21 p22 p23 p24 p25 s.heap.size x0_4 x0_5 x0_6 x0_7 x0_8 x0_12 x0_13 x0_14 x0_15 x0_16 x0_17 x0_18 x0_22 x0_23 x0_24 x0_25 x0_26 x0_27 x0_28 x0_29 x0_30 x0_31 x0_32 x0_36 x0_39 x0_40 x0_44 x0_49 x0_51 x0_53 x0_54 x0_55 x0_56 x0_57 x0_58 x0_59 x0_60 x0_61 x0_62 y1 y2 y3 y4 y5 y6 y7 y8 y9 y10 y11 y12 y13 y14 y15 y16 y17 y18 y19 y20 y21 y22 y23 y24 y25  Rx0_13 Rx0_15 Rx0_17 Rx0_18 Ay1 Ay2 (Q1 (by omega)) (Q0 (by omega))) (v_X_takeValue hk k_1408 ⟨Nat.le_of_ble_eq_true rfl, Nat.le_of_ble_eq_true rfl⟩) (pM_v hK hP hD (ci := 7) (q0 := 0) rfl rfl rfl) rfl rfl hl.1 rfl (lv_room (Nat.le_of_ble_eq_true rfl)) d_X_fitsIndex_19 ⟨Nat.le_of_ble_eq_true rfl, Nat.le_of_ble_eq_true rfl⟩) hS hA hD (fun u t H locs ht hB hFr hS => ?_)
      obtain ⟨x0_17z46, x0_18z46, Rx0_17z46, Rx0_18z46, F0z46, hP, hD⟩ := hB
      have F0z46 : x0_18z46.toInt = tvf y2 x0_15 x0_13 := F0z46
      rw [ht] at hP
      have hD := dwk hD hFr
      clear ht hFr
      have hP : va_P D classes (wS50 cI cJ cZ cB p0 p1 p2 p3 p4 p5 p6 p7 p8 p9 p10 p11 p12 p13 p14 p15 p16 p17 p18 p19 p20 p21 p22 p23 p24 p25 x0_4 x0_5 x0_6 x0_7 x0_8 x0_12 x0_13 x0_14 x0_15 x0_16 x0_17z46 x0_18z46 x0_22 x0_23 x0_24 x0_25 x0_26 x0_27 x0_28 x0_29 x0_30 x0_31 x0_32 x0_36 x0_39 x0_40 x0_44 x0_49 x0_51 x0_53 x0_54 x0_55 x0_56 x0_57 x0_58 x0_59 x0_60 x0_61 x0_62 y1 y2 y3 y4 y5 y6 y7 y8 y9 y10 y11 y12 y13 y14 y15 y16 y17 y18 y19 y20 y21 y22 y23 y24 y25) H := hP
      have hD : va_D A (wS50 cI cJ cZ cB p0 p1 p2 p3 p4 p5 p6 p7 p8 p9 p10 p11 p12 p13 p14 p15 p16 p17 p18 p19 p20 p21 p22 p23 p24 p25 x0_4 x0_5 x0_6 x0_7 x0_8 x0_12 x0_13 x0_14 x0_15 x0_16 x0_17z46 x0_18z46 x0_22 x0_23 x0_24 x0_25 x0_26 x0_27 x0_28 x0_29 x0_30 x0_31 x0_32 x0_36 x0_39 x0_40 x0_44 x0_49 x0_51 x0_53 x0_54 x0_55 x0_56 x0_57 x0_58 x0_59 x0_60 x0_61 x0_62 y1 y2 y3 y4 y5 y6 y7 y8 y9 y10 y11 y12 y13 y14 y15 y16 y17 y18 y19 y20 y21 y22 y23 y24 y25) := hD
      refine lv_aload_n hx hb d_X_fitsIndex_22 rfl (lv_at hl 0 rfl) ?_
      refine va_get (D := D) (ci := 7) (v := .int x0_12) (C := "SignMachineModel") (T := F_X) (N := 64) hx hb hk fi_X hown hK.1 hP 0 rfl rfl 12 (by decide) (hk _ k_1133) (fun _ h9 => h9) rfl d_X_fitsIndex_23 ?_
      refine lv_bipush (v := 8) hx hb d_X_fitsIndex_26 (by decide) ?_
      refine lv_irem hx hb d_X_fitsIndex_28 (by decide) ?_
      refine lv_topi (fun v47 hv47 => ?_)
      obtain ⟨ev47, lv47, Rv47⟩ : v47.toInt = x0_12.toInt % (8 : Int) ∧ v47.toInt < (8 : Int) ∧ (0 ≤ v47.toInt ∧ v47.toInt ≤ 7) := rm3 hv47 R45 (show 8 ≤ (8 : Int32).toInt ∧ (8 : Int32).toInt ≤ 8 from by decide) (by decide) (by decide) (by decide)
      refine vp_callSi (W.runS (As := [.int v47]) (rest := []) ⟨hx, hb, hml, hown, hk⟩ (c_X_isShort l v47 ) (s_X_isShort hk k_1344 ⟨Nat.le_of_ble_eq_true rfl, Nat.le_of_ble_eq_true rfl⟩) ⟨fun a U g mk q => q, fun U hU hW => ⟨rfl, trivial⟩⟩ rfl rfl hl.1 rfl (lv_room (Nat.le_of_ble_eq_true rfl)) d_X_fitsIndex_29 ⟨Nat.le_of_ble_eq_true rfl, Nat.le_of_ble_eq_true rfl⟩) (fun rz48 hrz48 => ?_)
      obtain ⟨F0z48, F1z48, F2z48⟩ := hrz48
      have F0z48 : 0 ≤ rz48.toInt ∧ rz48.toInt ≤ 1 := F0z48
      have F1z48 : rz48.toInt = 0 → (v47.toInt = 0 ∨ v47.toInt = 7) := F1z48
      have F2z48 : rz48.toInt = 1 → (v47.toInt ≠ 0 ∧ v47.toInt ≠ 7) := F2z48
      refine lv_if_eq (tgt := 45) hx hb d_X_fitsIndex_32 (by decide) (fun c49 => ?_) (fun c49 => ?_)
      · have gc49 : rz48.toInt = (0 : Int) := c_eq c49
        have R50 : 0 ≤ rz48.toInt ∧ rz48.toInt ≤ 0 := rf_eqX F0z48 (show 0 ≤ (0 : Int) ∧ (0 : Int) ≤ 0 from by decide) gc49 (by decide) (by decide)
        refine lv_iconst (v := 1) hx hb d_X_fitsIndex_45 (by decide) ?_
        refine lv_goto (tgt := 50) hx hb d_X_fitsIndex_46 (by decide) ?_
        exact W.zret (v := (1 : Int32)) hx hb hr (nar01 (by decide)) (fun t ht hW => ⟨⟨(1 : Int32), (1 : Int32), rfl, rfl, ⟨x0_17z46, x0_18z46, Rx0_17z46, Rx0_18z46, (by decide), (show hid ((1 : Int) = 1 → ((8 ≤ x0_12.toInt ∧ x0_12.toInt ≤ 23 ∧ x0_12.toInt % 8 ≠ 0 ∧ x0_12.toInt % 8 ≠ 7) → tvf y2 x0_15 x0_13 ≤ 4095)) from by first | assumption | (unfold hid; omega)), (show hid ((1 : Int) = 1 → ((49 ≤ x0_12.toInt ∧ x0_12.toInt ≤ 54 ∧ x0_13.toInt = 0) → (-4095 ≤ rv y3 y4 (x0_12 - (48 : Int32)).toNatClampNeg + x0_15.toInt ∧ rv y3 y4 (x0_12 - (48 : Int32)).toNatClampNeg + x0_15.toInt ≤ 4095))) from by first | assumption | (unfold hid; omega)), (show hid ((1 : Int) = 1 → ((49 ≤ x0_12.toInt ∧ x0_12.toInt ≤ 54 ∧ x0_13.toInt = 1) → (-4095 ≤ rv y3 y4 (x0_12 - (48 : Int32)).toNatClampNeg - x0_15.toInt ∧ rv y3 y4 (x0_12 - (48 : Int32)).toNatClampNeg - x0_15.toInt ≤ 4095))) from by first | assumption | (unfold hid; omega)), (show hid ((1 : Int) = 1 → ((49 ≤ x0_12.toInt ∧ x0_12.toInt ≤ 54 ∧ 2 ≤ x0_13.toInt) → (-4095 ≤ x0_15.toInt ∧ x0_15.toInt ≤ 4095))) from by first | assumption | (unfold hid; omega)), by show va_P D classes _ t.heap; rw [ht]; exact hP, hD⟩⟩, hS.F ht⟩) hS.2.2 d_X_fitsIndex_50
      · have gc49 : rz48.toInt ≠ (0 : Int) := c_ne c49
        have R51 : 1 ≤ rz48.toInt ∧ rz48.toInt ≤ 1 := rf_neX F0z48 (show 0 ≤ (0 : Int) ∧ (0 : Int) ≤ 0 from by decide) gc49 (by decide) (by decide)
        refine lv_aload_n hx hb d_X_fitsIndex_35 rfl (lv_at hl 0 rfl) ?_
        refine va_get (D := D) (ci := 7) (v := .int x0_18z46) (C := "SignMachineModel") (T := F_X) (N := 64) hx hb hk fi_X hown hK.1 hP 0 rfl rfl 18 (by decide) (hk _ k_1139) (fun _ h9 => h9) rfl d_X_fitsIndex_36 ?_
        refine lv_sipush (v := 4095) hx hb d_X_fitsIndex_39 (by decide) ?_
        refine lv_icmp_gt (tgt := 49) hx hb d_X_fitsIndex_42 (by decide) (fun c52 => ?_) (fun c52 => ?_)
        · have gc52 : (4095 : Int) < x0_18z46.toInt := c_lt c52
          have R53 : 4096 ≤ x0_18z46.toInt ∧ x0_18z46.toInt ≤ 1073741823 := rf_gtX Rx0_18z46 (show 4095 ≤ (4095 : Int) ∧ (4095 : Int) ≤ 4095 from by decide) gc52 (by decide) (by decide)
          refine lv_iconst (v := 0) hx hb d_X_fitsIndex_49 (by decide) ?_
          exact W.zret (v := (0 : Int32)) hx hb hr (nar01 (by decide)) (fun t ht hW => ⟨⟨(0 : Int32), (0 : Int32), rfl, rfl, ⟨x0_17z46, x0_18z46, Rx0_17z46, (rgw R53 (by decide) (by decide)), (by decide), (show hid ((0 : Int) = 1 → ((8 ≤ x0_12.toInt ∧ x0_12.toInt ≤ 23 ∧ x0_12.toInt % 8 ≠ 0 ∧ x0_12.toInt % 8 ≠ 7) → tvf y2 x0_15 x0_13 ≤ 4095)) from by first | assumption | (unfold hid; omega)), (show hid ((0 : Int) = 1 → ((49 ≤ x0_12.toInt ∧ x0_12.toInt ≤ 54 ∧ x0_13.toInt = 0) → (-4095 ≤ rv y3 y4 (x0_12 - (48 : Int32)).toNatClampNeg + x0_15.toInt ∧ rv y3 y4 (x0_12 - (48 : Int32)).toNatClampNeg + x0_15.toInt ≤ 4095))) from by first | assumption | (unfold hid; omega)), (show hid ((0 : Int) = 1 → ((49 ≤ x0_12.toInt ∧ x0_12.toInt ≤ 54 ∧ x0_13.toInt = 1) → (-4095 ≤ rv y3 y4 (x0_12 - (48 : Int32)).toNatClampNeg - x0_15.toInt ∧ rv y3 y4 (x0_12 - (48 : Int32)).toNatClampNeg - x0_15.toInt ≤ 4095))) from by first | assumption | (unfold hid; omega)), (show hid ((0 : Int) = 1 → ((49 ≤ x0_12.toInt ∧ x0_12.toInt ≤ 54 ∧ 2 ≤ x0_13.toInt) → (-4095 ≤ x0_15.toInt ∧ x0_15.toInt ≤ 4095))) from by first | assumption | (unfold hid; omega)), by show va_P D classes _ t.heap; rw [ht]; exact hP, hD⟩⟩, hS.F ht⟩) hS.2.2 d_X_fitsIndex_50
        · have gc52 : x0_18z46.toInt ≤ (4095 : Int) := c_nlt c52
          have R54 : 0 ≤ x0_18z46.toInt ∧ x0_18z46.toInt ≤ 4095 := rf_leX Rx0_18z46 (show 4095 ≤ (4095 : Int) ∧ (4095 : Int) ≤ 4095 from by decide) gc52 (by decide) (by decide)
          refine lv_iconst (v := 1) hx hb d_X_fitsIndex_45 (by decide) ?_
          refine lv_goto (tgt := 50) hx hb d_X_fitsIndex_46 (by decide) ?_
          exact W.zret (v := (1 : Int32)) hx hb hr (nar01 (by decide)) (fun t ht hW => ⟨⟨(1 : Int32), (1 : Int32), rfl, rfl, ⟨x0_17z46, x0_18z46, Rx0_17z46, (rgw R54 (by decide) (by decide)), (by decide), (show hid ((1 : Int) = 1 → ((8 ≤ x0_12.toInt ∧ x0_12.toInt ≤ 23 ∧ x0_12.toInt % 8 ≠ 0 ∧ x0_12.toInt % 8 ≠ 7) → tvf y2 x0_15 x0_13 ≤ 4095)) from by first | assumption | (unfold hid; omega)), (show hid ((1 : Int) = 1 → ((49 ≤ x0_12.toInt ∧ x0_12.toInt ≤ 54 ∧ x0_13.toInt = 0) → (-4095 ≤ rv y3 y4 (x0_12 - (48 : Int32)).toNatClampNeg + x0_15.toInt ∧ rv y3 y4 (x0_12 - (48 : Int32)).toNatClampNeg + x0_15.toInt ≤ 4095))) from by first | assumption | (unfold hid; omega)), (show hid ((1 : Int) = 1 → ((49 ≤ x0_12.toInt ∧ x0_12.toInt ≤ 54 ∧ x0_13.toInt = 1) → (-4095 ≤ rv y3 y4 (x0_12 - (48 : Int32)).toNatClampNeg - x0_15.toInt ∧ rv y3 y4 (x0_12 - (48 : Int32)).toNatClampNeg - x0_15.toInt ≤ 4095))) from by first | assumption | (unfold hid; omega)), (show hid ((1 : Int) = 1 → ((49 ≤ x0_12.toInt ∧ x0_12.toInt ≤ 54 ∧ 2 ≤ x0_13.toInt) → (-4095 ≤ x0_15.toInt ∧ x0_15.toInt ≤ 4095))) from by first | assumption | (unfold hid; omega)), by show va_P D classes _ t.heap; rw [ht]; exact hP, hD⟩⟩, hS.F ht⟩) hS.2.2 d_X_fitsIndex_50
theorem v_X_fitsIndex {R : Room} {s : State} {args : Array Value} {own : String} {index : Nat} (hk : ∀ w ∈ tb, w.before args s = true) (hl : Cond.methodLink own index y_X_fitsIndex ∈ tb) (hR : 3 + 1 ≤ R.frames ∧ 8 + (3 + 11) + 67 ≤ R.locals) : CallW R s args own "SignMachineModel" index y_X_fitsIndex b_X_fitsIndex 3 (some .boolean) (.code y_X_fitsIndex b_X_fitsIndex 3 (some .boolean) :: tb) ({ frames := 3, cells := 0, slots := 0, locals := 67 }) 0 0 0 := mk_v 0 hk k_1407 hl k_1406 k_66 k_119 rfl rfl h_X_fitsIndex hR

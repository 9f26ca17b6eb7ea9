set_option maxHeartbeats 8000000 in
set_option maxRecDepth 100000 in
theorem c_X_isIn (l : Launch)  (a1 : Int64) (a2 : Int64) (a3 : Int64)  : Met l y_X_isIn (.code y_X_isIn b_X_isIn 6 (some .boolean) :: tb) ({ frames := 0, cells := 0, slots := 0, locals := 0 }) (va_Pc [.long a1, .long a2, .long a3] (fun _ => True)) (vp_Si (fun ur => (0 ≤ ur.toInt ∧ ur.toInt ≤ 1) ∧ (ur.toInt = 1 → (a2.toInt ≤ a1.toInt ∧ a1.toInt ≤ a3.toInt)) ∧ (ur.toInt = 0 → (a1.toInt < a2.toInt ∨ a3.toInt < a1.toInt)))) 0 0 (fun _ => False) := by
  refine Met.ofW (cc := b_X_isIn) (maxL := 6) (ret := (some .boolean)) (by decide) rfl ?_
  intro p e s m args below meth c s₁ B hml hv
  obtain ⟨rfl, -⟩ := hv
  have hx := B.exec
  have hb := B.bytes
  have hr := B.returns
  have hts := atoms_spec (ws := .code y_X_isIn b_X_isIn 6 (some .boolean) :: tb) B.pre
  have hk : ∀ w ∈ tb, w.before [.long a1, .long a2, .long a3].toArray s = true := fun w h => hts w (List.mem_cons_of_mem _ h)
  have hown : s.vm.findClass "SignMachineModel" = some m.cls := findClass_of_methodNamed B.named
  have hlocks := B.notSynchronized
  have hl := lv_entry ([.long a1, .long a2, .long a3]) (n := 6) (Nat.le_of_ble_eq_true rfl)
  rw [lg_entry_eq]
  generalize (lg_sl ([.long a1, .long a2, .long a3]) ++ List.replicate (6 - (lg_sl ([.long a1, .long a2, .long a3])).length) Slot.unset).toArray = ls at hl ⊢
  have hl : lv_has ls 6 [(0, .long a1), (2, .long a2), (4, .long a3)] := hl
  clear hts B
  refine lv_lload_n hx hb d_X_isIn_0 rfl (lv_at hl 0 rfl) ?_
  refine lv_lload_n hx hb d_X_isIn_1 rfl (lv_at hl 1 rfl) ?_
  refine W.lcmp hx hb d_X_isIn_2 ?_
  refine lv_topi (fun v1 hv1 => ?_)
  refine lv_if_lt (tgt := 17) hx hb d_X_isIn_3 (by decide) (fun c2 => ?_) (fun c2 => ?_)
  · have gc2 : a1.toInt < a2.toInt := lc_lt hv1 c2
    refine lv_iconst (v := 0) hx hb d_X_isIn_17 (by decide) ?_
    exact W.zret (v := (0 : Int32)) hx hb hr (nar01 (by decide)) (fun t ht hW => ⟨(0 : Int32), rfl, ⟨(by decide), (show (0 : Int) = 1 → (a2.toInt ≤ a1.toInt ∧ a1.toInt ≤ a3.toInt) from by omega), (show (0 : Int) = 0 → (a1.toInt < a2.toInt ∨ a3.toInt < a1.toInt) from by omega)⟩, ht⟩) (fun q h => absurd h List.not_mem_nil) d_X_isIn_18
  · have gc2 : a2.toInt ≤ a1.toInt := lc_nlt hv1 c2
    refine lv_lload_n hx hb d_X_isIn_6 rfl (lv_at hl 0 rfl) ?_
    refine lv_lload hx hb d_X_isIn_7 (lv_at hl 2 rfl) ?_
    refine W.lcmp hx hb d_X_isIn_9 ?_
    refine lv_topi (fun v3 hv3 => ?_)
    refine lv_if_gt (tgt := 17) hx hb d_X_isIn_10 (by decide) (fun c4 => ?_) (fun c4 => ?_)
    · have gc4 : a3.toInt < a1.toInt := lc_gt hv3 c4
      refine lv_iconst (v := 0) hx hb d_X_isIn_17 (by decide) ?_
      exact W.zret (v := (0 : Int32)) hx hb hr (nar01 (by decide)) (fun t ht hW => ⟨(0 : Int32), rfl, ⟨(by decide), (show (0 : Int) = 1 → (a2.toInt ≤ a1.toInt ∧ a1.toInt ≤ a3.toInt) from by omega), (show (0 : Int) = 0 → (a1.toInt < a2.toInt ∨ a3.toInt < a1.toInt) from by omega)⟩, ht⟩) (fun q h => absurd h List.not_mem_nil) d_X_isIn_18
    · have gc4 : a1.toInt ≤ a3.toInt := lc_ngt hv3 c4
      refine lv_iconst (v := 1) hx hb d_X_isIn_13 (by decide) ?_
      refine lv_goto (tgt := 18) hx hb d_X_isIn_14 (by decide) ?_
      exact W.zret (v := (1 : Int32)) hx hb hr (nar01 (by decide)) (fun t ht hW => ⟨(1 : Int32), rfl, ⟨(by decide), (show (1 : Int) = 1 → (a2.toInt ≤ a1.toInt ∧ a1.toInt ≤ a3.toInt) from by omega), (show (1 : Int) = 0 → (a1.toInt < a2.toInt ∨ a3.toInt < a1.toInt) from by omega)⟩, ht⟩) (fun q h => absurd h List.not_mem_nil) d_X_isIn_18
theorem s_X_isIn {R : Room} {s : State} {args : Array Value} {own : String} {index : Nat} (hk : ∀ w ∈ tb, w.before args s = true) (hl : Cond.methodLink own index y_X_isIn ∈ tb) (hR : 0 + 1 ≤ R.frames ∧ 8 + (6 + 11) + 0 ≤ R.locals) : CallB R s args own index y_X_isIn b_X_isIn 6 (some .boolean) (.code y_X_isIn b_X_isIn 6 (some .boolean) :: tb) ({ frames := 0, cells := 0, slots := 0, locals := 0 }) 0 0 3 ∧ (Cond.static y_X_isIn).before args s = true := mk_s 3 hk k_1321 hl k_1320 k_119 rfl rfl h_X_isIn hR
set_option maxHeartbeats 8000000 in
set_option maxRecDepth 100000 in
theorem c_X_poke (l : Launch) (D : va_G) (cI cJ cZ cB : ClassId) (p0 p1 p2 p3 p4 p5 p6 p7 p8 p9 p10 p11 p12 p13 p14 p15 p16 p17 p18 p19 p20 p21 p22 p23 p24 p25 : Nat) (sz : Nat) (x0_4 : Int32) (x0_5 : Int32) (x0_6 : Int32) (x0_7 : Int32) (x0_8 : Int32) (x0_12 : Int32) (x0_13 : Int32) (x0_14 : Int32) (x0_15 : Int32) (x0_16 : Int32) (x0_17 : Int32) (x0_18 : Int32) (x0_22 : Int32) (x0_23 : Int32) (x0_24 : Int32) (x0_25 : Int32) (x0_26 : Int32) (x0_27 : Int32) (x0_28 : Int32) (x0_29 : Int32) (x0_30 : Int32) (x0_31 : Int32) (x0_32 : Int32) (x0_36 : Int32) (x0_39 : Int32) (x0_40 : Int64) (x0_44 : Int32) (x0_49 : Int32) (x0_51 : Int32) (x0_53 : Int32) (x0_54 : Int32) (x0_55 : Int64) (x0_56 : Int32) (x0_57 : Int32) (x0_58 : Int32) (x0_59 : Int32) (x0_60 : Int32) (x0_61 : Int32) (x0_62 : Int64) (y1 : Nat → Int32) (y2 : Nat → Int32) (y3 : Nat → Int32) (y4 : Nat → Int32) (y5 : Nat → Int32) (y6 : Nat → Int32) (y7 : Nat → Int32) (y8 : Nat → Int32) (y9 : Nat → Int32) (y10 : Nat → Int32) (y11 : Nat → Int64) (y12 : Nat → Int32) (y13 : Nat → Int64) (y14 : Nat → Int32) (y15 : Nat → Int64) (y16 : Nat → Int32) (y17 : Nat → Int32) (y18 : Nat → Int32) (y19 : Nat → Int32) (y20 : Nat → Int32) (y21 : Nat → Int32) (y22 : Nat → Int32) (y23 : Nat → Int32) (y24 : Nat → Int64) (y25 : Nat → Int64) (a1 : Int32) (a2 : Int32) (a3 : Int32) (Ay1 : ∀ i : Nat, (0 ≤ (y1 i).toInt ∧ (y1 i).toInt ≤ 1)) (Ay2 : ∀ i : Nat, (0 ≤ (y2 i).toInt ∧ (y2 i).toInt ≤ 1073741823)) : Met l y_X_poke (.code y_X_poke b_X_poke 4 (some .boolean) :: tb) ({ frames := 1, cells := 0, slots := 0, locals := 25 }) (pM D cI cJ cZ cB (wS50 cI cJ cZ cB p0 p1 p2 p3 p4 p5 p6 p7 p8 p9 p10 p11 p12 p13 p14 p15 p16 p17 p18 p19 p20 p21 p22 p23 p24 p25 x0_4 x0_5 x0_6 x0_7 x0_8 x0_12 x0_13 x0_14 x0_15 x0_16 x0_17 x0_18 x0_22 x0_23 x0_24 x0_25 x0_26 x0_27 x0_28 x0_29 x0_30 x0_31 x0_32 x0_36 x0_39 x0_40 x0_44 x0_49 x0_51 x0_53 x0_54 x0_55 x0_56 x0_57 x0_58 x0_59 x0_60 x0_61 x0_62 y1 y2 y3 y4 y5 y6 y7 y8 y9 y10 y11 y12 y13 y14 y15 y16 y17 y18 y19 y20 y21 y22 y23 y24 y25) sz [.ref p0, .int a1, .int a2, .int a3]) (va_Qi (fun r (u : Int32) => r = u) (fun ur t => ∃ u_y1 : Nat → Int32, ∃ u_y2 : Nat → Int32, (∀ i : Nat, (0 ≤ (u_y1 i).toInt ∧ (u_y1 i).toInt ≤ 1)) ∧ (∀ i : Nat, (0 ≤ (u_y2 i).toInt ∧ (u_y2 i).toInt ≤ 1073741823)) ∧ (0 ≤ ur.toInt ∧ ur.toInt ≤ 1) ∧ (ur.toInt = 1 ↔ ((0 ≤ a1.toInt ∧ a1.toInt ≤ 3999) ∧ (0 ≤ a2.toInt ∧ a2.toInt ≤ 1) ∧ (0 ≤ a3.toInt ∧ a3.toInt ≤ 1073741823))) ∧ va_P D classes (wS50 cI cJ cZ cB p0 p1 p2 p3 p4 p5 p6 p7 p8 p9 p10 p11 p12 p13 p14 p15 p16 p17 p18 p19 p20 p21 p22 p23 p24 p25 x0_4 x0_5 x0_6 x0_7 x0_8 x0_12 x0_13 x0_14 x0_15 x0_16 x0_17 x0_18 x0_22 x0_23 x0_24 x0_25 x0_26 x0_27 x0_28 x0_29 x0_30 x0_31 x0_32 x0_36 x0_39 x0_40 x0_44 x0_49 x0_51 x0_53 x0_54 x0_55 x0_56 x0_57 x0_58 x0_59 x0_60 x0_61 x0_62 u_y1 u_y2 y3 y4 y5 y6 y7 y8 y9 y10 y11 y12 y13 y14 y15 y16 y17 y18 y19 y20 y21 y22 y23 y24 y25) t.heap ∧ va_D (va_A (wS50 cI cJ cZ cB p0 p1 p2 p3 p4 p5 p6 p7 p8 p9 p10 p11 p12 p13 p14 p15 p16 p17 p18 p19 p20 p21 p22 p23 p24 p25 x0_4 x0_5 x0_6 x0_7 x0_8 x0_12 x0_13 x0_14 x0_15 x0_16 x0_17 x0_18 x0_22 x0_23 x0_24 x0_25 x0_26 x0_27 x0_28 x0_29 x0_30 x0_31 x0_32 x0_36 x0_39 x0_40 x0_44 x0_49 x0_51 x0_53 x0_54 x0_55 x0_56 x0_57 x0_58 x0_59 x0_60 x0_61 x0_62 y1 y2 y3 y4 y5 y6 y7 y8 y9 y10 y11 y12 y13 y14 y15 y16 y17 y18 y19 y20 y21 y22 y23 y24 y25) sz) (wS50 cI cJ cZ cB p0 p1 p2 p3 p4 p5 p6 p7 p8 p9 p10 p11 p12 p13 p14 p15 p16 p17 p18 p19 p20 p21 p22 p23 p24 p25 x0_4 x0_5 x0_6 x0_7 x0_8 x0_12 x0_13 x0_14 x0_15 x0_16 x0_17 x0_18 x0_22 x0_23 x0_24 x0_25 x0_26 x0_27 x0_28 x0_29 x0_30 x0_31 x0_32 x0_36 x0_39 x0_40 x0_44 x0_49 x0_51 x0_53 x0_54 x0_55 x0_56 x0_57 x0_58 x0_59 x0_60 x0_61 x0_62 u_y1 u_y2 y3 y4 y5 y6 y7 y8 y9 y10 y11 y12 y13 y14 y15 y16 y17 y18 y19 y20 y21 y22 y23 y24 y25)) (va_A (wS50 cI cJ cZ cB p0 p1 p2 p3 p4 p5 p6 p7 p8 p9 p10 p11 p12 p13 p14 p15 p16 p17 p18 p19 p20 p21 p22 p23 p24 p25 x0_4 x0_5 x0_6 x0_7 x0_8 x0_12 x0_13 x0_14 x0_15 x0_16 x0_17 x0_18 x0_22 x0_23 x0_24 x0_25 x0_26 x0_27 x0_28 x0_29 x0_30 x0_31 x0_32 x0_36 x0_39 x0_40 x0_44 x0_49 x0_51 x0_53 x0_54 x0_55 x0_56 x0_57 x0_58 x0_59 x0_60 x0_61 x0_62 y1 y2 y3 y4 y5 y6 y7 y8 y9 y10 y11 y12 y13 y14 y15 y16 y17 y18 y19 y20 y21 y22 y23 y24 y25) sz)) 0 0 (va_A (wS50 cI cJ cZ cB p0 p1 p2 p3 p4 p5 p6 p7 p8 p9 p10 p11 p12 p13 p14 p15 p16 p17 p18 p19 p20 p21 p22 p23 p24 p25 x0_4 x0_5 x0_6 x0_7 x0_8 x0_12 x0_13 x0_14 x0_15 x0_16 x0_17 x0_18 x0_22 x0_23 x0_24 x0_25 x0_26 x0_27 x0_28 x0_29 x0_30 x0_31 x0_32 x0_36 x0_39 x0_40 x0_44 x0_49 x0_51 x0_53 x0_54 x0_55 x0_56 x0_57 x0_58 x0_59 x0_60 x0_61 x0_62 y1 y2 y3 y4 y5 y6 y7 y8 y9 y10 y11 y12 y13 y14 y15 y16 y17 y18 y19 y20 y21 y22 y23 y24 y25) sz) := by
  refine Met.ofW (cc := b_X_poke) (maxL := 4) (ret := (some .boolean)) (by decide) rfl ?_
  intro p e s m args below meth c s₁ B hml hv
  obtain ⟨rfl, hsz, hK, hP, hD0⟩ := hv
  subst hsz
  have hD := hD0.self (sz := s.heap.size)
  generalize hAe : va_A (wS50 cI cJ cZ cB p0 p1 p2 p3 p4 p5 p6 p7 p8 p9 p10 p11 p12 p13 p14 p15 p16 p17 p18 p19 p20 p21 p22 p23 p24 p25 x0_4 x0_5 x0_6 x0_7 x0_8 x0_12 x0_13 x0_14 x0_15 x0_16 x0_17 x0_18 x0_22 x0_23 x0_24 x0_25 x0_26 x0_27 x0_28 x0_29 x0_30 x0_31 x0_32 x0_36 x0_39 x0_40 x0_44 x0_49 x0_51 x0_53 x0_54 x0_55 x0_56 x0_57 x0_58 x0_59 x0_60 x0_61 x0_62 y1 y2 y3 y4 y5 y6 y7 y8 y9 y10 y11 y12 y13 y14 y15 y16 y17 y18 y19 y20 y21 y22 y23 y24 y25) s.heap.size = A at hD ⊢
  have hA : ∀ q : Nat, s.heap.size ≤ q → A q := fun q h => by rw [← hAe]; exact Or.inr h
  clear hAe hD0
  have hS : va_S A s.heap s.heap [] := va_S.rf
  have hx := B.exec
  have hb := B.bytes
  have hr := B.returns
  have hts := atoms_spec (ws := .code y_X_poke b_X_poke 4 (some .boolean) :: tb) B.pre
  have hk : ∀ w ∈ tb, w.before [.ref p0, .int a1, .int a2, .int a3].toArray s = true := fun w h => hts w (List.mem_cons_of_mem _ h)
  have hown : s.vm.findClass "SignMachineModel" = some m.cls := findClass_of_methodNamed B.named
  have hlocks := B.notSynchronized
  have hl := lv_entry ([.ref p0, .int a1, .int a2, .int a3]) (n := 4) (Nat.le_of_ble_eq_true rfl)
  rw [lg_entry_eq]
  generalize (lg_sl ([.ref p0, .int a1, .int a2, .int a3]) ++ List.replicate (4 - (lg_sl ([.ref p0, .int a1, .int a2, .int a3])).length) Slot.unset).toArray = ls at hl ⊢
  have hl : lv_has ls 4 [(0, .ref p0), (1, .int a1), (2, .int a2), (3, .int a3)] := hl
  clear hts B
  refine lv_iload_n hx hb d_X_poke_0 rfl (lv_at hl 1 rfl) ?_
  refine lv_i2l (v := (a1 : Int32).toInt64) hx hb d_X_poke_1 rfl ?_
  refine lv_topl (fun v1 hv1 => ?_)
  obtain ⟨ev1, Rv1⟩ : v1.toInt = a1.toInt ∧ ((-2147483648) ≤ v1.toInt ∧ v1.toInt ≤ 2147483647) := il3 hv1 (fr3 a1)
  refine lv_lconst (v := 0) hx hb d_X_poke_2 (by decide) ?_
  refine lv_ldc2 (v := 3999) hx hb hown (hk _ k_1318) d_X_poke_3 ?_
  refine vp_callSi (W.runS (As := [.long v1, .long (0 : Int64), .long (3999 : Int64)]) (rest := []) ⟨hx, hb, hml, hown, hk⟩ (c_X_isIn l v1 (0 : Int64) (3999 : Int64) ) (s_X_isIn hk k_1319 ⟨Nat.le_of_ble_eq_true rfl, Nat.le_of_ble_eq_true rfl⟩) ⟨fun a U g mk q => q, fun U hU hW => ⟨rfl, trivial⟩⟩ rfl rfl hl.1 rfl (lv_room (Nat.le_of_ble_eq_true rfl)) d_X_poke_6 ⟨Nat.le_of_ble_eq_true rfl, Nat.le_of_ble_eq_true rfl⟩) (fun rz2 hrz2 => ?_)
  obtain ⟨F0z2, F1z2, F2z2⟩ := hrz2
  have F0z2 : 0 ≤ rz2.toInt ∧ rz2.toInt ≤ 1 := F0z2
  have F1z2 : rz2.toInt = 1 → ((0 : Int) ≤ v1.toInt ∧ v1.toInt ≤ (3999 : Int)) := F1z2
  have F2z2 : rz2.toInt = 0 → (v1.toInt < (0 : Int) ∨ (3999 : Int) < v1.toInt) := F2z2
  refine lv_if_eq (tgt := 34) hx hb d_X_poke_9 (by decide) (fun c3 => ?_) (fun c3 => ?_)
  · have gc3 : rz2.toInt = (0 : Int) := c_eq c3
    have R4 : 0 ≤ rz2.toInt ∧ rz2.toInt ≤ 0 := rf_eqX F0z2 (show 0 ≤ (0 : Int) ∧ (0 : Int) ≤ 0 from by decide) gc3 (by decide) (by decide)
    refine lv_iconst (v := 0) hx hb d_X_poke_34 (by decide) ?_
    exact W.zret (v := (0 : Int32)) hx hb hr (nar01 (by decide)) (fun t ht hW => ⟨⟨(0 : Int32), (0 : Int32), rfl, rfl, ⟨y1, y2, Ay1, Ay2, (by decide), (show (0 : Int) = 1 ↔ ((0 ≤ a1.toInt ∧ a1.toInt ≤ 3999) ∧ (0 ≤ a2.toInt ∧ a2.toInt ≤ 1) ∧ (0 ≤ a3.toInt ∧ a3.toInt ≤ 1073741823)) from by omega), by show va_P D classes _ t.heap; rw [ht]; exact hP, hD⟩⟩, hS.F ht⟩) hS.2.2 d_X_poke_35
  · have gc3 : rz2.toInt ≠ (0 : Int) := c_ne c3
    have R5 : 1 ≤ rz2.toInt ∧ rz2.toInt ≤ 1 := rf_neX F0z2 (show 0 ≤ (0 : Int) ∧ (0 : Int) ≤ 0 from by decide) gc3 (by decide) (by decide)
    refine lv_iload_n hx hb d_X_poke_12 rfl (lv_at hl 2 rfl) ?_
    refine lv_i2l (v := (a2 : Int32).toInt64) hx hb d_X_poke_13 rfl ?_
    refine lv_topl (fun v6 hv6 => ?_)
    obtain ⟨ev6, Rv6⟩ : v6.toInt = a2.toInt ∧ ((-2147483648) ≤ v6.toInt ∧ v6.toInt ≤ 2147483647) := il3 hv6 (fr3 a2)
    refine lv_lconst (v := 0) hx hb d_X_poke_14 (by decide) ?_
    refine lv_lconst (v := 1) hx hb d_X_poke_15 (by decide) ?_
    refine vp_callSi (W.runS (As := [.long v6, .long (0 : Int64), .long (1 : Int64)]) (rest := []) ⟨hx, hb, hml, hown, hk⟩ (c_X_isIn l v6 (0 : Int64) (1 : Int64) ) (s_X_isIn hk k_1319 ⟨Nat.le_of_ble_eq_true rfl, Nat.le_of_ble_eq_true rfl⟩) ⟨fun a U g mk q => q, fun U hU hW => ⟨rfl, trivial⟩⟩ rfl rfl hl.1 rfl (lv_room (Nat.le_of_ble_eq_true rfl)) d_X_poke_16 ⟨Nat.le_of_ble_eq_true rfl, Nat.le_of_ble_eq_true rfl⟩) (fun rz7 hrz7 => ?_)
    obtain ⟨F0z7, F1z7, F2z7⟩ := hrz7
    have F0z7 : 0 ≤ rz7.toInt ∧ rz7.toInt ≤ 1 := F0z7
    have F1z7 : rz7.toInt = 1 → ((0 : Int) ≤ v6.toInt ∧ v6.toInt ≤ (1 : Int)) := F1z7
    have F2z7 : rz7.toInt = 0 → (v6.toInt < (0 : Int) ∨ (1 : Int) < v6.toInt) := F2z7
    refine lv_if_eq (tgt := 34) hx hb d_X_poke_19 (by decide) (fun c8 => ?_) (fun c8 => ?_)
    · have gc8 : rz7.toInt = (0 : Int) := c_eq c8
      have R9 : 0 ≤ rz7.toInt ∧ rz7.toInt ≤ 0 := rf_eqX F0z7 (show 0 ≤ (0 : Int) ∧ (0 : Int) ≤ 0 from by decide) gc8 (by decide) (by decide)
      refine lv_iconst (v := 0) hx hb d_X_poke_34 (by decide) ?_
      exact W.zret (v := (0 : Int32)) hx hb hr (nar01 (by decide)) (fun t ht hW => ⟨⟨(0 : Int32), (0 : Int32), rfl, rfl, ⟨y1, y2, Ay1, Ay2, (by decide), (show (0 : Int) = 1 ↔ ((0 ≤ a1.toInt ∧ a1.toInt ≤ 3999) ∧ (0 ≤ a2.toInt ∧ a2.toInt ≤ 1) ∧ (0 ≤ a3.toInt ∧ a3.toInt ≤ 1073741823)) from by omega), by show va_P D classes _ t.heap; rw [ht]; exact hP, hD⟩⟩, hS.F ht⟩) hS.2.2 d_X_poke_35
    · have gc8 : rz7.toInt ≠ (0 : Int) := c_ne c8
      have R10 : 1 ≤ rz7.toInt ∧ rz7.toInt ≤ 1 := rf_neX F0z7 (show 0 ≤ (0 : Int) ∧ (0 : Int) ≤ 0 from by decide) gc8 (by decide) (by decide)
      refine lv_iload_n hx hb d_X_poke_22 rfl (lv_at hl 3 rfl) ?_
      refine lv_i2l (v := (a3 : Int32).toInt64) hx hb d_X_poke_23 rfl ?_
      refine lv_topl (fun v11 hv11 => ?_)
      obtain ⟨ev11, Rv11⟩ : v11.toInt = a3.toInt ∧ ((-2147483648) ≤ v11.toInt ∧ v11.toInt ≤ 2147483647) := il3 hv11 (fr3 a3)
      refine lv_lconst (v := 0) hx hb d_X_poke_24 (by decide) ?_
      refine lv_ldc2 (v := 1073741823) hx hb hown (hk _ k_1322) d_X_poke_25 ?_
      refine vp_callSi (W.runS (As := [.long v11, .long (0 : Int64), .long (1073741823 : Int64)]) (rest := []) ⟨hx, hb, hml, hown, hk⟩ (c_X_isIn l v11 (0 : Int64) (1073741823 : Int64) ) (s_X_isIn hk k_1319 ⟨Nat.le_of_ble_eq_true rfl, Nat.le_of_ble_eq_true rfl⟩) ⟨fun a U g mk q => q, fun U hU hW => ⟨rfl, trivial⟩⟩ rfl rfl hl.1 rfl (lv_room (Nat.le_of_ble_eq_true rfl)) d_X_poke_28 ⟨Nat.le_of_ble_eq_true rfl, Nat.le_of_ble_eq_true rfl⟩) (fun rz12 hrz12 => ?_)
      obtain ⟨F0z12, F1z12, F2z12⟩ := hrz12
      have F0z12 : 0 ≤ rz12.toInt ∧ rz12.toInt ≤ 1 := F0z12
      have F1z12 : rz12.toInt = 1 → ((0 : Int) ≤ v11.toInt ∧ v11.toInt ≤ (1073741823 : Int)) := F1z12
      have F2z12 : rz12.toInt = 0 → (v11.toInt < (0 : Int) ∨ (1073741823 : Int) < v11.toInt) := F2z12
      refine lv_if_ne (tgt := 36) hx hb d_X_poke_31 (by decide) (fun c13 => ?_) (fun c13 => ?_)
      · have gc13 : rz12.toInt ≠ (0 : Int) := c_ne c13
        have R14 : 1 ≤ rz12.toInt ∧ rz12.toInt ≤ 1 := rf_neX F0z12 (show 0 ≤ (0 : Int) ∧ (0 : Int) ≤ 0 from by decide) gc13 (by decide) (by decide)
        refine lv_aload_n hx hb d_X_poke_36 rfl (lv_at hl 0 rfl) ?_
        refine va_get (D := D) (ci := 7) (v := .ref p1) (C := "SignMachineModel") (T := F_X) (N := 64) hx hb hk fi_X hown hK.1 hP 0 rfl rfl 0 (by decide) (hk _ k_1121) (fun _ h9 => h9) rfl d_X_poke_37 ?_
        refine lv_iload_n hx hb d_X_poke_40 rfl (lv_at hl 1 rfl) ?_
        refine lv_iload_n hx hb d_X_poke_41 rfl (lv_at hl 2 rfl) ?_
        refine va_iast hx hb hK.1 hP hD hS 1 0 rfl rfl (by rw [vp_in_iff]; omega) d_X_poke_42 (fun H locs hP hD hS => ?_)
        have hP : va_P D classes (wS50 cI cJ cZ cB p0 p1 p2 p3 p4 p5 p6 p7 p8 p9 p10 p11 p12 p13 p14 p15 p16 p17 p18 p19 p20 p21 p22 p23 p24 p25 x0_4 x0_5 x0_6 x0_7 x0_8 x0_12 x0_13 x0_14 x0_15 x0_16 x0_17 x0_18 x0_22 x0_23 x0_24 x0_25 x0_26 x0_27 x0_28 x0_29 x0_30 x0_31 x0_32 x0_36 x0_39 x0_40 x0_44 x0_49 x0_51 x0_53 x0_54 x0_55 x0_56 x0_57 x0_58 x0_59 x0_60 x0_61 x0_62 (upd y1 (a1).toNatClampNeg a2) y2 y3 y4 y5 y6 y7 y8 y9 y10 y11 y12 y13 y14 y15 y16 y17 y18 y19 y20 y21 y22 y23 y24 y25) H := hP
        have hD : va_D A (wS50 cI cJ cZ cB p0 p1 p2 p3 p4 p5 p6 p7 p8 p9 p10 p11 p12 p13 p14 p15 p16 p17 p18 p19 p20 p21 p22 p23 p24 p25 x0_4 x0_5 x0_6 x0_7 x0_8 x0_12 x0_13 x0_14 x0_15 x0_16 x0_17 x0_18 x0_22 x0_23 x0_24 x0_25 x0_26 x0_27 x0_28 x0_29 x0_30 x0_31 x0_32 x0_36 x0_39 x0_40 x0_44 x0_49 x0_51 x0_53 x0_54 x0_55 x0_56 x0_57 x0_58 x0_59 x0_60 x0_61 x0_62 (upd y1 (a1).toNatClampNeg a2) y2 y3 y4 y5 y6 y7 y8 y9 y10 y11 y12 y13 y14 y15 y16 y17 y18 y19 y20 y21 y22 y23 y24 y25) := hD
        obtain ⟨v15, hv15⟩ : ∃ y : Nat → Int32, y = (upd y1 (a1).toNatClampNeg a2) := ⟨_, rfl⟩
        rw [← hv15] at hP hD
        have Gv15 : (0 ≤ (a2).toInt ∧ (a2).toInt ≤ 1) := (by omega)
        have Av15 : ∀ i : Nat, (0 ≤ (v15 i).toInt ∧ (v15 i).toInt ≤ 1) := by rw [hv15]; exact upd_all (P := fun i x => (0 ≤ (x).toInt ∧ (x).toInt ≤ 1)) Ay1 Gv15
        clear hv15
        refine lv_aload_n hx hb d_X_poke_43 rfl (lv_at hl 0 rfl) ?_
        refine va_get (D := D) (ci := 7) (v := .ref p2) (C := "SignMachineModel") (T := F_X) (N := 64) hx hb hk fi_X hown hK.1 hP 0 rfl rfl 1 (by decide) (hk _ k_1122) (fun _ h9 => h9) rfl d_X_poke_44 ?_
        refine lv_iload_n hx hb d_X_poke_47 rfl (lv_at hl 1 rfl) ?_
        refine lv_iload_n hx hb d_X_poke_48 rfl (lv_at hl 3 rfl) ?_
        refine va_iast hx hb hK.1 hP hD hS 2 0 rfl rfl (by rw [vp_in_iff]; omega) d_X_poke_49 (fun H locs hP hD hS => ?_)
        have hP : va_P D classes (wS50 cI cJ cZ cB p0 p1 p2 p3 p4 p5 p6 p7 p8 p9 p10 p11 p12 p13 p14 p15 p16 p17 p18 p19 p20 p21 p22 p23 p24 p25 x0_4 x0_5 x0_6 x0_7 x0_8 x0_12 x0_13 x0_14 x0_15 x0_16 x0_17 x0_18 x0_22 x0_23 x0_24 x0_25 x0_26 x0_27 x0_28 x0_29 x0_30 x0_31 x0_32 x0_36 x0_39 x0_40 x0_44 x0_49 x0_51 x0_53 x0_54 x0_55 x0_56 x0_57 x0_58 x0_59 x0_60 x0_61 x0_62 v15 (upd y2 (a1).toNatClampNeg a3) y3 y4 y5 y6 y7 y8 y9 y10 y11 y12 y13 y14 y15 y16 y17 y18 y19 y20 y21 y22 y23 y24 y25) H := hP
        have hD : va_D A (wS50 cI cJ cZ cB p0 p1 p2 p3 p4 p5 p6 p7 p8 p9 p10 p11 p12 p13 p14 p15 p16 p17 p18 p19 p20 p21 p22 p23 p24 p25 x0_4 x0_5 x0_6 x0_7 x0_8 x0_12 x0_13 x0_14 x0_15 x0_16 x0_17 x0_18 x0_22 x0_23 x0_24 x0_25 x0_26 x0_27 x0_28 x0_29 x0_30 x0_31 x0_32 x0_36 x0_39 x0_40 x0_44 x0_49 x0_51 x0_53 x0_54 x0_55 x0_56 x0_57 x0_58 x0_59 x0_60 x0_61 x0_62 v15 (upd y2 (a1).toNatClampNeg a3) y3 y4 y5 y6 y7 y8 y9 y10 y11 y12 y13 y14 y15 y16 y17 y18 y19 y20 y21 y22 y23 y24 y25) := hD
        obtain ⟨v16, hv16⟩ : ∃ y : Nat → Int32, y = (upd y2 (a1).toNatClampNeg a3) := ⟨_, rfl⟩
        rw [← hv16] at hP hD
        have Gv16 : (0 ≤ (a3).toInt ∧ (a3).toInt ≤ 1073741823) := (by omega)
        have Av16 : ∀ i : Nat, (0 ≤ (v16 i).toInt ∧ (v16 i).toInt ≤ 1073741823) := by rw [hv16]; exact upd_all (P := fun i x => (0 ≤ (x).toInt ∧ (x).toInt ≤ 1073741823)) Ay2 Gv16
        clear hv16
        refine lv_iconst (v := 1) hx hb d_X_poke_50 (by decide) ?_
        exact W.zret (v := (1 : Int32)) hx hb hr (nar01 (by decide)) (fun t ht hW => ⟨⟨(1 : Int32), (1 : Int32), rfl, rfl, ⟨v15, v16, Av15, Av16, (by decide), (show (1 : Int) = 1 ↔ ((0 ≤ a1.toInt ∧ a1.toInt ≤ 3999) ∧ (0 ≤ a2.toInt ∧ a2.toInt ≤ 1) ∧ (0 ≤ a3.toInt ∧ a3.toInt ≤ 1073741823)) from by omega), by show va_P D classes _ t.heap; rw [ht]; exact hP, hD⟩⟩, hS.F ht⟩) hS.2.2 d_X_poke_51
      · have gc13 : rz12.toInt = (0 : Int) := c_eq c13
        have R17 : 0 ≤ rz12.toInt ∧ rz12.toInt ≤ 0 := rf_eqX F0z12 (show 0 ≤ (0 : Int) ∧ (0 : Int) ≤ 0 from by decide) gc13 (by decide) (by decide)
        refine lv_iconst (v := 0) hx hb d_X_poke_34 (by decide) ?_
        exact W.zret (v := (0 : Int32)) hx hb hr (nar01 (by decide)) (fun t ht hW => ⟨⟨(0 : Int32), (0 : Int32), rfl, rfl, ⟨y1, y2, Ay1, Ay2, (by decide), (show (0 : Int) = 1 ↔ ((0 ≤ a1.toInt ∧ a1.toInt ≤ 3999) ∧ (0 ≤ a2.toInt ∧ a2.toInt ≤ 1) ∧ (0 ≤ a3.toInt ∧ a3.toInt ≤ 1073741823)) from by omega), by show va_P D classes _ t.heap; rw [ht]; exact hP, hD⟩⟩, hS.F ht⟩) hS.2.2 d_X_poke_35
theorem v_X_poke {R : Room} {s : State} {args : Array Value} {own : String} {index : Nat} (hk : ∀ w ∈ tb, w.before args s = true) (hl : Cond.methodLink own index y_X_poke ∈ tb) (hR : 1 + 1 ≤ R.frames ∧ 8 + (4 + 11) + 25 ≤ R.locals) : CallW R s args own "SignMachineModel" index y_X_poke b_X_poke 4 (some .boolean) (.code y_X_poke b_X_poke 4 (some .boolean) :: tb) ({ frames := 1, cells := 0, slots := 0, locals := 25 }) 0 0 3 := mk_v 3 hk k_1317 hl k_1315 k_1316 k_119 rfl rfl h_X_poke hR
set_option maxHeartbeats 8000000 in
set_option maxRecDepth 100000 in
theorem c_X_peekSign (l : Launch) (D : va_G) (cI cJ cZ cB : ClassId) (p0 p1 p2 p3 p4 p5 p6 p7 p8 p9 p10 p11 p12 p13 p14 p15 p16 p17 p18 p19 p20 p21 p22 p23 p24 p25 : Nat) (sz : Nat) (x0_4 : Int32) (x0_5 : Int32) (x0_6 : Int32) (x0_7 : Int32) (x0_8 : Int32) (x0_12 : Int32) (x0_13 : Int32) (x0_14 : Int32) (x0_15 : Int32) (x0_16 : Int32) (x0_17 : Int32) (x0_18 : Int32) (x0_22 : Int32) (x0_23 : Int32) (x0_24 : Int32) (x0_25 : Int32) (x0_26 : Int32) (x0_27 : Int32) (x0_28 : Int32) (x0_29 : Int32) (x0_30 : Int32) (x0_31 : Int32) (x0_32 : Int32) (x0_36 : Int32) (x0_39 : Int32) (x0_40 : Int64) (x0_44 : Int32) (x0_49 : Int32) (x0_51 : Int32) (x0_53 : Int32) (x0_54 : Int32) (x0_55 : Int64) (x0_56 : Int32) (x0_57 : Int32) (x0_58 : Int32) (x0_59 : Int32) (x0_60 : Int32) (x0_61 : Int32) (x0_62 : Int64) (y1 : Nat → Int32) (y2 : Nat → Int32) (y3 : Nat → Int32) (y4 : Nat → Int32) (y5 : Nat → Int32) (y6 : Nat → Int32) (y7 : Nat → Int32) (y8 : Nat → Int32) (y9 : Nat → Int32) (y10 : Nat → Int32) (y11 : Nat → Int64) (y12 : Nat → Int32) (y13 : Nat → Int64) (y14 : Nat → Int32) (y15 : Nat → Int64) (y16 : Nat → Int32) (y17 : Nat → Int32) (y18 : Nat → Int32) (y19 : Nat → Int32) (y20 : Nat → Int32) (y21 : Nat → Int32) (y22 : Nat → Int32) (y23 : Nat → Int32) (y24 : Nat → Int64) (y25 : Nat → Int64) (a1 : Int32) (Ay1 : ∀ i : Nat, (0 ≤ (y1 i).toInt ∧ (y1 i).toInt ≤ 1)) : Met l y_X_peekSign (.code y_X_peekSign b_X_peekSign 2 (some .int) :: tb) ({ frames := 1, cells := 0, slots := 0, locals := 25 }) (pM D cI cJ cZ cB (wS50 cI cJ cZ cB p0 p1 p2 p3 p4 p5 p6 p7 p8 p9 p10 p11 p12 p13 p14 p15 p16 p17 p18 p19 p20 p21 p22 p23 p24 p25 x0_4 x0_5 x0_6 x0_7 x0_8 x0_12 x0_13 x0_14 x0_15 x0_16 x0_17 x0_18 x0_22 x0_23 x0_24 x0_25 x0_26 x0_27 x0_28 x0_29 x0_30 x0_31 x0_32 x0_36 x0_39 x0_40 x0_44 x0_49 x0_51 x0_53 x0_54 x0_55 x0_56 x0_57 x0_58 x0_59 x0_60 x0_61 x0_62 y1 y2 y3 y4 y5 y6 y7 y8 y9 y10 y11 y12 y13 y14 y15 y16 y17 y18 y19 y20 y21 y22 y23 y24 y25) sz [.ref p0, .int a1]) (va_Qi (fun r (u : Int32) => r = u) (fun ur t => va_P D classes (wS50 cI cJ cZ cB p0 p1 p2 p3 p4 p5 p6 p7 p8 p9 p10 p11 p12 p13 p14 p15 p16 p17 p18 p19 p20 p21 p22 p23 p24 p25 x0_4 x0_5 x0_6 x0_7 x0_8 x0_12 x0_13 x0_14 x0_15 x0_16 x0_17 x0_18 x0_22 x0_23 x0_24 x0_25 x0_26 x0_27 x0_28 x0_29 x0_30 x0_31 x0_32 x0_36 x0_39 x0_40 x0_44 x0_49 x0_51 x0_53 x0_54 x0_55 x0_56 x0_57 x0_58 x0_59 x0_60 x0_61 x0_62 y1 y2 y3 y4 y5 y6 y7 y8 y9 y10 y11 y12 y13 y14 y15 y16 y17 y18 y19 y20 y21 y22 y23 y24 y25) t.heap ∧ va_D (va_A (wS50 cI cJ cZ cB p0 p1 p2 p3 p4 p5 p6 p7 p8 p9 p10 p11 p12 p13 p14 p15 p16 p17 p18 p19 p20 p21 p22 p23 p24 p25 x0_4 x0_5 x0_6 x0_7 x0_8 x0_12 x0_13 x0_14 x0_15 x0_16 x0_17 x0_18 x0_22 x0_23 x0_24 x0_25 x0_26 x0_27 x0_28 x0_29 x0_30 x0_31 x0_32 x0_36 x0_39 x0_40 x0_44 x0_49 x0_51 x0_53 x0_54 x0_55 x0_56 x0_57 x0_58 x0_59 x0_60 x0_61 x0_62 y1 y2 y3 y4 y5 y6 y7 y8 y9 y10 y11 y12 y13 y14 y15 y16 y17 y18 y19 y20 y21 y22 y23 y24 y25) sz) (wS50 cI cJ cZ cB p0 p1 p2 p3 p4 p5 p6 p7 p8 p9 p10 p11 p12 p13 p14 p15 p16 p17 p18 p19 p20 p21 p22 p23 p24 p25 x0_4 x0_5 x0_6 x0_7 x0_8 x0_12 x0_13 x0_14 x0_15 x0_16 x0_17 x0_18 x0_22 x0_23 x0_24 x0_25 x0_26 x0_27 x0_28 x0_29 x0_30 x0_31 x0_32 x0_36 x0_39 x0_40 x0_44 x0_49 x0_51 x0_53 x0_54 x0_55 x0_56 x0_57 x0_58 x0_59 x0_60 x0_61 x0_62 y1 y2 y3 y4 y5 y6 y7 y8 y9 y10 y11 y12 y13 y14 y15 y16 y17 y18 y19 y20 y21 y22 y23 y24 y25)) (va_A (wS50 cI cJ cZ cB p0 p1 p2 p3 p4 p5 p6 p7 p8 p9 p10 p11 p12 p13 p14 p15 p16 p17 p18 p19 p20 p21 p22 p23 p24 p25 x0_4 x0_5 x0_6 x0_7 x0_8 x0_12 x0_13 x0_14 x0_15 x0_16 x0_17 x0_18 x0_22 x0_23 x0_24 x0_25 x0_26 x0_27 x0_28 x0_29 x0_30 x0_31 x0_32 x0_36 x0_39 x0_40 x0_44 x0_49 x0_51 x0_53 x0_54 x0_55 x0_56 x0_57 x0_58 x0_59 x0_60 x0_61 x0_62 y1 y2 y3 y4 y5 y6 y7 y8 y9 y10 y11 y12 y13 y14 y15 y16 y17 y18 y19 y20 y21 y22 y23 y24 y25) sz)) 0 0 (va_A (wS50 cI cJ cZ cB p0 p1 p2 p3 p4 p5 p6 p7 p8 p9 p10 p11 p12 p13 p14 p15 p16 p17 p18 p19 p20 p21 p22 p23 p24 p25 x0_4 x0_5 x0_6 x0_7 x0_8 x0_12 x0_13 x0_14 x0_15 x0_16 x0_17 x0_18 x0_22 x0_23 x0_24 x0_25 x0_26 x0_27 x0_28 x0_29 x0_30 x0_31 x0_32 x0_36 x0_39 x0_40 x0_44 x0_49 x0_51 x0_53 x0_54 x0_55 x0_56 x0_57 x0_58 x0_59 x0_60 x0_61 x0_62 y1 y2 y3 y4 y5 y6 y7 y8 y9 y10 y11 y12 y13 y14 y15 y16 y17 y18 y19 y20 y21 y22 y23 y24 y25) sz) := by
  refine Met.ofW (cc := b_X_peekSign) (maxL := 2) (ret := (some .int)) (by decide) rfl ?_
  intro p e s m args below meth c s₁ B hml hv
  obtain ⟨rfl, hsz, hK, hP, hD0⟩ := hv
  subst hsz
  have hD := hD0.self (sz := s.heap.size)
  generalize hAe : va_A (wS50 cI cJ cZ cB p0 p1 p2 p3 p4 p5 p6 p7 p8 p9 p10 p11 p12 p13 p14 p15 p16 p17 p18 p19 p20 p21 p22 p23 p24 p25 x0_4 x0_5 x0_6 x0_7 x0_8 x0_12 x0_13 x0_14 x0_15 x0_16 x0_17 x0_18 x0_22 x0_23 x0_24 x0_25 x0_26 x0_27 x0_28 x0_29 x0_30 x0_31 x0_32 x0_36 x0_39 x0_40 x0_44 x0_49 x0_51 x0_53 x0_54 x0_55 x0_56 x0_57 x0_58 x0_59 x0_60 x0_61 x0_62 y1 y2 y3 y4 y5 y6 y7 y8 y9 y10 y11 y12 y13 y14 y15 y16 y17 y18 y19 y20 y21 y22 y23 y24 y25) s.heap.size = A at hD ⊢
  have hA : ∀ q : Nat, s.heap.size ≤ q → A q := fun q h => by rw [← hAe]; exact Or.inr h
  clear hAe hD0
  have hS : va_S A s.heap s.heap [] := va_S.rf
  have hx := B.exec
  have hb := B.bytes
  have hr := B.returns
  have hts := atoms_spec (ws := .code y_X_peekSign b_X_peekSign 2 (some .int) :: tb) B.pre
  have hk : ∀ w ∈ tb, w.before [.ref p0, .int a1].toArray s = true := fun w h => hts w (List.mem_cons_of_mem _ h)
  have hown : s.vm.findClass "SignMachineModel" = some m.cls := findClass_of_methodNamed B.named
  have hlocks := B.notSynchronized
  have hl := lv_entry ([.ref p0, .int a1]) (n := 2) (Nat.le_of_ble_eq_true rfl)
  rw [lg_entry_eq]
  generalize (lg_sl ([.ref p0, .int a1]) ++ List.replicate (2 - (lg_sl ([.ref p0, .int a1])).length) Slot.unset).toArray = ls at hl ⊢
  have hl : lv_has ls 2 [(0, .ref p0), (1, .int a1)] := hl
  clear hts B
  refine lv_iload_n hx hb d_X_peekSign_0 rfl (lv_at hl 1 rfl) ?_
  refine lv_i2l (v := (a1 : Int32).toInt64) hx hb d_X_peekSign_1 rfl ?_
  refine lv_topl (fun v1 hv1 => ?_)
  obtain ⟨ev1, Rv1⟩ : v1.toInt = a1.toInt ∧ ((-2147483648) ≤ v1.toInt ∧ v1.toInt ≤ 2147483647) := il3 hv1 (fr3 a1)
  refine lv_lconst (v := 0) hx hb d_X_peekSign_2 (by decide) ?_
  refine lv_ldc2 (v := 3999) hx hb hown (hk _ k_1318) d_X_peekSign_3 ?_
  refine vp_callSi (W.runS (As := [.long v1, .long (0 : Int64), .long (3999 : Int64)]) (rest := []) ⟨hx, hb, hml, hown, hk⟩ (c_X_isIn l v1 (0 : Int64) (3999 : Int64) ) (s_X_isIn hk k_1319 ⟨Nat.le_of_ble_eq_true rfl, Nat.le_of_ble_eq_true rfl⟩) ⟨fun a U g mk q => q, fun U hU hW => ⟨rfl, trivial⟩⟩ rfl rfl hl.1 rfl (lv_room (Nat.le_of_ble_eq_true rfl)) d_X_peekSign_6 ⟨Nat.le_of_ble_eq_true rfl, Nat.le_of_ble_eq_true rfl⟩) (fun rz2 hrz2 => ?_)
  obtain ⟨F0z2, F1z2, F2z2⟩ := hrz2
  have F0z2 : 0 ≤ rz2.toInt ∧ rz2.toInt ≤ 1 := F0z2
  have F1z2 : rz2.toInt = 1 → ((0 : Int) ≤ v1.toInt ∧ v1.toInt ≤ (3999 : Int)) := F1z2
  have F2z2 : rz2.toInt = 0 → (v1.toInt < (0 : Int) ∨ (3999 : Int) < v1.toInt) := F2z2
  refine lv_if_eq (tgt := 21) hx hb d_X_peekSign_9 (by decide) (fun c3 => ?_) (fun c3 => ?_)
  · have gc3 : rz2.toInt = (0 : Int) := c_eq c3
    have R4 : 0 ≤ rz2.toInt ∧ rz2.toInt ≤ 0 := rf_eqX F0z2 (show 0 ≤ (0 : Int) ∧ (0 : Int) ≤ 0 from by decide) gc3 (by decide) (by decide)
    refine lv_iconst (v := (-1)) hx hb d_X_peekSign_21 (by decide) ?_
    exact W.iret (v := (-1 : Int32)) hx hb hr (fun t ht hW => ⟨⟨(-1 : Int32), (-1 : Int32), rfl, rfl, ⟨by show va_P D classes _ t.heap; rw [ht]; exact hP, hD⟩⟩, hS.F ht⟩) hS.2.2 d_X_peekSign_22
  · have gc3 : rz2.toInt ≠ (0 : Int) := c_ne c3
    have R5 : 1 ≤ rz2.toInt ∧ rz2.toInt ≤ 1 := rf_neX F0z2 (show 0 ≤ (0 : Int) ∧ (0 : Int) ≤ 0 from by decide) gc3 (by decide) (by decide)
    refine lv_aload_n hx hb d_X_peekSign_12 rfl (lv_at hl 0 rfl) ?_
    refine va_get (D := D) (ci := 7) (v := .ref p1) (C := "SignMachineModel") (T := F_X) (N := 64) hx hb hk fi_X hown hK.1 hP 0 rfl rfl 0 (by decide) (hk _ k_1121) (fun _ h9 => h9) rfl d_X_peekSign_13 ?_
    refine lv_iload_n hx hb d_X_peekSign_16 rfl (lv_at hl 1 rfl) ?_
    refine va_iald hx hb hK.1 hP 1 0 rfl rfl (by rw [vp_in_iff]; omega) d_X_peekSign_17 ?_
    refine lv_topi (fun v6 hv6 => ?_)
    have Rv6 := Ay1 (a1).toNatClampNeg
    rw [← hv6] at Rv6
    refine lv_goto (tgt := 22) hx hb d_X_peekSign_18 (by decide) ?_
    exact W.iret (v := v6) hx hb hr (fun t ht hW => ⟨⟨v6, v6, rfl, rfl, ⟨by show va_P D classes _ t.heap; rw [ht]; exact hP, hD⟩⟩, hS.F ht⟩) hS.2.2 d_X_peekSign_22
theorem v_X_peekSign {R : Room} {s : State} {args : Array Value} {own : String} {index : Nat} (hk : ∀ w ∈ tb, w.before args s = true) (hl : Cond.methodLink own index y_X_peekSign ∈ tb) (hR : 1 + 1 ≤ R.frames ∧ 8 + (2 + 11) + 25 ≤ R.locals) : CallW R s args own "SignMachineModel" index y_X_peekSign b_X_peekSign 2 (some .int) (.code y_X_peekSign b_X_peekSign 2 (some .int) :: tb) ({ frames := 1, cells := 0, slots := 0, locals := 25 }) 0 0 1 := mk_v 1 hk k_1326 hl k_1324 k_1325 k_119 rfl rfl h_X_peekSign hR
set_option maxHeartbeats 8000000 in
set_option maxRecDepth 100000 in
theorem c_X_peekSize (l : Launch) (D : va_G) (cI cJ cZ cB : ClassId) (p0 p1 p2 p3 p4 p5 p6 p7 p8 p9 p10 p11 p12 p13 p14 p15 p16 p17 p18 p19 p20 p21 p22 p23 p24 p25 : Nat) (sz : Nat) (x0_4 : Int32) (x0_5 : Int32) (x0_6 : Int32) (x0_7 : Int32) (x0_8 : Int32) (x0_12 : Int32) (x0_13 : Int32) (x0_14 : Int32) (x0_15 : Int32) (x0_16 : Int32) (x0_17 : Int32) (x0_18 : Int32) (x0_22 : Int32) (x0_23 : Int32) (x0_24 : Int32) (x0_25 : Int32) (x0_26 : Int32) (x0_27 : Int32) (x0_28 : Int32) (x0_29 : Int32) (x0_30 : Int32) (x0_31 : Int32) (x0_32 : Int32) (x0_36 : Int32) (x0_39 : Int32) (x0_40 : Int64) (x0_44 : Int32) (x0_49 : Int32) (x0_51 : Int32) (x0_53 : Int32) (x0_54 : Int32) (x0_55 : Int64) (x0_56 : Int32) (x0_57 : Int32) (x0_58 : Int32) (x0_59 : Int32) (x0_60 : Int32) (x0_61 : Int32) (x0_62 : Int64) (y1 : Nat → Int32) (y2 : Nat → Int32) (y3 : Nat → Int32) (y4 : Nat → Int32) (y5 : Nat → Int32) (y6 : Nat → Int32) (y7 : Nat → Int32) (y8 : Nat → Int32) (y9 : Nat → Int32) (y10 : Nat → Int32) (y11 : Nat → Int64) (y12 : Nat → Int32) (y13 : Nat → Int64) (y14 : Nat → Int32) (y15 : Nat → Int64) (y16 : Nat → Int32) (y17 : Nat → Int32) (y18 : Nat → Int32) (y19 : Nat → Int32) (y20 : Nat → Int32) (y21 : Nat → Int32) (y22 : Nat → Int32) (y23 : Nat → Int32) (y24 : Nat → Int64) (y25 : Nat → Int64) (a1 : Int32) (Ay2 : ∀ i : Nat, (0 ≤ (y2 i).toInt ∧ (y2 i).toInt ≤ 1073741823)) : Met l y_X_peekSize (.code y_X_peekSize b_X_peekSize 2 (some .int) :: tb) ({ frames := 1, cells := 0, slots := 0, locals := 25 }) (pM D cI cJ cZ cB (wS50 cI cJ cZ cB p0 p1 p2 p3 p4 p5 p6 p7 p8 p9 p10 p11 p12 p13 p14 p15 p16 p17 p18 p19 p20 p21 p22 p23 p24 p25 x0_4 x0_5 x0_6 x0_7 x0_8 x0_12 x0_13 x0_14 x0_15 x0_16 x0_17 x0_18 x0_22 x0_23 x0_24 x0_25 x0_26 x0_27 x0_28 x0_29 x0_30 x0_31 x0_32 x0_36 x0_39 x0_40 x0_44 x0_49 x0_51 x0_53 x0_54 x0_55 x0_56 x0_57 x0_58 x0_59 x0_60 x0_61 x0_62 y1 y2 y3 y4 y5 y6 y7 y8 y9 y10 y11 y12 y13 y14 y15 y16 y17 y18 y19 y20 y21 y22 y23 y24 y25) sz [.ref p0, .int a1]) (va_Qi (fun r (u : Int32) => r = u) (fun ur t => va_P D classes (wS50 cI cJ cZ cB p0 p1 p2 p3 p4 p5 p6 p7 p8 p9 p10 p11 p12 p13 p14 p15 p16 p17 p18 p19 p20 p21 p22 p23 p24 p25 x0_4 x0_5 x0_6 x0_7 x0_8 x0_12 x0_13 x0_14 x0_15 x0_16 x0_17 x0_18 x0_22 x0_23 x0_24 x0_25 x0_26 x0_27 x0_28 x0_29 x0_30 x0_31 x0_32 x0_36 x0_39 x0_40 x0_44 x0_49 x0_51 x0_53 x0_54 x0_55 x0_56 x0_57 x0_58 x0_59 x0_60 x0_61 x0_62 y1 y2 y3 y4 y5 y6 y7 y8 y9 y10 y11 y12 y13 y14 y15 y16 y17 y18 y19 y20 y21 y22 y23 y24 y25) t.heap ∧ va_D (va_A (wS50 cI cJ cZ cB p0 p1 p2 p3 p4 p5 p6 p7 p8 p9 p10 p11 p12 p13 p14 p15 p16 p17 p18 p19 p20 p21 p22 p23 p24 p25 x0_4 x0_5 x0_6 x0_7 x0_8 x0_12 x0_13 x0_14 x0_15 x0_16 x0_17 x0_18 x0_22 x0_23 x0_24 x0_25 x0_26 x0_27 x0_28 x0_29 x0_30 x0_31 x0_32 x0_36 x0_39 x0_40 x0_44 x0_49 x0_51 x0_53 x0_54 x0_55 x0_56 x0_57 x0_58 x0_59 x0_60 x0_61 x0_62 y1 y2 y3 y4 y5 y6 y7 y8 y9 y10 y11 y12 y13 y14 y15 y16 y17 y18 y19 y20 y21 y22 y23 y24 y25) sz) (wS50 cI cJ cZ cB p0 p1 p2 p3 p4 p5 p6 p7 p8 p9 p10 p11 p12 p13 p14 p15 p16 p17 p18 p19 p20 p21 p22 p23 p24 p25 x0_4 x0_5 x0_6 x0_7 x0_8 x0_12 x0_13 x0_14 x0_15 x0_16 x0_17 x0_18 x0_22 x0_23 x0_24 x0_25 x0_26 x0_27 x0_28 x0_29 x0_30 x0_31 x0_32 x0_36 x0_39 x0_40 x0_44 x0_49 x0_51 x0_53 x0_54 x0_55 x0_56 x0_57 x0_58 x0_59 x0_60 x0_61 x0_62 y1 y2 y3 y4 y5 y6 y7 y8 y9 y10 y11 y12 y13 y14 y15 y16 y17 y18 y19 y20 y21 y22 y23 y24 y25)) (va_A (wS50 cI cJ cZ cB p0 p1 p2 p3 p4 p5 p6 p7 p8 p9 p10 p11 p12 p13 p14 p15 p16 p17 p18 p19 p20 p21 p22 p23 p24 p25 x0_4 x0_5 x0_6 x0_7 x0_8 x0_12 x0_13 x0_14 x0_15 x0_16 x0_17 x0_18 x0_22 x0_23 x0_24 x0_25 x0_26 x0_27 x0_28 x0_29 x0_30 x0_31 x0_32 x0_36 x0_39 x0_40 x0_44 x0_49 x0_51 x0_53 x0_54 x0_55 x0_56 x0_57 x0_58 x0_59 x0_60 x0_61 x0_62 y1 y2 y3 y4 y5 y6 y7 y8 y9 y10 y11 y12 y13 y14 y15 y16 y17 y18 y19 y20 y21 y22 y23 y24 y25) sz)) 0 0 (va_A (wS50 cI cJ cZ cB p0 p1 p2 p3 p4 p5 p6 p7 p8 p9 p10 p11 p12 p13 p14 p15 p16 p17 p18 p19 p20 p21 p22 p23 p24 p25 x0_4 x0_5 x0_6 x0_7 x0_8 x0_12 x0_13 x0_14 x0_15 x0_16 x0_17 x0_18 x0_22 x0_23 x0_24 x0_25 x0_26 x0_27 x0_28 x0_29 x0_30 x0_31 x0_32 x0_36 x0_39 x0_40 x0_44 x0_49 x0_51 x0_53 x0_54 x0_55 x0_56 x0_57 x0_58 x0_59 x0_60 x0_61 x0_62 y1 y2 y3 y4 y5 y6 y7 y8 y9 y10 y11 y12 y13 y14 y15 y16 y17 y18 y19 y20 y21 y22 y23 y24 y25) sz) := by
  refine Met.ofW (cc := b_X_peekSize) (maxL := 2) (ret := (some .int)) (by decide) rfl ?_
  intro p e s m args below meth c s₁ B hml hv
  obtain ⟨rfl, hsz, hK, hP, hD0⟩ := hv
  subst hsz
  have hD := hD0.self (sz := s.heap.size)
  generalize hAe : va_A (wS50 cI cJ cZ cB p0 p1 p2 p3 p4 p5 p6 p7 p8 p9 p10 p11 p12 p13 p14 p15 p16 p17 p18 p19 p20 p21 p22 p23 p24 p25 x0_4 x0_5 x0_6 x0_7 x0_8 x0_12 x0_13 x0_14 x0_15 x0_16 x0_17 x0_18 x0_22 x0_23 x0_24 x0_25 x0_26 x0_27 x0_28 x0_29 x0_30 x0_31 x0_32 x0_36 x0_39 x0_40 x0_44 x0_49 x0_51 x0_53 x0_54 x0_55 x0_56 x0_57 x0_58 x0_59 x0_60 x0_61 x0_62 y1 y2 y3 y4 y5 y6 y7 y8 y9 y10 y11 y12 y13 y14 y15 y16 y17 y18 y19 y20 y21 y22 y23 y24 y25) s.heap.size = A at hD ⊢
  have hA : ∀ q : Nat, s.heap.size ≤ q → A q := fun q h => by rw [← hAe]; exact Or.inr h
  clear hAe hD0
  have hS : va_S A s.heap s.heap [] := va_S.rf
  have hx := B.exec
  have hb := B.bytes
  have hr := B.returns
  have hts := atoms_spec (ws := .code y_X_peekSize b_X_peekSize 2 (some .int) :: tb) B.pre
  have hk : ∀ w ∈ tb, w.before [.ref p0, .int a1].toArray s = true := fun w h => hts w (List.mem_cons_of_mem _ h)
  have hown : s.vm.findClass "SignMachineModel" = some m.cls := findClass_of_methodNamed B.named
  have hlocks := B.notSynchronized
  have hl := lv_entry ([.ref p0, .int a1]) (n := 2) (Nat.le_of_ble_eq_true rfl)
  rw [lg_entry_eq]
  generalize (lg_sl ([.ref p0, .int a1]) ++ List.replicate (2 - (lg_sl ([.ref p0, .int a1])).length) Slot.unset).toArray = ls at hl ⊢
  have hl : lv_has ls 2 [(0, .ref p0), (1, .int a1)] := hl
  clear hts B
  refine lv_iload_n hx hb d_X_peekSize_0 rfl (lv_at hl 1 rfl) ?_
  refine lv_i2l (v := (a1 : Int32).toInt64) hx hb d_X_peekSize_1 rfl ?_
  refine lv_topl (fun v1 hv1 => ?_)
  obtain ⟨ev1, Rv1⟩ : v1.toInt = a1.toInt ∧ ((-2147483648) ≤ v1.toInt ∧ v1.toInt ≤ 2147483647) := il3 hv1 (fr3 a1)
  refine lv_lconst (v := 0) hx hb d_X_peekSize_2 (by decide) ?_
  refine lv_ldc2 (v := 3999) hx hb hown (hk _ k_1318) d_X_peekSize_3 ?_
  refine vp_callSi (W.runS (As := [.long v1, .long (0 : Int64), .long (3999 : Int64)]) (rest := []) ⟨hx, hb, hml, hown, hk⟩ (c_X_isIn l v1 (0 : Int64) (3999 : Int64) ) (s_X_isIn hk k_1319 ⟨Nat.le_of_ble_eq_true rfl, Nat.le_of_ble_eq_true rfl⟩) ⟨fun a U g mk q => q, fun U hU hW => ⟨rfl, trivial⟩⟩ rfl rfl hl.1 rfl (lv_room (Nat.le_of_ble_eq_true rfl)) d_X_peekSize_6 ⟨Nat.le_of_ble_eq_true rfl, Nat.le_of_ble_eq_true rfl⟩) (fun rz2 hrz2 => ?_)
  obtain ⟨F0z2, F1z2, F2z2⟩ := hrz2
  have F0z2 : 0 ≤ rz2.toInt ∧ rz2.toInt ≤ 1 := F0z2
  have F1z2 : rz2.toInt = 1 → ((0 : Int) ≤ v1.toInt ∧ v1.toInt ≤ (3999 : Int)) := F1z2
  have F2z2 : rz2.toInt = 0 → (v1.toInt < (0 : Int) ∨ (3999 : Int) < v1.toInt) := F2z2
  refine lv_if_eq (tgt := 21) hx hb d_X_peekSize_9 (by decide) (fun c3 => ?_) (fun c3 => ?_)
  · have gc3 : rz2.toInt = (0 : Int) := c_eq c3
    have R4 : 0 ≤ rz2.toInt ∧ rz2.toInt ≤ 0 := rf_eqX F0z2 (show 0 ≤ (0 : Int) ∧ (0 : Int) ≤ 0 from by decide) gc3 (by decide) (by decide)
    refine lv_iconst (v := (-1)) hx hb d_X_peekSize_21 (by decide) ?_
    exact W.iret (v := (-1 : Int32)) hx hb hr (fun t ht hW => ⟨⟨(-1 : Int32), (-1 : Int32), rfl, rfl, ⟨by show va_P D classes _ t.heap; rw [ht]; exact hP, hD⟩⟩, hS.F ht⟩) hS.2.2 d_X_peekSize_22
  · have gc3 : rz2.toInt ≠ (0 : Int) := c_ne c3
    have R5 : 1 ≤ rz2.toInt ∧ rz2.toInt ≤ 1 := rf_neX F0z2 (show 0 ≤ (0 : Int) ∧ (0 : Int) ≤ 0 from by decide) gc3 (by decide) (by decide)
    refine lv_aload_n hx hb d_X_peekSize_12 rfl (lv_at hl 0 rfl) ?_
    refine va_get (D := D) (ci := 7) (v := .ref p2) (C := "SignMachineModel") (T := F_X) (N := 64) hx hb hk fi_X hown hK.1 hP 0 rfl rfl 1 (by decide) (hk _ k_1122) (fun _ h9 => h9) rfl d_X_peekSize_13 ?_
    refine lv_iload_n hx hb d_X_peekSize_16 rfl (lv_at hl 1 rfl) ?_
    refine va_iald hx hb hK.1 hP 2 0 rfl rfl (by rw [vp_in_iff]; omega) d_X_peekSize_17 ?_
    refine lv_topi (fun v6 hv6 => ?_)
    have Rv6 := Ay2 (a1).toNatClampNeg
    rw [← hv6] at Rv6
    refine lv_goto (tgt := 22) hx hb d_X_peekSize_18 (by decide) ?_
    exact W.iret (v := v6) hx hb hr (fun t ht hW => ⟨⟨v6, v6, rfl, rfl, ⟨by show va_P D classes _ t.heap; rw [ht]; exact hP, hD⟩⟩, hS.F ht⟩) hS.2.2 d_X_peekSize_22
theorem v_X_peekSize {R : Room} {s : State} {args : Array Value} {own : String} {index : Nat} (hk : ∀ w ∈ tb, w.before args s = true) (hl : Cond.methodLink own index y_X_peekSize ∈ tb) (hR : 1 + 1 ≤ R.frames ∧ 8 + (2 + 11) + 25 ≤ R.locals) : CallW R s args own "SignMachineModel" index y_X_peekSize b_X_peekSize 2 (some .int) (.code y_X_peekSize b_X_peekSize 2 (some .int) :: tb) ({ frames := 1, cells := 0, slots := 0, locals := 25 }) 0 0 1 := mk_v 1 hk k_1330 hl k_1328 k_1329 k_119 rfl rfl h_X_peekSize hR
set_option maxHeartbeats 8000000 in
set_option maxRecDepth 100000 in
theorem c_X_registerSign (l : Launch) (D : va_G) (cI cJ cZ cB : ClassId) (p0 p1 p2 p3 p4 p5 p6 p7 p8 p9 p10 p11 p12 p13 p14 p15 p16 p17 p18 p19 p20 p21 p22 p23 p24 p25 : Nat) (sz : Nat) (x0_4 : Int32) (x0_5 : Int32) (x0_6 : Int32) (x0_7 : Int32) (x0_8 : Int32) (x0_12 : Int32) (x0_13 : Int32) (x0_14 : Int32) (x0_15 : Int32) (x0_16 : Int32) (x0_17 : Int32) (x0_18 : Int32) (x0_22 : Int32) (x0_23 : Int32) (x0_24 : Int32) (x0_25 : Int32) (x0_26 : Int32) (x0_27 : Int32) (x0_28 : Int32) (x0_29 : Int32) (x0_30 : Int32) (x0_31 : Int32) (x0_32 : Int32) (x0_36 : Int32) (x0_39 : Int32) (x0_40 : Int64) (x0_44 : Int32) (x0_49 : Int32) (x0_51 : Int32) (x0_53 : Int32) (x0_54 : Int32) (x0_55 : Int64) (x0_56 : Int32) (x0_57 : Int32) (x0_58 : Int32) (x0_59 : Int32) (x0_60 : Int32) (x0_61 : Int32) (x0_62 : Int64) (y1 : Nat → Int32) (y2 : Nat → Int32) (y3 : Nat → Int32) (y4 : Nat → Int32) (y5 : Nat → Int32) (y6 : Nat → Int32) (y7 : Nat → Int32) (y8 : Nat → Int32) (y9 : Nat → Int32) (y10 : Nat → Int32) (y11 : Nat → Int64) (y12 : Nat → Int32) (y13 : Nat → Int64) (y14 : Nat → Int32) (y15 : Nat → Int64) (y16 : Nat → Int32) (y17 : Nat → Int32) (y18 : Nat → Int32) (y19 : Nat → Int32) (y20 : Nat → Int32) (y21 : Nat → Int32) (y22 : Nat → Int32) (y23 : Nat → Int32) (y24 : Nat → Int64) (y25 : Nat → Int64) (a1 : Int32) (Ay3 : ∀ i : Nat, (0 ≤ (y3 i).toInt ∧ (y3 i).toInt ≤ 1)) : Met l y_X_registerSign (.code y_X_registerSign b_X_registerSign 2 (some .int) :: tb) ({ frames := 1, cells := 0, slots := 0, locals := 25 }) (pM D cI cJ cZ cB (wS50 cI cJ cZ cB p0 p1 p2 p3 p4 p5 p6 p7 p8 p9 p10 p11 p12 p13 p14 p15 p16 p17 p18 p19 p20 p21 p22 p23 p24 p25 x0_4 x0_5 x0_6 x0_7 x0_8 x0_12 x0_13 x0_14 x0_15 x0_16 x0_17 x0_18 x0_22 x0_23 x0_24 x0_25 x0_26 x0_27 x0_28 x0_29 x0_30 x0_31 x0_32 x0_36 x0_39 x0_40 x0_44 x0_49 x0_51 x0_53 x0_54 x0_55 x0_56 x0_57 x0_58 x0_59 x0_60 x0_61 x0_62 y1 y2 y3 y4 y5 y6 y7 y8 y9 y10 y11 y12 y13 y14 y15 y16 y17 y18 y19 y20 y21 y22 y23 y24 y25) sz [.ref p0, .int a1]) (va_Qi (fun r (u : Int32) => r = u) (fun ur t => va_P D classes (wS50 cI cJ cZ cB p0 p1 p2 p3 p4 p5 p6 p7 p8 p9 p10 p11 p12 p13 p14 p15 p16 p17 p18 p19 p20 p21 p22 p23 p24 p25 x0_4 x0_5 x0_6 x0_7 x0_8 x0_12 x0_13 x0_14 x0_15 x0_16 x0_17 x0_18 x0_22 x0_23 x0_24 x0_25 x0_26 x0_27 x0_28 x0_29 x0_30 x0_31 x0_32 x0_36 x0_39 x0_40 x0_44 x0_49 x0_51 x0_53 x0_54 x0_55 x0_56 x0_57 x0_58 x0_59 x0_60 x0_61 x0_62 y1 y2 y3 y4 y5 y6 y7 y8 y9 y10 y11 y12 y13 y14 y15 y16 y17 y18 y19 y20 y21 y22 y23 y24 y25) t.heap ∧ va_D (va_A (wS50 cI cJ cZ cB p0 p1 p2 p3 p4 p5 p6 p7 p8 p9 p10 p11 p12 p13 p14 p15 p16 p17 p18 p19 p20 p21 p22 p23 p24 p25 x0_4 x0_5 x0_6 x0_7 x0_8 x0_12 x0_13 x0_14 x0_15 x0_16 x0_17 x0_18 x0_22 x0_23 x0_24 x0_25 x0_26 x0_27 x0_28 x0_29 x0_30 x0_31 x0_32 x0_36 x0_39 x0_40 x0_44 x0_49 x0_51 x0_53 x0_54 x0_55 x0_56 x0_57 x0_58 x0_59 x0_60 x0_61 x0_62 y1 y2 y3 y4 y5 y6 y7 y8 y9 y10 y11 y12 y13 y14 y15 y16 y17 y18 y19 y20 y21 y22 y23 y24 y25) sz) (wS50 cI cJ cZ cB p0 p1 p2 p3 p4 p5 p6 p7 p8 p9 p10 p11 p12 p13 p14 p15 p16 p17 p18 p19 p20 p21 p22 p23 p24 p25 x0_4 x0_5 x0_6 x0_7 x0_8 x0_12 x0_13 x0_14 x0_15 x0_16 x0_17 x0_18 x0_22 x0_23 x0_24 x0_25 x0_26 x0_27 x0_28 x0_29 x0_30 x0_31 x0_32 x0_36 x0_39 x0_40 x0_44 x0_49 x0_51 x0_53 x0_54 x0_55 x0_56 x0_57 x0_58 x0_59 x0_60 x0_61 x0_62 y1 y2 y3 y4 y5 y6 y7 y8 y9 y10 y11 y12 y13 y14 y15 y16 y17 y18 y19 y20 y21 y22 y23 y24 y25)) (va_A (wS50 cI cJ cZ cB p0 p1 p2 p3 p4 p5 p6 p7 p8 p9 p10 p11 p12 p13 p14 p15 p16 p17 p18 p19 p20 p21 p22 p23 p24 p25 x0_4 x0_5 x0_6 x0_7 x0_8 x0_12 x0_13 x0_14 x0_15 x0_16 x0_17 x0_18 x0_22 x0_23 x0_24 x0_25 x0_26 x0_27 x0_28 x0_29 x0_30 x0_31 x0_32 x0_36 x0_39 x0_40 x0_44 x0_49 x0_51 x0_53 x0_54 x0_55 x0_56 x0_57 x0_58 x0_59 x0_60 x0_61 x0_62 y1 y2 y3 y4 y5 y6 y7 y8 y9 y10 y11 y12 y13 y14 y15 y16 y17 y18 y19 y20 y21 y22 y23 y24 y25) sz)) 0 0 (va_A (wS50 cI cJ cZ cB p0 p1 p2 p3 p4 p5 p6 p7 p8 p9 p10 p11 p12 p13 p14 p15 p16 p17 p18 p19 p20 p21 p22 p23 p24 p25 x0_4 x0_5 x0_6 x0_7 x0_8 x0_12 x0_13 x0_14 x0_15 x0_16 x0_17 x0_18 x0_22 x0_23 x0_24 x0_25 x0_26 x0_27 x0_28 x0_29 x0_30 x0_31 x0_32 x0_36 x0_39 x0_40 x0_44 x0_49 x0_51 x0_53 x0_54 x0_55 x0_56 x0_57 x0_58 x0_59 x0_60 x0_61 x0_62 y1 y2 y3 y4 y5 y6 y7 y8 y9 y10 y11 y12 y13 y14 y15 y16 y17 y18 y19 y20 y21 y22 y23 y24 y25) sz) := by
  refine Met.ofW (cc := b_X_registerSign) (maxL := 2) (ret := (some .int)) (by decide) rfl ?_
  intro p e s m args below meth c s₁ B hml hv
  obtain ⟨rfl, hsz, hK, hP, hD0⟩ := hv
  subst hsz
  have hD := hD0.self (sz := s.heap.size)
  generalize hAe : va_A (wS50 cI cJ cZ cB p0 p1 p2 p3 p4 p5 p6 p7 p8 p9 p10 p11 p12 p13 p14 p15 p16 p17 p18 p19 p20 p21 p22 p23 p24 p25 x0_4 x0_5 x0_6 x0_7 x0_8 x0_12 x0_13 x0_14 x0_15 x0_16 x0_17 x0_18 x0_22 x0_23 x0_24 x0_25 x0_26 x0_27 x0_28 x0_29 x0_30 x0_31 x0_32 x0_36 x0_39 x0_40 x0_44 x0_49 x0_51 x0_53 x0_54 x0_55 x0_56 x0_57 x0_58 x0_59 x0_60 x0_61 x0_62 y1 y2 y3 y4 y5 y6 y7 y8 y9 y10 y11 y12 y13 y14 y15 y16 y17 y18 y19 y20 y21 y22 y23 y24 y25) s.heap.size = A at hD ⊢
  have hA : ∀ q : Nat, s.heap.size ≤ q → A q := fun q h => by rw [← hAe]; exact Or.inr h
  clear hAe hD0
  have hS : va_S A s.heap s.heap [] := va_S.rf
  have hx := B.exec
  have hb := B.bytes
  have hr := B.returns
  have hts := atoms_spec (ws := .code y_X_registerSign b_X_registerSign 2 (some .int) :: tb) B.pre
  have hk : ∀ w ∈ tb, w.before [.ref p0, .int a1].toArray s = true := fun w h => hts w (List.mem_cons_of_mem _ h)
  have hown : s.vm.findClass "SignMachineModel" = some m.cls := findClass_of_methodNamed B.named
  have hlocks := B.notSynchronized
  have hl := lv_entry ([.ref p0, .int a1]) (n := 2) (Nat.le_of_ble_eq_true rfl)
  rw [lg_entry_eq]
  generalize (lg_sl ([.ref p0, .int a1]) ++ List.replicate (2 - (lg_sl ([.ref p0, .int a1])).length) Slot.unset).toArray = ls at hl ⊢
  have hl : lv_has ls 2 [(0, .ref p0), (1, .int a1)] := hl
  clear hts B
  refine lv_iload_n hx hb d_X_registerSign_0 rfl (lv_at hl 1 rfl) ?_
  refine lv_i2l (v := (a1 : Int32).toInt64) hx hb d_X_registerSign_1 rfl ?_
  refine lv_topl (fun v1 hv1 => ?_)
  obtain ⟨ev1, Rv1⟩ : v1.toInt = a1.toInt ∧ ((-2147483648) ≤ v1.toInt ∧ v1.toInt ≤ 2147483647) := il3 hv1 (fr3 a1)
  refine lv_lconst (v := 0) hx hb d_X_registerSign_2 (by decide) ?_
  refine lv_ldc2 (v := 8) hx hb hown (hk _ k_1335) d_X_registerSign_3 ?_
  refine vp_callSi (W.runS (As := [.long v1, .long (0 : Int64), .long (8 : Int64)]) (rest := []) ⟨hx, hb, hml, hown, hk⟩ (c_X_isIn l v1 (0 : Int64) (8 : Int64) ) (s_X_isIn hk k_1319 ⟨Nat.le_of_ble_eq_true rfl, Nat.le_of_ble_eq_true rfl⟩) ⟨fun a U g mk q => q, fun U hU hW => ⟨rfl, trivial⟩⟩ rfl rfl hl.1 rfl (lv_room (Nat.le_of_ble_eq_true rfl)) d_X_registerSign_6 ⟨Nat.le_of_ble_eq_true rfl, Nat.le_of_ble_eq_true rfl⟩) (fun rz2 hrz2 => ?_)
  obtain ⟨F0z2, F1z2, F2z2⟩ := hrz2
  have F0z2 : 0 ≤ rz2.toInt ∧ rz2.toInt ≤ 1 := F0z2
  have F1z2 : rz2.toInt = 1 → ((0 : Int) ≤ v1.toInt ∧ v1.toInt ≤ (8 : Int)) := F1z2
  have F2z2 : rz2.toInt = 0 → (v1.toInt < (0 : Int) ∨ (8 : Int) < v1.toInt) := F2z2
  refine lv_if_eq (tgt := 21) hx hb d_X_registerSign_9 (by decide) (fun c3 => ?_) (fun c3 => ?_)
  · have gc3 : rz2.toInt = (0 : Int) := c_eq c3
    have R4 : 0 ≤ rz2.toInt ∧ rz2.toInt ≤ 0 := rf_eqX F0z2 (show 0 ≤ (0 : Int) ∧ (0 : Int) ≤ 0 from by decide) gc3 (by decide) (by decide)
    refine lv_iconst (v := (-1)) hx hb d_X_registerSign_21 (by decide) ?_
    exact W.iret (v := (-1 : Int32)) hx hb hr (fun t ht hW => ⟨⟨(-1 : Int32), (-1 : Int32), rfl, rfl, ⟨by show va_P D classes _ t.heap; rw [ht]; exact hP, hD⟩⟩, hS.F ht⟩) hS.2.2 d_X_registerSign_22
  · have gc3 : rz2.toInt ≠ (0 : Int) := c_ne c3
    have R5 : 1 ≤ rz2.toInt ∧ rz2.toInt ≤ 1 := rf_neX F0z2 (show 0 ≤ (0 : Int) ∧ (0 : Int) ≤ 0 from by decide) gc3 (by decide) (by decide)
    refine lv_aload_n hx hb d_X_registerSign_12 rfl (lv_at hl 0 rfl) ?_
    refine va_get (D := D) (ci := 7) (v := .ref p3) (C := "SignMachineModel") (T := F_X) (N := 64) hx hb hk fi_X hown hK.1 hP 0 rfl rfl 2 (by decide) (hk _ k_1123) (fun _ h9 => h9) rfl d_X_registerSign_13 ?_
    refine lv_iload_n hx hb d_X_registerSign_16 rfl (lv_at hl 1 rfl) ?_
    refine va_iald hx hb hK.1 hP 3 0 rfl rfl (by rw [vp_in_iff]; omega) d_X_registerSign_17 ?_
    refine lv_topi (fun v6 hv6 => ?_)
    have Rv6 := Ay3 (a1).toNatClampNeg
    rw [← hv6] at Rv6
    refine lv_goto (tgt := 22) hx hb d_X_registerSign_18 (by decide) ?_
    exact W.iret (v := v6) hx hb hr (fun t ht hW => ⟨⟨v6, v6, rfl, rfl, ⟨by show va_P D classes _ t.heap; rw [ht]; exact hP, hD⟩⟩, hS.F ht⟩) hS.2.2 d_X_registerSign_22
theorem v_X_registerSign {R : Room} {s : State} {args : Array Value} {own : String} {index : Nat} (hk : ∀ w ∈ tb, w.before args s = true) (hl : Cond.methodLink own index y_X_registerSign ∈ tb) (hR : 1 + 1 ≤ R.frames ∧ 8 + (2 + 11) + 25 ≤ R.locals) : CallW R s args own "SignMachineModel" index y_X_registerSign b_X_registerSign 2 (some .int) (.code y_X_registerSign b_X_registerSign 2 (some .int) :: tb) ({ frames := 1, cells := 0, slots := 0, locals := 25 }) 0 0 1 := mk_v 1 hk k_1334 hl k_1332 k_1333 k_119 rfl rfl h_X_registerSign hR
set_option maxHeartbeats 8000000 in
set_option maxRecDepth 100000 in
theorem c_X_registerSize (l : Launch) (D : va_G) (cI cJ cZ cB : ClassId) (p0 p1 p2 p3 p4 p5 p6 p7 p8 p9 p10 p11 p12 p13 p14 p15 p16 p17 p18 p19 p20 p21 p22 p23 p24 p25 : Nat) (sz : Nat) (x0_4 : Int32) (x0_5 : Int32) (x0_6 : Int32) (x0_7 : Int32) (x0_8 : Int32) (x0_12 : Int32) (x0_13 : Int32) (x0_14 : Int32) (x0_15 : Int32) (x0_16 : Int32) (x0_17 : Int32) (x0_18 : Int32) (x0_22 : Int32) (x0_23 : Int32) (x0_24 : Int32) (x0_25 : Int32) (x0_26 : Int32) (x0_27 : Int32) (x0_28 : Int32) (x0_29 : Int32) (x0_30 : Int32) (x0_31 : Int32) (x0_32 : Int32) (x0_36 : Int32) (x0_39 : Int32) (x0_40 : Int64) (x0_44 : Int32) (x0_49 : Int32) (x0_51 : Int32) (x0_53 : Int32) (x0_54 : Int32) (x0_55 : Int64) (x0_56 : Int32) (x0_57 : Int32) (x0_58 : Int32) (x0_59 : Int32) (x0_60 : Int32) (x0_61 : Int32) (x0_62 : Int64) (y1 : Nat → Int32) (y2 : Nat → Int32) (y3 : Nat → Int32) (y4 : Nat → Int32) (y5 : Nat → Int32) (y6 : Nat → Int32) (y7 : Nat → Int32) (y8 : Nat → Int32) (y9 : Nat → Int32) (y10 : Nat → Int32) (y11 : Nat → Int64) (y12 : Nat → Int32) (y13 : Nat → Int64) (y14 : Nat → Int32) (y15 : Nat → Int64) (y16 : Nat → Int32) (y17 : Nat → Int32) (y18 : Nat → Int32) (y19 : Nat → Int32) (y20 : Nat → Int32) (y21 : Nat → Int32) (y22 : Nat → Int32) (y23 : Nat → Int32) (y24 : Nat → Int64) (y25 : Nat → Int64) (a1 : Int32) (Ay4 : ∀ i : Nat, ((0 ≤ (y4 i).toInt ∧ (y4 i).toInt ≤ 1073741823) ∧ ((1 ≤ (i : Int) ∧ (i : Int) ≤ 6) → (y4 i).toInt ≤ 4095))) : Met l y_X_registerSize (.code y_X_registerSize b_X_registerSize 2 (some .int) :: tb) ({ frames := 1, cells := 0, slots := 0, locals := 25 }) (pM D cI cJ cZ cB (wS50 cI cJ cZ cB p0 p1 p2 p3 p4 p5 p6 p7 p8 p9 p10 p11 p12 p13 p14 p15 p16 p17 p18 p19 p20 p21 p22 p23 p24 p25 x0_4 x0_5 x0_6 x0_7 x0_8 x0_12 x0_13 x0_14 x0_15 x0_16 x0_17 x0_18 x0_22 x0_23 x0_24 x0_25 x0_26 x0_27 x0_28 x0_29 x0_30 x0_31 x0_32 x0_36 x0_39 x0_40 x0_44 x0_49 x0_51 x0_53 x0_54 x0_55 x0_56 x0_57 x0_58 x0_59 x0_60 x0_61 x0_62 y1 y2 y3 y4 y5 y6 y7 y8 y9 y10 y11 y12 y13 y14 y15 y16 y17 y18 y19 y20 y21 y22 y23 y24 y25) sz [.ref p0, .int a1]) (va_Qi (fun r (u : Int32) => r = u) (fun ur t => va_P D classes (wS50 cI cJ cZ cB p0 p1 p2 p3 p4 p5 p6 p7 p8 p9 p10 p11 p12 p13 p14 p15 p16 p17 p18 p19 p20 p21 p22 p23 p24 p25 x0_4 x0_5 x0_6 x0_7 x0_8 x0_12 x0_13 x0_14 x0_15 x0_16 x0_17 x0_18 x0_22 x0_23 x0_24 x0_25 x0_26 x0_27 x0_28 x0_29 x0_30 x0_31 x0_32 x0_36 x0_39 x0_40 x0_44 x0_49 x0_51 x0_53 x0_54 x0_55 x0_56 x0_57 x0_58 x0_59 x0_60 x0_61 x0_62 y1 y2 y3 y4 y5 y6 y7 y8 y9 y10 y11 y12 y13 y14 y15 y16 y17 y18 y19 y20 y21 y22 y23 y24 y25) t.heap ∧ va_D (va_A (wS50 cI cJ cZ cB p0 p1 p2 p3 p4 p5 p6 p7 p8 p9 p10 p11 p12 p13 p14 p15 p16 p17 p18 p19 p20 p21 p22 p23 p24 p25 x0_4 x0_5 x0_6 x0_7 x0_8 x0_12 x0_13 x0_14 x0_15 x0_16 x0_17 x0_18 x0_22 x0_23 x0_24 x0_25 x0_26 x0_27 x0_28 x0_29 x0_30 x0_31 x0_32 x0_36 x0_39 x0_40 x0_44 x0_49 x0_51 x0_53 x0_54 x0_55 x0_56 x0_57 x0_58 x0_59 x0_60 x0_61 x0_62 y1 y2 y3 y4 y5 y6 y7 y8 y9 y10 y11 y12 y13 y14 y15 y16 y17 y18 y19 y20 y21 y22 y23 y24 y25) sz) (wS50 cI cJ cZ cB p0 p1 p2 p3 p4 p5 p6 p7 p8 p9 p10 p11 p12 p13 p14 p15 p16 p17 p18 p19 p20 p21 p22 p23 p24 p25 x0_4 x0_5 x0_6 x0_7 x0_8 x0_12 x0_13 x0_14 x0_15 x0_16 x0_17 x0_18 x0_22 x0_23 x0_24 x0_25 x0_26 x0_27 x0_28 x0_29 x0_30 x0_31 x0_32 x0_36 x0_39 x0_40 x0_44 x0_49 x0_51 x0_53 x0_54 x0_55 x0_56 x0_57 x0_58 x0_59 x0_60 x0_61 x0_62 y1 y2 y3 y4 y5 y6 y7 y8 y9 y10 y11 y12 y13 y14 y15 y16 y17 y18 y19 y20 y21 y22 y23 y24 y25)) (va_A (wS50 cI cJ cZ cB p0 p1 p2 p3 p4 p5 p6 p7 p8 p9 p10 p11 p12 p13 p14 p15 p16 p17 p18 p19 p20 p21 p22 p23 p24 p25 x0_4 x0_5 x0_6 x0_7 x0_8 x0_12 x0_13 x0_14 x0_15 x0_16 x0_17 x0_18 x0_22 x0_23 x0_24 x0_25 x0_26 x0_27 x0_28 x0_29 x0_30 x0_31 x0_32 x0_36 x0_39 x0_40 x0_44 x0_49 x0_51 x0_53 x0_54 x0_55 x0_56 x0_57 x0_58 x0_59 x0_60 x0_61 x0_62 y1 y2 y3 y4 y5 y6 y7 y8 y9 y10 y11 y12 y13 y14 y15 y16 y17 y18 y19 y20 y21 y22 y23 y24 y25) sz)) 0 0 (va_A (wS50 cI cJ cZ cB p0 p1 p2 p3 p4 p5 p6 p7 p8 p9 p10 p11 p12 p13 p14 p15 p16 p17 p18 p19 p20 p21 p22 p23 p24 p25 x0_4 x0_5 x0_6 x0_7 x0_8 x0_12 x0_13 x0_14 x0_15 x0_16 x0_17 x0_18 x0_22 x0_23 x0_24 x0_25 x0_26 x0_27 x0_28 x0_29 x0_30 x0_31 x0_32 x0_36 x0_39 x0_40 x0_44 x0_49 x0_51 x0_53 x0_54 x0_55 x0_56 x0_57 x0_58 x0_59 x0_60 x0_61 x0_62 y1 y2 y3 y4 y5 y6 y7 y8 y9 y10 y11 y12 y13 y14 y15 y16 y17 y18 y19 y20 y21 y22 y23 y24 y25) sz) := by
  refine Met.ofW (cc := b_X_registerSize) (maxL := 2) (ret := (some .int)) (by decide) rfl ?_
  intro p e s m args below meth c s₁ B hml hv
  obtain ⟨rfl, hsz, hK, hP, hD0⟩ := hv
  subst hsz
  have hD := hD0.self (sz := s.heap.size)
  generalize hAe : va_A (wS50 cI cJ cZ cB p0 p1 p2 p3 p4 p5 p6 p7 p8 p9 p10 p11 p12 p13 p14 p15 p16 p17 p18 p19 p20 p21 p22 p23 p24 p25 x0_4 x0_5 x0_6 x0_7 x0_8 x0_12 x0_13 x0_14 x0_15 x0_16 x0_17 x0_18 x0_22 x0_23 x0_24 x0_25 x0_26 x0_27 x0_28 x0_29 x0_30 x0_31 x0_32 x0_36 x0_39 x0_40 x0_44 x0_49 x0_51 x0_53 x0_54 x0_55 x0_56 x0_57 x0_58 x0_59 x0_60 x0_61 x0_62 y1 y2 y3 y4 y5 y6 y7 y8 y9 y10 y11 y12 y13 y14 y15 y16 y17 y18 y19 y20 y21 y22 y23 y24 y25) s.heap.size = A at hD ⊢
  have hA : ∀ q : Nat, s.heap.size ≤ q → A q := fun q h => by rw [← hAe]; exact Or.inr h
  clear hAe hD0
  have hS : va_S A s.heap s.heap [] := va_S.rf
  have hx := B.exec
  have hb := B.bytes
  have hr := B.returns
  have hts := atoms_spec (ws := .code y_X_registerSize b_X_registerSize 2 (some .int) :: tb) B.pre
  have hk : ∀ w ∈ tb, w.before [.ref p0, .int a1].toArray s = true := fun w h => hts w (List.mem_cons_of_mem _ h)
  have hown : s.vm.findClass "SignMachineModel" = some m.cls := findClass_of_methodNamed B.named
  have hlocks := B.notSynchronized
  have hl := lv_entry ([.ref p0, .int a1]) (n := 2) (Nat.le_of_ble_eq_true rfl)
  rw [lg_entry_eq]
  generalize (lg_sl ([.ref p0, .int a1]) ++ List.replicate (2 - (lg_sl ([.ref p0, .int a1])).length) Slot.unset).toArray = ls at hl ⊢
  have hl : lv_has ls 2 [(0, .ref p0), (1, .int a1)] := hl
  clear hts B
  refine lv_iload_n hx hb d_X_registerSize_0 rfl (lv_at hl 1 rfl) ?_
  refine lv_i2l (v := (a1 : Int32).toInt64) hx hb d_X_registerSize_1 rfl ?_
  refine lv_topl (fun v1 hv1 => ?_)
  obtain ⟨ev1, Rv1⟩ : v1.toInt = a1.toInt ∧ ((-2147483648) ≤ v1.toInt ∧ v1.toInt ≤ 2147483647) := il3 hv1 (fr3 a1)
  refine lv_lconst (v := 0) hx hb d_X_registerSize_2 (by decide) ?_
  refine lv_ldc2 (v := 8) hx hb hown (hk _ k_1335) d_X_registerSize_3 ?_
  refine vp_callSi (W.runS (As := [.long v1, .long (0 : Int64), .long (8 : Int64)]) (rest := []) ⟨hx, hb, hml, hown, hk⟩ (c_X_isIn l v1 (0 : Int64) (8 : Int64) ) (s_X_isIn hk k_1319 ⟨Nat.le_of_ble_eq_true rfl, Nat.le_of_ble_eq_true rfl⟩) ⟨fun a U g mk q => q, fun U hU hW => ⟨rfl, trivial⟩⟩ rfl rfl hl.1 rfl (lv_room (Nat.le_of_ble_eq_true rfl)) d_X_registerSize_6 ⟨Nat.le_of_ble_eq_true rfl, Nat.le_of_ble_eq_true rfl⟩) (fun rz2 hrz2 => ?_)
  obtain ⟨F0z2, F1z2, F2z2⟩ := hrz2
  have F0z2 : 0 ≤ rz2.toInt ∧ rz2.toInt ≤ 1 := F0z2
  have F1z2 : rz2.toInt = 1 → ((0 : Int) ≤ v1.toInt ∧ v1.toInt ≤ (8 : Int)) := F1z2
  have F2z2 : rz2.toInt = 0 → (v1.toInt < (0 : Int) ∨ (8 : Int) < v1.toInt) := F2z2
  refine lv_if_eq (tgt := 21) hx hb d_X_registerSize_9 (by decide) (fun c3 => ?_) (fun c3 => ?_)
  · have gc3 : rz2.toInt = (0 : Int) := c_eq c3
    have R4 : 0 ≤ rz2.toInt ∧ rz2.toInt ≤ 0 := rf_eqX F0z2 (show 0 ≤ (0 : Int) ∧ (0 : Int) ≤ 0 from by decide) gc3 (by decide) (by decide)
    refine lv_iconst (v := (-1)) hx hb d_X_registerSize_21 (by decide) ?_
    exact W.iret (v := (-1 : Int32)) hx hb hr (fun t ht hW => ⟨⟨(-1 : Int32), (-1 : Int32), rfl, rfl, ⟨by show va_P D classes _ t.heap; rw [ht]; exact hP, hD⟩⟩, hS.F ht⟩) hS.2.2 d_X_registerSize_22
  · have gc3 : rz2.toInt ≠ (0 : Int) := c_ne c3
    have R5 : 1 ≤ rz2.toInt ∧ rz2.toInt ≤ 1 := rf_neX F0z2 (show 0 ≤ (0 : Int) ∧ (0 : Int) ≤ 0 from by decide) gc3 (by decide) (by decide)
    refine lv_aload_n hx hb d_X_registerSize_12 rfl (lv_at hl 0 rfl) ?_
    refine va_get (D := D) (ci := 7) (v := .ref p4) (C := "SignMachineModel") (T := F_X) (N := 64) hx hb hk fi_X hown hK.1 hP 0 rfl rfl 3 (by decide) (hk _ k_1124) (fun _ h9 => h9) rfl d_X_registerSize_13 ?_
    refine lv_iload_n hx hb d_X_registerSize_16 rfl (lv_at hl 1 rfl) ?_
    refine va_iald hx hb hK.1 hP 4 0 rfl rfl (by rw [vp_in_iff]; omega) d_X_registerSize_17 ?_
    refine lv_topi (fun v6 hv6 => ?_)
    have Rv6 := Ay4 (a1).toNatClampNeg
    rw [← hv6] at Rv6
    obtain ⟨Rv6, Xv6⟩ := Rv6
    have : (((a1).toNatClampNeg : Nat) : Int) = a1.toInt := ti_n (show 0 ≤ a1.toInt ∧ a1.toInt ≤ 2147483647 from by omega) (by decide)
    refine lv_goto (tgt := 22) hx hb d_X_registerSize_18 (by decide) ?_
    exact W.iret (v := v6) hx hb hr (fun t ht hW => ⟨⟨v6, v6, rfl, rfl, ⟨by show va_P D classes _ t.heap; rw [ht]; exact hP, hD⟩⟩, hS.F ht⟩) hS.2.2 d_X_registerSize_22
theorem v_X_registerSize {R : Room} {s : State} {args : Array Value} {own : String} {index : Nat} (hk : ∀ w ∈ tb, w.before args s = true) (hl : Cond.methodLink own index y_X_registerSize ∈ tb) (hR : 1 + 1 ≤ R.frames ∧ 8 + (2 + 11) + 25 ≤ R.locals) : CallW R s args own "SignMachineModel" index y_X_registerSize b_X_registerSize 2 (some .int) (.code y_X_registerSize b_X_registerSize 2 (some .int) :: tb) ({ frames := 1, cells := 0, slots := 0, locals := 25 }) 0 0 1 := mk_v 1 hk k_1339 hl k_1337 k_1338 k_119 rfl rfl h_X_registerSize hR
set_option maxHeartbeats 8000000 in
set_option maxRecDepth 100000 in
theorem c_X_isShort (l : Launch)  (a1 : Int32)  : Met l y_X_isShort (.code y_X_isShort b_X_isShort 1 (some .boolean) :: tb) ({ frames := 0, cells := 0, slots := 0, locals := 0 }) (va_Pc [.int a1] (fun _ => True)) (vp_Si (fun ur => (0 ≤ ur.toInt ∧ ur.toInt ≤ 1) ∧ (ur.toInt = 0 → (a1.toInt = 0 ∨ a1.toInt = 7)) ∧ (ur.toInt = 1 → (a1.toInt ≠ 0 ∧ a1.toInt ≠ 7)))) 0 0 (fun _ => False) := by
  refine Met.ofW (cc := b_X_isShort) (maxL := 1) (ret := (some .boolean)) (by decide) rfl ?_
  intro p e s m args below meth c s₁ B hml hv
  obtain ⟨rfl, -⟩ := hv
  have hx := B.exec
  have hb := B.bytes
  have hr := B.returns
  have hts := atoms_spec (ws := .code y_X_isShort b_X_isShort 1 (some .boolean) :: tb) B.pre
  have hk : ∀ w ∈ tb, w.before [.int a1].toArray s = true := fun w h => hts w (List.mem_cons_of_mem _ h)
  have hown : s.vm.findClass "SignMachineModel" = some m.cls := findClass_of_methodNamed B.named
  have hlocks := B.notSynchronized
  have hl := lv_entry ([.int a1]) (n := 1) (Nat.le_of_ble_eq_true rfl)
  rw [lg_entry_eq]
  generalize (lg_sl ([.int a1]) ++ List.replicate (1 - (lg_sl ([.int a1])).length) Slot.unset).toArray = ls at hl ⊢
  have hl : lv_has ls 1 [(0, .int a1)] := hl
  clear hts B
  refine lv_iload_n hx hb d_X_isShort_0 rfl (lv_at hl 0 rfl) ?_
  refine lv_if_eq (tgt := 14) hx hb d_X_isShort_1 (by decide) (fun c1 => ?_) (fun c1 => ?_)
  · have gc1 : a1.toInt = (0 : Int) := c_eq c1
    have R2 : 0 ≤ a1.toInt ∧ a1.toInt ≤ 0 := rf_eqX (fr3 a1) (show 0 ≤ (0 : Int) ∧ (0 : Int) ≤ 0 from by decide) gc1 (by decide) (by decide)
    refine lv_iconst (v := 0) hx hb d_X_isShort_14 (by decide) ?_
    exact W.zret (v := (0 : Int32)) hx hb hr (nar01 (by decide)) (fun t ht hW => ⟨(0 : Int32), rfl, ⟨(by decide), (show (0 : Int) = 0 → (a1.toInt = 0 ∨ a1.toInt = 7) from by omega), (show (0 : Int) = 1 → (a1.toInt ≠ 0 ∧ a1.toInt ≠ 7) from by omega)⟩, ht⟩) (fun q h => absurd h List.not_mem_nil) d_X_isShort_15
  · have gc1 : a1.toInt ≠ (0 : Int) := c_ne c1
    refine lv_iload_n hx hb d_X_isShort_4 rfl (lv_at hl 0 rfl) ?_
    refine lv_bipush (v := 7) hx hb d_X_isShort_5 (by decide) ?_
    refine lv_icmp_eq (tgt := 14) hx hb d_X_isShort_7 (by decide) (fun c3 => ?_) (fun c3 => ?_)
    · have gc3 : a1.toInt = (7 : Int) := c_eq c3
      have R4 : 7 ≤ a1.toInt ∧ a1.toInt ≤ 7 := rf_eqX (fr3 a1) (show 7 ≤ (7 : Int) ∧ (7 : Int) ≤ 7 from by decide) gc3 (by decide) (by decide)
      refine lv_iconst (v := 0) hx hb d_X_isShort_14 (by decide) ?_
      exact W.zret (v := (0 : Int32)) hx hb hr (nar01 (by decide)) (fun t ht hW => ⟨(0 : Int32), rfl, ⟨(by decide), (show (0 : Int) = 0 → (a1.toInt = 0 ∨ a1.toInt = 7) from by omega), (show (0 : Int) = 1 → (a1.toInt ≠ 0 ∧ a1.toInt ≠ 7) from by omega)⟩, ht⟩) (fun q h => absurd h List.not_mem_nil) d_X_isShort_15
    · have gc3 : a1.toInt ≠ (7 : Int) := c_ne c3
      refine lv_iconst (v := 1) hx hb d_X_isShort_10 (by decide) ?_
      refine lv_goto (tgt := 15) hx hb d_X_isShort_11 (by decide) ?_
      exact W.zret (v := (1 : Int32)) hx hb hr (nar01 (by decide)) (fun t ht hW => ⟨(1 : Int32), rfl, ⟨(by decide), (show (1 : Int) = 0 → (a1.toInt = 0 ∨ a1.toInt = 7) from by omega), (show (1 : Int) = 1 → (a1.toInt ≠ 0 ∧ a1.toInt ≠ 7) from by omega)⟩, ht⟩) (fun q h => absurd h List.not_mem_nil) d_X_isShort_15
theorem s_X_isShort {R : Room} {s : State} {args : Array Value} {own : String} {index : Nat} (hk : ∀ w ∈ tb, w.before args s = true) (hl : Cond.methodLink own index y_X_isShort ∈ tb) (hR : 0 + 1 ≤ R.frames ∧ 8 + (1 + 11) + 0 ≤ R.locals) : CallB R s args own index y_X_isShort b_X_isShort 1 (some .boolean) (.code y_X_isShort b_X_isShort 1 (some .boolean) :: tb) ({ frames := 0, cells := 0, slots := 0, locals := 0 }) 0 0 1 ∧ (Cond.static y_X_isShort).before args s = true := mk_s 1 hk k_1346 hl k_1345 k_119 rfl rfl h_X_isShort hR
set_option maxHeartbeats 8000000 in
set_option maxRecDepth 100000 in
theorem c_X_set (l : Launch) (D : va_G) (cI cJ cZ cB : ClassId) (p0 p1 p2 p3 p4 p5 p6 p7 p8 p9 p10 p11 p12 p13 p14 p15 p16 p17 p18 p19 p20 p21 p22 p23 p24 p25 : Nat) (sz : Nat) (x0_4 : Int32) (x0_5 : Int32) (x0_6 : Int32) (x0_7 : Int32) (x0_8 : Int32) (x0_12 : Int32) (x0_13 : Int32) (x0_14 : Int32) (x0_15 : Int32) (x0_16 : Int32) (x0_17 : Int32) (x0_18 : Int32) (x0_22 : Int32) (x0_23 : Int32) (x0_24 : Int32) (x0_25 : Int32) (x0_26 : Int32) (x0_27 : Int32) (x0_28 : Int32) (x0_29 : Int32) (x0_30 : Int32) (x0_31 : Int32) (x0_32 : Int32) (x0_36 : Int32) (x0_39 : Int32) (x0_40 : Int64) (x0_44 : Int32) (x0_49 : Int32) (x0_51 : Int32) (x0_53 : Int32) (x0_54 : Int32) (x0_55 : Int64) (x0_56 : Int32) (x0_57 : Int32) (x0_58 : Int32) (x0_59 : Int32) (x0_60 : Int32) (x0_61 : Int32) (x0_62 : Int64) (y1 : Nat → Int32) (y2 : Nat → Int32) (y3 : Nat → Int32) (y4 : Nat → Int32) (y5 : Nat → Int32) (y6 : Nat → Int32) (y7 : Nat → Int32) (y8 : Nat → Int32) (y9 : Nat → Int32) (y10 : Nat → Int32) (y11 : Nat → Int64) (y12 : Nat → Int32) (y13 : Nat → Int64) (y14 : Nat → Int32) (y15 : Nat → Int64) (y16 : Nat → Int32) (y17 : Nat → Int32) (y18 : Nat → Int32) (y19 : Nat → Int32) (y20 : Nat → Int32) (y21 : Nat → Int32) (y22 : Nat → Int32) (y23 : Nat → Int32) (y24 : Nat → Int64) (y25 : Nat → Int64) (a1 : Int32) (a2 : Int32) (a3 : Int32) (Ay3 : ∀ i : Nat, (0 ≤ (y3 i).toInt ∧ (y3 i).toInt ≤ 1)) (Ay4 : ∀ i : Nat, ((0 ≤ (y4 i).toInt ∧ (y4 i).toInt ≤ 1073741823) ∧ ((1 ≤ (i : Int) ∧ (i : Int) ≤ 6) → (y4 i).toInt ≤ 4095))) : Met l y_X_set (.code y_X_set b_X_set 4 (some .boolean) :: tb) ({ frames := 1, cells := 0, slots := 0, locals := 25 }) (pM D cI cJ cZ cB (wS50 cI cJ cZ cB p0 p1 p2 p3 p4 p5 p6 p7 p8 p9 p10 p11 p12 p13 p14 p15 p16 p17 p18 p19 p20 p21 p22 p23 p24 p25 x0_4 x0_5 x0_6 x0_7 x0_8 x0_12 x0_13 x0_14 x0_15 x0_16 x0_17 x0_18 x0_22 x0_23 x0_24 x0_25 x0_26 x0_27 x0_28 x0_29 x0_30 x0_31 x0_32 x0_36 x0_39 x0_40 x0_44 x0_49 x0_51 x0_53 x0_54 x0_55 x0_56 x0_57 x0_58 x0_59 x0_60 x0_61 x0_62 y1 y2 y3 y4 y5 y6 y7 y8 y9 y10 y11 y12 y13 y14 y15 y16 y17 y18 y19 y20 y21 y22 y23 y24 y25) sz [.ref p0, .int a1, .int a2, .int a3]) (va_Qi (fun r (u : Int32) => r = u) (fun ur t => ∃ u_y3 : Nat → Int32, ∃ u_y4 : Nat → Int32, (∀ i : Nat, (0 ≤ (u_y3 i).toInt ∧ (u_y3 i).toInt ≤ 1)) ∧ (∀ i : Nat, ((0 ≤ (u_y4 i).toInt ∧ (u_y4 i).toInt ≤ 1073741823) ∧ ((1 ≤ (i : Int) ∧ (i : Int) ≤ 6) → (u_y4 i).toInt ≤ 4095))) ∧ (0 ≤ ur.toInt ∧ ur.toInt ≤ 1) ∧ (ur.toInt = 1 ↔ ((0 ≤ a1.toInt ∧ a1.toInt ≤ 8) ∧ (0 ≤ a2.toInt ∧ a2.toInt ≤ 1 ∧ (a1.toInt = 8 → a2.toInt ≤ 0)) ∧ (0 ≤ a3.toInt ∧ a3.toInt ≤ 1073741823 ∧ ((a1.toInt ≠ 0 ∧ a1.toInt ≠ 7) → a3.toInt ≤ 4095)))) ∧ va_P D classes (wS50 cI cJ cZ cB p0 p1 p2 p3 p4 p5 p6 p7 p8 p9 p10 p11 p12 p13 p14 p15 p16 p17 p18 p19 p20 p21 p22 p23 p24 p25 x0_4 x0_5 x0_6 x0_7 x0_8 x0_12 x0_13 x0_14 x0_15 x0_16 x0_17 x0_18 x0_22 x0_23 x0_24 x0_25 x0_26 x0_27 x0_28 x0_29 x0_30 x0_31 x0_32 x0_36 x0_39 x0_40 x0_44 x0_49 x0_51 x0_53 x0_54 x0_55 x0_56 x0_57 x0_58 x0_59 x0_60 x0_61 x0_62 y1 y2 u_y3 u_y4 y5 y6 y7 y8 y9 y10 y11 y12 y13 y14 y15 y16 y17 y18 y19 y20 y21 y22 y23 y24 y25) t.heap ∧ va_D (va_A (wS50 cI cJ cZ cB p0 p1 p2 p3 p4 p5 p6 p7 p8 p9 p10 p11 p12 p13 p14 p15 p16 p17 p18 p19 p20 p21 p22 p23 p24 p25 x0_4 x0_5 x0_6 x0_7 x0_8 x0_12 x0_13 x0_14 x0_15 x0_16 x0_17 x0_18 x0_22 x0_23 x0_24 x0_25 x0_26 x0_27 x0_28 x0_29 x0_30 x0_31 x0_32 x0_36 x0_39 x0_40 x0_44 x0_49 x0_51 x0_53 x0_54 x0_55 x0_56 x0_57 x0_58 x0_59 x0_60 x0_61 x0_62 y1 y2 y3 y4 y5 y6 y7 y8 y9 y10 y11 y12 y13 y14 y15 y16 y17 y18 y19 y20 y21 y22 y23 y24 y25) sz) (wS50 cI cJ cZ cB p0 p1 p2 p3 p4 p5 p6 p7 p8 p9 p10 p11 p12 p13 p14 p15 p16 p17 p18 p19 p20 p21 p22 p23 p24 p25 x0_4 x0_5 x0_6 x0_7 x0_8 x0_12 x0_13 x0_14 x0_15 x0_16 x0_17 x0_18 x0_22 x0_23 x0_24 x0_25 x0_26 x0_27 x0_28 x0_29 x0_30 x0_31 x0_32 x0_36 x0_39 x0_40 x0_44 x0_49 x0_51 x0_53 x0_54 x0_55 x0_56 x0_57 x0_58 x0_59 x0_60 x0_61 x0_62 y1 y2 u_y3 u_y4 y5 y6 y7 y8 y9 y10 y11 y12 y13 y14 y15 y16 y17 y18 y19 y20 y21 y22 y23 y24 y25)) (va_A (wS50 cI cJ cZ cB p0 p1 p2 p3 p4 p5 p6 p7 p8 p9 p10 p11 p12 p13 p14 p15 p16 p17 p18 p19 p20 p21 p22 p23 p24 p25 x0_4 x0_5 x0_6 x0_7 x0_8 x0_12 x0_13 x0_14 x0_15 x0_16 x0_17 x0_18 x0_22 x0_23 x0_24 x0_25 x0_26 x0_27 x0_28 x0_29 x0_30 x0_31 x0_32 x0_36 x0_39 x0_40 x0_44 x0_49 x0_51 x0_53 x0_54 x0_55 x0_56 x0_57 x0_58 x0_59 x0_60 x0_61 x0_62 y1 y2 y3 y4 y5 y6 y7 y8 y9 y10 y11 y12 y13 y14 y15 y16 y17 y18 y19 y20 y21 y22 y23 y24 y25) sz)) 0 0 (va_A (wS50 cI cJ cZ cB p0 p1 p2 p3 p4 p5 p6 p7 p8 p9 p10 p11 p12 p13 p14 p15 p16 p17 p18 p19 p20 p21 p22 p23 p24 p25 x0_4 x0_5 x0_6 x0_7 x0_8 x0_12 x0_13 x0_14 x0_15 x0_16 x0_17 x0_18 x0_22 x0_23 x0_24 x0_25 x0_26 x0_27 x0_28 x0_29 x0_30 x0_31 x0_32 x0_36 x0_39 x0_40 x0_44 x0_49 x0_51 x0_53 x0_54 x0_55 x0_56 x0_57 x0_58 x0_59 x0_60 x0_61 x0_62 y1 y2 y3 y4 y5 y6 y7 y8 y9 y10 y11 y12 y13 y14 y15 y16 y17 y18 y19 y20 y21 y22 y23 y24 y25) sz) := by
  refine Met.ofW (cc := b_X_set) (maxL := 4) (ret := (some .boolean)) (by decide) rfl ?_
  intro p e s m args below meth c s₁ B hml hv
  obtain ⟨rfl, hsz, hK, hP, hD0⟩ := hv
  subst hsz
  have hD := hD0.self (sz := s.heap.size)
  generalize hAe : va_A (wS50 cI cJ cZ cB p0 p1 p2 p3 p4 p5 p6 p7 p8 p9 p10 p11 p12 p13 p14 p15 p16 p17 p18 p19 p20 p21 p22 p23 p24 p25 x0_4 x0_5 x0_6 x0_7 x0_8 x0_12 x0_13 x0_14 x0_15 x0_16 x0_17 x0_18 x0_22 x0_23 x0_24 x0_25 x0_26 x0_27 x0_28 x0_29 x0_30 x0_31 x0_32 x0_36 x0_39 x0_40 x0_44 x0_49 x0_51 x0_53 x0_54 x0_55 x0_56 x0_57 x0_58 x0_59 x0_60 x0_61 x0_62 y1 y2 y3 y4 y5 y6 y7 y8 y9 y10 y11 y12 y13 y14 y15 y16 y17 y18 y19 y20 y21 y22 y23 y24 y25) s.heap.size = A at hD ⊢
  have hA : ∀ q : Nat, s.heap.size ≤ q → A q := fun q h => by rw [← hAe]; exact Or.inr h
  clear hAe hD0
  have hS : va_S A s.heap s.heap [] := va_S.rf
  have hx := B.exec
  have hb := B.bytes
  have hr := B.returns
  have hts := atoms_spec (ws := .code y_X_set b_X_set 4 (some .boolean) :: tb) B.pre
  have hk : ∀ w ∈ tb, w.before [.ref p0, .int a1, .int a2, .int a3].toArray s = true := fun w h => hts w (List.mem_cons_of_mem _ h)
  have hown : s.vm.findClass "SignMachineModel" = some m.cls := findClass_of_methodNamed B.named
  have hlocks := B.notSynchronized
  have hl := lv_entry ([.ref p0, .int a1, .int a2, .int a3]) (n := 4) (Nat.le_of_ble_eq_true rfl)
  rw [lg_entry_eq]
  generalize (lg_sl ([.ref p0, .int a1, .int a2, .int a3]) ++ List.replicate (4 - (lg_sl ([.ref p0, .int a1, .int a2, .int a3])).length) Slot.unset).toArray = ls at hl ⊢
  have hl : lv_has ls 4 [(0, .ref p0), (1, .int a1), (2, .int a2), (3, .int a3)] := hl
  clear hts B
  refine lv_iload_n hx hb d_X_set_0 rfl (lv_at hl 1 rfl) ?_
  refine lv_i2l (v := (a1 : Int32).toInt64) hx hb d_X_set_1 rfl ?_
  refine lv_topl (fun v1 hv1 => ?_)
  obtain ⟨ev1, Rv1⟩ : v1.toInt = a1.toInt ∧ ((-2147483648) ≤ v1.toInt ∧ v1.toInt ≤ 2147483647) := il3 hv1 (fr3 a1)
  refine lv_lconst (v := 0) hx hb d_X_set_2 (by decide) ?_
  refine lv_ldc2 (v := 8) hx hb hown (hk _ k_1335) d_X_set_3 ?_
  refine vp_callSi (W.runS (As := [.long v1, .long (0 : Int64), .long (8 : Int64)]) (rest := []) ⟨hx, hb, hml, hown, hk⟩ (c_X_isIn l v1 (0 : Int64) (8 : Int64) ) (s_X_isIn hk k_1319 ⟨Nat.le_of_ble_eq_true rfl, Nat.le_of_ble_eq_true rfl⟩) ⟨fun a U g mk q => q, fun U hU hW => ⟨rfl, trivial⟩⟩ rfl rfl hl.1 rfl (lv_room (Nat.le_of_ble_eq_true rfl)) d_X_set_6 ⟨Nat.le_of_ble_eq_true rfl, Nat.le_of_ble_eq_true rfl⟩) (fun rz2 hrz2 => ?_)
  obtain ⟨F0z2, F1z2, F2z2⟩ := hrz2
  have F0z2 : 0 ≤ rz2.toInt ∧ rz2.toInt ≤ 1 := F0z2
  have F1z2 : rz2.toInt = 1 → ((0 : Int) ≤ v1.toInt ∧ v1.toInt ≤ (8 : Int)) := F1z2
  have F2z2 : rz2.toInt = 0 → (v1.toInt < (0 : Int) ∨ (8 : Int) < v1.toInt) := F2z2
  refine lv_if_eq (tgt := 57) hx hb d_X_set_9 (by decide) (fun c3 => ?_) (fun c3 => ?_)
  · have gc3 : rz2.toInt = (0 : Int) := c_eq c3
    have R4 : 0 ≤ rz2.toInt ∧ rz2.toInt ≤ 0 := rf_eqX F0z2 (show 0 ≤ (0 : Int) ∧ (0 : Int) ≤ 0 from by decide) gc3 (by decide) (by decide)
    refine lv_iconst (v := 0) hx hb d_X_set_57 (by decide) ?_
    exact W.zret (v := (0 : Int32)) hx hb hr (nar01 (by decide)) (fun t ht hW => ⟨⟨(0 : Int32), (0 : Int32), rfl, rfl, ⟨y3, y4, Ay3, Ay4, (by decide), (show (0 : Int) = 1 ↔ ((0 ≤ a1.toInt ∧ a1.toInt ≤ 8) ∧ (0 ≤ a2.toInt ∧ a2.toInt ≤ 1 ∧ (a1.toInt = 8 → a2.toInt ≤ 0)) ∧ (0 ≤ a3.toInt ∧ a3.toInt ≤ 1073741823 ∧ ((a1.toInt ≠ 0 ∧ a1.toInt ≠ 7) → a3.toInt ≤ 4095))) from by omega), by show va_P D classes _ t.heap; rw [ht]; exact hP, hD⟩⟩, hS.F ht⟩) hS.2.2 d_X_set_58
  · have gc3 : rz2.toInt ≠ (0 : Int) := c_ne c3
    have R5 : 1 ≤ rz2.toInt ∧ rz2.toInt ≤ 1 := rf_neX F0z2 (show 0 ≤ (0 : Int) ∧ (0 : Int) ≤ 0 from by decide) gc3 (by decide) (by decide)
    refine lv_iload_n hx hb d_X_set_12 rfl (lv_at hl 2 rfl) ?_
    refine lv_i2l (v := (a2 : Int32).toInt64) hx hb d_X_set_13 rfl ?_
    refine lv_topl (fun v6 hv6 => ?_)
    obtain ⟨ev6, Rv6⟩ : v6.toInt = a2.toInt ∧ ((-2147483648) ≤ v6.toInt ∧ v6.toInt ≤ 2147483647) := il3 hv6 (fr3 a2)
    refine lv_lconst (v := 0) hx hb d_X_set_14 (by decide) ?_
    refine lv_iload_n hx hb d_X_set_15 rfl (lv_at hl 1 rfl) ?_
    refine lv_bipush (v := 8) hx hb d_X_set_16 (by decide) ?_
    refine lv_icmp_ne (tgt := 25) hx hb d_X_set_18 (by decide) (fun c7 => ?_) (fun c7 => ?_)
    · have gc7 : a1.toInt ≠ (8 : Int) := c_ne c7
      refine lv_lconst (v := 1) hx hb d_X_set_25 (by decide) ?_
      refine vp_callSi (W.runS (As := [.long v6, .long (0 : Int64), .long (1 : Int64)]) (rest := []) ⟨hx, hb, hml, hown, hk⟩ (c_X_isIn l v6 (0 : Int64) (1 : Int64) ) (s_X_isIn hk k_1319 ⟨Nat.le_of_ble_eq_true rfl, Nat.le_of_ble_eq_true rfl⟩) ⟨fun a U g mk q => q, fun U hU hW => ⟨rfl, trivial⟩⟩ rfl rfl hl.1 rfl (lv_room (Nat.le_of_ble_eq_true rfl)) d_X_set_26 ⟨Nat.le_of_ble_eq_true rfl, Nat.le_of_ble_eq_true rfl⟩) (fun rz8 hrz8 => ?_)
      obtain ⟨F0z8, F1z8, F2z8⟩ := hrz8
      have F0z8 : 0 ≤ rz8.toInt ∧ rz8.toInt ≤ 1 := F0z8
      have F1z8 : rz8.toInt = 1 → ((0 : Int) ≤ v6.toInt ∧ v6.toInt ≤ (1 : Int)) := F1z8
      have F2z8 : rz8.toInt = 0 → (v6.toInt < (0 : Int) ∨ (1 : Int) < v6.toInt) := F2z8
      refine lv_if_eq (tgt := 57) hx hb d_X_set_29 (by decide) (fun c9 => ?_) (fun c9 => ?_)
      · have gc9 : rz8.toInt = (0 : Int) := c_eq c9
        have R10 : 0 ≤ rz8.toInt ∧ rz8.toInt ≤ 0 := rf_eqX F0z8 (show 0 ≤ (0 : Int) ∧ (0 : Int) ≤ 0 from by decide) gc9 (by decide) (by decide)
        refine lv_iconst (v := 0) hx hb d_X_set_57 (by decide) ?_
        exact W.zret (v := (0 : Int32)) hx hb hr (nar01 (by decide)) (fun t ht hW => ⟨⟨(0 : Int32), (0 : Int32), rfl, rfl, ⟨y3, y4, Ay3, Ay4, (by decide), (show (0 : Int) = 1 ↔ ((0 ≤ a1.toInt ∧ a1.toInt ≤ 8) ∧ (0 ≤ a2.toInt ∧ a2.toInt ≤ 1 ∧ (a1.toInt = 8 → a2.toInt ≤ 0)) ∧ (0 ≤ a3.toInt ∧ a3.toInt ≤ 1073741823 ∧ ((a1.toInt ≠ 0 ∧ a1.toInt ≠ 7) → a3.toInt ≤ 4095))) from by omega), by show va_P D classes _ t.heap; rw [ht]; exact hP, hD⟩⟩, hS.F ht⟩) hS.2.2 d_X_set_58
      · have gc9 : rz8.toInt ≠ (0 : Int) := c_ne c9
        have R11 : 1 ≤ rz8.toInt ∧ rz8.toInt ≤ 1 := rf_neX F0z8 (show 0 ≤ (0 : Int) ∧ (0 : Int) ≤ 0 from by decide) gc9 (by decide) (by decide)
        refine lv_iload_n hx hb d_X_set_32 rfl (lv_at hl 3 rfl) ?_
        refine lv_i2l (v := (a3 : Int32).toInt64) hx hb d_X_set_33 rfl ?_
        refine lv_topl (fun v12 hv12 => ?_)
        obtain ⟨ev12, Rv12⟩ : v12.toInt = a3.toInt ∧ ((-2147483648) ≤ v12.toInt ∧ v12.toInt ≤ 2147483647) := il3 hv12 (fr3 a3)
        refine lv_lconst (v := 0) hx hb d_X_set_34 (by decide) ?_
        refine lv_iload_n hx hb d_X_set_35 rfl (lv_at hl 1 rfl) ?_
        refine vp_callSi (W.runS (As := [.int a1]) (rest := [.long (0 : Int64), .long v12]) ⟨hx, hb, hml, hown, hk⟩ (c_X_isShort l a1 ) (s_X_isShort hk k_1344 ⟨Nat.le_of_ble_eq_true rfl, Nat.le_of_ble_eq_true rfl⟩) ⟨fun a U g mk q => q, fun U hU hW => ⟨rfl, trivial⟩⟩ rfl rfl hl.1 rfl (lv_room (Nat.le_of_ble_eq_true rfl)) d_X_set_36 ⟨Nat.le_of_ble_eq_true rfl, Nat.le_of_ble_eq_true rfl⟩) (fun rz13 hrz13 => ?_)
        obtain ⟨F0z13, F1z13, F2z13⟩ := hrz13
        have F0z13 : 0 ≤ rz13.toInt ∧ rz13.toInt ≤ 1 := F0z13
        have F1z13 : rz13.toInt = 0 → (a1.toInt = 0 ∨ a1.toInt = 7) := F1z13
        have F2z13 : rz13.toInt = 1 → (a1.toInt ≠ 0 ∧ a1.toInt ≠ 7) := F2z13
        refine lv_if_eq (tgt := 48) hx hb d_X_set_39 (by decide) (fun c14 => ?_) (fun c14 => ?_)
        · have gc14 : rz13.toInt = (0 : Int) := c_eq c14
          have R15 : 0 ≤ rz13.toInt ∧ rz13.toInt ≤ 0 := rf_eqX F0z13 (show 0 ≤ (0 : Int) ∧ (0 : Int) ≤ 0 from by decide) gc14 (by decide) (by decide)
          refine lv_ldc2 (v := 1073741823) hx hb hown (hk _ k_1322) d_X_set_48 ?_
          refine vp_callSi (W.runS (As := [.long v12, .long (0 : Int64), .long (1073741823 : Int64)]) (rest := []) ⟨hx, hb, hml, hown, hk⟩ (c_X_isIn l v12 (0 : Int64) (1073741823 : Int64) ) (s_X_isIn hk k_1319 ⟨Nat.le_of_ble_eq_true rfl, Nat.le_of_ble_eq_true rfl⟩) ⟨fun a U g mk q => q, fun U hU hW => ⟨rfl, trivial⟩⟩ rfl rfl hl.1 rfl (lv_room (Nat.le_of_ble_eq_true rfl)) d_X_set_51 ⟨Nat.le_of_ble_eq_true rfl, Nat.le_of_ble_eq_true rfl⟩) (fun rz16 hrz16 => ?_)
          obtain ⟨F0z16, F1z16, F2z16⟩ := hrz16
          have F0z16 : 0 ≤ rz16.toInt ∧ rz16.toInt ≤ 1 := F0z16
          have F1z16 : rz16.toInt = 1 → ((0 : Int) ≤ v12.toInt ∧ v12.toInt ≤ (1073741823 : Int)) := F1z16
          have F2z16 : rz16.toInt = 0 → (v12.toInt < (0 : Int) ∨ (1073741823 : Int) < v12.toInt) := F2z16
          refine lv_if_ne (tgt := 59) hx hb d_X_set_54 (by decide) (fun c17 => ?_) (fun c17 => ?_)
          · have gc17 : rz16.toInt ≠ (0 : Int) := c_ne c17
            have R18 : 1 ≤ rz16.toInt ∧ rz16.toInt ≤ 1 := rf_neX F0z16 (show 0 ≤ (0 : Int) ∧ (0 : Int) ≤ 0 from by decide) gc17 (by decide) (by decide)
            refine lv_aload_n hx hb d_X_set_59 rfl (lv_at hl 0 rfl) ?_
            refine va_get (D := D) (ci := 7) (v := .ref p3) (C := "SignMachineModel") (T := F_X) (N := 64) hx hb hk fi_X hown hK.1 hP 0 rfl rfl 2 (by decide) (hk _ k_1123) (fun _ h9 => h9) rfl d_X_set_60 ?_
            refine lv_iload_n hx hb d_X_set_63 rfl (lv_at hl 1 rfl) ?_
            refine lv_iload_n hx hb d_X_set_64 rfl (lv_at hl 2 rfl) ?_
            refine va_iast hx hb hK.1 hP hD hS 3 0 rfl rfl (by rw [vp_in_iff]; omega) d_X_set_65 (fun H locs hP hD hS => ?_)
            have hP : va_P D classes (wS50 cI cJ cZ cB p0 p1 p2 p3 p4 p5 p6 p7 p8 p9 p10 p11 p12 p13 p14 p15 p16 p17 p18 p19 p20 p21 p22 p23 p24 p25 x0_4 x0_5 x0_6 x0_7 x0_8 x0_12 x0_13 x0_14 x0_15 x0_16 x0_17 x0_18 x0_22 x0_23 x0_24 x0_25 x0_26 x0_27 x0_28 x0_29 x0_30 x0_31 x0_32 x0_36 x0_39 x0_40 x0_44 x0_49 x0_51 x0_53 x0_54 x0_55 x0_56 x0_57 x0_58 x0_59 x0_60 x0_61 x0_62 y1 y2 (upd y3 (a1).toNatClampNeg a2) y4 y5 y6 y7 y8 y9 y10 y11 y12 y13 y14 y15 y16 y17 y18 y19 y20 y21 y22 y23 y24 y25) H := hP
            have hD : va_D A (wS50 cI cJ cZ cB p0 p1 p2 p3 p4 p5 p6 p7 p8 p9 p10 p11 p12 p13 p14 p15 p16 p17 p18 p19 p20 p21 p22 p23 p24 p25 x0_4 x0_5 x0_6 x0_7 x0_8 x0_12 x0_13 x0_14 x0_15 x0_16 x0_17 x0_18 x0_22 x0_23 x0_24 x0_25 x0_26 x0_27 x0_28 x0_29 x0_30 x0_31 x0_32 x0_36 x0_39 x0_40 x0_44 x0_49 x0_51 x0_53 x0_54 x0_55 x0_56 x0_57 x0_58 x0_59 x0_60 x0_61 x0_62 y1 y2 (upd y3 (a1).toNatClampNeg a2) y4 y5 y6 y7 y8 y9 y10 y11 y12 y13 y14 y15 y16 y17 y18 y19 y20 y21 y22 y23 y24 y25) := hD
            obtain ⟨v19, hv19⟩ : ∃ y : Nat → Int32, y = (upd y3 (a1).toNatClampNeg a2) := ⟨_, rfl⟩
            rw [← hv19] at hP hD
            have Gv19 : (0 ≤ (a2).toInt ∧ (a2).toInt ≤ 1) := (by omega)
            have Av19 : ∀ i : Nat, (0 ≤ (v19 i).toInt ∧ (v19 i).toInt ≤ 1) := by rw [hv19]; exact upd_all (P := fun i x => (0 ≤ (x).toInt ∧ (x).toInt ≤ 1)) Ay3 Gv19
            clear hv19
            refine lv_aload_n hx hb d_X_set_66 rfl (lv_at hl 0 rfl) ?_
            refine va_get (D := D) (ci := 7) (v := .ref p4) (C := "SignMachineModel") (T := F_X) (N := 64) hx hb hk fi_X hown hK.1 hP 0 rfl rfl 3 (by decide) (hk _ k_1124) (fun _ h9 => h9) rfl d_X_set_67 ?_
            refine lv_iload_n hx hb d_X_set_70 rfl (lv_at hl 1 rfl) ?_
            refine lv_iload_n hx hb d_X_set_71 rfl (lv_at hl 3 rfl) ?_
            refine va_iast hx hb hK.1 hP hD hS 4 0 rfl rfl (by rw [vp_in_iff]; omega) d_X_set_72 (fun H locs hP hD hS => ?_)
            have hP : va_P D classes (wS50 cI cJ cZ cB p0 p1 p2 p3 p4 p5 p6 p7 p8 p9 p10 p11 p12 p13 p14 p15 p16 p17 p18 p19 p20 p21 p22 p23 p24 p25 x0_4 x0_5 x0_6 x0_7 x0_8 x0_12 x0_13 x0_14 x0_15 x0_16 x0_17 x0_18 x0_22 x0_23 x0_24 x0_25 x0_26 x0_27 x0_28 x0_29 x0_30 x0_31 x0_32 x0_36 x0_39 x0_40 x0_44 x0_49 x0_51 x0_53 x0_54 x0_55 x0_56 x0_57 x0_58 x0_59 x0_60 x0_61 x0_62 y1 y2 v19 (upd y4 (a1).toNatClampNeg a3) y5 y6 y7 y8 y9 y10 y11 y12 y13 y14 y15 y16 y17 y18 y19 y20 y21 y22 y23 y24 y25) H := hP
            have hD : va_D A (wS50 cI cJ cZ cB p0 p1 p2 p3 p4 p5 p6 p7 p8 p9 p10 p11 p12 p13 p14 p15 p16 p17 p18 p19 p20 p21 p22 p23 p24 p25 x0_4 x0_5 x0_6 x0_7 x0_8 x0_12 x0_13 x0_14 x0_15 x0_16 x0_17 x0_18 x0_22 x0_23 x0_24 x0_25 x0_26 x0_27 x0_28 x0_29 x0_30 x0_31 x0_32 x0_36 x0_39 x0_40 x0_44 x0_49 x0_51 x0_53 x0_54 x0_55 x0_56 x0_57 x0_58 x0_59 x0_60 x0_61 x0_62 y1 y2 v19 (upd y4 (a1).toNatClampNeg a3) y5 y6 y7 y8 y9 y10 y11 y12 y13 y14 y15 y16 y17 y18 y19 y20 y21 y22 y23 y24 y25) := hD
            obtain ⟨v20, hv20⟩ : ∃ y : Nat → Int32, y = (upd y4 (a1).toNatClampNeg a3) := ⟨_, rfl⟩
            rw [← hv20] at hP hD
            have : (((a1).toNatClampNeg : Nat) : Int) = a1.toInt := ti_n (show 0 ≤ a1.toInt ∧ a1.toInt ≤ 2147483647 from by omega) (by decide)
            have Gv20 : ((0 ≤ (a3).toInt ∧ (a3).toInt ≤ 1073741823) ∧ ((1 ≤ (((a1).toNatClampNeg : Nat) : Int) ∧ (((a1).toNatClampNeg : Nat) : Int) ≤ 6) → (a3).toInt ≤ 4095)) := by refine ⟨by omega, ?_⟩; omega
            have Av20 : ∀ i : Nat, ((0 ≤ (v20 i).toInt ∧ (v20 i).toInt ≤ 1073741823) ∧ ((1 ≤ (i : Int) ∧ (i : Int) ≤ 6) → (v20 i).toInt ≤ 4095)) := by rw [hv20]; exact upd_all (P := fun i x => ((0 ≤ (x).toInt ∧ (x).toInt ≤ 1073741823) ∧ ((1 ≤ (i : Int) ∧ (i : Int) ≤ 6) → (x).toInt ≤ 4095))) Ay4 Gv20
            clear hv20
            refine lv_iconst (v := 1) hx hb d_X_set_73 (by decide) ?_
            exact W.zret (v := (1 : Int32)) hx hb hr (nar01 (by decide)) (fun t ht hW => ⟨⟨(1 : Int32), (1 : Int32), rfl, rfl, ⟨v19, v20, Av19, Av20, (by decide), (show (1 : Int) = 1 ↔ ((0 ≤ a1.toInt ∧ a1.toInt ≤ 8) ∧ (0 ≤ a2.toInt ∧ a2.toInt ≤ 1 ∧ (a1.toInt = 8 → a2.toInt ≤ 0)) ∧ (0 ≤ a3.toInt ∧ a3.toInt ≤ 1073741823 ∧ ((a1.toInt ≠ 0 ∧ a1.toInt ≠ 7) → a3.toInt ≤ 4095))) from by omega), by show va_P D classes _ t.heap; rw [ht]; exact hP, hD⟩⟩, hS.F ht⟩) hS.2.2 d_X_set_74
          · have gc17 : rz16.toInt = (0 : Int) := c_eq c17
            have R21 : 0 ≤ rz16.toInt ∧ rz16.toInt ≤ 0 := rf_eqX F0z16 (show 0 ≤ (0 : Int) ∧ (0 : Int) ≤ 0 from by decide) gc17 (by decide) (by decide)
            refine lv_iconst (v := 0) hx hb d_X_set_57 (by decide) ?_
            exact W.zret (v := (0 : Int32)) hx hb hr (nar01 (by decide)) (fun t ht hW => ⟨⟨(0 : Int32), (0 : Int32), rfl, rfl, ⟨y3, y4, Ay3, Ay4, (by decide), (show (0 : Int) = 1 ↔ ((0 ≤ a1.toInt ∧ a1.toInt ≤ 8) ∧ (0 ≤ a2.toInt ∧ a2.toInt ≤ 1 ∧ (a1.toInt = 8 → a2.toInt ≤ 0)) ∧ (0 ≤ a3.toInt ∧ a3.toInt ≤ 1073741823 ∧ ((a1.toInt ≠ 0 ∧ a1.toInt ≠ 7) → a3.toInt ≤ 4095))) from by omega), by show va_P D classes _ t.heap; rw [ht]; exact hP, hD⟩⟩, hS.F ht⟩) hS.2.2 d_X_set_58
        · have gc14 : rz13.toInt ≠ (0 : Int) := c_ne c14
          have R22 : 1 ≤ rz13.toInt ∧ rz13.toInt ≤ 1 := rf_neX F0z13 (show 0 ≤ (0 : Int) ∧ (0 : Int) ≤ 0 from by decide) gc14 (by decide) (by decide)
          refine lv_ldc2 (v := 4095) hx hb hown (hk _ k_1347) d_X_set_42 ?_
          refine lv_goto (tgt := 51) hx hb d_X_set_45 (by decide) ?_
          refine vp_callSi (W.runS (As := [.long v12, .long (0 : Int64), .long (4095 : Int64)]) (rest := []) ⟨hx, hb, hml, hown, hk⟩ (c_X_isIn l v12 (0 : Int64) (4095 : Int64) ) (s_X_isIn hk k_1319 ⟨Nat.le_of_ble_eq_true rfl, Nat.le_of_ble_eq_true rfl⟩) ⟨fun a U g mk q => q, fun U hU hW => ⟨rfl, trivial⟩⟩ rfl rfl hl.1 rfl (lv_room (Nat.le_of_ble_eq_true rfl)) d_X_set_51 ⟨Nat.le_of_ble_eq_true rfl, Nat.le_of_ble_eq_true rfl⟩) (fun rz23 hrz23 => ?_)
          obtain ⟨F0z23, F1z23, F2z23⟩ := hrz23
          have F0z23 : 0 ≤ rz23.toInt ∧ rz23.toInt ≤ 1 := F0z23
          have F1z23 : rz23.toInt = 1 → ((0 : Int) ≤ v12.toInt ∧ v12.toInt ≤ (4095 : Int)) := F1z23
          have F2z23 : rz23.toInt = 0 → (v12.toInt < (0 : Int) ∨ (4095 : Int) < v12.toInt) := F2z23
          refine lv_if_ne (tgt := 59) hx hb d_X_set_54 (by decide) (fun c24 => ?_) (fun c24 => ?_)
          · have gc24 : rz23.toInt ≠ (0 : Int) := c_ne c24
            have R25 : 1 ≤ rz23.toInt ∧ rz23.toInt ≤ 1 := rf_neX F0z23 (show 0 ≤ (0 : Int) ∧ (0 : Int) ≤ 0 from by decide) gc24 (by decide) (by decide)
            refine lv_aload_n hx hb d_X_set_59 rfl (lv_at hl 0 rfl) ?_
            refine va_get (D := D) (ci := 7) (v := .ref p3) (C := "SignMachineModel") (T := F_X) (N := 64) hx hb hk fi_X hown hK.1 hP 0 rfl rfl 2 (by decide) (hk _ k_1123) (fun _ h9 => h9) rfl d_X_set_60 ?_
            refine lv_iload_n hx hb d_X_set_63 rfl (lv_at hl 1 rfl) ?_
            refine lv_iload_n hx hb d_X_set_64 rfl (lv_at hl 2 rfl) ?_
            refine va_iast hx hb hK.1 hP hD hS 3 0 rfl rfl (by rw [vp_in_iff]; omega) d_X_set_65 (fun H locs hP hD hS => ?_)
            have hP : va_P D classes (wS50 cI cJ cZ cB p0 p1 p2 p3 p4 p5 p6 p7 p8 p9 p10 p11 p12 p13 p14 p15 p16 p17 p18 p19 p20 p21 p22 p23 p24 p25 x0_4 x0_5 x0_6 x0_7 x0_8 x0_12 x0_13 x0_14 x0_15 x0_16 x0_17 x0_18 x0_22 x0_23 x0_24 x0_25 x0_26 x0_27 x0_28 x0_29 x0_30 x0_31 x0_32 x0_36 x0_39 x0_40 x0_44 x0_49 x0_51 x0_53 x0_54 x0_55 x0_56 x0_57 x0_58 x0_59 x0_60 x0_61 x0_62 y1 y2 (upd y3 (a1).toNatClampNeg a2) y4 y5 y6 y7 y8 y9 y10 y11 y12 y13 y14 y15 y16 y17 y18 y19 y20 y21 y22 y23 y24 y25) H := hP
            have hD : va_D A (wS50 cI cJ cZ cB p0 p1 p2 p3 p4 p5 p6 p7 p8 p9 p10 p11 p12 p13 p14 p15 p16 p17 p18 p19 p20 p21 p22 p23 p24 p25 x0_4 x0_5 x0_6 x0_7 x0_8 x0_12 x0_13 x0_14 x0_15 x0_16 x0_17 x0_18 x0_22 x0_23 x0_24 x0_25 x0_26 x0_27 x0_28 x0_29 x0_30 x0_31 x0_32 x0_36 x0_39 x0_40 x0_44 x0_49 x0_51 x0_53 x0_54 x0_55 x0_56 x0_57 x0_58 x0_59 x0_60 x0_61 x0_62 y1 y2 (upd y3 (a1).toNatClampNeg a2) y4 y5 y6 y7 y8 y9 y10 y11 y12 y13 y14 y15 y16 y17 y18 y19 y20 y21 y22 y23 y24 y25) := hD
            obtain ⟨v26, hv26⟩ : ∃ y : Nat → Int32, y = (upd y3 (a1).toNatClampNeg a2) := ⟨_, rfl⟩
            rw [← hv26] at hP hD
            have Gv26 : (0 ≤ (a2).toInt ∧ (a2).toInt ≤ 1) := (by omega)
            have Av26 : ∀ i : Nat, (0 ≤ (v26 i).toInt ∧ (v26 i).toInt ≤ 1) := by rw [hv26]; exact upd_all (P := fun i x => (0 ≤ (x).toInt ∧ (x).toInt ≤ 1)) Ay3 Gv26
            clear hv26
            refine lv_aload_n hx hb d_X_set_66 rfl (lv_at hl 0 rfl) ?_
            refine va_get (D := D) (ci := 7) (v := .ref p4) (C := "SignMachineModel") (T := F_X) (N := 64) hx hb hk fi_X hown hK.1 hP 0 rfl rfl 3 (by decide) (hk _ k_1124) (fun _ h9 => h9) rfl d_X_set_67 ?_
            refine lv_iload_n hx hb d_X_set_70 rfl (lv_at hl 1 rfl) ?_
            refine lv_iload_n hx hb d_X_set_71 rfl (lv_at hl 3 rfl) ?_
            refine va_iast hx hb hK.1 hP hD hS 4 0 rfl rfl (by rw [vp_in_iff]; omega) d_X_set_72 (fun H locs hP hD hS => ?_)
            have hP : va_P D classes (wS50 cI cJ cZ cB p0 p1 p2 p3 p4 p5 p6 p7 p8 p9 p10 p11 p12 p13 p14 p15 p16 p17 p18 p19 p20 p21 p22 p23 p24 p25 x0_4 x0_5 x0_6 x0_7 x0_8 x0_12 x0_13 x0_14 x0_15 x0_16 x0_17 x0_18 x0_22 x0_23 x0_24 x0_25 x0_26 x0_27 x0_28 x0_29 x0_30 x0_31 x0_32 x0_36 x0_39 x0_40 x0_44 x0_49 x0_51 x0_53 x0_54 x0_55 x0_56 x0_57 x0_58 x0_59 x0_60 x0_61 x0_62 y1 y2 v26 (upd y4 (a1).toNatClampNeg a3) y5 y6 y7 y8 y9 y10 y11 y12 y13 y14 y15 y16 y17 y18 y19 y20 y21 y22 y23 y24 y25) H := hP
            have hD : va_D A (wS50 cI cJ cZ cB p0 p1 p2 p3 p4 p5 p6 p7 p8 p9 p10 p11 p12 p13 p14 p15 p16 p17 p18 p19 p20 p21 p22 p23 p24 p25 x0_4 x0_5 x0_6 x0_7 x0_8 x0_12 x0_13 x0_14 x0_15 x0_16 x0_17 x0_18 x0_22 x0_23 x0_24 x0_25 x0_26 x0_27 x0_28 x0_29 x0_30 x0_31 x0_32 x0_36 x0_39 x0_40 x0_44 x0_49 x0_51 x0_53 x0_54 x0_55 x0_56 x0_57 x0_58 x0_59 x0_60 x0_61 x0_62 y1 y2 v26 (upd y4 (a1).toNatClampNeg a3) y5 y6 y7 y8 y9 y10 y11 y12 y13 y14 y15 y16 y17 y18 y19 y20 y21 y22 y23 y24 y25) := hD
            obtain ⟨v27, hv27⟩ : ∃ y : Nat → Int32, y = (upd y4 (a1).toNatClampNeg a3) := ⟨_, rfl⟩
            rw [← hv27] at hP hD
            have : (((a1).toNatClampNeg : Nat) : Int) = a1.toInt := ti_n (show 0 ≤ a1.toInt ∧ a1.toInt ≤ 2147483647 from by omega) (by decide)
            have Gv27 : ((0 ≤ (a3).toInt ∧ (a3).toInt ≤ 1073741823) ∧ ((1 ≤ (((a1).toNatClampNeg : Nat) : Int) ∧ (((a1).toNatClampNeg : Nat) : Int) ≤ 6) → (a3).toInt ≤ 4095)) := by refine ⟨by omega, ?_⟩; omega
            have Av27 : ∀ i : Nat, ((0 ≤ (v27 i).toInt ∧ (v27 i).toInt ≤ 1073741823) ∧ ((1 ≤ (i : Int) ∧ (i : Int) ≤ 6) → (v27 i).toInt ≤ 4095)) := by rw [hv27]; exact upd_all (P := fun i x => ((0 ≤ (x).toInt ∧ (x).toInt ≤ 1073741823) ∧ ((1 ≤ (i : Int) ∧ (i : Int) ≤ 6) → (x).toInt ≤ 4095))) Ay4 Gv27
            clear hv27
            refine lv_iconst (v := 1) hx hb d_X_set_73 (by decide) ?_
            exact W.zret (v := (1 : Int32)) hx hb hr (nar01 (by decide)) (fun t ht hW => ⟨⟨(1 : Int32), (1 : Int32), rfl, rfl, ⟨v26, v27, Av26, Av27, (by decide), (show (1 : Int) = 1 ↔ ((0 ≤ a1.toInt ∧ a1.toInt ≤ 8) ∧ (0 ≤ a2.toInt ∧ a2.toInt ≤ 1 ∧ (a1.toInt = 8 → a2.toInt ≤ 0)) ∧ (0 ≤ a3.toInt ∧ a3.toInt ≤ 1073741823 ∧ ((a1.toInt ≠ 0 ∧ a1.toInt ≠ 7) → a3.toInt ≤ 4095))) from by omega), by show va_P D classes _ t.heap; rw [ht]; exact hP, hD⟩⟩, hS.F ht⟩) hS.2.2 d_X_set_74
          · have gc24 : rz23.toInt = (0 : Int) := c_eq c24
            have R28 : 0 ≤ rz23.toInt ∧ rz23.toInt ≤ 0 := rf_eqX F0z23 (show 0 ≤ (0 : Int) ∧ (0 : Int) ≤ 0 from by decide) gc24 (by decide) (by decide)
            refine lv_iconst (v := 0) hx hb d_X_set_57 (by decide) ?_
            exact W.zret (v := (0 : Int32)) hx hb hr (nar01 (by decide)) (fun t ht hW => ⟨⟨(0 : Int32), (0 : Int32), rfl, rfl, ⟨y3, y4, Ay3, Ay4, (by decide), (show (0 : Int) = 1 ↔ ((0 ≤ a1.toInt ∧ a1.toInt ≤ 8) ∧ (0 ≤ a2.toInt ∧ a2.toInt ≤ 1 ∧ (a1.toInt = 8 → a2.toInt ≤ 0)) ∧ (0 ≤ a3.toInt ∧ a3.toInt ≤ 1073741823 ∧ ((a1.toInt ≠ 0 ∧ a1.toInt ≠ 7) → a3.toInt ≤ 4095))) from by omega), by show va_P D classes _ t.heap; rw [ht]; exact hP, hD⟩⟩, hS.F ht⟩) hS.2.2 d_X_set_58
    · have gc7 : a1.toInt = (8 : Int) := c_eq c7
      have R29 : 8 ≤ a1.toInt ∧ a1.toInt ≤ 8 := rf_eqX (fr3 a1) (show 8 ≤ (8 : Int) ∧ (8 : Int) ≤ 8 from by decide) gc7 (by decide) (by decide)
      refine lv_lconst (v := 0) hx hb d_X_set_21 (by decide) ?_
      refine lv_goto (tgt := 26) hx hb d_X_set_22 (by decide) ?_
      refine vp_callSi (W.runS (As := [.long v6, .long (0 : Int64), .long (0 : Int64)]) (rest := []) ⟨hx, hb, hml, hown, hk⟩ (c_X_isIn l v6 (0 : Int64) (0 : Int64) ) (s_X_isIn hk k_1319 ⟨Nat.le_of_ble_eq_true rfl, Nat.le_of_ble_eq_true rfl⟩) ⟨fun a U g mk q => q, fun U hU hW => ⟨rfl, trivial⟩⟩ rfl rfl hl.1 rfl (lv_room (Nat.le_of_ble_eq_true rfl)) d_X_set_26 ⟨Nat.le_of_ble_eq_true rfl, Nat.le_of_ble_eq_true rfl⟩) (fun rz30 hrz30 => ?_)
      obtain ⟨F0z30, F1z30, F2z30⟩ := hrz30
      have F0z30 : 0 ≤ rz30.toInt ∧ rz30.toInt ≤ 1 := F0z30
      have F1z30 : rz30.toInt = 1 → ((0 : Int) ≤ v6.toInt ∧ v6.toInt ≤ (0 : Int)) := F1z30
      have F2z30 : rz30.toInt = 0 → (v6.toInt < (0 : Int) ∨ (0 : Int) < v6.toInt) := F2z30
      refine lv_if_eq (tgt := 57) hx hb d_X_set_29 (by decide) (fun c31 => ?_) (fun c31 => ?_)
      · have gc31 : rz30.toInt = (0 : Int) := c_eq c31
        have R32 : 0 ≤ rz30.toInt ∧ rz30.toInt ≤ 0 := rf_eqX F0z30 (show 0 ≤ (0 : Int) ∧ (0 : Int) ≤ 0 from by decide) gc31 (by decide) (by decide)
        refine lv_iconst (v := 0) hx hb d_X_set_57 (by decide) ?_
        exact W.zret (v := (0 : Int32)) hx hb hr (nar01 (by decide)) (fun t ht hW => ⟨⟨(0 : Int32), (0 : Int32), rfl, rfl, ⟨y3, y4, Ay3, Ay4, (by decide), (show (0 : Int) = 1 ↔ ((0 ≤ a1.toInt ∧ a1.toInt ≤ 8) ∧ (0 ≤ a2.toInt ∧ a2.toInt ≤ 1 ∧ (a1.toInt = 8 → a2.toInt ≤ 0)) ∧ (0 ≤ a3.toInt ∧ a3.toInt ≤ 1073741823 ∧ ((a1.toInt ≠ 0 ∧ a1.toInt ≠ 7) → a3.toInt ≤ 4095))) from by omega), by show va_P D classes _ t.heap; rw [ht]; exact hP, hD⟩⟩, hS.F ht⟩) hS.2.2 d_X_set_58
      · have gc31 : rz30.toInt ≠ (0 : Int) := c_ne c31
        have R33 : 1 ≤ rz30.toInt ∧ rz30.toInt ≤ 1 := rf_neX F0z30 (show 0 ≤ (0 : Int) ∧ (0 : Int) ≤ 0 from by decide) gc31 (by decide) (by decide)
        refine lv_iload_n hx hb d_X_set_32 rfl (lv_at hl 3 rfl) ?_
        refine lv_i2l (v := (a3 : Int32).toInt64) hx hb d_X_set_33 rfl ?_
        refine lv_topl (fun v34 hv34 => ?_)
        obtain ⟨ev34, Rv34⟩ : v34.toInt = a3.toInt ∧ ((-2147483648) ≤ v34.toInt ∧ v34.toInt ≤ 2147483647) := il3 hv34 (fr3 a3)
        refine lv_lconst (v := 0) hx hb d_X_set_34 (by decide) ?_
        refine lv_iload_n hx hb d_X_set_35 rfl (lv_at hl 1 rfl) ?_
        refine vp_callSi (W.runS (As := [.int a1]) (rest := [.long (0 : Int64), .long v34]) ⟨hx, hb, hml, hown, hk⟩ (c_X_isShort l a1 ) (s_X_isShort hk k_1344 ⟨Nat.le_of_ble_eq_true rfl, Nat.le_of_ble_eq_true rfl⟩) ⟨fun a U g mk q => q, fun U hU hW => ⟨rfl, trivial⟩⟩ rfl rfl hl.1 rfl (lv_room (Nat.le_of_ble_eq_true rfl)) d_X_set_36 ⟨Nat.le_of_ble_eq_true rfl, Nat.le_of_ble_eq_true rfl⟩) (fun rz35 hrz35 => ?_)
        obtain ⟨F0z35, F1z35, F2z35⟩ := hrz35
        have F0z35 : 0 ≤ rz35.toInt ∧ rz35.toInt ≤ 1 := F0z35
        have F1z35 : rz35.toInt = 0 → (a1.toInt = 0 ∨ a1.toInt = 7) := F1z35
        have F2z35 : rz35.toInt = 1 → (a1.toInt ≠ 0 ∧ a1.toInt ≠ 7) := F2z35
        refine lv_if_eq (tgt := 48) hx hb d_X_set_39 (by decide) (fun c36 => ?_) (fun c36 => ?_)
        · have gc36 : rz35.toInt = (0 : Int) := c_eq c36
          have R37 : 0 ≤ rz35.toInt ∧ rz35.toInt ≤ 0 := rf_eqX F0z35 (show 0 ≤ (0 : Int) ∧ (0 : Int) ≤ 0 from by decide) gc36 (by decide) (by decide)
          refine lv_ldc2 (v := 1073741823) hx hb hown (hk _ k_1322) d_X_set_48 ?_
          refine vp_callSi (W.runS (As := [.long v34, .long (0 : Int64), .long (1073741823 : Int64)]) (rest := []) ⟨hx, hb, hml, hown, hk⟩ (c_X_isIn l v34 (0 : Int64) (1073741823 : Int64) ) (s_X_isIn hk k_1319 ⟨Nat.le_of_ble_eq_true rfl, Nat.le_of_ble_eq_true rfl⟩) ⟨fun a U g mk q => q, fun U hU hW => ⟨rfl, trivial⟩⟩ rfl rfl hl.1 rfl (lv_room (Nat.le_of_ble_eq_true rfl)) d_X_set_51 ⟨Nat.le_of_ble_eq_true rfl, Nat.le_of_ble_eq_true rfl⟩) (fun rz38 hrz38 => ?_)
          obtain ⟨F0z38, F1z38, F2z38⟩ := hrz38
          have F0z38 : 0 ≤ rz38.toInt ∧ rz38.toInt ≤ 1 := F0z38
          have F1z38 : rz38.toInt = 1 → ((0 : Int) ≤ v34.toInt ∧ v34.toInt ≤ (1073741823 : Int)) := F1z38
          have F2z38 : rz38.toInt = 0 → (v34.toInt < (0 : Int) ∨ (1073741823 : Int) < v34.toInt) := F2z38
          refine lv_if_ne (tgt := 59) hx hb d_X_set_54 (by decide) (fun c39 => ?_) (fun c39 => ?_)
          · have gc39 : rz38.toInt ≠ (0 : Int) := c_ne c39
            have R40 : 1 ≤ rz38.toInt ∧ rz38.toInt ≤ 1 := rf_neX F0z38 (show 0 ≤ (0 : Int) ∧ (0 : Int) ≤ 0 from by decide) gc39 (by decide) (by decide)
            refine lv_aload_n hx hb d_X_set_59 rfl (lv_at hl 0 rfl) ?_
            refine va_get (D := D) (ci := 7) (v := .ref p3) (C := "SignMachineModel") (T := F_X) (N := 64) hx hb hk fi_X hown hK.1 hP 0 rfl rfl 2 (by decide) (hk _ k_1123) (fun _ h9 => h9) rfl d_X_set_60 ?_
            refine lv_iload_n hx hb d_X_set_63 rfl (lv_at hl 1 rfl) ?_
            refine lv_iload_n hx hb d_X_set_64 rfl (lv_at hl 2 rfl) ?_
            refine va_iast hx hb hK.1 hP hD hS 3 0 rfl rfl (vpb R29 (by decide) (by decide)) d_X_set_65 (fun H locs hP hD hS => ?_)
            have hP : va_P D classes (wS50 cI cJ cZ cB p0 p1 p2 p3 p4 p5 p6 p7 p8 p9 p10 p11 p12 p13 p14 p15 p16 p17 p18 p19 p20 p21 p22 p23 p24 p25 x0_4 x0_5 x0_6 x0_7 x0_8 x0_12 x0_13 x0_14 x0_15 x0_16 x0_17 x0_18 x0_22 x0_23 x0_24 x0_25 x0_26 x0_27 x0_28 x0_29 x0_30 x0_31 x0_32 x0_36 x0_39 x0_40 x0_44 x0_49 x0_51 x0_53 x0_54 x0_55 x0_56 x0_57 x0_58 x0_59 x0_60 x0_61 x0_62 y1 y2 (upd y3 (a1).toNatClampNeg a2) y4 y5 y6 y7 y8 y9 y10 y11 y12 y13 y14 y15 y16 y17 y18 y19 y20 y21 y22 y23 y24 y25) H := hP
            have hD : va_D A (wS50 cI cJ cZ cB p0 p1 p2 p3 p4 p5 p6 p7 p8 p9 p10 p11 p12 p13 p14 p15 p16 p17 p18 p19 p20 p21 p22 p23 p24 p25 x0_4 x0_5 x0_6 x0_7 x0_8 x0_12 x0_13 x0_14 x0_15 x0_16 x0_17 x0_18 x0_22 x0_23 x0_24 x0_25 x0_26 x0_27 x0_28 x0_29 x0_30 x0_31 x0_32 x0_36 x0_39 x0_40 x0_44 x0_49 x0_51 x0_53 x0_54 x0_55 x0_56 x0_57 x0_58 x0_59 x0_60 x0_61 x0_62 y1 y2 (upd y3 (a1).toNatClampNeg a2) y4 y5 y6 y7 y8 y9 y10 y11 y12 y13 y14 y15 y16 y17 y18 y19 y20 y21 y22 y23 y24 y25) := hD
            obtain ⟨v41, hv41⟩ : ∃ y : Nat → Int32, y = (upd y3 (a1).toNatClampNeg a2) := ⟨_, rfl⟩
            rw [← hv41] at hP hD
            have Gv41 : (0 ≤ (a2).toInt ∧ (a2).toInt ≤ 1) := (by omega)
            have Av41 : ∀ i : Nat, (0 ≤ (v41 i).toInt ∧ (v41 i).toInt ≤ 1) := by rw [hv41]; exact upd_all (P := fun i x => (0 ≤ (x).toInt ∧ (x).toInt ≤ 1)) Ay3 Gv41
            clear hv41
            refine lv_aload_n hx hb d_X_set_66 rfl (lv_at hl 0 rfl) ?_
            refine va_get (D := D) (ci := 7) (v := .ref p4) (C := "SignMachineModel") (T := F_X) (N := 64) hx hb hk fi_X hown hK.1 hP 0 rfl rfl 3 (by decide) (hk _ k_1124) (fun _ h9 => h9) rfl d_X_set_67 ?_
            refine lv_iload_n hx hb d_X_set_70 rfl (lv_at hl 1 rfl) ?_
            refine lv_iload_n hx hb d_X_set_71 rfl (lv_at hl 3 rfl) ?_
            refine va_iast hx hb hK.1 hP hD hS 4 0 rfl rfl (vpb R29 (by decide) (by decide)) d_X_set_72 (fun H locs hP hD hS => ?_)
            have hP : va_P D classes (wS50 cI cJ cZ cB p0 p1 p2 p3 p4 p5 p6 p7 p8 p9 p10 p11 p12 p13 p14 p15 p16 p17 p18 p19 p20 p21 p22 p23 p24 p25 x0_4 x0_5 x0_6 x0_7 x0_8 x0_12 x0_13 x0_14 x0_15 x0_16 x0_17 x0_18 x0_22 x0_23 x0_24 x0_25 x0_26 x0_27 x0_28 x0_29 x0_30 x0_31 x0_32 x0_36 x0_39 x0_40 x0_44 x0_49 x0_51 x0_53 x0_54 x0_55 x0_56 x0_57 x0_58 x0_59 x0_60 x0_61 x0_62 y1 y2 v41 (upd y4 (a1).toNatClampNeg a3) y5 y6 y7 y8 y9 y10 y11 y12 y13 y14 y15 y16 y17 y18 y19 y20 y21 y22 y23 y24 y25) H := hP
            have hD : va_D A (wS50 cI cJ cZ cB p0 p1 p2 p3 p4 p5 p6 p7 p8 p9 p10 p11 p12 p13 p14 p15 p16 p17 p18 p19 p20 p21 p22 p23 p24 p25 x0_4 x0_5 x0_6 x0_7 x0_8 x0_12 x0_13 x0_14 x0_15 x0_16 x0_17 x0_18 x0_22 x0_23 x0_24 x0_25 x0_26 x0_27 x0_28 x0_29 x0_30 x0_31 x0_32 x0_36 x0_39 x0_40 x0_44 x0_49 x0_51 x0_53 x0_54 x0_55 x0_56 x0_57 x0_58 x0_59 x0_60 x0_61 x0_62 y1 y2 v41 (upd y4 (a1).toNatClampNeg a3) y5 y6 y7 y8 y9 y10 y11 y12 y13 y14 y15 y16 y17 y18 y19 y20 y21 y22 y23 y24 y25) := hD
            obtain ⟨v42, hv42⟩ : ∃ y : Nat → Int32, y = (upd y4 (a1).toNatClampNeg a3) := ⟨_, rfl⟩
            rw [← hv42] at hP hD
            have : (((a1).toNatClampNeg : Nat) : Int) = a1.toInt := ti_n R29 (by decide)
            have Gv42 : ((0 ≤ (a3).toInt ∧ (a3).toInt ≤ 1073741823) ∧ ((1 ≤ (((a1).toNatClampNeg : Nat) : Int) ∧ (((a1).toNatClampNeg : Nat) : Int) ≤ 6) → (a3).toInt ≤ 4095)) := by refine ⟨by omega, ?_⟩; omega
            have Av42 : ∀ i : Nat, ((0 ≤ (v42 i).toInt ∧ (v42 i).toInt ≤ 1073741823) ∧ ((1 ≤ (i : Int) ∧ (i : Int) ≤ 6) → (v42 i).toInt ≤ 4095)) := by rw [hv42]; exact upd_all (P := fun i x => ((0 ≤ (x).toInt ∧ (x).toInt ≤ 1073741823) ∧ ((1 ≤ (i : Int) ∧ (i : Int) ≤ 6) → (x).toInt ≤ 4095))) Ay4 Gv42
            clear hv42
            refine lv_iconst (v := 1) hx hb d_X_set_73 (by decide) ?_
            exact W.zret (v := (1 : Int32)) hx hb hr (nar01 (by decide)) (fun t ht hW => ⟨⟨(1 : Int32), (1 : Int32), rfl, rfl, ⟨v41, v42, Av41, Av42, (by decide), (show (1 : Int) = 1 ↔ ((0 ≤ a1.toInt ∧ a1.toInt ≤ 8) ∧ (0 ≤ a2.toInt ∧ a2.toInt ≤ 1 ∧ (a1.toInt = 8 → a2.toInt ≤ 0)) ∧ (0 ≤ a3.toInt ∧ a3.toInt ≤ 1073741823 ∧ ((a1.toInt ≠ 0 ∧ a1.toInt ≠ 7) → a3.toInt ≤ 4095))) from by omega), by show va_P D classes _ t.heap; rw [ht]; exact hP, hD⟩⟩, hS.F ht⟩) hS.2.2 d_X_set_74
          · have gc39 : rz38.toInt = (0 : Int) := c_eq c39
            have R43 : 0 ≤ rz38.toInt ∧ rz38.toInt ≤ 0 := rf_eqX F0z38 (show 0 ≤ (0 : Int) ∧ (0 : Int) ≤ 0 from by decide) gc39 (by decide) (by decide)
            refine lv_iconst (v := 0) hx hb d_X_set_57 (by decide) ?_
            exact W.zret (v := (0 : Int32)) hx hb hr (nar01 (by decide)) (fun t ht hW => ⟨⟨(0 : Int32), (0 : Int32), rfl, rfl, ⟨y3, y4, Ay3, Ay4, (by decide), (show (0 : Int) = 1 ↔ ((0 ≤ a1.toInt ∧ a1.toInt ≤ 8) ∧ (0 ≤ a2.toInt ∧ a2.toInt ≤ 1 ∧ (a1.toInt = 8 → a2.toInt ≤ 0)) ∧ (0 ≤ a3.toInt ∧ a3.toInt ≤ 1073741823 ∧ ((a1.toInt ≠ 0 ∧ a1.toInt ≠ 7) → a3.toInt ≤ 4095))) from by omega), by show va_P D classes _ t.heap; rw [ht]; exact hP, hD⟩⟩, hS.F ht⟩) hS.2.2 d_X_set_58
        · have gc36 : rz35.toInt ≠ (0 : Int) := c_ne c36
          have R44 : 1 ≤ rz35.toInt ∧ rz35.toInt ≤ 1 := rf_neX F0z35 (show 0 ≤ (0 : Int) ∧ (0 : Int) ≤ 0 from by decide) gc36 (by decide) (by decide)
          refine lv_ldc2 (v := 4095) hx hb hown (hk _ k_1347) d_X_set_42 ?_
          refine lv_goto (tgt := 51) hx hb d_X_set_45 (by decide) ?_
          refine vp_callSi (W.runS (As := [.long v34, .long (0 : Int64), .long (4095 : Int64)]) (rest := []) ⟨hx, hb, hml, hown, hk⟩ (c_X_isIn l v34 (0 : Int64) (4095 : Int64) ) (s_X_isIn hk k_1319 ⟨Nat.le_of_ble_eq_true rfl, Nat.le_of_ble_eq_true rfl⟩) ⟨fun a U g mk q => q, fun U hU hW => ⟨rfl, trivial⟩⟩ rfl rfl hl.1 rfl (lv_room (Nat.le_of_ble_eq_true rfl)) d_X_set_51 ⟨Nat.le_of_ble_eq_true rfl, Nat.le_of_ble_eq_true rfl⟩) (fun rz45 hrz45 => ?_)
          obtain ⟨F0z45, F1z45, F2z45⟩ := hrz45
          have F0z45 : 0 ≤ rz45.toInt ∧ rz45.toInt ≤ 1 := F0z45
          have F1z45 : rz45.toInt = 1 → ((0 : Int) ≤ v34.toInt ∧ v34.toInt ≤ (4095 : Int)) := F1z45
          have F2z45 : rz45.toInt = 0 → (v34.toInt < (0 : Int) ∨ (4095 : Int) < v34.toInt) := F2z45
          refine lv_if_ne (tgt := 59) hx hb d_X_set_54 (by decide) (fun c46 => ?_) (fun c46 => ?_)
          · have gc46 : rz45.toInt ≠ (0 : Int) := c_ne c46
            have R47 : 1 ≤ rz45.toInt ∧ rz45.toInt ≤ 1 := rf_neX F0z45 (show 0 ≤ (0 : Int) ∧ (0 : Int) ≤ 0 from by decide) gc46 (by decide) (by decide)
            refine lv_aload_n hx hb d_X_set_59 rfl (lv_at hl 0 rfl) ?_
            refine va_get (D := D) (ci := 7) (v := .ref p3) (C := "SignMachineModel") (T := F_X) (N := 64) hx hb hk fi_X hown hK.1 hP 0 rfl rfl 2 (by decide) (hk _ k_1123) (fun _ h9 => h9) rfl d_X_set_60 ?_
            refine lv_iload_n hx hb d_X_set_63 rfl (lv_at hl 1 rfl) ?_
            refine lv_iload_n hx hb d_X_set_64 rfl (lv_at hl 2 rfl) ?_
            refine va_iast hx hb hK.1 hP hD hS 3 0 rfl rfl (vpb R29 (by decide) (by decide)) d_X_set_65 (fun H locs hP hD hS => ?_)
            have hP : va_P D classes (wS50 cI cJ cZ cB p0 p1 p2 p3 p4 p5 p6 p7 p8 p9 p10 p11 p12 p13 p14 p15 p16 p17 p18 p19 p20 p21 p22 p23 p24 p25 x0_4 x0_5 x0_6 x0_7 x0_8 x0_12 x0_13 x0_14 x0_15 x0_16 x0_17 x0_18 x0_22 x0_23 x0_24 x0_25 x0_26 x0_27 x0_28 x0_29 x0_30 x0_31 x0_32 x0_36 x0_39 x0_40 x0_44 x0_49 x0_51 x0_53 x0_54 x0_55 x0_56 x0_57 x0_58 x0_59 x0_60 x0_61 x0_62 y1 y2 (upd y3 (a1).toNatClampNeg a2) y4 y5 y6 y7 y8 y9 y10 y11 y12 y13 y14 y15 y16 y17 y18 y19 y20 y21 y22 y23 y24 y25) H := hP
            have hD : va_D A (wS50 cI cJ cZ cB p0 p1 p2 p3 p4 p5 p6 p7 p8 p9 p10 p11 p12 p13 p14 p15 p16 p17 p18 p19 p20 p21 p22 p23 p24 p25 x0_4 x0_5 x0_6 x0_7 x0_8 x0_12 x0_13 x0_14 x0_15 x0_16 x0_17 x0_18 x0_22 x0_23 x0_24 x0_25 x0_26 x0_27 x0_28 x0_29 x0_30 x0_31 x0_32 x0_36 x0_39 x0_40 x0_44 x0_49 x0_51 x0_53 x0_54 x0_55 x0_56 x0_57 x0_58 x0_59 x0_60 x0_61 x0_62 y1 y2 (upd y3 (a1).toNatClampNeg a2) y4 y5 y6 y7 y8 y9 y10 y11 y12 y13 y14 y15 y16 y17 y18 y19 y20 y21 y22 y23 y24 y25) := hD
            obtain ⟨v48, hv48⟩ : ∃ y : Nat → Int32, y = (upd y3 (a1).toNatClampNeg a2) := ⟨_, rfl⟩
            rw [← hv48] at hP hD
            have Gv48 : (0 ≤ (a2).toInt ∧ (a2).toInt ≤ 1) := (by omega)
            have Av48 : ∀ i : Nat, (0 ≤ (v48 i).toInt ∧ (v48 i).toInt ≤ 1) := by rw [hv48]; exact upd_all (P := fun i x => (0 ≤ (x).toInt ∧ (x).toInt ≤ 1)) Ay3 Gv48
            clear hv48
            refine lv_aload_n hx hb d_X_set_66 rfl (lv_at hl 0 rfl) ?_
            refine va_get (D := D) (ci := 7) (v := .ref p4) (C := "SignMachineModel") (T := F_X) (N := 64) hx hb hk fi_X hown hK.1 hP 0 rfl rfl 3 (by decide) (hk _ k_1124) (fun _ h9 => h9) rfl d_X_set_67 ?_
            refine lv_iload_n hx hb d_X_set_70 rfl (lv_at hl 1 rfl) ?_
            refine lv_iload_n hx hb d_X_set_71 rfl (lv_at hl 3 rfl) ?_
            refine va_iast hx hb hK.1 hP hD hS 4 0 rfl rfl (vpb R29 (by decide) (by decide)) d_X_set_72 (fun H locs hP hD hS => ?_)
            have hP : va_P D classes (wS50 cI cJ cZ cB p0 p1 p2 p3 p4 p5 p6 p7 p8 p9 p10 p11 p12 p13 p14 p15 p16 p17 p18 p19 p20 p21 p22 p23 p24 p25 x0_4 x0_5 x0_6 x0_7 x0_8 x0_12 x0_13 x0_14 x0_15 x0_16 x0_17 x0_18 x0_22 x0_23 x0_24 x0_25 x0_26 x0_27 x0_28 x0_29 x0_30 x0_31 x0_32 x0_36 x0_39 x0_40 x0_44 x0_49 x0_51 x0_53 x0_54 x0_55 x0_56 x0_57 x0_58 x0_59 x0_60 x0_61 x0_62 y1 y2 v48 (upd y4 (a1).toNatClampNeg a3) y5 y6 y7 y8 y9 y10 y11 y12 y13 y14 y15 y16 y17 y18 y19 y20 y21 y22 y23 y24 y25) H := hP
            have hD : va_D A (wS50 cI cJ cZ cB p0 p1 p2 p3 p4 p5 p6 p7 p8 p9 p10 p11 p12 p13 p14 p15 p16 p17 p18 p19 p20 p21 p22 p23 p24 p25 x0_4 x0_5 x0_6 x0_7 x0_8 x0_12 x0_13 x0_14 x0_15 x0_16 x0_17 x0_18 x0_22 x0_23 x0_24 x0_25 x0_26 x0_27 x0_28 x0_29 x0_30 x0_31 x0_32 x0_36 x0_39 x0_40 x0_44 x0_49 x0_51 x0_53 x0_54 x0_55 x0_56 x0_57 x0_58 x0_59 x0_60 x0_61 x0_62 y1 y2 v48 (upd y4 (a1).toNatClampNeg a3) y5 y6 y7 y8 y9 y10 y11 y12 y13 y14 y15 y16 y17 y18 y19 y20 y21 y22 y23 y24 y25) := hD
            obtain ⟨v49, hv49⟩ : ∃ y : Nat → Int32, y = (upd y4 (a1).toNatClampNeg a3) := ⟨_, rfl⟩
            rw [← hv49] at hP hD
            have : (((a1).toNatClampNeg : Nat) : Int) = a1.toInt := ti_n R29 (by decide)
            have Gv49 : ((0 ≤ (a3).toInt ∧ (a3).toInt ≤ 1073741823) ∧ ((1 ≤ (((a1).toNatClampNeg : Nat) : Int) ∧ (((a1).toNatClampNeg : Nat) : Int) ≤ 6) → (a3).toInt ≤ 4095)) := by refine ⟨by omega, ?_⟩; omega
            have Av49 : ∀ i : Nat, ((0 ≤ (v49 i).toInt ∧ (v49 i).toInt ≤ 1073741823) ∧ ((1 ≤ (i : Int) ∧ (i : Int) ≤ 6) → (v49 i).toInt ≤ 4095)) := by rw [hv49]; exact upd_all (P := fun i x => ((0 ≤ (x).toInt ∧ (x).toInt ≤ 1073741823) ∧ ((1 ≤ (i : Int) ∧ (i : Int) ≤ 6) → (x).toInt ≤ 4095))) Ay4 Gv49
            clear hv49
            refine lv_iconst (v := 1) hx hb d_X_set_73 (by decide) ?_
            exact W.zret (v := (1 : Int32)) hx hb hr (nar01 (by decide)) (fun t ht hW => ⟨⟨(1 : Int32), (1 : Int32), rfl, rfl, ⟨v48, v49, Av48, Av49, (by decide), (show (1 : Int) = 1 ↔ ((0 ≤ a1.toInt ∧ a1.toInt ≤ 8) ∧ (0 ≤ a2.toInt ∧ a2.toInt ≤ 1 ∧ (a1.toInt = 8 → a2.toInt ≤ 0)) ∧ (0 ≤ a3.toInt ∧ a3.toInt ≤ 1073741823 ∧ ((a1.toInt ≠ 0 ∧ a1.toInt ≠ 7) → a3.toInt ≤ 4095))) from by omega), by show va_P D classes _ t.heap; rw [ht]; exact hP, hD⟩⟩, hS.F ht⟩) hS.2.2 d_X_set_74
          · have gc46 : rz45.toInt = (0 : Int) := c_eq c46
            have R50 : 0 ≤ rz45.toInt ∧ rz45.toInt ≤ 0 := rf_eqX F0z45 (show 0 ≤ (0 : Int) ∧ (0 : Int) ≤ 0 from by decide) gc46 (by decide) (by decide)
            refine lv_iconst (v := 0) hx hb d_X_set_57 (by decide) ?_
            exact W.zret (v := (0 : Int32)) hx hb hr (nar01 (by decide)) (fun t ht hW => ⟨⟨(0 : Int32), (0 : Int32), rfl, rfl, ⟨y3, y4, Ay3, Ay4, (by decide), (show (0 : Int) = 1 ↔ ((0 ≤ a1.toInt ∧ a1.toInt ≤ 8) ∧ (0 ≤ a2.toInt ∧ a2.toInt ≤ 1 ∧ (a1.toInt = 8 → a2.toInt ≤ 0)) ∧ (0 ≤ a3.toInt ∧ a3.toInt ≤ 1073741823 ∧ ((a1.toInt ≠ 0 ∧ a1.toInt ≠ 7) → a3.toInt ≤ 4095))) from by omega), by show va_P D classes _ t.heap; rw [ht]; exact hP, hD⟩⟩, hS.F ht⟩) hS.2.2 d_X_set_58
theorem v_X_set {R : Room} {s : State} {args : Array Value} {own : String} {index : Nat} (hk : ∀ w ∈ tb, w.before args s = true) (hl : Cond.methodLink own index y_X_set ∈ tb) (hR : 1 + 1 ≤ R.frames ∧ 8 + (4 + 11) + 25 ≤ R.locals) : CallW R s args own "SignMachineModel" index y_X_set b_X_set 4 (some .boolean) (.code y_X_set b_X_set 4 (some .boolean) :: tb) ({ frames := 1, cells := 0, slots := 0, locals := 25 }) 0 0 3 := mk_v 3 hk k_1343 hl k_1341 k_1342 k_119 rfl rfl h_X_set hR
set_option maxHeartbeats 8000000 in
set_option maxRecDepth 100000 in
theorem c_X_state (l : Launch) (D : va_G) (cI cJ cZ cB : ClassId) (p0 p1 p2 p3 p4 p5 p6 p7 p8 p9 p10 p11 p12 p13 p14 p15 p16 p17 p18 p19 p20 p21 p22 p23 p24 p25 : Nat) (sz : Nat) (x0_4 : Int32) (x0_5 : Int32) (x0_6 : Int32) (x0_7 : Int32) (x0_8 : Int32) (x0_12 : Int32) (x0_13 : Int32) (x0_14 : Int32) (x0_15 : Int32) (x0_16 : Int32) (x0_17 : Int32) (x0_18 : Int32) (x0_22 : Int32) (x0_23 : Int32) (x0_24 : Int32) (x0_25 : Int32) (x0_26 : Int32) (x0_27 : Int32) (x0_28 : Int32) (x0_29 : Int32) (x0_30 : Int32) (x0_31 : Int32) (x0_32 : Int32) (x0_36 : Int32) (x0_39 : Int32) (x0_40 : Int64) (x0_44 : Int32) (x0_49 : Int32) (x0_51 : Int32) (x0_53 : Int32) (x0_54 : Int32) (x0_55 : Int64) (x0_56 : Int32) (x0_57 : Int32) (x0_58 : Int32) (x0_59 : Int32) (x0_60 : Int32) (x0_61 : Int32) (x0_62 : Int64) (y1 : Nat → Int32) (y2 : Nat → Int32) (y3 : Nat → Int32) (y4 : Nat → Int32) (y5 : Nat → Int32) (y6 : Nat → Int32) (y7 : Nat → Int32) (y8 : Nat → Int32) (y9 : Nat → Int32) (y10 : Nat → Int32) (y11 : Nat → Int64) (y12 : Nat → Int32) (y13 : Nat → Int64) (y14 : Nat → Int32) (y15 : Nat → Int64) (y16 : Nat → Int32) (y17 : Nat → Int32) (y18 : Nat → Int32) (y19 : Nat → Int32) (y20 : Nat → Int32) (y21 : Nat → Int32) (y22 : Nat → Int32) (y23 : Nat → Int32) (y24 : Nat → Int64) (y25 : Nat → Int64) (a1 : Int32) (Rx0_4 : 0 ≤ x0_4.toInt ∧ x0_4.toInt ≤ 4000) (Ay7 : ∀ i : Nat, (0 ≤ (y7 i).toInt ∧ (y7 i).toInt ≤ 40)) : Met l y_X_state (.code y_X_state b_X_state 2 (some .int) :: tb) ({ frames := 0, cells := 0, slots := 0, locals := 0 }) (pM D cI cJ cZ cB (wS50 cI cJ cZ cB p0 p1 p2 p3 p4 p5 p6 p7 p8 p9 p10 p11 p12 p13 p14 p15 p16 p17 p18 p19 p20 p21 p22 p23 p24 p25 x0_4 x0_5 x0_6 x0_7 x0_8 x0_12 x0_13 x0_14 x0_15 x0_16 x0_17 x0_18 x0_22 x0_23 x0_24 x0_25 x0_26 x0_27 x0_28 x0_29 x0_30 x0_31 x0_32 x0_36 x0_39 x0_40 x0_44 x0_49 x0_51 x0_53 x0_54 x0_55 x0_56 x0_57 x0_58 x0_59 x0_60 x0_61 x0_62 y1 y2 y3 y4 y5 y6 y7 y8 y9 y10 y11 y12 y13 y14 y15 y16 y17 y18 y19 y20 y21 y22 y23 y24 y25) sz [.ref p0, .int a1]) (va_Qi (fun r (u : Int32) => r = u) (fun ur t => va_P D classes (wS50 cI cJ cZ cB p0 p1 p2 p3 p4 p5 p6 p7 p8 p9 p10 p11 p12 p13 p14 p15 p16 p17 p18 p19 p20 p21 p22 p23 p24 p25 x0_4 x0_5 x0_6 x0_7 x0_8 x0_12 x0_13 x0_14 x0_15 x0_16 x0_17 x0_18 x0_22 x0_23 x0_24 x0_25 x0_26 x0_27 x0_28 x0_29 x0_30 x0_31 x0_32 x0_36 x0_39 x0_40 x0_44 x0_49 x0_51 x0_53 x0_54 x0_55 x0_56 x0_57 x0_58 x0_59 x0_60 x0_61 x0_62 y1 y2 y3 y4 y5 y6 y7 y8 y9 y10 y11 y12 y13 y14 y15 y16 y17 y18 y19 y20 y21 y22 y23 y24 y25) t.heap ∧ va_D (va_A (wS50 cI cJ cZ cB p0 p1 p2 p3 p4 p5 p6 p7 p8 p9 p10 p11 p12 p13 p14 p15 p16 p17 p18 p19 p20 p21 p22 p23 p24 p25 x0_4 x0_5 x0_6 x0_7 x0_8 x0_12 x0_13 x0_14 x0_15 x0_16 x0_17 x0_18 x0_22 x0_23 x0_24 x0_25 x0_26 x0_27 x0_28 x0_29 x0_30 x0_31 x0_32 x0_36 x0_39 x0_40 x0_44 x0_49 x0_51 x0_53 x0_54 x0_55 x0_56 x0_57 x0_58 x0_59 x0_60 x0_61 x0_62 y1 y2 y3 y4 y5 y6 y7 y8 y9 y10 y11 y12 y13 y14 y15 y16 y17 y18 y19 y20 y21 y22 y23 y24 y25) sz) (wS50 cI cJ cZ cB p0 p1 p2 p3 p4 p5 p6 p7 p8 p9 p10 p11 p12 p13 p14 p15 p16 p17 p18 p19 p20 p21 p22 p23 p24 p25 x0_4 x0_5 x0_6 x0_7 x0_8 x0_12 x0_13 x0_14 x0_15 x0_16 x0_17 x0_18 x0_22 x0_23 x0_24 x0_25 x0_26 x0_27 x0_28 x0_29 x0_30 x0_31 x0_32 x0_36 x0_39 x0_40 x0_44 x0_49 x0_51 x0_53 x0_54 x0_55 x0_56 x0_57 x0_58 x0_59 x0_60 x0_61 x0_62 y1 y2 y3 y4 y5 y6 y7 y8 y9 y10 y11 y12 y13 y14 y15 y16 y17 y18 y19 y20 y21 y22 y23 y24 y25)) (va_A (wS50 cI cJ cZ cB p0 p1 p2 p3 p4 p5 p6 p7 p8 p9 p10 p11 p12 p13 p14 p15 p16 p17 p18 p19 p20 p21 p22 p23 p24 p25 x0_4 x0_5 x0_6 x0_7 x0_8 x0_12 x0_13 x0_14 x0_15 x0_16 x0_17 x0_18 x0_22 x0_23 x0_24 x0_25 x0_26 x0_27 x0_28 x0_29 x0_30 x0_31 x0_32 x0_36 x0_39 x0_40 x0_44 x0_49 x0_51 x0_53 x0_54 x0_55 x0_56 x0_57 x0_58 x0_59 x0_60 x0_61 x0_62 y1 y2 y3 y4 y5 y6 y7 y8 y9 y10 y11 y12 y13 y14 y15 y16 y17 y18 y19 y20 y21 y22 y23 y24 y25) sz)) 0 0 (va_A (wS50 cI cJ cZ cB p0 p1 p2 p3 p4 p5 p6 p7 p8 p9 p10 p11 p12 p13 p14 p15 p16 p17 p18 p19 p20 p21 p22 p23 p24 p25 x0_4 x0_5 x0_6 x0_7 x0_8 x0_12 x0_13 x0_14 x0_15 x0_16 x0_17 x0_18 x0_22 x0_23 x0_24 x0_25 x0_26 x0_27 x0_28 x0_29 x0_30 x0_31 x0_32 x0_36 x0_39 x0_40 x0_44 x0_49 x0_51 x0_53 x0_54 x0_55 x0_56 x0_57 x0_58 x0_59 x0_60 x0_61 x0_62 y1 y2 y3 y4 y5 y6 y7 y8 y9 y10 y11 y12 y13 y14 y15 y16 y17 y18 y19 y20 y21 y22 y23 y24 y25) sz) := by
  refine Met.ofW (cc := b_X_state) (maxL := 2) (ret := (some .int)) (by decide) rfl ?_
  intro p e s m args below meth c s₁ B hml hv
  obtain ⟨rfl, hsz, hK, hP, hD0⟩ := hv
  subst hsz
  have hD := hD0.self (sz := s.heap.size)
  generalize hAe : va_A (wS50 cI cJ cZ cB p0 p1 p2 p3 p4 p5 p6 p7 p8 p9 p10 p11 p12 p13 p14 p15 p16 p17 p18 p19 p20 p21 p22 p23 p24 p25 x0_4 x0_5 x0_6 x0_7 x0_8 x0_12 x0_13 x0_14 x0_15 x0_16 x0_17 x0_18 x0_22 x0_23 x0_24 x0_25 x0_26 x0_27 x0_28 x0_29 x0_30 x0_31 x0_32 x0_36 x0_39 x0_40 x0_44 x0_49 x0_51 x0_53 x0_54 x0_55 x0_56 x0_57 x0_58 x0_59 x0_60 x0_61 x0_62 y1 y2 y3 y4 y5 y6 y7 y8 y9 y10 y11 y12 y13 y14 y15 y16 y17 y18 y19 y20 y21 y22 y23 y24 y25) s.heap.size = A at hD ⊢
  have hA : ∀ q : Nat, s.heap.size ≤ q → A q := fun q h => by rw [← hAe]; exact Or.inr h
  clear hAe hD0
  have hS : va_S A s.heap s.heap [] := va_S.rf
  have hx := B.exec
  have hb := B.bytes
  have hr := B.returns
  have hts := atoms_spec (ws := .code y_X_state b_X_state 2 (some .int) :: tb) B.pre
  have hk : ∀ w ∈ tb, w.before [.ref p0, .int a1].toArray s = true := fun w h => hts w (List.mem_cons_of_mem _ h)
  have hown : s.vm.findClass "SignMachineModel" = some m.cls := findClass_of_methodNamed B.named
  have hlocks := B.notSynchronized
  have hl := lv_entry ([.ref p0, .int a1]) (n := 2) (Nat.le_of_ble_eq_true rfl)
  rw [lg_entry_eq]
  generalize (lg_sl ([.ref p0, .int a1]) ++ List.replicate (2 - (lg_sl ([.ref p0, .int a1])).length) Slot.unset).toArray = ls at hl ⊢
  have hl : lv_has ls 2 [(0, .ref p0), (1, .int a1)] := hl
  clear hts B
  refine lv_iload_n hx hb d_X_state_0 rfl (lv_at hl 1 rfl) ?_
  by_cases c1 : a1 = (0 : Int32)
  · refine lv_tableIn (off := 43) (tgt := 44) hx hb d_X_state_1 (by rw [c1]; decide) (by rw [c1]; decide) (by rw [c1]; rfl) (by decide) ?_
    have gc1 : 0 ≤ a1.toInt ∧ a1.toInt ≤ 0 := by have q9 : a1.toInt = 0 := c_eq c1; omega
    refine lv_aload_n hx hb d_X_state_44 rfl (lv_at hl 0 rfl) ?_
    refine va_get (D := D) (ci := 7) (v := .int x0_4) (C := "SignMachineModel") (T := F_X) (N := 64) hx hb hk fi_X hown hK.1 hP 0 rfl rfl 4 (by decide) (hk _ k_1125) (fun _ h9 => h9) rfl d_X_state_45 ?_
    exact W.iret (v := x0_4) hx hb hr (fun t ht hW => ⟨⟨x0_4, x0_4, rfl, rfl, ⟨by show va_P D classes _ t.heap; rw [ht]; exact hP, hD⟩⟩, hS.F ht⟩) hS.2.2 d_X_state_48
  · by_cases c2 : a1 = (1 : Int32)
    · refine lv_tableIn (off := 48) (tgt := 49) hx hb d_X_state_1 (by rw [c2]; decide) (by rw [c2]; decide) (by rw [c2]; rfl) (by decide) ?_
      have gc2 : 1 ≤ a1.toInt ∧ a1.toInt ≤ 1 := by have q9 : a1.toInt = 1 := c_eq c2; omega
      refine lv_aload_n hx hb d_X_state_49 rfl (lv_at hl 0 rfl) ?_
      refine va_get (D := D) (ci := 7) (v := .int x0_5) (C := "SignMachineModel") (T := F_X) (N := 64) hx hb hk fi_X hown hK.1 hP 0 rfl rfl 5 (by decide) (hk _ k_1126) (fun _ h9 => h9) rfl d_X_state_50 ?_
      exact W.iret (v := x0_5) hx hb hr (fun t ht hW => ⟨⟨x0_5, x0_5, rfl, rfl, ⟨by show va_P D classes _ t.heap; rw [ht]; exact hP, hD⟩⟩, hS.F ht⟩) hS.2.2 d_X_state_53
    · by_cases c3 : a1 = (2 : Int32)
      · refine lv_tableIn (off := 53) (tgt := 54) hx hb d_X_state_1 (by rw [c3]; decide) (by rw [c3]; decide) (by rw [c3]; rfl) (by decide) ?_
        have gc3 : 2 ≤ a1.toInt ∧ a1.toInt ≤ 2 := by have q9 : a1.toInt = 2 := c_eq c3; omega
        refine lv_aload_n hx hb d_X_state_54 rfl (lv_at hl 0 rfl) ?_
        refine va_get (D := D) (ci := 7) (v := .int x0_6) (C := "SignMachineModel") (T := F_X) (N := 64) hx hb hk fi_X hown hK.1 hP 0 rfl rfl 6 (by decide) (hk _ k_1127) (fun _ h9 => h9) rfl d_X_state_55 ?_
        exact W.iret (v := x0_6) hx hb hr (fun t ht hW => ⟨⟨x0_6, x0_6, rfl, rfl, ⟨by show va_P D classes _ t.heap; rw [ht]; exact hP, hD⟩⟩, hS.F ht⟩) hS.2.2 d_X_state_58
      · by_cases c4 : a1 = (3 : Int32)
        · refine lv_tableIn (off := 58) (tgt := 59) hx hb d_X_state_1 (by rw [c4]; decide) (by rw [c4]; decide) (by rw [c4]; rfl) (by decide) ?_
          have gc4 : 3 ≤ a1.toInt ∧ a1.toInt ≤ 3 := by have q9 : a1.toInt = 3 := c_eq c4; omega
          refine lv_aload_n hx hb d_X_state_59 rfl (lv_at hl 0 rfl) ?_
          refine va_get (D := D) (ci := 7) (v := .int x0_7) (C := "SignMachineModel") (T := F_X) (N := 64) hx hb hk fi_X hown hK.1 hP 0 rfl rfl 7 (by decide) (hk _ k_1128) (fun _ h9 => h9) rfl d_X_state_60 ?_
          exact W.iret (v := x0_7) hx hb hr (fun t ht hW => ⟨⟨x0_7, x0_7, rfl, rfl, ⟨by show va_P D classes _ t.heap; rw [ht]; exact hP, hD⟩⟩, hS.F ht⟩) hS.2.2 d_X_state_63
        · by_cases c5 : a1 = (4 : Int32)
          · refine lv_tableIn (off := 63) (tgt := 64) hx hb d_X_state_1 (by rw [c5]; decide) (by rw [c5]; decide) (by rw [c5]; rfl) (by decide) ?_
            have gc5 : 4 ≤ a1.toInt ∧ a1.toInt ≤ 4 := by have q9 : a1.toInt = 4 := c_eq c5; omega
            refine lv_aload_n hx hb d_X_state_64 rfl (lv_at hl 0 rfl) ?_
            refine va_get (D := D) (ci := 7) (v := .ref p7) (C := "SignMachineModel") (T := F_X) (N := 64) hx hb hk fi_X hown hK.1 hP 0 rfl rfl 11 (by decide) (hk _ k_1132) (fun _ h9 => h9) rfl d_X_state_65 ?_
            refine lv_iconst (v := 0) hx hb d_X_state_68 (by decide) ?_
            refine va_iald hx hb hK.1 hP 7 0 rfl rfl (by unfold vp_in; decide) d_X_state_69 ?_
            refine lv_topi (fun v6 hv6 => ?_)
            have Rv6 := Ay7 ((0 : Int32)).toNatClampNeg
            rw [← hv6] at Rv6
            exact W.iret (v := v6) hx hb hr (fun t ht hW => ⟨⟨v6, v6, rfl, rfl, ⟨by show va_P D classes _ t.heap; rw [ht]; exact hP, hD⟩⟩, hS.F ht⟩) hS.2.2 d_X_state_70
          · by_cases c7 : a1 = (5 : Int32)
            · refine lv_tableIn (off := 70) (tgt := 71) hx hb d_X_state_1 (by rw [c7]; decide) (by rw [c7]; decide) (by rw [c7]; rfl) (by decide) ?_
              have gc7 : 5 ≤ a1.toInt ∧ a1.toInt ≤ 5 := by have q9 : a1.toInt = 5 := c_eq c7; omega
              refine lv_aload_n hx hb d_X_state_71 rfl (lv_at hl 0 rfl) ?_
              refine va_get (D := D) (ci := 7) (v := .ref p7) (C := "SignMachineModel") (T := F_X) (N := 64) hx hb hk fi_X hown hK.1 hP 0 rfl rfl 11 (by decide) (hk _ k_1132) (fun _ h9 => h9) rfl d_X_state_72 ?_
              refine lv_iconst (v := 1) hx hb d_X_state_75 (by decide) ?_
              refine va_iald hx hb hK.1 hP 7 0 rfl rfl (by unfold vp_in; decide) d_X_state_76 ?_
              refine lv_topi (fun v8 hv8 => ?_)
              have Rv8 := Ay7 ((1 : Int32)).toNatClampNeg
              rw [← hv8] at Rv8
              exact W.iret (v := v8) hx hb hr (fun t ht hW => ⟨⟨v8, v8, rfl, rfl, ⟨by show va_P D classes _ t.heap; rw [ht]; exact hP, hD⟩⟩, hS.F ht⟩) hS.2.2 d_X_state_77
            · by_cases c9 : a1 = (6 : Int32)
              · refine lv_tableIn (off := 77) (tgt := 78) hx hb d_X_state_1 (by rw [c9]; decide) (by rw [c9]; decide) (by rw [c9]; rfl) (by decide) ?_
                have gc9 : 6 ≤ a1.toInt ∧ a1.toInt ≤ 6 := by have q9 : a1.toInt = 6 := c_eq c9; omega
                refine lv_aload_n hx hb d_X_state_78 rfl (lv_at hl 0 rfl) ?_
                refine va_get (D := D) (ci := 7) (v := .int x0_8) (C := "SignMachineModel") (T := F_X) (N := 64) hx hb hk fi_X hown hK.1 hP 0 rfl rfl 8 (by decide) (hk _ k_1129) (fun _ h9 => h9) rfl d_X_state_79 ?_
                exact W.iret (v := x0_8) hx hb hr (fun t ht hW => ⟨⟨x0_8, x0_8, rfl, rfl, ⟨by show va_P D classes _ t.heap; rw [ht]; exact hP, hD⟩⟩, hS.F ht⟩) hS.2.2 d_X_state_82
              · refine lv_tableOut (tgt := 83) hx hb d_X_state_1 (by have q3 := fr3 a1; have e0 := lv_neT c1 (a := 0) rfl; have e1 := lv_neT c2 (a := 1) rfl; have e2 := lv_neT c3 (a := 2) rfl; have e3 := lv_neT c4 (a := 3) rfl; have e4 := lv_neT c5 (a := 4) rfl; have e5 := lv_neT c7 (a := 5) rfl; have e6 := lv_neT c9 (a := 6) rfl; omega) (by decide) ?_
                have gc1 : a1.toInt ≠ 0 := c_ne c1
                have gc2 : a1.toInt ≠ 1 := c_ne c2
                have gc3 : a1.toInt ≠ 2 := c_ne c3
                have gc4 : a1.toInt ≠ 3 := c_ne c4
                have gc5 : a1.toInt ≠ 4 := c_ne c5
                have gc7 : a1.toInt ≠ 5 := c_ne c7
                have gc9 : a1.toInt ≠ 6 := c_ne c9
                refine lv_bipush (v := (-2)) hx hb d_X_state_83 (by decide) ?_
                exact W.iret (v := (-2 : Int32)) hx hb hr (fun t ht hW => ⟨⟨(-2 : Int32), (-2 : Int32), rfl, rfl, ⟨by show va_P D classes _ t.heap; rw [ht]; exact hP, hD⟩⟩, hS.F ht⟩) hS.2.2 d_X_state_85
theorem v_X_state {R : Room} {s : State} {args : Array Value} {own : String} {index : Nat} (hk : ∀ w ∈ tb, w.before args s = true) (hl : Cond.methodLink own index y_X_state ∈ tb) (hR : 0 + 1 ≤ R.frames ∧ 8 + (2 + 11) + 0 ≤ R.locals) : CallW R s args own "SignMachineModel" index y_X_state b_X_state 2 (some .int) (.code y_X_state b_X_state 2 (some .int) :: tb) ({ frames := 0, cells := 0, slots := 0, locals := 0 }) 0 0 1 := mk_v 1 hk k_1351 hl k_1349 k_1350 k_119 rfl rfl h_X_state hR
set_option maxHeartbeats 8000000 in
set_option maxRecDepth 100000 in
theorem c_X_go (l : Launch) (D : va_G) (cI cJ cZ cB : ClassId) (p0 p1 p2 p3 p4 p5 p6 p7 p8 p9 p10 p11 p12 p13 p14 p15 p16 p17 p18 p19 p20 p21 p22 p23 p24 p25 : Nat) (sz : Nat) (x0_4 : Int32) (x0_5 : Int32) (x0_6 : Int32) (x0_7 : Int32) (x0_8 : Int32) (x0_12 : Int32) (x0_13 : Int32) (x0_14 : Int32) (x0_15 : Int32) (x0_16 : Int32) (x0_17 : Int32) (x0_18 : Int32) (x0_22 : Int32) (x0_23 : Int32) (x0_24 : Int32) (x0_25 : Int32) (x0_26 : Int32) (x0_27 : Int32) (x0_28 : Int32) (x0_29 : Int32) (x0_30 : Int32) (x0_31 : Int32) (x0_32 : Int32) (x0_36 : Int32) (x0_39 : Int32) (x0_40 : Int64) (x0_44 : Int32) (x0_49 : Int32) (x0_51 : Int32) (x0_53 : Int32) (x0_54 : Int32) (x0_55 : Int64) (x0_56 : Int32) (x0_57 : Int32) (x0_58 : Int32) (x0_59 : Int32) (x0_60 : Int32) (x0_61 : Int32) (x0_62 : Int64) (y1 : Nat → Int32) (y2 : Nat → Int32) (y3 : Nat → Int32) (y4 : Nat → Int32) (y5 : Nat → Int32) (y6 : Nat → Int32) (y7 : Nat → Int32) (y8 : Nat → Int32) (y9 : Nat → Int32) (y10 : Nat → Int32) (y11 : Nat → Int64) (y12 : Nat → Int32) (y13 : Nat → Int64) (y14 : Nat → Int32) (y15 : Nat → Int64) (y16 : Nat → Int32) (y17 : Nat → Int32) (y18 : Nat → Int32) (y19 : Nat → Int32) (y20 : Nat → Int32) (y21 : Nat → Int32) (y22 : Nat → Int32) (y23 : Nat → Int32) (y24 : Nat → Int64) (y25 : Nat → Int64) (a1 : Int32) (Rx0_4 : 0 ≤ x0_4.toInt ∧ x0_4.toInt ≤ 4000) : Met l y_X_go (.code y_X_go b_X_go 3 (some .boolean) :: tb) ({ frames := 1, cells := 0, slots := 0, locals := 25 }) (pM D cI cJ cZ cB (wS50 cI cJ cZ cB p0 p1 p2 p3 p4 p5 p6 p7 p8 p9 p10 p11 p12 p13 p14 p15 p16 p17 p18 p19 p20 p21 p22 p23 p24 p25 x0_4 x0_5 x0_6 x0_7 x0_8 x0_12 x0_13 x0_14 x0_15 x0_16 x0_17 x0_18 x0_22 x0_23 x0_24 x0_25 x0_26 x0_27 x0_28 x0_29 x0_30 x0_31 x0_32 x0_36 x0_39 x0_40 x0_44 x0_49 x0_51 x0_53 x0_54 x0_55 x0_56 x0_57 x0_58 x0_59 x0_60 x0_61 x0_62 y1 y2 y3 y4 y5 y6 y7 y8 y9 y10 y11 y12 y13 y14 y15 y16 y17 y18 y19 y20 y21 y22 y23 y24 y25) sz [.ref p0, .int a1]) (va_Qi (fun r (u : Int32) => r = u) (fun ur t => ∃ u_x0_4 : Int32, (0 ≤ u_x0_4.toInt ∧ u_x0_4.toInt ≤ 4000) ∧ (0 ≤ ur.toInt ∧ ur.toInt ≤ 1) ∧ (ur.toInt = 1 ↔ (0 ≤ a1.toInt ∧ a1.toInt ≤ 3999)) ∧ va_P D classes (wS50 cI cJ cZ cB p0 p1 p2 p3 p4 p5 p6 p7 p8 p9 p10 p11 p12 p13 p14 p15 p16 p17 p18 p19 p20 p21 p22 p23 p24 p25 u_x0_4 x0_5 x0_6 x0_7 x0_8 x0_12 x0_13 x0_14 x0_15 x0_16 x0_17 x0_18 x0_22 x0_23 x0_24 x0_25 x0_26 x0_27 x0_28 x0_29 x0_30 x0_31 x0_32 x0_36 x0_39 x0_40 x0_44 x0_49 x0_51 x0_53 x0_54 x0_55 x0_56 x0_57 x0_58 x0_59 x0_60 x0_61 x0_62 y1 y2 y3 y4 y5 y6 y7 y8 y9 y10 y11 y12 y13 y14 y15 y16 y17 y18 y19 y20 y21 y22 y23 y24 y25) t.heap ∧ va_D (va_A (wS50 cI cJ cZ cB p0 p1 p2 p3 p4 p5 p6 p7 p8 p9 p10 p11 p12 p13 p14 p15 p16 p17 p18 p19 p20 p21 p22 p23 p24 p25 x0_4 x0_5 x0_6 x0_7 x0_8 x0_12 x0_13 x0_14 x0_15 x0_16 x0_17 x0_18 x0_22 x0_23 x0_24 x0_25 x0_26 x0_27 x0_28 x0_29 x0_30 x0_31 x0_32 x0_36 x0_39 x0_40 x0_44 x0_49 x0_51 x0_53 x0_54 x0_55 x0_56 x0_57 x0_58 x0_59 x0_60 x0_61 x0_62 y1 y2 y3 y4 y5 y6 y7 y8 y9 y10 y11 y12 y13 y14 y15 y16 y17 y18 y19 y20 y21 y22 y23 y24 y25) sz) (wS50 cI cJ cZ cB p0 p1 p2 p3 p4 p5 p6 p7 p8 p9 p10 p11 p12 p13 p14 p15 p16 p17 p18 p19 p20 p21 p22 p23 p24 p25 u_x0_4 x0_5 x0_6 x0_7 x0_8 x0_12 x0_13 x0_14 x0_15 x0_16 x0_17 x0_18 x0_22 x0_23 x0_24 x0_25 x0_26 x0_27 x0_28 x0_29 x0_30 x0_31 x0_32 x0_36 x0_39 x0_40 x0_44 x0_49 x0_51 x0_53 x0_54 x0_55 x0_56 x0_57 x0_58 x0_59 x0_60 x0_61 x0_62 y1 y2 y3 y4 y5 y6 y7 y8 y9 y10 y11 y12 y13 y14 y15 y16 y17 y18 y19 y20 y21 y22 y23 y24 y25)) (va_A (wS50 cI cJ cZ cB p0 p1 p2 p3 p4 p5 p6 p7 p8 p9 p10 p11 p12 p13 p14 p15 p16 p17 p18 p19 p20 p21 p22 p23 p24 p25 x0_4 x0_5 x0_6 x0_7 x0_8 x0_12 x0_13 x0_14 x0_15 x0_16 x0_17 x0_18 x0_22 x0_23 x0_24 x0_25 x0_26 x0_27 x0_28 x0_29 x0_30 x0_31 x0_32 x0_36 x0_39 x0_40 x0_44 x0_49 x0_51 x0_53 x0_54 x0_55 x0_56 x0_57 x0_58 x0_59 x0_60 x0_61 x0_62 y1 y2 y3 y4 y5 y6 y7 y8 y9 y10 y11 y12 y13 y14 y15 y16 y17 y18 y19 y20 y21 y22 y23 y24 y25) sz)) 0 0 (va_A (wS50 cI cJ cZ cB p0 p1 p2 p3 p4 p5 p6 p7 p8 p9 p10 p11 p12 p13 p14 p15 p16 p17 p18 p19 p20 p21 p22 p23 p24 p25 x0_4 x0_5 x0_6 x0_7 x0_8 x0_12 x0_13 x0_14 x0_15 x0_16 x0_17 x0_18 x0_22 x0_23 x0_24 x0_25 x0_26 x0_27 x0_28 x0_29 x0_30 x0_31 x0_32 x0_36 x0_39 x0_40 x0_44 x0_49 x0_51 x0_53 x0_54 x0_55 x0_56 x0_57 x0_58 x0_59 x0_60 x0_61 x0_62 y1 y2 y3 y4 y5 y6 y7 y8 y9 y10 y11 y12 y13 y14 y15 y16 y17 y18 y19 y20 y21 y22 y23 y24 y25) sz) := by
  refine Met.ofW (cc := b_X_go) (maxL := 3) (ret := (some .boolean)) (by decide) rfl ?_
  intro p e s m args below meth c s₁ B hml hv
  obtain ⟨rfl, hsz, hK, hP, hD0⟩ := hv
  subst hsz
  have hD := hD0.self (sz := s.heap.size)
  generalize hAe : va_A (wS50 cI cJ cZ cB p0 p1 p2 p3 p4 p5 p6 p7 p8 p9 p10 p11 p12 p13 p14 p15 p16 p17 p18 p19 p20 p21 p22 p23 p24 p25 x0_4 x0_5 x0_6 x0_7 x0_8 x0_12 x0_13 x0_14 x0_15 x0_16 x0_17 x0_18 x0_22 x0_23 x0_24 x0_25 x0_26 x0_27 x0_28 x0_29 x0_30 x0_31 x0_32 x0_36 x0_39 x0_40 x0_44 x0_49 x0_51 x0_53 x0_54 x0_55 x0_56 x0_57 x0_58 x0_59 x0_60 x0_61 x0_62 y1 y2 y3 y4 y5 y6 y7 y8 y9 y10 y11 y12 y13 y14 y15 y16 y17 y18 y19 y20 y21 y22 y23 y24 y25) s.heap.size = A at hD ⊢
  have hA : ∀ q : Nat, s.heap.size ≤ q → A q := fun q h => by rw [← hAe]; exact Or.inr h
  clear hAe hD0
  have hS : va_S A s.heap s.heap [] := va_S.rf
  have hx := B.exec
  have hb := B.bytes
  have hr := B.returns
  have hts := atoms_spec (ws := .code y_X_go b_X_go 3 (some .boolean) :: tb) B.pre
  have hk : ∀ w ∈ tb, w.before [.ref p0, .int a1].toArray s = true := fun w h => hts w (List.mem_cons_of_mem _ h)
  have hown : s.vm.findClass "SignMachineModel" = some m.cls := findClass_of_methodNamed B.named
  have hlocks := B.notSynchronized
  have hl := lv_entry ([.ref p0, .int a1]) (n := 3) (Nat.le_of_ble_eq_true rfl)
  rw [lg_entry_eq]
  generalize (lg_sl ([.ref p0, .int a1]) ++ List.replicate (3 - (lg_sl ([.ref p0, .int a1])).length) Slot.unset).toArray = ls at hl ⊢
  have hl : lv_has ls 3 [(0, .ref p0), (1, .int a1)] := hl
  clear hts B
  refine lv_iload_n hx hb d_X_go_0 rfl (lv_at hl 1 rfl) ?_
  refine lv_i2l (v := (a1 : Int32).toInt64) hx hb d_X_go_1 rfl ?_
  refine lv_topl (fun v1 hv1 => ?_)
  obtain ⟨ev1, Rv1⟩ : v1.toInt = a1.toInt ∧ ((-2147483648) ≤ v1.toInt ∧ v1.toInt ≤ 2147483647) := il3 hv1 (fr3 a1)
  refine lv_lconst (v := 0) hx hb d_X_go_2 (by decide) ?_
  refine lv_ldc2 (v := 3999) hx hb hown (hk _ k_1318) d_X_go_3 ?_
  refine vp_callSi (W.runS (As := [.long v1, .long (0 : Int64), .long (3999 : Int64)]) (rest := []) ⟨hx, hb, hml, hown, hk⟩ (c_X_isIn l v1 (0 : Int64) (3999 : Int64) ) (s_X_isIn hk k_1319 ⟨Nat.le_of_ble_eq_true rfl, Nat.le_of_ble_eq_true rfl⟩) ⟨fun a U g mk q => q, fun U hU hW => ⟨rfl, trivial⟩⟩ rfl rfl hl.1 rfl (lv_room (Nat.le_of_ble_eq_true rfl)) d_X_go_6 ⟨Nat.le_of_ble_eq_true rfl, Nat.le_of_ble_eq_true rfl⟩) (fun rz2 hrz2 => ?_)
  obtain ⟨F0z2, F1z2, F2z2⟩ := hrz2
  have F0z2 : 0 ≤ rz2.toInt ∧ rz2.toInt ≤ 1 := F0z2
  have F1z2 : rz2.toInt = 1 → ((0 : Int) ≤ v1.toInt ∧ v1.toInt ≤ (3999 : Int)) := F1z2
  have F2z2 : rz2.toInt = 0 → (v1.toInt < (0 : Int) ∨ (3999 : Int) < v1.toInt) := F2z2
  refine lv_istore_n (lv' := [(2, .int rz2), (0, .ref p0), (1, .int a1)]) hx hb d_X_go_9 rfl hl (by decide) rfl (fun ls hl => ?_)
  refine lv_aload_n hx hb d_X_go_10 rfl (lv_at hl 1 rfl) ?_
  refine lv_iload_n hx hb d_X_go_11 rfl (lv_at hl 0 rfl) ?_
  refine lv_if_eq (tgt := 19) hx hb d_X_go_12 (by decide) (fun c3 => ?_) (fun c3 => ?_)
  · have gc3 : rz2.toInt = (0 : Int) := c_eq c3
    have R4 : 0 ≤ rz2.toInt ∧ rz2.toInt ≤ 0 := rf_eqX F0z2 (show 0 ≤ (0 : Int) ∧ (0 : Int) ≤ 0 from by decide) gc3 (by decide) (by decide)
    refine lv_aload_n hx hb d_X_go_19 rfl (lv_at hl 1 rfl) ?_
    refine va_get (D := D) (ci := 7) (v := .int x0_4) (C := "SignMachineModel") (T := F_X) (N := 64) hx hb hk fi_X hown hK.1 hP 0 rfl rfl 4 (by decide) (hk _ k_1125) (fun _ h9 => h9) rfl d_X_go_20 ?_
    refine va_put (D := D) (ci := 7) (v := .int x0_4) (ty := .int) (C := "SignMachineModel") (T := F_X) (N := 64) hx hb hk fi_X ft_X ft_X_ok fn_X hown hK.1 hP hD hS 0 rfl rfl 4 (by decide) (hk _ k_1125) (fun _ h9 => h9) rfl (by decide +kernel) rfl rfl (Nat.le_of_ble_eq_true rfl) d_X_go_23 (fun H locs hP hD hS => ?_)
    have hP : va_P D classes (wS50 cI cJ cZ cB p0 p1 p2 p3 p4 p5 p6 p7 p8 p9 p10 p11 p12 p13 p14 p15 p16 p17 p18 p19 p20 p21 p22 p23 p24 p25 x0_4 x0_5 x0_6 x0_7 x0_8 x0_12 x0_13 x0_14 x0_15 x0_16 x0_17 x0_18 x0_22 x0_23 x0_24 x0_25 x0_26 x0_27 x0_28 x0_29 x0_30 x0_31 x0_32 x0_36 x0_39 x0_40 x0_44 x0_49 x0_51 x0_53 x0_54 x0_55 x0_56 x0_57 x0_58 x0_59 x0_60 x0_61 x0_62 y1 y2 y3 y4 y5 y6 y7 y8 y9 y10 y11 y12 y13 y14 y15 y16 y17 y18 y19 y20 y21 y22 y23 y24 y25) H := hP
    have hD : va_D A (wS50 cI cJ cZ cB p0 p1 p2 p3 p4 p5 p6 p7 p8 p9 p10 p11 p12 p13 p14 p15 p16 p17 p18 p19 p20 p21 p22 p23 p24 p25 x0_4 x0_5 x0_6 x0_7 x0_8 x0_12 x0_13 x0_14 x0_15 x0_16 x0_17 x0_18 x0_22 x0_23 x0_24 x0_25 x0_26 x0_27 x0_28 x0_29 x0_30 x0_31 x0_32 x0_36 x0_39 x0_40 x0_44 x0_49 x0_51 x0_53 x0_54 x0_55 x0_56 x0_57 x0_58 x0_59 x0_60 x0_61 x0_62 y1 y2 y3 y4 y5 y6 y7 y8 y9 y10 y11 y12 y13 y14 y15 y16 y17 y18 y19 y20 y21 y22 y23 y24 y25) := hD
    refine lv_iload_n hx hb d_X_go_26 rfl (lv_at hl 0 rfl) ?_
    exact W.zret (v := rz2) hx hb hr (nar01 (rgw R4 (by decide) (by decide))) (fun t ht hW => ⟨⟨rz2, rz2, rfl, rfl, ⟨x0_4, Rx0_4, (rgw R4 (by decide) (by decide)), (show rz2.toInt = 1 ↔ (0 ≤ a1.toInt ∧ a1.toInt ≤ 3999) from by omega), by show va_P D classes _ t.heap; rw [ht]; exact hP, hD⟩⟩, hS.F ht⟩) hS.2.2 d_X_go_27
  · have gc3 : rz2.toInt ≠ (0 : Int) := c_ne c3
    have R5 : 1 ≤ rz2.toInt ∧ rz2.toInt ≤ 1 := rf_neX F0z2 (show 0 ≤ (0 : Int) ∧ (0 : Int) ≤ 0 from by decide) gc3 (by decide) (by decide)
    refine lv_iload_n hx hb d_X_go_15 rfl (lv_at hl 2 rfl) ?_
    refine lv_goto (tgt := 23) hx hb d_X_go_16 (by decide) ?_
    refine va_put (D := D) (ci := 7) (v := .int a1) (ty := .int) (C := "SignMachineModel") (T := F_X) (N := 64) hx hb hk fi_X ft_X ft_X_ok fn_X hown hK.1 hP hD hS 0 rfl rfl 4 (by decide) (hk _ k_1125) (fun _ h9 => h9) rfl (by decide +kernel) rfl rfl (Nat.le_of_ble_eq_true rfl) d_X_go_23 (fun H locs hP hD hS => ?_)
    have hP : va_P D classes (wS50 cI cJ cZ cB p0 p1 p2 p3 p4 p5 p6 p7 p8 p9 p10 p11 p12 p13 p14 p15 p16 p17 p18 p19 p20 p21 p22 p23 p24 p25 a1 x0_5 x0_6 x0_7 x0_8 x0_12 x0_13 x0_14 x0_15 x0_16 x0_17 x0_18 x0_22 x0_23 x0_24 x0_25 x0_26 x0_27 x0_28 x0_29 x0_30 x0_31 x0_32 x0_36 x0_39 x0_40 x0_44 x0_49 x0_51 x0_53 x0_54 x0_55 x0_56 x0_57 x0_58 x0_59 x0_60 x0_61 x0_62 y1 y2 y3 y4 y5 y6 y7 y8 y9 y10 y11 y12 y13 y14 y15 y16 y17 y18 y19 y20 y21 y22 y23 y24 y25) H := hP
    have hD : va_D A (wS50 cI cJ cZ cB p0 p1 p2 p3 p4 p5 p6 p7 p8 p9 p10 p11 p12 p13 p14 p15 p16 p17 p18 p19 p20 p21 p22 p23 p24 p25 a1 x0_5 x0_6 x0_7 x0_8 x0_12 x0_13 x0_14 x0_15 x0_16 x0_17 x0_18 x0_22 x0_23 x0_24 x0_25 x0_26 x0_27 x0_28 x0_29 x0_30 x0_31 x0_32 x0_36 x0_39 x0_40 x0_44 x0_49 x0_51 x0_53 x0_54 x0_55 x0_56 x0_57 x0_58 x0_59 x0_60 x0_61 x0_62 y1 y2 y3 y4 y5 y6 y7 y8 y9 y10 y11 y12 y13 y14 y15 y16 y17 y18 y19 y20 y21 y22 y23 y24 y25) := hD
    refine lv_iload_n hx hb d_X_go_26 rfl (lv_at hl 0 rfl) ?_
    exact W.zret (v := rz2) hx hb hr (nar01 (rgw R5 (by decide) (by decide))) (fun t ht hW => ⟨⟨rz2, rz2, rfl, rfl, ⟨a1, (by omega), (rgw R5 (by decide) (by decide)), (show rz2.toInt = 1 ↔ (0 ≤ a1.toInt ∧ a1.toInt ≤ 3999) from by omega), by show va_P D classes _ t.heap; rw [ht]; exact hP, hD⟩⟩, hS.F ht⟩) hS.2.2 d_X_go_27
theorem v_X_go {R : Room} {s : State} {args : Array Value} {own : String} {index : Nat} (hk : ∀ w ∈ tb, w.before args s = true) (hl : Cond.methodLink own index y_X_go ∈ tb) (hR : 1 + 1 ≤ R.frames ∧ 8 + (3 + 11) + 25 ≤ R.locals) : CallW R s args own "SignMachineModel" index y_X_go b_X_go 3 (some .boolean) (.code y_X_go b_X_go 3 (some .boolean) :: tb) ({ frames := 1, cells := 0, slots := 0, locals := 25 }) 0 0 1 := mk_v 1 hk k_1355 hl k_1353 k_1354 k_119 rfl rfl h_X_go hR

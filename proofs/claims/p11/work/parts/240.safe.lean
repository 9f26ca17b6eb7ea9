set_option maxHeartbeats 4000000 in
set_option maxRecDepth 100000 in
theorem c_R_takes_s1 (l : Launch) (K : CK) (D : va_G) (cI cJ cZ cB : ClassId) (p0 p1 p2 p3 p4 p5 p6 p7 p8 p9 p10 p11 p12 p13 p14 p15 : Nat) (sz : Nat) (x0_3 : Int32) (x0_4 : Int32) (x0_5 : Int32) (x0_6 : Int32) (x0_7 : Int32) (x0_8 : Bool) (x0_9 : Int64) (x0_10 : Int32) (x0_11 : Option (Fin 51)) (x0_12 : Int32) (x0_13 : Int32) (x0_14 : Int32) (x1_1 : Int32) (x1_2 : Int32) (x1_3 : Int32) (x1_4 : Int32) (x1_5 : Int32) (x1_6 : Int32) (x1_7 : Int64) (x1_8 : Int32) (y2 : Nat → Int32) (x3_5 : Int32) (x3_6 : Int32) (y4 : Nat → Int64) (y5 : Nat → Int32) (y6 : Nat → Int32) (y7 : Nat → Int32) (y8 : Nat → Int32) (x9_6 : Int32) (y10 : Nat → Int32) (y11 : Nat → Int32) (y12 : Nat → Int32) (y13 : Nat → Int32) (y14 : Nat → Int32) (y15 : Nat → Int32)  (a1 : Int32) : Met l y_R_takes (.code y_R_takes b_R_takes 2 (some .boolean) :: tb) ({ frames := 1, cells := 0, slots := 0, locals := 20 }) (pMC K D cI cJ cZ cB (wS52 K cI cJ cZ cB p0 p1 p2 p3 p4 p5 p6 p7 p8 p9 p10 p11 p12 p13 p14 p15 x0_3 x0_4 x0_5 x0_6 x0_7 x0_8 x0_9 x0_10 x0_11 x0_12 x0_13 x0_14 x1_1 x1_2 x1_3 x1_4 x1_5 x1_6 x1_7 x1_8 y2 x3_5 x3_6 y4 y5 y6 y7 y8 x9_6 y10 y11 y12 y13 y14 y15) sz [.ref p1, .int a1]) (va_Qi (fun r (_ : Unit) => ∃ z : Bool, r = bI z) (fun _ t => (∃ u_x1_3 : Int32, va_P D classes (wS52 K cI cJ cZ cB p0 p1 p2 p3 p4 p5 p6 p7 p8 p9 p10 p11 p12 p13 p14 p15 x0_3 x0_4 x0_5 x0_6 x0_7 x0_8 x0_9 x0_10 x0_11 x0_12 x0_13 x0_14 x1_1 x1_2 u_x1_3 x1_4 x1_5 x1_6 x1_7 x1_8 y2 x3_5 x3_6 y4 y5 y6 y7 y8 x9_6 y10 y11 y12 y13 y14 y15) t.heap ∧ va_D (va_A (wS52 K cI cJ cZ cB p0 p1 p2 p3 p4 p5 p6 p7 p8 p9 p10 p11 p12 p13 p14 p15 x0_3 x0_4 x0_5 x0_6 x0_7 x0_8 x0_9 x0_10 x0_11 x0_12 x0_13 x0_14 x1_1 x1_2 x1_3 x1_4 x1_5 x1_6 x1_7 x1_8 y2 x3_5 x3_6 y4 y5 y6 y7 y8 x9_6 y10 y11 y12 y13 y14 y15) sz) (wS52 K cI cJ cZ cB p0 p1 p2 p3 p4 p5 p6 p7 p8 p9 p10 p11 p12 p13 p14 p15 x0_3 x0_4 x0_5 x0_6 x0_7 x0_8 x0_9 x0_10 x0_11 x0_12 x0_13 x0_14 x1_1 x1_2 u_x1_3 x1_4 x1_5 x1_6 x1_7 x1_8 y2 x3_5 x3_6 y4 y5 y6 y7 y8 x9_6 y10 y11 y12 y13 y14 y15))) (va_A (wS52 K cI cJ cZ cB p0 p1 p2 p3 p4 p5 p6 p7 p8 p9 p10 p11 p12 p13 p14 p15 x0_3 x0_4 x0_5 x0_6 x0_7 x0_8 x0_9 x0_10 x0_11 x0_12 x0_13 x0_14 x1_1 x1_2 x1_3 x1_4 x1_5 x1_6 x1_7 x1_8 y2 x3_5 x3_6 y4 y5 y6 y7 y8 x9_6 y10 y11 y12 y13 y14 y15) sz)) 0 0 (va_A (wS52 K cI cJ cZ cB p0 p1 p2 p3 p4 p5 p6 p7 p8 p9 p10 p11 p12 p13 p14 p15 x0_3 x0_4 x0_5 x0_6 x0_7 x0_8 x0_9 x0_10 x0_11 x0_12 x0_13 x0_14 x1_1 x1_2 x1_3 x1_4 x1_5 x1_6 x1_7 x1_8 y2 x3_5 x3_6 y4 y5 y6 y7 y8 x9_6 y10 y11 y12 y13 y14 y15) sz) := by
  refine Met.ofW (cc := b_R_takes) (maxL := 2) (ret := (some .boolean)) (by decide) rfl ?_
  intro p e s m args below meth c s₁ B hml hv
  obtain ⟨rfl, hsz, hK, hP, hD0, hC⟩ := hv
  subst hsz
  have hD := hD0.self (sz := s.heap.size)
  generalize hAe : va_A (wS52 K cI cJ cZ cB p0 p1 p2 p3 p4 p5 p6 p7 p8 p9 p10 p11 p12 p13 p14 p15 x0_3 x0_4 x0_5 x0_6 x0_7 x0_8 x0_9 x0_10 x0_11 x0_12 x0_13 x0_14 x1_1 x1_2 x1_3 x1_4 x1_5 x1_6 x1_7 x1_8 y2 x3_5 x3_6 y4 y5 y6 y7 y8 x9_6 y10 y11 y12 y13 y14 y15) s.heap.size = A at hD hC ⊢
  have hA : ∀ q : Nat, s.heap.size ≤ q → A q := fun q h => by rw [← hAe]; exact Or.inr h
  clear hAe hD0
  have hS : va_S A s.heap s.heap [] := va_S.rf
  have hx := B.exec
  have hb := B.bytes
  have hr := B.returns
  have hts := atoms_spec (ws := .code y_R_takes b_R_takes 2 (some .boolean) :: tb) B.pre
  have hk : ∀ w ∈ tb, w.before [.ref p1, .int a1].toArray s = true := fun w h => hts w (List.mem_cons_of_mem _ h)
  have hown : s.vm.findClass "SignMachine$Source" = some m.cls := findClass_of_methodNamed B.named
  have hlocks := B.notSynchronized
  have hl := lv_entry ([.ref p1, .int a1]) (n := 2) (Nat.le_of_ble_eq_true rfl)
  rw [lg_entry_eq]
  generalize (lg_sl ([.ref p1, .int a1]) ++ List.replicate (2 - (lg_sl ([.ref p1, .int a1])).length) Slot.unset).toArray = ls at hl ⊢
  have hl : lv_has ls 2 [(0, .ref p1), (1, .int a1)] := hl
  refine lv_aload_n hx hb d_R_takes_0 rfl (lv_at hl 0 rfl) ?_
  refine sn_i (va_runV (C := "SignMachine$Source") (As := []) (rest := []) ⟨hx, hb, hml, hown, hk⟩ (c_R_peek_s1 l K D cI cJ cZ cB p0 p1 p2 p3 p4 p5 p6 p7 p8 p9 p10 p11 p12 p13 p14 p15 s.heap.size x0_3 x0_4 x0_5 x0_6 x0_7 x0_8 x0_9 x0_10 x0_11 x0_12 x0_13 x0_14 x1_1 x1_2 x1_3 x1_4 x1_5 x1_6 x1_7 x1_8 y2 x3_5 x3_6 y4 y5 y6 y7 y8 x9_6 y10 y11 y12 y13 y14 y15   ) (v_R_peek_s1 hk k_747 ⟨Nat.le_of_ble_eq_true rfl, Nat.le_of_ble_eq_true rfl⟩) (pMC_v hK hP hD hC hS hA (ci := 4) (q0 := 1) rfl rfl rfl) rfl rfl hl.1 rfl (lv_room (Nat.le_of_ble_eq_true rfl)) d_R_takes_1 ⟨by decide, by decide⟩) hS hA hD (fun rz1 u t H locs hr0 ht hB hFr hS => ?_)
  obtain ⟨hP, hD⟩ := hB
  rw [ht] at hP
  have hD := dwk hD hFr
  clear ht hFr
  have hP : va_P D classes (wS52 K cI cJ cZ cB p0 p1 p2 p3 p4 p5 p6 p7 p8 p9 p10 p11 p12 p13 p14 p15 x0_3 x0_4 x0_5 x0_6 x0_7 x0_8 x0_9 x0_10 x0_11 x0_12 x0_13 x0_14 x1_1 x1_2 x1_3 x1_4 x1_5 x1_6 x1_7 x1_8 y2 x3_5 x3_6 y4 y5 y6 y7 y8 x9_6 y10 y11 y12 y13 y14 y15) H := hP
  have hD : va_D A (wS52 K cI cJ cZ cB p0 p1 p2 p3 p4 p5 p6 p7 p8 p9 p10 p11 p12 p13 p14 p15 x0_3 x0_4 x0_5 x0_6 x0_7 x0_8 x0_9 x0_10 x0_11 x0_12 x0_13 x0_14 x1_1 x1_2 x1_3 x1_4 x1_5 x1_6 x1_7 x1_8 y2 x3_5 x3_6 y4 y5 y6 y7 y8 x9_6 y10 y11 y12 y13 y14 y15) := hD
  refine lv_iload_n hx hb d_R_takes_4 rfl (lv_at hl 1 rfl) ?_
  refine lv_icmp_eq (tgt := 10) hx hb d_R_takes_5 (by decide) (fun c2 => ?_) (fun c2 => ?_)
  · refine lv_aload_n hx hb d_R_takes_10 rfl (lv_at hl 0 rfl) ?_
    refine lv_dup hx hb d_R_takes_11 rfl ?_
    refine va_get (D := D) (ci := 4) (v := .int x1_3) (C := "SignMachine$Source") (T := F_R) (N := 9) hx hb hk fi_R hown hK.1 hP 1 rfl rfl 3 (by decide) (hk _ k_540) (fun _ h9 => h9) rfl d_R_takes_12 ?_
    refine lv_iconst (v := 1) hx hb d_R_takes_15 (by decide) ?_
    refine lv_iadd hx hb d_R_takes_16 ?_
    refine lv_topi (fun v3 hv3 => ?_)
    refine va_put (D := D) (ci := 4) (v := .int v3) (ty := .int) (C := "SignMachine$Source") (T := F_R) (N := 9) hx hb hk fi_R ft_R ft_R_ok fn_R hown hK.1 hP hD hS 1 rfl rfl 3 (by decide) (hk _ k_540) (fun _ h9 => h9) rfl (by decide +kernel) rfl rfl (Nat.le_of_ble_eq_true rfl) d_R_takes_17 (fun H locs hP hD hS => ?_)
    have hP : va_P D classes (wS52 K cI cJ cZ cB p0 p1 p2 p3 p4 p5 p6 p7 p8 p9 p10 p11 p12 p13 p14 p15 x0_3 x0_4 x0_5 x0_6 x0_7 x0_8 x0_9 x0_10 x0_11 x0_12 x0_13 x0_14 x1_1 x1_2 v3 x1_4 x1_5 x1_6 x1_7 x1_8 y2 x3_5 x3_6 y4 y5 y6 y7 y8 x9_6 y10 y11 y12 y13 y14 y15) H := hP
    have hD : va_D A (wS52 K cI cJ cZ cB p0 p1 p2 p3 p4 p5 p6 p7 p8 p9 p10 p11 p12 p13 p14 p15 x0_3 x0_4 x0_5 x0_6 x0_7 x0_8 x0_9 x0_10 x0_11 x0_12 x0_13 x0_14 x1_1 x1_2 v3 x1_4 x1_5 x1_6 x1_7 x1_8 y2 x3_5 x3_6 y4 y5 y6 y7 y8 x9_6 y10 y11 y12 y13 y14 y15) := hD
    refine lv_iconst (v := 1) hx hb d_R_takes_20 (by decide) ?_
    exact W.zret (v := (1 : Int32)) hx hb hr rfl (fun t ht hW => ⟨⟨(1 : Int32), (), rfl, ⟨true, rfl⟩, ⟨v3, by show va_P D classes _ t.heap; rw [ht]; exact hP, hD⟩⟩, hS.F ht⟩) hS.2.2 d_R_takes_21
  · refine lv_iconst (v := 0) hx hb d_R_takes_8 (by decide) ?_
    exact W.zret (v := (0 : Int32)) hx hb hr rfl (fun t ht hW => ⟨⟨(0 : Int32), (), rfl, ⟨false, rfl⟩, ⟨x1_3, by show va_P D classes _ t.heap; rw [ht]; exact hP, hD⟩⟩, hS.F ht⟩) hS.2.2 d_R_takes_9
theorem v_R_takes_s1 {R : Room} {s : State} {args : Array Value} {own : String} {index : Nat} (hk : ∀ w ∈ tb, w.before args s = true) (hl : Cond.methodLink own index y_R_takes ∈ tb) (hR : 1 + 1 ≤ R.frames ∧ 8 + (2 + 11) + 20 ≤ R.locals) : CallW R s args own "SignMachine$Source" index y_R_takes b_R_takes 2 (some .boolean) (.code y_R_takes b_R_takes 2 (some .boolean) :: tb) ({ frames := 1, cells := 0, slots := 0, locals := 20 }) 0 0 1 := mk_v 1 hk k_957 hl k_955 k_956 k_124 rfl rfl h_R_takes hR
set_option maxHeartbeats 4000000 in
set_option maxRecDepth 100000 in
theorem c_A_expectBracket_s1 (l : Launch) (K : CK) (D : va_G) (cI cJ cZ cB : ClassId) (p0 p1 p2 p3 p4 p5 p6 p7 p8 p9 p10 p11 p12 p13 p14 p15 : Nat) (sz : Nat) (x0_3 : Int32) (x0_4 : Int32) (x0_5 : Int32) (x0_6 : Int32) (x0_7 : Int32) (x0_8 : Bool) (x0_9 : Int64) (x0_10 : Int32) (x0_11 : Option (Fin 51)) (x0_12 : Int32) (x0_13 : Int32) (x0_14 : Int32) (x1_1 : Int32) (x1_2 : Int32) (x1_3 : Int32) (x1_4 : Int32) (x1_5 : Int32) (x1_6 : Int32) (x1_7 : Int64) (x1_8 : Int32) (y2 : Nat → Int32) (x3_5 : Int32) (x3_6 : Int32) (y4 : Nat → Int64) (y5 : Nat → Int32) (y6 : Nat → Int32) (y7 : Nat → Int32) (y8 : Nat → Int32) (x9_6 : Int32) (y10 : Nat → Int32) (y11 : Nat → Int32) (y12 : Nat → Int32) (y13 : Nat → Int32) (y14 : Nat → Int32) (y15 : Nat → Int32)   : Met l y_A_expectBracket (.code y_A_expectBracket b_A_expectBracket 1 none :: tb) ({ frames := 2, cells := 0, slots := 0, locals := 41 }) (pMC K D cI cJ cZ cB (wS52 K cI cJ cZ cB p0 p1 p2 p3 p4 p5 p6 p7 p8 p9 p10 p11 p12 p13 p14 p15 x0_3 x0_4 x0_5 x0_6 x0_7 x0_8 x0_9 x0_10 x0_11 x0_12 x0_13 x0_14 x1_1 x1_2 x1_3 x1_4 x1_5 x1_6 x1_7 x1_8 y2 x3_5 x3_6 y4 y5 y6 y7 y8 x9_6 y10 y11 y12 y13 y14 y15) sz [.ref p0]) (va_Qv (fun (_ : Unit) => True) (fun _ t => (∃ u_x0_3 : Int32, ∃ u_x0_4 : Int32, ∃ u_x1_3 : Int32, va_P D classes (wS52 K cI cJ cZ cB p0 p1 p2 p3 p4 p5 p6 p7 p8 p9 p10 p11 p12 p13 p14 p15 u_x0_3 u_x0_4 x0_5 x0_6 x0_7 x0_8 x0_9 x0_10 x0_11 x0_12 x0_13 x0_14 x1_1 x1_2 u_x1_3 x1_4 x1_5 x1_6 x1_7 x1_8 y2 x3_5 x3_6 y4 y5 y6 y7 y8 x9_6 y10 y11 y12 y13 y14 y15) t.heap ∧ va_D (va_A (wS52 K cI cJ cZ cB p0 p1 p2 p3 p4 p5 p6 p7 p8 p9 p10 p11 p12 p13 p14 p15 x0_3 x0_4 x0_5 x0_6 x0_7 x0_8 x0_9 x0_10 x0_11 x0_12 x0_13 x0_14 x1_1 x1_2 x1_3 x1_4 x1_5 x1_6 x1_7 x1_8 y2 x3_5 x3_6 y4 y5 y6 y7 y8 x9_6 y10 y11 y12 y13 y14 y15) sz) (wS52 K cI cJ cZ cB p0 p1 p2 p3 p4 p5 p6 p7 p8 p9 p10 p11 p12 p13 p14 p15 u_x0_3 u_x0_4 x0_5 x0_6 x0_7 x0_8 x0_9 x0_10 x0_11 x0_12 x0_13 x0_14 x1_1 x1_2 u_x1_3 x1_4 x1_5 x1_6 x1_7 x1_8 y2 x3_5 x3_6 y4 y5 y6 y7 y8 x9_6 y10 y11 y12 y13 y14 y15))) (va_A (wS52 K cI cJ cZ cB p0 p1 p2 p3 p4 p5 p6 p7 p8 p9 p10 p11 p12 p13 p14 p15 x0_3 x0_4 x0_5 x0_6 x0_7 x0_8 x0_9 x0_10 x0_11 x0_12 x0_13 x0_14 x1_1 x1_2 x1_3 x1_4 x1_5 x1_6 x1_7 x1_8 y2 x3_5 x3_6 y4 y5 y6 y7 y8 x9_6 y10 y11 y12 y13 y14 y15) sz)) 0 0 (va_A (wS52 K cI cJ cZ cB p0 p1 p2 p3 p4 p5 p6 p7 p8 p9 p10 p11 p12 p13 p14 p15 x0_3 x0_4 x0_5 x0_6 x0_7 x0_8 x0_9 x0_10 x0_11 x0_12 x0_13 x0_14 x1_1 x1_2 x1_3 x1_4 x1_5 x1_6 x1_7 x1_8 y2 x3_5 x3_6 y4 y5 y6 y7 y8 x9_6 y10 y11 y12 y13 y14 y15) sz) := by
  refine Met.ofW (cc := b_A_expectBracket) (maxL := 1) (ret := none) (by decide) rfl ?_
  intro p e s m args below meth c s₁ B hml hv
  obtain ⟨rfl, hsz, hK, hP, hD0, hC⟩ := hv
  subst hsz
  have hD := hD0.self (sz := s.heap.size)
  generalize hAe : va_A (wS52 K cI cJ cZ cB p0 p1 p2 p3 p4 p5 p6 p7 p8 p9 p10 p11 p12 p13 p14 p15 x0_3 x0_4 x0_5 x0_6 x0_7 x0_8 x0_9 x0_10 x0_11 x0_12 x0_13 x0_14 x1_1 x1_2 x1_3 x1_4 x1_5 x1_6 x1_7 x1_8 y2 x3_5 x3_6 y4 y5 y6 y7 y8 x9_6 y10 y11 y12 y13 y14 y15) s.heap.size = A at hD hC ⊢
  have hA : ∀ q : Nat, s.heap.size ≤ q → A q := fun q h => by rw [← hAe]; exact Or.inr h
  clear hAe hD0
  have hS : va_S A s.heap s.heap [] := va_S.rf
  have hx := B.exec
  have hb := B.bytes
  have hr := B.returns
  have hts := atoms_spec (ws := .code y_A_expectBracket b_A_expectBracket 1 none :: tb) B.pre
  have hk : ∀ w ∈ tb, w.before [.ref p0].toArray s = true := fun w h => hts w (List.mem_cons_of_mem _ h)
  have hown : s.vm.findClass "SignMachine$Assembler" = some m.cls := findClass_of_methodNamed B.named
  have hlocks := B.notSynchronized
  have hl := lv_entry ([.ref p0]) (n := 1) (Nat.le_of_ble_eq_true rfl)
  rw [lg_entry_eq]
  generalize (lg_sl ([.ref p0]) ++ List.replicate (1 - (lg_sl ([.ref p0])).length) Slot.unset).toArray = ls at hl ⊢
  have hl : lv_has ls 1 [(0, .ref p0)] := hl
  refine lv_aload_n hx hb d_A_expectBracket_0 rfl (lv_at hl 0 rfl) ?_
  refine va_get (D := D) (ci := 3) (v := .ref p1) (C := "SignMachine$Assembler") (T := F_A) (N := 15) hx hb hk fi_A hown hK.1 hP 0 rfl rfl 0 (by decide) (hk _ k_631) (fun _ h9 => h9) rfl d_A_expectBracket_1 ?_
  refine lv_bipush (v := 41) hx hb d_A_expectBracket_4 (by decide) ?_
  refine sn_i (va_runV (C := "SignMachine$Source") (As := [.int (41 : Int32)]) (rest := []) ⟨hx, hb, hml, hown, hk⟩ (c_R_takes_s1 l K D cI cJ cZ cB p0 p1 p2 p3 p4 p5 p6 p7 p8 p9 p10 p11 p12 p13 p14 p15 s.heap.size x0_3 x0_4 x0_5 x0_6 x0_7 x0_8 x0_9 x0_10 x0_11 x0_12 x0_13 x0_14 x1_1 x1_2 x1_3 x1_4 x1_5 x1_6 x1_7 x1_8 y2 x3_5 x3_6 y4 y5 y6 y7 y8 x9_6 y10 y11 y12 y13 y14 y15  (41 : Int32) ) (v_R_takes_s1 hk k_954 ⟨Nat.le_of_ble_eq_true rfl, Nat.le_of_ble_eq_true rfl⟩) (pMC_v hK hP hD hC hS hA (ci := 4) (q0 := 1) rfl rfl rfl) rfl rfl hl.1 rfl (lv_room (Nat.le_of_ble_eq_true rfl)) d_A_expectBracket_6 ⟨by decide, by decide⟩) hS hA hD (fun rz1 u t H locs hr0 ht hB hFr hS => ?_)
  obtain ⟨z1, hz1⟩ := hr0
  subst hz1
  obtain ⟨x1_3z1, hP, hD⟩ := hB
  rw [ht] at hP
  have hD := dwk hD hFr
  clear ht hFr
  have hP : va_P D classes (wS52 K cI cJ cZ cB p0 p1 p2 p3 p4 p5 p6 p7 p8 p9 p10 p11 p12 p13 p14 p15 x0_3 x0_4 x0_5 x0_6 x0_7 x0_8 x0_9 x0_10 x0_11 x0_12 x0_13 x0_14 x1_1 x1_2 x1_3z1 x1_4 x1_5 x1_6 x1_7 x1_8 y2 x3_5 x3_6 y4 y5 y6 y7 y8 x9_6 y10 y11 y12 y13 y14 y15) H := hP
  have hD : va_D A (wS52 K cI cJ cZ cB p0 p1 p2 p3 p4 p5 p6 p7 p8 p9 p10 p11 p12 p13 p14 p15 x0_3 x0_4 x0_5 x0_6 x0_7 x0_8 x0_9 x0_10 x0_11 x0_12 x0_13 x0_14 x1_1 x1_2 x1_3z1 x1_4 x1_5 x1_6 x1_7 x1_8 y2 x3_5 x3_6 y4 y5 y6 y7 y8 x9_6 y10 y11 y12 y13 y14 y15) := hD
  refine lv_if_ne (tgt := 18) hx hb d_A_expectBracket_9 (by decide) (fun c2 => ?_) (fun c2 => ?_)
  · exact W.vret hx hb hr (fun t ht hW => ⟨⟨(), rfl, trivial, ⟨x0_3, x0_4, x1_3z1, by show va_P D classes _ t.heap; rw [ht]; exact hP, hD⟩⟩, hS.F ht⟩) hS.2.2 d_A_expectBracket_18
  · refine lv_aload_n hx hb d_A_expectBracket_12 rfl (lv_at hl 0 rfl) ?_
    refine lv_iconst (v := 1) hx hb d_A_expectBracket_13 (by decide) ?_
    refine sn_i (va_runV (C := "SignMachine$Assembler") (As := [.int (1 : Int32)]) (rest := []) ⟨hx, hb, hml, hown, hk⟩ (c_A_fail_s1 l K D cI cJ cZ cB p0 p1 p2 p3 p4 p5 p6 p7 p8 p9 p10 p11 p12 p13 p14 p15 H.size x0_3 x0_4 x0_5 x0_6 x0_7 x0_8 x0_9 x0_10 x0_11 x0_12 x0_13 x0_14 x1_1 x1_2 x1_3z1 x1_4 x1_5 x1_6 x1_7 x1_8 y2 x3_5 x3_6 y4 y5 y6 y7 y8 x9_6 y10 y11 y12 y13 y14 y15  (1 : Int32) ) (v_A_fail_s1 hk k_767 ⟨Nat.le_of_ble_eq_true rfl, Nat.le_of_ble_eq_true rfl⟩) (pMC_v hK hP hD hC hS hA (ci := 3) (q0 := 0) rfl rfl rfl) rfl rfl hl.1 rfl (lv_room (Nat.le_of_ble_eq_true rfl)) d_A_expectBracket_14 ⟨by decide, by decide⟩) hS hA hD (fun rz3 u t H locs hr0 ht hB hFr hS => ?_)
    obtain ⟨x0_3z3, x0_4z3, hP, hD⟩ := hB
    rw [ht] at hP
    have hD := dwk hD hFr
    clear ht hFr
    have hP : va_P D classes (wS52 K cI cJ cZ cB p0 p1 p2 p3 p4 p5 p6 p7 p8 p9 p10 p11 p12 p13 p14 p15 x0_3z3 x0_4z3 x0_5 x0_6 x0_7 x0_8 x0_9 x0_10 x0_11 x0_12 x0_13 x0_14 x1_1 x1_2 x1_3z1 x1_4 x1_5 x1_6 x1_7 x1_8 y2 x3_5 x3_6 y4 y5 y6 y7 y8 x9_6 y10 y11 y12 y13 y14 y15) H := hP
    have hD : va_D A (wS52 K cI cJ cZ cB p0 p1 p2 p3 p4 p5 p6 p7 p8 p9 p10 p11 p12 p13 p14 p15 x0_3z3 x0_4z3 x0_5 x0_6 x0_7 x0_8 x0_9 x0_10 x0_11 x0_12 x0_13 x0_14 x1_1 x1_2 x1_3z1 x1_4 x1_5 x1_6 x1_7 x1_8 y2 x3_5 x3_6 y4 y5 y6 y7 y8 x9_6 y10 y11 y12 y13 y14 y15) := hD
    refine lv_pop hx hb d_A_expectBracket_17 rfl ?_
    exact W.vret hx hb hr (fun t ht hW => ⟨⟨(), rfl, trivial, ⟨x0_3z3, x0_4z3, x1_3z1, by show va_P D classes _ t.heap; rw [ht]; exact hP, hD⟩⟩, hS.F ht⟩) hS.2.2 d_A_expectBracket_18
theorem v_A_expectBracket_s1 {R : Room} {s : State} {args : Array Value} {own : String} {index : Nat} (hk : ∀ w ∈ tb, w.before args s = true) (hl : Cond.methodLink own index y_A_expectBracket ∈ tb) (hR : 2 + 1 ≤ R.frames ∧ 8 + (1 + 11) + 41 ≤ R.locals) : CallW R s args own "SignMachine$Assembler" index y_A_expectBracket b_A_expectBracket 1 none (.code y_A_expectBracket b_A_expectBracket 1 none :: tb) ({ frames := 2, cells := 0, slots := 0, locals := 41 }) 0 0 0 := mk_v 0 hk k_1024 hl k_1023 k_51 k_123 rfl rfl h_A_expectBracket hR
set_option maxHeartbeats 4000000 in
set_option maxRecDepth 100000 in
theorem c_A_readW_s1 (l : Launch) (K : CK) (D : va_G) (cI cJ cZ cB : ClassId) (p0 p1 p2 p3 p4 p5 p6 p7 p8 p9 p10 p11 p12 p13 p14 p15 : Nat) (sz : Nat) (x0_3 : Int32) (x0_4 : Int32) (x0_5 : Int32) (x0_6 : Int32) (x0_7 : Int32) (x0_8 : Bool) (x0_9 : Int64) (x0_10 : Int32) (x0_11 : Option (Fin 51)) (x0_12 : Int32) (x0_13 : Int32) (x0_14 : Int32) (x1_1 : Int32) (x1_2 : Int32) (x1_3 : Int32) (x1_4 : Int32) (x1_5 : Int32) (x1_6 : Int32) (x1_7 : Int64) (x1_8 : Int32) (y2 : Nat → Int32) (x3_5 : Int32) (x3_6 : Int32) (y4 : Nat → Int64) (y5 : Nat → Int32) (y6 : Nat → Int32) (y7 : Nat → Int32) (y8 : Nat → Int32) (x9_6 : Int32) (y10 : Nat → Int32) (y11 : Nat → Int32) (y12 : Nat → Int32) (y13 : Nat → Int32) (y14 : Nat → Int32) (y15 : Nat → Int32)   : Met l y_A_readW (.code y_A_readW b_A_readW 5 (some .int) :: tb) ({ frames := 3, cells := 0, slots := 0, locals := 74 }) (pMC K D cI cJ cZ cB (wS52 K cI cJ cZ cB p0 p1 p2 p3 p4 p5 p6 p7 p8 p9 p10 p11 p12 p13 p14 p15 x0_3 x0_4 x0_5 x0_6 x0_7 x0_8 x0_9 x0_10 x0_11 x0_12 x0_13 x0_14 x1_1 x1_2 x1_3 x1_4 x1_5 x1_6 x1_7 x1_8 y2 x3_5 x3_6 y4 y5 y6 y7 y8 x9_6 y10 y11 y12 y13 y14 y15) sz [.ref p0]) (va_Qi (fun r (_ : Unit) => True) (fun _ t => (∃ u_x0_3 : Int32, ∃ u_x0_4 : Int32, ∃ u_x1_3 : Int32, ∃ u_x1_6 : Int32, ∃ u_x1_7 : Int64, ∃ u_x1_8 : Int32, va_P D classes (wS52 K cI cJ cZ cB p0 p1 p2 p3 p4 p5 p6 p7 p8 p9 p10 p11 p12 p13 p14 p15 u_x0_3 u_x0_4 x0_5 x0_6 x0_7 x0_8 x0_9 x0_10 x0_11 x0_12 x0_13 x0_14 x1_1 x1_2 u_x1_3 x1_4 x1_5 u_x1_6 u_x1_7 u_x1_8 y2 x3_5 x3_6 y4 y5 y6 y7 y8 x9_6 y10 y11 y12 y13 y14 y15) t.heap ∧ va_D (va_A (wS52 K cI cJ cZ cB p0 p1 p2 p3 p4 p5 p6 p7 p8 p9 p10 p11 p12 p13 p14 p15 x0_3 x0_4 x0_5 x0_6 x0_7 x0_8 x0_9 x0_10 x0_11 x0_12 x0_13 x0_14 x1_1 x1_2 x1_3 x1_4 x1_5 x1_6 x1_7 x1_8 y2 x3_5 x3_6 y4 y5 y6 y7 y8 x9_6 y10 y11 y12 y13 y14 y15) sz) (wS52 K cI cJ cZ cB p0 p1 p2 p3 p4 p5 p6 p7 p8 p9 p10 p11 p12 p13 p14 p15 u_x0_3 u_x0_4 x0_5 x0_6 x0_7 x0_8 x0_9 x0_10 x0_11 x0_12 x0_13 x0_14 x1_1 x1_2 u_x1_3 x1_4 x1_5 u_x1_6 u_x1_7 u_x1_8 y2 x3_5 x3_6 y4 y5 y6 y7 y8 x9_6 y10 y11 y12 y13 y14 y15))) (va_A (wS52 K cI cJ cZ cB p0 p1 p2 p3 p4 p5 p6 p7 p8 p9 p10 p11 p12 p13 p14 p15 x0_3 x0_4 x0_5 x0_6 x0_7 x0_8 x0_9 x0_10 x0_11 x0_12 x0_13 x0_14 x1_1 x1_2 x1_3 x1_4 x1_5 x1_6 x1_7 x1_8 y2 x3_5 x3_6 y4 y5 y6 y7 y8 x9_6 y10 y11 y12 y13 y14 y15) sz)) 0 0 (va_A (wS52 K cI cJ cZ cB p0 p1 p2 p3 p4 p5 p6 p7 p8 p9 p10 p11 p12 p13 p14 p15 x0_3 x0_4 x0_5 x0_6 x0_7 x0_8 x0_9 x0_10 x0_11 x0_12 x0_13 x0_14 x1_1 x1_2 x1_3 x1_4 x1_5 x1_6 x1_7 x1_8 y2 x3_5 x3_6 y4 y5 y6 y7 y8 x9_6 y10 y11 y12 y13 y14 y15) sz) := by
  refine Met.ofW (cc := b_A_readW) (maxL := 5) (ret := (some .int)) (by decide) rfl ?_
  intro p e s m args below meth c s₁ B hml hv
  obtain ⟨rfl, hsz, hK, hP, hD0, hC⟩ := hv
  subst hsz
  have hD := hD0.self (sz := s.heap.size)
  generalize hAe : va_A (wS52 K cI cJ cZ cB p0 p1 p2 p3 p4 p5 p6 p7 p8 p9 p10 p11 p12 p13 p14 p15 x0_3 x0_4 x0_5 x0_6 x0_7 x0_8 x0_9 x0_10 x0_11 x0_12 x0_13 x0_14 x1_1 x1_2 x1_3 x1_4 x1_5 x1_6 x1_7 x1_8 y2 x3_5 x3_6 y4 y5 y6 y7 y8 x9_6 y10 y11 y12 y13 y14 y15) s.heap.size = A at hD hC ⊢
  have hA : ∀ q : Nat, s.heap.size ≤ q → A q := fun q h => by rw [← hAe]; exact Or.inr h
  clear hAe hD0
  have hS : va_S A s.heap s.heap [] := va_S.rf
  have hx := B.exec
  have hb := B.bytes
  have hr := B.returns
  have hts := atoms_spec (ws := .code y_A_readW b_A_readW 5 (some .int) :: tb) B.pre
  have hk : ∀ w ∈ tb, w.before [.ref p0].toArray s = true := fun w h => hts w (List.mem_cons_of_mem _ h)
  have hown : s.vm.findClass "SignMachine$Assembler" = some m.cls := findClass_of_methodNamed B.named
  have hlocks := B.notSynchronized
  have hl := lv_entry ([.ref p0]) (n := 5) (Nat.le_of_ble_eq_true rfl)
  rw [lg_entry_eq]
  generalize (lg_sl ([.ref p0]) ++ List.replicate (5 - (lg_sl ([.ref p0])).length) Slot.unset).toArray = ls at hl ⊢
  have hl : lv_has ls 5 [(0, .ref p0)] := hl
  refine lv_iconst (v := 0) hx hb d_A_readW_0 (by decide) ?_
  refine lv_istore_n (lv' := [(1, .int (0 : Int32)), (0, .ref p0)]) hx hb d_A_readW_1 rfl hl (by decide) rfl (fun ls hl => ?_)
  refine lv_iconst (v := 0) hx hb d_A_readW_2 (by decide) ?_
  refine lv_istore_n (lv' := [(2, .int (0 : Int32)), (1, .int (0 : Int32)), (0, .ref p0)]) hx hb d_A_readW_3 rfl hl (by decide) rfl (fun ls hl => ?_)
  have LP4_52 : ∀ (n : Nat) (l2 : Int32) (l1 : Int32) (x0_3 : Int32) (x0_4 : Int32) (x1_3 : Int32) (x1_6 : Int32) (x1_7 : Int64) (x1_8 : Int32) (H : Heap) (locs : List Loc) (ls : Array Slot), (((4000 : Int32)).toInt - (l2).toInt).toNat < n → ¬ l2 < (0 : Int32) → va_P D classes (wS52 K cI cJ cZ cB p0 p1 p2 p3 p4 p5 p6 p7 p8 p9 p10 p11 p12 p13 p14 p15 x0_3 x0_4 x0_5 x0_6 x0_7 x0_8 x0_9 x0_10 x0_11 x0_12 x0_13 x0_14 x1_1 x1_2 x1_3 x1_4 x1_5 x1_6 x1_7 x1_8 y2 x3_5 x3_6 y4 y5 y6 y7 y8 x9_6 y10 y11 y12 y13 y14 y15) H → va_D A (wS52 K cI cJ cZ cB p0 p1 p2 p3 p4 p5 p6 p7 p8 p9 p10 p11 p12 p13 p14 p15 x0_3 x0_4 x0_5 x0_6 x0_7 x0_8 x0_9 x0_10 x0_11 x0_12 x0_13 x0_14 x1_1 x1_2 x1_3 x1_4 x1_5 x1_6 x1_7 x1_8 y2 x3_5 x3_6 y4 y5 y6 y7 y8 x9_6 y10 y11 y12 y13 y14 y15) → va_S A s.heap H locs → lv_has ls 5 [(2, .int l2), (1, .int l1), (0, .ref p0)] → W p l e ({ frames := 3, cells := 0, slots := 0, locals := 74 }) s m [.ref p0].toArray below meth c H locs 0 0 (MQ below (va_Qi (fun r (_ : Unit) => True) (fun _ t => (∃ u_x0_3 : Int32, ∃ u_x0_4 : Int32, ∃ u_x1_3 : Int32, ∃ u_x1_6 : Int32, ∃ u_x1_7 : Int64, ∃ u_x1_8 : Int32, va_P D classes (wS52 K cI cJ cZ cB p0 p1 p2 p3 p4 p5 p6 p7 p8 p9 p10 p11 p12 p13 p14 p15 u_x0_3 u_x0_4 x0_5 x0_6 x0_7 x0_8 x0_9 x0_10 x0_11 x0_12 x0_13 x0_14 x1_1 x1_2 u_x1_3 x1_4 x1_5 u_x1_6 u_x1_7 u_x1_8 y2 x3_5 x3_6 y4 y5 y6 y7 y8 x9_6 y10 y11 y12 y13 y14 y15) t.heap ∧ va_D A (wS52 K cI cJ cZ cB p0 p1 p2 p3 p4 p5 p6 p7 p8 p9 p10 p11 p12 p13 p14 p15 u_x0_3 u_x0_4 x0_5 x0_6 x0_7 x0_8 x0_9 x0_10 x0_11 x0_12 x0_13 x0_14 x1_1 x1_2 u_x1_3 x1_4 x1_5 u_x1_6 u_x1_7 u_x1_8 y2 x3_5 x3_6 y4 y5 y6 y7 y8 x9_6 y10 y11 y12 y13 y14 y15))) A) [.ref p0].toArray s 0 0 A) (F0 m 4 ls []) := by
    intro n
    induction n with
    | zero => intro l2 l1 x0_3 x0_4 x1_3 x1_6 x1_7 x1_8 H locs ls hn; exact absurd hn (Nat.not_lt_zero _)
    | succ n ih =>
      intro l2 l1 x0_3 x0_4 x1_3 x1_6 x1_7 x1_8 H locs ls hn4_52 hc4_52 hP hD hS hl
      refine lv_iload_n hx hb d_A_readW_4 rfl (lv_at hl 0 rfl) ?_
      refine lv_sipush (v := 4000) hx hb d_A_readW_5 (by decide) ?_
      refine lv_icmp_ge (tgt := 103) hx hb d_A_readW_8 (by decide) (fun c1 => ?_) (fun c1 => ?_)
      · refine lv_iload_n hx hb d_A_readW_103 rfl (lv_at hl 1 rfl) ?_
        exact W.iret (v := l1) hx hb hr (fun t ht hW => ⟨⟨l1, (), rfl, trivial, ⟨x0_3, x0_4, x1_3, x1_6, x1_7, x1_8, by show va_P D classes _ t.heap; rw [ht]; exact hP, hD⟩⟩, hS.F ht⟩) hS.2.2 d_A_readW_104
      · refine lv_aload_n hx hb d_A_readW_11 rfl (lv_at hl 2 rfl) ?_
        refine sn_i (va_runV (C := "SignMachine$Assembler") (As := []) (rest := []) ⟨hx, hb, hml, hown, hk⟩ (c_A_readExp_s1 l K D cI cJ cZ cB p0 p1 p2 p3 p4 p5 p6 p7 p8 p9 p10 p11 p12 p13 p14 p15 H.size x0_3 x0_4 x0_5 x0_6 x0_7 x0_8 x0_9 x0_10 x0_11 x0_12 x0_13 x0_14 x1_1 x1_2 x1_3 x1_4 x1_5 x1_6 x1_7 x1_8 y2 x3_5 x3_6 y4 y5 y6 y7 y8 x9_6 y10 y11 y12 y13 y14 y15   ) (v_A_readExp_s1 hk k_989 ⟨Nat.le_of_ble_eq_true rfl, Nat.le_of_ble_eq_true rfl⟩) (pMC_v hK hP hD hC hS hA (ci := 3) (q0 := 0) rfl rfl rfl) rfl rfl hl.1 rfl (lv_room (Nat.le_of_ble_eq_true rfl)) d_A_readW_12 ⟨by decide, by decide⟩) hS hA hD (fun rz2 u t H locs hr0 ht hB hFr hS => ?_)
        obtain ⟨x0_3z2, x0_4z2, x1_3z2, x1_6z2, x1_7z2, x1_8z2, hP, hD⟩ := hB
        rw [ht] at hP
        have hD := dwk hD hFr
        clear ht hFr
        have hP : va_P D classes (wS52 K cI cJ cZ cB p0 p1 p2 p3 p4 p5 p6 p7 p8 p9 p10 p11 p12 p13 p14 p15 x0_3z2 x0_4z2 x0_5 x0_6 x0_7 x0_8 x0_9 x0_10 x0_11 x0_12 x0_13 x0_14 x1_1 x1_2 x1_3z2 x1_4 x1_5 x1_6z2 x1_7z2 x1_8z2 y2 x3_5 x3_6 y4 y5 y6 y7 y8 x9_6 y10 y11 y12 y13 y14 y15) H := hP
        have hD : va_D A (wS52 K cI cJ cZ cB p0 p1 p2 p3 p4 p5 p6 p7 p8 p9 p10 p11 p12 p13 p14 p15 x0_3z2 x0_4z2 x0_5 x0_6 x0_7 x0_8 x0_9 x0_10 x0_11 x0_12 x0_13 x0_14 x1_1 x1_2 x1_3z2 x1_4 x1_5 x1_6z2 x1_7z2 x1_8z2 y2 x3_5 x3_6 y4 y5 y6 y7 y8 x9_6 y10 y11 y12 y13 y14 y15) := hD
        refine lv_istore_n (lv' := [(3, .int rz2), (2, .int l2), (1, .int l1), (0, .ref p0)]) hx hb d_A_readW_15 rfl hl (by decide) rfl (fun ls hl => ?_)
        refine lv_iconst (v := 5) hx hb d_A_readW_16 (by decide) ?_
        refine lv_istore (lv' := [(4, .int (5 : Int32)), (3, .int rz2), (2, .int l2), (1, .int l1), (0, .ref p0)]) hx hb d_A_readW_17 hl (by decide) rfl (fun ls hl => ?_)
        refine lv_aload_n hx hb d_A_readW_19 rfl (lv_at hl 4 rfl) ?_
        refine va_get (D := D) (ci := 3) (v := .int x0_3z2) (C := "SignMachine$Assembler") (T := F_A) (N := 15) hx hb hk fi_A hown hK.1 hP 0 rfl rfl 3 (by decide) (hk _ k_636) (fun _ h9 => h9) rfl d_A_readW_20 ?_
        refine lv_if_ne (tgt := 48) hx hb d_A_readW_23 (by decide) (fun c3 => ?_) (fun c3 => ?_)
        · refine lv_iload hx hb d_A_readW_48 (lv_at hl 0 rfl) ?_
          refine cs_i (W.runS (As := [.int (5 : Int32)]) (rest := []) ⟨hx, hb, hml, hown, hk⟩ (c_W_isField l (5 : Int32)) (s_W_isField hk k_1025 ⟨Nat.le_of_ble_eq_true rfl, Nat.le_of_ble_eq_true rfl⟩) ⟨fun a U g mk q => q, fun U hU hW => ⟨rfl, trivial⟩⟩ rfl rfl hl.1 rfl (lv_room (Nat.le_of_ble_eq_true rfl)) d_A_readW_50 ⟨Nat.le_of_ble_eq_true rfl, Nat.le_of_ble_eq_true rfl⟩) ?_
          refine tpi (y := (1 : Int32)) (by decide) ?_
          refine lv_if_ne (tgt := 62) hx hb d_A_readW_53 (by decide) (fun c4 => ?_) (fun c4 => absurd c4 (show ¬ (1 : Int32) = (0 : Int32) from (by decide)))
          refine lv_aload_n hx hb d_A_readW_62 rfl (lv_at hl 4 rfl) ?_
          refine va_get (D := D) (ci := 3) (v := .int x0_3z2) (C := "SignMachine$Assembler") (T := F_A) (N := 15) hx hb hk fi_A hown hK.1 hP 0 rfl rfl 3 (by decide) (hk _ k_636) (fun _ h9 => h9) rfl d_A_readW_63 ?_
          refine lv_if_eq (tgt := 71) hx hb d_A_readW_66 (by decide) (fun c5 => absurd c5 (show ¬ x0_3z2 = (0 : Int32) from c3)) (fun c5 => ?_)
          refine lv_iconst (v := 0) hx hb d_A_readW_69 (by decide) ?_
          exact W.iret (v := (0 : Int32)) hx hb hr (fun t ht hW => ⟨⟨(0 : Int32), (), rfl, trivial, ⟨x0_3z2, x0_4z2, x1_3z2, x1_6z2, x1_7z2, x1_8z2, by show va_P D classes _ t.heap; rw [ht]; exact hP, hD⟩⟩, hS.F ht⟩) hS.2.2 d_A_readW_70
        · refine lv_aload_n hx hb d_A_readW_26 rfl (lv_at hl 4 rfl) ?_
          refine va_get (D := D) (ci := 3) (v := .ref p1) (C := "SignMachine$Assembler") (T := F_A) (N := 15) hx hb hk fi_A hown hK.1 hP 0 rfl rfl 0 (by decide) (hk _ k_631) (fun _ h9 => h9) rfl d_A_readW_27 ?_
          refine lv_bipush (v := 40) hx hb d_A_readW_30 (by decide) ?_
          refine sn_i (va_runV (C := "SignMachine$Source") (As := [.int (40 : Int32)]) (rest := []) ⟨hx, hb, hml, hown, hk⟩ (c_R_takes_s1 l K D cI cJ cZ cB p0 p1 p2 p3 p4 p5 p6 p7 p8 p9 p10 p11 p12 p13 p14 p15 H.size x0_3z2 x0_4z2 x0_5 x0_6 x0_7 x0_8 x0_9 x0_10 x0_11 x0_12 x0_13 x0_14 x1_1 x1_2 x1_3z2 x1_4 x1_5 x1_6z2 x1_7z2 x1_8z2 y2 x3_5 x3_6 y4 y5 y6 y7 y8 x9_6 y10 y11 y12 y13 y14 y15  (40 : Int32) ) (v_R_takes_s1 hk k_954 ⟨Nat.le_of_ble_eq_true rfl, Nat.le_of_ble_eq_true rfl⟩) (pMC_v hK hP hD hC hS hA (ci := 4) (q0 := 1) rfl rfl rfl) rfl rfl hl.1 rfl (lv_room (Nat.le_of_ble_eq_true rfl)) d_A_readW_32 ⟨by decide, by decide⟩) hS hA hD (fun rz6 u t H locs hr0 ht hB hFr hS => ?_)
          obtain ⟨z6, hz6⟩ := hr0
          subst hz6
          obtain ⟨x1_3z6, hP, hD⟩ := hB
          rw [ht] at hP
          have hD := dwk hD hFr
          clear ht hFr
          have hP : va_P D classes (wS52 K cI cJ cZ cB p0 p1 p2 p3 p4 p5 p6 p7 p8 p9 p10 p11 p12 p13 p14 p15 x0_3z2 x0_4z2 x0_5 x0_6 x0_7 x0_8 x0_9 x0_10 x0_11 x0_12 x0_13 x0_14 x1_1 x1_2 x1_3z6 x1_4 x1_5 x1_6z2 x1_7z2 x1_8z2 y2 x3_5 x3_6 y4 y5 y6 y7 y8 x9_6 y10 y11 y12 y13 y14 y15) H := hP
          have hD : va_D A (wS52 K cI cJ cZ cB p0 p1 p2 p3 p4 p5 p6 p7 p8 p9 p10 p11 p12 p13 p14 p15 x0_3z2 x0_4z2 x0_5 x0_6 x0_7 x0_8 x0_9 x0_10 x0_11 x0_12 x0_13 x0_14 x1_1 x1_2 x1_3z6 x1_4 x1_5 x1_6z2 x1_7z2 x1_8z2 y2 x3_5 x3_6 y4 y5 y6 y7 y8 x9_6 y10 y11 y12 y13 y14 y15) := hD
          refine lv_if_eq (tgt := 48) hx hb d_A_readW_35 (by decide) (fun c7 => ?_) (fun c7 => ?_)
          · refine lv_iload hx hb d_A_readW_48 (lv_at hl 0 rfl) ?_
            refine cs_i (W.runS (As := [.int (5 : Int32)]) (rest := []) ⟨hx, hb, hml, hown, hk⟩ (c_W_isField l (5 : Int32)) (s_W_isField hk k_1025 ⟨Nat.le_of_ble_eq_true rfl, Nat.le_of_ble_eq_true rfl⟩) ⟨fun a U g mk q => q, fun U hU hW => ⟨rfl, trivial⟩⟩ rfl rfl hl.1 rfl (lv_room (Nat.le_of_ble_eq_true rfl)) d_A_readW_50 ⟨Nat.le_of_ble_eq_true rfl, Nat.le_of_ble_eq_true rfl⟩) ?_
            refine tpi (y := (1 : Int32)) (by decide) ?_
            refine lv_if_ne (tgt := 62) hx hb d_A_readW_53 (by decide) (fun c8 => ?_) (fun c8 => absurd c8 (show ¬ (1 : Int32) = (0 : Int32) from (by decide)))
            refine lv_aload_n hx hb d_A_readW_62 rfl (lv_at hl 4 rfl) ?_
            refine va_get (D := D) (ci := 3) (v := .int x0_3z2) (C := "SignMachine$Assembler") (T := F_A) (N := 15) hx hb hk fi_A hown hK.1 hP 0 rfl rfl 3 (by decide) (hk _ k_636) (fun _ h9 => h9) rfl d_A_readW_63 ?_
            refine lv_if_eq (tgt := 71) hx hb d_A_readW_66 (by decide) (fun c9 => ?_) (fun c9 => absurd (show x0_3z2 = (0 : Int32) from c3) c9)
            refine lv_iload_n hx hb d_A_readW_71 rfl (lv_at hl 3 rfl) ?_
            refine lv_iload_n hx hb d_A_readW_72 rfl (lv_at hl 1 rfl) ?_
            refine lv_iconst (v := 0) hx hb d_A_readW_73 (by decide) ?_
            refine cs_i (W.runS (As := [.int rz2, .int (0 : Int32)]) (rest := [.int l1]) ⟨hx, hb, hml, hown, hk⟩ (c_W_of l rz2 (0 : Int32)) (s_W_of hk k_1026 ⟨Nat.le_of_ble_eq_true rfl, Nat.le_of_ble_eq_true rfl⟩) ⟨fun a U g mk q => q, fun U hU hW => ⟨rfl, trivial⟩⟩ rfl rfl hl.1 rfl (lv_room (Nat.le_of_ble_eq_true rfl)) d_A_readW_74 ⟨Nat.le_of_ble_eq_true rfl, Nat.le_of_ble_eq_true rfl⟩) ?_
            refine lv_topi (fun v10 hv10 => ?_)
            refine lv_iload hx hb d_A_readW_77 (lv_at hl 0 rfl) ?_
            refine cs_i (W.runS (As := [.int l1, .int v10, .int (5 : Int32)]) (rest := []) ⟨hx, hb, hml, hown, hk⟩ (c_W_store l l1 v10 (5 : Int32)) (s_W_store hk k_1027 ⟨Nat.le_of_ble_eq_true rfl, Nat.le_of_ble_eq_true rfl⟩) ⟨fun a U g mk q => q, fun U hU hW => ⟨rfl, trivial⟩⟩ rfl rfl hl.1 rfl (lv_room (Nat.le_of_ble_eq_true rfl)) d_A_readW_79 ⟨Nat.le_of_ble_eq_true rfl, Nat.le_of_ble_eq_true rfl⟩) ?_
            refine lv_topi (fun v11 hv11 => ?_)
            refine lv_istore_n (lv' := [(1, .int v11), (4, .int (5 : Int32)), (3, .int rz2), (2, .int l2), (0, .ref p0)]) hx hb d_A_readW_82 rfl hl (by decide) rfl (fun ls hl => ?_)
            refine lv_aload_n hx hb d_A_readW_83 rfl (lv_at hl 4 rfl) ?_
            refine va_get (D := D) (ci := 3) (v := .ref p1) (C := "SignMachine$Assembler") (T := F_A) (N := 15) hx hb hk fi_A hown hK.1 hP 0 rfl rfl 0 (by decide) (hk _ k_631) (fun _ h9 => h9) rfl d_A_readW_84 ?_
            refine lv_bipush (v := 44) hx hb d_A_readW_87 (by decide) ?_
            refine sn_i (va_runV (C := "SignMachine$Source") (As := [.int (44 : Int32)]) (rest := []) ⟨hx, hb, hml, hown, hk⟩ (c_R_takes_s1 l K D cI cJ cZ cB p0 p1 p2 p3 p4 p5 p6 p7 p8 p9 p10 p11 p12 p13 p14 p15 H.size x0_3z2 x0_4z2 x0_5 x0_6 x0_7 x0_8 x0_9 x0_10 x0_11 x0_12 x0_13 x0_14 x1_1 x1_2 x1_3z6 x1_4 x1_5 x1_6z2 x1_7z2 x1_8z2 y2 x3_5 x3_6 y4 y5 y6 y7 y8 x9_6 y10 y11 y12 y13 y14 y15  (44 : Int32) ) (v_R_takes_s1 hk k_954 ⟨Nat.le_of_ble_eq_true rfl, Nat.le_of_ble_eq_true rfl⟩) (pMC_v hK hP hD hC hS hA (ci := 4) (q0 := 1) rfl rfl rfl) rfl rfl hl.1 rfl (lv_room (Nat.le_of_ble_eq_true rfl)) d_A_readW_89 ⟨by decide, by decide⟩) hS hA hD (fun rz12 u t H locs hr0 ht hB hFr hS => ?_)
            obtain ⟨z12, hz12⟩ := hr0
            subst hz12
            obtain ⟨x1_3z12, hP, hD⟩ := hB
            rw [ht] at hP
            have hD := dwk hD hFr
            clear ht hFr
            have hP : va_P D classes (wS52 K cI cJ cZ cB p0 p1 p2 p3 p4 p5 p6 p7 p8 p9 p10 p11 p12 p13 p14 p15 x0_3z2 x0_4z2 x0_5 x0_6 x0_7 x0_8 x0_9 x0_10 x0_11 x0_12 x0_13 x0_14 x1_1 x1_2 x1_3z12 x1_4 x1_5 x1_6z2 x1_7z2 x1_8z2 y2 x3_5 x3_6 y4 y5 y6 y7 y8 x9_6 y10 y11 y12 y13 y14 y15) H := hP
            have hD : va_D A (wS52 K cI cJ cZ cB p0 p1 p2 p3 p4 p5 p6 p7 p8 p9 p10 p11 p12 p13 p14 p15 x0_3z2 x0_4z2 x0_5 x0_6 x0_7 x0_8 x0_9 x0_10 x0_11 x0_12 x0_13 x0_14 x1_1 x1_2 x1_3z12 x1_4 x1_5 x1_6z2 x1_7z2 x1_8z2 y2 x3_5 x3_6 y4 y5 y6 y7 y8 x9_6 y10 y11 y12 y13 y14 y15) := hD
            refine lv_if_ne (tgt := 97) hx hb d_A_readW_92 (by decide) (fun c13 => ?_) (fun c13 => ?_)
            · obtain ⟨v14, hv14⟩ : ∃ y : Int32, y = (l2 + (1 : Int32)) := ⟨_, rfl⟩
              refine lv_iinc (v := v14) (lv' := [(2, .int v14), (1, .int v11), (4, .int (5 : Int32)), (3, .int rz2), (0, .ref p0)]) hx hb d_A_readW_97 hl (k := 3) rfl (by rw [hv14]; rfl) (by decide) rfl (fun ls hl => ?_)
              refine lv_goto (tgt := 4) hx hb d_A_readW_100 (by decide) ?_
              exact ih v14 v11 x0_3z2 x0_4z2 x1_3z12 x1_6z2 x1_7z2 x1_8z2 H _ ls (lpu c1 hv14 hn4_52) (lpn hc4_52 c1 hv14) hP hD hS (lv_sub hl [0, 1, 4] rfl)
            · refine lv_iload_n hx hb d_A_readW_95 rfl (lv_at hl 0 rfl) ?_
              exact W.iret (v := v11) hx hb hr (fun t ht hW => ⟨⟨v11, (), rfl, trivial, ⟨x0_3z2, x0_4z2, x1_3z12, x1_6z2, x1_7z2, x1_8z2, by show va_P D classes _ t.heap; rw [ht]; exact hP, hD⟩⟩, hS.F ht⟩) hS.2.2 d_A_readW_96
          · refine lv_aload_n hx hb d_A_readW_38 rfl (lv_at hl 4 rfl) ?_
            refine sn_i (va_runV (C := "SignMachine$Assembler") (As := []) (rest := []) ⟨hx, hb, hml, hown, hk⟩ (c_A_readExp_s1 l K D cI cJ cZ cB p0 p1 p2 p3 p4 p5 p6 p7 p8 p9 p10 p11 p12 p13 p14 p15 H.size x0_3z2 x0_4z2 x0_5 x0_6 x0_7 x0_8 x0_9 x0_10 x0_11 x0_12 x0_13 x0_14 x1_1 x1_2 x1_3z6 x1_4 x1_5 x1_6z2 x1_7z2 x1_8z2 y2 x3_5 x3_6 y4 y5 y6 y7 y8 x9_6 y10 y11 y12 y13 y14 y15   ) (v_A_readExp_s1 hk k_989 ⟨Nat.le_of_ble_eq_true rfl, Nat.le_of_ble_eq_true rfl⟩) (pMC_v hK hP hD hC hS hA (ci := 3) (q0 := 0) rfl rfl rfl) rfl rfl hl.1 rfl (lv_room (Nat.le_of_ble_eq_true rfl)) d_A_readW_39 ⟨by decide, by decide⟩) hS hA hD (fun rz15 u t H locs hr0 ht hB hFr hS => ?_)
            obtain ⟨x0_3z15, x0_4z15, x1_3z15, x1_6z15, x1_7z15, x1_8z15, hP, hD⟩ := hB
            rw [ht] at hP
            have hD := dwk hD hFr
            clear ht hFr
            have hP : va_P D classes (wS52 K cI cJ cZ cB p0 p1 p2 p3 p4 p5 p6 p7 p8 p9 p10 p11 p12 p13 p14 p15 x0_3z15 x0_4z15 x0_5 x0_6 x0_7 x0_8 x0_9 x0_10 x0_11 x0_12 x0_13 x0_14 x1_1 x1_2 x1_3z15 x1_4 x1_5 x1_6z15 x1_7z15 x1_8z15 y2 x3_5 x3_6 y4 y5 y6 y7 y8 x9_6 y10 y11 y12 y13 y14 y15) H := hP
            have hD : va_D A (wS52 K cI cJ cZ cB p0 p1 p2 p3 p4 p5 p6 p7 p8 p9 p10 p11 p12 p13 p14 p15 x0_3z15 x0_4z15 x0_5 x0_6 x0_7 x0_8 x0_9 x0_10 x0_11 x0_12 x0_13 x0_14 x1_1 x1_2 x1_3z15 x1_4 x1_5 x1_6z15 x1_7z15 x1_8z15 y2 x3_5 x3_6 y4 y5 y6 y7 y8 x9_6 y10 y11 y12 y13 y14 y15) := hD
            refine lv_istore (lv' := [(4, .int rz15), (3, .int rz2), (2, .int l2), (1, .int l1), (0, .ref p0)]) hx hb d_A_readW_42 hl (by decide) rfl (fun ls hl => ?_)
            refine lv_aload_n hx hb d_A_readW_44 rfl (lv_at hl 4 rfl) ?_
            refine kn_v (va_runV (C := "SignMachine$Assembler") (As := []) (rest := []) ⟨hx, hb, hml, hown, hk⟩ (c_A_expectBracket_s1 l K D cI cJ cZ cB p0 p1 p2 p3 p4 p5 p6 p7 p8 p9 p10 p11 p12 p13 p14 p15 H.size x0_3z15 x0_4z15 x0_5 x0_6 x0_7 x0_8 x0_9 x0_10 x0_11 x0_12 x0_13 x0_14 x1_1 x1_2 x1_3z15 x1_4 x1_5 x1_6z15 x1_7z15 x1_8z15 y2 x3_5 x3_6 y4 y5 y6 y7 y8 x9_6 y10 y11 y12 y13 y14 y15   ) (v_A_expectBracket_s1 hk k_1021 ⟨Nat.le_of_ble_eq_true rfl, Nat.le_of_ble_eq_true rfl⟩) (pMC_v hK hP hD hC hS hA (ci := 3) (q0 := 0) rfl rfl rfl) rfl rfl hl.1 rfl (lv_room (Nat.le_of_ble_eq_true rfl)) d_A_readW_45 ⟨by decide, by decide⟩) hS hA hD (fun u t H locs ht hB hFr hS => ?_)
            obtain ⟨x0_3z16, x0_4z16, x1_3z16, hP, hD⟩ := hB
            rw [ht] at hP
            have hD := dwk hD hFr
            clear ht hFr
            have hP : va_P D classes (wS52 K cI cJ cZ cB p0 p1 p2 p3 p4 p5 p6 p7 p8 p9 p10 p11 p12 p13 p14 p15 x0_3z16 x0_4z16 x0_5 x0_6 x0_7 x0_8 x0_9 x0_10 x0_11 x0_12 x0_13 x0_14 x1_1 x1_2 x1_3z16 x1_4 x1_5 x1_6z15 x1_7z15 x1_8z15 y2 x3_5 x3_6 y4 y5 y6 y7 y8 x9_6 y10 y11 y12 y13 y14 y15) H := hP
            have hD : va_D A (wS52 K cI cJ cZ cB p0 p1 p2 p3 p4 p5 p6 p7 p8 p9 p10 p11 p12 p13 p14 p15 x0_3z16 x0_4z16 x0_5 x0_6 x0_7 x0_8 x0_9 x0_10 x0_11 x0_12 x0_13 x0_14 x1_1 x1_2 x1_3z16 x1_4 x1_5 x1_6z15 x1_7z15 x1_8z15 y2 x3_5 x3_6 y4 y5 y6 y7 y8 x9_6 y10 y11 y12 y13 y14 y15) := hD
            refine lv_iload hx hb d_A_readW_48 (lv_at hl 0 rfl) ?_
            refine cs_i (W.runS (As := [.int rz15]) (rest := []) ⟨hx, hb, hml, hown, hk⟩ (c_W_isField l rz15) (s_W_isField hk k_1025 ⟨Nat.le_of_ble_eq_true rfl, Nat.le_of_ble_eq_true rfl⟩) ⟨fun a U g mk q => q, fun U hU hW => ⟨rfl, trivial⟩⟩ rfl rfl hl.1 rfl (lv_room (Nat.le_of_ble_eq_true rfl)) d_A_readW_50 ⟨Nat.le_of_ble_eq_true rfl, Nat.le_of_ble_eq_true rfl⟩) ?_
            obtain ⟨z17, hz17⟩ : ∃ y : Bool, y = (f_W_isField rz15) := ⟨_, rfl⟩
            rw [← hz17]
            refine lv_if_ne (tgt := 62) hx hb d_A_readW_53 (by decide) (fun c18 => ?_) (fun c18 => ?_)
            · refine lv_aload_n hx hb d_A_readW_62 rfl (lv_at hl 4 rfl) ?_
              refine va_get (D := D) (ci := 3) (v := .int x0_3z16) (C := "SignMachine$Assembler") (T := F_A) (N := 15) hx hb hk fi_A hown hK.1 hP 0 rfl rfl 3 (by decide) (hk _ k_636) (fun _ h9 => h9) rfl d_A_readW_63 ?_
              refine lv_if_eq (tgt := 71) hx hb d_A_readW_66 (by decide) (fun c19 => ?_) (fun c19 => ?_)
              · refine lv_iload_n hx hb d_A_readW_71 rfl (lv_at hl 3 rfl) ?_
                refine lv_iload_n hx hb d_A_readW_72 rfl (lv_at hl 1 rfl) ?_
                refine lv_iconst (v := 0) hx hb d_A_readW_73 (by decide) ?_
                refine cs_i (W.runS (As := [.int rz2, .int (0 : Int32)]) (rest := [.int l1]) ⟨hx, hb, hml, hown, hk⟩ (c_W_of l rz2 (0 : Int32)) (s_W_of hk k_1026 ⟨Nat.le_of_ble_eq_true rfl, Nat.le_of_ble_eq_true rfl⟩) ⟨fun a U g mk q => q, fun U hU hW => ⟨rfl, trivial⟩⟩ rfl rfl hl.1 rfl (lv_room (Nat.le_of_ble_eq_true rfl)) d_A_readW_74 ⟨Nat.le_of_ble_eq_true rfl, Nat.le_of_ble_eq_true rfl⟩) ?_
                refine lv_topi (fun v20 hv20 => ?_)
                refine lv_iload hx hb d_A_readW_77 (lv_at hl 0 rfl) ?_
                refine cs_i (W.runS (As := [.int l1, .int v20, .int rz15]) (rest := []) ⟨hx, hb, hml, hown, hk⟩ (c_W_store l l1 v20 rz15) (s_W_store hk k_1027 ⟨Nat.le_of_ble_eq_true rfl, Nat.le_of_ble_eq_true rfl⟩) ⟨fun a U g mk q => q, fun U hU hW => ⟨rfl, trivial⟩⟩ rfl rfl hl.1 rfl (lv_room (Nat.le_of_ble_eq_true rfl)) d_A_readW_79 ⟨Nat.le_of_ble_eq_true rfl, Nat.le_of_ble_eq_true rfl⟩) ?_
                refine lv_topi (fun v21 hv21 => ?_)
                refine lv_istore_n (lv' := [(1, .int v21), (4, .int rz15), (3, .int rz2), (2, .int l2), (0, .ref p0)]) hx hb d_A_readW_82 rfl hl (by decide) rfl (fun ls hl => ?_)
                refine lv_aload_n hx hb d_A_readW_83 rfl (lv_at hl 4 rfl) ?_
                refine va_get (D := D) (ci := 3) (v := .ref p1) (C := "SignMachine$Assembler") (T := F_A) (N := 15) hx hb hk fi_A hown hK.1 hP 0 rfl rfl 0 (by decide) (hk _ k_631) (fun _ h9 => h9) rfl d_A_readW_84 ?_
                refine lv_bipush (v := 44) hx hb d_A_readW_87 (by decide) ?_
                refine sn_i (va_runV (C := "SignMachine$Source") (As := [.int (44 : Int32)]) (rest := []) ⟨hx, hb, hml, hown, hk⟩ (c_R_takes_s1 l K D cI cJ cZ cB p0 p1 p2 p3 p4 p5 p6 p7 p8 p9 p10 p11 p12 p13 p14 p15 H.size x0_3z16 x0_4z16 x0_5 x0_6 x0_7 x0_8 x0_9 x0_10 x0_11 x0_12 x0_13 x0_14 x1_1 x1_2 x1_3z16 x1_4 x1_5 x1_6z15 x1_7z15 x1_8z15 y2 x3_5 x3_6 y4 y5 y6 y7 y8 x9_6 y10 y11 y12 y13 y14 y15  (44 : Int32) ) (v_R_takes_s1 hk k_954 ⟨Nat.le_of_ble_eq_true rfl, Nat.le_of_ble_eq_true rfl⟩) (pMC_v hK hP hD hC hS hA (ci := 4) (q0 := 1) rfl rfl rfl) rfl rfl hl.1 rfl (lv_room (Nat.le_of_ble_eq_true rfl)) d_A_readW_89 ⟨by decide, by decide⟩) hS hA hD (fun rz22 u t H locs hr0 ht hB hFr hS => ?_)
                obtain ⟨z22, hz22⟩ := hr0
                subst hz22
                obtain ⟨x1_3z22, hP, hD⟩ := hB
                rw [ht] at hP
                have hD := dwk hD hFr
                clear ht hFr
                have hP : va_P D classes (wS52 K cI cJ cZ cB p0 p1 p2 p3 p4 p5 p6 p7 p8 p9 p10 p11 p12 p13 p14 p15 x0_3z16 x0_4z16 x0_5 x0_6 x0_7 x0_8 x0_9 x0_10 x0_11 x0_12 x0_13 x0_14 x1_1 x1_2 x1_3z22 x1_4 x1_5 x1_6z15 x1_7z15 x1_8z15 y2 x3_5 x3_6 y4 y5 y6 y7 y8 x9_6 y10 y11 y12 y13 y14 y15) H := hP
                have hD : va_D A (wS52 K cI cJ cZ cB p0 p1 p2 p3 p4 p5 p6 p7 p8 p9 p10 p11 p12 p13 p14 p15 x0_3z16 x0_4z16 x0_5 x0_6 x0_7 x0_8 x0_9 x0_10 x0_11 x0_12 x0_13 x0_14 x1_1 x1_2 x1_3z22 x1_4 x1_5 x1_6z15 x1_7z15 x1_8z15 y2 x3_5 x3_6 y4 y5 y6 y7 y8 x9_6 y10 y11 y12 y13 y14 y15) := hD
                refine lv_if_ne (tgt := 97) hx hb d_A_readW_92 (by decide) (fun c23 => ?_) (fun c23 => ?_)
                · obtain ⟨v24, hv24⟩ : ∃ y : Int32, y = (l2 + (1 : Int32)) := ⟨_, rfl⟩
                  refine lv_iinc (v := v24) (lv' := [(2, .int v24), (1, .int v21), (4, .int rz15), (3, .int rz2), (0, .ref p0)]) hx hb d_A_readW_97 hl (k := 3) rfl (by rw [hv24]; rfl) (by decide) rfl (fun ls hl => ?_)
                  refine lv_goto (tgt := 4) hx hb d_A_readW_100 (by decide) ?_
                  exact ih v24 v21 x0_3z16 x0_4z16 x1_3z22 x1_6z15 x1_7z15 x1_8z15 H _ ls (lpu c1 hv24 hn4_52) (lpn hc4_52 c1 hv24) hP hD hS (lv_sub hl [0, 1, 4] rfl)
                · refine lv_iload_n hx hb d_A_readW_95 rfl (lv_at hl 0 rfl) ?_
                  exact W.iret (v := v21) hx hb hr (fun t ht hW => ⟨⟨v21, (), rfl, trivial, ⟨x0_3z16, x0_4z16, x1_3z22, x1_6z15, x1_7z15, x1_8z15, by show va_P D classes _ t.heap; rw [ht]; exact hP, hD⟩⟩, hS.F ht⟩) hS.2.2 d_A_readW_96
              · refine lv_iconst (v := 0) hx hb d_A_readW_69 (by decide) ?_
                exact W.iret (v := (0 : Int32)) hx hb hr (fun t ht hW => ⟨⟨(0 : Int32), (), rfl, trivial, ⟨x0_3z16, x0_4z16, x1_3z16, x1_6z15, x1_7z15, x1_8z15, by show va_P D classes _ t.heap; rw [ht]; exact hP, hD⟩⟩, hS.F ht⟩) hS.2.2 d_A_readW_70
            · refine lv_aload_n hx hb d_A_readW_56 rfl (lv_at hl 4 rfl) ?_
              refine lv_iconst (v := 4) hx hb d_A_readW_57 (by decide) ?_
              refine sn_i (va_runV (C := "SignMachine$Assembler") (As := [.int (4 : Int32)]) (rest := []) ⟨hx, hb, hml, hown, hk⟩ (c_A_fail_s1 l K D cI cJ cZ cB p0 p1 p2 p3 p4 p5 p6 p7 p8 p9 p10 p11 p12 p13 p14 p15 H.size x0_3z16 x0_4z16 x0_5 x0_6 x0_7 x0_8 x0_9 x0_10 x0_11 x0_12 x0_13 x0_14 x1_1 x1_2 x1_3z16 x1_4 x1_5 x1_6z15 x1_7z15 x1_8z15 y2 x3_5 x3_6 y4 y5 y6 y7 y8 x9_6 y10 y11 y12 y13 y14 y15  (4 : Int32) ) (v_A_fail_s1 hk k_767 ⟨Nat.le_of_ble_eq_true rfl, Nat.le_of_ble_eq_true rfl⟩) (pMC_v hK hP hD hC hS hA (ci := 3) (q0 := 0) rfl rfl rfl) rfl rfl hl.1 rfl (lv_room (Nat.le_of_ble_eq_true rfl)) d_A_readW_58 ⟨by decide, by decide⟩) hS hA hD (fun rz25 u t H locs hr0 ht hB hFr hS => ?_)
              obtain ⟨x0_3z25, x0_4z25, hP, hD⟩ := hB
              rw [ht] at hP
              have hD := dwk hD hFr
              clear ht hFr
              have hP : va_P D classes (wS52 K cI cJ cZ cB p0 p1 p2 p3 p4 p5 p6 p7 p8 p9 p10 p11 p12 p13 p14 p15 x0_3z25 x0_4z25 x0_5 x0_6 x0_7 x0_8 x0_9 x0_10 x0_11 x0_12 x0_13 x0_14 x1_1 x1_2 x1_3z16 x1_4 x1_5 x1_6z15 x1_7z15 x1_8z15 y2 x3_5 x3_6 y4 y5 y6 y7 y8 x9_6 y10 y11 y12 y13 y14 y15) H := hP
              have hD : va_D A (wS52 K cI cJ cZ cB p0 p1 p2 p3 p4 p5 p6 p7 p8 p9 p10 p11 p12 p13 p14 p15 x0_3z25 x0_4z25 x0_5 x0_6 x0_7 x0_8 x0_9 x0_10 x0_11 x0_12 x0_13 x0_14 x1_1 x1_2 x1_3z16 x1_4 x1_5 x1_6z15 x1_7z15 x1_8z15 y2 x3_5 x3_6 y4 y5 y6 y7 y8 x9_6 y10 y11 y12 y13 y14 y15) := hD
              refine lv_pop hx hb d_A_readW_61 rfl ?_
              refine lv_aload_n hx hb d_A_readW_62 rfl (lv_at hl 4 rfl) ?_
              refine va_get (D := D) (ci := 3) (v := .int x0_3z25) (C := "SignMachine$Assembler") (T := F_A) (N := 15) hx hb hk fi_A hown hK.1 hP 0 rfl rfl 3 (by decide) (hk _ k_636) (fun _ h9 => h9) rfl d_A_readW_63 ?_
              refine lv_if_eq (tgt := 71) hx hb d_A_readW_66 (by decide) (fun c26 => ?_) (fun c26 => ?_)
              · refine lv_iload_n hx hb d_A_readW_71 rfl (lv_at hl 3 rfl) ?_
                refine lv_iload_n hx hb d_A_readW_72 rfl (lv_at hl 1 rfl) ?_
                refine lv_iconst (v := 0) hx hb d_A_readW_73 (by decide) ?_
                refine cs_i (W.runS (As := [.int rz2, .int (0 : Int32)]) (rest := [.int l1]) ⟨hx, hb, hml, hown, hk⟩ (c_W_of l rz2 (0 : Int32)) (s_W_of hk k_1026 ⟨Nat.le_of_ble_eq_true rfl, Nat.le_of_ble_eq_true rfl⟩) ⟨fun a U g mk q => q, fun U hU hW => ⟨rfl, trivial⟩⟩ rfl rfl hl.1 rfl (lv_room (Nat.le_of_ble_eq_true rfl)) d_A_readW_74 ⟨Nat.le_of_ble_eq_true rfl, Nat.le_of_ble_eq_true rfl⟩) ?_
                refine lv_topi (fun v27 hv27 => ?_)
                refine lv_iload hx hb d_A_readW_77 (lv_at hl 0 rfl) ?_
                refine cs_i (W.runS (As := [.int l1, .int v27, .int rz15]) (rest := []) ⟨hx, hb, hml, hown, hk⟩ (c_W_store l l1 v27 rz15) (s_W_store hk k_1027 ⟨Nat.le_of_ble_eq_true rfl, Nat.le_of_ble_eq_true rfl⟩) ⟨fun a U g mk q => q, fun U hU hW => ⟨rfl, trivial⟩⟩ rfl rfl hl.1 rfl (lv_room (Nat.le_of_ble_eq_true rfl)) d_A_readW_79 ⟨Nat.le_of_ble_eq_true rfl, Nat.le_of_ble_eq_true rfl⟩) ?_
                refine lv_topi (fun v28 hv28 => ?_)
                refine lv_istore_n (lv' := [(1, .int v28), (4, .int rz15), (3, .int rz2), (2, .int l2), (0, .ref p0)]) hx hb d_A_readW_82 rfl hl (by decide) rfl (fun ls hl => ?_)
                refine lv_aload_n hx hb d_A_readW_83 rfl (lv_at hl 4 rfl) ?_
                refine va_get (D := D) (ci := 3) (v := .ref p1) (C := "SignMachine$Assembler") (T := F_A) (N := 15) hx hb hk fi_A hown hK.1 hP 0 rfl rfl 0 (by decide) (hk _ k_631) (fun _ h9 => h9) rfl d_A_readW_84 ?_
                refine lv_bipush (v := 44) hx hb d_A_readW_87 (by decide) ?_
                refine sn_i (va_runV (C := "SignMachine$Source") (As := [.int (44 : Int32)]) (rest := []) ⟨hx, hb, hml, hown, hk⟩ (c_R_takes_s1 l K D cI cJ cZ cB p0 p1 p2 p3 p4 p5 p6 p7 p8 p9 p10 p11 p12 p13 p14 p15 H.size x0_3z25 x0_4z25 x0_5 x0_6 x0_7 x0_8 x0_9 x0_10 x0_11 x0_12 x0_13 x0_14 x1_1 x1_2 x1_3z16 x1_4 x1_5 x1_6z15 x1_7z15 x1_8z15 y2 x3_5 x3_6 y4 y5 y6 y7 y8 x9_6 y10 y11 y12 y13 y14 y15  (44 : Int32) ) (v_R_takes_s1 hk k_954 ⟨Nat.le_of_ble_eq_true rfl, Nat.le_of_ble_eq_true rfl⟩) (pMC_v hK hP hD hC hS hA (ci := 4) (q0 := 1) rfl rfl rfl) rfl rfl hl.1 rfl (lv_room (Nat.le_of_ble_eq_true rfl)) d_A_readW_89 ⟨by decide, by decide⟩) hS hA hD (fun rz29 u t H locs hr0 ht hB hFr hS => ?_)
                obtain ⟨z29, hz29⟩ := hr0
                subst hz29
                obtain ⟨x1_3z29, hP, hD⟩ := hB
                rw [ht] at hP
                have hD := dwk hD hFr
                clear ht hFr
                have hP : va_P D classes (wS52 K cI cJ cZ cB p0 p1 p2 p3 p4 p5 p6 p7 p8 p9 p10 p11 p12 p13 p14 p15 x0_3z25 x0_4z25 x0_5 x0_6 x0_7 x0_8 x0_9 x0_10 x0_11 x0_12 x0_13 x0_14 x1_1 x1_2 x1_3z29 x1_4 x1_5 x1_6z15 x1_7z15 x1_8z15 y2 x3_5 x3_6 y4 y5 y6 y7 y8 x9_6 y10 y11 y12 y13 y14 y15) H := hP
                have hD : va_D A (wS52 K cI cJ cZ cB p0 p1 p2 p3 p4 p5 p6 p7 p8 p9 p10 p11 p12 p13 p14 p15 x0_3z25 x0_4z25 x0_5 x0_6 x0_7 x0_8 x0_9 x0_10 x0_11 x0_12 x0_13 x0_14 x1_1 x1_2 x1_3z29 x1_4 x1_5 x1_6z15 x1_7z15 x1_8z15 y2 x3_5 x3_6 y4 y5 y6 y7 y8 x9_6 y10 y11 y12 y13 y14 y15) := hD
                refine lv_if_ne (tgt := 97) hx hb d_A_readW_92 (by decide) (fun c30 => ?_) (fun c30 => ?_)
                · obtain ⟨v31, hv31⟩ : ∃ y : Int32, y = (l2 + (1 : Int32)) := ⟨_, rfl⟩
                  refine lv_iinc (v := v31) (lv' := [(2, .int v31), (1, .int v28), (4, .int rz15), (3, .int rz2), (0, .ref p0)]) hx hb d_A_readW_97 hl (k := 3) rfl (by rw [hv31]; rfl) (by decide) rfl (fun ls hl => ?_)
                  refine lv_goto (tgt := 4) hx hb d_A_readW_100 (by decide) ?_
                  exact ih v31 v28 x0_3z25 x0_4z25 x1_3z29 x1_6z15 x1_7z15 x1_8z15 H _ ls (lpu c1 hv31 hn4_52) (lpn hc4_52 c1 hv31) hP hD hS (lv_sub hl [0, 1, 4] rfl)
                · refine lv_iload_n hx hb d_A_readW_95 rfl (lv_at hl 0 rfl) ?_
                  exact W.iret (v := v28) hx hb hr (fun t ht hW => ⟨⟨v28, (), rfl, trivial, ⟨x0_3z25, x0_4z25, x1_3z29, x1_6z15, x1_7z15, x1_8z15, by show va_P D classes _ t.heap; rw [ht]; exact hP, hD⟩⟩, hS.F ht⟩) hS.2.2 d_A_readW_96
              · refine lv_iconst (v := 0) hx hb d_A_readW_69 (by decide) ?_
                exact W.iret (v := (0 : Int32)) hx hb hr (fun t ht hW => ⟨⟨(0 : Int32), (), rfl, trivial, ⟨x0_3z25, x0_4z25, x1_3z16, x1_6z15, x1_7z15, x1_8z15, by show va_P D classes _ t.heap; rw [ht]; exact hP, hD⟩⟩, hS.F ht⟩) hS.2.2 d_A_readW_70
  exact LP4_52 _ (0 : Int32) (0 : Int32) x0_3 x0_4 x1_3 x1_6 x1_7 x1_8 s.heap _ ls (Nat.lt_succ_self _) (by decide) hP hD hS hl
theorem v_A_readW_s1 {R : Room} {s : State} {args : Array Value} {own : String} {index : Nat} (hk : ∀ w ∈ tb, w.before args s = true) (hl : Cond.methodLink own index y_A_readW ∈ tb) (hR : 3 + 1 ≤ R.frames ∧ 8 + (5 + 11) + 74 ≤ R.locals) : CallW R s args own "SignMachine$Assembler" index y_A_readW b_A_readW 5 (some .int) (.code y_A_readW b_A_readW 5 (some .int) :: tb) ({ frames := 3, cells := 0, slots := 0, locals := 74 }) 0 0 0 := mk_v 0 hk k_988 hl k_987 k_47 k_123 rfl rfl h_A_readW hR
set_option maxHeartbeats 4000000 in
set_option maxRecDepth 100000 in
theorem c_A_expectEnd_s1 (l : Launch) (K : CK) (D : va_G) (cI cJ cZ cB : ClassId) (p0 p1 p2 p3 p4 p5 p6 p7 p8 p9 p10 p11 p12 p13 p14 p15 : Nat) (sz : Nat) (x0_3 : Int32) (x0_4 : Int32) (x0_5 : Int32) (x0_6 : Int32) (x0_7 : Int32) (x0_8 : Bool) (x0_9 : Int64) (x0_10 : Int32) (x0_11 : Option (Fin 51)) (x0_12 : Int32) (x0_13 : Int32) (x0_14 : Int32) (x1_1 : Int32) (x1_2 : Int32) (x1_3 : Int32) (x1_4 : Int32) (x1_5 : Int32) (x1_6 : Int32) (x1_7 : Int64) (x1_8 : Int32) (y2 : Nat → Int32) (x3_5 : Int32) (x3_6 : Int32) (y4 : Nat → Int64) (y5 : Nat → Int32) (y6 : Nat → Int32) (y7 : Nat → Int32) (y8 : Nat → Int32) (x9_6 : Int32) (y10 : Nat → Int32) (y11 : Nat → Int32) (y12 : Nat → Int32) (y13 : Nat → Int32) (y14 : Nat → Int32) (y15 : Nat → Int32)   : Met l y_A_expectEnd (.code y_A_expectEnd b_A_expectEnd 2 none :: tb) ({ frames := 1, cells := 0, slots := 0, locals := 21 }) (pMC K D cI cJ cZ cB (wS52 K cI cJ cZ cB p0 p1 p2 p3 p4 p5 p6 p7 p8 p9 p10 p11 p12 p13 p14 p15 x0_3 x0_4 x0_5 x0_6 x0_7 x0_8 x0_9 x0_10 x0_11 x0_12 x0_13 x0_14 x1_1 x1_2 x1_3 x1_4 x1_5 x1_6 x1_7 x1_8 y2 x3_5 x3_6 y4 y5 y6 y7 y8 x9_6 y10 y11 y12 y13 y14 y15) sz [.ref p0]) (va_Qv (fun (_ : Unit) => True) (fun _ t => (∃ u_x0_3 : Int32, ∃ u_x0_4 : Int32, va_P D classes (wS52 K cI cJ cZ cB p0 p1 p2 p3 p4 p5 p6 p7 p8 p9 p10 p11 p12 p13 p14 p15 u_x0_3 u_x0_4 x0_5 x0_6 x0_7 x0_8 x0_9 x0_10 x0_11 x0_12 x0_13 x0_14 x1_1 x1_2 x1_3 x1_4 x1_5 x1_6 x1_7 x1_8 y2 x3_5 x3_6 y4 y5 y6 y7 y8 x9_6 y10 y11 y12 y13 y14 y15) t.heap ∧ va_D (va_A (wS52 K cI cJ cZ cB p0 p1 p2 p3 p4 p5 p6 p7 p8 p9 p10 p11 p12 p13 p14 p15 x0_3 x0_4 x0_5 x0_6 x0_7 x0_8 x0_9 x0_10 x0_11 x0_12 x0_13 x0_14 x1_1 x1_2 x1_3 x1_4 x1_5 x1_6 x1_7 x1_8 y2 x3_5 x3_6 y4 y5 y6 y7 y8 x9_6 y10 y11 y12 y13 y14 y15) sz) (wS52 K cI cJ cZ cB p0 p1 p2 p3 p4 p5 p6 p7 p8 p9 p10 p11 p12 p13 p14 p15 u_x0_3 u_x0_4 x0_5 x0_6 x0_7 x0_8 x0_9 x0_10 x0_11 x0_12 x0_13 x0_14 x1_1 x1_2 x1_3 x1_4 x1_5 x1_6 x1_7 x1_8 y2 x3_5 x3_6 y4 y5 y6 y7 y8 x9_6 y10 y11 y12 y13 y14 y15))) (va_A (wS52 K cI cJ cZ cB p0 p1 p2 p3 p4 p5 p6 p7 p8 p9 p10 p11 p12 p13 p14 p15 x0_3 x0_4 x0_5 x0_6 x0_7 x0_8 x0_9 x0_10 x0_11 x0_12 x0_13 x0_14 x1_1 x1_2 x1_3 x1_4 x1_5 x1_6 x1_7 x1_8 y2 x3_5 x3_6 y4 y5 y6 y7 y8 x9_6 y10 y11 y12 y13 y14 y15) sz)) 0 0 (va_A (wS52 K cI cJ cZ cB p0 p1 p2 p3 p4 p5 p6 p7 p8 p9 p10 p11 p12 p13 p14 p15 x0_3 x0_4 x0_5 x0_6 x0_7 x0_8 x0_9 x0_10 x0_11 x0_12 x0_13 x0_14 x1_1 x1_2 x1_3 x1_4 x1_5 x1_6 x1_7 x1_8 y2 x3_5 x3_6 y4 y5 y6 y7 y8 x9_6 y10 y11 y12 y13 y14 y15) sz) := by
  refine Met.ofW (cc := b_A_expectEnd) (maxL := 2) (ret := none) (by decide) rfl ?_
  intro p e s m args below meth c s₁ B hml hv
  obtain ⟨rfl, hsz, hK, hP, hD0, hC⟩ := hv
  subst hsz
  have hD := hD0.self (sz := s.heap.size)
  generalize hAe : va_A (wS52 K cI cJ cZ cB p0 p1 p2 p3 p4 p5 p6 p7 p8 p9 p10 p11 p12 p13 p14 p15 x0_3 x0_4 x0_5 x0_6 x0_7 x0_8 x0_9 x0_10 x0_11 x0_12 x0_13 x0_14 x1_1 x1_2 x1_3 x1_4 x1_5 x1_6 x1_7 x1_8 y2 x3_5 x3_6 y4 y5 y6 y7 y8 x9_6 y10 y11 y12 y13 y14 y15) s.heap.size = A at hD hC ⊢
  have hA : ∀ q : Nat, s.heap.size ≤ q → A q := fun q h => by rw [← hAe]; exact Or.inr h
  clear hAe hD0
  have hS : va_S A s.heap s.heap [] := va_S.rf
  have hx := B.exec
  have hb := B.bytes
  have hr := B.returns
  have hts := atoms_spec (ws := .code y_A_expectEnd b_A_expectEnd 2 none :: tb) B.pre
  have hk : ∀ w ∈ tb, w.before [.ref p0].toArray s = true := fun w h => hts w (List.mem_cons_of_mem _ h)
  have hown : s.vm.findClass "SignMachine$Assembler" = some m.cls := findClass_of_methodNamed B.named
  have hlocks := B.notSynchronized
  have hl := lv_entry ([.ref p0]) (n := 2) (Nat.le_of_ble_eq_true rfl)
  rw [lg_entry_eq]
  generalize (lg_sl ([.ref p0]) ++ List.replicate (2 - (lg_sl ([.ref p0])).length) Slot.unset).toArray = ls at hl ⊢
  have hl : lv_has ls 2 [(0, .ref p0)] := hl
  refine lv_aload_n hx hb d_A_expectEnd_0 rfl (lv_at hl 0 rfl) ?_
  refine va_get (D := D) (ci := 3) (v := .ref p1) (C := "SignMachine$Assembler") (T := F_A) (N := 15) hx hb hk fi_A hown hK.1 hP 0 rfl rfl 0 (by decide) (hk _ k_631) (fun _ h9 => h9) rfl d_A_expectEnd_1 ?_
  refine sn_i (va_runV (C := "SignMachine$Source") (As := []) (rest := []) ⟨hx, hb, hml, hown, hk⟩ (c_R_peek_s1 l K D cI cJ cZ cB p0 p1 p2 p3 p4 p5 p6 p7 p8 p9 p10 p11 p12 p13 p14 p15 s.heap.size x0_3 x0_4 x0_5 x0_6 x0_7 x0_8 x0_9 x0_10 x0_11 x0_12 x0_13 x0_14 x1_1 x1_2 x1_3 x1_4 x1_5 x1_6 x1_7 x1_8 y2 x3_5 x3_6 y4 y5 y6 y7 y8 x9_6 y10 y11 y12 y13 y14 y15   ) (v_R_peek_s1 hk k_739 ⟨Nat.le_of_ble_eq_true rfl, Nat.le_of_ble_eq_true rfl⟩) (pMC_v hK hP hD hC hS hA (ci := 4) (q0 := 1) rfl rfl rfl) rfl rfl hl.1 rfl (lv_room (Nat.le_of_ble_eq_true rfl)) d_A_expectEnd_4 ⟨by decide, by decide⟩) hS hA hD (fun rz1 u t H locs hr0 ht hB hFr hS => ?_)
  obtain ⟨hP, hD⟩ := hB
  rw [ht] at hP
  have hD := dwk hD hFr
  clear ht hFr
  have hP : va_P D classes (wS52 K cI cJ cZ cB p0 p1 p2 p3 p4 p5 p6 p7 p8 p9 p10 p11 p12 p13 p14 p15 x0_3 x0_4 x0_5 x0_6 x0_7 x0_8 x0_9 x0_10 x0_11 x0_12 x0_13 x0_14 x1_1 x1_2 x1_3 x1_4 x1_5 x1_6 x1_7 x1_8 y2 x3_5 x3_6 y4 y5 y6 y7 y8 x9_6 y10 y11 y12 y13 y14 y15) H := hP
  have hD : va_D A (wS52 K cI cJ cZ cB p0 p1 p2 p3 p4 p5 p6 p7 p8 p9 p10 p11 p12 p13 p14 p15 x0_3 x0_4 x0_5 x0_6 x0_7 x0_8 x0_9 x0_10 x0_11 x0_12 x0_13 x0_14 x1_1 x1_2 x1_3 x1_4 x1_5 x1_6 x1_7 x1_8 y2 x3_5 x3_6 y4 y5 y6 y7 y8 x9_6 y10 y11 y12 y13 y14 y15) := hD
  refine lv_istore_n (lv' := [(1, .int rz1), (0, .ref p0)]) hx hb d_A_expectEnd_7 rfl hl (by decide) rfl (fun ls hl => ?_)
  refine lv_iload_n hx hb d_A_expectEnd_8 rfl (lv_at hl 0 rfl) ?_
  refine lv_iconst (v := (-1)) hx hb d_A_expectEnd_9 (by decide) ?_
  refine lv_icmp_eq (tgt := 25) hx hb d_A_expectEnd_10 (by decide) (fun c2 => ?_) (fun c2 => ?_)
  · exact W.vret hx hb hr (fun t ht hW => ⟨⟨(), rfl, trivial, ⟨x0_3, x0_4, by show va_P D classes _ t.heap; rw [ht]; exact hP, hD⟩⟩, hS.F ht⟩) hS.2.2 d_A_expectEnd_25
  · refine lv_iload_n hx hb d_A_expectEnd_13 rfl (lv_at hl 0 rfl) ?_
    refine lv_bipush (v := 32) hx hb d_A_expectEnd_14 (by decide) ?_
    refine lv_icmp_eq (tgt := 25) hx hb d_A_expectEnd_16 (by decide) (fun c3 => ?_) (fun c3 => ?_)
    · exact W.vret hx hb hr (fun t ht hW => ⟨⟨(), rfl, trivial, ⟨x0_3, x0_4, by show va_P D classes _ t.heap; rw [ht]; exact hP, hD⟩⟩, hS.F ht⟩) hS.2.2 d_A_expectEnd_25
    · refine lv_aload_n hx hb d_A_expectEnd_19 rfl (lv_at hl 1 rfl) ?_
      refine lv_iconst (v := 1) hx hb d_A_expectEnd_20 (by decide) ?_
      refine sn_i (va_runV (C := "SignMachine$Assembler") (As := [.int (1 : Int32)]) (rest := []) ⟨hx, hb, hml, hown, hk⟩ (c_A_fail_s1 l K D cI cJ cZ cB p0 p1 p2 p3 p4 p5 p6 p7 p8 p9 p10 p11 p12 p13 p14 p15 H.size x0_3 x0_4 x0_5 x0_6 x0_7 x0_8 x0_9 x0_10 x0_11 x0_12 x0_13 x0_14 x1_1 x1_2 x1_3 x1_4 x1_5 x1_6 x1_7 x1_8 y2 x3_5 x3_6 y4 y5 y6 y7 y8 x9_6 y10 y11 y12 y13 y14 y15  (1 : Int32) ) (v_A_fail_s1 hk k_767 ⟨Nat.le_of_ble_eq_true rfl, Nat.le_of_ble_eq_true rfl⟩) (pMC_v hK hP hD hC hS hA (ci := 3) (q0 := 0) rfl rfl rfl) rfl rfl hl.1 rfl (lv_room (Nat.le_of_ble_eq_true rfl)) d_A_expectEnd_21 ⟨by decide, by decide⟩) hS hA hD (fun rz4 u t H locs hr0 ht hB hFr hS => ?_)
      obtain ⟨x0_3z4, x0_4z4, hP, hD⟩ := hB
      rw [ht] at hP
      have hD := dwk hD hFr
      clear ht hFr
      have hP : va_P D classes (wS52 K cI cJ cZ cB p0 p1 p2 p3 p4 p5 p6 p7 p8 p9 p10 p11 p12 p13 p14 p15 x0_3z4 x0_4z4 x0_5 x0_6 x0_7 x0_8 x0_9 x0_10 x0_11 x0_12 x0_13 x0_14 x1_1 x1_2 x1_3 x1_4 x1_5 x1_6 x1_7 x1_8 y2 x3_5 x3_6 y4 y5 y6 y7 y8 x9_6 y10 y11 y12 y13 y14 y15) H := hP
      have hD : va_D A (wS52 K cI cJ cZ cB p0 p1 p2 p3 p4 p5 p6 p7 p8 p9 p10 p11 p12 p13 p14 p15 x0_3z4 x0_4z4 x0_5 x0_6 x0_7 x0_8 x0_9 x0_10 x0_11 x0_12 x0_13 x0_14 x1_1 x1_2 x1_3 x1_4 x1_5 x1_6 x1_7 x1_8 y2 x3_5 x3_6 y4 y5 y6 y7 y8 x9_6 y10 y11 y12 y13 y14 y15) := hD
      refine lv_pop hx hb d_A_expectEnd_24 rfl ?_
      exact W.vret hx hb hr (fun t ht hW => ⟨⟨(), rfl, trivial, ⟨x0_3z4, x0_4z4, by show va_P D classes _ t.heap; rw [ht]; exact hP, hD⟩⟩, hS.F ht⟩) hS.2.2 d_A_expectEnd_25
theorem v_A_expectEnd_s1 {R : Room} {s : State} {args : Array Value} {own : String} {index : Nat} (hk : ∀ w ∈ tb, w.before args s = true) (hl : Cond.methodLink own index y_A_expectEnd ∈ tb) (hR : 1 + 1 ≤ R.frames ∧ 8 + (2 + 11) + 21 ≤ R.locals) : CallW R s args own "SignMachine$Assembler" index y_A_expectEnd b_A_expectEnd 2 none (.code y_A_expectEnd b_A_expectEnd 2 none :: tb) ({ frames := 1, cells := 0, slots := 0, locals := 21 }) 0 0 0 := mk_v 0 hk k_1047 hl k_1046 k_55 k_123 rfl rfl h_A_expectEnd hR
set_option maxHeartbeats 4000000 in
set_option maxRecDepth 100000 in
theorem c_O_add_s1 (l : Launch) (K : CK) (D : va_G) (cI cJ cZ cB : ClassId) (p0 p1 p2 p3 p4 p5 p6 p7 p8 p9 p10 p11 p12 p13 p14 p15 : Nat) (sz : Nat) (x0_3 : Int32) (x0_4 : Int32) (x0_5 : Int32) (x0_6 : Int32) (x0_7 : Int32) (x0_8 : Bool) (x0_9 : Int64) (x0_10 : Int32) (x0_11 : Option (Fin 51)) (x0_12 : Int32) (x0_13 : Int32) (x0_14 : Int32) (x1_1 : Int32) (x1_2 : Int32) (x1_3 : Int32) (x1_4 : Int32) (x1_5 : Int32) (x1_6 : Int32) (x1_7 : Int64) (x1_8 : Int32) (y2 : Nat → Int32) (x3_5 : Int32) (x3_6 : Int32) (y4 : Nat → Int64) (y5 : Nat → Int32) (y6 : Nat → Int32) (y7 : Nat → Int32) (y8 : Nat → Int32) (x9_6 : Int32) (y10 : Nat → Int32) (y11 : Nat → Int32) (y12 : Nat → Int32) (y13 : Nat → Int32) (y14 : Nat → Int32) (y15 : Nat → Int32)  (a1 : Int32) (a2 : Int32) (a3 : Int32) (a4 : Int32) (a5 : Int32) : Met l y_O_add (.code y_O_add b_O_add 6 none :: tb) ({ frames := 0, cells := 0, slots := 0, locals := 0 }) (pMC K D cI cJ cZ cB (wS52 K cI cJ cZ cB p0 p1 p2 p3 p4 p5 p6 p7 p8 p9 p10 p11 p12 p13 p14 p15 x0_3 x0_4 x0_5 x0_6 x0_7 x0_8 x0_9 x0_10 x0_11 x0_12 x0_13 x0_14 x1_1 x1_2 x1_3 x1_4 x1_5 x1_6 x1_7 x1_8 y2 x3_5 x3_6 y4 y5 y6 y7 y8 x9_6 y10 y11 y12 y13 y14 y15) sz [.ref p9, .int a1, .int a2, .int a3, .int a4, .int a5]) (va_Qv (fun (_ : Unit) => True) (fun _ t => (∃ u_x9_6 : Int32, ∃ u_y10 : Nat → Int32, ∃ u_y11 : Nat → Int32, ∃ u_y12 : Nat → Int32, ∃ u_y13 : Nat → Int32, ∃ u_y14 : Nat → Int32, ∃ u_y15 : Nat → Int32, va_P D classes (wS52 K cI cJ cZ cB p0 p1 p2 p3 p4 p5 p6 p7 p8 p9 p10 p11 p12 p13 p14 p15 x0_3 x0_4 x0_5 x0_6 x0_7 x0_8 x0_9 x0_10 x0_11 x0_12 x0_13 x0_14 x1_1 x1_2 x1_3 x1_4 x1_5 x1_6 x1_7 x1_8 y2 x3_5 x3_6 y4 y5 y6 y7 y8 u_x9_6 u_y10 u_y11 u_y12 u_y13 u_y14 u_y15) t.heap ∧ va_D (va_A (wS52 K cI cJ cZ cB p0 p1 p2 p3 p4 p5 p6 p7 p8 p9 p10 p11 p12 p13 p14 p15 x0_3 x0_4 x0_5 x0_6 x0_7 x0_8 x0_9 x0_10 x0_11 x0_12 x0_13 x0_14 x1_1 x1_2 x1_3 x1_4 x1_5 x1_6 x1_7 x1_8 y2 x3_5 x3_6 y4 y5 y6 y7 y8 x9_6 y10 y11 y12 y13 y14 y15) sz) (wS52 K cI cJ cZ cB p0 p1 p2 p3 p4 p5 p6 p7 p8 p9 p10 p11 p12 p13 p14 p15 x0_3 x0_4 x0_5 x0_6 x0_7 x0_8 x0_9 x0_10 x0_11 x0_12 x0_13 x0_14 x1_1 x1_2 x1_3 x1_4 x1_5 x1_6 x1_7 x1_8 y2 x3_5 x3_6 y4 y5 y6 y7 y8 u_x9_6 u_y10 u_y11 u_y12 u_y13 u_y14 u_y15))) (va_A (wS52 K cI cJ cZ cB p0 p1 p2 p3 p4 p5 p6 p7 p8 p9 p10 p11 p12 p13 p14 p15 x0_3 x0_4 x0_5 x0_6 x0_7 x0_8 x0_9 x0_10 x0_11 x0_12 x0_13 x0_14 x1_1 x1_2 x1_3 x1_4 x1_5 x1_6 x1_7 x1_8 y2 x3_5 x3_6 y4 y5 y6 y7 y8 x9_6 y10 y11 y12 y13 y14 y15) sz)) 0 0 (va_A (wS52 K cI cJ cZ cB p0 p1 p2 p3 p4 p5 p6 p7 p8 p9 p10 p11 p12 p13 p14 p15 x0_3 x0_4 x0_5 x0_6 x0_7 x0_8 x0_9 x0_10 x0_11 x0_12 x0_13 x0_14 x1_1 x1_2 x1_3 x1_4 x1_5 x1_6 x1_7 x1_8 y2 x3_5 x3_6 y4 y5 y6 y7 y8 x9_6 y10 y11 y12 y13 y14 y15) sz) := by
  refine Met.ofW (cc := b_O_add) (maxL := 6) (ret := none) (by decide) rfl ?_
  intro p e s m args below meth c s₁ B hml hv
  obtain ⟨rfl, hsz, hK, hP, hD0, hC⟩ := hv
  subst hsz
  have hD := hD0.self (sz := s.heap.size)
  generalize hAe : va_A (wS52 K cI cJ cZ cB p0 p1 p2 p3 p4 p5 p6 p7 p8 p9 p10 p11 p12 p13 p14 p15 x0_3 x0_4 x0_5 x0_6 x0_7 x0_8 x0_9 x0_10 x0_11 x0_12 x0_13 x0_14 x1_1 x1_2 x1_3 x1_4 x1_5 x1_6 x1_7 x1_8 y2 x3_5 x3_6 y4 y5 y6 y7 y8 x9_6 y10 y11 y12 y13 y14 y15) s.heap.size = A at hD hC ⊢
  have hA : ∀ q : Nat, s.heap.size ≤ q → A q := fun q h => by rw [← hAe]; exact Or.inr h
  clear hAe hD0
  have hS : va_S A s.heap s.heap [] := va_S.rf
  have hx := B.exec
  have hb := B.bytes
  have hr := B.returns
  have hts := atoms_spec (ws := .code y_O_add b_O_add 6 none :: tb) B.pre
  have hk : ∀ w ∈ tb, w.before [.ref p9, .int a1, .int a2, .int a3, .int a4, .int a5].toArray s = true := fun w h => hts w (List.mem_cons_of_mem _ h)
  have hown : s.vm.findClass "SignMachine$Output" = some m.cls := findClass_of_methodNamed B.named
  have hlocks := B.notSynchronized
  have hl := lv_entry ([.ref p9, .int a1, .int a2, .int a3, .int a4, .int a5]) (n := 6) (Nat.le_of_ble_eq_true rfl)
  rw [lg_entry_eq]
  generalize (lg_sl ([.ref p9, .int a1, .int a2, .int a3, .int a4, .int a5]) ++ List.replicate (6 - (lg_sl ([.ref p9, .int a1, .int a2, .int a3, .int a4, .int a5])).length) Slot.unset).toArray = ls at hl ⊢
  have hl : lv_has ls 6 [(0, .ref p9), (1, .int a1), (2, .int a2), (3, .int a3), (4, .int a4), (5, .int a5)] := hl
  refine lv_aload_n hx hb d_O_add_0 rfl (lv_at hl 0 rfl) ?_
  refine va_get (D := D) (ci := 6) (v := .int x9_6) (C := "SignMachine$Output") (T := F_O) (N := 7) hx hb hk fi_O hown hK.1 hP 9 rfl rfl 6 (by decide) (hk _ k_613) (fun _ h9 => h9) rfl d_O_add_1 ?_
  refine lv_if_lt (tgt := 17) hx hb d_O_add_4 (by decide) (fun c1 => ?_) (fun c1 => ?_)
  · exact W.vret hx hb hr (fun t ht hW => ⟨⟨(), rfl, trivial, ⟨x9_6, y10, y11, y12, y13, y14, y15, by show va_P D classes _ t.heap; rw [ht]; exact hP, hD⟩⟩, hS.F ht⟩) hS.2.2 d_O_add_17
  · refine lv_aload_n hx hb d_O_add_7 rfl (lv_at hl 0 rfl) ?_
    refine va_get (D := D) (ci := 6) (v := .int x9_6) (C := "SignMachine$Output") (T := F_O) (N := 7) hx hb hk fi_O hown hK.1 hP 9 rfl rfl 6 (by decide) (hk _ k_613) (fun _ h9 => h9) rfl d_O_add_8 ?_
    refine lv_sipush (v := 1101) hx hb d_O_add_11 (by decide) ?_
    refine lv_icmp_lt (tgt := 18) hx hb d_O_add_14 (by decide) (fun c2 => ?_) (fun c2 => ?_)
    · refine lv_aload_n hx hb d_O_add_18 rfl (lv_at hl 0 rfl) ?_
      refine va_get (D := D) (ci := 6) (v := .ref p10) (C := "SignMachine$Output") (T := F_O) (N := 7) hx hb hk fi_O hown hK.1 hP 9 rfl rfl 0 (by decide) (hk _ k_607) (fun _ h9 => h9) rfl d_O_add_19 ?_
      refine lv_aload_n hx hb d_O_add_22 rfl (lv_at hl 0 rfl) ?_
      refine va_get (D := D) (ci := 6) (v := .int x9_6) (C := "SignMachine$Output") (T := F_O) (N := 7) hx hb hk fi_O hown hK.1 hP 9 rfl rfl 6 (by decide) (hk _ k_613) (fun _ h9 => h9) rfl d_O_add_23 ?_
      refine lv_iload_n hx hb d_O_add_26 rfl (lv_at hl 1 rfl) ?_
      refine va_iast hx hb hK.1 hP hD hS 10 0 rfl rfl (vpin2 c1 c2 rfl) d_O_add_27 (fun H locs hP hD hS => ?_)
      have hP : va_P D classes (wS52 K cI cJ cZ cB p0 p1 p2 p3 p4 p5 p6 p7 p8 p9 p10 p11 p12 p13 p14 p15 x0_3 x0_4 x0_5 x0_6 x0_7 x0_8 x0_9 x0_10 x0_11 x0_12 x0_13 x0_14 x1_1 x1_2 x1_3 x1_4 x1_5 x1_6 x1_7 x1_8 y2 x3_5 x3_6 y4 y5 y6 y7 y8 x9_6 (upd y10 (x9_6).toNatClampNeg a1) y11 y12 y13 y14 y15) H := hP
      have hD : va_D A (wS52 K cI cJ cZ cB p0 p1 p2 p3 p4 p5 p6 p7 p8 p9 p10 p11 p12 p13 p14 p15 x0_3 x0_4 x0_5 x0_6 x0_7 x0_8 x0_9 x0_10 x0_11 x0_12 x0_13 x0_14 x1_1 x1_2 x1_3 x1_4 x1_5 x1_6 x1_7 x1_8 y2 x3_5 x3_6 y4 y5 y6 y7 y8 x9_6 (upd y10 (x9_6).toNatClampNeg a1) y11 y12 y13 y14 y15) := hD
      obtain ⟨v3, hv3⟩ : ∃ y : Nat → Int32, y = (upd y10 (x9_6).toNatClampNeg a1) := ⟨_, rfl⟩
      rw [← hv3] at hP hD
      clear hv3
      refine lv_aload_n hx hb d_O_add_28 rfl (lv_at hl 0 rfl) ?_
      refine va_get (D := D) (ci := 6) (v := .ref p11) (C := "SignMachine$Output") (T := F_O) (N := 7) hx hb hk fi_O hown hK.1 hP 9 rfl rfl 1 (by decide) (hk _ k_608) (fun _ h9 => h9) rfl d_O_add_29 ?_
      refine lv_aload_n hx hb d_O_add_32 rfl (lv_at hl 0 rfl) ?_
      refine va_get (D := D) (ci := 6) (v := .int x9_6) (C := "SignMachine$Output") (T := F_O) (N := 7) hx hb hk fi_O hown hK.1 hP 9 rfl rfl 6 (by decide) (hk _ k_613) (fun _ h9 => h9) rfl d_O_add_33 ?_
      refine lv_iload_n hx hb d_O_add_36 rfl (lv_at hl 2 rfl) ?_
      refine va_iast hx hb hK.1 hP hD hS 11 0 rfl rfl (vpin2 c1 c2 rfl) d_O_add_37 (fun H locs hP hD hS => ?_)
      have hP : va_P D classes (wS52 K cI cJ cZ cB p0 p1 p2 p3 p4 p5 p6 p7 p8 p9 p10 p11 p12 p13 p14 p15 x0_3 x0_4 x0_5 x0_6 x0_7 x0_8 x0_9 x0_10 x0_11 x0_12 x0_13 x0_14 x1_1 x1_2 x1_3 x1_4 x1_5 x1_6 x1_7 x1_8 y2 x3_5 x3_6 y4 y5 y6 y7 y8 x9_6 v3 (upd y11 (x9_6).toNatClampNeg a2) y12 y13 y14 y15) H := hP
      have hD : va_D A (wS52 K cI cJ cZ cB p0 p1 p2 p3 p4 p5 p6 p7 p8 p9 p10 p11 p12 p13 p14 p15 x0_3 x0_4 x0_5 x0_6 x0_7 x0_8 x0_9 x0_10 x0_11 x0_12 x0_13 x0_14 x1_1 x1_2 x1_3 x1_4 x1_5 x1_6 x1_7 x1_8 y2 x3_5 x3_6 y4 y5 y6 y7 y8 x9_6 v3 (upd y11 (x9_6).toNatClampNeg a2) y12 y13 y14 y15) := hD
      obtain ⟨v4, hv4⟩ : ∃ y : Nat → Int32, y = (upd y11 (x9_6).toNatClampNeg a2) := ⟨_, rfl⟩
      rw [← hv4] at hP hD
      clear hv4
      refine lv_aload_n hx hb d_O_add_38 rfl (lv_at hl 0 rfl) ?_
      refine va_get (D := D) (ci := 6) (v := .ref p12) (C := "SignMachine$Output") (T := F_O) (N := 7) hx hb hk fi_O hown hK.1 hP 9 rfl rfl 2 (by decide) (hk _ k_609) (fun _ h9 => h9) rfl d_O_add_39 ?_
      refine lv_aload_n hx hb d_O_add_42 rfl (lv_at hl 0 rfl) ?_
      refine va_get (D := D) (ci := 6) (v := .int x9_6) (C := "SignMachine$Output") (T := F_O) (N := 7) hx hb hk fi_O hown hK.1 hP 9 rfl rfl 6 (by decide) (hk _ k_613) (fun _ h9 => h9) rfl d_O_add_43 ?_
      refine lv_iload_n hx hb d_O_add_46 rfl (lv_at hl 3 rfl) ?_
      refine va_iast hx hb hK.1 hP hD hS 12 0 rfl rfl (vpin2 c1 c2 rfl) d_O_add_47 (fun H locs hP hD hS => ?_)
      have hP : va_P D classes (wS52 K cI cJ cZ cB p0 p1 p2 p3 p4 p5 p6 p7 p8 p9 p10 p11 p12 p13 p14 p15 x0_3 x0_4 x0_5 x0_6 x0_7 x0_8 x0_9 x0_10 x0_11 x0_12 x0_13 x0_14 x1_1 x1_2 x1_3 x1_4 x1_5 x1_6 x1_7 x1_8 y2 x3_5 x3_6 y4 y5 y6 y7 y8 x9_6 v3 v4 (upd y12 (x9_6).toNatClampNeg a3) y13 y14 y15) H := hP
      have hD : va_D A (wS52 K cI cJ cZ cB p0 p1 p2 p3 p4 p5 p6 p7 p8 p9 p10 p11 p12 p13 p14 p15 x0_3 x0_4 x0_5 x0_6 x0_7 x0_8 x0_9 x0_10 x0_11 x0_12 x0_13 x0_14 x1_1 x1_2 x1_3 x1_4 x1_5 x1_6 x1_7 x1_8 y2 x3_5 x3_6 y4 y5 y6 y7 y8 x9_6 v3 v4 (upd y12 (x9_6).toNatClampNeg a3) y13 y14 y15) := hD
      obtain ⟨v5, hv5⟩ : ∃ y : Nat → Int32, y = (upd y12 (x9_6).toNatClampNeg a3) := ⟨_, rfl⟩
      rw [← hv5] at hP hD
      clear hv5
      refine lv_aload_n hx hb d_O_add_48 rfl (lv_at hl 0 rfl) ?_
      refine va_get (D := D) (ci := 6) (v := .ref p13) (C := "SignMachine$Output") (T := F_O) (N := 7) hx hb hk fi_O hown hK.1 hP 9 rfl rfl 3 (by decide) (hk _ k_610) (fun _ h9 => h9) rfl d_O_add_49 ?_
      refine lv_aload_n hx hb d_O_add_52 rfl (lv_at hl 0 rfl) ?_
      refine va_get (D := D) (ci := 6) (v := .int x9_6) (C := "SignMachine$Output") (T := F_O) (N := 7) hx hb hk fi_O hown hK.1 hP 9 rfl rfl 6 (by decide) (hk _ k_613) (fun _ h9 => h9) rfl d_O_add_53 ?_
      refine lv_iload hx hb d_O_add_56 (lv_at hl 4 rfl) ?_
      refine lv_i2b (v := (a4 : Int32).toInt8.toInt32) hx hb d_O_add_58 rfl ?_
      refine lv_topi (fun v6 hv6 => ?_)
      refine va_bast hx hb hK.1 hP hD hS 13 3 rfl rfl (vpin2 c1 c2 rfl) d_O_add_59 (fun H locs hP hD hS => ?_)
      have hP : va_P D classes (wS52 K cI cJ cZ cB p0 p1 p2 p3 p4 p5 p6 p7 p8 p9 p10 p11 p12 p13 p14 p15 x0_3 x0_4 x0_5 x0_6 x0_7 x0_8 x0_9 x0_10 x0_11 x0_12 x0_13 x0_14 x1_1 x1_2 x1_3 x1_4 x1_5 x1_6 x1_7 x1_8 y2 x3_5 x3_6 y4 y5 y6 y7 y8 x9_6 v3 v4 v5 (upd y13 (x9_6).toNatClampNeg (vp_nar .byte v6)) y14 y15) H := hP
      have hD : va_D A (wS52 K cI cJ cZ cB p0 p1 p2 p3 p4 p5 p6 p7 p8 p9 p10 p11 p12 p13 p14 p15 x0_3 x0_4 x0_5 x0_6 x0_7 x0_8 x0_9 x0_10 x0_11 x0_12 x0_13 x0_14 x1_1 x1_2 x1_3 x1_4 x1_5 x1_6 x1_7 x1_8 y2 x3_5 x3_6 y4 y5 y6 y7 y8 x9_6 v3 v4 v5 (upd y13 (x9_6).toNatClampNeg (vp_nar .byte v6)) y14 y15) := hD
      obtain ⟨v7, hv7⟩ : ∃ y : Nat → Int32, y = (upd y13 (x9_6).toNatClampNeg (vp_nar .byte v6)) := ⟨_, rfl⟩
      rw [← hv7] at hP hD
      clear hv7
      refine lv_aload_n hx hb d_O_add_60 rfl (lv_at hl 0 rfl) ?_
      refine va_get (D := D) (ci := 6) (v := .ref p14) (C := "SignMachine$Output") (T := F_O) (N := 7) hx hb hk fi_O hown hK.1 hP 9 rfl rfl 4 (by decide) (hk _ k_611) (fun _ h9 => h9) rfl d_O_add_61 ?_
      refine lv_aload_n hx hb d_O_add_64 rfl (lv_at hl 0 rfl) ?_
      refine va_get (D := D) (ci := 6) (v := .int x9_6) (C := "SignMachine$Output") (T := F_O) (N := 7) hx hb hk fi_O hown hK.1 hP 9 rfl rfl 6 (by decide) (hk _ k_613) (fun _ h9 => h9) rfl d_O_add_65 ?_
      refine lv_iload hx hb d_O_add_68 (lv_at hl 5 rfl) ?_
      refine va_iast hx hb hK.1 hP hD hS 14 0 rfl rfl (vpin2 c1 c2 rfl) d_O_add_70 (fun H locs hP hD hS => ?_)
      have hP : va_P D classes (wS52 K cI cJ cZ cB p0 p1 p2 p3 p4 p5 p6 p7 p8 p9 p10 p11 p12 p13 p14 p15 x0_3 x0_4 x0_5 x0_6 x0_7 x0_8 x0_9 x0_10 x0_11 x0_12 x0_13 x0_14 x1_1 x1_2 x1_3 x1_4 x1_5 x1_6 x1_7 x1_8 y2 x3_5 x3_6 y4 y5 y6 y7 y8 x9_6 v3 v4 v5 v7 (upd y14 (x9_6).toNatClampNeg a5) y15) H := hP
      have hD : va_D A (wS52 K cI cJ cZ cB p0 p1 p2 p3 p4 p5 p6 p7 p8 p9 p10 p11 p12 p13 p14 p15 x0_3 x0_4 x0_5 x0_6 x0_7 x0_8 x0_9 x0_10 x0_11 x0_12 x0_13 x0_14 x1_1 x1_2 x1_3 x1_4 x1_5 x1_6 x1_7 x1_8 y2 x3_5 x3_6 y4 y5 y6 y7 y8 x9_6 v3 v4 v5 v7 (upd y14 (x9_6).toNatClampNeg a5) y15) := hD
      obtain ⟨v8, hv8⟩ : ∃ y : Nat → Int32, y = (upd y14 (x9_6).toNatClampNeg a5) := ⟨_, rfl⟩
      rw [← hv8] at hP hD
      clear hv8
      refine lv_iload hx hb d_O_add_71 (lv_at hl 4 rfl) ?_
      refine lv_iconst (v := 2) hx hb d_O_add_73 (by decide) ?_
      refine lv_icmp_ne (tgt := 119) hx hb d_O_add_74 (by decide) (fun c9 => ?_) (fun c9 => ?_)
      · refine lv_aload_n hx hb d_O_add_119 rfl (lv_at hl 0 rfl) ?_
        refine lv_dup hx hb d_O_add_120 rfl ?_
        refine va_get (D := D) (ci := 6) (v := .int x9_6) (C := "SignMachine$Output") (T := F_O) (N := 7) hx hb hk fi_O hown hK.1 hP 9 rfl rfl 6 (by decide) (hk _ k_613) (fun _ h9 => h9) rfl d_O_add_121 ?_
        refine lv_iconst (v := 1) hx hb d_O_add_124 (by decide) ?_
        refine lv_iadd hx hb d_O_add_125 ?_
        refine lv_topi (fun v10 hv10 => ?_)
        refine va_put (D := D) (ci := 6) (v := .int v10) (ty := .int) (C := "SignMachine$Output") (T := F_O) (N := 7) hx hb hk fi_O ft_O ft_O_ok fn_O hown hK.1 hP hD hS 9 rfl rfl 6 (by decide) (hk _ k_613) (fun _ h9 => h9) rfl (by decide +kernel) rfl rfl (Nat.le_of_ble_eq_true rfl) d_O_add_126 (fun H locs hP hD hS => ?_)
        have hP : va_P D classes (wS52 K cI cJ cZ cB p0 p1 p2 p3 p4 p5 p6 p7 p8 p9 p10 p11 p12 p13 p14 p15 x0_3 x0_4 x0_5 x0_6 x0_7 x0_8 x0_9 x0_10 x0_11 x0_12 x0_13 x0_14 x1_1 x1_2 x1_3 x1_4 x1_5 x1_6 x1_7 x1_8 y2 x3_5 x3_6 y4 y5 y6 y7 y8 v10 v3 v4 v5 v7 v8 y15) H := hP
        have hD : va_D A (wS52 K cI cJ cZ cB p0 p1 p2 p3 p4 p5 p6 p7 p8 p9 p10 p11 p12 p13 p14 p15 x0_3 x0_4 x0_5 x0_6 x0_7 x0_8 x0_9 x0_10 x0_11 x0_12 x0_13 x0_14 x1_1 x1_2 x1_3 x1_4 x1_5 x1_6 x1_7 x1_8 y2 x3_5 x3_6 y4 y5 y6 y7 y8 v10 v3 v4 v5 v7 v8 y15) := hD
        exact W.vret hx hb hr (fun t ht hW => ⟨⟨(), rfl, trivial, ⟨v10, v3, v4, v5, v7, v8, y15, by show va_P D classes _ t.heap; rw [ht]; exact hP, hD⟩⟩, hS.F ht⟩) hS.2.2 d_O_add_129
      · refine lv_iload hx hb d_O_add_77 (lv_at hl 5 rfl) ?_
        refine lv_if_lt (tgt := 119) hx hb d_O_add_79 (by decide) (fun c11 => ?_) (fun c11 => ?_)
        · refine lv_aload_n hx hb d_O_add_119 rfl (lv_at hl 0 rfl) ?_
          refine lv_dup hx hb d_O_add_120 rfl ?_
          refine va_get (D := D) (ci := 6) (v := .int x9_6) (C := "SignMachine$Output") (T := F_O) (N := 7) hx hb hk fi_O hown hK.1 hP 9 rfl rfl 6 (by decide) (hk _ k_613) (fun _ h9 => h9) rfl d_O_add_121 ?_
          refine lv_iconst (v := 1) hx hb d_O_add_124 (by decide) ?_
          refine lv_iadd hx hb d_O_add_125 ?_
          refine lv_topi (fun v12 hv12 => ?_)
          refine va_put (D := D) (ci := 6) (v := .int v12) (ty := .int) (C := "SignMachine$Output") (T := F_O) (N := 7) hx hb hk fi_O ft_O ft_O_ok fn_O hown hK.1 hP hD hS 9 rfl rfl 6 (by decide) (hk _ k_613) (fun _ h9 => h9) rfl (by decide +kernel) rfl rfl (Nat.le_of_ble_eq_true rfl) d_O_add_126 (fun H locs hP hD hS => ?_)
          have hP : va_P D classes (wS52 K cI cJ cZ cB p0 p1 p2 p3 p4 p5 p6 p7 p8 p9 p10 p11 p12 p13 p14 p15 x0_3 x0_4 x0_5 x0_6 x0_7 x0_8 x0_9 x0_10 x0_11 x0_12 x0_13 x0_14 x1_1 x1_2 x1_3 x1_4 x1_5 x1_6 x1_7 x1_8 y2 x3_5 x3_6 y4 y5 y6 y7 y8 v12 v3 v4 v5 v7 v8 y15) H := hP
          have hD : va_D A (wS52 K cI cJ cZ cB p0 p1 p2 p3 p4 p5 p6 p7 p8 p9 p10 p11 p12 p13 p14 p15 x0_3 x0_4 x0_5 x0_6 x0_7 x0_8 x0_9 x0_10 x0_11 x0_12 x0_13 x0_14 x1_1 x1_2 x1_3 x1_4 x1_5 x1_6 x1_7 x1_8 y2 x3_5 x3_6 y4 y5 y6 y7 y8 v12 v3 v4 v5 v7 v8 y15) := hD
          exact W.vret hx hb hr (fun t ht hW => ⟨⟨(), rfl, trivial, ⟨v12, v3, v4, v5, v7, v8, y15, by show va_P D classes _ t.heap; rw [ht]; exact hP, hD⟩⟩, hS.F ht⟩) hS.2.2 d_O_add_129
        · refine lv_iload hx hb d_O_add_82 (lv_at hl 5 rfl) ?_
          refine lv_aload_n hx hb d_O_add_84 rfl (lv_at hl 0 rfl) ?_
          refine va_get (D := D) (ci := 6) (v := .ref p15) (C := "SignMachine$Output") (T := F_O) (N := 7) hx hb hk fi_O hown hK.1 hP 9 rfl rfl 5 (by decide) (hk _ k_612) (fun _ h9 => h9) rfl d_O_add_85 ?_
          refine va_alen (v := 10) hx hb hK.1 hP 15 0 rfl rfl rfl d_O_add_88 ?_
          refine lv_icmp_ge (tgt := 119) hx hb d_O_add_89 (by decide) (fun c13 => ?_) (fun c13 => ?_)
          · refine lv_aload_n hx hb d_O_add_119 rfl (lv_at hl 0 rfl) ?_
            refine lv_dup hx hb d_O_add_120 rfl ?_
            refine va_get (D := D) (ci := 6) (v := .int x9_6) (C := "SignMachine$Output") (T := F_O) (N := 7) hx hb hk fi_O hown hK.1 hP 9 rfl rfl 6 (by decide) (hk _ k_613) (fun _ h9 => h9) rfl d_O_add_121 ?_
            refine lv_iconst (v := 1) hx hb d_O_add_124 (by decide) ?_
            refine lv_iadd hx hb d_O_add_125 ?_
            refine lv_topi (fun v14 hv14 => ?_)
            refine va_put (D := D) (ci := 6) (v := .int v14) (ty := .int) (C := "SignMachine$Output") (T := F_O) (N := 7) hx hb hk fi_O ft_O ft_O_ok fn_O hown hK.1 hP hD hS 9 rfl rfl 6 (by decide) (hk _ k_613) (fun _ h9 => h9) rfl (by decide +kernel) rfl rfl (Nat.le_of_ble_eq_true rfl) d_O_add_126 (fun H locs hP hD hS => ?_)
            have hP : va_P D classes (wS52 K cI cJ cZ cB p0 p1 p2 p3 p4 p5 p6 p7 p8 p9 p10 p11 p12 p13 p14 p15 x0_3 x0_4 x0_5 x0_6 x0_7 x0_8 x0_9 x0_10 x0_11 x0_12 x0_13 x0_14 x1_1 x1_2 x1_3 x1_4 x1_5 x1_6 x1_7 x1_8 y2 x3_5 x3_6 y4 y5 y6 y7 y8 v14 v3 v4 v5 v7 v8 y15) H := hP
            have hD : va_D A (wS52 K cI cJ cZ cB p0 p1 p2 p3 p4 p5 p6 p7 p8 p9 p10 p11 p12 p13 p14 p15 x0_3 x0_4 x0_5 x0_6 x0_7 x0_8 x0_9 x0_10 x0_11 x0_12 x0_13 x0_14 x1_1 x1_2 x1_3 x1_4 x1_5 x1_6 x1_7 x1_8 y2 x3_5 x3_6 y4 y5 y6 y7 y8 v14 v3 v4 v5 v7 v8 y15) := hD
            exact W.vret hx hb hr (fun t ht hW => ⟨⟨(), rfl, trivial, ⟨v14, v3, v4, v5, v7, v8, y15, by show va_P D classes _ t.heap; rw [ht]; exact hP, hD⟩⟩, hS.F ht⟩) hS.2.2 d_O_add_129
          · refine lv_aload_n hx hb d_O_add_92 rfl (lv_at hl 0 rfl) ?_
            refine va_get (D := D) (ci := 6) (v := .ref p14) (C := "SignMachine$Output") (T := F_O) (N := 7) hx hb hk fi_O hown hK.1 hP 9 rfl rfl 4 (by decide) (hk _ k_611) (fun _ h9 => h9) rfl d_O_add_93 ?_
            refine lv_aload_n hx hb d_O_add_96 rfl (lv_at hl 0 rfl) ?_
            refine va_get (D := D) (ci := 6) (v := .int x9_6) (C := "SignMachine$Output") (T := F_O) (N := 7) hx hb hk fi_O hown hK.1 hP 9 rfl rfl 6 (by decide) (hk _ k_613) (fun _ h9 => h9) rfl d_O_add_97 ?_
            refine lv_aload_n hx hb d_O_add_100 rfl (lv_at hl 0 rfl) ?_
            refine va_get (D := D) (ci := 6) (v := .ref p15) (C := "SignMachine$Output") (T := F_O) (N := 7) hx hb hk fi_O hown hK.1 hP 9 rfl rfl 5 (by decide) (hk _ k_612) (fun _ h9 => h9) rfl d_O_add_101 ?_
            refine lv_iload hx hb d_O_add_104 (lv_at hl 5 rfl) ?_
            refine va_iald hx hb hK.1 hP 15 0 rfl rfl (vpin c11 c13 rfl) d_O_add_106 ?_
            refine lv_topi (fun v15 hv15 => ?_)
            refine va_iast hx hb hK.1 hP hD hS 14 0 rfl rfl (vpin2 c1 c2 rfl) d_O_add_107 (fun H locs hP hD hS => ?_)
            have hP : va_P D classes (wS52 K cI cJ cZ cB p0 p1 p2 p3 p4 p5 p6 p7 p8 p9 p10 p11 p12 p13 p14 p15 x0_3 x0_4 x0_5 x0_6 x0_7 x0_8 x0_9 x0_10 x0_11 x0_12 x0_13 x0_14 x1_1 x1_2 x1_3 x1_4 x1_5 x1_6 x1_7 x1_8 y2 x3_5 x3_6 y4 y5 y6 y7 y8 x9_6 v3 v4 v5 v7 (upd v8 (x9_6).toNatClampNeg v15) y15) H := hP
            have hD : va_D A (wS52 K cI cJ cZ cB p0 p1 p2 p3 p4 p5 p6 p7 p8 p9 p10 p11 p12 p13 p14 p15 x0_3 x0_4 x0_5 x0_6 x0_7 x0_8 x0_9 x0_10 x0_11 x0_12 x0_13 x0_14 x1_1 x1_2 x1_3 x1_4 x1_5 x1_6 x1_7 x1_8 y2 x3_5 x3_6 y4 y5 y6 y7 y8 x9_6 v3 v4 v5 v7 (upd v8 (x9_6).toNatClampNeg v15) y15) := hD
            obtain ⟨v16, hv16⟩ : ∃ y : Nat → Int32, y = (upd v8 (x9_6).toNatClampNeg v15) := ⟨_, rfl⟩
            rw [← hv16] at hP hD
            clear hv16
            refine lv_aload_n hx hb d_O_add_108 rfl (lv_at hl 0 rfl) ?_
            refine va_get (D := D) (ci := 6) (v := .ref p15) (C := "SignMachine$Output") (T := F_O) (N := 7) hx hb hk fi_O hown hK.1 hP 9 rfl rfl 5 (by decide) (hk _ k_612) (fun _ h9 => h9) rfl d_O_add_109 ?_
            refine lv_iload hx hb d_O_add_112 (lv_at hl 5 rfl) ?_
            refine lv_aload_n hx hb d_O_add_114 rfl (lv_at hl 0 rfl) ?_
            refine va_get (D := D) (ci := 6) (v := .int x9_6) (C := "SignMachine$Output") (T := F_O) (N := 7) hx hb hk fi_O hown hK.1 hP 9 rfl rfl 6 (by decide) (hk _ k_613) (fun _ h9 => h9) rfl d_O_add_115 ?_
            refine va_iast hx hb hK.1 hP hD hS 15 0 rfl rfl (vpin c11 c13 rfl) d_O_add_118 (fun H locs hP hD hS => ?_)
            have hP : va_P D classes (wS52 K cI cJ cZ cB p0 p1 p2 p3 p4 p5 p6 p7 p8 p9 p10 p11 p12 p13 p14 p15 x0_3 x0_4 x0_5 x0_6 x0_7 x0_8 x0_9 x0_10 x0_11 x0_12 x0_13 x0_14 x1_1 x1_2 x1_3 x1_4 x1_5 x1_6 x1_7 x1_8 y2 x3_5 x3_6 y4 y5 y6 y7 y8 x9_6 v3 v4 v5 v7 v16 (upd y15 (a5).toNatClampNeg x9_6)) H := hP
            have hD : va_D A (wS52 K cI cJ cZ cB p0 p1 p2 p3 p4 p5 p6 p7 p8 p9 p10 p11 p12 p13 p14 p15 x0_3 x0_4 x0_5 x0_6 x0_7 x0_8 x0_9 x0_10 x0_11 x0_12 x0_13 x0_14 x1_1 x1_2 x1_3 x1_4 x1_5 x1_6 x1_7 x1_8 y2 x3_5 x3_6 y4 y5 y6 y7 y8 x9_6 v3 v4 v5 v7 v16 (upd y15 (a5).toNatClampNeg x9_6)) := hD
            obtain ⟨v17, hv17⟩ : ∃ y : Nat → Int32, y = (upd y15 (a5).toNatClampNeg x9_6) := ⟨_, rfl⟩
            rw [← hv17] at hP hD
            clear hv17
            refine lv_aload_n hx hb d_O_add_119 rfl (lv_at hl 0 rfl) ?_
            refine lv_dup hx hb d_O_add_120 rfl ?_
            refine va_get (D := D) (ci := 6) (v := .int x9_6) (C := "SignMachine$Output") (T := F_O) (N := 7) hx hb hk fi_O hown hK.1 hP 9 rfl rfl 6 (by decide) (hk _ k_613) (fun _ h9 => h9) rfl d_O_add_121 ?_
            refine lv_iconst (v := 1) hx hb d_O_add_124 (by decide) ?_
            refine lv_iadd hx hb d_O_add_125 ?_
            refine lv_topi (fun v18 hv18 => ?_)
            refine va_put (D := D) (ci := 6) (v := .int v18) (ty := .int) (C := "SignMachine$Output") (T := F_O) (N := 7) hx hb hk fi_O ft_O ft_O_ok fn_O hown hK.1 hP hD hS 9 rfl rfl 6 (by decide) (hk _ k_613) (fun _ h9 => h9) rfl (by decide +kernel) rfl rfl (Nat.le_of_ble_eq_true rfl) d_O_add_126 (fun H locs hP hD hS => ?_)
            have hP : va_P D classes (wS52 K cI cJ cZ cB p0 p1 p2 p3 p4 p5 p6 p7 p8 p9 p10 p11 p12 p13 p14 p15 x0_3 x0_4 x0_5 x0_6 x0_7 x0_8 x0_9 x0_10 x0_11 x0_12 x0_13 x0_14 x1_1 x1_2 x1_3 x1_4 x1_5 x1_6 x1_7 x1_8 y2 x3_5 x3_6 y4 y5 y6 y7 y8 v18 v3 v4 v5 v7 v16 v17) H := hP
            have hD : va_D A (wS52 K cI cJ cZ cB p0 p1 p2 p3 p4 p5 p6 p7 p8 p9 p10 p11 p12 p13 p14 p15 x0_3 x0_4 x0_5 x0_6 x0_7 x0_8 x0_9 x0_10 x0_11 x0_12 x0_13 x0_14 x1_1 x1_2 x1_3 x1_4 x1_5 x1_6 x1_7 x1_8 y2 x3_5 x3_6 y4 y5 y6 y7 y8 v18 v3 v4 v5 v7 v16 v17) := hD
            exact W.vret hx hb hr (fun t ht hW => ⟨⟨(), rfl, trivial, ⟨v18, v3, v4, v5, v7, v16, v17, by show va_P D classes _ t.heap; rw [ht]; exact hP, hD⟩⟩, hS.F ht⟩) hS.2.2 d_O_add_129
    · exact W.vret hx hb hr (fun t ht hW => ⟨⟨(), rfl, trivial, ⟨x9_6, y10, y11, y12, y13, y14, y15, by show va_P D classes _ t.heap; rw [ht]; exact hP, hD⟩⟩, hS.F ht⟩) hS.2.2 d_O_add_17
theorem v_O_add_s1 {R : Room} {s : State} {args : Array Value} {own : String} {index : Nat} (hk : ∀ w ∈ tb, w.before args s = true) (hl : Cond.methodLink own index y_O_add ∈ tb) (hR : 0 + 1 ≤ R.frames ∧ 8 + (6 + 11) + 0 ≤ R.locals) : CallW R s args own "SignMachine$Output" index y_O_add b_O_add 6 none (.code y_O_add b_O_add 6 none :: tb) ({ frames := 0, cells := 0, slots := 0, locals := 0 }) 0 0 5 := mk_v 5 hk k_976 hl k_974 k_975 k_126 rfl rfl h_O_add hR
set_option maxHeartbeats 4000000 in
set_option maxRecDepth 100000 in
theorem c_A_putInstruction_s1 (l : Launch) (K : CK) (D : va_G) (cI cJ cZ cB : ClassId) (p0 p1 p2 p3 p4 p5 p6 p7 p8 p9 p10 p11 p12 p13 p14 p15 : Nat) (sz : Nat) (x0_3 : Int32) (x0_4 : Int32) (x0_5 : Int32) (x0_6 : Int32) (x0_7 : Int32) (x0_8 : Bool) (x0_9 : Int64) (x0_10 : Int32) (x0_11 : Option (Fin 51)) (x0_12 : Int32) (x0_13 : Int32) (x0_14 : Int32) (x1_1 : Int32) (x1_2 : Int32) (x1_3 : Int32) (x1_4 : Int32) (x1_5 : Int32) (x1_6 : Int32) (x1_7 : Int64) (x1_8 : Int32) (y2 : Nat → Int32) (x3_5 : Int32) (x3_6 : Int32) (y4 : Nat → Int64) (y5 : Nat → Int32) (y6 : Nat → Int32) (y7 : Nat → Int32) (y8 : Nat → Int32) (x9_6 : Int32) (y10 : Nat → Int32) (y11 : Nat → Int32) (y12 : Nat → Int32) (y13 : Nat → Int32) (y14 : Nat → Int32) (y15 : Nat → Int32)  (a1 : Int32) : Met l y_A_putInstruction (.code y_A_putInstruction b_A_putInstruction 2 none :: tb) ({ frames := 1, cells := 0, slots := 0, locals := 25 }) (pMC K D cI cJ cZ cB (wS52 K cI cJ cZ cB p0 p1 p2 p3 p4 p5 p6 p7 p8 p9 p10 p11 p12 p13 p14 p15 x0_3 x0_4 x0_5 x0_6 x0_7 x0_8 x0_9 x0_10 x0_11 x0_12 x0_13 x0_14 x1_1 x1_2 x1_3 x1_4 x1_5 x1_6 x1_7 x1_8 y2 x3_5 x3_6 y4 y5 y6 y7 y8 x9_6 y10 y11 y12 y13 y14 y15) sz [.ref p0, .int a1]) (va_Qv (fun (_ : Unit) => True) (fun _ t => (∃ u_x0_3 : Int32, ∃ u_x0_4 : Int32, ∃ u_x0_7 : Int32, ∃ u_x9_6 : Int32, ∃ u_y10 : Nat → Int32, ∃ u_y11 : Nat → Int32, ∃ u_y12 : Nat → Int32, ∃ u_y13 : Nat → Int32, ∃ u_y14 : Nat → Int32, ∃ u_y15 : Nat → Int32, va_P D classes (wS52 K cI cJ cZ cB p0 p1 p2 p3 p4 p5 p6 p7 p8 p9 p10 p11 p12 p13 p14 p15 u_x0_3 u_x0_4 x0_5 x0_6 u_x0_7 x0_8 x0_9 x0_10 x0_11 x0_12 x0_13 x0_14 x1_1 x1_2 x1_3 x1_4 x1_5 x1_6 x1_7 x1_8 y2 x3_5 x3_6 y4 y5 y6 y7 y8 u_x9_6 u_y10 u_y11 u_y12 u_y13 u_y14 u_y15) t.heap ∧ va_D (va_A (wS52 K cI cJ cZ cB p0 p1 p2 p3 p4 p5 p6 p7 p8 p9 p10 p11 p12 p13 p14 p15 x0_3 x0_4 x0_5 x0_6 x0_7 x0_8 x0_9 x0_10 x0_11 x0_12 x0_13 x0_14 x1_1 x1_2 x1_3 x1_4 x1_5 x1_6 x1_7 x1_8 y2 x3_5 x3_6 y4 y5 y6 y7 y8 x9_6 y10 y11 y12 y13 y14 y15) sz) (wS52 K cI cJ cZ cB p0 p1 p2 p3 p4 p5 p6 p7 p8 p9 p10 p11 p12 p13 p14 p15 u_x0_3 u_x0_4 x0_5 x0_6 u_x0_7 x0_8 x0_9 x0_10 x0_11 x0_12 x0_13 x0_14 x1_1 x1_2 x1_3 x1_4 x1_5 x1_6 x1_7 x1_8 y2 x3_5 x3_6 y4 y5 y6 y7 y8 u_x9_6 u_y10 u_y11 u_y12 u_y13 u_y14 u_y15))) (va_A (wS52 K cI cJ cZ cB p0 p1 p2 p3 p4 p5 p6 p7 p8 p9 p10 p11 p12 p13 p14 p15 x0_3 x0_4 x0_5 x0_6 x0_7 x0_8 x0_9 x0_10 x0_11 x0_12 x0_13 x0_14 x1_1 x1_2 x1_3 x1_4 x1_5 x1_6 x1_7 x1_8 y2 x3_5 x3_6 y4 y5 y6 y7 y8 x9_6 y10 y11 y12 y13 y14 y15) sz)) 0 0 (va_A (wS52 K cI cJ cZ cB p0 p1 p2 p3 p4 p5 p6 p7 p8 p9 p10 p11 p12 p13 p14 p15 x0_3 x0_4 x0_5 x0_6 x0_7 x0_8 x0_9 x0_10 x0_11 x0_12 x0_13 x0_14 x1_1 x1_2 x1_3 x1_4 x1_5 x1_6 x1_7 x1_8 y2 x3_5 x3_6 y4 y5 y6 y7 y8 x9_6 y10 y11 y12 y13 y14 y15) sz) := by
  refine Met.ofW (cc := b_A_putInstruction) (maxL := 2) (ret := none) (by decide) rfl ?_
  intro p e s m args below meth c s₁ B hml hv
  obtain ⟨rfl, hsz, hK, hP, hD0, hC⟩ := hv
  subst hsz
  have hD := hD0.self (sz := s.heap.size)
  generalize hAe : va_A (wS52 K cI cJ cZ cB p0 p1 p2 p3 p4 p5 p6 p7 p8 p9 p10 p11 p12 p13 p14 p15 x0_3 x0_4 x0_5 x0_6 x0_7 x0_8 x0_9 x0_10 x0_11 x0_12 x0_13 x0_14 x1_1 x1_2 x1_3 x1_4 x1_5 x1_6 x1_7 x1_8 y2 x3_5 x3_6 y4 y5 y6 y7 y8 x9_6 y10 y11 y12 y13 y14 y15) s.heap.size = A at hD hC ⊢
  have hA : ∀ q : Nat, s.heap.size ≤ q → A q := fun q h => by rw [← hAe]; exact Or.inr h
  clear hAe hD0
  have hS : va_S A s.heap s.heap [] := va_S.rf
  have hx := B.exec
  have hb := B.bytes
  have hr := B.returns
  have hts := atoms_spec (ws := .code y_A_putInstruction b_A_putInstruction 2 none :: tb) B.pre
  have hk : ∀ w ∈ tb, w.before [.ref p0, .int a1].toArray s = true := fun w h => hts w (List.mem_cons_of_mem _ h)
  have hown : s.vm.findClass "SignMachine$Assembler" = some m.cls := findClass_of_methodNamed B.named
  have hlocks := B.notSynchronized
  have hl := lv_entry ([.ref p0, .int a1]) (n := 2) (Nat.le_of_ble_eq_true rfl)
  rw [lg_entry_eq]
  generalize (lg_sl ([.ref p0, .int a1]) ++ List.replicate (2 - (lg_sl ([.ref p0, .int a1])).length) Slot.unset).toArray = ls at hl ⊢
  have hl : lv_has ls 2 [(0, .ref p0), (1, .int a1)] := hl
  refine lv_aload_n hx hb d_A_putInstruction_0 rfl (lv_at hl 0 rfl) ?_
  refine va_get (D := D) (ci := 3) (v := .int x0_7) (C := "SignMachine$Assembler") (T := F_A) (N := 15) hx hb hk fi_A hown hK.1 hP 0 rfl rfl 7 (by decide) (hk _ k_644) (fun _ h9 => h9) rfl d_A_putInstruction_1 ?_
  refine cs_i (W.runS (As := [.int x0_7]) (rest := []) ⟨hx, hb, hml, hown, hk⟩ (c_M_isAddress l x0_7) (s_M_isAddress hk k_972 ⟨Nat.le_of_ble_eq_true rfl, Nat.le_of_ble_eq_true rfl⟩) ⟨fun a U g mk q => q, fun U hU hW => ⟨rfl, trivial⟩⟩ rfl rfl hl.1 rfl (lv_room (Nat.le_of_ble_eq_true rfl)) d_A_putInstruction_4 ⟨Nat.le_of_ble_eq_true rfl, Nat.le_of_ble_eq_true rfl⟩) ?_
  obtain ⟨z1, hz1⟩ : ∃ y : Bool, y = (f_M_isAddress x0_7) := ⟨_, rfl⟩
  rw [← hz1]
  refine lv_if_ne (tgt := 17) hx hb d_A_putInstruction_7 (by decide) (fun c2 => ?_) (fun c2 => ?_)
  · refine lv_aload_n hx hb d_A_putInstruction_17 rfl (lv_at hl 0 rfl) ?_
    refine va_get (D := D) (ci := 3) (v := .ref p9) (C := "SignMachine$Assembler") (T := F_A) (N := 15) hx hb hk fi_A hown hK.1 hP 0 rfl rfl 2 (by decide) (hk _ k_634) (fun _ h9 => h9) rfl d_A_putInstruction_18 ?_
    refine lv_aload_n hx hb d_A_putInstruction_21 rfl (lv_at hl 0 rfl) ?_
    refine va_get (D := D) (ci := 3) (v := .int x0_7) (C := "SignMachine$Assembler") (T := F_A) (N := 15) hx hb hk fi_A hown hK.1 hP 0 rfl rfl 7 (by decide) (hk _ k_644) (fun _ h9 => h9) rfl d_A_putInstruction_22 ?_
    refine lv_iload_n hx hb d_A_putInstruction_25 rfl (lv_at hl 1 rfl) ?_
    refine lv_aload_n hx hb d_A_putInstruction_26 rfl (lv_at hl 0 rfl) ?_
    refine va_get (D := D) (ci := 3) (v := .ref p1) (C := "SignMachine$Assembler") (T := F_A) (N := 15) hx hb hk fi_A hown hK.1 hP 0 rfl rfl 0 (by decide) (hk _ k_631) (fun _ h9 => h9) rfl d_A_putInstruction_27 ?_
    refine va_getN (D := D) (ci := 4) (v := .int x1_2) (C := "SignMachine$Source") (T := F_R) (N := 9) hx hb hk fi_R hown hK.1 hP 1 rfl rfl 2 (by decide) (va_Nw.use rfl (hK.2 _ n_539)) (fun _ h9 => h9) rfl d_A_putInstruction_30 ?_
    refine lv_aload_n hx hb d_A_putInstruction_33 rfl (lv_at hl 0 rfl) ?_
    refine va_get (D := D) (ci := 3) (v := .int x0_13) (C := "SignMachine$Assembler") (T := F_A) (N := 15) hx hb hk fi_A hown hK.1 hP 0 rfl rfl 13 (by decide) (hk _ k_650) (fun _ h9 => h9) rfl d_A_putInstruction_34 ?_
    refine lv_aload_n hx hb d_A_putInstruction_37 rfl (lv_at hl 0 rfl) ?_
    refine va_get (D := D) (ci := 3) (v := .int x0_14) (C := "SignMachine$Assembler") (T := F_A) (N := 15) hx hb hk fi_A hown hK.1 hP 0 rfl rfl 14 (by decide) (hk _ k_651) (fun _ h9 => h9) rfl d_A_putInstruction_38 ?_
    refine kn_v (va_runV (C := "SignMachine$Output") (As := [.int x0_7, .int a1, .int x1_2, .int x0_13, .int x0_14]) (rest := []) ⟨hx, hb, hml, hown, hk⟩ (c_O_add_s1 l K D cI cJ cZ cB p0 p1 p2 p3 p4 p5 p6 p7 p8 p9 p10 p11 p12 p13 p14 p15 s.heap.size x0_3 x0_4 x0_5 x0_6 x0_7 x0_8 x0_9 x0_10 x0_11 x0_12 x0_13 x0_14 x1_1 x1_2 x1_3 x1_4 x1_5 x1_6 x1_7 x1_8 y2 x3_5 x3_6 y4 y5 y6 y7 y8 x9_6 y10 y11 y12 y13 y14 y15  x0_7 a1 x1_2 x0_13 x0_14 ) (v_O_add_s1 hk k_973 ⟨Nat.le_of_ble_eq_true rfl, Nat.le_of_ble_eq_true rfl⟩) (pMC_v hK hP hD hC hS hA (ci := 6) (q0 := 9) rfl rfl rfl) rfl rfl hl.1 rfl (lv_room (Nat.le_of_ble_eq_true rfl)) d_A_putInstruction_41 ⟨by decide, by decide⟩) hS hA hD (fun u t H locs ht hB hFr hS => ?_)
    obtain ⟨x9_6z3, y10z3, y11z3, y12z3, y13z3, y14z3, y15z3, hP, hD⟩ := hB
    rw [ht] at hP
    have hD := dwk hD hFr
    clear ht hFr
    have hP : va_P D classes (wS52 K cI cJ cZ cB p0 p1 p2 p3 p4 p5 p6 p7 p8 p9 p10 p11 p12 p13 p14 p15 x0_3 x0_4 x0_5 x0_6 x0_7 x0_8 x0_9 x0_10 x0_11 x0_12 x0_13 x0_14 x1_1 x1_2 x1_3 x1_4 x1_5 x1_6 x1_7 x1_8 y2 x3_5 x3_6 y4 y5 y6 y7 y8 x9_6z3 y10z3 y11z3 y12z3 y13z3 y14z3 y15z3) H := hP
    have hD : va_D A (wS52 K cI cJ cZ cB p0 p1 p2 p3 p4 p5 p6 p7 p8 p9 p10 p11 p12 p13 p14 p15 x0_3 x0_4 x0_5 x0_6 x0_7 x0_8 x0_9 x0_10 x0_11 x0_12 x0_13 x0_14 x1_1 x1_2 x1_3 x1_4 x1_5 x1_6 x1_7 x1_8 y2 x3_5 x3_6 y4 y5 y6 y7 y8 x9_6z3 y10z3 y11z3 y12z3 y13z3 y14z3 y15z3) := hD
    refine lv_aload_n hx hb d_A_putInstruction_44 rfl (lv_at hl 0 rfl) ?_
    refine lv_dup hx hb d_A_putInstruction_45 rfl ?_
    refine va_get (D := D) (ci := 3) (v := .int x0_7) (C := "SignMachine$Assembler") (T := F_A) (N := 15) hx hb hk fi_A hown hK.1 hP 0 rfl rfl 7 (by decide) (hk _ k_644) (fun _ h9 => h9) rfl d_A_putInstruction_46 ?_
    refine lv_iconst (v := 1) hx hb d_A_putInstruction_49 (by decide) ?_
    refine lv_iadd hx hb d_A_putInstruction_50 ?_
    refine lv_topi (fun v4 hv4 => ?_)
    refine va_put (D := D) (ci := 3) (v := .int v4) (ty := .int) (C := "SignMachine$Assembler") (T := F_A) (N := 15) hx hb hk fi_A ft_A ft_A_ok fn_A hown hK.1 hP hD hS 0 rfl rfl 7 (by decide) (hk _ k_644) (fun _ h9 => h9) rfl (by decide +kernel) rfl rfl (Nat.le_of_ble_eq_true rfl) d_A_putInstruction_51 (fun H locs hP hD hS => ?_)
    have hP : va_P D classes (wS52 K cI cJ cZ cB p0 p1 p2 p3 p4 p5 p6 p7 p8 p9 p10 p11 p12 p13 p14 p15 x0_3 x0_4 x0_5 x0_6 v4 x0_8 x0_9 x0_10 x0_11 x0_12 x0_13 x0_14 x1_1 x1_2 x1_3 x1_4 x1_5 x1_6 x1_7 x1_8 y2 x3_5 x3_6 y4 y5 y6 y7 y8 x9_6z3 y10z3 y11z3 y12z3 y13z3 y14z3 y15z3) H := hP
    have hD : va_D A (wS52 K cI cJ cZ cB p0 p1 p2 p3 p4 p5 p6 p7 p8 p9 p10 p11 p12 p13 p14 p15 x0_3 x0_4 x0_5 x0_6 v4 x0_8 x0_9 x0_10 x0_11 x0_12 x0_13 x0_14 x1_1 x1_2 x1_3 x1_4 x1_5 x1_6 x1_7 x1_8 y2 x3_5 x3_6 y4 y5 y6 y7 y8 x9_6z3 y10z3 y11z3 y12z3 y13z3 y14z3 y15z3) := hD
    exact W.vret hx hb hr (fun t ht hW => ⟨⟨(), rfl, trivial, ⟨x0_3, x0_4, v4, x9_6z3, y10z3, y11z3, y12z3, y13z3, y14z3, y15z3, by show va_P D classes _ t.heap; rw [ht]; exact hP, hD⟩⟩, hS.F ht⟩) hS.2.2 d_A_putInstruction_54
  · refine lv_aload_n hx hb d_A_putInstruction_10 rfl (lv_at hl 0 rfl) ?_
    refine lv_iconst (v := 4) hx hb d_A_putInstruction_11 (by decide) ?_
    refine sn_i (va_runV (C := "SignMachine$Assembler") (As := [.int (4 : Int32)]) (rest := []) ⟨hx, hb, hml, hown, hk⟩ (c_A_fail_s1 l K D cI cJ cZ cB p0 p1 p2 p3 p4 p5 p6 p7 p8 p9 p10 p11 p12 p13 p14 p15 s.heap.size x0_3 x0_4 x0_5 x0_6 x0_7 x0_8 x0_9 x0_10 x0_11 x0_12 x0_13 x0_14 x1_1 x1_2 x1_3 x1_4 x1_5 x1_6 x1_7 x1_8 y2 x3_5 x3_6 y4 y5 y6 y7 y8 x9_6 y10 y11 y12 y13 y14 y15  (4 : Int32) ) (v_A_fail_s1 hk k_767 ⟨Nat.le_of_ble_eq_true rfl, Nat.le_of_ble_eq_true rfl⟩) (pMC_v hK hP hD hC hS hA (ci := 3) (q0 := 0) rfl rfl rfl) rfl rfl hl.1 rfl (lv_room (Nat.le_of_ble_eq_true rfl)) d_A_putInstruction_12 ⟨by decide, by decide⟩) hS hA hD (fun rz5 u t H locs hr0 ht hB hFr hS => ?_)
    obtain ⟨x0_3z5, x0_4z5, hP, hD⟩ := hB
    rw [ht] at hP
    have hD := dwk hD hFr
    clear ht hFr
    have hP : va_P D classes (wS52 K cI cJ cZ cB p0 p1 p2 p3 p4 p5 p6 p7 p8 p9 p10 p11 p12 p13 p14 p15 x0_3z5 x0_4z5 x0_5 x0_6 x0_7 x0_8 x0_9 x0_10 x0_11 x0_12 x0_13 x0_14 x1_1 x1_2 x1_3 x1_4 x1_5 x1_6 x1_7 x1_8 y2 x3_5 x3_6 y4 y5 y6 y7 y8 x9_6 y10 y11 y12 y13 y14 y15) H := hP
    have hD : va_D A (wS52 K cI cJ cZ cB p0 p1 p2 p3 p4 p5 p6 p7 p8 p9 p10 p11 p12 p13 p14 p15 x0_3z5 x0_4z5 x0_5 x0_6 x0_7 x0_8 x0_9 x0_10 x0_11 x0_12 x0_13 x0_14 x1_1 x1_2 x1_3 x1_4 x1_5 x1_6 x1_7 x1_8 y2 x3_5 x3_6 y4 y5 y6 y7 y8 x9_6 y10 y11 y12 y13 y14 y15) := hD
    refine lv_pop hx hb d_A_putInstruction_15 rfl ?_
    exact W.vret hx hb hr (fun t ht hW => ⟨⟨(), rfl, trivial, ⟨x0_3z5, x0_4z5, x0_7, x9_6, y10, y11, y12, y13, y14, y15, by show va_P D classes _ t.heap; rw [ht]; exact hP, hD⟩⟩, hS.F ht⟩) hS.2.2 d_A_putInstruction_16
theorem v_A_putInstruction_s1 {R : Room} {s : State} {args : Array Value} {own : String} {index : Nat} (hk : ∀ w ∈ tb, w.before args s = true) (hl : Cond.methodLink own index y_A_putInstruction ∈ tb) (hR : 1 + 1 ≤ R.frames ∧ 8 + (2 + 11) + 25 ≤ R.locals) : CallW R s args own "SignMachine$Assembler" index y_A_putInstruction b_A_putInstruction 2 none (.code y_A_putInstruction b_A_putInstruction 2 none :: tb) ({ frames := 1, cells := 0, slots := 0, locals := 25 }) 0 0 1 := mk_v 1 hk k_971 hl k_970 k_44 k_123 rfl rfl h_A_putInstruction hR
set_option maxHeartbeats 4000000 in
set_option maxRecDepth 100000 in
theorem c_A_putWord_s1 (l : Launch) (K : CK) (D : va_G) (cI cJ cZ cB : ClassId) (p0 p1 p2 p3 p4 p5 p6 p7 p8 p9 p10 p11 p12 p13 p14 p15 : Nat) (sz : Nat) (x0_3 : Int32) (x0_4 : Int32) (x0_5 : Int32) (x0_6 : Int32) (x0_7 : Int32) (x0_8 : Bool) (x0_9 : Int64) (x0_10 : Int32) (x0_11 : Option (Fin 51)) (x0_12 : Int32) (x0_13 : Int32) (x0_14 : Int32) (x1_1 : Int32) (x1_2 : Int32) (x1_3 : Int32) (x1_4 : Int32) (x1_5 : Int32) (x1_6 : Int32) (x1_7 : Int64) (x1_8 : Int32) (y2 : Nat → Int32) (x3_5 : Int32) (x3_6 : Int32) (y4 : Nat → Int64) (y5 : Nat → Int32) (y6 : Nat → Int32) (y7 : Nat → Int32) (y8 : Nat → Int32) (x9_6 : Int32) (y10 : Nat → Int32) (y11 : Nat → Int32) (y12 : Nat → Int32) (y13 : Nat → Int32) (y14 : Nat → Int32) (y15 : Nat → Int32)  (a1 : Int32) : Met l y_A_putWord (.code y_A_putWord b_A_putWord 2 none :: tb) ({ frames := 2, cells := 0, slots := 0, locals := 46 }) (pMC K D cI cJ cZ cB (wS52 K cI cJ cZ cB p0 p1 p2 p3 p4 p5 p6 p7 p8 p9 p10 p11 p12 p13 p14 p15 x0_3 x0_4 x0_5 x0_6 x0_7 x0_8 x0_9 x0_10 x0_11 x0_12 x0_13 x0_14 x1_1 x1_2 x1_3 x1_4 x1_5 x1_6 x1_7 x1_8 y2 x3_5 x3_6 y4 y5 y6 y7 y8 x9_6 y10 y11 y12 y13 y14 y15) sz [.ref p0, .int a1]) (va_Qv (fun (_ : Unit) => True) (fun _ t => (∃ u_x0_3 : Int32, ∃ u_x0_4 : Int32, ∃ u_x0_7 : Int32, ∃ u_x0_13 : Int32, ∃ u_x9_6 : Int32, ∃ u_y10 : Nat → Int32, ∃ u_y11 : Nat → Int32, ∃ u_y12 : Nat → Int32, ∃ u_y13 : Nat → Int32, ∃ u_y14 : Nat → Int32, ∃ u_y15 : Nat → Int32, va_P D classes (wS52 K cI cJ cZ cB p0 p1 p2 p3 p4 p5 p6 p7 p8 p9 p10 p11 p12 p13 p14 p15 u_x0_3 u_x0_4 x0_5 x0_6 u_x0_7 x0_8 x0_9 x0_10 x0_11 x0_12 u_x0_13 x0_14 x1_1 x1_2 x1_3 x1_4 x1_5 x1_6 x1_7 x1_8 y2 x3_5 x3_6 y4 y5 y6 y7 y8 u_x9_6 u_y10 u_y11 u_y12 u_y13 u_y14 u_y15) t.heap ∧ va_D (va_A (wS52 K cI cJ cZ cB p0 p1 p2 p3 p4 p5 p6 p7 p8 p9 p10 p11 p12 p13 p14 p15 x0_3 x0_4 x0_5 x0_6 x0_7 x0_8 x0_9 x0_10 x0_11 x0_12 x0_13 x0_14 x1_1 x1_2 x1_3 x1_4 x1_5 x1_6 x1_7 x1_8 y2 x3_5 x3_6 y4 y5 y6 y7 y8 x9_6 y10 y11 y12 y13 y14 y15) sz) (wS52 K cI cJ cZ cB p0 p1 p2 p3 p4 p5 p6 p7 p8 p9 p10 p11 p12 p13 p14 p15 u_x0_3 u_x0_4 x0_5 x0_6 u_x0_7 x0_8 x0_9 x0_10 x0_11 x0_12 u_x0_13 x0_14 x1_1 x1_2 x1_3 x1_4 x1_5 x1_6 x1_7 x1_8 y2 x3_5 x3_6 y4 y5 y6 y7 y8 u_x9_6 u_y10 u_y11 u_y12 u_y13 u_y14 u_y15))) (va_A (wS52 K cI cJ cZ cB p0 p1 p2 p3 p4 p5 p6 p7 p8 p9 p10 p11 p12 p13 p14 p15 x0_3 x0_4 x0_5 x0_6 x0_7 x0_8 x0_9 x0_10 x0_11 x0_12 x0_13 x0_14 x1_1 x1_2 x1_3 x1_4 x1_5 x1_6 x1_7 x1_8 y2 x3_5 x3_6 y4 y5 y6 y7 y8 x9_6 y10 y11 y12 y13 y14 y15) sz)) 0 0 (va_A (wS52 K cI cJ cZ cB p0 p1 p2 p3 p4 p5 p6 p7 p8 p9 p10 p11 p12 p13 p14 p15 x0_3 x0_4 x0_5 x0_6 x0_7 x0_8 x0_9 x0_10 x0_11 x0_12 x0_13 x0_14 x1_1 x1_2 x1_3 x1_4 x1_5 x1_6 x1_7 x1_8 y2 x3_5 x3_6 y4 y5 y6 y7 y8 x9_6 y10 y11 y12 y13 y14 y15) sz) := by
  refine Met.ofW (cc := b_A_putWord) (maxL := 2) (ret := none) (by decide) rfl ?_
  intro p e s m args below meth c s₁ B hml hv
  obtain ⟨rfl, hsz, hK, hP, hD0, hC⟩ := hv
  subst hsz
  have hD := hD0.self (sz := s.heap.size)
  generalize hAe : va_A (wS52 K cI cJ cZ cB p0 p1 p2 p3 p4 p5 p6 p7 p8 p9 p10 p11 p12 p13 p14 p15 x0_3 x0_4 x0_5 x0_6 x0_7 x0_8 x0_9 x0_10 x0_11 x0_12 x0_13 x0_14 x1_1 x1_2 x1_3 x1_4 x1_5 x1_6 x1_7 x1_8 y2 x3_5 x3_6 y4 y5 y6 y7 y8 x9_6 y10 y11 y12 y13 y14 y15) s.heap.size = A at hD hC ⊢
  have hA : ∀ q : Nat, s.heap.size ≤ q → A q := fun q h => by rw [← hAe]; exact Or.inr h
  clear hAe hD0
  have hS : va_S A s.heap s.heap [] := va_S.rf
  have hx := B.exec
  have hb := B.bytes
  have hr := B.returns
  have hts := atoms_spec (ws := .code y_A_putWord b_A_putWord 2 none :: tb) B.pre
  have hk : ∀ w ∈ tb, w.before [.ref p0, .int a1].toArray s = true := fun w h => hts w (List.mem_cons_of_mem _ h)
  have hown : s.vm.findClass "SignMachine$Assembler" = some m.cls := findClass_of_methodNamed B.named
  have hlocks := B.notSynchronized
  have hl := lv_entry ([.ref p0, .int a1]) (n := 2) (Nat.le_of_ble_eq_true rfl)
  rw [lg_entry_eq]
  generalize (lg_sl ([.ref p0, .int a1]) ++ List.replicate (2 - (lg_sl ([.ref p0, .int a1])).length) Slot.unset).toArray = ls at hl ⊢
  have hl : lv_has ls 2 [(0, .ref p0), (1, .int a1)] := hl
  refine lv_aload_n hx hb d_A_putWord_0 rfl (lv_at hl 0 rfl) ?_
  refine lv_iconst (v := 0) hx hb d_A_putWord_1 (by decide) ?_
  refine va_put (D := D) (ci := 3) (v := .int (0 : Int32)) (ty := .int) (C := "SignMachine$Assembler") (T := F_A) (N := 15) hx hb hk fi_A ft_A ft_A_ok fn_A hown hK.1 hP hD hS 0 rfl rfl 13 (by decide) (hk _ k_650) (fun _ h9 => h9) rfl (by decide +kernel) rfl rfl (Nat.le_of_ble_eq_true rfl) d_A_putWord_2 (fun H locs hP hD hS => ?_)
  have hP : va_P D classes (wS52 K cI cJ cZ cB p0 p1 p2 p3 p4 p5 p6 p7 p8 p9 p10 p11 p12 p13 p14 p15 x0_3 x0_4 x0_5 x0_6 x0_7 x0_8 x0_9 x0_10 x0_11 x0_12 (0 : Int32) x0_14 x1_1 x1_2 x1_3 x1_4 x1_5 x1_6 x1_7 x1_8 y2 x3_5 x3_6 y4 y5 y6 y7 y8 x9_6 y10 y11 y12 y13 y14 y15) H := hP
  have hD : va_D A (wS52 K cI cJ cZ cB p0 p1 p2 p3 p4 p5 p6 p7 p8 p9 p10 p11 p12 p13 p14 p15 x0_3 x0_4 x0_5 x0_6 x0_7 x0_8 x0_9 x0_10 x0_11 x0_12 (0 : Int32) x0_14 x1_1 x1_2 x1_3 x1_4 x1_5 x1_6 x1_7 x1_8 y2 x3_5 x3_6 y4 y5 y6 y7 y8 x9_6 y10 y11 y12 y13 y14 y15) := hD
  refine lv_aload_n hx hb d_A_putWord_5 rfl (lv_at hl 0 rfl) ?_
  refine lv_iload_n hx hb d_A_putWord_6 rfl (lv_at hl 1 rfl) ?_
  refine kn_v (va_runV (C := "SignMachine$Assembler") (As := [.int a1]) (rest := []) ⟨hx, hb, hml, hown, hk⟩ (c_A_putInstruction_s1 l K D cI cJ cZ cB p0 p1 p2 p3 p4 p5 p6 p7 p8 p9 p10 p11 p12 p13 p14 p15 H.size x0_3 x0_4 x0_5 x0_6 x0_7 x0_8 x0_9 x0_10 x0_11 x0_12 (0 : Int32) x0_14 x1_1 x1_2 x1_3 x1_4 x1_5 x1_6 x1_7 x1_8 y2 x3_5 x3_6 y4 y5 y6 y7 y8 x9_6 y10 y11 y12 y13 y14 y15  a1 ) (v_A_putInstruction_s1 hk k_968 ⟨Nat.le_of_ble_eq_true rfl, Nat.le_of_ble_eq_true rfl⟩) (pMC_v hK hP hD hC hS hA (ci := 3) (q0 := 0) rfl rfl rfl) rfl rfl hl.1 rfl (lv_room (Nat.le_of_ble_eq_true rfl)) d_A_putWord_7 ⟨by decide, by decide⟩) hS hA hD (fun u t H locs ht hB hFr hS => ?_)
  obtain ⟨x0_3z1, x0_4z1, x0_7z1, x9_6z1, y10z1, y11z1, y12z1, y13z1, y14z1, y15z1, hP, hD⟩ := hB
  rw [ht] at hP
  have hD := dwk hD hFr
  clear ht hFr
  have hP : va_P D classes (wS52 K cI cJ cZ cB p0 p1 p2 p3 p4 p5 p6 p7 p8 p9 p10 p11 p12 p13 p14 p15 x0_3z1 x0_4z1 x0_5 x0_6 x0_7z1 x0_8 x0_9 x0_10 x0_11 x0_12 (0 : Int32) x0_14 x1_1 x1_2 x1_3 x1_4 x1_5 x1_6 x1_7 x1_8 y2 x3_5 x3_6 y4 y5 y6 y7 y8 x9_6z1 y10z1 y11z1 y12z1 y13z1 y14z1 y15z1) H := hP
  have hD : va_D A (wS52 K cI cJ cZ cB p0 p1 p2 p3 p4 p5 p6 p7 p8 p9 p10 p11 p12 p13 p14 p15 x0_3z1 x0_4z1 x0_5 x0_6 x0_7z1 x0_8 x0_9 x0_10 x0_11 x0_12 (0 : Int32) x0_14 x1_1 x1_2 x1_3 x1_4 x1_5 x1_6 x1_7 x1_8 y2 x3_5 x3_6 y4 y5 y6 y7 y8 x9_6z1 y10z1 y11z1 y12z1 y13z1 y14z1 y15z1) := hD
  exact W.vret hx hb hr (fun t ht hW => ⟨⟨(), rfl, trivial, ⟨x0_3z1, x0_4z1, x0_7z1, (0 : Int32), x9_6z1, y10z1, y11z1, y12z1, y13z1, y14z1, y15z1, by show va_P D classes _ t.heap; rw [ht]; exact hP, hD⟩⟩, hS.F ht⟩) hS.2.2 d_A_putWord_10
theorem v_A_putWord_s1 {R : Room} {s : State} {args : Array Value} {own : String} {index : Nat} (hk : ∀ w ∈ tb, w.before args s = true) (hl : Cond.methodLink own index y_A_putWord ∈ tb) (hR : 2 + 1 ≤ R.frames ∧ 8 + (2 + 11) + 46 ≤ R.locals) : CallW R s args own "SignMachine$Assembler" index y_A_putWord b_A_putWord 2 none (.code y_A_putWord b_A_putWord 2 none :: tb) ({ frames := 2, cells := 0, slots := 0, locals := 46 }) 0 0 1 := mk_v 1 hk k_967 hl k_966 k_43 k_123 rfl rfl h_A_putWord hR
set_option maxHeartbeats 4000000 in
set_option maxRecDepth 100000 in
theorem c_A_putPending_s1 (l : Launch) (K : CK) (D : va_G) (cI cJ cZ cB : ClassId) (p0 p1 p2 p3 p4 p5 p6 p7 p8 p9 p10 p11 p12 p13 p14 p15 : Nat) (sz : Nat) (x0_3 : Int32) (x0_4 : Int32) (x0_5 : Int32) (x0_6 : Int32) (x0_7 : Int32) (x0_8 : Bool) (x0_9 : Int64) (x0_10 : Int32) (x0_11 : Option (Fin 51)) (x0_12 : Int32) (x0_13 : Int32) (x0_14 : Int32) (x1_1 : Int32) (x1_2 : Int32) (x1_3 : Int32) (x1_4 : Int32) (x1_5 : Int32) (x1_6 : Int32) (x1_7 : Int64) (x1_8 : Int32) (y2 : Nat → Int32) (x3_5 : Int32) (x3_6 : Int32) (y4 : Nat → Int64) (y5 : Nat → Int32) (y6 : Nat → Int32) (y7 : Nat → Int32) (y8 : Nat → Int32) (x9_6 : Int32) (y10 : Nat → Int32) (y11 : Nat → Int32) (y12 : Nat → Int32) (y13 : Nat → Int32) (y14 : Nat → Int32) (y15 : Nat → Int32)   : Met l y_A_putPending (.code y_A_putPending b_A_putPending 3 none :: tb) ({ frames := 3, cells := 0, slots := 0, locals := 67 }) (pMC K D cI cJ cZ cB (wS52 K cI cJ cZ cB p0 p1 p2 p3 p4 p5 p6 p7 p8 p9 p10 p11 p12 p13 p14 p15 x0_3 x0_4 x0_5 x0_6 x0_7 x0_8 x0_9 x0_10 x0_11 x0_12 x0_13 x0_14 x1_1 x1_2 x1_3 x1_4 x1_5 x1_6 x1_7 x1_8 y2 x3_5 x3_6 y4 y5 y6 y7 y8 x9_6 y10 y11 y12 y13 y14 y15) sz [.ref p0]) (va_Qv (fun (_ : Unit) => True) (fun _ t => (∃ u_x0_3 : Int32, ∃ u_x0_4 : Int32, ∃ u_x0_7 : Int32, ∃ u_x0_13 : Int32, ∃ u_y5 : Nat → Int32, ∃ u_y6 : Nat → Int32, ∃ u_x9_6 : Int32, ∃ u_y10 : Nat → Int32, ∃ u_y11 : Nat → Int32, ∃ u_y12 : Nat → Int32, ∃ u_y13 : Nat → Int32, ∃ u_y14 : Nat → Int32, ∃ u_y15 : Nat → Int32, va_P D classes (wS52 K cI cJ cZ cB p0 p1 p2 p3 p4 p5 p6 p7 p8 p9 p10 p11 p12 p13 p14 p15 u_x0_3 u_x0_4 x0_5 x0_6 u_x0_7 x0_8 x0_9 x0_10 x0_11 x0_12 u_x0_13 x0_14 x1_1 x1_2 x1_3 x1_4 x1_5 x1_6 x1_7 x1_8 y2 x3_5 x3_6 y4 u_y5 u_y6 y7 y8 u_x9_6 u_y10 u_y11 u_y12 u_y13 u_y14 u_y15) t.heap ∧ va_D (va_A (wS52 K cI cJ cZ cB p0 p1 p2 p3 p4 p5 p6 p7 p8 p9 p10 p11 p12 p13 p14 p15 x0_3 x0_4 x0_5 x0_6 x0_7 x0_8 x0_9 x0_10 x0_11 x0_12 x0_13 x0_14 x1_1 x1_2 x1_3 x1_4 x1_5 x1_6 x1_7 x1_8 y2 x3_5 x3_6 y4 y5 y6 y7 y8 x9_6 y10 y11 y12 y13 y14 y15) sz) (wS52 K cI cJ cZ cB p0 p1 p2 p3 p4 p5 p6 p7 p8 p9 p10 p11 p12 p13 p14 p15 u_x0_3 u_x0_4 x0_5 x0_6 u_x0_7 x0_8 x0_9 x0_10 x0_11 x0_12 u_x0_13 x0_14 x1_1 x1_2 x1_3 x1_4 x1_5 x1_6 x1_7 x1_8 y2 x3_5 x3_6 y4 u_y5 u_y6 y7 y8 u_x9_6 u_y10 u_y11 u_y12 u_y13 u_y14 u_y15))) (va_A (wS52 K cI cJ cZ cB p0 p1 p2 p3 p4 p5 p6 p7 p8 p9 p10 p11 p12 p13 p14 p15 x0_3 x0_4 x0_5 x0_6 x0_7 x0_8 x0_9 x0_10 x0_11 x0_12 x0_13 x0_14 x1_1 x1_2 x1_3 x1_4 x1_5 x1_6 x1_7 x1_8 y2 x3_5 x3_6 y4 y5 y6 y7 y8 x9_6 y10 y11 y12 y13 y14 y15) sz)) 0 0 (va_A (wS52 K cI cJ cZ cB p0 p1 p2 p3 p4 p5 p6 p7 p8 p9 p10 p11 p12 p13 p14 p15 x0_3 x0_4 x0_5 x0_6 x0_7 x0_8 x0_9 x0_10 x0_11 x0_12 x0_13 x0_14 x1_1 x1_2 x1_3 x1_4 x1_5 x1_6 x1_7 x1_8 y2 x3_5 x3_6 y4 y5 y6 y7 y8 x9_6 y10 y11 y12 y13 y14 y15) sz) := by
  refine Met.ofW (cc := b_A_putPending) (maxL := 3) (ret := none) (by decide) rfl ?_
  intro p e s m args below meth c s₁ B hml hv
  obtain ⟨rfl, hsz, hK, hP, hD0, hC⟩ := hv
  subst hsz
  have hD := hD0.self (sz := s.heap.size)
  generalize hAe : va_A (wS52 K cI cJ cZ cB p0 p1 p2 p3 p4 p5 p6 p7 p8 p9 p10 p11 p12 p13 p14 p15 x0_3 x0_4 x0_5 x0_6 x0_7 x0_8 x0_9 x0_10 x0_11 x0_12 x0_13 x0_14 x1_1 x1_2 x1_3 x1_4 x1_5 x1_6 x1_7 x1_8 y2 x3_5 x3_6 y4 y5 y6 y7 y8 x9_6 y10 y11 y12 y13 y14 y15) s.heap.size = A at hD hC ⊢
  have hA : ∀ q : Nat, s.heap.size ≤ q → A q := fun q h => by rw [← hAe]; exact Or.inr h
  clear hAe hD0
  have hS : va_S A s.heap s.heap [] := va_S.rf
  have hx := B.exec
  have hb := B.bytes
  have hr := B.returns
  have hts := atoms_spec (ws := .code y_A_putPending b_A_putPending 3 none :: tb) B.pre
  have hk : ∀ w ∈ tb, w.before [.ref p0].toArray s = true := fun w h => hts w (List.mem_cons_of_mem _ h)
  have hown : s.vm.findClass "SignMachine$Assembler" = some m.cls := findClass_of_methodNamed B.named
  have hlocks := B.notSynchronized
  have hl := lv_entry ([.ref p0]) (n := 3) (Nat.le_of_ble_eq_true rfl)
  rw [lg_entry_eq]
  generalize (lg_sl ([.ref p0]) ++ List.replicate (3 - (lg_sl ([.ref p0])).length) Slot.unset).toArray = ls at hl ⊢
  have hl : lv_has ls 3 [(0, .ref p0)] := hl
  refine lv_iconst (v := 0) hx hb d_A_putPending_0 (by decide) ?_
  refine lv_istore_n (lv' := [(1, .int (0 : Int32)), (0, .ref p0)]) hx hb d_A_putPending_1 rfl hl (by decide) rfl (fun ls hl => ?_)
  have LP2_52 : ∀ (n : Nat) (l1 : Int32) (x0_3 : Int32) (x0_4 : Int32) (x0_7 : Int32) (x0_13 : Int32) (y5 : Nat → Int32) (y6 : Nat → Int32) (x9_6 : Int32) (y10 : Nat → Int32) (y11 : Nat → Int32) (y12 : Nat → Int32) (y13 : Nat → Int32) (y14 : Nat → Int32) (y15 : Nat → Int32) (H : Heap) (locs : List Loc) (ls : Array Slot), ((x3_5).toInt - (l1).toInt).toNat < n → ¬ l1 < (0 : Int32) → va_P D classes (wS52 K cI cJ cZ cB p0 p1 p2 p3 p4 p5 p6 p7 p8 p9 p10 p11 p12 p13 p14 p15 x0_3 x0_4 x0_5 x0_6 x0_7 x0_8 x0_9 x0_10 x0_11 x0_12 x0_13 x0_14 x1_1 x1_2 x1_3 x1_4 x1_5 x1_6 x1_7 x1_8 y2 x3_5 x3_6 y4 y5 y6 y7 y8 x9_6 y10 y11 y12 y13 y14 y15) H → va_D A (wS52 K cI cJ cZ cB p0 p1 p2 p3 p4 p5 p6 p7 p8 p9 p10 p11 p12 p13 p14 p15 x0_3 x0_4 x0_5 x0_6 x0_7 x0_8 x0_9 x0_10 x0_11 x0_12 x0_13 x0_14 x1_1 x1_2 x1_3 x1_4 x1_5 x1_6 x1_7 x1_8 y2 x3_5 x3_6 y4 y5 y6 y7 y8 x9_6 y10 y11 y12 y13 y14 y15) → va_S A s.heap H locs → lv_has ls 3 [(1, .int l1), (0, .ref p0)] → W p l e ({ frames := 3, cells := 0, slots := 0, locals := 67 }) s m [.ref p0].toArray below meth c H locs 0 0 (MQ below (va_Qv (fun (_ : Unit) => True) (fun _ t => (∃ u_x0_3 : Int32, ∃ u_x0_4 : Int32, ∃ u_x0_7 : Int32, ∃ u_x0_13 : Int32, ∃ u_y5 : Nat → Int32, ∃ u_y6 : Nat → Int32, ∃ u_x9_6 : Int32, ∃ u_y10 : Nat → Int32, ∃ u_y11 : Nat → Int32, ∃ u_y12 : Nat → Int32, ∃ u_y13 : Nat → Int32, ∃ u_y14 : Nat → Int32, ∃ u_y15 : Nat → Int32, va_P D classes (wS52 K cI cJ cZ cB p0 p1 p2 p3 p4 p5 p6 p7 p8 p9 p10 p11 p12 p13 p14 p15 u_x0_3 u_x0_4 x0_5 x0_6 u_x0_7 x0_8 x0_9 x0_10 x0_11 x0_12 u_x0_13 x0_14 x1_1 x1_2 x1_3 x1_4 x1_5 x1_6 x1_7 x1_8 y2 x3_5 x3_6 y4 u_y5 u_y6 y7 y8 u_x9_6 u_y10 u_y11 u_y12 u_y13 u_y14 u_y15) t.heap ∧ va_D A (wS52 K cI cJ cZ cB p0 p1 p2 p3 p4 p5 p6 p7 p8 p9 p10 p11 p12 p13 p14 p15 u_x0_3 u_x0_4 x0_5 x0_6 u_x0_7 x0_8 x0_9 x0_10 x0_11 x0_12 u_x0_13 x0_14 x1_1 x1_2 x1_3 x1_4 x1_5 x1_6 x1_7 x1_8 y2 x3_5 x3_6 y4 u_y5 u_y6 y7 y8 u_x9_6 u_y10 u_y11 u_y12 u_y13 u_y14 u_y15))) A) [.ref p0].toArray s 0 0 A) (F0 m 2 ls []) := by
    intro n
    induction n with
    | zero => intro l1 x0_3 x0_4 x0_7 x0_13 y5 y6 x9_6 y10 y11 y12 y13 y14 y15 H locs ls hn; exact absurd hn (Nat.not_lt_zero _)
    | succ n ih =>
      intro l1 x0_3 x0_4 x0_7 x0_13 y5 y6 x9_6 y10 y11 y12 y13 y14 y15 H locs ls hn2_52 hc2_52 hP hD hS hl
      refine lv_iload_n hx hb d_A_putPending_2 rfl (lv_at hl 0 rfl) ?_
      refine lv_aload_n hx hb d_A_putPending_3 rfl (lv_at hl 1 rfl) ?_
      refine va_get (D := D) (ci := 3) (v := .ref p3) (C := "SignMachine$Assembler") (T := F_A) (N := 15) hx hb hk fi_A hown hK.1 hP 0 rfl rfl 1 (by decide) (hk _ k_633) (fun _ h9 => h9) rfl d_A_putPending_4 ?_
      refine va_getN (D := D) (ci := 5) (v := .int x3_5) (C := "SignMachine$Names") (T := F_N) (N := 7) hx hb hk fi_N hown hK.1 hP 3 rfl rfl 5 (by decide) (va_Nw.use rfl (hK.2 _ n_582)) (fun _ h9 => h9) rfl d_A_putPending_7 ?_
      refine lv_icmp_ge (tgt := 63) hx hb d_A_putPending_10 (by decide) (fun c1 => ?_) (fun c1 => ?_)
      · exact W.vret hx hb hr (fun t ht hW => ⟨⟨(), rfl, trivial, ⟨x0_3, x0_4, x0_7, x0_13, y5, y6, x9_6, y10, y11, y12, y13, y14, y15, by show va_P D classes _ t.heap; rw [ht]; exact hP, hD⟩⟩, hS.F ht⟩) hS.2.2 d_A_putPending_63
      · refine lv_aload_n hx hb d_A_putPending_13 rfl (lv_at hl 1 rfl) ?_
        refine va_get (D := D) (ci := 3) (v := .int x0_3) (C := "SignMachine$Assembler") (T := F_A) (N := 15) hx hb hk fi_A hown hK.1 hP 0 rfl rfl 3 (by decide) (hk _ k_636) (fun _ h9 => h9) rfl d_A_putPending_14 ?_
        refine lv_if_ne (tgt := 63) hx hb d_A_putPending_17 (by decide) (fun c2 => ?_) (fun c2 => ?_)
        · exact W.vret hx hb hr (fun t ht hW => ⟨⟨(), rfl, trivial, ⟨x0_3, x0_4, x0_7, x0_13, y5, y6, x9_6, y10, y11, y12, y13, y14, y15, by show va_P D classes _ t.heap; rw [ht]; exact hP, hD⟩⟩, hS.F ht⟩) hS.2.2 d_A_putPending_63
        · refine lv_aload_n hx hb d_A_putPending_20 rfl (lv_at hl 1 rfl) ?_
          refine va_get (D := D) (ci := 3) (v := .ref p3) (C := "SignMachine$Assembler") (T := F_A) (N := 15) hx hb hk fi_A hown hK.1 hP 0 rfl rfl 1 (by decide) (hk _ k_633) (fun _ h9 => h9) rfl d_A_putPending_21 ?_
          refine lv_iload_n hx hb d_A_putPending_24 rfl (lv_at hl 0 rfl) ?_
          refine sn_i (va_runV (C := "SignMachine$Names") (As := [.int l1]) (rest := []) ⟨hx, hb, hml, hown, hk⟩ (c_N_isTold_s1 l K D cI cJ cZ cB p0 p1 p2 p3 p4 p5 p6 p7 p8 p9 p10 p11 p12 p13 p14 p15 H.size x0_3 x0_4 x0_5 x0_6 x0_7 x0_8 x0_9 x0_10 x0_11 x0_12 x0_13 x0_14 x1_1 x1_2 x1_3 x1_4 x1_5 x1_6 x1_7 x1_8 y2 x3_5 x3_6 y4 y5 y6 y7 y8 x9_6 y10 y11 y12 y13 y14 y15  l1 ) (v_N_isTold_s1 hk k_928 ⟨Nat.le_of_ble_eq_true rfl, Nat.le_of_ble_eq_true rfl⟩) (pMC_v hK hP hD hC hS hA (ci := 5) (q0 := 3) rfl rfl rfl) rfl rfl hl.1 rfl (lv_room (Nat.le_of_ble_eq_true rfl)) d_A_putPending_25 ⟨by decide, by decide⟩) hS hA hD (fun rz3 u t H locs hr0 ht hB hFr hS => ?_)
          obtain ⟨z3, hz3⟩ := hr0
          subst hz3
          obtain ⟨hP, hD⟩ := hB
          rw [ht] at hP
          have hD := dwk hD hFr
          clear ht hFr
          have hP : va_P D classes (wS52 K cI cJ cZ cB p0 p1 p2 p3 p4 p5 p6 p7 p8 p9 p10 p11 p12 p13 p14 p15 x0_3 x0_4 x0_5 x0_6 x0_7 x0_8 x0_9 x0_10 x0_11 x0_12 x0_13 x0_14 x1_1 x1_2 x1_3 x1_4 x1_5 x1_6 x1_7 x1_8 y2 x3_5 x3_6 y4 y5 y6 y7 y8 x9_6 y10 y11 y12 y13 y14 y15) H := hP
          have hD : va_D A (wS52 K cI cJ cZ cB p0 p1 p2 p3 p4 p5 p6 p7 p8 p9 p10 p11 p12 p13 p14 p15 x0_3 x0_4 x0_5 x0_6 x0_7 x0_8 x0_9 x0_10 x0_11 x0_12 x0_13 x0_14 x1_1 x1_2 x1_3 x1_4 x1_5 x1_6 x1_7 x1_8 y2 x3_5 x3_6 y4 y5 y6 y7 y8 x9_6 y10 y11 y12 y13 y14 y15) := hD
          refine lv_if_ne (tgt := 57) hx hb d_A_putPending_28 (by decide) (fun c4 => ?_) (fun c4 => ?_)
          · obtain ⟨v5, hv5⟩ : ∃ y : Int32, y = (l1 + (1 : Int32)) := ⟨_, rfl⟩
            refine lv_iinc (v := v5) (lv' := [(1, .int v5), (0, .ref p0)]) hx hb d_A_putPending_57 hl (k := 0) rfl (by rw [hv5]; rfl) (by decide) rfl (fun ls hl => ?_)
            refine lv_goto (tgt := 2) hx hb d_A_putPending_60 (by decide) ?_
            exact ih v5 x0_3 x0_4 x0_7 x0_13 y5 y6 x9_6 y10 y11 y12 y13 y14 y15 H _ ls (lpu c1 hv5 hn2_52) (lpn hc2_52 c1 hv5) hP hD hS (lv_sub hl [0, 1] rfl)
          · refine lv_aload_n hx hb d_A_putPending_31 rfl (lv_at hl 1 rfl) ?_
            refine va_get (D := D) (ci := 3) (v := .ref p3) (C := "SignMachine$Assembler") (T := F_A) (N := 15) hx hb hk fi_A hown hK.1 hP 0 rfl rfl 1 (by decide) (hk _ k_633) (fun _ h9 => h9) rfl d_A_putPending_32 ?_
            refine lv_iload_n hx hb d_A_putPending_35 rfl (lv_at hl 0 rfl) ?_
            refine sn_i (va_runV (C := "SignMachine$Names") (As := [.int l1]) (rest := []) ⟨hx, hb, hml, hown, hk⟩ (c_N_valueOf_s1 l K D cI cJ cZ cB p0 p1 p2 p3 p4 p5 p6 p7 p8 p9 p10 p11 p12 p13 p14 p15 H.size x0_3 x0_4 x0_5 x0_6 x0_7 x0_8 x0_9 x0_10 x0_11 x0_12 x0_13 x0_14 x1_1 x1_2 x1_3 x1_4 x1_5 x1_6 x1_7 x1_8 y2 x3_5 x3_6 y4 y5 y6 y7 y8 x9_6 y10 y11 y12 y13 y14 y15  l1 ) (v_N_valueOf_s1 hk k_1005 ⟨Nat.le_of_ble_eq_true rfl, Nat.le_of_ble_eq_true rfl⟩) (pMC_v hK hP hD hC hS hA (ci := 5) (q0 := 3) rfl rfl rfl) rfl rfl hl.1 rfl (lv_room (Nat.le_of_ble_eq_true rfl)) d_A_putPending_36 ⟨by decide, by decide⟩) hS hA hD (fun rz6 u t H locs hr0 ht hB hFr hS => ?_)
            obtain ⟨hP, hD⟩ := hB
            rw [ht] at hP
            have hD := dwk hD hFr
            clear ht hFr
            have hP : va_P D classes (wS52 K cI cJ cZ cB p0 p1 p2 p3 p4 p5 p6 p7 p8 p9 p10 p11 p12 p13 p14 p15 x0_3 x0_4 x0_5 x0_6 x0_7 x0_8 x0_9 x0_10 x0_11 x0_12 x0_13 x0_14 x1_1 x1_2 x1_3 x1_4 x1_5 x1_6 x1_7 x1_8 y2 x3_5 x3_6 y4 y5 y6 y7 y8 x9_6 y10 y11 y12 y13 y14 y15) H := hP
            have hD : va_D A (wS52 K cI cJ cZ cB p0 p1 p2 p3 p4 p5 p6 p7 p8 p9 p10 p11 p12 p13 p14 p15 x0_3 x0_4 x0_5 x0_6 x0_7 x0_8 x0_9 x0_10 x0_11 x0_12 x0_13 x0_14 x1_1 x1_2 x1_3 x1_4 x1_5 x1_6 x1_7 x1_8 y2 x3_5 x3_6 y4 y5 y6 y7 y8 x9_6 y10 y11 y12 y13 y14 y15) := hD
            refine lv_istore_n (lv' := [(2, .int rz6), (1, .int l1), (0, .ref p0)]) hx hb d_A_putPending_39 rfl hl (by decide) rfl (fun ls hl => ?_)
            refine lv_aload_n hx hb d_A_putPending_40 rfl (lv_at hl 2 rfl) ?_
            refine va_get (D := D) (ci := 3) (v := .ref p3) (C := "SignMachine$Assembler") (T := F_A) (N := 15) hx hb hk fi_A hown hK.1 hP 0 rfl rfl 1 (by decide) (hk _ k_633) (fun _ h9 => h9) rfl d_A_putPending_41 ?_
            refine lv_iload_n hx hb d_A_putPending_44 rfl (lv_at hl 1 rfl) ?_
            refine lv_aload_n hx hb d_A_putPending_45 rfl (lv_at hl 2 rfl) ?_
            refine va_get (D := D) (ci := 3) (v := .int x0_7) (C := "SignMachine$Assembler") (T := F_A) (N := 15) hx hb hk fi_A hown hK.1 hP 0 rfl rfl 7 (by decide) (hk _ k_644) (fun _ h9 => h9) rfl d_A_putPending_46 ?_
            refine kn_v (va_runV (C := "SignMachine$Names") (As := [.int l1, .int x0_7]) (rest := []) ⟨hx, hb, hml, hown, hk⟩ (c_N_tell_s1 l K D cI cJ cZ cB p0 p1 p2 p3 p4 p5 p6 p7 p8 p9 p10 p11 p12 p13 p14 p15 H.size x0_3 x0_4 x0_5 x0_6 x0_7 x0_8 x0_9 x0_10 x0_11 x0_12 x0_13 x0_14 x1_1 x1_2 x1_3 x1_4 x1_5 x1_6 x1_7 x1_8 y2 x3_5 x3_6 y4 y5 y6 y7 y8 x9_6 y10 y11 y12 y13 y14 y15  l1 x0_7 ) (v_N_tell_s1 hk k_940 ⟨Nat.le_of_ble_eq_true rfl, Nat.le_of_ble_eq_true rfl⟩) (pMC_v hK hP hD hC hS hA (ci := 5) (q0 := 3) rfl rfl rfl) rfl rfl hl.1 rfl (lv_room (Nat.le_of_ble_eq_true rfl)) d_A_putPending_49 ⟨by decide, by decide⟩) hS hA hD (fun u t H locs ht hB hFr hS => ?_)
            obtain ⟨y5z7, y6z7, hP, hD⟩ := hB
            rw [ht] at hP
            have hD := dwk hD hFr
            clear ht hFr
            have hP : va_P D classes (wS52 K cI cJ cZ cB p0 p1 p2 p3 p4 p5 p6 p7 p8 p9 p10 p11 p12 p13 p14 p15 x0_3 x0_4 x0_5 x0_6 x0_7 x0_8 x0_9 x0_10 x0_11 x0_12 x0_13 x0_14 x1_1 x1_2 x1_3 x1_4 x1_5 x1_6 x1_7 x1_8 y2 x3_5 x3_6 y4 y5z7 y6z7 y7 y8 x9_6 y10 y11 y12 y13 y14 y15) H := hP
            have hD : va_D A (wS52 K cI cJ cZ cB p0 p1 p2 p3 p4 p5 p6 p7 p8 p9 p10 p11 p12 p13 p14 p15 x0_3 x0_4 x0_5 x0_6 x0_7 x0_8 x0_9 x0_10 x0_11 x0_12 x0_13 x0_14 x1_1 x1_2 x1_3 x1_4 x1_5 x1_6 x1_7 x1_8 y2 x3_5 x3_6 y4 y5z7 y6z7 y7 y8 x9_6 y10 y11 y12 y13 y14 y15) := hD
            refine lv_aload_n hx hb d_A_putPending_52 rfl (lv_at hl 2 rfl) ?_
            refine lv_iload_n hx hb d_A_putPending_53 rfl (lv_at hl 0 rfl) ?_
            refine kn_v (va_runV (C := "SignMachine$Assembler") (As := [.int rz6]) (rest := []) ⟨hx, hb, hml, hown, hk⟩ (c_A_putWord_s1 l K D cI cJ cZ cB p0 p1 p2 p3 p4 p5 p6 p7 p8 p9 p10 p11 p12 p13 p14 p15 H.size x0_3 x0_4 x0_5 x0_6 x0_7 x0_8 x0_9 x0_10 x0_11 x0_12 x0_13 x0_14 x1_1 x1_2 x1_3 x1_4 x1_5 x1_6 x1_7 x1_8 y2 x3_5 x3_6 y4 y5z7 y6z7 y7 y8 x9_6 y10 y11 y12 y13 y14 y15  rz6 ) (v_A_putWord_s1 hk k_964 ⟨Nat.le_of_ble_eq_true rfl, Nat.le_of_ble_eq_true rfl⟩) (pMC_v hK hP hD hC hS hA (ci := 3) (q0 := 0) rfl rfl rfl) rfl rfl hl.1 rfl (lv_room (Nat.le_of_ble_eq_true rfl)) d_A_putPending_54 ⟨by decide, by decide⟩) hS hA hD (fun u t H locs ht hB hFr hS => ?_)
            obtain ⟨x0_3z8, x0_4z8, x0_7z8, x0_13z8, x9_6z8, y10z8, y11z8, y12z8, y13z8, y14z8, y15z8, hP, hD⟩ := hB
            rw [ht] at hP
            have hD := dwk hD hFr
            clear ht hFr
            have hP : va_P D classes (wS52 K cI cJ cZ cB p0 p1 p2 p3 p4 p5 p6 p7 p8 p9 p10 p11 p12 p13 p14 p15 x0_3z8 x0_4z8 x0_5 x0_6 x0_7z8 x0_8 x0_9 x0_10 x0_11 x0_12 x0_13z8 x0_14 x1_1 x1_2 x1_3 x1_4 x1_5 x1_6 x1_7 x1_8 y2 x3_5 x3_6 y4 y5z7 y6z7 y7 y8 x9_6z8 y10z8 y11z8 y12z8 y13z8 y14z8 y15z8) H := hP
            have hD : va_D A (wS52 K cI cJ cZ cB p0 p1 p2 p3 p4 p5 p6 p7 p8 p9 p10 p11 p12 p13 p14 p15 x0_3z8 x0_4z8 x0_5 x0_6 x0_7z8 x0_8 x0_9 x0_10 x0_11 x0_12 x0_13z8 x0_14 x1_1 x1_2 x1_3 x1_4 x1_5 x1_6 x1_7 x1_8 y2 x3_5 x3_6 y4 y5z7 y6z7 y7 y8 x9_6z8 y10z8 y11z8 y12z8 y13z8 y14z8 y15z8) := hD
            obtain ⟨v9, hv9⟩ : ∃ y : Int32, y = (l1 + (1 : Int32)) := ⟨_, rfl⟩
            refine lv_iinc (v := v9) (lv' := [(1, .int v9), (2, .int rz6), (0, .ref p0)]) hx hb d_A_putPending_57 hl (k := 1) rfl (by rw [hv9]; rfl) (by decide) rfl (fun ls hl => ?_)
            refine lv_goto (tgt := 2) hx hb d_A_putPending_60 (by decide) ?_
            exact ih v9 x0_3z8 x0_4z8 x0_7z8 x0_13z8 y5z7 y6z7 x9_6z8 y10z8 y11z8 y12z8 y13z8 y14z8 y15z8 H _ ls (lpu c1 hv9 hn2_52) (lpn hc2_52 c1 hv9) hP hD hS (lv_sub hl [0, 2] rfl)
  exact LP2_52 _ (0 : Int32) x0_3 x0_4 x0_7 x0_13 y5 y6 x9_6 y10 y11 y12 y13 y14 y15 s.heap _ ls (Nat.lt_succ_self _) (by decide) hP hD hS hl
theorem v_A_putPending_s1 {R : Room} {s : State} {args : Array Value} {own : String} {index : Nat} (hk : ∀ w ∈ tb, w.before args s = true) (hl : Cond.methodLink own index y_A_putPending ∈ tb) (hR : 3 + 1 ≤ R.frames ∧ 8 + (3 + 11) + 67 ≤ R.locals) : CallW R s args own "SignMachine$Assembler" index y_A_putPending b_A_putPending 3 none (.code y_A_putPending b_A_putPending 3 none :: tb) ({ frames := 3, cells := 0, slots := 0, locals := 67 }) 0 0 0 := mk_v 0 hk k_1065 hl k_1064 k_57 k_123 rfl rfl h_A_putPending hR
set_option maxHeartbeats 4000000 in
set_option maxRecDepth 100000 in
theorem c_A_takePlace_s1 (l : Launch) (K : CK) (D : va_G) (cI cJ cZ cB : ClassId) (p0 p1 p2 p3 p4 p5 p6 p7 p8 p9 p10 p11 p12 p13 p14 p15 : Nat) (sz : Nat) (x0_3 : Int32) (x0_4 : Int32) (x0_5 : Int32) (x0_6 : Int32) (x0_7 : Int32) (x0_8 : Bool) (x0_9 : Int64) (x0_10 : Int32) (x0_11 : Option (Fin 51)) (x0_12 : Int32) (x0_13 : Int32) (x0_14 : Int32) (x1_1 : Int32) (x1_2 : Int32) (x1_3 : Int32) (x1_4 : Int32) (x1_5 : Int32) (x1_6 : Int32) (x1_7 : Int64) (x1_8 : Int32) (y2 : Nat → Int32) (x3_5 : Int32) (x3_6 : Int32) (y4 : Nat → Int64) (y5 : Nat → Int32) (y6 : Nat → Int32) (y7 : Nat → Int32) (y8 : Nat → Int32) (x9_6 : Int32) (y10 : Nat → Int32) (y11 : Nat → Int32) (y12 : Nat → Int32) (y13 : Nat → Int32) (y14 : Nat → Int32) (y15 : Nat → Int32)  (a1 : Int32) : Met l y_A_takePlace (.code y_A_takePlace b_A_takePlace 2 none :: tb) ({ frames := 4, cells := 0, slots := 0, locals := 89 }) (pMC K D cI cJ cZ cB (wS52 K cI cJ cZ cB p0 p1 p2 p3 p4 p5 p6 p7 p8 p9 p10 p11 p12 p13 p14 p15 x0_3 x0_4 x0_5 x0_6 x0_7 x0_8 x0_9 x0_10 x0_11 x0_12 x0_13 x0_14 x1_1 x1_2 x1_3 x1_4 x1_5 x1_6 x1_7 x1_8 y2 x3_5 x3_6 y4 y5 y6 y7 y8 x9_6 y10 y11 y12 y13 y14 y15) sz [.ref p0, .int a1]) (va_Qv (fun (_ : Unit) => True) (fun _ t => (∃ u_x0_3 : Int32, ∃ u_x0_4 : Int32, ∃ u_x0_5 : Int32, ∃ u_x0_6 : Int32, ∃ u_x0_7 : Int32, ∃ u_x0_8 : Bool, ∃ u_x0_11 : Option (Fin 51), ∃ u_x0_13 : Int32, ∃ u_y5 : Nat → Int32, ∃ u_y6 : Nat → Int32, ∃ u_x9_6 : Int32, ∃ u_y10 : Nat → Int32, ∃ u_y11 : Nat → Int32, ∃ u_y12 : Nat → Int32, ∃ u_y13 : Nat → Int32, ∃ u_y14 : Nat → Int32, ∃ u_y15 : Nat → Int32, va_P D classes (wS52 K cI cJ cZ cB p0 p1 p2 p3 p4 p5 p6 p7 p8 p9 p10 p11 p12 p13 p14 p15 u_x0_3 u_x0_4 u_x0_5 u_x0_6 u_x0_7 u_x0_8 x0_9 x0_10 u_x0_11 x0_12 u_x0_13 x0_14 x1_1 x1_2 x1_3 x1_4 x1_5 x1_6 x1_7 x1_8 y2 x3_5 x3_6 y4 u_y5 u_y6 y7 y8 u_x9_6 u_y10 u_y11 u_y12 u_y13 u_y14 u_y15) t.heap ∧ va_D (va_A (wS52 K cI cJ cZ cB p0 p1 p2 p3 p4 p5 p6 p7 p8 p9 p10 p11 p12 p13 p14 p15 x0_3 x0_4 x0_5 x0_6 x0_7 x0_8 x0_9 x0_10 x0_11 x0_12 x0_13 x0_14 x1_1 x1_2 x1_3 x1_4 x1_5 x1_6 x1_7 x1_8 y2 x3_5 x3_6 y4 y5 y6 y7 y8 x9_6 y10 y11 y12 y13 y14 y15) sz) (wS52 K cI cJ cZ cB p0 p1 p2 p3 p4 p5 p6 p7 p8 p9 p10 p11 p12 p13 p14 p15 u_x0_3 u_x0_4 u_x0_5 u_x0_6 u_x0_7 u_x0_8 x0_9 x0_10 u_x0_11 x0_12 u_x0_13 x0_14 x1_1 x1_2 x1_3 x1_4 x1_5 x1_6 x1_7 x1_8 y2 x3_5 x3_6 y4 u_y5 u_y6 y7 y8 u_x9_6 u_y10 u_y11 u_y12 u_y13 u_y14 u_y15))) (va_A (wS52 K cI cJ cZ cB p0 p1 p2 p3 p4 p5 p6 p7 p8 p9 p10 p11 p12 p13 p14 p15 x0_3 x0_4 x0_5 x0_6 x0_7 x0_8 x0_9 x0_10 x0_11 x0_12 x0_13 x0_14 x1_1 x1_2 x1_3 x1_4 x1_5 x1_6 x1_7 x1_8 y2 x3_5 x3_6 y4 y5 y6 y7 y8 x9_6 y10 y11 y12 y13 y14 y15) sz)) 0 0 (va_A (wS52 K cI cJ cZ cB p0 p1 p2 p3 p4 p5 p6 p7 p8 p9 p10 p11 p12 p13 p14 p15 x0_3 x0_4 x0_5 x0_6 x0_7 x0_8 x0_9 x0_10 x0_11 x0_12 x0_13 x0_14 x1_1 x1_2 x1_3 x1_4 x1_5 x1_6 x1_7 x1_8 y2 x3_5 x3_6 y4 y5 y6 y7 y8 x9_6 y10 y11 y12 y13 y14 y15) sz) := by
  refine Met.ofW (cc := b_A_takePlace) (maxL := 2) (ret := none) (by decide) rfl ?_
  intro p e s m args below meth c s₁ B hml hv
  obtain ⟨rfl, hsz, hK, hP, hD0, hC⟩ := hv
  subst hsz
  have hD := hD0.self (sz := s.heap.size)
  generalize hAe : va_A (wS52 K cI cJ cZ cB p0 p1 p2 p3 p4 p5 p6 p7 p8 p9 p10 p11 p12 p13 p14 p15 x0_3 x0_4 x0_5 x0_6 x0_7 x0_8 x0_9 x0_10 x0_11 x0_12 x0_13 x0_14 x1_1 x1_2 x1_3 x1_4 x1_5 x1_6 x1_7 x1_8 y2 x3_5 x3_6 y4 y5 y6 y7 y8 x9_6 y10 y11 y12 y13 y14 y15) s.heap.size = A at hD hC ⊢
  have hA : ∀ q : Nat, s.heap.size ≤ q → A q := fun q h => by rw [← hAe]; exact Or.inr h
  clear hAe hD0
  have hS : va_S A s.heap s.heap [] := va_S.rf
  have hx := B.exec
  have hb := B.bytes
  have hr := B.returns
  have hts := atoms_spec (ws := .code y_A_takePlace b_A_takePlace 2 none :: tb) B.pre
  have hk : ∀ w ∈ tb, w.before [.ref p0, .int a1].toArray s = true := fun w h => hts w (List.mem_cons_of_mem _ h)
  have hown : s.vm.findClass "SignMachine$Assembler" = some m.cls := findClass_of_methodNamed B.named
  have hlocks := B.notSynchronized
  have hl := lv_entry ([.ref p0, .int a1]) (n := 2) (Nat.le_of_ble_eq_true rfl)
  rw [lg_entry_eq]
  generalize (lg_sl ([.ref p0, .int a1]) ++ List.replicate (2 - (lg_sl ([.ref p0, .int a1])).length) Slot.unset).toArray = ls at hl ⊢
  have hl : lv_has ls 2 [(0, .ref p0), (1, .int a1)] := hl
  refine lv_iload_n hx hb d_A_takePlace_0 rfl (lv_at hl 1 rfl) ?_
  refine cs_i (W.runS (As := [.int a1]) (rest := []) ⟨hx, hb, hml, hown, hk⟩ (c_M_isAddress l a1) (s_M_isAddress hk k_972 ⟨Nat.le_of_ble_eq_true rfl, Nat.le_of_ble_eq_true rfl⟩) ⟨fun a U g mk q => q, fun U hU hW => ⟨rfl, trivial⟩⟩ rfl rfl hl.1 rfl (lv_room (Nat.le_of_ble_eq_true rfl)) d_A_takePlace_1 ⟨Nat.le_of_ble_eq_true rfl, Nat.le_of_ble_eq_true rfl⟩) ?_
  obtain ⟨z1, hz1⟩ : ∃ y : Bool, y = (f_M_isAddress a1) := ⟨_, rfl⟩
  rw [← hz1]
  refine lv_if_ne (tgt := 14) hx hb d_A_takePlace_4 (by decide) (fun c2 => ?_) (fun c2 => ?_)
  · refine lv_aload_n hx hb d_A_takePlace_14 rfl (lv_at hl 0 rfl) ?_
    refine va_get (D := D) (ci := 3) (v := e_oA K x0_11) (C := "SignMachine$Assembler") (T := F_A) (N := 15) hx hb hk fi_A hown hK.1 hP 0 rfl rfl 11 (by decide) (hk _ k_648) (fun _ h9 => h9) rfl d_A_takePlace_15 ?_
    rcases x0_11 with _ | ⟨i3, hi3⟩
    · refine W.eq (g2 := F0 m 18 ls [.null]) rfl ?_
      refine va_gets hx hb (show va_Z "SignMachine$Op" "ORIG" "LSignMachine$Op;" (.ref (e_ad K 47)) A s s.heap from (hC.1 47 (by decide)).1) hS hown (hk _ k_1060) (fun _ h9 => h9) d_A_takePlace_18 ?_
      refine W.eq (g2 := F0 m 21 ls [va_rf (some ((e_ad K 47))), va_rf none]) rfl ?_
      refine lv_acmp_ne (tgt := 30) hx hb d_A_takePlace_21 (by decide) (fun c4 => ?_) (fun c4 => ?_)
      · refine lv_aload_n hx hb d_A_takePlace_30 rfl (lv_at hl 0 rfl) ?_
        refine lv_iload_n hx hb d_A_takePlace_31 rfl (lv_at hl 1 rfl) ?_
        refine va_put (D := D) (ci := 3) (v := .int a1) (ty := .int) (C := "SignMachine$Assembler") (T := F_A) (N := 15) hx hb hk fi_A ft_A ft_A_ok fn_A hown hK.1 hP hD hS 0 rfl rfl 6 (by decide) (hk _ k_643) (fun _ h9 => h9) rfl (by decide +kernel) rfl rfl (Nat.le_of_ble_eq_true rfl) d_A_takePlace_32 (fun H locs hP hD hS => ?_)
        have hP : va_P D classes (wS52 K cI cJ cZ cB p0 p1 p2 p3 p4 p5 p6 p7 p8 p9 p10 p11 p12 p13 p14 p15 x0_3 x0_4 x0_5 a1 x0_7 x0_8 x0_9 x0_10 none x0_12 x0_13 x0_14 x1_1 x1_2 x1_3 x1_4 x1_5 x1_6 x1_7 x1_8 y2 x3_5 x3_6 y4 y5 y6 y7 y8 x9_6 y10 y11 y12 y13 y14 y15) H := hP
        have hD : va_D A (wS52 K cI cJ cZ cB p0 p1 p2 p3 p4 p5 p6 p7 p8 p9 p10 p11 p12 p13 p14 p15 x0_3 x0_4 x0_5 a1 x0_7 x0_8 x0_9 x0_10 none x0_12 x0_13 x0_14 x1_1 x1_2 x1_3 x1_4 x1_5 x1_6 x1_7 x1_8 y2 x3_5 x3_6 y4 y5 y6 y7 y8 x9_6 y10 y11 y12 y13 y14 y15) := hD
        refine lv_aload_n hx hb d_A_takePlace_35 rfl (lv_at hl 0 rfl) ?_
        refine lv_iconst (v := 1) hx hb d_A_takePlace_36 (by decide) ?_
        refine va_put (D := D) (ci := 3) (v := .int (1 : Int32)) (ty := .boolean) (C := "SignMachine$Assembler") (T := F_A) (N := 15) hx hb hk fi_A ft_A ft_A_ok fn_A hown hK.1 hP hD hS 0 rfl rfl 8 (by decide) (hk _ k_645) (fun _ h9 => h9) rfl (by decide +kernel) rfl rfl (Nat.le_of_ble_eq_true rfl) d_A_takePlace_37 (fun H locs hP hD hS => ?_)
        have hP : va_P D classes (wS52 K cI cJ cZ cB p0 p1 p2 p3 p4 p5 p6 p7 p8 p9 p10 p11 p12 p13 p14 p15 x0_3 x0_4 x0_5 a1 x0_7 true x0_9 x0_10 none x0_12 x0_13 x0_14 x1_1 x1_2 x1_3 x1_4 x1_5 x1_6 x1_7 x1_8 y2 x3_5 x3_6 y4 y5 y6 y7 y8 x9_6 y10 y11 y12 y13 y14 y15) H := hP
        have hD : va_D A (wS52 K cI cJ cZ cB p0 p1 p2 p3 p4 p5 p6 p7 p8 p9 p10 p11 p12 p13 p14 p15 x0_3 x0_4 x0_5 a1 x0_7 true x0_9 x0_10 none x0_12 x0_13 x0_14 x1_1 x1_2 x1_3 x1_4 x1_5 x1_6 x1_7 x1_8 y2 x3_5 x3_6 y4 y5 y6 y7 y8 x9_6 y10 y11 y12 y13 y14 y15) := hD
        refine lv_aload_n hx hb d_A_takePlace_40 rfl (lv_at hl 0 rfl) ?_
        refine lv_aload_n hx hb d_A_takePlace_41 rfl (lv_at hl 0 rfl) ?_
        refine va_get (D := D) (ci := 3) (v := .int x0_7) (C := "SignMachine$Assembler") (T := F_A) (N := 15) hx hb hk fi_A hown hK.1 hP 0 rfl rfl 7 (by decide) (hk _ k_644) (fun _ h9 => h9) rfl d_A_takePlace_42 ?_
        refine va_put (D := D) (ci := 3) (v := .int x0_7) (ty := .int) (C := "SignMachine$Assembler") (T := F_A) (N := 15) hx hb hk fi_A ft_A ft_A_ok fn_A hown hK.1 hP hD hS 0 rfl rfl 5 (by decide) (hk _ k_640) (fun _ h9 => h9) rfl (by decide +kernel) rfl rfl (Nat.le_of_ble_eq_true rfl) d_A_takePlace_45 (fun H locs hP hD hS => ?_)
        have hP : va_P D classes (wS52 K cI cJ cZ cB p0 p1 p2 p3 p4 p5 p6 p7 p8 p9 p10 p11 p12 p13 p14 p15 x0_3 x0_4 x0_7 a1 x0_7 true x0_9 x0_10 none x0_12 x0_13 x0_14 x1_1 x1_2 x1_3 x1_4 x1_5 x1_6 x1_7 x1_8 y2 x3_5 x3_6 y4 y5 y6 y7 y8 x9_6 y10 y11 y12 y13 y14 y15) H := hP
        have hD : va_D A (wS52 K cI cJ cZ cB p0 p1 p2 p3 p4 p5 p6 p7 p8 p9 p10 p11 p12 p13 p14 p15 x0_3 x0_4 x0_7 a1 x0_7 true x0_9 x0_10 none x0_12 x0_13 x0_14 x1_1 x1_2 x1_3 x1_4 x1_5 x1_6 x1_7 x1_8 y2 x3_5 x3_6 y4 y5 y6 y7 y8 x9_6 y10 y11 y12 y13 y14 y15) := hD
        refine lv_aload_n hx hb d_A_takePlace_48 rfl (lv_at hl 0 rfl) ?_
        refine kn_v (va_runV (C := "SignMachine$Assembler") (As := []) (rest := []) ⟨hx, hb, hml, hown, hk⟩ (c_A_putPending_s1 l K D cI cJ cZ cB p0 p1 p2 p3 p4 p5 p6 p7 p8 p9 p10 p11 p12 p13 p14 p15 H.size x0_3 x0_4 x0_7 a1 x0_7 true x0_9 x0_10 none x0_12 x0_13 x0_14 x1_1 x1_2 x1_3 x1_4 x1_5 x1_6 x1_7 x1_8 y2 x3_5 x3_6 y4 y5 y6 y7 y8 x9_6 y10 y11 y12 y13 y14 y15   ) (v_A_putPending_s1 hk k_1062 ⟨Nat.le_of_ble_eq_true rfl, Nat.le_of_ble_eq_true rfl⟩) (pMC_v hK hP hD hC hS hA (ci := 3) (q0 := 0) rfl rfl rfl) rfl rfl hl.1 rfl (lv_room (Nat.le_of_ble_eq_true rfl)) d_A_takePlace_49 ⟨by decide, by decide⟩) hS hA hD (fun u t H locs ht hB hFr hS => ?_)
        obtain ⟨x0_3z5, x0_4z5, x0_7z5, x0_13z5, y5z5, y6z5, x9_6z5, y10z5, y11z5, y12z5, y13z5, y14z5, y15z5, hP, hD⟩ := hB
        rw [ht] at hP
        have hD := dwk hD hFr
        clear ht hFr
        have hP : va_P D classes (wS52 K cI cJ cZ cB p0 p1 p2 p3 p4 p5 p6 p7 p8 p9 p10 p11 p12 p13 p14 p15 x0_3z5 x0_4z5 x0_7 a1 x0_7z5 true x0_9 x0_10 none x0_12 x0_13z5 x0_14 x1_1 x1_2 x1_3 x1_4 x1_5 x1_6 x1_7 x1_8 y2 x3_5 x3_6 y4 y5z5 y6z5 y7 y8 x9_6z5 y10z5 y11z5 y12z5 y13z5 y14z5 y15z5) H := hP
        have hD : va_D A (wS52 K cI cJ cZ cB p0 p1 p2 p3 p4 p5 p6 p7 p8 p9 p10 p11 p12 p13 p14 p15 x0_3z5 x0_4z5 x0_7 a1 x0_7z5 true x0_9 x0_10 none x0_12 x0_13z5 x0_14 x1_1 x1_2 x1_3 x1_4 x1_5 x1_6 x1_7 x1_8 y2 x3_5 x3_6 y4 y5z5 y6z5 y7 y8 x9_6z5 y10z5 y11z5 y12z5 y13z5 y14z5 y15z5) := hD
        exact W.vret hx hb hr (fun t ht hW => ⟨⟨(), rfl, trivial, ⟨x0_3z5, x0_4z5, x0_7, a1, x0_7z5, true, none, x0_13z5, y5z5, y6z5, x9_6z5, y10z5, y11z5, y12z5, y13z5, y14z5, y15z5, by show va_P D classes _ t.heap; rw [ht]; exact hP, hD⟩⟩, hS.F ht⟩) hS.2.2 d_A_takePlace_52
      · refine lv_aload_n hx hb d_A_takePlace_24 rfl (lv_at hl 0 rfl) ?_
        refine lv_iload_n hx hb d_A_takePlace_25 rfl (lv_at hl 1 rfl) ?_
        refine va_put (D := D) (ci := 3) (v := .int a1) (ty := .int) (C := "SignMachine$Assembler") (T := F_A) (N := 15) hx hb hk fi_A ft_A ft_A_ok fn_A hown hK.1 hP hD hS 0 rfl rfl 7 (by decide) (hk _ k_644) (fun _ h9 => h9) rfl (by decide +kernel) rfl rfl (Nat.le_of_ble_eq_true rfl) d_A_takePlace_26 (fun H locs hP hD hS => ?_)
        have hP : va_P D classes (wS52 K cI cJ cZ cB p0 p1 p2 p3 p4 p5 p6 p7 p8 p9 p10 p11 p12 p13 p14 p15 x0_3 x0_4 x0_5 x0_6 a1 x0_8 x0_9 x0_10 none x0_12 x0_13 x0_14 x1_1 x1_2 x1_3 x1_4 x1_5 x1_6 x1_7 x1_8 y2 x3_5 x3_6 y4 y5 y6 y7 y8 x9_6 y10 y11 y12 y13 y14 y15) H := hP
        have hD : va_D A (wS52 K cI cJ cZ cB p0 p1 p2 p3 p4 p5 p6 p7 p8 p9 p10 p11 p12 p13 p14 p15 x0_3 x0_4 x0_5 x0_6 a1 x0_8 x0_9 x0_10 none x0_12 x0_13 x0_14 x1_1 x1_2 x1_3 x1_4 x1_5 x1_6 x1_7 x1_8 y2 x3_5 x3_6 y4 y5 y6 y7 y8 x9_6 y10 y11 y12 y13 y14 y15) := hD
        exact W.vret hx hb hr (fun t ht hW => ⟨⟨(), rfl, trivial, ⟨x0_3, x0_4, x0_5, x0_6, a1, x0_8, none, x0_13, y5, y6, x9_6, y10, y11, y12, y13, y14, y15, by show va_P D classes _ t.heap; rw [ht]; exact hP, hD⟩⟩, hS.F ht⟩) hS.2.2 d_A_takePlace_29
    · refine W.eq (g2 := F0 m 18 ls [.ref (e_ad K i3)]) rfl ?_
      refine va_gets hx hb (show va_Z "SignMachine$Op" "ORIG" "LSignMachine$Op;" (.ref (e_ad K 47)) A s s.heap from (hC.1 47 (by decide)).1) hS hown (hk _ k_1060) (fun _ h9 => h9) d_A_takePlace_18 ?_
      refine W.eq (g2 := F0 m 21 ls [va_rf (some ((e_ad K 47))), va_rf (some ((e_ad K i3)))]) rfl ?_
      refine lv_acmp_ne (tgt := 30) hx hb d_A_takePlace_21 (by decide) (fun c6 => ?_) (fun c6 => ?_)
      · refine lv_aload_n hx hb d_A_takePlace_30 rfl (lv_at hl 0 rfl) ?_
        refine lv_iload_n hx hb d_A_takePlace_31 rfl (lv_at hl 1 rfl) ?_
        refine va_put (D := D) (ci := 3) (v := .int a1) (ty := .int) (C := "SignMachine$Assembler") (T := F_A) (N := 15) hx hb hk fi_A ft_A ft_A_ok fn_A hown hK.1 hP hD hS 0 rfl rfl 6 (by decide) (hk _ k_643) (fun _ h9 => h9) rfl (by decide +kernel) rfl rfl (Nat.le_of_ble_eq_true rfl) d_A_takePlace_32 (fun H locs hP hD hS => ?_)
        have hP : va_P D classes (wS52 K cI cJ cZ cB p0 p1 p2 p3 p4 p5 p6 p7 p8 p9 p10 p11 p12 p13 p14 p15 x0_3 x0_4 x0_5 a1 x0_7 x0_8 x0_9 x0_10 (some ⟨i3, hi3⟩) x0_12 x0_13 x0_14 x1_1 x1_2 x1_3 x1_4 x1_5 x1_6 x1_7 x1_8 y2 x3_5 x3_6 y4 y5 y6 y7 y8 x9_6 y10 y11 y12 y13 y14 y15) H := hP
        have hD : va_D A (wS52 K cI cJ cZ cB p0 p1 p2 p3 p4 p5 p6 p7 p8 p9 p10 p11 p12 p13 p14 p15 x0_3 x0_4 x0_5 a1 x0_7 x0_8 x0_9 x0_10 (some ⟨i3, hi3⟩) x0_12 x0_13 x0_14 x1_1 x1_2 x1_3 x1_4 x1_5 x1_6 x1_7 x1_8 y2 x3_5 x3_6 y4 y5 y6 y7 y8 x9_6 y10 y11 y12 y13 y14 y15) := hD
        refine lv_aload_n hx hb d_A_takePlace_35 rfl (lv_at hl 0 rfl) ?_
        refine lv_iconst (v := 1) hx hb d_A_takePlace_36 (by decide) ?_
        refine va_put (D := D) (ci := 3) (v := .int (1 : Int32)) (ty := .boolean) (C := "SignMachine$Assembler") (T := F_A) (N := 15) hx hb hk fi_A ft_A ft_A_ok fn_A hown hK.1 hP hD hS 0 rfl rfl 8 (by decide) (hk _ k_645) (fun _ h9 => h9) rfl (by decide +kernel) rfl rfl (Nat.le_of_ble_eq_true rfl) d_A_takePlace_37 (fun H locs hP hD hS => ?_)
        have hP : va_P D classes (wS52 K cI cJ cZ cB p0 p1 p2 p3 p4 p5 p6 p7 p8 p9 p10 p11 p12 p13 p14 p15 x0_3 x0_4 x0_5 a1 x0_7 true x0_9 x0_10 (some ⟨i3, hi3⟩) x0_12 x0_13 x0_14 x1_1 x1_2 x1_3 x1_4 x1_5 x1_6 x1_7 x1_8 y2 x3_5 x3_6 y4 y5 y6 y7 y8 x9_6 y10 y11 y12 y13 y14 y15) H := hP
        have hD : va_D A (wS52 K cI cJ cZ cB p0 p1 p2 p3 p4 p5 p6 p7 p8 p9 p10 p11 p12 p13 p14 p15 x0_3 x0_4 x0_5 a1 x0_7 true x0_9 x0_10 (some ⟨i3, hi3⟩) x0_12 x0_13 x0_14 x1_1 x1_2 x1_3 x1_4 x1_5 x1_6 x1_7 x1_8 y2 x3_5 x3_6 y4 y5 y6 y7 y8 x9_6 y10 y11 y12 y13 y14 y15) := hD
        refine lv_aload_n hx hb d_A_takePlace_40 rfl (lv_at hl 0 rfl) ?_
        refine lv_aload_n hx hb d_A_takePlace_41 rfl (lv_at hl 0 rfl) ?_
        refine va_get (D := D) (ci := 3) (v := .int x0_7) (C := "SignMachine$Assembler") (T := F_A) (N := 15) hx hb hk fi_A hown hK.1 hP 0 rfl rfl 7 (by decide) (hk _ k_644) (fun _ h9 => h9) rfl d_A_takePlace_42 ?_
        refine va_put (D := D) (ci := 3) (v := .int x0_7) (ty := .int) (C := "SignMachine$Assembler") (T := F_A) (N := 15) hx hb hk fi_A ft_A ft_A_ok fn_A hown hK.1 hP hD hS 0 rfl rfl 5 (by decide) (hk _ k_640) (fun _ h9 => h9) rfl (by decide +kernel) rfl rfl (Nat.le_of_ble_eq_true rfl) d_A_takePlace_45 (fun H locs hP hD hS => ?_)
        have hP : va_P D classes (wS52 K cI cJ cZ cB p0 p1 p2 p3 p4 p5 p6 p7 p8 p9 p10 p11 p12 p13 p14 p15 x0_3 x0_4 x0_7 a1 x0_7 true x0_9 x0_10 (some ⟨i3, hi3⟩) x0_12 x0_13 x0_14 x1_1 x1_2 x1_3 x1_4 x1_5 x1_6 x1_7 x1_8 y2 x3_5 x3_6 y4 y5 y6 y7 y8 x9_6 y10 y11 y12 y13 y14 y15) H := hP
        have hD : va_D A (wS52 K cI cJ cZ cB p0 p1 p2 p3 p4 p5 p6 p7 p8 p9 p10 p11 p12 p13 p14 p15 x0_3 x0_4 x0_7 a1 x0_7 true x0_9 x0_10 (some ⟨i3, hi3⟩) x0_12 x0_13 x0_14 x1_1 x1_2 x1_3 x1_4 x1_5 x1_6 x1_7 x1_8 y2 x3_5 x3_6 y4 y5 y6 y7 y8 x9_6 y10 y11 y12 y13 y14 y15) := hD
        refine lv_aload_n hx hb d_A_takePlace_48 rfl (lv_at hl 0 rfl) ?_
        refine kn_v (va_runV (C := "SignMachine$Assembler") (As := []) (rest := []) ⟨hx, hb, hml, hown, hk⟩ (c_A_putPending_s1 l K D cI cJ cZ cB p0 p1 p2 p3 p4 p5 p6 p7 p8 p9 p10 p11 p12 p13 p14 p15 H.size x0_3 x0_4 x0_7 a1 x0_7 true x0_9 x0_10 (some ⟨i3, hi3⟩) x0_12 x0_13 x0_14 x1_1 x1_2 x1_3 x1_4 x1_5 x1_6 x1_7 x1_8 y2 x3_5 x3_6 y4 y5 y6 y7 y8 x9_6 y10 y11 y12 y13 y14 y15   ) (v_A_putPending_s1 hk k_1062 ⟨Nat.le_of_ble_eq_true rfl, Nat.le_of_ble_eq_true rfl⟩) (pMC_v hK hP hD hC hS hA (ci := 3) (q0 := 0) rfl rfl rfl) rfl rfl hl.1 rfl (lv_room (Nat.le_of_ble_eq_true rfl)) d_A_takePlace_49 ⟨by decide, by decide⟩) hS hA hD (fun u t H locs ht hB hFr hS => ?_)
        obtain ⟨x0_3z7, x0_4z7, x0_7z7, x0_13z7, y5z7, y6z7, x9_6z7, y10z7, y11z7, y12z7, y13z7, y14z7, y15z7, hP, hD⟩ := hB
        rw [ht] at hP
        have hD := dwk hD hFr
        clear ht hFr
        have hP : va_P D classes (wS52 K cI cJ cZ cB p0 p1 p2 p3 p4 p5 p6 p7 p8 p9 p10 p11 p12 p13 p14 p15 x0_3z7 x0_4z7 x0_7 a1 x0_7z7 true x0_9 x0_10 (some ⟨i3, hi3⟩) x0_12 x0_13z7 x0_14 x1_1 x1_2 x1_3 x1_4 x1_5 x1_6 x1_7 x1_8 y2 x3_5 x3_6 y4 y5z7 y6z7 y7 y8 x9_6z7 y10z7 y11z7 y12z7 y13z7 y14z7 y15z7) H := hP
        have hD : va_D A (wS52 K cI cJ cZ cB p0 p1 p2 p3 p4 p5 p6 p7 p8 p9 p10 p11 p12 p13 p14 p15 x0_3z7 x0_4z7 x0_7 a1 x0_7z7 true x0_9 x0_10 (some ⟨i3, hi3⟩) x0_12 x0_13z7 x0_14 x1_1 x1_2 x1_3 x1_4 x1_5 x1_6 x1_7 x1_8 y2 x3_5 x3_6 y4 y5z7 y6z7 y7 y8 x9_6z7 y10z7 y11z7 y12z7 y13z7 y14z7 y15z7) := hD
        exact W.vret hx hb hr (fun t ht hW => ⟨⟨(), rfl, trivial, ⟨x0_3z7, x0_4z7, x0_7, a1, x0_7z7, true, (some ⟨i3, hi3⟩), x0_13z7, y5z7, y6z7, x9_6z7, y10z7, y11z7, y12z7, y13z7, y14z7, y15z7, by show va_P D classes _ t.heap; rw [ht]; exact hP, hD⟩⟩, hS.F ht⟩) hS.2.2 d_A_takePlace_52
      · refine lv_aload_n hx hb d_A_takePlace_24 rfl (lv_at hl 0 rfl) ?_
        refine lv_iload_n hx hb d_A_takePlace_25 rfl (lv_at hl 1 rfl) ?_
        refine va_put (D := D) (ci := 3) (v := .int a1) (ty := .int) (C := "SignMachine$Assembler") (T := F_A) (N := 15) hx hb hk fi_A ft_A ft_A_ok fn_A hown hK.1 hP hD hS 0 rfl rfl 7 (by decide) (hk _ k_644) (fun _ h9 => h9) rfl (by decide +kernel) rfl rfl (Nat.le_of_ble_eq_true rfl) d_A_takePlace_26 (fun H locs hP hD hS => ?_)
        have hP : va_P D classes (wS52 K cI cJ cZ cB p0 p1 p2 p3 p4 p5 p6 p7 p8 p9 p10 p11 p12 p13 p14 p15 x0_3 x0_4 x0_5 x0_6 a1 x0_8 x0_9 x0_10 (some ⟨i3, hi3⟩) x0_12 x0_13 x0_14 x1_1 x1_2 x1_3 x1_4 x1_5 x1_6 x1_7 x1_8 y2 x3_5 x3_6 y4 y5 y6 y7 y8 x9_6 y10 y11 y12 y13 y14 y15) H := hP
        have hD : va_D A (wS52 K cI cJ cZ cB p0 p1 p2 p3 p4 p5 p6 p7 p8 p9 p10 p11 p12 p13 p14 p15 x0_3 x0_4 x0_5 x0_6 a1 x0_8 x0_9 x0_10 (some ⟨i3, hi3⟩) x0_12 x0_13 x0_14 x1_1 x1_2 x1_3 x1_4 x1_5 x1_6 x1_7 x1_8 y2 x3_5 x3_6 y4 y5 y6 y7 y8 x9_6 y10 y11 y12 y13 y14 y15) := hD
        exact W.vret hx hb hr (fun t ht hW => ⟨⟨(), rfl, trivial, ⟨x0_3, x0_4, x0_5, x0_6, a1, x0_8, (some ⟨i3, hi3⟩), x0_13, y5, y6, x9_6, y10, y11, y12, y13, y14, y15, by show va_P D classes _ t.heap; rw [ht]; exact hP, hD⟩⟩, hS.F ht⟩) hS.2.2 d_A_takePlace_29
  · refine lv_aload_n hx hb d_A_takePlace_7 rfl (lv_at hl 0 rfl) ?_
    refine lv_iconst (v := 4) hx hb d_A_takePlace_8 (by decide) ?_
    refine sn_i (va_runV (C := "SignMachine$Assembler") (As := [.int (4 : Int32)]) (rest := []) ⟨hx, hb, hml, hown, hk⟩ (c_A_fail_s1 l K D cI cJ cZ cB p0 p1 p2 p3 p4 p5 p6 p7 p8 p9 p10 p11 p12 p13 p14 p15 s.heap.size x0_3 x0_4 x0_5 x0_6 x0_7 x0_8 x0_9 x0_10 x0_11 x0_12 x0_13 x0_14 x1_1 x1_2 x1_3 x1_4 x1_5 x1_6 x1_7 x1_8 y2 x3_5 x3_6 y4 y5 y6 y7 y8 x9_6 y10 y11 y12 y13 y14 y15  (4 : Int32) ) (v_A_fail_s1 hk k_767 ⟨Nat.le_of_ble_eq_true rfl, Nat.le_of_ble_eq_true rfl⟩) (pMC_v hK hP hD hC hS hA (ci := 3) (q0 := 0) rfl rfl rfl) rfl rfl hl.1 rfl (lv_room (Nat.le_of_ble_eq_true rfl)) d_A_takePlace_9 ⟨by decide, by decide⟩) hS hA hD (fun rz8 u t H locs hr0 ht hB hFr hS => ?_)
    obtain ⟨x0_3z8, x0_4z8, hP, hD⟩ := hB
    rw [ht] at hP
    have hD := dwk hD hFr
    clear ht hFr
    have hP : va_P D classes (wS52 K cI cJ cZ cB p0 p1 p2 p3 p4 p5 p6 p7 p8 p9 p10 p11 p12 p13 p14 p15 x0_3z8 x0_4z8 x0_5 x0_6 x0_7 x0_8 x0_9 x0_10 x0_11 x0_12 x0_13 x0_14 x1_1 x1_2 x1_3 x1_4 x1_5 x1_6 x1_7 x1_8 y2 x3_5 x3_6 y4 y5 y6 y7 y8 x9_6 y10 y11 y12 y13 y14 y15) H := hP
    have hD : va_D A (wS52 K cI cJ cZ cB p0 p1 p2 p3 p4 p5 p6 p7 p8 p9 p10 p11 p12 p13 p14 p15 x0_3z8 x0_4z8 x0_5 x0_6 x0_7 x0_8 x0_9 x0_10 x0_11 x0_12 x0_13 x0_14 x1_1 x1_2 x1_3 x1_4 x1_5 x1_6 x1_7 x1_8 y2 x3_5 x3_6 y4 y5 y6 y7 y8 x9_6 y10 y11 y12 y13 y14 y15) := hD
    refine lv_pop hx hb d_A_takePlace_12 rfl ?_
    exact W.vret hx hb hr (fun t ht hW => ⟨⟨(), rfl, trivial, ⟨x0_3z8, x0_4z8, x0_5, x0_6, x0_7, x0_8, x0_11, x0_13, y5, y6, x9_6, y10, y11, y12, y13, y14, y15, by show va_P D classes _ t.heap; rw [ht]; exact hP, hD⟩⟩, hS.F ht⟩) hS.2.2 d_A_takePlace_13
theorem v_A_takePlace_s1 {R : Room} {s : State} {args : Array Value} {own : String} {index : Nat} (hk : ∀ w ∈ tb, w.before args s = true) (hl : Cond.methodLink own index y_A_takePlace ∈ tb) (hR : 4 + 1 ≤ R.frames ∧ 8 + (2 + 11) + 89 ≤ R.locals) : CallW R s args own "SignMachine$Assembler" index y_A_takePlace b_A_takePlace 2 none (.code y_A_takePlace b_A_takePlace 2 none :: tb) ({ frames := 4, cells := 0, slots := 0, locals := 89 }) 0 0 1 := mk_v 1 hk k_1059 hl k_1058 k_56 k_123 rfl rfl h_A_takePlace hR

abbrev wS51 (cI cJ cZ cB : ClassId) (p0 p1 p2 p3 p4 : Nat) (x0_4 : Bool) (x0_5 : Int32) (x0_6 : Int32) (x0_7 : Int32) (x0_8 : Int32) (x0_9 : Int32) (x0_10 : Int32) (x0_11 : Int32) (x0_12 : Int32) (x0_13 : Int32) (y1 : Nat → Int32) (y2 : Nat → Int32) (x3_0 : Int32) (x4_0 : Int32) : va_W := [(p0, .inr (1, [.ref p1, .ref p2, .ref p3, .ref p4, .int (bI x0_4), .int x0_5, .int x0_6, .int x0_7, .int x0_8, .int x0_9, .int x0_10, .int x0_11, .int x0_12, .int x0_13])), (p1, .inl (cI, 4000, .inl y1)), (p2, .inl (cI, 9, .inl y2)), (p3, .inr (2, [.int x3_0, .null])), (p4, .inr (2, [.int x4_0, .null]))]
abbrev wS52 (K : CK) (cI cJ cZ cB : ClassId) (p0 p1 p2 p3 p4 p5 p6 p7 p8 p9 p10 p11 p12 p13 p14 p15 : Nat) (x0_3 : Int32) (x0_4 : Int32) (x0_5 : Int32) (x0_6 : Int32) (x0_7 : Int32) (x0_8 : Bool) (x0_9 : Int64) (x0_10 : Int32) (x0_11 : Option (Fin 51)) (x0_12 : Int32) (x0_13 : Int32) (x0_14 : Int32) (x1_1 : Int32) (x1_2 : Int32) (x1_3 : Int32) (x1_4 : Int32) (x1_5 : Int32) (x1_6 : Int32) (x1_7 : Int64) (x1_8 : Int32) (y2 : Nat → Int32) (x3_5 : Int32) (x3_6 : Int32) (y4 : Nat → Int64) (y5 : Nat → Int32) (y6 : Nat → Int32) (y7 : Nat → Int32) (y8 : Nat → Int32) (x9_6 : Int32) (y10 : Nat → Int32) (y11 : Nat → Int32) (y12 : Nat → Int32) (y13 : Nat → Int32) (y14 : Nat → Int32) (y15 : Nat → Int32) : va_W := [(p0, .inr (3, [.ref p1, .ref p3, .ref p9, .int x0_3, .int x0_4, .int x0_5, .int x0_6, .int x0_7, .int (bI x0_8), .long x0_9, .int x0_10, e_oA K x0_11, .int x0_12, .int x0_13, .int x0_14])), (p1, .inr (4, [.ref p2, .int x1_1, .int x1_2, .int x1_3, .int x1_4, .int x1_5, .int x1_6, .long x1_7, .int x1_8])), (p2, .inl (cB, 4000, .inl y2)), (p3, .inr (5, [.ref p4, .ref p5, .ref p6, .ref p7, .ref p8, .int x3_5, .int x3_6])), (p4, .inl (cJ, 100, .inr (.inl y4))), (p5, .inl (cI, 100, .inl y5)), (p6, .inl (cZ, 100, .inl y6)), (p7, .inl (cI, 10, .inl y7)), (p8, .inl (cZ, 10, .inl y8)), (p9, .inr (6, [.ref p10, .ref p11, .ref p12, .ref p13, .ref p14, .ref p15, .int x9_6])), (p10, .inl (cI, 1101, .inl y10)), (p11, .inl (cI, 1101, .inl y11)), (p12, .inl (cI, 1101, .inl y12)), (p13, .inl (cB, 1101, .inl y13)), (p14, .inl (cI, 1101, .inl y14)), (p15, .inl (cI, 10, .inl y15))]
abbrev wS53 (cI cJ cZ cB : ClassId) (p0 p1 p2 p3 p4 p5 : Nat) (x1_4 : Bool) (x1_5 : Int32) (x1_6 : Int32) (x1_7 : Int32) (x1_8 : Int32) (x1_9 : Int32) (x1_10 : Int32) (x1_11 : Int32) (x1_12 : Int32) (x1_13 : Int32) (y2 : Nat → Int32) (y3 : Nat → Int32) (x4_0 : Int32) (x5_0 : Int32) : va_W := [(p0, .inr (0, [.ref p1, .null])), (p1, .inr (1, [.ref p2, .ref p3, .ref p4, .ref p5, .int (bI x1_4), .int x1_5, .int x1_6, .int x1_7, .int x1_8, .int x1_9, .int x1_10, .int x1_11, .int x1_12, .int x1_13])), (p2, .inl (cI, 4000, .inl y2)), (p3, .inl (cI, 9, .inl y3)), (p4, .inr (2, [.int x4_0, .null])), (p5, .inr (2, [.int x5_0, .null]))]
abbrev wS54 (cI cJ cZ cB : ClassId) (p0 : Nat) (x0_0 : Nat) : va_W := [(p0, .inr (0, [.ref x0_0, .null]))]
abbrev wS55 (cI cJ cZ cB : ClassId) (p0 : Nat) (x0_0 : Nat) (x0_1 : Nat) : va_W := [(p0, .inr (0, [.ref x0_0, .ref x0_1]))]
set_option maxHeartbeats 4000000 in
set_option maxRecDepth 100000 in
theorem c_M_putWord_s1 (l : Launch) (K : CK) (D : va_G) (cI cJ cZ cB : ClassId) (p0 p1 p2 p3 p4 : Nat) (sz : Nat) (x0_4 : Bool) (x0_5 : Int32) (x0_6 : Int32) (x0_7 : Int32) (x0_8 : Int32) (x0_9 : Int32) (x0_10 : Int32) (x0_11 : Int32) (x0_12 : Int32) (x0_13 : Int32) (y1 : Nat → Int32) (y2 : Nat → Int32) (x3_0 : Int32) (x4_0 : Int32)  (a1 : Int32) (a2 : Int32) : Met l y_M_putWord (.code y_M_putWord b_M_putWord 3 none :: tb) ({ frames := 0, cells := 0, slots := 0, locals := 0 }) (pMC K D cI cJ cZ cB (wS51 cI cJ cZ cB p0 p1 p2 p3 p4 x0_4 x0_5 x0_6 x0_7 x0_8 x0_9 x0_10 x0_11 x0_12 x0_13 y1 y2 x3_0 x4_0) sz [.ref p0, .int a1, .int a2]) (va_Qv (fun (_ : Unit) => True) (fun _ t => (∃ u_y1 : Nat → Int32, va_P D classes (wS51 cI cJ cZ cB p0 p1 p2 p3 p4 x0_4 x0_5 x0_6 x0_7 x0_8 x0_9 x0_10 x0_11 x0_12 x0_13 u_y1 y2 x3_0 x4_0) t.heap ∧ va_D (va_A (wS51 cI cJ cZ cB p0 p1 p2 p3 p4 x0_4 x0_5 x0_6 x0_7 x0_8 x0_9 x0_10 x0_11 x0_12 x0_13 y1 y2 x3_0 x4_0) sz) (wS51 cI cJ cZ cB p0 p1 p2 p3 p4 x0_4 x0_5 x0_6 x0_7 x0_8 x0_9 x0_10 x0_11 x0_12 x0_13 u_y1 y2 x3_0 x4_0))) (va_A (wS51 cI cJ cZ cB p0 p1 p2 p3 p4 x0_4 x0_5 x0_6 x0_7 x0_8 x0_9 x0_10 x0_11 x0_12 x0_13 y1 y2 x3_0 x4_0) sz)) 0 0 (va_A (wS51 cI cJ cZ cB p0 p1 p2 p3 p4 x0_4 x0_5 x0_6 x0_7 x0_8 x0_9 x0_10 x0_11 x0_12 x0_13 y1 y2 x3_0 x4_0) sz) := by
  refine Met.ofW (cc := b_M_putWord) (maxL := 3) (ret := none) (by decide) rfl ?_
  intro p e s m args below meth c s₁ B hml hv
  obtain ⟨rfl, hsz, hK, hP, hD0, hC⟩ := hv
  subst hsz
  have hD := hD0.self (sz := s.heap.size)
  generalize hAe : va_A (wS51 cI cJ cZ cB p0 p1 p2 p3 p4 x0_4 x0_5 x0_6 x0_7 x0_8 x0_9 x0_10 x0_11 x0_12 x0_13 y1 y2 x3_0 x4_0) s.heap.size = A at hD hC ⊢
  have hA : ∀ q : Nat, s.heap.size ≤ q → A q := fun q h => by rw [← hAe]; exact Or.inr h
  clear hAe hD0
  have hS : va_S A s.heap s.heap [] := va_S.rf
  have hx := B.exec
  have hb := B.bytes
  have hr := B.returns
  have hts := atoms_spec (ws := .code y_M_putWord b_M_putWord 3 none :: tb) B.pre
  have hk : ∀ w ∈ tb, w.before [.ref p0, .int a1, .int a2].toArray s = true := fun w h => hts w (List.mem_cons_of_mem _ h)
  have hown : s.vm.findClass "SignMachine$Machine" = some m.cls := findClass_of_methodNamed B.named
  have hlocks := B.notSynchronized
  have hl := lv_entry ([.ref p0, .int a1, .int a2]) (n := 3) (Nat.le_of_ble_eq_true rfl)
  rw [lg_entry_eq]
  generalize (lg_sl ([.ref p0, .int a1, .int a2]) ++ List.replicate (3 - (lg_sl ([.ref p0, .int a1, .int a2])).length) Slot.unset).toArray = ls at hl ⊢
  have hl : lv_has ls 3 [(0, .ref p0), (1, .int a1), (2, .int a2)] := hl
  refine lv_iload_n hx hb d_M_putWord_0 rfl (lv_at hl 1 rfl) ?_
  refine lv_if_lt (tgt := 18) hx hb d_M_putWord_1 (by decide) (fun c1 => ?_) (fun c1 => ?_)
  · exact W.vret hx hb hr (fun t ht hW => ⟨⟨(), rfl, trivial, ⟨y1, by show va_P D classes _ t.heap; rw [ht]; exact hP, hD⟩⟩, hS.F ht⟩) hS.2.2 d_M_putWord_18
  · refine lv_iload_n hx hb d_M_putWord_4 rfl (lv_at hl 1 rfl) ?_
    refine lv_sipush (v := 4000) hx hb d_M_putWord_5 (by decide) ?_
    refine lv_icmp_ge (tgt := 18) hx hb d_M_putWord_8 (by decide) (fun c2 => ?_) (fun c2 => ?_)
    · exact W.vret hx hb hr (fun t ht hW => ⟨⟨(), rfl, trivial, ⟨y1, by show va_P D classes _ t.heap; rw [ht]; exact hP, hD⟩⟩, hS.F ht⟩) hS.2.2 d_M_putWord_18
    · refine lv_aload_n hx hb d_M_putWord_11 rfl (lv_at hl 0 rfl) ?_
      refine va_get (D := D) (ci := 1) (v := .ref p1) (C := "SignMachine$Machine") (T := F_M) (N := 14) hx hb hk fi_M hown hK.1 hP 0 rfl rfl 0 (by decide) (hk _ k_163) (fun _ h9 => h9) rfl d_M_putWord_12 ?_
      refine lv_iload_n hx hb d_M_putWord_15 rfl (lv_at hl 1 rfl) ?_
      refine lv_iload_n hx hb d_M_putWord_16 rfl (lv_at hl 2 rfl) ?_
      refine va_iast hx hb hK.1 hP hD hS 1 0 rfl rfl (vpin c1 c2 rfl) d_M_putWord_17 (fun H locs hP hD hS => ?_)
      have hP : va_P D classes (wS51 cI cJ cZ cB p0 p1 p2 p3 p4 x0_4 x0_5 x0_6 x0_7 x0_8 x0_9 x0_10 x0_11 x0_12 x0_13 (upd y1 (a1).toNatClampNeg a2) y2 x3_0 x4_0) H := hP
      have hD : va_D A (wS51 cI cJ cZ cB p0 p1 p2 p3 p4 x0_4 x0_5 x0_6 x0_7 x0_8 x0_9 x0_10 x0_11 x0_12 x0_13 (upd y1 (a1).toNatClampNeg a2) y2 x3_0 x4_0) := hD
      obtain ⟨v3, hv3⟩ : ∃ y : Nat → Int32, y = (upd y1 (a1).toNatClampNeg a2) := ⟨_, rfl⟩
      rw [← hv3] at hP hD
      clear hv3
      exact W.vret hx hb hr (fun t ht hW => ⟨⟨(), rfl, trivial, ⟨v3, by show va_P D classes _ t.heap; rw [ht]; exact hP, hD⟩⟩, hS.F ht⟩) hS.2.2 d_M_putWord_18
theorem v_M_putWord_s1 {R : Room} {s : State} {args : Array Value} {own : String} {index : Nat} (hk : ∀ w ∈ tb, w.before args s = true) (hl : Cond.methodLink own index y_M_putWord ∈ tb) (hR : 0 + 1 ≤ R.frames ∧ 8 + (3 + 11) + 0 ≤ R.locals) : CallW R s args own "SignMachine$Machine" index y_M_putWord b_M_putWord 3 none (.code y_M_putWord b_M_putWord 3 none :: tb) ({ frames := 0, cells := 0, slots := 0, locals := 0 }) 0 0 2 := mk_v 2 hk k_235 hl k_233 k_234 k_117 rfl rfl h_M_putWord hR
set_option maxHeartbeats 4000000 in
set_option maxRecDepth 100000 in
theorem c_M_wordAt_s1 (l : Launch) (K : CK) (D : va_G) (cI cJ cZ cB : ClassId) (p0 p1 p2 p3 p4 : Nat) (sz : Nat) (x0_4 : Bool) (x0_5 : Int32) (x0_6 : Int32) (x0_7 : Int32) (x0_8 : Int32) (x0_9 : Int32) (x0_10 : Int32) (x0_11 : Int32) (x0_12 : Int32) (x0_13 : Int32) (y1 : Nat → Int32) (y2 : Nat → Int32) (x3_0 : Int32) (x4_0 : Int32)  (a1 : Int32) : Met l y_M_wordAt (.code y_M_wordAt b_M_wordAt 2 (some .int) :: tb) ({ frames := 0, cells := 0, slots := 0, locals := 0 }) (pMC K D cI cJ cZ cB (wS51 cI cJ cZ cB p0 p1 p2 p3 p4 x0_4 x0_5 x0_6 x0_7 x0_8 x0_9 x0_10 x0_11 x0_12 x0_13 y1 y2 x3_0 x4_0) sz [.ref p0, .int a1]) (va_Qi (fun r (_ : Unit) => r = (f_mw y1 a1)) (fun _ t => (va_P D classes (wS51 cI cJ cZ cB p0 p1 p2 p3 p4 x0_4 x0_5 x0_6 x0_7 x0_8 x0_9 x0_10 x0_11 x0_12 x0_13 y1 y2 x3_0 x4_0) t.heap ∧ va_D (va_A (wS51 cI cJ cZ cB p0 p1 p2 p3 p4 x0_4 x0_5 x0_6 x0_7 x0_8 x0_9 x0_10 x0_11 x0_12 x0_13 y1 y2 x3_0 x4_0) sz) (wS51 cI cJ cZ cB p0 p1 p2 p3 p4 x0_4 x0_5 x0_6 x0_7 x0_8 x0_9 x0_10 x0_11 x0_12 x0_13 y1 y2 x3_0 x4_0))) (va_A (wS51 cI cJ cZ cB p0 p1 p2 p3 p4 x0_4 x0_5 x0_6 x0_7 x0_8 x0_9 x0_10 x0_11 x0_12 x0_13 y1 y2 x3_0 x4_0) sz)) 0 0 (va_A (wS51 cI cJ cZ cB p0 p1 p2 p3 p4 x0_4 x0_5 x0_6 x0_7 x0_8 x0_9 x0_10 x0_11 x0_12 x0_13 y1 y2 x3_0 x4_0) sz) := by
  refine Met.ofW (cc := b_M_wordAt) (maxL := 2) (ret := (some .int)) (by decide) rfl ?_
  intro p e s m args below meth c s₁ B hml hv
  obtain ⟨rfl, hsz, hK, hP, hD0, hC⟩ := hv
  subst hsz
  have hD := hD0.self (sz := s.heap.size)
  generalize hAe : va_A (wS51 cI cJ cZ cB p0 p1 p2 p3 p4 x0_4 x0_5 x0_6 x0_7 x0_8 x0_9 x0_10 x0_11 x0_12 x0_13 y1 y2 x3_0 x4_0) s.heap.size = A at hD hC ⊢
  have hA : ∀ q : Nat, s.heap.size ≤ q → A q := fun q h => by rw [← hAe]; exact Or.inr h
  clear hAe hD0
  have hS : va_S A s.heap s.heap [] := va_S.rf
  have hx := B.exec
  have hb := B.bytes
  have hr := B.returns
  have hts := atoms_spec (ws := .code y_M_wordAt b_M_wordAt 2 (some .int) :: tb) B.pre
  have hk : ∀ w ∈ tb, w.before [.ref p0, .int a1].toArray s = true := fun w h => hts w (List.mem_cons_of_mem _ h)
  have hown : s.vm.findClass "SignMachine$Machine" = some m.cls := findClass_of_methodNamed B.named
  have hlocks := B.notSynchronized
  have hl := lv_entry ([.ref p0, .int a1]) (n := 2) (Nat.le_of_ble_eq_true rfl)
  rw [lg_entry_eq]
  generalize (lg_sl ([.ref p0, .int a1]) ++ List.replicate (2 - (lg_sl ([.ref p0, .int a1])).length) Slot.unset).toArray = ls at hl ⊢
  have hl : lv_has ls 2 [(0, .ref p0), (1, .int a1)] := hl
  refine lv_iload_n hx hb d_M_wordAt_0 rfl (lv_at hl 1 rfl) ?_
  refine lv_if_lt (tgt := 20) hx hb d_M_wordAt_1 (by decide) (fun c1 => ?_) (fun c1 => ?_)
  · refine lv_iconst (v := 0) hx hb d_M_wordAt_20 (by decide) ?_
    exact W.iret (v := (0 : Int32)) hx hb hr (fun t ht hW => ⟨⟨(0 : Int32), (), rfl, by unfold f_mw; rw [if_pos c1], ⟨by show va_P D classes _ t.heap; rw [ht]; exact hP, hD⟩⟩, hS.F ht⟩) hS.2.2 d_M_wordAt_21
  · refine lv_iload_n hx hb d_M_wordAt_4 rfl (lv_at hl 1 rfl) ?_
    refine lv_sipush (v := 4000) hx hb d_M_wordAt_5 (by decide) ?_
    refine lv_icmp_ge (tgt := 20) hx hb d_M_wordAt_8 (by decide) (fun c2 => ?_) (fun c2 => ?_)
    · refine lv_iconst (v := 0) hx hb d_M_wordAt_20 (by decide) ?_
      exact W.iret (v := (0 : Int32)) hx hb hr (fun t ht hW => ⟨⟨(0 : Int32), (), rfl, by unfold f_mw; rw [if_neg c1, if_pos c2], ⟨by show va_P D classes _ t.heap; rw [ht]; exact hP, hD⟩⟩, hS.F ht⟩) hS.2.2 d_M_wordAt_21
    · refine lv_aload_n hx hb d_M_wordAt_11 rfl (lv_at hl 0 rfl) ?_
      refine va_get (D := D) (ci := 1) (v := .ref p1) (C := "SignMachine$Machine") (T := F_M) (N := 14) hx hb hk fi_M hown hK.1 hP 0 rfl rfl 0 (by decide) (hk _ k_163) (fun _ h9 => h9) rfl d_M_wordAt_12 ?_
      refine lv_iload_n hx hb d_M_wordAt_15 rfl (lv_at hl 1 rfl) ?_
      refine va_iald hx hb hK.1 hP 1 0 rfl rfl (vpin c1 c2 rfl) d_M_wordAt_16 ?_
      refine lv_topi (fun v3 hv3 => ?_)
      refine lv_goto (tgt := 21) hx hb d_M_wordAt_17 (by decide) ?_
      exact W.iret (v := v3) hx hb hr (fun t ht hW => ⟨⟨v3, (), rfl, by unfold f_mw; rw [if_neg c1, if_neg c2, hv3], ⟨by show va_P D classes _ t.heap; rw [ht]; exact hP, hD⟩⟩, hS.F ht⟩) hS.2.2 d_M_wordAt_21
theorem v_M_wordAt_s1 {R : Room} {s : State} {args : Array Value} {own : String} {index : Nat} (hk : ∀ w ∈ tb, w.before args s = true) (hl : Cond.methodLink own index y_M_wordAt ∈ tb) (hR : 0 + 1 ≤ R.frames ∧ 8 + (2 + 11) + 0 ≤ R.locals) : CallW R s args own "SignMachine$Machine" index y_M_wordAt b_M_wordAt 2 (some .int) (.code y_M_wordAt b_M_wordAt 2 (some .int) :: tb) ({ frames := 0, cells := 0, slots := 0, locals := 0 }) 0 0 1 := mk_v 1 hk k_243 hl k_241 k_242 k_117 rfl rfl h_M_wordAt hR
set_option maxHeartbeats 4000000 in
set_option maxRecDepth 100000 in
theorem c_M_register_s1 (l : Launch) (K : CK) (D : va_G) (cI cJ cZ cB : ClassId) (p0 p1 p2 p3 p4 : Nat) (sz : Nat) (x0_4 : Bool) (x0_5 : Int32) (x0_6 : Int32) (x0_7 : Int32) (x0_8 : Int32) (x0_9 : Int32) (x0_10 : Int32) (x0_11 : Int32) (x0_12 : Int32) (x0_13 : Int32) (y1 : Nat → Int32) (y2 : Nat → Int32) (x3_0 : Int32) (x4_0 : Int32)  (a1 : Int32) : Met l y_M_register (.code y_M_register b_M_register 2 (some .int) :: tb) ({ frames := 0, cells := 0, slots := 0, locals := 0 }) (pMC K D cI cJ cZ cB (wS51 cI cJ cZ cB p0 p1 p2 p3 p4 x0_4 x0_5 x0_6 x0_7 x0_8 x0_9 x0_10 x0_11 x0_12 x0_13 y1 y2 x3_0 x4_0) sz [.ref p0, .int a1]) (va_Qi (fun r (_ : Unit) => True) (fun _ t => (va_P D classes (wS51 cI cJ cZ cB p0 p1 p2 p3 p4 x0_4 x0_5 x0_6 x0_7 x0_8 x0_9 x0_10 x0_11 x0_12 x0_13 y1 y2 x3_0 x4_0) t.heap ∧ va_D (va_A (wS51 cI cJ cZ cB p0 p1 p2 p3 p4 x0_4 x0_5 x0_6 x0_7 x0_8 x0_9 x0_10 x0_11 x0_12 x0_13 y1 y2 x3_0 x4_0) sz) (wS51 cI cJ cZ cB p0 p1 p2 p3 p4 x0_4 x0_5 x0_6 x0_7 x0_8 x0_9 x0_10 x0_11 x0_12 x0_13 y1 y2 x3_0 x4_0))) (va_A (wS51 cI cJ cZ cB p0 p1 p2 p3 p4 x0_4 x0_5 x0_6 x0_7 x0_8 x0_9 x0_10 x0_11 x0_12 x0_13 y1 y2 x3_0 x4_0) sz)) 0 0 (va_A (wS51 cI cJ cZ cB p0 p1 p2 p3 p4 x0_4 x0_5 x0_6 x0_7 x0_8 x0_9 x0_10 x0_11 x0_12 x0_13 y1 y2 x3_0 x4_0) sz) := by
  refine Met.ofW (cc := b_M_register) (maxL := 2) (ret := (some .int)) (by decide) rfl ?_
  intro p e s m args below meth c s₁ B hml hv
  obtain ⟨rfl, hsz, hK, hP, hD0, hC⟩ := hv
  subst hsz
  have hD := hD0.self (sz := s.heap.size)
  generalize hAe : va_A (wS51 cI cJ cZ cB p0 p1 p2 p3 p4 x0_4 x0_5 x0_6 x0_7 x0_8 x0_9 x0_10 x0_11 x0_12 x0_13 y1 y2 x3_0 x4_0) s.heap.size = A at hD hC ⊢
  have hA : ∀ q : Nat, s.heap.size ≤ q → A q := fun q h => by rw [← hAe]; exact Or.inr h
  clear hAe hD0
  have hS : va_S A s.heap s.heap [] := va_S.rf
  have hx := B.exec
  have hb := B.bytes
  have hr := B.returns
  have hts := atoms_spec (ws := .code y_M_register b_M_register 2 (some .int) :: tb) B.pre
  have hk : ∀ w ∈ tb, w.before [.ref p0, .int a1].toArray s = true := fun w h => hts w (List.mem_cons_of_mem _ h)
  have hown : s.vm.findClass "SignMachine$Machine" = some m.cls := findClass_of_methodNamed B.named
  have hlocks := B.notSynchronized
  have hl := lv_entry ([.ref p0, .int a1]) (n := 2) (Nat.le_of_ble_eq_true rfl)
  rw [lg_entry_eq]
  generalize (lg_sl ([.ref p0, .int a1]) ++ List.replicate (2 - (lg_sl ([.ref p0, .int a1])).length) Slot.unset).toArray = ls at hl ⊢
  have hl : lv_has ls 2 [(0, .ref p0), (1, .int a1)] := hl
  refine lv_iload_n hx hb d_M_register_0 rfl (lv_at hl 1 rfl) ?_
  refine lv_if_lt (tgt := 19) hx hb d_M_register_1 (by decide) (fun c1 => ?_) (fun c1 => ?_)
  · refine lv_iconst (v := 0) hx hb d_M_register_19 (by decide) ?_
    exact W.iret (v := (0 : Int32)) hx hb hr (fun t ht hW => ⟨⟨(0 : Int32), (), rfl, trivial, ⟨by show va_P D classes _ t.heap; rw [ht]; exact hP, hD⟩⟩, hS.F ht⟩) hS.2.2 d_M_register_20
  · refine lv_iload_n hx hb d_M_register_4 rfl (lv_at hl 1 rfl) ?_
    refine lv_bipush (v := 9) hx hb d_M_register_5 (by decide) ?_
    refine lv_icmp_ge (tgt := 19) hx hb d_M_register_7 (by decide) (fun c2 => ?_) (fun c2 => ?_)
    · refine lv_iconst (v := 0) hx hb d_M_register_19 (by decide) ?_
      exact W.iret (v := (0 : Int32)) hx hb hr (fun t ht hW => ⟨⟨(0 : Int32), (), rfl, trivial, ⟨by show va_P D classes _ t.heap; rw [ht]; exact hP, hD⟩⟩, hS.F ht⟩) hS.2.2 d_M_register_20
    · refine lv_aload_n hx hb d_M_register_10 rfl (lv_at hl 0 rfl) ?_
      refine va_get (D := D) (ci := 1) (v := .ref p2) (C := "SignMachine$Machine") (T := F_M) (N := 14) hx hb hk fi_M hown hK.1 hP 0 rfl rfl 1 (by decide) (hk _ k_164) (fun _ h9 => h9) rfl d_M_register_11 ?_
      refine lv_iload_n hx hb d_M_register_14 rfl (lv_at hl 1 rfl) ?_
      refine va_iald hx hb hK.1 hP 2 0 rfl rfl (vpin c1 c2 rfl) d_M_register_15 ?_
      refine lv_topi (fun v3 hv3 => ?_)
      refine lv_goto (tgt := 20) hx hb d_M_register_16 (by decide) ?_
      exact W.iret (v := v3) hx hb hr (fun t ht hW => ⟨⟨v3, (), rfl, trivial, ⟨by show va_P D classes _ t.heap; rw [ht]; exact hP, hD⟩⟩, hS.F ht⟩) hS.2.2 d_M_register_20
theorem v_M_register_s1 {R : Room} {s : State} {args : Array Value} {own : String} {index : Nat} (hk : ∀ w ∈ tb, w.before args s = true) (hl : Cond.methodLink own index y_M_register ∈ tb) (hR : 0 + 1 ≤ R.frames ∧ 8 + (2 + 11) + 0 ≤ R.locals) : CallW R s args own "SignMachine$Machine" index y_M_register b_M_register 2 (some .int) (.code y_M_register b_M_register 2 (some .int) :: tb) ({ frames := 0, cells := 0, slots := 0, locals := 0 }) 0 0 1 := mk_v 1 hk k_276 hl k_274 k_275 k_117 rfl rfl h_M_register hR
set_option maxHeartbeats 4000000 in
set_option maxRecDepth 100000 in
theorem c_M_putRegister_s1 (l : Launch) (K : CK) (D : va_G) (cI cJ cZ cB : ClassId) (p0 p1 p2 p3 p4 : Nat) (sz : Nat) (x0_4 : Bool) (x0_5 : Int32) (x0_6 : Int32) (x0_7 : Int32) (x0_8 : Int32) (x0_9 : Int32) (x0_10 : Int32) (x0_11 : Int32) (x0_12 : Int32) (x0_13 : Int32) (y1 : Nat → Int32) (y2 : Nat → Int32) (x3_0 : Int32) (x4_0 : Int32)  (a1 : Int32) (a2 : Int32) : Met l y_M_putRegister (.code y_M_putRegister b_M_putRegister 3 none :: tb) ({ frames := 0, cells := 0, slots := 0, locals := 0 }) (pMC K D cI cJ cZ cB (wS51 cI cJ cZ cB p0 p1 p2 p3 p4 x0_4 x0_5 x0_6 x0_7 x0_8 x0_9 x0_10 x0_11 x0_12 x0_13 y1 y2 x3_0 x4_0) sz [.ref p0, .int a1, .int a2]) (va_Qv (fun (_ : Unit) => True) (fun _ t => (∃ u_y2 : Nat → Int32, va_P D classes (wS51 cI cJ cZ cB p0 p1 p2 p3 p4 x0_4 x0_5 x0_6 x0_7 x0_8 x0_9 x0_10 x0_11 x0_12 x0_13 y1 u_y2 x3_0 x4_0) t.heap ∧ va_D (va_A (wS51 cI cJ cZ cB p0 p1 p2 p3 p4 x0_4 x0_5 x0_6 x0_7 x0_8 x0_9 x0_10 x0_11 x0_12 x0_13 y1 y2 x3_0 x4_0) sz) (wS51 cI cJ cZ cB p0 p1 p2 p3 p4 x0_4 x0_5 x0_6 x0_7 x0_8 x0_9 x0_10 x0_11 x0_12 x0_13 y1 u_y2 x3_0 x4_0))) (va_A (wS51 cI cJ cZ cB p0 p1 p2 p3 p4 x0_4 x0_5 x0_6 x0_7 x0_8 x0_9 x0_10 x0_11 x0_12 x0_13 y1 y2 x3_0 x4_0) sz)) 0 0 (va_A (wS51 cI cJ cZ cB p0 p1 p2 p3 p4 x0_4 x0_5 x0_6 x0_7 x0_8 x0_9 x0_10 x0_11 x0_12 x0_13 y1 y2 x3_0 x4_0) sz) := by
  refine Met.ofW (cc := b_M_putRegister) (maxL := 3) (ret := none) (by decide) rfl ?_
  intro p e s m args below meth c s₁ B hml hv
  obtain ⟨rfl, hsz, hK, hP, hD0, hC⟩ := hv
  subst hsz
  have hD := hD0.self (sz := s.heap.size)
  generalize hAe : va_A (wS51 cI cJ cZ cB p0 p1 p2 p3 p4 x0_4 x0_5 x0_6 x0_7 x0_8 x0_9 x0_10 x0_11 x0_12 x0_13 y1 y2 x3_0 x4_0) s.heap.size = A at hD hC ⊢
  have hA : ∀ q : Nat, s.heap.size ≤ q → A q := fun q h => by rw [← hAe]; exact Or.inr h
  clear hAe hD0
  have hS : va_S A s.heap s.heap [] := va_S.rf
  have hx := B.exec
  have hb := B.bytes
  have hr := B.returns
  have hts := atoms_spec (ws := .code y_M_putRegister b_M_putRegister 3 none :: tb) B.pre
  have hk : ∀ w ∈ tb, w.before [.ref p0, .int a1, .int a2].toArray s = true := fun w h => hts w (List.mem_cons_of_mem _ h)
  have hown : s.vm.findClass "SignMachine$Machine" = some m.cls := findClass_of_methodNamed B.named
  have hlocks := B.notSynchronized
  have hl := lv_entry ([.ref p0, .int a1, .int a2]) (n := 3) (Nat.le_of_ble_eq_true rfl)
  rw [lg_entry_eq]
  generalize (lg_sl ([.ref p0, .int a1, .int a2]) ++ List.replicate (3 - (lg_sl ([.ref p0, .int a1, .int a2])).length) Slot.unset).toArray = ls at hl ⊢
  have hl : lv_has ls 3 [(0, .ref p0), (1, .int a1), (2, .int a2)] := hl
  refine lv_iload_n hx hb d_M_putRegister_0 rfl (lv_at hl 1 rfl) ?_
  refine lv_if_lt (tgt := 17) hx hb d_M_putRegister_1 (by decide) (fun c1 => ?_) (fun c1 => ?_)
  · exact W.vret hx hb hr (fun t ht hW => ⟨⟨(), rfl, trivial, ⟨y2, by show va_P D classes _ t.heap; rw [ht]; exact hP, hD⟩⟩, hS.F ht⟩) hS.2.2 d_M_putRegister_17
  · refine lv_iload_n hx hb d_M_putRegister_4 rfl (lv_at hl 1 rfl) ?_
    refine lv_bipush (v := 9) hx hb d_M_putRegister_5 (by decide) ?_
    refine lv_icmp_ge (tgt := 17) hx hb d_M_putRegister_7 (by decide) (fun c2 => ?_) (fun c2 => ?_)
    · exact W.vret hx hb hr (fun t ht hW => ⟨⟨(), rfl, trivial, ⟨y2, by show va_P D classes _ t.heap; rw [ht]; exact hP, hD⟩⟩, hS.F ht⟩) hS.2.2 d_M_putRegister_17
    · refine lv_aload_n hx hb d_M_putRegister_10 rfl (lv_at hl 0 rfl) ?_
      refine va_get (D := D) (ci := 1) (v := .ref p2) (C := "SignMachine$Machine") (T := F_M) (N := 14) hx hb hk fi_M hown hK.1 hP 0 rfl rfl 1 (by decide) (hk _ k_164) (fun _ h9 => h9) rfl d_M_putRegister_11 ?_
      refine lv_iload_n hx hb d_M_putRegister_14 rfl (lv_at hl 1 rfl) ?_
      refine lv_iload_n hx hb d_M_putRegister_15 rfl (lv_at hl 2 rfl) ?_
      refine va_iast hx hb hK.1 hP hD hS 2 0 rfl rfl (vpin c1 c2 rfl) d_M_putRegister_16 (fun H locs hP hD hS => ?_)
      have hP : va_P D classes (wS51 cI cJ cZ cB p0 p1 p2 p3 p4 x0_4 x0_5 x0_6 x0_7 x0_8 x0_9 x0_10 x0_11 x0_12 x0_13 y1 (upd y2 (a1).toNatClampNeg a2) x3_0 x4_0) H := hP
      have hD : va_D A (wS51 cI cJ cZ cB p0 p1 p2 p3 p4 x0_4 x0_5 x0_6 x0_7 x0_8 x0_9 x0_10 x0_11 x0_12 x0_13 y1 (upd y2 (a1).toNatClampNeg a2) x3_0 x4_0) := hD
      obtain ⟨v3, hv3⟩ : ∃ y : Nat → Int32, y = (upd y2 (a1).toNatClampNeg a2) := ⟨_, rfl⟩
      rw [← hv3] at hP hD
      clear hv3
      exact W.vret hx hb hr (fun t ht hW => ⟨⟨(), rfl, trivial, ⟨v3, by show va_P D classes _ t.heap; rw [ht]; exact hP, hD⟩⟩, hS.F ht⟩) hS.2.2 d_M_putRegister_17
theorem v_M_putRegister_s1 {R : Room} {s : State} {args : Array Value} {own : String} {index : Nat} (hk : ∀ w ∈ tb, w.before args s = true) (hl : Cond.methodLink own index y_M_putRegister ∈ tb) (hR : 0 + 1 ≤ R.frames ∧ 8 + (3 + 11) + 0 ≤ R.locals) : CallW R s args own "SignMachine$Machine" index y_M_putRegister b_M_putRegister 3 none (.code y_M_putRegister b_M_putRegister 3 none :: tb) ({ frames := 0, cells := 0, slots := 0, locals := 0 }) 0 0 2 := mk_v 2 hk k_365 hl k_363 k_364 k_117 rfl rfl h_M_putRegister hR
set_option maxHeartbeats 4000000 in
set_option maxRecDepth 100000 in
theorem c_M_unit_s1 (l : Launch) (K : CK) (D : va_G) (cI cJ cZ cB : ClassId) (p0 p1 p2 p3 p4 : Nat) (sz : Nat) (x0_4 : Bool) (x0_5 : Int32) (x0_6 : Int32) (x0_7 : Int32) (x0_8 : Int32) (x0_9 : Int32) (x0_10 : Int32) (x0_11 : Int32) (x0_12 : Int32) (x0_13 : Int32) (y1 : Nat → Int32) (y2 : Nat → Int32) (x3_0 : Int32) (x4_0 : Int32)  (a1 : Int32) : Met l y_M_unit (.code y_M_unit b_M_unit 2 (some (.object "SignMachine$Tape")) :: tb) ({ frames := 0, cells := 0, slots := 0, locals := 0 }) (pMC K D cI cJ cZ cB (wS51 cI cJ cZ cB p0 p1 p2 p3 p4 x0_4 x0_5 x0_6 x0_7 x0_8 x0_9 x0_10 x0_11 x0_12 x0_13 y1 y2 x3_0 x4_0) sz [.ref p0, .int a1]) (va_Qq (fun r (_ : Unit) => r = some p3 ∨ r = some p4) (fun _ t => (va_P D classes (wS51 cI cJ cZ cB p0 p1 p2 p3 p4 x0_4 x0_5 x0_6 x0_7 x0_8 x0_9 x0_10 x0_11 x0_12 x0_13 y1 y2 x3_0 x4_0) t.heap ∧ va_D (va_A (wS51 cI cJ cZ cB p0 p1 p2 p3 p4 x0_4 x0_5 x0_6 x0_7 x0_8 x0_9 x0_10 x0_11 x0_12 x0_13 y1 y2 x3_0 x4_0) sz) (wS51 cI cJ cZ cB p0 p1 p2 p3 p4 x0_4 x0_5 x0_6 x0_7 x0_8 x0_9 x0_10 x0_11 x0_12 x0_13 y1 y2 x3_0 x4_0))) (va_A (wS51 cI cJ cZ cB p0 p1 p2 p3 p4 x0_4 x0_5 x0_6 x0_7 x0_8 x0_9 x0_10 x0_11 x0_12 x0_13 y1 y2 x3_0 x4_0) sz)) 0 0 (va_A (wS51 cI cJ cZ cB p0 p1 p2 p3 p4 x0_4 x0_5 x0_6 x0_7 x0_8 x0_9 x0_10 x0_11 x0_12 x0_13 y1 y2 x3_0 x4_0) sz) := by
  refine Met.ofW (cc := b_M_unit) (maxL := 2) (ret := (some (.object "SignMachine$Tape"))) (by decide) rfl ?_
  intro p e s m args below meth c s₁ B hml hv
  obtain ⟨rfl, hsz, hK, hP, hD0, hC⟩ := hv
  subst hsz
  have hD := hD0.self (sz := s.heap.size)
  generalize hAe : va_A (wS51 cI cJ cZ cB p0 p1 p2 p3 p4 x0_4 x0_5 x0_6 x0_7 x0_8 x0_9 x0_10 x0_11 x0_12 x0_13 y1 y2 x3_0 x4_0) s.heap.size = A at hD hC ⊢
  have hA : ∀ q : Nat, s.heap.size ≤ q → A q := fun q h => by rw [← hAe]; exact Or.inr h
  clear hAe hD0
  have hS : va_S A s.heap s.heap [] := va_S.rf
  have hx := B.exec
  have hb := B.bytes
  have hr := B.returns
  have hts := atoms_spec (ws := .code y_M_unit b_M_unit 2 (some (.object "SignMachine$Tape")) :: tb) B.pre
  have hk : ∀ w ∈ tb, w.before [.ref p0, .int a1].toArray s = true := fun w h => hts w (List.mem_cons_of_mem _ h)
  have hown : s.vm.findClass "SignMachine$Machine" = some m.cls := findClass_of_methodNamed B.named
  have hlocks := B.notSynchronized
  have hl := lv_entry ([.ref p0, .int a1]) (n := 2) (Nat.le_of_ble_eq_true rfl)
  rw [lg_entry_eq]
  generalize (lg_sl ([.ref p0, .int a1]) ++ List.replicate (2 - (lg_sl ([.ref p0, .int a1])).length) Slot.unset).toArray = ls at hl ⊢
  have hl : lv_has ls 2 [(0, .ref p0), (1, .int a1)] := hl
  refine lv_iload_n hx hb d_M_unit_0 rfl (lv_at hl 1 rfl) ?_
  refine lv_if_ne (tgt := 11) hx hb d_M_unit_1 (by decide) (fun c1 => ?_) (fun c1 => ?_)
  · refine lv_aload_n hx hb d_M_unit_11 rfl (lv_at hl 0 rfl) ?_
    refine va_get (D := D) (ci := 1) (v := .ref p4) (C := "SignMachine$Machine") (T := F_M) (N := 14) hx hb hk fi_M hown hK.1 hP 0 rfl rfl 3 (by decide) (hk _ k_166) (fun _ h9 => h9) rfl d_M_unit_12 ?_
    exact W.aret (v := .ref p4) hx hb hr (Or.inl ⟨_, rfl⟩) (Or.inr ⟨_, rfl⟩) (fun t ht hW => ⟨⟨(some p4), (), rfl, Or.inr (rfl), ⟨by show va_P D classes _ t.heap; rw [ht]; exact hP, hD⟩⟩, hS.F ht⟩) hS.2.2 d_M_unit_15
  · refine lv_aload_n hx hb d_M_unit_4 rfl (lv_at hl 0 rfl) ?_
    refine va_get (D := D) (ci := 1) (v := .ref p3) (C := "SignMachine$Machine") (T := F_M) (N := 14) hx hb hk fi_M hown hK.1 hP 0 rfl rfl 2 (by decide) (hk _ k_165) (fun _ h9 => h9) rfl d_M_unit_5 ?_
    refine lv_goto (tgt := 15) hx hb d_M_unit_8 (by decide) ?_
    exact W.aret (v := .ref p3) hx hb hr (Or.inl ⟨_, rfl⟩) (Or.inr ⟨_, rfl⟩) (fun t ht hW => ⟨⟨(some p3), (), rfl, Or.inl rfl, ⟨by show va_P D classes _ t.heap; rw [ht]; exact hP, hD⟩⟩, hS.F ht⟩) hS.2.2 d_M_unit_15
theorem v_M_unit_s1 {R : Room} {s : State} {args : Array Value} {own : String} {index : Nat} (hk : ∀ w ∈ tb, w.before args s = true) (hl : Cond.methodLink own index y_M_unit ∈ tb) (hR : 0 + 1 ≤ R.frames ∧ 8 + (2 + 11) + 0 ≤ R.locals) : CallW R s args own "SignMachine$Machine" index y_M_unit b_M_unit 2 (some (.object "SignMachine$Tape")) (.code y_M_unit b_M_unit 2 (some (.object "SignMachine$Tape")) :: tb) ({ frames := 0, cells := 0, slots := 0, locals := 0 }) 0 0 1 := mk_v 1 hk k_340 hl k_338 k_339 k_117 rfl rfl h_M_unit hR
set_option maxHeartbeats 4000000 in
set_option maxRecDepth 100000 in
theorem c_T_wordAt_s1 (l : Launch) (K : CK) (D : va_G) (cI cJ cZ cB : ClassId) (p0 p1 p2 p3 p4 : Nat) (sz : Nat) (x0_4 : Bool) (x0_5 : Int32) (x0_6 : Int32) (x0_7 : Int32) (x0_8 : Int32) (x0_9 : Int32) (x0_10 : Int32) (x0_11 : Int32) (x0_12 : Int32) (x0_13 : Int32) (y1 : Nat → Int32) (y2 : Nat → Int32) (x3_0 : Int32) (x4_0 : Int32)  (a1 : Int32) (a2 : Int32) : Met l y_T_wordAt (.code y_T_wordAt b_T_wordAt 3 (some .int) :: tb) ({ frames := 0, cells := 0, slots := 0, locals := 0 }) (pMC K D cI cJ cZ cB (wS51 cI cJ cZ cB p0 p1 p2 p3 p4 x0_4 x0_5 x0_6 x0_7 x0_8 x0_9 x0_10 x0_11 x0_12 x0_13 y1 y2 x3_0 x4_0) sz [.ref p3, .int a1, .int a2]) (va_Qi (fun r (_ : Unit) => True) (fun _ t => (va_P D classes (wS51 cI cJ cZ cB p0 p1 p2 p3 p4 x0_4 x0_5 x0_6 x0_7 x0_8 x0_9 x0_10 x0_11 x0_12 x0_13 y1 y2 x3_0 x4_0) t.heap ∧ va_D (va_A (wS51 cI cJ cZ cB p0 p1 p2 p3 p4 x0_4 x0_5 x0_6 x0_7 x0_8 x0_9 x0_10 x0_11 x0_12 x0_13 y1 y2 x3_0 x4_0) sz) (wS51 cI cJ cZ cB p0 p1 p2 p3 p4 x0_4 x0_5 x0_6 x0_7 x0_8 x0_9 x0_10 x0_11 x0_12 x0_13 y1 y2 x3_0 x4_0))) (va_A (wS51 cI cJ cZ cB p0 p1 p2 p3 p4 x0_4 x0_5 x0_6 x0_7 x0_8 x0_9 x0_10 x0_11 x0_12 x0_13 y1 y2 x3_0 x4_0) sz)) 0 0 (va_A (wS51 cI cJ cZ cB p0 p1 p2 p3 p4 x0_4 x0_5 x0_6 x0_7 x0_8 x0_9 x0_10 x0_11 x0_12 x0_13 y1 y2 x3_0 x4_0) sz) := by
  refine Met.ofW (cc := b_T_wordAt) (maxL := 3) (ret := (some .int)) (by decide) rfl ?_
  intro p e s m args below meth c s₁ B hml hv
  obtain ⟨rfl, hsz, hK, hP, hD0, hC⟩ := hv
  subst hsz
  have hD := hD0.self (sz := s.heap.size)
  generalize hAe : va_A (wS51 cI cJ cZ cB p0 p1 p2 p3 p4 x0_4 x0_5 x0_6 x0_7 x0_8 x0_9 x0_10 x0_11 x0_12 x0_13 y1 y2 x3_0 x4_0) s.heap.size = A at hD hC ⊢
  have hA : ∀ q : Nat, s.heap.size ≤ q → A q := fun q h => by rw [← hAe]; exact Or.inr h
  clear hAe hD0
  have hS : va_S A s.heap s.heap [] := va_S.rf
  have hx := B.exec
  have hb := B.bytes
  have hr := B.returns
  have hts := atoms_spec (ws := .code y_T_wordAt b_T_wordAt 3 (some .int) :: tb) B.pre
  have hk : ∀ w ∈ tb, w.before [.ref p3, .int a1, .int a2].toArray s = true := fun w h => hts w (List.mem_cons_of_mem _ h)
  have hown : s.vm.findClass "SignMachine$Tape" = some m.cls := findClass_of_methodNamed B.named
  have hlocks := B.notSynchronized
  have hl := lv_entry ([.ref p3, .int a1, .int a2]) (n := 3) (Nat.le_of_ble_eq_true rfl)
  rw [lg_entry_eq]
  generalize (lg_sl ([.ref p3, .int a1, .int a2]) ++ List.replicate (3 - (lg_sl ([.ref p3, .int a1, .int a2])).length) Slot.unset).toArray = ls at hl ⊢
  have hl : lv_has ls 3 [(0, .ref p3), (1, .int a1), (2, .int a2)] := hl
  refine lv_aload_n hx hb d_T_wordAt_0 rfl (lv_at hl 0 rfl) ?_
  refine va_get (D := D) (ci := 2) (v := .null) (C := "SignMachine$Tape") (T := F_T) (N := 2) hx hb hk fi_T hown hK.1 hP 3 rfl rfl 1 (by decide) (hk _ k_156) (fun _ h9 => h9) rfl d_T_wordAt_1 ?_
  refine lv_ifnullN (tgt := 29) hx hb d_T_wordAt_4 (by decide) ?_
  refine lv_iconst (v := 0) hx hb d_T_wordAt_29 (by decide) ?_
  exact W.iret (v := (0 : Int32)) hx hb hr (fun t ht hW => ⟨⟨(0 : Int32), (), rfl, trivial, ⟨by show va_P D classes _ t.heap; rw [ht]; exact hP, hD⟩⟩, hS.F ht⟩) hS.2.2 d_T_wordAt_30
theorem v_T_wordAt_s1 {R : Room} {s : State} {args : Array Value} {own : String} {index : Nat} (hk : ∀ w ∈ tb, w.before args s = true) (hl : Cond.methodLink own index y_T_wordAt ∈ tb) (hR : 0 + 1 ≤ R.frames ∧ 8 + (3 + 11) + 0 ≤ R.locals) : CallW R s args own "SignMachine$Tape" index y_T_wordAt b_T_wordAt 3 (some .int) (.code y_T_wordAt b_T_wordAt 3 (some .int) :: tb) ({ frames := 0, cells := 0, slots := 0, locals := 0 }) 0 0 2 := mk_v 2 hk k_436 hl k_434 k_435 k_118 rfl rfl h_T_wordAt hR
set_option maxHeartbeats 4000000 in
set_option maxRecDepth 100000 in
theorem c_T_wordAt_s2 (l : Launch) (K : CK) (D : va_G) (cI cJ cZ cB : ClassId) (p0 p1 p2 p3 p4 : Nat) (sz : Nat) (x0_4 : Bool) (x0_5 : Int32) (x0_6 : Int32) (x0_7 : Int32) (x0_8 : Int32) (x0_9 : Int32) (x0_10 : Int32) (x0_11 : Int32) (x0_12 : Int32) (x0_13 : Int32) (y1 : Nat → Int32) (y2 : Nat → Int32) (x3_0 : Int32) (x4_0 : Int32)  (a1 : Int32) (a2 : Int32) : Met l y_T_wordAt (.code y_T_wordAt b_T_wordAt 3 (some .int) :: tb) ({ frames := 0, cells := 0, slots := 0, locals := 0 }) (pMC K D cI cJ cZ cB (wS51 cI cJ cZ cB p0 p1 p2 p3 p4 x0_4 x0_5 x0_6 x0_7 x0_8 x0_9 x0_10 x0_11 x0_12 x0_13 y1 y2 x3_0 x4_0) sz [.ref p4, .int a1, .int a2]) (va_Qi (fun r (_ : Unit) => True) (fun _ t => (va_P D classes (wS51 cI cJ cZ cB p0 p1 p2 p3 p4 x0_4 x0_5 x0_6 x0_7 x0_8 x0_9 x0_10 x0_11 x0_12 x0_13 y1 y2 x3_0 x4_0) t.heap ∧ va_D (va_A (wS51 cI cJ cZ cB p0 p1 p2 p3 p4 x0_4 x0_5 x0_6 x0_7 x0_8 x0_9 x0_10 x0_11 x0_12 x0_13 y1 y2 x3_0 x4_0) sz) (wS51 cI cJ cZ cB p0 p1 p2 p3 p4 x0_4 x0_5 x0_6 x0_7 x0_8 x0_9 x0_10 x0_11 x0_12 x0_13 y1 y2 x3_0 x4_0))) (va_A (wS51 cI cJ cZ cB p0 p1 p2 p3 p4 x0_4 x0_5 x0_6 x0_7 x0_8 x0_9 x0_10 x0_11 x0_12 x0_13 y1 y2 x3_0 x4_0) sz)) 0 0 (va_A (wS51 cI cJ cZ cB p0 p1 p2 p3 p4 x0_4 x0_5 x0_6 x0_7 x0_8 x0_9 x0_10 x0_11 x0_12 x0_13 y1 y2 x3_0 x4_0) sz) := by
  refine Met.ofW (cc := b_T_wordAt) (maxL := 3) (ret := (some .int)) (by decide) rfl ?_
  intro p e s m args below meth c s₁ B hml hv
  obtain ⟨rfl, hsz, hK, hP, hD0, hC⟩ := hv
  subst hsz
  have hD := hD0.self (sz := s.heap.size)
  generalize hAe : va_A (wS51 cI cJ cZ cB p0 p1 p2 p3 p4 x0_4 x0_5 x0_6 x0_7 x0_8 x0_9 x0_10 x0_11 x0_12 x0_13 y1 y2 x3_0 x4_0) s.heap.size = A at hD hC ⊢
  have hA : ∀ q : Nat, s.heap.size ≤ q → A q := fun q h => by rw [← hAe]; exact Or.inr h
  clear hAe hD0
  have hS : va_S A s.heap s.heap [] := va_S.rf
  have hx := B.exec
  have hb := B.bytes
  have hr := B.returns
  have hts := atoms_spec (ws := .code y_T_wordAt b_T_wordAt 3 (some .int) :: tb) B.pre
  have hk : ∀ w ∈ tb, w.before [.ref p4, .int a1, .int a2].toArray s = true := fun w h => hts w (List.mem_cons_of_mem _ h)
  have hown : s.vm.findClass "SignMachine$Tape" = some m.cls := findClass_of_methodNamed B.named
  have hlocks := B.notSynchronized
  have hl := lv_entry ([.ref p4, .int a1, .int a2]) (n := 3) (Nat.le_of_ble_eq_true rfl)
  rw [lg_entry_eq]
  generalize (lg_sl ([.ref p4, .int a1, .int a2]) ++ List.replicate (3 - (lg_sl ([.ref p4, .int a1, .int a2])).length) Slot.unset).toArray = ls at hl ⊢
  have hl : lv_has ls 3 [(0, .ref p4), (1, .int a1), (2, .int a2)] := hl
  refine lv_aload_n hx hb d_T_wordAt_0 rfl (lv_at hl 0 rfl) ?_
  refine va_get (D := D) (ci := 2) (v := .null) (C := "SignMachine$Tape") (T := F_T) (N := 2) hx hb hk fi_T hown hK.1 hP 4 rfl rfl 1 (by decide) (hk _ k_156) (fun _ h9 => h9) rfl d_T_wordAt_1 ?_
  refine lv_ifnullN (tgt := 29) hx hb d_T_wordAt_4 (by decide) ?_
  refine lv_iconst (v := 0) hx hb d_T_wordAt_29 (by decide) ?_
  exact W.iret (v := (0 : Int32)) hx hb hr (fun t ht hW => ⟨⟨(0 : Int32), (), rfl, trivial, ⟨by show va_P D classes _ t.heap; rw [ht]; exact hP, hD⟩⟩, hS.F ht⟩) hS.2.2 d_T_wordAt_30
theorem v_T_wordAt_s2 {R : Room} {s : State} {args : Array Value} {own : String} {index : Nat} (hk : ∀ w ∈ tb, w.before args s = true) (hl : Cond.methodLink own index y_T_wordAt ∈ tb) (hR : 0 + 1 ≤ R.frames ∧ 8 + (3 + 11) + 0 ≤ R.locals) : CallW R s args own "SignMachine$Tape" index y_T_wordAt b_T_wordAt 3 (some .int) (.code y_T_wordAt b_T_wordAt 3 (some .int) :: tb) ({ frames := 0, cells := 0, slots := 0, locals := 0 }) 0 0 2 := mk_v 2 hk k_436 hl k_434 k_435 k_118 rfl rfl h_T_wordAt hR
set_option maxHeartbeats 4000000 in
set_option maxRecDepth 100000 in
theorem c_M_decode_s1 (l : Launch) (K : CK) (D : va_G) (cI cJ cZ cB : ClassId) (p0 p1 p2 p3 p4 : Nat) (sz : Nat) (x0_4 : Bool) (x0_5 : Int32) (x0_6 : Int32) (x0_7 : Int32) (x0_8 : Int32) (x0_9 : Int32) (x0_10 : Int32) (x0_11 : Int32) (x0_12 : Int32) (x0_13 : Int32) (y1 : Nat → Int32) (y2 : Nat → Int32) (x3_0 : Int32) (x4_0 : Int32)  (a1 : Int32) : Met l y_M_decode (.code y_M_decode b_M_decode 4 none :: tb) ({ frames := 1, cells := 0, slots := 0, locals := 21 }) (pMC K D cI cJ cZ cB (wS51 cI cJ cZ cB p0 p1 p2 p3 p4 x0_4 x0_5 x0_6 x0_7 x0_8 x0_9 x0_10 x0_11 x0_12 x0_13 y1 y2 x3_0 x4_0) sz [.ref p0, .int a1]) (va_Qv (fun (_ : Unit) => True) (fun _ t => (∃ u_x0_9 : Int32, ∃ u_x0_10 : Int32, ∃ u_x0_11 : Int32, ∃ u_x0_12 : Int32, ∃ u_x0_13 : Int32, (u_x0_9 = ((f_W_size a1) &&& (63 : Int32))) ∧ (u_x0_10 = (((f_W_size a1) >>> ((6 : Int32) &&& (31 : Int32))) &&& (63 : Int32))) ∧ va_P D classes (wS51 cI cJ cZ cB p0 p1 p2 p3 p4 x0_4 x0_5 x0_6 x0_7 x0_8 u_x0_9 u_x0_10 u_x0_11 u_x0_12 u_x0_13 y1 y2 x3_0 x4_0) t.heap ∧ va_D (va_A (wS51 cI cJ cZ cB p0 p1 p2 p3 p4 x0_4 x0_5 x0_6 x0_7 x0_8 x0_9 x0_10 x0_11 x0_12 x0_13 y1 y2 x3_0 x4_0) sz) (wS51 cI cJ cZ cB p0 p1 p2 p3 p4 x0_4 x0_5 x0_6 x0_7 x0_8 u_x0_9 u_x0_10 u_x0_11 u_x0_12 u_x0_13 y1 y2 x3_0 x4_0))) (va_A (wS51 cI cJ cZ cB p0 p1 p2 p3 p4 x0_4 x0_5 x0_6 x0_7 x0_8 x0_9 x0_10 x0_11 x0_12 x0_13 y1 y2 x3_0 x4_0) sz)) 0 0 (va_A (wS51 cI cJ cZ cB p0 p1 p2 p3 p4 x0_4 x0_5 x0_6 x0_7 x0_8 x0_9 x0_10 x0_11 x0_12 x0_13 y1 y2 x3_0 x4_0) sz) := by
  refine Met.ofW (cc := b_M_decode) (maxL := 4) (ret := none) (by decide) rfl ?_
  intro p e s m args below meth c s₁ B hml hv
  obtain ⟨rfl, hsz, hK, hP, hD0, hC⟩ := hv
  subst hsz
  have hD := hD0.self (sz := s.heap.size)
  generalize hAe : va_A (wS51 cI cJ cZ cB p0 p1 p2 p3 p4 x0_4 x0_5 x0_6 x0_7 x0_8 x0_9 x0_10 x0_11 x0_12 x0_13 y1 y2 x3_0 x4_0) s.heap.size = A at hD hC ⊢
  have hA : ∀ q : Nat, s.heap.size ≤ q → A q := fun q h => by rw [← hAe]; exact Or.inr h
  clear hAe hD0
  have hS : va_S A s.heap s.heap [] := va_S.rf
  have hx := B.exec
  have hb := B.bytes
  have hr := B.returns
  have hts := atoms_spec (ws := .code y_M_decode b_M_decode 4 none :: tb) B.pre
  have hk : ∀ w ∈ tb, w.before [.ref p0, .int a1].toArray s = true := fun w h => hts w (List.mem_cons_of_mem _ h)
  have hown : s.vm.findClass "SignMachine$Machine" = some m.cls := findClass_of_methodNamed B.named
  have hlocks := B.notSynchronized
  have hl := lv_entry ([.ref p0, .int a1]) (n := 4) (Nat.le_of_ble_eq_true rfl)
  rw [lg_entry_eq]
  generalize (lg_sl ([.ref p0, .int a1]) ++ List.replicate (4 - (lg_sl ([.ref p0, .int a1])).length) Slot.unset).toArray = ls at hl ⊢
  have hl : lv_has ls 4 [(0, .ref p0), (1, .int a1)] := hl
  refine lv_iload_n hx hb d_M_decode_0 rfl (lv_at hl 1 rfl) ?_
  refine cs_i (W.runS (As := [.int a1]) (rest := []) ⟨hx, hb, hml, hown, hk⟩ (c_W_size l a1) (s_W_size hk k_268 ⟨Nat.le_of_ble_eq_true rfl, Nat.le_of_ble_eq_true rfl⟩) ⟨fun a U g mk q => q, fun U hU hW => ⟨rfl, trivial⟩⟩ rfl rfl hl.1 rfl (lv_room (Nat.le_of_ble_eq_true rfl)) d_M_decode_1 ⟨Nat.le_of_ble_eq_true rfl, Nat.le_of_ble_eq_true rfl⟩) ?_
  refine lv_topi (fun v1 hv1 => ?_)
  refine lv_istore_n (lv' := [(2, .int v1), (0, .ref p0), (1, .int a1)]) hx hb d_M_decode_4 rfl hl (by decide) rfl (fun ls hl => ?_)
  refine lv_aload_n hx hb d_M_decode_5 rfl (lv_at hl 1 rfl) ?_
  refine lv_iload_n hx hb d_M_decode_6 rfl (lv_at hl 0 rfl) ?_
  refine lv_bipush (v := 63) hx hb d_M_decode_7 (by decide) ?_
  refine lv_iand hx hb d_M_decode_9 ?_
  refine lv_topi (fun v2 hv2 => ?_)
  refine va_put (D := D) (ci := 1) (v := .int v2) (ty := .int) (C := "SignMachine$Machine") (T := F_M) (N := 14) hx hb hk fi_M ft_M ft_M_ok fn_M hown hK.1 hP hD hS 0 rfl rfl 9 (by decide) (hk _ k_176) (fun _ h9 => h9) rfl (by decide +kernel) rfl rfl (Nat.le_of_ble_eq_true rfl) d_M_decode_10 (fun H locs hP hD hS => ?_)
  have hP : va_P D classes (wS51 cI cJ cZ cB p0 p1 p2 p3 p4 x0_4 x0_5 x0_6 x0_7 x0_8 v2 x0_10 x0_11 x0_12 x0_13 y1 y2 x3_0 x4_0) H := hP
  have hD : va_D A (wS51 cI cJ cZ cB p0 p1 p2 p3 p4 x0_4 x0_5 x0_6 x0_7 x0_8 v2 x0_10 x0_11 x0_12 x0_13 y1 y2 x3_0 x4_0) := hD
  refine lv_aload_n hx hb d_M_decode_13 rfl (lv_at hl 1 rfl) ?_
  refine lv_iload_n hx hb d_M_decode_14 rfl (lv_at hl 0 rfl) ?_
  refine lv_bipush (v := 6) hx hb d_M_decode_15 (by decide) ?_
  refine lv_ishr hx hb d_M_decode_17 ?_
  refine lv_topi (fun v3 hv3 => ?_)
  refine lv_bipush (v := 63) hx hb d_M_decode_18 (by decide) ?_
  refine lv_iand hx hb d_M_decode_20 ?_
  refine lv_topi (fun v4 hv4 => ?_)
  refine va_put (D := D) (ci := 1) (v := .int v4) (ty := .int) (C := "SignMachine$Machine") (T := F_M) (N := 14) hx hb hk fi_M ft_M ft_M_ok fn_M hown hK.1 hP hD hS 0 rfl rfl 10 (by decide) (hk _ k_177) (fun _ h9 => h9) rfl (by decide +kernel) rfl rfl (Nat.le_of_ble_eq_true rfl) d_M_decode_21 (fun H locs hP hD hS => ?_)
  have hP : va_P D classes (wS51 cI cJ cZ cB p0 p1 p2 p3 p4 x0_4 x0_5 x0_6 x0_7 x0_8 v2 v4 x0_11 x0_12 x0_13 y1 y2 x3_0 x4_0) H := hP
  have hD : va_D A (wS51 cI cJ cZ cB p0 p1 p2 p3 p4 x0_4 x0_5 x0_6 x0_7 x0_8 v2 v4 x0_11 x0_12 x0_13 y1 y2 x3_0 x4_0) := hD
  refine lv_aload_n hx hb d_M_decode_24 rfl (lv_at hl 1 rfl) ?_
  refine lv_iload_n hx hb d_M_decode_25 rfl (lv_at hl 0 rfl) ?_
  refine lv_bipush (v := 12) hx hb d_M_decode_26 (by decide) ?_
  refine lv_ishr hx hb d_M_decode_28 ?_
  refine lv_topi (fun v5 hv5 => ?_)
  refine lv_bipush (v := 63) hx hb d_M_decode_29 (by decide) ?_
  refine lv_iand hx hb d_M_decode_31 ?_
  refine lv_topi (fun v6 hv6 => ?_)
  refine va_put (D := D) (ci := 1) (v := .int v6) (ty := .int) (C := "SignMachine$Machine") (T := F_M) (N := 14) hx hb hk fi_M ft_M ft_M_ok fn_M hown hK.1 hP hD hS 0 rfl rfl 11 (by decide) (hk _ k_178) (fun _ h9 => h9) rfl (by decide +kernel) rfl rfl (Nat.le_of_ble_eq_true rfl) d_M_decode_32 (fun H locs hP hD hS => ?_)
  have hP : va_P D classes (wS51 cI cJ cZ cB p0 p1 p2 p3 p4 x0_4 x0_5 x0_6 x0_7 x0_8 v2 v4 v6 x0_12 x0_13 y1 y2 x3_0 x4_0) H := hP
  have hD : va_D A (wS51 cI cJ cZ cB p0 p1 p2 p3 p4 x0_4 x0_5 x0_6 x0_7 x0_8 v2 v4 v6 x0_12 x0_13 y1 y2 x3_0 x4_0) := hD
  refine lv_aload_n hx hb d_M_decode_35 rfl (lv_at hl 1 rfl) ?_
  refine lv_iload_n hx hb d_M_decode_36 rfl (lv_at hl 2 rfl) ?_
  refine cs_i (W.runS (As := [.int a1]) (rest := [.ref p0]) ⟨hx, hb, hml, hown, hk⟩ (c_W_sign l a1) (s_W_sign hk k_269 ⟨Nat.le_of_ble_eq_true rfl, Nat.le_of_ble_eq_true rfl⟩) ⟨fun a U g mk q => q, fun U hU hW => ⟨rfl, trivial⟩⟩ rfl rfl hl.1 rfl (lv_room (Nat.le_of_ble_eq_true rfl)) d_M_decode_37 ⟨Nat.le_of_ble_eq_true rfl, Nat.le_of_ble_eq_true rfl⟩) ?_
  refine lv_topi (fun v7 hv7 => ?_)
  refine va_put (D := D) (ci := 1) (v := .int v7) (ty := .int) (C := "SignMachine$Machine") (T := F_M) (N := 14) hx hb hk fi_M ft_M ft_M_ok fn_M hown hK.1 hP hD hS 0 rfl rfl 13 (by decide) (hk _ k_180) (fun _ h9 => h9) rfl (by decide +kernel) rfl rfl (Nat.le_of_ble_eq_true rfl) d_M_decode_40 (fun H locs hP hD hS => ?_)
  have hP : va_P D classes (wS51 cI cJ cZ cB p0 p1 p2 p3 p4 x0_4 x0_5 x0_6 x0_7 x0_8 v2 v4 v6 x0_12 v7 y1 y2 x3_0 x4_0) H := hP
  have hD : va_D A (wS51 cI cJ cZ cB p0 p1 p2 p3 p4 x0_4 x0_5 x0_6 x0_7 x0_8 v2 v4 v6 x0_12 v7 y1 y2 x3_0 x4_0) := hD
  refine lv_iload_n hx hb d_M_decode_43 rfl (lv_at hl 0 rfl) ?_
  refine lv_bipush (v := 18) hx hb d_M_decode_44 (by decide) ?_
  refine lv_ishr hx hb d_M_decode_46 ?_
  refine lv_topi (fun v8 hv8 => ?_)
  refine lv_istore_n (lv' := [(3, .int v8), (2, .int v1), (0, .ref p0), (1, .int a1)]) hx hb d_M_decode_47 rfl hl (by decide) rfl (fun ls hl => ?_)
  refine lv_aload_n hx hb d_M_decode_48 rfl (lv_at hl 2 rfl) ?_
  refine lv_aload_n hx hb d_M_decode_49 rfl (lv_at hl 2 rfl) ?_
  refine va_get (D := D) (ci := 1) (v := .int v7) (C := "SignMachine$Machine") (T := F_M) (N := 14) hx hb hk fi_M hown hK.1 hP 0 rfl rfl 13 (by decide) (hk _ k_180) (fun _ h9 => h9) rfl d_M_decode_50 ?_
  refine lv_if_ne (tgt := 60) hx hb d_M_decode_53 (by decide) (fun c9 => ?_) (fun c9 => ?_)
  · refine lv_iload_n hx hb d_M_decode_60 rfl (lv_at hl 0 rfl) ?_
    refine lv_ineg hx hb d_M_decode_61 ?_
    refine lv_topi (fun v10 hv10 => ?_)
    refine va_put (D := D) (ci := 1) (v := .int v10) (ty := .int) (C := "SignMachine$Machine") (T := F_M) (N := 14) hx hb hk fi_M ft_M ft_M_ok fn_M hown hK.1 hP hD hS 0 rfl rfl 12 (by decide) (hk _ k_179) (fun _ h9 => h9) rfl (by decide +kernel) rfl rfl (Nat.le_of_ble_eq_true rfl) d_M_decode_62 (fun H locs hP hD hS => ?_)
    have hP : va_P D classes (wS51 cI cJ cZ cB p0 p1 p2 p3 p4 x0_4 x0_5 x0_6 x0_7 x0_8 v2 v4 v6 v10 v7 y1 y2 x3_0 x4_0) H := hP
    have hD : va_D A (wS51 cI cJ cZ cB p0 p1 p2 p3 p4 x0_4 x0_5 x0_6 x0_7 x0_8 v2 v4 v6 v10 v7 y1 y2 x3_0 x4_0) := hD
    refine lv_aload_n hx hb d_M_decode_65 rfl (lv_at hl 2 rfl) ?_
    refine va_get (D := D) (ci := 1) (v := .int v6) (C := "SignMachine$Machine") (T := F_M) (N := 14) hx hb hk fi_M hown hK.1 hP 0 rfl rfl 11 (by decide) (hk _ k_178) (fun _ h9 => h9) rfl d_M_decode_66 ?_
    refine cs_i (W.runS (As := [.int v6]) (rest := []) ⟨hx, hb, hml, hown, hk⟩ (c_M_isIndex l v6) (s_M_isIndex hk k_270 ⟨Nat.le_of_ble_eq_true rfl, Nat.le_of_ble_eq_true rfl⟩) ⟨fun a U g mk q => q, fun U hU hW => ⟨rfl, trivial⟩⟩ rfl rfl hl.1 rfl (lv_room (Nat.le_of_ble_eq_true rfl)) d_M_decode_69 ⟨Nat.le_of_ble_eq_true rfl, Nat.le_of_ble_eq_true rfl⟩) ?_
    obtain ⟨z11, hz11⟩ : ∃ y : Bool, y = (f_M_isIndex v6) := ⟨_, rfl⟩
    rw [← hz11]
    refine lv_if_eq (tgt := 95) hx hb d_M_decode_72 (by decide) (fun c12 => ?_) (fun c12 => ?_)
    · exact W.vret hx hb hr (fun t ht hW => ⟨⟨(), rfl, trivial, ⟨v2, v4, v6, v10, v7, by rw [hv2, hv1], by rw [hv4, hv3, hv1], by show va_P D classes _ t.heap; rw [ht]; exact hP, hD⟩⟩, hS.F ht⟩) hS.2.2 d_M_decode_95
    · refine lv_aload_n hx hb d_M_decode_75 rfl (lv_at hl 2 rfl) ?_
      refine lv_dup hx hb d_M_decode_76 rfl ?_
      refine va_get (D := D) (ci := 1) (v := .int v10) (C := "SignMachine$Machine") (T := F_M) (N := 14) hx hb hk fi_M hown hK.1 hP 0 rfl rfl 12 (by decide) (hk _ k_179) (fun _ h9 => h9) rfl d_M_decode_77 ?_
      refine lv_aload_n hx hb d_M_decode_80 rfl (lv_at hl 2 rfl) ?_
      refine lv_aload_n hx hb d_M_decode_81 rfl (lv_at hl 2 rfl) ?_
      refine va_get (D := D) (ci := 1) (v := .int v6) (C := "SignMachine$Machine") (T := F_M) (N := 14) hx hb hk fi_M hown hK.1 hP 0 rfl rfl 11 (by decide) (hk _ k_178) (fun _ h9 => h9) rfl d_M_decode_82 ?_
      refine sn_i (va_runV (C := "SignMachine$Machine") (As := [.int v6]) (rest := [.int v10, .ref p0]) ⟨hx, hb, hml, hown, hk⟩ (c_M_register_s1 l K D cI cJ cZ cB p0 p1 p2 p3 p4 H.size x0_4 x0_5 x0_6 x0_7 x0_8 v2 v4 v6 v10 v7 y1 y2 x3_0 x4_0  v6 ) (v_M_register_s1 hk k_273 ⟨Nat.le_of_ble_eq_true rfl, Nat.le_of_ble_eq_true rfl⟩) (pMC_v hK hP hD hC hS hA (ci := 1) (q0 := 0) rfl rfl rfl) rfl rfl hl.1 rfl (lv_room (Nat.le_of_ble_eq_true rfl)) d_M_decode_85 ⟨by decide, by decide⟩) hS hA hD (fun rz13 u t H locs hr0 ht hB hFr hS => ?_)
      obtain ⟨hP, hD⟩ := hB
      rw [ht] at hP
      have hD := dwk hD hFr
      clear ht hFr
      have hP : va_P D classes (wS51 cI cJ cZ cB p0 p1 p2 p3 p4 x0_4 x0_5 x0_6 x0_7 x0_8 v2 v4 v6 v10 v7 y1 y2 x3_0 x4_0) H := hP
      have hD : va_D A (wS51 cI cJ cZ cB p0 p1 p2 p3 p4 x0_4 x0_5 x0_6 x0_7 x0_8 v2 v4 v6 v10 v7 y1 y2 x3_0 x4_0) := hD
      refine cs_i (W.runS (As := [.int rz13]) (rest := [.int v10, .ref p0]) ⟨hx, hb, hml, hown, hk⟩ (c_W_number l rz13) (s_W_number hk k_277 ⟨Nat.le_of_ble_eq_true rfl, Nat.le_of_ble_eq_true rfl⟩) ⟨fun a U g mk q => q, fun U hU hW => ⟨rfl, trivial⟩⟩ rfl rfl hl.1 rfl (lv_room (Nat.le_of_ble_eq_true rfl)) d_M_decode_88 ⟨Nat.le_of_ble_eq_true rfl, Nat.le_of_ble_eq_true rfl⟩) ?_
      refine lv_topi (fun v14 hv14 => ?_)
      refine lv_iadd hx hb d_M_decode_91 ?_
      refine lv_topi (fun v15 hv15 => ?_)
      refine va_put (D := D) (ci := 1) (v := .int v15) (ty := .int) (C := "SignMachine$Machine") (T := F_M) (N := 14) hx hb hk fi_M ft_M ft_M_ok fn_M hown hK.1 hP hD hS 0 rfl rfl 12 (by decide) (hk _ k_179) (fun _ h9 => h9) rfl (by decide +kernel) rfl rfl (Nat.le_of_ble_eq_true rfl) d_M_decode_92 (fun H locs hP hD hS => ?_)
      have hP : va_P D classes (wS51 cI cJ cZ cB p0 p1 p2 p3 p4 x0_4 x0_5 x0_6 x0_7 x0_8 v2 v4 v6 v15 v7 y1 y2 x3_0 x4_0) H := hP
      have hD : va_D A (wS51 cI cJ cZ cB p0 p1 p2 p3 p4 x0_4 x0_5 x0_6 x0_7 x0_8 v2 v4 v6 v15 v7 y1 y2 x3_0 x4_0) := hD
      exact W.vret hx hb hr (fun t ht hW => ⟨⟨(), rfl, trivial, ⟨v2, v4, v6, v15, v7, by rw [hv2, hv1], by rw [hv4, hv3, hv1], by show va_P D classes _ t.heap; rw [ht]; exact hP, hD⟩⟩, hS.F ht⟩) hS.2.2 d_M_decode_95
  · refine lv_iload_n hx hb d_M_decode_56 rfl (lv_at hl 0 rfl) ?_
    refine lv_goto (tgt := 62) hx hb d_M_decode_57 (by decide) ?_
    refine va_put (D := D) (ci := 1) (v := .int v8) (ty := .int) (C := "SignMachine$Machine") (T := F_M) (N := 14) hx hb hk fi_M ft_M ft_M_ok fn_M hown hK.1 hP hD hS 0 rfl rfl 12 (by decide) (hk _ k_179) (fun _ h9 => h9) rfl (by decide +kernel) rfl rfl (Nat.le_of_ble_eq_true rfl) d_M_decode_62 (fun H locs hP hD hS => ?_)
    have hP : va_P D classes (wS51 cI cJ cZ cB p0 p1 p2 p3 p4 x0_4 x0_5 x0_6 x0_7 x0_8 v2 v4 v6 v8 v7 y1 y2 x3_0 x4_0) H := hP
    have hD : va_D A (wS51 cI cJ cZ cB p0 p1 p2 p3 p4 x0_4 x0_5 x0_6 x0_7 x0_8 v2 v4 v6 v8 v7 y1 y2 x3_0 x4_0) := hD
    refine lv_aload_n hx hb d_M_decode_65 rfl (lv_at hl 2 rfl) ?_
    refine va_get (D := D) (ci := 1) (v := .int v6) (C := "SignMachine$Machine") (T := F_M) (N := 14) hx hb hk fi_M hown hK.1 hP 0 rfl rfl 11 (by decide) (hk _ k_178) (fun _ h9 => h9) rfl d_M_decode_66 ?_
    refine cs_i (W.runS (As := [.int v6]) (rest := []) ⟨hx, hb, hml, hown, hk⟩ (c_M_isIndex l v6) (s_M_isIndex hk k_270 ⟨Nat.le_of_ble_eq_true rfl, Nat.le_of_ble_eq_true rfl⟩) ⟨fun a U g mk q => q, fun U hU hW => ⟨rfl, trivial⟩⟩ rfl rfl hl.1 rfl (lv_room (Nat.le_of_ble_eq_true rfl)) d_M_decode_69 ⟨Nat.le_of_ble_eq_true rfl, Nat.le_of_ble_eq_true rfl⟩) ?_
    obtain ⟨z16, hz16⟩ : ∃ y : Bool, y = (f_M_isIndex v6) := ⟨_, rfl⟩
    rw [← hz16]
    refine lv_if_eq (tgt := 95) hx hb d_M_decode_72 (by decide) (fun c17 => ?_) (fun c17 => ?_)
    · exact W.vret hx hb hr (fun t ht hW => ⟨⟨(), rfl, trivial, ⟨v2, v4, v6, v8, v7, by rw [hv2, hv1], by rw [hv4, hv3, hv1], by show va_P D classes _ t.heap; rw [ht]; exact hP, hD⟩⟩, hS.F ht⟩) hS.2.2 d_M_decode_95
    · refine lv_aload_n hx hb d_M_decode_75 rfl (lv_at hl 2 rfl) ?_
      refine lv_dup hx hb d_M_decode_76 rfl ?_
      refine va_get (D := D) (ci := 1) (v := .int v8) (C := "SignMachine$Machine") (T := F_M) (N := 14) hx hb hk fi_M hown hK.1 hP 0 rfl rfl 12 (by decide) (hk _ k_179) (fun _ h9 => h9) rfl d_M_decode_77 ?_
      refine lv_aload_n hx hb d_M_decode_80 rfl (lv_at hl 2 rfl) ?_
      refine lv_aload_n hx hb d_M_decode_81 rfl (lv_at hl 2 rfl) ?_
      refine va_get (D := D) (ci := 1) (v := .int v6) (C := "SignMachine$Machine") (T := F_M) (N := 14) hx hb hk fi_M hown hK.1 hP 0 rfl rfl 11 (by decide) (hk _ k_178) (fun _ h9 => h9) rfl d_M_decode_82 ?_
      refine sn_i (va_runV (C := "SignMachine$Machine") (As := [.int v6]) (rest := [.int v8, .ref p0]) ⟨hx, hb, hml, hown, hk⟩ (c_M_register_s1 l K D cI cJ cZ cB p0 p1 p2 p3 p4 H.size x0_4 x0_5 x0_6 x0_7 x0_8 v2 v4 v6 v8 v7 y1 y2 x3_0 x4_0  v6 ) (v_M_register_s1 hk k_273 ⟨Nat.le_of_ble_eq_true rfl, Nat.le_of_ble_eq_true rfl⟩) (pMC_v hK hP hD hC hS hA (ci := 1) (q0 := 0) rfl rfl rfl) rfl rfl hl.1 rfl (lv_room (Nat.le_of_ble_eq_true rfl)) d_M_decode_85 ⟨by decide, by decide⟩) hS hA hD (fun rz18 u t H locs hr0 ht hB hFr hS => ?_)
      obtain ⟨hP, hD⟩ := hB
      rw [ht] at hP
      have hD := dwk hD hFr
      clear ht hFr
      have hP : va_P D classes (wS51 cI cJ cZ cB p0 p1 p2 p3 p4 x0_4 x0_5 x0_6 x0_7 x0_8 v2 v4 v6 v8 v7 y1 y2 x3_0 x4_0) H := hP
      have hD : va_D A (wS51 cI cJ cZ cB p0 p1 p2 p3 p4 x0_4 x0_5 x0_6 x0_7 x0_8 v2 v4 v6 v8 v7 y1 y2 x3_0 x4_0) := hD
      refine cs_i (W.runS (As := [.int rz18]) (rest := [.int v8, .ref p0]) ⟨hx, hb, hml, hown, hk⟩ (c_W_number l rz18) (s_W_number hk k_277 ⟨Nat.le_of_ble_eq_true rfl, Nat.le_of_ble_eq_true rfl⟩) ⟨fun a U g mk q => q, fun U hU hW => ⟨rfl, trivial⟩⟩ rfl rfl hl.1 rfl (lv_room (Nat.le_of_ble_eq_true rfl)) d_M_decode_88 ⟨Nat.le_of_ble_eq_true rfl, Nat.le_of_ble_eq_true rfl⟩) ?_
      refine lv_topi (fun v19 hv19 => ?_)
      refine lv_iadd hx hb d_M_decode_91 ?_
      refine lv_topi (fun v20 hv20 => ?_)
      refine va_put (D := D) (ci := 1) (v := .int v20) (ty := .int) (C := "SignMachine$Machine") (T := F_M) (N := 14) hx hb hk fi_M ft_M ft_M_ok fn_M hown hK.1 hP hD hS 0 rfl rfl 12 (by decide) (hk _ k_179) (fun _ h9 => h9) rfl (by decide +kernel) rfl rfl (Nat.le_of_ble_eq_true rfl) d_M_decode_92 (fun H locs hP hD hS => ?_)
      have hP : va_P D classes (wS51 cI cJ cZ cB p0 p1 p2 p3 p4 x0_4 x0_5 x0_6 x0_7 x0_8 v2 v4 v6 v20 v7 y1 y2 x3_0 x4_0) H := hP
      have hD : va_D A (wS51 cI cJ cZ cB p0 p1 p2 p3 p4 x0_4 x0_5 x0_6 x0_7 x0_8 v2 v4 v6 v20 v7 y1 y2 x3_0 x4_0) := hD
      exact W.vret hx hb hr (fun t ht hW => ⟨⟨(), rfl, trivial, ⟨v2, v4, v6, v20, v7, by rw [hv2, hv1], by rw [hv4, hv3, hv1], by show va_P D classes _ t.heap; rw [ht]; exact hP, hD⟩⟩, hS.F ht⟩) hS.2.2 d_M_decode_95
theorem v_M_decode_s1 {R : Room} {s : State} {args : Array Value} {own : String} {index : Nat} (hk : ∀ w ∈ tb, w.before args s = true) (hl : Cond.methodLink own index y_M_decode ∈ tb) (hR : 1 + 1 ≤ R.frames ∧ 8 + (4 + 11) + 21 ≤ R.locals) : CallW R s args own "SignMachine$Machine" index y_M_decode b_M_decode 4 none (.code y_M_decode b_M_decode 4 none :: tb) ({ frames := 1, cells := 0, slots := 0, locals := 21 }) 0 0 1 := mk_v 1 hk k_267 hl k_266 k_0 k_117 rfl rfl h_M_decode hR
set_option maxHeartbeats 4000000 in
set_option maxRecDepth 100000 in
theorem c_M_hasFieldOfWord_s1 (l : Launch) (K : CK) (D : va_G) (cI cJ cZ cB : ClassId) (p0 p1 p2 p3 p4 : Nat) (sz : Nat) (x0_4 : Bool) (x0_5 : Int32) (x0_6 : Int32) (x0_7 : Int32) (x0_8 : Int32) (x0_9 : Int32) (x0_10 : Int32) (x0_11 : Int32) (x0_12 : Int32) (x0_13 : Int32) (y1 : Nat → Int32) (y2 : Nat → Int32) (x3_0 : Int32) (x4_0 : Int32)   : Met l y_M_hasFieldOfWord (.code y_M_hasFieldOfWord b_M_hasFieldOfWord 1 (some .boolean) :: tb) ({ frames := 0, cells := 0, slots := 0, locals := 0 }) (pMC K D cI cJ cZ cB (wS51 cI cJ cZ cB p0 p1 p2 p3 p4 x0_4 x0_5 x0_6 x0_7 x0_8 x0_9 x0_10 x0_11 x0_12 x0_13 y1 y2 x3_0 x4_0) sz [.ref p0]) (va_Qi (fun r (_ : Unit) => ∃ z : Bool, r = bI z) (fun _ t => (va_P D classes (wS51 cI cJ cZ cB p0 p1 p2 p3 p4 x0_4 x0_5 x0_6 x0_7 x0_8 x0_9 x0_10 x0_11 x0_12 x0_13 y1 y2 x3_0 x4_0) t.heap ∧ va_D (va_A (wS51 cI cJ cZ cB p0 p1 p2 p3 p4 x0_4 x0_5 x0_6 x0_7 x0_8 x0_9 x0_10 x0_11 x0_12 x0_13 y1 y2 x3_0 x4_0) sz) (wS51 cI cJ cZ cB p0 p1 p2 p3 p4 x0_4 x0_5 x0_6 x0_7 x0_8 x0_9 x0_10 x0_11 x0_12 x0_13 y1 y2 x3_0 x4_0))) (va_A (wS51 cI cJ cZ cB p0 p1 p2 p3 p4 x0_4 x0_5 x0_6 x0_7 x0_8 x0_9 x0_10 x0_11 x0_12 x0_13 y1 y2 x3_0 x4_0) sz)) 0 0 (va_A (wS51 cI cJ cZ cB p0 p1 p2 p3 p4 x0_4 x0_5 x0_6 x0_7 x0_8 x0_9 x0_10 x0_11 x0_12 x0_13 y1 y2 x3_0 x4_0) sz) := by
  refine Met.ofW (cc := b_M_hasFieldOfWord) (maxL := 1) (ret := (some .boolean)) (by decide) rfl ?_
  intro p e s m args below meth c s₁ B hml hv
  obtain ⟨rfl, hsz, hK, hP, hD0, hC⟩ := hv
  subst hsz
  have hD := hD0.self (sz := s.heap.size)
  generalize hAe : va_A (wS51 cI cJ cZ cB p0 p1 p2 p3 p4 x0_4 x0_5 x0_6 x0_7 x0_8 x0_9 x0_10 x0_11 x0_12 x0_13 y1 y2 x3_0 x4_0) s.heap.size = A at hD hC ⊢
  have hA : ∀ q : Nat, s.heap.size ≤ q → A q := fun q h => by rw [← hAe]; exact Or.inr h
  clear hAe hD0
  have hS : va_S A s.heap s.heap [] := va_S.rf
  have hx := B.exec
  have hb := B.bytes
  have hr := B.returns
  have hts := atoms_spec (ws := .code y_M_hasFieldOfWord b_M_hasFieldOfWord 1 (some .boolean) :: tb) B.pre
  have hk : ∀ w ∈ tb, w.before [.ref p0].toArray s = true := fun w h => hts w (List.mem_cons_of_mem _ h)
  have hown : s.vm.findClass "SignMachine$Machine" = some m.cls := findClass_of_methodNamed B.named
  have hlocks := B.notSynchronized
  have hl := lv_entry ([.ref p0]) (n := 1) (Nat.le_of_ble_eq_true rfl)
  rw [lg_entry_eq]
  generalize (lg_sl ([.ref p0]) ++ List.replicate (1 - (lg_sl ([.ref p0])).length) Slot.unset).toArray = ls at hl ⊢
  have hl : lv_has ls 1 [(0, .ref p0)] := hl
  refine lv_aload_n hx hb d_M_hasFieldOfWord_0 rfl (lv_at hl 0 rfl) ?_
  refine va_get (D := D) (ci := 1) (v := .int x0_9) (C := "SignMachine$Machine") (T := F_M) (N := 14) hx hb hk fi_M hown hK.1 hP 0 rfl rfl 9 (by decide) (hk _ k_176) (fun _ h9 => h9) rfl d_M_hasFieldOfWord_1 ?_
  refine lv_iconst (v := 1) hx hb d_M_hasFieldOfWord_4 (by decide) ?_
  refine lv_icmp_lt (tgt := 16) hx hb d_M_hasFieldOfWord_5 (by decide) (fun c1 => ?_) (fun c1 => ?_)
  · refine lv_aload_n hx hb d_M_hasFieldOfWord_16 rfl (lv_at hl 0 rfl) ?_
    refine va_get (D := D) (ci := 1) (v := .int x0_9) (C := "SignMachine$Machine") (T := F_M) (N := 14) hx hb hk fi_M hown hK.1 hP 0 rfl rfl 9 (by decide) (hk _ k_176) (fun _ h9 => h9) rfl d_M_hasFieldOfWord_17 ?_
    refine lv_bipush (v := 8) hx hb d_M_hasFieldOfWord_20 (by decide) ?_
    refine lv_icmp_lt (tgt := 34) hx hb d_M_hasFieldOfWord_22 (by decide) (fun c2 => ?_) (fun c2 => ?_)
    · refine lv_aload_n hx hb d_M_hasFieldOfWord_34 rfl (lv_at hl 0 rfl) ?_
      refine va_get (D := D) (ci := 1) (v := .int x0_9) (C := "SignMachine$Machine") (T := F_M) (N := 14) hx hb hk fi_M hown hK.1 hP 0 rfl rfl 9 (by decide) (hk _ k_176) (fun _ h9 => h9) rfl d_M_hasFieldOfWord_35 ?_
      refine lv_bipush (v := 56) hx hb d_M_hasFieldOfWord_38 (by decide) ?_
      refine lv_icmp_lt (tgt := 47) hx hb d_M_hasFieldOfWord_40 (by decide) (fun c3 => ?_) (fun c3 => ?_)
      · refine lv_iconst (v := 0) hx hb d_M_hasFieldOfWord_47 (by decide) ?_
        exact W.zret (v := (0 : Int32)) hx hb hr rfl (fun t ht hW => ⟨⟨(0 : Int32), (), rfl, ⟨false, rfl⟩, ⟨by show va_P D classes _ t.heap; rw [ht]; exact hP, hD⟩⟩, hS.F ht⟩) hS.2.2 d_M_hasFieldOfWord_48
      · refine lv_iconst (v := 1) hx hb d_M_hasFieldOfWord_43 (by decide) ?_
        refine lv_goto (tgt := 48) hx hb d_M_hasFieldOfWord_44 (by decide) ?_
        exact W.zret (v := (1 : Int32)) hx hb hr rfl (fun t ht hW => ⟨⟨(1 : Int32), (), rfl, ⟨true, rfl⟩, ⟨by show va_P D classes _ t.heap; rw [ht]; exact hP, hD⟩⟩, hS.F ht⟩) hS.2.2 d_M_hasFieldOfWord_48
    · refine lv_aload_n hx hb d_M_hasFieldOfWord_25 rfl (lv_at hl 0 rfl) ?_
      refine va_get (D := D) (ci := 1) (v := .int x0_9) (C := "SignMachine$Machine") (T := F_M) (N := 14) hx hb hk fi_M hown hK.1 hP 0 rfl rfl 9 (by decide) (hk _ k_176) (fun _ h9 => h9) rfl d_M_hasFieldOfWord_26 ?_
      refine lv_bipush (v := 33) hx hb d_M_hasFieldOfWord_29 (by decide) ?_
      refine lv_icmp_le (tgt := 43) hx hb d_M_hasFieldOfWord_31 (by decide) (fun c4 => ?_) (fun c4 => ?_)
      · refine lv_iconst (v := 1) hx hb d_M_hasFieldOfWord_43 (by decide) ?_
        refine lv_goto (tgt := 48) hx hb d_M_hasFieldOfWord_44 (by decide) ?_
        exact W.zret (v := (1 : Int32)) hx hb hr rfl (fun t ht hW => ⟨⟨(1 : Int32), (), rfl, ⟨true, rfl⟩, ⟨by show va_P D classes _ t.heap; rw [ht]; exact hP, hD⟩⟩, hS.F ht⟩) hS.2.2 d_M_hasFieldOfWord_48
      · refine lv_aload_n hx hb d_M_hasFieldOfWord_34 rfl (lv_at hl 0 rfl) ?_
        refine va_get (D := D) (ci := 1) (v := .int x0_9) (C := "SignMachine$Machine") (T := F_M) (N := 14) hx hb hk fi_M hown hK.1 hP 0 rfl rfl 9 (by decide) (hk _ k_176) (fun _ h9 => h9) rfl d_M_hasFieldOfWord_35 ?_
        refine lv_bipush (v := 56) hx hb d_M_hasFieldOfWord_38 (by decide) ?_
        refine lv_icmp_lt (tgt := 47) hx hb d_M_hasFieldOfWord_40 (by decide) (fun c5 => ?_) (fun c5 => ?_)
        · refine lv_iconst (v := 0) hx hb d_M_hasFieldOfWord_47 (by decide) ?_
          exact W.zret (v := (0 : Int32)) hx hb hr rfl (fun t ht hW => ⟨⟨(0 : Int32), (), rfl, ⟨false, rfl⟩, ⟨by show va_P D classes _ t.heap; rw [ht]; exact hP, hD⟩⟩, hS.F ht⟩) hS.2.2 d_M_hasFieldOfWord_48
        · refine lv_iconst (v := 1) hx hb d_M_hasFieldOfWord_43 (by decide) ?_
          refine lv_goto (tgt := 48) hx hb d_M_hasFieldOfWord_44 (by decide) ?_
          exact W.zret (v := (1 : Int32)) hx hb hr rfl (fun t ht hW => ⟨⟨(1 : Int32), (), rfl, ⟨true, rfl⟩, ⟨by show va_P D classes _ t.heap; rw [ht]; exact hP, hD⟩⟩, hS.F ht⟩) hS.2.2 d_M_hasFieldOfWord_48
  · refine lv_aload_n hx hb d_M_hasFieldOfWord_8 rfl (lv_at hl 0 rfl) ?_
    refine va_get (D := D) (ci := 1) (v := .int x0_9) (C := "SignMachine$Machine") (T := F_M) (N := 14) hx hb hk fi_M hown hK.1 hP 0 rfl rfl 9 (by decide) (hk _ k_176) (fun _ h9 => h9) rfl d_M_hasFieldOfWord_9 ?_
    refine lv_iconst (v := 4) hx hb d_M_hasFieldOfWord_12 (by decide) ?_
    refine lv_icmp_le (tgt := 43) hx hb d_M_hasFieldOfWord_13 (by decide) (fun c6 => ?_) (fun c6 => ?_)
    · refine lv_iconst (v := 1) hx hb d_M_hasFieldOfWord_43 (by decide) ?_
      refine lv_goto (tgt := 48) hx hb d_M_hasFieldOfWord_44 (by decide) ?_
      exact W.zret (v := (1 : Int32)) hx hb hr rfl (fun t ht hW => ⟨⟨(1 : Int32), (), rfl, ⟨true, rfl⟩, ⟨by show va_P D classes _ t.heap; rw [ht]; exact hP, hD⟩⟩, hS.F ht⟩) hS.2.2 d_M_hasFieldOfWord_48
    · refine lv_aload_n hx hb d_M_hasFieldOfWord_16 rfl (lv_at hl 0 rfl) ?_
      refine va_get (D := D) (ci := 1) (v := .int x0_9) (C := "SignMachine$Machine") (T := F_M) (N := 14) hx hb hk fi_M hown hK.1 hP 0 rfl rfl 9 (by decide) (hk _ k_176) (fun _ h9 => h9) rfl d_M_hasFieldOfWord_17 ?_
      refine lv_bipush (v := 8) hx hb d_M_hasFieldOfWord_20 (by decide) ?_
      refine lv_icmp_lt (tgt := 34) hx hb d_M_hasFieldOfWord_22 (by decide) (fun c7 => ?_) (fun c7 => ?_)
      · refine lv_aload_n hx hb d_M_hasFieldOfWord_34 rfl (lv_at hl 0 rfl) ?_
        refine va_get (D := D) (ci := 1) (v := .int x0_9) (C := "SignMachine$Machine") (T := F_M) (N := 14) hx hb hk fi_M hown hK.1 hP 0 rfl rfl 9 (by decide) (hk _ k_176) (fun _ h9 => h9) rfl d_M_hasFieldOfWord_35 ?_
        refine lv_bipush (v := 56) hx hb d_M_hasFieldOfWord_38 (by decide) ?_
        refine lv_icmp_lt (tgt := 47) hx hb d_M_hasFieldOfWord_40 (by decide) (fun c8 => ?_) (fun c8 => ?_)
        · refine lv_iconst (v := 0) hx hb d_M_hasFieldOfWord_47 (by decide) ?_
          exact W.zret (v := (0 : Int32)) hx hb hr rfl (fun t ht hW => ⟨⟨(0 : Int32), (), rfl, ⟨false, rfl⟩, ⟨by show va_P D classes _ t.heap; rw [ht]; exact hP, hD⟩⟩, hS.F ht⟩) hS.2.2 d_M_hasFieldOfWord_48
        · refine lv_iconst (v := 1) hx hb d_M_hasFieldOfWord_43 (by decide) ?_
          refine lv_goto (tgt := 48) hx hb d_M_hasFieldOfWord_44 (by decide) ?_
          exact W.zret (v := (1 : Int32)) hx hb hr rfl (fun t ht hW => ⟨⟨(1 : Int32), (), rfl, ⟨true, rfl⟩, ⟨by show va_P D classes _ t.heap; rw [ht]; exact hP, hD⟩⟩, hS.F ht⟩) hS.2.2 d_M_hasFieldOfWord_48
      · refine lv_aload_n hx hb d_M_hasFieldOfWord_25 rfl (lv_at hl 0 rfl) ?_
        refine va_get (D := D) (ci := 1) (v := .int x0_9) (C := "SignMachine$Machine") (T := F_M) (N := 14) hx hb hk fi_M hown hK.1 hP 0 rfl rfl 9 (by decide) (hk _ k_176) (fun _ h9 => h9) rfl d_M_hasFieldOfWord_26 ?_
        refine lv_bipush (v := 33) hx hb d_M_hasFieldOfWord_29 (by decide) ?_
        refine lv_icmp_le (tgt := 43) hx hb d_M_hasFieldOfWord_31 (by decide) (fun c9 => ?_) (fun c9 => ?_)
        · refine lv_iconst (v := 1) hx hb d_M_hasFieldOfWord_43 (by decide) ?_
          refine lv_goto (tgt := 48) hx hb d_M_hasFieldOfWord_44 (by decide) ?_
          exact W.zret (v := (1 : Int32)) hx hb hr rfl (fun t ht hW => ⟨⟨(1 : Int32), (), rfl, ⟨true, rfl⟩, ⟨by show va_P D classes _ t.heap; rw [ht]; exact hP, hD⟩⟩, hS.F ht⟩) hS.2.2 d_M_hasFieldOfWord_48
        · refine lv_aload_n hx hb d_M_hasFieldOfWord_34 rfl (lv_at hl 0 rfl) ?_
          refine va_get (D := D) (ci := 1) (v := .int x0_9) (C := "SignMachine$Machine") (T := F_M) (N := 14) hx hb hk fi_M hown hK.1 hP 0 rfl rfl 9 (by decide) (hk _ k_176) (fun _ h9 => h9) rfl d_M_hasFieldOfWord_35 ?_
          refine lv_bipush (v := 56) hx hb d_M_hasFieldOfWord_38 (by decide) ?_
          refine lv_icmp_lt (tgt := 47) hx hb d_M_hasFieldOfWord_40 (by decide) (fun c10 => ?_) (fun c10 => ?_)
          · refine lv_iconst (v := 0) hx hb d_M_hasFieldOfWord_47 (by decide) ?_
            exact W.zret (v := (0 : Int32)) hx hb hr rfl (fun t ht hW => ⟨⟨(0 : Int32), (), rfl, ⟨false, rfl⟩, ⟨by show va_P D classes _ t.heap; rw [ht]; exact hP, hD⟩⟩, hS.F ht⟩) hS.2.2 d_M_hasFieldOfWord_48
          · refine lv_iconst (v := 1) hx hb d_M_hasFieldOfWord_43 (by decide) ?_
            refine lv_goto (tgt := 48) hx hb d_M_hasFieldOfWord_44 (by decide) ?_
            exact W.zret (v := (1 : Int32)) hx hb hr rfl (fun t ht hW => ⟨⟨(1 : Int32), (), rfl, ⟨true, rfl⟩, ⟨by show va_P D classes _ t.heap; rw [ht]; exact hP, hD⟩⟩, hS.F ht⟩) hS.2.2 d_M_hasFieldOfWord_48
theorem v_M_hasFieldOfWord_s1 {R : Room} {s : State} {args : Array Value} {own : String} {index : Nat} (hk : ∀ w ∈ tb, w.before args s = true) (hl : Cond.methodLink own index y_M_hasFieldOfWord ∈ tb) (hR : 0 + 1 ≤ R.frames ∧ 8 + (1 + 11) + 0 ≤ R.locals) : CallW R s args own "SignMachine$Machine" index y_M_hasFieldOfWord b_M_hasFieldOfWord 1 (some .boolean) (.code y_M_hasFieldOfWord b_M_hasFieldOfWord 1 (some .boolean) :: tb) ({ frames := 0, cells := 0, slots := 0, locals := 0 }) 0 0 0 := mk_v 0 hk k_291 hl k_290 k_3 k_117 rfl rfl h_M_hasFieldOfWord hR
set_option maxHeartbeats 4000000 in
set_option maxRecDepth 100000 in
theorem c_M_shapeCanBe_s1 (l : Launch) (K : CK) (D : va_G) (cI cJ cZ cB : ClassId) (p0 p1 p2 p3 p4 : Nat) (sz : Nat) (x0_4 : Bool) (x0_5 : Int32) (x0_6 : Int32) (x0_7 : Int32) (x0_8 : Int32) (x0_9 : Int32) (x0_10 : Int32) (x0_11 : Int32) (x0_12 : Int32) (x0_13 : Int32) (y1 : Nat → Int32) (y2 : Nat → Int32) (x3_0 : Int32) (x4_0 : Int32)   : Met l y_M_shapeCanBe (.code y_M_shapeCanBe b_M_shapeCanBe 1 (some .boolean) :: tb) ({ frames := 1, cells := 0, slots := 0, locals := 22 }) (pMC K D cI cJ cZ cB (wS51 cI cJ cZ cB p0 p1 p2 p3 p4 x0_4 x0_5 x0_6 x0_7 x0_8 x0_9 x0_10 x0_11 x0_12 x0_13 y1 y2 x3_0 x4_0) sz [.ref p0]) (va_Qi (fun r (_ : Unit) => ∃ z : Bool, r = bI z) (fun _ t => (va_P D classes (wS51 cI cJ cZ cB p0 p1 p2 p3 p4 x0_4 x0_5 x0_6 x0_7 x0_8 x0_9 x0_10 x0_11 x0_12 x0_13 y1 y2 x3_0 x4_0) t.heap ∧ va_D (va_A (wS51 cI cJ cZ cB p0 p1 p2 p3 p4 x0_4 x0_5 x0_6 x0_7 x0_8 x0_9 x0_10 x0_11 x0_12 x0_13 y1 y2 x3_0 x4_0) sz) (wS51 cI cJ cZ cB p0 p1 p2 p3 p4 x0_4 x0_5 x0_6 x0_7 x0_8 x0_9 x0_10 x0_11 x0_12 x0_13 y1 y2 x3_0 x4_0))) (va_A (wS51 cI cJ cZ cB p0 p1 p2 p3 p4 x0_4 x0_5 x0_6 x0_7 x0_8 x0_9 x0_10 x0_11 x0_12 x0_13 y1 y2 x3_0 x4_0) sz)) 0 0 (va_A (wS51 cI cJ cZ cB p0 p1 p2 p3 p4 x0_4 x0_5 x0_6 x0_7 x0_8 x0_9 x0_10 x0_11 x0_12 x0_13 y1 y2 x3_0 x4_0) sz) := by
  refine Met.ofW (cc := b_M_shapeCanBe) (maxL := 1) (ret := (some .boolean)) (by decide) rfl ?_
  intro p e s m args below meth c s₁ B hml hv
  obtain ⟨rfl, hsz, hK, hP, hD0, hC⟩ := hv
  subst hsz
  have hD := hD0.self (sz := s.heap.size)
  generalize hAe : va_A (wS51 cI cJ cZ cB p0 p1 p2 p3 p4 x0_4 x0_5 x0_6 x0_7 x0_8 x0_9 x0_10 x0_11 x0_12 x0_13 y1 y2 x3_0 x4_0) s.heap.size = A at hD hC ⊢
  have hA : ∀ q : Nat, s.heap.size ≤ q → A q := fun q h => by rw [← hAe]; exact Or.inr h
  clear hAe hD0
  have hS : va_S A s.heap s.heap [] := va_S.rf
  have hx := B.exec
  have hb := B.bytes
  have hr := B.returns
  have hts := atoms_spec (ws := .code y_M_shapeCanBe b_M_shapeCanBe 1 (some .boolean) :: tb) B.pre
  have hk : ∀ w ∈ tb, w.before [.ref p0].toArray s = true := fun w h => hts w (List.mem_cons_of_mem _ h)
  have hown : s.vm.findClass "SignMachine$Machine" = some m.cls := findClass_of_methodNamed B.named
  have hlocks := B.notSynchronized
  have hl := lv_entry ([.ref p0]) (n := 1) (Nat.le_of_ble_eq_true rfl)
  rw [lg_entry_eq]
  generalize (lg_sl ([.ref p0]) ++ List.replicate (1 - (lg_sl ([.ref p0])).length) Slot.unset).toArray = ls at hl ⊢
  have hl : lv_has ls 1 [(0, .ref p0)] := hl
  refine lv_aload_n hx hb d_M_shapeCanBe_0 rfl (lv_at hl 0 rfl) ?_
  refine va_get (D := D) (ci := 1) (v := .int x0_11) (C := "SignMachine$Machine") (T := F_M) (N := 14) hx hb hk fi_M hown hK.1 hP 0 rfl rfl 11 (by decide) (hk _ k_178) (fun _ h9 => h9) rfl d_M_shapeCanBe_1 ?_
  refine lv_bipush (v := 6) hx hb d_M_shapeCanBe_4 (by decide) ?_
  refine lv_icmp_le (tgt := 11) hx hb d_M_shapeCanBe_6 (by decide) (fun c1 => ?_) (fun c1 => ?_)
  · refine lv_aload_n hx hb d_M_shapeCanBe_11 rfl (lv_at hl 0 rfl) ?_
    refine sn_i (va_runV (C := "SignMachine$Machine") (As := []) (rest := []) ⟨hx, hb, hml, hown, hk⟩ (c_M_hasFieldOfWord_s1 l K D cI cJ cZ cB p0 p1 p2 p3 p4 s.heap.size x0_4 x0_5 x0_6 x0_7 x0_8 x0_9 x0_10 x0_11 x0_12 x0_13 y1 y2 x3_0 x4_0   ) (v_M_hasFieldOfWord_s1 hk k_288 ⟨Nat.le_of_ble_eq_true rfl, Nat.le_of_ble_eq_true rfl⟩) (pMC_v hK hP hD hC hS hA (ci := 1) (q0 := 0) rfl rfl rfl) rfl rfl hl.1 rfl (lv_room (Nat.le_of_ble_eq_true rfl)) d_M_shapeCanBe_12 ⟨by decide, by decide⟩) hS hA hD (fun rz2 u t H locs hr0 ht hB hFr hS => ?_)
    obtain ⟨z2, hz2⟩ := hr0
    subst hz2
    obtain ⟨hP, hD⟩ := hB
    rw [ht] at hP
    have hD := dwk hD hFr
    clear ht hFr
    have hP : va_P D classes (wS51 cI cJ cZ cB p0 p1 p2 p3 p4 x0_4 x0_5 x0_6 x0_7 x0_8 x0_9 x0_10 x0_11 x0_12 x0_13 y1 y2 x3_0 x4_0) H := hP
    have hD : va_D A (wS51 cI cJ cZ cB p0 p1 p2 p3 p4 x0_4 x0_5 x0_6 x0_7 x0_8 x0_9 x0_10 x0_11 x0_12 x0_13 y1 y2 x3_0 x4_0) := hD
    refine lv_if_eq (tgt := 26) hx hb d_M_shapeCanBe_15 (by decide) (fun c3 => ?_) (fun c3 => ?_)
    · refine lv_aload_n hx hb d_M_shapeCanBe_26 rfl (lv_at hl 0 rfl) ?_
      refine va_get (D := D) (ci := 1) (v := .int x0_9) (C := "SignMachine$Machine") (T := F_M) (N := 14) hx hb hk fi_M hown hK.1 hP 0 rfl rfl 9 (by decide) (hk _ k_176) (fun _ h9 => h9) rfl d_M_shapeCanBe_27 ?_
      by_cases c4 : x0_9 = (0 : Int32)
      · refine lv_tableIn (off := 174) (tgt := 204) hx hb d_M_shapeCanBe_30 (by rw [c4]; decide) (by rw [c4]; decide) (by rw [c4]; rfl) (by decide) ?_
        refine lv_iconst (v := 1) hx hb d_M_shapeCanBe_204 (by decide) ?_
        exact W.zret (v := (1 : Int32)) hx hb hr rfl (fun t ht hW => ⟨⟨(1 : Int32), (), rfl, ⟨true, rfl⟩, ⟨by show va_P D classes _ t.heap; rw [ht]; exact hP, hD⟩⟩, hS.F ht⟩) hS.2.2 d_M_shapeCanBe_205
      · by_cases c5 : x0_9 = (1 : Int32)
        · refine lv_tableIn (off := 233) (tgt := 263) hx hb d_M_shapeCanBe_30 (by rw [c5]; decide) (by rw [c5]; decide) (by rw [c5]; rfl) (by decide) ?_
          refine lv_aload_n hx hb d_M_shapeCanBe_263 rfl (lv_at hl 0 rfl) ?_
          refine va_get (D := D) (ci := 1) (v := .int x0_10) (C := "SignMachine$Machine") (T := F_M) (N := 14) hx hb hk fi_M hown hK.1 hP 0 rfl rfl 10 (by decide) (hk _ k_177) (fun _ h9 => h9) rfl d_M_shapeCanBe_264 ?_
          refine lv_aload_n hx hb d_M_shapeCanBe_267 rfl (lv_at hl 0 rfl) ?_
          refine va_get (D := D) (ci := 1) (v := .int x0_9) (C := "SignMachine$Machine") (T := F_M) (N := 14) hx hb hk fi_M hown hK.1 hP 0 rfl rfl 9 (by decide) (hk _ k_176) (fun _ h9 => h9) rfl d_M_shapeCanBe_268 ?_
          refine lv_bipush (v := 47) hx hb d_M_shapeCanBe_271 (by decide) ?_
          refine lv_icmp_gt (tgt := 280) hx hb d_M_shapeCanBe_273 (by decide) (fun c6 => ?_) (fun c6 => ?_)
          · refine lv_iconst (v := 3) hx hb d_M_shapeCanBe_280 (by decide) ?_
            refine lv_icmp_gt (tgt := 288) hx hb d_M_shapeCanBe_281 (by decide) (fun c7 => ?_) (fun c7 => ?_)
            · refine lv_iconst (v := 0) hx hb d_M_shapeCanBe_288 (by decide) ?_
              exact W.zret (v := (0 : Int32)) hx hb hr rfl (fun t ht hW => ⟨⟨(0 : Int32), (), rfl, ⟨false, rfl⟩, ⟨by show va_P D classes _ t.heap; rw [ht]; exact hP, hD⟩⟩, hS.F ht⟩) hS.2.2 d_M_shapeCanBe_289
            · refine lv_iconst (v := 1) hx hb d_M_shapeCanBe_284 (by decide) ?_
              refine lv_goto (tgt := 289) hx hb d_M_shapeCanBe_285 (by decide) ?_
              exact W.zret (v := (1 : Int32)) hx hb hr rfl (fun t ht hW => ⟨⟨(1 : Int32), (), rfl, ⟨true, rfl⟩, ⟨by show va_P D classes _ t.heap; rw [ht]; exact hP, hD⟩⟩, hS.F ht⟩) hS.2.2 d_M_shapeCanBe_289
          · refine lv_iconst (v := 5) hx hb d_M_shapeCanBe_276 (by decide) ?_
            refine lv_goto (tgt := 281) hx hb d_M_shapeCanBe_277 (by decide) ?_
            refine lv_icmp_gt (tgt := 288) hx hb d_M_shapeCanBe_281 (by decide) (fun c8 => ?_) (fun c8 => ?_)
            · refine lv_iconst (v := 0) hx hb d_M_shapeCanBe_288 (by decide) ?_
              exact W.zret (v := (0 : Int32)) hx hb hr rfl (fun t ht hW => ⟨⟨(0 : Int32), (), rfl, ⟨false, rfl⟩, ⟨by show va_P D classes _ t.heap; rw [ht]; exact hP, hD⟩⟩, hS.F ht⟩) hS.2.2 d_M_shapeCanBe_289
            · refine lv_iconst (v := 1) hx hb d_M_shapeCanBe_284 (by decide) ?_
              refine lv_goto (tgt := 289) hx hb d_M_shapeCanBe_285 (by decide) ?_
              exact W.zret (v := (1 : Int32)) hx hb hr rfl (fun t ht hW => ⟨⟨(1 : Int32), (), rfl, ⟨true, rfl⟩, ⟨by show va_P D classes _ t.heap; rw [ht]; exact hP, hD⟩⟩, hS.F ht⟩) hS.2.2 d_M_shapeCanBe_289
        · by_cases c9 : x0_9 = (2 : Int32)
          · refine lv_tableIn (off := 233) (tgt := 263) hx hb d_M_shapeCanBe_30 (by rw [c9]; decide) (by rw [c9]; decide) (by rw [c9]; rfl) (by decide) ?_
            refine lv_aload_n hx hb d_M_shapeCanBe_263 rfl (lv_at hl 0 rfl) ?_
            refine va_get (D := D) (ci := 1) (v := .int x0_10) (C := "SignMachine$Machine") (T := F_M) (N := 14) hx hb hk fi_M hown hK.1 hP 0 rfl rfl 10 (by decide) (hk _ k_177) (fun _ h9 => h9) rfl d_M_shapeCanBe_264 ?_
            refine lv_aload_n hx hb d_M_shapeCanBe_267 rfl (lv_at hl 0 rfl) ?_
            refine va_get (D := D) (ci := 1) (v := .int x0_9) (C := "SignMachine$Machine") (T := F_M) (N := 14) hx hb hk fi_M hown hK.1 hP 0 rfl rfl 9 (by decide) (hk _ k_176) (fun _ h9 => h9) rfl d_M_shapeCanBe_268 ?_
            refine lv_bipush (v := 47) hx hb d_M_shapeCanBe_271 (by decide) ?_
            refine lv_icmp_gt (tgt := 280) hx hb d_M_shapeCanBe_273 (by decide) (fun c10 => ?_) (fun c10 => ?_)
            · refine lv_iconst (v := 3) hx hb d_M_shapeCanBe_280 (by decide) ?_
              refine lv_icmp_gt (tgt := 288) hx hb d_M_shapeCanBe_281 (by decide) (fun c11 => ?_) (fun c11 => ?_)
              · refine lv_iconst (v := 0) hx hb d_M_shapeCanBe_288 (by decide) ?_
                exact W.zret (v := (0 : Int32)) hx hb hr rfl (fun t ht hW => ⟨⟨(0 : Int32), (), rfl, ⟨false, rfl⟩, ⟨by show va_P D classes _ t.heap; rw [ht]; exact hP, hD⟩⟩, hS.F ht⟩) hS.2.2 d_M_shapeCanBe_289
              · refine lv_iconst (v := 1) hx hb d_M_shapeCanBe_284 (by decide) ?_
                refine lv_goto (tgt := 289) hx hb d_M_shapeCanBe_285 (by decide) ?_
                exact W.zret (v := (1 : Int32)) hx hb hr rfl (fun t ht hW => ⟨⟨(1 : Int32), (), rfl, ⟨true, rfl⟩, ⟨by show va_P D classes _ t.heap; rw [ht]; exact hP, hD⟩⟩, hS.F ht⟩) hS.2.2 d_M_shapeCanBe_289
            · refine lv_iconst (v := 5) hx hb d_M_shapeCanBe_276 (by decide) ?_
              refine lv_goto (tgt := 281) hx hb d_M_shapeCanBe_277 (by decide) ?_
              refine lv_icmp_gt (tgt := 288) hx hb d_M_shapeCanBe_281 (by decide) (fun c12 => ?_) (fun c12 => ?_)
              · refine lv_iconst (v := 0) hx hb d_M_shapeCanBe_288 (by decide) ?_
                exact W.zret (v := (0 : Int32)) hx hb hr rfl (fun t ht hW => ⟨⟨(0 : Int32), (), rfl, ⟨false, rfl⟩, ⟨by show va_P D classes _ t.heap; rw [ht]; exact hP, hD⟩⟩, hS.F ht⟩) hS.2.2 d_M_shapeCanBe_289
              · refine lv_iconst (v := 1) hx hb d_M_shapeCanBe_284 (by decide) ?_
                refine lv_goto (tgt := 289) hx hb d_M_shapeCanBe_285 (by decide) ?_
                exact W.zret (v := (1 : Int32)) hx hb hr rfl (fun t ht hW => ⟨⟨(1 : Int32), (), rfl, ⟨true, rfl⟩, ⟨by show va_P D classes _ t.heap; rw [ht]; exact hP, hD⟩⟩, hS.F ht⟩) hS.2.2 d_M_shapeCanBe_289
          · by_cases c13 : x0_9 = (3 : Int32)
            · refine lv_tableIn (off := 233) (tgt := 263) hx hb d_M_shapeCanBe_30 (by rw [c13]; decide) (by rw [c13]; decide) (by rw [c13]; rfl) (by decide) ?_
              refine lv_aload_n hx hb d_M_shapeCanBe_263 rfl (lv_at hl 0 rfl) ?_
              refine va_get (D := D) (ci := 1) (v := .int x0_10) (C := "SignMachine$Machine") (T := F_M) (N := 14) hx hb hk fi_M hown hK.1 hP 0 rfl rfl 10 (by decide) (hk _ k_177) (fun _ h9 => h9) rfl d_M_shapeCanBe_264 ?_
              refine lv_aload_n hx hb d_M_shapeCanBe_267 rfl (lv_at hl 0 rfl) ?_
              refine va_get (D := D) (ci := 1) (v := .int x0_9) (C := "SignMachine$Machine") (T := F_M) (N := 14) hx hb hk fi_M hown hK.1 hP 0 rfl rfl 9 (by decide) (hk _ k_176) (fun _ h9 => h9) rfl d_M_shapeCanBe_268 ?_
              refine lv_bipush (v := 47) hx hb d_M_shapeCanBe_271 (by decide) ?_
              refine lv_icmp_gt (tgt := 280) hx hb d_M_shapeCanBe_273 (by decide) (fun c14 => ?_) (fun c14 => ?_)
              · refine lv_iconst (v := 3) hx hb d_M_shapeCanBe_280 (by decide) ?_
                refine lv_icmp_gt (tgt := 288) hx hb d_M_shapeCanBe_281 (by decide) (fun c15 => ?_) (fun c15 => ?_)
                · refine lv_iconst (v := 0) hx hb d_M_shapeCanBe_288 (by decide) ?_
                  exact W.zret (v := (0 : Int32)) hx hb hr rfl (fun t ht hW => ⟨⟨(0 : Int32), (), rfl, ⟨false, rfl⟩, ⟨by show va_P D classes _ t.heap; rw [ht]; exact hP, hD⟩⟩, hS.F ht⟩) hS.2.2 d_M_shapeCanBe_289
                · refine lv_iconst (v := 1) hx hb d_M_shapeCanBe_284 (by decide) ?_
                  refine lv_goto (tgt := 289) hx hb d_M_shapeCanBe_285 (by decide) ?_
                  exact W.zret (v := (1 : Int32)) hx hb hr rfl (fun t ht hW => ⟨⟨(1 : Int32), (), rfl, ⟨true, rfl⟩, ⟨by show va_P D classes _ t.heap; rw [ht]; exact hP, hD⟩⟩, hS.F ht⟩) hS.2.2 d_M_shapeCanBe_289
              · refine lv_iconst (v := 5) hx hb d_M_shapeCanBe_276 (by decide) ?_
                refine lv_goto (tgt := 281) hx hb d_M_shapeCanBe_277 (by decide) ?_
                refine lv_icmp_gt (tgt := 288) hx hb d_M_shapeCanBe_281 (by decide) (fun c16 => ?_) (fun c16 => ?_)
                · refine lv_iconst (v := 0) hx hb d_M_shapeCanBe_288 (by decide) ?_
                  exact W.zret (v := (0 : Int32)) hx hb hr rfl (fun t ht hW => ⟨⟨(0 : Int32), (), rfl, ⟨false, rfl⟩, ⟨by show va_P D classes _ t.heap; rw [ht]; exact hP, hD⟩⟩, hS.F ht⟩) hS.2.2 d_M_shapeCanBe_289
                · refine lv_iconst (v := 1) hx hb d_M_shapeCanBe_284 (by decide) ?_
                  refine lv_goto (tgt := 289) hx hb d_M_shapeCanBe_285 (by decide) ?_
                  exact W.zret (v := (1 : Int32)) hx hb hr rfl (fun t ht hW => ⟨⟨(1 : Int32), (), rfl, ⟨true, rfl⟩, ⟨by show va_P D classes _ t.heap; rw [ht]; exact hP, hD⟩⟩, hS.F ht⟩) hS.2.2 d_M_shapeCanBe_289
            · by_cases c17 : x0_9 = (4 : Int32)
              · refine lv_tableIn (off := 233) (tgt := 263) hx hb d_M_shapeCanBe_30 (by rw [c17]; decide) (by rw [c17]; decide) (by rw [c17]; rfl) (by decide) ?_
                refine lv_aload_n hx hb d_M_shapeCanBe_263 rfl (lv_at hl 0 rfl) ?_
                refine va_get (D := D) (ci := 1) (v := .int x0_10) (C := "SignMachine$Machine") (T := F_M) (N := 14) hx hb hk fi_M hown hK.1 hP 0 rfl rfl 10 (by decide) (hk _ k_177) (fun _ h9 => h9) rfl d_M_shapeCanBe_264 ?_
                refine lv_aload_n hx hb d_M_shapeCanBe_267 rfl (lv_at hl 0 rfl) ?_
                refine va_get (D := D) (ci := 1) (v := .int x0_9) (C := "SignMachine$Machine") (T := F_M) (N := 14) hx hb hk fi_M hown hK.1 hP 0 rfl rfl 9 (by decide) (hk _ k_176) (fun _ h9 => h9) rfl d_M_shapeCanBe_268 ?_
                refine lv_bipush (v := 47) hx hb d_M_shapeCanBe_271 (by decide) ?_
                refine lv_icmp_gt (tgt := 280) hx hb d_M_shapeCanBe_273 (by decide) (fun c18 => ?_) (fun c18 => ?_)
                · refine lv_iconst (v := 3) hx hb d_M_shapeCanBe_280 (by decide) ?_
                  refine lv_icmp_gt (tgt := 288) hx hb d_M_shapeCanBe_281 (by decide) (fun c19 => ?_) (fun c19 => ?_)
                  · refine lv_iconst (v := 0) hx hb d_M_shapeCanBe_288 (by decide) ?_
                    exact W.zret (v := (0 : Int32)) hx hb hr rfl (fun t ht hW => ⟨⟨(0 : Int32), (), rfl, ⟨false, rfl⟩, ⟨by show va_P D classes _ t.heap; rw [ht]; exact hP, hD⟩⟩, hS.F ht⟩) hS.2.2 d_M_shapeCanBe_289
                  · refine lv_iconst (v := 1) hx hb d_M_shapeCanBe_284 (by decide) ?_
                    refine lv_goto (tgt := 289) hx hb d_M_shapeCanBe_285 (by decide) ?_
                    exact W.zret (v := (1 : Int32)) hx hb hr rfl (fun t ht hW => ⟨⟨(1 : Int32), (), rfl, ⟨true, rfl⟩, ⟨by show va_P D classes _ t.heap; rw [ht]; exact hP, hD⟩⟩, hS.F ht⟩) hS.2.2 d_M_shapeCanBe_289
                · refine lv_iconst (v := 5) hx hb d_M_shapeCanBe_276 (by decide) ?_
                  refine lv_goto (tgt := 281) hx hb d_M_shapeCanBe_277 (by decide) ?_
                  refine lv_icmp_gt (tgt := 288) hx hb d_M_shapeCanBe_281 (by decide) (fun c20 => ?_) (fun c20 => ?_)
                  · refine lv_iconst (v := 0) hx hb d_M_shapeCanBe_288 (by decide) ?_
                    exact W.zret (v := (0 : Int32)) hx hb hr rfl (fun t ht hW => ⟨⟨(0 : Int32), (), rfl, ⟨false, rfl⟩, ⟨by show va_P D classes _ t.heap; rw [ht]; exact hP, hD⟩⟩, hS.F ht⟩) hS.2.2 d_M_shapeCanBe_289
                  · refine lv_iconst (v := 1) hx hb d_M_shapeCanBe_284 (by decide) ?_
                    refine lv_goto (tgt := 289) hx hb d_M_shapeCanBe_285 (by decide) ?_
                    exact W.zret (v := (1 : Int32)) hx hb hr rfl (fun t ht hW => ⟨⟨(1 : Int32), (), rfl, ⟨true, rfl⟩, ⟨by show va_P D classes _ t.heap; rw [ht]; exact hP, hD⟩⟩, hS.F ht⟩) hS.2.2 d_M_shapeCanBe_289
              · by_cases c21 : x0_9 = (5 : Int32)
                · refine lv_tableIn (off := 176) (tgt := 206) hx hb d_M_shapeCanBe_30 (by rw [c21]; decide) (by rw [c21]; decide) (by rw [c21]; rfl) (by decide) ?_
                  refine lv_aload_n hx hb d_M_shapeCanBe_206 rfl (lv_at hl 0 rfl) ?_
                  refine va_get (D := D) (ci := 1) (v := .int x0_10) (C := "SignMachine$Machine") (T := F_M) (N := 14) hx hb hk fi_M hown hK.1 hP 0 rfl rfl 10 (by decide) (hk _ k_177) (fun _ h9 => h9) rfl d_M_shapeCanBe_207 ?_
                  refine lv_iconst (v := 2) hx hb d_M_shapeCanBe_210 (by decide) ?_
                  refine lv_icmp_gt (tgt := 218) hx hb d_M_shapeCanBe_211 (by decide) (fun c22 => ?_) (fun c22 => ?_)
                  · refine lv_iconst (v := 0) hx hb d_M_shapeCanBe_218 (by decide) ?_
                    exact W.zret (v := (0 : Int32)) hx hb hr rfl (fun t ht hW => ⟨⟨(0 : Int32), (), rfl, ⟨false, rfl⟩, ⟨by show va_P D classes _ t.heap; rw [ht]; exact hP, hD⟩⟩, hS.F ht⟩) hS.2.2 d_M_shapeCanBe_219
                  · refine lv_iconst (v := 1) hx hb d_M_shapeCanBe_214 (by decide) ?_
                    refine lv_goto (tgt := 219) hx hb d_M_shapeCanBe_215 (by decide) ?_
                    exact W.zret (v := (1 : Int32)) hx hb hr rfl (fun t ht hW => ⟨⟨(1 : Int32), (), rfl, ⟨true, rfl⟩, ⟨by show va_P D classes _ t.heap; rw [ht]; exact hP, hD⟩⟩, hS.F ht⟩) hS.2.2 d_M_shapeCanBe_219
                · by_cases c23 : x0_9 = (6 : Int32)
                  · refine lv_tableIn (off := 190) (tgt := 220) hx hb d_M_shapeCanBe_30 (by rw [c23]; decide) (by rw [c23]; decide) (by rw [c23]; rfl) (by decide) ?_
                    refine lv_aload_n hx hb d_M_shapeCanBe_220 rfl (lv_at hl 0 rfl) ?_
                    refine va_get (D := D) (ci := 1) (v := .int x0_10) (C := "SignMachine$Machine") (T := F_M) (N := 14) hx hb hk fi_M hown hK.1 hP 0 rfl rfl 10 (by decide) (hk _ k_177) (fun _ h9 => h9) rfl d_M_shapeCanBe_221 ?_
                    refine lv_iconst (v := 5) hx hb d_M_shapeCanBe_224 (by decide) ?_
                    refine lv_icmp_gt (tgt := 232) hx hb d_M_shapeCanBe_225 (by decide) (fun c24 => ?_) (fun c24 => ?_)
                    · refine lv_iconst (v := 0) hx hb d_M_shapeCanBe_232 (by decide) ?_
                      exact W.zret (v := (0 : Int32)) hx hb hr rfl (fun t ht hW => ⟨⟨(0 : Int32), (), rfl, ⟨false, rfl⟩, ⟨by show va_P D classes _ t.heap; rw [ht]; exact hP, hD⟩⟩, hS.F ht⟩) hS.2.2 d_M_shapeCanBe_233
                    · refine lv_iconst (v := 1) hx hb d_M_shapeCanBe_228 (by decide) ?_
                      refine lv_goto (tgt := 233) hx hb d_M_shapeCanBe_229 (by decide) ?_
                      exact W.zret (v := (1 : Int32)) hx hb hr rfl (fun t ht hW => ⟨⟨(1 : Int32), (), rfl, ⟨true, rfl⟩, ⟨by show va_P D classes _ t.heap; rw [ht]; exact hP, hD⟩⟩, hS.F ht⟩) hS.2.2 d_M_shapeCanBe_233
                  · by_cases c25 : x0_9 = (7 : Int32)
                    · refine lv_tableIn (off := 174) (tgt := 204) hx hb d_M_shapeCanBe_30 (by rw [c25]; decide) (by rw [c25]; decide) (by rw [c25]; rfl) (by decide) ?_
                      refine lv_iconst (v := 1) hx hb d_M_shapeCanBe_204 (by decide) ?_
                      exact W.zret (v := (1 : Int32)) hx hb hr rfl (fun t ht hW => ⟨⟨(1 : Int32), (), rfl, ⟨true, rfl⟩, ⟨by show va_P D classes _ t.heap; rw [ht]; exact hP, hD⟩⟩, hS.F ht⟩) hS.2.2 d_M_shapeCanBe_205
                    · by_cases c26 : x0_9 = (8 : Int32)
                      · refine lv_tableIn (off := 233) (tgt := 263) hx hb d_M_shapeCanBe_30 (by rw [c26]; decide) (by rw [c26]; decide) (by rw [c26]; rfl) (by decide) ?_
                        refine lv_aload_n hx hb d_M_shapeCanBe_263 rfl (lv_at hl 0 rfl) ?_
                        refine va_get (D := D) (ci := 1) (v := .int x0_10) (C := "SignMachine$Machine") (T := F_M) (N := 14) hx hb hk fi_M hown hK.1 hP 0 rfl rfl 10 (by decide) (hk _ k_177) (fun _ h9 => h9) rfl d_M_shapeCanBe_264 ?_
                        refine lv_aload_n hx hb d_M_shapeCanBe_267 rfl (lv_at hl 0 rfl) ?_
                        refine va_get (D := D) (ci := 1) (v := .int x0_9) (C := "SignMachine$Machine") (T := F_M) (N := 14) hx hb hk fi_M hown hK.1 hP 0 rfl rfl 9 (by decide) (hk _ k_176) (fun _ h9 => h9) rfl d_M_shapeCanBe_268 ?_
                        refine lv_bipush (v := 47) hx hb d_M_shapeCanBe_271 (by decide) ?_
                        refine lv_icmp_gt (tgt := 280) hx hb d_M_shapeCanBe_273 (by decide) (fun c27 => ?_) (fun c27 => ?_)
                        · refine lv_iconst (v := 3) hx hb d_M_shapeCanBe_280 (by decide) ?_
                          refine lv_icmp_gt (tgt := 288) hx hb d_M_shapeCanBe_281 (by decide) (fun c28 => ?_) (fun c28 => ?_)
                          · refine lv_iconst (v := 0) hx hb d_M_shapeCanBe_288 (by decide) ?_
                            exact W.zret (v := (0 : Int32)) hx hb hr rfl (fun t ht hW => ⟨⟨(0 : Int32), (), rfl, ⟨false, rfl⟩, ⟨by show va_P D classes _ t.heap; rw [ht]; exact hP, hD⟩⟩, hS.F ht⟩) hS.2.2 d_M_shapeCanBe_289
                          · refine lv_iconst (v := 1) hx hb d_M_shapeCanBe_284 (by decide) ?_
                            refine lv_goto (tgt := 289) hx hb d_M_shapeCanBe_285 (by decide) ?_
                            exact W.zret (v := (1 : Int32)) hx hb hr rfl (fun t ht hW => ⟨⟨(1 : Int32), (), rfl, ⟨true, rfl⟩, ⟨by show va_P D classes _ t.heap; rw [ht]; exact hP, hD⟩⟩, hS.F ht⟩) hS.2.2 d_M_shapeCanBe_289
                        · refine lv_iconst (v := 5) hx hb d_M_shapeCanBe_276 (by decide) ?_
                          refine lv_goto (tgt := 281) hx hb d_M_shapeCanBe_277 (by decide) ?_
                          refine lv_icmp_gt (tgt := 288) hx hb d_M_shapeCanBe_281 (by decide) (fun c29 => ?_) (fun c29 => ?_)
                          · refine lv_iconst (v := 0) hx hb d_M_shapeCanBe_288 (by decide) ?_
                            exact W.zret (v := (0 : Int32)) hx hb hr rfl (fun t ht hW => ⟨⟨(0 : Int32), (), rfl, ⟨false, rfl⟩, ⟨by show va_P D classes _ t.heap; rw [ht]; exact hP, hD⟩⟩, hS.F ht⟩) hS.2.2 d_M_shapeCanBe_289
                          · refine lv_iconst (v := 1) hx hb d_M_shapeCanBe_284 (by decide) ?_
                            refine lv_goto (tgt := 289) hx hb d_M_shapeCanBe_285 (by decide) ?_
                            exact W.zret (v := (1 : Int32)) hx hb hr rfl (fun t ht hW => ⟨⟨(1 : Int32), (), rfl, ⟨true, rfl⟩, ⟨by show va_P D classes _ t.heap; rw [ht]; exact hP, hD⟩⟩, hS.F ht⟩) hS.2.2 d_M_shapeCanBe_289
                      · by_cases c30 : x0_9 = (9 : Int32)
                        · refine lv_tableIn (off := 233) (tgt := 263) hx hb d_M_shapeCanBe_30 (by rw [c30]; decide) (by rw [c30]; decide) (by rw [c30]; rfl) (by decide) ?_
                          refine lv_aload_n hx hb d_M_shapeCanBe_263 rfl (lv_at hl 0 rfl) ?_
                          refine va_get (D := D) (ci := 1) (v := .int x0_10) (C := "SignMachine$Machine") (T := F_M) (N := 14) hx hb hk fi_M hown hK.1 hP 0 rfl rfl 10 (by decide) (hk _ k_177) (fun _ h9 => h9) rfl d_M_shapeCanBe_264 ?_
                          refine lv_aload_n hx hb d_M_shapeCanBe_267 rfl (lv_at hl 0 rfl) ?_
                          refine va_get (D := D) (ci := 1) (v := .int x0_9) (C := "SignMachine$Machine") (T := F_M) (N := 14) hx hb hk fi_M hown hK.1 hP 0 rfl rfl 9 (by decide) (hk _ k_176) (fun _ h9 => h9) rfl d_M_shapeCanBe_268 ?_
                          refine lv_bipush (v := 47) hx hb d_M_shapeCanBe_271 (by decide) ?_
                          refine lv_icmp_gt (tgt := 280) hx hb d_M_shapeCanBe_273 (by decide) (fun c31 => ?_) (fun c31 => ?_)
                          · refine lv_iconst (v := 3) hx hb d_M_shapeCanBe_280 (by decide) ?_
                            refine lv_icmp_gt (tgt := 288) hx hb d_M_shapeCanBe_281 (by decide) (fun c32 => ?_) (fun c32 => ?_)
                            · refine lv_iconst (v := 0) hx hb d_M_shapeCanBe_288 (by decide) ?_
                              exact W.zret (v := (0 : Int32)) hx hb hr rfl (fun t ht hW => ⟨⟨(0 : Int32), (), rfl, ⟨false, rfl⟩, ⟨by show va_P D classes _ t.heap; rw [ht]; exact hP, hD⟩⟩, hS.F ht⟩) hS.2.2 d_M_shapeCanBe_289
                            · refine lv_iconst (v := 1) hx hb d_M_shapeCanBe_284 (by decide) ?_
                              refine lv_goto (tgt := 289) hx hb d_M_shapeCanBe_285 (by decide) ?_
                              exact W.zret (v := (1 : Int32)) hx hb hr rfl (fun t ht hW => ⟨⟨(1 : Int32), (), rfl, ⟨true, rfl⟩, ⟨by show va_P D classes _ t.heap; rw [ht]; exact hP, hD⟩⟩, hS.F ht⟩) hS.2.2 d_M_shapeCanBe_289
                          · refine lv_iconst (v := 5) hx hb d_M_shapeCanBe_276 (by decide) ?_
                            refine lv_goto (tgt := 281) hx hb d_M_shapeCanBe_277 (by decide) ?_
                            refine lv_icmp_gt (tgt := 288) hx hb d_M_shapeCanBe_281 (by decide) (fun c33 => ?_) (fun c33 => ?_)
                            · refine lv_iconst (v := 0) hx hb d_M_shapeCanBe_288 (by decide) ?_
                              exact W.zret (v := (0 : Int32)) hx hb hr rfl (fun t ht hW => ⟨⟨(0 : Int32), (), rfl, ⟨false, rfl⟩, ⟨by show va_P D classes _ t.heap; rw [ht]; exact hP, hD⟩⟩, hS.F ht⟩) hS.2.2 d_M_shapeCanBe_289
                            · refine lv_iconst (v := 1) hx hb d_M_shapeCanBe_284 (by decide) ?_
                              refine lv_goto (tgt := 289) hx hb d_M_shapeCanBe_285 (by decide) ?_
                              exact W.zret (v := (1 : Int32)) hx hb hr rfl (fun t ht hW => ⟨⟨(1 : Int32), (), rfl, ⟨true, rfl⟩, ⟨by show va_P D classes _ t.heap; rw [ht]; exact hP, hD⟩⟩, hS.F ht⟩) hS.2.2 d_M_shapeCanBe_289
                        · by_cases c34 : x0_9 = (10 : Int32)
                          · refine lv_tableIn (off := 233) (tgt := 263) hx hb d_M_shapeCanBe_30 (by rw [c34]; decide) (by rw [c34]; decide) (by rw [c34]; rfl) (by decide) ?_
                            refine lv_aload_n hx hb d_M_shapeCanBe_263 rfl (lv_at hl 0 rfl) ?_
                            refine va_get (D := D) (ci := 1) (v := .int x0_10) (C := "SignMachine$Machine") (T := F_M) (N := 14) hx hb hk fi_M hown hK.1 hP 0 rfl rfl 10 (by decide) (hk _ k_177) (fun _ h9 => h9) rfl d_M_shapeCanBe_264 ?_
                            refine lv_aload_n hx hb d_M_shapeCanBe_267 rfl (lv_at hl 0 rfl) ?_
                            refine va_get (D := D) (ci := 1) (v := .int x0_9) (C := "SignMachine$Machine") (T := F_M) (N := 14) hx hb hk fi_M hown hK.1 hP 0 rfl rfl 9 (by decide) (hk _ k_176) (fun _ h9 => h9) rfl d_M_shapeCanBe_268 ?_
                            refine lv_bipush (v := 47) hx hb d_M_shapeCanBe_271 (by decide) ?_
                            refine lv_icmp_gt (tgt := 280) hx hb d_M_shapeCanBe_273 (by decide) (fun c35 => ?_) (fun c35 => ?_)
                            · refine lv_iconst (v := 3) hx hb d_M_shapeCanBe_280 (by decide) ?_
                              refine lv_icmp_gt (tgt := 288) hx hb d_M_shapeCanBe_281 (by decide) (fun c36 => ?_) (fun c36 => ?_)
                              · refine lv_iconst (v := 0) hx hb d_M_shapeCanBe_288 (by decide) ?_
                                exact W.zret (v := (0 : Int32)) hx hb hr rfl (fun t ht hW => ⟨⟨(0 : Int32), (), rfl, ⟨false, rfl⟩, ⟨by show va_P D classes _ t.heap; rw [ht]; exact hP, hD⟩⟩, hS.F ht⟩) hS.2.2 d_M_shapeCanBe_289
                              · refine lv_iconst (v := 1) hx hb d_M_shapeCanBe_284 (by decide) ?_
                                refine lv_goto (tgt := 289) hx hb d_M_shapeCanBe_285 (by decide) ?_
                                exact W.zret (v := (1 : Int32)) hx hb hr rfl (fun t ht hW => ⟨⟨(1 : Int32), (), rfl, ⟨true, rfl⟩, ⟨by show va_P D classes _ t.heap; rw [ht]; exact hP, hD⟩⟩, hS.F ht⟩) hS.2.2 d_M_shapeCanBe_289
                            · refine lv_iconst (v := 5) hx hb d_M_shapeCanBe_276 (by decide) ?_
                              refine lv_goto (tgt := 281) hx hb d_M_shapeCanBe_277 (by decide) ?_
                              refine lv_icmp_gt (tgt := 288) hx hb d_M_shapeCanBe_281 (by decide) (fun c37 => ?_) (fun c37 => ?_)
                              · refine lv_iconst (v := 0) hx hb d_M_shapeCanBe_288 (by decide) ?_
                                exact W.zret (v := (0 : Int32)) hx hb hr rfl (fun t ht hW => ⟨⟨(0 : Int32), (), rfl, ⟨false, rfl⟩, ⟨by show va_P D classes _ t.heap; rw [ht]; exact hP, hD⟩⟩, hS.F ht⟩) hS.2.2 d_M_shapeCanBe_289
                              · refine lv_iconst (v := 1) hx hb d_M_shapeCanBe_284 (by decide) ?_
                                refine lv_goto (tgt := 289) hx hb d_M_shapeCanBe_285 (by decide) ?_
                                exact W.zret (v := (1 : Int32)) hx hb hr rfl (fun t ht hW => ⟨⟨(1 : Int32), (), rfl, ⟨true, rfl⟩, ⟨by show va_P D classes _ t.heap; rw [ht]; exact hP, hD⟩⟩, hS.F ht⟩) hS.2.2 d_M_shapeCanBe_289
                          · by_cases c38 : x0_9 = (11 : Int32)
                            · refine lv_tableIn (off := 233) (tgt := 263) hx hb d_M_shapeCanBe_30 (by rw [c38]; decide) (by rw [c38]; decide) (by rw [c38]; rfl) (by decide) ?_
                              refine lv_aload_n hx hb d_M_shapeCanBe_263 rfl (lv_at hl 0 rfl) ?_
                              refine va_get (D := D) (ci := 1) (v := .int x0_10) (C := "SignMachine$Machine") (T := F_M) (N := 14) hx hb hk fi_M hown hK.1 hP 0 rfl rfl 10 (by decide) (hk _ k_177) (fun _ h9 => h9) rfl d_M_shapeCanBe_264 ?_
                              refine lv_aload_n hx hb d_M_shapeCanBe_267 rfl (lv_at hl 0 rfl) ?_
                              refine va_get (D := D) (ci := 1) (v := .int x0_9) (C := "SignMachine$Machine") (T := F_M) (N := 14) hx hb hk fi_M hown hK.1 hP 0 rfl rfl 9 (by decide) (hk _ k_176) (fun _ h9 => h9) rfl d_M_shapeCanBe_268 ?_
                              refine lv_bipush (v := 47) hx hb d_M_shapeCanBe_271 (by decide) ?_
                              refine lv_icmp_gt (tgt := 280) hx hb d_M_shapeCanBe_273 (by decide) (fun c39 => ?_) (fun c39 => ?_)
                              · refine lv_iconst (v := 3) hx hb d_M_shapeCanBe_280 (by decide) ?_
                                refine lv_icmp_gt (tgt := 288) hx hb d_M_shapeCanBe_281 (by decide) (fun c40 => ?_) (fun c40 => ?_)
                                · refine lv_iconst (v := 0) hx hb d_M_shapeCanBe_288 (by decide) ?_
                                  exact W.zret (v := (0 : Int32)) hx hb hr rfl (fun t ht hW => ⟨⟨(0 : Int32), (), rfl, ⟨false, rfl⟩, ⟨by show va_P D classes _ t.heap; rw [ht]; exact hP, hD⟩⟩, hS.F ht⟩) hS.2.2 d_M_shapeCanBe_289
                                · refine lv_iconst (v := 1) hx hb d_M_shapeCanBe_284 (by decide) ?_
                                  refine lv_goto (tgt := 289) hx hb d_M_shapeCanBe_285 (by decide) ?_
                                  exact W.zret (v := (1 : Int32)) hx hb hr rfl (fun t ht hW => ⟨⟨(1 : Int32), (), rfl, ⟨true, rfl⟩, ⟨by show va_P D classes _ t.heap; rw [ht]; exact hP, hD⟩⟩, hS.F ht⟩) hS.2.2 d_M_shapeCanBe_289
                              · refine lv_iconst (v := 5) hx hb d_M_shapeCanBe_276 (by decide) ?_
                                refine lv_goto (tgt := 281) hx hb d_M_shapeCanBe_277 (by decide) ?_
                                refine lv_icmp_gt (tgt := 288) hx hb d_M_shapeCanBe_281 (by decide) (fun c41 => ?_) (fun c41 => ?_)
                                · refine lv_iconst (v := 0) hx hb d_M_shapeCanBe_288 (by decide) ?_
                                  exact W.zret (v := (0 : Int32)) hx hb hr rfl (fun t ht hW => ⟨⟨(0 : Int32), (), rfl, ⟨false, rfl⟩, ⟨by show va_P D classes _ t.heap; rw [ht]; exact hP, hD⟩⟩, hS.F ht⟩) hS.2.2 d_M_shapeCanBe_289
                                · refine lv_iconst (v := 1) hx hb d_M_shapeCanBe_284 (by decide) ?_
                                  refine lv_goto (tgt := 289) hx hb d_M_shapeCanBe_285 (by decide) ?_
                                  exact W.zret (v := (1 : Int32)) hx hb hr rfl (fun t ht hW => ⟨⟨(1 : Int32), (), rfl, ⟨true, rfl⟩, ⟨by show va_P D classes _ t.heap; rw [ht]; exact hP, hD⟩⟩, hS.F ht⟩) hS.2.2 d_M_shapeCanBe_289
                            · by_cases c42 : x0_9 = (12 : Int32)
                              · refine lv_tableIn (off := 233) (tgt := 263) hx hb d_M_shapeCanBe_30 (by rw [c42]; decide) (by rw [c42]; decide) (by rw [c42]; rfl) (by decide) ?_
                                refine lv_aload_n hx hb d_M_shapeCanBe_263 rfl (lv_at hl 0 rfl) ?_
                                refine va_get (D := D) (ci := 1) (v := .int x0_10) (C := "SignMachine$Machine") (T := F_M) (N := 14) hx hb hk fi_M hown hK.1 hP 0 rfl rfl 10 (by decide) (hk _ k_177) (fun _ h9 => h9) rfl d_M_shapeCanBe_264 ?_
                                refine lv_aload_n hx hb d_M_shapeCanBe_267 rfl (lv_at hl 0 rfl) ?_
                                refine va_get (D := D) (ci := 1) (v := .int x0_9) (C := "SignMachine$Machine") (T := F_M) (N := 14) hx hb hk fi_M hown hK.1 hP 0 rfl rfl 9 (by decide) (hk _ k_176) (fun _ h9 => h9) rfl d_M_shapeCanBe_268 ?_
                                refine lv_bipush (v := 47) hx hb d_M_shapeCanBe_271 (by decide) ?_
                                refine lv_icmp_gt (tgt := 280) hx hb d_M_shapeCanBe_273 (by decide) (fun c43 => ?_) (fun c43 => ?_)
                                · refine lv_iconst (v := 3) hx hb d_M_shapeCanBe_280 (by decide) ?_
                                  refine lv_icmp_gt (tgt := 288) hx hb d_M_shapeCanBe_281 (by decide) (fun c44 => ?_) (fun c44 => ?_)
                                  · refine lv_iconst (v := 0) hx hb d_M_shapeCanBe_288 (by decide) ?_
                                    exact W.zret (v := (0 : Int32)) hx hb hr rfl (fun t ht hW => ⟨⟨(0 : Int32), (), rfl, ⟨false, rfl⟩, ⟨by show va_P D classes _ t.heap; rw [ht]; exact hP, hD⟩⟩, hS.F ht⟩) hS.2.2 d_M_shapeCanBe_289
                                  · refine lv_iconst (v := 1) hx hb d_M_shapeCanBe_284 (by decide) ?_
                                    refine lv_goto (tgt := 289) hx hb d_M_shapeCanBe_285 (by decide) ?_
                                    exact W.zret (v := (1 : Int32)) hx hb hr rfl (fun t ht hW => ⟨⟨(1 : Int32), (), rfl, ⟨true, rfl⟩, ⟨by show va_P D classes _ t.heap; rw [ht]; exact hP, hD⟩⟩, hS.F ht⟩) hS.2.2 d_M_shapeCanBe_289
                                · refine lv_iconst (v := 5) hx hb d_M_shapeCanBe_276 (by decide) ?_
                                  refine lv_goto (tgt := 281) hx hb d_M_shapeCanBe_277 (by decide) ?_
                                  refine lv_icmp_gt (tgt := 288) hx hb d_M_shapeCanBe_281 (by decide) (fun c45 => ?_) (fun c45 => ?_)
                                  · refine lv_iconst (v := 0) hx hb d_M_shapeCanBe_288 (by decide) ?_
                                    exact W.zret (v := (0 : Int32)) hx hb hr rfl (fun t ht hW => ⟨⟨(0 : Int32), (), rfl, ⟨false, rfl⟩, ⟨by show va_P D classes _ t.heap; rw [ht]; exact hP, hD⟩⟩, hS.F ht⟩) hS.2.2 d_M_shapeCanBe_289
                                  · refine lv_iconst (v := 1) hx hb d_M_shapeCanBe_284 (by decide) ?_
                                    refine lv_goto (tgt := 289) hx hb d_M_shapeCanBe_285 (by decide) ?_
                                    exact W.zret (v := (1 : Int32)) hx hb hr rfl (fun t ht hW => ⟨⟨(1 : Int32), (), rfl, ⟨true, rfl⟩, ⟨by show va_P D classes _ t.heap; rw [ht]; exact hP, hD⟩⟩, hS.F ht⟩) hS.2.2 d_M_shapeCanBe_289
                              · by_cases c46 : x0_9 = (13 : Int32)
                                · refine lv_tableIn (off := 233) (tgt := 263) hx hb d_M_shapeCanBe_30 (by rw [c46]; decide) (by rw [c46]; decide) (by rw [c46]; rfl) (by decide) ?_
                                  refine lv_aload_n hx hb d_M_shapeCanBe_263 rfl (lv_at hl 0 rfl) ?_
                                  refine va_get (D := D) (ci := 1) (v := .int x0_10) (C := "SignMachine$Machine") (T := F_M) (N := 14) hx hb hk fi_M hown hK.1 hP 0 rfl rfl 10 (by decide) (hk _ k_177) (fun _ h9 => h9) rfl d_M_shapeCanBe_264 ?_
                                  refine lv_aload_n hx hb d_M_shapeCanBe_267 rfl (lv_at hl 0 rfl) ?_
                                  refine va_get (D := D) (ci := 1) (v := .int x0_9) (C := "SignMachine$Machine") (T := F_M) (N := 14) hx hb hk fi_M hown hK.1 hP 0 rfl rfl 9 (by decide) (hk _ k_176) (fun _ h9 => h9) rfl d_M_shapeCanBe_268 ?_
                                  refine lv_bipush (v := 47) hx hb d_M_shapeCanBe_271 (by decide) ?_
                                  refine lv_icmp_gt (tgt := 280) hx hb d_M_shapeCanBe_273 (by decide) (fun c47 => ?_) (fun c47 => ?_)
                                  · refine lv_iconst (v := 3) hx hb d_M_shapeCanBe_280 (by decide) ?_
                                    refine lv_icmp_gt (tgt := 288) hx hb d_M_shapeCanBe_281 (by decide) (fun c48 => ?_) (fun c48 => ?_)
                                    · refine lv_iconst (v := 0) hx hb d_M_shapeCanBe_288 (by decide) ?_
                                      exact W.zret (v := (0 : Int32)) hx hb hr rfl (fun t ht hW => ⟨⟨(0 : Int32), (), rfl, ⟨false, rfl⟩, ⟨by show va_P D classes _ t.heap; rw [ht]; exact hP, hD⟩⟩, hS.F ht⟩) hS.2.2 d_M_shapeCanBe_289
                                    · refine lv_iconst (v := 1) hx hb d_M_shapeCanBe_284 (by decide) ?_
                                      refine lv_goto (tgt := 289) hx hb d_M_shapeCanBe_285 (by decide) ?_
                                      exact W.zret (v := (1 : Int32)) hx hb hr rfl (fun t ht hW => ⟨⟨(1 : Int32), (), rfl, ⟨true, rfl⟩, ⟨by show va_P D classes _ t.heap; rw [ht]; exact hP, hD⟩⟩, hS.F ht⟩) hS.2.2 d_M_shapeCanBe_289
                                  · refine lv_iconst (v := 5) hx hb d_M_shapeCanBe_276 (by decide) ?_
                                    refine lv_goto (tgt := 281) hx hb d_M_shapeCanBe_277 (by decide) ?_
                                    refine lv_icmp_gt (tgt := 288) hx hb d_M_shapeCanBe_281 (by decide) (fun c49 => ?_) (fun c49 => ?_)
                                    · refine lv_iconst (v := 0) hx hb d_M_shapeCanBe_288 (by decide) ?_
                                      exact W.zret (v := (0 : Int32)) hx hb hr rfl (fun t ht hW => ⟨⟨(0 : Int32), (), rfl, ⟨false, rfl⟩, ⟨by show va_P D classes _ t.heap; rw [ht]; exact hP, hD⟩⟩, hS.F ht⟩) hS.2.2 d_M_shapeCanBe_289
                                    · refine lv_iconst (v := 1) hx hb d_M_shapeCanBe_284 (by decide) ?_
                                      refine lv_goto (tgt := 289) hx hb d_M_shapeCanBe_285 (by decide) ?_
                                      exact W.zret (v := (1 : Int32)) hx hb hr rfl (fun t ht hW => ⟨⟨(1 : Int32), (), rfl, ⟨true, rfl⟩, ⟨by show va_P D classes _ t.heap; rw [ht]; exact hP, hD⟩⟩, hS.F ht⟩) hS.2.2 d_M_shapeCanBe_289
                                · by_cases c50 : x0_9 = (14 : Int32)
                                  · refine lv_tableIn (off := 233) (tgt := 263) hx hb d_M_shapeCanBe_30 (by rw [c50]; decide) (by rw [c50]; decide) (by rw [c50]; rfl) (by decide) ?_
                                    refine lv_aload_n hx hb d_M_shapeCanBe_263 rfl (lv_at hl 0 rfl) ?_
                                    refine va_get (D := D) (ci := 1) (v := .int x0_10) (C := "SignMachine$Machine") (T := F_M) (N := 14) hx hb hk fi_M hown hK.1 hP 0 rfl rfl 10 (by decide) (hk _ k_177) (fun _ h9 => h9) rfl d_M_shapeCanBe_264 ?_
                                    refine lv_aload_n hx hb d_M_shapeCanBe_267 rfl (lv_at hl 0 rfl) ?_
                                    refine va_get (D := D) (ci := 1) (v := .int x0_9) (C := "SignMachine$Machine") (T := F_M) (N := 14) hx hb hk fi_M hown hK.1 hP 0 rfl rfl 9 (by decide) (hk _ k_176) (fun _ h9 => h9) rfl d_M_shapeCanBe_268 ?_
                                    refine lv_bipush (v := 47) hx hb d_M_shapeCanBe_271 (by decide) ?_
                                    refine lv_icmp_gt (tgt := 280) hx hb d_M_shapeCanBe_273 (by decide) (fun c51 => ?_) (fun c51 => ?_)
                                    · refine lv_iconst (v := 3) hx hb d_M_shapeCanBe_280 (by decide) ?_
                                      refine lv_icmp_gt (tgt := 288) hx hb d_M_shapeCanBe_281 (by decide) (fun c52 => ?_) (fun c52 => ?_)
                                      · refine lv_iconst (v := 0) hx hb d_M_shapeCanBe_288 (by decide) ?_
                                        exact W.zret (v := (0 : Int32)) hx hb hr rfl (fun t ht hW => ⟨⟨(0 : Int32), (), rfl, ⟨false, rfl⟩, ⟨by show va_P D classes _ t.heap; rw [ht]; exact hP, hD⟩⟩, hS.F ht⟩) hS.2.2 d_M_shapeCanBe_289
                                      · refine lv_iconst (v := 1) hx hb d_M_shapeCanBe_284 (by decide) ?_
                                        refine lv_goto (tgt := 289) hx hb d_M_shapeCanBe_285 (by decide) ?_
                                        exact W.zret (v := (1 : Int32)) hx hb hr rfl (fun t ht hW => ⟨⟨(1 : Int32), (), rfl, ⟨true, rfl⟩, ⟨by show va_P D classes _ t.heap; rw [ht]; exact hP, hD⟩⟩, hS.F ht⟩) hS.2.2 d_M_shapeCanBe_289
                                    · refine lv_iconst (v := 5) hx hb d_M_shapeCanBe_276 (by decide) ?_
                                      refine lv_goto (tgt := 281) hx hb d_M_shapeCanBe_277 (by decide) ?_
                                      refine lv_icmp_gt (tgt := 288) hx hb d_M_shapeCanBe_281 (by decide) (fun c53 => ?_) (fun c53 => ?_)
                                      · refine lv_iconst (v := 0) hx hb d_M_shapeCanBe_288 (by decide) ?_
                                        exact W.zret (v := (0 : Int32)) hx hb hr rfl (fun t ht hW => ⟨⟨(0 : Int32), (), rfl, ⟨false, rfl⟩, ⟨by show va_P D classes _ t.heap; rw [ht]; exact hP, hD⟩⟩, hS.F ht⟩) hS.2.2 d_M_shapeCanBe_289
                                      · refine lv_iconst (v := 1) hx hb d_M_shapeCanBe_284 (by decide) ?_
                                        refine lv_goto (tgt := 289) hx hb d_M_shapeCanBe_285 (by decide) ?_
                                        exact W.zret (v := (1 : Int32)) hx hb hr rfl (fun t ht hW => ⟨⟨(1 : Int32), (), rfl, ⟨true, rfl⟩, ⟨by show va_P D classes _ t.heap; rw [ht]; exact hP, hD⟩⟩, hS.F ht⟩) hS.2.2 d_M_shapeCanBe_289
                                  · by_cases c54 : x0_9 = (15 : Int32)
                                    · refine lv_tableIn (off := 233) (tgt := 263) hx hb d_M_shapeCanBe_30 (by rw [c54]; decide) (by rw [c54]; decide) (by rw [c54]; rfl) (by decide) ?_
                                      refine lv_aload_n hx hb d_M_shapeCanBe_263 rfl (lv_at hl 0 rfl) ?_
                                      refine va_get (D := D) (ci := 1) (v := .int x0_10) (C := "SignMachine$Machine") (T := F_M) (N := 14) hx hb hk fi_M hown hK.1 hP 0 rfl rfl 10 (by decide) (hk _ k_177) (fun _ h9 => h9) rfl d_M_shapeCanBe_264 ?_
                                      refine lv_aload_n hx hb d_M_shapeCanBe_267 rfl (lv_at hl 0 rfl) ?_
                                      refine va_get (D := D) (ci := 1) (v := .int x0_9) (C := "SignMachine$Machine") (T := F_M) (N := 14) hx hb hk fi_M hown hK.1 hP 0 rfl rfl 9 (by decide) (hk _ k_176) (fun _ h9 => h9) rfl d_M_shapeCanBe_268 ?_
                                      refine lv_bipush (v := 47) hx hb d_M_shapeCanBe_271 (by decide) ?_
                                      refine lv_icmp_gt (tgt := 280) hx hb d_M_shapeCanBe_273 (by decide) (fun c55 => ?_) (fun c55 => ?_)
                                      · refine lv_iconst (v := 3) hx hb d_M_shapeCanBe_280 (by decide) ?_
                                        refine lv_icmp_gt (tgt := 288) hx hb d_M_shapeCanBe_281 (by decide) (fun c56 => ?_) (fun c56 => ?_)
                                        · refine lv_iconst (v := 0) hx hb d_M_shapeCanBe_288 (by decide) ?_
                                          exact W.zret (v := (0 : Int32)) hx hb hr rfl (fun t ht hW => ⟨⟨(0 : Int32), (), rfl, ⟨false, rfl⟩, ⟨by show va_P D classes _ t.heap; rw [ht]; exact hP, hD⟩⟩, hS.F ht⟩) hS.2.2 d_M_shapeCanBe_289
                                        · refine lv_iconst (v := 1) hx hb d_M_shapeCanBe_284 (by decide) ?_
                                          refine lv_goto (tgt := 289) hx hb d_M_shapeCanBe_285 (by decide) ?_
                                          exact W.zret (v := (1 : Int32)) hx hb hr rfl (fun t ht hW => ⟨⟨(1 : Int32), (), rfl, ⟨true, rfl⟩, ⟨by show va_P D classes _ t.heap; rw [ht]; exact hP, hD⟩⟩, hS.F ht⟩) hS.2.2 d_M_shapeCanBe_289
                                      · refine lv_iconst (v := 5) hx hb d_M_shapeCanBe_276 (by decide) ?_
                                        refine lv_goto (tgt := 281) hx hb d_M_shapeCanBe_277 (by decide) ?_
                                        refine lv_icmp_gt (tgt := 288) hx hb d_M_shapeCanBe_281 (by decide) (fun c57 => ?_) (fun c57 => ?_)
                                        · refine lv_iconst (v := 0) hx hb d_M_shapeCanBe_288 (by decide) ?_
                                          exact W.zret (v := (0 : Int32)) hx hb hr rfl (fun t ht hW => ⟨⟨(0 : Int32), (), rfl, ⟨false, rfl⟩, ⟨by show va_P D classes _ t.heap; rw [ht]; exact hP, hD⟩⟩, hS.F ht⟩) hS.2.2 d_M_shapeCanBe_289
                                        · refine lv_iconst (v := 1) hx hb d_M_shapeCanBe_284 (by decide) ?_
                                          refine lv_goto (tgt := 289) hx hb d_M_shapeCanBe_285 (by decide) ?_
                                          exact W.zret (v := (1 : Int32)) hx hb hr rfl (fun t ht hW => ⟨⟨(1 : Int32), (), rfl, ⟨true, rfl⟩, ⟨by show va_P D classes _ t.heap; rw [ht]; exact hP, hD⟩⟩, hS.F ht⟩) hS.2.2 d_M_shapeCanBe_289
                                    · by_cases c58 : x0_9 = (16 : Int32)
                                      · refine lv_tableIn (off := 233) (tgt := 263) hx hb d_M_shapeCanBe_30 (by rw [c58]; decide) (by rw [c58]; decide) (by rw [c58]; rfl) (by decide) ?_
                                        refine lv_aload_n hx hb d_M_shapeCanBe_263 rfl (lv_at hl 0 rfl) ?_
                                        refine va_get (D := D) (ci := 1) (v := .int x0_10) (C := "SignMachine$Machine") (T := F_M) (N := 14) hx hb hk fi_M hown hK.1 hP 0 rfl rfl 10 (by decide) (hk _ k_177) (fun _ h9 => h9) rfl d_M_shapeCanBe_264 ?_
                                        refine lv_aload_n hx hb d_M_shapeCanBe_267 rfl (lv_at hl 0 rfl) ?_
                                        refine va_get (D := D) (ci := 1) (v := .int x0_9) (C := "SignMachine$Machine") (T := F_M) (N := 14) hx hb hk fi_M hown hK.1 hP 0 rfl rfl 9 (by decide) (hk _ k_176) (fun _ h9 => h9) rfl d_M_shapeCanBe_268 ?_
                                        refine lv_bipush (v := 47) hx hb d_M_shapeCanBe_271 (by decide) ?_
                                        refine lv_icmp_gt (tgt := 280) hx hb d_M_shapeCanBe_273 (by decide) (fun c59 => ?_) (fun c59 => ?_)
                                        · refine lv_iconst (v := 3) hx hb d_M_shapeCanBe_280 (by decide) ?_
                                          refine lv_icmp_gt (tgt := 288) hx hb d_M_shapeCanBe_281 (by decide) (fun c60 => ?_) (fun c60 => ?_)
                                          · refine lv_iconst (v := 0) hx hb d_M_shapeCanBe_288 (by decide) ?_
                                            exact W.zret (v := (0 : Int32)) hx hb hr rfl (fun t ht hW => ⟨⟨(0 : Int32), (), rfl, ⟨false, rfl⟩, ⟨by show va_P D classes _ t.heap; rw [ht]; exact hP, hD⟩⟩, hS.F ht⟩) hS.2.2 d_M_shapeCanBe_289
                                          · refine lv_iconst (v := 1) hx hb d_M_shapeCanBe_284 (by decide) ?_
                                            refine lv_goto (tgt := 289) hx hb d_M_shapeCanBe_285 (by decide) ?_
                                            exact W.zret (v := (1 : Int32)) hx hb hr rfl (fun t ht hW => ⟨⟨(1 : Int32), (), rfl, ⟨true, rfl⟩, ⟨by show va_P D classes _ t.heap; rw [ht]; exact hP, hD⟩⟩, hS.F ht⟩) hS.2.2 d_M_shapeCanBe_289
                                        · refine lv_iconst (v := 5) hx hb d_M_shapeCanBe_276 (by decide) ?_
                                          refine lv_goto (tgt := 281) hx hb d_M_shapeCanBe_277 (by decide) ?_
                                          refine lv_icmp_gt (tgt := 288) hx hb d_M_shapeCanBe_281 (by decide) (fun c61 => ?_) (fun c61 => ?_)
                                          · refine lv_iconst (v := 0) hx hb d_M_shapeCanBe_288 (by decide) ?_
                                            exact W.zret (v := (0 : Int32)) hx hb hr rfl (fun t ht hW => ⟨⟨(0 : Int32), (), rfl, ⟨false, rfl⟩, ⟨by show va_P D classes _ t.heap; rw [ht]; exact hP, hD⟩⟩, hS.F ht⟩) hS.2.2 d_M_shapeCanBe_289
                                          · refine lv_iconst (v := 1) hx hb d_M_shapeCanBe_284 (by decide) ?_
                                            refine lv_goto (tgt := 289) hx hb d_M_shapeCanBe_285 (by decide) ?_
                                            exact W.zret (v := (1 : Int32)) hx hb hr rfl (fun t ht hW => ⟨⟨(1 : Int32), (), rfl, ⟨true, rfl⟩, ⟨by show va_P D classes _ t.heap; rw [ht]; exact hP, hD⟩⟩, hS.F ht⟩) hS.2.2 d_M_shapeCanBe_289
                                      · by_cases c62 : x0_9 = (17 : Int32)
                                        · refine lv_tableIn (off := 233) (tgt := 263) hx hb d_M_shapeCanBe_30 (by rw [c62]; decide) (by rw [c62]; decide) (by rw [c62]; rfl) (by decide) ?_
                                          refine lv_aload_n hx hb d_M_shapeCanBe_263 rfl (lv_at hl 0 rfl) ?_
                                          refine va_get (D := D) (ci := 1) (v := .int x0_10) (C := "SignMachine$Machine") (T := F_M) (N := 14) hx hb hk fi_M hown hK.1 hP 0 rfl rfl 10 (by decide) (hk _ k_177) (fun _ h9 => h9) rfl d_M_shapeCanBe_264 ?_
                                          refine lv_aload_n hx hb d_M_shapeCanBe_267 rfl (lv_at hl 0 rfl) ?_
                                          refine va_get (D := D) (ci := 1) (v := .int x0_9) (C := "SignMachine$Machine") (T := F_M) (N := 14) hx hb hk fi_M hown hK.1 hP 0 rfl rfl 9 (by decide) (hk _ k_176) (fun _ h9 => h9) rfl d_M_shapeCanBe_268 ?_
                                          refine lv_bipush (v := 47) hx hb d_M_shapeCanBe_271 (by decide) ?_
                                          refine lv_icmp_gt (tgt := 280) hx hb d_M_shapeCanBe_273 (by decide) (fun c63 => ?_) (fun c63 => ?_)
                                          · refine lv_iconst (v := 3) hx hb d_M_shapeCanBe_280 (by decide) ?_
                                            refine lv_icmp_gt (tgt := 288) hx hb d_M_shapeCanBe_281 (by decide) (fun c64 => ?_) (fun c64 => ?_)
                                            · refine lv_iconst (v := 0) hx hb d_M_shapeCanBe_288 (by decide) ?_
                                              exact W.zret (v := (0 : Int32)) hx hb hr rfl (fun t ht hW => ⟨⟨(0 : Int32), (), rfl, ⟨false, rfl⟩, ⟨by show va_P D classes _ t.heap; rw [ht]; exact hP, hD⟩⟩, hS.F ht⟩) hS.2.2 d_M_shapeCanBe_289
                                            · refine lv_iconst (v := 1) hx hb d_M_shapeCanBe_284 (by decide) ?_
                                              refine lv_goto (tgt := 289) hx hb d_M_shapeCanBe_285 (by decide) ?_
                                              exact W.zret (v := (1 : Int32)) hx hb hr rfl (fun t ht hW => ⟨⟨(1 : Int32), (), rfl, ⟨true, rfl⟩, ⟨by show va_P D classes _ t.heap; rw [ht]; exact hP, hD⟩⟩, hS.F ht⟩) hS.2.2 d_M_shapeCanBe_289
                                          · refine lv_iconst (v := 5) hx hb d_M_shapeCanBe_276 (by decide) ?_
                                            refine lv_goto (tgt := 281) hx hb d_M_shapeCanBe_277 (by decide) ?_
                                            refine lv_icmp_gt (tgt := 288) hx hb d_M_shapeCanBe_281 (by decide) (fun c65 => ?_) (fun c65 => ?_)
                                            · refine lv_iconst (v := 0) hx hb d_M_shapeCanBe_288 (by decide) ?_
                                              exact W.zret (v := (0 : Int32)) hx hb hr rfl (fun t ht hW => ⟨⟨(0 : Int32), (), rfl, ⟨false, rfl⟩, ⟨by show va_P D classes _ t.heap; rw [ht]; exact hP, hD⟩⟩, hS.F ht⟩) hS.2.2 d_M_shapeCanBe_289
                                            · refine lv_iconst (v := 1) hx hb d_M_shapeCanBe_284 (by decide) ?_
                                              refine lv_goto (tgt := 289) hx hb d_M_shapeCanBe_285 (by decide) ?_
                                              exact W.zret (v := (1 : Int32)) hx hb hr rfl (fun t ht hW => ⟨⟨(1 : Int32), (), rfl, ⟨true, rfl⟩, ⟨by show va_P D classes _ t.heap; rw [ht]; exact hP, hD⟩⟩, hS.F ht⟩) hS.2.2 d_M_shapeCanBe_289
                                        · by_cases c66 : x0_9 = (18 : Int32)
                                          · refine lv_tableIn (off := 233) (tgt := 263) hx hb d_M_shapeCanBe_30 (by rw [c66]; decide) (by rw [c66]; decide) (by rw [c66]; rfl) (by decide) ?_
                                            refine lv_aload_n hx hb d_M_shapeCanBe_263 rfl (lv_at hl 0 rfl) ?_
                                            refine va_get (D := D) (ci := 1) (v := .int x0_10) (C := "SignMachine$Machine") (T := F_M) (N := 14) hx hb hk fi_M hown hK.1 hP 0 rfl rfl 10 (by decide) (hk _ k_177) (fun _ h9 => h9) rfl d_M_shapeCanBe_264 ?_
                                            refine lv_aload_n hx hb d_M_shapeCanBe_267 rfl (lv_at hl 0 rfl) ?_
                                            refine va_get (D := D) (ci := 1) (v := .int x0_9) (C := "SignMachine$Machine") (T := F_M) (N := 14) hx hb hk fi_M hown hK.1 hP 0 rfl rfl 9 (by decide) (hk _ k_176) (fun _ h9 => h9) rfl d_M_shapeCanBe_268 ?_
                                            refine lv_bipush (v := 47) hx hb d_M_shapeCanBe_271 (by decide) ?_
                                            refine lv_icmp_gt (tgt := 280) hx hb d_M_shapeCanBe_273 (by decide) (fun c67 => ?_) (fun c67 => ?_)
                                            · refine lv_iconst (v := 3) hx hb d_M_shapeCanBe_280 (by decide) ?_
                                              refine lv_icmp_gt (tgt := 288) hx hb d_M_shapeCanBe_281 (by decide) (fun c68 => ?_) (fun c68 => ?_)
                                              · refine lv_iconst (v := 0) hx hb d_M_shapeCanBe_288 (by decide) ?_
                                                exact W.zret (v := (0 : Int32)) hx hb hr rfl (fun t ht hW => ⟨⟨(0 : Int32), (), rfl, ⟨false, rfl⟩, ⟨by show va_P D classes _ t.heap; rw [ht]; exact hP, hD⟩⟩, hS.F ht⟩) hS.2.2 d_M_shapeCanBe_289
                                              · refine lv_iconst (v := 1) hx hb d_M_shapeCanBe_284 (by decide) ?_
                                                refine lv_goto (tgt := 289) hx hb d_M_shapeCanBe_285 (by decide) ?_
                                                exact W.zret (v := (1 : Int32)) hx hb hr rfl (fun t ht hW => ⟨⟨(1 : Int32), (), rfl, ⟨true, rfl⟩, ⟨by show va_P D classes _ t.heap; rw [ht]; exact hP, hD⟩⟩, hS.F ht⟩) hS.2.2 d_M_shapeCanBe_289
                                            · refine lv_iconst (v := 5) hx hb d_M_shapeCanBe_276 (by decide) ?_
                                              refine lv_goto (tgt := 281) hx hb d_M_shapeCanBe_277 (by decide) ?_
                                              refine lv_icmp_gt (tgt := 288) hx hb d_M_shapeCanBe_281 (by decide) (fun c69 => ?_) (fun c69 => ?_)
                                              · refine lv_iconst (v := 0) hx hb d_M_shapeCanBe_288 (by decide) ?_
                                                exact W.zret (v := (0 : Int32)) hx hb hr rfl (fun t ht hW => ⟨⟨(0 : Int32), (), rfl, ⟨false, rfl⟩, ⟨by show va_P D classes _ t.heap; rw [ht]; exact hP, hD⟩⟩, hS.F ht⟩) hS.2.2 d_M_shapeCanBe_289
                                              · refine lv_iconst (v := 1) hx hb d_M_shapeCanBe_284 (by decide) ?_
                                                refine lv_goto (tgt := 289) hx hb d_M_shapeCanBe_285 (by decide) ?_
                                                exact W.zret (v := (1 : Int32)) hx hb hr rfl (fun t ht hW => ⟨⟨(1 : Int32), (), rfl, ⟨true, rfl⟩, ⟨by show va_P D classes _ t.heap; rw [ht]; exact hP, hD⟩⟩, hS.F ht⟩) hS.2.2 d_M_shapeCanBe_289
                                          · by_cases c70 : x0_9 = (19 : Int32)
                                            · refine lv_tableIn (off := 233) (tgt := 263) hx hb d_M_shapeCanBe_30 (by rw [c70]; decide) (by rw [c70]; decide) (by rw [c70]; rfl) (by decide) ?_
                                              refine lv_aload_n hx hb d_M_shapeCanBe_263 rfl (lv_at hl 0 rfl) ?_
                                              refine va_get (D := D) (ci := 1) (v := .int x0_10) (C := "SignMachine$Machine") (T := F_M) (N := 14) hx hb hk fi_M hown hK.1 hP 0 rfl rfl 10 (by decide) (hk _ k_177) (fun _ h9 => h9) rfl d_M_shapeCanBe_264 ?_
                                              refine lv_aload_n hx hb d_M_shapeCanBe_267 rfl (lv_at hl 0 rfl) ?_
                                              refine va_get (D := D) (ci := 1) (v := .int x0_9) (C := "SignMachine$Machine") (T := F_M) (N := 14) hx hb hk fi_M hown hK.1 hP 0 rfl rfl 9 (by decide) (hk _ k_176) (fun _ h9 => h9) rfl d_M_shapeCanBe_268 ?_
                                              refine lv_bipush (v := 47) hx hb d_M_shapeCanBe_271 (by decide) ?_
                                              refine lv_icmp_gt (tgt := 280) hx hb d_M_shapeCanBe_273 (by decide) (fun c71 => ?_) (fun c71 => ?_)
                                              · refine lv_iconst (v := 3) hx hb d_M_shapeCanBe_280 (by decide) ?_
                                                refine lv_icmp_gt (tgt := 288) hx hb d_M_shapeCanBe_281 (by decide) (fun c72 => ?_) (fun c72 => ?_)
                                                · refine lv_iconst (v := 0) hx hb d_M_shapeCanBe_288 (by decide) ?_
                                                  exact W.zret (v := (0 : Int32)) hx hb hr rfl (fun t ht hW => ⟨⟨(0 : Int32), (), rfl, ⟨false, rfl⟩, ⟨by show va_P D classes _ t.heap; rw [ht]; exact hP, hD⟩⟩, hS.F ht⟩) hS.2.2 d_M_shapeCanBe_289
                                                · refine lv_iconst (v := 1) hx hb d_M_shapeCanBe_284 (by decide) ?_
                                                  refine lv_goto (tgt := 289) hx hb d_M_shapeCanBe_285 (by decide) ?_
                                                  exact W.zret (v := (1 : Int32)) hx hb hr rfl (fun t ht hW => ⟨⟨(1 : Int32), (), rfl, ⟨true, rfl⟩, ⟨by show va_P D classes _ t.heap; rw [ht]; exact hP, hD⟩⟩, hS.F ht⟩) hS.2.2 d_M_shapeCanBe_289
                                              · refine lv_iconst (v := 5) hx hb d_M_shapeCanBe_276 (by decide) ?_
                                                refine lv_goto (tgt := 281) hx hb d_M_shapeCanBe_277 (by decide) ?_
                                                refine lv_icmp_gt (tgt := 288) hx hb d_M_shapeCanBe_281 (by decide) (fun c73 => ?_) (fun c73 => ?_)
                                                · refine lv_iconst (v := 0) hx hb d_M_shapeCanBe_288 (by decide) ?_
                                                  exact W.zret (v := (0 : Int32)) hx hb hr rfl (fun t ht hW => ⟨⟨(0 : Int32), (), rfl, ⟨false, rfl⟩, ⟨by show va_P D classes _ t.heap; rw [ht]; exact hP, hD⟩⟩, hS.F ht⟩) hS.2.2 d_M_shapeCanBe_289
                                                · refine lv_iconst (v := 1) hx hb d_M_shapeCanBe_284 (by decide) ?_
                                                  refine lv_goto (tgt := 289) hx hb d_M_shapeCanBe_285 (by decide) ?_
                                                  exact W.zret (v := (1 : Int32)) hx hb hr rfl (fun t ht hW => ⟨⟨(1 : Int32), (), rfl, ⟨true, rfl⟩, ⟨by show va_P D classes _ t.heap; rw [ht]; exact hP, hD⟩⟩, hS.F ht⟩) hS.2.2 d_M_shapeCanBe_289
                                            · by_cases c74 : x0_9 = (20 : Int32)
                                              · refine lv_tableIn (off := 233) (tgt := 263) hx hb d_M_shapeCanBe_30 (by rw [c74]; decide) (by rw [c74]; decide) (by rw [c74]; rfl) (by decide) ?_
                                                refine lv_aload_n hx hb d_M_shapeCanBe_263 rfl (lv_at hl 0 rfl) ?_
                                                refine va_get (D := D) (ci := 1) (v := .int x0_10) (C := "SignMachine$Machine") (T := F_M) (N := 14) hx hb hk fi_M hown hK.1 hP 0 rfl rfl 10 (by decide) (hk _ k_177) (fun _ h9 => h9) rfl d_M_shapeCanBe_264 ?_
                                                refine lv_aload_n hx hb d_M_shapeCanBe_267 rfl (lv_at hl 0 rfl) ?_
                                                refine va_get (D := D) (ci := 1) (v := .int x0_9) (C := "SignMachine$Machine") (T := F_M) (N := 14) hx hb hk fi_M hown hK.1 hP 0 rfl rfl 9 (by decide) (hk _ k_176) (fun _ h9 => h9) rfl d_M_shapeCanBe_268 ?_
                                                refine lv_bipush (v := 47) hx hb d_M_shapeCanBe_271 (by decide) ?_
                                                refine lv_icmp_gt (tgt := 280) hx hb d_M_shapeCanBe_273 (by decide) (fun c75 => ?_) (fun c75 => ?_)
                                                · refine lv_iconst (v := 3) hx hb d_M_shapeCanBe_280 (by decide) ?_
                                                  refine lv_icmp_gt (tgt := 288) hx hb d_M_shapeCanBe_281 (by decide) (fun c76 => ?_) (fun c76 => ?_)
                                                  · refine lv_iconst (v := 0) hx hb d_M_shapeCanBe_288 (by decide) ?_
                                                    exact W.zret (v := (0 : Int32)) hx hb hr rfl (fun t ht hW => ⟨⟨(0 : Int32), (), rfl, ⟨false, rfl⟩, ⟨by show va_P D classes _ t.heap; rw [ht]; exact hP, hD⟩⟩, hS.F ht⟩) hS.2.2 d_M_shapeCanBe_289
                                                  · refine lv_iconst (v := 1) hx hb d_M_shapeCanBe_284 (by decide) ?_
                                                    refine lv_goto (tgt := 289) hx hb d_M_shapeCanBe_285 (by decide) ?_
                                                    exact W.zret (v := (1 : Int32)) hx hb hr rfl (fun t ht hW => ⟨⟨(1 : Int32), (), rfl, ⟨true, rfl⟩, ⟨by show va_P D classes _ t.heap; rw [ht]; exact hP, hD⟩⟩, hS.F ht⟩) hS.2.2 d_M_shapeCanBe_289
                                                · refine lv_iconst (v := 5) hx hb d_M_shapeCanBe_276 (by decide) ?_
                                                  refine lv_goto (tgt := 281) hx hb d_M_shapeCanBe_277 (by decide) ?_
                                                  refine lv_icmp_gt (tgt := 288) hx hb d_M_shapeCanBe_281 (by decide) (fun c77 => ?_) (fun c77 => ?_)
                                                  · refine lv_iconst (v := 0) hx hb d_M_shapeCanBe_288 (by decide) ?_
                                                    exact W.zret (v := (0 : Int32)) hx hb hr rfl (fun t ht hW => ⟨⟨(0 : Int32), (), rfl, ⟨false, rfl⟩, ⟨by show va_P D classes _ t.heap; rw [ht]; exact hP, hD⟩⟩, hS.F ht⟩) hS.2.2 d_M_shapeCanBe_289
                                                  · refine lv_iconst (v := 1) hx hb d_M_shapeCanBe_284 (by decide) ?_
                                                    refine lv_goto (tgt := 289) hx hb d_M_shapeCanBe_285 (by decide) ?_
                                                    exact W.zret (v := (1 : Int32)) hx hb hr rfl (fun t ht hW => ⟨⟨(1 : Int32), (), rfl, ⟨true, rfl⟩, ⟨by show va_P D classes _ t.heap; rw [ht]; exact hP, hD⟩⟩, hS.F ht⟩) hS.2.2 d_M_shapeCanBe_289
                                              · by_cases c78 : x0_9 = (21 : Int32)
                                                · refine lv_tableIn (off := 233) (tgt := 263) hx hb d_M_shapeCanBe_30 (by rw [c78]; decide) (by rw [c78]; decide) (by rw [c78]; rfl) (by decide) ?_
                                                  refine lv_aload_n hx hb d_M_shapeCanBe_263 rfl (lv_at hl 0 rfl) ?_
                                                  refine va_get (D := D) (ci := 1) (v := .int x0_10) (C := "SignMachine$Machine") (T := F_M) (N := 14) hx hb hk fi_M hown hK.1 hP 0 rfl rfl 10 (by decide) (hk _ k_177) (fun _ h9 => h9) rfl d_M_shapeCanBe_264 ?_
                                                  refine lv_aload_n hx hb d_M_shapeCanBe_267 rfl (lv_at hl 0 rfl) ?_
                                                  refine va_get (D := D) (ci := 1) (v := .int x0_9) (C := "SignMachine$Machine") (T := F_M) (N := 14) hx hb hk fi_M hown hK.1 hP 0 rfl rfl 9 (by decide) (hk _ k_176) (fun _ h9 => h9) rfl d_M_shapeCanBe_268 ?_
                                                  refine lv_bipush (v := 47) hx hb d_M_shapeCanBe_271 (by decide) ?_
                                                  refine lv_icmp_gt (tgt := 280) hx hb d_M_shapeCanBe_273 (by decide) (fun c79 => ?_) (fun c79 => ?_)
                                                  · refine lv_iconst (v := 3) hx hb d_M_shapeCanBe_280 (by decide) ?_
                                                    refine lv_icmp_gt (tgt := 288) hx hb d_M_shapeCanBe_281 (by decide) (fun c80 => ?_) (fun c80 => ?_)
                                                    · refine lv_iconst (v := 0) hx hb d_M_shapeCanBe_288 (by decide) ?_
                                                      exact W.zret (v := (0 : Int32)) hx hb hr rfl (fun t ht hW => ⟨⟨(0 : Int32), (), rfl, ⟨false, rfl⟩, ⟨by show va_P D classes _ t.heap; rw [ht]; exact hP, hD⟩⟩, hS.F ht⟩) hS.2.2 d_M_shapeCanBe_289
                                                    · refine lv_iconst (v := 1) hx hb d_M_shapeCanBe_284 (by decide) ?_
                                                      refine lv_goto (tgt := 289) hx hb d_M_shapeCanBe_285 (by decide) ?_
                                                      exact W.zret (v := (1 : Int32)) hx hb hr rfl (fun t ht hW => ⟨⟨(1 : Int32), (), rfl, ⟨true, rfl⟩, ⟨by show va_P D classes _ t.heap; rw [ht]; exact hP, hD⟩⟩, hS.F ht⟩) hS.2.2 d_M_shapeCanBe_289
                                                  · refine lv_iconst (v := 5) hx hb d_M_shapeCanBe_276 (by decide) ?_
                                                    refine lv_goto (tgt := 281) hx hb d_M_shapeCanBe_277 (by decide) ?_
                                                    refine lv_icmp_gt (tgt := 288) hx hb d_M_shapeCanBe_281 (by decide) (fun c81 => ?_) (fun c81 => ?_)
                                                    · refine lv_iconst (v := 0) hx hb d_M_shapeCanBe_288 (by decide) ?_
                                                      exact W.zret (v := (0 : Int32)) hx hb hr rfl (fun t ht hW => ⟨⟨(0 : Int32), (), rfl, ⟨false, rfl⟩, ⟨by show va_P D classes _ t.heap; rw [ht]; exact hP, hD⟩⟩, hS.F ht⟩) hS.2.2 d_M_shapeCanBe_289
                                                    · refine lv_iconst (v := 1) hx hb d_M_shapeCanBe_284 (by decide) ?_
                                                      refine lv_goto (tgt := 289) hx hb d_M_shapeCanBe_285 (by decide) ?_
                                                      exact W.zret (v := (1 : Int32)) hx hb hr rfl (fun t ht hW => ⟨⟨(1 : Int32), (), rfl, ⟨true, rfl⟩, ⟨by show va_P D classes _ t.heap; rw [ht]; exact hP, hD⟩⟩, hS.F ht⟩) hS.2.2 d_M_shapeCanBe_289
                                                · by_cases c82 : x0_9 = (22 : Int32)
                                                  · refine lv_tableIn (off := 233) (tgt := 263) hx hb d_M_shapeCanBe_30 (by rw [c82]; decide) (by rw [c82]; decide) (by rw [c82]; rfl) (by decide) ?_
                                                    refine lv_aload_n hx hb d_M_shapeCanBe_263 rfl (lv_at hl 0 rfl) ?_
                                                    refine va_get (D := D) (ci := 1) (v := .int x0_10) (C := "SignMachine$Machine") (T := F_M) (N := 14) hx hb hk fi_M hown hK.1 hP 0 rfl rfl 10 (by decide) (hk _ k_177) (fun _ h9 => h9) rfl d_M_shapeCanBe_264 ?_
                                                    refine lv_aload_n hx hb d_M_shapeCanBe_267 rfl (lv_at hl 0 rfl) ?_
                                                    refine va_get (D := D) (ci := 1) (v := .int x0_9) (C := "SignMachine$Machine") (T := F_M) (N := 14) hx hb hk fi_M hown hK.1 hP 0 rfl rfl 9 (by decide) (hk _ k_176) (fun _ h9 => h9) rfl d_M_shapeCanBe_268 ?_
                                                    refine lv_bipush (v := 47) hx hb d_M_shapeCanBe_271 (by decide) ?_
                                                    refine lv_icmp_gt (tgt := 280) hx hb d_M_shapeCanBe_273 (by decide) (fun c83 => ?_) (fun c83 => ?_)
                                                    · refine lv_iconst (v := 3) hx hb d_M_shapeCanBe_280 (by decide) ?_
                                                      refine lv_icmp_gt (tgt := 288) hx hb d_M_shapeCanBe_281 (by decide) (fun c84 => ?_) (fun c84 => ?_)
                                                      · refine lv_iconst (v := 0) hx hb d_M_shapeCanBe_288 (by decide) ?_
                                                        exact W.zret (v := (0 : Int32)) hx hb hr rfl (fun t ht hW => ⟨⟨(0 : Int32), (), rfl, ⟨false, rfl⟩, ⟨by show va_P D classes _ t.heap; rw [ht]; exact hP, hD⟩⟩, hS.F ht⟩) hS.2.2 d_M_shapeCanBe_289
                                                      · refine lv_iconst (v := 1) hx hb d_M_shapeCanBe_284 (by decide) ?_
                                                        refine lv_goto (tgt := 289) hx hb d_M_shapeCanBe_285 (by decide) ?_
                                                        exact W.zret (v := (1 : Int32)) hx hb hr rfl (fun t ht hW => ⟨⟨(1 : Int32), (), rfl, ⟨true, rfl⟩, ⟨by show va_P D classes _ t.heap; rw [ht]; exact hP, hD⟩⟩, hS.F ht⟩) hS.2.2 d_M_shapeCanBe_289
                                                    · refine lv_iconst (v := 5) hx hb d_M_shapeCanBe_276 (by decide) ?_
                                                      refine lv_goto (tgt := 281) hx hb d_M_shapeCanBe_277 (by decide) ?_
                                                      refine lv_icmp_gt (tgt := 288) hx hb d_M_shapeCanBe_281 (by decide) (fun c85 => ?_) (fun c85 => ?_)
                                                      · refine lv_iconst (v := 0) hx hb d_M_shapeCanBe_288 (by decide) ?_
                                                        exact W.zret (v := (0 : Int32)) hx hb hr rfl (fun t ht hW => ⟨⟨(0 : Int32), (), rfl, ⟨false, rfl⟩, ⟨by show va_P D classes _ t.heap; rw [ht]; exact hP, hD⟩⟩, hS.F ht⟩) hS.2.2 d_M_shapeCanBe_289
                                                      · refine lv_iconst (v := 1) hx hb d_M_shapeCanBe_284 (by decide) ?_
                                                        refine lv_goto (tgt := 289) hx hb d_M_shapeCanBe_285 (by decide) ?_
                                                        exact W.zret (v := (1 : Int32)) hx hb hr rfl (fun t ht hW => ⟨⟨(1 : Int32), (), rfl, ⟨true, rfl⟩, ⟨by show va_P D classes _ t.heap; rw [ht]; exact hP, hD⟩⟩, hS.F ht⟩) hS.2.2 d_M_shapeCanBe_289
                                                  · by_cases c86 : x0_9 = (23 : Int32)
                                                    · refine lv_tableIn (off := 233) (tgt := 263) hx hb d_M_shapeCanBe_30 (by rw [c86]; decide) (by rw [c86]; decide) (by rw [c86]; rfl) (by decide) ?_
                                                      refine lv_aload_n hx hb d_M_shapeCanBe_263 rfl (lv_at hl 0 rfl) ?_
                                                      refine va_get (D := D) (ci := 1) (v := .int x0_10) (C := "SignMachine$Machine") (T := F_M) (N := 14) hx hb hk fi_M hown hK.1 hP 0 rfl rfl 10 (by decide) (hk _ k_177) (fun _ h9 => h9) rfl d_M_shapeCanBe_264 ?_
                                                      refine lv_aload_n hx hb d_M_shapeCanBe_267 rfl (lv_at hl 0 rfl) ?_
                                                      refine va_get (D := D) (ci := 1) (v := .int x0_9) (C := "SignMachine$Machine") (T := F_M) (N := 14) hx hb hk fi_M hown hK.1 hP 0 rfl rfl 9 (by decide) (hk _ k_176) (fun _ h9 => h9) rfl d_M_shapeCanBe_268 ?_
                                                      refine lv_bipush (v := 47) hx hb d_M_shapeCanBe_271 (by decide) ?_
                                                      refine lv_icmp_gt (tgt := 280) hx hb d_M_shapeCanBe_273 (by decide) (fun c87 => ?_) (fun c87 => ?_)
                                                      · refine lv_iconst (v := 3) hx hb d_M_shapeCanBe_280 (by decide) ?_
                                                        refine lv_icmp_gt (tgt := 288) hx hb d_M_shapeCanBe_281 (by decide) (fun c88 => ?_) (fun c88 => ?_)
                                                        · refine lv_iconst (v := 0) hx hb d_M_shapeCanBe_288 (by decide) ?_
                                                          exact W.zret (v := (0 : Int32)) hx hb hr rfl (fun t ht hW => ⟨⟨(0 : Int32), (), rfl, ⟨false, rfl⟩, ⟨by show va_P D classes _ t.heap; rw [ht]; exact hP, hD⟩⟩, hS.F ht⟩) hS.2.2 d_M_shapeCanBe_289
                                                        · refine lv_iconst (v := 1) hx hb d_M_shapeCanBe_284 (by decide) ?_
                                                          refine lv_goto (tgt := 289) hx hb d_M_shapeCanBe_285 (by decide) ?_
                                                          exact W.zret (v := (1 : Int32)) hx hb hr rfl (fun t ht hW => ⟨⟨(1 : Int32), (), rfl, ⟨true, rfl⟩, ⟨by show va_P D classes _ t.heap; rw [ht]; exact hP, hD⟩⟩, hS.F ht⟩) hS.2.2 d_M_shapeCanBe_289
                                                      · refine lv_iconst (v := 5) hx hb d_M_shapeCanBe_276 (by decide) ?_
                                                        refine lv_goto (tgt := 281) hx hb d_M_shapeCanBe_277 (by decide) ?_
                                                        refine lv_icmp_gt (tgt := 288) hx hb d_M_shapeCanBe_281 (by decide) (fun c89 => ?_) (fun c89 => ?_)
                                                        · refine lv_iconst (v := 0) hx hb d_M_shapeCanBe_288 (by decide) ?_
                                                          exact W.zret (v := (0 : Int32)) hx hb hr rfl (fun t ht hW => ⟨⟨(0 : Int32), (), rfl, ⟨false, rfl⟩, ⟨by show va_P D classes _ t.heap; rw [ht]; exact hP, hD⟩⟩, hS.F ht⟩) hS.2.2 d_M_shapeCanBe_289
                                                        · refine lv_iconst (v := 1) hx hb d_M_shapeCanBe_284 (by decide) ?_
                                                          refine lv_goto (tgt := 289) hx hb d_M_shapeCanBe_285 (by decide) ?_
                                                          exact W.zret (v := (1 : Int32)) hx hb hr rfl (fun t ht hW => ⟨⟨(1 : Int32), (), rfl, ⟨true, rfl⟩, ⟨by show va_P D classes _ t.heap; rw [ht]; exact hP, hD⟩⟩, hS.F ht⟩) hS.2.2 d_M_shapeCanBe_289
                                                    · by_cases c90 : x0_9 = (24 : Int32)
                                                      · refine lv_tableIn (off := 233) (tgt := 263) hx hb d_M_shapeCanBe_30 (by rw [c90]; decide) (by rw [c90]; decide) (by rw [c90]; rfl) (by decide) ?_
                                                        refine lv_aload_n hx hb d_M_shapeCanBe_263 rfl (lv_at hl 0 rfl) ?_
                                                        refine va_get (D := D) (ci := 1) (v := .int x0_10) (C := "SignMachine$Machine") (T := F_M) (N := 14) hx hb hk fi_M hown hK.1 hP 0 rfl rfl 10 (by decide) (hk _ k_177) (fun _ h9 => h9) rfl d_M_shapeCanBe_264 ?_
                                                        refine lv_aload_n hx hb d_M_shapeCanBe_267 rfl (lv_at hl 0 rfl) ?_
                                                        refine va_get (D := D) (ci := 1) (v := .int x0_9) (C := "SignMachine$Machine") (T := F_M) (N := 14) hx hb hk fi_M hown hK.1 hP 0 rfl rfl 9 (by decide) (hk _ k_176) (fun _ h9 => h9) rfl d_M_shapeCanBe_268 ?_
                                                        refine lv_bipush (v := 47) hx hb d_M_shapeCanBe_271 (by decide) ?_
                                                        refine lv_icmp_gt (tgt := 280) hx hb d_M_shapeCanBe_273 (by decide) (fun c91 => ?_) (fun c91 => ?_)
                                                        · refine lv_iconst (v := 3) hx hb d_M_shapeCanBe_280 (by decide) ?_
                                                          refine lv_icmp_gt (tgt := 288) hx hb d_M_shapeCanBe_281 (by decide) (fun c92 => ?_) (fun c92 => ?_)
                                                          · refine lv_iconst (v := 0) hx hb d_M_shapeCanBe_288 (by decide) ?_
                                                            exact W.zret (v := (0 : Int32)) hx hb hr rfl (fun t ht hW => ⟨⟨(0 : Int32), (), rfl, ⟨false, rfl⟩, ⟨by show va_P D classes _ t.heap; rw [ht]; exact hP, hD⟩⟩, hS.F ht⟩) hS.2.2 d_M_shapeCanBe_289
                                                          · refine lv_iconst (v := 1) hx hb d_M_shapeCanBe_284 (by decide) ?_
                                                            refine lv_goto (tgt := 289) hx hb d_M_shapeCanBe_285 (by decide) ?_
                                                            exact W.zret (v := (1 : Int32)) hx hb hr rfl (fun t ht hW => ⟨⟨(1 : Int32), (), rfl, ⟨true, rfl⟩, ⟨by show va_P D classes _ t.heap; rw [ht]; exact hP, hD⟩⟩, hS.F ht⟩) hS.2.2 d_M_shapeCanBe_289
                                                        · refine lv_iconst (v := 5) hx hb d_M_shapeCanBe_276 (by decide) ?_
                                                          refine lv_goto (tgt := 281) hx hb d_M_shapeCanBe_277 (by decide) ?_
                                                          refine lv_icmp_gt (tgt := 288) hx hb d_M_shapeCanBe_281 (by decide) (fun c93 => ?_) (fun c93 => ?_)
                                                          · refine lv_iconst (v := 0) hx hb d_M_shapeCanBe_288 (by decide) ?_
                                                            exact W.zret (v := (0 : Int32)) hx hb hr rfl (fun t ht hW => ⟨⟨(0 : Int32), (), rfl, ⟨false, rfl⟩, ⟨by show va_P D classes _ t.heap; rw [ht]; exact hP, hD⟩⟩, hS.F ht⟩) hS.2.2 d_M_shapeCanBe_289
                                                          · refine lv_iconst (v := 1) hx hb d_M_shapeCanBe_284 (by decide) ?_
                                                            refine lv_goto (tgt := 289) hx hb d_M_shapeCanBe_285 (by decide) ?_
                                                            exact W.zret (v := (1 : Int32)) hx hb hr rfl (fun t ht hW => ⟨⟨(1 : Int32), (), rfl, ⟨true, rfl⟩, ⟨by show va_P D classes _ t.heap; rw [ht]; exact hP, hD⟩⟩, hS.F ht⟩) hS.2.2 d_M_shapeCanBe_289
                                                      · by_cases c94 : x0_9 = (25 : Int32)
                                                        · refine lv_tableIn (off := 233) (tgt := 263) hx hb d_M_shapeCanBe_30 (by rw [c94]; decide) (by rw [c94]; decide) (by rw [c94]; rfl) (by decide) ?_
                                                          refine lv_aload_n hx hb d_M_shapeCanBe_263 rfl (lv_at hl 0 rfl) ?_
                                                          refine va_get (D := D) (ci := 1) (v := .int x0_10) (C := "SignMachine$Machine") (T := F_M) (N := 14) hx hb hk fi_M hown hK.1 hP 0 rfl rfl 10 (by decide) (hk _ k_177) (fun _ h9 => h9) rfl d_M_shapeCanBe_264 ?_
                                                          refine lv_aload_n hx hb d_M_shapeCanBe_267 rfl (lv_at hl 0 rfl) ?_
                                                          refine va_get (D := D) (ci := 1) (v := .int x0_9) (C := "SignMachine$Machine") (T := F_M) (N := 14) hx hb hk fi_M hown hK.1 hP 0 rfl rfl 9 (by decide) (hk _ k_176) (fun _ h9 => h9) rfl d_M_shapeCanBe_268 ?_
                                                          refine lv_bipush (v := 47) hx hb d_M_shapeCanBe_271 (by decide) ?_
                                                          refine lv_icmp_gt (tgt := 280) hx hb d_M_shapeCanBe_273 (by decide) (fun c95 => ?_) (fun c95 => ?_)
                                                          · refine lv_iconst (v := 3) hx hb d_M_shapeCanBe_280 (by decide) ?_
                                                            refine lv_icmp_gt (tgt := 288) hx hb d_M_shapeCanBe_281 (by decide) (fun c96 => ?_) (fun c96 => ?_)
                                                            · refine lv_iconst (v := 0) hx hb d_M_shapeCanBe_288 (by decide) ?_
                                                              exact W.zret (v := (0 : Int32)) hx hb hr rfl (fun t ht hW => ⟨⟨(0 : Int32), (), rfl, ⟨false, rfl⟩, ⟨by show va_P D classes _ t.heap; rw [ht]; exact hP, hD⟩⟩, hS.F ht⟩) hS.2.2 d_M_shapeCanBe_289
                                                            · refine lv_iconst (v := 1) hx hb d_M_shapeCanBe_284 (by decide) ?_
                                                              refine lv_goto (tgt := 289) hx hb d_M_shapeCanBe_285 (by decide) ?_
                                                              exact W.zret (v := (1 : Int32)) hx hb hr rfl (fun t ht hW => ⟨⟨(1 : Int32), (), rfl, ⟨true, rfl⟩, ⟨by show va_P D classes _ t.heap; rw [ht]; exact hP, hD⟩⟩, hS.F ht⟩) hS.2.2 d_M_shapeCanBe_289
                                                          · refine lv_iconst (v := 5) hx hb d_M_shapeCanBe_276 (by decide) ?_
                                                            refine lv_goto (tgt := 281) hx hb d_M_shapeCanBe_277 (by decide) ?_
                                                            refine lv_icmp_gt (tgt := 288) hx hb d_M_shapeCanBe_281 (by decide) (fun c97 => ?_) (fun c97 => ?_)
                                                            · refine lv_iconst (v := 0) hx hb d_M_shapeCanBe_288 (by decide) ?_
                                                              exact W.zret (v := (0 : Int32)) hx hb hr rfl (fun t ht hW => ⟨⟨(0 : Int32), (), rfl, ⟨false, rfl⟩, ⟨by show va_P D classes _ t.heap; rw [ht]; exact hP, hD⟩⟩, hS.F ht⟩) hS.2.2 d_M_shapeCanBe_289
                                                            · refine lv_iconst (v := 1) hx hb d_M_shapeCanBe_284 (by decide) ?_
                                                              refine lv_goto (tgt := 289) hx hb d_M_shapeCanBe_285 (by decide) ?_
                                                              exact W.zret (v := (1 : Int32)) hx hb hr rfl (fun t ht hW => ⟨⟨(1 : Int32), (), rfl, ⟨true, rfl⟩, ⟨by show va_P D classes _ t.heap; rw [ht]; exact hP, hD⟩⟩, hS.F ht⟩) hS.2.2 d_M_shapeCanBe_289
                                                        · by_cases c98 : x0_9 = (26 : Int32)
                                                          · refine lv_tableIn (off := 233) (tgt := 263) hx hb d_M_shapeCanBe_30 (by rw [c98]; decide) (by rw [c98]; decide) (by rw [c98]; rfl) (by decide) ?_
                                                            refine lv_aload_n hx hb d_M_shapeCanBe_263 rfl (lv_at hl 0 rfl) ?_
                                                            refine va_get (D := D) (ci := 1) (v := .int x0_10) (C := "SignMachine$Machine") (T := F_M) (N := 14) hx hb hk fi_M hown hK.1 hP 0 rfl rfl 10 (by decide) (hk _ k_177) (fun _ h9 => h9) rfl d_M_shapeCanBe_264 ?_
                                                            refine lv_aload_n hx hb d_M_shapeCanBe_267 rfl (lv_at hl 0 rfl) ?_
                                                            refine va_get (D := D) (ci := 1) (v := .int x0_9) (C := "SignMachine$Machine") (T := F_M) (N := 14) hx hb hk fi_M hown hK.1 hP 0 rfl rfl 9 (by decide) (hk _ k_176) (fun _ h9 => h9) rfl d_M_shapeCanBe_268 ?_
                                                            refine lv_bipush (v := 47) hx hb d_M_shapeCanBe_271 (by decide) ?_
                                                            refine lv_icmp_gt (tgt := 280) hx hb d_M_shapeCanBe_273 (by decide) (fun c99 => ?_) (fun c99 => ?_)
                                                            · refine lv_iconst (v := 3) hx hb d_M_shapeCanBe_280 (by decide) ?_
                                                              refine lv_icmp_gt (tgt := 288) hx hb d_M_shapeCanBe_281 (by decide) (fun c100 => ?_) (fun c100 => ?_)
                                                              · refine lv_iconst (v := 0) hx hb d_M_shapeCanBe_288 (by decide) ?_
                                                                exact W.zret (v := (0 : Int32)) hx hb hr rfl (fun t ht hW => ⟨⟨(0 : Int32), (), rfl, ⟨false, rfl⟩, ⟨by show va_P D classes _ t.heap; rw [ht]; exact hP, hD⟩⟩, hS.F ht⟩) hS.2.2 d_M_shapeCanBe_289
                                                              · refine lv_iconst (v := 1) hx hb d_M_shapeCanBe_284 (by decide) ?_
                                                                refine lv_goto (tgt := 289) hx hb d_M_shapeCanBe_285 (by decide) ?_
                                                                exact W.zret (v := (1 : Int32)) hx hb hr rfl (fun t ht hW => ⟨⟨(1 : Int32), (), rfl, ⟨true, rfl⟩, ⟨by show va_P D classes _ t.heap; rw [ht]; exact hP, hD⟩⟩, hS.F ht⟩) hS.2.2 d_M_shapeCanBe_289
                                                            · refine lv_iconst (v := 5) hx hb d_M_shapeCanBe_276 (by decide) ?_
                                                              refine lv_goto (tgt := 281) hx hb d_M_shapeCanBe_277 (by decide) ?_
                                                              refine lv_icmp_gt (tgt := 288) hx hb d_M_shapeCanBe_281 (by decide) (fun c101 => ?_) (fun c101 => ?_)
                                                              · refine lv_iconst (v := 0) hx hb d_M_shapeCanBe_288 (by decide) ?_
                                                                exact W.zret (v := (0 : Int32)) hx hb hr rfl (fun t ht hW => ⟨⟨(0 : Int32), (), rfl, ⟨false, rfl⟩, ⟨by show va_P D classes _ t.heap; rw [ht]; exact hP, hD⟩⟩, hS.F ht⟩) hS.2.2 d_M_shapeCanBe_289
                                                              · refine lv_iconst (v := 1) hx hb d_M_shapeCanBe_284 (by decide) ?_
                                                                refine lv_goto (tgt := 289) hx hb d_M_shapeCanBe_285 (by decide) ?_
                                                                exact W.zret (v := (1 : Int32)) hx hb hr rfl (fun t ht hW => ⟨⟨(1 : Int32), (), rfl, ⟨true, rfl⟩, ⟨by show va_P D classes _ t.heap; rw [ht]; exact hP, hD⟩⟩, hS.F ht⟩) hS.2.2 d_M_shapeCanBe_289
                                                          · by_cases c102 : x0_9 = (27 : Int32)
                                                            · refine lv_tableIn (off := 233) (tgt := 263) hx hb d_M_shapeCanBe_30 (by rw [c102]; decide) (by rw [c102]; decide) (by rw [c102]; rfl) (by decide) ?_
                                                              refine lv_aload_n hx hb d_M_shapeCanBe_263 rfl (lv_at hl 0 rfl) ?_
                                                              refine va_get (D := D) (ci := 1) (v := .int x0_10) (C := "SignMachine$Machine") (T := F_M) (N := 14) hx hb hk fi_M hown hK.1 hP 0 rfl rfl 10 (by decide) (hk _ k_177) (fun _ h9 => h9) rfl d_M_shapeCanBe_264 ?_
                                                              refine lv_aload_n hx hb d_M_shapeCanBe_267 rfl (lv_at hl 0 rfl) ?_
                                                              refine va_get (D := D) (ci := 1) (v := .int x0_9) (C := "SignMachine$Machine") (T := F_M) (N := 14) hx hb hk fi_M hown hK.1 hP 0 rfl rfl 9 (by decide) (hk _ k_176) (fun _ h9 => h9) rfl d_M_shapeCanBe_268 ?_
                                                              refine lv_bipush (v := 47) hx hb d_M_shapeCanBe_271 (by decide) ?_
                                                              refine lv_icmp_gt (tgt := 280) hx hb d_M_shapeCanBe_273 (by decide) (fun c103 => ?_) (fun c103 => ?_)
                                                              · refine lv_iconst (v := 3) hx hb d_M_shapeCanBe_280 (by decide) ?_
                                                                refine lv_icmp_gt (tgt := 288) hx hb d_M_shapeCanBe_281 (by decide) (fun c104 => ?_) (fun c104 => ?_)
                                                                · refine lv_iconst (v := 0) hx hb d_M_shapeCanBe_288 (by decide) ?_
                                                                  exact W.zret (v := (0 : Int32)) hx hb hr rfl (fun t ht hW => ⟨⟨(0 : Int32), (), rfl, ⟨false, rfl⟩, ⟨by show va_P D classes _ t.heap; rw [ht]; exact hP, hD⟩⟩, hS.F ht⟩) hS.2.2 d_M_shapeCanBe_289
                                                                · refine lv_iconst (v := 1) hx hb d_M_shapeCanBe_284 (by decide) ?_
                                                                  refine lv_goto (tgt := 289) hx hb d_M_shapeCanBe_285 (by decide) ?_
                                                                  exact W.zret (v := (1 : Int32)) hx hb hr rfl (fun t ht hW => ⟨⟨(1 : Int32), (), rfl, ⟨true, rfl⟩, ⟨by show va_P D classes _ t.heap; rw [ht]; exact hP, hD⟩⟩, hS.F ht⟩) hS.2.2 d_M_shapeCanBe_289
                                                              · refine lv_iconst (v := 5) hx hb d_M_shapeCanBe_276 (by decide) ?_
                                                                refine lv_goto (tgt := 281) hx hb d_M_shapeCanBe_277 (by decide) ?_
                                                                refine lv_icmp_gt (tgt := 288) hx hb d_M_shapeCanBe_281 (by decide) (fun c105 => ?_) (fun c105 => ?_)
                                                                · refine lv_iconst (v := 0) hx hb d_M_shapeCanBe_288 (by decide) ?_
                                                                  exact W.zret (v := (0 : Int32)) hx hb hr rfl (fun t ht hW => ⟨⟨(0 : Int32), (), rfl, ⟨false, rfl⟩, ⟨by show va_P D classes _ t.heap; rw [ht]; exact hP, hD⟩⟩, hS.F ht⟩) hS.2.2 d_M_shapeCanBe_289
                                                                · refine lv_iconst (v := 1) hx hb d_M_shapeCanBe_284 (by decide) ?_
                                                                  refine lv_goto (tgt := 289) hx hb d_M_shapeCanBe_285 (by decide) ?_
                                                                  exact W.zret (v := (1 : Int32)) hx hb hr rfl (fun t ht hW => ⟨⟨(1 : Int32), (), rfl, ⟨true, rfl⟩, ⟨by show va_P D classes _ t.heap; rw [ht]; exact hP, hD⟩⟩, hS.F ht⟩) hS.2.2 d_M_shapeCanBe_289
                                                            · by_cases c106 : x0_9 = (28 : Int32)
                                                              · refine lv_tableIn (off := 233) (tgt := 263) hx hb d_M_shapeCanBe_30 (by rw [c106]; decide) (by rw [c106]; decide) (by rw [c106]; rfl) (by decide) ?_
                                                                refine lv_aload_n hx hb d_M_shapeCanBe_263 rfl (lv_at hl 0 rfl) ?_
                                                                refine va_get (D := D) (ci := 1) (v := .int x0_10) (C := "SignMachine$Machine") (T := F_M) (N := 14) hx hb hk fi_M hown hK.1 hP 0 rfl rfl 10 (by decide) (hk _ k_177) (fun _ h9 => h9) rfl d_M_shapeCanBe_264 ?_
                                                                refine lv_aload_n hx hb d_M_shapeCanBe_267 rfl (lv_at hl 0 rfl) ?_
                                                                refine va_get (D := D) (ci := 1) (v := .int x0_9) (C := "SignMachine$Machine") (T := F_M) (N := 14) hx hb hk fi_M hown hK.1 hP 0 rfl rfl 9 (by decide) (hk _ k_176) (fun _ h9 => h9) rfl d_M_shapeCanBe_268 ?_
                                                                refine lv_bipush (v := 47) hx hb d_M_shapeCanBe_271 (by decide) ?_
                                                                refine lv_icmp_gt (tgt := 280) hx hb d_M_shapeCanBe_273 (by decide) (fun c107 => ?_) (fun c107 => ?_)
                                                                · refine lv_iconst (v := 3) hx hb d_M_shapeCanBe_280 (by decide) ?_
                                                                  refine lv_icmp_gt (tgt := 288) hx hb d_M_shapeCanBe_281 (by decide) (fun c108 => ?_) (fun c108 => ?_)
                                                                  · refine lv_iconst (v := 0) hx hb d_M_shapeCanBe_288 (by decide) ?_
                                                                    exact W.zret (v := (0 : Int32)) hx hb hr rfl (fun t ht hW => ⟨⟨(0 : Int32), (), rfl, ⟨false, rfl⟩, ⟨by show va_P D classes _ t.heap; rw [ht]; exact hP, hD⟩⟩, hS.F ht⟩) hS.2.2 d_M_shapeCanBe_289
                                                                  · refine lv_iconst (v := 1) hx hb d_M_shapeCanBe_284 (by decide) ?_
                                                                    refine lv_goto (tgt := 289) hx hb d_M_shapeCanBe_285 (by decide) ?_
                                                                    exact W.zret (v := (1 : Int32)) hx hb hr rfl (fun t ht hW => ⟨⟨(1 : Int32), (), rfl, ⟨true, rfl⟩, ⟨by show va_P D classes _ t.heap; rw [ht]; exact hP, hD⟩⟩, hS.F ht⟩) hS.2.2 d_M_shapeCanBe_289
                                                                · refine lv_iconst (v := 5) hx hb d_M_shapeCanBe_276 (by decide) ?_
                                                                  refine lv_goto (tgt := 281) hx hb d_M_shapeCanBe_277 (by decide) ?_
                                                                  refine lv_icmp_gt (tgt := 288) hx hb d_M_shapeCanBe_281 (by decide) (fun c109 => ?_) (fun c109 => ?_)
                                                                  · refine lv_iconst (v := 0) hx hb d_M_shapeCanBe_288 (by decide) ?_
                                                                    exact W.zret (v := (0 : Int32)) hx hb hr rfl (fun t ht hW => ⟨⟨(0 : Int32), (), rfl, ⟨false, rfl⟩, ⟨by show va_P D classes _ t.heap; rw [ht]; exact hP, hD⟩⟩, hS.F ht⟩) hS.2.2 d_M_shapeCanBe_289
                                                                  · refine lv_iconst (v := 1) hx hb d_M_shapeCanBe_284 (by decide) ?_
                                                                    refine lv_goto (tgt := 289) hx hb d_M_shapeCanBe_285 (by decide) ?_
                                                                    exact W.zret (v := (1 : Int32)) hx hb hr rfl (fun t ht hW => ⟨⟨(1 : Int32), (), rfl, ⟨true, rfl⟩, ⟨by show va_P D classes _ t.heap; rw [ht]; exact hP, hD⟩⟩, hS.F ht⟩) hS.2.2 d_M_shapeCanBe_289
                                                              · by_cases c110 : x0_9 = (29 : Int32)
                                                                · refine lv_tableIn (off := 233) (tgt := 263) hx hb d_M_shapeCanBe_30 (by rw [c110]; decide) (by rw [c110]; decide) (by rw [c110]; rfl) (by decide) ?_
                                                                  refine lv_aload_n hx hb d_M_shapeCanBe_263 rfl (lv_at hl 0 rfl) ?_
                                                                  refine va_get (D := D) (ci := 1) (v := .int x0_10) (C := "SignMachine$Machine") (T := F_M) (N := 14) hx hb hk fi_M hown hK.1 hP 0 rfl rfl 10 (by decide) (hk _ k_177) (fun _ h9 => h9) rfl d_M_shapeCanBe_264 ?_
                                                                  refine lv_aload_n hx hb d_M_shapeCanBe_267 rfl (lv_at hl 0 rfl) ?_
                                                                  refine va_get (D := D) (ci := 1) (v := .int x0_9) (C := "SignMachine$Machine") (T := F_M) (N := 14) hx hb hk fi_M hown hK.1 hP 0 rfl rfl 9 (by decide) (hk _ k_176) (fun _ h9 => h9) rfl d_M_shapeCanBe_268 ?_
                                                                  refine lv_bipush (v := 47) hx hb d_M_shapeCanBe_271 (by decide) ?_
                                                                  refine lv_icmp_gt (tgt := 280) hx hb d_M_shapeCanBe_273 (by decide) (fun c111 => ?_) (fun c111 => ?_)
                                                                  · refine lv_iconst (v := 3) hx hb d_M_shapeCanBe_280 (by decide) ?_
                                                                    refine lv_icmp_gt (tgt := 288) hx hb d_M_shapeCanBe_281 (by decide) (fun c112 => ?_) (fun c112 => ?_)
                                                                    · refine lv_iconst (v := 0) hx hb d_M_shapeCanBe_288 (by decide) ?_
                                                                      exact W.zret (v := (0 : Int32)) hx hb hr rfl (fun t ht hW => ⟨⟨(0 : Int32), (), rfl, ⟨false, rfl⟩, ⟨by show va_P D classes _ t.heap; rw [ht]; exact hP, hD⟩⟩, hS.F ht⟩) hS.2.2 d_M_shapeCanBe_289
                                                                    · refine lv_iconst (v := 1) hx hb d_M_shapeCanBe_284 (by decide) ?_
                                                                      refine lv_goto (tgt := 289) hx hb d_M_shapeCanBe_285 (by decide) ?_
                                                                      exact W.zret (v := (1 : Int32)) hx hb hr rfl (fun t ht hW => ⟨⟨(1 : Int32), (), rfl, ⟨true, rfl⟩, ⟨by show va_P D classes _ t.heap; rw [ht]; exact hP, hD⟩⟩, hS.F ht⟩) hS.2.2 d_M_shapeCanBe_289
                                                                  · refine lv_iconst (v := 5) hx hb d_M_shapeCanBe_276 (by decide) ?_
                                                                    refine lv_goto (tgt := 281) hx hb d_M_shapeCanBe_277 (by decide) ?_
                                                                    refine lv_icmp_gt (tgt := 288) hx hb d_M_shapeCanBe_281 (by decide) (fun c113 => ?_) (fun c113 => ?_)
                                                                    · refine lv_iconst (v := 0) hx hb d_M_shapeCanBe_288 (by decide) ?_
                                                                      exact W.zret (v := (0 : Int32)) hx hb hr rfl (fun t ht hW => ⟨⟨(0 : Int32), (), rfl, ⟨false, rfl⟩, ⟨by show va_P D classes _ t.heap; rw [ht]; exact hP, hD⟩⟩, hS.F ht⟩) hS.2.2 d_M_shapeCanBe_289
                                                                    · refine lv_iconst (v := 1) hx hb d_M_shapeCanBe_284 (by decide) ?_
                                                                      refine lv_goto (tgt := 289) hx hb d_M_shapeCanBe_285 (by decide) ?_
                                                                      exact W.zret (v := (1 : Int32)) hx hb hr rfl (fun t ht hW => ⟨⟨(1 : Int32), (), rfl, ⟨true, rfl⟩, ⟨by show va_P D classes _ t.heap; rw [ht]; exact hP, hD⟩⟩, hS.F ht⟩) hS.2.2 d_M_shapeCanBe_289
                                                                · by_cases c114 : x0_9 = (30 : Int32)
                                                                  · refine lv_tableIn (off := 233) (tgt := 263) hx hb d_M_shapeCanBe_30 (by rw [c114]; decide) (by rw [c114]; decide) (by rw [c114]; rfl) (by decide) ?_
                                                                    refine lv_aload_n hx hb d_M_shapeCanBe_263 rfl (lv_at hl 0 rfl) ?_
                                                                    refine va_get (D := D) (ci := 1) (v := .int x0_10) (C := "SignMachine$Machine") (T := F_M) (N := 14) hx hb hk fi_M hown hK.1 hP 0 rfl rfl 10 (by decide) (hk _ k_177) (fun _ h9 => h9) rfl d_M_shapeCanBe_264 ?_
                                                                    refine lv_aload_n hx hb d_M_shapeCanBe_267 rfl (lv_at hl 0 rfl) ?_
                                                                    refine va_get (D := D) (ci := 1) (v := .int x0_9) (C := "SignMachine$Machine") (T := F_M) (N := 14) hx hb hk fi_M hown hK.1 hP 0 rfl rfl 9 (by decide) (hk _ k_176) (fun _ h9 => h9) rfl d_M_shapeCanBe_268 ?_
                                                                    refine lv_bipush (v := 47) hx hb d_M_shapeCanBe_271 (by decide) ?_
                                                                    refine lv_icmp_gt (tgt := 280) hx hb d_M_shapeCanBe_273 (by decide) (fun c115 => ?_) (fun c115 => ?_)
                                                                    · refine lv_iconst (v := 3) hx hb d_M_shapeCanBe_280 (by decide) ?_
                                                                      refine lv_icmp_gt (tgt := 288) hx hb d_M_shapeCanBe_281 (by decide) (fun c116 => ?_) (fun c116 => ?_)
                                                                      · refine lv_iconst (v := 0) hx hb d_M_shapeCanBe_288 (by decide) ?_
                                                                        exact W.zret (v := (0 : Int32)) hx hb hr rfl (fun t ht hW => ⟨⟨(0 : Int32), (), rfl, ⟨false, rfl⟩, ⟨by show va_P D classes _ t.heap; rw [ht]; exact hP, hD⟩⟩, hS.F ht⟩) hS.2.2 d_M_shapeCanBe_289
                                                                      · refine lv_iconst (v := 1) hx hb d_M_shapeCanBe_284 (by decide) ?_
                                                                        refine lv_goto (tgt := 289) hx hb d_M_shapeCanBe_285 (by decide) ?_
                                                                        exact W.zret (v := (1 : Int32)) hx hb hr rfl (fun t ht hW => ⟨⟨(1 : Int32), (), rfl, ⟨true, rfl⟩, ⟨by show va_P D classes _ t.heap; rw [ht]; exact hP, hD⟩⟩, hS.F ht⟩) hS.2.2 d_M_shapeCanBe_289
                                                                    · refine lv_iconst (v := 5) hx hb d_M_shapeCanBe_276 (by decide) ?_
                                                                      refine lv_goto (tgt := 281) hx hb d_M_shapeCanBe_277 (by decide) ?_
                                                                      refine lv_icmp_gt (tgt := 288) hx hb d_M_shapeCanBe_281 (by decide) (fun c117 => ?_) (fun c117 => ?_)
                                                                      · refine lv_iconst (v := 0) hx hb d_M_shapeCanBe_288 (by decide) ?_
                                                                        exact W.zret (v := (0 : Int32)) hx hb hr rfl (fun t ht hW => ⟨⟨(0 : Int32), (), rfl, ⟨false, rfl⟩, ⟨by show va_P D classes _ t.heap; rw [ht]; exact hP, hD⟩⟩, hS.F ht⟩) hS.2.2 d_M_shapeCanBe_289
                                                                      · refine lv_iconst (v := 1) hx hb d_M_shapeCanBe_284 (by decide) ?_
                                                                        refine lv_goto (tgt := 289) hx hb d_M_shapeCanBe_285 (by decide) ?_
                                                                        exact W.zret (v := (1 : Int32)) hx hb hr rfl (fun t ht hW => ⟨⟨(1 : Int32), (), rfl, ⟨true, rfl⟩, ⟨by show va_P D classes _ t.heap; rw [ht]; exact hP, hD⟩⟩, hS.F ht⟩) hS.2.2 d_M_shapeCanBe_289
                                                                  · by_cases c118 : x0_9 = (31 : Int32)
                                                                    · refine lv_tableIn (off := 233) (tgt := 263) hx hb d_M_shapeCanBe_30 (by rw [c118]; decide) (by rw [c118]; decide) (by rw [c118]; rfl) (by decide) ?_
                                                                      refine lv_aload_n hx hb d_M_shapeCanBe_263 rfl (lv_at hl 0 rfl) ?_
                                                                      refine va_get (D := D) (ci := 1) (v := .int x0_10) (C := "SignMachine$Machine") (T := F_M) (N := 14) hx hb hk fi_M hown hK.1 hP 0 rfl rfl 10 (by decide) (hk _ k_177) (fun _ h9 => h9) rfl d_M_shapeCanBe_264 ?_
                                                                      refine lv_aload_n hx hb d_M_shapeCanBe_267 rfl (lv_at hl 0 rfl) ?_
                                                                      refine va_get (D := D) (ci := 1) (v := .int x0_9) (C := "SignMachine$Machine") (T := F_M) (N := 14) hx hb hk fi_M hown hK.1 hP 0 rfl rfl 9 (by decide) (hk _ k_176) (fun _ h9 => h9) rfl d_M_shapeCanBe_268 ?_
                                                                      refine lv_bipush (v := 47) hx hb d_M_shapeCanBe_271 (by decide) ?_
                                                                      refine lv_icmp_gt (tgt := 280) hx hb d_M_shapeCanBe_273 (by decide) (fun c119 => ?_) (fun c119 => ?_)
                                                                      · refine lv_iconst (v := 3) hx hb d_M_shapeCanBe_280 (by decide) ?_
                                                                        refine lv_icmp_gt (tgt := 288) hx hb d_M_shapeCanBe_281 (by decide) (fun c120 => ?_) (fun c120 => ?_)
                                                                        · refine lv_iconst (v := 0) hx hb d_M_shapeCanBe_288 (by decide) ?_
                                                                          exact W.zret (v := (0 : Int32)) hx hb hr rfl (fun t ht hW => ⟨⟨(0 : Int32), (), rfl, ⟨false, rfl⟩, ⟨by show va_P D classes _ t.heap; rw [ht]; exact hP, hD⟩⟩, hS.F ht⟩) hS.2.2 d_M_shapeCanBe_289
                                                                        · refine lv_iconst (v := 1) hx hb d_M_shapeCanBe_284 (by decide) ?_
                                                                          refine lv_goto (tgt := 289) hx hb d_M_shapeCanBe_285 (by decide) ?_
                                                                          exact W.zret (v := (1 : Int32)) hx hb hr rfl (fun t ht hW => ⟨⟨(1 : Int32), (), rfl, ⟨true, rfl⟩, ⟨by show va_P D classes _ t.heap; rw [ht]; exact hP, hD⟩⟩, hS.F ht⟩) hS.2.2 d_M_shapeCanBe_289
                                                                      · refine lv_iconst (v := 5) hx hb d_M_shapeCanBe_276 (by decide) ?_
                                                                        refine lv_goto (tgt := 281) hx hb d_M_shapeCanBe_277 (by decide) ?_
                                                                        refine lv_icmp_gt (tgt := 288) hx hb d_M_shapeCanBe_281 (by decide) (fun c121 => ?_) (fun c121 => ?_)
                                                                        · refine lv_iconst (v := 0) hx hb d_M_shapeCanBe_288 (by decide) ?_
                                                                          exact W.zret (v := (0 : Int32)) hx hb hr rfl (fun t ht hW => ⟨⟨(0 : Int32), (), rfl, ⟨false, rfl⟩, ⟨by show va_P D classes _ t.heap; rw [ht]; exact hP, hD⟩⟩, hS.F ht⟩) hS.2.2 d_M_shapeCanBe_289
                                                                        · refine lv_iconst (v := 1) hx hb d_M_shapeCanBe_284 (by decide) ?_
                                                                          refine lv_goto (tgt := 289) hx hb d_M_shapeCanBe_285 (by decide) ?_
                                                                          exact W.zret (v := (1 : Int32)) hx hb hr rfl (fun t ht hW => ⟨⟨(1 : Int32), (), rfl, ⟨true, rfl⟩, ⟨by show va_P D classes _ t.heap; rw [ht]; exact hP, hD⟩⟩, hS.F ht⟩) hS.2.2 d_M_shapeCanBe_289
                                                                    · by_cases c122 : x0_9 = (32 : Int32)
                                                                      · refine lv_tableIn (off := 233) (tgt := 263) hx hb d_M_shapeCanBe_30 (by rw [c122]; decide) (by rw [c122]; decide) (by rw [c122]; rfl) (by decide) ?_
                                                                        refine lv_aload_n hx hb d_M_shapeCanBe_263 rfl (lv_at hl 0 rfl) ?_
                                                                        refine va_get (D := D) (ci := 1) (v := .int x0_10) (C := "SignMachine$Machine") (T := F_M) (N := 14) hx hb hk fi_M hown hK.1 hP 0 rfl rfl 10 (by decide) (hk _ k_177) (fun _ h9 => h9) rfl d_M_shapeCanBe_264 ?_
                                                                        refine lv_aload_n hx hb d_M_shapeCanBe_267 rfl (lv_at hl 0 rfl) ?_
                                                                        refine va_get (D := D) (ci := 1) (v := .int x0_9) (C := "SignMachine$Machine") (T := F_M) (N := 14) hx hb hk fi_M hown hK.1 hP 0 rfl rfl 9 (by decide) (hk _ k_176) (fun _ h9 => h9) rfl d_M_shapeCanBe_268 ?_
                                                                        refine lv_bipush (v := 47) hx hb d_M_shapeCanBe_271 (by decide) ?_
                                                                        refine lv_icmp_gt (tgt := 280) hx hb d_M_shapeCanBe_273 (by decide) (fun c123 => ?_) (fun c123 => ?_)
                                                                        · refine lv_iconst (v := 3) hx hb d_M_shapeCanBe_280 (by decide) ?_
                                                                          refine lv_icmp_gt (tgt := 288) hx hb d_M_shapeCanBe_281 (by decide) (fun c124 => ?_) (fun c124 => ?_)
                                                                          · refine lv_iconst (v := 0) hx hb d_M_shapeCanBe_288 (by decide) ?_
                                                                            exact W.zret (v := (0 : Int32)) hx hb hr rfl (fun t ht hW => ⟨⟨(0 : Int32), (), rfl, ⟨false, rfl⟩, ⟨by show va_P D classes _ t.heap; rw [ht]; exact hP, hD⟩⟩, hS.F ht⟩) hS.2.2 d_M_shapeCanBe_289
                                                                          · refine lv_iconst (v := 1) hx hb d_M_shapeCanBe_284 (by decide) ?_
                                                                            refine lv_goto (tgt := 289) hx hb d_M_shapeCanBe_285 (by decide) ?_
                                                                            exact W.zret (v := (1 : Int32)) hx hb hr rfl (fun t ht hW => ⟨⟨(1 : Int32), (), rfl, ⟨true, rfl⟩, ⟨by show va_P D classes _ t.heap; rw [ht]; exact hP, hD⟩⟩, hS.F ht⟩) hS.2.2 d_M_shapeCanBe_289
                                                                        · refine lv_iconst (v := 5) hx hb d_M_shapeCanBe_276 (by decide) ?_
                                                                          refine lv_goto (tgt := 281) hx hb d_M_shapeCanBe_277 (by decide) ?_
                                                                          refine lv_icmp_gt (tgt := 288) hx hb d_M_shapeCanBe_281 (by decide) (fun c125 => ?_) (fun c125 => ?_)
                                                                          · refine lv_iconst (v := 0) hx hb d_M_shapeCanBe_288 (by decide) ?_
                                                                            exact W.zret (v := (0 : Int32)) hx hb hr rfl (fun t ht hW => ⟨⟨(0 : Int32), (), rfl, ⟨false, rfl⟩, ⟨by show va_P D classes _ t.heap; rw [ht]; exact hP, hD⟩⟩, hS.F ht⟩) hS.2.2 d_M_shapeCanBe_289
                                                                          · refine lv_iconst (v := 1) hx hb d_M_shapeCanBe_284 (by decide) ?_
                                                                            refine lv_goto (tgt := 289) hx hb d_M_shapeCanBe_285 (by decide) ?_
                                                                            exact W.zret (v := (1 : Int32)) hx hb hr rfl (fun t ht hW => ⟨⟨(1 : Int32), (), rfl, ⟨true, rfl⟩, ⟨by show va_P D classes _ t.heap; rw [ht]; exact hP, hD⟩⟩, hS.F ht⟩) hS.2.2 d_M_shapeCanBe_289
                                                                      · by_cases c126 : x0_9 = (33 : Int32)
                                                                        · refine lv_tableIn (off := 233) (tgt := 263) hx hb d_M_shapeCanBe_30 (by rw [c126]; decide) (by rw [c126]; decide) (by rw [c126]; rfl) (by decide) ?_
                                                                          refine lv_aload_n hx hb d_M_shapeCanBe_263 rfl (lv_at hl 0 rfl) ?_
                                                                          refine va_get (D := D) (ci := 1) (v := .int x0_10) (C := "SignMachine$Machine") (T := F_M) (N := 14) hx hb hk fi_M hown hK.1 hP 0 rfl rfl 10 (by decide) (hk _ k_177) (fun _ h9 => h9) rfl d_M_shapeCanBe_264 ?_
                                                                          refine lv_aload_n hx hb d_M_shapeCanBe_267 rfl (lv_at hl 0 rfl) ?_
                                                                          refine va_get (D := D) (ci := 1) (v := .int x0_9) (C := "SignMachine$Machine") (T := F_M) (N := 14) hx hb hk fi_M hown hK.1 hP 0 rfl rfl 9 (by decide) (hk _ k_176) (fun _ h9 => h9) rfl d_M_shapeCanBe_268 ?_
                                                                          refine lv_bipush (v := 47) hx hb d_M_shapeCanBe_271 (by decide) ?_
                                                                          refine lv_icmp_gt (tgt := 280) hx hb d_M_shapeCanBe_273 (by decide) (fun c127 => ?_) (fun c127 => ?_)
                                                                          · refine lv_iconst (v := 3) hx hb d_M_shapeCanBe_280 (by decide) ?_
                                                                            refine lv_icmp_gt (tgt := 288) hx hb d_M_shapeCanBe_281 (by decide) (fun c128 => ?_) (fun c128 => ?_)
                                                                            · refine lv_iconst (v := 0) hx hb d_M_shapeCanBe_288 (by decide) ?_
                                                                              exact W.zret (v := (0 : Int32)) hx hb hr rfl (fun t ht hW => ⟨⟨(0 : Int32), (), rfl, ⟨false, rfl⟩, ⟨by show va_P D classes _ t.heap; rw [ht]; exact hP, hD⟩⟩, hS.F ht⟩) hS.2.2 d_M_shapeCanBe_289
                                                                            · refine lv_iconst (v := 1) hx hb d_M_shapeCanBe_284 (by decide) ?_
                                                                              refine lv_goto (tgt := 289) hx hb d_M_shapeCanBe_285 (by decide) ?_
                                                                              exact W.zret (v := (1 : Int32)) hx hb hr rfl (fun t ht hW => ⟨⟨(1 : Int32), (), rfl, ⟨true, rfl⟩, ⟨by show va_P D classes _ t.heap; rw [ht]; exact hP, hD⟩⟩, hS.F ht⟩) hS.2.2 d_M_shapeCanBe_289
                                                                          · refine lv_iconst (v := 5) hx hb d_M_shapeCanBe_276 (by decide) ?_
                                                                            refine lv_goto (tgt := 281) hx hb d_M_shapeCanBe_277 (by decide) ?_
                                                                            refine lv_icmp_gt (tgt := 288) hx hb d_M_shapeCanBe_281 (by decide) (fun c129 => ?_) (fun c129 => ?_)
                                                                            · refine lv_iconst (v := 0) hx hb d_M_shapeCanBe_288 (by decide) ?_
                                                                              exact W.zret (v := (0 : Int32)) hx hb hr rfl (fun t ht hW => ⟨⟨(0 : Int32), (), rfl, ⟨false, rfl⟩, ⟨by show va_P D classes _ t.heap; rw [ht]; exact hP, hD⟩⟩, hS.F ht⟩) hS.2.2 d_M_shapeCanBe_289
                                                                            · refine lv_iconst (v := 1) hx hb d_M_shapeCanBe_284 (by decide) ?_
                                                                              refine lv_goto (tgt := 289) hx hb d_M_shapeCanBe_285 (by decide) ?_
                                                                              exact W.zret (v := (1 : Int32)) hx hb hr rfl (fun t ht hW => ⟨⟨(1 : Int32), (), rfl, ⟨true, rfl⟩, ⟨by show va_P D classes _ t.heap; rw [ht]; exact hP, hD⟩⟩, hS.F ht⟩) hS.2.2 d_M_shapeCanBe_289
                                                                        · by_cases c130 : x0_9 = (34 : Int32)
                                                                          · refine lv_tableIn (off := 204) (tgt := 234) hx hb d_M_shapeCanBe_30 (by rw [c130]; decide) (by rw [c130]; decide) (by rw [c130]; rfl) (by decide) ?_
                                                                            refine lv_aload_n hx hb d_M_shapeCanBe_234 rfl (lv_at hl 0 rfl) ?_
                                                                            refine va_get (D := D) (ci := 1) (v := .int x0_10) (C := "SignMachine$Machine") (T := F_M) (N := 14) hx hb hk fi_M hown hK.1 hP 0 rfl rfl 10 (by decide) (hk _ k_177) (fun _ h9 => h9) rfl d_M_shapeCanBe_235 ?_
                                                                            refine lv_iconst (v := 1) hx hb d_M_shapeCanBe_238 (by decide) ?_
                                                                            refine lv_icmp_gt (tgt := 246) hx hb d_M_shapeCanBe_239 (by decide) (fun c131 => ?_) (fun c131 => ?_)
                                                                            · refine lv_iconst (v := 0) hx hb d_M_shapeCanBe_246 (by decide) ?_
                                                                              exact W.zret (v := (0 : Int32)) hx hb hr rfl (fun t ht hW => ⟨⟨(0 : Int32), (), rfl, ⟨false, rfl⟩, ⟨by show va_P D classes _ t.heap; rw [ht]; exact hP, hD⟩⟩, hS.F ht⟩) hS.2.2 d_M_shapeCanBe_247
                                                                            · refine lv_iconst (v := 1) hx hb d_M_shapeCanBe_242 (by decide) ?_
                                                                              refine lv_goto (tgt := 247) hx hb d_M_shapeCanBe_243 (by decide) ?_
                                                                              exact W.zret (v := (1 : Int32)) hx hb hr rfl (fun t ht hW => ⟨⟨(1 : Int32), (), rfl, ⟨true, rfl⟩, ⟨by show va_P D classes _ t.heap; rw [ht]; exact hP, hD⟩⟩, hS.F ht⟩) hS.2.2 d_M_shapeCanBe_247
                                                                          · by_cases c132 : x0_9 = (35 : Int32)
                                                                            · refine lv_tableIn (off := 204) (tgt := 234) hx hb d_M_shapeCanBe_30 (by rw [c132]; decide) (by rw [c132]; decide) (by rw [c132]; rfl) (by decide) ?_
                                                                              refine lv_aload_n hx hb d_M_shapeCanBe_234 rfl (lv_at hl 0 rfl) ?_
                                                                              refine va_get (D := D) (ci := 1) (v := .int x0_10) (C := "SignMachine$Machine") (T := F_M) (N := 14) hx hb hk fi_M hown hK.1 hP 0 rfl rfl 10 (by decide) (hk _ k_177) (fun _ h9 => h9) rfl d_M_shapeCanBe_235 ?_
                                                                              refine lv_iconst (v := 1) hx hb d_M_shapeCanBe_238 (by decide) ?_
                                                                              refine lv_icmp_gt (tgt := 246) hx hb d_M_shapeCanBe_239 (by decide) (fun c133 => ?_) (fun c133 => ?_)
                                                                              · refine lv_iconst (v := 0) hx hb d_M_shapeCanBe_246 (by decide) ?_
                                                                                exact W.zret (v := (0 : Int32)) hx hb hr rfl (fun t ht hW => ⟨⟨(0 : Int32), (), rfl, ⟨false, rfl⟩, ⟨by show va_P D classes _ t.heap; rw [ht]; exact hP, hD⟩⟩, hS.F ht⟩) hS.2.2 d_M_shapeCanBe_247
                                                                              · refine lv_iconst (v := 1) hx hb d_M_shapeCanBe_242 (by decide) ?_
                                                                                refine lv_goto (tgt := 247) hx hb d_M_shapeCanBe_243 (by decide) ?_
                                                                                exact W.zret (v := (1 : Int32)) hx hb hr rfl (fun t ht hW => ⟨⟨(1 : Int32), (), rfl, ⟨true, rfl⟩, ⟨by show va_P D classes _ t.heap; rw [ht]; exact hP, hD⟩⟩, hS.F ht⟩) hS.2.2 d_M_shapeCanBe_247
                                                                            · by_cases c134 : x0_9 = (36 : Int32)
                                                                              · refine lv_tableIn (off := 204) (tgt := 234) hx hb d_M_shapeCanBe_30 (by rw [c134]; decide) (by rw [c134]; decide) (by rw [c134]; rfl) (by decide) ?_
                                                                                refine lv_aload_n hx hb d_M_shapeCanBe_234 rfl (lv_at hl 0 rfl) ?_
                                                                                refine va_get (D := D) (ci := 1) (v := .int x0_10) (C := "SignMachine$Machine") (T := F_M) (N := 14) hx hb hk fi_M hown hK.1 hP 0 rfl rfl 10 (by decide) (hk _ k_177) (fun _ h9 => h9) rfl d_M_shapeCanBe_235 ?_
                                                                                refine lv_iconst (v := 1) hx hb d_M_shapeCanBe_238 (by decide) ?_
                                                                                refine lv_icmp_gt (tgt := 246) hx hb d_M_shapeCanBe_239 (by decide) (fun c135 => ?_) (fun c135 => ?_)
                                                                                · refine lv_iconst (v := 0) hx hb d_M_shapeCanBe_246 (by decide) ?_
                                                                                  exact W.zret (v := (0 : Int32)) hx hb hr rfl (fun t ht hW => ⟨⟨(0 : Int32), (), rfl, ⟨false, rfl⟩, ⟨by show va_P D classes _ t.heap; rw [ht]; exact hP, hD⟩⟩, hS.F ht⟩) hS.2.2 d_M_shapeCanBe_247
                                                                                · refine lv_iconst (v := 1) hx hb d_M_shapeCanBe_242 (by decide) ?_
                                                                                  refine lv_goto (tgt := 247) hx hb d_M_shapeCanBe_243 (by decide) ?_
                                                                                  exact W.zret (v := (1 : Int32)) hx hb hr rfl (fun t ht hW => ⟨⟨(1 : Int32), (), rfl, ⟨true, rfl⟩, ⟨by show va_P D classes _ t.heap; rw [ht]; exact hP, hD⟩⟩, hS.F ht⟩) hS.2.2 d_M_shapeCanBe_247
                                                                              · by_cases c136 : x0_9 = (37 : Int32)
                                                                                · refine lv_tableIn (off := 204) (tgt := 234) hx hb d_M_shapeCanBe_30 (by rw [c136]; decide) (by rw [c136]; decide) (by rw [c136]; rfl) (by decide) ?_
                                                                                  refine lv_aload_n hx hb d_M_shapeCanBe_234 rfl (lv_at hl 0 rfl) ?_
                                                                                  refine va_get (D := D) (ci := 1) (v := .int x0_10) (C := "SignMachine$Machine") (T := F_M) (N := 14) hx hb hk fi_M hown hK.1 hP 0 rfl rfl 10 (by decide) (hk _ k_177) (fun _ h9 => h9) rfl d_M_shapeCanBe_235 ?_
                                                                                  refine lv_iconst (v := 1) hx hb d_M_shapeCanBe_238 (by decide) ?_
                                                                                  refine lv_icmp_gt (tgt := 246) hx hb d_M_shapeCanBe_239 (by decide) (fun c137 => ?_) (fun c137 => ?_)
                                                                                  · refine lv_iconst (v := 0) hx hb d_M_shapeCanBe_246 (by decide) ?_
                                                                                    exact W.zret (v := (0 : Int32)) hx hb hr rfl (fun t ht hW => ⟨⟨(0 : Int32), (), rfl, ⟨false, rfl⟩, ⟨by show va_P D classes _ t.heap; rw [ht]; exact hP, hD⟩⟩, hS.F ht⟩) hS.2.2 d_M_shapeCanBe_247
                                                                                  · refine lv_iconst (v := 1) hx hb d_M_shapeCanBe_242 (by decide) ?_
                                                                                    refine lv_goto (tgt := 247) hx hb d_M_shapeCanBe_243 (by decide) ?_
                                                                                    exact W.zret (v := (1 : Int32)) hx hb hr rfl (fun t ht hW => ⟨⟨(1 : Int32), (), rfl, ⟨true, rfl⟩, ⟨by show va_P D classes _ t.heap; rw [ht]; exact hP, hD⟩⟩, hS.F ht⟩) hS.2.2 d_M_shapeCanBe_247
                                                                                · by_cases c138 : x0_9 = (38 : Int32)
                                                                                  · refine lv_tableIn (off := 204) (tgt := 234) hx hb d_M_shapeCanBe_30 (by rw [c138]; decide) (by rw [c138]; decide) (by rw [c138]; rfl) (by decide) ?_
                                                                                    refine lv_aload_n hx hb d_M_shapeCanBe_234 rfl (lv_at hl 0 rfl) ?_
                                                                                    refine va_get (D := D) (ci := 1) (v := .int x0_10) (C := "SignMachine$Machine") (T := F_M) (N := 14) hx hb hk fi_M hown hK.1 hP 0 rfl rfl 10 (by decide) (hk _ k_177) (fun _ h9 => h9) rfl d_M_shapeCanBe_235 ?_
                                                                                    refine lv_iconst (v := 1) hx hb d_M_shapeCanBe_238 (by decide) ?_
                                                                                    refine lv_icmp_gt (tgt := 246) hx hb d_M_shapeCanBe_239 (by decide) (fun c139 => ?_) (fun c139 => ?_)
                                                                                    · refine lv_iconst (v := 0) hx hb d_M_shapeCanBe_246 (by decide) ?_
                                                                                      exact W.zret (v := (0 : Int32)) hx hb hr rfl (fun t ht hW => ⟨⟨(0 : Int32), (), rfl, ⟨false, rfl⟩, ⟨by show va_P D classes _ t.heap; rw [ht]; exact hP, hD⟩⟩, hS.F ht⟩) hS.2.2 d_M_shapeCanBe_247
                                                                                    · refine lv_iconst (v := 1) hx hb d_M_shapeCanBe_242 (by decide) ?_
                                                                                      refine lv_goto (tgt := 247) hx hb d_M_shapeCanBe_243 (by decide) ?_
                                                                                      exact W.zret (v := (1 : Int32)) hx hb hr rfl (fun t ht hW => ⟨⟨(1 : Int32), (), rfl, ⟨true, rfl⟩, ⟨by show va_P D classes _ t.heap; rw [ht]; exact hP, hD⟩⟩, hS.F ht⟩) hS.2.2 d_M_shapeCanBe_247
                                                                                  · by_cases c140 : x0_9 = (39 : Int32)
                                                                                    · refine lv_tableIn (off := 218) (tgt := 248) hx hb d_M_shapeCanBe_30 (by rw [c140]; decide) (by rw [c140]; decide) (by rw [c140]; rfl) (by decide) ?_
                                                                                      refine lv_aload_n hx hb d_M_shapeCanBe_248 rfl (lv_at hl 0 rfl) ?_
                                                                                      refine va_get (D := D) (ci := 1) (v := .int x0_10) (C := "SignMachine$Machine") (T := F_M) (N := 14) hx hb hk fi_M hown hK.1 hP 0 rfl rfl 10 (by decide) (hk _ k_177) (fun _ h9 => h9) rfl d_M_shapeCanBe_249 ?_
                                                                                      refine lv_bipush (v := 9) hx hb d_M_shapeCanBe_252 (by decide) ?_
                                                                                      refine lv_icmp_gt (tgt := 261) hx hb d_M_shapeCanBe_254 (by decide) (fun c141 => ?_) (fun c141 => ?_)
                                                                                      · refine lv_iconst (v := 0) hx hb d_M_shapeCanBe_261 (by decide) ?_
                                                                                        exact W.zret (v := (0 : Int32)) hx hb hr rfl (fun t ht hW => ⟨⟨(0 : Int32), (), rfl, ⟨false, rfl⟩, ⟨by show va_P D classes _ t.heap; rw [ht]; exact hP, hD⟩⟩, hS.F ht⟩) hS.2.2 d_M_shapeCanBe_262
                                                                                      · refine lv_iconst (v := 1) hx hb d_M_shapeCanBe_257 (by decide) ?_
                                                                                        refine lv_goto (tgt := 262) hx hb d_M_shapeCanBe_258 (by decide) ?_
                                                                                        exact W.zret (v := (1 : Int32)) hx hb hr rfl (fun t ht hW => ⟨⟨(1 : Int32), (), rfl, ⟨true, rfl⟩, ⟨by show va_P D classes _ t.heap; rw [ht]; exact hP, hD⟩⟩, hS.F ht⟩) hS.2.2 d_M_shapeCanBe_262
                                                                                    · refine lv_tableOut (tgt := 263) hx hb d_M_shapeCanBe_30 (by have e0 := lv_neT c4 (a := 0) rfl; have e1 := lv_neT c5 (a := 1) rfl; have e2 := lv_neT c9 (a := 2) rfl; have e3 := lv_neT c13 (a := 3) rfl; have e4 := lv_neT c17 (a := 4) rfl; have e5 := lv_neT c21 (a := 5) rfl; have e6 := lv_neT c23 (a := 6) rfl; have e7 := lv_neT c25 (a := 7) rfl; have e8 := lv_neT c26 (a := 8) rfl; have e9 := lv_neT c30 (a := 9) rfl; have e10 := lv_neT c34 (a := 10) rfl; have e11 := lv_neT c38 (a := 11) rfl; have e12 := lv_neT c42 (a := 12) rfl; have e13 := lv_neT c46 (a := 13) rfl; have e14 := lv_neT c50 (a := 14) rfl; have e15 := lv_neT c54 (a := 15) rfl; have e16 := lv_neT c58 (a := 16) rfl; have e17 := lv_neT c62 (a := 17) rfl; have e18 := lv_neT c66 (a := 18) rfl; have e19 := lv_neT c70 (a := 19) rfl; have e20 := lv_neT c74 (a := 20) rfl; have e21 := lv_neT c78 (a := 21) rfl; have e22 := lv_neT c82 (a := 22) rfl; have e23 := lv_neT c86 (a := 23) rfl; have e24 := lv_neT c90 (a := 24) rfl; have e25 := lv_neT c94 (a := 25) rfl; have e26 := lv_neT c98 (a := 26) rfl; have e27 := lv_neT c102 (a := 27) rfl; have e28 := lv_neT c106 (a := 28) rfl; have e29 := lv_neT c110 (a := 29) rfl; have e30 := lv_neT c114 (a := 30) rfl; have e31 := lv_neT c118 (a := 31) rfl; have e32 := lv_neT c122 (a := 32) rfl; have e33 := lv_neT c126 (a := 33) rfl; have e34 := lv_neT c130 (a := 34) rfl; have e35 := lv_neT c132 (a := 35) rfl; have e36 := lv_neT c134 (a := 36) rfl; have e37 := lv_neT c136 (a := 37) rfl; have e38 := lv_neT c138 (a := 38) rfl; have e39 := lv_neT c140 (a := 39) rfl; omega) (by decide) ?_
                                                                                      refine lv_aload_n hx hb d_M_shapeCanBe_263 rfl (lv_at hl 0 rfl) ?_
                                                                                      refine va_get (D := D) (ci := 1) (v := .int x0_10) (C := "SignMachine$Machine") (T := F_M) (N := 14) hx hb hk fi_M hown hK.1 hP 0 rfl rfl 10 (by decide) (hk _ k_177) (fun _ h9 => h9) rfl d_M_shapeCanBe_264 ?_
                                                                                      refine lv_aload_n hx hb d_M_shapeCanBe_267 rfl (lv_at hl 0 rfl) ?_
                                                                                      refine va_get (D := D) (ci := 1) (v := .int x0_9) (C := "SignMachine$Machine") (T := F_M) (N := 14) hx hb hk fi_M hown hK.1 hP 0 rfl rfl 9 (by decide) (hk _ k_176) (fun _ h9 => h9) rfl d_M_shapeCanBe_268 ?_
                                                                                      refine lv_bipush (v := 47) hx hb d_M_shapeCanBe_271 (by decide) ?_
                                                                                      refine lv_icmp_gt (tgt := 280) hx hb d_M_shapeCanBe_273 (by decide) (fun c142 => ?_) (fun c142 => ?_)
                                                                                      · refine lv_iconst (v := 3) hx hb d_M_shapeCanBe_280 (by decide) ?_
                                                                                        refine lv_icmp_gt (tgt := 288) hx hb d_M_shapeCanBe_281 (by decide) (fun c143 => ?_) (fun c143 => ?_)
                                                                                        · refine lv_iconst (v := 0) hx hb d_M_shapeCanBe_288 (by decide) ?_
                                                                                          exact W.zret (v := (0 : Int32)) hx hb hr rfl (fun t ht hW => ⟨⟨(0 : Int32), (), rfl, ⟨false, rfl⟩, ⟨by show va_P D classes _ t.heap; rw [ht]; exact hP, hD⟩⟩, hS.F ht⟩) hS.2.2 d_M_shapeCanBe_289
                                                                                        · refine lv_iconst (v := 1) hx hb d_M_shapeCanBe_284 (by decide) ?_
                                                                                          refine lv_goto (tgt := 289) hx hb d_M_shapeCanBe_285 (by decide) ?_
                                                                                          exact W.zret (v := (1 : Int32)) hx hb hr rfl (fun t ht hW => ⟨⟨(1 : Int32), (), rfl, ⟨true, rfl⟩, ⟨by show va_P D classes _ t.heap; rw [ht]; exact hP, hD⟩⟩, hS.F ht⟩) hS.2.2 d_M_shapeCanBe_289
                                                                                      · refine lv_iconst (v := 5) hx hb d_M_shapeCanBe_276 (by decide) ?_
                                                                                        refine lv_goto (tgt := 281) hx hb d_M_shapeCanBe_277 (by decide) ?_
                                                                                        refine lv_icmp_gt (tgt := 288) hx hb d_M_shapeCanBe_281 (by decide) (fun c144 => ?_) (fun c144 => ?_)
                                                                                        · refine lv_iconst (v := 0) hx hb d_M_shapeCanBe_288 (by decide) ?_
                                                                                          exact W.zret (v := (0 : Int32)) hx hb hr rfl (fun t ht hW => ⟨⟨(0 : Int32), (), rfl, ⟨false, rfl⟩, ⟨by show va_P D classes _ t.heap; rw [ht]; exact hP, hD⟩⟩, hS.F ht⟩) hS.2.2 d_M_shapeCanBe_289
                                                                                        · refine lv_iconst (v := 1) hx hb d_M_shapeCanBe_284 (by decide) ?_
                                                                                          refine lv_goto (tgt := 289) hx hb d_M_shapeCanBe_285 (by decide) ?_
                                                                                          exact W.zret (v := (1 : Int32)) hx hb hr rfl (fun t ht hW => ⟨⟨(1 : Int32), (), rfl, ⟨true, rfl⟩, ⟨by show va_P D classes _ t.heap; rw [ht]; exact hP, hD⟩⟩, hS.F ht⟩) hS.2.2 d_M_shapeCanBe_289
    · refine lv_aload_n hx hb d_M_shapeCanBe_18 rfl (lv_at hl 0 rfl) ?_
      refine va_get (D := D) (ci := 1) (v := .int x0_10) (C := "SignMachine$Machine") (T := F_M) (N := 14) hx hb hk fi_M hown hK.1 hP 0 rfl rfl 10 (by decide) (hk _ k_177) (fun _ h9 => h9) rfl d_M_shapeCanBe_19 ?_
      refine cs_i (W.runS (As := [.int x0_10]) (rest := []) ⟨hx, hb, hml, hown, hk⟩ (c_W_isField l x0_10) (s_W_isField hk k_292 ⟨Nat.le_of_ble_eq_true rfl, Nat.le_of_ble_eq_true rfl⟩) ⟨fun a U g mk q => q, fun U hU hW => ⟨rfl, trivial⟩⟩ rfl rfl hl.1 rfl (lv_room (Nat.le_of_ble_eq_true rfl)) d_M_shapeCanBe_22 ⟨Nat.le_of_ble_eq_true rfl, Nat.le_of_ble_eq_true rfl⟩) ?_
      obtain ⟨z145, hz145⟩ : ∃ y : Bool, y = (f_W_isField x0_10) := ⟨_, rfl⟩
      rw [← hz145]
      exact W.zret (v := (bI z145)) hx hb hr (nar_bI z145) (fun t ht hW => ⟨⟨(bI z145), (), rfl, ⟨z145, rfl⟩, ⟨by show va_P D classes _ t.heap; rw [ht]; exact hP, hD⟩⟩, hS.F ht⟩) hS.2.2 d_M_shapeCanBe_25
  · refine lv_iconst (v := 0) hx hb d_M_shapeCanBe_9 (by decide) ?_
    exact W.zret (v := (0 : Int32)) hx hb hr rfl (fun t ht hW => ⟨⟨(0 : Int32), (), rfl, ⟨false, rfl⟩, ⟨by show va_P D classes _ t.heap; rw [ht]; exact hP, hD⟩⟩, hS.F ht⟩) hS.2.2 d_M_shapeCanBe_10
theorem v_M_shapeCanBe_s1 {R : Room} {s : State} {args : Array Value} {own : String} {index : Nat} (hk : ∀ w ∈ tb, w.before args s = true) (hl : Cond.methodLink own index y_M_shapeCanBe ∈ tb) (hR : 1 + 1 ≤ R.frames ∧ 8 + (1 + 11) + 22 ≤ R.locals) : CallW R s args own "SignMachine$Machine" index y_M_shapeCanBe b_M_shapeCanBe 1 (some .boolean) (.code y_M_shapeCanBe b_M_shapeCanBe 1 (some .boolean) :: tb) ({ frames := 1, cells := 0, slots := 0, locals := 22 }) 0 0 0 := mk_v 0 hk k_287 hl k_286 k_2 k_117 rfl rfl h_M_shapeCanBe hR

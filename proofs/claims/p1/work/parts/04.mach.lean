def f_M_wordAt (mem : Nat → Int32) (a1 : Int32) : Int32 := (if a1 < (0 : Int32) then (0 : Int32) else (if (4000 : Int32) ≤ a1 then (0 : Int32) else (mem (a1).toNatClampNeg)))
set_option maxHeartbeats 4000000 in
set_option maxRecDepth 100000 in
theorem c_M_wordAt (l : Launch) (D : va_G) (cI cJ cZ cB : ClassId) (h0 h1 h2 h3 h4 : Nat) (tog : Int32) (ind : Int32) (tim : Int32) (nxt : Int32) (enD : Int32) (cod : Int32) (fld : Int32) (idx : Int32) (mm : Int32) (soz : Int32) (mem : Nat → Int32) (reg : Nat → Int32) (p1 : Int32) (w1 : Option Nat) (p2 : Int32) (w2 : Option Nat) (TL : va_W) (a1 : Int32) : Met l y_M_wordAt (.code y_M_wordAt b_M_wordAt 2 (some .int) :: tb) ({ frames := 0, cells := 0, slots := 0, locals := 0 }) (pR D cI cJ cZ cB (mW cI cJ cZ cB h0 h1 h2 h3 h4 tog ind tim nxt enD cod fld idx mm soz mem reg p1 w1 p2 w2 TL) [.ref h0, .int a1]) (vp_Si (fun r => r = f_M_wordAt mem a1)) 0 0 (fun _ => False) := by
  refine Met.ofW (cc := b_M_wordAt) (maxL := 2) (ret := (some .int)) (by decide) rfl ?_
  intro p e s m args below meth c s₁ B hml hv
  obtain ⟨rfl, hK, hP⟩ := hv
  have hx := B.exec
  have hb := B.bytes
  have hr := B.returns
  have hts := atoms_spec (ws := .code y_M_wordAt b_M_wordAt 2 (some .int) :: tb) B.pre
  have hk : ∀ w ∈ tb, w.before [.ref h0, .int a1].toArray s = true := fun w h => hts w (List.mem_cons_of_mem _ h)
  have hown : s.vm.findClass "SignMachine$Machine" = some m.cls := findClass_of_methodNamed B.named
  have hlocks := B.notSynchronized
  have hl := lv_entry ([.ref h0, .int a1]) (n := 2) (Nat.le_of_ble_eq_true rfl)
  rw [lg_entry_eq]
  generalize (lg_sl ([.ref h0, .int a1]) ++ List.replicate (2 - (lg_sl ([.ref h0, .int a1])).length) Slot.unset).toArray = ls at hl ⊢
  have hl : lv_has ls 2 [(0, .ref h0), (1, .int a1)] := hl
  refine lv_iload_n hx hb d_M_wordAt_0 rfl (lv_at hl 1 rfl) ?_
  refine lv_if_lt (tgt := 20) hx hb d_M_wordAt_1 (by decide) (fun c1 => ?_) (fun c1 => ?_)
  · refine lv_iconst (v := 0) hx hb d_M_wordAt_20 (by decide) ?_
    exact W.iret (v := (0 : Int32)) hx hb hr (fun t ht hW => ⟨(0 : Int32), rfl, by simp only [f_M_wordAt, if_pos c1], ht⟩) (fun q h => absurd h List.not_mem_nil) d_M_wordAt_21
  · refine lv_iload_n hx hb d_M_wordAt_4 rfl (lv_at hl 1 rfl) ?_
    refine lv_sipush (v := 4000) hx hb d_M_wordAt_5 (by decide) ?_
    refine lv_icmp_ge (tgt := 20) hx hb d_M_wordAt_8 (by decide) (fun c2 => ?_) (fun c2 => ?_)
    · refine lv_iconst (v := 0) hx hb d_M_wordAt_20 (by decide) ?_
      exact W.iret (v := (0 : Int32)) hx hb hr (fun t ht hW => ⟨(0 : Int32), rfl, by simp only [f_M_wordAt, if_neg c1, if_pos c2], ht⟩) (fun q h => absurd h List.not_mem_nil) d_M_wordAt_21
    · refine lv_aload_n hx hb d_M_wordAt_11 rfl (lv_at hl 0 rfl) ?_
      refine va_get (D := D) (ci := 1) (v := .ref h1) (C := "SignMachine$Machine") (T := F_M) (N := 14) hx hb hk fi_M hown hK.1 hP 0 rfl rfl 0 (by decide) (hk _ k_163) (fun _ h9 => h9) rfl d_M_wordAt_12 ?_
      refine lv_iload_n hx hb d_M_wordAt_15 rfl (lv_at hl 1 rfl) ?_
      refine va_iald hx hb hK.1 hP 1 0 rfl rfl (vpin c1 c2 rfl) d_M_wordAt_16 ?_
      refine lv_goto (tgt := 21) hx hb d_M_wordAt_17 (by decide) ?_
      exact W.iret (v := (mem (a1).toNatClampNeg)) hx hb hr (fun t ht hW => ⟨(mem (a1).toNatClampNeg), rfl, by simp only [f_M_wordAt, if_neg c1, if_neg c2], ht⟩) (fun q h => absurd h List.not_mem_nil) d_M_wordAt_21
theorem v_M_wordAt {R : Room} {s : State} {args : Array Value} {own : String} {index : Nat} (hk : ∀ w ∈ tb, w.before args s = true) (hl : Cond.methodLink own index y_M_wordAt ∈ tb) (hR : 0 + 1 ≤ R.frames ∧ 8 + (2 + 11) + 0 ≤ R.locals) : CallW R s args own "SignMachine$Machine" index y_M_wordAt b_M_wordAt 2 (some .int) (.code y_M_wordAt b_M_wordAt 2 (some .int) :: tb) ({ frames := 0, cells := 0, slots := 0, locals := 0 }) 0 0 1 := mk_v 1 hk k_243 hl k_241 k_242 k_117 rfl rfl h_M_wordAt hR
def f_M_register (reg : Nat → Int32) (a1 : Int32) : Int32 := (if a1 < (0 : Int32) then (0 : Int32) else (if (9 : Int32) ≤ a1 then (0 : Int32) else (reg (a1).toNatClampNeg)))
set_option maxHeartbeats 4000000 in
set_option maxRecDepth 100000 in
theorem c_M_register (l : Launch) (D : va_G) (cI cJ cZ cB : ClassId) (h0 h1 h2 h3 h4 : Nat) (tog : Int32) (ind : Int32) (tim : Int32) (nxt : Int32) (enD : Int32) (cod : Int32) (fld : Int32) (idx : Int32) (mm : Int32) (soz : Int32) (mem : Nat → Int32) (reg : Nat → Int32) (p1 : Int32) (w1 : Option Nat) (p2 : Int32) (w2 : Option Nat) (TL : va_W) (a1 : Int32) : Met l y_M_register (.code y_M_register b_M_register 2 (some .int) :: tb) ({ frames := 0, cells := 0, slots := 0, locals := 0 }) (pR D cI cJ cZ cB (mW cI cJ cZ cB h0 h1 h2 h3 h4 tog ind tim nxt enD cod fld idx mm soz mem reg p1 w1 p2 w2 TL) [.ref h0, .int a1]) (vp_Si (fun r => r = f_M_register reg a1)) 0 0 (fun _ => False) := by
  refine Met.ofW (cc := b_M_register) (maxL := 2) (ret := (some .int)) (by decide) rfl ?_
  intro p e s m args below meth c s₁ B hml hv
  obtain ⟨rfl, hK, hP⟩ := hv
  have hx := B.exec
  have hb := B.bytes
  have hr := B.returns
  have hts := atoms_spec (ws := .code y_M_register b_M_register 2 (some .int) :: tb) B.pre
  have hk : ∀ w ∈ tb, w.before [.ref h0, .int a1].toArray s = true := fun w h => hts w (List.mem_cons_of_mem _ h)
  have hown : s.vm.findClass "SignMachine$Machine" = some m.cls := findClass_of_methodNamed B.named
  have hlocks := B.notSynchronized
  have hl := lv_entry ([.ref h0, .int a1]) (n := 2) (Nat.le_of_ble_eq_true rfl)
  rw [lg_entry_eq]
  generalize (lg_sl ([.ref h0, .int a1]) ++ List.replicate (2 - (lg_sl ([.ref h0, .int a1])).length) Slot.unset).toArray = ls at hl ⊢
  have hl : lv_has ls 2 [(0, .ref h0), (1, .int a1)] := hl
  refine lv_iload_n hx hb d_M_register_0 rfl (lv_at hl 1 rfl) ?_
  refine lv_if_lt (tgt := 19) hx hb d_M_register_1 (by decide) (fun c1 => ?_) (fun c1 => ?_)
  · refine lv_iconst (v := 0) hx hb d_M_register_19 (by decide) ?_
    exact W.iret (v := (0 : Int32)) hx hb hr (fun t ht hW => ⟨(0 : Int32), rfl, by simp only [f_M_register, if_pos c1], ht⟩) (fun q h => absurd h List.not_mem_nil) d_M_register_20
  · refine lv_iload_n hx hb d_M_register_4 rfl (lv_at hl 1 rfl) ?_
    refine lv_bipush (v := 9) hx hb d_M_register_5 (by decide) ?_
    refine lv_icmp_ge (tgt := 19) hx hb d_M_register_7 (by decide) (fun c2 => ?_) (fun c2 => ?_)
    · refine lv_iconst (v := 0) hx hb d_M_register_19 (by decide) ?_
      exact W.iret (v := (0 : Int32)) hx hb hr (fun t ht hW => ⟨(0 : Int32), rfl, by simp only [f_M_register, if_neg c1, if_pos c2], ht⟩) (fun q h => absurd h List.not_mem_nil) d_M_register_20
    · refine lv_aload_n hx hb d_M_register_10 rfl (lv_at hl 0 rfl) ?_
      refine va_get (D := D) (ci := 1) (v := .ref h2) (C := "SignMachine$Machine") (T := F_M) (N := 14) hx hb hk fi_M hown hK.1 hP 0 rfl rfl 1 (by decide) (hk _ k_164) (fun _ h9 => h9) rfl d_M_register_11 ?_
      refine lv_iload_n hx hb d_M_register_14 rfl (lv_at hl 1 rfl) ?_
      refine va_iald hx hb hK.1 hP 2 0 rfl rfl (vpin c1 c2 rfl) d_M_register_15 ?_
      refine lv_goto (tgt := 20) hx hb d_M_register_16 (by decide) ?_
      exact W.iret (v := (reg (a1).toNatClampNeg)) hx hb hr (fun t ht hW => ⟨(reg (a1).toNatClampNeg), rfl, by simp only [f_M_register, if_neg c1, if_neg c2], ht⟩) (fun q h => absurd h List.not_mem_nil) d_M_register_20
theorem v_M_register {R : Room} {s : State} {args : Array Value} {own : String} {index : Nat} (hk : ∀ w ∈ tb, w.before args s = true) (hl : Cond.methodLink own index y_M_register ∈ tb) (hR : 0 + 1 ≤ R.frames ∧ 8 + (2 + 11) + 0 ≤ R.locals) : CallW R s args own "SignMachine$Machine" index y_M_register b_M_register 2 (some .int) (.code y_M_register b_M_register 2 (some .int) :: tb) ({ frames := 0, cells := 0, slots := 0, locals := 0 }) 0 0 1 := mk_v 1 hk k_276 hl k_274 k_275 k_117 rfl rfl h_M_register hR
def f_M_putWord (mem : Nat → Int32) (a1 : Int32) (a2 : Int32) : (Nat → Int32) := (if a1 < (0 : Int32) then (mem) else (if (4000 : Int32) ≤ a1 then (mem) else ((upd mem (a1).toNatClampNeg a2))))
set_option maxHeartbeats 4000000 in
set_option maxRecDepth 100000 in
theorem c_M_putWord (l : Launch) (D : va_G) (cI cJ cZ cB : ClassId) (h0 h1 h2 h3 h4 : Nat) (sz : Nat) (tog : Int32) (ind : Int32) (tim : Int32) (nxt : Int32) (enD : Int32) (cod : Int32) (fld : Int32) (idx : Int32) (mm : Int32) (soz : Int32) (mem : Nat → Int32) (reg : Nat → Int32) (p1 : Int32) (w1 : Option Nat) (p2 : Int32) (w2 : Option Nat) (TL : va_W) (a1 : Int32) (a2 : Int32) : Met l y_M_putWord (.code y_M_putWord b_M_putWord 3 none :: tb) ({ frames := 0, cells := 0, slots := 0, locals := 0 }) (pM D cI cJ cZ cB (mW cI cJ cZ cB h0 h1 h2 h3 h4 tog ind tim nxt enD cod fld idx mm soz mem reg p1 w1 p2 w2 TL) sz [.ref h0, .int a1, .int a2]) (qV D (fun u => u = f_M_putWord mem a1 a2) (fun (u : (Nat → Int32)) => match u with | u_mem => (mW cI cJ cZ cB h0 h1 h2 h3 h4 tog ind tim nxt enD cod fld idx mm soz u_mem reg p1 w1 p2 w2 TL)) (va_A (mW cI cJ cZ cB h0 h1 h2 h3 h4 tog ind tim nxt enD cod fld idx mm soz mem reg p1 w1 p2 w2 TL) sz)) 0 0 (va_A (mW cI cJ cZ cB h0 h1 h2 h3 h4 tog ind tim nxt enD cod fld idx mm soz mem reg p1 w1 p2 w2 TL) sz) := by
  refine Met.ofW (cc := b_M_putWord) (maxL := 3) (ret := none) (by decide) rfl ?_
  intro p e s m args below meth c s₁ B hml hv
  obtain ⟨rfl, hsz, hK, hP, hD0⟩ := hv
  subst hsz
  have hD := hD0.self (sz := s.heap.size)
  generalize hAe : va_A (mW cI cJ cZ cB h0 h1 h2 h3 h4 tog ind tim nxt enD cod fld idx mm soz mem reg p1 w1 p2 w2 TL) s.heap.size = A at hD ⊢
  have hA : ∀ q : Nat, s.heap.size ≤ q → A q := fun q h => by rw [← hAe]; exact Or.inr h
  have hS : va_S A s.heap s.heap [] := va_S.rf
  have hx := B.exec
  have hb := B.bytes
  have hr := B.returns
  have hts := atoms_spec (ws := .code y_M_putWord b_M_putWord 3 none :: tb) B.pre
  have hk : ∀ w ∈ tb, w.before [.ref h0, .int a1, .int a2].toArray s = true := fun w h => hts w (List.mem_cons_of_mem _ h)
  have hown : s.vm.findClass "SignMachine$Machine" = some m.cls := findClass_of_methodNamed B.named
  have hlocks := B.notSynchronized
  have hl := lv_entry ([.ref h0, .int a1, .int a2]) (n := 3) (Nat.le_of_ble_eq_true rfl)
  rw [lg_entry_eq]
  generalize (lg_sl ([.ref h0, .int a1, .int a2]) ++ List.replicate (3 - (lg_sl ([.ref h0, .int a1, .int a2])).length) Slot.unset).toArray = ls at hl ⊢
  have hl : lv_has ls 3 [(0, .ref h0), (1, .int a1), (2, .int a2)] := hl
  refine lv_iload_n hx hb d_M_putWord_0 rfl (lv_at hl 1 rfl) ?_
  refine lv_if_lt (tgt := 18) hx hb d_M_putWord_1 (by decide) (fun c1 => ?_) (fun c1 => ?_)
  · exact W.vret hx hb hr (fun t ht hW => ⟨⟨(mem), rfl, by simp only [f_M_putWord, if_pos c1], by show va_P D classes _ t.heap; rw [ht]; exact hP⟩, hS.F ht⟩) hS.2.2 d_M_putWord_18
  · refine lv_iload_n hx hb d_M_putWord_4 rfl (lv_at hl 1 rfl) ?_
    refine lv_sipush (v := 4000) hx hb d_M_putWord_5 (by decide) ?_
    refine lv_icmp_ge (tgt := 18) hx hb d_M_putWord_8 (by decide) (fun c2 => ?_) (fun c2 => ?_)
    · exact W.vret hx hb hr (fun t ht hW => ⟨⟨(mem), rfl, by simp only [f_M_putWord, if_neg c1, if_pos c2], by show va_P D classes _ t.heap; rw [ht]; exact hP⟩, hS.F ht⟩) hS.2.2 d_M_putWord_18
    · refine lv_aload_n hx hb d_M_putWord_11 rfl (lv_at hl 0 rfl) ?_
      refine va_get (D := D) (ci := 1) (v := .ref h1) (C := "SignMachine$Machine") (T := F_M) (N := 14) hx hb hk fi_M hown hK.1 hP 0 rfl rfl 0 (by decide) (hk _ k_163) (fun _ h9 => h9) rfl d_M_putWord_12 ?_
      refine lv_iload_n hx hb d_M_putWord_15 rfl (lv_at hl 1 rfl) ?_
      refine lv_iload_n hx hb d_M_putWord_16 rfl (lv_at hl 2 rfl) ?_
      refine va_iast hx hb hK.1 hP hD hS 1 0 rfl rfl (vpin c1 c2 rfl) d_M_putWord_17 (fun H locs hP hD hS => ?_)
      have hP : va_P D classes (mW cI cJ cZ cB h0 h1 h2 h3 h4 tog ind tim nxt enD cod fld idx mm soz (upd mem (a1).toNatClampNeg a2) reg p1 w1 p2 w2 TL) H := hP
      have hD : va_D A (mW cI cJ cZ cB h0 h1 h2 h3 h4 tog ind tim nxt enD cod fld idx mm soz (upd mem (a1).toNatClampNeg a2) reg p1 w1 p2 w2 TL) := hD
      exact W.vret hx hb hr (fun t ht hW => ⟨⟨((upd mem (a1).toNatClampNeg a2)), rfl, by simp only [f_M_putWord, if_neg c1, if_neg c2], by show va_P D classes _ t.heap; rw [ht]; exact hP⟩, hS.F ht⟩) hS.2.2 d_M_putWord_18
theorem v_M_putWord {R : Room} {s : State} {args : Array Value} {own : String} {index : Nat} (hk : ∀ w ∈ tb, w.before args s = true) (hl : Cond.methodLink own index y_M_putWord ∈ tb) (hR : 0 + 1 ≤ R.frames ∧ 8 + (3 + 11) + 0 ≤ R.locals) : CallW R s args own "SignMachine$Machine" index y_M_putWord b_M_putWord 3 none (.code y_M_putWord b_M_putWord 3 none :: tb) ({ frames := 0, cells := 0, slots := 0, locals := 0 }) 0 0 2 := mk_v 2 hk k_235 hl k_233 k_234 k_117 rfl rfl h_M_putWord hR
def f_M_putRegister (reg : Nat → Int32) (a1 : Int32) (a2 : Int32) : (Nat → Int32) := (if a1 < (0 : Int32) then (reg) else (if (9 : Int32) ≤ a1 then (reg) else ((upd reg (a1).toNatClampNeg a2))))
set_option maxHeartbeats 4000000 in
set_option maxRecDepth 100000 in
theorem c_M_putRegister (l : Launch) (D : va_G) (cI cJ cZ cB : ClassId) (h0 h1 h2 h3 h4 : Nat) (sz : Nat) (tog : Int32) (ind : Int32) (tim : Int32) (nxt : Int32) (enD : Int32) (cod : Int32) (fld : Int32) (idx : Int32) (mm : Int32) (soz : Int32) (mem : Nat → Int32) (reg : Nat → Int32) (p1 : Int32) (w1 : Option Nat) (p2 : Int32) (w2 : Option Nat) (TL : va_W) (a1 : Int32) (a2 : Int32) : Met l y_M_putRegister (.code y_M_putRegister b_M_putRegister 3 none :: tb) ({ frames := 0, cells := 0, slots := 0, locals := 0 }) (pM D cI cJ cZ cB (mW cI cJ cZ cB h0 h1 h2 h3 h4 tog ind tim nxt enD cod fld idx mm soz mem reg p1 w1 p2 w2 TL) sz [.ref h0, .int a1, .int a2]) (qV D (fun u => u = f_M_putRegister reg a1 a2) (fun (u : (Nat → Int32)) => match u with | u_reg => (mW cI cJ cZ cB h0 h1 h2 h3 h4 tog ind tim nxt enD cod fld idx mm soz mem u_reg p1 w1 p2 w2 TL)) (va_A (mW cI cJ cZ cB h0 h1 h2 h3 h4 tog ind tim nxt enD cod fld idx mm soz mem reg p1 w1 p2 w2 TL) sz)) 0 0 (va_A (mW cI cJ cZ cB h0 h1 h2 h3 h4 tog ind tim nxt enD cod fld idx mm soz mem reg p1 w1 p2 w2 TL) sz) := by
  refine Met.ofW (cc := b_M_putRegister) (maxL := 3) (ret := none) (by decide) rfl ?_
  intro p e s m args below meth c s₁ B hml hv
  obtain ⟨rfl, hsz, hK, hP, hD0⟩ := hv
  subst hsz
  have hD := hD0.self (sz := s.heap.size)
  generalize hAe : va_A (mW cI cJ cZ cB h0 h1 h2 h3 h4 tog ind tim nxt enD cod fld idx mm soz mem reg p1 w1 p2 w2 TL) s.heap.size = A at hD ⊢
  have hA : ∀ q : Nat, s.heap.size ≤ q → A q := fun q h => by rw [← hAe]; exact Or.inr h
  have hS : va_S A s.heap s.heap [] := va_S.rf
  have hx := B.exec
  have hb := B.bytes
  have hr := B.returns
  have hts := atoms_spec (ws := .code y_M_putRegister b_M_putRegister 3 none :: tb) B.pre
  have hk : ∀ w ∈ tb, w.before [.ref h0, .int a1, .int a2].toArray s = true := fun w h => hts w (List.mem_cons_of_mem _ h)
  have hown : s.vm.findClass "SignMachine$Machine" = some m.cls := findClass_of_methodNamed B.named
  have hlocks := B.notSynchronized
  have hl := lv_entry ([.ref h0, .int a1, .int a2]) (n := 3) (Nat.le_of_ble_eq_true rfl)
  rw [lg_entry_eq]
  generalize (lg_sl ([.ref h0, .int a1, .int a2]) ++ List.replicate (3 - (lg_sl ([.ref h0, .int a1, .int a2])).length) Slot.unset).toArray = ls at hl ⊢
  have hl : lv_has ls 3 [(0, .ref h0), (1, .int a1), (2, .int a2)] := hl
  refine lv_iload_n hx hb d_M_putRegister_0 rfl (lv_at hl 1 rfl) ?_
  refine lv_if_lt (tgt := 17) hx hb d_M_putRegister_1 (by decide) (fun c1 => ?_) (fun c1 => ?_)
  · exact W.vret hx hb hr (fun t ht hW => ⟨⟨(reg), rfl, by simp only [f_M_putRegister, if_pos c1], by show va_P D classes _ t.heap; rw [ht]; exact hP⟩, hS.F ht⟩) hS.2.2 d_M_putRegister_17
  · refine lv_iload_n hx hb d_M_putRegister_4 rfl (lv_at hl 1 rfl) ?_
    refine lv_bipush (v := 9) hx hb d_M_putRegister_5 (by decide) ?_
    refine lv_icmp_ge (tgt := 17) hx hb d_M_putRegister_7 (by decide) (fun c2 => ?_) (fun c2 => ?_)
    · exact W.vret hx hb hr (fun t ht hW => ⟨⟨(reg), rfl, by simp only [f_M_putRegister, if_neg c1, if_pos c2], by show va_P D classes _ t.heap; rw [ht]; exact hP⟩, hS.F ht⟩) hS.2.2 d_M_putRegister_17
    · refine lv_aload_n hx hb d_M_putRegister_10 rfl (lv_at hl 0 rfl) ?_
      refine va_get (D := D) (ci := 1) (v := .ref h2) (C := "SignMachine$Machine") (T := F_M) (N := 14) hx hb hk fi_M hown hK.1 hP 0 rfl rfl 1 (by decide) (hk _ k_164) (fun _ h9 => h9) rfl d_M_putRegister_11 ?_
      refine lv_iload_n hx hb d_M_putRegister_14 rfl (lv_at hl 1 rfl) ?_
      refine lv_iload_n hx hb d_M_putRegister_15 rfl (lv_at hl 2 rfl) ?_
      refine va_iast hx hb hK.1 hP hD hS 2 0 rfl rfl (vpin c1 c2 rfl) d_M_putRegister_16 (fun H locs hP hD hS => ?_)
      have hP : va_P D classes (mW cI cJ cZ cB h0 h1 h2 h3 h4 tog ind tim nxt enD cod fld idx mm soz mem (upd reg (a1).toNatClampNeg a2) p1 w1 p2 w2 TL) H := hP
      have hD : va_D A (mW cI cJ cZ cB h0 h1 h2 h3 h4 tog ind tim nxt enD cod fld idx mm soz mem (upd reg (a1).toNatClampNeg a2) p1 w1 p2 w2 TL) := hD
      exact W.vret hx hb hr (fun t ht hW => ⟨⟨((upd reg (a1).toNatClampNeg a2)), rfl, by simp only [f_M_putRegister, if_neg c1, if_neg c2], by show va_P D classes _ t.heap; rw [ht]; exact hP⟩, hS.F ht⟩) hS.2.2 d_M_putRegister_17
theorem v_M_putRegister {R : Room} {s : State} {args : Array Value} {own : String} {index : Nat} (hk : ∀ w ∈ tb, w.before args s = true) (hl : Cond.methodLink own index y_M_putRegister ∈ tb) (hR : 0 + 1 ≤ R.frames ∧ 8 + (3 + 11) + 0 ≤ R.locals) : CallW R s args own "SignMachine$Machine" index y_M_putRegister b_M_putRegister 3 none (.code y_M_putRegister b_M_putRegister 3 none :: tb) ({ frames := 0, cells := 0, slots := 0, locals := 0 }) 0 0 2 := mk_v 2 hk k_365 hl k_363 k_364 k_117 rfl rfl h_M_putRegister hR
def f_M_value (fld : Int32) (mm : Int32) (mem : Nat → Int32)  : Int32 := (f_W_field (f_M_wordAt mem mm) fld)
set_option maxHeartbeats 4000000 in
set_option maxRecDepth 100000 in
theorem c_M_value (l : Launch) (D : va_G) (cI cJ cZ cB : ClassId) (h0 h1 h2 h3 h4 : Nat) (tog : Int32) (ind : Int32) (tim : Int32) (nxt : Int32) (enD : Int32) (cod : Int32) (fld : Int32) (idx : Int32) (mm : Int32) (soz : Int32) (mem : Nat → Int32) (reg : Nat → Int32) (p1 : Int32) (w1 : Option Nat) (p2 : Int32) (w2 : Option Nat) (TL : va_W)  : Met l y_M_value (.code y_M_value b_M_value 1 (some .int) :: tb) ({ frames := 2, cells := 0, slots := 0, locals := 45 }) (pR D cI cJ cZ cB (mW cI cJ cZ cB h0 h1 h2 h3 h4 tog ind tim nxt enD cod fld idx mm soz mem reg p1 w1 p2 w2 TL) [.ref h0]) (vp_Si (fun r => r = f_M_value fld mm mem)) 0 0 (fun _ => False) := by
  refine Met.ofW (cc := b_M_value) (maxL := 1) (ret := (some .int)) (by decide) rfl ?_
  intro p e s m args below meth c s₁ B hml hv
  obtain ⟨rfl, hK, hP⟩ := hv
  have hx := B.exec
  have hb := B.bytes
  have hr := B.returns
  have hts := atoms_spec (ws := .code y_M_value b_M_value 1 (some .int) :: tb) B.pre
  have hk : ∀ w ∈ tb, w.before [.ref h0].toArray s = true := fun w h => hts w (List.mem_cons_of_mem _ h)
  have hown : s.vm.findClass "SignMachine$Machine" = some m.cls := findClass_of_methodNamed B.named
  have hlocks := B.notSynchronized
  have hl := lv_entry ([.ref h0]) (n := 1) (Nat.le_of_ble_eq_true rfl)
  rw [lg_entry_eq]
  generalize (lg_sl ([.ref h0]) ++ List.replicate (1 - (lg_sl ([.ref h0])).length) Slot.unset).toArray = ls at hl ⊢
  have hl : lv_has ls 1 [(0, .ref h0)] := hl
  refine lv_aload_n hx hb d_M_value_0 rfl (lv_at hl 0 rfl) ?_
  refine lv_aload_n hx hb d_M_value_1 rfl (lv_at hl 0 rfl) ?_
  refine va_get (D := D) (ci := 1) (v := .int mm) (C := "SignMachine$Machine") (T := F_M) (N := 14) hx hb hk fi_M hown hK.1 hP 0 rfl rfl 12 (by decide) (hk _ k_179) (fun _ h9 => h9) rfl d_M_value_2 ?_
  refine cs_i (W.runV (C := "SignMachine$Machine") (As := [.int mm]) (rest := []) ⟨hx, hb, hml, hown, hk⟩ (c_M_wordAt l D cI cJ cZ cB h0 h1 h2 h3 h4 tog ind tim nxt enD cod fld idx mm soz mem reg p1 w1 p2 w2 TL mm) (v_M_wordAt hk k_263 ⟨Nat.le_of_ble_eq_true rfl, Nat.le_of_ble_eq_true rfl⟩) (pR_v hK hP (ci := 1) (q0 := 0) rfl rfl rfl) rfl rfl hl.1 rfl (lv_room (Nat.le_of_ble_eq_true rfl)) d_M_value_5 ⟨Nat.le_of_ble_eq_true rfl, Nat.le_of_ble_eq_true rfl⟩) ?_
  refine lv_aload_n hx hb d_M_value_8 rfl (lv_at hl 0 rfl) ?_
  refine va_get (D := D) (ci := 1) (v := .int fld) (C := "SignMachine$Machine") (T := F_M) (N := 14) hx hb hk fi_M hown hK.1 hP 0 rfl rfl 10 (by decide) (hk _ k_177) (fun _ h9 => h9) rfl d_M_value_9 ?_
  refine cs_i (W.runS (As := [.int (f_M_wordAt mem mm), .int fld]) (rest := []) ⟨hx, hb, hml, hown, hk⟩ (c_W_field l (f_M_wordAt mem mm) fld) (s_W_field hk k_314 ⟨Nat.le_of_ble_eq_true rfl, Nat.le_of_ble_eq_true rfl⟩) ⟨fun a U g mk q => q, fun U hU hW => ⟨rfl, trivial⟩⟩ rfl rfl hl.1 rfl (lv_room (Nat.le_of_ble_eq_true rfl)) d_M_value_12 ⟨Nat.le_of_ble_eq_true rfl, Nat.le_of_ble_eq_true rfl⟩) ?_
  exact W.iret (v := (f_W_field (f_M_wordAt mem mm) fld)) hx hb hr (fun t ht hW => ⟨(f_W_field (f_M_wordAt mem mm) fld), rfl, by simp only [f_M_value], ht⟩) (fun q h => absurd h List.not_mem_nil) d_M_value_15
theorem v_M_value {R : Room} {s : State} {args : Array Value} {own : String} {index : Nat} (hk : ∀ w ∈ tb, w.before args s = true) (hl : Cond.methodLink own index y_M_value ∈ tb) (hR : 2 + 1 ≤ R.frames ∧ 8 + (1 + 11) + 45 ≤ R.locals) : CallW R s args own "SignMachine$Machine" index y_M_value b_M_value 1 (some .int) (.code y_M_value b_M_value 1 (some .int) :: tb) ({ frames := 2, cells := 0, slots := 0, locals := 45 }) 0 0 0 := mk_v 0 hk k_313 hl k_312 k_7 k_117 rfl rfl h_M_value hR
def f_M_storeWord (fld : Int32) (mm : Int32) (mem : Nat → Int32) (a1 : Int32) : (Nat → Int32) := (match (f_M_putWord mem mm (f_W_store (f_M_wordAt mem mm) a1 fld)) with | (memz1) => (memz1))
set_option maxHeartbeats 4000000 in
set_option maxRecDepth 100000 in
theorem c_M_storeWord (l : Launch) (D : va_G) (cI cJ cZ cB : ClassId) (h0 h1 h2 h3 h4 : Nat) (sz : Nat) (tog : Int32) (ind : Int32) (tim : Int32) (nxt : Int32) (enD : Int32) (cod : Int32) (fld : Int32) (idx : Int32) (mm : Int32) (soz : Int32) (mem : Nat → Int32) (reg : Nat → Int32) (p1 : Int32) (w1 : Option Nat) (p2 : Int32) (w2 : Option Nat) (TL : va_W) (a1 : Int32) : Met l y_M_storeWord (.code y_M_storeWord b_M_storeWord 2 none :: tb) ({ frames := 2, cells := 0, slots := 0, locals := 48 }) (pM D cI cJ cZ cB (mW cI cJ cZ cB h0 h1 h2 h3 h4 tog ind tim nxt enD cod fld idx mm soz mem reg p1 w1 p2 w2 TL) sz [.ref h0, .int a1]) (qV D (fun u => u = f_M_storeWord fld mm mem a1) (fun (u : (Nat → Int32)) => match u with | u_mem => (mW cI cJ cZ cB h0 h1 h2 h3 h4 tog ind tim nxt enD cod fld idx mm soz u_mem reg p1 w1 p2 w2 TL)) (va_A (mW cI cJ cZ cB h0 h1 h2 h3 h4 tog ind tim nxt enD cod fld idx mm soz mem reg p1 w1 p2 w2 TL) sz)) 0 0 (va_A (mW cI cJ cZ cB h0 h1 h2 h3 h4 tog ind tim nxt enD cod fld idx mm soz mem reg p1 w1 p2 w2 TL) sz) := by
  refine Met.ofW (cc := b_M_storeWord) (maxL := 2) (ret := none) (by decide) rfl ?_
  intro p e s m args below meth c s₁ B hml hv
  obtain ⟨rfl, hsz, hK, hP, hD0⟩ := hv
  subst hsz
  have hD := hD0.self (sz := s.heap.size)
  generalize hAe : va_A (mW cI cJ cZ cB h0 h1 h2 h3 h4 tog ind tim nxt enD cod fld idx mm soz mem reg p1 w1 p2 w2 TL) s.heap.size = A at hD ⊢
  have hA : ∀ q : Nat, s.heap.size ≤ q → A q := fun q h => by rw [← hAe]; exact Or.inr h
  have hS : va_S A s.heap s.heap [] := va_S.rf
  have hx := B.exec
  have hb := B.bytes
  have hr := B.returns
  have hts := atoms_spec (ws := .code y_M_storeWord b_M_storeWord 2 none :: tb) B.pre
  have hk : ∀ w ∈ tb, w.before [.ref h0, .int a1].toArray s = true := fun w h => hts w (List.mem_cons_of_mem _ h)
  have hown : s.vm.findClass "SignMachine$Machine" = some m.cls := findClass_of_methodNamed B.named
  have hlocks := B.notSynchronized
  have hl := lv_entry ([.ref h0, .int a1]) (n := 2) (Nat.le_of_ble_eq_true rfl)
  rw [lg_entry_eq]
  generalize (lg_sl ([.ref h0, .int a1]) ++ List.replicate (2 - (lg_sl ([.ref h0, .int a1])).length) Slot.unset).toArray = ls at hl ⊢
  have hl : lv_has ls 2 [(0, .ref h0), (1, .int a1)] := hl
  refine lv_aload_n hx hb d_M_storeWord_0 rfl (lv_at hl 0 rfl) ?_
  refine lv_aload_n hx hb d_M_storeWord_1 rfl (lv_at hl 0 rfl) ?_
  refine va_get (D := D) (ci := 1) (v := .int mm) (C := "SignMachine$Machine") (T := F_M) (N := 14) hx hb hk fi_M hown hK.1 hP 0 rfl rfl 12 (by decide) (hk _ k_179) (fun _ h9 => h9) rfl d_M_storeWord_2 ?_
  refine lv_aload_n hx hb d_M_storeWord_5 rfl (lv_at hl 0 rfl) ?_
  refine lv_aload_n hx hb d_M_storeWord_6 rfl (lv_at hl 0 rfl) ?_
  refine va_get (D := D) (ci := 1) (v := .int mm) (C := "SignMachine$Machine") (T := F_M) (N := 14) hx hb hk fi_M hown hK.1 hP 0 rfl rfl 12 (by decide) (hk _ k_179) (fun _ h9 => h9) rfl d_M_storeWord_7 ?_
  refine cs_i (W.runV (C := "SignMachine$Machine") (As := [.int mm]) (rest := [.int mm, .ref h0]) ⟨hx, hb, hml, hown, hk⟩ (c_M_wordAt l D cI cJ cZ cB h0 h1 h2 h3 h4 tog ind tim nxt enD cod fld idx mm soz mem reg p1 w1 p2 w2 TL mm) (v_M_wordAt hk k_263 ⟨Nat.le_of_ble_eq_true rfl, Nat.le_of_ble_eq_true rfl⟩) (pR_v hK hP (ci := 1) (q0 := 0) rfl rfl rfl) rfl rfl hl.1 rfl (lv_room (Nat.le_of_ble_eq_true rfl)) d_M_storeWord_10 ⟨Nat.le_of_ble_eq_true rfl, Nat.le_of_ble_eq_true rfl⟩) ?_
  refine lv_iload_n hx hb d_M_storeWord_13 rfl (lv_at hl 1 rfl) ?_
  refine lv_aload_n hx hb d_M_storeWord_14 rfl (lv_at hl 0 rfl) ?_
  refine va_get (D := D) (ci := 1) (v := .int fld) (C := "SignMachine$Machine") (T := F_M) (N := 14) hx hb hk fi_M hown hK.1 hP 0 rfl rfl 10 (by decide) (hk _ k_177) (fun _ h9 => h9) rfl d_M_storeWord_15 ?_
  refine cs_i (W.runS (As := [.int (f_M_wordAt mem mm), .int a1, .int fld]) (rest := [.int mm, .ref h0]) ⟨hx, hb, hml, hown, hk⟩ (c_W_store l (f_M_wordAt mem mm) a1 fld) (s_W_store hk k_418 ⟨Nat.le_of_ble_eq_true rfl, Nat.le_of_ble_eq_true rfl⟩) ⟨fun a U g mk q => q, fun U hU hW => ⟨rfl, trivial⟩⟩ rfl rfl hl.1 rfl (lv_room (Nat.le_of_ble_eq_true rfl)) d_M_storeWord_18 ⟨Nat.le_of_ble_eq_true rfl, Nat.le_of_ble_eq_true rfl⟩) ?_
  refine ca_v (va_runV (C := "SignMachine$Machine") (As := [.int mm, .int (f_W_store (f_M_wordAt mem mm) a1 fld)]) (rest := []) ⟨hx, hb, hml, hown, hk⟩ (c_M_putWord l D cI cJ cZ cB h0 h1 h2 h3 h4 s.heap.size tog ind tim nxt enD cod fld idx mm soz mem reg p1 w1 p2 w2 TL mm (f_W_store (f_M_wordAt mem mm) a1 fld)) (v_M_putWord hk k_410 ⟨Nat.le_of_ble_eq_true rfl, Nat.le_of_ble_eq_true rfl⟩) (pM_v hK hP hD (ci := 1) (q0 := 0) rfl rfl rfl) rfl rfl hl.1 rfl (lv_room (Nat.le_of_ble_eq_true rfl)) d_M_storeWord_21 ⟨Nat.le_of_ble_eq_true rfl, Nat.le_of_ble_eq_true rfl⟩) hS hA hD (fun u H locs hz1 hP hS => ?_)
  obtain ⟨memz1, hu⟩ : ∃ y, y = u := ⟨_, rfl⟩
  subst hu
  have hP : va_P D classes (mW cI cJ cZ cB h0 h1 h2 h3 h4 tog ind tim nxt enD cod fld idx mm soz memz1 reg p1 w1 p2 w2 TL) H := hP
  have hD : va_D A (mW cI cJ cZ cB h0 h1 h2 h3 h4 tog ind tim nxt enD cod fld idx mm soz memz1 reg p1 w1 p2 w2 TL) := dsame hD rfl
  try dsimp only at hz1
  exact W.vret hx hb hr (fun t ht hW => ⟨⟨(memz1), rfl, by simp only [f_M_storeWord, ← hz1], by show va_P D classes _ t.heap; rw [ht]; exact hP⟩, hS.F ht⟩) hS.2.2 d_M_storeWord_24
theorem v_M_storeWord {R : Room} {s : State} {args : Array Value} {own : String} {index : Nat} (hk : ∀ w ∈ tb, w.before args s = true) (hl : Cond.methodLink own index y_M_storeWord ∈ tb) (hR : 2 + 1 ≤ R.frames ∧ 8 + (2 + 11) + 48 ≤ R.locals) : CallW R s args own "SignMachine$Machine" index y_M_storeWord b_M_storeWord 2 none (.code y_M_storeWord b_M_storeWord 2 none :: tb) ({ frames := 2, cells := 0, slots := 0, locals := 48 }) 0 0 1 := mk_v 1 hk k_417 hl k_416 k_23 k_117 rfl rfl h_M_storeWord hR
def f_M_goIf (nxt : Int32) (mm : Int32) (reg : Nat → Int32) (a1 : Int32) : (Int32) × (Nat → Int32) := (if a1 = (0 : Int32) then (nxt, reg) else (match (f_M_putRegister reg (8 : Int32) nxt) with | (regz2) => (mm, regz2)))
set_option maxHeartbeats 4000000 in
set_option maxRecDepth 100000 in
theorem c_M_goIf (l : Launch) (D : va_G) (cI cJ cZ cB : ClassId) (h0 h1 h2 h3 h4 : Nat) (sz : Nat) (tog : Int32) (ind : Int32) (tim : Int32) (nxt : Int32) (enD : Int32) (cod : Int32) (fld : Int32) (idx : Int32) (mm : Int32) (soz : Int32) (mem : Nat → Int32) (reg : Nat → Int32) (p1 : Int32) (w1 : Option Nat) (p2 : Int32) (w2 : Option Nat) (TL : va_W) (a1 : Int32) : Met l y_M_goIf (.code y_M_goIf b_M_goIf 2 none :: tb) ({ frames := 1, cells := 0, slots := 0, locals := 22 }) (pM D cI cJ cZ cB (mW cI cJ cZ cB h0 h1 h2 h3 h4 tog ind tim nxt enD cod fld idx mm soz mem reg p1 w1 p2 w2 TL) sz [.ref h0, .int a1]) (qV D (fun u => u = f_M_goIf nxt mm reg a1) (fun (u : (Int32) × (Nat → Int32)) => match u with | (u_nxt, u_reg) => (mW cI cJ cZ cB h0 h1 h2 h3 h4 tog ind tim u_nxt enD cod fld idx mm soz mem u_reg p1 w1 p2 w2 TL)) (va_A (mW cI cJ cZ cB h0 h1 h2 h3 h4 tog ind tim nxt enD cod fld idx mm soz mem reg p1 w1 p2 w2 TL) sz)) 0 0 (va_A (mW cI cJ cZ cB h0 h1 h2 h3 h4 tog ind tim nxt enD cod fld idx mm soz mem reg p1 w1 p2 w2 TL) sz) := by
  refine Met.ofW (cc := b_M_goIf) (maxL := 2) (ret := none) (by decide) rfl ?_
  intro p e s m args below meth c s₁ B hml hv
  obtain ⟨rfl, hsz, hK, hP, hD0⟩ := hv
  subst hsz
  have hD := hD0.self (sz := s.heap.size)
  generalize hAe : va_A (mW cI cJ cZ cB h0 h1 h2 h3 h4 tog ind tim nxt enD cod fld idx mm soz mem reg p1 w1 p2 w2 TL) s.heap.size = A at hD ⊢
  have hA : ∀ q : Nat, s.heap.size ≤ q → A q := fun q h => by rw [← hAe]; exact Or.inr h
  have hS : va_S A s.heap s.heap [] := va_S.rf
  have hx := B.exec
  have hb := B.bytes
  have hr := B.returns
  have hts := atoms_spec (ws := .code y_M_goIf b_M_goIf 2 none :: tb) B.pre
  have hk : ∀ w ∈ tb, w.before [.ref h0, .int a1].toArray s = true := fun w h => hts w (List.mem_cons_of_mem _ h)
  have hown : s.vm.findClass "SignMachine$Machine" = some m.cls := findClass_of_methodNamed B.named
  have hlocks := B.notSynchronized
  have hl := lv_entry ([.ref h0, .int a1]) (n := 2) (Nat.le_of_ble_eq_true rfl)
  rw [lg_entry_eq]
  generalize (lg_sl ([.ref h0, .int a1]) ++ List.replicate (2 - (lg_sl ([.ref h0, .int a1])).length) Slot.unset).toArray = ls at hl ⊢
  have hl : lv_has ls 2 [(0, .ref h0), (1, .int a1)] := hl
  refine lv_iload_n hx hb d_M_goIf_0 rfl (lv_at hl 1 rfl) ?_
  refine lv_if_eq (tgt := 22) hx hb d_M_goIf_1 (by decide) (fun c1 => ?_) (fun c1 => ?_)
  · exact W.vret hx hb hr (fun t ht hW => ⟨⟨(nxt, reg), rfl, by simp only [f_M_goIf, if_pos c1], by show va_P D classes _ t.heap; rw [ht]; exact hP⟩, hS.F ht⟩) hS.2.2 d_M_goIf_22
  · refine lv_aload_n hx hb d_M_goIf_4 rfl (lv_at hl 0 rfl) ?_
    refine lv_bipush (v := 8) hx hb d_M_goIf_5 (by decide) ?_
    refine lv_aload_n hx hb d_M_goIf_7 rfl (lv_at hl 0 rfl) ?_
    refine va_get (D := D) (ci := 1) (v := .int nxt) (C := "SignMachine$Machine") (T := F_M) (N := 14) hx hb hk fi_M hown hK.1 hP 0 rfl rfl 7 (by decide) (hk _ k_174) (fun _ h9 => h9) rfl d_M_goIf_8 ?_
    refine ca_v (va_runV (C := "SignMachine$Machine") (As := [.int (8 : Int32), .int nxt]) (rest := []) ⟨hx, hb, hml, hown, hk⟩ (c_M_putRegister l D cI cJ cZ cB h0 h1 h2 h3 h4 s.heap.size tog ind tim nxt enD cod fld idx mm soz mem reg p1 w1 p2 w2 TL (8 : Int32) nxt) (v_M_putRegister hk k_362 ⟨Nat.le_of_ble_eq_true rfl, Nat.le_of_ble_eq_true rfl⟩) (pM_v hK hP hD (ci := 1) (q0 := 0) rfl rfl rfl) rfl rfl hl.1 rfl (lv_room (Nat.le_of_ble_eq_true rfl)) d_M_goIf_11 ⟨Nat.le_of_ble_eq_true rfl, Nat.le_of_ble_eq_true rfl⟩) hS hA hD (fun u H locs hz2 hP hS => ?_)
    obtain ⟨regz2, hu⟩ : ∃ y, y = u := ⟨_, rfl⟩
    subst hu
    have hP : va_P D classes (mW cI cJ cZ cB h0 h1 h2 h3 h4 tog ind tim nxt enD cod fld idx mm soz mem regz2 p1 w1 p2 w2 TL) H := hP
    have hD : va_D A (mW cI cJ cZ cB h0 h1 h2 h3 h4 tog ind tim nxt enD cod fld idx mm soz mem regz2 p1 w1 p2 w2 TL) := dsame hD rfl
    try dsimp only at hz2
    refine lv_aload_n hx hb d_M_goIf_14 rfl (lv_at hl 0 rfl) ?_
    refine lv_aload_n hx hb d_M_goIf_15 rfl (lv_at hl 0 rfl) ?_
    refine va_get (D := D) (ci := 1) (v := .int mm) (C := "SignMachine$Machine") (T := F_M) (N := 14) hx hb hk fi_M hown hK.1 hP 0 rfl rfl 12 (by decide) (hk _ k_179) (fun _ h9 => h9) rfl d_M_goIf_16 ?_
    refine va_put (D := D) (ci := 1) (v := .int mm) (ty := .int) (C := "SignMachine$Machine") (T := F_M) (N := 14) hx hb hk fi_M ft_M ft_M_ok fn_M hown hK.1 hP hD hS 0 rfl rfl 7 (by decide) (hk _ k_174) (fun _ h9 => h9) rfl (by decide +kernel) rfl rfl (Nat.le_of_ble_eq_true rfl) d_M_goIf_19 (fun H locs hP hD hS => ?_)
    have hP : va_P D classes (mW cI cJ cZ cB h0 h1 h2 h3 h4 tog ind tim mm enD cod fld idx mm soz mem regz2 p1 w1 p2 w2 TL) H := hP
    have hD : va_D A (mW cI cJ cZ cB h0 h1 h2 h3 h4 tog ind tim mm enD cod fld idx mm soz mem regz2 p1 w1 p2 w2 TL) := hD
    exact W.vret hx hb hr (fun t ht hW => ⟨⟨(mm, regz2), rfl, by simp only [f_M_goIf, if_neg c1, ← hz2], by show va_P D classes _ t.heap; rw [ht]; exact hP⟩, hS.F ht⟩) hS.2.2 d_M_goIf_22
theorem v_M_goIf {R : Room} {s : State} {args : Array Value} {own : String} {index : Nat} (hk : ∀ w ∈ tb, w.before args s = true) (hl : Cond.methodLink own index y_M_goIf ∈ tb) (hR : 1 + 1 ≤ R.frames ∧ 8 + (2 + 11) + 22 ≤ R.locals) : CallW R s args own "SignMachine$Machine" index y_M_goIf b_M_goIf 2 none (.code y_M_goIf b_M_goIf 2 none :: tb) ({ frames := 1, cells := 0, slots := 0, locals := 22 }) 0 0 1 := mk_v 1 hk k_451 hl k_450 k_28 k_117 rfl rfl h_M_goIf hR
def f_M_decode (reg : Nat → Int32) (a1 : Int32) : (Int32) × (Int32) × (Int32) × (Int32) × (Int32) := (if (f_W_sign a1) = (0 : Int32) then (if (bI (f_M_isIndex (((f_W_size a1) >>> ((12 : Int32) &&& (31 : Int32))) &&& (63 : Int32)))) = (0 : Int32) then (((f_W_size a1) &&& (63 : Int32)), (((f_W_size a1) >>> ((6 : Int32) &&& (31 : Int32))) &&& (63 : Int32)), (((f_W_size a1) >>> ((12 : Int32) &&& (31 : Int32))) &&& (63 : Int32)), ((f_W_size a1) >>> ((18 : Int32) &&& (31 : Int32))), (f_W_sign a1)) else (((f_W_size a1) &&& (63 : Int32)), (((f_W_size a1) >>> ((6 : Int32) &&& (31 : Int32))) &&& (63 : Int32)), (((f_W_size a1) >>> ((12 : Int32) &&& (31 : Int32))) &&& (63 : Int32)), (((f_W_size a1) >>> ((18 : Int32) &&& (31 : Int32))) + (f_W_number (f_M_register reg (((f_W_size a1) >>> ((12 : Int32) &&& (31 : Int32))) &&& (63 : Int32))))), (f_W_sign a1))) else (if (bI (f_M_isIndex (((f_W_size a1) >>> ((12 : Int32) &&& (31 : Int32))) &&& (63 : Int32)))) = (0 : Int32) then (((f_W_size a1) &&& (63 : Int32)), (((f_W_size a1) >>> ((6 : Int32) &&& (31 : Int32))) &&& (63 : Int32)), (((f_W_size a1) >>> ((12 : Int32) &&& (31 : Int32))) &&& (63 : Int32)), (-((f_W_size a1) >>> ((18 : Int32) &&& (31 : Int32)))), (f_W_sign a1)) else (((f_W_size a1) &&& (63 : Int32)), (((f_W_size a1) >>> ((6 : Int32) &&& (31 : Int32))) &&& (63 : Int32)), (((f_W_size a1) >>> ((12 : Int32) &&& (31 : Int32))) &&& (63 : Int32)), ((-((f_W_size a1) >>> ((18 : Int32) &&& (31 : Int32)))) + (f_W_number (f_M_register reg (((f_W_size a1) >>> ((12 : Int32) &&& (31 : Int32))) &&& (63 : Int32))))), (f_W_sign a1))))
set_option maxHeartbeats 4000000 in
set_option maxRecDepth 100000 in
theorem c_M_decode (l : Launch) (D : va_G) (cI cJ cZ cB : ClassId) (h0 h1 h2 h3 h4 : Nat) (sz : Nat) (tog : Int32) (ind : Int32) (tim : Int32) (nxt : Int32) (enD : Int32) (cod : Int32) (fld : Int32) (idx : Int32) (mm : Int32) (soz : Int32) (mem : Nat → Int32) (reg : Nat → Int32) (p1 : Int32) (w1 : Option Nat) (p2 : Int32) (w2 : Option Nat) (TL : va_W) (a1 : Int32) : Met l y_M_decode (.code y_M_decode b_M_decode 4 none :: tb) ({ frames := 1, cells := 0, slots := 0, locals := 21 }) (pM D cI cJ cZ cB (mW cI cJ cZ cB h0 h1 h2 h3 h4 tog ind tim nxt enD cod fld idx mm soz mem reg p1 w1 p2 w2 TL) sz [.ref h0, .int a1]) (qV D (fun u => u = f_M_decode reg a1) (fun (u : (Int32) × (Int32) × (Int32) × (Int32) × (Int32)) => match u with | (u_cod, u_fld, u_idx, u_mm, u_soz) => (mW cI cJ cZ cB h0 h1 h2 h3 h4 tog ind tim nxt enD u_cod u_fld u_idx u_mm u_soz mem reg p1 w1 p2 w2 TL)) (va_A (mW cI cJ cZ cB h0 h1 h2 h3 h4 tog ind tim nxt enD cod fld idx mm soz mem reg p1 w1 p2 w2 TL) sz)) 0 0 (va_A (mW cI cJ cZ cB h0 h1 h2 h3 h4 tog ind tim nxt enD cod fld idx mm soz mem reg p1 w1 p2 w2 TL) sz) := by
  refine Met.ofW (cc := b_M_decode) (maxL := 4) (ret := none) (by decide) rfl ?_
  intro p e s m args below meth c s₁ B hml hv
  obtain ⟨rfl, hsz, hK, hP, hD0⟩ := hv
  subst hsz
  have hD := hD0.self (sz := s.heap.size)
  generalize hAe : va_A (mW cI cJ cZ cB h0 h1 h2 h3 h4 tog ind tim nxt enD cod fld idx mm soz mem reg p1 w1 p2 w2 TL) s.heap.size = A at hD ⊢
  have hA : ∀ q : Nat, s.heap.size ≤ q → A q := fun q h => by rw [← hAe]; exact Or.inr h
  have hS : va_S A s.heap s.heap [] := va_S.rf
  have hx := B.exec
  have hb := B.bytes
  have hr := B.returns
  have hts := atoms_spec (ws := .code y_M_decode b_M_decode 4 none :: tb) B.pre
  have hk : ∀ w ∈ tb, w.before [.ref h0, .int a1].toArray s = true := fun w h => hts w (List.mem_cons_of_mem _ h)
  have hown : s.vm.findClass "SignMachine$Machine" = some m.cls := findClass_of_methodNamed B.named
  have hlocks := B.notSynchronized
  have hl := lv_entry ([.ref h0, .int a1]) (n := 4) (Nat.le_of_ble_eq_true rfl)
  rw [lg_entry_eq]
  generalize (lg_sl ([.ref h0, .int a1]) ++ List.replicate (4 - (lg_sl ([.ref h0, .int a1])).length) Slot.unset).toArray = ls at hl ⊢
  have hl : lv_has ls 4 [(0, .ref h0), (1, .int a1)] := hl
  refine lv_iload_n hx hb d_M_decode_0 rfl (lv_at hl 1 rfl) ?_
  refine cs_i (W.runS (As := [.int a1]) (rest := []) ⟨hx, hb, hml, hown, hk⟩ (c_W_size l a1) (s_W_size hk k_268 ⟨Nat.le_of_ble_eq_true rfl, Nat.le_of_ble_eq_true rfl⟩) ⟨fun a U g mk q => q, fun U hU hW => ⟨rfl, trivial⟩⟩ rfl rfl hl.1 rfl (lv_room (Nat.le_of_ble_eq_true rfl)) d_M_decode_1 ⟨Nat.le_of_ble_eq_true rfl, Nat.le_of_ble_eq_true rfl⟩) ?_
  refine lv_istore_n (lv' := [(2, .int (f_W_size a1)), (0, .ref h0), (1, .int a1)]) hx hb d_M_decode_4 rfl hl (by decide) rfl (fun ls hl => ?_)
  refine lv_aload_n hx hb d_M_decode_5 rfl (lv_at hl 1 rfl) ?_
  refine lv_iload_n hx hb d_M_decode_6 rfl (lv_at hl 0 rfl) ?_
  refine lv_bipush (v := 63) hx hb d_M_decode_7 (by decide) ?_
  refine lv_iand hx hb d_M_decode_9 ?_
  refine va_put (D := D) (ci := 1) (v := .int ((f_W_size a1) &&& (63 : Int32))) (ty := .int) (C := "SignMachine$Machine") (T := F_M) (N := 14) hx hb hk fi_M ft_M ft_M_ok fn_M hown hK.1 hP hD hS 0 rfl rfl 9 (by decide) (hk _ k_176) (fun _ h9 => h9) rfl (by decide +kernel) rfl rfl (Nat.le_of_ble_eq_true rfl) d_M_decode_10 (fun H locs hP hD hS => ?_)
  have hP : va_P D classes (mW cI cJ cZ cB h0 h1 h2 h3 h4 tog ind tim nxt enD ((f_W_size a1) &&& (63 : Int32)) fld idx mm soz mem reg p1 w1 p2 w2 TL) H := hP
  have hD : va_D A (mW cI cJ cZ cB h0 h1 h2 h3 h4 tog ind tim nxt enD ((f_W_size a1) &&& (63 : Int32)) fld idx mm soz mem reg p1 w1 p2 w2 TL) := hD
  refine lv_aload_n hx hb d_M_decode_13 rfl (lv_at hl 1 rfl) ?_
  refine lv_iload_n hx hb d_M_decode_14 rfl (lv_at hl 0 rfl) ?_
  refine lv_bipush (v := 6) hx hb d_M_decode_15 (by decide) ?_
  refine lv_ishr hx hb d_M_decode_17 ?_
  refine lv_bipush (v := 63) hx hb d_M_decode_18 (by decide) ?_
  refine lv_iand hx hb d_M_decode_20 ?_
  refine va_put (D := D) (ci := 1) (v := .int (((f_W_size a1) >>> ((6 : Int32) &&& (31 : Int32))) &&& (63 : Int32))) (ty := .int) (C := "SignMachine$Machine") (T := F_M) (N := 14) hx hb hk fi_M ft_M ft_M_ok fn_M hown hK.1 hP hD hS 0 rfl rfl 10 (by decide) (hk _ k_177) (fun _ h9 => h9) rfl (by decide +kernel) rfl rfl (Nat.le_of_ble_eq_true rfl) d_M_decode_21 (fun H locs hP hD hS => ?_)
  have hP : va_P D classes (mW cI cJ cZ cB h0 h1 h2 h3 h4 tog ind tim nxt enD ((f_W_size a1) &&& (63 : Int32)) (((f_W_size a1) >>> ((6 : Int32) &&& (31 : Int32))) &&& (63 : Int32)) idx mm soz mem reg p1 w1 p2 w2 TL) H := hP
  have hD : va_D A (mW cI cJ cZ cB h0 h1 h2 h3 h4 tog ind tim nxt enD ((f_W_size a1) &&& (63 : Int32)) (((f_W_size a1) >>> ((6 : Int32) &&& (31 : Int32))) &&& (63 : Int32)) idx mm soz mem reg p1 w1 p2 w2 TL) := hD
  refine lv_aload_n hx hb d_M_decode_24 rfl (lv_at hl 1 rfl) ?_
  refine lv_iload_n hx hb d_M_decode_25 rfl (lv_at hl 0 rfl) ?_
  refine lv_bipush (v := 12) hx hb d_M_decode_26 (by decide) ?_
  refine lv_ishr hx hb d_M_decode_28 ?_
  refine lv_bipush (v := 63) hx hb d_M_decode_29 (by decide) ?_
  refine lv_iand hx hb d_M_decode_31 ?_
  refine va_put (D := D) (ci := 1) (v := .int (((f_W_size a1) >>> ((12 : Int32) &&& (31 : Int32))) &&& (63 : Int32))) (ty := .int) (C := "SignMachine$Machine") (T := F_M) (N := 14) hx hb hk fi_M ft_M ft_M_ok fn_M hown hK.1 hP hD hS 0 rfl rfl 11 (by decide) (hk _ k_178) (fun _ h9 => h9) rfl (by decide +kernel) rfl rfl (Nat.le_of_ble_eq_true rfl) d_M_decode_32 (fun H locs hP hD hS => ?_)
  have hP : va_P D classes (mW cI cJ cZ cB h0 h1 h2 h3 h4 tog ind tim nxt enD ((f_W_size a1) &&& (63 : Int32)) (((f_W_size a1) >>> ((6 : Int32) &&& (31 : Int32))) &&& (63 : Int32)) (((f_W_size a1) >>> ((12 : Int32) &&& (31 : Int32))) &&& (63 : Int32)) mm soz mem reg p1 w1 p2 w2 TL) H := hP
  have hD : va_D A (mW cI cJ cZ cB h0 h1 h2 h3 h4 tog ind tim nxt enD ((f_W_size a1) &&& (63 : Int32)) (((f_W_size a1) >>> ((6 : Int32) &&& (31 : Int32))) &&& (63 : Int32)) (((f_W_size a1) >>> ((12 : Int32) &&& (31 : Int32))) &&& (63 : Int32)) mm soz mem reg p1 w1 p2 w2 TL) := hD
  refine lv_aload_n hx hb d_M_decode_35 rfl (lv_at hl 1 rfl) ?_
  refine lv_iload_n hx hb d_M_decode_36 rfl (lv_at hl 2 rfl) ?_
  refine cs_i (W.runS (As := [.int a1]) (rest := [.ref h0]) ⟨hx, hb, hml, hown, hk⟩ (c_W_sign l a1) (s_W_sign hk k_269 ⟨Nat.le_of_ble_eq_true rfl, Nat.le_of_ble_eq_true rfl⟩) ⟨fun a U g mk q => q, fun U hU hW => ⟨rfl, trivial⟩⟩ rfl rfl hl.1 rfl (lv_room (Nat.le_of_ble_eq_true rfl)) d_M_decode_37 ⟨Nat.le_of_ble_eq_true rfl, Nat.le_of_ble_eq_true rfl⟩) ?_
  refine va_put (D := D) (ci := 1) (v := .int (f_W_sign a1)) (ty := .int) (C := "SignMachine$Machine") (T := F_M) (N := 14) hx hb hk fi_M ft_M ft_M_ok fn_M hown hK.1 hP hD hS 0 rfl rfl 13 (by decide) (hk _ k_180) (fun _ h9 => h9) rfl (by decide +kernel) rfl rfl (Nat.le_of_ble_eq_true rfl) d_M_decode_40 (fun H locs hP hD hS => ?_)
  have hP : va_P D classes (mW cI cJ cZ cB h0 h1 h2 h3 h4 tog ind tim nxt enD ((f_W_size a1) &&& (63 : Int32)) (((f_W_size a1) >>> ((6 : Int32) &&& (31 : Int32))) &&& (63 : Int32)) (((f_W_size a1) >>> ((12 : Int32) &&& (31 : Int32))) &&& (63 : Int32)) mm (f_W_sign a1) mem reg p1 w1 p2 w2 TL) H := hP
  have hD : va_D A (mW cI cJ cZ cB h0 h1 h2 h3 h4 tog ind tim nxt enD ((f_W_size a1) &&& (63 : Int32)) (((f_W_size a1) >>> ((6 : Int32) &&& (31 : Int32))) &&& (63 : Int32)) (((f_W_size a1) >>> ((12 : Int32) &&& (31 : Int32))) &&& (63 : Int32)) mm (f_W_sign a1) mem reg p1 w1 p2 w2 TL) := hD
  refine lv_iload_n hx hb d_M_decode_43 rfl (lv_at hl 0 rfl) ?_
  refine lv_bipush (v := 18) hx hb d_M_decode_44 (by decide) ?_
  refine lv_ishr hx hb d_M_decode_46 ?_
  refine lv_istore_n (lv' := [(3, .int ((f_W_size a1) >>> ((18 : Int32) &&& (31 : Int32)))), (2, .int (f_W_size a1)), (0, .ref h0), (1, .int a1)]) hx hb d_M_decode_47 rfl hl (by decide) rfl (fun ls hl => ?_)
  refine lv_aload_n hx hb d_M_decode_48 rfl (lv_at hl 2 rfl) ?_
  refine lv_aload_n hx hb d_M_decode_49 rfl (lv_at hl 2 rfl) ?_
  refine va_get (D := D) (ci := 1) (v := .int (f_W_sign a1)) (C := "SignMachine$Machine") (T := F_M) (N := 14) hx hb hk fi_M hown hK.1 hP 0 rfl rfl 13 (by decide) (hk _ k_180) (fun _ h9 => h9) rfl d_M_decode_50 ?_
  refine lv_if_ne (tgt := 60) hx hb d_M_decode_53 (by decide) (fun c1 => ?_) (fun c1 => ?_)
  · refine lv_iload_n hx hb d_M_decode_60 rfl (lv_at hl 0 rfl) ?_
    refine lv_ineg hx hb d_M_decode_61 ?_
    refine va_put (D := D) (ci := 1) (v := .int (-((f_W_size a1) >>> ((18 : Int32) &&& (31 : Int32))))) (ty := .int) (C := "SignMachine$Machine") (T := F_M) (N := 14) hx hb hk fi_M ft_M ft_M_ok fn_M hown hK.1 hP hD hS 0 rfl rfl 12 (by decide) (hk _ k_179) (fun _ h9 => h9) rfl (by decide +kernel) rfl rfl (Nat.le_of_ble_eq_true rfl) d_M_decode_62 (fun H locs hP hD hS => ?_)
    have hP : va_P D classes (mW cI cJ cZ cB h0 h1 h2 h3 h4 tog ind tim nxt enD ((f_W_size a1) &&& (63 : Int32)) (((f_W_size a1) >>> ((6 : Int32) &&& (31 : Int32))) &&& (63 : Int32)) (((f_W_size a1) >>> ((12 : Int32) &&& (31 : Int32))) &&& (63 : Int32)) (-((f_W_size a1) >>> ((18 : Int32) &&& (31 : Int32)))) (f_W_sign a1) mem reg p1 w1 p2 w2 TL) H := hP
    have hD : va_D A (mW cI cJ cZ cB h0 h1 h2 h3 h4 tog ind tim nxt enD ((f_W_size a1) &&& (63 : Int32)) (((f_W_size a1) >>> ((6 : Int32) &&& (31 : Int32))) &&& (63 : Int32)) (((f_W_size a1) >>> ((12 : Int32) &&& (31 : Int32))) &&& (63 : Int32)) (-((f_W_size a1) >>> ((18 : Int32) &&& (31 : Int32)))) (f_W_sign a1) mem reg p1 w1 p2 w2 TL) := hD
    refine lv_aload_n hx hb d_M_decode_65 rfl (lv_at hl 2 rfl) ?_
    refine va_get (D := D) (ci := 1) (v := .int (((f_W_size a1) >>> ((12 : Int32) &&& (31 : Int32))) &&& (63 : Int32))) (C := "SignMachine$Machine") (T := F_M) (N := 14) hx hb hk fi_M hown hK.1 hP 0 rfl rfl 11 (by decide) (hk _ k_178) (fun _ h9 => h9) rfl d_M_decode_66 ?_
    refine cs_i (W.runS (As := [.int (((f_W_size a1) >>> ((12 : Int32) &&& (31 : Int32))) &&& (63 : Int32))]) (rest := []) ⟨hx, hb, hml, hown, hk⟩ (c_M_isIndex l (((f_W_size a1) >>> ((12 : Int32) &&& (31 : Int32))) &&& (63 : Int32))) (s_M_isIndex hk k_270 ⟨Nat.le_of_ble_eq_true rfl, Nat.le_of_ble_eq_true rfl⟩) ⟨fun a U g mk q => q, fun U hU hW => ⟨rfl, trivial⟩⟩ rfl rfl hl.1 rfl (lv_room (Nat.le_of_ble_eq_true rfl)) d_M_decode_69 ⟨Nat.le_of_ble_eq_true rfl, Nat.le_of_ble_eq_true rfl⟩) ?_
    refine lv_if_eq (tgt := 95) hx hb d_M_decode_72 (by decide) (fun c2 => ?_) (fun c2 => ?_)
    · exact W.vret hx hb hr (fun t ht hW => ⟨⟨(((f_W_size a1) &&& (63 : Int32)), (((f_W_size a1) >>> ((6 : Int32) &&& (31 : Int32))) &&& (63 : Int32)), (((f_W_size a1) >>> ((12 : Int32) &&& (31 : Int32))) &&& (63 : Int32)), (-((f_W_size a1) >>> ((18 : Int32) &&& (31 : Int32)))), (f_W_sign a1)), rfl, by simp only [f_M_decode, if_neg c1, if_pos c2], by show va_P D classes _ t.heap; rw [ht]; exact hP⟩, hS.F ht⟩) hS.2.2 d_M_decode_95
    · refine lv_aload_n hx hb d_M_decode_75 rfl (lv_at hl 2 rfl) ?_
      refine lv_dup hx hb d_M_decode_76 rfl ?_
      refine va_get (D := D) (ci := 1) (v := .int (-((f_W_size a1) >>> ((18 : Int32) &&& (31 : Int32))))) (C := "SignMachine$Machine") (T := F_M) (N := 14) hx hb hk fi_M hown hK.1 hP 0 rfl rfl 12 (by decide) (hk _ k_179) (fun _ h9 => h9) rfl d_M_decode_77 ?_
      refine lv_aload_n hx hb d_M_decode_80 rfl (lv_at hl 2 rfl) ?_
      refine lv_aload_n hx hb d_M_decode_81 rfl (lv_at hl 2 rfl) ?_
      refine va_get (D := D) (ci := 1) (v := .int (((f_W_size a1) >>> ((12 : Int32) &&& (31 : Int32))) &&& (63 : Int32))) (C := "SignMachine$Machine") (T := F_M) (N := 14) hx hb hk fi_M hown hK.1 hP 0 rfl rfl 11 (by decide) (hk _ k_178) (fun _ h9 => h9) rfl d_M_decode_82 ?_
      refine cs_i (W.runV (C := "SignMachine$Machine") (As := [.int (((f_W_size a1) >>> ((12 : Int32) &&& (31 : Int32))) &&& (63 : Int32))]) (rest := [.int (-((f_W_size a1) >>> ((18 : Int32) &&& (31 : Int32)))), .ref h0]) ⟨hx, hb, hml, hown, hk⟩ (c_M_register l D cI cJ cZ cB h0 h1 h2 h3 h4 tog ind tim nxt enD ((f_W_size a1) &&& (63 : Int32)) (((f_W_size a1) >>> ((6 : Int32) &&& (31 : Int32))) &&& (63 : Int32)) (((f_W_size a1) >>> ((12 : Int32) &&& (31 : Int32))) &&& (63 : Int32)) (-((f_W_size a1) >>> ((18 : Int32) &&& (31 : Int32)))) (f_W_sign a1) mem reg p1 w1 p2 w2 TL (((f_W_size a1) >>> ((12 : Int32) &&& (31 : Int32))) &&& (63 : Int32))) (v_M_register hk k_273 ⟨Nat.le_of_ble_eq_true rfl, Nat.le_of_ble_eq_true rfl⟩) (pR_v hK hP (ci := 1) (q0 := 0) rfl rfl rfl) rfl rfl hl.1 rfl (lv_room (Nat.le_of_ble_eq_true rfl)) d_M_decode_85 ⟨Nat.le_of_ble_eq_true rfl, Nat.le_of_ble_eq_true rfl⟩) ?_
      refine cs_i (W.runS (As := [.int (f_M_register reg (((f_W_size a1) >>> ((12 : Int32) &&& (31 : Int32))) &&& (63 : Int32)))]) (rest := [.int (-((f_W_size a1) >>> ((18 : Int32) &&& (31 : Int32)))), .ref h0]) ⟨hx, hb, hml, hown, hk⟩ (c_W_number l (f_M_register reg (((f_W_size a1) >>> ((12 : Int32) &&& (31 : Int32))) &&& (63 : Int32)))) (s_W_number hk k_277 ⟨Nat.le_of_ble_eq_true rfl, Nat.le_of_ble_eq_true rfl⟩) ⟨fun a U g mk q => q, fun U hU hW => ⟨rfl, trivial⟩⟩ rfl rfl hl.1 rfl (lv_room (Nat.le_of_ble_eq_true rfl)) d_M_decode_88 ⟨Nat.le_of_ble_eq_true rfl, Nat.le_of_ble_eq_true rfl⟩) ?_
      refine lv_iadd hx hb d_M_decode_91 ?_
      refine va_put (D := D) (ci := 1) (v := .int ((-((f_W_size a1) >>> ((18 : Int32) &&& (31 : Int32)))) + (f_W_number (f_M_register reg (((f_W_size a1) >>> ((12 : Int32) &&& (31 : Int32))) &&& (63 : Int32)))))) (ty := .int) (C := "SignMachine$Machine") (T := F_M) (N := 14) hx hb hk fi_M ft_M ft_M_ok fn_M hown hK.1 hP hD hS 0 rfl rfl 12 (by decide) (hk _ k_179) (fun _ h9 => h9) rfl (by decide +kernel) rfl rfl (Nat.le_of_ble_eq_true rfl) d_M_decode_92 (fun H locs hP hD hS => ?_)
      have hP : va_P D classes (mW cI cJ cZ cB h0 h1 h2 h3 h4 tog ind tim nxt enD ((f_W_size a1) &&& (63 : Int32)) (((f_W_size a1) >>> ((6 : Int32) &&& (31 : Int32))) &&& (63 : Int32)) (((f_W_size a1) >>> ((12 : Int32) &&& (31 : Int32))) &&& (63 : Int32)) ((-((f_W_size a1) >>> ((18 : Int32) &&& (31 : Int32)))) + (f_W_number (f_M_register reg (((f_W_size a1) >>> ((12 : Int32) &&& (31 : Int32))) &&& (63 : Int32))))) (f_W_sign a1) mem reg p1 w1 p2 w2 TL) H := hP
      have hD : va_D A (mW cI cJ cZ cB h0 h1 h2 h3 h4 tog ind tim nxt enD ((f_W_size a1) &&& (63 : Int32)) (((f_W_size a1) >>> ((6 : Int32) &&& (31 : Int32))) &&& (63 : Int32)) (((f_W_size a1) >>> ((12 : Int32) &&& (31 : Int32))) &&& (63 : Int32)) ((-((f_W_size a1) >>> ((18 : Int32) &&& (31 : Int32)))) + (f_W_number (f_M_register reg (((f_W_size a1) >>> ((12 : Int32) &&& (31 : Int32))) &&& (63 : Int32))))) (f_W_sign a1) mem reg p1 w1 p2 w2 TL) := hD
      exact W.vret hx hb hr (fun t ht hW => ⟨⟨(((f_W_size a1) &&& (63 : Int32)), (((f_W_size a1) >>> ((6 : Int32) &&& (31 : Int32))) &&& (63 : Int32)), (((f_W_size a1) >>> ((12 : Int32) &&& (31 : Int32))) &&& (63 : Int32)), ((-((f_W_size a1) >>> ((18 : Int32) &&& (31 : Int32)))) + (f_W_number (f_M_register reg (((f_W_size a1) >>> ((12 : Int32) &&& (31 : Int32))) &&& (63 : Int32))))), (f_W_sign a1)), rfl, by simp only [f_M_decode, if_neg c1, if_neg c2], by show va_P D classes _ t.heap; rw [ht]; exact hP⟩, hS.F ht⟩) hS.2.2 d_M_decode_95
  · refine lv_iload_n hx hb d_M_decode_56 rfl (lv_at hl 0 rfl) ?_
    refine lv_goto (tgt := 62) hx hb d_M_decode_57 (by decide) ?_
    refine va_put (D := D) (ci := 1) (v := .int ((f_W_size a1) >>> ((18 : Int32) &&& (31 : Int32)))) (ty := .int) (C := "SignMachine$Machine") (T := F_M) (N := 14) hx hb hk fi_M ft_M ft_M_ok fn_M hown hK.1 hP hD hS 0 rfl rfl 12 (by decide) (hk _ k_179) (fun _ h9 => h9) rfl (by decide +kernel) rfl rfl (Nat.le_of_ble_eq_true rfl) d_M_decode_62 (fun H locs hP hD hS => ?_)
    have hP : va_P D classes (mW cI cJ cZ cB h0 h1 h2 h3 h4 tog ind tim nxt enD ((f_W_size a1) &&& (63 : Int32)) (((f_W_size a1) >>> ((6 : Int32) &&& (31 : Int32))) &&& (63 : Int32)) (((f_W_size a1) >>> ((12 : Int32) &&& (31 : Int32))) &&& (63 : Int32)) ((f_W_size a1) >>> ((18 : Int32) &&& (31 : Int32))) (f_W_sign a1) mem reg p1 w1 p2 w2 TL) H := hP
    have hD : va_D A (mW cI cJ cZ cB h0 h1 h2 h3 h4 tog ind tim nxt enD ((f_W_size a1) &&& (63 : Int32)) (((f_W_size a1) >>> ((6 : Int32) &&& (31 : Int32))) &&& (63 : Int32)) (((f_W_size a1) >>> ((12 : Int32) &&& (31 : Int32))) &&& (63 : Int32)) ((f_W_size a1) >>> ((18 : Int32) &&& (31 : Int32))) (f_W_sign a1) mem reg p1 w1 p2 w2 TL) := hD
    refine lv_aload_n hx hb d_M_decode_65 rfl (lv_at hl 2 rfl) ?_
    refine va_get (D := D) (ci := 1) (v := .int (((f_W_size a1) >>> ((12 : Int32) &&& (31 : Int32))) &&& (63 : Int32))) (C := "SignMachine$Machine") (T := F_M) (N := 14) hx hb hk fi_M hown hK.1 hP 0 rfl rfl 11 (by decide) (hk _ k_178) (fun _ h9 => h9) rfl d_M_decode_66 ?_
    refine cs_i (W.runS (As := [.int (((f_W_size a1) >>> ((12 : Int32) &&& (31 : Int32))) &&& (63 : Int32))]) (rest := []) ⟨hx, hb, hml, hown, hk⟩ (c_M_isIndex l (((f_W_size a1) >>> ((12 : Int32) &&& (31 : Int32))) &&& (63 : Int32))) (s_M_isIndex hk k_270 ⟨Nat.le_of_ble_eq_true rfl, Nat.le_of_ble_eq_true rfl⟩) ⟨fun a U g mk q => q, fun U hU hW => ⟨rfl, trivial⟩⟩ rfl rfl hl.1 rfl (lv_room (Nat.le_of_ble_eq_true rfl)) d_M_decode_69 ⟨Nat.le_of_ble_eq_true rfl, Nat.le_of_ble_eq_true rfl⟩) ?_
    refine lv_if_eq (tgt := 95) hx hb d_M_decode_72 (by decide) (fun c3 => ?_) (fun c3 => ?_)
    · exact W.vret hx hb hr (fun t ht hW => ⟨⟨(((f_W_size a1) &&& (63 : Int32)), (((f_W_size a1) >>> ((6 : Int32) &&& (31 : Int32))) &&& (63 : Int32)), (((f_W_size a1) >>> ((12 : Int32) &&& (31 : Int32))) &&& (63 : Int32)), ((f_W_size a1) >>> ((18 : Int32) &&& (31 : Int32))), (f_W_sign a1)), rfl, by simp only [f_M_decode, if_pos c1, if_pos c3], by show va_P D classes _ t.heap; rw [ht]; exact hP⟩, hS.F ht⟩) hS.2.2 d_M_decode_95
    · refine lv_aload_n hx hb d_M_decode_75 rfl (lv_at hl 2 rfl) ?_
      refine lv_dup hx hb d_M_decode_76 rfl ?_
      refine va_get (D := D) (ci := 1) (v := .int ((f_W_size a1) >>> ((18 : Int32) &&& (31 : Int32)))) (C := "SignMachine$Machine") (T := F_M) (N := 14) hx hb hk fi_M hown hK.1 hP 0 rfl rfl 12 (by decide) (hk _ k_179) (fun _ h9 => h9) rfl d_M_decode_77 ?_
      refine lv_aload_n hx hb d_M_decode_80 rfl (lv_at hl 2 rfl) ?_
      refine lv_aload_n hx hb d_M_decode_81 rfl (lv_at hl 2 rfl) ?_
      refine va_get (D := D) (ci := 1) (v := .int (((f_W_size a1) >>> ((12 : Int32) &&& (31 : Int32))) &&& (63 : Int32))) (C := "SignMachine$Machine") (T := F_M) (N := 14) hx hb hk fi_M hown hK.1 hP 0 rfl rfl 11 (by decide) (hk _ k_178) (fun _ h9 => h9) rfl d_M_decode_82 ?_
      refine cs_i (W.runV (C := "SignMachine$Machine") (As := [.int (((f_W_size a1) >>> ((12 : Int32) &&& (31 : Int32))) &&& (63 : Int32))]) (rest := [.int ((f_W_size a1) >>> ((18 : Int32) &&& (31 : Int32))), .ref h0]) ⟨hx, hb, hml, hown, hk⟩ (c_M_register l D cI cJ cZ cB h0 h1 h2 h3 h4 tog ind tim nxt enD ((f_W_size a1) &&& (63 : Int32)) (((f_W_size a1) >>> ((6 : Int32) &&& (31 : Int32))) &&& (63 : Int32)) (((f_W_size a1) >>> ((12 : Int32) &&& (31 : Int32))) &&& (63 : Int32)) ((f_W_size a1) >>> ((18 : Int32) &&& (31 : Int32))) (f_W_sign a1) mem reg p1 w1 p2 w2 TL (((f_W_size a1) >>> ((12 : Int32) &&& (31 : Int32))) &&& (63 : Int32))) (v_M_register hk k_273 ⟨Nat.le_of_ble_eq_true rfl, Nat.le_of_ble_eq_true rfl⟩) (pR_v hK hP (ci := 1) (q0 := 0) rfl rfl rfl) rfl rfl hl.1 rfl (lv_room (Nat.le_of_ble_eq_true rfl)) d_M_decode_85 ⟨Nat.le_of_ble_eq_true rfl, Nat.le_of_ble_eq_true rfl⟩) ?_
      refine cs_i (W.runS (As := [.int (f_M_register reg (((f_W_size a1) >>> ((12 : Int32) &&& (31 : Int32))) &&& (63 : Int32)))]) (rest := [.int ((f_W_size a1) >>> ((18 : Int32) &&& (31 : Int32))), .ref h0]) ⟨hx, hb, hml, hown, hk⟩ (c_W_number l (f_M_register reg (((f_W_size a1) >>> ((12 : Int32) &&& (31 : Int32))) &&& (63 : Int32)))) (s_W_number hk k_277 ⟨Nat.le_of_ble_eq_true rfl, Nat.le_of_ble_eq_true rfl⟩) ⟨fun a U g mk q => q, fun U hU hW => ⟨rfl, trivial⟩⟩ rfl rfl hl.1 rfl (lv_room (Nat.le_of_ble_eq_true rfl)) d_M_decode_88 ⟨Nat.le_of_ble_eq_true rfl, Nat.le_of_ble_eq_true rfl⟩) ?_
      refine lv_iadd hx hb d_M_decode_91 ?_
      refine va_put (D := D) (ci := 1) (v := .int (((f_W_size a1) >>> ((18 : Int32) &&& (31 : Int32))) + (f_W_number (f_M_register reg (((f_W_size a1) >>> ((12 : Int32) &&& (31 : Int32))) &&& (63 : Int32)))))) (ty := .int) (C := "SignMachine$Machine") (T := F_M) (N := 14) hx hb hk fi_M ft_M ft_M_ok fn_M hown hK.1 hP hD hS 0 rfl rfl 12 (by decide) (hk _ k_179) (fun _ h9 => h9) rfl (by decide +kernel) rfl rfl (Nat.le_of_ble_eq_true rfl) d_M_decode_92 (fun H locs hP hD hS => ?_)
      have hP : va_P D classes (mW cI cJ cZ cB h0 h1 h2 h3 h4 tog ind tim nxt enD ((f_W_size a1) &&& (63 : Int32)) (((f_W_size a1) >>> ((6 : Int32) &&& (31 : Int32))) &&& (63 : Int32)) (((f_W_size a1) >>> ((12 : Int32) &&& (31 : Int32))) &&& (63 : Int32)) (((f_W_size a1) >>> ((18 : Int32) &&& (31 : Int32))) + (f_W_number (f_M_register reg (((f_W_size a1) >>> ((12 : Int32) &&& (31 : Int32))) &&& (63 : Int32))))) (f_W_sign a1) mem reg p1 w1 p2 w2 TL) H := hP
      have hD : va_D A (mW cI cJ cZ cB h0 h1 h2 h3 h4 tog ind tim nxt enD ((f_W_size a1) &&& (63 : Int32)) (((f_W_size a1) >>> ((6 : Int32) &&& (31 : Int32))) &&& (63 : Int32)) (((f_W_size a1) >>> ((12 : Int32) &&& (31 : Int32))) &&& (63 : Int32)) (((f_W_size a1) >>> ((18 : Int32) &&& (31 : Int32))) + (f_W_number (f_M_register reg (((f_W_size a1) >>> ((12 : Int32) &&& (31 : Int32))) &&& (63 : Int32))))) (f_W_sign a1) mem reg p1 w1 p2 w2 TL) := hD
      exact W.vret hx hb hr (fun t ht hW => ⟨⟨(((f_W_size a1) &&& (63 : Int32)), (((f_W_size a1) >>> ((6 : Int32) &&& (31 : Int32))) &&& (63 : Int32)), (((f_W_size a1) >>> ((12 : Int32) &&& (31 : Int32))) &&& (63 : Int32)), (((f_W_size a1) >>> ((18 : Int32) &&& (31 : Int32))) + (f_W_number (f_M_register reg (((f_W_size a1) >>> ((12 : Int32) &&& (31 : Int32))) &&& (63 : Int32))))), (f_W_sign a1)), rfl, by simp only [f_M_decode, if_pos c1, if_neg c3], by show va_P D classes _ t.heap; rw [ht]; exact hP⟩, hS.F ht⟩) hS.2.2 d_M_decode_95
theorem v_M_decode {R : Room} {s : State} {args : Array Value} {own : String} {index : Nat} (hk : ∀ w ∈ tb, w.before args s = true) (hl : Cond.methodLink own index y_M_decode ∈ tb) (hR : 1 + 1 ≤ R.frames ∧ 8 + (4 + 11) + 21 ≤ R.locals) : CallW R s args own "SignMachine$Machine" index y_M_decode b_M_decode 4 none (.code y_M_decode b_M_decode 4 none :: tb) ({ frames := 1, cells := 0, slots := 0, locals := 21 }) 0 0 1 := mk_v 1 hk k_267 hl k_266 k_0 k_117 rfl rfl h_M_decode hR
def f_M_hasFieldOfWord (cod : Int32)  : Bool := (if cod < (1 : Int32) then (if cod < (8 : Int32) then (if cod < (56 : Int32) then false else true) else (if cod ≤ (33 : Int32) then true else (if cod < (56 : Int32) then false else true))) else (if cod ≤ (4 : Int32) then true else (if cod < (8 : Int32) then (if cod < (56 : Int32) then false else true) else (if cod ≤ (33 : Int32) then true else (if cod < (56 : Int32) then false else true)))))
set_option maxHeartbeats 4000000 in
set_option maxRecDepth 100000 in
theorem c_M_hasFieldOfWord (l : Launch) (D : va_G) (cI cJ cZ cB : ClassId) (h0 h1 h2 h3 h4 : Nat) (tog : Int32) (ind : Int32) (tim : Int32) (nxt : Int32) (enD : Int32) (cod : Int32) (fld : Int32) (idx : Int32) (mm : Int32) (soz : Int32) (mem : Nat → Int32) (reg : Nat → Int32) (p1 : Int32) (w1 : Option Nat) (p2 : Int32) (w2 : Option Nat) (TL : va_W)  : Met l y_M_hasFieldOfWord (.code y_M_hasFieldOfWord b_M_hasFieldOfWord 1 (some .boolean) :: tb) ({ frames := 0, cells := 0, slots := 0, locals := 0 }) (pR D cI cJ cZ cB (mW cI cJ cZ cB h0 h1 h2 h3 h4 tog ind tim nxt enD cod fld idx mm soz mem reg p1 w1 p2 w2 TL) [.ref h0]) (vp_Si (fun r => r = bI (f_M_hasFieldOfWord cod))) 0 0 (fun _ => False) := by
  refine Met.ofW (cc := b_M_hasFieldOfWord) (maxL := 1) (ret := (some .boolean)) (by decide) rfl ?_
  intro p e s m args below meth c s₁ B hml hv
  obtain ⟨rfl, hK, hP⟩ := hv
  have hx := B.exec
  have hb := B.bytes
  have hr := B.returns
  have hts := atoms_spec (ws := .code y_M_hasFieldOfWord b_M_hasFieldOfWord 1 (some .boolean) :: tb) B.pre
  have hk : ∀ w ∈ tb, w.before [.ref h0].toArray s = true := fun w h => hts w (List.mem_cons_of_mem _ h)
  have hown : s.vm.findClass "SignMachine$Machine" = some m.cls := findClass_of_methodNamed B.named
  have hlocks := B.notSynchronized
  have hl := lv_entry ([.ref h0]) (n := 1) (Nat.le_of_ble_eq_true rfl)
  rw [lg_entry_eq]
  generalize (lg_sl ([.ref h0]) ++ List.replicate (1 - (lg_sl ([.ref h0])).length) Slot.unset).toArray = ls at hl ⊢
  have hl : lv_has ls 1 [(0, .ref h0)] := hl
  refine lv_aload_n hx hb d_M_hasFieldOfWord_0 rfl (lv_at hl 0 rfl) ?_
  refine va_get (D := D) (ci := 1) (v := .int cod) (C := "SignMachine$Machine") (T := F_M) (N := 14) hx hb hk fi_M hown hK.1 hP 0 rfl rfl 9 (by decide) (hk _ k_176) (fun _ h9 => h9) rfl d_M_hasFieldOfWord_1 ?_
  refine lv_iconst (v := 1) hx hb d_M_hasFieldOfWord_4 (by decide) ?_
  refine lv_icmp_lt (tgt := 16) hx hb d_M_hasFieldOfWord_5 (by decide) (fun c1 => ?_) (fun c1 => ?_)
  · refine lv_aload_n hx hb d_M_hasFieldOfWord_16 rfl (lv_at hl 0 rfl) ?_
    refine va_get (D := D) (ci := 1) (v := .int cod) (C := "SignMachine$Machine") (T := F_M) (N := 14) hx hb hk fi_M hown hK.1 hP 0 rfl rfl 9 (by decide) (hk _ k_176) (fun _ h9 => h9) rfl d_M_hasFieldOfWord_17 ?_
    refine lv_bipush (v := 8) hx hb d_M_hasFieldOfWord_20 (by decide) ?_
    refine lv_icmp_lt (tgt := 34) hx hb d_M_hasFieldOfWord_22 (by decide) (fun c2 => ?_) (fun c2 => ?_)
    · refine lv_aload_n hx hb d_M_hasFieldOfWord_34 rfl (lv_at hl 0 rfl) ?_
      refine va_get (D := D) (ci := 1) (v := .int cod) (C := "SignMachine$Machine") (T := F_M) (N := 14) hx hb hk fi_M hown hK.1 hP 0 rfl rfl 9 (by decide) (hk _ k_176) (fun _ h9 => h9) rfl d_M_hasFieldOfWord_35 ?_
      refine lv_bipush (v := 56) hx hb d_M_hasFieldOfWord_38 (by decide) ?_
      refine lv_icmp_lt (tgt := 47) hx hb d_M_hasFieldOfWord_40 (by decide) (fun c3 => ?_) (fun c3 => ?_)
      · refine lv_iconst (v := 0) hx hb d_M_hasFieldOfWord_47 (by decide) ?_
        exact W.zret (v := (0 : Int32)) hx hb hr rfl (fun t ht hW => ⟨(0 : Int32), rfl, by simp only [f_M_hasFieldOfWord, if_pos c1, if_pos c2, if_pos c3]; rfl, ht⟩) (fun q h => absurd h List.not_mem_nil) d_M_hasFieldOfWord_48
      · refine lv_iconst (v := 1) hx hb d_M_hasFieldOfWord_43 (by decide) ?_
        refine lv_goto (tgt := 48) hx hb d_M_hasFieldOfWord_44 (by decide) ?_
        exact W.zret (v := (1 : Int32)) hx hb hr rfl (fun t ht hW => ⟨(1 : Int32), rfl, by simp only [f_M_hasFieldOfWord, if_pos c1, if_pos c2, if_neg c3]; rfl, ht⟩) (fun q h => absurd h List.not_mem_nil) d_M_hasFieldOfWord_48
    · refine lv_aload_n hx hb d_M_hasFieldOfWord_25 rfl (lv_at hl 0 rfl) ?_
      refine va_get (D := D) (ci := 1) (v := .int cod) (C := "SignMachine$Machine") (T := F_M) (N := 14) hx hb hk fi_M hown hK.1 hP 0 rfl rfl 9 (by decide) (hk _ k_176) (fun _ h9 => h9) rfl d_M_hasFieldOfWord_26 ?_
      refine lv_bipush (v := 33) hx hb d_M_hasFieldOfWord_29 (by decide) ?_
      refine lv_icmp_le (tgt := 43) hx hb d_M_hasFieldOfWord_31 (by decide) (fun c4 => ?_) (fun c4 => ?_)
      · refine lv_iconst (v := 1) hx hb d_M_hasFieldOfWord_43 (by decide) ?_
        refine lv_goto (tgt := 48) hx hb d_M_hasFieldOfWord_44 (by decide) ?_
        exact W.zret (v := (1 : Int32)) hx hb hr rfl (fun t ht hW => ⟨(1 : Int32), rfl, by simp only [f_M_hasFieldOfWord, if_pos c1, if_neg c2, if_pos c4]; rfl, ht⟩) (fun q h => absurd h List.not_mem_nil) d_M_hasFieldOfWord_48
      · refine lv_aload_n hx hb d_M_hasFieldOfWord_34 rfl (lv_at hl 0 rfl) ?_
        refine va_get (D := D) (ci := 1) (v := .int cod) (C := "SignMachine$Machine") (T := F_M) (N := 14) hx hb hk fi_M hown hK.1 hP 0 rfl rfl 9 (by decide) (hk _ k_176) (fun _ h9 => h9) rfl d_M_hasFieldOfWord_35 ?_
        refine lv_bipush (v := 56) hx hb d_M_hasFieldOfWord_38 (by decide) ?_
        refine lv_icmp_lt (tgt := 47) hx hb d_M_hasFieldOfWord_40 (by decide) (fun c5 => ?_) (fun c5 => ?_)
        · refine lv_iconst (v := 0) hx hb d_M_hasFieldOfWord_47 (by decide) ?_
          exact W.zret (v := (0 : Int32)) hx hb hr rfl (fun t ht hW => ⟨(0 : Int32), rfl, by simp only [f_M_hasFieldOfWord, if_pos c1, if_neg c2, if_neg c4, if_pos c5]; rfl, ht⟩) (fun q h => absurd h List.not_mem_nil) d_M_hasFieldOfWord_48
        · refine lv_iconst (v := 1) hx hb d_M_hasFieldOfWord_43 (by decide) ?_
          refine lv_goto (tgt := 48) hx hb d_M_hasFieldOfWord_44 (by decide) ?_
          exact W.zret (v := (1 : Int32)) hx hb hr rfl (fun t ht hW => ⟨(1 : Int32), rfl, by simp only [f_M_hasFieldOfWord, if_pos c1, if_neg c2, if_neg c4, if_neg c5]; rfl, ht⟩) (fun q h => absurd h List.not_mem_nil) d_M_hasFieldOfWord_48
  · refine lv_aload_n hx hb d_M_hasFieldOfWord_8 rfl (lv_at hl 0 rfl) ?_
    refine va_get (D := D) (ci := 1) (v := .int cod) (C := "SignMachine$Machine") (T := F_M) (N := 14) hx hb hk fi_M hown hK.1 hP 0 rfl rfl 9 (by decide) (hk _ k_176) (fun _ h9 => h9) rfl d_M_hasFieldOfWord_9 ?_
    refine lv_iconst (v := 4) hx hb d_M_hasFieldOfWord_12 (by decide) ?_
    refine lv_icmp_le (tgt := 43) hx hb d_M_hasFieldOfWord_13 (by decide) (fun c6 => ?_) (fun c6 => ?_)
    · refine lv_iconst (v := 1) hx hb d_M_hasFieldOfWord_43 (by decide) ?_
      refine lv_goto (tgt := 48) hx hb d_M_hasFieldOfWord_44 (by decide) ?_
      exact W.zret (v := (1 : Int32)) hx hb hr rfl (fun t ht hW => ⟨(1 : Int32), rfl, by simp only [f_M_hasFieldOfWord, if_neg c1, if_pos c6]; rfl, ht⟩) (fun q h => absurd h List.not_mem_nil) d_M_hasFieldOfWord_48
    · refine lv_aload_n hx hb d_M_hasFieldOfWord_16 rfl (lv_at hl 0 rfl) ?_
      refine va_get (D := D) (ci := 1) (v := .int cod) (C := "SignMachine$Machine") (T := F_M) (N := 14) hx hb hk fi_M hown hK.1 hP 0 rfl rfl 9 (by decide) (hk _ k_176) (fun _ h9 => h9) rfl d_M_hasFieldOfWord_17 ?_
      refine lv_bipush (v := 8) hx hb d_M_hasFieldOfWord_20 (by decide) ?_
      refine lv_icmp_lt (tgt := 34) hx hb d_M_hasFieldOfWord_22 (by decide) (fun c7 => ?_) (fun c7 => ?_)
      · refine lv_aload_n hx hb d_M_hasFieldOfWord_34 rfl (lv_at hl 0 rfl) ?_
        refine va_get (D := D) (ci := 1) (v := .int cod) (C := "SignMachine$Machine") (T := F_M) (N := 14) hx hb hk fi_M hown hK.1 hP 0 rfl rfl 9 (by decide) (hk _ k_176) (fun _ h9 => h9) rfl d_M_hasFieldOfWord_35 ?_
        refine lv_bipush (v := 56) hx hb d_M_hasFieldOfWord_38 (by decide) ?_
        refine lv_icmp_lt (tgt := 47) hx hb d_M_hasFieldOfWord_40 (by decide) (fun c8 => ?_) (fun c8 => ?_)
        · refine lv_iconst (v := 0) hx hb d_M_hasFieldOfWord_47 (by decide) ?_
          exact W.zret (v := (0 : Int32)) hx hb hr rfl (fun t ht hW => ⟨(0 : Int32), rfl, by simp only [f_M_hasFieldOfWord, if_neg c1, if_neg c6, if_pos c7, if_pos c8]; rfl, ht⟩) (fun q h => absurd h List.not_mem_nil) d_M_hasFieldOfWord_48
        · refine lv_iconst (v := 1) hx hb d_M_hasFieldOfWord_43 (by decide) ?_
          refine lv_goto (tgt := 48) hx hb d_M_hasFieldOfWord_44 (by decide) ?_
          exact W.zret (v := (1 : Int32)) hx hb hr rfl (fun t ht hW => ⟨(1 : Int32), rfl, by simp only [f_M_hasFieldOfWord, if_neg c1, if_neg c6, if_pos c7, if_neg c8]; rfl, ht⟩) (fun q h => absurd h List.not_mem_nil) d_M_hasFieldOfWord_48
      · refine lv_aload_n hx hb d_M_hasFieldOfWord_25 rfl (lv_at hl 0 rfl) ?_
        refine va_get (D := D) (ci := 1) (v := .int cod) (C := "SignMachine$Machine") (T := F_M) (N := 14) hx hb hk fi_M hown hK.1 hP 0 rfl rfl 9 (by decide) (hk _ k_176) (fun _ h9 => h9) rfl d_M_hasFieldOfWord_26 ?_
        refine lv_bipush (v := 33) hx hb d_M_hasFieldOfWord_29 (by decide) ?_
        refine lv_icmp_le (tgt := 43) hx hb d_M_hasFieldOfWord_31 (by decide) (fun c9 => ?_) (fun c9 => ?_)
        · refine lv_iconst (v := 1) hx hb d_M_hasFieldOfWord_43 (by decide) ?_
          refine lv_goto (tgt := 48) hx hb d_M_hasFieldOfWord_44 (by decide) ?_
          exact W.zret (v := (1 : Int32)) hx hb hr rfl (fun t ht hW => ⟨(1 : Int32), rfl, by simp only [f_M_hasFieldOfWord, if_neg c1, if_neg c6, if_neg c7, if_pos c9]; rfl, ht⟩) (fun q h => absurd h List.not_mem_nil) d_M_hasFieldOfWord_48
        · refine lv_aload_n hx hb d_M_hasFieldOfWord_34 rfl (lv_at hl 0 rfl) ?_
          refine va_get (D := D) (ci := 1) (v := .int cod) (C := "SignMachine$Machine") (T := F_M) (N := 14) hx hb hk fi_M hown hK.1 hP 0 rfl rfl 9 (by decide) (hk _ k_176) (fun _ h9 => h9) rfl d_M_hasFieldOfWord_35 ?_
          refine lv_bipush (v := 56) hx hb d_M_hasFieldOfWord_38 (by decide) ?_
          refine lv_icmp_lt (tgt := 47) hx hb d_M_hasFieldOfWord_40 (by decide) (fun c10 => ?_) (fun c10 => ?_)
          · refine lv_iconst (v := 0) hx hb d_M_hasFieldOfWord_47 (by decide) ?_
            exact W.zret (v := (0 : Int32)) hx hb hr rfl (fun t ht hW => ⟨(0 : Int32), rfl, by simp only [f_M_hasFieldOfWord, if_neg c1, if_neg c6, if_neg c7, if_neg c9, if_pos c10]; rfl, ht⟩) (fun q h => absurd h List.not_mem_nil) d_M_hasFieldOfWord_48
          · refine lv_iconst (v := 1) hx hb d_M_hasFieldOfWord_43 (by decide) ?_
            refine lv_goto (tgt := 48) hx hb d_M_hasFieldOfWord_44 (by decide) ?_
            exact W.zret (v := (1 : Int32)) hx hb hr rfl (fun t ht hW => ⟨(1 : Int32), rfl, by simp only [f_M_hasFieldOfWord, if_neg c1, if_neg c6, if_neg c7, if_neg c9, if_neg c10]; rfl, ht⟩) (fun q h => absurd h List.not_mem_nil) d_M_hasFieldOfWord_48
theorem v_M_hasFieldOfWord {R : Room} {s : State} {args : Array Value} {own : String} {index : Nat} (hk : ∀ w ∈ tb, w.before args s = true) (hl : Cond.methodLink own index y_M_hasFieldOfWord ∈ tb) (hR : 0 + 1 ≤ R.frames ∧ 8 + (1 + 11) + 0 ≤ R.locals) : CallW R s args own "SignMachine$Machine" index y_M_hasFieldOfWord b_M_hasFieldOfWord 1 (some .boolean) (.code y_M_hasFieldOfWord b_M_hasFieldOfWord 1 (some .boolean) :: tb) ({ frames := 0, cells := 0, slots := 0, locals := 0 }) 0 0 0 := mk_v 0 hk k_291 hl k_290 k_3 k_117 rfl rfl h_M_hasFieldOfWord hR
def f_M_shapeCanBe (cod : Int32) (fld : Int32) (idx : Int32)  : Bool := (if idx ≤ (6 : Int32) then (if (bI (f_M_hasFieldOfWord cod )) = (0 : Int32) then (if cod = (0 : Int32) then true else (if cod = (1 : Int32) then (if (47 : Int32) < cod then (if (3 : Int32) < fld then false else true) else (if (5 : Int32) < fld then false else true)) else (if cod = (2 : Int32) then (if (47 : Int32) < cod then (if (3 : Int32) < fld then false else true) else (if (5 : Int32) < fld then false else true)) else (if cod = (3 : Int32) then (if (47 : Int32) < cod then (if (3 : Int32) < fld then false else true) else (if (5 : Int32) < fld then false else true)) else (if cod = (4 : Int32) then (if (47 : Int32) < cod then (if (3 : Int32) < fld then false else true) else (if (5 : Int32) < fld then false else true)) else (if cod = (5 : Int32) then (if (2 : Int32) < fld then false else true) else (if cod = (6 : Int32) then (if (5 : Int32) < fld then false else true) else (if cod = (7 : Int32) then true else (if cod = (8 : Int32) then (if (47 : Int32) < cod then (if (3 : Int32) < fld then false else true) else (if (5 : Int32) < fld then false else true)) else (if cod = (9 : Int32) then (if (47 : Int32) < cod then (if (3 : Int32) < fld then false else true) else (if (5 : Int32) < fld then false else true)) else (if cod = (10 : Int32) then (if (47 : Int32) < cod then (if (3 : Int32) < fld then false else true) else (if (5 : Int32) < fld then false else true)) else (if cod = (11 : Int32) then (if (47 : Int32) < cod then (if (3 : Int32) < fld then false else true) else (if (5 : Int32) < fld then false else true)) else (if cod = (12 : Int32) then (if (47 : Int32) < cod then (if (3 : Int32) < fld then false else true) else (if (5 : Int32) < fld then false else true)) else (if cod = (13 : Int32) then (if (47 : Int32) < cod then (if (3 : Int32) < fld then false else true) else (if (5 : Int32) < fld then false else true)) else (if cod = (14 : Int32) then (if (47 : Int32) < cod then (if (3 : Int32) < fld then false else true) else (if (5 : Int32) < fld then false else true)) else (if cod = (15 : Int32) then (if (47 : Int32) < cod then (if (3 : Int32) < fld then false else true) else (if (5 : Int32) < fld then false else true)) else (if cod = (16 : Int32) then (if (47 : Int32) < cod then (if (3 : Int32) < fld then false else true) else (if (5 : Int32) < fld then false else true)) else (if cod = (17 : Int32) then (if (47 : Int32) < cod then (if (3 : Int32) < fld then false else true) else (if (5 : Int32) < fld then false else true)) else (if cod = (18 : Int32) then (if (47 : Int32) < cod then (if (3 : Int32) < fld then false else true) else (if (5 : Int32) < fld then false else true)) else (if cod = (19 : Int32) then (if (47 : Int32) < cod then (if (3 : Int32) < fld then false else true) else (if (5 : Int32) < fld then false else true)) else (if cod = (20 : Int32) then (if (47 : Int32) < cod then (if (3 : Int32) < fld then false else true) else (if (5 : Int32) < fld then false else true)) else (if cod = (21 : Int32) then (if (47 : Int32) < cod then (if (3 : Int32) < fld then false else true) else (if (5 : Int32) < fld then false else true)) else (if cod = (22 : Int32) then (if (47 : Int32) < cod then (if (3 : Int32) < fld then false else true) else (if (5 : Int32) < fld then false else true)) else (if cod = (23 : Int32) then (if (47 : Int32) < cod then (if (3 : Int32) < fld then false else true) else (if (5 : Int32) < fld then false else true)) else (if cod = (24 : Int32) then (if (47 : Int32) < cod then (if (3 : Int32) < fld then false else true) else (if (5 : Int32) < fld then false else true)) else (if cod = (25 : Int32) then (if (47 : Int32) < cod then (if (3 : Int32) < fld then false else true) else (if (5 : Int32) < fld then false else true)) else (if cod = (26 : Int32) then (if (47 : Int32) < cod then (if (3 : Int32) < fld then false else true) else (if (5 : Int32) < fld then false else true)) else (if cod = (27 : Int32) then (if (47 : Int32) < cod then (if (3 : Int32) < fld then false else true) else (if (5 : Int32) < fld then false else true)) else (if cod = (28 : Int32) then (if (47 : Int32) < cod then (if (3 : Int32) < fld then false else true) else (if (5 : Int32) < fld then false else true)) else (if cod = (29 : Int32) then (if (47 : Int32) < cod then (if (3 : Int32) < fld then false else true) else (if (5 : Int32) < fld then false else true)) else (if cod = (30 : Int32) then (if (47 : Int32) < cod then (if (3 : Int32) < fld then false else true) else (if (5 : Int32) < fld then false else true)) else (if cod = (31 : Int32) then (if (47 : Int32) < cod then (if (3 : Int32) < fld then false else true) else (if (5 : Int32) < fld then false else true)) else (if cod = (32 : Int32) then (if (47 : Int32) < cod then (if (3 : Int32) < fld then false else true) else (if (5 : Int32) < fld then false else true)) else (if cod = (33 : Int32) then (if (47 : Int32) < cod then (if (3 : Int32) < fld then false else true) else (if (5 : Int32) < fld then false else true)) else (if cod = (34 : Int32) then (if (1 : Int32) < fld then false else true) else (if cod = (35 : Int32) then (if (1 : Int32) < fld then false else true) else (if cod = (36 : Int32) then (if (1 : Int32) < fld then false else true) else (if cod = (37 : Int32) then (if (1 : Int32) < fld then false else true) else (if cod = (38 : Int32) then (if (1 : Int32) < fld then false else true) else (if cod = (39 : Int32) then (if (9 : Int32) < fld then false else true) else (if (47 : Int32) < cod then (if (3 : Int32) < fld then false else true) else (if (5 : Int32) < fld then false else true)))))))))))))))))))))))))))))))))))))))))) else (f_W_isField fld)) else false)
set_option maxHeartbeats 4000000 in
set_option maxRecDepth 100000 in
theorem c_M_shapeCanBe (l : Launch) (D : va_G) (cI cJ cZ cB : ClassId) (h0 h1 h2 h3 h4 : Nat) (tog : Int32) (ind : Int32) (tim : Int32) (nxt : Int32) (enD : Int32) (cod : Int32) (fld : Int32) (idx : Int32) (mm : Int32) (soz : Int32) (mem : Nat → Int32) (reg : Nat → Int32) (p1 : Int32) (w1 : Option Nat) (p2 : Int32) (w2 : Option Nat) (TL : va_W)  : Met l y_M_shapeCanBe (.code y_M_shapeCanBe b_M_shapeCanBe 1 (some .boolean) :: tb) ({ frames := 1, cells := 0, slots := 0, locals := 22 }) (pR D cI cJ cZ cB (mW cI cJ cZ cB h0 h1 h2 h3 h4 tog ind tim nxt enD cod fld idx mm soz mem reg p1 w1 p2 w2 TL) [.ref h0]) (vp_Si (fun r => r = bI (f_M_shapeCanBe cod fld idx))) 0 0 (fun _ => False) := by
  refine Met.ofW (cc := b_M_shapeCanBe) (maxL := 1) (ret := (some .boolean)) (by decide) rfl ?_
  intro p e s m args below meth c s₁ B hml hv
  obtain ⟨rfl, hK, hP⟩ := hv
  have hx := B.exec
  have hb := B.bytes
  have hr := B.returns
  have hts := atoms_spec (ws := .code y_M_shapeCanBe b_M_shapeCanBe 1 (some .boolean) :: tb) B.pre
  have hk : ∀ w ∈ tb, w.before [.ref h0].toArray s = true := fun w h => hts w (List.mem_cons_of_mem _ h)
  have hown : s.vm.findClass "SignMachine$Machine" = some m.cls := findClass_of_methodNamed B.named
  have hlocks := B.notSynchronized
  have hl := lv_entry ([.ref h0]) (n := 1) (Nat.le_of_ble_eq_true rfl)
  rw [lg_entry_eq]
  generalize (lg_sl ([.ref h0]) ++ List.replicate (1 - (lg_sl ([.ref h0])).length) Slot.unset).toArray = ls at hl ⊢
  have hl : lv_has ls 1 [(0, .ref h0)] := hl
  refine lv_aload_n hx hb d_M_shapeCanBe_0 rfl (lv_at hl 0 rfl) ?_
  refine va_get (D := D) (ci := 1) (v := .int idx) (C := "SignMachine$Machine") (T := F_M) (N := 14) hx hb hk fi_M hown hK.1 hP 0 rfl rfl 11 (by decide) (hk _ k_178) (fun _ h9 => h9) rfl d_M_shapeCanBe_1 ?_
  refine lv_bipush (v := 6) hx hb d_M_shapeCanBe_4 (by decide) ?_
  refine lv_icmp_le (tgt := 11) hx hb d_M_shapeCanBe_6 (by decide) (fun c1 => ?_) (fun c1 => ?_)
  · refine lv_aload_n hx hb d_M_shapeCanBe_11 rfl (lv_at hl 0 rfl) ?_
    refine cs_i (W.runV (C := "SignMachine$Machine") (As := []) (rest := []) ⟨hx, hb, hml, hown, hk⟩ (c_M_hasFieldOfWord l D cI cJ cZ cB h0 h1 h2 h3 h4 tog ind tim nxt enD cod fld idx mm soz mem reg p1 w1 p2 w2 TL ) (v_M_hasFieldOfWord hk k_288 ⟨Nat.le_of_ble_eq_true rfl, Nat.le_of_ble_eq_true rfl⟩) (pR_v hK hP (ci := 1) (q0 := 0) rfl rfl rfl) rfl rfl hl.1 rfl (lv_room (Nat.le_of_ble_eq_true rfl)) d_M_shapeCanBe_12 ⟨Nat.le_of_ble_eq_true rfl, Nat.le_of_ble_eq_true rfl⟩) ?_
    refine lv_if_eq (tgt := 26) hx hb d_M_shapeCanBe_15 (by decide) (fun c2 => ?_) (fun c2 => ?_)
    · refine lv_aload_n hx hb d_M_shapeCanBe_26 rfl (lv_at hl 0 rfl) ?_
      refine va_get (D := D) (ci := 1) (v := .int cod) (C := "SignMachine$Machine") (T := F_M) (N := 14) hx hb hk fi_M hown hK.1 hP 0 rfl rfl 9 (by decide) (hk _ k_176) (fun _ h9 => h9) rfl d_M_shapeCanBe_27 ?_
      by_cases c3 : cod = (0 : Int32)
      · refine lv_tableIn (off := 174) (tgt := 204) hx hb d_M_shapeCanBe_30 (by rw [c3]; decide) (by rw [c3]; decide) (by rw [c3]; rfl) (by decide) ?_
        refine lv_iconst (v := 1) hx hb d_M_shapeCanBe_204 (by decide) ?_
        exact W.zret (v := (1 : Int32)) hx hb hr rfl (fun t ht hW => ⟨(1 : Int32), rfl, by simp only [f_M_shapeCanBe, if_pos c1, if_pos c2, if_pos c3]; rfl, ht⟩) (fun q h => absurd h List.not_mem_nil) d_M_shapeCanBe_205
      · by_cases c4 : cod = (1 : Int32)
        · refine lv_tableIn (off := 233) (tgt := 263) hx hb d_M_shapeCanBe_30 (by rw [c4]; decide) (by rw [c4]; decide) (by rw [c4]; rfl) (by decide) ?_
          refine lv_aload_n hx hb d_M_shapeCanBe_263 rfl (lv_at hl 0 rfl) ?_
          refine va_get (D := D) (ci := 1) (v := .int fld) (C := "SignMachine$Machine") (T := F_M) (N := 14) hx hb hk fi_M hown hK.1 hP 0 rfl rfl 10 (by decide) (hk _ k_177) (fun _ h9 => h9) rfl d_M_shapeCanBe_264 ?_
          refine lv_aload_n hx hb d_M_shapeCanBe_267 rfl (lv_at hl 0 rfl) ?_
          refine va_get (D := D) (ci := 1) (v := .int cod) (C := "SignMachine$Machine") (T := F_M) (N := 14) hx hb hk fi_M hown hK.1 hP 0 rfl rfl 9 (by decide) (hk _ k_176) (fun _ h9 => h9) rfl d_M_shapeCanBe_268 ?_
          refine lv_bipush (v := 47) hx hb d_M_shapeCanBe_271 (by decide) ?_
          refine lv_icmp_gt (tgt := 280) hx hb d_M_shapeCanBe_273 (by decide) (fun c5 => ?_) (fun c5 => ?_)
          · refine lv_iconst (v := 3) hx hb d_M_shapeCanBe_280 (by decide) ?_
            refine lv_icmp_gt (tgt := 288) hx hb d_M_shapeCanBe_281 (by decide) (fun c6 => ?_) (fun c6 => ?_)
            · refine lv_iconst (v := 0) hx hb d_M_shapeCanBe_288 (by decide) ?_
              exact W.zret (v := (0 : Int32)) hx hb hr rfl (fun t ht hW => ⟨(0 : Int32), rfl, by simp only [f_M_shapeCanBe, if_pos c1, if_pos c2, if_neg c3, if_pos c4, if_pos c5, if_pos c6]; rfl, ht⟩) (fun q h => absurd h List.not_mem_nil) d_M_shapeCanBe_289
            · refine lv_iconst (v := 1) hx hb d_M_shapeCanBe_284 (by decide) ?_
              refine lv_goto (tgt := 289) hx hb d_M_shapeCanBe_285 (by decide) ?_
              exact W.zret (v := (1 : Int32)) hx hb hr rfl (fun t ht hW => ⟨(1 : Int32), rfl, by simp only [f_M_shapeCanBe, if_pos c1, if_pos c2, if_neg c3, if_pos c4, if_pos c5, if_neg c6]; rfl, ht⟩) (fun q h => absurd h List.not_mem_nil) d_M_shapeCanBe_289
          · refine lv_iconst (v := 5) hx hb d_M_shapeCanBe_276 (by decide) ?_
            refine lv_goto (tgt := 281) hx hb d_M_shapeCanBe_277 (by decide) ?_
            refine lv_icmp_gt (tgt := 288) hx hb d_M_shapeCanBe_281 (by decide) (fun c7 => ?_) (fun c7 => ?_)
            · refine lv_iconst (v := 0) hx hb d_M_shapeCanBe_288 (by decide) ?_
              exact W.zret (v := (0 : Int32)) hx hb hr rfl (fun t ht hW => ⟨(0 : Int32), rfl, by simp only [f_M_shapeCanBe, if_pos c1, if_pos c2, if_neg c3, if_pos c4, if_neg c5, if_pos c7]; rfl, ht⟩) (fun q h => absurd h List.not_mem_nil) d_M_shapeCanBe_289
            · refine lv_iconst (v := 1) hx hb d_M_shapeCanBe_284 (by decide) ?_
              refine lv_goto (tgt := 289) hx hb d_M_shapeCanBe_285 (by decide) ?_
              exact W.zret (v := (1 : Int32)) hx hb hr rfl (fun t ht hW => ⟨(1 : Int32), rfl, by simp only [f_M_shapeCanBe, if_pos c1, if_pos c2, if_neg c3, if_pos c4, if_neg c5, if_neg c7]; rfl, ht⟩) (fun q h => absurd h List.not_mem_nil) d_M_shapeCanBe_289
        · by_cases c8 : cod = (2 : Int32)
          · refine lv_tableIn (off := 233) (tgt := 263) hx hb d_M_shapeCanBe_30 (by rw [c8]; decide) (by rw [c8]; decide) (by rw [c8]; rfl) (by decide) ?_
            refine lv_aload_n hx hb d_M_shapeCanBe_263 rfl (lv_at hl 0 rfl) ?_
            refine va_get (D := D) (ci := 1) (v := .int fld) (C := "SignMachine$Machine") (T := F_M) (N := 14) hx hb hk fi_M hown hK.1 hP 0 rfl rfl 10 (by decide) (hk _ k_177) (fun _ h9 => h9) rfl d_M_shapeCanBe_264 ?_
            refine lv_aload_n hx hb d_M_shapeCanBe_267 rfl (lv_at hl 0 rfl) ?_
            refine va_get (D := D) (ci := 1) (v := .int cod) (C := "SignMachine$Machine") (T := F_M) (N := 14) hx hb hk fi_M hown hK.1 hP 0 rfl rfl 9 (by decide) (hk _ k_176) (fun _ h9 => h9) rfl d_M_shapeCanBe_268 ?_
            refine lv_bipush (v := 47) hx hb d_M_shapeCanBe_271 (by decide) ?_
            refine lv_icmp_gt (tgt := 280) hx hb d_M_shapeCanBe_273 (by decide) (fun c9 => ?_) (fun c9 => ?_)
            · refine lv_iconst (v := 3) hx hb d_M_shapeCanBe_280 (by decide) ?_
              refine lv_icmp_gt (tgt := 288) hx hb d_M_shapeCanBe_281 (by decide) (fun c10 => ?_) (fun c10 => ?_)
              · refine lv_iconst (v := 0) hx hb d_M_shapeCanBe_288 (by decide) ?_
                exact W.zret (v := (0 : Int32)) hx hb hr rfl (fun t ht hW => ⟨(0 : Int32), rfl, by simp only [f_M_shapeCanBe, if_pos c1, if_pos c2, if_neg c3, if_neg c4, if_pos c8, if_pos c9, if_pos c10]; rfl, ht⟩) (fun q h => absurd h List.not_mem_nil) d_M_shapeCanBe_289
              · refine lv_iconst (v := 1) hx hb d_M_shapeCanBe_284 (by decide) ?_
                refine lv_goto (tgt := 289) hx hb d_M_shapeCanBe_285 (by decide) ?_
                exact W.zret (v := (1 : Int32)) hx hb hr rfl (fun t ht hW => ⟨(1 : Int32), rfl, by simp only [f_M_shapeCanBe, if_pos c1, if_pos c2, if_neg c3, if_neg c4, if_pos c8, if_pos c9, if_neg c10]; rfl, ht⟩) (fun q h => absurd h List.not_mem_nil) d_M_shapeCanBe_289
            · refine lv_iconst (v := 5) hx hb d_M_shapeCanBe_276 (by decide) ?_
              refine lv_goto (tgt := 281) hx hb d_M_shapeCanBe_277 (by decide) ?_
              refine lv_icmp_gt (tgt := 288) hx hb d_M_shapeCanBe_281 (by decide) (fun c11 => ?_) (fun c11 => ?_)
              · refine lv_iconst (v := 0) hx hb d_M_shapeCanBe_288 (by decide) ?_
                exact W.zret (v := (0 : Int32)) hx hb hr rfl (fun t ht hW => ⟨(0 : Int32), rfl, by simp only [f_M_shapeCanBe, if_pos c1, if_pos c2, if_neg c3, if_neg c4, if_pos c8, if_neg c9, if_pos c11]; rfl, ht⟩) (fun q h => absurd h List.not_mem_nil) d_M_shapeCanBe_289
              · refine lv_iconst (v := 1) hx hb d_M_shapeCanBe_284 (by decide) ?_
                refine lv_goto (tgt := 289) hx hb d_M_shapeCanBe_285 (by decide) ?_
                exact W.zret (v := (1 : Int32)) hx hb hr rfl (fun t ht hW => ⟨(1 : Int32), rfl, by simp only [f_M_shapeCanBe, if_pos c1, if_pos c2, if_neg c3, if_neg c4, if_pos c8, if_neg c9, if_neg c11]; rfl, ht⟩) (fun q h => absurd h List.not_mem_nil) d_M_shapeCanBe_289
          · by_cases c12 : cod = (3 : Int32)
            · refine lv_tableIn (off := 233) (tgt := 263) hx hb d_M_shapeCanBe_30 (by rw [c12]; decide) (by rw [c12]; decide) (by rw [c12]; rfl) (by decide) ?_
              refine lv_aload_n hx hb d_M_shapeCanBe_263 rfl (lv_at hl 0 rfl) ?_
              refine va_get (D := D) (ci := 1) (v := .int fld) (C := "SignMachine$Machine") (T := F_M) (N := 14) hx hb hk fi_M hown hK.1 hP 0 rfl rfl 10 (by decide) (hk _ k_177) (fun _ h9 => h9) rfl d_M_shapeCanBe_264 ?_
              refine lv_aload_n hx hb d_M_shapeCanBe_267 rfl (lv_at hl 0 rfl) ?_
              refine va_get (D := D) (ci := 1) (v := .int cod) (C := "SignMachine$Machine") (T := F_M) (N := 14) hx hb hk fi_M hown hK.1 hP 0 rfl rfl 9 (by decide) (hk _ k_176) (fun _ h9 => h9) rfl d_M_shapeCanBe_268 ?_
              refine lv_bipush (v := 47) hx hb d_M_shapeCanBe_271 (by decide) ?_
              refine lv_icmp_gt (tgt := 280) hx hb d_M_shapeCanBe_273 (by decide) (fun c13 => ?_) (fun c13 => ?_)
              · refine lv_iconst (v := 3) hx hb d_M_shapeCanBe_280 (by decide) ?_
                refine lv_icmp_gt (tgt := 288) hx hb d_M_shapeCanBe_281 (by decide) (fun c14 => ?_) (fun c14 => ?_)
                · refine lv_iconst (v := 0) hx hb d_M_shapeCanBe_288 (by decide) ?_
                  exact W.zret (v := (0 : Int32)) hx hb hr rfl (fun t ht hW => ⟨(0 : Int32), rfl, by simp only [f_M_shapeCanBe, if_pos c1, if_pos c2, if_neg c3, if_neg c4, if_neg c8, if_pos c12, if_pos c13, if_pos c14]; rfl, ht⟩) (fun q h => absurd h List.not_mem_nil) d_M_shapeCanBe_289
                · refine lv_iconst (v := 1) hx hb d_M_shapeCanBe_284 (by decide) ?_
                  refine lv_goto (tgt := 289) hx hb d_M_shapeCanBe_285 (by decide) ?_
                  exact W.zret (v := (1 : Int32)) hx hb hr rfl (fun t ht hW => ⟨(1 : Int32), rfl, by simp only [f_M_shapeCanBe, if_pos c1, if_pos c2, if_neg c3, if_neg c4, if_neg c8, if_pos c12, if_pos c13, if_neg c14]; rfl, ht⟩) (fun q h => absurd h List.not_mem_nil) d_M_shapeCanBe_289
              · refine lv_iconst (v := 5) hx hb d_M_shapeCanBe_276 (by decide) ?_
                refine lv_goto (tgt := 281) hx hb d_M_shapeCanBe_277 (by decide) ?_
                refine lv_icmp_gt (tgt := 288) hx hb d_M_shapeCanBe_281 (by decide) (fun c15 => ?_) (fun c15 => ?_)
                · refine lv_iconst (v := 0) hx hb d_M_shapeCanBe_288 (by decide) ?_
                  exact W.zret (v := (0 : Int32)) hx hb hr rfl (fun t ht hW => ⟨(0 : Int32), rfl, by simp only [f_M_shapeCanBe, if_pos c1, if_pos c2, if_neg c3, if_neg c4, if_neg c8, if_pos c12, if_neg c13, if_pos c15]; rfl, ht⟩) (fun q h => absurd h List.not_mem_nil) d_M_shapeCanBe_289
                · refine lv_iconst (v := 1) hx hb d_M_shapeCanBe_284 (by decide) ?_
                  refine lv_goto (tgt := 289) hx hb d_M_shapeCanBe_285 (by decide) ?_
                  exact W.zret (v := (1 : Int32)) hx hb hr rfl (fun t ht hW => ⟨(1 : Int32), rfl, by simp only [f_M_shapeCanBe, if_pos c1, if_pos c2, if_neg c3, if_neg c4, if_neg c8, if_pos c12, if_neg c13, if_neg c15]; rfl, ht⟩) (fun q h => absurd h List.not_mem_nil) d_M_shapeCanBe_289
            · by_cases c16 : cod = (4 : Int32)
              · refine lv_tableIn (off := 233) (tgt := 263) hx hb d_M_shapeCanBe_30 (by rw [c16]; decide) (by rw [c16]; decide) (by rw [c16]; rfl) (by decide) ?_
                refine lv_aload_n hx hb d_M_shapeCanBe_263 rfl (lv_at hl 0 rfl) ?_
                refine va_get (D := D) (ci := 1) (v := .int fld) (C := "SignMachine$Machine") (T := F_M) (N := 14) hx hb hk fi_M hown hK.1 hP 0 rfl rfl 10 (by decide) (hk _ k_177) (fun _ h9 => h9) rfl d_M_shapeCanBe_264 ?_
                refine lv_aload_n hx hb d_M_shapeCanBe_267 rfl (lv_at hl 0 rfl) ?_
                refine va_get (D := D) (ci := 1) (v := .int cod) (C := "SignMachine$Machine") (T := F_M) (N := 14) hx hb hk fi_M hown hK.1 hP 0 rfl rfl 9 (by decide) (hk _ k_176) (fun _ h9 => h9) rfl d_M_shapeCanBe_268 ?_
                refine lv_bipush (v := 47) hx hb d_M_shapeCanBe_271 (by decide) ?_
                refine lv_icmp_gt (tgt := 280) hx hb d_M_shapeCanBe_273 (by decide) (fun c17 => ?_) (fun c17 => ?_)
                · refine lv_iconst (v := 3) hx hb d_M_shapeCanBe_280 (by decide) ?_
                  refine lv_icmp_gt (tgt := 288) hx hb d_M_shapeCanBe_281 (by decide) (fun c18 => ?_) (fun c18 => ?_)
                  · refine lv_iconst (v := 0) hx hb d_M_shapeCanBe_288 (by decide) ?_
                    exact W.zret (v := (0 : Int32)) hx hb hr rfl (fun t ht hW => ⟨(0 : Int32), rfl, by simp only [f_M_shapeCanBe, if_pos c1, if_pos c2, if_neg c3, if_neg c4, if_neg c8, if_neg c12, if_pos c16, if_pos c17, if_pos c18]; rfl, ht⟩) (fun q h => absurd h List.not_mem_nil) d_M_shapeCanBe_289
                  · refine lv_iconst (v := 1) hx hb d_M_shapeCanBe_284 (by decide) ?_
                    refine lv_goto (tgt := 289) hx hb d_M_shapeCanBe_285 (by decide) ?_
                    exact W.zret (v := (1 : Int32)) hx hb hr rfl (fun t ht hW => ⟨(1 : Int32), rfl, by simp only [f_M_shapeCanBe, if_pos c1, if_pos c2, if_neg c3, if_neg c4, if_neg c8, if_neg c12, if_pos c16, if_pos c17, if_neg c18]; rfl, ht⟩) (fun q h => absurd h List.not_mem_nil) d_M_shapeCanBe_289
                · refine lv_iconst (v := 5) hx hb d_M_shapeCanBe_276 (by decide) ?_
                  refine lv_goto (tgt := 281) hx hb d_M_shapeCanBe_277 (by decide) ?_
                  refine lv_icmp_gt (tgt := 288) hx hb d_M_shapeCanBe_281 (by decide) (fun c19 => ?_) (fun c19 => ?_)
                  · refine lv_iconst (v := 0) hx hb d_M_shapeCanBe_288 (by decide) ?_
                    exact W.zret (v := (0 : Int32)) hx hb hr rfl (fun t ht hW => ⟨(0 : Int32), rfl, by simp only [f_M_shapeCanBe, if_pos c1, if_pos c2, if_neg c3, if_neg c4, if_neg c8, if_neg c12, if_pos c16, if_neg c17, if_pos c19]; rfl, ht⟩) (fun q h => absurd h List.not_mem_nil) d_M_shapeCanBe_289
                  · refine lv_iconst (v := 1) hx hb d_M_shapeCanBe_284 (by decide) ?_
                    refine lv_goto (tgt := 289) hx hb d_M_shapeCanBe_285 (by decide) ?_
                    exact W.zret (v := (1 : Int32)) hx hb hr rfl (fun t ht hW => ⟨(1 : Int32), rfl, by simp only [f_M_shapeCanBe, if_pos c1, if_pos c2, if_neg c3, if_neg c4, if_neg c8, if_neg c12, if_pos c16, if_neg c17, if_neg c19]; rfl, ht⟩) (fun q h => absurd h List.not_mem_nil) d_M_shapeCanBe_289
              · by_cases c20 : cod = (5 : Int32)
                · refine lv_tableIn (off := 176) (tgt := 206) hx hb d_M_shapeCanBe_30 (by rw [c20]; decide) (by rw [c20]; decide) (by rw [c20]; rfl) (by decide) ?_
                  refine lv_aload_n hx hb d_M_shapeCanBe_206 rfl (lv_at hl 0 rfl) ?_
                  refine va_get (D := D) (ci := 1) (v := .int fld) (C := "SignMachine$Machine") (T := F_M) (N := 14) hx hb hk fi_M hown hK.1 hP 0 rfl rfl 10 (by decide) (hk _ k_177) (fun _ h9 => h9) rfl d_M_shapeCanBe_207 ?_
                  refine lv_iconst (v := 2) hx hb d_M_shapeCanBe_210 (by decide) ?_
                  refine lv_icmp_gt (tgt := 218) hx hb d_M_shapeCanBe_211 (by decide) (fun c21 => ?_) (fun c21 => ?_)
                  · refine lv_iconst (v := 0) hx hb d_M_shapeCanBe_218 (by decide) ?_
                    exact W.zret (v := (0 : Int32)) hx hb hr rfl (fun t ht hW => ⟨(0 : Int32), rfl, by simp only [f_M_shapeCanBe, if_pos c1, if_pos c2, if_neg c3, if_neg c4, if_neg c8, if_neg c12, if_neg c16, if_pos c20, if_pos c21]; rfl, ht⟩) (fun q h => absurd h List.not_mem_nil) d_M_shapeCanBe_219
                  · refine lv_iconst (v := 1) hx hb d_M_shapeCanBe_214 (by decide) ?_
                    refine lv_goto (tgt := 219) hx hb d_M_shapeCanBe_215 (by decide) ?_
                    exact W.zret (v := (1 : Int32)) hx hb hr rfl (fun t ht hW => ⟨(1 : Int32), rfl, by simp only [f_M_shapeCanBe, if_pos c1, if_pos c2, if_neg c3, if_neg c4, if_neg c8, if_neg c12, if_neg c16, if_pos c20, if_neg c21]; rfl, ht⟩) (fun q h => absurd h List.not_mem_nil) d_M_shapeCanBe_219
                · by_cases c22 : cod = (6 : Int32)
                  · refine lv_tableIn (off := 190) (tgt := 220) hx hb d_M_shapeCanBe_30 (by rw [c22]; decide) (by rw [c22]; decide) (by rw [c22]; rfl) (by decide) ?_
                    refine lv_aload_n hx hb d_M_shapeCanBe_220 rfl (lv_at hl 0 rfl) ?_
                    refine va_get (D := D) (ci := 1) (v := .int fld) (C := "SignMachine$Machine") (T := F_M) (N := 14) hx hb hk fi_M hown hK.1 hP 0 rfl rfl 10 (by decide) (hk _ k_177) (fun _ h9 => h9) rfl d_M_shapeCanBe_221 ?_
                    refine lv_iconst (v := 5) hx hb d_M_shapeCanBe_224 (by decide) ?_
                    refine lv_icmp_gt (tgt := 232) hx hb d_M_shapeCanBe_225 (by decide) (fun c23 => ?_) (fun c23 => ?_)
                    · refine lv_iconst (v := 0) hx hb d_M_shapeCanBe_232 (by decide) ?_
                      exact W.zret (v := (0 : Int32)) hx hb hr rfl (fun t ht hW => ⟨(0 : Int32), rfl, by simp only [f_M_shapeCanBe, if_pos c1, if_pos c2, if_neg c3, if_neg c4, if_neg c8, if_neg c12, if_neg c16, if_neg c20, if_pos c22, if_pos c23]; rfl, ht⟩) (fun q h => absurd h List.not_mem_nil) d_M_shapeCanBe_233
                    · refine lv_iconst (v := 1) hx hb d_M_shapeCanBe_228 (by decide) ?_
                      refine lv_goto (tgt := 233) hx hb d_M_shapeCanBe_229 (by decide) ?_
                      exact W.zret (v := (1 : Int32)) hx hb hr rfl (fun t ht hW => ⟨(1 : Int32), rfl, by simp only [f_M_shapeCanBe, if_pos c1, if_pos c2, if_neg c3, if_neg c4, if_neg c8, if_neg c12, if_neg c16, if_neg c20, if_pos c22, if_neg c23]; rfl, ht⟩) (fun q h => absurd h List.not_mem_nil) d_M_shapeCanBe_233
                  · by_cases c24 : cod = (7 : Int32)
                    · refine lv_tableIn (off := 174) (tgt := 204) hx hb d_M_shapeCanBe_30 (by rw [c24]; decide) (by rw [c24]; decide) (by rw [c24]; rfl) (by decide) ?_
                      refine lv_iconst (v := 1) hx hb d_M_shapeCanBe_204 (by decide) ?_
                      exact W.zret (v := (1 : Int32)) hx hb hr rfl (fun t ht hW => ⟨(1 : Int32), rfl, by simp only [f_M_shapeCanBe, if_pos c1, if_pos c2, if_neg c3, if_neg c4, if_neg c8, if_neg c12, if_neg c16, if_neg c20, if_neg c22, if_pos c24]; rfl, ht⟩) (fun q h => absurd h List.not_mem_nil) d_M_shapeCanBe_205
                    · by_cases c25 : cod = (8 : Int32)
                      · refine lv_tableIn (off := 233) (tgt := 263) hx hb d_M_shapeCanBe_30 (by rw [c25]; decide) (by rw [c25]; decide) (by rw [c25]; rfl) (by decide) ?_
                        refine lv_aload_n hx hb d_M_shapeCanBe_263 rfl (lv_at hl 0 rfl) ?_
                        refine va_get (D := D) (ci := 1) (v := .int fld) (C := "SignMachine$Machine") (T := F_M) (N := 14) hx hb hk fi_M hown hK.1 hP 0 rfl rfl 10 (by decide) (hk _ k_177) (fun _ h9 => h9) rfl d_M_shapeCanBe_264 ?_
                        refine lv_aload_n hx hb d_M_shapeCanBe_267 rfl (lv_at hl 0 rfl) ?_
                        refine va_get (D := D) (ci := 1) (v := .int cod) (C := "SignMachine$Machine") (T := F_M) (N := 14) hx hb hk fi_M hown hK.1 hP 0 rfl rfl 9 (by decide) (hk _ k_176) (fun _ h9 => h9) rfl d_M_shapeCanBe_268 ?_
                        refine lv_bipush (v := 47) hx hb d_M_shapeCanBe_271 (by decide) ?_
                        refine lv_icmp_gt (tgt := 280) hx hb d_M_shapeCanBe_273 (by decide) (fun c26 => ?_) (fun c26 => ?_)
                        · refine lv_iconst (v := 3) hx hb d_M_shapeCanBe_280 (by decide) ?_
                          refine lv_icmp_gt (tgt := 288) hx hb d_M_shapeCanBe_281 (by decide) (fun c27 => ?_) (fun c27 => ?_)
                          · refine lv_iconst (v := 0) hx hb d_M_shapeCanBe_288 (by decide) ?_
                            exact W.zret (v := (0 : Int32)) hx hb hr rfl (fun t ht hW => ⟨(0 : Int32), rfl, by simp only [f_M_shapeCanBe, if_pos c1, if_pos c2, if_neg c3, if_neg c4, if_neg c8, if_neg c12, if_neg c16, if_neg c20, if_neg c22, if_neg c24, if_pos c25, if_pos c26, if_pos c27]; rfl, ht⟩) (fun q h => absurd h List.not_mem_nil) d_M_shapeCanBe_289
                          · refine lv_iconst (v := 1) hx hb d_M_shapeCanBe_284 (by decide) ?_
                            refine lv_goto (tgt := 289) hx hb d_M_shapeCanBe_285 (by decide) ?_
                            exact W.zret (v := (1 : Int32)) hx hb hr rfl (fun t ht hW => ⟨(1 : Int32), rfl, by simp only [f_M_shapeCanBe, if_pos c1, if_pos c2, if_neg c3, if_neg c4, if_neg c8, if_neg c12, if_neg c16, if_neg c20, if_neg c22, if_neg c24, if_pos c25, if_pos c26, if_neg c27]; rfl, ht⟩) (fun q h => absurd h List.not_mem_nil) d_M_shapeCanBe_289
                        · refine lv_iconst (v := 5) hx hb d_M_shapeCanBe_276 (by decide) ?_
                          refine lv_goto (tgt := 281) hx hb d_M_shapeCanBe_277 (by decide) ?_
                          refine lv_icmp_gt (tgt := 288) hx hb d_M_shapeCanBe_281 (by decide) (fun c28 => ?_) (fun c28 => ?_)
                          · refine lv_iconst (v := 0) hx hb d_M_shapeCanBe_288 (by decide) ?_
                            exact W.zret (v := (0 : Int32)) hx hb hr rfl (fun t ht hW => ⟨(0 : Int32), rfl, by simp only [f_M_shapeCanBe, if_pos c1, if_pos c2, if_neg c3, if_neg c4, if_neg c8, if_neg c12, if_neg c16, if_neg c20, if_neg c22, if_neg c24, if_pos c25, if_neg c26, if_pos c28]; rfl, ht⟩) (fun q h => absurd h List.not_mem_nil) d_M_shapeCanBe_289
                          · refine lv_iconst (v := 1) hx hb d_M_shapeCanBe_284 (by decide) ?_
                            refine lv_goto (tgt := 289) hx hb d_M_shapeCanBe_285 (by decide) ?_
                            exact W.zret (v := (1 : Int32)) hx hb hr rfl (fun t ht hW => ⟨(1 : Int32), rfl, by simp only [f_M_shapeCanBe, if_pos c1, if_pos c2, if_neg c3, if_neg c4, if_neg c8, if_neg c12, if_neg c16, if_neg c20, if_neg c22, if_neg c24, if_pos c25, if_neg c26, if_neg c28]; rfl, ht⟩) (fun q h => absurd h List.not_mem_nil) d_M_shapeCanBe_289
                      · by_cases c29 : cod = (9 : Int32)
                        · refine lv_tableIn (off := 233) (tgt := 263) hx hb d_M_shapeCanBe_30 (by rw [c29]; decide) (by rw [c29]; decide) (by rw [c29]; rfl) (by decide) ?_
                          refine lv_aload_n hx hb d_M_shapeCanBe_263 rfl (lv_at hl 0 rfl) ?_
                          refine va_get (D := D) (ci := 1) (v := .int fld) (C := "SignMachine$Machine") (T := F_M) (N := 14) hx hb hk fi_M hown hK.1 hP 0 rfl rfl 10 (by decide) (hk _ k_177) (fun _ h9 => h9) rfl d_M_shapeCanBe_264 ?_
                          refine lv_aload_n hx hb d_M_shapeCanBe_267 rfl (lv_at hl 0 rfl) ?_
                          refine va_get (D := D) (ci := 1) (v := .int cod) (C := "SignMachine$Machine") (T := F_M) (N := 14) hx hb hk fi_M hown hK.1 hP 0 rfl rfl 9 (by decide) (hk _ k_176) (fun _ h9 => h9) rfl d_M_shapeCanBe_268 ?_
                          refine lv_bipush (v := 47) hx hb d_M_shapeCanBe_271 (by decide) ?_
                          refine lv_icmp_gt (tgt := 280) hx hb d_M_shapeCanBe_273 (by decide) (fun c30 => ?_) (fun c30 => ?_)
                          · refine lv_iconst (v := 3) hx hb d_M_shapeCanBe_280 (by decide) ?_
                            refine lv_icmp_gt (tgt := 288) hx hb d_M_shapeCanBe_281 (by decide) (fun c31 => ?_) (fun c31 => ?_)
                            · refine lv_iconst (v := 0) hx hb d_M_shapeCanBe_288 (by decide) ?_
                              exact W.zret (v := (0 : Int32)) hx hb hr rfl (fun t ht hW => ⟨(0 : Int32), rfl, by simp only [f_M_shapeCanBe, if_pos c1, if_pos c2, if_neg c3, if_neg c4, if_neg c8, if_neg c12, if_neg c16, if_neg c20, if_neg c22, if_neg c24, if_neg c25, if_pos c29, if_pos c30, if_pos c31]; rfl, ht⟩) (fun q h => absurd h List.not_mem_nil) d_M_shapeCanBe_289
                            · refine lv_iconst (v := 1) hx hb d_M_shapeCanBe_284 (by decide) ?_
                              refine lv_goto (tgt := 289) hx hb d_M_shapeCanBe_285 (by decide) ?_
                              exact W.zret (v := (1 : Int32)) hx hb hr rfl (fun t ht hW => ⟨(1 : Int32), rfl, by simp only [f_M_shapeCanBe, if_pos c1, if_pos c2, if_neg c3, if_neg c4, if_neg c8, if_neg c12, if_neg c16, if_neg c20, if_neg c22, if_neg c24, if_neg c25, if_pos c29, if_pos c30, if_neg c31]; rfl, ht⟩) (fun q h => absurd h List.not_mem_nil) d_M_shapeCanBe_289
                          · refine lv_iconst (v := 5) hx hb d_M_shapeCanBe_276 (by decide) ?_
                            refine lv_goto (tgt := 281) hx hb d_M_shapeCanBe_277 (by decide) ?_
                            refine lv_icmp_gt (tgt := 288) hx hb d_M_shapeCanBe_281 (by decide) (fun c32 => ?_) (fun c32 => ?_)
                            · refine lv_iconst (v := 0) hx hb d_M_shapeCanBe_288 (by decide) ?_
                              exact W.zret (v := (0 : Int32)) hx hb hr rfl (fun t ht hW => ⟨(0 : Int32), rfl, by simp only [f_M_shapeCanBe, if_pos c1, if_pos c2, if_neg c3, if_neg c4, if_neg c8, if_neg c12, if_neg c16, if_neg c20, if_neg c22, if_neg c24, if_neg c25, if_pos c29, if_neg c30, if_pos c32]; rfl, ht⟩) (fun q h => absurd h List.not_mem_nil) d_M_shapeCanBe_289
                            · refine lv_iconst (v := 1) hx hb d_M_shapeCanBe_284 (by decide) ?_
                              refine lv_goto (tgt := 289) hx hb d_M_shapeCanBe_285 (by decide) ?_
                              exact W.zret (v := (1 : Int32)) hx hb hr rfl (fun t ht hW => ⟨(1 : Int32), rfl, by simp only [f_M_shapeCanBe, if_pos c1, if_pos c2, if_neg c3, if_neg c4, if_neg c8, if_neg c12, if_neg c16, if_neg c20, if_neg c22, if_neg c24, if_neg c25, if_pos c29, if_neg c30, if_neg c32]; rfl, ht⟩) (fun q h => absurd h List.not_mem_nil) d_M_shapeCanBe_289
                        · by_cases c33 : cod = (10 : Int32)
                          · refine lv_tableIn (off := 233) (tgt := 263) hx hb d_M_shapeCanBe_30 (by rw [c33]; decide) (by rw [c33]; decide) (by rw [c33]; rfl) (by decide) ?_
                            refine lv_aload_n hx hb d_M_shapeCanBe_263 rfl (lv_at hl 0 rfl) ?_
                            refine va_get (D := D) (ci := 1) (v := .int fld) (C := "SignMachine$Machine") (T := F_M) (N := 14) hx hb hk fi_M hown hK.1 hP 0 rfl rfl 10 (by decide) (hk _ k_177) (fun _ h9 => h9) rfl d_M_shapeCanBe_264 ?_
                            refine lv_aload_n hx hb d_M_shapeCanBe_267 rfl (lv_at hl 0 rfl) ?_
                            refine va_get (D := D) (ci := 1) (v := .int cod) (C := "SignMachine$Machine") (T := F_M) (N := 14) hx hb hk fi_M hown hK.1 hP 0 rfl rfl 9 (by decide) (hk _ k_176) (fun _ h9 => h9) rfl d_M_shapeCanBe_268 ?_
                            refine lv_bipush (v := 47) hx hb d_M_shapeCanBe_271 (by decide) ?_
                            refine lv_icmp_gt (tgt := 280) hx hb d_M_shapeCanBe_273 (by decide) (fun c34 => ?_) (fun c34 => ?_)
                            · refine lv_iconst (v := 3) hx hb d_M_shapeCanBe_280 (by decide) ?_
                              refine lv_icmp_gt (tgt := 288) hx hb d_M_shapeCanBe_281 (by decide) (fun c35 => ?_) (fun c35 => ?_)
                              · refine lv_iconst (v := 0) hx hb d_M_shapeCanBe_288 (by decide) ?_
                                exact W.zret (v := (0 : Int32)) hx hb hr rfl (fun t ht hW => ⟨(0 : Int32), rfl, by simp only [f_M_shapeCanBe, if_pos c1, if_pos c2, if_neg c3, if_neg c4, if_neg c8, if_neg c12, if_neg c16, if_neg c20, if_neg c22, if_neg c24, if_neg c25, if_neg c29, if_pos c33, if_pos c34, if_pos c35]; rfl, ht⟩) (fun q h => absurd h List.not_mem_nil) d_M_shapeCanBe_289
                              · refine lv_iconst (v := 1) hx hb d_M_shapeCanBe_284 (by decide) ?_
                                refine lv_goto (tgt := 289) hx hb d_M_shapeCanBe_285 (by decide) ?_
                                exact W.zret (v := (1 : Int32)) hx hb hr rfl (fun t ht hW => ⟨(1 : Int32), rfl, by simp only [f_M_shapeCanBe, if_pos c1, if_pos c2, if_neg c3, if_neg c4, if_neg c8, if_neg c12, if_neg c16, if_neg c20, if_neg c22, if_neg c24, if_neg c25, if_neg c29, if_pos c33, if_pos c34, if_neg c35]; rfl, ht⟩) (fun q h => absurd h List.not_mem_nil) d_M_shapeCanBe_289
                            · refine lv_iconst (v := 5) hx hb d_M_shapeCanBe_276 (by decide) ?_
                              refine lv_goto (tgt := 281) hx hb d_M_shapeCanBe_277 (by decide) ?_
                              refine lv_icmp_gt (tgt := 288) hx hb d_M_shapeCanBe_281 (by decide) (fun c36 => ?_) (fun c36 => ?_)
                              · refine lv_iconst (v := 0) hx hb d_M_shapeCanBe_288 (by decide) ?_
                                exact W.zret (v := (0 : Int32)) hx hb hr rfl (fun t ht hW => ⟨(0 : Int32), rfl, by simp only [f_M_shapeCanBe, if_pos c1, if_pos c2, if_neg c3, if_neg c4, if_neg c8, if_neg c12, if_neg c16, if_neg c20, if_neg c22, if_neg c24, if_neg c25, if_neg c29, if_pos c33, if_neg c34, if_pos c36]; rfl, ht⟩) (fun q h => absurd h List.not_mem_nil) d_M_shapeCanBe_289
                              · refine lv_iconst (v := 1) hx hb d_M_shapeCanBe_284 (by decide) ?_
                                refine lv_goto (tgt := 289) hx hb d_M_shapeCanBe_285 (by decide) ?_
                                exact W.zret (v := (1 : Int32)) hx hb hr rfl (fun t ht hW => ⟨(1 : Int32), rfl, by simp only [f_M_shapeCanBe, if_pos c1, if_pos c2, if_neg c3, if_neg c4, if_neg c8, if_neg c12, if_neg c16, if_neg c20, if_neg c22, if_neg c24, if_neg c25, if_neg c29, if_pos c33, if_neg c34, if_neg c36]; rfl, ht⟩) (fun q h => absurd h List.not_mem_nil) d_M_shapeCanBe_289
                          · by_cases c37 : cod = (11 : Int32)
                            · refine lv_tableIn (off := 233) (tgt := 263) hx hb d_M_shapeCanBe_30 (by rw [c37]; decide) (by rw [c37]; decide) (by rw [c37]; rfl) (by decide) ?_
                              refine lv_aload_n hx hb d_M_shapeCanBe_263 rfl (lv_at hl 0 rfl) ?_
                              refine va_get (D := D) (ci := 1) (v := .int fld) (C := "SignMachine$Machine") (T := F_M) (N := 14) hx hb hk fi_M hown hK.1 hP 0 rfl rfl 10 (by decide) (hk _ k_177) (fun _ h9 => h9) rfl d_M_shapeCanBe_264 ?_
                              refine lv_aload_n hx hb d_M_shapeCanBe_267 rfl (lv_at hl 0 rfl) ?_
                              refine va_get (D := D) (ci := 1) (v := .int cod) (C := "SignMachine$Machine") (T := F_M) (N := 14) hx hb hk fi_M hown hK.1 hP 0 rfl rfl 9 (by decide) (hk _ k_176) (fun _ h9 => h9) rfl d_M_shapeCanBe_268 ?_
                              refine lv_bipush (v := 47) hx hb d_M_shapeCanBe_271 (by decide) ?_
                              refine lv_icmp_gt (tgt := 280) hx hb d_M_shapeCanBe_273 (by decide) (fun c38 => ?_) (fun c38 => ?_)
                              · refine lv_iconst (v := 3) hx hb d_M_shapeCanBe_280 (by decide) ?_
                                refine lv_icmp_gt (tgt := 288) hx hb d_M_shapeCanBe_281 (by decide) (fun c39 => ?_) (fun c39 => ?_)
                                · refine lv_iconst (v := 0) hx hb d_M_shapeCanBe_288 (by decide) ?_
                                  exact W.zret (v := (0 : Int32)) hx hb hr rfl (fun t ht hW => ⟨(0 : Int32), rfl, by simp only [f_M_shapeCanBe, if_pos c1, if_pos c2, if_neg c3, if_neg c4, if_neg c8, if_neg c12, if_neg c16, if_neg c20, if_neg c22, if_neg c24, if_neg c25, if_neg c29, if_neg c33, if_pos c37, if_pos c38, if_pos c39]; rfl, ht⟩) (fun q h => absurd h List.not_mem_nil) d_M_shapeCanBe_289
                                · refine lv_iconst (v := 1) hx hb d_M_shapeCanBe_284 (by decide) ?_
                                  refine lv_goto (tgt := 289) hx hb d_M_shapeCanBe_285 (by decide) ?_
                                  exact W.zret (v := (1 : Int32)) hx hb hr rfl (fun t ht hW => ⟨(1 : Int32), rfl, by simp only [f_M_shapeCanBe, if_pos c1, if_pos c2, if_neg c3, if_neg c4, if_neg c8, if_neg c12, if_neg c16, if_neg c20, if_neg c22, if_neg c24, if_neg c25, if_neg c29, if_neg c33, if_pos c37, if_pos c38, if_neg c39]; rfl, ht⟩) (fun q h => absurd h List.not_mem_nil) d_M_shapeCanBe_289
                              · refine lv_iconst (v := 5) hx hb d_M_shapeCanBe_276 (by decide) ?_
                                refine lv_goto (tgt := 281) hx hb d_M_shapeCanBe_277 (by decide) ?_
                                refine lv_icmp_gt (tgt := 288) hx hb d_M_shapeCanBe_281 (by decide) (fun c40 => ?_) (fun c40 => ?_)
                                · refine lv_iconst (v := 0) hx hb d_M_shapeCanBe_288 (by decide) ?_
                                  exact W.zret (v := (0 : Int32)) hx hb hr rfl (fun t ht hW => ⟨(0 : Int32), rfl, by simp only [f_M_shapeCanBe, if_pos c1, if_pos c2, if_neg c3, if_neg c4, if_neg c8, if_neg c12, if_neg c16, if_neg c20, if_neg c22, if_neg c24, if_neg c25, if_neg c29, if_neg c33, if_pos c37, if_neg c38, if_pos c40]; rfl, ht⟩) (fun q h => absurd h List.not_mem_nil) d_M_shapeCanBe_289
                                · refine lv_iconst (v := 1) hx hb d_M_shapeCanBe_284 (by decide) ?_
                                  refine lv_goto (tgt := 289) hx hb d_M_shapeCanBe_285 (by decide) ?_
                                  exact W.zret (v := (1 : Int32)) hx hb hr rfl (fun t ht hW => ⟨(1 : Int32), rfl, by simp only [f_M_shapeCanBe, if_pos c1, if_pos c2, if_neg c3, if_neg c4, if_neg c8, if_neg c12, if_neg c16, if_neg c20, if_neg c22, if_neg c24, if_neg c25, if_neg c29, if_neg c33, if_pos c37, if_neg c38, if_neg c40]; rfl, ht⟩) (fun q h => absurd h List.not_mem_nil) d_M_shapeCanBe_289
                            · by_cases c41 : cod = (12 : Int32)
                              · refine lv_tableIn (off := 233) (tgt := 263) hx hb d_M_shapeCanBe_30 (by rw [c41]; decide) (by rw [c41]; decide) (by rw [c41]; rfl) (by decide) ?_
                                refine lv_aload_n hx hb d_M_shapeCanBe_263 rfl (lv_at hl 0 rfl) ?_
                                refine va_get (D := D) (ci := 1) (v := .int fld) (C := "SignMachine$Machine") (T := F_M) (N := 14) hx hb hk fi_M hown hK.1 hP 0 rfl rfl 10 (by decide) (hk _ k_177) (fun _ h9 => h9) rfl d_M_shapeCanBe_264 ?_
                                refine lv_aload_n hx hb d_M_shapeCanBe_267 rfl (lv_at hl 0 rfl) ?_
                                refine va_get (D := D) (ci := 1) (v := .int cod) (C := "SignMachine$Machine") (T := F_M) (N := 14) hx hb hk fi_M hown hK.1 hP 0 rfl rfl 9 (by decide) (hk _ k_176) (fun _ h9 => h9) rfl d_M_shapeCanBe_268 ?_
                                refine lv_bipush (v := 47) hx hb d_M_shapeCanBe_271 (by decide) ?_
                                refine lv_icmp_gt (tgt := 280) hx hb d_M_shapeCanBe_273 (by decide) (fun c42 => ?_) (fun c42 => ?_)
                                · refine lv_iconst (v := 3) hx hb d_M_shapeCanBe_280 (by decide) ?_
                                  refine lv_icmp_gt (tgt := 288) hx hb d_M_shapeCanBe_281 (by decide) (fun c43 => ?_) (fun c43 => ?_)
                                  · refine lv_iconst (v := 0) hx hb d_M_shapeCanBe_288 (by decide) ?_
                                    exact W.zret (v := (0 : Int32)) hx hb hr rfl (fun t ht hW => ⟨(0 : Int32), rfl, by simp only [f_M_shapeCanBe, if_pos c1, if_pos c2, if_neg c3, if_neg c4, if_neg c8, if_neg c12, if_neg c16, if_neg c20, if_neg c22, if_neg c24, if_neg c25, if_neg c29, if_neg c33, if_neg c37, if_pos c41, if_pos c42, if_pos c43]; rfl, ht⟩) (fun q h => absurd h List.not_mem_nil) d_M_shapeCanBe_289
                                  · refine lv_iconst (v := 1) hx hb d_M_shapeCanBe_284 (by decide) ?_
                                    refine lv_goto (tgt := 289) hx hb d_M_shapeCanBe_285 (by decide) ?_
                                    exact W.zret (v := (1 : Int32)) hx hb hr rfl (fun t ht hW => ⟨(1 : Int32), rfl, by simp only [f_M_shapeCanBe, if_pos c1, if_pos c2, if_neg c3, if_neg c4, if_neg c8, if_neg c12, if_neg c16, if_neg c20, if_neg c22, if_neg c24, if_neg c25, if_neg c29, if_neg c33, if_neg c37, if_pos c41, if_pos c42, if_neg c43]; rfl, ht⟩) (fun q h => absurd h List.not_mem_nil) d_M_shapeCanBe_289
                                · refine lv_iconst (v := 5) hx hb d_M_shapeCanBe_276 (by decide) ?_
                                  refine lv_goto (tgt := 281) hx hb d_M_shapeCanBe_277 (by decide) ?_
                                  refine lv_icmp_gt (tgt := 288) hx hb d_M_shapeCanBe_281 (by decide) (fun c44 => ?_) (fun c44 => ?_)
                                  · refine lv_iconst (v := 0) hx hb d_M_shapeCanBe_288 (by decide) ?_
                                    exact W.zret (v := (0 : Int32)) hx hb hr rfl (fun t ht hW => ⟨(0 : Int32), rfl, by simp only [f_M_shapeCanBe, if_pos c1, if_pos c2, if_neg c3, if_neg c4, if_neg c8, if_neg c12, if_neg c16, if_neg c20, if_neg c22, if_neg c24, if_neg c25, if_neg c29, if_neg c33, if_neg c37, if_pos c41, if_neg c42, if_pos c44]; rfl, ht⟩) (fun q h => absurd h List.not_mem_nil) d_M_shapeCanBe_289
                                  · refine lv_iconst (v := 1) hx hb d_M_shapeCanBe_284 (by decide) ?_
                                    refine lv_goto (tgt := 289) hx hb d_M_shapeCanBe_285 (by decide) ?_
                                    exact W.zret (v := (1 : Int32)) hx hb hr rfl (fun t ht hW => ⟨(1 : Int32), rfl, by simp only [f_M_shapeCanBe, if_pos c1, if_pos c2, if_neg c3, if_neg c4, if_neg c8, if_neg c12, if_neg c16, if_neg c20, if_neg c22, if_neg c24, if_neg c25, if_neg c29, if_neg c33, if_neg c37, if_pos c41, if_neg c42, if_neg c44]; rfl, ht⟩) (fun q h => absurd h List.not_mem_nil) d_M_shapeCanBe_289
                              · by_cases c45 : cod = (13 : Int32)
                                · refine lv_tableIn (off := 233) (tgt := 263) hx hb d_M_shapeCanBe_30 (by rw [c45]; decide) (by rw [c45]; decide) (by rw [c45]; rfl) (by decide) ?_
                                  refine lv_aload_n hx hb d_M_shapeCanBe_263 rfl (lv_at hl 0 rfl) ?_
                                  refine va_get (D := D) (ci := 1) (v := .int fld) (C := "SignMachine$Machine") (T := F_M) (N := 14) hx hb hk fi_M hown hK.1 hP 0 rfl rfl 10 (by decide) (hk _ k_177) (fun _ h9 => h9) rfl d_M_shapeCanBe_264 ?_
                                  refine lv_aload_n hx hb d_M_shapeCanBe_267 rfl (lv_at hl 0 rfl) ?_
                                  refine va_get (D := D) (ci := 1) (v := .int cod) (C := "SignMachine$Machine") (T := F_M) (N := 14) hx hb hk fi_M hown hK.1 hP 0 rfl rfl 9 (by decide) (hk _ k_176) (fun _ h9 => h9) rfl d_M_shapeCanBe_268 ?_
                                  refine lv_bipush (v := 47) hx hb d_M_shapeCanBe_271 (by decide) ?_
                                  refine lv_icmp_gt (tgt := 280) hx hb d_M_shapeCanBe_273 (by decide) (fun c46 => ?_) (fun c46 => ?_)
                                  · refine lv_iconst (v := 3) hx hb d_M_shapeCanBe_280 (by decide) ?_
                                    refine lv_icmp_gt (tgt := 288) hx hb d_M_shapeCanBe_281 (by decide) (fun c47 => ?_) (fun c47 => ?_)
                                    · refine lv_iconst (v := 0) hx hb d_M_shapeCanBe_288 (by decide) ?_
                                      exact W.zret (v := (0 : Int32)) hx hb hr rfl (fun t ht hW => ⟨(0 : Int32), rfl, by simp only [f_M_shapeCanBe, if_pos c1, if_pos c2, if_neg c3, if_neg c4, if_neg c8, if_neg c12, if_neg c16, if_neg c20, if_neg c22, if_neg c24, if_neg c25, if_neg c29, if_neg c33, if_neg c37, if_neg c41, if_pos c45, if_pos c46, if_pos c47]; rfl, ht⟩) (fun q h => absurd h List.not_mem_nil) d_M_shapeCanBe_289
                                    · refine lv_iconst (v := 1) hx hb d_M_shapeCanBe_284 (by decide) ?_
                                      refine lv_goto (tgt := 289) hx hb d_M_shapeCanBe_285 (by decide) ?_
                                      exact W.zret (v := (1 : Int32)) hx hb hr rfl (fun t ht hW => ⟨(1 : Int32), rfl, by simp only [f_M_shapeCanBe, if_pos c1, if_pos c2, if_neg c3, if_neg c4, if_neg c8, if_neg c12, if_neg c16, if_neg c20, if_neg c22, if_neg c24, if_neg c25, if_neg c29, if_neg c33, if_neg c37, if_neg c41, if_pos c45, if_pos c46, if_neg c47]; rfl, ht⟩) (fun q h => absurd h List.not_mem_nil) d_M_shapeCanBe_289
                                  · refine lv_iconst (v := 5) hx hb d_M_shapeCanBe_276 (by decide) ?_
                                    refine lv_goto (tgt := 281) hx hb d_M_shapeCanBe_277 (by decide) ?_
                                    refine lv_icmp_gt (tgt := 288) hx hb d_M_shapeCanBe_281 (by decide) (fun c48 => ?_) (fun c48 => ?_)
                                    · refine lv_iconst (v := 0) hx hb d_M_shapeCanBe_288 (by decide) ?_
                                      exact W.zret (v := (0 : Int32)) hx hb hr rfl (fun t ht hW => ⟨(0 : Int32), rfl, by simp only [f_M_shapeCanBe, if_pos c1, if_pos c2, if_neg c3, if_neg c4, if_neg c8, if_neg c12, if_neg c16, if_neg c20, if_neg c22, if_neg c24, if_neg c25, if_neg c29, if_neg c33, if_neg c37, if_neg c41, if_pos c45, if_neg c46, if_pos c48]; rfl, ht⟩) (fun q h => absurd h List.not_mem_nil) d_M_shapeCanBe_289
                                    · refine lv_iconst (v := 1) hx hb d_M_shapeCanBe_284 (by decide) ?_
                                      refine lv_goto (tgt := 289) hx hb d_M_shapeCanBe_285 (by decide) ?_
                                      exact W.zret (v := (1 : Int32)) hx hb hr rfl (fun t ht hW => ⟨(1 : Int32), rfl, by simp only [f_M_shapeCanBe, if_pos c1, if_pos c2, if_neg c3, if_neg c4, if_neg c8, if_neg c12, if_neg c16, if_neg c20, if_neg c22, if_neg c24, if_neg c25, if_neg c29, if_neg c33, if_neg c37, if_neg c41, if_pos c45, if_neg c46, if_neg c48]; rfl, ht⟩) (fun q h => absurd h List.not_mem_nil) d_M_shapeCanBe_289
                                · by_cases c49 : cod = (14 : Int32)
                                  · refine lv_tableIn (off := 233) (tgt := 263) hx hb d_M_shapeCanBe_30 (by rw [c49]; decide) (by rw [c49]; decide) (by rw [c49]; rfl) (by decide) ?_
                                    refine lv_aload_n hx hb d_M_shapeCanBe_263 rfl (lv_at hl 0 rfl) ?_
                                    refine va_get (D := D) (ci := 1) (v := .int fld) (C := "SignMachine$Machine") (T := F_M) (N := 14) hx hb hk fi_M hown hK.1 hP 0 rfl rfl 10 (by decide) (hk _ k_177) (fun _ h9 => h9) rfl d_M_shapeCanBe_264 ?_
                                    refine lv_aload_n hx hb d_M_shapeCanBe_267 rfl (lv_at hl 0 rfl) ?_
                                    refine va_get (D := D) (ci := 1) (v := .int cod) (C := "SignMachine$Machine") (T := F_M) (N := 14) hx hb hk fi_M hown hK.1 hP 0 rfl rfl 9 (by decide) (hk _ k_176) (fun _ h9 => h9) rfl d_M_shapeCanBe_268 ?_
                                    refine lv_bipush (v := 47) hx hb d_M_shapeCanBe_271 (by decide) ?_
                                    refine lv_icmp_gt (tgt := 280) hx hb d_M_shapeCanBe_273 (by decide) (fun c50 => ?_) (fun c50 => ?_)
                                    · refine lv_iconst (v := 3) hx hb d_M_shapeCanBe_280 (by decide) ?_
                                      refine lv_icmp_gt (tgt := 288) hx hb d_M_shapeCanBe_281 (by decide) (fun c51 => ?_) (fun c51 => ?_)
                                      · refine lv_iconst (v := 0) hx hb d_M_shapeCanBe_288 (by decide) ?_
                                        exact W.zret (v := (0 : Int32)) hx hb hr rfl (fun t ht hW => ⟨(0 : Int32), rfl, by simp only [f_M_shapeCanBe, if_pos c1, if_pos c2, if_neg c3, if_neg c4, if_neg c8, if_neg c12, if_neg c16, if_neg c20, if_neg c22, if_neg c24, if_neg c25, if_neg c29, if_neg c33, if_neg c37, if_neg c41, if_neg c45, if_pos c49, if_pos c50, if_pos c51]; rfl, ht⟩) (fun q h => absurd h List.not_mem_nil) d_M_shapeCanBe_289
                                      · refine lv_iconst (v := 1) hx hb d_M_shapeCanBe_284 (by decide) ?_
                                        refine lv_goto (tgt := 289) hx hb d_M_shapeCanBe_285 (by decide) ?_
                                        exact W.zret (v := (1 : Int32)) hx hb hr rfl (fun t ht hW => ⟨(1 : Int32), rfl, by simp only [f_M_shapeCanBe, if_pos c1, if_pos c2, if_neg c3, if_neg c4, if_neg c8, if_neg c12, if_neg c16, if_neg c20, if_neg c22, if_neg c24, if_neg c25, if_neg c29, if_neg c33, if_neg c37, if_neg c41, if_neg c45, if_pos c49, if_pos c50, if_neg c51]; rfl, ht⟩) (fun q h => absurd h List.not_mem_nil) d_M_shapeCanBe_289
                                    · refine lv_iconst (v := 5) hx hb d_M_shapeCanBe_276 (by decide) ?_
                                      refine lv_goto (tgt := 281) hx hb d_M_shapeCanBe_277 (by decide) ?_
                                      refine lv_icmp_gt (tgt := 288) hx hb d_M_shapeCanBe_281 (by decide) (fun c52 => ?_) (fun c52 => ?_)
                                      · refine lv_iconst (v := 0) hx hb d_M_shapeCanBe_288 (by decide) ?_
                                        exact W.zret (v := (0 : Int32)) hx hb hr rfl (fun t ht hW => ⟨(0 : Int32), rfl, by simp only [f_M_shapeCanBe, if_pos c1, if_pos c2, if_neg c3, if_neg c4, if_neg c8, if_neg c12, if_neg c16, if_neg c20, if_neg c22, if_neg c24, if_neg c25, if_neg c29, if_neg c33, if_neg c37, if_neg c41, if_neg c45, if_pos c49, if_neg c50, if_pos c52]; rfl, ht⟩) (fun q h => absurd h List.not_mem_nil) d_M_shapeCanBe_289
                                      · refine lv_iconst (v := 1) hx hb d_M_shapeCanBe_284 (by decide) ?_
                                        refine lv_goto (tgt := 289) hx hb d_M_shapeCanBe_285 (by decide) ?_
                                        exact W.zret (v := (1 : Int32)) hx hb hr rfl (fun t ht hW => ⟨(1 : Int32), rfl, by simp only [f_M_shapeCanBe, if_pos c1, if_pos c2, if_neg c3, if_neg c4, if_neg c8, if_neg c12, if_neg c16, if_neg c20, if_neg c22, if_neg c24, if_neg c25, if_neg c29, if_neg c33, if_neg c37, if_neg c41, if_neg c45, if_pos c49, if_neg c50, if_neg c52]; rfl, ht⟩) (fun q h => absurd h List.not_mem_nil) d_M_shapeCanBe_289
                                  · by_cases c53 : cod = (15 : Int32)
                                    · refine lv_tableIn (off := 233) (tgt := 263) hx hb d_M_shapeCanBe_30 (by rw [c53]; decide) (by rw [c53]; decide) (by rw [c53]; rfl) (by decide) ?_
                                      refine lv_aload_n hx hb d_M_shapeCanBe_263 rfl (lv_at hl 0 rfl) ?_
                                      refine va_get (D := D) (ci := 1) (v := .int fld) (C := "SignMachine$Machine") (T := F_M) (N := 14) hx hb hk fi_M hown hK.1 hP 0 rfl rfl 10 (by decide) (hk _ k_177) (fun _ h9 => h9) rfl d_M_shapeCanBe_264 ?_
                                      refine lv_aload_n hx hb d_M_shapeCanBe_267 rfl (lv_at hl 0 rfl) ?_
                                      refine va_get (D := D) (ci := 1) (v := .int cod) (C := "SignMachine$Machine") (T := F_M) (N := 14) hx hb hk fi_M hown hK.1 hP 0 rfl rfl 9 (by decide) (hk _ k_176) (fun _ h9 => h9) rfl d_M_shapeCanBe_268 ?_
                                      refine lv_bipush (v := 47) hx hb d_M_shapeCanBe_271 (by decide) ?_
                                      refine lv_icmp_gt (tgt := 280) hx hb d_M_shapeCanBe_273 (by decide) (fun c54 => ?_) (fun c54 => ?_)
                                      · refine lv_iconst (v := 3) hx hb d_M_shapeCanBe_280 (by decide) ?_
                                        refine lv_icmp_gt (tgt := 288) hx hb d_M_shapeCanBe_281 (by decide) (fun c55 => ?_) (fun c55 => ?_)
                                        · refine lv_iconst (v := 0) hx hb d_M_shapeCanBe_288 (by decide) ?_
                                          exact W.zret (v := (0 : Int32)) hx hb hr rfl (fun t ht hW => ⟨(0 : Int32), rfl, by simp only [f_M_shapeCanBe, if_pos c1, if_pos c2, if_neg c3, if_neg c4, if_neg c8, if_neg c12, if_neg c16, if_neg c20, if_neg c22, if_neg c24, if_neg c25, if_neg c29, if_neg c33, if_neg c37, if_neg c41, if_neg c45, if_neg c49, if_pos c53, if_pos c54, if_pos c55]; rfl, ht⟩) (fun q h => absurd h List.not_mem_nil) d_M_shapeCanBe_289
                                        · refine lv_iconst (v := 1) hx hb d_M_shapeCanBe_284 (by decide) ?_
                                          refine lv_goto (tgt := 289) hx hb d_M_shapeCanBe_285 (by decide) ?_
                                          exact W.zret (v := (1 : Int32)) hx hb hr rfl (fun t ht hW => ⟨(1 : Int32), rfl, by simp only [f_M_shapeCanBe, if_pos c1, if_pos c2, if_neg c3, if_neg c4, if_neg c8, if_neg c12, if_neg c16, if_neg c20, if_neg c22, if_neg c24, if_neg c25, if_neg c29, if_neg c33, if_neg c37, if_neg c41, if_neg c45, if_neg c49, if_pos c53, if_pos c54, if_neg c55]; rfl, ht⟩) (fun q h => absurd h List.not_mem_nil) d_M_shapeCanBe_289
                                      · refine lv_iconst (v := 5) hx hb d_M_shapeCanBe_276 (by decide) ?_
                                        refine lv_goto (tgt := 281) hx hb d_M_shapeCanBe_277 (by decide) ?_
                                        refine lv_icmp_gt (tgt := 288) hx hb d_M_shapeCanBe_281 (by decide) (fun c56 => ?_) (fun c56 => ?_)
                                        · refine lv_iconst (v := 0) hx hb d_M_shapeCanBe_288 (by decide) ?_
                                          exact W.zret (v := (0 : Int32)) hx hb hr rfl (fun t ht hW => ⟨(0 : Int32), rfl, by simp only [f_M_shapeCanBe, if_pos c1, if_pos c2, if_neg c3, if_neg c4, if_neg c8, if_neg c12, if_neg c16, if_neg c20, if_neg c22, if_neg c24, if_neg c25, if_neg c29, if_neg c33, if_neg c37, if_neg c41, if_neg c45, if_neg c49, if_pos c53, if_neg c54, if_pos c56]; rfl, ht⟩) (fun q h => absurd h List.not_mem_nil) d_M_shapeCanBe_289
                                        · refine lv_iconst (v := 1) hx hb d_M_shapeCanBe_284 (by decide) ?_
                                          refine lv_goto (tgt := 289) hx hb d_M_shapeCanBe_285 (by decide) ?_
                                          exact W.zret (v := (1 : Int32)) hx hb hr rfl (fun t ht hW => ⟨(1 : Int32), rfl, by simp only [f_M_shapeCanBe, if_pos c1, if_pos c2, if_neg c3, if_neg c4, if_neg c8, if_neg c12, if_neg c16, if_neg c20, if_neg c22, if_neg c24, if_neg c25, if_neg c29, if_neg c33, if_neg c37, if_neg c41, if_neg c45, if_neg c49, if_pos c53, if_neg c54, if_neg c56]; rfl, ht⟩) (fun q h => absurd h List.not_mem_nil) d_M_shapeCanBe_289
                                    · by_cases c57 : cod = (16 : Int32)
                                      · refine lv_tableIn (off := 233) (tgt := 263) hx hb d_M_shapeCanBe_30 (by rw [c57]; decide) (by rw [c57]; decide) (by rw [c57]; rfl) (by decide) ?_
                                        refine lv_aload_n hx hb d_M_shapeCanBe_263 rfl (lv_at hl 0 rfl) ?_
                                        refine va_get (D := D) (ci := 1) (v := .int fld) (C := "SignMachine$Machine") (T := F_M) (N := 14) hx hb hk fi_M hown hK.1 hP 0 rfl rfl 10 (by decide) (hk _ k_177) (fun _ h9 => h9) rfl d_M_shapeCanBe_264 ?_
                                        refine lv_aload_n hx hb d_M_shapeCanBe_267 rfl (lv_at hl 0 rfl) ?_
                                        refine va_get (D := D) (ci := 1) (v := .int cod) (C := "SignMachine$Machine") (T := F_M) (N := 14) hx hb hk fi_M hown hK.1 hP 0 rfl rfl 9 (by decide) (hk _ k_176) (fun _ h9 => h9) rfl d_M_shapeCanBe_268 ?_
                                        refine lv_bipush (v := 47) hx hb d_M_shapeCanBe_271 (by decide) ?_
                                        refine lv_icmp_gt (tgt := 280) hx hb d_M_shapeCanBe_273 (by decide) (fun c58 => ?_) (fun c58 => ?_)
                                        · refine lv_iconst (v := 3) hx hb d_M_shapeCanBe_280 (by decide) ?_
                                          refine lv_icmp_gt (tgt := 288) hx hb d_M_shapeCanBe_281 (by decide) (fun c59 => ?_) (fun c59 => ?_)
                                          · refine lv_iconst (v := 0) hx hb d_M_shapeCanBe_288 (by decide) ?_
                                            exact W.zret (v := (0 : Int32)) hx hb hr rfl (fun t ht hW => ⟨(0 : Int32), rfl, by simp only [f_M_shapeCanBe, if_pos c1, if_pos c2, if_neg c3, if_neg c4, if_neg c8, if_neg c12, if_neg c16, if_neg c20, if_neg c22, if_neg c24, if_neg c25, if_neg c29, if_neg c33, if_neg c37, if_neg c41, if_neg c45, if_neg c49, if_neg c53, if_pos c57, if_pos c58, if_pos c59]; rfl, ht⟩) (fun q h => absurd h List.not_mem_nil) d_M_shapeCanBe_289
                                          · refine lv_iconst (v := 1) hx hb d_M_shapeCanBe_284 (by decide) ?_
                                            refine lv_goto (tgt := 289) hx hb d_M_shapeCanBe_285 (by decide) ?_
                                            exact W.zret (v := (1 : Int32)) hx hb hr rfl (fun t ht hW => ⟨(1 : Int32), rfl, by simp only [f_M_shapeCanBe, if_pos c1, if_pos c2, if_neg c3, if_neg c4, if_neg c8, if_neg c12, if_neg c16, if_neg c20, if_neg c22, if_neg c24, if_neg c25, if_neg c29, if_neg c33, if_neg c37, if_neg c41, if_neg c45, if_neg c49, if_neg c53, if_pos c57, if_pos c58, if_neg c59]; rfl, ht⟩) (fun q h => absurd h List.not_mem_nil) d_M_shapeCanBe_289
                                        · refine lv_iconst (v := 5) hx hb d_M_shapeCanBe_276 (by decide) ?_
                                          refine lv_goto (tgt := 281) hx hb d_M_shapeCanBe_277 (by decide) ?_
                                          refine lv_icmp_gt (tgt := 288) hx hb d_M_shapeCanBe_281 (by decide) (fun c60 => ?_) (fun c60 => ?_)
                                          · refine lv_iconst (v := 0) hx hb d_M_shapeCanBe_288 (by decide) ?_
                                            exact W.zret (v := (0 : Int32)) hx hb hr rfl (fun t ht hW => ⟨(0 : Int32), rfl, by simp only [f_M_shapeCanBe, if_pos c1, if_pos c2, if_neg c3, if_neg c4, if_neg c8, if_neg c12, if_neg c16, if_neg c20, if_neg c22, if_neg c24, if_neg c25, if_neg c29, if_neg c33, if_neg c37, if_neg c41, if_neg c45, if_neg c49, if_neg c53, if_pos c57, if_neg c58, if_pos c60]; rfl, ht⟩) (fun q h => absurd h List.not_mem_nil) d_M_shapeCanBe_289
                                          · refine lv_iconst (v := 1) hx hb d_M_shapeCanBe_284 (by decide) ?_
                                            refine lv_goto (tgt := 289) hx hb d_M_shapeCanBe_285 (by decide) ?_
                                            exact W.zret (v := (1 : Int32)) hx hb hr rfl (fun t ht hW => ⟨(1 : Int32), rfl, by simp only [f_M_shapeCanBe, if_pos c1, if_pos c2, if_neg c3, if_neg c4, if_neg c8, if_neg c12, if_neg c16, if_neg c20, if_neg c22, if_neg c24, if_neg c25, if_neg c29, if_neg c33, if_neg c37, if_neg c41, if_neg c45, if_neg c49, if_neg c53, if_pos c57, if_neg c58, if_neg c60]; rfl, ht⟩) (fun q h => absurd h List.not_mem_nil) d_M_shapeCanBe_289
                                      · by_cases c61 : cod = (17 : Int32)
                                        · refine lv_tableIn (off := 233) (tgt := 263) hx hb d_M_shapeCanBe_30 (by rw [c61]; decide) (by rw [c61]; decide) (by rw [c61]; rfl) (by decide) ?_
                                          refine lv_aload_n hx hb d_M_shapeCanBe_263 rfl (lv_at hl 0 rfl) ?_
                                          refine va_get (D := D) (ci := 1) (v := .int fld) (C := "SignMachine$Machine") (T := F_M) (N := 14) hx hb hk fi_M hown hK.1 hP 0 rfl rfl 10 (by decide) (hk _ k_177) (fun _ h9 => h9) rfl d_M_shapeCanBe_264 ?_
                                          refine lv_aload_n hx hb d_M_shapeCanBe_267 rfl (lv_at hl 0 rfl) ?_
                                          refine va_get (D := D) (ci := 1) (v := .int cod) (C := "SignMachine$Machine") (T := F_M) (N := 14) hx hb hk fi_M hown hK.1 hP 0 rfl rfl 9 (by decide) (hk _ k_176) (fun _ h9 => h9) rfl d_M_shapeCanBe_268 ?_
                                          refine lv_bipush (v := 47) hx hb d_M_shapeCanBe_271 (by decide) ?_
                                          refine lv_icmp_gt (tgt := 280) hx hb d_M_shapeCanBe_273 (by decide) (fun c62 => ?_) (fun c62 => ?_)
                                          · refine lv_iconst (v := 3) hx hb d_M_shapeCanBe_280 (by decide) ?_
                                            refine lv_icmp_gt (tgt := 288) hx hb d_M_shapeCanBe_281 (by decide) (fun c63 => ?_) (fun c63 => ?_)
                                            · refine lv_iconst (v := 0) hx hb d_M_shapeCanBe_288 (by decide) ?_
                                              exact W.zret (v := (0 : Int32)) hx hb hr rfl (fun t ht hW => ⟨(0 : Int32), rfl, by simp only [f_M_shapeCanBe, if_pos c1, if_pos c2, if_neg c3, if_neg c4, if_neg c8, if_neg c12, if_neg c16, if_neg c20, if_neg c22, if_neg c24, if_neg c25, if_neg c29, if_neg c33, if_neg c37, if_neg c41, if_neg c45, if_neg c49, if_neg c53, if_neg c57, if_pos c61, if_pos c62, if_pos c63]; rfl, ht⟩) (fun q h => absurd h List.not_mem_nil) d_M_shapeCanBe_289
                                            · refine lv_iconst (v := 1) hx hb d_M_shapeCanBe_284 (by decide) ?_
                                              refine lv_goto (tgt := 289) hx hb d_M_shapeCanBe_285 (by decide) ?_
                                              exact W.zret (v := (1 : Int32)) hx hb hr rfl (fun t ht hW => ⟨(1 : Int32), rfl, by simp only [f_M_shapeCanBe, if_pos c1, if_pos c2, if_neg c3, if_neg c4, if_neg c8, if_neg c12, if_neg c16, if_neg c20, if_neg c22, if_neg c24, if_neg c25, if_neg c29, if_neg c33, if_neg c37, if_neg c41, if_neg c45, if_neg c49, if_neg c53, if_neg c57, if_pos c61, if_pos c62, if_neg c63]; rfl, ht⟩) (fun q h => absurd h List.not_mem_nil) d_M_shapeCanBe_289
                                          · refine lv_iconst (v := 5) hx hb d_M_shapeCanBe_276 (by decide) ?_
                                            refine lv_goto (tgt := 281) hx hb d_M_shapeCanBe_277 (by decide) ?_
                                            refine lv_icmp_gt (tgt := 288) hx hb d_M_shapeCanBe_281 (by decide) (fun c64 => ?_) (fun c64 => ?_)
                                            · refine lv_iconst (v := 0) hx hb d_M_shapeCanBe_288 (by decide) ?_
                                              exact W.zret (v := (0 : Int32)) hx hb hr rfl (fun t ht hW => ⟨(0 : Int32), rfl, by simp only [f_M_shapeCanBe, if_pos c1, if_pos c2, if_neg c3, if_neg c4, if_neg c8, if_neg c12, if_neg c16, if_neg c20, if_neg c22, if_neg c24, if_neg c25, if_neg c29, if_neg c33, if_neg c37, if_neg c41, if_neg c45, if_neg c49, if_neg c53, if_neg c57, if_pos c61, if_neg c62, if_pos c64]; rfl, ht⟩) (fun q h => absurd h List.not_mem_nil) d_M_shapeCanBe_289
                                            · refine lv_iconst (v := 1) hx hb d_M_shapeCanBe_284 (by decide) ?_
                                              refine lv_goto (tgt := 289) hx hb d_M_shapeCanBe_285 (by decide) ?_
                                              exact W.zret (v := (1 : Int32)) hx hb hr rfl (fun t ht hW => ⟨(1 : Int32), rfl, by simp only [f_M_shapeCanBe, if_pos c1, if_pos c2, if_neg c3, if_neg c4, if_neg c8, if_neg c12, if_neg c16, if_neg c20, if_neg c22, if_neg c24, if_neg c25, if_neg c29, if_neg c33, if_neg c37, if_neg c41, if_neg c45, if_neg c49, if_neg c53, if_neg c57, if_pos c61, if_neg c62, if_neg c64]; rfl, ht⟩) (fun q h => absurd h List.not_mem_nil) d_M_shapeCanBe_289
                                        · by_cases c65 : cod = (18 : Int32)
                                          · refine lv_tableIn (off := 233) (tgt := 263) hx hb d_M_shapeCanBe_30 (by rw [c65]; decide) (by rw [c65]; decide) (by rw [c65]; rfl) (by decide) ?_
                                            refine lv_aload_n hx hb d_M_shapeCanBe_263 rfl (lv_at hl 0 rfl) ?_
                                            refine va_get (D := D) (ci := 1) (v := .int fld) (C := "SignMachine$Machine") (T := F_M) (N := 14) hx hb hk fi_M hown hK.1 hP 0 rfl rfl 10 (by decide) (hk _ k_177) (fun _ h9 => h9) rfl d_M_shapeCanBe_264 ?_
                                            refine lv_aload_n hx hb d_M_shapeCanBe_267 rfl (lv_at hl 0 rfl) ?_
                                            refine va_get (D := D) (ci := 1) (v := .int cod) (C := "SignMachine$Machine") (T := F_M) (N := 14) hx hb hk fi_M hown hK.1 hP 0 rfl rfl 9 (by decide) (hk _ k_176) (fun _ h9 => h9) rfl d_M_shapeCanBe_268 ?_
                                            refine lv_bipush (v := 47) hx hb d_M_shapeCanBe_271 (by decide) ?_
                                            refine lv_icmp_gt (tgt := 280) hx hb d_M_shapeCanBe_273 (by decide) (fun c66 => ?_) (fun c66 => ?_)
                                            · refine lv_iconst (v := 3) hx hb d_M_shapeCanBe_280 (by decide) ?_
                                              refine lv_icmp_gt (tgt := 288) hx hb d_M_shapeCanBe_281 (by decide) (fun c67 => ?_) (fun c67 => ?_)
                                              · refine lv_iconst (v := 0) hx hb d_M_shapeCanBe_288 (by decide) ?_
                                                exact W.zret (v := (0 : Int32)) hx hb hr rfl (fun t ht hW => ⟨(0 : Int32), rfl, by simp only [f_M_shapeCanBe, if_pos c1, if_pos c2, if_neg c3, if_neg c4, if_neg c8, if_neg c12, if_neg c16, if_neg c20, if_neg c22, if_neg c24, if_neg c25, if_neg c29, if_neg c33, if_neg c37, if_neg c41, if_neg c45, if_neg c49, if_neg c53, if_neg c57, if_neg c61, if_pos c65, if_pos c66, if_pos c67]; rfl, ht⟩) (fun q h => absurd h List.not_mem_nil) d_M_shapeCanBe_289
                                              · refine lv_iconst (v := 1) hx hb d_M_shapeCanBe_284 (by decide) ?_
                                                refine lv_goto (tgt := 289) hx hb d_M_shapeCanBe_285 (by decide) ?_
                                                exact W.zret (v := (1 : Int32)) hx hb hr rfl (fun t ht hW => ⟨(1 : Int32), rfl, by simp only [f_M_shapeCanBe, if_pos c1, if_pos c2, if_neg c3, if_neg c4, if_neg c8, if_neg c12, if_neg c16, if_neg c20, if_neg c22, if_neg c24, if_neg c25, if_neg c29, if_neg c33, if_neg c37, if_neg c41, if_neg c45, if_neg c49, if_neg c53, if_neg c57, if_neg c61, if_pos c65, if_pos c66, if_neg c67]; rfl, ht⟩) (fun q h => absurd h List.not_mem_nil) d_M_shapeCanBe_289
                                            · refine lv_iconst (v := 5) hx hb d_M_shapeCanBe_276 (by decide) ?_
                                              refine lv_goto (tgt := 281) hx hb d_M_shapeCanBe_277 (by decide) ?_
                                              refine lv_icmp_gt (tgt := 288) hx hb d_M_shapeCanBe_281 (by decide) (fun c68 => ?_) (fun c68 => ?_)
                                              · refine lv_iconst (v := 0) hx hb d_M_shapeCanBe_288 (by decide) ?_
                                                exact W.zret (v := (0 : Int32)) hx hb hr rfl (fun t ht hW => ⟨(0 : Int32), rfl, by simp only [f_M_shapeCanBe, if_pos c1, if_pos c2, if_neg c3, if_neg c4, if_neg c8, if_neg c12, if_neg c16, if_neg c20, if_neg c22, if_neg c24, if_neg c25, if_neg c29, if_neg c33, if_neg c37, if_neg c41, if_neg c45, if_neg c49, if_neg c53, if_neg c57, if_neg c61, if_pos c65, if_neg c66, if_pos c68]; rfl, ht⟩) (fun q h => absurd h List.not_mem_nil) d_M_shapeCanBe_289
                                              · refine lv_iconst (v := 1) hx hb d_M_shapeCanBe_284 (by decide) ?_
                                                refine lv_goto (tgt := 289) hx hb d_M_shapeCanBe_285 (by decide) ?_
                                                exact W.zret (v := (1 : Int32)) hx hb hr rfl (fun t ht hW => ⟨(1 : Int32), rfl, by simp only [f_M_shapeCanBe, if_pos c1, if_pos c2, if_neg c3, if_neg c4, if_neg c8, if_neg c12, if_neg c16, if_neg c20, if_neg c22, if_neg c24, if_neg c25, if_neg c29, if_neg c33, if_neg c37, if_neg c41, if_neg c45, if_neg c49, if_neg c53, if_neg c57, if_neg c61, if_pos c65, if_neg c66, if_neg c68]; rfl, ht⟩) (fun q h => absurd h List.not_mem_nil) d_M_shapeCanBe_289
                                          · by_cases c69 : cod = (19 : Int32)
                                            · refine lv_tableIn (off := 233) (tgt := 263) hx hb d_M_shapeCanBe_30 (by rw [c69]; decide) (by rw [c69]; decide) (by rw [c69]; rfl) (by decide) ?_
                                              refine lv_aload_n hx hb d_M_shapeCanBe_263 rfl (lv_at hl 0 rfl) ?_
                                              refine va_get (D := D) (ci := 1) (v := .int fld) (C := "SignMachine$Machine") (T := F_M) (N := 14) hx hb hk fi_M hown hK.1 hP 0 rfl rfl 10 (by decide) (hk _ k_177) (fun _ h9 => h9) rfl d_M_shapeCanBe_264 ?_
                                              refine lv_aload_n hx hb d_M_shapeCanBe_267 rfl (lv_at hl 0 rfl) ?_
                                              refine va_get (D := D) (ci := 1) (v := .int cod) (C := "SignMachine$Machine") (T := F_M) (N := 14) hx hb hk fi_M hown hK.1 hP 0 rfl rfl 9 (by decide) (hk _ k_176) (fun _ h9 => h9) rfl d_M_shapeCanBe_268 ?_
                                              refine lv_bipush (v := 47) hx hb d_M_shapeCanBe_271 (by decide) ?_
                                              refine lv_icmp_gt (tgt := 280) hx hb d_M_shapeCanBe_273 (by decide) (fun c70 => ?_) (fun c70 => ?_)
                                              · refine lv_iconst (v := 3) hx hb d_M_shapeCanBe_280 (by decide) ?_
                                                refine lv_icmp_gt (tgt := 288) hx hb d_M_shapeCanBe_281 (by decide) (fun c71 => ?_) (fun c71 => ?_)
                                                · refine lv_iconst (v := 0) hx hb d_M_shapeCanBe_288 (by decide) ?_
                                                  exact W.zret (v := (0 : Int32)) hx hb hr rfl (fun t ht hW => ⟨(0 : Int32), rfl, by simp only [f_M_shapeCanBe, if_pos c1, if_pos c2, if_neg c3, if_neg c4, if_neg c8, if_neg c12, if_neg c16, if_neg c20, if_neg c22, if_neg c24, if_neg c25, if_neg c29, if_neg c33, if_neg c37, if_neg c41, if_neg c45, if_neg c49, if_neg c53, if_neg c57, if_neg c61, if_neg c65, if_pos c69, if_pos c70, if_pos c71]; rfl, ht⟩) (fun q h => absurd h List.not_mem_nil) d_M_shapeCanBe_289
                                                · refine lv_iconst (v := 1) hx hb d_M_shapeCanBe_284 (by decide) ?_
                                                  refine lv_goto (tgt := 289) hx hb d_M_shapeCanBe_285 (by decide) ?_
                                                  exact W.zret (v := (1 : Int32)) hx hb hr rfl (fun t ht hW => ⟨(1 : Int32), rfl, by simp only [f_M_shapeCanBe, if_pos c1, if_pos c2, if_neg c3, if_neg c4, if_neg c8, if_neg c12, if_neg c16, if_neg c20, if_neg c22, if_neg c24, if_neg c25, if_neg c29, if_neg c33, if_neg c37, if_neg c41, if_neg c45, if_neg c49, if_neg c53, if_neg c57, if_neg c61, if_neg c65, if_pos c69, if_pos c70, if_neg c71]; rfl, ht⟩) (fun q h => absurd h List.not_mem_nil) d_M_shapeCanBe_289
                                              · refine lv_iconst (v := 5) hx hb d_M_shapeCanBe_276 (by decide) ?_
                                                refine lv_goto (tgt := 281) hx hb d_M_shapeCanBe_277 (by decide) ?_
                                                refine lv_icmp_gt (tgt := 288) hx hb d_M_shapeCanBe_281 (by decide) (fun c72 => ?_) (fun c72 => ?_)
                                                · refine lv_iconst (v := 0) hx hb d_M_shapeCanBe_288 (by decide) ?_
                                                  exact W.zret (v := (0 : Int32)) hx hb hr rfl (fun t ht hW => ⟨(0 : Int32), rfl, by simp only [f_M_shapeCanBe, if_pos c1, if_pos c2, if_neg c3, if_neg c4, if_neg c8, if_neg c12, if_neg c16, if_neg c20, if_neg c22, if_neg c24, if_neg c25, if_neg c29, if_neg c33, if_neg c37, if_neg c41, if_neg c45, if_neg c49, if_neg c53, if_neg c57, if_neg c61, if_neg c65, if_pos c69, if_neg c70, if_pos c72]; rfl, ht⟩) (fun q h => absurd h List.not_mem_nil) d_M_shapeCanBe_289
                                                · refine lv_iconst (v := 1) hx hb d_M_shapeCanBe_284 (by decide) ?_
                                                  refine lv_goto (tgt := 289) hx hb d_M_shapeCanBe_285 (by decide) ?_
                                                  exact W.zret (v := (1 : Int32)) hx hb hr rfl (fun t ht hW => ⟨(1 : Int32), rfl, by simp only [f_M_shapeCanBe, if_pos c1, if_pos c2, if_neg c3, if_neg c4, if_neg c8, if_neg c12, if_neg c16, if_neg c20, if_neg c22, if_neg c24, if_neg c25, if_neg c29, if_neg c33, if_neg c37, if_neg c41, if_neg c45, if_neg c49, if_neg c53, if_neg c57, if_neg c61, if_neg c65, if_pos c69, if_neg c70, if_neg c72]; rfl, ht⟩) (fun q h => absurd h List.not_mem_nil) d_M_shapeCanBe_289
                                            · by_cases c73 : cod = (20 : Int32)
                                              · refine lv_tableIn (off := 233) (tgt := 263) hx hb d_M_shapeCanBe_30 (by rw [c73]; decide) (by rw [c73]; decide) (by rw [c73]; rfl) (by decide) ?_
                                                refine lv_aload_n hx hb d_M_shapeCanBe_263 rfl (lv_at hl 0 rfl) ?_
                                                refine va_get (D := D) (ci := 1) (v := .int fld) (C := "SignMachine$Machine") (T := F_M) (N := 14) hx hb hk fi_M hown hK.1 hP 0 rfl rfl 10 (by decide) (hk _ k_177) (fun _ h9 => h9) rfl d_M_shapeCanBe_264 ?_
                                                refine lv_aload_n hx hb d_M_shapeCanBe_267 rfl (lv_at hl 0 rfl) ?_
                                                refine va_get (D := D) (ci := 1) (v := .int cod) (C := "SignMachine$Machine") (T := F_M) (N := 14) hx hb hk fi_M hown hK.1 hP 0 rfl rfl 9 (by decide) (hk _ k_176) (fun _ h9 => h9) rfl d_M_shapeCanBe_268 ?_
                                                refine lv_bipush (v := 47) hx hb d_M_shapeCanBe_271 (by decide) ?_
                                                refine lv_icmp_gt (tgt := 280) hx hb d_M_shapeCanBe_273 (by decide) (fun c74 => ?_) (fun c74 => ?_)
                                                · refine lv_iconst (v := 3) hx hb d_M_shapeCanBe_280 (by decide) ?_
                                                  refine lv_icmp_gt (tgt := 288) hx hb d_M_shapeCanBe_281 (by decide) (fun c75 => ?_) (fun c75 => ?_)
                                                  · refine lv_iconst (v := 0) hx hb d_M_shapeCanBe_288 (by decide) ?_
                                                    exact W.zret (v := (0 : Int32)) hx hb hr rfl (fun t ht hW => ⟨(0 : Int32), rfl, by simp only [f_M_shapeCanBe, if_pos c1, if_pos c2, if_neg c3, if_neg c4, if_neg c8, if_neg c12, if_neg c16, if_neg c20, if_neg c22, if_neg c24, if_neg c25, if_neg c29, if_neg c33, if_neg c37, if_neg c41, if_neg c45, if_neg c49, if_neg c53, if_neg c57, if_neg c61, if_neg c65, if_neg c69, if_pos c73, if_pos c74, if_pos c75]; rfl, ht⟩) (fun q h => absurd h List.not_mem_nil) d_M_shapeCanBe_289
                                                  · refine lv_iconst (v := 1) hx hb d_M_shapeCanBe_284 (by decide) ?_
                                                    refine lv_goto (tgt := 289) hx hb d_M_shapeCanBe_285 (by decide) ?_
                                                    exact W.zret (v := (1 : Int32)) hx hb hr rfl (fun t ht hW => ⟨(1 : Int32), rfl, by simp only [f_M_shapeCanBe, if_pos c1, if_pos c2, if_neg c3, if_neg c4, if_neg c8, if_neg c12, if_neg c16, if_neg c20, if_neg c22, if_neg c24, if_neg c25, if_neg c29, if_neg c33, if_neg c37, if_neg c41, if_neg c45, if_neg c49, if_neg c53, if_neg c57, if_neg c61, if_neg c65, if_neg c69, if_pos c73, if_pos c74, if_neg c75]; rfl, ht⟩) (fun q h => absurd h List.not_mem_nil) d_M_shapeCanBe_289
                                                · refine lv_iconst (v := 5) hx hb d_M_shapeCanBe_276 (by decide) ?_
                                                  refine lv_goto (tgt := 281) hx hb d_M_shapeCanBe_277 (by decide) ?_
                                                  refine lv_icmp_gt (tgt := 288) hx hb d_M_shapeCanBe_281 (by decide) (fun c76 => ?_) (fun c76 => ?_)
                                                  · refine lv_iconst (v := 0) hx hb d_M_shapeCanBe_288 (by decide) ?_
                                                    exact W.zret (v := (0 : Int32)) hx hb hr rfl (fun t ht hW => ⟨(0 : Int32), rfl, by simp only [f_M_shapeCanBe, if_pos c1, if_pos c2, if_neg c3, if_neg c4, if_neg c8, if_neg c12, if_neg c16, if_neg c20, if_neg c22, if_neg c24, if_neg c25, if_neg c29, if_neg c33, if_neg c37, if_neg c41, if_neg c45, if_neg c49, if_neg c53, if_neg c57, if_neg c61, if_neg c65, if_neg c69, if_pos c73, if_neg c74, if_pos c76]; rfl, ht⟩) (fun q h => absurd h List.not_mem_nil) d_M_shapeCanBe_289
                                                  · refine lv_iconst (v := 1) hx hb d_M_shapeCanBe_284 (by decide) ?_
                                                    refine lv_goto (tgt := 289) hx hb d_M_shapeCanBe_285 (by decide) ?_
                                                    exact W.zret (v := (1 : Int32)) hx hb hr rfl (fun t ht hW => ⟨(1 : Int32), rfl, by simp only [f_M_shapeCanBe, if_pos c1, if_pos c2, if_neg c3, if_neg c4, if_neg c8, if_neg c12, if_neg c16, if_neg c20, if_neg c22, if_neg c24, if_neg c25, if_neg c29, if_neg c33, if_neg c37, if_neg c41, if_neg c45, if_neg c49, if_neg c53, if_neg c57, if_neg c61, if_neg c65, if_neg c69, if_pos c73, if_neg c74, if_neg c76]; rfl, ht⟩) (fun q h => absurd h List.not_mem_nil) d_M_shapeCanBe_289
                                              · by_cases c77 : cod = (21 : Int32)
                                                · refine lv_tableIn (off := 233) (tgt := 263) hx hb d_M_shapeCanBe_30 (by rw [c77]; decide) (by rw [c77]; decide) (by rw [c77]; rfl) (by decide) ?_
                                                  refine lv_aload_n hx hb d_M_shapeCanBe_263 rfl (lv_at hl 0 rfl) ?_
                                                  refine va_get (D := D) (ci := 1) (v := .int fld) (C := "SignMachine$Machine") (T := F_M) (N := 14) hx hb hk fi_M hown hK.1 hP 0 rfl rfl 10 (by decide) (hk _ k_177) (fun _ h9 => h9) rfl d_M_shapeCanBe_264 ?_
                                                  refine lv_aload_n hx hb d_M_shapeCanBe_267 rfl (lv_at hl 0 rfl) ?_
                                                  refine va_get (D := D) (ci := 1) (v := .int cod) (C := "SignMachine$Machine") (T := F_M) (N := 14) hx hb hk fi_M hown hK.1 hP 0 rfl rfl 9 (by decide) (hk _ k_176) (fun _ h9 => h9) rfl d_M_shapeCanBe_268 ?_
                                                  refine lv_bipush (v := 47) hx hb d_M_shapeCanBe_271 (by decide) ?_
                                                  refine lv_icmp_gt (tgt := 280) hx hb d_M_shapeCanBe_273 (by decide) (fun c78 => ?_) (fun c78 => ?_)
                                                  · refine lv_iconst (v := 3) hx hb d_M_shapeCanBe_280 (by decide) ?_
                                                    refine lv_icmp_gt (tgt := 288) hx hb d_M_shapeCanBe_281 (by decide) (fun c79 => ?_) (fun c79 => ?_)
                                                    · refine lv_iconst (v := 0) hx hb d_M_shapeCanBe_288 (by decide) ?_
                                                      exact W.zret (v := (0 : Int32)) hx hb hr rfl (fun t ht hW => ⟨(0 : Int32), rfl, by simp only [f_M_shapeCanBe, if_pos c1, if_pos c2, if_neg c3, if_neg c4, if_neg c8, if_neg c12, if_neg c16, if_neg c20, if_neg c22, if_neg c24, if_neg c25, if_neg c29, if_neg c33, if_neg c37, if_neg c41, if_neg c45, if_neg c49, if_neg c53, if_neg c57, if_neg c61, if_neg c65, if_neg c69, if_neg c73, if_pos c77, if_pos c78, if_pos c79]; rfl, ht⟩) (fun q h => absurd h List.not_mem_nil) d_M_shapeCanBe_289
                                                    · refine lv_iconst (v := 1) hx hb d_M_shapeCanBe_284 (by decide) ?_
                                                      refine lv_goto (tgt := 289) hx hb d_M_shapeCanBe_285 (by decide) ?_
                                                      exact W.zret (v := (1 : Int32)) hx hb hr rfl (fun t ht hW => ⟨(1 : Int32), rfl, by simp only [f_M_shapeCanBe, if_pos c1, if_pos c2, if_neg c3, if_neg c4, if_neg c8, if_neg c12, if_neg c16, if_neg c20, if_neg c22, if_neg c24, if_neg c25, if_neg c29, if_neg c33, if_neg c37, if_neg c41, if_neg c45, if_neg c49, if_neg c53, if_neg c57, if_neg c61, if_neg c65, if_neg c69, if_neg c73, if_pos c77, if_pos c78, if_neg c79]; rfl, ht⟩) (fun q h => absurd h List.not_mem_nil) d_M_shapeCanBe_289
                                                  · refine lv_iconst (v := 5) hx hb d_M_shapeCanBe_276 (by decide) ?_
                                                    refine lv_goto (tgt := 281) hx hb d_M_shapeCanBe_277 (by decide) ?_
                                                    refine lv_icmp_gt (tgt := 288) hx hb d_M_shapeCanBe_281 (by decide) (fun c80 => ?_) (fun c80 => ?_)
                                                    · refine lv_iconst (v := 0) hx hb d_M_shapeCanBe_288 (by decide) ?_
                                                      exact W.zret (v := (0 : Int32)) hx hb hr rfl (fun t ht hW => ⟨(0 : Int32), rfl, by simp only [f_M_shapeCanBe, if_pos c1, if_pos c2, if_neg c3, if_neg c4, if_neg c8, if_neg c12, if_neg c16, if_neg c20, if_neg c22, if_neg c24, if_neg c25, if_neg c29, if_neg c33, if_neg c37, if_neg c41, if_neg c45, if_neg c49, if_neg c53, if_neg c57, if_neg c61, if_neg c65, if_neg c69, if_neg c73, if_pos c77, if_neg c78, if_pos c80]; rfl, ht⟩) (fun q h => absurd h List.not_mem_nil) d_M_shapeCanBe_289
                                                    · refine lv_iconst (v := 1) hx hb d_M_shapeCanBe_284 (by decide) ?_
                                                      refine lv_goto (tgt := 289) hx hb d_M_shapeCanBe_285 (by decide) ?_
                                                      exact W.zret (v := (1 : Int32)) hx hb hr rfl (fun t ht hW => ⟨(1 : Int32), rfl, by simp only [f_M_shapeCanBe, if_pos c1, if_pos c2, if_neg c3, if_neg c4, if_neg c8, if_neg c12, if_neg c16, if_neg c20, if_neg c22, if_neg c24, if_neg c25, if_neg c29, if_neg c33, if_neg c37, if_neg c41, if_neg c45, if_neg c49, if_neg c53, if_neg c57, if_neg c61, if_neg c65, if_neg c69, if_neg c73, if_pos c77, if_neg c78, if_neg c80]; rfl, ht⟩) (fun q h => absurd h List.not_mem_nil) d_M_shapeCanBe_289
                                                · by_cases c81 : cod = (22 : Int32)
                                                  · refine lv_tableIn (off := 233) (tgt := 263) hx hb d_M_shapeCanBe_30 (by rw [c81]; decide) (by rw [c81]; decide) (by rw [c81]; rfl) (by decide) ?_
                                                    refine lv_aload_n hx hb d_M_shapeCanBe_263 rfl (lv_at hl 0 rfl) ?_
                                                    refine va_get (D := D) (ci := 1) (v := .int fld) (C := "SignMachine$Machine") (T := F_M) (N := 14) hx hb hk fi_M hown hK.1 hP 0 rfl rfl 10 (by decide) (hk _ k_177) (fun _ h9 => h9) rfl d_M_shapeCanBe_264 ?_
                                                    refine lv_aload_n hx hb d_M_shapeCanBe_267 rfl (lv_at hl 0 rfl) ?_
                                                    refine va_get (D := D) (ci := 1) (v := .int cod) (C := "SignMachine$Machine") (T := F_M) (N := 14) hx hb hk fi_M hown hK.1 hP 0 rfl rfl 9 (by decide) (hk _ k_176) (fun _ h9 => h9) rfl d_M_shapeCanBe_268 ?_
                                                    refine lv_bipush (v := 47) hx hb d_M_shapeCanBe_271 (by decide) ?_
                                                    refine lv_icmp_gt (tgt := 280) hx hb d_M_shapeCanBe_273 (by decide) (fun c82 => ?_) (fun c82 => ?_)
                                                    · refine lv_iconst (v := 3) hx hb d_M_shapeCanBe_280 (by decide) ?_
                                                      refine lv_icmp_gt (tgt := 288) hx hb d_M_shapeCanBe_281 (by decide) (fun c83 => ?_) (fun c83 => ?_)
                                                      · refine lv_iconst (v := 0) hx hb d_M_shapeCanBe_288 (by decide) ?_
                                                        exact W.zret (v := (0 : Int32)) hx hb hr rfl (fun t ht hW => ⟨(0 : Int32), rfl, by simp only [f_M_shapeCanBe, if_pos c1, if_pos c2, if_neg c3, if_neg c4, if_neg c8, if_neg c12, if_neg c16, if_neg c20, if_neg c22, if_neg c24, if_neg c25, if_neg c29, if_neg c33, if_neg c37, if_neg c41, if_neg c45, if_neg c49, if_neg c53, if_neg c57, if_neg c61, if_neg c65, if_neg c69, if_neg c73, if_neg c77, if_pos c81, if_pos c82, if_pos c83]; rfl, ht⟩) (fun q h => absurd h List.not_mem_nil) d_M_shapeCanBe_289
                                                      · refine lv_iconst (v := 1) hx hb d_M_shapeCanBe_284 (by decide) ?_
                                                        refine lv_goto (tgt := 289) hx hb d_M_shapeCanBe_285 (by decide) ?_
                                                        exact W.zret (v := (1 : Int32)) hx hb hr rfl (fun t ht hW => ⟨(1 : Int32), rfl, by simp only [f_M_shapeCanBe, if_pos c1, if_pos c2, if_neg c3, if_neg c4, if_neg c8, if_neg c12, if_neg c16, if_neg c20, if_neg c22, if_neg c24, if_neg c25, if_neg c29, if_neg c33, if_neg c37, if_neg c41, if_neg c45, if_neg c49, if_neg c53, if_neg c57, if_neg c61, if_neg c65, if_neg c69, if_neg c73, if_neg c77, if_pos c81, if_pos c82, if_neg c83]; rfl, ht⟩) (fun q h => absurd h List.not_mem_nil) d_M_shapeCanBe_289
                                                    · refine lv_iconst (v := 5) hx hb d_M_shapeCanBe_276 (by decide) ?_
                                                      refine lv_goto (tgt := 281) hx hb d_M_shapeCanBe_277 (by decide) ?_
                                                      refine lv_icmp_gt (tgt := 288) hx hb d_M_shapeCanBe_281 (by decide) (fun c84 => ?_) (fun c84 => ?_)
                                                      · refine lv_iconst (v := 0) hx hb d_M_shapeCanBe_288 (by decide) ?_
                                                        exact W.zret (v := (0 : Int32)) hx hb hr rfl (fun t ht hW => ⟨(0 : Int32), rfl, by simp only [f_M_shapeCanBe, if_pos c1, if_pos c2, if_neg c3, if_neg c4, if_neg c8, if_neg c12, if_neg c16, if_neg c20, if_neg c22, if_neg c24, if_neg c25, if_neg c29, if_neg c33, if_neg c37, if_neg c41, if_neg c45, if_neg c49, if_neg c53, if_neg c57, if_neg c61, if_neg c65, if_neg c69, if_neg c73, if_neg c77, if_pos c81, if_neg c82, if_pos c84]; rfl, ht⟩) (fun q h => absurd h List.not_mem_nil) d_M_shapeCanBe_289
                                                      · refine lv_iconst (v := 1) hx hb d_M_shapeCanBe_284 (by decide) ?_
                                                        refine lv_goto (tgt := 289) hx hb d_M_shapeCanBe_285 (by decide) ?_
                                                        exact W.zret (v := (1 : Int32)) hx hb hr rfl (fun t ht hW => ⟨(1 : Int32), rfl, by simp only [f_M_shapeCanBe, if_pos c1, if_pos c2, if_neg c3, if_neg c4, if_neg c8, if_neg c12, if_neg c16, if_neg c20, if_neg c22, if_neg c24, if_neg c25, if_neg c29, if_neg c33, if_neg c37, if_neg c41, if_neg c45, if_neg c49, if_neg c53, if_neg c57, if_neg c61, if_neg c65, if_neg c69, if_neg c73, if_neg c77, if_pos c81, if_neg c82, if_neg c84]; rfl, ht⟩) (fun q h => absurd h List.not_mem_nil) d_M_shapeCanBe_289
                                                  · by_cases c85 : cod = (23 : Int32)
                                                    · refine lv_tableIn (off := 233) (tgt := 263) hx hb d_M_shapeCanBe_30 (by rw [c85]; decide) (by rw [c85]; decide) (by rw [c85]; rfl) (by decide) ?_
                                                      refine lv_aload_n hx hb d_M_shapeCanBe_263 rfl (lv_at hl 0 rfl) ?_
                                                      refine va_get (D := D) (ci := 1) (v := .int fld) (C := "SignMachine$Machine") (T := F_M) (N := 14) hx hb hk fi_M hown hK.1 hP 0 rfl rfl 10 (by decide) (hk _ k_177) (fun _ h9 => h9) rfl d_M_shapeCanBe_264 ?_
                                                      refine lv_aload_n hx hb d_M_shapeCanBe_267 rfl (lv_at hl 0 rfl) ?_
                                                      refine va_get (D := D) (ci := 1) (v := .int cod) (C := "SignMachine$Machine") (T := F_M) (N := 14) hx hb hk fi_M hown hK.1 hP 0 rfl rfl 9 (by decide) (hk _ k_176) (fun _ h9 => h9) rfl d_M_shapeCanBe_268 ?_
                                                      refine lv_bipush (v := 47) hx hb d_M_shapeCanBe_271 (by decide) ?_
                                                      refine lv_icmp_gt (tgt := 280) hx hb d_M_shapeCanBe_273 (by decide) (fun c86 => ?_) (fun c86 => ?_)
                                                      · refine lv_iconst (v := 3) hx hb d_M_shapeCanBe_280 (by decide) ?_
                                                        refine lv_icmp_gt (tgt := 288) hx hb d_M_shapeCanBe_281 (by decide) (fun c87 => ?_) (fun c87 => ?_)
                                                        · refine lv_iconst (v := 0) hx hb d_M_shapeCanBe_288 (by decide) ?_
                                                          exact W.zret (v := (0 : Int32)) hx hb hr rfl (fun t ht hW => ⟨(0 : Int32), rfl, by simp only [f_M_shapeCanBe, if_pos c1, if_pos c2, if_neg c3, if_neg c4, if_neg c8, if_neg c12, if_neg c16, if_neg c20, if_neg c22, if_neg c24, if_neg c25, if_neg c29, if_neg c33, if_neg c37, if_neg c41, if_neg c45, if_neg c49, if_neg c53, if_neg c57, if_neg c61, if_neg c65, if_neg c69, if_neg c73, if_neg c77, if_neg c81, if_pos c85, if_pos c86, if_pos c87]; rfl, ht⟩) (fun q h => absurd h List.not_mem_nil) d_M_shapeCanBe_289
                                                        · refine lv_iconst (v := 1) hx hb d_M_shapeCanBe_284 (by decide) ?_
                                                          refine lv_goto (tgt := 289) hx hb d_M_shapeCanBe_285 (by decide) ?_
                                                          exact W.zret (v := (1 : Int32)) hx hb hr rfl (fun t ht hW => ⟨(1 : Int32), rfl, by simp only [f_M_shapeCanBe, if_pos c1, if_pos c2, if_neg c3, if_neg c4, if_neg c8, if_neg c12, if_neg c16, if_neg c20, if_neg c22, if_neg c24, if_neg c25, if_neg c29, if_neg c33, if_neg c37, if_neg c41, if_neg c45, if_neg c49, if_neg c53, if_neg c57, if_neg c61, if_neg c65, if_neg c69, if_neg c73, if_neg c77, if_neg c81, if_pos c85, if_pos c86, if_neg c87]; rfl, ht⟩) (fun q h => absurd h List.not_mem_nil) d_M_shapeCanBe_289
                                                      · refine lv_iconst (v := 5) hx hb d_M_shapeCanBe_276 (by decide) ?_
                                                        refine lv_goto (tgt := 281) hx hb d_M_shapeCanBe_277 (by decide) ?_
                                                        refine lv_icmp_gt (tgt := 288) hx hb d_M_shapeCanBe_281 (by decide) (fun c88 => ?_) (fun c88 => ?_)
                                                        · refine lv_iconst (v := 0) hx hb d_M_shapeCanBe_288 (by decide) ?_
                                                          exact W.zret (v := (0 : Int32)) hx hb hr rfl (fun t ht hW => ⟨(0 : Int32), rfl, by simp only [f_M_shapeCanBe, if_pos c1, if_pos c2, if_neg c3, if_neg c4, if_neg c8, if_neg c12, if_neg c16, if_neg c20, if_neg c22, if_neg c24, if_neg c25, if_neg c29, if_neg c33, if_neg c37, if_neg c41, if_neg c45, if_neg c49, if_neg c53, if_neg c57, if_neg c61, if_neg c65, if_neg c69, if_neg c73, if_neg c77, if_neg c81, if_pos c85, if_neg c86, if_pos c88]; rfl, ht⟩) (fun q h => absurd h List.not_mem_nil) d_M_shapeCanBe_289
                                                        · refine lv_iconst (v := 1) hx hb d_M_shapeCanBe_284 (by decide) ?_
                                                          refine lv_goto (tgt := 289) hx hb d_M_shapeCanBe_285 (by decide) ?_
                                                          exact W.zret (v := (1 : Int32)) hx hb hr rfl (fun t ht hW => ⟨(1 : Int32), rfl, by simp only [f_M_shapeCanBe, if_pos c1, if_pos c2, if_neg c3, if_neg c4, if_neg c8, if_neg c12, if_neg c16, if_neg c20, if_neg c22, if_neg c24, if_neg c25, if_neg c29, if_neg c33, if_neg c37, if_neg c41, if_neg c45, if_neg c49, if_neg c53, if_neg c57, if_neg c61, if_neg c65, if_neg c69, if_neg c73, if_neg c77, if_neg c81, if_pos c85, if_neg c86, if_neg c88]; rfl, ht⟩) (fun q h => absurd h List.not_mem_nil) d_M_shapeCanBe_289
                                                    · by_cases c89 : cod = (24 : Int32)
                                                      · refine lv_tableIn (off := 233) (tgt := 263) hx hb d_M_shapeCanBe_30 (by rw [c89]; decide) (by rw [c89]; decide) (by rw [c89]; rfl) (by decide) ?_
                                                        refine lv_aload_n hx hb d_M_shapeCanBe_263 rfl (lv_at hl 0 rfl) ?_
                                                        refine va_get (D := D) (ci := 1) (v := .int fld) (C := "SignMachine$Machine") (T := F_M) (N := 14) hx hb hk fi_M hown hK.1 hP 0 rfl rfl 10 (by decide) (hk _ k_177) (fun _ h9 => h9) rfl d_M_shapeCanBe_264 ?_
                                                        refine lv_aload_n hx hb d_M_shapeCanBe_267 rfl (lv_at hl 0 rfl) ?_
                                                        refine va_get (D := D) (ci := 1) (v := .int cod) (C := "SignMachine$Machine") (T := F_M) (N := 14) hx hb hk fi_M hown hK.1 hP 0 rfl rfl 9 (by decide) (hk _ k_176) (fun _ h9 => h9) rfl d_M_shapeCanBe_268 ?_
                                                        refine lv_bipush (v := 47) hx hb d_M_shapeCanBe_271 (by decide) ?_
                                                        refine lv_icmp_gt (tgt := 280) hx hb d_M_shapeCanBe_273 (by decide) (fun c90 => ?_) (fun c90 => ?_)
                                                        · refine lv_iconst (v := 3) hx hb d_M_shapeCanBe_280 (by decide) ?_
                                                          refine lv_icmp_gt (tgt := 288) hx hb d_M_shapeCanBe_281 (by decide) (fun c91 => ?_) (fun c91 => ?_)
                                                          · refine lv_iconst (v := 0) hx hb d_M_shapeCanBe_288 (by decide) ?_
                                                            exact W.zret (v := (0 : Int32)) hx hb hr rfl (fun t ht hW => ⟨(0 : Int32), rfl, by simp only [f_M_shapeCanBe, if_pos c1, if_pos c2, if_neg c3, if_neg c4, if_neg c8, if_neg c12, if_neg c16, if_neg c20, if_neg c22, if_neg c24, if_neg c25, if_neg c29, if_neg c33, if_neg c37, if_neg c41, if_neg c45, if_neg c49, if_neg c53, if_neg c57, if_neg c61, if_neg c65, if_neg c69, if_neg c73, if_neg c77, if_neg c81, if_neg c85, if_pos c89, if_pos c90, if_pos c91]; rfl, ht⟩) (fun q h => absurd h List.not_mem_nil) d_M_shapeCanBe_289
                                                          · refine lv_iconst (v := 1) hx hb d_M_shapeCanBe_284 (by decide) ?_
                                                            refine lv_goto (tgt := 289) hx hb d_M_shapeCanBe_285 (by decide) ?_
                                                            exact W.zret (v := (1 : Int32)) hx hb hr rfl (fun t ht hW => ⟨(1 : Int32), rfl, by simp only [f_M_shapeCanBe, if_pos c1, if_pos c2, if_neg c3, if_neg c4, if_neg c8, if_neg c12, if_neg c16, if_neg c20, if_neg c22, if_neg c24, if_neg c25, if_neg c29, if_neg c33, if_neg c37, if_neg c41, if_neg c45, if_neg c49, if_neg c53, if_neg c57, if_neg c61, if_neg c65, if_neg c69, if_neg c73, if_neg c77, if_neg c81, if_neg c85, if_pos c89, if_pos c90, if_neg c91]; rfl, ht⟩) (fun q h => absurd h List.not_mem_nil) d_M_shapeCanBe_289
                                                        · refine lv_iconst (v := 5) hx hb d_M_shapeCanBe_276 (by decide) ?_
                                                          refine lv_goto (tgt := 281) hx hb d_M_shapeCanBe_277 (by decide) ?_
                                                          refine lv_icmp_gt (tgt := 288) hx hb d_M_shapeCanBe_281 (by decide) (fun c92 => ?_) (fun c92 => ?_)
                                                          · refine lv_iconst (v := 0) hx hb d_M_shapeCanBe_288 (by decide) ?_
                                                            exact W.zret (v := (0 : Int32)) hx hb hr rfl (fun t ht hW => ⟨(0 : Int32), rfl, by simp only [f_M_shapeCanBe, if_pos c1, if_pos c2, if_neg c3, if_neg c4, if_neg c8, if_neg c12, if_neg c16, if_neg c20, if_neg c22, if_neg c24, if_neg c25, if_neg c29, if_neg c33, if_neg c37, if_neg c41, if_neg c45, if_neg c49, if_neg c53, if_neg c57, if_neg c61, if_neg c65, if_neg c69, if_neg c73, if_neg c77, if_neg c81, if_neg c85, if_pos c89, if_neg c90, if_pos c92]; rfl, ht⟩) (fun q h => absurd h List.not_mem_nil) d_M_shapeCanBe_289
                                                          · refine lv_iconst (v := 1) hx hb d_M_shapeCanBe_284 (by decide) ?_
                                                            refine lv_goto (tgt := 289) hx hb d_M_shapeCanBe_285 (by decide) ?_
                                                            exact W.zret (v := (1 : Int32)) hx hb hr rfl (fun t ht hW => ⟨(1 : Int32), rfl, by simp only [f_M_shapeCanBe, if_pos c1, if_pos c2, if_neg c3, if_neg c4, if_neg c8, if_neg c12, if_neg c16, if_neg c20, if_neg c22, if_neg c24, if_neg c25, if_neg c29, if_neg c33, if_neg c37, if_neg c41, if_neg c45, if_neg c49, if_neg c53, if_neg c57, if_neg c61, if_neg c65, if_neg c69, if_neg c73, if_neg c77, if_neg c81, if_neg c85, if_pos c89, if_neg c90, if_neg c92]; rfl, ht⟩) (fun q h => absurd h List.not_mem_nil) d_M_shapeCanBe_289
                                                      · by_cases c93 : cod = (25 : Int32)
                                                        · refine lv_tableIn (off := 233) (tgt := 263) hx hb d_M_shapeCanBe_30 (by rw [c93]; decide) (by rw [c93]; decide) (by rw [c93]; rfl) (by decide) ?_
                                                          refine lv_aload_n hx hb d_M_shapeCanBe_263 rfl (lv_at hl 0 rfl) ?_
                                                          refine va_get (D := D) (ci := 1) (v := .int fld) (C := "SignMachine$Machine") (T := F_M) (N := 14) hx hb hk fi_M hown hK.1 hP 0 rfl rfl 10 (by decide) (hk _ k_177) (fun _ h9 => h9) rfl d_M_shapeCanBe_264 ?_
                                                          refine lv_aload_n hx hb d_M_shapeCanBe_267 rfl (lv_at hl 0 rfl) ?_
                                                          refine va_get (D := D) (ci := 1) (v := .int cod) (C := "SignMachine$Machine") (T := F_M) (N := 14) hx hb hk fi_M hown hK.1 hP 0 rfl rfl 9 (by decide) (hk _ k_176) (fun _ h9 => h9) rfl d_M_shapeCanBe_268 ?_
                                                          refine lv_bipush (v := 47) hx hb d_M_shapeCanBe_271 (by decide) ?_
                                                          refine lv_icmp_gt (tgt := 280) hx hb d_M_shapeCanBe_273 (by decide) (fun c94 => ?_) (fun c94 => ?_)
                                                          · refine lv_iconst (v := 3) hx hb d_M_shapeCanBe_280 (by decide) ?_
                                                            refine lv_icmp_gt (tgt := 288) hx hb d_M_shapeCanBe_281 (by decide) (fun c95 => ?_) (fun c95 => ?_)
                                                            · refine lv_iconst (v := 0) hx hb d_M_shapeCanBe_288 (by decide) ?_
                                                              exact W.zret (v := (0 : Int32)) hx hb hr rfl (fun t ht hW => ⟨(0 : Int32), rfl, by simp only [f_M_shapeCanBe, if_pos c1, if_pos c2, if_neg c3, if_neg c4, if_neg c8, if_neg c12, if_neg c16, if_neg c20, if_neg c22, if_neg c24, if_neg c25, if_neg c29, if_neg c33, if_neg c37, if_neg c41, if_neg c45, if_neg c49, if_neg c53, if_neg c57, if_neg c61, if_neg c65, if_neg c69, if_neg c73, if_neg c77, if_neg c81, if_neg c85, if_neg c89, if_pos c93, if_pos c94, if_pos c95]; rfl, ht⟩) (fun q h => absurd h List.not_mem_nil) d_M_shapeCanBe_289
                                                            · refine lv_iconst (v := 1) hx hb d_M_shapeCanBe_284 (by decide) ?_
                                                              refine lv_goto (tgt := 289) hx hb d_M_shapeCanBe_285 (by decide) ?_
                                                              exact W.zret (v := (1 : Int32)) hx hb hr rfl (fun t ht hW => ⟨(1 : Int32), rfl, by simp only [f_M_shapeCanBe, if_pos c1, if_pos c2, if_neg c3, if_neg c4, if_neg c8, if_neg c12, if_neg c16, if_neg c20, if_neg c22, if_neg c24, if_neg c25, if_neg c29, if_neg c33, if_neg c37, if_neg c41, if_neg c45, if_neg c49, if_neg c53, if_neg c57, if_neg c61, if_neg c65, if_neg c69, if_neg c73, if_neg c77, if_neg c81, if_neg c85, if_neg c89, if_pos c93, if_pos c94, if_neg c95]; rfl, ht⟩) (fun q h => absurd h List.not_mem_nil) d_M_shapeCanBe_289
                                                          · refine lv_iconst (v := 5) hx hb d_M_shapeCanBe_276 (by decide) ?_
                                                            refine lv_goto (tgt := 281) hx hb d_M_shapeCanBe_277 (by decide) ?_
                                                            refine lv_icmp_gt (tgt := 288) hx hb d_M_shapeCanBe_281 (by decide) (fun c96 => ?_) (fun c96 => ?_)
                                                            · refine lv_iconst (v := 0) hx hb d_M_shapeCanBe_288 (by decide) ?_
                                                              exact W.zret (v := (0 : Int32)) hx hb hr rfl (fun t ht hW => ⟨(0 : Int32), rfl, by simp only [f_M_shapeCanBe, if_pos c1, if_pos c2, if_neg c3, if_neg c4, if_neg c8, if_neg c12, if_neg c16, if_neg c20, if_neg c22, if_neg c24, if_neg c25, if_neg c29, if_neg c33, if_neg c37, if_neg c41, if_neg c45, if_neg c49, if_neg c53, if_neg c57, if_neg c61, if_neg c65, if_neg c69, if_neg c73, if_neg c77, if_neg c81, if_neg c85, if_neg c89, if_pos c93, if_neg c94, if_pos c96]; rfl, ht⟩) (fun q h => absurd h List.not_mem_nil) d_M_shapeCanBe_289
                                                            · refine lv_iconst (v := 1) hx hb d_M_shapeCanBe_284 (by decide) ?_
                                                              refine lv_goto (tgt := 289) hx hb d_M_shapeCanBe_285 (by decide) ?_
                                                              exact W.zret (v := (1 : Int32)) hx hb hr rfl (fun t ht hW => ⟨(1 : Int32), rfl, by simp only [f_M_shapeCanBe, if_pos c1, if_pos c2, if_neg c3, if_neg c4, if_neg c8, if_neg c12, if_neg c16, if_neg c20, if_neg c22, if_neg c24, if_neg c25, if_neg c29, if_neg c33, if_neg c37, if_neg c41, if_neg c45, if_neg c49, if_neg c53, if_neg c57, if_neg c61, if_neg c65, if_neg c69, if_neg c73, if_neg c77, if_neg c81, if_neg c85, if_neg c89, if_pos c93, if_neg c94, if_neg c96]; rfl, ht⟩) (fun q h => absurd h List.not_mem_nil) d_M_shapeCanBe_289
                                                        · by_cases c97 : cod = (26 : Int32)
                                                          · refine lv_tableIn (off := 233) (tgt := 263) hx hb d_M_shapeCanBe_30 (by rw [c97]; decide) (by rw [c97]; decide) (by rw [c97]; rfl) (by decide) ?_
                                                            refine lv_aload_n hx hb d_M_shapeCanBe_263 rfl (lv_at hl 0 rfl) ?_
                                                            refine va_get (D := D) (ci := 1) (v := .int fld) (C := "SignMachine$Machine") (T := F_M) (N := 14) hx hb hk fi_M hown hK.1 hP 0 rfl rfl 10 (by decide) (hk _ k_177) (fun _ h9 => h9) rfl d_M_shapeCanBe_264 ?_
                                                            refine lv_aload_n hx hb d_M_shapeCanBe_267 rfl (lv_at hl 0 rfl) ?_
                                                            refine va_get (D := D) (ci := 1) (v := .int cod) (C := "SignMachine$Machine") (T := F_M) (N := 14) hx hb hk fi_M hown hK.1 hP 0 rfl rfl 9 (by decide) (hk _ k_176) (fun _ h9 => h9) rfl d_M_shapeCanBe_268 ?_
                                                            refine lv_bipush (v := 47) hx hb d_M_shapeCanBe_271 (by decide) ?_
                                                            refine lv_icmp_gt (tgt := 280) hx hb d_M_shapeCanBe_273 (by decide) (fun c98 => ?_) (fun c98 => ?_)
                                                            · refine lv_iconst (v := 3) hx hb d_M_shapeCanBe_280 (by decide) ?_
                                                              refine lv_icmp_gt (tgt := 288) hx hb d_M_shapeCanBe_281 (by decide) (fun c99 => ?_) (fun c99 => ?_)
                                                              · refine lv_iconst (v := 0) hx hb d_M_shapeCanBe_288 (by decide) ?_
                                                                exact W.zret (v := (0 : Int32)) hx hb hr rfl (fun t ht hW => ⟨(0 : Int32), rfl, by simp only [f_M_shapeCanBe, if_pos c1, if_pos c2, if_neg c3, if_neg c4, if_neg c8, if_neg c12, if_neg c16, if_neg c20, if_neg c22, if_neg c24, if_neg c25, if_neg c29, if_neg c33, if_neg c37, if_neg c41, if_neg c45, if_neg c49, if_neg c53, if_neg c57, if_neg c61, if_neg c65, if_neg c69, if_neg c73, if_neg c77, if_neg c81, if_neg c85, if_neg c89, if_neg c93, if_pos c97, if_pos c98, if_pos c99]; rfl, ht⟩) (fun q h => absurd h List.not_mem_nil) d_M_shapeCanBe_289
                                                              · refine lv_iconst (v := 1) hx hb d_M_shapeCanBe_284 (by decide) ?_
                                                                refine lv_goto (tgt := 289) hx hb d_M_shapeCanBe_285 (by decide) ?_
                                                                exact W.zret (v := (1 : Int32)) hx hb hr rfl (fun t ht hW => ⟨(1 : Int32), rfl, by simp only [f_M_shapeCanBe, if_pos c1, if_pos c2, if_neg c3, if_neg c4, if_neg c8, if_neg c12, if_neg c16, if_neg c20, if_neg c22, if_neg c24, if_neg c25, if_neg c29, if_neg c33, if_neg c37, if_neg c41, if_neg c45, if_neg c49, if_neg c53, if_neg c57, if_neg c61, if_neg c65, if_neg c69, if_neg c73, if_neg c77, if_neg c81, if_neg c85, if_neg c89, if_neg c93, if_pos c97, if_pos c98, if_neg c99]; rfl, ht⟩) (fun q h => absurd h List.not_mem_nil) d_M_shapeCanBe_289
                                                            · refine lv_iconst (v := 5) hx hb d_M_shapeCanBe_276 (by decide) ?_
                                                              refine lv_goto (tgt := 281) hx hb d_M_shapeCanBe_277 (by decide) ?_
                                                              refine lv_icmp_gt (tgt := 288) hx hb d_M_shapeCanBe_281 (by decide) (fun c100 => ?_) (fun c100 => ?_)
                                                              · refine lv_iconst (v := 0) hx hb d_M_shapeCanBe_288 (by decide) ?_
                                                                exact W.zret (v := (0 : Int32)) hx hb hr rfl (fun t ht hW => ⟨(0 : Int32), rfl, by simp only [f_M_shapeCanBe, if_pos c1, if_pos c2, if_neg c3, if_neg c4, if_neg c8, if_neg c12, if_neg c16, if_neg c20, if_neg c22, if_neg c24, if_neg c25, if_neg c29, if_neg c33, if_neg c37, if_neg c41, if_neg c45, if_neg c49, if_neg c53, if_neg c57, if_neg c61, if_neg c65, if_neg c69, if_neg c73, if_neg c77, if_neg c81, if_neg c85, if_neg c89, if_neg c93, if_pos c97, if_neg c98, if_pos c100]; rfl, ht⟩) (fun q h => absurd h List.not_mem_nil) d_M_shapeCanBe_289
                                                              · refine lv_iconst (v := 1) hx hb d_M_shapeCanBe_284 (by decide) ?_
                                                                refine lv_goto (tgt := 289) hx hb d_M_shapeCanBe_285 (by decide) ?_
                                                                exact W.zret (v := (1 : Int32)) hx hb hr rfl (fun t ht hW => ⟨(1 : Int32), rfl, by simp only [f_M_shapeCanBe, if_pos c1, if_pos c2, if_neg c3, if_neg c4, if_neg c8, if_neg c12, if_neg c16, if_neg c20, if_neg c22, if_neg c24, if_neg c25, if_neg c29, if_neg c33, if_neg c37, if_neg c41, if_neg c45, if_neg c49, if_neg c53, if_neg c57, if_neg c61, if_neg c65, if_neg c69, if_neg c73, if_neg c77, if_neg c81, if_neg c85, if_neg c89, if_neg c93, if_pos c97, if_neg c98, if_neg c100]; rfl, ht⟩) (fun q h => absurd h List.not_mem_nil) d_M_shapeCanBe_289
                                                          · by_cases c101 : cod = (27 : Int32)
                                                            · refine lv_tableIn (off := 233) (tgt := 263) hx hb d_M_shapeCanBe_30 (by rw [c101]; decide) (by rw [c101]; decide) (by rw [c101]; rfl) (by decide) ?_
                                                              refine lv_aload_n hx hb d_M_shapeCanBe_263 rfl (lv_at hl 0 rfl) ?_
                                                              refine va_get (D := D) (ci := 1) (v := .int fld) (C := "SignMachine$Machine") (T := F_M) (N := 14) hx hb hk fi_M hown hK.1 hP 0 rfl rfl 10 (by decide) (hk _ k_177) (fun _ h9 => h9) rfl d_M_shapeCanBe_264 ?_
                                                              refine lv_aload_n hx hb d_M_shapeCanBe_267 rfl (lv_at hl 0 rfl) ?_
                                                              refine va_get (D := D) (ci := 1) (v := .int cod) (C := "SignMachine$Machine") (T := F_M) (N := 14) hx hb hk fi_M hown hK.1 hP 0 rfl rfl 9 (by decide) (hk _ k_176) (fun _ h9 => h9) rfl d_M_shapeCanBe_268 ?_
                                                              refine lv_bipush (v := 47) hx hb d_M_shapeCanBe_271 (by decide) ?_
                                                              refine lv_icmp_gt (tgt := 280) hx hb d_M_shapeCanBe_273 (by decide) (fun c102 => ?_) (fun c102 => ?_)
                                                              · refine lv_iconst (v := 3) hx hb d_M_shapeCanBe_280 (by decide) ?_
                                                                refine lv_icmp_gt (tgt := 288) hx hb d_M_shapeCanBe_281 (by decide) (fun c103 => ?_) (fun c103 => ?_)
                                                                · refine lv_iconst (v := 0) hx hb d_M_shapeCanBe_288 (by decide) ?_
                                                                  exact W.zret (v := (0 : Int32)) hx hb hr rfl (fun t ht hW => ⟨(0 : Int32), rfl, by simp only [f_M_shapeCanBe, if_pos c1, if_pos c2, if_neg c3, if_neg c4, if_neg c8, if_neg c12, if_neg c16, if_neg c20, if_neg c22, if_neg c24, if_neg c25, if_neg c29, if_neg c33, if_neg c37, if_neg c41, if_neg c45, if_neg c49, if_neg c53, if_neg c57, if_neg c61, if_neg c65, if_neg c69, if_neg c73, if_neg c77, if_neg c81, if_neg c85, if_neg c89, if_neg c93, if_neg c97, if_pos c101, if_pos c102, if_pos c103]; rfl, ht⟩) (fun q h => absurd h List.not_mem_nil) d_M_shapeCanBe_289
                                                                · refine lv_iconst (v := 1) hx hb d_M_shapeCanBe_284 (by decide) ?_
                                                                  refine lv_goto (tgt := 289) hx hb d_M_shapeCanBe_285 (by decide) ?_
                                                                  exact W.zret (v := (1 : Int32)) hx hb hr rfl (fun t ht hW => ⟨(1 : Int32), rfl, by simp only [f_M_shapeCanBe, if_pos c1, if_pos c2, if_neg c3, if_neg c4, if_neg c8, if_neg c12, if_neg c16, if_neg c20, if_neg c22, if_neg c24, if_neg c25, if_neg c29, if_neg c33, if_neg c37, if_neg c41, if_neg c45, if_neg c49, if_neg c53, if_neg c57, if_neg c61, if_neg c65, if_neg c69, if_neg c73, if_neg c77, if_neg c81, if_neg c85, if_neg c89, if_neg c93, if_neg c97, if_pos c101, if_pos c102, if_neg c103]; rfl, ht⟩) (fun q h => absurd h List.not_mem_nil) d_M_shapeCanBe_289
                                                              · refine lv_iconst (v := 5) hx hb d_M_shapeCanBe_276 (by decide) ?_
                                                                refine lv_goto (tgt := 281) hx hb d_M_shapeCanBe_277 (by decide) ?_
                                                                refine lv_icmp_gt (tgt := 288) hx hb d_M_shapeCanBe_281 (by decide) (fun c104 => ?_) (fun c104 => ?_)
                                                                · refine lv_iconst (v := 0) hx hb d_M_shapeCanBe_288 (by decide) ?_
                                                                  exact W.zret (v := (0 : Int32)) hx hb hr rfl (fun t ht hW => ⟨(0 : Int32), rfl, by simp only [f_M_shapeCanBe, if_pos c1, if_pos c2, if_neg c3, if_neg c4, if_neg c8, if_neg c12, if_neg c16, if_neg c20, if_neg c22, if_neg c24, if_neg c25, if_neg c29, if_neg c33, if_neg c37, if_neg c41, if_neg c45, if_neg c49, if_neg c53, if_neg c57, if_neg c61, if_neg c65, if_neg c69, if_neg c73, if_neg c77, if_neg c81, if_neg c85, if_neg c89, if_neg c93, if_neg c97, if_pos c101, if_neg c102, if_pos c104]; rfl, ht⟩) (fun q h => absurd h List.not_mem_nil) d_M_shapeCanBe_289
                                                                · refine lv_iconst (v := 1) hx hb d_M_shapeCanBe_284 (by decide) ?_
                                                                  refine lv_goto (tgt := 289) hx hb d_M_shapeCanBe_285 (by decide) ?_
                                                                  exact W.zret (v := (1 : Int32)) hx hb hr rfl (fun t ht hW => ⟨(1 : Int32), rfl, by simp only [f_M_shapeCanBe, if_pos c1, if_pos c2, if_neg c3, if_neg c4, if_neg c8, if_neg c12, if_neg c16, if_neg c20, if_neg c22, if_neg c24, if_neg c25, if_neg c29, if_neg c33, if_neg c37, if_neg c41, if_neg c45, if_neg c49, if_neg c53, if_neg c57, if_neg c61, if_neg c65, if_neg c69, if_neg c73, if_neg c77, if_neg c81, if_neg c85, if_neg c89, if_neg c93, if_neg c97, if_pos c101, if_neg c102, if_neg c104]; rfl, ht⟩) (fun q h => absurd h List.not_mem_nil) d_M_shapeCanBe_289
                                                            · by_cases c105 : cod = (28 : Int32)
                                                              · refine lv_tableIn (off := 233) (tgt := 263) hx hb d_M_shapeCanBe_30 (by rw [c105]; decide) (by rw [c105]; decide) (by rw [c105]; rfl) (by decide) ?_
                                                                refine lv_aload_n hx hb d_M_shapeCanBe_263 rfl (lv_at hl 0 rfl) ?_
                                                                refine va_get (D := D) (ci := 1) (v := .int fld) (C := "SignMachine$Machine") (T := F_M) (N := 14) hx hb hk fi_M hown hK.1 hP 0 rfl rfl 10 (by decide) (hk _ k_177) (fun _ h9 => h9) rfl d_M_shapeCanBe_264 ?_
                                                                refine lv_aload_n hx hb d_M_shapeCanBe_267 rfl (lv_at hl 0 rfl) ?_
                                                                refine va_get (D := D) (ci := 1) (v := .int cod) (C := "SignMachine$Machine") (T := F_M) (N := 14) hx hb hk fi_M hown hK.1 hP 0 rfl rfl 9 (by decide) (hk _ k_176) (fun _ h9 => h9) rfl d_M_shapeCanBe_268 ?_
                                                                refine lv_bipush (v := 47) hx hb d_M_shapeCanBe_271 (by decide) ?_
                                                                refine lv_icmp_gt (tgt := 280) hx hb d_M_shapeCanBe_273 (by decide) (fun c106 => ?_) (fun c106 => ?_)
                                                                · refine lv_iconst (v := 3) hx hb d_M_shapeCanBe_280 (by decide) ?_
                                                                  refine lv_icmp_gt (tgt := 288) hx hb d_M_shapeCanBe_281 (by decide) (fun c107 => ?_) (fun c107 => ?_)
                                                                  · refine lv_iconst (v := 0) hx hb d_M_shapeCanBe_288 (by decide) ?_
                                                                    exact W.zret (v := (0 : Int32)) hx hb hr rfl (fun t ht hW => ⟨(0 : Int32), rfl, by simp only [f_M_shapeCanBe, if_pos c1, if_pos c2, if_neg c3, if_neg c4, if_neg c8, if_neg c12, if_neg c16, if_neg c20, if_neg c22, if_neg c24, if_neg c25, if_neg c29, if_neg c33, if_neg c37, if_neg c41, if_neg c45, if_neg c49, if_neg c53, if_neg c57, if_neg c61, if_neg c65, if_neg c69, if_neg c73, if_neg c77, if_neg c81, if_neg c85, if_neg c89, if_neg c93, if_neg c97, if_neg c101, if_pos c105, if_pos c106, if_pos c107]; rfl, ht⟩) (fun q h => absurd h List.not_mem_nil) d_M_shapeCanBe_289
                                                                  · refine lv_iconst (v := 1) hx hb d_M_shapeCanBe_284 (by decide) ?_
                                                                    refine lv_goto (tgt := 289) hx hb d_M_shapeCanBe_285 (by decide) ?_
                                                                    exact W.zret (v := (1 : Int32)) hx hb hr rfl (fun t ht hW => ⟨(1 : Int32), rfl, by simp only [f_M_shapeCanBe, if_pos c1, if_pos c2, if_neg c3, if_neg c4, if_neg c8, if_neg c12, if_neg c16, if_neg c20, if_neg c22, if_neg c24, if_neg c25, if_neg c29, if_neg c33, if_neg c37, if_neg c41, if_neg c45, if_neg c49, if_neg c53, if_neg c57, if_neg c61, if_neg c65, if_neg c69, if_neg c73, if_neg c77, if_neg c81, if_neg c85, if_neg c89, if_neg c93, if_neg c97, if_neg c101, if_pos c105, if_pos c106, if_neg c107]; rfl, ht⟩) (fun q h => absurd h List.not_mem_nil) d_M_shapeCanBe_289
                                                                · refine lv_iconst (v := 5) hx hb d_M_shapeCanBe_276 (by decide) ?_
                                                                  refine lv_goto (tgt := 281) hx hb d_M_shapeCanBe_277 (by decide) ?_
                                                                  refine lv_icmp_gt (tgt := 288) hx hb d_M_shapeCanBe_281 (by decide) (fun c108 => ?_) (fun c108 => ?_)
                                                                  · refine lv_iconst (v := 0) hx hb d_M_shapeCanBe_288 (by decide) ?_
                                                                    exact W.zret (v := (0 : Int32)) hx hb hr rfl (fun t ht hW => ⟨(0 : Int32), rfl, by simp only [f_M_shapeCanBe, if_pos c1, if_pos c2, if_neg c3, if_neg c4, if_neg c8, if_neg c12, if_neg c16, if_neg c20, if_neg c22, if_neg c24, if_neg c25, if_neg c29, if_neg c33, if_neg c37, if_neg c41, if_neg c45, if_neg c49, if_neg c53, if_neg c57, if_neg c61, if_neg c65, if_neg c69, if_neg c73, if_neg c77, if_neg c81, if_neg c85, if_neg c89, if_neg c93, if_neg c97, if_neg c101, if_pos c105, if_neg c106, if_pos c108]; rfl, ht⟩) (fun q h => absurd h List.not_mem_nil) d_M_shapeCanBe_289
                                                                  · refine lv_iconst (v := 1) hx hb d_M_shapeCanBe_284 (by decide) ?_
                                                                    refine lv_goto (tgt := 289) hx hb d_M_shapeCanBe_285 (by decide) ?_
                                                                    exact W.zret (v := (1 : Int32)) hx hb hr rfl (fun t ht hW => ⟨(1 : Int32), rfl, by simp only [f_M_shapeCanBe, if_pos c1, if_pos c2, if_neg c3, if_neg c4, if_neg c8, if_neg c12, if_neg c16, if_neg c20, if_neg c22, if_neg c24, if_neg c25, if_neg c29, if_neg c33, if_neg c37, if_neg c41, if_neg c45, if_neg c49, if_neg c53, if_neg c57, if_neg c61, if_neg c65, if_neg c69, if_neg c73, if_neg c77, if_neg c81, if_neg c85, if_neg c89, if_neg c93, if_neg c97, if_neg c101, if_pos c105, if_neg c106, if_neg c108]; rfl, ht⟩) (fun q h => absurd h List.not_mem_nil) d_M_shapeCanBe_289
                                                              · by_cases c109 : cod = (29 : Int32)
                                                                · refine lv_tableIn (off := 233) (tgt := 263) hx hb d_M_shapeCanBe_30 (by rw [c109]; decide) (by rw [c109]; decide) (by rw [c109]; rfl) (by decide) ?_
                                                                  refine lv_aload_n hx hb d_M_shapeCanBe_263 rfl (lv_at hl 0 rfl) ?_
                                                                  refine va_get (D := D) (ci := 1) (v := .int fld) (C := "SignMachine$Machine") (T := F_M) (N := 14) hx hb hk fi_M hown hK.1 hP 0 rfl rfl 10 (by decide) (hk _ k_177) (fun _ h9 => h9) rfl d_M_shapeCanBe_264 ?_
                                                                  refine lv_aload_n hx hb d_M_shapeCanBe_267 rfl (lv_at hl 0 rfl) ?_
                                                                  refine va_get (D := D) (ci := 1) (v := .int cod) (C := "SignMachine$Machine") (T := F_M) (N := 14) hx hb hk fi_M hown hK.1 hP 0 rfl rfl 9 (by decide) (hk _ k_176) (fun _ h9 => h9) rfl d_M_shapeCanBe_268 ?_
                                                                  refine lv_bipush (v := 47) hx hb d_M_shapeCanBe_271 (by decide) ?_
                                                                  refine lv_icmp_gt (tgt := 280) hx hb d_M_shapeCanBe_273 (by decide) (fun c110 => ?_) (fun c110 => ?_)
                                                                  · refine lv_iconst (v := 3) hx hb d_M_shapeCanBe_280 (by decide) ?_
                                                                    refine lv_icmp_gt (tgt := 288) hx hb d_M_shapeCanBe_281 (by decide) (fun c111 => ?_) (fun c111 => ?_)
                                                                    · refine lv_iconst (v := 0) hx hb d_M_shapeCanBe_288 (by decide) ?_
                                                                      exact W.zret (v := (0 : Int32)) hx hb hr rfl (fun t ht hW => ⟨(0 : Int32), rfl, by simp only [f_M_shapeCanBe, if_pos c1, if_pos c2, if_neg c3, if_neg c4, if_neg c8, if_neg c12, if_neg c16, if_neg c20, if_neg c22, if_neg c24, if_neg c25, if_neg c29, if_neg c33, if_neg c37, if_neg c41, if_neg c45, if_neg c49, if_neg c53, if_neg c57, if_neg c61, if_neg c65, if_neg c69, if_neg c73, if_neg c77, if_neg c81, if_neg c85, if_neg c89, if_neg c93, if_neg c97, if_neg c101, if_neg c105, if_pos c109, if_pos c110, if_pos c111]; rfl, ht⟩) (fun q h => absurd h List.not_mem_nil) d_M_shapeCanBe_289
                                                                    · refine lv_iconst (v := 1) hx hb d_M_shapeCanBe_284 (by decide) ?_
                                                                      refine lv_goto (tgt := 289) hx hb d_M_shapeCanBe_285 (by decide) ?_
                                                                      exact W.zret (v := (1 : Int32)) hx hb hr rfl (fun t ht hW => ⟨(1 : Int32), rfl, by simp only [f_M_shapeCanBe, if_pos c1, if_pos c2, if_neg c3, if_neg c4, if_neg c8, if_neg c12, if_neg c16, if_neg c20, if_neg c22, if_neg c24, if_neg c25, if_neg c29, if_neg c33, if_neg c37, if_neg c41, if_neg c45, if_neg c49, if_neg c53, if_neg c57, if_neg c61, if_neg c65, if_neg c69, if_neg c73, if_neg c77, if_neg c81, if_neg c85, if_neg c89, if_neg c93, if_neg c97, if_neg c101, if_neg c105, if_pos c109, if_pos c110, if_neg c111]; rfl, ht⟩) (fun q h => absurd h List.not_mem_nil) d_M_shapeCanBe_289
                                                                  · refine lv_iconst (v := 5) hx hb d_M_shapeCanBe_276 (by decide) ?_
                                                                    refine lv_goto (tgt := 281) hx hb d_M_shapeCanBe_277 (by decide) ?_
                                                                    refine lv_icmp_gt (tgt := 288) hx hb d_M_shapeCanBe_281 (by decide) (fun c112 => ?_) (fun c112 => ?_)
                                                                    · refine lv_iconst (v := 0) hx hb d_M_shapeCanBe_288 (by decide) ?_
                                                                      exact W.zret (v := (0 : Int32)) hx hb hr rfl (fun t ht hW => ⟨(0 : Int32), rfl, by simp only [f_M_shapeCanBe, if_pos c1, if_pos c2, if_neg c3, if_neg c4, if_neg c8, if_neg c12, if_neg c16, if_neg c20, if_neg c22, if_neg c24, if_neg c25, if_neg c29, if_neg c33, if_neg c37, if_neg c41, if_neg c45, if_neg c49, if_neg c53, if_neg c57, if_neg c61, if_neg c65, if_neg c69, if_neg c73, if_neg c77, if_neg c81, if_neg c85, if_neg c89, if_neg c93, if_neg c97, if_neg c101, if_neg c105, if_pos c109, if_neg c110, if_pos c112]; rfl, ht⟩) (fun q h => absurd h List.not_mem_nil) d_M_shapeCanBe_289
                                                                    · refine lv_iconst (v := 1) hx hb d_M_shapeCanBe_284 (by decide) ?_
                                                                      refine lv_goto (tgt := 289) hx hb d_M_shapeCanBe_285 (by decide) ?_
                                                                      exact W.zret (v := (1 : Int32)) hx hb hr rfl (fun t ht hW => ⟨(1 : Int32), rfl, by simp only [f_M_shapeCanBe, if_pos c1, if_pos c2, if_neg c3, if_neg c4, if_neg c8, if_neg c12, if_neg c16, if_neg c20, if_neg c22, if_neg c24, if_neg c25, if_neg c29, if_neg c33, if_neg c37, if_neg c41, if_neg c45, if_neg c49, if_neg c53, if_neg c57, if_neg c61, if_neg c65, if_neg c69, if_neg c73, if_neg c77, if_neg c81, if_neg c85, if_neg c89, if_neg c93, if_neg c97, if_neg c101, if_neg c105, if_pos c109, if_neg c110, if_neg c112]; rfl, ht⟩) (fun q h => absurd h List.not_mem_nil) d_M_shapeCanBe_289
                                                                · by_cases c113 : cod = (30 : Int32)
                                                                  · refine lv_tableIn (off := 233) (tgt := 263) hx hb d_M_shapeCanBe_30 (by rw [c113]; decide) (by rw [c113]; decide) (by rw [c113]; rfl) (by decide) ?_
                                                                    refine lv_aload_n hx hb d_M_shapeCanBe_263 rfl (lv_at hl 0 rfl) ?_
                                                                    refine va_get (D := D) (ci := 1) (v := .int fld) (C := "SignMachine$Machine") (T := F_M) (N := 14) hx hb hk fi_M hown hK.1 hP 0 rfl rfl 10 (by decide) (hk _ k_177) (fun _ h9 => h9) rfl d_M_shapeCanBe_264 ?_
                                                                    refine lv_aload_n hx hb d_M_shapeCanBe_267 rfl (lv_at hl 0 rfl) ?_
                                                                    refine va_get (D := D) (ci := 1) (v := .int cod) (C := "SignMachine$Machine") (T := F_M) (N := 14) hx hb hk fi_M hown hK.1 hP 0 rfl rfl 9 (by decide) (hk _ k_176) (fun _ h9 => h9) rfl d_M_shapeCanBe_268 ?_
                                                                    refine lv_bipush (v := 47) hx hb d_M_shapeCanBe_271 (by decide) ?_
                                                                    refine lv_icmp_gt (tgt := 280) hx hb d_M_shapeCanBe_273 (by decide) (fun c114 => ?_) (fun c114 => ?_)
                                                                    · refine lv_iconst (v := 3) hx hb d_M_shapeCanBe_280 (by decide) ?_
                                                                      refine lv_icmp_gt (tgt := 288) hx hb d_M_shapeCanBe_281 (by decide) (fun c115 => ?_) (fun c115 => ?_)
                                                                      · refine lv_iconst (v := 0) hx hb d_M_shapeCanBe_288 (by decide) ?_
                                                                        exact W.zret (v := (0 : Int32)) hx hb hr rfl (fun t ht hW => ⟨(0 : Int32), rfl, by simp only [f_M_shapeCanBe, if_pos c1, if_pos c2, if_neg c3, if_neg c4, if_neg c8, if_neg c12, if_neg c16, if_neg c20, if_neg c22, if_neg c24, if_neg c25, if_neg c29, if_neg c33, if_neg c37, if_neg c41, if_neg c45, if_neg c49, if_neg c53, if_neg c57, if_neg c61, if_neg c65, if_neg c69, if_neg c73, if_neg c77, if_neg c81, if_neg c85, if_neg c89, if_neg c93, if_neg c97, if_neg c101, if_neg c105, if_neg c109, if_pos c113, if_pos c114, if_pos c115]; rfl, ht⟩) (fun q h => absurd h List.not_mem_nil) d_M_shapeCanBe_289
                                                                      · refine lv_iconst (v := 1) hx hb d_M_shapeCanBe_284 (by decide) ?_
                                                                        refine lv_goto (tgt := 289) hx hb d_M_shapeCanBe_285 (by decide) ?_
                                                                        exact W.zret (v := (1 : Int32)) hx hb hr rfl (fun t ht hW => ⟨(1 : Int32), rfl, by simp only [f_M_shapeCanBe, if_pos c1, if_pos c2, if_neg c3, if_neg c4, if_neg c8, if_neg c12, if_neg c16, if_neg c20, if_neg c22, if_neg c24, if_neg c25, if_neg c29, if_neg c33, if_neg c37, if_neg c41, if_neg c45, if_neg c49, if_neg c53, if_neg c57, if_neg c61, if_neg c65, if_neg c69, if_neg c73, if_neg c77, if_neg c81, if_neg c85, if_neg c89, if_neg c93, if_neg c97, if_neg c101, if_neg c105, if_neg c109, if_pos c113, if_pos c114, if_neg c115]; rfl, ht⟩) (fun q h => absurd h List.not_mem_nil) d_M_shapeCanBe_289
                                                                    · refine lv_iconst (v := 5) hx hb d_M_shapeCanBe_276 (by decide) ?_
                                                                      refine lv_goto (tgt := 281) hx hb d_M_shapeCanBe_277 (by decide) ?_
                                                                      refine lv_icmp_gt (tgt := 288) hx hb d_M_shapeCanBe_281 (by decide) (fun c116 => ?_) (fun c116 => ?_)
                                                                      · refine lv_iconst (v := 0) hx hb d_M_shapeCanBe_288 (by decide) ?_
                                                                        exact W.zret (v := (0 : Int32)) hx hb hr rfl (fun t ht hW => ⟨(0 : Int32), rfl, by simp only [f_M_shapeCanBe, if_pos c1, if_pos c2, if_neg c3, if_neg c4, if_neg c8, if_neg c12, if_neg c16, if_neg c20, if_neg c22, if_neg c24, if_neg c25, if_neg c29, if_neg c33, if_neg c37, if_neg c41, if_neg c45, if_neg c49, if_neg c53, if_neg c57, if_neg c61, if_neg c65, if_neg c69, if_neg c73, if_neg c77, if_neg c81, if_neg c85, if_neg c89, if_neg c93, if_neg c97, if_neg c101, if_neg c105, if_neg c109, if_pos c113, if_neg c114, if_pos c116]; rfl, ht⟩) (fun q h => absurd h List.not_mem_nil) d_M_shapeCanBe_289
                                                                      · refine lv_iconst (v := 1) hx hb d_M_shapeCanBe_284 (by decide) ?_
                                                                        refine lv_goto (tgt := 289) hx hb d_M_shapeCanBe_285 (by decide) ?_
                                                                        exact W.zret (v := (1 : Int32)) hx hb hr rfl (fun t ht hW => ⟨(1 : Int32), rfl, by simp only [f_M_shapeCanBe, if_pos c1, if_pos c2, if_neg c3, if_neg c4, if_neg c8, if_neg c12, if_neg c16, if_neg c20, if_neg c22, if_neg c24, if_neg c25, if_neg c29, if_neg c33, if_neg c37, if_neg c41, if_neg c45, if_neg c49, if_neg c53, if_neg c57, if_neg c61, if_neg c65, if_neg c69, if_neg c73, if_neg c77, if_neg c81, if_neg c85, if_neg c89, if_neg c93, if_neg c97, if_neg c101, if_neg c105, if_neg c109, if_pos c113, if_neg c114, if_neg c116]; rfl, ht⟩) (fun q h => absurd h List.not_mem_nil) d_M_shapeCanBe_289
                                                                  · by_cases c117 : cod = (31 : Int32)
                                                                    · refine lv_tableIn (off := 233) (tgt := 263) hx hb d_M_shapeCanBe_30 (by rw [c117]; decide) (by rw [c117]; decide) (by rw [c117]; rfl) (by decide) ?_
                                                                      refine lv_aload_n hx hb d_M_shapeCanBe_263 rfl (lv_at hl 0 rfl) ?_
                                                                      refine va_get (D := D) (ci := 1) (v := .int fld) (C := "SignMachine$Machine") (T := F_M) (N := 14) hx hb hk fi_M hown hK.1 hP 0 rfl rfl 10 (by decide) (hk _ k_177) (fun _ h9 => h9) rfl d_M_shapeCanBe_264 ?_
                                                                      refine lv_aload_n hx hb d_M_shapeCanBe_267 rfl (lv_at hl 0 rfl) ?_
                                                                      refine va_get (D := D) (ci := 1) (v := .int cod) (C := "SignMachine$Machine") (T := F_M) (N := 14) hx hb hk fi_M hown hK.1 hP 0 rfl rfl 9 (by decide) (hk _ k_176) (fun _ h9 => h9) rfl d_M_shapeCanBe_268 ?_
                                                                      refine lv_bipush (v := 47) hx hb d_M_shapeCanBe_271 (by decide) ?_
                                                                      refine lv_icmp_gt (tgt := 280) hx hb d_M_shapeCanBe_273 (by decide) (fun c118 => ?_) (fun c118 => ?_)
                                                                      · refine lv_iconst (v := 3) hx hb d_M_shapeCanBe_280 (by decide) ?_
                                                                        refine lv_icmp_gt (tgt := 288) hx hb d_M_shapeCanBe_281 (by decide) (fun c119 => ?_) (fun c119 => ?_)
                                                                        · refine lv_iconst (v := 0) hx hb d_M_shapeCanBe_288 (by decide) ?_
                                                                          exact W.zret (v := (0 : Int32)) hx hb hr rfl (fun t ht hW => ⟨(0 : Int32), rfl, by simp only [f_M_shapeCanBe, if_pos c1, if_pos c2, if_neg c3, if_neg c4, if_neg c8, if_neg c12, if_neg c16, if_neg c20, if_neg c22, if_neg c24, if_neg c25, if_neg c29, if_neg c33, if_neg c37, if_neg c41, if_neg c45, if_neg c49, if_neg c53, if_neg c57, if_neg c61, if_neg c65, if_neg c69, if_neg c73, if_neg c77, if_neg c81, if_neg c85, if_neg c89, if_neg c93, if_neg c97, if_neg c101, if_neg c105, if_neg c109, if_neg c113, if_pos c117, if_pos c118, if_pos c119]; rfl, ht⟩) (fun q h => absurd h List.not_mem_nil) d_M_shapeCanBe_289
                                                                        · refine lv_iconst (v := 1) hx hb d_M_shapeCanBe_284 (by decide) ?_
                                                                          refine lv_goto (tgt := 289) hx hb d_M_shapeCanBe_285 (by decide) ?_
                                                                          exact W.zret (v := (1 : Int32)) hx hb hr rfl (fun t ht hW => ⟨(1 : Int32), rfl, by simp only [f_M_shapeCanBe, if_pos c1, if_pos c2, if_neg c3, if_neg c4, if_neg c8, if_neg c12, if_neg c16, if_neg c20, if_neg c22, if_neg c24, if_neg c25, if_neg c29, if_neg c33, if_neg c37, if_neg c41, if_neg c45, if_neg c49, if_neg c53, if_neg c57, if_neg c61, if_neg c65, if_neg c69, if_neg c73, if_neg c77, if_neg c81, if_neg c85, if_neg c89, if_neg c93, if_neg c97, if_neg c101, if_neg c105, if_neg c109, if_neg c113, if_pos c117, if_pos c118, if_neg c119]; rfl, ht⟩) (fun q h => absurd h List.not_mem_nil) d_M_shapeCanBe_289
                                                                      · refine lv_iconst (v := 5) hx hb d_M_shapeCanBe_276 (by decide) ?_
                                                                        refine lv_goto (tgt := 281) hx hb d_M_shapeCanBe_277 (by decide) ?_
                                                                        refine lv_icmp_gt (tgt := 288) hx hb d_M_shapeCanBe_281 (by decide) (fun c120 => ?_) (fun c120 => ?_)
                                                                        · refine lv_iconst (v := 0) hx hb d_M_shapeCanBe_288 (by decide) ?_
                                                                          exact W.zret (v := (0 : Int32)) hx hb hr rfl (fun t ht hW => ⟨(0 : Int32), rfl, by simp only [f_M_shapeCanBe, if_pos c1, if_pos c2, if_neg c3, if_neg c4, if_neg c8, if_neg c12, if_neg c16, if_neg c20, if_neg c22, if_neg c24, if_neg c25, if_neg c29, if_neg c33, if_neg c37, if_neg c41, if_neg c45, if_neg c49, if_neg c53, if_neg c57, if_neg c61, if_neg c65, if_neg c69, if_neg c73, if_neg c77, if_neg c81, if_neg c85, if_neg c89, if_neg c93, if_neg c97, if_neg c101, if_neg c105, if_neg c109, if_neg c113, if_pos c117, if_neg c118, if_pos c120]; rfl, ht⟩) (fun q h => absurd h List.not_mem_nil) d_M_shapeCanBe_289
                                                                        · refine lv_iconst (v := 1) hx hb d_M_shapeCanBe_284 (by decide) ?_
                                                                          refine lv_goto (tgt := 289) hx hb d_M_shapeCanBe_285 (by decide) ?_
                                                                          exact W.zret (v := (1 : Int32)) hx hb hr rfl (fun t ht hW => ⟨(1 : Int32), rfl, by simp only [f_M_shapeCanBe, if_pos c1, if_pos c2, if_neg c3, if_neg c4, if_neg c8, if_neg c12, if_neg c16, if_neg c20, if_neg c22, if_neg c24, if_neg c25, if_neg c29, if_neg c33, if_neg c37, if_neg c41, if_neg c45, if_neg c49, if_neg c53, if_neg c57, if_neg c61, if_neg c65, if_neg c69, if_neg c73, if_neg c77, if_neg c81, if_neg c85, if_neg c89, if_neg c93, if_neg c97, if_neg c101, if_neg c105, if_neg c109, if_neg c113, if_pos c117, if_neg c118, if_neg c120]; rfl, ht⟩) (fun q h => absurd h List.not_mem_nil) d_M_shapeCanBe_289
                                                                    · by_cases c121 : cod = (32 : Int32)
                                                                      · refine lv_tableIn (off := 233) (tgt := 263) hx hb d_M_shapeCanBe_30 (by rw [c121]; decide) (by rw [c121]; decide) (by rw [c121]; rfl) (by decide) ?_
                                                                        refine lv_aload_n hx hb d_M_shapeCanBe_263 rfl (lv_at hl 0 rfl) ?_
                                                                        refine va_get (D := D) (ci := 1) (v := .int fld) (C := "SignMachine$Machine") (T := F_M) (N := 14) hx hb hk fi_M hown hK.1 hP 0 rfl rfl 10 (by decide) (hk _ k_177) (fun _ h9 => h9) rfl d_M_shapeCanBe_264 ?_
                                                                        refine lv_aload_n hx hb d_M_shapeCanBe_267 rfl (lv_at hl 0 rfl) ?_
                                                                        refine va_get (D := D) (ci := 1) (v := .int cod) (C := "SignMachine$Machine") (T := F_M) (N := 14) hx hb hk fi_M hown hK.1 hP 0 rfl rfl 9 (by decide) (hk _ k_176) (fun _ h9 => h9) rfl d_M_shapeCanBe_268 ?_
                                                                        refine lv_bipush (v := 47) hx hb d_M_shapeCanBe_271 (by decide) ?_
                                                                        refine lv_icmp_gt (tgt := 280) hx hb d_M_shapeCanBe_273 (by decide) (fun c122 => ?_) (fun c122 => ?_)
                                                                        · refine lv_iconst (v := 3) hx hb d_M_shapeCanBe_280 (by decide) ?_
                                                                          refine lv_icmp_gt (tgt := 288) hx hb d_M_shapeCanBe_281 (by decide) (fun c123 => ?_) (fun c123 => ?_)
                                                                          · refine lv_iconst (v := 0) hx hb d_M_shapeCanBe_288 (by decide) ?_
                                                                            exact W.zret (v := (0 : Int32)) hx hb hr rfl (fun t ht hW => ⟨(0 : Int32), rfl, by simp only [f_M_shapeCanBe, if_pos c1, if_pos c2, if_neg c3, if_neg c4, if_neg c8, if_neg c12, if_neg c16, if_neg c20, if_neg c22, if_neg c24, if_neg c25, if_neg c29, if_neg c33, if_neg c37, if_neg c41, if_neg c45, if_neg c49, if_neg c53, if_neg c57, if_neg c61, if_neg c65, if_neg c69, if_neg c73, if_neg c77, if_neg c81, if_neg c85, if_neg c89, if_neg c93, if_neg c97, if_neg c101, if_neg c105, if_neg c109, if_neg c113, if_neg c117, if_pos c121, if_pos c122, if_pos c123]; rfl, ht⟩) (fun q h => absurd h List.not_mem_nil) d_M_shapeCanBe_289
                                                                          · refine lv_iconst (v := 1) hx hb d_M_shapeCanBe_284 (by decide) ?_
                                                                            refine lv_goto (tgt := 289) hx hb d_M_shapeCanBe_285 (by decide) ?_
                                                                            exact W.zret (v := (1 : Int32)) hx hb hr rfl (fun t ht hW => ⟨(1 : Int32), rfl, by simp only [f_M_shapeCanBe, if_pos c1, if_pos c2, if_neg c3, if_neg c4, if_neg c8, if_neg c12, if_neg c16, if_neg c20, if_neg c22, if_neg c24, if_neg c25, if_neg c29, if_neg c33, if_neg c37, if_neg c41, if_neg c45, if_neg c49, if_neg c53, if_neg c57, if_neg c61, if_neg c65, if_neg c69, if_neg c73, if_neg c77, if_neg c81, if_neg c85, if_neg c89, if_neg c93, if_neg c97, if_neg c101, if_neg c105, if_neg c109, if_neg c113, if_neg c117, if_pos c121, if_pos c122, if_neg c123]; rfl, ht⟩) (fun q h => absurd h List.not_mem_nil) d_M_shapeCanBe_289
                                                                        · refine lv_iconst (v := 5) hx hb d_M_shapeCanBe_276 (by decide) ?_
                                                                          refine lv_goto (tgt := 281) hx hb d_M_shapeCanBe_277 (by decide) ?_
                                                                          refine lv_icmp_gt (tgt := 288) hx hb d_M_shapeCanBe_281 (by decide) (fun c124 => ?_) (fun c124 => ?_)
                                                                          · refine lv_iconst (v := 0) hx hb d_M_shapeCanBe_288 (by decide) ?_
                                                                            exact W.zret (v := (0 : Int32)) hx hb hr rfl (fun t ht hW => ⟨(0 : Int32), rfl, by simp only [f_M_shapeCanBe, if_pos c1, if_pos c2, if_neg c3, if_neg c4, if_neg c8, if_neg c12, if_neg c16, if_neg c20, if_neg c22, if_neg c24, if_neg c25, if_neg c29, if_neg c33, if_neg c37, if_neg c41, if_neg c45, if_neg c49, if_neg c53, if_neg c57, if_neg c61, if_neg c65, if_neg c69, if_neg c73, if_neg c77, if_neg c81, if_neg c85, if_neg c89, if_neg c93, if_neg c97, if_neg c101, if_neg c105, if_neg c109, if_neg c113, if_neg c117, if_pos c121, if_neg c122, if_pos c124]; rfl, ht⟩) (fun q h => absurd h List.not_mem_nil) d_M_shapeCanBe_289
                                                                          · refine lv_iconst (v := 1) hx hb d_M_shapeCanBe_284 (by decide) ?_
                                                                            refine lv_goto (tgt := 289) hx hb d_M_shapeCanBe_285 (by decide) ?_
                                                                            exact W.zret (v := (1 : Int32)) hx hb hr rfl (fun t ht hW => ⟨(1 : Int32), rfl, by simp only [f_M_shapeCanBe, if_pos c1, if_pos c2, if_neg c3, if_neg c4, if_neg c8, if_neg c12, if_neg c16, if_neg c20, if_neg c22, if_neg c24, if_neg c25, if_neg c29, if_neg c33, if_neg c37, if_neg c41, if_neg c45, if_neg c49, if_neg c53, if_neg c57, if_neg c61, if_neg c65, if_neg c69, if_neg c73, if_neg c77, if_neg c81, if_neg c85, if_neg c89, if_neg c93, if_neg c97, if_neg c101, if_neg c105, if_neg c109, if_neg c113, if_neg c117, if_pos c121, if_neg c122, if_neg c124]; rfl, ht⟩) (fun q h => absurd h List.not_mem_nil) d_M_shapeCanBe_289
                                                                      · by_cases c125 : cod = (33 : Int32)
                                                                        · refine lv_tableIn (off := 233) (tgt := 263) hx hb d_M_shapeCanBe_30 (by rw [c125]; decide) (by rw [c125]; decide) (by rw [c125]; rfl) (by decide) ?_
                                                                          refine lv_aload_n hx hb d_M_shapeCanBe_263 rfl (lv_at hl 0 rfl) ?_
                                                                          refine va_get (D := D) (ci := 1) (v := .int fld) (C := "SignMachine$Machine") (T := F_M) (N := 14) hx hb hk fi_M hown hK.1 hP 0 rfl rfl 10 (by decide) (hk _ k_177) (fun _ h9 => h9) rfl d_M_shapeCanBe_264 ?_
                                                                          refine lv_aload_n hx hb d_M_shapeCanBe_267 rfl (lv_at hl 0 rfl) ?_
                                                                          refine va_get (D := D) (ci := 1) (v := .int cod) (C := "SignMachine$Machine") (T := F_M) (N := 14) hx hb hk fi_M hown hK.1 hP 0 rfl rfl 9 (by decide) (hk _ k_176) (fun _ h9 => h9) rfl d_M_shapeCanBe_268 ?_
                                                                          refine lv_bipush (v := 47) hx hb d_M_shapeCanBe_271 (by decide) ?_
                                                                          refine lv_icmp_gt (tgt := 280) hx hb d_M_shapeCanBe_273 (by decide) (fun c126 => ?_) (fun c126 => ?_)
                                                                          · refine lv_iconst (v := 3) hx hb d_M_shapeCanBe_280 (by decide) ?_
                                                                            refine lv_icmp_gt (tgt := 288) hx hb d_M_shapeCanBe_281 (by decide) (fun c127 => ?_) (fun c127 => ?_)
                                                                            · refine lv_iconst (v := 0) hx hb d_M_shapeCanBe_288 (by decide) ?_
                                                                              exact W.zret (v := (0 : Int32)) hx hb hr rfl (fun t ht hW => ⟨(0 : Int32), rfl, by simp only [f_M_shapeCanBe, if_pos c1, if_pos c2, if_neg c3, if_neg c4, if_neg c8, if_neg c12, if_neg c16, if_neg c20, if_neg c22, if_neg c24, if_neg c25, if_neg c29, if_neg c33, if_neg c37, if_neg c41, if_neg c45, if_neg c49, if_neg c53, if_neg c57, if_neg c61, if_neg c65, if_neg c69, if_neg c73, if_neg c77, if_neg c81, if_neg c85, if_neg c89, if_neg c93, if_neg c97, if_neg c101, if_neg c105, if_neg c109, if_neg c113, if_neg c117, if_neg c121, if_pos c125, if_pos c126, if_pos c127]; rfl, ht⟩) (fun q h => absurd h List.not_mem_nil) d_M_shapeCanBe_289
                                                                            · refine lv_iconst (v := 1) hx hb d_M_shapeCanBe_284 (by decide) ?_
                                                                              refine lv_goto (tgt := 289) hx hb d_M_shapeCanBe_285 (by decide) ?_
                                                                              exact W.zret (v := (1 : Int32)) hx hb hr rfl (fun t ht hW => ⟨(1 : Int32), rfl, by simp only [f_M_shapeCanBe, if_pos c1, if_pos c2, if_neg c3, if_neg c4, if_neg c8, if_neg c12, if_neg c16, if_neg c20, if_neg c22, if_neg c24, if_neg c25, if_neg c29, if_neg c33, if_neg c37, if_neg c41, if_neg c45, if_neg c49, if_neg c53, if_neg c57, if_neg c61, if_neg c65, if_neg c69, if_neg c73, if_neg c77, if_neg c81, if_neg c85, if_neg c89, if_neg c93, if_neg c97, if_neg c101, if_neg c105, if_neg c109, if_neg c113, if_neg c117, if_neg c121, if_pos c125, if_pos c126, if_neg c127]; rfl, ht⟩) (fun q h => absurd h List.not_mem_nil) d_M_shapeCanBe_289
                                                                          · refine lv_iconst (v := 5) hx hb d_M_shapeCanBe_276 (by decide) ?_
                                                                            refine lv_goto (tgt := 281) hx hb d_M_shapeCanBe_277 (by decide) ?_
                                                                            refine lv_icmp_gt (tgt := 288) hx hb d_M_shapeCanBe_281 (by decide) (fun c128 => ?_) (fun c128 => ?_)
                                                                            · refine lv_iconst (v := 0) hx hb d_M_shapeCanBe_288 (by decide) ?_
                                                                              exact W.zret (v := (0 : Int32)) hx hb hr rfl (fun t ht hW => ⟨(0 : Int32), rfl, by simp only [f_M_shapeCanBe, if_pos c1, if_pos c2, if_neg c3, if_neg c4, if_neg c8, if_neg c12, if_neg c16, if_neg c20, if_neg c22, if_neg c24, if_neg c25, if_neg c29, if_neg c33, if_neg c37, if_neg c41, if_neg c45, if_neg c49, if_neg c53, if_neg c57, if_neg c61, if_neg c65, if_neg c69, if_neg c73, if_neg c77, if_neg c81, if_neg c85, if_neg c89, if_neg c93, if_neg c97, if_neg c101, if_neg c105, if_neg c109, if_neg c113, if_neg c117, if_neg c121, if_pos c125, if_neg c126, if_pos c128]; rfl, ht⟩) (fun q h => absurd h List.not_mem_nil) d_M_shapeCanBe_289
                                                                            · refine lv_iconst (v := 1) hx hb d_M_shapeCanBe_284 (by decide) ?_
                                                                              refine lv_goto (tgt := 289) hx hb d_M_shapeCanBe_285 (by decide) ?_
                                                                              exact W.zret (v := (1 : Int32)) hx hb hr rfl (fun t ht hW => ⟨(1 : Int32), rfl, by simp only [f_M_shapeCanBe, if_pos c1, if_pos c2, if_neg c3, if_neg c4, if_neg c8, if_neg c12, if_neg c16, if_neg c20, if_neg c22, if_neg c24, if_neg c25, if_neg c29, if_neg c33, if_neg c37, if_neg c41, if_neg c45, if_neg c49, if_neg c53, if_neg c57, if_neg c61, if_neg c65, if_neg c69, if_neg c73, if_neg c77, if_neg c81, if_neg c85, if_neg c89, if_neg c93, if_neg c97, if_neg c101, if_neg c105, if_neg c109, if_neg c113, if_neg c117, if_neg c121, if_pos c125, if_neg c126, if_neg c128]; rfl, ht⟩) (fun q h => absurd h List.not_mem_nil) d_M_shapeCanBe_289
                                                                        · by_cases c129 : cod = (34 : Int32)
                                                                          · refine lv_tableIn (off := 204) (tgt := 234) hx hb d_M_shapeCanBe_30 (by rw [c129]; decide) (by rw [c129]; decide) (by rw [c129]; rfl) (by decide) ?_
                                                                            refine lv_aload_n hx hb d_M_shapeCanBe_234 rfl (lv_at hl 0 rfl) ?_
                                                                            refine va_get (D := D) (ci := 1) (v := .int fld) (C := "SignMachine$Machine") (T := F_M) (N := 14) hx hb hk fi_M hown hK.1 hP 0 rfl rfl 10 (by decide) (hk _ k_177) (fun _ h9 => h9) rfl d_M_shapeCanBe_235 ?_
                                                                            refine lv_iconst (v := 1) hx hb d_M_shapeCanBe_238 (by decide) ?_
                                                                            refine lv_icmp_gt (tgt := 246) hx hb d_M_shapeCanBe_239 (by decide) (fun c130 => ?_) (fun c130 => ?_)
                                                                            · refine lv_iconst (v := 0) hx hb d_M_shapeCanBe_246 (by decide) ?_
                                                                              exact W.zret (v := (0 : Int32)) hx hb hr rfl (fun t ht hW => ⟨(0 : Int32), rfl, by simp only [f_M_shapeCanBe, if_pos c1, if_pos c2, if_neg c3, if_neg c4, if_neg c8, if_neg c12, if_neg c16, if_neg c20, if_neg c22, if_neg c24, if_neg c25, if_neg c29, if_neg c33, if_neg c37, if_neg c41, if_neg c45, if_neg c49, if_neg c53, if_neg c57, if_neg c61, if_neg c65, if_neg c69, if_neg c73, if_neg c77, if_neg c81, if_neg c85, if_neg c89, if_neg c93, if_neg c97, if_neg c101, if_neg c105, if_neg c109, if_neg c113, if_neg c117, if_neg c121, if_neg c125, if_pos c129, if_pos c130]; rfl, ht⟩) (fun q h => absurd h List.not_mem_nil) d_M_shapeCanBe_247
                                                                            · refine lv_iconst (v := 1) hx hb d_M_shapeCanBe_242 (by decide) ?_
                                                                              refine lv_goto (tgt := 247) hx hb d_M_shapeCanBe_243 (by decide) ?_
                                                                              exact W.zret (v := (1 : Int32)) hx hb hr rfl (fun t ht hW => ⟨(1 : Int32), rfl, by simp only [f_M_shapeCanBe, if_pos c1, if_pos c2, if_neg c3, if_neg c4, if_neg c8, if_neg c12, if_neg c16, if_neg c20, if_neg c22, if_neg c24, if_neg c25, if_neg c29, if_neg c33, if_neg c37, if_neg c41, if_neg c45, if_neg c49, if_neg c53, if_neg c57, if_neg c61, if_neg c65, if_neg c69, if_neg c73, if_neg c77, if_neg c81, if_neg c85, if_neg c89, if_neg c93, if_neg c97, if_neg c101, if_neg c105, if_neg c109, if_neg c113, if_neg c117, if_neg c121, if_neg c125, if_pos c129, if_neg c130]; rfl, ht⟩) (fun q h => absurd h List.not_mem_nil) d_M_shapeCanBe_247
                                                                          · by_cases c131 : cod = (35 : Int32)
                                                                            · refine lv_tableIn (off := 204) (tgt := 234) hx hb d_M_shapeCanBe_30 (by rw [c131]; decide) (by rw [c131]; decide) (by rw [c131]; rfl) (by decide) ?_
                                                                              refine lv_aload_n hx hb d_M_shapeCanBe_234 rfl (lv_at hl 0 rfl) ?_
                                                                              refine va_get (D := D) (ci := 1) (v := .int fld) (C := "SignMachine$Machine") (T := F_M) (N := 14) hx hb hk fi_M hown hK.1 hP 0 rfl rfl 10 (by decide) (hk _ k_177) (fun _ h9 => h9) rfl d_M_shapeCanBe_235 ?_
                                                                              refine lv_iconst (v := 1) hx hb d_M_shapeCanBe_238 (by decide) ?_
                                                                              refine lv_icmp_gt (tgt := 246) hx hb d_M_shapeCanBe_239 (by decide) (fun c132 => ?_) (fun c132 => ?_)
                                                                              · refine lv_iconst (v := 0) hx hb d_M_shapeCanBe_246 (by decide) ?_
                                                                                exact W.zret (v := (0 : Int32)) hx hb hr rfl (fun t ht hW => ⟨(0 : Int32), rfl, by simp only [f_M_shapeCanBe, if_pos c1, if_pos c2, if_neg c3, if_neg c4, if_neg c8, if_neg c12, if_neg c16, if_neg c20, if_neg c22, if_neg c24, if_neg c25, if_neg c29, if_neg c33, if_neg c37, if_neg c41, if_neg c45, if_neg c49, if_neg c53, if_neg c57, if_neg c61, if_neg c65, if_neg c69, if_neg c73, if_neg c77, if_neg c81, if_neg c85, if_neg c89, if_neg c93, if_neg c97, if_neg c101, if_neg c105, if_neg c109, if_neg c113, if_neg c117, if_neg c121, if_neg c125, if_neg c129, if_pos c131, if_pos c132]; rfl, ht⟩) (fun q h => absurd h List.not_mem_nil) d_M_shapeCanBe_247
                                                                              · refine lv_iconst (v := 1) hx hb d_M_shapeCanBe_242 (by decide) ?_
                                                                                refine lv_goto (tgt := 247) hx hb d_M_shapeCanBe_243 (by decide) ?_
                                                                                exact W.zret (v := (1 : Int32)) hx hb hr rfl (fun t ht hW => ⟨(1 : Int32), rfl, by simp only [f_M_shapeCanBe, if_pos c1, if_pos c2, if_neg c3, if_neg c4, if_neg c8, if_neg c12, if_neg c16, if_neg c20, if_neg c22, if_neg c24, if_neg c25, if_neg c29, if_neg c33, if_neg c37, if_neg c41, if_neg c45, if_neg c49, if_neg c53, if_neg c57, if_neg c61, if_neg c65, if_neg c69, if_neg c73, if_neg c77, if_neg c81, if_neg c85, if_neg c89, if_neg c93, if_neg c97, if_neg c101, if_neg c105, if_neg c109, if_neg c113, if_neg c117, if_neg c121, if_neg c125, if_neg c129, if_pos c131, if_neg c132]; rfl, ht⟩) (fun q h => absurd h List.not_mem_nil) d_M_shapeCanBe_247
                                                                            · by_cases c133 : cod = (36 : Int32)
                                                                              · refine lv_tableIn (off := 204) (tgt := 234) hx hb d_M_shapeCanBe_30 (by rw [c133]; decide) (by rw [c133]; decide) (by rw [c133]; rfl) (by decide) ?_
                                                                                refine lv_aload_n hx hb d_M_shapeCanBe_234 rfl (lv_at hl 0 rfl) ?_
                                                                                refine va_get (D := D) (ci := 1) (v := .int fld) (C := "SignMachine$Machine") (T := F_M) (N := 14) hx hb hk fi_M hown hK.1 hP 0 rfl rfl 10 (by decide) (hk _ k_177) (fun _ h9 => h9) rfl d_M_shapeCanBe_235 ?_
                                                                                refine lv_iconst (v := 1) hx hb d_M_shapeCanBe_238 (by decide) ?_
                                                                                refine lv_icmp_gt (tgt := 246) hx hb d_M_shapeCanBe_239 (by decide) (fun c134 => ?_) (fun c134 => ?_)
                                                                                · refine lv_iconst (v := 0) hx hb d_M_shapeCanBe_246 (by decide) ?_
                                                                                  exact W.zret (v := (0 : Int32)) hx hb hr rfl (fun t ht hW => ⟨(0 : Int32), rfl, by simp only [f_M_shapeCanBe, if_pos c1, if_pos c2, if_neg c3, if_neg c4, if_neg c8, if_neg c12, if_neg c16, if_neg c20, if_neg c22, if_neg c24, if_neg c25, if_neg c29, if_neg c33, if_neg c37, if_neg c41, if_neg c45, if_neg c49, if_neg c53, if_neg c57, if_neg c61, if_neg c65, if_neg c69, if_neg c73, if_neg c77, if_neg c81, if_neg c85, if_neg c89, if_neg c93, if_neg c97, if_neg c101, if_neg c105, if_neg c109, if_neg c113, if_neg c117, if_neg c121, if_neg c125, if_neg c129, if_neg c131, if_pos c133, if_pos c134]; rfl, ht⟩) (fun q h => absurd h List.not_mem_nil) d_M_shapeCanBe_247
                                                                                · refine lv_iconst (v := 1) hx hb d_M_shapeCanBe_242 (by decide) ?_
                                                                                  refine lv_goto (tgt := 247) hx hb d_M_shapeCanBe_243 (by decide) ?_
                                                                                  exact W.zret (v := (1 : Int32)) hx hb hr rfl (fun t ht hW => ⟨(1 : Int32), rfl, by simp only [f_M_shapeCanBe, if_pos c1, if_pos c2, if_neg c3, if_neg c4, if_neg c8, if_neg c12, if_neg c16, if_neg c20, if_neg c22, if_neg c24, if_neg c25, if_neg c29, if_neg c33, if_neg c37, if_neg c41, if_neg c45, if_neg c49, if_neg c53, if_neg c57, if_neg c61, if_neg c65, if_neg c69, if_neg c73, if_neg c77, if_neg c81, if_neg c85, if_neg c89, if_neg c93, if_neg c97, if_neg c101, if_neg c105, if_neg c109, if_neg c113, if_neg c117, if_neg c121, if_neg c125, if_neg c129, if_neg c131, if_pos c133, if_neg c134]; rfl, ht⟩) (fun q h => absurd h List.not_mem_nil) d_M_shapeCanBe_247
                                                                              · by_cases c135 : cod = (37 : Int32)
                                                                                · refine lv_tableIn (off := 204) (tgt := 234) hx hb d_M_shapeCanBe_30 (by rw [c135]; decide) (by rw [c135]; decide) (by rw [c135]; rfl) (by decide) ?_
                                                                                  refine lv_aload_n hx hb d_M_shapeCanBe_234 rfl (lv_at hl 0 rfl) ?_
                                                                                  refine va_get (D := D) (ci := 1) (v := .int fld) (C := "SignMachine$Machine") (T := F_M) (N := 14) hx hb hk fi_M hown hK.1 hP 0 rfl rfl 10 (by decide) (hk _ k_177) (fun _ h9 => h9) rfl d_M_shapeCanBe_235 ?_
                                                                                  refine lv_iconst (v := 1) hx hb d_M_shapeCanBe_238 (by decide) ?_
                                                                                  refine lv_icmp_gt (tgt := 246) hx hb d_M_shapeCanBe_239 (by decide) (fun c136 => ?_) (fun c136 => ?_)
                                                                                  · refine lv_iconst (v := 0) hx hb d_M_shapeCanBe_246 (by decide) ?_
                                                                                    exact W.zret (v := (0 : Int32)) hx hb hr rfl (fun t ht hW => ⟨(0 : Int32), rfl, by simp only [f_M_shapeCanBe, if_pos c1, if_pos c2, if_neg c3, if_neg c4, if_neg c8, if_neg c12, if_neg c16, if_neg c20, if_neg c22, if_neg c24, if_neg c25, if_neg c29, if_neg c33, if_neg c37, if_neg c41, if_neg c45, if_neg c49, if_neg c53, if_neg c57, if_neg c61, if_neg c65, if_neg c69, if_neg c73, if_neg c77, if_neg c81, if_neg c85, if_neg c89, if_neg c93, if_neg c97, if_neg c101, if_neg c105, if_neg c109, if_neg c113, if_neg c117, if_neg c121, if_neg c125, if_neg c129, if_neg c131, if_neg c133, if_pos c135, if_pos c136]; rfl, ht⟩) (fun q h => absurd h List.not_mem_nil) d_M_shapeCanBe_247
                                                                                  · refine lv_iconst (v := 1) hx hb d_M_shapeCanBe_242 (by decide) ?_
                                                                                    refine lv_goto (tgt := 247) hx hb d_M_shapeCanBe_243 (by decide) ?_
                                                                                    exact W.zret (v := (1 : Int32)) hx hb hr rfl (fun t ht hW => ⟨(1 : Int32), rfl, by simp only [f_M_shapeCanBe, if_pos c1, if_pos c2, if_neg c3, if_neg c4, if_neg c8, if_neg c12, if_neg c16, if_neg c20, if_neg c22, if_neg c24, if_neg c25, if_neg c29, if_neg c33, if_neg c37, if_neg c41, if_neg c45, if_neg c49, if_neg c53, if_neg c57, if_neg c61, if_neg c65, if_neg c69, if_neg c73, if_neg c77, if_neg c81, if_neg c85, if_neg c89, if_neg c93, if_neg c97, if_neg c101, if_neg c105, if_neg c109, if_neg c113, if_neg c117, if_neg c121, if_neg c125, if_neg c129, if_neg c131, if_neg c133, if_pos c135, if_neg c136]; rfl, ht⟩) (fun q h => absurd h List.not_mem_nil) d_M_shapeCanBe_247
                                                                                · by_cases c137 : cod = (38 : Int32)
                                                                                  · refine lv_tableIn (off := 204) (tgt := 234) hx hb d_M_shapeCanBe_30 (by rw [c137]; decide) (by rw [c137]; decide) (by rw [c137]; rfl) (by decide) ?_
                                                                                    refine lv_aload_n hx hb d_M_shapeCanBe_234 rfl (lv_at hl 0 rfl) ?_
                                                                                    refine va_get (D := D) (ci := 1) (v := .int fld) (C := "SignMachine$Machine") (T := F_M) (N := 14) hx hb hk fi_M hown hK.1 hP 0 rfl rfl 10 (by decide) (hk _ k_177) (fun _ h9 => h9) rfl d_M_shapeCanBe_235 ?_
                                                                                    refine lv_iconst (v := 1) hx hb d_M_shapeCanBe_238 (by decide) ?_
                                                                                    refine lv_icmp_gt (tgt := 246) hx hb d_M_shapeCanBe_239 (by decide) (fun c138 => ?_) (fun c138 => ?_)
                                                                                    · refine lv_iconst (v := 0) hx hb d_M_shapeCanBe_246 (by decide) ?_
                                                                                      exact W.zret (v := (0 : Int32)) hx hb hr rfl (fun t ht hW => ⟨(0 : Int32), rfl, by simp only [f_M_shapeCanBe, if_pos c1, if_pos c2, if_neg c3, if_neg c4, if_neg c8, if_neg c12, if_neg c16, if_neg c20, if_neg c22, if_neg c24, if_neg c25, if_neg c29, if_neg c33, if_neg c37, if_neg c41, if_neg c45, if_neg c49, if_neg c53, if_neg c57, if_neg c61, if_neg c65, if_neg c69, if_neg c73, if_neg c77, if_neg c81, if_neg c85, if_neg c89, if_neg c93, if_neg c97, if_neg c101, if_neg c105, if_neg c109, if_neg c113, if_neg c117, if_neg c121, if_neg c125, if_neg c129, if_neg c131, if_neg c133, if_neg c135, if_pos c137, if_pos c138]; rfl, ht⟩) (fun q h => absurd h List.not_mem_nil) d_M_shapeCanBe_247
                                                                                    · refine lv_iconst (v := 1) hx hb d_M_shapeCanBe_242 (by decide) ?_
                                                                                      refine lv_goto (tgt := 247) hx hb d_M_shapeCanBe_243 (by decide) ?_
                                                                                      exact W.zret (v := (1 : Int32)) hx hb hr rfl (fun t ht hW => ⟨(1 : Int32), rfl, by simp only [f_M_shapeCanBe, if_pos c1, if_pos c2, if_neg c3, if_neg c4, if_neg c8, if_neg c12, if_neg c16, if_neg c20, if_neg c22, if_neg c24, if_neg c25, if_neg c29, if_neg c33, if_neg c37, if_neg c41, if_neg c45, if_neg c49, if_neg c53, if_neg c57, if_neg c61, if_neg c65, if_neg c69, if_neg c73, if_neg c77, if_neg c81, if_neg c85, if_neg c89, if_neg c93, if_neg c97, if_neg c101, if_neg c105, if_neg c109, if_neg c113, if_neg c117, if_neg c121, if_neg c125, if_neg c129, if_neg c131, if_neg c133, if_neg c135, if_pos c137, if_neg c138]; rfl, ht⟩) (fun q h => absurd h List.not_mem_nil) d_M_shapeCanBe_247
                                                                                  · by_cases c139 : cod = (39 : Int32)
                                                                                    · refine lv_tableIn (off := 218) (tgt := 248) hx hb d_M_shapeCanBe_30 (by rw [c139]; decide) (by rw [c139]; decide) (by rw [c139]; rfl) (by decide) ?_
                                                                                      refine lv_aload_n hx hb d_M_shapeCanBe_248 rfl (lv_at hl 0 rfl) ?_
                                                                                      refine va_get (D := D) (ci := 1) (v := .int fld) (C := "SignMachine$Machine") (T := F_M) (N := 14) hx hb hk fi_M hown hK.1 hP 0 rfl rfl 10 (by decide) (hk _ k_177) (fun _ h9 => h9) rfl d_M_shapeCanBe_249 ?_
                                                                                      refine lv_bipush (v := 9) hx hb d_M_shapeCanBe_252 (by decide) ?_
                                                                                      refine lv_icmp_gt (tgt := 261) hx hb d_M_shapeCanBe_254 (by decide) (fun c140 => ?_) (fun c140 => ?_)
                                                                                      · refine lv_iconst (v := 0) hx hb d_M_shapeCanBe_261 (by decide) ?_
                                                                                        exact W.zret (v := (0 : Int32)) hx hb hr rfl (fun t ht hW => ⟨(0 : Int32), rfl, by simp only [f_M_shapeCanBe, if_pos c1, if_pos c2, if_neg c3, if_neg c4, if_neg c8, if_neg c12, if_neg c16, if_neg c20, if_neg c22, if_neg c24, if_neg c25, if_neg c29, if_neg c33, if_neg c37, if_neg c41, if_neg c45, if_neg c49, if_neg c53, if_neg c57, if_neg c61, if_neg c65, if_neg c69, if_neg c73, if_neg c77, if_neg c81, if_neg c85, if_neg c89, if_neg c93, if_neg c97, if_neg c101, if_neg c105, if_neg c109, if_neg c113, if_neg c117, if_neg c121, if_neg c125, if_neg c129, if_neg c131, if_neg c133, if_neg c135, if_neg c137, if_pos c139, if_pos c140]; rfl, ht⟩) (fun q h => absurd h List.not_mem_nil) d_M_shapeCanBe_262
                                                                                      · refine lv_iconst (v := 1) hx hb d_M_shapeCanBe_257 (by decide) ?_
                                                                                        refine lv_goto (tgt := 262) hx hb d_M_shapeCanBe_258 (by decide) ?_
                                                                                        exact W.zret (v := (1 : Int32)) hx hb hr rfl (fun t ht hW => ⟨(1 : Int32), rfl, by simp only [f_M_shapeCanBe, if_pos c1, if_pos c2, if_neg c3, if_neg c4, if_neg c8, if_neg c12, if_neg c16, if_neg c20, if_neg c22, if_neg c24, if_neg c25, if_neg c29, if_neg c33, if_neg c37, if_neg c41, if_neg c45, if_neg c49, if_neg c53, if_neg c57, if_neg c61, if_neg c65, if_neg c69, if_neg c73, if_neg c77, if_neg c81, if_neg c85, if_neg c89, if_neg c93, if_neg c97, if_neg c101, if_neg c105, if_neg c109, if_neg c113, if_neg c117, if_neg c121, if_neg c125, if_neg c129, if_neg c131, if_neg c133, if_neg c135, if_neg c137, if_pos c139, if_neg c140]; rfl, ht⟩) (fun q h => absurd h List.not_mem_nil) d_M_shapeCanBe_262
                                                                                    · refine lv_tableOut (tgt := 263) hx hb d_M_shapeCanBe_30 (by have e0 := lv_neT c3 (a := 0) rfl; have e1 := lv_neT c4 (a := 1) rfl; have e2 := lv_neT c8 (a := 2) rfl; have e3 := lv_neT c12 (a := 3) rfl; have e4 := lv_neT c16 (a := 4) rfl; have e5 := lv_neT c20 (a := 5) rfl; have e6 := lv_neT c22 (a := 6) rfl; have e7 := lv_neT c24 (a := 7) rfl; have e8 := lv_neT c25 (a := 8) rfl; have e9 := lv_neT c29 (a := 9) rfl; have e10 := lv_neT c33 (a := 10) rfl; have e11 := lv_neT c37 (a := 11) rfl; have e12 := lv_neT c41 (a := 12) rfl; have e13 := lv_neT c45 (a := 13) rfl; have e14 := lv_neT c49 (a := 14) rfl; have e15 := lv_neT c53 (a := 15) rfl; have e16 := lv_neT c57 (a := 16) rfl; have e17 := lv_neT c61 (a := 17) rfl; have e18 := lv_neT c65 (a := 18) rfl; have e19 := lv_neT c69 (a := 19) rfl; have e20 := lv_neT c73 (a := 20) rfl; have e21 := lv_neT c77 (a := 21) rfl; have e22 := lv_neT c81 (a := 22) rfl; have e23 := lv_neT c85 (a := 23) rfl; have e24 := lv_neT c89 (a := 24) rfl; have e25 := lv_neT c93 (a := 25) rfl; have e26 := lv_neT c97 (a := 26) rfl; have e27 := lv_neT c101 (a := 27) rfl; have e28 := lv_neT c105 (a := 28) rfl; have e29 := lv_neT c109 (a := 29) rfl; have e30 := lv_neT c113 (a := 30) rfl; have e31 := lv_neT c117 (a := 31) rfl; have e32 := lv_neT c121 (a := 32) rfl; have e33 := lv_neT c125 (a := 33) rfl; have e34 := lv_neT c129 (a := 34) rfl; have e35 := lv_neT c131 (a := 35) rfl; have e36 := lv_neT c133 (a := 36) rfl; have e37 := lv_neT c135 (a := 37) rfl; have e38 := lv_neT c137 (a := 38) rfl; have e39 := lv_neT c139 (a := 39) rfl; omega) (by decide) ?_
                                                                                      refine lv_aload_n hx hb d_M_shapeCanBe_263 rfl (lv_at hl 0 rfl) ?_
                                                                                      refine va_get (D := D) (ci := 1) (v := .int fld) (C := "SignMachine$Machine") (T := F_M) (N := 14) hx hb hk fi_M hown hK.1 hP 0 rfl rfl 10 (by decide) (hk _ k_177) (fun _ h9 => h9) rfl d_M_shapeCanBe_264 ?_
                                                                                      refine lv_aload_n hx hb d_M_shapeCanBe_267 rfl (lv_at hl 0 rfl) ?_
                                                                                      refine va_get (D := D) (ci := 1) (v := .int cod) (C := "SignMachine$Machine") (T := F_M) (N := 14) hx hb hk fi_M hown hK.1 hP 0 rfl rfl 9 (by decide) (hk _ k_176) (fun _ h9 => h9) rfl d_M_shapeCanBe_268 ?_
                                                                                      refine lv_bipush (v := 47) hx hb d_M_shapeCanBe_271 (by decide) ?_
                                                                                      refine lv_icmp_gt (tgt := 280) hx hb d_M_shapeCanBe_273 (by decide) (fun c141 => ?_) (fun c141 => ?_)
                                                                                      · refine lv_iconst (v := 3) hx hb d_M_shapeCanBe_280 (by decide) ?_
                                                                                        refine lv_icmp_gt (tgt := 288) hx hb d_M_shapeCanBe_281 (by decide) (fun c142 => ?_) (fun c142 => ?_)
                                                                                        · refine lv_iconst (v := 0) hx hb d_M_shapeCanBe_288 (by decide) ?_
                                                                                          exact W.zret (v := (0 : Int32)) hx hb hr rfl (fun t ht hW => ⟨(0 : Int32), rfl, by simp only [f_M_shapeCanBe, if_pos c1, if_pos c2, if_neg c3, if_neg c4, if_neg c8, if_neg c12, if_neg c16, if_neg c20, if_neg c22, if_neg c24, if_neg c25, if_neg c29, if_neg c33, if_neg c37, if_neg c41, if_neg c45, if_neg c49, if_neg c53, if_neg c57, if_neg c61, if_neg c65, if_neg c69, if_neg c73, if_neg c77, if_neg c81, if_neg c85, if_neg c89, if_neg c93, if_neg c97, if_neg c101, if_neg c105, if_neg c109, if_neg c113, if_neg c117, if_neg c121, if_neg c125, if_neg c129, if_neg c131, if_neg c133, if_neg c135, if_neg c137, if_neg c139, if_pos c141, if_pos c142]; rfl, ht⟩) (fun q h => absurd h List.not_mem_nil) d_M_shapeCanBe_289
                                                                                        · refine lv_iconst (v := 1) hx hb d_M_shapeCanBe_284 (by decide) ?_
                                                                                          refine lv_goto (tgt := 289) hx hb d_M_shapeCanBe_285 (by decide) ?_
                                                                                          exact W.zret (v := (1 : Int32)) hx hb hr rfl (fun t ht hW => ⟨(1 : Int32), rfl, by simp only [f_M_shapeCanBe, if_pos c1, if_pos c2, if_neg c3, if_neg c4, if_neg c8, if_neg c12, if_neg c16, if_neg c20, if_neg c22, if_neg c24, if_neg c25, if_neg c29, if_neg c33, if_neg c37, if_neg c41, if_neg c45, if_neg c49, if_neg c53, if_neg c57, if_neg c61, if_neg c65, if_neg c69, if_neg c73, if_neg c77, if_neg c81, if_neg c85, if_neg c89, if_neg c93, if_neg c97, if_neg c101, if_neg c105, if_neg c109, if_neg c113, if_neg c117, if_neg c121, if_neg c125, if_neg c129, if_neg c131, if_neg c133, if_neg c135, if_neg c137, if_neg c139, if_pos c141, if_neg c142]; rfl, ht⟩) (fun q h => absurd h List.not_mem_nil) d_M_shapeCanBe_289
                                                                                      · refine lv_iconst (v := 5) hx hb d_M_shapeCanBe_276 (by decide) ?_
                                                                                        refine lv_goto (tgt := 281) hx hb d_M_shapeCanBe_277 (by decide) ?_
                                                                                        refine lv_icmp_gt (tgt := 288) hx hb d_M_shapeCanBe_281 (by decide) (fun c143 => ?_) (fun c143 => ?_)
                                                                                        · refine lv_iconst (v := 0) hx hb d_M_shapeCanBe_288 (by decide) ?_
                                                                                          exact W.zret (v := (0 : Int32)) hx hb hr rfl (fun t ht hW => ⟨(0 : Int32), rfl, by simp only [f_M_shapeCanBe, if_pos c1, if_pos c2, if_neg c3, if_neg c4, if_neg c8, if_neg c12, if_neg c16, if_neg c20, if_neg c22, if_neg c24, if_neg c25, if_neg c29, if_neg c33, if_neg c37, if_neg c41, if_neg c45, if_neg c49, if_neg c53, if_neg c57, if_neg c61, if_neg c65, if_neg c69, if_neg c73, if_neg c77, if_neg c81, if_neg c85, if_neg c89, if_neg c93, if_neg c97, if_neg c101, if_neg c105, if_neg c109, if_neg c113, if_neg c117, if_neg c121, if_neg c125, if_neg c129, if_neg c131, if_neg c133, if_neg c135, if_neg c137, if_neg c139, if_neg c141, if_pos c143]; rfl, ht⟩) (fun q h => absurd h List.not_mem_nil) d_M_shapeCanBe_289
                                                                                        · refine lv_iconst (v := 1) hx hb d_M_shapeCanBe_284 (by decide) ?_
                                                                                          refine lv_goto (tgt := 289) hx hb d_M_shapeCanBe_285 (by decide) ?_
                                                                                          exact W.zret (v := (1 : Int32)) hx hb hr rfl (fun t ht hW => ⟨(1 : Int32), rfl, by simp only [f_M_shapeCanBe, if_pos c1, if_pos c2, if_neg c3, if_neg c4, if_neg c8, if_neg c12, if_neg c16, if_neg c20, if_neg c22, if_neg c24, if_neg c25, if_neg c29, if_neg c33, if_neg c37, if_neg c41, if_neg c45, if_neg c49, if_neg c53, if_neg c57, if_neg c61, if_neg c65, if_neg c69, if_neg c73, if_neg c77, if_neg c81, if_neg c85, if_neg c89, if_neg c93, if_neg c97, if_neg c101, if_neg c105, if_neg c109, if_neg c113, if_neg c117, if_neg c121, if_neg c125, if_neg c129, if_neg c131, if_neg c133, if_neg c135, if_neg c137, if_neg c139, if_neg c141, if_neg c143]; rfl, ht⟩) (fun q h => absurd h List.not_mem_nil) d_M_shapeCanBe_289
    · refine lv_aload_n hx hb d_M_shapeCanBe_18 rfl (lv_at hl 0 rfl) ?_
      refine va_get (D := D) (ci := 1) (v := .int fld) (C := "SignMachine$Machine") (T := F_M) (N := 14) hx hb hk fi_M hown hK.1 hP 0 rfl rfl 10 (by decide) (hk _ k_177) (fun _ h9 => h9) rfl d_M_shapeCanBe_19 ?_
      refine cs_i (W.runS (As := [.int fld]) (rest := []) ⟨hx, hb, hml, hown, hk⟩ (c_W_isField l fld) (s_W_isField hk k_292 ⟨Nat.le_of_ble_eq_true rfl, Nat.le_of_ble_eq_true rfl⟩) ⟨fun a U g mk q => q, fun U hU hW => ⟨rfl, trivial⟩⟩ rfl rfl hl.1 rfl (lv_room (Nat.le_of_ble_eq_true rfl)) d_M_shapeCanBe_22 ⟨Nat.le_of_ble_eq_true rfl, Nat.le_of_ble_eq_true rfl⟩) ?_
      exact W.zret (v := (bI (f_W_isField fld))) hx hb hr (nar_bI (f_W_isField fld)) (fun t ht hW => ⟨(bI (f_W_isField fld)), rfl, by simp only [f_M_shapeCanBe, if_pos c1, if_neg c2], ht⟩) (fun q h => absurd h List.not_mem_nil) d_M_shapeCanBe_25
  · refine lv_iconst (v := 0) hx hb d_M_shapeCanBe_9 (by decide) ?_
    exact W.zret (v := (0 : Int32)) hx hb hr rfl (fun t ht hW => ⟨(0 : Int32), rfl, by simp only [f_M_shapeCanBe, if_neg c1]; rfl, ht⟩) (fun q h => absurd h List.not_mem_nil) d_M_shapeCanBe_10
theorem v_M_shapeCanBe {R : Room} {s : State} {args : Array Value} {own : String} {index : Nat} (hk : ∀ w ∈ tb, w.before args s = true) (hl : Cond.methodLink own index y_M_shapeCanBe ∈ tb) (hR : 1 + 1 ≤ R.frames ∧ 8 + (1 + 11) + 22 ≤ R.locals) : CallW R s args own "SignMachine$Machine" index y_M_shapeCanBe b_M_shapeCanBe 1 (some .boolean) (.code y_M_shapeCanBe b_M_shapeCanBe 1 (some .boolean) :: tb) ({ frames := 1, cells := 0, slots := 0, locals := 22 }) 0 0 0 := mk_v 0 hk k_287 hl k_286 k_2 k_117 rfl rfl h_M_shapeCanBe hR
def f_M_canMove (fld : Int32) (mm : Int32) (reg : Nat → Int32)  : Bool := (if fld = (0 : Int32) then true else (if (bI (f_M_hasWords mm fld)) = (0 : Int32) then false else (if (bI (f_M_hasWords (f_W_number (f_M_register reg (1 : Int32))) fld)) = (0 : Int32) then false else true)))
set_option maxHeartbeats 4000000 in
set_option maxRecDepth 100000 in
theorem c_M_canMove (l : Launch) (D : va_G) (cI cJ cZ cB : ClassId) (h0 h1 h2 h3 h4 : Nat) (tog : Int32) (ind : Int32) (tim : Int32) (nxt : Int32) (enD : Int32) (cod : Int32) (fld : Int32) (idx : Int32) (mm : Int32) (soz : Int32) (mem : Nat → Int32) (reg : Nat → Int32) (p1 : Int32) (w1 : Option Nat) (p2 : Int32) (w2 : Option Nat) (TL : va_W)  : Met l y_M_canMove (.code y_M_canMove b_M_canMove 1 (some .boolean) :: tb) ({ frames := 1, cells := 0, slots := 0, locals := 21 }) (pR D cI cJ cZ cB (mW cI cJ cZ cB h0 h1 h2 h3 h4 tog ind tim nxt enD cod fld idx mm soz mem reg p1 w1 p2 w2 TL) [.ref h0]) (vp_Si (fun r => r = bI (f_M_canMove fld mm reg))) 0 0 (fun _ => False) := by
  refine Met.ofW (cc := b_M_canMove) (maxL := 1) (ret := (some .boolean)) (by decide) rfl ?_
  intro p e s m args below meth c s₁ B hml hv
  obtain ⟨rfl, hK, hP⟩ := hv
  have hx := B.exec
  have hb := B.bytes
  have hr := B.returns
  have hts := atoms_spec (ws := .code y_M_canMove b_M_canMove 1 (some .boolean) :: tb) B.pre
  have hk : ∀ w ∈ tb, w.before [.ref h0].toArray s = true := fun w h => hts w (List.mem_cons_of_mem _ h)
  have hown : s.vm.findClass "SignMachine$Machine" = some m.cls := findClass_of_methodNamed B.named
  have hlocks := B.notSynchronized
  have hl := lv_entry ([.ref h0]) (n := 1) (Nat.le_of_ble_eq_true rfl)
  rw [lg_entry_eq]
  generalize (lg_sl ([.ref h0]) ++ List.replicate (1 - (lg_sl ([.ref h0])).length) Slot.unset).toArray = ls at hl ⊢
  have hl : lv_has ls 1 [(0, .ref h0)] := hl
  refine lv_aload_n hx hb d_M_canMove_0 rfl (lv_at hl 0 rfl) ?_
  refine va_get (D := D) (ci := 1) (v := .int fld) (C := "SignMachine$Machine") (T := F_M) (N := 14) hx hb hk fi_M hown hK.1 hP 0 rfl rfl 10 (by decide) (hk _ k_177) (fun _ h9 => h9) rfl d_M_canMove_1 ?_
  refine lv_if_eq (tgt := 39) hx hb d_M_canMove_4 (by decide) (fun c1 => ?_) (fun c1 => ?_)
  · refine lv_iconst (v := 1) hx hb d_M_canMove_39 (by decide) ?_
    refine lv_goto (tgt := 44) hx hb d_M_canMove_40 (by decide) ?_
    exact W.zret (v := (1 : Int32)) hx hb hr rfl (fun t ht hW => ⟨(1 : Int32), rfl, by simp only [f_M_canMove, if_pos c1]; rfl, ht⟩) (fun q h => absurd h List.not_mem_nil) d_M_canMove_44
  · refine lv_aload_n hx hb d_M_canMove_7 rfl (lv_at hl 0 rfl) ?_
    refine va_get (D := D) (ci := 1) (v := .int mm) (C := "SignMachine$Machine") (T := F_M) (N := 14) hx hb hk fi_M hown hK.1 hP 0 rfl rfl 12 (by decide) (hk _ k_179) (fun _ h9 => h9) rfl d_M_canMove_8 ?_
    refine lv_aload_n hx hb d_M_canMove_11 rfl (lv_at hl 0 rfl) ?_
    refine va_get (D := D) (ci := 1) (v := .int fld) (C := "SignMachine$Machine") (T := F_M) (N := 14) hx hb hk fi_M hown hK.1 hP 0 rfl rfl 10 (by decide) (hk _ k_177) (fun _ h9 => h9) rfl d_M_canMove_12 ?_
    refine cs_i (W.runS (As := [.int mm, .int fld]) (rest := []) ⟨hx, hb, hml, hown, hk⟩ (c_M_hasWords l mm fld) (s_M_hasWords hk k_303 ⟨Nat.le_of_ble_eq_true rfl, Nat.le_of_ble_eq_true rfl⟩) ⟨fun a U g mk q => q, fun U hU hW => ⟨rfl, trivial⟩⟩ rfl rfl hl.1 rfl (lv_room (Nat.le_of_ble_eq_true rfl)) d_M_canMove_15 ⟨Nat.le_of_ble_eq_true rfl, Nat.le_of_ble_eq_true rfl⟩) ?_
    refine lv_if_eq (tgt := 43) hx hb d_M_canMove_18 (by decide) (fun c2 => ?_) (fun c2 => ?_)
    · refine lv_iconst (v := 0) hx hb d_M_canMove_43 (by decide) ?_
      exact W.zret (v := (0 : Int32)) hx hb hr rfl (fun t ht hW => ⟨(0 : Int32), rfl, by simp only [f_M_canMove, if_neg c1, if_pos c2]; rfl, ht⟩) (fun q h => absurd h List.not_mem_nil) d_M_canMove_44
    · refine lv_aload_n hx hb d_M_canMove_21 rfl (lv_at hl 0 rfl) ?_
      refine lv_iconst (v := 1) hx hb d_M_canMove_22 (by decide) ?_
      refine cs_i (W.runV (C := "SignMachine$Machine") (As := [.int (1 : Int32)]) (rest := []) ⟨hx, hb, hml, hown, hk⟩ (c_M_register l D cI cJ cZ cB h0 h1 h2 h3 h4 tog ind tim nxt enD cod fld idx mm soz mem reg p1 w1 p2 w2 TL (1 : Int32)) (v_M_register hk k_273 ⟨Nat.le_of_ble_eq_true rfl, Nat.le_of_ble_eq_true rfl⟩) (pR_v hK hP (ci := 1) (q0 := 0) rfl rfl rfl) rfl rfl hl.1 rfl (lv_room (Nat.le_of_ble_eq_true rfl)) d_M_canMove_23 ⟨Nat.le_of_ble_eq_true rfl, Nat.le_of_ble_eq_true rfl⟩) ?_
      refine cs_i (W.runS (As := [.int (f_M_register reg (1 : Int32))]) (rest := []) ⟨hx, hb, hml, hown, hk⟩ (c_W_number l (f_M_register reg (1 : Int32))) (s_W_number hk k_277 ⟨Nat.le_of_ble_eq_true rfl, Nat.le_of_ble_eq_true rfl⟩) ⟨fun a U g mk q => q, fun U hU hW => ⟨rfl, trivial⟩⟩ rfl rfl hl.1 rfl (lv_room (Nat.le_of_ble_eq_true rfl)) d_M_canMove_26 ⟨Nat.le_of_ble_eq_true rfl, Nat.le_of_ble_eq_true rfl⟩) ?_
      refine lv_aload_n hx hb d_M_canMove_29 rfl (lv_at hl 0 rfl) ?_
      refine va_get (D := D) (ci := 1) (v := .int fld) (C := "SignMachine$Machine") (T := F_M) (N := 14) hx hb hk fi_M hown hK.1 hP 0 rfl rfl 10 (by decide) (hk _ k_177) (fun _ h9 => h9) rfl d_M_canMove_30 ?_
      refine cs_i (W.runS (As := [.int (f_W_number (f_M_register reg (1 : Int32))), .int fld]) (rest := []) ⟨hx, hb, hml, hown, hk⟩ (c_M_hasWords l (f_W_number (f_M_register reg (1 : Int32))) fld) (s_M_hasWords hk k_303 ⟨Nat.le_of_ble_eq_true rfl, Nat.le_of_ble_eq_true rfl⟩) ⟨fun a U g mk q => q, fun U hU hW => ⟨rfl, trivial⟩⟩ rfl rfl hl.1 rfl (lv_room (Nat.le_of_ble_eq_true rfl)) d_M_canMove_33 ⟨Nat.le_of_ble_eq_true rfl, Nat.le_of_ble_eq_true rfl⟩) ?_
      refine lv_if_eq (tgt := 43) hx hb d_M_canMove_36 (by decide) (fun c3 => ?_) (fun c3 => ?_)
      · refine lv_iconst (v := 0) hx hb d_M_canMove_43 (by decide) ?_
        exact W.zret (v := (0 : Int32)) hx hb hr rfl (fun t ht hW => ⟨(0 : Int32), rfl, by simp only [f_M_canMove, if_neg c1, if_neg c2, if_pos c3]; rfl, ht⟩) (fun q h => absurd h List.not_mem_nil) d_M_canMove_44
      · refine lv_iconst (v := 1) hx hb d_M_canMove_39 (by decide) ?_
        refine lv_goto (tgt := 44) hx hb d_M_canMove_40 (by decide) ?_
        exact W.zret (v := (1 : Int32)) hx hb hr rfl (fun t ht hW => ⟨(1 : Int32), rfl, by simp only [f_M_canMove, if_neg c1, if_neg c2, if_neg c3]; rfl, ht⟩) (fun q h => absurd h List.not_mem_nil) d_M_canMove_44
theorem v_M_canMove {R : Room} {s : State} {args : Array Value} {own : String} {index : Nat} (hk : ∀ w ∈ tb, w.before args s = true) (hl : Cond.methodLink own index y_M_canMove ∈ tb) (hR : 1 + 1 ≤ R.frames ∧ 8 + (1 + 11) + 21 ≤ R.locals) : CallW R s args own "SignMachine$Machine" index y_M_canMove b_M_canMove 1 (some .boolean) (.code y_M_canMove b_M_canMove 1 (some .boolean) :: tb) ({ frames := 1, cells := 0, slots := 0, locals := 21 }) 0 0 0 := mk_v 0 hk k_302 hl k_301 k_5 k_117 rfl rfl h_M_canMove hR
def f_M_addressCanBe (cod : Int32) (fld : Int32) (mm : Int32) (reg : Nat → Int32)  : Bool := (if (bI (f_M_hasFieldOfWord cod )) = (0 : Int32) then (if cod = (0 : Int32) then true else (if cod = (5 : Int32) then true else (if cod = (6 : Int32) then (if mm < (0 : Int32) then false else true) else (if cod = (7 : Int32) then (f_M_canMove fld mm reg ) else (if cod = (35 : Int32) then true else (if cod = (36 : Int32) then (f_M_hasWords mm (100 : Int32)) else (if cod = (37 : Int32) then (f_M_hasWords mm (100 : Int32)) else (if (48 : Int32) ≤ cod then true else (if (bI (f_M_isAddress mm)) = (0 : Int32) then false else true))))))))) else (f_M_isAddress mm))
set_option maxHeartbeats 4000000 in
set_option maxRecDepth 100000 in
theorem c_M_addressCanBe (l : Launch) (D : va_G) (cI cJ cZ cB : ClassId) (h0 h1 h2 h3 h4 : Nat) (tog : Int32) (ind : Int32) (tim : Int32) (nxt : Int32) (enD : Int32) (cod : Int32) (fld : Int32) (idx : Int32) (mm : Int32) (soz : Int32) (mem : Nat → Int32) (reg : Nat → Int32) (p1 : Int32) (w1 : Option Nat) (p2 : Int32) (w2 : Option Nat) (TL : va_W)  : Met l y_M_addressCanBe (.code y_M_addressCanBe b_M_addressCanBe 1 (some .boolean) :: tb) ({ frames := 2, cells := 0, slots := 0, locals := 41 }) (pR D cI cJ cZ cB (mW cI cJ cZ cB h0 h1 h2 h3 h4 tog ind tim nxt enD cod fld idx mm soz mem reg p1 w1 p2 w2 TL) [.ref h0]) (vp_Si (fun r => r = bI (f_M_addressCanBe cod fld mm reg))) 0 0 (fun _ => False) := by
  refine Met.ofW (cc := b_M_addressCanBe) (maxL := 1) (ret := (some .boolean)) (by decide) rfl ?_
  intro p e s m args below meth c s₁ B hml hv
  obtain ⟨rfl, hK, hP⟩ := hv
  have hx := B.exec
  have hb := B.bytes
  have hr := B.returns
  have hts := atoms_spec (ws := .code y_M_addressCanBe b_M_addressCanBe 1 (some .boolean) :: tb) B.pre
  have hk : ∀ w ∈ tb, w.before [.ref h0].toArray s = true := fun w h => hts w (List.mem_cons_of_mem _ h)
  have hown : s.vm.findClass "SignMachine$Machine" = some m.cls := findClass_of_methodNamed B.named
  have hlocks := B.notSynchronized
  have hl := lv_entry ([.ref h0]) (n := 1) (Nat.le_of_ble_eq_true rfl)
  rw [lg_entry_eq]
  generalize (lg_sl ([.ref h0]) ++ List.replicate (1 - (lg_sl ([.ref h0])).length) Slot.unset).toArray = ls at hl ⊢
  have hl : lv_has ls 1 [(0, .ref h0)] := hl
  refine lv_aload_n hx hb d_M_addressCanBe_0 rfl (lv_at hl 0 rfl) ?_
  refine cs_i (W.runV (C := "SignMachine$Machine") (As := []) (rest := []) ⟨hx, hb, hml, hown, hk⟩ (c_M_hasFieldOfWord l D cI cJ cZ cB h0 h1 h2 h3 h4 tog ind tim nxt enD cod fld idx mm soz mem reg p1 w1 p2 w2 TL ) (v_M_hasFieldOfWord hk k_288 ⟨Nat.le_of_ble_eq_true rfl, Nat.le_of_ble_eq_true rfl⟩) (pR_v hK hP (ci := 1) (q0 := 0) rfl rfl rfl) rfl rfl hl.1 rfl (lv_room (Nat.le_of_ble_eq_true rfl)) d_M_addressCanBe_1 ⟨Nat.le_of_ble_eq_true rfl, Nat.le_of_ble_eq_true rfl⟩) ?_
  refine lv_if_eq (tgt := 15) hx hb d_M_addressCanBe_4 (by decide) (fun c1 => ?_) (fun c1 => ?_)
  · refine lv_aload_n hx hb d_M_addressCanBe_15 rfl (lv_at hl 0 rfl) ?_
    refine va_get (D := D) (ci := 1) (v := .int cod) (C := "SignMachine$Machine") (T := F_M) (N := 14) hx hb hk fi_M hown hK.1 hP 0 rfl rfl 9 (by decide) (hk _ k_176) (fun _ h9 => h9) rfl d_M_addressCanBe_16 ?_
    by_cases c2 : cod = (0 : Int32)
    · refine lv_lookup (off := 65) (tgt := 84) hx hb d_M_addressCanBe_19 (by decide) (by rw [c2]; rfl) (by decide) ?_
      refine lv_iconst (v := 1) hx hb d_M_addressCanBe_84 (by decide) ?_
      exact W.zret (v := (1 : Int32)) hx hb hr rfl (fun t ht hW => ⟨(1 : Int32), rfl, by simp only [f_M_addressCanBe, if_pos c1, if_pos c2]; rfl, ht⟩) (fun q h => absurd h List.not_mem_nil) d_M_addressCanBe_85
    · by_cases c3 : cod = (5 : Int32)
      · refine lv_lookup (off := 65) (tgt := 84) hx hb d_M_addressCanBe_19 (by decide) (by rw [c3]; rfl) (by decide) ?_
        refine lv_iconst (v := 1) hx hb d_M_addressCanBe_84 (by decide) ?_
        exact W.zret (v := (1 : Int32)) hx hb hr rfl (fun t ht hW => ⟨(1 : Int32), rfl, by simp only [f_M_addressCanBe, if_pos c1, if_neg c2, if_pos c3]; rfl, ht⟩) (fun q h => absurd h List.not_mem_nil) d_M_addressCanBe_85
      · by_cases c4 : cod = (6 : Int32)
        · refine lv_lookup (off := 67) (tgt := 86) hx hb d_M_addressCanBe_19 (by decide) (by rw [c4]; rfl) (by decide) ?_
          refine lv_aload_n hx hb d_M_addressCanBe_86 rfl (lv_at hl 0 rfl) ?_
          refine va_get (D := D) (ci := 1) (v := .int mm) (C := "SignMachine$Machine") (T := F_M) (N := 14) hx hb hk fi_M hown hK.1 hP 0 rfl rfl 12 (by decide) (hk _ k_179) (fun _ h9 => h9) rfl d_M_addressCanBe_87 ?_
          refine lv_if_lt (tgt := 97) hx hb d_M_addressCanBe_90 (by decide) (fun c5 => ?_) (fun c5 => ?_)
          · refine lv_iconst (v := 0) hx hb d_M_addressCanBe_97 (by decide) ?_
            exact W.zret (v := (0 : Int32)) hx hb hr rfl (fun t ht hW => ⟨(0 : Int32), rfl, by simp only [f_M_addressCanBe, if_pos c1, if_neg c2, if_neg c3, if_pos c4, if_pos c5]; rfl, ht⟩) (fun q h => absurd h List.not_mem_nil) d_M_addressCanBe_98
          · refine lv_iconst (v := 1) hx hb d_M_addressCanBe_93 (by decide) ?_
            refine lv_goto (tgt := 98) hx hb d_M_addressCanBe_94 (by decide) ?_
            exact W.zret (v := (1 : Int32)) hx hb hr rfl (fun t ht hW => ⟨(1 : Int32), rfl, by simp only [f_M_addressCanBe, if_pos c1, if_neg c2, if_neg c3, if_pos c4, if_neg c5]; rfl, ht⟩) (fun q h => absurd h List.not_mem_nil) d_M_addressCanBe_98
        · by_cases c6 : cod = (7 : Int32)
          · refine lv_lookup (off := 80) (tgt := 99) hx hb d_M_addressCanBe_19 (by decide) (by rw [c6]; rfl) (by decide) ?_
            refine lv_aload_n hx hb d_M_addressCanBe_99 rfl (lv_at hl 0 rfl) ?_
            refine cs_i (W.runV (C := "SignMachine$Machine") (As := []) (rest := []) ⟨hx, hb, hml, hown, hk⟩ (c_M_canMove l D cI cJ cZ cB h0 h1 h2 h3 h4 tog ind tim nxt enD cod fld idx mm soz mem reg p1 w1 p2 w2 TL ) (v_M_canMove hk k_299 ⟨Nat.le_of_ble_eq_true rfl, Nat.le_of_ble_eq_true rfl⟩) (pR_v hK hP (ci := 1) (q0 := 0) rfl rfl rfl) rfl rfl hl.1 rfl (lv_room (Nat.le_of_ble_eq_true rfl)) d_M_addressCanBe_100 ⟨Nat.le_of_ble_eq_true rfl, Nat.le_of_ble_eq_true rfl⟩) ?_
            exact W.zret (v := (bI (f_M_canMove fld mm reg ))) hx hb hr (nar_bI (f_M_canMove fld mm reg )) (fun t ht hW => ⟨(bI (f_M_canMove fld mm reg )), rfl, by simp only [f_M_addressCanBe, if_pos c1, if_neg c2, if_neg c3, if_neg c4, if_pos c6], ht⟩) (fun q h => absurd h List.not_mem_nil) d_M_addressCanBe_103
          · by_cases c7 : cod = (35 : Int32)
            · refine lv_lookup (off := 65) (tgt := 84) hx hb d_M_addressCanBe_19 (by decide) (by rw [c7]; rfl) (by decide) ?_
              refine lv_iconst (v := 1) hx hb d_M_addressCanBe_84 (by decide) ?_
              exact W.zret (v := (1 : Int32)) hx hb hr rfl (fun t ht hW => ⟨(1 : Int32), rfl, by simp only [f_M_addressCanBe, if_pos c1, if_neg c2, if_neg c3, if_neg c4, if_neg c6, if_pos c7]; rfl, ht⟩) (fun q h => absurd h List.not_mem_nil) d_M_addressCanBe_85
            · by_cases c8 : cod = (36 : Int32)
              · refine lv_lookup (off := 85) (tgt := 104) hx hb d_M_addressCanBe_19 (by decide) (by rw [c8]; rfl) (by decide) ?_
                refine lv_aload_n hx hb d_M_addressCanBe_104 rfl (lv_at hl 0 rfl) ?_
                refine va_get (D := D) (ci := 1) (v := .int mm) (C := "SignMachine$Machine") (T := F_M) (N := 14) hx hb hk fi_M hown hK.1 hP 0 rfl rfl 12 (by decide) (hk _ k_179) (fun _ h9 => h9) rfl d_M_addressCanBe_105 ?_
                refine lv_bipush (v := 100) hx hb d_M_addressCanBe_108 (by decide) ?_
                refine cs_i (W.runS (As := [.int mm, .int (100 : Int32)]) (rest := []) ⟨hx, hb, hml, hown, hk⟩ (c_M_hasWords l mm (100 : Int32)) (s_M_hasWords hk k_303 ⟨Nat.le_of_ble_eq_true rfl, Nat.le_of_ble_eq_true rfl⟩) ⟨fun a U g mk q => q, fun U hU hW => ⟨rfl, trivial⟩⟩ rfl rfl hl.1 rfl (lv_room (Nat.le_of_ble_eq_true rfl)) d_M_addressCanBe_110 ⟨Nat.le_of_ble_eq_true rfl, Nat.le_of_ble_eq_true rfl⟩) ?_
                exact W.zret (v := (bI (f_M_hasWords mm (100 : Int32)))) hx hb hr (nar_bI (f_M_hasWords mm (100 : Int32))) (fun t ht hW => ⟨(bI (f_M_hasWords mm (100 : Int32))), rfl, by simp only [f_M_addressCanBe, if_pos c1, if_neg c2, if_neg c3, if_neg c4, if_neg c6, if_neg c7, if_pos c8], ht⟩) (fun q h => absurd h List.not_mem_nil) d_M_addressCanBe_113
              · by_cases c9 : cod = (37 : Int32)
                · refine lv_lookup (off := 85) (tgt := 104) hx hb d_M_addressCanBe_19 (by decide) (by rw [c9]; rfl) (by decide) ?_
                  refine lv_aload_n hx hb d_M_addressCanBe_104 rfl (lv_at hl 0 rfl) ?_
                  refine va_get (D := D) (ci := 1) (v := .int mm) (C := "SignMachine$Machine") (T := F_M) (N := 14) hx hb hk fi_M hown hK.1 hP 0 rfl rfl 12 (by decide) (hk _ k_179) (fun _ h9 => h9) rfl d_M_addressCanBe_105 ?_
                  refine lv_bipush (v := 100) hx hb d_M_addressCanBe_108 (by decide) ?_
                  refine cs_i (W.runS (As := [.int mm, .int (100 : Int32)]) (rest := []) ⟨hx, hb, hml, hown, hk⟩ (c_M_hasWords l mm (100 : Int32)) (s_M_hasWords hk k_303 ⟨Nat.le_of_ble_eq_true rfl, Nat.le_of_ble_eq_true rfl⟩) ⟨fun a U g mk q => q, fun U hU hW => ⟨rfl, trivial⟩⟩ rfl rfl hl.1 rfl (lv_room (Nat.le_of_ble_eq_true rfl)) d_M_addressCanBe_110 ⟨Nat.le_of_ble_eq_true rfl, Nat.le_of_ble_eq_true rfl⟩) ?_
                  exact W.zret (v := (bI (f_M_hasWords mm (100 : Int32)))) hx hb hr (nar_bI (f_M_hasWords mm (100 : Int32))) (fun t ht hW => ⟨(bI (f_M_hasWords mm (100 : Int32))), rfl, by simp only [f_M_addressCanBe, if_pos c1, if_neg c2, if_neg c3, if_neg c4, if_neg c6, if_neg c7, if_neg c8, if_pos c9], ht⟩) (fun q h => absurd h List.not_mem_nil) d_M_addressCanBe_113
                · refine lv_lookup (off := 95) (tgt := 114) hx hb d_M_addressCanBe_19 (by decide) (by show Op.lookupswitch.offset [(0, 65), (5, 65), (6, 67), (7, 80), (35, 65), (36, 85), (37, 85)] 95 _ = _; rw [lv_osw c2 (a := 0) rfl, lv_osw c3 (a := 5) rfl, lv_osw c4 (a := 6) rfl, lv_osw c6 (a := 7) rfl, lv_osw c7 (a := 35) rfl, lv_osw c8 (a := 36) rfl, lv_osw c9 (a := 37) rfl]; rfl) (by decide) ?_
                  refine lv_aload_n hx hb d_M_addressCanBe_114 rfl (lv_at hl 0 rfl) ?_
                  refine va_get (D := D) (ci := 1) (v := .int cod) (C := "SignMachine$Machine") (T := F_M) (N := 14) hx hb hk fi_M hown hK.1 hP 0 rfl rfl 9 (by decide) (hk _ k_176) (fun _ h9 => h9) rfl d_M_addressCanBe_115 ?_
                  refine lv_bipush (v := 48) hx hb d_M_addressCanBe_118 (by decide) ?_
                  refine lv_icmp_ge (tgt := 133) hx hb d_M_addressCanBe_120 (by decide) (fun c10 => ?_) (fun c10 => ?_)
                  · refine lv_iconst (v := 1) hx hb d_M_addressCanBe_133 (by decide) ?_
                    refine lv_goto (tgt := 138) hx hb d_M_addressCanBe_134 (by decide) ?_
                    exact W.zret (v := (1 : Int32)) hx hb hr rfl (fun t ht hW => ⟨(1 : Int32), rfl, by simp only [f_M_addressCanBe, if_pos c1, if_neg c2, if_neg c3, if_neg c4, if_neg c6, if_neg c7, if_neg c8, if_neg c9, if_pos c10]; rfl, ht⟩) (fun q h => absurd h List.not_mem_nil) d_M_addressCanBe_138
                  · refine lv_aload_n hx hb d_M_addressCanBe_123 rfl (lv_at hl 0 rfl) ?_
                    refine va_get (D := D) (ci := 1) (v := .int mm) (C := "SignMachine$Machine") (T := F_M) (N := 14) hx hb hk fi_M hown hK.1 hP 0 rfl rfl 12 (by decide) (hk _ k_179) (fun _ h9 => h9) rfl d_M_addressCanBe_124 ?_
                    refine cs_i (W.runS (As := [.int mm]) (rest := []) ⟨hx, hb, hml, hown, hk⟩ (c_M_isAddress l mm) (s_M_isAddress hk k_262 ⟨Nat.le_of_ble_eq_true rfl, Nat.le_of_ble_eq_true rfl⟩) ⟨fun a U g mk q => q, fun U hU hW => ⟨rfl, trivial⟩⟩ rfl rfl hl.1 rfl (lv_room (Nat.le_of_ble_eq_true rfl)) d_M_addressCanBe_127 ⟨Nat.le_of_ble_eq_true rfl, Nat.le_of_ble_eq_true rfl⟩) ?_
                    refine lv_if_eq (tgt := 137) hx hb d_M_addressCanBe_130 (by decide) (fun c11 => ?_) (fun c11 => ?_)
                    · refine lv_iconst (v := 0) hx hb d_M_addressCanBe_137 (by decide) ?_
                      exact W.zret (v := (0 : Int32)) hx hb hr rfl (fun t ht hW => ⟨(0 : Int32), rfl, by simp only [f_M_addressCanBe, if_pos c1, if_neg c2, if_neg c3, if_neg c4, if_neg c6, if_neg c7, if_neg c8, if_neg c9, if_neg c10, if_pos c11]; rfl, ht⟩) (fun q h => absurd h List.not_mem_nil) d_M_addressCanBe_138
                    · refine lv_iconst (v := 1) hx hb d_M_addressCanBe_133 (by decide) ?_
                      refine lv_goto (tgt := 138) hx hb d_M_addressCanBe_134 (by decide) ?_
                      exact W.zret (v := (1 : Int32)) hx hb hr rfl (fun t ht hW => ⟨(1 : Int32), rfl, by simp only [f_M_addressCanBe, if_pos c1, if_neg c2, if_neg c3, if_neg c4, if_neg c6, if_neg c7, if_neg c8, if_neg c9, if_neg c10, if_neg c11]; rfl, ht⟩) (fun q h => absurd h List.not_mem_nil) d_M_addressCanBe_138
  · refine lv_aload_n hx hb d_M_addressCanBe_7 rfl (lv_at hl 0 rfl) ?_
    refine va_get (D := D) (ci := 1) (v := .int mm) (C := "SignMachine$Machine") (T := F_M) (N := 14) hx hb hk fi_M hown hK.1 hP 0 rfl rfl 12 (by decide) (hk _ k_179) (fun _ h9 => h9) rfl d_M_addressCanBe_8 ?_
    refine cs_i (W.runS (As := [.int mm]) (rest := []) ⟨hx, hb, hml, hown, hk⟩ (c_M_isAddress l mm) (s_M_isAddress hk k_262 ⟨Nat.le_of_ble_eq_true rfl, Nat.le_of_ble_eq_true rfl⟩) ⟨fun a U g mk q => q, fun U hU hW => ⟨rfl, trivial⟩⟩ rfl rfl hl.1 rfl (lv_room (Nat.le_of_ble_eq_true rfl)) d_M_addressCanBe_11 ⟨Nat.le_of_ble_eq_true rfl, Nat.le_of_ble_eq_true rfl⟩) ?_
    exact W.zret (v := (bI (f_M_isAddress mm))) hx hb hr (nar_bI (f_M_isAddress mm)) (fun t ht hW => ⟨(bI (f_M_isAddress mm)), rfl, by simp only [f_M_addressCanBe, if_neg c1], ht⟩) (fun q h => absurd h List.not_mem_nil) d_M_addressCanBe_14
theorem v_M_addressCanBe {R : Room} {s : State} {args : Array Value} {own : String} {index : Nat} (hk : ∀ w ∈ tb, w.before args s = true) (hl : Cond.methodLink own index y_M_addressCanBe ∈ tb) (hR : 2 + 1 ≤ R.frames ∧ 8 + (1 + 11) + 41 ≤ R.locals) : CallW R s args own "SignMachine$Machine" index y_M_addressCanBe b_M_addressCanBe 1 (some .boolean) (.code y_M_addressCanBe b_M_addressCanBe 1 (some .boolean) :: tb) ({ frames := 2, cells := 0, slots := 0, locals := 41 }) 0 0 0 := mk_v 0 hk k_298 hl k_297 k_4 k_117 rfl rfl h_M_addressCanBe hR
def f_M_numberByAddress (cod : Int32) (fld : Int32) (mm : Int32) (reg : Nat → Int32)  : Int32 := (if fld = (0 : Int32) then ((f_W_number (f_M_register reg (cod &&& (7 : Int32)))) + mm) else (if fld = (1 : Int32) then ((f_W_number (f_M_register reg (cod &&& (7 : Int32)))) - mm) else (if fld = (2 : Int32) then mm else (-mm))))
set_option maxHeartbeats 4000000 in
set_option maxRecDepth 100000 in
theorem c_M_numberByAddress (l : Launch) (D : va_G) (cI cJ cZ cB : ClassId) (h0 h1 h2 h3 h4 : Nat) (tog : Int32) (ind : Int32) (tim : Int32) (nxt : Int32) (enD : Int32) (cod : Int32) (fld : Int32) (idx : Int32) (mm : Int32) (soz : Int32) (mem : Nat → Int32) (reg : Nat → Int32) (p1 : Int32) (w1 : Option Nat) (p2 : Int32) (w2 : Option Nat) (TL : va_W)  : Met l y_M_numberByAddress (.code y_M_numberByAddress b_M_numberByAddress 2 (some .int) :: tb) ({ frames := 1, cells := 0, slots := 0, locals := 21 }) (pR D cI cJ cZ cB (mW cI cJ cZ cB h0 h1 h2 h3 h4 tog ind tim nxt enD cod fld idx mm soz mem reg p1 w1 p2 w2 TL) [.ref h0]) (vp_Si (fun r => r = f_M_numberByAddress cod fld mm reg)) 0 0 (fun _ => False) := by
  refine Met.ofW (cc := b_M_numberByAddress) (maxL := 2) (ret := (some .int)) (by decide) rfl ?_
  intro p e s m args below meth c s₁ B hml hv
  obtain ⟨rfl, hK, hP⟩ := hv
  have hx := B.exec
  have hb := B.bytes
  have hr := B.returns
  have hts := atoms_spec (ws := .code y_M_numberByAddress b_M_numberByAddress 2 (some .int) :: tb) B.pre
  have hk : ∀ w ∈ tb, w.before [.ref h0].toArray s = true := fun w h => hts w (List.mem_cons_of_mem _ h)
  have hown : s.vm.findClass "SignMachine$Machine" = some m.cls := findClass_of_methodNamed B.named
  have hlocks := B.notSynchronized
  have hl := lv_entry ([.ref h0]) (n := 2) (Nat.le_of_ble_eq_true rfl)
  rw [lg_entry_eq]
  generalize (lg_sl ([.ref h0]) ++ List.replicate (2 - (lg_sl ([.ref h0])).length) Slot.unset).toArray = ls at hl ⊢
  have hl : lv_has ls 2 [(0, .ref h0)] := hl
  refine lv_aload_n hx hb d_M_numberByAddress_0 rfl (lv_at hl 0 rfl) ?_
  refine lv_aload_n hx hb d_M_numberByAddress_1 rfl (lv_at hl 0 rfl) ?_
  refine va_get (D := D) (ci := 1) (v := .int cod) (C := "SignMachine$Machine") (T := F_M) (N := 14) hx hb hk fi_M hown hK.1 hP 0 rfl rfl 9 (by decide) (hk _ k_176) (fun _ h9 => h9) rfl d_M_numberByAddress_2 ?_
  refine lv_bipush (v := 7) hx hb d_M_numberByAddress_5 (by decide) ?_
  refine lv_iand hx hb d_M_numberByAddress_7 ?_
  refine cs_i (W.runV (C := "SignMachine$Machine") (As := [.int (cod &&& (7 : Int32))]) (rest := []) ⟨hx, hb, hml, hown, hk⟩ (c_M_register l D cI cJ cZ cB h0 h1 h2 h3 h4 tog ind tim nxt enD cod fld idx mm soz mem reg p1 w1 p2 w2 TL (cod &&& (7 : Int32))) (v_M_register hk k_273 ⟨Nat.le_of_ble_eq_true rfl, Nat.le_of_ble_eq_true rfl⟩) (pR_v hK hP (ci := 1) (q0 := 0) rfl rfl rfl) rfl rfl hl.1 rfl (lv_room (Nat.le_of_ble_eq_true rfl)) d_M_numberByAddress_8 ⟨Nat.le_of_ble_eq_true rfl, Nat.le_of_ble_eq_true rfl⟩) ?_
  refine cs_i (W.runS (As := [.int (f_M_register reg (cod &&& (7 : Int32)))]) (rest := []) ⟨hx, hb, hml, hown, hk⟩ (c_W_number l (f_M_register reg (cod &&& (7 : Int32)))) (s_W_number hk k_277 ⟨Nat.le_of_ble_eq_true rfl, Nat.le_of_ble_eq_true rfl⟩) ⟨fun a U g mk q => q, fun U hU hW => ⟨rfl, trivial⟩⟩ rfl rfl hl.1 rfl (lv_room (Nat.le_of_ble_eq_true rfl)) d_M_numberByAddress_11 ⟨Nat.le_of_ble_eq_true rfl, Nat.le_of_ble_eq_true rfl⟩) ?_
  refine lv_istore_n (lv' := [(1, .int (f_W_number (f_M_register reg (cod &&& (7 : Int32))))), (0, .ref h0)]) hx hb d_M_numberByAddress_14 rfl hl (by decide) rfl (fun ls hl => ?_)
  refine lv_aload_n hx hb d_M_numberByAddress_15 rfl (lv_at hl 1 rfl) ?_
  refine va_get (D := D) (ci := 1) (v := .int fld) (C := "SignMachine$Machine") (T := F_M) (N := 14) hx hb hk fi_M hown hK.1 hP 0 rfl rfl 10 (by decide) (hk _ k_177) (fun _ h9 => h9) rfl d_M_numberByAddress_16 ?_
  by_cases c1 : fld = (0 : Int32)
  · refine lv_tableIn (off := 25) (tgt := 44) hx hb d_M_numberByAddress_19 (by rw [c1]; decide) (by rw [c1]; decide) (by rw [c1]; rfl) (by decide) ?_
    refine lv_iload_n hx hb d_M_numberByAddress_44 rfl (lv_at hl 0 rfl) ?_
    refine lv_aload_n hx hb d_M_numberByAddress_45 rfl (lv_at hl 1 rfl) ?_
    refine va_get (D := D) (ci := 1) (v := .int mm) (C := "SignMachine$Machine") (T := F_M) (N := 14) hx hb hk fi_M hown hK.1 hP 0 rfl rfl 12 (by decide) (hk _ k_179) (fun _ h9 => h9) rfl d_M_numberByAddress_46 ?_
    refine lv_iadd hx hb d_M_numberByAddress_49 ?_
    exact W.iret (v := ((f_W_number (f_M_register reg (cod &&& (7 : Int32)))) + mm)) hx hb hr (fun t ht hW => ⟨((f_W_number (f_M_register reg (cod &&& (7 : Int32)))) + mm), rfl, by simp only [f_M_numberByAddress, if_pos c1], ht⟩) (fun q h => absurd h List.not_mem_nil) d_M_numberByAddress_50
  · by_cases c2 : fld = (1 : Int32)
    · refine lv_tableIn (off := 32) (tgt := 51) hx hb d_M_numberByAddress_19 (by rw [c2]; decide) (by rw [c2]; decide) (by rw [c2]; rfl) (by decide) ?_
      refine lv_iload_n hx hb d_M_numberByAddress_51 rfl (lv_at hl 0 rfl) ?_
      refine lv_aload_n hx hb d_M_numberByAddress_52 rfl (lv_at hl 1 rfl) ?_
      refine va_get (D := D) (ci := 1) (v := .int mm) (C := "SignMachine$Machine") (T := F_M) (N := 14) hx hb hk fi_M hown hK.1 hP 0 rfl rfl 12 (by decide) (hk _ k_179) (fun _ h9 => h9) rfl d_M_numberByAddress_53 ?_
      refine lv_isub hx hb d_M_numberByAddress_56 ?_
      exact W.iret (v := ((f_W_number (f_M_register reg (cod &&& (7 : Int32)))) - mm)) hx hb hr (fun t ht hW => ⟨((f_W_number (f_M_register reg (cod &&& (7 : Int32)))) - mm), rfl, by simp only [f_M_numberByAddress, if_neg c1, if_pos c2], ht⟩) (fun q h => absurd h List.not_mem_nil) d_M_numberByAddress_57
    · by_cases c3 : fld = (2 : Int32)
      · refine lv_tableIn (off := 39) (tgt := 58) hx hb d_M_numberByAddress_19 (by rw [c3]; decide) (by rw [c3]; decide) (by rw [c3]; rfl) (by decide) ?_
        refine lv_aload_n hx hb d_M_numberByAddress_58 rfl (lv_at hl 1 rfl) ?_
        refine va_get (D := D) (ci := 1) (v := .int mm) (C := "SignMachine$Machine") (T := F_M) (N := 14) hx hb hk fi_M hown hK.1 hP 0 rfl rfl 12 (by decide) (hk _ k_179) (fun _ h9 => h9) rfl d_M_numberByAddress_59 ?_
        exact W.iret (v := mm) hx hb hr (fun t ht hW => ⟨mm, rfl, by simp only [f_M_numberByAddress, if_neg c1, if_neg c2, if_pos c3], ht⟩) (fun q h => absurd h List.not_mem_nil) d_M_numberByAddress_62
      · refine lv_tableOut (tgt := 63) hx hb d_M_numberByAddress_19 (by have e0 := lv_neT c1 (a := 0) rfl; have e1 := lv_neT c2 (a := 1) rfl; have e2 := lv_neT c3 (a := 2) rfl; omega) (by decide) ?_
        refine lv_aload_n hx hb d_M_numberByAddress_63 rfl (lv_at hl 1 rfl) ?_
        refine va_get (D := D) (ci := 1) (v := .int mm) (C := "SignMachine$Machine") (T := F_M) (N := 14) hx hb hk fi_M hown hK.1 hP 0 rfl rfl 12 (by decide) (hk _ k_179) (fun _ h9 => h9) rfl d_M_numberByAddress_64 ?_
        refine lv_ineg hx hb d_M_numberByAddress_67 ?_
        exact W.iret (v := (-mm)) hx hb hr (fun t ht hW => ⟨(-mm), rfl, by simp only [f_M_numberByAddress, if_neg c1, if_neg c2, if_neg c3], ht⟩) (fun q h => absurd h List.not_mem_nil) d_M_numberByAddress_68
theorem v_M_numberByAddress {R : Room} {s : State} {args : Array Value} {own : String} {index : Nat} (hk : ∀ w ∈ tb, w.before args s = true) (hl : Cond.methodLink own index y_M_numberByAddress ∈ tb) (hR : 1 + 1 ≤ R.frames ∧ 8 + (2 + 11) + 21 ≤ R.locals) : CallW R s args own "SignMachine$Machine" index y_M_numberByAddress b_M_numberByAddress 2 (some .int) (.code y_M_numberByAddress b_M_numberByAddress 2 (some .int) :: tb) ({ frames := 1, cells := 0, slots := 0, locals := 21 }) 0 0 0 := mk_v 0 hk k_329 hl k_328 k_8 k_117 rfl rfl h_M_numberByAddress hR
def f_M_indexCanBe (cod : Int32) (fld : Int32) (mm : Int32) (mem : Nat → Int32) (reg : Nat → Int32)  : Bool := (if (bI (f_M_isIndex (cod &&& (7 : Int32)))) = (0 : Int32) then true else (if (cod >>> ((3 : Int32) &&& (31 : Int32))) = (1 : Int32) then (if (4095 : Int32) < (f_W_size (f_M_value fld mm mem )) then false else true) else (if (cod >>> ((3 : Int32) &&& (31 : Int32))) = (2 : Int32) then (if (4095 : Int32) < (f_W_size (f_M_value fld mm mem )) then false else true) else (if (cod >>> ((3 : Int32) &&& (31 : Int32))) = (6 : Int32) then (if (4095 : Int32) < (if 0 ≤ (f_M_numberByAddress cod fld mm reg ) then (f_M_numberByAddress cod fld mm reg ) else 0 - (f_M_numberByAddress cod fld mm reg )) then false else true) else true))))
set_option maxHeartbeats 4000000 in
set_option maxRecDepth 100000 in
theorem c_M_indexCanBe (l : Launch) (D : va_G) (cI cJ cZ cB : ClassId) (h0 h1 h2 h3 h4 : Nat) (tog : Int32) (ind : Int32) (tim : Int32) (nxt : Int32) (enD : Int32) (cod : Int32) (fld : Int32) (idx : Int32) (mm : Int32) (soz : Int32) (mem : Nat → Int32) (reg : Nat → Int32) (p1 : Int32) (w1 : Option Nat) (p2 : Int32) (w2 : Option Nat) (TL : va_W)  : Met l y_M_indexCanBe (.code y_M_indexCanBe b_M_indexCanBe 1 (some .boolean) :: tb) ({ frames := 3, cells := 0, slots := 0, locals := 65 }) (pR D cI cJ cZ cB (mW cI cJ cZ cB h0 h1 h2 h3 h4 tog ind tim nxt enD cod fld idx mm soz mem reg p1 w1 p2 w2 TL) [.ref h0]) (vp_Si (fun r => r = bI (f_M_indexCanBe cod fld mm mem reg))) 0 0 (fun _ => False) := by
  refine Met.ofW (cc := b_M_indexCanBe) (maxL := 1) (ret := (some .boolean)) (by decide) rfl ?_
  intro p e s m args below meth c s₁ B hml hv
  obtain ⟨rfl, hK, hP⟩ := hv
  have hx := B.exec
  have hb := B.bytes
  have hr := B.returns
  have hts := atoms_spec (ws := .code y_M_indexCanBe b_M_indexCanBe 1 (some .boolean) :: tb) B.pre
  have hk : ∀ w ∈ tb, w.before [.ref h0].toArray s = true := fun w h => hts w (List.mem_cons_of_mem _ h)
  have hown : s.vm.findClass "SignMachine$Machine" = some m.cls := findClass_of_methodNamed B.named
  have hlocks := B.notSynchronized
  have hl := lv_entry ([.ref h0]) (n := 1) (Nat.le_of_ble_eq_true rfl)
  rw [lg_entry_eq]
  generalize (lg_sl ([.ref h0]) ++ List.replicate (1 - (lg_sl ([.ref h0])).length) Slot.unset).toArray = ls at hl ⊢
  have hl : lv_has ls 1 [(0, .ref h0)] := hl
  refine lv_aload_n hx hb d_M_indexCanBe_0 rfl (lv_at hl 0 rfl) ?_
  refine va_get (D := D) (ci := 1) (v := .int cod) (C := "SignMachine$Machine") (T := F_M) (N := 14) hx hb hk fi_M hown hK.1 hP 0 rfl rfl 9 (by decide) (hk _ k_176) (fun _ h9 => h9) rfl d_M_indexCanBe_1 ?_
  refine lv_bipush (v := 7) hx hb d_M_indexCanBe_4 (by decide) ?_
  refine lv_iand hx hb d_M_indexCanBe_6 ?_
  refine cs_i (W.runS (As := [.int (cod &&& (7 : Int32))]) (rest := []) ⟨hx, hb, hml, hown, hk⟩ (c_M_isIndex l (cod &&& (7 : Int32))) (s_M_isIndex hk k_270 ⟨Nat.le_of_ble_eq_true rfl, Nat.le_of_ble_eq_true rfl⟩) ⟨fun a U g mk q => q, fun U hU hW => ⟨rfl, trivial⟩⟩ rfl rfl hl.1 rfl (lv_room (Nat.le_of_ble_eq_true rfl)) d_M_indexCanBe_7 ⟨Nat.le_of_ble_eq_true rfl, Nat.le_of_ble_eq_true rfl⟩) ?_
  refine lv_if_ne (tgt := 15) hx hb d_M_indexCanBe_10 (by decide) (fun c1 => ?_) (fun c1 => ?_)
  · refine lv_aload_n hx hb d_M_indexCanBe_15 rfl (lv_at hl 0 rfl) ?_
    refine va_get (D := D) (ci := 1) (v := .int cod) (C := "SignMachine$Machine") (T := F_M) (N := 14) hx hb hk fi_M hown hK.1 hP 0 rfl rfl 9 (by decide) (hk _ k_176) (fun _ h9 => h9) rfl d_M_indexCanBe_16 ?_
    refine lv_iconst (v := 3) hx hb d_M_indexCanBe_19 (by decide) ?_
    refine lv_ishr hx hb d_M_indexCanBe_20 ?_
    by_cases c2 : (cod >>> ((3 : Int32) &&& (31 : Int32))) = (1 : Int32)
    · refine lv_lookup (off := 35) (tgt := 56) hx hb d_M_indexCanBe_21 (by decide) (by rw [c2]; rfl) (by decide) ?_
      refine lv_aload_n hx hb d_M_indexCanBe_56 rfl (lv_at hl 0 rfl) ?_
      refine cs_i (W.runV (C := "SignMachine$Machine") (As := []) (rest := []) ⟨hx, hb, hml, hown, hk⟩ (c_M_value l D cI cJ cZ cB h0 h1 h2 h3 h4 tog ind tim nxt enD cod fld idx mm soz mem reg p1 w1 p2 w2 TL ) (v_M_value hk k_310 ⟨Nat.le_of_ble_eq_true rfl, Nat.le_of_ble_eq_true rfl⟩) (pR_v hK hP (ci := 1) (q0 := 0) rfl rfl rfl) rfl rfl hl.1 rfl (lv_room (Nat.le_of_ble_eq_true rfl)) d_M_indexCanBe_57 ⟨Nat.le_of_ble_eq_true rfl, Nat.le_of_ble_eq_true rfl⟩) ?_
      refine cs_i (W.runS (As := [.int (f_M_value fld mm mem )]) (rest := []) ⟨hx, hb, hml, hown, hk⟩ (c_W_size l (f_M_value fld mm mem )) (s_W_size hk k_268 ⟨Nat.le_of_ble_eq_true rfl, Nat.le_of_ble_eq_true rfl⟩) ⟨fun a U g mk q => q, fun U hU hW => ⟨rfl, trivial⟩⟩ rfl rfl hl.1 rfl (lv_room (Nat.le_of_ble_eq_true rfl)) d_M_indexCanBe_60 ⟨Nat.le_of_ble_eq_true rfl, Nat.le_of_ble_eq_true rfl⟩) ?_
      refine lv_sipush (v := 4095) hx hb d_M_indexCanBe_63 (by decide) ?_
      refine lv_icmp_gt (tgt := 73) hx hb d_M_indexCanBe_66 (by decide) (fun c3 => ?_) (fun c3 => ?_)
      · refine lv_iconst (v := 0) hx hb d_M_indexCanBe_73 (by decide) ?_
        exact W.zret (v := (0 : Int32)) hx hb hr rfl (fun t ht hW => ⟨(0 : Int32), rfl, by simp only [f_M_indexCanBe, if_neg c1, if_pos c2, if_pos c3]; rfl, ht⟩) (fun q h => absurd h List.not_mem_nil) d_M_indexCanBe_74
      · refine lv_iconst (v := 1) hx hb d_M_indexCanBe_69 (by decide) ?_
        refine lv_goto (tgt := 74) hx hb d_M_indexCanBe_70 (by decide) ?_
        exact W.zret (v := (1 : Int32)) hx hb hr rfl (fun t ht hW => ⟨(1 : Int32), rfl, by simp only [f_M_indexCanBe, if_neg c1, if_pos c2, if_neg c3]; rfl, ht⟩) (fun q h => absurd h List.not_mem_nil) d_M_indexCanBe_74
    · by_cases c4 : (cod >>> ((3 : Int32) &&& (31 : Int32))) = (2 : Int32)
      · refine lv_lookup (off := 35) (tgt := 56) hx hb d_M_indexCanBe_21 (by decide) (by rw [c4]; rfl) (by decide) ?_
        refine lv_aload_n hx hb d_M_indexCanBe_56 rfl (lv_at hl 0 rfl) ?_
        refine cs_i (W.runV (C := "SignMachine$Machine") (As := []) (rest := []) ⟨hx, hb, hml, hown, hk⟩ (c_M_value l D cI cJ cZ cB h0 h1 h2 h3 h4 tog ind tim nxt enD cod fld idx mm soz mem reg p1 w1 p2 w2 TL ) (v_M_value hk k_310 ⟨Nat.le_of_ble_eq_true rfl, Nat.le_of_ble_eq_true rfl⟩) (pR_v hK hP (ci := 1) (q0 := 0) rfl rfl rfl) rfl rfl hl.1 rfl (lv_room (Nat.le_of_ble_eq_true rfl)) d_M_indexCanBe_57 ⟨Nat.le_of_ble_eq_true rfl, Nat.le_of_ble_eq_true rfl⟩) ?_
        refine cs_i (W.runS (As := [.int (f_M_value fld mm mem )]) (rest := []) ⟨hx, hb, hml, hown, hk⟩ (c_W_size l (f_M_value fld mm mem )) (s_W_size hk k_268 ⟨Nat.le_of_ble_eq_true rfl, Nat.le_of_ble_eq_true rfl⟩) ⟨fun a U g mk q => q, fun U hU hW => ⟨rfl, trivial⟩⟩ rfl rfl hl.1 rfl (lv_room (Nat.le_of_ble_eq_true rfl)) d_M_indexCanBe_60 ⟨Nat.le_of_ble_eq_true rfl, Nat.le_of_ble_eq_true rfl⟩) ?_
        refine lv_sipush (v := 4095) hx hb d_M_indexCanBe_63 (by decide) ?_
        refine lv_icmp_gt (tgt := 73) hx hb d_M_indexCanBe_66 (by decide) (fun c5 => ?_) (fun c5 => ?_)
        · refine lv_iconst (v := 0) hx hb d_M_indexCanBe_73 (by decide) ?_
          exact W.zret (v := (0 : Int32)) hx hb hr rfl (fun t ht hW => ⟨(0 : Int32), rfl, by simp only [f_M_indexCanBe, if_neg c1, if_neg c2, if_pos c4, if_pos c5]; rfl, ht⟩) (fun q h => absurd h List.not_mem_nil) d_M_indexCanBe_74
        · refine lv_iconst (v := 1) hx hb d_M_indexCanBe_69 (by decide) ?_
          refine lv_goto (tgt := 74) hx hb d_M_indexCanBe_70 (by decide) ?_
          exact W.zret (v := (1 : Int32)) hx hb hr rfl (fun t ht hW => ⟨(1 : Int32), rfl, by simp only [f_M_indexCanBe, if_neg c1, if_neg c2, if_pos c4, if_neg c5]; rfl, ht⟩) (fun q h => absurd h List.not_mem_nil) d_M_indexCanBe_74
      · by_cases c6 : (cod >>> ((3 : Int32) &&& (31 : Int32))) = (6 : Int32)
        · refine lv_lookup (off := 54) (tgt := 75) hx hb d_M_indexCanBe_21 (by decide) (by rw [c6]; rfl) (by decide) ?_
          refine lv_aload_n hx hb d_M_indexCanBe_75 rfl (lv_at hl 0 rfl) ?_
          refine cs_i (W.runV (C := "SignMachine$Machine") (As := []) (rest := []) ⟨hx, hb, hml, hown, hk⟩ (c_M_numberByAddress l D cI cJ cZ cB h0 h1 h2 h3 h4 tog ind tim nxt enD cod fld idx mm soz mem reg p1 w1 p2 w2 TL ) (v_M_numberByAddress hk k_326 ⟨Nat.le_of_ble_eq_true rfl, Nat.le_of_ble_eq_true rfl⟩) (pR_v hK hP (ci := 1) (q0 := 0) rfl rfl rfl) rfl rfl hl.1 rfl (lv_room (Nat.le_of_ble_eq_true rfl)) d_M_indexCanBe_76 ⟨Nat.le_of_ble_eq_true rfl, Nat.le_of_ble_eq_true rfl⟩) ?_
          refine va_mabs hx hb (hml.trans hl.1.symm) hown (hk _ k_330) (hk _ k_331) (hk _ k_121) (hk _ k_absc) (Nat.le_of_ble_eq_true rfl) (Nat.le_of_ble_eq_true rfl) (Nat.zero_le _) (Nat.zero_le _) d_M_indexCanBe_79 ?_
          refine lv_sipush (v := 4095) hx hb d_M_indexCanBe_82 (by decide) ?_
          refine lv_icmp_gt (tgt := 92) hx hb d_M_indexCanBe_85 (by decide) (fun c7 => ?_) (fun c7 => ?_)
          · refine lv_iconst (v := 0) hx hb d_M_indexCanBe_92 (by decide) ?_
            exact W.zret (v := (0 : Int32)) hx hb hr rfl (fun t ht hW => ⟨(0 : Int32), rfl, by simp only [f_M_indexCanBe, if_neg c1, if_neg c2, if_neg c4, if_pos c6, if_pos c7]; rfl, ht⟩) (fun q h => absurd h List.not_mem_nil) d_M_indexCanBe_93
          · refine lv_iconst (v := 1) hx hb d_M_indexCanBe_88 (by decide) ?_
            refine lv_goto (tgt := 93) hx hb d_M_indexCanBe_89 (by decide) ?_
            exact W.zret (v := (1 : Int32)) hx hb hr rfl (fun t ht hW => ⟨(1 : Int32), rfl, by simp only [f_M_indexCanBe, if_neg c1, if_neg c2, if_neg c4, if_pos c6, if_neg c7]; rfl, ht⟩) (fun q h => absurd h List.not_mem_nil) d_M_indexCanBe_93
        · refine lv_lookup (off := 73) (tgt := 94) hx hb d_M_indexCanBe_21 (by decide) (by show Op.lookupswitch.offset [(1, 35), (2, 35), (6, 54)] 73 _ = _; rw [lv_osw c2 (a := 1) rfl, lv_osw c4 (a := 2) rfl, lv_osw c6 (a := 6) rfl]; rfl) (by decide) ?_
          refine lv_iconst (v := 1) hx hb d_M_indexCanBe_94 (by decide) ?_
          exact W.zret (v := (1 : Int32)) hx hb hr rfl (fun t ht hW => ⟨(1 : Int32), rfl, by simp only [f_M_indexCanBe, if_neg c1, if_neg c2, if_neg c4, if_neg c6]; rfl, ht⟩) (fun q h => absurd h List.not_mem_nil) d_M_indexCanBe_95
  · refine lv_iconst (v := 1) hx hb d_M_indexCanBe_13 (by decide) ?_
    exact W.zret (v := (1 : Int32)) hx hb hr rfl (fun t ht hW => ⟨(1 : Int32), rfl, by simp only [f_M_indexCanBe, if_pos c1]; rfl, ht⟩) (fun q h => absurd h List.not_mem_nil) d_M_indexCanBe_14
theorem v_M_indexCanBe {R : Room} {s : State} {args : Array Value} {own : String} {index : Nat} (hk : ∀ w ∈ tb, w.before args s = true) (hl : Cond.methodLink own index y_M_indexCanBe ∈ tb) (hR : 3 + 1 ≤ R.frames ∧ 8 + (1 + 11) + 65 ≤ R.locals) : CallW R s args own "SignMachine$Machine" index y_M_indexCanBe b_M_indexCanBe 1 (some .boolean) (.code y_M_indexCanBe b_M_indexCanBe 1 (some .boolean) :: tb) ({ frames := 3, cells := 0, slots := 0, locals := 65 }) 0 0 0 := mk_v 0 hk k_309 hl k_308 k_6 k_117 rfl rfl h_M_indexCanBe hR
def f_M_duration (cod : Int32) (fld : Int32)  : Int32 := (if (bI (f_M_hasFieldOfWord cod )) = (0 : Int32) then (if cod = (5 : Int32) then (10 : Int32) else (if cod = (6 : Int32) then (2 : Int32) else (if cod = (7 : Int32) then ((1 : Int32) + ((2 : Int32) * fld)) else (1 : Int32)))) else (if cod = (3 : Int32) then (10 : Int32) else (if cod = (4 : Int32) then (12 : Int32) else (2 : Int32))))
set_option maxHeartbeats 4000000 in
set_option maxRecDepth 100000 in
theorem c_M_duration (l : Launch) (D : va_G) (cI cJ cZ cB : ClassId) (h0 h1 h2 h3 h4 : Nat) (tog : Int32) (ind : Int32) (tim : Int32) (nxt : Int32) (enD : Int32) (cod : Int32) (fld : Int32) (idx : Int32) (mm : Int32) (soz : Int32) (mem : Nat → Int32) (reg : Nat → Int32) (p1 : Int32) (w1 : Option Nat) (p2 : Int32) (w2 : Option Nat) (TL : va_W)  : Met l y_M_duration (.code y_M_duration b_M_duration 1 (some .int) :: tb) ({ frames := 1, cells := 0, slots := 0, locals := 20 }) (pR D cI cJ cZ cB (mW cI cJ cZ cB h0 h1 h2 h3 h4 tog ind tim nxt enD cod fld idx mm soz mem reg p1 w1 p2 w2 TL) [.ref h0]) (vp_Si (fun r => r = f_M_duration cod fld)) 0 0 (fun _ => False) := by
  refine Met.ofW (cc := b_M_duration) (maxL := 1) (ret := (some .int)) (by decide) rfl ?_
  intro p e s m args below meth c s₁ B hml hv
  obtain ⟨rfl, hK, hP⟩ := hv
  have hx := B.exec
  have hb := B.bytes
  have hr := B.returns
  have hts := atoms_spec (ws := .code y_M_duration b_M_duration 1 (some .int) :: tb) B.pre
  have hk : ∀ w ∈ tb, w.before [.ref h0].toArray s = true := fun w h => hts w (List.mem_cons_of_mem _ h)
  have hown : s.vm.findClass "SignMachine$Machine" = some m.cls := findClass_of_methodNamed B.named
  have hlocks := B.notSynchronized
  have hl := lv_entry ([.ref h0]) (n := 1) (Nat.le_of_ble_eq_true rfl)
  rw [lg_entry_eq]
  generalize (lg_sl ([.ref h0]) ++ List.replicate (1 - (lg_sl ([.ref h0])).length) Slot.unset).toArray = ls at hl ⊢
  have hl : lv_has ls 1 [(0, .ref h0)] := hl
  refine lv_aload_n hx hb d_M_duration_0 rfl (lv_at hl 0 rfl) ?_
  refine cs_i (W.runV (C := "SignMachine$Machine") (As := []) (rest := []) ⟨hx, hb, hml, hown, hk⟩ (c_M_hasFieldOfWord l D cI cJ cZ cB h0 h1 h2 h3 h4 tog ind tim nxt enD cod fld idx mm soz mem reg p1 w1 p2 w2 TL ) (v_M_hasFieldOfWord hk k_288 ⟨Nat.le_of_ble_eq_true rfl, Nat.le_of_ble_eq_true rfl⟩) (pR_v hK hP (ci := 1) (q0 := 0) rfl rfl rfl) rfl rfl hl.1 rfl (lv_room (Nat.le_of_ble_eq_true rfl)) d_M_duration_1 ⟨Nat.le_of_ble_eq_true rfl, Nat.le_of_ble_eq_true rfl⟩) ?_
  refine lv_if_eq (tgt := 35) hx hb d_M_duration_4 (by decide) (fun c1 => ?_) (fun c1 => ?_)
  · refine lv_aload_n hx hb d_M_duration_35 rfl (lv_at hl 0 rfl) ?_
    refine va_get (D := D) (ci := 1) (v := .int cod) (C := "SignMachine$Machine") (T := F_M) (N := 14) hx hb hk fi_M hown hK.1 hP 0 rfl rfl 9 (by decide) (hk _ k_176) (fun _ h9 => h9) rfl d_M_duration_36 ?_
    by_cases c2 : cod = (5 : Int32)
    · refine lv_tableIn (off := 25) (tgt := 64) hx hb d_M_duration_39 (by rw [c2]; decide) (by rw [c2]; decide) (by rw [c2]; rfl) (by decide) ?_
      refine lv_bipush (v := 10) hx hb d_M_duration_64 (by decide) ?_
      exact W.iret (v := (10 : Int32)) hx hb hr (fun t ht hW => ⟨(10 : Int32), rfl, by simp only [f_M_duration, if_pos c1, if_pos c2], ht⟩) (fun q h => absurd h List.not_mem_nil) d_M_duration_66
    · by_cases c3 : cod = (6 : Int32)
      · refine lv_tableIn (off := 28) (tgt := 67) hx hb d_M_duration_39 (by rw [c3]; decide) (by rw [c3]; decide) (by rw [c3]; rfl) (by decide) ?_
        refine lv_iconst (v := 2) hx hb d_M_duration_67 (by decide) ?_
        exact W.iret (v := (2 : Int32)) hx hb hr (fun t ht hW => ⟨(2 : Int32), rfl, by simp only [f_M_duration, if_pos c1, if_neg c2, if_pos c3], ht⟩) (fun q h => absurd h List.not_mem_nil) d_M_duration_68
      · by_cases c4 : cod = (7 : Int32)
        · refine lv_tableIn (off := 30) (tgt := 69) hx hb d_M_duration_39 (by rw [c4]; decide) (by rw [c4]; decide) (by rw [c4]; rfl) (by decide) ?_
          refine lv_iconst (v := 1) hx hb d_M_duration_69 (by decide) ?_
          refine lv_iconst (v := 2) hx hb d_M_duration_70 (by decide) ?_
          refine lv_aload_n hx hb d_M_duration_71 rfl (lv_at hl 0 rfl) ?_
          refine va_get (D := D) (ci := 1) (v := .int fld) (C := "SignMachine$Machine") (T := F_M) (N := 14) hx hb hk fi_M hown hK.1 hP 0 rfl rfl 10 (by decide) (hk _ k_177) (fun _ h9 => h9) rfl d_M_duration_72 ?_
          refine lv_imul hx hb d_M_duration_75 ?_
          refine lv_iadd hx hb d_M_duration_76 ?_
          exact W.iret (v := ((1 : Int32) + ((2 : Int32) * fld))) hx hb hr (fun t ht hW => ⟨((1 : Int32) + ((2 : Int32) * fld)), rfl, by simp only [f_M_duration, if_pos c1, if_neg c2, if_neg c3, if_pos c4], ht⟩) (fun q h => absurd h List.not_mem_nil) d_M_duration_77
        · refine lv_tableOut (tgt := 78) hx hb d_M_duration_39 (by have e0 := lv_neT c2 (a := 5) rfl; have e1 := lv_neT c3 (a := 6) rfl; have e2 := lv_neT c4 (a := 7) rfl; omega) (by decide) ?_
          refine lv_iconst (v := 1) hx hb d_M_duration_78 (by decide) ?_
          exact W.iret (v := (1 : Int32)) hx hb hr (fun t ht hW => ⟨(1 : Int32), rfl, by simp only [f_M_duration, if_pos c1, if_neg c2, if_neg c3, if_neg c4], ht⟩) (fun q h => absurd h List.not_mem_nil) d_M_duration_79
  · refine lv_aload_n hx hb d_M_duration_7 rfl (lv_at hl 0 rfl) ?_
    refine va_get (D := D) (ci := 1) (v := .int cod) (C := "SignMachine$Machine") (T := F_M) (N := 14) hx hb hk fi_M hown hK.1 hP 0 rfl rfl 9 (by decide) (hk _ k_176) (fun _ h9 => h9) rfl d_M_duration_8 ?_
    refine lv_iconst (v := 3) hx hb d_M_duration_11 (by decide) ?_
    refine lv_icmp_ne (tgt := 20) hx hb d_M_duration_12 (by decide) (fun c5 => ?_) (fun c5 => ?_)
    · refine lv_aload_n hx hb d_M_duration_20 rfl (lv_at hl 0 rfl) ?_
      refine va_get (D := D) (ci := 1) (v := .int cod) (C := "SignMachine$Machine") (T := F_M) (N := 14) hx hb hk fi_M hown hK.1 hP 0 rfl rfl 9 (by decide) (hk _ k_176) (fun _ h9 => h9) rfl d_M_duration_21 ?_
      refine lv_iconst (v := 4) hx hb d_M_duration_24 (by decide) ?_
      refine lv_icmp_ne (tgt := 33) hx hb d_M_duration_25 (by decide) (fun c6 => ?_) (fun c6 => ?_)
      · refine lv_iconst (v := 2) hx hb d_M_duration_33 (by decide) ?_
        exact W.iret (v := (2 : Int32)) hx hb hr (fun t ht hW => ⟨(2 : Int32), rfl, by simp only [f_M_duration, if_neg c1, if_neg c5, if_neg c6], ht⟩) (fun q h => absurd h List.not_mem_nil) d_M_duration_34
      · refine lv_bipush (v := 12) hx hb d_M_duration_28 (by decide) ?_
        refine lv_goto (tgt := 34) hx hb d_M_duration_30 (by decide) ?_
        exact W.iret (v := (12 : Int32)) hx hb hr (fun t ht hW => ⟨(12 : Int32), rfl, by simp only [f_M_duration, if_neg c1, if_neg c5, if_pos c6], ht⟩) (fun q h => absurd h List.not_mem_nil) d_M_duration_34
    · refine lv_bipush (v := 10) hx hb d_M_duration_15 (by decide) ?_
      refine lv_goto (tgt := 34) hx hb d_M_duration_17 (by decide) ?_
      exact W.iret (v := (10 : Int32)) hx hb hr (fun t ht hW => ⟨(10 : Int32), rfl, by simp only [f_M_duration, if_neg c1, if_pos c5], ht⟩) (fun q h => absurd h List.not_mem_nil) d_M_duration_34
theorem v_M_duration {R : Room} {s : State} {args : Array Value} {own : String} {index : Nat} (hk : ∀ w ∈ tb, w.before args s = true) (hl : Cond.methodLink own index y_M_duration ∈ tb) (hR : 1 + 1 ≤ R.frames ∧ 8 + (1 + 11) + 20 ≤ R.locals) : CallW R s args own "SignMachine$Machine" index y_M_duration b_M_duration 1 (some .int) (.code y_M_duration b_M_duration 1 (some .int) :: tb) ({ frames := 1, cells := 0, slots := 0, locals := 20 }) 0 0 0 := mk_v 0 hk k_344 hl k_343 k_10 k_117 rfl rfl h_M_duration hR
def f_M_addTo (tog : Int32) (reg : Nat → Int32) (a1 : Int32) (a2 : Int32) : (Int32) × (Nat → Int32) := (if (if 0 ≤ ((f_W_number (f_M_register reg a1)) + a2) then ((f_W_number (f_M_register reg a1)) + a2) else 0 - ((f_W_number (f_M_register reg a1)) + a2)) ≤ (1073741823 : Int32) then (match (f_M_putRegister reg a1 (f_W_of ((f_W_number (f_M_register reg a1)) + a2) (f_W_sign (f_M_register reg a1)))) with | (regz2) => (tog, regz2)) else (if ((f_W_number (f_M_register reg a1)) + a2) ≤ (0 : Int32) then (match (f_M_putRegister reg a1 (f_W_of (((f_W_number (f_M_register reg a1)) + a2) + (1073741824 : Int32)) (f_W_sign (f_M_register reg a1)))) with | (regz4) => ((1 : Int32), regz4)) else (match (f_M_putRegister reg a1 (f_W_of (((f_W_number (f_M_register reg a1)) + a2) - (1073741824 : Int32)) (f_W_sign (f_M_register reg a1)))) with | (regz5) => ((1 : Int32), regz5))))
set_option maxHeartbeats 4000000 in
set_option maxRecDepth 100000 in
theorem c_M_addTo (l : Launch) (D : va_G) (cI cJ cZ cB : ClassId) (h0 h1 h2 h3 h4 : Nat) (sz : Nat) (tog : Int32) (ind : Int32) (tim : Int32) (nxt : Int32) (enD : Int32) (cod : Int32) (fld : Int32) (idx : Int32) (mm : Int32) (soz : Int32) (mem : Nat → Int32) (reg : Nat → Int32) (p1 : Int32) (w1 : Option Nat) (p2 : Int32) (w2 : Option Nat) (TL : va_W) (a1 : Int32) (a2 : Int32) : Met l y_M_addTo (.code y_M_addTo b_M_addTo 5 none :: tb) ({ frames := 2, cells := 0, slots := 0, locals := 42 }) (pM D cI cJ cZ cB (mW cI cJ cZ cB h0 h1 h2 h3 h4 tog ind tim nxt enD cod fld idx mm soz mem reg p1 w1 p2 w2 TL) sz [.ref h0, .int a1, .int a2]) (qV D (fun u => u = f_M_addTo tog reg a1 a2) (fun (u : (Int32) × (Nat → Int32)) => match u with | (u_tog, u_reg) => (mW cI cJ cZ cB h0 h1 h2 h3 h4 u_tog ind tim nxt enD cod fld idx mm soz mem u_reg p1 w1 p2 w2 TL)) (va_A (mW cI cJ cZ cB h0 h1 h2 h3 h4 tog ind tim nxt enD cod fld idx mm soz mem reg p1 w1 p2 w2 TL) sz)) 0 0 (va_A (mW cI cJ cZ cB h0 h1 h2 h3 h4 tog ind tim nxt enD cod fld idx mm soz mem reg p1 w1 p2 w2 TL) sz) := by
  refine Met.ofW (cc := b_M_addTo) (maxL := 5) (ret := none) (by decide) rfl ?_
  intro p e s m args below meth c s₁ B hml hv
  obtain ⟨rfl, hsz, hK, hP, hD0⟩ := hv
  subst hsz
  have hD := hD0.self (sz := s.heap.size)
  generalize hAe : va_A (mW cI cJ cZ cB h0 h1 h2 h3 h4 tog ind tim nxt enD cod fld idx mm soz mem reg p1 w1 p2 w2 TL) s.heap.size = A at hD ⊢
  have hA : ∀ q : Nat, s.heap.size ≤ q → A q := fun q h => by rw [← hAe]; exact Or.inr h
  have hS : va_S A s.heap s.heap [] := va_S.rf
  have hx := B.exec
  have hb := B.bytes
  have hr := B.returns
  have hts := atoms_spec (ws := .code y_M_addTo b_M_addTo 5 none :: tb) B.pre
  have hk : ∀ w ∈ tb, w.before [.ref h0, .int a1, .int a2].toArray s = true := fun w h => hts w (List.mem_cons_of_mem _ h)
  have hown : s.vm.findClass "SignMachine$Machine" = some m.cls := findClass_of_methodNamed B.named
  have hlocks := B.notSynchronized
  have hl := lv_entry ([.ref h0, .int a1, .int a2]) (n := 5) (Nat.le_of_ble_eq_true rfl)
  rw [lg_entry_eq]
  generalize (lg_sl ([.ref h0, .int a1, .int a2]) ++ List.replicate (5 - (lg_sl ([.ref h0, .int a1, .int a2])).length) Slot.unset).toArray = ls at hl ⊢
  have hl : lv_has ls 5 [(0, .ref h0), (1, .int a1), (2, .int a2)] := hl
  refine lv_aload_n hx hb d_M_addTo_0 rfl (lv_at hl 0 rfl) ?_
  refine lv_iload_n hx hb d_M_addTo_1 rfl (lv_at hl 1 rfl) ?_
  refine cs_i (W.runV (C := "SignMachine$Machine") (As := [.int a1]) (rest := []) ⟨hx, hb, hml, hown, hk⟩ (c_M_register l D cI cJ cZ cB h0 h1 h2 h3 h4 tog ind tim nxt enD cod fld idx mm soz mem reg p1 w1 p2 w2 TL a1) (v_M_register hk k_273 ⟨Nat.le_of_ble_eq_true rfl, Nat.le_of_ble_eq_true rfl⟩) (pR_v hK hP (ci := 1) (q0 := 0) rfl rfl rfl) rfl rfl hl.1 rfl (lv_room (Nat.le_of_ble_eq_true rfl)) d_M_addTo_2 ⟨Nat.le_of_ble_eq_true rfl, Nat.le_of_ble_eq_true rfl⟩) ?_
  refine lv_istore_n (lv' := [(3, .int (f_M_register reg a1)), (0, .ref h0), (1, .int a1), (2, .int a2)]) hx hb d_M_addTo_5 rfl hl (by decide) rfl (fun ls hl => ?_)
  refine lv_iload_n hx hb d_M_addTo_6 rfl (lv_at hl 0 rfl) ?_
  refine cs_i (W.runS (As := [.int (f_M_register reg a1)]) (rest := []) ⟨hx, hb, hml, hown, hk⟩ (c_W_number l (f_M_register reg a1)) (s_W_number hk k_277 ⟨Nat.le_of_ble_eq_true rfl, Nat.le_of_ble_eq_true rfl⟩) ⟨fun a U g mk q => q, fun U hU hW => ⟨rfl, trivial⟩⟩ rfl rfl hl.1 rfl (lv_room (Nat.le_of_ble_eq_true rfl)) d_M_addTo_7 ⟨Nat.le_of_ble_eq_true rfl, Nat.le_of_ble_eq_true rfl⟩) ?_
  refine lv_iload_n hx hb d_M_addTo_10 rfl (lv_at hl 3 rfl) ?_
  refine lv_iadd hx hb d_M_addTo_11 ?_
  refine lv_istore (lv' := [(4, .int ((f_W_number (f_M_register reg a1)) + a2)), (3, .int (f_M_register reg a1)), (0, .ref h0), (1, .int a1), (2, .int a2)]) hx hb d_M_addTo_12 hl (by decide) rfl (fun ls hl => ?_)
  refine lv_iload hx hb d_M_addTo_14 (lv_at hl 0 rfl) ?_
  refine va_mabs hx hb (hml.trans hl.1.symm) hown (hk _ k_330) (hk _ k_331) (hk _ k_121) (hk _ k_absc) (Nat.le_of_ble_eq_true rfl) (Nat.le_of_ble_eq_true rfl) (Nat.zero_le _) (Nat.zero_le _) d_M_addTo_16 ?_
  refine lv_ldc (v := 1073741823) hx hb hown (hk _ k_345) d_M_addTo_19 ?_
  refine lv_icmp_le (tgt := 49) hx hb d_M_addTo_21 (by decide) (fun c1 => ?_) (fun c1 => ?_)
  · refine lv_aload_n hx hb d_M_addTo_49 rfl (lv_at hl 2 rfl) ?_
    refine lv_iload_n hx hb d_M_addTo_50 rfl (lv_at hl 3 rfl) ?_
    refine lv_iload hx hb d_M_addTo_51 (lv_at hl 0 rfl) ?_
    refine lv_iload_n hx hb d_M_addTo_53 rfl (lv_at hl 1 rfl) ?_
    refine cs_i (W.runS (As := [.int (f_M_register reg a1)]) (rest := [.int ((f_W_number (f_M_register reg a1)) + a2), .int a1, .ref h0]) ⟨hx, hb, hml, hown, hk⟩ (c_W_sign l (f_M_register reg a1)) (s_W_sign hk k_269 ⟨Nat.le_of_ble_eq_true rfl, Nat.le_of_ble_eq_true rfl⟩) ⟨fun a U g mk q => q, fun U hU hW => ⟨rfl, trivial⟩⟩ rfl rfl hl.1 rfl (lv_room (Nat.le_of_ble_eq_true rfl)) d_M_addTo_54 ⟨Nat.le_of_ble_eq_true rfl, Nat.le_of_ble_eq_true rfl⟩) ?_
    refine cs_i (W.runS (As := [.int ((f_W_number (f_M_register reg a1)) + a2), .int (f_W_sign (f_M_register reg a1))]) (rest := [.int a1, .ref h0]) ⟨hx, hb, hml, hown, hk⟩ (c_W_of l ((f_W_number (f_M_register reg a1)) + a2) (f_W_sign (f_M_register reg a1))) (s_W_of hk k_359 ⟨Nat.le_of_ble_eq_true rfl, Nat.le_of_ble_eq_true rfl⟩) ⟨fun a U g mk q => q, fun U hU hW => ⟨rfl, trivial⟩⟩ rfl rfl hl.1 rfl (lv_room (Nat.le_of_ble_eq_true rfl)) d_M_addTo_57 ⟨Nat.le_of_ble_eq_true rfl, Nat.le_of_ble_eq_true rfl⟩) ?_
    refine ca_v (va_runV (C := "SignMachine$Machine") (As := [.int a1, .int (f_W_of ((f_W_number (f_M_register reg a1)) + a2) (f_W_sign (f_M_register reg a1)))]) (rest := []) ⟨hx, hb, hml, hown, hk⟩ (c_M_putRegister l D cI cJ cZ cB h0 h1 h2 h3 h4 s.heap.size tog ind tim nxt enD cod fld idx mm soz mem reg p1 w1 p2 w2 TL a1 (f_W_of ((f_W_number (f_M_register reg a1)) + a2) (f_W_sign (f_M_register reg a1)))) (v_M_putRegister hk k_362 ⟨Nat.le_of_ble_eq_true rfl, Nat.le_of_ble_eq_true rfl⟩) (pM_v hK hP hD (ci := 1) (q0 := 0) rfl rfl rfl) rfl rfl hl.1 rfl (lv_room (Nat.le_of_ble_eq_true rfl)) d_M_addTo_60 ⟨Nat.le_of_ble_eq_true rfl, Nat.le_of_ble_eq_true rfl⟩) hS hA hD (fun u H locs hz2 hP hS => ?_)
    obtain ⟨regz2, hu⟩ : ∃ y, y = u := ⟨_, rfl⟩
    subst hu
    have hP : va_P D classes (mW cI cJ cZ cB h0 h1 h2 h3 h4 tog ind tim nxt enD cod fld idx mm soz mem regz2 p1 w1 p2 w2 TL) H := hP
    have hD : va_D A (mW cI cJ cZ cB h0 h1 h2 h3 h4 tog ind tim nxt enD cod fld idx mm soz mem regz2 p1 w1 p2 w2 TL) := dsame hD rfl
    try dsimp only at hz2
    exact W.vret hx hb hr (fun t ht hW => ⟨⟨(tog, regz2), rfl, by simp only [f_M_addTo, if_pos c1, ← hz2], by show va_P D classes _ t.heap; rw [ht]; exact hP⟩, hS.F ht⟩) hS.2.2 d_M_addTo_63
  · refine lv_aload_n hx hb d_M_addTo_24 rfl (lv_at hl 2 rfl) ?_
    refine lv_iconst (v := 1) hx hb d_M_addTo_25 (by decide) ?_
    refine va_put (D := D) (ci := 1) (v := .int (1 : Int32)) (ty := .boolean) (C := "SignMachine$Machine") (T := F_M) (N := 14) hx hb hk fi_M ft_M ft_M_ok fn_M hown hK.1 hP hD hS 0 rfl rfl 4 (by decide) (hk _ k_168) (fun _ h9 => h9) rfl (by decide +kernel) rfl rfl (Nat.le_of_ble_eq_true rfl) d_M_addTo_26 (fun H locs hP hD hS => ?_)
    have hP : va_P D classes (mW cI cJ cZ cB h0 h1 h2 h3 h4 (1 : Int32) ind tim nxt enD cod fld idx mm soz mem reg p1 w1 p2 w2 TL) H := hP
    have hD : va_D A (mW cI cJ cZ cB h0 h1 h2 h3 h4 (1 : Int32) ind tim nxt enD cod fld idx mm soz mem reg p1 w1 p2 w2 TL) := hD
    refine lv_iload hx hb d_M_addTo_29 (lv_at hl 0 rfl) ?_
    refine lv_if_le (tgt := 42) hx hb d_M_addTo_31 (by decide) (fun c3 => ?_) (fun c3 => ?_)
    · refine lv_iload hx hb d_M_addTo_42 (lv_at hl 0 rfl) ?_
      refine lv_ldc (v := 1073741824) hx hb hown (hk _ k_358) d_M_addTo_44 ?_
      refine lv_iadd hx hb d_M_addTo_46 ?_
      refine lv_istore (lv' := [(4, .int (((f_W_number (f_M_register reg a1)) + a2) + (1073741824 : Int32))), (3, .int (f_M_register reg a1)), (0, .ref h0), (1, .int a1), (2, .int a2)]) hx hb d_M_addTo_47 hl (by decide) rfl (fun ls hl => ?_)
      refine lv_aload_n hx hb d_M_addTo_49 rfl (lv_at hl 2 rfl) ?_
      refine lv_iload_n hx hb d_M_addTo_50 rfl (lv_at hl 3 rfl) ?_
      refine lv_iload hx hb d_M_addTo_51 (lv_at hl 0 rfl) ?_
      refine lv_iload_n hx hb d_M_addTo_53 rfl (lv_at hl 1 rfl) ?_
      refine cs_i (W.runS (As := [.int (f_M_register reg a1)]) (rest := [.int (((f_W_number (f_M_register reg a1)) + a2) + (1073741824 : Int32)), .int a1, .ref h0]) ⟨hx, hb, hml, hown, hk⟩ (c_W_sign l (f_M_register reg a1)) (s_W_sign hk k_269 ⟨Nat.le_of_ble_eq_true rfl, Nat.le_of_ble_eq_true rfl⟩) ⟨fun a U g mk q => q, fun U hU hW => ⟨rfl, trivial⟩⟩ rfl rfl hl.1 rfl (lv_room (Nat.le_of_ble_eq_true rfl)) d_M_addTo_54 ⟨Nat.le_of_ble_eq_true rfl, Nat.le_of_ble_eq_true rfl⟩) ?_
      refine cs_i (W.runS (As := [.int (((f_W_number (f_M_register reg a1)) + a2) + (1073741824 : Int32)), .int (f_W_sign (f_M_register reg a1))]) (rest := [.int a1, .ref h0]) ⟨hx, hb, hml, hown, hk⟩ (c_W_of l (((f_W_number (f_M_register reg a1)) + a2) + (1073741824 : Int32)) (f_W_sign (f_M_register reg a1))) (s_W_of hk k_359 ⟨Nat.le_of_ble_eq_true rfl, Nat.le_of_ble_eq_true rfl⟩) ⟨fun a U g mk q => q, fun U hU hW => ⟨rfl, trivial⟩⟩ rfl rfl hl.1 rfl (lv_room (Nat.le_of_ble_eq_true rfl)) d_M_addTo_57 ⟨Nat.le_of_ble_eq_true rfl, Nat.le_of_ble_eq_true rfl⟩) ?_
      refine ca_v (va_runV (C := "SignMachine$Machine") (As := [.int a1, .int (f_W_of (((f_W_number (f_M_register reg a1)) + a2) + (1073741824 : Int32)) (f_W_sign (f_M_register reg a1)))]) (rest := []) ⟨hx, hb, hml, hown, hk⟩ (c_M_putRegister l D cI cJ cZ cB h0 h1 h2 h3 h4 H.size (1 : Int32) ind tim nxt enD cod fld idx mm soz mem reg p1 w1 p2 w2 TL a1 (f_W_of (((f_W_number (f_M_register reg a1)) + a2) + (1073741824 : Int32)) (f_W_sign (f_M_register reg a1)))) (v_M_putRegister hk k_362 ⟨Nat.le_of_ble_eq_true rfl, Nat.le_of_ble_eq_true rfl⟩) (pM_v hK hP hD (ci := 1) (q0 := 0) rfl rfl rfl) rfl rfl hl.1 rfl (lv_room (Nat.le_of_ble_eq_true rfl)) d_M_addTo_60 ⟨Nat.le_of_ble_eq_true rfl, Nat.le_of_ble_eq_true rfl⟩) hS hA hD (fun u H locs hz4 hP hS => ?_)
      obtain ⟨regz4, hu⟩ : ∃ y, y = u := ⟨_, rfl⟩
      subst hu
      have hP : va_P D classes (mW cI cJ cZ cB h0 h1 h2 h3 h4 (1 : Int32) ind tim nxt enD cod fld idx mm soz mem regz4 p1 w1 p2 w2 TL) H := hP
      have hD : va_D A (mW cI cJ cZ cB h0 h1 h2 h3 h4 (1 : Int32) ind tim nxt enD cod fld idx mm soz mem regz4 p1 w1 p2 w2 TL) := dsame hD rfl
      try dsimp only at hz4
      exact W.vret hx hb hr (fun t ht hW => ⟨⟨((1 : Int32), regz4), rfl, by simp only [f_M_addTo, if_neg c1, if_pos c3, ← hz4], by show va_P D classes _ t.heap; rw [ht]; exact hP⟩, hS.F ht⟩) hS.2.2 d_M_addTo_63
    · refine lv_iload hx hb d_M_addTo_34 (lv_at hl 0 rfl) ?_
      refine lv_ldc (v := 1073741824) hx hb hown (hk _ k_358) d_M_addTo_36 ?_
      refine lv_isub hx hb d_M_addTo_38 ?_
      refine lv_goto (tgt := 47) hx hb d_M_addTo_39 (by decide) ?_
      refine lv_istore (lv' := [(4, .int (((f_W_number (f_M_register reg a1)) + a2) - (1073741824 : Int32))), (3, .int (f_M_register reg a1)), (0, .ref h0), (1, .int a1), (2, .int a2)]) hx hb d_M_addTo_47 hl (by decide) rfl (fun ls hl => ?_)
      refine lv_aload_n hx hb d_M_addTo_49 rfl (lv_at hl 2 rfl) ?_
      refine lv_iload_n hx hb d_M_addTo_50 rfl (lv_at hl 3 rfl) ?_
      refine lv_iload hx hb d_M_addTo_51 (lv_at hl 0 rfl) ?_
      refine lv_iload_n hx hb d_M_addTo_53 rfl (lv_at hl 1 rfl) ?_
      refine cs_i (W.runS (As := [.int (f_M_register reg a1)]) (rest := [.int (((f_W_number (f_M_register reg a1)) + a2) - (1073741824 : Int32)), .int a1, .ref h0]) ⟨hx, hb, hml, hown, hk⟩ (c_W_sign l (f_M_register reg a1)) (s_W_sign hk k_269 ⟨Nat.le_of_ble_eq_true rfl, Nat.le_of_ble_eq_true rfl⟩) ⟨fun a U g mk q => q, fun U hU hW => ⟨rfl, trivial⟩⟩ rfl rfl hl.1 rfl (lv_room (Nat.le_of_ble_eq_true rfl)) d_M_addTo_54 ⟨Nat.le_of_ble_eq_true rfl, Nat.le_of_ble_eq_true rfl⟩) ?_
      refine cs_i (W.runS (As := [.int (((f_W_number (f_M_register reg a1)) + a2) - (1073741824 : Int32)), .int (f_W_sign (f_M_register reg a1))]) (rest := [.int a1, .ref h0]) ⟨hx, hb, hml, hown, hk⟩ (c_W_of l (((f_W_number (f_M_register reg a1)) + a2) - (1073741824 : Int32)) (f_W_sign (f_M_register reg a1))) (s_W_of hk k_359 ⟨Nat.le_of_ble_eq_true rfl, Nat.le_of_ble_eq_true rfl⟩) ⟨fun a U g mk q => q, fun U hU hW => ⟨rfl, trivial⟩⟩ rfl rfl hl.1 rfl (lv_room (Nat.le_of_ble_eq_true rfl)) d_M_addTo_57 ⟨Nat.le_of_ble_eq_true rfl, Nat.le_of_ble_eq_true rfl⟩) ?_
      refine ca_v (va_runV (C := "SignMachine$Machine") (As := [.int a1, .int (f_W_of (((f_W_number (f_M_register reg a1)) + a2) - (1073741824 : Int32)) (f_W_sign (f_M_register reg a1)))]) (rest := []) ⟨hx, hb, hml, hown, hk⟩ (c_M_putRegister l D cI cJ cZ cB h0 h1 h2 h3 h4 H.size (1 : Int32) ind tim nxt enD cod fld idx mm soz mem reg p1 w1 p2 w2 TL a1 (f_W_of (((f_W_number (f_M_register reg a1)) + a2) - (1073741824 : Int32)) (f_W_sign (f_M_register reg a1)))) (v_M_putRegister hk k_362 ⟨Nat.le_of_ble_eq_true rfl, Nat.le_of_ble_eq_true rfl⟩) (pM_v hK hP hD (ci := 1) (q0 := 0) rfl rfl rfl) rfl rfl hl.1 rfl (lv_room (Nat.le_of_ble_eq_true rfl)) d_M_addTo_60 ⟨Nat.le_of_ble_eq_true rfl, Nat.le_of_ble_eq_true rfl⟩) hS hA hD (fun u H locs hz5 hP hS => ?_)
      obtain ⟨regz5, hu⟩ : ∃ y, y = u := ⟨_, rfl⟩
      subst hu
      have hP : va_P D classes (mW cI cJ cZ cB h0 h1 h2 h3 h4 (1 : Int32) ind tim nxt enD cod fld idx mm soz mem regz5 p1 w1 p2 w2 TL) H := hP
      have hD : va_D A (mW cI cJ cZ cB h0 h1 h2 h3 h4 (1 : Int32) ind tim nxt enD cod fld idx mm soz mem regz5 p1 w1 p2 w2 TL) := dsame hD rfl
      try dsimp only at hz5
      exact W.vret hx hb hr (fun t ht hW => ⟨⟨((1 : Int32), regz5), rfl, by simp only [f_M_addTo, if_neg c1, if_neg c3, ← hz5], by show va_P D classes _ t.heap; rw [ht]; exact hP⟩, hS.F ht⟩) hS.2.2 d_M_addTo_63
theorem v_M_addTo {R : Room} {s : State} {args : Array Value} {own : String} {index : Nat} (hk : ∀ w ∈ tb, w.before args s = true) (hl : Cond.methodLink own index y_M_addTo ∈ tb) (hR : 2 + 1 ≤ R.frames ∧ 8 + (5 + 11) + 42 ≤ R.locals) : CallW R s args own "SignMachine$Machine" index y_M_addTo b_M_addTo 5 none (.code y_M_addTo b_M_addTo 5 none :: tb) ({ frames := 2, cells := 0, slots := 0, locals := 42 }) 0 0 2 := mk_v 2 hk k_357 hl k_356 k_13 k_117 rfl rfl h_M_addTo hR
def f_M_sizeOfAX (reg : Nat → Int32)  : Int64 := ((((f_W_size (f_M_register reg (0 : Int32))) : Int32).toInt64 <<< (((30 : Int32) : Int32).toInt64 &&& 63)) ||| ((f_W_size (f_M_register reg (7 : Int32))) : Int32).toInt64)
set_option maxHeartbeats 4000000 in
set_option maxRecDepth 100000 in
theorem c_M_sizeOfAX (l : Launch) (D : va_G) (cI cJ cZ cB : ClassId) (h0 h1 h2 h3 h4 : Nat) (tog : Int32) (ind : Int32) (tim : Int32) (nxt : Int32) (enD : Int32) (cod : Int32) (fld : Int32) (idx : Int32) (mm : Int32) (soz : Int32) (mem : Nat → Int32) (reg : Nat → Int32) (p1 : Int32) (w1 : Option Nat) (p2 : Int32) (w2 : Option Nat) (TL : va_W)  : Met l y_M_sizeOfAX (.code y_M_sizeOfAX b_M_sizeOfAX 1 (some .long) :: tb) ({ frames := 1, cells := 0, slots := 0, locals := 21 }) (pR D cI cJ cZ cB (mW cI cJ cZ cB h0 h1 h2 h3 h4 tog ind tim nxt enD cod fld idx mm soz mem reg p1 w1 p2 w2 TL) [.ref h0]) (vp_Sl (fun r => r = f_M_sizeOfAX reg)) 0 0 (fun _ => False) := by
  refine Met.ofW (cc := b_M_sizeOfAX) (maxL := 1) (ret := (some .long)) (by decide) rfl ?_
  intro p e s m args below meth c s₁ B hml hv
  obtain ⟨rfl, hK, hP⟩ := hv
  have hx := B.exec
  have hb := B.bytes
  have hr := B.returns
  have hts := atoms_spec (ws := .code y_M_sizeOfAX b_M_sizeOfAX 1 (some .long) :: tb) B.pre
  have hk : ∀ w ∈ tb, w.before [.ref h0].toArray s = true := fun w h => hts w (List.mem_cons_of_mem _ h)
  have hown : s.vm.findClass "SignMachine$Machine" = some m.cls := findClass_of_methodNamed B.named
  have hlocks := B.notSynchronized
  have hl := lv_entry ([.ref h0]) (n := 1) (Nat.le_of_ble_eq_true rfl)
  rw [lg_entry_eq]
  generalize (lg_sl ([.ref h0]) ++ List.replicate (1 - (lg_sl ([.ref h0])).length) Slot.unset).toArray = ls at hl ⊢
  have hl : lv_has ls 1 [(0, .ref h0)] := hl
  refine lv_aload_n hx hb d_M_sizeOfAX_0 rfl (lv_at hl 0 rfl) ?_
  refine lv_iconst (v := 0) hx hb d_M_sizeOfAX_1 (by decide) ?_
  refine cs_i (W.runV (C := "SignMachine$Machine") (As := [.int (0 : Int32)]) (rest := []) ⟨hx, hb, hml, hown, hk⟩ (c_M_register l D cI cJ cZ cB h0 h1 h2 h3 h4 tog ind tim nxt enD cod fld idx mm soz mem reg p1 w1 p2 w2 TL (0 : Int32)) (v_M_register hk k_273 ⟨Nat.le_of_ble_eq_true rfl, Nat.le_of_ble_eq_true rfl⟩) (pR_v hK hP (ci := 1) (q0 := 0) rfl rfl rfl) rfl rfl hl.1 rfl (lv_room (Nat.le_of_ble_eq_true rfl)) d_M_sizeOfAX_2 ⟨Nat.le_of_ble_eq_true rfl, Nat.le_of_ble_eq_true rfl⟩) ?_
  refine cs_i (W.runS (As := [.int (f_M_register reg (0 : Int32))]) (rest := []) ⟨hx, hb, hml, hown, hk⟩ (c_W_size l (f_M_register reg (0 : Int32))) (s_W_size hk k_268 ⟨Nat.le_of_ble_eq_true rfl, Nat.le_of_ble_eq_true rfl⟩) ⟨fun a U g mk q => q, fun U hU hW => ⟨rfl, trivial⟩⟩ rfl rfl hl.1 rfl (lv_room (Nat.le_of_ble_eq_true rfl)) d_M_sizeOfAX_5 ⟨Nat.le_of_ble_eq_true rfl, Nat.le_of_ble_eq_true rfl⟩) ?_
  refine lv_i2l (v := ((f_W_size (f_M_register reg (0 : Int32))) : Int32).toInt64) hx hb d_M_sizeOfAX_8 rfl ?_
  refine lv_bipush (v := 30) hx hb d_M_sizeOfAX_9 (by decide) ?_
  refine lv_lshl (v := (((f_W_size (f_M_register reg (0 : Int32))) : Int32).toInt64 <<< (((30 : Int32) : Int32).toInt64 &&& 63))) hx hb d_M_sizeOfAX_11 rfl ?_
  refine lv_aload_n hx hb d_M_sizeOfAX_12 rfl (lv_at hl 0 rfl) ?_
  refine lv_bipush (v := 7) hx hb d_M_sizeOfAX_13 (by decide) ?_
  refine cs_i (W.runV (C := "SignMachine$Machine") (As := [.int (7 : Int32)]) (rest := [.long (((f_W_size (f_M_register reg (0 : Int32))) : Int32).toInt64 <<< (((30 : Int32) : Int32).toInt64 &&& 63))]) ⟨hx, hb, hml, hown, hk⟩ (c_M_register l D cI cJ cZ cB h0 h1 h2 h3 h4 tog ind tim nxt enD cod fld idx mm soz mem reg p1 w1 p2 w2 TL (7 : Int32)) (v_M_register hk k_273 ⟨Nat.le_of_ble_eq_true rfl, Nat.le_of_ble_eq_true rfl⟩) (pR_v hK hP (ci := 1) (q0 := 0) rfl rfl rfl) rfl rfl hl.1 rfl (lv_room (Nat.le_of_ble_eq_true rfl)) d_M_sizeOfAX_15 ⟨Nat.le_of_ble_eq_true rfl, Nat.le_of_ble_eq_true rfl⟩) ?_
  refine cs_i (W.runS (As := [.int (f_M_register reg (7 : Int32))]) (rest := [.long (((f_W_size (f_M_register reg (0 : Int32))) : Int32).toInt64 <<< (((30 : Int32) : Int32).toInt64 &&& 63))]) ⟨hx, hb, hml, hown, hk⟩ (c_W_size l (f_M_register reg (7 : Int32))) (s_W_size hk k_268 ⟨Nat.le_of_ble_eq_true rfl, Nat.le_of_ble_eq_true rfl⟩) ⟨fun a U g mk q => q, fun U hU hW => ⟨rfl, trivial⟩⟩ rfl rfl hl.1 rfl (lv_room (Nat.le_of_ble_eq_true rfl)) d_M_sizeOfAX_18 ⟨Nat.le_of_ble_eq_true rfl, Nat.le_of_ble_eq_true rfl⟩) ?_
  refine lv_i2l (v := ((f_W_size (f_M_register reg (7 : Int32))) : Int32).toInt64) hx hb d_M_sizeOfAX_21 rfl ?_
  refine lv_lor hx hb d_M_sizeOfAX_22 ?_
  exact W.lret (v := ((((f_W_size (f_M_register reg (0 : Int32))) : Int32).toInt64 <<< (((30 : Int32) : Int32).toInt64 &&& 63)) ||| ((f_W_size (f_M_register reg (7 : Int32))) : Int32).toInt64)) hx hb hr (fun t ht hW => ⟨((((f_W_size (f_M_register reg (0 : Int32))) : Int32).toInt64 <<< (((30 : Int32) : Int32).toInt64 &&& 63)) ||| ((f_W_size (f_M_register reg (7 : Int32))) : Int32).toInt64), rfl, by simp only [f_M_sizeOfAX], ht⟩) (fun q h => absurd h List.not_mem_nil) d_M_sizeOfAX_23
theorem v_M_sizeOfAX {R : Room} {s : State} {args : Array Value} {own : String} {index : Nat} (hk : ∀ w ∈ tb, w.before args s = true) (hl : Cond.methodLink own index y_M_sizeOfAX ∈ tb) (hR : 1 + 1 ≤ R.frames ∧ 8 + (1 + 11) + 21 ≤ R.locals) : CallW R s args own "SignMachine$Machine" index y_M_sizeOfAX b_M_sizeOfAX 1 (some .long) (.code y_M_sizeOfAX b_M_sizeOfAX 1 (some .long) :: tb) ({ frames := 1, cells := 0, slots := 0, locals := 21 }) 0 0 0 := mk_v 0 hk k_378 hl k_377 k_16 k_117 rfl rfl h_M_sizeOfAX hR
def f_M_putSizesOfAX (reg : Nat → Int32) (a1 : Int64) : (Nat → Int32) := (match (f_M_putRegister reg (0 : Int32) (f_W_make (f_W_sign (f_M_register reg (0 : Int32))) (((a1 >>> (((30 : Int32) : Int32).toInt64 &&& 63)) : Int64).toInt32 &&& (1073741823 : Int32)))) with | (regz1) => (match (f_M_putRegister regz1 (7 : Int32) (f_W_make (f_W_sign (f_M_register regz1 (7 : Int32))) ((a1 : Int64).toInt32 &&& (1073741823 : Int32)))) with | (regz2) => (regz2)))
set_option maxHeartbeats 4000000 in
set_option maxRecDepth 100000 in
theorem c_M_putSizesOfAX (l : Launch) (D : va_G) (cI cJ cZ cB : ClassId) (h0 h1 h2 h3 h4 : Nat) (sz : Nat) (tog : Int32) (ind : Int32) (tim : Int32) (nxt : Int32) (enD : Int32) (cod : Int32) (fld : Int32) (idx : Int32) (mm : Int32) (soz : Int32) (mem : Nat → Int32) (reg : Nat → Int32) (p1 : Int32) (w1 : Option Nat) (p2 : Int32) (w2 : Option Nat) (TL : va_W) (a1 : Int64) : Met l y_M_putSizesOfAX (.code y_M_putSizesOfAX b_M_putSizesOfAX 5 none :: tb) ({ frames := 1, cells := 0, slots := 0, locals := 22 }) (pM D cI cJ cZ cB (mW cI cJ cZ cB h0 h1 h2 h3 h4 tog ind tim nxt enD cod fld idx mm soz mem reg p1 w1 p2 w2 TL) sz [.ref h0, .long a1]) (qV D (fun u => u = f_M_putSizesOfAX reg a1) (fun (u : (Nat → Int32)) => match u with | u_reg => (mW cI cJ cZ cB h0 h1 h2 h3 h4 tog ind tim nxt enD cod fld idx mm soz mem u_reg p1 w1 p2 w2 TL)) (va_A (mW cI cJ cZ cB h0 h1 h2 h3 h4 tog ind tim nxt enD cod fld idx mm soz mem reg p1 w1 p2 w2 TL) sz)) 0 0 (va_A (mW cI cJ cZ cB h0 h1 h2 h3 h4 tog ind tim nxt enD cod fld idx mm soz mem reg p1 w1 p2 w2 TL) sz) := by
  refine Met.ofW (cc := b_M_putSizesOfAX) (maxL := 5) (ret := none) (by decide) rfl ?_
  intro p e s m args below meth c s₁ B hml hv
  obtain ⟨rfl, hsz, hK, hP, hD0⟩ := hv
  subst hsz
  have hD := hD0.self (sz := s.heap.size)
  generalize hAe : va_A (mW cI cJ cZ cB h0 h1 h2 h3 h4 tog ind tim nxt enD cod fld idx mm soz mem reg p1 w1 p2 w2 TL) s.heap.size = A at hD ⊢
  have hA : ∀ q : Nat, s.heap.size ≤ q → A q := fun q h => by rw [← hAe]; exact Or.inr h
  have hS : va_S A s.heap s.heap [] := va_S.rf
  have hx := B.exec
  have hb := B.bytes
  have hr := B.returns
  have hts := atoms_spec (ws := .code y_M_putSizesOfAX b_M_putSizesOfAX 5 none :: tb) B.pre
  have hk : ∀ w ∈ tb, w.before [.ref h0, .long a1].toArray s = true := fun w h => hts w (List.mem_cons_of_mem _ h)
  have hown : s.vm.findClass "SignMachine$Machine" = some m.cls := findClass_of_methodNamed B.named
  have hlocks := B.notSynchronized
  have hl := lv_entry ([.ref h0, .long a1]) (n := 5) (Nat.le_of_ble_eq_true rfl)
  rw [lg_entry_eq]
  generalize (lg_sl ([.ref h0, .long a1]) ++ List.replicate (5 - (lg_sl ([.ref h0, .long a1])).length) Slot.unset).toArray = ls at hl ⊢
  have hl : lv_has ls 5 [(0, .ref h0), (1, .long a1)] := hl
  refine lv_lload_n hx hb d_M_putSizesOfAX_0 rfl (lv_at hl 1 rfl) ?_
  refine lv_bipush (v := 30) hx hb d_M_putSizesOfAX_1 (by decide) ?_
  refine lv_lshr (v := (a1 >>> (((30 : Int32) : Int32).toInt64 &&& 63))) hx hb d_M_putSizesOfAX_3 rfl ?_
  refine lv_l2i (v := ((a1 >>> (((30 : Int32) : Int32).toInt64 &&& 63)) : Int64).toInt32) hx hb d_M_putSizesOfAX_4 rfl ?_
  refine lv_ldc (v := 1073741823) hx hb hown (hk _ k_345) d_M_putSizesOfAX_5 ?_
  refine lv_iand hx hb d_M_putSizesOfAX_7 ?_
  refine lv_istore_n (lv' := [(3, .int (((a1 >>> (((30 : Int32) : Int32).toInt64 &&& 63)) : Int64).toInt32 &&& (1073741823 : Int32))), (0, .ref h0), (1, .long a1)]) hx hb d_M_putSizesOfAX_8 rfl hl (by decide) rfl (fun ls hl => ?_)
  refine lv_lload_n hx hb d_M_putSizesOfAX_9 rfl (lv_at hl 2 rfl) ?_
  refine lv_l2i (v := (a1 : Int64).toInt32) hx hb d_M_putSizesOfAX_10 rfl ?_
  refine lv_ldc (v := 1073741823) hx hb hown (hk _ k_345) d_M_putSizesOfAX_11 ?_
  refine lv_iand hx hb d_M_putSizesOfAX_13 ?_
  refine lv_istore (lv' := [(4, .int ((a1 : Int64).toInt32 &&& (1073741823 : Int32))), (3, .int (((a1 >>> (((30 : Int32) : Int32).toInt64 &&& 63)) : Int64).toInt32 &&& (1073741823 : Int32))), (0, .ref h0), (1, .long a1)]) hx hb d_M_putSizesOfAX_14 hl (by decide) rfl (fun ls hl => ?_)
  refine lv_aload_n hx hb d_M_putSizesOfAX_16 rfl (lv_at hl 2 rfl) ?_
  refine lv_iconst (v := 0) hx hb d_M_putSizesOfAX_17 (by decide) ?_
  refine lv_aload_n hx hb d_M_putSizesOfAX_18 rfl (lv_at hl 2 rfl) ?_
  refine lv_iconst (v := 0) hx hb d_M_putSizesOfAX_19 (by decide) ?_
  refine cs_i (W.runV (C := "SignMachine$Machine") (As := [.int (0 : Int32)]) (rest := [.int (0 : Int32), .ref h0]) ⟨hx, hb, hml, hown, hk⟩ (c_M_register l D cI cJ cZ cB h0 h1 h2 h3 h4 tog ind tim nxt enD cod fld idx mm soz mem reg p1 w1 p2 w2 TL (0 : Int32)) (v_M_register hk k_273 ⟨Nat.le_of_ble_eq_true rfl, Nat.le_of_ble_eq_true rfl⟩) (pR_v hK hP (ci := 1) (q0 := 0) rfl rfl rfl) rfl rfl hl.1 rfl (lv_room (Nat.le_of_ble_eq_true rfl)) d_M_putSizesOfAX_20 ⟨Nat.le_of_ble_eq_true rfl, Nat.le_of_ble_eq_true rfl⟩) ?_
  refine cs_i (W.runS (As := [.int (f_M_register reg (0 : Int32))]) (rest := [.int (0 : Int32), .ref h0]) ⟨hx, hb, hml, hown, hk⟩ (c_W_sign l (f_M_register reg (0 : Int32))) (s_W_sign hk k_269 ⟨Nat.le_of_ble_eq_true rfl, Nat.le_of_ble_eq_true rfl⟩) ⟨fun a U g mk q => q, fun U hU hW => ⟨rfl, trivial⟩⟩ rfl rfl hl.1 rfl (lv_room (Nat.le_of_ble_eq_true rfl)) d_M_putSizesOfAX_23 ⟨Nat.le_of_ble_eq_true rfl, Nat.le_of_ble_eq_true rfl⟩) ?_
  refine lv_iload_n hx hb d_M_putSizesOfAX_26 rfl (lv_at hl 1 rfl) ?_
  refine cs_i (W.runS (As := [.int (f_W_sign (f_M_register reg (0 : Int32))), .int (((a1 >>> (((30 : Int32) : Int32).toInt64 &&& 63)) : Int64).toInt32 &&& (1073741823 : Int32))]) (rest := [.int (0 : Int32), .ref h0]) ⟨hx, hb, hml, hown, hk⟩ (c_W_make l (f_W_sign (f_M_register reg (0 : Int32))) (((a1 >>> (((30 : Int32) : Int32).toInt64 &&& 63)) : Int64).toInt32 &&& (1073741823 : Int32))) (s_W_make hk k_370 ⟨Nat.le_of_ble_eq_true rfl, Nat.le_of_ble_eq_true rfl⟩) ⟨fun a U g mk q => q, fun U hU hW => ⟨rfl, trivial⟩⟩ rfl rfl hl.1 rfl (lv_room (Nat.le_of_ble_eq_true rfl)) d_M_putSizesOfAX_27 ⟨Nat.le_of_ble_eq_true rfl, Nat.le_of_ble_eq_true rfl⟩) ?_
  refine ca_v (va_runV (C := "SignMachine$Machine") (As := [.int (0 : Int32), .int (f_W_make (f_W_sign (f_M_register reg (0 : Int32))) (((a1 >>> (((30 : Int32) : Int32).toInt64 &&& 63)) : Int64).toInt32 &&& (1073741823 : Int32)))]) (rest := []) ⟨hx, hb, hml, hown, hk⟩ (c_M_putRegister l D cI cJ cZ cB h0 h1 h2 h3 h4 s.heap.size tog ind tim nxt enD cod fld idx mm soz mem reg p1 w1 p2 w2 TL (0 : Int32) (f_W_make (f_W_sign (f_M_register reg (0 : Int32))) (((a1 >>> (((30 : Int32) : Int32).toInt64 &&& 63)) : Int64).toInt32 &&& (1073741823 : Int32)))) (v_M_putRegister hk k_362 ⟨Nat.le_of_ble_eq_true rfl, Nat.le_of_ble_eq_true rfl⟩) (pM_v hK hP hD (ci := 1) (q0 := 0) rfl rfl rfl) rfl rfl hl.1 rfl (lv_room (Nat.le_of_ble_eq_true rfl)) d_M_putSizesOfAX_30 ⟨Nat.le_of_ble_eq_true rfl, Nat.le_of_ble_eq_true rfl⟩) hS hA hD (fun u H locs hz1 hP hS => ?_)
  obtain ⟨regz1, hu⟩ : ∃ y, y = u := ⟨_, rfl⟩
  subst hu
  have hP : va_P D classes (mW cI cJ cZ cB h0 h1 h2 h3 h4 tog ind tim nxt enD cod fld idx mm soz mem regz1 p1 w1 p2 w2 TL) H := hP
  have hD : va_D A (mW cI cJ cZ cB h0 h1 h2 h3 h4 tog ind tim nxt enD cod fld idx mm soz mem regz1 p1 w1 p2 w2 TL) := dsame hD rfl
  try dsimp only at hz1
  refine lv_aload_n hx hb d_M_putSizesOfAX_33 rfl (lv_at hl 2 rfl) ?_
  refine lv_bipush (v := 7) hx hb d_M_putSizesOfAX_34 (by decide) ?_
  refine lv_aload_n hx hb d_M_putSizesOfAX_36 rfl (lv_at hl 2 rfl) ?_
  refine lv_bipush (v := 7) hx hb d_M_putSizesOfAX_37 (by decide) ?_
  refine cs_i (W.runV (C := "SignMachine$Machine") (As := [.int (7 : Int32)]) (rest := [.int (7 : Int32), .ref h0]) ⟨hx, hb, hml, hown, hk⟩ (c_M_register l D cI cJ cZ cB h0 h1 h2 h3 h4 tog ind tim nxt enD cod fld idx mm soz mem regz1 p1 w1 p2 w2 TL (7 : Int32)) (v_M_register hk k_273 ⟨Nat.le_of_ble_eq_true rfl, Nat.le_of_ble_eq_true rfl⟩) (pR_v hK hP (ci := 1) (q0 := 0) rfl rfl rfl) rfl rfl hl.1 rfl (lv_room (Nat.le_of_ble_eq_true rfl)) d_M_putSizesOfAX_39 ⟨Nat.le_of_ble_eq_true rfl, Nat.le_of_ble_eq_true rfl⟩) ?_
  refine cs_i (W.runS (As := [.int (f_M_register regz1 (7 : Int32))]) (rest := [.int (7 : Int32), .ref h0]) ⟨hx, hb, hml, hown, hk⟩ (c_W_sign l (f_M_register regz1 (7 : Int32))) (s_W_sign hk k_269 ⟨Nat.le_of_ble_eq_true rfl, Nat.le_of_ble_eq_true rfl⟩) ⟨fun a U g mk q => q, fun U hU hW => ⟨rfl, trivial⟩⟩ rfl rfl hl.1 rfl (lv_room (Nat.le_of_ble_eq_true rfl)) d_M_putSizesOfAX_42 ⟨Nat.le_of_ble_eq_true rfl, Nat.le_of_ble_eq_true rfl⟩) ?_
  refine lv_iload hx hb d_M_putSizesOfAX_45 (lv_at hl 0 rfl) ?_
  refine cs_i (W.runS (As := [.int (f_W_sign (f_M_register regz1 (7 : Int32))), .int ((a1 : Int64).toInt32 &&& (1073741823 : Int32))]) (rest := [.int (7 : Int32), .ref h0]) ⟨hx, hb, hml, hown, hk⟩ (c_W_make l (f_W_sign (f_M_register regz1 (7 : Int32))) ((a1 : Int64).toInt32 &&& (1073741823 : Int32))) (s_W_make hk k_370 ⟨Nat.le_of_ble_eq_true rfl, Nat.le_of_ble_eq_true rfl⟩) ⟨fun a U g mk q => q, fun U hU hW => ⟨rfl, trivial⟩⟩ rfl rfl hl.1 rfl (lv_room (Nat.le_of_ble_eq_true rfl)) d_M_putSizesOfAX_47 ⟨Nat.le_of_ble_eq_true rfl, Nat.le_of_ble_eq_true rfl⟩) ?_
  refine ca_v (va_runV (C := "SignMachine$Machine") (As := [.int (7 : Int32), .int (f_W_make (f_W_sign (f_M_register regz1 (7 : Int32))) ((a1 : Int64).toInt32 &&& (1073741823 : Int32)))]) (rest := []) ⟨hx, hb, hml, hown, hk⟩ (c_M_putRegister l D cI cJ cZ cB h0 h1 h2 h3 h4 H.size tog ind tim nxt enD cod fld idx mm soz mem regz1 p1 w1 p2 w2 TL (7 : Int32) (f_W_make (f_W_sign (f_M_register regz1 (7 : Int32))) ((a1 : Int64).toInt32 &&& (1073741823 : Int32)))) (v_M_putRegister hk k_362 ⟨Nat.le_of_ble_eq_true rfl, Nat.le_of_ble_eq_true rfl⟩) (pM_v hK hP hD (ci := 1) (q0 := 0) rfl rfl rfl) rfl rfl hl.1 rfl (lv_room (Nat.le_of_ble_eq_true rfl)) d_M_putSizesOfAX_50 ⟨Nat.le_of_ble_eq_true rfl, Nat.le_of_ble_eq_true rfl⟩) hS hA hD (fun u H locs hz2 hP hS => ?_)
  obtain ⟨regz2, hu⟩ : ∃ y, y = u := ⟨_, rfl⟩
  subst hu
  have hP : va_P D classes (mW cI cJ cZ cB h0 h1 h2 h3 h4 tog ind tim nxt enD cod fld idx mm soz mem regz2 p1 w1 p2 w2 TL) H := hP
  have hD : va_D A (mW cI cJ cZ cB h0 h1 h2 h3 h4 tog ind tim nxt enD cod fld idx mm soz mem regz2 p1 w1 p2 w2 TL) := dsame hD rfl
  try dsimp only at hz2
  exact W.vret hx hb hr (fun t ht hW => ⟨⟨(regz2), rfl, by simp only [f_M_putSizesOfAX, ← hz1, ← hz2], by show va_P D classes _ t.heap; rw [ht]; exact hP⟩, hS.F ht⟩) hS.2.2 d_M_putSizesOfAX_53
theorem v_M_putSizesOfAX {R : Room} {s : State} {args : Array Value} {own : String} {index : Nat} (hk : ∀ w ∈ tb, w.before args s = true) (hl : Cond.methodLink own index y_M_putSizesOfAX ∈ tb) (hR : 1 + 1 ≤ R.frames ∧ 8 + (5 + 11) + 22 ≤ R.locals) : CallW R s args own "SignMachine$Machine" index y_M_putSizesOfAX b_M_putSizesOfAX 5 none (.code y_M_putSizesOfAX b_M_putSizesOfAX 5 none :: tb) ({ frames := 1, cells := 0, slots := 0, locals := 22 }) 0 0 1 := mk_v 1 hk k_398 hl k_397 k_20 k_117 rfl rfl h_M_putSizesOfAX hR
def f_M_multiply (reg : Nat → Int32) (a1 : Int32) : (Nat → Int32) := (match (f_M_putRegister reg (0 : Int32) (f_W_make ((f_W_sign (f_M_register reg (0 : Int32))) ^^^ (f_W_sign a1)) (((((f_W_size (f_M_register reg (0 : Int32))) : Int32).toInt64 * ((f_W_size a1) : Int32).toInt64) >>> (((30 : Int32) : Int32).toInt64 &&& 63)) : Int64).toInt32)) with | (regz1) => (match (f_M_putRegister regz1 (7 : Int32) (f_W_make ((f_W_sign (f_M_register reg (0 : Int32))) ^^^ (f_W_sign a1)) (((((f_W_size (f_M_register reg (0 : Int32))) : Int32).toInt64 * ((f_W_size a1) : Int32).toInt64) : Int64).toInt32 &&& (1073741823 : Int32)))) with | (regz2) => (regz2)))
set_option maxHeartbeats 4000000 in
set_option maxRecDepth 100000 in
theorem c_M_multiply (l : Launch) (D : va_G) (cI cJ cZ cB : ClassId) (h0 h1 h2 h3 h4 : Nat) (sz : Nat) (tog : Int32) (ind : Int32) (tim : Int32) (nxt : Int32) (enD : Int32) (cod : Int32) (fld : Int32) (idx : Int32) (mm : Int32) (soz : Int32) (mem : Nat → Int32) (reg : Nat → Int32) (p1 : Int32) (w1 : Option Nat) (p2 : Int32) (w2 : Option Nat) (TL : va_W) (a1 : Int32) : Met l y_M_multiply (.code y_M_multiply b_M_multiply 6 none :: tb) ({ frames := 1, cells := 0, slots := 0, locals := 22 }) (pM D cI cJ cZ cB (mW cI cJ cZ cB h0 h1 h2 h3 h4 tog ind tim nxt enD cod fld idx mm soz mem reg p1 w1 p2 w2 TL) sz [.ref h0, .int a1]) (qV D (fun u => u = f_M_multiply reg a1) (fun (u : (Nat → Int32)) => match u with | u_reg => (mW cI cJ cZ cB h0 h1 h2 h3 h4 tog ind tim nxt enD cod fld idx mm soz mem u_reg p1 w1 p2 w2 TL)) (va_A (mW cI cJ cZ cB h0 h1 h2 h3 h4 tog ind tim nxt enD cod fld idx mm soz mem reg p1 w1 p2 w2 TL) sz)) 0 0 (va_A (mW cI cJ cZ cB h0 h1 h2 h3 h4 tog ind tim nxt enD cod fld idx mm soz mem reg p1 w1 p2 w2 TL) sz) := by
  refine Met.ofW (cc := b_M_multiply) (maxL := 6) (ret := none) (by decide) rfl ?_
  intro p e s m args below meth c s₁ B hml hv
  obtain ⟨rfl, hsz, hK, hP, hD0⟩ := hv
  subst hsz
  have hD := hD0.self (sz := s.heap.size)
  generalize hAe : va_A (mW cI cJ cZ cB h0 h1 h2 h3 h4 tog ind tim nxt enD cod fld idx mm soz mem reg p1 w1 p2 w2 TL) s.heap.size = A at hD ⊢
  have hA : ∀ q : Nat, s.heap.size ≤ q → A q := fun q h => by rw [← hAe]; exact Or.inr h
  have hS : va_S A s.heap s.heap [] := va_S.rf
  have hx := B.exec
  have hb := B.bytes
  have hr := B.returns
  have hts := atoms_spec (ws := .code y_M_multiply b_M_multiply 6 none :: tb) B.pre
  have hk : ∀ w ∈ tb, w.before [.ref h0, .int a1].toArray s = true := fun w h => hts w (List.mem_cons_of_mem _ h)
  have hown : s.vm.findClass "SignMachine$Machine" = some m.cls := findClass_of_methodNamed B.named
  have hlocks := B.notSynchronized
  have hl := lv_entry ([.ref h0, .int a1]) (n := 6) (Nat.le_of_ble_eq_true rfl)
  rw [lg_entry_eq]
  generalize (lg_sl ([.ref h0, .int a1]) ++ List.replicate (6 - (lg_sl ([.ref h0, .int a1])).length) Slot.unset).toArray = ls at hl ⊢
  have hl : lv_has ls 6 [(0, .ref h0), (1, .int a1)] := hl
  refine lv_aload_n hx hb d_M_multiply_0 rfl (lv_at hl 0 rfl) ?_
  refine lv_iconst (v := 0) hx hb d_M_multiply_1 (by decide) ?_
  refine cs_i (W.runV (C := "SignMachine$Machine") (As := [.int (0 : Int32)]) (rest := []) ⟨hx, hb, hml, hown, hk⟩ (c_M_register l D cI cJ cZ cB h0 h1 h2 h3 h4 tog ind tim nxt enD cod fld idx mm soz mem reg p1 w1 p2 w2 TL (0 : Int32)) (v_M_register hk k_273 ⟨Nat.le_of_ble_eq_true rfl, Nat.le_of_ble_eq_true rfl⟩) (pR_v hK hP (ci := 1) (q0 := 0) rfl rfl rfl) rfl rfl hl.1 rfl (lv_room (Nat.le_of_ble_eq_true rfl)) d_M_multiply_2 ⟨Nat.le_of_ble_eq_true rfl, Nat.le_of_ble_eq_true rfl⟩) ?_
  refine lv_istore_n (lv' := [(2, .int (f_M_register reg (0 : Int32))), (0, .ref h0), (1, .int a1)]) hx hb d_M_multiply_5 rfl hl (by decide) rfl (fun ls hl => ?_)
  refine lv_iload_n hx hb d_M_multiply_6 rfl (lv_at hl 0 rfl) ?_
  refine cs_i (W.runS (As := [.int (f_M_register reg (0 : Int32))]) (rest := []) ⟨hx, hb, hml, hown, hk⟩ (c_W_size l (f_M_register reg (0 : Int32))) (s_W_size hk k_268 ⟨Nat.le_of_ble_eq_true rfl, Nat.le_of_ble_eq_true rfl⟩) ⟨fun a U g mk q => q, fun U hU hW => ⟨rfl, trivial⟩⟩ rfl rfl hl.1 rfl (lv_room (Nat.le_of_ble_eq_true rfl)) d_M_multiply_7 ⟨Nat.le_of_ble_eq_true rfl, Nat.le_of_ble_eq_true rfl⟩) ?_
  refine lv_i2l (v := ((f_W_size (f_M_register reg (0 : Int32))) : Int32).toInt64) hx hb d_M_multiply_10 rfl ?_
  refine lv_iload_n hx hb d_M_multiply_11 rfl (lv_at hl 2 rfl) ?_
  refine cs_i (W.runS (As := [.int a1]) (rest := [.long ((f_W_size (f_M_register reg (0 : Int32))) : Int32).toInt64]) ⟨hx, hb, hml, hown, hk⟩ (c_W_size l a1) (s_W_size hk k_268 ⟨Nat.le_of_ble_eq_true rfl, Nat.le_of_ble_eq_true rfl⟩) ⟨fun a U g mk q => q, fun U hU hW => ⟨rfl, trivial⟩⟩ rfl rfl hl.1 rfl (lv_room (Nat.le_of_ble_eq_true rfl)) d_M_multiply_12 ⟨Nat.le_of_ble_eq_true rfl, Nat.le_of_ble_eq_true rfl⟩) ?_
  refine lv_i2l (v := ((f_W_size a1) : Int32).toInt64) hx hb d_M_multiply_15 rfl ?_
  refine lv_lmul hx hb d_M_multiply_16 ?_
  refine lv_lstore_n (lv' := [(3, .long (((f_W_size (f_M_register reg (0 : Int32))) : Int32).toInt64 * ((f_W_size a1) : Int32).toInt64)), (2, .int (f_M_register reg (0 : Int32))), (0, .ref h0), (1, .int a1)]) hx hb d_M_multiply_17 rfl hl (by decide) rfl (fun ls hl => ?_)
  refine lv_iload_n hx hb d_M_multiply_18 rfl (lv_at hl 1 rfl) ?_
  refine cs_i (W.runS (As := [.int (f_M_register reg (0 : Int32))]) (rest := []) ⟨hx, hb, hml, hown, hk⟩ (c_W_sign l (f_M_register reg (0 : Int32))) (s_W_sign hk k_269 ⟨Nat.le_of_ble_eq_true rfl, Nat.le_of_ble_eq_true rfl⟩) ⟨fun a U g mk q => q, fun U hU hW => ⟨rfl, trivial⟩⟩ rfl rfl hl.1 rfl (lv_room (Nat.le_of_ble_eq_true rfl)) d_M_multiply_19 ⟨Nat.le_of_ble_eq_true rfl, Nat.le_of_ble_eq_true rfl⟩) ?_
  refine lv_iload_n hx hb d_M_multiply_22 rfl (lv_at hl 3 rfl) ?_
  refine cs_i (W.runS (As := [.int a1]) (rest := [.int (f_W_sign (f_M_register reg (0 : Int32)))]) ⟨hx, hb, hml, hown, hk⟩ (c_W_sign l a1) (s_W_sign hk k_269 ⟨Nat.le_of_ble_eq_true rfl, Nat.le_of_ble_eq_true rfl⟩) ⟨fun a U g mk q => q, fun U hU hW => ⟨rfl, trivial⟩⟩ rfl rfl hl.1 rfl (lv_room (Nat.le_of_ble_eq_true rfl)) d_M_multiply_23 ⟨Nat.le_of_ble_eq_true rfl, Nat.le_of_ble_eq_true rfl⟩) ?_
  refine lv_ixor hx hb d_M_multiply_26 ?_
  refine lv_istore (lv' := [(5, .int ((f_W_sign (f_M_register reg (0 : Int32))) ^^^ (f_W_sign a1))), (3, .long (((f_W_size (f_M_register reg (0 : Int32))) : Int32).toInt64 * ((f_W_size a1) : Int32).toInt64)), (2, .int (f_M_register reg (0 : Int32))), (0, .ref h0), (1, .int a1)]) hx hb d_M_multiply_27 hl (by decide) rfl (fun ls hl => ?_)
  refine lv_aload_n hx hb d_M_multiply_29 rfl (lv_at hl 3 rfl) ?_
  refine lv_iconst (v := 0) hx hb d_M_multiply_30 (by decide) ?_
  refine lv_iload hx hb d_M_multiply_31 (lv_at hl 0 rfl) ?_
  refine lv_lload_n hx hb d_M_multiply_33 rfl (lv_at hl 1 rfl) ?_
  refine lv_bipush (v := 30) hx hb d_M_multiply_34 (by decide) ?_
  refine lv_lshr (v := ((((f_W_size (f_M_register reg (0 : Int32))) : Int32).toInt64 * ((f_W_size a1) : Int32).toInt64) >>> (((30 : Int32) : Int32).toInt64 &&& 63))) hx hb d_M_multiply_36 rfl ?_
  refine lv_l2i (v := (((((f_W_size (f_M_register reg (0 : Int32))) : Int32).toInt64 * ((f_W_size a1) : Int32).toInt64) >>> (((30 : Int32) : Int32).toInt64 &&& 63)) : Int64).toInt32) hx hb d_M_multiply_37 rfl ?_
  refine cs_i (W.runS (As := [.int ((f_W_sign (f_M_register reg (0 : Int32))) ^^^ (f_W_sign a1)), .int (((((f_W_size (f_M_register reg (0 : Int32))) : Int32).toInt64 * ((f_W_size a1) : Int32).toInt64) >>> (((30 : Int32) : Int32).toInt64 &&& 63)) : Int64).toInt32]) (rest := [.int (0 : Int32), .ref h0]) ⟨hx, hb, hml, hown, hk⟩ (c_W_make l ((f_W_sign (f_M_register reg (0 : Int32))) ^^^ (f_W_sign a1)) (((((f_W_size (f_M_register reg (0 : Int32))) : Int32).toInt64 * ((f_W_size a1) : Int32).toInt64) >>> (((30 : Int32) : Int32).toInt64 &&& 63)) : Int64).toInt32) (s_W_make hk k_370 ⟨Nat.le_of_ble_eq_true rfl, Nat.le_of_ble_eq_true rfl⟩) ⟨fun a U g mk q => q, fun U hU hW => ⟨rfl, trivial⟩⟩ rfl rfl hl.1 rfl (lv_room (Nat.le_of_ble_eq_true rfl)) d_M_multiply_38 ⟨Nat.le_of_ble_eq_true rfl, Nat.le_of_ble_eq_true rfl⟩) ?_
  refine ca_v (va_runV (C := "SignMachine$Machine") (As := [.int (0 : Int32), .int (f_W_make ((f_W_sign (f_M_register reg (0 : Int32))) ^^^ (f_W_sign a1)) (((((f_W_size (f_M_register reg (0 : Int32))) : Int32).toInt64 * ((f_W_size a1) : Int32).toInt64) >>> (((30 : Int32) : Int32).toInt64 &&& 63)) : Int64).toInt32)]) (rest := []) ⟨hx, hb, hml, hown, hk⟩ (c_M_putRegister l D cI cJ cZ cB h0 h1 h2 h3 h4 s.heap.size tog ind tim nxt enD cod fld idx mm soz mem reg p1 w1 p2 w2 TL (0 : Int32) (f_W_make ((f_W_sign (f_M_register reg (0 : Int32))) ^^^ (f_W_sign a1)) (((((f_W_size (f_M_register reg (0 : Int32))) : Int32).toInt64 * ((f_W_size a1) : Int32).toInt64) >>> (((30 : Int32) : Int32).toInt64 &&& 63)) : Int64).toInt32)) (v_M_putRegister hk k_362 ⟨Nat.le_of_ble_eq_true rfl, Nat.le_of_ble_eq_true rfl⟩) (pM_v hK hP hD (ci := 1) (q0 := 0) rfl rfl rfl) rfl rfl hl.1 rfl (lv_room (Nat.le_of_ble_eq_true rfl)) d_M_multiply_41 ⟨Nat.le_of_ble_eq_true rfl, Nat.le_of_ble_eq_true rfl⟩) hS hA hD (fun u H locs hz1 hP hS => ?_)
  obtain ⟨regz1, hu⟩ : ∃ y, y = u := ⟨_, rfl⟩
  subst hu
  have hP : va_P D classes (mW cI cJ cZ cB h0 h1 h2 h3 h4 tog ind tim nxt enD cod fld idx mm soz mem regz1 p1 w1 p2 w2 TL) H := hP
  have hD : va_D A (mW cI cJ cZ cB h0 h1 h2 h3 h4 tog ind tim nxt enD cod fld idx mm soz mem regz1 p1 w1 p2 w2 TL) := dsame hD rfl
  try dsimp only at hz1
  refine lv_aload_n hx hb d_M_multiply_44 rfl (lv_at hl 3 rfl) ?_
  refine lv_bipush (v := 7) hx hb d_M_multiply_45 (by decide) ?_
  refine lv_iload hx hb d_M_multiply_47 (lv_at hl 0 rfl) ?_
  refine lv_lload_n hx hb d_M_multiply_49 rfl (lv_at hl 1 rfl) ?_
  refine lv_l2i (v := ((((f_W_size (f_M_register reg (0 : Int32))) : Int32).toInt64 * ((f_W_size a1) : Int32).toInt64) : Int64).toInt32) hx hb d_M_multiply_50 rfl ?_
  refine lv_ldc (v := 1073741823) hx hb hown (hk _ k_345) d_M_multiply_51 ?_
  refine lv_iand hx hb d_M_multiply_53 ?_
  refine cs_i (W.runS (As := [.int ((f_W_sign (f_M_register reg (0 : Int32))) ^^^ (f_W_sign a1)), .int (((((f_W_size (f_M_register reg (0 : Int32))) : Int32).toInt64 * ((f_W_size a1) : Int32).toInt64) : Int64).toInt32 &&& (1073741823 : Int32))]) (rest := [.int (7 : Int32), .ref h0]) ⟨hx, hb, hml, hown, hk⟩ (c_W_make l ((f_W_sign (f_M_register reg (0 : Int32))) ^^^ (f_W_sign a1)) (((((f_W_size (f_M_register reg (0 : Int32))) : Int32).toInt64 * ((f_W_size a1) : Int32).toInt64) : Int64).toInt32 &&& (1073741823 : Int32))) (s_W_make hk k_370 ⟨Nat.le_of_ble_eq_true rfl, Nat.le_of_ble_eq_true rfl⟩) ⟨fun a U g mk q => q, fun U hU hW => ⟨rfl, trivial⟩⟩ rfl rfl hl.1 rfl (lv_room (Nat.le_of_ble_eq_true rfl)) d_M_multiply_54 ⟨Nat.le_of_ble_eq_true rfl, Nat.le_of_ble_eq_true rfl⟩) ?_
  refine ca_v (va_runV (C := "SignMachine$Machine") (As := [.int (7 : Int32), .int (f_W_make ((f_W_sign (f_M_register reg (0 : Int32))) ^^^ (f_W_sign a1)) (((((f_W_size (f_M_register reg (0 : Int32))) : Int32).toInt64 * ((f_W_size a1) : Int32).toInt64) : Int64).toInt32 &&& (1073741823 : Int32)))]) (rest := []) ⟨hx, hb, hml, hown, hk⟩ (c_M_putRegister l D cI cJ cZ cB h0 h1 h2 h3 h4 H.size tog ind tim nxt enD cod fld idx mm soz mem regz1 p1 w1 p2 w2 TL (7 : Int32) (f_W_make ((f_W_sign (f_M_register reg (0 : Int32))) ^^^ (f_W_sign a1)) (((((f_W_size (f_M_register reg (0 : Int32))) : Int32).toInt64 * ((f_W_size a1) : Int32).toInt64) : Int64).toInt32 &&& (1073741823 : Int32)))) (v_M_putRegister hk k_362 ⟨Nat.le_of_ble_eq_true rfl, Nat.le_of_ble_eq_true rfl⟩) (pM_v hK hP hD (ci := 1) (q0 := 0) rfl rfl rfl) rfl rfl hl.1 rfl (lv_room (Nat.le_of_ble_eq_true rfl)) d_M_multiply_57 ⟨Nat.le_of_ble_eq_true rfl, Nat.le_of_ble_eq_true rfl⟩) hS hA hD (fun u H locs hz2 hP hS => ?_)
  obtain ⟨regz2, hu⟩ : ∃ y, y = u := ⟨_, rfl⟩
  subst hu
  have hP : va_P D classes (mW cI cJ cZ cB h0 h1 h2 h3 h4 tog ind tim nxt enD cod fld idx mm soz mem regz2 p1 w1 p2 w2 TL) H := hP
  have hD : va_D A (mW cI cJ cZ cB h0 h1 h2 h3 h4 tog ind tim nxt enD cod fld idx mm soz mem regz2 p1 w1 p2 w2 TL) := dsame hD rfl
  try dsimp only at hz2
  exact W.vret hx hb hr (fun t ht hW => ⟨⟨(regz2), rfl, by simp only [f_M_multiply, ← hz1, ← hz2], by show va_P D classes _ t.heap; rw [ht]; exact hP⟩, hS.F ht⟩) hS.2.2 d_M_multiply_60
theorem v_M_multiply {R : Room} {s : State} {args : Array Value} {own : String} {index : Nat} (hk : ∀ w ∈ tb, w.before args s = true) (hl : Cond.methodLink own index y_M_multiply ∈ tb) (hR : 1 + 1 ≤ R.frames ∧ 8 + (6 + 11) + 22 ≤ R.locals) : CallW R s args own "SignMachine$Machine" index y_M_multiply b_M_multiply 6 none (.code y_M_multiply b_M_multiply 6 none :: tb) ({ frames := 1, cells := 0, slots := 0, locals := 22 }) 0 0 1 := mk_v 1 hk k_369 hl k_368 k_14 k_117 rfl rfl h_M_multiply hR
def f_M_divide (tog : Int32) (reg : Nat → Int32) (a1 : Int32) : (Int32) × (Nat → Int32) := (if (f_W_size a1) = (0 : Int32) then ((1 : Int32), reg) else (if (f_W_size (f_M_register reg (0 : Int32))) < (f_W_size a1) then (match (f_M_putRegister reg (0 : Int32) (f_W_make ((f_W_sign (f_M_register reg (0 : Int32))) ^^^ (f_W_sign a1)) (((f_M_sizeOfAX reg ) / ((f_W_size a1) : Int32).toInt64) : Int64).toInt32)) with | (regz3) => (match (f_M_putRegister regz3 (7 : Int32) (f_W_make (f_W_sign (f_M_register reg (0 : Int32))) (((f_M_sizeOfAX reg ) - (f_M_sizeOfAX reg ) / ((f_W_size a1) : Int32).toInt64 * ((f_W_size a1) : Int32).toInt64) : Int64).toInt32)) with | (regz4) => (tog, regz4))) else ((1 : Int32), reg)))
set_option maxHeartbeats 4000000 in
set_option maxRecDepth 100000 in
theorem c_M_divide (l : Launch) (D : va_G) (cI cJ cZ cB : ClassId) (h0 h1 h2 h3 h4 : Nat) (sz : Nat) (tog : Int32) (ind : Int32) (tim : Int32) (nxt : Int32) (enD : Int32) (cod : Int32) (fld : Int32) (idx : Int32) (mm : Int32) (soz : Int32) (mem : Nat → Int32) (reg : Nat → Int32) (p1 : Int32) (w1 : Option Nat) (p2 : Int32) (w2 : Option Nat) (TL : va_W) (a1 : Int32) : Met l y_M_divide (.code y_M_divide b_M_divide 6 none :: tb) ({ frames := 2, cells := 0, slots := 0, locals := 41 }) (pM D cI cJ cZ cB (mW cI cJ cZ cB h0 h1 h2 h3 h4 tog ind tim nxt enD cod fld idx mm soz mem reg p1 w1 p2 w2 TL) sz [.ref h0, .int a1]) (qV D (fun u => u = f_M_divide tog reg a1) (fun (u : (Int32) × (Nat → Int32)) => match u with | (u_tog, u_reg) => (mW cI cJ cZ cB h0 h1 h2 h3 h4 u_tog ind tim nxt enD cod fld idx mm soz mem u_reg p1 w1 p2 w2 TL)) (va_A (mW cI cJ cZ cB h0 h1 h2 h3 h4 tog ind tim nxt enD cod fld idx mm soz mem reg p1 w1 p2 w2 TL) sz)) 0 0 (va_A (mW cI cJ cZ cB h0 h1 h2 h3 h4 tog ind tim nxt enD cod fld idx mm soz mem reg p1 w1 p2 w2 TL) sz) := by
  refine Met.ofW (cc := b_M_divide) (maxL := 6) (ret := none) (by decide) rfl ?_
  intro p e s m args below meth c s₁ B hml hv
  obtain ⟨rfl, hsz, hK, hP, hD0⟩ := hv
  subst hsz
  have hD := hD0.self (sz := s.heap.size)
  generalize hAe : va_A (mW cI cJ cZ cB h0 h1 h2 h3 h4 tog ind tim nxt enD cod fld idx mm soz mem reg p1 w1 p2 w2 TL) s.heap.size = A at hD ⊢
  have hA : ∀ q : Nat, s.heap.size ≤ q → A q := fun q h => by rw [← hAe]; exact Or.inr h
  have hS : va_S A s.heap s.heap [] := va_S.rf
  have hx := B.exec
  have hb := B.bytes
  have hr := B.returns
  have hts := atoms_spec (ws := .code y_M_divide b_M_divide 6 none :: tb) B.pre
  have hk : ∀ w ∈ tb, w.before [.ref h0, .int a1].toArray s = true := fun w h => hts w (List.mem_cons_of_mem _ h)
  have hown : s.vm.findClass "SignMachine$Machine" = some m.cls := findClass_of_methodNamed B.named
  have hlocks := B.notSynchronized
  have hl := lv_entry ([.ref h0, .int a1]) (n := 6) (Nat.le_of_ble_eq_true rfl)
  rw [lg_entry_eq]
  generalize (lg_sl ([.ref h0, .int a1]) ++ List.replicate (6 - (lg_sl ([.ref h0, .int a1])).length) Slot.unset).toArray = ls at hl ⊢
  have hl : lv_has ls 6 [(0, .ref h0), (1, .int a1)] := hl
  refine lv_aload_n hx hb d_M_divide_0 rfl (lv_at hl 0 rfl) ?_
  refine lv_iconst (v := 0) hx hb d_M_divide_1 (by decide) ?_
  refine cs_i (W.runV (C := "SignMachine$Machine") (As := [.int (0 : Int32)]) (rest := []) ⟨hx, hb, hml, hown, hk⟩ (c_M_register l D cI cJ cZ cB h0 h1 h2 h3 h4 tog ind tim nxt enD cod fld idx mm soz mem reg p1 w1 p2 w2 TL (0 : Int32)) (v_M_register hk k_273 ⟨Nat.le_of_ble_eq_true rfl, Nat.le_of_ble_eq_true rfl⟩) (pR_v hK hP (ci := 1) (q0 := 0) rfl rfl rfl) rfl rfl hl.1 rfl (lv_room (Nat.le_of_ble_eq_true rfl)) d_M_divide_2 ⟨Nat.le_of_ble_eq_true rfl, Nat.le_of_ble_eq_true rfl⟩) ?_
  refine lv_istore_n (lv' := [(2, .int (f_M_register reg (0 : Int32))), (0, .ref h0), (1, .int a1)]) hx hb d_M_divide_5 rfl hl (by decide) rfl (fun ls hl => ?_)
  refine lv_iload_n hx hb d_M_divide_6 rfl (lv_at hl 2 rfl) ?_
  refine cs_i (W.runS (As := [.int a1]) (rest := []) ⟨hx, hb, hml, hown, hk⟩ (c_W_size l a1) (s_W_size hk k_268 ⟨Nat.le_of_ble_eq_true rfl, Nat.le_of_ble_eq_true rfl⟩) ⟨fun a U g mk q => q, fun U hU hW => ⟨rfl, trivial⟩⟩ rfl rfl hl.1 rfl (lv_room (Nat.le_of_ble_eq_true rfl)) d_M_divide_7 ⟨Nat.le_of_ble_eq_true rfl, Nat.le_of_ble_eq_true rfl⟩) ?_
  refine lv_istore_n (lv' := [(3, .int (f_W_size a1)), (2, .int (f_M_register reg (0 : Int32))), (0, .ref h0), (1, .int a1)]) hx hb d_M_divide_10 rfl hl (by decide) rfl (fun ls hl => ?_)
  refine lv_iload_n hx hb d_M_divide_11 rfl (lv_at hl 0 rfl) ?_
  refine lv_if_eq (tgt := 23) hx hb d_M_divide_12 (by decide) (fun c1 => ?_) (fun c1 => ?_)
  · refine lv_aload_n hx hb d_M_divide_23 rfl (lv_at hl 2 rfl) ?_
    refine lv_iconst (v := 1) hx hb d_M_divide_24 (by decide) ?_
    refine va_put (D := D) (ci := 1) (v := .int (1 : Int32)) (ty := .boolean) (C := "SignMachine$Machine") (T := F_M) (N := 14) hx hb hk fi_M ft_M ft_M_ok fn_M hown hK.1 hP hD hS 0 rfl rfl 4 (by decide) (hk _ k_168) (fun _ h9 => h9) rfl (by decide +kernel) rfl rfl (Nat.le_of_ble_eq_true rfl) d_M_divide_25 (fun H locs hP hD hS => ?_)
    have hP : va_P D classes (mW cI cJ cZ cB h0 h1 h2 h3 h4 (1 : Int32) ind tim nxt enD cod fld idx mm soz mem reg p1 w1 p2 w2 TL) H := hP
    have hD : va_D A (mW cI cJ cZ cB h0 h1 h2 h3 h4 (1 : Int32) ind tim nxt enD cod fld idx mm soz mem reg p1 w1 p2 w2 TL) := hD
    exact W.vret hx hb hr (fun t ht hW => ⟨⟨((1 : Int32), reg), rfl, by simp only [f_M_divide, if_pos c1], by show va_P D classes _ t.heap; rw [ht]; exact hP⟩, hS.F ht⟩) hS.2.2 d_M_divide_28
  · refine lv_iload_n hx hb d_M_divide_15 rfl (lv_at hl 1 rfl) ?_
    refine cs_i (W.runS (As := [.int (f_M_register reg (0 : Int32))]) (rest := []) ⟨hx, hb, hml, hown, hk⟩ (c_W_size l (f_M_register reg (0 : Int32))) (s_W_size hk k_268 ⟨Nat.le_of_ble_eq_true rfl, Nat.le_of_ble_eq_true rfl⟩) ⟨fun a U g mk q => q, fun U hU hW => ⟨rfl, trivial⟩⟩ rfl rfl hl.1 rfl (lv_room (Nat.le_of_ble_eq_true rfl)) d_M_divide_16 ⟨Nat.le_of_ble_eq_true rfl, Nat.le_of_ble_eq_true rfl⟩) ?_
    refine lv_iload_n hx hb d_M_divide_19 rfl (lv_at hl 0 rfl) ?_
    refine lv_icmp_lt (tgt := 29) hx hb d_M_divide_20 (by decide) (fun c2 => ?_) (fun c2 => ?_)
    · refine lv_aload_n hx hb d_M_divide_29 rfl (lv_at hl 2 rfl) ?_
      refine cs_l (W.runV (C := "SignMachine$Machine") (As := []) (rest := []) ⟨hx, hb, hml, hown, hk⟩ (c_M_sizeOfAX l D cI cJ cZ cB h0 h1 h2 h3 h4 tog ind tim nxt enD cod fld idx mm soz mem reg p1 w1 p2 w2 TL ) (v_M_sizeOfAX hk k_375 ⟨Nat.le_of_ble_eq_true rfl, Nat.le_of_ble_eq_true rfl⟩) (pR_v hK hP (ci := 1) (q0 := 0) rfl rfl rfl) rfl rfl hl.1 rfl (lv_room (Nat.le_of_ble_eq_true rfl)) d_M_divide_30 ⟨Nat.le_of_ble_eq_true rfl, Nat.le_of_ble_eq_true rfl⟩) ?_
      refine lv_lstore (lv' := [(4, .long (f_M_sizeOfAX reg )), (3, .int (f_W_size a1)), (2, .int (f_M_register reg (0 : Int32))), (0, .ref h0), (1, .int a1)]) hx hb d_M_divide_33 hl (by decide) rfl (fun ls hl => ?_)
      refine lv_aload_n hx hb d_M_divide_35 rfl (lv_at hl 3 rfl) ?_
      refine lv_iconst (v := 0) hx hb d_M_divide_36 (by decide) ?_
      refine lv_iload_n hx hb d_M_divide_37 rfl (lv_at hl 2 rfl) ?_
      refine cs_i (W.runS (As := [.int (f_M_register reg (0 : Int32))]) (rest := [.int (0 : Int32), .ref h0]) ⟨hx, hb, hml, hown, hk⟩ (c_W_sign l (f_M_register reg (0 : Int32))) (s_W_sign hk k_269 ⟨Nat.le_of_ble_eq_true rfl, Nat.le_of_ble_eq_true rfl⟩) ⟨fun a U g mk q => q, fun U hU hW => ⟨rfl, trivial⟩⟩ rfl rfl hl.1 rfl (lv_room (Nat.le_of_ble_eq_true rfl)) d_M_divide_38 ⟨Nat.le_of_ble_eq_true rfl, Nat.le_of_ble_eq_true rfl⟩) ?_
      refine lv_iload_n hx hb d_M_divide_41 rfl (lv_at hl 4 rfl) ?_
      refine cs_i (W.runS (As := [.int a1]) (rest := [.int (f_W_sign (f_M_register reg (0 : Int32))), .int (0 : Int32), .ref h0]) ⟨hx, hb, hml, hown, hk⟩ (c_W_sign l a1) (s_W_sign hk k_269 ⟨Nat.le_of_ble_eq_true rfl, Nat.le_of_ble_eq_true rfl⟩) ⟨fun a U g mk q => q, fun U hU hW => ⟨rfl, trivial⟩⟩ rfl rfl hl.1 rfl (lv_room (Nat.le_of_ble_eq_true rfl)) d_M_divide_42 ⟨Nat.le_of_ble_eq_true rfl, Nat.le_of_ble_eq_true rfl⟩) ?_
      refine lv_ixor hx hb d_M_divide_45 ?_
      refine lv_lload hx hb d_M_divide_46 (lv_at hl 0 rfl) ?_
      refine lv_iload_n hx hb d_M_divide_48 rfl (lv_at hl 1 rfl) ?_
      refine lv_i2l (v := ((f_W_size a1) : Int32).toInt64) hx hb d_M_divide_49 rfl ?_
      refine lv_ldiv hx hb d_M_divide_50 (i2l_ne c1) ?_
      refine lv_l2i (v := (((f_M_sizeOfAX reg ) / ((f_W_size a1) : Int32).toInt64) : Int64).toInt32) hx hb d_M_divide_51 rfl ?_
      refine cs_i (W.runS (As := [.int ((f_W_sign (f_M_register reg (0 : Int32))) ^^^ (f_W_sign a1)), .int (((f_M_sizeOfAX reg ) / ((f_W_size a1) : Int32).toInt64) : Int64).toInt32]) (rest := [.int (0 : Int32), .ref h0]) ⟨hx, hb, hml, hown, hk⟩ (c_W_make l ((f_W_sign (f_M_register reg (0 : Int32))) ^^^ (f_W_sign a1)) (((f_M_sizeOfAX reg ) / ((f_W_size a1) : Int32).toInt64) : Int64).toInt32) (s_W_make hk k_370 ⟨Nat.le_of_ble_eq_true rfl, Nat.le_of_ble_eq_true rfl⟩) ⟨fun a U g mk q => q, fun U hU hW => ⟨rfl, trivial⟩⟩ rfl rfl hl.1 rfl (lv_room (Nat.le_of_ble_eq_true rfl)) d_M_divide_52 ⟨Nat.le_of_ble_eq_true rfl, Nat.le_of_ble_eq_true rfl⟩) ?_
      refine ca_v (va_runV (C := "SignMachine$Machine") (As := [.int (0 : Int32), .int (f_W_make ((f_W_sign (f_M_register reg (0 : Int32))) ^^^ (f_W_sign a1)) (((f_M_sizeOfAX reg ) / ((f_W_size a1) : Int32).toInt64) : Int64).toInt32)]) (rest := []) ⟨hx, hb, hml, hown, hk⟩ (c_M_putRegister l D cI cJ cZ cB h0 h1 h2 h3 h4 s.heap.size tog ind tim nxt enD cod fld idx mm soz mem reg p1 w1 p2 w2 TL (0 : Int32) (f_W_make ((f_W_sign (f_M_register reg (0 : Int32))) ^^^ (f_W_sign a1)) (((f_M_sizeOfAX reg ) / ((f_W_size a1) : Int32).toInt64) : Int64).toInt32)) (v_M_putRegister hk k_362 ⟨Nat.le_of_ble_eq_true rfl, Nat.le_of_ble_eq_true rfl⟩) (pM_v hK hP hD (ci := 1) (q0 := 0) rfl rfl rfl) rfl rfl hl.1 rfl (lv_room (Nat.le_of_ble_eq_true rfl)) d_M_divide_55 ⟨Nat.le_of_ble_eq_true rfl, Nat.le_of_ble_eq_true rfl⟩) hS hA hD (fun u H locs hz3 hP hS => ?_)
      obtain ⟨regz3, hu⟩ : ∃ y, y = u := ⟨_, rfl⟩
      subst hu
      have hP : va_P D classes (mW cI cJ cZ cB h0 h1 h2 h3 h4 tog ind tim nxt enD cod fld idx mm soz mem regz3 p1 w1 p2 w2 TL) H := hP
      have hD : va_D A (mW cI cJ cZ cB h0 h1 h2 h3 h4 tog ind tim nxt enD cod fld idx mm soz mem regz3 p1 w1 p2 w2 TL) := dsame hD rfl
      try dsimp only at hz3
      refine lv_aload_n hx hb d_M_divide_58 rfl (lv_at hl 3 rfl) ?_
      refine lv_bipush (v := 7) hx hb d_M_divide_59 (by decide) ?_
      refine lv_iload_n hx hb d_M_divide_61 rfl (lv_at hl 2 rfl) ?_
      refine cs_i (W.runS (As := [.int (f_M_register reg (0 : Int32))]) (rest := [.int (7 : Int32), .ref h0]) ⟨hx, hb, hml, hown, hk⟩ (c_W_sign l (f_M_register reg (0 : Int32))) (s_W_sign hk k_269 ⟨Nat.le_of_ble_eq_true rfl, Nat.le_of_ble_eq_true rfl⟩) ⟨fun a U g mk q => q, fun U hU hW => ⟨rfl, trivial⟩⟩ rfl rfl hl.1 rfl (lv_room (Nat.le_of_ble_eq_true rfl)) d_M_divide_62 ⟨Nat.le_of_ble_eq_true rfl, Nat.le_of_ble_eq_true rfl⟩) ?_
      refine lv_lload hx hb d_M_divide_65 (lv_at hl 0 rfl) ?_
      refine lv_iload_n hx hb d_M_divide_67 rfl (lv_at hl 1 rfl) ?_
      refine lv_i2l (v := ((f_W_size a1) : Int32).toInt64) hx hb d_M_divide_68 rfl ?_
      refine lv_lrem hx hb d_M_divide_69 (i2l_ne c1) ?_
      refine lv_l2i (v := (((f_M_sizeOfAX reg ) - (f_M_sizeOfAX reg ) / ((f_W_size a1) : Int32).toInt64 * ((f_W_size a1) : Int32).toInt64) : Int64).toInt32) hx hb d_M_divide_70 rfl ?_
      refine cs_i (W.runS (As := [.int (f_W_sign (f_M_register reg (0 : Int32))), .int (((f_M_sizeOfAX reg ) - (f_M_sizeOfAX reg ) / ((f_W_size a1) : Int32).toInt64 * ((f_W_size a1) : Int32).toInt64) : Int64).toInt32]) (rest := [.int (7 : Int32), .ref h0]) ⟨hx, hb, hml, hown, hk⟩ (c_W_make l (f_W_sign (f_M_register reg (0 : Int32))) (((f_M_sizeOfAX reg ) - (f_M_sizeOfAX reg ) / ((f_W_size a1) : Int32).toInt64 * ((f_W_size a1) : Int32).toInt64) : Int64).toInt32) (s_W_make hk k_370 ⟨Nat.le_of_ble_eq_true rfl, Nat.le_of_ble_eq_true rfl⟩) ⟨fun a U g mk q => q, fun U hU hW => ⟨rfl, trivial⟩⟩ rfl rfl hl.1 rfl (lv_room (Nat.le_of_ble_eq_true rfl)) d_M_divide_71 ⟨Nat.le_of_ble_eq_true rfl, Nat.le_of_ble_eq_true rfl⟩) ?_
      refine ca_v (va_runV (C := "SignMachine$Machine") (As := [.int (7 : Int32), .int (f_W_make (f_W_sign (f_M_register reg (0 : Int32))) (((f_M_sizeOfAX reg ) - (f_M_sizeOfAX reg ) / ((f_W_size a1) : Int32).toInt64 * ((f_W_size a1) : Int32).toInt64) : Int64).toInt32)]) (rest := []) ⟨hx, hb, hml, hown, hk⟩ (c_M_putRegister l D cI cJ cZ cB h0 h1 h2 h3 h4 H.size tog ind tim nxt enD cod fld idx mm soz mem regz3 p1 w1 p2 w2 TL (7 : Int32) (f_W_make (f_W_sign (f_M_register reg (0 : Int32))) (((f_M_sizeOfAX reg ) - (f_M_sizeOfAX reg ) / ((f_W_size a1) : Int32).toInt64 * ((f_W_size a1) : Int32).toInt64) : Int64).toInt32)) (v_M_putRegister hk k_362 ⟨Nat.le_of_ble_eq_true rfl, Nat.le_of_ble_eq_true rfl⟩) (pM_v hK hP hD (ci := 1) (q0 := 0) rfl rfl rfl) rfl rfl hl.1 rfl (lv_room (Nat.le_of_ble_eq_true rfl)) d_M_divide_74 ⟨Nat.le_of_ble_eq_true rfl, Nat.le_of_ble_eq_true rfl⟩) hS hA hD (fun u H locs hz4 hP hS => ?_)
      obtain ⟨regz4, hu⟩ : ∃ y, y = u := ⟨_, rfl⟩
      subst hu
      have hP : va_P D classes (mW cI cJ cZ cB h0 h1 h2 h3 h4 tog ind tim nxt enD cod fld idx mm soz mem regz4 p1 w1 p2 w2 TL) H := hP
      have hD : va_D A (mW cI cJ cZ cB h0 h1 h2 h3 h4 tog ind tim nxt enD cod fld idx mm soz mem regz4 p1 w1 p2 w2 TL) := dsame hD rfl
      try dsimp only at hz4
      exact W.vret hx hb hr (fun t ht hW => ⟨⟨(tog, regz4), rfl, by simp only [f_M_divide, if_neg c1, if_pos c2, ← hz3, ← hz4], by show va_P D classes _ t.heap; rw [ht]; exact hP⟩, hS.F ht⟩) hS.2.2 d_M_divide_77
    · refine lv_aload_n hx hb d_M_divide_23 rfl (lv_at hl 2 rfl) ?_
      refine lv_iconst (v := 1) hx hb d_M_divide_24 (by decide) ?_
      refine va_put (D := D) (ci := 1) (v := .int (1 : Int32)) (ty := .boolean) (C := "SignMachine$Machine") (T := F_M) (N := 14) hx hb hk fi_M ft_M ft_M_ok fn_M hown hK.1 hP hD hS 0 rfl rfl 4 (by decide) (hk _ k_168) (fun _ h9 => h9) rfl (by decide +kernel) rfl rfl (Nat.le_of_ble_eq_true rfl) d_M_divide_25 (fun H locs hP hD hS => ?_)
      have hP : va_P D classes (mW cI cJ cZ cB h0 h1 h2 h3 h4 (1 : Int32) ind tim nxt enD cod fld idx mm soz mem reg p1 w1 p2 w2 TL) H := hP
      have hD : va_D A (mW cI cJ cZ cB h0 h1 h2 h3 h4 (1 : Int32) ind tim nxt enD cod fld idx mm soz mem reg p1 w1 p2 w2 TL) := hD
      exact W.vret hx hb hr (fun t ht hW => ⟨⟨((1 : Int32), reg), rfl, by simp only [f_M_divide, if_neg c1, if_neg c2], by show va_P D classes _ t.heap; rw [ht]; exact hP⟩, hS.F ht⟩) hS.2.2 d_M_divide_28
theorem v_M_divide {R : Room} {s : State} {args : Array Value} {own : String} {index : Nat} (hk : ∀ w ∈ tb, w.before args s = true) (hl : Cond.methodLink own index y_M_divide ∈ tb) (hR : 2 + 1 ≤ R.frames ∧ 8 + (6 + 11) + 41 ≤ R.locals) : CallW R s args own "SignMachine$Machine" index y_M_divide b_M_divide 6 none (.code y_M_divide b_M_divide 6 none :: tb) ({ frames := 2, cells := 0, slots := 0, locals := 41 }) 0 0 1 := mk_v 1 hk k_374 hl k_373 k_15 k_117 rfl rfl h_M_divide hR
def f_M_shift (fld : Int32) (mm : Int32) (reg : Nat → Int32)  : (Nat → Int32) := (if (1 : Int32) < fld then (if fld = (2 : Int32) then (match (f_M_putSizesOfAX reg ((f_M_sizeOfAX reg ) <<< ((((6 : Int32) * (if (10 : Int32) < mm then (10 : Int32) else mm)) : Int32).toInt64 &&& 63))) with | (regz3) => (regz3)) else (if fld = (3 : Int32) then (match (f_M_putSizesOfAX reg ((f_M_sizeOfAX reg ) >>> ((((6 : Int32) * (if (10 : Int32) < mm then (10 : Int32) else mm)) : Int32).toInt64 &&& 63))) with | (regz5) => (regz5)) else (if fld = (4 : Int32) then (match (f_M_putSizesOfAX reg (((f_M_sizeOfAX reg ) <<< ((((6 : Int32) * (mm - mm / (10 : Int32) * (10 : Int32))) : Int32).toInt64 &&& 63)) ||| ((f_M_sizeOfAX reg ) >>> ((((60 : Int32) - ((6 : Int32) * (mm - mm / (10 : Int32) * (10 : Int32)))) : Int32).toInt64 &&& 63)))) with | (regz7) => (regz7)) else (match (f_M_putSizesOfAX reg (((f_M_sizeOfAX reg ) >>> ((((6 : Int32) * (mm - mm / (10 : Int32) * (10 : Int32))) : Int32).toInt64 &&& 63)) ||| ((f_M_sizeOfAX reg ) <<< ((((60 : Int32) - ((6 : Int32) * (mm - mm / (10 : Int32) * (10 : Int32)))) : Int32).toInt64 &&& 63)))) with | (regz8) => (regz8))))) else (if fld = (0 : Int32) then (match (f_M_putRegister reg (0 : Int32) (f_W_make (f_W_sign (f_M_register reg (0 : Int32))) (((((f_W_size (f_M_register reg (0 : Int32))) : Int32).toInt64 <<< ((((6 : Int32) * (if (5 : Int32) < mm then (5 : Int32) else mm)) : Int32).toInt64 &&& 63)) : Int64).toInt32 &&& (1073741823 : Int32)))) with | (regz11) => (regz11)) else (match (f_M_putRegister reg (0 : Int32) (f_W_make (f_W_sign (f_M_register reg (0 : Int32))) (((((f_W_size (f_M_register reg (0 : Int32))) : Int32).toInt64 >>> ((((6 : Int32) * (if (5 : Int32) < mm then (5 : Int32) else mm)) : Int32).toInt64 &&& 63)) : Int64).toInt32 &&& (1073741823 : Int32)))) with | (regz10) => (regz10))))
set_option maxHeartbeats 4000000 in
set_option maxRecDepth 100000 in
theorem c_M_shift (l : Launch) (D : va_G) (cI cJ cZ cB : ClassId) (h0 h1 h2 h3 h4 : Nat) (sz : Nat) (tog : Int32) (ind : Int32) (tim : Int32) (nxt : Int32) (enD : Int32) (cod : Int32) (fld : Int32) (idx : Int32) (mm : Int32) (soz : Int32) (mem : Nat → Int32) (reg : Nat → Int32) (p1 : Int32) (w1 : Option Nat) (p2 : Int32) (w2 : Option Nat) (TL : va_W)  : Met l y_M_shift (.code y_M_shift b_M_shift 5 none :: tb) ({ frames := 2, cells := 0, slots := 0, locals := 46 }) (pM D cI cJ cZ cB (mW cI cJ cZ cB h0 h1 h2 h3 h4 tog ind tim nxt enD cod fld idx mm soz mem reg p1 w1 p2 w2 TL) sz [.ref h0]) (qV D (fun u => u = f_M_shift fld mm reg) (fun (u : (Nat → Int32)) => match u with | u_reg => (mW cI cJ cZ cB h0 h1 h2 h3 h4 tog ind tim nxt enD cod fld idx mm soz mem u_reg p1 w1 p2 w2 TL)) (va_A (mW cI cJ cZ cB h0 h1 h2 h3 h4 tog ind tim nxt enD cod fld idx mm soz mem reg p1 w1 p2 w2 TL) sz)) 0 0 (va_A (mW cI cJ cZ cB h0 h1 h2 h3 h4 tog ind tim nxt enD cod fld idx mm soz mem reg p1 w1 p2 w2 TL) sz) := by
  refine Met.ofW (cc := b_M_shift) (maxL := 5) (ret := none) (by decide) rfl ?_
  intro p e s m args below meth c s₁ B hml hv
  obtain ⟨rfl, hsz, hK, hP, hD0⟩ := hv
  subst hsz
  have hD := hD0.self (sz := s.heap.size)
  generalize hAe : va_A (mW cI cJ cZ cB h0 h1 h2 h3 h4 tog ind tim nxt enD cod fld idx mm soz mem reg p1 w1 p2 w2 TL) s.heap.size = A at hD ⊢
  have hA : ∀ q : Nat, s.heap.size ≤ q → A q := fun q h => by rw [← hAe]; exact Or.inr h
  have hS : va_S A s.heap s.heap [] := va_S.rf
  have hx := B.exec
  have hb := B.bytes
  have hr := B.returns
  have hts := atoms_spec (ws := .code y_M_shift b_M_shift 5 none :: tb) B.pre
  have hk : ∀ w ∈ tb, w.before [.ref h0].toArray s = true := fun w h => hts w (List.mem_cons_of_mem _ h)
  have hown : s.vm.findClass "SignMachine$Machine" = some m.cls := findClass_of_methodNamed B.named
  have hlocks := B.notSynchronized
  have hl := lv_entry ([.ref h0]) (n := 5) (Nat.le_of_ble_eq_true rfl)
  rw [lg_entry_eq]
  generalize (lg_sl ([.ref h0]) ++ List.replicate (5 - (lg_sl ([.ref h0])).length) Slot.unset).toArray = ls at hl ⊢
  have hl : lv_has ls 5 [(0, .ref h0)] := hl
  refine lv_aload_n hx hb d_M_shift_0 rfl (lv_at hl 0 rfl) ?_
  refine va_get (D := D) (ci := 1) (v := .int fld) (C := "SignMachine$Machine") (T := F_M) (N := 14) hx hb hk fi_M hown hK.1 hP 0 rfl rfl 10 (by decide) (hk _ k_177) (fun _ h9 => h9) rfl d_M_shift_1 ?_
  refine lv_iconst (v := 1) hx hb d_M_shift_4 (by decide) ?_
  refine lv_icmp_gt (tgt := 69) hx hb d_M_shift_5 (by decide) (fun c1 => ?_) (fun c1 => ?_)
  · refine lv_bipush (v := 6) hx hb d_M_shift_69 (by decide) ?_
    refine lv_aload_n hx hb d_M_shift_71 rfl (lv_at hl 0 rfl) ?_
    refine va_get (D := D) (ci := 1) (v := .int mm) (C := "SignMachine$Machine") (T := F_M) (N := 14) hx hb hk fi_M hown hK.1 hP 0 rfl rfl 12 (by decide) (hk _ k_179) (fun _ h9 => h9) rfl d_M_shift_72 ?_
    refine lv_bipush (v := 10) hx hb d_M_shift_75 (by decide) ?_
    refine va_mmin hx hb (hml.trans hl.1.symm) hown (hk _ k_403) (hk _ k_404) (hk _ k_121) (hk _ k_minc) (Nat.le_of_ble_eq_true rfl) (Nat.le_of_ble_eq_true rfl) (Nat.zero_le _) (Nat.zero_le _) d_M_shift_77 ?_
    refine lv_imul hx hb d_M_shift_80 ?_
    refine lv_istore_n (lv' := [(1, .int ((6 : Int32) * (if (10 : Int32) < mm then (10 : Int32) else mm))), (0, .ref h0)]) hx hb d_M_shift_81 rfl hl (by decide) rfl (fun ls hl => ?_)
    refine lv_bipush (v := 6) hx hb d_M_shift_82 (by decide) ?_
    refine lv_aload_n hx hb d_M_shift_84 rfl (lv_at hl 1 rfl) ?_
    refine va_get (D := D) (ci := 1) (v := .int mm) (C := "SignMachine$Machine") (T := F_M) (N := 14) hx hb hk fi_M hown hK.1 hP 0 rfl rfl 12 (by decide) (hk _ k_179) (fun _ h9 => h9) rfl d_M_shift_85 ?_
    refine lv_bipush (v := 10) hx hb d_M_shift_88 (by decide) ?_
    refine lv_irem hx hb d_M_shift_90 (by decide) ?_
    refine lv_imul hx hb d_M_shift_91 ?_
    refine lv_istore_n (lv' := [(2, .int ((6 : Int32) * (mm - mm / (10 : Int32) * (10 : Int32)))), (1, .int ((6 : Int32) * (if (10 : Int32) < mm then (10 : Int32) else mm))), (0, .ref h0)]) hx hb d_M_shift_92 rfl hl (by decide) rfl (fun ls hl => ?_)
    refine lv_aload_n hx hb d_M_shift_93 rfl (lv_at hl 2 rfl) ?_
    refine cs_l (W.runV (C := "SignMachine$Machine") (As := []) (rest := []) ⟨hx, hb, hml, hown, hk⟩ (c_M_sizeOfAX l D cI cJ cZ cB h0 h1 h2 h3 h4 tog ind tim nxt enD cod fld idx mm soz mem reg p1 w1 p2 w2 TL ) (v_M_sizeOfAX hk k_375 ⟨Nat.le_of_ble_eq_true rfl, Nat.le_of_ble_eq_true rfl⟩) (pR_v hK hP (ci := 1) (q0 := 0) rfl rfl rfl) rfl rfl hl.1 rfl (lv_room (Nat.le_of_ble_eq_true rfl)) d_M_shift_94 ⟨Nat.le_of_ble_eq_true rfl, Nat.le_of_ble_eq_true rfl⟩) ?_
    refine lv_lstore_n (lv' := [(3, .long (f_M_sizeOfAX reg )), (2, .int ((6 : Int32) * (mm - mm / (10 : Int32) * (10 : Int32)))), (1, .int ((6 : Int32) * (if (10 : Int32) < mm then (10 : Int32) else mm))), (0, .ref h0)]) hx hb d_M_shift_97 rfl hl (by decide) rfl (fun ls hl => ?_)
    refine lv_aload_n hx hb d_M_shift_98 rfl (lv_at hl 3 rfl) ?_
    refine va_get (D := D) (ci := 1) (v := .int fld) (C := "SignMachine$Machine") (T := F_M) (N := 14) hx hb hk fi_M hown hK.1 hP 0 rfl rfl 10 (by decide) (hk _ k_177) (fun _ h9 => h9) rfl d_M_shift_99 ?_
    by_cases c2 : fld = (2 : Int32)
    · refine lv_tableIn (off := 26) (tgt := 128) hx hb d_M_shift_102 (by rw [c2]; decide) (by rw [c2]; decide) (by rw [c2]; rfl) (by decide) ?_
      refine lv_lload_n hx hb d_M_shift_128 rfl (lv_at hl 0 rfl) ?_
      refine lv_iload_n hx hb d_M_shift_129 rfl (lv_at hl 2 rfl) ?_
      refine lv_lshl (v := ((f_M_sizeOfAX reg ) <<< ((((6 : Int32) * (if (10 : Int32) < mm then (10 : Int32) else mm)) : Int32).toInt64 &&& 63))) hx hb d_M_shift_130 rfl ?_
      refine lv_lstore_n (lv' := [(3, .long ((f_M_sizeOfAX reg ) <<< ((((6 : Int32) * (if (10 : Int32) < mm then (10 : Int32) else mm)) : Int32).toInt64 &&& 63))), (2, .int ((6 : Int32) * (mm - mm / (10 : Int32) * (10 : Int32)))), (1, .int ((6 : Int32) * (if (10 : Int32) < mm then (10 : Int32) else mm))), (0, .ref h0)]) hx hb d_M_shift_131 rfl hl (by decide) rfl (fun ls hl => ?_)
      refine lv_goto (tgt := 167) hx hb d_M_shift_132 (by decide) ?_
      refine lv_aload_n hx hb d_M_shift_167 rfl (lv_at hl 3 rfl) ?_
      refine lv_lload_n hx hb d_M_shift_168 rfl (lv_at hl 0 rfl) ?_
      refine ca_v (va_runV (C := "SignMachine$Machine") (As := [.long ((f_M_sizeOfAX reg ) <<< ((((6 : Int32) * (if (10 : Int32) < mm then (10 : Int32) else mm)) : Int32).toInt64 &&& 63))]) (rest := []) ⟨hx, hb, hml, hown, hk⟩ (c_M_putSizesOfAX l D cI cJ cZ cB h0 h1 h2 h3 h4 s.heap.size tog ind tim nxt enD cod fld idx mm soz mem reg p1 w1 p2 w2 TL ((f_M_sizeOfAX reg ) <<< ((((6 : Int32) * (if (10 : Int32) < mm then (10 : Int32) else mm)) : Int32).toInt64 &&& 63))) (v_M_putSizesOfAX hk k_395 ⟨Nat.le_of_ble_eq_true rfl, Nat.le_of_ble_eq_true rfl⟩) (pM_v hK hP hD (ci := 1) (q0 := 0) rfl rfl rfl) rfl rfl hl.1 rfl (lv_room (Nat.le_of_ble_eq_true rfl)) d_M_shift_169 ⟨Nat.le_of_ble_eq_true rfl, Nat.le_of_ble_eq_true rfl⟩) hS hA hD (fun u H locs hz3 hP hS => ?_)
      obtain ⟨regz3, hu⟩ : ∃ y, y = u := ⟨_, rfl⟩
      subst hu
      have hP : va_P D classes (mW cI cJ cZ cB h0 h1 h2 h3 h4 tog ind tim nxt enD cod fld idx mm soz mem regz3 p1 w1 p2 w2 TL) H := hP
      have hD : va_D A (mW cI cJ cZ cB h0 h1 h2 h3 h4 tog ind tim nxt enD cod fld idx mm soz mem regz3 p1 w1 p2 w2 TL) := dsame hD rfl
      try dsimp only at hz3
      exact W.vret hx hb hr (fun t ht hW => ⟨⟨(regz3), rfl, by simp only [f_M_shift, if_pos c1, if_pos c2, ← hz3], by show va_P D classes _ t.heap; rw [ht]; exact hP⟩, hS.F ht⟩) hS.2.2 d_M_shift_172
    · by_cases c4 : fld = (3 : Int32)
      · refine lv_tableIn (off := 33) (tgt := 135) hx hb d_M_shift_102 (by rw [c4]; decide) (by rw [c4]; decide) (by rw [c4]; rfl) (by decide) ?_
        refine lv_lload_n hx hb d_M_shift_135 rfl (lv_at hl 0 rfl) ?_
        refine lv_iload_n hx hb d_M_shift_136 rfl (lv_at hl 2 rfl) ?_
        refine lv_lshr (v := ((f_M_sizeOfAX reg ) >>> ((((6 : Int32) * (if (10 : Int32) < mm then (10 : Int32) else mm)) : Int32).toInt64 &&& 63))) hx hb d_M_shift_137 rfl ?_
        refine lv_lstore_n (lv' := [(3, .long ((f_M_sizeOfAX reg ) >>> ((((6 : Int32) * (if (10 : Int32) < mm then (10 : Int32) else mm)) : Int32).toInt64 &&& 63))), (2, .int ((6 : Int32) * (mm - mm / (10 : Int32) * (10 : Int32)))), (1, .int ((6 : Int32) * (if (10 : Int32) < mm then (10 : Int32) else mm))), (0, .ref h0)]) hx hb d_M_shift_138 rfl hl (by decide) rfl (fun ls hl => ?_)
        refine lv_goto (tgt := 167) hx hb d_M_shift_139 (by decide) ?_
        refine lv_aload_n hx hb d_M_shift_167 rfl (lv_at hl 3 rfl) ?_
        refine lv_lload_n hx hb d_M_shift_168 rfl (lv_at hl 0 rfl) ?_
        refine ca_v (va_runV (C := "SignMachine$Machine") (As := [.long ((f_M_sizeOfAX reg ) >>> ((((6 : Int32) * (if (10 : Int32) < mm then (10 : Int32) else mm)) : Int32).toInt64 &&& 63))]) (rest := []) ⟨hx, hb, hml, hown, hk⟩ (c_M_putSizesOfAX l D cI cJ cZ cB h0 h1 h2 h3 h4 s.heap.size tog ind tim nxt enD cod fld idx mm soz mem reg p1 w1 p2 w2 TL ((f_M_sizeOfAX reg ) >>> ((((6 : Int32) * (if (10 : Int32) < mm then (10 : Int32) else mm)) : Int32).toInt64 &&& 63))) (v_M_putSizesOfAX hk k_395 ⟨Nat.le_of_ble_eq_true rfl, Nat.le_of_ble_eq_true rfl⟩) (pM_v hK hP hD (ci := 1) (q0 := 0) rfl rfl rfl) rfl rfl hl.1 rfl (lv_room (Nat.le_of_ble_eq_true rfl)) d_M_shift_169 ⟨Nat.le_of_ble_eq_true rfl, Nat.le_of_ble_eq_true rfl⟩) hS hA hD (fun u H locs hz5 hP hS => ?_)
        obtain ⟨regz5, hu⟩ : ∃ y, y = u := ⟨_, rfl⟩
        subst hu
        have hP : va_P D classes (mW cI cJ cZ cB h0 h1 h2 h3 h4 tog ind tim nxt enD cod fld idx mm soz mem regz5 p1 w1 p2 w2 TL) H := hP
        have hD : va_D A (mW cI cJ cZ cB h0 h1 h2 h3 h4 tog ind tim nxt enD cod fld idx mm soz mem regz5 p1 w1 p2 w2 TL) := dsame hD rfl
        try dsimp only at hz5
        exact W.vret hx hb hr (fun t ht hW => ⟨⟨(regz5), rfl, by simp only [f_M_shift, if_pos c1, if_neg c2, if_pos c4, ← hz5], by show va_P D classes _ t.heap; rw [ht]; exact hP⟩, hS.F ht⟩) hS.2.2 d_M_shift_172
      · by_cases c6 : fld = (4 : Int32)
        · refine lv_tableIn (off := 40) (tgt := 142) hx hb d_M_shift_102 (by rw [c6]; decide) (by rw [c6]; decide) (by rw [c6]; rfl) (by decide) ?_
          refine lv_lload_n hx hb d_M_shift_142 rfl (lv_at hl 0 rfl) ?_
          refine lv_iload_n hx hb d_M_shift_143 rfl (lv_at hl 1 rfl) ?_
          refine lv_lshl (v := ((f_M_sizeOfAX reg ) <<< ((((6 : Int32) * (mm - mm / (10 : Int32) * (10 : Int32))) : Int32).toInt64 &&& 63))) hx hb d_M_shift_144 rfl ?_
          refine lv_lload_n hx hb d_M_shift_145 rfl (lv_at hl 0 rfl) ?_
          refine lv_bipush (v := 60) hx hb d_M_shift_146 (by decide) ?_
          refine lv_iload_n hx hb d_M_shift_148 rfl (lv_at hl 1 rfl) ?_
          refine lv_isub hx hb d_M_shift_149 ?_
          refine lv_lshr (v := ((f_M_sizeOfAX reg ) >>> ((((60 : Int32) - ((6 : Int32) * (mm - mm / (10 : Int32) * (10 : Int32)))) : Int32).toInt64 &&& 63))) hx hb d_M_shift_150 rfl ?_
          refine lv_lor hx hb d_M_shift_151 ?_
          refine lv_lstore_n (lv' := [(3, .long (((f_M_sizeOfAX reg ) <<< ((((6 : Int32) * (mm - mm / (10 : Int32) * (10 : Int32))) : Int32).toInt64 &&& 63)) ||| ((f_M_sizeOfAX reg ) >>> ((((60 : Int32) - ((6 : Int32) * (mm - mm / (10 : Int32) * (10 : Int32)))) : Int32).toInt64 &&& 63)))), (2, .int ((6 : Int32) * (mm - mm / (10 : Int32) * (10 : Int32)))), (1, .int ((6 : Int32) * (if (10 : Int32) < mm then (10 : Int32) else mm))), (0, .ref h0)]) hx hb d_M_shift_152 rfl hl (by decide) rfl (fun ls hl => ?_)
          refine lv_goto (tgt := 167) hx hb d_M_shift_153 (by decide) ?_
          refine lv_aload_n hx hb d_M_shift_167 rfl (lv_at hl 3 rfl) ?_
          refine lv_lload_n hx hb d_M_shift_168 rfl (lv_at hl 0 rfl) ?_
          refine ca_v (va_runV (C := "SignMachine$Machine") (As := [.long (((f_M_sizeOfAX reg ) <<< ((((6 : Int32) * (mm - mm / (10 : Int32) * (10 : Int32))) : Int32).toInt64 &&& 63)) ||| ((f_M_sizeOfAX reg ) >>> ((((60 : Int32) - ((6 : Int32) * (mm - mm / (10 : Int32) * (10 : Int32)))) : Int32).toInt64 &&& 63)))]) (rest := []) ⟨hx, hb, hml, hown, hk⟩ (c_M_putSizesOfAX l D cI cJ cZ cB h0 h1 h2 h3 h4 s.heap.size tog ind tim nxt enD cod fld idx mm soz mem reg p1 w1 p2 w2 TL (((f_M_sizeOfAX reg ) <<< ((((6 : Int32) * (mm - mm / (10 : Int32) * (10 : Int32))) : Int32).toInt64 &&& 63)) ||| ((f_M_sizeOfAX reg ) >>> ((((60 : Int32) - ((6 : Int32) * (mm - mm / (10 : Int32) * (10 : Int32)))) : Int32).toInt64 &&& 63)))) (v_M_putSizesOfAX hk k_395 ⟨Nat.le_of_ble_eq_true rfl, Nat.le_of_ble_eq_true rfl⟩) (pM_v hK hP hD (ci := 1) (q0 := 0) rfl rfl rfl) rfl rfl hl.1 rfl (lv_room (Nat.le_of_ble_eq_true rfl)) d_M_shift_169 ⟨Nat.le_of_ble_eq_true rfl, Nat.le_of_ble_eq_true rfl⟩) hS hA hD (fun u H locs hz7 hP hS => ?_)
          obtain ⟨regz7, hu⟩ : ∃ y, y = u := ⟨_, rfl⟩
          subst hu
          have hP : va_P D classes (mW cI cJ cZ cB h0 h1 h2 h3 h4 tog ind tim nxt enD cod fld idx mm soz mem regz7 p1 w1 p2 w2 TL) H := hP
          have hD : va_D A (mW cI cJ cZ cB h0 h1 h2 h3 h4 tog ind tim nxt enD cod fld idx mm soz mem regz7 p1 w1 p2 w2 TL) := dsame hD rfl
          try dsimp only at hz7
          exact W.vret hx hb hr (fun t ht hW => ⟨⟨(regz7), rfl, by simp only [f_M_shift, if_pos c1, if_neg c2, if_neg c4, if_pos c6, ← hz7], by show va_P D classes _ t.heap; rw [ht]; exact hP⟩, hS.F ht⟩) hS.2.2 d_M_shift_172
        · refine lv_tableOut (tgt := 156) hx hb d_M_shift_102 (by have e0 := lv_neT c2 (a := 2) rfl; have e1 := lv_neT c4 (a := 3) rfl; have e2 := lv_neT c6 (a := 4) rfl; omega) (by decide) ?_
          refine lv_lload_n hx hb d_M_shift_156 rfl (lv_at hl 0 rfl) ?_
          refine lv_iload_n hx hb d_M_shift_157 rfl (lv_at hl 1 rfl) ?_
          refine lv_lshr (v := ((f_M_sizeOfAX reg ) >>> ((((6 : Int32) * (mm - mm / (10 : Int32) * (10 : Int32))) : Int32).toInt64 &&& 63))) hx hb d_M_shift_158 rfl ?_
          refine lv_lload_n hx hb d_M_shift_159 rfl (lv_at hl 0 rfl) ?_
          refine lv_bipush (v := 60) hx hb d_M_shift_160 (by decide) ?_
          refine lv_iload_n hx hb d_M_shift_162 rfl (lv_at hl 1 rfl) ?_
          refine lv_isub hx hb d_M_shift_163 ?_
          refine lv_lshl (v := ((f_M_sizeOfAX reg ) <<< ((((60 : Int32) - ((6 : Int32) * (mm - mm / (10 : Int32) * (10 : Int32)))) : Int32).toInt64 &&& 63))) hx hb d_M_shift_164 rfl ?_
          refine lv_lor hx hb d_M_shift_165 ?_
          refine lv_lstore_n (lv' := [(3, .long (((f_M_sizeOfAX reg ) >>> ((((6 : Int32) * (mm - mm / (10 : Int32) * (10 : Int32))) : Int32).toInt64 &&& 63)) ||| ((f_M_sizeOfAX reg ) <<< ((((60 : Int32) - ((6 : Int32) * (mm - mm / (10 : Int32) * (10 : Int32)))) : Int32).toInt64 &&& 63)))), (2, .int ((6 : Int32) * (mm - mm / (10 : Int32) * (10 : Int32)))), (1, .int ((6 : Int32) * (if (10 : Int32) < mm then (10 : Int32) else mm))), (0, .ref h0)]) hx hb d_M_shift_166 rfl hl (by decide) rfl (fun ls hl => ?_)
          refine lv_aload_n hx hb d_M_shift_167 rfl (lv_at hl 3 rfl) ?_
          refine lv_lload_n hx hb d_M_shift_168 rfl (lv_at hl 0 rfl) ?_
          refine ca_v (va_runV (C := "SignMachine$Machine") (As := [.long (((f_M_sizeOfAX reg ) >>> ((((6 : Int32) * (mm - mm / (10 : Int32) * (10 : Int32))) : Int32).toInt64 &&& 63)) ||| ((f_M_sizeOfAX reg ) <<< ((((60 : Int32) - ((6 : Int32) * (mm - mm / (10 : Int32) * (10 : Int32)))) : Int32).toInt64 &&& 63)))]) (rest := []) ⟨hx, hb, hml, hown, hk⟩ (c_M_putSizesOfAX l D cI cJ cZ cB h0 h1 h2 h3 h4 s.heap.size tog ind tim nxt enD cod fld idx mm soz mem reg p1 w1 p2 w2 TL (((f_M_sizeOfAX reg ) >>> ((((6 : Int32) * (mm - mm / (10 : Int32) * (10 : Int32))) : Int32).toInt64 &&& 63)) ||| ((f_M_sizeOfAX reg ) <<< ((((60 : Int32) - ((6 : Int32) * (mm - mm / (10 : Int32) * (10 : Int32)))) : Int32).toInt64 &&& 63)))) (v_M_putSizesOfAX hk k_395 ⟨Nat.le_of_ble_eq_true rfl, Nat.le_of_ble_eq_true rfl⟩) (pM_v hK hP hD (ci := 1) (q0 := 0) rfl rfl rfl) rfl rfl hl.1 rfl (lv_room (Nat.le_of_ble_eq_true rfl)) d_M_shift_169 ⟨Nat.le_of_ble_eq_true rfl, Nat.le_of_ble_eq_true rfl⟩) hS hA hD (fun u H locs hz8 hP hS => ?_)
          obtain ⟨regz8, hu⟩ : ∃ y, y = u := ⟨_, rfl⟩
          subst hu
          have hP : va_P D classes (mW cI cJ cZ cB h0 h1 h2 h3 h4 tog ind tim nxt enD cod fld idx mm soz mem regz8 p1 w1 p2 w2 TL) H := hP
          have hD : va_D A (mW cI cJ cZ cB h0 h1 h2 h3 h4 tog ind tim nxt enD cod fld idx mm soz mem regz8 p1 w1 p2 w2 TL) := dsame hD rfl
          try dsimp only at hz8
          exact W.vret hx hb hr (fun t ht hW => ⟨⟨(regz8), rfl, by simp only [f_M_shift, if_pos c1, if_neg c2, if_neg c4, if_neg c6, ← hz8], by show va_P D classes _ t.heap; rw [ht]; exact hP⟩, hS.F ht⟩) hS.2.2 d_M_shift_172
  · refine lv_bipush (v := 6) hx hb d_M_shift_8 (by decide) ?_
    refine lv_aload_n hx hb d_M_shift_10 rfl (lv_at hl 0 rfl) ?_
    refine va_get (D := D) (ci := 1) (v := .int mm) (C := "SignMachine$Machine") (T := F_M) (N := 14) hx hb hk fi_M hown hK.1 hP 0 rfl rfl 12 (by decide) (hk _ k_179) (fun _ h9 => h9) rfl d_M_shift_11 ?_
    refine lv_iconst (v := 5) hx hb d_M_shift_14 (by decide) ?_
    refine va_mmin hx hb (hml.trans hl.1.symm) hown (hk _ k_403) (hk _ k_404) (hk _ k_121) (hk _ k_minc) (Nat.le_of_ble_eq_true rfl) (Nat.le_of_ble_eq_true rfl) (Nat.zero_le _) (Nat.zero_le _) d_M_shift_15 ?_
    refine lv_imul hx hb d_M_shift_18 ?_
    refine lv_istore_n (lv' := [(1, .int ((6 : Int32) * (if (5 : Int32) < mm then (5 : Int32) else mm))), (0, .ref h0)]) hx hb d_M_shift_19 rfl hl (by decide) rfl (fun ls hl => ?_)
    refine lv_aload_n hx hb d_M_shift_20 rfl (lv_at hl 1 rfl) ?_
    refine lv_iconst (v := 0) hx hb d_M_shift_21 (by decide) ?_
    refine cs_i (W.runV (C := "SignMachine$Machine") (As := [.int (0 : Int32)]) (rest := []) ⟨hx, hb, hml, hown, hk⟩ (c_M_register l D cI cJ cZ cB h0 h1 h2 h3 h4 tog ind tim nxt enD cod fld idx mm soz mem reg p1 w1 p2 w2 TL (0 : Int32)) (v_M_register hk k_273 ⟨Nat.le_of_ble_eq_true rfl, Nat.le_of_ble_eq_true rfl⟩) (pR_v hK hP (ci := 1) (q0 := 0) rfl rfl rfl) rfl rfl hl.1 rfl (lv_room (Nat.le_of_ble_eq_true rfl)) d_M_shift_22 ⟨Nat.le_of_ble_eq_true rfl, Nat.le_of_ble_eq_true rfl⟩) ?_
    refine cs_i (W.runS (As := [.int (f_M_register reg (0 : Int32))]) (rest := []) ⟨hx, hb, hml, hown, hk⟩ (c_W_size l (f_M_register reg (0 : Int32))) (s_W_size hk k_268 ⟨Nat.le_of_ble_eq_true rfl, Nat.le_of_ble_eq_true rfl⟩) ⟨fun a U g mk q => q, fun U hU hW => ⟨rfl, trivial⟩⟩ rfl rfl hl.1 rfl (lv_room (Nat.le_of_ble_eq_true rfl)) d_M_shift_25 ⟨Nat.le_of_ble_eq_true rfl, Nat.le_of_ble_eq_true rfl⟩) ?_
    refine lv_i2l (v := ((f_W_size (f_M_register reg (0 : Int32))) : Int32).toInt64) hx hb d_M_shift_28 rfl ?_
    refine lv_lstore_n (lv' := [(2, .long ((f_W_size (f_M_register reg (0 : Int32))) : Int32).toInt64), (1, .int ((6 : Int32) * (if (5 : Int32) < mm then (5 : Int32) else mm))), (0, .ref h0)]) hx hb d_M_shift_29 rfl hl (by decide) rfl (fun ls hl => ?_)
    refine lv_aload_n hx hb d_M_shift_30 rfl (lv_at hl 2 rfl) ?_
    refine va_get (D := D) (ci := 1) (v := .int fld) (C := "SignMachine$Machine") (T := F_M) (N := 14) hx hb hk fi_M hown hK.1 hP 0 rfl rfl 10 (by decide) (hk _ k_177) (fun _ h9 => h9) rfl d_M_shift_31 ?_
    refine lv_if_ne (tgt := 43) hx hb d_M_shift_34 (by decide) (fun c9 => ?_) (fun c9 => ?_)
    · refine lv_lload_n hx hb d_M_shift_43 rfl (lv_at hl 0 rfl) ?_
      refine lv_iload_n hx hb d_M_shift_44 rfl (lv_at hl 1 rfl) ?_
      refine lv_lshr (v := (((f_W_size (f_M_register reg (0 : Int32))) : Int32).toInt64 >>> ((((6 : Int32) * (if (5 : Int32) < mm then (5 : Int32) else mm)) : Int32).toInt64 &&& 63))) hx hb d_M_shift_45 rfl ?_
      refine lv_lstore_n (lv' := [(2, .long (((f_W_size (f_M_register reg (0 : Int32))) : Int32).toInt64 >>> ((((6 : Int32) * (if (5 : Int32) < mm then (5 : Int32) else mm)) : Int32).toInt64 &&& 63))), (1, .int ((6 : Int32) * (if (5 : Int32) < mm then (5 : Int32) else mm))), (0, .ref h0)]) hx hb d_M_shift_46 rfl hl (by decide) rfl (fun ls hl => ?_)
      refine lv_aload_n hx hb d_M_shift_47 rfl (lv_at hl 2 rfl) ?_
      refine lv_iconst (v := 0) hx hb d_M_shift_48 (by decide) ?_
      refine lv_aload_n hx hb d_M_shift_49 rfl (lv_at hl 2 rfl) ?_
      refine lv_iconst (v := 0) hx hb d_M_shift_50 (by decide) ?_
      refine cs_i (W.runV (C := "SignMachine$Machine") (As := [.int (0 : Int32)]) (rest := [.int (0 : Int32), .ref h0]) ⟨hx, hb, hml, hown, hk⟩ (c_M_register l D cI cJ cZ cB h0 h1 h2 h3 h4 tog ind tim nxt enD cod fld idx mm soz mem reg p1 w1 p2 w2 TL (0 : Int32)) (v_M_register hk k_273 ⟨Nat.le_of_ble_eq_true rfl, Nat.le_of_ble_eq_true rfl⟩) (pR_v hK hP (ci := 1) (q0 := 0) rfl rfl rfl) rfl rfl hl.1 rfl (lv_room (Nat.le_of_ble_eq_true rfl)) d_M_shift_51 ⟨Nat.le_of_ble_eq_true rfl, Nat.le_of_ble_eq_true rfl⟩) ?_
      refine cs_i (W.runS (As := [.int (f_M_register reg (0 : Int32))]) (rest := [.int (0 : Int32), .ref h0]) ⟨hx, hb, hml, hown, hk⟩ (c_W_sign l (f_M_register reg (0 : Int32))) (s_W_sign hk k_269 ⟨Nat.le_of_ble_eq_true rfl, Nat.le_of_ble_eq_true rfl⟩) ⟨fun a U g mk q => q, fun U hU hW => ⟨rfl, trivial⟩⟩ rfl rfl hl.1 rfl (lv_room (Nat.le_of_ble_eq_true rfl)) d_M_shift_54 ⟨Nat.le_of_ble_eq_true rfl, Nat.le_of_ble_eq_true rfl⟩) ?_
      refine lv_lload_n hx hb d_M_shift_57 rfl (lv_at hl 0 rfl) ?_
      refine lv_l2i (v := ((((f_W_size (f_M_register reg (0 : Int32))) : Int32).toInt64 >>> ((((6 : Int32) * (if (5 : Int32) < mm then (5 : Int32) else mm)) : Int32).toInt64 &&& 63)) : Int64).toInt32) hx hb d_M_shift_58 rfl ?_
      refine lv_ldc (v := 1073741823) hx hb hown (hk _ k_345) d_M_shift_59 ?_
      refine lv_iand hx hb d_M_shift_61 ?_
      refine cs_i (W.runS (As := [.int (f_W_sign (f_M_register reg (0 : Int32))), .int (((((f_W_size (f_M_register reg (0 : Int32))) : Int32).toInt64 >>> ((((6 : Int32) * (if (5 : Int32) < mm then (5 : Int32) else mm)) : Int32).toInt64 &&& 63)) : Int64).toInt32 &&& (1073741823 : Int32))]) (rest := [.int (0 : Int32), .ref h0]) ⟨hx, hb, hml, hown, hk⟩ (c_W_make l (f_W_sign (f_M_register reg (0 : Int32))) (((((f_W_size (f_M_register reg (0 : Int32))) : Int32).toInt64 >>> ((((6 : Int32) * (if (5 : Int32) < mm then (5 : Int32) else mm)) : Int32).toInt64 &&& 63)) : Int64).toInt32 &&& (1073741823 : Int32))) (s_W_make hk k_370 ⟨Nat.le_of_ble_eq_true rfl, Nat.le_of_ble_eq_true rfl⟩) ⟨fun a U g mk q => q, fun U hU hW => ⟨rfl, trivial⟩⟩ rfl rfl hl.1 rfl (lv_room (Nat.le_of_ble_eq_true rfl)) d_M_shift_62 ⟨Nat.le_of_ble_eq_true rfl, Nat.le_of_ble_eq_true rfl⟩) ?_
      refine ca_v (va_runV (C := "SignMachine$Machine") (As := [.int (0 : Int32), .int (f_W_make (f_W_sign (f_M_register reg (0 : Int32))) (((((f_W_size (f_M_register reg (0 : Int32))) : Int32).toInt64 >>> ((((6 : Int32) * (if (5 : Int32) < mm then (5 : Int32) else mm)) : Int32).toInt64 &&& 63)) : Int64).toInt32 &&& (1073741823 : Int32)))]) (rest := []) ⟨hx, hb, hml, hown, hk⟩ (c_M_putRegister l D cI cJ cZ cB h0 h1 h2 h3 h4 s.heap.size tog ind tim nxt enD cod fld idx mm soz mem reg p1 w1 p2 w2 TL (0 : Int32) (f_W_make (f_W_sign (f_M_register reg (0 : Int32))) (((((f_W_size (f_M_register reg (0 : Int32))) : Int32).toInt64 >>> ((((6 : Int32) * (if (5 : Int32) < mm then (5 : Int32) else mm)) : Int32).toInt64 &&& 63)) : Int64).toInt32 &&& (1073741823 : Int32)))) (v_M_putRegister hk k_362 ⟨Nat.le_of_ble_eq_true rfl, Nat.le_of_ble_eq_true rfl⟩) (pM_v hK hP hD (ci := 1) (q0 := 0) rfl rfl rfl) rfl rfl hl.1 rfl (lv_room (Nat.le_of_ble_eq_true rfl)) d_M_shift_65 ⟨Nat.le_of_ble_eq_true rfl, Nat.le_of_ble_eq_true rfl⟩) hS hA hD (fun u H locs hz10 hP hS => ?_)
      obtain ⟨regz10, hu⟩ : ∃ y, y = u := ⟨_, rfl⟩
      subst hu
      have hP : va_P D classes (mW cI cJ cZ cB h0 h1 h2 h3 h4 tog ind tim nxt enD cod fld idx mm soz mem regz10 p1 w1 p2 w2 TL) H := hP
      have hD : va_D A (mW cI cJ cZ cB h0 h1 h2 h3 h4 tog ind tim nxt enD cod fld idx mm soz mem regz10 p1 w1 p2 w2 TL) := dsame hD rfl
      try dsimp only at hz10
      exact W.vret hx hb hr (fun t ht hW => ⟨⟨(regz10), rfl, by simp only [f_M_shift, if_neg c1, if_neg c9, ← hz10], by show va_P D classes _ t.heap; rw [ht]; exact hP⟩, hS.F ht⟩) hS.2.2 d_M_shift_68
    · refine lv_lload_n hx hb d_M_shift_37 rfl (lv_at hl 0 rfl) ?_
      refine lv_iload_n hx hb d_M_shift_38 rfl (lv_at hl 1 rfl) ?_
      refine lv_lshl (v := (((f_W_size (f_M_register reg (0 : Int32))) : Int32).toInt64 <<< ((((6 : Int32) * (if (5 : Int32) < mm then (5 : Int32) else mm)) : Int32).toInt64 &&& 63))) hx hb d_M_shift_39 rfl ?_
      refine lv_goto (tgt := 46) hx hb d_M_shift_40 (by decide) ?_
      refine lv_lstore_n (lv' := [(2, .long (((f_W_size (f_M_register reg (0 : Int32))) : Int32).toInt64 <<< ((((6 : Int32) * (if (5 : Int32) < mm then (5 : Int32) else mm)) : Int32).toInt64 &&& 63))), (1, .int ((6 : Int32) * (if (5 : Int32) < mm then (5 : Int32) else mm))), (0, .ref h0)]) hx hb d_M_shift_46 rfl hl (by decide) rfl (fun ls hl => ?_)
      refine lv_aload_n hx hb d_M_shift_47 rfl (lv_at hl 2 rfl) ?_
      refine lv_iconst (v := 0) hx hb d_M_shift_48 (by decide) ?_
      refine lv_aload_n hx hb d_M_shift_49 rfl (lv_at hl 2 rfl) ?_
      refine lv_iconst (v := 0) hx hb d_M_shift_50 (by decide) ?_
      refine cs_i (W.runV (C := "SignMachine$Machine") (As := [.int (0 : Int32)]) (rest := [.int (0 : Int32), .ref h0]) ⟨hx, hb, hml, hown, hk⟩ (c_M_register l D cI cJ cZ cB h0 h1 h2 h3 h4 tog ind tim nxt enD cod fld idx mm soz mem reg p1 w1 p2 w2 TL (0 : Int32)) (v_M_register hk k_273 ⟨Nat.le_of_ble_eq_true rfl, Nat.le_of_ble_eq_true rfl⟩) (pR_v hK hP (ci := 1) (q0 := 0) rfl rfl rfl) rfl rfl hl.1 rfl (lv_room (Nat.le_of_ble_eq_true rfl)) d_M_shift_51 ⟨Nat.le_of_ble_eq_true rfl, Nat.le_of_ble_eq_true rfl⟩) ?_
      refine cs_i (W.runS (As := [.int (f_M_register reg (0 : Int32))]) (rest := [.int (0 : Int32), .ref h0]) ⟨hx, hb, hml, hown, hk⟩ (c_W_sign l (f_M_register reg (0 : Int32))) (s_W_sign hk k_269 ⟨Nat.le_of_ble_eq_true rfl, Nat.le_of_ble_eq_true rfl⟩) ⟨fun a U g mk q => q, fun U hU hW => ⟨rfl, trivial⟩⟩ rfl rfl hl.1 rfl (lv_room (Nat.le_of_ble_eq_true rfl)) d_M_shift_54 ⟨Nat.le_of_ble_eq_true rfl, Nat.le_of_ble_eq_true rfl⟩) ?_
      refine lv_lload_n hx hb d_M_shift_57 rfl (lv_at hl 0 rfl) ?_
      refine lv_l2i (v := ((((f_W_size (f_M_register reg (0 : Int32))) : Int32).toInt64 <<< ((((6 : Int32) * (if (5 : Int32) < mm then (5 : Int32) else mm)) : Int32).toInt64 &&& 63)) : Int64).toInt32) hx hb d_M_shift_58 rfl ?_
      refine lv_ldc (v := 1073741823) hx hb hown (hk _ k_345) d_M_shift_59 ?_
      refine lv_iand hx hb d_M_shift_61 ?_
      refine cs_i (W.runS (As := [.int (f_W_sign (f_M_register reg (0 : Int32))), .int (((((f_W_size (f_M_register reg (0 : Int32))) : Int32).toInt64 <<< ((((6 : Int32) * (if (5 : Int32) < mm then (5 : Int32) else mm)) : Int32).toInt64 &&& 63)) : Int64).toInt32 &&& (1073741823 : Int32))]) (rest := [.int (0 : Int32), .ref h0]) ⟨hx, hb, hml, hown, hk⟩ (c_W_make l (f_W_sign (f_M_register reg (0 : Int32))) (((((f_W_size (f_M_register reg (0 : Int32))) : Int32).toInt64 <<< ((((6 : Int32) * (if (5 : Int32) < mm then (5 : Int32) else mm)) : Int32).toInt64 &&& 63)) : Int64).toInt32 &&& (1073741823 : Int32))) (s_W_make hk k_370 ⟨Nat.le_of_ble_eq_true rfl, Nat.le_of_ble_eq_true rfl⟩) ⟨fun a U g mk q => q, fun U hU hW => ⟨rfl, trivial⟩⟩ rfl rfl hl.1 rfl (lv_room (Nat.le_of_ble_eq_true rfl)) d_M_shift_62 ⟨Nat.le_of_ble_eq_true rfl, Nat.le_of_ble_eq_true rfl⟩) ?_
      refine ca_v (va_runV (C := "SignMachine$Machine") (As := [.int (0 : Int32), .int (f_W_make (f_W_sign (f_M_register reg (0 : Int32))) (((((f_W_size (f_M_register reg (0 : Int32))) : Int32).toInt64 <<< ((((6 : Int32) * (if (5 : Int32) < mm then (5 : Int32) else mm)) : Int32).toInt64 &&& 63)) : Int64).toInt32 &&& (1073741823 : Int32)))]) (rest := []) ⟨hx, hb, hml, hown, hk⟩ (c_M_putRegister l D cI cJ cZ cB h0 h1 h2 h3 h4 s.heap.size tog ind tim nxt enD cod fld idx mm soz mem reg p1 w1 p2 w2 TL (0 : Int32) (f_W_make (f_W_sign (f_M_register reg (0 : Int32))) (((((f_W_size (f_M_register reg (0 : Int32))) : Int32).toInt64 <<< ((((6 : Int32) * (if (5 : Int32) < mm then (5 : Int32) else mm)) : Int32).toInt64 &&& 63)) : Int64).toInt32 &&& (1073741823 : Int32)))) (v_M_putRegister hk k_362 ⟨Nat.le_of_ble_eq_true rfl, Nat.le_of_ble_eq_true rfl⟩) (pM_v hK hP hD (ci := 1) (q0 := 0) rfl rfl rfl) rfl rfl hl.1 rfl (lv_room (Nat.le_of_ble_eq_true rfl)) d_M_shift_65 ⟨Nat.le_of_ble_eq_true rfl, Nat.le_of_ble_eq_true rfl⟩) hS hA hD (fun u H locs hz11 hP hS => ?_)
      obtain ⟨regz11, hu⟩ : ∃ y, y = u := ⟨_, rfl⟩
      subst hu
      have hP : va_P D classes (mW cI cJ cZ cB h0 h1 h2 h3 h4 tog ind tim nxt enD cod fld idx mm soz mem regz11 p1 w1 p2 w2 TL) H := hP
      have hD : va_D A (mW cI cJ cZ cB h0 h1 h2 h3 h4 tog ind tim nxt enD cod fld idx mm soz mem regz11 p1 w1 p2 w2 TL) := dsame hD rfl
      try dsimp only at hz11
      exact W.vret hx hb hr (fun t ht hW => ⟨⟨(regz11), rfl, by simp only [f_M_shift, if_neg c1, if_pos c9, ← hz11], by show va_P D classes _ t.heap; rw [ht]; exact hP⟩, hS.F ht⟩) hS.2.2 d_M_shift_68
theorem v_M_shift {R : Room} {s : State} {args : Array Value} {own : String} {index : Nat} (hk : ∀ w ∈ tb, w.before args s = true) (hl : Cond.methodLink own index y_M_shift ∈ tb) (hR : 2 + 1 ≤ R.frames ∧ 8 + (5 + 11) + 46 ≤ R.locals) : CallW R s args own "SignMachine$Machine" index y_M_shift b_M_shift 5 none (.code y_M_shift b_M_shift 5 none :: tb) ({ frames := 2, cells := 0, slots := 0, locals := 46 }) 0 0 0 := mk_v 0 hk k_402 hl k_401 k_21 k_117 rfl rfl h_M_shift hR
def f_M_goByState (tog : Int32) (ind : Int32) (nxt : Int32) (fld : Int32) (mm : Int32) (reg : Nat → Int32)  : (Int32) × (Int32) × (Nat → Int32) := (if fld = (0 : Int32) then (match (f_M_goIf nxt mm reg (1 : Int32)) with | (nxtz2, regz2) => (tog, nxtz2, regz2)) else (if fld = (1 : Int32) then (tog, mm, reg) else (if fld = (2 : Int32) then (match (f_M_goIf nxt mm reg tog) with | (nxtz5, regz5) => ((0 : Int32), nxtz5, regz5)) else (if fld = (3 : Int32) then (if tog = (0 : Int32) then (match (f_M_goIf nxt mm reg (1 : Int32)) with | (nxtz9, regz9) => ((0 : Int32), nxtz9, regz9)) else (match (f_M_goIf nxt mm reg (0 : Int32)) with | (nxtz8, regz8) => ((0 : Int32), nxtz8, regz8))) else (if fld = (4 : Int32) then (if (0 : Int32) ≤ ind then (match (f_M_goIf nxt mm reg (0 : Int32)) with | (nxtz12, regz12) => (tog, nxtz12, regz12)) else (match (f_M_goIf nxt mm reg (1 : Int32)) with | (nxtz13, regz13) => (tog, nxtz13, regz13))) else (if fld = (5 : Int32) then (if ind = (0 : Int32) then (match (f_M_goIf nxt mm reg (1 : Int32)) with | (nxtz17, regz17) => (tog, nxtz17, regz17)) else (match (f_M_goIf nxt mm reg (0 : Int32)) with | (nxtz16, regz16) => (tog, nxtz16, regz16))) else (if fld = (6 : Int32) then (if ind ≤ (0 : Int32) then (match (f_M_goIf nxt mm reg (0 : Int32)) with | (nxtz20, regz20) => (tog, nxtz20, regz20)) else (match (f_M_goIf nxt mm reg (1 : Int32)) with | (nxtz21, regz21) => (tog, nxtz21, regz21))) else (if fld = (7 : Int32) then (if ind < (0 : Int32) then (match (f_M_goIf nxt mm reg (0 : Int32)) with | (nxtz24, regz24) => (tog, nxtz24, regz24)) else (match (f_M_goIf nxt mm reg (1 : Int32)) with | (nxtz25, regz25) => (tog, nxtz25, regz25))) else (if fld = (8 : Int32) then (if ind = (0 : Int32) then (match (f_M_goIf nxt mm reg (0 : Int32)) with | (nxtz28, regz28) => (tog, nxtz28, regz28)) else (match (f_M_goIf nxt mm reg (1 : Int32)) with | (nxtz29, regz29) => (tog, nxtz29, regz29))) else (if (0 : Int32) < ind then (match (f_M_goIf nxt mm reg (0 : Int32)) with | (nxtz31, regz31) => (tog, nxtz31, regz31)) else (match (f_M_goIf nxt mm reg (1 : Int32)) with | (nxtz32, regz32) => (tog, nxtz32, regz32))))))))))))
set_option maxHeartbeats 4000000 in
set_option maxRecDepth 100000 in
theorem c_M_goByState (l : Launch) (D : va_G) (cI cJ cZ cB : ClassId) (h0 h1 h2 h3 h4 : Nat) (sz : Nat) (tog : Int32) (ind : Int32) (tim : Int32) (nxt : Int32) (enD : Int32) (cod : Int32) (fld : Int32) (idx : Int32) (mm : Int32) (soz : Int32) (mem : Nat → Int32) (reg : Nat → Int32) (p1 : Int32) (w1 : Option Nat) (p2 : Int32) (w2 : Option Nat) (TL : va_W)  : Met l y_M_goByState (.code y_M_goByState b_M_goByState 2 none :: tb) ({ frames := 2, cells := 0, slots := 0, locals := 43 }) (pM D cI cJ cZ cB (mW cI cJ cZ cB h0 h1 h2 h3 h4 tog ind tim nxt enD cod fld idx mm soz mem reg p1 w1 p2 w2 TL) sz [.ref h0]) (qV D (fun u => u = f_M_goByState tog ind nxt fld mm reg) (fun (u : (Int32) × (Int32) × (Nat → Int32)) => match u with | (u_tog, u_nxt, u_reg) => (mW cI cJ cZ cB h0 h1 h2 h3 h4 u_tog ind tim u_nxt enD cod fld idx mm soz mem u_reg p1 w1 p2 w2 TL)) (va_A (mW cI cJ cZ cB h0 h1 h2 h3 h4 tog ind tim nxt enD cod fld idx mm soz mem reg p1 w1 p2 w2 TL) sz)) 0 0 (va_A (mW cI cJ cZ cB h0 h1 h2 h3 h4 tog ind tim nxt enD cod fld idx mm soz mem reg p1 w1 p2 w2 TL) sz) := by
  refine Met.ofW (cc := b_M_goByState) (maxL := 2) (ret := none) (by decide) rfl ?_
  intro p e s m args below meth c s₁ B hml hv
  obtain ⟨rfl, hsz, hK, hP, hD0⟩ := hv
  subst hsz
  have hD := hD0.self (sz := s.heap.size)
  generalize hAe : va_A (mW cI cJ cZ cB h0 h1 h2 h3 h4 tog ind tim nxt enD cod fld idx mm soz mem reg p1 w1 p2 w2 TL) s.heap.size = A at hD ⊢
  have hA : ∀ q : Nat, s.heap.size ≤ q → A q := fun q h => by rw [← hAe]; exact Or.inr h
  have hS : va_S A s.heap s.heap [] := va_S.rf
  have hx := B.exec
  have hb := B.bytes
  have hr := B.returns
  have hts := atoms_spec (ws := .code y_M_goByState b_M_goByState 2 none :: tb) B.pre
  have hk : ∀ w ∈ tb, w.before [.ref h0].toArray s = true := fun w h => hts w (List.mem_cons_of_mem _ h)
  have hown : s.vm.findClass "SignMachine$Machine" = some m.cls := findClass_of_methodNamed B.named
  have hlocks := B.notSynchronized
  have hl := lv_entry ([.ref h0]) (n := 2) (Nat.le_of_ble_eq_true rfl)
  rw [lg_entry_eq]
  generalize (lg_sl ([.ref h0]) ++ List.replicate (2 - (lg_sl ([.ref h0])).length) Slot.unset).toArray = ls at hl ⊢
  have hl : lv_has ls 2 [(0, .ref h0)] := hl
  refine lv_aload_n hx hb d_M_goByState_0 rfl (lv_at hl 0 rfl) ?_
  refine va_get (D := D) (ci := 1) (v := .int tog) (C := "SignMachine$Machine") (T := F_M) (N := 14) hx hb hk fi_M hown hK.1 hP 0 rfl rfl 4 (by decide) (hk _ k_168) (fun _ h9 => h9) rfl d_M_goByState_1 ?_
  refine lv_istore_n (lv' := [(1, .int tog), (0, .ref h0)]) hx hb d_M_goByState_4 rfl hl (by decide) rfl (fun ls hl => ?_)
  refine lv_aload_n hx hb d_M_goByState_5 rfl (lv_at hl 1 rfl) ?_
  refine va_get (D := D) (ci := 1) (v := .int fld) (C := "SignMachine$Machine") (T := F_M) (N := 14) hx hb hk fi_M hown hK.1 hP 0 rfl rfl 10 (by decide) (hk _ k_177) (fun _ h9 => h9) rfl d_M_goByState_6 ?_
  by_cases c1 : fld = (0 : Int32)
  · refine lv_tableIn (off := 51) (tgt := 60) hx hb d_M_goByState_9 (by rw [c1]; decide) (by rw [c1]; decide) (by rw [c1]; rfl) (by decide) ?_
    refine lv_aload_n hx hb d_M_goByState_60 rfl (lv_at hl 1 rfl) ?_
    refine lv_iconst (v := 1) hx hb d_M_goByState_61 (by decide) ?_
    refine ca_v (va_runV (C := "SignMachine$Machine") (As := [.int (1 : Int32)]) (rest := []) ⟨hx, hb, hml, hown, hk⟩ (c_M_goIf l D cI cJ cZ cB h0 h1 h2 h3 h4 s.heap.size tog ind tim nxt enD cod fld idx mm soz mem reg p1 w1 p2 w2 TL (1 : Int32)) (v_M_goIf hk k_448 ⟨Nat.le_of_ble_eq_true rfl, Nat.le_of_ble_eq_true rfl⟩) (pM_v hK hP hD (ci := 1) (q0 := 0) rfl rfl rfl) rfl rfl hl.1 rfl (lv_room (Nat.le_of_ble_eq_true rfl)) d_M_goByState_62 ⟨Nat.le_of_ble_eq_true rfl, Nat.le_of_ble_eq_true rfl⟩) hS hA hD (fun u H locs hz2 hP hS => ?_)
    obtain ⟨nxtz2, regz2⟩ := u
    have hP : va_P D classes (mW cI cJ cZ cB h0 h1 h2 h3 h4 tog ind tim nxtz2 enD cod fld idx mm soz mem regz2 p1 w1 p2 w2 TL) H := hP
    have hD : va_D A (mW cI cJ cZ cB h0 h1 h2 h3 h4 tog ind tim nxtz2 enD cod fld idx mm soz mem regz2 p1 w1 p2 w2 TL) := dsame hD rfl
    try dsimp only at hz2
    refine lv_goto (tgt := 224) hx hb d_M_goByState_65 (by decide) ?_
    exact W.vret hx hb hr (fun t ht hW => ⟨⟨(tog, nxtz2, regz2), rfl, by simp only [f_M_goByState, if_pos c1, ← hz2], by show va_P D classes _ t.heap; rw [ht]; exact hP⟩, hS.F ht⟩) hS.2.2 d_M_goByState_224
  · by_cases c3 : fld = (1 : Int32)
    · refine lv_tableIn (off := 59) (tgt := 68) hx hb d_M_goByState_9 (by rw [c3]; decide) (by rw [c3]; decide) (by rw [c3]; rfl) (by decide) ?_
      refine lv_aload_n hx hb d_M_goByState_68 rfl (lv_at hl 1 rfl) ?_
      refine lv_aload_n hx hb d_M_goByState_69 rfl (lv_at hl 1 rfl) ?_
      refine va_get (D := D) (ci := 1) (v := .int mm) (C := "SignMachine$Machine") (T := F_M) (N := 14) hx hb hk fi_M hown hK.1 hP 0 rfl rfl 12 (by decide) (hk _ k_179) (fun _ h9 => h9) rfl d_M_goByState_70 ?_
      refine va_put (D := D) (ci := 1) (v := .int mm) (ty := .int) (C := "SignMachine$Machine") (T := F_M) (N := 14) hx hb hk fi_M ft_M ft_M_ok fn_M hown hK.1 hP hD hS 0 rfl rfl 7 (by decide) (hk _ k_174) (fun _ h9 => h9) rfl (by decide +kernel) rfl rfl (Nat.le_of_ble_eq_true rfl) d_M_goByState_73 (fun H locs hP hD hS => ?_)
      have hP : va_P D classes (mW cI cJ cZ cB h0 h1 h2 h3 h4 tog ind tim mm enD cod fld idx mm soz mem reg p1 w1 p2 w2 TL) H := hP
      have hD : va_D A (mW cI cJ cZ cB h0 h1 h2 h3 h4 tog ind tim mm enD cod fld idx mm soz mem reg p1 w1 p2 w2 TL) := hD
      refine lv_goto (tgt := 224) hx hb d_M_goByState_76 (by decide) ?_
      exact W.vret hx hb hr (fun t ht hW => ⟨⟨(tog, mm, reg), rfl, by simp only [f_M_goByState, if_neg c1, if_pos c3], by show va_P D classes _ t.heap; rw [ht]; exact hP⟩, hS.F ht⟩) hS.2.2 d_M_goByState_224
    · by_cases c4 : fld = (2 : Int32)
      · refine lv_tableIn (off := 70) (tgt := 79) hx hb d_M_goByState_9 (by rw [c4]; decide) (by rw [c4]; decide) (by rw [c4]; rfl) (by decide) ?_
        refine lv_aload_n hx hb d_M_goByState_79 rfl (lv_at hl 1 rfl) ?_
        refine lv_iconst (v := 0) hx hb d_M_goByState_80 (by decide) ?_
        refine va_put (D := D) (ci := 1) (v := .int (0 : Int32)) (ty := .boolean) (C := "SignMachine$Machine") (T := F_M) (N := 14) hx hb hk fi_M ft_M ft_M_ok fn_M hown hK.1 hP hD hS 0 rfl rfl 4 (by decide) (hk _ k_168) (fun _ h9 => h9) rfl (by decide +kernel) rfl rfl (Nat.le_of_ble_eq_true rfl) d_M_goByState_81 (fun H locs hP hD hS => ?_)
        have hP : va_P D classes (mW cI cJ cZ cB h0 h1 h2 h3 h4 (0 : Int32) ind tim nxt enD cod fld idx mm soz mem reg p1 w1 p2 w2 TL) H := hP
        have hD : va_D A (mW cI cJ cZ cB h0 h1 h2 h3 h4 (0 : Int32) ind tim nxt enD cod fld idx mm soz mem reg p1 w1 p2 w2 TL) := hD
        refine lv_aload_n hx hb d_M_goByState_84 rfl (lv_at hl 1 rfl) ?_
        refine lv_iload_n hx hb d_M_goByState_85 rfl (lv_at hl 0 rfl) ?_
        refine ca_v (va_runV (C := "SignMachine$Machine") (As := [.int tog]) (rest := []) ⟨hx, hb, hml, hown, hk⟩ (c_M_goIf l D cI cJ cZ cB h0 h1 h2 h3 h4 H.size (0 : Int32) ind tim nxt enD cod fld idx mm soz mem reg p1 w1 p2 w2 TL tog) (v_M_goIf hk k_448 ⟨Nat.le_of_ble_eq_true rfl, Nat.le_of_ble_eq_true rfl⟩) (pM_v hK hP hD (ci := 1) (q0 := 0) rfl rfl rfl) rfl rfl hl.1 rfl (lv_room (Nat.le_of_ble_eq_true rfl)) d_M_goByState_86 ⟨Nat.le_of_ble_eq_true rfl, Nat.le_of_ble_eq_true rfl⟩) hS hA hD (fun u H locs hz5 hP hS => ?_)
        obtain ⟨nxtz5, regz5⟩ := u
        have hP : va_P D classes (mW cI cJ cZ cB h0 h1 h2 h3 h4 (0 : Int32) ind tim nxtz5 enD cod fld idx mm soz mem regz5 p1 w1 p2 w2 TL) H := hP
        have hD : va_D A (mW cI cJ cZ cB h0 h1 h2 h3 h4 (0 : Int32) ind tim nxtz5 enD cod fld idx mm soz mem regz5 p1 w1 p2 w2 TL) := dsame hD rfl
        try dsimp only at hz5
        refine lv_goto (tgt := 224) hx hb d_M_goByState_89 (by decide) ?_
        exact W.vret hx hb hr (fun t ht hW => ⟨⟨((0 : Int32), nxtz5, regz5), rfl, by simp only [f_M_goByState, if_neg c1, if_neg c3, if_pos c4, ← hz5], by show va_P D classes _ t.heap; rw [ht]; exact hP⟩, hS.F ht⟩) hS.2.2 d_M_goByState_224
      · by_cases c6 : fld = (3 : Int32)
        · refine lv_tableIn (off := 83) (tgt := 92) hx hb d_M_goByState_9 (by rw [c6]; decide) (by rw [c6]; decide) (by rw [c6]; rfl) (by decide) ?_
          refine lv_aload_n hx hb d_M_goByState_92 rfl (lv_at hl 1 rfl) ?_
          refine lv_iconst (v := 0) hx hb d_M_goByState_93 (by decide) ?_
          refine va_put (D := D) (ci := 1) (v := .int (0 : Int32)) (ty := .boolean) (C := "SignMachine$Machine") (T := F_M) (N := 14) hx hb hk fi_M ft_M ft_M_ok fn_M hown hK.1 hP hD hS 0 rfl rfl 4 (by decide) (hk _ k_168) (fun _ h9 => h9) rfl (by decide +kernel) rfl rfl (Nat.le_of_ble_eq_true rfl) d_M_goByState_94 (fun H locs hP hD hS => ?_)
          have hP : va_P D classes (mW cI cJ cZ cB h0 h1 h2 h3 h4 (0 : Int32) ind tim nxt enD cod fld idx mm soz mem reg p1 w1 p2 w2 TL) H := hP
          have hD : va_D A (mW cI cJ cZ cB h0 h1 h2 h3 h4 (0 : Int32) ind tim nxt enD cod fld idx mm soz mem reg p1 w1 p2 w2 TL) := hD
          refine lv_aload_n hx hb d_M_goByState_97 rfl (lv_at hl 1 rfl) ?_
          refine lv_iload_n hx hb d_M_goByState_98 rfl (lv_at hl 0 rfl) ?_
          refine lv_if_ne (tgt := 106) hx hb d_M_goByState_99 (by decide) (fun c7 => ?_) (fun c7 => ?_)
          · refine lv_iconst (v := 0) hx hb d_M_goByState_106 (by decide) ?_
            refine ca_v (va_runV (C := "SignMachine$Machine") (As := [.int (0 : Int32)]) (rest := []) ⟨hx, hb, hml, hown, hk⟩ (c_M_goIf l D cI cJ cZ cB h0 h1 h2 h3 h4 H.size (0 : Int32) ind tim nxt enD cod fld idx mm soz mem reg p1 w1 p2 w2 TL (0 : Int32)) (v_M_goIf hk k_448 ⟨Nat.le_of_ble_eq_true rfl, Nat.le_of_ble_eq_true rfl⟩) (pM_v hK hP hD (ci := 1) (q0 := 0) rfl rfl rfl) rfl rfl hl.1 rfl (lv_room (Nat.le_of_ble_eq_true rfl)) d_M_goByState_107 ⟨Nat.le_of_ble_eq_true rfl, Nat.le_of_ble_eq_true rfl⟩) hS hA hD (fun u H locs hz8 hP hS => ?_)
            obtain ⟨nxtz8, regz8⟩ := u
            have hP : va_P D classes (mW cI cJ cZ cB h0 h1 h2 h3 h4 (0 : Int32) ind tim nxtz8 enD cod fld idx mm soz mem regz8 p1 w1 p2 w2 TL) H := hP
            have hD : va_D A (mW cI cJ cZ cB h0 h1 h2 h3 h4 (0 : Int32) ind tim nxtz8 enD cod fld idx mm soz mem regz8 p1 w1 p2 w2 TL) := dsame hD rfl
            try dsimp only at hz8
            refine lv_goto (tgt := 224) hx hb d_M_goByState_110 (by decide) ?_
            exact W.vret hx hb hr (fun t ht hW => ⟨⟨((0 : Int32), nxtz8, regz8), rfl, by simp only [f_M_goByState, if_neg c1, if_neg c3, if_neg c4, if_pos c6, if_neg c7, ← hz8], by show va_P D classes _ t.heap; rw [ht]; exact hP⟩, hS.F ht⟩) hS.2.2 d_M_goByState_224
          · refine lv_iconst (v := 1) hx hb d_M_goByState_102 (by decide) ?_
            refine lv_goto (tgt := 107) hx hb d_M_goByState_103 (by decide) ?_
            refine ca_v (va_runV (C := "SignMachine$Machine") (As := [.int (1 : Int32)]) (rest := []) ⟨hx, hb, hml, hown, hk⟩ (c_M_goIf l D cI cJ cZ cB h0 h1 h2 h3 h4 H.size (0 : Int32) ind tim nxt enD cod fld idx mm soz mem reg p1 w1 p2 w2 TL (1 : Int32)) (v_M_goIf hk k_448 ⟨Nat.le_of_ble_eq_true rfl, Nat.le_of_ble_eq_true rfl⟩) (pM_v hK hP hD (ci := 1) (q0 := 0) rfl rfl rfl) rfl rfl hl.1 rfl (lv_room (Nat.le_of_ble_eq_true rfl)) d_M_goByState_107 ⟨Nat.le_of_ble_eq_true rfl, Nat.le_of_ble_eq_true rfl⟩) hS hA hD (fun u H locs hz9 hP hS => ?_)
            obtain ⟨nxtz9, regz9⟩ := u
            have hP : va_P D classes (mW cI cJ cZ cB h0 h1 h2 h3 h4 (0 : Int32) ind tim nxtz9 enD cod fld idx mm soz mem regz9 p1 w1 p2 w2 TL) H := hP
            have hD : va_D A (mW cI cJ cZ cB h0 h1 h2 h3 h4 (0 : Int32) ind tim nxtz9 enD cod fld idx mm soz mem regz9 p1 w1 p2 w2 TL) := dsame hD rfl
            try dsimp only at hz9
            refine lv_goto (tgt := 224) hx hb d_M_goByState_110 (by decide) ?_
            exact W.vret hx hb hr (fun t ht hW => ⟨⟨((0 : Int32), nxtz9, regz9), rfl, by simp only [f_M_goByState, if_neg c1, if_neg c3, if_neg c4, if_pos c6, if_pos c7, ← hz9], by show va_P D classes _ t.heap; rw [ht]; exact hP⟩, hS.F ht⟩) hS.2.2 d_M_goByState_224
        · by_cases c10 : fld = (4 : Int32)
          · refine lv_tableIn (off := 104) (tgt := 113) hx hb d_M_goByState_9 (by rw [c10]; decide) (by rw [c10]; decide) (by rw [c10]; rfl) (by decide) ?_
            refine lv_aload_n hx hb d_M_goByState_113 rfl (lv_at hl 1 rfl) ?_
            refine lv_aload_n hx hb d_M_goByState_114 rfl (lv_at hl 1 rfl) ?_
            refine va_get (D := D) (ci := 1) (v := .int ind) (C := "SignMachine$Machine") (T := F_M) (N := 14) hx hb hk fi_M hown hK.1 hP 0 rfl rfl 5 (by decide) (hk _ k_170) (fun _ h9 => h9) rfl d_M_goByState_115 ?_
            refine lv_if_ge (tgt := 125) hx hb d_M_goByState_118 (by decide) (fun c11 => ?_) (fun c11 => ?_)
            · refine lv_iconst (v := 0) hx hb d_M_goByState_125 (by decide) ?_
              refine ca_v (va_runV (C := "SignMachine$Machine") (As := [.int (0 : Int32)]) (rest := []) ⟨hx, hb, hml, hown, hk⟩ (c_M_goIf l D cI cJ cZ cB h0 h1 h2 h3 h4 s.heap.size tog ind tim nxt enD cod fld idx mm soz mem reg p1 w1 p2 w2 TL (0 : Int32)) (v_M_goIf hk k_448 ⟨Nat.le_of_ble_eq_true rfl, Nat.le_of_ble_eq_true rfl⟩) (pM_v hK hP hD (ci := 1) (q0 := 0) rfl rfl rfl) rfl rfl hl.1 rfl (lv_room (Nat.le_of_ble_eq_true rfl)) d_M_goByState_126 ⟨Nat.le_of_ble_eq_true rfl, Nat.le_of_ble_eq_true rfl⟩) hS hA hD (fun u H locs hz12 hP hS => ?_)
              obtain ⟨nxtz12, regz12⟩ := u
              have hP : va_P D classes (mW cI cJ cZ cB h0 h1 h2 h3 h4 tog ind tim nxtz12 enD cod fld idx mm soz mem regz12 p1 w1 p2 w2 TL) H := hP
              have hD : va_D A (mW cI cJ cZ cB h0 h1 h2 h3 h4 tog ind tim nxtz12 enD cod fld idx mm soz mem regz12 p1 w1 p2 w2 TL) := dsame hD rfl
              try dsimp only at hz12
              refine lv_goto (tgt := 224) hx hb d_M_goByState_129 (by decide) ?_
              exact W.vret hx hb hr (fun t ht hW => ⟨⟨(tog, nxtz12, regz12), rfl, by simp only [f_M_goByState, if_neg c1, if_neg c3, if_neg c4, if_neg c6, if_pos c10, if_pos c11, ← hz12], by show va_P D classes _ t.heap; rw [ht]; exact hP⟩, hS.F ht⟩) hS.2.2 d_M_goByState_224
            · refine lv_iconst (v := 1) hx hb d_M_goByState_121 (by decide) ?_
              refine lv_goto (tgt := 126) hx hb d_M_goByState_122 (by decide) ?_
              refine ca_v (va_runV (C := "SignMachine$Machine") (As := [.int (1 : Int32)]) (rest := []) ⟨hx, hb, hml, hown, hk⟩ (c_M_goIf l D cI cJ cZ cB h0 h1 h2 h3 h4 s.heap.size tog ind tim nxt enD cod fld idx mm soz mem reg p1 w1 p2 w2 TL (1 : Int32)) (v_M_goIf hk k_448 ⟨Nat.le_of_ble_eq_true rfl, Nat.le_of_ble_eq_true rfl⟩) (pM_v hK hP hD (ci := 1) (q0 := 0) rfl rfl rfl) rfl rfl hl.1 rfl (lv_room (Nat.le_of_ble_eq_true rfl)) d_M_goByState_126 ⟨Nat.le_of_ble_eq_true rfl, Nat.le_of_ble_eq_true rfl⟩) hS hA hD (fun u H locs hz13 hP hS => ?_)
              obtain ⟨nxtz13, regz13⟩ := u
              have hP : va_P D classes (mW cI cJ cZ cB h0 h1 h2 h3 h4 tog ind tim nxtz13 enD cod fld idx mm soz mem regz13 p1 w1 p2 w2 TL) H := hP
              have hD : va_D A (mW cI cJ cZ cB h0 h1 h2 h3 h4 tog ind tim nxtz13 enD cod fld idx mm soz mem regz13 p1 w1 p2 w2 TL) := dsame hD rfl
              try dsimp only at hz13
              refine lv_goto (tgt := 224) hx hb d_M_goByState_129 (by decide) ?_
              exact W.vret hx hb hr (fun t ht hW => ⟨⟨(tog, nxtz13, regz13), rfl, by simp only [f_M_goByState, if_neg c1, if_neg c3, if_neg c4, if_neg c6, if_pos c10, if_neg c11, ← hz13], by show va_P D classes _ t.heap; rw [ht]; exact hP⟩, hS.F ht⟩) hS.2.2 d_M_goByState_224
          · by_cases c14 : fld = (5 : Int32)
            · refine lv_tableIn (off := 123) (tgt := 132) hx hb d_M_goByState_9 (by rw [c14]; decide) (by rw [c14]; decide) (by rw [c14]; rfl) (by decide) ?_
              refine lv_aload_n hx hb d_M_goByState_132 rfl (lv_at hl 1 rfl) ?_
              refine lv_aload_n hx hb d_M_goByState_133 rfl (lv_at hl 1 rfl) ?_
              refine va_get (D := D) (ci := 1) (v := .int ind) (C := "SignMachine$Machine") (T := F_M) (N := 14) hx hb hk fi_M hown hK.1 hP 0 rfl rfl 5 (by decide) (hk _ k_170) (fun _ h9 => h9) rfl d_M_goByState_134 ?_
              refine lv_if_ne (tgt := 144) hx hb d_M_goByState_137 (by decide) (fun c15 => ?_) (fun c15 => ?_)
              · refine lv_iconst (v := 0) hx hb d_M_goByState_144 (by decide) ?_
                refine ca_v (va_runV (C := "SignMachine$Machine") (As := [.int (0 : Int32)]) (rest := []) ⟨hx, hb, hml, hown, hk⟩ (c_M_goIf l D cI cJ cZ cB h0 h1 h2 h3 h4 s.heap.size tog ind tim nxt enD cod fld idx mm soz mem reg p1 w1 p2 w2 TL (0 : Int32)) (v_M_goIf hk k_448 ⟨Nat.le_of_ble_eq_true rfl, Nat.le_of_ble_eq_true rfl⟩) (pM_v hK hP hD (ci := 1) (q0 := 0) rfl rfl rfl) rfl rfl hl.1 rfl (lv_room (Nat.le_of_ble_eq_true rfl)) d_M_goByState_145 ⟨Nat.le_of_ble_eq_true rfl, Nat.le_of_ble_eq_true rfl⟩) hS hA hD (fun u H locs hz16 hP hS => ?_)
                obtain ⟨nxtz16, regz16⟩ := u
                have hP : va_P D classes (mW cI cJ cZ cB h0 h1 h2 h3 h4 tog ind tim nxtz16 enD cod fld idx mm soz mem regz16 p1 w1 p2 w2 TL) H := hP
                have hD : va_D A (mW cI cJ cZ cB h0 h1 h2 h3 h4 tog ind tim nxtz16 enD cod fld idx mm soz mem regz16 p1 w1 p2 w2 TL) := dsame hD rfl
                try dsimp only at hz16
                refine lv_goto (tgt := 224) hx hb d_M_goByState_148 (by decide) ?_
                exact W.vret hx hb hr (fun t ht hW => ⟨⟨(tog, nxtz16, regz16), rfl, by simp only [f_M_goByState, if_neg c1, if_neg c3, if_neg c4, if_neg c6, if_neg c10, if_pos c14, if_neg c15, ← hz16], by show va_P D classes _ t.heap; rw [ht]; exact hP⟩, hS.F ht⟩) hS.2.2 d_M_goByState_224
              · refine lv_iconst (v := 1) hx hb d_M_goByState_140 (by decide) ?_
                refine lv_goto (tgt := 145) hx hb d_M_goByState_141 (by decide) ?_
                refine ca_v (va_runV (C := "SignMachine$Machine") (As := [.int (1 : Int32)]) (rest := []) ⟨hx, hb, hml, hown, hk⟩ (c_M_goIf l D cI cJ cZ cB h0 h1 h2 h3 h4 s.heap.size tog ind tim nxt enD cod fld idx mm soz mem reg p1 w1 p2 w2 TL (1 : Int32)) (v_M_goIf hk k_448 ⟨Nat.le_of_ble_eq_true rfl, Nat.le_of_ble_eq_true rfl⟩) (pM_v hK hP hD (ci := 1) (q0 := 0) rfl rfl rfl) rfl rfl hl.1 rfl (lv_room (Nat.le_of_ble_eq_true rfl)) d_M_goByState_145 ⟨Nat.le_of_ble_eq_true rfl, Nat.le_of_ble_eq_true rfl⟩) hS hA hD (fun u H locs hz17 hP hS => ?_)
                obtain ⟨nxtz17, regz17⟩ := u
                have hP : va_P D classes (mW cI cJ cZ cB h0 h1 h2 h3 h4 tog ind tim nxtz17 enD cod fld idx mm soz mem regz17 p1 w1 p2 w2 TL) H := hP
                have hD : va_D A (mW cI cJ cZ cB h0 h1 h2 h3 h4 tog ind tim nxtz17 enD cod fld idx mm soz mem regz17 p1 w1 p2 w2 TL) := dsame hD rfl
                try dsimp only at hz17
                refine lv_goto (tgt := 224) hx hb d_M_goByState_148 (by decide) ?_
                exact W.vret hx hb hr (fun t ht hW => ⟨⟨(tog, nxtz17, regz17), rfl, by simp only [f_M_goByState, if_neg c1, if_neg c3, if_neg c4, if_neg c6, if_neg c10, if_pos c14, if_pos c15, ← hz17], by show va_P D classes _ t.heap; rw [ht]; exact hP⟩, hS.F ht⟩) hS.2.2 d_M_goByState_224
            · by_cases c18 : fld = (6 : Int32)
              · refine lv_tableIn (off := 142) (tgt := 151) hx hb d_M_goByState_9 (by rw [c18]; decide) (by rw [c18]; decide) (by rw [c18]; rfl) (by decide) ?_
                refine lv_aload_n hx hb d_M_goByState_151 rfl (lv_at hl 1 rfl) ?_
                refine lv_aload_n hx hb d_M_goByState_152 rfl (lv_at hl 1 rfl) ?_
                refine va_get (D := D) (ci := 1) (v := .int ind) (C := "SignMachine$Machine") (T := F_M) (N := 14) hx hb hk fi_M hown hK.1 hP 0 rfl rfl 5 (by decide) (hk _ k_170) (fun _ h9 => h9) rfl d_M_goByState_153 ?_
                refine lv_if_le (tgt := 163) hx hb d_M_goByState_156 (by decide) (fun c19 => ?_) (fun c19 => ?_)
                · refine lv_iconst (v := 0) hx hb d_M_goByState_163 (by decide) ?_
                  refine ca_v (va_runV (C := "SignMachine$Machine") (As := [.int (0 : Int32)]) (rest := []) ⟨hx, hb, hml, hown, hk⟩ (c_M_goIf l D cI cJ cZ cB h0 h1 h2 h3 h4 s.heap.size tog ind tim nxt enD cod fld idx mm soz mem reg p1 w1 p2 w2 TL (0 : Int32)) (v_M_goIf hk k_448 ⟨Nat.le_of_ble_eq_true rfl, Nat.le_of_ble_eq_true rfl⟩) (pM_v hK hP hD (ci := 1) (q0 := 0) rfl rfl rfl) rfl rfl hl.1 rfl (lv_room (Nat.le_of_ble_eq_true rfl)) d_M_goByState_164 ⟨Nat.le_of_ble_eq_true rfl, Nat.le_of_ble_eq_true rfl⟩) hS hA hD (fun u H locs hz20 hP hS => ?_)
                  obtain ⟨nxtz20, regz20⟩ := u
                  have hP : va_P D classes (mW cI cJ cZ cB h0 h1 h2 h3 h4 tog ind tim nxtz20 enD cod fld idx mm soz mem regz20 p1 w1 p2 w2 TL) H := hP
                  have hD : va_D A (mW cI cJ cZ cB h0 h1 h2 h3 h4 tog ind tim nxtz20 enD cod fld idx mm soz mem regz20 p1 w1 p2 w2 TL) := dsame hD rfl
                  try dsimp only at hz20
                  refine lv_goto (tgt := 224) hx hb d_M_goByState_167 (by decide) ?_
                  exact W.vret hx hb hr (fun t ht hW => ⟨⟨(tog, nxtz20, regz20), rfl, by simp only [f_M_goByState, if_neg c1, if_neg c3, if_neg c4, if_neg c6, if_neg c10, if_neg c14, if_pos c18, if_pos c19, ← hz20], by show va_P D classes _ t.heap; rw [ht]; exact hP⟩, hS.F ht⟩) hS.2.2 d_M_goByState_224
                · refine lv_iconst (v := 1) hx hb d_M_goByState_159 (by decide) ?_
                  refine lv_goto (tgt := 164) hx hb d_M_goByState_160 (by decide) ?_
                  refine ca_v (va_runV (C := "SignMachine$Machine") (As := [.int (1 : Int32)]) (rest := []) ⟨hx, hb, hml, hown, hk⟩ (c_M_goIf l D cI cJ cZ cB h0 h1 h2 h3 h4 s.heap.size tog ind tim nxt enD cod fld idx mm soz mem reg p1 w1 p2 w2 TL (1 : Int32)) (v_M_goIf hk k_448 ⟨Nat.le_of_ble_eq_true rfl, Nat.le_of_ble_eq_true rfl⟩) (pM_v hK hP hD (ci := 1) (q0 := 0) rfl rfl rfl) rfl rfl hl.1 rfl (lv_room (Nat.le_of_ble_eq_true rfl)) d_M_goByState_164 ⟨Nat.le_of_ble_eq_true rfl, Nat.le_of_ble_eq_true rfl⟩) hS hA hD (fun u H locs hz21 hP hS => ?_)
                  obtain ⟨nxtz21, regz21⟩ := u
                  have hP : va_P D classes (mW cI cJ cZ cB h0 h1 h2 h3 h4 tog ind tim nxtz21 enD cod fld idx mm soz mem regz21 p1 w1 p2 w2 TL) H := hP
                  have hD : va_D A (mW cI cJ cZ cB h0 h1 h2 h3 h4 tog ind tim nxtz21 enD cod fld idx mm soz mem regz21 p1 w1 p2 w2 TL) := dsame hD rfl
                  try dsimp only at hz21
                  refine lv_goto (tgt := 224) hx hb d_M_goByState_167 (by decide) ?_
                  exact W.vret hx hb hr (fun t ht hW => ⟨⟨(tog, nxtz21, regz21), rfl, by simp only [f_M_goByState, if_neg c1, if_neg c3, if_neg c4, if_neg c6, if_neg c10, if_neg c14, if_pos c18, if_neg c19, ← hz21], by show va_P D classes _ t.heap; rw [ht]; exact hP⟩, hS.F ht⟩) hS.2.2 d_M_goByState_224
              · by_cases c22 : fld = (7 : Int32)
                · refine lv_tableIn (off := 161) (tgt := 170) hx hb d_M_goByState_9 (by rw [c22]; decide) (by rw [c22]; decide) (by rw [c22]; rfl) (by decide) ?_
                  refine lv_aload_n hx hb d_M_goByState_170 rfl (lv_at hl 1 rfl) ?_
                  refine lv_aload_n hx hb d_M_goByState_171 rfl (lv_at hl 1 rfl) ?_
                  refine va_get (D := D) (ci := 1) (v := .int ind) (C := "SignMachine$Machine") (T := F_M) (N := 14) hx hb hk fi_M hown hK.1 hP 0 rfl rfl 5 (by decide) (hk _ k_170) (fun _ h9 => h9) rfl d_M_goByState_172 ?_
                  refine lv_if_lt (tgt := 182) hx hb d_M_goByState_175 (by decide) (fun c23 => ?_) (fun c23 => ?_)
                  · refine lv_iconst (v := 0) hx hb d_M_goByState_182 (by decide) ?_
                    refine ca_v (va_runV (C := "SignMachine$Machine") (As := [.int (0 : Int32)]) (rest := []) ⟨hx, hb, hml, hown, hk⟩ (c_M_goIf l D cI cJ cZ cB h0 h1 h2 h3 h4 s.heap.size tog ind tim nxt enD cod fld idx mm soz mem reg p1 w1 p2 w2 TL (0 : Int32)) (v_M_goIf hk k_448 ⟨Nat.le_of_ble_eq_true rfl, Nat.le_of_ble_eq_true rfl⟩) (pM_v hK hP hD (ci := 1) (q0 := 0) rfl rfl rfl) rfl rfl hl.1 rfl (lv_room (Nat.le_of_ble_eq_true rfl)) d_M_goByState_183 ⟨Nat.le_of_ble_eq_true rfl, Nat.le_of_ble_eq_true rfl⟩) hS hA hD (fun u H locs hz24 hP hS => ?_)
                    obtain ⟨nxtz24, regz24⟩ := u
                    have hP : va_P D classes (mW cI cJ cZ cB h0 h1 h2 h3 h4 tog ind tim nxtz24 enD cod fld idx mm soz mem regz24 p1 w1 p2 w2 TL) H := hP
                    have hD : va_D A (mW cI cJ cZ cB h0 h1 h2 h3 h4 tog ind tim nxtz24 enD cod fld idx mm soz mem regz24 p1 w1 p2 w2 TL) := dsame hD rfl
                    try dsimp only at hz24
                    refine lv_goto (tgt := 224) hx hb d_M_goByState_186 (by decide) ?_
                    exact W.vret hx hb hr (fun t ht hW => ⟨⟨(tog, nxtz24, regz24), rfl, by simp only [f_M_goByState, if_neg c1, if_neg c3, if_neg c4, if_neg c6, if_neg c10, if_neg c14, if_neg c18, if_pos c22, if_pos c23, ← hz24], by show va_P D classes _ t.heap; rw [ht]; exact hP⟩, hS.F ht⟩) hS.2.2 d_M_goByState_224
                  · refine lv_iconst (v := 1) hx hb d_M_goByState_178 (by decide) ?_
                    refine lv_goto (tgt := 183) hx hb d_M_goByState_179 (by decide) ?_
                    refine ca_v (va_runV (C := "SignMachine$Machine") (As := [.int (1 : Int32)]) (rest := []) ⟨hx, hb, hml, hown, hk⟩ (c_M_goIf l D cI cJ cZ cB h0 h1 h2 h3 h4 s.heap.size tog ind tim nxt enD cod fld idx mm soz mem reg p1 w1 p2 w2 TL (1 : Int32)) (v_M_goIf hk k_448 ⟨Nat.le_of_ble_eq_true rfl, Nat.le_of_ble_eq_true rfl⟩) (pM_v hK hP hD (ci := 1) (q0 := 0) rfl rfl rfl) rfl rfl hl.1 rfl (lv_room (Nat.le_of_ble_eq_true rfl)) d_M_goByState_183 ⟨Nat.le_of_ble_eq_true rfl, Nat.le_of_ble_eq_true rfl⟩) hS hA hD (fun u H locs hz25 hP hS => ?_)
                    obtain ⟨nxtz25, regz25⟩ := u
                    have hP : va_P D classes (mW cI cJ cZ cB h0 h1 h2 h3 h4 tog ind tim nxtz25 enD cod fld idx mm soz mem regz25 p1 w1 p2 w2 TL) H := hP
                    have hD : va_D A (mW cI cJ cZ cB h0 h1 h2 h3 h4 tog ind tim nxtz25 enD cod fld idx mm soz mem regz25 p1 w1 p2 w2 TL) := dsame hD rfl
                    try dsimp only at hz25
                    refine lv_goto (tgt := 224) hx hb d_M_goByState_186 (by decide) ?_
                    exact W.vret hx hb hr (fun t ht hW => ⟨⟨(tog, nxtz25, regz25), rfl, by simp only [f_M_goByState, if_neg c1, if_neg c3, if_neg c4, if_neg c6, if_neg c10, if_neg c14, if_neg c18, if_pos c22, if_neg c23, ← hz25], by show va_P D classes _ t.heap; rw [ht]; exact hP⟩, hS.F ht⟩) hS.2.2 d_M_goByState_224
                · by_cases c26 : fld = (8 : Int32)
                  · refine lv_tableIn (off := 180) (tgt := 189) hx hb d_M_goByState_9 (by rw [c26]; decide) (by rw [c26]; decide) (by rw [c26]; rfl) (by decide) ?_
                    refine lv_aload_n hx hb d_M_goByState_189 rfl (lv_at hl 1 rfl) ?_
                    refine lv_aload_n hx hb d_M_goByState_190 rfl (lv_at hl 1 rfl) ?_
                    refine va_get (D := D) (ci := 1) (v := .int ind) (C := "SignMachine$Machine") (T := F_M) (N := 14) hx hb hk fi_M hown hK.1 hP 0 rfl rfl 5 (by decide) (hk _ k_170) (fun _ h9 => h9) rfl d_M_goByState_191 ?_
                    refine lv_if_eq (tgt := 201) hx hb d_M_goByState_194 (by decide) (fun c27 => ?_) (fun c27 => ?_)
                    · refine lv_iconst (v := 0) hx hb d_M_goByState_201 (by decide) ?_
                      refine ca_v (va_runV (C := "SignMachine$Machine") (As := [.int (0 : Int32)]) (rest := []) ⟨hx, hb, hml, hown, hk⟩ (c_M_goIf l D cI cJ cZ cB h0 h1 h2 h3 h4 s.heap.size tog ind tim nxt enD cod fld idx mm soz mem reg p1 w1 p2 w2 TL (0 : Int32)) (v_M_goIf hk k_448 ⟨Nat.le_of_ble_eq_true rfl, Nat.le_of_ble_eq_true rfl⟩) (pM_v hK hP hD (ci := 1) (q0 := 0) rfl rfl rfl) rfl rfl hl.1 rfl (lv_room (Nat.le_of_ble_eq_true rfl)) d_M_goByState_202 ⟨Nat.le_of_ble_eq_true rfl, Nat.le_of_ble_eq_true rfl⟩) hS hA hD (fun u H locs hz28 hP hS => ?_)
                      obtain ⟨nxtz28, regz28⟩ := u
                      have hP : va_P D classes (mW cI cJ cZ cB h0 h1 h2 h3 h4 tog ind tim nxtz28 enD cod fld idx mm soz mem regz28 p1 w1 p2 w2 TL) H := hP
                      have hD : va_D A (mW cI cJ cZ cB h0 h1 h2 h3 h4 tog ind tim nxtz28 enD cod fld idx mm soz mem regz28 p1 w1 p2 w2 TL) := dsame hD rfl
                      try dsimp only at hz28
                      refine lv_goto (tgt := 224) hx hb d_M_goByState_205 (by decide) ?_
                      exact W.vret hx hb hr (fun t ht hW => ⟨⟨(tog, nxtz28, regz28), rfl, by simp only [f_M_goByState, if_neg c1, if_neg c3, if_neg c4, if_neg c6, if_neg c10, if_neg c14, if_neg c18, if_neg c22, if_pos c26, if_pos c27, ← hz28], by show va_P D classes _ t.heap; rw [ht]; exact hP⟩, hS.F ht⟩) hS.2.2 d_M_goByState_224
                    · refine lv_iconst (v := 1) hx hb d_M_goByState_197 (by decide) ?_
                      refine lv_goto (tgt := 202) hx hb d_M_goByState_198 (by decide) ?_
                      refine ca_v (va_runV (C := "SignMachine$Machine") (As := [.int (1 : Int32)]) (rest := []) ⟨hx, hb, hml, hown, hk⟩ (c_M_goIf l D cI cJ cZ cB h0 h1 h2 h3 h4 s.heap.size tog ind tim nxt enD cod fld idx mm soz mem reg p1 w1 p2 w2 TL (1 : Int32)) (v_M_goIf hk k_448 ⟨Nat.le_of_ble_eq_true rfl, Nat.le_of_ble_eq_true rfl⟩) (pM_v hK hP hD (ci := 1) (q0 := 0) rfl rfl rfl) rfl rfl hl.1 rfl (lv_room (Nat.le_of_ble_eq_true rfl)) d_M_goByState_202 ⟨Nat.le_of_ble_eq_true rfl, Nat.le_of_ble_eq_true rfl⟩) hS hA hD (fun u H locs hz29 hP hS => ?_)
                      obtain ⟨nxtz29, regz29⟩ := u
                      have hP : va_P D classes (mW cI cJ cZ cB h0 h1 h2 h3 h4 tog ind tim nxtz29 enD cod fld idx mm soz mem regz29 p1 w1 p2 w2 TL) H := hP
                      have hD : va_D A (mW cI cJ cZ cB h0 h1 h2 h3 h4 tog ind tim nxtz29 enD cod fld idx mm soz mem regz29 p1 w1 p2 w2 TL) := dsame hD rfl
                      try dsimp only at hz29
                      refine lv_goto (tgt := 224) hx hb d_M_goByState_205 (by decide) ?_
                      exact W.vret hx hb hr (fun t ht hW => ⟨⟨(tog, nxtz29, regz29), rfl, by simp only [f_M_goByState, if_neg c1, if_neg c3, if_neg c4, if_neg c6, if_neg c10, if_neg c14, if_neg c18, if_neg c22, if_pos c26, if_neg c27, ← hz29], by show va_P D classes _ t.heap; rw [ht]; exact hP⟩, hS.F ht⟩) hS.2.2 d_M_goByState_224
                  · refine lv_tableOut (tgt := 208) hx hb d_M_goByState_9 (by have e0 := lv_neT c1 (a := 0) rfl; have e1 := lv_neT c3 (a := 1) rfl; have e2 := lv_neT c4 (a := 2) rfl; have e3 := lv_neT c6 (a := 3) rfl; have e4 := lv_neT c10 (a := 4) rfl; have e5 := lv_neT c14 (a := 5) rfl; have e6 := lv_neT c18 (a := 6) rfl; have e7 := lv_neT c22 (a := 7) rfl; have e8 := lv_neT c26 (a := 8) rfl; omega) (by decide) ?_
                    refine lv_aload_n hx hb d_M_goByState_208 rfl (lv_at hl 1 rfl) ?_
                    refine lv_aload_n hx hb d_M_goByState_209 rfl (lv_at hl 1 rfl) ?_
                    refine va_get (D := D) (ci := 1) (v := .int ind) (C := "SignMachine$Machine") (T := F_M) (N := 14) hx hb hk fi_M hown hK.1 hP 0 rfl rfl 5 (by decide) (hk _ k_170) (fun _ h9 => h9) rfl d_M_goByState_210 ?_
                    refine lv_if_gt (tgt := 220) hx hb d_M_goByState_213 (by decide) (fun c30 => ?_) (fun c30 => ?_)
                    · refine lv_iconst (v := 0) hx hb d_M_goByState_220 (by decide) ?_
                      refine ca_v (va_runV (C := "SignMachine$Machine") (As := [.int (0 : Int32)]) (rest := []) ⟨hx, hb, hml, hown, hk⟩ (c_M_goIf l D cI cJ cZ cB h0 h1 h2 h3 h4 s.heap.size tog ind tim nxt enD cod fld idx mm soz mem reg p1 w1 p2 w2 TL (0 : Int32)) (v_M_goIf hk k_448 ⟨Nat.le_of_ble_eq_true rfl, Nat.le_of_ble_eq_true rfl⟩) (pM_v hK hP hD (ci := 1) (q0 := 0) rfl rfl rfl) rfl rfl hl.1 rfl (lv_room (Nat.le_of_ble_eq_true rfl)) d_M_goByState_221 ⟨Nat.le_of_ble_eq_true rfl, Nat.le_of_ble_eq_true rfl⟩) hS hA hD (fun u H locs hz31 hP hS => ?_)
                      obtain ⟨nxtz31, regz31⟩ := u
                      have hP : va_P D classes (mW cI cJ cZ cB h0 h1 h2 h3 h4 tog ind tim nxtz31 enD cod fld idx mm soz mem regz31 p1 w1 p2 w2 TL) H := hP
                      have hD : va_D A (mW cI cJ cZ cB h0 h1 h2 h3 h4 tog ind tim nxtz31 enD cod fld idx mm soz mem regz31 p1 w1 p2 w2 TL) := dsame hD rfl
                      try dsimp only at hz31
                      exact W.vret hx hb hr (fun t ht hW => ⟨⟨(tog, nxtz31, regz31), rfl, by simp only [f_M_goByState, if_neg c1, if_neg c3, if_neg c4, if_neg c6, if_neg c10, if_neg c14, if_neg c18, if_neg c22, if_neg c26, if_pos c30, ← hz31], by show va_P D classes _ t.heap; rw [ht]; exact hP⟩, hS.F ht⟩) hS.2.2 d_M_goByState_224
                    · refine lv_iconst (v := 1) hx hb d_M_goByState_216 (by decide) ?_
                      refine lv_goto (tgt := 221) hx hb d_M_goByState_217 (by decide) ?_
                      refine ca_v (va_runV (C := "SignMachine$Machine") (As := [.int (1 : Int32)]) (rest := []) ⟨hx, hb, hml, hown, hk⟩ (c_M_goIf l D cI cJ cZ cB h0 h1 h2 h3 h4 s.heap.size tog ind tim nxt enD cod fld idx mm soz mem reg p1 w1 p2 w2 TL (1 : Int32)) (v_M_goIf hk k_448 ⟨Nat.le_of_ble_eq_true rfl, Nat.le_of_ble_eq_true rfl⟩) (pM_v hK hP hD (ci := 1) (q0 := 0) rfl rfl rfl) rfl rfl hl.1 rfl (lv_room (Nat.le_of_ble_eq_true rfl)) d_M_goByState_221 ⟨Nat.le_of_ble_eq_true rfl, Nat.le_of_ble_eq_true rfl⟩) hS hA hD (fun u H locs hz32 hP hS => ?_)
                      obtain ⟨nxtz32, regz32⟩ := u
                      have hP : va_P D classes (mW cI cJ cZ cB h0 h1 h2 h3 h4 tog ind tim nxtz32 enD cod fld idx mm soz mem regz32 p1 w1 p2 w2 TL) H := hP
                      have hD : va_D A (mW cI cJ cZ cB h0 h1 h2 h3 h4 tog ind tim nxtz32 enD cod fld idx mm soz mem regz32 p1 w1 p2 w2 TL) := dsame hD rfl
                      try dsimp only at hz32
                      exact W.vret hx hb hr (fun t ht hW => ⟨⟨(tog, nxtz32, regz32), rfl, by simp only [f_M_goByState, if_neg c1, if_neg c3, if_neg c4, if_neg c6, if_neg c10, if_neg c14, if_neg c18, if_neg c22, if_neg c26, if_neg c30, ← hz32], by show va_P D classes _ t.heap; rw [ht]; exact hP⟩, hS.F ht⟩) hS.2.2 d_M_goByState_224
theorem v_M_goByState {R : Room} {s : State} {args : Array Value} {own : String} {index : Nat} (hk : ∀ w ∈ tb, w.before args s = true) (hl : Cond.methodLink own index y_M_goByState ∈ tb) (hR : 2 + 1 ≤ R.frames ∧ 8 + (2 + 11) + 43 ≤ R.locals) : CallW R s args own "SignMachine$Machine" index y_M_goByState b_M_goByState 2 none (.code y_M_goByState b_M_goByState 2 none :: tb) ({ frames := 2, cells := 0, slots := 0, locals := 43 }) 0 0 0 := mk_v 0 hk k_455 hl k_454 k_29 k_117 rfl rfl h_M_goByState hR
def f_M_registerIs (fld : Int32) (a1 : Int32) : Bool := (if fld = (0 : Int32) then (if (0 : Int32) ≤ a1 then false else true) else (if fld = (1 : Int32) then (if a1 = (0 : Int32) then true else false) else (if fld = (2 : Int32) then (if a1 ≤ (0 : Int32) then false else true) else (if fld = (3 : Int32) then (if a1 < (0 : Int32) then false else true) else (if fld = (4 : Int32) then (if a1 = (0 : Int32) then false else true) else (if (0 : Int32) < a1 then false else true))))))
set_option maxHeartbeats 4000000 in
set_option maxRecDepth 100000 in
theorem c_M_registerIs (l : Launch) (D : va_G) (cI cJ cZ cB : ClassId) (h0 h1 h2 h3 h4 : Nat) (tog : Int32) (ind : Int32) (tim : Int32) (nxt : Int32) (enD : Int32) (cod : Int32) (fld : Int32) (idx : Int32) (mm : Int32) (soz : Int32) (mem : Nat → Int32) (reg : Nat → Int32) (p1 : Int32) (w1 : Option Nat) (p2 : Int32) (w2 : Option Nat) (TL : va_W) (a1 : Int32) : Met l y_M_registerIs (.code y_M_registerIs b_M_registerIs 2 (some .boolean) :: tb) ({ frames := 0, cells := 0, slots := 0, locals := 0 }) (pR D cI cJ cZ cB (mW cI cJ cZ cB h0 h1 h2 h3 h4 tog ind tim nxt enD cod fld idx mm soz mem reg p1 w1 p2 w2 TL) [.ref h0, .int a1]) (vp_Si (fun r => r = bI (f_M_registerIs fld a1))) 0 0 (fun _ => False) := by
  refine Met.ofW (cc := b_M_registerIs) (maxL := 2) (ret := (some .boolean)) (by decide) rfl ?_
  intro p e s m args below meth c s₁ B hml hv
  obtain ⟨rfl, hK, hP⟩ := hv
  have hx := B.exec
  have hb := B.bytes
  have hr := B.returns
  have hts := atoms_spec (ws := .code y_M_registerIs b_M_registerIs 2 (some .boolean) :: tb) B.pre
  have hk : ∀ w ∈ tb, w.before [.ref h0, .int a1].toArray s = true := fun w h => hts w (List.mem_cons_of_mem _ h)
  have hown : s.vm.findClass "SignMachine$Machine" = some m.cls := findClass_of_methodNamed B.named
  have hlocks := B.notSynchronized
  have hl := lv_entry ([.ref h0, .int a1]) (n := 2) (Nat.le_of_ble_eq_true rfl)
  rw [lg_entry_eq]
  generalize (lg_sl ([.ref h0, .int a1]) ++ List.replicate (2 - (lg_sl ([.ref h0, .int a1])).length) Slot.unset).toArray = ls at hl ⊢
  have hl : lv_has ls 2 [(0, .ref h0), (1, .int a1)] := hl
  refine lv_aload_n hx hb d_M_registerIs_0 rfl (lv_at hl 0 rfl) ?_
  refine va_get (D := D) (ci := 1) (v := .int fld) (C := "SignMachine$Machine") (T := F_M) (N := 14) hx hb hk fi_M hown hK.1 hP 0 rfl rfl 10 (by decide) (hk _ k_177) (fun _ h9 => h9) rfl d_M_registerIs_1 ?_
  by_cases c1 : fld = (0 : Int32)
  · refine lv_tableIn (off := 36) (tgt := 40) hx hb d_M_registerIs_4 (by rw [c1]; decide) (by rw [c1]; decide) (by rw [c1]; rfl) (by decide) ?_
    refine lv_iload_n hx hb d_M_registerIs_40 rfl (lv_at hl 1 rfl) ?_
    refine lv_if_ge (tgt := 48) hx hb d_M_registerIs_41 (by decide) (fun c2 => ?_) (fun c2 => ?_)
    · refine lv_iconst (v := 0) hx hb d_M_registerIs_48 (by decide) ?_
      exact W.zret (v := (0 : Int32)) hx hb hr rfl (fun t ht hW => ⟨(0 : Int32), rfl, by simp only [f_M_registerIs, if_pos c1, if_pos c2]; rfl, ht⟩) (fun q h => absurd h List.not_mem_nil) d_M_registerIs_49
    · refine lv_iconst (v := 1) hx hb d_M_registerIs_44 (by decide) ?_
      refine lv_goto (tgt := 49) hx hb d_M_registerIs_45 (by decide) ?_
      exact W.zret (v := (1 : Int32)) hx hb hr rfl (fun t ht hW => ⟨(1 : Int32), rfl, by simp only [f_M_registerIs, if_pos c1, if_neg c2]; rfl, ht⟩) (fun q h => absurd h List.not_mem_nil) d_M_registerIs_49
  · by_cases c3 : fld = (1 : Int32)
    · refine lv_tableIn (off := 46) (tgt := 50) hx hb d_M_registerIs_4 (by rw [c3]; decide) (by rw [c3]; decide) (by rw [c3]; rfl) (by decide) ?_
      refine lv_iload_n hx hb d_M_registerIs_50 rfl (lv_at hl 1 rfl) ?_
      refine lv_if_ne (tgt := 58) hx hb d_M_registerIs_51 (by decide) (fun c4 => ?_) (fun c4 => ?_)
      · refine lv_iconst (v := 0) hx hb d_M_registerIs_58 (by decide) ?_
        exact W.zret (v := (0 : Int32)) hx hb hr rfl (fun t ht hW => ⟨(0 : Int32), rfl, by simp only [f_M_registerIs, if_neg c1, if_pos c3, if_neg c4]; rfl, ht⟩) (fun q h => absurd h List.not_mem_nil) d_M_registerIs_59
      · refine lv_iconst (v := 1) hx hb d_M_registerIs_54 (by decide) ?_
        refine lv_goto (tgt := 59) hx hb d_M_registerIs_55 (by decide) ?_
        exact W.zret (v := (1 : Int32)) hx hb hr rfl (fun t ht hW => ⟨(1 : Int32), rfl, by simp only [f_M_registerIs, if_neg c1, if_pos c3, if_pos c4]; rfl, ht⟩) (fun q h => absurd h List.not_mem_nil) d_M_registerIs_59
    · by_cases c5 : fld = (2 : Int32)
      · refine lv_tableIn (off := 56) (tgt := 60) hx hb d_M_registerIs_4 (by rw [c5]; decide) (by rw [c5]; decide) (by rw [c5]; rfl) (by decide) ?_
        refine lv_iload_n hx hb d_M_registerIs_60 rfl (lv_at hl 1 rfl) ?_
        refine lv_if_le (tgt := 68) hx hb d_M_registerIs_61 (by decide) (fun c6 => ?_) (fun c6 => ?_)
        · refine lv_iconst (v := 0) hx hb d_M_registerIs_68 (by decide) ?_
          exact W.zret (v := (0 : Int32)) hx hb hr rfl (fun t ht hW => ⟨(0 : Int32), rfl, by simp only [f_M_registerIs, if_neg c1, if_neg c3, if_pos c5, if_pos c6]; rfl, ht⟩) (fun q h => absurd h List.not_mem_nil) d_M_registerIs_69
        · refine lv_iconst (v := 1) hx hb d_M_registerIs_64 (by decide) ?_
          refine lv_goto (tgt := 69) hx hb d_M_registerIs_65 (by decide) ?_
          exact W.zret (v := (1 : Int32)) hx hb hr rfl (fun t ht hW => ⟨(1 : Int32), rfl, by simp only [f_M_registerIs, if_neg c1, if_neg c3, if_pos c5, if_neg c6]; rfl, ht⟩) (fun q h => absurd h List.not_mem_nil) d_M_registerIs_69
      · by_cases c7 : fld = (3 : Int32)
        · refine lv_tableIn (off := 66) (tgt := 70) hx hb d_M_registerIs_4 (by rw [c7]; decide) (by rw [c7]; decide) (by rw [c7]; rfl) (by decide) ?_
          refine lv_iload_n hx hb d_M_registerIs_70 rfl (lv_at hl 1 rfl) ?_
          refine lv_if_lt (tgt := 78) hx hb d_M_registerIs_71 (by decide) (fun c8 => ?_) (fun c8 => ?_)
          · refine lv_iconst (v := 0) hx hb d_M_registerIs_78 (by decide) ?_
            exact W.zret (v := (0 : Int32)) hx hb hr rfl (fun t ht hW => ⟨(0 : Int32), rfl, by simp only [f_M_registerIs, if_neg c1, if_neg c3, if_neg c5, if_pos c7, if_pos c8]; rfl, ht⟩) (fun q h => absurd h List.not_mem_nil) d_M_registerIs_79
          · refine lv_iconst (v := 1) hx hb d_M_registerIs_74 (by decide) ?_
            refine lv_goto (tgt := 79) hx hb d_M_registerIs_75 (by decide) ?_
            exact W.zret (v := (1 : Int32)) hx hb hr rfl (fun t ht hW => ⟨(1 : Int32), rfl, by simp only [f_M_registerIs, if_neg c1, if_neg c3, if_neg c5, if_pos c7, if_neg c8]; rfl, ht⟩) (fun q h => absurd h List.not_mem_nil) d_M_registerIs_79
        · by_cases c9 : fld = (4 : Int32)
          · refine lv_tableIn (off := 76) (tgt := 80) hx hb d_M_registerIs_4 (by rw [c9]; decide) (by rw [c9]; decide) (by rw [c9]; rfl) (by decide) ?_
            refine lv_iload_n hx hb d_M_registerIs_80 rfl (lv_at hl 1 rfl) ?_
            refine lv_if_eq (tgt := 88) hx hb d_M_registerIs_81 (by decide) (fun c10 => ?_) (fun c10 => ?_)
            · refine lv_iconst (v := 0) hx hb d_M_registerIs_88 (by decide) ?_
              exact W.zret (v := (0 : Int32)) hx hb hr rfl (fun t ht hW => ⟨(0 : Int32), rfl, by simp only [f_M_registerIs, if_neg c1, if_neg c3, if_neg c5, if_neg c7, if_pos c9, if_pos c10]; rfl, ht⟩) (fun q h => absurd h List.not_mem_nil) d_M_registerIs_89
            · refine lv_iconst (v := 1) hx hb d_M_registerIs_84 (by decide) ?_
              refine lv_goto (tgt := 89) hx hb d_M_registerIs_85 (by decide) ?_
              exact W.zret (v := (1 : Int32)) hx hb hr rfl (fun t ht hW => ⟨(1 : Int32), rfl, by simp only [f_M_registerIs, if_neg c1, if_neg c3, if_neg c5, if_neg c7, if_pos c9, if_neg c10]; rfl, ht⟩) (fun q h => absurd h List.not_mem_nil) d_M_registerIs_89
          · refine lv_tableOut (tgt := 90) hx hb d_M_registerIs_4 (by have e0 := lv_neT c1 (a := 0) rfl; have e1 := lv_neT c3 (a := 1) rfl; have e2 := lv_neT c5 (a := 2) rfl; have e3 := lv_neT c7 (a := 3) rfl; have e4 := lv_neT c9 (a := 4) rfl; omega) (by decide) ?_
            refine lv_iload_n hx hb d_M_registerIs_90 rfl (lv_at hl 1 rfl) ?_
            refine lv_if_gt (tgt := 98) hx hb d_M_registerIs_91 (by decide) (fun c11 => ?_) (fun c11 => ?_)
            · refine lv_iconst (v := 0) hx hb d_M_registerIs_98 (by decide) ?_
              exact W.zret (v := (0 : Int32)) hx hb hr rfl (fun t ht hW => ⟨(0 : Int32), rfl, by simp only [f_M_registerIs, if_neg c1, if_neg c3, if_neg c5, if_neg c7, if_neg c9, if_pos c11]; rfl, ht⟩) (fun q h => absurd h List.not_mem_nil) d_M_registerIs_99
            · refine lv_iconst (v := 1) hx hb d_M_registerIs_94 (by decide) ?_
              refine lv_goto (tgt := 99) hx hb d_M_registerIs_95 (by decide) ?_
              exact W.zret (v := (1 : Int32)) hx hb hr rfl (fun t ht hW => ⟨(1 : Int32), rfl, by simp only [f_M_registerIs, if_neg c1, if_neg c3, if_neg c5, if_neg c7, if_neg c9, if_neg c11]; rfl, ht⟩) (fun q h => absurd h List.not_mem_nil) d_M_registerIs_99
theorem v_M_registerIs {R : Room} {s : State} {args : Array Value} {own : String} {index : Nat} (hk : ∀ w ∈ tb, w.before args s = true) (hl : Cond.methodLink own index y_M_registerIs ∈ tb) (hR : 0 + 1 ≤ R.frames ∧ 8 + (2 + 11) + 0 ≤ R.locals) : CallW R s args own "SignMachine$Machine" index y_M_registerIs b_M_registerIs 2 (some .boolean) (.code y_M_registerIs b_M_registerIs 2 (some .boolean) :: tb) ({ frames := 0, cells := 0, slots := 0, locals := 0 }) 0 0 1 := mk_v 1 hk k_459 hl k_458 k_30 k_117 rfl rfl h_M_registerIs hR
def f_M_changeByAddress (tog : Int32) (fld : Int32) (mm : Int32) (soz : Int32) (reg : Nat → Int32) (a1 : Int32) : (Int32) × (Nat → Int32) := (if fld = (0 : Int32) then (match (f_M_addTo tog reg a1 mm) with | (togz2, regz2) => (togz2, regz2)) else (if fld = (1 : Int32) then (match (f_M_addTo tog reg a1 (-mm)) with | (togz4, regz4) => (togz4, regz4)) else (if fld = (2 : Int32) then (match (f_M_putRegister reg a1 (f_W_of mm soz)) with | (regz6) => (tog, regz6)) else (match (f_M_putRegister reg a1 (f_W_opposite (f_W_of mm soz))) with | (regz7) => (tog, regz7)))))
set_option maxHeartbeats 4000000 in
set_option maxRecDepth 100000 in
theorem c_M_changeByAddress (l : Launch) (D : va_G) (cI cJ cZ cB : ClassId) (h0 h1 h2 h3 h4 : Nat) (sz : Nat) (tog : Int32) (ind : Int32) (tim : Int32) (nxt : Int32) (enD : Int32) (cod : Int32) (fld : Int32) (idx : Int32) (mm : Int32) (soz : Int32) (mem : Nat → Int32) (reg : Nat → Int32) (p1 : Int32) (w1 : Option Nat) (p2 : Int32) (w2 : Option Nat) (TL : va_W) (a1 : Int32) : Met l y_M_changeByAddress (.code y_M_changeByAddress b_M_changeByAddress 2 none :: tb) ({ frames := 3, cells := 0, slots := 0, locals := 66 }) (pM D cI cJ cZ cB (mW cI cJ cZ cB h0 h1 h2 h3 h4 tog ind tim nxt enD cod fld idx mm soz mem reg p1 w1 p2 w2 TL) sz [.ref h0, .int a1]) (qV D (fun u => u = f_M_changeByAddress tog fld mm soz reg a1) (fun (u : (Int32) × (Nat → Int32)) => match u with | (u_tog, u_reg) => (mW cI cJ cZ cB h0 h1 h2 h3 h4 u_tog ind tim nxt enD cod fld idx mm soz mem u_reg p1 w1 p2 w2 TL)) (va_A (mW cI cJ cZ cB h0 h1 h2 h3 h4 tog ind tim nxt enD cod fld idx mm soz mem reg p1 w1 p2 w2 TL) sz)) 0 0 (va_A (mW cI cJ cZ cB h0 h1 h2 h3 h4 tog ind tim nxt enD cod fld idx mm soz mem reg p1 w1 p2 w2 TL) sz) := by
  refine Met.ofW (cc := b_M_changeByAddress) (maxL := 2) (ret := none) (by decide) rfl ?_
  intro p e s m args below meth c s₁ B hml hv
  obtain ⟨rfl, hsz, hK, hP, hD0⟩ := hv
  subst hsz
  have hD := hD0.self (sz := s.heap.size)
  generalize hAe : va_A (mW cI cJ cZ cB h0 h1 h2 h3 h4 tog ind tim nxt enD cod fld idx mm soz mem reg p1 w1 p2 w2 TL) s.heap.size = A at hD ⊢
  have hA : ∀ q : Nat, s.heap.size ≤ q → A q := fun q h => by rw [← hAe]; exact Or.inr h
  have hS : va_S A s.heap s.heap [] := va_S.rf
  have hx := B.exec
  have hb := B.bytes
  have hr := B.returns
  have hts := atoms_spec (ws := .code y_M_changeByAddress b_M_changeByAddress 2 none :: tb) B.pre
  have hk : ∀ w ∈ tb, w.before [.ref h0, .int a1].toArray s = true := fun w h => hts w (List.mem_cons_of_mem _ h)
  have hown : s.vm.findClass "SignMachine$Machine" = some m.cls := findClass_of_methodNamed B.named
  have hlocks := B.notSynchronized
  have hl := lv_entry ([.ref h0, .int a1]) (n := 2) (Nat.le_of_ble_eq_true rfl)
  rw [lg_entry_eq]
  generalize (lg_sl ([.ref h0, .int a1]) ++ List.replicate (2 - (lg_sl ([.ref h0, .int a1])).length) Slot.unset).toArray = ls at hl ⊢
  have hl : lv_has ls 2 [(0, .ref h0), (1, .int a1)] := hl
  refine lv_aload_n hx hb d_M_changeByAddress_0 rfl (lv_at hl 0 rfl) ?_
  refine va_get (D := D) (ci := 1) (v := .int fld) (C := "SignMachine$Machine") (T := F_M) (N := 14) hx hb hk fi_M hown hK.1 hP 0 rfl rfl 10 (by decide) (hk _ k_177) (fun _ h9 => h9) rfl d_M_changeByAddress_1 ?_
  by_cases c1 : fld = (0 : Int32)
  · refine lv_tableIn (off := 28) (tgt := 32) hx hb d_M_changeByAddress_4 (by rw [c1]; decide) (by rw [c1]; decide) (by rw [c1]; rfl) (by decide) ?_
    refine lv_aload_n hx hb d_M_changeByAddress_32 rfl (lv_at hl 0 rfl) ?_
    refine lv_iload_n hx hb d_M_changeByAddress_33 rfl (lv_at hl 1 rfl) ?_
    refine lv_aload_n hx hb d_M_changeByAddress_34 rfl (lv_at hl 0 rfl) ?_
    refine va_get (D := D) (ci := 1) (v := .int mm) (C := "SignMachine$Machine") (T := F_M) (N := 14) hx hb hk fi_M hown hK.1 hP 0 rfl rfl 12 (by decide) (hk _ k_179) (fun _ h9 => h9) rfl d_M_changeByAddress_35 ?_
    refine ca_v (va_runV (C := "SignMachine$Machine") (As := [.int a1, .int mm]) (rest := []) ⟨hx, hb, hml, hown, hk⟩ (c_M_addTo l D cI cJ cZ cB h0 h1 h2 h3 h4 s.heap.size tog ind tim nxt enD cod fld idx mm soz mem reg p1 w1 p2 w2 TL a1 mm) (v_M_addTo hk k_354 ⟨Nat.le_of_ble_eq_true rfl, Nat.le_of_ble_eq_true rfl⟩) (pM_v hK hP hD (ci := 1) (q0 := 0) rfl rfl rfl) rfl rfl hl.1 rfl (lv_room (Nat.le_of_ble_eq_true rfl)) d_M_changeByAddress_38 ⟨Nat.le_of_ble_eq_true rfl, Nat.le_of_ble_eq_true rfl⟩) hS hA hD (fun u H locs hz2 hP hS => ?_)
    obtain ⟨togz2, regz2⟩ := u
    have hP : va_P D classes (mW cI cJ cZ cB h0 h1 h2 h3 h4 togz2 ind tim nxt enD cod fld idx mm soz mem regz2 p1 w1 p2 w2 TL) H := hP
    have hD : va_D A (mW cI cJ cZ cB h0 h1 h2 h3 h4 togz2 ind tim nxt enD cod fld idx mm soz mem regz2 p1 w1 p2 w2 TL) := dsame hD rfl
    try dsimp only at hz2
    refine lv_goto (tgt := 95) hx hb d_M_changeByAddress_41 (by decide) ?_
    exact W.vret hx hb hr (fun t ht hW => ⟨⟨(togz2, regz2), rfl, by simp only [f_M_changeByAddress, if_pos c1, ← hz2], by show va_P D classes _ t.heap; rw [ht]; exact hP⟩, hS.F ht⟩) hS.2.2 d_M_changeByAddress_95
  · by_cases c3 : fld = (1 : Int32)
    · refine lv_tableIn (off := 40) (tgt := 44) hx hb d_M_changeByAddress_4 (by rw [c3]; decide) (by rw [c3]; decide) (by rw [c3]; rfl) (by decide) ?_
      refine lv_aload_n hx hb d_M_changeByAddress_44 rfl (lv_at hl 0 rfl) ?_
      refine lv_iload_n hx hb d_M_changeByAddress_45 rfl (lv_at hl 1 rfl) ?_
      refine lv_aload_n hx hb d_M_changeByAddress_46 rfl (lv_at hl 0 rfl) ?_
      refine va_get (D := D) (ci := 1) (v := .int mm) (C := "SignMachine$Machine") (T := F_M) (N := 14) hx hb hk fi_M hown hK.1 hP 0 rfl rfl 12 (by decide) (hk _ k_179) (fun _ h9 => h9) rfl d_M_changeByAddress_47 ?_
      refine lv_ineg hx hb d_M_changeByAddress_50 ?_
      refine ca_v (va_runV (C := "SignMachine$Machine") (As := [.int a1, .int (-mm)]) (rest := []) ⟨hx, hb, hml, hown, hk⟩ (c_M_addTo l D cI cJ cZ cB h0 h1 h2 h3 h4 s.heap.size tog ind tim nxt enD cod fld idx mm soz mem reg p1 w1 p2 w2 TL a1 (-mm)) (v_M_addTo hk k_354 ⟨Nat.le_of_ble_eq_true rfl, Nat.le_of_ble_eq_true rfl⟩) (pM_v hK hP hD (ci := 1) (q0 := 0) rfl rfl rfl) rfl rfl hl.1 rfl (lv_room (Nat.le_of_ble_eq_true rfl)) d_M_changeByAddress_51 ⟨Nat.le_of_ble_eq_true rfl, Nat.le_of_ble_eq_true rfl⟩) hS hA hD (fun u H locs hz4 hP hS => ?_)
      obtain ⟨togz4, regz4⟩ := u
      have hP : va_P D classes (mW cI cJ cZ cB h0 h1 h2 h3 h4 togz4 ind tim nxt enD cod fld idx mm soz mem regz4 p1 w1 p2 w2 TL) H := hP
      have hD : va_D A (mW cI cJ cZ cB h0 h1 h2 h3 h4 togz4 ind tim nxt enD cod fld idx mm soz mem regz4 p1 w1 p2 w2 TL) := dsame hD rfl
      try dsimp only at hz4
      refine lv_goto (tgt := 95) hx hb d_M_changeByAddress_54 (by decide) ?_
      exact W.vret hx hb hr (fun t ht hW => ⟨⟨(togz4, regz4), rfl, by simp only [f_M_changeByAddress, if_neg c1, if_pos c3, ← hz4], by show va_P D classes _ t.heap; rw [ht]; exact hP⟩, hS.F ht⟩) hS.2.2 d_M_changeByAddress_95
    · by_cases c5 : fld = (2 : Int32)
      · refine lv_tableIn (off := 53) (tgt := 57) hx hb d_M_changeByAddress_4 (by rw [c5]; decide) (by rw [c5]; decide) (by rw [c5]; rfl) (by decide) ?_
        refine lv_aload_n hx hb d_M_changeByAddress_57 rfl (lv_at hl 0 rfl) ?_
        refine lv_iload_n hx hb d_M_changeByAddress_58 rfl (lv_at hl 1 rfl) ?_
        refine lv_aload_n hx hb d_M_changeByAddress_59 rfl (lv_at hl 0 rfl) ?_
        refine va_get (D := D) (ci := 1) (v := .int mm) (C := "SignMachine$Machine") (T := F_M) (N := 14) hx hb hk fi_M hown hK.1 hP 0 rfl rfl 12 (by decide) (hk _ k_179) (fun _ h9 => h9) rfl d_M_changeByAddress_60 ?_
        refine lv_aload_n hx hb d_M_changeByAddress_63 rfl (lv_at hl 0 rfl) ?_
        refine va_get (D := D) (ci := 1) (v := .int soz) (C := "SignMachine$Machine") (T := F_M) (N := 14) hx hb hk fi_M hown hK.1 hP 0 rfl rfl 13 (by decide) (hk _ k_180) (fun _ h9 => h9) rfl d_M_changeByAddress_64 ?_
        refine cs_i (W.runS (As := [.int mm, .int soz]) (rest := [.int a1, .ref h0]) ⟨hx, hb, hml, hown, hk⟩ (c_W_of l mm soz) (s_W_of hk k_359 ⟨Nat.le_of_ble_eq_true rfl, Nat.le_of_ble_eq_true rfl⟩) ⟨fun a U g mk q => q, fun U hU hW => ⟨rfl, trivial⟩⟩ rfl rfl hl.1 rfl (lv_room (Nat.le_of_ble_eq_true rfl)) d_M_changeByAddress_67 ⟨Nat.le_of_ble_eq_true rfl, Nat.le_of_ble_eq_true rfl⟩) ?_
        refine ca_v (va_runV (C := "SignMachine$Machine") (As := [.int a1, .int (f_W_of mm soz)]) (rest := []) ⟨hx, hb, hml, hown, hk⟩ (c_M_putRegister l D cI cJ cZ cB h0 h1 h2 h3 h4 s.heap.size tog ind tim nxt enD cod fld idx mm soz mem reg p1 w1 p2 w2 TL a1 (f_W_of mm soz)) (v_M_putRegister hk k_362 ⟨Nat.le_of_ble_eq_true rfl, Nat.le_of_ble_eq_true rfl⟩) (pM_v hK hP hD (ci := 1) (q0 := 0) rfl rfl rfl) rfl rfl hl.1 rfl (lv_room (Nat.le_of_ble_eq_true rfl)) d_M_changeByAddress_70 ⟨Nat.le_of_ble_eq_true rfl, Nat.le_of_ble_eq_true rfl⟩) hS hA hD (fun u H locs hz6 hP hS => ?_)
        obtain ⟨regz6, hu⟩ : ∃ y, y = u := ⟨_, rfl⟩
        subst hu
        have hP : va_P D classes (mW cI cJ cZ cB h0 h1 h2 h3 h4 tog ind tim nxt enD cod fld idx mm soz mem regz6 p1 w1 p2 w2 TL) H := hP
        have hD : va_D A (mW cI cJ cZ cB h0 h1 h2 h3 h4 tog ind tim nxt enD cod fld idx mm soz mem regz6 p1 w1 p2 w2 TL) := dsame hD rfl
        try dsimp only at hz6
        refine lv_goto (tgt := 95) hx hb d_M_changeByAddress_73 (by decide) ?_
        exact W.vret hx hb hr (fun t ht hW => ⟨⟨(tog, regz6), rfl, by simp only [f_M_changeByAddress, if_neg c1, if_neg c3, if_pos c5, ← hz6], by show va_P D classes _ t.heap; rw [ht]; exact hP⟩, hS.F ht⟩) hS.2.2 d_M_changeByAddress_95
      · refine lv_tableOut (tgt := 76) hx hb d_M_changeByAddress_4 (by have e0 := lv_neT c1 (a := 0) rfl; have e1 := lv_neT c3 (a := 1) rfl; have e2 := lv_neT c5 (a := 2) rfl; omega) (by decide) ?_
        refine lv_aload_n hx hb d_M_changeByAddress_76 rfl (lv_at hl 0 rfl) ?_
        refine lv_iload_n hx hb d_M_changeByAddress_77 rfl (lv_at hl 1 rfl) ?_
        refine lv_aload_n hx hb d_M_changeByAddress_78 rfl (lv_at hl 0 rfl) ?_
        refine va_get (D := D) (ci := 1) (v := .int mm) (C := "SignMachine$Machine") (T := F_M) (N := 14) hx hb hk fi_M hown hK.1 hP 0 rfl rfl 12 (by decide) (hk _ k_179) (fun _ h9 => h9) rfl d_M_changeByAddress_79 ?_
        refine lv_aload_n hx hb d_M_changeByAddress_82 rfl (lv_at hl 0 rfl) ?_
        refine va_get (D := D) (ci := 1) (v := .int soz) (C := "SignMachine$Machine") (T := F_M) (N := 14) hx hb hk fi_M hown hK.1 hP 0 rfl rfl 13 (by decide) (hk _ k_180) (fun _ h9 => h9) rfl d_M_changeByAddress_83 ?_
        refine cs_i (W.runS (As := [.int mm, .int soz]) (rest := [.int a1, .ref h0]) ⟨hx, hb, hml, hown, hk⟩ (c_W_of l mm soz) (s_W_of hk k_359 ⟨Nat.le_of_ble_eq_true rfl, Nat.le_of_ble_eq_true rfl⟩) ⟨fun a U g mk q => q, fun U hU hW => ⟨rfl, trivial⟩⟩ rfl rfl hl.1 rfl (lv_room (Nat.le_of_ble_eq_true rfl)) d_M_changeByAddress_86 ⟨Nat.le_of_ble_eq_true rfl, Nat.le_of_ble_eq_true rfl⟩) ?_
        refine cs_i (W.runS (As := [.int (f_W_of mm soz)]) (rest := [.int a1, .ref h0]) ⟨hx, hb, hml, hown, hk⟩ (c_W_opposite l (f_W_of mm soz)) (s_W_opposite hk k_411 ⟨Nat.le_of_ble_eq_true rfl, Nat.le_of_ble_eq_true rfl⟩) ⟨fun a U g mk q => q, fun U hU hW => ⟨rfl, trivial⟩⟩ rfl rfl hl.1 rfl (lv_room (Nat.le_of_ble_eq_true rfl)) d_M_changeByAddress_89 ⟨Nat.le_of_ble_eq_true rfl, Nat.le_of_ble_eq_true rfl⟩) ?_
        refine ca_v (va_runV (C := "SignMachine$Machine") (As := [.int a1, .int (f_W_opposite (f_W_of mm soz))]) (rest := []) ⟨hx, hb, hml, hown, hk⟩ (c_M_putRegister l D cI cJ cZ cB h0 h1 h2 h3 h4 s.heap.size tog ind tim nxt enD cod fld idx mm soz mem reg p1 w1 p2 w2 TL a1 (f_W_opposite (f_W_of mm soz))) (v_M_putRegister hk k_362 ⟨Nat.le_of_ble_eq_true rfl, Nat.le_of_ble_eq_true rfl⟩) (pM_v hK hP hD (ci := 1) (q0 := 0) rfl rfl rfl) rfl rfl hl.1 rfl (lv_room (Nat.le_of_ble_eq_true rfl)) d_M_changeByAddress_92 ⟨Nat.le_of_ble_eq_true rfl, Nat.le_of_ble_eq_true rfl⟩) hS hA hD (fun u H locs hz7 hP hS => ?_)
        obtain ⟨regz7, hu⟩ : ∃ y, y = u := ⟨_, rfl⟩
        subst hu
        have hP : va_P D classes (mW cI cJ cZ cB h0 h1 h2 h3 h4 tog ind tim nxt enD cod fld idx mm soz mem regz7 p1 w1 p2 w2 TL) H := hP
        have hD : va_D A (mW cI cJ cZ cB h0 h1 h2 h3 h4 tog ind tim nxt enD cod fld idx mm soz mem regz7 p1 w1 p2 w2 TL) := dsame hD rfl
        try dsimp only at hz7
        exact W.vret hx hb hr (fun t ht hW => ⟨⟨(tog, regz7), rfl, by simp only [f_M_changeByAddress, if_neg c1, if_neg c3, if_neg c5, ← hz7], by show va_P D classes _ t.heap; rw [ht]; exact hP⟩, hS.F ht⟩) hS.2.2 d_M_changeByAddress_95
theorem v_M_changeByAddress {R : Room} {s : State} {args : Array Value} {own : String} {index : Nat} (hk : ∀ w ∈ tb, w.before args s = true) (hl : Cond.methodLink own index y_M_changeByAddress ∈ tb) (hR : 3 + 1 ≤ R.frames ∧ 8 + (2 + 11) + 66 ≤ R.locals) : CallW R s args own "SignMachine$Machine" index y_M_changeByAddress b_M_changeByAddress 2 none (.code y_M_changeByAddress b_M_changeByAddress 2 none :: tb) ({ frames := 3, cells := 0, slots := 0, locals := 66 }) 0 0 1 := mk_v 1 hk k_463 hl k_462 k_31 k_117 rfl rfl h_M_changeByAddress hR

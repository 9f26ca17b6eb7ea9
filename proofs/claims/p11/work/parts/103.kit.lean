abbrev tys4 (cI cJ cZ cB : ClassId) : List (ClassId × FieldType) := [(cI, .int), (cJ, .long), (cZ, .boolean), (cB, .byte)]
/-- what every state has: the tables of the classes, the array classes, the nest mates' words -/
def KK (D : va_G) (cI cJ cZ cB : ClassId) (U : State) : Prop := va_K D classes (tys4 cI cJ cZ cB) U ∧ ∀ w ∈ nst, va_Nw w U
theorem KK.warm {D : va_G} {cI cJ cZ cB : ClassId} {s U : State} (hW : s.WarmedH U.vm) (h : KK D cI cJ cZ cB s) : KK D cI cJ cZ cB U := by
  refine ⟨va_K.moved hW.alike h.1, fun w hw => ?_⟩
  have h1 := h.2 w hw
  have h2 := (List.mem_filter.mp hw).2
  cases w <;> first | exact va_Nw.warmF hW h1 | exact va_Nw.warmM hW h1 | exact absurd h2 (by simp [isN])
theorem KK.calling {D : va_G} {cI cJ cZ cB : ClassId} {U : State} {g : JFrame} {mk : MethodId} {a : Array Value} (h : KK D cI cJ cZ cB U) : KK D cI cJ cZ cB (U.calling g mk a) := by
  refine ⟨va_K.moved (Vm.Alike.refl U.vm) h.1, fun w hw => ?_⟩
  have h1 := h.2 w hw
  have h2 := (List.mem_filter.mp hw).2
  cases w <;> first | exact va_Nw.same rfl rfl h1 | exact absurd h2 (by simp [isN])
/-- a reading method's start; a writing method's start -/
abbrev pR (D : va_G) (cI cJ cZ cB : ClassId) (ws : va_W) (As : List Value) : Array Value → State → Prop := va_Pc As (fun U => KK D cI cJ cZ cB U ∧ va_P D classes ws U.heap)
abbrev pM (D : va_G) (cI cJ cZ cB : ClassId) (ws : va_W) (sz : Nat) (As : List Value) : Array Value → State → Prop := va_Pc As (fun U => U.heap.size = sz ∧ KK D cI cJ cZ cB U ∧ va_P D classes ws U.heap ∧ va_D (fun _ => True) ws)
abbrev qV (D : va_G) {S : Type} (post : S → Prop) (ws : S → va_W) (A : Nat → Prop) : Array Value → State → Outcome → State → Prop := va_Qv post (fun u t => va_P D classes (ws u) t.heap) A
abbrev qI (D : va_G) {S : Type} (post : Int32 → S → Prop) (ws : S → va_W) (A : Nat → Prop) : Array Value → State → Outcome → State → Prop := va_Qi post (fun u t => va_P D classes (ws u) t.heap) A
abbrev qL (D : va_G) {S : Type} (post : Int64 → S → Prop) (ws : S → va_W) (A : Nat → Prop) : Array Value → State → Outcome → State → Prop := va_Ql post (fun u t => va_P D classes (ws u) t.heap) A
theorem pR_v {D : va_G} {cI cJ cZ cB : ClassId} {s : State} {H : Heap} {ws : va_W} {C : String} {b ci q0 : Nat} {q : vw_C} {fs As : List Value} (hK : KK D cI cJ cZ cB s) (hP : va_P D classes ws H) (hc : classes[ci]? = some q) (he : ws[q0]? = some (b, .inr (ci, fs))) (hC : q.1 = C) : PreV s H C b (pR D cI cJ cZ cB ws (.ref b :: As)) As :=
  ⟨fun _ _ _ _ q => ⟨q.1, q.2.1.calling, q.2.2⟩, hC ▸ va_recv hK.1 hP hc he, fun U hU hW => ⟨rfl, hK.warm hW, by rw [hU]; exact hP⟩⟩
theorem pM_v {D : va_G} {cI cJ cZ cB : ClassId} {s : State} {H : Heap} {ws : va_W} {A : Nat → Prop} {C : String} {b ci q0 : Nat} {q : vw_C} {fs As : List Value} (hK : KK D cI cJ cZ cB s) (hP : va_P D classes ws H) (hD : va_D A ws) (hc : classes[ci]? = some q) (he : ws[q0]? = some (b, .inr (ci, fs))) (hC : q.1 = C) : PreV s H C b (pM D cI cJ cZ cB ws H.size (.ref b :: As)) As :=
  ⟨fun _ _ _ _ q => ⟨q.1, q.2.1, q.2.2.1.calling, q.2.2.2⟩, hC ▸ va_recv hK.1 hP hc he, fun U hU hW => ⟨rfl, by rw [hU], hK.warm hW, by rw [hU]; exact hP, hD.weaken (fun _ _ _ _ => trivial)⟩⟩
theorem fr_all {A : Nat → Prop} {ws : va_W} {H0 H : Heap} {locs : List Loc} (hD : va_D A ws) (hS : va_S A H0 H locs) (hA : ∀ q, H0.size ≤ q → A q) : ∀ q, va_A ws H.size q → A q := by
  intro q h
  rcases h with ⟨k, e, h⟩ | h
  · exact hD.2 k _ h
  · exact hA q (Nat.le_trans hS.1 h)
theorem dsame {A : Nat → Prop} {ws ws' : va_W} (hD : va_D A ws) (h : ws.map Prod.fst = ws'.map Prod.fst) : va_D A ws' := by
  have key : ∀ (i : Nat) (q : Nat × va_E), ws'[i]? = some q → ∃ p, ws[i]? = some p ∧ p.1 = q.1 := by
    intro i q hq
    have h1 : (ws'.map Prod.fst)[i]? = some q.1 := by rw [List.getElem?_map, hq]; rfl
    rw [← h, List.getElem?_map] at h1
    cases hw : ws[i]? with
    | none => rw [hw] at h1; cases h1
    | some p => rw [hw] at h1; exact ⟨p, rfl, Option.some.inj h1⟩
  refine ⟨fun i j p q hp hq e => ?_, fun k q hq => ?_⟩
  · obtain ⟨p', a1, a2⟩ := key i p hp
    obtain ⟨q', b1, b2⟩ := key j q hq
    exact hD.1 i j p' q' a1 b1 (a2.trans (e.trans b2.symm))
  · obtain ⟨q', b1, b2⟩ := key k q hq
    exact b2 ▸ hD.2 k q' b1
theorem vpin {x N : Int32} {n : Nat} (h1 : ¬ x < 0) (h2 : ¬ N ≤ x) (hN : N.toInt = (n : Int)) : vp_in x n := by
  rw [vp_in_iff]
  rw [Int32.lt_iff_toInt_lt] at h1
  rw [Int32.le_iff_toInt_le, hN] at h2
  have h0 : (0 : Int32).toInt = 0 := rfl
  omega
theorem vpin2 {x N : Int32} {n : Nat} (h1 : ¬ x < 0) (h2 : x < N) (hN : N.toInt = (n : Int)) : vp_in x n := by
  rw [vp_in_iff]
  rw [Int32.lt_iff_toInt_lt] at h1 h2
  rw [hN] at h2
  have h0 : (0 : Int32).toInt = 0 := rfl
  omega
theorem vpinK {b N : Int32} {k n : Nat} (hk : k ≤ b.toInt.toNat) (h2 : ¬ N ≤ nI k) (hN : N.toInt = (n : Int)) : vp_in (nI k) n := by
  have hb : b.toInt < 2 ^ 31 := Int32.toInt_lt b
  have hk2 : k < 2 ^ 31 := by omega
  rw [vp_in_iff, nI_toInt hk2]
  rw [Int32.le_iff_toInt_le, hN, nI_toInt hk2] at h2
  omega
theorem lp_gt10 {k : Nat} (hk : k ≤ (11 : Int32).toInt.toNat) (c : ¬ (10 : Int32) < nI k) : ¬ (11 : Int32) ≤ nI k := by
  have h11 : (11 : Int32).toInt = 11 := rfl
  have h10 : (10 : Int32).toInt = 10 := rfl
  rw [h11] at hk
  have hk2 : k < 2 ^ 31 := by omega
  rw [Int32.lt_iff_toInt_lt, nI_toInt hk2, h10] at c
  rw [Int32.le_iff_toInt_le, nI_toInt hk2, h11]
  omega
theorem lc_ne {x y : Int64} (h : ¬ lg_cmp x y = 0) : ¬ x = y := fun e => h (by subst e; simp [lg_cmp])
theorem i2l_ne {x : Int32} (h : ¬ x = 0) : ¬ x.toInt64 = 0 := by
  intro q
  apply h
  have h1 := congrArg Int64.toInt q
  rw [Int32.toInt_toInt64] at h1
  exact Int32.toInt_inj.mp h1
theorem lp_step {b : Int32} {k n : Nat} (h : b.toInt.toNat - k < n + 1) (hk : k ≤ b.toInt.toNat) (c : ¬ b ≤ nI k) : b.toInt.toNat - (k + 1) < n ∧ k + 1 ≤ b.toInt.toNat := by
  have hb : b.toInt < 2 ^ 31 := Int32.toInt_lt b
  have hk2 : k < 2 ^ 31 := by omega
  rw [Int32.le_iff_toInt_le, nI_toInt hk2] at c
  omega
def vS (v : Value) : Array Value → State → Outcome → State → Prop := fun _ st o t => o = .returned (some v) ∧ t.heap = st.heap
abbrev qN (D : va_G) {S : Type} (post : S → Prop) (ws : S → va_W) (A : Nat → Prop) : Array Value → State → Outcome → State → Prop := va_Qv post (fun u t => va_P D classes (ws u) t.heap ∧ va_D A (ws u)) A
theorem pM_i {D : va_G} {cI cJ cZ cB : ClassId} {s : State} {H : Heap} {ws : va_W} {A : Nat → Prop} {As : List Value} (hK : KK D cI cJ cZ cB s) (hP : va_P D classes ws H) (hD : va_D A ws) : PreS s H (pM D cI cJ cZ cB ws H.size As) As :=
  ⟨fun _ _ _ _ q => ⟨q.1, q.2.1, q.2.2.1.calling, q.2.2.2⟩, fun U hU hW => ⟨rfl, by rw [hU], hK.warm hW, by rw [hU]; exact hP, hD.weaken (fun _ _ _ _ => trivial)⟩⟩
theorem zr_int (N : Nat) (cA : ClassId) : vp_cell cA (N, .inl (fun _ => 0)) = arrV cA N (fun _ => defaultValue .int) := rfl
theorem zr_byte (N : Nat) (cA : ClassId) : vp_cell cA (N, .inl (fun _ => 0)) = arrV cA N (fun _ => defaultValue .byte) := rfl
theorem zr_boolean (N : Nat) (cA : ClassId) : vp_cell cA (N, .inl (fun _ => 0)) = arrV cA N (fun _ => defaultValue .boolean) := rfl
theorem zr_long (N : Nat) (cA : ClassId) : vp_cell cA (N, .inr (.inl (fun _ => 0))) = arrV cA N (fun _ => defaultValue .long) := rfl
section NWA
variable {p : Program} {l : Launch} {e : Env} {R : Room} {s : State} {m : MethodId} {args : Array Value} {below : List Frame} {meth : Method} {c : Code} {H : Heap} {locs : List Loc} {cells slots : Nat} {Q : State → Prop}
variable {cc : ByteArray} {pc : Nat} {ls : Array Slot} {rest : List Value} {D : va_G} {cl : List vw_C} {A : Nat → Prop} {a : Nat} {tys : List (ClassId × FieldType)} {ws : va_W} {H0 : Heap}
theorem nwa (hexec : p.tables.exec = Jvm.exec) (hb : c.code = cc) {atype : ArrayType} (harr : (Cond.arrayClass (newarray.typeOf atype)).before args s = true) {ty : FieldType} (hty : newarray.typeOf atype = ty) (hK : va_K D cl tys s) (t0 : Nat) {cA : ClassId} (ht : tys[t0]? = some (cA, ty)) (hra : ∀ c, va_RA s c ty → s.vm.findClass ("[" ++ ty.toString) = some c) (hP : va_P D cl ws H) (hD : va_D A ws) (hS : va_S A H0 H locs) (hA : ∀ q, H0.size ≤ q → A q)
    {n : Int32} {N' : Nat} {a0 : vp_A} (ha : ∀ cA : ClassId, vp_cell cA a0 = arrV cA N' (fun _ => defaultValue ty)) (hn : ¬ n < 0) (hN : n.toNatClampNeg = N') (hbytes : N' * componentBytes ty ≤ 536870912) (hcells : cells + 1 ≤ R.cells) (hslots : slots + N' ≤ R.slots) (hdg : decode cc pc = .ok (.newarray atype, 2))
    (kk : ∀ (q : Nat) (H1 : Heap), va_P D cl (ws ++ [(q, .inl (cA, a0))]) H1 → va_D A (ws ++ [(q, .inl (cA, a0))]) → va_S A H0 H1 locs →
      W p l e R s m args below meth c H1 locs (cells + 1) (slots + N') Q (F0 m (pc + 2) ls (.ref q :: rest))) : W p l e R s m args below meth c H locs cells slots Q (F0 m pc ls (.int n :: rest)) := by
  refine va_newa hexec hb harr hty hK hP hD hS hA ha hn hN hbytes hcells hslots hdg (fun q cA' H1 hK' hP' hD' hS' => ?_)
  have h1 := hra _ (hK.2 t0 _ ht).2
  have h2 := hra _ (hK'.2 tys.length (cA', ty) (by simp)).2
  have h3 : cA' = cA := Option.some.inj (h2.symm.trans h1)
  subst h3
  exact kk q H1 hP' hD' hS'
end NWA
section CA
variable {p : Program} {l : Launch} {e : Env} {R : Room} {s : State} {m : MethodId} {args : Array Value} {below : List Frame} {meth : Method} {c : Code} {H : Heap} {locs : List Loc} {cells slots : Nat} {Q : State → Prop}
variable {pc : Nat} {ls : Array Slot} {rest st0 : List Value} {a : Array Value} {A : Nat → Prop} {H0 : Heap} {mc ms : Nat} {D : va_G} {ws : va_W}
theorem ca_v {S : Type} {post : S → Prop} {ws' : S → va_W} (hr : va_Run p l e R s m args below meth c H locs cells slots mc ms (F0 m pc ls st0) rest (qV D post ws' (va_A ws H.size) a) (va_A ws H.size)) (hS : va_S A H0 H locs) (hA : ∀ q, H0.size ≤ q → A q) (hD : va_D A ws)
    (kk : ∀ (u : S) (H1 : Heap) (locs1 : List Loc), post u → va_P D classes (ws' u) H1 → va_S A H0 H1 locs1 → W p l e R s m args below meth c H1 locs1 (cells + mc) (slots + ms) Q (F0 m (pc + 3) ls rest)) : W p l e R s m args below meth c H locs cells slots Q (F0 m pc ls st0) :=
  va_callv hr hS (fun q _ h => fr_all hD hS hA q h) (fr_all hD hS hA) (fun u t H1 locs ht hvm hw hB hz1 hk1 hS => kk u H1 locs hw (by rw [← ht]; exact hB) hS)
theorem ca_i {S : Type} {post : Int32 → S → Prop} {ws' : S → va_W} (hr : va_Run p l e R s m args below meth c H locs cells slots mc ms (F0 m pc ls st0) rest (qI D post ws' (va_A ws H.size) a) (va_A ws H.size)) (hS : va_S A H0 H locs) (hA : ∀ q, H0.size ≤ q → A q) (hD : va_D A ws)
    (kk : ∀ (r : Int32) (u : S) (H1 : Heap) (locs1 : List Loc), post r u → va_P D classes (ws' u) H1 → va_S A H0 H1 locs1 → W p l e R s m args below meth c H1 locs1 (cells + mc) (slots + ms) Q (F0 m (pc + 3) ls (.int r :: rest))) : W p l e R s m args below meth c H locs cells slots Q (F0 m pc ls st0) :=
  va_calli hr hS (fun q _ h => fr_all hD hS hA q h) (fr_all hD hS hA) (fun r u t H1 locs ht hvm hw hB hz1 hk1 hS => kk r u H1 locs hw (by rw [← ht]; exact hB) hS)
theorem ca_l {S : Type} {post : Int64 → S → Prop} {ws' : S → va_W} (hr : va_Run p l e R s m args below meth c H locs cells slots mc ms (F0 m pc ls st0) rest (qL D post ws' (va_A ws H.size) a) (va_A ws H.size)) (hS : va_S A H0 H locs) (hA : ∀ q, H0.size ≤ q → A q) (hD : va_D A ws)
    (kk : ∀ (r : Int64) (u : S) (H1 : Heap) (locs1 : List Loc), post r u → va_P D classes (ws' u) H1 → va_S A H0 H1 locs1 → W p l e R s m args below meth c H1 locs1 (cells + mc) (slots + ms) Q (F0 m (pc + 3) ls (.long r :: rest))) : W p l e R s m args below meth c H locs cells slots Q (F0 m pc ls st0) :=
  va_calll hr hS (fun q _ h => fr_all hD hS hA q h) (fr_all hD hS hA) (fun r u t H1 locs ht hvm hw hB hz1 hk1 hS => kk r u H1 locs hw (by rw [← ht]; exact hB) hS)
theorem cs_i {v : Int32} (hr : CallRun p l e R s m args below meth c H locs cells slots 0 0 (F0 m pc ls st0) rest (vp_Si (fun r => r = v) a) (fun _ => False)) (kk : W p l e R s m args below meth c H locs cells slots Q (F0 m (pc + 3) ls (.int v :: rest))) : W p l e R s m args below meth c H locs cells slots Q (F0 m pc ls st0) :=
  vp_callSi hr (fun r hr => by subst hr; exact kk)
theorem cs_l {v : Int64} (hr : CallRun p l e R s m args below meth c H locs cells slots 0 0 (F0 m pc ls st0) rest (vp_Sl (fun r => r = v) a) (fun _ => False)) (kk : W p l e R s m args below meth c H locs cells slots Q (F0 m (pc + 3) ls (.long v :: rest))) : W p l e R s m args below meth c H locs cells slots Q (F0 m pc ls st0) :=
  vp_callSl hr (fun r hr => by subst hr; exact kk)
theorem cs_r {v : Value} (hr : CallRun p l e R s m args below meth c H locs cells slots 0 0 (F0 m pc ls st0) rest (vS v a) (fun _ => False)) (kk : W p l e R s m args below meth c H locs cells slots Q (F0 m (pc + 3) ls (v :: rest))) : W p l e R s m args below meth c H locs cells slots Q (F0 m pc ls st0) := by
  intro T hT X
  obtain ⟨v1, st₀, t, T', L, h0, X', hL, e1, ⟨hv, hh⟩, st⟩ := hr T hT X
  cases hv
  obtain ⟨t2, a1, b1⟩ := kk T' (by rw [e1, hh, h0]) (Stand.forget X' (fun q h => (hL q h).elim))
  exact ⟨t2, st t2 a1, b1⟩
end CA
section TP
variable {p : Program} {l : Launch} {e : Env} {R : Room} {s : State} {m : MethodId} {args : Array Value} {below : List Frame} {meth : Method} {c : Code} {H : Heap} {locs : List Loc} {cells slots : Nat} {Q : State → Prop}
variable {pc : Nat} {ls : Array Slot} {rest st0 : List Value} {a : Array Value} {A : Nat → Prop} {H0 : Heap} {mc ms : Nat} {D : va_G} {ws : va_W}
theorem tpi {x : Int32} (y : Int32) (h : x = y) (k : W p l e R s m args below meth c H locs cells slots Q (F0 m pc ls (.int y :: rest))) : W p l e R s m args below meth c H locs cells slots Q (F0 m pc ls (.int x :: rest)) := h ▸ k
theorem tpl {x : Int64} (y : Int64) (h : x = y) (k : W p l e R s m args below meth c H locs cells slots Q (F0 m pc ls (.long y :: rest))) : W p l e R s m args below meth c H locs cells slots Q (F0 m pc ls (.long x :: rest)) := h ▸ k
theorem kn_v {S : Type} {B : S → State → Prop} (hr : va_Run p l e R s m args below meth c H locs cells slots mc ms (F0 m pc ls st0) rest (va_Qv (fun (_ : S) => True) B (va_A ws H.size) a) (va_A ws H.size)) (hS : va_S A H0 H locs) (hA : ∀ q, H0.size ≤ q → A q) (hD : va_D A ws)
    (kk : ∀ (u : S) (t : State) (H1 : Heap) (locs1 : List Loc), t.heap = H1 → B u t → (∀ q, va_A ws H.size q → A q) → va_S A H0 H1 locs1 → W p l e R s m args below meth c H1 locs1 (cells + mc) (slots + ms) Q (F0 m (pc + 3) ls rest)) : W p l e R s m args below meth c H locs cells slots Q (F0 m pc ls st0) :=
  va_callv hr hS (fun q _ h => fr_all hD hS hA q h) (fr_all hD hS hA) (fun u t H1 locs ht hvm hw hB hz1 hk1 hS1 => kk u t H1 locs ht hB (fr_all hD hS hA) hS1)
theorem kn_i {S : Type} {B : S → State → Prop} {v : Int32} (hr : va_Run p l e R s m args below meth c H locs cells slots mc ms (F0 m pc ls st0) rest (va_Qi (fun r (_ : S) => r = v) B (va_A ws H.size) a) (va_A ws H.size)) (hS : va_S A H0 H locs) (hA : ∀ q, H0.size ≤ q → A q) (hD : va_D A ws)
    (kk : ∀ (u : S) (t : State) (H1 : Heap) (locs1 : List Loc), t.heap = H1 → B u t → (∀ q, va_A ws H.size q → A q) → va_S A H0 H1 locs1 → W p l e R s m args below meth c H1 locs1 (cells + mc) (slots + ms) Q (F0 m (pc + 3) ls (.int v :: rest))) : W p l e R s m args below meth c H locs cells slots Q (F0 m pc ls st0) :=
  va_calli hr hS (fun q _ h => fr_all hD hS hA q h) (fr_all hD hS hA) (fun r u t H1 locs ht hvm hw hB hz1 hk1 hS1 => by subst hw; exact kk u t H1 locs ht hB (fr_all hD hS hA) hS1)
theorem kn_l {S : Type} {B : S → State → Prop} {v : Int64} (hr : va_Run p l e R s m args below meth c H locs cells slots mc ms (F0 m pc ls st0) rest (va_Ql (fun r (_ : S) => r = v) B (va_A ws H.size) a) (va_A ws H.size)) (hS : va_S A H0 H locs) (hA : ∀ q, H0.size ≤ q → A q) (hD : va_D A ws)
    (kk : ∀ (u : S) (t : State) (H1 : Heap) (locs1 : List Loc), t.heap = H1 → B u t → (∀ q, va_A ws H.size q → A q) → va_S A H0 H1 locs1 → W p l e R s m args below meth c H1 locs1 (cells + mc) (slots + ms) Q (F0 m (pc + 3) ls (.long v :: rest))) : W p l e R s m args below meth c H locs cells slots Q (F0 m pc ls st0) :=
  va_calll hr hS (fun q _ h => fr_all hD hS hA q h) (fr_all hD hS hA) (fun r u t H1 locs ht hvm hw hB hz1 hk1 hS1 => by subst hw; exact kk u t H1 locs ht hB (fr_all hD hS hA) hS1)
theorem kn_r {S : Type} {B : S → Nat → State → Prop} (hr : va_Run p l e R s m args below meth c H locs cells slots mc ms (F0 m pc ls st0) rest (va_Qr (fun (_ : S) => True) B (va_A ws H.size) a) (va_A ws H.size)) (hS : va_S A H0 H locs) (hA : ∀ q, H0.size ≤ q → A q) (hD : va_D A ws)
    (kk : ∀ (u : S) (ra : Nat) (t : State) (H1 : Heap) (locs1 : List Loc), t.heap = H1 → B u ra t → (∀ q, va_A ws H.size q → A q) → va_S A H0 H1 locs1 → W p l e R s m args below meth c H1 locs1 (cells + mc) (slots + ms) Q (F0 m (pc + 3) ls (.ref ra :: rest))) : W p l e R s m args below meth c H locs cells slots Q (F0 m pc ls st0) :=
  va_callr hr hS (fun q _ h => fr_all hD hS hA q h) (fr_all hD hS hA) (fun u ra t H1 locs ht hvm hw hB hz1 hk1 hS1 => kk u ra t H1 locs ht hB (fr_all hD hS hA) hS1)
theorem sn_i {S : Type} {post : Int32 → S → Prop} {B : S → State → Prop} (hr : va_Run p l e R s m args below meth c H locs cells slots mc ms (F0 m pc ls st0) rest (va_Qi post B (va_A ws H.size) a) (va_A ws H.size)) (hS : va_S A H0 H locs) (hA : ∀ q, H0.size ≤ q → A q) (hD : va_D A ws)
    (kk : ∀ (r : Int32) (u : S) (t : State) (H1 : Heap) (locs1 : List Loc), post r u → t.heap = H1 → B u t → (∀ q, va_A ws H.size q → A q) → va_S A H0 H1 locs1 → W p l e R s m args below meth c H1 locs1 (cells + mc) (slots + ms) Q (F0 m (pc + 3) ls (.int r :: rest))) : W p l e R s m args below meth c H locs cells slots Q (F0 m pc ls st0) :=
  va_calli hr hS (fun q _ h => fr_all hD hS hA q h) (fr_all hD hS hA) (fun r u t H1 locs ht hvm hw hB hz1 hk1 hS1 => kk r u t H1 locs hw ht hB (fr_all hD hS hA) hS1)
theorem sn_l {S : Type} {post : Int64 → S → Prop} {B : S → State → Prop} (hr : va_Run p l e R s m args below meth c H locs cells slots mc ms (F0 m pc ls st0) rest (va_Ql post B (va_A ws H.size) a) (va_A ws H.size)) (hS : va_S A H0 H locs) (hA : ∀ q, H0.size ≤ q → A q) (hD : va_D A ws)
    (kk : ∀ (r : Int64) (u : S) (t : State) (H1 : Heap) (locs1 : List Loc), post r u → t.heap = H1 → B u t → (∀ q, va_A ws H.size q → A q) → va_S A H0 H1 locs1 → W p l e R s m args below meth c H1 locs1 (cells + mc) (slots + ms) Q (F0 m (pc + 3) ls (.long r :: rest))) : W p l e R s m args below meth c H locs cells slots Q (F0 m pc ls st0) :=
  va_calll hr hS (fun q _ h => fr_all hD hS hA q h) (fr_all hD hS hA) (fun r u t H1 locs ht hvm hw hB hz1 hk1 hS1 => kk r u t H1 locs hw ht hB (fr_all hD hS hA) hS1)
theorem sn_q {S : Type} {post : Option Nat → S → Prop} {B : S → State → Prop} (hr : va_Run p l e R s m args below meth c H locs cells slots mc ms (F0 m pc ls st0) rest (va_Qq post B (va_A ws H.size) a) (va_A ws H.size)) (hS : va_S A H0 H locs) (hA : ∀ q, H0.size ≤ q → A q) (hD : va_D A ws)
    (kk : ∀ (r : Option Nat) (u : S) (t : State) (H1 : Heap) (locs1 : List Loc), post r u → t.heap = H1 → B u t → (∀ q, va_A ws H.size q → A q) → va_S A H0 H1 locs1 → W p l e R s m args below meth c H1 locs1 (cells + mc) (slots + ms) Q (F0 m (pc + 3) ls (va_rf r :: rest))) : W p l e R s m args below meth c H locs cells slots Q (F0 m pc ls st0) :=
  va_callq hr hS (fun q _ h => fr_all hD hS hA q h) (fr_all hD hS hA) (fun r u t H1 locs ht hvm hw hB hz1 hk1 hS1 => kk r u t H1 locs hw ht hB (fr_all hD hS hA) hS1)
end TP
theorem dwk {A B : Nat → Prop} {ws : va_W} (h : va_D A ws) (hAB : ∀ q, A q → B q) : va_D B ws := h.weaken (fun _ q _ h1 => hAB q.1 h1)
theorem ge0 {x : Int32} (h : (0 : Int32) ≤ x) : ¬ x < 0 := by
  rw [Int32.le_iff_toInt_le] at h
  rw [Int32.lt_iff_toInt_lt]
  omega
theorem nk_0 {k : Nat} (h : k < 4000) : ¬ nI k < (0 : Int32) := by
  rw [Int32.lt_iff_toInt_lt, nI_toInt (by omega)]
  have h0 : (0 : Int32).toInt = 0 := rfl
  omega
theorem nk_4 {k : Nat} (h : k < 4000) : ¬ (4000 : Int32) ≤ nI k := by
  rw [Int32.le_iff_toInt_le, nI_toInt (by omega)]
  have h0 : (4000 : Int32).toInt = 4000 := rfl
  omega
theorem nk_in {k : Nat} (h : k < 4000) : vp_in (nI k) 4000 := by
  rw [vp_in_iff, nI_toInt (by omega)]
  omega
theorem lpu {n : Nat} {c c1 b : Int32} (h : ¬ b ≤ c) (e : c1 = c + (1 : Int32)) (hn : (b.toInt - c.toInt).toNat < n + 1) : (b.toInt - c1.toInt).toNat < n := by
  rw [Int32.le_iff_toInt_le] at h
  have hb : b.toInt < 2 ^ 31 := Int32.toInt_lt b
  have hc : -2 ^ 31 ≤ c.toInt := Int32.le_toInt c
  have h1 : c1.toInt = c.toInt + 1 := by
    rw [e, Int32.toInt_add]
    have : (1 : Int32).toInt = 1 := rfl
    rw [this]
    exact Int.bmod_eq_of_le (by omega) (by omega)
  omega
theorem lpd {n : Nat} {c c1 k : Int32} (h : ¬ c < (0 : Int32)) (e : c1 = c + k) (hk : k.toInt < 0) (hk2 : -1000 < k.toInt) (hn : (c.toInt + 1).toNat < n + 1) : (c1.toInt + 1).toNat < n := by
  rw [Int32.lt_iff_toInt_lt] at h
  have h0 : (0 : Int32).toInt = 0 := rfl
  have hc : c.toInt < 2 ^ 31 := Int32.toInt_lt c
  have h1 : c1.toInt = c.toInt + k.toInt := by
    rw [e, Int32.toInt_add]
    exact Int.bmod_eq_of_le (by omega) (by omega)
  omega
theorem lpg {n : Nat} {c c1 b : Int32} (h : ¬ b < c) (e : c1 = c + (1 : Int32)) (hb1 : b.toInt < 1000000) (hn : (b.toInt + 1 - c.toInt).toNat < n + 1) : (b.toInt + 1 - c1.toInt).toNat < n := by
  rw [Int32.lt_iff_toInt_lt] at h
  have hc : -2 ^ 31 ≤ c.toInt := Int32.le_toInt c
  have h1 : c1.toInt = c.toInt + 1 := by
    rw [e, Int32.toInt_add]
    have : (1 : Int32).toInt = 1 := rfl
    rw [this]
    exact Int.bmod_eq_of_le (by omega) (by omega)
  omega
theorem lpn {c c1 b : Int32} (h0 : ¬ c < (0 : Int32)) (h : ¬ b ≤ c) (e : c1 = c + (1 : Int32)) : ¬ c1 < (0 : Int32) := by
  rw [Int32.le_iff_toInt_le] at h
  rw [Int32.lt_iff_toInt_lt] at h0 ⊢
  have hb : b.toInt < 2 ^ 31 := Int32.toInt_lt b
  have z : (0 : Int32).toInt = 0 := rfl
  have h1 : c1.toInt = c.toInt + 1 := by
    rw [e, Int32.toInt_add]
    have : (1 : Int32).toInt = 1 := rfl
    rw [this]
    exact Int.bmod_eq_of_le (by omega) (by omega)
  omega
theorem lpm {c c1 b : Int32} (h0 : ¬ c < (0 : Int32)) (h : ¬ b < c) (e : c1 = c + (1 : Int32)) (hb : b.toInt < 1000000) : ¬ c1 < (0 : Int32) := by
  rw [Int32.lt_iff_toInt_lt] at h h0 ⊢
  have z : (0 : Int32).toInt = 0 := rfl
  have h1 : c1.toInt = c.toInt + 1 := by
    rw [e, Int32.toInt_add]
    have : (1 : Int32).toInt = 1 := rfl
    rw [this]
    exact Int.bmod_eq_of_le (by omega) (by omega)
  omega
theorem cmp_lt {x y : Int64} : lg_cmp x y < (0 : Int32) ↔ x.toInt < y.toInt := by
  unfold lg_cmp
  by_cases h1 : x > y
  · have h3 := Int64.lt_iff_toInt_lt.mp h1
    rw [if_pos h1]
    exact ⟨fun h => absurd h (by decide), fun h => by omega⟩
  · rw [if_neg h1]
    by_cases h2 : x = y
    · subst h2
      rw [if_pos rfl]
      exact ⟨fun h => absurd h (by decide), fun h => by omega⟩
    · rw [if_neg h2]
      have h3 : ¬ y.toInt < x.toInt := fun h => h1 (Int64.lt_iff_toInt_lt.mpr h)
      have h4 : x.toInt ≠ y.toInt := fun h => h2 (Int64.toInt_inj.mp h)
      exact ⟨fun _ => by omega, fun _ => by decide⟩
theorem cmp_gt {x y : Int64} : (0 : Int32) < lg_cmp x y ↔ y.toInt < x.toInt := by
  unfold lg_cmp
  by_cases h1 : x > y
  · have h3 := Int64.lt_iff_toInt_lt.mp h1
    rw [if_pos h1]
    exact ⟨fun _ => h3, fun _ => by decide⟩
  · rw [if_neg h1]
    have h3 : ¬ y.toInt < x.toInt := fun h => h1 (Int64.lt_iff_toInt_lt.mpr h)
    by_cases h2 : x = y
    · rw [if_pos h2]
      exact ⟨fun h => absurd h (by decide), fun h => absurd h h3⟩
    · rw [if_neg h2]
      exact ⟨fun h => absurd h (by decide), fun h => absurd h h3⟩
theorem fr3 (x : Int32) : -2147483648 ≤ x.toInt ∧ x.toInt ≤ 2147483647 := by
  have h1 : -2 ^ 31 ≤ x.toInt := Int32.le_toInt x
  have h2 : x.toInt < 2 ^ 31 := Int32.toInt_lt x
  omega
theorem fr6 (x : Int64) : -9223372036854775808 ≤ x.toInt ∧ x.toInt ≤ 9223372036854775807 := by
  have h1 : -2 ^ 63 ≤ x.toInt := Int64.le_toInt x
  have h2 : x.toInt < 2 ^ 63 := Int64.toInt_lt x
  omega
theorem rgw {x a b a1 b1 : Int} (h : a ≤ x ∧ x ≤ b) (h1 : a1 ≤ a) (h2 : b ≤ b1) : a1 ≤ x ∧ x ≤ b1 := by omega
theorem bI_r (z : Bool) : 0 ≤ (bI z).toInt ∧ (bI z).toInt ≤ 1 := by cases z <;> decide
theorem ad3 {x y v : Int32} {a b c d L U : Int} (h : v = x + y) (hx : a ≤ x.toInt ∧ x.toInt ≤ b) (hy : c ≤ y.toInt ∧ y.toInt ≤ d) (h1 : L ≤ a + c) (h2 : b + d ≤ U) (h3 : -2147483648 ≤ L) (h4 : U ≤ 2147483647) : v.toInt = x.toInt + y.toInt ∧ (L ≤ v.toInt ∧ v.toInt ≤ U) := by
  have e : v.toInt = x.toInt + y.toInt := by rw [h, Int32.toInt_add]; exact Int.bmod_eq_of_le (by omega) (by omega)
  omega
theorem sb3 {x y v : Int32} {a b c d L U : Int} (h : v = x - y) (hx : a ≤ x.toInt ∧ x.toInt ≤ b) (hy : c ≤ y.toInt ∧ y.toInt ≤ d) (h1 : L ≤ a - d) (h2 : b - c ≤ U) (h3 : -2147483648 ≤ L) (h4 : U ≤ 2147483647) : v.toInt = x.toInt - y.toInt ∧ (L ≤ v.toInt ∧ v.toInt ≤ U) := by
  have e : v.toInt = x.toInt - y.toInt := by rw [h, Int32.toInt_sub]; exact Int.bmod_eq_of_le (by omega) (by omega)
  omega
theorem ad6 {x y v : Int64} {a b c d L U : Int} (h : v = x + y) (hx : a ≤ x.toInt ∧ x.toInt ≤ b) (hy : c ≤ y.toInt ∧ y.toInt ≤ d) (h1 : L ≤ a + c) (h2 : b + d ≤ U) (h3 : -9223372036854775808 ≤ L) (h4 : U ≤ 9223372036854775807) : v.toInt = x.toInt + y.toInt ∧ (L ≤ v.toInt ∧ v.toInt ≤ U) := by
  have e : v.toInt = x.toInt + y.toInt := by rw [h, Int64.toInt_add]; exact Int.bmod_eq_of_le (by omega) (by omega)
  omega
theorem sb6 {x y v : Int64} {a b c d L U : Int} (h : v = x - y) (hx : a ≤ x.toInt ∧ x.toInt ≤ b) (hy : c ≤ y.toInt ∧ y.toInt ≤ d) (h1 : L ≤ a - d) (h2 : b - c ≤ U) (h3 : -9223372036854775808 ≤ L) (h4 : U ≤ 9223372036854775807) : v.toInt = x.toInt - y.toInt ∧ (L ≤ v.toInt ∧ v.toInt ≤ U) := by
  have e : v.toInt = x.toInt - y.toInt := by rw [h, Int64.toInt_sub]; exact Int.bmod_eq_of_le (by omega) (by omega)
  omega
theorem mul_rng {x y a b c d : Int} (hx : a ≤ x ∧ x ≤ b) (hy : c ≤ y ∧ y ≤ d) (ha : 0 ≤ a) (hc : 0 ≤ c) : a * c ≤ x * y ∧ x * y ≤ b * d := by
  have h1 : a * c ≤ x * c := Int.mul_le_mul_of_nonneg_right hx.1 hc
  have h2 : x * c ≤ x * y := Int.mul_le_mul_of_nonneg_left hy.1 (by omega)
  have h3 : x * y ≤ b * y := Int.mul_le_mul_of_nonneg_right hx.2 (by omega)
  have h4 : b * y ≤ b * d := Int.mul_le_mul_of_nonneg_left hy.2 (by omega)
  omega
theorem ml3 {x y v : Int32} {a b c d L U : Int} (h : v = x * y) (hx : a ≤ x.toInt ∧ x.toInt ≤ b) (hy : c ≤ y.toInt ∧ y.toInt ≤ d) (ha : 0 ≤ a) (hc : 0 ≤ c) (h1 : L ≤ a * c) (h2 : b * d ≤ U) (h3 : -2147483648 ≤ L) (h4 : U ≤ 2147483647) : v.toInt = x.toInt * y.toInt ∧ (L ≤ v.toInt ∧ v.toInt ≤ U) := by
  have q := mul_rng hx hy ha hc
  have e : v.toInt = x.toInt * y.toInt := by rw [h, Int32.toInt_mul]; exact Int.bmod_eq_of_le (by omega) (by omega)
  rw [e]
  omega
theorem ml6 {x y v : Int64} {a b c d L U : Int} (h : v = x * y) (hx : a ≤ x.toInt ∧ x.toInt ≤ b) (hy : c ≤ y.toInt ∧ y.toInt ≤ d) (ha : 0 ≤ a) (hc : 0 ≤ c) (h1 : L ≤ a * c) (h2 : b * d ≤ U) (h3 : -9223372036854775808 ≤ L) (h4 : U ≤ 9223372036854775807) : v.toInt = x.toInt * y.toInt ∧ (L ≤ v.toInt ∧ v.toInt ≤ U) := by
  have q := mul_rng hx hy ha hc
  have e : v.toInt = x.toInt * y.toInt := by rw [h, Int64.toInt_mul]; exact Int.bmod_eq_of_le (by omega) (by omega)
  rw [e]
  omega
theorem ng3 {x v : Int32} {a b L U : Int} (h : v = -x) (hx : a ≤ x.toInt ∧ x.toInt ≤ b) (h1 : L ≤ -b) (h2 : -a ≤ U) (h3 : -2147483648 ≤ L) (h4 : U ≤ 2147483647) : v.toInt = -x.toInt ∧ (L ≤ v.toInt ∧ v.toInt ≤ U) := by
  have e : v.toInt = -x.toInt := by rw [h, Int32.toInt_neg]; exact Int.bmod_eq_of_le (by omega) (by omega)
  omega
theorem ng6 {x v : Int64} {a b L U : Int} (h : v = -x) (hx : a ≤ x.toInt ∧ x.toInt ≤ b) (h1 : L ≤ -b) (h2 : -a ≤ U) (h3 : -9223372036854775808 ≤ L) (h4 : U ≤ 9223372036854775807) : v.toInt = -x.toInt ∧ (L ≤ v.toInt ∧ v.toInt ≤ U) := by
  have e : v.toInt = -x.toInt := by rw [h, Int64.toInt_neg]; exact Int.bmod_eq_of_le (by omega) (by omega)
  omega
theorem td_pos {x y : Int} (hx : 0 ≤ x) (hy : 0 < y) : x.tdiv y = x / y ∧ 0 ≤ x / y ∧ x / y ≤ x ∧ x - x / y * y = x % y ∧ 0 ≤ x % y ∧ x % y < y ∧ x / y * y ≤ x := by
  have h1 : x.tdiv y = x / y := Int.tdiv_eq_ediv_of_nonneg hx
  have h2 : 0 ≤ x / y := Int.ediv_nonneg hx (by omega)
  have h3 : x / y ≤ x := Int.ediv_le_self y hx
  have h4 : y * (x / y) + x % y = x := Int.mul_ediv_add_emod x y
  have h5 : 0 ≤ x % y := Int.emod_nonneg x (by omega)
  have h6 : x % y < y := Int.emod_lt_of_pos x hy
  have h7 : x / y * y = y * (x / y) := Int.mul_comm _ _
  omega
theorem dv3 {x y v : Int32} {a b c d U : Int} (h : v = x / y) (hx : a ≤ x.toInt ∧ x.toInt ≤ b) (hy : c ≤ y.toInt ∧ y.toInt ≤ d) (ha : 0 ≤ a) (hc : 1 ≤ c) (h2 : b / c ≤ U) : v.toInt = x.toInt / y.toInt ∧ (0 ≤ v.toInt ∧ v.toInt ≤ U) := by
  have q := td_pos (x := x.toInt) (y := y.toInt) (by omega) (by omega)
  have r := fr3 x
  have e : v.toInt = x.toInt / y.toInt := by rw [h, Int32.toInt_div, q.1]; exact Int.bmod_eq_of_le (by omega) (by omega)
  have q2 : x.toInt / y.toInt ≤ b / c := by
    have w1 : x.toInt / y.toInt ≤ x.toInt / c := by
      refine Int.le_ediv_of_mul_le (by omega) ?_
      have w2 : x.toInt / y.toInt * c ≤ x.toInt / y.toInt * y.toInt := Int.mul_le_mul_of_nonneg_left hy.1 (by omega)
      omega
    have w3 : x.toInt / c ≤ b / c := Int.ediv_le_ediv (by omega) hx.2
    omega
  rw [e]
  omega
theorem dv6 {x y v : Int64} {a b c d U : Int} (h : v = x / y) (hx : a ≤ x.toInt ∧ x.toInt ≤ b) (hy : c ≤ y.toInt ∧ y.toInt ≤ d) (ha : 0 ≤ a) (hc : 1 ≤ c) (h2 : b / c ≤ U) : v.toInt = x.toInt / y.toInt ∧ (0 ≤ v.toInt ∧ v.toInt ≤ U) := by
  have q := td_pos (x := x.toInt) (y := y.toInt) (by omega) (by omega)
  have r := fr6 x
  have e : v.toInt = x.toInt / y.toInt := by rw [h, Int64.toInt_div, q.1]; exact Int.bmod_eq_of_le (by omega) (by omega)
  have q2 : x.toInt / y.toInt ≤ b / c := by
    have w1 : x.toInt / y.toInt ≤ x.toInt / c := by
      refine Int.le_ediv_of_mul_le (by omega) ?_
      have w2 : x.toInt / y.toInt * c ≤ x.toInt / y.toInt * y.toInt := Int.mul_le_mul_of_nonneg_left hy.1 (by omega)
      omega
    have w3 : x.toInt / c ≤ b / c := Int.ediv_le_ediv (by omega) hx.2
    omega
  rw [e]
  omega
theorem rm3 {x y v : Int32} {a b c d U : Int} (h : v = x - x / y * y) (hx : a ≤ x.toInt ∧ x.toInt ≤ b) (hy : c ≤ y.toInt ∧ y.toInt ≤ d) (ha : 0 ≤ a) (hc : 1 ≤ c) (h2 : d - 1 ≤ U) : v.toInt = x.toInt % y.toInt ∧ v.toInt < y.toInt ∧ (0 ≤ v.toInt ∧ v.toInt ≤ U) := by
  have q := td_pos (x := x.toInt) (y := y.toInt) (by omega) (by omega)
  have r := fr3 x
  have e1 : (x / y).toInt = x.toInt / y.toInt := by rw [Int32.toInt_div, q.1]; exact Int.bmod_eq_of_le (by omega) (by omega)
  have e2 : (x / y * y).toInt = x.toInt / y.toInt * y.toInt := by
    have z : 0 ≤ x.toInt / y.toInt * y.toInt := Int.mul_nonneg q.2.1 (by omega)
    rw [Int32.toInt_mul, e1]; exact Int.bmod_eq_of_le (by omega) (by omega)
  have e : v.toInt = x.toInt % y.toInt := by
    have z : 0 ≤ x.toInt / y.toInt * y.toInt := Int.mul_nonneg q.2.1 (by omega)
    rw [h, Int32.toInt_sub, e2]; rw [Int.bmod_eq_of_le (by omega) (by omega)]; exact q.2.2.2.1
  rw [e]
  omega
theorem rm6 {x y v : Int64} {a b c d U : Int} (h : v = x - x / y * y) (hx : a ≤ x.toInt ∧ x.toInt ≤ b) (hy : c ≤ y.toInt ∧ y.toInt ≤ d) (ha : 0 ≤ a) (hc : 1 ≤ c) (h2 : d - 1 ≤ U) : v.toInt = x.toInt % y.toInt ∧ v.toInt < y.toInt ∧ (0 ≤ v.toInt ∧ v.toInt ≤ U) := by
  have q := td_pos (x := x.toInt) (y := y.toInt) (by omega) (by omega)
  have r := fr6 x
  have e1 : (x / y).toInt = x.toInt / y.toInt := by rw [Int64.toInt_div, q.1]; exact Int.bmod_eq_of_le (by omega) (by omega)
  have e2 : (x / y * y).toInt = x.toInt / y.toInt * y.toInt := by
    have z : 0 ≤ x.toInt / y.toInt * y.toInt := Int.mul_nonneg q.2.1 (by omega)
    rw [Int64.toInt_mul, e1]; exact Int.bmod_eq_of_le (by omega) (by omega)
  have e : v.toInt = x.toInt % y.toInt := by
    have z : 0 ≤ x.toInt / y.toInt * y.toInt := Int.mul_nonneg q.2.1 (by omega)
    rw [h, Int64.toInt_sub, e2]; rw [Int.bmod_eq_of_le (by omega) (by omega)]; exact q.2.2.2.1
  rw [e]
  omega
theorem il3 {x : Int32} {v : Int64} {a b : Int} (h : v = x.toInt64) (hx : a ≤ x.toInt ∧ x.toInt ≤ b) : v.toInt = x.toInt ∧ (a ≤ v.toInt ∧ v.toInt ≤ b) := by
  have e : v.toInt = x.toInt := by rw [h]; exact Int32.toInt_toInt64 x
  omega
theorem li3 {x : Int64} {v : Int32} {a b : Int} (h : v = x.toInt32) (hx : a ≤ x.toInt ∧ x.toInt ≤ b) (h1 : -2147483648 ≤ a) (h2 : b ≤ 2147483647) : v.toInt = x.toInt ∧ (a ≤ v.toInt ∧ v.toInt ≤ b) := by
  have e : v.toInt = x.toInt := by rw [h, Int64.toInt_toInt32]; exact Int.bmod_eq_of_le (by omega) (by omega)
  omega
theorem c_lt {x y : Int32} (h : x < y) : x.toInt < y.toInt := Int32.lt_iff_toInt_lt.mp h
theorem c_le {x y : Int32} (h : x ≤ y) : x.toInt ≤ y.toInt := Int32.le_iff_toInt_le.mp h
theorem c_nlt {x y : Int32} (h : ¬ x < y) : y.toInt ≤ x.toInt := by rw [Int32.lt_iff_toInt_lt] at h; omega
theorem c_nle {x y : Int32} (h : ¬ x ≤ y) : y.toInt < x.toInt := by rw [Int32.le_iff_toInt_le] at h; omega
theorem c_eq {x y : Int32} (h : x = y) : x.toInt = y.toInt := congrArg _ h
theorem c_ne {x y : Int32} (h : ¬ x = y) : x.toInt ≠ y.toInt := fun e => h (Int32.toInt_inj.mp e)
theorem lc_lt {x y : Int64} {v : Int32} (hv : v = lg_cmp x y) (h : v < 0) : x.toInt < y.toInt := cmp_lt.mp (hv ▸ h)
theorem lc_gt {x y : Int64} {v : Int32} (hv : v = lg_cmp x y) (h : 0 < v) : y.toInt < x.toInt := cmp_gt.mp (hv ▸ h)
theorem lc_nlt {x y : Int64} {v : Int32} (hv : v = lg_cmp x y) (h : ¬ v < 0) : y.toInt ≤ x.toInt := Int.not_lt.mp (fun q => h (hv ▸ cmp_lt.mpr q))
theorem lc_ngt {x y : Int64} {v : Int32} (hv : v = lg_cmp x y) (h : ¬ 0 < v) : x.toInt ≤ y.toInt := Int.not_lt.mp (fun q => h (hv ▸ cmp_gt.mpr q))
theorem lc_ge {x y : Int64} {v : Int32} (hv : v = lg_cmp x y) (h : 0 ≤ v) : y.toInt ≤ x.toInt := lc_nlt hv (fun q => by have a := c_lt q; have b := c_le h; omega)
theorem lc_nge {x y : Int64} {v : Int32} (hv : v = lg_cmp x y) (h : ¬ 0 ≤ v) : x.toInt < y.toInt := lc_lt hv (by rw [Int32.lt_iff_toInt_lt]; exact c_nle h)
theorem lc_le {x y : Int64} {v : Int32} (hv : v = lg_cmp x y) (h : v ≤ 0) : x.toInt ≤ y.toInt := lc_ngt hv (fun q => by have a := c_lt q; have b := c_le h; omega)
theorem lc_nle {x y : Int64} {v : Int32} (hv : v = lg_cmp x y) (h : ¬ v ≤ 0) : y.toInt < x.toInt := lc_gt hv (by rw [Int32.lt_iff_toInt_lt]; exact c_nle h)
theorem lc_eq {x y : Int64} {v : Int32} (hv : v = lg_cmp x y) (h : v = 0) : x.toInt = y.toInt := by
  have h1 := lc_nlt hv (by rw [h]; decide)
  have h2 := lc_ngt hv (by rw [h]; decide)
  omega
theorem lc_neq {x y : Int64} {v : Int32} (hv : v = lg_cmp x y) (h : ¬ v = 0) : x.toInt ≠ y.toInt := by
  intro e
  have e2 : x = y := Int64.toInt_inj.mp e
  subst e2
  exact h (by rw [hv]; simp [lg_cmp])
theorem ti_n {x : Int32} {a b : Int} (h : a ≤ x.toInt ∧ x.toInt ≤ b) (h0 : 0 ≤ a) : (x.toNatClampNeg : Int) = x.toInt := by
  show ((x.toInt.toNat : Nat) : Int) = x.toInt
  omega
theorem vpb {x : Int32} {a b : Int} {n : Nat} (h : a ≤ x.toInt ∧ x.toInt ≤ b) (h0 : 0 ≤ a) (h1 : b < (n : Int)) : vp_in x n := by
  rw [vp_in_iff]
  omega
theorem nar01 {x : Int32} (h : 0 ≤ x.toInt ∧ x.toInt ≤ 1) : narrow .boolean (.int x) = .int x := by
  have q : x = 0 ∨ x = 1 := by
    rcases (show x.toInt = 0 ∨ x.toInt = 1 by omega) with e | e
    · exact Or.inl (Int32.toInt_inj.mp e)
    · exact Or.inr (Int32.toInt_inj.mp e)
  rcases q with rfl | rfl <;> rfl
theorem fit01 {x : Int32} (h : 0 ≤ x.toInt ∧ x.toInt ≤ 1) : fits .boolean (.int x) = true := by
  have q : x = 0 ∨ x = 1 := by
    rcases (show x.toInt = 0 ∨ x.toInt = 1 by omega) with e | e
    · exact Or.inl (Int32.toInt_inj.mp e)
    · exact Or.inr (Int32.toInt_inj.mp e)
  rcases q with rfl | rfl <;> rfl
theorem upd_all {P : Nat → Int32 → Prop} {y : Nat → Int32} {k : Nat} {v : Int32} (h : ∀ i, P i (y i)) (hv : P k v) : ∀ i, P i (upd y k v i) := by
  intro i
  unfold upd
  split
  · rename_i e; subst e; exact hv
  · exact h i
theorem updL_all {P : Nat → Int64 → Prop} {y : Nat → Int64} {k : Nat} {v : Int64} (h : ∀ i, P i (y i)) (hv : P k v) : ∀ i, P i (vp_updL y k v i) := by
  intro i
  unfold vp_updL
  split
  · rename_i e; subst e; exact hv
  · exact h i
theorem nz6 {y : Int64} (h : y.toInt ≠ 0) : ¬ y = 0 := fun e => h (by rw [e]; rfl)
theorem nz3 {y : Int32} (h : y.toInt ≠ 0) : ¬ y = 0 := fun e => h (by rw [e]; rfl)
theorem rz6 {x y v : Int64} {c d L U : Int} (h : v = x - x / y * y) (hy : c ≤ y.toInt ∧ y.toInt ≤ d) (hc : 1 ≤ c) (h1 : L ≤ 1 - d) (h2 : d - 1 ≤ U) : L ≤ v.toInt ∧ v.toInt ≤ U := by
  have r := fr6 x
  have q1 : x.toInt.tdiv y.toInt * y.toInt + x.toInt.tmod y.toInt = x.toInt := Int.tdiv_mul_add_tmod x.toInt y.toInt
  have q2 : x.toInt.tmod y.toInt < y.toInt := Int.tmod_lt_of_pos x.toInt (by omega)
  have q3 : -y.toInt < x.toInt.tmod y.toInt := by
    have w := Int.tmod_lt_of_pos (-x.toInt) (b := y.toInt) (by omega)
    rw [Int.neg_tmod] at w
    omega
  have q4 : (x.toInt.tdiv y.toInt).natAbs ≤ x.toInt.natAbs := Int.natAbs_tdiv_le_natAbs x.toInt y.toInt
  have hm : x / y * y = Int64.ofInt (x.toInt.tdiv y.toInt * y.toInt) := by
    apply Int64.toInt_inj.mp
    rw [Int64.toInt_mul, Int64.toInt_div, Int64.toInt_ofInt]
    rw [Int.bmod_mul_bmod]
  have e : v.toInt = x.toInt.tmod y.toInt := by
    rw [h, hm, Int64.toInt_sub, Int64.toInt_ofInt, Int.sub_bmod_bmod]
    rw [show x.toInt - x.toInt.tdiv y.toInt * y.toInt = x.toInt.tmod y.toInt by omega]
    have ry := fr6 y
    have hz : ((Int64.size : Nat) : Int) = 18446744073709551616 := rfl
    exact Int.bmod_eq_of_le (by omega) (by omega)
  omega
theorem xr3 {x y v : Int32} (h : v = x ^^^ y) (hx : 0 ≤ x.toInt ∧ x.toInt ≤ 1) (hy : 0 ≤ y.toInt ∧ y.toInt ≤ 1) : 0 ≤ v.toInt ∧ v.toInt ≤ 1 := by
  have q : ∀ z : Int32, 0 ≤ z.toInt ∧ z.toInt ≤ 1 → z = 0 ∨ z = 1 := by
    intro z hz
    rcases (show z.toInt = 0 ∨ z.toInt = 1 by omega) with e | e
    · exact Or.inl (Int32.toInt_inj.mp e)
    · exact Or.inr (Int32.toInt_inj.mp e)
  rcases q x hx with rfl | rfl <;> rcases q y hy with rfl | rfl <;> subst h <;> decide
theorem dq {v X Y : Int} (e : v = X / Y) (h0 : 0 ≤ X) (h : X < Y * 1073741824) (hY : 0 < Y) : 0 ≤ v ∧ v ≤ 1073741823 := by
  have h1 : 0 ≤ X / Y := Int.ediv_nonneg h0 (by omega)
  have h2 : X / Y < 1073741824 := Int.ediv_lt_of_lt_mul hY (by omega)
  omega
/-- a register's number -/
def rv (g z : Nat → Int32) (n : Nat) : Int := if (g n).toInt = 1 then -(z n).toInt else (z n).toInt
theorem rv_def (g z : Nat → Int32) (n : Nat) : ((g n).toInt = 1 → rv g z n = -(z n).toInt) ∧ ((g n).toInt ≠ 1 → rv g z n = (z n).toInt) := ⟨fun h => if_pos h, fun h => if_neg h⟩
def pw (n : Int) : Int := if n = 0 then 1 else if n = 1 then 64 else if n = 2 then 4096 else if n = 3 then 262144 else if n = 4 then 16777216 else if n = 5 then 1073741824 else 1
def bt (v l r : Int) : Int := if r < l then 0 else if r - l + 1 = 5 then v / pw (5 - r) else v / pw (5 - r) % pw (r - l + 1)
def tvf (z : Nat → Int32) (m f : Int32) : Int := bt (z m.toNatClampNeg).toInt (if f.toInt / 8 = 0 then 1 else f.toInt / 8) (f.toInt % 8)
theorem lcr_lt {x y : Int64} {v : Int32} (hv : v = lg_cmp x y) (h : x.toInt < y.toInt) : v < 0 := hv ▸ cmp_lt.mpr h
theorem lcr_nlt {x y : Int64} {v : Int32} (hv : v = lg_cmp x y) (h : y.toInt ≤ x.toInt) : ¬ v < 0 := fun q => by have := lc_lt hv q; omega
theorem lcr_gt {x y : Int64} {v : Int32} (hv : v = lg_cmp x y) (h : y.toInt < x.toInt) : 0 < v := hv ▸ cmp_gt.mpr h
theorem lcr_ngt {x y : Int64} {v : Int32} (hv : v = lg_cmp x y) (h : x.toInt ≤ y.toInt) : ¬ 0 < v := fun q => by have := lc_gt hv q; omega
theorem lcr_ge {x y : Int64} {v : Int32} (hv : v = lg_cmp x y) (h : y.toInt ≤ x.toInt) : 0 ≤ v := by
  have q := c_nlt (lcr_nlt hv h)
  exact Int32.le_iff_toInt_le.mpr q
theorem lcr_nge {x y : Int64} {v : Int32} (hv : v = lg_cmp x y) (h : x.toInt < y.toInt) : ¬ 0 ≤ v := fun q => by have := lc_ge hv q; omega
theorem lcr_le {x y : Int64} {v : Int32} (hv : v = lg_cmp x y) (h : x.toInt ≤ y.toInt) : v ≤ 0 := by
  have q := c_nlt (lcr_ngt hv h)
  exact Int32.le_iff_toInt_le.mpr q
theorem lcr_nle {x y : Int64} {v : Int32} (hv : v = lg_cmp x y) (h : y.toInt < x.toInt) : ¬ v ≤ 0 := fun q => by have := lc_le hv q; omega
theorem lcr_eq {x y : Int64} {v : Int32} (hv : v = lg_cmp x y) (h : x.toInt = y.toInt) : v = 0 := by
  have e2 : x = y := Int64.toInt_inj.mp h
  subst e2
  rw [hv]; simp [lg_cmp]
theorem lcr_ne {x y : Int64} {v : Int32} (hv : v = lg_cmp x y) (h : x.toInt ≠ y.toInt) : ¬ v = 0 := fun q => h (lc_eq hv q)
/-- a fact that is kept out of sight -/
def hid (p : Prop) : Prop := p
section RF
variable {X Y a b c d lo hi : Int}
theorem rf_ltX (p : a ≤ X ∧ X ≤ b) (q : c ≤ Y ∧ Y ≤ d) (g : X < Y) (h1 : lo ≤ a) (h2 : b ≤ hi ∨ d - 1 ≤ hi) : lo ≤ X ∧ X ≤ hi := by omega
theorem rf_ltY (p : a ≤ X ∧ X ≤ b) (q : c ≤ Y ∧ Y ≤ d) (g : X < Y) (h1 : lo ≤ c ∨ lo ≤ a + 1) (h2 : d ≤ hi) : lo ≤ Y ∧ Y ≤ hi := by omega
theorem rf_leX (p : a ≤ X ∧ X ≤ b) (q : c ≤ Y ∧ Y ≤ d) (g : X ≤ Y) (h1 : lo ≤ a) (h2 : b ≤ hi ∨ d ≤ hi) : lo ≤ X ∧ X ≤ hi := by omega
theorem rf_leY (p : a ≤ X ∧ X ≤ b) (q : c ≤ Y ∧ Y ≤ d) (g : X ≤ Y) (h1 : lo ≤ c ∨ lo ≤ a) (h2 : d ≤ hi) : lo ≤ Y ∧ Y ≤ hi := by omega
theorem rf_gtX (p : a ≤ X ∧ X ≤ b) (q : c ≤ Y ∧ Y ≤ d) (g : Y < X) (h1 : lo ≤ a ∨ lo ≤ c + 1) (h2 : b ≤ hi) : lo ≤ X ∧ X ≤ hi := by omega
theorem rf_gtY (p : a ≤ X ∧ X ≤ b) (q : c ≤ Y ∧ Y ≤ d) (g : Y < X) (h1 : lo ≤ c) (h2 : d ≤ hi ∨ b - 1 ≤ hi) : lo ≤ Y ∧ Y ≤ hi := by omega
theorem rf_geX (p : a ≤ X ∧ X ≤ b) (q : c ≤ Y ∧ Y ≤ d) (g : Y ≤ X) (h1 : lo ≤ a ∨ lo ≤ c) (h2 : b ≤ hi) : lo ≤ X ∧ X ≤ hi := by omega
theorem rf_geY (p : a ≤ X ∧ X ≤ b) (q : c ≤ Y ∧ Y ≤ d) (g : Y ≤ X) (h1 : lo ≤ c) (h2 : d ≤ hi ∨ b ≤ hi) : lo ≤ Y ∧ Y ≤ hi := by omega
theorem rf_eqX (p : a ≤ X ∧ X ≤ b) (q : c ≤ Y ∧ Y ≤ d) (g : X = Y) (h1 : lo ≤ a ∨ lo ≤ c) (h2 : b ≤ hi ∨ d ≤ hi) : lo ≤ X ∧ X ≤ hi := by omega
theorem rf_eqY (p : a ≤ X ∧ X ≤ b) (q : c ≤ Y ∧ Y ≤ d) (g : X = Y) (h1 : lo ≤ a ∨ lo ≤ c) (h2 : b ≤ hi ∨ d ≤ hi) : lo ≤ Y ∧ Y ≤ hi := by omega
theorem rf_neX (p : a ≤ X ∧ X ≤ b) (q : c ≤ Y ∧ Y ≤ d) (g : X ≠ Y) (h1 : lo ≤ a ∨ (lo ≤ a + 1 ∧ c = a ∧ d = a)) (h2 : b ≤ hi ∨ (b - 1 ≤ hi ∧ c = b ∧ d = b)) : lo ≤ X ∧ X ≤ hi := by omega
theorem rf_neY (p : a ≤ X ∧ X ≤ b) (q : c ≤ Y ∧ Y ≤ d) (g : X ≠ Y) (h1 : lo ≤ c ∨ (lo ≤ c + 1 ∧ a = c ∧ b = c)) (h2 : d ≤ hi ∨ (d - 1 ≤ hi ∧ a = d ∧ b = d)) : lo ≤ Y ∧ Y ≤ hi := by omega
theorem klt (p : a ≤ X ∧ X ≤ b) (q : c ≤ Y ∧ Y ≤ d) (h : b < c) : X < Y := by omega
theorem kle (p : a ≤ X ∧ X ≤ b) (q : c ≤ Y ∧ Y ≤ d) (h : b ≤ c) : X ≤ Y := by omega
theorem knE (p : a ≤ X ∧ X ≤ b) (q : c ≤ Y ∧ Y ≤ d) (h : b < c ∨ d < a) : X ≠ Y := by omega
theorem keq (p : a ≤ X ∧ X ≤ b) (q : c ≤ Y ∧ Y ≤ d) (h1 : a = b) (h2 : c = d) (h3 : a = c) : X = Y := by omega
end RF
/-- is a name among the first n? -/
noncomputable def nsI (s : Nat → Int64) (n : Int) (x : Int64) : Int := @ite Int (∃ j : Nat, (j : Int) < n ∧ s j = x) (Classical.propDecidable _) 1 0
theorem nsI_z (s : Nat → Int64) (x : Int64) : nsI s 0 x = 0 := by
  unfold nsI
  refine if_neg ?_
  rintro ⟨j, h, -⟩
  omega
theorem nsI_s {s : Nat → Int64} {x y : Int64} {k : Int32} {K : Int} (h : nsI s k.toInt x = 0) (hy : y = s k.toNatClampNeg) (ne : y.toInt ≠ x.toInt) (hk : 0 ≤ k.toInt) (hK : K = k.toInt + 1) : nsI s K x = 0 := by
  show nsI s K x = 0
  unfold nsI
  refine if_neg ?_
  rintro ⟨j, h1, h2⟩
  have e : ((k.toNatClampNeg : Nat) : Int) = k.toInt := ti_n ⟨hk, (fr3 k).2⟩ (by decide)
  by_cases c : (j : Int) < k.toInt
  · have : nsI s k.toInt x = 1 := by unfold nsI; exact if_pos ⟨j, c, h2⟩
    omega
  · have e2 : j = k.toNatClampNeg := by omega
    subst e2
    exact ne (by rw [hy, h2])
theorem nsI_f {s : Nat → Int64} {x y : Int64} {k : Int32} {n : Int} (hy : y = s k.toNatClampNeg) (e : y.toInt = x.toInt) (hk : 0 ≤ k.toInt) (hn : k.toInt < n) : nsI s n x = 1 := by
  have e1 : ((k.toNatClampNeg : Nat) : Int) = k.toInt := ti_n ⟨hk, (fr3 k).2⟩ (by decide)
  unfold nsI
  exact if_pos ⟨k.toNatClampNeg, by omega, by rw [← hy]; exact Int64.toInt_inj.mp e⟩
/-- the places that want a value later: rising, each among those that came, its word without address -/
def LX (lo os : Nat → Int32) (n k : Int) : Prop := ∀ j : Nat, (j : Int) < n → (lo j).toInt < k ∧ (os (lo j).toNatClampNeg).toInt < 262144 ∧ ∀ i : Nat, i < j → (lo i).toInt < (lo j).toInt
def LY (lo os : Nat → Int32) (c n : Int) : Prop := ∀ j : Nat, c ≤ (j : Int) → (j : Int) < n → (os (lo j).toNatClampNeg).toInt < 262144 ∧ ∀ i : Nat, i < j → (lo i).toInt < (lo j).toInt
theorem lx_zero (lo os : Nat → Int32) (k : Int) : LX lo os 0 k := fun j h => by omega
theorem lx_ly {lo os : Nat → Int32} {n k : Int} (h : LX lo os n k) : LY lo os 0 n := fun j _ hj => (h j hj).2
theorem ne_cl {a b : Int32} (h0 : 0 ≤ a.toInt) (h : a.toInt < b.toInt) : ¬ a.toNatClampNeg = b.toNatClampNeg := fun e => by
  have e1 : ((a.toNatClampNeg : Nat) : Int) = a.toInt := ti_n ⟨h0, (fr3 a).2⟩ (by decide)
  have e2 : ((b.toNatClampNeg : Nat) : Int) = b.toInt := ti_n ⟨(show 0 ≤ b.toInt by omega), (fr3 b).2⟩ (by decide)
  omega
theorem lx_out {lo os os1 : Nat → Int32} {n k k1 : Int} {K v : Int32} (h : LX lo os n k) (hp : ∀ i : Nat, (0 ≤ (lo i).toInt ∧ (lo i).toInt ≤ 4199)) (hu : os1 = upd os K.toNatClampNeg v) (hK : K.toInt = k) (h1 : k ≤ k1) : LX lo os1 n k1 := by
  intro j hj
  obtain ⟨a, b, c⟩ := h j hj
  refine ⟨by omega, ?_, c⟩
  rw [hu]
  unfold upd
  rw [if_neg (ne_cl (hp j).1 (by omega))]
  exact b
theorem lx_get {os os1 : Nat → Int32} {K r v : Int32} (hu : os1 = upd os K.toNatClampNeg v) (e : r.toInt = K.toInt) : (os1 r.toNatClampNeg).toInt = v.toInt := by
  have e2 : r = K := Int32.toInt_inj.mp e
  subst e2
  rw [hu]
  unfold upd
  rw [if_pos rfl]
theorem lx_add {lo lo1 os0 os : Nat → Int32} {n k0 k n1 : Int} {N w : Int32} (h0 : LX lo os0 n k0) (h : LX lo os n k) (hu : lo1 = upd lo N.toNatClampNeg w) (hN : N.toInt = n) (hn : 0 ≤ n) (hw : w.toInt = k0) (hk : k0 < k) (hs : (os w.toNatClampNeg).toInt < 262144) (hn1 : n1 = n + 1) : LX lo1 os n1 k := by
  intro j hj
  have e : ((N.toNatClampNeg : Nat) : Int) = N.toInt := ti_n ⟨(show 0 ≤ N.toInt by omega), (fr3 N).2⟩ (by decide)
  have g : ∀ i : Nat, (i : Int) < n → lo1 i = lo i := by
    intro i hi
    rw [hu]
    unfold upd
    rw [if_neg (fun q => by omega)]
  by_cases c : (j : Int) < n
  · obtain ⟨a, b, d⟩ := h j c
    rw [g j c]
    refine ⟨a, b, fun i hi => ?_⟩
    rw [g i (by omega)]
    exact d i hi
  · have ej : lo1 j = w := by
      rw [hu]
      unfold upd
      rw [if_pos (by omega)]
    rw [ej]
    refine ⟨by omega, hs, fun i hi => ?_⟩
    rw [g i (by omega)]
    have := (h0 i (by omega)).1
    omega
theorem ly_get {lo os : Nat → Int32} {c n : Int} {k w : Int32} (h : LY lo os c n) (hw : w = lo k.toNatClampNeg) (hk : k.toInt = c) (h0 : 0 ≤ c) (hn : c < n) : (os w.toNatClampNeg).toInt < 262144 := by
  have e : ((k.toNatClampNeg : Nat) : Int) = k.toInt := ti_n ⟨(show 0 ≤ k.toInt by omega), (fr3 k).2⟩ (by decide)
  rw [hw]
  exact (h k.toNatClampNeg (by omega) (by omega)).1
theorem ly_step {lo os os1 : Nat → Int32} {c n c1 : Int} {k w v : Int32} (h : LY lo os c n) (hp : ∀ i : Nat, (0 ≤ (lo i).toInt ∧ (lo i).toInt ≤ 4199)) (hw : w = lo k.toNatClampNeg) (hk : k.toInt = c) (h0 : 0 ≤ c) (hu : os1 = upd os w.toNatClampNeg v) (hc : c1 = c + 1) : LY lo os1 c1 n := by
  intro j h1 h2
  have e : ((k.toNatClampNeg : Nat) : Int) = k.toInt := ti_n ⟨(show 0 ≤ k.toInt by omega), (fr3 k).2⟩ (by decide)
  obtain ⟨a, b⟩ := h j (by omega) h2
  refine ⟨?_, b⟩
  have q := b k.toNatClampNeg (by omega)
  rw [hu, hw]
  unfold upd
  rw [if_neg (fun x => ne_cl (hp _).1 q x.symm)]
  exact a
theorem st_rng {w v U Sp a n q1 q2 q3 X : Int} (hw : 0 ≤ w ∧ w ≤ 1073741823) (hv : 0 ≤ v ∧ v ≤ 1073741823) (ha : 0 ≤ a ∧ 1 ≤ n ∧ a + n ≤ 5) (hU : U = pw a) (hS : Sp = pw n) (e1 : q1 = w / U) (e2 : q2 = q1 % Sp) (e3 : q3 = v % Sp) (eX : X = w - q2 * U + q3 * U) : 0 ≤ X ∧ X ≤ 1073741823 := by
  rcases (show a = 0 ∨ a = 1 ∨ a = 2 ∨ a = 3 ∨ a = 4 by omega) with h | h | h | h | h <;> rcases (show n = 1 ∨ n = 2 ∨ n = 3 ∨ n = 4 ∨ n = 5 by omega) with g | g | g | g | g <;> subst h <;> subst g <;> first | (exfalso; omega) | (simp only [pw] at hU hS; simp at hU hS; subst hU; subst hS; subst e1; subst e2; subst e3; omega)

theorem o_in {x : Int32} (h : ¬ bI (f_O_isWord x) = 0) : vp_in x 1101 := by
  have h1 := bI_n.mp h
  unfold f_O_isWord at h1
  by_cases c1 : x < (0 : Int32)
  · rw [if_pos c1] at h1; cases h1
  · rw [if_neg c1] at h1
    by_cases c2 : (1101 : Int32) ≤ x
    · rw [if_pos c2] at h1; cases h1
    · exact vpin c1 c2 rfl
theorem o_inz {x : Int32} {z : Bool} (hz : z = f_O_isWord x) (h : ¬ bI z = 0) : vp_in x 1101 := o_in (by rw [← hz]; exact h)
theorem tw_in {a b : Int32} {z : Bool} (hz : z = f_T_isWord a b) (h : ¬ bI z = 0) : vp_in (a * (100 : Int32) + b) 4000 := by
  have h1 := bI_n.mp h
  rw [hz] at h1
  unfold f_T_isWord at h1
  by_cases c1 : a < (0 : Int32)
  · simp [c1] at h1
  by_cases c2 : (40 : Int32) ≤ a
  · simp [c1, c2] at h1
  by_cases c3 : b < (0 : Int32)
  · simp [c1, c2, c3] at h1
  by_cases c4 : (100 : Int32) ≤ b
  · simp [c1, c2, c3, c4] at h1
  rw [Int32.lt_iff_toInt_lt] at c1 c3
  rw [Int32.le_iff_toInt_le] at c2 c4
  have e0 : (0 : Int32).toInt = 0 := rfl
  have e1 : (40 : Int32).toInt = 40 := rfl
  have e2 : (100 : Int32).toInt = 100 := rfl
  rw [e0] at c1 c3
  rw [e1] at c2
  rw [e2] at c4
  have h2 : (a * (100 : Int32)).toInt = a.toInt * 100 := by
    rw [Int32.toInt_mul, e2]
    exact Int.bmod_eq_of_le (by omega) (by omega)
  have h3 : (a * (100 : Int32) + b).toInt = a.toInt * 100 + b.toInt := by
    rw [Int32.toInt_add, h2]
    exact Int.bmod_eq_of_le (by omega) (by omega)
  rw [vp_in_iff, h3]
  omega
/-- the word at an address, 0 where there is none -/
def f_mw (y : Nat → Int32) (a : Int32) : Int32 := if a < (0 : Int32) then (0 : Int32) else if (4000 : Int32) ≤ a then (0 : Int32) else y a.toNatClampNeg
abbrev CK := (Nat → Nat) × (Nat → Nat) × (Nat → Nat) × (Nat → Nat) × (Nat → Nat) × (Nat → Int32) × (Nat → Int32) × (Nat → Nat → Int32) × Nat × Option Nat
abbrev e_ad (K : CK) : Nat → Nat := K.1
abbrev e_aK (K : CK) : Nat → Nat := K.2.1
abbrev e_aV (K : CK) : Nat → Nat := K.2.2.1
abbrev e_sg (K : CK) : Nat → Nat := K.2.2.2.1
abbrev e_ln (K : CK) : Nat → Nat := K.2.2.2.2.1
abbrev e_cd (K : CK) : Nat → Int32 := K.2.2.2.2.2.1
abbrev e_fd (K : CK) : Nat → Int32 := K.2.2.2.2.2.2.1
abbrev e_bt (K : CK) : Nat → Nat → Int32 := K.2.2.2.2.2.2.2.1
abbrev e_tA (K : CK) : Nat := K.2.2.2.2.2.2.2.2.1
abbrev e_fm (K : CK) : Option Nat := K.2.2.2.2.2.2.2.2.2
abbrev e_oA (K : CK) (o : Option (Fin 51)) : Value := va_rf (o.map (fun z => e_ad K z.val))
abbrev nmO : List String := ["NOP", "ADD", "SUB", "MUL", "DIV", "NUM", "CHAR", "HLT", "SLA", "SRA", "SLAX", "SRAX", "SLC", "SRC", "MOVE", "LD", "LDN", "ST", "STJ", "STZ", "JBUS", "IOC", "IN", "OUT", "JRED", "JMP", "JSJ", "JOV", "JNOV", "JL", "JE", "JG", "JGE", "JNE", "JLE", "JN", "JZ", "JP", "JNN", "JNZ", "JNP", "INC", "DEC", "ENT", "ENN", "CMP", "EQU", "ORIG", "CON", "ALF", "END"]
abbrev e_op (K : CK) (A : Nat → Prop) (U : State) (H : Heap) (i : Nat) : Prop := va_Z "SignMachine$Op" (nmO.getD i "") "LSignMachine$Op;" (.ref (e_ad K i)) A U H ∧ va_O "SignMachine$Op" (e_ad K i) A U H ∧ va_OF "SignMachine$Op" "code" "I" (.int (e_cd K i)) (e_ad K i) A U H ∧ va_OF "SignMachine$Op" "field" "I" (.int (e_fd K i)) (e_ad K i) A U H ∧ va_OF "SignMachine$Op" "pattern" "Ljava/lang/String;" (.ref (e_aK K (e_sg K i))) (e_ad K i) A U H ∧ e_sg K i < 53
abbrev e_st (K : CK) (A : Nat → Prop) (U : State) (H : Heap) (j : Nat) : Prop := va_O "java/lang/String" (e_aK K j) A U H ∧ va_OF "java/lang/String" "coder" "B" (.int 0) (e_aK K j) A U H ∧ va_OF "java/lang/String" "value" "[B" (.ref (e_aV K j)) (e_aK K j) A U H ∧ va_T .byte (e_aV K j) (e_ln K j) (fun q => .int (e_bt K j q)) A U H ∧ e_ln K j < 2 ^ 31
/-- the constants: operations, texts, the row of all operations -/
def CN (K : CK) (A : Nat → Prop) (U : State) (H : Heap) : Prop := (∀ i, i < 51 → e_op K A U H i) ∧ (∀ j, j < 53 → e_st K A U H j) ∧ va_Z "SignMachine$Op" "ALL" "[LSignMachine$Op;" (.ref (e_tA K)) A U H ∧ va_T (.object "SignMachine$Op") (e_tA K) 51 (fun j => .ref (e_ad K j)) A U H ∧ va_Z "java/lang/String" "COMPACT_STRINGS" "Z" (.int 1) A U H ∧ va_Z "jdk/internal/util/Preconditions" "SIOOBE_FORMATTER" "Ljava/util/function/BiFunction;" (va_rf (e_fm K)) A U H ∧ vk_R "SignMachine$Op" 210 "A123456X" (e_aK K 51) U ∧ vk_R "SignMachine$Assembler" 243 " ABCDEFGHI~JKLMNOPQR[#STUVWXYZ0123456789.,()+-*/=$<>@;:'" (e_aK K 52) U
theorem CN.to {K : CK} {A B : Nat → Prop} {s U : State} {H H1 : Heap} (h : CN K A s H) (hW : s.WarmedH U.vm) (hq : ∀ a : Nat, a < H.size → ¬ A a → H1[a]? = H[a]?) (hAB : ∀ q, B q → A q) : CN K B U H1 := by
  have hv := hW.alike
  obtain ⟨h1, h2, h3, h4, h5, h5b, h6⟩ := h
  refine ⟨fun i hi => ?_, fun j hj => ?_, ((va_Z.moved hv h3).kept hq).narrow hAB, ((va_T.moved hv h4).kept hq).narrow hAB, ((va_Z.moved hv h5).kept hq).narrow hAB, ((va_Z.moved hv h5b).kept hq).narrow hAB, vk_R.warm hW h6.1, vk_R.warm hW h6.2⟩
  · obtain ⟨a1, a2, a3, a4, a5, a6⟩ := h1 i hi
    exact ⟨((va_Z.moved hv a1).kept hq).narrow hAB, ((va_O.moved hv a2).kept hq).narrow hAB, ((va_OF.moved hv a3).kept hq).narrow hAB, ((va_OF.moved hv a4).kept hq).narrow hAB, ((va_OF.moved hv a5).kept hq).narrow hAB, a6⟩
  · obtain ⟨a1, a2, a3, a4, a5⟩ := h2 j hj
    exact ⟨((va_O.moved hv a1).kept hq).narrow hAB, ((va_OF.moved hv a2).kept hq).narrow hAB, ((va_OF.moved hv a3).kept hq).narrow hAB, ((va_T.moved hv a4).kept hq).narrow hAB, a5⟩
theorem CN.calling {K : CK} {A : Nat → Prop} {U : State} {H : Heap} {g : JFrame} {mk : MethodId} {a : Array Value} (h : CN K A U H) : CN K A (U.calling g mk a) H := by
  have hv : U.vm.Alike (U.calling g mk a).vm := Vm.Alike.refl U.vm
  obtain ⟨h1, h2, h3, h4, h5, h5b, h6⟩ := h
  refine ⟨fun i hi => ?_, fun j hj => ?_, va_Z.moved hv h3, va_T.moved hv h4, va_Z.moved hv h5, va_Z.moved hv h5b, vk_R.same rfl h6.1, vk_R.same rfl h6.2⟩
  · obtain ⟨a1, a2, a3, a4, a5, a6⟩ := h1 i hi
    exact ⟨va_Z.moved hv a1, va_O.moved hv a2, va_OF.moved hv a3, va_OF.moved hv a4, va_OF.moved hv a5, a6⟩
  · obtain ⟨a1, a2, a3, a4, a5⟩ := h2 j hj
    exact ⟨va_O.moved hv a1, va_OF.moved hv a2, va_OF.moved hv a3, va_T.moved hv a4, a5⟩
abbrev pMC (K : CK) (D : va_G) (cI cJ cZ cB : ClassId) (ws : va_W) (sz : Nat) (As : List Value) : Array Value → State → Prop := va_Pc As (fun U => U.heap.size = sz ∧ KK D cI cJ cZ cB U ∧ va_P D classes ws U.heap ∧ va_D (fun _ => True) ws ∧ CN K (va_A ws sz) U U.heap)
section PMC
variable {K : CK} {D : va_G} {cI cJ cZ cB : ClassId} {s : State} {H : Heap} {ws : va_W} {A : Nat → Prop} {C : String} {b : Nat} {As : List Value} {locs : List Loc}
theorem pMC_g (hK : KK D cI cJ cZ cB s) (hP : va_P D classes ws H) (hD : va_D A ws) (hC : CN K A s s.heap) (hS : va_S A s.heap H locs) (hA : ∀ q, s.heap.size ≤ q → A q) (hr : ∃ cell : Cell, H[b]? = some cell ∧ cell.vm.isStatics = false ∧ s.vm.findClass C = some cell.cls) : PreV s H C b (pMC K D cI cJ cZ cB ws H.size (.ref b :: As)) As :=
  ⟨fun _ _ _ _ q => ⟨q.1, q.2.1, q.2.2.1.calling, q.2.2.2.1, q.2.2.2.2.1, q.2.2.2.2.2.calling⟩, hr, fun U hU hW => ⟨rfl, by rw [hU], hK.warm hW, by rw [hU]; exact hP, hD.weaken (fun _ _ _ _ => trivial), by rw [hU]; exact hC.to hW hS.2.1 (fr_all hD hS hA)⟩⟩
theorem pMC_v (hK : KK D cI cJ cZ cB s) (hP : va_P D classes ws H) (hD : va_D A ws) (hC : CN K A s s.heap) (hS : va_S A s.heap H locs) (hA : ∀ q, s.heap.size ≤ q → A q) {ci q0 : Nat} {q : vw_C} {fs : List Value} (hc : classes[ci]? = some q) (he : ws[q0]? = some (b, .inr (ci, fs))) (hC1 : q.1 = C) : PreV s H C b (pMC K D cI cJ cZ cB ws H.size (.ref b :: As)) As :=
  pMC_g hK hP hD hC hS hA (hC1 ▸ va_recv hK.1 hP hc he)
theorem pMC_i (hK : KK D cI cJ cZ cB s) (hP : va_P D classes ws H) (hD : va_D A ws) (hC : CN K A s s.heap) (hS : va_S A s.heap H locs) (hA : ∀ q, s.heap.size ≤ q → A q) : PreS s H (pMC K D cI cJ cZ cB ws H.size As) As :=
  ⟨fun _ _ _ _ q => ⟨q.1, q.2.1, q.2.2.1.calling, q.2.2.2.1, q.2.2.2.2.1, q.2.2.2.2.2.calling⟩, fun U hU hW => ⟨rfl, by rw [hU], hK.warm hW, by rw [hU]; exact hP, hD.weaken (fun _ _ _ _ => trivial), by rw [hU]; exact hC.to hW hS.2.1 (fr_all hD hS hA)⟩⟩
theorem rcv {E : String} {t : Nat} (h : va_O E t A s s.heap) (hS : va_S A s.heap H locs) : ∃ cell : Cell, H[t]? = some cell ∧ cell.vm.isStatics = false ∧ s.vm.findClass E = some cell.cls := by
  obtain ⟨cell, h1, h2, h3, -⟩ := h.kept hS.2.1
  exact ⟨cell, h1, h2, h3⟩
end PMC
section VTA
variable {p : Program} {l : Launch} {e : Env} {R : Room} {s : State} {m : MethodId} {args : Array Value} {below : List Frame} {meth : Method} {c : Code} {H : Heap} {locs : List Loc} {cells slots : Nat} {Q : State → Prop}
variable {cc : ByteArray} {pc : Nat} {ls : Array Slot} {rest : List Value} {A : Nat → Prop} {t N : Nat} {f : Nat → Value}
theorem va_ta {E : String} (hexec : p.tables.exec = Jvm.exec) (hb : c.code = cc) (hT : va_T (.object E) t N f A s s.heap) (hS : va_S A s.heap H locs) {i : Int32} (hin : vp_in i N) {v : Value} (hv : f i.toNatClampNeg = v) (hdg : decode cc pc = .ok (.aaload, 1))
    (kk : W p l e R s m args below meth c H locs cells slots Q (F0 m (pc + 1) ls (v :: rest))) : W p l e R s m args below meth c H locs cells slots Q (F0 m pc ls (.int i :: .ref t :: rest)) := by
  obtain ⟨cell, h1, h2, h3, h4, h5, h6, h7⟩ := hT
  have hlt : i.toNatClampNeg < N := Nat.not_le.mp fun q => hin (Or.inr q)
  have hin' : ¬ (i < 0 ∨ cell.slots.size ≤ i.toNatClampNeg) := by
    intro q
    rcases q with q | q
    · exact hin (Or.inl q)
    · omega
  exact W.aald (v := v) hexec hb (by rw [hS.2.1 t (Array.getElem?_eq_some_iff.mp h1).1 h7]; exact h1) h2 rfl h3 hin' (by rw [h6 _ hlt, hv]) rfl rfl hdg kk
theorem vk_getfN {o n d own ref host : String} {index q : Nat} {v : Value} (hexec : p.tables.exec = Jvm.exec) (hb : c.code = cc) (hE : va_OF o n d v q A s s.heap) (hS : va_S A s.heap H locs) (hown : s.vm.findClass own = some m.cls) (hlink : (Cond.fieldLinkNest own index ref n d host).before args s = true) (hsame : ∀ x, s.fieldFound? o n d = some x → s.fieldFound? ref n d = some x) (hdg : decode cc pc = .ok (.getfield index, 3))
    (kk : W p l e R s m args below meth c H locs cells slots Q (F0 m (pc + 3) ls (v :: rest))) : W p l e R s m args below meth c H locs cells slots Q (F0 m pc ls (.ref q :: rest)) := by
  obtain ⟨cf, k, fi, f, cell, h1, h2, h3, h4, h5, h6⟩ := hE.kept hS.2.1
  exact va_Wgetf hexec hb hown hlink (hsame _ h1) h2 h3 h4 (v := v) h5 rfl rfl hdg kk
end VTA
theorem c_nar (x : Int32) : narrow .char (.int ((x.toUInt32 % 65536).toInt32)) = .int ((x.toUInt32 % 65536).toInt32) := by
  have h : (x.toUInt32 % 65536).toNat < 65536 := by
    rw [UInt32.toNat_mod]
    exact Nat.mod_lt _ (by decide)
  generalize x.toUInt32 % 65536 = y at h ⊢
  show Value.int _ = Value.int _
  congr 1
  apply Int32.toBitVec_inj.mp
  apply BitVec.eq_of_toNat_eq
  simp
  have h2 : y.toBitVec.toNat < 65536 := h
  first | omega | (have h3 : y.toNat < 65536 := h; omega) | (rw [Nat.mod_eq_of_lt]; exact h)
theorem tcl {c : Int32} {n : Nat} (h : vp_in c n) : c.toNatClampNeg < n := Nat.not_le.mp fun q => h (Or.inr q)
theorem inj {c b : Int32} {n : Nat} (h0 : ¬ c < (0 : Int32)) (h1 : ¬ b ≤ c) (hb : b = nI n) (hn : n < 2 ^ 31) : vp_in c n := by
  rw [vp_in_iff]
  rw [Int32.lt_iff_toInt_lt] at h0
  rw [hb, Int32.le_iff_toInt_le, nI_toInt hn] at h1
  have z : (0 : Int32).toInt = 0 := rfl
  omega
theorem inj2 {c b : Int32} {n : Nat} (h0 : ¬ c < (0 : Int32)) (h1 : ¬ b ≤ c) (hb : b ≤ nI n) (hn : n < 2 ^ 31) : vp_in c n := by
  rw [vp_in_iff]
  rw [Int32.lt_iff_toInt_lt] at h0
  rw [Int32.le_iff_toInt_le, nI_toInt hn] at hb
  rw [Int32.le_iff_toInt_le] at h1
  have z : (0 : Int32).toInt = 0 := rfl
  omega
theorem ngl {a b : Int32} (h : ¬ b ≤ a) : a < b := by
  rw [Int32.le_iff_toInt_le] at h
  rw [Int32.lt_iff_toInt_lt]
  omega
theorem mx0 {v x : Int32} (h : v = if x < (0 : Int32) then (0 : Int32) else x) : ¬ v < (0 : Int32) := by
  rw [h]
  by_cases c : x < (0 : Int32)
  · rw [if_pos c]; decide
  · rw [if_neg c]; exact c
theorem mn1 {v x y : Int32} (h : v = if y < x then y else x) : v ≤ y := by
  rw [h, Int32.le_iff_toInt_le]
  by_cases c : y < x
  · rw [if_pos c]; omega
  · rw [if_neg c]
    rw [Int32.lt_iff_toInt_lt] at c
    omega
theorem nlt {a b : Int32} (h : a < b) : ¬ b ≤ a := by
  rw [Int32.lt_iff_toInt_lt] at h
  rw [Int32.le_iff_toInt_le]
  omega
theorem ai_ {v x y : Int32} {k : Int} (h : v = x + y) (hy : y.toInt = k) (h1 : -2147483648 ≤ x.toInt + k) (h2 : x.toInt + k ≤ 2147483647) : v.toInt = x.toInt + k := by
  rw [h, Int32.toInt_add, hy]; exact Int.bmod_eq_of_le (by omega) (by omega)
theorem si_ {v x y : Int32} {k : Int} (h : v = x - y) (hy : y.toInt = k) (h1 : -2147483648 ≤ x.toInt - k) (h2 : x.toInt - k ≤ 2147483647) : v.toInt = x.toInt - k := by
  rw [h, Int32.toInt_sub, hy]; exact Int.bmod_eq_of_le (by omega) (by omega)
def f_hr (L : Int32) : Int32 := if (4000 : Int32) < (L + (20 : Int32)) then (0 : Int32) else (1 : Int32)
theorem hr_i {L r : Int32} (hL : 0 ≤ L.toInt ∧ L.toInt ≤ 4000) (h : r = f_hr L) (c : ¬ r = (0 : Int32)) : L.toInt ≤ 3980 := by
  have e : (L + (20 : Int32)).toInt = L.toInt + 20 := ai_ rfl (by decide) (by omega) (by omega)
  by_cases q : (4000 : Int32) < (L + (20 : Int32))
  · exact absurd (h.trans (if_pos q)) c
  · have q1 : (L + (20 : Int32)).toInt ≤ 4000 := c_nlt q
    omega
theorem hr0_i {L r : Int32} (hL : 0 ≤ L.toInt ∧ L.toInt ≤ 4000) (h : r = f_hr L) (c : r = (0 : Int32)) : 3980 < L.toInt := by
  have e : (L + (20 : Int32)).toInt = L.toInt + 20 := ai_ rfl (by decide) (by omega) (by omega)
  by_cases q : (4000 : Int32) < (L + (20 : Int32))
  · have q1 : 4000 < (L + (20 : Int32)).toInt := c_lt q
    omega
  · exact absurd (c.symm.trans (h.trans (if_neg q))) (by decide)
def P_feed (L r u : Int32) : Prop := (L.toInt ≤ 3980 → (r.toInt = L.toInt + 20 ∧ u.toInt = L.toInt + 20)) ∧ (3980 < L.toInt → (r.toInt = -1 ∧ u.toInt = L.toInt))
theorem fA {L u : Int32} (h : L.toInt ≤ 3980) (e : u.toInt = L.toInt + 20) : P_feed L u u := ⟨fun _ => ⟨e, e⟩, fun q => by exfalso; omega⟩
theorem fB {L : Int32} (h : 3980 < L.toInt) : P_feed L (-1 : Int32) L := ⟨fun q => by exfalso; omega, fun _ => ⟨by decide, rfl⟩⟩
def P_end (L n r u : Int32) : Prop := ((0 ≤ n.toInt ∧ n.toInt ≤ 20 ∧ 20 ≤ L.toInt) → (r.toInt = L.toInt - 20 + n.toInt ∧ u.toInt = L.toInt - 20 + n.toInt)) ∧ (¬ (0 ≤ n.toInt ∧ n.toInt ≤ 20 ∧ 20 ≤ L.toInt) → (r.toInt = -1 ∧ u.toInt = L.toInt))
theorem eA {L n v1 v2 : Int32} (h : 0 ≤ n.toInt ∧ n.toInt ≤ 20 ∧ 20 ≤ L.toInt) (h1 : v1 = L - (20 : Int32)) (h2 : v2 = v1 + n) (hL : 0 ≤ L.toInt ∧ L.toInt ≤ 4000) : P_end L n v2 v2 := by
  have e1 : v1.toInt = L.toInt - 20 := si_ h1 (by decide) (by omega) (by omega)
  have e2 : v2.toInt = v1.toInt + n.toInt := ai_ h2 rfl (by omega) (by omega)
  exact ⟨fun _ => by omega, fun q => absurd h q⟩
theorem eB {L n : Int32} (h : ¬ (0 ≤ n.toInt ∧ n.toInt ≤ 20 ∧ 20 ≤ L.toInt)) : P_end L n (-1 : Int32) L := ⟨fun q => absurd q h, fun _ => ⟨by decide, rfl⟩⟩

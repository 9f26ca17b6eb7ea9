theorem ak {args : Array Value} {s : State} {ty : FieldType} (h : (Cond.arrayClass ty).before args s = true) (hra : ∀ c, s.vm.findClass ("[" ++ ty.toString) = some c → va_RA s c ty) : ∃ cA : ClassId, ArrOfT s cA ty ∧ va_RA s cA ty := by
  obtain ⟨cA, kA, comp, h1, h2, h3⟩ := Cond.arrayClass_spec h
  exact ⟨cA, fun n z => ⟨fun k h => (by cases h), kA, h2, comp, h3⟩, hra cA h1⟩
theorem nil_P {D : va_G} {cl : List vw_C} {H : Heap} : va_P D cl [] H := fun k q h => by simp at h
theorem nil_D {A : Nat → Prop} : va_D A [] := ⟨fun i j p q h => by simp at h, fun k q h => by simp at h⟩
/-! THE CLAIM OUT OF ONE WALK OF THE LAW'S BODY. Your part is whole_start (and what it stands on); all else here is the same for every law, but numbers. -/
def R_law : String := "SignMachineLaw"
def lw_P (b : Addr) (xs : List Int32) (args : Array Value) (s : State) : Prop := args = #[.ref b] ∧ s.IntsAt b xs ∧ xs.length ≤ 6 ∧ (Jvm.Cond.and given_1 narrow_1).before args s = true
def lw_Q (_ : Array Value) (s : State) (o : Outcome) (t : State) : Prop := o = .returned (some (.int 1)) ∧ Framed s o t [] 600000 7302250
def lw_Z (below : List Frame) (a : Array Value) (s : State) : State → Prop := fun t => ∃ o, t.status = .running ∧ Ended t below o ∧ lw_Q a s o t
/-- the law's own end, with 1 on the stack, nothing written that was there before, its room as the claim has it -/
theorem lw_ret {p : Program} {l : Launch} {e : Env} {s : State} {m : MethodId} {below : List Frame} {meth : Method} {c : Code} {b : Nat} (hx : p.tables.exec = Jvm.exec) (hb : c.code = code) (hr : meth.sig.returnType = ret) (hlocks : meth.locks = false) {pc : Nat} {H : Heap} {ls : Array Slot} (hdg : decode code pc = .ok (.ireturn, 1)) : W p l e room_1 s m #[Value.ref b] below meth c H [] 600000 7302250 (lw_Z below #[Value.ref b] s) (F0 m pc ls [.int 1]) := by
  intro T hT X
  obtain ⟨fs, hret, hrun, hended, hW, hframe⟩ := X.leave (v := some (.int 1)) (hlocks := hlocks) (fun h => by rw [hr] at h; cases h)
  have hmeth' : T.vm.method? m = some meth := X.method'
  refine ⟨T.setFrames fs, ?_, .returned (some (.int 1)), hrun, hended, rfl, ⟨_, rfl⟩, hW, hframe⟩
  jvm_step X.here [X.here.top, hx, hb, hdg, hmeth', hr, ret, narrow_b1]
  (try refine ⟨rfl, ?_⟩); (try refine ⟨rfl, ?_⟩)
  first | (intro acts; rw [hret _ acts rfl rfl rfl]) | rw [hret _ _ rfl rfl rfl]
  exact Steps.refl _
/-- what holds at the law's entry: the machine, the code, the tables' words (any of lw_tbl by 'hts w (by decide +kernel)'), the script of L ints xs at the cell b, what the Statement gives of the start (any of its parts by flat_of_before) -/
def lw_At (p : Program) (s : State) (m : MethodId) (meth : Method) (c : Code) (b L : Nat) (xs : Nat → Int32) : Prop :=
  p.tables.exec = Jvm.exec ∧ c.code = code ∧ meth.sig.returnType = ret ∧ c.maxLocals = 4 ∧ s.vm.findClass R_law = some m.cls ∧ (∀ w ∈ lw_tbl, w.before #[Value.ref b] s = true) ∧ va_X b L xs s s.heap ∧ b < s.heap.size ∧ meth.locks = false ∧ (Jvm.Cond.and given_1 narrow_1).before #[Value.ref b] s = true
set_option maxHeartbeats 4000000 in
set_option maxRecDepth 100000 in
theorem whole_start {p : Program} {e : Env} {s : State} {m : MethodId} {below : List Frame} {meth : Method} {c : Code} (l : Launch) {b L : Nat} {xs : Nat → Int32} (hL : L ≤ 6) (C0 : lw_At p s m meth c b L xs) : W p l e room_1 s m #[Value.ref b] below meth c s.heap [] 0 0 (lw_Z below #[Value.ref b] s) (entryFrame m ([Value.ref b] : List Value).toArray 4) := by
  obtain ⟨hx, hb, hr, hml, hown, hts, hX, hbl, hlocks, hgv⟩ := id C0
  have hk : ∀ w ∈ tb, w.before #[Value.ref b] s = true := fun w h => hts w (List.mem_filter.mp h).1
  have hA : ∀ q : Nat, s.heap.size ≤ q → (fun q : Nat => s.heap.size ≤ q) q := fun _ h => h
  have hbA : ¬ (fun q : Nat => s.heap.size ≤ q) b := Nat.not_le.mpr hbl
  obtain ⟨c0, iS0, hKn0⟩ := u_known (C := "SignMachine") (T := F_S) (N := 2) (n := 2) hk fi_S (hk _ k_135)
  obtain ⟨c1, iS1, hKn1⟩ := u_known (C := "SignMachine$Machine") (T := F_M) (N := 14) (n := 14) hk fi_M (hk _ k_143)
  obtain ⟨c2, iS2, hKn2⟩ := u_known (C := "SignMachine$Tape") (T := F_T) (N := 2) (n := 2) hk fi_T (hk _ k_149)
  obtain ⟨c3, iS3, hKn3⟩ := u_known (C := "SignMachine$Assembler") (T := F_A) (N := 15) (n := 15) hk fi_A (hk _ k_523)
  obtain ⟨c4, iS4, hKn4⟩ := u_known (C := "SignMachine$Source") (T := F_R) (N := 9) (n := 9) hk fi_R (hk _ k_529)
  obtain ⟨c5, iS5, hKn5⟩ := u_known (C := "SignMachine$Names") (T := F_N) (N := 7) (n := 7) hk fi_N (hk _ k_571)
  obtain ⟨c6, iS6, hKn6⟩ := u_known (C := "SignMachine$Output") (T := F_O) (N := 7) (n := 7) hk fi_O (hk _ k_602)
  obtain ⟨D, hKc⟩ : ∃ D : va_G, ∀ (k : Nat) (q : vw_C), classes[k]? = some q → u_Kn s q.1 q.2.1 q.2.2 (D.1 k) (D.2 k) := by
    refine ⟨(fun k => if k = 0 then c0 else if k = 1 then c1 else if k = 2 then c2 else if k = 3 then c3 else if k = 4 then c4 else if k = 5 then c5 else c6, fun k => if k = 0 then iS0 else if k = 1 then iS1 else if k = 2 then iS2 else if k = 3 then iS3 else if k = 4 then iS4 else if k = 5 then iS5 else iS6), ?_⟩
    intro k q hq
    match k, hq with
    | 0, hq => cases hq; exact hKn0
    | 1, hq => cases hq; exact hKn1
    | 2, hq => cases hq; exact hKn2
    | 3, hq => cases hq; exact hKn3
    | 4, hq => cases hq; exact hKn4
    | 5, hq => cases hq; exact hKn5
    | 6, hq => cases hq; exact hKn6
    | k + 7, hq => simp [classes] at hq
  obtain ⟨cI, hcI⟩ := ak (hk _ k_162) (fun _ h => h)
  obtain ⟨cJ, hcJ⟩ := ak (hk _ k_599) (fun _ h => h)
  obtain ⟨cZ, hcZ⟩ := ak (hk _ k_600) (fun _ h => h)
  obtain ⟨cB, hcB⟩ := ak (hk _ k_569) (fun _ h => h)
  have hK : KK D cI cJ cZ cB s := by
    refine ⟨⟨hKc, fun k q h => ?_⟩, fun w hw => ?_⟩
    · match k, h with
      | 0, h => cases h; exact hcI
      | 1, h => cases h; exact hcJ
      | 2, h => cases h; exact hcZ
      | 3, h => cases h; exact hcB
      | k + 4, h => simp [tys4] at h
    · have h1 := List.mem_filter.mp hw
      have h2 := h1.2
      have h3 := hts w h1.1
      cases w <;> first | exact va_Nw.of rfl h3 | exact absurd h2 (by simp [isN])
  have hS : va_S (fun q : Nat => s.heap.size ≤ q) s.heap s.heap [] := va_S.rf
  have hP : va_P D classes [] s.heap := nil_P
  have hD : va_D (fun q : Nat => s.heap.size ≤ q) [] := nil_D
  have hl := lv_entry ([.ref b]) (n := 4) (Nat.le_of_ble_eq_true rfl)
  rw [lg_entry_eq]
  generalize (lg_sl ([.ref b]) ++ List.replicate (4 - (lg_sl ([.ref b])).length) Slot.unset).toArray = ls at hl ⊢
  have hl : lv_has ls 4 [(0, .ref b)] := hl
  refine va_new (ci := 0) (fs := [.null, .null]) (C := "SignMachine") (T := F_S) (N := 2) hx hb hk fi_S ft_S ft_S_ok hown (hk _ k_134) (hk _ k_135) (hk _ k_116) hK.1 hP hD hS hA rfl (by decide +kernel) (Nat.le_of_ble_eq_true rfl) (Nat.le_of_ble_eq_true rfl) d_law_0 (fun o0 H hP hD hS => ?_)
  have hP : va_P D classes ((wS0 cI cJ cZ cB o0 )) H := hP
  have hD : va_D (fun q : Nat => s.heap.size ≤ q) ((wS0 cI cJ cZ cB o0 )) := hD
  refine W.widen (k := 1) (n := 2) (by decide) (by decide) ?_
  refine lv_dup hx hb d_law_3 rfl ?_
  have hPc := hP.sub (ws' := (wS0 cI cJ cZ cB o0 )) [0] rfl
  have hDc := hD.sub (ws' := (wS0 cI cJ cZ cB o0 )) [0] (by decide) rfl
  have hFc := va_free (wc := (wS0 cI cJ cZ cB o0 )) hD hS hA [0] rfl
  refine va_callv (va_runI (As := []) (rest := [.ref o0]) ⟨hx, hb, hml, hown, hk⟩ (c_S_init_1 l D cI cJ cZ cB o0 H.size ) (iP_S_init_1 hk k_136 ⟨Nat.le_of_ble_eq_true rfl, Nat.le_of_ble_eq_true rfl⟩) (pM_i hK hPc hDc) rfl rfl hl.1 rfl (lv_room (Nat.le_of_ble_eq_true rfl)) d_law_4 ⟨Nat.le_of_ble_eq_true rfl, Nat.le_of_ble_eq_true rfl⟩) hS (fun q _ h => hFc q h) hFc (fun u t H locs ht hvm hw hB hz1 hk1 hS => ?_)
  obtain ⟨o0_1, o0_2, o0_3, o0_4, o0_5⟩ := u
  obtain ⟨hP1, hD1⟩ := hB
  rw [ht] at hP1
  obtain ⟨hP, hD⟩ := va_join (wr := []) (w1 := (wS10 cI cJ cZ cB o0 o0_1 o0_2 o0_3 o0_4 o0_5 (0 : Int32) (0 : Int32) (0 : Int32) (0 : Int32) (0 : Int32) (0 : Int32) (0 : Int32) (0 : Int32) (0 : Int32) (0 : Int32) (fun _ => 0) (fun _ => 0) (0 : Int32) (0 : Int32))) hP hD [0] [] rfl rfl (by decide) (by decide) hk1 hFc hP1 hD1
  have hP : va_P D classes ((wS10 cI cJ cZ cB o0 o0_1 o0_2 o0_3 o0_4 o0_5 (0 : Int32) (0 : Int32) (0 : Int32) (0 : Int32) (0 : Int32) (0 : Int32) (0 : Int32) (0 : Int32) (0 : Int32) (0 : Int32) (fun _ => 0) (fun _ => 0) (0 : Int32) (0 : Int32))) H := hP
  have hD : va_D (fun q : Nat => s.heap.size ≤ q) ((wS10 cI cJ cZ cB o0 o0_1 o0_2 o0_3 o0_4 o0_5 (0 : Int32) (0 : Int32) (0 : Int32) (0 : Int32) (0 : Int32) (0 : Int32) (0 : Int32) (0 : Int32) (0 : Int32) (0 : Int32) (fun _ => 0) (fun _ => 0) (0 : Int32) (0 : Int32))) := hD
  refine W.widen (k := 6) (n := 4029) (by decide) (by decide) ?_
  refine lv_astore_n (lv' := [(1, .ref o0), (0, .ref b)]) hx hb d_law_7 rfl hl (by decide) rfl (fun ls hl => ?_)
  sorry

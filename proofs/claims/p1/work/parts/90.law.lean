theorem ak {args : Array Value} {s : State} {ty : FieldType} (h : (Cond.arrayClass ty).before args s = true) (hra : ∀ c, s.vm.findClass ("[" ++ ty.toString) = some c → va_RA s c ty) : ∃ cA : ClassId, ArrOfT s cA ty ∧ va_RA s cA ty := by
  obtain ⟨cA, kA, comp, h1, h2, h3⟩ := Cond.arrayClass_spec h
  exact ⟨cA, fun n z => ⟨fun k h => (by cases h), kA, h2, comp, h3⟩, hra cA h1⟩
theorem nil_P {D : va_G} {cl : List vw_C} {H : Heap} : va_P D cl [] H := fun k q h => by simp at h
theorem nil_D {A : Nat → Prop} : va_D A [] := ⟨fun i j p q h => by simp at h, fun k q h => by simp at h⟩
theorem q_ad {x : Int32} : bI (f_M_isAddress x) = 0 ↔ ¬ (0 ≤ x.toInt ∧ x.toInt ≤ 3999) := by
  rw [bI_0]; unfold f_M_isAddress
  simp only [Int32.lt_iff_toInt_lt, Int32.le_iff_toInt_le, show (0 : Int32).toInt = 0 from rfl, show (4000 : Int32).toInt = 4000 from rfl]
  repeat' split
  all_goals simp
  all_goals omega
theorem q_rg {x : Int32} : bI (f_M_isRegister x) = 0 ↔ ¬ (0 ≤ x.toInt ∧ x.toInt ≤ 8) := by
  rw [bI_0]; unfold f_M_isRegister
  simp only [Int32.lt_iff_toInt_lt, Int32.le_iff_toInt_le, show (0 : Int32).toInt = 0 from rfl, show (9 : Int32).toInt = 9 from rfl]
  repeat' split
  all_goals simp
  all_goals omega
theorem q_tw {x y : Int32} : bI (f_T_isWord x y) = 0 ↔ ¬ ((0 ≤ x.toInt ∧ x.toInt ≤ 39) ∧ (0 ≤ y.toInt ∧ y.toInt ≤ 99)) := by
  rw [bI_0]; unfold f_T_isWord
  simp only [Int32.lt_iff_toInt_lt, Int32.le_iff_toInt_le, show (0 : Int32).toInt = 0 from rfl, show (40 : Int32).toInt = 40 from rfl, show (100 : Int32).toInt = 100 from rfl]
  repeat' split
  all_goals simp
  all_goals omega
theorem q_ww {x y : Int32} : bI (f_W_isWord x y) = 0 ↔ ¬ ((0 ≤ x.toInt ∧ x.toInt ≤ 1) ∧ (0 ≤ y.toInt ∧ y.toInt ≤ 1073741823)) := by
  rw [bI_0]; unfold f_W_isWord
  simp only [Int32.lt_iff_toInt_lt, Int32.le_iff_toInt_le, ← Int32.toInt_inj, show (0 : Int32).toInt = 0 from rfl, show (1 : Int32).toInt = 1 from rfl, show (1073741823 : Int32).toInt = 1073741823 from rfl]
  repeat' split
  all_goals simp
  all_goals omega
theorem q_ix {x : Int32} : bI (f_M_isIndex x) = 0 ↔ ¬ (1 ≤ x.toInt ∧ x.toInt ≤ 6) := by
  rw [bI_0]; unfold f_M_isIndex
  simp only [Int32.lt_iff_toInt_lt, show (1 : Int32).toInt = 1 from rfl, show (6 : Int32).toInt = 6 from rfl]
  repeat' split
  all_goals simp
  all_goals omega
theorem q_sh {x : Int32} : bI (f_M_isShort x) = 0 ↔ ¬ ((1 ≤ x.toInt ∧ x.toInt ≤ 6) ∨ x.toInt = 8) := by
  rw [bI_0]; unfold f_M_isShort
  have e8 : x = (8 : Int32) ↔ x.toInt = 8 := Int32.toInt_inj.symm
  simp only [q_ix, e8]
  repeat' split
  all_goals simp
  all_goals omega
theorem q_xs {x : Int32} : bI (f_X_isShort x) = 0 ↔ (x.toInt = 0 ∨ x.toInt = 7) := by
  rw [bI_0]; unfold f_X_isShort
  simp only [← Int32.toInt_inj, show (0 : Int32).toInt = 0 from rfl, show (7 : Int32).toInt = 7 from rfl]
  repeat' split
  all_goals simp
  all_goals omega
theorem qx {x : Int32} {b c : Int64} {B C : Int} (h1 : b.toInt = B) (h2 : c.toInt = C) : bI (f_X_isIn x.toInt64 b c) = 0 ↔ ¬ (B ≤ x.toInt ∧ x.toInt ≤ C) := by subst h1; subst h2; exact xin
theorem ie {p q : Prop} {_ : Decidable p} {_ : Decidable q} {a b : Int32} (h : p ↔ q) : (if p then a else b) = if q then a else b := by
  by_cases c : p
  · rw [if_pos c, if_pos (h.mp c)]
  · rw [if_neg c, if_neg (fun d => c (h.mpr d))]
theorem e_poke (a1 a2 a3 : Int32) : f_S_poke_1 a1 a2 a3 = f_X_poke_1 a1 a2 a3 := by
  unfold f_S_poke_1 f_X_poke_1
  simp only [q_ad, q_ww, qx (b := 0) (c := 3999) (B := 0) (C := 3999) rfl rfl, qx (b := 0) (c := 1) (B := 0) (C := 1) rfl rfl, qx (b := 0) (c := 1073741823) (B := 0) (C := 1073741823) rfl rfl]
  repeat' split
  all_goals first | rfl | (exfalso; omega)
theorem e_peekSign (a1 : Int32) : f_S_peekSign_1 a1 = f_X_peekSign_1 a1 := by
  unfold f_S_peekSign_1 f_X_peekSign_1
  rw [show f_W_sign (f_M_wordAt_1 a1) = 0 from by rw [show f_M_wordAt_1 a1 = 0 from by unfold f_M_wordAt_1; (repeat' split) <;> rfl]; rfl]
  exact ie (q_ad.trans (qx (b := 0) (c := 3999) (B := 0) (C := 3999) rfl rfl).symm)
theorem e_peekSize (a1 : Int32) : f_S_peekSize_1 a1 = f_X_peekSize_1 a1 := by
  unfold f_S_peekSize_1 f_X_peekSize_1
  rw [show f_W_size (f_M_wordAt_1 a1) = 0 from by rw [show f_M_wordAt_1 a1 = 0 from by unfold f_M_wordAt_1; (repeat' split) <;> rfl]; rfl]
  exact ie (q_ad.trans (qx (b := 0) (c := 3999) (B := 0) (C := 3999) rfl rfl).symm)
theorem e_registerSign (a1 : Int32) : f_S_registerSign_1 a1 = f_X_registerSign_1 a1 := by
  unfold f_S_registerSign_1 f_X_registerSign_1
  rw [show f_W_sign (f_M_register_1 a1) = 0 from by rw [show f_M_register_1 a1 = 0 from by unfold f_M_register_1; (repeat' split) <;> rfl]; rfl]
  exact ie (q_rg.trans (qx (b := 0) (c := 8) (B := 0) (C := 8) rfl rfl).symm)
theorem e_registerSize (a1 : Int32) : f_S_registerSize_1 a1 = f_X_registerSize_1 a1 := by
  unfold f_S_registerSize_1 f_X_registerSize_1
  rw [show f_W_size (f_M_register_1 a1) = 0 from by rw [show f_M_register_1 a1 = 0 from by unfold f_M_register_1; (repeat' split) <;> rfl]; rfl]
  exact ie (q_rg.trans (qx (b := 0) (c := 8) (B := 0) (C := 8) rfl rfl).symm)
theorem e_set (a1 a2 a3 : Int32) : f_S_set_1 a1 a2 a3 = f_X_set_1 a1 a2 a3 := by
  unfold f_S_set_1 f_X_set_1
  have e8 : a1 = (8 : Int32) ↔ a1.toInt = 8 := Int32.toInt_inj.symm
  have e0 : a2 = (0 : Int32) ↔ a2.toInt = 0 := Int32.toInt_inj.symm
  have el : a3 ≤ (4095 : Int32) ↔ a3.toInt ≤ 4095 := Int32.le_iff_toInt_le
  simp only [q_rg, q_ww, q_sh, q_xs, e8, e0, el, qx (b := 0) (c := 8) (B := 0) (C := 8) rfl rfl, qx (b := 0) (c := 1) (B := 0) (C := 1) rfl rfl, qx (b := 0) (c := 0) (B := 0) (C := 0) rfl rfl, qx (b := 0) (c := 4095) (B := 0) (C := 4095) rfl rfl, qx (b := 0) (c := 1073741823) (B := 0) (C := 1073741823) rfl rfl]
  repeat' split
  all_goals first | rfl | (exfalso; omega)
theorem e_state (a1 : Int32) : f_S_state_1 a1 = f_X_state_1 a1 := rfl
theorem e_go (a1 : Int32) : f_S_go_1 a1 = f_X_go_1 a1 := by
  unfold f_S_go_1 f_X_go_1
  by_cases h : bI (f_M_isAddress a1) = 0
  · have h2 := (qx (x := a1) (b := 0) (c := 3999) (B := 0) (C := 3999) rfl rfl).mpr (q_ad.mp h)
    rw [if_pos h, if_pos h2, h2]
  · have h2 : ¬ bI (f_X_isIn a1.toInt64 0 3999) = 0 := fun q => h (q_ad.mpr ((qx (b := 0) (c := 3999) (B := 0) (C := 3999) rfl rfl).mp q))
    rw [if_neg h, if_neg h2, bI_n.mp h2]; rfl
theorem e_tape (a1 a2 a3 : Int32) : f_S_tape_1 a1 a2 a3 = f_X_tape_1 a1 a2 a3 := by
  unfold f_S_tape_1 f_X_tape_1
  have e0 : a1 < (0 : Int32) ↔ a1.toInt < 0 := Int32.lt_iff_toInt_lt
  have e1 : (1 : Int32) < a1 ↔ 1 < a1.toInt := Int32.lt_iff_toInt_lt
  simp only [q_tw, e0, e1, qx (b := 0) (c := 39) (B := 0) (C := 39) rfl rfl, qx (b := 0) (c := 1) (B := 0) (C := 1) rfl rfl, qx (b := 0) (c := 99) (B := 0) (C := 99) rfl rfl]
  repeat' split
  all_goals first | rfl | (exfalso; omega)
theorem e_step : f_S_step_1 = f_X_step_1 := rfl
theorem e_run (a1 : Int32) : f_run a1 = f_runX a1 := by
  unfold f_run f_runX
  have e0 : a1 < (1 : Int32) ↔ a1.toInt < 1 := Int32.lt_iff_toInt_lt
  have e1 : a1 ≤ (20000 : Int32) ↔ a1.toInt ≤ 20000 := Int32.le_iff_toInt_le
  simp only [e0, e1, qx (b := 1) (c := 20000) (B := 1) (C := 20000) rfl rfl]
  repeat' split
  all_goals first | rfl | (exfalso; omega)
theorem e_feed (a1 a2 a3 a4 a5 : Int32) : f_S_feed_1 a1 a2 a3 a4 a5 = f_X_feed_1 a1 a2 a3 a4 a5 := rfl
theorem e_end (a1 : Int32) : f_S_end_1 a1 = f_X_end_1 a1 := by
  unfold f_S_end_1 f_X_end_1
  repeat' split
  all_goals rfl
theorem e_assemble : f_S_assemble_1 = f_X_assemble_1 := rfl
theorem e_about (a1 : Int32) : f_S_about_1 a1 = f_X_about_1 a1 := rfl
/-! THE CLAIM OUT OF ONE WALK OF THE LAW'S BODY. Your part is whole_start (and what it stands on); all else here is the same for every law, but numbers. -/
def R_law : String := "SignMachineLaw"
def lw_P (b : Addr) (xs : List Int32) (args : Array Value) (s : State) : Prop := args = #[.ref b] ∧ s.IntsAt b xs ∧ xs.length ≤ 6 ∧ (Jvm.Cond.and given_1 narrow_1).before args s = true
def lw_Q (_ : Array Value) (s : State) (o : Outcome) (t : State) : Prop := o = .returned (some (.int 1)) ∧ Framed s o t [] 600000 7302250
def lw_Z (below : List Frame) (a : Array Value) (s : State) : State → Prop := fun t => ∃ o, t.status = .running ∧ Ended t below o ∧ lw_Q a s o t
/-- the law's own end, with 1 on the stack, nothing written that was there before, its room as the claim has it -/
theorem lw_ret {p : Program} {l : Launch} {e : Env} {s : State} {m : MethodId} {below : List Frame} {meth : Method} {c : Code} {b : Nat} (hx : p.tables.exec = Jvm.exec) (hb : c.code = code) (hr : meth.sig.returnType = ret) (hlocks : meth.locks = false) {pc : Nat} {H : Heap} {ls : Array Slot} (hdg : decode code pc = .ok (.ireturn, 1)) : W p l e room_1 s m #[Value.ref b] below meth c H [] 600000 7302250 (lw_Z below #[Value.ref b] s) (F0 m pc ls [.int 1]) := by
  intro T hT X
  obtain ⟨fs, hret, hrun, hended, hW, hframe⟩ := X.leave (v := some (.int 1)) (hlocks := hlocks) (fun h => by rw [hr] at h; cases h)
  have hmeth' : T.vm.method? m = some meth := X.method'
  refine ⟨T.setFrames fs, ?_, .returned (some (.int 1)), hrun, hended, rfl, ⟨_, rfl⟩, hW, hframe⟩
  jvm_step X.here [X.here.top, hx, hb, hdg, hmeth', hr, ret, narrow_b1]
  (try refine ⟨rfl, ?_⟩); (try refine ⟨rfl, ?_⟩)
  first | (intro acts; rw [hret _ acts rfl rfl rfl]) | rw [hret _ _ rfl rfl rfl]
  exact Steps.refl _
/-- what holds at the law's entry: the machine, the code, the tables' words (any of lw_tbl by 'hts w (by decide +kernel)'), the script of L ints xs at the cell b, what the Statement gives of the start (any of its parts by flat_of_before) -/
def lw_At (p : Program) (s : State) (m : MethodId) (meth : Method) (c : Code) (b L : Nat) (xs : Nat → Int32) : Prop :=
  p.tables.exec = Jvm.exec ∧ c.code = code ∧ meth.sig.returnType = ret ∧ c.maxLocals = 4 ∧ s.vm.findClass R_law = some m.cls ∧ (∀ w ∈ lw_tbl, w.before #[Value.ref b] s = true) ∧ va_X b L xs s s.heap ∧ b < s.heap.size ∧ meth.locks = false ∧ (Jvm.Cond.and given_1 narrow_1).before #[Value.ref b] s = true
set_option maxHeartbeats 4000000 in
set_option maxRecDepth 100000 in
theorem whole_start {p : Program} {e : Env} {s : State} {m : MethodId} {below : List Frame} {meth : Method} {c : Code} (l : Launch) {b L : Nat} {xs : Nat → Int32} (hL : L ≤ 6) (C0 : lw_At p s m meth c b L xs) : W p l e room_1 s m #[Value.ref b] below meth c s.heap [] 0 0 (lw_Z below #[Value.ref b] s) (entryFrame m ([Value.ref b] : List Value).toArray 4) := by
  obtain ⟨hx, hb, hr, hml, hown, hts, hX, hbl, hlocks, hgv⟩ := id C0
  have hk : ∀ w ∈ tb, w.before #[Value.ref b] s = true := fun w h => hts w (List.mem_filter.mp h).1
  have hA : ∀ q : Nat, s.heap.size ≤ q → (fun q : Nat => s.heap.size ≤ q) q := fun _ h => h
  have hbA : ¬ (fun q : Nat => s.heap.size ≤ q) b := Nat.not_le.mpr hbl
  obtain ⟨c0, iS0, hKn0⟩ := u_known (C := "SignMachine") (T := F_S) (N := 2) (n := 2) hk fi_S (hk _ k_135)
  obtain ⟨c1, iS1, hKn1⟩ := u_known (C := "SignMachine$Machine") (T := F_M) (N := 14) (n := 14) hk fi_M (hk _ k_143)
  obtain ⟨c2, iS2, hKn2⟩ := u_known (C := "SignMachine$Tape") (T := F_T) (N := 2) (n := 2) hk fi_T (hk _ k_149)
  obtain ⟨c3, iS3, hKn3⟩ := u_known (C := "SignMachine$Assembler") (T := F_A) (N := 15) (n := 15) hk fi_A (hk _ k_523)
  obtain ⟨c4, iS4, hKn4⟩ := u_known (C := "SignMachine$Source") (T := F_R) (N := 9) (n := 9) hk fi_R (hk _ k_529)
  obtain ⟨c5, iS5, hKn5⟩ := u_known (C := "SignMachine$Names") (T := F_N) (N := 7) (n := 7) hk fi_N (hk _ k_571)
  obtain ⟨c6, iS6, hKn6⟩ := u_known (C := "SignMachine$Output") (T := F_O) (N := 7) (n := 7) hk fi_O (hk _ k_602)
  obtain ⟨c7, iS7, hKn7⟩ := u_known (C := "SignMachineModel") (T := F_X) (N := 64) (n := 64) hk fi_X (hk _ k_1116)
  obtain ⟨D, hKc⟩ : ∃ D : va_G, ∀ (k : Nat) (q : vw_C), classes[k]? = some q → u_Kn s q.1 q.2.1 q.2.2 (D.1 k) (D.2 k) := by
    refine ⟨(fun k => if k = 0 then c0 else if k = 1 then c1 else if k = 2 then c2 else if k = 3 then c3 else if k = 4 then c4 else if k = 5 then c5 else if k = 6 then c6 else c7, fun k => if k = 0 then iS0 else if k = 1 then iS1 else if k = 2 then iS2 else if k = 3 then iS3 else if k = 4 then iS4 else if k = 5 then iS5 else if k = 6 then iS6 else iS7), ?_⟩
    intro k q hq
    match k, hq with
    | 0, hq => cases hq; exact hKn0
    | 1, hq => cases hq; exact hKn1
    | 2, hq => cases hq; exact hKn2
    | 3, hq => cases hq; exact hKn3
    | 4, hq => cases hq; exact hKn4
    | 5, hq => cases hq; exact hKn5
    | 6, hq => cases hq; exact hKn6
    | 7, hq => cases hq; exact hKn7
    | k + 8, hq => simp [classes] at hq
  obtain ⟨cI, hcI⟩ := ak (hk _ k_162) (fun _ h => h)
  obtain ⟨cJ, hcJ⟩ := ak (hk _ k_599) (fun _ h => h)
  obtain ⟨cZ, hcZ⟩ := ak (hk _ k_600) (fun _ h => h)
  obtain ⟨cB, hcB⟩ := ak (hk _ k_569) (fun _ h => h)
  have hK : KK D cI cJ cZ cB s := by
    refine ⟨⟨hKc, fun k q h => ?_⟩, fun w hw => ?_⟩
    · match k, h with
      | 0, h => cases h; exact hcI
      | 1, h => cases h; exact hcJ
      | 2, h => cases h; exact hcZ
      | 3, h => cases h; exact hcB
      | k + 4, h => simp [tys4] at h
    · have h1 := List.mem_filter.mp hw
      have h2 := h1.2
      have h3 := hts w h1.1
      cases w <;> first | exact va_Nw.of rfl h3 | exact absurd h2 (by simp [isN])
  have hS : va_S (fun q : Nat => s.heap.size ≤ q) s.heap s.heap [] := va_S.rf
  have hP : va_P D classes [] s.heap := nil_P
  have hD : va_D (fun q : Nat => s.heap.size ≤ q) [] := nil_D
  have hl := lv_entry ([.ref b]) (n := 4) (Nat.le_of_ble_eq_true rfl)
  rw [lg_entry_eq]
  generalize (lg_sl ([.ref b]) ++ List.replicate (4 - (lg_sl ([.ref b])).length) Slot.unset).toArray = ls at hl ⊢
  have hl : lv_has ls 4 [(0, .ref b)] := hl
  refine va_new (ci := 0) (fs := [.null, .null]) (C := "SignMachine") (T := F_S) (N := 2) hx hb hk fi_S ft_S ft_S_ok hown (hk _ k_134) (hk _ k_135) (hk _ k_116) hK.1 hP hD hS hA rfl (by decide +kernel) (Nat.le_of_ble_eq_true rfl) (Nat.le_of_ble_eq_true rfl) d_law_0 (fun o0 H hP hD hS => ?_)
  have hP : va_P D classes ((wS0 cI cJ cZ cB o0 )) H := hP
  have hD : va_D (fun q : Nat => s.heap.size ≤ q) ((wS0 cI cJ cZ cB o0 )) := hD
  refine W.widen (k := 1) (n := 2) (by decide) (by decide) ?_
  refine lv_dup hx hb d_law_3 rfl ?_
  have hPc := hP.sub (ws' := (wS0 cI cJ cZ cB o0 )) [0] rfl
  have hDc := hD.sub (ws' := (wS0 cI cJ cZ cB o0 )) [0] (by decide) rfl
  have hFc := va_free (wc := (wS0 cI cJ cZ cB o0 )) hD hS hA [0] rfl
  refine va_callv (va_runI (As := []) (rest := [.ref o0]) ⟨hx, hb, hml, hown, hk⟩ (c_S_init_1 l D cI cJ cZ cB o0 H.size ) (iP_S_init_1 hk k_136 ⟨Nat.le_of_ble_eq_true rfl, Nat.le_of_ble_eq_true rfl⟩) (pM_i hK hPc hDc) rfl rfl hl.1 rfl (lv_room (Nat.le_of_ble_eq_true rfl)) d_law_4 ⟨Nat.le_of_ble_eq_true rfl, Nat.le_of_ble_eq_true rfl⟩) hS (fun q _ h => hFc q h) hFc (fun u t H locs ht hvm hw hB hz1 hk1 hS => ?_)
  obtain ⟨o0_1, o0_2, o0_3, o0_4, o0_5⟩ := u
  obtain ⟨hP1, hD1⟩ := hB
  rw [ht] at hP1
  obtain ⟨hP, hD⟩ := va_join (wr := []) (w1 := (wS10 cI cJ cZ cB o0 o0_1 o0_2 o0_3 o0_4 o0_5 (0 : Int32) (0 : Int32) (0 : Int32) (0 : Int32) (0 : Int32) (0 : Int32) (0 : Int32) (0 : Int32) (0 : Int32) (0 : Int32) (fun _ => 0) (fun _ => 0) (0 : Int32) (0 : Int32))) hP hD [0] [] rfl rfl (by decide) (by decide) hk1 hFc hP1 hD1
  have hP : va_P D classes ((wS10 cI cJ cZ cB o0 o0_1 o0_2 o0_3 o0_4 o0_5 (0 : Int32) (0 : Int32) (0 : Int32) (0 : Int32) (0 : Int32) (0 : Int32) (0 : Int32) (0 : Int32) (0 : Int32) (0 : Int32) (fun _ => 0) (fun _ => 0) (0 : Int32) (0 : Int32))) H := hP
  have hD : va_D (fun q : Nat => s.heap.size ≤ q) ((wS10 cI cJ cZ cB o0 o0_1 o0_2 o0_3 o0_4 o0_5 (0 : Int32) (0 : Int32) (0 : Int32) (0 : Int32) (0 : Int32) (0 : Int32) (0 : Int32) (0 : Int32) (0 : Int32) (0 : Int32) (fun _ => 0) (fun _ => 0) (0 : Int32) (0 : Int32))) := hD
  refine W.widen (k := 6) (n := 4029) (by decide) (by decide) ?_
  refine lv_astore_n (lv' := [(1, .ref o0), (0, .ref b)]) hx hb d_law_7 rfl hl (by decide) rfl (fun ls hl => ?_)
  refine va_new (ci := 7) (fs := [.null, .null, .null, .null, .int 0, .int 0, .int 0, .int 0, .int 0, .null, .null, .null, .int 0, .int 0, .int 0, .int 0, .int 0, .int 0, .int 0, .null, .null, .null, .int 0, .int 0, .int 0, .int 0, .int 0, .int 0, .int 0, .int 0, .int 0, .int 0, .int 0, .null, .null, .null, .int 0, .null, .null, .int 0, .long 0, .null, .null, .null, .int 0, .null, .null, .null, .null, .int 0, .null, .int 0, .null, .int 0, .int 0, .long 0, .int 0, .int 0, .int 0, .int 0, .int 0, .int 0, .long 0, .null]) (C := "SignMachineModel") (T := F_X) (N := 64) hx hb hk fi_X ft_X ft_X_ok hown (hk _ k_1115) (hk _ k_1116) (hk _ k_119) hK.1 hP hD hS hA rfl (by decide +kernel) (Nat.le_of_ble_eq_true rfl) (Nat.le_of_ble_eq_true rfl) d_law_8 (fun o1 H hP hD hS => ?_)
  have hP : va_P D classes ((wS10 cI cJ cZ cB o0 o0_1 o0_2 o0_3 o0_4 o0_5 (0 : Int32) (0 : Int32) (0 : Int32) (0 : Int32) (0 : Int32) (0 : Int32) (0 : Int32) (0 : Int32) (0 : Int32) (0 : Int32) (fun _ => 0) (fun _ => 0) (0 : Int32) (0 : Int32)) ++ (wS43 cI cJ cZ cB o1 (0 : Int32) (0 : Int32) (0 : Int32) (0 : Int32) (0 : Int32) (0 : Int32) (0 : Int32) (0 : Int32) (0 : Int32) (0 : Int32) (0 : Int32) (0 : Int32) (0 : Int32) (0 : Int32) (0 : Int32) (0 : Int32) (0 : Int32) (0 : Int32) (0 : Int32) (0 : Int32) (0 : Int32) (0 : Int32) (0 : Int32) (0 : Int32) (0 : Int32) (0 : Int64) (0 : Int32) (0 : Int32) (0 : Int32) (0 : Int32) (0 : Int32) (0 : Int64) (0 : Int32) (0 : Int32) (0 : Int32) (0 : Int32) (0 : Int32) (0 : Int32) (0 : Int64))) H := hP
  have hD : va_D (fun q : Nat => s.heap.size ≤ q) ((wS10 cI cJ cZ cB o0 o0_1 o0_2 o0_3 o0_4 o0_5 (0 : Int32) (0 : Int32) (0 : Int32) (0 : Int32) (0 : Int32) (0 : Int32) (0 : Int32) (0 : Int32) (0 : Int32) (0 : Int32) (fun _ => 0) (fun _ => 0) (0 : Int32) (0 : Int32)) ++ (wS43 cI cJ cZ cB o1 (0 : Int32) (0 : Int32) (0 : Int32) (0 : Int32) (0 : Int32) (0 : Int32) (0 : Int32) (0 : Int32) (0 : Int32) (0 : Int32) (0 : Int32) (0 : Int32) (0 : Int32) (0 : Int32) (0 : Int32) (0 : Int32) (0 : Int32) (0 : Int32) (0 : Int32) (0 : Int32) (0 : Int32) (0 : Int32) (0 : Int32) (0 : Int32) (0 : Int32) (0 : Int64) (0 : Int32) (0 : Int32) (0 : Int32) (0 : Int32) (0 : Int32) (0 : Int64) (0 : Int32) (0 : Int32) (0 : Int32) (0 : Int32) (0 : Int32) (0 : Int32) (0 : Int64))) := hD
  refine W.widen (k := 7) (n := 4093) (by decide) (by decide) ?_
  refine lv_dup hx hb d_law_11 rfl ?_
  have hPc := hP.sub (ws' := (wS43 cI cJ cZ cB o1 (0 : Int32) (0 : Int32) (0 : Int32) (0 : Int32) (0 : Int32) (0 : Int32) (0 : Int32) (0 : Int32) (0 : Int32) (0 : Int32) (0 : Int32) (0 : Int32) (0 : Int32) (0 : Int32) (0 : Int32) (0 : Int32) (0 : Int32) (0 : Int32) (0 : Int32) (0 : Int32) (0 : Int32) (0 : Int32) (0 : Int32) (0 : Int32) (0 : Int32) (0 : Int64) (0 : Int32) (0 : Int32) (0 : Int32) (0 : Int32) (0 : Int32) (0 : Int64) (0 : Int32) (0 : Int32) (0 : Int32) (0 : Int32) (0 : Int32) (0 : Int32) (0 : Int64))) [6] rfl
  have hDc := hD.sub (ws' := (wS43 cI cJ cZ cB o1 (0 : Int32) (0 : Int32) (0 : Int32) (0 : Int32) (0 : Int32) (0 : Int32) (0 : Int32) (0 : Int32) (0 : Int32) (0 : Int32) (0 : Int32) (0 : Int32) (0 : Int32) (0 : Int32) (0 : Int32) (0 : Int32) (0 : Int32) (0 : Int32) (0 : Int32) (0 : Int32) (0 : Int32) (0 : Int32) (0 : Int32) (0 : Int32) (0 : Int32) (0 : Int64) (0 : Int32) (0 : Int32) (0 : Int32) (0 : Int32) (0 : Int32) (0 : Int64) (0 : Int32) (0 : Int32) (0 : Int32) (0 : Int32) (0 : Int32) (0 : Int32) (0 : Int64))) [6] (by decide) rfl
  have hFc := va_free (wc := (wS43 cI cJ cZ cB o1 (0 : Int32) (0 : Int32) (0 : Int32) (0 : Int32) (0 : Int32) (0 : Int32) (0 : Int32) (0 : Int32) (0 : Int32) (0 : Int32) (0 : Int32) (0 : Int32) (0 : Int32) (0 : Int32) (0 : Int32) (0 : Int32) (0 : Int32) (0 : Int32) (0 : Int32) (0 : Int32) (0 : Int32) (0 : Int32) (0 : Int32) (0 : Int32) (0 : Int32) (0 : Int64) (0 : Int32) (0 : Int32) (0 : Int32) (0 : Int32) (0 : Int32) (0 : Int64) (0 : Int32) (0 : Int32) (0 : Int32) (0 : Int32) (0 : Int32) (0 : Int32) (0 : Int64))) hD hS hA [6] rfl
  refine va_callv (va_runI (As := []) (rest := [.ref o1]) ⟨hx, hb, hml, hown, hk⟩ (c_X_init_1 l D cI cJ cZ cB o1 H.size ) (iP_X_init_1 hk k_1117 ⟨Nat.le_of_ble_eq_true rfl, Nat.le_of_ble_eq_true rfl⟩) (pM_i hK hPc hDc) rfl rfl hl.1 rfl (lv_room (Nat.le_of_ble_eq_true rfl)) d_law_12 ⟨Nat.le_of_ble_eq_true rfl, Nat.le_of_ble_eq_true rfl⟩) hS (fun q _ h => hFc q h) hFc (fun u t H locs ht hvm hw hB hz1 hk1 hS => ?_)
  obtain ⟨o1_1, o1_2, o1_3, o1_4, o1_5, o1_6, o1_7, o1_8, o1_9, o1_10, o1_11, o1_12, o1_13, o1_14, o1_15, o1_16, o1_17, o1_18, o1_19, o1_20, o1_21, o1_22, o1_23, o1_24, o1_25⟩ := u
  obtain ⟨hP1, hD1⟩ := hB
  rw [ht] at hP1
  obtain ⟨hP, hD⟩ := va_join (wr := (wS10 cI cJ cZ cB o0 o0_1 o0_2 o0_3 o0_4 o0_5 (0 : Int32) (0 : Int32) (0 : Int32) (0 : Int32) (0 : Int32) (0 : Int32) (0 : Int32) (0 : Int32) (0 : Int32) (0 : Int32) (fun _ => 0) (fun _ => 0) (0 : Int32) (0 : Int32))) (w1 := (wS93 cI cJ cZ cB o1 o1_1 o1_2 o1_3 o1_4 o1_5 o1_6 o1_7 o1_8 o1_9 o1_10 o1_11 o1_12 o1_13 o1_14 o1_15 o1_16 o1_17 o1_18 o1_19 o1_20 o1_21 o1_22 o1_23 o1_24 o1_25 (0 : Int32) (0 : Int32) (0 : Int32) (0 : Int32) (0 : Int32) (0 : Int32) (0 : Int32) (0 : Int32) (0 : Int32) (0 : Int32) (0 : Int32) (0 : Int32) (0 : Int32) (0 : Int32) (0 : Int32) (0 : Int32) (0 : Int32) (0 : Int32) (0 : Int32) (-1 : Int32) (0 : Int32) (0 : Int32) (0 : Int32) (0 : Int32) (0 : Int32) (0 : Int64) (0 : Int32) (0 : Int32) (0 : Int32) (0 : Int32) (0 : Int32) (0 : Int64) (0 : Int32) (0 : Int32) (0 : Int32) (0 : Int32) (0 : Int32) (0 : Int32) (0 : Int64) (fun _ => 0) (fun _ => 0) (fun _ => 0) (fun _ => 0) (fun _ => 0) (fun _ => 0) (fun _ => 0) (fun _ => 0) (fun _ => 0) (fun _ => 0) (fun _ => 0) (fun _ => 0) (fun _ => 0) (fun _ => 0) (fun _ => 0) (fun _ => 0) (fun _ => 0) (fun _ => 0) (fun _ => 0) (fun _ => 0) (fun _ => 0) (fun _ => 0) (fun _ => 0) (fun _ => 0) (fun _ => 0))) hP hD [6] [0, 1, 2, 3, 4, 5] rfl rfl (by decide) (by decide) hk1 hFc hP1 hD1
  have hP : va_P D classes ((wS10 cI cJ cZ cB o0 o0_1 o0_2 o0_3 o0_4 o0_5 (0 : Int32) (0 : Int32) (0 : Int32) (0 : Int32) (0 : Int32) (0 : Int32) (0 : Int32) (0 : Int32) (0 : Int32) (0 : Int32) (fun _ => 0) (fun _ => 0) (0 : Int32) (0 : Int32)) ++ (wS93 cI cJ cZ cB o1 o1_1 o1_2 o1_3 o1_4 o1_5 o1_6 o1_7 o1_8 o1_9 o1_10 o1_11 o1_12 o1_13 o1_14 o1_15 o1_16 o1_17 o1_18 o1_19 o1_20 o1_21 o1_22 o1_23 o1_24 o1_25 (0 : Int32) (0 : Int32) (0 : Int32) (0 : Int32) (0 : Int32) (0 : Int32) (0 : Int32) (0 : Int32) (0 : Int32) (0 : Int32) (0 : Int32) (0 : Int32) (0 : Int32) (0 : Int32) (0 : Int32) (0 : Int32) (0 : Int32) (0 : Int32) (0 : Int32) (-1 : Int32) (0 : Int32) (0 : Int32) (0 : Int32) (0 : Int32) (0 : Int32) (0 : Int64) (0 : Int32) (0 : Int32) (0 : Int32) (0 : Int32) (0 : Int32) (0 : Int64) (0 : Int32) (0 : Int32) (0 : Int32) (0 : Int32) (0 : Int32) (0 : Int32) (0 : Int64) (fun _ => 0) (fun _ => 0) (fun _ => 0) (fun _ => 0) (fun _ => 0) (fun _ => 0) (fun _ => 0) (fun _ => 0) (fun _ => 0) (fun _ => 0) (fun _ => 0) (fun _ => 0) (fun _ => 0) (fun _ => 0) (fun _ => 0) (fun _ => 0) (fun _ => 0) (fun _ => 0) (fun _ => 0) (fun _ => 0) (fun _ => 0) (fun _ => 0) (fun _ => 0) (fun _ => 0) (fun _ => 0))) H := hP
  have hD : va_D (fun q : Nat => s.heap.size ≤ q) ((wS10 cI cJ cZ cB o0 o0_1 o0_2 o0_3 o0_4 o0_5 (0 : Int32) (0 : Int32) (0 : Int32) (0 : Int32) (0 : Int32) (0 : Int32) (0 : Int32) (0 : Int32) (0 : Int32) (0 : Int32) (fun _ => 0) (fun _ => 0) (0 : Int32) (0 : Int32)) ++ (wS93 cI cJ cZ cB o1 o1_1 o1_2 o1_3 o1_4 o1_5 o1_6 o1_7 o1_8 o1_9 o1_10 o1_11 o1_12 o1_13 o1_14 o1_15 o1_16 o1_17 o1_18 o1_19 o1_20 o1_21 o1_22 o1_23 o1_24 o1_25 (0 : Int32) (0 : Int32) (0 : Int32) (0 : Int32) (0 : Int32) (0 : Int32) (0 : Int32) (0 : Int32) (0 : Int32) (0 : Int32) (0 : Int32) (0 : Int32) (0 : Int32) (0 : Int32) (0 : Int32) (0 : Int32) (0 : Int32) (0 : Int32) (0 : Int32) (-1 : Int32) (0 : Int32) (0 : Int32) (0 : Int32) (0 : Int32) (0 : Int32) (0 : Int64) (0 : Int32) (0 : Int32) (0 : Int32) (0 : Int32) (0 : Int32) (0 : Int64) (0 : Int32) (0 : Int32) (0 : Int32) (0 : Int32) (0 : Int32) (0 : Int32) (0 : Int64) (fun _ => 0) (fun _ => 0) (fun _ => 0) (fun _ => 0) (fun _ => 0) (fun _ => 0) (fun _ => 0) (fun _ => 0) (fun _ => 0) (fun _ => 0) (fun _ => 0) (fun _ => 0) (fun _ => 0) (fun _ => 0) (fun _ => 0) (fun _ => 0) (fun _ => 0) (fun _ => 0) (fun _ => 0) (fun _ => 0) (fun _ => 0) (fun _ => 0) (fun _ => 0) (fun _ => 0) (fun _ => 0))) := hD
  refine W.widen (k := 32) (n := 66087) (by decide) (by decide) ?_
  refine lv_astore_n (lv' := [(2, .ref o1), (1, .ref o0), (0, .ref b)]) hx hb d_law_15 rfl hl (by decide) rfl (fun ls hl => ?_)
  refine lv_iconst (v := 0) hx hb d_law_16 (by decide) ?_
  refine lv_istore_n (lv' := [(3, .int (0 : Int32)), (2, .ref o1), (1, .ref o0), (0, .ref b)]) hx hb d_law_17 rfl hl (by decide) rfl (fun ls hl => ?_)
  refine lv_iload_n hx hb d_law_18 rfl (lv_at hl 0 rfl) ?_
  refine lv_aload_n hx hb d_law_19 rfl (lv_at hl 3 rfl) ?_
  refine va_slen hx hb hX hbl hbA hS d_law_20 ?_
  rcases (show L = 6 ∨ L = 5 ∨ L = 4 ∨ L = 3 ∨ L = 2 ∨ L = 1 ∨ L = 0 by omega) with rfl | rfl | rfl | rfl | rfl | rfl | rfl
  · refine tpi (y := (6 : Int32)) (by decide) ?_
    refine lv_bipush (v := 6) hx hb d_law_21 (by decide) ?_
    refine lv_isub hx hb d_law_23 ?_
    refine tpi (y := (0 : Int32)) (by decide) ?_
    refine lv_icmp_gt (tgt := 539) hx hb d_law_24 (by decide) (fun c1 => absurd c1 (show ¬ (0 : Int32) < (0 : Int32) from (by decide))) (fun c1 => ?_)
    refine lv_aload_n hx hb d_law_27 rfl (lv_at hl 3 rfl) ?_
    refine lv_iload_n hx hb d_law_28 rfl (lv_at hl 0 rfl) ?_
    refine va_sld hx hb hX hbl hbA hS (by unfold vp_in; decide) d_law_29 ?_
    refine tpi (y := (xs 0)) rfl ?_
    refine lv_bipush (v := 15) hx hb d_law_30 (by decide) ?_
    refine lv_iand hx hb d_law_32 ?_
    by_cases c2 : ((xs 0) &&& (15 : Int32)) = (0 : Int32)
    · refine lv_tableIn (off := 75) (tgt := 108) hx hb d_law_33 (by rw [c2]; decide) (by rw [c2]; decide) (by rw [c2]; rfl) (by decide) ?_
      refine lv_aload_n hx hb d_law_108 rfl (lv_at hl 2 rfl) ?_
      refine lv_aload_n hx hb d_law_109 rfl (lv_at hl 3 rfl) ?_
      refine lv_iload_n hx hb d_law_110 rfl (lv_at hl 0 rfl) ?_
      refine lv_iconst (v := 1) hx hb d_law_111 (by decide) ?_
      refine lv_iadd hx hb d_law_112 ?_
      refine tpi (y := (1 : Int32)) (by decide) ?_
      refine va_sld hx hb hX hbl hbA hS (by unfold vp_in; decide) d_law_113 ?_
      refine tpi (y := (xs 1)) rfl ?_
      refine lv_aload_n hx hb d_law_114 rfl (lv_at hl 3 rfl) ?_
      refine lv_iload_n hx hb d_law_115 rfl (lv_at hl 0 rfl) ?_
      refine lv_iconst (v := 2) hx hb d_law_116 (by decide) ?_
      refine lv_iadd hx hb d_law_117 ?_
      refine tpi (y := (2 : Int32)) (by decide) ?_
      refine va_sld hx hb hX hbl hbA hS (by unfold vp_in; decide) d_law_118 ?_
      refine tpi (y := (xs 2)) rfl ?_
      refine lv_aload_n hx hb d_law_119 rfl (lv_at hl 3 rfl) ?_
      refine lv_iload_n hx hb d_law_120 rfl (lv_at hl 0 rfl) ?_
      refine lv_iconst (v := 3) hx hb d_law_121 (by decide) ?_
      refine lv_iadd hx hb d_law_122 ?_
      refine tpi (y := (3 : Int32)) (by decide) ?_
      refine va_sld hx hb hX hbl hbA hS (by unfold vp_in; decide) d_law_123 ?_
      refine tpi (y := (xs 3)) rfl ?_
      have hPc := hP.sub (ws' := (wS10 cI cJ cZ cB o0 o0_1 o0_2 o0_3 o0_4 o0_5 (0 : Int32) (0 : Int32) (0 : Int32) (0 : Int32) (0 : Int32) (0 : Int32) (0 : Int32) (0 : Int32) (0 : Int32) (0 : Int32) (fun _ => 0) (fun _ => 0) (0 : Int32) (0 : Int32))) [0, 1, 2, 3, 4, 5] rfl
      have hDc := hD.sub (ws' := (wS10 cI cJ cZ cB o0 o0_1 o0_2 o0_3 o0_4 o0_5 (0 : Int32) (0 : Int32) (0 : Int32) (0 : Int32) (0 : Int32) (0 : Int32) (0 : Int32) (0 : Int32) (0 : Int32) (0 : Int32) (fun _ => 0) (fun _ => 0) (0 : Int32) (0 : Int32))) [0, 1, 2, 3, 4, 5] (by decide) rfl
      have hFc := va_free (wc := (wS10 cI cJ cZ cB o0 o0_1 o0_2 o0_3 o0_4 o0_5 (0 : Int32) (0 : Int32) (0 : Int32) (0 : Int32) (0 : Int32) (0 : Int32) (0 : Int32) (0 : Int32) (0 : Int32) (0 : Int32) (fun _ => 0) (fun _ => 0) (0 : Int32) (0 : Int32))) hD hS hA [0, 1, 2, 3, 4, 5] rfl
      refine va_calli (va_runV (C := "SignMachine") (As := [.int (xs 1), .int (xs 2), .int (xs 3)]) (rest := []) ⟨hx, hb, hml, hown, hk⟩ (c_S_poke_1 l D cI cJ cZ cB o0 o0_1 o0_2 o0_3 o0_4 o0_5 H.size (xs 1) (xs 2) (xs 3)) (v_S_poke_1 hk k_217 ⟨Nat.le_of_ble_eq_true rfl, Nat.le_of_ble_eq_true rfl⟩) (pM_v hK hPc hDc (ci := 0) (q0 := 0) rfl rfl rfl) rfl rfl hl.1 rfl (lv_room (Nat.le_of_ble_eq_true rfl)) d_law_124 ⟨Nat.le_of_ble_eq_true rfl, Nat.le_of_ble_eq_true rfl⟩) hS (fun q _ h => hFc q h) hFc (fun r u t H locs ht hvm hw hB hz1 hk1 hS => ?_)
      subst hw
      obtain ⟨hP, hD⟩ := va_join (wr := (wS93 cI cJ cZ cB o1 o1_1 o1_2 o1_3 o1_4 o1_5 o1_6 o1_7 o1_8 o1_9 o1_10 o1_11 o1_12 o1_13 o1_14 o1_15 o1_16 o1_17 o1_18 o1_19 o1_20 o1_21 o1_22 o1_23 o1_24 o1_25 (0 : Int32) (0 : Int32) (0 : Int32) (0 : Int32) (0 : Int32) (0 : Int32) (0 : Int32) (0 : Int32) (0 : Int32) (0 : Int32) (0 : Int32) (0 : Int32) (0 : Int32) (0 : Int32) (0 : Int32) (0 : Int32) (0 : Int32) (0 : Int32) (0 : Int32) (-1 : Int32) (0 : Int32) (0 : Int32) (0 : Int32) (0 : Int32) (0 : Int32) (0 : Int64) (0 : Int32) (0 : Int32) (0 : Int32) (0 : Int32) (0 : Int32) (0 : Int64) (0 : Int32) (0 : Int32) (0 : Int32) (0 : Int32) (0 : Int32) (0 : Int32) (0 : Int64) (fun _ => 0) (fun _ => 0) (fun _ => 0) (fun _ => 0) (fun _ => 0) (fun _ => 0) (fun _ => 0) (fun _ => 0) (fun _ => 0) (fun _ => 0) (fun _ => 0) (fun _ => 0) (fun _ => 0) (fun _ => 0) (fun _ => 0) (fun _ => 0) (fun _ => 0) (fun _ => 0) (fun _ => 0) (fun _ => 0) (fun _ => 0) (fun _ => 0) (fun _ => 0) (fun _ => 0) (fun _ => 0))) (w1 := []) hP hD [0, 1, 2, 3, 4, 5] [6, 7, 8, 9, 10, 11, 12, 13, 14, 15, 16, 17, 18, 19, 20, 21, 22, 23, 24, 25, 26, 27, 28, 29, 30, 31] rfl rfl (by decide) (by decide) hk1 hFc nil_P nil_D
      have hP : va_P D classes ((wS93 cI cJ cZ cB o1 o1_1 o1_2 o1_3 o1_4 o1_5 o1_6 o1_7 o1_8 o1_9 o1_10 o1_11 o1_12 o1_13 o1_14 o1_15 o1_16 o1_17 o1_18 o1_19 o1_20 o1_21 o1_22 o1_23 o1_24 o1_25 (0 : Int32) (0 : Int32) (0 : Int32) (0 : Int32) (0 : Int32) (0 : Int32) (0 : Int32) (0 : Int32) (0 : Int32) (0 : Int32) (0 : Int32) (0 : Int32) (0 : Int32) (0 : Int32) (0 : Int32) (0 : Int32) (0 : Int32) (0 : Int32) (0 : Int32) (-1 : Int32) (0 : Int32) (0 : Int32) (0 : Int32) (0 : Int32) (0 : Int32) (0 : Int64) (0 : Int32) (0 : Int32) (0 : Int32) (0 : Int32) (0 : Int32) (0 : Int64) (0 : Int32) (0 : Int32) (0 : Int32) (0 : Int32) (0 : Int32) (0 : Int32) (0 : Int64) (fun _ => 0) (fun _ => 0) (fun _ => 0) (fun _ => 0) (fun _ => 0) (fun _ => 0) (fun _ => 0) (fun _ => 0) (fun _ => 0) (fun _ => 0) (fun _ => 0) (fun _ => 0) (fun _ => 0) (fun _ => 0) (fun _ => 0) (fun _ => 0) (fun _ => 0) (fun _ => 0) (fun _ => 0) (fun _ => 0) (fun _ => 0) (fun _ => 0) (fun _ => 0) (fun _ => 0) (fun _ => 0))) H := hP
      have hD : va_D (fun q : Nat => s.heap.size ≤ q) ((wS93 cI cJ cZ cB o1 o1_1 o1_2 o1_3 o1_4 o1_5 o1_6 o1_7 o1_8 o1_9 o1_10 o1_11 o1_12 o1_13 o1_14 o1_15 o1_16 o1_17 o1_18 o1_19 o1_20 o1_21 o1_22 o1_23 o1_24 o1_25 (0 : Int32) (0 : Int32) (0 : Int32) (0 : Int32) (0 : Int32) (0 : Int32) (0 : Int32) (0 : Int32) (0 : Int32) (0 : Int32) (0 : Int32) (0 : Int32) (0 : Int32) (0 : Int32) (0 : Int32) (0 : Int32) (0 : Int32) (0 : Int32) (0 : Int32) (-1 : Int32) (0 : Int32) (0 : Int32) (0 : Int32) (0 : Int32) (0 : Int32) (0 : Int64) (0 : Int32) (0 : Int32) (0 : Int32) (0 : Int32) (0 : Int32) (0 : Int64) (0 : Int32) (0 : Int32) (0 : Int32) (0 : Int32) (0 : Int32) (0 : Int32) (0 : Int64) (fun _ => 0) (fun _ => 0) (fun _ => 0) (fun _ => 0) (fun _ => 0) (fun _ => 0) (fun _ => 0) (fun _ => 0) (fun _ => 0) (fun _ => 0) (fun _ => 0) (fun _ => 0) (fun _ => 0) (fun _ => 0) (fun _ => 0) (fun _ => 0) (fun _ => 0) (fun _ => 0) (fun _ => 0) (fun _ => 0) (fun _ => 0) (fun _ => 0) (fun _ => 0) (fun _ => 0) (fun _ => 0))) := hD
      refine W.widen (k := 32) (n := 66087) (by decide) (by decide) ?_
      refine lv_aload_n hx hb d_law_127 rfl (lv_at hl 1 rfl) ?_
      refine lv_aload_n hx hb d_law_128 rfl (lv_at hl 3 rfl) ?_
      refine lv_iload_n hx hb d_law_129 rfl (lv_at hl 0 rfl) ?_
      refine lv_iconst (v := 1) hx hb d_law_130 (by decide) ?_
      refine lv_iadd hx hb d_law_131 ?_
      refine tpi (y := (1 : Int32)) (by decide) ?_
      refine va_sld hx hb hX hbl hbA hS (by unfold vp_in; decide) d_law_132 ?_
      refine tpi (y := (xs 1)) rfl ?_
      refine lv_aload_n hx hb d_law_133 rfl (lv_at hl 3 rfl) ?_
      refine lv_iload_n hx hb d_law_134 rfl (lv_at hl 0 rfl) ?_
      refine lv_iconst (v := 2) hx hb d_law_135 (by decide) ?_
      refine lv_iadd hx hb d_law_136 ?_
      refine tpi (y := (2 : Int32)) (by decide) ?_
      refine va_sld hx hb hX hbl hbA hS (by unfold vp_in; decide) d_law_137 ?_
      refine tpi (y := (xs 2)) rfl ?_
      refine lv_aload_n hx hb d_law_138 rfl (lv_at hl 3 rfl) ?_
      refine lv_iload_n hx hb d_law_139 rfl (lv_at hl 0 rfl) ?_
      refine lv_iconst (v := 3) hx hb d_law_140 (by decide) ?_
      refine lv_iadd hx hb d_law_141 ?_
      refine tpi (y := (3 : Int32)) (by decide) ?_
      refine va_sld hx hb hX hbl hbA hS (by unfold vp_in; decide) d_law_142 ?_
      refine tpi (y := (xs 3)) rfl ?_
      have hPc := hP.sub (ws' := (wS93 cI cJ cZ cB o1 o1_1 o1_2 o1_3 o1_4 o1_5 o1_6 o1_7 o1_8 o1_9 o1_10 o1_11 o1_12 o1_13 o1_14 o1_15 o1_16 o1_17 o1_18 o1_19 o1_20 o1_21 o1_22 o1_23 o1_24 o1_25 (0 : Int32) (0 : Int32) (0 : Int32) (0 : Int32) (0 : Int32) (0 : Int32) (0 : Int32) (0 : Int32) (0 : Int32) (0 : Int32) (0 : Int32) (0 : Int32) (0 : Int32) (0 : Int32) (0 : Int32) (0 : Int32) (0 : Int32) (0 : Int32) (0 : Int32) (-1 : Int32) (0 : Int32) (0 : Int32) (0 : Int32) (0 : Int32) (0 : Int32) (0 : Int64) (0 : Int32) (0 : Int32) (0 : Int32) (0 : Int32) (0 : Int32) (0 : Int64) (0 : Int32) (0 : Int32) (0 : Int32) (0 : Int32) (0 : Int32) (0 : Int32) (0 : Int64) (fun _ => 0) (fun _ => 0) (fun _ => 0) (fun _ => 0) (fun _ => 0) (fun _ => 0) (fun _ => 0) (fun _ => 0) (fun _ => 0) (fun _ => 0) (fun _ => 0) (fun _ => 0) (fun _ => 0) (fun _ => 0) (fun _ => 0) (fun _ => 0) (fun _ => 0) (fun _ => 0) (fun _ => 0) (fun _ => 0) (fun _ => 0) (fun _ => 0) (fun _ => 0) (fun _ => 0) (fun _ => 0))) [0, 1, 2, 3, 4, 5, 6, 7, 8, 9, 10, 11, 12, 13, 14, 15, 16, 17, 18, 19, 20, 21, 22, 23, 24, 25] rfl
      have hDc := hD.sub (ws' := (wS93 cI cJ cZ cB o1 o1_1 o1_2 o1_3 o1_4 o1_5 o1_6 o1_7 o1_8 o1_9 o1_10 o1_11 o1_12 o1_13 o1_14 o1_15 o1_16 o1_17 o1_18 o1_19 o1_20 o1_21 o1_22 o1_23 o1_24 o1_25 (0 : Int32) (0 : Int32) (0 : Int32) (0 : Int32) (0 : Int32) (0 : Int32) (0 : Int32) (0 : Int32) (0 : Int32) (0 : Int32) (0 : Int32) (0 : Int32) (0 : Int32) (0 : Int32) (0 : Int32) (0 : Int32) (0 : Int32) (0 : Int32) (0 : Int32) (-1 : Int32) (0 : Int32) (0 : Int32) (0 : Int32) (0 : Int32) (0 : Int32) (0 : Int64) (0 : Int32) (0 : Int32) (0 : Int32) (0 : Int32) (0 : Int32) (0 : Int64) (0 : Int32) (0 : Int32) (0 : Int32) (0 : Int32) (0 : Int32) (0 : Int32) (0 : Int64) (fun _ => 0) (fun _ => 0) (fun _ => 0) (fun _ => 0) (fun _ => 0) (fun _ => 0) (fun _ => 0) (fun _ => 0) (fun _ => 0) (fun _ => 0) (fun _ => 0) (fun _ => 0) (fun _ => 0) (fun _ => 0) (fun _ => 0) (fun _ => 0) (fun _ => 0) (fun _ => 0) (fun _ => 0) (fun _ => 0) (fun _ => 0) (fun _ => 0) (fun _ => 0) (fun _ => 0) (fun _ => 0))) [0, 1, 2, 3, 4, 5, 6, 7, 8, 9, 10, 11, 12, 13, 14, 15, 16, 17, 18, 19, 20, 21, 22, 23, 24, 25] (by decide) rfl
      have hFc := va_free (wc := (wS93 cI cJ cZ cB o1 o1_1 o1_2 o1_3 o1_4 o1_5 o1_6 o1_7 o1_8 o1_9 o1_10 o1_11 o1_12 o1_13 o1_14 o1_15 o1_16 o1_17 o1_18 o1_19 o1_20 o1_21 o1_22 o1_23 o1_24 o1_25 (0 : Int32) (0 : Int32) (0 : Int32) (0 : Int32) (0 : Int32) (0 : Int32) (0 : Int32) (0 : Int32) (0 : Int32) (0 : Int32) (0 : Int32) (0 : Int32) (0 : Int32) (0 : Int32) (0 : Int32) (0 : Int32) (0 : Int32) (0 : Int32) (0 : Int32) (-1 : Int32) (0 : Int32) (0 : Int32) (0 : Int32) (0 : Int32) (0 : Int32) (0 : Int64) (0 : Int32) (0 : Int32) (0 : Int32) (0 : Int32) (0 : Int32) (0 : Int64) (0 : Int32) (0 : Int32) (0 : Int32) (0 : Int32) (0 : Int32) (0 : Int32) (0 : Int64) (fun _ => 0) (fun _ => 0) (fun _ => 0) (fun _ => 0) (fun _ => 0) (fun _ => 0) (fun _ => 0) (fun _ => 0) (fun _ => 0) (fun _ => 0) (fun _ => 0) (fun _ => 0) (fun _ => 0) (fun _ => 0) (fun _ => 0) (fun _ => 0) (fun _ => 0) (fun _ => 0) (fun _ => 0) (fun _ => 0) (fun _ => 0) (fun _ => 0) (fun _ => 0) (fun _ => 0) (fun _ => 0))) hD hS hA [0, 1, 2, 3, 4, 5, 6, 7, 8, 9, 10, 11, 12, 13, 14, 15, 16, 17, 18, 19, 20, 21, 22, 23, 24, 25] rfl
      refine va_calli (va_runV (C := "SignMachineModel") (As := [.int (xs 1), .int (xs 2), .int (xs 3)]) (rest := [.int (f_S_poke_1 (xs 1) (xs 2) (xs 3))]) ⟨hx, hb, hml, hown, hk⟩ (c_X_poke_1 l D cI cJ cZ cB o1 o1_1 o1_2 o1_3 o1_4 o1_5 o1_6 o1_7 o1_8 o1_9 o1_10 o1_11 o1_12 o1_13 o1_14 o1_15 o1_16 o1_17 o1_18 o1_19 o1_20 o1_21 o1_22 o1_23 o1_24 o1_25 H.size (xs 1) (xs 2) (xs 3)) (v_X_poke_1 hk k_1314 ⟨Nat.le_of_ble_eq_true rfl, Nat.le_of_ble_eq_true rfl⟩) (pM_v hK hPc hDc (ci := 7) (q0 := 0) rfl rfl rfl) rfl rfl hl.1 rfl (lv_room (Nat.le_of_ble_eq_true rfl)) d_law_143 ⟨Nat.le_of_ble_eq_true rfl, Nat.le_of_ble_eq_true rfl⟩) hS (fun q _ h => hFc q h) hFc (fun r u t H locs ht hvm hw hB hz1 hk1 hS => ?_)
      subst hw
      obtain ⟨hP, hD⟩ := va_join (wr := []) (w1 := []) hP hD [0, 1, 2, 3, 4, 5, 6, 7, 8, 9, 10, 11, 12, 13, 14, 15, 16, 17, 18, 19, 20, 21, 22, 23, 24, 25] [] rfl rfl (by decide) (by decide) hk1 hFc nil_P nil_D
      have hP : va_P D classes ([]) H := hP
      have hD : va_D (fun q : Nat => s.heap.size ≤ q) ([]) := hD
      refine W.widen (k := 32) (n := 66087) (by decide) (by decide) ?_
      refine lv_icmp_eq (tgt := 533) hx hb d_law_146 (by decide) (fun c3 => ?_) (fun c3 => absurd (show (f_S_poke_1 (xs 1) (xs 2) (xs 3)) = (f_X_poke_1 (xs 1) (xs 2) (xs 3)) from (e_poke _ _ _)) c3)
      refine lv_iinc (v := (6 : Int32)) (lv' := [(3, .int (6 : Int32)), (2, .ref o1), (1, .ref o0), (0, .ref b)]) hx hb d_law_533 hl (k := 0) rfl (by decide) (by decide) rfl (fun ls hl => ?_)
      refine lv_goto (tgt := 18) hx hb d_law_536 (by decide) ?_
      refine lv_iload_n hx hb d_law_18 rfl (lv_at hl 0 rfl) ?_
      refine lv_aload_n hx hb d_law_19 rfl (lv_at hl 3 rfl) ?_
      refine va_slen hx hb hX hbl hbA hS d_law_20 ?_
      refine tpi (y := (6 : Int32)) (by decide) ?_
      refine lv_bipush (v := 6) hx hb d_law_21 (by decide) ?_
      refine lv_isub hx hb d_law_23 ?_
      refine tpi (y := (0 : Int32)) (by decide) ?_
      refine lv_icmp_gt (tgt := 539) hx hb d_law_24 (by decide) (fun c4 => ?_) (fun c4 => absurd (show (0 : Int32) < (6 : Int32) from (by decide)) c4)
      refine lv_iconst (v := 1) hx hb d_law_539 (by decide) ?_
      refine va_forget (fun q hq => hS.2.2 q hq) ?_
      refine W.widen (k := 600000) (n := 7302250) (by decide) (by decide) ?_
      exact lw_ret hx hb hr hlocks d_law_540
    · by_cases c5 : ((xs 0) &&& (15 : Int32)) = (1 : Int32)
      · refine lv_tableIn (off := 118) (tgt := 151) hx hb d_law_33 (by rw [c5]; decide) (by rw [c5]; decide) (by rw [c5]; rfl) (by decide) ?_
        refine lv_aload_n hx hb d_law_151 rfl (lv_at hl 2 rfl) ?_
        refine lv_aload_n hx hb d_law_152 rfl (lv_at hl 3 rfl) ?_
        refine lv_iload_n hx hb d_law_153 rfl (lv_at hl 0 rfl) ?_
        refine lv_iconst (v := 1) hx hb d_law_154 (by decide) ?_
        refine lv_iadd hx hb d_law_155 ?_
        refine tpi (y := (1 : Int32)) (by decide) ?_
        refine va_sld hx hb hX hbl hbA hS (by unfold vp_in; decide) d_law_156 ?_
        refine tpi (y := (xs 1)) rfl ?_
        have hPc := hP.sub (ws' := (wS10 cI cJ cZ cB o0 o0_1 o0_2 o0_3 o0_4 o0_5 (0 : Int32) (0 : Int32) (0 : Int32) (0 : Int32) (0 : Int32) (0 : Int32) (0 : Int32) (0 : Int32) (0 : Int32) (0 : Int32) (fun _ => 0) (fun _ => 0) (0 : Int32) (0 : Int32))) [0, 1, 2, 3, 4, 5] rfl
        have hDc := hD.sub (ws' := (wS10 cI cJ cZ cB o0 o0_1 o0_2 o0_3 o0_4 o0_5 (0 : Int32) (0 : Int32) (0 : Int32) (0 : Int32) (0 : Int32) (0 : Int32) (0 : Int32) (0 : Int32) (0 : Int32) (0 : Int32) (fun _ => 0) (fun _ => 0) (0 : Int32) (0 : Int32))) [0, 1, 2, 3, 4, 5] (by decide) rfl
        have hFc := va_free (wc := (wS10 cI cJ cZ cB o0 o0_1 o0_2 o0_3 o0_4 o0_5 (0 : Int32) (0 : Int32) (0 : Int32) (0 : Int32) (0 : Int32) (0 : Int32) (0 : Int32) (0 : Int32) (0 : Int32) (0 : Int32) (fun _ => 0) (fun _ => 0) (0 : Int32) (0 : Int32))) hD hS hA [0, 1, 2, 3, 4, 5] rfl
        refine va_calli (va_runV (C := "SignMachine") (As := [.int (xs 1)]) (rest := []) ⟨hx, hb, hml, hown, hk⟩ (c_S_peekSign_1 l D cI cJ cZ cB o0 o0_1 o0_2 o0_3 o0_4 o0_5 H.size (xs 1)) (v_S_peekSign_1 hk k_236 ⟨Nat.le_of_ble_eq_true rfl, Nat.le_of_ble_eq_true rfl⟩) (pM_v hK hPc hDc (ci := 0) (q0 := 0) rfl rfl rfl) rfl rfl hl.1 rfl (lv_room (Nat.le_of_ble_eq_true rfl)) d_law_157 ⟨Nat.le_of_ble_eq_true rfl, Nat.le_of_ble_eq_true rfl⟩) hS (fun q _ h => hFc q h) hFc (fun r u t H locs ht hvm hw hB hz1 hk1 hS => ?_)
        subst hw
        obtain ⟨hP, hD⟩ := va_join (wr := (wS93 cI cJ cZ cB o1 o1_1 o1_2 o1_3 o1_4 o1_5 o1_6 o1_7 o1_8 o1_9 o1_10 o1_11 o1_12 o1_13 o1_14 o1_15 o1_16 o1_17 o1_18 o1_19 o1_20 o1_21 o1_22 o1_23 o1_24 o1_25 (0 : Int32) (0 : Int32) (0 : Int32) (0 : Int32) (0 : Int32) (0 : Int32) (0 : Int32) (0 : Int32) (0 : Int32) (0 : Int32) (0 : Int32) (0 : Int32) (0 : Int32) (0 : Int32) (0 : Int32) (0 : Int32) (0 : Int32) (0 : Int32) (0 : Int32) (-1 : Int32) (0 : Int32) (0 : Int32) (0 : Int32) (0 : Int32) (0 : Int32) (0 : Int64) (0 : Int32) (0 : Int32) (0 : Int32) (0 : Int32) (0 : Int32) (0 : Int64) (0 : Int32) (0 : Int32) (0 : Int32) (0 : Int32) (0 : Int32) (0 : Int32) (0 : Int64) (fun _ => 0) (fun _ => 0) (fun _ => 0) (fun _ => 0) (fun _ => 0) (fun _ => 0) (fun _ => 0) (fun _ => 0) (fun _ => 0) (fun _ => 0) (fun _ => 0) (fun _ => 0) (fun _ => 0) (fun _ => 0) (fun _ => 0) (fun _ => 0) (fun _ => 0) (fun _ => 0) (fun _ => 0) (fun _ => 0) (fun _ => 0) (fun _ => 0) (fun _ => 0) (fun _ => 0) (fun _ => 0))) (w1 := []) hP hD [0, 1, 2, 3, 4, 5] [6, 7, 8, 9, 10, 11, 12, 13, 14, 15, 16, 17, 18, 19, 20, 21, 22, 23, 24, 25, 26, 27, 28, 29, 30, 31] rfl rfl (by decide) (by decide) hk1 hFc nil_P nil_D
        have hP : va_P D classes ((wS93 cI cJ cZ cB o1 o1_1 o1_2 o1_3 o1_4 o1_5 o1_6 o1_7 o1_8 o1_9 o1_10 o1_11 o1_12 o1_13 o1_14 o1_15 o1_16 o1_17 o1_18 o1_19 o1_20 o1_21 o1_22 o1_23 o1_24 o1_25 (0 : Int32) (0 : Int32) (0 : Int32) (0 : Int32) (0 : Int32) (0 : Int32) (0 : Int32) (0 : Int32) (0 : Int32) (0 : Int32) (0 : Int32) (0 : Int32) (0 : Int32) (0 : Int32) (0 : Int32) (0 : Int32) (0 : Int32) (0 : Int32) (0 : Int32) (-1 : Int32) (0 : Int32) (0 : Int32) (0 : Int32) (0 : Int32) (0 : Int32) (0 : Int64) (0 : Int32) (0 : Int32) (0 : Int32) (0 : Int32) (0 : Int32) (0 : Int64) (0 : Int32) (0 : Int32) (0 : Int32) (0 : Int32) (0 : Int32) (0 : Int32) (0 : Int64) (fun _ => 0) (fun _ => 0) (fun _ => 0) (fun _ => 0) (fun _ => 0) (fun _ => 0) (fun _ => 0) (fun _ => 0) (fun _ => 0) (fun _ => 0) (fun _ => 0) (fun _ => 0) (fun _ => 0) (fun _ => 0) (fun _ => 0) (fun _ => 0) (fun _ => 0) (fun _ => 0) (fun _ => 0) (fun _ => 0) (fun _ => 0) (fun _ => 0) (fun _ => 0) (fun _ => 0) (fun _ => 0))) H := hP
        have hD : va_D (fun q : Nat => s.heap.size ≤ q) ((wS93 cI cJ cZ cB o1 o1_1 o1_2 o1_3 o1_4 o1_5 o1_6 o1_7 o1_8 o1_9 o1_10 o1_11 o1_12 o1_13 o1_14 o1_15 o1_16 o1_17 o1_18 o1_19 o1_20 o1_21 o1_22 o1_23 o1_24 o1_25 (0 : Int32) (0 : Int32) (0 : Int32) (0 : Int32) (0 : Int32) (0 : Int32) (0 : Int32) (0 : Int32) (0 : Int32) (0 : Int32) (0 : Int32) (0 : Int32) (0 : Int32) (0 : Int32) (0 : Int32) (0 : Int32) (0 : Int32) (0 : Int32) (0 : Int32) (-1 : Int32) (0 : Int32) (0 : Int32) (0 : Int32) (0 : Int32) (0 : Int32) (0 : Int64) (0 : Int32) (0 : Int32) (0 : Int32) (0 : Int32) (0 : Int32) (0 : Int64) (0 : Int32) (0 : Int32) (0 : Int32) (0 : Int32) (0 : Int32) (0 : Int32) (0 : Int64) (fun _ => 0) (fun _ => 0) (fun _ => 0) (fun _ => 0) (fun _ => 0) (fun _ => 0) (fun _ => 0) (fun _ => 0) (fun _ => 0) (fun _ => 0) (fun _ => 0) (fun _ => 0) (fun _ => 0) (fun _ => 0) (fun _ => 0) (fun _ => 0) (fun _ => 0) (fun _ => 0) (fun _ => 0) (fun _ => 0) (fun _ => 0) (fun _ => 0) (fun _ => 0) (fun _ => 0) (fun _ => 0))) := hD
        refine W.widen (k := 32) (n := 66087) (by decide) (by decide) ?_
        refine lv_aload_n hx hb d_law_160 rfl (lv_at hl 1 rfl) ?_
        refine lv_aload_n hx hb d_law_161 rfl (lv_at hl 3 rfl) ?_
        refine lv_iload_n hx hb d_law_162 rfl (lv_at hl 0 rfl) ?_
        refine lv_iconst (v := 1) hx hb d_law_163 (by decide) ?_
        refine lv_iadd hx hb d_law_164 ?_
        refine tpi (y := (1 : Int32)) (by decide) ?_
        refine va_sld hx hb hX hbl hbA hS (by unfold vp_in; decide) d_law_165 ?_
        refine tpi (y := (xs 1)) rfl ?_
        have hPc := hP.sub (ws' := (wS93 cI cJ cZ cB o1 o1_1 o1_2 o1_3 o1_4 o1_5 o1_6 o1_7 o1_8 o1_9 o1_10 o1_11 o1_12 o1_13 o1_14 o1_15 o1_16 o1_17 o1_18 o1_19 o1_20 o1_21 o1_22 o1_23 o1_24 o1_25 (0 : Int32) (0 : Int32) (0 : Int32) (0 : Int32) (0 : Int32) (0 : Int32) (0 : Int32) (0 : Int32) (0 : Int32) (0 : Int32) (0 : Int32) (0 : Int32) (0 : Int32) (0 : Int32) (0 : Int32) (0 : Int32) (0 : Int32) (0 : Int32) (0 : Int32) (-1 : Int32) (0 : Int32) (0 : Int32) (0 : Int32) (0 : Int32) (0 : Int32) (0 : Int64) (0 : Int32) (0 : Int32) (0 : Int32) (0 : Int32) (0 : Int32) (0 : Int64) (0 : Int32) (0 : Int32) (0 : Int32) (0 : Int32) (0 : Int32) (0 : Int32) (0 : Int64) (fun _ => 0) (fun _ => 0) (fun _ => 0) (fun _ => 0) (fun _ => 0) (fun _ => 0) (fun _ => 0) (fun _ => 0) (fun _ => 0) (fun _ => 0) (fun _ => 0) (fun _ => 0) (fun _ => 0) (fun _ => 0) (fun _ => 0) (fun _ => 0) (fun _ => 0) (fun _ => 0) (fun _ => 0) (fun _ => 0) (fun _ => 0) (fun _ => 0) (fun _ => 0) (fun _ => 0) (fun _ => 0))) [0, 1, 2, 3, 4, 5, 6, 7, 8, 9, 10, 11, 12, 13, 14, 15, 16, 17, 18, 19, 20, 21, 22, 23, 24, 25] rfl
        have hDc := hD.sub (ws' := (wS93 cI cJ cZ cB o1 o1_1 o1_2 o1_3 o1_4 o1_5 o1_6 o1_7 o1_8 o1_9 o1_10 o1_11 o1_12 o1_13 o1_14 o1_15 o1_16 o1_17 o1_18 o1_19 o1_20 o1_21 o1_22 o1_23 o1_24 o1_25 (0 : Int32) (0 : Int32) (0 : Int32) (0 : Int32) (0 : Int32) (0 : Int32) (0 : Int32) (0 : Int32) (0 : Int32) (0 : Int32) (0 : Int32) (0 : Int32) (0 : Int32) (0 : Int32) (0 : Int32) (0 : Int32) (0 : Int32) (0 : Int32) (0 : Int32) (-1 : Int32) (0 : Int32) (0 : Int32) (0 : Int32) (0 : Int32) (0 : Int32) (0 : Int64) (0 : Int32) (0 : Int32) (0 : Int32) (0 : Int32) (0 : Int32) (0 : Int64) (0 : Int32) (0 : Int32) (0 : Int32) (0 : Int32) (0 : Int32) (0 : Int32) (0 : Int64) (fun _ => 0) (fun _ => 0) (fun _ => 0) (fun _ => 0) (fun _ => 0) (fun _ => 0) (fun _ => 0) (fun _ => 0) (fun _ => 0) (fun _ => 0) (fun _ => 0) (fun _ => 0) (fun _ => 0) (fun _ => 0) (fun _ => 0) (fun _ => 0) (fun _ => 0) (fun _ => 0) (fun _ => 0) (fun _ => 0) (fun _ => 0) (fun _ => 0) (fun _ => 0) (fun _ => 0) (fun _ => 0))) [0, 1, 2, 3, 4, 5, 6, 7, 8, 9, 10, 11, 12, 13, 14, 15, 16, 17, 18, 19, 20, 21, 22, 23, 24, 25] (by decide) rfl
        have hFc := va_free (wc := (wS93 cI cJ cZ cB o1 o1_1 o1_2 o1_3 o1_4 o1_5 o1_6 o1_7 o1_8 o1_9 o1_10 o1_11 o1_12 o1_13 o1_14 o1_15 o1_16 o1_17 o1_18 o1_19 o1_20 o1_21 o1_22 o1_23 o1_24 o1_25 (0 : Int32) (0 : Int32) (0 : Int32) (0 : Int32) (0 : Int32) (0 : Int32) (0 : Int32) (0 : Int32) (0 : Int32) (0 : Int32) (0 : Int32) (0 : Int32) (0 : Int32) (0 : Int32) (0 : Int32) (0 : Int32) (0 : Int32) (0 : Int32) (0 : Int32) (-1 : Int32) (0 : Int32) (0 : Int32) (0 : Int32) (0 : Int32) (0 : Int32) (0 : Int64) (0 : Int32) (0 : Int32) (0 : Int32) (0 : Int32) (0 : Int32) (0 : Int64) (0 : Int32) (0 : Int32) (0 : Int32) (0 : Int32) (0 : Int32) (0 : Int32) (0 : Int64) (fun _ => 0) (fun _ => 0) (fun _ => 0) (fun _ => 0) (fun _ => 0) (fun _ => 0) (fun _ => 0) (fun _ => 0) (fun _ => 0) (fun _ => 0) (fun _ => 0) (fun _ => 0) (fun _ => 0) (fun _ => 0) (fun _ => 0) (fun _ => 0) (fun _ => 0) (fun _ => 0) (fun _ => 0) (fun _ => 0) (fun _ => 0) (fun _ => 0) (fun _ => 0) (fun _ => 0) (fun _ => 0))) hD hS hA [0, 1, 2, 3, 4, 5, 6, 7, 8, 9, 10, 11, 12, 13, 14, 15, 16, 17, 18, 19, 20, 21, 22, 23, 24, 25] rfl
        refine va_calli (va_runV (C := "SignMachineModel") (As := [.int (xs 1)]) (rest := [.int (f_S_peekSign_1 (xs 1))]) ⟨hx, hb, hml, hown, hk⟩ (c_X_peekSign_1 l D cI cJ cZ cB o1 o1_1 o1_2 o1_3 o1_4 o1_5 o1_6 o1_7 o1_8 o1_9 o1_10 o1_11 o1_12 o1_13 o1_14 o1_15 o1_16 o1_17 o1_18 o1_19 o1_20 o1_21 o1_22 o1_23 o1_24 o1_25 H.size (xs 1)) (v_X_peekSign_1 hk k_1323 ⟨Nat.le_of_ble_eq_true rfl, Nat.le_of_ble_eq_true rfl⟩) (pM_v hK hPc hDc (ci := 7) (q0 := 0) rfl rfl rfl) rfl rfl hl.1 rfl (lv_room (Nat.le_of_ble_eq_true rfl)) d_law_166 ⟨Nat.le_of_ble_eq_true rfl, Nat.le_of_ble_eq_true rfl⟩) hS (fun q _ h => hFc q h) hFc (fun r u t H locs ht hvm hw hB hz1 hk1 hS => ?_)
        subst hw
        obtain ⟨hP, hD⟩ := va_join (wr := []) (w1 := []) hP hD [0, 1, 2, 3, 4, 5, 6, 7, 8, 9, 10, 11, 12, 13, 14, 15, 16, 17, 18, 19, 20, 21, 22, 23, 24, 25] [] rfl rfl (by decide) (by decide) hk1 hFc nil_P nil_D
        have hP : va_P D classes ([]) H := hP
        have hD : va_D (fun q : Nat => s.heap.size ≤ q) ([]) := hD
        refine W.widen (k := 32) (n := 66087) (by decide) (by decide) ?_
        refine lv_icmp_eq (tgt := 533) hx hb d_law_169 (by decide) (fun c6 => ?_) (fun c6 => absurd (show (f_S_peekSign_1 (xs 1)) = (f_X_peekSign_1 (xs 1)) from (e_peekSign _)) c6)
        refine lv_iinc (v := (6 : Int32)) (lv' := [(3, .int (6 : Int32)), (2, .ref o1), (1, .ref o0), (0, .ref b)]) hx hb d_law_533 hl (k := 0) rfl (by decide) (by decide) rfl (fun ls hl => ?_)
        refine lv_goto (tgt := 18) hx hb d_law_536 (by decide) ?_
        refine lv_iload_n hx hb d_law_18 rfl (lv_at hl 0 rfl) ?_
        refine lv_aload_n hx hb d_law_19 rfl (lv_at hl 3 rfl) ?_
        refine va_slen hx hb hX hbl hbA hS d_law_20 ?_
        refine tpi (y := (6 : Int32)) (by decide) ?_
        refine lv_bipush (v := 6) hx hb d_law_21 (by decide) ?_
        refine lv_isub hx hb d_law_23 ?_
        refine tpi (y := (0 : Int32)) (by decide) ?_
        refine lv_icmp_gt (tgt := 539) hx hb d_law_24 (by decide) (fun c7 => ?_) (fun c7 => absurd (show (0 : Int32) < (6 : Int32) from (by decide)) c7)
        refine lv_iconst (v := 1) hx hb d_law_539 (by decide) ?_
        refine va_forget (fun q hq => hS.2.2 q hq) ?_
        refine W.widen (k := 600000) (n := 7302250) (by decide) (by decide) ?_
        exact lw_ret hx hb hr hlocks d_law_540
      · by_cases c8 : ((xs 0) &&& (15 : Int32)) = (2 : Int32)
        · refine lv_tableIn (off := 141) (tgt := 174) hx hb d_law_33 (by rw [c8]; decide) (by rw [c8]; decide) (by rw [c8]; rfl) (by decide) ?_
          refine lv_aload_n hx hb d_law_174 rfl (lv_at hl 2 rfl) ?_
          refine lv_aload_n hx hb d_law_175 rfl (lv_at hl 3 rfl) ?_
          refine lv_iload_n hx hb d_law_176 rfl (lv_at hl 0 rfl) ?_
          refine lv_iconst (v := 1) hx hb d_law_177 (by decide) ?_
          refine lv_iadd hx hb d_law_178 ?_
          refine tpi (y := (1 : Int32)) (by decide) ?_
          refine va_sld hx hb hX hbl hbA hS (by unfold vp_in; decide) d_law_179 ?_
          refine tpi (y := (xs 1)) rfl ?_
          have hPc := hP.sub (ws' := (wS10 cI cJ cZ cB o0 o0_1 o0_2 o0_3 o0_4 o0_5 (0 : Int32) (0 : Int32) (0 : Int32) (0 : Int32) (0 : Int32) (0 : Int32) (0 : Int32) (0 : Int32) (0 : Int32) (0 : Int32) (fun _ => 0) (fun _ => 0) (0 : Int32) (0 : Int32))) [0, 1, 2, 3, 4, 5] rfl
          have hDc := hD.sub (ws' := (wS10 cI cJ cZ cB o0 o0_1 o0_2 o0_3 o0_4 o0_5 (0 : Int32) (0 : Int32) (0 : Int32) (0 : Int32) (0 : Int32) (0 : Int32) (0 : Int32) (0 : Int32) (0 : Int32) (0 : Int32) (fun _ => 0) (fun _ => 0) (0 : Int32) (0 : Int32))) [0, 1, 2, 3, 4, 5] (by decide) rfl
          have hFc := va_free (wc := (wS10 cI cJ cZ cB o0 o0_1 o0_2 o0_3 o0_4 o0_5 (0 : Int32) (0 : Int32) (0 : Int32) (0 : Int32) (0 : Int32) (0 : Int32) (0 : Int32) (0 : Int32) (0 : Int32) (0 : Int32) (fun _ => 0) (fun _ => 0) (0 : Int32) (0 : Int32))) hD hS hA [0, 1, 2, 3, 4, 5] rfl
          refine va_calli (va_runV (C := "SignMachine") (As := [.int (xs 1)]) (rest := []) ⟨hx, hb, hml, hown, hk⟩ (c_S_peekSize_1 l D cI cJ cZ cB o0 o0_1 o0_2 o0_3 o0_4 o0_5 H.size (xs 1)) (v_S_peekSize_1 hk k_247 ⟨Nat.le_of_ble_eq_true rfl, Nat.le_of_ble_eq_true rfl⟩) (pM_v hK hPc hDc (ci := 0) (q0 := 0) rfl rfl rfl) rfl rfl hl.1 rfl (lv_room (Nat.le_of_ble_eq_true rfl)) d_law_180 ⟨Nat.le_of_ble_eq_true rfl, Nat.le_of_ble_eq_true rfl⟩) hS (fun q _ h => hFc q h) hFc (fun r u t H locs ht hvm hw hB hz1 hk1 hS => ?_)
          subst hw
          obtain ⟨hP, hD⟩ := va_join (wr := (wS93 cI cJ cZ cB o1 o1_1 o1_2 o1_3 o1_4 o1_5 o1_6 o1_7 o1_8 o1_9 o1_10 o1_11 o1_12 o1_13 o1_14 o1_15 o1_16 o1_17 o1_18 o1_19 o1_20 o1_21 o1_22 o1_23 o1_24 o1_25 (0 : Int32) (0 : Int32) (0 : Int32) (0 : Int32) (0 : Int32) (0 : Int32) (0 : Int32) (0 : Int32) (0 : Int32) (0 : Int32) (0 : Int32) (0 : Int32) (0 : Int32) (0 : Int32) (0 : Int32) (0 : Int32) (0 : Int32) (0 : Int32) (0 : Int32) (-1 : Int32) (0 : Int32) (0 : Int32) (0 : Int32) (0 : Int32) (0 : Int32) (0 : Int64) (0 : Int32) (0 : Int32) (0 : Int32) (0 : Int32) (0 : Int32) (0 : Int64) (0 : Int32) (0 : Int32) (0 : Int32) (0 : Int32) (0 : Int32) (0 : Int32) (0 : Int64) (fun _ => 0) (fun _ => 0) (fun _ => 0) (fun _ => 0) (fun _ => 0) (fun _ => 0) (fun _ => 0) (fun _ => 0) (fun _ => 0) (fun _ => 0) (fun _ => 0) (fun _ => 0) (fun _ => 0) (fun _ => 0) (fun _ => 0) (fun _ => 0) (fun _ => 0) (fun _ => 0) (fun _ => 0) (fun _ => 0) (fun _ => 0) (fun _ => 0) (fun _ => 0) (fun _ => 0) (fun _ => 0))) (w1 := []) hP hD [0, 1, 2, 3, 4, 5] [6, 7, 8, 9, 10, 11, 12, 13, 14, 15, 16, 17, 18, 19, 20, 21, 22, 23, 24, 25, 26, 27, 28, 29, 30, 31] rfl rfl (by decide) (by decide) hk1 hFc nil_P nil_D
          have hP : va_P D classes ((wS93 cI cJ cZ cB o1 o1_1 o1_2 o1_3 o1_4 o1_5 o1_6 o1_7 o1_8 o1_9 o1_10 o1_11 o1_12 o1_13 o1_14 o1_15 o1_16 o1_17 o1_18 o1_19 o1_20 o1_21 o1_22 o1_23 o1_24 o1_25 (0 : Int32) (0 : Int32) (0 : Int32) (0 : Int32) (0 : Int32) (0 : Int32) (0 : Int32) (0 : Int32) (0 : Int32) (0 : Int32) (0 : Int32) (0 : Int32) (0 : Int32) (0 : Int32) (0 : Int32) (0 : Int32) (0 : Int32) (0 : Int32) (0 : Int32) (-1 : Int32) (0 : Int32) (0 : Int32) (0 : Int32) (0 : Int32) (0 : Int32) (0 : Int64) (0 : Int32) (0 : Int32) (0 : Int32) (0 : Int32) (0 : Int32) (0 : Int64) (0 : Int32) (0 : Int32) (0 : Int32) (0 : Int32) (0 : Int32) (0 : Int32) (0 : Int64) (fun _ => 0) (fun _ => 0) (fun _ => 0) (fun _ => 0) (fun _ => 0) (fun _ => 0) (fun _ => 0) (fun _ => 0) (fun _ => 0) (fun _ => 0) (fun _ => 0) (fun _ => 0) (fun _ => 0) (fun _ => 0) (fun _ => 0) (fun _ => 0) (fun _ => 0) (fun _ => 0) (fun _ => 0) (fun _ => 0) (fun _ => 0) (fun _ => 0) (fun _ => 0) (fun _ => 0) (fun _ => 0))) H := hP
          have hD : va_D (fun q : Nat => s.heap.size ≤ q) ((wS93 cI cJ cZ cB o1 o1_1 o1_2 o1_3 o1_4 o1_5 o1_6 o1_7 o1_8 o1_9 o1_10 o1_11 o1_12 o1_13 o1_14 o1_15 o1_16 o1_17 o1_18 o1_19 o1_20 o1_21 o1_22 o1_23 o1_24 o1_25 (0 : Int32) (0 : Int32) (0 : Int32) (0 : Int32) (0 : Int32) (0 : Int32) (0 : Int32) (0 : Int32) (0 : Int32) (0 : Int32) (0 : Int32) (0 : Int32) (0 : Int32) (0 : Int32) (0 : Int32) (0 : Int32) (0 : Int32) (0 : Int32) (0 : Int32) (-1 : Int32) (0 : Int32) (0 : Int32) (0 : Int32) (0 : Int32) (0 : Int32) (0 : Int64) (0 : Int32) (0 : Int32) (0 : Int32) (0 : Int32) (0 : Int32) (0 : Int64) (0 : Int32) (0 : Int32) (0 : Int32) (0 : Int32) (0 : Int32) (0 : Int32) (0 : Int64) (fun _ => 0) (fun _ => 0) (fun _ => 0) (fun _ => 0) (fun _ => 0) (fun _ => 0) (fun _ => 0) (fun _ => 0) (fun _ => 0) (fun _ => 0) (fun _ => 0) (fun _ => 0) (fun _ => 0) (fun _ => 0) (fun _ => 0) (fun _ => 0) (fun _ => 0) (fun _ => 0) (fun _ => 0) (fun _ => 0) (fun _ => 0) (fun _ => 0) (fun _ => 0) (fun _ => 0) (fun _ => 0))) := hD
          refine W.widen (k := 32) (n := 66087) (by decide) (by decide) ?_
          refine lv_aload_n hx hb d_law_183 rfl (lv_at hl 1 rfl) ?_
          refine lv_aload_n hx hb d_law_184 rfl (lv_at hl 3 rfl) ?_
          refine lv_iload_n hx hb d_law_185 rfl (lv_at hl 0 rfl) ?_
          refine lv_iconst (v := 1) hx hb d_law_186 (by decide) ?_
          refine lv_iadd hx hb d_law_187 ?_
          refine tpi (y := (1 : Int32)) (by decide) ?_
          refine va_sld hx hb hX hbl hbA hS (by unfold vp_in; decide) d_law_188 ?_
          refine tpi (y := (xs 1)) rfl ?_
          have hPc := hP.sub (ws' := (wS93 cI cJ cZ cB o1 o1_1 o1_2 o1_3 o1_4 o1_5 o1_6 o1_7 o1_8 o1_9 o1_10 o1_11 o1_12 o1_13 o1_14 o1_15 o1_16 o1_17 o1_18 o1_19 o1_20 o1_21 o1_22 o1_23 o1_24 o1_25 (0 : Int32) (0 : Int32) (0 : Int32) (0 : Int32) (0 : Int32) (0 : Int32) (0 : Int32) (0 : Int32) (0 : Int32) (0 : Int32) (0 : Int32) (0 : Int32) (0 : Int32) (0 : Int32) (0 : Int32) (0 : Int32) (0 : Int32) (0 : Int32) (0 : Int32) (-1 : Int32) (0 : Int32) (0 : Int32) (0 : Int32) (0 : Int32) (0 : Int32) (0 : Int64) (0 : Int32) (0 : Int32) (0 : Int32) (0 : Int32) (0 : Int32) (0 : Int64) (0 : Int32) (0 : Int32) (0 : Int32) (0 : Int32) (0 : Int32) (0 : Int32) (0 : Int64) (fun _ => 0) (fun _ => 0) (fun _ => 0) (fun _ => 0) (fun _ => 0) (fun _ => 0) (fun _ => 0) (fun _ => 0) (fun _ => 0) (fun _ => 0) (fun _ => 0) (fun _ => 0) (fun _ => 0) (fun _ => 0) (fun _ => 0) (fun _ => 0) (fun _ => 0) (fun _ => 0) (fun _ => 0) (fun _ => 0) (fun _ => 0) (fun _ => 0) (fun _ => 0) (fun _ => 0) (fun _ => 0))) [0, 1, 2, 3, 4, 5, 6, 7, 8, 9, 10, 11, 12, 13, 14, 15, 16, 17, 18, 19, 20, 21, 22, 23, 24, 25] rfl
          have hDc := hD.sub (ws' := (wS93 cI cJ cZ cB o1 o1_1 o1_2 o1_3 o1_4 o1_5 o1_6 o1_7 o1_8 o1_9 o1_10 o1_11 o1_12 o1_13 o1_14 o1_15 o1_16 o1_17 o1_18 o1_19 o1_20 o1_21 o1_22 o1_23 o1_24 o1_25 (0 : Int32) (0 : Int32) (0 : Int32) (0 : Int32) (0 : Int32) (0 : Int32) (0 : Int32) (0 : Int32) (0 : Int32) (0 : Int32) (0 : Int32) (0 : Int32) (0 : Int32) (0 : Int32) (0 : Int32) (0 : Int32) (0 : Int32) (0 : Int32) (0 : Int32) (-1 : Int32) (0 : Int32) (0 : Int32) (0 : Int32) (0 : Int32) (0 : Int32) (0 : Int64) (0 : Int32) (0 : Int32) (0 : Int32) (0 : Int32) (0 : Int32) (0 : Int64) (0 : Int32) (0 : Int32) (0 : Int32) (0 : Int32) (0 : Int32) (0 : Int32) (0 : Int64) (fun _ => 0) (fun _ => 0) (fun _ => 0) (fun _ => 0) (fun _ => 0) (fun _ => 0) (fun _ => 0) (fun _ => 0) (fun _ => 0) (fun _ => 0) (fun _ => 0) (fun _ => 0) (fun _ => 0) (fun _ => 0) (fun _ => 0) (fun _ => 0) (fun _ => 0) (fun _ => 0) (fun _ => 0) (fun _ => 0) (fun _ => 0) (fun _ => 0) (fun _ => 0) (fun _ => 0) (fun _ => 0))) [0, 1, 2, 3, 4, 5, 6, 7, 8, 9, 10, 11, 12, 13, 14, 15, 16, 17, 18, 19, 20, 21, 22, 23, 24, 25] (by decide) rfl
          have hFc := va_free (wc := (wS93 cI cJ cZ cB o1 o1_1 o1_2 o1_3 o1_4 o1_5 o1_6 o1_7 o1_8 o1_9 o1_10 o1_11 o1_12 o1_13 o1_14 o1_15 o1_16 o1_17 o1_18 o1_19 o1_20 o1_21 o1_22 o1_23 o1_24 o1_25 (0 : Int32) (0 : Int32) (0 : Int32) (0 : Int32) (0 : Int32) (0 : Int32) (0 : Int32) (0 : Int32) (0 : Int32) (0 : Int32) (0 : Int32) (0 : Int32) (0 : Int32) (0 : Int32) (0 : Int32) (0 : Int32) (0 : Int32) (0 : Int32) (0 : Int32) (-1 : Int32) (0 : Int32) (0 : Int32) (0 : Int32) (0 : Int32) (0 : Int32) (0 : Int64) (0 : Int32) (0 : Int32) (0 : Int32) (0 : Int32) (0 : Int32) (0 : Int64) (0 : Int32) (0 : Int32) (0 : Int32) (0 : Int32) (0 : Int32) (0 : Int32) (0 : Int64) (fun _ => 0) (fun _ => 0) (fun _ => 0) (fun _ => 0) (fun _ => 0) (fun _ => 0) (fun _ => 0) (fun _ => 0) (fun _ => 0) (fun _ => 0) (fun _ => 0) (fun _ => 0) (fun _ => 0) (fun _ => 0) (fun _ => 0) (fun _ => 0) (fun _ => 0) (fun _ => 0) (fun _ => 0) (fun _ => 0) (fun _ => 0) (fun _ => 0) (fun _ => 0) (fun _ => 0) (fun _ => 0))) hD hS hA [0, 1, 2, 3, 4, 5, 6, 7, 8, 9, 10, 11, 12, 13, 14, 15, 16, 17, 18, 19, 20, 21, 22, 23, 24, 25] rfl
          refine va_calli (va_runV (C := "SignMachineModel") (As := [.int (xs 1)]) (rest := [.int (f_S_peekSize_1 (xs 1))]) ⟨hx, hb, hml, hown, hk⟩ (c_X_peekSize_1 l D cI cJ cZ cB o1 o1_1 o1_2 o1_3 o1_4 o1_5 o1_6 o1_7 o1_8 o1_9 o1_10 o1_11 o1_12 o1_13 o1_14 o1_15 o1_16 o1_17 o1_18 o1_19 o1_20 o1_21 o1_22 o1_23 o1_24 o1_25 H.size (xs 1)) (v_X_peekSize_1 hk k_1327 ⟨Nat.le_of_ble_eq_true rfl, Nat.le_of_ble_eq_true rfl⟩) (pM_v hK hPc hDc (ci := 7) (q0 := 0) rfl rfl rfl) rfl rfl hl.1 rfl (lv_room (Nat.le_of_ble_eq_true rfl)) d_law_189 ⟨Nat.le_of_ble_eq_true rfl, Nat.le_of_ble_eq_true rfl⟩) hS (fun q _ h => hFc q h) hFc (fun r u t H locs ht hvm hw hB hz1 hk1 hS => ?_)
          subst hw
          obtain ⟨hP, hD⟩ := va_join (wr := []) (w1 := []) hP hD [0, 1, 2, 3, 4, 5, 6, 7, 8, 9, 10, 11, 12, 13, 14, 15, 16, 17, 18, 19, 20, 21, 22, 23, 24, 25] [] rfl rfl (by decide) (by decide) hk1 hFc nil_P nil_D
          have hP : va_P D classes ([]) H := hP
          have hD : va_D (fun q : Nat => s.heap.size ≤ q) ([]) := hD
          refine W.widen (k := 32) (n := 66087) (by decide) (by decide) ?_
          refine lv_icmp_eq (tgt := 533) hx hb d_law_192 (by decide) (fun c9 => ?_) (fun c9 => absurd (show (f_S_peekSize_1 (xs 1)) = (f_X_peekSize_1 (xs 1)) from (e_peekSize _)) c9)
          refine lv_iinc (v := (6 : Int32)) (lv' := [(3, .int (6 : Int32)), (2, .ref o1), (1, .ref o0), (0, .ref b)]) hx hb d_law_533 hl (k := 0) rfl (by decide) (by decide) rfl (fun ls hl => ?_)
          refine lv_goto (tgt := 18) hx hb d_law_536 (by decide) ?_
          refine lv_iload_n hx hb d_law_18 rfl (lv_at hl 0 rfl) ?_
          refine lv_aload_n hx hb d_law_19 rfl (lv_at hl 3 rfl) ?_
          refine va_slen hx hb hX hbl hbA hS d_law_20 ?_
          refine tpi (y := (6 : Int32)) (by decide) ?_
          refine lv_bipush (v := 6) hx hb d_law_21 (by decide) ?_
          refine lv_isub hx hb d_law_23 ?_
          refine tpi (y := (0 : Int32)) (by decide) ?_
          refine lv_icmp_gt (tgt := 539) hx hb d_law_24 (by decide) (fun c10 => ?_) (fun c10 => absurd (show (0 : Int32) < (6 : Int32) from (by decide)) c10)
          refine lv_iconst (v := 1) hx hb d_law_539 (by decide) ?_
          refine va_forget (fun q hq => hS.2.2 q hq) ?_
          refine W.widen (k := 600000) (n := 7302250) (by decide) (by decide) ?_
          exact lw_ret hx hb hr hlocks d_law_540
        · by_cases c11 : ((xs 0) &&& (15 : Int32)) = (3 : Int32)
          · refine lv_tableIn (off := 164) (tgt := 197) hx hb d_law_33 (by rw [c11]; decide) (by rw [c11]; decide) (by rw [c11]; rfl) (by decide) ?_
            refine lv_aload_n hx hb d_law_197 rfl (lv_at hl 2 rfl) ?_
            have hPc := hP.sub (ws' := (wS10 cI cJ cZ cB o0 o0_1 o0_2 o0_3 o0_4 o0_5 (0 : Int32) (0 : Int32) (0 : Int32) (0 : Int32) (0 : Int32) (0 : Int32) (0 : Int32) (0 : Int32) (0 : Int32) (0 : Int32) (fun _ => 0) (fun _ => 0) (0 : Int32) (0 : Int32))) [0, 1, 2, 3, 4, 5] rfl
            have hDc := hD.sub (ws' := (wS10 cI cJ cZ cB o0 o0_1 o0_2 o0_3 o0_4 o0_5 (0 : Int32) (0 : Int32) (0 : Int32) (0 : Int32) (0 : Int32) (0 : Int32) (0 : Int32) (0 : Int32) (0 : Int32) (0 : Int32) (fun _ => 0) (fun _ => 0) (0 : Int32) (0 : Int32))) [0, 1, 2, 3, 4, 5] (by decide) rfl
            have hFc := va_free (wc := (wS10 cI cJ cZ cB o0 o0_1 o0_2 o0_3 o0_4 o0_5 (0 : Int32) (0 : Int32) (0 : Int32) (0 : Int32) (0 : Int32) (0 : Int32) (0 : Int32) (0 : Int32) (0 : Int32) (0 : Int32) (fun _ => 0) (fun _ => 0) (0 : Int32) (0 : Int32))) hD hS hA [0, 1, 2, 3, 4, 5] rfl
            refine va_calli (va_runV (C := "SignMachine") (As := []) (rest := []) ⟨hx, hb, hml, hown, hk⟩ (c_S_step_1 l D cI cJ cZ cB o0 o0_1 o0_2 o0_3 o0_4 o0_5 H.size ) (v_S_step_1 hk k_254 ⟨Nat.le_of_ble_eq_true rfl, Nat.le_of_ble_eq_true rfl⟩) (pM_v hK hPc hDc (ci := 0) (q0 := 0) rfl rfl rfl) rfl rfl hl.1 rfl (lv_room (Nat.le_of_ble_eq_true rfl)) d_law_198 ⟨Nat.le_of_ble_eq_true rfl, Nat.le_of_ble_eq_true rfl⟩) hS (fun q _ h => hFc q h) hFc (fun r u t H locs ht hvm hw hB hz1 hk1 hS => ?_)
            subst hw
            obtain ⟨hP, hD⟩ := va_join (wr := (wS93 cI cJ cZ cB o1 o1_1 o1_2 o1_3 o1_4 o1_5 o1_6 o1_7 o1_8 o1_9 o1_10 o1_11 o1_12 o1_13 o1_14 o1_15 o1_16 o1_17 o1_18 o1_19 o1_20 o1_21 o1_22 o1_23 o1_24 o1_25 (0 : Int32) (0 : Int32) (0 : Int32) (0 : Int32) (0 : Int32) (0 : Int32) (0 : Int32) (0 : Int32) (0 : Int32) (0 : Int32) (0 : Int32) (0 : Int32) (0 : Int32) (0 : Int32) (0 : Int32) (0 : Int32) (0 : Int32) (0 : Int32) (0 : Int32) (-1 : Int32) (0 : Int32) (0 : Int32) (0 : Int32) (0 : Int32) (0 : Int32) (0 : Int64) (0 : Int32) (0 : Int32) (0 : Int32) (0 : Int32) (0 : Int32) (0 : Int64) (0 : Int32) (0 : Int32) (0 : Int32) (0 : Int32) (0 : Int32) (0 : Int32) (0 : Int64) (fun _ => 0) (fun _ => 0) (fun _ => 0) (fun _ => 0) (fun _ => 0) (fun _ => 0) (fun _ => 0) (fun _ => 0) (fun _ => 0) (fun _ => 0) (fun _ => 0) (fun _ => 0) (fun _ => 0) (fun _ => 0) (fun _ => 0) (fun _ => 0) (fun _ => 0) (fun _ => 0) (fun _ => 0) (fun _ => 0) (fun _ => 0) (fun _ => 0) (fun _ => 0) (fun _ => 0) (fun _ => 0))) (w1 := []) hP hD [0, 1, 2, 3, 4, 5] [6, 7, 8, 9, 10, 11, 12, 13, 14, 15, 16, 17, 18, 19, 20, 21, 22, 23, 24, 25, 26, 27, 28, 29, 30, 31] rfl rfl (by decide) (by decide) hk1 hFc nil_P nil_D
            have hP : va_P D classes ((wS93 cI cJ cZ cB o1 o1_1 o1_2 o1_3 o1_4 o1_5 o1_6 o1_7 o1_8 o1_9 o1_10 o1_11 o1_12 o1_13 o1_14 o1_15 o1_16 o1_17 o1_18 o1_19 o1_20 o1_21 o1_22 o1_23 o1_24 o1_25 (0 : Int32) (0 : Int32) (0 : Int32) (0 : Int32) (0 : Int32) (0 : Int32) (0 : Int32) (0 : Int32) (0 : Int32) (0 : Int32) (0 : Int32) (0 : Int32) (0 : Int32) (0 : Int32) (0 : Int32) (0 : Int32) (0 : Int32) (0 : Int32) (0 : Int32) (-1 : Int32) (0 : Int32) (0 : Int32) (0 : Int32) (0 : Int32) (0 : Int32) (0 : Int64) (0 : Int32) (0 : Int32) (0 : Int32) (0 : Int32) (0 : Int32) (0 : Int64) (0 : Int32) (0 : Int32) (0 : Int32) (0 : Int32) (0 : Int32) (0 : Int32) (0 : Int64) (fun _ => 0) (fun _ => 0) (fun _ => 0) (fun _ => 0) (fun _ => 0) (fun _ => 0) (fun _ => 0) (fun _ => 0) (fun _ => 0) (fun _ => 0) (fun _ => 0) (fun _ => 0) (fun _ => 0) (fun _ => 0) (fun _ => 0) (fun _ => 0) (fun _ => 0) (fun _ => 0) (fun _ => 0) (fun _ => 0) (fun _ => 0) (fun _ => 0) (fun _ => 0) (fun _ => 0) (fun _ => 0))) H := hP
            have hD : va_D (fun q : Nat => s.heap.size ≤ q) ((wS93 cI cJ cZ cB o1 o1_1 o1_2 o1_3 o1_4 o1_5 o1_6 o1_7 o1_8 o1_9 o1_10 o1_11 o1_12 o1_13 o1_14 o1_15 o1_16 o1_17 o1_18 o1_19 o1_20 o1_21 o1_22 o1_23 o1_24 o1_25 (0 : Int32) (0 : Int32) (0 : Int32) (0 : Int32) (0 : Int32) (0 : Int32) (0 : Int32) (0 : Int32) (0 : Int32) (0 : Int32) (0 : Int32) (0 : Int32) (0 : Int32) (0 : Int32) (0 : Int32) (0 : Int32) (0 : Int32) (0 : Int32) (0 : Int32) (-1 : Int32) (0 : Int32) (0 : Int32) (0 : Int32) (0 : Int32) (0 : Int32) (0 : Int64) (0 : Int32) (0 : Int32) (0 : Int32) (0 : Int32) (0 : Int32) (0 : Int64) (0 : Int32) (0 : Int32) (0 : Int32) (0 : Int32) (0 : Int32) (0 : Int32) (0 : Int64) (fun _ => 0) (fun _ => 0) (fun _ => 0) (fun _ => 0) (fun _ => 0) (fun _ => 0) (fun _ => 0) (fun _ => 0) (fun _ => 0) (fun _ => 0) (fun _ => 0) (fun _ => 0) (fun _ => 0) (fun _ => 0) (fun _ => 0) (fun _ => 0) (fun _ => 0) (fun _ => 0) (fun _ => 0) (fun _ => 0) (fun _ => 0) (fun _ => 0) (fun _ => 0) (fun _ => 0) (fun _ => 0))) := hD
            refine W.widen (k := 32) (n := 66087) (by decide) (by decide) ?_
            refine lv_aload_n hx hb d_law_201 rfl (lv_at hl 1 rfl) ?_
            have hPc := hP.sub (ws' := (wS93 cI cJ cZ cB o1 o1_1 o1_2 o1_3 o1_4 o1_5 o1_6 o1_7 o1_8 o1_9 o1_10 o1_11 o1_12 o1_13 o1_14 o1_15 o1_16 o1_17 o1_18 o1_19 o1_20 o1_21 o1_22 o1_23 o1_24 o1_25 (0 : Int32) (0 : Int32) (0 : Int32) (0 : Int32) (0 : Int32) (0 : Int32) (0 : Int32) (0 : Int32) (0 : Int32) (0 : Int32) (0 : Int32) (0 : Int32) (0 : Int32) (0 : Int32) (0 : Int32) (0 : Int32) (0 : Int32) (0 : Int32) (0 : Int32) (-1 : Int32) (0 : Int32) (0 : Int32) (0 : Int32) (0 : Int32) (0 : Int32) (0 : Int64) (0 : Int32) (0 : Int32) (0 : Int32) (0 : Int32) (0 : Int32) (0 : Int64) (0 : Int32) (0 : Int32) (0 : Int32) (0 : Int32) (0 : Int32) (0 : Int32) (0 : Int64) (fun _ => 0) (fun _ => 0) (fun _ => 0) (fun _ => 0) (fun _ => 0) (fun _ => 0) (fun _ => 0) (fun _ => 0) (fun _ => 0) (fun _ => 0) (fun _ => 0) (fun _ => 0) (fun _ => 0) (fun _ => 0) (fun _ => 0) (fun _ => 0) (fun _ => 0) (fun _ => 0) (fun _ => 0) (fun _ => 0) (fun _ => 0) (fun _ => 0) (fun _ => 0) (fun _ => 0) (fun _ => 0))) [0, 1, 2, 3, 4, 5, 6, 7, 8, 9, 10, 11, 12, 13, 14, 15, 16, 17, 18, 19, 20, 21, 22, 23, 24, 25] rfl
            have hDc := hD.sub (ws' := (wS93 cI cJ cZ cB o1 o1_1 o1_2 o1_3 o1_4 o1_5 o1_6 o1_7 o1_8 o1_9 o1_10 o1_11 o1_12 o1_13 o1_14 o1_15 o1_16 o1_17 o1_18 o1_19 o1_20 o1_21 o1_22 o1_23 o1_24 o1_25 (0 : Int32) (0 : Int32) (0 : Int32) (0 : Int32) (0 : Int32) (0 : Int32) (0 : Int32) (0 : Int32) (0 : Int32) (0 : Int32) (0 : Int32) (0 : Int32) (0 : Int32) (0 : Int32) (0 : Int32) (0 : Int32) (0 : Int32) (0 : Int32) (0 : Int32) (-1 : Int32) (0 : Int32) (0 : Int32) (0 : Int32) (0 : Int32) (0 : Int32) (0 : Int64) (0 : Int32) (0 : Int32) (0 : Int32) (0 : Int32) (0 : Int32) (0 : Int64) (0 : Int32) (0 : Int32) (0 : Int32) (0 : Int32) (0 : Int32) (0 : Int32) (0 : Int64) (fun _ => 0) (fun _ => 0) (fun _ => 0) (fun _ => 0) (fun _ => 0) (fun _ => 0) (fun _ => 0) (fun _ => 0) (fun _ => 0) (fun _ => 0) (fun _ => 0) (fun _ => 0) (fun _ => 0) (fun _ => 0) (fun _ => 0) (fun _ => 0) (fun _ => 0) (fun _ => 0) (fun _ => 0) (fun _ => 0) (fun _ => 0) (fun _ => 0) (fun _ => 0) (fun _ => 0) (fun _ => 0))) [0, 1, 2, 3, 4, 5, 6, 7, 8, 9, 10, 11, 12, 13, 14, 15, 16, 17, 18, 19, 20, 21, 22, 23, 24, 25] (by decide) rfl
            have hFc := va_free (wc := (wS93 cI cJ cZ cB o1 o1_1 o1_2 o1_3 o1_4 o1_5 o1_6 o1_7 o1_8 o1_9 o1_10 o1_11 o1_12 o1_13 o1_14 o1_15 o1_16 o1_17 o1_18 o1_19 o1_20 o1_21 o1_22 o1_23 o1_24 o1_25 (0 : Int32) (0 : Int32) (0 : Int32) (0 : Int32) (0 : Int32) (0 : Int32) (0 : Int32) (0 : Int32) (0 : Int32) (0 : Int32) (0 : Int32) (0 : Int32) (0 : Int32) (0 : Int32) (0 : Int32) (0 : Int32) (0 : Int32) (0 : Int32) (0 : Int32) (-1 : Int32) (0 : Int32) (0 : Int32) (0 : Int32) (0 : Int32) (0 : Int32) (0 : Int64) (0 : Int32) (0 : Int32) (0 : Int32) (0 : Int32) (0 : Int32) (0 : Int64) (0 : Int32) (0 : Int32) (0 : Int32) (0 : Int32) (0 : Int32) (0 : Int32) (0 : Int64) (fun _ => 0) (fun _ => 0) (fun _ => 0) (fun _ => 0) (fun _ => 0) (fun _ => 0) (fun _ => 0) (fun _ => 0) (fun _ => 0) (fun _ => 0) (fun _ => 0) (fun _ => 0) (fun _ => 0) (fun _ => 0) (fun _ => 0) (fun _ => 0) (fun _ => 0) (fun _ => 0) (fun _ => 0) (fun _ => 0) (fun _ => 0) (fun _ => 0) (fun _ => 0) (fun _ => 0) (fun _ => 0))) hD hS hA [0, 1, 2, 3, 4, 5, 6, 7, 8, 9, 10, 11, 12, 13, 14, 15, 16, 17, 18, 19, 20, 21, 22, 23, 24, 25] rfl
            refine va_calli (va_runV (C := "SignMachineModel") (As := []) (rest := [.int f_S_step_1]) ⟨hx, hb, hml, hown, hk⟩ (c_X_step_1 l D cI cJ cZ cB o1 o1_1 o1_2 o1_3 o1_4 o1_5 o1_6 o1_7 o1_8 o1_9 o1_10 o1_11 o1_12 o1_13 o1_14 o1_15 o1_16 o1_17 o1_18 o1_19 o1_20 o1_21 o1_22 o1_23 o1_24 o1_25 H.size ) (v_X_step_1 hk k_1364 ⟨Nat.le_of_ble_eq_true rfl, Nat.le_of_ble_eq_true rfl⟩) (pM_v hK hPc hDc (ci := 7) (q0 := 0) rfl rfl rfl) rfl rfl hl.1 rfl (lv_room (Nat.le_of_ble_eq_true rfl)) d_law_202 ⟨Nat.le_of_ble_eq_true rfl, Nat.le_of_ble_eq_true rfl⟩) hS (fun q _ h => hFc q h) hFc (fun r u t H locs ht hvm hw hB hz1 hk1 hS => ?_)
            subst hw
            obtain ⟨hP, hD⟩ := va_join (wr := []) (w1 := []) hP hD [0, 1, 2, 3, 4, 5, 6, 7, 8, 9, 10, 11, 12, 13, 14, 15, 16, 17, 18, 19, 20, 21, 22, 23, 24, 25] [] rfl rfl (by decide) (by decide) hk1 hFc nil_P nil_D
            have hP : va_P D classes ([]) H := hP
            have hD : va_D (fun q : Nat => s.heap.size ≤ q) ([]) := hD
            refine W.widen (k := 32) (n := 66087) (by decide) (by decide) ?_
            refine lv_icmp_eq (tgt := 533) hx hb d_law_205 (by decide) (fun c12 => ?_) (fun c12 => absurd (show f_S_step_1 = f_X_step_1 from (e_step)) c12)
            refine lv_iinc (v := (6 : Int32)) (lv' := [(3, .int (6 : Int32)), (2, .ref o1), (1, .ref o0), (0, .ref b)]) hx hb d_law_533 hl (k := 0) rfl (by decide) (by decide) rfl (fun ls hl => ?_)
            refine lv_goto (tgt := 18) hx hb d_law_536 (by decide) ?_
            refine lv_iload_n hx hb d_law_18 rfl (lv_at hl 0 rfl) ?_
            refine lv_aload_n hx hb d_law_19 rfl (lv_at hl 3 rfl) ?_
            refine va_slen hx hb hX hbl hbA hS d_law_20 ?_
            refine tpi (y := (6 : Int32)) (by decide) ?_
            refine lv_bipush (v := 6) hx hb d_law_21 (by decide) ?_
            refine lv_isub hx hb d_law_23 ?_
            refine tpi (y := (0 : Int32)) (by decide) ?_
            refine lv_icmp_gt (tgt := 539) hx hb d_law_24 (by decide) (fun c13 => ?_) (fun c13 => absurd (show (0 : Int32) < (6 : Int32) from (by decide)) c13)
            refine lv_iconst (v := 1) hx hb d_law_539 (by decide) ?_
            refine va_forget (fun q hq => hS.2.2 q hq) ?_
            refine W.widen (k := 600000) (n := 7302250) (by decide) (by decide) ?_
            exact lw_ret hx hb hr hlocks d_law_540
          · by_cases c14 : ((xs 0) &&& (15 : Int32)) = (4 : Int32)
            · refine lv_tableIn (off := 177) (tgt := 210) hx hb d_law_33 (by rw [c14]; decide) (by rw [c14]; decide) (by rw [c14]; rfl) (by decide) ?_
              refine lv_aload_n hx hb d_law_210 rfl (lv_at hl 2 rfl) ?_
              refine lv_aload_n hx hb d_law_211 rfl (lv_at hl 3 rfl) ?_
              refine lv_iload_n hx hb d_law_212 rfl (lv_at hl 0 rfl) ?_
              refine lv_iconst (v := 1) hx hb d_law_213 (by decide) ?_
              refine lv_iadd hx hb d_law_214 ?_
              refine tpi (y := (1 : Int32)) (by decide) ?_
              refine va_sld hx hb hX hbl hbA hS (by unfold vp_in; decide) d_law_215 ?_
              refine tpi (y := (xs 1)) rfl ?_
              have hPc := hP.sub (ws' := (wS10 cI cJ cZ cB o0 o0_1 o0_2 o0_3 o0_4 o0_5 (0 : Int32) (0 : Int32) (0 : Int32) (0 : Int32) (0 : Int32) (0 : Int32) (0 : Int32) (0 : Int32) (0 : Int32) (0 : Int32) (fun _ => 0) (fun _ => 0) (0 : Int32) (0 : Int32))) [0, 1, 2, 3, 4, 5] rfl
              have hDc := hD.sub (ws' := (wS10 cI cJ cZ cB o0 o0_1 o0_2 o0_3 o0_4 o0_5 (0 : Int32) (0 : Int32) (0 : Int32) (0 : Int32) (0 : Int32) (0 : Int32) (0 : Int32) (0 : Int32) (0 : Int32) (0 : Int32) (fun _ => 0) (fun _ => 0) (0 : Int32) (0 : Int32))) [0, 1, 2, 3, 4, 5] (by decide) rfl
              have hFc := va_free (wc := (wS10 cI cJ cZ cB o0 o0_1 o0_2 o0_3 o0_4 o0_5 (0 : Int32) (0 : Int32) (0 : Int32) (0 : Int32) (0 : Int32) (0 : Int32) (0 : Int32) (0 : Int32) (0 : Int32) (0 : Int32) (fun _ => 0) (fun _ => 0) (0 : Int32) (0 : Int32))) hD hS hA [0, 1, 2, 3, 4, 5] rfl
              refine va_calli (va_runV (C := "SignMachine") (As := [.int (xs 1)]) (rest := []) ⟨hx, hb, hml, hown, hk⟩ (c_S_run_1 l D cI cJ cZ cB o0 o0_1 o0_2 o0_3 o0_4 o0_5 H.size (xs 1)) (v_S_run_1 hk k_471 ⟨Nat.le_of_ble_eq_true rfl, Nat.le_of_ble_eq_true rfl⟩) (pM_v hK hPc hDc (ci := 0) (q0 := 0) rfl rfl rfl) rfl rfl hl.1 rfl (lv_room (Nat.le_of_ble_eq_true rfl)) d_law_216 ⟨Nat.le_of_ble_eq_true rfl, Nat.le_of_ble_eq_true rfl⟩) hS (fun q _ h => hFc q h) hFc (fun r u t H locs ht hvm hw hB hz1 hk1 hS => ?_)
              subst hw
              obtain ⟨hP, hD⟩ := va_join (wr := (wS93 cI cJ cZ cB o1 o1_1 o1_2 o1_3 o1_4 o1_5 o1_6 o1_7 o1_8 o1_9 o1_10 o1_11 o1_12 o1_13 o1_14 o1_15 o1_16 o1_17 o1_18 o1_19 o1_20 o1_21 o1_22 o1_23 o1_24 o1_25 (0 : Int32) (0 : Int32) (0 : Int32) (0 : Int32) (0 : Int32) (0 : Int32) (0 : Int32) (0 : Int32) (0 : Int32) (0 : Int32) (0 : Int32) (0 : Int32) (0 : Int32) (0 : Int32) (0 : Int32) (0 : Int32) (0 : Int32) (0 : Int32) (0 : Int32) (-1 : Int32) (0 : Int32) (0 : Int32) (0 : Int32) (0 : Int32) (0 : Int32) (0 : Int64) (0 : Int32) (0 : Int32) (0 : Int32) (0 : Int32) (0 : Int32) (0 : Int64) (0 : Int32) (0 : Int32) (0 : Int32) (0 : Int32) (0 : Int32) (0 : Int32) (0 : Int64) (fun _ => 0) (fun _ => 0) (fun _ => 0) (fun _ => 0) (fun _ => 0) (fun _ => 0) (fun _ => 0) (fun _ => 0) (fun _ => 0) (fun _ => 0) (fun _ => 0) (fun _ => 0) (fun _ => 0) (fun _ => 0) (fun _ => 0) (fun _ => 0) (fun _ => 0) (fun _ => 0) (fun _ => 0) (fun _ => 0) (fun _ => 0) (fun _ => 0) (fun _ => 0) (fun _ => 0) (fun _ => 0))) (w1 := []) hP hD [0, 1, 2, 3, 4, 5] [6, 7, 8, 9, 10, 11, 12, 13, 14, 15, 16, 17, 18, 19, 20, 21, 22, 23, 24, 25, 26, 27, 28, 29, 30, 31] rfl rfl (by decide) (by decide) hk1 hFc nil_P nil_D
              have hP : va_P D classes ((wS93 cI cJ cZ cB o1 o1_1 o1_2 o1_3 o1_4 o1_5 o1_6 o1_7 o1_8 o1_9 o1_10 o1_11 o1_12 o1_13 o1_14 o1_15 o1_16 o1_17 o1_18 o1_19 o1_20 o1_21 o1_22 o1_23 o1_24 o1_25 (0 : Int32) (0 : Int32) (0 : Int32) (0 : Int32) (0 : Int32) (0 : Int32) (0 : Int32) (0 : Int32) (0 : Int32) (0 : Int32) (0 : Int32) (0 : Int32) (0 : Int32) (0 : Int32) (0 : Int32) (0 : Int32) (0 : Int32) (0 : Int32) (0 : Int32) (-1 : Int32) (0 : Int32) (0 : Int32) (0 : Int32) (0 : Int32) (0 : Int32) (0 : Int64) (0 : Int32) (0 : Int32) (0 : Int32) (0 : Int32) (0 : Int32) (0 : Int64) (0 : Int32) (0 : Int32) (0 : Int32) (0 : Int32) (0 : Int32) (0 : Int32) (0 : Int64) (fun _ => 0) (fun _ => 0) (fun _ => 0) (fun _ => 0) (fun _ => 0) (fun _ => 0) (fun _ => 0) (fun _ => 0) (fun _ => 0) (fun _ => 0) (fun _ => 0) (fun _ => 0) (fun _ => 0) (fun _ => 0) (fun _ => 0) (fun _ => 0) (fun _ => 0) (fun _ => 0) (fun _ => 0) (fun _ => 0) (fun _ => 0) (fun _ => 0) (fun _ => 0) (fun _ => 0) (fun _ => 0))) H := hP
              have hD : va_D (fun q : Nat => s.heap.size ≤ q) ((wS93 cI cJ cZ cB o1 o1_1 o1_2 o1_3 o1_4 o1_5 o1_6 o1_7 o1_8 o1_9 o1_10 o1_11 o1_12 o1_13 o1_14 o1_15 o1_16 o1_17 o1_18 o1_19 o1_20 o1_21 o1_22 o1_23 o1_24 o1_25 (0 : Int32) (0 : Int32) (0 : Int32) (0 : Int32) (0 : Int32) (0 : Int32) (0 : Int32) (0 : Int32) (0 : Int32) (0 : Int32) (0 : Int32) (0 : Int32) (0 : Int32) (0 : Int32) (0 : Int32) (0 : Int32) (0 : Int32) (0 : Int32) (0 : Int32) (-1 : Int32) (0 : Int32) (0 : Int32) (0 : Int32) (0 : Int32) (0 : Int32) (0 : Int64) (0 : Int32) (0 : Int32) (0 : Int32) (0 : Int32) (0 : Int32) (0 : Int64) (0 : Int32) (0 : Int32) (0 : Int32) (0 : Int32) (0 : Int32) (0 : Int32) (0 : Int64) (fun _ => 0) (fun _ => 0) (fun _ => 0) (fun _ => 0) (fun _ => 0) (fun _ => 0) (fun _ => 0) (fun _ => 0) (fun _ => 0) (fun _ => 0) (fun _ => 0) (fun _ => 0) (fun _ => 0) (fun _ => 0) (fun _ => 0) (fun _ => 0) (fun _ => 0) (fun _ => 0) (fun _ => 0) (fun _ => 0) (fun _ => 0) (fun _ => 0) (fun _ => 0) (fun _ => 0) (fun _ => 0))) := hD
              refine W.widen (k := 32) (n := 66087) (by decide) (by decide) ?_
              refine lv_aload_n hx hb d_law_219 rfl (lv_at hl 1 rfl) ?_
              refine lv_aload_n hx hb d_law_220 rfl (lv_at hl 3 rfl) ?_
              refine lv_iload_n hx hb d_law_221 rfl (lv_at hl 0 rfl) ?_
              refine lv_iconst (v := 1) hx hb d_law_222 (by decide) ?_
              refine lv_iadd hx hb d_law_223 ?_
              refine tpi (y := (1 : Int32)) (by decide) ?_
              refine va_sld hx hb hX hbl hbA hS (by unfold vp_in; decide) d_law_224 ?_
              refine tpi (y := (xs 1)) rfl ?_
              have hPc := hP.sub (ws' := (wS93 cI cJ cZ cB o1 o1_1 o1_2 o1_3 o1_4 o1_5 o1_6 o1_7 o1_8 o1_9 o1_10 o1_11 o1_12 o1_13 o1_14 o1_15 o1_16 o1_17 o1_18 o1_19 o1_20 o1_21 o1_22 o1_23 o1_24 o1_25 (0 : Int32) (0 : Int32) (0 : Int32) (0 : Int32) (0 : Int32) (0 : Int32) (0 : Int32) (0 : Int32) (0 : Int32) (0 : Int32) (0 : Int32) (0 : Int32) (0 : Int32) (0 : Int32) (0 : Int32) (0 : Int32) (0 : Int32) (0 : Int32) (0 : Int32) (-1 : Int32) (0 : Int32) (0 : Int32) (0 : Int32) (0 : Int32) (0 : Int32) (0 : Int64) (0 : Int32) (0 : Int32) (0 : Int32) (0 : Int32) (0 : Int32) (0 : Int64) (0 : Int32) (0 : Int32) (0 : Int32) (0 : Int32) (0 : Int32) (0 : Int32) (0 : Int64) (fun _ => 0) (fun _ => 0) (fun _ => 0) (fun _ => 0) (fun _ => 0) (fun _ => 0) (fun _ => 0) (fun _ => 0) (fun _ => 0) (fun _ => 0) (fun _ => 0) (fun _ => 0) (fun _ => 0) (fun _ => 0) (fun _ => 0) (fun _ => 0) (fun _ => 0) (fun _ => 0) (fun _ => 0) (fun _ => 0) (fun _ => 0) (fun _ => 0) (fun _ => 0) (fun _ => 0) (fun _ => 0))) [0, 1, 2, 3, 4, 5, 6, 7, 8, 9, 10, 11, 12, 13, 14, 15, 16, 17, 18, 19, 20, 21, 22, 23, 24, 25] rfl
              have hDc := hD.sub (ws' := (wS93 cI cJ cZ cB o1 o1_1 o1_2 o1_3 o1_4 o1_5 o1_6 o1_7 o1_8 o1_9 o1_10 o1_11 o1_12 o1_13 o1_14 o1_15 o1_16 o1_17 o1_18 o1_19 o1_20 o1_21 o1_22 o1_23 o1_24 o1_25 (0 : Int32) (0 : Int32) (0 : Int32) (0 : Int32) (0 : Int32) (0 : Int32) (0 : Int32) (0 : Int32) (0 : Int32) (0 : Int32) (0 : Int32) (0 : Int32) (0 : Int32) (0 : Int32) (0 : Int32) (0 : Int32) (0 : Int32) (0 : Int32) (0 : Int32) (-1 : Int32) (0 : Int32) (0 : Int32) (0 : Int32) (0 : Int32) (0 : Int32) (0 : Int64) (0 : Int32) (0 : Int32) (0 : Int32) (0 : Int32) (0 : Int32) (0 : Int64) (0 : Int32) (0 : Int32) (0 : Int32) (0 : Int32) (0 : Int32) (0 : Int32) (0 : Int64) (fun _ => 0) (fun _ => 0) (fun _ => 0) (fun _ => 0) (fun _ => 0) (fun _ => 0) (fun _ => 0) (fun _ => 0) (fun _ => 0) (fun _ => 0) (fun _ => 0) (fun _ => 0) (fun _ => 0) (fun _ => 0) (fun _ => 0) (fun _ => 0) (fun _ => 0) (fun _ => 0) (fun _ => 0) (fun _ => 0) (fun _ => 0) (fun _ => 0) (fun _ => 0) (fun _ => 0) (fun _ => 0))) [0, 1, 2, 3, 4, 5, 6, 7, 8, 9, 10, 11, 12, 13, 14, 15, 16, 17, 18, 19, 20, 21, 22, 23, 24, 25] (by decide) rfl
              have hFc := va_free (wc := (wS93 cI cJ cZ cB o1 o1_1 o1_2 o1_3 o1_4 o1_5 o1_6 o1_7 o1_8 o1_9 o1_10 o1_11 o1_12 o1_13 o1_14 o1_15 o1_16 o1_17 o1_18 o1_19 o1_20 o1_21 o1_22 o1_23 o1_24 o1_25 (0 : Int32) (0 : Int32) (0 : Int32) (0 : Int32) (0 : Int32) (0 : Int32) (0 : Int32) (0 : Int32) (0 : Int32) (0 : Int32) (0 : Int32) (0 : Int32) (0 : Int32) (0 : Int32) (0 : Int32) (0 : Int32) (0 : Int32) (0 : Int32) (0 : Int32) (-1 : Int32) (0 : Int32) (0 : Int32) (0 : Int32) (0 : Int32) (0 : Int32) (0 : Int64) (0 : Int32) (0 : Int32) (0 : Int32) (0 : Int32) (0 : Int32) (0 : Int64) (0 : Int32) (0 : Int32) (0 : Int32) (0 : Int32) (0 : Int32) (0 : Int32) (0 : Int64) (fun _ => 0) (fun _ => 0) (fun _ => 0) (fun _ => 0) (fun _ => 0) (fun _ => 0) (fun _ => 0) (fun _ => 0) (fun _ => 0) (fun _ => 0) (fun _ => 0) (fun _ => 0) (fun _ => 0) (fun _ => 0) (fun _ => 0) (fun _ => 0) (fun _ => 0) (fun _ => 0) (fun _ => 0) (fun _ => 0) (fun _ => 0) (fun _ => 0) (fun _ => 0) (fun _ => 0) (fun _ => 0))) hD hS hA [0, 1, 2, 3, 4, 5, 6, 7, 8, 9, 10, 11, 12, 13, 14, 15, 16, 17, 18, 19, 20, 21, 22, 23, 24, 25] rfl
              refine va_calli (va_runV (C := "SignMachineModel") (As := [.int (xs 1)]) (rest := [.int (f_run (xs 1))]) ⟨hx, hb, hml, hown, hk⟩ (c_X_run_1 l D cI cJ cZ cB o1 o1_1 o1_2 o1_3 o1_4 o1_5 o1_6 o1_7 o1_8 o1_9 o1_10 o1_11 o1_12 o1_13 o1_14 o1_15 o1_16 o1_17 o1_18 o1_19 o1_20 o1_21 o1_22 o1_23 o1_24 o1_25 H.size (xs 1)) (v_X_run_1 hk k_1503 ⟨Nat.le_of_ble_eq_true rfl, Nat.le_of_ble_eq_true rfl⟩) (pM_v hK hPc hDc (ci := 7) (q0 := 0) rfl rfl rfl) rfl rfl hl.1 rfl (lv_room (Nat.le_of_ble_eq_true rfl)) d_law_225 ⟨Nat.le_of_ble_eq_true rfl, Nat.le_of_ble_eq_true rfl⟩) hS (fun q _ h => hFc q h) hFc (fun r u t H locs ht hvm hw hB hz1 hk1 hS => ?_)
              subst hw
              obtain ⟨hP, hD⟩ := va_join (wr := []) (w1 := []) hP hD [0, 1, 2, 3, 4, 5, 6, 7, 8, 9, 10, 11, 12, 13, 14, 15, 16, 17, 18, 19, 20, 21, 22, 23, 24, 25] [] rfl rfl (by decide) (by decide) hk1 hFc nil_P nil_D
              have hP : va_P D classes ([]) H := hP
              have hD : va_D (fun q : Nat => s.heap.size ≤ q) ([]) := hD
              refine W.widen (k := 32) (n := 66087) (by decide) (by decide) ?_
              refine lv_icmp_eq (tgt := 533) hx hb d_law_228 (by decide) (fun c15 => ?_) (fun c15 => absurd (show (f_run (xs 1)) = (f_runX (xs 1)) from (e_run _)) c15)
              refine lv_iinc (v := (6 : Int32)) (lv' := [(3, .int (6 : Int32)), (2, .ref o1), (1, .ref o0), (0, .ref b)]) hx hb d_law_533 hl (k := 0) rfl (by decide) (by decide) rfl (fun ls hl => ?_)
              refine lv_goto (tgt := 18) hx hb d_law_536 (by decide) ?_
              refine lv_iload_n hx hb d_law_18 rfl (lv_at hl 0 rfl) ?_
              refine lv_aload_n hx hb d_law_19 rfl (lv_at hl 3 rfl) ?_
              refine va_slen hx hb hX hbl hbA hS d_law_20 ?_
              refine tpi (y := (6 : Int32)) (by decide) ?_
              refine lv_bipush (v := 6) hx hb d_law_21 (by decide) ?_
              refine lv_isub hx hb d_law_23 ?_
              refine tpi (y := (0 : Int32)) (by decide) ?_
              refine lv_icmp_gt (tgt := 539) hx hb d_law_24 (by decide) (fun c16 => ?_) (fun c16 => absurd (show (0 : Int32) < (6 : Int32) from (by decide)) c16)
              refine lv_iconst (v := 1) hx hb d_law_539 (by decide) ?_
              refine va_forget (fun q hq => hS.2.2 q hq) ?_
              refine W.widen (k := 600000) (n := 7302250) (by decide) (by decide) ?_
              exact lw_ret hx hb hr hlocks d_law_540
            · by_cases c17 : ((xs 0) &&& (15 : Int32)) = (5 : Int32)
              · refine lv_tableIn (off := 200) (tgt := 233) hx hb d_law_33 (by rw [c17]; decide) (by rw [c17]; decide) (by rw [c17]; rfl) (by decide) ?_
                refine lv_aload_n hx hb d_law_233 rfl (lv_at hl 2 rfl) ?_
                refine lv_aload_n hx hb d_law_234 rfl (lv_at hl 3 rfl) ?_
                refine lv_iload_n hx hb d_law_235 rfl (lv_at hl 0 rfl) ?_
                refine lv_iconst (v := 1) hx hb d_law_236 (by decide) ?_
                refine lv_iadd hx hb d_law_237 ?_
                refine tpi (y := (1 : Int32)) (by decide) ?_
                refine va_sld hx hb hX hbl hbA hS (by unfold vp_in; decide) d_law_238 ?_
                refine tpi (y := (xs 1)) rfl ?_
                have hPc := hP.sub (ws' := (wS10 cI cJ cZ cB o0 o0_1 o0_2 o0_3 o0_4 o0_5 (0 : Int32) (0 : Int32) (0 : Int32) (0 : Int32) (0 : Int32) (0 : Int32) (0 : Int32) (0 : Int32) (0 : Int32) (0 : Int32) (fun _ => 0) (fun _ => 0) (0 : Int32) (0 : Int32))) [0, 1, 2, 3, 4, 5] rfl
                have hDc := hD.sub (ws' := (wS10 cI cJ cZ cB o0 o0_1 o0_2 o0_3 o0_4 o0_5 (0 : Int32) (0 : Int32) (0 : Int32) (0 : Int32) (0 : Int32) (0 : Int32) (0 : Int32) (0 : Int32) (0 : Int32) (0 : Int32) (fun _ => 0) (fun _ => 0) (0 : Int32) (0 : Int32))) [0, 1, 2, 3, 4, 5] (by decide) rfl
                have hFc := va_free (wc := (wS10 cI cJ cZ cB o0 o0_1 o0_2 o0_3 o0_4 o0_5 (0 : Int32) (0 : Int32) (0 : Int32) (0 : Int32) (0 : Int32) (0 : Int32) (0 : Int32) (0 : Int32) (0 : Int32) (0 : Int32) (fun _ => 0) (fun _ => 0) (0 : Int32) (0 : Int32))) hD hS hA [0, 1, 2, 3, 4, 5] rfl
                refine va_calli (va_runV (C := "SignMachine") (As := [.int (xs 1)]) (rest := []) ⟨hx, hb, hml, hown, hk⟩ (c_S_registerSign_1 l D cI cJ cZ cB o0 o0_1 o0_2 o0_3 o0_4 o0_5 H.size (xs 1)) (v_S_registerSign_1 hk k_475 ⟨Nat.le_of_ble_eq_true rfl, Nat.le_of_ble_eq_true rfl⟩) (pM_v hK hPc hDc (ci := 0) (q0 := 0) rfl rfl rfl) rfl rfl hl.1 rfl (lv_room (Nat.le_of_ble_eq_true rfl)) d_law_239 ⟨Nat.le_of_ble_eq_true rfl, Nat.le_of_ble_eq_true rfl⟩) hS (fun q _ h => hFc q h) hFc (fun r u t H locs ht hvm hw hB hz1 hk1 hS => ?_)
                subst hw
                obtain ⟨hP, hD⟩ := va_join (wr := (wS93 cI cJ cZ cB o1 o1_1 o1_2 o1_3 o1_4 o1_5 o1_6 o1_7 o1_8 o1_9 o1_10 o1_11 o1_12 o1_13 o1_14 o1_15 o1_16 o1_17 o1_18 o1_19 o1_20 o1_21 o1_22 o1_23 o1_24 o1_25 (0 : Int32) (0 : Int32) (0 : Int32) (0 : Int32) (0 : Int32) (0 : Int32) (0 : Int32) (0 : Int32) (0 : Int32) (0 : Int32) (0 : Int32) (0 : Int32) (0 : Int32) (0 : Int32) (0 : Int32) (0 : Int32) (0 : Int32) (0 : Int32) (0 : Int32) (-1 : Int32) (0 : Int32) (0 : Int32) (0 : Int32) (0 : Int32) (0 : Int32) (0 : Int64) (0 : Int32) (0 : Int32) (0 : Int32) (0 : Int32) (0 : Int32) (0 : Int64) (0 : Int32) (0 : Int32) (0 : Int32) (0 : Int32) (0 : Int32) (0 : Int32) (0 : Int64) (fun _ => 0) (fun _ => 0) (fun _ => 0) (fun _ => 0) (fun _ => 0) (fun _ => 0) (fun _ => 0) (fun _ => 0) (fun _ => 0) (fun _ => 0) (fun _ => 0) (fun _ => 0) (fun _ => 0) (fun _ => 0) (fun _ => 0) (fun _ => 0) (fun _ => 0) (fun _ => 0) (fun _ => 0) (fun _ => 0) (fun _ => 0) (fun _ => 0) (fun _ => 0) (fun _ => 0) (fun _ => 0))) (w1 := []) hP hD [0, 1, 2, 3, 4, 5] [6, 7, 8, 9, 10, 11, 12, 13, 14, 15, 16, 17, 18, 19, 20, 21, 22, 23, 24, 25, 26, 27, 28, 29, 30, 31] rfl rfl (by decide) (by decide) hk1 hFc nil_P nil_D
                have hP : va_P D classes ((wS93 cI cJ cZ cB o1 o1_1 o1_2 o1_3 o1_4 o1_5 o1_6 o1_7 o1_8 o1_9 o1_10 o1_11 o1_12 o1_13 o1_14 o1_15 o1_16 o1_17 o1_18 o1_19 o1_20 o1_21 o1_22 o1_23 o1_24 o1_25 (0 : Int32) (0 : Int32) (0 : Int32) (0 : Int32) (0 : Int32) (0 : Int32) (0 : Int32) (0 : Int32) (0 : Int32) (0 : Int32) (0 : Int32) (0 : Int32) (0 : Int32) (0 : Int32) (0 : Int32) (0 : Int32) (0 : Int32) (0 : Int32) (0 : Int32) (-1 : Int32) (0 : Int32) (0 : Int32) (0 : Int32) (0 : Int32) (0 : Int32) (0 : Int64) (0 : Int32) (0 : Int32) (0 : Int32) (0 : Int32) (0 : Int32) (0 : Int64) (0 : Int32) (0 : Int32) (0 : Int32) (0 : Int32) (0 : Int32) (0 : Int32) (0 : Int64) (fun _ => 0) (fun _ => 0) (fun _ => 0) (fun _ => 0) (fun _ => 0) (fun _ => 0) (fun _ => 0) (fun _ => 0) (fun _ => 0) (fun _ => 0) (fun _ => 0) (fun _ => 0) (fun _ => 0) (fun _ => 0) (fun _ => 0) (fun _ => 0) (fun _ => 0) (fun _ => 0) (fun _ => 0) (fun _ => 0) (fun _ => 0) (fun _ => 0) (fun _ => 0) (fun _ => 0) (fun _ => 0))) H := hP
                have hD : va_D (fun q : Nat => s.heap.size ≤ q) ((wS93 cI cJ cZ cB o1 o1_1 o1_2 o1_3 o1_4 o1_5 o1_6 o1_7 o1_8 o1_9 o1_10 o1_11 o1_12 o1_13 o1_14 o1_15 o1_16 o1_17 o1_18 o1_19 o1_20 o1_21 o1_22 o1_23 o1_24 o1_25 (0 : Int32) (0 : Int32) (0 : Int32) (0 : Int32) (0 : Int32) (0 : Int32) (0 : Int32) (0 : Int32) (0 : Int32) (0 : Int32) (0 : Int32) (0 : Int32) (0 : Int32) (0 : Int32) (0 : Int32) (0 : Int32) (0 : Int32) (0 : Int32) (0 : Int32) (-1 : Int32) (0 : Int32) (0 : Int32) (0 : Int32) (0 : Int32) (0 : Int32) (0 : Int64) (0 : Int32) (0 : Int32) (0 : Int32) (0 : Int32) (0 : Int32) (0 : Int64) (0 : Int32) (0 : Int32) (0 : Int32) (0 : Int32) (0 : Int32) (0 : Int32) (0 : Int64) (fun _ => 0) (fun _ => 0) (fun _ => 0) (fun _ => 0) (fun _ => 0) (fun _ => 0) (fun _ => 0) (fun _ => 0) (fun _ => 0) (fun _ => 0) (fun _ => 0) (fun _ => 0) (fun _ => 0) (fun _ => 0) (fun _ => 0) (fun _ => 0) (fun _ => 0) (fun _ => 0) (fun _ => 0) (fun _ => 0) (fun _ => 0) (fun _ => 0) (fun _ => 0) (fun _ => 0) (fun _ => 0))) := hD
                refine W.widen (k := 32) (n := 66087) (by decide) (by decide) ?_
                refine lv_aload_n hx hb d_law_242 rfl (lv_at hl 1 rfl) ?_
                refine lv_aload_n hx hb d_law_243 rfl (lv_at hl 3 rfl) ?_
                refine lv_iload_n hx hb d_law_244 rfl (lv_at hl 0 rfl) ?_
                refine lv_iconst (v := 1) hx hb d_law_245 (by decide) ?_
                refine lv_iadd hx hb d_law_246 ?_
                refine tpi (y := (1 : Int32)) (by decide) ?_
                refine va_sld hx hb hX hbl hbA hS (by unfold vp_in; decide) d_law_247 ?_
                refine tpi (y := (xs 1)) rfl ?_
                have hPc := hP.sub (ws' := (wS93 cI cJ cZ cB o1 o1_1 o1_2 o1_3 o1_4 o1_5 o1_6 o1_7 o1_8 o1_9 o1_10 o1_11 o1_12 o1_13 o1_14 o1_15 o1_16 o1_17 o1_18 o1_19 o1_20 o1_21 o1_22 o1_23 o1_24 o1_25 (0 : Int32) (0 : Int32) (0 : Int32) (0 : Int32) (0 : Int32) (0 : Int32) (0 : Int32) (0 : Int32) (0 : Int32) (0 : Int32) (0 : Int32) (0 : Int32) (0 : Int32) (0 : Int32) (0 : Int32) (0 : Int32) (0 : Int32) (0 : Int32) (0 : Int32) (-1 : Int32) (0 : Int32) (0 : Int32) (0 : Int32) (0 : Int32) (0 : Int32) (0 : Int64) (0 : Int32) (0 : Int32) (0 : Int32) (0 : Int32) (0 : Int32) (0 : Int64) (0 : Int32) (0 : Int32) (0 : Int32) (0 : Int32) (0 : Int32) (0 : Int32) (0 : Int64) (fun _ => 0) (fun _ => 0) (fun _ => 0) (fun _ => 0) (fun _ => 0) (fun _ => 0) (fun _ => 0) (fun _ => 0) (fun _ => 0) (fun _ => 0) (fun _ => 0) (fun _ => 0) (fun _ => 0) (fun _ => 0) (fun _ => 0) (fun _ => 0) (fun _ => 0) (fun _ => 0) (fun _ => 0) (fun _ => 0) (fun _ => 0) (fun _ => 0) (fun _ => 0) (fun _ => 0) (fun _ => 0))) [0, 1, 2, 3, 4, 5, 6, 7, 8, 9, 10, 11, 12, 13, 14, 15, 16, 17, 18, 19, 20, 21, 22, 23, 24, 25] rfl
                have hDc := hD.sub (ws' := (wS93 cI cJ cZ cB o1 o1_1 o1_2 o1_3 o1_4 o1_5 o1_6 o1_7 o1_8 o1_9 o1_10 o1_11 o1_12 o1_13 o1_14 o1_15 o1_16 o1_17 o1_18 o1_19 o1_20 o1_21 o1_22 o1_23 o1_24 o1_25 (0 : Int32) (0 : Int32) (0 : Int32) (0 : Int32) (0 : Int32) (0 : Int32) (0 : Int32) (0 : Int32) (0 : Int32) (0 : Int32) (0 : Int32) (0 : Int32) (0 : Int32) (0 : Int32) (0 : Int32) (0 : Int32) (0 : Int32) (0 : Int32) (0 : Int32) (-1 : Int32) (0 : Int32) (0 : Int32) (0 : Int32) (0 : Int32) (0 : Int32) (0 : Int64) (0 : Int32) (0 : Int32) (0 : Int32) (0 : Int32) (0 : Int32) (0 : Int64) (0 : Int32) (0 : Int32) (0 : Int32) (0 : Int32) (0 : Int32) (0 : Int32) (0 : Int64) (fun _ => 0) (fun _ => 0) (fun _ => 0) (fun _ => 0) (fun _ => 0) (fun _ => 0) (fun _ => 0) (fun _ => 0) (fun _ => 0) (fun _ => 0) (fun _ => 0) (fun _ => 0) (fun _ => 0) (fun _ => 0) (fun _ => 0) (fun _ => 0) (fun _ => 0) (fun _ => 0) (fun _ => 0) (fun _ => 0) (fun _ => 0) (fun _ => 0) (fun _ => 0) (fun _ => 0) (fun _ => 0))) [0, 1, 2, 3, 4, 5, 6, 7, 8, 9, 10, 11, 12, 13, 14, 15, 16, 17, 18, 19, 20, 21, 22, 23, 24, 25] (by decide) rfl
                have hFc := va_free (wc := (wS93 cI cJ cZ cB o1 o1_1 o1_2 o1_3 o1_4 o1_5 o1_6 o1_7 o1_8 o1_9 o1_10 o1_11 o1_12 o1_13 o1_14 o1_15 o1_16 o1_17 o1_18 o1_19 o1_20 o1_21 o1_22 o1_23 o1_24 o1_25 (0 : Int32) (0 : Int32) (0 : Int32) (0 : Int32) (0 : Int32) (0 : Int32) (0 : Int32) (0 : Int32) (0 : Int32) (0 : Int32) (0 : Int32) (0 : Int32) (0 : Int32) (0 : Int32) (0 : Int32) (0 : Int32) (0 : Int32) (0 : Int32) (0 : Int32) (-1 : Int32) (0 : Int32) (0 : Int32) (0 : Int32) (0 : Int32) (0 : Int32) (0 : Int64) (0 : Int32) (0 : Int32) (0 : Int32) (0 : Int32) (0 : Int32) (0 : Int64) (0 : Int32) (0 : Int32) (0 : Int32) (0 : Int32) (0 : Int32) (0 : Int32) (0 : Int64) (fun _ => 0) (fun _ => 0) (fun _ => 0) (fun _ => 0) (fun _ => 0) (fun _ => 0) (fun _ => 0) (fun _ => 0) (fun _ => 0) (fun _ => 0) (fun _ => 0) (fun _ => 0) (fun _ => 0) (fun _ => 0) (fun _ => 0) (fun _ => 0) (fun _ => 0) (fun _ => 0) (fun _ => 0) (fun _ => 0) (fun _ => 0) (fun _ => 0) (fun _ => 0) (fun _ => 0) (fun _ => 0))) hD hS hA [0, 1, 2, 3, 4, 5, 6, 7, 8, 9, 10, 11, 12, 13, 14, 15, 16, 17, 18, 19, 20, 21, 22, 23, 24, 25] rfl
                refine va_calli (va_runV (C := "SignMachineModel") (As := [.int (xs 1)]) (rest := [.int (f_S_registerSign_1 (xs 1))]) ⟨hx, hb, hml, hown, hk⟩ (c_X_registerSign_1 l D cI cJ cZ cB o1 o1_1 o1_2 o1_3 o1_4 o1_5 o1_6 o1_7 o1_8 o1_9 o1_10 o1_11 o1_12 o1_13 o1_14 o1_15 o1_16 o1_17 o1_18 o1_19 o1_20 o1_21 o1_22 o1_23 o1_24 o1_25 H.size (xs 1)) (v_X_registerSign_1 hk k_1331 ⟨Nat.le_of_ble_eq_true rfl, Nat.le_of_ble_eq_true rfl⟩) (pM_v hK hPc hDc (ci := 7) (q0 := 0) rfl rfl rfl) rfl rfl hl.1 rfl (lv_room (Nat.le_of_ble_eq_true rfl)) d_law_248 ⟨Nat.le_of_ble_eq_true rfl, Nat.le_of_ble_eq_true rfl⟩) hS (fun q _ h => hFc q h) hFc (fun r u t H locs ht hvm hw hB hz1 hk1 hS => ?_)
                subst hw
                obtain ⟨hP, hD⟩ := va_join (wr := []) (w1 := []) hP hD [0, 1, 2, 3, 4, 5, 6, 7, 8, 9, 10, 11, 12, 13, 14, 15, 16, 17, 18, 19, 20, 21, 22, 23, 24, 25] [] rfl rfl (by decide) (by decide) hk1 hFc nil_P nil_D
                have hP : va_P D classes ([]) H := hP
                have hD : va_D (fun q : Nat => s.heap.size ≤ q) ([]) := hD
                refine W.widen (k := 32) (n := 66087) (by decide) (by decide) ?_
                refine lv_icmp_eq (tgt := 533) hx hb d_law_251 (by decide) (fun c18 => ?_) (fun c18 => absurd (show (f_S_registerSign_1 (xs 1)) = (f_X_registerSign_1 (xs 1)) from (e_registerSign _)) c18)
                refine lv_iinc (v := (6 : Int32)) (lv' := [(3, .int (6 : Int32)), (2, .ref o1), (1, .ref o0), (0, .ref b)]) hx hb d_law_533 hl (k := 0) rfl (by decide) (by decide) rfl (fun ls hl => ?_)
                refine lv_goto (tgt := 18) hx hb d_law_536 (by decide) ?_
                refine lv_iload_n hx hb d_law_18 rfl (lv_at hl 0 rfl) ?_
                refine lv_aload_n hx hb d_law_19 rfl (lv_at hl 3 rfl) ?_
                refine va_slen hx hb hX hbl hbA hS d_law_20 ?_
                refine tpi (y := (6 : Int32)) (by decide) ?_
                refine lv_bipush (v := 6) hx hb d_law_21 (by decide) ?_
                refine lv_isub hx hb d_law_23 ?_
                refine tpi (y := (0 : Int32)) (by decide) ?_
                refine lv_icmp_gt (tgt := 539) hx hb d_law_24 (by decide) (fun c19 => ?_) (fun c19 => absurd (show (0 : Int32) < (6 : Int32) from (by decide)) c19)
                refine lv_iconst (v := 1) hx hb d_law_539 (by decide) ?_
                refine va_forget (fun q hq => hS.2.2 q hq) ?_
                refine W.widen (k := 600000) (n := 7302250) (by decide) (by decide) ?_
                exact lw_ret hx hb hr hlocks d_law_540
              · by_cases c20 : ((xs 0) &&& (15 : Int32)) = (6 : Int32)
                · refine lv_tableIn (off := 223) (tgt := 256) hx hb d_law_33 (by rw [c20]; decide) (by rw [c20]; decide) (by rw [c20]; rfl) (by decide) ?_
                  refine lv_aload_n hx hb d_law_256 rfl (lv_at hl 2 rfl) ?_
                  refine lv_aload_n hx hb d_law_257 rfl (lv_at hl 3 rfl) ?_
                  refine lv_iload_n hx hb d_law_258 rfl (lv_at hl 0 rfl) ?_
                  refine lv_iconst (v := 1) hx hb d_law_259 (by decide) ?_
                  refine lv_iadd hx hb d_law_260 ?_
                  refine tpi (y := (1 : Int32)) (by decide) ?_
                  refine va_sld hx hb hX hbl hbA hS (by unfold vp_in; decide) d_law_261 ?_
                  refine tpi (y := (xs 1)) rfl ?_
                  have hPc := hP.sub (ws' := (wS10 cI cJ cZ cB o0 o0_1 o0_2 o0_3 o0_4 o0_5 (0 : Int32) (0 : Int32) (0 : Int32) (0 : Int32) (0 : Int32) (0 : Int32) (0 : Int32) (0 : Int32) (0 : Int32) (0 : Int32) (fun _ => 0) (fun _ => 0) (0 : Int32) (0 : Int32))) [0, 1, 2, 3, 4, 5] rfl
                  have hDc := hD.sub (ws' := (wS10 cI cJ cZ cB o0 o0_1 o0_2 o0_3 o0_4 o0_5 (0 : Int32) (0 : Int32) (0 : Int32) (0 : Int32) (0 : Int32) (0 : Int32) (0 : Int32) (0 : Int32) (0 : Int32) (0 : Int32) (fun _ => 0) (fun _ => 0) (0 : Int32) (0 : Int32))) [0, 1, 2, 3, 4, 5] (by decide) rfl
                  have hFc := va_free (wc := (wS10 cI cJ cZ cB o0 o0_1 o0_2 o0_3 o0_4 o0_5 (0 : Int32) (0 : Int32) (0 : Int32) (0 : Int32) (0 : Int32) (0 : Int32) (0 : Int32) (0 : Int32) (0 : Int32) (0 : Int32) (fun _ => 0) (fun _ => 0) (0 : Int32) (0 : Int32))) hD hS hA [0, 1, 2, 3, 4, 5] rfl
                  refine va_calli (va_runV (C := "SignMachine") (As := [.int (xs 1)]) (rest := []) ⟨hx, hb, hml, hown, hk⟩ (c_S_registerSize_1 l D cI cJ cZ cB o0 o0_1 o0_2 o0_3 o0_4 o0_5 H.size (xs 1)) (v_S_registerSize_1 hk k_483 ⟨Nat.le_of_ble_eq_true rfl, Nat.le_of_ble_eq_true rfl⟩) (pM_v hK hPc hDc (ci := 0) (q0 := 0) rfl rfl rfl) rfl rfl hl.1 rfl (lv_room (Nat.le_of_ble_eq_true rfl)) d_law_262 ⟨Nat.le_of_ble_eq_true rfl, Nat.le_of_ble_eq_true rfl⟩) hS (fun q _ h => hFc q h) hFc (fun r u t H locs ht hvm hw hB hz1 hk1 hS => ?_)
                  subst hw
                  obtain ⟨hP, hD⟩ := va_join (wr := (wS93 cI cJ cZ cB o1 o1_1 o1_2 o1_3 o1_4 o1_5 o1_6 o1_7 o1_8 o1_9 o1_10 o1_11 o1_12 o1_13 o1_14 o1_15 o1_16 o1_17 o1_18 o1_19 o1_20 o1_21 o1_22 o1_23 o1_24 o1_25 (0 : Int32) (0 : Int32) (0 : Int32) (0 : Int32) (0 : Int32) (0 : Int32) (0 : Int32) (0 : Int32) (0 : Int32) (0 : Int32) (0 : Int32) (0 : Int32) (0 : Int32) (0 : Int32) (0 : Int32) (0 : Int32) (0 : Int32) (0 : Int32) (0 : Int32) (-1 : Int32) (0 : Int32) (0 : Int32) (0 : Int32) (0 : Int32) (0 : Int32) (0 : Int64) (0 : Int32) (0 : Int32) (0 : Int32) (0 : Int32) (0 : Int32) (0 : Int64) (0 : Int32) (0 : Int32) (0 : Int32) (0 : Int32) (0 : Int32) (0 : Int32) (0 : Int64) (fun _ => 0) (fun _ => 0) (fun _ => 0) (fun _ => 0) (fun _ => 0) (fun _ => 0) (fun _ => 0) (fun _ => 0) (fun _ => 0) (fun _ => 0) (fun _ => 0) (fun _ => 0) (fun _ => 0) (fun _ => 0) (fun _ => 0) (fun _ => 0) (fun _ => 0) (fun _ => 0) (fun _ => 0) (fun _ => 0) (fun _ => 0) (fun _ => 0) (fun _ => 0) (fun _ => 0) (fun _ => 0))) (w1 := []) hP hD [0, 1, 2, 3, 4, 5] [6, 7, 8, 9, 10, 11, 12, 13, 14, 15, 16, 17, 18, 19, 20, 21, 22, 23, 24, 25, 26, 27, 28, 29, 30, 31] rfl rfl (by decide) (by decide) hk1 hFc nil_P nil_D
                  have hP : va_P D classes ((wS93 cI cJ cZ cB o1 o1_1 o1_2 o1_3 o1_4 o1_5 o1_6 o1_7 o1_8 o1_9 o1_10 o1_11 o1_12 o1_13 o1_14 o1_15 o1_16 o1_17 o1_18 o1_19 o1_20 o1_21 o1_22 o1_23 o1_24 o1_25 (0 : Int32) (0 : Int32) (0 : Int32) (0 : Int32) (0 : Int32) (0 : Int32) (0 : Int32) (0 : Int32) (0 : Int32) (0 : Int32) (0 : Int32) (0 : Int32) (0 : Int32) (0 : Int32) (0 : Int32) (0 : Int32) (0 : Int32) (0 : Int32) (0 : Int32) (-1 : Int32) (0 : Int32) (0 : Int32) (0 : Int32) (0 : Int32) (0 : Int32) (0 : Int64) (0 : Int32) (0 : Int32) (0 : Int32) (0 : Int32) (0 : Int32) (0 : Int64) (0 : Int32) (0 : Int32) (0 : Int32) (0 : Int32) (0 : Int32) (0 : Int32) (0 : Int64) (fun _ => 0) (fun _ => 0) (fun _ => 0) (fun _ => 0) (fun _ => 0) (fun _ => 0) (fun _ => 0) (fun _ => 0) (fun _ => 0) (fun _ => 0) (fun _ => 0) (fun _ => 0) (fun _ => 0) (fun _ => 0) (fun _ => 0) (fun _ => 0) (fun _ => 0) (fun _ => 0) (fun _ => 0) (fun _ => 0) (fun _ => 0) (fun _ => 0) (fun _ => 0) (fun _ => 0) (fun _ => 0))) H := hP
                  have hD : va_D (fun q : Nat => s.heap.size ≤ q) ((wS93 cI cJ cZ cB o1 o1_1 o1_2 o1_3 o1_4 o1_5 o1_6 o1_7 o1_8 o1_9 o1_10 o1_11 o1_12 o1_13 o1_14 o1_15 o1_16 o1_17 o1_18 o1_19 o1_20 o1_21 o1_22 o1_23 o1_24 o1_25 (0 : Int32) (0 : Int32) (0 : Int32) (0 : Int32) (0 : Int32) (0 : Int32) (0 : Int32) (0 : Int32) (0 : Int32) (0 : Int32) (0 : Int32) (0 : Int32) (0 : Int32) (0 : Int32) (0 : Int32) (0 : Int32) (0 : Int32) (0 : Int32) (0 : Int32) (-1 : Int32) (0 : Int32) (0 : Int32) (0 : Int32) (0 : Int32) (0 : Int32) (0 : Int64) (0 : Int32) (0 : Int32) (0 : Int32) (0 : Int32) (0 : Int32) (0 : Int64) (0 : Int32) (0 : Int32) (0 : Int32) (0 : Int32) (0 : Int32) (0 : Int32) (0 : Int64) (fun _ => 0) (fun _ => 0) (fun _ => 0) (fun _ => 0) (fun _ => 0) (fun _ => 0) (fun _ => 0) (fun _ => 0) (fun _ => 0) (fun _ => 0) (fun _ => 0) (fun _ => 0) (fun _ => 0) (fun _ => 0) (fun _ => 0) (fun _ => 0) (fun _ => 0) (fun _ => 0) (fun _ => 0) (fun _ => 0) (fun _ => 0) (fun _ => 0) (fun _ => 0) (fun _ => 0) (fun _ => 0))) := hD
                  refine W.widen (k := 32) (n := 66087) (by decide) (by decide) ?_
                  refine lv_aload_n hx hb d_law_265 rfl (lv_at hl 1 rfl) ?_
                  refine lv_aload_n hx hb d_law_266 rfl (lv_at hl 3 rfl) ?_
                  refine lv_iload_n hx hb d_law_267 rfl (lv_at hl 0 rfl) ?_
                  refine lv_iconst (v := 1) hx hb d_law_268 (by decide) ?_
                  refine lv_iadd hx hb d_law_269 ?_
                  refine tpi (y := (1 : Int32)) (by decide) ?_
                  refine va_sld hx hb hX hbl hbA hS (by unfold vp_in; decide) d_law_270 ?_
                  refine tpi (y := (xs 1)) rfl ?_
                  have hPc := hP.sub (ws' := (wS93 cI cJ cZ cB o1 o1_1 o1_2 o1_3 o1_4 o1_5 o1_6 o1_7 o1_8 o1_9 o1_10 o1_11 o1_12 o1_13 o1_14 o1_15 o1_16 o1_17 o1_18 o1_19 o1_20 o1_21 o1_22 o1_23 o1_24 o1_25 (0 : Int32) (0 : Int32) (0 : Int32) (0 : Int32) (0 : Int32) (0 : Int32) (0 : Int32) (0 : Int32) (0 : Int32) (0 : Int32) (0 : Int32) (0 : Int32) (0 : Int32) (0 : Int32) (0 : Int32) (0 : Int32) (0 : Int32) (0 : Int32) (0 : Int32) (-1 : Int32) (0 : Int32) (0 : Int32) (0 : Int32) (0 : Int32) (0 : Int32) (0 : Int64) (0 : Int32) (0 : Int32) (0 : Int32) (0 : Int32) (0 : Int32) (0 : Int64) (0 : Int32) (0 : Int32) (0 : Int32) (0 : Int32) (0 : Int32) (0 : Int32) (0 : Int64) (fun _ => 0) (fun _ => 0) (fun _ => 0) (fun _ => 0) (fun _ => 0) (fun _ => 0) (fun _ => 0) (fun _ => 0) (fun _ => 0) (fun _ => 0) (fun _ => 0) (fun _ => 0) (fun _ => 0) (fun _ => 0) (fun _ => 0) (fun _ => 0) (fun _ => 0) (fun _ => 0) (fun _ => 0) (fun _ => 0) (fun _ => 0) (fun _ => 0) (fun _ => 0) (fun _ => 0) (fun _ => 0))) [0, 1, 2, 3, 4, 5, 6, 7, 8, 9, 10, 11, 12, 13, 14, 15, 16, 17, 18, 19, 20, 21, 22, 23, 24, 25] rfl
                  have hDc := hD.sub (ws' := (wS93 cI cJ cZ cB o1 o1_1 o1_2 o1_3 o1_4 o1_5 o1_6 o1_7 o1_8 o1_9 o1_10 o1_11 o1_12 o1_13 o1_14 o1_15 o1_16 o1_17 o1_18 o1_19 o1_20 o1_21 o1_22 o1_23 o1_24 o1_25 (0 : Int32) (0 : Int32) (0 : Int32) (0 : Int32) (0 : Int32) (0 : Int32) (0 : Int32) (0 : Int32) (0 : Int32) (0 : Int32) (0 : Int32) (0 : Int32) (0 : Int32) (0 : Int32) (0 : Int32) (0 : Int32) (0 : Int32) (0 : Int32) (0 : Int32) (-1 : Int32) (0 : Int32) (0 : Int32) (0 : Int32) (0 : Int32) (0 : Int32) (0 : Int64) (0 : Int32) (0 : Int32) (0 : Int32) (0 : Int32) (0 : Int32) (0 : Int64) (0 : Int32) (0 : Int32) (0 : Int32) (0 : Int32) (0 : Int32) (0 : Int32) (0 : Int64) (fun _ => 0) (fun _ => 0) (fun _ => 0) (fun _ => 0) (fun _ => 0) (fun _ => 0) (fun _ => 0) (fun _ => 0) (fun _ => 0) (fun _ => 0) (fun _ => 0) (fun _ => 0) (fun _ => 0) (fun _ => 0) (fun _ => 0) (fun _ => 0) (fun _ => 0) (fun _ => 0) (fun _ => 0) (fun _ => 0) (fun _ => 0) (fun _ => 0) (fun _ => 0) (fun _ => 0) (fun _ => 0))) [0, 1, 2, 3, 4, 5, 6, 7, 8, 9, 10, 11, 12, 13, 14, 15, 16, 17, 18, 19, 20, 21, 22, 23, 24, 25] (by decide) rfl
                  have hFc := va_free (wc := (wS93 cI cJ cZ cB o1 o1_1 o1_2 o1_3 o1_4 o1_5 o1_6 o1_7 o1_8 o1_9 o1_10 o1_11 o1_12 o1_13 o1_14 o1_15 o1_16 o1_17 o1_18 o1_19 o1_20 o1_21 o1_22 o1_23 o1_24 o1_25 (0 : Int32) (0 : Int32) (0 : Int32) (0 : Int32) (0 : Int32) (0 : Int32) (0 : Int32) (0 : Int32) (0 : Int32) (0 : Int32) (0 : Int32) (0 : Int32) (0 : Int32) (0 : Int32) (0 : Int32) (0 : Int32) (0 : Int32) (0 : Int32) (0 : Int32) (-1 : Int32) (0 : Int32) (0 : Int32) (0 : Int32) (0 : Int32) (0 : Int32) (0 : Int64) (0 : Int32) (0 : Int32) (0 : Int32) (0 : Int32) (0 : Int32) (0 : Int64) (0 : Int32) (0 : Int32) (0 : Int32) (0 : Int32) (0 : Int32) (0 : Int32) (0 : Int64) (fun _ => 0) (fun _ => 0) (fun _ => 0) (fun _ => 0) (fun _ => 0) (fun _ => 0) (fun _ => 0) (fun _ => 0) (fun _ => 0) (fun _ => 0) (fun _ => 0) (fun _ => 0) (fun _ => 0) (fun _ => 0) (fun _ => 0) (fun _ => 0) (fun _ => 0) (fun _ => 0) (fun _ => 0) (fun _ => 0) (fun _ => 0) (fun _ => 0) (fun _ => 0) (fun _ => 0) (fun _ => 0))) hD hS hA [0, 1, 2, 3, 4, 5, 6, 7, 8, 9, 10, 11, 12, 13, 14, 15, 16, 17, 18, 19, 20, 21, 22, 23, 24, 25] rfl
                  refine va_calli (va_runV (C := "SignMachineModel") (As := [.int (xs 1)]) (rest := [.int (f_S_registerSize_1 (xs 1))]) ⟨hx, hb, hml, hown, hk⟩ (c_X_registerSize_1 l D cI cJ cZ cB o1 o1_1 o1_2 o1_3 o1_4 o1_5 o1_6 o1_7 o1_8 o1_9 o1_10 o1_11 o1_12 o1_13 o1_14 o1_15 o1_16 o1_17 o1_18 o1_19 o1_20 o1_21 o1_22 o1_23 o1_24 o1_25 H.size (xs 1)) (v_X_registerSize_1 hk k_1336 ⟨Nat.le_of_ble_eq_true rfl, Nat.le_of_ble_eq_true rfl⟩) (pM_v hK hPc hDc (ci := 7) (q0 := 0) rfl rfl rfl) rfl rfl hl.1 rfl (lv_room (Nat.le_of_ble_eq_true rfl)) d_law_271 ⟨Nat.le_of_ble_eq_true rfl, Nat.le_of_ble_eq_true rfl⟩) hS (fun q _ h => hFc q h) hFc (fun r u t H locs ht hvm hw hB hz1 hk1 hS => ?_)
                  subst hw
                  obtain ⟨hP, hD⟩ := va_join (wr := []) (w1 := []) hP hD [0, 1, 2, 3, 4, 5, 6, 7, 8, 9, 10, 11, 12, 13, 14, 15, 16, 17, 18, 19, 20, 21, 22, 23, 24, 25] [] rfl rfl (by decide) (by decide) hk1 hFc nil_P nil_D
                  have hP : va_P D classes ([]) H := hP
                  have hD : va_D (fun q : Nat => s.heap.size ≤ q) ([]) := hD
                  refine W.widen (k := 32) (n := 66087) (by decide) (by decide) ?_
                  refine lv_icmp_eq (tgt := 533) hx hb d_law_274 (by decide) (fun c21 => ?_) (fun c21 => absurd (show (f_S_registerSize_1 (xs 1)) = (f_X_registerSize_1 (xs 1)) from (e_registerSize _)) c21)
                  refine lv_iinc (v := (6 : Int32)) (lv' := [(3, .int (6 : Int32)), (2, .ref o1), (1, .ref o0), (0, .ref b)]) hx hb d_law_533 hl (k := 0) rfl (by decide) (by decide) rfl (fun ls hl => ?_)
                  refine lv_goto (tgt := 18) hx hb d_law_536 (by decide) ?_
                  refine lv_iload_n hx hb d_law_18 rfl (lv_at hl 0 rfl) ?_
                  refine lv_aload_n hx hb d_law_19 rfl (lv_at hl 3 rfl) ?_
                  refine va_slen hx hb hX hbl hbA hS d_law_20 ?_
                  refine tpi (y := (6 : Int32)) (by decide) ?_
                  refine lv_bipush (v := 6) hx hb d_law_21 (by decide) ?_
                  refine lv_isub hx hb d_law_23 ?_
                  refine tpi (y := (0 : Int32)) (by decide) ?_
                  refine lv_icmp_gt (tgt := 539) hx hb d_law_24 (by decide) (fun c22 => ?_) (fun c22 => absurd (show (0 : Int32) < (6 : Int32) from (by decide)) c22)
                  refine lv_iconst (v := 1) hx hb d_law_539 (by decide) ?_
                  refine va_forget (fun q hq => hS.2.2 q hq) ?_
                  refine W.widen (k := 600000) (n := 7302250) (by decide) (by decide) ?_
                  exact lw_ret hx hb hr hlocks d_law_540
                · by_cases c23 : ((xs 0) &&& (15 : Int32)) = (7 : Int32)
                  · refine lv_tableIn (off := 246) (tgt := 279) hx hb d_law_33 (by rw [c23]; decide) (by rw [c23]; decide) (by rw [c23]; rfl) (by decide) ?_
                    refine lv_aload_n hx hb d_law_279 rfl (lv_at hl 2 rfl) ?_
                    refine lv_aload_n hx hb d_law_280 rfl (lv_at hl 3 rfl) ?_
                    refine lv_iload_n hx hb d_law_281 rfl (lv_at hl 0 rfl) ?_
                    refine lv_iconst (v := 1) hx hb d_law_282 (by decide) ?_
                    refine lv_iadd hx hb d_law_283 ?_
                    refine tpi (y := (1 : Int32)) (by decide) ?_
                    refine va_sld hx hb hX hbl hbA hS (by unfold vp_in; decide) d_law_284 ?_
                    refine tpi (y := (xs 1)) rfl ?_
                    refine lv_aload_n hx hb d_law_285 rfl (lv_at hl 3 rfl) ?_
                    refine lv_iload_n hx hb d_law_286 rfl (lv_at hl 0 rfl) ?_
                    refine lv_iconst (v := 2) hx hb d_law_287 (by decide) ?_
                    refine lv_iadd hx hb d_law_288 ?_
                    refine tpi (y := (2 : Int32)) (by decide) ?_
                    refine va_sld hx hb hX hbl hbA hS (by unfold vp_in; decide) d_law_289 ?_
                    refine tpi (y := (xs 2)) rfl ?_
                    refine lv_aload_n hx hb d_law_290 rfl (lv_at hl 3 rfl) ?_
                    refine lv_iload_n hx hb d_law_291 rfl (lv_at hl 0 rfl) ?_
                    refine lv_iconst (v := 3) hx hb d_law_292 (by decide) ?_
                    refine lv_iadd hx hb d_law_293 ?_
                    refine tpi (y := (3 : Int32)) (by decide) ?_
                    refine va_sld hx hb hX hbl hbA hS (by unfold vp_in; decide) d_law_294 ?_
                    refine tpi (y := (xs 3)) rfl ?_
                    have hPc := hP.sub (ws' := (wS10 cI cJ cZ cB o0 o0_1 o0_2 o0_3 o0_4 o0_5 (0 : Int32) (0 : Int32) (0 : Int32) (0 : Int32) (0 : Int32) (0 : Int32) (0 : Int32) (0 : Int32) (0 : Int32) (0 : Int32) (fun _ => 0) (fun _ => 0) (0 : Int32) (0 : Int32))) [0, 1, 2, 3, 4, 5] rfl
                    have hDc := hD.sub (ws' := (wS10 cI cJ cZ cB o0 o0_1 o0_2 o0_3 o0_4 o0_5 (0 : Int32) (0 : Int32) (0 : Int32) (0 : Int32) (0 : Int32) (0 : Int32) (0 : Int32) (0 : Int32) (0 : Int32) (0 : Int32) (fun _ => 0) (fun _ => 0) (0 : Int32) (0 : Int32))) [0, 1, 2, 3, 4, 5] (by decide) rfl
                    have hFc := va_free (wc := (wS10 cI cJ cZ cB o0 o0_1 o0_2 o0_3 o0_4 o0_5 (0 : Int32) (0 : Int32) (0 : Int32) (0 : Int32) (0 : Int32) (0 : Int32) (0 : Int32) (0 : Int32) (0 : Int32) (0 : Int32) (fun _ => 0) (fun _ => 0) (0 : Int32) (0 : Int32))) hD hS hA [0, 1, 2, 3, 4, 5] rfl
                    refine va_calli (va_runV (C := "SignMachine") (As := [.int (xs 1), .int (xs 2), .int (xs 3)]) (rest := []) ⟨hx, hb, hml, hown, hk⟩ (c_S_set_1 l D cI cJ cZ cB o0 o0_1 o0_2 o0_3 o0_4 o0_5 H.size (xs 1) (xs 2) (xs 3)) (v_S_set_1 hk k_487 ⟨Nat.le_of_ble_eq_true rfl, Nat.le_of_ble_eq_true rfl⟩) (pM_v hK hPc hDc (ci := 0) (q0 := 0) rfl rfl rfl) rfl rfl hl.1 rfl (lv_room (Nat.le_of_ble_eq_true rfl)) d_law_295 ⟨Nat.le_of_ble_eq_true rfl, Nat.le_of_ble_eq_true rfl⟩) hS (fun q _ h => hFc q h) hFc (fun r u t H locs ht hvm hw hB hz1 hk1 hS => ?_)
                    subst hw
                    obtain ⟨hP, hD⟩ := va_join (wr := (wS93 cI cJ cZ cB o1 o1_1 o1_2 o1_3 o1_4 o1_5 o1_6 o1_7 o1_8 o1_9 o1_10 o1_11 o1_12 o1_13 o1_14 o1_15 o1_16 o1_17 o1_18 o1_19 o1_20 o1_21 o1_22 o1_23 o1_24 o1_25 (0 : Int32) (0 : Int32) (0 : Int32) (0 : Int32) (0 : Int32) (0 : Int32) (0 : Int32) (0 : Int32) (0 : Int32) (0 : Int32) (0 : Int32) (0 : Int32) (0 : Int32) (0 : Int32) (0 : Int32) (0 : Int32) (0 : Int32) (0 : Int32) (0 : Int32) (-1 : Int32) (0 : Int32) (0 : Int32) (0 : Int32) (0 : Int32) (0 : Int32) (0 : Int64) (0 : Int32) (0 : Int32) (0 : Int32) (0 : Int32) (0 : Int32) (0 : Int64) (0 : Int32) (0 : Int32) (0 : Int32) (0 : Int32) (0 : Int32) (0 : Int32) (0 : Int64) (fun _ => 0) (fun _ => 0) (fun _ => 0) (fun _ => 0) (fun _ => 0) (fun _ => 0) (fun _ => 0) (fun _ => 0) (fun _ => 0) (fun _ => 0) (fun _ => 0) (fun _ => 0) (fun _ => 0) (fun _ => 0) (fun _ => 0) (fun _ => 0) (fun _ => 0) (fun _ => 0) (fun _ => 0) (fun _ => 0) (fun _ => 0) (fun _ => 0) (fun _ => 0) (fun _ => 0) (fun _ => 0))) (w1 := []) hP hD [0, 1, 2, 3, 4, 5] [6, 7, 8, 9, 10, 11, 12, 13, 14, 15, 16, 17, 18, 19, 20, 21, 22, 23, 24, 25, 26, 27, 28, 29, 30, 31] rfl rfl (by decide) (by decide) hk1 hFc nil_P nil_D
                    have hP : va_P D classes ((wS93 cI cJ cZ cB o1 o1_1 o1_2 o1_3 o1_4 o1_5 o1_6 o1_7 o1_8 o1_9 o1_10 o1_11 o1_12 o1_13 o1_14 o1_15 o1_16 o1_17 o1_18 o1_19 o1_20 o1_21 o1_22 o1_23 o1_24 o1_25 (0 : Int32) (0 : Int32) (0 : Int32) (0 : Int32) (0 : Int32) (0 : Int32) (0 : Int32) (0 : Int32) (0 : Int32) (0 : Int32) (0 : Int32) (0 : Int32) (0 : Int32) (0 : Int32) (0 : Int32) (0 : Int32) (0 : Int32) (0 : Int32) (0 : Int32) (-1 : Int32) (0 : Int32) (0 : Int32) (0 : Int32) (0 : Int32) (0 : Int32) (0 : Int64) (0 : Int32) (0 : Int32) (0 : Int32) (0 : Int32) (0 : Int32) (0 : Int64) (0 : Int32) (0 : Int32) (0 : Int32) (0 : Int32) (0 : Int32) (0 : Int32) (0 : Int64) (fun _ => 0) (fun _ => 0) (fun _ => 0) (fun _ => 0) (fun _ => 0) (fun _ => 0) (fun _ => 0) (fun _ => 0) (fun _ => 0) (fun _ => 0) (fun _ => 0) (fun _ => 0) (fun _ => 0) (fun _ => 0) (fun _ => 0) (fun _ => 0) (fun _ => 0) (fun _ => 0) (fun _ => 0) (fun _ => 0) (fun _ => 0) (fun _ => 0) (fun _ => 0) (fun _ => 0) (fun _ => 0))) H := hP
                    have hD : va_D (fun q : Nat => s.heap.size ≤ q) ((wS93 cI cJ cZ cB o1 o1_1 o1_2 o1_3 o1_4 o1_5 o1_6 o1_7 o1_8 o1_9 o1_10 o1_11 o1_12 o1_13 o1_14 o1_15 o1_16 o1_17 o1_18 o1_19 o1_20 o1_21 o1_22 o1_23 o1_24 o1_25 (0 : Int32) (0 : Int32) (0 : Int32) (0 : Int32) (0 : Int32) (0 : Int32) (0 : Int32) (0 : Int32) (0 : Int32) (0 : Int32) (0 : Int32) (0 : Int32) (0 : Int32) (0 : Int32) (0 : Int32) (0 : Int32) (0 : Int32) (0 : Int32) (0 : Int32) (-1 : Int32) (0 : Int32) (0 : Int32) (0 : Int32) (0 : Int32) (0 : Int32) (0 : Int64) (0 : Int32) (0 : Int32) (0 : Int32) (0 : Int32) (0 : Int32) (0 : Int64) (0 : Int32) (0 : Int32) (0 : Int32) (0 : Int32) (0 : Int32) (0 : Int32) (0 : Int64) (fun _ => 0) (fun _ => 0) (fun _ => 0) (fun _ => 0) (fun _ => 0) (fun _ => 0) (fun _ => 0) (fun _ => 0) (fun _ => 0) (fun _ => 0) (fun _ => 0) (fun _ => 0) (fun _ => 0) (fun _ => 0) (fun _ => 0) (fun _ => 0) (fun _ => 0) (fun _ => 0) (fun _ => 0) (fun _ => 0) (fun _ => 0) (fun _ => 0) (fun _ => 0) (fun _ => 0) (fun _ => 0))) := hD
                    refine W.widen (k := 32) (n := 66087) (by decide) (by decide) ?_
                    refine lv_aload_n hx hb d_law_298 rfl (lv_at hl 1 rfl) ?_
                    refine lv_aload_n hx hb d_law_299 rfl (lv_at hl 3 rfl) ?_
                    refine lv_iload_n hx hb d_law_300 rfl (lv_at hl 0 rfl) ?_
                    refine lv_iconst (v := 1) hx hb d_law_301 (by decide) ?_
                    refine lv_iadd hx hb d_law_302 ?_
                    refine tpi (y := (1 : Int32)) (by decide) ?_
                    refine va_sld hx hb hX hbl hbA hS (by unfold vp_in; decide) d_law_303 ?_
                    refine tpi (y := (xs 1)) rfl ?_
                    refine lv_aload_n hx hb d_law_304 rfl (lv_at hl 3 rfl) ?_
                    refine lv_iload_n hx hb d_law_305 rfl (lv_at hl 0 rfl) ?_
                    refine lv_iconst (v := 2) hx hb d_law_306 (by decide) ?_
                    refine lv_iadd hx hb d_law_307 ?_
                    refine tpi (y := (2 : Int32)) (by decide) ?_
                    refine va_sld hx hb hX hbl hbA hS (by unfold vp_in; decide) d_law_308 ?_
                    refine tpi (y := (xs 2)) rfl ?_
                    refine lv_aload_n hx hb d_law_309 rfl (lv_at hl 3 rfl) ?_
                    refine lv_iload_n hx hb d_law_310 rfl (lv_at hl 0 rfl) ?_
                    refine lv_iconst (v := 3) hx hb d_law_311 (by decide) ?_
                    refine lv_iadd hx hb d_law_312 ?_
                    refine tpi (y := (3 : Int32)) (by decide) ?_
                    refine va_sld hx hb hX hbl hbA hS (by unfold vp_in; decide) d_law_313 ?_
                    refine tpi (y := (xs 3)) rfl ?_
                    have hPc := hP.sub (ws' := (wS93 cI cJ cZ cB o1 o1_1 o1_2 o1_3 o1_4 o1_5 o1_6 o1_7 o1_8 o1_9 o1_10 o1_11 o1_12 o1_13 o1_14 o1_15 o1_16 o1_17 o1_18 o1_19 o1_20 o1_21 o1_22 o1_23 o1_24 o1_25 (0 : Int32) (0 : Int32) (0 : Int32) (0 : Int32) (0 : Int32) (0 : Int32) (0 : Int32) (0 : Int32) (0 : Int32) (0 : Int32) (0 : Int32) (0 : Int32) (0 : Int32) (0 : Int32) (0 : Int32) (0 : Int32) (0 : Int32) (0 : Int32) (0 : Int32) (-1 : Int32) (0 : Int32) (0 : Int32) (0 : Int32) (0 : Int32) (0 : Int32) (0 : Int64) (0 : Int32) (0 : Int32) (0 : Int32) (0 : Int32) (0 : Int32) (0 : Int64) (0 : Int32) (0 : Int32) (0 : Int32) (0 : Int32) (0 : Int32) (0 : Int32) (0 : Int64) (fun _ => 0) (fun _ => 0) (fun _ => 0) (fun _ => 0) (fun _ => 0) (fun _ => 0) (fun _ => 0) (fun _ => 0) (fun _ => 0) (fun _ => 0) (fun _ => 0) (fun _ => 0) (fun _ => 0) (fun _ => 0) (fun _ => 0) (fun _ => 0) (fun _ => 0) (fun _ => 0) (fun _ => 0) (fun _ => 0) (fun _ => 0) (fun _ => 0) (fun _ => 0) (fun _ => 0) (fun _ => 0))) [0, 1, 2, 3, 4, 5, 6, 7, 8, 9, 10, 11, 12, 13, 14, 15, 16, 17, 18, 19, 20, 21, 22, 23, 24, 25] rfl
                    have hDc := hD.sub (ws' := (wS93 cI cJ cZ cB o1 o1_1 o1_2 o1_3 o1_4 o1_5 o1_6 o1_7 o1_8 o1_9 o1_10 o1_11 o1_12 o1_13 o1_14 o1_15 o1_16 o1_17 o1_18 o1_19 o1_20 o1_21 o1_22 o1_23 o1_24 o1_25 (0 : Int32) (0 : Int32) (0 : Int32) (0 : Int32) (0 : Int32) (0 : Int32) (0 : Int32) (0 : Int32) (0 : Int32) (0 : Int32) (0 : Int32) (0 : Int32) (0 : Int32) (0 : Int32) (0 : Int32) (0 : Int32) (0 : Int32) (0 : Int32) (0 : Int32) (-1 : Int32) (0 : Int32) (0 : Int32) (0 : Int32) (0 : Int32) (0 : Int32) (0 : Int64) (0 : Int32) (0 : Int32) (0 : Int32) (0 : Int32) (0 : Int32) (0 : Int64) (0 : Int32) (0 : Int32) (0 : Int32) (0 : Int32) (0 : Int32) (0 : Int32) (0 : Int64) (fun _ => 0) (fun _ => 0) (fun _ => 0) (fun _ => 0) (fun _ => 0) (fun _ => 0) (fun _ => 0) (fun _ => 0) (fun _ => 0) (fun _ => 0) (fun _ => 0) (fun _ => 0) (fun _ => 0) (fun _ => 0) (fun _ => 0) (fun _ => 0) (fun _ => 0) (fun _ => 0) (fun _ => 0) (fun _ => 0) (fun _ => 0) (fun _ => 0) (fun _ => 0) (fun _ => 0) (fun _ => 0))) [0, 1, 2, 3, 4, 5, 6, 7, 8, 9, 10, 11, 12, 13, 14, 15, 16, 17, 18, 19, 20, 21, 22, 23, 24, 25] (by decide) rfl
                    have hFc := va_free (wc := (wS93 cI cJ cZ cB o1 o1_1 o1_2 o1_3 o1_4 o1_5 o1_6 o1_7 o1_8 o1_9 o1_10 o1_11 o1_12 o1_13 o1_14 o1_15 o1_16 o1_17 o1_18 o1_19 o1_20 o1_21 o1_22 o1_23 o1_24 o1_25 (0 : Int32) (0 : Int32) (0 : Int32) (0 : Int32) (0 : Int32) (0 : Int32) (0 : Int32) (0 : Int32) (0 : Int32) (0 : Int32) (0 : Int32) (0 : Int32) (0 : Int32) (0 : Int32) (0 : Int32) (0 : Int32) (0 : Int32) (0 : Int32) (0 : Int32) (-1 : Int32) (0 : Int32) (0 : Int32) (0 : Int32) (0 : Int32) (0 : Int32) (0 : Int64) (0 : Int32) (0 : Int32) (0 : Int32) (0 : Int32) (0 : Int32) (0 : Int64) (0 : Int32) (0 : Int32) (0 : Int32) (0 : Int32) (0 : Int32) (0 : Int32) (0 : Int64) (fun _ => 0) (fun _ => 0) (fun _ => 0) (fun _ => 0) (fun _ => 0) (fun _ => 0) (fun _ => 0) (fun _ => 0) (fun _ => 0) (fun _ => 0) (fun _ => 0) (fun _ => 0) (fun _ => 0) (fun _ => 0) (fun _ => 0) (fun _ => 0) (fun _ => 0) (fun _ => 0) (fun _ => 0) (fun _ => 0) (fun _ => 0) (fun _ => 0) (fun _ => 0) (fun _ => 0) (fun _ => 0))) hD hS hA [0, 1, 2, 3, 4, 5, 6, 7, 8, 9, 10, 11, 12, 13, 14, 15, 16, 17, 18, 19, 20, 21, 22, 23, 24, 25] rfl
                    refine va_calli (va_runV (C := "SignMachineModel") (As := [.int (xs 1), .int (xs 2), .int (xs 3)]) (rest := [.int (f_S_set_1 (xs 1) (xs 2) (xs 3))]) ⟨hx, hb, hml, hown, hk⟩ (c_X_set_1 l D cI cJ cZ cB o1 o1_1 o1_2 o1_3 o1_4 o1_5 o1_6 o1_7 o1_8 o1_9 o1_10 o1_11 o1_12 o1_13 o1_14 o1_15 o1_16 o1_17 o1_18 o1_19 o1_20 o1_21 o1_22 o1_23 o1_24 o1_25 H.size (xs 1) (xs 2) (xs 3)) (v_X_set_1 hk k_1340 ⟨Nat.le_of_ble_eq_true rfl, Nat.le_of_ble_eq_true rfl⟩) (pM_v hK hPc hDc (ci := 7) (q0 := 0) rfl rfl rfl) rfl rfl hl.1 rfl (lv_room (Nat.le_of_ble_eq_true rfl)) d_law_314 ⟨Nat.le_of_ble_eq_true rfl, Nat.le_of_ble_eq_true rfl⟩) hS (fun q _ h => hFc q h) hFc (fun r u t H locs ht hvm hw hB hz1 hk1 hS => ?_)
                    subst hw
                    obtain ⟨hP, hD⟩ := va_join (wr := []) (w1 := []) hP hD [0, 1, 2, 3, 4, 5, 6, 7, 8, 9, 10, 11, 12, 13, 14, 15, 16, 17, 18, 19, 20, 21, 22, 23, 24, 25] [] rfl rfl (by decide) (by decide) hk1 hFc nil_P nil_D
                    have hP : va_P D classes ([]) H := hP
                    have hD : va_D (fun q : Nat => s.heap.size ≤ q) ([]) := hD
                    refine W.widen (k := 32) (n := 66087) (by decide) (by decide) ?_
                    refine lv_icmp_eq (tgt := 533) hx hb d_law_317 (by decide) (fun c24 => ?_) (fun c24 => absurd (show (f_S_set_1 (xs 1) (xs 2) (xs 3)) = (f_X_set_1 (xs 1) (xs 2) (xs 3)) from (e_set _ _ _)) c24)
                    refine lv_iinc (v := (6 : Int32)) (lv' := [(3, .int (6 : Int32)), (2, .ref o1), (1, .ref o0), (0, .ref b)]) hx hb d_law_533 hl (k := 0) rfl (by decide) (by decide) rfl (fun ls hl => ?_)
                    refine lv_goto (tgt := 18) hx hb d_law_536 (by decide) ?_
                    refine lv_iload_n hx hb d_law_18 rfl (lv_at hl 0 rfl) ?_
                    refine lv_aload_n hx hb d_law_19 rfl (lv_at hl 3 rfl) ?_
                    refine va_slen hx hb hX hbl hbA hS d_law_20 ?_
                    refine tpi (y := (6 : Int32)) (by decide) ?_
                    refine lv_bipush (v := 6) hx hb d_law_21 (by decide) ?_
                    refine lv_isub hx hb d_law_23 ?_
                    refine tpi (y := (0 : Int32)) (by decide) ?_
                    refine lv_icmp_gt (tgt := 539) hx hb d_law_24 (by decide) (fun c25 => ?_) (fun c25 => absurd (show (0 : Int32) < (6 : Int32) from (by decide)) c25)
                    refine lv_iconst (v := 1) hx hb d_law_539 (by decide) ?_
                    refine va_forget (fun q hq => hS.2.2 q hq) ?_
                    refine W.widen (k := 600000) (n := 7302250) (by decide) (by decide) ?_
                    exact lw_ret hx hb hr hlocks d_law_540
                  · by_cases c26 : ((xs 0) &&& (15 : Int32)) = (8 : Int32)
                    · refine lv_tableIn (off := 289) (tgt := 322) hx hb d_law_33 (by rw [c26]; decide) (by rw [c26]; decide) (by rw [c26]; rfl) (by decide) ?_
                      refine lv_aload_n hx hb d_law_322 rfl (lv_at hl 2 rfl) ?_
                      refine lv_aload_n hx hb d_law_323 rfl (lv_at hl 3 rfl) ?_
                      refine lv_iload_n hx hb d_law_324 rfl (lv_at hl 0 rfl) ?_
                      refine lv_iconst (v := 1) hx hb d_law_325 (by decide) ?_
                      refine lv_iadd hx hb d_law_326 ?_
                      refine tpi (y := (1 : Int32)) (by decide) ?_
                      refine va_sld hx hb hX hbl hbA hS (by unfold vp_in; decide) d_law_327 ?_
                      refine tpi (y := (xs 1)) rfl ?_
                      have hPc := hP.sub (ws' := (wS10 cI cJ cZ cB o0 o0_1 o0_2 o0_3 o0_4 o0_5 (0 : Int32) (0 : Int32) (0 : Int32) (0 : Int32) (0 : Int32) (0 : Int32) (0 : Int32) (0 : Int32) (0 : Int32) (0 : Int32) (fun _ => 0) (fun _ => 0) (0 : Int32) (0 : Int32))) [0, 1, 2, 3, 4, 5] rfl
                      have hDc := hD.sub (ws' := (wS10 cI cJ cZ cB o0 o0_1 o0_2 o0_3 o0_4 o0_5 (0 : Int32) (0 : Int32) (0 : Int32) (0 : Int32) (0 : Int32) (0 : Int32) (0 : Int32) (0 : Int32) (0 : Int32) (0 : Int32) (fun _ => 0) (fun _ => 0) (0 : Int32) (0 : Int32))) [0, 1, 2, 3, 4, 5] (by decide) rfl
                      have hFc := va_free (wc := (wS10 cI cJ cZ cB o0 o0_1 o0_2 o0_3 o0_4 o0_5 (0 : Int32) (0 : Int32) (0 : Int32) (0 : Int32) (0 : Int32) (0 : Int32) (0 : Int32) (0 : Int32) (0 : Int32) (0 : Int32) (fun _ => 0) (fun _ => 0) (0 : Int32) (0 : Int32))) hD hS hA [0, 1, 2, 3, 4, 5] rfl
                      refine va_calli (va_runV (C := "SignMachine") (As := [.int (xs 1)]) (rest := []) ⟨hx, hb, hml, hown, hk⟩ (c_S_state_1 l D cI cJ cZ cB o0 o0_1 o0_2 o0_3 o0_4 o0_5 H.size (xs 1)) (v_S_state_1 hk k_495 ⟨Nat.le_of_ble_eq_true rfl, Nat.le_of_ble_eq_true rfl⟩) (pM_v hK hPc hDc (ci := 0) (q0 := 0) rfl rfl rfl) rfl rfl hl.1 rfl (lv_room (Nat.le_of_ble_eq_true rfl)) d_law_328 ⟨Nat.le_of_ble_eq_true rfl, Nat.le_of_ble_eq_true rfl⟩) hS (fun q _ h => hFc q h) hFc (fun r u t H locs ht hvm hw hB hz1 hk1 hS => ?_)
                      subst hw
                      obtain ⟨hP, hD⟩ := va_join (wr := (wS93 cI cJ cZ cB o1 o1_1 o1_2 o1_3 o1_4 o1_5 o1_6 o1_7 o1_8 o1_9 o1_10 o1_11 o1_12 o1_13 o1_14 o1_15 o1_16 o1_17 o1_18 o1_19 o1_20 o1_21 o1_22 o1_23 o1_24 o1_25 (0 : Int32) (0 : Int32) (0 : Int32) (0 : Int32) (0 : Int32) (0 : Int32) (0 : Int32) (0 : Int32) (0 : Int32) (0 : Int32) (0 : Int32) (0 : Int32) (0 : Int32) (0 : Int32) (0 : Int32) (0 : Int32) (0 : Int32) (0 : Int32) (0 : Int32) (-1 : Int32) (0 : Int32) (0 : Int32) (0 : Int32) (0 : Int32) (0 : Int32) (0 : Int64) (0 : Int32) (0 : Int32) (0 : Int32) (0 : Int32) (0 : Int32) (0 : Int64) (0 : Int32) (0 : Int32) (0 : Int32) (0 : Int32) (0 : Int32) (0 : Int32) (0 : Int64) (fun _ => 0) (fun _ => 0) (fun _ => 0) (fun _ => 0) (fun _ => 0) (fun _ => 0) (fun _ => 0) (fun _ => 0) (fun _ => 0) (fun _ => 0) (fun _ => 0) (fun _ => 0) (fun _ => 0) (fun _ => 0) (fun _ => 0) (fun _ => 0) (fun _ => 0) (fun _ => 0) (fun _ => 0) (fun _ => 0) (fun _ => 0) (fun _ => 0) (fun _ => 0) (fun _ => 0) (fun _ => 0))) (w1 := []) hP hD [0, 1, 2, 3, 4, 5] [6, 7, 8, 9, 10, 11, 12, 13, 14, 15, 16, 17, 18, 19, 20, 21, 22, 23, 24, 25, 26, 27, 28, 29, 30, 31] rfl rfl (by decide) (by decide) hk1 hFc nil_P nil_D
                      have hP : va_P D classes ((wS93 cI cJ cZ cB o1 o1_1 o1_2 o1_3 o1_4 o1_5 o1_6 o1_7 o1_8 o1_9 o1_10 o1_11 o1_12 o1_13 o1_14 o1_15 o1_16 o1_17 o1_18 o1_19 o1_20 o1_21 o1_22 o1_23 o1_24 o1_25 (0 : Int32) (0 : Int32) (0 : Int32) (0 : Int32) (0 : Int32) (0 : Int32) (0 : Int32) (0 : Int32) (0 : Int32) (0 : Int32) (0 : Int32) (0 : Int32) (0 : Int32) (0 : Int32) (0 : Int32) (0 : Int32) (0 : Int32) (0 : Int32) (0 : Int32) (-1 : Int32) (0 : Int32) (0 : Int32) (0 : Int32) (0 : Int32) (0 : Int32) (0 : Int64) (0 : Int32) (0 : Int32) (0 : Int32) (0 : Int32) (0 : Int32) (0 : Int64) (0 : Int32) (0 : Int32) (0 : Int32) (0 : Int32) (0 : Int32) (0 : Int32) (0 : Int64) (fun _ => 0) (fun _ => 0) (fun _ => 0) (fun _ => 0) (fun _ => 0) (fun _ => 0) (fun _ => 0) (fun _ => 0) (fun _ => 0) (fun _ => 0) (fun _ => 0) (fun _ => 0) (fun _ => 0) (fun _ => 0) (fun _ => 0) (fun _ => 0) (fun _ => 0) (fun _ => 0) (fun _ => 0) (fun _ => 0) (fun _ => 0) (fun _ => 0) (fun _ => 0) (fun _ => 0) (fun _ => 0))) H := hP
                      have hD : va_D (fun q : Nat => s.heap.size ≤ q) ((wS93 cI cJ cZ cB o1 o1_1 o1_2 o1_3 o1_4 o1_5 o1_6 o1_7 o1_8 o1_9 o1_10 o1_11 o1_12 o1_13 o1_14 o1_15 o1_16 o1_17 o1_18 o1_19 o1_20 o1_21 o1_22 o1_23 o1_24 o1_25 (0 : Int32) (0 : Int32) (0 : Int32) (0 : Int32) (0 : Int32) (0 : Int32) (0 : Int32) (0 : Int32) (0 : Int32) (0 : Int32) (0 : Int32) (0 : Int32) (0 : Int32) (0 : Int32) (0 : Int32) (0 : Int32) (0 : Int32) (0 : Int32) (0 : Int32) (-1 : Int32) (0 : Int32) (0 : Int32) (0 : Int32) (0 : Int32) (0 : Int32) (0 : Int64) (0 : Int32) (0 : Int32) (0 : Int32) (0 : Int32) (0 : Int32) (0 : Int64) (0 : Int32) (0 : Int32) (0 : Int32) (0 : Int32) (0 : Int32) (0 : Int32) (0 : Int64) (fun _ => 0) (fun _ => 0) (fun _ => 0) (fun _ => 0) (fun _ => 0) (fun _ => 0) (fun _ => 0) (fun _ => 0) (fun _ => 0) (fun _ => 0) (fun _ => 0) (fun _ => 0) (fun _ => 0) (fun _ => 0) (fun _ => 0) (fun _ => 0) (fun _ => 0) (fun _ => 0) (fun _ => 0) (fun _ => 0) (fun _ => 0) (fun _ => 0) (fun _ => 0) (fun _ => 0) (fun _ => 0))) := hD
                      refine W.widen (k := 32) (n := 66087) (by decide) (by decide) ?_
                      refine lv_aload_n hx hb d_law_331 rfl (lv_at hl 1 rfl) ?_
                      refine lv_aload_n hx hb d_law_332 rfl (lv_at hl 3 rfl) ?_
                      refine lv_iload_n hx hb d_law_333 rfl (lv_at hl 0 rfl) ?_
                      refine lv_iconst (v := 1) hx hb d_law_334 (by decide) ?_
                      refine lv_iadd hx hb d_law_335 ?_
                      refine tpi (y := (1 : Int32)) (by decide) ?_
                      refine va_sld hx hb hX hbl hbA hS (by unfold vp_in; decide) d_law_336 ?_
                      refine tpi (y := (xs 1)) rfl ?_
                      have hPc := hP.sub (ws' := (wS93 cI cJ cZ cB o1 o1_1 o1_2 o1_3 o1_4 o1_5 o1_6 o1_7 o1_8 o1_9 o1_10 o1_11 o1_12 o1_13 o1_14 o1_15 o1_16 o1_17 o1_18 o1_19 o1_20 o1_21 o1_22 o1_23 o1_24 o1_25 (0 : Int32) (0 : Int32) (0 : Int32) (0 : Int32) (0 : Int32) (0 : Int32) (0 : Int32) (0 : Int32) (0 : Int32) (0 : Int32) (0 : Int32) (0 : Int32) (0 : Int32) (0 : Int32) (0 : Int32) (0 : Int32) (0 : Int32) (0 : Int32) (0 : Int32) (-1 : Int32) (0 : Int32) (0 : Int32) (0 : Int32) (0 : Int32) (0 : Int32) (0 : Int64) (0 : Int32) (0 : Int32) (0 : Int32) (0 : Int32) (0 : Int32) (0 : Int64) (0 : Int32) (0 : Int32) (0 : Int32) (0 : Int32) (0 : Int32) (0 : Int32) (0 : Int64) (fun _ => 0) (fun _ => 0) (fun _ => 0) (fun _ => 0) (fun _ => 0) (fun _ => 0) (fun _ => 0) (fun _ => 0) (fun _ => 0) (fun _ => 0) (fun _ => 0) (fun _ => 0) (fun _ => 0) (fun _ => 0) (fun _ => 0) (fun _ => 0) (fun _ => 0) (fun _ => 0) (fun _ => 0) (fun _ => 0) (fun _ => 0) (fun _ => 0) (fun _ => 0) (fun _ => 0) (fun _ => 0))) [0, 1, 2, 3, 4, 5, 6, 7, 8, 9, 10, 11, 12, 13, 14, 15, 16, 17, 18, 19, 20, 21, 22, 23, 24, 25] rfl
                      have hDc := hD.sub (ws' := (wS93 cI cJ cZ cB o1 o1_1 o1_2 o1_3 o1_4 o1_5 o1_6 o1_7 o1_8 o1_9 o1_10 o1_11 o1_12 o1_13 o1_14 o1_15 o1_16 o1_17 o1_18 o1_19 o1_20 o1_21 o1_22 o1_23 o1_24 o1_25 (0 : Int32) (0 : Int32) (0 : Int32) (0 : Int32) (0 : Int32) (0 : Int32) (0 : Int32) (0 : Int32) (0 : Int32) (0 : Int32) (0 : Int32) (0 : Int32) (0 : Int32) (0 : Int32) (0 : Int32) (0 : Int32) (0 : Int32) (0 : Int32) (0 : Int32) (-1 : Int32) (0 : Int32) (0 : Int32) (0 : Int32) (0 : Int32) (0 : Int32) (0 : Int64) (0 : Int32) (0 : Int32) (0 : Int32) (0 : Int32) (0 : Int32) (0 : Int64) (0 : Int32) (0 : Int32) (0 : Int32) (0 : Int32) (0 : Int32) (0 : Int32) (0 : Int64) (fun _ => 0) (fun _ => 0) (fun _ => 0) (fun _ => 0) (fun _ => 0) (fun _ => 0) (fun _ => 0) (fun _ => 0) (fun _ => 0) (fun _ => 0) (fun _ => 0) (fun _ => 0) (fun _ => 0) (fun _ => 0) (fun _ => 0) (fun _ => 0) (fun _ => 0) (fun _ => 0) (fun _ => 0) (fun _ => 0) (fun _ => 0) (fun _ => 0) (fun _ => 0) (fun _ => 0) (fun _ => 0))) [0, 1, 2, 3, 4, 5, 6, 7, 8, 9, 10, 11, 12, 13, 14, 15, 16, 17, 18, 19, 20, 21, 22, 23, 24, 25] (by decide) rfl
                      have hFc := va_free (wc := (wS93 cI cJ cZ cB o1 o1_1 o1_2 o1_3 o1_4 o1_5 o1_6 o1_7 o1_8 o1_9 o1_10 o1_11 o1_12 o1_13 o1_14 o1_15 o1_16 o1_17 o1_18 o1_19 o1_20 o1_21 o1_22 o1_23 o1_24 o1_25 (0 : Int32) (0 : Int32) (0 : Int32) (0 : Int32) (0 : Int32) (0 : Int32) (0 : Int32) (0 : Int32) (0 : Int32) (0 : Int32) (0 : Int32) (0 : Int32) (0 : Int32) (0 : Int32) (0 : Int32) (0 : Int32) (0 : Int32) (0 : Int32) (0 : Int32) (-1 : Int32) (0 : Int32) (0 : Int32) (0 : Int32) (0 : Int32) (0 : Int32) (0 : Int64) (0 : Int32) (0 : Int32) (0 : Int32) (0 : Int32) (0 : Int32) (0 : Int64) (0 : Int32) (0 : Int32) (0 : Int32) (0 : Int32) (0 : Int32) (0 : Int32) (0 : Int64) (fun _ => 0) (fun _ => 0) (fun _ => 0) (fun _ => 0) (fun _ => 0) (fun _ => 0) (fun _ => 0) (fun _ => 0) (fun _ => 0) (fun _ => 0) (fun _ => 0) (fun _ => 0) (fun _ => 0) (fun _ => 0) (fun _ => 0) (fun _ => 0) (fun _ => 0) (fun _ => 0) (fun _ => 0) (fun _ => 0) (fun _ => 0) (fun _ => 0) (fun _ => 0) (fun _ => 0) (fun _ => 0))) hD hS hA [0, 1, 2, 3, 4, 5, 6, 7, 8, 9, 10, 11, 12, 13, 14, 15, 16, 17, 18, 19, 20, 21, 22, 23, 24, 25] rfl
                      refine va_calli (va_runV (C := "SignMachineModel") (As := [.int (xs 1)]) (rest := [.int (f_S_state_1 (xs 1))]) ⟨hx, hb, hml, hown, hk⟩ (c_X_state_1 l D cI cJ cZ cB o1 o1_1 o1_2 o1_3 o1_4 o1_5 o1_6 o1_7 o1_8 o1_9 o1_10 o1_11 o1_12 o1_13 o1_14 o1_15 o1_16 o1_17 o1_18 o1_19 o1_20 o1_21 o1_22 o1_23 o1_24 o1_25 H.size (xs 1)) (v_X_state_1 hk k_1348 ⟨Nat.le_of_ble_eq_true rfl, Nat.le_of_ble_eq_true rfl⟩) (pM_v hK hPc hDc (ci := 7) (q0 := 0) rfl rfl rfl) rfl rfl hl.1 rfl (lv_room (Nat.le_of_ble_eq_true rfl)) d_law_337 ⟨Nat.le_of_ble_eq_true rfl, Nat.le_of_ble_eq_true rfl⟩) hS (fun q _ h => hFc q h) hFc (fun r u t H locs ht hvm hw hB hz1 hk1 hS => ?_)
                      subst hw
                      obtain ⟨hP, hD⟩ := va_join (wr := []) (w1 := []) hP hD [0, 1, 2, 3, 4, 5, 6, 7, 8, 9, 10, 11, 12, 13, 14, 15, 16, 17, 18, 19, 20, 21, 22, 23, 24, 25] [] rfl rfl (by decide) (by decide) hk1 hFc nil_P nil_D
                      have hP : va_P D classes ([]) H := hP
                      have hD : va_D (fun q : Nat => s.heap.size ≤ q) ([]) := hD
                      refine W.widen (k := 32) (n := 66087) (by decide) (by decide) ?_
                      refine lv_icmp_eq (tgt := 533) hx hb d_law_340 (by decide) (fun c27 => ?_) (fun c27 => absurd (show (f_S_state_1 (xs 1)) = (f_X_state_1 (xs 1)) from (e_state _)) c27)
                      refine lv_iinc (v := (6 : Int32)) (lv' := [(3, .int (6 : Int32)), (2, .ref o1), (1, .ref o0), (0, .ref b)]) hx hb d_law_533 hl (k := 0) rfl (by decide) (by decide) rfl (fun ls hl => ?_)
                      refine lv_goto (tgt := 18) hx hb d_law_536 (by decide) ?_
                      refine lv_iload_n hx hb d_law_18 rfl (lv_at hl 0 rfl) ?_
                      refine lv_aload_n hx hb d_law_19 rfl (lv_at hl 3 rfl) ?_
                      refine va_slen hx hb hX hbl hbA hS d_law_20 ?_
                      refine tpi (y := (6 : Int32)) (by decide) ?_
                      refine lv_bipush (v := 6) hx hb d_law_21 (by decide) ?_
                      refine lv_isub hx hb d_law_23 ?_
                      refine tpi (y := (0 : Int32)) (by decide) ?_
                      refine lv_icmp_gt (tgt := 539) hx hb d_law_24 (by decide) (fun c28 => ?_) (fun c28 => absurd (show (0 : Int32) < (6 : Int32) from (by decide)) c28)
                      refine lv_iconst (v := 1) hx hb d_law_539 (by decide) ?_
                      refine va_forget (fun q hq => hS.2.2 q hq) ?_
                      refine W.widen (k := 600000) (n := 7302250) (by decide) (by decide) ?_
                      exact lw_ret hx hb hr hlocks d_law_540
                    · by_cases c29 : ((xs 0) &&& (15 : Int32)) = (9 : Int32)
                      · refine lv_tableIn (off := 312) (tgt := 345) hx hb d_law_33 (by rw [c29]; decide) (by rw [c29]; decide) (by rw [c29]; rfl) (by decide) ?_
                        refine lv_aload_n hx hb d_law_345 rfl (lv_at hl 2 rfl) ?_
                        refine lv_aload_n hx hb d_law_346 rfl (lv_at hl 3 rfl) ?_
                        refine lv_iload_n hx hb d_law_347 rfl (lv_at hl 0 rfl) ?_
                        refine lv_iconst (v := 1) hx hb d_law_348 (by decide) ?_
                        refine lv_iadd hx hb d_law_349 ?_
                        refine tpi (y := (1 : Int32)) (by decide) ?_
                        refine va_sld hx hb hX hbl hbA hS (by unfold vp_in; decide) d_law_350 ?_
                        refine tpi (y := (xs 1)) rfl ?_
                        have hPc := hP.sub (ws' := (wS10 cI cJ cZ cB o0 o0_1 o0_2 o0_3 o0_4 o0_5 (0 : Int32) (0 : Int32) (0 : Int32) (0 : Int32) (0 : Int32) (0 : Int32) (0 : Int32) (0 : Int32) (0 : Int32) (0 : Int32) (fun _ => 0) (fun _ => 0) (0 : Int32) (0 : Int32))) [0, 1, 2, 3, 4, 5] rfl
                        have hDc := hD.sub (ws' := (wS10 cI cJ cZ cB o0 o0_1 o0_2 o0_3 o0_4 o0_5 (0 : Int32) (0 : Int32) (0 : Int32) (0 : Int32) (0 : Int32) (0 : Int32) (0 : Int32) (0 : Int32) (0 : Int32) (0 : Int32) (fun _ => 0) (fun _ => 0) (0 : Int32) (0 : Int32))) [0, 1, 2, 3, 4, 5] (by decide) rfl
                        have hFc := va_free (wc := (wS10 cI cJ cZ cB o0 o0_1 o0_2 o0_3 o0_4 o0_5 (0 : Int32) (0 : Int32) (0 : Int32) (0 : Int32) (0 : Int32) (0 : Int32) (0 : Int32) (0 : Int32) (0 : Int32) (0 : Int32) (fun _ => 0) (fun _ => 0) (0 : Int32) (0 : Int32))) hD hS hA [0, 1, 2, 3, 4, 5] rfl
                        refine va_calli (va_runV (C := "SignMachine") (As := [.int (xs 1)]) (rest := []) ⟨hx, hb, hml, hown, hk⟩ (c_S_go_1 l D cI cJ cZ cB o0 o0_1 o0_2 o0_3 o0_4 o0_5 H.size (xs 1)) (v_S_go_1 hk k_500 ⟨Nat.le_of_ble_eq_true rfl, Nat.le_of_ble_eq_true rfl⟩) (pM_v hK hPc hDc (ci := 0) (q0 := 0) rfl rfl rfl) rfl rfl hl.1 rfl (lv_room (Nat.le_of_ble_eq_true rfl)) d_law_351 ⟨Nat.le_of_ble_eq_true rfl, Nat.le_of_ble_eq_true rfl⟩) hS (fun q _ h => hFc q h) hFc (fun r u t H locs ht hvm hw hB hz1 hk1 hS => ?_)
                        subst hw
                        obtain ⟨hP, hD⟩ := va_join (wr := (wS93 cI cJ cZ cB o1 o1_1 o1_2 o1_3 o1_4 o1_5 o1_6 o1_7 o1_8 o1_9 o1_10 o1_11 o1_12 o1_13 o1_14 o1_15 o1_16 o1_17 o1_18 o1_19 o1_20 o1_21 o1_22 o1_23 o1_24 o1_25 (0 : Int32) (0 : Int32) (0 : Int32) (0 : Int32) (0 : Int32) (0 : Int32) (0 : Int32) (0 : Int32) (0 : Int32) (0 : Int32) (0 : Int32) (0 : Int32) (0 : Int32) (0 : Int32) (0 : Int32) (0 : Int32) (0 : Int32) (0 : Int32) (0 : Int32) (-1 : Int32) (0 : Int32) (0 : Int32) (0 : Int32) (0 : Int32) (0 : Int32) (0 : Int64) (0 : Int32) (0 : Int32) (0 : Int32) (0 : Int32) (0 : Int32) (0 : Int64) (0 : Int32) (0 : Int32) (0 : Int32) (0 : Int32) (0 : Int32) (0 : Int32) (0 : Int64) (fun _ => 0) (fun _ => 0) (fun _ => 0) (fun _ => 0) (fun _ => 0) (fun _ => 0) (fun _ => 0) (fun _ => 0) (fun _ => 0) (fun _ => 0) (fun _ => 0) (fun _ => 0) (fun _ => 0) (fun _ => 0) (fun _ => 0) (fun _ => 0) (fun _ => 0) (fun _ => 0) (fun _ => 0) (fun _ => 0) (fun _ => 0) (fun _ => 0) (fun _ => 0) (fun _ => 0) (fun _ => 0))) (w1 := []) hP hD [0, 1, 2, 3, 4, 5] [6, 7, 8, 9, 10, 11, 12, 13, 14, 15, 16, 17, 18, 19, 20, 21, 22, 23, 24, 25, 26, 27, 28, 29, 30, 31] rfl rfl (by decide) (by decide) hk1 hFc nil_P nil_D
                        have hP : va_P D classes ((wS93 cI cJ cZ cB o1 o1_1 o1_2 o1_3 o1_4 o1_5 o1_6 o1_7 o1_8 o1_9 o1_10 o1_11 o1_12 o1_13 o1_14 o1_15 o1_16 o1_17 o1_18 o1_19 o1_20 o1_21 o1_22 o1_23 o1_24 o1_25 (0 : Int32) (0 : Int32) (0 : Int32) (0 : Int32) (0 : Int32) (0 : Int32) (0 : Int32) (0 : Int32) (0 : Int32) (0 : Int32) (0 : Int32) (0 : Int32) (0 : Int32) (0 : Int32) (0 : Int32) (0 : Int32) (0 : Int32) (0 : Int32) (0 : Int32) (-1 : Int32) (0 : Int32) (0 : Int32) (0 : Int32) (0 : Int32) (0 : Int32) (0 : Int64) (0 : Int32) (0 : Int32) (0 : Int32) (0 : Int32) (0 : Int32) (0 : Int64) (0 : Int32) (0 : Int32) (0 : Int32) (0 : Int32) (0 : Int32) (0 : Int32) (0 : Int64) (fun _ => 0) (fun _ => 0) (fun _ => 0) (fun _ => 0) (fun _ => 0) (fun _ => 0) (fun _ => 0) (fun _ => 0) (fun _ => 0) (fun _ => 0) (fun _ => 0) (fun _ => 0) (fun _ => 0) (fun _ => 0) (fun _ => 0) (fun _ => 0) (fun _ => 0) (fun _ => 0) (fun _ => 0) (fun _ => 0) (fun _ => 0) (fun _ => 0) (fun _ => 0) (fun _ => 0) (fun _ => 0))) H := hP
                        have hD : va_D (fun q : Nat => s.heap.size ≤ q) ((wS93 cI cJ cZ cB o1 o1_1 o1_2 o1_3 o1_4 o1_5 o1_6 o1_7 o1_8 o1_9 o1_10 o1_11 o1_12 o1_13 o1_14 o1_15 o1_16 o1_17 o1_18 o1_19 o1_20 o1_21 o1_22 o1_23 o1_24 o1_25 (0 : Int32) (0 : Int32) (0 : Int32) (0 : Int32) (0 : Int32) (0 : Int32) (0 : Int32) (0 : Int32) (0 : Int32) (0 : Int32) (0 : Int32) (0 : Int32) (0 : Int32) (0 : Int32) (0 : Int32) (0 : Int32) (0 : Int32) (0 : Int32) (0 : Int32) (-1 : Int32) (0 : Int32) (0 : Int32) (0 : Int32) (0 : Int32) (0 : Int32) (0 : Int64) (0 : Int32) (0 : Int32) (0 : Int32) (0 : Int32) (0 : Int32) (0 : Int64) (0 : Int32) (0 : Int32) (0 : Int32) (0 : Int32) (0 : Int32) (0 : Int32) (0 : Int64) (fun _ => 0) (fun _ => 0) (fun _ => 0) (fun _ => 0) (fun _ => 0) (fun _ => 0) (fun _ => 0) (fun _ => 0) (fun _ => 0) (fun _ => 0) (fun _ => 0) (fun _ => 0) (fun _ => 0) (fun _ => 0) (fun _ => 0) (fun _ => 0) (fun _ => 0) (fun _ => 0) (fun _ => 0) (fun _ => 0) (fun _ => 0) (fun _ => 0) (fun _ => 0) (fun _ => 0) (fun _ => 0))) := hD
                        refine W.widen (k := 32) (n := 66087) (by decide) (by decide) ?_
                        refine lv_aload_n hx hb d_law_354 rfl (lv_at hl 1 rfl) ?_
                        refine lv_aload_n hx hb d_law_355 rfl (lv_at hl 3 rfl) ?_
                        refine lv_iload_n hx hb d_law_356 rfl (lv_at hl 0 rfl) ?_
                        refine lv_iconst (v := 1) hx hb d_law_357 (by decide) ?_
                        refine lv_iadd hx hb d_law_358 ?_
                        refine tpi (y := (1 : Int32)) (by decide) ?_
                        refine va_sld hx hb hX hbl hbA hS (by unfold vp_in; decide) d_law_359 ?_
                        refine tpi (y := (xs 1)) rfl ?_
                        have hPc := hP.sub (ws' := (wS93 cI cJ cZ cB o1 o1_1 o1_2 o1_3 o1_4 o1_5 o1_6 o1_7 o1_8 o1_9 o1_10 o1_11 o1_12 o1_13 o1_14 o1_15 o1_16 o1_17 o1_18 o1_19 o1_20 o1_21 o1_22 o1_23 o1_24 o1_25 (0 : Int32) (0 : Int32) (0 : Int32) (0 : Int32) (0 : Int32) (0 : Int32) (0 : Int32) (0 : Int32) (0 : Int32) (0 : Int32) (0 : Int32) (0 : Int32) (0 : Int32) (0 : Int32) (0 : Int32) (0 : Int32) (0 : Int32) (0 : Int32) (0 : Int32) (-1 : Int32) (0 : Int32) (0 : Int32) (0 : Int32) (0 : Int32) (0 : Int32) (0 : Int64) (0 : Int32) (0 : Int32) (0 : Int32) (0 : Int32) (0 : Int32) (0 : Int64) (0 : Int32) (0 : Int32) (0 : Int32) (0 : Int32) (0 : Int32) (0 : Int32) (0 : Int64) (fun _ => 0) (fun _ => 0) (fun _ => 0) (fun _ => 0) (fun _ => 0) (fun _ => 0) (fun _ => 0) (fun _ => 0) (fun _ => 0) (fun _ => 0) (fun _ => 0) (fun _ => 0) (fun _ => 0) (fun _ => 0) (fun _ => 0) (fun _ => 0) (fun _ => 0) (fun _ => 0) (fun _ => 0) (fun _ => 0) (fun _ => 0) (fun _ => 0) (fun _ => 0) (fun _ => 0) (fun _ => 0))) [0, 1, 2, 3, 4, 5, 6, 7, 8, 9, 10, 11, 12, 13, 14, 15, 16, 17, 18, 19, 20, 21, 22, 23, 24, 25] rfl
                        have hDc := hD.sub (ws' := (wS93 cI cJ cZ cB o1 o1_1 o1_2 o1_3 o1_4 o1_5 o1_6 o1_7 o1_8 o1_9 o1_10 o1_11 o1_12 o1_13 o1_14 o1_15 o1_16 o1_17 o1_18 o1_19 o1_20 o1_21 o1_22 o1_23 o1_24 o1_25 (0 : Int32) (0 : Int32) (0 : Int32) (0 : Int32) (0 : Int32) (0 : Int32) (0 : Int32) (0 : Int32) (0 : Int32) (0 : Int32) (0 : Int32) (0 : Int32) (0 : Int32) (0 : Int32) (0 : Int32) (0 : Int32) (0 : Int32) (0 : Int32) (0 : Int32) (-1 : Int32) (0 : Int32) (0 : Int32) (0 : Int32) (0 : Int32) (0 : Int32) (0 : Int64) (0 : Int32) (0 : Int32) (0 : Int32) (0 : Int32) (0 : Int32) (0 : Int64) (0 : Int32) (0 : Int32) (0 : Int32) (0 : Int32) (0 : Int32) (0 : Int32) (0 : Int64) (fun _ => 0) (fun _ => 0) (fun _ => 0) (fun _ => 0) (fun _ => 0) (fun _ => 0) (fun _ => 0) (fun _ => 0) (fun _ => 0) (fun _ => 0) (fun _ => 0) (fun _ => 0) (fun _ => 0) (fun _ => 0) (fun _ => 0) (fun _ => 0) (fun _ => 0) (fun _ => 0) (fun _ => 0) (fun _ => 0) (fun _ => 0) (fun _ => 0) (fun _ => 0) (fun _ => 0) (fun _ => 0))) [0, 1, 2, 3, 4, 5, 6, 7, 8, 9, 10, 11, 12, 13, 14, 15, 16, 17, 18, 19, 20, 21, 22, 23, 24, 25] (by decide) rfl
                        have hFc := va_free (wc := (wS93 cI cJ cZ cB o1 o1_1 o1_2 o1_3 o1_4 o1_5 o1_6 o1_7 o1_8 o1_9 o1_10 o1_11 o1_12 o1_13 o1_14 o1_15 o1_16 o1_17 o1_18 o1_19 o1_20 o1_21 o1_22 o1_23 o1_24 o1_25 (0 : Int32) (0 : Int32) (0 : Int32) (0 : Int32) (0 : Int32) (0 : Int32) (0 : Int32) (0 : Int32) (0 : Int32) (0 : Int32) (0 : Int32) (0 : Int32) (0 : Int32) (0 : Int32) (0 : Int32) (0 : Int32) (0 : Int32) (0 : Int32) (0 : Int32) (-1 : Int32) (0 : Int32) (0 : Int32) (0 : Int32) (0 : Int32) (0 : Int32) (0 : Int64) (0 : Int32) (0 : Int32) (0 : Int32) (0 : Int32) (0 : Int32) (0 : Int64) (0 : Int32) (0 : Int32) (0 : Int32) (0 : Int32) (0 : Int32) (0 : Int32) (0 : Int64) (fun _ => 0) (fun _ => 0) (fun _ => 0) (fun _ => 0) (fun _ => 0) (fun _ => 0) (fun _ => 0) (fun _ => 0) (fun _ => 0) (fun _ => 0) (fun _ => 0) (fun _ => 0) (fun _ => 0) (fun _ => 0) (fun _ => 0) (fun _ => 0) (fun _ => 0) (fun _ => 0) (fun _ => 0) (fun _ => 0) (fun _ => 0) (fun _ => 0) (fun _ => 0) (fun _ => 0) (fun _ => 0))) hD hS hA [0, 1, 2, 3, 4, 5, 6, 7, 8, 9, 10, 11, 12, 13, 14, 15, 16, 17, 18, 19, 20, 21, 22, 23, 24, 25] rfl
                        refine va_calli (va_runV (C := "SignMachineModel") (As := [.int (xs 1)]) (rest := [.int (f_S_go_1 (xs 1))]) ⟨hx, hb, hml, hown, hk⟩ (c_X_go_1 l D cI cJ cZ cB o1 o1_1 o1_2 o1_3 o1_4 o1_5 o1_6 o1_7 o1_8 o1_9 o1_10 o1_11 o1_12 o1_13 o1_14 o1_15 o1_16 o1_17 o1_18 o1_19 o1_20 o1_21 o1_22 o1_23 o1_24 o1_25 H.size (xs 1)) (v_X_go_1 hk k_1352 ⟨Nat.le_of_ble_eq_true rfl, Nat.le_of_ble_eq_true rfl⟩) (pM_v hK hPc hDc (ci := 7) (q0 := 0) rfl rfl rfl) rfl rfl hl.1 rfl (lv_room (Nat.le_of_ble_eq_true rfl)) d_law_360 ⟨Nat.le_of_ble_eq_true rfl, Nat.le_of_ble_eq_true rfl⟩) hS (fun q _ h => hFc q h) hFc (fun r u t H locs ht hvm hw hB hz1 hk1 hS => ?_)
                        subst hw
                        obtain ⟨hP, hD⟩ := va_join (wr := []) (w1 := []) hP hD [0, 1, 2, 3, 4, 5, 6, 7, 8, 9, 10, 11, 12, 13, 14, 15, 16, 17, 18, 19, 20, 21, 22, 23, 24, 25] [] rfl rfl (by decide) (by decide) hk1 hFc nil_P nil_D
                        have hP : va_P D classes ([]) H := hP
                        have hD : va_D (fun q : Nat => s.heap.size ≤ q) ([]) := hD
                        refine W.widen (k := 32) (n := 66087) (by decide) (by decide) ?_
                        refine lv_icmp_eq (tgt := 533) hx hb d_law_363 (by decide) (fun c30 => ?_) (fun c30 => absurd (show (f_S_go_1 (xs 1)) = (f_X_go_1 (xs 1)) from (e_go _)) c30)
                        refine lv_iinc (v := (6 : Int32)) (lv' := [(3, .int (6 : Int32)), (2, .ref o1), (1, .ref o0), (0, .ref b)]) hx hb d_law_533 hl (k := 0) rfl (by decide) (by decide) rfl (fun ls hl => ?_)
                        refine lv_goto (tgt := 18) hx hb d_law_536 (by decide) ?_
                        refine lv_iload_n hx hb d_law_18 rfl (lv_at hl 0 rfl) ?_
                        refine lv_aload_n hx hb d_law_19 rfl (lv_at hl 3 rfl) ?_
                        refine va_slen hx hb hX hbl hbA hS d_law_20 ?_
                        refine tpi (y := (6 : Int32)) (by decide) ?_
                        refine lv_bipush (v := 6) hx hb d_law_21 (by decide) ?_
                        refine lv_isub hx hb d_law_23 ?_
                        refine tpi (y := (0 : Int32)) (by decide) ?_
                        refine lv_icmp_gt (tgt := 539) hx hb d_law_24 (by decide) (fun c31 => ?_) (fun c31 => absurd (show (0 : Int32) < (6 : Int32) from (by decide)) c31)
                        refine lv_iconst (v := 1) hx hb d_law_539 (by decide) ?_
                        refine va_forget (fun q hq => hS.2.2 q hq) ?_
                        refine W.widen (k := 600000) (n := 7302250) (by decide) (by decide) ?_
                        exact lw_ret hx hb hr hlocks d_law_540
                      · by_cases c32 : ((xs 0) &&& (15 : Int32)) = (10 : Int32)
                        · refine lv_tableIn (off := 335) (tgt := 368) hx hb d_law_33 (by rw [c32]; decide) (by rw [c32]; decide) (by rw [c32]; rfl) (by decide) ?_
                          refine lv_aload_n hx hb d_law_368 rfl (lv_at hl 2 rfl) ?_
                          refine lv_aload_n hx hb d_law_369 rfl (lv_at hl 3 rfl) ?_
                          refine lv_iload_n hx hb d_law_370 rfl (lv_at hl 0 rfl) ?_
                          refine lv_iconst (v := 1) hx hb d_law_371 (by decide) ?_
                          refine lv_iadd hx hb d_law_372 ?_
                          refine tpi (y := (1 : Int32)) (by decide) ?_
                          refine va_sld hx hb hX hbl hbA hS (by unfold vp_in; decide) d_law_373 ?_
                          refine tpi (y := (xs 1)) rfl ?_
                          refine lv_aload_n hx hb d_law_374 rfl (lv_at hl 3 rfl) ?_
                          refine lv_iload_n hx hb d_law_375 rfl (lv_at hl 0 rfl) ?_
                          refine lv_iconst (v := 2) hx hb d_law_376 (by decide) ?_
                          refine lv_iadd hx hb d_law_377 ?_
                          refine tpi (y := (2 : Int32)) (by decide) ?_
                          refine va_sld hx hb hX hbl hbA hS (by unfold vp_in; decide) d_law_378 ?_
                          refine tpi (y := (xs 2)) rfl ?_
                          refine lv_aload_n hx hb d_law_379 rfl (lv_at hl 3 rfl) ?_
                          refine lv_iload_n hx hb d_law_380 rfl (lv_at hl 0 rfl) ?_
                          refine lv_iconst (v := 3) hx hb d_law_381 (by decide) ?_
                          refine lv_iadd hx hb d_law_382 ?_
                          refine tpi (y := (3 : Int32)) (by decide) ?_
                          refine va_sld hx hb hX hbl hbA hS (by unfold vp_in; decide) d_law_383 ?_
                          refine tpi (y := (xs 3)) rfl ?_
                          have hPc := hP.sub (ws' := (wS10 cI cJ cZ cB o0 o0_1 o0_2 o0_3 o0_4 o0_5 (0 : Int32) (0 : Int32) (0 : Int32) (0 : Int32) (0 : Int32) (0 : Int32) (0 : Int32) (0 : Int32) (0 : Int32) (0 : Int32) (fun _ => 0) (fun _ => 0) (0 : Int32) (0 : Int32))) [0, 1, 2, 3, 4, 5] rfl
                          have hDc := hD.sub (ws' := (wS10 cI cJ cZ cB o0 o0_1 o0_2 o0_3 o0_4 o0_5 (0 : Int32) (0 : Int32) (0 : Int32) (0 : Int32) (0 : Int32) (0 : Int32) (0 : Int32) (0 : Int32) (0 : Int32) (0 : Int32) (fun _ => 0) (fun _ => 0) (0 : Int32) (0 : Int32))) [0, 1, 2, 3, 4, 5] (by decide) rfl
                          have hFc := va_free (wc := (wS10 cI cJ cZ cB o0 o0_1 o0_2 o0_3 o0_4 o0_5 (0 : Int32) (0 : Int32) (0 : Int32) (0 : Int32) (0 : Int32) (0 : Int32) (0 : Int32) (0 : Int32) (0 : Int32) (0 : Int32) (fun _ => 0) (fun _ => 0) (0 : Int32) (0 : Int32))) hD hS hA [0, 1, 2, 3, 4, 5] rfl
                          refine va_calli (va_runV (C := "SignMachine") (As := [.int (xs 1), .int (xs 2), .int (xs 3)]) (rest := []) ⟨hx, hb, hml, hown, hk⟩ (c_S_tape_1 l D cI cJ cZ cB o0 o0_1 o0_2 o0_3 o0_4 o0_5 H.size (xs 1) (xs 2) (xs 3)) (v_S_tape_1 hk k_504 ⟨Nat.le_of_ble_eq_true rfl, Nat.le_of_ble_eq_true rfl⟩) (pM_v hK hPc hDc (ci := 0) (q0 := 0) rfl rfl rfl) rfl rfl hl.1 rfl (lv_room (Nat.le_of_ble_eq_true rfl)) d_law_384 ⟨Nat.le_of_ble_eq_true rfl, Nat.le_of_ble_eq_true rfl⟩) hS (fun q _ h => hFc q h) hFc (fun r u t H locs ht hvm hw hB hz1 hk1 hS => ?_)
                          subst hw
                          obtain ⟨hP, hD⟩ := va_join (wr := (wS93 cI cJ cZ cB o1 o1_1 o1_2 o1_3 o1_4 o1_5 o1_6 o1_7 o1_8 o1_9 o1_10 o1_11 o1_12 o1_13 o1_14 o1_15 o1_16 o1_17 o1_18 o1_19 o1_20 o1_21 o1_22 o1_23 o1_24 o1_25 (0 : Int32) (0 : Int32) (0 : Int32) (0 : Int32) (0 : Int32) (0 : Int32) (0 : Int32) (0 : Int32) (0 : Int32) (0 : Int32) (0 : Int32) (0 : Int32) (0 : Int32) (0 : Int32) (0 : Int32) (0 : Int32) (0 : Int32) (0 : Int32) (0 : Int32) (-1 : Int32) (0 : Int32) (0 : Int32) (0 : Int32) (0 : Int32) (0 : Int32) (0 : Int64) (0 : Int32) (0 : Int32) (0 : Int32) (0 : Int32) (0 : Int32) (0 : Int64) (0 : Int32) (0 : Int32) (0 : Int32) (0 : Int32) (0 : Int32) (0 : Int32) (0 : Int64) (fun _ => 0) (fun _ => 0) (fun _ => 0) (fun _ => 0) (fun _ => 0) (fun _ => 0) (fun _ => 0) (fun _ => 0) (fun _ => 0) (fun _ => 0) (fun _ => 0) (fun _ => 0) (fun _ => 0) (fun _ => 0) (fun _ => 0) (fun _ => 0) (fun _ => 0) (fun _ => 0) (fun _ => 0) (fun _ => 0) (fun _ => 0) (fun _ => 0) (fun _ => 0) (fun _ => 0) (fun _ => 0))) (w1 := []) hP hD [0, 1, 2, 3, 4, 5] [6, 7, 8, 9, 10, 11, 12, 13, 14, 15, 16, 17, 18, 19, 20, 21, 22, 23, 24, 25, 26, 27, 28, 29, 30, 31] rfl rfl (by decide) (by decide) hk1 hFc nil_P nil_D
                          have hP : va_P D classes ((wS93 cI cJ cZ cB o1 o1_1 o1_2 o1_3 o1_4 o1_5 o1_6 o1_7 o1_8 o1_9 o1_10 o1_11 o1_12 o1_13 o1_14 o1_15 o1_16 o1_17 o1_18 o1_19 o1_20 o1_21 o1_22 o1_23 o1_24 o1_25 (0 : Int32) (0 : Int32) (0 : Int32) (0 : Int32) (0 : Int32) (0 : Int32) (0 : Int32) (0 : Int32) (0 : Int32) (0 : Int32) (0 : Int32) (0 : Int32) (0 : Int32) (0 : Int32) (0 : Int32) (0 : Int32) (0 : Int32) (0 : Int32) (0 : Int32) (-1 : Int32) (0 : Int32) (0 : Int32) (0 : Int32) (0 : Int32) (0 : Int32) (0 : Int64) (0 : Int32) (0 : Int32) (0 : Int32) (0 : Int32) (0 : Int32) (0 : Int64) (0 : Int32) (0 : Int32) (0 : Int32) (0 : Int32) (0 : Int32) (0 : Int32) (0 : Int64) (fun _ => 0) (fun _ => 0) (fun _ => 0) (fun _ => 0) (fun _ => 0) (fun _ => 0) (fun _ => 0) (fun _ => 0) (fun _ => 0) (fun _ => 0) (fun _ => 0) (fun _ => 0) (fun _ => 0) (fun _ => 0) (fun _ => 0) (fun _ => 0) (fun _ => 0) (fun _ => 0) (fun _ => 0) (fun _ => 0) (fun _ => 0) (fun _ => 0) (fun _ => 0) (fun _ => 0) (fun _ => 0))) H := hP
                          have hD : va_D (fun q : Nat => s.heap.size ≤ q) ((wS93 cI cJ cZ cB o1 o1_1 o1_2 o1_3 o1_4 o1_5 o1_6 o1_7 o1_8 o1_9 o1_10 o1_11 o1_12 o1_13 o1_14 o1_15 o1_16 o1_17 o1_18 o1_19 o1_20 o1_21 o1_22 o1_23 o1_24 o1_25 (0 : Int32) (0 : Int32) (0 : Int32) (0 : Int32) (0 : Int32) (0 : Int32) (0 : Int32) (0 : Int32) (0 : Int32) (0 : Int32) (0 : Int32) (0 : Int32) (0 : Int32) (0 : Int32) (0 : Int32) (0 : Int32) (0 : Int32) (0 : Int32) (0 : Int32) (-1 : Int32) (0 : Int32) (0 : Int32) (0 : Int32) (0 : Int32) (0 : Int32) (0 : Int64) (0 : Int32) (0 : Int32) (0 : Int32) (0 : Int32) (0 : Int32) (0 : Int64) (0 : Int32) (0 : Int32) (0 : Int32) (0 : Int32) (0 : Int32) (0 : Int32) (0 : Int64) (fun _ => 0) (fun _ => 0) (fun _ => 0) (fun _ => 0) (fun _ => 0) (fun _ => 0) (fun _ => 0) (fun _ => 0) (fun _ => 0) (fun _ => 0) (fun _ => 0) (fun _ => 0) (fun _ => 0) (fun _ => 0) (fun _ => 0) (fun _ => 0) (fun _ => 0) (fun _ => 0) (fun _ => 0) (fun _ => 0) (fun _ => 0) (fun _ => 0) (fun _ => 0) (fun _ => 0) (fun _ => 0))) := hD
                          refine W.widen (k := 32) (n := 66087) (by decide) (by decide) ?_
                          refine lv_aload_n hx hb d_law_387 rfl (lv_at hl 1 rfl) ?_
                          refine lv_aload_n hx hb d_law_388 rfl (lv_at hl 3 rfl) ?_
                          refine lv_iload_n hx hb d_law_389 rfl (lv_at hl 0 rfl) ?_
                          refine lv_iconst (v := 1) hx hb d_law_390 (by decide) ?_
                          refine lv_iadd hx hb d_law_391 ?_
                          refine tpi (y := (1 : Int32)) (by decide) ?_
                          refine va_sld hx hb hX hbl hbA hS (by unfold vp_in; decide) d_law_392 ?_
                          refine tpi (y := (xs 1)) rfl ?_
                          refine lv_aload_n hx hb d_law_393 rfl (lv_at hl 3 rfl) ?_
                          refine lv_iload_n hx hb d_law_394 rfl (lv_at hl 0 rfl) ?_
                          refine lv_iconst (v := 2) hx hb d_law_395 (by decide) ?_
                          refine lv_iadd hx hb d_law_396 ?_
                          refine tpi (y := (2 : Int32)) (by decide) ?_
                          refine va_sld hx hb hX hbl hbA hS (by unfold vp_in; decide) d_law_397 ?_
                          refine tpi (y := (xs 2)) rfl ?_
                          refine lv_aload_n hx hb d_law_398 rfl (lv_at hl 3 rfl) ?_
                          refine lv_iload_n hx hb d_law_399 rfl (lv_at hl 0 rfl) ?_
                          refine lv_iconst (v := 3) hx hb d_law_400 (by decide) ?_
                          refine lv_iadd hx hb d_law_401 ?_
                          refine tpi (y := (3 : Int32)) (by decide) ?_
                          refine va_sld hx hb hX hbl hbA hS (by unfold vp_in; decide) d_law_402 ?_
                          refine tpi (y := (xs 3)) rfl ?_
                          have hPc := hP.sub (ws' := (wS93 cI cJ cZ cB o1 o1_1 o1_2 o1_3 o1_4 o1_5 o1_6 o1_7 o1_8 o1_9 o1_10 o1_11 o1_12 o1_13 o1_14 o1_15 o1_16 o1_17 o1_18 o1_19 o1_20 o1_21 o1_22 o1_23 o1_24 o1_25 (0 : Int32) (0 : Int32) (0 : Int32) (0 : Int32) (0 : Int32) (0 : Int32) (0 : Int32) (0 : Int32) (0 : Int32) (0 : Int32) (0 : Int32) (0 : Int32) (0 : Int32) (0 : Int32) (0 : Int32) (0 : Int32) (0 : Int32) (0 : Int32) (0 : Int32) (-1 : Int32) (0 : Int32) (0 : Int32) (0 : Int32) (0 : Int32) (0 : Int32) (0 : Int64) (0 : Int32) (0 : Int32) (0 : Int32) (0 : Int32) (0 : Int32) (0 : Int64) (0 : Int32) (0 : Int32) (0 : Int32) (0 : Int32) (0 : Int32) (0 : Int32) (0 : Int64) (fun _ => 0) (fun _ => 0) (fun _ => 0) (fun _ => 0) (fun _ => 0) (fun _ => 0) (fun _ => 0) (fun _ => 0) (fun _ => 0) (fun _ => 0) (fun _ => 0) (fun _ => 0) (fun _ => 0) (fun _ => 0) (fun _ => 0) (fun _ => 0) (fun _ => 0) (fun _ => 0) (fun _ => 0) (fun _ => 0) (fun _ => 0) (fun _ => 0) (fun _ => 0) (fun _ => 0) (fun _ => 0))) [0, 1, 2, 3, 4, 5, 6, 7, 8, 9, 10, 11, 12, 13, 14, 15, 16, 17, 18, 19, 20, 21, 22, 23, 24, 25] rfl
                          have hDc := hD.sub (ws' := (wS93 cI cJ cZ cB o1 o1_1 o1_2 o1_3 o1_4 o1_5 o1_6 o1_7 o1_8 o1_9 o1_10 o1_11 o1_12 o1_13 o1_14 o1_15 o1_16 o1_17 o1_18 o1_19 o1_20 o1_21 o1_22 o1_23 o1_24 o1_25 (0 : Int32) (0 : Int32) (0 : Int32) (0 : Int32) (0 : Int32) (0 : Int32) (0 : Int32) (0 : Int32) (0 : Int32) (0 : Int32) (0 : Int32) (0 : Int32) (0 : Int32) (0 : Int32) (0 : Int32) (0 : Int32) (0 : Int32) (0 : Int32) (0 : Int32) (-1 : Int32) (0 : Int32) (0 : Int32) (0 : Int32) (0 : Int32) (0 : Int32) (0 : Int64) (0 : Int32) (0 : Int32) (0 : Int32) (0 : Int32) (0 : Int32) (0 : Int64) (0 : Int32) (0 : Int32) (0 : Int32) (0 : Int32) (0 : Int32) (0 : Int32) (0 : Int64) (fun _ => 0) (fun _ => 0) (fun _ => 0) (fun _ => 0) (fun _ => 0) (fun _ => 0) (fun _ => 0) (fun _ => 0) (fun _ => 0) (fun _ => 0) (fun _ => 0) (fun _ => 0) (fun _ => 0) (fun _ => 0) (fun _ => 0) (fun _ => 0) (fun _ => 0) (fun _ => 0) (fun _ => 0) (fun _ => 0) (fun _ => 0) (fun _ => 0) (fun _ => 0) (fun _ => 0) (fun _ => 0))) [0, 1, 2, 3, 4, 5, 6, 7, 8, 9, 10, 11, 12, 13, 14, 15, 16, 17, 18, 19, 20, 21, 22, 23, 24, 25] (by decide) rfl
                          have hFc := va_free (wc := (wS93 cI cJ cZ cB o1 o1_1 o1_2 o1_3 o1_4 o1_5 o1_6 o1_7 o1_8 o1_9 o1_10 o1_11 o1_12 o1_13 o1_14 o1_15 o1_16 o1_17 o1_18 o1_19 o1_20 o1_21 o1_22 o1_23 o1_24 o1_25 (0 : Int32) (0 : Int32) (0 : Int32) (0 : Int32) (0 : Int32) (0 : Int32) (0 : Int32) (0 : Int32) (0 : Int32) (0 : Int32) (0 : Int32) (0 : Int32) (0 : Int32) (0 : Int32) (0 : Int32) (0 : Int32) (0 : Int32) (0 : Int32) (0 : Int32) (-1 : Int32) (0 : Int32) (0 : Int32) (0 : Int32) (0 : Int32) (0 : Int32) (0 : Int64) (0 : Int32) (0 : Int32) (0 : Int32) (0 : Int32) (0 : Int32) (0 : Int64) (0 : Int32) (0 : Int32) (0 : Int32) (0 : Int32) (0 : Int32) (0 : Int32) (0 : Int64) (fun _ => 0) (fun _ => 0) (fun _ => 0) (fun _ => 0) (fun _ => 0) (fun _ => 0) (fun _ => 0) (fun _ => 0) (fun _ => 0) (fun _ => 0) (fun _ => 0) (fun _ => 0) (fun _ => 0) (fun _ => 0) (fun _ => 0) (fun _ => 0) (fun _ => 0) (fun _ => 0) (fun _ => 0) (fun _ => 0) (fun _ => 0) (fun _ => 0) (fun _ => 0) (fun _ => 0) (fun _ => 0))) hD hS hA [0, 1, 2, 3, 4, 5, 6, 7, 8, 9, 10, 11, 12, 13, 14, 15, 16, 17, 18, 19, 20, 21, 22, 23, 24, 25] rfl
                          refine va_calli (va_runV (C := "SignMachineModel") (As := [.int (xs 1), .int (xs 2), .int (xs 3)]) (rest := [.int (f_S_tape_1 (xs 1) (xs 2) (xs 3))]) ⟨hx, hb, hml, hown, hk⟩ (c_X_tape_1 l D cI cJ cZ cB o1 o1_1 o1_2 o1_3 o1_4 o1_5 o1_6 o1_7 o1_8 o1_9 o1_10 o1_11 o1_12 o1_13 o1_14 o1_15 o1_16 o1_17 o1_18 o1_19 o1_20 o1_21 o1_22 o1_23 o1_24 o1_25 H.size (xs 1) (xs 2) (xs 3)) (v_X_tape_1 hk k_1356 ⟨Nat.le_of_ble_eq_true rfl, Nat.le_of_ble_eq_true rfl⟩) (pM_v hK hPc hDc (ci := 7) (q0 := 0) rfl rfl rfl) rfl rfl hl.1 rfl (lv_room (Nat.le_of_ble_eq_true rfl)) d_law_403 ⟨Nat.le_of_ble_eq_true rfl, Nat.le_of_ble_eq_true rfl⟩) hS (fun q _ h => hFc q h) hFc (fun r u t H locs ht hvm hw hB hz1 hk1 hS => ?_)
                          subst hw
                          obtain ⟨hP, hD⟩ := va_join (wr := []) (w1 := []) hP hD [0, 1, 2, 3, 4, 5, 6, 7, 8, 9, 10, 11, 12, 13, 14, 15, 16, 17, 18, 19, 20, 21, 22, 23, 24, 25] [] rfl rfl (by decide) (by decide) hk1 hFc nil_P nil_D
                          have hP : va_P D classes ([]) H := hP
                          have hD : va_D (fun q : Nat => s.heap.size ≤ q) ([]) := hD
                          refine W.widen (k := 32) (n := 66087) (by decide) (by decide) ?_
                          refine lv_icmp_eq (tgt := 533) hx hb d_law_406 (by decide) (fun c33 => ?_) (fun c33 => absurd (show (f_S_tape_1 (xs 1) (xs 2) (xs 3)) = (f_X_tape_1 (xs 1) (xs 2) (xs 3)) from (e_tape _ _ _)) c33)
                          refine lv_iinc (v := (6 : Int32)) (lv' := [(3, .int (6 : Int32)), (2, .ref o1), (1, .ref o0), (0, .ref b)]) hx hb d_law_533 hl (k := 0) rfl (by decide) (by decide) rfl (fun ls hl => ?_)
                          refine lv_goto (tgt := 18) hx hb d_law_536 (by decide) ?_
                          refine lv_iload_n hx hb d_law_18 rfl (lv_at hl 0 rfl) ?_
                          refine lv_aload_n hx hb d_law_19 rfl (lv_at hl 3 rfl) ?_
                          refine va_slen hx hb hX hbl hbA hS d_law_20 ?_
                          refine tpi (y := (6 : Int32)) (by decide) ?_
                          refine lv_bipush (v := 6) hx hb d_law_21 (by decide) ?_
                          refine lv_isub hx hb d_law_23 ?_
                          refine tpi (y := (0 : Int32)) (by decide) ?_
                          refine lv_icmp_gt (tgt := 539) hx hb d_law_24 (by decide) (fun c34 => ?_) (fun c34 => absurd (show (0 : Int32) < (6 : Int32) from (by decide)) c34)
                          refine lv_iconst (v := 1) hx hb d_law_539 (by decide) ?_
                          refine va_forget (fun q hq => hS.2.2 q hq) ?_
                          refine W.widen (k := 600000) (n := 7302250) (by decide) (by decide) ?_
                          exact lw_ret hx hb hr hlocks d_law_540
                        · by_cases c35 : ((xs 0) &&& (15 : Int32)) = (11 : Int32)
                          · refine lv_tableIn (off := 378) (tgt := 411) hx hb d_law_33 (by rw [c35]; decide) (by rw [c35]; decide) (by rw [c35]; rfl) (by decide) ?_
                            refine lv_aload_n hx hb d_law_411 rfl (lv_at hl 2 rfl) ?_
                            refine lv_aload_n hx hb d_law_412 rfl (lv_at hl 3 rfl) ?_
                            refine lv_iload_n hx hb d_law_413 rfl (lv_at hl 0 rfl) ?_
                            refine lv_iconst (v := 1) hx hb d_law_414 (by decide) ?_
                            refine lv_iadd hx hb d_law_415 ?_
                            refine tpi (y := (1 : Int32)) (by decide) ?_
                            refine va_sld hx hb hX hbl hbA hS (by unfold vp_in; decide) d_law_416 ?_
                            refine tpi (y := (xs 1)) rfl ?_
                            refine lv_aload_n hx hb d_law_417 rfl (lv_at hl 3 rfl) ?_
                            refine lv_iload_n hx hb d_law_418 rfl (lv_at hl 0 rfl) ?_
                            refine lv_iconst (v := 2) hx hb d_law_419 (by decide) ?_
                            refine lv_iadd hx hb d_law_420 ?_
                            refine tpi (y := (2 : Int32)) (by decide) ?_
                            refine va_sld hx hb hX hbl hbA hS (by unfold vp_in; decide) d_law_421 ?_
                            refine tpi (y := (xs 2)) rfl ?_
                            refine lv_aload_n hx hb d_law_422 rfl (lv_at hl 3 rfl) ?_
                            refine lv_iload_n hx hb d_law_423 rfl (lv_at hl 0 rfl) ?_
                            refine lv_iconst (v := 3) hx hb d_law_424 (by decide) ?_
                            refine lv_iadd hx hb d_law_425 ?_
                            refine tpi (y := (3 : Int32)) (by decide) ?_
                            refine va_sld hx hb hX hbl hbA hS (by unfold vp_in; decide) d_law_426 ?_
                            refine tpi (y := (xs 3)) rfl ?_
                            refine lv_aload_n hx hb d_law_427 rfl (lv_at hl 3 rfl) ?_
                            refine lv_iload_n hx hb d_law_428 rfl (lv_at hl 0 rfl) ?_
                            refine lv_iconst (v := 4) hx hb d_law_429 (by decide) ?_
                            refine lv_iadd hx hb d_law_430 ?_
                            refine tpi (y := (4 : Int32)) (by decide) ?_
                            refine va_sld hx hb hX hbl hbA hS (by unfold vp_in; decide) d_law_431 ?_
                            refine tpi (y := (xs 4)) rfl ?_
                            refine lv_aload_n hx hb d_law_432 rfl (lv_at hl 3 rfl) ?_
                            refine lv_iload_n hx hb d_law_433 rfl (lv_at hl 0 rfl) ?_
                            refine lv_iconst (v := 5) hx hb d_law_434 (by decide) ?_
                            refine lv_iadd hx hb d_law_435 ?_
                            refine tpi (y := (5 : Int32)) (by decide) ?_
                            refine va_sld hx hb hX hbl hbA hS (by unfold vp_in; decide) d_law_436 ?_
                            refine tpi (y := (xs 5)) rfl ?_
                            have hPc := hP.sub (ws' := (wS10 cI cJ cZ cB o0 o0_1 o0_2 o0_3 o0_4 o0_5 (0 : Int32) (0 : Int32) (0 : Int32) (0 : Int32) (0 : Int32) (0 : Int32) (0 : Int32) (0 : Int32) (0 : Int32) (0 : Int32) (fun _ => 0) (fun _ => 0) (0 : Int32) (0 : Int32))) [0, 1, 2, 3, 4, 5] rfl
                            have hDc := hD.sub (ws' := (wS10 cI cJ cZ cB o0 o0_1 o0_2 o0_3 o0_4 o0_5 (0 : Int32) (0 : Int32) (0 : Int32) (0 : Int32) (0 : Int32) (0 : Int32) (0 : Int32) (0 : Int32) (0 : Int32) (0 : Int32) (fun _ => 0) (fun _ => 0) (0 : Int32) (0 : Int32))) [0, 1, 2, 3, 4, 5] (by decide) rfl
                            have hFc := va_free (wc := (wS10 cI cJ cZ cB o0 o0_1 o0_2 o0_3 o0_4 o0_5 (0 : Int32) (0 : Int32) (0 : Int32) (0 : Int32) (0 : Int32) (0 : Int32) (0 : Int32) (0 : Int32) (0 : Int32) (0 : Int32) (fun _ => 0) (fun _ => 0) (0 : Int32) (0 : Int32))) hD hS hA [0, 1, 2, 3, 4, 5] rfl
                            refine va_calli (va_runV (C := "SignMachine") (As := [.int (xs 1), .int (xs 2), .int (xs 3), .int (xs 4), .int (xs 5)]) (rest := []) ⟨hx, hb, hml, hown, hk⟩ (c_S_feed_1 l D cI cJ cZ cB o0 o0_1 o0_2 o0_3 o0_4 o0_5 H.size (xs 1) (xs 2) (xs 3) (xs 4) (xs 5)) (v_S_feed_1 hk k_514 ⟨Nat.le_of_ble_eq_true rfl, Nat.le_of_ble_eq_true rfl⟩) (pM_v hK hPc hDc (ci := 0) (q0 := 0) rfl rfl rfl) rfl rfl hl.1 rfl (lv_room (Nat.le_of_ble_eq_true rfl)) d_law_437 ⟨Nat.le_of_ble_eq_true rfl, Nat.le_of_ble_eq_true rfl⟩) hS (fun q _ h => hFc q h) hFc (fun r u t H locs ht hvm hw hB hz1 hk1 hS => ?_)
                            subst hw
                            obtain ⟨hP, hD⟩ := va_join (wr := (wS93 cI cJ cZ cB o1 o1_1 o1_2 o1_3 o1_4 o1_5 o1_6 o1_7 o1_8 o1_9 o1_10 o1_11 o1_12 o1_13 o1_14 o1_15 o1_16 o1_17 o1_18 o1_19 o1_20 o1_21 o1_22 o1_23 o1_24 o1_25 (0 : Int32) (0 : Int32) (0 : Int32) (0 : Int32) (0 : Int32) (0 : Int32) (0 : Int32) (0 : Int32) (0 : Int32) (0 : Int32) (0 : Int32) (0 : Int32) (0 : Int32) (0 : Int32) (0 : Int32) (0 : Int32) (0 : Int32) (0 : Int32) (0 : Int32) (-1 : Int32) (0 : Int32) (0 : Int32) (0 : Int32) (0 : Int32) (0 : Int32) (0 : Int64) (0 : Int32) (0 : Int32) (0 : Int32) (0 : Int32) (0 : Int32) (0 : Int64) (0 : Int32) (0 : Int32) (0 : Int32) (0 : Int32) (0 : Int32) (0 : Int32) (0 : Int64) (fun _ => 0) (fun _ => 0) (fun _ => 0) (fun _ => 0) (fun _ => 0) (fun _ => 0) (fun _ => 0) (fun _ => 0) (fun _ => 0) (fun _ => 0) (fun _ => 0) (fun _ => 0) (fun _ => 0) (fun _ => 0) (fun _ => 0) (fun _ => 0) (fun _ => 0) (fun _ => 0) (fun _ => 0) (fun _ => 0) (fun _ => 0) (fun _ => 0) (fun _ => 0) (fun _ => 0) (fun _ => 0))) (w1 := []) hP hD [0, 1, 2, 3, 4, 5] [6, 7, 8, 9, 10, 11, 12, 13, 14, 15, 16, 17, 18, 19, 20, 21, 22, 23, 24, 25, 26, 27, 28, 29, 30, 31] rfl rfl (by decide) (by decide) hk1 hFc nil_P nil_D
                            have hP : va_P D classes ((wS93 cI cJ cZ cB o1 o1_1 o1_2 o1_3 o1_4 o1_5 o1_6 o1_7 o1_8 o1_9 o1_10 o1_11 o1_12 o1_13 o1_14 o1_15 o1_16 o1_17 o1_18 o1_19 o1_20 o1_21 o1_22 o1_23 o1_24 o1_25 (0 : Int32) (0 : Int32) (0 : Int32) (0 : Int32) (0 : Int32) (0 : Int32) (0 : Int32) (0 : Int32) (0 : Int32) (0 : Int32) (0 : Int32) (0 : Int32) (0 : Int32) (0 : Int32) (0 : Int32) (0 : Int32) (0 : Int32) (0 : Int32) (0 : Int32) (-1 : Int32) (0 : Int32) (0 : Int32) (0 : Int32) (0 : Int32) (0 : Int32) (0 : Int64) (0 : Int32) (0 : Int32) (0 : Int32) (0 : Int32) (0 : Int32) (0 : Int64) (0 : Int32) (0 : Int32) (0 : Int32) (0 : Int32) (0 : Int32) (0 : Int32) (0 : Int64) (fun _ => 0) (fun _ => 0) (fun _ => 0) (fun _ => 0) (fun _ => 0) (fun _ => 0) (fun _ => 0) (fun _ => 0) (fun _ => 0) (fun _ => 0) (fun _ => 0) (fun _ => 0) (fun _ => 0) (fun _ => 0) (fun _ => 0) (fun _ => 0) (fun _ => 0) (fun _ => 0) (fun _ => 0) (fun _ => 0) (fun _ => 0) (fun _ => 0) (fun _ => 0) (fun _ => 0) (fun _ => 0))) H := hP
                            have hD : va_D (fun q : Nat => s.heap.size ≤ q) ((wS93 cI cJ cZ cB o1 o1_1 o1_2 o1_3 o1_4 o1_5 o1_6 o1_7 o1_8 o1_9 o1_10 o1_11 o1_12 o1_13 o1_14 o1_15 o1_16 o1_17 o1_18 o1_19 o1_20 o1_21 o1_22 o1_23 o1_24 o1_25 (0 : Int32) (0 : Int32) (0 : Int32) (0 : Int32) (0 : Int32) (0 : Int32) (0 : Int32) (0 : Int32) (0 : Int32) (0 : Int32) (0 : Int32) (0 : Int32) (0 : Int32) (0 : Int32) (0 : Int32) (0 : Int32) (0 : Int32) (0 : Int32) (0 : Int32) (-1 : Int32) (0 : Int32) (0 : Int32) (0 : Int32) (0 : Int32) (0 : Int32) (0 : Int64) (0 : Int32) (0 : Int32) (0 : Int32) (0 : Int32) (0 : Int32) (0 : Int64) (0 : Int32) (0 : Int32) (0 : Int32) (0 : Int32) (0 : Int32) (0 : Int32) (0 : Int64) (fun _ => 0) (fun _ => 0) (fun _ => 0) (fun _ => 0) (fun _ => 0) (fun _ => 0) (fun _ => 0) (fun _ => 0) (fun _ => 0) (fun _ => 0) (fun _ => 0) (fun _ => 0) (fun _ => 0) (fun _ => 0) (fun _ => 0) (fun _ => 0) (fun _ => 0) (fun _ => 0) (fun _ => 0) (fun _ => 0) (fun _ => 0) (fun _ => 0) (fun _ => 0) (fun _ => 0) (fun _ => 0))) := hD
                            refine W.widen (k := 48) (n := 75960) (by decide) (by decide) ?_
                            refine lv_aload_n hx hb d_law_440 rfl (lv_at hl 1 rfl) ?_
                            refine lv_aload_n hx hb d_law_441 rfl (lv_at hl 3 rfl) ?_
                            refine lv_iload_n hx hb d_law_442 rfl (lv_at hl 0 rfl) ?_
                            refine lv_iconst (v := 1) hx hb d_law_443 (by decide) ?_
                            refine lv_iadd hx hb d_law_444 ?_
                            refine tpi (y := (1 : Int32)) (by decide) ?_
                            refine va_sld hx hb hX hbl hbA hS (by unfold vp_in; decide) d_law_445 ?_
                            refine tpi (y := (xs 1)) rfl ?_
                            refine lv_aload_n hx hb d_law_446 rfl (lv_at hl 3 rfl) ?_
                            refine lv_iload_n hx hb d_law_447 rfl (lv_at hl 0 rfl) ?_
                            refine lv_iconst (v := 2) hx hb d_law_448 (by decide) ?_
                            refine lv_iadd hx hb d_law_449 ?_
                            refine tpi (y := (2 : Int32)) (by decide) ?_
                            refine va_sld hx hb hX hbl hbA hS (by unfold vp_in; decide) d_law_450 ?_
                            refine tpi (y := (xs 2)) rfl ?_
                            refine lv_aload_n hx hb d_law_451 rfl (lv_at hl 3 rfl) ?_
                            refine lv_iload_n hx hb d_law_452 rfl (lv_at hl 0 rfl) ?_
                            refine lv_iconst (v := 3) hx hb d_law_453 (by decide) ?_
                            refine lv_iadd hx hb d_law_454 ?_
                            refine tpi (y := (3 : Int32)) (by decide) ?_
                            refine va_sld hx hb hX hbl hbA hS (by unfold vp_in; decide) d_law_455 ?_
                            refine tpi (y := (xs 3)) rfl ?_
                            refine lv_aload_n hx hb d_law_456 rfl (lv_at hl 3 rfl) ?_
                            refine lv_iload_n hx hb d_law_457 rfl (lv_at hl 0 rfl) ?_
                            refine lv_iconst (v := 4) hx hb d_law_458 (by decide) ?_
                            refine lv_iadd hx hb d_law_459 ?_
                            refine tpi (y := (4 : Int32)) (by decide) ?_
                            refine va_sld hx hb hX hbl hbA hS (by unfold vp_in; decide) d_law_460 ?_
                            refine tpi (y := (xs 4)) rfl ?_
                            refine lv_aload_n hx hb d_law_461 rfl (lv_at hl 3 rfl) ?_
                            refine lv_iload_n hx hb d_law_462 rfl (lv_at hl 0 rfl) ?_
                            refine lv_iconst (v := 5) hx hb d_law_463 (by decide) ?_
                            refine lv_iadd hx hb d_law_464 ?_
                            refine tpi (y := (5 : Int32)) (by decide) ?_
                            refine va_sld hx hb hX hbl hbA hS (by unfold vp_in; decide) d_law_465 ?_
                            refine tpi (y := (xs 5)) rfl ?_
                            have hPc := hP.sub (ws' := (wS93 cI cJ cZ cB o1 o1_1 o1_2 o1_3 o1_4 o1_5 o1_6 o1_7 o1_8 o1_9 o1_10 o1_11 o1_12 o1_13 o1_14 o1_15 o1_16 o1_17 o1_18 o1_19 o1_20 o1_21 o1_22 o1_23 o1_24 o1_25 (0 : Int32) (0 : Int32) (0 : Int32) (0 : Int32) (0 : Int32) (0 : Int32) (0 : Int32) (0 : Int32) (0 : Int32) (0 : Int32) (0 : Int32) (0 : Int32) (0 : Int32) (0 : Int32) (0 : Int32) (0 : Int32) (0 : Int32) (0 : Int32) (0 : Int32) (-1 : Int32) (0 : Int32) (0 : Int32) (0 : Int32) (0 : Int32) (0 : Int32) (0 : Int64) (0 : Int32) (0 : Int32) (0 : Int32) (0 : Int32) (0 : Int32) (0 : Int64) (0 : Int32) (0 : Int32) (0 : Int32) (0 : Int32) (0 : Int32) (0 : Int32) (0 : Int64) (fun _ => 0) (fun _ => 0) (fun _ => 0) (fun _ => 0) (fun _ => 0) (fun _ => 0) (fun _ => 0) (fun _ => 0) (fun _ => 0) (fun _ => 0) (fun _ => 0) (fun _ => 0) (fun _ => 0) (fun _ => 0) (fun _ => 0) (fun _ => 0) (fun _ => 0) (fun _ => 0) (fun _ => 0) (fun _ => 0) (fun _ => 0) (fun _ => 0) (fun _ => 0) (fun _ => 0) (fun _ => 0))) [0, 1, 2, 3, 4, 5, 6, 7, 8, 9, 10, 11, 12, 13, 14, 15, 16, 17, 18, 19, 20, 21, 22, 23, 24, 25] rfl
                            have hDc := hD.sub (ws' := (wS93 cI cJ cZ cB o1 o1_1 o1_2 o1_3 o1_4 o1_5 o1_6 o1_7 o1_8 o1_9 o1_10 o1_11 o1_12 o1_13 o1_14 o1_15 o1_16 o1_17 o1_18 o1_19 o1_20 o1_21 o1_22 o1_23 o1_24 o1_25 (0 : Int32) (0 : Int32) (0 : Int32) (0 : Int32) (0 : Int32) (0 : Int32) (0 : Int32) (0 : Int32) (0 : Int32) (0 : Int32) (0 : Int32) (0 : Int32) (0 : Int32) (0 : Int32) (0 : Int32) (0 : Int32) (0 : Int32) (0 : Int32) (0 : Int32) (-1 : Int32) (0 : Int32) (0 : Int32) (0 : Int32) (0 : Int32) (0 : Int32) (0 : Int64) (0 : Int32) (0 : Int32) (0 : Int32) (0 : Int32) (0 : Int32) (0 : Int64) (0 : Int32) (0 : Int32) (0 : Int32) (0 : Int32) (0 : Int32) (0 : Int32) (0 : Int64) (fun _ => 0) (fun _ => 0) (fun _ => 0) (fun _ => 0) (fun _ => 0) (fun _ => 0) (fun _ => 0) (fun _ => 0) (fun _ => 0) (fun _ => 0) (fun _ => 0) (fun _ => 0) (fun _ => 0) (fun _ => 0) (fun _ => 0) (fun _ => 0) (fun _ => 0) (fun _ => 0) (fun _ => 0) (fun _ => 0) (fun _ => 0) (fun _ => 0) (fun _ => 0) (fun _ => 0) (fun _ => 0))) [0, 1, 2, 3, 4, 5, 6, 7, 8, 9, 10, 11, 12, 13, 14, 15, 16, 17, 18, 19, 20, 21, 22, 23, 24, 25] (by decide) rfl
                            have hFc := va_free (wc := (wS93 cI cJ cZ cB o1 o1_1 o1_2 o1_3 o1_4 o1_5 o1_6 o1_7 o1_8 o1_9 o1_10 o1_11 o1_12 o1_13 o1_14 o1_15 o1_16 o1_17 o1_18 o1_19 o1_20 o1_21 o1_22 o1_23 o1_24 o1_25 (0 : Int32) (0 : Int32) (0 : Int32) (0 : Int32) (0 : Int32) (0 : Int32) (0 : Int32) (0 : Int32) (0 : Int32) (0 : Int32) (0 : Int32) (0 : Int32) (0 : Int32) (0 : Int32) (0 : Int32) (0 : Int32) (0 : Int32) (0 : Int32) (0 : Int32) (-1 : Int32) (0 : Int32) (0 : Int32) (0 : Int32) (0 : Int32) (0 : Int32) (0 : Int64) (0 : Int32) (0 : Int32) (0 : Int32) (0 : Int32) (0 : Int32) (0 : Int64) (0 : Int32) (0 : Int32) (0 : Int32) (0 : Int32) (0 : Int32) (0 : Int32) (0 : Int64) (fun _ => 0) (fun _ => 0) (fun _ => 0) (fun _ => 0) (fun _ => 0) (fun _ => 0) (fun _ => 0) (fun _ => 0) (fun _ => 0) (fun _ => 0) (fun _ => 0) (fun _ => 0) (fun _ => 0) (fun _ => 0) (fun _ => 0) (fun _ => 0) (fun _ => 0) (fun _ => 0) (fun _ => 0) (fun _ => 0) (fun _ => 0) (fun _ => 0) (fun _ => 0) (fun _ => 0) (fun _ => 0))) hD hS hA [0, 1, 2, 3, 4, 5, 6, 7, 8, 9, 10, 11, 12, 13, 14, 15, 16, 17, 18, 19, 20, 21, 22, 23, 24, 25] rfl
                            refine va_calli (va_runV (C := "SignMachineModel") (As := [.int (xs 1), .int (xs 2), .int (xs 3), .int (xs 4), .int (xs 5)]) (rest := [.int (f_S_feed_1 (xs 1) (xs 2) (xs 3) (xs 4) (xs 5))]) ⟨hx, hb, hml, hown, hk⟩ (c_X_feed_1 l D cI cJ cZ cB o1 o1_1 o1_2 o1_3 o1_4 o1_5 o1_6 o1_7 o1_8 o1_9 o1_10 o1_11 o1_12 o1_13 o1_14 o1_15 o1_16 o1_17 o1_18 o1_19 o1_20 o1_21 o1_22 o1_23 o1_24 o1_25 H.size (xs 1) (xs 2) (xs 3) (xs 4) (xs 5)) (v_X_feed_1 hk k_1508 ⟨Nat.le_of_ble_eq_true rfl, Nat.le_of_ble_eq_true rfl⟩) (pM_v hK hPc hDc (ci := 7) (q0 := 0) rfl rfl rfl) rfl rfl hl.1 rfl (lv_room (Nat.le_of_ble_eq_true rfl)) d_law_466 ⟨Nat.le_of_ble_eq_true rfl, Nat.le_of_ble_eq_true rfl⟩) hS (fun q _ h => hFc q h) hFc (fun r u t H locs ht hvm hw hB hz1 hk1 hS => ?_)
                            subst hw
                            obtain ⟨hP, hD⟩ := va_join (wr := []) (w1 := []) hP hD [0, 1, 2, 3, 4, 5, 6, 7, 8, 9, 10, 11, 12, 13, 14, 15, 16, 17, 18, 19, 20, 21, 22, 23, 24, 25] [] rfl rfl (by decide) (by decide) hk1 hFc nil_P nil_D
                            have hP : va_P D classes ([]) H := hP
                            have hD : va_D (fun q : Nat => s.heap.size ≤ q) ([]) := hD
                            refine W.widen (k := 48) (n := 75960) (by decide) (by decide) ?_
                            refine lv_icmp_eq (tgt := 533) hx hb d_law_469 (by decide) (fun c36 => ?_) (fun c36 => absurd (show (f_S_feed_1 (xs 1) (xs 2) (xs 3) (xs 4) (xs 5)) = (f_X_feed_1 (xs 1) (xs 2) (xs 3) (xs 4) (xs 5)) from (e_feed _ _ _ _ _)) c36)
                            refine lv_iinc (v := (6 : Int32)) (lv' := [(3, .int (6 : Int32)), (2, .ref o1), (1, .ref o0), (0, .ref b)]) hx hb d_law_533 hl (k := 0) rfl (by decide) (by decide) rfl (fun ls hl => ?_)
                            refine lv_goto (tgt := 18) hx hb d_law_536 (by decide) ?_
                            refine lv_iload_n hx hb d_law_18 rfl (lv_at hl 0 rfl) ?_
                            refine lv_aload_n hx hb d_law_19 rfl (lv_at hl 3 rfl) ?_
                            refine va_slen hx hb hX hbl hbA hS d_law_20 ?_
                            refine tpi (y := (6 : Int32)) (by decide) ?_
                            refine lv_bipush (v := 6) hx hb d_law_21 (by decide) ?_
                            refine lv_isub hx hb d_law_23 ?_
                            refine tpi (y := (0 : Int32)) (by decide) ?_
                            refine lv_icmp_gt (tgt := 539) hx hb d_law_24 (by decide) (fun c37 => ?_) (fun c37 => absurd (show (0 : Int32) < (6 : Int32) from (by decide)) c37)
                            refine lv_iconst (v := 1) hx hb d_law_539 (by decide) ?_
                            refine va_forget (fun q hq => hS.2.2 q hq) ?_
                            refine W.widen (k := 600000) (n := 7302250) (by decide) (by decide) ?_
                            exact lw_ret hx hb hr hlocks d_law_540
                          · by_cases c38 : ((xs 0) &&& (15 : Int32)) = (12 : Int32)
                            · refine lv_tableIn (off := 441) (tgt := 474) hx hb d_law_33 (by rw [c38]; decide) (by rw [c38]; decide) (by rw [c38]; rfl) (by decide) ?_
                              refine lv_aload_n hx hb d_law_474 rfl (lv_at hl 2 rfl) ?_
                              refine lv_aload_n hx hb d_law_475 rfl (lv_at hl 3 rfl) ?_
                              refine lv_iload_n hx hb d_law_476 rfl (lv_at hl 0 rfl) ?_
                              refine lv_iconst (v := 1) hx hb d_law_477 (by decide) ?_
                              refine lv_iadd hx hb d_law_478 ?_
                              refine tpi (y := (1 : Int32)) (by decide) ?_
                              refine va_sld hx hb hX hbl hbA hS (by unfold vp_in; decide) d_law_479 ?_
                              refine tpi (y := (xs 1)) rfl ?_
                              have hPc := hP.sub (ws' := (wS10 cI cJ cZ cB o0 o0_1 o0_2 o0_3 o0_4 o0_5 (0 : Int32) (0 : Int32) (0 : Int32) (0 : Int32) (0 : Int32) (0 : Int32) (0 : Int32) (0 : Int32) (0 : Int32) (0 : Int32) (fun _ => 0) (fun _ => 0) (0 : Int32) (0 : Int32))) [0, 1, 2, 3, 4, 5] rfl
                              have hDc := hD.sub (ws' := (wS10 cI cJ cZ cB o0 o0_1 o0_2 o0_3 o0_4 o0_5 (0 : Int32) (0 : Int32) (0 : Int32) (0 : Int32) (0 : Int32) (0 : Int32) (0 : Int32) (0 : Int32) (0 : Int32) (0 : Int32) (fun _ => 0) (fun _ => 0) (0 : Int32) (0 : Int32))) [0, 1, 2, 3, 4, 5] (by decide) rfl
                              have hFc := va_free (wc := (wS10 cI cJ cZ cB o0 o0_1 o0_2 o0_3 o0_4 o0_5 (0 : Int32) (0 : Int32) (0 : Int32) (0 : Int32) (0 : Int32) (0 : Int32) (0 : Int32) (0 : Int32) (0 : Int32) (0 : Int32) (fun _ => 0) (fun _ => 0) (0 : Int32) (0 : Int32))) hD hS hA [0, 1, 2, 3, 4, 5] rfl
                              refine va_calli (va_runV (C := "SignMachine") (As := [.int (xs 1)]) (rest := []) ⟨hx, hb, hml, hown, hk⟩ (c_S_end_1 l D cI cJ cZ cB o0 o0_1 o0_2 o0_3 o0_4 o0_5 H.size (xs 1)) (v_S_end_1 hk k_691 ⟨Nat.le_of_ble_eq_true rfl, Nat.le_of_ble_eq_true rfl⟩) (pM_v hK hPc hDc (ci := 0) (q0 := 0) rfl rfl rfl) rfl rfl hl.1 rfl (lv_room (Nat.le_of_ble_eq_true rfl)) d_law_480 ⟨Nat.le_of_ble_eq_true rfl, Nat.le_of_ble_eq_true rfl⟩) hS (fun q _ h => hFc q h) hFc (fun r u t H locs ht hvm hw hB hz1 hk1 hS => ?_)
                              subst hw
                              obtain ⟨hP, hD⟩ := va_join (wr := (wS93 cI cJ cZ cB o1 o1_1 o1_2 o1_3 o1_4 o1_5 o1_6 o1_7 o1_8 o1_9 o1_10 o1_11 o1_12 o1_13 o1_14 o1_15 o1_16 o1_17 o1_18 o1_19 o1_20 o1_21 o1_22 o1_23 o1_24 o1_25 (0 : Int32) (0 : Int32) (0 : Int32) (0 : Int32) (0 : Int32) (0 : Int32) (0 : Int32) (0 : Int32) (0 : Int32) (0 : Int32) (0 : Int32) (0 : Int32) (0 : Int32) (0 : Int32) (0 : Int32) (0 : Int32) (0 : Int32) (0 : Int32) (0 : Int32) (-1 : Int32) (0 : Int32) (0 : Int32) (0 : Int32) (0 : Int32) (0 : Int32) (0 : Int64) (0 : Int32) (0 : Int32) (0 : Int32) (0 : Int32) (0 : Int32) (0 : Int64) (0 : Int32) (0 : Int32) (0 : Int32) (0 : Int32) (0 : Int32) (0 : Int32) (0 : Int64) (fun _ => 0) (fun _ => 0) (fun _ => 0) (fun _ => 0) (fun _ => 0) (fun _ => 0) (fun _ => 0) (fun _ => 0) (fun _ => 0) (fun _ => 0) (fun _ => 0) (fun _ => 0) (fun _ => 0) (fun _ => 0) (fun _ => 0) (fun _ => 0) (fun _ => 0) (fun _ => 0) (fun _ => 0) (fun _ => 0) (fun _ => 0) (fun _ => 0) (fun _ => 0) (fun _ => 0) (fun _ => 0))) (w1 := []) hP hD [0, 1, 2, 3, 4, 5] [6, 7, 8, 9, 10, 11, 12, 13, 14, 15, 16, 17, 18, 19, 20, 21, 22, 23, 24, 25, 26, 27, 28, 29, 30, 31] rfl rfl (by decide) (by decide) hk1 hFc nil_P nil_D
                              have hP : va_P D classes ((wS93 cI cJ cZ cB o1 o1_1 o1_2 o1_3 o1_4 o1_5 o1_6 o1_7 o1_8 o1_9 o1_10 o1_11 o1_12 o1_13 o1_14 o1_15 o1_16 o1_17 o1_18 o1_19 o1_20 o1_21 o1_22 o1_23 o1_24 o1_25 (0 : Int32) (0 : Int32) (0 : Int32) (0 : Int32) (0 : Int32) (0 : Int32) (0 : Int32) (0 : Int32) (0 : Int32) (0 : Int32) (0 : Int32) (0 : Int32) (0 : Int32) (0 : Int32) (0 : Int32) (0 : Int32) (0 : Int32) (0 : Int32) (0 : Int32) (-1 : Int32) (0 : Int32) (0 : Int32) (0 : Int32) (0 : Int32) (0 : Int32) (0 : Int64) (0 : Int32) (0 : Int32) (0 : Int32) (0 : Int32) (0 : Int32) (0 : Int64) (0 : Int32) (0 : Int32) (0 : Int32) (0 : Int32) (0 : Int32) (0 : Int32) (0 : Int64) (fun _ => 0) (fun _ => 0) (fun _ => 0) (fun _ => 0) (fun _ => 0) (fun _ => 0) (fun _ => 0) (fun _ => 0) (fun _ => 0) (fun _ => 0) (fun _ => 0) (fun _ => 0) (fun _ => 0) (fun _ => 0) (fun _ => 0) (fun _ => 0) (fun _ => 0) (fun _ => 0) (fun _ => 0) (fun _ => 0) (fun _ => 0) (fun _ => 0) (fun _ => 0) (fun _ => 0) (fun _ => 0))) H := hP
                              have hD : va_D (fun q : Nat => s.heap.size ≤ q) ((wS93 cI cJ cZ cB o1 o1_1 o1_2 o1_3 o1_4 o1_5 o1_6 o1_7 o1_8 o1_9 o1_10 o1_11 o1_12 o1_13 o1_14 o1_15 o1_16 o1_17 o1_18 o1_19 o1_20 o1_21 o1_22 o1_23 o1_24 o1_25 (0 : Int32) (0 : Int32) (0 : Int32) (0 : Int32) (0 : Int32) (0 : Int32) (0 : Int32) (0 : Int32) (0 : Int32) (0 : Int32) (0 : Int32) (0 : Int32) (0 : Int32) (0 : Int32) (0 : Int32) (0 : Int32) (0 : Int32) (0 : Int32) (0 : Int32) (-1 : Int32) (0 : Int32) (0 : Int32) (0 : Int32) (0 : Int32) (0 : Int32) (0 : Int64) (0 : Int32) (0 : Int32) (0 : Int32) (0 : Int32) (0 : Int32) (0 : Int64) (0 : Int32) (0 : Int32) (0 : Int32) (0 : Int32) (0 : Int32) (0 : Int32) (0 : Int64) (fun _ => 0) (fun _ => 0) (fun _ => 0) (fun _ => 0) (fun _ => 0) (fun _ => 0) (fun _ => 0) (fun _ => 0) (fun _ => 0) (fun _ => 0) (fun _ => 0) (fun _ => 0) (fun _ => 0) (fun _ => 0) (fun _ => 0) (fun _ => 0) (fun _ => 0) (fun _ => 0) (fun _ => 0) (fun _ => 0) (fun _ => 0) (fun _ => 0) (fun _ => 0) (fun _ => 0) (fun _ => 0))) := hD
                              refine W.widen (k := 48) (n := 75960) (by decide) (by decide) ?_
                              refine lv_aload_n hx hb d_law_483 rfl (lv_at hl 1 rfl) ?_
                              refine lv_aload_n hx hb d_law_484 rfl (lv_at hl 3 rfl) ?_
                              refine lv_iload_n hx hb d_law_485 rfl (lv_at hl 0 rfl) ?_
                              refine lv_iconst (v := 1) hx hb d_law_486 (by decide) ?_
                              refine lv_iadd hx hb d_law_487 ?_
                              refine tpi (y := (1 : Int32)) (by decide) ?_
                              refine va_sld hx hb hX hbl hbA hS (by unfold vp_in; decide) d_law_488 ?_
                              refine tpi (y := (xs 1)) rfl ?_
                              have hPc := hP.sub (ws' := (wS93 cI cJ cZ cB o1 o1_1 o1_2 o1_3 o1_4 o1_5 o1_6 o1_7 o1_8 o1_9 o1_10 o1_11 o1_12 o1_13 o1_14 o1_15 o1_16 o1_17 o1_18 o1_19 o1_20 o1_21 o1_22 o1_23 o1_24 o1_25 (0 : Int32) (0 : Int32) (0 : Int32) (0 : Int32) (0 : Int32) (0 : Int32) (0 : Int32) (0 : Int32) (0 : Int32) (0 : Int32) (0 : Int32) (0 : Int32) (0 : Int32) (0 : Int32) (0 : Int32) (0 : Int32) (0 : Int32) (0 : Int32) (0 : Int32) (-1 : Int32) (0 : Int32) (0 : Int32) (0 : Int32) (0 : Int32) (0 : Int32) (0 : Int64) (0 : Int32) (0 : Int32) (0 : Int32) (0 : Int32) (0 : Int32) (0 : Int64) (0 : Int32) (0 : Int32) (0 : Int32) (0 : Int32) (0 : Int32) (0 : Int32) (0 : Int64) (fun _ => 0) (fun _ => 0) (fun _ => 0) (fun _ => 0) (fun _ => 0) (fun _ => 0) (fun _ => 0) (fun _ => 0) (fun _ => 0) (fun _ => 0) (fun _ => 0) (fun _ => 0) (fun _ => 0) (fun _ => 0) (fun _ => 0) (fun _ => 0) (fun _ => 0) (fun _ => 0) (fun _ => 0) (fun _ => 0) (fun _ => 0) (fun _ => 0) (fun _ => 0) (fun _ => 0) (fun _ => 0))) [0, 1, 2, 3, 4, 5, 6, 7, 8, 9, 10, 11, 12, 13, 14, 15, 16, 17, 18, 19, 20, 21, 22, 23, 24, 25] rfl
                              have hDc := hD.sub (ws' := (wS93 cI cJ cZ cB o1 o1_1 o1_2 o1_3 o1_4 o1_5 o1_6 o1_7 o1_8 o1_9 o1_10 o1_11 o1_12 o1_13 o1_14 o1_15 o1_16 o1_17 o1_18 o1_19 o1_20 o1_21 o1_22 o1_23 o1_24 o1_25 (0 : Int32) (0 : Int32) (0 : Int32) (0 : Int32) (0 : Int32) (0 : Int32) (0 : Int32) (0 : Int32) (0 : Int32) (0 : Int32) (0 : Int32) (0 : Int32) (0 : Int32) (0 : Int32) (0 : Int32) (0 : Int32) (0 : Int32) (0 : Int32) (0 : Int32) (-1 : Int32) (0 : Int32) (0 : Int32) (0 : Int32) (0 : Int32) (0 : Int32) (0 : Int64) (0 : Int32) (0 : Int32) (0 : Int32) (0 : Int32) (0 : Int32) (0 : Int64) (0 : Int32) (0 : Int32) (0 : Int32) (0 : Int32) (0 : Int32) (0 : Int32) (0 : Int64) (fun _ => 0) (fun _ => 0) (fun _ => 0) (fun _ => 0) (fun _ => 0) (fun _ => 0) (fun _ => 0) (fun _ => 0) (fun _ => 0) (fun _ => 0) (fun _ => 0) (fun _ => 0) (fun _ => 0) (fun _ => 0) (fun _ => 0) (fun _ => 0) (fun _ => 0) (fun _ => 0) (fun _ => 0) (fun _ => 0) (fun _ => 0) (fun _ => 0) (fun _ => 0) (fun _ => 0) (fun _ => 0))) [0, 1, 2, 3, 4, 5, 6, 7, 8, 9, 10, 11, 12, 13, 14, 15, 16, 17, 18, 19, 20, 21, 22, 23, 24, 25] (by decide) rfl
                              have hFc := va_free (wc := (wS93 cI cJ cZ cB o1 o1_1 o1_2 o1_3 o1_4 o1_5 o1_6 o1_7 o1_8 o1_9 o1_10 o1_11 o1_12 o1_13 o1_14 o1_15 o1_16 o1_17 o1_18 o1_19 o1_20 o1_21 o1_22 o1_23 o1_24 o1_25 (0 : Int32) (0 : Int32) (0 : Int32) (0 : Int32) (0 : Int32) (0 : Int32) (0 : Int32) (0 : Int32) (0 : Int32) (0 : Int32) (0 : Int32) (0 : Int32) (0 : Int32) (0 : Int32) (0 : Int32) (0 : Int32) (0 : Int32) (0 : Int32) (0 : Int32) (-1 : Int32) (0 : Int32) (0 : Int32) (0 : Int32) (0 : Int32) (0 : Int32) (0 : Int64) (0 : Int32) (0 : Int32) (0 : Int32) (0 : Int32) (0 : Int32) (0 : Int64) (0 : Int32) (0 : Int32) (0 : Int32) (0 : Int32) (0 : Int32) (0 : Int32) (0 : Int64) (fun _ => 0) (fun _ => 0) (fun _ => 0) (fun _ => 0) (fun _ => 0) (fun _ => 0) (fun _ => 0) (fun _ => 0) (fun _ => 0) (fun _ => 0) (fun _ => 0) (fun _ => 0) (fun _ => 0) (fun _ => 0) (fun _ => 0) (fun _ => 0) (fun _ => 0) (fun _ => 0) (fun _ => 0) (fun _ => 0) (fun _ => 0) (fun _ => 0) (fun _ => 0) (fun _ => 0) (fun _ => 0))) hD hS hA [0, 1, 2, 3, 4, 5, 6, 7, 8, 9, 10, 11, 12, 13, 14, 15, 16, 17, 18, 19, 20, 21, 22, 23, 24, 25] rfl
                              refine va_calli (va_runV (C := "SignMachineModel") (As := [.int (xs 1)]) (rest := [.int (f_S_end_1 (xs 1))]) ⟨hx, hb, hml, hown, hk⟩ (c_X_end_1 l D cI cJ cZ cB o1 o1_1 o1_2 o1_3 o1_4 o1_5 o1_6 o1_7 o1_8 o1_9 o1_10 o1_11 o1_12 o1_13 o1_14 o1_15 o1_16 o1_17 o1_18 o1_19 o1_20 o1_21 o1_22 o1_23 o1_24 o1_25 H.size (xs 1)) (v_X_end_1 hk k_1512 ⟨Nat.le_of_ble_eq_true rfl, Nat.le_of_ble_eq_true rfl⟩) (pM_v hK hPc hDc (ci := 7) (q0 := 0) rfl rfl rfl) rfl rfl hl.1 rfl (lv_room (Nat.le_of_ble_eq_true rfl)) d_law_489 ⟨Nat.le_of_ble_eq_true rfl, Nat.le_of_ble_eq_true rfl⟩) hS (fun q _ h => hFc q h) hFc (fun r u t H locs ht hvm hw hB hz1 hk1 hS => ?_)
                              subst hw
                              obtain ⟨hP, hD⟩ := va_join (wr := []) (w1 := []) hP hD [0, 1, 2, 3, 4, 5, 6, 7, 8, 9, 10, 11, 12, 13, 14, 15, 16, 17, 18, 19, 20, 21, 22, 23, 24, 25] [] rfl rfl (by decide) (by decide) hk1 hFc nil_P nil_D
                              have hP : va_P D classes ([]) H := hP
                              have hD : va_D (fun q : Nat => s.heap.size ≤ q) ([]) := hD
                              refine W.widen (k := 48) (n := 75960) (by decide) (by decide) ?_
                              refine lv_icmp_eq (tgt := 533) hx hb d_law_492 (by decide) (fun c39 => ?_) (fun c39 => absurd (show (f_S_end_1 (xs 1)) = (f_X_end_1 (xs 1)) from (e_end _)) c39)
                              refine lv_iinc (v := (6 : Int32)) (lv' := [(3, .int (6 : Int32)), (2, .ref o1), (1, .ref o0), (0, .ref b)]) hx hb d_law_533 hl (k := 0) rfl (by decide) (by decide) rfl (fun ls hl => ?_)
                              refine lv_goto (tgt := 18) hx hb d_law_536 (by decide) ?_
                              refine lv_iload_n hx hb d_law_18 rfl (lv_at hl 0 rfl) ?_
                              refine lv_aload_n hx hb d_law_19 rfl (lv_at hl 3 rfl) ?_
                              refine va_slen hx hb hX hbl hbA hS d_law_20 ?_
                              refine tpi (y := (6 : Int32)) (by decide) ?_
                              refine lv_bipush (v := 6) hx hb d_law_21 (by decide) ?_
                              refine lv_isub hx hb d_law_23 ?_
                              refine tpi (y := (0 : Int32)) (by decide) ?_
                              refine lv_icmp_gt (tgt := 539) hx hb d_law_24 (by decide) (fun c40 => ?_) (fun c40 => absurd (show (0 : Int32) < (6 : Int32) from (by decide)) c40)
                              refine lv_iconst (v := 1) hx hb d_law_539 (by decide) ?_
                              refine va_forget (fun q hq => hS.2.2 q hq) ?_
                              refine W.widen (k := 600000) (n := 7302250) (by decide) (by decide) ?_
                              exact lw_ret hx hb hr hlocks d_law_540
                            · by_cases c41 : ((xs 0) &&& (15 : Int32)) = (13 : Int32)
                              · refine lv_tableIn (off := 464) (tgt := 497) hx hb d_law_33 (by rw [c41]; decide) (by rw [c41]; decide) (by rw [c41]; rfl) (by decide) ?_
                                refine lv_aload_n hx hb d_law_497 rfl (lv_at hl 2 rfl) ?_
                                have hPc := hP.sub (ws' := (wS10 cI cJ cZ cB o0 o0_1 o0_2 o0_3 o0_4 o0_5 (0 : Int32) (0 : Int32) (0 : Int32) (0 : Int32) (0 : Int32) (0 : Int32) (0 : Int32) (0 : Int32) (0 : Int32) (0 : Int32) (fun _ => 0) (fun _ => 0) (0 : Int32) (0 : Int32))) [0, 1, 2, 3, 4, 5] rfl
                                have hDc := hD.sub (ws' := (wS10 cI cJ cZ cB o0 o0_1 o0_2 o0_3 o0_4 o0_5 (0 : Int32) (0 : Int32) (0 : Int32) (0 : Int32) (0 : Int32) (0 : Int32) (0 : Int32) (0 : Int32) (0 : Int32) (0 : Int32) (fun _ => 0) (fun _ => 0) (0 : Int32) (0 : Int32))) [0, 1, 2, 3, 4, 5] (by decide) rfl
                                have hFc := va_free (wc := (wS10 cI cJ cZ cB o0 o0_1 o0_2 o0_3 o0_4 o0_5 (0 : Int32) (0 : Int32) (0 : Int32) (0 : Int32) (0 : Int32) (0 : Int32) (0 : Int32) (0 : Int32) (0 : Int32) (0 : Int32) (fun _ => 0) (fun _ => 0) (0 : Int32) (0 : Int32))) hD hS hA [0, 1, 2, 3, 4, 5] rfl
                                refine va_calli (va_runV (C := "SignMachine") (As := []) (rest := []) ⟨hx, hb, hml, hown, hk⟩ (c_S_assemble_1 l D cI cJ cZ cB o0 o0_1 o0_2 o0_3 o0_4 o0_5 H.size ) (v_S_assemble_1 hk k_695 ⟨Nat.le_of_ble_eq_true rfl, Nat.le_of_ble_eq_true rfl⟩) (pM_v hK hPc hDc (ci := 0) (q0 := 0) rfl rfl rfl) rfl rfl hl.1 rfl (lv_room (Nat.le_of_ble_eq_true rfl)) d_law_498 ⟨Nat.le_of_ble_eq_true rfl, Nat.le_of_ble_eq_true rfl⟩) hS (fun q _ h => hFc q h) hFc (fun r u t H locs ht hvm hw hB hz1 hk1 hS => ?_)
                                subst hw
                                obtain ⟨hP, hD⟩ := va_join (wr := (wS93 cI cJ cZ cB o1 o1_1 o1_2 o1_3 o1_4 o1_5 o1_6 o1_7 o1_8 o1_9 o1_10 o1_11 o1_12 o1_13 o1_14 o1_15 o1_16 o1_17 o1_18 o1_19 o1_20 o1_21 o1_22 o1_23 o1_24 o1_25 (0 : Int32) (0 : Int32) (0 : Int32) (0 : Int32) (0 : Int32) (0 : Int32) (0 : Int32) (0 : Int32) (0 : Int32) (0 : Int32) (0 : Int32) (0 : Int32) (0 : Int32) (0 : Int32) (0 : Int32) (0 : Int32) (0 : Int32) (0 : Int32) (0 : Int32) (-1 : Int32) (0 : Int32) (0 : Int32) (0 : Int32) (0 : Int32) (0 : Int32) (0 : Int64) (0 : Int32) (0 : Int32) (0 : Int32) (0 : Int32) (0 : Int32) (0 : Int64) (0 : Int32) (0 : Int32) (0 : Int32) (0 : Int32) (0 : Int32) (0 : Int32) (0 : Int64) (fun _ => 0) (fun _ => 0) (fun _ => 0) (fun _ => 0) (fun _ => 0) (fun _ => 0) (fun _ => 0) (fun _ => 0) (fun _ => 0) (fun _ => 0) (fun _ => 0) (fun _ => 0) (fun _ => 0) (fun _ => 0) (fun _ => 0) (fun _ => 0) (fun _ => 0) (fun _ => 0) (fun _ => 0) (fun _ => 0) (fun _ => 0) (fun _ => 0) (fun _ => 0) (fun _ => 0) (fun _ => 0))) (w1 := []) hP hD [0, 1, 2, 3, 4, 5] [6, 7, 8, 9, 10, 11, 12, 13, 14, 15, 16, 17, 18, 19, 20, 21, 22, 23, 24, 25, 26, 27, 28, 29, 30, 31] rfl rfl (by decide) (by decide) hk1 hFc nil_P nil_D
                                have hP : va_P D classes ((wS93 cI cJ cZ cB o1 o1_1 o1_2 o1_3 o1_4 o1_5 o1_6 o1_7 o1_8 o1_9 o1_10 o1_11 o1_12 o1_13 o1_14 o1_15 o1_16 o1_17 o1_18 o1_19 o1_20 o1_21 o1_22 o1_23 o1_24 o1_25 (0 : Int32) (0 : Int32) (0 : Int32) (0 : Int32) (0 : Int32) (0 : Int32) (0 : Int32) (0 : Int32) (0 : Int32) (0 : Int32) (0 : Int32) (0 : Int32) (0 : Int32) (0 : Int32) (0 : Int32) (0 : Int32) (0 : Int32) (0 : Int32) (0 : Int32) (-1 : Int32) (0 : Int32) (0 : Int32) (0 : Int32) (0 : Int32) (0 : Int32) (0 : Int64) (0 : Int32) (0 : Int32) (0 : Int32) (0 : Int32) (0 : Int32) (0 : Int64) (0 : Int32) (0 : Int32) (0 : Int32) (0 : Int32) (0 : Int32) (0 : Int32) (0 : Int64) (fun _ => 0) (fun _ => 0) (fun _ => 0) (fun _ => 0) (fun _ => 0) (fun _ => 0) (fun _ => 0) (fun _ => 0) (fun _ => 0) (fun _ => 0) (fun _ => 0) (fun _ => 0) (fun _ => 0) (fun _ => 0) (fun _ => 0) (fun _ => 0) (fun _ => 0) (fun _ => 0) (fun _ => 0) (fun _ => 0) (fun _ => 0) (fun _ => 0) (fun _ => 0) (fun _ => 0) (fun _ => 0))) H := hP
                                have hD : va_D (fun q : Nat => s.heap.size ≤ q) ((wS93 cI cJ cZ cB o1 o1_1 o1_2 o1_3 o1_4 o1_5 o1_6 o1_7 o1_8 o1_9 o1_10 o1_11 o1_12 o1_13 o1_14 o1_15 o1_16 o1_17 o1_18 o1_19 o1_20 o1_21 o1_22 o1_23 o1_24 o1_25 (0 : Int32) (0 : Int32) (0 : Int32) (0 : Int32) (0 : Int32) (0 : Int32) (0 : Int32) (0 : Int32) (0 : Int32) (0 : Int32) (0 : Int32) (0 : Int32) (0 : Int32) (0 : Int32) (0 : Int32) (0 : Int32) (0 : Int32) (0 : Int32) (0 : Int32) (-1 : Int32) (0 : Int32) (0 : Int32) (0 : Int32) (0 : Int32) (0 : Int32) (0 : Int64) (0 : Int32) (0 : Int32) (0 : Int32) (0 : Int32) (0 : Int32) (0 : Int64) (0 : Int32) (0 : Int32) (0 : Int32) (0 : Int32) (0 : Int32) (0 : Int32) (0 : Int64) (fun _ => 0) (fun _ => 0) (fun _ => 0) (fun _ => 0) (fun _ => 0) (fun _ => 0) (fun _ => 0) (fun _ => 0) (fun _ => 0) (fun _ => 0) (fun _ => 0) (fun _ => 0) (fun _ => 0) (fun _ => 0) (fun _ => 0) (fun _ => 0) (fun _ => 0) (fun _ => 0) (fun _ => 0) (fun _ => 0) (fun _ => 0) (fun _ => 0) (fun _ => 0) (fun _ => 0) (fun _ => 0))) := hD
                                refine W.widen (k := 48) (n := 75960) (by decide) (by decide) ?_
                                refine lv_aload_n hx hb d_law_501 rfl (lv_at hl 1 rfl) ?_
                                have hPc := hP.sub (ws' := (wS93 cI cJ cZ cB o1 o1_1 o1_2 o1_3 o1_4 o1_5 o1_6 o1_7 o1_8 o1_9 o1_10 o1_11 o1_12 o1_13 o1_14 o1_15 o1_16 o1_17 o1_18 o1_19 o1_20 o1_21 o1_22 o1_23 o1_24 o1_25 (0 : Int32) (0 : Int32) (0 : Int32) (0 : Int32) (0 : Int32) (0 : Int32) (0 : Int32) (0 : Int32) (0 : Int32) (0 : Int32) (0 : Int32) (0 : Int32) (0 : Int32) (0 : Int32) (0 : Int32) (0 : Int32) (0 : Int32) (0 : Int32) (0 : Int32) (-1 : Int32) (0 : Int32) (0 : Int32) (0 : Int32) (0 : Int32) (0 : Int32) (0 : Int64) (0 : Int32) (0 : Int32) (0 : Int32) (0 : Int32) (0 : Int32) (0 : Int64) (0 : Int32) (0 : Int32) (0 : Int32) (0 : Int32) (0 : Int32) (0 : Int32) (0 : Int64) (fun _ => 0) (fun _ => 0) (fun _ => 0) (fun _ => 0) (fun _ => 0) (fun _ => 0) (fun _ => 0) (fun _ => 0) (fun _ => 0) (fun _ => 0) (fun _ => 0) (fun _ => 0) (fun _ => 0) (fun _ => 0) (fun _ => 0) (fun _ => 0) (fun _ => 0) (fun _ => 0) (fun _ => 0) (fun _ => 0) (fun _ => 0) (fun _ => 0) (fun _ => 0) (fun _ => 0) (fun _ => 0))) [0, 1, 2, 3, 4, 5, 6, 7, 8, 9, 10, 11, 12, 13, 14, 15, 16, 17, 18, 19, 20, 21, 22, 23, 24, 25] rfl
                                have hDc := hD.sub (ws' := (wS93 cI cJ cZ cB o1 o1_1 o1_2 o1_3 o1_4 o1_5 o1_6 o1_7 o1_8 o1_9 o1_10 o1_11 o1_12 o1_13 o1_14 o1_15 o1_16 o1_17 o1_18 o1_19 o1_20 o1_21 o1_22 o1_23 o1_24 o1_25 (0 : Int32) (0 : Int32) (0 : Int32) (0 : Int32) (0 : Int32) (0 : Int32) (0 : Int32) (0 : Int32) (0 : Int32) (0 : Int32) (0 : Int32) (0 : Int32) (0 : Int32) (0 : Int32) (0 : Int32) (0 : Int32) (0 : Int32) (0 : Int32) (0 : Int32) (-1 : Int32) (0 : Int32) (0 : Int32) (0 : Int32) (0 : Int32) (0 : Int32) (0 : Int64) (0 : Int32) (0 : Int32) (0 : Int32) (0 : Int32) (0 : Int32) (0 : Int64) (0 : Int32) (0 : Int32) (0 : Int32) (0 : Int32) (0 : Int32) (0 : Int32) (0 : Int64) (fun _ => 0) (fun _ => 0) (fun _ => 0) (fun _ => 0) (fun _ => 0) (fun _ => 0) (fun _ => 0) (fun _ => 0) (fun _ => 0) (fun _ => 0) (fun _ => 0) (fun _ => 0) (fun _ => 0) (fun _ => 0) (fun _ => 0) (fun _ => 0) (fun _ => 0) (fun _ => 0) (fun _ => 0) (fun _ => 0) (fun _ => 0) (fun _ => 0) (fun _ => 0) (fun _ => 0) (fun _ => 0))) [0, 1, 2, 3, 4, 5, 6, 7, 8, 9, 10, 11, 12, 13, 14, 15, 16, 17, 18, 19, 20, 21, 22, 23, 24, 25] (by decide) rfl
                                have hFc := va_free (wc := (wS93 cI cJ cZ cB o1 o1_1 o1_2 o1_3 o1_4 o1_5 o1_6 o1_7 o1_8 o1_9 o1_10 o1_11 o1_12 o1_13 o1_14 o1_15 o1_16 o1_17 o1_18 o1_19 o1_20 o1_21 o1_22 o1_23 o1_24 o1_25 (0 : Int32) (0 : Int32) (0 : Int32) (0 : Int32) (0 : Int32) (0 : Int32) (0 : Int32) (0 : Int32) (0 : Int32) (0 : Int32) (0 : Int32) (0 : Int32) (0 : Int32) (0 : Int32) (0 : Int32) (0 : Int32) (0 : Int32) (0 : Int32) (0 : Int32) (-1 : Int32) (0 : Int32) (0 : Int32) (0 : Int32) (0 : Int32) (0 : Int32) (0 : Int64) (0 : Int32) (0 : Int32) (0 : Int32) (0 : Int32) (0 : Int32) (0 : Int64) (0 : Int32) (0 : Int32) (0 : Int32) (0 : Int32) (0 : Int32) (0 : Int32) (0 : Int64) (fun _ => 0) (fun _ => 0) (fun _ => 0) (fun _ => 0) (fun _ => 0) (fun _ => 0) (fun _ => 0) (fun _ => 0) (fun _ => 0) (fun _ => 0) (fun _ => 0) (fun _ => 0) (fun _ => 0) (fun _ => 0) (fun _ => 0) (fun _ => 0) (fun _ => 0) (fun _ => 0) (fun _ => 0) (fun _ => 0) (fun _ => 0) (fun _ => 0) (fun _ => 0) (fun _ => 0) (fun _ => 0))) hD hS hA [0, 1, 2, 3, 4, 5, 6, 7, 8, 9, 10, 11, 12, 13, 14, 15, 16, 17, 18, 19, 20, 21, 22, 23, 24, 25] rfl
                                refine va_calli (va_runV (C := "SignMachineModel") (As := []) (rest := [.int f_S_assemble_1]) ⟨hx, hb, hml, hown, hk⟩ (c_X_assemble_1 l D cI cJ cZ cB o1 o1_1 o1_2 o1_3 o1_4 o1_5 o1_6 o1_7 o1_8 o1_9 o1_10 o1_11 o1_12 o1_13 o1_14 o1_15 o1_16 o1_17 o1_18 o1_19 o1_20 o1_21 o1_22 o1_23 o1_24 o1_25 H.size ) (v_X_assemble_1 hk k_1517 ⟨Nat.le_of_ble_eq_true rfl, Nat.le_of_ble_eq_true rfl⟩) (pM_v hK hPc hDc (ci := 7) (q0 := 0) rfl rfl rfl) rfl rfl hl.1 rfl (lv_room (Nat.le_of_ble_eq_true rfl)) d_law_502 ⟨Nat.le_of_ble_eq_true rfl, Nat.le_of_ble_eq_true rfl⟩) hS (fun q _ h => hFc q h) hFc (fun r u t H locs ht hvm hw hB hz1 hk1 hS => ?_)
                                subst hw
                                obtain ⟨hP, hD⟩ := va_join (wr := []) (w1 := []) hP hD [0, 1, 2, 3, 4, 5, 6, 7, 8, 9, 10, 11, 12, 13, 14, 15, 16, 17, 18, 19, 20, 21, 22, 23, 24, 25] [] rfl rfl (by decide) (by decide) hk1 hFc nil_P nil_D
                                have hP : va_P D classes ([]) H := hP
                                have hD : va_D (fun q : Nat => s.heap.size ≤ q) ([]) := hD
                                refine W.widen (k := 48) (n := 75960) (by decide) (by decide) ?_
                                refine lv_icmp_eq (tgt := 533) hx hb d_law_505 (by decide) (fun c42 => ?_) (fun c42 => absurd (show f_S_assemble_1 = f_X_assemble_1 from (e_assemble)) c42)
                                refine lv_iinc (v := (6 : Int32)) (lv' := [(3, .int (6 : Int32)), (2, .ref o1), (1, .ref o0), (0, .ref b)]) hx hb d_law_533 hl (k := 0) rfl (by decide) (by decide) rfl (fun ls hl => ?_)
                                refine lv_goto (tgt := 18) hx hb d_law_536 (by decide) ?_
                                refine lv_iload_n hx hb d_law_18 rfl (lv_at hl 0 rfl) ?_
                                refine lv_aload_n hx hb d_law_19 rfl (lv_at hl 3 rfl) ?_
                                refine va_slen hx hb hX hbl hbA hS d_law_20 ?_
                                refine tpi (y := (6 : Int32)) (by decide) ?_
                                refine lv_bipush (v := 6) hx hb d_law_21 (by decide) ?_
                                refine lv_isub hx hb d_law_23 ?_
                                refine tpi (y := (0 : Int32)) (by decide) ?_
                                refine lv_icmp_gt (tgt := 539) hx hb d_law_24 (by decide) (fun c43 => ?_) (fun c43 => absurd (show (0 : Int32) < (6 : Int32) from (by decide)) c43)
                                refine lv_iconst (v := 1) hx hb d_law_539 (by decide) ?_
                                refine va_forget (fun q hq => hS.2.2 q hq) ?_
                                refine W.widen (k := 600000) (n := 7302250) (by decide) (by decide) ?_
                                exact lw_ret hx hb hr hlocks d_law_540
                              · by_cases c44 : ((xs 0) &&& (15 : Int32)) = (14 : Int32)
                                · refine lv_tableIn (off := 477) (tgt := 510) hx hb d_law_33 (by rw [c44]; decide) (by rw [c44]; decide) (by rw [c44]; rfl) (by decide) ?_
                                  refine lv_aload_n hx hb d_law_510 rfl (lv_at hl 2 rfl) ?_
                                  refine lv_aload_n hx hb d_law_511 rfl (lv_at hl 3 rfl) ?_
                                  refine lv_iload_n hx hb d_law_512 rfl (lv_at hl 0 rfl) ?_
                                  refine lv_iconst (v := 1) hx hb d_law_513 (by decide) ?_
                                  refine lv_iadd hx hb d_law_514 ?_
                                  refine tpi (y := (1 : Int32)) (by decide) ?_
                                  refine va_sld hx hb hX hbl hbA hS (by unfold vp_in; decide) d_law_515 ?_
                                  refine tpi (y := (xs 1)) rfl ?_
                                  have hPc := hP.sub (ws' := (wS10 cI cJ cZ cB o0 o0_1 o0_2 o0_3 o0_4 o0_5 (0 : Int32) (0 : Int32) (0 : Int32) (0 : Int32) (0 : Int32) (0 : Int32) (0 : Int32) (0 : Int32) (0 : Int32) (0 : Int32) (fun _ => 0) (fun _ => 0) (0 : Int32) (0 : Int32))) [0, 1, 2, 3, 4, 5] rfl
                                  have hDc := hD.sub (ws' := (wS10 cI cJ cZ cB o0 o0_1 o0_2 o0_3 o0_4 o0_5 (0 : Int32) (0 : Int32) (0 : Int32) (0 : Int32) (0 : Int32) (0 : Int32) (0 : Int32) (0 : Int32) (0 : Int32) (0 : Int32) (fun _ => 0) (fun _ => 0) (0 : Int32) (0 : Int32))) [0, 1, 2, 3, 4, 5] (by decide) rfl
                                  have hFc := va_free (wc := (wS10 cI cJ cZ cB o0 o0_1 o0_2 o0_3 o0_4 o0_5 (0 : Int32) (0 : Int32) (0 : Int32) (0 : Int32) (0 : Int32) (0 : Int32) (0 : Int32) (0 : Int32) (0 : Int32) (0 : Int32) (fun _ => 0) (fun _ => 0) (0 : Int32) (0 : Int32))) hD hS hA [0, 1, 2, 3, 4, 5] rfl
                                  refine va_calli (va_runV (C := "SignMachine") (As := [.int (xs 1)]) (rest := []) ⟨hx, hb, hml, hown, hk⟩ (c_S_about_1 l D cI cJ cZ cB o0 o0_1 o0_2 o0_3 o0_4 o0_5 H.size (xs 1)) (v_S_about_1 hk k_1111 ⟨Nat.le_of_ble_eq_true rfl, Nat.le_of_ble_eq_true rfl⟩) (pM_v hK hPc hDc (ci := 0) (q0 := 0) rfl rfl rfl) rfl rfl hl.1 rfl (lv_room (Nat.le_of_ble_eq_true rfl)) d_law_516 ⟨Nat.le_of_ble_eq_true rfl, Nat.le_of_ble_eq_true rfl⟩) hS (fun q _ h => hFc q h) hFc (fun r u t H locs ht hvm hw hB hz1 hk1 hS => ?_)
                                  subst hw
                                  obtain ⟨hP, hD⟩ := va_join (wr := (wS93 cI cJ cZ cB o1 o1_1 o1_2 o1_3 o1_4 o1_5 o1_6 o1_7 o1_8 o1_9 o1_10 o1_11 o1_12 o1_13 o1_14 o1_15 o1_16 o1_17 o1_18 o1_19 o1_20 o1_21 o1_22 o1_23 o1_24 o1_25 (0 : Int32) (0 : Int32) (0 : Int32) (0 : Int32) (0 : Int32) (0 : Int32) (0 : Int32) (0 : Int32) (0 : Int32) (0 : Int32) (0 : Int32) (0 : Int32) (0 : Int32) (0 : Int32) (0 : Int32) (0 : Int32) (0 : Int32) (0 : Int32) (0 : Int32) (-1 : Int32) (0 : Int32) (0 : Int32) (0 : Int32) (0 : Int32) (0 : Int32) (0 : Int64) (0 : Int32) (0 : Int32) (0 : Int32) (0 : Int32) (0 : Int32) (0 : Int64) (0 : Int32) (0 : Int32) (0 : Int32) (0 : Int32) (0 : Int32) (0 : Int32) (0 : Int64) (fun _ => 0) (fun _ => 0) (fun _ => 0) (fun _ => 0) (fun _ => 0) (fun _ => 0) (fun _ => 0) (fun _ => 0) (fun _ => 0) (fun _ => 0) (fun _ => 0) (fun _ => 0) (fun _ => 0) (fun _ => 0) (fun _ => 0) (fun _ => 0) (fun _ => 0) (fun _ => 0) (fun _ => 0) (fun _ => 0) (fun _ => 0) (fun _ => 0) (fun _ => 0) (fun _ => 0) (fun _ => 0))) (w1 := []) hP hD [0, 1, 2, 3, 4, 5] [6, 7, 8, 9, 10, 11, 12, 13, 14, 15, 16, 17, 18, 19, 20, 21, 22, 23, 24, 25, 26, 27, 28, 29, 30, 31] rfl rfl (by decide) (by decide) hk1 hFc nil_P nil_D
                                  have hP : va_P D classes ((wS93 cI cJ cZ cB o1 o1_1 o1_2 o1_3 o1_4 o1_5 o1_6 o1_7 o1_8 o1_9 o1_10 o1_11 o1_12 o1_13 o1_14 o1_15 o1_16 o1_17 o1_18 o1_19 o1_20 o1_21 o1_22 o1_23 o1_24 o1_25 (0 : Int32) (0 : Int32) (0 : Int32) (0 : Int32) (0 : Int32) (0 : Int32) (0 : Int32) (0 : Int32) (0 : Int32) (0 : Int32) (0 : Int32) (0 : Int32) (0 : Int32) (0 : Int32) (0 : Int32) (0 : Int32) (0 : Int32) (0 : Int32) (0 : Int32) (-1 : Int32) (0 : Int32) (0 : Int32) (0 : Int32) (0 : Int32) (0 : Int32) (0 : Int64) (0 : Int32) (0 : Int32) (0 : Int32) (0 : Int32) (0 : Int32) (0 : Int64) (0 : Int32) (0 : Int32) (0 : Int32) (0 : Int32) (0 : Int32) (0 : Int32) (0 : Int64) (fun _ => 0) (fun _ => 0) (fun _ => 0) (fun _ => 0) (fun _ => 0) (fun _ => 0) (fun _ => 0) (fun _ => 0) (fun _ => 0) (fun _ => 0) (fun _ => 0) (fun _ => 0) (fun _ => 0) (fun _ => 0) (fun _ => 0) (fun _ => 0) (fun _ => 0) (fun _ => 0) (fun _ => 0) (fun _ => 0) (fun _ => 0) (fun _ => 0) (fun _ => 0) (fun _ => 0) (fun _ => 0))) H := hP
                                  have hD : va_D (fun q : Nat => s.heap.size ≤ q) ((wS93 cI cJ cZ cB o1 o1_1 o1_2 o1_3 o1_4 o1_5 o1_6 o1_7 o1_8 o1_9 o1_10 o1_11 o1_12 o1_13 o1_14 o1_15 o1_16 o1_17 o1_18 o1_19 o1_20 o1_21 o1_22 o1_23 o1_24 o1_25 (0 : Int32) (0 : Int32) (0 : Int32) (0 : Int32) (0 : Int32) (0 : Int32) (0 : Int32) (0 : Int32) (0 : Int32) (0 : Int32) (0 : Int32) (0 : Int32) (0 : Int32) (0 : Int32) (0 : Int32) (0 : Int32) (0 : Int32) (0 : Int32) (0 : Int32) (-1 : Int32) (0 : Int32) (0 : Int32) (0 : Int32) (0 : Int32) (0 : Int32) (0 : Int64) (0 : Int32) (0 : Int32) (0 : Int32) (0 : Int32) (0 : Int32) (0 : Int64) (0 : Int32) (0 : Int32) (0 : Int32) (0 : Int32) (0 : Int32) (0 : Int32) (0 : Int64) (fun _ => 0) (fun _ => 0) (fun _ => 0) (fun _ => 0) (fun _ => 0) (fun _ => 0) (fun _ => 0) (fun _ => 0) (fun _ => 0) (fun _ => 0) (fun _ => 0) (fun _ => 0) (fun _ => 0) (fun _ => 0) (fun _ => 0) (fun _ => 0) (fun _ => 0) (fun _ => 0) (fun _ => 0) (fun _ => 0) (fun _ => 0) (fun _ => 0) (fun _ => 0) (fun _ => 0) (fun _ => 0))) := hD
                                  refine W.widen (k := 48) (n := 75960) (by decide) (by decide) ?_
                                  refine lv_aload_n hx hb d_law_519 rfl (lv_at hl 1 rfl) ?_
                                  refine lv_aload_n hx hb d_law_520 rfl (lv_at hl 3 rfl) ?_
                                  refine lv_iload_n hx hb d_law_521 rfl (lv_at hl 0 rfl) ?_
                                  refine lv_iconst (v := 1) hx hb d_law_522 (by decide) ?_
                                  refine lv_iadd hx hb d_law_523 ?_
                                  refine tpi (y := (1 : Int32)) (by decide) ?_
                                  refine va_sld hx hb hX hbl hbA hS (by unfold vp_in; decide) d_law_524 ?_
                                  refine tpi (y := (xs 1)) rfl ?_
                                  have hPc := hP.sub (ws' := (wS93 cI cJ cZ cB o1 o1_1 o1_2 o1_3 o1_4 o1_5 o1_6 o1_7 o1_8 o1_9 o1_10 o1_11 o1_12 o1_13 o1_14 o1_15 o1_16 o1_17 o1_18 o1_19 o1_20 o1_21 o1_22 o1_23 o1_24 o1_25 (0 : Int32) (0 : Int32) (0 : Int32) (0 : Int32) (0 : Int32) (0 : Int32) (0 : Int32) (0 : Int32) (0 : Int32) (0 : Int32) (0 : Int32) (0 : Int32) (0 : Int32) (0 : Int32) (0 : Int32) (0 : Int32) (0 : Int32) (0 : Int32) (0 : Int32) (-1 : Int32) (0 : Int32) (0 : Int32) (0 : Int32) (0 : Int32) (0 : Int32) (0 : Int64) (0 : Int32) (0 : Int32) (0 : Int32) (0 : Int32) (0 : Int32) (0 : Int64) (0 : Int32) (0 : Int32) (0 : Int32) (0 : Int32) (0 : Int32) (0 : Int32) (0 : Int64) (fun _ => 0) (fun _ => 0) (fun _ => 0) (fun _ => 0) (fun _ => 0) (fun _ => 0) (fun _ => 0) (fun _ => 0) (fun _ => 0) (fun _ => 0) (fun _ => 0) (fun _ => 0) (fun _ => 0) (fun _ => 0) (fun _ => 0) (fun _ => 0) (fun _ => 0) (fun _ => 0) (fun _ => 0) (fun _ => 0) (fun _ => 0) (fun _ => 0) (fun _ => 0) (fun _ => 0) (fun _ => 0))) [0, 1, 2, 3, 4, 5, 6, 7, 8, 9, 10, 11, 12, 13, 14, 15, 16, 17, 18, 19, 20, 21, 22, 23, 24, 25] rfl
                                  have hDc := hD.sub (ws' := (wS93 cI cJ cZ cB o1 o1_1 o1_2 o1_3 o1_4 o1_5 o1_6 o1_7 o1_8 o1_9 o1_10 o1_11 o1_12 o1_13 o1_14 o1_15 o1_16 o1_17 o1_18 o1_19 o1_20 o1_21 o1_22 o1_23 o1_24 o1_25 (0 : Int32) (0 : Int32) (0 : Int32) (0 : Int32) (0 : Int32) (0 : Int32) (0 : Int32) (0 : Int32) (0 : Int32) (0 : Int32) (0 : Int32) (0 : Int32) (0 : Int32) (0 : Int32) (0 : Int32) (0 : Int32) (0 : Int32) (0 : Int32) (0 : Int32) (-1 : Int32) (0 : Int32) (0 : Int32) (0 : Int32) (0 : Int32) (0 : Int32) (0 : Int64) (0 : Int32) (0 : Int32) (0 : Int32) (0 : Int32) (0 : Int32) (0 : Int64) (0 : Int32) (0 : Int32) (0 : Int32) (0 : Int32) (0 : Int32) (0 : Int32) (0 : Int64) (fun _ => 0) (fun _ => 0) (fun _ => 0) (fun _ => 0) (fun _ => 0) (fun _ => 0) (fun _ => 0) (fun _ => 0) (fun _ => 0) (fun _ => 0) (fun _ => 0) (fun _ => 0) (fun _ => 0) (fun _ => 0) (fun _ => 0) (fun _ => 0) (fun _ => 0) (fun _ => 0) (fun _ => 0) (fun _ => 0) (fun _ => 0) (fun _ => 0) (fun _ => 0) (fun _ => 0) (fun _ => 0))) [0, 1, 2, 3, 4, 5, 6, 7, 8, 9, 10, 11, 12, 13, 14, 15, 16, 17, 18, 19, 20, 21, 22, 23, 24, 25] (by decide) rfl
                                  have hFc := va_free (wc := (wS93 cI cJ cZ cB o1 o1_1 o1_2 o1_3 o1_4 o1_5 o1_6 o1_7 o1_8 o1_9 o1_10 o1_11 o1_12 o1_13 o1_14 o1_15 o1_16 o1_17 o1_18 o1_19 o1_20 o1_21 o1_22 o1_23 o1_24 o1_25 (0 : Int32) (0 : Int32) (0 : Int32) (0 : Int32) (0 : Int32) (0 : Int32) (0 : Int32) (0 : Int32) (0 : Int32) (0 : Int32) (0 : Int32) (0 : Int32) (0 : Int32) (0 : Int32) (0 : Int32) (0 : Int32) (0 : Int32) (0 : Int32) (0 : Int32) (-1 : Int32) (0 : Int32) (0 : Int32) (0 : Int32) (0 : Int32) (0 : Int32) (0 : Int64) (0 : Int32) (0 : Int32) (0 : Int32) (0 : Int32) (0 : Int32) (0 : Int64) (0 : Int32) (0 : Int32) (0 : Int32) (0 : Int32) (0 : Int32) (0 : Int32) (0 : Int64) (fun _ => 0) (fun _ => 0) (fun _ => 0) (fun _ => 0) (fun _ => 0) (fun _ => 0) (fun _ => 0) (fun _ => 0) (fun _ => 0) (fun _ => 0) (fun _ => 0) (fun _ => 0) (fun _ => 0) (fun _ => 0) (fun _ => 0) (fun _ => 0) (fun _ => 0) (fun _ => 0) (fun _ => 0) (fun _ => 0) (fun _ => 0) (fun _ => 0) (fun _ => 0) (fun _ => 0) (fun _ => 0))) hD hS hA [0, 1, 2, 3, 4, 5, 6, 7, 8, 9, 10, 11, 12, 13, 14, 15, 16, 17, 18, 19, 20, 21, 22, 23, 24, 25] rfl
                                  refine va_calli (va_runV (C := "SignMachineModel") (As := [.int (xs 1)]) (rest := [.int (f_S_about_1 (xs 1))]) ⟨hx, hb, hml, hown, hk⟩ (c_X_about_1 l D cI cJ cZ cB o1 o1_1 o1_2 o1_3 o1_4 o1_5 o1_6 o1_7 o1_8 o1_9 o1_10 o1_11 o1_12 o1_13 o1_14 o1_15 o1_16 o1_17 o1_18 o1_19 o1_20 o1_21 o1_22 o1_23 o1_24 o1_25 H.size (xs 1)) (v_X_about_1 hk k_1707 ⟨Nat.le_of_ble_eq_true rfl, Nat.le_of_ble_eq_true rfl⟩) (pM_v hK hPc hDc (ci := 7) (q0 := 0) rfl rfl rfl) rfl rfl hl.1 rfl (lv_room (Nat.le_of_ble_eq_true rfl)) d_law_525 ⟨Nat.le_of_ble_eq_true rfl, Nat.le_of_ble_eq_true rfl⟩) hS (fun q _ h => hFc q h) hFc (fun r u t H locs ht hvm hw hB hz1 hk1 hS => ?_)
                                  subst hw
                                  obtain ⟨hP, hD⟩ := va_join (wr := []) (w1 := []) hP hD [0, 1, 2, 3, 4, 5, 6, 7, 8, 9, 10, 11, 12, 13, 14, 15, 16, 17, 18, 19, 20, 21, 22, 23, 24, 25] [] rfl rfl (by decide) (by decide) hk1 hFc nil_P nil_D
                                  have hP : va_P D classes ([]) H := hP
                                  have hD : va_D (fun q : Nat => s.heap.size ≤ q) ([]) := hD
                                  refine W.widen (k := 48) (n := 75960) (by decide) (by decide) ?_
                                  refine lv_icmp_eq (tgt := 533) hx hb d_law_528 (by decide) (fun c45 => ?_) (fun c45 => absurd (show (f_S_about_1 (xs 1)) = (f_X_about_1 (xs 1)) from (e_about _)) c45)
                                  refine lv_iinc (v := (6 : Int32)) (lv' := [(3, .int (6 : Int32)), (2, .ref o1), (1, .ref o0), (0, .ref b)]) hx hb d_law_533 hl (k := 0) rfl (by decide) (by decide) rfl (fun ls hl => ?_)
                                  refine lv_goto (tgt := 18) hx hb d_law_536 (by decide) ?_
                                  refine lv_iload_n hx hb d_law_18 rfl (lv_at hl 0 rfl) ?_
                                  refine lv_aload_n hx hb d_law_19 rfl (lv_at hl 3 rfl) ?_
                                  refine va_slen hx hb hX hbl hbA hS d_law_20 ?_
                                  refine tpi (y := (6 : Int32)) (by decide) ?_
                                  refine lv_bipush (v := 6) hx hb d_law_21 (by decide) ?_
                                  refine lv_isub hx hb d_law_23 ?_
                                  refine tpi (y := (0 : Int32)) (by decide) ?_
                                  refine lv_icmp_gt (tgt := 539) hx hb d_law_24 (by decide) (fun c46 => ?_) (fun c46 => absurd (show (0 : Int32) < (6 : Int32) from (by decide)) c46)
                                  refine lv_iconst (v := 1) hx hb d_law_539 (by decide) ?_
                                  refine va_forget (fun q hq => hS.2.2 q hq) ?_
                                  refine W.widen (k := 600000) (n := 7302250) (by decide) (by decide) ?_
                                  exact lw_ret hx hb hr hlocks d_law_540
                                · refine lv_tableOut (tgt := 533) hx hb d_law_33 (by have e0 := lv_neT c2 (a := 0) rfl; have e1 := lv_neT c5 (a := 1) rfl; have e2 := lv_neT c8 (a := 2) rfl; have e3 := lv_neT c11 (a := 3) rfl; have e4 := lv_neT c14 (a := 4) rfl; have e5 := lv_neT c17 (a := 5) rfl; have e6 := lv_neT c20 (a := 6) rfl; have e7 := lv_neT c23 (a := 7) rfl; have e8 := lv_neT c26 (a := 8) rfl; have e9 := lv_neT c29 (a := 9) rfl; have e10 := lv_neT c32 (a := 10) rfl; have e11 := lv_neT c35 (a := 11) rfl; have e12 := lv_neT c38 (a := 12) rfl; have e13 := lv_neT c41 (a := 13) rfl; have e14 := lv_neT c44 (a := 14) rfl; omega) (by decide) ?_
                                  refine lv_iinc (v := (6 : Int32)) (lv' := [(3, .int (6 : Int32)), (2, .ref o1), (1, .ref o0), (0, .ref b)]) hx hb d_law_533 hl (k := 0) rfl (by decide) (by decide) rfl (fun ls hl => ?_)
                                  refine lv_goto (tgt := 18) hx hb d_law_536 (by decide) ?_
                                  refine lv_iload_n hx hb d_law_18 rfl (lv_at hl 0 rfl) ?_
                                  refine lv_aload_n hx hb d_law_19 rfl (lv_at hl 3 rfl) ?_
                                  refine va_slen hx hb hX hbl hbA hS d_law_20 ?_
                                  refine tpi (y := (6 : Int32)) (by decide) ?_
                                  refine lv_bipush (v := 6) hx hb d_law_21 (by decide) ?_
                                  refine lv_isub hx hb d_law_23 ?_
                                  refine tpi (y := (0 : Int32)) (by decide) ?_
                                  refine lv_icmp_gt (tgt := 539) hx hb d_law_24 (by decide) (fun c47 => ?_) (fun c47 => absurd (show (0 : Int32) < (6 : Int32) from (by decide)) c47)
                                  refine lv_iconst (v := 1) hx hb d_law_539 (by decide) ?_
                                  refine va_forget (fun q hq => hS.2.2 q hq) ?_
                                  refine W.widen (k := 600000) (n := 7302250) (by decide) (by decide) ?_
                                  exact lw_ret hx hb hr hlocks d_law_540
  · refine tpi (y := (5 : Int32)) (by decide) ?_
    refine lv_bipush (v := 6) hx hb d_law_21 (by decide) ?_
    refine lv_isub hx hb d_law_23 ?_
    refine tpi (y := (-1 : Int32)) (by decide) ?_
    refine lv_icmp_gt (tgt := 539) hx hb d_law_24 (by decide) (fun c48 => ?_) (fun c48 => absurd (show (-1 : Int32) < (0 : Int32) from (by decide)) c48)
    refine lv_iconst (v := 1) hx hb d_law_539 (by decide) ?_
    refine va_forget (fun q hq => hS.2.2 q hq) ?_
    refine W.widen (k := 600000) (n := 7302250) (by decide) (by decide) ?_
    exact lw_ret hx hb hr hlocks d_law_540
  · refine tpi (y := (4 : Int32)) (by decide) ?_
    refine lv_bipush (v := 6) hx hb d_law_21 (by decide) ?_
    refine lv_isub hx hb d_law_23 ?_
    refine tpi (y := (-2 : Int32)) (by decide) ?_
    refine lv_icmp_gt (tgt := 539) hx hb d_law_24 (by decide) (fun c49 => ?_) (fun c49 => absurd (show (-2 : Int32) < (0 : Int32) from (by decide)) c49)
    refine lv_iconst (v := 1) hx hb d_law_539 (by decide) ?_
    refine va_forget (fun q hq => hS.2.2 q hq) ?_
    refine W.widen (k := 600000) (n := 7302250) (by decide) (by decide) ?_
    exact lw_ret hx hb hr hlocks d_law_540
  · refine tpi (y := (3 : Int32)) (by decide) ?_
    refine lv_bipush (v := 6) hx hb d_law_21 (by decide) ?_
    refine lv_isub hx hb d_law_23 ?_
    refine tpi (y := (-3 : Int32)) (by decide) ?_
    refine lv_icmp_gt (tgt := 539) hx hb d_law_24 (by decide) (fun c50 => ?_) (fun c50 => absurd (show (-3 : Int32) < (0 : Int32) from (by decide)) c50)
    refine lv_iconst (v := 1) hx hb d_law_539 (by decide) ?_
    refine va_forget (fun q hq => hS.2.2 q hq) ?_
    refine W.widen (k := 600000) (n := 7302250) (by decide) (by decide) ?_
    exact lw_ret hx hb hr hlocks d_law_540
  · refine tpi (y := (2 : Int32)) (by decide) ?_
    refine lv_bipush (v := 6) hx hb d_law_21 (by decide) ?_
    refine lv_isub hx hb d_law_23 ?_
    refine tpi (y := (-4 : Int32)) (by decide) ?_
    refine lv_icmp_gt (tgt := 539) hx hb d_law_24 (by decide) (fun c51 => ?_) (fun c51 => absurd (show (-4 : Int32) < (0 : Int32) from (by decide)) c51)
    refine lv_iconst (v := 1) hx hb d_law_539 (by decide) ?_
    refine va_forget (fun q hq => hS.2.2 q hq) ?_
    refine W.widen (k := 600000) (n := 7302250) (by decide) (by decide) ?_
    exact lw_ret hx hb hr hlocks d_law_540
  · refine tpi (y := (1 : Int32)) (by decide) ?_
    refine lv_bipush (v := 6) hx hb d_law_21 (by decide) ?_
    refine lv_isub hx hb d_law_23 ?_
    refine tpi (y := (-5 : Int32)) (by decide) ?_
    refine lv_icmp_gt (tgt := 539) hx hb d_law_24 (by decide) (fun c52 => ?_) (fun c52 => absurd (show (-5 : Int32) < (0 : Int32) from (by decide)) c52)
    refine lv_iconst (v := 1) hx hb d_law_539 (by decide) ?_
    refine va_forget (fun q hq => hS.2.2 q hq) ?_
    refine W.widen (k := 600000) (n := 7302250) (by decide) (by decide) ?_
    exact lw_ret hx hb hr hlocks d_law_540
  · refine tpi (y := (0 : Int32)) (by decide) ?_
    refine lv_bipush (v := 6) hx hb d_law_21 (by decide) ?_
    refine lv_isub hx hb d_law_23 ?_
    refine tpi (y := (-6 : Int32)) (by decide) ?_
    refine lv_icmp_gt (tgt := 539) hx hb d_law_24 (by decide) (fun c53 => ?_) (fun c53 => absurd (show (-6 : Int32) < (0 : Int32) from (by decide)) c53)
    refine lv_iconst (v := 1) hx hb d_law_539 (by decide) ?_
    refine va_forget (fun q hq => hS.2.2 q hq) ?_
    refine W.widen (k := 600000) (n := 7302250) (by decide) (by decide) ?_
    exact lw_ret hx hb hr hlocks d_law_540

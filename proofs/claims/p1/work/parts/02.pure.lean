def f_O_isWord (a0 : Int32) : Bool := (if (a0 : Int32) < (0 : Int32) then false else (if (1101 : Int32) ≤ a0 then false else true))
set_option maxHeartbeats 4000000 in
set_option maxRecDepth 100000 in
theorem c_O_isWord (l : Launch) (a0 : Int32) : Met l y_O_isWord (.code y_O_isWord b_O_isWord 1 (some .boolean) :: tb) ({ frames := 0, cells := 0, slots := 0, locals := 0 }) (va_Pc [.int a0] (fun _ => True)) (vp_Si (fun r => r = bI (f_O_isWord a0))) 0 0 (fun _ => False) := by
  refine Met.ofW (cc := b_O_isWord) (maxL := 1) (ret := (some .boolean)) (by decide) rfl ?_
  intro p e s m args below meth c s₁ B hml hv
  obtain ⟨rfl, -⟩ := hv
  have hx := B.exec
  have hb := B.bytes
  have hr := B.returns
  have hts := atoms_spec (ws := .code y_O_isWord b_O_isWord 1 (some .boolean) :: tb) B.pre
  have hk : ∀ w ∈ tb, w.before [.int a0].toArray s = true := fun w h => hts w (List.mem_cons_of_mem _ h)
  have hown : s.vm.findClass "SignMachine$Output" = some m.cls := findClass_of_methodNamed B.named
  have hlocks := B.notSynchronized
  have hl := lv_entry ([.int a0]) (n := 1) (Nat.le_of_ble_eq_true rfl)
  rw [lg_entry_eq]
  generalize (lg_sl ([.int a0]) ++ List.replicate (1 - (lg_sl ([.int a0])).length) Slot.unset).toArray = ls at hl ⊢
  have hl : lv_has ls 1 [(0, .int a0)] := hl
  refine lv_iload_n hx hb d_O_isWord_0 rfl (lv_at hl 0 rfl) ?_
  refine lv_if_lt (tgt := 15) hx hb d_O_isWord_1 (by decide) (fun c1 => ?_) (fun c1 => ?_)
  · refine lv_iconst (v := 0) hx hb d_O_isWord_15 (by decide) ?_
    exact W.zret (v := (0 : Int32)) hx hb hr rfl (fun t ht hW => ⟨(0 : Int32), rfl, by rw [f_O_isWord, if_pos c1]; rfl, ht⟩) (fun q h => absurd h List.not_mem_nil) d_O_isWord_16
  · refine lv_iload_n hx hb d_O_isWord_4 rfl (lv_at hl 0 rfl) ?_
    refine lv_sipush (v := 1101) hx hb d_O_isWord_5 (by decide) ?_
    refine lv_icmp_ge (tgt := 15) hx hb d_O_isWord_8 (by decide) (fun c2 => ?_) (fun c2 => ?_)
    · refine lv_iconst (v := 0) hx hb d_O_isWord_15 (by decide) ?_
      exact W.zret (v := (0 : Int32)) hx hb hr rfl (fun t ht hW => ⟨(0 : Int32), rfl, by rw [f_O_isWord, if_neg c1, if_pos c2]; rfl, ht⟩) (fun q h => absurd h List.not_mem_nil) d_O_isWord_16
    · refine lv_iconst (v := 1) hx hb d_O_isWord_11 (by decide) ?_
      refine lv_goto (tgt := 16) hx hb d_O_isWord_12 (by decide) ?_
      exact W.zret (v := (1 : Int32)) hx hb hr rfl (fun t ht hW => ⟨(1 : Int32), rfl, by rw [f_O_isWord, if_neg c1, if_neg c2]; rfl, ht⟩) (fun q h => absurd h List.not_mem_nil) d_O_isWord_16
theorem s_O_isWord {R : Room} {s : State} {args : Array Value} {own : String} {index : Nat} (hk : ∀ w ∈ tb, w.before args s = true) (hl : Cond.methodLink own index y_O_isWord ∈ tb) (hR : 0 + 1 ≤ R.frames ∧ 8 + (1 + 11) + 0 ≤ R.locals) : CallB R s args own index y_O_isWord b_O_isWord 1 (some .boolean) (.code y_O_isWord b_O_isWord 1 (some .boolean) :: tb) ({ frames := 0, cells := 0, slots := 0, locals := 0 }) 0 0 1 ∧ (Cond.static y_O_isWord).before args s = true := mk_s 1 hk k_919 hl k_918 k_126 rfl rfl h_O_isWord hR
def f_M_isAddress (a0 : Int32) : Bool := (if (a0 : Int32) < (0 : Int32) then false else (if (4000 : Int32) ≤ a0 then false else true))
set_option maxHeartbeats 4000000 in
set_option maxRecDepth 100000 in
theorem c_M_isAddress (l : Launch) (a0 : Int32) : Met l y_M_isAddress (.code y_M_isAddress b_M_isAddress 1 (some .boolean) :: tb) ({ frames := 0, cells := 0, slots := 0, locals := 0 }) (va_Pc [.int a0] (fun _ => True)) (vp_Si (fun r => r = bI (f_M_isAddress a0))) 0 0 (fun _ => False) := by
  refine Met.ofW (cc := b_M_isAddress) (maxL := 1) (ret := (some .boolean)) (by decide) rfl ?_
  intro p e s m args below meth c s₁ B hml hv
  obtain ⟨rfl, -⟩ := hv
  have hx := B.exec
  have hb := B.bytes
  have hr := B.returns
  have hts := atoms_spec (ws := .code y_M_isAddress b_M_isAddress 1 (some .boolean) :: tb) B.pre
  have hk : ∀ w ∈ tb, w.before [.int a0].toArray s = true := fun w h => hts w (List.mem_cons_of_mem _ h)
  have hown : s.vm.findClass "SignMachine$Machine" = some m.cls := findClass_of_methodNamed B.named
  have hlocks := B.notSynchronized
  have hl := lv_entry ([.int a0]) (n := 1) (Nat.le_of_ble_eq_true rfl)
  rw [lg_entry_eq]
  generalize (lg_sl ([.int a0]) ++ List.replicate (1 - (lg_sl ([.int a0])).length) Slot.unset).toArray = ls at hl ⊢
  have hl : lv_has ls 1 [(0, .int a0)] := hl
  refine lv_iload_n hx hb d_M_isAddress_0 rfl (lv_at hl 0 rfl) ?_
  refine lv_if_lt (tgt := 15) hx hb d_M_isAddress_1 (by decide) (fun c1 => ?_) (fun c1 => ?_)
  · refine lv_iconst (v := 0) hx hb d_M_isAddress_15 (by decide) ?_
    exact W.zret (v := (0 : Int32)) hx hb hr rfl (fun t ht hW => ⟨(0 : Int32), rfl, by rw [f_M_isAddress, if_pos c1]; rfl, ht⟩) (fun q h => absurd h List.not_mem_nil) d_M_isAddress_16
  · refine lv_iload_n hx hb d_M_isAddress_4 rfl (lv_at hl 0 rfl) ?_
    refine lv_sipush (v := 4000) hx hb d_M_isAddress_5 (by decide) ?_
    refine lv_icmp_ge (tgt := 15) hx hb d_M_isAddress_8 (by decide) (fun c2 => ?_) (fun c2 => ?_)
    · refine lv_iconst (v := 0) hx hb d_M_isAddress_15 (by decide) ?_
      exact W.zret (v := (0 : Int32)) hx hb hr rfl (fun t ht hW => ⟨(0 : Int32), rfl, by rw [f_M_isAddress, if_neg c1, if_pos c2]; rfl, ht⟩) (fun q h => absurd h List.not_mem_nil) d_M_isAddress_16
    · refine lv_iconst (v := 1) hx hb d_M_isAddress_11 (by decide) ?_
      refine lv_goto (tgt := 16) hx hb d_M_isAddress_12 (by decide) ?_
      exact W.zret (v := (1 : Int32)) hx hb hr rfl (fun t ht hW => ⟨(1 : Int32), rfl, by rw [f_M_isAddress, if_neg c1, if_neg c2]; rfl, ht⟩) (fun q h => absurd h List.not_mem_nil) d_M_isAddress_16
theorem s_M_isAddress {R : Room} {s : State} {args : Array Value} {own : String} {index : Nat} (hk : ∀ w ∈ tb, w.before args s = true) (hl : Cond.methodLink own index y_M_isAddress ∈ tb) (hR : 0 + 1 ≤ R.frames ∧ 8 + (1 + 11) + 0 ≤ R.locals) : CallB R s args own index y_M_isAddress b_M_isAddress 1 (some .boolean) (.code y_M_isAddress b_M_isAddress 1 (some .boolean) :: tb) ({ frames := 0, cells := 0, slots := 0, locals := 0 }) 0 0 1 ∧ (Cond.static y_M_isAddress).before args s = true := mk_s 1 hk k_223 hl k_222 k_117 rfl rfl h_M_isAddress hR
def f_W_isWord (a0 : Int32) (a1 : Int32) : Bool := (if (a0 : Int32) = (0 : Int32) then (if (a1 : Int32) < (0 : Int32) then false else (if (1073741823 : Int32) < a1 then false else true)) else (if a0 = (1 : Int32) then (if (a1 : Int32) < (0 : Int32) then false else (if (1073741823 : Int32) < a1 then false else true)) else false))
set_option maxHeartbeats 4000000 in
set_option maxRecDepth 100000 in
theorem c_W_isWord (l : Launch) (a0 : Int32) (a1 : Int32) : Met l y_W_isWord (.code y_W_isWord b_W_isWord 2 (some .boolean) :: tb) ({ frames := 0, cells := 0, slots := 0, locals := 0 }) (va_Pc [.int a0, .int a1] (fun _ => True)) (vp_Si (fun r => r = bI (f_W_isWord a0 a1))) 0 0 (fun _ => False) := by
  refine Met.ofW (cc := b_W_isWord) (maxL := 2) (ret := (some .boolean)) (by decide) rfl ?_
  intro p e s m args below meth c s₁ B hml hv
  obtain ⟨rfl, -⟩ := hv
  have hx := B.exec
  have hb := B.bytes
  have hr := B.returns
  have hts := atoms_spec (ws := .code y_W_isWord b_W_isWord 2 (some .boolean) :: tb) B.pre
  have hk : ∀ w ∈ tb, w.before [.int a0, .int a1].toArray s = true := fun w h => hts w (List.mem_cons_of_mem _ h)
  have hown : s.vm.findClass "SignMachine$Word" = some m.cls := findClass_of_methodNamed B.named
  have hlocks := B.notSynchronized
  have hl := lv_entry ([.int a0, .int a1]) (n := 2) (Nat.le_of_ble_eq_true rfl)
  rw [lg_entry_eq]
  generalize (lg_sl ([.int a0, .int a1]) ++ List.replicate (2 - (lg_sl ([.int a0, .int a1])).length) Slot.unset).toArray = ls at hl ⊢
  have hl : lv_has ls 2 [(0, .int a0), (1, .int a1)] := hl
  refine lv_iload_n hx hb d_W_isWord_0 rfl (lv_at hl 0 rfl) ?_
  refine lv_if_eq (tgt := 9) hx hb d_W_isWord_1 (by decide) (fun c1 => ?_) (fun c1 => ?_)
  · refine lv_iload_n hx hb d_W_isWord_9 rfl (lv_at hl 1 rfl) ?_
    refine lv_if_lt (tgt := 23) hx hb d_W_isWord_10 (by decide) (fun c2 => ?_) (fun c2 => ?_)
    · refine lv_iconst (v := 0) hx hb d_W_isWord_23 (by decide) ?_
      exact W.zret (v := (0 : Int32)) hx hb hr rfl (fun t ht hW => ⟨(0 : Int32), rfl, by rw [f_W_isWord, if_pos c1, if_pos c2]; rfl, ht⟩) (fun q h => absurd h List.not_mem_nil) d_W_isWord_24
    · refine lv_iload_n hx hb d_W_isWord_13 rfl (lv_at hl 1 rfl) ?_
      refine lv_ldc (v := 1073741823) hx hb hown (hk _ k_227) d_W_isWord_14 ?_
      refine lv_icmp_gt (tgt := 23) hx hb d_W_isWord_16 (by decide) (fun c3 => ?_) (fun c3 => ?_)
      · refine lv_iconst (v := 0) hx hb d_W_isWord_23 (by decide) ?_
        exact W.zret (v := (0 : Int32)) hx hb hr rfl (fun t ht hW => ⟨(0 : Int32), rfl, by rw [f_W_isWord, if_pos c1, if_neg c2, if_pos c3]; rfl, ht⟩) (fun q h => absurd h List.not_mem_nil) d_W_isWord_24
      · refine lv_iconst (v := 1) hx hb d_W_isWord_19 (by decide) ?_
        refine lv_goto (tgt := 24) hx hb d_W_isWord_20 (by decide) ?_
        exact W.zret (v := (1 : Int32)) hx hb hr rfl (fun t ht hW => ⟨(1 : Int32), rfl, by rw [f_W_isWord, if_pos c1, if_neg c2, if_neg c3]; rfl, ht⟩) (fun q h => absurd h List.not_mem_nil) d_W_isWord_24
  · refine lv_iload_n hx hb d_W_isWord_4 rfl (lv_at hl 0 rfl) ?_
    refine lv_iconst (v := 1) hx hb d_W_isWord_5 (by decide) ?_
    refine lv_icmp_ne (tgt := 23) hx hb d_W_isWord_6 (by decide) (fun c4 => ?_) (fun c4 => ?_)
    · refine lv_iconst (v := 0) hx hb d_W_isWord_23 (by decide) ?_
      exact W.zret (v := (0 : Int32)) hx hb hr rfl (fun t ht hW => ⟨(0 : Int32), rfl, by rw [f_W_isWord, if_neg c1, if_neg c4]; rfl, ht⟩) (fun q h => absurd h List.not_mem_nil) d_W_isWord_24
    · refine lv_iload_n hx hb d_W_isWord_9 rfl (lv_at hl 1 rfl) ?_
      refine lv_if_lt (tgt := 23) hx hb d_W_isWord_10 (by decide) (fun c5 => ?_) (fun c5 => ?_)
      · refine lv_iconst (v := 0) hx hb d_W_isWord_23 (by decide) ?_
        exact W.zret (v := (0 : Int32)) hx hb hr rfl (fun t ht hW => ⟨(0 : Int32), rfl, by rw [f_W_isWord, if_neg c1, if_pos c4, if_pos c5]; rfl, ht⟩) (fun q h => absurd h List.not_mem_nil) d_W_isWord_24
      · refine lv_iload_n hx hb d_W_isWord_13 rfl (lv_at hl 1 rfl) ?_
        refine lv_ldc (v := 1073741823) hx hb hown (hk _ k_227) d_W_isWord_14 ?_
        refine lv_icmp_gt (tgt := 23) hx hb d_W_isWord_16 (by decide) (fun c6 => ?_) (fun c6 => ?_)
        · refine lv_iconst (v := 0) hx hb d_W_isWord_23 (by decide) ?_
          exact W.zret (v := (0 : Int32)) hx hb hr rfl (fun t ht hW => ⟨(0 : Int32), rfl, by rw [f_W_isWord, if_neg c1, if_pos c4, if_neg c5, if_pos c6]; rfl, ht⟩) (fun q h => absurd h List.not_mem_nil) d_W_isWord_24
        · refine lv_iconst (v := 1) hx hb d_W_isWord_19 (by decide) ?_
          refine lv_goto (tgt := 24) hx hb d_W_isWord_20 (by decide) ?_
          exact W.zret (v := (1 : Int32)) hx hb hr rfl (fun t ht hW => ⟨(1 : Int32), rfl, by rw [f_W_isWord, if_neg c1, if_pos c4, if_neg c5, if_neg c6]; rfl, ht⟩) (fun q h => absurd h List.not_mem_nil) d_W_isWord_24
theorem s_W_isWord {R : Room} {s : State} {args : Array Value} {own : String} {index : Nat} (hk : ∀ w ∈ tb, w.before args s = true) (hl : Cond.methodLink own index y_W_isWord ∈ tb) (hR : 0 + 1 ≤ R.frames ∧ 8 + (2 + 11) + 0 ≤ R.locals) : CallB R s args own index y_W_isWord b_W_isWord 2 (some .boolean) (.code y_W_isWord b_W_isWord 2 (some .boolean) :: tb) ({ frames := 0, cells := 0, slots := 0, locals := 0 }) 0 0 2 ∧ (Cond.static y_W_isWord).before args s = true := mk_s 2 hk k_226 hl k_225 k_120 rfl rfl h_W_isWord hR
def f_W_make (a0 : Int32) (a1 : Int32) : Int32 := (if (a0 : Int32) = (0 : Int32) then a1 else (a1 ||| (1073741824 : Int32)))
set_option maxHeartbeats 4000000 in
set_option maxRecDepth 100000 in
theorem c_W_make (l : Launch) (a0 : Int32) (a1 : Int32) : Met l y_W_make (.code y_W_make b_W_make 2 (some .int) :: tb) ({ frames := 0, cells := 0, slots := 0, locals := 0 }) (va_Pc [.int a0, .int a1] (fun _ => True)) (vp_Si (fun r => r = f_W_make a0 a1)) 0 0 (fun _ => False) := by
  refine Met.ofW (cc := b_W_make) (maxL := 2) (ret := (some .int)) (by decide) rfl ?_
  intro p e s m args below meth c s₁ B hml hv
  obtain ⟨rfl, -⟩ := hv
  have hx := B.exec
  have hb := B.bytes
  have hr := B.returns
  have hts := atoms_spec (ws := .code y_W_make b_W_make 2 (some .int) :: tb) B.pre
  have hk : ∀ w ∈ tb, w.before [.int a0, .int a1].toArray s = true := fun w h => hts w (List.mem_cons_of_mem _ h)
  have hown : s.vm.findClass "SignMachine$Word" = some m.cls := findClass_of_methodNamed B.named
  have hlocks := B.notSynchronized
  have hl := lv_entry ([.int a0, .int a1]) (n := 2) (Nat.le_of_ble_eq_true rfl)
  rw [lg_entry_eq]
  generalize (lg_sl ([.int a0, .int a1]) ++ List.replicate (2 - (lg_sl ([.int a0, .int a1])).length) Slot.unset).toArray = ls at hl ⊢
  have hl : lv_has ls 2 [(0, .int a0), (1, .int a1)] := hl
  refine lv_iload_n hx hb d_W_make_0 rfl (lv_at hl 0 rfl) ?_
  refine lv_if_ne (tgt := 8) hx hb d_W_make_1 (by decide) (fun c1 => ?_) (fun c1 => ?_)
  · refine lv_iload_n hx hb d_W_make_8 rfl (lv_at hl 1 rfl) ?_
    refine lv_ldc (v := 1073741824) hx hb hown (hk _ k_231) d_W_make_9 ?_
    refine lv_ior hx hb d_W_make_11 ?_
    exact W.iret (v := (a1 ||| (1073741824 : Int32))) hx hb hr (fun t ht hW => ⟨(a1 ||| (1073741824 : Int32)), rfl, by rw [f_W_make, if_neg c1], ht⟩) (fun q h => absurd h List.not_mem_nil) d_W_make_12
  · refine lv_iload_n hx hb d_W_make_4 rfl (lv_at hl 1 rfl) ?_
    refine lv_goto (tgt := 12) hx hb d_W_make_5 (by decide) ?_
    exact W.iret (v := a1) hx hb hr (fun t ht hW => ⟨a1, rfl, by rw [f_W_make, if_pos c1], ht⟩) (fun q h => absurd h List.not_mem_nil) d_W_make_12
theorem s_W_make {R : Room} {s : State} {args : Array Value} {own : String} {index : Nat} (hk : ∀ w ∈ tb, w.before args s = true) (hl : Cond.methodLink own index y_W_make ∈ tb) (hR : 0 + 1 ≤ R.frames ∧ 8 + (2 + 11) + 0 ≤ R.locals) : CallB R s args own index y_W_make b_W_make 2 (some .int) (.code y_W_make b_W_make 2 (some .int) :: tb) ({ frames := 0, cells := 0, slots := 0, locals := 0 }) 0 0 2 ∧ (Cond.static y_W_make).before args s = true := mk_s 2 hk k_230 hl k_229 k_120 rfl rfl h_W_make hR
def f_W_sign (a0 : Int32) : Int32 := (if ((a0 &&& (1073741824 : Int32)) : Int32) = (0 : Int32) then (0 : Int32) else (1 : Int32))
set_option maxHeartbeats 4000000 in
set_option maxRecDepth 100000 in
theorem c_W_sign (l : Launch) (a0 : Int32) : Met l y_W_sign (.code y_W_sign b_W_sign 1 (some .int) :: tb) ({ frames := 0, cells := 0, slots := 0, locals := 0 }) (va_Pc [.int a0] (fun _ => True)) (vp_Si (fun r => r = f_W_sign a0)) 0 0 (fun _ => False) := by
  refine Met.ofW (cc := b_W_sign) (maxL := 1) (ret := (some .int)) (by decide) rfl ?_
  intro p e s m args below meth c s₁ B hml hv
  obtain ⟨rfl, -⟩ := hv
  have hx := B.exec
  have hb := B.bytes
  have hr := B.returns
  have hts := atoms_spec (ws := .code y_W_sign b_W_sign 1 (some .int) :: tb) B.pre
  have hk : ∀ w ∈ tb, w.before [.int a0].toArray s = true := fun w h => hts w (List.mem_cons_of_mem _ h)
  have hown : s.vm.findClass "SignMachine$Word" = some m.cls := findClass_of_methodNamed B.named
  have hlocks := B.notSynchronized
  have hl := lv_entry ([.int a0]) (n := 1) (Nat.le_of_ble_eq_true rfl)
  rw [lg_entry_eq]
  generalize (lg_sl ([.int a0]) ++ List.replicate (1 - (lg_sl ([.int a0])).length) Slot.unset).toArray = ls at hl ⊢
  have hl : lv_has ls 1 [(0, .int a0)] := hl
  refine lv_iload_n hx hb d_W_sign_0 rfl (lv_at hl 0 rfl) ?_
  refine lv_ldc (v := 1073741824) hx hb hown (hk _ k_231) d_W_sign_1 ?_
  refine lv_iand hx hb d_W_sign_3 ?_
  refine lv_if_ne (tgt := 11) hx hb d_W_sign_4 (by decide) (fun c1 => ?_) (fun c1 => ?_)
  · refine lv_iconst (v := 1) hx hb d_W_sign_11 (by decide) ?_
    exact W.iret (v := (1 : Int32)) hx hb hr (fun t ht hW => ⟨(1 : Int32), rfl, by rw [f_W_sign, if_neg c1], ht⟩) (fun q h => absurd h List.not_mem_nil) d_W_sign_12
  · refine lv_iconst (v := 0) hx hb d_W_sign_7 (by decide) ?_
    refine lv_goto (tgt := 12) hx hb d_W_sign_8 (by decide) ?_
    exact W.iret (v := (0 : Int32)) hx hb hr (fun t ht hW => ⟨(0 : Int32), rfl, by rw [f_W_sign, if_pos c1], ht⟩) (fun q h => absurd h List.not_mem_nil) d_W_sign_12
theorem s_W_sign {R : Room} {s : State} {args : Array Value} {own : String} {index : Nat} (hk : ∀ w ∈ tb, w.before args s = true) (hl : Cond.methodLink own index y_W_sign ∈ tb) (hR : 0 + 1 ≤ R.frames ∧ 8 + (1 + 11) + 0 ≤ R.locals) : CallB R s args own index y_W_sign b_W_sign 1 (some .int) (.code y_W_sign b_W_sign 1 (some .int) :: tb) ({ frames := 0, cells := 0, slots := 0, locals := 0 }) 0 0 1 ∧ (Cond.static y_W_sign).before args s = true := mk_s 1 hk k_246 hl k_245 k_120 rfl rfl h_W_sign hR
def f_W_size (a0 : Int32) : Int32 := (a0 &&& (1073741823 : Int32))
set_option maxHeartbeats 4000000 in
set_option maxRecDepth 100000 in
theorem c_W_size (l : Launch) (a0 : Int32) : Met l y_W_size (.code y_W_size b_W_size 1 (some .int) :: tb) ({ frames := 0, cells := 0, slots := 0, locals := 0 }) (va_Pc [.int a0] (fun _ => True)) (vp_Si (fun r => r = f_W_size a0)) 0 0 (fun _ => False) := by
  refine Met.ofW (cc := b_W_size) (maxL := 1) (ret := (some .int)) (by decide) rfl ?_
  intro p e s m args below meth c s₁ B hml hv
  obtain ⟨rfl, -⟩ := hv
  have hx := B.exec
  have hb := B.bytes
  have hr := B.returns
  have hts := atoms_spec (ws := .code y_W_size b_W_size 1 (some .int) :: tb) B.pre
  have hk : ∀ w ∈ tb, w.before [.int a0].toArray s = true := fun w h => hts w (List.mem_cons_of_mem _ h)
  have hown : s.vm.findClass "SignMachine$Word" = some m.cls := findClass_of_methodNamed B.named
  have hlocks := B.notSynchronized
  have hl := lv_entry ([.int a0]) (n := 1) (Nat.le_of_ble_eq_true rfl)
  rw [lg_entry_eq]
  generalize (lg_sl ([.int a0]) ++ List.replicate (1 - (lg_sl ([.int a0])).length) Slot.unset).toArray = ls at hl ⊢
  have hl : lv_has ls 1 [(0, .int a0)] := hl
  refine lv_iload_n hx hb d_W_size_0 rfl (lv_at hl 0 rfl) ?_
  refine lv_ldc (v := 1073741823) hx hb hown (hk _ k_227) d_W_size_1 ?_
  refine lv_iand hx hb d_W_size_3 ?_
  exact W.iret (v := (a0 &&& (1073741823 : Int32))) hx hb hr (fun t ht hW => ⟨(a0 &&& (1073741823 : Int32)), rfl, by rw [f_W_size], ht⟩) (fun q h => absurd h List.not_mem_nil) d_W_size_4
theorem s_W_size {R : Room} {s : State} {args : Array Value} {own : String} {index : Nat} (hk : ∀ w ∈ tb, w.before args s = true) (hl : Cond.methodLink own index y_W_size ∈ tb) (hR : 0 + 1 ≤ R.frames ∧ 8 + (1 + 11) + 0 ≤ R.locals) : CallB R s args own index y_W_size b_W_size 1 (some .int) (.code y_W_size b_W_size 1 (some .int) :: tb) ({ frames := 0, cells := 0, slots := 0, locals := 0 }) 0 0 1 ∧ (Cond.static y_W_size).before args s = true := mk_s 1 hk k_253 hl k_252 k_120 rfl rfl h_W_size hR
def f_M_isRegister (a0 : Int32) : Bool := (if (a0 : Int32) < (0 : Int32) then false else (if (9 : Int32) ≤ a0 then false else true))
set_option maxHeartbeats 4000000 in
set_option maxRecDepth 100000 in
theorem c_M_isRegister (l : Launch) (a0 : Int32) : Met l y_M_isRegister (.code y_M_isRegister b_M_isRegister 1 (some .boolean) :: tb) ({ frames := 0, cells := 0, slots := 0, locals := 0 }) (va_Pc [.int a0] (fun _ => True)) (vp_Si (fun r => r = bI (f_M_isRegister a0))) 0 0 (fun _ => False) := by
  refine Met.ofW (cc := b_M_isRegister) (maxL := 1) (ret := (some .boolean)) (by decide) rfl ?_
  intro p e s m args below meth c s₁ B hml hv
  obtain ⟨rfl, -⟩ := hv
  have hx := B.exec
  have hb := B.bytes
  have hr := B.returns
  have hts := atoms_spec (ws := .code y_M_isRegister b_M_isRegister 1 (some .boolean) :: tb) B.pre
  have hk : ∀ w ∈ tb, w.before [.int a0].toArray s = true := fun w h => hts w (List.mem_cons_of_mem _ h)
  have hown : s.vm.findClass "SignMachine$Machine" = some m.cls := findClass_of_methodNamed B.named
  have hlocks := B.notSynchronized
  have hl := lv_entry ([.int a0]) (n := 1) (Nat.le_of_ble_eq_true rfl)
  rw [lg_entry_eq]
  generalize (lg_sl ([.int a0]) ++ List.replicate (1 - (lg_sl ([.int a0])).length) Slot.unset).toArray = ls at hl ⊢
  have hl : lv_has ls 1 [(0, .int a0)] := hl
  refine lv_iload_n hx hb d_M_isRegister_0 rfl (lv_at hl 0 rfl) ?_
  refine lv_if_lt (tgt := 14) hx hb d_M_isRegister_1 (by decide) (fun c1 => ?_) (fun c1 => ?_)
  · refine lv_iconst (v := 0) hx hb d_M_isRegister_14 (by decide) ?_
    exact W.zret (v := (0 : Int32)) hx hb hr rfl (fun t ht hW => ⟨(0 : Int32), rfl, by rw [f_M_isRegister, if_pos c1]; rfl, ht⟩) (fun q h => absurd h List.not_mem_nil) d_M_isRegister_15
  · refine lv_iload_n hx hb d_M_isRegister_4 rfl (lv_at hl 0 rfl) ?_
    refine lv_bipush (v := 9) hx hb d_M_isRegister_5 (by decide) ?_
    refine lv_icmp_ge (tgt := 14) hx hb d_M_isRegister_7 (by decide) (fun c2 => ?_) (fun c2 => ?_)
    · refine lv_iconst (v := 0) hx hb d_M_isRegister_14 (by decide) ?_
      exact W.zret (v := (0 : Int32)) hx hb hr rfl (fun t ht hW => ⟨(0 : Int32), rfl, by rw [f_M_isRegister, if_neg c1, if_pos c2]; rfl, ht⟩) (fun q h => absurd h List.not_mem_nil) d_M_isRegister_15
    · refine lv_iconst (v := 1) hx hb d_M_isRegister_10 (by decide) ?_
      refine lv_goto (tgt := 15) hx hb d_M_isRegister_11 (by decide) ?_
      exact W.zret (v := (1 : Int32)) hx hb hr rfl (fun t ht hW => ⟨(1 : Int32), rfl, by rw [f_M_isRegister, if_neg c1, if_neg c2]; rfl, ht⟩) (fun q h => absurd h List.not_mem_nil) d_M_isRegister_15
theorem s_M_isRegister {R : Room} {s : State} {args : Array Value} {own : String} {index : Nat} (hk : ∀ w ∈ tb, w.before args s = true) (hl : Cond.methodLink own index y_M_isRegister ∈ tb) (hR : 0 + 1 ≤ R.frames ∧ 8 + (1 + 11) + 0 ≤ R.locals) : CallB R s args own index y_M_isRegister b_M_isRegister 1 (some .boolean) (.code y_M_isRegister b_M_isRegister 1 (some .boolean) :: tb) ({ frames := 0, cells := 0, slots := 0, locals := 0 }) 0 0 1 ∧ (Cond.static y_M_isRegister).before args s = true := mk_s 1 hk k_481 hl k_480 k_117 rfl rfl h_M_isRegister hR
def f_M_isIndex (a0 : Int32) : Bool := (if a0 < (1 : Int32) then false else (if (6 : Int32) < a0 then false else true))
set_option maxHeartbeats 4000000 in
set_option maxRecDepth 100000 in
theorem c_M_isIndex (l : Launch) (a0 : Int32) : Met l y_M_isIndex (.code y_M_isIndex b_M_isIndex 1 (some .boolean) :: tb) ({ frames := 0, cells := 0, slots := 0, locals := 0 }) (va_Pc [.int a0] (fun _ => True)) (vp_Si (fun r => r = bI (f_M_isIndex a0))) 0 0 (fun _ => False) := by
  refine Met.ofW (cc := b_M_isIndex) (maxL := 1) (ret := (some .boolean)) (by decide) rfl ?_
  intro p e s m args below meth c s₁ B hml hv
  obtain ⟨rfl, -⟩ := hv
  have hx := B.exec
  have hb := B.bytes
  have hr := B.returns
  have hts := atoms_spec (ws := .code y_M_isIndex b_M_isIndex 1 (some .boolean) :: tb) B.pre
  have hk : ∀ w ∈ tb, w.before [.int a0].toArray s = true := fun w h => hts w (List.mem_cons_of_mem _ h)
  have hown : s.vm.findClass "SignMachine$Machine" = some m.cls := findClass_of_methodNamed B.named
  have hlocks := B.notSynchronized
  have hl := lv_entry ([.int a0]) (n := 1) (Nat.le_of_ble_eq_true rfl)
  rw [lg_entry_eq]
  generalize (lg_sl ([.int a0]) ++ List.replicate (1 - (lg_sl ([.int a0])).length) Slot.unset).toArray = ls at hl ⊢
  have hl : lv_has ls 1 [(0, .int a0)] := hl
  refine lv_iload_n hx hb d_M_isIndex_0 rfl (lv_at hl 0 rfl) ?_
  refine lv_iconst (v := 1) hx hb d_M_isIndex_1 (by decide) ?_
  refine lv_icmp_lt (tgt := 15) hx hb d_M_isIndex_2 (by decide) (fun c1 => ?_) (fun c1 => ?_)
  · refine lv_iconst (v := 0) hx hb d_M_isIndex_15 (by decide) ?_
    exact W.zret (v := (0 : Int32)) hx hb hr rfl (fun t ht hW => ⟨(0 : Int32), rfl, by rw [f_M_isIndex, if_pos c1]; rfl, ht⟩) (fun q h => absurd h List.not_mem_nil) d_M_isIndex_16
  · refine lv_iload_n hx hb d_M_isIndex_5 rfl (lv_at hl 0 rfl) ?_
    refine lv_bipush (v := 6) hx hb d_M_isIndex_6 (by decide) ?_
    refine lv_icmp_gt (tgt := 15) hx hb d_M_isIndex_8 (by decide) (fun c2 => ?_) (fun c2 => ?_)
    · refine lv_iconst (v := 0) hx hb d_M_isIndex_15 (by decide) ?_
      exact W.zret (v := (0 : Int32)) hx hb hr rfl (fun t ht hW => ⟨(0 : Int32), rfl, by rw [f_M_isIndex, if_neg c1, if_pos c2]; rfl, ht⟩) (fun q h => absurd h List.not_mem_nil) d_M_isIndex_16
    · refine lv_iconst (v := 1) hx hb d_M_isIndex_11 (by decide) ?_
      refine lv_goto (tgt := 16) hx hb d_M_isIndex_12 (by decide) ?_
      exact W.zret (v := (1 : Int32)) hx hb hr rfl (fun t ht hW => ⟨(1 : Int32), rfl, by rw [f_M_isIndex, if_neg c1, if_neg c2]; rfl, ht⟩) (fun q h => absurd h List.not_mem_nil) d_M_isIndex_16
theorem s_M_isIndex {R : Room} {s : State} {args : Array Value} {own : String} {index : Nat} (hk : ∀ w ∈ tb, w.before args s = true) (hl : Cond.methodLink own index y_M_isIndex ∈ tb) (hR : 0 + 1 ≤ R.frames ∧ 8 + (1 + 11) + 0 ≤ R.locals) : CallB R s args own index y_M_isIndex b_M_isIndex 1 (some .boolean) (.code y_M_isIndex b_M_isIndex 1 (some .boolean) :: tb) ({ frames := 0, cells := 0, slots := 0, locals := 0 }) 0 0 1 ∧ (Cond.static y_M_isIndex).before args s = true := mk_s 1 hk k_272 hl k_271 k_117 rfl rfl h_M_isIndex hR
def f_M_isShort (a0 : Int32) : Bool := (if ((bI (f_M_isIndex a0)) : Int32) = (0 : Int32) then (if a0 = (8 : Int32) then true else false) else true)
set_option maxHeartbeats 4000000 in
set_option maxRecDepth 100000 in
theorem c_M_isShort (l : Launch) (a0 : Int32) : Met l y_M_isShort (.code y_M_isShort b_M_isShort 1 (some .boolean) :: tb) ({ frames := 1, cells := 0, slots := 0, locals := 20 }) (va_Pc [.int a0] (fun _ => True)) (vp_Si (fun r => r = bI (f_M_isShort a0))) 0 0 (fun _ => False) := by
  refine Met.ofW (cc := b_M_isShort) (maxL := 1) (ret := (some .boolean)) (by decide) rfl ?_
  intro p e s m args below meth c s₁ B hml hv
  obtain ⟨rfl, -⟩ := hv
  have hx := B.exec
  have hb := B.bytes
  have hr := B.returns
  have hts := atoms_spec (ws := .code y_M_isShort b_M_isShort 1 (some .boolean) :: tb) B.pre
  have hk : ∀ w ∈ tb, w.before [.int a0].toArray s = true := fun w h => hts w (List.mem_cons_of_mem _ h)
  have hown : s.vm.findClass "SignMachine$Machine" = some m.cls := findClass_of_methodNamed B.named
  have hlocks := B.notSynchronized
  have hl := lv_entry ([.int a0]) (n := 1) (Nat.le_of_ble_eq_true rfl)
  rw [lg_entry_eq]
  generalize (lg_sl ([.int a0]) ++ List.replicate (1 - (lg_sl ([.int a0])).length) Slot.unset).toArray = ls at hl ⊢
  have hl : lv_has ls 1 [(0, .int a0)] := hl
  refine lv_iload_n hx hb d_M_isShort_0 rfl (lv_at hl 0 rfl) ?_
  refine vp_callSi (W.runS (As := [.int a0]) (rest := []) ⟨hx, hb, hml, hown, hk⟩ (c_M_isIndex l a0) (s_M_isIndex hk k_270 ⟨Nat.le_of_ble_eq_true rfl, Nat.le_of_ble_eq_true rfl⟩) ⟨fun a U g mk q => q, fun U hU hW => ⟨rfl, trivial⟩⟩ rfl rfl hl.1 rfl (lv_room (Nat.le_of_ble_eq_true rfl)) d_M_isShort_1 ⟨Nat.le_of_ble_eq_true rfl, Nat.le_of_ble_eq_true rfl⟩) (fun r0 hr0 => ?_)
  subst hr0
  refine lv_if_ne (tgt := 13) hx hb d_M_isShort_4 (by decide) (fun c1 => ?_) (fun c1 => ?_)
  · refine lv_iconst (v := 1) hx hb d_M_isShort_13 (by decide) ?_
    refine lv_goto (tgt := 18) hx hb d_M_isShort_14 (by decide) ?_
    exact W.zret (v := (1 : Int32)) hx hb hr rfl (fun t ht hW => ⟨(1 : Int32), rfl, by rw [f_M_isShort, if_neg c1]; rfl, ht⟩) (fun q h => absurd h List.not_mem_nil) d_M_isShort_18
  · refine lv_iload_n hx hb d_M_isShort_7 rfl (lv_at hl 0 rfl) ?_
    refine lv_bipush (v := 8) hx hb d_M_isShort_8 (by decide) ?_
    refine lv_icmp_ne (tgt := 17) hx hb d_M_isShort_10 (by decide) (fun c2 => ?_) (fun c2 => ?_)
    · refine lv_iconst (v := 0) hx hb d_M_isShort_17 (by decide) ?_
      exact W.zret (v := (0 : Int32)) hx hb hr rfl (fun t ht hW => ⟨(0 : Int32), rfl, by rw [f_M_isShort, if_pos c1, if_neg c2]; rfl, ht⟩) (fun q h => absurd h List.not_mem_nil) d_M_isShort_18
    · refine lv_iconst (v := 1) hx hb d_M_isShort_13 (by decide) ?_
      refine lv_goto (tgt := 18) hx hb d_M_isShort_14 (by decide) ?_
      exact W.zret (v := (1 : Int32)) hx hb hr rfl (fun t ht hW => ⟨(1 : Int32), rfl, by rw [f_M_isShort, if_pos c1, if_pos c2]; rfl, ht⟩) (fun q h => absurd h List.not_mem_nil) d_M_isShort_18
theorem s_M_isShort {R : Room} {s : State} {args : Array Value} {own : String} {index : Nat} (hk : ∀ w ∈ tb, w.before args s = true) (hl : Cond.methodLink own index y_M_isShort ∈ tb) (hR : 1 + 1 ≤ R.frames ∧ 8 + (1 + 11) + 20 ≤ R.locals) : CallB R s args own index y_M_isShort b_M_isShort 1 (some .boolean) (.code y_M_isShort b_M_isShort 1 (some .boolean) :: tb) ({ frames := 1, cells := 0, slots := 0, locals := 20 }) 0 0 1 ∧ (Cond.static y_M_isShort).before args s = true := mk_s 1 hk k_493 hl k_492 k_117 rfl rfl h_M_isShort hR
def f_T_isWord (a0 : Int32) (a1 : Int32) : Bool := (if (a0 : Int32) < (0 : Int32) then false else (if (40 : Int32) ≤ a0 then false else (if (a1 : Int32) < (0 : Int32) then false else (if (100 : Int32) ≤ a1 then false else true))))
set_option maxHeartbeats 4000000 in
set_option maxRecDepth 100000 in
theorem c_T_isWord (l : Launch) (a0 : Int32) (a1 : Int32) : Met l y_T_isWord (.code y_T_isWord b_T_isWord 2 (some .boolean) :: tb) ({ frames := 0, cells := 0, slots := 0, locals := 0 }) (va_Pc [.int a0, .int a1] (fun _ => True)) (vp_Si (fun r => r = bI (f_T_isWord a0 a1))) 0 0 (fun _ => False) := by
  refine Met.ofW (cc := b_T_isWord) (maxL := 2) (ret := (some .boolean)) (by decide) rfl ?_
  intro p e s m args below meth c s₁ B hml hv
  obtain ⟨rfl, -⟩ := hv
  have hx := B.exec
  have hb := B.bytes
  have hr := B.returns
  have hts := atoms_spec (ws := .code y_T_isWord b_T_isWord 2 (some .boolean) :: tb) B.pre
  have hk : ∀ w ∈ tb, w.before [.int a0, .int a1].toArray s = true := fun w h => hts w (List.mem_cons_of_mem _ h)
  have hown : s.vm.findClass "SignMachine$Tape" = some m.cls := findClass_of_methodNamed B.named
  have hlocks := B.notSynchronized
  have hl := lv_entry ([.int a0, .int a1]) (n := 2) (Nat.le_of_ble_eq_true rfl)
  rw [lg_entry_eq]
  generalize (lg_sl ([.int a0, .int a1]) ++ List.replicate (2 - (lg_sl ([.int a0, .int a1])).length) Slot.unset).toArray = ls at hl ⊢
  have hl : lv_has ls 2 [(0, .int a0), (1, .int a1)] := hl
  refine lv_iload_n hx hb d_T_isWord_0 rfl (lv_at hl 0 rfl) ?_
  refine lv_if_lt (tgt := 24) hx hb d_T_isWord_1 (by decide) (fun c1 => ?_) (fun c1 => ?_)
  · refine lv_iconst (v := 0) hx hb d_T_isWord_24 (by decide) ?_
    exact W.zret (v := (0 : Int32)) hx hb hr rfl (fun t ht hW => ⟨(0 : Int32), rfl, by rw [f_T_isWord, if_pos c1]; rfl, ht⟩) (fun q h => absurd h List.not_mem_nil) d_T_isWord_25
  · refine lv_iload_n hx hb d_T_isWord_4 rfl (lv_at hl 0 rfl) ?_
    refine lv_bipush (v := 40) hx hb d_T_isWord_5 (by decide) ?_
    refine lv_icmp_ge (tgt := 24) hx hb d_T_isWord_7 (by decide) (fun c2 => ?_) (fun c2 => ?_)
    · refine lv_iconst (v := 0) hx hb d_T_isWord_24 (by decide) ?_
      exact W.zret (v := (0 : Int32)) hx hb hr rfl (fun t ht hW => ⟨(0 : Int32), rfl, by rw [f_T_isWord, if_neg c1, if_pos c2]; rfl, ht⟩) (fun q h => absurd h List.not_mem_nil) d_T_isWord_25
    · refine lv_iload_n hx hb d_T_isWord_10 rfl (lv_at hl 1 rfl) ?_
      refine lv_if_lt (tgt := 24) hx hb d_T_isWord_11 (by decide) (fun c3 => ?_) (fun c3 => ?_)
      · refine lv_iconst (v := 0) hx hb d_T_isWord_24 (by decide) ?_
        exact W.zret (v := (0 : Int32)) hx hb hr rfl (fun t ht hW => ⟨(0 : Int32), rfl, by rw [f_T_isWord, if_neg c1, if_neg c2, if_pos c3]; rfl, ht⟩) (fun q h => absurd h List.not_mem_nil) d_T_isWord_25
      · refine lv_iload_n hx hb d_T_isWord_14 rfl (lv_at hl 1 rfl) ?_
        refine lv_bipush (v := 100) hx hb d_T_isWord_15 (by decide) ?_
        refine lv_icmp_ge (tgt := 24) hx hb d_T_isWord_17 (by decide) (fun c4 => ?_) (fun c4 => ?_)
        · refine lv_iconst (v := 0) hx hb d_T_isWord_24 (by decide) ?_
          exact W.zret (v := (0 : Int32)) hx hb hr rfl (fun t ht hW => ⟨(0 : Int32), rfl, by rw [f_T_isWord, if_neg c1, if_neg c2, if_neg c3, if_pos c4]; rfl, ht⟩) (fun q h => absurd h List.not_mem_nil) d_T_isWord_25
        · refine lv_iconst (v := 1) hx hb d_T_isWord_20 (by decide) ?_
          refine lv_goto (tgt := 25) hx hb d_T_isWord_21 (by decide) ?_
          exact W.zret (v := (1 : Int32)) hx hb hr rfl (fun t ht hW => ⟨(1 : Int32), rfl, by rw [f_T_isWord, if_neg c1, if_neg c2, if_neg c3, if_neg c4]; rfl, ht⟩) (fun q h => absurd h List.not_mem_nil) d_T_isWord_25
theorem s_T_isWord {R : Room} {s : State} {args : Array Value} {own : String} {index : Nat} (hk : ∀ w ∈ tb, w.before args s = true) (hl : Cond.methodLink own index y_T_isWord ∈ tb) (hR : 0 + 1 ≤ R.frames ∧ 8 + (2 + 11) + 0 ≤ R.locals) : CallB R s args own index y_T_isWord b_T_isWord 2 (some .boolean) (.code y_T_isWord b_T_isWord 2 (some .boolean) :: tb) ({ frames := 0, cells := 0, slots := 0, locals := 0 }) 0 0 2 ∧ (Cond.static y_T_isWord).before args s = true := mk_s 2 hk k_439 hl k_438 k_118 rfl rfl h_T_isWord hR
def f_W_number (a0 : Int32) : Int32 := (if ((a0 &&& (1073741824 : Int32)) : Int32) = (0 : Int32) then (a0 &&& (1073741823 : Int32)) else (-(a0 &&& (1073741823 : Int32))))
set_option maxHeartbeats 4000000 in
set_option maxRecDepth 100000 in
theorem c_W_number (l : Launch) (a0 : Int32) : Met l y_W_number (.code y_W_number b_W_number 1 (some .int) :: tb) ({ frames := 0, cells := 0, slots := 0, locals := 0 }) (va_Pc [.int a0] (fun _ => True)) (vp_Si (fun r => r = f_W_number a0)) 0 0 (fun _ => False) := by
  refine Met.ofW (cc := b_W_number) (maxL := 1) (ret := (some .int)) (by decide) rfl ?_
  intro p e s m args below meth c s₁ B hml hv
  obtain ⟨rfl, -⟩ := hv
  have hx := B.exec
  have hb := B.bytes
  have hr := B.returns
  have hts := atoms_spec (ws := .code y_W_number b_W_number 1 (some .int) :: tb) B.pre
  have hk : ∀ w ∈ tb, w.before [.int a0].toArray s = true := fun w h => hts w (List.mem_cons_of_mem _ h)
  have hown : s.vm.findClass "SignMachine$Word" = some m.cls := findClass_of_methodNamed B.named
  have hlocks := B.notSynchronized
  have hl := lv_entry ([.int a0]) (n := 1) (Nat.le_of_ble_eq_true rfl)
  rw [lg_entry_eq]
  generalize (lg_sl ([.int a0]) ++ List.replicate (1 - (lg_sl ([.int a0])).length) Slot.unset).toArray = ls at hl ⊢
  have hl : lv_has ls 1 [(0, .int a0)] := hl
  refine lv_iload_n hx hb d_W_number_0 rfl (lv_at hl 0 rfl) ?_
  refine lv_ldc (v := 1073741824) hx hb hown (hk _ k_231) d_W_number_1 ?_
  refine lv_iand hx hb d_W_number_3 ?_
  refine lv_if_ne (tgt := 14) hx hb d_W_number_4 (by decide) (fun c1 => ?_) (fun c1 => ?_)
  · refine lv_iload_n hx hb d_W_number_14 rfl (lv_at hl 0 rfl) ?_
    refine lv_ldc (v := 1073741823) hx hb hown (hk _ k_227) d_W_number_15 ?_
    refine lv_iand hx hb d_W_number_17 ?_
    refine lv_ineg hx hb d_W_number_18 ?_
    exact W.iret (v := (-(a0 &&& (1073741823 : Int32)))) hx hb hr (fun t ht hW => ⟨(-(a0 &&& (1073741823 : Int32))), rfl, by rw [f_W_number, if_neg c1], ht⟩) (fun q h => absurd h List.not_mem_nil) d_W_number_19
  · refine lv_iload_n hx hb d_W_number_7 rfl (lv_at hl 0 rfl) ?_
    refine lv_ldc (v := 1073741823) hx hb hown (hk _ k_227) d_W_number_8 ?_
    refine lv_iand hx hb d_W_number_10 ?_
    refine lv_goto (tgt := 19) hx hb d_W_number_11 (by decide) ?_
    exact W.iret (v := (a0 &&& (1073741823 : Int32))) hx hb hr (fun t ht hW => ⟨(a0 &&& (1073741823 : Int32)), rfl, by rw [f_W_number, if_pos c1], ht⟩) (fun q h => absurd h List.not_mem_nil) d_W_number_19
theorem s_W_number {R : Room} {s : State} {args : Array Value} {own : String} {index : Nat} (hk : ∀ w ∈ tb, w.before args s = true) (hl : Cond.methodLink own index y_W_number ∈ tb) (hR : 0 + 1 ≤ R.frames ∧ 8 + (1 + 11) + 0 ≤ R.locals) : CallB R s args own index y_W_number b_W_number 1 (some .int) (.code y_W_number b_W_number 1 (some .int) :: tb) ({ frames := 0, cells := 0, slots := 0, locals := 0 }) 0 0 1 ∧ (Cond.static y_W_number).before args s = true := mk_s 1 hk k_279 hl k_278 k_120 rfl rfl h_W_number hR
def f_X_isIn (a0 : Int64) (a1 : Int64) (a2 : Int64) : Bool := (if ((lg_cmp a0 a1) : Int32) < (0 : Int32) then false else (if (0 : Int32) < ((lg_cmp a0 a2) : Int32) then false else true))
set_option maxHeartbeats 4000000 in
set_option maxRecDepth 100000 in
theorem c_X_isIn (l : Launch) (a0 : Int64) (a1 : Int64) (a2 : Int64) : Met l y_X_isIn (.code y_X_isIn b_X_isIn 6 (some .boolean) :: tb) ({ frames := 0, cells := 0, slots := 0, locals := 0 }) (va_Pc [.long a0, .long a1, .long a2] (fun _ => True)) (vp_Si (fun r => r = bI (f_X_isIn a0 a1 a2))) 0 0 (fun _ => False) := by
  refine Met.ofW (cc := b_X_isIn) (maxL := 6) (ret := (some .boolean)) (by decide) rfl ?_
  intro p e s m args below meth c s₁ B hml hv
  obtain ⟨rfl, -⟩ := hv
  have hx := B.exec
  have hb := B.bytes
  have hr := B.returns
  have hts := atoms_spec (ws := .code y_X_isIn b_X_isIn 6 (some .boolean) :: tb) B.pre
  have hk : ∀ w ∈ tb, w.before [.long a0, .long a1, .long a2].toArray s = true := fun w h => hts w (List.mem_cons_of_mem _ h)
  have hown : s.vm.findClass "SignMachineModel" = some m.cls := findClass_of_methodNamed B.named
  have hlocks := B.notSynchronized
  have hl := lv_entry ([.long a0, .long a1, .long a2]) (n := 6) (Nat.le_of_ble_eq_true rfl)
  rw [lg_entry_eq]
  generalize (lg_sl ([.long a0, .long a1, .long a2]) ++ List.replicate (6 - (lg_sl ([.long a0, .long a1, .long a2])).length) Slot.unset).toArray = ls at hl ⊢
  have hl : lv_has ls 6 [(0, .long a0), (2, .long a1), (4, .long a2)] := hl
  refine lv_lload_n hx hb d_X_isIn_0 rfl (lv_at hl 0 rfl) ?_
  refine lv_lload_n hx hb d_X_isIn_1 rfl (lv_at hl 1 rfl) ?_
  refine W.lcmp hx hb d_X_isIn_2 ?_
  refine lv_if_lt (tgt := 17) hx hb d_X_isIn_3 (by decide) (fun c1 => ?_) (fun c1 => ?_)
  · refine lv_iconst (v := 0) hx hb d_X_isIn_17 (by decide) ?_
    exact W.zret (v := (0 : Int32)) hx hb hr rfl (fun t ht hW => ⟨(0 : Int32), rfl, by rw [f_X_isIn, if_pos c1]; rfl, ht⟩) (fun q h => absurd h List.not_mem_nil) d_X_isIn_18
  · refine lv_lload_n hx hb d_X_isIn_6 rfl (lv_at hl 0 rfl) ?_
    refine lv_lload hx hb d_X_isIn_7 (lv_at hl 2 rfl) ?_
    refine W.lcmp hx hb d_X_isIn_9 ?_
    refine lv_if_gt (tgt := 17) hx hb d_X_isIn_10 (by decide) (fun c2 => ?_) (fun c2 => ?_)
    · refine lv_iconst (v := 0) hx hb d_X_isIn_17 (by decide) ?_
      exact W.zret (v := (0 : Int32)) hx hb hr rfl (fun t ht hW => ⟨(0 : Int32), rfl, by rw [f_X_isIn, if_neg c1, if_pos c2]; rfl, ht⟩) (fun q h => absurd h List.not_mem_nil) d_X_isIn_18
    · refine lv_iconst (v := 1) hx hb d_X_isIn_13 (by decide) ?_
      refine lv_goto (tgt := 18) hx hb d_X_isIn_14 (by decide) ?_
      exact W.zret (v := (1 : Int32)) hx hb hr rfl (fun t ht hW => ⟨(1 : Int32), rfl, by rw [f_X_isIn, if_neg c1, if_neg c2]; rfl, ht⟩) (fun q h => absurd h List.not_mem_nil) d_X_isIn_18
theorem s_X_isIn {R : Room} {s : State} {args : Array Value} {own : String} {index : Nat} (hk : ∀ w ∈ tb, w.before args s = true) (hl : Cond.methodLink own index y_X_isIn ∈ tb) (hR : 0 + 1 ≤ R.frames ∧ 8 + (6 + 11) + 0 ≤ R.locals) : CallB R s args own index y_X_isIn b_X_isIn 6 (some .boolean) (.code y_X_isIn b_X_isIn 6 (some .boolean) :: tb) ({ frames := 0, cells := 0, slots := 0, locals := 0 }) 0 0 3 ∧ (Cond.static y_X_isIn).before args s = true := mk_s 3 hk k_1321 hl k_1320 k_119 rfl rfl h_X_isIn hR
def f_X_isShort (a0 : Int32) : Bool := (if (a0 : Int32) = (0 : Int32) then false else (if a0 = (7 : Int32) then false else true))
set_option maxHeartbeats 4000000 in
set_option maxRecDepth 100000 in
theorem c_X_isShort (l : Launch) (a0 : Int32) : Met l y_X_isShort (.code y_X_isShort b_X_isShort 1 (some .boolean) :: tb) ({ frames := 0, cells := 0, slots := 0, locals := 0 }) (va_Pc [.int a0] (fun _ => True)) (vp_Si (fun r => r = bI (f_X_isShort a0))) 0 0 (fun _ => False) := by
  refine Met.ofW (cc := b_X_isShort) (maxL := 1) (ret := (some .boolean)) (by decide) rfl ?_
  intro p e s m args below meth c s₁ B hml hv
  obtain ⟨rfl, -⟩ := hv
  have hx := B.exec
  have hb := B.bytes
  have hr := B.returns
  have hts := atoms_spec (ws := .code y_X_isShort b_X_isShort 1 (some .boolean) :: tb) B.pre
  have hk : ∀ w ∈ tb, w.before [.int a0].toArray s = true := fun w h => hts w (List.mem_cons_of_mem _ h)
  have hown : s.vm.findClass "SignMachineModel" = some m.cls := findClass_of_methodNamed B.named
  have hlocks := B.notSynchronized
  have hl := lv_entry ([.int a0]) (n := 1) (Nat.le_of_ble_eq_true rfl)
  rw [lg_entry_eq]
  generalize (lg_sl ([.int a0]) ++ List.replicate (1 - (lg_sl ([.int a0])).length) Slot.unset).toArray = ls at hl ⊢
  have hl : lv_has ls 1 [(0, .int a0)] := hl
  refine lv_iload_n hx hb d_X_isShort_0 rfl (lv_at hl 0 rfl) ?_
  refine lv_if_eq (tgt := 14) hx hb d_X_isShort_1 (by decide) (fun c1 => ?_) (fun c1 => ?_)
  · refine lv_iconst (v := 0) hx hb d_X_isShort_14 (by decide) ?_
    exact W.zret (v := (0 : Int32)) hx hb hr rfl (fun t ht hW => ⟨(0 : Int32), rfl, by rw [f_X_isShort, if_pos c1]; rfl, ht⟩) (fun q h => absurd h List.not_mem_nil) d_X_isShort_15
  · refine lv_iload_n hx hb d_X_isShort_4 rfl (lv_at hl 0 rfl) ?_
    refine lv_bipush (v := 7) hx hb d_X_isShort_5 (by decide) ?_
    refine lv_icmp_eq (tgt := 14) hx hb d_X_isShort_7 (by decide) (fun c2 => ?_) (fun c2 => ?_)
    · refine lv_iconst (v := 0) hx hb d_X_isShort_14 (by decide) ?_
      exact W.zret (v := (0 : Int32)) hx hb hr rfl (fun t ht hW => ⟨(0 : Int32), rfl, by rw [f_X_isShort, if_neg c1, if_pos c2]; rfl, ht⟩) (fun q h => absurd h List.not_mem_nil) d_X_isShort_15
    · refine lv_iconst (v := 1) hx hb d_X_isShort_10 (by decide) ?_
      refine lv_goto (tgt := 15) hx hb d_X_isShort_11 (by decide) ?_
      exact W.zret (v := (1 : Int32)) hx hb hr rfl (fun t ht hW => ⟨(1 : Int32), rfl, by rw [f_X_isShort, if_neg c1, if_neg c2]; rfl, ht⟩) (fun q h => absurd h List.not_mem_nil) d_X_isShort_15
theorem s_X_isShort {R : Room} {s : State} {args : Array Value} {own : String} {index : Nat} (hk : ∀ w ∈ tb, w.before args s = true) (hl : Cond.methodLink own index y_X_isShort ∈ tb) (hR : 0 + 1 ≤ R.frames ∧ 8 + (1 + 11) + 0 ≤ R.locals) : CallB R s args own index y_X_isShort b_X_isShort 1 (some .boolean) (.code y_X_isShort b_X_isShort 1 (some .boolean) :: tb) ({ frames := 0, cells := 0, slots := 0, locals := 0 }) 0 0 1 ∧ (Cond.static y_X_isShort).before args s = true := mk_s 1 hk k_1346 hl k_1345 k_119 rfl rfl h_X_isShort hR
def f_X_takesWord (a0 : Int32) : Bool := (if a0 < (1 : Int32) then (if a0 < (8 : Int32) then (if a0 < (56 : Int32) then false else true) else (if a0 ≤ (33 : Int32) then true else (if a0 < (56 : Int32) then false else true))) else (if a0 ≤ (4 : Int32) then true else (if a0 < (8 : Int32) then (if a0 < (56 : Int32) then false else true) else (if a0 ≤ (33 : Int32) then true else (if a0 < (56 : Int32) then false else true)))))
set_option maxHeartbeats 4000000 in
set_option maxRecDepth 100000 in
theorem c_X_takesWord (l : Launch) (a0 : Int32) : Met l y_X_takesWord (.code y_X_takesWord b_X_takesWord 1 (some .boolean) :: tb) ({ frames := 0, cells := 0, slots := 0, locals := 0 }) (va_Pc [.int a0] (fun _ => True)) (vp_Si (fun r => r = bI (f_X_takesWord a0))) 0 0 (fun _ => False) := by
  refine Met.ofW (cc := b_X_takesWord) (maxL := 1) (ret := (some .boolean)) (by decide) rfl ?_
  intro p e s m args below meth c s₁ B hml hv
  obtain ⟨rfl, -⟩ := hv
  have hx := B.exec
  have hb := B.bytes
  have hr := B.returns
  have hts := atoms_spec (ws := .code y_X_takesWord b_X_takesWord 1 (some .boolean) :: tb) B.pre
  have hk : ∀ w ∈ tb, w.before [.int a0].toArray s = true := fun w h => hts w (List.mem_cons_of_mem _ h)
  have hown : s.vm.findClass "SignMachineModel" = some m.cls := findClass_of_methodNamed B.named
  have hlocks := B.notSynchronized
  have hl := lv_entry ([.int a0]) (n := 1) (Nat.le_of_ble_eq_true rfl)
  rw [lg_entry_eq]
  generalize (lg_sl ([.int a0]) ++ List.replicate (1 - (lg_sl ([.int a0])).length) Slot.unset).toArray = ls at hl ⊢
  have hl : lv_has ls 1 [(0, .int a0)] := hl
  refine lv_iload_n hx hb d_X_takesWord_0 rfl (lv_at hl 0 rfl) ?_
  refine lv_iconst (v := 1) hx hb d_X_takesWord_1 (by decide) ?_
  refine lv_icmp_lt (tgt := 10) hx hb d_X_takesWord_2 (by decide) (fun c1 => ?_) (fun c1 => ?_)
  · refine lv_iload_n hx hb d_X_takesWord_10 rfl (lv_at hl 0 rfl) ?_
    refine lv_bipush (v := 8) hx hb d_X_takesWord_11 (by decide) ?_
    refine lv_icmp_lt (tgt := 22) hx hb d_X_takesWord_13 (by decide) (fun c2 => ?_) (fun c2 => ?_)
    · refine lv_iload_n hx hb d_X_takesWord_22 rfl (lv_at hl 0 rfl) ?_
      refine lv_bipush (v := 56) hx hb d_X_takesWord_23 (by decide) ?_
      refine lv_icmp_lt (tgt := 32) hx hb d_X_takesWord_25 (by decide) (fun c3 => ?_) (fun c3 => ?_)
      · refine lv_iconst (v := 0) hx hb d_X_takesWord_32 (by decide) ?_
        exact W.zret (v := (0 : Int32)) hx hb hr rfl (fun t ht hW => ⟨(0 : Int32), rfl, by rw [f_X_takesWord, if_pos c1, if_pos c2, if_pos c3]; rfl, ht⟩) (fun q h => absurd h List.not_mem_nil) d_X_takesWord_33
      · refine lv_iconst (v := 1) hx hb d_X_takesWord_28 (by decide) ?_
        refine lv_goto (tgt := 33) hx hb d_X_takesWord_29 (by decide) ?_
        exact W.zret (v := (1 : Int32)) hx hb hr rfl (fun t ht hW => ⟨(1 : Int32), rfl, by rw [f_X_takesWord, if_pos c1, if_pos c2, if_neg c3]; rfl, ht⟩) (fun q h => absurd h List.not_mem_nil) d_X_takesWord_33
    · refine lv_iload_n hx hb d_X_takesWord_16 rfl (lv_at hl 0 rfl) ?_
      refine lv_bipush (v := 33) hx hb d_X_takesWord_17 (by decide) ?_
      refine lv_icmp_le (tgt := 28) hx hb d_X_takesWord_19 (by decide) (fun c4 => ?_) (fun c4 => ?_)
      · refine lv_iconst (v := 1) hx hb d_X_takesWord_28 (by decide) ?_
        refine lv_goto (tgt := 33) hx hb d_X_takesWord_29 (by decide) ?_
        exact W.zret (v := (1 : Int32)) hx hb hr rfl (fun t ht hW => ⟨(1 : Int32), rfl, by rw [f_X_takesWord, if_pos c1, if_neg c2, if_pos c4]; rfl, ht⟩) (fun q h => absurd h List.not_mem_nil) d_X_takesWord_33
      · refine lv_iload_n hx hb d_X_takesWord_22 rfl (lv_at hl 0 rfl) ?_
        refine lv_bipush (v := 56) hx hb d_X_takesWord_23 (by decide) ?_
        refine lv_icmp_lt (tgt := 32) hx hb d_X_takesWord_25 (by decide) (fun c5 => ?_) (fun c5 => ?_)
        · refine lv_iconst (v := 0) hx hb d_X_takesWord_32 (by decide) ?_
          exact W.zret (v := (0 : Int32)) hx hb hr rfl (fun t ht hW => ⟨(0 : Int32), rfl, by rw [f_X_takesWord, if_pos c1, if_neg c2, if_neg c4, if_pos c5]; rfl, ht⟩) (fun q h => absurd h List.not_mem_nil) d_X_takesWord_33
        · refine lv_iconst (v := 1) hx hb d_X_takesWord_28 (by decide) ?_
          refine lv_goto (tgt := 33) hx hb d_X_takesWord_29 (by decide) ?_
          exact W.zret (v := (1 : Int32)) hx hb hr rfl (fun t ht hW => ⟨(1 : Int32), rfl, by rw [f_X_takesWord, if_pos c1, if_neg c2, if_neg c4, if_neg c5]; rfl, ht⟩) (fun q h => absurd h List.not_mem_nil) d_X_takesWord_33
  · refine lv_iload_n hx hb d_X_takesWord_5 rfl (lv_at hl 0 rfl) ?_
    refine lv_iconst (v := 4) hx hb d_X_takesWord_6 (by decide) ?_
    refine lv_icmp_le (tgt := 28) hx hb d_X_takesWord_7 (by decide) (fun c6 => ?_) (fun c6 => ?_)
    · refine lv_iconst (v := 1) hx hb d_X_takesWord_28 (by decide) ?_
      refine lv_goto (tgt := 33) hx hb d_X_takesWord_29 (by decide) ?_
      exact W.zret (v := (1 : Int32)) hx hb hr rfl (fun t ht hW => ⟨(1 : Int32), rfl, by rw [f_X_takesWord, if_neg c1, if_pos c6]; rfl, ht⟩) (fun q h => absurd h List.not_mem_nil) d_X_takesWord_33
    · refine lv_iload_n hx hb d_X_takesWord_10 rfl (lv_at hl 0 rfl) ?_
      refine lv_bipush (v := 8) hx hb d_X_takesWord_11 (by decide) ?_
      refine lv_icmp_lt (tgt := 22) hx hb d_X_takesWord_13 (by decide) (fun c7 => ?_) (fun c7 => ?_)
      · refine lv_iload_n hx hb d_X_takesWord_22 rfl (lv_at hl 0 rfl) ?_
        refine lv_bipush (v := 56) hx hb d_X_takesWord_23 (by decide) ?_
        refine lv_icmp_lt (tgt := 32) hx hb d_X_takesWord_25 (by decide) (fun c8 => ?_) (fun c8 => ?_)
        · refine lv_iconst (v := 0) hx hb d_X_takesWord_32 (by decide) ?_
          exact W.zret (v := (0 : Int32)) hx hb hr rfl (fun t ht hW => ⟨(0 : Int32), rfl, by rw [f_X_takesWord, if_neg c1, if_neg c6, if_pos c7, if_pos c8]; rfl, ht⟩) (fun q h => absurd h List.not_mem_nil) d_X_takesWord_33
        · refine lv_iconst (v := 1) hx hb d_X_takesWord_28 (by decide) ?_
          refine lv_goto (tgt := 33) hx hb d_X_takesWord_29 (by decide) ?_
          exact W.zret (v := (1 : Int32)) hx hb hr rfl (fun t ht hW => ⟨(1 : Int32), rfl, by rw [f_X_takesWord, if_neg c1, if_neg c6, if_pos c7, if_neg c8]; rfl, ht⟩) (fun q h => absurd h List.not_mem_nil) d_X_takesWord_33
      · refine lv_iload_n hx hb d_X_takesWord_16 rfl (lv_at hl 0 rfl) ?_
        refine lv_bipush (v := 33) hx hb d_X_takesWord_17 (by decide) ?_
        refine lv_icmp_le (tgt := 28) hx hb d_X_takesWord_19 (by decide) (fun c9 => ?_) (fun c9 => ?_)
        · refine lv_iconst (v := 1) hx hb d_X_takesWord_28 (by decide) ?_
          refine lv_goto (tgt := 33) hx hb d_X_takesWord_29 (by decide) ?_
          exact W.zret (v := (1 : Int32)) hx hb hr rfl (fun t ht hW => ⟨(1 : Int32), rfl, by rw [f_X_takesWord, if_neg c1, if_neg c6, if_neg c7, if_pos c9]; rfl, ht⟩) (fun q h => absurd h List.not_mem_nil) d_X_takesWord_33
        · refine lv_iload_n hx hb d_X_takesWord_22 rfl (lv_at hl 0 rfl) ?_
          refine lv_bipush (v := 56) hx hb d_X_takesWord_23 (by decide) ?_
          refine lv_icmp_lt (tgt := 32) hx hb d_X_takesWord_25 (by decide) (fun c10 => ?_) (fun c10 => ?_)
          · refine lv_iconst (v := 0) hx hb d_X_takesWord_32 (by decide) ?_
            exact W.zret (v := (0 : Int32)) hx hb hr rfl (fun t ht hW => ⟨(0 : Int32), rfl, by rw [f_X_takesWord, if_neg c1, if_neg c6, if_neg c7, if_neg c9, if_pos c10]; rfl, ht⟩) (fun q h => absurd h List.not_mem_nil) d_X_takesWord_33
          · refine lv_iconst (v := 1) hx hb d_X_takesWord_28 (by decide) ?_
            refine lv_goto (tgt := 33) hx hb d_X_takesWord_29 (by decide) ?_
            exact W.zret (v := (1 : Int32)) hx hb hr rfl (fun t ht hW => ⟨(1 : Int32), rfl, by rw [f_X_takesWord, if_neg c1, if_neg c6, if_neg c7, if_neg c9, if_neg c10]; rfl, ht⟩) (fun q h => absurd h List.not_mem_nil) d_X_takesWord_33
theorem s_X_takesWord {R : Room} {s : State} {args : Array Value} {own : String} {index : Nat} (hk : ∀ w ∈ tb, w.before args s = true) (hl : Cond.methodLink own index y_X_takesWord ∈ tb) (hR : 0 + 1 ≤ R.frames ∧ 8 + (1 + 11) + 0 ≤ R.locals) : CallB R s args own index y_X_takesWord b_X_takesWord 1 (some .boolean) (.code y_X_takesWord b_X_takesWord 1 (some .boolean) :: tb) ({ frames := 0, cells := 0, slots := 0, locals := 0 }) 0 0 1 ∧ (Cond.static y_X_takesWord).before args s = true := mk_s 1 hk k_1388 hl k_1387 k_119 rfl rfl h_X_takesWord hR

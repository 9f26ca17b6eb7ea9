def f_O_isWord (a0 : Int32) : Bool := (if (a0 : Int32) < (0 : Int32) then false else (if (1101 : Int32) ≤ a0 then false else true))
set_option maxHeartbeats 4000000 in
set_option maxRecDepth 100000 in
theorem c_O_isWord (l : Launch) (a0 : Int32) : Met l y_O_isWord (.code y_O_isWord b_O_isWord 1 (some .boolean) :: tb) ({ frames := 0, cells := 0, slots := 0, locals := 0 }) (va_Pc [.int a0] (fun _ => True)) (vp_Si (fun r => r = bI (f_O_isWord a0))) 0 0 (fun _ => False) := by
  refine Met.ofW (cc := b_O_isWord) (maxL := 1) (ret := (some .boolean)) (by decide) rfl ?_
  intro p e s m args below meth c s₁ B hml hv
  obtain ⟨rfl, -⟩ := hv
  have hx := B.exec
  have hb := B.bytes
  have hr := B.returns
  have hts := atoms_spec (ws := .code y_O_isWord b_O_isWord 1 (some .boolean) :: tb) B.pre
  have hk : ∀ w ∈ tb, w.before [.int a0].toArray s = true := fun w h => hts w (List.mem_cons_of_mem _ h)
  have hown : s.vm.findClass "SignMachine$Output" = some m.cls := findClass_of_methodNamed B.named
  have hlocks := B.notSynchronized
  have hl := lv_entry ([.int a0]) (n := 1) (Nat.le_of_ble_eq_true rfl)
  rw [lg_entry_eq]
  generalize (lg_sl ([.int a0]) ++ List.replicate (1 - (lg_sl ([.int a0])).length) Slot.unset).toArray = ls at hl ⊢
  have hl : lv_has ls 1 [(0, .int a0)] := hl
  refine lv_iload_n hx hb d_O_isWord_0 rfl (lv_at hl 0 rfl) ?_
  refine lv_if_lt (tgt := 15) hx hb d_O_isWord_1 (by decide) (fun c1 => ?_) (fun c1 => ?_)
  · refine lv_iconst (v := 0) hx hb d_O_isWord_15 (by decide) ?_
    exact W.zret (v := (0 : Int32)) hx hb hr rfl (fun t ht hW => ⟨(0 : Int32), rfl, by rw [f_O_isWord, if_pos c1]; rfl, ht⟩) (fun q h => absurd h List.not_mem_nil) d_O_isWord_16
  · refine lv_iload_n hx hb d_O_isWord_4 rfl (lv_at hl 0 rfl) ?_
    refine lv_sipush (v := 1101) hx hb d_O_isWord_5 (by decide) ?_
    refine lv_icmp_ge (tgt := 15) hx hb d_O_isWord_8 (by decide) (fun c2 => ?_) (fun c2 => ?_)
    · refine lv_iconst (v := 0) hx hb d_O_isWord_15 (by decide) ?_
      exact W.zret (v := (0 : Int32)) hx hb hr rfl (fun t ht hW => ⟨(0 : Int32), rfl, by rw [f_O_isWord, if_neg c1, if_pos c2]; rfl, ht⟩) (fun q h => absurd h List.not_mem_nil) d_O_isWord_16
    · refine lv_iconst (v := 1) hx hb d_O_isWord_11 (by decide) ?_
      refine lv_goto (tgt := 16) hx hb d_O_isWord_12 (by decide) ?_
      exact W.zret (v := (1 : Int32)) hx hb hr rfl (fun t ht hW => ⟨(1 : Int32), rfl, by rw [f_O_isWord, if_neg c1, if_neg c2]; rfl, ht⟩) (fun q h => absurd h List.not_mem_nil) d_O_isWord_16
theorem s_O_isWord {R : Room} {s : State} {args : Array Value} {own : String} {index : Nat} (hk : ∀ w ∈ tb, w.before args s = true) (hl : Cond.methodLink own index y_O_isWord ∈ tb) (hR : 0 + 1 ≤ R.frames ∧ 8 + (1 + 11) + 0 ≤ R.locals) : CallB R s args own index y_O_isWord b_O_isWord 1 (some .boolean) (.code y_O_isWord b_O_isWord 1 (some .boolean) :: tb) ({ frames := 0, cells := 0, slots := 0, locals := 0 }) 0 0 1 ∧ (Cond.static y_O_isWord).before args s = true := mk_s 1 hk k_919 hl k_918 k_126 rfl rfl h_O_isWord hR
def f_T_isWord (a0 : Int32) (a1 : Int32) : Bool := (if (a0 : Int32) < (0 : Int32) then false else (if (40 : Int32) ≤ a0 then false else (if (a1 : Int32) < (0 : Int32) then false else (if (100 : Int32) ≤ a1 then false else true))))
set_option maxHeartbeats 4000000 in
set_option maxRecDepth 100000 in
theorem c_T_isWord (l : Launch) (a0 : Int32) (a1 : Int32) : Met l y_T_isWord (.code y_T_isWord b_T_isWord 2 (some .boolean) :: tb) ({ frames := 0, cells := 0, slots := 0, locals := 0 }) (va_Pc [.int a0, .int a1] (fun _ => True)) (vp_Si (fun r => r = bI (f_T_isWord a0 a1))) 0 0 (fun _ => False) := by
  refine Met.ofW (cc := b_T_isWord) (maxL := 2) (ret := (some .boolean)) (by decide) rfl ?_
  intro p e s m args below meth c s₁ B hml hv
  obtain ⟨rfl, -⟩ := hv
  have hx := B.exec
  have hb := B.bytes
  have hr := B.returns
  have hts := atoms_spec (ws := .code y_T_isWord b_T_isWord 2 (some .boolean) :: tb) B.pre
  have hk : ∀ w ∈ tb, w.before [.int a0, .int a1].toArray s = true := fun w h => hts w (List.mem_cons_of_mem _ h)
  have hown : s.vm.findClass "SignMachine$Tape" = some m.cls := findClass_of_methodNamed B.named
  have hlocks := B.notSynchronized
  have hl := lv_entry ([.int a0, .int a1]) (n := 2) (Nat.le_of_ble_eq_true rfl)
  rw [lg_entry_eq]
  generalize (lg_sl ([.int a0, .int a1]) ++ List.replicate (2 - (lg_sl ([.int a0, .int a1])).length) Slot.unset).toArray = ls at hl ⊢
  have hl : lv_has ls 2 [(0, .int a0), (1, .int a1)] := hl
  refine lv_iload_n hx hb d_T_isWord_0 rfl (lv_at hl 0 rfl) ?_
  refine lv_if_lt (tgt := 24) hx hb d_T_isWord_1 (by decide) (fun c1 => ?_) (fun c1 => ?_)
  · refine lv_iconst (v := 0) hx hb d_T_isWord_24 (by decide) ?_
    exact W.zret (v := (0 : Int32)) hx hb hr rfl (fun t ht hW => ⟨(0 : Int32), rfl, by rw [f_T_isWord, if_pos c1]; rfl, ht⟩) (fun q h => absurd h List.not_mem_nil) d_T_isWord_25
  · refine lv_iload_n hx hb d_T_isWord_4 rfl (lv_at hl 0 rfl) ?_
    refine lv_bipush (v := 40) hx hb d_T_isWord_5 (by decide) ?_
    refine lv_icmp_ge (tgt := 24) hx hb d_T_isWord_7 (by decide) (fun c2 => ?_) (fun c2 => ?_)
    · refine lv_iconst (v := 0) hx hb d_T_isWord_24 (by decide) ?_
      exact W.zret (v := (0 : Int32)) hx hb hr rfl (fun t ht hW => ⟨(0 : Int32), rfl, by rw [f_T_isWord, if_neg c1, if_pos c2]; rfl, ht⟩) (fun q h => absurd h List.not_mem_nil) d_T_isWord_25
    · refine lv_iload_n hx hb d_T_isWord_10 rfl (lv_at hl 1 rfl) ?_
      refine lv_if_lt (tgt := 24) hx hb d_T_isWord_11 (by decide) (fun c3 => ?_) (fun c3 => ?_)
      · refine lv_iconst (v := 0) hx hb d_T_isWord_24 (by decide) ?_
        exact W.zret (v := (0 : Int32)) hx hb hr rfl (fun t ht hW => ⟨(0 : Int32), rfl, by rw [f_T_isWord, if_neg c1, if_neg c2, if_pos c3]; rfl, ht⟩) (fun q h => absurd h List.not_mem_nil) d_T_isWord_25
      · refine lv_iload_n hx hb d_T_isWord_14 rfl (lv_at hl 1 rfl) ?_
        refine lv_bipush (v := 100) hx hb d_T_isWord_15 (by decide) ?_
        refine lv_icmp_ge (tgt := 24) hx hb d_T_isWord_17 (by decide) (fun c4 => ?_) (fun c4 => ?_)
        · refine lv_iconst (v := 0) hx hb d_T_isWord_24 (by decide) ?_
          exact W.zret (v := (0 : Int32)) hx hb hr rfl (fun t ht hW => ⟨(0 : Int32), rfl, by rw [f_T_isWord, if_neg c1, if_neg c2, if_neg c3, if_pos c4]; rfl, ht⟩) (fun q h => absurd h List.not_mem_nil) d_T_isWord_25
        · refine lv_iconst (v := 1) hx hb d_T_isWord_20 (by decide) ?_
          refine lv_goto (tgt := 25) hx hb d_T_isWord_21 (by decide) ?_
          exact W.zret (v := (1 : Int32)) hx hb hr rfl (fun t ht hW => ⟨(1 : Int32), rfl, by rw [f_T_isWord, if_neg c1, if_neg c2, if_neg c3, if_neg c4]; rfl, ht⟩) (fun q h => absurd h List.not_mem_nil) d_T_isWord_25
theorem s_T_isWord {R : Room} {s : State} {args : Array Value} {own : String} {index : Nat} (hk : ∀ w ∈ tb, w.before args s = true) (hl : Cond.methodLink own index y_T_isWord ∈ tb) (hR : 0 + 1 ≤ R.frames ∧ 8 + (2 + 11) + 0 ≤ R.locals) : CallB R s args own index y_T_isWord b_T_isWord 2 (some .boolean) (.code y_T_isWord b_T_isWord 2 (some .boolean) :: tb) ({ frames := 0, cells := 0, slots := 0, locals := 0 }) 0 0 2 ∧ (Cond.static y_T_isWord).before args s = true := mk_s 2 hk k_439 hl k_438 k_118 rfl rfl h_T_isWord hR
def f_M_isAddress (a0 : Int32) : Bool := (if (a0 : Int32) < (0 : Int32) then false else (if (4000 : Int32) ≤ a0 then false else true))
set_option maxHeartbeats 4000000 in
set_option maxRecDepth 100000 in
theorem c_M_isAddress (l : Launch) (a0 : Int32) : Met l y_M_isAddress (.code y_M_isAddress b_M_isAddress 1 (some .boolean) :: tb) ({ frames := 0, cells := 0, slots := 0, locals := 0 }) (va_Pc [.int a0] (fun _ => True)) (vp_Si (fun r => r = bI (f_M_isAddress a0))) 0 0 (fun _ => False) := by
  refine Met.ofW (cc := b_M_isAddress) (maxL := 1) (ret := (some .boolean)) (by decide) rfl ?_
  intro p e s m args below meth c s₁ B hml hv
  obtain ⟨rfl, -⟩ := hv
  have hx := B.exec
  have hb := B.bytes
  have hr := B.returns
  have hts := atoms_spec (ws := .code y_M_isAddress b_M_isAddress 1 (some .boolean) :: tb) B.pre
  have hk : ∀ w ∈ tb, w.before [.int a0].toArray s = true := fun w h => hts w (List.mem_cons_of_mem _ h)
  have hown : s.vm.findClass "SignMachine$Machine" = some m.cls := findClass_of_methodNamed B.named
  have hlocks := B.notSynchronized
  have hl := lv_entry ([.int a0]) (n := 1) (Nat.le_of_ble_eq_true rfl)
  rw [lg_entry_eq]
  generalize (lg_sl ([.int a0]) ++ List.replicate (1 - (lg_sl ([.int a0])).length) Slot.unset).toArray = ls at hl ⊢
  have hl : lv_has ls 1 [(0, .int a0)] := hl
  refine lv_iload_n hx hb d_M_isAddress_0 rfl (lv_at hl 0 rfl) ?_
  refine lv_if_lt (tgt := 15) hx hb d_M_isAddress_1 (by decide) (fun c1 => ?_) (fun c1 => ?_)
  · refine lv_iconst (v := 0) hx hb d_M_isAddress_15 (by decide) ?_
    exact W.zret (v := (0 : Int32)) hx hb hr rfl (fun t ht hW => ⟨(0 : Int32), rfl, by rw [f_M_isAddress, if_pos c1]; rfl, ht⟩) (fun q h => absurd h List.not_mem_nil) d_M_isAddress_16
  · refine lv_iload_n hx hb d_M_isAddress_4 rfl (lv_at hl 0 rfl) ?_
    refine lv_sipush (v := 4000) hx hb d_M_isAddress_5 (by decide) ?_
    refine lv_icmp_ge (tgt := 15) hx hb d_M_isAddress_8 (by decide) (fun c2 => ?_) (fun c2 => ?_)
    · refine lv_iconst (v := 0) hx hb d_M_isAddress_15 (by decide) ?_
      exact W.zret (v := (0 : Int32)) hx hb hr rfl (fun t ht hW => ⟨(0 : Int32), rfl, by rw [f_M_isAddress, if_neg c1, if_pos c2]; rfl, ht⟩) (fun q h => absurd h List.not_mem_nil) d_M_isAddress_16
    · refine lv_iconst (v := 1) hx hb d_M_isAddress_11 (by decide) ?_
      refine lv_goto (tgt := 16) hx hb d_M_isAddress_12 (by decide) ?_
      exact W.zret (v := (1 : Int32)) hx hb hr rfl (fun t ht hW => ⟨(1 : Int32), rfl, by rw [f_M_isAddress, if_neg c1, if_neg c2]; rfl, ht⟩) (fun q h => absurd h List.not_mem_nil) d_M_isAddress_16
theorem s_M_isAddress {R : Room} {s : State} {args : Array Value} {own : String} {index : Nat} (hk : ∀ w ∈ tb, w.before args s = true) (hl : Cond.methodLink own index y_M_isAddress ∈ tb) (hR : 0 + 1 ≤ R.frames ∧ 8 + (1 + 11) + 0 ≤ R.locals) : CallB R s args own index y_M_isAddress b_M_isAddress 1 (some .boolean) (.code y_M_isAddress b_M_isAddress 1 (some .boolean) :: tb) ({ frames := 0, cells := 0, slots := 0, locals := 0 }) 0 0 1 ∧ (Cond.static y_M_isAddress).before args s = true := mk_s 1 hk k_223 hl k_222 k_117 rfl rfl h_M_isAddress hR
def f_I_compare (a0 : Int32) (a1 : Int32) : Int32 := (if a1 ≤ a0 then (if a0 = a1 then (0 : Int32) else (1 : Int32)) else (-1 : Int32))
set_option maxHeartbeats 4000000 in
set_option maxRecDepth 100000 in
theorem c_I_compare (l : Launch) (a0 : Int32) (a1 : Int32) : Met l y_I_compare (.code y_I_compare b_I_compare 2 (some .int) :: tb) ({ frames := 0, cells := 0, slots := 0, locals := 0 }) (va_Pc [.int a0, .int a1] (fun _ => True)) (vp_Si (fun r => r = f_I_compare a0 a1)) 0 0 (fun _ => False) := by
  refine Met.ofW (cc := b_I_compare) (maxL := 2) (ret := (some .int)) (by decide) rfl ?_
  intro p e s m args below meth c s₁ B hml hv
  obtain ⟨rfl, -⟩ := hv
  have hx := B.exec
  have hb := B.bytes
  have hr := B.returns
  have hts := atoms_spec (ws := .code y_I_compare b_I_compare 2 (some .int) :: tb) B.pre
  have hk : ∀ w ∈ tb, w.before [.int a0, .int a1].toArray s = true := fun w h => hts w (List.mem_cons_of_mem _ h)
  have hown : s.vm.findClass "java/lang/Integer" = some m.cls := findClass_of_methodNamed B.named
  have hlocks := B.notSynchronized
  have hl := lv_entry ([.int a0, .int a1]) (n := 2) (Nat.le_of_ble_eq_true rfl)
  rw [lg_entry_eq]
  generalize (lg_sl ([.int a0, .int a1]) ++ List.replicate (2 - (lg_sl ([.int a0, .int a1])).length) Slot.unset).toArray = ls at hl ⊢
  have hl : lv_has ls 2 [(0, .int a0), (1, .int a1)] := hl
  refine lv_iload_n hx hb d_I_compare_0 rfl (lv_at hl 0 rfl) ?_
  refine lv_iload_n hx hb d_I_compare_1 rfl (lv_at hl 1 rfl) ?_
  refine lv_icmp_ge (tgt := 9) hx hb d_I_compare_2 (by decide) (fun c1 => ?_) (fun c1 => ?_)
  · refine lv_iload_n hx hb d_I_compare_9 rfl (lv_at hl 0 rfl) ?_
    refine lv_iload_n hx hb d_I_compare_10 rfl (lv_at hl 1 rfl) ?_
    refine lv_icmp_ne (tgt := 18) hx hb d_I_compare_11 (by decide) (fun c2 => ?_) (fun c2 => ?_)
    · refine lv_iconst (v := 1) hx hb d_I_compare_18 (by decide) ?_
      exact W.iret (v := (1 : Int32)) hx hb hr (fun t ht hW => ⟨(1 : Int32), rfl, by rw [f_I_compare, if_pos c1, if_neg c2], ht⟩) (fun q h => absurd h List.not_mem_nil) d_I_compare_19
    · refine lv_iconst (v := 0) hx hb d_I_compare_14 (by decide) ?_
      refine lv_goto (tgt := 19) hx hb d_I_compare_15 (by decide) ?_
      exact W.iret (v := (0 : Int32)) hx hb hr (fun t ht hW => ⟨(0 : Int32), rfl, by rw [f_I_compare, if_pos c1, if_pos c2], ht⟩) (fun q h => absurd h List.not_mem_nil) d_I_compare_19
  · refine lv_iconst (v := (-1)) hx hb d_I_compare_5 (by decide) ?_
    refine lv_goto (tgt := 19) hx hb d_I_compare_6 (by decide) ?_
    exact W.iret (v := (-1 : Int32)) hx hb hr (fun t ht hW => ⟨(-1 : Int32), rfl, by rw [f_I_compare, if_neg c1], ht⟩) (fun q h => absurd h List.not_mem_nil) d_I_compare_19
theorem s_I_compare {R : Room} {s : State} {args : Array Value} {own : String} {index : Nat} (hk : ∀ w ∈ tb, w.before args s = true) (hl : Cond.methodLink own index y_I_compare ∈ tb) (hR : 0 + 1 ≤ R.frames ∧ 8 + (2 + 11) + 0 ≤ R.locals) : CallB R s args own index y_I_compare b_I_compare 2 (some .int) (.code y_I_compare b_I_compare 2 (some .int) :: tb) ({ frames := 0, cells := 0, slots := 0, locals := 0 }) 0 0 2 ∧ (Cond.static y_I_compare).before args s = true := mk_s 2 hk k_470 hl k_469 k_122 rfl rfl h_I_compare hR
def f_W_isWord (a0 : Int32) (a1 : Int32) : Bool := (if (a0 : Int32) = (0 : Int32) then (if (a1 : Int32) < (0 : Int32) then false else (if (1073741823 : Int32) < a1 then false else true)) else (if a0 = (1 : Int32) then (if (a1 : Int32) < (0 : Int32) then false else (if (1073741823 : Int32) < a1 then false else true)) else false))
set_option maxHeartbeats 4000000 in
set_option maxRecDepth 100000 in
theorem c_W_isWord (l : Launch) (a0 : Int32) (a1 : Int32) : Met l y_W_isWord (.code y_W_isWord b_W_isWord 2 (some .boolean) :: tb) ({ frames := 0, cells := 0, slots := 0, locals := 0 }) (va_Pc [.int a0, .int a1] (fun _ => True)) (vp_Si (fun r => r = bI (f_W_isWord a0 a1))) 0 0 (fun _ => False) := by
  refine Met.ofW (cc := b_W_isWord) (maxL := 2) (ret := (some .boolean)) (by decide) rfl ?_
  intro p e s m args below meth c s₁ B hml hv
  obtain ⟨rfl, -⟩ := hv
  have hx := B.exec
  have hb := B.bytes
  have hr := B.returns
  have hts := atoms_spec (ws := .code y_W_isWord b_W_isWord 2 (some .boolean) :: tb) B.pre
  have hk : ∀ w ∈ tb, w.before [.int a0, .int a1].toArray s = true := fun w h => hts w (List.mem_cons_of_mem _ h)
  have hown : s.vm.findClass "SignMachine$Word" = some m.cls := findClass_of_methodNamed B.named
  have hlocks := B.notSynchronized
  have hl := lv_entry ([.int a0, .int a1]) (n := 2) (Nat.le_of_ble_eq_true rfl)
  rw [lg_entry_eq]
  generalize (lg_sl ([.int a0, .int a1]) ++ List.replicate (2 - (lg_sl ([.int a0, .int a1])).length) Slot.unset).toArray = ls at hl ⊢
  have hl : lv_has ls 2 [(0, .int a0), (1, .int a1)] := hl
  refine lv_iload_n hx hb d_W_isWord_0 rfl (lv_at hl 0 rfl) ?_
  refine lv_if_eq (tgt := 9) hx hb d_W_isWord_1 (by decide) (fun c1 => ?_) (fun c1 => ?_)
  · refine lv_iload_n hx hb d_W_isWord_9 rfl (lv_at hl 1 rfl) ?_
    refine lv_if_lt (tgt := 23) hx hb d_W_isWord_10 (by decide) (fun c2 => ?_) (fun c2 => ?_)
    · refine lv_iconst (v := 0) hx hb d_W_isWord_23 (by decide) ?_
      exact W.zret (v := (0 : Int32)) hx hb hr rfl (fun t ht hW => ⟨(0 : Int32), rfl, by rw [f_W_isWord, if_pos c1, if_pos c2]; rfl, ht⟩) (fun q h => absurd h List.not_mem_nil) d_W_isWord_24
    · refine lv_iload_n hx hb d_W_isWord_13 rfl (lv_at hl 1 rfl) ?_
      refine lv_ldc (v := 1073741823) hx hb hown (hk _ k_227) d_W_isWord_14 ?_
      refine lv_icmp_gt (tgt := 23) hx hb d_W_isWord_16 (by decide) (fun c3 => ?_) (fun c3 => ?_)
      · refine lv_iconst (v := 0) hx hb d_W_isWord_23 (by decide) ?_
        exact W.zret (v := (0 : Int32)) hx hb hr rfl (fun t ht hW => ⟨(0 : Int32), rfl, by rw [f_W_isWord, if_pos c1, if_neg c2, if_pos c3]; rfl, ht⟩) (fun q h => absurd h List.not_mem_nil) d_W_isWord_24
      · refine lv_iconst (v := 1) hx hb d_W_isWord_19 (by decide) ?_
        refine lv_goto (tgt := 24) hx hb d_W_isWord_20 (by decide) ?_
        exact W.zret (v := (1 : Int32)) hx hb hr rfl (fun t ht hW => ⟨(1 : Int32), rfl, by rw [f_W_isWord, if_pos c1, if_neg c2, if_neg c3]; rfl, ht⟩) (fun q h => absurd h List.not_mem_nil) d_W_isWord_24
  · refine lv_iload_n hx hb d_W_isWord_4 rfl (lv_at hl 0 rfl) ?_
    refine lv_iconst (v := 1) hx hb d_W_isWord_5 (by decide) ?_
    refine lv_icmp_ne (tgt := 23) hx hb d_W_isWord_6 (by decide) (fun c4 => ?_) (fun c4 => ?_)
    · refine lv_iconst (v := 0) hx hb d_W_isWord_23 (by decide) ?_
      exact W.zret (v := (0 : Int32)) hx hb hr rfl (fun t ht hW => ⟨(0 : Int32), rfl, by rw [f_W_isWord, if_neg c1, if_neg c4]; rfl, ht⟩) (fun q h => absurd h List.not_mem_nil) d_W_isWord_24
    · refine lv_iload_n hx hb d_W_isWord_9 rfl (lv_at hl 1 rfl) ?_
      refine lv_if_lt (tgt := 23) hx hb d_W_isWord_10 (by decide) (fun c5 => ?_) (fun c5 => ?_)
      · refine lv_iconst (v := 0) hx hb d_W_isWord_23 (by decide) ?_
        exact W.zret (v := (0 : Int32)) hx hb hr rfl (fun t ht hW => ⟨(0 : Int32), rfl, by rw [f_W_isWord, if_neg c1, if_pos c4, if_pos c5]; rfl, ht⟩) (fun q h => absurd h List.not_mem_nil) d_W_isWord_24
      · refine lv_iload_n hx hb d_W_isWord_13 rfl (lv_at hl 1 rfl) ?_
        refine lv_ldc (v := 1073741823) hx hb hown (hk _ k_227) d_W_isWord_14 ?_
        refine lv_icmp_gt (tgt := 23) hx hb d_W_isWord_16 (by decide) (fun c6 => ?_) (fun c6 => ?_)
        · refine lv_iconst (v := 0) hx hb d_W_isWord_23 (by decide) ?_
          exact W.zret (v := (0 : Int32)) hx hb hr rfl (fun t ht hW => ⟨(0 : Int32), rfl, by rw [f_W_isWord, if_neg c1, if_pos c4, if_neg c5, if_pos c6]; rfl, ht⟩) (fun q h => absurd h List.not_mem_nil) d_W_isWord_24
        · refine lv_iconst (v := 1) hx hb d_W_isWord_19 (by decide) ?_
          refine lv_goto (tgt := 24) hx hb d_W_isWord_20 (by decide) ?_
          exact W.zret (v := (1 : Int32)) hx hb hr rfl (fun t ht hW => ⟨(1 : Int32), rfl, by rw [f_W_isWord, if_neg c1, if_pos c4, if_neg c5, if_neg c6]; rfl, ht⟩) (fun q h => absurd h List.not_mem_nil) d_W_isWord_24
theorem s_W_isWord {R : Room} {s : State} {args : Array Value} {own : String} {index : Nat} (hk : ∀ w ∈ tb, w.before args s = true) (hl : Cond.methodLink own index y_W_isWord ∈ tb) (hR : 0 + 1 ≤ R.frames ∧ 8 + (2 + 11) + 0 ≤ R.locals) : CallB R s args own index y_W_isWord b_W_isWord 2 (some .boolean) (.code y_W_isWord b_W_isWord 2 (some .boolean) :: tb) ({ frames := 0, cells := 0, slots := 0, locals := 0 }) 0 0 2 ∧ (Cond.static y_W_isWord).before args s = true := mk_s 2 hk k_226 hl k_225 k_120 rfl rfl h_W_isWord hR
def f_W_make (a0 : Int32) (a1 : Int32) : Int32 := (if (a0 : Int32) = (0 : Int32) then a1 else (a1 ||| (1073741824 : Int32)))
set_option maxHeartbeats 4000000 in
set_option maxRecDepth 100000 in
theorem c_W_make (l : Launch) (a0 : Int32) (a1 : Int32) : Met l y_W_make (.code y_W_make b_W_make 2 (some .int) :: tb) ({ frames := 0, cells := 0, slots := 0, locals := 0 }) (va_Pc [.int a0, .int a1] (fun _ => True)) (vp_Si (fun r => r = f_W_make a0 a1)) 0 0 (fun _ => False) := by
  refine Met.ofW (cc := b_W_make) (maxL := 2) (ret := (some .int)) (by decide) rfl ?_
  intro p e s m args below meth c s₁ B hml hv
  obtain ⟨rfl, -⟩ := hv
  have hx := B.exec
  have hb := B.bytes
  have hr := B.returns
  have hts := atoms_spec (ws := .code y_W_make b_W_make 2 (some .int) :: tb) B.pre
  have hk : ∀ w ∈ tb, w.before [.int a0, .int a1].toArray s = true := fun w h => hts w (List.mem_cons_of_mem _ h)
  have hown : s.vm.findClass "SignMachine$Word" = some m.cls := findClass_of_methodNamed B.named
  have hlocks := B.notSynchronized
  have hl := lv_entry ([.int a0, .int a1]) (n := 2) (Nat.le_of_ble_eq_true rfl)
  rw [lg_entry_eq]
  generalize (lg_sl ([.int a0, .int a1]) ++ List.replicate (2 - (lg_sl ([.int a0, .int a1])).length) Slot.unset).toArray = ls at hl ⊢
  have hl : lv_has ls 2 [(0, .int a0), (1, .int a1)] := hl
  refine lv_iload_n hx hb d_W_make_0 rfl (lv_at hl 0 rfl) ?_
  refine lv_if_ne (tgt := 8) hx hb d_W_make_1 (by decide) (fun c1 => ?_) (fun c1 => ?_)
  · refine lv_iload_n hx hb d_W_make_8 rfl (lv_at hl 1 rfl) ?_
    refine lv_ldc (v := 1073741824) hx hb hown (hk _ k_231) d_W_make_9 ?_
    refine lv_ior hx hb d_W_make_11 ?_
    exact W.iret (v := (a1 ||| (1073741824 : Int32))) hx hb hr (fun t ht hW => ⟨(a1 ||| (1073741824 : Int32)), rfl, by rw [f_W_make, if_neg c1], ht⟩) (fun q h => absurd h List.not_mem_nil) d_W_make_12
  · refine lv_iload_n hx hb d_W_make_4 rfl (lv_at hl 1 rfl) ?_
    refine lv_goto (tgt := 12) hx hb d_W_make_5 (by decide) ?_
    exact W.iret (v := a1) hx hb hr (fun t ht hW => ⟨a1, rfl, by rw [f_W_make, if_pos c1], ht⟩) (fun q h => absurd h List.not_mem_nil) d_W_make_12
theorem s_W_make {R : Room} {s : State} {args : Array Value} {own : String} {index : Nat} (hk : ∀ w ∈ tb, w.before args s = true) (hl : Cond.methodLink own index y_W_make ∈ tb) (hR : 0 + 1 ≤ R.frames ∧ 8 + (2 + 11) + 0 ≤ R.locals) : CallB R s args own index y_W_make b_W_make 2 (some .int) (.code y_W_make b_W_make 2 (some .int) :: tb) ({ frames := 0, cells := 0, slots := 0, locals := 0 }) 0 0 2 ∧ (Cond.static y_W_make).before args s = true := mk_s 2 hk k_230 hl k_229 k_120 rfl rfl h_W_make hR
def f_W_sign (a0 : Int32) : Int32 := (if ((a0 &&& (1073741824 : Int32)) : Int32) = (0 : Int32) then (0 : Int32) else (1 : Int32))
set_option maxHeartbeats 4000000 in
set_option maxRecDepth 100000 in
theorem c_W_sign (l : Launch) (a0 : Int32) : Met l y_W_sign (.code y_W_sign b_W_sign 1 (some .int) :: tb) ({ frames := 0, cells := 0, slots := 0, locals := 0 }) (va_Pc [.int a0] (fun _ => True)) (vp_Si (fun r => r = f_W_sign a0)) 0 0 (fun _ => False) := by
  refine Met.ofW (cc := b_W_sign) (maxL := 1) (ret := (some .int)) (by decide) rfl ?_
  intro p e s m args below meth c s₁ B hml hv
  obtain ⟨rfl, -⟩ := hv
  have hx := B.exec
  have hb := B.bytes
  have hr := B.returns
  have hts := atoms_spec (ws := .code y_W_sign b_W_sign 1 (some .int) :: tb) B.pre
  have hk : ∀ w ∈ tb, w.before [.int a0].toArray s = true := fun w h => hts w (List.mem_cons_of_mem _ h)
  have hown : s.vm.findClass "SignMachine$Word" = some m.cls := findClass_of_methodNamed B.named
  have hlocks := B.notSynchronized
  have hl := lv_entry ([.int a0]) (n := 1) (Nat.le_of_ble_eq_true rfl)
  rw [lg_entry_eq]
  generalize (lg_sl ([.int a0]) ++ List.replicate (1 - (lg_sl ([.int a0])).length) Slot.unset).toArray = ls at hl ⊢
  have hl : lv_has ls 1 [(0, .int a0)] := hl
  refine lv_iload_n hx hb d_W_sign_0 rfl (lv_at hl 0 rfl) ?_
  refine lv_ldc (v := 1073741824) hx hb hown (hk _ k_231) d_W_sign_1 ?_
  refine lv_iand hx hb d_W_sign_3 ?_
  refine lv_if_ne (tgt := 11) hx hb d_W_sign_4 (by decide) (fun c1 => ?_) (fun c1 => ?_)
  · refine lv_iconst (v := 1) hx hb d_W_sign_11 (by decide) ?_
    exact W.iret (v := (1 : Int32)) hx hb hr (fun t ht hW => ⟨(1 : Int32), rfl, by rw [f_W_sign, if_neg c1], ht⟩) (fun q h => absurd h List.not_mem_nil) d_W_sign_12
  · refine lv_iconst (v := 0) hx hb d_W_sign_7 (by decide) ?_
    refine lv_goto (tgt := 12) hx hb d_W_sign_8 (by decide) ?_
    exact W.iret (v := (0 : Int32)) hx hb hr (fun t ht hW => ⟨(0 : Int32), rfl, by rw [f_W_sign, if_pos c1], ht⟩) (fun q h => absurd h List.not_mem_nil) d_W_sign_12
theorem s_W_sign {R : Room} {s : State} {args : Array Value} {own : String} {index : Nat} (hk : ∀ w ∈ tb, w.before args s = true) (hl : Cond.methodLink own index y_W_sign ∈ tb) (hR : 0 + 1 ≤ R.frames ∧ 8 + (1 + 11) + 0 ≤ R.locals) : CallB R s args own index y_W_sign b_W_sign 1 (some .int) (.code y_W_sign b_W_sign 1 (some .int) :: tb) ({ frames := 0, cells := 0, slots := 0, locals := 0 }) 0 0 1 ∧ (Cond.static y_W_sign).before args s = true := mk_s 1 hk k_246 hl k_245 k_120 rfl rfl h_W_sign hR
def f_W_size (a0 : Int32) : Int32 := (a0 &&& (1073741823 : Int32))
set_option maxHeartbeats 4000000 in
set_option maxRecDepth 100000 in
theorem c_W_size (l : Launch) (a0 : Int32) : Met l y_W_size (.code y_W_size b_W_size 1 (some .int) :: tb) ({ frames := 0, cells := 0, slots := 0, locals := 0 }) (va_Pc [.int a0] (fun _ => True)) (vp_Si (fun r => r = f_W_size a0)) 0 0 (fun _ => False) := by
  refine Met.ofW (cc := b_W_size) (maxL := 1) (ret := (some .int)) (by decide) rfl ?_
  intro p e s m args below meth c s₁ B hml hv
  obtain ⟨rfl, -⟩ := hv
  have hx := B.exec
  have hb := B.bytes
  have hr := B.returns
  have hts := atoms_spec (ws := .code y_W_size b_W_size 1 (some .int) :: tb) B.pre
  have hk : ∀ w ∈ tb, w.before [.int a0].toArray s = true := fun w h => hts w (List.mem_cons_of_mem _ h)
  have hown : s.vm.findClass "SignMachine$Word" = some m.cls := findClass_of_methodNamed B.named
  have hlocks := B.notSynchronized
  have hl := lv_entry ([.int a0]) (n := 1) (Nat.le_of_ble_eq_true rfl)
  rw [lg_entry_eq]
  generalize (lg_sl ([.int a0]) ++ List.replicate (1 - (lg_sl ([.int a0])).length) Slot.unset).toArray = ls at hl ⊢
  have hl : lv_has ls 1 [(0, .int a0)] := hl
  refine lv_iload_n hx hb d_W_size_0 rfl (lv_at hl 0 rfl) ?_
  refine lv_ldc (v := 1073741823) hx hb hown (hk _ k_227) d_W_size_1 ?_
  refine lv_iand hx hb d_W_size_3 ?_
  exact W.iret (v := (a0 &&& (1073741823 : Int32))) hx hb hr (fun t ht hW => ⟨(a0 &&& (1073741823 : Int32)), rfl, by rw [f_W_size], ht⟩) (fun q h => absurd h List.not_mem_nil) d_W_size_4
theorem s_W_size {R : Room} {s : State} {args : Array Value} {own : String} {index : Nat} (hk : ∀ w ∈ tb, w.before args s = true) (hl : Cond.methodLink own index y_W_size ∈ tb) (hR : 0 + 1 ≤ R.frames ∧ 8 + (1 + 11) + 0 ≤ R.locals) : CallB R s args own index y_W_size b_W_size 1 (some .int) (.code y_W_size b_W_size 1 (some .int) :: tb) ({ frames := 0, cells := 0, slots := 0, locals := 0 }) 0 0 1 ∧ (Cond.static y_W_size).before args s = true := mk_s 1 hk k_253 hl k_252 k_120 rfl rfl h_W_size hR
def f_M_isRegister (a0 : Int32) : Bool := (if (a0 : Int32) < (0 : Int32) then false else (if (9 : Int32) ≤ a0 then false else true))
set_option maxHeartbeats 4000000 in
set_option maxRecDepth 100000 in
theorem c_M_isRegister (l : Launch) (a0 : Int32) : Met l y_M_isRegister (.code y_M_isRegister b_M_isRegister 1 (some .boolean) :: tb) ({ frames := 0, cells := 0, slots := 0, locals := 0 }) (va_Pc [.int a0] (fun _ => True)) (vp_Si (fun r => r = bI (f_M_isRegister a0))) 0 0 (fun _ => False) := by
  refine Met.ofW (cc := b_M_isRegister) (maxL := 1) (ret := (some .boolean)) (by decide) rfl ?_
  intro p e s m args below meth c s₁ B hml hv
  obtain ⟨rfl, -⟩ := hv
  have hx := B.exec
  have hb := B.bytes
  have hr := B.returns
  have hts := atoms_spec (ws := .code y_M_isRegister b_M_isRegister 1 (some .boolean) :: tb) B.pre
  have hk : ∀ w ∈ tb, w.before [.int a0].toArray s = true := fun w h => hts w (List.mem_cons_of_mem _ h)
  have hown : s.vm.findClass "SignMachine$Machine" = some m.cls := findClass_of_methodNamed B.named
  have hlocks := B.notSynchronized
  have hl := lv_entry ([.int a0]) (n := 1) (Nat.le_of_ble_eq_true rfl)
  rw [lg_entry_eq]
  generalize (lg_sl ([.int a0]) ++ List.replicate (1 - (lg_sl ([.int a0])).length) Slot.unset).toArray = ls at hl ⊢
  have hl : lv_has ls 1 [(0, .int a0)] := hl
  refine lv_iload_n hx hb d_M_isRegister_0 rfl (lv_at hl 0 rfl) ?_
  refine lv_if_lt (tgt := 14) hx hb d_M_isRegister_1 (by decide) (fun c1 => ?_) (fun c1 => ?_)
  · refine lv_iconst (v := 0) hx hb d_M_isRegister_14 (by decide) ?_
    exact W.zret (v := (0 : Int32)) hx hb hr rfl (fun t ht hW => ⟨(0 : Int32), rfl, by rw [f_M_isRegister, if_pos c1]; rfl, ht⟩) (fun q h => absurd h List.not_mem_nil) d_M_isRegister_15
  · refine lv_iload_n hx hb d_M_isRegister_4 rfl (lv_at hl 0 rfl) ?_
    refine lv_bipush (v := 9) hx hb d_M_isRegister_5 (by decide) ?_
    refine lv_icmp_ge (tgt := 14) hx hb d_M_isRegister_7 (by decide) (fun c2 => ?_) (fun c2 => ?_)
    · refine lv_iconst (v := 0) hx hb d_M_isRegister_14 (by decide) ?_
      exact W.zret (v := (0 : Int32)) hx hb hr rfl (fun t ht hW => ⟨(0 : Int32), rfl, by rw [f_M_isRegister, if_neg c1, if_pos c2]; rfl, ht⟩) (fun q h => absurd h List.not_mem_nil) d_M_isRegister_15
    · refine lv_iconst (v := 1) hx hb d_M_isRegister_10 (by decide) ?_
      refine lv_goto (tgt := 15) hx hb d_M_isRegister_11 (by decide) ?_
      exact W.zret (v := (1 : Int32)) hx hb hr rfl (fun t ht hW => ⟨(1 : Int32), rfl, by rw [f_M_isRegister, if_neg c1, if_neg c2]; rfl, ht⟩) (fun q h => absurd h List.not_mem_nil) d_M_isRegister_15
theorem s_M_isRegister {R : Room} {s : State} {args : Array Value} {own : String} {index : Nat} (hk : ∀ w ∈ tb, w.before args s = true) (hl : Cond.methodLink own index y_M_isRegister ∈ tb) (hR : 0 + 1 ≤ R.frames ∧ 8 + (1 + 11) + 0 ≤ R.locals) : CallB R s args own index y_M_isRegister b_M_isRegister 1 (some .boolean) (.code y_M_isRegister b_M_isRegister 1 (some .boolean) :: tb) ({ frames := 0, cells := 0, slots := 0, locals := 0 }) 0 0 1 ∧ (Cond.static y_M_isRegister).before args s = true := mk_s 1 hk k_481 hl k_480 k_117 rfl rfl h_M_isRegister hR
def f_M_isIndex (a0 : Int32) : Bool := (if a0 < (1 : Int32) then false else (if (6 : Int32) < a0 then false else true))
set_option maxHeartbeats 4000000 in
set_option maxRecDepth 100000 in
theorem c_M_isIndex (l : Launch) (a0 : Int32) : Met l y_M_isIndex (.code y_M_isIndex b_M_isIndex 1 (some .boolean) :: tb) ({ frames := 0, cells := 0, slots := 0, locals := 0 }) (va_Pc [.int a0] (fun _ => True)) (vp_Si (fun r => r = bI (f_M_isIndex a0))) 0 0 (fun _ => False) := by
  refine Met.ofW (cc := b_M_isIndex) (maxL := 1) (ret := (some .boolean)) (by decide) rfl ?_
  intro p e s m args below meth c s₁ B hml hv
  obtain ⟨rfl, -⟩ := hv
  have hx := B.exec
  have hb := B.bytes
  have hr := B.returns
  have hts := atoms_spec (ws := .code y_M_isIndex b_M_isIndex 1 (some .boolean) :: tb) B.pre
  have hk : ∀ w ∈ tb, w.before [.int a0].toArray s = true := fun w h => hts w (List.mem_cons_of_mem _ h)
  have hown : s.vm.findClass "SignMachine$Machine" = some m.cls := findClass_of_methodNamed B.named
  have hlocks := B.notSynchronized
  have hl := lv_entry ([.int a0]) (n := 1) (Nat.le_of_ble_eq_true rfl)
  rw [lg_entry_eq]
  generalize (lg_sl ([.int a0]) ++ List.replicate (1 - (lg_sl ([.int a0])).length) Slot.unset).toArray = ls at hl ⊢
  have hl : lv_has ls 1 [(0, .int a0)] := hl
  refine lv_iload_n hx hb d_M_isIndex_0 rfl (lv_at hl 0 rfl) ?_
  refine lv_iconst (v := 1) hx hb d_M_isIndex_1 (by decide) ?_
  refine lv_icmp_lt (tgt := 15) hx hb d_M_isIndex_2 (by decide) (fun c1 => ?_) (fun c1 => ?_)
  · refine lv_iconst (v := 0) hx hb d_M_isIndex_15 (by decide) ?_
    exact W.zret (v := (0 : Int32)) hx hb hr rfl (fun t ht hW => ⟨(0 : Int32), rfl, by rw [f_M_isIndex, if_pos c1]; rfl, ht⟩) (fun q h => absurd h List.not_mem_nil) d_M_isIndex_16
  · refine lv_iload_n hx hb d_M_isIndex_5 rfl (lv_at hl 0 rfl) ?_
    refine lv_bipush (v := 6) hx hb d_M_isIndex_6 (by decide) ?_
    refine lv_icmp_gt (tgt := 15) hx hb d_M_isIndex_8 (by decide) (fun c2 => ?_) (fun c2 => ?_)
    · refine lv_iconst (v := 0) hx hb d_M_isIndex_15 (by decide) ?_
      exact W.zret (v := (0 : Int32)) hx hb hr rfl (fun t ht hW => ⟨(0 : Int32), rfl, by rw [f_M_isIndex, if_neg c1, if_pos c2]; rfl, ht⟩) (fun q h => absurd h List.not_mem_nil) d_M_isIndex_16
    · refine lv_iconst (v := 1) hx hb d_M_isIndex_11 (by decide) ?_
      refine lv_goto (tgt := 16) hx hb d_M_isIndex_12 (by decide) ?_
      exact W.zret (v := (1 : Int32)) hx hb hr rfl (fun t ht hW => ⟨(1 : Int32), rfl, by rw [f_M_isIndex, if_neg c1, if_neg c2]; rfl, ht⟩) (fun q h => absurd h List.not_mem_nil) d_M_isIndex_16
theorem s_M_isIndex {R : Room} {s : State} {args : Array Value} {own : String} {index : Nat} (hk : ∀ w ∈ tb, w.before args s = true) (hl : Cond.methodLink own index y_M_isIndex ∈ tb) (hR : 0 + 1 ≤ R.frames ∧ 8 + (1 + 11) + 0 ≤ R.locals) : CallB R s args own index y_M_isIndex b_M_isIndex 1 (some .boolean) (.code y_M_isIndex b_M_isIndex 1 (some .boolean) :: tb) ({ frames := 0, cells := 0, slots := 0, locals := 0 }) 0 0 1 ∧ (Cond.static y_M_isIndex).before args s = true := mk_s 1 hk k_272 hl k_271 k_117 rfl rfl h_M_isIndex hR
def f_M_isShort (a0 : Int32) : Bool := (if ((bI (f_M_isIndex a0)) : Int32) = (0 : Int32) then (if a0 = (8 : Int32) then true else false) else true)
set_option maxHeartbeats 4000000 in
set_option maxRecDepth 100000 in
theorem c_M_isShort (l : Launch) (a0 : Int32) : Met l y_M_isShort (.code y_M_isShort b_M_isShort 1 (some .boolean) :: tb) ({ frames := 1, cells := 0, slots := 0, locals := 20 }) (va_Pc [.int a0] (fun _ => True)) (vp_Si (fun r => r = bI (f_M_isShort a0))) 0 0 (fun _ => False) := by
  refine Met.ofW (cc := b_M_isShort) (maxL := 1) (ret := (some .boolean)) (by decide) rfl ?_
  intro p e s m args below meth c s₁ B hml hv
  obtain ⟨rfl, -⟩ := hv
  have hx := B.exec
  have hb := B.bytes
  have hr := B.returns
  have hts := atoms_spec (ws := .code y_M_isShort b_M_isShort 1 (some .boolean) :: tb) B.pre
  have hk : ∀ w ∈ tb, w.before [.int a0].toArray s = true := fun w h => hts w (List.mem_cons_of_mem _ h)
  have hown : s.vm.findClass "SignMachine$Machine" = some m.cls := findClass_of_methodNamed B.named
  have hlocks := B.notSynchronized
  have hl := lv_entry ([.int a0]) (n := 1) (Nat.le_of_ble_eq_true rfl)
  rw [lg_entry_eq]
  generalize (lg_sl ([.int a0]) ++ List.replicate (1 - (lg_sl ([.int a0])).length) Slot.unset).toArray = ls at hl ⊢
  have hl : lv_has ls 1 [(0, .int a0)] := hl
  refine lv_iload_n hx hb d_M_isShort_0 rfl (lv_at hl 0 rfl) ?_
  refine vp_callSi (W.runS (As := [.int a0]) (rest := []) ⟨hx, hb, hml, hown, hk⟩ (c_M_isIndex l a0) (s_M_isIndex hk k_270 ⟨Nat.le_of_ble_eq_true rfl, Nat.le_of_ble_eq_true rfl⟩) ⟨fun a U g mk q => q, fun U hU hW => ⟨rfl, trivial⟩⟩ rfl rfl hl.1 rfl (lv_room (Nat.le_of_ble_eq_true rfl)) d_M_isShort_1 ⟨Nat.le_of_ble_eq_true rfl, Nat.le_of_ble_eq_true rfl⟩) (fun r0 hr0 => ?_)
  subst hr0
  refine lv_if_ne (tgt := 13) hx hb d_M_isShort_4 (by decide) (fun c1 => ?_) (fun c1 => ?_)
  · refine lv_iconst (v := 1) hx hb d_M_isShort_13 (by decide) ?_
    refine lv_goto (tgt := 18) hx hb d_M_isShort_14 (by decide) ?_
    exact W.zret (v := (1 : Int32)) hx hb hr rfl (fun t ht hW => ⟨(1 : Int32), rfl, by rw [f_M_isShort, if_neg c1]; rfl, ht⟩) (fun q h => absurd h List.not_mem_nil) d_M_isShort_18
  · refine lv_iload_n hx hb d_M_isShort_7 rfl (lv_at hl 0 rfl) ?_
    refine lv_bipush (v := 8) hx hb d_M_isShort_8 (by decide) ?_
    refine lv_icmp_ne (tgt := 17) hx hb d_M_isShort_10 (by decide) (fun c2 => ?_) (fun c2 => ?_)
    · refine lv_iconst (v := 0) hx hb d_M_isShort_17 (by decide) ?_
      exact W.zret (v := (0 : Int32)) hx hb hr rfl (fun t ht hW => ⟨(0 : Int32), rfl, by rw [f_M_isShort, if_pos c1, if_neg c2]; rfl, ht⟩) (fun q h => absurd h List.not_mem_nil) d_M_isShort_18
    · refine lv_iconst (v := 1) hx hb d_M_isShort_13 (by decide) ?_
      refine lv_goto (tgt := 18) hx hb d_M_isShort_14 (by decide) ?_
      exact W.zret (v := (1 : Int32)) hx hb hr rfl (fun t ht hW => ⟨(1 : Int32), rfl, by rw [f_M_isShort, if_pos c1, if_pos c2]; rfl, ht⟩) (fun q h => absurd h List.not_mem_nil) d_M_isShort_18
theorem s_M_isShort {R : Room} {s : State} {args : Array Value} {own : String} {index : Nat} (hk : ∀ w ∈ tb, w.before args s = true) (hl : Cond.methodLink own index y_M_isShort ∈ tb) (hR : 1 + 1 ≤ R.frames ∧ 8 + (1 + 11) + 20 ≤ R.locals) : CallB R s args own index y_M_isShort b_M_isShort 1 (some .boolean) (.code y_M_isShort b_M_isShort 1 (some .boolean) :: tb) ({ frames := 1, cells := 0, slots := 0, locals := 20 }) 0 0 1 ∧ (Cond.static y_M_isShort).before args s = true := mk_s 1 hk k_493 hl k_492 k_117 rfl rfl h_M_isShort hR
def f_W_number (a0 : Int32) : Int32 := (if ((a0 &&& (1073741824 : Int32)) : Int32) = (0 : Int32) then (a0 &&& (1073741823 : Int32)) else (-(a0 &&& (1073741823 : Int32))))
set_option maxHeartbeats 4000000 in
set_option maxRecDepth 100000 in
theorem c_W_number (l : Launch) (a0 : Int32) : Met l y_W_number (.code y_W_number b_W_number 1 (some .int) :: tb) ({ frames := 0, cells := 0, slots := 0, locals := 0 }) (va_Pc [.int a0] (fun _ => True)) (vp_Si (fun r => r = f_W_number a0)) 0 0 (fun _ => False) := by
  refine Met.ofW (cc := b_W_number) (maxL := 1) (ret := (some .int)) (by decide) rfl ?_
  intro p e s m args below meth c s₁ B hml hv
  obtain ⟨rfl, -⟩ := hv
  have hx := B.exec
  have hb := B.bytes
  have hr := B.returns
  have hts := atoms_spec (ws := .code y_W_number b_W_number 1 (some .int) :: tb) B.pre
  have hk : ∀ w ∈ tb, w.before [.int a0].toArray s = true := fun w h => hts w (List.mem_cons_of_mem _ h)
  have hown : s.vm.findClass "SignMachine$Word" = some m.cls := findClass_of_methodNamed B.named
  have hlocks := B.notSynchronized
  have hl := lv_entry ([.int a0]) (n := 1) (Nat.le_of_ble_eq_true rfl)
  rw [lg_entry_eq]
  generalize (lg_sl ([.int a0]) ++ List.replicate (1 - (lg_sl ([.int a0])).length) Slot.unset).toArray = ls at hl ⊢
  have hl : lv_has ls 1 [(0, .int a0)] := hl
  refine lv_iload_n hx hb d_W_number_0 rfl (lv_at hl 0 rfl) ?_
  refine lv_ldc (v := 1073741824) hx hb hown (hk _ k_231) d_W_number_1 ?_
  refine lv_iand hx hb d_W_number_3 ?_
  refine lv_if_ne (tgt := 14) hx hb d_W_number_4 (by decide) (fun c1 => ?_) (fun c1 => ?_)
  · refine lv_iload_n hx hb d_W_number_14 rfl (lv_at hl 0 rfl) ?_
    refine lv_ldc (v := 1073741823) hx hb hown (hk _ k_227) d_W_number_15 ?_
    refine lv_iand hx hb d_W_number_17 ?_
    refine lv_ineg hx hb d_W_number_18 ?_
    exact W.iret (v := (-(a0 &&& (1073741823 : Int32)))) hx hb hr (fun t ht hW => ⟨(-(a0 &&& (1073741823 : Int32))), rfl, by rw [f_W_number, if_neg c1], ht⟩) (fun q h => absurd h List.not_mem_nil) d_W_number_19
  · refine lv_iload_n hx hb d_W_number_7 rfl (lv_at hl 0 rfl) ?_
    refine lv_ldc (v := 1073741823) hx hb hown (hk _ k_227) d_W_number_8 ?_
    refine lv_iand hx hb d_W_number_10 ?_
    refine lv_goto (tgt := 19) hx hb d_W_number_11 (by decide) ?_
    exact W.iret (v := (a0 &&& (1073741823 : Int32))) hx hb hr (fun t ht hW => ⟨(a0 &&& (1073741823 : Int32)), rfl, by rw [f_W_number, if_pos c1], ht⟩) (fun q h => absurd h List.not_mem_nil) d_W_number_19
theorem s_W_number {R : Room} {s : State} {args : Array Value} {own : String} {index : Nat} (hk : ∀ w ∈ tb, w.before args s = true) (hl : Cond.methodLink own index y_W_number ∈ tb) (hR : 0 + 1 ≤ R.frames ∧ 8 + (1 + 11) + 0 ≤ R.locals) : CallB R s args own index y_W_number b_W_number 1 (some .int) (.code y_W_number b_W_number 1 (some .int) :: tb) ({ frames := 0, cells := 0, slots := 0, locals := 0 }) 0 0 1 ∧ (Cond.static y_W_number).before args s = true := mk_s 1 hk k_279 hl k_278 k_120 rfl rfl h_W_number hR
def f_W_isField (a0 : Int32) : Bool := (if (a0 : Int32) < (0 : Int32) then false else (if (a0 &&& (7 : Int32)) < (a0 >>> ((3 : Int32) &&& (31 : Int32))) then false else (if (5 : Int32) < (a0 &&& (7 : Int32)) then false else true)))
set_option maxHeartbeats 4000000 in
set_option maxRecDepth 100000 in
theorem c_W_isField (l : Launch) (a0 : Int32) : Met l y_W_isField (.code y_W_isField b_W_isField 3 (some .boolean) :: tb) ({ frames := 0, cells := 0, slots := 0, locals := 0 }) (va_Pc [.int a0] (fun _ => True)) (vp_Si (fun r => r = bI (f_W_isField a0))) 0 0 (fun _ => False) := by
  refine Met.ofW (cc := b_W_isField) (maxL := 3) (ret := (some .boolean)) (by decide) rfl ?_
  intro p e s m args below meth c s₁ B hml hv
  obtain ⟨rfl, -⟩ := hv
  have hx := B.exec
  have hb := B.bytes
  have hr := B.returns
  have hts := atoms_spec (ws := .code y_W_isField b_W_isField 3 (some .boolean) :: tb) B.pre
  have hk : ∀ w ∈ tb, w.before [.int a0].toArray s = true := fun w h => hts w (List.mem_cons_of_mem _ h)
  have hown : s.vm.findClass "SignMachine$Word" = some m.cls := findClass_of_methodNamed B.named
  have hlocks := B.notSynchronized
  have hl := lv_entry ([.int a0]) (n := 3) (Nat.le_of_ble_eq_true rfl)
  rw [lg_entry_eq]
  generalize (lg_sl ([.int a0]) ++ List.replicate (3 - (lg_sl ([.int a0])).length) Slot.unset).toArray = ls at hl ⊢
  have hl : lv_has ls 3 [(0, .int a0)] := hl
  refine lv_iload_n hx hb d_W_isField_0 rfl (lv_at hl 0 rfl) ?_
  refine lv_iconst (v := 3) hx hb d_W_isField_1 (by decide) ?_
  refine lv_ishr hx hb d_W_isField_2 ?_
  refine lv_istore_n (lv' := [(1, .int (a0 >>> ((3 : Int32) &&& (31 : Int32)))), (0, .int a0)]) hx hb d_W_isField_3 rfl hl (by decide) rfl (fun ls hl => ?_)
  refine lv_iload_n hx hb d_W_isField_4 rfl (lv_at hl 1 rfl) ?_
  refine lv_bipush (v := 7) hx hb d_W_isField_5 (by decide) ?_
  refine lv_iand hx hb d_W_isField_7 ?_
  refine lv_istore_n (lv' := [(2, .int (a0 &&& (7 : Int32))), (1, .int (a0 >>> ((3 : Int32) &&& (31 : Int32)))), (0, .int a0)]) hx hb d_W_isField_8 rfl hl (by decide) rfl (fun ls hl => ?_)
  refine lv_iload_n hx hb d_W_isField_9 rfl (lv_at hl 2 rfl) ?_
  refine lv_if_lt (tgt := 27) hx hb d_W_isField_10 (by decide) (fun c1 => ?_) (fun c1 => ?_)
  · refine lv_iconst (v := 0) hx hb d_W_isField_27 (by decide) ?_
    exact W.zret (v := (0 : Int32)) hx hb hr rfl (fun t ht hW => ⟨(0 : Int32), rfl, by rw [f_W_isField, if_pos c1]; rfl, ht⟩) (fun q h => absurd h List.not_mem_nil) d_W_isField_28
  · refine lv_iload_n hx hb d_W_isField_13 rfl (lv_at hl 1 rfl) ?_
    refine lv_iload_n hx hb d_W_isField_14 rfl (lv_at hl 0 rfl) ?_
    refine lv_icmp_gt (tgt := 27) hx hb d_W_isField_15 (by decide) (fun c2 => ?_) (fun c2 => ?_)
    · refine lv_iconst (v := 0) hx hb d_W_isField_27 (by decide) ?_
      exact W.zret (v := (0 : Int32)) hx hb hr rfl (fun t ht hW => ⟨(0 : Int32), rfl, by rw [f_W_isField, if_neg c1, if_pos c2]; rfl, ht⟩) (fun q h => absurd h List.not_mem_nil) d_W_isField_28
    · refine lv_iload_n hx hb d_W_isField_18 rfl (lv_at hl 0 rfl) ?_
      refine lv_iconst (v := 5) hx hb d_W_isField_19 (by decide) ?_
      refine lv_icmp_gt (tgt := 27) hx hb d_W_isField_20 (by decide) (fun c3 => ?_) (fun c3 => ?_)
      · refine lv_iconst (v := 0) hx hb d_W_isField_27 (by decide) ?_
        exact W.zret (v := (0 : Int32)) hx hb hr rfl (fun t ht hW => ⟨(0 : Int32), rfl, by rw [f_W_isField, if_neg c1, if_neg c2, if_pos c3]; rfl, ht⟩) (fun q h => absurd h List.not_mem_nil) d_W_isField_28
      · refine lv_iconst (v := 1) hx hb d_W_isField_23 (by decide) ?_
        refine lv_goto (tgt := 28) hx hb d_W_isField_24 (by decide) ?_
        exact W.zret (v := (1 : Int32)) hx hb hr rfl (fun t ht hW => ⟨(1 : Int32), rfl, by rw [f_W_isField, if_neg c1, if_neg c2, if_neg c3]; rfl, ht⟩) (fun q h => absurd h List.not_mem_nil) d_W_isField_28
theorem s_W_isField {R : Room} {s : State} {args : Array Value} {own : String} {index : Nat} (hk : ∀ w ∈ tb, w.before args s = true) (hl : Cond.methodLink own index y_W_isField ∈ tb) (hR : 0 + 1 ≤ R.frames ∧ 8 + (3 + 11) + 0 ≤ R.locals) : CallB R s args own index y_W_isField b_W_isField 3 (some .boolean) (.code y_W_isField b_W_isField 3 (some .boolean) :: tb) ({ frames := 0, cells := 0, slots := 0, locals := 0 }) 0 0 1 ∧ (Cond.static y_W_isField).before args s = true := mk_s 1 hk k_294 hl k_293 k_120 rfl rfl h_W_isField hR
def f_M_hasWords (a0 : Int32) (a1 : Int32) : Bool := (if (a0 : Int32) < (0 : Int32) then false else (if (4000 : Int32) < (a0 + a1) then false else true))
set_option maxHeartbeats 4000000 in
set_option maxRecDepth 100000 in
theorem c_M_hasWords (l : Launch) (a0 : Int32) (a1 : Int32) : Met l y_M_hasWords (.code y_M_hasWords b_M_hasWords 2 (some .boolean) :: tb) ({ frames := 0, cells := 0, slots := 0, locals := 0 }) (va_Pc [.int a0, .int a1] (fun _ => True)) (vp_Si (fun r => r = bI (f_M_hasWords a0 a1))) 0 0 (fun _ => False) := by
  refine Met.ofW (cc := b_M_hasWords) (maxL := 2) (ret := (some .boolean)) (by decide) rfl ?_
  intro p e s m args below meth c s₁ B hml hv
  obtain ⟨rfl, -⟩ := hv
  have hx := B.exec
  have hb := B.bytes
  have hr := B.returns
  have hts := atoms_spec (ws := .code y_M_hasWords b_M_hasWords 2 (some .boolean) :: tb) B.pre
  have hk : ∀ w ∈ tb, w.before [.int a0, .int a1].toArray s = true := fun w h => hts w (List.mem_cons_of_mem _ h)
  have hown : s.vm.findClass "SignMachine$Machine" = some m.cls := findClass_of_methodNamed B.named
  have hlocks := B.notSynchronized
  have hl := lv_entry ([.int a0, .int a1]) (n := 2) (Nat.le_of_ble_eq_true rfl)
  rw [lg_entry_eq]
  generalize (lg_sl ([.int a0, .int a1]) ++ List.replicate (2 - (lg_sl ([.int a0, .int a1])).length) Slot.unset).toArray = ls at hl ⊢
  have hl : lv_has ls 2 [(0, .int a0), (1, .int a1)] := hl
  refine lv_iload_n hx hb d_M_hasWords_0 rfl (lv_at hl 0 rfl) ?_
  refine lv_if_lt (tgt := 17) hx hb d_M_hasWords_1 (by decide) (fun c1 => ?_) (fun c1 => ?_)
  · refine lv_iconst (v := 0) hx hb d_M_hasWords_17 (by decide) ?_
    exact W.zret (v := (0 : Int32)) hx hb hr rfl (fun t ht hW => ⟨(0 : Int32), rfl, by rw [f_M_hasWords, if_pos c1]; rfl, ht⟩) (fun q h => absurd h List.not_mem_nil) d_M_hasWords_18
  · refine lv_iload_n hx hb d_M_hasWords_4 rfl (lv_at hl 0 rfl) ?_
    refine lv_iload_n hx hb d_M_hasWords_5 rfl (lv_at hl 1 rfl) ?_
    refine lv_iadd hx hb d_M_hasWords_6 ?_
    refine lv_sipush (v := 4000) hx hb d_M_hasWords_7 (by decide) ?_
    refine lv_icmp_gt (tgt := 17) hx hb d_M_hasWords_10 (by decide) (fun c2 => ?_) (fun c2 => ?_)
    · refine lv_iconst (v := 0) hx hb d_M_hasWords_17 (by decide) ?_
      exact W.zret (v := (0 : Int32)) hx hb hr rfl (fun t ht hW => ⟨(0 : Int32), rfl, by rw [f_M_hasWords, if_neg c1, if_pos c2]; rfl, ht⟩) (fun q h => absurd h List.not_mem_nil) d_M_hasWords_18
    · refine lv_iconst (v := 1) hx hb d_M_hasWords_13 (by decide) ?_
      refine lv_goto (tgt := 18) hx hb d_M_hasWords_14 (by decide) ?_
      exact W.zret (v := (1 : Int32)) hx hb hr rfl (fun t ht hW => ⟨(1 : Int32), rfl, by rw [f_M_hasWords, if_neg c1, if_neg c2]; rfl, ht⟩) (fun q h => absurd h List.not_mem_nil) d_M_hasWords_18
theorem s_M_hasWords {R : Room} {s : State} {args : Array Value} {own : String} {index : Nat} (hk : ∀ w ∈ tb, w.before args s = true) (hl : Cond.methodLink own index y_M_hasWords ∈ tb) (hR : 0 + 1 ≤ R.frames ∧ 8 + (2 + 11) + 0 ≤ R.locals) : CallB R s args own index y_M_hasWords b_M_hasWords 2 (some .boolean) (.code y_M_hasWords b_M_hasWords 2 (some .boolean) :: tb) ({ frames := 0, cells := 0, slots := 0, locals := 0 }) 0 0 2 ∧ (Cond.static y_M_hasWords).before args s = true := mk_s 2 hk k_305 hl k_304 k_117 rfl rfl h_M_hasWords hR
def f_W_bitsBehind (a0 : Int32) : Int32 := ((6 : Int32) * ((5 : Int32) - (a0 &&& (7 : Int32))))
set_option maxHeartbeats 4000000 in
set_option maxRecDepth 100000 in
theorem c_W_bitsBehind (l : Launch) (a0 : Int32) : Met l y_W_bitsBehind (.code y_W_bitsBehind b_W_bitsBehind 1 (some .int) :: tb) ({ frames := 0, cells := 0, slots := 0, locals := 0 }) (va_Pc [.int a0] (fun _ => True)) (vp_Si (fun r => r = f_W_bitsBehind a0)) 0 0 (fun _ => False) := by
  refine Met.ofW (cc := b_W_bitsBehind) (maxL := 1) (ret := (some .int)) (by decide) rfl ?_
  intro p e s m args below meth c s₁ B hml hv
  obtain ⟨rfl, -⟩ := hv
  have hx := B.exec
  have hb := B.bytes
  have hr := B.returns
  have hts := atoms_spec (ws := .code y_W_bitsBehind b_W_bitsBehind 1 (some .int) :: tb) B.pre
  have hk : ∀ w ∈ tb, w.before [.int a0].toArray s = true := fun w h => hts w (List.mem_cons_of_mem _ h)
  have hown : s.vm.findClass "SignMachine$Word" = some m.cls := findClass_of_methodNamed B.named
  have hlocks := B.notSynchronized
  have hl := lv_entry ([.int a0]) (n := 1) (Nat.le_of_ble_eq_true rfl)
  rw [lg_entry_eq]
  generalize (lg_sl ([.int a0]) ++ List.replicate (1 - (lg_sl ([.int a0])).length) Slot.unset).toArray = ls at hl ⊢
  have hl : lv_has ls 1 [(0, .int a0)] := hl
  refine lv_bipush (v := 6) hx hb d_W_bitsBehind_0 (by decide) ?_
  refine lv_iconst (v := 5) hx hb d_W_bitsBehind_2 (by decide) ?_
  refine lv_iload_n hx hb d_W_bitsBehind_3 rfl (lv_at hl 0 rfl) ?_
  refine lv_bipush (v := 7) hx hb d_W_bitsBehind_4 (by decide) ?_
  refine lv_iand hx hb d_W_bitsBehind_6 ?_
  refine lv_isub hx hb d_W_bitsBehind_7 ?_
  refine lv_imul hx hb d_W_bitsBehind_8 ?_
  exact W.iret (v := ((6 : Int32) * ((5 : Int32) - (a0 &&& (7 : Int32))))) hx hb hr (fun t ht hW => ⟨((6 : Int32) * ((5 : Int32) - (a0 &&& (7 : Int32)))), rfl, by rw [f_W_bitsBehind], ht⟩) (fun q h => absurd h List.not_mem_nil) d_W_bitsBehind_9
theorem s_W_bitsBehind {R : Room} {s : State} {args : Array Value} {own : String} {index : Nat} (hk : ∀ w ∈ tb, w.before args s = true) (hl : Cond.methodLink own index y_W_bitsBehind ∈ tb) (hR : 0 + 1 ≤ R.frames ∧ 8 + (1 + 11) + 0 ≤ R.locals) : CallB R s args own index y_W_bitsBehind b_W_bitsBehind 1 (some .int) (.code y_W_bitsBehind b_W_bitsBehind 1 (some .int) :: tb) ({ frames := 0, cells := 0, slots := 0, locals := 0 }) 0 0 1 ∧ (Cond.static y_W_bitsBehind).before args s = true := mk_s 1 hk k_320 hl k_319 k_120 rfl rfl h_W_bitsBehind hR
def f_W_maskOf (a0 : Int32) : Int32 := (if ((a0 >>> ((3 : Int32) &&& (31 : Int32))) : Int32) = (0 : Int32) then (((1 : Int32) <<< (((6 : Int32) * (a0 &&& (7 : Int32))) &&& (31 : Int32))) - (1 : Int32)) else (((1 : Int32) <<< (((6 : Int32) * (((a0 &&& (7 : Int32)) - (a0 >>> ((3 : Int32) &&& (31 : Int32)))) + (1 : Int32))) &&& (31 : Int32))) - (1 : Int32)))
set_option maxHeartbeats 4000000 in
set_option maxRecDepth 100000 in
theorem c_W_maskOf (l : Launch) (a0 : Int32) : Met l y_W_maskOf (.code y_W_maskOf b_W_maskOf 4 (some .int) :: tb) ({ frames := 0, cells := 0, slots := 0, locals := 0 }) (va_Pc [.int a0] (fun _ => True)) (vp_Si (fun r => r = f_W_maskOf a0)) 0 0 (fun _ => False) := by
  refine Met.ofW (cc := b_W_maskOf) (maxL := 4) (ret := (some .int)) (by decide) rfl ?_
  intro p e s m args below meth c s₁ B hml hv
  obtain ⟨rfl, -⟩ := hv
  have hx := B.exec
  have hb := B.bytes
  have hr := B.returns
  have hts := atoms_spec (ws := .code y_W_maskOf b_W_maskOf 4 (some .int) :: tb) B.pre
  have hk : ∀ w ∈ tb, w.before [.int a0].toArray s = true := fun w h => hts w (List.mem_cons_of_mem _ h)
  have hown : s.vm.findClass "SignMachine$Word" = some m.cls := findClass_of_methodNamed B.named
  have hlocks := B.notSynchronized
  have hl := lv_entry ([.int a0]) (n := 4) (Nat.le_of_ble_eq_true rfl)
  rw [lg_entry_eq]
  generalize (lg_sl ([.int a0]) ++ List.replicate (4 - (lg_sl ([.int a0])).length) Slot.unset).toArray = ls at hl ⊢
  have hl : lv_has ls 4 [(0, .int a0)] := hl
  refine lv_iload_n hx hb d_W_maskOf_0 rfl (lv_at hl 0 rfl) ?_
  refine lv_iconst (v := 3) hx hb d_W_maskOf_1 (by decide) ?_
  refine lv_ishr hx hb d_W_maskOf_2 ?_
  refine lv_istore_n (lv' := [(1, .int (a0 >>> ((3 : Int32) &&& (31 : Int32)))), (0, .int a0)]) hx hb d_W_maskOf_3 rfl hl (by decide) rfl (fun ls hl => ?_)
  refine lv_iload_n hx hb d_W_maskOf_4 rfl (lv_at hl 1 rfl) ?_
  refine lv_bipush (v := 7) hx hb d_W_maskOf_5 (by decide) ?_
  refine lv_iand hx hb d_W_maskOf_7 ?_
  refine lv_istore_n (lv' := [(2, .int (a0 &&& (7 : Int32))), (1, .int (a0 >>> ((3 : Int32) &&& (31 : Int32)))), (0, .int a0)]) hx hb d_W_maskOf_8 rfl hl (by decide) rfl (fun ls hl => ?_)
  refine lv_iload_n hx hb d_W_maskOf_9 rfl (lv_at hl 1 rfl) ?_
  refine lv_if_ne (tgt := 17) hx hb d_W_maskOf_10 (by decide) (fun c1 => ?_) (fun c1 => ?_)
  · refine lv_iload_n hx hb d_W_maskOf_17 rfl (lv_at hl 0 rfl) ?_
    refine lv_iload_n hx hb d_W_maskOf_18 rfl (lv_at hl 1 rfl) ?_
    refine lv_isub hx hb d_W_maskOf_19 ?_
    refine lv_iconst (v := 1) hx hb d_W_maskOf_20 (by decide) ?_
    refine lv_iadd hx hb d_W_maskOf_21 ?_
    refine lv_istore_n (lv' := [(3, .int (((a0 &&& (7 : Int32)) - (a0 >>> ((3 : Int32) &&& (31 : Int32)))) + (1 : Int32))), (2, .int (a0 &&& (7 : Int32))), (1, .int (a0 >>> ((3 : Int32) &&& (31 : Int32)))), (0, .int a0)]) hx hb d_W_maskOf_22 rfl hl (by decide) rfl (fun ls hl => ?_)
    refine lv_iconst (v := 1) hx hb d_W_maskOf_23 (by decide) ?_
    refine lv_bipush (v := 6) hx hb d_W_maskOf_24 (by decide) ?_
    refine lv_iload_n hx hb d_W_maskOf_26 rfl (lv_at hl 0 rfl) ?_
    refine lv_imul hx hb d_W_maskOf_27 ?_
    refine lv_ishl hx hb d_W_maskOf_28 ?_
    refine lv_iconst (v := 1) hx hb d_W_maskOf_29 (by decide) ?_
    refine lv_isub hx hb d_W_maskOf_30 ?_
    exact W.iret (v := (((1 : Int32) <<< (((6 : Int32) * (((a0 &&& (7 : Int32)) - (a0 >>> ((3 : Int32) &&& (31 : Int32)))) + (1 : Int32))) &&& (31 : Int32))) - (1 : Int32))) hx hb hr (fun t ht hW => ⟨(((1 : Int32) <<< (((6 : Int32) * (((a0 &&& (7 : Int32)) - (a0 >>> ((3 : Int32) &&& (31 : Int32)))) + (1 : Int32))) &&& (31 : Int32))) - (1 : Int32)), rfl, by rw [f_W_maskOf, if_neg c1], ht⟩) (fun q h => absurd h List.not_mem_nil) d_W_maskOf_31
  · refine lv_iload_n hx hb d_W_maskOf_13 rfl (lv_at hl 0 rfl) ?_
    refine lv_goto (tgt := 22) hx hb d_W_maskOf_14 (by decide) ?_
    refine lv_istore_n (lv' := [(3, .int (a0 &&& (7 : Int32))), (2, .int (a0 &&& (7 : Int32))), (1, .int (a0 >>> ((3 : Int32) &&& (31 : Int32)))), (0, .int a0)]) hx hb d_W_maskOf_22 rfl hl (by decide) rfl (fun ls hl => ?_)
    refine lv_iconst (v := 1) hx hb d_W_maskOf_23 (by decide) ?_
    refine lv_bipush (v := 6) hx hb d_W_maskOf_24 (by decide) ?_
    refine lv_iload_n hx hb d_W_maskOf_26 rfl (lv_at hl 0 rfl) ?_
    refine lv_imul hx hb d_W_maskOf_27 ?_
    refine lv_ishl hx hb d_W_maskOf_28 ?_
    refine lv_iconst (v := 1) hx hb d_W_maskOf_29 (by decide) ?_
    refine lv_isub hx hb d_W_maskOf_30 ?_
    exact W.iret (v := (((1 : Int32) <<< (((6 : Int32) * (a0 &&& (7 : Int32))) &&& (31 : Int32))) - (1 : Int32))) hx hb hr (fun t ht hW => ⟨(((1 : Int32) <<< (((6 : Int32) * (a0 &&& (7 : Int32))) &&& (31 : Int32))) - (1 : Int32)), rfl, by rw [f_W_maskOf, if_pos c1], ht⟩) (fun q h => absurd h List.not_mem_nil) d_W_maskOf_31
theorem s_W_maskOf {R : Room} {s : State} {args : Array Value} {own : String} {index : Nat} (hk : ∀ w ∈ tb, w.before args s = true) (hl : Cond.methodLink own index y_W_maskOf ∈ tb) (hR : 0 + 1 ≤ R.frames ∧ 8 + (4 + 11) + 0 ≤ R.locals) : CallB R s args own index y_W_maskOf b_W_maskOf 4 (some .int) (.code y_W_maskOf b_W_maskOf 4 (some .int) :: tb) ({ frames := 0, cells := 0, slots := 0, locals := 0 }) 0 0 1 ∧ (Cond.static y_W_maskOf).before args s = true := mk_s 1 hk k_323 hl k_322 k_120 rfl rfl h_W_maskOf hR
def f_W_field (a0 : Int32) (a1 : Int32) : Int32 := (if ((a1 >>> ((3 : Int32) &&& (31 : Int32))) : Int32) = (0 : Int32) then (f_W_make (f_W_sign a0) (((f_W_size a0) >>> ((f_W_bitsBehind a1) &&& (31 : Int32))) &&& (f_W_maskOf a1))) else (((f_W_size a0) >>> ((f_W_bitsBehind a1) &&& (31 : Int32))) &&& (f_W_maskOf a1)))
set_option maxHeartbeats 4000000 in
set_option maxRecDepth 100000 in
theorem c_W_field (l : Launch) (a0 : Int32) (a1 : Int32) : Met l y_W_field (.code y_W_field b_W_field 3 (some .int) :: tb) ({ frames := 1, cells := 0, slots := 0, locals := 23 }) (va_Pc [.int a0, .int a1] (fun _ => True)) (vp_Si (fun r => r = f_W_field a0 a1)) 0 0 (fun _ => False) := by
  refine Met.ofW (cc := b_W_field) (maxL := 3) (ret := (some .int)) (by decide) rfl ?_
  intro p e s m args below meth c s₁ B hml hv
  obtain ⟨rfl, -⟩ := hv
  have hx := B.exec
  have hb := B.bytes
  have hr := B.returns
  have hts := atoms_spec (ws := .code y_W_field b_W_field 3 (some .int) :: tb) B.pre
  have hk : ∀ w ∈ tb, w.before [.int a0, .int a1].toArray s = true := fun w h => hts w (List.mem_cons_of_mem _ h)
  have hown : s.vm.findClass "SignMachine$Word" = some m.cls := findClass_of_methodNamed B.named
  have hlocks := B.notSynchronized
  have hl := lv_entry ([.int a0, .int a1]) (n := 3) (Nat.le_of_ble_eq_true rfl)
  rw [lg_entry_eq]
  generalize (lg_sl ([.int a0, .int a1]) ++ List.replicate (3 - (lg_sl ([.int a0, .int a1])).length) Slot.unset).toArray = ls at hl ⊢
  have hl : lv_has ls 3 [(0, .int a0), (1, .int a1)] := hl
  refine lv_iload_n hx hb d_W_field_0 rfl (lv_at hl 0 rfl) ?_
  refine vp_callSi (W.runS (As := [.int a0]) (rest := []) ⟨hx, hb, hml, hown, hk⟩ (c_W_size l a0) (s_W_size hk k_317 ⟨Nat.le_of_ble_eq_true rfl, Nat.le_of_ble_eq_true rfl⟩) ⟨fun a U g mk q => q, fun U hU hW => ⟨rfl, trivial⟩⟩ rfl rfl hl.1 rfl (lv_room (Nat.le_of_ble_eq_true rfl)) d_W_field_1 ⟨Nat.le_of_ble_eq_true rfl, Nat.le_of_ble_eq_true rfl⟩) (fun r0 hr0 => ?_)
  subst hr0
  refine lv_iload_n hx hb d_W_field_4 rfl (lv_at hl 1 rfl) ?_
  refine vp_callSi (W.runS (As := [.int a1]) (rest := [.int (f_W_size a0)]) ⟨hx, hb, hml, hown, hk⟩ (c_W_bitsBehind l a1) (s_W_bitsBehind hk k_318 ⟨Nat.le_of_ble_eq_true rfl, Nat.le_of_ble_eq_true rfl⟩) ⟨fun a U g mk q => q, fun U hU hW => ⟨rfl, trivial⟩⟩ rfl rfl hl.1 rfl (lv_room (Nat.le_of_ble_eq_true rfl)) d_W_field_5 ⟨Nat.le_of_ble_eq_true rfl, Nat.le_of_ble_eq_true rfl⟩) (fun r0 hr0 => ?_)
  subst hr0
  refine lv_ishr hx hb d_W_field_8 ?_
  refine lv_iload_n hx hb d_W_field_9 rfl (lv_at hl 1 rfl) ?_
  refine vp_callSi (W.runS (As := [.int a1]) (rest := [.int ((f_W_size a0) >>> ((f_W_bitsBehind a1) &&& (31 : Int32)))]) ⟨hx, hb, hml, hown, hk⟩ (c_W_maskOf l a1) (s_W_maskOf hk k_321 ⟨Nat.le_of_ble_eq_true rfl, Nat.le_of_ble_eq_true rfl⟩) ⟨fun a U g mk q => q, fun U hU hW => ⟨rfl, trivial⟩⟩ rfl rfl hl.1 rfl (lv_room (Nat.le_of_ble_eq_true rfl)) d_W_field_10 ⟨Nat.le_of_ble_eq_true rfl, Nat.le_of_ble_eq_true rfl⟩) (fun r0 hr0 => ?_)
  subst hr0
  refine lv_iand hx hb d_W_field_13 ?_
  refine lv_istore_n (lv' := [(2, .int (((f_W_size a0) >>> ((f_W_bitsBehind a1) &&& (31 : Int32))) &&& (f_W_maskOf a1))), (0, .int a0), (1, .int a1)]) hx hb d_W_field_14 rfl hl (by decide) rfl (fun ls hl => ?_)
  refine lv_iload_n hx hb d_W_field_15 rfl (lv_at hl 2 rfl) ?_
  refine lv_iconst (v := 3) hx hb d_W_field_16 (by decide) ?_
  refine lv_ishr hx hb d_W_field_17 ?_
  refine lv_if_ne (tgt := 32) hx hb d_W_field_18 (by decide) (fun c1 => ?_) (fun c1 => ?_)
  · refine lv_iload_n hx hb d_W_field_32 rfl (lv_at hl 0 rfl) ?_
    exact W.iret (v := (((f_W_size a0) >>> ((f_W_bitsBehind a1) &&& (31 : Int32))) &&& (f_W_maskOf a1))) hx hb hr (fun t ht hW => ⟨(((f_W_size a0) >>> ((f_W_bitsBehind a1) &&& (31 : Int32))) &&& (f_W_maskOf a1)), rfl, by rw [f_W_field, if_neg c1], ht⟩) (fun q h => absurd h List.not_mem_nil) d_W_field_33
  · refine lv_iload_n hx hb d_W_field_21 rfl (lv_at hl 1 rfl) ?_
    refine vp_callSi (W.runS (As := [.int a0]) (rest := []) ⟨hx, hb, hml, hown, hk⟩ (c_W_sign l a0) (s_W_sign hk k_324 ⟨Nat.le_of_ble_eq_true rfl, Nat.le_of_ble_eq_true rfl⟩) ⟨fun a U g mk q => q, fun U hU hW => ⟨rfl, trivial⟩⟩ rfl rfl hl.1 rfl (lv_room (Nat.le_of_ble_eq_true rfl)) d_W_field_22 ⟨Nat.le_of_ble_eq_true rfl, Nat.le_of_ble_eq_true rfl⟩) (fun r0 hr0 => ?_)
    subst hr0
    refine lv_iload_n hx hb d_W_field_25 rfl (lv_at hl 0 rfl) ?_
    refine vp_callSi (W.runS (As := [.int (f_W_sign a0), .int (((f_W_size a0) >>> ((f_W_bitsBehind a1) &&& (31 : Int32))) &&& (f_W_maskOf a1))]) (rest := []) ⟨hx, hb, hml, hown, hk⟩ (c_W_make l (f_W_sign a0) (((f_W_size a0) >>> ((f_W_bitsBehind a1) &&& (31 : Int32))) &&& (f_W_maskOf a1))) (s_W_make hk k_325 ⟨Nat.le_of_ble_eq_true rfl, Nat.le_of_ble_eq_true rfl⟩) ⟨fun a U g mk q => q, fun U hU hW => ⟨rfl, trivial⟩⟩ rfl rfl hl.1 rfl (lv_room (Nat.le_of_ble_eq_true rfl)) d_W_field_26 ⟨Nat.le_of_ble_eq_true rfl, Nat.le_of_ble_eq_true rfl⟩) (fun r0 hr0 => ?_)
    subst hr0
    refine lv_goto (tgt := 33) hx hb d_W_field_29 (by decide) ?_
    exact W.iret (v := (f_W_make (f_W_sign a0) (((f_W_size a0) >>> ((f_W_bitsBehind a1) &&& (31 : Int32))) &&& (f_W_maskOf a1)))) hx hb hr (fun t ht hW => ⟨(f_W_make (f_W_sign a0) (((f_W_size a0) >>> ((f_W_bitsBehind a1) &&& (31 : Int32))) &&& (f_W_maskOf a1))), rfl, by rw [f_W_field, if_pos c1], ht⟩) (fun q h => absurd h List.not_mem_nil) d_W_field_33
theorem s_W_field {R : Room} {s : State} {args : Array Value} {own : String} {index : Nat} (hk : ∀ w ∈ tb, w.before args s = true) (hl : Cond.methodLink own index y_W_field ∈ tb) (hR : 1 + 1 ≤ R.frames ∧ 8 + (3 + 11) + 23 ≤ R.locals) : CallB R s args own index y_W_field b_W_field 3 (some .int) (.code y_W_field b_W_field 3 (some .int) :: tb) ({ frames := 1, cells := 0, slots := 0, locals := 23 }) 0 0 2 ∧ (Cond.static y_W_field).before args s = true := mk_s 2 hk k_316 hl k_315 k_120 rfl rfl h_W_field hR
def f_W_of (a0 : Int32) (a1 : Int32) : Int32 := (if (a0 : Int32) = (0 : Int32) then (f_W_make a1 (0 : Int32)) else (if (a0 : Int32) ≤ (0 : Int32) then (f_W_make (1 : Int32) (-a0)) else a0))
set_option maxHeartbeats 4000000 in
set_option maxRecDepth 100000 in
theorem c_W_of (l : Launch) (a0 : Int32) (a1 : Int32) : Met l y_W_of (.code y_W_of b_W_of 2 (some .int) :: tb) ({ frames := 1, cells := 0, slots := 0, locals := 21 }) (va_Pc [.int a0, .int a1] (fun _ => True)) (vp_Si (fun r => r = f_W_of a0 a1)) 0 0 (fun _ => False) := by
  refine Met.ofW (cc := b_W_of) (maxL := 2) (ret := (some .int)) (by decide) rfl ?_
  intro p e s m args below meth c s₁ B hml hv
  obtain ⟨rfl, -⟩ := hv
  have hx := B.exec
  have hb := B.bytes
  have hr := B.returns
  have hts := atoms_spec (ws := .code y_W_of b_W_of 2 (some .int) :: tb) B.pre
  have hk : ∀ w ∈ tb, w.before [.int a0, .int a1].toArray s = true := fun w h => hts w (List.mem_cons_of_mem _ h)
  have hown : s.vm.findClass "SignMachine$Word" = some m.cls := findClass_of_methodNamed B.named
  have hlocks := B.notSynchronized
  have hl := lv_entry ([.int a0, .int a1]) (n := 2) (Nat.le_of_ble_eq_true rfl)
  rw [lg_entry_eq]
  generalize (lg_sl ([.int a0, .int a1]) ++ List.replicate (2 - (lg_sl ([.int a0, .int a1])).length) Slot.unset).toArray = ls at hl ⊢
  have hl : lv_has ls 2 [(0, .int a0), (1, .int a1)] := hl
  refine lv_iload_n hx hb d_W_of_0 rfl (lv_at hl 0 rfl) ?_
  refine lv_if_ne (tgt := 10) hx hb d_W_of_1 (by decide) (fun c1 => ?_) (fun c1 => ?_)
  · refine lv_iload_n hx hb d_W_of_10 rfl (lv_at hl 0 rfl) ?_
    refine lv_if_le (tgt := 18) hx hb d_W_of_11 (by decide) (fun c2 => ?_) (fun c2 => ?_)
    · refine lv_iconst (v := 1) hx hb d_W_of_18 (by decide) ?_
      refine lv_iload_n hx hb d_W_of_19 rfl (lv_at hl 0 rfl) ?_
      refine lv_ineg hx hb d_W_of_20 ?_
      refine vp_callSi (W.runS (As := [.int (1 : Int32), .int (-a0)]) (rest := []) ⟨hx, hb, hml, hown, hk⟩ (c_W_make l (1 : Int32) (-a0)) (s_W_make hk k_325 ⟨Nat.le_of_ble_eq_true rfl, Nat.le_of_ble_eq_true rfl⟩) ⟨fun a U g mk q => q, fun U hU hW => ⟨rfl, trivial⟩⟩ rfl rfl hl.1 rfl (lv_room (Nat.le_of_ble_eq_true rfl)) d_W_of_21 ⟨Nat.le_of_ble_eq_true rfl, Nat.le_of_ble_eq_true rfl⟩) (fun r0 hr0 => ?_)
      subst hr0
      exact W.iret (v := (f_W_make (1 : Int32) (-a0))) hx hb hr (fun t ht hW => ⟨(f_W_make (1 : Int32) (-a0)), rfl, by rw [f_W_of, if_neg c1, if_pos c2], ht⟩) (fun q h => absurd h List.not_mem_nil) d_W_of_24
    · refine lv_iload_n hx hb d_W_of_14 rfl (lv_at hl 0 rfl) ?_
      refine lv_goto (tgt := 24) hx hb d_W_of_15 (by decide) ?_
      exact W.iret (v := a0) hx hb hr (fun t ht hW => ⟨a0, rfl, by rw [f_W_of, if_neg c1, if_neg c2], ht⟩) (fun q h => absurd h List.not_mem_nil) d_W_of_24
  · refine lv_iload_n hx hb d_W_of_4 rfl (lv_at hl 1 rfl) ?_
    refine lv_iconst (v := 0) hx hb d_W_of_5 (by decide) ?_
    refine vp_callSi (W.runS (As := [.int a1, .int (0 : Int32)]) (rest := []) ⟨hx, hb, hml, hown, hk⟩ (c_W_make l a1 (0 : Int32)) (s_W_make hk k_325 ⟨Nat.le_of_ble_eq_true rfl, Nat.le_of_ble_eq_true rfl⟩) ⟨fun a U g mk q => q, fun U hU hW => ⟨rfl, trivial⟩⟩ rfl rfl hl.1 rfl (lv_room (Nat.le_of_ble_eq_true rfl)) d_W_of_6 ⟨Nat.le_of_ble_eq_true rfl, Nat.le_of_ble_eq_true rfl⟩) (fun r0 hr0 => ?_)
    subst hr0
    exact W.iret (v := (f_W_make a1 (0 : Int32))) hx hb hr (fun t ht hW => ⟨(f_W_make a1 (0 : Int32)), rfl, by rw [f_W_of, if_pos c1], ht⟩) (fun q h => absurd h List.not_mem_nil) d_W_of_9
theorem s_W_of {R : Room} {s : State} {args : Array Value} {own : String} {index : Nat} (hk : ∀ w ∈ tb, w.before args s = true) (hl : Cond.methodLink own index y_W_of ∈ tb) (hR : 1 + 1 ≤ R.frames ∧ 8 + (2 + 11) + 21 ≤ R.locals) : CallB R s args own index y_W_of b_W_of 2 (some .int) (.code y_W_of b_W_of 2 (some .int) :: tb) ({ frames := 1, cells := 0, slots := 0, locals := 21 }) 0 0 2 ∧ (Cond.static y_W_of).before args s = true := mk_s 2 hk k_361 hl k_360 k_120 rfl rfl h_W_of hR
def f_W_opposite (a0 : Int32) : Int32 := (a0 ^^^ (1073741824 : Int32))
set_option maxHeartbeats 4000000 in
set_option maxRecDepth 100000 in
theorem c_W_opposite (l : Launch) (a0 : Int32) : Met l y_W_opposite (.code y_W_opposite b_W_opposite 1 (some .int) :: tb) ({ frames := 0, cells := 0, slots := 0, locals := 0 }) (va_Pc [.int a0] (fun _ => True)) (vp_Si (fun r => r = f_W_opposite a0)) 0 0 (fun _ => False) := by
  refine Met.ofW (cc := b_W_opposite) (maxL := 1) (ret := (some .int)) (by decide) rfl ?_
  intro p e s m args below meth c s₁ B hml hv
  obtain ⟨rfl, -⟩ := hv
  have hx := B.exec
  have hb := B.bytes
  have hr := B.returns
  have hts := atoms_spec (ws := .code y_W_opposite b_W_opposite 1 (some .int) :: tb) B.pre
  have hk : ∀ w ∈ tb, w.before [.int a0].toArray s = true := fun w h => hts w (List.mem_cons_of_mem _ h)
  have hown : s.vm.findClass "SignMachine$Word" = some m.cls := findClass_of_methodNamed B.named
  have hlocks := B.notSynchronized
  have hl := lv_entry ([.int a0]) (n := 1) (Nat.le_of_ble_eq_true rfl)
  rw [lg_entry_eq]
  generalize (lg_sl ([.int a0]) ++ List.replicate (1 - (lg_sl ([.int a0])).length) Slot.unset).toArray = ls at hl ⊢
  have hl : lv_has ls 1 [(0, .int a0)] := hl
  refine lv_iload_n hx hb d_W_opposite_0 rfl (lv_at hl 0 rfl) ?_
  refine lv_ldc (v := 1073741824) hx hb hown (hk _ k_231) d_W_opposite_1 ?_
  refine lv_ixor hx hb d_W_opposite_3 ?_
  exact W.iret (v := (a0 ^^^ (1073741824 : Int32))) hx hb hr (fun t ht hW => ⟨(a0 ^^^ (1073741824 : Int32)), rfl, by rw [f_W_opposite], ht⟩) (fun q h => absurd h List.not_mem_nil) d_W_opposite_4
theorem s_W_opposite {R : Room} {s : State} {args : Array Value} {own : String} {index : Nat} (hk : ∀ w ∈ tb, w.before args s = true) (hl : Cond.methodLink own index y_W_opposite ∈ tb) (hR : 0 + 1 ≤ R.frames ∧ 8 + (1 + 11) + 0 ≤ R.locals) : CallB R s args own index y_W_opposite b_W_opposite 1 (some .int) (.code y_W_opposite b_W_opposite 1 (some .int) :: tb) ({ frames := 0, cells := 0, slots := 0, locals := 0 }) 0 0 1 ∧ (Cond.static y_W_opposite).before args s = true := mk_s 1 hk k_413 hl k_412 k_120 rfl rfl h_W_opposite hR
def f_W_store (a0 : Int32) (a1 : Int32) (a2 : Int32) : Int32 := (if ((a2 >>> ((3 : Int32) &&& (31 : Int32))) : Int32) = (0 : Int32) then (f_W_make (f_W_sign a1) (((f_W_size a0) &&& (((f_W_maskOf a2) <<< ((f_W_bitsBehind a2) &&& (31 : Int32))) ^^^ (-1 : Int32))) ||| ((a1 &&& (f_W_maskOf a2)) <<< ((f_W_bitsBehind a2) &&& (31 : Int32))))) else (f_W_make (f_W_sign a0) (((f_W_size a0) &&& (((f_W_maskOf a2) <<< ((f_W_bitsBehind a2) &&& (31 : Int32))) ^^^ (-1 : Int32))) ||| ((a1 &&& (f_W_maskOf a2)) <<< ((f_W_bitsBehind a2) &&& (31 : Int32))))))
set_option maxHeartbeats 4000000 in
set_option maxRecDepth 100000 in
theorem c_W_store (l : Launch) (a0 : Int32) (a1 : Int32) (a2 : Int32) : Met l y_W_store (.code y_W_store b_W_store 6 (some .int) :: tb) ({ frames := 1, cells := 0, slots := 0, locals := 23 }) (va_Pc [.int a0, .int a1, .int a2] (fun _ => True)) (vp_Si (fun r => r = f_W_store a0 a1 a2)) 0 0 (fun _ => False) := by
  refine Met.ofW (cc := b_W_store) (maxL := 6) (ret := (some .int)) (by decide) rfl ?_
  intro p e s m args below meth c s₁ B hml hv
  obtain ⟨rfl, -⟩ := hv
  have hx := B.exec
  have hb := B.bytes
  have hr := B.returns
  have hts := atoms_spec (ws := .code y_W_store b_W_store 6 (some .int) :: tb) B.pre
  have hk : ∀ w ∈ tb, w.before [.int a0, .int a1, .int a2].toArray s = true := fun w h => hts w (List.mem_cons_of_mem _ h)
  have hown : s.vm.findClass "SignMachine$Word" = some m.cls := findClass_of_methodNamed B.named
  have hlocks := B.notSynchronized
  have hl := lv_entry ([.int a0, .int a1, .int a2]) (n := 6) (Nat.le_of_ble_eq_true rfl)
  rw [lg_entry_eq]
  generalize (lg_sl ([.int a0, .int a1, .int a2]) ++ List.replicate (6 - (lg_sl ([.int a0, .int a1, .int a2])).length) Slot.unset).toArray = ls at hl ⊢
  have hl : lv_has ls 6 [(0, .int a0), (1, .int a1), (2, .int a2)] := hl
  refine lv_iload_n hx hb d_W_store_0 rfl (lv_at hl 2 rfl) ?_
  refine vp_callSi (W.runS (As := [.int a2]) (rest := []) ⟨hx, hb, hml, hown, hk⟩ (c_W_maskOf l a2) (s_W_maskOf hk k_321 ⟨Nat.le_of_ble_eq_true rfl, Nat.le_of_ble_eq_true rfl⟩) ⟨fun a U g mk q => q, fun U hU hW => ⟨rfl, trivial⟩⟩ rfl rfl hl.1 rfl (lv_room (Nat.le_of_ble_eq_true rfl)) d_W_store_1 ⟨Nat.le_of_ble_eq_true rfl, Nat.le_of_ble_eq_true rfl⟩) (fun r0 hr0 => ?_)
  subst hr0
  refine lv_istore_n (lv' := [(3, .int (f_W_maskOf a2)), (0, .int a0), (1, .int a1), (2, .int a2)]) hx hb d_W_store_4 rfl hl (by decide) rfl (fun ls hl => ?_)
  refine lv_iload_n hx hb d_W_store_5 rfl (lv_at hl 3 rfl) ?_
  refine vp_callSi (W.runS (As := [.int a2]) (rest := []) ⟨hx, hb, hml, hown, hk⟩ (c_W_bitsBehind l a2) (s_W_bitsBehind hk k_318 ⟨Nat.le_of_ble_eq_true rfl, Nat.le_of_ble_eq_true rfl⟩) ⟨fun a U g mk q => q, fun U hU hW => ⟨rfl, trivial⟩⟩ rfl rfl hl.1 rfl (lv_room (Nat.le_of_ble_eq_true rfl)) d_W_store_6 ⟨Nat.le_of_ble_eq_true rfl, Nat.le_of_ble_eq_true rfl⟩) (fun r0 hr0 => ?_)
  subst hr0
  refine lv_istore (lv' := [(4, .int (f_W_bitsBehind a2)), (3, .int (f_W_maskOf a2)), (0, .int a0), (1, .int a1), (2, .int a2)]) hx hb d_W_store_9 hl (by decide) rfl (fun ls hl => ?_)
  refine lv_iload_n hx hb d_W_store_11 rfl (lv_at hl 2 rfl) ?_
  refine vp_callSi (W.runS (As := [.int a0]) (rest := []) ⟨hx, hb, hml, hown, hk⟩ (c_W_size l a0) (s_W_size hk k_317 ⟨Nat.le_of_ble_eq_true rfl, Nat.le_of_ble_eq_true rfl⟩) ⟨fun a U g mk q => q, fun U hU hW => ⟨rfl, trivial⟩⟩ rfl rfl hl.1 rfl (lv_room (Nat.le_of_ble_eq_true rfl)) d_W_store_12 ⟨Nat.le_of_ble_eq_true rfl, Nat.le_of_ble_eq_true rfl⟩) (fun r0 hr0 => ?_)
  subst hr0
  refine lv_iload_n hx hb d_W_store_15 rfl (lv_at hl 1 rfl) ?_
  refine lv_iload hx hb d_W_store_16 (lv_at hl 0 rfl) ?_
  refine lv_ishl hx hb d_W_store_18 ?_
  refine lv_iconst (v := (-1)) hx hb d_W_store_19 (by decide) ?_
  refine lv_ixor hx hb d_W_store_20 ?_
  refine lv_iand hx hb d_W_store_21 ?_
  refine lv_iload_n hx hb d_W_store_22 rfl (lv_at hl 3 rfl) ?_
  refine lv_iload_n hx hb d_W_store_23 rfl (lv_at hl 1 rfl) ?_
  refine lv_iand hx hb d_W_store_24 ?_
  refine lv_iload hx hb d_W_store_25 (lv_at hl 0 rfl) ?_
  refine lv_ishl hx hb d_W_store_27 ?_
  refine lv_ior hx hb d_W_store_28 ?_
  refine lv_istore (lv' := [(5, .int (((f_W_size a0) &&& (((f_W_maskOf a2) <<< ((f_W_bitsBehind a2) &&& (31 : Int32))) ^^^ (-1 : Int32))) ||| ((a1 &&& (f_W_maskOf a2)) <<< ((f_W_bitsBehind a2) &&& (31 : Int32))))), (4, .int (f_W_bitsBehind a2)), (3, .int (f_W_maskOf a2)), (0, .int a0), (1, .int a1), (2, .int a2)]) hx hb d_W_store_29 hl (by decide) rfl (fun ls hl => ?_)
  refine lv_iload_n hx hb d_W_store_31 rfl (lv_at hl 5 rfl) ?_
  refine lv_iconst (v := 3) hx hb d_W_store_32 (by decide) ?_
  refine lv_ishr hx hb d_W_store_33 ?_
  refine lv_if_ne (tgt := 44) hx hb d_W_store_34 (by decide) (fun c1 => ?_) (fun c1 => ?_)
  · refine lv_iload_n hx hb d_W_store_44 rfl (lv_at hl 3 rfl) ?_
    refine vp_callSi (W.runS (As := [.int a0]) (rest := []) ⟨hx, hb, hml, hown, hk⟩ (c_W_sign l a0) (s_W_sign hk k_324 ⟨Nat.le_of_ble_eq_true rfl, Nat.le_of_ble_eq_true rfl⟩) ⟨fun a U g mk q => q, fun U hU hW => ⟨rfl, trivial⟩⟩ rfl rfl hl.1 rfl (lv_room (Nat.le_of_ble_eq_true rfl)) d_W_store_45 ⟨Nat.le_of_ble_eq_true rfl, Nat.le_of_ble_eq_true rfl⟩) (fun r0 hr0 => ?_)
    subst hr0
    refine lv_iload hx hb d_W_store_48 (lv_at hl 0 rfl) ?_
    refine vp_callSi (W.runS (As := [.int (f_W_sign a0), .int (((f_W_size a0) &&& (((f_W_maskOf a2) <<< ((f_W_bitsBehind a2) &&& (31 : Int32))) ^^^ (-1 : Int32))) ||| ((a1 &&& (f_W_maskOf a2)) <<< ((f_W_bitsBehind a2) &&& (31 : Int32))))]) (rest := []) ⟨hx, hb, hml, hown, hk⟩ (c_W_make l (f_W_sign a0) (((f_W_size a0) &&& (((f_W_maskOf a2) <<< ((f_W_bitsBehind a2) &&& (31 : Int32))) ^^^ (-1 : Int32))) ||| ((a1 &&& (f_W_maskOf a2)) <<< ((f_W_bitsBehind a2) &&& (31 : Int32))))) (s_W_make hk k_325 ⟨Nat.le_of_ble_eq_true rfl, Nat.le_of_ble_eq_true rfl⟩) ⟨fun a U g mk q => q, fun U hU hW => ⟨rfl, trivial⟩⟩ rfl rfl hl.1 rfl (lv_room (Nat.le_of_ble_eq_true rfl)) d_W_store_50 ⟨Nat.le_of_ble_eq_true rfl, Nat.le_of_ble_eq_true rfl⟩) (fun r0 hr0 => ?_)
    subst hr0
    exact W.iret (v := (f_W_make (f_W_sign a0) (((f_W_size a0) &&& (((f_W_maskOf a2) <<< ((f_W_bitsBehind a2) &&& (31 : Int32))) ^^^ (-1 : Int32))) ||| ((a1 &&& (f_W_maskOf a2)) <<< ((f_W_bitsBehind a2) &&& (31 : Int32)))))) hx hb hr (fun t ht hW => ⟨(f_W_make (f_W_sign a0) (((f_W_size a0) &&& (((f_W_maskOf a2) <<< ((f_W_bitsBehind a2) &&& (31 : Int32))) ^^^ (-1 : Int32))) ||| ((a1 &&& (f_W_maskOf a2)) <<< ((f_W_bitsBehind a2) &&& (31 : Int32))))), rfl, by rw [f_W_store, if_neg c1], ht⟩) (fun q h => absurd h List.not_mem_nil) d_W_store_53
  · refine lv_iload_n hx hb d_W_store_37 rfl (lv_at hl 4 rfl) ?_
    refine vp_callSi (W.runS (As := [.int a1]) (rest := []) ⟨hx, hb, hml, hown, hk⟩ (c_W_sign l a1) (s_W_sign hk k_324 ⟨Nat.le_of_ble_eq_true rfl, Nat.le_of_ble_eq_true rfl⟩) ⟨fun a U g mk q => q, fun U hU hW => ⟨rfl, trivial⟩⟩ rfl rfl hl.1 rfl (lv_room (Nat.le_of_ble_eq_true rfl)) d_W_store_38 ⟨Nat.le_of_ble_eq_true rfl, Nat.le_of_ble_eq_true rfl⟩) (fun r0 hr0 => ?_)
    subst hr0
    refine lv_goto (tgt := 48) hx hb d_W_store_41 (by decide) ?_
    refine lv_iload hx hb d_W_store_48 (lv_at hl 0 rfl) ?_
    refine vp_callSi (W.runS (As := [.int (f_W_sign a1), .int (((f_W_size a0) &&& (((f_W_maskOf a2) <<< ((f_W_bitsBehind a2) &&& (31 : Int32))) ^^^ (-1 : Int32))) ||| ((a1 &&& (f_W_maskOf a2)) <<< ((f_W_bitsBehind a2) &&& (31 : Int32))))]) (rest := []) ⟨hx, hb, hml, hown, hk⟩ (c_W_make l (f_W_sign a1) (((f_W_size a0) &&& (((f_W_maskOf a2) <<< ((f_W_bitsBehind a2) &&& (31 : Int32))) ^^^ (-1 : Int32))) ||| ((a1 &&& (f_W_maskOf a2)) <<< ((f_W_bitsBehind a2) &&& (31 : Int32))))) (s_W_make hk k_325 ⟨Nat.le_of_ble_eq_true rfl, Nat.le_of_ble_eq_true rfl⟩) ⟨fun a U g mk q => q, fun U hU hW => ⟨rfl, trivial⟩⟩ rfl rfl hl.1 rfl (lv_room (Nat.le_of_ble_eq_true rfl)) d_W_store_50 ⟨Nat.le_of_ble_eq_true rfl, Nat.le_of_ble_eq_true rfl⟩) (fun r0 hr0 => ?_)
    subst hr0
    exact W.iret (v := (f_W_make (f_W_sign a1) (((f_W_size a0) &&& (((f_W_maskOf a2) <<< ((f_W_bitsBehind a2) &&& (31 : Int32))) ^^^ (-1 : Int32))) ||| ((a1 &&& (f_W_maskOf a2)) <<< ((f_W_bitsBehind a2) &&& (31 : Int32)))))) hx hb hr (fun t ht hW => ⟨(f_W_make (f_W_sign a1) (((f_W_size a0) &&& (((f_W_maskOf a2) <<< ((f_W_bitsBehind a2) &&& (31 : Int32))) ^^^ (-1 : Int32))) ||| ((a1 &&& (f_W_maskOf a2)) <<< ((f_W_bitsBehind a2) &&& (31 : Int32))))), rfl, by rw [f_W_store, if_pos c1], ht⟩) (fun q h => absurd h List.not_mem_nil) d_W_store_53
theorem s_W_store {R : Room} {s : State} {args : Array Value} {own : String} {index : Nat} (hk : ∀ w ∈ tb, w.before args s = true) (hl : Cond.methodLink own index y_W_store ∈ tb) (hR : 1 + 1 ≤ R.frames ∧ 8 + (6 + 11) + 23 ≤ R.locals) : CallB R s args own index y_W_store b_W_store 6 (some .int) (.code y_W_store b_W_store 6 (some .int) :: tb) ({ frames := 1, cells := 0, slots := 0, locals := 23 }) 0 0 3 ∧ (Cond.static y_W_store).before args s = true := mk_s 3 hk k_420 hl k_419 k_120 rfl rfl h_W_store hR
def f_A_addressPart (a0 : Int32) : Int32 := (if (0 : Int32) ≤ (a0 : Int32) then (f_W_make (0 : Int32) (((if 0 ≤ a0 then a0 else 0 - a0) &&& (4095 : Int32)) <<< ((18 : Int32) &&& (31 : Int32)))) else (f_W_make (1 : Int32) (((if 0 ≤ a0 then a0 else 0 - a0) &&& (4095 : Int32)) <<< ((18 : Int32) &&& (31 : Int32)))))
set_option maxHeartbeats 4000000 in
set_option maxRecDepth 100000 in
theorem c_A_addressPart (l : Launch) (a0 : Int32) : Met l y_A_addressPart (.code y_A_addressPart b_A_addressPart 1 (some .int) :: tb) ({ frames := 1, cells := 0, slots := 0, locals := 21 }) (va_Pc [.int a0] (fun _ => True)) (vp_Si (fun r => r = f_A_addressPart a0)) 0 0 (fun _ => False) := by
  refine Met.ofW (cc := b_A_addressPart) (maxL := 1) (ret := (some .int)) (by decide) rfl ?_
  intro p e s m args below meth c s₁ B hml hv
  obtain ⟨rfl, -⟩ := hv
  have hx := B.exec
  have hb := B.bytes
  have hr := B.returns
  have hts := atoms_spec (ws := .code y_A_addressPart b_A_addressPart 1 (some .int) :: tb) B.pre
  have hk : ∀ w ∈ tb, w.before [.int a0].toArray s = true := fun w h => hts w (List.mem_cons_of_mem _ h)
  have hown : s.vm.findClass "SignMachine$Assembler" = some m.cls := findClass_of_methodNamed B.named
  have hlocks := B.notSynchronized
  have hl := lv_entry ([.int a0]) (n := 1) (Nat.le_of_ble_eq_true rfl)
  rw [lg_entry_eq]
  generalize (lg_sl ([.int a0]) ++ List.replicate (1 - (lg_sl ([.int a0])).length) Slot.unset).toArray = ls at hl ⊢
  have hl : lv_has ls 1 [(0, .int a0)] := hl
  refine lv_iload_n hx hb d_A_addressPart_0 rfl (lv_at hl 0 rfl) ?_
  refine lv_if_ge (tgt := 8) hx hb d_A_addressPart_1 (by decide) (fun c1 => ?_) (fun c1 => ?_)
  · refine lv_iconst (v := 0) hx hb d_A_addressPart_8 (by decide) ?_
    refine lv_iload_n hx hb d_A_addressPart_9 rfl (lv_at hl 0 rfl) ?_
    refine va_mabs hx hb (hml.trans hl.1.symm) hown (hk _ k_1048) (hk _ k_331) (hk _ k_121) (hk _ k_absc) (Nat.le_of_ble_eq_true rfl) (Nat.le_of_ble_eq_true rfl) (Nat.zero_le _) (Nat.zero_le _) d_A_addressPart_10 ?_
    refine lv_sipush (v := 4095) hx hb d_A_addressPart_13 (by decide) ?_
    refine lv_iand hx hb d_A_addressPart_16 ?_
    refine lv_bipush (v := 18) hx hb d_A_addressPart_17 (by decide) ?_
    refine lv_ishl hx hb d_A_addressPart_19 ?_
    refine vp_callSi (W.runS (As := [.int (0 : Int32), .int (((if 0 ≤ a0 then a0 else 0 - a0) &&& (4095 : Int32)) <<< ((18 : Int32) &&& (31 : Int32)))]) (rest := []) ⟨hx, hb, hml, hown, hk⟩ (c_W_make l (0 : Int32) (((if 0 ≤ a0 then a0 else 0 - a0) &&& (4095 : Int32)) <<< ((18 : Int32) &&& (31 : Int32)))) (s_W_make hk k_1052 ⟨Nat.le_of_ble_eq_true rfl, Nat.le_of_ble_eq_true rfl⟩) ⟨fun a U g mk q => q, fun U hU hW => ⟨rfl, trivial⟩⟩ rfl rfl hl.1 rfl (lv_room (Nat.le_of_ble_eq_true rfl)) d_A_addressPart_20 ⟨Nat.le_of_ble_eq_true rfl, Nat.le_of_ble_eq_true rfl⟩) (fun r0 hr0 => ?_)
    subst hr0
    exact W.iret (v := (f_W_make (0 : Int32) (((if 0 ≤ a0 then a0 else 0 - a0) &&& (4095 : Int32)) <<< ((18 : Int32) &&& (31 : Int32))))) hx hb hr (fun t ht hW => ⟨(f_W_make (0 : Int32) (((if 0 ≤ a0 then a0 else 0 - a0) &&& (4095 : Int32)) <<< ((18 : Int32) &&& (31 : Int32)))), rfl, by rw [f_A_addressPart, if_pos c1], ht⟩) (fun q h => absurd h List.not_mem_nil) d_A_addressPart_23
  · refine lv_iconst (v := 1) hx hb d_A_addressPart_4 (by decide) ?_
    refine lv_goto (tgt := 9) hx hb d_A_addressPart_5 (by decide) ?_
    refine lv_iload_n hx hb d_A_addressPart_9 rfl (lv_at hl 0 rfl) ?_
    refine va_mabs hx hb (hml.trans hl.1.symm) hown (hk _ k_1048) (hk _ k_331) (hk _ k_121) (hk _ k_absc) (Nat.le_of_ble_eq_true rfl) (Nat.le_of_ble_eq_true rfl) (Nat.zero_le _) (Nat.zero_le _) d_A_addressPart_10 ?_
    refine lv_sipush (v := 4095) hx hb d_A_addressPart_13 (by decide) ?_
    refine lv_iand hx hb d_A_addressPart_16 ?_
    refine lv_bipush (v := 18) hx hb d_A_addressPart_17 (by decide) ?_
    refine lv_ishl hx hb d_A_addressPart_19 ?_
    refine vp_callSi (W.runS (As := [.int (1 : Int32), .int (((if 0 ≤ a0 then a0 else 0 - a0) &&& (4095 : Int32)) <<< ((18 : Int32) &&& (31 : Int32)))]) (rest := []) ⟨hx, hb, hml, hown, hk⟩ (c_W_make l (1 : Int32) (((if 0 ≤ a0 then a0 else 0 - a0) &&& (4095 : Int32)) <<< ((18 : Int32) &&& (31 : Int32)))) (s_W_make hk k_1052 ⟨Nat.le_of_ble_eq_true rfl, Nat.le_of_ble_eq_true rfl⟩) ⟨fun a U g mk q => q, fun U hU hW => ⟨rfl, trivial⟩⟩ rfl rfl hl.1 rfl (lv_room (Nat.le_of_ble_eq_true rfl)) d_A_addressPart_20 ⟨Nat.le_of_ble_eq_true rfl, Nat.le_of_ble_eq_true rfl⟩) (fun r0 hr0 => ?_)
    subst hr0
    exact W.iret (v := (f_W_make (1 : Int32) (((if 0 ≤ a0 then a0 else 0 - a0) &&& (4095 : Int32)) <<< ((18 : Int32) &&& (31 : Int32))))) hx hb hr (fun t ht hW => ⟨(f_W_make (1 : Int32) (((if 0 ≤ a0 then a0 else 0 - a0) &&& (4095 : Int32)) <<< ((18 : Int32) &&& (31 : Int32)))), rfl, by rw [f_A_addressPart, if_neg c1], ht⟩) (fun q h => absurd h List.not_mem_nil) d_A_addressPart_23
theorem s_A_addressPart {R : Room} {s : State} {args : Array Value} {own : String} {index : Nat} (hk : ∀ w ∈ tb, w.before args s = true) (hl : Cond.methodLink own index y_A_addressPart ∈ tb) (hR : 1 + 1 ≤ R.frames ∧ 8 + (1 + 11) + 21 ≤ R.locals) : CallB R s args own index y_A_addressPart b_A_addressPart 1 (some .int) (.code y_A_addressPart b_A_addressPart 1 (some .int) :: tb) ({ frames := 1, cells := 0, slots := 0, locals := 21 }) 0 0 1 ∧ (Cond.static y_A_addressPart).before args s = true := mk_s 1 hk k_1051 hl k_1050 k_123 rfl rfl h_A_addressPart hR
def f_N_codeOf (a0 : Int32) : Int32 := (if a0 < (65 : Int32) then (if a0 < (48 : Int32) then (0 : Int32) else (if (57 : Int32) < a0 then (0 : Int32) else ((a0 - (48 : Int32)) + (27 : Int32)))) else (if (90 : Int32) < a0 then (if a0 < (48 : Int32) then (0 : Int32) else (if (57 : Int32) < a0 then (0 : Int32) else ((a0 - (48 : Int32)) + (27 : Int32)))) else ((a0 - (65 : Int32)) + (1 : Int32))))
set_option maxHeartbeats 4000000 in
set_option maxRecDepth 100000 in
theorem c_N_codeOf (l : Launch) (a0 : Int32) : Met l y_N_codeOf (.code y_N_codeOf b_N_codeOf 1 (some .int) :: tb) ({ frames := 0, cells := 0, slots := 0, locals := 0 }) (va_Pc [.int a0] (fun _ => True)) (vp_Si (fun r => r = f_N_codeOf a0)) 0 0 (fun _ => False) := by
  refine Met.ofW (cc := b_N_codeOf) (maxL := 1) (ret := (some .int)) (by decide) rfl ?_
  intro p e s m args below meth c s₁ B hml hv
  obtain ⟨rfl, -⟩ := hv
  have hx := B.exec
  have hb := B.bytes
  have hr := B.returns
  have hts := atoms_spec (ws := .code y_N_codeOf b_N_codeOf 1 (some .int) :: tb) B.pre
  have hk : ∀ w ∈ tb, w.before [.int a0].toArray s = true := fun w h => hts w (List.mem_cons_of_mem _ h)
  have hown : s.vm.findClass "SignMachine$Names" = some m.cls := findClass_of_methodNamed B.named
  have hlocks := B.notSynchronized
  have hl := lv_entry ([.int a0]) (n := 1) (Nat.le_of_ble_eq_true rfl)
  rw [lg_entry_eq]
  generalize (lg_sl ([.int a0]) ++ List.replicate (1 - (lg_sl ([.int a0])).length) Slot.unset).toArray = ls at hl ⊢
  have hl : lv_has ls 1 [(0, .int a0)] := hl
  refine lv_iload_n hx hb d_N_codeOf_0 rfl (lv_at hl 0 rfl) ?_
  refine lv_bipush (v := 65) hx hb d_N_codeOf_1 (by decide) ?_
  refine lv_icmp_lt (tgt := 19) hx hb d_N_codeOf_3 (by decide) (fun c1 => ?_) (fun c1 => ?_)
  · refine lv_iload_n hx hb d_N_codeOf_19 rfl (lv_at hl 0 rfl) ?_
    refine lv_bipush (v := 48) hx hb d_N_codeOf_20 (by decide) ?_
    refine lv_icmp_lt (tgt := 41) hx hb d_N_codeOf_22 (by decide) (fun c2 => ?_) (fun c2 => ?_)
    · refine lv_iconst (v := 0) hx hb d_N_codeOf_41 (by decide) ?_
      exact W.iret (v := (0 : Int32)) hx hb hr (fun t ht hW => ⟨(0 : Int32), rfl, by rw [f_N_codeOf, if_pos c1, if_pos c2], ht⟩) (fun q h => absurd h List.not_mem_nil) d_N_codeOf_42
    · refine lv_iload_n hx hb d_N_codeOf_25 rfl (lv_at hl 0 rfl) ?_
      refine lv_bipush (v := 57) hx hb d_N_codeOf_26 (by decide) ?_
      refine lv_icmp_gt (tgt := 41) hx hb d_N_codeOf_28 (by decide) (fun c3 => ?_) (fun c3 => ?_)
      · refine lv_iconst (v := 0) hx hb d_N_codeOf_41 (by decide) ?_
        exact W.iret (v := (0 : Int32)) hx hb hr (fun t ht hW => ⟨(0 : Int32), rfl, by rw [f_N_codeOf, if_pos c1, if_neg c2, if_pos c3], ht⟩) (fun q h => absurd h List.not_mem_nil) d_N_codeOf_42
      · refine lv_iload_n hx hb d_N_codeOf_31 rfl (lv_at hl 0 rfl) ?_
        refine lv_bipush (v := 48) hx hb d_N_codeOf_32 (by decide) ?_
        refine lv_isub hx hb d_N_codeOf_34 ?_
        refine lv_bipush (v := 27) hx hb d_N_codeOf_35 (by decide) ?_
        refine lv_iadd hx hb d_N_codeOf_37 ?_
        refine lv_goto (tgt := 42) hx hb d_N_codeOf_38 (by decide) ?_
        exact W.iret (v := ((a0 - (48 : Int32)) + (27 : Int32))) hx hb hr (fun t ht hW => ⟨((a0 - (48 : Int32)) + (27 : Int32)), rfl, by rw [f_N_codeOf, if_pos c1, if_neg c2, if_neg c3], ht⟩) (fun q h => absurd h List.not_mem_nil) d_N_codeOf_42
  · refine lv_iload_n hx hb d_N_codeOf_6 rfl (lv_at hl 0 rfl) ?_
    refine lv_bipush (v := 90) hx hb d_N_codeOf_7 (by decide) ?_
    refine lv_icmp_gt (tgt := 19) hx hb d_N_codeOf_9 (by decide) (fun c4 => ?_) (fun c4 => ?_)
    · refine lv_iload_n hx hb d_N_codeOf_19 rfl (lv_at hl 0 rfl) ?_
      refine lv_bipush (v := 48) hx hb d_N_codeOf_20 (by decide) ?_
      refine lv_icmp_lt (tgt := 41) hx hb d_N_codeOf_22 (by decide) (fun c5 => ?_) (fun c5 => ?_)
      · refine lv_iconst (v := 0) hx hb d_N_codeOf_41 (by decide) ?_
        exact W.iret (v := (0 : Int32)) hx hb hr (fun t ht hW => ⟨(0 : Int32), rfl, by rw [f_N_codeOf, if_neg c1, if_pos c4, if_pos c5], ht⟩) (fun q h => absurd h List.not_mem_nil) d_N_codeOf_42
      · refine lv_iload_n hx hb d_N_codeOf_25 rfl (lv_at hl 0 rfl) ?_
        refine lv_bipush (v := 57) hx hb d_N_codeOf_26 (by decide) ?_
        refine lv_icmp_gt (tgt := 41) hx hb d_N_codeOf_28 (by decide) (fun c6 => ?_) (fun c6 => ?_)
        · refine lv_iconst (v := 0) hx hb d_N_codeOf_41 (by decide) ?_
          exact W.iret (v := (0 : Int32)) hx hb hr (fun t ht hW => ⟨(0 : Int32), rfl, by rw [f_N_codeOf, if_neg c1, if_pos c4, if_neg c5, if_pos c6], ht⟩) (fun q h => absurd h List.not_mem_nil) d_N_codeOf_42
        · refine lv_iload_n hx hb d_N_codeOf_31 rfl (lv_at hl 0 rfl) ?_
          refine lv_bipush (v := 48) hx hb d_N_codeOf_32 (by decide) ?_
          refine lv_isub hx hb d_N_codeOf_34 ?_
          refine lv_bipush (v := 27) hx hb d_N_codeOf_35 (by decide) ?_
          refine lv_iadd hx hb d_N_codeOf_37 ?_
          refine lv_goto (tgt := 42) hx hb d_N_codeOf_38 (by decide) ?_
          exact W.iret (v := ((a0 - (48 : Int32)) + (27 : Int32))) hx hb hr (fun t ht hW => ⟨((a0 - (48 : Int32)) + (27 : Int32)), rfl, by rw [f_N_codeOf, if_neg c1, if_pos c4, if_neg c5, if_neg c6], ht⟩) (fun q h => absurd h List.not_mem_nil) d_N_codeOf_42
    · refine lv_iload_n hx hb d_N_codeOf_12 rfl (lv_at hl 0 rfl) ?_
      refine lv_bipush (v := 65) hx hb d_N_codeOf_13 (by decide) ?_
      refine lv_isub hx hb d_N_codeOf_15 ?_
      refine lv_iconst (v := 1) hx hb d_N_codeOf_16 (by decide) ?_
      refine lv_iadd hx hb d_N_codeOf_17 ?_
      exact W.iret (v := ((a0 - (65 : Int32)) + (1 : Int32))) hx hb hr (fun t ht hW => ⟨((a0 - (65 : Int32)) + (1 : Int32)), rfl, by rw [f_N_codeOf, if_neg c1, if_neg c4], ht⟩) (fun q h => absurd h List.not_mem_nil) d_N_codeOf_18
theorem s_N_codeOf {R : Room} {s : State} {args : Array Value} {own : String} {index : Nat} (hk : ∀ w ∈ tb, w.before args s = true) (hl : Cond.methodLink own index y_N_codeOf ∈ tb) (hR : 0 + 1 ≤ R.frames ∧ 8 + (1 + 11) + 0 ≤ R.locals) : CallB R s args own index y_N_codeOf b_N_codeOf 1 (some .int) (.code y_N_codeOf b_N_codeOf 1 (some .int) :: tb) ({ frames := 0, cells := 0, slots := 0, locals := 0 }) 0 0 1 ∧ (Cond.static y_N_codeOf).before args s = true := mk_s 1 hk k_758 hl k_757 k_125 rfl rfl h_N_codeOf hR
def f_N_isLetter (a0 : Int32) : Bool := (if (a0 : Int32) ≤ (0 : Int32) then false else (if (27 : Int32) ≤ a0 then false else true))
set_option maxHeartbeats 4000000 in
set_option maxRecDepth 100000 in
theorem c_N_isLetter (l : Launch) (a0 : Int32) : Met l y_N_isLetter (.code y_N_isLetter b_N_isLetter 1 (some .boolean) :: tb) ({ frames := 0, cells := 0, slots := 0, locals := 0 }) (va_Pc [.int a0] (fun _ => True)) (vp_Si (fun r => r = bI (f_N_isLetter a0))) 0 0 (fun _ => False) := by
  refine Met.ofW (cc := b_N_isLetter) (maxL := 1) (ret := (some .boolean)) (by decide) rfl ?_
  intro p e s m args below meth c s₁ B hml hv
  obtain ⟨rfl, -⟩ := hv
  have hx := B.exec
  have hb := B.bytes
  have hr := B.returns
  have hts := atoms_spec (ws := .code y_N_isLetter b_N_isLetter 1 (some .boolean) :: tb) B.pre
  have hk : ∀ w ∈ tb, w.before [.int a0].toArray s = true := fun w h => hts w (List.mem_cons_of_mem _ h)
  have hown : s.vm.findClass "SignMachine$Names" = some m.cls := findClass_of_methodNamed B.named
  have hlocks := B.notSynchronized
  have hl := lv_entry ([.int a0]) (n := 1) (Nat.le_of_ble_eq_true rfl)
  rw [lg_entry_eq]
  generalize (lg_sl ([.int a0]) ++ List.replicate (1 - (lg_sl ([.int a0])).length) Slot.unset).toArray = ls at hl ⊢
  have hl : lv_has ls 1 [(0, .int a0)] := hl
  refine lv_iload_n hx hb d_N_isLetter_0 rfl (lv_at hl 0 rfl) ?_
  refine lv_if_le (tgt := 14) hx hb d_N_isLetter_1 (by decide) (fun c1 => ?_) (fun c1 => ?_)
  · refine lv_iconst (v := 0) hx hb d_N_isLetter_14 (by decide) ?_
    exact W.zret (v := (0 : Int32)) hx hb hr rfl (fun t ht hW => ⟨(0 : Int32), rfl, by rw [f_N_isLetter, if_pos c1]; rfl, ht⟩) (fun q h => absurd h List.not_mem_nil) d_N_isLetter_15
  · refine lv_iload_n hx hb d_N_isLetter_4 rfl (lv_at hl 0 rfl) ?_
    refine lv_bipush (v := 27) hx hb d_N_isLetter_5 (by decide) ?_
    refine lv_icmp_ge (tgt := 14) hx hb d_N_isLetter_7 (by decide) (fun c2 => ?_) (fun c2 => ?_)
    · refine lv_iconst (v := 0) hx hb d_N_isLetter_14 (by decide) ?_
      exact W.zret (v := (0 : Int32)) hx hb hr rfl (fun t ht hW => ⟨(0 : Int32), rfl, by rw [f_N_isLetter, if_neg c1, if_pos c2]; rfl, ht⟩) (fun q h => absurd h List.not_mem_nil) d_N_isLetter_15
    · refine lv_iconst (v := 1) hx hb d_N_isLetter_10 (by decide) ?_
      refine lv_goto (tgt := 15) hx hb d_N_isLetter_11 (by decide) ?_
      exact W.zret (v := (1 : Int32)) hx hb hr rfl (fun t ht hW => ⟨(1 : Int32), rfl, by rw [f_N_isLetter, if_neg c1, if_neg c2]; rfl, ht⟩) (fun q h => absurd h List.not_mem_nil) d_N_isLetter_15
theorem s_N_isLetter {R : Room} {s : State} {args : Array Value} {own : String} {index : Nat} (hk : ∀ w ∈ tb, w.before args s = true) (hl : Cond.methodLink own index y_N_isLetter ∈ tb) (hR : 0 + 1 ≤ R.frames ∧ 8 + (1 + 11) + 0 ≤ R.locals) : CallB R s args own index y_N_isLetter b_N_isLetter 1 (some .boolean) (.code y_N_isLetter b_N_isLetter 1 (some .boolean) :: tb) ({ frames := 0, cells := 0, slots := 0, locals := 0 }) 0 0 1 ∧ (Cond.static y_N_isLetter).before args s = true := mk_s 1 hk k_761 hl k_760 k_125 rfl rfl h_N_isLetter hR
def f_N_digitOf (a0 : Int32) : Int32 := (a0 - (27 : Int32))
set_option maxHeartbeats 4000000 in
set_option maxRecDepth 100000 in
theorem c_N_digitOf (l : Launch) (a0 : Int32) : Met l y_N_digitOf (.code y_N_digitOf b_N_digitOf 1 (some .int) :: tb) ({ frames := 0, cells := 0, slots := 0, locals := 0 }) (va_Pc [.int a0] (fun _ => True)) (vp_Si (fun r => r = f_N_digitOf a0)) 0 0 (fun _ => False) := by
  refine Met.ofW (cc := b_N_digitOf) (maxL := 1) (ret := (some .int)) (by decide) rfl ?_
  intro p e s m args below meth c s₁ B hml hv
  obtain ⟨rfl, -⟩ := hv
  have hx := B.exec
  have hb := B.bytes
  have hr := B.returns
  have hts := atoms_spec (ws := .code y_N_digitOf b_N_digitOf 1 (some .int) :: tb) B.pre
  have hk : ∀ w ∈ tb, w.before [.int a0].toArray s = true := fun w h => hts w (List.mem_cons_of_mem _ h)
  have hown : s.vm.findClass "SignMachine$Names" = some m.cls := findClass_of_methodNamed B.named
  have hlocks := B.notSynchronized
  have hl := lv_entry ([.int a0]) (n := 1) (Nat.le_of_ble_eq_true rfl)
  rw [lg_entry_eq]
  generalize (lg_sl ([.int a0]) ++ List.replicate (1 - (lg_sl ([.int a0])).length) Slot.unset).toArray = ls at hl ⊢
  have hl : lv_has ls 1 [(0, .int a0)] := hl
  refine lv_iload_n hx hb d_N_digitOf_0 rfl (lv_at hl 0 rfl) ?_
  refine lv_bipush (v := 27) hx hb d_N_digitOf_1 (by decide) ?_
  refine lv_isub hx hb d_N_digitOf_3 ?_
  exact W.iret (v := (a0 - (27 : Int32))) hx hb hr (fun t ht hW => ⟨(a0 - (27 : Int32)), rfl, by rw [f_N_digitOf], ht⟩) (fun q h => absurd h List.not_mem_nil) d_N_digitOf_4
theorem s_N_digitOf {R : Room} {s : State} {args : Array Value} {own : String} {index : Nat} (hk : ∀ w ∈ tb, w.before args s = true) (hl : Cond.methodLink own index y_N_digitOf ∈ tb) (hR : 0 + 1 ≤ R.frames ∧ 8 + (1 + 11) + 0 ≤ R.locals) : CallB R s args own index y_N_digitOf b_N_digitOf 1 (some .int) (.code y_N_digitOf b_N_digitOf 1 (some .int) :: tb) ({ frames := 0, cells := 0, slots := 0, locals := 0 }) 0 0 1 ∧ (Cond.static y_N_digitOf).before args s = true := mk_s 1 hk k_765 hl k_764 k_125 rfl rfl h_N_digitOf hR
def f_N_localDigit (a0 : Int64) (a1 : Int32) : Int32 := (if ((lg_cmp (a0 &&& (63 : Int64)) (a1 : Int32).toInt64) : Int32) = (0 : Int32) then (if ((lg_cmp ((a0 >>> (((6 : Int32) : Int32).toInt64 &&& 63)) - (27 : Int64)) (0 : Int64)) : Int32) < (0 : Int32) then (if ((0 : Int32) : Int32) = (0 : Int32) then (-2 : Int32) else (((a0 >>> (((6 : Int32) : Int32).toInt64 &&& 63)) - (27 : Int64)) : Int64).toInt32) else (if (0 : Int32) ≤ ((lg_cmp ((a0 >>> (((6 : Int32) : Int32).toInt64 &&& 63)) - (27 : Int64)) (10 : Int64)) : Int32) then (if ((0 : Int32) : Int32) = (0 : Int32) then (-2 : Int32) else (((a0 >>> (((6 : Int32) : Int32).toInt64 &&& 63)) - (27 : Int64)) : Int64).toInt32) else (if ((1 : Int32) : Int32) = (0 : Int32) then (-2 : Int32) else (((a0 >>> (((6 : Int32) : Int32).toInt64 &&& 63)) - (27 : Int64)) : Int64).toInt32))) else (if ((0 : Int32) : Int32) = (0 : Int32) then (-2 : Int32) else (((a0 >>> (((6 : Int32) : Int32).toInt64 &&& 63)) - (27 : Int64)) : Int64).toInt32))
set_option maxHeartbeats 4000000 in
set_option maxRecDepth 100000 in
theorem c_N_localDigit (l : Launch) (a0 : Int64) (a1 : Int32) : Met l y_N_localDigit (.code y_N_localDigit b_N_localDigit 6 (some .int) :: tb) ({ frames := 0, cells := 0, slots := 0, locals := 0 }) (va_Pc [.long a0, .int a1] (fun _ => True)) (vp_Si (fun r => r = f_N_localDigit a0 a1)) 0 0 (fun _ => False) := by
  refine Met.ofW (cc := b_N_localDigit) (maxL := 6) (ret := (some .int)) (by decide) rfl ?_
  intro p e s m args below meth c s₁ B hml hv
  obtain ⟨rfl, -⟩ := hv
  have hx := B.exec
  have hb := B.bytes
  have hr := B.returns
  have hts := atoms_spec (ws := .code y_N_localDigit b_N_localDigit 6 (some .int) :: tb) B.pre
  have hk : ∀ w ∈ tb, w.before [.long a0, .int a1].toArray s = true := fun w h => hts w (List.mem_cons_of_mem _ h)
  have hown : s.vm.findClass "SignMachine$Names" = some m.cls := findClass_of_methodNamed B.named
  have hlocks := B.notSynchronized
  have hl := lv_entry ([.long a0, .int a1]) (n := 6) (Nat.le_of_ble_eq_true rfl)
  rw [lg_entry_eq]
  generalize (lg_sl ([.long a0, .int a1]) ++ List.replicate (6 - (lg_sl ([.long a0, .int a1])).length) Slot.unset).toArray = ls at hl ⊢
  have hl : lv_has ls 6 [(0, .long a0), (2, .int a1)] := hl
  refine lv_lload_n hx hb d_N_localDigit_0 rfl (lv_at hl 0 rfl) ?_
  refine lv_bipush (v := 6) hx hb d_N_localDigit_1 (by decide) ?_
  refine lv_lshr (v := (a0 >>> (((6 : Int32) : Int32).toInt64 &&& 63))) hx hb d_N_localDigit_3 rfl ?_
  refine lv_ldc2 (v := 27) hx hb hown (hk _ k_774) d_N_localDigit_4 ?_
  refine lv_lsub hx hb d_N_localDigit_7 ?_
  refine lv_lstore_n (lv' := [(3, .long ((a0 >>> (((6 : Int32) : Int32).toInt64 &&& 63)) - (27 : Int64))), (0, .long a0), (2, .int a1)]) hx hb d_N_localDigit_8 rfl hl (by decide) rfl (fun ls hl => ?_)
  refine lv_lload_n hx hb d_N_localDigit_9 rfl (lv_at hl 1 rfl) ?_
  refine lv_ldc2 (v := 63) hx hb hown (hk _ k_775) d_N_localDigit_10 ?_
  refine lv_land hx hb d_N_localDigit_13 ?_
  refine lv_iload_n hx hb d_N_localDigit_14 rfl (lv_at hl 2 rfl) ?_
  refine lv_i2l (v := (a1 : Int32).toInt64) hx hb d_N_localDigit_15 rfl ?_
  refine W.lcmp hx hb d_N_localDigit_16 ?_
  refine lv_if_ne (tgt := 38) hx hb d_N_localDigit_17 (by decide) (fun c1 => ?_) (fun c1 => ?_)
  · refine lv_iconst (v := 0) hx hb d_N_localDigit_38 (by decide) ?_
    refine lv_istore (lv' := [(5, .int (0 : Int32)), (3, .long ((a0 >>> (((6 : Int32) : Int32).toInt64 &&& 63)) - (27 : Int64))), (0, .long a0), (2, .int a1)]) hx hb d_N_localDigit_39 hl (by decide) rfl (fun ls hl => ?_)
    refine lv_iload hx hb d_N_localDigit_41 (lv_at hl 0 rfl) ?_
    refine lv_if_eq (tgt := 51) hx hb d_N_localDigit_43 (by decide) (fun c2 => ?_) (fun c2 => ?_)
    · refine lv_bipush (v := (-2)) hx hb d_N_localDigit_51 (by decide) ?_
      exact W.iret (v := (-2 : Int32)) hx hb hr (fun t ht hW => ⟨(-2 : Int32), rfl, by rw [f_N_localDigit, if_neg c1, if_pos c2], ht⟩) (fun q h => absurd h List.not_mem_nil) d_N_localDigit_53
    · refine lv_lload_n hx hb d_N_localDigit_46 rfl (lv_at hl 1 rfl) ?_
      refine lv_l2i (v := (((a0 >>> (((6 : Int32) : Int32).toInt64 &&& 63)) - (27 : Int64)) : Int64).toInt32) hx hb d_N_localDigit_47 rfl ?_
      refine lv_goto (tgt := 53) hx hb d_N_localDigit_48 (by decide) ?_
      exact W.iret (v := (((a0 >>> (((6 : Int32) : Int32).toInt64 &&& 63)) - (27 : Int64)) : Int64).toInt32) hx hb hr (fun t ht hW => ⟨(((a0 >>> (((6 : Int32) : Int32).toInt64 &&& 63)) - (27 : Int64)) : Int64).toInt32, rfl, by rw [f_N_localDigit, if_neg c1, if_neg c2], ht⟩) (fun q h => absurd h List.not_mem_nil) d_N_localDigit_53
  · refine lv_lload_n hx hb d_N_localDigit_20 rfl (lv_at hl 0 rfl) ?_
    refine lv_lconst (v := 0) hx hb d_N_localDigit_21 (by decide) ?_
    refine W.lcmp hx hb d_N_localDigit_22 ?_
    refine lv_if_lt (tgt := 38) hx hb d_N_localDigit_23 (by decide) (fun c3 => ?_) (fun c3 => ?_)
    · refine lv_iconst (v := 0) hx hb d_N_localDigit_38 (by decide) ?_
      refine lv_istore (lv' := [(5, .int (0 : Int32)), (3, .long ((a0 >>> (((6 : Int32) : Int32).toInt64 &&& 63)) - (27 : Int64))), (0, .long a0), (2, .int a1)]) hx hb d_N_localDigit_39 hl (by decide) rfl (fun ls hl => ?_)
      refine lv_iload hx hb d_N_localDigit_41 (lv_at hl 0 rfl) ?_
      refine lv_if_eq (tgt := 51) hx hb d_N_localDigit_43 (by decide) (fun c4 => ?_) (fun c4 => ?_)
      · refine lv_bipush (v := (-2)) hx hb d_N_localDigit_51 (by decide) ?_
        exact W.iret (v := (-2 : Int32)) hx hb hr (fun t ht hW => ⟨(-2 : Int32), rfl, by rw [f_N_localDigit, if_pos c1, if_pos c3, if_pos c4], ht⟩) (fun q h => absurd h List.not_mem_nil) d_N_localDigit_53
      · refine lv_lload_n hx hb d_N_localDigit_46 rfl (lv_at hl 1 rfl) ?_
        refine lv_l2i (v := (((a0 >>> (((6 : Int32) : Int32).toInt64 &&& 63)) - (27 : Int64)) : Int64).toInt32) hx hb d_N_localDigit_47 rfl ?_
        refine lv_goto (tgt := 53) hx hb d_N_localDigit_48 (by decide) ?_
        exact W.iret (v := (((a0 >>> (((6 : Int32) : Int32).toInt64 &&& 63)) - (27 : Int64)) : Int64).toInt32) hx hb hr (fun t ht hW => ⟨(((a0 >>> (((6 : Int32) : Int32).toInt64 &&& 63)) - (27 : Int64)) : Int64).toInt32, rfl, by rw [f_N_localDigit, if_pos c1, if_pos c3, if_neg c4], ht⟩) (fun q h => absurd h List.not_mem_nil) d_N_localDigit_53
    · refine lv_lload_n hx hb d_N_localDigit_26 rfl (lv_at hl 0 rfl) ?_
      refine lv_ldc2 (v := 10) hx hb hown (hk _ k_776) d_N_localDigit_27 ?_
      refine W.lcmp hx hb d_N_localDigit_30 ?_
      refine lv_if_ge (tgt := 38) hx hb d_N_localDigit_31 (by decide) (fun c5 => ?_) (fun c5 => ?_)
      · refine lv_iconst (v := 0) hx hb d_N_localDigit_38 (by decide) ?_
        refine lv_istore (lv' := [(5, .int (0 : Int32)), (3, .long ((a0 >>> (((6 : Int32) : Int32).toInt64 &&& 63)) - (27 : Int64))), (0, .long a0), (2, .int a1)]) hx hb d_N_localDigit_39 hl (by decide) rfl (fun ls hl => ?_)
        refine lv_iload hx hb d_N_localDigit_41 (lv_at hl 0 rfl) ?_
        refine lv_if_eq (tgt := 51) hx hb d_N_localDigit_43 (by decide) (fun c6 => ?_) (fun c6 => ?_)
        · refine lv_bipush (v := (-2)) hx hb d_N_localDigit_51 (by decide) ?_
          exact W.iret (v := (-2 : Int32)) hx hb hr (fun t ht hW => ⟨(-2 : Int32), rfl, by rw [f_N_localDigit, if_pos c1, if_neg c3, if_pos c5, if_pos c6], ht⟩) (fun q h => absurd h List.not_mem_nil) d_N_localDigit_53
        · refine lv_lload_n hx hb d_N_localDigit_46 rfl (lv_at hl 1 rfl) ?_
          refine lv_l2i (v := (((a0 >>> (((6 : Int32) : Int32).toInt64 &&& 63)) - (27 : Int64)) : Int64).toInt32) hx hb d_N_localDigit_47 rfl ?_
          refine lv_goto (tgt := 53) hx hb d_N_localDigit_48 (by decide) ?_
          exact W.iret (v := (((a0 >>> (((6 : Int32) : Int32).toInt64 &&& 63)) - (27 : Int64)) : Int64).toInt32) hx hb hr (fun t ht hW => ⟨(((a0 >>> (((6 : Int32) : Int32).toInt64 &&& 63)) - (27 : Int64)) : Int64).toInt32, rfl, by rw [f_N_localDigit, if_pos c1, if_neg c3, if_pos c5, if_neg c6], ht⟩) (fun q h => absurd h List.not_mem_nil) d_N_localDigit_53
      · refine lv_iconst (v := 1) hx hb d_N_localDigit_34 (by decide) ?_
        refine lv_goto (tgt := 39) hx hb d_N_localDigit_35 (by decide) ?_
        refine lv_istore (lv' := [(5, .int (1 : Int32)), (3, .long ((a0 >>> (((6 : Int32) : Int32).toInt64 &&& 63)) - (27 : Int64))), (0, .long a0), (2, .int a1)]) hx hb d_N_localDigit_39 hl (by decide) rfl (fun ls hl => ?_)
        refine lv_iload hx hb d_N_localDigit_41 (lv_at hl 0 rfl) ?_
        refine lv_if_eq (tgt := 51) hx hb d_N_localDigit_43 (by decide) (fun c7 => ?_) (fun c7 => ?_)
        · refine lv_bipush (v := (-2)) hx hb d_N_localDigit_51 (by decide) ?_
          exact W.iret (v := (-2 : Int32)) hx hb hr (fun t ht hW => ⟨(-2 : Int32), rfl, by rw [f_N_localDigit, if_pos c1, if_neg c3, if_neg c5, if_pos c7], ht⟩) (fun q h => absurd h List.not_mem_nil) d_N_localDigit_53
        · refine lv_lload_n hx hb d_N_localDigit_46 rfl (lv_at hl 1 rfl) ?_
          refine lv_l2i (v := (((a0 >>> (((6 : Int32) : Int32).toInt64 &&& 63)) - (27 : Int64)) : Int64).toInt32) hx hb d_N_localDigit_47 rfl ?_
          refine lv_goto (tgt := 53) hx hb d_N_localDigit_48 (by decide) ?_
          exact W.iret (v := (((a0 >>> (((6 : Int32) : Int32).toInt64 &&& 63)) - (27 : Int64)) : Int64).toInt32) hx hb hr (fun t ht hW => ⟨(((a0 >>> (((6 : Int32) : Int32).toInt64 &&& 63)) - (27 : Int64)) : Int64).toInt32, rfl, by rw [f_N_localDigit, if_pos c1, if_neg c3, if_neg c5, if_neg c7], ht⟩) (fun q h => absurd h List.not_mem_nil) d_N_localDigit_53
theorem s_N_localDigit {R : Room} {s : State} {args : Array Value} {own : String} {index : Nat} (hk : ∀ w ∈ tb, w.before args s = true) (hl : Cond.methodLink own index y_N_localDigit ∈ tb) (hR : 0 + 1 ≤ R.frames ∧ 8 + (6 + 11) + 0 ≤ R.locals) : CallB R s args own index y_N_localDigit b_N_localDigit 6 (some .int) (.code y_N_localDigit b_N_localDigit 6 (some .int) :: tb) ({ frames := 0, cells := 0, slots := 0, locals := 0 }) 0 0 2 ∧ (Cond.static y_N_localDigit).before args s = true := mk_s 2 hk k_773 hl k_772 k_125 rfl rfl h_N_localDigit hR
def f_JL_canEncode1 (a0 : Int32) : Bool := (if (a0 : Int32) < (0 : Int32) then false else (if (255 : Int32) < a0 then false else true))
set_option maxHeartbeats 4000000 in
set_option maxRecDepth 100000 in
theorem c_JL_canEncode1 (l : Launch) (a0 : Int32) : Met l y_JL_canEncode1 (.code y_JL_canEncode1 b_JL_canEncode1 1 (some .boolean) :: tb) ({ frames := 0, cells := 0, slots := 0, locals := 0 }) (va_Pc [.int a0] (fun _ => True)) (vp_Si (fun r => r = bI (f_JL_canEncode1 a0))) 0 0 (fun _ => False) := by
  refine Met.ofW (cc := b_JL_canEncode1) (maxL := 1) (ret := (some .boolean)) (by decide) rfl ?_
  intro p e s m args below meth c s₁ B hml hv
  obtain ⟨rfl, -⟩ := hv
  have hx := B.exec
  have hb := B.bytes
  have hr := B.returns
  have hts := atoms_spec (ws := .code y_JL_canEncode1 b_JL_canEncode1 1 (some .boolean) :: tb) B.pre
  have hk : ∀ w ∈ tb, w.before [.int a0].toArray s = true := fun w h => hts w (List.mem_cons_of_mem _ h)
  have hown : s.vm.findClass "java/lang/StringLatin1" = some m.cls := findClass_of_methodNamed B.named
  have hlocks := B.notSynchronized
  have hl := lv_entry ([.int a0]) (n := 1) (Nat.le_of_ble_eq_true rfl)
  rw [lg_entry_eq]
  generalize (lg_sl ([.int a0]) ++ List.replicate (1 - (lg_sl ([.int a0])).length) Slot.unset).toArray = ls at hl ⊢
  have hl : lv_has ls 1 [(0, .int a0)] := hl
  refine lv_iload_n hx hb d_JL_canEncode1_0 rfl (lv_at hl 0 rfl) ?_
  refine lv_if_lt (tgt := 15) hx hb d_JL_canEncode1_1 (by decide) (fun c1 => ?_) (fun c1 => ?_)
  · refine lv_iconst (v := 0) hx hb d_JL_canEncode1_15 (by decide) ?_
    exact W.zret (v := (0 : Int32)) hx hb hr rfl (fun t ht hW => ⟨(0 : Int32), rfl, by rw [f_JL_canEncode1, if_pos c1]; rfl, ht⟩) (fun q h => absurd h List.not_mem_nil) d_JL_canEncode1_16
  · refine lv_iload_n hx hb d_JL_canEncode1_4 rfl (lv_at hl 0 rfl) ?_
    refine lv_sipush (v := 255) hx hb d_JL_canEncode1_5 (by decide) ?_
    refine lv_icmp_gt (tgt := 15) hx hb d_JL_canEncode1_8 (by decide) (fun c2 => ?_) (fun c2 => ?_)
    · refine lv_iconst (v := 0) hx hb d_JL_canEncode1_15 (by decide) ?_
      exact W.zret (v := (0 : Int32)) hx hb hr rfl (fun t ht hW => ⟨(0 : Int32), rfl, by rw [f_JL_canEncode1, if_neg c1, if_pos c2]; rfl, ht⟩) (fun q h => absurd h List.not_mem_nil) d_JL_canEncode1_16
    · refine lv_iconst (v := 1) hx hb d_JL_canEncode1_11 (by decide) ?_
      refine lv_goto (tgt := 16) hx hb d_JL_canEncode1_12 (by decide) ?_
      exact W.zret (v := (1 : Int32)) hx hb hr rfl (fun t ht hW => ⟨(1 : Int32), rfl, by rw [f_JL_canEncode1, if_neg c1, if_neg c2]; rfl, ht⟩) (fun q h => absurd h List.not_mem_nil) d_JL_canEncode1_16
theorem s_JL_canEncode1 {R : Room} {s : State} {args : Array Value} {own : String} {index : Nat} (hk : ∀ w ∈ tb, w.before args s = true) (hl : Cond.methodLink own index y_JL_canEncode1 ∈ tb) (hR : 0 + 1 ≤ R.frames ∧ 8 + (1 + 11) + 0 ≤ R.locals) : CallB R s args own index y_JL_canEncode1 b_JL_canEncode1 1 (some .boolean) (.code y_JL_canEncode1 b_JL_canEncode1 1 (some .boolean) :: tb) ({ frames := 0, cells := 0, slots := 0, locals := 0 }) 0 0 1 ∧ (Cond.static y_JL_canEncode1).before args s = true := mk_s 1 hk k_859 hl k_858 k_130 rfl rfl h_JL_canEncode1 hR
def f_A_isOperator (a0 : Int32) : Bool := (if a0 = (43 : Int32) then true else (if a0 = (45 : Int32) then true else (if a0 = (42 : Int32) then true else (if a0 = (47 : Int32) then true else (if a0 = (58 : Int32) then true else false)))))
set_option maxHeartbeats 4000000 in
set_option maxRecDepth 100000 in
theorem c_A_isOperator (l : Launch) (a0 : Int32) : Met l y_A_isOperator (.code y_A_isOperator b_A_isOperator 1 (some .boolean) :: tb) ({ frames := 0, cells := 0, slots := 0, locals := 0 }) (va_Pc [.int a0] (fun _ => True)) (vp_Si (fun r => r = bI (f_A_isOperator a0))) 0 0 (fun _ => False) := by
  refine Met.ofW (cc := b_A_isOperator) (maxL := 1) (ret := (some .boolean)) (by decide) rfl ?_
  intro p e s m args below meth c s₁ B hml hv
  obtain ⟨rfl, -⟩ := hv
  have hx := B.exec
  have hb := B.bytes
  have hr := B.returns
  have hts := atoms_spec (ws := .code y_A_isOperator b_A_isOperator 1 (some .boolean) :: tb) B.pre
  have hk : ∀ w ∈ tb, w.before [.int a0].toArray s = true := fun w h => hts w (List.mem_cons_of_mem _ h)
  have hown : s.vm.findClass "SignMachine$Assembler" = some m.cls := findClass_of_methodNamed B.named
  have hlocks := B.notSynchronized
  have hl := lv_entry ([.int a0]) (n := 1) (Nat.le_of_ble_eq_true rfl)
  rw [lg_entry_eq]
  generalize (lg_sl ([.int a0]) ++ List.replicate (1 - (lg_sl ([.int a0])).length) Slot.unset).toArray = ls at hl ⊢
  have hl : lv_has ls 1 [(0, .int a0)] := hl
  refine lv_iload_n hx hb d_A_isOperator_0 rfl (lv_at hl 0 rfl) ?_
  refine lv_bipush (v := 43) hx hb d_A_isOperator_1 (by decide) ?_
  refine lv_icmp_eq (tgt := 30) hx hb d_A_isOperator_3 (by decide) (fun c1 => ?_) (fun c1 => ?_)
  · refine lv_iconst (v := 1) hx hb d_A_isOperator_30 (by decide) ?_
    refine lv_goto (tgt := 35) hx hb d_A_isOperator_31 (by decide) ?_
    exact W.zret (v := (1 : Int32)) hx hb hr rfl (fun t ht hW => ⟨(1 : Int32), rfl, by rw [f_A_isOperator, if_pos c1]; rfl, ht⟩) (fun q h => absurd h List.not_mem_nil) d_A_isOperator_35
  · refine lv_iload_n hx hb d_A_isOperator_6 rfl (lv_at hl 0 rfl) ?_
    refine lv_bipush (v := 45) hx hb d_A_isOperator_7 (by decide) ?_
    refine lv_icmp_eq (tgt := 30) hx hb d_A_isOperator_9 (by decide) (fun c2 => ?_) (fun c2 => ?_)
    · refine lv_iconst (v := 1) hx hb d_A_isOperator_30 (by decide) ?_
      refine lv_goto (tgt := 35) hx hb d_A_isOperator_31 (by decide) ?_
      exact W.zret (v := (1 : Int32)) hx hb hr rfl (fun t ht hW => ⟨(1 : Int32), rfl, by rw [f_A_isOperator, if_neg c1, if_pos c2]; rfl, ht⟩) (fun q h => absurd h List.not_mem_nil) d_A_isOperator_35
    · refine lv_iload_n hx hb d_A_isOperator_12 rfl (lv_at hl 0 rfl) ?_
      refine lv_bipush (v := 42) hx hb d_A_isOperator_13 (by decide) ?_
      refine lv_icmp_eq (tgt := 30) hx hb d_A_isOperator_15 (by decide) (fun c3 => ?_) (fun c3 => ?_)
      · refine lv_iconst (v := 1) hx hb d_A_isOperator_30 (by decide) ?_
        refine lv_goto (tgt := 35) hx hb d_A_isOperator_31 (by decide) ?_
        exact W.zret (v := (1 : Int32)) hx hb hr rfl (fun t ht hW => ⟨(1 : Int32), rfl, by rw [f_A_isOperator, if_neg c1, if_neg c2, if_pos c3]; rfl, ht⟩) (fun q h => absurd h List.not_mem_nil) d_A_isOperator_35
      · refine lv_iload_n hx hb d_A_isOperator_18 rfl (lv_at hl 0 rfl) ?_
        refine lv_bipush (v := 47) hx hb d_A_isOperator_19 (by decide) ?_
        refine lv_icmp_eq (tgt := 30) hx hb d_A_isOperator_21 (by decide) (fun c4 => ?_) (fun c4 => ?_)
        · refine lv_iconst (v := 1) hx hb d_A_isOperator_30 (by decide) ?_
          refine lv_goto (tgt := 35) hx hb d_A_isOperator_31 (by decide) ?_
          exact W.zret (v := (1 : Int32)) hx hb hr rfl (fun t ht hW => ⟨(1 : Int32), rfl, by rw [f_A_isOperator, if_neg c1, if_neg c2, if_neg c3, if_pos c4]; rfl, ht⟩) (fun q h => absurd h List.not_mem_nil) d_A_isOperator_35
        · refine lv_iload_n hx hb d_A_isOperator_24 rfl (lv_at hl 0 rfl) ?_
          refine lv_bipush (v := 58) hx hb d_A_isOperator_25 (by decide) ?_
          refine lv_icmp_ne (tgt := 34) hx hb d_A_isOperator_27 (by decide) (fun c5 => ?_) (fun c5 => ?_)
          · refine lv_iconst (v := 0) hx hb d_A_isOperator_34 (by decide) ?_
            exact W.zret (v := (0 : Int32)) hx hb hr rfl (fun t ht hW => ⟨(0 : Int32), rfl, by rw [f_A_isOperator, if_neg c1, if_neg c2, if_neg c3, if_neg c4, if_neg c5]; rfl, ht⟩) (fun q h => absurd h List.not_mem_nil) d_A_isOperator_35
          · refine lv_iconst (v := 1) hx hb d_A_isOperator_30 (by decide) ?_
            refine lv_goto (tgt := 35) hx hb d_A_isOperator_31 (by decide) ?_
            exact W.zret (v := (1 : Int32)) hx hb hr rfl (fun t ht hW => ⟨(1 : Int32), rfl, by rw [f_A_isOperator, if_neg c1, if_neg c2, if_neg c3, if_neg c4, if_pos c5]; rfl, ht⟩) (fun q h => absurd h List.not_mem_nil) d_A_isOperator_35
theorem s_A_isOperator {R : Room} {s : State} {args : Array Value} {own : String} {index : Nat} (hk : ∀ w ∈ tb, w.before args s = true) (hl : Cond.methodLink own index y_A_isOperator ∈ tb) (hR : 0 + 1 ≤ R.frames ∧ 8 + (1 + 11) + 0 ≤ R.locals) : CallB R s args own index y_A_isOperator b_A_isOperator 1 (some .boolean) (.code y_A_isOperator b_A_isOperator 1 (some .boolean) :: tb) ({ frames := 0, cells := 0, slots := 0, locals := 0 }) 0 0 1 ∧ (Cond.static y_A_isOperator).before args s = true := mk_s 1 hk k_1020 hl k_1019 k_123 rfl rfl h_A_isOperator hR

set_option maxHeartbeats 4000000 in
set_option maxRecDepth 100000 in
theorem c_T_init (l : Launch) (D : va_G) (cI cJ cZ cB : ClassId) (h0 sz : Nat) : Met l y_T_init (.code y_T_init b_T_init 1 none :: tb) ({ frames := 1, cells := 0, slots := 0, locals := 12 }) (pM D cI cJ cZ cB [(h0, .inr (2, [.int 0, .null]))] sz [.ref h0]) (qN D (fun _ => True) (fun (u : Unit) => match u with | _ => [(h0, .inr (2, [.int 0, .null]))]) (va_A [(h0, .inr (2, [.int 0, .null]))] sz)) 0 0 (va_A [(h0, .inr (2, [.int 0, .null]))] sz) := by
  refine Met.ofW (cc := b_T_init) (maxL := 1) (ret := none) (by decide) rfl ?_
  intro p e s m args below meth c s₁ B hml hv
  obtain ⟨rfl, hsz, hK, hP, hD0⟩ := hv
  subst hsz
  have hD := hD0.self (sz := s.heap.size)
  generalize hAe : va_A [(h0, .inr (2, [.int 0, .null]))] s.heap.size = A at hD ⊢
  have hA : ∀ q : Nat, s.heap.size ≤ q → A q := fun q h => by rw [← hAe]; exact Or.inr h
  have hS : va_S A s.heap s.heap [] := va_S.rf
  have hx := B.exec
  have hb := B.bytes
  have hr := B.returns
  have hts := atoms_spec (ws := .code y_T_init b_T_init 1 none :: tb) B.pre
  have hk : ∀ w ∈ tb, w.before [.ref h0].toArray s = true := fun w h => hts w (List.mem_cons_of_mem _ h)
  have hown : s.vm.findClass "SignMachine$Tape" = some m.cls := findClass_of_methodNamed B.named
  have hlocks := B.notSynchronized
  have hin : meth.name = "<init>" := (name_of_methodNamed B.named B.method).1
  have hl := lv_entry ([.ref h0]) (n := 1) (Nat.le_of_ble_eq_true rfl)
  rw [lg_entry_eq]
  generalize (lg_sl ([.ref h0]) ++ List.replicate (1 - (lg_sl ([.ref h0])).length) Slot.unset).toArray = ls at hl ⊢
  have hl : lv_has ls 1 [(0, .ref h0)] := hl
  refine lv_aload_n hx hb d_T_init_0 rfl (lv_at hl 0 rfl) ?_
  refine W.objInit hx hb hown (hk _ k_153) (hk _ k_140) (hk _ k_obj) rfl (by rw [hml]; exact hl.1) rfl d_T_init_1 (Nat.le_of_ble_eq_true rfl) (Nat.le_of_ble_eq_true rfl) ?_
  refine W.eq (g2 := F0 m 4 ls []) rfl ?_
  have hP9 := hP.sub (ws' := [(h0, .inr (2, [.int 0, .null]))]) [0] rfl
  have hD9 := hD.sub (ws' := [(h0, .inr (2, [.int 0, .null]))]) [0] (by decide) rfl
  exact W.vret hx hb hr (fun t ht hW => ⟨⟨(), rfl, trivial, by show va_P D classes _ t.heap; rw [ht]; exact hP9, hD9⟩, hS.F ht⟩) hS.2.2 d_T_init_4
theorem i_T_init {R : Room} {s : State} {args : Array Value} {own host : String} {index : Nat} (hk : ∀ w ∈ tb, w.before args s = true) (hl : va_Nw (.methodLinkNest own index y_T_init host) s) (hR : 1 + 1 ≤ R.frames ∧ 8 + (1 + 11) + 12 ≤ R.locals) : va_CN R s args own index y_T_init host b_T_init 1 none (.code y_T_init b_T_init 1 none :: tb) ({ frames := 1, cells := 0, slots := 0, locals := 12 }) 0 0 0 ∧ (y_T_init).name = "<init>" ∧ (Cond.instanceMethod y_T_init).before args s = true := ⟨va_cnB 0 hk (gi_t k_152) rfl rfl rfl hl (hk _ k_118) h_T_init hR, rfl, hk _ k_151⟩
set_option maxHeartbeats 4000000 in
set_option maxRecDepth 100000 in
theorem c_M_init (l : Launch) (D : va_G) (cI cJ cZ cB : ClassId) (h0 sz : Nat) : Met l y_M_init (.code y_M_init b_M_init 1 none :: tb) ({ frames := 2, cells := 4, slots := 4013, locals := 32 }) (pM D cI cJ cZ cB [(h0, .inr (1, [.null, .null, .null, .null, .int 0, .int 0, .int 0, .int 0, .int 0, .int 0, .int 0, .int 0, .int 0, .int 0]))] sz [.ref h0]) (qN D (fun _ => True) (fun (u : Nat × Nat × Nat × Nat) => match u with | (q1, q2, q3, q4) => [(h0, .inr (1, [.ref q1, .ref q2, .ref q3, .ref q4, .int 0, .int 0, .int 0, .int 0, .int 0, .int 0, .int 0, .int 0, .int 0, .int 0])), (q1, .inl (cI, 4000, .inl (fun _ => 0))), (q2, .inl (cI, 9, .inl (fun _ => 0))), (q3, .inr (2, [.int 0, .null])), (q4, .inr (2, [.int 0, .null]))]) (va_A [(h0, .inr (1, [.null, .null, .null, .null, .int 0, .int 0, .int 0, .int 0, .int 0, .int 0, .int 0, .int 0, .int 0, .int 0]))] sz)) 4 4013 (va_A [(h0, .inr (1, [.null, .null, .null, .null, .int 0, .int 0, .int 0, .int 0, .int 0, .int 0, .int 0, .int 0, .int 0, .int 0]))] sz) := by
  refine Met.ofW (cc := b_M_init) (maxL := 1) (ret := none) (by decide) rfl ?_
  intro p e s m args below meth c s₁ B hml hv
  obtain ⟨rfl, hsz, hK, hP, hD0⟩ := hv
  subst hsz
  have hD := hD0.self (sz := s.heap.size)
  generalize hAe : va_A [(h0, .inr (1, [.null, .null, .null, .null, .int 0, .int 0, .int 0, .int 0, .int 0, .int 0, .int 0, .int 0, .int 0, .int 0]))] s.heap.size = A at hD ⊢
  have hA : ∀ q : Nat, s.heap.size ≤ q → A q := fun q h => by rw [← hAe]; exact Or.inr h
  have hS : va_S A s.heap s.heap [] := va_S.rf
  have hx := B.exec
  have hb := B.bytes
  have hr := B.returns
  have hts := atoms_spec (ws := .code y_M_init b_M_init 1 none :: tb) B.pre
  have hk : ∀ w ∈ tb, w.before [.ref h0].toArray s = true := fun w h => hts w (List.mem_cons_of_mem _ h)
  have hown : s.vm.findClass "SignMachine$Machine" = some m.cls := findClass_of_methodNamed B.named
  have hlocks := B.notSynchronized
  have hin : meth.name = "<init>" := (name_of_methodNamed B.named B.method).1
  have hl := lv_entry ([.ref h0]) (n := 1) (Nat.le_of_ble_eq_true rfl)
  rw [lg_entry_eq]
  generalize (lg_sl ([.ref h0]) ++ List.replicate (1 - (lg_sl ([.ref h0])).length) Slot.unset).toArray = ls at hl ⊢
  have hl : lv_has ls 1 [(0, .ref h0)] := hl
  refine lv_aload_n hx hb d_M_init_0 rfl (lv_at hl 0 rfl) ?_
  refine W.objInit hx hb hown (hk _ k_147) (hk _ k_140) (hk _ k_obj) rfl (by rw [hml]; exact hl.1) rfl d_M_init_1 (Nat.le_of_ble_eq_true rfl) (Nat.le_of_ble_eq_true rfl) ?_
  refine W.eq (g2 := F0 m 4 ls []) rfl ?_
  refine lv_aload_n hx hb d_M_init_4 rfl (lv_at hl 0 rfl) ?_
  refine lv_sipush (v := 4000) hx hb d_M_init_5 (by decide) ?_
  refine nwa (atype := .int) (ty := .int) (N' := 4000) (a0 := (4000, .inl (fun _ => 0))) hx hb (hk _ k_162) rfl hK.1 0 rfl (fun _ h => h) hP hD hS hA (zr_int 4000) (by decide) (by decide) (by decide) (by decide) (by decide) d_M_init_8 (fun q1 H hP hD hS => ?_)
  have hP : va_P D classes [(h0, .inr (1, [.null, .null, .null, .null, .int 0, .int 0, .int 0, .int 0, .int 0, .int 0, .int 0, .int 0, .int 0, .int 0])), (q1, .inl (cI, 4000, .inl (fun _ => 0)))] H := hP
  have hD : va_D A [(h0, .inr (1, [.null, .null, .null, .null, .int 0, .int 0, .int 0, .int 0, .int 0, .int 0, .int 0, .int 0, .int 0, .int 0])), (q1, .inl (cI, 4000, .inl (fun _ => 0)))] := hD
  refine W.widen (k := 1) (n := 4000) (by decide) (by decide) ?_
  refine va_putF (D := D) (ci := 1) (v := .ref q1) (ty := .array .int) (C := "SignMachine$Machine") (T := F_M) (N := 14) hx hb hk fi_M ft_M ft_M_ok fn_M hown hK.1 hP hD hS 0 rfl rfl 0 (by decide) (hk _ k_163) (fun _ h9 => h9) rfl hin rfl (by decide +kernel) rfl rfl (Nat.le_of_ble_eq_true rfl) d_M_init_10 (fun H locs hP hD hS => ?_)
  have hP : va_P D classes [(h0, .inr (1, [.ref q1, .null, .null, .null, .int 0, .int 0, .int 0, .int 0, .int 0, .int 0, .int 0, .int 0, .int 0, .int 0])), (q1, .inl (cI, 4000, .inl (fun _ => 0)))] H := hP
  have hD : va_D A [(h0, .inr (1, [.ref q1, .null, .null, .null, .int 0, .int 0, .int 0, .int 0, .int 0, .int 0, .int 0, .int 0, .int 0, .int 0])), (q1, .inl (cI, 4000, .inl (fun _ => 0)))] := hD
  refine lv_aload_n hx hb d_M_init_13 rfl (lv_at hl 0 rfl) ?_
  refine lv_bipush (v := 9) hx hb d_M_init_14 (by decide) ?_
  refine nwa (atype := .int) (ty := .int) (N' := 9) (a0 := (9, .inl (fun _ => 0))) hx hb (hk _ k_162) rfl hK.1 0 rfl (fun _ h => h) hP hD hS hA (zr_int 9) (by decide) (by decide) (by decide) (by decide) (by decide) d_M_init_16 (fun q2 H hP hD hS => ?_)
  have hP : va_P D classes [(h0, .inr (1, [.ref q1, .null, .null, .null, .int 0, .int 0, .int 0, .int 0, .int 0, .int 0, .int 0, .int 0, .int 0, .int 0])), (q1, .inl (cI, 4000, .inl (fun _ => 0))), (q2, .inl (cI, 9, .inl (fun _ => 0)))] H := hP
  have hD : va_D A [(h0, .inr (1, [.ref q1, .null, .null, .null, .int 0, .int 0, .int 0, .int 0, .int 0, .int 0, .int 0, .int 0, .int 0, .int 0])), (q1, .inl (cI, 4000, .inl (fun _ => 0))), (q2, .inl (cI, 9, .inl (fun _ => 0)))] := hD
  refine W.widen (k := 2) (n := 4009) (by decide) (by decide) ?_
  refine va_putF (D := D) (ci := 1) (v := .ref q2) (ty := .array .int) (C := "SignMachine$Machine") (T := F_M) (N := 14) hx hb hk fi_M ft_M ft_M_ok fn_M hown hK.1 hP hD hS 0 rfl rfl 1 (by decide) (hk _ k_164) (fun _ h9 => h9) rfl hin rfl (by decide +kernel) rfl rfl (Nat.le_of_ble_eq_true rfl) d_M_init_18 (fun H locs hP hD hS => ?_)
  have hP : va_P D classes [(h0, .inr (1, [.ref q1, .ref q2, .null, .null, .int 0, .int 0, .int 0, .int 0, .int 0, .int 0, .int 0, .int 0, .int 0, .int 0])), (q1, .inl (cI, 4000, .inl (fun _ => 0))), (q2, .inl (cI, 9, .inl (fun _ => 0)))] H := hP
  have hD : va_D A [(h0, .inr (1, [.ref q1, .ref q2, .null, .null, .int 0, .int 0, .int 0, .int 0, .int 0, .int 0, .int 0, .int 0, .int 0, .int 0])), (q1, .inl (cI, 4000, .inl (fun _ => 0))), (q2, .inl (cI, 9, .inl (fun _ => 0)))] := hD
  refine lv_aload_n hx hb d_M_init_21 rfl (lv_at hl 0 rfl) ?_
  refine va_new (ci := 2) (fs := [.int 0, .null]) (C := "SignMachine$Tape") (T := F_T) (N := 2) hx hb hk fi_T ft_T ft_T_ok hown (hk _ k_148) (hk _ k_149) (hk _ k_118) hK.1 hP hD hS hA rfl (by decide +kernel) (by decide) (by decide) d_M_init_22 (fun q3 H hP hD hS => ?_)
  have hP : va_P D classes [(h0, .inr (1, [.ref q1, .ref q2, .null, .null, .int 0, .int 0, .int 0, .int 0, .int 0, .int 0, .int 0, .int 0, .int 0, .int 0])), (q1, .inl (cI, 4000, .inl (fun _ => 0))), (q2, .inl (cI, 9, .inl (fun _ => 0))), (q3, .inr (2, [.int 0, .null]))] H := hP
  have hD : va_D A [(h0, .inr (1, [.ref q1, .ref q2, .null, .null, .int 0, .int 0, .int 0, .int 0, .int 0, .int 0, .int 0, .int 0, .int 0, .int 0])), (q1, .inl (cI, 4000, .inl (fun _ => 0))), (q2, .inl (cI, 9, .inl (fun _ => 0))), (q3, .inr (2, [.int 0, .null]))] := hD
  refine W.widen (k := 3) (n := 4011) (by decide) (by decide) ?_
  refine lv_dup hx hb d_M_init_25 rfl ?_
  have hPc := hP.sub (ws' := [(q3, .inr (2, [.int 0, .null]))]) [3] rfl
  have hDc := hD.sub (ws' := [(q3, .inr (2, [.int 0, .null]))]) [3] (by decide) rfl
  have hFc := va_free (wc := [(q3, .inr (2, [.int 0, .null]))]) hD hS hA [3] rfl
  refine va_callv (va_runIN (As := []) (rest := [.ref q3, .ref h0]) ⟨hx, hb, hml, hown, hk⟩ (c_T_init l D cI cJ cZ cB q3 H.size) (i_T_init hk (hK.2 _ n_150) ⟨Nat.le_of_ble_eq_true rfl, Nat.le_of_ble_eq_true rfl⟩) (pM_i hK hPc hDc) rfl rfl hl.1 rfl (lv_room (Nat.le_of_ble_eq_true rfl)) d_M_init_26 ⟨by decide, by decide⟩) hS (fun q _ h => hFc q h) hFc (fun u t H locs ht hvm hw hB hz1 hk1 hS => ?_)
  obtain ⟨hP1, hD1⟩ := hB
  try dsimp only at hP1 hD1
  rw [ht] at hP1
  obtain ⟨hP, hD⟩ := va_join (wr := [(h0, .inr (1, [.ref q1, .ref q2, .null, .null, .int 0, .int 0, .int 0, .int 0, .int 0, .int 0, .int 0, .int 0, .int 0, .int 0])), (q1, .inl (cI, 4000, .inl (fun _ => 0))), (q2, .inl (cI, 9, .inl (fun _ => 0)))]) (w1 := [(q3, .inr (2, [.int 0, .null]))]) hP hD [3] [0, 1, 2] rfl rfl (by decide) (by decide) hk1 hFc hP1 hD1
  have hP : va_P D classes [(h0, .inr (1, [.ref q1, .ref q2, .null, .null, .int 0, .int 0, .int 0, .int 0, .int 0, .int 0, .int 0, .int 0, .int 0, .int 0])), (q1, .inl (cI, 4000, .inl (fun _ => 0))), (q2, .inl (cI, 9, .inl (fun _ => 0))), (q3, .inr (2, [.int 0, .null]))] H := hP
  have hD : va_D A [(h0, .inr (1, [.ref q1, .ref q2, .null, .null, .int 0, .int 0, .int 0, .int 0, .int 0, .int 0, .int 0, .int 0, .int 0, .int 0])), (q1, .inl (cI, 4000, .inl (fun _ => 0))), (q2, .inl (cI, 9, .inl (fun _ => 0))), (q3, .inr (2, [.int 0, .null]))] := hD
  refine W.widen (k := 3) (n := 4011) (by decide) (by decide) ?_
  refine va_putF (D := D) (ci := 1) (v := .ref q3) (ty := .object "SignMachine$Tape") (C := "SignMachine$Machine") (T := F_M) (N := 14) hx hb hk fi_M ft_M ft_M_ok fn_M hown hK.1 hP hD hS 0 rfl rfl 2 (by decide) (hk _ k_165) (fun _ h9 => h9) rfl hin rfl (by decide +kernel) rfl rfl (Nat.le_of_ble_eq_true rfl) d_M_init_29 (fun H locs hP hD hS => ?_)
  have hP : va_P D classes [(h0, .inr (1, [.ref q1, .ref q2, .ref q3, .null, .int 0, .int 0, .int 0, .int 0, .int 0, .int 0, .int 0, .int 0, .int 0, .int 0])), (q1, .inl (cI, 4000, .inl (fun _ => 0))), (q2, .inl (cI, 9, .inl (fun _ => 0))), (q3, .inr (2, [.int 0, .null]))] H := hP
  have hD : va_D A [(h0, .inr (1, [.ref q1, .ref q2, .ref q3, .null, .int 0, .int 0, .int 0, .int 0, .int 0, .int 0, .int 0, .int 0, .int 0, .int 0])), (q1, .inl (cI, 4000, .inl (fun _ => 0))), (q2, .inl (cI, 9, .inl (fun _ => 0))), (q3, .inr (2, [.int 0, .null]))] := hD
  refine lv_aload_n hx hb d_M_init_32 rfl (lv_at hl 0 rfl) ?_
  refine va_new (ci := 2) (fs := [.int 0, .null]) (C := "SignMachine$Tape") (T := F_T) (N := 2) hx hb hk fi_T ft_T ft_T_ok hown (hk _ k_148) (hk _ k_149) (hk _ k_118) hK.1 hP hD hS hA rfl (by decide +kernel) (by decide) (by decide) d_M_init_33 (fun q4 H hP hD hS => ?_)
  have hP : va_P D classes [(h0, .inr (1, [.ref q1, .ref q2, .ref q3, .null, .int 0, .int 0, .int 0, .int 0, .int 0, .int 0, .int 0, .int 0, .int 0, .int 0])), (q1, .inl (cI, 4000, .inl (fun _ => 0))), (q2, .inl (cI, 9, .inl (fun _ => 0))), (q3, .inr (2, [.int 0, .null])), (q4, .inr (2, [.int 0, .null]))] H := hP
  have hD : va_D A [(h0, .inr (1, [.ref q1, .ref q2, .ref q3, .null, .int 0, .int 0, .int 0, .int 0, .int 0, .int 0, .int 0, .int 0, .int 0, .int 0])), (q1, .inl (cI, 4000, .inl (fun _ => 0))), (q2, .inl (cI, 9, .inl (fun _ => 0))), (q3, .inr (2, [.int 0, .null])), (q4, .inr (2, [.int 0, .null]))] := hD
  refine W.widen (k := 4) (n := 4013) (by decide) (by decide) ?_
  refine lv_dup hx hb d_M_init_36 rfl ?_
  have hPc := hP.sub (ws' := [(q4, .inr (2, [.int 0, .null]))]) [4] rfl
  have hDc := hD.sub (ws' := [(q4, .inr (2, [.int 0, .null]))]) [4] (by decide) rfl
  have hFc := va_free (wc := [(q4, .inr (2, [.int 0, .null]))]) hD hS hA [4] rfl
  refine va_callv (va_runIN (As := []) (rest := [.ref q4, .ref h0]) ⟨hx, hb, hml, hown, hk⟩ (c_T_init l D cI cJ cZ cB q4 H.size) (i_T_init hk (hK.2 _ n_150) ⟨Nat.le_of_ble_eq_true rfl, Nat.le_of_ble_eq_true rfl⟩) (pM_i hK hPc hDc) rfl rfl hl.1 rfl (lv_room (Nat.le_of_ble_eq_true rfl)) d_M_init_37 ⟨by decide, by decide⟩) hS (fun q _ h => hFc q h) hFc (fun u t H locs ht hvm hw hB hz1 hk1 hS => ?_)
  obtain ⟨hP1, hD1⟩ := hB
  try dsimp only at hP1 hD1
  rw [ht] at hP1
  obtain ⟨hP, hD⟩ := va_join (wr := [(h0, .inr (1, [.ref q1, .ref q2, .ref q3, .null, .int 0, .int 0, .int 0, .int 0, .int 0, .int 0, .int 0, .int 0, .int 0, .int 0])), (q1, .inl (cI, 4000, .inl (fun _ => 0))), (q2, .inl (cI, 9, .inl (fun _ => 0))), (q3, .inr (2, [.int 0, .null]))]) (w1 := [(q4, .inr (2, [.int 0, .null]))]) hP hD [4] [0, 1, 2, 3] rfl rfl (by decide) (by decide) hk1 hFc hP1 hD1
  have hP : va_P D classes [(h0, .inr (1, [.ref q1, .ref q2, .ref q3, .null, .int 0, .int 0, .int 0, .int 0, .int 0, .int 0, .int 0, .int 0, .int 0, .int 0])), (q1, .inl (cI, 4000, .inl (fun _ => 0))), (q2, .inl (cI, 9, .inl (fun _ => 0))), (q3, .inr (2, [.int 0, .null])), (q4, .inr (2, [.int 0, .null]))] H := hP
  have hD : va_D A [(h0, .inr (1, [.ref q1, .ref q2, .ref q3, .null, .int 0, .int 0, .int 0, .int 0, .int 0, .int 0, .int 0, .int 0, .int 0, .int 0])), (q1, .inl (cI, 4000, .inl (fun _ => 0))), (q2, .inl (cI, 9, .inl (fun _ => 0))), (q3, .inr (2, [.int 0, .null])), (q4, .inr (2, [.int 0, .null]))] := hD
  refine W.widen (k := 4) (n := 4013) (by decide) (by decide) ?_
  refine va_putF (D := D) (ci := 1) (v := .ref q4) (ty := .object "SignMachine$Tape") (C := "SignMachine$Machine") (T := F_M) (N := 14) hx hb hk fi_M ft_M ft_M_ok fn_M hown hK.1 hP hD hS 0 rfl rfl 3 (by decide) (hk _ k_166) (fun _ h9 => h9) rfl hin rfl (by decide +kernel) rfl rfl (Nat.le_of_ble_eq_true rfl) d_M_init_40 (fun H locs hP hD hS => ?_)
  have hP : va_P D classes [(h0, .inr (1, [.ref q1, .ref q2, .ref q3, .ref q4, .int 0, .int 0, .int 0, .int 0, .int 0, .int 0, .int 0, .int 0, .int 0, .int 0])), (q1, .inl (cI, 4000, .inl (fun _ => 0))), (q2, .inl (cI, 9, .inl (fun _ => 0))), (q3, .inr (2, [.int 0, .null])), (q4, .inr (2, [.int 0, .null]))] H := hP
  have hD : va_D A [(h0, .inr (1, [.ref q1, .ref q2, .ref q3, .ref q4, .int 0, .int 0, .int 0, .int 0, .int 0, .int 0, .int 0, .int 0, .int 0, .int 0])), (q1, .inl (cI, 4000, .inl (fun _ => 0))), (q2, .inl (cI, 9, .inl (fun _ => 0))), (q3, .inr (2, [.int 0, .null])), (q4, .inr (2, [.int 0, .null]))] := hD
  have hP9 := hP.sub (ws' := [(h0, .inr (1, [.ref q1, .ref q2, .ref q3, .ref q4, .int 0, .int 0, .int 0, .int 0, .int 0, .int 0, .int 0, .int 0, .int 0, .int 0])), (q1, .inl (cI, 4000, .inl (fun _ => 0))), (q2, .inl (cI, 9, .inl (fun _ => 0))), (q3, .inr (2, [.int 0, .null])), (q4, .inr (2, [.int 0, .null]))]) [0, 1, 2, 3, 4] rfl
  have hD9 := hD.sub (ws' := [(h0, .inr (1, [.ref q1, .ref q2, .ref q3, .ref q4, .int 0, .int 0, .int 0, .int 0, .int 0, .int 0, .int 0, .int 0, .int 0, .int 0])), (q1, .inl (cI, 4000, .inl (fun _ => 0))), (q2, .inl (cI, 9, .inl (fun _ => 0))), (q3, .inr (2, [.int 0, .null])), (q4, .inr (2, [.int 0, .null]))]) [0, 1, 2, 3, 4] (by decide) rfl
  exact W.vret hx hb hr (fun t ht hW => ⟨⟨(q1, q2, q3, q4), rfl, trivial, by show va_P D classes _ t.heap; rw [ht]; exact hP9, hD9⟩, hS.F ht⟩) hS.2.2 d_M_init_43
theorem i_M_init {R : Room} {s : State} {args : Array Value} {own host : String} {index : Nat} (hk : ∀ w ∈ tb, w.before args s = true) (hl : va_Nw (.methodLinkNest own index y_M_init host) s) (hR : 2 + 1 ≤ R.frames ∧ 8 + (1 + 11) + 32 ≤ R.locals) : va_CN R s args own index y_M_init host b_M_init 1 none (.code y_M_init b_M_init 1 none :: tb) ({ frames := 2, cells := 4, slots := 4013, locals := 32 }) 4 4013 0 ∧ (y_M_init).name = "<init>" ∧ (Cond.instanceMethod y_M_init).before args s = true := ⟨va_cnB 0 hk (gi_t k_146) rfl rfl rfl hl (hk _ k_117) h_M_init hR, rfl, hk _ k_145⟩
set_option maxHeartbeats 4000000 in
set_option maxRecDepth 100000 in
theorem c_R_init (l : Launch) (D : va_G) (cI cJ cZ cB : ClassId) (h0 sz : Nat) : Met l y_R_init (.code y_R_init b_R_init 1 none :: tb) ({ frames := 1, cells := 1, slots := 4000, locals := 12 }) (pM D cI cJ cZ cB [(h0, .inr (4, [.null, .int 0, .int 0, .int 0, .int 0, .int 0, .int 0, .long 0, .int 0]))] sz [.ref h0]) (qN D (fun _ => True) (fun (u : Nat) => match u with | q1 => [(h0, .inr (4, [.ref q1, .int 0, .int 0, .int 0, .int 0, .int 0, .int 0, .long 0, .int 0])), (q1, .inl (cB, 4000, .inl (fun _ => 0)))]) (va_A [(h0, .inr (4, [.null, .int 0, .int 0, .int 0, .int 0, .int 0, .int 0, .long 0, .int 0]))] sz)) 1 4000 (va_A [(h0, .inr (4, [.null, .int 0, .int 0, .int 0, .int 0, .int 0, .int 0, .long 0, .int 0]))] sz) := by
  refine Met.ofW (cc := b_R_init) (maxL := 1) (ret := none) (by decide) rfl ?_
  intro p e s m args below meth c s₁ B hml hv
  obtain ⟨rfl, hsz, hK, hP, hD0⟩ := hv
  subst hsz
  have hD := hD0.self (sz := s.heap.size)
  generalize hAe : va_A [(h0, .inr (4, [.null, .int 0, .int 0, .int 0, .int 0, .int 0, .int 0, .long 0, .int 0]))] s.heap.size = A at hD ⊢
  have hA : ∀ q : Nat, s.heap.size ≤ q → A q := fun q h => by rw [← hAe]; exact Or.inr h
  have hS : va_S A s.heap s.heap [] := va_S.rf
  have hx := B.exec
  have hb := B.bytes
  have hr := B.returns
  have hts := atoms_spec (ws := .code y_R_init b_R_init 1 none :: tb) B.pre
  have hk : ∀ w ∈ tb, w.before [.ref h0].toArray s = true := fun w h => hts w (List.mem_cons_of_mem _ h)
  have hown : s.vm.findClass "SignMachine$Source" = some m.cls := findClass_of_methodNamed B.named
  have hlocks := B.notSynchronized
  have hin : meth.name = "<init>" := (name_of_methodNamed B.named B.method).1
  have hl := lv_entry ([.ref h0]) (n := 1) (Nat.le_of_ble_eq_true rfl)
  rw [lg_entry_eq]
  generalize (lg_sl ([.ref h0]) ++ List.replicate (1 - (lg_sl ([.ref h0])).length) Slot.unset).toArray = ls at hl ⊢
  have hl : lv_has ls 1 [(0, .ref h0)] := hl
  refine lv_aload_n hx hb d_R_init_0 rfl (lv_at hl 0 rfl) ?_
  refine W.objInit hx hb hown (hk _ k_533) (hk _ k_140) (hk _ k_obj) rfl (by rw [hml]; exact hl.1) rfl d_R_init_1 (Nat.le_of_ble_eq_true rfl) (Nat.le_of_ble_eq_true rfl) ?_
  refine W.eq (g2 := F0 m 4 ls []) rfl ?_
  refine lv_aload_n hx hb d_R_init_4 rfl (lv_at hl 0 rfl) ?_
  refine lv_sipush (v := 4000) hx hb d_R_init_5 (by decide) ?_
  refine nwa (atype := .byte) (ty := .byte) (N' := 4000) (a0 := (4000, .inl (fun _ => 0))) hx hb (hk _ k_569) rfl hK.1 3 rfl (fun _ h => h) hP hD hS hA (zr_byte 4000) (by decide) (by decide) (by decide) (by decide) (by decide) d_R_init_8 (fun q1 H hP hD hS => ?_)
  have hP : va_P D classes [(h0, .inr (4, [.null, .int 0, .int 0, .int 0, .int 0, .int 0, .int 0, .long 0, .int 0])), (q1, .inl (cB, 4000, .inl (fun _ => 0)))] H := hP
  have hD : va_D A [(h0, .inr (4, [.null, .int 0, .int 0, .int 0, .int 0, .int 0, .int 0, .long 0, .int 0])), (q1, .inl (cB, 4000, .inl (fun _ => 0)))] := hD
  refine W.widen (k := 1) (n := 4000) (by decide) (by decide) ?_
  refine va_putF (D := D) (ci := 4) (v := .ref q1) (ty := .array .byte) (C := "SignMachine$Source") (T := F_R) (N := 9) hx hb hk fi_R ft_R ft_R_ok fn_R hown hK.1 hP hD hS 0 rfl rfl 0 (by decide) (hk _ k_534) (fun _ h9 => h9) rfl hin rfl (by decide +kernel) rfl rfl (Nat.le_of_ble_eq_true rfl) d_R_init_10 (fun H locs hP hD hS => ?_)
  have hP : va_P D classes [(h0, .inr (4, [.ref q1, .int 0, .int 0, .int 0, .int 0, .int 0, .int 0, .long 0, .int 0])), (q1, .inl (cB, 4000, .inl (fun _ => 0)))] H := hP
  have hD : va_D A [(h0, .inr (4, [.ref q1, .int 0, .int 0, .int 0, .int 0, .int 0, .int 0, .long 0, .int 0])), (q1, .inl (cB, 4000, .inl (fun _ => 0)))] := hD
  have hP9 := hP.sub (ws' := [(h0, .inr (4, [.ref q1, .int 0, .int 0, .int 0, .int 0, .int 0, .int 0, .long 0, .int 0])), (q1, .inl (cB, 4000, .inl (fun _ => 0)))]) [0, 1] rfl
  have hD9 := hD.sub (ws' := [(h0, .inr (4, [.ref q1, .int 0, .int 0, .int 0, .int 0, .int 0, .int 0, .long 0, .int 0])), (q1, .inl (cB, 4000, .inl (fun _ => 0)))]) [0, 1] (by decide) rfl
  exact W.vret hx hb hr (fun t ht hW => ⟨⟨(q1), rfl, trivial, by show va_P D classes _ t.heap; rw [ht]; exact hP9, hD9⟩, hS.F ht⟩) hS.2.2 d_R_init_13
theorem i_R_init {R : Room} {s : State} {args : Array Value} {own host : String} {index : Nat} (hk : ∀ w ∈ tb, w.before args s = true) (hl : va_Nw (.methodLinkNest own index y_R_init host) s) (hR : 1 + 1 ≤ R.frames ∧ 8 + (1 + 11) + 12 ≤ R.locals) : va_CN R s args own index y_R_init host b_R_init 1 none (.code y_R_init b_R_init 1 none :: tb) ({ frames := 1, cells := 1, slots := 4000, locals := 12 }) 1 4000 0 ∧ (y_R_init).name = "<init>" ∧ (Cond.instanceMethod y_R_init).before args s = true := ⟨va_cnB 0 hk (gi_t k_532) rfl rfl rfl hl (hk _ k_124) h_R_init hR, rfl, hk _ k_531⟩
set_option maxHeartbeats 4000000 in
set_option maxRecDepth 100000 in
theorem c_N_init (l : Launch) (D : va_G) (cI cJ cZ cB : ClassId) (h0 sz : Nat) : Met l y_N_init (.code y_N_init b_N_init 1 none :: tb) ({ frames := 1, cells := 5, slots := 320, locals := 12 }) (pM D cI cJ cZ cB [(h0, .inr (5, [.null, .null, .null, .null, .null, .int 0, .int 0]))] sz [.ref h0]) (qN D (fun _ => True) (fun (u : Nat × Nat × Nat × Nat × Nat) => match u with | (q1, q2, q3, q4, q5) => [(h0, .inr (5, [.ref q1, .ref q2, .ref q3, .ref q4, .ref q5, .int 0, .int 0])), (q1, .inl (cJ, 100, .inr (.inl (fun _ => 0)))), (q2, .inl (cI, 100, .inl (fun _ => 0))), (q3, .inl (cZ, 100, .inl (fun _ => 0))), (q4, .inl (cI, 10, .inl (fun _ => 0))), (q5, .inl (cZ, 10, .inl (fun _ => 0)))]) (va_A [(h0, .inr (5, [.null, .null, .null, .null, .null, .int 0, .int 0]))] sz)) 5 320 (va_A [(h0, .inr (5, [.null, .null, .null, .null, .null, .int 0, .int 0]))] sz) := by
  refine Met.ofW (cc := b_N_init) (maxL := 1) (ret := none) (by decide) rfl ?_
  intro p e s m args below meth c s₁ B hml hv
  obtain ⟨rfl, hsz, hK, hP, hD0⟩ := hv
  subst hsz
  have hD := hD0.self (sz := s.heap.size)
  generalize hAe : va_A [(h0, .inr (5, [.null, .null, .null, .null, .null, .int 0, .int 0]))] s.heap.size = A at hD ⊢
  have hA : ∀ q : Nat, s.heap.size ≤ q → A q := fun q h => by rw [← hAe]; exact Or.inr h
  have hS : va_S A s.heap s.heap [] := va_S.rf
  have hx := B.exec
  have hb := B.bytes
  have hr := B.returns
  have hts := atoms_spec (ws := .code y_N_init b_N_init 1 none :: tb) B.pre
  have hk : ∀ w ∈ tb, w.before [.ref h0].toArray s = true := fun w h => hts w (List.mem_cons_of_mem _ h)
  have hown : s.vm.findClass "SignMachine$Names" = some m.cls := findClass_of_methodNamed B.named
  have hlocks := B.notSynchronized
  have hin : meth.name = "<init>" := (name_of_methodNamed B.named B.method).1
  have hl := lv_entry ([.ref h0]) (n := 1) (Nat.le_of_ble_eq_true rfl)
  rw [lg_entry_eq]
  generalize (lg_sl ([.ref h0]) ++ List.replicate (1 - (lg_sl ([.ref h0])).length) Slot.unset).toArray = ls at hl ⊢
  have hl : lv_has ls 1 [(0, .ref h0)] := hl
  refine lv_aload_n hx hb d_N_init_0 rfl (lv_at hl 0 rfl) ?_
  refine W.objInit hx hb hown (hk _ k_575) (hk _ k_140) (hk _ k_obj) rfl (by rw [hml]; exact hl.1) rfl d_N_init_1 (Nat.le_of_ble_eq_true rfl) (Nat.le_of_ble_eq_true rfl) ?_
  refine W.eq (g2 := F0 m 4 ls []) rfl ?_
  refine lv_aload_n hx hb d_N_init_4 rfl (lv_at hl 0 rfl) ?_
  refine lv_bipush (v := 100) hx hb d_N_init_5 (by decide) ?_
  refine nwa (atype := .long) (ty := .long) (N' := 100) (a0 := (100, .inr (.inl (fun _ => 0)))) hx hb (hk _ k_599) rfl hK.1 1 rfl (fun _ h => h) hP hD hS hA (zr_long 100) (by decide) (by decide) (by decide) (by decide) (by decide) d_N_init_7 (fun q1 H hP hD hS => ?_)
  have hP : va_P D classes [(h0, .inr (5, [.null, .null, .null, .null, .null, .int 0, .int 0])), (q1, .inl (cJ, 100, .inr (.inl (fun _ => 0))))] H := hP
  have hD : va_D A [(h0, .inr (5, [.null, .null, .null, .null, .null, .int 0, .int 0])), (q1, .inl (cJ, 100, .inr (.inl (fun _ => 0))))] := hD
  refine W.widen (k := 1) (n := 100) (by decide) (by decide) ?_
  refine va_putF (D := D) (ci := 5) (v := .ref q1) (ty := .array .long) (C := "SignMachine$Names") (T := F_N) (N := 7) hx hb hk fi_N ft_N ft_N_ok fn_N hown hK.1 hP hD hS 0 rfl rfl 0 (by decide) (hk _ k_576) (fun _ h9 => h9) rfl hin rfl (by decide +kernel) rfl rfl (Nat.le_of_ble_eq_true rfl) d_N_init_9 (fun H locs hP hD hS => ?_)
  have hP : va_P D classes [(h0, .inr (5, [.ref q1, .null, .null, .null, .null, .int 0, .int 0])), (q1, .inl (cJ, 100, .inr (.inl (fun _ => 0))))] H := hP
  have hD : va_D A [(h0, .inr (5, [.ref q1, .null, .null, .null, .null, .int 0, .int 0])), (q1, .inl (cJ, 100, .inr (.inl (fun _ => 0))))] := hD
  refine lv_aload_n hx hb d_N_init_12 rfl (lv_at hl 0 rfl) ?_
  refine lv_bipush (v := 100) hx hb d_N_init_13 (by decide) ?_
  refine nwa (atype := .int) (ty := .int) (N' := 100) (a0 := (100, .inl (fun _ => 0))) hx hb (hk _ k_162) rfl hK.1 0 rfl (fun _ h => h) hP hD hS hA (zr_int 100) (by decide) (by decide) (by decide) (by decide) (by decide) d_N_init_15 (fun q2 H hP hD hS => ?_)
  have hP : va_P D classes [(h0, .inr (5, [.ref q1, .null, .null, .null, .null, .int 0, .int 0])), (q1, .inl (cJ, 100, .inr (.inl (fun _ => 0)))), (q2, .inl (cI, 100, .inl (fun _ => 0)))] H := hP
  have hD : va_D A [(h0, .inr (5, [.ref q1, .null, .null, .null, .null, .int 0, .int 0])), (q1, .inl (cJ, 100, .inr (.inl (fun _ => 0)))), (q2, .inl (cI, 100, .inl (fun _ => 0)))] := hD
  refine W.widen (k := 2) (n := 200) (by decide) (by decide) ?_
  refine va_putF (D := D) (ci := 5) (v := .ref q2) (ty := .array .int) (C := "SignMachine$Names") (T := F_N) (N := 7) hx hb hk fi_N ft_N ft_N_ok fn_N hown hK.1 hP hD hS 0 rfl rfl 1 (by decide) (hk _ k_577) (fun _ h9 => h9) rfl hin rfl (by decide +kernel) rfl rfl (Nat.le_of_ble_eq_true rfl) d_N_init_17 (fun H locs hP hD hS => ?_)
  have hP : va_P D classes [(h0, .inr (5, [.ref q1, .ref q2, .null, .null, .null, .int 0, .int 0])), (q1, .inl (cJ, 100, .inr (.inl (fun _ => 0)))), (q2, .inl (cI, 100, .inl (fun _ => 0)))] H := hP
  have hD : va_D A [(h0, .inr (5, [.ref q1, .ref q2, .null, .null, .null, .int 0, .int 0])), (q1, .inl (cJ, 100, .inr (.inl (fun _ => 0)))), (q2, .inl (cI, 100, .inl (fun _ => 0)))] := hD
  refine lv_aload_n hx hb d_N_init_20 rfl (lv_at hl 0 rfl) ?_
  refine lv_bipush (v := 100) hx hb d_N_init_21 (by decide) ?_
  refine nwa (atype := .boolean) (ty := .boolean) (N' := 100) (a0 := (100, .inl (fun _ => 0))) hx hb (hk _ k_600) rfl hK.1 2 rfl (fun _ h => h) hP hD hS hA (zr_boolean 100) (by decide) (by decide) (by decide) (by decide) (by decide) d_N_init_23 (fun q3 H hP hD hS => ?_)
  have hP : va_P D classes [(h0, .inr (5, [.ref q1, .ref q2, .null, .null, .null, .int 0, .int 0])), (q1, .inl (cJ, 100, .inr (.inl (fun _ => 0)))), (q2, .inl (cI, 100, .inl (fun _ => 0))), (q3, .inl (cZ, 100, .inl (fun _ => 0)))] H := hP
  have hD : va_D A [(h0, .inr (5, [.ref q1, .ref q2, .null, .null, .null, .int 0, .int 0])), (q1, .inl (cJ, 100, .inr (.inl (fun _ => 0)))), (q2, .inl (cI, 100, .inl (fun _ => 0))), (q3, .inl (cZ, 100, .inl (fun _ => 0)))] := hD
  refine W.widen (k := 3) (n := 300) (by decide) (by decide) ?_
  refine va_putF (D := D) (ci := 5) (v := .ref q3) (ty := .array .boolean) (C := "SignMachine$Names") (T := F_N) (N := 7) hx hb hk fi_N ft_N ft_N_ok fn_N hown hK.1 hP hD hS 0 rfl rfl 2 (by decide) (hk _ k_578) (fun _ h9 => h9) rfl hin rfl (by decide +kernel) rfl rfl (Nat.le_of_ble_eq_true rfl) d_N_init_25 (fun H locs hP hD hS => ?_)
  have hP : va_P D classes [(h0, .inr (5, [.ref q1, .ref q2, .ref q3, .null, .null, .int 0, .int 0])), (q1, .inl (cJ, 100, .inr (.inl (fun _ => 0)))), (q2, .inl (cI, 100, .inl (fun _ => 0))), (q3, .inl (cZ, 100, .inl (fun _ => 0)))] H := hP
  have hD : va_D A [(h0, .inr (5, [.ref q1, .ref q2, .ref q3, .null, .null, .int 0, .int 0])), (q1, .inl (cJ, 100, .inr (.inl (fun _ => 0)))), (q2, .inl (cI, 100, .inl (fun _ => 0))), (q3, .inl (cZ, 100, .inl (fun _ => 0)))] := hD
  refine lv_aload_n hx hb d_N_init_28 rfl (lv_at hl 0 rfl) ?_
  refine lv_bipush (v := 10) hx hb d_N_init_29 (by decide) ?_
  refine nwa (atype := .int) (ty := .int) (N' := 10) (a0 := (10, .inl (fun _ => 0))) hx hb (hk _ k_162) rfl hK.1 0 rfl (fun _ h => h) hP hD hS hA (zr_int 10) (by decide) (by decide) (by decide) (by decide) (by decide) d_N_init_31 (fun q4 H hP hD hS => ?_)
  have hP : va_P D classes [(h0, .inr (5, [.ref q1, .ref q2, .ref q3, .null, .null, .int 0, .int 0])), (q1, .inl (cJ, 100, .inr (.inl (fun _ => 0)))), (q2, .inl (cI, 100, .inl (fun _ => 0))), (q3, .inl (cZ, 100, .inl (fun _ => 0))), (q4, .inl (cI, 10, .inl (fun _ => 0)))] H := hP
  have hD : va_D A [(h0, .inr (5, [.ref q1, .ref q2, .ref q3, .null, .null, .int 0, .int 0])), (q1, .inl (cJ, 100, .inr (.inl (fun _ => 0)))), (q2, .inl (cI, 100, .inl (fun _ => 0))), (q3, .inl (cZ, 100, .inl (fun _ => 0))), (q4, .inl (cI, 10, .inl (fun _ => 0)))] := hD
  refine W.widen (k := 4) (n := 310) (by decide) (by decide) ?_
  refine va_putF (D := D) (ci := 5) (v := .ref q4) (ty := .array .int) (C := "SignMachine$Names") (T := F_N) (N := 7) hx hb hk fi_N ft_N ft_N_ok fn_N hown hK.1 hP hD hS 0 rfl rfl 3 (by decide) (hk _ k_579) (fun _ h9 => h9) rfl hin rfl (by decide +kernel) rfl rfl (Nat.le_of_ble_eq_true rfl) d_N_init_33 (fun H locs hP hD hS => ?_)
  have hP : va_P D classes [(h0, .inr (5, [.ref q1, .ref q2, .ref q3, .ref q4, .null, .int 0, .int 0])), (q1, .inl (cJ, 100, .inr (.inl (fun _ => 0)))), (q2, .inl (cI, 100, .inl (fun _ => 0))), (q3, .inl (cZ, 100, .inl (fun _ => 0))), (q4, .inl (cI, 10, .inl (fun _ => 0)))] H := hP
  have hD : va_D A [(h0, .inr (5, [.ref q1, .ref q2, .ref q3, .ref q4, .null, .int 0, .int 0])), (q1, .inl (cJ, 100, .inr (.inl (fun _ => 0)))), (q2, .inl (cI, 100, .inl (fun _ => 0))), (q3, .inl (cZ, 100, .inl (fun _ => 0))), (q4, .inl (cI, 10, .inl (fun _ => 0)))] := hD
  refine lv_aload_n hx hb d_N_init_36 rfl (lv_at hl 0 rfl) ?_
  refine lv_bipush (v := 10) hx hb d_N_init_37 (by decide) ?_
  refine nwa (atype := .boolean) (ty := .boolean) (N' := 10) (a0 := (10, .inl (fun _ => 0))) hx hb (hk _ k_600) rfl hK.1 2 rfl (fun _ h => h) hP hD hS hA (zr_boolean 10) (by decide) (by decide) (by decide) (by decide) (by decide) d_N_init_39 (fun q5 H hP hD hS => ?_)
  have hP : va_P D classes [(h0, .inr (5, [.ref q1, .ref q2, .ref q3, .ref q4, .null, .int 0, .int 0])), (q1, .inl (cJ, 100, .inr (.inl (fun _ => 0)))), (q2, .inl (cI, 100, .inl (fun _ => 0))), (q3, .inl (cZ, 100, .inl (fun _ => 0))), (q4, .inl (cI, 10, .inl (fun _ => 0))), (q5, .inl (cZ, 10, .inl (fun _ => 0)))] H := hP
  have hD : va_D A [(h0, .inr (5, [.ref q1, .ref q2, .ref q3, .ref q4, .null, .int 0, .int 0])), (q1, .inl (cJ, 100, .inr (.inl (fun _ => 0)))), (q2, .inl (cI, 100, .inl (fun _ => 0))), (q3, .inl (cZ, 100, .inl (fun _ => 0))), (q4, .inl (cI, 10, .inl (fun _ => 0))), (q5, .inl (cZ, 10, .inl (fun _ => 0)))] := hD
  refine W.widen (k := 5) (n := 320) (by decide) (by decide) ?_
  refine va_putF (D := D) (ci := 5) (v := .ref q5) (ty := .array .boolean) (C := "SignMachine$Names") (T := F_N) (N := 7) hx hb hk fi_N ft_N ft_N_ok fn_N hown hK.1 hP hD hS 0 rfl rfl 4 (by decide) (hk _ k_580) (fun _ h9 => h9) rfl hin rfl (by decide +kernel) rfl rfl (Nat.le_of_ble_eq_true rfl) d_N_init_41 (fun H locs hP hD hS => ?_)
  have hP : va_P D classes [(h0, .inr (5, [.ref q1, .ref q2, .ref q3, .ref q4, .ref q5, .int 0, .int 0])), (q1, .inl (cJ, 100, .inr (.inl (fun _ => 0)))), (q2, .inl (cI, 100, .inl (fun _ => 0))), (q3, .inl (cZ, 100, .inl (fun _ => 0))), (q4, .inl (cI, 10, .inl (fun _ => 0))), (q5, .inl (cZ, 10, .inl (fun _ => 0)))] H := hP
  have hD : va_D A [(h0, .inr (5, [.ref q1, .ref q2, .ref q3, .ref q4, .ref q5, .int 0, .int 0])), (q1, .inl (cJ, 100, .inr (.inl (fun _ => 0)))), (q2, .inl (cI, 100, .inl (fun _ => 0))), (q3, .inl (cZ, 100, .inl (fun _ => 0))), (q4, .inl (cI, 10, .inl (fun _ => 0))), (q5, .inl (cZ, 10, .inl (fun _ => 0)))] := hD
  have hP9 := hP.sub (ws' := [(h0, .inr (5, [.ref q1, .ref q2, .ref q3, .ref q4, .ref q5, .int 0, .int 0])), (q1, .inl (cJ, 100, .inr (.inl (fun _ => 0)))), (q2, .inl (cI, 100, .inl (fun _ => 0))), (q3, .inl (cZ, 100, .inl (fun _ => 0))), (q4, .inl (cI, 10, .inl (fun _ => 0))), (q5, .inl (cZ, 10, .inl (fun _ => 0)))]) [0, 1, 2, 3, 4, 5] rfl
  have hD9 := hD.sub (ws' := [(h0, .inr (5, [.ref q1, .ref q2, .ref q3, .ref q4, .ref q5, .int 0, .int 0])), (q1, .inl (cJ, 100, .inr (.inl (fun _ => 0)))), (q2, .inl (cI, 100, .inl (fun _ => 0))), (q3, .inl (cZ, 100, .inl (fun _ => 0))), (q4, .inl (cI, 10, .inl (fun _ => 0))), (q5, .inl (cZ, 10, .inl (fun _ => 0)))]) [0, 1, 2, 3, 4, 5] (by decide) rfl
  exact W.vret hx hb hr (fun t ht hW => ⟨⟨(q1, q2, q3, q4, q5), rfl, trivial, by show va_P D classes _ t.heap; rw [ht]; exact hP9, hD9⟩, hS.F ht⟩) hS.2.2 d_N_init_44
theorem i_N_init {R : Room} {s : State} {args : Array Value} {own host : String} {index : Nat} (hk : ∀ w ∈ tb, w.before args s = true) (hl : va_Nw (.methodLinkNest own index y_N_init host) s) (hR : 1 + 1 ≤ R.frames ∧ 8 + (1 + 11) + 12 ≤ R.locals) : va_CN R s args own index y_N_init host b_N_init 1 none (.code y_N_init b_N_init 1 none :: tb) ({ frames := 1, cells := 5, slots := 320, locals := 12 }) 5 320 0 ∧ (y_N_init).name = "<init>" ∧ (Cond.instanceMethod y_N_init).before args s = true := ⟨va_cnB 0 hk (gi_t k_574) rfl rfl rfl hl (hk _ k_125) h_N_init hR, rfl, hk _ k_573⟩
set_option maxHeartbeats 4000000 in
set_option maxRecDepth 100000 in
theorem c_O_init (l : Launch) (D : va_G) (cI cJ cZ cB : ClassId) (h0 sz : Nat) : Met l y_O_init (.code y_O_init b_O_init 1 none :: tb) ({ frames := 1, cells := 6, slots := 5515, locals := 12 }) (pM D cI cJ cZ cB [(h0, .inr (6, [.null, .null, .null, .null, .null, .null, .int 0]))] sz [.ref h0]) (qN D (fun _ => True) (fun (u : Nat × Nat × Nat × Nat × Nat × Nat) => match u with | (q1, q2, q3, q4, q5, q6) => [(h0, .inr (6, [.ref q1, .ref q2, .ref q3, .ref q4, .ref q5, .ref q6, .int 0])), (q1, .inl (cI, 1101, .inl (fun _ => 0))), (q2, .inl (cI, 1101, .inl (fun _ => 0))), (q3, .inl (cI, 1101, .inl (fun _ => 0))), (q4, .inl (cB, 1101, .inl (fun _ => 0))), (q5, .inl (cI, 1101, .inl (fun _ => 0))), (q6, .inl (cI, 10, .inl (fun _ => 0)))]) (va_A [(h0, .inr (6, [.null, .null, .null, .null, .null, .null, .int 0]))] sz)) 6 5515 (va_A [(h0, .inr (6, [.null, .null, .null, .null, .null, .null, .int 0]))] sz) := by
  refine Met.ofW (cc := b_O_init) (maxL := 1) (ret := none) (by decide) rfl ?_
  intro p e s m args below meth c s₁ B hml hv
  obtain ⟨rfl, hsz, hK, hP, hD0⟩ := hv
  subst hsz
  have hD := hD0.self (sz := s.heap.size)
  generalize hAe : va_A [(h0, .inr (6, [.null, .null, .null, .null, .null, .null, .int 0]))] s.heap.size = A at hD ⊢
  have hA : ∀ q : Nat, s.heap.size ≤ q → A q := fun q h => by rw [← hAe]; exact Or.inr h
  have hS : va_S A s.heap s.heap [] := va_S.rf
  have hx := B.exec
  have hb := B.bytes
  have hr := B.returns
  have hts := atoms_spec (ws := .code y_O_init b_O_init 1 none :: tb) B.pre
  have hk : ∀ w ∈ tb, w.before [.ref h0].toArray s = true := fun w h => hts w (List.mem_cons_of_mem _ h)
  have hown : s.vm.findClass "SignMachine$Output" = some m.cls := findClass_of_methodNamed B.named
  have hlocks := B.notSynchronized
  have hin : meth.name = "<init>" := (name_of_methodNamed B.named B.method).1
  have hl := lv_entry ([.ref h0]) (n := 1) (Nat.le_of_ble_eq_true rfl)
  rw [lg_entry_eq]
  generalize (lg_sl ([.ref h0]) ++ List.replicate (1 - (lg_sl ([.ref h0])).length) Slot.unset).toArray = ls at hl ⊢
  have hl : lv_has ls 1 [(0, .ref h0)] := hl
  refine lv_aload_n hx hb d_O_init_0 rfl (lv_at hl 0 rfl) ?_
  refine W.objInit hx hb hown (hk _ k_606) (hk _ k_140) (hk _ k_obj) rfl (by rw [hml]; exact hl.1) rfl d_O_init_1 (Nat.le_of_ble_eq_true rfl) (Nat.le_of_ble_eq_true rfl) ?_
  refine W.eq (g2 := F0 m 4 ls []) rfl ?_
  refine lv_aload_n hx hb d_O_init_4 rfl (lv_at hl 0 rfl) ?_
  refine lv_sipush (v := 1101) hx hb d_O_init_5 (by decide) ?_
  refine nwa (atype := .int) (ty := .int) (N' := 1101) (a0 := (1101, .inl (fun _ => 0))) hx hb (hk _ k_162) rfl hK.1 0 rfl (fun _ h => h) hP hD hS hA (zr_int 1101) (by decide) (by decide) (by decide) (by decide) (by decide) d_O_init_8 (fun q1 H hP hD hS => ?_)
  have hP : va_P D classes [(h0, .inr (6, [.null, .null, .null, .null, .null, .null, .int 0])), (q1, .inl (cI, 1101, .inl (fun _ => 0)))] H := hP
  have hD : va_D A [(h0, .inr (6, [.null, .null, .null, .null, .null, .null, .int 0])), (q1, .inl (cI, 1101, .inl (fun _ => 0)))] := hD
  refine W.widen (k := 1) (n := 1101) (by decide) (by decide) ?_
  refine va_putF (D := D) (ci := 6) (v := .ref q1) (ty := .array .int) (C := "SignMachine$Output") (T := F_O) (N := 7) hx hb hk fi_O ft_O ft_O_ok fn_O hown hK.1 hP hD hS 0 rfl rfl 0 (by decide) (hk _ k_607) (fun _ h9 => h9) rfl hin rfl (by decide +kernel) rfl rfl (Nat.le_of_ble_eq_true rfl) d_O_init_10 (fun H locs hP hD hS => ?_)
  have hP : va_P D classes [(h0, .inr (6, [.ref q1, .null, .null, .null, .null, .null, .int 0])), (q1, .inl (cI, 1101, .inl (fun _ => 0)))] H := hP
  have hD : va_D A [(h0, .inr (6, [.ref q1, .null, .null, .null, .null, .null, .int 0])), (q1, .inl (cI, 1101, .inl (fun _ => 0)))] := hD
  refine lv_aload_n hx hb d_O_init_13 rfl (lv_at hl 0 rfl) ?_
  refine lv_sipush (v := 1101) hx hb d_O_init_14 (by decide) ?_
  refine nwa (atype := .int) (ty := .int) (N' := 1101) (a0 := (1101, .inl (fun _ => 0))) hx hb (hk _ k_162) rfl hK.1 0 rfl (fun _ h => h) hP hD hS hA (zr_int 1101) (by decide) (by decide) (by decide) (by decide) (by decide) d_O_init_17 (fun q2 H hP hD hS => ?_)
  have hP : va_P D classes [(h0, .inr (6, [.ref q1, .null, .null, .null, .null, .null, .int 0])), (q1, .inl (cI, 1101, .inl (fun _ => 0))), (q2, .inl (cI, 1101, .inl (fun _ => 0)))] H := hP
  have hD : va_D A [(h0, .inr (6, [.ref q1, .null, .null, .null, .null, .null, .int 0])), (q1, .inl (cI, 1101, .inl (fun _ => 0))), (q2, .inl (cI, 1101, .inl (fun _ => 0)))] := hD
  refine W.widen (k := 2) (n := 2202) (by decide) (by decide) ?_
  refine va_putF (D := D) (ci := 6) (v := .ref q2) (ty := .array .int) (C := "SignMachine$Output") (T := F_O) (N := 7) hx hb hk fi_O ft_O ft_O_ok fn_O hown hK.1 hP hD hS 0 rfl rfl 1 (by decide) (hk _ k_608) (fun _ h9 => h9) rfl hin rfl (by decide +kernel) rfl rfl (Nat.le_of_ble_eq_true rfl) d_O_init_19 (fun H locs hP hD hS => ?_)
  have hP : va_P D classes [(h0, .inr (6, [.ref q1, .ref q2, .null, .null, .null, .null, .int 0])), (q1, .inl (cI, 1101, .inl (fun _ => 0))), (q2, .inl (cI, 1101, .inl (fun _ => 0)))] H := hP
  have hD : va_D A [(h0, .inr (6, [.ref q1, .ref q2, .null, .null, .null, .null, .int 0])), (q1, .inl (cI, 1101, .inl (fun _ => 0))), (q2, .inl (cI, 1101, .inl (fun _ => 0)))] := hD
  refine lv_aload_n hx hb d_O_init_22 rfl (lv_at hl 0 rfl) ?_
  refine lv_sipush (v := 1101) hx hb d_O_init_23 (by decide) ?_
  refine nwa (atype := .int) (ty := .int) (N' := 1101) (a0 := (1101, .inl (fun _ => 0))) hx hb (hk _ k_162) rfl hK.1 0 rfl (fun _ h => h) hP hD hS hA (zr_int 1101) (by decide) (by decide) (by decide) (by decide) (by decide) d_O_init_26 (fun q3 H hP hD hS => ?_)
  have hP : va_P D classes [(h0, .inr (6, [.ref q1, .ref q2, .null, .null, .null, .null, .int 0])), (q1, .inl (cI, 1101, .inl (fun _ => 0))), (q2, .inl (cI, 1101, .inl (fun _ => 0))), (q3, .inl (cI, 1101, .inl (fun _ => 0)))] H := hP
  have hD : va_D A [(h0, .inr (6, [.ref q1, .ref q2, .null, .null, .null, .null, .int 0])), (q1, .inl (cI, 1101, .inl (fun _ => 0))), (q2, .inl (cI, 1101, .inl (fun _ => 0))), (q3, .inl (cI, 1101, .inl (fun _ => 0)))] := hD
  refine W.widen (k := 3) (n := 3303) (by decide) (by decide) ?_
  refine va_putF (D := D) (ci := 6) (v := .ref q3) (ty := .array .int) (C := "SignMachine$Output") (T := F_O) (N := 7) hx hb hk fi_O ft_O ft_O_ok fn_O hown hK.1 hP hD hS 0 rfl rfl 2 (by decide) (hk _ k_609) (fun _ h9 => h9) rfl hin rfl (by decide +kernel) rfl rfl (Nat.le_of_ble_eq_true rfl) d_O_init_28 (fun H locs hP hD hS => ?_)
  have hP : va_P D classes [(h0, .inr (6, [.ref q1, .ref q2, .ref q3, .null, .null, .null, .int 0])), (q1, .inl (cI, 1101, .inl (fun _ => 0))), (q2, .inl (cI, 1101, .inl (fun _ => 0))), (q3, .inl (cI, 1101, .inl (fun _ => 0)))] H := hP
  have hD : va_D A [(h0, .inr (6, [.ref q1, .ref q2, .ref q3, .null, .null, .null, .int 0])), (q1, .inl (cI, 1101, .inl (fun _ => 0))), (q2, .inl (cI, 1101, .inl (fun _ => 0))), (q3, .inl (cI, 1101, .inl (fun _ => 0)))] := hD
  refine lv_aload_n hx hb d_O_init_31 rfl (lv_at hl 0 rfl) ?_
  refine lv_sipush (v := 1101) hx hb d_O_init_32 (by decide) ?_
  refine nwa (atype := .byte) (ty := .byte) (N' := 1101) (a0 := (1101, .inl (fun _ => 0))) hx hb (hk _ k_569) rfl hK.1 3 rfl (fun _ h => h) hP hD hS hA (zr_byte 1101) (by decide) (by decide) (by decide) (by decide) (by decide) d_O_init_35 (fun q4 H hP hD hS => ?_)
  have hP : va_P D classes [(h0, .inr (6, [.ref q1, .ref q2, .ref q3, .null, .null, .null, .int 0])), (q1, .inl (cI, 1101, .inl (fun _ => 0))), (q2, .inl (cI, 1101, .inl (fun _ => 0))), (q3, .inl (cI, 1101, .inl (fun _ => 0))), (q4, .inl (cB, 1101, .inl (fun _ => 0)))] H := hP
  have hD : va_D A [(h0, .inr (6, [.ref q1, .ref q2, .ref q3, .null, .null, .null, .int 0])), (q1, .inl (cI, 1101, .inl (fun _ => 0))), (q2, .inl (cI, 1101, .inl (fun _ => 0))), (q3, .inl (cI, 1101, .inl (fun _ => 0))), (q4, .inl (cB, 1101, .inl (fun _ => 0)))] := hD
  refine W.widen (k := 4) (n := 4404) (by decide) (by decide) ?_
  refine va_putF (D := D) (ci := 6) (v := .ref q4) (ty := .array .byte) (C := "SignMachine$Output") (T := F_O) (N := 7) hx hb hk fi_O ft_O ft_O_ok fn_O hown hK.1 hP hD hS 0 rfl rfl 3 (by decide) (hk _ k_610) (fun _ h9 => h9) rfl hin rfl (by decide +kernel) rfl rfl (Nat.le_of_ble_eq_true rfl) d_O_init_37 (fun H locs hP hD hS => ?_)
  have hP : va_P D classes [(h0, .inr (6, [.ref q1, .ref q2, .ref q3, .ref q4, .null, .null, .int 0])), (q1, .inl (cI, 1101, .inl (fun _ => 0))), (q2, .inl (cI, 1101, .inl (fun _ => 0))), (q3, .inl (cI, 1101, .inl (fun _ => 0))), (q4, .inl (cB, 1101, .inl (fun _ => 0)))] H := hP
  have hD : va_D A [(h0, .inr (6, [.ref q1, .ref q2, .ref q3, .ref q4, .null, .null, .int 0])), (q1, .inl (cI, 1101, .inl (fun _ => 0))), (q2, .inl (cI, 1101, .inl (fun _ => 0))), (q3, .inl (cI, 1101, .inl (fun _ => 0))), (q4, .inl (cB, 1101, .inl (fun _ => 0)))] := hD
  refine lv_aload_n hx hb d_O_init_40 rfl (lv_at hl 0 rfl) ?_
  refine lv_sipush (v := 1101) hx hb d_O_init_41 (by decide) ?_
  refine nwa (atype := .int) (ty := .int) (N' := 1101) (a0 := (1101, .inl (fun _ => 0))) hx hb (hk _ k_162) rfl hK.1 0 rfl (fun _ h => h) hP hD hS hA (zr_int 1101) (by decide) (by decide) (by decide) (by decide) (by decide) d_O_init_44 (fun q5 H hP hD hS => ?_)
  have hP : va_P D classes [(h0, .inr (6, [.ref q1, .ref q2, .ref q3, .ref q4, .null, .null, .int 0])), (q1, .inl (cI, 1101, .inl (fun _ => 0))), (q2, .inl (cI, 1101, .inl (fun _ => 0))), (q3, .inl (cI, 1101, .inl (fun _ => 0))), (q4, .inl (cB, 1101, .inl (fun _ => 0))), (q5, .inl (cI, 1101, .inl (fun _ => 0)))] H := hP
  have hD : va_D A [(h0, .inr (6, [.ref q1, .ref q2, .ref q3, .ref q4, .null, .null, .int 0])), (q1, .inl (cI, 1101, .inl (fun _ => 0))), (q2, .inl (cI, 1101, .inl (fun _ => 0))), (q3, .inl (cI, 1101, .inl (fun _ => 0))), (q4, .inl (cB, 1101, .inl (fun _ => 0))), (q5, .inl (cI, 1101, .inl (fun _ => 0)))] := hD
  refine W.widen (k := 5) (n := 5505) (by decide) (by decide) ?_
  refine va_putF (D := D) (ci := 6) (v := .ref q5) (ty := .array .int) (C := "SignMachine$Output") (T := F_O) (N := 7) hx hb hk fi_O ft_O ft_O_ok fn_O hown hK.1 hP hD hS 0 rfl rfl 4 (by decide) (hk _ k_611) (fun _ h9 => h9) rfl hin rfl (by decide +kernel) rfl rfl (Nat.le_of_ble_eq_true rfl) d_O_init_46 (fun H locs hP hD hS => ?_)
  have hP : va_P D classes [(h0, .inr (6, [.ref q1, .ref q2, .ref q3, .ref q4, .ref q5, .null, .int 0])), (q1, .inl (cI, 1101, .inl (fun _ => 0))), (q2, .inl (cI, 1101, .inl (fun _ => 0))), (q3, .inl (cI, 1101, .inl (fun _ => 0))), (q4, .inl (cB, 1101, .inl (fun _ => 0))), (q5, .inl (cI, 1101, .inl (fun _ => 0)))] H := hP
  have hD : va_D A [(h0, .inr (6, [.ref q1, .ref q2, .ref q3, .ref q4, .ref q5, .null, .int 0])), (q1, .inl (cI, 1101, .inl (fun _ => 0))), (q2, .inl (cI, 1101, .inl (fun _ => 0))), (q3, .inl (cI, 1101, .inl (fun _ => 0))), (q4, .inl (cB, 1101, .inl (fun _ => 0))), (q5, .inl (cI, 1101, .inl (fun _ => 0)))] := hD
  refine lv_aload_n hx hb d_O_init_49 rfl (lv_at hl 0 rfl) ?_
  refine lv_bipush (v := 10) hx hb d_O_init_50 (by decide) ?_
  refine nwa (atype := .int) (ty := .int) (N' := 10) (a0 := (10, .inl (fun _ => 0))) hx hb (hk _ k_162) rfl hK.1 0 rfl (fun _ h => h) hP hD hS hA (zr_int 10) (by decide) (by decide) (by decide) (by decide) (by decide) d_O_init_52 (fun q6 H hP hD hS => ?_)
  have hP : va_P D classes [(h0, .inr (6, [.ref q1, .ref q2, .ref q3, .ref q4, .ref q5, .null, .int 0])), (q1, .inl (cI, 1101, .inl (fun _ => 0))), (q2, .inl (cI, 1101, .inl (fun _ => 0))), (q3, .inl (cI, 1101, .inl (fun _ => 0))), (q4, .inl (cB, 1101, .inl (fun _ => 0))), (q5, .inl (cI, 1101, .inl (fun _ => 0))), (q6, .inl (cI, 10, .inl (fun _ => 0)))] H := hP
  have hD : va_D A [(h0, .inr (6, [.ref q1, .ref q2, .ref q3, .ref q4, .ref q5, .null, .int 0])), (q1, .inl (cI, 1101, .inl (fun _ => 0))), (q2, .inl (cI, 1101, .inl (fun _ => 0))), (q3, .inl (cI, 1101, .inl (fun _ => 0))), (q4, .inl (cB, 1101, .inl (fun _ => 0))), (q5, .inl (cI, 1101, .inl (fun _ => 0))), (q6, .inl (cI, 10, .inl (fun _ => 0)))] := hD
  refine W.widen (k := 6) (n := 5515) (by decide) (by decide) ?_
  refine va_putF (D := D) (ci := 6) (v := .ref q6) (ty := .array .int) (C := "SignMachine$Output") (T := F_O) (N := 7) hx hb hk fi_O ft_O ft_O_ok fn_O hown hK.1 hP hD hS 0 rfl rfl 5 (by decide) (hk _ k_612) (fun _ h9 => h9) rfl hin rfl (by decide +kernel) rfl rfl (Nat.le_of_ble_eq_true rfl) d_O_init_54 (fun H locs hP hD hS => ?_)
  have hP : va_P D classes [(h0, .inr (6, [.ref q1, .ref q2, .ref q3, .ref q4, .ref q5, .ref q6, .int 0])), (q1, .inl (cI, 1101, .inl (fun _ => 0))), (q2, .inl (cI, 1101, .inl (fun _ => 0))), (q3, .inl (cI, 1101, .inl (fun _ => 0))), (q4, .inl (cB, 1101, .inl (fun _ => 0))), (q5, .inl (cI, 1101, .inl (fun _ => 0))), (q6, .inl (cI, 10, .inl (fun _ => 0)))] H := hP
  have hD : va_D A [(h0, .inr (6, [.ref q1, .ref q2, .ref q3, .ref q4, .ref q5, .ref q6, .int 0])), (q1, .inl (cI, 1101, .inl (fun _ => 0))), (q2, .inl (cI, 1101, .inl (fun _ => 0))), (q3, .inl (cI, 1101, .inl (fun _ => 0))), (q4, .inl (cB, 1101, .inl (fun _ => 0))), (q5, .inl (cI, 1101, .inl (fun _ => 0))), (q6, .inl (cI, 10, .inl (fun _ => 0)))] := hD
  have hP9 := hP.sub (ws' := [(h0, .inr (6, [.ref q1, .ref q2, .ref q3, .ref q4, .ref q5, .ref q6, .int 0])), (q1, .inl (cI, 1101, .inl (fun _ => 0))), (q2, .inl (cI, 1101, .inl (fun _ => 0))), (q3, .inl (cI, 1101, .inl (fun _ => 0))), (q4, .inl (cB, 1101, .inl (fun _ => 0))), (q5, .inl (cI, 1101, .inl (fun _ => 0))), (q6, .inl (cI, 10, .inl (fun _ => 0)))]) [0, 1, 2, 3, 4, 5, 6] rfl
  have hD9 := hD.sub (ws' := [(h0, .inr (6, [.ref q1, .ref q2, .ref q3, .ref q4, .ref q5, .ref q6, .int 0])), (q1, .inl (cI, 1101, .inl (fun _ => 0))), (q2, .inl (cI, 1101, .inl (fun _ => 0))), (q3, .inl (cI, 1101, .inl (fun _ => 0))), (q4, .inl (cB, 1101, .inl (fun _ => 0))), (q5, .inl (cI, 1101, .inl (fun _ => 0))), (q6, .inl (cI, 10, .inl (fun _ => 0)))]) [0, 1, 2, 3, 4, 5, 6] (by decide) rfl
  exact W.vret hx hb hr (fun t ht hW => ⟨⟨(q1, q2, q3, q4, q5, q6), rfl, trivial, by show va_P D classes _ t.heap; rw [ht]; exact hP9, hD9⟩, hS.F ht⟩) hS.2.2 d_O_init_57
theorem i_O_init {R : Room} {s : State} {args : Array Value} {own host : String} {index : Nat} (hk : ∀ w ∈ tb, w.before args s = true) (hl : va_Nw (.methodLinkNest own index y_O_init host) s) (hR : 1 + 1 ≤ R.frames ∧ 8 + (1 + 11) + 12 ≤ R.locals) : va_CN R s args own index y_O_init host b_O_init 1 none (.code y_O_init b_O_init 1 none :: tb) ({ frames := 1, cells := 6, slots := 5515, locals := 12 }) 6 5515 0 ∧ (y_O_init).name = "<init>" ∧ (Cond.instanceMethod y_O_init).before args s = true := ⟨va_cnB 0 hk (gi_t k_605) rfl rfl rfl hl (hk _ k_126) h_O_init hR, rfl, hk _ k_604⟩
set_option maxHeartbeats 4000000 in
set_option maxRecDepth 100000 in
theorem c_A_init (l : Launch) (D : va_G) (cI cJ cZ cB : ClassId) (h0 sz : Nat) : Met l y_A_init (.code y_A_init b_A_init 1 none :: tb) ({ frames := 2, cells := 15, slots := 9858, locals := 32 }) (pM D cI cJ cZ cB [(h0, .inr (3, [.null, .null, .null, .int 0, .int 0, .int 0, .int 0, .int 0, .int 0, .long 0, .int 0, .null, .int 0, .int 0, .int 0]))] sz [.ref h0]) (qN D (fun _ => True) (fun (u : Nat × Nat × Nat × Nat × Nat × Nat × Nat × Nat × Nat × Nat × Nat × Nat × Nat × Nat × Nat) => match u with | (q1, q1z1, q2, q1z2, q2z2, q3z2, q4z2, q5z2, q3, q1z3, q2z3, q3z3, q4z3, q5z3, q6z3) => [(h0, .inr (3, [.ref q1, .ref q2, .ref q3, .int 0, .int 0, .int (-1 : Int32), .int 0, .int 0, .int 0, .long 0, .int 0, .null, .int 0, .int 0, .int 0])), (q1, .inr (4, [.ref q1z1, .int 0, .int 0, .int 0, .int 0, .int 0, .int 0, .long 0, .int 0])), (q1z1, .inl (cB, 4000, .inl (fun _ => 0))), (q2, .inr (5, [.ref q1z2, .ref q2z2, .ref q3z2, .ref q4z2, .ref q5z2, .int 0, .int 0])), (q1z2, .inl (cJ, 100, .inr (.inl (fun _ => 0)))), (q2z2, .inl (cI, 100, .inl (fun _ => 0))), (q3z2, .inl (cZ, 100, .inl (fun _ => 0))), (q4z2, .inl (cI, 10, .inl (fun _ => 0))), (q5z2, .inl (cZ, 10, .inl (fun _ => 0))), (q3, .inr (6, [.ref q1z3, .ref q2z3, .ref q3z3, .ref q4z3, .ref q5z3, .ref q6z3, .int 0])), (q1z3, .inl (cI, 1101, .inl (fun _ => 0))), (q2z3, .inl (cI, 1101, .inl (fun _ => 0))), (q3z3, .inl (cI, 1101, .inl (fun _ => 0))), (q4z3, .inl (cB, 1101, .inl (fun _ => 0))), (q5z3, .inl (cI, 1101, .inl (fun _ => 0))), (q6z3, .inl (cI, 10, .inl (fun _ => 0)))]) (va_A [(h0, .inr (3, [.null, .null, .null, .int 0, .int 0, .int 0, .int 0, .int 0, .int 0, .long 0, .int 0, .null, .int 0, .int 0, .int 0]))] sz)) 15 9858 (va_A [(h0, .inr (3, [.null, .null, .null, .int 0, .int 0, .int 0, .int 0, .int 0, .int 0, .long 0, .int 0, .null, .int 0, .int 0, .int 0]))] sz) := by
  refine Met.ofW (cc := b_A_init) (maxL := 1) (ret := none) (by decide) rfl ?_
  intro p e s m args below meth c s₁ B hml hv
  obtain ⟨rfl, hsz, hK, hP, hD0⟩ := hv
  subst hsz
  have hD := hD0.self (sz := s.heap.size)
  generalize hAe : va_A [(h0, .inr (3, [.null, .null, .null, .int 0, .int 0, .int 0, .int 0, .int 0, .int 0, .long 0, .int 0, .null, .int 0, .int 0, .int 0]))] s.heap.size = A at hD ⊢
  have hA : ∀ q : Nat, s.heap.size ≤ q → A q := fun q h => by rw [← hAe]; exact Or.inr h
  have hS : va_S A s.heap s.heap [] := va_S.rf
  have hx := B.exec
  have hb := B.bytes
  have hr := B.returns
  have hts := atoms_spec (ws := .code y_A_init b_A_init 1 none :: tb) B.pre
  have hk : ∀ w ∈ tb, w.before [.ref h0].toArray s = true := fun w h => hts w (List.mem_cons_of_mem _ h)
  have hown : s.vm.findClass "SignMachine$Assembler" = some m.cls := findClass_of_methodNamed B.named
  have hlocks := B.notSynchronized
  have hin : meth.name = "<init>" := (name_of_methodNamed B.named B.method).1
  have hl := lv_entry ([.ref h0]) (n := 1) (Nat.le_of_ble_eq_true rfl)
  rw [lg_entry_eq]
  generalize (lg_sl ([.ref h0]) ++ List.replicate (1 - (lg_sl ([.ref h0])).length) Slot.unset).toArray = ls at hl ⊢
  have hl : lv_has ls 1 [(0, .ref h0)] := hl
  refine lv_aload_n hx hb d_A_init_0 rfl (lv_at hl 0 rfl) ?_
  refine W.objInit hx hb hown (hk _ k_527) (hk _ k_140) (hk _ k_obj) rfl (by rw [hml]; exact hl.1) rfl d_A_init_1 (Nat.le_of_ble_eq_true rfl) (Nat.le_of_ble_eq_true rfl) ?_
  refine W.eq (g2 := F0 m 4 ls []) rfl ?_
  refine lv_aload_n hx hb d_A_init_4 rfl (lv_at hl 0 rfl) ?_
  refine va_new (ci := 4) (fs := [.null, .int 0, .int 0, .int 0, .int 0, .int 0, .int 0, .long 0, .int 0]) (C := "SignMachine$Source") (T := F_R) (N := 9) hx hb hk fi_R ft_R ft_R_ok hown (hk _ k_528) (hk _ k_529) (hk _ k_124) hK.1 hP hD hS hA rfl (by decide +kernel) (by decide) (by decide) d_A_init_5 (fun q1 H hP hD hS => ?_)
  have hP : va_P D classes [(h0, .inr (3, [.null, .null, .null, .int 0, .int 0, .int 0, .int 0, .int 0, .int 0, .long 0, .int 0, .null, .int 0, .int 0, .int 0])), (q1, .inr (4, [.null, .int 0, .int 0, .int 0, .int 0, .int 0, .int 0, .long 0, .int 0]))] H := hP
  have hD : va_D A [(h0, .inr (3, [.null, .null, .null, .int 0, .int 0, .int 0, .int 0, .int 0, .int 0, .long 0, .int 0, .null, .int 0, .int 0, .int 0])), (q1, .inr (4, [.null, .int 0, .int 0, .int 0, .int 0, .int 0, .int 0, .long 0, .int 0]))] := hD
  refine W.widen (k := 1) (n := 9) (by decide) (by decide) ?_
  refine lv_dup hx hb d_A_init_8 rfl ?_
  have hPc := hP.sub (ws' := [(q1, .inr (4, [.null, .int 0, .int 0, .int 0, .int 0, .int 0, .int 0, .long 0, .int 0]))]) [1] rfl
  have hDc := hD.sub (ws' := [(q1, .inr (4, [.null, .int 0, .int 0, .int 0, .int 0, .int 0, .int 0, .long 0, .int 0]))]) [1] (by decide) rfl
  have hFc := va_free (wc := [(q1, .inr (4, [.null, .int 0, .int 0, .int 0, .int 0, .int 0, .int 0, .long 0, .int 0]))]) hD hS hA [1] rfl
  refine va_callv (va_runIN (As := []) (rest := [.ref q1, .ref h0]) ⟨hx, hb, hml, hown, hk⟩ (c_R_init l D cI cJ cZ cB q1 H.size) (i_R_init hk (hK.2 _ n_530) ⟨Nat.le_of_ble_eq_true rfl, Nat.le_of_ble_eq_true rfl⟩) (pM_i hK hPc hDc) rfl rfl hl.1 rfl (lv_room (Nat.le_of_ble_eq_true rfl)) d_A_init_9 ⟨by decide, by decide⟩) hS (fun q _ h => hFc q h) hFc (fun u t H locs ht hvm hw hB hz1 hk1 hS => ?_)
  obtain ⟨q1z1, hu⟩ : ∃ y, y = u := ⟨_, rfl⟩
  subst hu
  obtain ⟨hP1, hD1⟩ := hB
  try dsimp only at hP1 hD1
  rw [ht] at hP1
  obtain ⟨hP, hD⟩ := va_join (wr := [(h0, .inr (3, [.null, .null, .null, .int 0, .int 0, .int 0, .int 0, .int 0, .int 0, .long 0, .int 0, .null, .int 0, .int 0, .int 0]))]) (w1 := [(q1, .inr (4, [.ref q1z1, .int 0, .int 0, .int 0, .int 0, .int 0, .int 0, .long 0, .int 0])), (q1z1, .inl (cB, 4000, .inl (fun _ => 0)))]) hP hD [1] [0] rfl rfl (by decide) (by decide) hk1 hFc hP1 hD1
  have hP : va_P D classes [(h0, .inr (3, [.null, .null, .null, .int 0, .int 0, .int 0, .int 0, .int 0, .int 0, .long 0, .int 0, .null, .int 0, .int 0, .int 0])), (q1, .inr (4, [.ref q1z1, .int 0, .int 0, .int 0, .int 0, .int 0, .int 0, .long 0, .int 0])), (q1z1, .inl (cB, 4000, .inl (fun _ => 0)))] H := hP
  have hD : va_D A [(h0, .inr (3, [.null, .null, .null, .int 0, .int 0, .int 0, .int 0, .int 0, .int 0, .long 0, .int 0, .null, .int 0, .int 0, .int 0])), (q1, .inr (4, [.ref q1z1, .int 0, .int 0, .int 0, .int 0, .int 0, .int 0, .long 0, .int 0])), (q1z1, .inl (cB, 4000, .inl (fun _ => 0)))] := hD
  refine W.widen (k := 2) (n := 4009) (by decide) (by decide) ?_
  refine va_putF (D := D) (ci := 3) (v := .ref q1) (ty := .object "SignMachine$Source") (C := "SignMachine$Assembler") (T := F_A) (N := 15) hx hb hk fi_A ft_A ft_A_ok fn_A hown hK.1 hP hD hS 0 rfl rfl 0 (by decide) (hk _ k_631) (fun _ h9 => h9) rfl hin rfl (by decide +kernel) rfl rfl (Nat.le_of_ble_eq_true rfl) d_A_init_12 (fun H locs hP hD hS => ?_)
  have hP : va_P D classes [(h0, .inr (3, [.ref q1, .null, .null, .int 0, .int 0, .int 0, .int 0, .int 0, .int 0, .long 0, .int 0, .null, .int 0, .int 0, .int 0])), (q1, .inr (4, [.ref q1z1, .int 0, .int 0, .int 0, .int 0, .int 0, .int 0, .long 0, .int 0])), (q1z1, .inl (cB, 4000, .inl (fun _ => 0)))] H := hP
  have hD : va_D A [(h0, .inr (3, [.ref q1, .null, .null, .int 0, .int 0, .int 0, .int 0, .int 0, .int 0, .long 0, .int 0, .null, .int 0, .int 0, .int 0])), (q1, .inr (4, [.ref q1z1, .int 0, .int 0, .int 0, .int 0, .int 0, .int 0, .long 0, .int 0])), (q1z1, .inl (cB, 4000, .inl (fun _ => 0)))] := hD
  refine lv_aload_n hx hb d_A_init_15 rfl (lv_at hl 0 rfl) ?_
  refine va_new (ci := 5) (fs := [.null, .null, .null, .null, .null, .int 0, .int 0]) (C := "SignMachine$Names") (T := F_N) (N := 7) hx hb hk fi_N ft_N ft_N_ok hown (hk _ k_570) (hk _ k_571) (hk _ k_125) hK.1 hP hD hS hA rfl (by decide +kernel) (by decide) (by decide) d_A_init_16 (fun q2 H hP hD hS => ?_)
  have hP : va_P D classes [(h0, .inr (3, [.ref q1, .null, .null, .int 0, .int 0, .int 0, .int 0, .int 0, .int 0, .long 0, .int 0, .null, .int 0, .int 0, .int 0])), (q1, .inr (4, [.ref q1z1, .int 0, .int 0, .int 0, .int 0, .int 0, .int 0, .long 0, .int 0])), (q1z1, .inl (cB, 4000, .inl (fun _ => 0))), (q2, .inr (5, [.null, .null, .null, .null, .null, .int 0, .int 0]))] H := hP
  have hD : va_D A [(h0, .inr (3, [.ref q1, .null, .null, .int 0, .int 0, .int 0, .int 0, .int 0, .int 0, .long 0, .int 0, .null, .int 0, .int 0, .int 0])), (q1, .inr (4, [.ref q1z1, .int 0, .int 0, .int 0, .int 0, .int 0, .int 0, .long 0, .int 0])), (q1z1, .inl (cB, 4000, .inl (fun _ => 0))), (q2, .inr (5, [.null, .null, .null, .null, .null, .int 0, .int 0]))] := hD
  refine W.widen (k := 3) (n := 4016) (by decide) (by decide) ?_
  refine lv_dup hx hb d_A_init_19 rfl ?_
  have hPc := hP.sub (ws' := [(q2, .inr (5, [.null, .null, .null, .null, .null, .int 0, .int 0]))]) [3] rfl
  have hDc := hD.sub (ws' := [(q2, .inr (5, [.null, .null, .null, .null, .null, .int 0, .int 0]))]) [3] (by decide) rfl
  have hFc := va_free (wc := [(q2, .inr (5, [.null, .null, .null, .null, .null, .int 0, .int 0]))]) hD hS hA [3] rfl
  refine va_callv (va_runIN (As := []) (rest := [.ref q2, .ref h0]) ⟨hx, hb, hml, hown, hk⟩ (c_N_init l D cI cJ cZ cB q2 H.size) (i_N_init hk (hK.2 _ n_572) ⟨Nat.le_of_ble_eq_true rfl, Nat.le_of_ble_eq_true rfl⟩) (pM_i hK hPc hDc) rfl rfl hl.1 rfl (lv_room (Nat.le_of_ble_eq_true rfl)) d_A_init_20 ⟨by decide, by decide⟩) hS (fun q _ h => hFc q h) hFc (fun u t H locs ht hvm hw hB hz1 hk1 hS => ?_)
  obtain ⟨q1z2, q2z2, q3z2, q4z2, q5z2⟩ := u
  obtain ⟨hP1, hD1⟩ := hB
  try dsimp only at hP1 hD1
  rw [ht] at hP1
  obtain ⟨hP, hD⟩ := va_join (wr := [(h0, .inr (3, [.ref q1, .null, .null, .int 0, .int 0, .int 0, .int 0, .int 0, .int 0, .long 0, .int 0, .null, .int 0, .int 0, .int 0])), (q1, .inr (4, [.ref q1z1, .int 0, .int 0, .int 0, .int 0, .int 0, .int 0, .long 0, .int 0])), (q1z1, .inl (cB, 4000, .inl (fun _ => 0)))]) (w1 := [(q2, .inr (5, [.ref q1z2, .ref q2z2, .ref q3z2, .ref q4z2, .ref q5z2, .int 0, .int 0])), (q1z2, .inl (cJ, 100, .inr (.inl (fun _ => 0)))), (q2z2, .inl (cI, 100, .inl (fun _ => 0))), (q3z2, .inl (cZ, 100, .inl (fun _ => 0))), (q4z2, .inl (cI, 10, .inl (fun _ => 0))), (q5z2, .inl (cZ, 10, .inl (fun _ => 0)))]) hP hD [3] [0, 1, 2] rfl rfl (by decide) (by decide) hk1 hFc hP1 hD1
  have hP : va_P D classes [(h0, .inr (3, [.ref q1, .null, .null, .int 0, .int 0, .int 0, .int 0, .int 0, .int 0, .long 0, .int 0, .null, .int 0, .int 0, .int 0])), (q1, .inr (4, [.ref q1z1, .int 0, .int 0, .int 0, .int 0, .int 0, .int 0, .long 0, .int 0])), (q1z1, .inl (cB, 4000, .inl (fun _ => 0))), (q2, .inr (5, [.ref q1z2, .ref q2z2, .ref q3z2, .ref q4z2, .ref q5z2, .int 0, .int 0])), (q1z2, .inl (cJ, 100, .inr (.inl (fun _ => 0)))), (q2z2, .inl (cI, 100, .inl (fun _ => 0))), (q3z2, .inl (cZ, 100, .inl (fun _ => 0))), (q4z2, .inl (cI, 10, .inl (fun _ => 0))), (q5z2, .inl (cZ, 10, .inl (fun _ => 0)))] H := hP
  have hD : va_D A [(h0, .inr (3, [.ref q1, .null, .null, .int 0, .int 0, .int 0, .int 0, .int 0, .int 0, .long 0, .int 0, .null, .int 0, .int 0, .int 0])), (q1, .inr (4, [.ref q1z1, .int 0, .int 0, .int 0, .int 0, .int 0, .int 0, .long 0, .int 0])), (q1z1, .inl (cB, 4000, .inl (fun _ => 0))), (q2, .inr (5, [.ref q1z2, .ref q2z2, .ref q3z2, .ref q4z2, .ref q5z2, .int 0, .int 0])), (q1z2, .inl (cJ, 100, .inr (.inl (fun _ => 0)))), (q2z2, .inl (cI, 100, .inl (fun _ => 0))), (q3z2, .inl (cZ, 100, .inl (fun _ => 0))), (q4z2, .inl (cI, 10, .inl (fun _ => 0))), (q5z2, .inl (cZ, 10, .inl (fun _ => 0)))] := hD
  refine W.widen (k := 8) (n := 4336) (by decide) (by decide) ?_
  refine va_putF (D := D) (ci := 3) (v := .ref q2) (ty := .object "SignMachine$Names") (C := "SignMachine$Assembler") (T := F_A) (N := 15) hx hb hk fi_A ft_A ft_A_ok fn_A hown hK.1 hP hD hS 0 rfl rfl 1 (by decide) (hk _ k_633) (fun _ h9 => h9) rfl hin rfl (by decide +kernel) rfl rfl (Nat.le_of_ble_eq_true rfl) d_A_init_23 (fun H locs hP hD hS => ?_)
  have hP : va_P D classes [(h0, .inr (3, [.ref q1, .ref q2, .null, .int 0, .int 0, .int 0, .int 0, .int 0, .int 0, .long 0, .int 0, .null, .int 0, .int 0, .int 0])), (q1, .inr (4, [.ref q1z1, .int 0, .int 0, .int 0, .int 0, .int 0, .int 0, .long 0, .int 0])), (q1z1, .inl (cB, 4000, .inl (fun _ => 0))), (q2, .inr (5, [.ref q1z2, .ref q2z2, .ref q3z2, .ref q4z2, .ref q5z2, .int 0, .int 0])), (q1z2, .inl (cJ, 100, .inr (.inl (fun _ => 0)))), (q2z2, .inl (cI, 100, .inl (fun _ => 0))), (q3z2, .inl (cZ, 100, .inl (fun _ => 0))), (q4z2, .inl (cI, 10, .inl (fun _ => 0))), (q5z2, .inl (cZ, 10, .inl (fun _ => 0)))] H := hP
  have hD : va_D A [(h0, .inr (3, [.ref q1, .ref q2, .null, .int 0, .int 0, .int 0, .int 0, .int 0, .int 0, .long 0, .int 0, .null, .int 0, .int 0, .int 0])), (q1, .inr (4, [.ref q1z1, .int 0, .int 0, .int 0, .int 0, .int 0, .int 0, .long 0, .int 0])), (q1z1, .inl (cB, 4000, .inl (fun _ => 0))), (q2, .inr (5, [.ref q1z2, .ref q2z2, .ref q3z2, .ref q4z2, .ref q5z2, .int 0, .int 0])), (q1z2, .inl (cJ, 100, .inr (.inl (fun _ => 0)))), (q2z2, .inl (cI, 100, .inl (fun _ => 0))), (q3z2, .inl (cZ, 100, .inl (fun _ => 0))), (q4z2, .inl (cI, 10, .inl (fun _ => 0))), (q5z2, .inl (cZ, 10, .inl (fun _ => 0)))] := hD
  refine lv_aload_n hx hb d_A_init_26 rfl (lv_at hl 0 rfl) ?_
  refine va_new (ci := 6) (fs := [.null, .null, .null, .null, .null, .null, .int 0]) (C := "SignMachine$Output") (T := F_O) (N := 7) hx hb hk fi_O ft_O ft_O_ok hown (hk _ k_601) (hk _ k_602) (hk _ k_126) hK.1 hP hD hS hA rfl (by decide +kernel) (by decide) (by decide) d_A_init_27 (fun q3 H hP hD hS => ?_)
  have hP : va_P D classes [(h0, .inr (3, [.ref q1, .ref q2, .null, .int 0, .int 0, .int 0, .int 0, .int 0, .int 0, .long 0, .int 0, .null, .int 0, .int 0, .int 0])), (q1, .inr (4, [.ref q1z1, .int 0, .int 0, .int 0, .int 0, .int 0, .int 0, .long 0, .int 0])), (q1z1, .inl (cB, 4000, .inl (fun _ => 0))), (q2, .inr (5, [.ref q1z2, .ref q2z2, .ref q3z2, .ref q4z2, .ref q5z2, .int 0, .int 0])), (q1z2, .inl (cJ, 100, .inr (.inl (fun _ => 0)))), (q2z2, .inl (cI, 100, .inl (fun _ => 0))), (q3z2, .inl (cZ, 100, .inl (fun _ => 0))), (q4z2, .inl (cI, 10, .inl (fun _ => 0))), (q5z2, .inl (cZ, 10, .inl (fun _ => 0))), (q3, .inr (6, [.null, .null, .null, .null, .null, .null, .int 0]))] H := hP
  have hD : va_D A [(h0, .inr (3, [.ref q1, .ref q2, .null, .int 0, .int 0, .int 0, .int 0, .int 0, .int 0, .long 0, .int 0, .null, .int 0, .int 0, .int 0])), (q1, .inr (4, [.ref q1z1, .int 0, .int 0, .int 0, .int 0, .int 0, .int 0, .long 0, .int 0])), (q1z1, .inl (cB, 4000, .inl (fun _ => 0))), (q2, .inr (5, [.ref q1z2, .ref q2z2, .ref q3z2, .ref q4z2, .ref q5z2, .int 0, .int 0])), (q1z2, .inl (cJ, 100, .inr (.inl (fun _ => 0)))), (q2z2, .inl (cI, 100, .inl (fun _ => 0))), (q3z2, .inl (cZ, 100, .inl (fun _ => 0))), (q4z2, .inl (cI, 10, .inl (fun _ => 0))), (q5z2, .inl (cZ, 10, .inl (fun _ => 0))), (q3, .inr (6, [.null, .null, .null, .null, .null, .null, .int 0]))] := hD
  refine W.widen (k := 9) (n := 4343) (by decide) (by decide) ?_
  refine lv_dup hx hb d_A_init_30 rfl ?_
  have hPc := hP.sub (ws' := [(q3, .inr (6, [.null, .null, .null, .null, .null, .null, .int 0]))]) [9] rfl
  have hDc := hD.sub (ws' := [(q3, .inr (6, [.null, .null, .null, .null, .null, .null, .int 0]))]) [9] (by decide) rfl
  have hFc := va_free (wc := [(q3, .inr (6, [.null, .null, .null, .null, .null, .null, .int 0]))]) hD hS hA [9] rfl
  refine va_callv (va_runIN (As := []) (rest := [.ref q3, .ref h0]) ⟨hx, hb, hml, hown, hk⟩ (c_O_init l D cI cJ cZ cB q3 H.size) (i_O_init hk (hK.2 _ n_603) ⟨Nat.le_of_ble_eq_true rfl, Nat.le_of_ble_eq_true rfl⟩) (pM_i hK hPc hDc) rfl rfl hl.1 rfl (lv_room (Nat.le_of_ble_eq_true rfl)) d_A_init_31 ⟨by decide, by decide⟩) hS (fun q _ h => hFc q h) hFc (fun u t H locs ht hvm hw hB hz1 hk1 hS => ?_)
  obtain ⟨q1z3, q2z3, q3z3, q4z3, q5z3, q6z3⟩ := u
  obtain ⟨hP1, hD1⟩ := hB
  try dsimp only at hP1 hD1
  rw [ht] at hP1
  obtain ⟨hP, hD⟩ := va_join (wr := [(h0, .inr (3, [.ref q1, .ref q2, .null, .int 0, .int 0, .int 0, .int 0, .int 0, .int 0, .long 0, .int 0, .null, .int 0, .int 0, .int 0])), (q1, .inr (4, [.ref q1z1, .int 0, .int 0, .int 0, .int 0, .int 0, .int 0, .long 0, .int 0])), (q1z1, .inl (cB, 4000, .inl (fun _ => 0))), (q2, .inr (5, [.ref q1z2, .ref q2z2, .ref q3z2, .ref q4z2, .ref q5z2, .int 0, .int 0])), (q1z2, .inl (cJ, 100, .inr (.inl (fun _ => 0)))), (q2z2, .inl (cI, 100, .inl (fun _ => 0))), (q3z2, .inl (cZ, 100, .inl (fun _ => 0))), (q4z2, .inl (cI, 10, .inl (fun _ => 0))), (q5z2, .inl (cZ, 10, .inl (fun _ => 0)))]) (w1 := [(q3, .inr (6, [.ref q1z3, .ref q2z3, .ref q3z3, .ref q4z3, .ref q5z3, .ref q6z3, .int 0])), (q1z3, .inl (cI, 1101, .inl (fun _ => 0))), (q2z3, .inl (cI, 1101, .inl (fun _ => 0))), (q3z3, .inl (cI, 1101, .inl (fun _ => 0))), (q4z3, .inl (cB, 1101, .inl (fun _ => 0))), (q5z3, .inl (cI, 1101, .inl (fun _ => 0))), (q6z3, .inl (cI, 10, .inl (fun _ => 0)))]) hP hD [9] [0, 1, 2, 3, 4, 5, 6, 7, 8] rfl rfl (by decide) (by decide) hk1 hFc hP1 hD1
  have hP : va_P D classes [(h0, .inr (3, [.ref q1, .ref q2, .null, .int 0, .int 0, .int 0, .int 0, .int 0, .int 0, .long 0, .int 0, .null, .int 0, .int 0, .int 0])), (q1, .inr (4, [.ref q1z1, .int 0, .int 0, .int 0, .int 0, .int 0, .int 0, .long 0, .int 0])), (q1z1, .inl (cB, 4000, .inl (fun _ => 0))), (q2, .inr (5, [.ref q1z2, .ref q2z2, .ref q3z2, .ref q4z2, .ref q5z2, .int 0, .int 0])), (q1z2, .inl (cJ, 100, .inr (.inl (fun _ => 0)))), (q2z2, .inl (cI, 100, .inl (fun _ => 0))), (q3z2, .inl (cZ, 100, .inl (fun _ => 0))), (q4z2, .inl (cI, 10, .inl (fun _ => 0))), (q5z2, .inl (cZ, 10, .inl (fun _ => 0))), (q3, .inr (6, [.ref q1z3, .ref q2z3, .ref q3z3, .ref q4z3, .ref q5z3, .ref q6z3, .int 0])), (q1z3, .inl (cI, 1101, .inl (fun _ => 0))), (q2z3, .inl (cI, 1101, .inl (fun _ => 0))), (q3z3, .inl (cI, 1101, .inl (fun _ => 0))), (q4z3, .inl (cB, 1101, .inl (fun _ => 0))), (q5z3, .inl (cI, 1101, .inl (fun _ => 0))), (q6z3, .inl (cI, 10, .inl (fun _ => 0)))] H := hP
  have hD : va_D A [(h0, .inr (3, [.ref q1, .ref q2, .null, .int 0, .int 0, .int 0, .int 0, .int 0, .int 0, .long 0, .int 0, .null, .int 0, .int 0, .int 0])), (q1, .inr (4, [.ref q1z1, .int 0, .int 0, .int 0, .int 0, .int 0, .int 0, .long 0, .int 0])), (q1z1, .inl (cB, 4000, .inl (fun _ => 0))), (q2, .inr (5, [.ref q1z2, .ref q2z2, .ref q3z2, .ref q4z2, .ref q5z2, .int 0, .int 0])), (q1z2, .inl (cJ, 100, .inr (.inl (fun _ => 0)))), (q2z2, .inl (cI, 100, .inl (fun _ => 0))), (q3z2, .inl (cZ, 100, .inl (fun _ => 0))), (q4z2, .inl (cI, 10, .inl (fun _ => 0))), (q5z2, .inl (cZ, 10, .inl (fun _ => 0))), (q3, .inr (6, [.ref q1z3, .ref q2z3, .ref q3z3, .ref q4z3, .ref q5z3, .ref q6z3, .int 0])), (q1z3, .inl (cI, 1101, .inl (fun _ => 0))), (q2z3, .inl (cI, 1101, .inl (fun _ => 0))), (q3z3, .inl (cI, 1101, .inl (fun _ => 0))), (q4z3, .inl (cB, 1101, .inl (fun _ => 0))), (q5z3, .inl (cI, 1101, .inl (fun _ => 0))), (q6z3, .inl (cI, 10, .inl (fun _ => 0)))] := hD
  refine W.widen (k := 15) (n := 9858) (by decide) (by decide) ?_
  refine va_putF (D := D) (ci := 3) (v := .ref q3) (ty := .object "SignMachine$Output") (C := "SignMachine$Assembler") (T := F_A) (N := 15) hx hb hk fi_A ft_A ft_A_ok fn_A hown hK.1 hP hD hS 0 rfl rfl 2 (by decide) (hk _ k_634) (fun _ h9 => h9) rfl hin rfl (by decide +kernel) rfl rfl (Nat.le_of_ble_eq_true rfl) d_A_init_34 (fun H locs hP hD hS => ?_)
  have hP : va_P D classes [(h0, .inr (3, [.ref q1, .ref q2, .ref q3, .int 0, .int 0, .int 0, .int 0, .int 0, .int 0, .long 0, .int 0, .null, .int 0, .int 0, .int 0])), (q1, .inr (4, [.ref q1z1, .int 0, .int 0, .int 0, .int 0, .int 0, .int 0, .long 0, .int 0])), (q1z1, .inl (cB, 4000, .inl (fun _ => 0))), (q2, .inr (5, [.ref q1z2, .ref q2z2, .ref q3z2, .ref q4z2, .ref q5z2, .int 0, .int 0])), (q1z2, .inl (cJ, 100, .inr (.inl (fun _ => 0)))), (q2z2, .inl (cI, 100, .inl (fun _ => 0))), (q3z2, .inl (cZ, 100, .inl (fun _ => 0))), (q4z2, .inl (cI, 10, .inl (fun _ => 0))), (q5z2, .inl (cZ, 10, .inl (fun _ => 0))), (q3, .inr (6, [.ref q1z3, .ref q2z3, .ref q3z3, .ref q4z3, .ref q5z3, .ref q6z3, .int 0])), (q1z3, .inl (cI, 1101, .inl (fun _ => 0))), (q2z3, .inl (cI, 1101, .inl (fun _ => 0))), (q3z3, .inl (cI, 1101, .inl (fun _ => 0))), (q4z3, .inl (cB, 1101, .inl (fun _ => 0))), (q5z3, .inl (cI, 1101, .inl (fun _ => 0))), (q6z3, .inl (cI, 10, .inl (fun _ => 0)))] H := hP
  have hD : va_D A [(h0, .inr (3, [.ref q1, .ref q2, .ref q3, .int 0, .int 0, .int 0, .int 0, .int 0, .int 0, .long 0, .int 0, .null, .int 0, .int 0, .int 0])), (q1, .inr (4, [.ref q1z1, .int 0, .int 0, .int 0, .int 0, .int 0, .int 0, .long 0, .int 0])), (q1z1, .inl (cB, 4000, .inl (fun _ => 0))), (q2, .inr (5, [.ref q1z2, .ref q2z2, .ref q3z2, .ref q4z2, .ref q5z2, .int 0, .int 0])), (q1z2, .inl (cJ, 100, .inr (.inl (fun _ => 0)))), (q2z2, .inl (cI, 100, .inl (fun _ => 0))), (q3z2, .inl (cZ, 100, .inl (fun _ => 0))), (q4z2, .inl (cI, 10, .inl (fun _ => 0))), (q5z2, .inl (cZ, 10, .inl (fun _ => 0))), (q3, .inr (6, [.ref q1z3, .ref q2z3, .ref q3z3, .ref q4z3, .ref q5z3, .ref q6z3, .int 0])), (q1z3, .inl (cI, 1101, .inl (fun _ => 0))), (q2z3, .inl (cI, 1101, .inl (fun _ => 0))), (q3z3, .inl (cI, 1101, .inl (fun _ => 0))), (q4z3, .inl (cB, 1101, .inl (fun _ => 0))), (q5z3, .inl (cI, 1101, .inl (fun _ => 0))), (q6z3, .inl (cI, 10, .inl (fun _ => 0)))] := hD
  refine lv_aload_n hx hb d_A_init_37 rfl (lv_at hl 0 rfl) ?_
  refine lv_iconst (v := (-1)) hx hb d_A_init_38 (by decide) ?_
  refine va_put (D := D) (ci := 3) (v := .int (-1 : Int32)) (ty := .int) (C := "SignMachine$Assembler") (T := F_A) (N := 15) hx hb hk fi_A ft_A ft_A_ok fn_A hown hK.1 hP hD hS 0 rfl rfl 5 (by decide) (hk _ k_640) (fun _ h9 => h9) rfl (by decide +kernel) rfl rfl (Nat.le_of_ble_eq_true rfl) d_A_init_39 (fun H locs hP hD hS => ?_)
  have hP : va_P D classes [(h0, .inr (3, [.ref q1, .ref q2, .ref q3, .int 0, .int 0, .int (-1 : Int32), .int 0, .int 0, .int 0, .long 0, .int 0, .null, .int 0, .int 0, .int 0])), (q1, .inr (4, [.ref q1z1, .int 0, .int 0, .int 0, .int 0, .int 0, .int 0, .long 0, .int 0])), (q1z1, .inl (cB, 4000, .inl (fun _ => 0))), (q2, .inr (5, [.ref q1z2, .ref q2z2, .ref q3z2, .ref q4z2, .ref q5z2, .int 0, .int 0])), (q1z2, .inl (cJ, 100, .inr (.inl (fun _ => 0)))), (q2z2, .inl (cI, 100, .inl (fun _ => 0))), (q3z2, .inl (cZ, 100, .inl (fun _ => 0))), (q4z2, .inl (cI, 10, .inl (fun _ => 0))), (q5z2, .inl (cZ, 10, .inl (fun _ => 0))), (q3, .inr (6, [.ref q1z3, .ref q2z3, .ref q3z3, .ref q4z3, .ref q5z3, .ref q6z3, .int 0])), (q1z3, .inl (cI, 1101, .inl (fun _ => 0))), (q2z3, .inl (cI, 1101, .inl (fun _ => 0))), (q3z3, .inl (cI, 1101, .inl (fun _ => 0))), (q4z3, .inl (cB, 1101, .inl (fun _ => 0))), (q5z3, .inl (cI, 1101, .inl (fun _ => 0))), (q6z3, .inl (cI, 10, .inl (fun _ => 0)))] H := hP
  have hD : va_D A [(h0, .inr (3, [.ref q1, .ref q2, .ref q3, .int 0, .int 0, .int (-1 : Int32), .int 0, .int 0, .int 0, .long 0, .int 0, .null, .int 0, .int 0, .int 0])), (q1, .inr (4, [.ref q1z1, .int 0, .int 0, .int 0, .int 0, .int 0, .int 0, .long 0, .int 0])), (q1z1, .inl (cB, 4000, .inl (fun _ => 0))), (q2, .inr (5, [.ref q1z2, .ref q2z2, .ref q3z2, .ref q4z2, .ref q5z2, .int 0, .int 0])), (q1z2, .inl (cJ, 100, .inr (.inl (fun _ => 0)))), (q2z2, .inl (cI, 100, .inl (fun _ => 0))), (q3z2, .inl (cZ, 100, .inl (fun _ => 0))), (q4z2, .inl (cI, 10, .inl (fun _ => 0))), (q5z2, .inl (cZ, 10, .inl (fun _ => 0))), (q3, .inr (6, [.ref q1z3, .ref q2z3, .ref q3z3, .ref q4z3, .ref q5z3, .ref q6z3, .int 0])), (q1z3, .inl (cI, 1101, .inl (fun _ => 0))), (q2z3, .inl (cI, 1101, .inl (fun _ => 0))), (q3z3, .inl (cI, 1101, .inl (fun _ => 0))), (q4z3, .inl (cB, 1101, .inl (fun _ => 0))), (q5z3, .inl (cI, 1101, .inl (fun _ => 0))), (q6z3, .inl (cI, 10, .inl (fun _ => 0)))] := hD
  have hP9 := hP.sub (ws' := [(h0, .inr (3, [.ref q1, .ref q2, .ref q3, .int 0, .int 0, .int (-1 : Int32), .int 0, .int 0, .int 0, .long 0, .int 0, .null, .int 0, .int 0, .int 0])), (q1, .inr (4, [.ref q1z1, .int 0, .int 0, .int 0, .int 0, .int 0, .int 0, .long 0, .int 0])), (q1z1, .inl (cB, 4000, .inl (fun _ => 0))), (q2, .inr (5, [.ref q1z2, .ref q2z2, .ref q3z2, .ref q4z2, .ref q5z2, .int 0, .int 0])), (q1z2, .inl (cJ, 100, .inr (.inl (fun _ => 0)))), (q2z2, .inl (cI, 100, .inl (fun _ => 0))), (q3z2, .inl (cZ, 100, .inl (fun _ => 0))), (q4z2, .inl (cI, 10, .inl (fun _ => 0))), (q5z2, .inl (cZ, 10, .inl (fun _ => 0))), (q3, .inr (6, [.ref q1z3, .ref q2z3, .ref q3z3, .ref q4z3, .ref q5z3, .ref q6z3, .int 0])), (q1z3, .inl (cI, 1101, .inl (fun _ => 0))), (q2z3, .inl (cI, 1101, .inl (fun _ => 0))), (q3z3, .inl (cI, 1101, .inl (fun _ => 0))), (q4z3, .inl (cB, 1101, .inl (fun _ => 0))), (q5z3, .inl (cI, 1101, .inl (fun _ => 0))), (q6z3, .inl (cI, 10, .inl (fun _ => 0)))]) [0, 1, 2, 3, 4, 5, 6, 7, 8, 9, 10, 11, 12, 13, 14, 15] rfl
  have hD9 := hD.sub (ws' := [(h0, .inr (3, [.ref q1, .ref q2, .ref q3, .int 0, .int 0, .int (-1 : Int32), .int 0, .int 0, .int 0, .long 0, .int 0, .null, .int 0, .int 0, .int 0])), (q1, .inr (4, [.ref q1z1, .int 0, .int 0, .int 0, .int 0, .int 0, .int 0, .long 0, .int 0])), (q1z1, .inl (cB, 4000, .inl (fun _ => 0))), (q2, .inr (5, [.ref q1z2, .ref q2z2, .ref q3z2, .ref q4z2, .ref q5z2, .int 0, .int 0])), (q1z2, .inl (cJ, 100, .inr (.inl (fun _ => 0)))), (q2z2, .inl (cI, 100, .inl (fun _ => 0))), (q3z2, .inl (cZ, 100, .inl (fun _ => 0))), (q4z2, .inl (cI, 10, .inl (fun _ => 0))), (q5z2, .inl (cZ, 10, .inl (fun _ => 0))), (q3, .inr (6, [.ref q1z3, .ref q2z3, .ref q3z3, .ref q4z3, .ref q5z3, .ref q6z3, .int 0])), (q1z3, .inl (cI, 1101, .inl (fun _ => 0))), (q2z3, .inl (cI, 1101, .inl (fun _ => 0))), (q3z3, .inl (cI, 1101, .inl (fun _ => 0))), (q4z3, .inl (cB, 1101, .inl (fun _ => 0))), (q5z3, .inl (cI, 1101, .inl (fun _ => 0))), (q6z3, .inl (cI, 10, .inl (fun _ => 0)))]) [0, 1, 2, 3, 4, 5, 6, 7, 8, 9, 10, 11, 12, 13, 14, 15] (by decide) rfl
  exact W.vret hx hb hr (fun t ht hW => ⟨⟨(q1, q1z1, q2, q1z2, q2z2, q3z2, q4z2, q5z2, q3, q1z3, q2z3, q3z3, q4z3, q5z3, q6z3), rfl, trivial, by show va_P D classes _ t.heap; rw [ht]; exact hP9, hD9⟩, hS.F ht⟩) hS.2.2 d_A_init_42
theorem i_A_init {R : Room} {s : State} {args : Array Value} {own host : String} {index : Nat} (hk : ∀ w ∈ tb, w.before args s = true) (hl : va_Nw (.methodLinkNest own index y_A_init host) s) (hR : 2 + 1 ≤ R.frames ∧ 8 + (1 + 11) + 32 ≤ R.locals) : va_CN R s args own index y_A_init host b_A_init 1 none (.code y_A_init b_A_init 1 none :: tb) ({ frames := 2, cells := 15, slots := 9858, locals := 32 }) 15 9858 0 ∧ (y_A_init).name = "<init>" ∧ (Cond.instanceMethod y_A_init).before args s = true := ⟨va_cnB 0 hk (gi_t k_526) rfl rfl rfl hl (hk _ k_123) h_A_init hR, rfl, hk _ k_525⟩
set_option maxHeartbeats 4000000 in
set_option maxRecDepth 100000 in
theorem c_S_init (l : Launch) (D : va_G) (cI cJ cZ cB : ClassId) (h0 sz : Nat) : Met l y_S_init (.code y_S_init b_S_init 1 none :: tb) ({ frames := 3, cells := 5, slots := 4027, locals := 52 }) (pM D cI cJ cZ cB [(h0, .inr (0, [.null, .null]))] sz [.ref h0]) (qN D (fun _ => True) (fun (u : Nat × Nat × Nat × Nat × Nat) => match u with | (q1, q1z1, q2z1, q3z1, q4z1) => [(h0, .inr (0, [.ref q1, .null])), (q1, .inr (1, [.ref q1z1, .ref q2z1, .ref q3z1, .ref q4z1, .int 0, .int 0, .int 0, .int 0, .int 0, .int 0, .int 0, .int 0, .int 0, .int 0])), (q1z1, .inl (cI, 4000, .inl (fun _ => 0))), (q2z1, .inl (cI, 9, .inl (fun _ => 0))), (q3z1, .inr (2, [.int 0, .null])), (q4z1, .inr (2, [.int 0, .null]))]) (va_A [(h0, .inr (0, [.null, .null]))] sz)) 5 4027 (va_A [(h0, .inr (0, [.null, .null]))] sz) := by
  refine Met.ofW (cc := b_S_init) (maxL := 1) (ret := none) (by decide) rfl ?_
  intro p e s m args below meth c s₁ B hml hv
  obtain ⟨rfl, hsz, hK, hP, hD0⟩ := hv
  subst hsz
  have hD := hD0.self (sz := s.heap.size)
  generalize hAe : va_A [(h0, .inr (0, [.null, .null]))] s.heap.size = A at hD ⊢
  have hA : ∀ q : Nat, s.heap.size ≤ q → A q := fun q h => by rw [← hAe]; exact Or.inr h
  have hS : va_S A s.heap s.heap [] := va_S.rf
  have hx := B.exec
  have hb := B.bytes
  have hr := B.returns
  have hts := atoms_spec (ws := .code y_S_init b_S_init 1 none :: tb) B.pre
  have hk : ∀ w ∈ tb, w.before [.ref h0].toArray s = true := fun w h => hts w (List.mem_cons_of_mem _ h)
  have hown : s.vm.findClass "SignMachine" = some m.cls := findClass_of_methodNamed B.named
  have hlocks := B.notSynchronized
  have hin : meth.name = "<init>" := (name_of_methodNamed B.named B.method).1
  have hl := lv_entry ([.ref h0]) (n := 1) (Nat.le_of_ble_eq_true rfl)
  rw [lg_entry_eq]
  generalize (lg_sl ([.ref h0]) ++ List.replicate (1 - (lg_sl ([.ref h0])).length) Slot.unset).toArray = ls at hl ⊢
  have hl : lv_has ls 1 [(0, .ref h0)] := hl
  refine lv_aload_n hx hb d_S_init_0 rfl (lv_at hl 0 rfl) ?_
  refine W.objInit hx hb hown (hk _ k_139) (hk _ k_140) (hk _ k_obj) rfl (by rw [hml]; exact hl.1) rfl d_S_init_1 (Nat.le_of_ble_eq_true rfl) (Nat.le_of_ble_eq_true rfl) ?_
  refine W.eq (g2 := F0 m 4 ls []) rfl ?_
  refine lv_aload_n hx hb d_S_init_4 rfl (lv_at hl 0 rfl) ?_
  refine va_new (ci := 1) (fs := [.null, .null, .null, .null, .int 0, .int 0, .int 0, .int 0, .int 0, .int 0, .int 0, .int 0, .int 0, .int 0]) (C := "SignMachine$Machine") (T := F_M) (N := 14) hx hb hk fi_M ft_M ft_M_ok hown (hk _ k_142) (hk _ k_143) (hk _ k_117) hK.1 hP hD hS hA rfl (by decide +kernel) (by decide) (by decide) d_S_init_5 (fun q1 H hP hD hS => ?_)
  have hP : va_P D classes [(h0, .inr (0, [.null, .null])), (q1, .inr (1, [.null, .null, .null, .null, .int 0, .int 0, .int 0, .int 0, .int 0, .int 0, .int 0, .int 0, .int 0, .int 0]))] H := hP
  have hD : va_D A [(h0, .inr (0, [.null, .null])), (q1, .inr (1, [.null, .null, .null, .null, .int 0, .int 0, .int 0, .int 0, .int 0, .int 0, .int 0, .int 0, .int 0, .int 0]))] := hD
  refine W.widen (k := 1) (n := 14) (by decide) (by decide) ?_
  refine lv_dup hx hb d_S_init_8 rfl ?_
  have hPc := hP.sub (ws' := [(q1, .inr (1, [.null, .null, .null, .null, .int 0, .int 0, .int 0, .int 0, .int 0, .int 0, .int 0, .int 0, .int 0, .int 0]))]) [1] rfl
  have hDc := hD.sub (ws' := [(q1, .inr (1, [.null, .null, .null, .null, .int 0, .int 0, .int 0, .int 0, .int 0, .int 0, .int 0, .int 0, .int 0, .int 0]))]) [1] (by decide) rfl
  have hFc := va_free (wc := [(q1, .inr (1, [.null, .null, .null, .null, .int 0, .int 0, .int 0, .int 0, .int 0, .int 0, .int 0, .int 0, .int 0, .int 0]))]) hD hS hA [1] rfl
  refine va_callv (va_runIN (As := []) (rest := [.ref q1, .ref h0]) ⟨hx, hb, hml, hown, hk⟩ (c_M_init l D cI cJ cZ cB q1 H.size) (i_M_init hk (hK.2 _ n_144) ⟨Nat.le_of_ble_eq_true rfl, Nat.le_of_ble_eq_true rfl⟩) (pM_i hK hPc hDc) rfl rfl hl.1 rfl (lv_room (Nat.le_of_ble_eq_true rfl)) d_S_init_9 ⟨by decide, by decide⟩) hS (fun q _ h => hFc q h) hFc (fun u t H locs ht hvm hw hB hz1 hk1 hS => ?_)
  obtain ⟨q1z1, q2z1, q3z1, q4z1⟩ := u
  obtain ⟨hP1, hD1⟩ := hB
  try dsimp only at hP1 hD1
  rw [ht] at hP1
  obtain ⟨hP, hD⟩ := va_join (wr := [(h0, .inr (0, [.null, .null]))]) (w1 := [(q1, .inr (1, [.ref q1z1, .ref q2z1, .ref q3z1, .ref q4z1, .int 0, .int 0, .int 0, .int 0, .int 0, .int 0, .int 0, .int 0, .int 0, .int 0])), (q1z1, .inl (cI, 4000, .inl (fun _ => 0))), (q2z1, .inl (cI, 9, .inl (fun _ => 0))), (q3z1, .inr (2, [.int 0, .null])), (q4z1, .inr (2, [.int 0, .null]))]) hP hD [1] [0] rfl rfl (by decide) (by decide) hk1 hFc hP1 hD1
  have hP : va_P D classes [(h0, .inr (0, [.null, .null])), (q1, .inr (1, [.ref q1z1, .ref q2z1, .ref q3z1, .ref q4z1, .int 0, .int 0, .int 0, .int 0, .int 0, .int 0, .int 0, .int 0, .int 0, .int 0])), (q1z1, .inl (cI, 4000, .inl (fun _ => 0))), (q2z1, .inl (cI, 9, .inl (fun _ => 0))), (q3z1, .inr (2, [.int 0, .null])), (q4z1, .inr (2, [.int 0, .null]))] H := hP
  have hD : va_D A [(h0, .inr (0, [.null, .null])), (q1, .inr (1, [.ref q1z1, .ref q2z1, .ref q3z1, .ref q4z1, .int 0, .int 0, .int 0, .int 0, .int 0, .int 0, .int 0, .int 0, .int 0, .int 0])), (q1z1, .inl (cI, 4000, .inl (fun _ => 0))), (q2z1, .inl (cI, 9, .inl (fun _ => 0))), (q3z1, .inr (2, [.int 0, .null])), (q4z1, .inr (2, [.int 0, .null]))] := hD
  refine W.widen (k := 5) (n := 4027) (by decide) (by decide) ?_
  refine va_putF (D := D) (ci := 0) (v := .ref q1) (ty := .object "SignMachine$Machine") (C := "SignMachine") (T := F_S) (N := 2) hx hb hk fi_S ft_S ft_S_ok fn_S hown hK.1 hP hD hS 0 rfl rfl 0 (by decide) (hk _ k_210) (fun _ h9 => h9) rfl hin rfl (by decide +kernel) rfl rfl (Nat.le_of_ble_eq_true rfl) d_S_init_12 (fun H locs hP hD hS => ?_)
  have hP : va_P D classes [(h0, .inr (0, [.ref q1, .null])), (q1, .inr (1, [.ref q1z1, .ref q2z1, .ref q3z1, .ref q4z1, .int 0, .int 0, .int 0, .int 0, .int 0, .int 0, .int 0, .int 0, .int 0, .int 0])), (q1z1, .inl (cI, 4000, .inl (fun _ => 0))), (q2z1, .inl (cI, 9, .inl (fun _ => 0))), (q3z1, .inr (2, [.int 0, .null])), (q4z1, .inr (2, [.int 0, .null]))] H := hP
  have hD : va_D A [(h0, .inr (0, [.ref q1, .null])), (q1, .inr (1, [.ref q1z1, .ref q2z1, .ref q3z1, .ref q4z1, .int 0, .int 0, .int 0, .int 0, .int 0, .int 0, .int 0, .int 0, .int 0, .int 0])), (q1z1, .inl (cI, 4000, .inl (fun _ => 0))), (q2z1, .inl (cI, 9, .inl (fun _ => 0))), (q3z1, .inr (2, [.int 0, .null])), (q4z1, .inr (2, [.int 0, .null]))] := hD
  have hP9 := hP.sub (ws' := [(h0, .inr (0, [.ref q1, .null])), (q1, .inr (1, [.ref q1z1, .ref q2z1, .ref q3z1, .ref q4z1, .int 0, .int 0, .int 0, .int 0, .int 0, .int 0, .int 0, .int 0, .int 0, .int 0])), (q1z1, .inl (cI, 4000, .inl (fun _ => 0))), (q2z1, .inl (cI, 9, .inl (fun _ => 0))), (q3z1, .inr (2, [.int 0, .null])), (q4z1, .inr (2, [.int 0, .null]))]) [0, 1, 2, 3, 4, 5] rfl
  have hD9 := hD.sub (ws' := [(h0, .inr (0, [.ref q1, .null])), (q1, .inr (1, [.ref q1z1, .ref q2z1, .ref q3z1, .ref q4z1, .int 0, .int 0, .int 0, .int 0, .int 0, .int 0, .int 0, .int 0, .int 0, .int 0])), (q1z1, .inl (cI, 4000, .inl (fun _ => 0))), (q2z1, .inl (cI, 9, .inl (fun _ => 0))), (q3z1, .inr (2, [.int 0, .null])), (q4z1, .inr (2, [.int 0, .null]))]) [0, 1, 2, 3, 4, 5] (by decide) rfl
  exact W.vret hx hb hr (fun t ht hW => ⟨⟨(q1, q1z1, q2z1, q3z1, q4z1), rfl, trivial, by show va_P D classes _ t.heap; rw [ht]; exact hP9, hD9⟩, hS.F ht⟩) hS.2.2 d_S_init_15
theorem i_S_init {R : Room} {s : State} {args : Array Value} {own host : String} {index : Nat} (hk : ∀ w ∈ tb, w.before args s = true) (hl : va_Nw (.methodLinkNest own index y_S_init host) s) (hR : 3 + 1 ≤ R.frames ∧ 8 + (1 + 11) + 52 ≤ R.locals) : va_CN R s args own index y_S_init host b_S_init 1 none (.code y_S_init b_S_init 1 none :: tb) ({ frames := 3, cells := 5, slots := 4027, locals := 52 }) 5 4027 0 ∧ (y_S_init).name = "<init>" ∧ (Cond.instanceMethod y_S_init).before args s = true := ⟨va_cnB 0 hk (gi_t k_138) rfl rfl rfl hl (hk _ k_116) h_S_init hR, rfl, hk _ k_137⟩

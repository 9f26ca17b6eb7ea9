set_option maxHeartbeats 4000000 in
set_option maxRecDepth 100000 in
theorem c_M_wordAt_2 (l : Launch) (D : va_G) (cI cJ cZ cB : ClassId) (p0 p1 p2 p3 p4 p5 : Nat) (sz : Nat)  : Met l y_M_wordAt (.code y_M_wordAt b_M_wordAt 2 (some .int) :: tb) ({ frames := 0, cells := 0, slots := 0, locals := 0 }) (pM D cI cJ cZ cB (wS10 cI cJ cZ cB p0 p1 p2 p3 p4 p5 (0 : Int32) (0 : Int32) (0 : Int32) (0 : Int32) (0 : Int32) (0 : Int32) (0 : Int32) (0 : Int32) (0 : Int32) (0 : Int32) (fun _ => 0) (fun _ => 0) (0 : Int32) (0 : Int32)) sz [.ref p1, .int (0 : Int32)]) (va_Qi (fun r (_ : Unit) => r = (0 : Int32)) (fun u t => match u with | _ => va_P D classes (wS10 cI cJ cZ cB p0 p1 p2 p3 p4 p5 (0 : Int32) (0 : Int32) (0 : Int32) (0 : Int32) (0 : Int32) (0 : Int32) (0 : Int32) (0 : Int32) (0 : Int32) (0 : Int32) (fun _ => 0) (fun _ => 0) (0 : Int32) (0 : Int32)) t.heap ∧ va_D (va_A (wS10 cI cJ cZ cB p0 p1 p2 p3 p4 p5 (0 : Int32) (0 : Int32) (0 : Int32) (0 : Int32) (0 : Int32) (0 : Int32) (0 : Int32) (0 : Int32) (0 : Int32) (0 : Int32) (fun _ => 0) (fun _ => 0) (0 : Int32) (0 : Int32)) sz) (wS10 cI cJ cZ cB p0 p1 p2 p3 p4 p5 (0 : Int32) (0 : Int32) (0 : Int32) (0 : Int32) (0 : Int32) (0 : Int32) (0 : Int32) (0 : Int32) (0 : Int32) (0 : Int32) (fun _ => 0) (fun _ => 0) (0 : Int32) (0 : Int32))) (va_A (wS10 cI cJ cZ cB p0 p1 p2 p3 p4 p5 (0 : Int32) (0 : Int32) (0 : Int32) (0 : Int32) (0 : Int32) (0 : Int32) (0 : Int32) (0 : Int32) (0 : Int32) (0 : Int32) (fun _ => 0) (fun _ => 0) (0 : Int32) (0 : Int32)) sz)) 0 0 (va_A (wS10 cI cJ cZ cB p0 p1 p2 p3 p4 p5 (0 : Int32) (0 : Int32) (0 : Int32) (0 : Int32) (0 : Int32) (0 : Int32) (0 : Int32) (0 : Int32) (0 : Int32) (0 : Int32) (fun _ => 0) (fun _ => 0) (0 : Int32) (0 : Int32)) sz) := by
  refine Met.ofW (cc := b_M_wordAt) (maxL := 2) (ret := (some .int)) (by decide) rfl ?_
  intro p e s m args below meth c s₁ B hml hv
  obtain ⟨rfl, hsz, hK, hP, hD0⟩ := hv
  subst hsz
  have hD := hD0.self (sz := s.heap.size)
  generalize hAe : va_A (wS10 cI cJ cZ cB p0 p1 p2 p3 p4 p5 (0 : Int32) (0 : Int32) (0 : Int32) (0 : Int32) (0 : Int32) (0 : Int32) (0 : Int32) (0 : Int32) (0 : Int32) (0 : Int32) (fun _ => 0) (fun _ => 0) (0 : Int32) (0 : Int32)) s.heap.size = A at hD ⊢
  have hA : ∀ q : Nat, s.heap.size ≤ q → A q := fun q h => by rw [← hAe]; exact Or.inr h
  have hS : va_S A s.heap s.heap [] := va_S.rf
  have hx := B.exec
  have hb := B.bytes
  have hr := B.returns
  have hts := atoms_spec (ws := .code y_M_wordAt b_M_wordAt 2 (some .int) :: tb) B.pre
  have hk : ∀ w ∈ tb, w.before [.ref p1, .int (0 : Int32)].toArray s = true := fun w h => hts w (List.mem_cons_of_mem _ h)
  have hown : s.vm.findClass "SignMachine$Machine" = some m.cls := findClass_of_methodNamed B.named
  have hlocks := B.notSynchronized
  have hl := lv_entry ([.ref p1, .int (0 : Int32)]) (n := 2) (Nat.le_of_ble_eq_true rfl)
  rw [lg_entry_eq]
  generalize (lg_sl ([.ref p1, .int (0 : Int32)]) ++ List.replicate (2 - (lg_sl ([.ref p1, .int (0 : Int32)])).length) Slot.unset).toArray = ls at hl ⊢
  have hl : lv_has ls 2 [(0, .ref p1), (1, .int (0 : Int32))] := hl
  refine lv_iload_n hx hb d_M_wordAt_0 rfl (lv_at hl 1 rfl) ?_
  refine lv_if_lt (tgt := 20) hx hb d_M_wordAt_1 (by decide) (fun c1 => absurd c1 (show ¬ (0 : Int32) < (0 : Int32) from (by decide))) (fun c1 => ?_)
  refine lv_iload_n hx hb d_M_wordAt_4 rfl (lv_at hl 1 rfl) ?_
  refine lv_sipush (v := 4000) hx hb d_M_wordAt_5 (by decide) ?_
  refine lv_icmp_ge (tgt := 20) hx hb d_M_wordAt_8 (by decide) (fun c2 => absurd c2 (show ¬ (4000 : Int32) ≤ (0 : Int32) from (by decide))) (fun c2 => ?_)
  refine lv_aload_n hx hb d_M_wordAt_11 rfl (lv_at hl 0 rfl) ?_
  refine va_get (D := D) (ci := 1) (v := .ref p2) (C := "SignMachine$Machine") (T := F_M) (N := 14) hx hb hk fi_M hown hK.1 hP 1 rfl rfl 0 (by decide) (hk _ k_163) (fun _ h9 => h9) rfl d_M_wordAt_12 ?_
  refine lv_iload_n hx hb d_M_wordAt_15 rfl (lv_at hl 1 rfl) ?_
  refine va_iald hx hb hK.1 hP 2 0 rfl rfl (by unfold vp_in; decide) d_M_wordAt_16 ?_
  refine tpi (y := (0 : Int32)) rfl ?_
  refine lv_goto (tgt := 21) hx hb d_M_wordAt_17 (by decide) ?_
  exact W.iret (v := (0 : Int32)) hx hb hr (fun t ht hW => ⟨⟨(0 : Int32), (), rfl, rfl, by show va_P D classes _ t.heap; rw [ht]; exact hP, hD⟩, hS.F ht⟩) hS.2.2 d_M_wordAt_21
theorem v_M_wordAt_2 {R : Room} {s : State} {args : Array Value} {own : String} {index : Nat} (hk : ∀ w ∈ tb, w.before args s = true) (hl : Cond.methodLink own index y_M_wordAt ∈ tb) (hR : 0 + 1 ≤ R.frames ∧ 8 + (2 + 11) + 0 ≤ R.locals) : CallW R s args own "SignMachine$Machine" index y_M_wordAt b_M_wordAt 2 (some .int) (.code y_M_wordAt b_M_wordAt 2 (some .int) :: tb) ({ frames := 0, cells := 0, slots := 0, locals := 0 }) 0 0 1 := mk_v 1 hk k_243 hl k_241 k_242 k_117 rfl rfl h_M_wordAt hR
set_option maxHeartbeats 4000000 in
set_option maxRecDepth 100000 in
theorem c_M_decode_1 (l : Launch) (D : va_G) (cI cJ cZ cB : ClassId) (p0 p1 p2 p3 p4 p5 : Nat) (sz : Nat)  : Met l y_M_decode (.code y_M_decode b_M_decode 4 none :: tb) ({ frames := 1, cells := 0, slots := 0, locals := 20 }) (pM D cI cJ cZ cB (wS10 cI cJ cZ cB p0 p1 p2 p3 p4 p5 (0 : Int32) (0 : Int32) (0 : Int32) (0 : Int32) (0 : Int32) (0 : Int32) (0 : Int32) (0 : Int32) (0 : Int32) (0 : Int32) (fun _ => 0) (fun _ => 0) (0 : Int32) (0 : Int32)) sz [.ref p1, .int (0 : Int32)]) (va_Qv (fun (_ : Unit) => True) (fun u t => match u with | _ => va_P D classes (wS10 cI cJ cZ cB p0 p1 p2 p3 p4 p5 (0 : Int32) (0 : Int32) (0 : Int32) (0 : Int32) (0 : Int32) (0 : Int32) (0 : Int32) (0 : Int32) (0 : Int32) (0 : Int32) (fun _ => 0) (fun _ => 0) (0 : Int32) (0 : Int32)) t.heap ∧ va_D (va_A (wS10 cI cJ cZ cB p0 p1 p2 p3 p4 p5 (0 : Int32) (0 : Int32) (0 : Int32) (0 : Int32) (0 : Int32) (0 : Int32) (0 : Int32) (0 : Int32) (0 : Int32) (0 : Int32) (fun _ => 0) (fun _ => 0) (0 : Int32) (0 : Int32)) sz) (wS10 cI cJ cZ cB p0 p1 p2 p3 p4 p5 (0 : Int32) (0 : Int32) (0 : Int32) (0 : Int32) (0 : Int32) (0 : Int32) (0 : Int32) (0 : Int32) (0 : Int32) (0 : Int32) (fun _ => 0) (fun _ => 0) (0 : Int32) (0 : Int32))) (va_A (wS10 cI cJ cZ cB p0 p1 p2 p3 p4 p5 (0 : Int32) (0 : Int32) (0 : Int32) (0 : Int32) (0 : Int32) (0 : Int32) (0 : Int32) (0 : Int32) (0 : Int32) (0 : Int32) (fun _ => 0) (fun _ => 0) (0 : Int32) (0 : Int32)) sz)) 0 0 (va_A (wS10 cI cJ cZ cB p0 p1 p2 p3 p4 p5 (0 : Int32) (0 : Int32) (0 : Int32) (0 : Int32) (0 : Int32) (0 : Int32) (0 : Int32) (0 : Int32) (0 : Int32) (0 : Int32) (fun _ => 0) (fun _ => 0) (0 : Int32) (0 : Int32)) sz) := by
  refine Met.ofW (cc := b_M_decode) (maxL := 4) (ret := none) (by decide) rfl ?_
  intro p e s m args below meth c s₁ B hml hv
  obtain ⟨rfl, hsz, hK, hP, hD0⟩ := hv
  subst hsz
  have hD := hD0.self (sz := s.heap.size)
  generalize hAe : va_A (wS10 cI cJ cZ cB p0 p1 p2 p3 p4 p5 (0 : Int32) (0 : Int32) (0 : Int32) (0 : Int32) (0 : Int32) (0 : Int32) (0 : Int32) (0 : Int32) (0 : Int32) (0 : Int32) (fun _ => 0) (fun _ => 0) (0 : Int32) (0 : Int32)) s.heap.size = A at hD ⊢
  have hA : ∀ q : Nat, s.heap.size ≤ q → A q := fun q h => by rw [← hAe]; exact Or.inr h
  have hS : va_S A s.heap s.heap [] := va_S.rf
  have hx := B.exec
  have hb := B.bytes
  have hr := B.returns
  have hts := atoms_spec (ws := .code y_M_decode b_M_decode 4 none :: tb) B.pre
  have hk : ∀ w ∈ tb, w.before [.ref p1, .int (0 : Int32)].toArray s = true := fun w h => hts w (List.mem_cons_of_mem _ h)
  have hown : s.vm.findClass "SignMachine$Machine" = some m.cls := findClass_of_methodNamed B.named
  have hlocks := B.notSynchronized
  have hl := lv_entry ([.ref p1, .int (0 : Int32)]) (n := 4) (Nat.le_of_ble_eq_true rfl)
  rw [lg_entry_eq]
  generalize (lg_sl ([.ref p1, .int (0 : Int32)]) ++ List.replicate (4 - (lg_sl ([.ref p1, .int (0 : Int32)])).length) Slot.unset).toArray = ls at hl ⊢
  have hl : lv_has ls 4 [(0, .ref p1), (1, .int (0 : Int32))] := hl
  refine lv_iload_n hx hb d_M_decode_0 rfl (lv_at hl 1 rfl) ?_
  refine cs_i (W.runS (As := [.int (0 : Int32)]) (rest := []) ⟨hx, hb, hml, hown, hk⟩ (c_W_size l (0 : Int32)) (s_W_size hk k_268 ⟨Nat.le_of_ble_eq_true rfl, Nat.le_of_ble_eq_true rfl⟩) ⟨fun a U g mk q => q, fun U hU hW => ⟨rfl, trivial⟩⟩ rfl rfl hl.1 rfl (lv_room (Nat.le_of_ble_eq_true rfl)) d_M_decode_1 ⟨Nat.le_of_ble_eq_true rfl, Nat.le_of_ble_eq_true rfl⟩) ?_
  refine tpi (y := (0 : Int32)) (by decide) ?_
  refine lv_istore_n (lv' := [(2, .int (0 : Int32)), (0, .ref p1), (1, .int (0 : Int32))]) hx hb d_M_decode_4 rfl hl (by decide) rfl (fun ls hl => ?_)
  refine lv_aload_n hx hb d_M_decode_5 rfl (lv_at hl 1 rfl) ?_
  refine lv_iload_n hx hb d_M_decode_6 rfl (lv_at hl 0 rfl) ?_
  refine lv_bipush (v := 63) hx hb d_M_decode_7 (by decide) ?_
  refine lv_iand hx hb d_M_decode_9 ?_
  refine tpi (y := (0 : Int32)) (by decide) ?_
  refine va_put (D := D) (ci := 1) (v := .int (0 : Int32)) (ty := .int) (C := "SignMachine$Machine") (T := F_M) (N := 14) hx hb hk fi_M ft_M ft_M_ok fn_M hown hK.1 hP hD hS 1 rfl rfl 9 (by decide) (hk _ k_176) (fun _ h9 => h9) rfl (by decide +kernel) rfl rfl (Nat.le_of_ble_eq_true rfl) d_M_decode_10 (fun H locs hP hD hS => ?_)
  have hP : va_P D classes (wS10 cI cJ cZ cB p0 p1 p2 p3 p4 p5 (0 : Int32) (0 : Int32) (0 : Int32) (0 : Int32) (0 : Int32) (0 : Int32) (0 : Int32) (0 : Int32) (0 : Int32) (0 : Int32) (fun _ => 0) (fun _ => 0) (0 : Int32) (0 : Int32)) H := hP
  have hD : va_D A (wS10 cI cJ cZ cB p0 p1 p2 p3 p4 p5 (0 : Int32) (0 : Int32) (0 : Int32) (0 : Int32) (0 : Int32) (0 : Int32) (0 : Int32) (0 : Int32) (0 : Int32) (0 : Int32) (fun _ => 0) (fun _ => 0) (0 : Int32) (0 : Int32)) := hD
  refine lv_aload_n hx hb d_M_decode_13 rfl (lv_at hl 1 rfl) ?_
  refine lv_iload_n hx hb d_M_decode_14 rfl (lv_at hl 0 rfl) ?_
  refine lv_bipush (v := 6) hx hb d_M_decode_15 (by decide) ?_
  refine lv_ishr hx hb d_M_decode_17 ?_
  refine tpi (y := (0 : Int32)) (by decide) ?_
  refine lv_bipush (v := 63) hx hb d_M_decode_18 (by decide) ?_
  refine lv_iand hx hb d_M_decode_20 ?_
  refine tpi (y := (0 : Int32)) (by decide) ?_
  refine va_put (D := D) (ci := 1) (v := .int (0 : Int32)) (ty := .int) (C := "SignMachine$Machine") (T := F_M) (N := 14) hx hb hk fi_M ft_M ft_M_ok fn_M hown hK.1 hP hD hS 1 rfl rfl 10 (by decide) (hk _ k_177) (fun _ h9 => h9) rfl (by decide +kernel) rfl rfl (Nat.le_of_ble_eq_true rfl) d_M_decode_21 (fun H locs hP hD hS => ?_)
  have hP : va_P D classes (wS10 cI cJ cZ cB p0 p1 p2 p3 p4 p5 (0 : Int32) (0 : Int32) (0 : Int32) (0 : Int32) (0 : Int32) (0 : Int32) (0 : Int32) (0 : Int32) (0 : Int32) (0 : Int32) (fun _ => 0) (fun _ => 0) (0 : Int32) (0 : Int32)) H := hP
  have hD : va_D A (wS10 cI cJ cZ cB p0 p1 p2 p3 p4 p5 (0 : Int32) (0 : Int32) (0 : Int32) (0 : Int32) (0 : Int32) (0 : Int32) (0 : Int32) (0 : Int32) (0 : Int32) (0 : Int32) (fun _ => 0) (fun _ => 0) (0 : Int32) (0 : Int32)) := hD
  refine lv_aload_n hx hb d_M_decode_24 rfl (lv_at hl 1 rfl) ?_
  refine lv_iload_n hx hb d_M_decode_25 rfl (lv_at hl 0 rfl) ?_
  refine lv_bipush (v := 12) hx hb d_M_decode_26 (by decide) ?_
  refine lv_ishr hx hb d_M_decode_28 ?_
  refine tpi (y := (0 : Int32)) (by decide) ?_
  refine lv_bipush (v := 63) hx hb d_M_decode_29 (by decide) ?_
  refine lv_iand hx hb d_M_decode_31 ?_
  refine tpi (y := (0 : Int32)) (by decide) ?_
  refine va_put (D := D) (ci := 1) (v := .int (0 : Int32)) (ty := .int) (C := "SignMachine$Machine") (T := F_M) (N := 14) hx hb hk fi_M ft_M ft_M_ok fn_M hown hK.1 hP hD hS 1 rfl rfl 11 (by decide) (hk _ k_178) (fun _ h9 => h9) rfl (by decide +kernel) rfl rfl (Nat.le_of_ble_eq_true rfl) d_M_decode_32 (fun H locs hP hD hS => ?_)
  have hP : va_P D classes (wS10 cI cJ cZ cB p0 p1 p2 p3 p4 p5 (0 : Int32) (0 : Int32) (0 : Int32) (0 : Int32) (0 : Int32) (0 : Int32) (0 : Int32) (0 : Int32) (0 : Int32) (0 : Int32) (fun _ => 0) (fun _ => 0) (0 : Int32) (0 : Int32)) H := hP
  have hD : va_D A (wS10 cI cJ cZ cB p0 p1 p2 p3 p4 p5 (0 : Int32) (0 : Int32) (0 : Int32) (0 : Int32) (0 : Int32) (0 : Int32) (0 : Int32) (0 : Int32) (0 : Int32) (0 : Int32) (fun _ => 0) (fun _ => 0) (0 : Int32) (0 : Int32)) := hD
  refine lv_aload_n hx hb d_M_decode_35 rfl (lv_at hl 1 rfl) ?_
  refine lv_iload_n hx hb d_M_decode_36 rfl (lv_at hl 2 rfl) ?_
  refine cs_i (W.runS (As := [.int (0 : Int32)]) (rest := [.ref p1]) ⟨hx, hb, hml, hown, hk⟩ (c_W_sign l (0 : Int32)) (s_W_sign hk k_269 ⟨Nat.le_of_ble_eq_true rfl, Nat.le_of_ble_eq_true rfl⟩) ⟨fun a U g mk q => q, fun U hU hW => ⟨rfl, trivial⟩⟩ rfl rfl hl.1 rfl (lv_room (Nat.le_of_ble_eq_true rfl)) d_M_decode_37 ⟨Nat.le_of_ble_eq_true rfl, Nat.le_of_ble_eq_true rfl⟩) ?_
  refine tpi (y := (0 : Int32)) (by decide) ?_
  refine va_put (D := D) (ci := 1) (v := .int (0 : Int32)) (ty := .int) (C := "SignMachine$Machine") (T := F_M) (N := 14) hx hb hk fi_M ft_M ft_M_ok fn_M hown hK.1 hP hD hS 1 rfl rfl 13 (by decide) (hk _ k_180) (fun _ h9 => h9) rfl (by decide +kernel) rfl rfl (Nat.le_of_ble_eq_true rfl) d_M_decode_40 (fun H locs hP hD hS => ?_)
  have hP : va_P D classes (wS10 cI cJ cZ cB p0 p1 p2 p3 p4 p5 (0 : Int32) (0 : Int32) (0 : Int32) (0 : Int32) (0 : Int32) (0 : Int32) (0 : Int32) (0 : Int32) (0 : Int32) (0 : Int32) (fun _ => 0) (fun _ => 0) (0 : Int32) (0 : Int32)) H := hP
  have hD : va_D A (wS10 cI cJ cZ cB p0 p1 p2 p3 p4 p5 (0 : Int32) (0 : Int32) (0 : Int32) (0 : Int32) (0 : Int32) (0 : Int32) (0 : Int32) (0 : Int32) (0 : Int32) (0 : Int32) (fun _ => 0) (fun _ => 0) (0 : Int32) (0 : Int32)) := hD
  refine lv_iload_n hx hb d_M_decode_43 rfl (lv_at hl 0 rfl) ?_
  refine lv_bipush (v := 18) hx hb d_M_decode_44 (by decide) ?_
  refine lv_ishr hx hb d_M_decode_46 ?_
  refine tpi (y := (0 : Int32)) (by decide) ?_
  refine lv_istore_n (lv' := [(3, .int (0 : Int32)), (2, .int (0 : Int32)), (0, .ref p1), (1, .int (0 : Int32))]) hx hb d_M_decode_47 rfl hl (by decide) rfl (fun ls hl => ?_)
  refine lv_aload_n hx hb d_M_decode_48 rfl (lv_at hl 2 rfl) ?_
  refine lv_aload_n hx hb d_M_decode_49 rfl (lv_at hl 2 rfl) ?_
  refine va_get (D := D) (ci := 1) (v := .int (0 : Int32)) (C := "SignMachine$Machine") (T := F_M) (N := 14) hx hb hk fi_M hown hK.1 hP 1 rfl rfl 13 (by decide) (hk _ k_180) (fun _ h9 => h9) rfl d_M_decode_50 ?_
  refine lv_if_ne (tgt := 60) hx hb d_M_decode_53 (by decide) (fun c1 => absurd (show (0 : Int32) = (0 : Int32) from (by decide)) c1) (fun c1 => ?_)
  refine lv_iload_n hx hb d_M_decode_56 rfl (lv_at hl 0 rfl) ?_
  refine lv_goto (tgt := 62) hx hb d_M_decode_57 (by decide) ?_
  refine va_put (D := D) (ci := 1) (v := .int (0 : Int32)) (ty := .int) (C := "SignMachine$Machine") (T := F_M) (N := 14) hx hb hk fi_M ft_M ft_M_ok fn_M hown hK.1 hP hD hS 1 rfl rfl 12 (by decide) (hk _ k_179) (fun _ h9 => h9) rfl (by decide +kernel) rfl rfl (Nat.le_of_ble_eq_true rfl) d_M_decode_62 (fun H locs hP hD hS => ?_)
  have hP : va_P D classes (wS10 cI cJ cZ cB p0 p1 p2 p3 p4 p5 (0 : Int32) (0 : Int32) (0 : Int32) (0 : Int32) (0 : Int32) (0 : Int32) (0 : Int32) (0 : Int32) (0 : Int32) (0 : Int32) (fun _ => 0) (fun _ => 0) (0 : Int32) (0 : Int32)) H := hP
  have hD : va_D A (wS10 cI cJ cZ cB p0 p1 p2 p3 p4 p5 (0 : Int32) (0 : Int32) (0 : Int32) (0 : Int32) (0 : Int32) (0 : Int32) (0 : Int32) (0 : Int32) (0 : Int32) (0 : Int32) (fun _ => 0) (fun _ => 0) (0 : Int32) (0 : Int32)) := hD
  refine lv_aload_n hx hb d_M_decode_65 rfl (lv_at hl 2 rfl) ?_
  refine va_get (D := D) (ci := 1) (v := .int (0 : Int32)) (C := "SignMachine$Machine") (T := F_M) (N := 14) hx hb hk fi_M hown hK.1 hP 1 rfl rfl 11 (by decide) (hk _ k_178) (fun _ h9 => h9) rfl d_M_decode_66 ?_
  refine cs_i (W.runS (As := [.int (0 : Int32)]) (rest := []) ⟨hx, hb, hml, hown, hk⟩ (c_M_isIndex l (0 : Int32)) (s_M_isIndex hk k_270 ⟨Nat.le_of_ble_eq_true rfl, Nat.le_of_ble_eq_true rfl⟩) ⟨fun a U g mk q => q, fun U hU hW => ⟨rfl, trivial⟩⟩ rfl rfl hl.1 rfl (lv_room (Nat.le_of_ble_eq_true rfl)) d_M_decode_69 ⟨Nat.le_of_ble_eq_true rfl, Nat.le_of_ble_eq_true rfl⟩) ?_
  refine tpi (y := (0 : Int32)) (by decide) ?_
  refine lv_if_eq (tgt := 95) hx hb d_M_decode_72 (by decide) (fun c2 => ?_) (fun c2 => absurd (show (0 : Int32) = (0 : Int32) from (by decide)) c2)
  exact W.vret hx hb hr (fun t ht hW => ⟨⟨(), rfl, trivial, by show va_P D classes _ t.heap; rw [ht]; exact hP, hD⟩, hS.F ht⟩) hS.2.2 d_M_decode_95
theorem v_M_decode_1 {R : Room} {s : State} {args : Array Value} {own : String} {index : Nat} (hk : ∀ w ∈ tb, w.before args s = true) (hl : Cond.methodLink own index y_M_decode ∈ tb) (hR : 1 + 1 ≤ R.frames ∧ 8 + (4 + 11) + 20 ≤ R.locals) : CallW R s args own "SignMachine$Machine" index y_M_decode b_M_decode 4 none (.code y_M_decode b_M_decode 4 none :: tb) ({ frames := 1, cells := 0, slots := 0, locals := 20 }) 0 0 1 := mk_v 1 hk k_267 hl k_266 k_0 k_117 rfl rfl h_M_decode hR
set_option maxHeartbeats 4000000 in
set_option maxRecDepth 100000 in
theorem c_M_hasFieldOfWord_1 (l : Launch) (D : va_G) (cI cJ cZ cB : ClassId) (p0 p1 p2 p3 p4 p5 : Nat) (sz : Nat)  : Met l y_M_hasFieldOfWord (.code y_M_hasFieldOfWord b_M_hasFieldOfWord 1 (some .boolean) :: tb) ({ frames := 0, cells := 0, slots := 0, locals := 0 }) (pM D cI cJ cZ cB (wS10 cI cJ cZ cB p0 p1 p2 p3 p4 p5 (0 : Int32) (0 : Int32) (0 : Int32) (0 : Int32) (0 : Int32) (0 : Int32) (0 : Int32) (0 : Int32) (0 : Int32) (0 : Int32) (fun _ => 0) (fun _ => 0) (0 : Int32) (0 : Int32)) sz [.ref p1]) (va_Qi (fun r (_ : Unit) => r = (0 : Int32)) (fun u t => match u with | _ => va_P D classes (wS10 cI cJ cZ cB p0 p1 p2 p3 p4 p5 (0 : Int32) (0 : Int32) (0 : Int32) (0 : Int32) (0 : Int32) (0 : Int32) (0 : Int32) (0 : Int32) (0 : Int32) (0 : Int32) (fun _ => 0) (fun _ => 0) (0 : Int32) (0 : Int32)) t.heap ∧ va_D (va_A (wS10 cI cJ cZ cB p0 p1 p2 p3 p4 p5 (0 : Int32) (0 : Int32) (0 : Int32) (0 : Int32) (0 : Int32) (0 : Int32) (0 : Int32) (0 : Int32) (0 : Int32) (0 : Int32) (fun _ => 0) (fun _ => 0) (0 : Int32) (0 : Int32)) sz) (wS10 cI cJ cZ cB p0 p1 p2 p3 p4 p5 (0 : Int32) (0 : Int32) (0 : Int32) (0 : Int32) (0 : Int32) (0 : Int32) (0 : Int32) (0 : Int32) (0 : Int32) (0 : Int32) (fun _ => 0) (fun _ => 0) (0 : Int32) (0 : Int32))) (va_A (wS10 cI cJ cZ cB p0 p1 p2 p3 p4 p5 (0 : Int32) (0 : Int32) (0 : Int32) (0 : Int32) (0 : Int32) (0 : Int32) (0 : Int32) (0 : Int32) (0 : Int32) (0 : Int32) (fun _ => 0) (fun _ => 0) (0 : Int32) (0 : Int32)) sz)) 0 0 (va_A (wS10 cI cJ cZ cB p0 p1 p2 p3 p4 p5 (0 : Int32) (0 : Int32) (0 : Int32) (0 : Int32) (0 : Int32) (0 : Int32) (0 : Int32) (0 : Int32) (0 : Int32) (0 : Int32) (fun _ => 0) (fun _ => 0) (0 : Int32) (0 : Int32)) sz) := by
  refine Met.ofW (cc := b_M_hasFieldOfWord) (maxL := 1) (ret := (some .boolean)) (by decide) rfl ?_
  intro p e s m args below meth c s₁ B hml hv
  obtain ⟨rfl, hsz, hK, hP, hD0⟩ := hv
  subst hsz
  have hD := hD0.self (sz := s.heap.size)
  generalize hAe : va_A (wS10 cI cJ cZ cB p0 p1 p2 p3 p4 p5 (0 : Int32) (0 : Int32) (0 : Int32) (0 : Int32) (0 : Int32) (0 : Int32) (0 : Int32) (0 : Int32) (0 : Int32) (0 : Int32) (fun _ => 0) (fun _ => 0) (0 : Int32) (0 : Int32)) s.heap.size = A at hD ⊢
  have hA : ∀ q : Nat, s.heap.size ≤ q → A q := fun q h => by rw [← hAe]; exact Or.inr h
  have hS : va_S A s.heap s.heap [] := va_S.rf
  have hx := B.exec
  have hb := B.bytes
  have hr := B.returns
  have hts := atoms_spec (ws := .code y_M_hasFieldOfWord b_M_hasFieldOfWord 1 (some .boolean) :: tb) B.pre
  have hk : ∀ w ∈ tb, w.before [.ref p1].toArray s = true := fun w h => hts w (List.mem_cons_of_mem _ h)
  have hown : s.vm.findClass "SignMachine$Machine" = some m.cls := findClass_of_methodNamed B.named
  have hlocks := B.notSynchronized
  have hl := lv_entry ([.ref p1]) (n := 1) (Nat.le_of_ble_eq_true rfl)
  rw [lg_entry_eq]
  generalize (lg_sl ([.ref p1]) ++ List.replicate (1 - (lg_sl ([.ref p1])).length) Slot.unset).toArray = ls at hl ⊢
  have hl : lv_has ls 1 [(0, .ref p1)] := hl
  refine lv_aload_n hx hb d_M_hasFieldOfWord_0 rfl (lv_at hl 0 rfl) ?_
  refine va_get (D := D) (ci := 1) (v := .int (0 : Int32)) (C := "SignMachine$Machine") (T := F_M) (N := 14) hx hb hk fi_M hown hK.1 hP 1 rfl rfl 9 (by decide) (hk _ k_176) (fun _ h9 => h9) rfl d_M_hasFieldOfWord_1 ?_
  refine lv_iconst (v := 1) hx hb d_M_hasFieldOfWord_4 (by decide) ?_
  refine lv_icmp_lt (tgt := 16) hx hb d_M_hasFieldOfWord_5 (by decide) (fun c1 => ?_) (fun c1 => absurd (show (0 : Int32) < (1 : Int32) from (by decide)) c1)
  refine lv_aload_n hx hb d_M_hasFieldOfWord_16 rfl (lv_at hl 0 rfl) ?_
  refine va_get (D := D) (ci := 1) (v := .int (0 : Int32)) (C := "SignMachine$Machine") (T := F_M) (N := 14) hx hb hk fi_M hown hK.1 hP 1 rfl rfl 9 (by decide) (hk _ k_176) (fun _ h9 => h9) rfl d_M_hasFieldOfWord_17 ?_
  refine lv_bipush (v := 8) hx hb d_M_hasFieldOfWord_20 (by decide) ?_
  refine lv_icmp_lt (tgt := 34) hx hb d_M_hasFieldOfWord_22 (by decide) (fun c2 => ?_) (fun c2 => absurd (show (0 : Int32) < (8 : Int32) from (by decide)) c2)
  refine lv_aload_n hx hb d_M_hasFieldOfWord_34 rfl (lv_at hl 0 rfl) ?_
  refine va_get (D := D) (ci := 1) (v := .int (0 : Int32)) (C := "SignMachine$Machine") (T := F_M) (N := 14) hx hb hk fi_M hown hK.1 hP 1 rfl rfl 9 (by decide) (hk _ k_176) (fun _ h9 => h9) rfl d_M_hasFieldOfWord_35 ?_
  refine lv_bipush (v := 56) hx hb d_M_hasFieldOfWord_38 (by decide) ?_
  refine lv_icmp_lt (tgt := 47) hx hb d_M_hasFieldOfWord_40 (by decide) (fun c3 => ?_) (fun c3 => absurd (show (0 : Int32) < (56 : Int32) from (by decide)) c3)
  refine lv_iconst (v := 0) hx hb d_M_hasFieldOfWord_47 (by decide) ?_
  exact W.zret (v := (0 : Int32)) hx hb hr rfl (fun t ht hW => ⟨⟨(0 : Int32), (), rfl, rfl, by show va_P D classes _ t.heap; rw [ht]; exact hP, hD⟩, hS.F ht⟩) hS.2.2 d_M_hasFieldOfWord_48
theorem v_M_hasFieldOfWord_1 {R : Room} {s : State} {args : Array Value} {own : String} {index : Nat} (hk : ∀ w ∈ tb, w.before args s = true) (hl : Cond.methodLink own index y_M_hasFieldOfWord ∈ tb) (hR : 0 + 1 ≤ R.frames ∧ 8 + (1 + 11) + 0 ≤ R.locals) : CallW R s args own "SignMachine$Machine" index y_M_hasFieldOfWord b_M_hasFieldOfWord 1 (some .boolean) (.code y_M_hasFieldOfWord b_M_hasFieldOfWord 1 (some .boolean) :: tb) ({ frames := 0, cells := 0, slots := 0, locals := 0 }) 0 0 0 := mk_v 0 hk k_291 hl k_290 k_3 k_117 rfl rfl h_M_hasFieldOfWord hR
set_option maxHeartbeats 4000000 in
set_option maxRecDepth 100000 in
theorem c_M_shapeCanBe_1 (l : Launch) (D : va_G) (cI cJ cZ cB : ClassId) (p0 p1 p2 p3 p4 p5 : Nat) (sz : Nat)  : Met l y_M_shapeCanBe (.code y_M_shapeCanBe b_M_shapeCanBe 1 (some .boolean) :: tb) ({ frames := 1, cells := 0, slots := 0, locals := 20 }) (pM D cI cJ cZ cB (wS10 cI cJ cZ cB p0 p1 p2 p3 p4 p5 (0 : Int32) (0 : Int32) (0 : Int32) (0 : Int32) (0 : Int32) (0 : Int32) (0 : Int32) (0 : Int32) (0 : Int32) (0 : Int32) (fun _ => 0) (fun _ => 0) (0 : Int32) (0 : Int32)) sz [.ref p1]) (va_Qi (fun r (_ : Unit) => r = (1 : Int32)) (fun u t => match u with | _ => va_P D classes (wS10 cI cJ cZ cB p0 p1 p2 p3 p4 p5 (0 : Int32) (0 : Int32) (0 : Int32) (0 : Int32) (0 : Int32) (0 : Int32) (0 : Int32) (0 : Int32) (0 : Int32) (0 : Int32) (fun _ => 0) (fun _ => 0) (0 : Int32) (0 : Int32)) t.heap ∧ va_D (va_A (wS10 cI cJ cZ cB p0 p1 p2 p3 p4 p5 (0 : Int32) (0 : Int32) (0 : Int32) (0 : Int32) (0 : Int32) (0 : Int32) (0 : Int32) (0 : Int32) (0 : Int32) (0 : Int32) (fun _ => 0) (fun _ => 0) (0 : Int32) (0 : Int32)) sz) (wS10 cI cJ cZ cB p0 p1 p2 p3 p4 p5 (0 : Int32) (0 : Int32) (0 : Int32) (0 : Int32) (0 : Int32) (0 : Int32) (0 : Int32) (0 : Int32) (0 : Int32) (0 : Int32) (fun _ => 0) (fun _ => 0) (0 : Int32) (0 : Int32))) (va_A (wS10 cI cJ cZ cB p0 p1 p2 p3 p4 p5 (0 : Int32) (0 : Int32) (0 : Int32) (0 : Int32) (0 : Int32) (0 : Int32) (0 : Int32) (0 : Int32) (0 : Int32) (0 : Int32) (fun _ => 0) (fun _ => 0) (0 : Int32) (0 : Int32)) sz)) 0 0 (va_A (wS10 cI cJ cZ cB p0 p1 p2 p3 p4 p5 (0 : Int32) (0 : Int32) (0 : Int32) (0 : Int32) (0 : Int32) (0 : Int32) (0 : Int32) (0 : Int32) (0 : Int32) (0 : Int32) (fun _ => 0) (fun _ => 0) (0 : Int32) (0 : Int32)) sz) := by
  refine Met.ofW (cc := b_M_shapeCanBe) (maxL := 1) (ret := (some .boolean)) (by decide) rfl ?_
  intro p e s m args below meth c s₁ B hml hv
  obtain ⟨rfl, hsz, hK, hP, hD0⟩ := hv
  subst hsz
  have hD := hD0.self (sz := s.heap.size)
  generalize hAe : va_A (wS10 cI cJ cZ cB p0 p1 p2 p3 p4 p5 (0 : Int32) (0 : Int32) (0 : Int32) (0 : Int32) (0 : Int32) (0 : Int32) (0 : Int32) (0 : Int32) (0 : Int32) (0 : Int32) (fun _ => 0) (fun _ => 0) (0 : Int32) (0 : Int32)) s.heap.size = A at hD ⊢
  have hA : ∀ q : Nat, s.heap.size ≤ q → A q := fun q h => by rw [← hAe]; exact Or.inr h
  have hS : va_S A s.heap s.heap [] := va_S.rf
  have hx := B.exec
  have hb := B.bytes
  have hr := B.returns
  have hts := atoms_spec (ws := .code y_M_shapeCanBe b_M_shapeCanBe 1 (some .boolean) :: tb) B.pre
  have hk : ∀ w ∈ tb, w.before [.ref p1].toArray s = true := fun w h => hts w (List.mem_cons_of_mem _ h)
  have hown : s.vm.findClass "SignMachine$Machine" = some m.cls := findClass_of_methodNamed B.named
  have hlocks := B.notSynchronized
  have hl := lv_entry ([.ref p1]) (n := 1) (Nat.le_of_ble_eq_true rfl)
  rw [lg_entry_eq]
  generalize (lg_sl ([.ref p1]) ++ List.replicate (1 - (lg_sl ([.ref p1])).length) Slot.unset).toArray = ls at hl ⊢
  have hl : lv_has ls 1 [(0, .ref p1)] := hl
  refine lv_aload_n hx hb d_M_shapeCanBe_0 rfl (lv_at hl 0 rfl) ?_
  refine va_get (D := D) (ci := 1) (v := .int (0 : Int32)) (C := "SignMachine$Machine") (T := F_M) (N := 14) hx hb hk fi_M hown hK.1 hP 1 rfl rfl 11 (by decide) (hk _ k_178) (fun _ h9 => h9) rfl d_M_shapeCanBe_1 ?_
  refine lv_bipush (v := 6) hx hb d_M_shapeCanBe_4 (by decide) ?_
  refine lv_icmp_le (tgt := 11) hx hb d_M_shapeCanBe_6 (by decide) (fun c1 => ?_) (fun c1 => absurd (show (0 : Int32) ≤ (6 : Int32) from (by decide)) c1)
  refine lv_aload_n hx hb d_M_shapeCanBe_11 rfl (lv_at hl 0 rfl) ?_
  refine kn_i (va_runV (C := "SignMachine$Machine") (As := []) (rest := []) ⟨hx, hb, hml, hown, hk⟩ (c_M_hasFieldOfWord_1 l D cI cJ cZ cB p0 p1 p2 p3 p4 p5 s.heap.size ) (v_M_hasFieldOfWord_1 hk k_288 ⟨Nat.le_of_ble_eq_true rfl, Nat.le_of_ble_eq_true rfl⟩) (pM_v hK hP hD (ci := 1) (q0 := 1) rfl rfl rfl) rfl rfl hl.1 rfl (lv_room (Nat.le_of_ble_eq_true rfl)) d_M_shapeCanBe_12 ⟨by decide, by decide⟩) hS hA hD (fun u t H locs ht hB hFr hS => ?_)
  obtain ⟨hP, hD⟩ := hB
  rw [ht] at hP
  have hD := dwk hD hFr
  clear ht hFr
  have hP : va_P D classes (wS10 cI cJ cZ cB p0 p1 p2 p3 p4 p5 (0 : Int32) (0 : Int32) (0 : Int32) (0 : Int32) (0 : Int32) (0 : Int32) (0 : Int32) (0 : Int32) (0 : Int32) (0 : Int32) (fun _ => 0) (fun _ => 0) (0 : Int32) (0 : Int32)) H := hP
  have hD : va_D A (wS10 cI cJ cZ cB p0 p1 p2 p3 p4 p5 (0 : Int32) (0 : Int32) (0 : Int32) (0 : Int32) (0 : Int32) (0 : Int32) (0 : Int32) (0 : Int32) (0 : Int32) (0 : Int32) (fun _ => 0) (fun _ => 0) (0 : Int32) (0 : Int32)) := hD
  refine lv_if_eq (tgt := 26) hx hb d_M_shapeCanBe_15 (by decide) (fun c2 => ?_) (fun c2 => absurd (show (0 : Int32) = (0 : Int32) from (by decide)) c2)
  refine lv_aload_n hx hb d_M_shapeCanBe_26 rfl (lv_at hl 0 rfl) ?_
  refine va_get (D := D) (ci := 1) (v := .int (0 : Int32)) (C := "SignMachine$Machine") (T := F_M) (N := 14) hx hb hk fi_M hown hK.1 hP 1 rfl rfl 9 (by decide) (hk _ k_176) (fun _ h9 => h9) rfl d_M_shapeCanBe_27 ?_
  refine lv_tableIn (off := 174) (tgt := 204) hx hb d_M_shapeCanBe_30 (by decide) (by decide) rfl (by decide) ?_
  refine lv_iconst (v := 1) hx hb d_M_shapeCanBe_204 (by decide) ?_
  exact W.zret (v := (1 : Int32)) hx hb hr rfl (fun t ht hW => ⟨⟨(1 : Int32), (), rfl, rfl, by show va_P D classes _ t.heap; rw [ht]; exact hP, hD⟩, hS.F ht⟩) hS.2.2 d_M_shapeCanBe_205
theorem v_M_shapeCanBe_1 {R : Room} {s : State} {args : Array Value} {own : String} {index : Nat} (hk : ∀ w ∈ tb, w.before args s = true) (hl : Cond.methodLink own index y_M_shapeCanBe ∈ tb) (hR : 1 + 1 ≤ R.frames ∧ 8 + (1 + 11) + 20 ≤ R.locals) : CallW R s args own "SignMachine$Machine" index y_M_shapeCanBe b_M_shapeCanBe 1 (some .boolean) (.code y_M_shapeCanBe b_M_shapeCanBe 1 (some .boolean) :: tb) ({ frames := 1, cells := 0, slots := 0, locals := 20 }) 0 0 0 := mk_v 0 hk k_287 hl k_286 k_2 k_117 rfl rfl h_M_shapeCanBe hR
set_option maxHeartbeats 4000000 in
set_option maxRecDepth 100000 in
theorem c_M_addressCanBe_1 (l : Launch) (D : va_G) (cI cJ cZ cB : ClassId) (p0 p1 p2 p3 p4 p5 : Nat) (sz : Nat)  : Met l y_M_addressCanBe (.code y_M_addressCanBe b_M_addressCanBe 1 (some .boolean) :: tb) ({ frames := 1, cells := 0, slots := 0, locals := 20 }) (pM D cI cJ cZ cB (wS10 cI cJ cZ cB p0 p1 p2 p3 p4 p5 (0 : Int32) (0 : Int32) (0 : Int32) (0 : Int32) (0 : Int32) (0 : Int32) (0 : Int32) (0 : Int32) (0 : Int32) (0 : Int32) (fun _ => 0) (fun _ => 0) (0 : Int32) (0 : Int32)) sz [.ref p1]) (va_Qi (fun r (_ : Unit) => r = (1 : Int32)) (fun u t => match u with | _ => va_P D classes (wS10 cI cJ cZ cB p0 p1 p2 p3 p4 p5 (0 : Int32) (0 : Int32) (0 : Int32) (0 : Int32) (0 : Int32) (0 : Int32) (0 : Int32) (0 : Int32) (0 : Int32) (0 : Int32) (fun _ => 0) (fun _ => 0) (0 : Int32) (0 : Int32)) t.heap ∧ va_D (va_A (wS10 cI cJ cZ cB p0 p1 p2 p3 p4 p5 (0 : Int32) (0 : Int32) (0 : Int32) (0 : Int32) (0 : Int32) (0 : Int32) (0 : Int32) (0 : Int32) (0 : Int32) (0 : Int32) (fun _ => 0) (fun _ => 0) (0 : Int32) (0 : Int32)) sz) (wS10 cI cJ cZ cB p0 p1 p2 p3 p4 p5 (0 : Int32) (0 : Int32) (0 : Int32) (0 : Int32) (0 : Int32) (0 : Int32) (0 : Int32) (0 : Int32) (0 : Int32) (0 : Int32) (fun _ => 0) (fun _ => 0) (0 : Int32) (0 : Int32))) (va_A (wS10 cI cJ cZ cB p0 p1 p2 p3 p4 p5 (0 : Int32) (0 : Int32) (0 : Int32) (0 : Int32) (0 : Int32) (0 : Int32) (0 : Int32) (0 : Int32) (0 : Int32) (0 : Int32) (fun _ => 0) (fun _ => 0) (0 : Int32) (0 : Int32)) sz)) 0 0 (va_A (wS10 cI cJ cZ cB p0 p1 p2 p3 p4 p5 (0 : Int32) (0 : Int32) (0 : Int32) (0 : Int32) (0 : Int32) (0 : Int32) (0 : Int32) (0 : Int32) (0 : Int32) (0 : Int32) (fun _ => 0) (fun _ => 0) (0 : Int32) (0 : Int32)) sz) := by
  refine Met.ofW (cc := b_M_addressCanBe) (maxL := 1) (ret := (some .boolean)) (by decide) rfl ?_
  intro p e s m args below meth c s₁ B hml hv
  obtain ⟨rfl, hsz, hK, hP, hD0⟩ := hv
  subst hsz
  have hD := hD0.self (sz := s.heap.size)
  generalize hAe : va_A (wS10 cI cJ cZ cB p0 p1 p2 p3 p4 p5 (0 : Int32) (0 : Int32) (0 : Int32) (0 : Int32) (0 : Int32) (0 : Int32) (0 : Int32) (0 : Int32) (0 : Int32) (0 : Int32) (fun _ => 0) (fun _ => 0) (0 : Int32) (0 : Int32)) s.heap.size = A at hD ⊢
  have hA : ∀ q : Nat, s.heap.size ≤ q → A q := fun q h => by rw [← hAe]; exact Or.inr h
  have hS : va_S A s.heap s.heap [] := va_S.rf
  have hx := B.exec
  have hb := B.bytes
  have hr := B.returns
  have hts := atoms_spec (ws := .code y_M_addressCanBe b_M_addressCanBe 1 (some .boolean) :: tb) B.pre
  have hk : ∀ w ∈ tb, w.before [.ref p1].toArray s = true := fun w h => hts w (List.mem_cons_of_mem _ h)
  have hown : s.vm.findClass "SignMachine$Machine" = some m.cls := findClass_of_methodNamed B.named
  have hlocks := B.notSynchronized
  have hl := lv_entry ([.ref p1]) (n := 1) (Nat.le_of_ble_eq_true rfl)
  rw [lg_entry_eq]
  generalize (lg_sl ([.ref p1]) ++ List.replicate (1 - (lg_sl ([.ref p1])).length) Slot.unset).toArray = ls at hl ⊢
  have hl : lv_has ls 1 [(0, .ref p1)] := hl
  refine lv_aload_n hx hb d_M_addressCanBe_0 rfl (lv_at hl 0 rfl) ?_
  refine kn_i (va_runV (C := "SignMachine$Machine") (As := []) (rest := []) ⟨hx, hb, hml, hown, hk⟩ (c_M_hasFieldOfWord_1 l D cI cJ cZ cB p0 p1 p2 p3 p4 p5 s.heap.size ) (v_M_hasFieldOfWord_1 hk k_288 ⟨Nat.le_of_ble_eq_true rfl, Nat.le_of_ble_eq_true rfl⟩) (pM_v hK hP hD (ci := 1) (q0 := 1) rfl rfl rfl) rfl rfl hl.1 rfl (lv_room (Nat.le_of_ble_eq_true rfl)) d_M_addressCanBe_1 ⟨by decide, by decide⟩) hS hA hD (fun u t H locs ht hB hFr hS => ?_)
  obtain ⟨hP, hD⟩ := hB
  rw [ht] at hP
  have hD := dwk hD hFr
  clear ht hFr
  have hP : va_P D classes (wS10 cI cJ cZ cB p0 p1 p2 p3 p4 p5 (0 : Int32) (0 : Int32) (0 : Int32) (0 : Int32) (0 : Int32) (0 : Int32) (0 : Int32) (0 : Int32) (0 : Int32) (0 : Int32) (fun _ => 0) (fun _ => 0) (0 : Int32) (0 : Int32)) H := hP
  have hD : va_D A (wS10 cI cJ cZ cB p0 p1 p2 p3 p4 p5 (0 : Int32) (0 : Int32) (0 : Int32) (0 : Int32) (0 : Int32) (0 : Int32) (0 : Int32) (0 : Int32) (0 : Int32) (0 : Int32) (fun _ => 0) (fun _ => 0) (0 : Int32) (0 : Int32)) := hD
  refine lv_if_eq (tgt := 15) hx hb d_M_addressCanBe_4 (by decide) (fun c1 => ?_) (fun c1 => absurd (show (0 : Int32) = (0 : Int32) from (by decide)) c1)
  refine lv_aload_n hx hb d_M_addressCanBe_15 rfl (lv_at hl 0 rfl) ?_
  refine va_get (D := D) (ci := 1) (v := .int (0 : Int32)) (C := "SignMachine$Machine") (T := F_M) (N := 14) hx hb hk fi_M hown hK.1 hP 1 rfl rfl 9 (by decide) (hk _ k_176) (fun _ h9 => h9) rfl d_M_addressCanBe_16 ?_
  refine lv_lookup (off := 65) (tgt := 84) hx hb d_M_addressCanBe_19 (by decide) rfl (by decide) ?_
  refine lv_iconst (v := 1) hx hb d_M_addressCanBe_84 (by decide) ?_
  exact W.zret (v := (1 : Int32)) hx hb hr rfl (fun t ht hW => ⟨⟨(1 : Int32), (), rfl, rfl, by show va_P D classes _ t.heap; rw [ht]; exact hP, hD⟩, hS.F ht⟩) hS.2.2 d_M_addressCanBe_85
theorem v_M_addressCanBe_1 {R : Room} {s : State} {args : Array Value} {own : String} {index : Nat} (hk : ∀ w ∈ tb, w.before args s = true) (hl : Cond.methodLink own index y_M_addressCanBe ∈ tb) (hR : 1 + 1 ≤ R.frames ∧ 8 + (1 + 11) + 20 ≤ R.locals) : CallW R s args own "SignMachine$Machine" index y_M_addressCanBe b_M_addressCanBe 1 (some .boolean) (.code y_M_addressCanBe b_M_addressCanBe 1 (some .boolean) :: tb) ({ frames := 1, cells := 0, slots := 0, locals := 20 }) 0 0 0 := mk_v 0 hk k_298 hl k_297 k_4 k_117 rfl rfl h_M_addressCanBe hR
set_option maxHeartbeats 4000000 in
set_option maxRecDepth 100000 in
theorem c_M_indexCanBe_1 (l : Launch) (D : va_G) (cI cJ cZ cB : ClassId) (p0 p1 p2 p3 p4 p5 : Nat) (sz : Nat)  : Met l y_M_indexCanBe (.code y_M_indexCanBe b_M_indexCanBe 1 (some .boolean) :: tb) ({ frames := 1, cells := 0, slots := 0, locals := 20 }) (pM D cI cJ cZ cB (wS10 cI cJ cZ cB p0 p1 p2 p3 p4 p5 (0 : Int32) (0 : Int32) (0 : Int32) (0 : Int32) (0 : Int32) (0 : Int32) (0 : Int32) (0 : Int32) (0 : Int32) (0 : Int32) (fun _ => 0) (fun _ => 0) (0 : Int32) (0 : Int32)) sz [.ref p1]) (va_Qi (fun r (_ : Unit) => r = (1 : Int32)) (fun u t => match u with | _ => va_P D classes (wS10 cI cJ cZ cB p0 p1 p2 p3 p4 p5 (0 : Int32) (0 : Int32) (0 : Int32) (0 : Int32) (0 : Int32) (0 : Int32) (0 : Int32) (0 : Int32) (0 : Int32) (0 : Int32) (fun _ => 0) (fun _ => 0) (0 : Int32) (0 : Int32)) t.heap ∧ va_D (va_A (wS10 cI cJ cZ cB p0 p1 p2 p3 p4 p5 (0 : Int32) (0 : Int32) (0 : Int32) (0 : Int32) (0 : Int32) (0 : Int32) (0 : Int32) (0 : Int32) (0 : Int32) (0 : Int32) (fun _ => 0) (fun _ => 0) (0 : Int32) (0 : Int32)) sz) (wS10 cI cJ cZ cB p0 p1 p2 p3 p4 p5 (0 : Int32) (0 : Int32) (0 : Int32) (0 : Int32) (0 : Int32) (0 : Int32) (0 : Int32) (0 : Int32) (0 : Int32) (0 : Int32) (fun _ => 0) (fun _ => 0) (0 : Int32) (0 : Int32))) (va_A (wS10 cI cJ cZ cB p0 p1 p2 p3 p4 p5 (0 : Int32) (0 : Int32) (0 : Int32) (0 : Int32) (0 : Int32) (0 : Int32) (0 : Int32) (0 : Int32) (0 : Int32) (0 : Int32) (fun _ => 0) (fun _ => 0) (0 : Int32) (0 : Int32)) sz)) 0 0 (va_A (wS10 cI cJ cZ cB p0 p1 p2 p3 p4 p5 (0 : Int32) (0 : Int32) (0 : Int32) (0 : Int32) (0 : Int32) (0 : Int32) (0 : Int32) (0 : Int32) (0 : Int32) (0 : Int32) (fun _ => 0) (fun _ => 0) (0 : Int32) (0 : Int32)) sz) := by
  refine Met.ofW (cc := b_M_indexCanBe) (maxL := 1) (ret := (some .boolean)) (by decide) rfl ?_
  intro p e s m args below meth c s₁ B hml hv
  obtain ⟨rfl, hsz, hK, hP, hD0⟩ := hv
  subst hsz
  have hD := hD0.self (sz := s.heap.size)
  generalize hAe : va_A (wS10 cI cJ cZ cB p0 p1 p2 p3 p4 p5 (0 : Int32) (0 : Int32) (0 : Int32) (0 : Int32) (0 : Int32) (0 : Int32) (0 : Int32) (0 : Int32) (0 : Int32) (0 : Int32) (fun _ => 0) (fun _ => 0) (0 : Int32) (0 : Int32)) s.heap.size = A at hD ⊢
  have hA : ∀ q : Nat, s.heap.size ≤ q → A q := fun q h => by rw [← hAe]; exact Or.inr h
  have hS : va_S A s.heap s.heap [] := va_S.rf
  have hx := B.exec
  have hb := B.bytes
  have hr := B.returns
  have hts := atoms_spec (ws := .code y_M_indexCanBe b_M_indexCanBe 1 (some .boolean) :: tb) B.pre
  have hk : ∀ w ∈ tb, w.before [.ref p1].toArray s = true := fun w h => hts w (List.mem_cons_of_mem _ h)
  have hown : s.vm.findClass "SignMachine$Machine" = some m.cls := findClass_of_methodNamed B.named
  have hlocks := B.notSynchronized
  have hl := lv_entry ([.ref p1]) (n := 1) (Nat.le_of_ble_eq_true rfl)
  rw [lg_entry_eq]
  generalize (lg_sl ([.ref p1]) ++ List.replicate (1 - (lg_sl ([.ref p1])).length) Slot.unset).toArray = ls at hl ⊢
  have hl : lv_has ls 1 [(0, .ref p1)] := hl
  refine lv_aload_n hx hb d_M_indexCanBe_0 rfl (lv_at hl 0 rfl) ?_
  refine va_get (D := D) (ci := 1) (v := .int (0 : Int32)) (C := "SignMachine$Machine") (T := F_M) (N := 14) hx hb hk fi_M hown hK.1 hP 1 rfl rfl 9 (by decide) (hk _ k_176) (fun _ h9 => h9) rfl d_M_indexCanBe_1 ?_
  refine lv_bipush (v := 7) hx hb d_M_indexCanBe_4 (by decide) ?_
  refine lv_iand hx hb d_M_indexCanBe_6 ?_
  refine tpi (y := (0 : Int32)) (by decide) ?_
  refine cs_i (W.runS (As := [.int (0 : Int32)]) (rest := []) ⟨hx, hb, hml, hown, hk⟩ (c_M_isIndex l (0 : Int32)) (s_M_isIndex hk k_270 ⟨Nat.le_of_ble_eq_true rfl, Nat.le_of_ble_eq_true rfl⟩) ⟨fun a U g mk q => q, fun U hU hW => ⟨rfl, trivial⟩⟩ rfl rfl hl.1 rfl (lv_room (Nat.le_of_ble_eq_true rfl)) d_M_indexCanBe_7 ⟨Nat.le_of_ble_eq_true rfl, Nat.le_of_ble_eq_true rfl⟩) ?_
  refine tpi (y := (0 : Int32)) (by decide) ?_
  refine lv_if_ne (tgt := 15) hx hb d_M_indexCanBe_10 (by decide) (fun c1 => absurd (show (0 : Int32) = (0 : Int32) from (by decide)) c1) (fun c1 => ?_)
  refine lv_iconst (v := 1) hx hb d_M_indexCanBe_13 (by decide) ?_
  exact W.zret (v := (1 : Int32)) hx hb hr rfl (fun t ht hW => ⟨⟨(1 : Int32), (), rfl, rfl, by show va_P D classes _ t.heap; rw [ht]; exact hP, hD⟩, hS.F ht⟩) hS.2.2 d_M_indexCanBe_14
theorem v_M_indexCanBe_1 {R : Room} {s : State} {args : Array Value} {own : String} {index : Nat} (hk : ∀ w ∈ tb, w.before args s = true) (hl : Cond.methodLink own index y_M_indexCanBe ∈ tb) (hR : 1 + 1 ≤ R.frames ∧ 8 + (1 + 11) + 20 ≤ R.locals) : CallW R s args own "SignMachine$Machine" index y_M_indexCanBe b_M_indexCanBe 1 (some .boolean) (.code y_M_indexCanBe b_M_indexCanBe 1 (some .boolean) :: tb) ({ frames := 1, cells := 0, slots := 0, locals := 20 }) 0 0 0 := mk_v 0 hk k_309 hl k_308 k_6 k_117 rfl rfl h_M_indexCanBe hR
set_option maxHeartbeats 4000000 in
set_option maxRecDepth 100000 in
theorem c_M_blockCanBe_1 (l : Launch) (D : va_G) (cI cJ cZ cB : ClassId) (p0 p1 p2 p3 p4 p5 : Nat) (sz : Nat)  : Met l y_M_blockCanBe (.code y_M_blockCanBe b_M_blockCanBe 2 (some .boolean) :: tb) ({ frames := 0, cells := 0, slots := 0, locals := 0 }) (pM D cI cJ cZ cB (wS10 cI cJ cZ cB p0 p1 p2 p3 p4 p5 (0 : Int32) (0 : Int32) (0 : Int32) (0 : Int32) (0 : Int32) (0 : Int32) (0 : Int32) (0 : Int32) (0 : Int32) (0 : Int32) (fun _ => 0) (fun _ => 0) (0 : Int32) (0 : Int32)) sz [.ref p1]) (va_Qi (fun r (_ : Unit) => r = (1 : Int32)) (fun u t => match u with | _ => va_P D classes (wS10 cI cJ cZ cB p0 p1 p2 p3 p4 p5 (0 : Int32) (0 : Int32) (0 : Int32) (0 : Int32) (0 : Int32) (0 : Int32) (0 : Int32) (0 : Int32) (0 : Int32) (0 : Int32) (fun _ => 0) (fun _ => 0) (0 : Int32) (0 : Int32)) t.heap ∧ va_D (va_A (wS10 cI cJ cZ cB p0 p1 p2 p3 p4 p5 (0 : Int32) (0 : Int32) (0 : Int32) (0 : Int32) (0 : Int32) (0 : Int32) (0 : Int32) (0 : Int32) (0 : Int32) (0 : Int32) (fun _ => 0) (fun _ => 0) (0 : Int32) (0 : Int32)) sz) (wS10 cI cJ cZ cB p0 p1 p2 p3 p4 p5 (0 : Int32) (0 : Int32) (0 : Int32) (0 : Int32) (0 : Int32) (0 : Int32) (0 : Int32) (0 : Int32) (0 : Int32) (0 : Int32) (fun _ => 0) (fun _ => 0) (0 : Int32) (0 : Int32))) (va_A (wS10 cI cJ cZ cB p0 p1 p2 p3 p4 p5 (0 : Int32) (0 : Int32) (0 : Int32) (0 : Int32) (0 : Int32) (0 : Int32) (0 : Int32) (0 : Int32) (0 : Int32) (0 : Int32) (fun _ => 0) (fun _ => 0) (0 : Int32) (0 : Int32)) sz)) 0 0 (va_A (wS10 cI cJ cZ cB p0 p1 p2 p3 p4 p5 (0 : Int32) (0 : Int32) (0 : Int32) (0 : Int32) (0 : Int32) (0 : Int32) (0 : Int32) (0 : Int32) (0 : Int32) (0 : Int32) (fun _ => 0) (fun _ => 0) (0 : Int32) (0 : Int32)) sz) := by
  refine Met.ofW (cc := b_M_blockCanBe) (maxL := 2) (ret := (some .boolean)) (by decide) rfl ?_
  intro p e s m args below meth c s₁ B hml hv
  obtain ⟨rfl, hsz, hK, hP, hD0⟩ := hv
  subst hsz
  have hD := hD0.self (sz := s.heap.size)
  generalize hAe : va_A (wS10 cI cJ cZ cB p0 p1 p2 p3 p4 p5 (0 : Int32) (0 : Int32) (0 : Int32) (0 : Int32) (0 : Int32) (0 : Int32) (0 : Int32) (0 : Int32) (0 : Int32) (0 : Int32) (fun _ => 0) (fun _ => 0) (0 : Int32) (0 : Int32)) s.heap.size = A at hD ⊢
  have hA : ∀ q : Nat, s.heap.size ≤ q → A q := fun q h => by rw [← hAe]; exact Or.inr h
  have hS : va_S A s.heap s.heap [] := va_S.rf
  have hx := B.exec
  have hb := B.bytes
  have hr := B.returns
  have hts := atoms_spec (ws := .code y_M_blockCanBe b_M_blockCanBe 2 (some .boolean) :: tb) B.pre
  have hk : ∀ w ∈ tb, w.before [.ref p1].toArray s = true := fun w h => hts w (List.mem_cons_of_mem _ h)
  have hown : s.vm.findClass "SignMachine$Machine" = some m.cls := findClass_of_methodNamed B.named
  have hlocks := B.notSynchronized
  have hl := lv_entry ([.ref p1]) (n := 2) (Nat.le_of_ble_eq_true rfl)
  rw [lg_entry_eq]
  generalize (lg_sl ([.ref p1]) ++ List.replicate (2 - (lg_sl ([.ref p1])).length) Slot.unset).toArray = ls at hl ⊢
  have hl : lv_has ls 2 [(0, .ref p1)] := hl
  refine lv_aload_n hx hb d_M_blockCanBe_0 rfl (lv_at hl 0 rfl) ?_
  refine va_get (D := D) (ci := 1) (v := .int (0 : Int32)) (C := "SignMachine$Machine") (T := F_M) (N := 14) hx hb hk fi_M hown hK.1 hP 1 rfl rfl 9 (by decide) (hk _ k_176) (fun _ h9 => h9) rfl d_M_blockCanBe_1 ?_
  refine lv_bipush (v := 35) hx hb d_M_blockCanBe_4 (by decide) ?_
  refine lv_icmp_lt (tgt := 18) hx hb d_M_blockCanBe_6 (by decide) (fun c1 => ?_) (fun c1 => absurd (show (0 : Int32) < (35 : Int32) from (by decide)) c1)
  refine lv_iconst (v := 1) hx hb d_M_blockCanBe_18 (by decide) ?_
  exact W.zret (v := (1 : Int32)) hx hb hr rfl (fun t ht hW => ⟨⟨(1 : Int32), (), rfl, rfl, by show va_P D classes _ t.heap; rw [ht]; exact hP, hD⟩, hS.F ht⟩) hS.2.2 d_M_blockCanBe_19
theorem v_M_blockCanBe_1 {R : Room} {s : State} {args : Array Value} {own : String} {index : Nat} (hk : ∀ w ∈ tb, w.before args s = true) (hl : Cond.methodLink own index y_M_blockCanBe ∈ tb) (hR : 0 + 1 ≤ R.frames ∧ 8 + (2 + 11) + 0 ≤ R.locals) : CallW R s args own "SignMachine$Machine" index y_M_blockCanBe b_M_blockCanBe 2 (some .boolean) (.code y_M_blockCanBe b_M_blockCanBe 2 (some .boolean) :: tb) ({ frames := 0, cells := 0, slots := 0, locals := 0 }) 0 0 0 := mk_v 0 hk k_336 hl k_335 k_9 k_117 rfl rfl h_M_blockCanBe hR
set_option maxHeartbeats 4000000 in
set_option maxRecDepth 100000 in
theorem c_M_reasonAgainst_1 (l : Launch) (D : va_G) (cI cJ cZ cB : ClassId) (p0 p1 p2 p3 p4 p5 : Nat) (sz : Nat)  : Met l y_M_reasonAgainst (.code y_M_reasonAgainst b_M_reasonAgainst 1 (some .int) :: tb) ({ frames := 2, cells := 0, slots := 0, locals := 40 }) (pM D cI cJ cZ cB (wS10 cI cJ cZ cB p0 p1 p2 p3 p4 p5 (0 : Int32) (0 : Int32) (0 : Int32) (0 : Int32) (0 : Int32) (0 : Int32) (0 : Int32) (0 : Int32) (0 : Int32) (0 : Int32) (fun _ => 0) (fun _ => 0) (0 : Int32) (0 : Int32)) sz [.ref p1]) (va_Qi (fun r (_ : Unit) => r = (0 : Int32)) (fun u t => match u with | _ => va_P D classes (wS10 cI cJ cZ cB p0 p1 p2 p3 p4 p5 (0 : Int32) (0 : Int32) (0 : Int32) (0 : Int32) (0 : Int32) (0 : Int32) (0 : Int32) (0 : Int32) (0 : Int32) (0 : Int32) (fun _ => 0) (fun _ => 0) (0 : Int32) (0 : Int32)) t.heap ∧ va_D (va_A (wS10 cI cJ cZ cB p0 p1 p2 p3 p4 p5 (0 : Int32) (0 : Int32) (0 : Int32) (0 : Int32) (0 : Int32) (0 : Int32) (0 : Int32) (0 : Int32) (0 : Int32) (0 : Int32) (fun _ => 0) (fun _ => 0) (0 : Int32) (0 : Int32)) sz) (wS10 cI cJ cZ cB p0 p1 p2 p3 p4 p5 (0 : Int32) (0 : Int32) (0 : Int32) (0 : Int32) (0 : Int32) (0 : Int32) (0 : Int32) (0 : Int32) (0 : Int32) (0 : Int32) (fun _ => 0) (fun _ => 0) (0 : Int32) (0 : Int32))) (va_A (wS10 cI cJ cZ cB p0 p1 p2 p3 p4 p5 (0 : Int32) (0 : Int32) (0 : Int32) (0 : Int32) (0 : Int32) (0 : Int32) (0 : Int32) (0 : Int32) (0 : Int32) (0 : Int32) (fun _ => 0) (fun _ => 0) (0 : Int32) (0 : Int32)) sz)) 0 0 (va_A (wS10 cI cJ cZ cB p0 p1 p2 p3 p4 p5 (0 : Int32) (0 : Int32) (0 : Int32) (0 : Int32) (0 : Int32) (0 : Int32) (0 : Int32) (0 : Int32) (0 : Int32) (0 : Int32) (fun _ => 0) (fun _ => 0) (0 : Int32) (0 : Int32)) sz) := by
  refine Met.ofW (cc := b_M_reasonAgainst) (maxL := 1) (ret := (some .int)) (by decide) rfl ?_
  intro p e s m args below meth c s₁ B hml hv
  obtain ⟨rfl, hsz, hK, hP, hD0⟩ := hv
  subst hsz
  have hD := hD0.self (sz := s.heap.size)
  generalize hAe : va_A (wS10 cI cJ cZ cB p0 p1 p2 p3 p4 p5 (0 : Int32) (0 : Int32) (0 : Int32) (0 : Int32) (0 : Int32) (0 : Int32) (0 : Int32) (0 : Int32) (0 : Int32) (0 : Int32) (fun _ => 0) (fun _ => 0) (0 : Int32) (0 : Int32)) s.heap.size = A at hD ⊢
  have hA : ∀ q : Nat, s.heap.size ≤ q → A q := fun q h => by rw [← hAe]; exact Or.inr h
  have hS : va_S A s.heap s.heap [] := va_S.rf
  have hx := B.exec
  have hb := B.bytes
  have hr := B.returns
  have hts := atoms_spec (ws := .code y_M_reasonAgainst b_M_reasonAgainst 1 (some .int) :: tb) B.pre
  have hk : ∀ w ∈ tb, w.before [.ref p1].toArray s = true := fun w h => hts w (List.mem_cons_of_mem _ h)
  have hown : s.vm.findClass "SignMachine$Machine" = some m.cls := findClass_of_methodNamed B.named
  have hlocks := B.notSynchronized
  have hl := lv_entry ([.ref p1]) (n := 1) (Nat.le_of_ble_eq_true rfl)
  rw [lg_entry_eq]
  generalize (lg_sl ([.ref p1]) ++ List.replicate (1 - (lg_sl ([.ref p1])).length) Slot.unset).toArray = ls at hl ⊢
  have hl : lv_has ls 1 [(0, .ref p1)] := hl
  refine lv_aload_n hx hb d_M_reasonAgainst_0 rfl (lv_at hl 0 rfl) ?_
  refine kn_i (va_runV (C := "SignMachine$Machine") (As := []) (rest := []) ⟨hx, hb, hml, hown, hk⟩ (c_M_shapeCanBe_1 l D cI cJ cZ cB p0 p1 p2 p3 p4 p5 s.heap.size ) (v_M_shapeCanBe_1 hk k_284 ⟨Nat.le_of_ble_eq_true rfl, Nat.le_of_ble_eq_true rfl⟩) (pM_v hK hP hD (ci := 1) (q0 := 1) rfl rfl rfl) rfl rfl hl.1 rfl (lv_room (Nat.le_of_ble_eq_true rfl)) d_M_reasonAgainst_1 ⟨by decide, by decide⟩) hS hA hD (fun u t H locs ht hB hFr hS => ?_)
  obtain ⟨hP, hD⟩ := hB
  rw [ht] at hP
  have hD := dwk hD hFr
  clear ht hFr
  have hP : va_P D classes (wS10 cI cJ cZ cB p0 p1 p2 p3 p4 p5 (0 : Int32) (0 : Int32) (0 : Int32) (0 : Int32) (0 : Int32) (0 : Int32) (0 : Int32) (0 : Int32) (0 : Int32) (0 : Int32) (fun _ => 0) (fun _ => 0) (0 : Int32) (0 : Int32)) H := hP
  have hD : va_D A (wS10 cI cJ cZ cB p0 p1 p2 p3 p4 p5 (0 : Int32) (0 : Int32) (0 : Int32) (0 : Int32) (0 : Int32) (0 : Int32) (0 : Int32) (0 : Int32) (0 : Int32) (0 : Int32) (fun _ => 0) (fun _ => 0) (0 : Int32) (0 : Int32)) := hD
  refine lv_if_ne (tgt := 9) hx hb d_M_reasonAgainst_4 (by decide) (fun c1 => ?_) (fun c1 => absurd c1 (show ¬ (1 : Int32) = (0 : Int32) from (by decide)))
  refine lv_aload_n hx hb d_M_reasonAgainst_9 rfl (lv_at hl 0 rfl) ?_
  refine kn_i (va_runV (C := "SignMachine$Machine") (As := []) (rest := []) ⟨hx, hb, hml, hown, hk⟩ (c_M_addressCanBe_1 l D cI cJ cZ cB p0 p1 p2 p3 p4 p5 H.size ) (v_M_addressCanBe_1 hk k_295 ⟨Nat.le_of_ble_eq_true rfl, Nat.le_of_ble_eq_true rfl⟩) (pM_v hK hP hD (ci := 1) (q0 := 1) rfl rfl rfl) rfl rfl hl.1 rfl (lv_room (Nat.le_of_ble_eq_true rfl)) d_M_reasonAgainst_10 ⟨by decide, by decide⟩) hS hA hD (fun u t H locs ht hB hFr hS => ?_)
  obtain ⟨hP, hD⟩ := hB
  rw [ht] at hP
  have hD := dwk hD hFr
  clear ht hFr
  have hP : va_P D classes (wS10 cI cJ cZ cB p0 p1 p2 p3 p4 p5 (0 : Int32) (0 : Int32) (0 : Int32) (0 : Int32) (0 : Int32) (0 : Int32) (0 : Int32) (0 : Int32) (0 : Int32) (0 : Int32) (fun _ => 0) (fun _ => 0) (0 : Int32) (0 : Int32)) H := hP
  have hD : va_D A (wS10 cI cJ cZ cB p0 p1 p2 p3 p4 p5 (0 : Int32) (0 : Int32) (0 : Int32) (0 : Int32) (0 : Int32) (0 : Int32) (0 : Int32) (0 : Int32) (0 : Int32) (0 : Int32) (fun _ => 0) (fun _ => 0) (0 : Int32) (0 : Int32)) := hD
  refine lv_if_ne (tgt := 18) hx hb d_M_reasonAgainst_13 (by decide) (fun c2 => ?_) (fun c2 => absurd c2 (show ¬ (1 : Int32) = (0 : Int32) from (by decide)))
  refine lv_aload_n hx hb d_M_reasonAgainst_18 rfl (lv_at hl 0 rfl) ?_
  refine kn_i (va_runV (C := "SignMachine$Machine") (As := []) (rest := []) ⟨hx, hb, hml, hown, hk⟩ (c_M_indexCanBe_1 l D cI cJ cZ cB p0 p1 p2 p3 p4 p5 H.size ) (v_M_indexCanBe_1 hk k_306 ⟨Nat.le_of_ble_eq_true rfl, Nat.le_of_ble_eq_true rfl⟩) (pM_v hK hP hD (ci := 1) (q0 := 1) rfl rfl rfl) rfl rfl hl.1 rfl (lv_room (Nat.le_of_ble_eq_true rfl)) d_M_reasonAgainst_19 ⟨by decide, by decide⟩) hS hA hD (fun u t H locs ht hB hFr hS => ?_)
  obtain ⟨hP, hD⟩ := hB
  rw [ht] at hP
  have hD := dwk hD hFr
  clear ht hFr
  have hP : va_P D classes (wS10 cI cJ cZ cB p0 p1 p2 p3 p4 p5 (0 : Int32) (0 : Int32) (0 : Int32) (0 : Int32) (0 : Int32) (0 : Int32) (0 : Int32) (0 : Int32) (0 : Int32) (0 : Int32) (fun _ => 0) (fun _ => 0) (0 : Int32) (0 : Int32)) H := hP
  have hD : va_D A (wS10 cI cJ cZ cB p0 p1 p2 p3 p4 p5 (0 : Int32) (0 : Int32) (0 : Int32) (0 : Int32) (0 : Int32) (0 : Int32) (0 : Int32) (0 : Int32) (0 : Int32) (0 : Int32) (fun _ => 0) (fun _ => 0) (0 : Int32) (0 : Int32)) := hD
  refine lv_if_ne (tgt := 27) hx hb d_M_reasonAgainst_22 (by decide) (fun c3 => ?_) (fun c3 => absurd c3 (show ¬ (1 : Int32) = (0 : Int32) from (by decide)))
  refine lv_aload_n hx hb d_M_reasonAgainst_27 rfl (lv_at hl 0 rfl) ?_
  refine kn_i (va_runV (C := "SignMachine$Machine") (As := []) (rest := []) ⟨hx, hb, hml, hown, hk⟩ (c_M_blockCanBe_1 l D cI cJ cZ cB p0 p1 p2 p3 p4 p5 H.size ) (v_M_blockCanBe_1 hk k_333 ⟨Nat.le_of_ble_eq_true rfl, Nat.le_of_ble_eq_true rfl⟩) (pM_v hK hP hD (ci := 1) (q0 := 1) rfl rfl rfl) rfl rfl hl.1 rfl (lv_room (Nat.le_of_ble_eq_true rfl)) d_M_reasonAgainst_28 ⟨by decide, by decide⟩) hS hA hD (fun u t H locs ht hB hFr hS => ?_)
  obtain ⟨hP, hD⟩ := hB
  rw [ht] at hP
  have hD := dwk hD hFr
  clear ht hFr
  have hP : va_P D classes (wS10 cI cJ cZ cB p0 p1 p2 p3 p4 p5 (0 : Int32) (0 : Int32) (0 : Int32) (0 : Int32) (0 : Int32) (0 : Int32) (0 : Int32) (0 : Int32) (0 : Int32) (0 : Int32) (fun _ => 0) (fun _ => 0) (0 : Int32) (0 : Int32)) H := hP
  have hD : va_D A (wS10 cI cJ cZ cB p0 p1 p2 p3 p4 p5 (0 : Int32) (0 : Int32) (0 : Int32) (0 : Int32) (0 : Int32) (0 : Int32) (0 : Int32) (0 : Int32) (0 : Int32) (0 : Int32) (fun _ => 0) (fun _ => 0) (0 : Int32) (0 : Int32)) := hD
  refine lv_if_eq (tgt := 38) hx hb d_M_reasonAgainst_31 (by decide) (fun c4 => absurd c4 (show ¬ (1 : Int32) = (0 : Int32) from (by decide))) (fun c4 => ?_)
  refine lv_iconst (v := 0) hx hb d_M_reasonAgainst_34 (by decide) ?_
  refine lv_goto (tgt := 39) hx hb d_M_reasonAgainst_35 (by decide) ?_
  exact W.iret (v := (0 : Int32)) hx hb hr (fun t ht hW => ⟨⟨(0 : Int32), (), rfl, rfl, by show va_P D classes _ t.heap; rw [ht]; exact hP, hD⟩, hS.F ht⟩) hS.2.2 d_M_reasonAgainst_39
theorem v_M_reasonAgainst_1 {R : Room} {s : State} {args : Array Value} {own : String} {index : Nat} (hk : ∀ w ∈ tb, w.before args s = true) (hl : Cond.methodLink own index y_M_reasonAgainst ∈ tb) (hR : 2 + 1 ≤ R.frames ∧ 8 + (1 + 11) + 40 ≤ R.locals) : CallW R s args own "SignMachine$Machine" index y_M_reasonAgainst b_M_reasonAgainst 1 (some .int) (.code y_M_reasonAgainst b_M_reasonAgainst 1 (some .int) :: tb) ({ frames := 2, cells := 0, slots := 0, locals := 40 }) 0 0 0 := mk_v 0 hk k_283 hl k_282 k_1 k_117 rfl rfl h_M_reasonAgainst hR
set_option maxHeartbeats 4000000 in
set_option maxRecDepth 100000 in
theorem c_M_duration_1 (l : Launch) (D : va_G) (cI cJ cZ cB : ClassId) (p0 p1 p2 p3 p4 p5 : Nat) (sz : Nat)  : Met l y_M_duration (.code y_M_duration b_M_duration 1 (some .int) :: tb) ({ frames := 1, cells := 0, slots := 0, locals := 20 }) (pM D cI cJ cZ cB (wS10 cI cJ cZ cB p0 p1 p2 p3 p4 p5 (0 : Int32) (0 : Int32) (0 : Int32) (0 : Int32) (0 : Int32) (0 : Int32) (0 : Int32) (0 : Int32) (0 : Int32) (0 : Int32) (fun _ => 0) (fun _ => 0) (0 : Int32) (0 : Int32)) sz [.ref p1]) (va_Qi (fun r (_ : Unit) => r = (1 : Int32)) (fun u t => match u with | _ => va_P D classes (wS10 cI cJ cZ cB p0 p1 p2 p3 p4 p5 (0 : Int32) (0 : Int32) (0 : Int32) (0 : Int32) (0 : Int32) (0 : Int32) (0 : Int32) (0 : Int32) (0 : Int32) (0 : Int32) (fun _ => 0) (fun _ => 0) (0 : Int32) (0 : Int32)) t.heap ∧ va_D (va_A (wS10 cI cJ cZ cB p0 p1 p2 p3 p4 p5 (0 : Int32) (0 : Int32) (0 : Int32) (0 : Int32) (0 : Int32) (0 : Int32) (0 : Int32) (0 : Int32) (0 : Int32) (0 : Int32) (fun _ => 0) (fun _ => 0) (0 : Int32) (0 : Int32)) sz) (wS10 cI cJ cZ cB p0 p1 p2 p3 p4 p5 (0 : Int32) (0 : Int32) (0 : Int32) (0 : Int32) (0 : Int32) (0 : Int32) (0 : Int32) (0 : Int32) (0 : Int32) (0 : Int32) (fun _ => 0) (fun _ => 0) (0 : Int32) (0 : Int32))) (va_A (wS10 cI cJ cZ cB p0 p1 p2 p3 p4 p5 (0 : Int32) (0 : Int32) (0 : Int32) (0 : Int32) (0 : Int32) (0 : Int32) (0 : Int32) (0 : Int32) (0 : Int32) (0 : Int32) (fun _ => 0) (fun _ => 0) (0 : Int32) (0 : Int32)) sz)) 0 0 (va_A (wS10 cI cJ cZ cB p0 p1 p2 p3 p4 p5 (0 : Int32) (0 : Int32) (0 : Int32) (0 : Int32) (0 : Int32) (0 : Int32) (0 : Int32) (0 : Int32) (0 : Int32) (0 : Int32) (fun _ => 0) (fun _ => 0) (0 : Int32) (0 : Int32)) sz) := by
  refine Met.ofW (cc := b_M_duration) (maxL := 1) (ret := (some .int)) (by decide) rfl ?_
  intro p e s m args below meth c s₁ B hml hv
  obtain ⟨rfl, hsz, hK, hP, hD0⟩ := hv
  subst hsz
  have hD := hD0.self (sz := s.heap.size)
  generalize hAe : va_A (wS10 cI cJ cZ cB p0 p1 p2 p3 p4 p5 (0 : Int32) (0 : Int32) (0 : Int32) (0 : Int32) (0 : Int32) (0 : Int32) (0 : Int32) (0 : Int32) (0 : Int32) (0 : Int32) (fun _ => 0) (fun _ => 0) (0 : Int32) (0 : Int32)) s.heap.size = A at hD ⊢
  have hA : ∀ q : Nat, s.heap.size ≤ q → A q := fun q h => by rw [← hAe]; exact Or.inr h
  have hS : va_S A s.heap s.heap [] := va_S.rf
  have hx := B.exec
  have hb := B.bytes
  have hr := B.returns
  have hts := atoms_spec (ws := .code y_M_duration b_M_duration 1 (some .int) :: tb) B.pre
  have hk : ∀ w ∈ tb, w.before [.ref p1].toArray s = true := fun w h => hts w (List.mem_cons_of_mem _ h)
  have hown : s.vm.findClass "SignMachine$Machine" = some m.cls := findClass_of_methodNamed B.named
  have hlocks := B.notSynchronized
  have hl := lv_entry ([.ref p1]) (n := 1) (Nat.le_of_ble_eq_true rfl)
  rw [lg_entry_eq]
  generalize (lg_sl ([.ref p1]) ++ List.replicate (1 - (lg_sl ([.ref p1])).length) Slot.unset).toArray = ls at hl ⊢
  have hl : lv_has ls 1 [(0, .ref p1)] := hl
  refine lv_aload_n hx hb d_M_duration_0 rfl (lv_at hl 0 rfl) ?_
  refine kn_i (va_runV (C := "SignMachine$Machine") (As := []) (rest := []) ⟨hx, hb, hml, hown, hk⟩ (c_M_hasFieldOfWord_1 l D cI cJ cZ cB p0 p1 p2 p3 p4 p5 s.heap.size ) (v_M_hasFieldOfWord_1 hk k_288 ⟨Nat.le_of_ble_eq_true rfl, Nat.le_of_ble_eq_true rfl⟩) (pM_v hK hP hD (ci := 1) (q0 := 1) rfl rfl rfl) rfl rfl hl.1 rfl (lv_room (Nat.le_of_ble_eq_true rfl)) d_M_duration_1 ⟨by decide, by decide⟩) hS hA hD (fun u t H locs ht hB hFr hS => ?_)
  obtain ⟨hP, hD⟩ := hB
  rw [ht] at hP
  have hD := dwk hD hFr
  clear ht hFr
  have hP : va_P D classes (wS10 cI cJ cZ cB p0 p1 p2 p3 p4 p5 (0 : Int32) (0 : Int32) (0 : Int32) (0 : Int32) (0 : Int32) (0 : Int32) (0 : Int32) (0 : Int32) (0 : Int32) (0 : Int32) (fun _ => 0) (fun _ => 0) (0 : Int32) (0 : Int32)) H := hP
  have hD : va_D A (wS10 cI cJ cZ cB p0 p1 p2 p3 p4 p5 (0 : Int32) (0 : Int32) (0 : Int32) (0 : Int32) (0 : Int32) (0 : Int32) (0 : Int32) (0 : Int32) (0 : Int32) (0 : Int32) (fun _ => 0) (fun _ => 0) (0 : Int32) (0 : Int32)) := hD
  refine lv_if_eq (tgt := 35) hx hb d_M_duration_4 (by decide) (fun c1 => ?_) (fun c1 => absurd (show (0 : Int32) = (0 : Int32) from (by decide)) c1)
  refine lv_aload_n hx hb d_M_duration_35 rfl (lv_at hl 0 rfl) ?_
  refine va_get (D := D) (ci := 1) (v := .int (0 : Int32)) (C := "SignMachine$Machine") (T := F_M) (N := 14) hx hb hk fi_M hown hK.1 hP 1 rfl rfl 9 (by decide) (hk _ k_176) (fun _ h9 => h9) rfl d_M_duration_36 ?_
  refine lv_tableOut (tgt := 78) hx hb d_M_duration_39 (by decide) (by decide) ?_
  refine lv_iconst (v := 1) hx hb d_M_duration_78 (by decide) ?_
  exact W.iret (v := (1 : Int32)) hx hb hr (fun t ht hW => ⟨⟨(1 : Int32), (), rfl, rfl, by show va_P D classes _ t.heap; rw [ht]; exact hP, hD⟩, hS.F ht⟩) hS.2.2 d_M_duration_79
theorem v_M_duration_1 {R : Room} {s : State} {args : Array Value} {own : String} {index : Nat} (hk : ∀ w ∈ tb, w.before args s = true) (hl : Cond.methodLink own index y_M_duration ∈ tb) (hR : 1 + 1 ≤ R.frames ∧ 8 + (1 + 11) + 20 ≤ R.locals) : CallW R s args own "SignMachine$Machine" index y_M_duration b_M_duration 1 (some .int) (.code y_M_duration b_M_duration 1 (some .int) :: tb) ({ frames := 1, cells := 0, slots := 0, locals := 20 }) 0 0 0 := mk_v 0 hk k_344 hl k_343 k_10 k_117 rfl rfl h_M_duration hR
set_option maxHeartbeats 4000000 in
set_option maxRecDepth 100000 in
theorem c_M_performLow_1 (l : Launch) (D : va_G) (cI cJ cZ cB : ClassId) (p0 p1 p2 p3 p4 p5 : Nat) (sz : Nat)  : Met l y_M_performLow (.code y_M_performLow b_M_performLow 1 none :: tb) ({ frames := 0, cells := 0, slots := 0, locals := 0 }) (pM D cI cJ cZ cB (wS10 cI cJ cZ cB p0 p1 p2 p3 p4 p5 (0 : Int32) (0 : Int32) (1 : Int32) (1 : Int32) (0 : Int32) (0 : Int32) (0 : Int32) (0 : Int32) (0 : Int32) (0 : Int32) (fun _ => 0) (fun _ => 0) (0 : Int32) (0 : Int32)) sz [.ref p1]) (va_Qv (fun (_ : Unit) => True) (fun u t => match u with | _ => va_P D classes (wS10 cI cJ cZ cB p0 p1 p2 p3 p4 p5 (0 : Int32) (0 : Int32) (1 : Int32) (1 : Int32) (0 : Int32) (0 : Int32) (0 : Int32) (0 : Int32) (0 : Int32) (0 : Int32) (fun _ => 0) (fun _ => 0) (0 : Int32) (0 : Int32)) t.heap ∧ va_D (va_A (wS10 cI cJ cZ cB p0 p1 p2 p3 p4 p5 (0 : Int32) (0 : Int32) (1 : Int32) (1 : Int32) (0 : Int32) (0 : Int32) (0 : Int32) (0 : Int32) (0 : Int32) (0 : Int32) (fun _ => 0) (fun _ => 0) (0 : Int32) (0 : Int32)) sz) (wS10 cI cJ cZ cB p0 p1 p2 p3 p4 p5 (0 : Int32) (0 : Int32) (1 : Int32) (1 : Int32) (0 : Int32) (0 : Int32) (0 : Int32) (0 : Int32) (0 : Int32) (0 : Int32) (fun _ => 0) (fun _ => 0) (0 : Int32) (0 : Int32))) (va_A (wS10 cI cJ cZ cB p0 p1 p2 p3 p4 p5 (0 : Int32) (0 : Int32) (1 : Int32) (1 : Int32) (0 : Int32) (0 : Int32) (0 : Int32) (0 : Int32) (0 : Int32) (0 : Int32) (fun _ => 0) (fun _ => 0) (0 : Int32) (0 : Int32)) sz)) 0 0 (va_A (wS10 cI cJ cZ cB p0 p1 p2 p3 p4 p5 (0 : Int32) (0 : Int32) (1 : Int32) (1 : Int32) (0 : Int32) (0 : Int32) (0 : Int32) (0 : Int32) (0 : Int32) (0 : Int32) (fun _ => 0) (fun _ => 0) (0 : Int32) (0 : Int32)) sz) := by
  refine Met.ofW (cc := b_M_performLow) (maxL := 1) (ret := none) (by decide) rfl ?_
  intro p e s m args below meth c s₁ B hml hv
  obtain ⟨rfl, hsz, hK, hP, hD0⟩ := hv
  subst hsz
  have hD := hD0.self (sz := s.heap.size)
  generalize hAe : va_A (wS10 cI cJ cZ cB p0 p1 p2 p3 p4 p5 (0 : Int32) (0 : Int32) (1 : Int32) (1 : Int32) (0 : Int32) (0 : Int32) (0 : Int32) (0 : Int32) (0 : Int32) (0 : Int32) (fun _ => 0) (fun _ => 0) (0 : Int32) (0 : Int32)) s.heap.size = A at hD ⊢
  have hA : ∀ q : Nat, s.heap.size ≤ q → A q := fun q h => by rw [← hAe]; exact Or.inr h
  have hS : va_S A s.heap s.heap [] := va_S.rf
  have hx := B.exec
  have hb := B.bytes
  have hr := B.returns
  have hts := atoms_spec (ws := .code y_M_performLow b_M_performLow 1 none :: tb) B.pre
  have hk : ∀ w ∈ tb, w.before [.ref p1].toArray s = true := fun w h => hts w (List.mem_cons_of_mem _ h)
  have hown : s.vm.findClass "SignMachine$Machine" = some m.cls := findClass_of_methodNamed B.named
  have hlocks := B.notSynchronized
  have hl := lv_entry ([.ref p1]) (n := 1) (Nat.le_of_ble_eq_true rfl)
  rw [lg_entry_eq]
  generalize (lg_sl ([.ref p1]) ++ List.replicate (1 - (lg_sl ([.ref p1])).length) Slot.unset).toArray = ls at hl ⊢
  have hl : lv_has ls 1 [(0, .ref p1)] := hl
  refine lv_aload_n hx hb d_M_performLow_0 rfl (lv_at hl 0 rfl) ?_
  refine va_get (D := D) (ci := 1) (v := .int (0 : Int32)) (C := "SignMachine$Machine") (T := F_M) (N := 14) hx hb hk fi_M hown hK.1 hP 1 rfl rfl 9 (by decide) (hk _ k_176) (fun _ h9 => h9) rfl d_M_performLow_1 ?_
  refine lv_tableOut (tgt := 122) hx hb d_M_performLow_4 (by decide) (by decide) ?_
  exact W.vret hx hb hr (fun t ht hW => ⟨⟨(), rfl, trivial, by show va_P D classes _ t.heap; rw [ht]; exact hP, hD⟩, hS.F ht⟩) hS.2.2 d_M_performLow_122
theorem v_M_performLow_1 {R : Room} {s : State} {args : Array Value} {own : String} {index : Nat} (hk : ∀ w ∈ tb, w.before args s = true) (hl : Cond.methodLink own index y_M_performLow ∈ tb) (hR : 0 + 1 ≤ R.frames ∧ 8 + (1 + 11) + 0 ≤ R.locals) : CallW R s args own "SignMachine$Machine" index y_M_performLow b_M_performLow 1 none (.code y_M_performLow b_M_performLow 1 none :: tb) ({ frames := 0, cells := 0, slots := 0, locals := 0 }) 0 0 0 := mk_v 0 hk k_353 hl k_352 k_12 k_117 rfl rfl h_M_performLow hR
set_option maxHeartbeats 4000000 in
set_option maxRecDepth 100000 in
theorem c_M_perform_1 (l : Launch) (D : va_G) (cI cJ cZ cB : ClassId) (p0 p1 p2 p3 p4 p5 : Nat) (sz : Nat)  : Met l y_M_perform (.code y_M_perform b_M_perform 1 none :: tb) ({ frames := 1, cells := 0, slots := 0, locals := 20 }) (pM D cI cJ cZ cB (wS10 cI cJ cZ cB p0 p1 p2 p3 p4 p5 (0 : Int32) (0 : Int32) (1 : Int32) (1 : Int32) (0 : Int32) (0 : Int32) (0 : Int32) (0 : Int32) (0 : Int32) (0 : Int32) (fun _ => 0) (fun _ => 0) (0 : Int32) (0 : Int32)) sz [.ref p1]) (va_Qv (fun (_ : Unit) => True) (fun u t => match u with | _ => va_P D classes (wS10 cI cJ cZ cB p0 p1 p2 p3 p4 p5 (0 : Int32) (0 : Int32) (1 : Int32) (1 : Int32) (0 : Int32) (0 : Int32) (0 : Int32) (0 : Int32) (0 : Int32) (0 : Int32) (fun _ => 0) (fun _ => 0) (0 : Int32) (0 : Int32)) t.heap ∧ va_D (va_A (wS10 cI cJ cZ cB p0 p1 p2 p3 p4 p5 (0 : Int32) (0 : Int32) (1 : Int32) (1 : Int32) (0 : Int32) (0 : Int32) (0 : Int32) (0 : Int32) (0 : Int32) (0 : Int32) (fun _ => 0) (fun _ => 0) (0 : Int32) (0 : Int32)) sz) (wS10 cI cJ cZ cB p0 p1 p2 p3 p4 p5 (0 : Int32) (0 : Int32) (1 : Int32) (1 : Int32) (0 : Int32) (0 : Int32) (0 : Int32) (0 : Int32) (0 : Int32) (0 : Int32) (fun _ => 0) (fun _ => 0) (0 : Int32) (0 : Int32))) (va_A (wS10 cI cJ cZ cB p0 p1 p2 p3 p4 p5 (0 : Int32) (0 : Int32) (1 : Int32) (1 : Int32) (0 : Int32) (0 : Int32) (0 : Int32) (0 : Int32) (0 : Int32) (0 : Int32) (fun _ => 0) (fun _ => 0) (0 : Int32) (0 : Int32)) sz)) 0 0 (va_A (wS10 cI cJ cZ cB p0 p1 p2 p3 p4 p5 (0 : Int32) (0 : Int32) (1 : Int32) (1 : Int32) (0 : Int32) (0 : Int32) (0 : Int32) (0 : Int32) (0 : Int32) (0 : Int32) (fun _ => 0) (fun _ => 0) (0 : Int32) (0 : Int32)) sz) := by
  refine Met.ofW (cc := b_M_perform) (maxL := 1) (ret := none) (by decide) rfl ?_
  intro p e s m args below meth c s₁ B hml hv
  obtain ⟨rfl, hsz, hK, hP, hD0⟩ := hv
  subst hsz
  have hD := hD0.self (sz := s.heap.size)
  generalize hAe : va_A (wS10 cI cJ cZ cB p0 p1 p2 p3 p4 p5 (0 : Int32) (0 : Int32) (1 : Int32) (1 : Int32) (0 : Int32) (0 : Int32) (0 : Int32) (0 : Int32) (0 : Int32) (0 : Int32) (fun _ => 0) (fun _ => 0) (0 : Int32) (0 : Int32)) s.heap.size = A at hD ⊢
  have hA : ∀ q : Nat, s.heap.size ≤ q → A q := fun q h => by rw [← hAe]; exact Or.inr h
  have hS : va_S A s.heap s.heap [] := va_S.rf
  have hx := B.exec
  have hb := B.bytes
  have hr := B.returns
  have hts := atoms_spec (ws := .code y_M_perform b_M_perform 1 none :: tb) B.pre
  have hk : ∀ w ∈ tb, w.before [.ref p1].toArray s = true := fun w h => hts w (List.mem_cons_of_mem _ h)
  have hown : s.vm.findClass "SignMachine$Machine" = some m.cls := findClass_of_methodNamed B.named
  have hlocks := B.notSynchronized
  have hl := lv_entry ([.ref p1]) (n := 1) (Nat.le_of_ble_eq_true rfl)
  rw [lg_entry_eq]
  generalize (lg_sl ([.ref p1]) ++ List.replicate (1 - (lg_sl ([.ref p1])).length) Slot.unset).toArray = ls at hl ⊢
  have hl : lv_has ls 1 [(0, .ref p1)] := hl
  refine lv_aload_n hx hb d_M_perform_0 rfl (lv_at hl 0 rfl) ?_
  refine va_get (D := D) (ci := 1) (v := .int (0 : Int32)) (C := "SignMachine$Machine") (T := F_M) (N := 14) hx hb hk fi_M hown hK.1 hP 1 rfl rfl 9 (by decide) (hk _ k_176) (fun _ h9 => h9) rfl d_M_perform_1 ?_
  refine lv_iconst (v := 3) hx hb d_M_perform_4 (by decide) ?_
  refine lv_ishr hx hb d_M_perform_5 ?_
  refine tpi (y := (0 : Int32)) (by decide) ?_
  refine lv_tableIn (off := 42) (tgt := 48) hx hb d_M_perform_6 (by decide) (by decide) rfl (by decide) ?_
  refine lv_aload_n hx hb d_M_perform_48 rfl (lv_at hl 0 rfl) ?_
  refine kn_v (va_runV (C := "SignMachine$Machine") (As := []) (rest := []) ⟨hx, hb, hml, hown, hk⟩ (c_M_performLow_1 l D cI cJ cZ cB p0 p1 p2 p3 p4 p5 s.heap.size ) (v_M_performLow_1 hk k_350 ⟨Nat.le_of_ble_eq_true rfl, Nat.le_of_ble_eq_true rfl⟩) (pM_v hK hP hD (ci := 1) (q0 := 1) rfl rfl rfl) rfl rfl hl.1 rfl (lv_room (Nat.le_of_ble_eq_true rfl)) d_M_perform_49 ⟨by decide, by decide⟩) hS hA hD (fun u t H locs ht hB hFr hS => ?_)
  obtain ⟨hP, hD⟩ := hB
  rw [ht] at hP
  have hD := dwk hD hFr
  clear ht hFr
  have hP : va_P D classes (wS10 cI cJ cZ cB p0 p1 p2 p3 p4 p5 (0 : Int32) (0 : Int32) (1 : Int32) (1 : Int32) (0 : Int32) (0 : Int32) (0 : Int32) (0 : Int32) (0 : Int32) (0 : Int32) (fun _ => 0) (fun _ => 0) (0 : Int32) (0 : Int32)) H := hP
  have hD : va_D A (wS10 cI cJ cZ cB p0 p1 p2 p3 p4 p5 (0 : Int32) (0 : Int32) (1 : Int32) (1 : Int32) (0 : Int32) (0 : Int32) (0 : Int32) (0 : Int32) (0 : Int32) (0 : Int32) (fun _ => 0) (fun _ => 0) (0 : Int32) (0 : Int32)) := hD
  refine lv_goto (tgt := 173) hx hb d_M_perform_52 (by decide) ?_
  exact W.vret hx hb hr (fun t ht hW => ⟨⟨(), rfl, trivial, by show va_P D classes _ t.heap; rw [ht]; exact hP, hD⟩, hS.F ht⟩) hS.2.2 d_M_perform_173
theorem v_M_perform_1 {R : Room} {s : State} {args : Array Value} {own : String} {index : Nat} (hk : ∀ w ∈ tb, w.before args s = true) (hl : Cond.methodLink own index y_M_perform ∈ tb) (hR : 1 + 1 ≤ R.frames ∧ 8 + (1 + 11) + 20 ≤ R.locals) : CallW R s args own "SignMachine$Machine" index y_M_perform b_M_perform 1 none (.code y_M_perform b_M_perform 1 none :: tb) ({ frames := 1, cells := 0, slots := 0, locals := 20 }) 0 0 0 := mk_v 0 hk k_349 hl k_348 k_11 k_117 rfl rfl h_M_perform hR
set_option maxHeartbeats 4000000 in
set_option maxRecDepth 100000 in
theorem c_M_execute_1 (l : Launch) (D : va_G) (cI cJ cZ cB : ClassId) (p0 p1 p2 p3 p4 p5 : Nat) (sz : Nat)  : Met l y_M_execute (.code y_M_execute b_M_execute 2 (some .int) :: tb) ({ frames := 3, cells := 0, slots := 0, locals := 60 }) (pM D cI cJ cZ cB (wS10 cI cJ cZ cB p0 p1 p2 p3 p4 p5 (0 : Int32) (0 : Int32) (0 : Int32) (0 : Int32) (0 : Int32) (0 : Int32) (0 : Int32) (0 : Int32) (0 : Int32) (0 : Int32) (fun _ => 0) (fun _ => 0) (0 : Int32) (0 : Int32)) sz [.ref p1]) (va_Qi (fun r (_ : Unit) => r = (0 : Int32)) (fun u t => match u with | _ => va_P D classes (wS10 cI cJ cZ cB p0 p1 p2 p3 p4 p5 (0 : Int32) (0 : Int32) (1 : Int32) (1 : Int32) (0 : Int32) (0 : Int32) (0 : Int32) (0 : Int32) (0 : Int32) (0 : Int32) (fun _ => 0) (fun _ => 0) (0 : Int32) (0 : Int32)) t.heap ∧ va_D (va_A (wS10 cI cJ cZ cB p0 p1 p2 p3 p4 p5 (0 : Int32) (0 : Int32) (0 : Int32) (0 : Int32) (0 : Int32) (0 : Int32) (0 : Int32) (0 : Int32) (0 : Int32) (0 : Int32) (fun _ => 0) (fun _ => 0) (0 : Int32) (0 : Int32)) sz) (wS10 cI cJ cZ cB p0 p1 p2 p3 p4 p5 (0 : Int32) (0 : Int32) (1 : Int32) (1 : Int32) (0 : Int32) (0 : Int32) (0 : Int32) (0 : Int32) (0 : Int32) (0 : Int32) (fun _ => 0) (fun _ => 0) (0 : Int32) (0 : Int32))) (va_A (wS10 cI cJ cZ cB p0 p1 p2 p3 p4 p5 (0 : Int32) (0 : Int32) (0 : Int32) (0 : Int32) (0 : Int32) (0 : Int32) (0 : Int32) (0 : Int32) (0 : Int32) (0 : Int32) (fun _ => 0) (fun _ => 0) (0 : Int32) (0 : Int32)) sz)) 0 0 (va_A (wS10 cI cJ cZ cB p0 p1 p2 p3 p4 p5 (0 : Int32) (0 : Int32) (0 : Int32) (0 : Int32) (0 : Int32) (0 : Int32) (0 : Int32) (0 : Int32) (0 : Int32) (0 : Int32) (fun _ => 0) (fun _ => 0) (0 : Int32) (0 : Int32)) sz) := by
  refine Met.ofW (cc := b_M_execute) (maxL := 2) (ret := (some .int)) (by decide) rfl ?_
  intro p e s m args below meth c s₁ B hml hv
  obtain ⟨rfl, hsz, hK, hP, hD0⟩ := hv
  subst hsz
  have hD := hD0.self (sz := s.heap.size)
  generalize hAe : va_A (wS10 cI cJ cZ cB p0 p1 p2 p3 p4 p5 (0 : Int32) (0 : Int32) (0 : Int32) (0 : Int32) (0 : Int32) (0 : Int32) (0 : Int32) (0 : Int32) (0 : Int32) (0 : Int32) (fun _ => 0) (fun _ => 0) (0 : Int32) (0 : Int32)) s.heap.size = A at hD ⊢
  have hA : ∀ q : Nat, s.heap.size ≤ q → A q := fun q h => by rw [← hAe]; exact Or.inr h
  have hS : va_S A s.heap s.heap [] := va_S.rf
  have hx := B.exec
  have hb := B.bytes
  have hr := B.returns
  have hts := atoms_spec (ws := .code y_M_execute b_M_execute 2 (some .int) :: tb) B.pre
  have hk : ∀ w ∈ tb, w.before [.ref p1].toArray s = true := fun w h => hts w (List.mem_cons_of_mem _ h)
  have hown : s.vm.findClass "SignMachine$Machine" = some m.cls := findClass_of_methodNamed B.named
  have hlocks := B.notSynchronized
  have hl := lv_entry ([.ref p1]) (n := 2) (Nat.le_of_ble_eq_true rfl)
  rw [lg_entry_eq]
  generalize (lg_sl ([.ref p1]) ++ List.replicate (2 - (lg_sl ([.ref p1])).length) Slot.unset).toArray = ls at hl ⊢
  have hl : lv_has ls 2 [(0, .ref p1)] := hl
  refine lv_aload_n hx hb d_M_execute_0 rfl (lv_at hl 0 rfl) ?_
  refine va_get (D := D) (ci := 1) (v := .int (0 : Int32)) (C := "SignMachine$Machine") (T := F_M) (N := 14) hx hb hk fi_M hown hK.1 hP 1 rfl rfl 7 (by decide) (hk _ k_174) (fun _ h9 => h9) rfl d_M_execute_1 ?_
  refine cs_i (W.runS (As := [.int (0 : Int32)]) (rest := []) ⟨hx, hb, hml, hown, hk⟩ (c_M_isAddress l (0 : Int32)) (s_M_isAddress hk k_262 ⟨Nat.le_of_ble_eq_true rfl, Nat.le_of_ble_eq_true rfl⟩) ⟨fun a U g mk q => q, fun U hU hW => ⟨rfl, trivial⟩⟩ rfl rfl hl.1 rfl (lv_room (Nat.le_of_ble_eq_true rfl)) d_M_execute_4 ⟨Nat.le_of_ble_eq_true rfl, Nat.le_of_ble_eq_true rfl⟩) ?_
  refine tpi (y := (1 : Int32)) (by decide) ?_
  refine lv_if_ne (tgt := 12) hx hb d_M_execute_7 (by decide) (fun c1 => ?_) (fun c1 => absurd c1 (show ¬ (1 : Int32) = (0 : Int32) from (by decide)))
  refine lv_aload_n hx hb d_M_execute_12 rfl (lv_at hl 0 rfl) ?_
  refine lv_aload_n hx hb d_M_execute_13 rfl (lv_at hl 0 rfl) ?_
  refine lv_aload_n hx hb d_M_execute_14 rfl (lv_at hl 0 rfl) ?_
  refine va_get (D := D) (ci := 1) (v := .int (0 : Int32)) (C := "SignMachine$Machine") (T := F_M) (N := 14) hx hb hk fi_M hown hK.1 hP 1 rfl rfl 7 (by decide) (hk _ k_174) (fun _ h9 => h9) rfl d_M_execute_15 ?_
  refine kn_i (va_runV (C := "SignMachine$Machine") (As := [.int (0 : Int32)]) (rest := [.ref p1]) ⟨hx, hb, hml, hown, hk⟩ (c_M_wordAt_2 l D cI cJ cZ cB p0 p1 p2 p3 p4 p5 s.heap.size ) (v_M_wordAt_2 hk k_263 ⟨Nat.le_of_ble_eq_true rfl, Nat.le_of_ble_eq_true rfl⟩) (pM_v hK hP hD (ci := 1) (q0 := 1) rfl rfl rfl) rfl rfl hl.1 rfl (lv_room (Nat.le_of_ble_eq_true rfl)) d_M_execute_18 ⟨by decide, by decide⟩) hS hA hD (fun u t H locs ht hB hFr hS => ?_)
  obtain ⟨hP, hD⟩ := hB
  rw [ht] at hP
  have hD := dwk hD hFr
  clear ht hFr
  have hP : va_P D classes (wS10 cI cJ cZ cB p0 p1 p2 p3 p4 p5 (0 : Int32) (0 : Int32) (0 : Int32) (0 : Int32) (0 : Int32) (0 : Int32) (0 : Int32) (0 : Int32) (0 : Int32) (0 : Int32) (fun _ => 0) (fun _ => 0) (0 : Int32) (0 : Int32)) H := hP
  have hD : va_D A (wS10 cI cJ cZ cB p0 p1 p2 p3 p4 p5 (0 : Int32) (0 : Int32) (0 : Int32) (0 : Int32) (0 : Int32) (0 : Int32) (0 : Int32) (0 : Int32) (0 : Int32) (0 : Int32) (fun _ => 0) (fun _ => 0) (0 : Int32) (0 : Int32)) := hD
  refine kn_v (va_runV (C := "SignMachine$Machine") (As := [.int (0 : Int32)]) (rest := []) ⟨hx, hb, hml, hown, hk⟩ (c_M_decode_1 l D cI cJ cZ cB p0 p1 p2 p3 p4 p5 H.size ) (v_M_decode_1 hk k_264 ⟨Nat.le_of_ble_eq_true rfl, Nat.le_of_ble_eq_true rfl⟩) (pM_v hK hP hD (ci := 1) (q0 := 1) rfl rfl rfl) rfl rfl hl.1 rfl (lv_room (Nat.le_of_ble_eq_true rfl)) d_M_execute_21 ⟨by decide, by decide⟩) hS hA hD (fun u t H locs ht hB hFr hS => ?_)
  obtain ⟨hP, hD⟩ := hB
  rw [ht] at hP
  have hD := dwk hD hFr
  clear ht hFr
  have hP : va_P D classes (wS10 cI cJ cZ cB p0 p1 p2 p3 p4 p5 (0 : Int32) (0 : Int32) (0 : Int32) (0 : Int32) (0 : Int32) (0 : Int32) (0 : Int32) (0 : Int32) (0 : Int32) (0 : Int32) (fun _ => 0) (fun _ => 0) (0 : Int32) (0 : Int32)) H := hP
  have hD : va_D A (wS10 cI cJ cZ cB p0 p1 p2 p3 p4 p5 (0 : Int32) (0 : Int32) (0 : Int32) (0 : Int32) (0 : Int32) (0 : Int32) (0 : Int32) (0 : Int32) (0 : Int32) (0 : Int32) (fun _ => 0) (fun _ => 0) (0 : Int32) (0 : Int32)) := hD
  refine lv_aload_n hx hb d_M_execute_24 rfl (lv_at hl 0 rfl) ?_
  refine kn_i (va_runV (C := "SignMachine$Machine") (As := []) (rest := []) ⟨hx, hb, hml, hown, hk⟩ (c_M_reasonAgainst_1 l D cI cJ cZ cB p0 p1 p2 p3 p4 p5 H.size ) (v_M_reasonAgainst_1 hk k_280 ⟨Nat.le_of_ble_eq_true rfl, Nat.le_of_ble_eq_true rfl⟩) (pM_v hK hP hD (ci := 1) (q0 := 1) rfl rfl rfl) rfl rfl hl.1 rfl (lv_room (Nat.le_of_ble_eq_true rfl)) d_M_execute_25 ⟨by decide, by decide⟩) hS hA hD (fun u t H locs ht hB hFr hS => ?_)
  obtain ⟨hP, hD⟩ := hB
  rw [ht] at hP
  have hD := dwk hD hFr
  clear ht hFr
  have hP : va_P D classes (wS10 cI cJ cZ cB p0 p1 p2 p3 p4 p5 (0 : Int32) (0 : Int32) (0 : Int32) (0 : Int32) (0 : Int32) (0 : Int32) (0 : Int32) (0 : Int32) (0 : Int32) (0 : Int32) (fun _ => 0) (fun _ => 0) (0 : Int32) (0 : Int32)) H := hP
  have hD : va_D A (wS10 cI cJ cZ cB p0 p1 p2 p3 p4 p5 (0 : Int32) (0 : Int32) (0 : Int32) (0 : Int32) (0 : Int32) (0 : Int32) (0 : Int32) (0 : Int32) (0 : Int32) (0 : Int32) (fun _ => 0) (fun _ => 0) (0 : Int32) (0 : Int32)) := hD
  refine lv_istore_n (lv' := [(1, .int (0 : Int32)), (0, .ref p1)]) hx hb d_M_execute_28 rfl hl (by decide) rfl (fun ls hl => ?_)
  refine lv_iload_n hx hb d_M_execute_29 rfl (lv_at hl 0 rfl) ?_
  refine lv_if_eq (tgt := 35) hx hb d_M_execute_30 (by decide) (fun c2 => ?_) (fun c2 => absurd (show (0 : Int32) = (0 : Int32) from (by decide)) c2)
  refine lv_aload_n hx hb d_M_execute_35 rfl (lv_at hl 1 rfl) ?_
  refine lv_aload_n hx hb d_M_execute_36 rfl (lv_at hl 1 rfl) ?_
  refine va_get (D := D) (ci := 1) (v := .int (0 : Int32)) (C := "SignMachine$Machine") (T := F_M) (N := 14) hx hb hk fi_M hown hK.1 hP 1 rfl rfl 6 (by decide) (hk _ k_172) (fun _ h9 => h9) rfl d_M_execute_37 ?_
  refine lv_aload_n hx hb d_M_execute_40 rfl (lv_at hl 1 rfl) ?_
  refine kn_i (va_runV (C := "SignMachine$Machine") (As := []) (rest := [.int (0 : Int32), .ref p1]) ⟨hx, hb, hml, hown, hk⟩ (c_M_duration_1 l D cI cJ cZ cB p0 p1 p2 p3 p4 p5 H.size ) (v_M_duration_1 hk k_341 ⟨Nat.le_of_ble_eq_true rfl, Nat.le_of_ble_eq_true rfl⟩) (pM_v hK hP hD (ci := 1) (q0 := 1) rfl rfl rfl) rfl rfl hl.1 rfl (lv_room (Nat.le_of_ble_eq_true rfl)) d_M_execute_41 ⟨by decide, by decide⟩) hS hA hD (fun u t H locs ht hB hFr hS => ?_)
  obtain ⟨hP, hD⟩ := hB
  rw [ht] at hP
  have hD := dwk hD hFr
  clear ht hFr
  have hP : va_P D classes (wS10 cI cJ cZ cB p0 p1 p2 p3 p4 p5 (0 : Int32) (0 : Int32) (0 : Int32) (0 : Int32) (0 : Int32) (0 : Int32) (0 : Int32) (0 : Int32) (0 : Int32) (0 : Int32) (fun _ => 0) (fun _ => 0) (0 : Int32) (0 : Int32)) H := hP
  have hD : va_D A (wS10 cI cJ cZ cB p0 p1 p2 p3 p4 p5 (0 : Int32) (0 : Int32) (0 : Int32) (0 : Int32) (0 : Int32) (0 : Int32) (0 : Int32) (0 : Int32) (0 : Int32) (0 : Int32) (fun _ => 0) (fun _ => 0) (0 : Int32) (0 : Int32)) := hD
  refine lv_iadd hx hb d_M_execute_44 ?_
  refine tpi (y := (1 : Int32)) (by decide) ?_
  refine lv_ldc (v := 1073741823) hx hb hown (hk _ k_345) d_M_execute_45 ?_
  refine lv_iand hx hb d_M_execute_47 ?_
  refine tpi (y := (1 : Int32)) (by decide) ?_
  refine va_put (D := D) (ci := 1) (v := .int (1 : Int32)) (ty := .int) (C := "SignMachine$Machine") (T := F_M) (N := 14) hx hb hk fi_M ft_M ft_M_ok fn_M hown hK.1 hP hD hS 1 rfl rfl 6 (by decide) (hk _ k_172) (fun _ h9 => h9) rfl (by decide +kernel) rfl rfl (Nat.le_of_ble_eq_true rfl) d_M_execute_48 (fun H locs hP hD hS => ?_)
  have hP : va_P D classes (wS10 cI cJ cZ cB p0 p1 p2 p3 p4 p5 (0 : Int32) (0 : Int32) (1 : Int32) (0 : Int32) (0 : Int32) (0 : Int32) (0 : Int32) (0 : Int32) (0 : Int32) (0 : Int32) (fun _ => 0) (fun _ => 0) (0 : Int32) (0 : Int32)) H := hP
  have hD : va_D A (wS10 cI cJ cZ cB p0 p1 p2 p3 p4 p5 (0 : Int32) (0 : Int32) (1 : Int32) (0 : Int32) (0 : Int32) (0 : Int32) (0 : Int32) (0 : Int32) (0 : Int32) (0 : Int32) (fun _ => 0) (fun _ => 0) (0 : Int32) (0 : Int32)) := hD
  refine lv_aload_n hx hb d_M_execute_51 rfl (lv_at hl 1 rfl) ?_
  refine lv_dup hx hb d_M_execute_52 rfl ?_
  refine va_get (D := D) (ci := 1) (v := .int (0 : Int32)) (C := "SignMachine$Machine") (T := F_M) (N := 14) hx hb hk fi_M hown hK.1 hP 1 rfl rfl 7 (by decide) (hk _ k_174) (fun _ h9 => h9) rfl d_M_execute_53 ?_
  refine lv_iconst (v := 1) hx hb d_M_execute_56 (by decide) ?_
  refine lv_iadd hx hb d_M_execute_57 ?_
  refine tpi (y := (1 : Int32)) (by decide) ?_
  refine va_put (D := D) (ci := 1) (v := .int (1 : Int32)) (ty := .int) (C := "SignMachine$Machine") (T := F_M) (N := 14) hx hb hk fi_M ft_M ft_M_ok fn_M hown hK.1 hP hD hS 1 rfl rfl 7 (by decide) (hk _ k_174) (fun _ h9 => h9) rfl (by decide +kernel) rfl rfl (Nat.le_of_ble_eq_true rfl) d_M_execute_58 (fun H locs hP hD hS => ?_)
  have hP : va_P D classes (wS10 cI cJ cZ cB p0 p1 p2 p3 p4 p5 (0 : Int32) (0 : Int32) (1 : Int32) (1 : Int32) (0 : Int32) (0 : Int32) (0 : Int32) (0 : Int32) (0 : Int32) (0 : Int32) (fun _ => 0) (fun _ => 0) (0 : Int32) (0 : Int32)) H := hP
  have hD : va_D A (wS10 cI cJ cZ cB p0 p1 p2 p3 p4 p5 (0 : Int32) (0 : Int32) (1 : Int32) (1 : Int32) (0 : Int32) (0 : Int32) (0 : Int32) (0 : Int32) (0 : Int32) (0 : Int32) (fun _ => 0) (fun _ => 0) (0 : Int32) (0 : Int32)) := hD
  refine lv_aload_n hx hb d_M_execute_61 rfl (lv_at hl 1 rfl) ?_
  refine kn_v (va_runV (C := "SignMachine$Machine") (As := []) (rest := []) ⟨hx, hb, hml, hown, hk⟩ (c_M_perform_1 l D cI cJ cZ cB p0 p1 p2 p3 p4 p5 H.size ) (v_M_perform_1 hk k_346 ⟨Nat.le_of_ble_eq_true rfl, Nat.le_of_ble_eq_true rfl⟩) (pM_v hK hP hD (ci := 1) (q0 := 1) rfl rfl rfl) rfl rfl hl.1 rfl (lv_room (Nat.le_of_ble_eq_true rfl)) d_M_execute_62 ⟨by decide, by decide⟩) hS hA hD (fun u t H locs ht hB hFr hS => ?_)
  obtain ⟨hP, hD⟩ := hB
  rw [ht] at hP
  have hD := dwk hD hFr
  clear ht hFr
  have hP : va_P D classes (wS10 cI cJ cZ cB p0 p1 p2 p3 p4 p5 (0 : Int32) (0 : Int32) (1 : Int32) (1 : Int32) (0 : Int32) (0 : Int32) (0 : Int32) (0 : Int32) (0 : Int32) (0 : Int32) (fun _ => 0) (fun _ => 0) (0 : Int32) (0 : Int32)) H := hP
  have hD : va_D A (wS10 cI cJ cZ cB p0 p1 p2 p3 p4 p5 (0 : Int32) (0 : Int32) (1 : Int32) (1 : Int32) (0 : Int32) (0 : Int32) (0 : Int32) (0 : Int32) (0 : Int32) (0 : Int32) (fun _ => 0) (fun _ => 0) (0 : Int32) (0 : Int32)) := hD
  refine lv_aload_n hx hb d_M_execute_65 rfl (lv_at hl 1 rfl) ?_
  refine va_get (D := D) (ci := 1) (v := .int (0 : Int32)) (C := "SignMachine$Machine") (T := F_M) (N := 14) hx hb hk fi_M hown hK.1 hP 1 rfl rfl 9 (by decide) (hk _ k_176) (fun _ h9 => h9) rfl d_M_execute_66 ?_
  refine lv_iconst (v := 5) hx hb d_M_execute_69 (by decide) ?_
  refine lv_icmp_ne (tgt := 85) hx hb d_M_execute_70 (by decide) (fun c3 => ?_) (fun c3 => absurd c3 (show ¬ (0 : Int32) = (5 : Int32) from (by decide)))
  refine lv_iconst (v := 0) hx hb d_M_execute_85 (by decide) ?_
  exact W.iret (v := (0 : Int32)) hx hb hr (fun t ht hW => ⟨⟨(0 : Int32), (), rfl, rfl, by show va_P D classes _ t.heap; rw [ht]; exact hP, hD⟩, hS.F ht⟩) hS.2.2 d_M_execute_86
theorem v_M_execute_1 {R : Room} {s : State} {args : Array Value} {own : String} {index : Nat} (hk : ∀ w ∈ tb, w.before args s = true) (hl : Cond.methodLink own index y_M_execute ∈ tb) (hR : 3 + 1 ≤ R.frames ∧ 8 + (2 + 11) + 60 ≤ R.locals) : CallW R s args own "SignMachine$Machine" index y_M_execute b_M_execute 2 (some .int) (.code y_M_execute b_M_execute 2 (some .int) :: tb) ({ frames := 3, cells := 0, slots := 0, locals := 60 }) 0 0 0 := mk_v 0 hk k_261 hl k_259 k_260 k_117 rfl rfl h_M_execute hR
def f_S_step_1  : Int32 := (0 : Int32)
set_option maxHeartbeats 4000000 in
set_option maxRecDepth 100000 in
theorem c_S_step_1 (l : Launch) (D : va_G) (cI cJ cZ cB : ClassId) (p0 p1 p2 p3 p4 p5 : Nat) (sz : Nat)  : Met l y_S_step (.code y_S_step b_S_step 1 (some .int) :: tb) ({ frames := 4, cells := 0, slots := 0, locals := 81 }) (pM D cI cJ cZ cB (wS10 cI cJ cZ cB p0 p1 p2 p3 p4 p5 (0 : Int32) (0 : Int32) (0 : Int32) (0 : Int32) (0 : Int32) (0 : Int32) (0 : Int32) (0 : Int32) (0 : Int32) (0 : Int32) (fun _ => 0) (fun _ => 0) (0 : Int32) (0 : Int32)) sz [.ref p0]) (va_Qi (fun r (_ : Unit) => r = f_S_step_1) (fun _ _ => True) (va_A (wS10 cI cJ cZ cB p0 p1 p2 p3 p4 p5 (0 : Int32) (0 : Int32) (0 : Int32) (0 : Int32) (0 : Int32) (0 : Int32) (0 : Int32) (0 : Int32) (0 : Int32) (0 : Int32) (fun _ => 0) (fun _ => 0) (0 : Int32) (0 : Int32)) sz)) 0 0 (va_A (wS10 cI cJ cZ cB p0 p1 p2 p3 p4 p5 (0 : Int32) (0 : Int32) (0 : Int32) (0 : Int32) (0 : Int32) (0 : Int32) (0 : Int32) (0 : Int32) (0 : Int32) (0 : Int32) (fun _ => 0) (fun _ => 0) (0 : Int32) (0 : Int32)) sz) := by
  refine Met.ofW (cc := b_S_step) (maxL := 1) (ret := (some .int)) (by decide) rfl ?_
  intro p e s m args below meth c s₁ B hml hv
  obtain ⟨rfl, hsz, hK, hP, hD0⟩ := hv
  subst hsz
  have hD := hD0.self (sz := s.heap.size)
  generalize hAe : va_A (wS10 cI cJ cZ cB p0 p1 p2 p3 p4 p5 (0 : Int32) (0 : Int32) (0 : Int32) (0 : Int32) (0 : Int32) (0 : Int32) (0 : Int32) (0 : Int32) (0 : Int32) (0 : Int32) (fun _ => 0) (fun _ => 0) (0 : Int32) (0 : Int32)) s.heap.size = A at hD ⊢
  have hA : ∀ q : Nat, s.heap.size ≤ q → A q := fun q h => by rw [← hAe]; exact Or.inr h
  have hS : va_S A s.heap s.heap [] := va_S.rf
  have hx := B.exec
  have hb := B.bytes
  have hr := B.returns
  have hts := atoms_spec (ws := .code y_S_step b_S_step 1 (some .int) :: tb) B.pre
  have hk : ∀ w ∈ tb, w.before [.ref p0].toArray s = true := fun w h => hts w (List.mem_cons_of_mem _ h)
  have hown : s.vm.findClass "SignMachine" = some m.cls := findClass_of_methodNamed B.named
  have hlocks := B.notSynchronized
  have hl := lv_entry ([.ref p0]) (n := 1) (Nat.le_of_ble_eq_true rfl)
  rw [lg_entry_eq]
  generalize (lg_sl ([.ref p0]) ++ List.replicate (1 - (lg_sl ([.ref p0])).length) Slot.unset).toArray = ls at hl ⊢
  have hl : lv_has ls 1 [(0, .ref p0)] := hl
  refine lv_aload_n hx hb d_S_step_0 rfl (lv_at hl 0 rfl) ?_
  refine va_get (D := D) (ci := 0) (v := .ref p1) (C := "SignMachine") (T := F_S) (N := 2) hx hb hk fi_S hown hK.1 hP 0 rfl rfl 0 (by decide) (hk _ k_210) (fun _ h9 => h9) rfl d_S_step_1 ?_
  refine lv_aload_n hx hb d_S_step_4 rfl (lv_at hl 0 rfl) ?_
  refine va_get (D := D) (ci := 0) (v := .ref p1) (C := "SignMachine") (T := F_S) (N := 2) hx hb hk fi_S hown hK.1 hP 0 rfl rfl 0 (by decide) (hk _ k_210) (fun _ h9 => h9) rfl d_S_step_5 ?_
  refine kn_i (va_runV (C := "SignMachine$Machine") (As := []) (rest := [.ref p1]) ⟨hx, hb, hml, hown, hk⟩ (c_M_execute_1 l D cI cJ cZ cB p0 p1 p2 p3 p4 p5 s.heap.size ) (v_M_execute_1 hk k_258 ⟨Nat.le_of_ble_eq_true rfl, Nat.le_of_ble_eq_true rfl⟩) (pM_v hK hP hD (ci := 1) (q0 := 1) rfl rfl rfl) rfl rfl hl.1 rfl (lv_room (Nat.le_of_ble_eq_true rfl)) d_S_step_8 ⟨by decide, by decide⟩) hS hA hD (fun u t H locs ht hB hFr hS => ?_)
  obtain ⟨hP, hD⟩ := hB
  rw [ht] at hP
  have hD := dwk hD hFr
  clear ht hFr
  have hP : va_P D classes (wS10 cI cJ cZ cB p0 p1 p2 p3 p4 p5 (0 : Int32) (0 : Int32) (1 : Int32) (1 : Int32) (0 : Int32) (0 : Int32) (0 : Int32) (0 : Int32) (0 : Int32) (0 : Int32) (fun _ => 0) (fun _ => 0) (0 : Int32) (0 : Int32)) H := hP
  have hD : va_D A (wS10 cI cJ cZ cB p0 p1 p2 p3 p4 p5 (0 : Int32) (0 : Int32) (1 : Int32) (1 : Int32) (0 : Int32) (0 : Int32) (0 : Int32) (0 : Int32) (0 : Int32) (0 : Int32) (fun _ => 0) (fun _ => 0) (0 : Int32) (0 : Int32)) := hD
  refine va_putN (D := D) (ci := 1) (v := .int (0 : Int32)) (ty := .int) (C := "SignMachine$Machine") (T := F_M) (N := 14) hx hb hk fi_M ft_M ft_M_ok fn_M hown hK.1 hP hD hS 1 rfl rfl 8 (by decide) (va_Nw.use rfl (hK.2 _ n_175)) (fun _ h9 => h9) rfl (by decide +kernel) rfl rfl (Nat.le_of_ble_eq_true rfl) d_S_step_11 (fun H locs hP hD hS => ?_)
  have hP : va_P D classes (wS10 cI cJ cZ cB p0 p1 p2 p3 p4 p5 (0 : Int32) (0 : Int32) (1 : Int32) (1 : Int32) (0 : Int32) (0 : Int32) (0 : Int32) (0 : Int32) (0 : Int32) (0 : Int32) (fun _ => 0) (fun _ => 0) (0 : Int32) (0 : Int32)) H := hP
  have hD : va_D A (wS10 cI cJ cZ cB p0 p1 p2 p3 p4 p5 (0 : Int32) (0 : Int32) (1 : Int32) (1 : Int32) (0 : Int32) (0 : Int32) (0 : Int32) (0 : Int32) (0 : Int32) (0 : Int32) (fun _ => 0) (fun _ => 0) (0 : Int32) (0 : Int32)) := hD
  refine lv_aload_n hx hb d_S_step_14 rfl (lv_at hl 0 rfl) ?_
  refine va_get (D := D) (ci := 0) (v := .ref p1) (C := "SignMachine") (T := F_S) (N := 2) hx hb hk fi_S hown hK.1 hP 0 rfl rfl 0 (by decide) (hk _ k_210) (fun _ h9 => h9) rfl d_S_step_15 ?_
  refine va_getN (D := D) (ci := 1) (v := .int (0 : Int32)) (C := "SignMachine$Machine") (T := F_M) (N := 14) hx hb hk fi_M hown hK.1 hP 1 rfl rfl 8 (by decide) (va_Nw.use rfl (hK.2 _ n_175)) (fun _ h9 => h9) rfl d_S_step_18 ?_
  exact W.iret (v := (0 : Int32)) hx hb hr (fun t ht hW => ⟨⟨(0 : Int32), (), rfl, by unfold f_S_step_1; rfl, trivial⟩, hS.F ht⟩) hS.2.2 d_S_step_21
theorem v_S_step_1 {R : Room} {s : State} {args : Array Value} {own : String} {index : Nat} (hk : ∀ w ∈ tb, w.before args s = true) (hl : Cond.methodLink own index y_S_step ∈ tb) (hR : 4 + 1 ≤ R.frames ∧ 8 + (1 + 11) + 81 ≤ R.locals) : CallW R s args own "SignMachine" index y_S_step b_S_step 1 (some .int) (.code y_S_step b_S_step 1 (some .int) :: tb) ({ frames := 4, cells := 0, slots := 0, locals := 81 }) 0 0 0 := mk_v 0 hk k_257 hl k_255 k_256 k_116 rfl rfl h_S_step hR
set_option maxHeartbeats 4000000 in
set_option maxRecDepth 100000 in
theorem c_M_execute_2 (l : Launch) (D : va_G) (cI cJ cZ cB : ClassId) (p0 p1 p2 p3 p4 p5 : Nat) (sz : Nat) (x1_6 : Int32) : Met l y_M_execute (.code y_M_execute b_M_execute 2 (some .int) :: tb) ({ frames := 1, cells := 0, slots := 0, locals := 20 }) (pM D cI cJ cZ cB (wS10 cI cJ cZ cB p0 p1 p2 p3 p4 p5 (0 : Int32) (0 : Int32) x1_6 (4000 : Int32) (0 : Int32) (0 : Int32) (0 : Int32) (0 : Int32) (0 : Int32) (0 : Int32) (fun _ => 0) (fun _ => 0) (0 : Int32) (0 : Int32)) sz [.ref p1]) (va_Qi (fun r (_ : Unit) => r = (3 : Int32)) (fun u t => match u with | _ => va_P D classes (wS10 cI cJ cZ cB p0 p1 p2 p3 p4 p5 (0 : Int32) (0 : Int32) x1_6 (4000 : Int32) (0 : Int32) (0 : Int32) (0 : Int32) (0 : Int32) (0 : Int32) (0 : Int32) (fun _ => 0) (fun _ => 0) (0 : Int32) (0 : Int32)) t.heap ∧ va_D (va_A (wS10 cI cJ cZ cB p0 p1 p2 p3 p4 p5 (0 : Int32) (0 : Int32) x1_6 (4000 : Int32) (0 : Int32) (0 : Int32) (0 : Int32) (0 : Int32) (0 : Int32) (0 : Int32) (fun _ => 0) (fun _ => 0) (0 : Int32) (0 : Int32)) sz) (wS10 cI cJ cZ cB p0 p1 p2 p3 p4 p5 (0 : Int32) (0 : Int32) x1_6 (4000 : Int32) (0 : Int32) (0 : Int32) (0 : Int32) (0 : Int32) (0 : Int32) (0 : Int32) (fun _ => 0) (fun _ => 0) (0 : Int32) (0 : Int32))) (va_A (wS10 cI cJ cZ cB p0 p1 p2 p3 p4 p5 (0 : Int32) (0 : Int32) x1_6 (4000 : Int32) (0 : Int32) (0 : Int32) (0 : Int32) (0 : Int32) (0 : Int32) (0 : Int32) (fun _ => 0) (fun _ => 0) (0 : Int32) (0 : Int32)) sz)) 0 0 (va_A (wS10 cI cJ cZ cB p0 p1 p2 p3 p4 p5 (0 : Int32) (0 : Int32) x1_6 (4000 : Int32) (0 : Int32) (0 : Int32) (0 : Int32) (0 : Int32) (0 : Int32) (0 : Int32) (fun _ => 0) (fun _ => 0) (0 : Int32) (0 : Int32)) sz) := by
  refine Met.ofW (cc := b_M_execute) (maxL := 2) (ret := (some .int)) (by decide) rfl ?_
  intro p e s m args below meth c s₁ B hml hv
  obtain ⟨rfl, hsz, hK, hP, hD0⟩ := hv
  subst hsz
  have hD := hD0.self (sz := s.heap.size)
  generalize hAe : va_A (wS10 cI cJ cZ cB p0 p1 p2 p3 p4 p5 (0 : Int32) (0 : Int32) x1_6 (4000 : Int32) (0 : Int32) (0 : Int32) (0 : Int32) (0 : Int32) (0 : Int32) (0 : Int32) (fun _ => 0) (fun _ => 0) (0 : Int32) (0 : Int32)) s.heap.size = A at hD ⊢
  have hA : ∀ q : Nat, s.heap.size ≤ q → A q := fun q h => by rw [← hAe]; exact Or.inr h
  have hS : va_S A s.heap s.heap [] := va_S.rf
  have hx := B.exec
  have hb := B.bytes
  have hr := B.returns
  have hts := atoms_spec (ws := .code y_M_execute b_M_execute 2 (some .int) :: tb) B.pre
  have hk : ∀ w ∈ tb, w.before [.ref p1].toArray s = true := fun w h => hts w (List.mem_cons_of_mem _ h)
  have hown : s.vm.findClass "SignMachine$Machine" = some m.cls := findClass_of_methodNamed B.named
  have hlocks := B.notSynchronized
  have hl := lv_entry ([.ref p1]) (n := 2) (Nat.le_of_ble_eq_true rfl)
  rw [lg_entry_eq]
  generalize (lg_sl ([.ref p1]) ++ List.replicate (2 - (lg_sl ([.ref p1])).length) Slot.unset).toArray = ls at hl ⊢
  have hl : lv_has ls 2 [(0, .ref p1)] := hl
  refine lv_aload_n hx hb d_M_execute_0 rfl (lv_at hl 0 rfl) ?_
  refine va_get (D := D) (ci := 1) (v := .int (4000 : Int32)) (C := "SignMachine$Machine") (T := F_M) (N := 14) hx hb hk fi_M hown hK.1 hP 1 rfl rfl 7 (by decide) (hk _ k_174) (fun _ h9 => h9) rfl d_M_execute_1 ?_
  refine cs_i (W.runS (As := [.int (4000 : Int32)]) (rest := []) ⟨hx, hb, hml, hown, hk⟩ (c_M_isAddress l (4000 : Int32)) (s_M_isAddress hk k_262 ⟨Nat.le_of_ble_eq_true rfl, Nat.le_of_ble_eq_true rfl⟩) ⟨fun a U g mk q => q, fun U hU hW => ⟨rfl, trivial⟩⟩ rfl rfl hl.1 rfl (lv_room (Nat.le_of_ble_eq_true rfl)) d_M_execute_4 ⟨Nat.le_of_ble_eq_true rfl, Nat.le_of_ble_eq_true rfl⟩) ?_
  refine tpi (y := (0 : Int32)) (by decide) ?_
  refine lv_if_ne (tgt := 12) hx hb d_M_execute_7 (by decide) (fun c1 => absurd (show (0 : Int32) = (0 : Int32) from (by decide)) c1) (fun c1 => ?_)
  refine lv_iconst (v := 3) hx hb d_M_execute_10 (by decide) ?_
  exact W.iret (v := (3 : Int32)) hx hb hr (fun t ht hW => ⟨⟨(3 : Int32), (), rfl, rfl, by show va_P D classes _ t.heap; rw [ht]; exact hP, hD⟩, hS.F ht⟩) hS.2.2 d_M_execute_11
theorem v_M_execute_2 {R : Room} {s : State} {args : Array Value} {own : String} {index : Nat} (hk : ∀ w ∈ tb, w.before args s = true) (hl : Cond.methodLink own index y_M_execute ∈ tb) (hR : 1 + 1 ≤ R.frames ∧ 8 + (2 + 11) + 20 ≤ R.locals) : CallW R s args own "SignMachine$Machine" index y_M_execute b_M_execute 2 (some .int) (.code y_M_execute b_M_execute 2 (some .int) :: tb) ({ frames := 1, cells := 0, slots := 0, locals := 20 }) 0 0 0 := mk_v 0 hk k_261 hl k_259 k_260 k_117 rfl rfl h_M_execute hR
set_option maxHeartbeats 4000000 in
set_option maxRecDepth 100000 in
theorem c_M_wordAt_3 (l : Launch) (D : va_G) (cI cJ cZ cB : ClassId) (p0 p1 p2 p3 p4 p5 : Nat) (sz : Nat) (k : Nat) (hk4 : k < 4000) (x1_6 : Int32) : Met l y_M_wordAt (.code y_M_wordAt b_M_wordAt 2 (some .int) :: tb) ({ frames := 0, cells := 0, slots := 0, locals := 0 }) (pM D cI cJ cZ cB (wS10 cI cJ cZ cB p0 p1 p2 p3 p4 p5 (0 : Int32) (0 : Int32) x1_6 (nI k) (0 : Int32) (0 : Int32) (0 : Int32) (0 : Int32) (0 : Int32) (0 : Int32) (fun _ => 0) (fun _ => 0) (0 : Int32) (0 : Int32)) sz [.ref p1, .int (nI k)]) (va_Qi (fun r (_ : Unit) => r = (0 : Int32)) (fun u t => match u with | _ => va_P D classes (wS10 cI cJ cZ cB p0 p1 p2 p3 p4 p5 (0 : Int32) (0 : Int32) x1_6 (nI k) (0 : Int32) (0 : Int32) (0 : Int32) (0 : Int32) (0 : Int32) (0 : Int32) (fun _ => 0) (fun _ => 0) (0 : Int32) (0 : Int32)) t.heap ∧ va_D (va_A (wS10 cI cJ cZ cB p0 p1 p2 p3 p4 p5 (0 : Int32) (0 : Int32) x1_6 (nI k) (0 : Int32) (0 : Int32) (0 : Int32) (0 : Int32) (0 : Int32) (0 : Int32) (fun _ => 0) (fun _ => 0) (0 : Int32) (0 : Int32)) sz) (wS10 cI cJ cZ cB p0 p1 p2 p3 p4 p5 (0 : Int32) (0 : Int32) x1_6 (nI k) (0 : Int32) (0 : Int32) (0 : Int32) (0 : Int32) (0 : Int32) (0 : Int32) (fun _ => 0) (fun _ => 0) (0 : Int32) (0 : Int32))) (va_A (wS10 cI cJ cZ cB p0 p1 p2 p3 p4 p5 (0 : Int32) (0 : Int32) x1_6 (nI k) (0 : Int32) (0 : Int32) (0 : Int32) (0 : Int32) (0 : Int32) (0 : Int32) (fun _ => 0) (fun _ => 0) (0 : Int32) (0 : Int32)) sz)) 0 0 (va_A (wS10 cI cJ cZ cB p0 p1 p2 p3 p4 p5 (0 : Int32) (0 : Int32) x1_6 (nI k) (0 : Int32) (0 : Int32) (0 : Int32) (0 : Int32) (0 : Int32) (0 : Int32) (fun _ => 0) (fun _ => 0) (0 : Int32) (0 : Int32)) sz) := by
  refine Met.ofW (cc := b_M_wordAt) (maxL := 2) (ret := (some .int)) (by decide) rfl ?_
  intro p e s m args below meth c s₁ B hml hv
  obtain ⟨rfl, hsz, hK, hP, hD0⟩ := hv
  subst hsz
  have hD := hD0.self (sz := s.heap.size)
  generalize hAe : va_A (wS10 cI cJ cZ cB p0 p1 p2 p3 p4 p5 (0 : Int32) (0 : Int32) x1_6 (nI k) (0 : Int32) (0 : Int32) (0 : Int32) (0 : Int32) (0 : Int32) (0 : Int32) (fun _ => 0) (fun _ => 0) (0 : Int32) (0 : Int32)) s.heap.size = A at hD ⊢
  have hA : ∀ q : Nat, s.heap.size ≤ q → A q := fun q h => by rw [← hAe]; exact Or.inr h
  have hS : va_S A s.heap s.heap [] := va_S.rf
  have hx := B.exec
  have hb := B.bytes
  have hr := B.returns
  have hts := atoms_spec (ws := .code y_M_wordAt b_M_wordAt 2 (some .int) :: tb) B.pre
  have hk : ∀ w ∈ tb, w.before [.ref p1, .int (nI k)].toArray s = true := fun w h => hts w (List.mem_cons_of_mem _ h)
  have hown : s.vm.findClass "SignMachine$Machine" = some m.cls := findClass_of_methodNamed B.named
  have hlocks := B.notSynchronized
  have hl := lv_entry ([.ref p1, .int (nI k)]) (n := 2) (Nat.le_of_ble_eq_true rfl)
  rw [lg_entry_eq]
  generalize (lg_sl ([.ref p1, .int (nI k)]) ++ List.replicate (2 - (lg_sl ([.ref p1, .int (nI k)])).length) Slot.unset).toArray = ls at hl ⊢
  have hl : lv_has ls 2 [(0, .ref p1), (1, .int (nI k))] := hl
  refine lv_iload_n hx hb d_M_wordAt_0 rfl (lv_at hl 1 rfl) ?_
  refine lv_if_lt (tgt := 20) hx hb d_M_wordAt_1 (by decide) (fun c1 => absurd c1 (show ¬ (nI k) < (0 : Int32) from (nk_0 hk4))) (fun c1 => ?_)
  refine lv_iload_n hx hb d_M_wordAt_4 rfl (lv_at hl 1 rfl) ?_
  refine lv_sipush (v := 4000) hx hb d_M_wordAt_5 (by decide) ?_
  refine lv_icmp_ge (tgt := 20) hx hb d_M_wordAt_8 (by decide) (fun c2 => absurd c2 (show ¬ (4000 : Int32) ≤ (nI k) from (nk_4 hk4))) (fun c2 => ?_)
  refine lv_aload_n hx hb d_M_wordAt_11 rfl (lv_at hl 0 rfl) ?_
  refine va_get (D := D) (ci := 1) (v := .ref p2) (C := "SignMachine$Machine") (T := F_M) (N := 14) hx hb hk fi_M hown hK.1 hP 1 rfl rfl 0 (by decide) (hk _ k_163) (fun _ h9 => h9) rfl d_M_wordAt_12 ?_
  refine lv_iload_n hx hb d_M_wordAt_15 rfl (lv_at hl 1 rfl) ?_
  refine va_iald hx hb hK.1 hP 2 0 rfl rfl (nk_in hk4) d_M_wordAt_16 ?_
  refine tpi (y := (0 : Int32)) rfl ?_
  refine lv_goto (tgt := 21) hx hb d_M_wordAt_17 (by decide) ?_
  exact W.iret (v := (0 : Int32)) hx hb hr (fun t ht hW => ⟨⟨(0 : Int32), (), rfl, rfl, by show va_P D classes _ t.heap; rw [ht]; exact hP, hD⟩, hS.F ht⟩) hS.2.2 d_M_wordAt_21
theorem v_M_wordAt_3 {R : Room} {s : State} {args : Array Value} {own : String} {index : Nat} (hk : ∀ w ∈ tb, w.before args s = true) (hl : Cond.methodLink own index y_M_wordAt ∈ tb) (hR : 0 + 1 ≤ R.frames ∧ 8 + (2 + 11) + 0 ≤ R.locals) : CallW R s args own "SignMachine$Machine" index y_M_wordAt b_M_wordAt 2 (some .int) (.code y_M_wordAt b_M_wordAt 2 (some .int) :: tb) ({ frames := 0, cells := 0, slots := 0, locals := 0 }) 0 0 1 := mk_v 1 hk k_243 hl k_241 k_242 k_117 rfl rfl h_M_wordAt hR
set_option maxHeartbeats 4000000 in
set_option maxRecDepth 100000 in
theorem c_M_decode_2 (l : Launch) (D : va_G) (cI cJ cZ cB : ClassId) (p0 p1 p2 p3 p4 p5 : Nat) (sz : Nat) (k : Nat) (hk4 : k < 4000) (x1_6 : Int32) : Met l y_M_decode (.code y_M_decode b_M_decode 4 none :: tb) ({ frames := 1, cells := 0, slots := 0, locals := 20 }) (pM D cI cJ cZ cB (wS10 cI cJ cZ cB p0 p1 p2 p3 p4 p5 (0 : Int32) (0 : Int32) x1_6 (nI k) (0 : Int32) (0 : Int32) (0 : Int32) (0 : Int32) (0 : Int32) (0 : Int32) (fun _ => 0) (fun _ => 0) (0 : Int32) (0 : Int32)) sz [.ref p1, .int (0 : Int32)]) (va_Qv (fun (_ : Unit) => True) (fun u t => match u with | _ => va_P D classes (wS10 cI cJ cZ cB p0 p1 p2 p3 p4 p5 (0 : Int32) (0 : Int32) x1_6 (nI k) (0 : Int32) (0 : Int32) (0 : Int32) (0 : Int32) (0 : Int32) (0 : Int32) (fun _ => 0) (fun _ => 0) (0 : Int32) (0 : Int32)) t.heap ∧ va_D (va_A (wS10 cI cJ cZ cB p0 p1 p2 p3 p4 p5 (0 : Int32) (0 : Int32) x1_6 (nI k) (0 : Int32) (0 : Int32) (0 : Int32) (0 : Int32) (0 : Int32) (0 : Int32) (fun _ => 0) (fun _ => 0) (0 : Int32) (0 : Int32)) sz) (wS10 cI cJ cZ cB p0 p1 p2 p3 p4 p5 (0 : Int32) (0 : Int32) x1_6 (nI k) (0 : Int32) (0 : Int32) (0 : Int32) (0 : Int32) (0 : Int32) (0 : Int32) (fun _ => 0) (fun _ => 0) (0 : Int32) (0 : Int32))) (va_A (wS10 cI cJ cZ cB p0 p1 p2 p3 p4 p5 (0 : Int32) (0 : Int32) x1_6 (nI k) (0 : Int32) (0 : Int32) (0 : Int32) (0 : Int32) (0 : Int32) (0 : Int32) (fun _ => 0) (fun _ => 0) (0 : Int32) (0 : Int32)) sz)) 0 0 (va_A (wS10 cI cJ cZ cB p0 p1 p2 p3 p4 p5 (0 : Int32) (0 : Int32) x1_6 (nI k) (0 : Int32) (0 : Int32) (0 : Int32) (0 : Int32) (0 : Int32) (0 : Int32) (fun _ => 0) (fun _ => 0) (0 : Int32) (0 : Int32)) sz) := by
  refine Met.ofW (cc := b_M_decode) (maxL := 4) (ret := none) (by decide) rfl ?_
  intro p e s m args below meth c s₁ B hml hv
  obtain ⟨rfl, hsz, hK, hP, hD0⟩ := hv
  subst hsz
  have hD := hD0.self (sz := s.heap.size)
  generalize hAe : va_A (wS10 cI cJ cZ cB p0 p1 p2 p3 p4 p5 (0 : Int32) (0 : Int32) x1_6 (nI k) (0 : Int32) (0 : Int32) (0 : Int32) (0 : Int32) (0 : Int32) (0 : Int32) (fun _ => 0) (fun _ => 0) (0 : Int32) (0 : Int32)) s.heap.size = A at hD ⊢
  have hA : ∀ q : Nat, s.heap.size ≤ q → A q := fun q h => by rw [← hAe]; exact Or.inr h
  have hS : va_S A s.heap s.heap [] := va_S.rf
  have hx := B.exec
  have hb := B.bytes
  have hr := B.returns
  have hts := atoms_spec (ws := .code y_M_decode b_M_decode 4 none :: tb) B.pre
  have hk : ∀ w ∈ tb, w.before [.ref p1, .int (0 : Int32)].toArray s = true := fun w h => hts w (List.mem_cons_of_mem _ h)
  have hown : s.vm.findClass "SignMachine$Machine" = some m.cls := findClass_of_methodNamed B.named
  have hlocks := B.notSynchronized
  have hl := lv_entry ([.ref p1, .int (0 : Int32)]) (n := 4) (Nat.le_of_ble_eq_true rfl)
  rw [lg_entry_eq]
  generalize (lg_sl ([.ref p1, .int (0 : Int32)]) ++ List.replicate (4 - (lg_sl ([.ref p1, .int (0 : Int32)])).length) Slot.unset).toArray = ls at hl ⊢
  have hl : lv_has ls 4 [(0, .ref p1), (1, .int (0 : Int32))] := hl
  refine lv_iload_n hx hb d_M_decode_0 rfl (lv_at hl 1 rfl) ?_
  refine cs_i (W.runS (As := [.int (0 : Int32)]) (rest := []) ⟨hx, hb, hml, hown, hk⟩ (c_W_size l (0 : Int32)) (s_W_size hk k_268 ⟨Nat.le_of_ble_eq_true rfl, Nat.le_of_ble_eq_true rfl⟩) ⟨fun a U g mk q => q, fun U hU hW => ⟨rfl, trivial⟩⟩ rfl rfl hl.1 rfl (lv_room (Nat.le_of_ble_eq_true rfl)) d_M_decode_1 ⟨Nat.le_of_ble_eq_true rfl, Nat.le_of_ble_eq_true rfl⟩) ?_
  refine tpi (y := (0 : Int32)) (by decide) ?_
  refine lv_istore_n (lv' := [(2, .int (0 : Int32)), (0, .ref p1), (1, .int (0 : Int32))]) hx hb d_M_decode_4 rfl hl (by decide) rfl (fun ls hl => ?_)
  refine lv_aload_n hx hb d_M_decode_5 rfl (lv_at hl 1 rfl) ?_
  refine lv_iload_n hx hb d_M_decode_6 rfl (lv_at hl 0 rfl) ?_
  refine lv_bipush (v := 63) hx hb d_M_decode_7 (by decide) ?_
  refine lv_iand hx hb d_M_decode_9 ?_
  refine tpi (y := (0 : Int32)) (by decide) ?_
  refine va_put (D := D) (ci := 1) (v := .int (0 : Int32)) (ty := .int) (C := "SignMachine$Machine") (T := F_M) (N := 14) hx hb hk fi_M ft_M ft_M_ok fn_M hown hK.1 hP hD hS 1 rfl rfl 9 (by decide) (hk _ k_176) (fun _ h9 => h9) rfl (by decide +kernel) rfl rfl (Nat.le_of_ble_eq_true rfl) d_M_decode_10 (fun H locs hP hD hS => ?_)
  have hP : va_P D classes (wS10 cI cJ cZ cB p0 p1 p2 p3 p4 p5 (0 : Int32) (0 : Int32) x1_6 (nI k) (0 : Int32) (0 : Int32) (0 : Int32) (0 : Int32) (0 : Int32) (0 : Int32) (fun _ => 0) (fun _ => 0) (0 : Int32) (0 : Int32)) H := hP
  have hD : va_D A (wS10 cI cJ cZ cB p0 p1 p2 p3 p4 p5 (0 : Int32) (0 : Int32) x1_6 (nI k) (0 : Int32) (0 : Int32) (0 : Int32) (0 : Int32) (0 : Int32) (0 : Int32) (fun _ => 0) (fun _ => 0) (0 : Int32) (0 : Int32)) := hD
  refine lv_aload_n hx hb d_M_decode_13 rfl (lv_at hl 1 rfl) ?_
  refine lv_iload_n hx hb d_M_decode_14 rfl (lv_at hl 0 rfl) ?_
  refine lv_bipush (v := 6) hx hb d_M_decode_15 (by decide) ?_
  refine lv_ishr hx hb d_M_decode_17 ?_
  refine tpi (y := (0 : Int32)) (by decide) ?_
  refine lv_bipush (v := 63) hx hb d_M_decode_18 (by decide) ?_
  refine lv_iand hx hb d_M_decode_20 ?_
  refine tpi (y := (0 : Int32)) (by decide) ?_
  refine va_put (D := D) (ci := 1) (v := .int (0 : Int32)) (ty := .int) (C := "SignMachine$Machine") (T := F_M) (N := 14) hx hb hk fi_M ft_M ft_M_ok fn_M hown hK.1 hP hD hS 1 rfl rfl 10 (by decide) (hk _ k_177) (fun _ h9 => h9) rfl (by decide +kernel) rfl rfl (Nat.le_of_ble_eq_true rfl) d_M_decode_21 (fun H locs hP hD hS => ?_)
  have hP : va_P D classes (wS10 cI cJ cZ cB p0 p1 p2 p3 p4 p5 (0 : Int32) (0 : Int32) x1_6 (nI k) (0 : Int32) (0 : Int32) (0 : Int32) (0 : Int32) (0 : Int32) (0 : Int32) (fun _ => 0) (fun _ => 0) (0 : Int32) (0 : Int32)) H := hP
  have hD : va_D A (wS10 cI cJ cZ cB p0 p1 p2 p3 p4 p5 (0 : Int32) (0 : Int32) x1_6 (nI k) (0 : Int32) (0 : Int32) (0 : Int32) (0 : Int32) (0 : Int32) (0 : Int32) (fun _ => 0) (fun _ => 0) (0 : Int32) (0 : Int32)) := hD
  refine lv_aload_n hx hb d_M_decode_24 rfl (lv_at hl 1 rfl) ?_
  refine lv_iload_n hx hb d_M_decode_25 rfl (lv_at hl 0 rfl) ?_
  refine lv_bipush (v := 12) hx hb d_M_decode_26 (by decide) ?_
  refine lv_ishr hx hb d_M_decode_28 ?_
  refine tpi (y := (0 : Int32)) (by decide) ?_
  refine lv_bipush (v := 63) hx hb d_M_decode_29 (by decide) ?_
  refine lv_iand hx hb d_M_decode_31 ?_
  refine tpi (y := (0 : Int32)) (by decide) ?_
  refine va_put (D := D) (ci := 1) (v := .int (0 : Int32)) (ty := .int) (C := "SignMachine$Machine") (T := F_M) (N := 14) hx hb hk fi_M ft_M ft_M_ok fn_M hown hK.1 hP hD hS 1 rfl rfl 11 (by decide) (hk _ k_178) (fun _ h9 => h9) rfl (by decide +kernel) rfl rfl (Nat.le_of_ble_eq_true rfl) d_M_decode_32 (fun H locs hP hD hS => ?_)
  have hP : va_P D classes (wS10 cI cJ cZ cB p0 p1 p2 p3 p4 p5 (0 : Int32) (0 : Int32) x1_6 (nI k) (0 : Int32) (0 : Int32) (0 : Int32) (0 : Int32) (0 : Int32) (0 : Int32) (fun _ => 0) (fun _ => 0) (0 : Int32) (0 : Int32)) H := hP
  have hD : va_D A (wS10 cI cJ cZ cB p0 p1 p2 p3 p4 p5 (0 : Int32) (0 : Int32) x1_6 (nI k) (0 : Int32) (0 : Int32) (0 : Int32) (0 : Int32) (0 : Int32) (0 : Int32) (fun _ => 0) (fun _ => 0) (0 : Int32) (0 : Int32)) := hD
  refine lv_aload_n hx hb d_M_decode_35 rfl (lv_at hl 1 rfl) ?_
  refine lv_iload_n hx hb d_M_decode_36 rfl (lv_at hl 2 rfl) ?_
  refine cs_i (W.runS (As := [.int (0 : Int32)]) (rest := [.ref p1]) ⟨hx, hb, hml, hown, hk⟩ (c_W_sign l (0 : Int32)) (s_W_sign hk k_269 ⟨Nat.le_of_ble_eq_true rfl, Nat.le_of_ble_eq_true rfl⟩) ⟨fun a U g mk q => q, fun U hU hW => ⟨rfl, trivial⟩⟩ rfl rfl hl.1 rfl (lv_room (Nat.le_of_ble_eq_true rfl)) d_M_decode_37 ⟨Nat.le_of_ble_eq_true rfl, Nat.le_of_ble_eq_true rfl⟩) ?_
  refine tpi (y := (0 : Int32)) (by decide) ?_
  refine va_put (D := D) (ci := 1) (v := .int (0 : Int32)) (ty := .int) (C := "SignMachine$Machine") (T := F_M) (N := 14) hx hb hk fi_M ft_M ft_M_ok fn_M hown hK.1 hP hD hS 1 rfl rfl 13 (by decide) (hk _ k_180) (fun _ h9 => h9) rfl (by decide +kernel) rfl rfl (Nat.le_of_ble_eq_true rfl) d_M_decode_40 (fun H locs hP hD hS => ?_)
  have hP : va_P D classes (wS10 cI cJ cZ cB p0 p1 p2 p3 p4 p5 (0 : Int32) (0 : Int32) x1_6 (nI k) (0 : Int32) (0 : Int32) (0 : Int32) (0 : Int32) (0 : Int32) (0 : Int32) (fun _ => 0) (fun _ => 0) (0 : Int32) (0 : Int32)) H := hP
  have hD : va_D A (wS10 cI cJ cZ cB p0 p1 p2 p3 p4 p5 (0 : Int32) (0 : Int32) x1_6 (nI k) (0 : Int32) (0 : Int32) (0 : Int32) (0 : Int32) (0 : Int32) (0 : Int32) (fun _ => 0) (fun _ => 0) (0 : Int32) (0 : Int32)) := hD
  refine lv_iload_n hx hb d_M_decode_43 rfl (lv_at hl 0 rfl) ?_
  refine lv_bipush (v := 18) hx hb d_M_decode_44 (by decide) ?_
  refine lv_ishr hx hb d_M_decode_46 ?_
  refine tpi (y := (0 : Int32)) (by decide) ?_
  refine lv_istore_n (lv' := [(3, .int (0 : Int32)), (2, .int (0 : Int32)), (0, .ref p1), (1, .int (0 : Int32))]) hx hb d_M_decode_47 rfl hl (by decide) rfl (fun ls hl => ?_)
  refine lv_aload_n hx hb d_M_decode_48 rfl (lv_at hl 2 rfl) ?_
  refine lv_aload_n hx hb d_M_decode_49 rfl (lv_at hl 2 rfl) ?_
  refine va_get (D := D) (ci := 1) (v := .int (0 : Int32)) (C := "SignMachine$Machine") (T := F_M) (N := 14) hx hb hk fi_M hown hK.1 hP 1 rfl rfl 13 (by decide) (hk _ k_180) (fun _ h9 => h9) rfl d_M_decode_50 ?_
  refine lv_if_ne (tgt := 60) hx hb d_M_decode_53 (by decide) (fun c1 => absurd (show (0 : Int32) = (0 : Int32) from (by decide)) c1) (fun c1 => ?_)
  refine lv_iload_n hx hb d_M_decode_56 rfl (lv_at hl 0 rfl) ?_
  refine lv_goto (tgt := 62) hx hb d_M_decode_57 (by decide) ?_
  refine va_put (D := D) (ci := 1) (v := .int (0 : Int32)) (ty := .int) (C := "SignMachine$Machine") (T := F_M) (N := 14) hx hb hk fi_M ft_M ft_M_ok fn_M hown hK.1 hP hD hS 1 rfl rfl 12 (by decide) (hk _ k_179) (fun _ h9 => h9) rfl (by decide +kernel) rfl rfl (Nat.le_of_ble_eq_true rfl) d_M_decode_62 (fun H locs hP hD hS => ?_)
  have hP : va_P D classes (wS10 cI cJ cZ cB p0 p1 p2 p3 p4 p5 (0 : Int32) (0 : Int32) x1_6 (nI k) (0 : Int32) (0 : Int32) (0 : Int32) (0 : Int32) (0 : Int32) (0 : Int32) (fun _ => 0) (fun _ => 0) (0 : Int32) (0 : Int32)) H := hP
  have hD : va_D A (wS10 cI cJ cZ cB p0 p1 p2 p3 p4 p5 (0 : Int32) (0 : Int32) x1_6 (nI k) (0 : Int32) (0 : Int32) (0 : Int32) (0 : Int32) (0 : Int32) (0 : Int32) (fun _ => 0) (fun _ => 0) (0 : Int32) (0 : Int32)) := hD
  refine lv_aload_n hx hb d_M_decode_65 rfl (lv_at hl 2 rfl) ?_
  refine va_get (D := D) (ci := 1) (v := .int (0 : Int32)) (C := "SignMachine$Machine") (T := F_M) (N := 14) hx hb hk fi_M hown hK.1 hP 1 rfl rfl 11 (by decide) (hk _ k_178) (fun _ h9 => h9) rfl d_M_decode_66 ?_
  refine cs_i (W.runS (As := [.int (0 : Int32)]) (rest := []) ⟨hx, hb, hml, hown, hk⟩ (c_M_isIndex l (0 : Int32)) (s_M_isIndex hk k_270 ⟨Nat.le_of_ble_eq_true rfl, Nat.le_of_ble_eq_true rfl⟩) ⟨fun a U g mk q => q, fun U hU hW => ⟨rfl, trivial⟩⟩ rfl rfl hl.1 rfl (lv_room (Nat.le_of_ble_eq_true rfl)) d_M_decode_69 ⟨Nat.le_of_ble_eq_true rfl, Nat.le_of_ble_eq_true rfl⟩) ?_
  refine tpi (y := (0 : Int32)) (by decide) ?_
  refine lv_if_eq (tgt := 95) hx hb d_M_decode_72 (by decide) (fun c2 => ?_) (fun c2 => absurd (show (0 : Int32) = (0 : Int32) from (by decide)) c2)
  exact W.vret hx hb hr (fun t ht hW => ⟨⟨(), rfl, trivial, by show va_P D classes _ t.heap; rw [ht]; exact hP, hD⟩, hS.F ht⟩) hS.2.2 d_M_decode_95
theorem v_M_decode_2 {R : Room} {s : State} {args : Array Value} {own : String} {index : Nat} (hk : ∀ w ∈ tb, w.before args s = true) (hl : Cond.methodLink own index y_M_decode ∈ tb) (hR : 1 + 1 ≤ R.frames ∧ 8 + (4 + 11) + 20 ≤ R.locals) : CallW R s args own "SignMachine$Machine" index y_M_decode b_M_decode 4 none (.code y_M_decode b_M_decode 4 none :: tb) ({ frames := 1, cells := 0, slots := 0, locals := 20 }) 0 0 1 := mk_v 1 hk k_267 hl k_266 k_0 k_117 rfl rfl h_M_decode hR
set_option maxHeartbeats 4000000 in
set_option maxRecDepth 100000 in
theorem c_M_hasFieldOfWord_2 (l : Launch) (D : va_G) (cI cJ cZ cB : ClassId) (p0 p1 p2 p3 p4 p5 : Nat) (sz : Nat) (k : Nat) (hk4 : k < 4000) (x1_6 : Int32) : Met l y_M_hasFieldOfWord (.code y_M_hasFieldOfWord b_M_hasFieldOfWord 1 (some .boolean) :: tb) ({ frames := 0, cells := 0, slots := 0, locals := 0 }) (pM D cI cJ cZ cB (wS10 cI cJ cZ cB p0 p1 p2 p3 p4 p5 (0 : Int32) (0 : Int32) x1_6 (nI k) (0 : Int32) (0 : Int32) (0 : Int32) (0 : Int32) (0 : Int32) (0 : Int32) (fun _ => 0) (fun _ => 0) (0 : Int32) (0 : Int32)) sz [.ref p1]) (va_Qi (fun r (_ : Unit) => r = (0 : Int32)) (fun u t => match u with | _ => va_P D classes (wS10 cI cJ cZ cB p0 p1 p2 p3 p4 p5 (0 : Int32) (0 : Int32) x1_6 (nI k) (0 : Int32) (0 : Int32) (0 : Int32) (0 : Int32) (0 : Int32) (0 : Int32) (fun _ => 0) (fun _ => 0) (0 : Int32) (0 : Int32)) t.heap ∧ va_D (va_A (wS10 cI cJ cZ cB p0 p1 p2 p3 p4 p5 (0 : Int32) (0 : Int32) x1_6 (nI k) (0 : Int32) (0 : Int32) (0 : Int32) (0 : Int32) (0 : Int32) (0 : Int32) (fun _ => 0) (fun _ => 0) (0 : Int32) (0 : Int32)) sz) (wS10 cI cJ cZ cB p0 p1 p2 p3 p4 p5 (0 : Int32) (0 : Int32) x1_6 (nI k) (0 : Int32) (0 : Int32) (0 : Int32) (0 : Int32) (0 : Int32) (0 : Int32) (fun _ => 0) (fun _ => 0) (0 : Int32) (0 : Int32))) (va_A (wS10 cI cJ cZ cB p0 p1 p2 p3 p4 p5 (0 : Int32) (0 : Int32) x1_6 (nI k) (0 : Int32) (0 : Int32) (0 : Int32) (0 : Int32) (0 : Int32) (0 : Int32) (fun _ => 0) (fun _ => 0) (0 : Int32) (0 : Int32)) sz)) 0 0 (va_A (wS10 cI cJ cZ cB p0 p1 p2 p3 p4 p5 (0 : Int32) (0 : Int32) x1_6 (nI k) (0 : Int32) (0 : Int32) (0 : Int32) (0 : Int32) (0 : Int32) (0 : Int32) (fun _ => 0) (fun _ => 0) (0 : Int32) (0 : Int32)) sz) := by
  refine Met.ofW (cc := b_M_hasFieldOfWord) (maxL := 1) (ret := (some .boolean)) (by decide) rfl ?_
  intro p e s m args below meth c s₁ B hml hv
  obtain ⟨rfl, hsz, hK, hP, hD0⟩ := hv
  subst hsz
  have hD := hD0.self (sz := s.heap.size)
  generalize hAe : va_A (wS10 cI cJ cZ cB p0 p1 p2 p3 p4 p5 (0 : Int32) (0 : Int32) x1_6 (nI k) (0 : Int32) (0 : Int32) (0 : Int32) (0 : Int32) (0 : Int32) (0 : Int32) (fun _ => 0) (fun _ => 0) (0 : Int32) (0 : Int32)) s.heap.size = A at hD ⊢
  have hA : ∀ q : Nat, s.heap.size ≤ q → A q := fun q h => by rw [← hAe]; exact Or.inr h
  have hS : va_S A s.heap s.heap [] := va_S.rf
  have hx := B.exec
  have hb := B.bytes
  have hr := B.returns
  have hts := atoms_spec (ws := .code y_M_hasFieldOfWord b_M_hasFieldOfWord 1 (some .boolean) :: tb) B.pre
  have hk : ∀ w ∈ tb, w.before [.ref p1].toArray s = true := fun w h => hts w (List.mem_cons_of_mem _ h)
  have hown : s.vm.findClass "SignMachine$Machine" = some m.cls := findClass_of_methodNamed B.named
  have hlocks := B.notSynchronized
  have hl := lv_entry ([.ref p1]) (n := 1) (Nat.le_of_ble_eq_true rfl)
  rw [lg_entry_eq]
  generalize (lg_sl ([.ref p1]) ++ List.replicate (1 - (lg_sl ([.ref p1])).length) Slot.unset).toArray = ls at hl ⊢
  have hl : lv_has ls 1 [(0, .ref p1)] := hl
  refine lv_aload_n hx hb d_M_hasFieldOfWord_0 rfl (lv_at hl 0 rfl) ?_
  refine va_get (D := D) (ci := 1) (v := .int (0 : Int32)) (C := "SignMachine$Machine") (T := F_M) (N := 14) hx hb hk fi_M hown hK.1 hP 1 rfl rfl 9 (by decide) (hk _ k_176) (fun _ h9 => h9) rfl d_M_hasFieldOfWord_1 ?_
  refine lv_iconst (v := 1) hx hb d_M_hasFieldOfWord_4 (by decide) ?_
  refine lv_icmp_lt (tgt := 16) hx hb d_M_hasFieldOfWord_5 (by decide) (fun c1 => ?_) (fun c1 => absurd (show (0 : Int32) < (1 : Int32) from (by decide)) c1)
  refine lv_aload_n hx hb d_M_hasFieldOfWord_16 rfl (lv_at hl 0 rfl) ?_
  refine va_get (D := D) (ci := 1) (v := .int (0 : Int32)) (C := "SignMachine$Machine") (T := F_M) (N := 14) hx hb hk fi_M hown hK.1 hP 1 rfl rfl 9 (by decide) (hk _ k_176) (fun _ h9 => h9) rfl d_M_hasFieldOfWord_17 ?_
  refine lv_bipush (v := 8) hx hb d_M_hasFieldOfWord_20 (by decide) ?_
  refine lv_icmp_lt (tgt := 34) hx hb d_M_hasFieldOfWord_22 (by decide) (fun c2 => ?_) (fun c2 => absurd (show (0 : Int32) < (8 : Int32) from (by decide)) c2)
  refine lv_aload_n hx hb d_M_hasFieldOfWord_34 rfl (lv_at hl 0 rfl) ?_
  refine va_get (D := D) (ci := 1) (v := .int (0 : Int32)) (C := "SignMachine$Machine") (T := F_M) (N := 14) hx hb hk fi_M hown hK.1 hP 1 rfl rfl 9 (by decide) (hk _ k_176) (fun _ h9 => h9) rfl d_M_hasFieldOfWord_35 ?_
  refine lv_bipush (v := 56) hx hb d_M_hasFieldOfWord_38 (by decide) ?_
  refine lv_icmp_lt (tgt := 47) hx hb d_M_hasFieldOfWord_40 (by decide) (fun c3 => ?_) (fun c3 => absurd (show (0 : Int32) < (56 : Int32) from (by decide)) c3)
  refine lv_iconst (v := 0) hx hb d_M_hasFieldOfWord_47 (by decide) ?_
  exact W.zret (v := (0 : Int32)) hx hb hr rfl (fun t ht hW => ⟨⟨(0 : Int32), (), rfl, rfl, by show va_P D classes _ t.heap; rw [ht]; exact hP, hD⟩, hS.F ht⟩) hS.2.2 d_M_hasFieldOfWord_48
theorem v_M_hasFieldOfWord_2 {R : Room} {s : State} {args : Array Value} {own : String} {index : Nat} (hk : ∀ w ∈ tb, w.before args s = true) (hl : Cond.methodLink own index y_M_hasFieldOfWord ∈ tb) (hR : 0 + 1 ≤ R.frames ∧ 8 + (1 + 11) + 0 ≤ R.locals) : CallW R s args own "SignMachine$Machine" index y_M_hasFieldOfWord b_M_hasFieldOfWord 1 (some .boolean) (.code y_M_hasFieldOfWord b_M_hasFieldOfWord 1 (some .boolean) :: tb) ({ frames := 0, cells := 0, slots := 0, locals := 0 }) 0 0 0 := mk_v 0 hk k_291 hl k_290 k_3 k_117 rfl rfl h_M_hasFieldOfWord hR
set_option maxHeartbeats 4000000 in
set_option maxRecDepth 100000 in
theorem c_M_shapeCanBe_2 (l : Launch) (D : va_G) (cI cJ cZ cB : ClassId) (p0 p1 p2 p3 p4 p5 : Nat) (sz : Nat) (k : Nat) (hk4 : k < 4000) (x1_6 : Int32) : Met l y_M_shapeCanBe (.code y_M_shapeCanBe b_M_shapeCanBe 1 (some .boolean) :: tb) ({ frames := 1, cells := 0, slots := 0, locals := 20 }) (pM D cI cJ cZ cB (wS10 cI cJ cZ cB p0 p1 p2 p3 p4 p5 (0 : Int32) (0 : Int32) x1_6 (nI k) (0 : Int32) (0 : Int32) (0 : Int32) (0 : Int32) (0 : Int32) (0 : Int32) (fun _ => 0) (fun _ => 0) (0 : Int32) (0 : Int32)) sz [.ref p1]) (va_Qi (fun r (_ : Unit) => r = (1 : Int32)) (fun u t => match u with | _ => va_P D classes (wS10 cI cJ cZ cB p0 p1 p2 p3 p4 p5 (0 : Int32) (0 : Int32) x1_6 (nI k) (0 : Int32) (0 : Int32) (0 : Int32) (0 : Int32) (0 : Int32) (0 : Int32) (fun _ => 0) (fun _ => 0) (0 : Int32) (0 : Int32)) t.heap ∧ va_D (va_A (wS10 cI cJ cZ cB p0 p1 p2 p3 p4 p5 (0 : Int32) (0 : Int32) x1_6 (nI k) (0 : Int32) (0 : Int32) (0 : Int32) (0 : Int32) (0 : Int32) (0 : Int32) (fun _ => 0) (fun _ => 0) (0 : Int32) (0 : Int32)) sz) (wS10 cI cJ cZ cB p0 p1 p2 p3 p4 p5 (0 : Int32) (0 : Int32) x1_6 (nI k) (0 : Int32) (0 : Int32) (0 : Int32) (0 : Int32) (0 : Int32) (0 : Int32) (fun _ => 0) (fun _ => 0) (0 : Int32) (0 : Int32))) (va_A (wS10 cI cJ cZ cB p0 p1 p2 p3 p4 p5 (0 : Int32) (0 : Int32) x1_6 (nI k) (0 : Int32) (0 : Int32) (0 : Int32) (0 : Int32) (0 : Int32) (0 : Int32) (fun _ => 0) (fun _ => 0) (0 : Int32) (0 : Int32)) sz)) 0 0 (va_A (wS10 cI cJ cZ cB p0 p1 p2 p3 p4 p5 (0 : Int32) (0 : Int32) x1_6 (nI k) (0 : Int32) (0 : Int32) (0 : Int32) (0 : Int32) (0 : Int32) (0 : Int32) (fun _ => 0) (fun _ => 0) (0 : Int32) (0 : Int32)) sz) := by
  refine Met.ofW (cc := b_M_shapeCanBe) (maxL := 1) (ret := (some .boolean)) (by decide) rfl ?_
  intro p e s m args below meth c s₁ B hml hv
  obtain ⟨rfl, hsz, hK, hP, hD0⟩ := hv
  subst hsz
  have hD := hD0.self (sz := s.heap.size)
  generalize hAe : va_A (wS10 cI cJ cZ cB p0 p1 p2 p3 p4 p5 (0 : Int32) (0 : Int32) x1_6 (nI k) (0 : Int32) (0 : Int32) (0 : Int32) (0 : Int32) (0 : Int32) (0 : Int32) (fun _ => 0) (fun _ => 0) (0 : Int32) (0 : Int32)) s.heap.size = A at hD ⊢
  have hA : ∀ q : Nat, s.heap.size ≤ q → A q := fun q h => by rw [← hAe]; exact Or.inr h
  have hS : va_S A s.heap s.heap [] := va_S.rf
  have hx := B.exec
  have hb := B.bytes
  have hr := B.returns
  have hts := atoms_spec (ws := .code y_M_shapeCanBe b_M_shapeCanBe 1 (some .boolean) :: tb) B.pre
  have hk : ∀ w ∈ tb, w.before [.ref p1].toArray s = true := fun w h => hts w (List.mem_cons_of_mem _ h)
  have hown : s.vm.findClass "SignMachine$Machine" = some m.cls := findClass_of_methodNamed B.named
  have hlocks := B.notSynchronized
  have hl := lv_entry ([.ref p1]) (n := 1) (Nat.le_of_ble_eq_true rfl)
  rw [lg_entry_eq]
  generalize (lg_sl ([.ref p1]) ++ List.replicate (1 - (lg_sl ([.ref p1])).length) Slot.unset).toArray = ls at hl ⊢
  have hl : lv_has ls 1 [(0, .ref p1)] := hl
  refine lv_aload_n hx hb d_M_shapeCanBe_0 rfl (lv_at hl 0 rfl) ?_
  refine va_get (D := D) (ci := 1) (v := .int (0 : Int32)) (C := "SignMachine$Machine") (T := F_M) (N := 14) hx hb hk fi_M hown hK.1 hP 1 rfl rfl 11 (by decide) (hk _ k_178) (fun _ h9 => h9) rfl d_M_shapeCanBe_1 ?_
  refine lv_bipush (v := 6) hx hb d_M_shapeCanBe_4 (by decide) ?_
  refine lv_icmp_le (tgt := 11) hx hb d_M_shapeCanBe_6 (by decide) (fun c1 => ?_) (fun c1 => absurd (show (0 : Int32) ≤ (6 : Int32) from (by decide)) c1)
  refine lv_aload_n hx hb d_M_shapeCanBe_11 rfl (lv_at hl 0 rfl) ?_
  refine kn_i (va_runV (C := "SignMachine$Machine") (As := []) (rest := []) ⟨hx, hb, hml, hown, hk⟩ (c_M_hasFieldOfWord_2 l D cI cJ cZ cB p0 p1 p2 p3 p4 p5 s.heap.size k hk4 x1_6) (v_M_hasFieldOfWord_2 hk k_288 ⟨Nat.le_of_ble_eq_true rfl, Nat.le_of_ble_eq_true rfl⟩) (pM_v hK hP hD (ci := 1) (q0 := 1) rfl rfl rfl) rfl rfl hl.1 rfl (lv_room (Nat.le_of_ble_eq_true rfl)) d_M_shapeCanBe_12 ⟨by decide, by decide⟩) hS hA hD (fun u t H locs ht hB hFr hS => ?_)
  obtain ⟨hP, hD⟩ := hB
  rw [ht] at hP
  have hD := dwk hD hFr
  clear ht hFr
  have hP : va_P D classes (wS10 cI cJ cZ cB p0 p1 p2 p3 p4 p5 (0 : Int32) (0 : Int32) x1_6 (nI k) (0 : Int32) (0 : Int32) (0 : Int32) (0 : Int32) (0 : Int32) (0 : Int32) (fun _ => 0) (fun _ => 0) (0 : Int32) (0 : Int32)) H := hP
  have hD : va_D A (wS10 cI cJ cZ cB p0 p1 p2 p3 p4 p5 (0 : Int32) (0 : Int32) x1_6 (nI k) (0 : Int32) (0 : Int32) (0 : Int32) (0 : Int32) (0 : Int32) (0 : Int32) (fun _ => 0) (fun _ => 0) (0 : Int32) (0 : Int32)) := hD
  refine lv_if_eq (tgt := 26) hx hb d_M_shapeCanBe_15 (by decide) (fun c2 => ?_) (fun c2 => absurd (show (0 : Int32) = (0 : Int32) from (by decide)) c2)
  refine lv_aload_n hx hb d_M_shapeCanBe_26 rfl (lv_at hl 0 rfl) ?_
  refine va_get (D := D) (ci := 1) (v := .int (0 : Int32)) (C := "SignMachine$Machine") (T := F_M) (N := 14) hx hb hk fi_M hown hK.1 hP 1 rfl rfl 9 (by decide) (hk _ k_176) (fun _ h9 => h9) rfl d_M_shapeCanBe_27 ?_
  refine lv_tableIn (off := 174) (tgt := 204) hx hb d_M_shapeCanBe_30 (by decide) (by decide) rfl (by decide) ?_
  refine lv_iconst (v := 1) hx hb d_M_shapeCanBe_204 (by decide) ?_
  exact W.zret (v := (1 : Int32)) hx hb hr rfl (fun t ht hW => ⟨⟨(1 : Int32), (), rfl, rfl, by show va_P D classes _ t.heap; rw [ht]; exact hP, hD⟩, hS.F ht⟩) hS.2.2 d_M_shapeCanBe_205
theorem v_M_shapeCanBe_2 {R : Room} {s : State} {args : Array Value} {own : String} {index : Nat} (hk : ∀ w ∈ tb, w.before args s = true) (hl : Cond.methodLink own index y_M_shapeCanBe ∈ tb) (hR : 1 + 1 ≤ R.frames ∧ 8 + (1 + 11) + 20 ≤ R.locals) : CallW R s args own "SignMachine$Machine" index y_M_shapeCanBe b_M_shapeCanBe 1 (some .boolean) (.code y_M_shapeCanBe b_M_shapeCanBe 1 (some .boolean) :: tb) ({ frames := 1, cells := 0, slots := 0, locals := 20 }) 0 0 0 := mk_v 0 hk k_287 hl k_286 k_2 k_117 rfl rfl h_M_shapeCanBe hR
set_option maxHeartbeats 4000000 in
set_option maxRecDepth 100000 in
theorem c_M_addressCanBe_2 (l : Launch) (D : va_G) (cI cJ cZ cB : ClassId) (p0 p1 p2 p3 p4 p5 : Nat) (sz : Nat) (k : Nat) (hk4 : k < 4000) (x1_6 : Int32) : Met l y_M_addressCanBe (.code y_M_addressCanBe b_M_addressCanBe 1 (some .boolean) :: tb) ({ frames := 1, cells := 0, slots := 0, locals := 20 }) (pM D cI cJ cZ cB (wS10 cI cJ cZ cB p0 p1 p2 p3 p4 p5 (0 : Int32) (0 : Int32) x1_6 (nI k) (0 : Int32) (0 : Int32) (0 : Int32) (0 : Int32) (0 : Int32) (0 : Int32) (fun _ => 0) (fun _ => 0) (0 : Int32) (0 : Int32)) sz [.ref p1]) (va_Qi (fun r (_ : Unit) => r = (1 : Int32)) (fun u t => match u with | _ => va_P D classes (wS10 cI cJ cZ cB p0 p1 p2 p3 p4 p5 (0 : Int32) (0 : Int32) x1_6 (nI k) (0 : Int32) (0 : Int32) (0 : Int32) (0 : Int32) (0 : Int32) (0 : Int32) (fun _ => 0) (fun _ => 0) (0 : Int32) (0 : Int32)) t.heap ∧ va_D (va_A (wS10 cI cJ cZ cB p0 p1 p2 p3 p4 p5 (0 : Int32) (0 : Int32) x1_6 (nI k) (0 : Int32) (0 : Int32) (0 : Int32) (0 : Int32) (0 : Int32) (0 : Int32) (fun _ => 0) (fun _ => 0) (0 : Int32) (0 : Int32)) sz) (wS10 cI cJ cZ cB p0 p1 p2 p3 p4 p5 (0 : Int32) (0 : Int32) x1_6 (nI k) (0 : Int32) (0 : Int32) (0 : Int32) (0 : Int32) (0 : Int32) (0 : Int32) (fun _ => 0) (fun _ => 0) (0 : Int32) (0 : Int32))) (va_A (wS10 cI cJ cZ cB p0 p1 p2 p3 p4 p5 (0 : Int32) (0 : Int32) x1_6 (nI k) (0 : Int32) (0 : Int32) (0 : Int32) (0 : Int32) (0 : Int32) (0 : Int32) (fun _ => 0) (fun _ => 0) (0 : Int32) (0 : Int32)) sz)) 0 0 (va_A (wS10 cI cJ cZ cB p0 p1 p2 p3 p4 p5 (0 : Int32) (0 : Int32) x1_6 (nI k) (0 : Int32) (0 : Int32) (0 : Int32) (0 : Int32) (0 : Int32) (0 : Int32) (fun _ => 0) (fun _ => 0) (0 : Int32) (0 : Int32)) sz) := by
  refine Met.ofW (cc := b_M_addressCanBe) (maxL := 1) (ret := (some .boolean)) (by decide) rfl ?_
  intro p e s m args below meth c s₁ B hml hv
  obtain ⟨rfl, hsz, hK, hP, hD0⟩ := hv
  subst hsz
  have hD := hD0.self (sz := s.heap.size)
  generalize hAe : va_A (wS10 cI cJ cZ cB p0 p1 p2 p3 p4 p5 (0 : Int32) (0 : Int32) x1_6 (nI k) (0 : Int32) (0 : Int32) (0 : Int32) (0 : Int32) (0 : Int32) (0 : Int32) (fun _ => 0) (fun _ => 0) (0 : Int32) (0 : Int32)) s.heap.size = A at hD ⊢
  have hA : ∀ q : Nat, s.heap.size ≤ q → A q := fun q h => by rw [← hAe]; exact Or.inr h
  have hS : va_S A s.heap s.heap [] := va_S.rf
  have hx := B.exec
  have hb := B.bytes
  have hr := B.returns
  have hts := atoms_spec (ws := .code y_M_addressCanBe b_M_addressCanBe 1 (some .boolean) :: tb) B.pre
  have hk : ∀ w ∈ tb, w.before [.ref p1].toArray s = true := fun w h => hts w (List.mem_cons_of_mem _ h)
  have hown : s.vm.findClass "SignMachine$Machine" = some m.cls := findClass_of_methodNamed B.named
  have hlocks := B.notSynchronized
  have hl := lv_entry ([.ref p1]) (n := 1) (Nat.le_of_ble_eq_true rfl)
  rw [lg_entry_eq]
  generalize (lg_sl ([.ref p1]) ++ List.replicate (1 - (lg_sl ([.ref p1])).length) Slot.unset).toArray = ls at hl ⊢
  have hl : lv_has ls 1 [(0, .ref p1)] := hl
  refine lv_aload_n hx hb d_M_addressCanBe_0 rfl (lv_at hl 0 rfl) ?_
  refine kn_i (va_runV (C := "SignMachine$Machine") (As := []) (rest := []) ⟨hx, hb, hml, hown, hk⟩ (c_M_hasFieldOfWord_2 l D cI cJ cZ cB p0 p1 p2 p3 p4 p5 s.heap.size k hk4 x1_6) (v_M_hasFieldOfWord_2 hk k_288 ⟨Nat.le_of_ble_eq_true rfl, Nat.le_of_ble_eq_true rfl⟩) (pM_v hK hP hD (ci := 1) (q0 := 1) rfl rfl rfl) rfl rfl hl.1 rfl (lv_room (Nat.le_of_ble_eq_true rfl)) d_M_addressCanBe_1 ⟨by decide, by decide⟩) hS hA hD (fun u t H locs ht hB hFr hS => ?_)
  obtain ⟨hP, hD⟩ := hB
  rw [ht] at hP
  have hD := dwk hD hFr
  clear ht hFr
  have hP : va_P D classes (wS10 cI cJ cZ cB p0 p1 p2 p3 p4 p5 (0 : Int32) (0 : Int32) x1_6 (nI k) (0 : Int32) (0 : Int32) (0 : Int32) (0 : Int32) (0 : Int32) (0 : Int32) (fun _ => 0) (fun _ => 0) (0 : Int32) (0 : Int32)) H := hP
  have hD : va_D A (wS10 cI cJ cZ cB p0 p1 p2 p3 p4 p5 (0 : Int32) (0 : Int32) x1_6 (nI k) (0 : Int32) (0 : Int32) (0 : Int32) (0 : Int32) (0 : Int32) (0 : Int32) (fun _ => 0) (fun _ => 0) (0 : Int32) (0 : Int32)) := hD
  refine lv_if_eq (tgt := 15) hx hb d_M_addressCanBe_4 (by decide) (fun c1 => ?_) (fun c1 => absurd (show (0 : Int32) = (0 : Int32) from (by decide)) c1)
  refine lv_aload_n hx hb d_M_addressCanBe_15 rfl (lv_at hl 0 rfl) ?_
  refine va_get (D := D) (ci := 1) (v := .int (0 : Int32)) (C := "SignMachine$Machine") (T := F_M) (N := 14) hx hb hk fi_M hown hK.1 hP 1 rfl rfl 9 (by decide) (hk _ k_176) (fun _ h9 => h9) rfl d_M_addressCanBe_16 ?_
  refine lv_lookup (off := 65) (tgt := 84) hx hb d_M_addressCanBe_19 (by decide) rfl (by decide) ?_
  refine lv_iconst (v := 1) hx hb d_M_addressCanBe_84 (by decide) ?_
  exact W.zret (v := (1 : Int32)) hx hb hr rfl (fun t ht hW => ⟨⟨(1 : Int32), (), rfl, rfl, by show va_P D classes _ t.heap; rw [ht]; exact hP, hD⟩, hS.F ht⟩) hS.2.2 d_M_addressCanBe_85
theorem v_M_addressCanBe_2 {R : Room} {s : State} {args : Array Value} {own : String} {index : Nat} (hk : ∀ w ∈ tb, w.before args s = true) (hl : Cond.methodLink own index y_M_addressCanBe ∈ tb) (hR : 1 + 1 ≤ R.frames ∧ 8 + (1 + 11) + 20 ≤ R.locals) : CallW R s args own "SignMachine$Machine" index y_M_addressCanBe b_M_addressCanBe 1 (some .boolean) (.code y_M_addressCanBe b_M_addressCanBe 1 (some .boolean) :: tb) ({ frames := 1, cells := 0, slots := 0, locals := 20 }) 0 0 0 := mk_v 0 hk k_298 hl k_297 k_4 k_117 rfl rfl h_M_addressCanBe hR
set_option maxHeartbeats 4000000 in
set_option maxRecDepth 100000 in
theorem c_M_indexCanBe_2 (l : Launch) (D : va_G) (cI cJ cZ cB : ClassId) (p0 p1 p2 p3 p4 p5 : Nat) (sz : Nat) (k : Nat) (hk4 : k < 4000) (x1_6 : Int32) : Met l y_M_indexCanBe (.code y_M_indexCanBe b_M_indexCanBe 1 (some .boolean) :: tb) ({ frames := 1, cells := 0, slots := 0, locals := 20 }) (pM D cI cJ cZ cB (wS10 cI cJ cZ cB p0 p1 p2 p3 p4 p5 (0 : Int32) (0 : Int32) x1_6 (nI k) (0 : Int32) (0 : Int32) (0 : Int32) (0 : Int32) (0 : Int32) (0 : Int32) (fun _ => 0) (fun _ => 0) (0 : Int32) (0 : Int32)) sz [.ref p1]) (va_Qi (fun r (_ : Unit) => r = (1 : Int32)) (fun u t => match u with | _ => va_P D classes (wS10 cI cJ cZ cB p0 p1 p2 p3 p4 p5 (0 : Int32) (0 : Int32) x1_6 (nI k) (0 : Int32) (0 : Int32) (0 : Int32) (0 : Int32) (0 : Int32) (0 : Int32) (fun _ => 0) (fun _ => 0) (0 : Int32) (0 : Int32)) t.heap ∧ va_D (va_A (wS10 cI cJ cZ cB p0 p1 p2 p3 p4 p5 (0 : Int32) (0 : Int32) x1_6 (nI k) (0 : Int32) (0 : Int32) (0 : Int32) (0 : Int32) (0 : Int32) (0 : Int32) (fun _ => 0) (fun _ => 0) (0 : Int32) (0 : Int32)) sz) (wS10 cI cJ cZ cB p0 p1 p2 p3 p4 p5 (0 : Int32) (0 : Int32) x1_6 (nI k) (0 : Int32) (0 : Int32) (0 : Int32) (0 : Int32) (0 : Int32) (0 : Int32) (fun _ => 0) (fun _ => 0) (0 : Int32) (0 : Int32))) (va_A (wS10 cI cJ cZ cB p0 p1 p2 p3 p4 p5 (0 : Int32) (0 : Int32) x1_6 (nI k) (0 : Int32) (0 : Int32) (0 : Int32) (0 : Int32) (0 : Int32) (0 : Int32) (fun _ => 0) (fun _ => 0) (0 : Int32) (0 : Int32)) sz)) 0 0 (va_A (wS10 cI cJ cZ cB p0 p1 p2 p3 p4 p5 (0 : Int32) (0 : Int32) x1_6 (nI k) (0 : Int32) (0 : Int32) (0 : Int32) (0 : Int32) (0 : Int32) (0 : Int32) (fun _ => 0) (fun _ => 0) (0 : Int32) (0 : Int32)) sz) := by
  refine Met.ofW (cc := b_M_indexCanBe) (maxL := 1) (ret := (some .boolean)) (by decide) rfl ?_
  intro p e s m args below meth c s₁ B hml hv
  obtain ⟨rfl, hsz, hK, hP, hD0⟩ := hv
  subst hsz
  have hD := hD0.self (sz := s.heap.size)
  generalize hAe : va_A (wS10 cI cJ cZ cB p0 p1 p2 p3 p4 p5 (0 : Int32) (0 : Int32) x1_6 (nI k) (0 : Int32) (0 : Int32) (0 : Int32) (0 : Int32) (0 : Int32) (0 : Int32) (fun _ => 0) (fun _ => 0) (0 : Int32) (0 : Int32)) s.heap.size = A at hD ⊢
  have hA : ∀ q : Nat, s.heap.size ≤ q → A q := fun q h => by rw [← hAe]; exact Or.inr h
  have hS : va_S A s.heap s.heap [] := va_S.rf
  have hx := B.exec
  have hb := B.bytes
  have hr := B.returns
  have hts := atoms_spec (ws := .code y_M_indexCanBe b_M_indexCanBe 1 (some .boolean) :: tb) B.pre
  have hk : ∀ w ∈ tb, w.before [.ref p1].toArray s = true := fun w h => hts w (List.mem_cons_of_mem _ h)
  have hown : s.vm.findClass "SignMachine$Machine" = some m.cls := findClass_of_methodNamed B.named
  have hlocks := B.notSynchronized
  have hl := lv_entry ([.ref p1]) (n := 1) (Nat.le_of_ble_eq_true rfl)
  rw [lg_entry_eq]
  generalize (lg_sl ([.ref p1]) ++ List.replicate (1 - (lg_sl ([.ref p1])).length) Slot.unset).toArray = ls at hl ⊢
  have hl : lv_has ls 1 [(0, .ref p1)] := hl
  refine lv_aload_n hx hb d_M_indexCanBe_0 rfl (lv_at hl 0 rfl) ?_
  refine va_get (D := D) (ci := 1) (v := .int (0 : Int32)) (C := "SignMachine$Machine") (T := F_M) (N := 14) hx hb hk fi_M hown hK.1 hP 1 rfl rfl 9 (by decide) (hk _ k_176) (fun _ h9 => h9) rfl d_M_indexCanBe_1 ?_
  refine lv_bipush (v := 7) hx hb d_M_indexCanBe_4 (by decide) ?_
  refine lv_iand hx hb d_M_indexCanBe_6 ?_
  refine tpi (y := (0 : Int32)) (by decide) ?_
  refine cs_i (W.runS (As := [.int (0 : Int32)]) (rest := []) ⟨hx, hb, hml, hown, hk⟩ (c_M_isIndex l (0 : Int32)) (s_M_isIndex hk k_270 ⟨Nat.le_of_ble_eq_true rfl, Nat.le_of_ble_eq_true rfl⟩) ⟨fun a U g mk q => q, fun U hU hW => ⟨rfl, trivial⟩⟩ rfl rfl hl.1 rfl (lv_room (Nat.le_of_ble_eq_true rfl)) d_M_indexCanBe_7 ⟨Nat.le_of_ble_eq_true rfl, Nat.le_of_ble_eq_true rfl⟩) ?_
  refine tpi (y := (0 : Int32)) (by decide) ?_
  refine lv_if_ne (tgt := 15) hx hb d_M_indexCanBe_10 (by decide) (fun c1 => absurd (show (0 : Int32) = (0 : Int32) from (by decide)) c1) (fun c1 => ?_)
  refine lv_iconst (v := 1) hx hb d_M_indexCanBe_13 (by decide) ?_
  exact W.zret (v := (1 : Int32)) hx hb hr rfl (fun t ht hW => ⟨⟨(1 : Int32), (), rfl, rfl, by show va_P D classes _ t.heap; rw [ht]; exact hP, hD⟩, hS.F ht⟩) hS.2.2 d_M_indexCanBe_14
theorem v_M_indexCanBe_2 {R : Room} {s : State} {args : Array Value} {own : String} {index : Nat} (hk : ∀ w ∈ tb, w.before args s = true) (hl : Cond.methodLink own index y_M_indexCanBe ∈ tb) (hR : 1 + 1 ≤ R.frames ∧ 8 + (1 + 11) + 20 ≤ R.locals) : CallW R s args own "SignMachine$Machine" index y_M_indexCanBe b_M_indexCanBe 1 (some .boolean) (.code y_M_indexCanBe b_M_indexCanBe 1 (some .boolean) :: tb) ({ frames := 1, cells := 0, slots := 0, locals := 20 }) 0 0 0 := mk_v 0 hk k_309 hl k_308 k_6 k_117 rfl rfl h_M_indexCanBe hR
set_option maxHeartbeats 4000000 in
set_option maxRecDepth 100000 in
theorem c_M_blockCanBe_2 (l : Launch) (D : va_G) (cI cJ cZ cB : ClassId) (p0 p1 p2 p3 p4 p5 : Nat) (sz : Nat) (k : Nat) (hk4 : k < 4000) (x1_6 : Int32) : Met l y_M_blockCanBe (.code y_M_blockCanBe b_M_blockCanBe 2 (some .boolean) :: tb) ({ frames := 0, cells := 0, slots := 0, locals := 0 }) (pM D cI cJ cZ cB (wS10 cI cJ cZ cB p0 p1 p2 p3 p4 p5 (0 : Int32) (0 : Int32) x1_6 (nI k) (0 : Int32) (0 : Int32) (0 : Int32) (0 : Int32) (0 : Int32) (0 : Int32) (fun _ => 0) (fun _ => 0) (0 : Int32) (0 : Int32)) sz [.ref p1]) (va_Qi (fun r (_ : Unit) => r = (1 : Int32)) (fun u t => match u with | _ => va_P D classes (wS10 cI cJ cZ cB p0 p1 p2 p3 p4 p5 (0 : Int32) (0 : Int32) x1_6 (nI k) (0 : Int32) (0 : Int32) (0 : Int32) (0 : Int32) (0 : Int32) (0 : Int32) (fun _ => 0) (fun _ => 0) (0 : Int32) (0 : Int32)) t.heap ∧ va_D (va_A (wS10 cI cJ cZ cB p0 p1 p2 p3 p4 p5 (0 : Int32) (0 : Int32) x1_6 (nI k) (0 : Int32) (0 : Int32) (0 : Int32) (0 : Int32) (0 : Int32) (0 : Int32) (fun _ => 0) (fun _ => 0) (0 : Int32) (0 : Int32)) sz) (wS10 cI cJ cZ cB p0 p1 p2 p3 p4 p5 (0 : Int32) (0 : Int32) x1_6 (nI k) (0 : Int32) (0 : Int32) (0 : Int32) (0 : Int32) (0 : Int32) (0 : Int32) (fun _ => 0) (fun _ => 0) (0 : Int32) (0 : Int32))) (va_A (wS10 cI cJ cZ cB p0 p1 p2 p3 p4 p5 (0 : Int32) (0 : Int32) x1_6 (nI k) (0 : Int32) (0 : Int32) (0 : Int32) (0 : Int32) (0 : Int32) (0 : Int32) (fun _ => 0) (fun _ => 0) (0 : Int32) (0 : Int32)) sz)) 0 0 (va_A (wS10 cI cJ cZ cB p0 p1 p2 p3 p4 p5 (0 : Int32) (0 : Int32) x1_6 (nI k) (0 : Int32) (0 : Int32) (0 : Int32) (0 : Int32) (0 : Int32) (0 : Int32) (fun _ => 0) (fun _ => 0) (0 : Int32) (0 : Int32)) sz) := by
  refine Met.ofW (cc := b_M_blockCanBe) (maxL := 2) (ret := (some .boolean)) (by decide) rfl ?_
  intro p e s m args below meth c s₁ B hml hv
  obtain ⟨rfl, hsz, hK, hP, hD0⟩ := hv
  subst hsz
  have hD := hD0.self (sz := s.heap.size)
  generalize hAe : va_A (wS10 cI cJ cZ cB p0 p1 p2 p3 p4 p5 (0 : Int32) (0 : Int32) x1_6 (nI k) (0 : Int32) (0 : Int32) (0 : Int32) (0 : Int32) (0 : Int32) (0 : Int32) (fun _ => 0) (fun _ => 0) (0 : Int32) (0 : Int32)) s.heap.size = A at hD ⊢
  have hA : ∀ q : Nat, s.heap.size ≤ q → A q := fun q h => by rw [← hAe]; exact Or.inr h
  have hS : va_S A s.heap s.heap [] := va_S.rf
  have hx := B.exec
  have hb := B.bytes
  have hr := B.returns
  have hts := atoms_spec (ws := .code y_M_blockCanBe b_M_blockCanBe 2 (some .boolean) :: tb) B.pre
  have hk : ∀ w ∈ tb, w.before [.ref p1].toArray s = true := fun w h => hts w (List.mem_cons_of_mem _ h)
  have hown : s.vm.findClass "SignMachine$Machine" = some m.cls := findClass_of_methodNamed B.named
  have hlocks := B.notSynchronized
  have hl := lv_entry ([.ref p1]) (n := 2) (Nat.le_of_ble_eq_true rfl)
  rw [lg_entry_eq]
  generalize (lg_sl ([.ref p1]) ++ List.replicate (2 - (lg_sl ([.ref p1])).length) Slot.unset).toArray = ls at hl ⊢
  have hl : lv_has ls 2 [(0, .ref p1)] := hl
  refine lv_aload_n hx hb d_M_blockCanBe_0 rfl (lv_at hl 0 rfl) ?_
  refine va_get (D := D) (ci := 1) (v := .int (0 : Int32)) (C := "SignMachine$Machine") (T := F_M) (N := 14) hx hb hk fi_M hown hK.1 hP 1 rfl rfl 9 (by decide) (hk _ k_176) (fun _ h9 => h9) rfl d_M_blockCanBe_1 ?_
  refine lv_bipush (v := 35) hx hb d_M_blockCanBe_4 (by decide) ?_
  refine lv_icmp_lt (tgt := 18) hx hb d_M_blockCanBe_6 (by decide) (fun c1 => ?_) (fun c1 => absurd (show (0 : Int32) < (35 : Int32) from (by decide)) c1)
  refine lv_iconst (v := 1) hx hb d_M_blockCanBe_18 (by decide) ?_
  exact W.zret (v := (1 : Int32)) hx hb hr rfl (fun t ht hW => ⟨⟨(1 : Int32), (), rfl, rfl, by show va_P D classes _ t.heap; rw [ht]; exact hP, hD⟩, hS.F ht⟩) hS.2.2 d_M_blockCanBe_19
theorem v_M_blockCanBe_2 {R : Room} {s : State} {args : Array Value} {own : String} {index : Nat} (hk : ∀ w ∈ tb, w.before args s = true) (hl : Cond.methodLink own index y_M_blockCanBe ∈ tb) (hR : 0 + 1 ≤ R.frames ∧ 8 + (2 + 11) + 0 ≤ R.locals) : CallW R s args own "SignMachine$Machine" index y_M_blockCanBe b_M_blockCanBe 2 (some .boolean) (.code y_M_blockCanBe b_M_blockCanBe 2 (some .boolean) :: tb) ({ frames := 0, cells := 0, slots := 0, locals := 0 }) 0 0 0 := mk_v 0 hk k_336 hl k_335 k_9 k_117 rfl rfl h_M_blockCanBe hR
set_option maxHeartbeats 4000000 in
set_option maxRecDepth 100000 in
theorem c_M_reasonAgainst_2 (l : Launch) (D : va_G) (cI cJ cZ cB : ClassId) (p0 p1 p2 p3 p4 p5 : Nat) (sz : Nat) (k : Nat) (hk4 : k < 4000) (x1_6 : Int32) : Met l y_M_reasonAgainst (.code y_M_reasonAgainst b_M_reasonAgainst 1 (some .int) :: tb) ({ frames := 2, cells := 0, slots := 0, locals := 40 }) (pM D cI cJ cZ cB (wS10 cI cJ cZ cB p0 p1 p2 p3 p4 p5 (0 : Int32) (0 : Int32) x1_6 (nI k) (0 : Int32) (0 : Int32) (0 : Int32) (0 : Int32) (0 : Int32) (0 : Int32) (fun _ => 0) (fun _ => 0) (0 : Int32) (0 : Int32)) sz [.ref p1]) (va_Qi (fun r (_ : Unit) => r = (0 : Int32)) (fun u t => match u with | _ => va_P D classes (wS10 cI cJ cZ cB p0 p1 p2 p3 p4 p5 (0 : Int32) (0 : Int32) x1_6 (nI k) (0 : Int32) (0 : Int32) (0 : Int32) (0 : Int32) (0 : Int32) (0 : Int32) (fun _ => 0) (fun _ => 0) (0 : Int32) (0 : Int32)) t.heap ∧ va_D (va_A (wS10 cI cJ cZ cB p0 p1 p2 p3 p4 p5 (0 : Int32) (0 : Int32) x1_6 (nI k) (0 : Int32) (0 : Int32) (0 : Int32) (0 : Int32) (0 : Int32) (0 : Int32) (fun _ => 0) (fun _ => 0) (0 : Int32) (0 : Int32)) sz) (wS10 cI cJ cZ cB p0 p1 p2 p3 p4 p5 (0 : Int32) (0 : Int32) x1_6 (nI k) (0 : Int32) (0 : Int32) (0 : Int32) (0 : Int32) (0 : Int32) (0 : Int32) (fun _ => 0) (fun _ => 0) (0 : Int32) (0 : Int32))) (va_A (wS10 cI cJ cZ cB p0 p1 p2 p3 p4 p5 (0 : Int32) (0 : Int32) x1_6 (nI k) (0 : Int32) (0 : Int32) (0 : Int32) (0 : Int32) (0 : Int32) (0 : Int32) (fun _ => 0) (fun _ => 0) (0 : Int32) (0 : Int32)) sz)) 0 0 (va_A (wS10 cI cJ cZ cB p0 p1 p2 p3 p4 p5 (0 : Int32) (0 : Int32) x1_6 (nI k) (0 : Int32) (0 : Int32) (0 : Int32) (0 : Int32) (0 : Int32) (0 : Int32) (fun _ => 0) (fun _ => 0) (0 : Int32) (0 : Int32)) sz) := by
  refine Met.ofW (cc := b_M_reasonAgainst) (maxL := 1) (ret := (some .int)) (by decide) rfl ?_
  intro p e s m args below meth c s₁ B hml hv
  obtain ⟨rfl, hsz, hK, hP, hD0⟩ := hv
  subst hsz
  have hD := hD0.self (sz := s.heap.size)
  generalize hAe : va_A (wS10 cI cJ cZ cB p0 p1 p2 p3 p4 p5 (0 : Int32) (0 : Int32) x1_6 (nI k) (0 : Int32) (0 : Int32) (0 : Int32) (0 : Int32) (0 : Int32) (0 : Int32) (fun _ => 0) (fun _ => 0) (0 : Int32) (0 : Int32)) s.heap.size = A at hD ⊢
  have hA : ∀ q : Nat, s.heap.size ≤ q → A q := fun q h => by rw [← hAe]; exact Or.inr h
  have hS : va_S A s.heap s.heap [] := va_S.rf
  have hx := B.exec
  have hb := B.bytes
  have hr := B.returns
  have hts := atoms_spec (ws := .code y_M_reasonAgainst b_M_reasonAgainst 1 (some .int) :: tb) B.pre
  have hk : ∀ w ∈ tb, w.before [.ref p1].toArray s = true := fun w h => hts w (List.mem_cons_of_mem _ h)
  have hown : s.vm.findClass "SignMachine$Machine" = some m.cls := findClass_of_methodNamed B.named
  have hlocks := B.notSynchronized
  have hl := lv_entry ([.ref p1]) (n := 1) (Nat.le_of_ble_eq_true rfl)
  rw [lg_entry_eq]
  generalize (lg_sl ([.ref p1]) ++ List.replicate (1 - (lg_sl ([.ref p1])).length) Slot.unset).toArray = ls at hl ⊢
  have hl : lv_has ls 1 [(0, .ref p1)] := hl
  refine lv_aload_n hx hb d_M_reasonAgainst_0 rfl (lv_at hl 0 rfl) ?_
  refine kn_i (va_runV (C := "SignMachine$Machine") (As := []) (rest := []) ⟨hx, hb, hml, hown, hk⟩ (c_M_shapeCanBe_2 l D cI cJ cZ cB p0 p1 p2 p3 p4 p5 s.heap.size k hk4 x1_6) (v_M_shapeCanBe_2 hk k_284 ⟨Nat.le_of_ble_eq_true rfl, Nat.le_of_ble_eq_true rfl⟩) (pM_v hK hP hD (ci := 1) (q0 := 1) rfl rfl rfl) rfl rfl hl.1 rfl (lv_room (Nat.le_of_ble_eq_true rfl)) d_M_reasonAgainst_1 ⟨by decide, by decide⟩) hS hA hD (fun u t H locs ht hB hFr hS => ?_)
  obtain ⟨hP, hD⟩ := hB
  rw [ht] at hP
  have hD := dwk hD hFr
  clear ht hFr
  have hP : va_P D classes (wS10 cI cJ cZ cB p0 p1 p2 p3 p4 p5 (0 : Int32) (0 : Int32) x1_6 (nI k) (0 : Int32) (0 : Int32) (0 : Int32) (0 : Int32) (0 : Int32) (0 : Int32) (fun _ => 0) (fun _ => 0) (0 : Int32) (0 : Int32)) H := hP
  have hD : va_D A (wS10 cI cJ cZ cB p0 p1 p2 p3 p4 p5 (0 : Int32) (0 : Int32) x1_6 (nI k) (0 : Int32) (0 : Int32) (0 : Int32) (0 : Int32) (0 : Int32) (0 : Int32) (fun _ => 0) (fun _ => 0) (0 : Int32) (0 : Int32)) := hD
  refine lv_if_ne (tgt := 9) hx hb d_M_reasonAgainst_4 (by decide) (fun c1 => ?_) (fun c1 => absurd c1 (show ¬ (1 : Int32) = (0 : Int32) from (by decide)))
  refine lv_aload_n hx hb d_M_reasonAgainst_9 rfl (lv_at hl 0 rfl) ?_
  refine kn_i (va_runV (C := "SignMachine$Machine") (As := []) (rest := []) ⟨hx, hb, hml, hown, hk⟩ (c_M_addressCanBe_2 l D cI cJ cZ cB p0 p1 p2 p3 p4 p5 H.size k hk4 x1_6) (v_M_addressCanBe_2 hk k_295 ⟨Nat.le_of_ble_eq_true rfl, Nat.le_of_ble_eq_true rfl⟩) (pM_v hK hP hD (ci := 1) (q0 := 1) rfl rfl rfl) rfl rfl hl.1 rfl (lv_room (Nat.le_of_ble_eq_true rfl)) d_M_reasonAgainst_10 ⟨by decide, by decide⟩) hS hA hD (fun u t H locs ht hB hFr hS => ?_)
  obtain ⟨hP, hD⟩ := hB
  rw [ht] at hP
  have hD := dwk hD hFr
  clear ht hFr
  have hP : va_P D classes (wS10 cI cJ cZ cB p0 p1 p2 p3 p4 p5 (0 : Int32) (0 : Int32) x1_6 (nI k) (0 : Int32) (0 : Int32) (0 : Int32) (0 : Int32) (0 : Int32) (0 : Int32) (fun _ => 0) (fun _ => 0) (0 : Int32) (0 : Int32)) H := hP
  have hD : va_D A (wS10 cI cJ cZ cB p0 p1 p2 p3 p4 p5 (0 : Int32) (0 : Int32) x1_6 (nI k) (0 : Int32) (0 : Int32) (0 : Int32) (0 : Int32) (0 : Int32) (0 : Int32) (fun _ => 0) (fun _ => 0) (0 : Int32) (0 : Int32)) := hD
  refine lv_if_ne (tgt := 18) hx hb d_M_reasonAgainst_13 (by decide) (fun c2 => ?_) (fun c2 => absurd c2 (show ¬ (1 : Int32) = (0 : Int32) from (by decide)))
  refine lv_aload_n hx hb d_M_reasonAgainst_18 rfl (lv_at hl 0 rfl) ?_
  refine kn_i (va_runV (C := "SignMachine$Machine") (As := []) (rest := []) ⟨hx, hb, hml, hown, hk⟩ (c_M_indexCanBe_2 l D cI cJ cZ cB p0 p1 p2 p3 p4 p5 H.size k hk4 x1_6) (v_M_indexCanBe_2 hk k_306 ⟨Nat.le_of_ble_eq_true rfl, Nat.le_of_ble_eq_true rfl⟩) (pM_v hK hP hD (ci := 1) (q0 := 1) rfl rfl rfl) rfl rfl hl.1 rfl (lv_room (Nat.le_of_ble_eq_true rfl)) d_M_reasonAgainst_19 ⟨by decide, by decide⟩) hS hA hD (fun u t H locs ht hB hFr hS => ?_)
  obtain ⟨hP, hD⟩ := hB
  rw [ht] at hP
  have hD := dwk hD hFr
  clear ht hFr
  have hP : va_P D classes (wS10 cI cJ cZ cB p0 p1 p2 p3 p4 p5 (0 : Int32) (0 : Int32) x1_6 (nI k) (0 : Int32) (0 : Int32) (0 : Int32) (0 : Int32) (0 : Int32) (0 : Int32) (fun _ => 0) (fun _ => 0) (0 : Int32) (0 : Int32)) H := hP
  have hD : va_D A (wS10 cI cJ cZ cB p0 p1 p2 p3 p4 p5 (0 : Int32) (0 : Int32) x1_6 (nI k) (0 : Int32) (0 : Int32) (0 : Int32) (0 : Int32) (0 : Int32) (0 : Int32) (fun _ => 0) (fun _ => 0) (0 : Int32) (0 : Int32)) := hD
  refine lv_if_ne (tgt := 27) hx hb d_M_reasonAgainst_22 (by decide) (fun c3 => ?_) (fun c3 => absurd c3 (show ¬ (1 : Int32) = (0 : Int32) from (by decide)))
  refine lv_aload_n hx hb d_M_reasonAgainst_27 rfl (lv_at hl 0 rfl) ?_
  refine kn_i (va_runV (C := "SignMachine$Machine") (As := []) (rest := []) ⟨hx, hb, hml, hown, hk⟩ (c_M_blockCanBe_2 l D cI cJ cZ cB p0 p1 p2 p3 p4 p5 H.size k hk4 x1_6) (v_M_blockCanBe_2 hk k_333 ⟨Nat.le_of_ble_eq_true rfl, Nat.le_of_ble_eq_true rfl⟩) (pM_v hK hP hD (ci := 1) (q0 := 1) rfl rfl rfl) rfl rfl hl.1 rfl (lv_room (Nat.le_of_ble_eq_true rfl)) d_M_reasonAgainst_28 ⟨by decide, by decide⟩) hS hA hD (fun u t H locs ht hB hFr hS => ?_)
  obtain ⟨hP, hD⟩ := hB
  rw [ht] at hP
  have hD := dwk hD hFr
  clear ht hFr
  have hP : va_P D classes (wS10 cI cJ cZ cB p0 p1 p2 p3 p4 p5 (0 : Int32) (0 : Int32) x1_6 (nI k) (0 : Int32) (0 : Int32) (0 : Int32) (0 : Int32) (0 : Int32) (0 : Int32) (fun _ => 0) (fun _ => 0) (0 : Int32) (0 : Int32)) H := hP
  have hD : va_D A (wS10 cI cJ cZ cB p0 p1 p2 p3 p4 p5 (0 : Int32) (0 : Int32) x1_6 (nI k) (0 : Int32) (0 : Int32) (0 : Int32) (0 : Int32) (0 : Int32) (0 : Int32) (fun _ => 0) (fun _ => 0) (0 : Int32) (0 : Int32)) := hD
  refine lv_if_eq (tgt := 38) hx hb d_M_reasonAgainst_31 (by decide) (fun c4 => absurd c4 (show ¬ (1 : Int32) = (0 : Int32) from (by decide))) (fun c4 => ?_)
  refine lv_iconst (v := 0) hx hb d_M_reasonAgainst_34 (by decide) ?_
  refine lv_goto (tgt := 39) hx hb d_M_reasonAgainst_35 (by decide) ?_
  exact W.iret (v := (0 : Int32)) hx hb hr (fun t ht hW => ⟨⟨(0 : Int32), (), rfl, rfl, by show va_P D classes _ t.heap; rw [ht]; exact hP, hD⟩, hS.F ht⟩) hS.2.2 d_M_reasonAgainst_39
theorem v_M_reasonAgainst_2 {R : Room} {s : State} {args : Array Value} {own : String} {index : Nat} (hk : ∀ w ∈ tb, w.before args s = true) (hl : Cond.methodLink own index y_M_reasonAgainst ∈ tb) (hR : 2 + 1 ≤ R.frames ∧ 8 + (1 + 11) + 40 ≤ R.locals) : CallW R s args own "SignMachine$Machine" index y_M_reasonAgainst b_M_reasonAgainst 1 (some .int) (.code y_M_reasonAgainst b_M_reasonAgainst 1 (some .int) :: tb) ({ frames := 2, cells := 0, slots := 0, locals := 40 }) 0 0 0 := mk_v 0 hk k_283 hl k_282 k_1 k_117 rfl rfl h_M_reasonAgainst hR
set_option maxHeartbeats 4000000 in
set_option maxRecDepth 100000 in
theorem c_M_duration_2 (l : Launch) (D : va_G) (cI cJ cZ cB : ClassId) (p0 p1 p2 p3 p4 p5 : Nat) (sz : Nat) (k : Nat) (hk4 : k < 4000) (x1_6 : Int32) : Met l y_M_duration (.code y_M_duration b_M_duration 1 (some .int) :: tb) ({ frames := 1, cells := 0, slots := 0, locals := 20 }) (pM D cI cJ cZ cB (wS10 cI cJ cZ cB p0 p1 p2 p3 p4 p5 (0 : Int32) (0 : Int32) x1_6 (nI k) (0 : Int32) (0 : Int32) (0 : Int32) (0 : Int32) (0 : Int32) (0 : Int32) (fun _ => 0) (fun _ => 0) (0 : Int32) (0 : Int32)) sz [.ref p1]) (va_Qi (fun r (_ : Unit) => r = (1 : Int32)) (fun u t => match u with | _ => va_P D classes (wS10 cI cJ cZ cB p0 p1 p2 p3 p4 p5 (0 : Int32) (0 : Int32) x1_6 (nI k) (0 : Int32) (0 : Int32) (0 : Int32) (0 : Int32) (0 : Int32) (0 : Int32) (fun _ => 0) (fun _ => 0) (0 : Int32) (0 : Int32)) t.heap ∧ va_D (va_A (wS10 cI cJ cZ cB p0 p1 p2 p3 p4 p5 (0 : Int32) (0 : Int32) x1_6 (nI k) (0 : Int32) (0 : Int32) (0 : Int32) (0 : Int32) (0 : Int32) (0 : Int32) (fun _ => 0) (fun _ => 0) (0 : Int32) (0 : Int32)) sz) (wS10 cI cJ cZ cB p0 p1 p2 p3 p4 p5 (0 : Int32) (0 : Int32) x1_6 (nI k) (0 : Int32) (0 : Int32) (0 : Int32) (0 : Int32) (0 : Int32) (0 : Int32) (fun _ => 0) (fun _ => 0) (0 : Int32) (0 : Int32))) (va_A (wS10 cI cJ cZ cB p0 p1 p2 p3 p4 p5 (0 : Int32) (0 : Int32) x1_6 (nI k) (0 : Int32) (0 : Int32) (0 : Int32) (0 : Int32) (0 : Int32) (0 : Int32) (fun _ => 0) (fun _ => 0) (0 : Int32) (0 : Int32)) sz)) 0 0 (va_A (wS10 cI cJ cZ cB p0 p1 p2 p3 p4 p5 (0 : Int32) (0 : Int32) x1_6 (nI k) (0 : Int32) (0 : Int32) (0 : Int32) (0 : Int32) (0 : Int32) (0 : Int32) (fun _ => 0) (fun _ => 0) (0 : Int32) (0 : Int32)) sz) := by
  refine Met.ofW (cc := b_M_duration) (maxL := 1) (ret := (some .int)) (by decide) rfl ?_
  intro p e s m args below meth c s₁ B hml hv
  obtain ⟨rfl, hsz, hK, hP, hD0⟩ := hv
  subst hsz
  have hD := hD0.self (sz := s.heap.size)
  generalize hAe : va_A (wS10 cI cJ cZ cB p0 p1 p2 p3 p4 p5 (0 : Int32) (0 : Int32) x1_6 (nI k) (0 : Int32) (0 : Int32) (0 : Int32) (0 : Int32) (0 : Int32) (0 : Int32) (fun _ => 0) (fun _ => 0) (0 : Int32) (0 : Int32)) s.heap.size = A at hD ⊢
  have hA : ∀ q : Nat, s.heap.size ≤ q → A q := fun q h => by rw [← hAe]; exact Or.inr h
  have hS : va_S A s.heap s.heap [] := va_S.rf
  have hx := B.exec
  have hb := B.bytes
  have hr := B.returns
  have hts := atoms_spec (ws := .code y_M_duration b_M_duration 1 (some .int) :: tb) B.pre
  have hk : ∀ w ∈ tb, w.before [.ref p1].toArray s = true := fun w h => hts w (List.mem_cons_of_mem _ h)
  have hown : s.vm.findClass "SignMachine$Machine" = some m.cls := findClass_of_methodNamed B.named
  have hlocks := B.notSynchronized
  have hl := lv_entry ([.ref p1]) (n := 1) (Nat.le_of_ble_eq_true rfl)
  rw [lg_entry_eq]
  generalize (lg_sl ([.ref p1]) ++ List.replicate (1 - (lg_sl ([.ref p1])).length) Slot.unset).toArray = ls at hl ⊢
  have hl : lv_has ls 1 [(0, .ref p1)] := hl
  refine lv_aload_n hx hb d_M_duration_0 rfl (lv_at hl 0 rfl) ?_
  refine kn_i (va_runV (C := "SignMachine$Machine") (As := []) (rest := []) ⟨hx, hb, hml, hown, hk⟩ (c_M_hasFieldOfWord_2 l D cI cJ cZ cB p0 p1 p2 p3 p4 p5 s.heap.size k hk4 x1_6) (v_M_hasFieldOfWord_2 hk k_288 ⟨Nat.le_of_ble_eq_true rfl, Nat.le_of_ble_eq_true rfl⟩) (pM_v hK hP hD (ci := 1) (q0 := 1) rfl rfl rfl) rfl rfl hl.1 rfl (lv_room (Nat.le_of_ble_eq_true rfl)) d_M_duration_1 ⟨by decide, by decide⟩) hS hA hD (fun u t H locs ht hB hFr hS => ?_)
  obtain ⟨hP, hD⟩ := hB
  rw [ht] at hP
  have hD := dwk hD hFr
  clear ht hFr
  have hP : va_P D classes (wS10 cI cJ cZ cB p0 p1 p2 p3 p4 p5 (0 : Int32) (0 : Int32) x1_6 (nI k) (0 : Int32) (0 : Int32) (0 : Int32) (0 : Int32) (0 : Int32) (0 : Int32) (fun _ => 0) (fun _ => 0) (0 : Int32) (0 : Int32)) H := hP
  have hD : va_D A (wS10 cI cJ cZ cB p0 p1 p2 p3 p4 p5 (0 : Int32) (0 : Int32) x1_6 (nI k) (0 : Int32) (0 : Int32) (0 : Int32) (0 : Int32) (0 : Int32) (0 : Int32) (fun _ => 0) (fun _ => 0) (0 : Int32) (0 : Int32)) := hD
  refine lv_if_eq (tgt := 35) hx hb d_M_duration_4 (by decide) (fun c1 => ?_) (fun c1 => absurd (show (0 : Int32) = (0 : Int32) from (by decide)) c1)
  refine lv_aload_n hx hb d_M_duration_35 rfl (lv_at hl 0 rfl) ?_
  refine va_get (D := D) (ci := 1) (v := .int (0 : Int32)) (C := "SignMachine$Machine") (T := F_M) (N := 14) hx hb hk fi_M hown hK.1 hP 1 rfl rfl 9 (by decide) (hk _ k_176) (fun _ h9 => h9) rfl d_M_duration_36 ?_
  refine lv_tableOut (tgt := 78) hx hb d_M_duration_39 (by decide) (by decide) ?_
  refine lv_iconst (v := 1) hx hb d_M_duration_78 (by decide) ?_
  exact W.iret (v := (1 : Int32)) hx hb hr (fun t ht hW => ⟨⟨(1 : Int32), (), rfl, rfl, by show va_P D classes _ t.heap; rw [ht]; exact hP, hD⟩, hS.F ht⟩) hS.2.2 d_M_duration_79
theorem v_M_duration_2 {R : Room} {s : State} {args : Array Value} {own : String} {index : Nat} (hk : ∀ w ∈ tb, w.before args s = true) (hl : Cond.methodLink own index y_M_duration ∈ tb) (hR : 1 + 1 ≤ R.frames ∧ 8 + (1 + 11) + 20 ≤ R.locals) : CallW R s args own "SignMachine$Machine" index y_M_duration b_M_duration 1 (some .int) (.code y_M_duration b_M_duration 1 (some .int) :: tb) ({ frames := 1, cells := 0, slots := 0, locals := 20 }) 0 0 0 := mk_v 0 hk k_344 hl k_343 k_10 k_117 rfl rfl h_M_duration hR
set_option maxHeartbeats 4000000 in
set_option maxRecDepth 100000 in
theorem c_M_performLow_2 (l : Launch) (D : va_G) (cI cJ cZ cB : ClassId) (p0 p1 p2 p3 p4 p5 : Nat) (sz : Nat) (k : Nat) (hk4 : k < 4000) (x1_6 : Int32) : Met l y_M_performLow (.code y_M_performLow b_M_performLow 1 none :: tb) ({ frames := 0, cells := 0, slots := 0, locals := 0 }) (pM D cI cJ cZ cB (wS10 cI cJ cZ cB p0 p1 p2 p3 p4 p5 (0 : Int32) (0 : Int32) x1_6 (nI (k + 1)) (0 : Int32) (0 : Int32) (0 : Int32) (0 : Int32) (0 : Int32) (0 : Int32) (fun _ => 0) (fun _ => 0) (0 : Int32) (0 : Int32)) sz [.ref p1]) (va_Qv (fun (_ : Unit) => True) (fun u t => match u with | _ => va_P D classes (wS10 cI cJ cZ cB p0 p1 p2 p3 p4 p5 (0 : Int32) (0 : Int32) x1_6 (nI (k + 1)) (0 : Int32) (0 : Int32) (0 : Int32) (0 : Int32) (0 : Int32) (0 : Int32) (fun _ => 0) (fun _ => 0) (0 : Int32) (0 : Int32)) t.heap ∧ va_D (va_A (wS10 cI cJ cZ cB p0 p1 p2 p3 p4 p5 (0 : Int32) (0 : Int32) x1_6 (nI (k + 1)) (0 : Int32) (0 : Int32) (0 : Int32) (0 : Int32) (0 : Int32) (0 : Int32) (fun _ => 0) (fun _ => 0) (0 : Int32) (0 : Int32)) sz) (wS10 cI cJ cZ cB p0 p1 p2 p3 p4 p5 (0 : Int32) (0 : Int32) x1_6 (nI (k + 1)) (0 : Int32) (0 : Int32) (0 : Int32) (0 : Int32) (0 : Int32) (0 : Int32) (fun _ => 0) (fun _ => 0) (0 : Int32) (0 : Int32))) (va_A (wS10 cI cJ cZ cB p0 p1 p2 p3 p4 p5 (0 : Int32) (0 : Int32) x1_6 (nI (k + 1)) (0 : Int32) (0 : Int32) (0 : Int32) (0 : Int32) (0 : Int32) (0 : Int32) (fun _ => 0) (fun _ => 0) (0 : Int32) (0 : Int32)) sz)) 0 0 (va_A (wS10 cI cJ cZ cB p0 p1 p2 p3 p4 p5 (0 : Int32) (0 : Int32) x1_6 (nI (k + 1)) (0 : Int32) (0 : Int32) (0 : Int32) (0 : Int32) (0 : Int32) (0 : Int32) (fun _ => 0) (fun _ => 0) (0 : Int32) (0 : Int32)) sz) := by
  refine Met.ofW (cc := b_M_performLow) (maxL := 1) (ret := none) (by decide) rfl ?_
  intro p e s m args below meth c s₁ B hml hv
  obtain ⟨rfl, hsz, hK, hP, hD0⟩ := hv
  subst hsz
  have hD := hD0.self (sz := s.heap.size)
  generalize hAe : va_A (wS10 cI cJ cZ cB p0 p1 p2 p3 p4 p5 (0 : Int32) (0 : Int32) x1_6 (nI (k + 1)) (0 : Int32) (0 : Int32) (0 : Int32) (0 : Int32) (0 : Int32) (0 : Int32) (fun _ => 0) (fun _ => 0) (0 : Int32) (0 : Int32)) s.heap.size = A at hD ⊢
  have hA : ∀ q : Nat, s.heap.size ≤ q → A q := fun q h => by rw [← hAe]; exact Or.inr h
  have hS : va_S A s.heap s.heap [] := va_S.rf
  have hx := B.exec
  have hb := B.bytes
  have hr := B.returns
  have hts := atoms_spec (ws := .code y_M_performLow b_M_performLow 1 none :: tb) B.pre
  have hk : ∀ w ∈ tb, w.before [.ref p1].toArray s = true := fun w h => hts w (List.mem_cons_of_mem _ h)
  have hown : s.vm.findClass "SignMachine$Machine" = some m.cls := findClass_of_methodNamed B.named
  have hlocks := B.notSynchronized
  have hl := lv_entry ([.ref p1]) (n := 1) (Nat.le_of_ble_eq_true rfl)
  rw [lg_entry_eq]
  generalize (lg_sl ([.ref p1]) ++ List.replicate (1 - (lg_sl ([.ref p1])).length) Slot.unset).toArray = ls at hl ⊢
  have hl : lv_has ls 1 [(0, .ref p1)] := hl
  refine lv_aload_n hx hb d_M_performLow_0 rfl (lv_at hl 0 rfl) ?_
  refine va_get (D := D) (ci := 1) (v := .int (0 : Int32)) (C := "SignMachine$Machine") (T := F_M) (N := 14) hx hb hk fi_M hown hK.1 hP 1 rfl rfl 9 (by decide) (hk _ k_176) (fun _ h9 => h9) rfl d_M_performLow_1 ?_
  refine lv_tableOut (tgt := 122) hx hb d_M_performLow_4 (by decide) (by decide) ?_
  exact W.vret hx hb hr (fun t ht hW => ⟨⟨(), rfl, trivial, by show va_P D classes _ t.heap; rw [ht]; exact hP, hD⟩, hS.F ht⟩) hS.2.2 d_M_performLow_122
theorem v_M_performLow_2 {R : Room} {s : State} {args : Array Value} {own : String} {index : Nat} (hk : ∀ w ∈ tb, w.before args s = true) (hl : Cond.methodLink own index y_M_performLow ∈ tb) (hR : 0 + 1 ≤ R.frames ∧ 8 + (1 + 11) + 0 ≤ R.locals) : CallW R s args own "SignMachine$Machine" index y_M_performLow b_M_performLow 1 none (.code y_M_performLow b_M_performLow 1 none :: tb) ({ frames := 0, cells := 0, slots := 0, locals := 0 }) 0 0 0 := mk_v 0 hk k_353 hl k_352 k_12 k_117 rfl rfl h_M_performLow hR
set_option maxHeartbeats 4000000 in
set_option maxRecDepth 100000 in
theorem c_M_perform_2 (l : Launch) (D : va_G) (cI cJ cZ cB : ClassId) (p0 p1 p2 p3 p4 p5 : Nat) (sz : Nat) (k : Nat) (hk4 : k < 4000) (x1_6 : Int32) : Met l y_M_perform (.code y_M_perform b_M_perform 1 none :: tb) ({ frames := 1, cells := 0, slots := 0, locals := 20 }) (pM D cI cJ cZ cB (wS10 cI cJ cZ cB p0 p1 p2 p3 p4 p5 (0 : Int32) (0 : Int32) x1_6 (nI (k + 1)) (0 : Int32) (0 : Int32) (0 : Int32) (0 : Int32) (0 : Int32) (0 : Int32) (fun _ => 0) (fun _ => 0) (0 : Int32) (0 : Int32)) sz [.ref p1]) (va_Qv (fun (_ : Unit) => True) (fun u t => match u with | _ => va_P D classes (wS10 cI cJ cZ cB p0 p1 p2 p3 p4 p5 (0 : Int32) (0 : Int32) x1_6 (nI (k + 1)) (0 : Int32) (0 : Int32) (0 : Int32) (0 : Int32) (0 : Int32) (0 : Int32) (fun _ => 0) (fun _ => 0) (0 : Int32) (0 : Int32)) t.heap ∧ va_D (va_A (wS10 cI cJ cZ cB p0 p1 p2 p3 p4 p5 (0 : Int32) (0 : Int32) x1_6 (nI (k + 1)) (0 : Int32) (0 : Int32) (0 : Int32) (0 : Int32) (0 : Int32) (0 : Int32) (fun _ => 0) (fun _ => 0) (0 : Int32) (0 : Int32)) sz) (wS10 cI cJ cZ cB p0 p1 p2 p3 p4 p5 (0 : Int32) (0 : Int32) x1_6 (nI (k + 1)) (0 : Int32) (0 : Int32) (0 : Int32) (0 : Int32) (0 : Int32) (0 : Int32) (fun _ => 0) (fun _ => 0) (0 : Int32) (0 : Int32))) (va_A (wS10 cI cJ cZ cB p0 p1 p2 p3 p4 p5 (0 : Int32) (0 : Int32) x1_6 (nI (k + 1)) (0 : Int32) (0 : Int32) (0 : Int32) (0 : Int32) (0 : Int32) (0 : Int32) (fun _ => 0) (fun _ => 0) (0 : Int32) (0 : Int32)) sz)) 0 0 (va_A (wS10 cI cJ cZ cB p0 p1 p2 p3 p4 p5 (0 : Int32) (0 : Int32) x1_6 (nI (k + 1)) (0 : Int32) (0 : Int32) (0 : Int32) (0 : Int32) (0 : Int32) (0 : Int32) (fun _ => 0) (fun _ => 0) (0 : Int32) (0 : Int32)) sz) := by
  refine Met.ofW (cc := b_M_perform) (maxL := 1) (ret := none) (by decide) rfl ?_
  intro p e s m args below meth c s₁ B hml hv
  obtain ⟨rfl, hsz, hK, hP, hD0⟩ := hv
  subst hsz
  have hD := hD0.self (sz := s.heap.size)
  generalize hAe : va_A (wS10 cI cJ cZ cB p0 p1 p2 p3 p4 p5 (0 : Int32) (0 : Int32) x1_6 (nI (k + 1)) (0 : Int32) (0 : Int32) (0 : Int32) (0 : Int32) (0 : Int32) (0 : Int32) (fun _ => 0) (fun _ => 0) (0 : Int32) (0 : Int32)) s.heap.size = A at hD ⊢
  have hA : ∀ q : Nat, s.heap.size ≤ q → A q := fun q h => by rw [← hAe]; exact Or.inr h
  have hS : va_S A s.heap s.heap [] := va_S.rf
  have hx := B.exec
  have hb := B.bytes
  have hr := B.returns
  have hts := atoms_spec (ws := .code y_M_perform b_M_perform 1 none :: tb) B.pre
  have hk : ∀ w ∈ tb, w.before [.ref p1].toArray s = true := fun w h => hts w (List.mem_cons_of_mem _ h)
  have hown : s.vm.findClass "SignMachine$Machine" = some m.cls := findClass_of_methodNamed B.named
  have hlocks := B.notSynchronized
  have hl := lv_entry ([.ref p1]) (n := 1) (Nat.le_of_ble_eq_true rfl)
  rw [lg_entry_eq]
  generalize (lg_sl ([.ref p1]) ++ List.replicate (1 - (lg_sl ([.ref p1])).length) Slot.unset).toArray = ls at hl ⊢
  have hl : lv_has ls 1 [(0, .ref p1)] := hl
  refine lv_aload_n hx hb d_M_perform_0 rfl (lv_at hl 0 rfl) ?_
  refine va_get (D := D) (ci := 1) (v := .int (0 : Int32)) (C := "SignMachine$Machine") (T := F_M) (N := 14) hx hb hk fi_M hown hK.1 hP 1 rfl rfl 9 (by decide) (hk _ k_176) (fun _ h9 => h9) rfl d_M_perform_1 ?_
  refine lv_iconst (v := 3) hx hb d_M_perform_4 (by decide) ?_
  refine lv_ishr hx hb d_M_perform_5 ?_
  refine tpi (y := (0 : Int32)) (by decide) ?_
  refine lv_tableIn (off := 42) (tgt := 48) hx hb d_M_perform_6 (by decide) (by decide) rfl (by decide) ?_
  refine lv_aload_n hx hb d_M_perform_48 rfl (lv_at hl 0 rfl) ?_
  refine kn_v (va_runV (C := "SignMachine$Machine") (As := []) (rest := []) ⟨hx, hb, hml, hown, hk⟩ (c_M_performLow_2 l D cI cJ cZ cB p0 p1 p2 p3 p4 p5 s.heap.size k hk4 x1_6) (v_M_performLow_2 hk k_350 ⟨Nat.le_of_ble_eq_true rfl, Nat.le_of_ble_eq_true rfl⟩) (pM_v hK hP hD (ci := 1) (q0 := 1) rfl rfl rfl) rfl rfl hl.1 rfl (lv_room (Nat.le_of_ble_eq_true rfl)) d_M_perform_49 ⟨by decide, by decide⟩) hS hA hD (fun u t H locs ht hB hFr hS => ?_)
  obtain ⟨hP, hD⟩ := hB
  rw [ht] at hP
  have hD := dwk hD hFr
  clear ht hFr
  have hP : va_P D classes (wS10 cI cJ cZ cB p0 p1 p2 p3 p4 p5 (0 : Int32) (0 : Int32) x1_6 (nI (k + 1)) (0 : Int32) (0 : Int32) (0 : Int32) (0 : Int32) (0 : Int32) (0 : Int32) (fun _ => 0) (fun _ => 0) (0 : Int32) (0 : Int32)) H := hP
  have hD : va_D A (wS10 cI cJ cZ cB p0 p1 p2 p3 p4 p5 (0 : Int32) (0 : Int32) x1_6 (nI (k + 1)) (0 : Int32) (0 : Int32) (0 : Int32) (0 : Int32) (0 : Int32) (0 : Int32) (fun _ => 0) (fun _ => 0) (0 : Int32) (0 : Int32)) := hD
  refine lv_goto (tgt := 173) hx hb d_M_perform_52 (by decide) ?_
  exact W.vret hx hb hr (fun t ht hW => ⟨⟨(), rfl, trivial, by show va_P D classes _ t.heap; rw [ht]; exact hP, hD⟩, hS.F ht⟩) hS.2.2 d_M_perform_173
theorem v_M_perform_2 {R : Room} {s : State} {args : Array Value} {own : String} {index : Nat} (hk : ∀ w ∈ tb, w.before args s = true) (hl : Cond.methodLink own index y_M_perform ∈ tb) (hR : 1 + 1 ≤ R.frames ∧ 8 + (1 + 11) + 20 ≤ R.locals) : CallW R s args own "SignMachine$Machine" index y_M_perform b_M_perform 1 none (.code y_M_perform b_M_perform 1 none :: tb) ({ frames := 1, cells := 0, slots := 0, locals := 20 }) 0 0 0 := mk_v 0 hk k_349 hl k_348 k_11 k_117 rfl rfl h_M_perform hR

set_option maxHeartbeats 4000000 in
set_option maxRecDepth 100000 in
theorem c_S_poke_b11 (l : Launch) (K : CK) (D : va_G) (cI cJ cZ cB : ClassId) (p0 m0 m1 m2 m3 m4 : Nat) (sz : Nat) (Mx0_4 : Bool) (Mx0_5 : Int32) (Mx0_6 : Int32) (Mx0_7 : Int32) (Mx0_8 : Int32) (Mx0_9 : Int32) (Mx0_10 : Int32) (Mx0_11 : Int32) (Mx0_12 : Int32) (Mx0_13 : Int32) (My1 : Nat → Int32) (My2 : Nat → Int32) (Mx3_0 : Int32) (Mx4_0 : Int32)  (a1 : Int32) (a2 : Int32) (a3 : Int32) : Met l y_S_poke (.code y_S_poke b_S_poke 4 (some .boolean) :: tb) ({ frames := 1, cells := 0, slots := 0, locals := 22 }) (pMC K D cI cJ cZ cB ((wS54 cI cJ cZ cB p0 m0) ++ (wS51 cI cJ cZ cB m0 m1 m2 m3 m4 Mx0_4 Mx0_5 Mx0_6 Mx0_7 Mx0_8 Mx0_9 Mx0_10 Mx0_11 Mx0_12 Mx0_13 My1 My2 Mx3_0 Mx4_0)) sz [.ref p0, .int a1, .int a2, .int a3]) (va_Qi (fun r (_ : Unit) => r = (f_cpoke a1 a2 a3)) (fun _ t => ∃ W9 : va_W, isC K cI cJ cZ cB p0 W9 ∧ va_P D classes W9 t.heap ∧ va_D (va_A ((wS54 cI cJ cZ cB p0 m0) ++ (wS51 cI cJ cZ cB m0 m1 m2 m3 m4 Mx0_4 Mx0_5 Mx0_6 Mx0_7 Mx0_8 Mx0_9 Mx0_10 Mx0_11 Mx0_12 Mx0_13 My1 My2 Mx3_0 Mx4_0)) sz) W9) (va_A ((wS54 cI cJ cZ cB p0 m0) ++ (wS51 cI cJ cZ cB m0 m1 m2 m3 m4 Mx0_4 Mx0_5 Mx0_6 Mx0_7 Mx0_8 Mx0_9 Mx0_10 Mx0_11 Mx0_12 Mx0_13 My1 My2 Mx3_0 Mx4_0)) sz)) 0 0 (va_A ((wS54 cI cJ cZ cB p0 m0) ++ (wS51 cI cJ cZ cB m0 m1 m2 m3 m4 Mx0_4 Mx0_5 Mx0_6 Mx0_7 Mx0_8 Mx0_9 Mx0_10 Mx0_11 Mx0_12 Mx0_13 My1 My2 Mx3_0 Mx4_0)) sz) := by
  refine Met.ofW (cc := b_S_poke) (maxL := 4) (ret := (some .boolean)) (by decide) rfl ?_
  intro p e s m args below meth c s₁ B hml hv
  obtain ⟨rfl, hsz, hK, hP, hD0, hC⟩ := hv
  subst hsz
  have hD := hD0.self (sz := s.heap.size)
  generalize hAe : va_A ((wS54 cI cJ cZ cB p0 m0) ++ (wS51 cI cJ cZ cB m0 m1 m2 m3 m4 Mx0_4 Mx0_5 Mx0_6 Mx0_7 Mx0_8 Mx0_9 Mx0_10 Mx0_11 Mx0_12 Mx0_13 My1 My2 Mx3_0 Mx4_0)) s.heap.size = A at hD hC ⊢
  have hA : ∀ q : Nat, s.heap.size ≤ q → A q := fun q h => by rw [← hAe]; exact Or.inr h
  clear hAe hD0
  have hS : va_S A s.heap s.heap [] := va_S.rf
  have hx := B.exec
  have hb := B.bytes
  have hr := B.returns
  have hts := atoms_spec (ws := .code y_S_poke b_S_poke 4 (some .boolean) :: tb) B.pre
  have hk : ∀ w ∈ tb, w.before [.ref p0, .int a1, .int a2, .int a3].toArray s = true := fun w h => hts w (List.mem_cons_of_mem _ h)
  have hown : s.vm.findClass "SignMachine" = some m.cls := findClass_of_methodNamed B.named
  have hlocks := B.notSynchronized
  have hl := lv_entry ([.ref p0, .int a1, .int a2, .int a3]) (n := 4) (Nat.le_of_ble_eq_true rfl)
  rw [lg_entry_eq]
  generalize (lg_sl ([.ref p0, .int a1, .int a2, .int a3]) ++ List.replicate (4 - (lg_sl ([.ref p0, .int a1, .int a2, .int a3])).length) Slot.unset).toArray = ls at hl ⊢
  have hl : lv_has ls 4 [(0, .ref p0), (1, .int a1), (2, .int a2), (3, .int a3)] := hl
  refine lv_iload_n hx hb d_S_poke_0 rfl (lv_at hl 1 rfl) ?_
  refine cs_i (W.runS (As := [.int a1]) (rest := []) ⟨hx, hb, hml, hown, hk⟩ (c_M_isAddress l a1) (s_M_isAddress hk k_221 ⟨Nat.le_of_ble_eq_true rfl, Nat.le_of_ble_eq_true rfl⟩) ⟨fun a U g mk q => q, fun U hU hW => ⟨rfl, trivial⟩⟩ rfl rfl hl.1 rfl (lv_room (Nat.le_of_ble_eq_true rfl)) d_S_poke_1 ⟨Nat.le_of_ble_eq_true rfl, Nat.le_of_ble_eq_true rfl⟩) ?_
  obtain ⟨z1, hz1⟩ : ∃ y : Bool, y = (f_M_isAddress a1) := ⟨_, rfl⟩
  rw [← hz1]
  refine lv_if_eq (tgt := 15) hx hb d_S_poke_4 (by decide) (fun c2 => ?_) (fun c2 => ?_)
  · refine lv_iconst (v := 0) hx hb d_S_poke_15 (by decide) ?_
    exact W.zret (v := (0 : Int32)) hx hb hr rfl (fun t ht hW => ⟨⟨(0 : Int32), (), rfl, by unfold f_cpoke; simp only [← hz1, if_pos c2], ⟨_, isC_0, (by show va_P D classes _ t.heap; rw [ht]; exact hP), hD⟩⟩, hS.F ht⟩) hS.2.2 d_S_poke_16
  · refine lv_iload_n hx hb d_S_poke_7 rfl (lv_at hl 2 rfl) ?_
    refine lv_iload_n hx hb d_S_poke_8 rfl (lv_at hl 3 rfl) ?_
    refine cs_i (W.runS (As := [.int a2, .int a3]) (rest := []) ⟨hx, hb, hml, hown, hk⟩ (c_W_isWord l a2 a3) (s_W_isWord hk k_224 ⟨Nat.le_of_ble_eq_true rfl, Nat.le_of_ble_eq_true rfl⟩) ⟨fun a U g mk q => q, fun U hU hW => ⟨rfl, trivial⟩⟩ rfl rfl hl.1 rfl (lv_room (Nat.le_of_ble_eq_true rfl)) d_S_poke_9 ⟨Nat.le_of_ble_eq_true rfl, Nat.le_of_ble_eq_true rfl⟩) ?_
    obtain ⟨z3, hz3⟩ : ∃ y : Bool, y = (f_W_isWord a2 a3) := ⟨_, rfl⟩
    rw [← hz3]
    refine lv_if_ne (tgt := 17) hx hb d_S_poke_12 (by decide) (fun c4 => ?_) (fun c4 => ?_)
    · refine lv_aload_n hx hb d_S_poke_17 rfl (lv_at hl 0 rfl) ?_
      refine va_get (D := D) (ci := 0) (v := .ref m0) (C := "SignMachine") (T := F_S) (N := 2) hx hb hk fi_S hown hK.1 hP 0 rfl rfl 0 (by decide) (hk _ k_210) (fun _ h9 => h9) rfl d_S_poke_18 ?_
      refine lv_iload_n hx hb d_S_poke_21 rfl (lv_at hl 1 rfl) ?_
      refine lv_iload_n hx hb d_S_poke_22 rfl (lv_at hl 2 rfl) ?_
      refine lv_iload_n hx hb d_S_poke_23 rfl (lv_at hl 3 rfl) ?_
      refine cs_i (W.runS (As := [.int a2, .int a3]) (rest := [.int a1, .ref m0]) ⟨hx, hb, hml, hown, hk⟩ (c_W_make l a2 a3) (s_W_make hk k_228 ⟨Nat.le_of_ble_eq_true rfl, Nat.le_of_ble_eq_true rfl⟩) ⟨fun a U g mk q => q, fun U hU hW => ⟨rfl, trivial⟩⟩ rfl rfl hl.1 rfl (lv_room (Nat.le_of_ble_eq_true rfl)) d_S_poke_24 ⟨Nat.le_of_ble_eq_true rfl, Nat.le_of_ble_eq_true rfl⟩) ?_
      refine lv_topi (fun v5 hv5 => ?_)
      have hPc := hP.sub (ws' := (wS51 cI cJ cZ cB m0 m1 m2 m3 m4 Mx0_4 Mx0_5 Mx0_6 Mx0_7 Mx0_8 Mx0_9 Mx0_10 Mx0_11 Mx0_12 Mx0_13 My1 My2 Mx3_0 Mx4_0)) [1, 2, 3, 4, 5] rfl
      have hDc := hD.sub (ws' := (wS51 cI cJ cZ cB m0 m1 m2 m3 m4 Mx0_4 Mx0_5 Mx0_6 Mx0_7 Mx0_8 Mx0_9 Mx0_10 Mx0_11 Mx0_12 Mx0_13 My1 My2 Mx3_0 Mx4_0)) [1, 2, 3, 4, 5] (by decide) rfl
      have hFc := va_free (wc := (wS51 cI cJ cZ cB m0 m1 m2 m3 m4 Mx0_4 Mx0_5 Mx0_6 Mx0_7 Mx0_8 Mx0_9 Mx0_10 Mx0_11 Mx0_12 Mx0_13 My1 My2 Mx3_0 Mx4_0)) hD hS hA [1, 2, 3, 4, 5] rfl
      refine va_callv (va_runV (C := "SignMachine$Machine") (As := [.int a1, .int v5]) (rest := []) ⟨hx, hb, hml, hown, hk⟩ (c_M_putWord_s1 l K D cI cJ cZ cB m0 m1 m2 m3 m4 s.heap.size Mx0_4 Mx0_5 Mx0_6 Mx0_7 Mx0_8 Mx0_9 Mx0_10 Mx0_11 Mx0_12 Mx0_13 My1 My2 Mx3_0 Mx4_0 a1 v5 ) (v_M_putWord_s1 hk k_232 ⟨Nat.le_of_ble_eq_true rfl, Nat.le_of_ble_eq_true rfl⟩) (pMC_v hK hPc hDc hC hS hA (ci := 1) (q0 := 0) rfl rfl rfl) rfl rfl hl.1 rfl (lv_room (Nat.le_of_ble_eq_true rfl)) d_S_poke_27 ⟨by decide, by decide⟩) hS (fun q _ h => hFc q h) hFc (fun u t H locs ht hvm hr0 hB hz1 hk1 hS => ?_)
      obtain ⟨My1z6, hP1, hD1⟩ := hB
      rw [ht] at hP1
      obtain ⟨hP, hD⟩ := va_join (wr := (wS54 cI cJ cZ cB p0 m0)) (w1 := (wS51 cI cJ cZ cB m0 m1 m2 m3 m4 Mx0_4 Mx0_5 Mx0_6 Mx0_7 Mx0_8 Mx0_9 Mx0_10 Mx0_11 Mx0_12 Mx0_13 My1z6 My2 Mx3_0 Mx4_0)) hP hD [1, 2, 3, 4, 5] [0] rfl rfl (by decide) (by decide) hk1 hFc hP1 hD1
      have hP := hP.sub (ws' := ((wS54 cI cJ cZ cB p0 m0) ++ (wS51 cI cJ cZ cB m0 m1 m2 m3 m4 Mx0_4 Mx0_5 Mx0_6 Mx0_7 Mx0_8 Mx0_9 Mx0_10 Mx0_11 Mx0_12 Mx0_13 My1z6 My2 Mx3_0 Mx4_0))) [0, 1, 2, 3, 4, 5] rfl
      have hD := hD.sub (ws' := ((wS54 cI cJ cZ cB p0 m0) ++ (wS51 cI cJ cZ cB m0 m1 m2 m3 m4 Mx0_4 Mx0_5 Mx0_6 Mx0_7 Mx0_8 Mx0_9 Mx0_10 Mx0_11 Mx0_12 Mx0_13 My1z6 My2 Mx3_0 Mx4_0))) [0, 1, 2, 3, 4, 5] (by decide) rfl
      have hP : va_P D classes ((wS54 cI cJ cZ cB p0 m0) ++ (wS51 cI cJ cZ cB m0 m1 m2 m3 m4 Mx0_4 Mx0_5 Mx0_6 Mx0_7 Mx0_8 Mx0_9 Mx0_10 Mx0_11 Mx0_12 Mx0_13 My1z6 My2 Mx3_0 Mx4_0)) H := hP
      have hD : va_D A ((wS54 cI cJ cZ cB p0 m0) ++ (wS51 cI cJ cZ cB m0 m1 m2 m3 m4 Mx0_4 Mx0_5 Mx0_6 Mx0_7 Mx0_8 Mx0_9 Mx0_10 Mx0_11 Mx0_12 Mx0_13 My1z6 My2 Mx3_0 Mx4_0)) := hD
      clear hPc hDc hFc
      refine lv_iconst (v := 1) hx hb d_S_poke_30 (by decide) ?_
      exact W.zret (v := (1 : Int32)) hx hb hr rfl (fun t ht hW => ⟨⟨(1 : Int32), (), rfl, by unfold f_cpoke; simp only [← hz1, ← hz3, if_neg c2, if_neg c4], ⟨_, isC_0, (by show va_P D classes _ t.heap; rw [ht]; exact hP), hD⟩⟩, hS.F ht⟩) hS.2.2 d_S_poke_31
    · refine lv_iconst (v := 0) hx hb d_S_poke_15 (by decide) ?_
      exact W.zret (v := (0 : Int32)) hx hb hr rfl (fun t ht hW => ⟨⟨(0 : Int32), (), rfl, by unfold f_cpoke; simp only [← hz1, ← hz3, if_neg c2, if_pos c4], ⟨_, isC_0, (by show va_P D classes _ t.heap; rw [ht]; exact hP), hD⟩⟩, hS.F ht⟩) hS.2.2 d_S_poke_16
theorem v_S_poke_b11 {R : Room} {s : State} {args : Array Value} {own : String} {index : Nat} (hk : ∀ w ∈ tb, w.before args s = true) (hl : Cond.methodLink own index y_S_poke ∈ tb) (hR : 1 + 1 ≤ R.frames ∧ 8 + (4 + 11) + 22 ≤ R.locals) : CallW R s args own "SignMachine" index y_S_poke b_S_poke 4 (some .boolean) (.code y_S_poke b_S_poke 4 (some .boolean) :: tb) ({ frames := 1, cells := 0, slots := 0, locals := 22 }) 0 0 3 := mk_v 3 hk k_220 hl k_218 k_219 k_116 rfl rfl h_S_poke hR
set_option maxHeartbeats 4000000 in
set_option maxRecDepth 100000 in
theorem c_S_peekSign_b11 (l : Launch) (K : CK) (D : va_G) (cI cJ cZ cB : ClassId) (p0 m0 m1 m2 m3 m4 : Nat) (sz : Nat) (Mx0_4 : Bool) (Mx0_5 : Int32) (Mx0_6 : Int32) (Mx0_7 : Int32) (Mx0_8 : Int32) (Mx0_9 : Int32) (Mx0_10 : Int32) (Mx0_11 : Int32) (Mx0_12 : Int32) (Mx0_13 : Int32) (My1 : Nat → Int32) (My2 : Nat → Int32) (Mx3_0 : Int32) (Mx4_0 : Int32)  (a1 : Int32) : Met l y_S_peekSign (.code y_S_peekSign b_S_peekSign 2 (some .int) :: tb) ({ frames := 1, cells := 0, slots := 0, locals := 21 }) (pMC K D cI cJ cZ cB ((wS54 cI cJ cZ cB p0 m0) ++ (wS51 cI cJ cZ cB m0 m1 m2 m3 m4 Mx0_4 Mx0_5 Mx0_6 Mx0_7 Mx0_8 Mx0_9 Mx0_10 Mx0_11 Mx0_12 Mx0_13 My1 My2 Mx3_0 Mx4_0)) sz [.ref p0, .int a1]) (va_Qi (fun r (_ : Unit) => True) (fun _ t => ∃ W9 : va_W, isC K cI cJ cZ cB p0 W9 ∧ va_P D classes W9 t.heap ∧ va_D (va_A ((wS54 cI cJ cZ cB p0 m0) ++ (wS51 cI cJ cZ cB m0 m1 m2 m3 m4 Mx0_4 Mx0_5 Mx0_6 Mx0_7 Mx0_8 Mx0_9 Mx0_10 Mx0_11 Mx0_12 Mx0_13 My1 My2 Mx3_0 Mx4_0)) sz) W9) (va_A ((wS54 cI cJ cZ cB p0 m0) ++ (wS51 cI cJ cZ cB m0 m1 m2 m3 m4 Mx0_4 Mx0_5 Mx0_6 Mx0_7 Mx0_8 Mx0_9 Mx0_10 Mx0_11 Mx0_12 Mx0_13 My1 My2 Mx3_0 Mx4_0)) sz)) 0 0 (va_A ((wS54 cI cJ cZ cB p0 m0) ++ (wS51 cI cJ cZ cB m0 m1 m2 m3 m4 Mx0_4 Mx0_5 Mx0_6 Mx0_7 Mx0_8 Mx0_9 Mx0_10 Mx0_11 Mx0_12 Mx0_13 My1 My2 Mx3_0 Mx4_0)) sz) := by
  refine Met.ofW (cc := b_S_peekSign) (maxL := 2) (ret := (some .int)) (by decide) rfl ?_
  intro p e s m args below meth c s₁ B hml hv
  obtain ⟨rfl, hsz, hK, hP, hD0, hC⟩ := hv
  subst hsz
  have hD := hD0.self (sz := s.heap.size)
  generalize hAe : va_A ((wS54 cI cJ cZ cB p0 m0) ++ (wS51 cI cJ cZ cB m0 m1 m2 m3 m4 Mx0_4 Mx0_5 Mx0_6 Mx0_7 Mx0_8 Mx0_9 Mx0_10 Mx0_11 Mx0_12 Mx0_13 My1 My2 Mx3_0 Mx4_0)) s.heap.size = A at hD hC ⊢
  have hA : ∀ q : Nat, s.heap.size ≤ q → A q := fun q h => by rw [← hAe]; exact Or.inr h
  clear hAe hD0
  have hS : va_S A s.heap s.heap [] := va_S.rf
  have hx := B.exec
  have hb := B.bytes
  have hr := B.returns
  have hts := atoms_spec (ws := .code y_S_peekSign b_S_peekSign 2 (some .int) :: tb) B.pre
  have hk : ∀ w ∈ tb, w.before [.ref p0, .int a1].toArray s = true := fun w h => hts w (List.mem_cons_of_mem _ h)
  have hown : s.vm.findClass "SignMachine" = some m.cls := findClass_of_methodNamed B.named
  have hlocks := B.notSynchronized
  have hl := lv_entry ([.ref p0, .int a1]) (n := 2) (Nat.le_of_ble_eq_true rfl)
  rw [lg_entry_eq]
  generalize (lg_sl ([.ref p0, .int a1]) ++ List.replicate (2 - (lg_sl ([.ref p0, .int a1])).length) Slot.unset).toArray = ls at hl ⊢
  have hl : lv_has ls 2 [(0, .ref p0), (1, .int a1)] := hl
  refine lv_iload_n hx hb d_S_peekSign_0 rfl (lv_at hl 1 rfl) ?_
  refine cs_i (W.runS (As := [.int a1]) (rest := []) ⟨hx, hb, hml, hown, hk⟩ (c_M_isAddress l a1) (s_M_isAddress hk k_221 ⟨Nat.le_of_ble_eq_true rfl, Nat.le_of_ble_eq_true rfl⟩) ⟨fun a U g mk q => q, fun U hU hW => ⟨rfl, trivial⟩⟩ rfl rfl hl.1 rfl (lv_room (Nat.le_of_ble_eq_true rfl)) d_S_peekSign_1 ⟨Nat.le_of_ble_eq_true rfl, Nat.le_of_ble_eq_true rfl⟩) ?_
  obtain ⟨z1, hz1⟩ : ∃ y : Bool, y = (f_M_isAddress a1) := ⟨_, rfl⟩
  rw [← hz1]
  refine lv_if_eq (tgt := 21) hx hb d_S_peekSign_4 (by decide) (fun c2 => ?_) (fun c2 => ?_)
  · refine lv_iconst (v := (-1)) hx hb d_S_peekSign_21 (by decide) ?_
    exact W.iret (v := (-1 : Int32)) hx hb hr (fun t ht hW => ⟨⟨(-1 : Int32), (), rfl, trivial, ⟨_, isC_0, (by show va_P D classes _ t.heap; rw [ht]; exact hP), hD⟩⟩, hS.F ht⟩) hS.2.2 d_S_peekSign_22
  · refine lv_aload_n hx hb d_S_peekSign_7 rfl (lv_at hl 0 rfl) ?_
    refine va_get (D := D) (ci := 0) (v := .ref m0) (C := "SignMachine") (T := F_S) (N := 2) hx hb hk fi_S hown hK.1 hP 0 rfl rfl 0 (by decide) (hk _ k_210) (fun _ h9 => h9) rfl d_S_peekSign_8 ?_
    refine lv_iload_n hx hb d_S_peekSign_11 rfl (lv_at hl 1 rfl) ?_
    have hPc := hP.sub (ws' := (wS51 cI cJ cZ cB m0 m1 m2 m3 m4 Mx0_4 Mx0_5 Mx0_6 Mx0_7 Mx0_8 Mx0_9 Mx0_10 Mx0_11 Mx0_12 Mx0_13 My1 My2 Mx3_0 Mx4_0)) [1, 2, 3, 4, 5] rfl
    have hDc := hD.sub (ws' := (wS51 cI cJ cZ cB m0 m1 m2 m3 m4 Mx0_4 Mx0_5 Mx0_6 Mx0_7 Mx0_8 Mx0_9 Mx0_10 Mx0_11 Mx0_12 Mx0_13 My1 My2 Mx3_0 Mx4_0)) [1, 2, 3, 4, 5] (by decide) rfl
    have hFc := va_free (wc := (wS51 cI cJ cZ cB m0 m1 m2 m3 m4 Mx0_4 Mx0_5 Mx0_6 Mx0_7 Mx0_8 Mx0_9 Mx0_10 Mx0_11 Mx0_12 Mx0_13 My1 My2 Mx3_0 Mx4_0)) hD hS hA [1, 2, 3, 4, 5] rfl
    refine va_calli (va_runV (C := "SignMachine$Machine") (As := [.int a1]) (rest := []) ⟨hx, hb, hml, hown, hk⟩ (c_M_wordAt_s1 l K D cI cJ cZ cB m0 m1 m2 m3 m4 s.heap.size Mx0_4 Mx0_5 Mx0_6 Mx0_7 Mx0_8 Mx0_9 Mx0_10 Mx0_11 Mx0_12 Mx0_13 My1 My2 Mx3_0 Mx4_0 a1 ) (v_M_wordAt_s1 hk k_240 ⟨Nat.le_of_ble_eq_true rfl, Nat.le_of_ble_eq_true rfl⟩) (pMC_v hK hPc hDc hC hS hA (ci := 1) (q0 := 0) rfl rfl rfl) rfl rfl hl.1 rfl (lv_room (Nat.le_of_ble_eq_true rfl)) d_S_peekSign_12 ⟨by decide, by decide⟩) hS (fun q _ h => hFc q h) hFc (fun rz3 u t H locs ht hvm hr0 hB hz1 hk1 hS => ?_)
    obtain ⟨hP1, hD1⟩ := hB
    rw [ht] at hP1
    obtain ⟨hP, hD⟩ := va_join (wr := (wS54 cI cJ cZ cB p0 m0)) (w1 := (wS51 cI cJ cZ cB m0 m1 m2 m3 m4 Mx0_4 Mx0_5 Mx0_6 Mx0_7 Mx0_8 Mx0_9 Mx0_10 Mx0_11 Mx0_12 Mx0_13 My1 My2 Mx3_0 Mx4_0)) hP hD [1, 2, 3, 4, 5] [0] rfl rfl (by decide) (by decide) hk1 hFc hP1 hD1
    have hP := hP.sub (ws' := ((wS54 cI cJ cZ cB p0 m0) ++ (wS51 cI cJ cZ cB m0 m1 m2 m3 m4 Mx0_4 Mx0_5 Mx0_6 Mx0_7 Mx0_8 Mx0_9 Mx0_10 Mx0_11 Mx0_12 Mx0_13 My1 My2 Mx3_0 Mx4_0))) [0, 1, 2, 3, 4, 5] rfl
    have hD := hD.sub (ws' := ((wS54 cI cJ cZ cB p0 m0) ++ (wS51 cI cJ cZ cB m0 m1 m2 m3 m4 Mx0_4 Mx0_5 Mx0_6 Mx0_7 Mx0_8 Mx0_9 Mx0_10 Mx0_11 Mx0_12 Mx0_13 My1 My2 Mx3_0 Mx4_0))) [0, 1, 2, 3, 4, 5] (by decide) rfl
    have hP : va_P D classes ((wS54 cI cJ cZ cB p0 m0) ++ (wS51 cI cJ cZ cB m0 m1 m2 m3 m4 Mx0_4 Mx0_5 Mx0_6 Mx0_7 Mx0_8 Mx0_9 Mx0_10 Mx0_11 Mx0_12 Mx0_13 My1 My2 Mx3_0 Mx4_0)) H := hP
    have hD : va_D A ((wS54 cI cJ cZ cB p0 m0) ++ (wS51 cI cJ cZ cB m0 m1 m2 m3 m4 Mx0_4 Mx0_5 Mx0_6 Mx0_7 Mx0_8 Mx0_9 Mx0_10 Mx0_11 Mx0_12 Mx0_13 My1 My2 Mx3_0 Mx4_0)) := hD
    clear hPc hDc hFc
    refine cs_i (W.runS (As := [.int rz3]) (rest := []) ⟨hx, hb, hml, hown, hk⟩ (c_W_sign l rz3) (s_W_sign hk k_244 ⟨Nat.le_of_ble_eq_true rfl, Nat.le_of_ble_eq_true rfl⟩) ⟨fun a U g mk q => q, fun U hU hW => ⟨rfl, trivial⟩⟩ rfl rfl hl.1 rfl (lv_room (Nat.le_of_ble_eq_true rfl)) d_S_peekSign_15 ⟨Nat.le_of_ble_eq_true rfl, Nat.le_of_ble_eq_true rfl⟩) ?_
    refine lv_topi (fun v4 hv4 => ?_)
    refine lv_goto (tgt := 22) hx hb d_S_peekSign_18 (by decide) ?_
    exact W.iret (v := v4) hx hb hr (fun t ht hW => ⟨⟨v4, (), rfl, trivial, ⟨_, isC_0, (by show va_P D classes _ t.heap; rw [ht]; exact hP), hD⟩⟩, hS.F ht⟩) hS.2.2 d_S_peekSign_22
theorem v_S_peekSign_b11 {R : Room} {s : State} {args : Array Value} {own : String} {index : Nat} (hk : ∀ w ∈ tb, w.before args s = true) (hl : Cond.methodLink own index y_S_peekSign ∈ tb) (hR : 1 + 1 ≤ R.frames ∧ 8 + (2 + 11) + 21 ≤ R.locals) : CallW R s args own "SignMachine" index y_S_peekSign b_S_peekSign 2 (some .int) (.code y_S_peekSign b_S_peekSign 2 (some .int) :: tb) ({ frames := 1, cells := 0, slots := 0, locals := 21 }) 0 0 1 := mk_v 1 hk k_239 hl k_237 k_238 k_116 rfl rfl h_S_peekSign hR
set_option maxHeartbeats 4000000 in
set_option maxRecDepth 100000 in
theorem c_S_peekSize_b11 (l : Launch) (K : CK) (D : va_G) (cI cJ cZ cB : ClassId) (p0 m0 m1 m2 m3 m4 : Nat) (sz : Nat) (Mx0_4 : Bool) (Mx0_5 : Int32) (Mx0_6 : Int32) (Mx0_7 : Int32) (Mx0_8 : Int32) (Mx0_9 : Int32) (Mx0_10 : Int32) (Mx0_11 : Int32) (Mx0_12 : Int32) (Mx0_13 : Int32) (My1 : Nat → Int32) (My2 : Nat → Int32) (Mx3_0 : Int32) (Mx4_0 : Int32)  (a1 : Int32) : Met l y_S_peekSize (.code y_S_peekSize b_S_peekSize 2 (some .int) :: tb) ({ frames := 1, cells := 0, slots := 0, locals := 21 }) (pMC K D cI cJ cZ cB ((wS54 cI cJ cZ cB p0 m0) ++ (wS51 cI cJ cZ cB m0 m1 m2 m3 m4 Mx0_4 Mx0_5 Mx0_6 Mx0_7 Mx0_8 Mx0_9 Mx0_10 Mx0_11 Mx0_12 Mx0_13 My1 My2 Mx3_0 Mx4_0)) sz [.ref p0, .int a1]) (va_Qi (fun r (_ : Unit) => True) (fun _ t => ∃ W9 : va_W, isC K cI cJ cZ cB p0 W9 ∧ va_P D classes W9 t.heap ∧ va_D (va_A ((wS54 cI cJ cZ cB p0 m0) ++ (wS51 cI cJ cZ cB m0 m1 m2 m3 m4 Mx0_4 Mx0_5 Mx0_6 Mx0_7 Mx0_8 Mx0_9 Mx0_10 Mx0_11 Mx0_12 Mx0_13 My1 My2 Mx3_0 Mx4_0)) sz) W9) (va_A ((wS54 cI cJ cZ cB p0 m0) ++ (wS51 cI cJ cZ cB m0 m1 m2 m3 m4 Mx0_4 Mx0_5 Mx0_6 Mx0_7 Mx0_8 Mx0_9 Mx0_10 Mx0_11 Mx0_12 Mx0_13 My1 My2 Mx3_0 Mx4_0)) sz)) 0 0 (va_A ((wS54 cI cJ cZ cB p0 m0) ++ (wS51 cI cJ cZ cB m0 m1 m2 m3 m4 Mx0_4 Mx0_5 Mx0_6 Mx0_7 Mx0_8 Mx0_9 Mx0_10 Mx0_11 Mx0_12 Mx0_13 My1 My2 Mx3_0 Mx4_0)) sz) := by
  refine Met.ofW (cc := b_S_peekSize) (maxL := 2) (ret := (some .int)) (by decide) rfl ?_
  intro p e s m args below meth c s₁ B hml hv
  obtain ⟨rfl, hsz, hK, hP, hD0, hC⟩ := hv
  subst hsz
  have hD := hD0.self (sz := s.heap.size)
  generalize hAe : va_A ((wS54 cI cJ cZ cB p0 m0) ++ (wS51 cI cJ cZ cB m0 m1 m2 m3 m4 Mx0_4 Mx0_5 Mx0_6 Mx0_7 Mx0_8 Mx0_9 Mx0_10 Mx0_11 Mx0_12 Mx0_13 My1 My2 Mx3_0 Mx4_0)) s.heap.size = A at hD hC ⊢
  have hA : ∀ q : Nat, s.heap.size ≤ q → A q := fun q h => by rw [← hAe]; exact Or.inr h
  clear hAe hD0
  have hS : va_S A s.heap s.heap [] := va_S.rf
  have hx := B.exec
  have hb := B.bytes
  have hr := B.returns
  have hts := atoms_spec (ws := .code y_S_peekSize b_S_peekSize 2 (some .int) :: tb) B.pre
  have hk : ∀ w ∈ tb, w.before [.ref p0, .int a1].toArray s = true := fun w h => hts w (List.mem_cons_of_mem _ h)
  have hown : s.vm.findClass "SignMachine" = some m.cls := findClass_of_methodNamed B.named
  have hlocks := B.notSynchronized
  have hl := lv_entry ([.ref p0, .int a1]) (n := 2) (Nat.le_of_ble_eq_true rfl)
  rw [lg_entry_eq]
  generalize (lg_sl ([.ref p0, .int a1]) ++ List.replicate (2 - (lg_sl ([.ref p0, .int a1])).length) Slot.unset).toArray = ls at hl ⊢
  have hl : lv_has ls 2 [(0, .ref p0), (1, .int a1)] := hl
  refine lv_iload_n hx hb d_S_peekSize_0 rfl (lv_at hl 1 rfl) ?_
  refine cs_i (W.runS (As := [.int a1]) (rest := []) ⟨hx, hb, hml, hown, hk⟩ (c_M_isAddress l a1) (s_M_isAddress hk k_221 ⟨Nat.le_of_ble_eq_true rfl, Nat.le_of_ble_eq_true rfl⟩) ⟨fun a U g mk q => q, fun U hU hW => ⟨rfl, trivial⟩⟩ rfl rfl hl.1 rfl (lv_room (Nat.le_of_ble_eq_true rfl)) d_S_peekSize_1 ⟨Nat.le_of_ble_eq_true rfl, Nat.le_of_ble_eq_true rfl⟩) ?_
  obtain ⟨z1, hz1⟩ : ∃ y : Bool, y = (f_M_isAddress a1) := ⟨_, rfl⟩
  rw [← hz1]
  refine lv_if_eq (tgt := 21) hx hb d_S_peekSize_4 (by decide) (fun c2 => ?_) (fun c2 => ?_)
  · refine lv_iconst (v := (-1)) hx hb d_S_peekSize_21 (by decide) ?_
    exact W.iret (v := (-1 : Int32)) hx hb hr (fun t ht hW => ⟨⟨(-1 : Int32), (), rfl, trivial, ⟨_, isC_0, (by show va_P D classes _ t.heap; rw [ht]; exact hP), hD⟩⟩, hS.F ht⟩) hS.2.2 d_S_peekSize_22
  · refine lv_aload_n hx hb d_S_peekSize_7 rfl (lv_at hl 0 rfl) ?_
    refine va_get (D := D) (ci := 0) (v := .ref m0) (C := "SignMachine") (T := F_S) (N := 2) hx hb hk fi_S hown hK.1 hP 0 rfl rfl 0 (by decide) (hk _ k_210) (fun _ h9 => h9) rfl d_S_peekSize_8 ?_
    refine lv_iload_n hx hb d_S_peekSize_11 rfl (lv_at hl 1 rfl) ?_
    have hPc := hP.sub (ws' := (wS51 cI cJ cZ cB m0 m1 m2 m3 m4 Mx0_4 Mx0_5 Mx0_6 Mx0_7 Mx0_8 Mx0_9 Mx0_10 Mx0_11 Mx0_12 Mx0_13 My1 My2 Mx3_0 Mx4_0)) [1, 2, 3, 4, 5] rfl
    have hDc := hD.sub (ws' := (wS51 cI cJ cZ cB m0 m1 m2 m3 m4 Mx0_4 Mx0_5 Mx0_6 Mx0_7 Mx0_8 Mx0_9 Mx0_10 Mx0_11 Mx0_12 Mx0_13 My1 My2 Mx3_0 Mx4_0)) [1, 2, 3, 4, 5] (by decide) rfl
    have hFc := va_free (wc := (wS51 cI cJ cZ cB m0 m1 m2 m3 m4 Mx0_4 Mx0_5 Mx0_6 Mx0_7 Mx0_8 Mx0_9 Mx0_10 Mx0_11 Mx0_12 Mx0_13 My1 My2 Mx3_0 Mx4_0)) hD hS hA [1, 2, 3, 4, 5] rfl
    refine va_calli (va_runV (C := "SignMachine$Machine") (As := [.int a1]) (rest := []) ⟨hx, hb, hml, hown, hk⟩ (c_M_wordAt_s1 l K D cI cJ cZ cB m0 m1 m2 m3 m4 s.heap.size Mx0_4 Mx0_5 Mx0_6 Mx0_7 Mx0_8 Mx0_9 Mx0_10 Mx0_11 Mx0_12 Mx0_13 My1 My2 Mx3_0 Mx4_0 a1 ) (v_M_wordAt_s1 hk k_240 ⟨Nat.le_of_ble_eq_true rfl, Nat.le_of_ble_eq_true rfl⟩) (pMC_v hK hPc hDc hC hS hA (ci := 1) (q0 := 0) rfl rfl rfl) rfl rfl hl.1 rfl (lv_room (Nat.le_of_ble_eq_true rfl)) d_S_peekSize_12 ⟨by decide, by decide⟩) hS (fun q _ h => hFc q h) hFc (fun rz3 u t H locs ht hvm hr0 hB hz1 hk1 hS => ?_)
    obtain ⟨hP1, hD1⟩ := hB
    rw [ht] at hP1
    obtain ⟨hP, hD⟩ := va_join (wr := (wS54 cI cJ cZ cB p0 m0)) (w1 := (wS51 cI cJ cZ cB m0 m1 m2 m3 m4 Mx0_4 Mx0_5 Mx0_6 Mx0_7 Mx0_8 Mx0_9 Mx0_10 Mx0_11 Mx0_12 Mx0_13 My1 My2 Mx3_0 Mx4_0)) hP hD [1, 2, 3, 4, 5] [0] rfl rfl (by decide) (by decide) hk1 hFc hP1 hD1
    have hP := hP.sub (ws' := ((wS54 cI cJ cZ cB p0 m0) ++ (wS51 cI cJ cZ cB m0 m1 m2 m3 m4 Mx0_4 Mx0_5 Mx0_6 Mx0_7 Mx0_8 Mx0_9 Mx0_10 Mx0_11 Mx0_12 Mx0_13 My1 My2 Mx3_0 Mx4_0))) [0, 1, 2, 3, 4, 5] rfl
    have hD := hD.sub (ws' := ((wS54 cI cJ cZ cB p0 m0) ++ (wS51 cI cJ cZ cB m0 m1 m2 m3 m4 Mx0_4 Mx0_5 Mx0_6 Mx0_7 Mx0_8 Mx0_9 Mx0_10 Mx0_11 Mx0_12 Mx0_13 My1 My2 Mx3_0 Mx4_0))) [0, 1, 2, 3, 4, 5] (by decide) rfl
    have hP : va_P D classes ((wS54 cI cJ cZ cB p0 m0) ++ (wS51 cI cJ cZ cB m0 m1 m2 m3 m4 Mx0_4 Mx0_5 Mx0_6 Mx0_7 Mx0_8 Mx0_9 Mx0_10 Mx0_11 Mx0_12 Mx0_13 My1 My2 Mx3_0 Mx4_0)) H := hP
    have hD : va_D A ((wS54 cI cJ cZ cB p0 m0) ++ (wS51 cI cJ cZ cB m0 m1 m2 m3 m4 Mx0_4 Mx0_5 Mx0_6 Mx0_7 Mx0_8 Mx0_9 Mx0_10 Mx0_11 Mx0_12 Mx0_13 My1 My2 Mx3_0 Mx4_0)) := hD
    clear hPc hDc hFc
    refine cs_i (W.runS (As := [.int rz3]) (rest := []) ⟨hx, hb, hml, hown, hk⟩ (c_W_size l rz3) (s_W_size hk k_251 ⟨Nat.le_of_ble_eq_true rfl, Nat.le_of_ble_eq_true rfl⟩) ⟨fun a U g mk q => q, fun U hU hW => ⟨rfl, trivial⟩⟩ rfl rfl hl.1 rfl (lv_room (Nat.le_of_ble_eq_true rfl)) d_S_peekSize_15 ⟨Nat.le_of_ble_eq_true rfl, Nat.le_of_ble_eq_true rfl⟩) ?_
    refine lv_topi (fun v4 hv4 => ?_)
    refine lv_goto (tgt := 22) hx hb d_S_peekSize_18 (by decide) ?_
    exact W.iret (v := v4) hx hb hr (fun t ht hW => ⟨⟨v4, (), rfl, trivial, ⟨_, isC_0, (by show va_P D classes _ t.heap; rw [ht]; exact hP), hD⟩⟩, hS.F ht⟩) hS.2.2 d_S_peekSize_22
theorem v_S_peekSize_b11 {R : Room} {s : State} {args : Array Value} {own : String} {index : Nat} (hk : ∀ w ∈ tb, w.before args s = true) (hl : Cond.methodLink own index y_S_peekSize ∈ tb) (hR : 1 + 1 ≤ R.frames ∧ 8 + (2 + 11) + 21 ≤ R.locals) : CallW R s args own "SignMachine" index y_S_peekSize b_S_peekSize 2 (some .int) (.code y_S_peekSize b_S_peekSize 2 (some .int) :: tb) ({ frames := 1, cells := 0, slots := 0, locals := 21 }) 0 0 1 := mk_v 1 hk k_250 hl k_248 k_249 k_116 rfl rfl h_S_peekSize hR
set_option maxHeartbeats 4000000 in
set_option maxRecDepth 100000 in
theorem c_S_registerSign_b11 (l : Launch) (K : CK) (D : va_G) (cI cJ cZ cB : ClassId) (p0 m0 m1 m2 m3 m4 : Nat) (sz : Nat) (Mx0_4 : Bool) (Mx0_5 : Int32) (Mx0_6 : Int32) (Mx0_7 : Int32) (Mx0_8 : Int32) (Mx0_9 : Int32) (Mx0_10 : Int32) (Mx0_11 : Int32) (Mx0_12 : Int32) (Mx0_13 : Int32) (My1 : Nat → Int32) (My2 : Nat → Int32) (Mx3_0 : Int32) (Mx4_0 : Int32)  (a1 : Int32) : Met l y_S_registerSign (.code y_S_registerSign b_S_registerSign 2 (some .int) :: tb) ({ frames := 1, cells := 0, slots := 0, locals := 21 }) (pMC K D cI cJ cZ cB ((wS54 cI cJ cZ cB p0 m0) ++ (wS51 cI cJ cZ cB m0 m1 m2 m3 m4 Mx0_4 Mx0_5 Mx0_6 Mx0_7 Mx0_8 Mx0_9 Mx0_10 Mx0_11 Mx0_12 Mx0_13 My1 My2 Mx3_0 Mx4_0)) sz [.ref p0, .int a1]) (va_Qi (fun r (_ : Unit) => True) (fun _ t => ∃ W9 : va_W, isC K cI cJ cZ cB p0 W9 ∧ va_P D classes W9 t.heap ∧ va_D (va_A ((wS54 cI cJ cZ cB p0 m0) ++ (wS51 cI cJ cZ cB m0 m1 m2 m3 m4 Mx0_4 Mx0_5 Mx0_6 Mx0_7 Mx0_8 Mx0_9 Mx0_10 Mx0_11 Mx0_12 Mx0_13 My1 My2 Mx3_0 Mx4_0)) sz) W9) (va_A ((wS54 cI cJ cZ cB p0 m0) ++ (wS51 cI cJ cZ cB m0 m1 m2 m3 m4 Mx0_4 Mx0_5 Mx0_6 Mx0_7 Mx0_8 Mx0_9 Mx0_10 Mx0_11 Mx0_12 Mx0_13 My1 My2 Mx3_0 Mx4_0)) sz)) 0 0 (va_A ((wS54 cI cJ cZ cB p0 m0) ++ (wS51 cI cJ cZ cB m0 m1 m2 m3 m4 Mx0_4 Mx0_5 Mx0_6 Mx0_7 Mx0_8 Mx0_9 Mx0_10 Mx0_11 Mx0_12 Mx0_13 My1 My2 Mx3_0 Mx4_0)) sz) := by
  refine Met.ofW (cc := b_S_registerSign) (maxL := 2) (ret := (some .int)) (by decide) rfl ?_
  intro p e s m args below meth c s₁ B hml hv
  obtain ⟨rfl, hsz, hK, hP, hD0, hC⟩ := hv
  subst hsz
  have hD := hD0.self (sz := s.heap.size)
  generalize hAe : va_A ((wS54 cI cJ cZ cB p0 m0) ++ (wS51 cI cJ cZ cB m0 m1 m2 m3 m4 Mx0_4 Mx0_5 Mx0_6 Mx0_7 Mx0_8 Mx0_9 Mx0_10 Mx0_11 Mx0_12 Mx0_13 My1 My2 Mx3_0 Mx4_0)) s.heap.size = A at hD hC ⊢
  have hA : ∀ q : Nat, s.heap.size ≤ q → A q := fun q h => by rw [← hAe]; exact Or.inr h
  clear hAe hD0
  have hS : va_S A s.heap s.heap [] := va_S.rf
  have hx := B.exec
  have hb := B.bytes
  have hr := B.returns
  have hts := atoms_spec (ws := .code y_S_registerSign b_S_registerSign 2 (some .int) :: tb) B.pre
  have hk : ∀ w ∈ tb, w.before [.ref p0, .int a1].toArray s = true := fun w h => hts w (List.mem_cons_of_mem _ h)
  have hown : s.vm.findClass "SignMachine" = some m.cls := findClass_of_methodNamed B.named
  have hlocks := B.notSynchronized
  have hl := lv_entry ([.ref p0, .int a1]) (n := 2) (Nat.le_of_ble_eq_true rfl)
  rw [lg_entry_eq]
  generalize (lg_sl ([.ref p0, .int a1]) ++ List.replicate (2 - (lg_sl ([.ref p0, .int a1])).length) Slot.unset).toArray = ls at hl ⊢
  have hl : lv_has ls 2 [(0, .ref p0), (1, .int a1)] := hl
  refine lv_iload_n hx hb d_S_registerSign_0 rfl (lv_at hl 1 rfl) ?_
  refine cs_i (W.runS (As := [.int a1]) (rest := []) ⟨hx, hb, hml, hown, hk⟩ (c_M_isRegister l a1) (s_M_isRegister hk k_479 ⟨Nat.le_of_ble_eq_true rfl, Nat.le_of_ble_eq_true rfl⟩) ⟨fun a U g mk q => q, fun U hU hW => ⟨rfl, trivial⟩⟩ rfl rfl hl.1 rfl (lv_room (Nat.le_of_ble_eq_true rfl)) d_S_registerSign_1 ⟨Nat.le_of_ble_eq_true rfl, Nat.le_of_ble_eq_true rfl⟩) ?_
  obtain ⟨z1, hz1⟩ : ∃ y : Bool, y = (f_M_isRegister a1) := ⟨_, rfl⟩
  rw [← hz1]
  refine lv_if_eq (tgt := 21) hx hb d_S_registerSign_4 (by decide) (fun c2 => ?_) (fun c2 => ?_)
  · refine lv_iconst (v := (-1)) hx hb d_S_registerSign_21 (by decide) ?_
    exact W.iret (v := (-1 : Int32)) hx hb hr (fun t ht hW => ⟨⟨(-1 : Int32), (), rfl, trivial, ⟨_, isC_0, (by show va_P D classes _ t.heap; rw [ht]; exact hP), hD⟩⟩, hS.F ht⟩) hS.2.2 d_S_registerSign_22
  · refine lv_aload_n hx hb d_S_registerSign_7 rfl (lv_at hl 0 rfl) ?_
    refine va_get (D := D) (ci := 0) (v := .ref m0) (C := "SignMachine") (T := F_S) (N := 2) hx hb hk fi_S hown hK.1 hP 0 rfl rfl 0 (by decide) (hk _ k_210) (fun _ h9 => h9) rfl d_S_registerSign_8 ?_
    refine lv_iload_n hx hb d_S_registerSign_11 rfl (lv_at hl 1 rfl) ?_
    have hPc := hP.sub (ws' := (wS51 cI cJ cZ cB m0 m1 m2 m3 m4 Mx0_4 Mx0_5 Mx0_6 Mx0_7 Mx0_8 Mx0_9 Mx0_10 Mx0_11 Mx0_12 Mx0_13 My1 My2 Mx3_0 Mx4_0)) [1, 2, 3, 4, 5] rfl
    have hDc := hD.sub (ws' := (wS51 cI cJ cZ cB m0 m1 m2 m3 m4 Mx0_4 Mx0_5 Mx0_6 Mx0_7 Mx0_8 Mx0_9 Mx0_10 Mx0_11 Mx0_12 Mx0_13 My1 My2 Mx3_0 Mx4_0)) [1, 2, 3, 4, 5] (by decide) rfl
    have hFc := va_free (wc := (wS51 cI cJ cZ cB m0 m1 m2 m3 m4 Mx0_4 Mx0_5 Mx0_6 Mx0_7 Mx0_8 Mx0_9 Mx0_10 Mx0_11 Mx0_12 Mx0_13 My1 My2 Mx3_0 Mx4_0)) hD hS hA [1, 2, 3, 4, 5] rfl
    refine va_calli (va_runV (C := "SignMachine$Machine") (As := [.int a1]) (rest := []) ⟨hx, hb, hml, hown, hk⟩ (c_M_register_s1 l K D cI cJ cZ cB m0 m1 m2 m3 m4 s.heap.size Mx0_4 Mx0_5 Mx0_6 Mx0_7 Mx0_8 Mx0_9 Mx0_10 Mx0_11 Mx0_12 Mx0_13 My1 My2 Mx3_0 Mx4_0 a1 ) (v_M_register_s1 hk k_482 ⟨Nat.le_of_ble_eq_true rfl, Nat.le_of_ble_eq_true rfl⟩) (pMC_v hK hPc hDc hC hS hA (ci := 1) (q0 := 0) rfl rfl rfl) rfl rfl hl.1 rfl (lv_room (Nat.le_of_ble_eq_true rfl)) d_S_registerSign_12 ⟨by decide, by decide⟩) hS (fun q _ h => hFc q h) hFc (fun rz3 u t H locs ht hvm hr0 hB hz1 hk1 hS => ?_)
    obtain ⟨hP1, hD1⟩ := hB
    rw [ht] at hP1
    obtain ⟨hP, hD⟩ := va_join (wr := (wS54 cI cJ cZ cB p0 m0)) (w1 := (wS51 cI cJ cZ cB m0 m1 m2 m3 m4 Mx0_4 Mx0_5 Mx0_6 Mx0_7 Mx0_8 Mx0_9 Mx0_10 Mx0_11 Mx0_12 Mx0_13 My1 My2 Mx3_0 Mx4_0)) hP hD [1, 2, 3, 4, 5] [0] rfl rfl (by decide) (by decide) hk1 hFc hP1 hD1
    have hP := hP.sub (ws' := ((wS54 cI cJ cZ cB p0 m0) ++ (wS51 cI cJ cZ cB m0 m1 m2 m3 m4 Mx0_4 Mx0_5 Mx0_6 Mx0_7 Mx0_8 Mx0_9 Mx0_10 Mx0_11 Mx0_12 Mx0_13 My1 My2 Mx3_0 Mx4_0))) [0, 1, 2, 3, 4, 5] rfl
    have hD := hD.sub (ws' := ((wS54 cI cJ cZ cB p0 m0) ++ (wS51 cI cJ cZ cB m0 m1 m2 m3 m4 Mx0_4 Mx0_5 Mx0_6 Mx0_7 Mx0_8 Mx0_9 Mx0_10 Mx0_11 Mx0_12 Mx0_13 My1 My2 Mx3_0 Mx4_0))) [0, 1, 2, 3, 4, 5] (by decide) rfl
    have hP : va_P D classes ((wS54 cI cJ cZ cB p0 m0) ++ (wS51 cI cJ cZ cB m0 m1 m2 m3 m4 Mx0_4 Mx0_5 Mx0_6 Mx0_7 Mx0_8 Mx0_9 Mx0_10 Mx0_11 Mx0_12 Mx0_13 My1 My2 Mx3_0 Mx4_0)) H := hP
    have hD : va_D A ((wS54 cI cJ cZ cB p0 m0) ++ (wS51 cI cJ cZ cB m0 m1 m2 m3 m4 Mx0_4 Mx0_5 Mx0_6 Mx0_7 Mx0_8 Mx0_9 Mx0_10 Mx0_11 Mx0_12 Mx0_13 My1 My2 Mx3_0 Mx4_0)) := hD
    clear hPc hDc hFc
    refine cs_i (W.runS (As := [.int rz3]) (rest := []) ⟨hx, hb, hml, hown, hk⟩ (c_W_sign l rz3) (s_W_sign hk k_244 ⟨Nat.le_of_ble_eq_true rfl, Nat.le_of_ble_eq_true rfl⟩) ⟨fun a U g mk q => q, fun U hU hW => ⟨rfl, trivial⟩⟩ rfl rfl hl.1 rfl (lv_room (Nat.le_of_ble_eq_true rfl)) d_S_registerSign_15 ⟨Nat.le_of_ble_eq_true rfl, Nat.le_of_ble_eq_true rfl⟩) ?_
    refine lv_topi (fun v4 hv4 => ?_)
    refine lv_goto (tgt := 22) hx hb d_S_registerSign_18 (by decide) ?_
    exact W.iret (v := v4) hx hb hr (fun t ht hW => ⟨⟨v4, (), rfl, trivial, ⟨_, isC_0, (by show va_P D classes _ t.heap; rw [ht]; exact hP), hD⟩⟩, hS.F ht⟩) hS.2.2 d_S_registerSign_22
theorem v_S_registerSign_b11 {R : Room} {s : State} {args : Array Value} {own : String} {index : Nat} (hk : ∀ w ∈ tb, w.before args s = true) (hl : Cond.methodLink own index y_S_registerSign ∈ tb) (hR : 1 + 1 ≤ R.frames ∧ 8 + (2 + 11) + 21 ≤ R.locals) : CallW R s args own "SignMachine" index y_S_registerSign b_S_registerSign 2 (some .int) (.code y_S_registerSign b_S_registerSign 2 (some .int) :: tb) ({ frames := 1, cells := 0, slots := 0, locals := 21 }) 0 0 1 := mk_v 1 hk k_478 hl k_476 k_477 k_116 rfl rfl h_S_registerSign hR
set_option maxHeartbeats 4000000 in
set_option maxRecDepth 100000 in
theorem c_S_registerSize_b11 (l : Launch) (K : CK) (D : va_G) (cI cJ cZ cB : ClassId) (p0 m0 m1 m2 m3 m4 : Nat) (sz : Nat) (Mx0_4 : Bool) (Mx0_5 : Int32) (Mx0_6 : Int32) (Mx0_7 : Int32) (Mx0_8 : Int32) (Mx0_9 : Int32) (Mx0_10 : Int32) (Mx0_11 : Int32) (Mx0_12 : Int32) (Mx0_13 : Int32) (My1 : Nat → Int32) (My2 : Nat → Int32) (Mx3_0 : Int32) (Mx4_0 : Int32)  (a1 : Int32) : Met l y_S_registerSize (.code y_S_registerSize b_S_registerSize 2 (some .int) :: tb) ({ frames := 1, cells := 0, slots := 0, locals := 21 }) (pMC K D cI cJ cZ cB ((wS54 cI cJ cZ cB p0 m0) ++ (wS51 cI cJ cZ cB m0 m1 m2 m3 m4 Mx0_4 Mx0_5 Mx0_6 Mx0_7 Mx0_8 Mx0_9 Mx0_10 Mx0_11 Mx0_12 Mx0_13 My1 My2 Mx3_0 Mx4_0)) sz [.ref p0, .int a1]) (va_Qi (fun r (_ : Unit) => True) (fun _ t => ∃ W9 : va_W, isC K cI cJ cZ cB p0 W9 ∧ va_P D classes W9 t.heap ∧ va_D (va_A ((wS54 cI cJ cZ cB p0 m0) ++ (wS51 cI cJ cZ cB m0 m1 m2 m3 m4 Mx0_4 Mx0_5 Mx0_6 Mx0_7 Mx0_8 Mx0_9 Mx0_10 Mx0_11 Mx0_12 Mx0_13 My1 My2 Mx3_0 Mx4_0)) sz) W9) (va_A ((wS54 cI cJ cZ cB p0 m0) ++ (wS51 cI cJ cZ cB m0 m1 m2 m3 m4 Mx0_4 Mx0_5 Mx0_6 Mx0_7 Mx0_8 Mx0_9 Mx0_10 Mx0_11 Mx0_12 Mx0_13 My1 My2 Mx3_0 Mx4_0)) sz)) 0 0 (va_A ((wS54 cI cJ cZ cB p0 m0) ++ (wS51 cI cJ cZ cB m0 m1 m2 m3 m4 Mx0_4 Mx0_5 Mx0_6 Mx0_7 Mx0_8 Mx0_9 Mx0_10 Mx0_11 Mx0_12 Mx0_13 My1 My2 Mx3_0 Mx4_0)) sz) := by
  refine Met.ofW (cc := b_S_registerSize) (maxL := 2) (ret := (some .int)) (by decide) rfl ?_
  intro p e s m args below meth c s₁ B hml hv
  obtain ⟨rfl, hsz, hK, hP, hD0, hC⟩ := hv
  subst hsz
  have hD := hD0.self (sz := s.heap.size)
  generalize hAe : va_A ((wS54 cI cJ cZ cB p0 m0) ++ (wS51 cI cJ cZ cB m0 m1 m2 m3 m4 Mx0_4 Mx0_5 Mx0_6 Mx0_7 Mx0_8 Mx0_9 Mx0_10 Mx0_11 Mx0_12 Mx0_13 My1 My2 Mx3_0 Mx4_0)) s.heap.size = A at hD hC ⊢
  have hA : ∀ q : Nat, s.heap.size ≤ q → A q := fun q h => by rw [← hAe]; exact Or.inr h
  clear hAe hD0
  have hS : va_S A s.heap s.heap [] := va_S.rf
  have hx := B.exec
  have hb := B.bytes
  have hr := B.returns
  have hts := atoms_spec (ws := .code y_S_registerSize b_S_registerSize 2 (some .int) :: tb) B.pre
  have hk : ∀ w ∈ tb, w.before [.ref p0, .int a1].toArray s = true := fun w h => hts w (List.mem_cons_of_mem _ h)
  have hown : s.vm.findClass "SignMachine" = some m.cls := findClass_of_methodNamed B.named
  have hlocks := B.notSynchronized
  have hl := lv_entry ([.ref p0, .int a1]) (n := 2) (Nat.le_of_ble_eq_true rfl)
  rw [lg_entry_eq]
  generalize (lg_sl ([.ref p0, .int a1]) ++ List.replicate (2 - (lg_sl ([.ref p0, .int a1])).length) Slot.unset).toArray = ls at hl ⊢
  have hl : lv_has ls 2 [(0, .ref p0), (1, .int a1)] := hl
  refine lv_iload_n hx hb d_S_registerSize_0 rfl (lv_at hl 1 rfl) ?_
  refine cs_i (W.runS (As := [.int a1]) (rest := []) ⟨hx, hb, hml, hown, hk⟩ (c_M_isRegister l a1) (s_M_isRegister hk k_479 ⟨Nat.le_of_ble_eq_true rfl, Nat.le_of_ble_eq_true rfl⟩) ⟨fun a U g mk q => q, fun U hU hW => ⟨rfl, trivial⟩⟩ rfl rfl hl.1 rfl (lv_room (Nat.le_of_ble_eq_true rfl)) d_S_registerSize_1 ⟨Nat.le_of_ble_eq_true rfl, Nat.le_of_ble_eq_true rfl⟩) ?_
  obtain ⟨z1, hz1⟩ : ∃ y : Bool, y = (f_M_isRegister a1) := ⟨_, rfl⟩
  rw [← hz1]
  refine lv_if_eq (tgt := 21) hx hb d_S_registerSize_4 (by decide) (fun c2 => ?_) (fun c2 => ?_)
  · refine lv_iconst (v := (-1)) hx hb d_S_registerSize_21 (by decide) ?_
    exact W.iret (v := (-1 : Int32)) hx hb hr (fun t ht hW => ⟨⟨(-1 : Int32), (), rfl, trivial, ⟨_, isC_0, (by show va_P D classes _ t.heap; rw [ht]; exact hP), hD⟩⟩, hS.F ht⟩) hS.2.2 d_S_registerSize_22
  · refine lv_aload_n hx hb d_S_registerSize_7 rfl (lv_at hl 0 rfl) ?_
    refine va_get (D := D) (ci := 0) (v := .ref m0) (C := "SignMachine") (T := F_S) (N := 2) hx hb hk fi_S hown hK.1 hP 0 rfl rfl 0 (by decide) (hk _ k_210) (fun _ h9 => h9) rfl d_S_registerSize_8 ?_
    refine lv_iload_n hx hb d_S_registerSize_11 rfl (lv_at hl 1 rfl) ?_
    have hPc := hP.sub (ws' := (wS51 cI cJ cZ cB m0 m1 m2 m3 m4 Mx0_4 Mx0_5 Mx0_6 Mx0_7 Mx0_8 Mx0_9 Mx0_10 Mx0_11 Mx0_12 Mx0_13 My1 My2 Mx3_0 Mx4_0)) [1, 2, 3, 4, 5] rfl
    have hDc := hD.sub (ws' := (wS51 cI cJ cZ cB m0 m1 m2 m3 m4 Mx0_4 Mx0_5 Mx0_6 Mx0_7 Mx0_8 Mx0_9 Mx0_10 Mx0_11 Mx0_12 Mx0_13 My1 My2 Mx3_0 Mx4_0)) [1, 2, 3, 4, 5] (by decide) rfl
    have hFc := va_free (wc := (wS51 cI cJ cZ cB m0 m1 m2 m3 m4 Mx0_4 Mx0_5 Mx0_6 Mx0_7 Mx0_8 Mx0_9 Mx0_10 Mx0_11 Mx0_12 Mx0_13 My1 My2 Mx3_0 Mx4_0)) hD hS hA [1, 2, 3, 4, 5] rfl
    refine va_calli (va_runV (C := "SignMachine$Machine") (As := [.int a1]) (rest := []) ⟨hx, hb, hml, hown, hk⟩ (c_M_register_s1 l K D cI cJ cZ cB m0 m1 m2 m3 m4 s.heap.size Mx0_4 Mx0_5 Mx0_6 Mx0_7 Mx0_8 Mx0_9 Mx0_10 Mx0_11 Mx0_12 Mx0_13 My1 My2 Mx3_0 Mx4_0 a1 ) (v_M_register_s1 hk k_482 ⟨Nat.le_of_ble_eq_true rfl, Nat.le_of_ble_eq_true rfl⟩) (pMC_v hK hPc hDc hC hS hA (ci := 1) (q0 := 0) rfl rfl rfl) rfl rfl hl.1 rfl (lv_room (Nat.le_of_ble_eq_true rfl)) d_S_registerSize_12 ⟨by decide, by decide⟩) hS (fun q _ h => hFc q h) hFc (fun rz3 u t H locs ht hvm hr0 hB hz1 hk1 hS => ?_)
    obtain ⟨hP1, hD1⟩ := hB
    rw [ht] at hP1
    obtain ⟨hP, hD⟩ := va_join (wr := (wS54 cI cJ cZ cB p0 m0)) (w1 := (wS51 cI cJ cZ cB m0 m1 m2 m3 m4 Mx0_4 Mx0_5 Mx0_6 Mx0_7 Mx0_8 Mx0_9 Mx0_10 Mx0_11 Mx0_12 Mx0_13 My1 My2 Mx3_0 Mx4_0)) hP hD [1, 2, 3, 4, 5] [0] rfl rfl (by decide) (by decide) hk1 hFc hP1 hD1
    have hP := hP.sub (ws' := ((wS54 cI cJ cZ cB p0 m0) ++ (wS51 cI cJ cZ cB m0 m1 m2 m3 m4 Mx0_4 Mx0_5 Mx0_6 Mx0_7 Mx0_8 Mx0_9 Mx0_10 Mx0_11 Mx0_12 Mx0_13 My1 My2 Mx3_0 Mx4_0))) [0, 1, 2, 3, 4, 5] rfl
    have hD := hD.sub (ws' := ((wS54 cI cJ cZ cB p0 m0) ++ (wS51 cI cJ cZ cB m0 m1 m2 m3 m4 Mx0_4 Mx0_5 Mx0_6 Mx0_7 Mx0_8 Mx0_9 Mx0_10 Mx0_11 Mx0_12 Mx0_13 My1 My2 Mx3_0 Mx4_0))) [0, 1, 2, 3, 4, 5] (by decide) rfl
    have hP : va_P D classes ((wS54 cI cJ cZ cB p0 m0) ++ (wS51 cI cJ cZ cB m0 m1 m2 m3 m4 Mx0_4 Mx0_5 Mx0_6 Mx0_7 Mx0_8 Mx0_9 Mx0_10 Mx0_11 Mx0_12 Mx0_13 My1 My2 Mx3_0 Mx4_0)) H := hP
    have hD : va_D A ((wS54 cI cJ cZ cB p0 m0) ++ (wS51 cI cJ cZ cB m0 m1 m2 m3 m4 Mx0_4 Mx0_5 Mx0_6 Mx0_7 Mx0_8 Mx0_9 Mx0_10 Mx0_11 Mx0_12 Mx0_13 My1 My2 Mx3_0 Mx4_0)) := hD
    clear hPc hDc hFc
    refine cs_i (W.runS (As := [.int rz3]) (rest := []) ⟨hx, hb, hml, hown, hk⟩ (c_W_size l rz3) (s_W_size hk k_251 ⟨Nat.le_of_ble_eq_true rfl, Nat.le_of_ble_eq_true rfl⟩) ⟨fun a U g mk q => q, fun U hU hW => ⟨rfl, trivial⟩⟩ rfl rfl hl.1 rfl (lv_room (Nat.le_of_ble_eq_true rfl)) d_S_registerSize_15 ⟨Nat.le_of_ble_eq_true rfl, Nat.le_of_ble_eq_true rfl⟩) ?_
    refine lv_topi (fun v4 hv4 => ?_)
    refine lv_goto (tgt := 22) hx hb d_S_registerSize_18 (by decide) ?_
    exact W.iret (v := v4) hx hb hr (fun t ht hW => ⟨⟨v4, (), rfl, trivial, ⟨_, isC_0, (by show va_P D classes _ t.heap; rw [ht]; exact hP), hD⟩⟩, hS.F ht⟩) hS.2.2 d_S_registerSize_22
theorem v_S_registerSize_b11 {R : Room} {s : State} {args : Array Value} {own : String} {index : Nat} (hk : ∀ w ∈ tb, w.before args s = true) (hl : Cond.methodLink own index y_S_registerSize ∈ tb) (hR : 1 + 1 ≤ R.frames ∧ 8 + (2 + 11) + 21 ≤ R.locals) : CallW R s args own "SignMachine" index y_S_registerSize b_S_registerSize 2 (some .int) (.code y_S_registerSize b_S_registerSize 2 (some .int) :: tb) ({ frames := 1, cells := 0, slots := 0, locals := 21 }) 0 0 1 := mk_v 1 hk k_486 hl k_484 k_485 k_116 rfl rfl h_S_registerSize hR
set_option maxHeartbeats 4000000 in
set_option maxRecDepth 100000 in
theorem c_S_set_b11 (l : Launch) (K : CK) (D : va_G) (cI cJ cZ cB : ClassId) (p0 m0 m1 m2 m3 m4 : Nat) (sz : Nat) (Mx0_4 : Bool) (Mx0_5 : Int32) (Mx0_6 : Int32) (Mx0_7 : Int32) (Mx0_8 : Int32) (Mx0_9 : Int32) (Mx0_10 : Int32) (Mx0_11 : Int32) (Mx0_12 : Int32) (Mx0_13 : Int32) (My1 : Nat → Int32) (My2 : Nat → Int32) (Mx3_0 : Int32) (Mx4_0 : Int32)  (a1 : Int32) (a2 : Int32) (a3 : Int32) : Met l y_S_set (.code y_S_set b_S_set 4 (some .boolean) :: tb) ({ frames := 2, cells := 0, slots := 0, locals := 40 }) (pMC K D cI cJ cZ cB ((wS54 cI cJ cZ cB p0 m0) ++ (wS51 cI cJ cZ cB m0 m1 m2 m3 m4 Mx0_4 Mx0_5 Mx0_6 Mx0_7 Mx0_8 Mx0_9 Mx0_10 Mx0_11 Mx0_12 Mx0_13 My1 My2 Mx3_0 Mx4_0)) sz [.ref p0, .int a1, .int a2, .int a3]) (va_Qi (fun r (_ : Unit) => r = (f_cset a1 a2 a3)) (fun _ t => ∃ W9 : va_W, isC K cI cJ cZ cB p0 W9 ∧ va_P D classes W9 t.heap ∧ va_D (va_A ((wS54 cI cJ cZ cB p0 m0) ++ (wS51 cI cJ cZ cB m0 m1 m2 m3 m4 Mx0_4 Mx0_5 Mx0_6 Mx0_7 Mx0_8 Mx0_9 Mx0_10 Mx0_11 Mx0_12 Mx0_13 My1 My2 Mx3_0 Mx4_0)) sz) W9) (va_A ((wS54 cI cJ cZ cB p0 m0) ++ (wS51 cI cJ cZ cB m0 m1 m2 m3 m4 Mx0_4 Mx0_5 Mx0_6 Mx0_7 Mx0_8 Mx0_9 Mx0_10 Mx0_11 Mx0_12 Mx0_13 My1 My2 Mx3_0 Mx4_0)) sz)) 0 0 (va_A ((wS54 cI cJ cZ cB p0 m0) ++ (wS51 cI cJ cZ cB m0 m1 m2 m3 m4 Mx0_4 Mx0_5 Mx0_6 Mx0_7 Mx0_8 Mx0_9 Mx0_10 Mx0_11 Mx0_12 Mx0_13 My1 My2 Mx3_0 Mx4_0)) sz) := by
  refine Met.ofW (cc := b_S_set) (maxL := 4) (ret := (some .boolean)) (by decide) rfl ?_
  intro p e s m args below meth c s₁ B hml hv
  obtain ⟨rfl, hsz, hK, hP, hD0, hC⟩ := hv
  subst hsz
  have hD := hD0.self (sz := s.heap.size)
  generalize hAe : va_A ((wS54 cI cJ cZ cB p0 m0) ++ (wS51 cI cJ cZ cB m0 m1 m2 m3 m4 Mx0_4 Mx0_5 Mx0_6 Mx0_7 Mx0_8 Mx0_9 Mx0_10 Mx0_11 Mx0_12 Mx0_13 My1 My2 Mx3_0 Mx4_0)) s.heap.size = A at hD hC ⊢
  have hA : ∀ q : Nat, s.heap.size ≤ q → A q := fun q h => by rw [← hAe]; exact Or.inr h
  clear hAe hD0
  have hS : va_S A s.heap s.heap [] := va_S.rf
  have hx := B.exec
  have hb := B.bytes
  have hr := B.returns
  have hts := atoms_spec (ws := .code y_S_set b_S_set 4 (some .boolean) :: tb) B.pre
  have hk : ∀ w ∈ tb, w.before [.ref p0, .int a1, .int a2, .int a3].toArray s = true := fun w h => hts w (List.mem_cons_of_mem _ h)
  have hown : s.vm.findClass "SignMachine" = some m.cls := findClass_of_methodNamed B.named
  have hlocks := B.notSynchronized
  have hl := lv_entry ([.ref p0, .int a1, .int a2, .int a3]) (n := 4) (Nat.le_of_ble_eq_true rfl)
  rw [lg_entry_eq]
  generalize (lg_sl ([.ref p0, .int a1, .int a2, .int a3]) ++ List.replicate (4 - (lg_sl ([.ref p0, .int a1, .int a2, .int a3])).length) Slot.unset).toArray = ls at hl ⊢
  have hl : lv_has ls 4 [(0, .ref p0), (1, .int a1), (2, .int a2), (3, .int a3)] := hl
  refine lv_iload_n hx hb d_S_set_0 rfl (lv_at hl 1 rfl) ?_
  refine cs_i (W.runS (As := [.int a1]) (rest := []) ⟨hx, hb, hml, hown, hk⟩ (c_M_isRegister l a1) (s_M_isRegister hk k_479 ⟨Nat.le_of_ble_eq_true rfl, Nat.le_of_ble_eq_true rfl⟩) ⟨fun a U g mk q => q, fun U hU hW => ⟨rfl, trivial⟩⟩ rfl rfl hl.1 rfl (lv_room (Nat.le_of_ble_eq_true rfl)) d_S_set_1 ⟨Nat.le_of_ble_eq_true rfl, Nat.le_of_ble_eq_true rfl⟩) ?_
  obtain ⟨z1, hz1⟩ : ∃ y : Bool, y = (f_M_isRegister a1) := ⟨_, rfl⟩
  rw [← hz1]
  refine lv_if_eq (tgt := 15) hx hb d_S_set_4 (by decide) (fun c2 => ?_) (fun c2 => ?_)
  · refine lv_iconst (v := 0) hx hb d_S_set_15 (by decide) ?_
    exact W.zret (v := (0 : Int32)) hx hb hr rfl (fun t ht hW => ⟨⟨(0 : Int32), (), rfl, by unfold f_cset; simp only [← hz1, if_pos c2], ⟨_, isC_0, (by show va_P D classes _ t.heap; rw [ht]; exact hP), hD⟩⟩, hS.F ht⟩) hS.2.2 d_S_set_16
  · refine lv_iload_n hx hb d_S_set_7 rfl (lv_at hl 2 rfl) ?_
    refine lv_iload_n hx hb d_S_set_8 rfl (lv_at hl 3 rfl) ?_
    refine cs_i (W.runS (As := [.int a2, .int a3]) (rest := []) ⟨hx, hb, hml, hown, hk⟩ (c_W_isWord l a2 a3) (s_W_isWord hk k_224 ⟨Nat.le_of_ble_eq_true rfl, Nat.le_of_ble_eq_true rfl⟩) ⟨fun a U g mk q => q, fun U hU hW => ⟨rfl, trivial⟩⟩ rfl rfl hl.1 rfl (lv_room (Nat.le_of_ble_eq_true rfl)) d_S_set_9 ⟨Nat.le_of_ble_eq_true rfl, Nat.le_of_ble_eq_true rfl⟩) ?_
    obtain ⟨z3, hz3⟩ : ∃ y : Bool, y = (f_W_isWord a2 a3) := ⟨_, rfl⟩
    rw [← hz3]
    refine lv_if_ne (tgt := 17) hx hb d_S_set_12 (by decide) (fun c4 => ?_) (fun c4 => ?_)
    · refine lv_iload_n hx hb d_S_set_17 rfl (lv_at hl 1 rfl) ?_
      refine cs_i (W.runS (As := [.int a1]) (rest := []) ⟨hx, hb, hml, hown, hk⟩ (c_M_isShort l a1) (s_M_isShort hk k_491 ⟨Nat.le_of_ble_eq_true rfl, Nat.le_of_ble_eq_true rfl⟩) ⟨fun a U g mk q => q, fun U hU hW => ⟨rfl, trivial⟩⟩ rfl rfl hl.1 rfl (lv_room (Nat.le_of_ble_eq_true rfl)) d_S_set_18 ⟨Nat.le_of_ble_eq_true rfl, Nat.le_of_ble_eq_true rfl⟩) ?_
      obtain ⟨z5, hz5⟩ : ∃ y : Bool, y = (f_M_isShort a1) := ⟨_, rfl⟩
      rw [← hz5]
      refine lv_if_eq (tgt := 33) hx hb d_S_set_21 (by decide) (fun c6 => ?_) (fun c6 => ?_)
      · refine lv_iload_n hx hb d_S_set_33 rfl (lv_at hl 1 rfl) ?_
        refine lv_bipush (v := 8) hx hb d_S_set_34 (by decide) ?_
        refine lv_icmp_ne (tgt := 45) hx hb d_S_set_36 (by decide) (fun c7 => ?_) (fun c7 => ?_)
        · refine lv_aload_n hx hb d_S_set_45 rfl (lv_at hl 0 rfl) ?_
          refine va_get (D := D) (ci := 0) (v := .ref m0) (C := "SignMachine") (T := F_S) (N := 2) hx hb hk fi_S hown hK.1 hP 0 rfl rfl 0 (by decide) (hk _ k_210) (fun _ h9 => h9) rfl d_S_set_46 ?_
          refine lv_iload_n hx hb d_S_set_49 rfl (lv_at hl 1 rfl) ?_
          refine lv_iload_n hx hb d_S_set_50 rfl (lv_at hl 2 rfl) ?_
          refine lv_iload_n hx hb d_S_set_51 rfl (lv_at hl 3 rfl) ?_
          refine cs_i (W.runS (As := [.int a2, .int a3]) (rest := [.int a1, .ref m0]) ⟨hx, hb, hml, hown, hk⟩ (c_W_make l a2 a3) (s_W_make hk k_228 ⟨Nat.le_of_ble_eq_true rfl, Nat.le_of_ble_eq_true rfl⟩) ⟨fun a U g mk q => q, fun U hU hW => ⟨rfl, trivial⟩⟩ rfl rfl hl.1 rfl (lv_room (Nat.le_of_ble_eq_true rfl)) d_S_set_52 ⟨Nat.le_of_ble_eq_true rfl, Nat.le_of_ble_eq_true rfl⟩) ?_
          refine lv_topi (fun v8 hv8 => ?_)
          have hPc := hP.sub (ws' := (wS51 cI cJ cZ cB m0 m1 m2 m3 m4 Mx0_4 Mx0_5 Mx0_6 Mx0_7 Mx0_8 Mx0_9 Mx0_10 Mx0_11 Mx0_12 Mx0_13 My1 My2 Mx3_0 Mx4_0)) [1, 2, 3, 4, 5] rfl
          have hDc := hD.sub (ws' := (wS51 cI cJ cZ cB m0 m1 m2 m3 m4 Mx0_4 Mx0_5 Mx0_6 Mx0_7 Mx0_8 Mx0_9 Mx0_10 Mx0_11 Mx0_12 Mx0_13 My1 My2 Mx3_0 Mx4_0)) [1, 2, 3, 4, 5] (by decide) rfl
          have hFc := va_free (wc := (wS51 cI cJ cZ cB m0 m1 m2 m3 m4 Mx0_4 Mx0_5 Mx0_6 Mx0_7 Mx0_8 Mx0_9 Mx0_10 Mx0_11 Mx0_12 Mx0_13 My1 My2 Mx3_0 Mx4_0)) hD hS hA [1, 2, 3, 4, 5] rfl
          refine va_callv (va_runV (C := "SignMachine$Machine") (As := [.int a1, .int v8]) (rest := []) ⟨hx, hb, hml, hown, hk⟩ (c_M_putRegister_s1 l K D cI cJ cZ cB m0 m1 m2 m3 m4 s.heap.size Mx0_4 Mx0_5 Mx0_6 Mx0_7 Mx0_8 Mx0_9 Mx0_10 Mx0_11 Mx0_12 Mx0_13 My1 My2 Mx3_0 Mx4_0 a1 v8 ) (v_M_putRegister_s1 hk k_494 ⟨Nat.le_of_ble_eq_true rfl, Nat.le_of_ble_eq_true rfl⟩) (pMC_v hK hPc hDc hC hS hA (ci := 1) (q0 := 0) rfl rfl rfl) rfl rfl hl.1 rfl (lv_room (Nat.le_of_ble_eq_true rfl)) d_S_set_55 ⟨by decide, by decide⟩) hS (fun q _ h => hFc q h) hFc (fun u t H locs ht hvm hr0 hB hz1 hk1 hS => ?_)
          obtain ⟨My2z9, hP1, hD1⟩ := hB
          rw [ht] at hP1
          obtain ⟨hP, hD⟩ := va_join (wr := (wS54 cI cJ cZ cB p0 m0)) (w1 := (wS51 cI cJ cZ cB m0 m1 m2 m3 m4 Mx0_4 Mx0_5 Mx0_6 Mx0_7 Mx0_8 Mx0_9 Mx0_10 Mx0_11 Mx0_12 Mx0_13 My1 My2z9 Mx3_0 Mx4_0)) hP hD [1, 2, 3, 4, 5] [0] rfl rfl (by decide) (by decide) hk1 hFc hP1 hD1
          have hP := hP.sub (ws' := ((wS54 cI cJ cZ cB p0 m0) ++ (wS51 cI cJ cZ cB m0 m1 m2 m3 m4 Mx0_4 Mx0_5 Mx0_6 Mx0_7 Mx0_8 Mx0_9 Mx0_10 Mx0_11 Mx0_12 Mx0_13 My1 My2z9 Mx3_0 Mx4_0))) [0, 1, 2, 3, 4, 5] rfl
          have hD := hD.sub (ws' := ((wS54 cI cJ cZ cB p0 m0) ++ (wS51 cI cJ cZ cB m0 m1 m2 m3 m4 Mx0_4 Mx0_5 Mx0_6 Mx0_7 Mx0_8 Mx0_9 Mx0_10 Mx0_11 Mx0_12 Mx0_13 My1 My2z9 Mx3_0 Mx4_0))) [0, 1, 2, 3, 4, 5] (by decide) rfl
          have hP : va_P D classes ((wS54 cI cJ cZ cB p0 m0) ++ (wS51 cI cJ cZ cB m0 m1 m2 m3 m4 Mx0_4 Mx0_5 Mx0_6 Mx0_7 Mx0_8 Mx0_9 Mx0_10 Mx0_11 Mx0_12 Mx0_13 My1 My2z9 Mx3_0 Mx4_0)) H := hP
          have hD : va_D A ((wS54 cI cJ cZ cB p0 m0) ++ (wS51 cI cJ cZ cB m0 m1 m2 m3 m4 Mx0_4 Mx0_5 Mx0_6 Mx0_7 Mx0_8 Mx0_9 Mx0_10 Mx0_11 Mx0_12 Mx0_13 My1 My2z9 Mx3_0 Mx4_0)) := hD
          clear hPc hDc hFc
          refine lv_iconst (v := 1) hx hb d_S_set_58 (by decide) ?_
          exact W.zret (v := (1 : Int32)) hx hb hr rfl (fun t ht hW => ⟨⟨(1 : Int32), (), rfl, by unfold f_cset; simp only [← hz1, ← hz3, ← hz5, if_neg c2, if_neg c4, if_pos c6, if_neg c7], ⟨_, isC_0, (by show va_P D classes _ t.heap; rw [ht]; exact hP), hD⟩⟩, hS.F ht⟩) hS.2.2 d_S_set_59
        · refine lv_iload_n hx hb d_S_set_39 rfl (lv_at hl 2 rfl) ?_
          refine lv_if_eq (tgt := 45) hx hb d_S_set_40 (by decide) (fun c10 => ?_) (fun c10 => ?_)
          · refine lv_aload_n hx hb d_S_set_45 rfl (lv_at hl 0 rfl) ?_
            refine va_get (D := D) (ci := 0) (v := .ref m0) (C := "SignMachine") (T := F_S) (N := 2) hx hb hk fi_S hown hK.1 hP 0 rfl rfl 0 (by decide) (hk _ k_210) (fun _ h9 => h9) rfl d_S_set_46 ?_
            refine lv_iload_n hx hb d_S_set_49 rfl (lv_at hl 1 rfl) ?_
            refine lv_iload_n hx hb d_S_set_50 rfl (lv_at hl 2 rfl) ?_
            refine lv_iload_n hx hb d_S_set_51 rfl (lv_at hl 3 rfl) ?_
            refine cs_i (W.runS (As := [.int a2, .int a3]) (rest := [.int a1, .ref m0]) ⟨hx, hb, hml, hown, hk⟩ (c_W_make l a2 a3) (s_W_make hk k_228 ⟨Nat.le_of_ble_eq_true rfl, Nat.le_of_ble_eq_true rfl⟩) ⟨fun a U g mk q => q, fun U hU hW => ⟨rfl, trivial⟩⟩ rfl rfl hl.1 rfl (lv_room (Nat.le_of_ble_eq_true rfl)) d_S_set_52 ⟨Nat.le_of_ble_eq_true rfl, Nat.le_of_ble_eq_true rfl⟩) ?_
            refine lv_topi (fun v11 hv11 => ?_)
            have hPc := hP.sub (ws' := (wS51 cI cJ cZ cB m0 m1 m2 m3 m4 Mx0_4 Mx0_5 Mx0_6 Mx0_7 Mx0_8 Mx0_9 Mx0_10 Mx0_11 Mx0_12 Mx0_13 My1 My2 Mx3_0 Mx4_0)) [1, 2, 3, 4, 5] rfl
            have hDc := hD.sub (ws' := (wS51 cI cJ cZ cB m0 m1 m2 m3 m4 Mx0_4 Mx0_5 Mx0_6 Mx0_7 Mx0_8 Mx0_9 Mx0_10 Mx0_11 Mx0_12 Mx0_13 My1 My2 Mx3_0 Mx4_0)) [1, 2, 3, 4, 5] (by decide) rfl
            have hFc := va_free (wc := (wS51 cI cJ cZ cB m0 m1 m2 m3 m4 Mx0_4 Mx0_5 Mx0_6 Mx0_7 Mx0_8 Mx0_9 Mx0_10 Mx0_11 Mx0_12 Mx0_13 My1 My2 Mx3_0 Mx4_0)) hD hS hA [1, 2, 3, 4, 5] rfl
            refine va_callv (va_runV (C := "SignMachine$Machine") (As := [.int a1, .int v11]) (rest := []) ⟨hx, hb, hml, hown, hk⟩ (c_M_putRegister_s1 l K D cI cJ cZ cB m0 m1 m2 m3 m4 s.heap.size Mx0_4 Mx0_5 Mx0_6 Mx0_7 Mx0_8 Mx0_9 Mx0_10 Mx0_11 Mx0_12 Mx0_13 My1 My2 Mx3_0 Mx4_0 a1 v11 ) (v_M_putRegister_s1 hk k_494 ⟨Nat.le_of_ble_eq_true rfl, Nat.le_of_ble_eq_true rfl⟩) (pMC_v hK hPc hDc hC hS hA (ci := 1) (q0 := 0) rfl rfl rfl) rfl rfl hl.1 rfl (lv_room (Nat.le_of_ble_eq_true rfl)) d_S_set_55 ⟨by decide, by decide⟩) hS (fun q _ h => hFc q h) hFc (fun u t H locs ht hvm hr0 hB hz1 hk1 hS => ?_)
            obtain ⟨My2z12, hP1, hD1⟩ := hB
            rw [ht] at hP1
            obtain ⟨hP, hD⟩ := va_join (wr := (wS54 cI cJ cZ cB p0 m0)) (w1 := (wS51 cI cJ cZ cB m0 m1 m2 m3 m4 Mx0_4 Mx0_5 Mx0_6 Mx0_7 Mx0_8 Mx0_9 Mx0_10 Mx0_11 Mx0_12 Mx0_13 My1 My2z12 Mx3_0 Mx4_0)) hP hD [1, 2, 3, 4, 5] [0] rfl rfl (by decide) (by decide) hk1 hFc hP1 hD1
            have hP := hP.sub (ws' := ((wS54 cI cJ cZ cB p0 m0) ++ (wS51 cI cJ cZ cB m0 m1 m2 m3 m4 Mx0_4 Mx0_5 Mx0_6 Mx0_7 Mx0_8 Mx0_9 Mx0_10 Mx0_11 Mx0_12 Mx0_13 My1 My2z12 Mx3_0 Mx4_0))) [0, 1, 2, 3, 4, 5] rfl
            have hD := hD.sub (ws' := ((wS54 cI cJ cZ cB p0 m0) ++ (wS51 cI cJ cZ cB m0 m1 m2 m3 m4 Mx0_4 Mx0_5 Mx0_6 Mx0_7 Mx0_8 Mx0_9 Mx0_10 Mx0_11 Mx0_12 Mx0_13 My1 My2z12 Mx3_0 Mx4_0))) [0, 1, 2, 3, 4, 5] (by decide) rfl
            have hP : va_P D classes ((wS54 cI cJ cZ cB p0 m0) ++ (wS51 cI cJ cZ cB m0 m1 m2 m3 m4 Mx0_4 Mx0_5 Mx0_6 Mx0_7 Mx0_8 Mx0_9 Mx0_10 Mx0_11 Mx0_12 Mx0_13 My1 My2z12 Mx3_0 Mx4_0)) H := hP
            have hD : va_D A ((wS54 cI cJ cZ cB p0 m0) ++ (wS51 cI cJ cZ cB m0 m1 m2 m3 m4 Mx0_4 Mx0_5 Mx0_6 Mx0_7 Mx0_8 Mx0_9 Mx0_10 Mx0_11 Mx0_12 Mx0_13 My1 My2z12 Mx3_0 Mx4_0)) := hD
            clear hPc hDc hFc
            refine lv_iconst (v := 1) hx hb d_S_set_58 (by decide) ?_
            exact W.zret (v := (1 : Int32)) hx hb hr rfl (fun t ht hW => ⟨⟨(1 : Int32), (), rfl, by unfold f_cset; simp only [← hz1, ← hz3, ← hz5, if_neg c2, if_neg c4, if_pos c6, if_pos c7, if_pos c10], ⟨_, isC_0, (by show va_P D classes _ t.heap; rw [ht]; exact hP), hD⟩⟩, hS.F ht⟩) hS.2.2 d_S_set_59
          · refine lv_iconst (v := 0) hx hb d_S_set_43 (by decide) ?_
            exact W.zret (v := (0 : Int32)) hx hb hr rfl (fun t ht hW => ⟨⟨(0 : Int32), (), rfl, by unfold f_cset; simp only [← hz1, ← hz3, ← hz5, if_neg c2, if_neg c4, if_pos c6, if_pos c7, if_neg c10], ⟨_, isC_0, (by show va_P D classes _ t.heap; rw [ht]; exact hP), hD⟩⟩, hS.F ht⟩) hS.2.2 d_S_set_44
      · refine lv_iload_n hx hb d_S_set_24 rfl (lv_at hl 3 rfl) ?_
        refine lv_sipush (v := 4095) hx hb d_S_set_25 (by decide) ?_
        refine lv_icmp_le (tgt := 33) hx hb d_S_set_28 (by decide) (fun c13 => ?_) (fun c13 => ?_)
        · refine lv_iload_n hx hb d_S_set_33 rfl (lv_at hl 1 rfl) ?_
          refine lv_bipush (v := 8) hx hb d_S_set_34 (by decide) ?_
          refine lv_icmp_ne (tgt := 45) hx hb d_S_set_36 (by decide) (fun c14 => ?_) (fun c14 => ?_)
          · refine lv_aload_n hx hb d_S_set_45 rfl (lv_at hl 0 rfl) ?_
            refine va_get (D := D) (ci := 0) (v := .ref m0) (C := "SignMachine") (T := F_S) (N := 2) hx hb hk fi_S hown hK.1 hP 0 rfl rfl 0 (by decide) (hk _ k_210) (fun _ h9 => h9) rfl d_S_set_46 ?_
            refine lv_iload_n hx hb d_S_set_49 rfl (lv_at hl 1 rfl) ?_
            refine lv_iload_n hx hb d_S_set_50 rfl (lv_at hl 2 rfl) ?_
            refine lv_iload_n hx hb d_S_set_51 rfl (lv_at hl 3 rfl) ?_
            refine cs_i (W.runS (As := [.int a2, .int a3]) (rest := [.int a1, .ref m0]) ⟨hx, hb, hml, hown, hk⟩ (c_W_make l a2 a3) (s_W_make hk k_228 ⟨Nat.le_of_ble_eq_true rfl, Nat.le_of_ble_eq_true rfl⟩) ⟨fun a U g mk q => q, fun U hU hW => ⟨rfl, trivial⟩⟩ rfl rfl hl.1 rfl (lv_room (Nat.le_of_ble_eq_true rfl)) d_S_set_52 ⟨Nat.le_of_ble_eq_true rfl, Nat.le_of_ble_eq_true rfl⟩) ?_
            refine lv_topi (fun v15 hv15 => ?_)
            have hPc := hP.sub (ws' := (wS51 cI cJ cZ cB m0 m1 m2 m3 m4 Mx0_4 Mx0_5 Mx0_6 Mx0_7 Mx0_8 Mx0_9 Mx0_10 Mx0_11 Mx0_12 Mx0_13 My1 My2 Mx3_0 Mx4_0)) [1, 2, 3, 4, 5] rfl
            have hDc := hD.sub (ws' := (wS51 cI cJ cZ cB m0 m1 m2 m3 m4 Mx0_4 Mx0_5 Mx0_6 Mx0_7 Mx0_8 Mx0_9 Mx0_10 Mx0_11 Mx0_12 Mx0_13 My1 My2 Mx3_0 Mx4_0)) [1, 2, 3, 4, 5] (by decide) rfl
            have hFc := va_free (wc := (wS51 cI cJ cZ cB m0 m1 m2 m3 m4 Mx0_4 Mx0_5 Mx0_6 Mx0_7 Mx0_8 Mx0_9 Mx0_10 Mx0_11 Mx0_12 Mx0_13 My1 My2 Mx3_0 Mx4_0)) hD hS hA [1, 2, 3, 4, 5] rfl
            refine va_callv (va_runV (C := "SignMachine$Machine") (As := [.int a1, .int v15]) (rest := []) ⟨hx, hb, hml, hown, hk⟩ (c_M_putRegister_s1 l K D cI cJ cZ cB m0 m1 m2 m3 m4 s.heap.size Mx0_4 Mx0_5 Mx0_6 Mx0_7 Mx0_8 Mx0_9 Mx0_10 Mx0_11 Mx0_12 Mx0_13 My1 My2 Mx3_0 Mx4_0 a1 v15 ) (v_M_putRegister_s1 hk k_494 ⟨Nat.le_of_ble_eq_true rfl, Nat.le_of_ble_eq_true rfl⟩) (pMC_v hK hPc hDc hC hS hA (ci := 1) (q0 := 0) rfl rfl rfl) rfl rfl hl.1 rfl (lv_room (Nat.le_of_ble_eq_true rfl)) d_S_set_55 ⟨by decide, by decide⟩) hS (fun q _ h => hFc q h) hFc (fun u t H locs ht hvm hr0 hB hz1 hk1 hS => ?_)
            obtain ⟨My2z16, hP1, hD1⟩ := hB
            rw [ht] at hP1
            obtain ⟨hP, hD⟩ := va_join (wr := (wS54 cI cJ cZ cB p0 m0)) (w1 := (wS51 cI cJ cZ cB m0 m1 m2 m3 m4 Mx0_4 Mx0_5 Mx0_6 Mx0_7 Mx0_8 Mx0_9 Mx0_10 Mx0_11 Mx0_12 Mx0_13 My1 My2z16 Mx3_0 Mx4_0)) hP hD [1, 2, 3, 4, 5] [0] rfl rfl (by decide) (by decide) hk1 hFc hP1 hD1
            have hP := hP.sub (ws' := ((wS54 cI cJ cZ cB p0 m0) ++ (wS51 cI cJ cZ cB m0 m1 m2 m3 m4 Mx0_4 Mx0_5 Mx0_6 Mx0_7 Mx0_8 Mx0_9 Mx0_10 Mx0_11 Mx0_12 Mx0_13 My1 My2z16 Mx3_0 Mx4_0))) [0, 1, 2, 3, 4, 5] rfl
            have hD := hD.sub (ws' := ((wS54 cI cJ cZ cB p0 m0) ++ (wS51 cI cJ cZ cB m0 m1 m2 m3 m4 Mx0_4 Mx0_5 Mx0_6 Mx0_7 Mx0_8 Mx0_9 Mx0_10 Mx0_11 Mx0_12 Mx0_13 My1 My2z16 Mx3_0 Mx4_0))) [0, 1, 2, 3, 4, 5] (by decide) rfl
            have hP : va_P D classes ((wS54 cI cJ cZ cB p0 m0) ++ (wS51 cI cJ cZ cB m0 m1 m2 m3 m4 Mx0_4 Mx0_5 Mx0_6 Mx0_7 Mx0_8 Mx0_9 Mx0_10 Mx0_11 Mx0_12 Mx0_13 My1 My2z16 Mx3_0 Mx4_0)) H := hP
            have hD : va_D A ((wS54 cI cJ cZ cB p0 m0) ++ (wS51 cI cJ cZ cB m0 m1 m2 m3 m4 Mx0_4 Mx0_5 Mx0_6 Mx0_7 Mx0_8 Mx0_9 Mx0_10 Mx0_11 Mx0_12 Mx0_13 My1 My2z16 Mx3_0 Mx4_0)) := hD
            clear hPc hDc hFc
            refine lv_iconst (v := 1) hx hb d_S_set_58 (by decide) ?_
            exact W.zret (v := (1 : Int32)) hx hb hr rfl (fun t ht hW => ⟨⟨(1 : Int32), (), rfl, by unfold f_cset; simp only [← hz1, ← hz3, ← hz5, if_neg c2, if_neg c4, if_neg c6, if_pos c13, if_neg c14], ⟨_, isC_0, (by show va_P D classes _ t.heap; rw [ht]; exact hP), hD⟩⟩, hS.F ht⟩) hS.2.2 d_S_set_59
          · refine lv_iload_n hx hb d_S_set_39 rfl (lv_at hl 2 rfl) ?_
            refine lv_if_eq (tgt := 45) hx hb d_S_set_40 (by decide) (fun c17 => ?_) (fun c17 => ?_)
            · refine lv_aload_n hx hb d_S_set_45 rfl (lv_at hl 0 rfl) ?_
              refine va_get (D := D) (ci := 0) (v := .ref m0) (C := "SignMachine") (T := F_S) (N := 2) hx hb hk fi_S hown hK.1 hP 0 rfl rfl 0 (by decide) (hk _ k_210) (fun _ h9 => h9) rfl d_S_set_46 ?_
              refine lv_iload_n hx hb d_S_set_49 rfl (lv_at hl 1 rfl) ?_
              refine lv_iload_n hx hb d_S_set_50 rfl (lv_at hl 2 rfl) ?_
              refine lv_iload_n hx hb d_S_set_51 rfl (lv_at hl 3 rfl) ?_
              refine cs_i (W.runS (As := [.int a2, .int a3]) (rest := [.int a1, .ref m0]) ⟨hx, hb, hml, hown, hk⟩ (c_W_make l a2 a3) (s_W_make hk k_228 ⟨Nat.le_of_ble_eq_true rfl, Nat.le_of_ble_eq_true rfl⟩) ⟨fun a U g mk q => q, fun U hU hW => ⟨rfl, trivial⟩⟩ rfl rfl hl.1 rfl (lv_room (Nat.le_of_ble_eq_true rfl)) d_S_set_52 ⟨Nat.le_of_ble_eq_true rfl, Nat.le_of_ble_eq_true rfl⟩) ?_
              refine lv_topi (fun v18 hv18 => ?_)
              have hPc := hP.sub (ws' := (wS51 cI cJ cZ cB m0 m1 m2 m3 m4 Mx0_4 Mx0_5 Mx0_6 Mx0_7 Mx0_8 Mx0_9 Mx0_10 Mx0_11 Mx0_12 Mx0_13 My1 My2 Mx3_0 Mx4_0)) [1, 2, 3, 4, 5] rfl
              have hDc := hD.sub (ws' := (wS51 cI cJ cZ cB m0 m1 m2 m3 m4 Mx0_4 Mx0_5 Mx0_6 Mx0_7 Mx0_8 Mx0_9 Mx0_10 Mx0_11 Mx0_12 Mx0_13 My1 My2 Mx3_0 Mx4_0)) [1, 2, 3, 4, 5] (by decide) rfl
              have hFc := va_free (wc := (wS51 cI cJ cZ cB m0 m1 m2 m3 m4 Mx0_4 Mx0_5 Mx0_6 Mx0_7 Mx0_8 Mx0_9 Mx0_10 Mx0_11 Mx0_12 Mx0_13 My1 My2 Mx3_0 Mx4_0)) hD hS hA [1, 2, 3, 4, 5] rfl
              refine va_callv (va_runV (C := "SignMachine$Machine") (As := [.int a1, .int v18]) (rest := []) ⟨hx, hb, hml, hown, hk⟩ (c_M_putRegister_s1 l K D cI cJ cZ cB m0 m1 m2 m3 m4 s.heap.size Mx0_4 Mx0_5 Mx0_6 Mx0_7 Mx0_8 Mx0_9 Mx0_10 Mx0_11 Mx0_12 Mx0_13 My1 My2 Mx3_0 Mx4_0 a1 v18 ) (v_M_putRegister_s1 hk k_494 ⟨Nat.le_of_ble_eq_true rfl, Nat.le_of_ble_eq_true rfl⟩) (pMC_v hK hPc hDc hC hS hA (ci := 1) (q0 := 0) rfl rfl rfl) rfl rfl hl.1 rfl (lv_room (Nat.le_of_ble_eq_true rfl)) d_S_set_55 ⟨by decide, by decide⟩) hS (fun q _ h => hFc q h) hFc (fun u t H locs ht hvm hr0 hB hz1 hk1 hS => ?_)
              obtain ⟨My2z19, hP1, hD1⟩ := hB
              rw [ht] at hP1
              obtain ⟨hP, hD⟩ := va_join (wr := (wS54 cI cJ cZ cB p0 m0)) (w1 := (wS51 cI cJ cZ cB m0 m1 m2 m3 m4 Mx0_4 Mx0_5 Mx0_6 Mx0_7 Mx0_8 Mx0_9 Mx0_10 Mx0_11 Mx0_12 Mx0_13 My1 My2z19 Mx3_0 Mx4_0)) hP hD [1, 2, 3, 4, 5] [0] rfl rfl (by decide) (by decide) hk1 hFc hP1 hD1
              have hP := hP.sub (ws' := ((wS54 cI cJ cZ cB p0 m0) ++ (wS51 cI cJ cZ cB m0 m1 m2 m3 m4 Mx0_4 Mx0_5 Mx0_6 Mx0_7 Mx0_8 Mx0_9 Mx0_10 Mx0_11 Mx0_12 Mx0_13 My1 My2z19 Mx3_0 Mx4_0))) [0, 1, 2, 3, 4, 5] rfl
              have hD := hD.sub (ws' := ((wS54 cI cJ cZ cB p0 m0) ++ (wS51 cI cJ cZ cB m0 m1 m2 m3 m4 Mx0_4 Mx0_5 Mx0_6 Mx0_7 Mx0_8 Mx0_9 Mx0_10 Mx0_11 Mx0_12 Mx0_13 My1 My2z19 Mx3_0 Mx4_0))) [0, 1, 2, 3, 4, 5] (by decide) rfl
              have hP : va_P D classes ((wS54 cI cJ cZ cB p0 m0) ++ (wS51 cI cJ cZ cB m0 m1 m2 m3 m4 Mx0_4 Mx0_5 Mx0_6 Mx0_7 Mx0_8 Mx0_9 Mx0_10 Mx0_11 Mx0_12 Mx0_13 My1 My2z19 Mx3_0 Mx4_0)) H := hP
              have hD : va_D A ((wS54 cI cJ cZ cB p0 m0) ++ (wS51 cI cJ cZ cB m0 m1 m2 m3 m4 Mx0_4 Mx0_5 Mx0_6 Mx0_7 Mx0_8 Mx0_9 Mx0_10 Mx0_11 Mx0_12 Mx0_13 My1 My2z19 Mx3_0 Mx4_0)) := hD
              clear hPc hDc hFc
              refine lv_iconst (v := 1) hx hb d_S_set_58 (by decide) ?_
              exact W.zret (v := (1 : Int32)) hx hb hr rfl (fun t ht hW => ⟨⟨(1 : Int32), (), rfl, by unfold f_cset; simp only [← hz1, ← hz3, ← hz5, if_neg c2, if_neg c4, if_neg c6, if_pos c13, if_pos c14, if_pos c17], ⟨_, isC_0, (by show va_P D classes _ t.heap; rw [ht]; exact hP), hD⟩⟩, hS.F ht⟩) hS.2.2 d_S_set_59
            · refine lv_iconst (v := 0) hx hb d_S_set_43 (by decide) ?_
              exact W.zret (v := (0 : Int32)) hx hb hr rfl (fun t ht hW => ⟨⟨(0 : Int32), (), rfl, by unfold f_cset; simp only [← hz1, ← hz3, ← hz5, if_neg c2, if_neg c4, if_neg c6, if_pos c13, if_pos c14, if_neg c17], ⟨_, isC_0, (by show va_P D classes _ t.heap; rw [ht]; exact hP), hD⟩⟩, hS.F ht⟩) hS.2.2 d_S_set_44
        · refine lv_iconst (v := 0) hx hb d_S_set_31 (by decide) ?_
          exact W.zret (v := (0 : Int32)) hx hb hr rfl (fun t ht hW => ⟨⟨(0 : Int32), (), rfl, by unfold f_cset; simp only [← hz1, ← hz3, ← hz5, if_neg c2, if_neg c4, if_neg c6, if_neg c13], ⟨_, isC_0, (by show va_P D classes _ t.heap; rw [ht]; exact hP), hD⟩⟩, hS.F ht⟩) hS.2.2 d_S_set_32
    · refine lv_iconst (v := 0) hx hb d_S_set_15 (by decide) ?_
      exact W.zret (v := (0 : Int32)) hx hb hr rfl (fun t ht hW => ⟨⟨(0 : Int32), (), rfl, by unfold f_cset; simp only [← hz1, ← hz3, if_neg c2, if_pos c4], ⟨_, isC_0, (by show va_P D classes _ t.heap; rw [ht]; exact hP), hD⟩⟩, hS.F ht⟩) hS.2.2 d_S_set_16
theorem v_S_set_b11 {R : Room} {s : State} {args : Array Value} {own : String} {index : Nat} (hk : ∀ w ∈ tb, w.before args s = true) (hl : Cond.methodLink own index y_S_set ∈ tb) (hR : 2 + 1 ≤ R.frames ∧ 8 + (4 + 11) + 40 ≤ R.locals) : CallW R s args own "SignMachine" index y_S_set b_S_set 4 (some .boolean) (.code y_S_set b_S_set 4 (some .boolean) :: tb) ({ frames := 2, cells := 0, slots := 0, locals := 40 }) 0 0 3 := mk_v 3 hk k_490 hl k_488 k_489 k_116 rfl rfl h_S_set hR
set_option maxHeartbeats 4000000 in
set_option maxRecDepth 100000 in
theorem c_S_state_b11 (l : Launch) (K : CK) (D : va_G) (cI cJ cZ cB : ClassId) (p0 m0 m1 m2 m3 m4 : Nat) (sz : Nat) (Mx0_4 : Bool) (Mx0_5 : Int32) (Mx0_6 : Int32) (Mx0_7 : Int32) (Mx0_8 : Int32) (Mx0_9 : Int32) (Mx0_10 : Int32) (Mx0_11 : Int32) (Mx0_12 : Int32) (Mx0_13 : Int32) (My1 : Nat → Int32) (My2 : Nat → Int32) (Mx3_0 : Int32) (Mx4_0 : Int32)  (a1 : Int32) : Met l y_S_state (.code y_S_state b_S_state 2 (some .int) :: tb) ({ frames := 1, cells := 0, slots := 0, locals := 21 }) (pMC K D cI cJ cZ cB ((wS54 cI cJ cZ cB p0 m0) ++ (wS51 cI cJ cZ cB m0 m1 m2 m3 m4 Mx0_4 Mx0_5 Mx0_6 Mx0_7 Mx0_8 Mx0_9 Mx0_10 Mx0_11 Mx0_12 Mx0_13 My1 My2 Mx3_0 Mx4_0)) sz [.ref p0, .int a1]) (va_Qi (fun r (_ : Unit) => True) (fun _ t => ∃ W9 : va_W, isC K cI cJ cZ cB p0 W9 ∧ va_P D classes W9 t.heap ∧ va_D (va_A ((wS54 cI cJ cZ cB p0 m0) ++ (wS51 cI cJ cZ cB m0 m1 m2 m3 m4 Mx0_4 Mx0_5 Mx0_6 Mx0_7 Mx0_8 Mx0_9 Mx0_10 Mx0_11 Mx0_12 Mx0_13 My1 My2 Mx3_0 Mx4_0)) sz) W9) (va_A ((wS54 cI cJ cZ cB p0 m0) ++ (wS51 cI cJ cZ cB m0 m1 m2 m3 m4 Mx0_4 Mx0_5 Mx0_6 Mx0_7 Mx0_8 Mx0_9 Mx0_10 Mx0_11 Mx0_12 Mx0_13 My1 My2 Mx3_0 Mx4_0)) sz)) 0 0 (va_A ((wS54 cI cJ cZ cB p0 m0) ++ (wS51 cI cJ cZ cB m0 m1 m2 m3 m4 Mx0_4 Mx0_5 Mx0_6 Mx0_7 Mx0_8 Mx0_9 Mx0_10 Mx0_11 Mx0_12 Mx0_13 My1 My2 Mx3_0 Mx4_0)) sz) := by
  refine Met.ofW (cc := b_S_state) (maxL := 2) (ret := (some .int)) (by decide) rfl ?_
  intro p e s m args below meth c s₁ B hml hv
  obtain ⟨rfl, hsz, hK, hP, hD0, hC⟩ := hv
  subst hsz
  have hD := hD0.self (sz := s.heap.size)
  generalize hAe : va_A ((wS54 cI cJ cZ cB p0 m0) ++ (wS51 cI cJ cZ cB m0 m1 m2 m3 m4 Mx0_4 Mx0_5 Mx0_6 Mx0_7 Mx0_8 Mx0_9 Mx0_10 Mx0_11 Mx0_12 Mx0_13 My1 My2 Mx3_0 Mx4_0)) s.heap.size = A at hD hC ⊢
  have hA : ∀ q : Nat, s.heap.size ≤ q → A q := fun q h => by rw [← hAe]; exact Or.inr h
  clear hAe hD0
  have hS : va_S A s.heap s.heap [] := va_S.rf
  have hx := B.exec
  have hb := B.bytes
  have hr := B.returns
  have hts := atoms_spec (ws := .code y_S_state b_S_state 2 (some .int) :: tb) B.pre
  have hk : ∀ w ∈ tb, w.before [.ref p0, .int a1].toArray s = true := fun w h => hts w (List.mem_cons_of_mem _ h)
  have hown : s.vm.findClass "SignMachine" = some m.cls := findClass_of_methodNamed B.named
  have hlocks := B.notSynchronized
  have hl := lv_entry ([.ref p0, .int a1]) (n := 2) (Nat.le_of_ble_eq_true rfl)
  rw [lg_entry_eq]
  generalize (lg_sl ([.ref p0, .int a1]) ++ List.replicate (2 - (lg_sl ([.ref p0, .int a1])).length) Slot.unset).toArray = ls at hl ⊢
  have hl : lv_has ls 2 [(0, .ref p0), (1, .int a1)] := hl
  refine lv_iload_n hx hb d_S_state_0 rfl (lv_at hl 1 rfl) ?_
  by_cases c1 : a1 = (0 : Int32)
  · refine lv_tableIn (off := 43) (tgt := 44) hx hb d_S_state_1 (by rw [c1]; decide) (by rw [c1]; decide) (by rw [c1]; rfl) (by decide) ?_
    refine lv_aload_n hx hb d_S_state_44 rfl (lv_at hl 0 rfl) ?_
    refine va_get (D := D) (ci := 0) (v := .ref m0) (C := "SignMachine") (T := F_S) (N := 2) hx hb hk fi_S hown hK.1 hP 0 rfl rfl 0 (by decide) (hk _ k_210) (fun _ h9 => h9) rfl d_S_state_45 ?_
    refine va_getN (D := D) (ci := 1) (v := .int Mx0_7) (C := "SignMachine$Machine") (T := F_M) (N := 14) hx hb hk fi_M hown hK.1 hP 1 rfl rfl 7 (by decide) (va_Nw.use rfl (hK.2 _ n_173)) (fun _ h9 => h9) rfl d_S_state_48 ?_
    exact W.iret (v := Mx0_7) hx hb hr (fun t ht hW => ⟨⟨Mx0_7, (), rfl, trivial, ⟨_, isC_0, (by show va_P D classes _ t.heap; rw [ht]; exact hP), hD⟩⟩, hS.F ht⟩) hS.2.2 d_S_state_51
  · by_cases c2 : a1 = (1 : Int32)
    · refine lv_tableIn (off := 51) (tgt := 52) hx hb d_S_state_1 (by rw [c2]; decide) (by rw [c2]; decide) (by rw [c2]; rfl) (by decide) ?_
      refine lv_aload_n hx hb d_S_state_52 rfl (lv_at hl 0 rfl) ?_
      refine va_get (D := D) (ci := 0) (v := .ref m0) (C := "SignMachine") (T := F_S) (N := 2) hx hb hk fi_S hown hK.1 hP 0 rfl rfl 0 (by decide) (hk _ k_210) (fun _ h9 => h9) rfl d_S_state_53 ?_
      refine va_getN (D := D) (ci := 1) (v := .int (bI Mx0_4)) (C := "SignMachine$Machine") (T := F_M) (N := 14) hx hb hk fi_M hown hK.1 hP 1 rfl rfl 4 (by decide) (va_Nw.use rfl (hK.2 _ n_167)) (fun _ h9 => h9) rfl d_S_state_56 ?_
      refine lv_if_eq (tgt := 66) hx hb d_S_state_59 (by decide) (fun c3 => ?_) (fun c3 => ?_)
      · refine lv_iconst (v := 0) hx hb d_S_state_66 (by decide) ?_
        exact W.iret (v := (0 : Int32)) hx hb hr (fun t ht hW => ⟨⟨(0 : Int32), (), rfl, trivial, ⟨_, isC_0, (by show va_P D classes _ t.heap; rw [ht]; exact hP), hD⟩⟩, hS.F ht⟩) hS.2.2 d_S_state_67
      · refine lv_iconst (v := 1) hx hb d_S_state_62 (by decide) ?_
        refine lv_goto (tgt := 67) hx hb d_S_state_63 (by decide) ?_
        exact W.iret (v := (1 : Int32)) hx hb hr (fun t ht hW => ⟨⟨(1 : Int32), (), rfl, trivial, ⟨_, isC_0, (by show va_P D classes _ t.heap; rw [ht]; exact hP), hD⟩⟩, hS.F ht⟩) hS.2.2 d_S_state_67
    · by_cases c4 : a1 = (2 : Int32)
      · refine lv_tableIn (off := 67) (tgt := 68) hx hb d_S_state_1 (by rw [c4]; decide) (by rw [c4]; decide) (by rw [c4]; rfl) (by decide) ?_
        refine lv_aload_n hx hb d_S_state_68 rfl (lv_at hl 0 rfl) ?_
        refine va_get (D := D) (ci := 0) (v := .ref m0) (C := "SignMachine") (T := F_S) (N := 2) hx hb hk fi_S hown hK.1 hP 0 rfl rfl 0 (by decide) (hk _ k_210) (fun _ h9 => h9) rfl d_S_state_69 ?_
        refine va_getN (D := D) (ci := 1) (v := .int Mx0_5) (C := "SignMachine$Machine") (T := F_M) (N := 14) hx hb hk fi_M hown hK.1 hP 1 rfl rfl 5 (by decide) (va_Nw.use rfl (hK.2 _ n_169)) (fun _ h9 => h9) rfl d_S_state_72 ?_
        exact W.iret (v := Mx0_5) hx hb hr (fun t ht hW => ⟨⟨Mx0_5, (), rfl, trivial, ⟨_, isC_0, (by show va_P D classes _ t.heap; rw [ht]; exact hP), hD⟩⟩, hS.F ht⟩) hS.2.2 d_S_state_75
      · by_cases c5 : a1 = (3 : Int32)
        · refine lv_tableIn (off := 75) (tgt := 76) hx hb d_S_state_1 (by rw [c5]; decide) (by rw [c5]; decide) (by rw [c5]; rfl) (by decide) ?_
          refine lv_aload_n hx hb d_S_state_76 rfl (lv_at hl 0 rfl) ?_
          refine va_get (D := D) (ci := 0) (v := .ref m0) (C := "SignMachine") (T := F_S) (N := 2) hx hb hk fi_S hown hK.1 hP 0 rfl rfl 0 (by decide) (hk _ k_210) (fun _ h9 => h9) rfl d_S_state_77 ?_
          refine va_getN (D := D) (ci := 1) (v := .int Mx0_6) (C := "SignMachine$Machine") (T := F_M) (N := 14) hx hb hk fi_M hown hK.1 hP 1 rfl rfl 6 (by decide) (va_Nw.use rfl (hK.2 _ n_171)) (fun _ h9 => h9) rfl d_S_state_80 ?_
          exact W.iret (v := Mx0_6) hx hb hr (fun t ht hW => ⟨⟨Mx0_6, (), rfl, trivial, ⟨_, isC_0, (by show va_P D classes _ t.heap; rw [ht]; exact hP), hD⟩⟩, hS.F ht⟩) hS.2.2 d_S_state_83
        · by_cases c6 : a1 = (4 : Int32)
          · refine lv_tableIn (off := 83) (tgt := 84) hx hb d_S_state_1 (by rw [c6]; decide) (by rw [c6]; decide) (by rw [c6]; rfl) (by decide) ?_
            refine lv_aload_n hx hb d_S_state_84 rfl (lv_at hl 0 rfl) ?_
            refine va_get (D := D) (ci := 0) (v := .ref m0) (C := "SignMachine") (T := F_S) (N := 2) hx hb hk fi_S hown hK.1 hP 0 rfl rfl 0 (by decide) (hk _ k_210) (fun _ h9 => h9) rfl d_S_state_85 ?_
            refine lv_iconst (v := 0) hx hb d_S_state_88 (by decide) ?_
            have hPc := hP.sub (ws' := (wS51 cI cJ cZ cB m0 m1 m2 m3 m4 Mx0_4 Mx0_5 Mx0_6 Mx0_7 Mx0_8 Mx0_9 Mx0_10 Mx0_11 Mx0_12 Mx0_13 My1 My2 Mx3_0 Mx4_0)) [1, 2, 3, 4, 5] rfl
            have hDc := hD.sub (ws' := (wS51 cI cJ cZ cB m0 m1 m2 m3 m4 Mx0_4 Mx0_5 Mx0_6 Mx0_7 Mx0_8 Mx0_9 Mx0_10 Mx0_11 Mx0_12 Mx0_13 My1 My2 Mx3_0 Mx4_0)) [1, 2, 3, 4, 5] (by decide) rfl
            have hFc := va_free (wc := (wS51 cI cJ cZ cB m0 m1 m2 m3 m4 Mx0_4 Mx0_5 Mx0_6 Mx0_7 Mx0_8 Mx0_9 Mx0_10 Mx0_11 Mx0_12 Mx0_13 My1 My2 Mx3_0 Mx4_0)) hD hS hA [1, 2, 3, 4, 5] rfl
            refine va_callq (va_runV (C := "SignMachine$Machine") (As := [.int (0 : Int32)]) (rest := []) ⟨hx, hb, hml, hown, hk⟩ (c_M_unit_s1 l K D cI cJ cZ cB m0 m1 m2 m3 m4 s.heap.size Mx0_4 Mx0_5 Mx0_6 Mx0_7 Mx0_8 Mx0_9 Mx0_10 Mx0_11 Mx0_12 Mx0_13 My1 My2 Mx3_0 Mx4_0 (0 : Int32) ) (v_M_unit_s1 hk k_499 ⟨Nat.le_of_ble_eq_true rfl, Nat.le_of_ble_eq_true rfl⟩) (pMC_v hK hPc hDc hC hS hA (ci := 1) (q0 := 0) rfl rfl rfl) rfl rfl hl.1 rfl (lv_room (Nat.le_of_ble_eq_true rfl)) d_S_state_89 ⟨by decide, by decide⟩) hS (fun q _ h => hFc q h) hFc (fun rz7 u t H locs ht hvm hr0 hB hz1 hk1 hS => ?_)
            obtain ⟨hP1, hD1⟩ := hB
            rw [ht] at hP1
            obtain ⟨hP, hD⟩ := va_join (wr := (wS54 cI cJ cZ cB p0 m0)) (w1 := (wS51 cI cJ cZ cB m0 m1 m2 m3 m4 Mx0_4 Mx0_5 Mx0_6 Mx0_7 Mx0_8 Mx0_9 Mx0_10 Mx0_11 Mx0_12 Mx0_13 My1 My2 Mx3_0 Mx4_0)) hP hD [1, 2, 3, 4, 5] [0] rfl rfl (by decide) (by decide) hk1 hFc hP1 hD1
            have hP := hP.sub (ws' := ((wS54 cI cJ cZ cB p0 m0) ++ (wS51 cI cJ cZ cB m0 m1 m2 m3 m4 Mx0_4 Mx0_5 Mx0_6 Mx0_7 Mx0_8 Mx0_9 Mx0_10 Mx0_11 Mx0_12 Mx0_13 My1 My2 Mx3_0 Mx4_0))) [0, 1, 2, 3, 4, 5] rfl
            have hD := hD.sub (ws' := ((wS54 cI cJ cZ cB p0 m0) ++ (wS51 cI cJ cZ cB m0 m1 m2 m3 m4 Mx0_4 Mx0_5 Mx0_6 Mx0_7 Mx0_8 Mx0_9 Mx0_10 Mx0_11 Mx0_12 Mx0_13 My1 My2 Mx3_0 Mx4_0))) [0, 1, 2, 3, 4, 5] (by decide) rfl
            have hP : va_P D classes ((wS54 cI cJ cZ cB p0 m0) ++ (wS51 cI cJ cZ cB m0 m1 m2 m3 m4 Mx0_4 Mx0_5 Mx0_6 Mx0_7 Mx0_8 Mx0_9 Mx0_10 Mx0_11 Mx0_12 Mx0_13 My1 My2 Mx3_0 Mx4_0)) H := hP
            have hD : va_D A ((wS54 cI cJ cZ cB p0 m0) ++ (wS51 cI cJ cZ cB m0 m1 m2 m3 m4 Mx0_4 Mx0_5 Mx0_6 Mx0_7 Mx0_8 Mx0_9 Mx0_10 Mx0_11 Mx0_12 Mx0_13 My1 My2 Mx3_0 Mx4_0)) := hD
            clear hPc hDc hFc
            rcases hr0 with hr0 | hr0
            · subst hr0
              refine W.eq (g2 := F0 m 92 ls [.ref m3]) rfl ?_
              refine va_getN (D := D) (ci := 2) (v := .int Mx3_0) (C := "SignMachine$Tape") (T := F_T) (N := 2) hx hb hk fi_T hown hK.1 hP 4 rfl rfl 0 (by decide) (va_Nw.use rfl (hK.2 _ n_154)) (fun _ h9 => h9) rfl d_S_state_92 ?_
              exact W.iret (v := Mx3_0) hx hb hr (fun t ht hW => ⟨⟨Mx3_0, (), rfl, trivial, ⟨_, isC_0, (by show va_P D classes _ t.heap; rw [ht]; exact hP), hD⟩⟩, hS.F ht⟩) hS.2.2 d_S_state_95
            · subst hr0
              refine W.eq (g2 := F0 m 92 ls [.ref m4]) rfl ?_
              refine va_getN (D := D) (ci := 2) (v := .int Mx4_0) (C := "SignMachine$Tape") (T := F_T) (N := 2) hx hb hk fi_T hown hK.1 hP 5 rfl rfl 0 (by decide) (va_Nw.use rfl (hK.2 _ n_154)) (fun _ h9 => h9) rfl d_S_state_92 ?_
              exact W.iret (v := Mx4_0) hx hb hr (fun t ht hW => ⟨⟨Mx4_0, (), rfl, trivial, ⟨_, isC_0, (by show va_P D classes _ t.heap; rw [ht]; exact hP), hD⟩⟩, hS.F ht⟩) hS.2.2 d_S_state_95
          · by_cases c8 : a1 = (5 : Int32)
            · refine lv_tableIn (off := 95) (tgt := 96) hx hb d_S_state_1 (by rw [c8]; decide) (by rw [c8]; decide) (by rw [c8]; rfl) (by decide) ?_
              refine lv_aload_n hx hb d_S_state_96 rfl (lv_at hl 0 rfl) ?_
              refine va_get (D := D) (ci := 0) (v := .ref m0) (C := "SignMachine") (T := F_S) (N := 2) hx hb hk fi_S hown hK.1 hP 0 rfl rfl 0 (by decide) (hk _ k_210) (fun _ h9 => h9) rfl d_S_state_97 ?_
              refine lv_iconst (v := 1) hx hb d_S_state_100 (by decide) ?_
              have hPc := hP.sub (ws' := (wS51 cI cJ cZ cB m0 m1 m2 m3 m4 Mx0_4 Mx0_5 Mx0_6 Mx0_7 Mx0_8 Mx0_9 Mx0_10 Mx0_11 Mx0_12 Mx0_13 My1 My2 Mx3_0 Mx4_0)) [1, 2, 3, 4, 5] rfl
              have hDc := hD.sub (ws' := (wS51 cI cJ cZ cB m0 m1 m2 m3 m4 Mx0_4 Mx0_5 Mx0_6 Mx0_7 Mx0_8 Mx0_9 Mx0_10 Mx0_11 Mx0_12 Mx0_13 My1 My2 Mx3_0 Mx4_0)) [1, 2, 3, 4, 5] (by decide) rfl
              have hFc := va_free (wc := (wS51 cI cJ cZ cB m0 m1 m2 m3 m4 Mx0_4 Mx0_5 Mx0_6 Mx0_7 Mx0_8 Mx0_9 Mx0_10 Mx0_11 Mx0_12 Mx0_13 My1 My2 Mx3_0 Mx4_0)) hD hS hA [1, 2, 3, 4, 5] rfl
              refine va_callq (va_runV (C := "SignMachine$Machine") (As := [.int (1 : Int32)]) (rest := []) ⟨hx, hb, hml, hown, hk⟩ (c_M_unit_s1 l K D cI cJ cZ cB m0 m1 m2 m3 m4 s.heap.size Mx0_4 Mx0_5 Mx0_6 Mx0_7 Mx0_8 Mx0_9 Mx0_10 Mx0_11 Mx0_12 Mx0_13 My1 My2 Mx3_0 Mx4_0 (1 : Int32) ) (v_M_unit_s1 hk k_499 ⟨Nat.le_of_ble_eq_true rfl, Nat.le_of_ble_eq_true rfl⟩) (pMC_v hK hPc hDc hC hS hA (ci := 1) (q0 := 0) rfl rfl rfl) rfl rfl hl.1 rfl (lv_room (Nat.le_of_ble_eq_true rfl)) d_S_state_101 ⟨by decide, by decide⟩) hS (fun q _ h => hFc q h) hFc (fun rz9 u t H locs ht hvm hr0 hB hz1 hk1 hS => ?_)
              obtain ⟨hP1, hD1⟩ := hB
              rw [ht] at hP1
              obtain ⟨hP, hD⟩ := va_join (wr := (wS54 cI cJ cZ cB p0 m0)) (w1 := (wS51 cI cJ cZ cB m0 m1 m2 m3 m4 Mx0_4 Mx0_5 Mx0_6 Mx0_7 Mx0_8 Mx0_9 Mx0_10 Mx0_11 Mx0_12 Mx0_13 My1 My2 Mx3_0 Mx4_0)) hP hD [1, 2, 3, 4, 5] [0] rfl rfl (by decide) (by decide) hk1 hFc hP1 hD1
              have hP := hP.sub (ws' := ((wS54 cI cJ cZ cB p0 m0) ++ (wS51 cI cJ cZ cB m0 m1 m2 m3 m4 Mx0_4 Mx0_5 Mx0_6 Mx0_7 Mx0_8 Mx0_9 Mx0_10 Mx0_11 Mx0_12 Mx0_13 My1 My2 Mx3_0 Mx4_0))) [0, 1, 2, 3, 4, 5] rfl
              have hD := hD.sub (ws' := ((wS54 cI cJ cZ cB p0 m0) ++ (wS51 cI cJ cZ cB m0 m1 m2 m3 m4 Mx0_4 Mx0_5 Mx0_6 Mx0_7 Mx0_8 Mx0_9 Mx0_10 Mx0_11 Mx0_12 Mx0_13 My1 My2 Mx3_0 Mx4_0))) [0, 1, 2, 3, 4, 5] (by decide) rfl
              have hP : va_P D classes ((wS54 cI cJ cZ cB p0 m0) ++ (wS51 cI cJ cZ cB m0 m1 m2 m3 m4 Mx0_4 Mx0_5 Mx0_6 Mx0_7 Mx0_8 Mx0_9 Mx0_10 Mx0_11 Mx0_12 Mx0_13 My1 My2 Mx3_0 Mx4_0)) H := hP
              have hD : va_D A ((wS54 cI cJ cZ cB p0 m0) ++ (wS51 cI cJ cZ cB m0 m1 m2 m3 m4 Mx0_4 Mx0_5 Mx0_6 Mx0_7 Mx0_8 Mx0_9 Mx0_10 Mx0_11 Mx0_12 Mx0_13 My1 My2 Mx3_0 Mx4_0)) := hD
              clear hPc hDc hFc
              rcases hr0 with hr0 | hr0
              · subst hr0
                refine W.eq (g2 := F0 m 104 ls [.ref m3]) rfl ?_
                refine va_getN (D := D) (ci := 2) (v := .int Mx3_0) (C := "SignMachine$Tape") (T := F_T) (N := 2) hx hb hk fi_T hown hK.1 hP 4 rfl rfl 0 (by decide) (va_Nw.use rfl (hK.2 _ n_154)) (fun _ h9 => h9) rfl d_S_state_104 ?_
                exact W.iret (v := Mx3_0) hx hb hr (fun t ht hW => ⟨⟨Mx3_0, (), rfl, trivial, ⟨_, isC_0, (by show va_P D classes _ t.heap; rw [ht]; exact hP), hD⟩⟩, hS.F ht⟩) hS.2.2 d_S_state_107
              · subst hr0
                refine W.eq (g2 := F0 m 104 ls [.ref m4]) rfl ?_
                refine va_getN (D := D) (ci := 2) (v := .int Mx4_0) (C := "SignMachine$Tape") (T := F_T) (N := 2) hx hb hk fi_T hown hK.1 hP 5 rfl rfl 0 (by decide) (va_Nw.use rfl (hK.2 _ n_154)) (fun _ h9 => h9) rfl d_S_state_104 ?_
                exact W.iret (v := Mx4_0) hx hb hr (fun t ht hW => ⟨⟨Mx4_0, (), rfl, trivial, ⟨_, isC_0, (by show va_P D classes _ t.heap; rw [ht]; exact hP), hD⟩⟩, hS.F ht⟩) hS.2.2 d_S_state_107
            · by_cases c10 : a1 = (6 : Int32)
              · refine lv_tableIn (off := 107) (tgt := 108) hx hb d_S_state_1 (by rw [c10]; decide) (by rw [c10]; decide) (by rw [c10]; rfl) (by decide) ?_
                refine lv_aload_n hx hb d_S_state_108 rfl (lv_at hl 0 rfl) ?_
                refine va_get (D := D) (ci := 0) (v := .ref m0) (C := "SignMachine") (T := F_S) (N := 2) hx hb hk fi_S hown hK.1 hP 0 rfl rfl 0 (by decide) (hk _ k_210) (fun _ h9 => h9) rfl d_S_state_109 ?_
                refine va_getN (D := D) (ci := 1) (v := .int Mx0_8) (C := "SignMachine$Machine") (T := F_M) (N := 14) hx hb hk fi_M hown hK.1 hP 1 rfl rfl 8 (by decide) (va_Nw.use rfl (hK.2 _ n_175)) (fun _ h9 => h9) rfl d_S_state_112 ?_
                exact W.iret (v := Mx0_8) hx hb hr (fun t ht hW => ⟨⟨Mx0_8, (), rfl, trivial, ⟨_, isC_0, (by show va_P D classes _ t.heap; rw [ht]; exact hP), hD⟩⟩, hS.F ht⟩) hS.2.2 d_S_state_115
              · refine lv_tableOut (tgt := 116) hx hb d_S_state_1 (by have e0 := lv_neT c1 (a := 0) rfl; have e1 := lv_neT c2 (a := 1) rfl; have e2 := lv_neT c4 (a := 2) rfl; have e3 := lv_neT c5 (a := 3) rfl; have e4 := lv_neT c6 (a := 4) rfl; have e5 := lv_neT c8 (a := 5) rfl; have e6 := lv_neT c10 (a := 6) rfl; omega) (by decide) ?_
                refine lv_bipush (v := (-2)) hx hb d_S_state_116 (by decide) ?_
                exact W.iret (v := (-2 : Int32)) hx hb hr (fun t ht hW => ⟨⟨(-2 : Int32), (), rfl, trivial, ⟨_, isC_0, (by show va_P D classes _ t.heap; rw [ht]; exact hP), hD⟩⟩, hS.F ht⟩) hS.2.2 d_S_state_118
theorem v_S_state_b11 {R : Room} {s : State} {args : Array Value} {own : String} {index : Nat} (hk : ∀ w ∈ tb, w.before args s = true) (hl : Cond.methodLink own index y_S_state ∈ tb) (hR : 1 + 1 ≤ R.frames ∧ 8 + (2 + 11) + 21 ≤ R.locals) : CallW R s args own "SignMachine" index y_S_state b_S_state 2 (some .int) (.code y_S_state b_S_state 2 (some .int) :: tb) ({ frames := 1, cells := 0, slots := 0, locals := 21 }) 0 0 1 := mk_v 1 hk k_498 hl k_496 k_497 k_116 rfl rfl h_S_state hR
set_option maxHeartbeats 4000000 in
set_option maxRecDepth 100000 in
theorem c_S_go_b11 (l : Launch) (K : CK) (D : va_G) (cI cJ cZ cB : ClassId) (p0 m0 m1 m2 m3 m4 : Nat) (sz : Nat) (Mx0_4 : Bool) (Mx0_5 : Int32) (Mx0_6 : Int32) (Mx0_7 : Int32) (Mx0_8 : Int32) (Mx0_9 : Int32) (Mx0_10 : Int32) (Mx0_11 : Int32) (Mx0_12 : Int32) (Mx0_13 : Int32) (My1 : Nat → Int32) (My2 : Nat → Int32) (Mx3_0 : Int32) (Mx4_0 : Int32)  (a1 : Int32) : Met l y_S_go (.code y_S_go b_S_go 2 (some .boolean) :: tb) ({ frames := 1, cells := 0, slots := 0, locals := 20 }) (pMC K D cI cJ cZ cB ((wS54 cI cJ cZ cB p0 m0) ++ (wS51 cI cJ cZ cB m0 m1 m2 m3 m4 Mx0_4 Mx0_5 Mx0_6 Mx0_7 Mx0_8 Mx0_9 Mx0_10 Mx0_11 Mx0_12 Mx0_13 My1 My2 Mx3_0 Mx4_0)) sz [.ref p0, .int a1]) (va_Qi (fun r (_ : Unit) => r = (f_cgo a1)) (fun _ t => ∃ W9 : va_W, isC K cI cJ cZ cB p0 W9 ∧ va_P D classes W9 t.heap ∧ va_D (va_A ((wS54 cI cJ cZ cB p0 m0) ++ (wS51 cI cJ cZ cB m0 m1 m2 m3 m4 Mx0_4 Mx0_5 Mx0_6 Mx0_7 Mx0_8 Mx0_9 Mx0_10 Mx0_11 Mx0_12 Mx0_13 My1 My2 Mx3_0 Mx4_0)) sz) W9) (va_A ((wS54 cI cJ cZ cB p0 m0) ++ (wS51 cI cJ cZ cB m0 m1 m2 m3 m4 Mx0_4 Mx0_5 Mx0_6 Mx0_7 Mx0_8 Mx0_9 Mx0_10 Mx0_11 Mx0_12 Mx0_13 My1 My2 Mx3_0 Mx4_0)) sz)) 0 0 (va_A ((wS54 cI cJ cZ cB p0 m0) ++ (wS51 cI cJ cZ cB m0 m1 m2 m3 m4 Mx0_4 Mx0_5 Mx0_6 Mx0_7 Mx0_8 Mx0_9 Mx0_10 Mx0_11 Mx0_12 Mx0_13 My1 My2 Mx3_0 Mx4_0)) sz) := by
  refine Met.ofW (cc := b_S_go) (maxL := 2) (ret := (some .boolean)) (by decide) rfl ?_
  intro p e s m args below meth c s₁ B hml hv
  obtain ⟨rfl, hsz, hK, hP, hD0, hC⟩ := hv
  subst hsz
  have hD := hD0.self (sz := s.heap.size)
  generalize hAe : va_A ((wS54 cI cJ cZ cB p0 m0) ++ (wS51 cI cJ cZ cB m0 m1 m2 m3 m4 Mx0_4 Mx0_5 Mx0_6 Mx0_7 Mx0_8 Mx0_9 Mx0_10 Mx0_11 Mx0_12 Mx0_13 My1 My2 Mx3_0 Mx4_0)) s.heap.size = A at hD hC ⊢
  have hA : ∀ q : Nat, s.heap.size ≤ q → A q := fun q h => by rw [← hAe]; exact Or.inr h
  clear hAe hD0
  have hS : va_S A s.heap s.heap [] := va_S.rf
  have hx := B.exec
  have hb := B.bytes
  have hr := B.returns
  have hts := atoms_spec (ws := .code y_S_go b_S_go 2 (some .boolean) :: tb) B.pre
  have hk : ∀ w ∈ tb, w.before [.ref p0, .int a1].toArray s = true := fun w h => hts w (List.mem_cons_of_mem _ h)
  have hown : s.vm.findClass "SignMachine" = some m.cls := findClass_of_methodNamed B.named
  have hlocks := B.notSynchronized
  have hl := lv_entry ([.ref p0, .int a1]) (n := 2) (Nat.le_of_ble_eq_true rfl)
  rw [lg_entry_eq]
  generalize (lg_sl ([.ref p0, .int a1]) ++ List.replicate (2 - (lg_sl ([.ref p0, .int a1])).length) Slot.unset).toArray = ls at hl ⊢
  have hl : lv_has ls 2 [(0, .ref p0), (1, .int a1)] := hl
  refine lv_iload_n hx hb d_S_go_0 rfl (lv_at hl 1 rfl) ?_
  refine cs_i (W.runS (As := [.int a1]) (rest := []) ⟨hx, hb, hml, hown, hk⟩ (c_M_isAddress l a1) (s_M_isAddress hk k_221 ⟨Nat.le_of_ble_eq_true rfl, Nat.le_of_ble_eq_true rfl⟩) ⟨fun a U g mk q => q, fun U hU hW => ⟨rfl, trivial⟩⟩ rfl rfl hl.1 rfl (lv_room (Nat.le_of_ble_eq_true rfl)) d_S_go_1 ⟨Nat.le_of_ble_eq_true rfl, Nat.le_of_ble_eq_true rfl⟩) ?_
  obtain ⟨z1, hz1⟩ : ∃ y : Bool, y = (f_M_isAddress a1) := ⟨_, rfl⟩
  rw [← hz1]
  refine lv_if_ne (tgt := 9) hx hb d_S_go_4 (by decide) (fun c2 => ?_) (fun c2 => ?_)
  · refine lv_aload_n hx hb d_S_go_9 rfl (lv_at hl 0 rfl) ?_
    refine va_get (D := D) (ci := 0) (v := .ref m0) (C := "SignMachine") (T := F_S) (N := 2) hx hb hk fi_S hown hK.1 hP 0 rfl rfl 0 (by decide) (hk _ k_210) (fun _ h9 => h9) rfl d_S_go_10 ?_
    refine lv_iload_n hx hb d_S_go_13 rfl (lv_at hl 1 rfl) ?_
    refine va_putN (D := D) (ci := 1) (v := .int a1) (ty := .int) (C := "SignMachine$Machine") (T := F_M) (N := 14) hx hb hk fi_M ft_M ft_M_ok fn_M hown hK.1 hP hD hS 1 rfl rfl 7 (by decide) (va_Nw.use rfl (hK.2 _ n_173)) (fun _ h9 => h9) rfl (by decide +kernel) rfl rfl (Nat.le_of_ble_eq_true rfl) d_S_go_14 (fun H locs hP hD hS => ?_)
    have hP : va_P D classes ((wS54 cI cJ cZ cB p0 m0) ++ (wS51 cI cJ cZ cB m0 m1 m2 m3 m4 Mx0_4 Mx0_5 Mx0_6 a1 Mx0_8 Mx0_9 Mx0_10 Mx0_11 Mx0_12 Mx0_13 My1 My2 Mx3_0 Mx4_0)) H := hP
    have hD : va_D A ((wS54 cI cJ cZ cB p0 m0) ++ (wS51 cI cJ cZ cB m0 m1 m2 m3 m4 Mx0_4 Mx0_5 Mx0_6 a1 Mx0_8 Mx0_9 Mx0_10 Mx0_11 Mx0_12 Mx0_13 My1 My2 Mx3_0 Mx4_0)) := hD
    refine lv_iconst (v := 1) hx hb d_S_go_17 (by decide) ?_
    exact W.zret (v := (1 : Int32)) hx hb hr rfl (fun t ht hW => ⟨⟨(1 : Int32), (), rfl, by unfold f_cgo; simp only [← hz1, if_neg c2], ⟨_, isC_0, (by show va_P D classes _ t.heap; rw [ht]; exact hP), hD⟩⟩, hS.F ht⟩) hS.2.2 d_S_go_18
  · refine lv_iconst (v := 0) hx hb d_S_go_7 (by decide) ?_
    exact W.zret (v := (0 : Int32)) hx hb hr rfl (fun t ht hW => ⟨⟨(0 : Int32), (), rfl, by unfold f_cgo; simp only [← hz1, if_pos c2], ⟨_, isC_0, (by show va_P D classes _ t.heap; rw [ht]; exact hP), hD⟩⟩, hS.F ht⟩) hS.2.2 d_S_go_8
theorem v_S_go_b11 {R : Room} {s : State} {args : Array Value} {own : String} {index : Nat} (hk : ∀ w ∈ tb, w.before args s = true) (hl : Cond.methodLink own index y_S_go ∈ tb) (hR : 1 + 1 ≤ R.frames ∧ 8 + (2 + 11) + 20 ≤ R.locals) : CallW R s args own "SignMachine" index y_S_go b_S_go 2 (some .boolean) (.code y_S_go b_S_go 2 (some .boolean) :: tb) ({ frames := 1, cells := 0, slots := 0, locals := 20 }) 0 0 1 := mk_v 1 hk k_503 hl k_501 k_502 k_116 rfl rfl h_S_go hR
set_option maxHeartbeats 4000000 in
set_option maxRecDepth 100000 in
theorem c_S_tape_b11 (l : Launch) (K : CK) (D : va_G) (cI cJ cZ cB : ClassId) (p0 m0 m1 m2 m3 m4 : Nat) (sz : Nat) (Mx0_4 : Bool) (Mx0_5 : Int32) (Mx0_6 : Int32) (Mx0_7 : Int32) (Mx0_8 : Int32) (Mx0_9 : Int32) (Mx0_10 : Int32) (Mx0_11 : Int32) (Mx0_12 : Int32) (Mx0_13 : Int32) (My1 : Nat → Int32) (My2 : Nat → Int32) (Mx3_0 : Int32) (Mx4_0 : Int32)  (a1 : Int32) (a2 : Int32) (a3 : Int32) : Met l y_S_tape (.code y_S_tape b_S_tape 5 (some .int) :: tb) ({ frames := 2, cells := 0, slots := 0, locals := 43 }) (pMC K D cI cJ cZ cB ((wS54 cI cJ cZ cB p0 m0) ++ (wS51 cI cJ cZ cB m0 m1 m2 m3 m4 Mx0_4 Mx0_5 Mx0_6 Mx0_7 Mx0_8 Mx0_9 Mx0_10 Mx0_11 Mx0_12 Mx0_13 My1 My2 Mx3_0 Mx4_0)) sz [.ref p0, .int a1, .int a2, .int a3]) (va_Qi (fun r (_ : Unit) => True) (fun _ t => ∃ W9 : va_W, isC K cI cJ cZ cB p0 W9 ∧ va_P D classes W9 t.heap ∧ va_D (va_A ((wS54 cI cJ cZ cB p0 m0) ++ (wS51 cI cJ cZ cB m0 m1 m2 m3 m4 Mx0_4 Mx0_5 Mx0_6 Mx0_7 Mx0_8 Mx0_9 Mx0_10 Mx0_11 Mx0_12 Mx0_13 My1 My2 Mx3_0 Mx4_0)) sz) W9) (va_A ((wS54 cI cJ cZ cB p0 m0) ++ (wS51 cI cJ cZ cB m0 m1 m2 m3 m4 Mx0_4 Mx0_5 Mx0_6 Mx0_7 Mx0_8 Mx0_9 Mx0_10 Mx0_11 Mx0_12 Mx0_13 My1 My2 Mx3_0 Mx4_0)) sz)) 0 0 (va_A ((wS54 cI cJ cZ cB p0 m0) ++ (wS51 cI cJ cZ cB m0 m1 m2 m3 m4 Mx0_4 Mx0_5 Mx0_6 Mx0_7 Mx0_8 Mx0_9 Mx0_10 Mx0_11 Mx0_12 Mx0_13 My1 My2 Mx3_0 Mx4_0)) sz) := by
  refine Met.ofW (cc := b_S_tape) (maxL := 5) (ret := (some .int)) (by decide) rfl ?_
  intro p e s m args below meth c s₁ B hml hv
  obtain ⟨rfl, hsz, hK, hP, hD0, hC⟩ := hv
  subst hsz
  have hD := hD0.self (sz := s.heap.size)
  generalize hAe : va_A ((wS54 cI cJ cZ cB p0 m0) ++ (wS51 cI cJ cZ cB m0 m1 m2 m3 m4 Mx0_4 Mx0_5 Mx0_6 Mx0_7 Mx0_8 Mx0_9 Mx0_10 Mx0_11 Mx0_12 Mx0_13 My1 My2 Mx3_0 Mx4_0)) s.heap.size = A at hD hC ⊢
  have hA : ∀ q : Nat, s.heap.size ≤ q → A q := fun q h => by rw [← hAe]; exact Or.inr h
  clear hAe hD0
  have hS : va_S A s.heap s.heap [] := va_S.rf
  have hx := B.exec
  have hb := B.bytes
  have hr := B.returns
  have hts := atoms_spec (ws := .code y_S_tape b_S_tape 5 (some .int) :: tb) B.pre
  have hk : ∀ w ∈ tb, w.before [.ref p0, .int a1, .int a2, .int a3].toArray s = true := fun w h => hts w (List.mem_cons_of_mem _ h)
  have hown : s.vm.findClass "SignMachine" = some m.cls := findClass_of_methodNamed B.named
  have hlocks := B.notSynchronized
  have hl := lv_entry ([.ref p0, .int a1, .int a2, .int a3]) (n := 5) (Nat.le_of_ble_eq_true rfl)
  rw [lg_entry_eq]
  generalize (lg_sl ([.ref p0, .int a1, .int a2, .int a3]) ++ List.replicate (5 - (lg_sl ([.ref p0, .int a1, .int a2, .int a3])).length) Slot.unset).toArray = ls at hl ⊢
  have hl : lv_has ls 5 [(0, .ref p0), (1, .int a1), (2, .int a2), (3, .int a3)] := hl
  refine lv_iload_n hx hb d_S_tape_0 rfl (lv_at hl 1 rfl) ?_
  refine lv_if_lt (tgt := 17) hx hb d_S_tape_1 (by decide) (fun c1 => ?_) (fun c1 => ?_)
  · refine lv_ldc (v := (-2000000000)) hx hb hown (hk _ k_509) d_S_tape_17 ?_
    exact W.iret (v := (-2000000000 : Int32)) hx hb hr (fun t ht hW => ⟨⟨(-2000000000 : Int32), (), rfl, trivial, ⟨_, isC_0, (by show va_P D classes _ t.heap; rw [ht]; exact hP), hD⟩⟩, hS.F ht⟩) hS.2.2 d_S_tape_19
  · refine lv_iload_n hx hb d_S_tape_4 rfl (lv_at hl 1 rfl) ?_
    refine lv_iconst (v := 1) hx hb d_S_tape_5 (by decide) ?_
    refine lv_icmp_gt (tgt := 17) hx hb d_S_tape_6 (by decide) (fun c2 => ?_) (fun c2 => ?_)
    · refine lv_ldc (v := (-2000000000)) hx hb hown (hk _ k_509) d_S_tape_17 ?_
      exact W.iret (v := (-2000000000 : Int32)) hx hb hr (fun t ht hW => ⟨⟨(-2000000000 : Int32), (), rfl, trivial, ⟨_, isC_0, (by show va_P D classes _ t.heap; rw [ht]; exact hP), hD⟩⟩, hS.F ht⟩) hS.2.2 d_S_tape_19
    · refine lv_iload_n hx hb d_S_tape_9 rfl (lv_at hl 2 rfl) ?_
      refine lv_iload_n hx hb d_S_tape_10 rfl (lv_at hl 3 rfl) ?_
      refine cs_i (W.runS (As := [.int a2, .int a3]) (rest := []) ⟨hx, hb, hml, hown, hk⟩ (c_T_isWord l a2 a3) (s_T_isWord hk k_508 ⟨Nat.le_of_ble_eq_true rfl, Nat.le_of_ble_eq_true rfl⟩) ⟨fun a U g mk q => q, fun U hU hW => ⟨rfl, trivial⟩⟩ rfl rfl hl.1 rfl (lv_room (Nat.le_of_ble_eq_true rfl)) d_S_tape_11 ⟨Nat.le_of_ble_eq_true rfl, Nat.le_of_ble_eq_true rfl⟩) ?_
      obtain ⟨z3, hz3⟩ : ∃ y : Bool, y = (f_T_isWord a2 a3) := ⟨_, rfl⟩
      rw [← hz3]
      refine lv_if_ne (tgt := 20) hx hb d_S_tape_14 (by decide) (fun c4 => ?_) (fun c4 => ?_)
      · refine lv_aload_n hx hb d_S_tape_20 rfl (lv_at hl 0 rfl) ?_
        refine va_get (D := D) (ci := 0) (v := .ref m0) (C := "SignMachine") (T := F_S) (N := 2) hx hb hk fi_S hown hK.1 hP 0 rfl rfl 0 (by decide) (hk _ k_210) (fun _ h9 => h9) rfl d_S_tape_21 ?_
        refine lv_iload_n hx hb d_S_tape_24 rfl (lv_at hl 1 rfl) ?_
        have hPc := hP.sub (ws' := (wS51 cI cJ cZ cB m0 m1 m2 m3 m4 Mx0_4 Mx0_5 Mx0_6 Mx0_7 Mx0_8 Mx0_9 Mx0_10 Mx0_11 Mx0_12 Mx0_13 My1 My2 Mx3_0 Mx4_0)) [1, 2, 3, 4, 5] rfl
        have hDc := hD.sub (ws' := (wS51 cI cJ cZ cB m0 m1 m2 m3 m4 Mx0_4 Mx0_5 Mx0_6 Mx0_7 Mx0_8 Mx0_9 Mx0_10 Mx0_11 Mx0_12 Mx0_13 My1 My2 Mx3_0 Mx4_0)) [1, 2, 3, 4, 5] (by decide) rfl
        have hFc := va_free (wc := (wS51 cI cJ cZ cB m0 m1 m2 m3 m4 Mx0_4 Mx0_5 Mx0_6 Mx0_7 Mx0_8 Mx0_9 Mx0_10 Mx0_11 Mx0_12 Mx0_13 My1 My2 Mx3_0 Mx4_0)) hD hS hA [1, 2, 3, 4, 5] rfl
        refine va_callq (va_runV (C := "SignMachine$Machine") (As := [.int a1]) (rest := []) ⟨hx, hb, hml, hown, hk⟩ (c_M_unit_s1 l K D cI cJ cZ cB m0 m1 m2 m3 m4 s.heap.size Mx0_4 Mx0_5 Mx0_6 Mx0_7 Mx0_8 Mx0_9 Mx0_10 Mx0_11 Mx0_12 Mx0_13 My1 My2 Mx3_0 Mx4_0 a1 ) (v_M_unit_s1 hk k_499 ⟨Nat.le_of_ble_eq_true rfl, Nat.le_of_ble_eq_true rfl⟩) (pMC_v hK hPc hDc hC hS hA (ci := 1) (q0 := 0) rfl rfl rfl) rfl rfl hl.1 rfl (lv_room (Nat.le_of_ble_eq_true rfl)) d_S_tape_25 ⟨by decide, by decide⟩) hS (fun q _ h => hFc q h) hFc (fun rz5 u t H locs ht hvm hr0 hB hz1 hk1 hS => ?_)
        obtain ⟨hP1, hD1⟩ := hB
        rw [ht] at hP1
        obtain ⟨hP, hD⟩ := va_join (wr := (wS54 cI cJ cZ cB p0 m0)) (w1 := (wS51 cI cJ cZ cB m0 m1 m2 m3 m4 Mx0_4 Mx0_5 Mx0_6 Mx0_7 Mx0_8 Mx0_9 Mx0_10 Mx0_11 Mx0_12 Mx0_13 My1 My2 Mx3_0 Mx4_0)) hP hD [1, 2, 3, 4, 5] [0] rfl rfl (by decide) (by decide) hk1 hFc hP1 hD1
        have hP := hP.sub (ws' := ((wS54 cI cJ cZ cB p0 m0) ++ (wS51 cI cJ cZ cB m0 m1 m2 m3 m4 Mx0_4 Mx0_5 Mx0_6 Mx0_7 Mx0_8 Mx0_9 Mx0_10 Mx0_11 Mx0_12 Mx0_13 My1 My2 Mx3_0 Mx4_0))) [0, 1, 2, 3, 4, 5] rfl
        have hD := hD.sub (ws' := ((wS54 cI cJ cZ cB p0 m0) ++ (wS51 cI cJ cZ cB m0 m1 m2 m3 m4 Mx0_4 Mx0_5 Mx0_6 Mx0_7 Mx0_8 Mx0_9 Mx0_10 Mx0_11 Mx0_12 Mx0_13 My1 My2 Mx3_0 Mx4_0))) [0, 1, 2, 3, 4, 5] (by decide) rfl
        have hP : va_P D classes ((wS54 cI cJ cZ cB p0 m0) ++ (wS51 cI cJ cZ cB m0 m1 m2 m3 m4 Mx0_4 Mx0_5 Mx0_6 Mx0_7 Mx0_8 Mx0_9 Mx0_10 Mx0_11 Mx0_12 Mx0_13 My1 My2 Mx3_0 Mx4_0)) H := hP
        have hD : va_D A ((wS54 cI cJ cZ cB p0 m0) ++ (wS51 cI cJ cZ cB m0 m1 m2 m3 m4 Mx0_4 Mx0_5 Mx0_6 Mx0_7 Mx0_8 Mx0_9 Mx0_10 Mx0_11 Mx0_12 Mx0_13 My1 My2 Mx3_0 Mx4_0)) := hD
        clear hPc hDc hFc
        rcases hr0 with hr0 | hr0
        · subst hr0
          refine W.eq (g2 := F0 m 28 ls [.ref m3]) rfl ?_
          refine lv_iload_n hx hb d_S_tape_28 rfl (lv_at hl 2 rfl) ?_
          refine lv_iload_n hx hb d_S_tape_29 rfl (lv_at hl 3 rfl) ?_
          have hPc := hP.sub (ws' := (wS51 cI cJ cZ cB m0 m1 m2 m3 m4 Mx0_4 Mx0_5 Mx0_6 Mx0_7 Mx0_8 Mx0_9 Mx0_10 Mx0_11 Mx0_12 Mx0_13 My1 My2 Mx3_0 Mx4_0)) [1, 2, 3, 4, 5] rfl
          have hDc := hD.sub (ws' := (wS51 cI cJ cZ cB m0 m1 m2 m3 m4 Mx0_4 Mx0_5 Mx0_6 Mx0_7 Mx0_8 Mx0_9 Mx0_10 Mx0_11 Mx0_12 Mx0_13 My1 My2 Mx3_0 Mx4_0)) [1, 2, 3, 4, 5] (by decide) rfl
          have hFc := va_free (wc := (wS51 cI cJ cZ cB m0 m1 m2 m3 m4 Mx0_4 Mx0_5 Mx0_6 Mx0_7 Mx0_8 Mx0_9 Mx0_10 Mx0_11 Mx0_12 Mx0_13 My1 My2 Mx3_0 Mx4_0)) hD hS hA [1, 2, 3, 4, 5] rfl
          refine va_calli (va_runV (C := "SignMachine$Tape") (As := [.int a2, .int a3]) (rest := []) ⟨hx, hb, hml, hown, hk⟩ (c_T_wordAt_s1 l K D cI cJ cZ cB m0 m1 m2 m3 m4 H.size Mx0_4 Mx0_5 Mx0_6 Mx0_7 Mx0_8 Mx0_9 Mx0_10 Mx0_11 Mx0_12 Mx0_13 My1 My2 Mx3_0 Mx4_0 a2 a3 ) (v_T_wordAt_s1 hk k_510 ⟨Nat.le_of_ble_eq_true rfl, Nat.le_of_ble_eq_true rfl⟩) (pMC_v hK hPc hDc hC hS hA (ci := 2) (q0 := 3) rfl rfl rfl) rfl rfl hl.1 rfl (lv_room (Nat.le_of_ble_eq_true rfl)) d_S_tape_30 ⟨by decide, by decide⟩) hS (fun q _ h => hFc q h) hFc (fun rz6 u t H locs ht hvm hr0 hB hz1 hk1 hS => ?_)
          obtain ⟨hP1, hD1⟩ := hB
          rw [ht] at hP1
          obtain ⟨hP, hD⟩ := va_join (wr := (wS54 cI cJ cZ cB p0 m0)) (w1 := (wS51 cI cJ cZ cB m0 m1 m2 m3 m4 Mx0_4 Mx0_5 Mx0_6 Mx0_7 Mx0_8 Mx0_9 Mx0_10 Mx0_11 Mx0_12 Mx0_13 My1 My2 Mx3_0 Mx4_0)) hP hD [1, 2, 3, 4, 5] [0] rfl rfl (by decide) (by decide) hk1 hFc hP1 hD1
          have hP := hP.sub (ws' := ((wS54 cI cJ cZ cB p0 m0) ++ (wS51 cI cJ cZ cB m0 m1 m2 m3 m4 Mx0_4 Mx0_5 Mx0_6 Mx0_7 Mx0_8 Mx0_9 Mx0_10 Mx0_11 Mx0_12 Mx0_13 My1 My2 Mx3_0 Mx4_0))) [0, 1, 2, 3, 4, 5] rfl
          have hD := hD.sub (ws' := ((wS54 cI cJ cZ cB p0 m0) ++ (wS51 cI cJ cZ cB m0 m1 m2 m3 m4 Mx0_4 Mx0_5 Mx0_6 Mx0_7 Mx0_8 Mx0_9 Mx0_10 Mx0_11 Mx0_12 Mx0_13 My1 My2 Mx3_0 Mx4_0))) [0, 1, 2, 3, 4, 5] (by decide) rfl
          have hP : va_P D classes ((wS54 cI cJ cZ cB p0 m0) ++ (wS51 cI cJ cZ cB m0 m1 m2 m3 m4 Mx0_4 Mx0_5 Mx0_6 Mx0_7 Mx0_8 Mx0_9 Mx0_10 Mx0_11 Mx0_12 Mx0_13 My1 My2 Mx3_0 Mx4_0)) H := hP
          have hD : va_D A ((wS54 cI cJ cZ cB p0 m0) ++ (wS51 cI cJ cZ cB m0 m1 m2 m3 m4 Mx0_4 Mx0_5 Mx0_6 Mx0_7 Mx0_8 Mx0_9 Mx0_10 Mx0_11 Mx0_12 Mx0_13 My1 My2 Mx3_0 Mx4_0)) := hD
          clear hPc hDc hFc
          refine lv_istore (lv' := [(4, .int rz6), (0, .ref p0), (1, .int a1), (2, .int a2), (3, .int a3)]) hx hb d_S_tape_33 hl (by decide) rfl (fun ls hl => ?_)
          refine lv_iload hx hb d_S_tape_35 (lv_at hl 0 rfl) ?_
          refine lv_ldc (v := 1073741824) hx hb hown (hk _ k_511) d_S_tape_37 ?_
          refine lv_icmp_ne (tgt := 47) hx hb d_S_tape_39 (by decide) (fun c7 => ?_) (fun c7 => ?_)
          · refine lv_iload hx hb d_S_tape_47 (lv_at hl 0 rfl) ?_
            refine cs_i (W.runS (As := [.int rz6]) (rest := []) ⟨hx, hb, hml, hown, hk⟩ (c_W_number l rz6) (s_W_number hk k_513 ⟨Nat.le_of_ble_eq_true rfl, Nat.le_of_ble_eq_true rfl⟩) ⟨fun a U g mk q => q, fun U hU hW => ⟨rfl, trivial⟩⟩ rfl rfl hl.1 rfl (lv_room (Nat.le_of_ble_eq_true rfl)) d_S_tape_49 ⟨Nat.le_of_ble_eq_true rfl, Nat.le_of_ble_eq_true rfl⟩) ?_
            refine lv_topi (fun v8 hv8 => ?_)
            exact W.iret (v := v8) hx hb hr (fun t ht hW => ⟨⟨v8, (), rfl, trivial, ⟨_, isC_0, (by show va_P D classes _ t.heap; rw [ht]; exact hP), hD⟩⟩, hS.F ht⟩) hS.2.2 d_S_tape_52
          · refine lv_ldc (v := (-1073741824)) hx hb hown (hk _ k_512) d_S_tape_42 ?_
            refine lv_goto (tgt := 52) hx hb d_S_tape_44 (by decide) ?_
            exact W.iret (v := (-1073741824 : Int32)) hx hb hr (fun t ht hW => ⟨⟨(-1073741824 : Int32), (), rfl, trivial, ⟨_, isC_0, (by show va_P D classes _ t.heap; rw [ht]; exact hP), hD⟩⟩, hS.F ht⟩) hS.2.2 d_S_tape_52
        · subst hr0
          refine W.eq (g2 := F0 m 28 ls [.ref m4]) rfl ?_
          refine lv_iload_n hx hb d_S_tape_28 rfl (lv_at hl 2 rfl) ?_
          refine lv_iload_n hx hb d_S_tape_29 rfl (lv_at hl 3 rfl) ?_
          have hPc := hP.sub (ws' := (wS51 cI cJ cZ cB m0 m1 m2 m3 m4 Mx0_4 Mx0_5 Mx0_6 Mx0_7 Mx0_8 Mx0_9 Mx0_10 Mx0_11 Mx0_12 Mx0_13 My1 My2 Mx3_0 Mx4_0)) [1, 2, 3, 4, 5] rfl
          have hDc := hD.sub (ws' := (wS51 cI cJ cZ cB m0 m1 m2 m3 m4 Mx0_4 Mx0_5 Mx0_6 Mx0_7 Mx0_8 Mx0_9 Mx0_10 Mx0_11 Mx0_12 Mx0_13 My1 My2 Mx3_0 Mx4_0)) [1, 2, 3, 4, 5] (by decide) rfl
          have hFc := va_free (wc := (wS51 cI cJ cZ cB m0 m1 m2 m3 m4 Mx0_4 Mx0_5 Mx0_6 Mx0_7 Mx0_8 Mx0_9 Mx0_10 Mx0_11 Mx0_12 Mx0_13 My1 My2 Mx3_0 Mx4_0)) hD hS hA [1, 2, 3, 4, 5] rfl
          refine va_calli (va_runV (C := "SignMachine$Tape") (As := [.int a2, .int a3]) (rest := []) ⟨hx, hb, hml, hown, hk⟩ (c_T_wordAt_s2 l K D cI cJ cZ cB m0 m1 m2 m3 m4 H.size Mx0_4 Mx0_5 Mx0_6 Mx0_7 Mx0_8 Mx0_9 Mx0_10 Mx0_11 Mx0_12 Mx0_13 My1 My2 Mx3_0 Mx4_0 a2 a3 ) (v_T_wordAt_s2 hk k_510 ⟨Nat.le_of_ble_eq_true rfl, Nat.le_of_ble_eq_true rfl⟩) (pMC_v hK hPc hDc hC hS hA (ci := 2) (q0 := 4) rfl rfl rfl) rfl rfl hl.1 rfl (lv_room (Nat.le_of_ble_eq_true rfl)) d_S_tape_30 ⟨by decide, by decide⟩) hS (fun q _ h => hFc q h) hFc (fun rz9 u t H locs ht hvm hr0 hB hz1 hk1 hS => ?_)
          obtain ⟨hP1, hD1⟩ := hB
          rw [ht] at hP1
          obtain ⟨hP, hD⟩ := va_join (wr := (wS54 cI cJ cZ cB p0 m0)) (w1 := (wS51 cI cJ cZ cB m0 m1 m2 m3 m4 Mx0_4 Mx0_5 Mx0_6 Mx0_7 Mx0_8 Mx0_9 Mx0_10 Mx0_11 Mx0_12 Mx0_13 My1 My2 Mx3_0 Mx4_0)) hP hD [1, 2, 3, 4, 5] [0] rfl rfl (by decide) (by decide) hk1 hFc hP1 hD1
          have hP := hP.sub (ws' := ((wS54 cI cJ cZ cB p0 m0) ++ (wS51 cI cJ cZ cB m0 m1 m2 m3 m4 Mx0_4 Mx0_5 Mx0_6 Mx0_7 Mx0_8 Mx0_9 Mx0_10 Mx0_11 Mx0_12 Mx0_13 My1 My2 Mx3_0 Mx4_0))) [0, 1, 2, 3, 4, 5] rfl
          have hD := hD.sub (ws' := ((wS54 cI cJ cZ cB p0 m0) ++ (wS51 cI cJ cZ cB m0 m1 m2 m3 m4 Mx0_4 Mx0_5 Mx0_6 Mx0_7 Mx0_8 Mx0_9 Mx0_10 Mx0_11 Mx0_12 Mx0_13 My1 My2 Mx3_0 Mx4_0))) [0, 1, 2, 3, 4, 5] (by decide) rfl
          have hP : va_P D classes ((wS54 cI cJ cZ cB p0 m0) ++ (wS51 cI cJ cZ cB m0 m1 m2 m3 m4 Mx0_4 Mx0_5 Mx0_6 Mx0_7 Mx0_8 Mx0_9 Mx0_10 Mx0_11 Mx0_12 Mx0_13 My1 My2 Mx3_0 Mx4_0)) H := hP
          have hD : va_D A ((wS54 cI cJ cZ cB p0 m0) ++ (wS51 cI cJ cZ cB m0 m1 m2 m3 m4 Mx0_4 Mx0_5 Mx0_6 Mx0_7 Mx0_8 Mx0_9 Mx0_10 Mx0_11 Mx0_12 Mx0_13 My1 My2 Mx3_0 Mx4_0)) := hD
          clear hPc hDc hFc
          refine lv_istore (lv' := [(4, .int rz9), (0, .ref p0), (1, .int a1), (2, .int a2), (3, .int a3)]) hx hb d_S_tape_33 hl (by decide) rfl (fun ls hl => ?_)
          refine lv_iload hx hb d_S_tape_35 (lv_at hl 0 rfl) ?_
          refine lv_ldc (v := 1073741824) hx hb hown (hk _ k_511) d_S_tape_37 ?_
          refine lv_icmp_ne (tgt := 47) hx hb d_S_tape_39 (by decide) (fun c10 => ?_) (fun c10 => ?_)
          · refine lv_iload hx hb d_S_tape_47 (lv_at hl 0 rfl) ?_
            refine cs_i (W.runS (As := [.int rz9]) (rest := []) ⟨hx, hb, hml, hown, hk⟩ (c_W_number l rz9) (s_W_number hk k_513 ⟨Nat.le_of_ble_eq_true rfl, Nat.le_of_ble_eq_true rfl⟩) ⟨fun a U g mk q => q, fun U hU hW => ⟨rfl, trivial⟩⟩ rfl rfl hl.1 rfl (lv_room (Nat.le_of_ble_eq_true rfl)) d_S_tape_49 ⟨Nat.le_of_ble_eq_true rfl, Nat.le_of_ble_eq_true rfl⟩) ?_
            refine lv_topi (fun v11 hv11 => ?_)
            exact W.iret (v := v11) hx hb hr (fun t ht hW => ⟨⟨v11, (), rfl, trivial, ⟨_, isC_0, (by show va_P D classes _ t.heap; rw [ht]; exact hP), hD⟩⟩, hS.F ht⟩) hS.2.2 d_S_tape_52
          · refine lv_ldc (v := (-1073741824)) hx hb hown (hk _ k_512) d_S_tape_42 ?_
            refine lv_goto (tgt := 52) hx hb d_S_tape_44 (by decide) ?_
            exact W.iret (v := (-1073741824 : Int32)) hx hb hr (fun t ht hW => ⟨⟨(-1073741824 : Int32), (), rfl, trivial, ⟨_, isC_0, (by show va_P D classes _ t.heap; rw [ht]; exact hP), hD⟩⟩, hS.F ht⟩) hS.2.2 d_S_tape_52
      · refine lv_ldc (v := (-2000000000)) hx hb hown (hk _ k_509) d_S_tape_17 ?_
        exact W.iret (v := (-2000000000 : Int32)) hx hb hr (fun t ht hW => ⟨⟨(-2000000000 : Int32), (), rfl, trivial, ⟨_, isC_0, (by show va_P D classes _ t.heap; rw [ht]; exact hP), hD⟩⟩, hS.F ht⟩) hS.2.2 d_S_tape_19
theorem v_S_tape_b11 {R : Room} {s : State} {args : Array Value} {own : String} {index : Nat} (hk : ∀ w ∈ tb, w.before args s = true) (hl : Cond.methodLink own index y_S_tape ∈ tb) (hR : 2 + 1 ≤ R.frames ∧ 8 + (5 + 11) + 43 ≤ R.locals) : CallW R s args own "SignMachine" index y_S_tape b_S_tape 5 (some .int) (.code y_S_tape b_S_tape 5 (some .int) :: tb) ({ frames := 2, cells := 0, slots := 0, locals := 43 }) 0 0 3 := mk_v 3 hk k_507 hl k_505 k_506 k_116 rfl rfl h_S_tape hR
set_option maxHeartbeats 4000000 in
set_option maxRecDepth 100000 in
theorem c_S_step_b11 (l : Launch) (K : CK) (D : va_G) (cI cJ cZ cB : ClassId) (p0 m0 m1 m2 m3 m4 : Nat) (sz : Nat) (Mx0_4 : Bool) (Mx0_5 : Int32) (Mx0_6 : Int32) (Mx0_7 : Int32) (Mx0_8 : Int32) (Mx0_9 : Int32) (Mx0_10 : Int32) (Mx0_11 : Int32) (Mx0_12 : Int32) (Mx0_13 : Int32) (My1 : Nat → Int32) (My2 : Nat → Int32) (Mx3_0 : Int32) (Mx4_0 : Int32)   : Met l y_S_step (.code y_S_step b_S_step 1 (some .int) :: tb) ({ frames := 7, cells := 1, slots := 4000, locals := 151 }) (pMC K D cI cJ cZ cB ((wS54 cI cJ cZ cB p0 m0) ++ (wS51 cI cJ cZ cB m0 m1 m2 m3 m4 Mx0_4 Mx0_5 Mx0_6 Mx0_7 Mx0_8 Mx0_9 Mx0_10 Mx0_11 Mx0_12 Mx0_13 My1 My2 Mx3_0 Mx4_0)) sz [.ref p0]) (va_Qi (fun r (_ : Unit) => True) (fun _ t => ∃ W9 : va_W, isC K cI cJ cZ cB p0 W9 ∧ va_P D classes W9 t.heap ∧ va_D (va_A ((wS54 cI cJ cZ cB p0 m0) ++ (wS51 cI cJ cZ cB m0 m1 m2 m3 m4 Mx0_4 Mx0_5 Mx0_6 Mx0_7 Mx0_8 Mx0_9 Mx0_10 Mx0_11 Mx0_12 Mx0_13 My1 My2 Mx3_0 Mx4_0)) sz) W9) (va_A ((wS54 cI cJ cZ cB p0 m0) ++ (wS51 cI cJ cZ cB m0 m1 m2 m3 m4 Mx0_4 Mx0_5 Mx0_6 Mx0_7 Mx0_8 Mx0_9 Mx0_10 Mx0_11 Mx0_12 Mx0_13 My1 My2 Mx3_0 Mx4_0)) sz)) 1 4000 (va_A ((wS54 cI cJ cZ cB p0 m0) ++ (wS51 cI cJ cZ cB m0 m1 m2 m3 m4 Mx0_4 Mx0_5 Mx0_6 Mx0_7 Mx0_8 Mx0_9 Mx0_10 Mx0_11 Mx0_12 Mx0_13 My1 My2 Mx3_0 Mx4_0)) sz) := by
  refine Met.ofW (cc := b_S_step) (maxL := 1) (ret := (some .int)) (by decide) rfl ?_
  intro p e s m args below meth c s₁ B hml hv
  obtain ⟨rfl, hsz, hK, hP, hD0, hC⟩ := hv
  subst hsz
  have hD := hD0.self (sz := s.heap.size)
  generalize hAe : va_A ((wS54 cI cJ cZ cB p0 m0) ++ (wS51 cI cJ cZ cB m0 m1 m2 m3 m4 Mx0_4 Mx0_5 Mx0_6 Mx0_7 Mx0_8 Mx0_9 Mx0_10 Mx0_11 Mx0_12 Mx0_13 My1 My2 Mx3_0 Mx4_0)) s.heap.size = A at hD hC ⊢
  have hA : ∀ q : Nat, s.heap.size ≤ q → A q := fun q h => by rw [← hAe]; exact Or.inr h
  clear hAe hD0
  have hS : va_S A s.heap s.heap [] := va_S.rf
  have hx := B.exec
  have hb := B.bytes
  have hr := B.returns
  have hts := atoms_spec (ws := .code y_S_step b_S_step 1 (some .int) :: tb) B.pre
  have hk : ∀ w ∈ tb, w.before [.ref p0].toArray s = true := fun w h => hts w (List.mem_cons_of_mem _ h)
  have hown : s.vm.findClass "SignMachine" = some m.cls := findClass_of_methodNamed B.named
  have hlocks := B.notSynchronized
  have hl := lv_entry ([.ref p0]) (n := 1) (Nat.le_of_ble_eq_true rfl)
  rw [lg_entry_eq]
  generalize (lg_sl ([.ref p0]) ++ List.replicate (1 - (lg_sl ([.ref p0])).length) Slot.unset).toArray = ls at hl ⊢
  have hl : lv_has ls 1 [(0, .ref p0)] := hl
  refine lv_aload_n hx hb d_S_step_0 rfl (lv_at hl 0 rfl) ?_
  refine va_get (D := D) (ci := 0) (v := .ref m0) (C := "SignMachine") (T := F_S) (N := 2) hx hb hk fi_S hown hK.1 hP 0 rfl rfl 0 (by decide) (hk _ k_210) (fun _ h9 => h9) rfl d_S_step_1 ?_
  refine lv_aload_n hx hb d_S_step_4 rfl (lv_at hl 0 rfl) ?_
  refine va_get (D := D) (ci := 0) (v := .ref m0) (C := "SignMachine") (T := F_S) (N := 2) hx hb hk fi_S hown hK.1 hP 0 rfl rfl 0 (by decide) (hk _ k_210) (fun _ h9 => h9) rfl d_S_step_5 ?_
  by_cases q1 : ((f_W_size (f_mw My1 Mx0_7)) &&& (63 : Int32)) = (37 : Int32)
  · by_cases q2 : (((f_W_size (f_mw My1 Mx0_7)) >>> ((6 : Int32) &&& (31 : Int32))) &&& (63 : Int32)) = (0 : Int32)
    · have hPc := hP.sub (ws' := (wS51 cI cJ cZ cB m0 m1 m2 m3 m4 Mx0_4 Mx0_5 Mx0_6 Mx0_7 Mx0_8 Mx0_9 Mx0_10 Mx0_11 Mx0_12 Mx0_13 My1 My2 Mx3_0 Mx4_0)) [1, 2, 3, 4, 5] rfl
      have hDc := hD.sub (ws' := (wS51 cI cJ cZ cB m0 m1 m2 m3 m4 Mx0_4 Mx0_5 Mx0_6 Mx0_7 Mx0_8 Mx0_9 Mx0_10 Mx0_11 Mx0_12 Mx0_13 My1 My2 Mx3_0 Mx4_0)) [1, 2, 3, 4, 5] (by decide) rfl
      have hFc := va_free (wc := (wS51 cI cJ cZ cB m0 m1 m2 m3 m4 Mx0_4 Mx0_5 Mx0_6 Mx0_7 Mx0_8 Mx0_9 Mx0_10 Mx0_11 Mx0_12 Mx0_13 My1 My2 Mx3_0 Mx4_0)) hD hS hA [1, 2, 3, 4, 5] rfl
      refine va_calli (va_runV (C := "SignMachine$Machine") (As := []) (rest := [.ref m0]) ⟨hx, hb, hml, hown, hk⟩ (c_M_execute_s1 l K D cI cJ cZ cB m0 m1 m2 m3 m4 s.heap.size Mx0_4 Mx0_5 Mx0_6 Mx0_7 Mx0_8 Mx0_9 Mx0_10 Mx0_11 Mx0_12 Mx0_13 My1 My2 Mx3_0 Mx4_0  q1 q2) (v_M_execute_s1 hk k_258 ⟨Nat.le_of_ble_eq_true rfl, Nat.le_of_ble_eq_true rfl⟩) (pMC_v hK hPc hDc hC hS hA (ci := 1) (q0 := 0) rfl rfl rfl) rfl rfl hl.1 rfl (lv_room (Nat.le_of_ble_eq_true rfl)) d_S_step_8 ⟨by decide, by decide⟩) hS (fun q _ h => hFc q h) hFc (fun rz3 u t H locs ht hvm hr0 hB hz1 hk1 hS => ?_)
      subst hr0
      rcases hB with ⟨hzz3, Mx0_6z3, Mx0_7z3, Mx0_9z3, Mx0_10z3, Mx0_11z3, Mx0_12z3, Mx0_13z3, Mx3_0z3, hP1, hD1⟩ | ⟨m5, Mx0_6z3, Mx0_7z3, Mx0_9z3, Mx0_10z3, Mx0_11z3, Mx0_12z3, Mx0_13z3, Mx3_0z3, My5z3, hP1, hD1⟩
      · rw [ht] at hP1
        obtain ⟨hP, hD⟩ := va_join (wr := (wS54 cI cJ cZ cB p0 m0)) (w1 := (wS51 cI cJ cZ cB m0 m1 m2 m3 m4 Mx0_4 Mx0_5 Mx0_6z3 Mx0_7z3 Mx0_8 Mx0_9z3 Mx0_10z3 Mx0_11z3 Mx0_12z3 Mx0_13z3 My1 My2 Mx3_0z3 Mx4_0)) hP hD [1, 2, 3, 4, 5] [0] rfl rfl (by decide) (by decide) hk1 hFc hP1 hD1
        have hP := hP.sub (ws' := ((wS54 cI cJ cZ cB p0 m0) ++ (wS51 cI cJ cZ cB m0 m1 m2 m3 m4 Mx0_4 Mx0_5 Mx0_6z3 Mx0_7z3 Mx0_8 Mx0_9z3 Mx0_10z3 Mx0_11z3 Mx0_12z3 Mx0_13z3 My1 My2 Mx3_0z3 Mx4_0))) [0, 1, 2, 3, 4, 5] rfl
        have hD := hD.sub (ws' := ((wS54 cI cJ cZ cB p0 m0) ++ (wS51 cI cJ cZ cB m0 m1 m2 m3 m4 Mx0_4 Mx0_5 Mx0_6z3 Mx0_7z3 Mx0_8 Mx0_9z3 Mx0_10z3 Mx0_11z3 Mx0_12z3 Mx0_13z3 My1 My2 Mx3_0z3 Mx4_0))) [0, 1, 2, 3, 4, 5] (by decide) rfl
        have hP : va_P D classes ((wS54 cI cJ cZ cB p0 m0) ++ (wS51 cI cJ cZ cB m0 m1 m2 m3 m4 Mx0_4 Mx0_5 Mx0_6z3 Mx0_7z3 Mx0_8 Mx0_9z3 Mx0_10z3 Mx0_11z3 Mx0_12z3 Mx0_13z3 My1 My2 Mx3_0z3 Mx4_0)) H := hP
        have hD : va_D A ((wS54 cI cJ cZ cB p0 m0) ++ (wS51 cI cJ cZ cB m0 m1 m2 m3 m4 Mx0_4 Mx0_5 Mx0_6z3 Mx0_7z3 Mx0_8 Mx0_9z3 Mx0_10z3 Mx0_11z3 Mx0_12z3 Mx0_13z3 My1 My2 Mx3_0z3 Mx4_0)) := hD
        clear hPc hDc hFc
        refine W.widen (k := 1) (n := 4000) (by decide) (by decide) ?_
        refine va_putN (D := D) (ci := 1) (v := .int rz3) (ty := .int) (C := "SignMachine$Machine") (T := F_M) (N := 14) hx hb hk fi_M ft_M ft_M_ok fn_M hown hK.1 hP hD hS 1 rfl rfl 8 (by decide) (va_Nw.use rfl (hK.2 _ n_175)) (fun _ h9 => h9) rfl (by decide +kernel) rfl rfl (Nat.le_of_ble_eq_true rfl) d_S_step_11 (fun H locs hP hD hS => ?_)
        have hP : va_P D classes ((wS54 cI cJ cZ cB p0 m0) ++ (wS51 cI cJ cZ cB m0 m1 m2 m3 m4 Mx0_4 Mx0_5 Mx0_6z3 Mx0_7z3 rz3 Mx0_9z3 Mx0_10z3 Mx0_11z3 Mx0_12z3 Mx0_13z3 My1 My2 Mx3_0z3 Mx4_0)) H := hP
        have hD : va_D A ((wS54 cI cJ cZ cB p0 m0) ++ (wS51 cI cJ cZ cB m0 m1 m2 m3 m4 Mx0_4 Mx0_5 Mx0_6z3 Mx0_7z3 rz3 Mx0_9z3 Mx0_10z3 Mx0_11z3 Mx0_12z3 Mx0_13z3 My1 My2 Mx3_0z3 Mx4_0)) := hD
        refine lv_aload_n hx hb d_S_step_14 rfl (lv_at hl 0 rfl) ?_
        refine va_get (D := D) (ci := 0) (v := .ref m0) (C := "SignMachine") (T := F_S) (N := 2) hx hb hk fi_S hown hK.1 hP 0 rfl rfl 0 (by decide) (hk _ k_210) (fun _ h9 => h9) rfl d_S_step_15 ?_
        refine va_getN (D := D) (ci := 1) (v := .int rz3) (C := "SignMachine$Machine") (T := F_M) (N := 14) hx hb hk fi_M hown hK.1 hP 1 rfl rfl 8 (by decide) (va_Nw.use rfl (hK.2 _ n_175)) (fun _ h9 => h9) rfl d_S_step_18 ?_
        exact W.iret (v := rz3) hx hb hr (fun t ht hW => ⟨⟨rz3, (), rfl, trivial, ⟨_, isC_0, (by show va_P D classes _ t.heap; rw [ht]; exact hP), hD⟩⟩, hS.F ht⟩) hS.2.2 d_S_step_21
      · rw [ht] at hP1
        obtain ⟨hP, hD⟩ := va_join (wr := (wS54 cI cJ cZ cB p0 m0)) (w1 := (wS57 cI cJ cZ cB m0 m1 m2 m3 m4 m5 Mx0_4 Mx0_5 Mx0_6z3 Mx0_7z3 Mx0_8 Mx0_9z3 Mx0_10z3 Mx0_11z3 Mx0_12z3 Mx0_13z3 My1 My2 Mx3_0z3 Mx4_0 My5z3)) hP hD [1, 2, 3, 4, 5] [0] rfl rfl (by decide) (by decide) hk1 hFc hP1 hD1
        have hP := hP.sub (ws' := ((wS54 cI cJ cZ cB p0 m0) ++ (wS57 cI cJ cZ cB m0 m1 m2 m3 m4 m5 Mx0_4 Mx0_5 Mx0_6z3 Mx0_7z3 Mx0_8 Mx0_9z3 Mx0_10z3 Mx0_11z3 Mx0_12z3 Mx0_13z3 My1 My2 Mx3_0z3 Mx4_0 My5z3))) [0, 1, 2, 3, 4, 5, 6] rfl
        have hD := hD.sub (ws' := ((wS54 cI cJ cZ cB p0 m0) ++ (wS57 cI cJ cZ cB m0 m1 m2 m3 m4 m5 Mx0_4 Mx0_5 Mx0_6z3 Mx0_7z3 Mx0_8 Mx0_9z3 Mx0_10z3 Mx0_11z3 Mx0_12z3 Mx0_13z3 My1 My2 Mx3_0z3 Mx4_0 My5z3))) [0, 1, 2, 3, 4, 5, 6] (by decide) rfl
        have hP : va_P D classes ((wS54 cI cJ cZ cB p0 m0) ++ (wS57 cI cJ cZ cB m0 m1 m2 m3 m4 m5 Mx0_4 Mx0_5 Mx0_6z3 Mx0_7z3 Mx0_8 Mx0_9z3 Mx0_10z3 Mx0_11z3 Mx0_12z3 Mx0_13z3 My1 My2 Mx3_0z3 Mx4_0 My5z3)) H := hP
        have hD : va_D A ((wS54 cI cJ cZ cB p0 m0) ++ (wS57 cI cJ cZ cB m0 m1 m2 m3 m4 m5 Mx0_4 Mx0_5 Mx0_6z3 Mx0_7z3 Mx0_8 Mx0_9z3 Mx0_10z3 Mx0_11z3 Mx0_12z3 Mx0_13z3 My1 My2 Mx3_0z3 Mx4_0 My5z3)) := hD
        clear hPc hDc hFc
        refine W.widen (k := 1) (n := 4000) (by decide) (by decide) ?_
        refine va_putN (D := D) (ci := 1) (v := .int rz3) (ty := .int) (C := "SignMachine$Machine") (T := F_M) (N := 14) hx hb hk fi_M ft_M ft_M_ok fn_M hown hK.1 hP hD hS 1 rfl rfl 8 (by decide) (va_Nw.use rfl (hK.2 _ n_175)) (fun _ h9 => h9) rfl (by decide +kernel) rfl rfl (Nat.le_of_ble_eq_true rfl) d_S_step_11 (fun H locs hP hD hS => ?_)
        have hP : va_P D classes ((wS54 cI cJ cZ cB p0 m0) ++ (wS57 cI cJ cZ cB m0 m1 m2 m3 m4 m5 Mx0_4 Mx0_5 Mx0_6z3 Mx0_7z3 rz3 Mx0_9z3 Mx0_10z3 Mx0_11z3 Mx0_12z3 Mx0_13z3 My1 My2 Mx3_0z3 Mx4_0 My5z3)) H := hP
        have hD : va_D A ((wS54 cI cJ cZ cB p0 m0) ++ (wS57 cI cJ cZ cB m0 m1 m2 m3 m4 m5 Mx0_4 Mx0_5 Mx0_6z3 Mx0_7z3 rz3 Mx0_9z3 Mx0_10z3 Mx0_11z3 Mx0_12z3 Mx0_13z3 My1 My2 Mx3_0z3 Mx4_0 My5z3)) := hD
        refine lv_aload_n hx hb d_S_step_14 rfl (lv_at hl 0 rfl) ?_
        refine va_get (D := D) (ci := 0) (v := .ref m0) (C := "SignMachine") (T := F_S) (N := 2) hx hb hk fi_S hown hK.1 hP 0 rfl rfl 0 (by decide) (hk _ k_210) (fun _ h9 => h9) rfl d_S_step_15 ?_
        refine va_getN (D := D) (ci := 1) (v := .int rz3) (C := "SignMachine$Machine") (T := F_M) (N := 14) hx hb hk fi_M hown hK.1 hP 1 rfl rfl 8 (by decide) (va_Nw.use rfl (hK.2 _ n_175)) (fun _ h9 => h9) rfl d_S_step_18 ?_
        exact W.iret (v := rz3) hx hb hr (fun t ht hW => ⟨⟨rz3, (), rfl, trivial, ⟨_, isC_1, (by show va_P D classes _ t.heap; rw [ht]; exact hP), hD⟩⟩, hS.F ht⟩) hS.2.2 d_S_step_21
    · have hPc := hP.sub (ws' := (wS51 cI cJ cZ cB m0 m1 m2 m3 m4 Mx0_4 Mx0_5 Mx0_6 Mx0_7 Mx0_8 Mx0_9 Mx0_10 Mx0_11 Mx0_12 Mx0_13 My1 My2 Mx3_0 Mx4_0)) [1, 2, 3, 4, 5] rfl
      have hDc := hD.sub (ws' := (wS51 cI cJ cZ cB m0 m1 m2 m3 m4 Mx0_4 Mx0_5 Mx0_6 Mx0_7 Mx0_8 Mx0_9 Mx0_10 Mx0_11 Mx0_12 Mx0_13 My1 My2 Mx3_0 Mx4_0)) [1, 2, 3, 4, 5] (by decide) rfl
      have hFc := va_free (wc := (wS51 cI cJ cZ cB m0 m1 m2 m3 m4 Mx0_4 Mx0_5 Mx0_6 Mx0_7 Mx0_8 Mx0_9 Mx0_10 Mx0_11 Mx0_12 Mx0_13 My1 My2 Mx3_0 Mx4_0)) hD hS hA [1, 2, 3, 4, 5] rfl
      refine va_calli (va_runV (C := "SignMachine$Machine") (As := []) (rest := [.ref m0]) ⟨hx, hb, hml, hown, hk⟩ (c_M_execute_s2 l K D cI cJ cZ cB m0 m1 m2 m3 m4 s.heap.size Mx0_4 Mx0_5 Mx0_6 Mx0_7 Mx0_8 Mx0_9 Mx0_10 Mx0_11 Mx0_12 Mx0_13 My1 My2 Mx3_0 Mx4_0  q1 q2) (v_M_execute_s2 hk k_258 ⟨Nat.le_of_ble_eq_true rfl, Nat.le_of_ble_eq_true rfl⟩) (pMC_v hK hPc hDc hC hS hA (ci := 1) (q0 := 0) rfl rfl rfl) rfl rfl hl.1 rfl (lv_room (Nat.le_of_ble_eq_true rfl)) d_S_step_8 ⟨by decide, by decide⟩) hS (fun q _ h => hFc q h) hFc (fun rz4 u t H locs ht hvm hr0 hB hz1 hk1 hS => ?_)
      subst hr0
      rcases hB with ⟨hzz4, Mx0_6z4, Mx0_7z4, Mx0_9z4, Mx0_10z4, Mx0_11z4, Mx0_12z4, Mx0_13z4, Mx4_0z4, hP1, hD1⟩ | ⟨m5, Mx0_6z4, Mx0_7z4, Mx0_9z4, Mx0_10z4, Mx0_11z4, Mx0_12z4, Mx0_13z4, Mx4_0z4, My5z4, hP1, hD1⟩
      · rw [ht] at hP1
        obtain ⟨hP, hD⟩ := va_join (wr := (wS54 cI cJ cZ cB p0 m0)) (w1 := (wS51 cI cJ cZ cB m0 m1 m2 m3 m4 Mx0_4 Mx0_5 Mx0_6z4 Mx0_7z4 Mx0_8 Mx0_9z4 Mx0_10z4 Mx0_11z4 Mx0_12z4 Mx0_13z4 My1 My2 Mx3_0 Mx4_0z4)) hP hD [1, 2, 3, 4, 5] [0] rfl rfl (by decide) (by decide) hk1 hFc hP1 hD1
        have hP := hP.sub (ws' := ((wS54 cI cJ cZ cB p0 m0) ++ (wS51 cI cJ cZ cB m0 m1 m2 m3 m4 Mx0_4 Mx0_5 Mx0_6z4 Mx0_7z4 Mx0_8 Mx0_9z4 Mx0_10z4 Mx0_11z4 Mx0_12z4 Mx0_13z4 My1 My2 Mx3_0 Mx4_0z4))) [0, 1, 2, 3, 4, 5] rfl
        have hD := hD.sub (ws' := ((wS54 cI cJ cZ cB p0 m0) ++ (wS51 cI cJ cZ cB m0 m1 m2 m3 m4 Mx0_4 Mx0_5 Mx0_6z4 Mx0_7z4 Mx0_8 Mx0_9z4 Mx0_10z4 Mx0_11z4 Mx0_12z4 Mx0_13z4 My1 My2 Mx3_0 Mx4_0z4))) [0, 1, 2, 3, 4, 5] (by decide) rfl
        have hP : va_P D classes ((wS54 cI cJ cZ cB p0 m0) ++ (wS51 cI cJ cZ cB m0 m1 m2 m3 m4 Mx0_4 Mx0_5 Mx0_6z4 Mx0_7z4 Mx0_8 Mx0_9z4 Mx0_10z4 Mx0_11z4 Mx0_12z4 Mx0_13z4 My1 My2 Mx3_0 Mx4_0z4)) H := hP
        have hD : va_D A ((wS54 cI cJ cZ cB p0 m0) ++ (wS51 cI cJ cZ cB m0 m1 m2 m3 m4 Mx0_4 Mx0_5 Mx0_6z4 Mx0_7z4 Mx0_8 Mx0_9z4 Mx0_10z4 Mx0_11z4 Mx0_12z4 Mx0_13z4 My1 My2 Mx3_0 Mx4_0z4)) := hD
        clear hPc hDc hFc
        refine W.widen (k := 1) (n := 4000) (by decide) (by decide) ?_
        refine va_putN (D := D) (ci := 1) (v := .int rz4) (ty := .int) (C := "SignMachine$Machine") (T := F_M) (N := 14) hx hb hk fi_M ft_M ft_M_ok fn_M hown hK.1 hP hD hS 1 rfl rfl 8 (by decide) (va_Nw.use rfl (hK.2 _ n_175)) (fun _ h9 => h9) rfl (by decide +kernel) rfl rfl (Nat.le_of_ble_eq_true rfl) d_S_step_11 (fun H locs hP hD hS => ?_)
        have hP : va_P D classes ((wS54 cI cJ cZ cB p0 m0) ++ (wS51 cI cJ cZ cB m0 m1 m2 m3 m4 Mx0_4 Mx0_5 Mx0_6z4 Mx0_7z4 rz4 Mx0_9z4 Mx0_10z4 Mx0_11z4 Mx0_12z4 Mx0_13z4 My1 My2 Mx3_0 Mx4_0z4)) H := hP
        have hD : va_D A ((wS54 cI cJ cZ cB p0 m0) ++ (wS51 cI cJ cZ cB m0 m1 m2 m3 m4 Mx0_4 Mx0_5 Mx0_6z4 Mx0_7z4 rz4 Mx0_9z4 Mx0_10z4 Mx0_11z4 Mx0_12z4 Mx0_13z4 My1 My2 Mx3_0 Mx4_0z4)) := hD
        refine lv_aload_n hx hb d_S_step_14 rfl (lv_at hl 0 rfl) ?_
        refine va_get (D := D) (ci := 0) (v := .ref m0) (C := "SignMachine") (T := F_S) (N := 2) hx hb hk fi_S hown hK.1 hP 0 rfl rfl 0 (by decide) (hk _ k_210) (fun _ h9 => h9) rfl d_S_step_15 ?_
        refine va_getN (D := D) (ci := 1) (v := .int rz4) (C := "SignMachine$Machine") (T := F_M) (N := 14) hx hb hk fi_M hown hK.1 hP 1 rfl rfl 8 (by decide) (va_Nw.use rfl (hK.2 _ n_175)) (fun _ h9 => h9) rfl d_S_step_18 ?_
        exact W.iret (v := rz4) hx hb hr (fun t ht hW => ⟨⟨rz4, (), rfl, trivial, ⟨_, isC_0, (by show va_P D classes _ t.heap; rw [ht]; exact hP), hD⟩⟩, hS.F ht⟩) hS.2.2 d_S_step_21
      · rw [ht] at hP1
        obtain ⟨hP, hD⟩ := va_join (wr := (wS54 cI cJ cZ cB p0 m0)) (w1 := (wS58 cI cJ cZ cB m0 m1 m2 m3 m4 m5 Mx0_4 Mx0_5 Mx0_6z4 Mx0_7z4 Mx0_8 Mx0_9z4 Mx0_10z4 Mx0_11z4 Mx0_12z4 Mx0_13z4 My1 My2 Mx3_0 Mx4_0z4 My5z4)) hP hD [1, 2, 3, 4, 5] [0] rfl rfl (by decide) (by decide) hk1 hFc hP1 hD1
        have hP := hP.sub (ws' := ((wS54 cI cJ cZ cB p0 m0) ++ (wS58 cI cJ cZ cB m0 m1 m2 m3 m4 m5 Mx0_4 Mx0_5 Mx0_6z4 Mx0_7z4 Mx0_8 Mx0_9z4 Mx0_10z4 Mx0_11z4 Mx0_12z4 Mx0_13z4 My1 My2 Mx3_0 Mx4_0z4 My5z4))) [0, 1, 2, 3, 4, 5, 6] rfl
        have hD := hD.sub (ws' := ((wS54 cI cJ cZ cB p0 m0) ++ (wS58 cI cJ cZ cB m0 m1 m2 m3 m4 m5 Mx0_4 Mx0_5 Mx0_6z4 Mx0_7z4 Mx0_8 Mx0_9z4 Mx0_10z4 Mx0_11z4 Mx0_12z4 Mx0_13z4 My1 My2 Mx3_0 Mx4_0z4 My5z4))) [0, 1, 2, 3, 4, 5, 6] (by decide) rfl
        have hP : va_P D classes ((wS54 cI cJ cZ cB p0 m0) ++ (wS58 cI cJ cZ cB m0 m1 m2 m3 m4 m5 Mx0_4 Mx0_5 Mx0_6z4 Mx0_7z4 Mx0_8 Mx0_9z4 Mx0_10z4 Mx0_11z4 Mx0_12z4 Mx0_13z4 My1 My2 Mx3_0 Mx4_0z4 My5z4)) H := hP
        have hD : va_D A ((wS54 cI cJ cZ cB p0 m0) ++ (wS58 cI cJ cZ cB m0 m1 m2 m3 m4 m5 Mx0_4 Mx0_5 Mx0_6z4 Mx0_7z4 Mx0_8 Mx0_9z4 Mx0_10z4 Mx0_11z4 Mx0_12z4 Mx0_13z4 My1 My2 Mx3_0 Mx4_0z4 My5z4)) := hD
        clear hPc hDc hFc
        refine W.widen (k := 1) (n := 4000) (by decide) (by decide) ?_
        refine va_putN (D := D) (ci := 1) (v := .int rz4) (ty := .int) (C := "SignMachine$Machine") (T := F_M) (N := 14) hx hb hk fi_M ft_M ft_M_ok fn_M hown hK.1 hP hD hS 1 rfl rfl 8 (by decide) (va_Nw.use rfl (hK.2 _ n_175)) (fun _ h9 => h9) rfl (by decide +kernel) rfl rfl (Nat.le_of_ble_eq_true rfl) d_S_step_11 (fun H locs hP hD hS => ?_)
        have hP : va_P D classes ((wS54 cI cJ cZ cB p0 m0) ++ (wS58 cI cJ cZ cB m0 m1 m2 m3 m4 m5 Mx0_4 Mx0_5 Mx0_6z4 Mx0_7z4 rz4 Mx0_9z4 Mx0_10z4 Mx0_11z4 Mx0_12z4 Mx0_13z4 My1 My2 Mx3_0 Mx4_0z4 My5z4)) H := hP
        have hD : va_D A ((wS54 cI cJ cZ cB p0 m0) ++ (wS58 cI cJ cZ cB m0 m1 m2 m3 m4 m5 Mx0_4 Mx0_5 Mx0_6z4 Mx0_7z4 rz4 Mx0_9z4 Mx0_10z4 Mx0_11z4 Mx0_12z4 Mx0_13z4 My1 My2 Mx3_0 Mx4_0z4 My5z4)) := hD
        refine lv_aload_n hx hb d_S_step_14 rfl (lv_at hl 0 rfl) ?_
        refine va_get (D := D) (ci := 0) (v := .ref m0) (C := "SignMachine") (T := F_S) (N := 2) hx hb hk fi_S hown hK.1 hP 0 rfl rfl 0 (by decide) (hk _ k_210) (fun _ h9 => h9) rfl d_S_step_15 ?_
        refine va_getN (D := D) (ci := 1) (v := .int rz4) (C := "SignMachine$Machine") (T := F_M) (N := 14) hx hb hk fi_M hown hK.1 hP 1 rfl rfl 8 (by decide) (va_Nw.use rfl (hK.2 _ n_175)) (fun _ h9 => h9) rfl d_S_step_18 ?_
        exact W.iret (v := rz4) hx hb hr (fun t ht hW => ⟨⟨rz4, (), rfl, trivial, ⟨_, isC_2, (by show va_P D classes _ t.heap; rw [ht]; exact hP), hD⟩⟩, hS.F ht⟩) hS.2.2 d_S_step_21
  · have hPc := hP.sub (ws' := (wS51 cI cJ cZ cB m0 m1 m2 m3 m4 Mx0_4 Mx0_5 Mx0_6 Mx0_7 Mx0_8 Mx0_9 Mx0_10 Mx0_11 Mx0_12 Mx0_13 My1 My2 Mx3_0 Mx4_0)) [1, 2, 3, 4, 5] rfl
    have hDc := hD.sub (ws' := (wS51 cI cJ cZ cB m0 m1 m2 m3 m4 Mx0_4 Mx0_5 Mx0_6 Mx0_7 Mx0_8 Mx0_9 Mx0_10 Mx0_11 Mx0_12 Mx0_13 My1 My2 Mx3_0 Mx4_0)) [1, 2, 3, 4, 5] (by decide) rfl
    have hFc := va_free (wc := (wS51 cI cJ cZ cB m0 m1 m2 m3 m4 Mx0_4 Mx0_5 Mx0_6 Mx0_7 Mx0_8 Mx0_9 Mx0_10 Mx0_11 Mx0_12 Mx0_13 My1 My2 Mx3_0 Mx4_0)) hD hS hA [1, 2, 3, 4, 5] rfl
    refine va_calli (va_runV (C := "SignMachine$Machine") (As := []) (rest := [.ref m0]) ⟨hx, hb, hml, hown, hk⟩ (c_M_execute_s3 l K D cI cJ cZ cB m0 m1 m2 m3 m4 s.heap.size Mx0_4 Mx0_5 Mx0_6 Mx0_7 Mx0_8 Mx0_9 Mx0_10 Mx0_11 Mx0_12 Mx0_13 My1 My2 Mx3_0 Mx4_0  q1) (v_M_execute_s3 hk k_258 ⟨Nat.le_of_ble_eq_true rfl, Nat.le_of_ble_eq_true rfl⟩) (pMC_v hK hPc hDc hC hS hA (ci := 1) (q0 := 0) rfl rfl rfl) rfl rfl hl.1 rfl (lv_room (Nat.le_of_ble_eq_true rfl)) d_S_step_8 ⟨by decide, by decide⟩) hS (fun q _ h => hFc q h) hFc (fun rz5 u t H locs ht hvm hr0 hB hz1 hk1 hS => ?_)
    obtain ⟨Mx0_4z5, Mx0_5z5, Mx0_6z5, Mx0_7z5, Mx0_9z5, Mx0_10z5, Mx0_11z5, Mx0_12z5, Mx0_13z5, My1z5, My2z5, Mx3_0z5, Mx4_0z5, hP1, hD1⟩ := hB
    rw [ht] at hP1
    obtain ⟨hP, hD⟩ := va_join (wr := (wS54 cI cJ cZ cB p0 m0)) (w1 := (wS51 cI cJ cZ cB m0 m1 m2 m3 m4 Mx0_4z5 Mx0_5z5 Mx0_6z5 Mx0_7z5 Mx0_8 Mx0_9z5 Mx0_10z5 Mx0_11z5 Mx0_12z5 Mx0_13z5 My1z5 My2z5 Mx3_0z5 Mx4_0z5)) hP hD [1, 2, 3, 4, 5] [0] rfl rfl (by decide) (by decide) hk1 hFc hP1 hD1
    have hP := hP.sub (ws' := ((wS54 cI cJ cZ cB p0 m0) ++ (wS51 cI cJ cZ cB m0 m1 m2 m3 m4 Mx0_4z5 Mx0_5z5 Mx0_6z5 Mx0_7z5 Mx0_8 Mx0_9z5 Mx0_10z5 Mx0_11z5 Mx0_12z5 Mx0_13z5 My1z5 My2z5 Mx3_0z5 Mx4_0z5))) [0, 1, 2, 3, 4, 5] rfl
    have hD := hD.sub (ws' := ((wS54 cI cJ cZ cB p0 m0) ++ (wS51 cI cJ cZ cB m0 m1 m2 m3 m4 Mx0_4z5 Mx0_5z5 Mx0_6z5 Mx0_7z5 Mx0_8 Mx0_9z5 Mx0_10z5 Mx0_11z5 Mx0_12z5 Mx0_13z5 My1z5 My2z5 Mx3_0z5 Mx4_0z5))) [0, 1, 2, 3, 4, 5] (by decide) rfl
    have hP : va_P D classes ((wS54 cI cJ cZ cB p0 m0) ++ (wS51 cI cJ cZ cB m0 m1 m2 m3 m4 Mx0_4z5 Mx0_5z5 Mx0_6z5 Mx0_7z5 Mx0_8 Mx0_9z5 Mx0_10z5 Mx0_11z5 Mx0_12z5 Mx0_13z5 My1z5 My2z5 Mx3_0z5 Mx4_0z5)) H := hP
    have hD : va_D A ((wS54 cI cJ cZ cB p0 m0) ++ (wS51 cI cJ cZ cB m0 m1 m2 m3 m4 Mx0_4z5 Mx0_5z5 Mx0_6z5 Mx0_7z5 Mx0_8 Mx0_9z5 Mx0_10z5 Mx0_11z5 Mx0_12z5 Mx0_13z5 My1z5 My2z5 Mx3_0z5 Mx4_0z5)) := hD
    clear hPc hDc hFc
    refine va_putN (D := D) (ci := 1) (v := .int rz5) (ty := .int) (C := "SignMachine$Machine") (T := F_M) (N := 14) hx hb hk fi_M ft_M ft_M_ok fn_M hown hK.1 hP hD hS 1 rfl rfl 8 (by decide) (va_Nw.use rfl (hK.2 _ n_175)) (fun _ h9 => h9) rfl (by decide +kernel) rfl rfl (Nat.le_of_ble_eq_true rfl) d_S_step_11 (fun H locs hP hD hS => ?_)
    have hP : va_P D classes ((wS54 cI cJ cZ cB p0 m0) ++ (wS51 cI cJ cZ cB m0 m1 m2 m3 m4 Mx0_4z5 Mx0_5z5 Mx0_6z5 Mx0_7z5 rz5 Mx0_9z5 Mx0_10z5 Mx0_11z5 Mx0_12z5 Mx0_13z5 My1z5 My2z5 Mx3_0z5 Mx4_0z5)) H := hP
    have hD : va_D A ((wS54 cI cJ cZ cB p0 m0) ++ (wS51 cI cJ cZ cB m0 m1 m2 m3 m4 Mx0_4z5 Mx0_5z5 Mx0_6z5 Mx0_7z5 rz5 Mx0_9z5 Mx0_10z5 Mx0_11z5 Mx0_12z5 Mx0_13z5 My1z5 My2z5 Mx3_0z5 Mx4_0z5)) := hD
    refine lv_aload_n hx hb d_S_step_14 rfl (lv_at hl 0 rfl) ?_
    refine va_get (D := D) (ci := 0) (v := .ref m0) (C := "SignMachine") (T := F_S) (N := 2) hx hb hk fi_S hown hK.1 hP 0 rfl rfl 0 (by decide) (hk _ k_210) (fun _ h9 => h9) rfl d_S_step_15 ?_
    refine va_getN (D := D) (ci := 1) (v := .int rz5) (C := "SignMachine$Machine") (T := F_M) (N := 14) hx hb hk fi_M hown hK.1 hP 1 rfl rfl 8 (by decide) (va_Nw.use rfl (hK.2 _ n_175)) (fun _ h9 => h9) rfl d_S_step_18 ?_
    refine W.widen (k := 1) (n := 4000) (by decide) (by decide) ?_
    exact W.iret (v := rz5) hx hb hr (fun t ht hW => ⟨⟨rz5, (), rfl, trivial, ⟨_, isC_0, (by show va_P D classes _ t.heap; rw [ht]; exact hP), hD⟩⟩, hS.F ht⟩) hS.2.2 d_S_step_21
theorem v_S_step_b11 {R : Room} {s : State} {args : Array Value} {own : String} {index : Nat} (hk : ∀ w ∈ tb, w.before args s = true) (hl : Cond.methodLink own index y_S_step ∈ tb) (hR : 7 + 1 ≤ R.frames ∧ 8 + (1 + 11) + 151 ≤ R.locals) : CallW R s args own "SignMachine" index y_S_step b_S_step 1 (some .int) (.code y_S_step b_S_step 1 (some .int) :: tb) ({ frames := 7, cells := 1, slots := 4000, locals := 151 }) 1 4000 0 := mk_v 0 hk k_257 hl k_255 k_256 k_116 rfl rfl h_S_step hR
set_option maxHeartbeats 4000000 in
set_option maxRecDepth 100000 in
theorem c_S_run_b11 (l : Launch) (K : CK) (D : va_G) (cI cJ cZ cB : ClassId) (p0 m0 m1 m2 m3 m4 : Nat) (sz : Nat) (Mx0_4 : Bool) (Mx0_5 : Int32) (Mx0_6 : Int32) (Mx0_7 : Int32) (Mx0_8 : Int32) (Mx0_9 : Int32) (Mx0_10 : Int32) (Mx0_11 : Int32) (Mx0_12 : Int32) (Mx0_13 : Int32) (My1 : Nat → Int32) (My2 : Nat → Int32) (Mx3_0 : Int32) (Mx4_0 : Int32)  (a1 : Int32) : Met l y_S_run (.code y_S_run b_S_run 5 (some .int) :: tb) ({ frames := 7, cells := 2, slots := 8000, locals := 151 }) (pMC K D cI cJ cZ cB ((wS54 cI cJ cZ cB p0 m0) ++ (wS51 cI cJ cZ cB m0 m1 m2 m3 m4 Mx0_4 Mx0_5 Mx0_6 Mx0_7 Mx0_8 Mx0_9 Mx0_10 Mx0_11 Mx0_12 Mx0_13 My1 My2 Mx3_0 Mx4_0)) sz [.ref p0, .int a1]) (va_Qi (fun r (_ : Unit) => True) (fun _ t => ∃ W9 : va_W, isC K cI cJ cZ cB p0 W9 ∧ va_P D classes W9 t.heap ∧ va_D (va_A ((wS54 cI cJ cZ cB p0 m0) ++ (wS51 cI cJ cZ cB m0 m1 m2 m3 m4 Mx0_4 Mx0_5 Mx0_6 Mx0_7 Mx0_8 Mx0_9 Mx0_10 Mx0_11 Mx0_12 Mx0_13 My1 My2 Mx3_0 Mx4_0)) sz) W9) (va_A ((wS54 cI cJ cZ cB p0 m0) ++ (wS51 cI cJ cZ cB m0 m1 m2 m3 m4 Mx0_4 Mx0_5 Mx0_6 Mx0_7 Mx0_8 Mx0_9 Mx0_10 Mx0_11 Mx0_12 Mx0_13 My1 My2 Mx3_0 Mx4_0)) sz)) 2 8000 (va_A ((wS54 cI cJ cZ cB p0 m0) ++ (wS51 cI cJ cZ cB m0 m1 m2 m3 m4 Mx0_4 Mx0_5 Mx0_6 Mx0_7 Mx0_8 Mx0_9 Mx0_10 Mx0_11 Mx0_12 Mx0_13 My1 My2 Mx3_0 Mx4_0)) sz) := by
  refine Met.ofW (cc := b_S_run) (maxL := 5) (ret := (some .int)) (by decide) rfl ?_
  intro p e s m args below meth c s₁ B hml hv
  obtain ⟨rfl, hsz, hK, hP, hD0, hC⟩ := hv
  subst hsz
  have hD := hD0.self (sz := s.heap.size)
  generalize hAe : va_A ((wS54 cI cJ cZ cB p0 m0) ++ (wS51 cI cJ cZ cB m0 m1 m2 m3 m4 Mx0_4 Mx0_5 Mx0_6 Mx0_7 Mx0_8 Mx0_9 Mx0_10 Mx0_11 Mx0_12 Mx0_13 My1 My2 Mx3_0 Mx4_0)) s.heap.size = A at hD hC ⊢
  have hA : ∀ q : Nat, s.heap.size ≤ q → A q := fun q h => by rw [← hAe]; exact Or.inr h
  clear hAe hD0
  have hS : va_S A s.heap s.heap [] := va_S.rf
  have hx := B.exec
  have hb := B.bytes
  have hr := B.returns
  have hts := atoms_spec (ws := .code y_S_run b_S_run 5 (some .int) :: tb) B.pre
  have hk : ∀ w ∈ tb, w.before [.ref p0, .int a1].toArray s = true := fun w h => hts w (List.mem_cons_of_mem _ h)
  have hown : s.vm.findClass "SignMachine" = some m.cls := findClass_of_methodNamed B.named
  have hlocks := B.notSynchronized
  have hl := lv_entry ([.ref p0, .int a1]) (n := 5) (Nat.le_of_ble_eq_true rfl)
  rw [lg_entry_eq]
  generalize (lg_sl ([.ref p0, .int a1]) ++ List.replicate (5 - (lg_sl ([.ref p0, .int a1])).length) Slot.unset).toArray = ls at hl ⊢
  have hl : lv_has ls 5 [(0, .ref p0), (1, .int a1)] := hl
  refine lv_iload_n hx hb d_S_run_0 rfl (lv_at hl 1 rfl) ?_
  refine lv_iconst (v := 1) hx hb d_S_run_1 (by decide) ?_
  refine lv_icmp_lt (tgt := 12) hx hb d_S_run_2 (by decide) (fun c1 => ?_) (fun c1 => ?_)
  · refine lv_iconst (v := (-1)) hx hb d_S_run_12 (by decide) ?_
    refine W.widen (k := 2) (n := 8000) (by decide) (by decide) ?_
    exact W.iret (v := (-1 : Int32)) hx hb hr (fun t ht hW => ⟨⟨(-1 : Int32), (), rfl, trivial, ⟨_, isC_0, (by show va_P D classes _ t.heap; rw [ht]; exact hP), hD⟩⟩, hS.F ht⟩) hS.2.2 d_S_run_13
  · refine lv_iload_n hx hb d_S_run_5 rfl (lv_at hl 1 rfl) ?_
    refine lv_sipush (v := 20000) hx hb d_S_run_6 (by decide) ?_
    refine lv_icmp_le (tgt := 14) hx hb d_S_run_9 (by decide) (fun c2 => ?_) (fun c2 => ?_)
    · refine lv_iconst (v := 0) hx hb d_S_run_14 (by decide) ?_
      refine lv_istore_n (lv' := [(2, .int (0 : Int32)), (0, .ref p0), (1, .int a1)]) hx hb d_S_run_15 rfl hl (by decide) rfl (fun ls hl => ?_)
      refine lv_iconst (v := 0) hx hb d_S_run_16 (by decide) ?_
      refine lv_istore_n (lv' := [(3, .int (0 : Int32)), (2, .int (0 : Int32)), (0, .ref p0), (1, .int a1)]) hx hb d_S_run_17 rfl hl (by decide) rfl (fun ls hl => ?_)
      refine lv_iconst (v := 0) hx hb d_S_run_18 (by decide) ?_
      refine lv_istore (lv' := [(4, .int (0 : Int32)), (3, .int (0 : Int32)), (2, .int (0 : Int32)), (0, .ref p0), (1, .int a1)]) hx hb d_S_run_19 hl (by decide) rfl (fun ls hl => ?_)
      have LP21_x0 : ∀ (n : Nat) (l4 : Int32) (l3 : Int32) (l2 : Int32) (Mx0_4 : Bool) (Mx0_5 : Int32) (Mx0_6 : Int32) (Mx0_7 : Int32) (Mx0_8 : Int32) (Mx0_9 : Int32) (Mx0_10 : Int32) (Mx0_11 : Int32) (Mx0_12 : Int32) (Mx0_13 : Int32) (My1 : Nat → Int32) (My2 : Nat → Int32) (Mx3_0 : Int32) (Mx4_0 : Int32) (H : Heap) (locs : List Loc) (ls : Array Slot), ((a1).toInt - (l4).toInt).toNat < n → ¬ l4 < (0 : Int32) → va_P D classes ((wS54 cI cJ cZ cB p0 m0) ++ (wS51 cI cJ cZ cB m0 m1 m2 m3 m4 Mx0_4 Mx0_5 Mx0_6 Mx0_7 Mx0_8 Mx0_9 Mx0_10 Mx0_11 Mx0_12 Mx0_13 My1 My2 Mx3_0 Mx4_0)) H → va_D A ((wS54 cI cJ cZ cB p0 m0) ++ (wS51 cI cJ cZ cB m0 m1 m2 m3 m4 Mx0_4 Mx0_5 Mx0_6 Mx0_7 Mx0_8 Mx0_9 Mx0_10 Mx0_11 Mx0_12 Mx0_13 My1 My2 Mx3_0 Mx4_0)) → va_S A s.heap H locs → lv_has ls 5 [(4, .int l4), (3, .int l3), (2, .int l2), (0, .ref p0), (1, .int a1)] → W p l e ({ frames := 7, cells := 2, slots := 8000, locals := 151 }) s m [.ref p0, .int a1].toArray below meth c H locs 0 0 (MQ below (va_Qi (fun r (_ : Unit) => True) (fun _ t => ∃ W9 : va_W, isC K cI cJ cZ cB p0 W9 ∧ va_P D classes W9 t.heap ∧ va_D A W9) A) [.ref p0, .int a1].toArray s 2 8000 A) (F0 m 21 ls []) := by
        intro n
        induction n with
        | zero => intro l4 l3 l2 Mx0_4 Mx0_5 Mx0_6 Mx0_7 Mx0_8 Mx0_9 Mx0_10 Mx0_11 Mx0_12 Mx0_13 My1 My2 Mx3_0 Mx4_0 H locs ls hn; exact absurd hn (Nat.not_lt_zero _)
        | succ n ih =>
          intro l4 l3 l2 Mx0_4 Mx0_5 Mx0_6 Mx0_7 Mx0_8 Mx0_9 Mx0_10 Mx0_11 Mx0_12 Mx0_13 My1 My2 Mx3_0 Mx4_0 H locs ls hn21_x0 hc21_x0 hP hD hS hl
          refine lv_iload hx hb d_S_run_21 (lv_at hl 0 rfl) ?_
          refine lv_iload_n hx hb d_S_run_23 rfl (lv_at hl 4 rfl) ?_
          refine lv_icmp_ge (tgt := 53) hx hb d_S_run_24 (by decide) (fun c3 => ?_) (fun c3 => ?_)
          · refine lv_aload_n hx hb d_S_run_53 rfl (lv_at hl 3 rfl) ?_
            refine va_get (D := D) (ci := 0) (v := .ref m0) (C := "SignMachine") (T := F_S) (N := 2) hx hb hk fi_S hown hK.1 hP 0 rfl rfl 0 (by decide) (hk _ k_210) (fun _ h9 => h9) rfl d_S_run_54 ?_
            refine lv_iload_n hx hb d_S_run_57 rfl (lv_at hl 1 rfl) ?_
            refine va_putN (D := D) (ci := 1) (v := .int l3) (ty := .int) (C := "SignMachine$Machine") (T := F_M) (N := 14) hx hb hk fi_M ft_M ft_M_ok fn_M hown hK.1 hP hD hS 1 rfl rfl 8 (by decide) (va_Nw.use rfl (hK.2 _ n_175)) (fun _ h9 => h9) rfl (by decide +kernel) rfl rfl (Nat.le_of_ble_eq_true rfl) d_S_run_58 (fun H locs hP hD hS => ?_)
            have hP : va_P D classes ((wS54 cI cJ cZ cB p0 m0) ++ (wS51 cI cJ cZ cB m0 m1 m2 m3 m4 Mx0_4 Mx0_5 Mx0_6 Mx0_7 l3 Mx0_9 Mx0_10 Mx0_11 Mx0_12 Mx0_13 My1 My2 Mx3_0 Mx4_0)) H := hP
            have hD : va_D A ((wS54 cI cJ cZ cB p0 m0) ++ (wS51 cI cJ cZ cB m0 m1 m2 m3 m4 Mx0_4 Mx0_5 Mx0_6 Mx0_7 l3 Mx0_9 Mx0_10 Mx0_11 Mx0_12 Mx0_13 My1 My2 Mx3_0 Mx4_0)) := hD
            refine lv_iload_n hx hb d_S_run_61 rfl (lv_at hl 2 rfl) ?_
            refine W.widen (k := 2) (n := 8000) (by decide) (by decide) ?_
            exact W.iret (v := l2) hx hb hr (fun t ht hW => ⟨⟨l2, (), rfl, trivial, ⟨_, isC_0, (by show va_P D classes _ t.heap; rw [ht]; exact hP), hD⟩⟩, hS.F ht⟩) hS.2.2 d_S_run_62
          · refine lv_iload_n hx hb d_S_run_27 rfl (lv_at hl 1 rfl) ?_
            refine lv_if_ne (tgt := 53) hx hb d_S_run_28 (by decide) (fun c4 => ?_) (fun c4 => ?_)
            · refine lv_aload_n hx hb d_S_run_53 rfl (lv_at hl 3 rfl) ?_
              refine va_get (D := D) (ci := 0) (v := .ref m0) (C := "SignMachine") (T := F_S) (N := 2) hx hb hk fi_S hown hK.1 hP 0 rfl rfl 0 (by decide) (hk _ k_210) (fun _ h9 => h9) rfl d_S_run_54 ?_
              refine lv_iload_n hx hb d_S_run_57 rfl (lv_at hl 1 rfl) ?_
              refine va_putN (D := D) (ci := 1) (v := .int l3) (ty := .int) (C := "SignMachine$Machine") (T := F_M) (N := 14) hx hb hk fi_M ft_M ft_M_ok fn_M hown hK.1 hP hD hS 1 rfl rfl 8 (by decide) (va_Nw.use rfl (hK.2 _ n_175)) (fun _ h9 => h9) rfl (by decide +kernel) rfl rfl (Nat.le_of_ble_eq_true rfl) d_S_run_58 (fun H locs hP hD hS => ?_)
              have hP : va_P D classes ((wS54 cI cJ cZ cB p0 m0) ++ (wS51 cI cJ cZ cB m0 m1 m2 m3 m4 Mx0_4 Mx0_5 Mx0_6 Mx0_7 l3 Mx0_9 Mx0_10 Mx0_11 Mx0_12 Mx0_13 My1 My2 Mx3_0 Mx4_0)) H := hP
              have hD : va_D A ((wS54 cI cJ cZ cB p0 m0) ++ (wS51 cI cJ cZ cB m0 m1 m2 m3 m4 Mx0_4 Mx0_5 Mx0_6 Mx0_7 l3 Mx0_9 Mx0_10 Mx0_11 Mx0_12 Mx0_13 My1 My2 Mx3_0 Mx4_0)) := hD
              refine lv_iload_n hx hb d_S_run_61 rfl (lv_at hl 2 rfl) ?_
              refine W.widen (k := 2) (n := 8000) (by decide) (by decide) ?_
              exact W.iret (v := l2) hx hb hr (fun t ht hW => ⟨⟨l2, (), rfl, trivial, ⟨_, isC_0, (by show va_P D classes _ t.heap; rw [ht]; exact hP), hD⟩⟩, hS.F ht⟩) hS.2.2 d_S_run_62
            · refine lv_aload_n hx hb d_S_run_31 rfl (lv_at hl 3 rfl) ?_
              refine va_get (D := D) (ci := 0) (v := .ref m0) (C := "SignMachine") (T := F_S) (N := 2) hx hb hk fi_S hown hK.1 hP 0 rfl rfl 0 (by decide) (hk _ k_210) (fun _ h9 => h9) rfl d_S_run_32 ?_
              by_cases q5 : ((f_W_size (f_mw My1 Mx0_7)) &&& (63 : Int32)) = (37 : Int32)
              · by_cases q6 : (((f_W_size (f_mw My1 Mx0_7)) >>> ((6 : Int32) &&& (31 : Int32))) &&& (63 : Int32)) = (0 : Int32)
                · have hPc := hP.sub (ws' := (wS51 cI cJ cZ cB m0 m1 m2 m3 m4 Mx0_4 Mx0_5 Mx0_6 Mx0_7 Mx0_8 Mx0_9 Mx0_10 Mx0_11 Mx0_12 Mx0_13 My1 My2 Mx3_0 Mx4_0)) [1, 2, 3, 4, 5] rfl
                  have hDc := hD.sub (ws' := (wS51 cI cJ cZ cB m0 m1 m2 m3 m4 Mx0_4 Mx0_5 Mx0_6 Mx0_7 Mx0_8 Mx0_9 Mx0_10 Mx0_11 Mx0_12 Mx0_13 My1 My2 Mx3_0 Mx4_0)) [1, 2, 3, 4, 5] (by decide) rfl
                  have hFc := va_free (wc := (wS51 cI cJ cZ cB m0 m1 m2 m3 m4 Mx0_4 Mx0_5 Mx0_6 Mx0_7 Mx0_8 Mx0_9 Mx0_10 Mx0_11 Mx0_12 Mx0_13 My1 My2 Mx3_0 Mx4_0)) hD hS hA [1, 2, 3, 4, 5] rfl
                  refine va_calli (va_runV (C := "SignMachine$Machine") (As := []) (rest := []) ⟨hx, hb, hml, hown, hk⟩ (c_M_execute_s1 l K D cI cJ cZ cB m0 m1 m2 m3 m4 H.size Mx0_4 Mx0_5 Mx0_6 Mx0_7 Mx0_8 Mx0_9 Mx0_10 Mx0_11 Mx0_12 Mx0_13 My1 My2 Mx3_0 Mx4_0  q5 q6) (v_M_execute_s1 hk k_258 ⟨Nat.le_of_ble_eq_true rfl, Nat.le_of_ble_eq_true rfl⟩) (pMC_v hK hPc hDc hC hS hA (ci := 1) (q0 := 0) rfl rfl rfl) rfl rfl hl.1 rfl (lv_room (Nat.le_of_ble_eq_true rfl)) d_S_run_35 ⟨by decide, by decide⟩) hS (fun q _ h => hFc q h) hFc (fun rz7 u t H locs ht hvm hr0 hB hz1 hk1 hS => ?_)
                  subst hr0
                  rcases hB with ⟨hzz7, Mx0_6z7, Mx0_7z7, Mx0_9z7, Mx0_10z7, Mx0_11z7, Mx0_12z7, Mx0_13z7, Mx3_0z7, hP1, hD1⟩ | ⟨m5, Mx0_6z7, Mx0_7z7, Mx0_9z7, Mx0_10z7, Mx0_11z7, Mx0_12z7, Mx0_13z7, Mx3_0z7, My5z7, hP1, hD1⟩
                  · rw [ht] at hP1
                    obtain ⟨hP, hD⟩ := va_join (wr := (wS54 cI cJ cZ cB p0 m0)) (w1 := (wS51 cI cJ cZ cB m0 m1 m2 m3 m4 Mx0_4 Mx0_5 Mx0_6z7 Mx0_7z7 Mx0_8 Mx0_9z7 Mx0_10z7 Mx0_11z7 Mx0_12z7 Mx0_13z7 My1 My2 Mx3_0z7 Mx4_0)) hP hD [1, 2, 3, 4, 5] [0] rfl rfl (by decide) (by decide) hk1 hFc hP1 hD1
                    have hP := hP.sub (ws' := ((wS54 cI cJ cZ cB p0 m0) ++ (wS51 cI cJ cZ cB m0 m1 m2 m3 m4 Mx0_4 Mx0_5 Mx0_6z7 Mx0_7z7 Mx0_8 Mx0_9z7 Mx0_10z7 Mx0_11z7 Mx0_12z7 Mx0_13z7 My1 My2 Mx3_0z7 Mx4_0))) [0, 1, 2, 3, 4, 5] rfl
                    have hD := hD.sub (ws' := ((wS54 cI cJ cZ cB p0 m0) ++ (wS51 cI cJ cZ cB m0 m1 m2 m3 m4 Mx0_4 Mx0_5 Mx0_6z7 Mx0_7z7 Mx0_8 Mx0_9z7 Mx0_10z7 Mx0_11z7 Mx0_12z7 Mx0_13z7 My1 My2 Mx3_0z7 Mx4_0))) [0, 1, 2, 3, 4, 5] (by decide) rfl
                    have hP : va_P D classes ((wS54 cI cJ cZ cB p0 m0) ++ (wS51 cI cJ cZ cB m0 m1 m2 m3 m4 Mx0_4 Mx0_5 Mx0_6z7 Mx0_7z7 Mx0_8 Mx0_9z7 Mx0_10z7 Mx0_11z7 Mx0_12z7 Mx0_13z7 My1 My2 Mx3_0z7 Mx4_0)) H := hP
                    have hD : va_D A ((wS54 cI cJ cZ cB p0 m0) ++ (wS51 cI cJ cZ cB m0 m1 m2 m3 m4 Mx0_4 Mx0_5 Mx0_6z7 Mx0_7z7 Mx0_8 Mx0_9z7 Mx0_10z7 Mx0_11z7 Mx0_12z7 Mx0_13z7 My1 My2 Mx3_0z7 Mx4_0)) := hD
                    clear hPc hDc hFc
                    refine W.widen (k := 1) (n := 4000) (by decide) (by decide) ?_
                    refine lv_istore_n (lv' := [(3, .int rz7), (4, .int l4), (2, .int l2), (0, .ref p0), (1, .int a1)]) hx hb d_S_run_38 rfl hl (by decide) rfl (fun ls hl => ?_)
                    refine lv_iload_n hx hb d_S_run_39 rfl (lv_at hl 0 rfl) ?_
                    refine lv_iconst (v := 1) hx hb d_S_run_40 (by decide) ?_
                    refine lv_icmp_gt (tgt := 47) hx hb d_S_run_41 (by decide) (fun c8 => ?_) (fun c8 => ?_)
                    · obtain ⟨v9, hv9⟩ : ∃ y : Int32, y = (l4 + (1 : Int32)) := ⟨_, rfl⟩
                      refine lv_iinc (v := v9) (lv' := [(4, .int v9), (3, .int rz7), (2, .int l2), (0, .ref p0), (1, .int a1)]) hx hb d_S_run_47 hl (k := 1) rfl (by rw [hv9]; rfl) (by decide) rfl (fun ls hl => ?_)
                      refine lv_goto (tgt := 21) hx hb d_S_run_50 (by decide) ?_
                      exact ih v9 rz7 l2 Mx0_4 Mx0_5 Mx0_6z7 Mx0_7z7 Mx0_8 Mx0_9z7 Mx0_10z7 Mx0_11z7 Mx0_12z7 Mx0_13z7 My1 My2 Mx3_0z7 Mx4_0 H _ ls (lpu c3 hv9 hn21_x0) (lpn hc21_x0 c3 hv9) hP hD hS (lv_sub hl [0, 1, 2, 3, 4] rfl)
                    · obtain ⟨v10, hv10⟩ : ∃ y : Int32, y = (l2 + (1 : Int32)) := ⟨_, rfl⟩
                      refine lv_iinc (v := v10) (lv' := [(2, .int v10), (3, .int rz7), (4, .int l4), (0, .ref p0), (1, .int a1)]) hx hb d_S_run_44 hl (k := 2) rfl (by rw [hv10]; rfl) (by decide) rfl (fun ls hl => ?_)
                      obtain ⟨v11, hv11⟩ : ∃ y : Int32, y = (l4 + (1 : Int32)) := ⟨_, rfl⟩
                      refine lv_iinc (v := v11) (lv' := [(4, .int v11), (2, .int v10), (3, .int rz7), (0, .ref p0), (1, .int a1)]) hx hb d_S_run_47 hl (k := 2) rfl (by rw [hv11]; rfl) (by decide) rfl (fun ls hl => ?_)
                      refine lv_goto (tgt := 21) hx hb d_S_run_50 (by decide) ?_
                      exact ih v11 rz7 v10 Mx0_4 Mx0_5 Mx0_6z7 Mx0_7z7 Mx0_8 Mx0_9z7 Mx0_10z7 Mx0_11z7 Mx0_12z7 Mx0_13z7 My1 My2 Mx3_0z7 Mx4_0 H _ ls (lpu c3 hv11 hn21_x0) (lpn hc21_x0 c3 hv11) hP hD hS (lv_sub hl [0, 2, 1, 3, 4] rfl)
                  · rw [ht] at hP1
                    obtain ⟨hP, hD⟩ := va_join (wr := (wS54 cI cJ cZ cB p0 m0)) (w1 := (wS57 cI cJ cZ cB m0 m1 m2 m3 m4 m5 Mx0_4 Mx0_5 Mx0_6z7 Mx0_7z7 Mx0_8 Mx0_9z7 Mx0_10z7 Mx0_11z7 Mx0_12z7 Mx0_13z7 My1 My2 Mx3_0z7 Mx4_0 My5z7)) hP hD [1, 2, 3, 4, 5] [0] rfl rfl (by decide) (by decide) hk1 hFc hP1 hD1
                    have hP := hP.sub (ws' := ((wS54 cI cJ cZ cB p0 m0) ++ (wS57 cI cJ cZ cB m0 m1 m2 m3 m4 m5 Mx0_4 Mx0_5 Mx0_6z7 Mx0_7z7 Mx0_8 Mx0_9z7 Mx0_10z7 Mx0_11z7 Mx0_12z7 Mx0_13z7 My1 My2 Mx3_0z7 Mx4_0 My5z7))) [0, 1, 2, 3, 4, 5, 6] rfl
                    have hD := hD.sub (ws' := ((wS54 cI cJ cZ cB p0 m0) ++ (wS57 cI cJ cZ cB m0 m1 m2 m3 m4 m5 Mx0_4 Mx0_5 Mx0_6z7 Mx0_7z7 Mx0_8 Mx0_9z7 Mx0_10z7 Mx0_11z7 Mx0_12z7 Mx0_13z7 My1 My2 Mx3_0z7 Mx4_0 My5z7))) [0, 1, 2, 3, 4, 5, 6] (by decide) rfl
                    have hP : va_P D classes ((wS54 cI cJ cZ cB p0 m0) ++ (wS57 cI cJ cZ cB m0 m1 m2 m3 m4 m5 Mx0_4 Mx0_5 Mx0_6z7 Mx0_7z7 Mx0_8 Mx0_9z7 Mx0_10z7 Mx0_11z7 Mx0_12z7 Mx0_13z7 My1 My2 Mx3_0z7 Mx4_0 My5z7)) H := hP
                    have hD : va_D A ((wS54 cI cJ cZ cB p0 m0) ++ (wS57 cI cJ cZ cB m0 m1 m2 m3 m4 m5 Mx0_4 Mx0_5 Mx0_6z7 Mx0_7z7 Mx0_8 Mx0_9z7 Mx0_10z7 Mx0_11z7 Mx0_12z7 Mx0_13z7 My1 My2 Mx3_0z7 Mx4_0 My5z7)) := hD
                    clear hPc hDc hFc
                    refine W.widen (k := 1) (n := 4000) (by decide) (by decide) ?_
                    refine lv_istore_n (lv' := [(3, .int rz7), (4, .int l4), (2, .int l2), (0, .ref p0), (1, .int a1)]) hx hb d_S_run_38 rfl hl (by decide) rfl (fun ls hl => ?_)
                    refine lv_iload_n hx hb d_S_run_39 rfl (lv_at hl 0 rfl) ?_
                    refine lv_iconst (v := 1) hx hb d_S_run_40 (by decide) ?_
                    refine lv_icmp_gt (tgt := 47) hx hb d_S_run_41 (by decide) (fun c12 => ?_) (fun c12 => ?_)
                    · obtain ⟨v13, hv13⟩ : ∃ y : Int32, y = (l4 + (1 : Int32)) := ⟨_, rfl⟩
                      refine lv_iinc (v := v13) (lv' := [(4, .int v13), (3, .int rz7), (2, .int l2), (0, .ref p0), (1, .int a1)]) hx hb d_S_run_47 hl (k := 1) rfl (by rw [hv13]; rfl) (by decide) rfl (fun ls hl => ?_)
                      refine lv_goto (tgt := 21) hx hb d_S_run_50 (by decide) ?_
                      have LP21_x1 : ∀ (n : Nat) (l4 : Int32) (l3 : Int32) (l2 : Int32) (Mx0_4 : Bool) (Mx0_5 : Int32) (Mx0_6 : Int32) (Mx0_7 : Int32) (Mx0_8 : Int32) (Mx0_9 : Int32) (Mx0_10 : Int32) (Mx0_11 : Int32) (Mx0_12 : Int32) (Mx0_13 : Int32) (My1 : Nat → Int32) (My2 : Nat → Int32) (Mx3_0 : Int32) (Mx4_0 : Int32) (My5 : Nat → Int32) (H : Heap) (locs : List Loc) (ls : Array Slot), ((a1).toInt - (l4).toInt).toNat < n → ¬ l4 < (0 : Int32) → va_P D classes ((wS54 cI cJ cZ cB p0 m0) ++ (wS57 cI cJ cZ cB m0 m1 m2 m3 m4 m5 Mx0_4 Mx0_5 Mx0_6 Mx0_7 Mx0_8 Mx0_9 Mx0_10 Mx0_11 Mx0_12 Mx0_13 My1 My2 Mx3_0 Mx4_0 My5)) H → va_D A ((wS54 cI cJ cZ cB p0 m0) ++ (wS57 cI cJ cZ cB m0 m1 m2 m3 m4 m5 Mx0_4 Mx0_5 Mx0_6 Mx0_7 Mx0_8 Mx0_9 Mx0_10 Mx0_11 Mx0_12 Mx0_13 My1 My2 Mx3_0 Mx4_0 My5)) → va_S A s.heap H locs → lv_has ls 5 [(4, .int l4), (3, .int l3), (2, .int l2), (0, .ref p0), (1, .int a1)] → W p l e ({ frames := 7, cells := 2, slots := 8000, locals := 151 }) s m [.ref p0, .int a1].toArray below meth c H locs 1 4000 (MQ below (va_Qi (fun r (_ : Unit) => True) (fun _ t => ∃ W9 : va_W, isC K cI cJ cZ cB p0 W9 ∧ va_P D classes W9 t.heap ∧ va_D A W9) A) [.ref p0, .int a1].toArray s 2 8000 A) (F0 m 21 ls []) := by
                        intro n
                        induction n with
                        | zero => intro l4 l3 l2 Mx0_4 Mx0_5 Mx0_6 Mx0_7 Mx0_8 Mx0_9 Mx0_10 Mx0_11 Mx0_12 Mx0_13 My1 My2 Mx3_0 Mx4_0 My5 H locs ls hn; exact absurd hn (Nat.not_lt_zero _)
                        | succ n ih =>
                          intro l4 l3 l2 Mx0_4 Mx0_5 Mx0_6 Mx0_7 Mx0_8 Mx0_9 Mx0_10 Mx0_11 Mx0_12 Mx0_13 My1 My2 Mx3_0 Mx4_0 My5 H locs ls hn21_x1 hc21_x1 hP hD hS hl
                          refine lv_iload hx hb d_S_run_21 (lv_at hl 0 rfl) ?_
                          refine lv_iload_n hx hb d_S_run_23 rfl (lv_at hl 4 rfl) ?_
                          refine lv_icmp_ge (tgt := 53) hx hb d_S_run_24 (by decide) (fun c14 => ?_) (fun c14 => ?_)
                          · refine lv_aload_n hx hb d_S_run_53 rfl (lv_at hl 3 rfl) ?_
                            refine va_get (D := D) (ci := 0) (v := .ref m0) (C := "SignMachine") (T := F_S) (N := 2) hx hb hk fi_S hown hK.1 hP 0 rfl rfl 0 (by decide) (hk _ k_210) (fun _ h9 => h9) rfl d_S_run_54 ?_
                            refine lv_iload_n hx hb d_S_run_57 rfl (lv_at hl 1 rfl) ?_
                            refine va_putN (D := D) (ci := 1) (v := .int l3) (ty := .int) (C := "SignMachine$Machine") (T := F_M) (N := 14) hx hb hk fi_M ft_M ft_M_ok fn_M hown hK.1 hP hD hS 1 rfl rfl 8 (by decide) (va_Nw.use rfl (hK.2 _ n_175)) (fun _ h9 => h9) rfl (by decide +kernel) rfl rfl (Nat.le_of_ble_eq_true rfl) d_S_run_58 (fun H locs hP hD hS => ?_)
                            have hP : va_P D classes ((wS54 cI cJ cZ cB p0 m0) ++ (wS57 cI cJ cZ cB m0 m1 m2 m3 m4 m5 Mx0_4 Mx0_5 Mx0_6 Mx0_7 l3 Mx0_9 Mx0_10 Mx0_11 Mx0_12 Mx0_13 My1 My2 Mx3_0 Mx4_0 My5)) H := hP
                            have hD : va_D A ((wS54 cI cJ cZ cB p0 m0) ++ (wS57 cI cJ cZ cB m0 m1 m2 m3 m4 m5 Mx0_4 Mx0_5 Mx0_6 Mx0_7 l3 Mx0_9 Mx0_10 Mx0_11 Mx0_12 Mx0_13 My1 My2 Mx3_0 Mx4_0 My5)) := hD
                            refine lv_iload_n hx hb d_S_run_61 rfl (lv_at hl 2 rfl) ?_
                            refine W.widen (k := 2) (n := 8000) (by decide) (by decide) ?_
                            exact W.iret (v := l2) hx hb hr (fun t ht hW => ⟨⟨l2, (), rfl, trivial, ⟨_, isC_1, (by show va_P D classes _ t.heap; rw [ht]; exact hP), hD⟩⟩, hS.F ht⟩) hS.2.2 d_S_run_62
                          · refine lv_iload_n hx hb d_S_run_27 rfl (lv_at hl 1 rfl) ?_
                            refine lv_if_ne (tgt := 53) hx hb d_S_run_28 (by decide) (fun c15 => ?_) (fun c15 => ?_)
                            · refine lv_aload_n hx hb d_S_run_53 rfl (lv_at hl 3 rfl) ?_
                              refine va_get (D := D) (ci := 0) (v := .ref m0) (C := "SignMachine") (T := F_S) (N := 2) hx hb hk fi_S hown hK.1 hP 0 rfl rfl 0 (by decide) (hk _ k_210) (fun _ h9 => h9) rfl d_S_run_54 ?_
                              refine lv_iload_n hx hb d_S_run_57 rfl (lv_at hl 1 rfl) ?_
                              refine va_putN (D := D) (ci := 1) (v := .int l3) (ty := .int) (C := "SignMachine$Machine") (T := F_M) (N := 14) hx hb hk fi_M ft_M ft_M_ok fn_M hown hK.1 hP hD hS 1 rfl rfl 8 (by decide) (va_Nw.use rfl (hK.2 _ n_175)) (fun _ h9 => h9) rfl (by decide +kernel) rfl rfl (Nat.le_of_ble_eq_true rfl) d_S_run_58 (fun H locs hP hD hS => ?_)
                              have hP : va_P D classes ((wS54 cI cJ cZ cB p0 m0) ++ (wS57 cI cJ cZ cB m0 m1 m2 m3 m4 m5 Mx0_4 Mx0_5 Mx0_6 Mx0_7 l3 Mx0_9 Mx0_10 Mx0_11 Mx0_12 Mx0_13 My1 My2 Mx3_0 Mx4_0 My5)) H := hP
                              have hD : va_D A ((wS54 cI cJ cZ cB p0 m0) ++ (wS57 cI cJ cZ cB m0 m1 m2 m3 m4 m5 Mx0_4 Mx0_5 Mx0_6 Mx0_7 l3 Mx0_9 Mx0_10 Mx0_11 Mx0_12 Mx0_13 My1 My2 Mx3_0 Mx4_0 My5)) := hD
                              refine lv_iload_n hx hb d_S_run_61 rfl (lv_at hl 2 rfl) ?_
                              refine W.widen (k := 2) (n := 8000) (by decide) (by decide) ?_
                              exact W.iret (v := l2) hx hb hr (fun t ht hW => ⟨⟨l2, (), rfl, trivial, ⟨_, isC_1, (by show va_P D classes _ t.heap; rw [ht]; exact hP), hD⟩⟩, hS.F ht⟩) hS.2.2 d_S_run_62
                            · refine lv_aload_n hx hb d_S_run_31 rfl (lv_at hl 3 rfl) ?_
                              refine va_get (D := D) (ci := 0) (v := .ref m0) (C := "SignMachine") (T := F_S) (N := 2) hx hb hk fi_S hown hK.1 hP 0 rfl rfl 0 (by decide) (hk _ k_210) (fun _ h9 => h9) rfl d_S_run_32 ?_
                              by_cases q16 : ((f_W_size (f_mw My1 Mx0_7)) &&& (63 : Int32)) = (37 : Int32)
                              · by_cases q17 : (((f_W_size (f_mw My1 Mx0_7)) >>> ((6 : Int32) &&& (31 : Int32))) &&& (63 : Int32)) = (0 : Int32)
                                · have hPc := hP.sub (ws' := (wS57 cI cJ cZ cB m0 m1 m2 m3 m4 m5 Mx0_4 Mx0_5 Mx0_6 Mx0_7 Mx0_8 Mx0_9 Mx0_10 Mx0_11 Mx0_12 Mx0_13 My1 My2 Mx3_0 Mx4_0 My5)) [1, 2, 3, 4, 5, 6] rfl
                                  have hDc := hD.sub (ws' := (wS57 cI cJ cZ cB m0 m1 m2 m3 m4 m5 Mx0_4 Mx0_5 Mx0_6 Mx0_7 Mx0_8 Mx0_9 Mx0_10 Mx0_11 Mx0_12 Mx0_13 My1 My2 Mx3_0 Mx4_0 My5)) [1, 2, 3, 4, 5, 6] (by decide) rfl
                                  have hFc := va_free (wc := (wS57 cI cJ cZ cB m0 m1 m2 m3 m4 m5 Mx0_4 Mx0_5 Mx0_6 Mx0_7 Mx0_8 Mx0_9 Mx0_10 Mx0_11 Mx0_12 Mx0_13 My1 My2 Mx3_0 Mx4_0 My5)) hD hS hA [1, 2, 3, 4, 5, 6] rfl
                                  refine va_calli (va_runV (C := "SignMachine$Machine") (As := []) (rest := []) ⟨hx, hb, hml, hown, hk⟩ (c_M_execute_s4 l K D cI cJ cZ cB m0 m1 m2 m3 m4 m5 H.size Mx0_4 Mx0_5 Mx0_6 Mx0_7 Mx0_8 Mx0_9 Mx0_10 Mx0_11 Mx0_12 Mx0_13 My1 My2 Mx3_0 Mx4_0 My5  q16 q17) (v_M_execute_s4 hk k_258 ⟨Nat.le_of_ble_eq_true rfl, Nat.le_of_ble_eq_true rfl⟩) (pMC_v hK hPc hDc hC hS hA (ci := 1) (q0 := 0) rfl rfl rfl) rfl rfl hl.1 rfl (lv_room (Nat.le_of_ble_eq_true rfl)) d_S_run_35 ⟨by decide, by decide⟩) hS (fun q _ h => hFc q h) hFc (fun rz18 u t H locs ht hvm hr0 hB hz1 hk1 hS => ?_)
                                  obtain ⟨Mx0_6z18, Mx0_7z18, Mx0_9z18, Mx0_10z18, Mx0_11z18, Mx0_12z18, Mx0_13z18, Mx3_0z18, My5z18, hP1, hD1⟩ := hB
                                  rw [ht] at hP1
                                  obtain ⟨hP, hD⟩ := va_join (wr := (wS54 cI cJ cZ cB p0 m0)) (w1 := (wS57 cI cJ cZ cB m0 m1 m2 m3 m4 m5 Mx0_4 Mx0_5 Mx0_6z18 Mx0_7z18 Mx0_8 Mx0_9z18 Mx0_10z18 Mx0_11z18 Mx0_12z18 Mx0_13z18 My1 My2 Mx3_0z18 Mx4_0 My5z18)) hP hD [1, 2, 3, 4, 5, 6] [0] rfl rfl (by decide) (by decide) hk1 hFc hP1 hD1
                                  have hP := hP.sub (ws' := ((wS54 cI cJ cZ cB p0 m0) ++ (wS57 cI cJ cZ cB m0 m1 m2 m3 m4 m5 Mx0_4 Mx0_5 Mx0_6z18 Mx0_7z18 Mx0_8 Mx0_9z18 Mx0_10z18 Mx0_11z18 Mx0_12z18 Mx0_13z18 My1 My2 Mx3_0z18 Mx4_0 My5z18))) [0, 1, 2, 3, 4, 5, 6] rfl
                                  have hD := hD.sub (ws' := ((wS54 cI cJ cZ cB p0 m0) ++ (wS57 cI cJ cZ cB m0 m1 m2 m3 m4 m5 Mx0_4 Mx0_5 Mx0_6z18 Mx0_7z18 Mx0_8 Mx0_9z18 Mx0_10z18 Mx0_11z18 Mx0_12z18 Mx0_13z18 My1 My2 Mx3_0z18 Mx4_0 My5z18))) [0, 1, 2, 3, 4, 5, 6] (by decide) rfl
                                  have hP : va_P D classes ((wS54 cI cJ cZ cB p0 m0) ++ (wS57 cI cJ cZ cB m0 m1 m2 m3 m4 m5 Mx0_4 Mx0_5 Mx0_6z18 Mx0_7z18 Mx0_8 Mx0_9z18 Mx0_10z18 Mx0_11z18 Mx0_12z18 Mx0_13z18 My1 My2 Mx3_0z18 Mx4_0 My5z18)) H := hP
                                  have hD : va_D A ((wS54 cI cJ cZ cB p0 m0) ++ (wS57 cI cJ cZ cB m0 m1 m2 m3 m4 m5 Mx0_4 Mx0_5 Mx0_6z18 Mx0_7z18 Mx0_8 Mx0_9z18 Mx0_10z18 Mx0_11z18 Mx0_12z18 Mx0_13z18 My1 My2 Mx3_0z18 Mx4_0 My5z18)) := hD
                                  clear hPc hDc hFc
                                  refine lv_istore_n (lv' := [(3, .int rz18), (4, .int l4), (2, .int l2), (0, .ref p0), (1, .int a1)]) hx hb d_S_run_38 rfl hl (by decide) rfl (fun ls hl => ?_)
                                  refine lv_iload_n hx hb d_S_run_39 rfl (lv_at hl 0 rfl) ?_
                                  refine lv_iconst (v := 1) hx hb d_S_run_40 (by decide) ?_
                                  refine lv_icmp_gt (tgt := 47) hx hb d_S_run_41 (by decide) (fun c19 => ?_) (fun c19 => ?_)
                                  · obtain ⟨v20, hv20⟩ : ∃ y : Int32, y = (l4 + (1 : Int32)) := ⟨_, rfl⟩
                                    refine lv_iinc (v := v20) (lv' := [(4, .int v20), (3, .int rz18), (2, .int l2), (0, .ref p0), (1, .int a1)]) hx hb d_S_run_47 hl (k := 1) rfl (by rw [hv20]; rfl) (by decide) rfl (fun ls hl => ?_)
                                    refine lv_goto (tgt := 21) hx hb d_S_run_50 (by decide) ?_
                                    exact ih v20 rz18 l2 Mx0_4 Mx0_5 Mx0_6z18 Mx0_7z18 Mx0_8 Mx0_9z18 Mx0_10z18 Mx0_11z18 Mx0_12z18 Mx0_13z18 My1 My2 Mx3_0z18 Mx4_0 My5z18 H _ ls (lpu c14 hv20 hn21_x1) (lpn hc21_x1 c14 hv20) hP hD hS (lv_sub hl [0, 1, 2, 3, 4] rfl)
                                  · obtain ⟨v21, hv21⟩ : ∃ y : Int32, y = (l2 + (1 : Int32)) := ⟨_, rfl⟩
                                    refine lv_iinc (v := v21) (lv' := [(2, .int v21), (3, .int rz18), (4, .int l4), (0, .ref p0), (1, .int a1)]) hx hb d_S_run_44 hl (k := 2) rfl (by rw [hv21]; rfl) (by decide) rfl (fun ls hl => ?_)
                                    obtain ⟨v22, hv22⟩ : ∃ y : Int32, y = (l4 + (1 : Int32)) := ⟨_, rfl⟩
                                    refine lv_iinc (v := v22) (lv' := [(4, .int v22), (2, .int v21), (3, .int rz18), (0, .ref p0), (1, .int a1)]) hx hb d_S_run_47 hl (k := 2) rfl (by rw [hv22]; rfl) (by decide) rfl (fun ls hl => ?_)
                                    refine lv_goto (tgt := 21) hx hb d_S_run_50 (by decide) ?_
                                    exact ih v22 rz18 v21 Mx0_4 Mx0_5 Mx0_6z18 Mx0_7z18 Mx0_8 Mx0_9z18 Mx0_10z18 Mx0_11z18 Mx0_12z18 Mx0_13z18 My1 My2 Mx3_0z18 Mx4_0 My5z18 H _ ls (lpu c14 hv22 hn21_x1) (lpn hc21_x1 c14 hv22) hP hD hS (lv_sub hl [0, 2, 1, 3, 4] rfl)
                                · have hPc := hP.sub (ws' := (wS57 cI cJ cZ cB m0 m1 m2 m3 m4 m5 Mx0_4 Mx0_5 Mx0_6 Mx0_7 Mx0_8 Mx0_9 Mx0_10 Mx0_11 Mx0_12 Mx0_13 My1 My2 Mx3_0 Mx4_0 My5)) [1, 2, 3, 4, 5, 6] rfl
                                  have hDc := hD.sub (ws' := (wS57 cI cJ cZ cB m0 m1 m2 m3 m4 m5 Mx0_4 Mx0_5 Mx0_6 Mx0_7 Mx0_8 Mx0_9 Mx0_10 Mx0_11 Mx0_12 Mx0_13 My1 My2 Mx3_0 Mx4_0 My5)) [1, 2, 3, 4, 5, 6] (by decide) rfl
                                  have hFc := va_free (wc := (wS57 cI cJ cZ cB m0 m1 m2 m3 m4 m5 Mx0_4 Mx0_5 Mx0_6 Mx0_7 Mx0_8 Mx0_9 Mx0_10 Mx0_11 Mx0_12 Mx0_13 My1 My2 Mx3_0 Mx4_0 My5)) hD hS hA [1, 2, 3, 4, 5, 6] rfl
                                  refine va_calli (va_runV (C := "SignMachine$Machine") (As := []) (rest := []) ⟨hx, hb, hml, hown, hk⟩ (c_M_execute_s5 l K D cI cJ cZ cB m0 m1 m2 m3 m4 m5 H.size Mx0_4 Mx0_5 Mx0_6 Mx0_7 Mx0_8 Mx0_9 Mx0_10 Mx0_11 Mx0_12 Mx0_13 My1 My2 Mx3_0 Mx4_0 My5  q16 q17) (v_M_execute_s5 hk k_258 ⟨Nat.le_of_ble_eq_true rfl, Nat.le_of_ble_eq_true rfl⟩) (pMC_v hK hPc hDc hC hS hA (ci := 1) (q0 := 0) rfl rfl rfl) rfl rfl hl.1 rfl (lv_room (Nat.le_of_ble_eq_true rfl)) d_S_run_35 ⟨by decide, by decide⟩) hS (fun q _ h => hFc q h) hFc (fun rz23 u t H locs ht hvm hr0 hB hz1 hk1 hS => ?_)
                                  subst hr0
                                  rcases hB with ⟨hzz23, Mx0_6z23, Mx0_7z23, Mx0_9z23, Mx0_10z23, Mx0_11z23, Mx0_12z23, Mx0_13z23, Mx4_0z23, hP1, hD1⟩ | ⟨m6, Mx0_6z23, Mx0_7z23, Mx0_9z23, Mx0_10z23, Mx0_11z23, Mx0_12z23, Mx0_13z23, Mx4_0z23, My6z23, hP1, hD1⟩
                                  · rw [ht] at hP1
                                    obtain ⟨hP, hD⟩ := va_join (wr := (wS54 cI cJ cZ cB p0 m0)) (w1 := (wS57 cI cJ cZ cB m0 m1 m2 m3 m4 m5 Mx0_4 Mx0_5 Mx0_6z23 Mx0_7z23 Mx0_8 Mx0_9z23 Mx0_10z23 Mx0_11z23 Mx0_12z23 Mx0_13z23 My1 My2 Mx3_0 Mx4_0z23 My5)) hP hD [1, 2, 3, 4, 5, 6] [0] rfl rfl (by decide) (by decide) hk1 hFc hP1 hD1
                                    have hP := hP.sub (ws' := ((wS54 cI cJ cZ cB p0 m0) ++ (wS57 cI cJ cZ cB m0 m1 m2 m3 m4 m5 Mx0_4 Mx0_5 Mx0_6z23 Mx0_7z23 Mx0_8 Mx0_9z23 Mx0_10z23 Mx0_11z23 Mx0_12z23 Mx0_13z23 My1 My2 Mx3_0 Mx4_0z23 My5))) [0, 1, 2, 3, 4, 5, 6] rfl
                                    have hD := hD.sub (ws' := ((wS54 cI cJ cZ cB p0 m0) ++ (wS57 cI cJ cZ cB m0 m1 m2 m3 m4 m5 Mx0_4 Mx0_5 Mx0_6z23 Mx0_7z23 Mx0_8 Mx0_9z23 Mx0_10z23 Mx0_11z23 Mx0_12z23 Mx0_13z23 My1 My2 Mx3_0 Mx4_0z23 My5))) [0, 1, 2, 3, 4, 5, 6] (by decide) rfl
                                    have hP : va_P D classes ((wS54 cI cJ cZ cB p0 m0) ++ (wS57 cI cJ cZ cB m0 m1 m2 m3 m4 m5 Mx0_4 Mx0_5 Mx0_6z23 Mx0_7z23 Mx0_8 Mx0_9z23 Mx0_10z23 Mx0_11z23 Mx0_12z23 Mx0_13z23 My1 My2 Mx3_0 Mx4_0z23 My5)) H := hP
                                    have hD : va_D A ((wS54 cI cJ cZ cB p0 m0) ++ (wS57 cI cJ cZ cB m0 m1 m2 m3 m4 m5 Mx0_4 Mx0_5 Mx0_6z23 Mx0_7z23 Mx0_8 Mx0_9z23 Mx0_10z23 Mx0_11z23 Mx0_12z23 Mx0_13z23 My1 My2 Mx3_0 Mx4_0z23 My5)) := hD
                                    clear hPc hDc hFc
                                    refine W.widen (k := 2) (n := 8000) (by decide) (by decide) ?_
                                    refine lv_istore_n (lv' := [(3, .int rz23), (4, .int l4), (2, .int l2), (0, .ref p0), (1, .int a1)]) hx hb d_S_run_38 rfl hl (by decide) rfl (fun ls hl => ?_)
                                    refine lv_iload_n hx hb d_S_run_39 rfl (lv_at hl 0 rfl) ?_
                                    refine lv_iconst (v := 1) hx hb d_S_run_40 (by decide) ?_
                                    refine lv_icmp_gt (tgt := 47) hx hb d_S_run_41 (by decide) (fun c24 => ?_) (fun c24 => ?_)
                                    · obtain ⟨v25, hv25⟩ : ∃ y : Int32, y = (l4 + (1 : Int32)) := ⟨_, rfl⟩
                                      refine lv_iinc (v := v25) (lv' := [(4, .int v25), (3, .int rz23), (2, .int l2), (0, .ref p0), (1, .int a1)]) hx hb d_S_run_47 hl (k := 1) rfl (by rw [hv25]; rfl) (by decide) rfl (fun ls hl => ?_)
                                      refine lv_goto (tgt := 21) hx hb d_S_run_50 (by decide) ?_
                                      exact ih v25 rz23 l2 Mx0_4 Mx0_5 Mx0_6z23 Mx0_7z23 Mx0_8 Mx0_9z23 Mx0_10z23 Mx0_11z23 Mx0_12z23 Mx0_13z23 My1 My2 Mx3_0 Mx4_0z23 My5 H _ ls (lpu c14 hv25 hn21_x1) (lpn hc21_x1 c14 hv25) hP hD hS (lv_sub hl [0, 1, 2, 3, 4] rfl)
                                    · obtain ⟨v26, hv26⟩ : ∃ y : Int32, y = (l2 + (1 : Int32)) := ⟨_, rfl⟩
                                      refine lv_iinc (v := v26) (lv' := [(2, .int v26), (3, .int rz23), (4, .int l4), (0, .ref p0), (1, .int a1)]) hx hb d_S_run_44 hl (k := 2) rfl (by rw [hv26]; rfl) (by decide) rfl (fun ls hl => ?_)
                                      obtain ⟨v27, hv27⟩ : ∃ y : Int32, y = (l4 + (1 : Int32)) := ⟨_, rfl⟩
                                      refine lv_iinc (v := v27) (lv' := [(4, .int v27), (2, .int v26), (3, .int rz23), (0, .ref p0), (1, .int a1)]) hx hb d_S_run_47 hl (k := 2) rfl (by rw [hv27]; rfl) (by decide) rfl (fun ls hl => ?_)
                                      refine lv_goto (tgt := 21) hx hb d_S_run_50 (by decide) ?_
                                      exact ih v27 rz23 v26 Mx0_4 Mx0_5 Mx0_6z23 Mx0_7z23 Mx0_8 Mx0_9z23 Mx0_10z23 Mx0_11z23 Mx0_12z23 Mx0_13z23 My1 My2 Mx3_0 Mx4_0z23 My5 H _ ls (lpu c14 hv27 hn21_x1) (lpn hc21_x1 c14 hv27) hP hD hS (lv_sub hl [0, 2, 1, 3, 4] rfl)
                                  · rw [ht] at hP1
                                    obtain ⟨hP, hD⟩ := va_join (wr := (wS54 cI cJ cZ cB p0 m0)) (w1 := (wS60 cI cJ cZ cB m0 m1 m2 m3 m4 m5 m6 Mx0_4 Mx0_5 Mx0_6z23 Mx0_7z23 Mx0_8 Mx0_9z23 Mx0_10z23 Mx0_11z23 Mx0_12z23 Mx0_13z23 My1 My2 Mx3_0 Mx4_0z23 My5 My6z23)) hP hD [1, 2, 3, 4, 5, 6] [0] rfl rfl (by decide) (by decide) hk1 hFc hP1 hD1
                                    have hP := hP.sub (ws' := ((wS54 cI cJ cZ cB p0 m0) ++ (wS60 cI cJ cZ cB m0 m1 m2 m3 m4 m5 m6 Mx0_4 Mx0_5 Mx0_6z23 Mx0_7z23 Mx0_8 Mx0_9z23 Mx0_10z23 Mx0_11z23 Mx0_12z23 Mx0_13z23 My1 My2 Mx3_0 Mx4_0z23 My5 My6z23))) [0, 1, 2, 3, 4, 5, 6, 7] rfl
                                    have hD := hD.sub (ws' := ((wS54 cI cJ cZ cB p0 m0) ++ (wS60 cI cJ cZ cB m0 m1 m2 m3 m4 m5 m6 Mx0_4 Mx0_5 Mx0_6z23 Mx0_7z23 Mx0_8 Mx0_9z23 Mx0_10z23 Mx0_11z23 Mx0_12z23 Mx0_13z23 My1 My2 Mx3_0 Mx4_0z23 My5 My6z23))) [0, 1, 2, 3, 4, 5, 6, 7] (by decide) rfl
                                    have hP : va_P D classes ((wS54 cI cJ cZ cB p0 m0) ++ (wS60 cI cJ cZ cB m0 m1 m2 m3 m4 m5 m6 Mx0_4 Mx0_5 Mx0_6z23 Mx0_7z23 Mx0_8 Mx0_9z23 Mx0_10z23 Mx0_11z23 Mx0_12z23 Mx0_13z23 My1 My2 Mx3_0 Mx4_0z23 My5 My6z23)) H := hP
                                    have hD : va_D A ((wS54 cI cJ cZ cB p0 m0) ++ (wS60 cI cJ cZ cB m0 m1 m2 m3 m4 m5 m6 Mx0_4 Mx0_5 Mx0_6z23 Mx0_7z23 Mx0_8 Mx0_9z23 Mx0_10z23 Mx0_11z23 Mx0_12z23 Mx0_13z23 My1 My2 Mx3_0 Mx4_0z23 My5 My6z23)) := hD
                                    clear hPc hDc hFc
                                    refine W.widen (k := 2) (n := 8000) (by decide) (by decide) ?_
                                    refine lv_istore_n (lv' := [(3, .int rz23), (4, .int l4), (2, .int l2), (0, .ref p0), (1, .int a1)]) hx hb d_S_run_38 rfl hl (by decide) rfl (fun ls hl => ?_)
                                    refine lv_iload_n hx hb d_S_run_39 rfl (lv_at hl 0 rfl) ?_
                                    refine lv_iconst (v := 1) hx hb d_S_run_40 (by decide) ?_
                                    refine lv_icmp_gt (tgt := 47) hx hb d_S_run_41 (by decide) (fun c28 => ?_) (fun c28 => ?_)
                                    · obtain ⟨v29, hv29⟩ : ∃ y : Int32, y = (l4 + (1 : Int32)) := ⟨_, rfl⟩
                                      refine lv_iinc (v := v29) (lv' := [(4, .int v29), (3, .int rz23), (2, .int l2), (0, .ref p0), (1, .int a1)]) hx hb d_S_run_47 hl (k := 1) rfl (by rw [hv29]; rfl) (by decide) rfl (fun ls hl => ?_)
                                      refine lv_goto (tgt := 21) hx hb d_S_run_50 (by decide) ?_
                                      have LP21_x3 : ∀ (n : Nat) (l4 : Int32) (l3 : Int32) (l2 : Int32) (Mx0_4 : Bool) (Mx0_5 : Int32) (Mx0_6 : Int32) (Mx0_7 : Int32) (Mx0_8 : Int32) (Mx0_9 : Int32) (Mx0_10 : Int32) (Mx0_11 : Int32) (Mx0_12 : Int32) (Mx0_13 : Int32) (My1 : Nat → Int32) (My2 : Nat → Int32) (Mx3_0 : Int32) (Mx4_0 : Int32) (My5 : Nat → Int32) (My6 : Nat → Int32) (H : Heap) (locs : List Loc) (ls : Array Slot), ((a1).toInt - (l4).toInt).toNat < n → ¬ l4 < (0 : Int32) → va_P D classes ((wS54 cI cJ cZ cB p0 m0) ++ (wS60 cI cJ cZ cB m0 m1 m2 m3 m4 m5 m6 Mx0_4 Mx0_5 Mx0_6 Mx0_7 Mx0_8 Mx0_9 Mx0_10 Mx0_11 Mx0_12 Mx0_13 My1 My2 Mx3_0 Mx4_0 My5 My6)) H → va_D A ((wS54 cI cJ cZ cB p0 m0) ++ (wS60 cI cJ cZ cB m0 m1 m2 m3 m4 m5 m6 Mx0_4 Mx0_5 Mx0_6 Mx0_7 Mx0_8 Mx0_9 Mx0_10 Mx0_11 Mx0_12 Mx0_13 My1 My2 Mx3_0 Mx4_0 My5 My6)) → va_S A s.heap H locs → lv_has ls 5 [(4, .int l4), (3, .int l3), (2, .int l2), (0, .ref p0), (1, .int a1)] → W p l e ({ frames := 7, cells := 2, slots := 8000, locals := 151 }) s m [.ref p0, .int a1].toArray below meth c H locs 2 8000 (MQ below (va_Qi (fun r (_ : Unit) => True) (fun _ t => ∃ W9 : va_W, isC K cI cJ cZ cB p0 W9 ∧ va_P D classes W9 t.heap ∧ va_D A W9) A) [.ref p0, .int a1].toArray s 2 8000 A) (F0 m 21 ls []) := by
                                        intro n
                                        induction n with
                                        | zero => intro l4 l3 l2 Mx0_4 Mx0_5 Mx0_6 Mx0_7 Mx0_8 Mx0_9 Mx0_10 Mx0_11 Mx0_12 Mx0_13 My1 My2 Mx3_0 Mx4_0 My5 My6 H locs ls hn; exact absurd hn (Nat.not_lt_zero _)
                                        | succ n ih =>
                                          intro l4 l3 l2 Mx0_4 Mx0_5 Mx0_6 Mx0_7 Mx0_8 Mx0_9 Mx0_10 Mx0_11 Mx0_12 Mx0_13 My1 My2 Mx3_0 Mx4_0 My5 My6 H locs ls hn21_x3 hc21_x3 hP hD hS hl
                                          refine lv_iload hx hb d_S_run_21 (lv_at hl 0 rfl) ?_
                                          refine lv_iload_n hx hb d_S_run_23 rfl (lv_at hl 4 rfl) ?_
                                          refine lv_icmp_ge (tgt := 53) hx hb d_S_run_24 (by decide) (fun c30 => ?_) (fun c30 => ?_)
                                          · refine lv_aload_n hx hb d_S_run_53 rfl (lv_at hl 3 rfl) ?_
                                            refine va_get (D := D) (ci := 0) (v := .ref m0) (C := "SignMachine") (T := F_S) (N := 2) hx hb hk fi_S hown hK.1 hP 0 rfl rfl 0 (by decide) (hk _ k_210) (fun _ h9 => h9) rfl d_S_run_54 ?_
                                            refine lv_iload_n hx hb d_S_run_57 rfl (lv_at hl 1 rfl) ?_
                                            refine va_putN (D := D) (ci := 1) (v := .int l3) (ty := .int) (C := "SignMachine$Machine") (T := F_M) (N := 14) hx hb hk fi_M ft_M ft_M_ok fn_M hown hK.1 hP hD hS 1 rfl rfl 8 (by decide) (va_Nw.use rfl (hK.2 _ n_175)) (fun _ h9 => h9) rfl (by decide +kernel) rfl rfl (Nat.le_of_ble_eq_true rfl) d_S_run_58 (fun H locs hP hD hS => ?_)
                                            have hP : va_P D classes ((wS54 cI cJ cZ cB p0 m0) ++ (wS60 cI cJ cZ cB m0 m1 m2 m3 m4 m5 m6 Mx0_4 Mx0_5 Mx0_6 Mx0_7 l3 Mx0_9 Mx0_10 Mx0_11 Mx0_12 Mx0_13 My1 My2 Mx3_0 Mx4_0 My5 My6)) H := hP
                                            have hD : va_D A ((wS54 cI cJ cZ cB p0 m0) ++ (wS60 cI cJ cZ cB m0 m1 m2 m3 m4 m5 m6 Mx0_4 Mx0_5 Mx0_6 Mx0_7 l3 Mx0_9 Mx0_10 Mx0_11 Mx0_12 Mx0_13 My1 My2 Mx3_0 Mx4_0 My5 My6)) := hD
                                            refine lv_iload_n hx hb d_S_run_61 rfl (lv_at hl 2 rfl) ?_
                                            exact W.iret (v := l2) hx hb hr (fun t ht hW => ⟨⟨l2, (), rfl, trivial, ⟨_, isC_3, (by show va_P D classes _ t.heap; rw [ht]; exact hP), hD⟩⟩, hS.F ht⟩) hS.2.2 d_S_run_62
                                          · refine lv_iload_n hx hb d_S_run_27 rfl (lv_at hl 1 rfl) ?_
                                            refine lv_if_ne (tgt := 53) hx hb d_S_run_28 (by decide) (fun c31 => ?_) (fun c31 => ?_)
                                            · refine lv_aload_n hx hb d_S_run_53 rfl (lv_at hl 3 rfl) ?_
                                              refine va_get (D := D) (ci := 0) (v := .ref m0) (C := "SignMachine") (T := F_S) (N := 2) hx hb hk fi_S hown hK.1 hP 0 rfl rfl 0 (by decide) (hk _ k_210) (fun _ h9 => h9) rfl d_S_run_54 ?_
                                              refine lv_iload_n hx hb d_S_run_57 rfl (lv_at hl 1 rfl) ?_
                                              refine va_putN (D := D) (ci := 1) (v := .int l3) (ty := .int) (C := "SignMachine$Machine") (T := F_M) (N := 14) hx hb hk fi_M ft_M ft_M_ok fn_M hown hK.1 hP hD hS 1 rfl rfl 8 (by decide) (va_Nw.use rfl (hK.2 _ n_175)) (fun _ h9 => h9) rfl (by decide +kernel) rfl rfl (Nat.le_of_ble_eq_true rfl) d_S_run_58 (fun H locs hP hD hS => ?_)
                                              have hP : va_P D classes ((wS54 cI cJ cZ cB p0 m0) ++ (wS60 cI cJ cZ cB m0 m1 m2 m3 m4 m5 m6 Mx0_4 Mx0_5 Mx0_6 Mx0_7 l3 Mx0_9 Mx0_10 Mx0_11 Mx0_12 Mx0_13 My1 My2 Mx3_0 Mx4_0 My5 My6)) H := hP
                                              have hD : va_D A ((wS54 cI cJ cZ cB p0 m0) ++ (wS60 cI cJ cZ cB m0 m1 m2 m3 m4 m5 m6 Mx0_4 Mx0_5 Mx0_6 Mx0_7 l3 Mx0_9 Mx0_10 Mx0_11 Mx0_12 Mx0_13 My1 My2 Mx3_0 Mx4_0 My5 My6)) := hD
                                              refine lv_iload_n hx hb d_S_run_61 rfl (lv_at hl 2 rfl) ?_
                                              exact W.iret (v := l2) hx hb hr (fun t ht hW => ⟨⟨l2, (), rfl, trivial, ⟨_, isC_3, (by show va_P D classes _ t.heap; rw [ht]; exact hP), hD⟩⟩, hS.F ht⟩) hS.2.2 d_S_run_62
                                            · refine lv_aload_n hx hb d_S_run_31 rfl (lv_at hl 3 rfl) ?_
                                              refine va_get (D := D) (ci := 0) (v := .ref m0) (C := "SignMachine") (T := F_S) (N := 2) hx hb hk fi_S hown hK.1 hP 0 rfl rfl 0 (by decide) (hk _ k_210) (fun _ h9 => h9) rfl d_S_run_32 ?_
                                              have hPc := hP.sub (ws' := (wS60 cI cJ cZ cB m0 m1 m2 m3 m4 m5 m6 Mx0_4 Mx0_5 Mx0_6 Mx0_7 Mx0_8 Mx0_9 Mx0_10 Mx0_11 Mx0_12 Mx0_13 My1 My2 Mx3_0 Mx4_0 My5 My6)) [1, 2, 3, 4, 5, 6, 7] rfl
                                              have hDc := hD.sub (ws' := (wS60 cI cJ cZ cB m0 m1 m2 m3 m4 m5 m6 Mx0_4 Mx0_5 Mx0_6 Mx0_7 Mx0_8 Mx0_9 Mx0_10 Mx0_11 Mx0_12 Mx0_13 My1 My2 Mx3_0 Mx4_0 My5 My6)) [1, 2, 3, 4, 5, 6, 7] (by decide) rfl
                                              have hFc := va_free (wc := (wS60 cI cJ cZ cB m0 m1 m2 m3 m4 m5 m6 Mx0_4 Mx0_5 Mx0_6 Mx0_7 Mx0_8 Mx0_9 Mx0_10 Mx0_11 Mx0_12 Mx0_13 My1 My2 Mx3_0 Mx4_0 My5 My6)) hD hS hA [1, 2, 3, 4, 5, 6, 7] rfl
                                              refine va_calli (va_runV (C := "SignMachine$Machine") (As := []) (rest := []) ⟨hx, hb, hml, hown, hk⟩ (c_M_execute_s6 l K D cI cJ cZ cB m0 m1 m2 m3 m4 m5 m6 H.size Mx0_4 Mx0_5 Mx0_6 Mx0_7 Mx0_8 Mx0_9 Mx0_10 Mx0_11 Mx0_12 Mx0_13 My1 My2 Mx3_0 Mx4_0 My5 My6  ) (v_M_execute_s6 hk k_258 ⟨Nat.le_of_ble_eq_true rfl, Nat.le_of_ble_eq_true rfl⟩) (pMC_v hK hPc hDc hC hS hA (ci := 1) (q0 := 0) rfl rfl rfl) rfl rfl hl.1 rfl (lv_room (Nat.le_of_ble_eq_true rfl)) d_S_run_35 ⟨by decide, by decide⟩) hS (fun q _ h => hFc q h) hFc (fun rz32 u t H locs ht hvm hr0 hB hz1 hk1 hS => ?_)
                                              obtain ⟨Mx0_4z32, Mx0_5z32, Mx0_6z32, Mx0_7z32, Mx0_9z32, Mx0_10z32, Mx0_11z32, Mx0_12z32, Mx0_13z32, My1z32, My2z32, Mx3_0z32, Mx4_0z32, My5z32, My6z32, hP1, hD1⟩ := hB
                                              rw [ht] at hP1
                                              obtain ⟨hP, hD⟩ := va_join (wr := (wS54 cI cJ cZ cB p0 m0)) (w1 := (wS60 cI cJ cZ cB m0 m1 m2 m3 m4 m5 m6 Mx0_4z32 Mx0_5z32 Mx0_6z32 Mx0_7z32 Mx0_8 Mx0_9z32 Mx0_10z32 Mx0_11z32 Mx0_12z32 Mx0_13z32 My1z32 My2z32 Mx3_0z32 Mx4_0z32 My5z32 My6z32)) hP hD [1, 2, 3, 4, 5, 6, 7] [0] rfl rfl (by decide) (by decide) hk1 hFc hP1 hD1
                                              have hP := hP.sub (ws' := ((wS54 cI cJ cZ cB p0 m0) ++ (wS60 cI cJ cZ cB m0 m1 m2 m3 m4 m5 m6 Mx0_4z32 Mx0_5z32 Mx0_6z32 Mx0_7z32 Mx0_8 Mx0_9z32 Mx0_10z32 Mx0_11z32 Mx0_12z32 Mx0_13z32 My1z32 My2z32 Mx3_0z32 Mx4_0z32 My5z32 My6z32))) [0, 1, 2, 3, 4, 5, 6, 7] rfl
                                              have hD := hD.sub (ws' := ((wS54 cI cJ cZ cB p0 m0) ++ (wS60 cI cJ cZ cB m0 m1 m2 m3 m4 m5 m6 Mx0_4z32 Mx0_5z32 Mx0_6z32 Mx0_7z32 Mx0_8 Mx0_9z32 Mx0_10z32 Mx0_11z32 Mx0_12z32 Mx0_13z32 My1z32 My2z32 Mx3_0z32 Mx4_0z32 My5z32 My6z32))) [0, 1, 2, 3, 4, 5, 6, 7] (by decide) rfl
                                              have hP : va_P D classes ((wS54 cI cJ cZ cB p0 m0) ++ (wS60 cI cJ cZ cB m0 m1 m2 m3 m4 m5 m6 Mx0_4z32 Mx0_5z32 Mx0_6z32 Mx0_7z32 Mx0_8 Mx0_9z32 Mx0_10z32 Mx0_11z32 Mx0_12z32 Mx0_13z32 My1z32 My2z32 Mx3_0z32 Mx4_0z32 My5z32 My6z32)) H := hP
                                              have hD : va_D A ((wS54 cI cJ cZ cB p0 m0) ++ (wS60 cI cJ cZ cB m0 m1 m2 m3 m4 m5 m6 Mx0_4z32 Mx0_5z32 Mx0_6z32 Mx0_7z32 Mx0_8 Mx0_9z32 Mx0_10z32 Mx0_11z32 Mx0_12z32 Mx0_13z32 My1z32 My2z32 Mx3_0z32 Mx4_0z32 My5z32 My6z32)) := hD
                                              clear hPc hDc hFc
                                              refine lv_istore_n (lv' := [(3, .int rz32), (4, .int l4), (2, .int l2), (0, .ref p0), (1, .int a1)]) hx hb d_S_run_38 rfl hl (by decide) rfl (fun ls hl => ?_)
                                              refine lv_iload_n hx hb d_S_run_39 rfl (lv_at hl 0 rfl) ?_
                                              refine lv_iconst (v := 1) hx hb d_S_run_40 (by decide) ?_
                                              refine lv_icmp_gt (tgt := 47) hx hb d_S_run_41 (by decide) (fun c33 => ?_) (fun c33 => ?_)
                                              · obtain ⟨v34, hv34⟩ : ∃ y : Int32, y = (l4 + (1 : Int32)) := ⟨_, rfl⟩
                                                refine lv_iinc (v := v34) (lv' := [(4, .int v34), (3, .int rz32), (2, .int l2), (0, .ref p0), (1, .int a1)]) hx hb d_S_run_47 hl (k := 1) rfl (by rw [hv34]; rfl) (by decide) rfl (fun ls hl => ?_)
                                                refine lv_goto (tgt := 21) hx hb d_S_run_50 (by decide) ?_
                                                exact ih v34 rz32 l2 Mx0_4z32 Mx0_5z32 Mx0_6z32 Mx0_7z32 Mx0_8 Mx0_9z32 Mx0_10z32 Mx0_11z32 Mx0_12z32 Mx0_13z32 My1z32 My2z32 Mx3_0z32 Mx4_0z32 My5z32 My6z32 H _ ls (lpu c30 hv34 hn21_x3) (lpn hc21_x3 c30 hv34) hP hD hS (lv_sub hl [0, 1, 2, 3, 4] rfl)
                                              · obtain ⟨v35, hv35⟩ : ∃ y : Int32, y = (l2 + (1 : Int32)) := ⟨_, rfl⟩
                                                refine lv_iinc (v := v35) (lv' := [(2, .int v35), (3, .int rz32), (4, .int l4), (0, .ref p0), (1, .int a1)]) hx hb d_S_run_44 hl (k := 2) rfl (by rw [hv35]; rfl) (by decide) rfl (fun ls hl => ?_)
                                                obtain ⟨v36, hv36⟩ : ∃ y : Int32, y = (l4 + (1 : Int32)) := ⟨_, rfl⟩
                                                refine lv_iinc (v := v36) (lv' := [(4, .int v36), (2, .int v35), (3, .int rz32), (0, .ref p0), (1, .int a1)]) hx hb d_S_run_47 hl (k := 2) rfl (by rw [hv36]; rfl) (by decide) rfl (fun ls hl => ?_)
                                                refine lv_goto (tgt := 21) hx hb d_S_run_50 (by decide) ?_
                                                exact ih v36 rz32 v35 Mx0_4z32 Mx0_5z32 Mx0_6z32 Mx0_7z32 Mx0_8 Mx0_9z32 Mx0_10z32 Mx0_11z32 Mx0_12z32 Mx0_13z32 My1z32 My2z32 Mx3_0z32 Mx4_0z32 My5z32 My6z32 H _ ls (lpu c30 hv36 hn21_x3) (lpn hc21_x3 c30 hv36) hP hD hS (lv_sub hl [0, 2, 1, 3, 4] rfl)
                                      exact LP21_x3 _ v29 rz23 l2 Mx0_4 Mx0_5 Mx0_6z23 Mx0_7z23 Mx0_8 Mx0_9z23 Mx0_10z23 Mx0_11z23 Mx0_12z23 Mx0_13z23 My1 My2 Mx3_0 Mx4_0z23 My5 My6z23 H _ ls (Nat.lt_succ_self _) (lpn hc21_x1 c14 hv29) hP hD hS hl
                                    · obtain ⟨v37, hv37⟩ : ∃ y : Int32, y = (l2 + (1 : Int32)) := ⟨_, rfl⟩
                                      refine lv_iinc (v := v37) (lv' := [(2, .int v37), (3, .int rz23), (4, .int l4), (0, .ref p0), (1, .int a1)]) hx hb d_S_run_44 hl (k := 2) rfl (by rw [hv37]; rfl) (by decide) rfl (fun ls hl => ?_)
                                      obtain ⟨v38, hv38⟩ : ∃ y : Int32, y = (l4 + (1 : Int32)) := ⟨_, rfl⟩
                                      refine lv_iinc (v := v38) (lv' := [(4, .int v38), (2, .int v37), (3, .int rz23), (0, .ref p0), (1, .int a1)]) hx hb d_S_run_47 hl (k := 2) rfl (by rw [hv38]; rfl) (by decide) rfl (fun ls hl => ?_)
                                      refine lv_goto (tgt := 21) hx hb d_S_run_50 (by decide) ?_
                                      have LP21_x3 : ∀ (n : Nat) (l4 : Int32) (l2 : Int32) (l3 : Int32) (Mx0_4 : Bool) (Mx0_5 : Int32) (Mx0_6 : Int32) (Mx0_7 : Int32) (Mx0_8 : Int32) (Mx0_9 : Int32) (Mx0_10 : Int32) (Mx0_11 : Int32) (Mx0_12 : Int32) (Mx0_13 : Int32) (My1 : Nat → Int32) (My2 : Nat → Int32) (Mx3_0 : Int32) (Mx4_0 : Int32) (My5 : Nat → Int32) (My6 : Nat → Int32) (H : Heap) (locs : List Loc) (ls : Array Slot), ((a1).toInt - (l4).toInt).toNat < n → ¬ l4 < (0 : Int32) → va_P D classes ((wS54 cI cJ cZ cB p0 m0) ++ (wS60 cI cJ cZ cB m0 m1 m2 m3 m4 m5 m6 Mx0_4 Mx0_5 Mx0_6 Mx0_7 Mx0_8 Mx0_9 Mx0_10 Mx0_11 Mx0_12 Mx0_13 My1 My2 Mx3_0 Mx4_0 My5 My6)) H → va_D A ((wS54 cI cJ cZ cB p0 m0) ++ (wS60 cI cJ cZ cB m0 m1 m2 m3 m4 m5 m6 Mx0_4 Mx0_5 Mx0_6 Mx0_7 Mx0_8 Mx0_9 Mx0_10 Mx0_11 Mx0_12 Mx0_13 My1 My2 Mx3_0 Mx4_0 My5 My6)) → va_S A s.heap H locs → lv_has ls 5 [(4, .int l4), (2, .int l2), (3, .int l3), (0, .ref p0), (1, .int a1)] → W p l e ({ frames := 7, cells := 2, slots := 8000, locals := 151 }) s m [.ref p0, .int a1].toArray below meth c H locs 2 8000 (MQ below (va_Qi (fun r (_ : Unit) => True) (fun _ t => ∃ W9 : va_W, isC K cI cJ cZ cB p0 W9 ∧ va_P D classes W9 t.heap ∧ va_D A W9) A) [.ref p0, .int a1].toArray s 2 8000 A) (F0 m 21 ls []) := by
                                        intro n
                                        induction n with
                                        | zero => intro l4 l2 l3 Mx0_4 Mx0_5 Mx0_6 Mx0_7 Mx0_8 Mx0_9 Mx0_10 Mx0_11 Mx0_12 Mx0_13 My1 My2 Mx3_0 Mx4_0 My5 My6 H locs ls hn; exact absurd hn (Nat.not_lt_zero _)
                                        | succ n ih =>
                                          intro l4 l2 l3 Mx0_4 Mx0_5 Mx0_6 Mx0_7 Mx0_8 Mx0_9 Mx0_10 Mx0_11 Mx0_12 Mx0_13 My1 My2 Mx3_0 Mx4_0 My5 My6 H locs ls hn21_x3 hc21_x3 hP hD hS hl
                                          refine lv_iload hx hb d_S_run_21 (lv_at hl 0 rfl) ?_
                                          refine lv_iload_n hx hb d_S_run_23 rfl (lv_at hl 4 rfl) ?_
                                          refine lv_icmp_ge (tgt := 53) hx hb d_S_run_24 (by decide) (fun c39 => ?_) (fun c39 => ?_)
                                          · refine lv_aload_n hx hb d_S_run_53 rfl (lv_at hl 3 rfl) ?_
                                            refine va_get (D := D) (ci := 0) (v := .ref m0) (C := "SignMachine") (T := F_S) (N := 2) hx hb hk fi_S hown hK.1 hP 0 rfl rfl 0 (by decide) (hk _ k_210) (fun _ h9 => h9) rfl d_S_run_54 ?_
                                            refine lv_iload_n hx hb d_S_run_57 rfl (lv_at hl 2 rfl) ?_
                                            refine va_putN (D := D) (ci := 1) (v := .int l3) (ty := .int) (C := "SignMachine$Machine") (T := F_M) (N := 14) hx hb hk fi_M ft_M ft_M_ok fn_M hown hK.1 hP hD hS 1 rfl rfl 8 (by decide) (va_Nw.use rfl (hK.2 _ n_175)) (fun _ h9 => h9) rfl (by decide +kernel) rfl rfl (Nat.le_of_ble_eq_true rfl) d_S_run_58 (fun H locs hP hD hS => ?_)
                                            have hP : va_P D classes ((wS54 cI cJ cZ cB p0 m0) ++ (wS60 cI cJ cZ cB m0 m1 m2 m3 m4 m5 m6 Mx0_4 Mx0_5 Mx0_6 Mx0_7 l3 Mx0_9 Mx0_10 Mx0_11 Mx0_12 Mx0_13 My1 My2 Mx3_0 Mx4_0 My5 My6)) H := hP
                                            have hD : va_D A ((wS54 cI cJ cZ cB p0 m0) ++ (wS60 cI cJ cZ cB m0 m1 m2 m3 m4 m5 m6 Mx0_4 Mx0_5 Mx0_6 Mx0_7 l3 Mx0_9 Mx0_10 Mx0_11 Mx0_12 Mx0_13 My1 My2 Mx3_0 Mx4_0 My5 My6)) := hD
                                            refine lv_iload_n hx hb d_S_run_61 rfl (lv_at hl 1 rfl) ?_
                                            exact W.iret (v := l2) hx hb hr (fun t ht hW => ⟨⟨l2, (), rfl, trivial, ⟨_, isC_3, (by show va_P D classes _ t.heap; rw [ht]; exact hP), hD⟩⟩, hS.F ht⟩) hS.2.2 d_S_run_62
                                          · refine lv_iload_n hx hb d_S_run_27 rfl (lv_at hl 2 rfl) ?_
                                            refine lv_if_ne (tgt := 53) hx hb d_S_run_28 (by decide) (fun c40 => ?_) (fun c40 => ?_)
                                            · refine lv_aload_n hx hb d_S_run_53 rfl (lv_at hl 3 rfl) ?_
                                              refine va_get (D := D) (ci := 0) (v := .ref m0) (C := "SignMachine") (T := F_S) (N := 2) hx hb hk fi_S hown hK.1 hP 0 rfl rfl 0 (by decide) (hk _ k_210) (fun _ h9 => h9) rfl d_S_run_54 ?_
                                              refine lv_iload_n hx hb d_S_run_57 rfl (lv_at hl 2 rfl) ?_
                                              refine va_putN (D := D) (ci := 1) (v := .int l3) (ty := .int) (C := "SignMachine$Machine") (T := F_M) (N := 14) hx hb hk fi_M ft_M ft_M_ok fn_M hown hK.1 hP hD hS 1 rfl rfl 8 (by decide) (va_Nw.use rfl (hK.2 _ n_175)) (fun _ h9 => h9) rfl (by decide +kernel) rfl rfl (Nat.le_of_ble_eq_true rfl) d_S_run_58 (fun H locs hP hD hS => ?_)
                                              have hP : va_P D classes ((wS54 cI cJ cZ cB p0 m0) ++ (wS60 cI cJ cZ cB m0 m1 m2 m3 m4 m5 m6 Mx0_4 Mx0_5 Mx0_6 Mx0_7 l3 Mx0_9 Mx0_10 Mx0_11 Mx0_12 Mx0_13 My1 My2 Mx3_0 Mx4_0 My5 My6)) H := hP
                                              have hD : va_D A ((wS54 cI cJ cZ cB p0 m0) ++ (wS60 cI cJ cZ cB m0 m1 m2 m3 m4 m5 m6 Mx0_4 Mx0_5 Mx0_6 Mx0_7 l3 Mx0_9 Mx0_10 Mx0_11 Mx0_12 Mx0_13 My1 My2 Mx3_0 Mx4_0 My5 My6)) := hD
                                              refine lv_iload_n hx hb d_S_run_61 rfl (lv_at hl 1 rfl) ?_
                                              exact W.iret (v := l2) hx hb hr (fun t ht hW => ⟨⟨l2, (), rfl, trivial, ⟨_, isC_3, (by show va_P D classes _ t.heap; rw [ht]; exact hP), hD⟩⟩, hS.F ht⟩) hS.2.2 d_S_run_62
                                            · refine lv_aload_n hx hb d_S_run_31 rfl (lv_at hl 3 rfl) ?_
                                              refine va_get (D := D) (ci := 0) (v := .ref m0) (C := "SignMachine") (T := F_S) (N := 2) hx hb hk fi_S hown hK.1 hP 0 rfl rfl 0 (by decide) (hk _ k_210) (fun _ h9 => h9) rfl d_S_run_32 ?_
                                              have hPc := hP.sub (ws' := (wS60 cI cJ cZ cB m0 m1 m2 m3 m4 m5 m6 Mx0_4 Mx0_5 Mx0_6 Mx0_7 Mx0_8 Mx0_9 Mx0_10 Mx0_11 Mx0_12 Mx0_13 My1 My2 Mx3_0 Mx4_0 My5 My6)) [1, 2, 3, 4, 5, 6, 7] rfl
                                              have hDc := hD.sub (ws' := (wS60 cI cJ cZ cB m0 m1 m2 m3 m4 m5 m6 Mx0_4 Mx0_5 Mx0_6 Mx0_7 Mx0_8 Mx0_9 Mx0_10 Mx0_11 Mx0_12 Mx0_13 My1 My2 Mx3_0 Mx4_0 My5 My6)) [1, 2, 3, 4, 5, 6, 7] (by decide) rfl
                                              have hFc := va_free (wc := (wS60 cI cJ cZ cB m0 m1 m2 m3 m4 m5 m6 Mx0_4 Mx0_5 Mx0_6 Mx0_7 Mx0_8 Mx0_9 Mx0_10 Mx0_11 Mx0_12 Mx0_13 My1 My2 Mx3_0 Mx4_0 My5 My6)) hD hS hA [1, 2, 3, 4, 5, 6, 7] rfl
                                              refine va_calli (va_runV (C := "SignMachine$Machine") (As := []) (rest := []) ⟨hx, hb, hml, hown, hk⟩ (c_M_execute_s6 l K D cI cJ cZ cB m0 m1 m2 m3 m4 m5 m6 H.size Mx0_4 Mx0_5 Mx0_6 Mx0_7 Mx0_8 Mx0_9 Mx0_10 Mx0_11 Mx0_12 Mx0_13 My1 My2 Mx3_0 Mx4_0 My5 My6  ) (v_M_execute_s6 hk k_258 ⟨Nat.le_of_ble_eq_true rfl, Nat.le_of_ble_eq_true rfl⟩) (pMC_v hK hPc hDc hC hS hA (ci := 1) (q0 := 0) rfl rfl rfl) rfl rfl hl.1 rfl (lv_room (Nat.le_of_ble_eq_true rfl)) d_S_run_35 ⟨by decide, by decide⟩) hS (fun q _ h => hFc q h) hFc (fun rz41 u t H locs ht hvm hr0 hB hz1 hk1 hS => ?_)
                                              obtain ⟨Mx0_4z41, Mx0_5z41, Mx0_6z41, Mx0_7z41, Mx0_9z41, Mx0_10z41, Mx0_11z41, Mx0_12z41, Mx0_13z41, My1z41, My2z41, Mx3_0z41, Mx4_0z41, My5z41, My6z41, hP1, hD1⟩ := hB
                                              rw [ht] at hP1
                                              obtain ⟨hP, hD⟩ := va_join (wr := (wS54 cI cJ cZ cB p0 m0)) (w1 := (wS60 cI cJ cZ cB m0 m1 m2 m3 m4 m5 m6 Mx0_4z41 Mx0_5z41 Mx0_6z41 Mx0_7z41 Mx0_8 Mx0_9z41 Mx0_10z41 Mx0_11z41 Mx0_12z41 Mx0_13z41 My1z41 My2z41 Mx3_0z41 Mx4_0z41 My5z41 My6z41)) hP hD [1, 2, 3, 4, 5, 6, 7] [0] rfl rfl (by decide) (by decide) hk1 hFc hP1 hD1
                                              have hP := hP.sub (ws' := ((wS54 cI cJ cZ cB p0 m0) ++ (wS60 cI cJ cZ cB m0 m1 m2 m3 m4 m5 m6 Mx0_4z41 Mx0_5z41 Mx0_6z41 Mx0_7z41 Mx0_8 Mx0_9z41 Mx0_10z41 Mx0_11z41 Mx0_12z41 Mx0_13z41 My1z41 My2z41 Mx3_0z41 Mx4_0z41 My5z41 My6z41))) [0, 1, 2, 3, 4, 5, 6, 7] rfl
                                              have hD := hD.sub (ws' := ((wS54 cI cJ cZ cB p0 m0) ++ (wS60 cI cJ cZ cB m0 m1 m2 m3 m4 m5 m6 Mx0_4z41 Mx0_5z41 Mx0_6z41 Mx0_7z41 Mx0_8 Mx0_9z41 Mx0_10z41 Mx0_11z41 Mx0_12z41 Mx0_13z41 My1z41 My2z41 Mx3_0z41 Mx4_0z41 My5z41 My6z41))) [0, 1, 2, 3, 4, 5, 6, 7] (by decide) rfl
                                              have hP : va_P D classes ((wS54 cI cJ cZ cB p0 m0) ++ (wS60 cI cJ cZ cB m0 m1 m2 m3 m4 m5 m6 Mx0_4z41 Mx0_5z41 Mx0_6z41 Mx0_7z41 Mx0_8 Mx0_9z41 Mx0_10z41 Mx0_11z41 Mx0_12z41 Mx0_13z41 My1z41 My2z41 Mx3_0z41 Mx4_0z41 My5z41 My6z41)) H := hP
                                              have hD : va_D A ((wS54 cI cJ cZ cB p0 m0) ++ (wS60 cI cJ cZ cB m0 m1 m2 m3 m4 m5 m6 Mx0_4z41 Mx0_5z41 Mx0_6z41 Mx0_7z41 Mx0_8 Mx0_9z41 Mx0_10z41 Mx0_11z41 Mx0_12z41 Mx0_13z41 My1z41 My2z41 Mx3_0z41 Mx4_0z41 My5z41 My6z41)) := hD
                                              clear hPc hDc hFc
                                              refine lv_istore_n (lv' := [(3, .int rz41), (4, .int l4), (2, .int l2), (0, .ref p0), (1, .int a1)]) hx hb d_S_run_38 rfl hl (by decide) rfl (fun ls hl => ?_)
                                              refine lv_iload_n hx hb d_S_run_39 rfl (lv_at hl 0 rfl) ?_
                                              refine lv_iconst (v := 1) hx hb d_S_run_40 (by decide) ?_
                                              refine lv_icmp_gt (tgt := 47) hx hb d_S_run_41 (by decide) (fun c42 => ?_) (fun c42 => ?_)
                                              · obtain ⟨v43, hv43⟩ : ∃ y : Int32, y = (l4 + (1 : Int32)) := ⟨_, rfl⟩
                                                refine lv_iinc (v := v43) (lv' := [(4, .int v43), (3, .int rz41), (2, .int l2), (0, .ref p0), (1, .int a1)]) hx hb d_S_run_47 hl (k := 1) rfl (by rw [hv43]; rfl) (by decide) rfl (fun ls hl => ?_)
                                                refine lv_goto (tgt := 21) hx hb d_S_run_50 (by decide) ?_
                                                exact ih v43 l2 rz41 Mx0_4z41 Mx0_5z41 Mx0_6z41 Mx0_7z41 Mx0_8 Mx0_9z41 Mx0_10z41 Mx0_11z41 Mx0_12z41 Mx0_13z41 My1z41 My2z41 Mx3_0z41 Mx4_0z41 My5z41 My6z41 H _ ls (lpu c39 hv43 hn21_x3) (lpn hc21_x3 c39 hv43) hP hD hS (lv_sub hl [0, 2, 1, 3, 4] rfl)
                                              · obtain ⟨v44, hv44⟩ : ∃ y : Int32, y = (l2 + (1 : Int32)) := ⟨_, rfl⟩
                                                refine lv_iinc (v := v44) (lv' := [(2, .int v44), (3, .int rz41), (4, .int l4), (0, .ref p0), (1, .int a1)]) hx hb d_S_run_44 hl (k := 2) rfl (by rw [hv44]; rfl) (by decide) rfl (fun ls hl => ?_)
                                                obtain ⟨v45, hv45⟩ : ∃ y : Int32, y = (l4 + (1 : Int32)) := ⟨_, rfl⟩
                                                refine lv_iinc (v := v45) (lv' := [(4, .int v45), (2, .int v44), (3, .int rz41), (0, .ref p0), (1, .int a1)]) hx hb d_S_run_47 hl (k := 2) rfl (by rw [hv45]; rfl) (by decide) rfl (fun ls hl => ?_)
                                                refine lv_goto (tgt := 21) hx hb d_S_run_50 (by decide) ?_
                                                exact ih v45 v44 rz41 Mx0_4z41 Mx0_5z41 Mx0_6z41 Mx0_7z41 Mx0_8 Mx0_9z41 Mx0_10z41 Mx0_11z41 Mx0_12z41 Mx0_13z41 My1z41 My2z41 Mx3_0z41 Mx4_0z41 My5z41 My6z41 H _ ls (lpu c39 hv45 hn21_x3) (lpn hc21_x3 c39 hv45) hP hD hS (lv_sub hl [0, 1, 2, 3, 4] rfl)
                                      exact LP21_x3 _ v38 v37 rz23 Mx0_4 Mx0_5 Mx0_6z23 Mx0_7z23 Mx0_8 Mx0_9z23 Mx0_10z23 Mx0_11z23 Mx0_12z23 Mx0_13z23 My1 My2 Mx3_0 Mx4_0z23 My5 My6z23 H _ ls (Nat.lt_succ_self _) (lpn hc21_x1 c14 hv38) hP hD hS hl
                              · have hPc := hP.sub (ws' := (wS57 cI cJ cZ cB m0 m1 m2 m3 m4 m5 Mx0_4 Mx0_5 Mx0_6 Mx0_7 Mx0_8 Mx0_9 Mx0_10 Mx0_11 Mx0_12 Mx0_13 My1 My2 Mx3_0 Mx4_0 My5)) [1, 2, 3, 4, 5, 6] rfl
                                have hDc := hD.sub (ws' := (wS57 cI cJ cZ cB m0 m1 m2 m3 m4 m5 Mx0_4 Mx0_5 Mx0_6 Mx0_7 Mx0_8 Mx0_9 Mx0_10 Mx0_11 Mx0_12 Mx0_13 My1 My2 Mx3_0 Mx4_0 My5)) [1, 2, 3, 4, 5, 6] (by decide) rfl
                                have hFc := va_free (wc := (wS57 cI cJ cZ cB m0 m1 m2 m3 m4 m5 Mx0_4 Mx0_5 Mx0_6 Mx0_7 Mx0_8 Mx0_9 Mx0_10 Mx0_11 Mx0_12 Mx0_13 My1 My2 Mx3_0 Mx4_0 My5)) hD hS hA [1, 2, 3, 4, 5, 6] rfl
                                refine va_calli (va_runV (C := "SignMachine$Machine") (As := []) (rest := []) ⟨hx, hb, hml, hown, hk⟩ (c_M_execute_s7 l K D cI cJ cZ cB m0 m1 m2 m3 m4 m5 H.size Mx0_4 Mx0_5 Mx0_6 Mx0_7 Mx0_8 Mx0_9 Mx0_10 Mx0_11 Mx0_12 Mx0_13 My1 My2 Mx3_0 Mx4_0 My5  q16) (v_M_execute_s7 hk k_258 ⟨Nat.le_of_ble_eq_true rfl, Nat.le_of_ble_eq_true rfl⟩) (pMC_v hK hPc hDc hC hS hA (ci := 1) (q0 := 0) rfl rfl rfl) rfl rfl hl.1 rfl (lv_room (Nat.le_of_ble_eq_true rfl)) d_S_run_35 ⟨by decide, by decide⟩) hS (fun q _ h => hFc q h) hFc (fun rz46 u t H locs ht hvm hr0 hB hz1 hk1 hS => ?_)
                                obtain ⟨Mx0_4z46, Mx0_5z46, Mx0_6z46, Mx0_7z46, Mx0_9z46, Mx0_10z46, Mx0_11z46, Mx0_12z46, Mx0_13z46, My1z46, My2z46, Mx3_0z46, Mx4_0z46, hP1, hD1⟩ := hB
                                rw [ht] at hP1
                                obtain ⟨hP, hD⟩ := va_join (wr := (wS54 cI cJ cZ cB p0 m0)) (w1 := (wS57 cI cJ cZ cB m0 m1 m2 m3 m4 m5 Mx0_4z46 Mx0_5z46 Mx0_6z46 Mx0_7z46 Mx0_8 Mx0_9z46 Mx0_10z46 Mx0_11z46 Mx0_12z46 Mx0_13z46 My1z46 My2z46 Mx3_0z46 Mx4_0z46 My5)) hP hD [1, 2, 3, 4, 5, 6] [0] rfl rfl (by decide) (by decide) hk1 hFc hP1 hD1
                                have hP := hP.sub (ws' := ((wS54 cI cJ cZ cB p0 m0) ++ (wS57 cI cJ cZ cB m0 m1 m2 m3 m4 m5 Mx0_4z46 Mx0_5z46 Mx0_6z46 Mx0_7z46 Mx0_8 Mx0_9z46 Mx0_10z46 Mx0_11z46 Mx0_12z46 Mx0_13z46 My1z46 My2z46 Mx3_0z46 Mx4_0z46 My5))) [0, 1, 2, 3, 4, 5, 6] rfl
                                have hD := hD.sub (ws' := ((wS54 cI cJ cZ cB p0 m0) ++ (wS57 cI cJ cZ cB m0 m1 m2 m3 m4 m5 Mx0_4z46 Mx0_5z46 Mx0_6z46 Mx0_7z46 Mx0_8 Mx0_9z46 Mx0_10z46 Mx0_11z46 Mx0_12z46 Mx0_13z46 My1z46 My2z46 Mx3_0z46 Mx4_0z46 My5))) [0, 1, 2, 3, 4, 5, 6] (by decide) rfl
                                have hP : va_P D classes ((wS54 cI cJ cZ cB p0 m0) ++ (wS57 cI cJ cZ cB m0 m1 m2 m3 m4 m5 Mx0_4z46 Mx0_5z46 Mx0_6z46 Mx0_7z46 Mx0_8 Mx0_9z46 Mx0_10z46 Mx0_11z46 Mx0_12z46 Mx0_13z46 My1z46 My2z46 Mx3_0z46 Mx4_0z46 My5)) H := hP
                                have hD : va_D A ((wS54 cI cJ cZ cB p0 m0) ++ (wS57 cI cJ cZ cB m0 m1 m2 m3 m4 m5 Mx0_4z46 Mx0_5z46 Mx0_6z46 Mx0_7z46 Mx0_8 Mx0_9z46 Mx0_10z46 Mx0_11z46 Mx0_12z46 Mx0_13z46 My1z46 My2z46 Mx3_0z46 Mx4_0z46 My5)) := hD
                                clear hPc hDc hFc
                                refine lv_istore_n (lv' := [(3, .int rz46), (4, .int l4), (2, .int l2), (0, .ref p0), (1, .int a1)]) hx hb d_S_run_38 rfl hl (by decide) rfl (fun ls hl => ?_)
                                refine lv_iload_n hx hb d_S_run_39 rfl (lv_at hl 0 rfl) ?_
                                refine lv_iconst (v := 1) hx hb d_S_run_40 (by decide) ?_
                                refine lv_icmp_gt (tgt := 47) hx hb d_S_run_41 (by decide) (fun c47 => ?_) (fun c47 => ?_)
                                · obtain ⟨v48, hv48⟩ : ∃ y : Int32, y = (l4 + (1 : Int32)) := ⟨_, rfl⟩
                                  refine lv_iinc (v := v48) (lv' := [(4, .int v48), (3, .int rz46), (2, .int l2), (0, .ref p0), (1, .int a1)]) hx hb d_S_run_47 hl (k := 1) rfl (by rw [hv48]; rfl) (by decide) rfl (fun ls hl => ?_)
                                  refine lv_goto (tgt := 21) hx hb d_S_run_50 (by decide) ?_
                                  exact ih v48 rz46 l2 Mx0_4z46 Mx0_5z46 Mx0_6z46 Mx0_7z46 Mx0_8 Mx0_9z46 Mx0_10z46 Mx0_11z46 Mx0_12z46 Mx0_13z46 My1z46 My2z46 Mx3_0z46 Mx4_0z46 My5 H _ ls (lpu c14 hv48 hn21_x1) (lpn hc21_x1 c14 hv48) hP hD hS (lv_sub hl [0, 1, 2, 3, 4] rfl)
                                · obtain ⟨v49, hv49⟩ : ∃ y : Int32, y = (l2 + (1 : Int32)) := ⟨_, rfl⟩
                                  refine lv_iinc (v := v49) (lv' := [(2, .int v49), (3, .int rz46), (4, .int l4), (0, .ref p0), (1, .int a1)]) hx hb d_S_run_44 hl (k := 2) rfl (by rw [hv49]; rfl) (by decide) rfl (fun ls hl => ?_)
                                  obtain ⟨v50, hv50⟩ : ∃ y : Int32, y = (l4 + (1 : Int32)) := ⟨_, rfl⟩
                                  refine lv_iinc (v := v50) (lv' := [(4, .int v50), (2, .int v49), (3, .int rz46), (0, .ref p0), (1, .int a1)]) hx hb d_S_run_47 hl (k := 2) rfl (by rw [hv50]; rfl) (by decide) rfl (fun ls hl => ?_)
                                  refine lv_goto (tgt := 21) hx hb d_S_run_50 (by decide) ?_
                                  exact ih v50 rz46 v49 Mx0_4z46 Mx0_5z46 Mx0_6z46 Mx0_7z46 Mx0_8 Mx0_9z46 Mx0_10z46 Mx0_11z46 Mx0_12z46 Mx0_13z46 My1z46 My2z46 Mx3_0z46 Mx4_0z46 My5 H _ ls (lpu c14 hv50 hn21_x1) (lpn hc21_x1 c14 hv50) hP hD hS (lv_sub hl [0, 2, 1, 3, 4] rfl)
                      exact LP21_x1 _ v13 rz7 l2 Mx0_4 Mx0_5 Mx0_6z7 Mx0_7z7 Mx0_8 Mx0_9z7 Mx0_10z7 Mx0_11z7 Mx0_12z7 Mx0_13z7 My1 My2 Mx3_0z7 Mx4_0 My5z7 H _ ls (Nat.lt_succ_self _) (lpn hc21_x0 c3 hv13) hP hD hS hl
                    · obtain ⟨v51, hv51⟩ : ∃ y : Int32, y = (l2 + (1 : Int32)) := ⟨_, rfl⟩
                      refine lv_iinc (v := v51) (lv' := [(2, .int v51), (3, .int rz7), (4, .int l4), (0, .ref p0), (1, .int a1)]) hx hb d_S_run_44 hl (k := 2) rfl (by rw [hv51]; rfl) (by decide) rfl (fun ls hl => ?_)
                      obtain ⟨v52, hv52⟩ : ∃ y : Int32, y = (l4 + (1 : Int32)) := ⟨_, rfl⟩
                      refine lv_iinc (v := v52) (lv' := [(4, .int v52), (2, .int v51), (3, .int rz7), (0, .ref p0), (1, .int a1)]) hx hb d_S_run_47 hl (k := 2) rfl (by rw [hv52]; rfl) (by decide) rfl (fun ls hl => ?_)
                      refine lv_goto (tgt := 21) hx hb d_S_run_50 (by decide) ?_
                      have LP21_x1 : ∀ (n : Nat) (l4 : Int32) (l2 : Int32) (l3 : Int32) (Mx0_4 : Bool) (Mx0_5 : Int32) (Mx0_6 : Int32) (Mx0_7 : Int32) (Mx0_8 : Int32) (Mx0_9 : Int32) (Mx0_10 : Int32) (Mx0_11 : Int32) (Mx0_12 : Int32) (Mx0_13 : Int32) (My1 : Nat → Int32) (My2 : Nat → Int32) (Mx3_0 : Int32) (Mx4_0 : Int32) (My5 : Nat → Int32) (H : Heap) (locs : List Loc) (ls : Array Slot), ((a1).toInt - (l4).toInt).toNat < n → ¬ l4 < (0 : Int32) → va_P D classes ((wS54 cI cJ cZ cB p0 m0) ++ (wS57 cI cJ cZ cB m0 m1 m2 m3 m4 m5 Mx0_4 Mx0_5 Mx0_6 Mx0_7 Mx0_8 Mx0_9 Mx0_10 Mx0_11 Mx0_12 Mx0_13 My1 My2 Mx3_0 Mx4_0 My5)) H → va_D A ((wS54 cI cJ cZ cB p0 m0) ++ (wS57 cI cJ cZ cB m0 m1 m2 m3 m4 m5 Mx0_4 Mx0_5 Mx0_6 Mx0_7 Mx0_8 Mx0_9 Mx0_10 Mx0_11 Mx0_12 Mx0_13 My1 My2 Mx3_0 Mx4_0 My5)) → va_S A s.heap H locs → lv_has ls 5 [(4, .int l4), (2, .int l2), (3, .int l3), (0, .ref p0), (1, .int a1)] → W p l e ({ frames := 7, cells := 2, slots := 8000, locals := 151 }) s m [.ref p0, .int a1].toArray below meth c H locs 1 4000 (MQ below (va_Qi (fun r (_ : Unit) => True) (fun _ t => ∃ W9 : va_W, isC K cI cJ cZ cB p0 W9 ∧ va_P D classes W9 t.heap ∧ va_D A W9) A) [.ref p0, .int a1].toArray s 2 8000 A) (F0 m 21 ls []) := by
                        intro n
                        induction n with
                        | zero => intro l4 l2 l3 Mx0_4 Mx0_5 Mx0_6 Mx0_7 Mx0_8 Mx0_9 Mx0_10 Mx0_11 Mx0_12 Mx0_13 My1 My2 Mx3_0 Mx4_0 My5 H locs ls hn; exact absurd hn (Nat.not_lt_zero _)
                        | succ n ih =>
                          intro l4 l2 l3 Mx0_4 Mx0_5 Mx0_6 Mx0_7 Mx0_8 Mx0_9 Mx0_10 Mx0_11 Mx0_12 Mx0_13 My1 My2 Mx3_0 Mx4_0 My5 H locs ls hn21_x1 hc21_x1 hP hD hS hl
                          refine lv_iload hx hb d_S_run_21 (lv_at hl 0 rfl) ?_
                          refine lv_iload_n hx hb d_S_run_23 rfl (lv_at hl 4 rfl) ?_
                          refine lv_icmp_ge (tgt := 53) hx hb d_S_run_24 (by decide) (fun c53 => ?_) (fun c53 => ?_)
                          · refine lv_aload_n hx hb d_S_run_53 rfl (lv_at hl 3 rfl) ?_
                            refine va_get (D := D) (ci := 0) (v := .ref m0) (C := "SignMachine") (T := F_S) (N := 2) hx hb hk fi_S hown hK.1 hP 0 rfl rfl 0 (by decide) (hk _ k_210) (fun _ h9 => h9) rfl d_S_run_54 ?_
                            refine lv_iload_n hx hb d_S_run_57 rfl (lv_at hl 2 rfl) ?_
                            refine va_putN (D := D) (ci := 1) (v := .int l3) (ty := .int) (C := "SignMachine$Machine") (T := F_M) (N := 14) hx hb hk fi_M ft_M ft_M_ok fn_M hown hK.1 hP hD hS 1 rfl rfl 8 (by decide) (va_Nw.use rfl (hK.2 _ n_175)) (fun _ h9 => h9) rfl (by decide +kernel) rfl rfl (Nat.le_of_ble_eq_true rfl) d_S_run_58 (fun H locs hP hD hS => ?_)
                            have hP : va_P D classes ((wS54 cI cJ cZ cB p0 m0) ++ (wS57 cI cJ cZ cB m0 m1 m2 m3 m4 m5 Mx0_4 Mx0_5 Mx0_6 Mx0_7 l3 Mx0_9 Mx0_10 Mx0_11 Mx0_12 Mx0_13 My1 My2 Mx3_0 Mx4_0 My5)) H := hP
                            have hD : va_D A ((wS54 cI cJ cZ cB p0 m0) ++ (wS57 cI cJ cZ cB m0 m1 m2 m3 m4 m5 Mx0_4 Mx0_5 Mx0_6 Mx0_7 l3 Mx0_9 Mx0_10 Mx0_11 Mx0_12 Mx0_13 My1 My2 Mx3_0 Mx4_0 My5)) := hD
                            refine lv_iload_n hx hb d_S_run_61 rfl (lv_at hl 1 rfl) ?_
                            refine W.widen (k := 2) (n := 8000) (by decide) (by decide) ?_
                            exact W.iret (v := l2) hx hb hr (fun t ht hW => ⟨⟨l2, (), rfl, trivial, ⟨_, isC_1, (by show va_P D classes _ t.heap; rw [ht]; exact hP), hD⟩⟩, hS.F ht⟩) hS.2.2 d_S_run_62
                          · refine lv_iload_n hx hb d_S_run_27 rfl (lv_at hl 2 rfl) ?_
                            refine lv_if_ne (tgt := 53) hx hb d_S_run_28 (by decide) (fun c54 => ?_) (fun c54 => ?_)
                            · refine lv_aload_n hx hb d_S_run_53 rfl (lv_at hl 3 rfl) ?_
                              refine va_get (D := D) (ci := 0) (v := .ref m0) (C := "SignMachine") (T := F_S) (N := 2) hx hb hk fi_S hown hK.1 hP 0 rfl rfl 0 (by decide) (hk _ k_210) (fun _ h9 => h9) rfl d_S_run_54 ?_
                              refine lv_iload_n hx hb d_S_run_57 rfl (lv_at hl 2 rfl) ?_
                              refine va_putN (D := D) (ci := 1) (v := .int l3) (ty := .int) (C := "SignMachine$Machine") (T := F_M) (N := 14) hx hb hk fi_M ft_M ft_M_ok fn_M hown hK.1 hP hD hS 1 rfl rfl 8 (by decide) (va_Nw.use rfl (hK.2 _ n_175)) (fun _ h9 => h9) rfl (by decide +kernel) rfl rfl (Nat.le_of_ble_eq_true rfl) d_S_run_58 (fun H locs hP hD hS => ?_)
                              have hP : va_P D classes ((wS54 cI cJ cZ cB p0 m0) ++ (wS57 cI cJ cZ cB m0 m1 m2 m3 m4 m5 Mx0_4 Mx0_5 Mx0_6 Mx0_7 l3 Mx0_9 Mx0_10 Mx0_11 Mx0_12 Mx0_13 My1 My2 Mx3_0 Mx4_0 My5)) H := hP
                              have hD : va_D A ((wS54 cI cJ cZ cB p0 m0) ++ (wS57 cI cJ cZ cB m0 m1 m2 m3 m4 m5 Mx0_4 Mx0_5 Mx0_6 Mx0_7 l3 Mx0_9 Mx0_10 Mx0_11 Mx0_12 Mx0_13 My1 My2 Mx3_0 Mx4_0 My5)) := hD
                              refine lv_iload_n hx hb d_S_run_61 rfl (lv_at hl 1 rfl) ?_
                              refine W.widen (k := 2) (n := 8000) (by decide) (by decide) ?_
                              exact W.iret (v := l2) hx hb hr (fun t ht hW => ⟨⟨l2, (), rfl, trivial, ⟨_, isC_1, (by show va_P D classes _ t.heap; rw [ht]; exact hP), hD⟩⟩, hS.F ht⟩) hS.2.2 d_S_run_62
                            · refine lv_aload_n hx hb d_S_run_31 rfl (lv_at hl 3 rfl) ?_
                              refine va_get (D := D) (ci := 0) (v := .ref m0) (C := "SignMachine") (T := F_S) (N := 2) hx hb hk fi_S hown hK.1 hP 0 rfl rfl 0 (by decide) (hk _ k_210) (fun _ h9 => h9) rfl d_S_run_32 ?_
                              by_cases q55 : ((f_W_size (f_mw My1 Mx0_7)) &&& (63 : Int32)) = (37 : Int32)
                              · by_cases q56 : (((f_W_size (f_mw My1 Mx0_7)) >>> ((6 : Int32) &&& (31 : Int32))) &&& (63 : Int32)) = (0 : Int32)
                                · have hPc := hP.sub (ws' := (wS57 cI cJ cZ cB m0 m1 m2 m3 m4 m5 Mx0_4 Mx0_5 Mx0_6 Mx0_7 Mx0_8 Mx0_9 Mx0_10 Mx0_11 Mx0_12 Mx0_13 My1 My2 Mx3_0 Mx4_0 My5)) [1, 2, 3, 4, 5, 6] rfl
                                  have hDc := hD.sub (ws' := (wS57 cI cJ cZ cB m0 m1 m2 m3 m4 m5 Mx0_4 Mx0_5 Mx0_6 Mx0_7 Mx0_8 Mx0_9 Mx0_10 Mx0_11 Mx0_12 Mx0_13 My1 My2 Mx3_0 Mx4_0 My5)) [1, 2, 3, 4, 5, 6] (by decide) rfl
                                  have hFc := va_free (wc := (wS57 cI cJ cZ cB m0 m1 m2 m3 m4 m5 Mx0_4 Mx0_5 Mx0_6 Mx0_7 Mx0_8 Mx0_9 Mx0_10 Mx0_11 Mx0_12 Mx0_13 My1 My2 Mx3_0 Mx4_0 My5)) hD hS hA [1, 2, 3, 4, 5, 6] rfl
                                  refine va_calli (va_runV (C := "SignMachine$Machine") (As := []) (rest := []) ⟨hx, hb, hml, hown, hk⟩ (c_M_execute_s4 l K D cI cJ cZ cB m0 m1 m2 m3 m4 m5 H.size Mx0_4 Mx0_5 Mx0_6 Mx0_7 Mx0_8 Mx0_9 Mx0_10 Mx0_11 Mx0_12 Mx0_13 My1 My2 Mx3_0 Mx4_0 My5  q55 q56) (v_M_execute_s4 hk k_258 ⟨Nat.le_of_ble_eq_true rfl, Nat.le_of_ble_eq_true rfl⟩) (pMC_v hK hPc hDc hC hS hA (ci := 1) (q0 := 0) rfl rfl rfl) rfl rfl hl.1 rfl (lv_room (Nat.le_of_ble_eq_true rfl)) d_S_run_35 ⟨by decide, by decide⟩) hS (fun q _ h => hFc q h) hFc (fun rz57 u t H locs ht hvm hr0 hB hz1 hk1 hS => ?_)
                                  obtain ⟨Mx0_6z57, Mx0_7z57, Mx0_9z57, Mx0_10z57, Mx0_11z57, Mx0_12z57, Mx0_13z57, Mx3_0z57, My5z57, hP1, hD1⟩ := hB
                                  rw [ht] at hP1
                                  obtain ⟨hP, hD⟩ := va_join (wr := (wS54 cI cJ cZ cB p0 m0)) (w1 := (wS57 cI cJ cZ cB m0 m1 m2 m3 m4 m5 Mx0_4 Mx0_5 Mx0_6z57 Mx0_7z57 Mx0_8 Mx0_9z57 Mx0_10z57 Mx0_11z57 Mx0_12z57 Mx0_13z57 My1 My2 Mx3_0z57 Mx4_0 My5z57)) hP hD [1, 2, 3, 4, 5, 6] [0] rfl rfl (by decide) (by decide) hk1 hFc hP1 hD1
                                  have hP := hP.sub (ws' := ((wS54 cI cJ cZ cB p0 m0) ++ (wS57 cI cJ cZ cB m0 m1 m2 m3 m4 m5 Mx0_4 Mx0_5 Mx0_6z57 Mx0_7z57 Mx0_8 Mx0_9z57 Mx0_10z57 Mx0_11z57 Mx0_12z57 Mx0_13z57 My1 My2 Mx3_0z57 Mx4_0 My5z57))) [0, 1, 2, 3, 4, 5, 6] rfl
                                  have hD := hD.sub (ws' := ((wS54 cI cJ cZ cB p0 m0) ++ (wS57 cI cJ cZ cB m0 m1 m2 m3 m4 m5 Mx0_4 Mx0_5 Mx0_6z57 Mx0_7z57 Mx0_8 Mx0_9z57 Mx0_10z57 Mx0_11z57 Mx0_12z57 Mx0_13z57 My1 My2 Mx3_0z57 Mx4_0 My5z57))) [0, 1, 2, 3, 4, 5, 6] (by decide) rfl
                                  have hP : va_P D classes ((wS54 cI cJ cZ cB p0 m0) ++ (wS57 cI cJ cZ cB m0 m1 m2 m3 m4 m5 Mx0_4 Mx0_5 Mx0_6z57 Mx0_7z57 Mx0_8 Mx0_9z57 Mx0_10z57 Mx0_11z57 Mx0_12z57 Mx0_13z57 My1 My2 Mx3_0z57 Mx4_0 My5z57)) H := hP
                                  have hD : va_D A ((wS54 cI cJ cZ cB p0 m0) ++ (wS57 cI cJ cZ cB m0 m1 m2 m3 m4 m5 Mx0_4 Mx0_5 Mx0_6z57 Mx0_7z57 Mx0_8 Mx0_9z57 Mx0_10z57 Mx0_11z57 Mx0_12z57 Mx0_13z57 My1 My2 Mx3_0z57 Mx4_0 My5z57)) := hD
                                  clear hPc hDc hFc
                                  refine lv_istore_n (lv' := [(3, .int rz57), (4, .int l4), (2, .int l2), (0, .ref p0), (1, .int a1)]) hx hb d_S_run_38 rfl hl (by decide) rfl (fun ls hl => ?_)
                                  refine lv_iload_n hx hb d_S_run_39 rfl (lv_at hl 0 rfl) ?_
                                  refine lv_iconst (v := 1) hx hb d_S_run_40 (by decide) ?_
                                  refine lv_icmp_gt (tgt := 47) hx hb d_S_run_41 (by decide) (fun c58 => ?_) (fun c58 => ?_)
                                  · obtain ⟨v59, hv59⟩ : ∃ y : Int32, y = (l4 + (1 : Int32)) := ⟨_, rfl⟩
                                    refine lv_iinc (v := v59) (lv' := [(4, .int v59), (3, .int rz57), (2, .int l2), (0, .ref p0), (1, .int a1)]) hx hb d_S_run_47 hl (k := 1) rfl (by rw [hv59]; rfl) (by decide) rfl (fun ls hl => ?_)
                                    refine lv_goto (tgt := 21) hx hb d_S_run_50 (by decide) ?_
                                    exact ih v59 l2 rz57 Mx0_4 Mx0_5 Mx0_6z57 Mx0_7z57 Mx0_8 Mx0_9z57 Mx0_10z57 Mx0_11z57 Mx0_12z57 Mx0_13z57 My1 My2 Mx3_0z57 Mx4_0 My5z57 H _ ls (lpu c53 hv59 hn21_x1) (lpn hc21_x1 c53 hv59) hP hD hS (lv_sub hl [0, 2, 1, 3, 4] rfl)
                                  · obtain ⟨v60, hv60⟩ : ∃ y : Int32, y = (l2 + (1 : Int32)) := ⟨_, rfl⟩
                                    refine lv_iinc (v := v60) (lv' := [(2, .int v60), (3, .int rz57), (4, .int l4), (0, .ref p0), (1, .int a1)]) hx hb d_S_run_44 hl (k := 2) rfl (by rw [hv60]; rfl) (by decide) rfl (fun ls hl => ?_)
                                    obtain ⟨v61, hv61⟩ : ∃ y : Int32, y = (l4 + (1 : Int32)) := ⟨_, rfl⟩
                                    refine lv_iinc (v := v61) (lv' := [(4, .int v61), (2, .int v60), (3, .int rz57), (0, .ref p0), (1, .int a1)]) hx hb d_S_run_47 hl (k := 2) rfl (by rw [hv61]; rfl) (by decide) rfl (fun ls hl => ?_)
                                    refine lv_goto (tgt := 21) hx hb d_S_run_50 (by decide) ?_
                                    exact ih v61 v60 rz57 Mx0_4 Mx0_5 Mx0_6z57 Mx0_7z57 Mx0_8 Mx0_9z57 Mx0_10z57 Mx0_11z57 Mx0_12z57 Mx0_13z57 My1 My2 Mx3_0z57 Mx4_0 My5z57 H _ ls (lpu c53 hv61 hn21_x1) (lpn hc21_x1 c53 hv61) hP hD hS (lv_sub hl [0, 1, 2, 3, 4] rfl)
                                · have hPc := hP.sub (ws' := (wS57 cI cJ cZ cB m0 m1 m2 m3 m4 m5 Mx0_4 Mx0_5 Mx0_6 Mx0_7 Mx0_8 Mx0_9 Mx0_10 Mx0_11 Mx0_12 Mx0_13 My1 My2 Mx3_0 Mx4_0 My5)) [1, 2, 3, 4, 5, 6] rfl
                                  have hDc := hD.sub (ws' := (wS57 cI cJ cZ cB m0 m1 m2 m3 m4 m5 Mx0_4 Mx0_5 Mx0_6 Mx0_7 Mx0_8 Mx0_9 Mx0_10 Mx0_11 Mx0_12 Mx0_13 My1 My2 Mx3_0 Mx4_0 My5)) [1, 2, 3, 4, 5, 6] (by decide) rfl
                                  have hFc := va_free (wc := (wS57 cI cJ cZ cB m0 m1 m2 m3 m4 m5 Mx0_4 Mx0_5 Mx0_6 Mx0_7 Mx0_8 Mx0_9 Mx0_10 Mx0_11 Mx0_12 Mx0_13 My1 My2 Mx3_0 Mx4_0 My5)) hD hS hA [1, 2, 3, 4, 5, 6] rfl
                                  refine va_calli (va_runV (C := "SignMachine$Machine") (As := []) (rest := []) ⟨hx, hb, hml, hown, hk⟩ (c_M_execute_s5 l K D cI cJ cZ cB m0 m1 m2 m3 m4 m5 H.size Mx0_4 Mx0_5 Mx0_6 Mx0_7 Mx0_8 Mx0_9 Mx0_10 Mx0_11 Mx0_12 Mx0_13 My1 My2 Mx3_0 Mx4_0 My5  q55 q56) (v_M_execute_s5 hk k_258 ⟨Nat.le_of_ble_eq_true rfl, Nat.le_of_ble_eq_true rfl⟩) (pMC_v hK hPc hDc hC hS hA (ci := 1) (q0 := 0) rfl rfl rfl) rfl rfl hl.1 rfl (lv_room (Nat.le_of_ble_eq_true rfl)) d_S_run_35 ⟨by decide, by decide⟩) hS (fun q _ h => hFc q h) hFc (fun rz62 u t H locs ht hvm hr0 hB hz1 hk1 hS => ?_)
                                  subst hr0
                                  rcases hB with ⟨hzz62, Mx0_6z62, Mx0_7z62, Mx0_9z62, Mx0_10z62, Mx0_11z62, Mx0_12z62, Mx0_13z62, Mx4_0z62, hP1, hD1⟩ | ⟨m6, Mx0_6z62, Mx0_7z62, Mx0_9z62, Mx0_10z62, Mx0_11z62, Mx0_12z62, Mx0_13z62, Mx4_0z62, My6z62, hP1, hD1⟩
                                  · rw [ht] at hP1
                                    obtain ⟨hP, hD⟩ := va_join (wr := (wS54 cI cJ cZ cB p0 m0)) (w1 := (wS57 cI cJ cZ cB m0 m1 m2 m3 m4 m5 Mx0_4 Mx0_5 Mx0_6z62 Mx0_7z62 Mx0_8 Mx0_9z62 Mx0_10z62 Mx0_11z62 Mx0_12z62 Mx0_13z62 My1 My2 Mx3_0 Mx4_0z62 My5)) hP hD [1, 2, 3, 4, 5, 6] [0] rfl rfl (by decide) (by decide) hk1 hFc hP1 hD1
                                    have hP := hP.sub (ws' := ((wS54 cI cJ cZ cB p0 m0) ++ (wS57 cI cJ cZ cB m0 m1 m2 m3 m4 m5 Mx0_4 Mx0_5 Mx0_6z62 Mx0_7z62 Mx0_8 Mx0_9z62 Mx0_10z62 Mx0_11z62 Mx0_12z62 Mx0_13z62 My1 My2 Mx3_0 Mx4_0z62 My5))) [0, 1, 2, 3, 4, 5, 6] rfl
                                    have hD := hD.sub (ws' := ((wS54 cI cJ cZ cB p0 m0) ++ (wS57 cI cJ cZ cB m0 m1 m2 m3 m4 m5 Mx0_4 Mx0_5 Mx0_6z62 Mx0_7z62 Mx0_8 Mx0_9z62 Mx0_10z62 Mx0_11z62 Mx0_12z62 Mx0_13z62 My1 My2 Mx3_0 Mx4_0z62 My5))) [0, 1, 2, 3, 4, 5, 6] (by decide) rfl
                                    have hP : va_P D classes ((wS54 cI cJ cZ cB p0 m0) ++ (wS57 cI cJ cZ cB m0 m1 m2 m3 m4 m5 Mx0_4 Mx0_5 Mx0_6z62 Mx0_7z62 Mx0_8 Mx0_9z62 Mx0_10z62 Mx0_11z62 Mx0_12z62 Mx0_13z62 My1 My2 Mx3_0 Mx4_0z62 My5)) H := hP
                                    have hD : va_D A ((wS54 cI cJ cZ cB p0 m0) ++ (wS57 cI cJ cZ cB m0 m1 m2 m3 m4 m5 Mx0_4 Mx0_5 Mx0_6z62 Mx0_7z62 Mx0_8 Mx0_9z62 Mx0_10z62 Mx0_11z62 Mx0_12z62 Mx0_13z62 My1 My2 Mx3_0 Mx4_0z62 My5)) := hD
                                    clear hPc hDc hFc
                                    refine W.widen (k := 2) (n := 8000) (by decide) (by decide) ?_
                                    refine lv_istore_n (lv' := [(3, .int rz62), (4, .int l4), (2, .int l2), (0, .ref p0), (1, .int a1)]) hx hb d_S_run_38 rfl hl (by decide) rfl (fun ls hl => ?_)
                                    refine lv_iload_n hx hb d_S_run_39 rfl (lv_at hl 0 rfl) ?_
                                    refine lv_iconst (v := 1) hx hb d_S_run_40 (by decide) ?_
                                    refine lv_icmp_gt (tgt := 47) hx hb d_S_run_41 (by decide) (fun c63 => ?_) (fun c63 => ?_)
                                    · obtain ⟨v64, hv64⟩ : ∃ y : Int32, y = (l4 + (1 : Int32)) := ⟨_, rfl⟩
                                      refine lv_iinc (v := v64) (lv' := [(4, .int v64), (3, .int rz62), (2, .int l2), (0, .ref p0), (1, .int a1)]) hx hb d_S_run_47 hl (k := 1) rfl (by rw [hv64]; rfl) (by decide) rfl (fun ls hl => ?_)
                                      refine lv_goto (tgt := 21) hx hb d_S_run_50 (by decide) ?_
                                      exact ih v64 l2 rz62 Mx0_4 Mx0_5 Mx0_6z62 Mx0_7z62 Mx0_8 Mx0_9z62 Mx0_10z62 Mx0_11z62 Mx0_12z62 Mx0_13z62 My1 My2 Mx3_0 Mx4_0z62 My5 H _ ls (lpu c53 hv64 hn21_x1) (lpn hc21_x1 c53 hv64) hP hD hS (lv_sub hl [0, 2, 1, 3, 4] rfl)
                                    · obtain ⟨v65, hv65⟩ : ∃ y : Int32, y = (l2 + (1 : Int32)) := ⟨_, rfl⟩
                                      refine lv_iinc (v := v65) (lv' := [(2, .int v65), (3, .int rz62), (4, .int l4), (0, .ref p0), (1, .int a1)]) hx hb d_S_run_44 hl (k := 2) rfl (by rw [hv65]; rfl) (by decide) rfl (fun ls hl => ?_)
                                      obtain ⟨v66, hv66⟩ : ∃ y : Int32, y = (l4 + (1 : Int32)) := ⟨_, rfl⟩
                                      refine lv_iinc (v := v66) (lv' := [(4, .int v66), (2, .int v65), (3, .int rz62), (0, .ref p0), (1, .int a1)]) hx hb d_S_run_47 hl (k := 2) rfl (by rw [hv66]; rfl) (by decide) rfl (fun ls hl => ?_)
                                      refine lv_goto (tgt := 21) hx hb d_S_run_50 (by decide) ?_
                                      exact ih v66 v65 rz62 Mx0_4 Mx0_5 Mx0_6z62 Mx0_7z62 Mx0_8 Mx0_9z62 Mx0_10z62 Mx0_11z62 Mx0_12z62 Mx0_13z62 My1 My2 Mx3_0 Mx4_0z62 My5 H _ ls (lpu c53 hv66 hn21_x1) (lpn hc21_x1 c53 hv66) hP hD hS (lv_sub hl [0, 1, 2, 3, 4] rfl)
                                  · rw [ht] at hP1
                                    obtain ⟨hP, hD⟩ := va_join (wr := (wS54 cI cJ cZ cB p0 m0)) (w1 := (wS60 cI cJ cZ cB m0 m1 m2 m3 m4 m5 m6 Mx0_4 Mx0_5 Mx0_6z62 Mx0_7z62 Mx0_8 Mx0_9z62 Mx0_10z62 Mx0_11z62 Mx0_12z62 Mx0_13z62 My1 My2 Mx3_0 Mx4_0z62 My5 My6z62)) hP hD [1, 2, 3, 4, 5, 6] [0] rfl rfl (by decide) (by decide) hk1 hFc hP1 hD1
                                    have hP := hP.sub (ws' := ((wS54 cI cJ cZ cB p0 m0) ++ (wS60 cI cJ cZ cB m0 m1 m2 m3 m4 m5 m6 Mx0_4 Mx0_5 Mx0_6z62 Mx0_7z62 Mx0_8 Mx0_9z62 Mx0_10z62 Mx0_11z62 Mx0_12z62 Mx0_13z62 My1 My2 Mx3_0 Mx4_0z62 My5 My6z62))) [0, 1, 2, 3, 4, 5, 6, 7] rfl
                                    have hD := hD.sub (ws' := ((wS54 cI cJ cZ cB p0 m0) ++ (wS60 cI cJ cZ cB m0 m1 m2 m3 m4 m5 m6 Mx0_4 Mx0_5 Mx0_6z62 Mx0_7z62 Mx0_8 Mx0_9z62 Mx0_10z62 Mx0_11z62 Mx0_12z62 Mx0_13z62 My1 My2 Mx3_0 Mx4_0z62 My5 My6z62))) [0, 1, 2, 3, 4, 5, 6, 7] (by decide) rfl
                                    have hP : va_P D classes ((wS54 cI cJ cZ cB p0 m0) ++ (wS60 cI cJ cZ cB m0 m1 m2 m3 m4 m5 m6 Mx0_4 Mx0_5 Mx0_6z62 Mx0_7z62 Mx0_8 Mx0_9z62 Mx0_10z62 Mx0_11z62 Mx0_12z62 Mx0_13z62 My1 My2 Mx3_0 Mx4_0z62 My5 My6z62)) H := hP
                                    have hD : va_D A ((wS54 cI cJ cZ cB p0 m0) ++ (wS60 cI cJ cZ cB m0 m1 m2 m3 m4 m5 m6 Mx0_4 Mx0_5 Mx0_6z62 Mx0_7z62 Mx0_8 Mx0_9z62 Mx0_10z62 Mx0_11z62 Mx0_12z62 Mx0_13z62 My1 My2 Mx3_0 Mx4_0z62 My5 My6z62)) := hD
                                    clear hPc hDc hFc
                                    refine W.widen (k := 2) (n := 8000) (by decide) (by decide) ?_
                                    refine lv_istore_n (lv' := [(3, .int rz62), (4, .int l4), (2, .int l2), (0, .ref p0), (1, .int a1)]) hx hb d_S_run_38 rfl hl (by decide) rfl (fun ls hl => ?_)
                                    refine lv_iload_n hx hb d_S_run_39 rfl (lv_at hl 0 rfl) ?_
                                    refine lv_iconst (v := 1) hx hb d_S_run_40 (by decide) ?_
                                    refine lv_icmp_gt (tgt := 47) hx hb d_S_run_41 (by decide) (fun c67 => ?_) (fun c67 => ?_)
                                    · obtain ⟨v68, hv68⟩ : ∃ y : Int32, y = (l4 + (1 : Int32)) := ⟨_, rfl⟩
                                      refine lv_iinc (v := v68) (lv' := [(4, .int v68), (3, .int rz62), (2, .int l2), (0, .ref p0), (1, .int a1)]) hx hb d_S_run_47 hl (k := 1) rfl (by rw [hv68]; rfl) (by decide) rfl (fun ls hl => ?_)
                                      refine lv_goto (tgt := 21) hx hb d_S_run_50 (by decide) ?_
                                      have LP21_x3 : ∀ (n : Nat) (l4 : Int32) (l3 : Int32) (l2 : Int32) (Mx0_4 : Bool) (Mx0_5 : Int32) (Mx0_6 : Int32) (Mx0_7 : Int32) (Mx0_8 : Int32) (Mx0_9 : Int32) (Mx0_10 : Int32) (Mx0_11 : Int32) (Mx0_12 : Int32) (Mx0_13 : Int32) (My1 : Nat → Int32) (My2 : Nat → Int32) (Mx3_0 : Int32) (Mx4_0 : Int32) (My5 : Nat → Int32) (My6 : Nat → Int32) (H : Heap) (locs : List Loc) (ls : Array Slot), ((a1).toInt - (l4).toInt).toNat < n → ¬ l4 < (0 : Int32) → va_P D classes ((wS54 cI cJ cZ cB p0 m0) ++ (wS60 cI cJ cZ cB m0 m1 m2 m3 m4 m5 m6 Mx0_4 Mx0_5 Mx0_6 Mx0_7 Mx0_8 Mx0_9 Mx0_10 Mx0_11 Mx0_12 Mx0_13 My1 My2 Mx3_0 Mx4_0 My5 My6)) H → va_D A ((wS54 cI cJ cZ cB p0 m0) ++ (wS60 cI cJ cZ cB m0 m1 m2 m3 m4 m5 m6 Mx0_4 Mx0_5 Mx0_6 Mx0_7 Mx0_8 Mx0_9 Mx0_10 Mx0_11 Mx0_12 Mx0_13 My1 My2 Mx3_0 Mx4_0 My5 My6)) → va_S A s.heap H locs → lv_has ls 5 [(4, .int l4), (3, .int l3), (2, .int l2), (0, .ref p0), (1, .int a1)] → W p l e ({ frames := 7, cells := 2, slots := 8000, locals := 151 }) s m [.ref p0, .int a1].toArray below meth c H locs 2 8000 (MQ below (va_Qi (fun r (_ : Unit) => True) (fun _ t => ∃ W9 : va_W, isC K cI cJ cZ cB p0 W9 ∧ va_P D classes W9 t.heap ∧ va_D A W9) A) [.ref p0, .int a1].toArray s 2 8000 A) (F0 m 21 ls []) := by
                                        intro n
                                        induction n with
                                        | zero => intro l4 l3 l2 Mx0_4 Mx0_5 Mx0_6 Mx0_7 Mx0_8 Mx0_9 Mx0_10 Mx0_11 Mx0_12 Mx0_13 My1 My2 Mx3_0 Mx4_0 My5 My6 H locs ls hn; exact absurd hn (Nat.not_lt_zero _)
                                        | succ n ih =>
                                          intro l4 l3 l2 Mx0_4 Mx0_5 Mx0_6 Mx0_7 Mx0_8 Mx0_9 Mx0_10 Mx0_11 Mx0_12 Mx0_13 My1 My2 Mx3_0 Mx4_0 My5 My6 H locs ls hn21_x3 hc21_x3 hP hD hS hl
                                          refine lv_iload hx hb d_S_run_21 (lv_at hl 0 rfl) ?_
                                          refine lv_iload_n hx hb d_S_run_23 rfl (lv_at hl 4 rfl) ?_
                                          refine lv_icmp_ge (tgt := 53) hx hb d_S_run_24 (by decide) (fun c69 => ?_) (fun c69 => ?_)
                                          · refine lv_aload_n hx hb d_S_run_53 rfl (lv_at hl 3 rfl) ?_
                                            refine va_get (D := D) (ci := 0) (v := .ref m0) (C := "SignMachine") (T := F_S) (N := 2) hx hb hk fi_S hown hK.1 hP 0 rfl rfl 0 (by decide) (hk _ k_210) (fun _ h9 => h9) rfl d_S_run_54 ?_
                                            refine lv_iload_n hx hb d_S_run_57 rfl (lv_at hl 1 rfl) ?_
                                            refine va_putN (D := D) (ci := 1) (v := .int l3) (ty := .int) (C := "SignMachine$Machine") (T := F_M) (N := 14) hx hb hk fi_M ft_M ft_M_ok fn_M hown hK.1 hP hD hS 1 rfl rfl 8 (by decide) (va_Nw.use rfl (hK.2 _ n_175)) (fun _ h9 => h9) rfl (by decide +kernel) rfl rfl (Nat.le_of_ble_eq_true rfl) d_S_run_58 (fun H locs hP hD hS => ?_)
                                            have hP : va_P D classes ((wS54 cI cJ cZ cB p0 m0) ++ (wS60 cI cJ cZ cB m0 m1 m2 m3 m4 m5 m6 Mx0_4 Mx0_5 Mx0_6 Mx0_7 l3 Mx0_9 Mx0_10 Mx0_11 Mx0_12 Mx0_13 My1 My2 Mx3_0 Mx4_0 My5 My6)) H := hP
                                            have hD : va_D A ((wS54 cI cJ cZ cB p0 m0) ++ (wS60 cI cJ cZ cB m0 m1 m2 m3 m4 m5 m6 Mx0_4 Mx0_5 Mx0_6 Mx0_7 l3 Mx0_9 Mx0_10 Mx0_11 Mx0_12 Mx0_13 My1 My2 Mx3_0 Mx4_0 My5 My6)) := hD
                                            refine lv_iload_n hx hb d_S_run_61 rfl (lv_at hl 2 rfl) ?_
                                            exact W.iret (v := l2) hx hb hr (fun t ht hW => ⟨⟨l2, (), rfl, trivial, ⟨_, isC_3, (by show va_P D classes _ t.heap; rw [ht]; exact hP), hD⟩⟩, hS.F ht⟩) hS.2.2 d_S_run_62
                                          · refine lv_iload_n hx hb d_S_run_27 rfl (lv_at hl 1 rfl) ?_
                                            refine lv_if_ne (tgt := 53) hx hb d_S_run_28 (by decide) (fun c70 => ?_) (fun c70 => ?_)
                                            · refine lv_aload_n hx hb d_S_run_53 rfl (lv_at hl 3 rfl) ?_
                                              refine va_get (D := D) (ci := 0) (v := .ref m0) (C := "SignMachine") (T := F_S) (N := 2) hx hb hk fi_S hown hK.1 hP 0 rfl rfl 0 (by decide) (hk _ k_210) (fun _ h9 => h9) rfl d_S_run_54 ?_
                                              refine lv_iload_n hx hb d_S_run_57 rfl (lv_at hl 1 rfl) ?_
                                              refine va_putN (D := D) (ci := 1) (v := .int l3) (ty := .int) (C := "SignMachine$Machine") (T := F_M) (N := 14) hx hb hk fi_M ft_M ft_M_ok fn_M hown hK.1 hP hD hS 1 rfl rfl 8 (by decide) (va_Nw.use rfl (hK.2 _ n_175)) (fun _ h9 => h9) rfl (by decide +kernel) rfl rfl (Nat.le_of_ble_eq_true rfl) d_S_run_58 (fun H locs hP hD hS => ?_)
                                              have hP : va_P D classes ((wS54 cI cJ cZ cB p0 m0) ++ (wS60 cI cJ cZ cB m0 m1 m2 m3 m4 m5 m6 Mx0_4 Mx0_5 Mx0_6 Mx0_7 l3 Mx0_9 Mx0_10 Mx0_11 Mx0_12 Mx0_13 My1 My2 Mx3_0 Mx4_0 My5 My6)) H := hP
                                              have hD : va_D A ((wS54 cI cJ cZ cB p0 m0) ++ (wS60 cI cJ cZ cB m0 m1 m2 m3 m4 m5 m6 Mx0_4 Mx0_5 Mx0_6 Mx0_7 l3 Mx0_9 Mx0_10 Mx0_11 Mx0_12 Mx0_13 My1 My2 Mx3_0 Mx4_0 My5 My6)) := hD
                                              refine lv_iload_n hx hb d_S_run_61 rfl (lv_at hl 2 rfl) ?_
                                              exact W.iret (v := l2) hx hb hr (fun t ht hW => ⟨⟨l2, (), rfl, trivial, ⟨_, isC_3, (by show va_P D classes _ t.heap; rw [ht]; exact hP), hD⟩⟩, hS.F ht⟩) hS.2.2 d_S_run_62
                                            · refine lv_aload_n hx hb d_S_run_31 rfl (lv_at hl 3 rfl) ?_
                                              refine va_get (D := D) (ci := 0) (v := .ref m0) (C := "SignMachine") (T := F_S) (N := 2) hx hb hk fi_S hown hK.1 hP 0 rfl rfl 0 (by decide) (hk _ k_210) (fun _ h9 => h9) rfl d_S_run_32 ?_
                                              have hPc := hP.sub (ws' := (wS60 cI cJ cZ cB m0 m1 m2 m3 m4 m5 m6 Mx0_4 Mx0_5 Mx0_6 Mx0_7 Mx0_8 Mx0_9 Mx0_10 Mx0_11 Mx0_12 Mx0_13 My1 My2 Mx3_0 Mx4_0 My5 My6)) [1, 2, 3, 4, 5, 6, 7] rfl
                                              have hDc := hD.sub (ws' := (wS60 cI cJ cZ cB m0 m1 m2 m3 m4 m5 m6 Mx0_4 Mx0_5 Mx0_6 Mx0_7 Mx0_8 Mx0_9 Mx0_10 Mx0_11 Mx0_12 Mx0_13 My1 My2 Mx3_0 Mx4_0 My5 My6)) [1, 2, 3, 4, 5, 6, 7] (by decide) rfl
                                              have hFc := va_free (wc := (wS60 cI cJ cZ cB m0 m1 m2 m3 m4 m5 m6 Mx0_4 Mx0_5 Mx0_6 Mx0_7 Mx0_8 Mx0_9 Mx0_10 Mx0_11 Mx0_12 Mx0_13 My1 My2 Mx3_0 Mx4_0 My5 My6)) hD hS hA [1, 2, 3, 4, 5, 6, 7] rfl
                                              refine va_calli (va_runV (C := "SignMachine$Machine") (As := []) (rest := []) ⟨hx, hb, hml, hown, hk⟩ (c_M_execute_s6 l K D cI cJ cZ cB m0 m1 m2 m3 m4 m5 m6 H.size Mx0_4 Mx0_5 Mx0_6 Mx0_7 Mx0_8 Mx0_9 Mx0_10 Mx0_11 Mx0_12 Mx0_13 My1 My2 Mx3_0 Mx4_0 My5 My6  ) (v_M_execute_s6 hk k_258 ⟨Nat.le_of_ble_eq_true rfl, Nat.le_of_ble_eq_true rfl⟩) (pMC_v hK hPc hDc hC hS hA (ci := 1) (q0 := 0) rfl rfl rfl) rfl rfl hl.1 rfl (lv_room (Nat.le_of_ble_eq_true rfl)) d_S_run_35 ⟨by decide, by decide⟩) hS (fun q _ h => hFc q h) hFc (fun rz71 u t H locs ht hvm hr0 hB hz1 hk1 hS => ?_)
                                              obtain ⟨Mx0_4z71, Mx0_5z71, Mx0_6z71, Mx0_7z71, Mx0_9z71, Mx0_10z71, Mx0_11z71, Mx0_12z71, Mx0_13z71, My1z71, My2z71, Mx3_0z71, Mx4_0z71, My5z71, My6z71, hP1, hD1⟩ := hB
                                              rw [ht] at hP1
                                              obtain ⟨hP, hD⟩ := va_join (wr := (wS54 cI cJ cZ cB p0 m0)) (w1 := (wS60 cI cJ cZ cB m0 m1 m2 m3 m4 m5 m6 Mx0_4z71 Mx0_5z71 Mx0_6z71 Mx0_7z71 Mx0_8 Mx0_9z71 Mx0_10z71 Mx0_11z71 Mx0_12z71 Mx0_13z71 My1z71 My2z71 Mx3_0z71 Mx4_0z71 My5z71 My6z71)) hP hD [1, 2, 3, 4, 5, 6, 7] [0] rfl rfl (by decide) (by decide) hk1 hFc hP1 hD1
                                              have hP := hP.sub (ws' := ((wS54 cI cJ cZ cB p0 m0) ++ (wS60 cI cJ cZ cB m0 m1 m2 m3 m4 m5 m6 Mx0_4z71 Mx0_5z71 Mx0_6z71 Mx0_7z71 Mx0_8 Mx0_9z71 Mx0_10z71 Mx0_11z71 Mx0_12z71 Mx0_13z71 My1z71 My2z71 Mx3_0z71 Mx4_0z71 My5z71 My6z71))) [0, 1, 2, 3, 4, 5, 6, 7] rfl
                                              have hD := hD.sub (ws' := ((wS54 cI cJ cZ cB p0 m0) ++ (wS60 cI cJ cZ cB m0 m1 m2 m3 m4 m5 m6 Mx0_4z71 Mx0_5z71 Mx0_6z71 Mx0_7z71 Mx0_8 Mx0_9z71 Mx0_10z71 Mx0_11z71 Mx0_12z71 Mx0_13z71 My1z71 My2z71 Mx3_0z71 Mx4_0z71 My5z71 My6z71))) [0, 1, 2, 3, 4, 5, 6, 7] (by decide) rfl
                                              have hP : va_P D classes ((wS54 cI cJ cZ cB p0 m0) ++ (wS60 cI cJ cZ cB m0 m1 m2 m3 m4 m5 m6 Mx0_4z71 Mx0_5z71 Mx0_6z71 Mx0_7z71 Mx0_8 Mx0_9z71 Mx0_10z71 Mx0_11z71 Mx0_12z71 Mx0_13z71 My1z71 My2z71 Mx3_0z71 Mx4_0z71 My5z71 My6z71)) H := hP
                                              have hD : va_D A ((wS54 cI cJ cZ cB p0 m0) ++ (wS60 cI cJ cZ cB m0 m1 m2 m3 m4 m5 m6 Mx0_4z71 Mx0_5z71 Mx0_6z71 Mx0_7z71 Mx0_8 Mx0_9z71 Mx0_10z71 Mx0_11z71 Mx0_12z71 Mx0_13z71 My1z71 My2z71 Mx3_0z71 Mx4_0z71 My5z71 My6z71)) := hD
                                              clear hPc hDc hFc
                                              refine lv_istore_n (lv' := [(3, .int rz71), (4, .int l4), (2, .int l2), (0, .ref p0), (1, .int a1)]) hx hb d_S_run_38 rfl hl (by decide) rfl (fun ls hl => ?_)
                                              refine lv_iload_n hx hb d_S_run_39 rfl (lv_at hl 0 rfl) ?_
                                              refine lv_iconst (v := 1) hx hb d_S_run_40 (by decide) ?_
                                              refine lv_icmp_gt (tgt := 47) hx hb d_S_run_41 (by decide) (fun c72 => ?_) (fun c72 => ?_)
                                              · obtain ⟨v73, hv73⟩ : ∃ y : Int32, y = (l4 + (1 : Int32)) := ⟨_, rfl⟩
                                                refine lv_iinc (v := v73) (lv' := [(4, .int v73), (3, .int rz71), (2, .int l2), (0, .ref p0), (1, .int a1)]) hx hb d_S_run_47 hl (k := 1) rfl (by rw [hv73]; rfl) (by decide) rfl (fun ls hl => ?_)
                                                refine lv_goto (tgt := 21) hx hb d_S_run_50 (by decide) ?_
                                                exact ih v73 rz71 l2 Mx0_4z71 Mx0_5z71 Mx0_6z71 Mx0_7z71 Mx0_8 Mx0_9z71 Mx0_10z71 Mx0_11z71 Mx0_12z71 Mx0_13z71 My1z71 My2z71 Mx3_0z71 Mx4_0z71 My5z71 My6z71 H _ ls (lpu c69 hv73 hn21_x3) (lpn hc21_x3 c69 hv73) hP hD hS (lv_sub hl [0, 1, 2, 3, 4] rfl)
                                              · obtain ⟨v74, hv74⟩ : ∃ y : Int32, y = (l2 + (1 : Int32)) := ⟨_, rfl⟩
                                                refine lv_iinc (v := v74) (lv' := [(2, .int v74), (3, .int rz71), (4, .int l4), (0, .ref p0), (1, .int a1)]) hx hb d_S_run_44 hl (k := 2) rfl (by rw [hv74]; rfl) (by decide) rfl (fun ls hl => ?_)
                                                obtain ⟨v75, hv75⟩ : ∃ y : Int32, y = (l4 + (1 : Int32)) := ⟨_, rfl⟩
                                                refine lv_iinc (v := v75) (lv' := [(4, .int v75), (2, .int v74), (3, .int rz71), (0, .ref p0), (1, .int a1)]) hx hb d_S_run_47 hl (k := 2) rfl (by rw [hv75]; rfl) (by decide) rfl (fun ls hl => ?_)
                                                refine lv_goto (tgt := 21) hx hb d_S_run_50 (by decide) ?_
                                                exact ih v75 rz71 v74 Mx0_4z71 Mx0_5z71 Mx0_6z71 Mx0_7z71 Mx0_8 Mx0_9z71 Mx0_10z71 Mx0_11z71 Mx0_12z71 Mx0_13z71 My1z71 My2z71 Mx3_0z71 Mx4_0z71 My5z71 My6z71 H _ ls (lpu c69 hv75 hn21_x3) (lpn hc21_x3 c69 hv75) hP hD hS (lv_sub hl [0, 2, 1, 3, 4] rfl)
                                      exact LP21_x3 _ v68 rz62 l2 Mx0_4 Mx0_5 Mx0_6z62 Mx0_7z62 Mx0_8 Mx0_9z62 Mx0_10z62 Mx0_11z62 Mx0_12z62 Mx0_13z62 My1 My2 Mx3_0 Mx4_0z62 My5 My6z62 H _ ls (Nat.lt_succ_self _) (lpn hc21_x1 c53 hv68) hP hD hS hl
                                    · obtain ⟨v76, hv76⟩ : ∃ y : Int32, y = (l2 + (1 : Int32)) := ⟨_, rfl⟩
                                      refine lv_iinc (v := v76) (lv' := [(2, .int v76), (3, .int rz62), (4, .int l4), (0, .ref p0), (1, .int a1)]) hx hb d_S_run_44 hl (k := 2) rfl (by rw [hv76]; rfl) (by decide) rfl (fun ls hl => ?_)
                                      obtain ⟨v77, hv77⟩ : ∃ y : Int32, y = (l4 + (1 : Int32)) := ⟨_, rfl⟩
                                      refine lv_iinc (v := v77) (lv' := [(4, .int v77), (2, .int v76), (3, .int rz62), (0, .ref p0), (1, .int a1)]) hx hb d_S_run_47 hl (k := 2) rfl (by rw [hv77]; rfl) (by decide) rfl (fun ls hl => ?_)
                                      refine lv_goto (tgt := 21) hx hb d_S_run_50 (by decide) ?_
                                      have LP21_x3 : ∀ (n : Nat) (l4 : Int32) (l2 : Int32) (l3 : Int32) (Mx0_4 : Bool) (Mx0_5 : Int32) (Mx0_6 : Int32) (Mx0_7 : Int32) (Mx0_8 : Int32) (Mx0_9 : Int32) (Mx0_10 : Int32) (Mx0_11 : Int32) (Mx0_12 : Int32) (Mx0_13 : Int32) (My1 : Nat → Int32) (My2 : Nat → Int32) (Mx3_0 : Int32) (Mx4_0 : Int32) (My5 : Nat → Int32) (My6 : Nat → Int32) (H : Heap) (locs : List Loc) (ls : Array Slot), ((a1).toInt - (l4).toInt).toNat < n → ¬ l4 < (0 : Int32) → va_P D classes ((wS54 cI cJ cZ cB p0 m0) ++ (wS60 cI cJ cZ cB m0 m1 m2 m3 m4 m5 m6 Mx0_4 Mx0_5 Mx0_6 Mx0_7 Mx0_8 Mx0_9 Mx0_10 Mx0_11 Mx0_12 Mx0_13 My1 My2 Mx3_0 Mx4_0 My5 My6)) H → va_D A ((wS54 cI cJ cZ cB p0 m0) ++ (wS60 cI cJ cZ cB m0 m1 m2 m3 m4 m5 m6 Mx0_4 Mx0_5 Mx0_6 Mx0_7 Mx0_8 Mx0_9 Mx0_10 Mx0_11 Mx0_12 Mx0_13 My1 My2 Mx3_0 Mx4_0 My5 My6)) → va_S A s.heap H locs → lv_has ls 5 [(4, .int l4), (2, .int l2), (3, .int l3), (0, .ref p0), (1, .int a1)] → W p l e ({ frames := 7, cells := 2, slots := 8000, locals := 151 }) s m [.ref p0, .int a1].toArray below meth c H locs 2 8000 (MQ below (va_Qi (fun r (_ : Unit) => True) (fun _ t => ∃ W9 : va_W, isC K cI cJ cZ cB p0 W9 ∧ va_P D classes W9 t.heap ∧ va_D A W9) A) [.ref p0, .int a1].toArray s 2 8000 A) (F0 m 21 ls []) := by
                                        intro n
                                        induction n with
                                        | zero => intro l4 l2 l3 Mx0_4 Mx0_5 Mx0_6 Mx0_7 Mx0_8 Mx0_9 Mx0_10 Mx0_11 Mx0_12 Mx0_13 My1 My2 Mx3_0 Mx4_0 My5 My6 H locs ls hn; exact absurd hn (Nat.not_lt_zero _)
                                        | succ n ih =>
                                          intro l4 l2 l3 Mx0_4 Mx0_5 Mx0_6 Mx0_7 Mx0_8 Mx0_9 Mx0_10 Mx0_11 Mx0_12 Mx0_13 My1 My2 Mx3_0 Mx4_0 My5 My6 H locs ls hn21_x3 hc21_x3 hP hD hS hl
                                          refine lv_iload hx hb d_S_run_21 (lv_at hl 0 rfl) ?_
                                          refine lv_iload_n hx hb d_S_run_23 rfl (lv_at hl 4 rfl) ?_
                                          refine lv_icmp_ge (tgt := 53) hx hb d_S_run_24 (by decide) (fun c78 => ?_) (fun c78 => ?_)
                                          · refine lv_aload_n hx hb d_S_run_53 rfl (lv_at hl 3 rfl) ?_
                                            refine va_get (D := D) (ci := 0) (v := .ref m0) (C := "SignMachine") (T := F_S) (N := 2) hx hb hk fi_S hown hK.1 hP 0 rfl rfl 0 (by decide) (hk _ k_210) (fun _ h9 => h9) rfl d_S_run_54 ?_
                                            refine lv_iload_n hx hb d_S_run_57 rfl (lv_at hl 2 rfl) ?_
                                            refine va_putN (D := D) (ci := 1) (v := .int l3) (ty := .int) (C := "SignMachine$Machine") (T := F_M) (N := 14) hx hb hk fi_M ft_M ft_M_ok fn_M hown hK.1 hP hD hS 1 rfl rfl 8 (by decide) (va_Nw.use rfl (hK.2 _ n_175)) (fun _ h9 => h9) rfl (by decide +kernel) rfl rfl (Nat.le_of_ble_eq_true rfl) d_S_run_58 (fun H locs hP hD hS => ?_)
                                            have hP : va_P D classes ((wS54 cI cJ cZ cB p0 m0) ++ (wS60 cI cJ cZ cB m0 m1 m2 m3 m4 m5 m6 Mx0_4 Mx0_5 Mx0_6 Mx0_7 l3 Mx0_9 Mx0_10 Mx0_11 Mx0_12 Mx0_13 My1 My2 Mx3_0 Mx4_0 My5 My6)) H := hP
                                            have hD : va_D A ((wS54 cI cJ cZ cB p0 m0) ++ (wS60 cI cJ cZ cB m0 m1 m2 m3 m4 m5 m6 Mx0_4 Mx0_5 Mx0_6 Mx0_7 l3 Mx0_9 Mx0_10 Mx0_11 Mx0_12 Mx0_13 My1 My2 Mx3_0 Mx4_0 My5 My6)) := hD
                                            refine lv_iload_n hx hb d_S_run_61 rfl (lv_at hl 1 rfl) ?_
                                            exact W.iret (v := l2) hx hb hr (fun t ht hW => ⟨⟨l2, (), rfl, trivial, ⟨_, isC_3, (by show va_P D classes _ t.heap; rw [ht]; exact hP), hD⟩⟩, hS.F ht⟩) hS.2.2 d_S_run_62
                                          · refine lv_iload_n hx hb d_S_run_27 rfl (lv_at hl 2 rfl) ?_
                                            refine lv_if_ne (tgt := 53) hx hb d_S_run_28 (by decide) (fun c79 => ?_) (fun c79 => ?_)
                                            · refine lv_aload_n hx hb d_S_run_53 rfl (lv_at hl 3 rfl) ?_
                                              refine va_get (D := D) (ci := 0) (v := .ref m0) (C := "SignMachine") (T := F_S) (N := 2) hx hb hk fi_S hown hK.1 hP 0 rfl rfl 0 (by decide) (hk _ k_210) (fun _ h9 => h9) rfl d_S_run_54 ?_
                                              refine lv_iload_n hx hb d_S_run_57 rfl (lv_at hl 2 rfl) ?_
                                              refine va_putN (D := D) (ci := 1) (v := .int l3) (ty := .int) (C := "SignMachine$Machine") (T := F_M) (N := 14) hx hb hk fi_M ft_M ft_M_ok fn_M hown hK.1 hP hD hS 1 rfl rfl 8 (by decide) (va_Nw.use rfl (hK.2 _ n_175)) (fun _ h9 => h9) rfl (by decide +kernel) rfl rfl (Nat.le_of_ble_eq_true rfl) d_S_run_58 (fun H locs hP hD hS => ?_)
                                              have hP : va_P D classes ((wS54 cI cJ cZ cB p0 m0) ++ (wS60 cI cJ cZ cB m0 m1 m2 m3 m4 m5 m6 Mx0_4 Mx0_5 Mx0_6 Mx0_7 l3 Mx0_9 Mx0_10 Mx0_11 Mx0_12 Mx0_13 My1 My2 Mx3_0 Mx4_0 My5 My6)) H := hP
                                              have hD : va_D A ((wS54 cI cJ cZ cB p0 m0) ++ (wS60 cI cJ cZ cB m0 m1 m2 m3 m4 m5 m6 Mx0_4 Mx0_5 Mx0_6 Mx0_7 l3 Mx0_9 Mx0_10 Mx0_11 Mx0_12 Mx0_13 My1 My2 Mx3_0 Mx4_0 My5 My6)) := hD
                                              refine lv_iload_n hx hb d_S_run_61 rfl (lv_at hl 1 rfl) ?_
                                              exact W.iret (v := l2) hx hb hr (fun t ht hW => ⟨⟨l2, (), rfl, trivial, ⟨_, isC_3, (by show va_P D classes _ t.heap; rw [ht]; exact hP), hD⟩⟩, hS.F ht⟩) hS.2.2 d_S_run_62
                                            · refine lv_aload_n hx hb d_S_run_31 rfl (lv_at hl 3 rfl) ?_
                                              refine va_get (D := D) (ci := 0) (v := .ref m0) (C := "SignMachine") (T := F_S) (N := 2) hx hb hk fi_S hown hK.1 hP 0 rfl rfl 0 (by decide) (hk _ k_210) (fun _ h9 => h9) rfl d_S_run_32 ?_
                                              have hPc := hP.sub (ws' := (wS60 cI cJ cZ cB m0 m1 m2 m3 m4 m5 m6 Mx0_4 Mx0_5 Mx0_6 Mx0_7 Mx0_8 Mx0_9 Mx0_10 Mx0_11 Mx0_12 Mx0_13 My1 My2 Mx3_0 Mx4_0 My5 My6)) [1, 2, 3, 4, 5, 6, 7] rfl
                                              have hDc := hD.sub (ws' := (wS60 cI cJ cZ cB m0 m1 m2 m3 m4 m5 m6 Mx0_4 Mx0_5 Mx0_6 Mx0_7 Mx0_8 Mx0_9 Mx0_10 Mx0_11 Mx0_12 Mx0_13 My1 My2 Mx3_0 Mx4_0 My5 My6)) [1, 2, 3, 4, 5, 6, 7] (by decide) rfl
                                              have hFc := va_free (wc := (wS60 cI cJ cZ cB m0 m1 m2 m3 m4 m5 m6 Mx0_4 Mx0_5 Mx0_6 Mx0_7 Mx0_8 Mx0_9 Mx0_10 Mx0_11 Mx0_12 Mx0_13 My1 My2 Mx3_0 Mx4_0 My5 My6)) hD hS hA [1, 2, 3, 4, 5, 6, 7] rfl
                                              refine va_calli (va_runV (C := "SignMachine$Machine") (As := []) (rest := []) ⟨hx, hb, hml, hown, hk⟩ (c_M_execute_s6 l K D cI cJ cZ cB m0 m1 m2 m3 m4 m5 m6 H.size Mx0_4 Mx0_5 Mx0_6 Mx0_7 Mx0_8 Mx0_9 Mx0_10 Mx0_11 Mx0_12 Mx0_13 My1 My2 Mx3_0 Mx4_0 My5 My6  ) (v_M_execute_s6 hk k_258 ⟨Nat.le_of_ble_eq_true rfl, Nat.le_of_ble_eq_true rfl⟩) (pMC_v hK hPc hDc hC hS hA (ci := 1) (q0 := 0) rfl rfl rfl) rfl rfl hl.1 rfl (lv_room (Nat.le_of_ble_eq_true rfl)) d_S_run_35 ⟨by decide, by decide⟩) hS (fun q _ h => hFc q h) hFc (fun rz80 u t H locs ht hvm hr0 hB hz1 hk1 hS => ?_)
                                              obtain ⟨Mx0_4z80, Mx0_5z80, Mx0_6z80, Mx0_7z80, Mx0_9z80, Mx0_10z80, Mx0_11z80, Mx0_12z80, Mx0_13z80, My1z80, My2z80, Mx3_0z80, Mx4_0z80, My5z80, My6z80, hP1, hD1⟩ := hB
                                              rw [ht] at hP1
                                              obtain ⟨hP, hD⟩ := va_join (wr := (wS54 cI cJ cZ cB p0 m0)) (w1 := (wS60 cI cJ cZ cB m0 m1 m2 m3 m4 m5 m6 Mx0_4z80 Mx0_5z80 Mx0_6z80 Mx0_7z80 Mx0_8 Mx0_9z80 Mx0_10z80 Mx0_11z80 Mx0_12z80 Mx0_13z80 My1z80 My2z80 Mx3_0z80 Mx4_0z80 My5z80 My6z80)) hP hD [1, 2, 3, 4, 5, 6, 7] [0] rfl rfl (by decide) (by decide) hk1 hFc hP1 hD1
                                              have hP := hP.sub (ws' := ((wS54 cI cJ cZ cB p0 m0) ++ (wS60 cI cJ cZ cB m0 m1 m2 m3 m4 m5 m6 Mx0_4z80 Mx0_5z80 Mx0_6z80 Mx0_7z80 Mx0_8 Mx0_9z80 Mx0_10z80 Mx0_11z80 Mx0_12z80 Mx0_13z80 My1z80 My2z80 Mx3_0z80 Mx4_0z80 My5z80 My6z80))) [0, 1, 2, 3, 4, 5, 6, 7] rfl
                                              have hD := hD.sub (ws' := ((wS54 cI cJ cZ cB p0 m0) ++ (wS60 cI cJ cZ cB m0 m1 m2 m3 m4 m5 m6 Mx0_4z80 Mx0_5z80 Mx0_6z80 Mx0_7z80 Mx0_8 Mx0_9z80 Mx0_10z80 Mx0_11z80 Mx0_12z80 Mx0_13z80 My1z80 My2z80 Mx3_0z80 Mx4_0z80 My5z80 My6z80))) [0, 1, 2, 3, 4, 5, 6, 7] (by decide) rfl
                                              have hP : va_P D classes ((wS54 cI cJ cZ cB p0 m0) ++ (wS60 cI cJ cZ cB m0 m1 m2 m3 m4 m5 m6 Mx0_4z80 Mx0_5z80 Mx0_6z80 Mx0_7z80 Mx0_8 Mx0_9z80 Mx0_10z80 Mx0_11z80 Mx0_12z80 Mx0_13z80 My1z80 My2z80 Mx3_0z80 Mx4_0z80 My5z80 My6z80)) H := hP
                                              have hD : va_D A ((wS54 cI cJ cZ cB p0 m0) ++ (wS60 cI cJ cZ cB m0 m1 m2 m3 m4 m5 m6 Mx0_4z80 Mx0_5z80 Mx0_6z80 Mx0_7z80 Mx0_8 Mx0_9z80 Mx0_10z80 Mx0_11z80 Mx0_12z80 Mx0_13z80 My1z80 My2z80 Mx3_0z80 Mx4_0z80 My5z80 My6z80)) := hD
                                              clear hPc hDc hFc
                                              refine lv_istore_n (lv' := [(3, .int rz80), (4, .int l4), (2, .int l2), (0, .ref p0), (1, .int a1)]) hx hb d_S_run_38 rfl hl (by decide) rfl (fun ls hl => ?_)
                                              refine lv_iload_n hx hb d_S_run_39 rfl (lv_at hl 0 rfl) ?_
                                              refine lv_iconst (v := 1) hx hb d_S_run_40 (by decide) ?_
                                              refine lv_icmp_gt (tgt := 47) hx hb d_S_run_41 (by decide) (fun c81 => ?_) (fun c81 => ?_)
                                              · obtain ⟨v82, hv82⟩ : ∃ y : Int32, y = (l4 + (1 : Int32)) := ⟨_, rfl⟩
                                                refine lv_iinc (v := v82) (lv' := [(4, .int v82), (3, .int rz80), (2, .int l2), (0, .ref p0), (1, .int a1)]) hx hb d_S_run_47 hl (k := 1) rfl (by rw [hv82]; rfl) (by decide) rfl (fun ls hl => ?_)
                                                refine lv_goto (tgt := 21) hx hb d_S_run_50 (by decide) ?_
                                                exact ih v82 l2 rz80 Mx0_4z80 Mx0_5z80 Mx0_6z80 Mx0_7z80 Mx0_8 Mx0_9z80 Mx0_10z80 Mx0_11z80 Mx0_12z80 Mx0_13z80 My1z80 My2z80 Mx3_0z80 Mx4_0z80 My5z80 My6z80 H _ ls (lpu c78 hv82 hn21_x3) (lpn hc21_x3 c78 hv82) hP hD hS (lv_sub hl [0, 2, 1, 3, 4] rfl)
                                              · obtain ⟨v83, hv83⟩ : ∃ y : Int32, y = (l2 + (1 : Int32)) := ⟨_, rfl⟩
                                                refine lv_iinc (v := v83) (lv' := [(2, .int v83), (3, .int rz80), (4, .int l4), (0, .ref p0), (1, .int a1)]) hx hb d_S_run_44 hl (k := 2) rfl (by rw [hv83]; rfl) (by decide) rfl (fun ls hl => ?_)
                                                obtain ⟨v84, hv84⟩ : ∃ y : Int32, y = (l4 + (1 : Int32)) := ⟨_, rfl⟩
                                                refine lv_iinc (v := v84) (lv' := [(4, .int v84), (2, .int v83), (3, .int rz80), (0, .ref p0), (1, .int a1)]) hx hb d_S_run_47 hl (k := 2) rfl (by rw [hv84]; rfl) (by decide) rfl (fun ls hl => ?_)
                                                refine lv_goto (tgt := 21) hx hb d_S_run_50 (by decide) ?_
                                                exact ih v84 v83 rz80 Mx0_4z80 Mx0_5z80 Mx0_6z80 Mx0_7z80 Mx0_8 Mx0_9z80 Mx0_10z80 Mx0_11z80 Mx0_12z80 Mx0_13z80 My1z80 My2z80 Mx3_0z80 Mx4_0z80 My5z80 My6z80 H _ ls (lpu c78 hv84 hn21_x3) (lpn hc21_x3 c78 hv84) hP hD hS (lv_sub hl [0, 1, 2, 3, 4] rfl)
                                      exact LP21_x3 _ v77 v76 rz62 Mx0_4 Mx0_5 Mx0_6z62 Mx0_7z62 Mx0_8 Mx0_9z62 Mx0_10z62 Mx0_11z62 Mx0_12z62 Mx0_13z62 My1 My2 Mx3_0 Mx4_0z62 My5 My6z62 H _ ls (Nat.lt_succ_self _) (lpn hc21_x1 c53 hv77) hP hD hS hl
                              · have hPc := hP.sub (ws' := (wS57 cI cJ cZ cB m0 m1 m2 m3 m4 m5 Mx0_4 Mx0_5 Mx0_6 Mx0_7 Mx0_8 Mx0_9 Mx0_10 Mx0_11 Mx0_12 Mx0_13 My1 My2 Mx3_0 Mx4_0 My5)) [1, 2, 3, 4, 5, 6] rfl
                                have hDc := hD.sub (ws' := (wS57 cI cJ cZ cB m0 m1 m2 m3 m4 m5 Mx0_4 Mx0_5 Mx0_6 Mx0_7 Mx0_8 Mx0_9 Mx0_10 Mx0_11 Mx0_12 Mx0_13 My1 My2 Mx3_0 Mx4_0 My5)) [1, 2, 3, 4, 5, 6] (by decide) rfl
                                have hFc := va_free (wc := (wS57 cI cJ cZ cB m0 m1 m2 m3 m4 m5 Mx0_4 Mx0_5 Mx0_6 Mx0_7 Mx0_8 Mx0_9 Mx0_10 Mx0_11 Mx0_12 Mx0_13 My1 My2 Mx3_0 Mx4_0 My5)) hD hS hA [1, 2, 3, 4, 5, 6] rfl
                                refine va_calli (va_runV (C := "SignMachine$Machine") (As := []) (rest := []) ⟨hx, hb, hml, hown, hk⟩ (c_M_execute_s7 l K D cI cJ cZ cB m0 m1 m2 m3 m4 m5 H.size Mx0_4 Mx0_5 Mx0_6 Mx0_7 Mx0_8 Mx0_9 Mx0_10 Mx0_11 Mx0_12 Mx0_13 My1 My2 Mx3_0 Mx4_0 My5  q55) (v_M_execute_s7 hk k_258 ⟨Nat.le_of_ble_eq_true rfl, Nat.le_of_ble_eq_true rfl⟩) (pMC_v hK hPc hDc hC hS hA (ci := 1) (q0 := 0) rfl rfl rfl) rfl rfl hl.1 rfl (lv_room (Nat.le_of_ble_eq_true rfl)) d_S_run_35 ⟨by decide, by decide⟩) hS (fun q _ h => hFc q h) hFc (fun rz85 u t H locs ht hvm hr0 hB hz1 hk1 hS => ?_)
                                obtain ⟨Mx0_4z85, Mx0_5z85, Mx0_6z85, Mx0_7z85, Mx0_9z85, Mx0_10z85, Mx0_11z85, Mx0_12z85, Mx0_13z85, My1z85, My2z85, Mx3_0z85, Mx4_0z85, hP1, hD1⟩ := hB
                                rw [ht] at hP1
                                obtain ⟨hP, hD⟩ := va_join (wr := (wS54 cI cJ cZ cB p0 m0)) (w1 := (wS57 cI cJ cZ cB m0 m1 m2 m3 m4 m5 Mx0_4z85 Mx0_5z85 Mx0_6z85 Mx0_7z85 Mx0_8 Mx0_9z85 Mx0_10z85 Mx0_11z85 Mx0_12z85 Mx0_13z85 My1z85 My2z85 Mx3_0z85 Mx4_0z85 My5)) hP hD [1, 2, 3, 4, 5, 6] [0] rfl rfl (by decide) (by decide) hk1 hFc hP1 hD1
                                have hP := hP.sub (ws' := ((wS54 cI cJ cZ cB p0 m0) ++ (wS57 cI cJ cZ cB m0 m1 m2 m3 m4 m5 Mx0_4z85 Mx0_5z85 Mx0_6z85 Mx0_7z85 Mx0_8 Mx0_9z85 Mx0_10z85 Mx0_11z85 Mx0_12z85 Mx0_13z85 My1z85 My2z85 Mx3_0z85 Mx4_0z85 My5))) [0, 1, 2, 3, 4, 5, 6] rfl
                                have hD := hD.sub (ws' := ((wS54 cI cJ cZ cB p0 m0) ++ (wS57 cI cJ cZ cB m0 m1 m2 m3 m4 m5 Mx0_4z85 Mx0_5z85 Mx0_6z85 Mx0_7z85 Mx0_8 Mx0_9z85 Mx0_10z85 Mx0_11z85 Mx0_12z85 Mx0_13z85 My1z85 My2z85 Mx3_0z85 Mx4_0z85 My5))) [0, 1, 2, 3, 4, 5, 6] (by decide) rfl
                                have hP : va_P D classes ((wS54 cI cJ cZ cB p0 m0) ++ (wS57 cI cJ cZ cB m0 m1 m2 m3 m4 m5 Mx0_4z85 Mx0_5z85 Mx0_6z85 Mx0_7z85 Mx0_8 Mx0_9z85 Mx0_10z85 Mx0_11z85 Mx0_12z85 Mx0_13z85 My1z85 My2z85 Mx3_0z85 Mx4_0z85 My5)) H := hP
                                have hD : va_D A ((wS54 cI cJ cZ cB p0 m0) ++ (wS57 cI cJ cZ cB m0 m1 m2 m3 m4 m5 Mx0_4z85 Mx0_5z85 Mx0_6z85 Mx0_7z85 Mx0_8 Mx0_9z85 Mx0_10z85 Mx0_11z85 Mx0_12z85 Mx0_13z85 My1z85 My2z85 Mx3_0z85 Mx4_0z85 My5)) := hD
                                clear hPc hDc hFc
                                refine lv_istore_n (lv' := [(3, .int rz85), (4, .int l4), (2, .int l2), (0, .ref p0), (1, .int a1)]) hx hb d_S_run_38 rfl hl (by decide) rfl (fun ls hl => ?_)
                                refine lv_iload_n hx hb d_S_run_39 rfl (lv_at hl 0 rfl) ?_
                                refine lv_iconst (v := 1) hx hb d_S_run_40 (by decide) ?_
                                refine lv_icmp_gt (tgt := 47) hx hb d_S_run_41 (by decide) (fun c86 => ?_) (fun c86 => ?_)
                                · obtain ⟨v87, hv87⟩ : ∃ y : Int32, y = (l4 + (1 : Int32)) := ⟨_, rfl⟩
                                  refine lv_iinc (v := v87) (lv' := [(4, .int v87), (3, .int rz85), (2, .int l2), (0, .ref p0), (1, .int a1)]) hx hb d_S_run_47 hl (k := 1) rfl (by rw [hv87]; rfl) (by decide) rfl (fun ls hl => ?_)
                                  refine lv_goto (tgt := 21) hx hb d_S_run_50 (by decide) ?_
                                  exact ih v87 l2 rz85 Mx0_4z85 Mx0_5z85 Mx0_6z85 Mx0_7z85 Mx0_8 Mx0_9z85 Mx0_10z85 Mx0_11z85 Mx0_12z85 Mx0_13z85 My1z85 My2z85 Mx3_0z85 Mx4_0z85 My5 H _ ls (lpu c53 hv87 hn21_x1) (lpn hc21_x1 c53 hv87) hP hD hS (lv_sub hl [0, 2, 1, 3, 4] rfl)
                                · obtain ⟨v88, hv88⟩ : ∃ y : Int32, y = (l2 + (1 : Int32)) := ⟨_, rfl⟩
                                  refine lv_iinc (v := v88) (lv' := [(2, .int v88), (3, .int rz85), (4, .int l4), (0, .ref p0), (1, .int a1)]) hx hb d_S_run_44 hl (k := 2) rfl (by rw [hv88]; rfl) (by decide) rfl (fun ls hl => ?_)
                                  obtain ⟨v89, hv89⟩ : ∃ y : Int32, y = (l4 + (1 : Int32)) := ⟨_, rfl⟩
                                  refine lv_iinc (v := v89) (lv' := [(4, .int v89), (2, .int v88), (3, .int rz85), (0, .ref p0), (1, .int a1)]) hx hb d_S_run_47 hl (k := 2) rfl (by rw [hv89]; rfl) (by decide) rfl (fun ls hl => ?_)
                                  refine lv_goto (tgt := 21) hx hb d_S_run_50 (by decide) ?_
                                  exact ih v89 v88 rz85 Mx0_4z85 Mx0_5z85 Mx0_6z85 Mx0_7z85 Mx0_8 Mx0_9z85 Mx0_10z85 Mx0_11z85 Mx0_12z85 Mx0_13z85 My1z85 My2z85 Mx3_0z85 Mx4_0z85 My5 H _ ls (lpu c53 hv89 hn21_x1) (lpn hc21_x1 c53 hv89) hP hD hS (lv_sub hl [0, 1, 2, 3, 4] rfl)
                      exact LP21_x1 _ v52 v51 rz7 Mx0_4 Mx0_5 Mx0_6z7 Mx0_7z7 Mx0_8 Mx0_9z7 Mx0_10z7 Mx0_11z7 Mx0_12z7 Mx0_13z7 My1 My2 Mx3_0z7 Mx4_0 My5z7 H _ ls (Nat.lt_succ_self _) (lpn hc21_x0 c3 hv52) hP hD hS hl
                · have hPc := hP.sub (ws' := (wS51 cI cJ cZ cB m0 m1 m2 m3 m4 Mx0_4 Mx0_5 Mx0_6 Mx0_7 Mx0_8 Mx0_9 Mx0_10 Mx0_11 Mx0_12 Mx0_13 My1 My2 Mx3_0 Mx4_0)) [1, 2, 3, 4, 5] rfl
                  have hDc := hD.sub (ws' := (wS51 cI cJ cZ cB m0 m1 m2 m3 m4 Mx0_4 Mx0_5 Mx0_6 Mx0_7 Mx0_8 Mx0_9 Mx0_10 Mx0_11 Mx0_12 Mx0_13 My1 My2 Mx3_0 Mx4_0)) [1, 2, 3, 4, 5] (by decide) rfl
                  have hFc := va_free (wc := (wS51 cI cJ cZ cB m0 m1 m2 m3 m4 Mx0_4 Mx0_5 Mx0_6 Mx0_7 Mx0_8 Mx0_9 Mx0_10 Mx0_11 Mx0_12 Mx0_13 My1 My2 Mx3_0 Mx4_0)) hD hS hA [1, 2, 3, 4, 5] rfl
                  refine va_calli (va_runV (C := "SignMachine$Machine") (As := []) (rest := []) ⟨hx, hb, hml, hown, hk⟩ (c_M_execute_s2 l K D cI cJ cZ cB m0 m1 m2 m3 m4 H.size Mx0_4 Mx0_5 Mx0_6 Mx0_7 Mx0_8 Mx0_9 Mx0_10 Mx0_11 Mx0_12 Mx0_13 My1 My2 Mx3_0 Mx4_0  q5 q6) (v_M_execute_s2 hk k_258 ⟨Nat.le_of_ble_eq_true rfl, Nat.le_of_ble_eq_true rfl⟩) (pMC_v hK hPc hDc hC hS hA (ci := 1) (q0 := 0) rfl rfl rfl) rfl rfl hl.1 rfl (lv_room (Nat.le_of_ble_eq_true rfl)) d_S_run_35 ⟨by decide, by decide⟩) hS (fun q _ h => hFc q h) hFc (fun rz90 u t H locs ht hvm hr0 hB hz1 hk1 hS => ?_)
                  subst hr0
                  rcases hB with ⟨hzz90, Mx0_6z90, Mx0_7z90, Mx0_9z90, Mx0_10z90, Mx0_11z90, Mx0_12z90, Mx0_13z90, Mx4_0z90, hP1, hD1⟩ | ⟨m5, Mx0_6z90, Mx0_7z90, Mx0_9z90, Mx0_10z90, Mx0_11z90, Mx0_12z90, Mx0_13z90, Mx4_0z90, My5z90, hP1, hD1⟩
                  · rw [ht] at hP1
                    obtain ⟨hP, hD⟩ := va_join (wr := (wS54 cI cJ cZ cB p0 m0)) (w1 := (wS51 cI cJ cZ cB m0 m1 m2 m3 m4 Mx0_4 Mx0_5 Mx0_6z90 Mx0_7z90 Mx0_8 Mx0_9z90 Mx0_10z90 Mx0_11z90 Mx0_12z90 Mx0_13z90 My1 My2 Mx3_0 Mx4_0z90)) hP hD [1, 2, 3, 4, 5] [0] rfl rfl (by decide) (by decide) hk1 hFc hP1 hD1
                    have hP := hP.sub (ws' := ((wS54 cI cJ cZ cB p0 m0) ++ (wS51 cI cJ cZ cB m0 m1 m2 m3 m4 Mx0_4 Mx0_5 Mx0_6z90 Mx0_7z90 Mx0_8 Mx0_9z90 Mx0_10z90 Mx0_11z90 Mx0_12z90 Mx0_13z90 My1 My2 Mx3_0 Mx4_0z90))) [0, 1, 2, 3, 4, 5] rfl
                    have hD := hD.sub (ws' := ((wS54 cI cJ cZ cB p0 m0) ++ (wS51 cI cJ cZ cB m0 m1 m2 m3 m4 Mx0_4 Mx0_5 Mx0_6z90 Mx0_7z90 Mx0_8 Mx0_9z90 Mx0_10z90 Mx0_11z90 Mx0_12z90 Mx0_13z90 My1 My2 Mx3_0 Mx4_0z90))) [0, 1, 2, 3, 4, 5] (by decide) rfl
                    have hP : va_P D classes ((wS54 cI cJ cZ cB p0 m0) ++ (wS51 cI cJ cZ cB m0 m1 m2 m3 m4 Mx0_4 Mx0_5 Mx0_6z90 Mx0_7z90 Mx0_8 Mx0_9z90 Mx0_10z90 Mx0_11z90 Mx0_12z90 Mx0_13z90 My1 My2 Mx3_0 Mx4_0z90)) H := hP
                    have hD : va_D A ((wS54 cI cJ cZ cB p0 m0) ++ (wS51 cI cJ cZ cB m0 m1 m2 m3 m4 Mx0_4 Mx0_5 Mx0_6z90 Mx0_7z90 Mx0_8 Mx0_9z90 Mx0_10z90 Mx0_11z90 Mx0_12z90 Mx0_13z90 My1 My2 Mx3_0 Mx4_0z90)) := hD
                    clear hPc hDc hFc
                    refine W.widen (k := 1) (n := 4000) (by decide) (by decide) ?_
                    refine lv_istore_n (lv' := [(3, .int rz90), (4, .int l4), (2, .int l2), (0, .ref p0), (1, .int a1)]) hx hb d_S_run_38 rfl hl (by decide) rfl (fun ls hl => ?_)
                    refine lv_iload_n hx hb d_S_run_39 rfl (lv_at hl 0 rfl) ?_
                    refine lv_iconst (v := 1) hx hb d_S_run_40 (by decide) ?_
                    refine lv_icmp_gt (tgt := 47) hx hb d_S_run_41 (by decide) (fun c91 => ?_) (fun c91 => ?_)
                    · obtain ⟨v92, hv92⟩ : ∃ y : Int32, y = (l4 + (1 : Int32)) := ⟨_, rfl⟩
                      refine lv_iinc (v := v92) (lv' := [(4, .int v92), (3, .int rz90), (2, .int l2), (0, .ref p0), (1, .int a1)]) hx hb d_S_run_47 hl (k := 1) rfl (by rw [hv92]; rfl) (by decide) rfl (fun ls hl => ?_)
                      refine lv_goto (tgt := 21) hx hb d_S_run_50 (by decide) ?_
                      exact ih v92 rz90 l2 Mx0_4 Mx0_5 Mx0_6z90 Mx0_7z90 Mx0_8 Mx0_9z90 Mx0_10z90 Mx0_11z90 Mx0_12z90 Mx0_13z90 My1 My2 Mx3_0 Mx4_0z90 H _ ls (lpu c3 hv92 hn21_x0) (lpn hc21_x0 c3 hv92) hP hD hS (lv_sub hl [0, 1, 2, 3, 4] rfl)
                    · obtain ⟨v93, hv93⟩ : ∃ y : Int32, y = (l2 + (1 : Int32)) := ⟨_, rfl⟩
                      refine lv_iinc (v := v93) (lv' := [(2, .int v93), (3, .int rz90), (4, .int l4), (0, .ref p0), (1, .int a1)]) hx hb d_S_run_44 hl (k := 2) rfl (by rw [hv93]; rfl) (by decide) rfl (fun ls hl => ?_)
                      obtain ⟨v94, hv94⟩ : ∃ y : Int32, y = (l4 + (1 : Int32)) := ⟨_, rfl⟩
                      refine lv_iinc (v := v94) (lv' := [(4, .int v94), (2, .int v93), (3, .int rz90), (0, .ref p0), (1, .int a1)]) hx hb d_S_run_47 hl (k := 2) rfl (by rw [hv94]; rfl) (by decide) rfl (fun ls hl => ?_)
                      refine lv_goto (tgt := 21) hx hb d_S_run_50 (by decide) ?_
                      exact ih v94 rz90 v93 Mx0_4 Mx0_5 Mx0_6z90 Mx0_7z90 Mx0_8 Mx0_9z90 Mx0_10z90 Mx0_11z90 Mx0_12z90 Mx0_13z90 My1 My2 Mx3_0 Mx4_0z90 H _ ls (lpu c3 hv94 hn21_x0) (lpn hc21_x0 c3 hv94) hP hD hS (lv_sub hl [0, 2, 1, 3, 4] rfl)
                  · rw [ht] at hP1
                    obtain ⟨hP, hD⟩ := va_join (wr := (wS54 cI cJ cZ cB p0 m0)) (w1 := (wS58 cI cJ cZ cB m0 m1 m2 m3 m4 m5 Mx0_4 Mx0_5 Mx0_6z90 Mx0_7z90 Mx0_8 Mx0_9z90 Mx0_10z90 Mx0_11z90 Mx0_12z90 Mx0_13z90 My1 My2 Mx3_0 Mx4_0z90 My5z90)) hP hD [1, 2, 3, 4, 5] [0] rfl rfl (by decide) (by decide) hk1 hFc hP1 hD1
                    have hP := hP.sub (ws' := ((wS54 cI cJ cZ cB p0 m0) ++ (wS58 cI cJ cZ cB m0 m1 m2 m3 m4 m5 Mx0_4 Mx0_5 Mx0_6z90 Mx0_7z90 Mx0_8 Mx0_9z90 Mx0_10z90 Mx0_11z90 Mx0_12z90 Mx0_13z90 My1 My2 Mx3_0 Mx4_0z90 My5z90))) [0, 1, 2, 3, 4, 5, 6] rfl
                    have hD := hD.sub (ws' := ((wS54 cI cJ cZ cB p0 m0) ++ (wS58 cI cJ cZ cB m0 m1 m2 m3 m4 m5 Mx0_4 Mx0_5 Mx0_6z90 Mx0_7z90 Mx0_8 Mx0_9z90 Mx0_10z90 Mx0_11z90 Mx0_12z90 Mx0_13z90 My1 My2 Mx3_0 Mx4_0z90 My5z90))) [0, 1, 2, 3, 4, 5, 6] (by decide) rfl
                    have hP : va_P D classes ((wS54 cI cJ cZ cB p0 m0) ++ (wS58 cI cJ cZ cB m0 m1 m2 m3 m4 m5 Mx0_4 Mx0_5 Mx0_6z90 Mx0_7z90 Mx0_8 Mx0_9z90 Mx0_10z90 Mx0_11z90 Mx0_12z90 Mx0_13z90 My1 My2 Mx3_0 Mx4_0z90 My5z90)) H := hP
                    have hD : va_D A ((wS54 cI cJ cZ cB p0 m0) ++ (wS58 cI cJ cZ cB m0 m1 m2 m3 m4 m5 Mx0_4 Mx0_5 Mx0_6z90 Mx0_7z90 Mx0_8 Mx0_9z90 Mx0_10z90 Mx0_11z90 Mx0_12z90 Mx0_13z90 My1 My2 Mx3_0 Mx4_0z90 My5z90)) := hD
                    clear hPc hDc hFc
                    refine W.widen (k := 1) (n := 4000) (by decide) (by decide) ?_
                    refine lv_istore_n (lv' := [(3, .int rz90), (4, .int l4), (2, .int l2), (0, .ref p0), (1, .int a1)]) hx hb d_S_run_38 rfl hl (by decide) rfl (fun ls hl => ?_)
                    refine lv_iload_n hx hb d_S_run_39 rfl (lv_at hl 0 rfl) ?_
                    refine lv_iconst (v := 1) hx hb d_S_run_40 (by decide) ?_
                    refine lv_icmp_gt (tgt := 47) hx hb d_S_run_41 (by decide) (fun c95 => ?_) (fun c95 => ?_)
                    · obtain ⟨v96, hv96⟩ : ∃ y : Int32, y = (l4 + (1 : Int32)) := ⟨_, rfl⟩
                      refine lv_iinc (v := v96) (lv' := [(4, .int v96), (3, .int rz90), (2, .int l2), (0, .ref p0), (1, .int a1)]) hx hb d_S_run_47 hl (k := 1) rfl (by rw [hv96]; rfl) (by decide) rfl (fun ls hl => ?_)
                      refine lv_goto (tgt := 21) hx hb d_S_run_50 (by decide) ?_
                      have LP21_x2 : ∀ (n : Nat) (l4 : Int32) (l3 : Int32) (l2 : Int32) (Mx0_4 : Bool) (Mx0_5 : Int32) (Mx0_6 : Int32) (Mx0_7 : Int32) (Mx0_8 : Int32) (Mx0_9 : Int32) (Mx0_10 : Int32) (Mx0_11 : Int32) (Mx0_12 : Int32) (Mx0_13 : Int32) (My1 : Nat → Int32) (My2 : Nat → Int32) (Mx3_0 : Int32) (Mx4_0 : Int32) (My5 : Nat → Int32) (H : Heap) (locs : List Loc) (ls : Array Slot), ((a1).toInt - (l4).toInt).toNat < n → ¬ l4 < (0 : Int32) → va_P D classes ((wS54 cI cJ cZ cB p0 m0) ++ (wS58 cI cJ cZ cB m0 m1 m2 m3 m4 m5 Mx0_4 Mx0_5 Mx0_6 Mx0_7 Mx0_8 Mx0_9 Mx0_10 Mx0_11 Mx0_12 Mx0_13 My1 My2 Mx3_0 Mx4_0 My5)) H → va_D A ((wS54 cI cJ cZ cB p0 m0) ++ (wS58 cI cJ cZ cB m0 m1 m2 m3 m4 m5 Mx0_4 Mx0_5 Mx0_6 Mx0_7 Mx0_8 Mx0_9 Mx0_10 Mx0_11 Mx0_12 Mx0_13 My1 My2 Mx3_0 Mx4_0 My5)) → va_S A s.heap H locs → lv_has ls 5 [(4, .int l4), (3, .int l3), (2, .int l2), (0, .ref p0), (1, .int a1)] → W p l e ({ frames := 7, cells := 2, slots := 8000, locals := 151 }) s m [.ref p0, .int a1].toArray below meth c H locs 1 4000 (MQ below (va_Qi (fun r (_ : Unit) => True) (fun _ t => ∃ W9 : va_W, isC K cI cJ cZ cB p0 W9 ∧ va_P D classes W9 t.heap ∧ va_D A W9) A) [.ref p0, .int a1].toArray s 2 8000 A) (F0 m 21 ls []) := by
                        intro n
                        induction n with
                        | zero => intro l4 l3 l2 Mx0_4 Mx0_5 Mx0_6 Mx0_7 Mx0_8 Mx0_9 Mx0_10 Mx0_11 Mx0_12 Mx0_13 My1 My2 Mx3_0 Mx4_0 My5 H locs ls hn; exact absurd hn (Nat.not_lt_zero _)
                        | succ n ih =>
                          intro l4 l3 l2 Mx0_4 Mx0_5 Mx0_6 Mx0_7 Mx0_8 Mx0_9 Mx0_10 Mx0_11 Mx0_12 Mx0_13 My1 My2 Mx3_0 Mx4_0 My5 H locs ls hn21_x2 hc21_x2 hP hD hS hl
                          refine lv_iload hx hb d_S_run_21 (lv_at hl 0 rfl) ?_
                          refine lv_iload_n hx hb d_S_run_23 rfl (lv_at hl 4 rfl) ?_
                          refine lv_icmp_ge (tgt := 53) hx hb d_S_run_24 (by decide) (fun c97 => ?_) (fun c97 => ?_)
                          · refine lv_aload_n hx hb d_S_run_53 rfl (lv_at hl 3 rfl) ?_
                            refine va_get (D := D) (ci := 0) (v := .ref m0) (C := "SignMachine") (T := F_S) (N := 2) hx hb hk fi_S hown hK.1 hP 0 rfl rfl 0 (by decide) (hk _ k_210) (fun _ h9 => h9) rfl d_S_run_54 ?_
                            refine lv_iload_n hx hb d_S_run_57 rfl (lv_at hl 1 rfl) ?_
                            refine va_putN (D := D) (ci := 1) (v := .int l3) (ty := .int) (C := "SignMachine$Machine") (T := F_M) (N := 14) hx hb hk fi_M ft_M ft_M_ok fn_M hown hK.1 hP hD hS 1 rfl rfl 8 (by decide) (va_Nw.use rfl (hK.2 _ n_175)) (fun _ h9 => h9) rfl (by decide +kernel) rfl rfl (Nat.le_of_ble_eq_true rfl) d_S_run_58 (fun H locs hP hD hS => ?_)
                            have hP : va_P D classes ((wS54 cI cJ cZ cB p0 m0) ++ (wS58 cI cJ cZ cB m0 m1 m2 m3 m4 m5 Mx0_4 Mx0_5 Mx0_6 Mx0_7 l3 Mx0_9 Mx0_10 Mx0_11 Mx0_12 Mx0_13 My1 My2 Mx3_0 Mx4_0 My5)) H := hP
                            have hD : va_D A ((wS54 cI cJ cZ cB p0 m0) ++ (wS58 cI cJ cZ cB m0 m1 m2 m3 m4 m5 Mx0_4 Mx0_5 Mx0_6 Mx0_7 l3 Mx0_9 Mx0_10 Mx0_11 Mx0_12 Mx0_13 My1 My2 Mx3_0 Mx4_0 My5)) := hD
                            refine lv_iload_n hx hb d_S_run_61 rfl (lv_at hl 2 rfl) ?_
                            refine W.widen (k := 2) (n := 8000) (by decide) (by decide) ?_
                            exact W.iret (v := l2) hx hb hr (fun t ht hW => ⟨⟨l2, (), rfl, trivial, ⟨_, isC_2, (by show va_P D classes _ t.heap; rw [ht]; exact hP), hD⟩⟩, hS.F ht⟩) hS.2.2 d_S_run_62
                          · refine lv_iload_n hx hb d_S_run_27 rfl (lv_at hl 1 rfl) ?_
                            refine lv_if_ne (tgt := 53) hx hb d_S_run_28 (by decide) (fun c98 => ?_) (fun c98 => ?_)
                            · refine lv_aload_n hx hb d_S_run_53 rfl (lv_at hl 3 rfl) ?_
                              refine va_get (D := D) (ci := 0) (v := .ref m0) (C := "SignMachine") (T := F_S) (N := 2) hx hb hk fi_S hown hK.1 hP 0 rfl rfl 0 (by decide) (hk _ k_210) (fun _ h9 => h9) rfl d_S_run_54 ?_
                              refine lv_iload_n hx hb d_S_run_57 rfl (lv_at hl 1 rfl) ?_
                              refine va_putN (D := D) (ci := 1) (v := .int l3) (ty := .int) (C := "SignMachine$Machine") (T := F_M) (N := 14) hx hb hk fi_M ft_M ft_M_ok fn_M hown hK.1 hP hD hS 1 rfl rfl 8 (by decide) (va_Nw.use rfl (hK.2 _ n_175)) (fun _ h9 => h9) rfl (by decide +kernel) rfl rfl (Nat.le_of_ble_eq_true rfl) d_S_run_58 (fun H locs hP hD hS => ?_)
                              have hP : va_P D classes ((wS54 cI cJ cZ cB p0 m0) ++ (wS58 cI cJ cZ cB m0 m1 m2 m3 m4 m5 Mx0_4 Mx0_5 Mx0_6 Mx0_7 l3 Mx0_9 Mx0_10 Mx0_11 Mx0_12 Mx0_13 My1 My2 Mx3_0 Mx4_0 My5)) H := hP
                              have hD : va_D A ((wS54 cI cJ cZ cB p0 m0) ++ (wS58 cI cJ cZ cB m0 m1 m2 m3 m4 m5 Mx0_4 Mx0_5 Mx0_6 Mx0_7 l3 Mx0_9 Mx0_10 Mx0_11 Mx0_12 Mx0_13 My1 My2 Mx3_0 Mx4_0 My5)) := hD
                              refine lv_iload_n hx hb d_S_run_61 rfl (lv_at hl 2 rfl) ?_
                              refine W.widen (k := 2) (n := 8000) (by decide) (by decide) ?_
                              exact W.iret (v := l2) hx hb hr (fun t ht hW => ⟨⟨l2, (), rfl, trivial, ⟨_, isC_2, (by show va_P D classes _ t.heap; rw [ht]; exact hP), hD⟩⟩, hS.F ht⟩) hS.2.2 d_S_run_62
                            · refine lv_aload_n hx hb d_S_run_31 rfl (lv_at hl 3 rfl) ?_
                              refine va_get (D := D) (ci := 0) (v := .ref m0) (C := "SignMachine") (T := F_S) (N := 2) hx hb hk fi_S hown hK.1 hP 0 rfl rfl 0 (by decide) (hk _ k_210) (fun _ h9 => h9) rfl d_S_run_32 ?_
                              by_cases q99 : ((f_W_size (f_mw My1 Mx0_7)) &&& (63 : Int32)) = (37 : Int32)
                              · by_cases q100 : (((f_W_size (f_mw My1 Mx0_7)) >>> ((6 : Int32) &&& (31 : Int32))) &&& (63 : Int32)) = (0 : Int32)
                                · have hPc := hP.sub (ws' := (wS58 cI cJ cZ cB m0 m1 m2 m3 m4 m5 Mx0_4 Mx0_5 Mx0_6 Mx0_7 Mx0_8 Mx0_9 Mx0_10 Mx0_11 Mx0_12 Mx0_13 My1 My2 Mx3_0 Mx4_0 My5)) [1, 2, 3, 4, 5, 6] rfl
                                  have hDc := hD.sub (ws' := (wS58 cI cJ cZ cB m0 m1 m2 m3 m4 m5 Mx0_4 Mx0_5 Mx0_6 Mx0_7 Mx0_8 Mx0_9 Mx0_10 Mx0_11 Mx0_12 Mx0_13 My1 My2 Mx3_0 Mx4_0 My5)) [1, 2, 3, 4, 5, 6] (by decide) rfl
                                  have hFc := va_free (wc := (wS58 cI cJ cZ cB m0 m1 m2 m3 m4 m5 Mx0_4 Mx0_5 Mx0_6 Mx0_7 Mx0_8 Mx0_9 Mx0_10 Mx0_11 Mx0_12 Mx0_13 My1 My2 Mx3_0 Mx4_0 My5)) hD hS hA [1, 2, 3, 4, 5, 6] rfl
                                  refine va_calli (va_runV (C := "SignMachine$Machine") (As := []) (rest := []) ⟨hx, hb, hml, hown, hk⟩ (c_M_execute_s8 l K D cI cJ cZ cB m0 m1 m2 m3 m4 m5 H.size Mx0_4 Mx0_5 Mx0_6 Mx0_7 Mx0_8 Mx0_9 Mx0_10 Mx0_11 Mx0_12 Mx0_13 My1 My2 Mx3_0 Mx4_0 My5  q99 q100) (v_M_execute_s8 hk k_258 ⟨Nat.le_of_ble_eq_true rfl, Nat.le_of_ble_eq_true rfl⟩) (pMC_v hK hPc hDc hC hS hA (ci := 1) (q0 := 0) rfl rfl rfl) rfl rfl hl.1 rfl (lv_room (Nat.le_of_ble_eq_true rfl)) d_S_run_35 ⟨by decide, by decide⟩) hS (fun q _ h => hFc q h) hFc (fun rz101 u t H locs ht hvm hr0 hB hz1 hk1 hS => ?_)
                                  subst hr0
                                  rcases hB with ⟨hzz101, Mx0_6z101, Mx0_7z101, Mx0_9z101, Mx0_10z101, Mx0_11z101, Mx0_12z101, Mx0_13z101, Mx3_0z101, hP1, hD1⟩ | ⟨m6, Mx0_6z101, Mx0_7z101, Mx0_9z101, Mx0_10z101, Mx0_11z101, Mx0_12z101, Mx0_13z101, Mx3_0z101, My6z101, hP1, hD1⟩
                                  · rw [ht] at hP1
                                    obtain ⟨hP, hD⟩ := va_join (wr := (wS54 cI cJ cZ cB p0 m0)) (w1 := (wS58 cI cJ cZ cB m0 m1 m2 m3 m4 m5 Mx0_4 Mx0_5 Mx0_6z101 Mx0_7z101 Mx0_8 Mx0_9z101 Mx0_10z101 Mx0_11z101 Mx0_12z101 Mx0_13z101 My1 My2 Mx3_0z101 Mx4_0 My5)) hP hD [1, 2, 3, 4, 5, 6] [0] rfl rfl (by decide) (by decide) hk1 hFc hP1 hD1
                                    have hP := hP.sub (ws' := ((wS54 cI cJ cZ cB p0 m0) ++ (wS58 cI cJ cZ cB m0 m1 m2 m3 m4 m5 Mx0_4 Mx0_5 Mx0_6z101 Mx0_7z101 Mx0_8 Mx0_9z101 Mx0_10z101 Mx0_11z101 Mx0_12z101 Mx0_13z101 My1 My2 Mx3_0z101 Mx4_0 My5))) [0, 1, 2, 3, 4, 5, 6] rfl
                                    have hD := hD.sub (ws' := ((wS54 cI cJ cZ cB p0 m0) ++ (wS58 cI cJ cZ cB m0 m1 m2 m3 m4 m5 Mx0_4 Mx0_5 Mx0_6z101 Mx0_7z101 Mx0_8 Mx0_9z101 Mx0_10z101 Mx0_11z101 Mx0_12z101 Mx0_13z101 My1 My2 Mx3_0z101 Mx4_0 My5))) [0, 1, 2, 3, 4, 5, 6] (by decide) rfl
                                    have hP : va_P D classes ((wS54 cI cJ cZ cB p0 m0) ++ (wS58 cI cJ cZ cB m0 m1 m2 m3 m4 m5 Mx0_4 Mx0_5 Mx0_6z101 Mx0_7z101 Mx0_8 Mx0_9z101 Mx0_10z101 Mx0_11z101 Mx0_12z101 Mx0_13z101 My1 My2 Mx3_0z101 Mx4_0 My5)) H := hP
                                    have hD : va_D A ((wS54 cI cJ cZ cB p0 m0) ++ (wS58 cI cJ cZ cB m0 m1 m2 m3 m4 m5 Mx0_4 Mx0_5 Mx0_6z101 Mx0_7z101 Mx0_8 Mx0_9z101 Mx0_10z101 Mx0_11z101 Mx0_12z101 Mx0_13z101 My1 My2 Mx3_0z101 Mx4_0 My5)) := hD
                                    clear hPc hDc hFc
                                    refine W.widen (k := 2) (n := 8000) (by decide) (by decide) ?_
                                    refine lv_istore_n (lv' := [(3, .int rz101), (4, .int l4), (2, .int l2), (0, .ref p0), (1, .int a1)]) hx hb d_S_run_38 rfl hl (by decide) rfl (fun ls hl => ?_)
                                    refine lv_iload_n hx hb d_S_run_39 rfl (lv_at hl 0 rfl) ?_
                                    refine lv_iconst (v := 1) hx hb d_S_run_40 (by decide) ?_
                                    refine lv_icmp_gt (tgt := 47) hx hb d_S_run_41 (by decide) (fun c102 => ?_) (fun c102 => ?_)
                                    · obtain ⟨v103, hv103⟩ : ∃ y : Int32, y = (l4 + (1 : Int32)) := ⟨_, rfl⟩
                                      refine lv_iinc (v := v103) (lv' := [(4, .int v103), (3, .int rz101), (2, .int l2), (0, .ref p0), (1, .int a1)]) hx hb d_S_run_47 hl (k := 1) rfl (by rw [hv103]; rfl) (by decide) rfl (fun ls hl => ?_)
                                      refine lv_goto (tgt := 21) hx hb d_S_run_50 (by decide) ?_
                                      exact ih v103 rz101 l2 Mx0_4 Mx0_5 Mx0_6z101 Mx0_7z101 Mx0_8 Mx0_9z101 Mx0_10z101 Mx0_11z101 Mx0_12z101 Mx0_13z101 My1 My2 Mx3_0z101 Mx4_0 My5 H _ ls (lpu c97 hv103 hn21_x2) (lpn hc21_x2 c97 hv103) hP hD hS (lv_sub hl [0, 1, 2, 3, 4] rfl)
                                    · obtain ⟨v104, hv104⟩ : ∃ y : Int32, y = (l2 + (1 : Int32)) := ⟨_, rfl⟩
                                      refine lv_iinc (v := v104) (lv' := [(2, .int v104), (3, .int rz101), (4, .int l4), (0, .ref p0), (1, .int a1)]) hx hb d_S_run_44 hl (k := 2) rfl (by rw [hv104]; rfl) (by decide) rfl (fun ls hl => ?_)
                                      obtain ⟨v105, hv105⟩ : ∃ y : Int32, y = (l4 + (1 : Int32)) := ⟨_, rfl⟩
                                      refine lv_iinc (v := v105) (lv' := [(4, .int v105), (2, .int v104), (3, .int rz101), (0, .ref p0), (1, .int a1)]) hx hb d_S_run_47 hl (k := 2) rfl (by rw [hv105]; rfl) (by decide) rfl (fun ls hl => ?_)
                                      refine lv_goto (tgt := 21) hx hb d_S_run_50 (by decide) ?_
                                      exact ih v105 rz101 v104 Mx0_4 Mx0_5 Mx0_6z101 Mx0_7z101 Mx0_8 Mx0_9z101 Mx0_10z101 Mx0_11z101 Mx0_12z101 Mx0_13z101 My1 My2 Mx3_0z101 Mx4_0 My5 H _ ls (lpu c97 hv105 hn21_x2) (lpn hc21_x2 c97 hv105) hP hD hS (lv_sub hl [0, 2, 1, 3, 4] rfl)
                                  · rw [ht] at hP1
                                    obtain ⟨hP, hD⟩ := va_join (wr := (wS54 cI cJ cZ cB p0 m0)) (w1 := (wS62 cI cJ cZ cB m0 m1 m2 m3 m4 m5 m6 Mx0_4 Mx0_5 Mx0_6z101 Mx0_7z101 Mx0_8 Mx0_9z101 Mx0_10z101 Mx0_11z101 Mx0_12z101 Mx0_13z101 My1 My2 Mx3_0z101 Mx4_0 My5 My6z101)) hP hD [1, 2, 3, 4, 5, 6] [0] rfl rfl (by decide) (by decide) hk1 hFc hP1 hD1
                                    have hP := hP.sub (ws' := ((wS54 cI cJ cZ cB p0 m0) ++ (wS62 cI cJ cZ cB m0 m1 m2 m3 m4 m5 m6 Mx0_4 Mx0_5 Mx0_6z101 Mx0_7z101 Mx0_8 Mx0_9z101 Mx0_10z101 Mx0_11z101 Mx0_12z101 Mx0_13z101 My1 My2 Mx3_0z101 Mx4_0 My5 My6z101))) [0, 1, 2, 3, 4, 5, 6, 7] rfl
                                    have hD := hD.sub (ws' := ((wS54 cI cJ cZ cB p0 m0) ++ (wS62 cI cJ cZ cB m0 m1 m2 m3 m4 m5 m6 Mx0_4 Mx0_5 Mx0_6z101 Mx0_7z101 Mx0_8 Mx0_9z101 Mx0_10z101 Mx0_11z101 Mx0_12z101 Mx0_13z101 My1 My2 Mx3_0z101 Mx4_0 My5 My6z101))) [0, 1, 2, 3, 4, 5, 6, 7] (by decide) rfl
                                    have hP : va_P D classes ((wS54 cI cJ cZ cB p0 m0) ++ (wS62 cI cJ cZ cB m0 m1 m2 m3 m4 m5 m6 Mx0_4 Mx0_5 Mx0_6z101 Mx0_7z101 Mx0_8 Mx0_9z101 Mx0_10z101 Mx0_11z101 Mx0_12z101 Mx0_13z101 My1 My2 Mx3_0z101 Mx4_0 My5 My6z101)) H := hP
                                    have hD : va_D A ((wS54 cI cJ cZ cB p0 m0) ++ (wS62 cI cJ cZ cB m0 m1 m2 m3 m4 m5 m6 Mx0_4 Mx0_5 Mx0_6z101 Mx0_7z101 Mx0_8 Mx0_9z101 Mx0_10z101 Mx0_11z101 Mx0_12z101 Mx0_13z101 My1 My2 Mx3_0z101 Mx4_0 My5 My6z101)) := hD
                                    clear hPc hDc hFc
                                    refine W.widen (k := 2) (n := 8000) (by decide) (by decide) ?_
                                    refine lv_istore_n (lv' := [(3, .int rz101), (4, .int l4), (2, .int l2), (0, .ref p0), (1, .int a1)]) hx hb d_S_run_38 rfl hl (by decide) rfl (fun ls hl => ?_)
                                    refine lv_iload_n hx hb d_S_run_39 rfl (lv_at hl 0 rfl) ?_
                                    refine lv_iconst (v := 1) hx hb d_S_run_40 (by decide) ?_
                                    refine lv_icmp_gt (tgt := 47) hx hb d_S_run_41 (by decide) (fun c106 => ?_) (fun c106 => ?_)
                                    · obtain ⟨v107, hv107⟩ : ∃ y : Int32, y = (l4 + (1 : Int32)) := ⟨_, rfl⟩
                                      refine lv_iinc (v := v107) (lv' := [(4, .int v107), (3, .int rz101), (2, .int l2), (0, .ref p0), (1, .int a1)]) hx hb d_S_run_47 hl (k := 1) rfl (by rw [hv107]; rfl) (by decide) rfl (fun ls hl => ?_)
                                      refine lv_goto (tgt := 21) hx hb d_S_run_50 (by decide) ?_
                                      have LP21_x4 : ∀ (n : Nat) (l4 : Int32) (l3 : Int32) (l2 : Int32) (Mx0_4 : Bool) (Mx0_5 : Int32) (Mx0_6 : Int32) (Mx0_7 : Int32) (Mx0_8 : Int32) (Mx0_9 : Int32) (Mx0_10 : Int32) (Mx0_11 : Int32) (Mx0_12 : Int32) (Mx0_13 : Int32) (My1 : Nat → Int32) (My2 : Nat → Int32) (Mx3_0 : Int32) (Mx4_0 : Int32) (My5 : Nat → Int32) (My6 : Nat → Int32) (H : Heap) (locs : List Loc) (ls : Array Slot), ((a1).toInt - (l4).toInt).toNat < n → ¬ l4 < (0 : Int32) → va_P D classes ((wS54 cI cJ cZ cB p0 m0) ++ (wS62 cI cJ cZ cB m0 m1 m2 m3 m4 m5 m6 Mx0_4 Mx0_5 Mx0_6 Mx0_7 Mx0_8 Mx0_9 Mx0_10 Mx0_11 Mx0_12 Mx0_13 My1 My2 Mx3_0 Mx4_0 My5 My6)) H → va_D A ((wS54 cI cJ cZ cB p0 m0) ++ (wS62 cI cJ cZ cB m0 m1 m2 m3 m4 m5 m6 Mx0_4 Mx0_5 Mx0_6 Mx0_7 Mx0_8 Mx0_9 Mx0_10 Mx0_11 Mx0_12 Mx0_13 My1 My2 Mx3_0 Mx4_0 My5 My6)) → va_S A s.heap H locs → lv_has ls 5 [(4, .int l4), (3, .int l3), (2, .int l2), (0, .ref p0), (1, .int a1)] → W p l e ({ frames := 7, cells := 2, slots := 8000, locals := 151 }) s m [.ref p0, .int a1].toArray below meth c H locs 2 8000 (MQ below (va_Qi (fun r (_ : Unit) => True) (fun _ t => ∃ W9 : va_W, isC K cI cJ cZ cB p0 W9 ∧ va_P D classes W9 t.heap ∧ va_D A W9) A) [.ref p0, .int a1].toArray s 2 8000 A) (F0 m 21 ls []) := by
                                        intro n
                                        induction n with
                                        | zero => intro l4 l3 l2 Mx0_4 Mx0_5 Mx0_6 Mx0_7 Mx0_8 Mx0_9 Mx0_10 Mx0_11 Mx0_12 Mx0_13 My1 My2 Mx3_0 Mx4_0 My5 My6 H locs ls hn; exact absurd hn (Nat.not_lt_zero _)
                                        | succ n ih =>
                                          intro l4 l3 l2 Mx0_4 Mx0_5 Mx0_6 Mx0_7 Mx0_8 Mx0_9 Mx0_10 Mx0_11 Mx0_12 Mx0_13 My1 My2 Mx3_0 Mx4_0 My5 My6 H locs ls hn21_x4 hc21_x4 hP hD hS hl
                                          refine lv_iload hx hb d_S_run_21 (lv_at hl 0 rfl) ?_
                                          refine lv_iload_n hx hb d_S_run_23 rfl (lv_at hl 4 rfl) ?_
                                          refine lv_icmp_ge (tgt := 53) hx hb d_S_run_24 (by decide) (fun c108 => ?_) (fun c108 => ?_)
                                          · refine lv_aload_n hx hb d_S_run_53 rfl (lv_at hl 3 rfl) ?_
                                            refine va_get (D := D) (ci := 0) (v := .ref m0) (C := "SignMachine") (T := F_S) (N := 2) hx hb hk fi_S hown hK.1 hP 0 rfl rfl 0 (by decide) (hk _ k_210) (fun _ h9 => h9) rfl d_S_run_54 ?_
                                            refine lv_iload_n hx hb d_S_run_57 rfl (lv_at hl 1 rfl) ?_
                                            refine va_putN (D := D) (ci := 1) (v := .int l3) (ty := .int) (C := "SignMachine$Machine") (T := F_M) (N := 14) hx hb hk fi_M ft_M ft_M_ok fn_M hown hK.1 hP hD hS 1 rfl rfl 8 (by decide) (va_Nw.use rfl (hK.2 _ n_175)) (fun _ h9 => h9) rfl (by decide +kernel) rfl rfl (Nat.le_of_ble_eq_true rfl) d_S_run_58 (fun H locs hP hD hS => ?_)
                                            have hP : va_P D classes ((wS54 cI cJ cZ cB p0 m0) ++ (wS62 cI cJ cZ cB m0 m1 m2 m3 m4 m5 m6 Mx0_4 Mx0_5 Mx0_6 Mx0_7 l3 Mx0_9 Mx0_10 Mx0_11 Mx0_12 Mx0_13 My1 My2 Mx3_0 Mx4_0 My5 My6)) H := hP
                                            have hD : va_D A ((wS54 cI cJ cZ cB p0 m0) ++ (wS62 cI cJ cZ cB m0 m1 m2 m3 m4 m5 m6 Mx0_4 Mx0_5 Mx0_6 Mx0_7 l3 Mx0_9 Mx0_10 Mx0_11 Mx0_12 Mx0_13 My1 My2 Mx3_0 Mx4_0 My5 My6)) := hD
                                            refine lv_iload_n hx hb d_S_run_61 rfl (lv_at hl 2 rfl) ?_
                                            exact W.iret (v := l2) hx hb hr (fun t ht hW => ⟨⟨l2, (), rfl, trivial, ⟨_, isC_4, (by show va_P D classes _ t.heap; rw [ht]; exact hP), hD⟩⟩, hS.F ht⟩) hS.2.2 d_S_run_62
                                          · refine lv_iload_n hx hb d_S_run_27 rfl (lv_at hl 1 rfl) ?_
                                            refine lv_if_ne (tgt := 53) hx hb d_S_run_28 (by decide) (fun c109 => ?_) (fun c109 => ?_)
                                            · refine lv_aload_n hx hb d_S_run_53 rfl (lv_at hl 3 rfl) ?_
                                              refine va_get (D := D) (ci := 0) (v := .ref m0) (C := "SignMachine") (T := F_S) (N := 2) hx hb hk fi_S hown hK.1 hP 0 rfl rfl 0 (by decide) (hk _ k_210) (fun _ h9 => h9) rfl d_S_run_54 ?_
                                              refine lv_iload_n hx hb d_S_run_57 rfl (lv_at hl 1 rfl) ?_
                                              refine va_putN (D := D) (ci := 1) (v := .int l3) (ty := .int) (C := "SignMachine$Machine") (T := F_M) (N := 14) hx hb hk fi_M ft_M ft_M_ok fn_M hown hK.1 hP hD hS 1 rfl rfl 8 (by decide) (va_Nw.use rfl (hK.2 _ n_175)) (fun _ h9 => h9) rfl (by decide +kernel) rfl rfl (Nat.le_of_ble_eq_true rfl) d_S_run_58 (fun H locs hP hD hS => ?_)
                                              have hP : va_P D classes ((wS54 cI cJ cZ cB p0 m0) ++ (wS62 cI cJ cZ cB m0 m1 m2 m3 m4 m5 m6 Mx0_4 Mx0_5 Mx0_6 Mx0_7 l3 Mx0_9 Mx0_10 Mx0_11 Mx0_12 Mx0_13 My1 My2 Mx3_0 Mx4_0 My5 My6)) H := hP
                                              have hD : va_D A ((wS54 cI cJ cZ cB p0 m0) ++ (wS62 cI cJ cZ cB m0 m1 m2 m3 m4 m5 m6 Mx0_4 Mx0_5 Mx0_6 Mx0_7 l3 Mx0_9 Mx0_10 Mx0_11 Mx0_12 Mx0_13 My1 My2 Mx3_0 Mx4_0 My5 My6)) := hD
                                              refine lv_iload_n hx hb d_S_run_61 rfl (lv_at hl 2 rfl) ?_
                                              exact W.iret (v := l2) hx hb hr (fun t ht hW => ⟨⟨l2, (), rfl, trivial, ⟨_, isC_4, (by show va_P D classes _ t.heap; rw [ht]; exact hP), hD⟩⟩, hS.F ht⟩) hS.2.2 d_S_run_62
                                            · refine lv_aload_n hx hb d_S_run_31 rfl (lv_at hl 3 rfl) ?_
                                              refine va_get (D := D) (ci := 0) (v := .ref m0) (C := "SignMachine") (T := F_S) (N := 2) hx hb hk fi_S hown hK.1 hP 0 rfl rfl 0 (by decide) (hk _ k_210) (fun _ h9 => h9) rfl d_S_run_32 ?_
                                              have hPc := hP.sub (ws' := (wS62 cI cJ cZ cB m0 m1 m2 m3 m4 m5 m6 Mx0_4 Mx0_5 Mx0_6 Mx0_7 Mx0_8 Mx0_9 Mx0_10 Mx0_11 Mx0_12 Mx0_13 My1 My2 Mx3_0 Mx4_0 My5 My6)) [1, 2, 3, 4, 5, 6, 7] rfl
                                              have hDc := hD.sub (ws' := (wS62 cI cJ cZ cB m0 m1 m2 m3 m4 m5 m6 Mx0_4 Mx0_5 Mx0_6 Mx0_7 Mx0_8 Mx0_9 Mx0_10 Mx0_11 Mx0_12 Mx0_13 My1 My2 Mx3_0 Mx4_0 My5 My6)) [1, 2, 3, 4, 5, 6, 7] (by decide) rfl
                                              have hFc := va_free (wc := (wS62 cI cJ cZ cB m0 m1 m2 m3 m4 m5 m6 Mx0_4 Mx0_5 Mx0_6 Mx0_7 Mx0_8 Mx0_9 Mx0_10 Mx0_11 Mx0_12 Mx0_13 My1 My2 Mx3_0 Mx4_0 My5 My6)) hD hS hA [1, 2, 3, 4, 5, 6, 7] rfl
                                              refine va_calli (va_runV (C := "SignMachine$Machine") (As := []) (rest := []) ⟨hx, hb, hml, hown, hk⟩ (c_M_execute_s9 l K D cI cJ cZ cB m0 m1 m2 m3 m4 m5 m6 H.size Mx0_4 Mx0_5 Mx0_6 Mx0_7 Mx0_8 Mx0_9 Mx0_10 Mx0_11 Mx0_12 Mx0_13 My1 My2 Mx3_0 Mx4_0 My5 My6  ) (v_M_execute_s9 hk k_258 ⟨Nat.le_of_ble_eq_true rfl, Nat.le_of_ble_eq_true rfl⟩) (pMC_v hK hPc hDc hC hS hA (ci := 1) (q0 := 0) rfl rfl rfl) rfl rfl hl.1 rfl (lv_room (Nat.le_of_ble_eq_true rfl)) d_S_run_35 ⟨by decide, by decide⟩) hS (fun q _ h => hFc q h) hFc (fun rz110 u t H locs ht hvm hr0 hB hz1 hk1 hS => ?_)
                                              obtain ⟨Mx0_4z110, Mx0_5z110, Mx0_6z110, Mx0_7z110, Mx0_9z110, Mx0_10z110, Mx0_11z110, Mx0_12z110, Mx0_13z110, My1z110, My2z110, Mx3_0z110, Mx4_0z110, My5z110, My6z110, hP1, hD1⟩ := hB
                                              rw [ht] at hP1
                                              obtain ⟨hP, hD⟩ := va_join (wr := (wS54 cI cJ cZ cB p0 m0)) (w1 := (wS62 cI cJ cZ cB m0 m1 m2 m3 m4 m5 m6 Mx0_4z110 Mx0_5z110 Mx0_6z110 Mx0_7z110 Mx0_8 Mx0_9z110 Mx0_10z110 Mx0_11z110 Mx0_12z110 Mx0_13z110 My1z110 My2z110 Mx3_0z110 Mx4_0z110 My5z110 My6z110)) hP hD [1, 2, 3, 4, 5, 6, 7] [0] rfl rfl (by decide) (by decide) hk1 hFc hP1 hD1
                                              have hP := hP.sub (ws' := ((wS54 cI cJ cZ cB p0 m0) ++ (wS62 cI cJ cZ cB m0 m1 m2 m3 m4 m5 m6 Mx0_4z110 Mx0_5z110 Mx0_6z110 Mx0_7z110 Mx0_8 Mx0_9z110 Mx0_10z110 Mx0_11z110 Mx0_12z110 Mx0_13z110 My1z110 My2z110 Mx3_0z110 Mx4_0z110 My5z110 My6z110))) [0, 1, 2, 3, 4, 5, 6, 7] rfl
                                              have hD := hD.sub (ws' := ((wS54 cI cJ cZ cB p0 m0) ++ (wS62 cI cJ cZ cB m0 m1 m2 m3 m4 m5 m6 Mx0_4z110 Mx0_5z110 Mx0_6z110 Mx0_7z110 Mx0_8 Mx0_9z110 Mx0_10z110 Mx0_11z110 Mx0_12z110 Mx0_13z110 My1z110 My2z110 Mx3_0z110 Mx4_0z110 My5z110 My6z110))) [0, 1, 2, 3, 4, 5, 6, 7] (by decide) rfl
                                              have hP : va_P D classes ((wS54 cI cJ cZ cB p0 m0) ++ (wS62 cI cJ cZ cB m0 m1 m2 m3 m4 m5 m6 Mx0_4z110 Mx0_5z110 Mx0_6z110 Mx0_7z110 Mx0_8 Mx0_9z110 Mx0_10z110 Mx0_11z110 Mx0_12z110 Mx0_13z110 My1z110 My2z110 Mx3_0z110 Mx4_0z110 My5z110 My6z110)) H := hP
                                              have hD : va_D A ((wS54 cI cJ cZ cB p0 m0) ++ (wS62 cI cJ cZ cB m0 m1 m2 m3 m4 m5 m6 Mx0_4z110 Mx0_5z110 Mx0_6z110 Mx0_7z110 Mx0_8 Mx0_9z110 Mx0_10z110 Mx0_11z110 Mx0_12z110 Mx0_13z110 My1z110 My2z110 Mx3_0z110 Mx4_0z110 My5z110 My6z110)) := hD
                                              clear hPc hDc hFc
                                              refine lv_istore_n (lv' := [(3, .int rz110), (4, .int l4), (2, .int l2), (0, .ref p0), (1, .int a1)]) hx hb d_S_run_38 rfl hl (by decide) rfl (fun ls hl => ?_)
                                              refine lv_iload_n hx hb d_S_run_39 rfl (lv_at hl 0 rfl) ?_
                                              refine lv_iconst (v := 1) hx hb d_S_run_40 (by decide) ?_
                                              refine lv_icmp_gt (tgt := 47) hx hb d_S_run_41 (by decide) (fun c111 => ?_) (fun c111 => ?_)
                                              · obtain ⟨v112, hv112⟩ : ∃ y : Int32, y = (l4 + (1 : Int32)) := ⟨_, rfl⟩
                                                refine lv_iinc (v := v112) (lv' := [(4, .int v112), (3, .int rz110), (2, .int l2), (0, .ref p0), (1, .int a1)]) hx hb d_S_run_47 hl (k := 1) rfl (by rw [hv112]; rfl) (by decide) rfl (fun ls hl => ?_)
                                                refine lv_goto (tgt := 21) hx hb d_S_run_50 (by decide) ?_
                                                exact ih v112 rz110 l2 Mx0_4z110 Mx0_5z110 Mx0_6z110 Mx0_7z110 Mx0_8 Mx0_9z110 Mx0_10z110 Mx0_11z110 Mx0_12z110 Mx0_13z110 My1z110 My2z110 Mx3_0z110 Mx4_0z110 My5z110 My6z110 H _ ls (lpu c108 hv112 hn21_x4) (lpn hc21_x4 c108 hv112) hP hD hS (lv_sub hl [0, 1, 2, 3, 4] rfl)
                                              · obtain ⟨v113, hv113⟩ : ∃ y : Int32, y = (l2 + (1 : Int32)) := ⟨_, rfl⟩
                                                refine lv_iinc (v := v113) (lv' := [(2, .int v113), (3, .int rz110), (4, .int l4), (0, .ref p0), (1, .int a1)]) hx hb d_S_run_44 hl (k := 2) rfl (by rw [hv113]; rfl) (by decide) rfl (fun ls hl => ?_)
                                                obtain ⟨v114, hv114⟩ : ∃ y : Int32, y = (l4 + (1 : Int32)) := ⟨_, rfl⟩
                                                refine lv_iinc (v := v114) (lv' := [(4, .int v114), (2, .int v113), (3, .int rz110), (0, .ref p0), (1, .int a1)]) hx hb d_S_run_47 hl (k := 2) rfl (by rw [hv114]; rfl) (by decide) rfl (fun ls hl => ?_)
                                                refine lv_goto (tgt := 21) hx hb d_S_run_50 (by decide) ?_
                                                exact ih v114 rz110 v113 Mx0_4z110 Mx0_5z110 Mx0_6z110 Mx0_7z110 Mx0_8 Mx0_9z110 Mx0_10z110 Mx0_11z110 Mx0_12z110 Mx0_13z110 My1z110 My2z110 Mx3_0z110 Mx4_0z110 My5z110 My6z110 H _ ls (lpu c108 hv114 hn21_x4) (lpn hc21_x4 c108 hv114) hP hD hS (lv_sub hl [0, 2, 1, 3, 4] rfl)
                                      exact LP21_x4 _ v107 rz101 l2 Mx0_4 Mx0_5 Mx0_6z101 Mx0_7z101 Mx0_8 Mx0_9z101 Mx0_10z101 Mx0_11z101 Mx0_12z101 Mx0_13z101 My1 My2 Mx3_0z101 Mx4_0 My5 My6z101 H _ ls (Nat.lt_succ_self _) (lpn hc21_x2 c97 hv107) hP hD hS hl
                                    · obtain ⟨v115, hv115⟩ : ∃ y : Int32, y = (l2 + (1 : Int32)) := ⟨_, rfl⟩
                                      refine lv_iinc (v := v115) (lv' := [(2, .int v115), (3, .int rz101), (4, .int l4), (0, .ref p0), (1, .int a1)]) hx hb d_S_run_44 hl (k := 2) rfl (by rw [hv115]; rfl) (by decide) rfl (fun ls hl => ?_)
                                      obtain ⟨v116, hv116⟩ : ∃ y : Int32, y = (l4 + (1 : Int32)) := ⟨_, rfl⟩
                                      refine lv_iinc (v := v116) (lv' := [(4, .int v116), (2, .int v115), (3, .int rz101), (0, .ref p0), (1, .int a1)]) hx hb d_S_run_47 hl (k := 2) rfl (by rw [hv116]; rfl) (by decide) rfl (fun ls hl => ?_)
                                      refine lv_goto (tgt := 21) hx hb d_S_run_50 (by decide) ?_
                                      have LP21_x4 : ∀ (n : Nat) (l4 : Int32) (l2 : Int32) (l3 : Int32) (Mx0_4 : Bool) (Mx0_5 : Int32) (Mx0_6 : Int32) (Mx0_7 : Int32) (Mx0_8 : Int32) (Mx0_9 : Int32) (Mx0_10 : Int32) (Mx0_11 : Int32) (Mx0_12 : Int32) (Mx0_13 : Int32) (My1 : Nat → Int32) (My2 : Nat → Int32) (Mx3_0 : Int32) (Mx4_0 : Int32) (My5 : Nat → Int32) (My6 : Nat → Int32) (H : Heap) (locs : List Loc) (ls : Array Slot), ((a1).toInt - (l4).toInt).toNat < n → ¬ l4 < (0 : Int32) → va_P D classes ((wS54 cI cJ cZ cB p0 m0) ++ (wS62 cI cJ cZ cB m0 m1 m2 m3 m4 m5 m6 Mx0_4 Mx0_5 Mx0_6 Mx0_7 Mx0_8 Mx0_9 Mx0_10 Mx0_11 Mx0_12 Mx0_13 My1 My2 Mx3_0 Mx4_0 My5 My6)) H → va_D A ((wS54 cI cJ cZ cB p0 m0) ++ (wS62 cI cJ cZ cB m0 m1 m2 m3 m4 m5 m6 Mx0_4 Mx0_5 Mx0_6 Mx0_7 Mx0_8 Mx0_9 Mx0_10 Mx0_11 Mx0_12 Mx0_13 My1 My2 Mx3_0 Mx4_0 My5 My6)) → va_S A s.heap H locs → lv_has ls 5 [(4, .int l4), (2, .int l2), (3, .int l3), (0, .ref p0), (1, .int a1)] → W p l e ({ frames := 7, cells := 2, slots := 8000, locals := 151 }) s m [.ref p0, .int a1].toArray below meth c H locs 2 8000 (MQ below (va_Qi (fun r (_ : Unit) => True) (fun _ t => ∃ W9 : va_W, isC K cI cJ cZ cB p0 W9 ∧ va_P D classes W9 t.heap ∧ va_D A W9) A) [.ref p0, .int a1].toArray s 2 8000 A) (F0 m 21 ls []) := by
                                        intro n
                                        induction n with
                                        | zero => intro l4 l2 l3 Mx0_4 Mx0_5 Mx0_6 Mx0_7 Mx0_8 Mx0_9 Mx0_10 Mx0_11 Mx0_12 Mx0_13 My1 My2 Mx3_0 Mx4_0 My5 My6 H locs ls hn; exact absurd hn (Nat.not_lt_zero _)
                                        | succ n ih =>
                                          intro l4 l2 l3 Mx0_4 Mx0_5 Mx0_6 Mx0_7 Mx0_8 Mx0_9 Mx0_10 Mx0_11 Mx0_12 Mx0_13 My1 My2 Mx3_0 Mx4_0 My5 My6 H locs ls hn21_x4 hc21_x4 hP hD hS hl
                                          refine lv_iload hx hb d_S_run_21 (lv_at hl 0 rfl) ?_
                                          refine lv_iload_n hx hb d_S_run_23 rfl (lv_at hl 4 rfl) ?_
                                          refine lv_icmp_ge (tgt := 53) hx hb d_S_run_24 (by decide) (fun c117 => ?_) (fun c117 => ?_)
                                          · refine lv_aload_n hx hb d_S_run_53 rfl (lv_at hl 3 rfl) ?_
                                            refine va_get (D := D) (ci := 0) (v := .ref m0) (C := "SignMachine") (T := F_S) (N := 2) hx hb hk fi_S hown hK.1 hP 0 rfl rfl 0 (by decide) (hk _ k_210) (fun _ h9 => h9) rfl d_S_run_54 ?_
                                            refine lv_iload_n hx hb d_S_run_57 rfl (lv_at hl 2 rfl) ?_
                                            refine va_putN (D := D) (ci := 1) (v := .int l3) (ty := .int) (C := "SignMachine$Machine") (T := F_M) (N := 14) hx hb hk fi_M ft_M ft_M_ok fn_M hown hK.1 hP hD hS 1 rfl rfl 8 (by decide) (va_Nw.use rfl (hK.2 _ n_175)) (fun _ h9 => h9) rfl (by decide +kernel) rfl rfl (Nat.le_of_ble_eq_true rfl) d_S_run_58 (fun H locs hP hD hS => ?_)
                                            have hP : va_P D classes ((wS54 cI cJ cZ cB p0 m0) ++ (wS62 cI cJ cZ cB m0 m1 m2 m3 m4 m5 m6 Mx0_4 Mx0_5 Mx0_6 Mx0_7 l3 Mx0_9 Mx0_10 Mx0_11 Mx0_12 Mx0_13 My1 My2 Mx3_0 Mx4_0 My5 My6)) H := hP
                                            have hD : va_D A ((wS54 cI cJ cZ cB p0 m0) ++ (wS62 cI cJ cZ cB m0 m1 m2 m3 m4 m5 m6 Mx0_4 Mx0_5 Mx0_6 Mx0_7 l3 Mx0_9 Mx0_10 Mx0_11 Mx0_12 Mx0_13 My1 My2 Mx3_0 Mx4_0 My5 My6)) := hD
                                            refine lv_iload_n hx hb d_S_run_61 rfl (lv_at hl 1 rfl) ?_
                                            exact W.iret (v := l2) hx hb hr (fun t ht hW => ⟨⟨l2, (), rfl, trivial, ⟨_, isC_4, (by show va_P D classes _ t.heap; rw [ht]; exact hP), hD⟩⟩, hS.F ht⟩) hS.2.2 d_S_run_62
                                          · refine lv_iload_n hx hb d_S_run_27 rfl (lv_at hl 2 rfl) ?_
                                            refine lv_if_ne (tgt := 53) hx hb d_S_run_28 (by decide) (fun c118 => ?_) (fun c118 => ?_)
                                            · refine lv_aload_n hx hb d_S_run_53 rfl (lv_at hl 3 rfl) ?_
                                              refine va_get (D := D) (ci := 0) (v := .ref m0) (C := "SignMachine") (T := F_S) (N := 2) hx hb hk fi_S hown hK.1 hP 0 rfl rfl 0 (by decide) (hk _ k_210) (fun _ h9 => h9) rfl d_S_run_54 ?_
                                              refine lv_iload_n hx hb d_S_run_57 rfl (lv_at hl 2 rfl) ?_
                                              refine va_putN (D := D) (ci := 1) (v := .int l3) (ty := .int) (C := "SignMachine$Machine") (T := F_M) (N := 14) hx hb hk fi_M ft_M ft_M_ok fn_M hown hK.1 hP hD hS 1 rfl rfl 8 (by decide) (va_Nw.use rfl (hK.2 _ n_175)) (fun _ h9 => h9) rfl (by decide +kernel) rfl rfl (Nat.le_of_ble_eq_true rfl) d_S_run_58 (fun H locs hP hD hS => ?_)
                                              have hP : va_P D classes ((wS54 cI cJ cZ cB p0 m0) ++ (wS62 cI cJ cZ cB m0 m1 m2 m3 m4 m5 m6 Mx0_4 Mx0_5 Mx0_6 Mx0_7 l3 Mx0_9 Mx0_10 Mx0_11 Mx0_12 Mx0_13 My1 My2 Mx3_0 Mx4_0 My5 My6)) H := hP
                                              have hD : va_D A ((wS54 cI cJ cZ cB p0 m0) ++ (wS62 cI cJ cZ cB m0 m1 m2 m3 m4 m5 m6 Mx0_4 Mx0_5 Mx0_6 Mx0_7 l3 Mx0_9 Mx0_10 Mx0_11 Mx0_12 Mx0_13 My1 My2 Mx3_0 Mx4_0 My5 My6)) := hD
                                              refine lv_iload_n hx hb d_S_run_61 rfl (lv_at hl 1 rfl) ?_
                                              exact W.iret (v := l2) hx hb hr (fun t ht hW => ⟨⟨l2, (), rfl, trivial, ⟨_, isC_4, (by show va_P D classes _ t.heap; rw [ht]; exact hP), hD⟩⟩, hS.F ht⟩) hS.2.2 d_S_run_62
                                            · refine lv_aload_n hx hb d_S_run_31 rfl (lv_at hl 3 rfl) ?_
                                              refine va_get (D := D) (ci := 0) (v := .ref m0) (C := "SignMachine") (T := F_S) (N := 2) hx hb hk fi_S hown hK.1 hP 0 rfl rfl 0 (by decide) (hk _ k_210) (fun _ h9 => h9) rfl d_S_run_32 ?_
                                              have hPc := hP.sub (ws' := (wS62 cI cJ cZ cB m0 m1 m2 m3 m4 m5 m6 Mx0_4 Mx0_5 Mx0_6 Mx0_7 Mx0_8 Mx0_9 Mx0_10 Mx0_11 Mx0_12 Mx0_13 My1 My2 Mx3_0 Mx4_0 My5 My6)) [1, 2, 3, 4, 5, 6, 7] rfl
                                              have hDc := hD.sub (ws' := (wS62 cI cJ cZ cB m0 m1 m2 m3 m4 m5 m6 Mx0_4 Mx0_5 Mx0_6 Mx0_7 Mx0_8 Mx0_9 Mx0_10 Mx0_11 Mx0_12 Mx0_13 My1 My2 Mx3_0 Mx4_0 My5 My6)) [1, 2, 3, 4, 5, 6, 7] (by decide) rfl
                                              have hFc := va_free (wc := (wS62 cI cJ cZ cB m0 m1 m2 m3 m4 m5 m6 Mx0_4 Mx0_5 Mx0_6 Mx0_7 Mx0_8 Mx0_9 Mx0_10 Mx0_11 Mx0_12 Mx0_13 My1 My2 Mx3_0 Mx4_0 My5 My6)) hD hS hA [1, 2, 3, 4, 5, 6, 7] rfl
                                              refine va_calli (va_runV (C := "SignMachine$Machine") (As := []) (rest := []) ⟨hx, hb, hml, hown, hk⟩ (c_M_execute_s9 l K D cI cJ cZ cB m0 m1 m2 m3 m4 m5 m6 H.size Mx0_4 Mx0_5 Mx0_6 Mx0_7 Mx0_8 Mx0_9 Mx0_10 Mx0_11 Mx0_12 Mx0_13 My1 My2 Mx3_0 Mx4_0 My5 My6  ) (v_M_execute_s9 hk k_258 ⟨Nat.le_of_ble_eq_true rfl, Nat.le_of_ble_eq_true rfl⟩) (pMC_v hK hPc hDc hC hS hA (ci := 1) (q0 := 0) rfl rfl rfl) rfl rfl hl.1 rfl (lv_room (Nat.le_of_ble_eq_true rfl)) d_S_run_35 ⟨by decide, by decide⟩) hS (fun q _ h => hFc q h) hFc (fun rz119 u t H locs ht hvm hr0 hB hz1 hk1 hS => ?_)
                                              obtain ⟨Mx0_4z119, Mx0_5z119, Mx0_6z119, Mx0_7z119, Mx0_9z119, Mx0_10z119, Mx0_11z119, Mx0_12z119, Mx0_13z119, My1z119, My2z119, Mx3_0z119, Mx4_0z119, My5z119, My6z119, hP1, hD1⟩ := hB
                                              rw [ht] at hP1
                                              obtain ⟨hP, hD⟩ := va_join (wr := (wS54 cI cJ cZ cB p0 m0)) (w1 := (wS62 cI cJ cZ cB m0 m1 m2 m3 m4 m5 m6 Mx0_4z119 Mx0_5z119 Mx0_6z119 Mx0_7z119 Mx0_8 Mx0_9z119 Mx0_10z119 Mx0_11z119 Mx0_12z119 Mx0_13z119 My1z119 My2z119 Mx3_0z119 Mx4_0z119 My5z119 My6z119)) hP hD [1, 2, 3, 4, 5, 6, 7] [0] rfl rfl (by decide) (by decide) hk1 hFc hP1 hD1
                                              have hP := hP.sub (ws' := ((wS54 cI cJ cZ cB p0 m0) ++ (wS62 cI cJ cZ cB m0 m1 m2 m3 m4 m5 m6 Mx0_4z119 Mx0_5z119 Mx0_6z119 Mx0_7z119 Mx0_8 Mx0_9z119 Mx0_10z119 Mx0_11z119 Mx0_12z119 Mx0_13z119 My1z119 My2z119 Mx3_0z119 Mx4_0z119 My5z119 My6z119))) [0, 1, 2, 3, 4, 5, 6, 7] rfl
                                              have hD := hD.sub (ws' := ((wS54 cI cJ cZ cB p0 m0) ++ (wS62 cI cJ cZ cB m0 m1 m2 m3 m4 m5 m6 Mx0_4z119 Mx0_5z119 Mx0_6z119 Mx0_7z119 Mx0_8 Mx0_9z119 Mx0_10z119 Mx0_11z119 Mx0_12z119 Mx0_13z119 My1z119 My2z119 Mx3_0z119 Mx4_0z119 My5z119 My6z119))) [0, 1, 2, 3, 4, 5, 6, 7] (by decide) rfl
                                              have hP : va_P D classes ((wS54 cI cJ cZ cB p0 m0) ++ (wS62 cI cJ cZ cB m0 m1 m2 m3 m4 m5 m6 Mx0_4z119 Mx0_5z119 Mx0_6z119 Mx0_7z119 Mx0_8 Mx0_9z119 Mx0_10z119 Mx0_11z119 Mx0_12z119 Mx0_13z119 My1z119 My2z119 Mx3_0z119 Mx4_0z119 My5z119 My6z119)) H := hP
                                              have hD : va_D A ((wS54 cI cJ cZ cB p0 m0) ++ (wS62 cI cJ cZ cB m0 m1 m2 m3 m4 m5 m6 Mx0_4z119 Mx0_5z119 Mx0_6z119 Mx0_7z119 Mx0_8 Mx0_9z119 Mx0_10z119 Mx0_11z119 Mx0_12z119 Mx0_13z119 My1z119 My2z119 Mx3_0z119 Mx4_0z119 My5z119 My6z119)) := hD
                                              clear hPc hDc hFc
                                              refine lv_istore_n (lv' := [(3, .int rz119), (4, .int l4), (2, .int l2), (0, .ref p0), (1, .int a1)]) hx hb d_S_run_38 rfl hl (by decide) rfl (fun ls hl => ?_)
                                              refine lv_iload_n hx hb d_S_run_39 rfl (lv_at hl 0 rfl) ?_
                                              refine lv_iconst (v := 1) hx hb d_S_run_40 (by decide) ?_
                                              refine lv_icmp_gt (tgt := 47) hx hb d_S_run_41 (by decide) (fun c120 => ?_) (fun c120 => ?_)
                                              · obtain ⟨v121, hv121⟩ : ∃ y : Int32, y = (l4 + (1 : Int32)) := ⟨_, rfl⟩
                                                refine lv_iinc (v := v121) (lv' := [(4, .int v121), (3, .int rz119), (2, .int l2), (0, .ref p0), (1, .int a1)]) hx hb d_S_run_47 hl (k := 1) rfl (by rw [hv121]; rfl) (by decide) rfl (fun ls hl => ?_)
                                                refine lv_goto (tgt := 21) hx hb d_S_run_50 (by decide) ?_
                                                exact ih v121 l2 rz119 Mx0_4z119 Mx0_5z119 Mx0_6z119 Mx0_7z119 Mx0_8 Mx0_9z119 Mx0_10z119 Mx0_11z119 Mx0_12z119 Mx0_13z119 My1z119 My2z119 Mx3_0z119 Mx4_0z119 My5z119 My6z119 H _ ls (lpu c117 hv121 hn21_x4) (lpn hc21_x4 c117 hv121) hP hD hS (lv_sub hl [0, 2, 1, 3, 4] rfl)
                                              · obtain ⟨v122, hv122⟩ : ∃ y : Int32, y = (l2 + (1 : Int32)) := ⟨_, rfl⟩
                                                refine lv_iinc (v := v122) (lv' := [(2, .int v122), (3, .int rz119), (4, .int l4), (0, .ref p0), (1, .int a1)]) hx hb d_S_run_44 hl (k := 2) rfl (by rw [hv122]; rfl) (by decide) rfl (fun ls hl => ?_)
                                                obtain ⟨v123, hv123⟩ : ∃ y : Int32, y = (l4 + (1 : Int32)) := ⟨_, rfl⟩
                                                refine lv_iinc (v := v123) (lv' := [(4, .int v123), (2, .int v122), (3, .int rz119), (0, .ref p0), (1, .int a1)]) hx hb d_S_run_47 hl (k := 2) rfl (by rw [hv123]; rfl) (by decide) rfl (fun ls hl => ?_)
                                                refine lv_goto (tgt := 21) hx hb d_S_run_50 (by decide) ?_
                                                exact ih v123 v122 rz119 Mx0_4z119 Mx0_5z119 Mx0_6z119 Mx0_7z119 Mx0_8 Mx0_9z119 Mx0_10z119 Mx0_11z119 Mx0_12z119 Mx0_13z119 My1z119 My2z119 Mx3_0z119 Mx4_0z119 My5z119 My6z119 H _ ls (lpu c117 hv123 hn21_x4) (lpn hc21_x4 c117 hv123) hP hD hS (lv_sub hl [0, 1, 2, 3, 4] rfl)
                                      exact LP21_x4 _ v116 v115 rz101 Mx0_4 Mx0_5 Mx0_6z101 Mx0_7z101 Mx0_8 Mx0_9z101 Mx0_10z101 Mx0_11z101 Mx0_12z101 Mx0_13z101 My1 My2 Mx3_0z101 Mx4_0 My5 My6z101 H _ ls (Nat.lt_succ_self _) (lpn hc21_x2 c97 hv116) hP hD hS hl
                                · have hPc := hP.sub (ws' := (wS58 cI cJ cZ cB m0 m1 m2 m3 m4 m5 Mx0_4 Mx0_5 Mx0_6 Mx0_7 Mx0_8 Mx0_9 Mx0_10 Mx0_11 Mx0_12 Mx0_13 My1 My2 Mx3_0 Mx4_0 My5)) [1, 2, 3, 4, 5, 6] rfl
                                  have hDc := hD.sub (ws' := (wS58 cI cJ cZ cB m0 m1 m2 m3 m4 m5 Mx0_4 Mx0_5 Mx0_6 Mx0_7 Mx0_8 Mx0_9 Mx0_10 Mx0_11 Mx0_12 Mx0_13 My1 My2 Mx3_0 Mx4_0 My5)) [1, 2, 3, 4, 5, 6] (by decide) rfl
                                  have hFc := va_free (wc := (wS58 cI cJ cZ cB m0 m1 m2 m3 m4 m5 Mx0_4 Mx0_5 Mx0_6 Mx0_7 Mx0_8 Mx0_9 Mx0_10 Mx0_11 Mx0_12 Mx0_13 My1 My2 Mx3_0 Mx4_0 My5)) hD hS hA [1, 2, 3, 4, 5, 6] rfl
                                  refine va_calli (va_runV (C := "SignMachine$Machine") (As := []) (rest := []) ⟨hx, hb, hml, hown, hk⟩ (c_M_execute_s10 l K D cI cJ cZ cB m0 m1 m2 m3 m4 m5 H.size Mx0_4 Mx0_5 Mx0_6 Mx0_7 Mx0_8 Mx0_9 Mx0_10 Mx0_11 Mx0_12 Mx0_13 My1 My2 Mx3_0 Mx4_0 My5  q99 q100) (v_M_execute_s10 hk k_258 ⟨Nat.le_of_ble_eq_true rfl, Nat.le_of_ble_eq_true rfl⟩) (pMC_v hK hPc hDc hC hS hA (ci := 1) (q0 := 0) rfl rfl rfl) rfl rfl hl.1 rfl (lv_room (Nat.le_of_ble_eq_true rfl)) d_S_run_35 ⟨by decide, by decide⟩) hS (fun q _ h => hFc q h) hFc (fun rz124 u t H locs ht hvm hr0 hB hz1 hk1 hS => ?_)
                                  obtain ⟨Mx0_6z124, Mx0_7z124, Mx0_9z124, Mx0_10z124, Mx0_11z124, Mx0_12z124, Mx0_13z124, Mx4_0z124, My5z124, hP1, hD1⟩ := hB
                                  rw [ht] at hP1
                                  obtain ⟨hP, hD⟩ := va_join (wr := (wS54 cI cJ cZ cB p0 m0)) (w1 := (wS58 cI cJ cZ cB m0 m1 m2 m3 m4 m5 Mx0_4 Mx0_5 Mx0_6z124 Mx0_7z124 Mx0_8 Mx0_9z124 Mx0_10z124 Mx0_11z124 Mx0_12z124 Mx0_13z124 My1 My2 Mx3_0 Mx4_0z124 My5z124)) hP hD [1, 2, 3, 4, 5, 6] [0] rfl rfl (by decide) (by decide) hk1 hFc hP1 hD1
                                  have hP := hP.sub (ws' := ((wS54 cI cJ cZ cB p0 m0) ++ (wS58 cI cJ cZ cB m0 m1 m2 m3 m4 m5 Mx0_4 Mx0_5 Mx0_6z124 Mx0_7z124 Mx0_8 Mx0_9z124 Mx0_10z124 Mx0_11z124 Mx0_12z124 Mx0_13z124 My1 My2 Mx3_0 Mx4_0z124 My5z124))) [0, 1, 2, 3, 4, 5, 6] rfl
                                  have hD := hD.sub (ws' := ((wS54 cI cJ cZ cB p0 m0) ++ (wS58 cI cJ cZ cB m0 m1 m2 m3 m4 m5 Mx0_4 Mx0_5 Mx0_6z124 Mx0_7z124 Mx0_8 Mx0_9z124 Mx0_10z124 Mx0_11z124 Mx0_12z124 Mx0_13z124 My1 My2 Mx3_0 Mx4_0z124 My5z124))) [0, 1, 2, 3, 4, 5, 6] (by decide) rfl
                                  have hP : va_P D classes ((wS54 cI cJ cZ cB p0 m0) ++ (wS58 cI cJ cZ cB m0 m1 m2 m3 m4 m5 Mx0_4 Mx0_5 Mx0_6z124 Mx0_7z124 Mx0_8 Mx0_9z124 Mx0_10z124 Mx0_11z124 Mx0_12z124 Mx0_13z124 My1 My2 Mx3_0 Mx4_0z124 My5z124)) H := hP
                                  have hD : va_D A ((wS54 cI cJ cZ cB p0 m0) ++ (wS58 cI cJ cZ cB m0 m1 m2 m3 m4 m5 Mx0_4 Mx0_5 Mx0_6z124 Mx0_7z124 Mx0_8 Mx0_9z124 Mx0_10z124 Mx0_11z124 Mx0_12z124 Mx0_13z124 My1 My2 Mx3_0 Mx4_0z124 My5z124)) := hD
                                  clear hPc hDc hFc
                                  refine lv_istore_n (lv' := [(3, .int rz124), (4, .int l4), (2, .int l2), (0, .ref p0), (1, .int a1)]) hx hb d_S_run_38 rfl hl (by decide) rfl (fun ls hl => ?_)
                                  refine lv_iload_n hx hb d_S_run_39 rfl (lv_at hl 0 rfl) ?_
                                  refine lv_iconst (v := 1) hx hb d_S_run_40 (by decide) ?_
                                  refine lv_icmp_gt (tgt := 47) hx hb d_S_run_41 (by decide) (fun c125 => ?_) (fun c125 => ?_)
                                  · obtain ⟨v126, hv126⟩ : ∃ y : Int32, y = (l4 + (1 : Int32)) := ⟨_, rfl⟩
                                    refine lv_iinc (v := v126) (lv' := [(4, .int v126), (3, .int rz124), (2, .int l2), (0, .ref p0), (1, .int a1)]) hx hb d_S_run_47 hl (k := 1) rfl (by rw [hv126]; rfl) (by decide) rfl (fun ls hl => ?_)
                                    refine lv_goto (tgt := 21) hx hb d_S_run_50 (by decide) ?_
                                    exact ih v126 rz124 l2 Mx0_4 Mx0_5 Mx0_6z124 Mx0_7z124 Mx0_8 Mx0_9z124 Mx0_10z124 Mx0_11z124 Mx0_12z124 Mx0_13z124 My1 My2 Mx3_0 Mx4_0z124 My5z124 H _ ls (lpu c97 hv126 hn21_x2) (lpn hc21_x2 c97 hv126) hP hD hS (lv_sub hl [0, 1, 2, 3, 4] rfl)
                                  · obtain ⟨v127, hv127⟩ : ∃ y : Int32, y = (l2 + (1 : Int32)) := ⟨_, rfl⟩
                                    refine lv_iinc (v := v127) (lv' := [(2, .int v127), (3, .int rz124), (4, .int l4), (0, .ref p0), (1, .int a1)]) hx hb d_S_run_44 hl (k := 2) rfl (by rw [hv127]; rfl) (by decide) rfl (fun ls hl => ?_)
                                    obtain ⟨v128, hv128⟩ : ∃ y : Int32, y = (l4 + (1 : Int32)) := ⟨_, rfl⟩
                                    refine lv_iinc (v := v128) (lv' := [(4, .int v128), (2, .int v127), (3, .int rz124), (0, .ref p0), (1, .int a1)]) hx hb d_S_run_47 hl (k := 2) rfl (by rw [hv128]; rfl) (by decide) rfl (fun ls hl => ?_)
                                    refine lv_goto (tgt := 21) hx hb d_S_run_50 (by decide) ?_
                                    exact ih v128 rz124 v127 Mx0_4 Mx0_5 Mx0_6z124 Mx0_7z124 Mx0_8 Mx0_9z124 Mx0_10z124 Mx0_11z124 Mx0_12z124 Mx0_13z124 My1 My2 Mx3_0 Mx4_0z124 My5z124 H _ ls (lpu c97 hv128 hn21_x2) (lpn hc21_x2 c97 hv128) hP hD hS (lv_sub hl [0, 2, 1, 3, 4] rfl)
                              · have hPc := hP.sub (ws' := (wS58 cI cJ cZ cB m0 m1 m2 m3 m4 m5 Mx0_4 Mx0_5 Mx0_6 Mx0_7 Mx0_8 Mx0_9 Mx0_10 Mx0_11 Mx0_12 Mx0_13 My1 My2 Mx3_0 Mx4_0 My5)) [1, 2, 3, 4, 5, 6] rfl
                                have hDc := hD.sub (ws' := (wS58 cI cJ cZ cB m0 m1 m2 m3 m4 m5 Mx0_4 Mx0_5 Mx0_6 Mx0_7 Mx0_8 Mx0_9 Mx0_10 Mx0_11 Mx0_12 Mx0_13 My1 My2 Mx3_0 Mx4_0 My5)) [1, 2, 3, 4, 5, 6] (by decide) rfl
                                have hFc := va_free (wc := (wS58 cI cJ cZ cB m0 m1 m2 m3 m4 m5 Mx0_4 Mx0_5 Mx0_6 Mx0_7 Mx0_8 Mx0_9 Mx0_10 Mx0_11 Mx0_12 Mx0_13 My1 My2 Mx3_0 Mx4_0 My5)) hD hS hA [1, 2, 3, 4, 5, 6] rfl
                                refine va_calli (va_runV (C := "SignMachine$Machine") (As := []) (rest := []) ⟨hx, hb, hml, hown, hk⟩ (c_M_execute_s11 l K D cI cJ cZ cB m0 m1 m2 m3 m4 m5 H.size Mx0_4 Mx0_5 Mx0_6 Mx0_7 Mx0_8 Mx0_9 Mx0_10 Mx0_11 Mx0_12 Mx0_13 My1 My2 Mx3_0 Mx4_0 My5  q99) (v_M_execute_s11 hk k_258 ⟨Nat.le_of_ble_eq_true rfl, Nat.le_of_ble_eq_true rfl⟩) (pMC_v hK hPc hDc hC hS hA (ci := 1) (q0 := 0) rfl rfl rfl) rfl rfl hl.1 rfl (lv_room (Nat.le_of_ble_eq_true rfl)) d_S_run_35 ⟨by decide, by decide⟩) hS (fun q _ h => hFc q h) hFc (fun rz129 u t H locs ht hvm hr0 hB hz1 hk1 hS => ?_)
                                obtain ⟨Mx0_4z129, Mx0_5z129, Mx0_6z129, Mx0_7z129, Mx0_9z129, Mx0_10z129, Mx0_11z129, Mx0_12z129, Mx0_13z129, My1z129, My2z129, Mx3_0z129, Mx4_0z129, hP1, hD1⟩ := hB
                                rw [ht] at hP1
                                obtain ⟨hP, hD⟩ := va_join (wr := (wS54 cI cJ cZ cB p0 m0)) (w1 := (wS58 cI cJ cZ cB m0 m1 m2 m3 m4 m5 Mx0_4z129 Mx0_5z129 Mx0_6z129 Mx0_7z129 Mx0_8 Mx0_9z129 Mx0_10z129 Mx0_11z129 Mx0_12z129 Mx0_13z129 My1z129 My2z129 Mx3_0z129 Mx4_0z129 My5)) hP hD [1, 2, 3, 4, 5, 6] [0] rfl rfl (by decide) (by decide) hk1 hFc hP1 hD1
                                have hP := hP.sub (ws' := ((wS54 cI cJ cZ cB p0 m0) ++ (wS58 cI cJ cZ cB m0 m1 m2 m3 m4 m5 Mx0_4z129 Mx0_5z129 Mx0_6z129 Mx0_7z129 Mx0_8 Mx0_9z129 Mx0_10z129 Mx0_11z129 Mx0_12z129 Mx0_13z129 My1z129 My2z129 Mx3_0z129 Mx4_0z129 My5))) [0, 1, 2, 3, 4, 5, 6] rfl
                                have hD := hD.sub (ws' := ((wS54 cI cJ cZ cB p0 m0) ++ (wS58 cI cJ cZ cB m0 m1 m2 m3 m4 m5 Mx0_4z129 Mx0_5z129 Mx0_6z129 Mx0_7z129 Mx0_8 Mx0_9z129 Mx0_10z129 Mx0_11z129 Mx0_12z129 Mx0_13z129 My1z129 My2z129 Mx3_0z129 Mx4_0z129 My5))) [0, 1, 2, 3, 4, 5, 6] (by decide) rfl
                                have hP : va_P D classes ((wS54 cI cJ cZ cB p0 m0) ++ (wS58 cI cJ cZ cB m0 m1 m2 m3 m4 m5 Mx0_4z129 Mx0_5z129 Mx0_6z129 Mx0_7z129 Mx0_8 Mx0_9z129 Mx0_10z129 Mx0_11z129 Mx0_12z129 Mx0_13z129 My1z129 My2z129 Mx3_0z129 Mx4_0z129 My5)) H := hP
                                have hD : va_D A ((wS54 cI cJ cZ cB p0 m0) ++ (wS58 cI cJ cZ cB m0 m1 m2 m3 m4 m5 Mx0_4z129 Mx0_5z129 Mx0_6z129 Mx0_7z129 Mx0_8 Mx0_9z129 Mx0_10z129 Mx0_11z129 Mx0_12z129 Mx0_13z129 My1z129 My2z129 Mx3_0z129 Mx4_0z129 My5)) := hD
                                clear hPc hDc hFc
                                refine lv_istore_n (lv' := [(3, .int rz129), (4, .int l4), (2, .int l2), (0, .ref p0), (1, .int a1)]) hx hb d_S_run_38 rfl hl (by decide) rfl (fun ls hl => ?_)
                                refine lv_iload_n hx hb d_S_run_39 rfl (lv_at hl 0 rfl) ?_
                                refine lv_iconst (v := 1) hx hb d_S_run_40 (by decide) ?_
                                refine lv_icmp_gt (tgt := 47) hx hb d_S_run_41 (by decide) (fun c130 => ?_) (fun c130 => ?_)
                                · obtain ⟨v131, hv131⟩ : ∃ y : Int32, y = (l4 + (1 : Int32)) := ⟨_, rfl⟩
                                  refine lv_iinc (v := v131) (lv' := [(4, .int v131), (3, .int rz129), (2, .int l2), (0, .ref p0), (1, .int a1)]) hx hb d_S_run_47 hl (k := 1) rfl (by rw [hv131]; rfl) (by decide) rfl (fun ls hl => ?_)
                                  refine lv_goto (tgt := 21) hx hb d_S_run_50 (by decide) ?_
                                  exact ih v131 rz129 l2 Mx0_4z129 Mx0_5z129 Mx0_6z129 Mx0_7z129 Mx0_8 Mx0_9z129 Mx0_10z129 Mx0_11z129 Mx0_12z129 Mx0_13z129 My1z129 My2z129 Mx3_0z129 Mx4_0z129 My5 H _ ls (lpu c97 hv131 hn21_x2) (lpn hc21_x2 c97 hv131) hP hD hS (lv_sub hl [0, 1, 2, 3, 4] rfl)
                                · obtain ⟨v132, hv132⟩ : ∃ y : Int32, y = (l2 + (1 : Int32)) := ⟨_, rfl⟩
                                  refine lv_iinc (v := v132) (lv' := [(2, .int v132), (3, .int rz129), (4, .int l4), (0, .ref p0), (1, .int a1)]) hx hb d_S_run_44 hl (k := 2) rfl (by rw [hv132]; rfl) (by decide) rfl (fun ls hl => ?_)
                                  obtain ⟨v133, hv133⟩ : ∃ y : Int32, y = (l4 + (1 : Int32)) := ⟨_, rfl⟩
                                  refine lv_iinc (v := v133) (lv' := [(4, .int v133), (2, .int v132), (3, .int rz129), (0, .ref p0), (1, .int a1)]) hx hb d_S_run_47 hl (k := 2) rfl (by rw [hv133]; rfl) (by decide) rfl (fun ls hl => ?_)
                                  refine lv_goto (tgt := 21) hx hb d_S_run_50 (by decide) ?_
                                  exact ih v133 rz129 v132 Mx0_4z129 Mx0_5z129 Mx0_6z129 Mx0_7z129 Mx0_8 Mx0_9z129 Mx0_10z129 Mx0_11z129 Mx0_12z129 Mx0_13z129 My1z129 My2z129 Mx3_0z129 Mx4_0z129 My5 H _ ls (lpu c97 hv133 hn21_x2) (lpn hc21_x2 c97 hv133) hP hD hS (lv_sub hl [0, 2, 1, 3, 4] rfl)
                      exact LP21_x2 _ v96 rz90 l2 Mx0_4 Mx0_5 Mx0_6z90 Mx0_7z90 Mx0_8 Mx0_9z90 Mx0_10z90 Mx0_11z90 Mx0_12z90 Mx0_13z90 My1 My2 Mx3_0 Mx4_0z90 My5z90 H _ ls (Nat.lt_succ_self _) (lpn hc21_x0 c3 hv96) hP hD hS hl
                    · obtain ⟨v134, hv134⟩ : ∃ y : Int32, y = (l2 + (1 : Int32)) := ⟨_, rfl⟩
                      refine lv_iinc (v := v134) (lv' := [(2, .int v134), (3, .int rz90), (4, .int l4), (0, .ref p0), (1, .int a1)]) hx hb d_S_run_44 hl (k := 2) rfl (by rw [hv134]; rfl) (by decide) rfl (fun ls hl => ?_)
                      obtain ⟨v135, hv135⟩ : ∃ y : Int32, y = (l4 + (1 : Int32)) := ⟨_, rfl⟩
                      refine lv_iinc (v := v135) (lv' := [(4, .int v135), (2, .int v134), (3, .int rz90), (0, .ref p0), (1, .int a1)]) hx hb d_S_run_47 hl (k := 2) rfl (by rw [hv135]; rfl) (by decide) rfl (fun ls hl => ?_)
                      refine lv_goto (tgt := 21) hx hb d_S_run_50 (by decide) ?_
                      have LP21_x2 : ∀ (n : Nat) (l4 : Int32) (l2 : Int32) (l3 : Int32) (Mx0_4 : Bool) (Mx0_5 : Int32) (Mx0_6 : Int32) (Mx0_7 : Int32) (Mx0_8 : Int32) (Mx0_9 : Int32) (Mx0_10 : Int32) (Mx0_11 : Int32) (Mx0_12 : Int32) (Mx0_13 : Int32) (My1 : Nat → Int32) (My2 : Nat → Int32) (Mx3_0 : Int32) (Mx4_0 : Int32) (My5 : Nat → Int32) (H : Heap) (locs : List Loc) (ls : Array Slot), ((a1).toInt - (l4).toInt).toNat < n → ¬ l4 < (0 : Int32) → va_P D classes ((wS54 cI cJ cZ cB p0 m0) ++ (wS58 cI cJ cZ cB m0 m1 m2 m3 m4 m5 Mx0_4 Mx0_5 Mx0_6 Mx0_7 Mx0_8 Mx0_9 Mx0_10 Mx0_11 Mx0_12 Mx0_13 My1 My2 Mx3_0 Mx4_0 My5)) H → va_D A ((wS54 cI cJ cZ cB p0 m0) ++ (wS58 cI cJ cZ cB m0 m1 m2 m3 m4 m5 Mx0_4 Mx0_5 Mx0_6 Mx0_7 Mx0_8 Mx0_9 Mx0_10 Mx0_11 Mx0_12 Mx0_13 My1 My2 Mx3_0 Mx4_0 My5)) → va_S A s.heap H locs → lv_has ls 5 [(4, .int l4), (2, .int l2), (3, .int l3), (0, .ref p0), (1, .int a1)] → W p l e ({ frames := 7, cells := 2, slots := 8000, locals := 151 }) s m [.ref p0, .int a1].toArray below meth c H locs 1 4000 (MQ below (va_Qi (fun r (_ : Unit) => True) (fun _ t => ∃ W9 : va_W, isC K cI cJ cZ cB p0 W9 ∧ va_P D classes W9 t.heap ∧ va_D A W9) A) [.ref p0, .int a1].toArray s 2 8000 A) (F0 m 21 ls []) := by
                        intro n
                        induction n with
                        | zero => intro l4 l2 l3 Mx0_4 Mx0_5 Mx0_6 Mx0_7 Mx0_8 Mx0_9 Mx0_10 Mx0_11 Mx0_12 Mx0_13 My1 My2 Mx3_0 Mx4_0 My5 H locs ls hn; exact absurd hn (Nat.not_lt_zero _)
                        | succ n ih =>
                          intro l4 l2 l3 Mx0_4 Mx0_5 Mx0_6 Mx0_7 Mx0_8 Mx0_9 Mx0_10 Mx0_11 Mx0_12 Mx0_13 My1 My2 Mx3_0 Mx4_0 My5 H locs ls hn21_x2 hc21_x2 hP hD hS hl
                          refine lv_iload hx hb d_S_run_21 (lv_at hl 0 rfl) ?_
                          refine lv_iload_n hx hb d_S_run_23 rfl (lv_at hl 4 rfl) ?_
                          refine lv_icmp_ge (tgt := 53) hx hb d_S_run_24 (by decide) (fun c136 => ?_) (fun c136 => ?_)
                          · refine lv_aload_n hx hb d_S_run_53 rfl (lv_at hl 3 rfl) ?_
                            refine va_get (D := D) (ci := 0) (v := .ref m0) (C := "SignMachine") (T := F_S) (N := 2) hx hb hk fi_S hown hK.1 hP 0 rfl rfl 0 (by decide) (hk _ k_210) (fun _ h9 => h9) rfl d_S_run_54 ?_
                            refine lv_iload_n hx hb d_S_run_57 rfl (lv_at hl 2 rfl) ?_
                            refine va_putN (D := D) (ci := 1) (v := .int l3) (ty := .int) (C := "SignMachine$Machine") (T := F_M) (N := 14) hx hb hk fi_M ft_M ft_M_ok fn_M hown hK.1 hP hD hS 1 rfl rfl 8 (by decide) (va_Nw.use rfl (hK.2 _ n_175)) (fun _ h9 => h9) rfl (by decide +kernel) rfl rfl (Nat.le_of_ble_eq_true rfl) d_S_run_58 (fun H locs hP hD hS => ?_)
                            have hP : va_P D classes ((wS54 cI cJ cZ cB p0 m0) ++ (wS58 cI cJ cZ cB m0 m1 m2 m3 m4 m5 Mx0_4 Mx0_5 Mx0_6 Mx0_7 l3 Mx0_9 Mx0_10 Mx0_11 Mx0_12 Mx0_13 My1 My2 Mx3_0 Mx4_0 My5)) H := hP
                            have hD : va_D A ((wS54 cI cJ cZ cB p0 m0) ++ (wS58 cI cJ cZ cB m0 m1 m2 m3 m4 m5 Mx0_4 Mx0_5 Mx0_6 Mx0_7 l3 Mx0_9 Mx0_10 Mx0_11 Mx0_12 Mx0_13 My1 My2 Mx3_0 Mx4_0 My5)) := hD
                            refine lv_iload_n hx hb d_S_run_61 rfl (lv_at hl 1 rfl) ?_
                            refine W.widen (k := 2) (n := 8000) (by decide) (by decide) ?_
                            exact W.iret (v := l2) hx hb hr (fun t ht hW => ⟨⟨l2, (), rfl, trivial, ⟨_, isC_2, (by show va_P D classes _ t.heap; rw [ht]; exact hP), hD⟩⟩, hS.F ht⟩) hS.2.2 d_S_run_62
                          · refine lv_iload_n hx hb d_S_run_27 rfl (lv_at hl 2 rfl) ?_
                            refine lv_if_ne (tgt := 53) hx hb d_S_run_28 (by decide) (fun c137 => ?_) (fun c137 => ?_)
                            · refine lv_aload_n hx hb d_S_run_53 rfl (lv_at hl 3 rfl) ?_
                              refine va_get (D := D) (ci := 0) (v := .ref m0) (C := "SignMachine") (T := F_S) (N := 2) hx hb hk fi_S hown hK.1 hP 0 rfl rfl 0 (by decide) (hk _ k_210) (fun _ h9 => h9) rfl d_S_run_54 ?_
                              refine lv_iload_n hx hb d_S_run_57 rfl (lv_at hl 2 rfl) ?_
                              refine va_putN (D := D) (ci := 1) (v := .int l3) (ty := .int) (C := "SignMachine$Machine") (T := F_M) (N := 14) hx hb hk fi_M ft_M ft_M_ok fn_M hown hK.1 hP hD hS 1 rfl rfl 8 (by decide) (va_Nw.use rfl (hK.2 _ n_175)) (fun _ h9 => h9) rfl (by decide +kernel) rfl rfl (Nat.le_of_ble_eq_true rfl) d_S_run_58 (fun H locs hP hD hS => ?_)
                              have hP : va_P D classes ((wS54 cI cJ cZ cB p0 m0) ++ (wS58 cI cJ cZ cB m0 m1 m2 m3 m4 m5 Mx0_4 Mx0_5 Mx0_6 Mx0_7 l3 Mx0_9 Mx0_10 Mx0_11 Mx0_12 Mx0_13 My1 My2 Mx3_0 Mx4_0 My5)) H := hP
                              have hD : va_D A ((wS54 cI cJ cZ cB p0 m0) ++ (wS58 cI cJ cZ cB m0 m1 m2 m3 m4 m5 Mx0_4 Mx0_5 Mx0_6 Mx0_7 l3 Mx0_9 Mx0_10 Mx0_11 Mx0_12 Mx0_13 My1 My2 Mx3_0 Mx4_0 My5)) := hD
                              refine lv_iload_n hx hb d_S_run_61 rfl (lv_at hl 1 rfl) ?_
                              refine W.widen (k := 2) (n := 8000) (by decide) (by decide) ?_
                              exact W.iret (v := l2) hx hb hr (fun t ht hW => ⟨⟨l2, (), rfl, trivial, ⟨_, isC_2, (by show va_P D classes _ t.heap; rw [ht]; exact hP), hD⟩⟩, hS.F ht⟩) hS.2.2 d_S_run_62
                            · refine lv_aload_n hx hb d_S_run_31 rfl (lv_at hl 3 rfl) ?_
                              refine va_get (D := D) (ci := 0) (v := .ref m0) (C := "SignMachine") (T := F_S) (N := 2) hx hb hk fi_S hown hK.1 hP 0 rfl rfl 0 (by decide) (hk _ k_210) (fun _ h9 => h9) rfl d_S_run_32 ?_
                              by_cases q138 : ((f_W_size (f_mw My1 Mx0_7)) &&& (63 : Int32)) = (37 : Int32)
                              · by_cases q139 : (((f_W_size (f_mw My1 Mx0_7)) >>> ((6 : Int32) &&& (31 : Int32))) &&& (63 : Int32)) = (0 : Int32)
                                · have hPc := hP.sub (ws' := (wS58 cI cJ cZ cB m0 m1 m2 m3 m4 m5 Mx0_4 Mx0_5 Mx0_6 Mx0_7 Mx0_8 Mx0_9 Mx0_10 Mx0_11 Mx0_12 Mx0_13 My1 My2 Mx3_0 Mx4_0 My5)) [1, 2, 3, 4, 5, 6] rfl
                                  have hDc := hD.sub (ws' := (wS58 cI cJ cZ cB m0 m1 m2 m3 m4 m5 Mx0_4 Mx0_5 Mx0_6 Mx0_7 Mx0_8 Mx0_9 Mx0_10 Mx0_11 Mx0_12 Mx0_13 My1 My2 Mx3_0 Mx4_0 My5)) [1, 2, 3, 4, 5, 6] (by decide) rfl
                                  have hFc := va_free (wc := (wS58 cI cJ cZ cB m0 m1 m2 m3 m4 m5 Mx0_4 Mx0_5 Mx0_6 Mx0_7 Mx0_8 Mx0_9 Mx0_10 Mx0_11 Mx0_12 Mx0_13 My1 My2 Mx3_0 Mx4_0 My5)) hD hS hA [1, 2, 3, 4, 5, 6] rfl
                                  refine va_calli (va_runV (C := "SignMachine$Machine") (As := []) (rest := []) ⟨hx, hb, hml, hown, hk⟩ (c_M_execute_s8 l K D cI cJ cZ cB m0 m1 m2 m3 m4 m5 H.size Mx0_4 Mx0_5 Mx0_6 Mx0_7 Mx0_8 Mx0_9 Mx0_10 Mx0_11 Mx0_12 Mx0_13 My1 My2 Mx3_0 Mx4_0 My5  q138 q139) (v_M_execute_s8 hk k_258 ⟨Nat.le_of_ble_eq_true rfl, Nat.le_of_ble_eq_true rfl⟩) (pMC_v hK hPc hDc hC hS hA (ci := 1) (q0 := 0) rfl rfl rfl) rfl rfl hl.1 rfl (lv_room (Nat.le_of_ble_eq_true rfl)) d_S_run_35 ⟨by decide, by decide⟩) hS (fun q _ h => hFc q h) hFc (fun rz140 u t H locs ht hvm hr0 hB hz1 hk1 hS => ?_)
                                  subst hr0
                                  rcases hB with ⟨hzz140, Mx0_6z140, Mx0_7z140, Mx0_9z140, Mx0_10z140, Mx0_11z140, Mx0_12z140, Mx0_13z140, Mx3_0z140, hP1, hD1⟩ | ⟨m6, Mx0_6z140, Mx0_7z140, Mx0_9z140, Mx0_10z140, Mx0_11z140, Mx0_12z140, Mx0_13z140, Mx3_0z140, My6z140, hP1, hD1⟩
                                  · rw [ht] at hP1
                                    obtain ⟨hP, hD⟩ := va_join (wr := (wS54 cI cJ cZ cB p0 m0)) (w1 := (wS58 cI cJ cZ cB m0 m1 m2 m3 m4 m5 Mx0_4 Mx0_5 Mx0_6z140 Mx0_7z140 Mx0_8 Mx0_9z140 Mx0_10z140 Mx0_11z140 Mx0_12z140 Mx0_13z140 My1 My2 Mx3_0z140 Mx4_0 My5)) hP hD [1, 2, 3, 4, 5, 6] [0] rfl rfl (by decide) (by decide) hk1 hFc hP1 hD1
                                    have hP := hP.sub (ws' := ((wS54 cI cJ cZ cB p0 m0) ++ (wS58 cI cJ cZ cB m0 m1 m2 m3 m4 m5 Mx0_4 Mx0_5 Mx0_6z140 Mx0_7z140 Mx0_8 Mx0_9z140 Mx0_10z140 Mx0_11z140 Mx0_12z140 Mx0_13z140 My1 My2 Mx3_0z140 Mx4_0 My5))) [0, 1, 2, 3, 4, 5, 6] rfl
                                    have hD := hD.sub (ws' := ((wS54 cI cJ cZ cB p0 m0) ++ (wS58 cI cJ cZ cB m0 m1 m2 m3 m4 m5 Mx0_4 Mx0_5 Mx0_6z140 Mx0_7z140 Mx0_8 Mx0_9z140 Mx0_10z140 Mx0_11z140 Mx0_12z140 Mx0_13z140 My1 My2 Mx3_0z140 Mx4_0 My5))) [0, 1, 2, 3, 4, 5, 6] (by decide) rfl
                                    have hP : va_P D classes ((wS54 cI cJ cZ cB p0 m0) ++ (wS58 cI cJ cZ cB m0 m1 m2 m3 m4 m5 Mx0_4 Mx0_5 Mx0_6z140 Mx0_7z140 Mx0_8 Mx0_9z140 Mx0_10z140 Mx0_11z140 Mx0_12z140 Mx0_13z140 My1 My2 Mx3_0z140 Mx4_0 My5)) H := hP
                                    have hD : va_D A ((wS54 cI cJ cZ cB p0 m0) ++ (wS58 cI cJ cZ cB m0 m1 m2 m3 m4 m5 Mx0_4 Mx0_5 Mx0_6z140 Mx0_7z140 Mx0_8 Mx0_9z140 Mx0_10z140 Mx0_11z140 Mx0_12z140 Mx0_13z140 My1 My2 Mx3_0z140 Mx4_0 My5)) := hD
                                    clear hPc hDc hFc
                                    refine W.widen (k := 2) (n := 8000) (by decide) (by decide) ?_
                                    refine lv_istore_n (lv' := [(3, .int rz140), (4, .int l4), (2, .int l2), (0, .ref p0), (1, .int a1)]) hx hb d_S_run_38 rfl hl (by decide) rfl (fun ls hl => ?_)
                                    refine lv_iload_n hx hb d_S_run_39 rfl (lv_at hl 0 rfl) ?_
                                    refine lv_iconst (v := 1) hx hb d_S_run_40 (by decide) ?_
                                    refine lv_icmp_gt (tgt := 47) hx hb d_S_run_41 (by decide) (fun c141 => ?_) (fun c141 => ?_)
                                    · obtain ⟨v142, hv142⟩ : ∃ y : Int32, y = (l4 + (1 : Int32)) := ⟨_, rfl⟩
                                      refine lv_iinc (v := v142) (lv' := [(4, .int v142), (3, .int rz140), (2, .int l2), (0, .ref p0), (1, .int a1)]) hx hb d_S_run_47 hl (k := 1) rfl (by rw [hv142]; rfl) (by decide) rfl (fun ls hl => ?_)
                                      refine lv_goto (tgt := 21) hx hb d_S_run_50 (by decide) ?_
                                      exact ih v142 l2 rz140 Mx0_4 Mx0_5 Mx0_6z140 Mx0_7z140 Mx0_8 Mx0_9z140 Mx0_10z140 Mx0_11z140 Mx0_12z140 Mx0_13z140 My1 My2 Mx3_0z140 Mx4_0 My5 H _ ls (lpu c136 hv142 hn21_x2) (lpn hc21_x2 c136 hv142) hP hD hS (lv_sub hl [0, 2, 1, 3, 4] rfl)
                                    · obtain ⟨v143, hv143⟩ : ∃ y : Int32, y = (l2 + (1 : Int32)) := ⟨_, rfl⟩
                                      refine lv_iinc (v := v143) (lv' := [(2, .int v143), (3, .int rz140), (4, .int l4), (0, .ref p0), (1, .int a1)]) hx hb d_S_run_44 hl (k := 2) rfl (by rw [hv143]; rfl) (by decide) rfl (fun ls hl => ?_)
                                      obtain ⟨v144, hv144⟩ : ∃ y : Int32, y = (l4 + (1 : Int32)) := ⟨_, rfl⟩
                                      refine lv_iinc (v := v144) (lv' := [(4, .int v144), (2, .int v143), (3, .int rz140), (0, .ref p0), (1, .int a1)]) hx hb d_S_run_47 hl (k := 2) rfl (by rw [hv144]; rfl) (by decide) rfl (fun ls hl => ?_)
                                      refine lv_goto (tgt := 21) hx hb d_S_run_50 (by decide) ?_
                                      exact ih v144 v143 rz140 Mx0_4 Mx0_5 Mx0_6z140 Mx0_7z140 Mx0_8 Mx0_9z140 Mx0_10z140 Mx0_11z140 Mx0_12z140 Mx0_13z140 My1 My2 Mx3_0z140 Mx4_0 My5 H _ ls (lpu c136 hv144 hn21_x2) (lpn hc21_x2 c136 hv144) hP hD hS (lv_sub hl [0, 1, 2, 3, 4] rfl)
                                  · rw [ht] at hP1
                                    obtain ⟨hP, hD⟩ := va_join (wr := (wS54 cI cJ cZ cB p0 m0)) (w1 := (wS62 cI cJ cZ cB m0 m1 m2 m3 m4 m5 m6 Mx0_4 Mx0_5 Mx0_6z140 Mx0_7z140 Mx0_8 Mx0_9z140 Mx0_10z140 Mx0_11z140 Mx0_12z140 Mx0_13z140 My1 My2 Mx3_0z140 Mx4_0 My5 My6z140)) hP hD [1, 2, 3, 4, 5, 6] [0] rfl rfl (by decide) (by decide) hk1 hFc hP1 hD1
                                    have hP := hP.sub (ws' := ((wS54 cI cJ cZ cB p0 m0) ++ (wS62 cI cJ cZ cB m0 m1 m2 m3 m4 m5 m6 Mx0_4 Mx0_5 Mx0_6z140 Mx0_7z140 Mx0_8 Mx0_9z140 Mx0_10z140 Mx0_11z140 Mx0_12z140 Mx0_13z140 My1 My2 Mx3_0z140 Mx4_0 My5 My6z140))) [0, 1, 2, 3, 4, 5, 6, 7] rfl
                                    have hD := hD.sub (ws' := ((wS54 cI cJ cZ cB p0 m0) ++ (wS62 cI cJ cZ cB m0 m1 m2 m3 m4 m5 m6 Mx0_4 Mx0_5 Mx0_6z140 Mx0_7z140 Mx0_8 Mx0_9z140 Mx0_10z140 Mx0_11z140 Mx0_12z140 Mx0_13z140 My1 My2 Mx3_0z140 Mx4_0 My5 My6z140))) [0, 1, 2, 3, 4, 5, 6, 7] (by decide) rfl
                                    have hP : va_P D classes ((wS54 cI cJ cZ cB p0 m0) ++ (wS62 cI cJ cZ cB m0 m1 m2 m3 m4 m5 m6 Mx0_4 Mx0_5 Mx0_6z140 Mx0_7z140 Mx0_8 Mx0_9z140 Mx0_10z140 Mx0_11z140 Mx0_12z140 Mx0_13z140 My1 My2 Mx3_0z140 Mx4_0 My5 My6z140)) H := hP
                                    have hD : va_D A ((wS54 cI cJ cZ cB p0 m0) ++ (wS62 cI cJ cZ cB m0 m1 m2 m3 m4 m5 m6 Mx0_4 Mx0_5 Mx0_6z140 Mx0_7z140 Mx0_8 Mx0_9z140 Mx0_10z140 Mx0_11z140 Mx0_12z140 Mx0_13z140 My1 My2 Mx3_0z140 Mx4_0 My5 My6z140)) := hD
                                    clear hPc hDc hFc
                                    refine W.widen (k := 2) (n := 8000) (by decide) (by decide) ?_
                                    refine lv_istore_n (lv' := [(3, .int rz140), (4, .int l4), (2, .int l2), (0, .ref p0), (1, .int a1)]) hx hb d_S_run_38 rfl hl (by decide) rfl (fun ls hl => ?_)
                                    refine lv_iload_n hx hb d_S_run_39 rfl (lv_at hl 0 rfl) ?_
                                    refine lv_iconst (v := 1) hx hb d_S_run_40 (by decide) ?_
                                    refine lv_icmp_gt (tgt := 47) hx hb d_S_run_41 (by decide) (fun c145 => ?_) (fun c145 => ?_)
                                    · obtain ⟨v146, hv146⟩ : ∃ y : Int32, y = (l4 + (1 : Int32)) := ⟨_, rfl⟩
                                      refine lv_iinc (v := v146) (lv' := [(4, .int v146), (3, .int rz140), (2, .int l2), (0, .ref p0), (1, .int a1)]) hx hb d_S_run_47 hl (k := 1) rfl (by rw [hv146]; rfl) (by decide) rfl (fun ls hl => ?_)
                                      refine lv_goto (tgt := 21) hx hb d_S_run_50 (by decide) ?_
                                      have LP21_x4 : ∀ (n : Nat) (l4 : Int32) (l3 : Int32) (l2 : Int32) (Mx0_4 : Bool) (Mx0_5 : Int32) (Mx0_6 : Int32) (Mx0_7 : Int32) (Mx0_8 : Int32) (Mx0_9 : Int32) (Mx0_10 : Int32) (Mx0_11 : Int32) (Mx0_12 : Int32) (Mx0_13 : Int32) (My1 : Nat → Int32) (My2 : Nat → Int32) (Mx3_0 : Int32) (Mx4_0 : Int32) (My5 : Nat → Int32) (My6 : Nat → Int32) (H : Heap) (locs : List Loc) (ls : Array Slot), ((a1).toInt - (l4).toInt).toNat < n → ¬ l4 < (0 : Int32) → va_P D classes ((wS54 cI cJ cZ cB p0 m0) ++ (wS62 cI cJ cZ cB m0 m1 m2 m3 m4 m5 m6 Mx0_4 Mx0_5 Mx0_6 Mx0_7 Mx0_8 Mx0_9 Mx0_10 Mx0_11 Mx0_12 Mx0_13 My1 My2 Mx3_0 Mx4_0 My5 My6)) H → va_D A ((wS54 cI cJ cZ cB p0 m0) ++ (wS62 cI cJ cZ cB m0 m1 m2 m3 m4 m5 m6 Mx0_4 Mx0_5 Mx0_6 Mx0_7 Mx0_8 Mx0_9 Mx0_10 Mx0_11 Mx0_12 Mx0_13 My1 My2 Mx3_0 Mx4_0 My5 My6)) → va_S A s.heap H locs → lv_has ls 5 [(4, .int l4), (3, .int l3), (2, .int l2), (0, .ref p0), (1, .int a1)] → W p l e ({ frames := 7, cells := 2, slots := 8000, locals := 151 }) s m [.ref p0, .int a1].toArray below meth c H locs 2 8000 (MQ below (va_Qi (fun r (_ : Unit) => True) (fun _ t => ∃ W9 : va_W, isC K cI cJ cZ cB p0 W9 ∧ va_P D classes W9 t.heap ∧ va_D A W9) A) [.ref p0, .int a1].toArray s 2 8000 A) (F0 m 21 ls []) := by
                                        intro n
                                        induction n with
                                        | zero => intro l4 l3 l2 Mx0_4 Mx0_5 Mx0_6 Mx0_7 Mx0_8 Mx0_9 Mx0_10 Mx0_11 Mx0_12 Mx0_13 My1 My2 Mx3_0 Mx4_0 My5 My6 H locs ls hn; exact absurd hn (Nat.not_lt_zero _)
                                        | succ n ih =>
                                          intro l4 l3 l2 Mx0_4 Mx0_5 Mx0_6 Mx0_7 Mx0_8 Mx0_9 Mx0_10 Mx0_11 Mx0_12 Mx0_13 My1 My2 Mx3_0 Mx4_0 My5 My6 H locs ls hn21_x4 hc21_x4 hP hD hS hl
                                          refine lv_iload hx hb d_S_run_21 (lv_at hl 0 rfl) ?_
                                          refine lv_iload_n hx hb d_S_run_23 rfl (lv_at hl 4 rfl) ?_
                                          refine lv_icmp_ge (tgt := 53) hx hb d_S_run_24 (by decide) (fun c147 => ?_) (fun c147 => ?_)
                                          · refine lv_aload_n hx hb d_S_run_53 rfl (lv_at hl 3 rfl) ?_
                                            refine va_get (D := D) (ci := 0) (v := .ref m0) (C := "SignMachine") (T := F_S) (N := 2) hx hb hk fi_S hown hK.1 hP 0 rfl rfl 0 (by decide) (hk _ k_210) (fun _ h9 => h9) rfl d_S_run_54 ?_
                                            refine lv_iload_n hx hb d_S_run_57 rfl (lv_at hl 1 rfl) ?_
                                            refine va_putN (D := D) (ci := 1) (v := .int l3) (ty := .int) (C := "SignMachine$Machine") (T := F_M) (N := 14) hx hb hk fi_M ft_M ft_M_ok fn_M hown hK.1 hP hD hS 1 rfl rfl 8 (by decide) (va_Nw.use rfl (hK.2 _ n_175)) (fun _ h9 => h9) rfl (by decide +kernel) rfl rfl (Nat.le_of_ble_eq_true rfl) d_S_run_58 (fun H locs hP hD hS => ?_)
                                            have hP : va_P D classes ((wS54 cI cJ cZ cB p0 m0) ++ (wS62 cI cJ cZ cB m0 m1 m2 m3 m4 m5 m6 Mx0_4 Mx0_5 Mx0_6 Mx0_7 l3 Mx0_9 Mx0_10 Mx0_11 Mx0_12 Mx0_13 My1 My2 Mx3_0 Mx4_0 My5 My6)) H := hP
                                            have hD : va_D A ((wS54 cI cJ cZ cB p0 m0) ++ (wS62 cI cJ cZ cB m0 m1 m2 m3 m4 m5 m6 Mx0_4 Mx0_5 Mx0_6 Mx0_7 l3 Mx0_9 Mx0_10 Mx0_11 Mx0_12 Mx0_13 My1 My2 Mx3_0 Mx4_0 My5 My6)) := hD
                                            refine lv_iload_n hx hb d_S_run_61 rfl (lv_at hl 2 rfl) ?_
                                            exact W.iret (v := l2) hx hb hr (fun t ht hW => ⟨⟨l2, (), rfl, trivial, ⟨_, isC_4, (by show va_P D classes _ t.heap; rw [ht]; exact hP), hD⟩⟩, hS.F ht⟩) hS.2.2 d_S_run_62
                                          · refine lv_iload_n hx hb d_S_run_27 rfl (lv_at hl 1 rfl) ?_
                                            refine lv_if_ne (tgt := 53) hx hb d_S_run_28 (by decide) (fun c148 => ?_) (fun c148 => ?_)
                                            · refine lv_aload_n hx hb d_S_run_53 rfl (lv_at hl 3 rfl) ?_
                                              refine va_get (D := D) (ci := 0) (v := .ref m0) (C := "SignMachine") (T := F_S) (N := 2) hx hb hk fi_S hown hK.1 hP 0 rfl rfl 0 (by decide) (hk _ k_210) (fun _ h9 => h9) rfl d_S_run_54 ?_
                                              refine lv_iload_n hx hb d_S_run_57 rfl (lv_at hl 1 rfl) ?_
                                              refine va_putN (D := D) (ci := 1) (v := .int l3) (ty := .int) (C := "SignMachine$Machine") (T := F_M) (N := 14) hx hb hk fi_M ft_M ft_M_ok fn_M hown hK.1 hP hD hS 1 rfl rfl 8 (by decide) (va_Nw.use rfl (hK.2 _ n_175)) (fun _ h9 => h9) rfl (by decide +kernel) rfl rfl (Nat.le_of_ble_eq_true rfl) d_S_run_58 (fun H locs hP hD hS => ?_)
                                              have hP : va_P D classes ((wS54 cI cJ cZ cB p0 m0) ++ (wS62 cI cJ cZ cB m0 m1 m2 m3 m4 m5 m6 Mx0_4 Mx0_5 Mx0_6 Mx0_7 l3 Mx0_9 Mx0_10 Mx0_11 Mx0_12 Mx0_13 My1 My2 Mx3_0 Mx4_0 My5 My6)) H := hP
                                              have hD : va_D A ((wS54 cI cJ cZ cB p0 m0) ++ (wS62 cI cJ cZ cB m0 m1 m2 m3 m4 m5 m6 Mx0_4 Mx0_5 Mx0_6 Mx0_7 l3 Mx0_9 Mx0_10 Mx0_11 Mx0_12 Mx0_13 My1 My2 Mx3_0 Mx4_0 My5 My6)) := hD
                                              refine lv_iload_n hx hb d_S_run_61 rfl (lv_at hl 2 rfl) ?_
                                              exact W.iret (v := l2) hx hb hr (fun t ht hW => ⟨⟨l2, (), rfl, trivial, ⟨_, isC_4, (by show va_P D classes _ t.heap; rw [ht]; exact hP), hD⟩⟩, hS.F ht⟩) hS.2.2 d_S_run_62
                                            · refine lv_aload_n hx hb d_S_run_31 rfl (lv_at hl 3 rfl) ?_
                                              refine va_get (D := D) (ci := 0) (v := .ref m0) (C := "SignMachine") (T := F_S) (N := 2) hx hb hk fi_S hown hK.1 hP 0 rfl rfl 0 (by decide) (hk _ k_210) (fun _ h9 => h9) rfl d_S_run_32 ?_
                                              have hPc := hP.sub (ws' := (wS62 cI cJ cZ cB m0 m1 m2 m3 m4 m5 m6 Mx0_4 Mx0_5 Mx0_6 Mx0_7 Mx0_8 Mx0_9 Mx0_10 Mx0_11 Mx0_12 Mx0_13 My1 My2 Mx3_0 Mx4_0 My5 My6)) [1, 2, 3, 4, 5, 6, 7] rfl
                                              have hDc := hD.sub (ws' := (wS62 cI cJ cZ cB m0 m1 m2 m3 m4 m5 m6 Mx0_4 Mx0_5 Mx0_6 Mx0_7 Mx0_8 Mx0_9 Mx0_10 Mx0_11 Mx0_12 Mx0_13 My1 My2 Mx3_0 Mx4_0 My5 My6)) [1, 2, 3, 4, 5, 6, 7] (by decide) rfl
                                              have hFc := va_free (wc := (wS62 cI cJ cZ cB m0 m1 m2 m3 m4 m5 m6 Mx0_4 Mx0_5 Mx0_6 Mx0_7 Mx0_8 Mx0_9 Mx0_10 Mx0_11 Mx0_12 Mx0_13 My1 My2 Mx3_0 Mx4_0 My5 My6)) hD hS hA [1, 2, 3, 4, 5, 6, 7] rfl
                                              refine va_calli (va_runV (C := "SignMachine$Machine") (As := []) (rest := []) ⟨hx, hb, hml, hown, hk⟩ (c_M_execute_s9 l K D cI cJ cZ cB m0 m1 m2 m3 m4 m5 m6 H.size Mx0_4 Mx0_5 Mx0_6 Mx0_7 Mx0_8 Mx0_9 Mx0_10 Mx0_11 Mx0_12 Mx0_13 My1 My2 Mx3_0 Mx4_0 My5 My6  ) (v_M_execute_s9 hk k_258 ⟨Nat.le_of_ble_eq_true rfl, Nat.le_of_ble_eq_true rfl⟩) (pMC_v hK hPc hDc hC hS hA (ci := 1) (q0 := 0) rfl rfl rfl) rfl rfl hl.1 rfl (lv_room (Nat.le_of_ble_eq_true rfl)) d_S_run_35 ⟨by decide, by decide⟩) hS (fun q _ h => hFc q h) hFc (fun rz149 u t H locs ht hvm hr0 hB hz1 hk1 hS => ?_)
                                              obtain ⟨Mx0_4z149, Mx0_5z149, Mx0_6z149, Mx0_7z149, Mx0_9z149, Mx0_10z149, Mx0_11z149, Mx0_12z149, Mx0_13z149, My1z149, My2z149, Mx3_0z149, Mx4_0z149, My5z149, My6z149, hP1, hD1⟩ := hB
                                              rw [ht] at hP1
                                              obtain ⟨hP, hD⟩ := va_join (wr := (wS54 cI cJ cZ cB p0 m0)) (w1 := (wS62 cI cJ cZ cB m0 m1 m2 m3 m4 m5 m6 Mx0_4z149 Mx0_5z149 Mx0_6z149 Mx0_7z149 Mx0_8 Mx0_9z149 Mx0_10z149 Mx0_11z149 Mx0_12z149 Mx0_13z149 My1z149 My2z149 Mx3_0z149 Mx4_0z149 My5z149 My6z149)) hP hD [1, 2, 3, 4, 5, 6, 7] [0] rfl rfl (by decide) (by decide) hk1 hFc hP1 hD1
                                              have hP := hP.sub (ws' := ((wS54 cI cJ cZ cB p0 m0) ++ (wS62 cI cJ cZ cB m0 m1 m2 m3 m4 m5 m6 Mx0_4z149 Mx0_5z149 Mx0_6z149 Mx0_7z149 Mx0_8 Mx0_9z149 Mx0_10z149 Mx0_11z149 Mx0_12z149 Mx0_13z149 My1z149 My2z149 Mx3_0z149 Mx4_0z149 My5z149 My6z149))) [0, 1, 2, 3, 4, 5, 6, 7] rfl
                                              have hD := hD.sub (ws' := ((wS54 cI cJ cZ cB p0 m0) ++ (wS62 cI cJ cZ cB m0 m1 m2 m3 m4 m5 m6 Mx0_4z149 Mx0_5z149 Mx0_6z149 Mx0_7z149 Mx0_8 Mx0_9z149 Mx0_10z149 Mx0_11z149 Mx0_12z149 Mx0_13z149 My1z149 My2z149 Mx3_0z149 Mx4_0z149 My5z149 My6z149))) [0, 1, 2, 3, 4, 5, 6, 7] (by decide) rfl
                                              have hP : va_P D classes ((wS54 cI cJ cZ cB p0 m0) ++ (wS62 cI cJ cZ cB m0 m1 m2 m3 m4 m5 m6 Mx0_4z149 Mx0_5z149 Mx0_6z149 Mx0_7z149 Mx0_8 Mx0_9z149 Mx0_10z149 Mx0_11z149 Mx0_12z149 Mx0_13z149 My1z149 My2z149 Mx3_0z149 Mx4_0z149 My5z149 My6z149)) H := hP
                                              have hD : va_D A ((wS54 cI cJ cZ cB p0 m0) ++ (wS62 cI cJ cZ cB m0 m1 m2 m3 m4 m5 m6 Mx0_4z149 Mx0_5z149 Mx0_6z149 Mx0_7z149 Mx0_8 Mx0_9z149 Mx0_10z149 Mx0_11z149 Mx0_12z149 Mx0_13z149 My1z149 My2z149 Mx3_0z149 Mx4_0z149 My5z149 My6z149)) := hD
                                              clear hPc hDc hFc
                                              refine lv_istore_n (lv' := [(3, .int rz149), (4, .int l4), (2, .int l2), (0, .ref p0), (1, .int a1)]) hx hb d_S_run_38 rfl hl (by decide) rfl (fun ls hl => ?_)
                                              refine lv_iload_n hx hb d_S_run_39 rfl (lv_at hl 0 rfl) ?_
                                              refine lv_iconst (v := 1) hx hb d_S_run_40 (by decide) ?_
                                              refine lv_icmp_gt (tgt := 47) hx hb d_S_run_41 (by decide) (fun c150 => ?_) (fun c150 => ?_)
                                              · obtain ⟨v151, hv151⟩ : ∃ y : Int32, y = (l4 + (1 : Int32)) := ⟨_, rfl⟩
                                                refine lv_iinc (v := v151) (lv' := [(4, .int v151), (3, .int rz149), (2, .int l2), (0, .ref p0), (1, .int a1)]) hx hb d_S_run_47 hl (k := 1) rfl (by rw [hv151]; rfl) (by decide) rfl (fun ls hl => ?_)
                                                refine lv_goto (tgt := 21) hx hb d_S_run_50 (by decide) ?_
                                                exact ih v151 rz149 l2 Mx0_4z149 Mx0_5z149 Mx0_6z149 Mx0_7z149 Mx0_8 Mx0_9z149 Mx0_10z149 Mx0_11z149 Mx0_12z149 Mx0_13z149 My1z149 My2z149 Mx3_0z149 Mx4_0z149 My5z149 My6z149 H _ ls (lpu c147 hv151 hn21_x4) (lpn hc21_x4 c147 hv151) hP hD hS (lv_sub hl [0, 1, 2, 3, 4] rfl)
                                              · obtain ⟨v152, hv152⟩ : ∃ y : Int32, y = (l2 + (1 : Int32)) := ⟨_, rfl⟩
                                                refine lv_iinc (v := v152) (lv' := [(2, .int v152), (3, .int rz149), (4, .int l4), (0, .ref p0), (1, .int a1)]) hx hb d_S_run_44 hl (k := 2) rfl (by rw [hv152]; rfl) (by decide) rfl (fun ls hl => ?_)
                                                obtain ⟨v153, hv153⟩ : ∃ y : Int32, y = (l4 + (1 : Int32)) := ⟨_, rfl⟩
                                                refine lv_iinc (v := v153) (lv' := [(4, .int v153), (2, .int v152), (3, .int rz149), (0, .ref p0), (1, .int a1)]) hx hb d_S_run_47 hl (k := 2) rfl (by rw [hv153]; rfl) (by decide) rfl (fun ls hl => ?_)
                                                refine lv_goto (tgt := 21) hx hb d_S_run_50 (by decide) ?_
                                                exact ih v153 rz149 v152 Mx0_4z149 Mx0_5z149 Mx0_6z149 Mx0_7z149 Mx0_8 Mx0_9z149 Mx0_10z149 Mx0_11z149 Mx0_12z149 Mx0_13z149 My1z149 My2z149 Mx3_0z149 Mx4_0z149 My5z149 My6z149 H _ ls (lpu c147 hv153 hn21_x4) (lpn hc21_x4 c147 hv153) hP hD hS (lv_sub hl [0, 2, 1, 3, 4] rfl)
                                      exact LP21_x4 _ v146 rz140 l2 Mx0_4 Mx0_5 Mx0_6z140 Mx0_7z140 Mx0_8 Mx0_9z140 Mx0_10z140 Mx0_11z140 Mx0_12z140 Mx0_13z140 My1 My2 Mx3_0z140 Mx4_0 My5 My6z140 H _ ls (Nat.lt_succ_self _) (lpn hc21_x2 c136 hv146) hP hD hS hl
                                    · obtain ⟨v154, hv154⟩ : ∃ y : Int32, y = (l2 + (1 : Int32)) := ⟨_, rfl⟩
                                      refine lv_iinc (v := v154) (lv' := [(2, .int v154), (3, .int rz140), (4, .int l4), (0, .ref p0), (1, .int a1)]) hx hb d_S_run_44 hl (k := 2) rfl (by rw [hv154]; rfl) (by decide) rfl (fun ls hl => ?_)
                                      obtain ⟨v155, hv155⟩ : ∃ y : Int32, y = (l4 + (1 : Int32)) := ⟨_, rfl⟩
                                      refine lv_iinc (v := v155) (lv' := [(4, .int v155), (2, .int v154), (3, .int rz140), (0, .ref p0), (1, .int a1)]) hx hb d_S_run_47 hl (k := 2) rfl (by rw [hv155]; rfl) (by decide) rfl (fun ls hl => ?_)
                                      refine lv_goto (tgt := 21) hx hb d_S_run_50 (by decide) ?_
                                      have LP21_x4 : ∀ (n : Nat) (l4 : Int32) (l2 : Int32) (l3 : Int32) (Mx0_4 : Bool) (Mx0_5 : Int32) (Mx0_6 : Int32) (Mx0_7 : Int32) (Mx0_8 : Int32) (Mx0_9 : Int32) (Mx0_10 : Int32) (Mx0_11 : Int32) (Mx0_12 : Int32) (Mx0_13 : Int32) (My1 : Nat → Int32) (My2 : Nat → Int32) (Mx3_0 : Int32) (Mx4_0 : Int32) (My5 : Nat → Int32) (My6 : Nat → Int32) (H : Heap) (locs : List Loc) (ls : Array Slot), ((a1).toInt - (l4).toInt).toNat < n → ¬ l4 < (0 : Int32) → va_P D classes ((wS54 cI cJ cZ cB p0 m0) ++ (wS62 cI cJ cZ cB m0 m1 m2 m3 m4 m5 m6 Mx0_4 Mx0_5 Mx0_6 Mx0_7 Mx0_8 Mx0_9 Mx0_10 Mx0_11 Mx0_12 Mx0_13 My1 My2 Mx3_0 Mx4_0 My5 My6)) H → va_D A ((wS54 cI cJ cZ cB p0 m0) ++ (wS62 cI cJ cZ cB m0 m1 m2 m3 m4 m5 m6 Mx0_4 Mx0_5 Mx0_6 Mx0_7 Mx0_8 Mx0_9 Mx0_10 Mx0_11 Mx0_12 Mx0_13 My1 My2 Mx3_0 Mx4_0 My5 My6)) → va_S A s.heap H locs → lv_has ls 5 [(4, .int l4), (2, .int l2), (3, .int l3), (0, .ref p0), (1, .int a1)] → W p l e ({ frames := 7, cells := 2, slots := 8000, locals := 151 }) s m [.ref p0, .int a1].toArray below meth c H locs 2 8000 (MQ below (va_Qi (fun r (_ : Unit) => True) (fun _ t => ∃ W9 : va_W, isC K cI cJ cZ cB p0 W9 ∧ va_P D classes W9 t.heap ∧ va_D A W9) A) [.ref p0, .int a1].toArray s 2 8000 A) (F0 m 21 ls []) := by
                                        intro n
                                        induction n with
                                        | zero => intro l4 l2 l3 Mx0_4 Mx0_5 Mx0_6 Mx0_7 Mx0_8 Mx0_9 Mx0_10 Mx0_11 Mx0_12 Mx0_13 My1 My2 Mx3_0 Mx4_0 My5 My6 H locs ls hn; exact absurd hn (Nat.not_lt_zero _)
                                        | succ n ih =>
                                          intro l4 l2 l3 Mx0_4 Mx0_5 Mx0_6 Mx0_7 Mx0_8 Mx0_9 Mx0_10 Mx0_11 Mx0_12 Mx0_13 My1 My2 Mx3_0 Mx4_0 My5 My6 H locs ls hn21_x4 hc21_x4 hP hD hS hl
                                          refine lv_iload hx hb d_S_run_21 (lv_at hl 0 rfl) ?_
                                          refine lv_iload_n hx hb d_S_run_23 rfl (lv_at hl 4 rfl) ?_
                                          refine lv_icmp_ge (tgt := 53) hx hb d_S_run_24 (by decide) (fun c156 => ?_) (fun c156 => ?_)
                                          · refine lv_aload_n hx hb d_S_run_53 rfl (lv_at hl 3 rfl) ?_
                                            refine va_get (D := D) (ci := 0) (v := .ref m0) (C := "SignMachine") (T := F_S) (N := 2) hx hb hk fi_S hown hK.1 hP 0 rfl rfl 0 (by decide) (hk _ k_210) (fun _ h9 => h9) rfl d_S_run_54 ?_
                                            refine lv_iload_n hx hb d_S_run_57 rfl (lv_at hl 2 rfl) ?_
                                            refine va_putN (D := D) (ci := 1) (v := .int l3) (ty := .int) (C := "SignMachine$Machine") (T := F_M) (N := 14) hx hb hk fi_M ft_M ft_M_ok fn_M hown hK.1 hP hD hS 1 rfl rfl 8 (by decide) (va_Nw.use rfl (hK.2 _ n_175)) (fun _ h9 => h9) rfl (by decide +kernel) rfl rfl (Nat.le_of_ble_eq_true rfl) d_S_run_58 (fun H locs hP hD hS => ?_)
                                            have hP : va_P D classes ((wS54 cI cJ cZ cB p0 m0) ++ (wS62 cI cJ cZ cB m0 m1 m2 m3 m4 m5 m6 Mx0_4 Mx0_5 Mx0_6 Mx0_7 l3 Mx0_9 Mx0_10 Mx0_11 Mx0_12 Mx0_13 My1 My2 Mx3_0 Mx4_0 My5 My6)) H := hP
                                            have hD : va_D A ((wS54 cI cJ cZ cB p0 m0) ++ (wS62 cI cJ cZ cB m0 m1 m2 m3 m4 m5 m6 Mx0_4 Mx0_5 Mx0_6 Mx0_7 l3 Mx0_9 Mx0_10 Mx0_11 Mx0_12 Mx0_13 My1 My2 Mx3_0 Mx4_0 My5 My6)) := hD
                                            refine lv_iload_n hx hb d_S_run_61 rfl (lv_at hl 1 rfl) ?_
                                            exact W.iret (v := l2) hx hb hr (fun t ht hW => ⟨⟨l2, (), rfl, trivial, ⟨_, isC_4, (by show va_P D classes _ t.heap; rw [ht]; exact hP), hD⟩⟩, hS.F ht⟩) hS.2.2 d_S_run_62
                                          · refine lv_iload_n hx hb d_S_run_27 rfl (lv_at hl 2 rfl) ?_
                                            refine lv_if_ne (tgt := 53) hx hb d_S_run_28 (by decide) (fun c157 => ?_) (fun c157 => ?_)
                                            · refine lv_aload_n hx hb d_S_run_53 rfl (lv_at hl 3 rfl) ?_
                                              refine va_get (D := D) (ci := 0) (v := .ref m0) (C := "SignMachine") (T := F_S) (N := 2) hx hb hk fi_S hown hK.1 hP 0 rfl rfl 0 (by decide) (hk _ k_210) (fun _ h9 => h9) rfl d_S_run_54 ?_
                                              refine lv_iload_n hx hb d_S_run_57 rfl (lv_at hl 2 rfl) ?_
                                              refine va_putN (D := D) (ci := 1) (v := .int l3) (ty := .int) (C := "SignMachine$Machine") (T := F_M) (N := 14) hx hb hk fi_M ft_M ft_M_ok fn_M hown hK.1 hP hD hS 1 rfl rfl 8 (by decide) (va_Nw.use rfl (hK.2 _ n_175)) (fun _ h9 => h9) rfl (by decide +kernel) rfl rfl (Nat.le_of_ble_eq_true rfl) d_S_run_58 (fun H locs hP hD hS => ?_)
                                              have hP : va_P D classes ((wS54 cI cJ cZ cB p0 m0) ++ (wS62 cI cJ cZ cB m0 m1 m2 m3 m4 m5 m6 Mx0_4 Mx0_5 Mx0_6 Mx0_7 l3 Mx0_9 Mx0_10 Mx0_11 Mx0_12 Mx0_13 My1 My2 Mx3_0 Mx4_0 My5 My6)) H := hP
                                              have hD : va_D A ((wS54 cI cJ cZ cB p0 m0) ++ (wS62 cI cJ cZ cB m0 m1 m2 m3 m4 m5 m6 Mx0_4 Mx0_5 Mx0_6 Mx0_7 l3 Mx0_9 Mx0_10 Mx0_11 Mx0_12 Mx0_13 My1 My2 Mx3_0 Mx4_0 My5 My6)) := hD
                                              refine lv_iload_n hx hb d_S_run_61 rfl (lv_at hl 1 rfl) ?_
                                              exact W.iret (v := l2) hx hb hr (fun t ht hW => ⟨⟨l2, (), rfl, trivial, ⟨_, isC_4, (by show va_P D classes _ t.heap; rw [ht]; exact hP), hD⟩⟩, hS.F ht⟩) hS.2.2 d_S_run_62
                                            · refine lv_aload_n hx hb d_S_run_31 rfl (lv_at hl 3 rfl) ?_
                                              refine va_get (D := D) (ci := 0) (v := .ref m0) (C := "SignMachine") (T := F_S) (N := 2) hx hb hk fi_S hown hK.1 hP 0 rfl rfl 0 (by decide) (hk _ k_210) (fun _ h9 => h9) rfl d_S_run_32 ?_
                                              have hPc := hP.sub (ws' := (wS62 cI cJ cZ cB m0 m1 m2 m3 m4 m5 m6 Mx0_4 Mx0_5 Mx0_6 Mx0_7 Mx0_8 Mx0_9 Mx0_10 Mx0_11 Mx0_12 Mx0_13 My1 My2 Mx3_0 Mx4_0 My5 My6)) [1, 2, 3, 4, 5, 6, 7] rfl
                                              have hDc := hD.sub (ws' := (wS62 cI cJ cZ cB m0 m1 m2 m3 m4 m5 m6 Mx0_4 Mx0_5 Mx0_6 Mx0_7 Mx0_8 Mx0_9 Mx0_10 Mx0_11 Mx0_12 Mx0_13 My1 My2 Mx3_0 Mx4_0 My5 My6)) [1, 2, 3, 4, 5, 6, 7] (by decide) rfl
                                              have hFc := va_free (wc := (wS62 cI cJ cZ cB m0 m1 m2 m3 m4 m5 m6 Mx0_4 Mx0_5 Mx0_6 Mx0_7 Mx0_8 Mx0_9 Mx0_10 Mx0_11 Mx0_12 Mx0_13 My1 My2 Mx3_0 Mx4_0 My5 My6)) hD hS hA [1, 2, 3, 4, 5, 6, 7] rfl
                                              refine va_calli (va_runV (C := "SignMachine$Machine") (As := []) (rest := []) ⟨hx, hb, hml, hown, hk⟩ (c_M_execute_s9 l K D cI cJ cZ cB m0 m1 m2 m3 m4 m5 m6 H.size Mx0_4 Mx0_5 Mx0_6 Mx0_7 Mx0_8 Mx0_9 Mx0_10 Mx0_11 Mx0_12 Mx0_13 My1 My2 Mx3_0 Mx4_0 My5 My6  ) (v_M_execute_s9 hk k_258 ⟨Nat.le_of_ble_eq_true rfl, Nat.le_of_ble_eq_true rfl⟩) (pMC_v hK hPc hDc hC hS hA (ci := 1) (q0 := 0) rfl rfl rfl) rfl rfl hl.1 rfl (lv_room (Nat.le_of_ble_eq_true rfl)) d_S_run_35 ⟨by decide, by decide⟩) hS (fun q _ h => hFc q h) hFc (fun rz158 u t H locs ht hvm hr0 hB hz1 hk1 hS => ?_)
                                              obtain ⟨Mx0_4z158, Mx0_5z158, Mx0_6z158, Mx0_7z158, Mx0_9z158, Mx0_10z158, Mx0_11z158, Mx0_12z158, Mx0_13z158, My1z158, My2z158, Mx3_0z158, Mx4_0z158, My5z158, My6z158, hP1, hD1⟩ := hB
                                              rw [ht] at hP1
                                              obtain ⟨hP, hD⟩ := va_join (wr := (wS54 cI cJ cZ cB p0 m0)) (w1 := (wS62 cI cJ cZ cB m0 m1 m2 m3 m4 m5 m6 Mx0_4z158 Mx0_5z158 Mx0_6z158 Mx0_7z158 Mx0_8 Mx0_9z158 Mx0_10z158 Mx0_11z158 Mx0_12z158 Mx0_13z158 My1z158 My2z158 Mx3_0z158 Mx4_0z158 My5z158 My6z158)) hP hD [1, 2, 3, 4, 5, 6, 7] [0] rfl rfl (by decide) (by decide) hk1 hFc hP1 hD1
                                              have hP := hP.sub (ws' := ((wS54 cI cJ cZ cB p0 m0) ++ (wS62 cI cJ cZ cB m0 m1 m2 m3 m4 m5 m6 Mx0_4z158 Mx0_5z158 Mx0_6z158 Mx0_7z158 Mx0_8 Mx0_9z158 Mx0_10z158 Mx0_11z158 Mx0_12z158 Mx0_13z158 My1z158 My2z158 Mx3_0z158 Mx4_0z158 My5z158 My6z158))) [0, 1, 2, 3, 4, 5, 6, 7] rfl
                                              have hD := hD.sub (ws' := ((wS54 cI cJ cZ cB p0 m0) ++ (wS62 cI cJ cZ cB m0 m1 m2 m3 m4 m5 m6 Mx0_4z158 Mx0_5z158 Mx0_6z158 Mx0_7z158 Mx0_8 Mx0_9z158 Mx0_10z158 Mx0_11z158 Mx0_12z158 Mx0_13z158 My1z158 My2z158 Mx3_0z158 Mx4_0z158 My5z158 My6z158))) [0, 1, 2, 3, 4, 5, 6, 7] (by decide) rfl
                                              have hP : va_P D classes ((wS54 cI cJ cZ cB p0 m0) ++ (wS62 cI cJ cZ cB m0 m1 m2 m3 m4 m5 m6 Mx0_4z158 Mx0_5z158 Mx0_6z158 Mx0_7z158 Mx0_8 Mx0_9z158 Mx0_10z158 Mx0_11z158 Mx0_12z158 Mx0_13z158 My1z158 My2z158 Mx3_0z158 Mx4_0z158 My5z158 My6z158)) H := hP
                                              have hD : va_D A ((wS54 cI cJ cZ cB p0 m0) ++ (wS62 cI cJ cZ cB m0 m1 m2 m3 m4 m5 m6 Mx0_4z158 Mx0_5z158 Mx0_6z158 Mx0_7z158 Mx0_8 Mx0_9z158 Mx0_10z158 Mx0_11z158 Mx0_12z158 Mx0_13z158 My1z158 My2z158 Mx3_0z158 Mx4_0z158 My5z158 My6z158)) := hD
                                              clear hPc hDc hFc
                                              refine lv_istore_n (lv' := [(3, .int rz158), (4, .int l4), (2, .int l2), (0, .ref p0), (1, .int a1)]) hx hb d_S_run_38 rfl hl (by decide) rfl (fun ls hl => ?_)
                                              refine lv_iload_n hx hb d_S_run_39 rfl (lv_at hl 0 rfl) ?_
                                              refine lv_iconst (v := 1) hx hb d_S_run_40 (by decide) ?_
                                              refine lv_icmp_gt (tgt := 47) hx hb d_S_run_41 (by decide) (fun c159 => ?_) (fun c159 => ?_)
                                              · obtain ⟨v160, hv160⟩ : ∃ y : Int32, y = (l4 + (1 : Int32)) := ⟨_, rfl⟩
                                                refine lv_iinc (v := v160) (lv' := [(4, .int v160), (3, .int rz158), (2, .int l2), (0, .ref p0), (1, .int a1)]) hx hb d_S_run_47 hl (k := 1) rfl (by rw [hv160]; rfl) (by decide) rfl (fun ls hl => ?_)
                                                refine lv_goto (tgt := 21) hx hb d_S_run_50 (by decide) ?_
                                                exact ih v160 l2 rz158 Mx0_4z158 Mx0_5z158 Mx0_6z158 Mx0_7z158 Mx0_8 Mx0_9z158 Mx0_10z158 Mx0_11z158 Mx0_12z158 Mx0_13z158 My1z158 My2z158 Mx3_0z158 Mx4_0z158 My5z158 My6z158 H _ ls (lpu c156 hv160 hn21_x4) (lpn hc21_x4 c156 hv160) hP hD hS (lv_sub hl [0, 2, 1, 3, 4] rfl)
                                              · obtain ⟨v161, hv161⟩ : ∃ y : Int32, y = (l2 + (1 : Int32)) := ⟨_, rfl⟩
                                                refine lv_iinc (v := v161) (lv' := [(2, .int v161), (3, .int rz158), (4, .int l4), (0, .ref p0), (1, .int a1)]) hx hb d_S_run_44 hl (k := 2) rfl (by rw [hv161]; rfl) (by decide) rfl (fun ls hl => ?_)
                                                obtain ⟨v162, hv162⟩ : ∃ y : Int32, y = (l4 + (1 : Int32)) := ⟨_, rfl⟩
                                                refine lv_iinc (v := v162) (lv' := [(4, .int v162), (2, .int v161), (3, .int rz158), (0, .ref p0), (1, .int a1)]) hx hb d_S_run_47 hl (k := 2) rfl (by rw [hv162]; rfl) (by decide) rfl (fun ls hl => ?_)
                                                refine lv_goto (tgt := 21) hx hb d_S_run_50 (by decide) ?_
                                                exact ih v162 v161 rz158 Mx0_4z158 Mx0_5z158 Mx0_6z158 Mx0_7z158 Mx0_8 Mx0_9z158 Mx0_10z158 Mx0_11z158 Mx0_12z158 Mx0_13z158 My1z158 My2z158 Mx3_0z158 Mx4_0z158 My5z158 My6z158 H _ ls (lpu c156 hv162 hn21_x4) (lpn hc21_x4 c156 hv162) hP hD hS (lv_sub hl [0, 1, 2, 3, 4] rfl)
                                      exact LP21_x4 _ v155 v154 rz140 Mx0_4 Mx0_5 Mx0_6z140 Mx0_7z140 Mx0_8 Mx0_9z140 Mx0_10z140 Mx0_11z140 Mx0_12z140 Mx0_13z140 My1 My2 Mx3_0z140 Mx4_0 My5 My6z140 H _ ls (Nat.lt_succ_self _) (lpn hc21_x2 c136 hv155) hP hD hS hl
                                · have hPc := hP.sub (ws' := (wS58 cI cJ cZ cB m0 m1 m2 m3 m4 m5 Mx0_4 Mx0_5 Mx0_6 Mx0_7 Mx0_8 Mx0_9 Mx0_10 Mx0_11 Mx0_12 Mx0_13 My1 My2 Mx3_0 Mx4_0 My5)) [1, 2, 3, 4, 5, 6] rfl
                                  have hDc := hD.sub (ws' := (wS58 cI cJ cZ cB m0 m1 m2 m3 m4 m5 Mx0_4 Mx0_5 Mx0_6 Mx0_7 Mx0_8 Mx0_9 Mx0_10 Mx0_11 Mx0_12 Mx0_13 My1 My2 Mx3_0 Mx4_0 My5)) [1, 2, 3, 4, 5, 6] (by decide) rfl
                                  have hFc := va_free (wc := (wS58 cI cJ cZ cB m0 m1 m2 m3 m4 m5 Mx0_4 Mx0_5 Mx0_6 Mx0_7 Mx0_8 Mx0_9 Mx0_10 Mx0_11 Mx0_12 Mx0_13 My1 My2 Mx3_0 Mx4_0 My5)) hD hS hA [1, 2, 3, 4, 5, 6] rfl
                                  refine va_calli (va_runV (C := "SignMachine$Machine") (As := []) (rest := []) ⟨hx, hb, hml, hown, hk⟩ (c_M_execute_s10 l K D cI cJ cZ cB m0 m1 m2 m3 m4 m5 H.size Mx0_4 Mx0_5 Mx0_6 Mx0_7 Mx0_8 Mx0_9 Mx0_10 Mx0_11 Mx0_12 Mx0_13 My1 My2 Mx3_0 Mx4_0 My5  q138 q139) (v_M_execute_s10 hk k_258 ⟨Nat.le_of_ble_eq_true rfl, Nat.le_of_ble_eq_true rfl⟩) (pMC_v hK hPc hDc hC hS hA (ci := 1) (q0 := 0) rfl rfl rfl) rfl rfl hl.1 rfl (lv_room (Nat.le_of_ble_eq_true rfl)) d_S_run_35 ⟨by decide, by decide⟩) hS (fun q _ h => hFc q h) hFc (fun rz163 u t H locs ht hvm hr0 hB hz1 hk1 hS => ?_)
                                  obtain ⟨Mx0_6z163, Mx0_7z163, Mx0_9z163, Mx0_10z163, Mx0_11z163, Mx0_12z163, Mx0_13z163, Mx4_0z163, My5z163, hP1, hD1⟩ := hB
                                  rw [ht] at hP1
                                  obtain ⟨hP, hD⟩ := va_join (wr := (wS54 cI cJ cZ cB p0 m0)) (w1 := (wS58 cI cJ cZ cB m0 m1 m2 m3 m4 m5 Mx0_4 Mx0_5 Mx0_6z163 Mx0_7z163 Mx0_8 Mx0_9z163 Mx0_10z163 Mx0_11z163 Mx0_12z163 Mx0_13z163 My1 My2 Mx3_0 Mx4_0z163 My5z163)) hP hD [1, 2, 3, 4, 5, 6] [0] rfl rfl (by decide) (by decide) hk1 hFc hP1 hD1
                                  have hP := hP.sub (ws' := ((wS54 cI cJ cZ cB p0 m0) ++ (wS58 cI cJ cZ cB m0 m1 m2 m3 m4 m5 Mx0_4 Mx0_5 Mx0_6z163 Mx0_7z163 Mx0_8 Mx0_9z163 Mx0_10z163 Mx0_11z163 Mx0_12z163 Mx0_13z163 My1 My2 Mx3_0 Mx4_0z163 My5z163))) [0, 1, 2, 3, 4, 5, 6] rfl
                                  have hD := hD.sub (ws' := ((wS54 cI cJ cZ cB p0 m0) ++ (wS58 cI cJ cZ cB m0 m1 m2 m3 m4 m5 Mx0_4 Mx0_5 Mx0_6z163 Mx0_7z163 Mx0_8 Mx0_9z163 Mx0_10z163 Mx0_11z163 Mx0_12z163 Mx0_13z163 My1 My2 Mx3_0 Mx4_0z163 My5z163))) [0, 1, 2, 3, 4, 5, 6] (by decide) rfl
                                  have hP : va_P D classes ((wS54 cI cJ cZ cB p0 m0) ++ (wS58 cI cJ cZ cB m0 m1 m2 m3 m4 m5 Mx0_4 Mx0_5 Mx0_6z163 Mx0_7z163 Mx0_8 Mx0_9z163 Mx0_10z163 Mx0_11z163 Mx0_12z163 Mx0_13z163 My1 My2 Mx3_0 Mx4_0z163 My5z163)) H := hP
                                  have hD : va_D A ((wS54 cI cJ cZ cB p0 m0) ++ (wS58 cI cJ cZ cB m0 m1 m2 m3 m4 m5 Mx0_4 Mx0_5 Mx0_6z163 Mx0_7z163 Mx0_8 Mx0_9z163 Mx0_10z163 Mx0_11z163 Mx0_12z163 Mx0_13z163 My1 My2 Mx3_0 Mx4_0z163 My5z163)) := hD
                                  clear hPc hDc hFc
                                  refine lv_istore_n (lv' := [(3, .int rz163), (4, .int l4), (2, .int l2), (0, .ref p0), (1, .int a1)]) hx hb d_S_run_38 rfl hl (by decide) rfl (fun ls hl => ?_)
                                  refine lv_iload_n hx hb d_S_run_39 rfl (lv_at hl 0 rfl) ?_
                                  refine lv_iconst (v := 1) hx hb d_S_run_40 (by decide) ?_
                                  refine lv_icmp_gt (tgt := 47) hx hb d_S_run_41 (by decide) (fun c164 => ?_) (fun c164 => ?_)
                                  · obtain ⟨v165, hv165⟩ : ∃ y : Int32, y = (l4 + (1 : Int32)) := ⟨_, rfl⟩
                                    refine lv_iinc (v := v165) (lv' := [(4, .int v165), (3, .int rz163), (2, .int l2), (0, .ref p0), (1, .int a1)]) hx hb d_S_run_47 hl (k := 1) rfl (by rw [hv165]; rfl) (by decide) rfl (fun ls hl => ?_)
                                    refine lv_goto (tgt := 21) hx hb d_S_run_50 (by decide) ?_
                                    exact ih v165 l2 rz163 Mx0_4 Mx0_5 Mx0_6z163 Mx0_7z163 Mx0_8 Mx0_9z163 Mx0_10z163 Mx0_11z163 Mx0_12z163 Mx0_13z163 My1 My2 Mx3_0 Mx4_0z163 My5z163 H _ ls (lpu c136 hv165 hn21_x2) (lpn hc21_x2 c136 hv165) hP hD hS (lv_sub hl [0, 2, 1, 3, 4] rfl)
                                  · obtain ⟨v166, hv166⟩ : ∃ y : Int32, y = (l2 + (1 : Int32)) := ⟨_, rfl⟩
                                    refine lv_iinc (v := v166) (lv' := [(2, .int v166), (3, .int rz163), (4, .int l4), (0, .ref p0), (1, .int a1)]) hx hb d_S_run_44 hl (k := 2) rfl (by rw [hv166]; rfl) (by decide) rfl (fun ls hl => ?_)
                                    obtain ⟨v167, hv167⟩ : ∃ y : Int32, y = (l4 + (1 : Int32)) := ⟨_, rfl⟩
                                    refine lv_iinc (v := v167) (lv' := [(4, .int v167), (2, .int v166), (3, .int rz163), (0, .ref p0), (1, .int a1)]) hx hb d_S_run_47 hl (k := 2) rfl (by rw [hv167]; rfl) (by decide) rfl (fun ls hl => ?_)
                                    refine lv_goto (tgt := 21) hx hb d_S_run_50 (by decide) ?_
                                    exact ih v167 v166 rz163 Mx0_4 Mx0_5 Mx0_6z163 Mx0_7z163 Mx0_8 Mx0_9z163 Mx0_10z163 Mx0_11z163 Mx0_12z163 Mx0_13z163 My1 My2 Mx3_0 Mx4_0z163 My5z163 H _ ls (lpu c136 hv167 hn21_x2) (lpn hc21_x2 c136 hv167) hP hD hS (lv_sub hl [0, 1, 2, 3, 4] rfl)
                              · have hPc := hP.sub (ws' := (wS58 cI cJ cZ cB m0 m1 m2 m3 m4 m5 Mx0_4 Mx0_5 Mx0_6 Mx0_7 Mx0_8 Mx0_9 Mx0_10 Mx0_11 Mx0_12 Mx0_13 My1 My2 Mx3_0 Mx4_0 My5)) [1, 2, 3, 4, 5, 6] rfl
                                have hDc := hD.sub (ws' := (wS58 cI cJ cZ cB m0 m1 m2 m3 m4 m5 Mx0_4 Mx0_5 Mx0_6 Mx0_7 Mx0_8 Mx0_9 Mx0_10 Mx0_11 Mx0_12 Mx0_13 My1 My2 Mx3_0 Mx4_0 My5)) [1, 2, 3, 4, 5, 6] (by decide) rfl
                                have hFc := va_free (wc := (wS58 cI cJ cZ cB m0 m1 m2 m3 m4 m5 Mx0_4 Mx0_5 Mx0_6 Mx0_7 Mx0_8 Mx0_9 Mx0_10 Mx0_11 Mx0_12 Mx0_13 My1 My2 Mx3_0 Mx4_0 My5)) hD hS hA [1, 2, 3, 4, 5, 6] rfl
                                refine va_calli (va_runV (C := "SignMachine$Machine") (As := []) (rest := []) ⟨hx, hb, hml, hown, hk⟩ (c_M_execute_s11 l K D cI cJ cZ cB m0 m1 m2 m3 m4 m5 H.size Mx0_4 Mx0_5 Mx0_6 Mx0_7 Mx0_8 Mx0_9 Mx0_10 Mx0_11 Mx0_12 Mx0_13 My1 My2 Mx3_0 Mx4_0 My5  q138) (v_M_execute_s11 hk k_258 ⟨Nat.le_of_ble_eq_true rfl, Nat.le_of_ble_eq_true rfl⟩) (pMC_v hK hPc hDc hC hS hA (ci := 1) (q0 := 0) rfl rfl rfl) rfl rfl hl.1 rfl (lv_room (Nat.le_of_ble_eq_true rfl)) d_S_run_35 ⟨by decide, by decide⟩) hS (fun q _ h => hFc q h) hFc (fun rz168 u t H locs ht hvm hr0 hB hz1 hk1 hS => ?_)
                                obtain ⟨Mx0_4z168, Mx0_5z168, Mx0_6z168, Mx0_7z168, Mx0_9z168, Mx0_10z168, Mx0_11z168, Mx0_12z168, Mx0_13z168, My1z168, My2z168, Mx3_0z168, Mx4_0z168, hP1, hD1⟩ := hB
                                rw [ht] at hP1
                                obtain ⟨hP, hD⟩ := va_join (wr := (wS54 cI cJ cZ cB p0 m0)) (w1 := (wS58 cI cJ cZ cB m0 m1 m2 m3 m4 m5 Mx0_4z168 Mx0_5z168 Mx0_6z168 Mx0_7z168 Mx0_8 Mx0_9z168 Mx0_10z168 Mx0_11z168 Mx0_12z168 Mx0_13z168 My1z168 My2z168 Mx3_0z168 Mx4_0z168 My5)) hP hD [1, 2, 3, 4, 5, 6] [0] rfl rfl (by decide) (by decide) hk1 hFc hP1 hD1
                                have hP := hP.sub (ws' := ((wS54 cI cJ cZ cB p0 m0) ++ (wS58 cI cJ cZ cB m0 m1 m2 m3 m4 m5 Mx0_4z168 Mx0_5z168 Mx0_6z168 Mx0_7z168 Mx0_8 Mx0_9z168 Mx0_10z168 Mx0_11z168 Mx0_12z168 Mx0_13z168 My1z168 My2z168 Mx3_0z168 Mx4_0z168 My5))) [0, 1, 2, 3, 4, 5, 6] rfl
                                have hD := hD.sub (ws' := ((wS54 cI cJ cZ cB p0 m0) ++ (wS58 cI cJ cZ cB m0 m1 m2 m3 m4 m5 Mx0_4z168 Mx0_5z168 Mx0_6z168 Mx0_7z168 Mx0_8 Mx0_9z168 Mx0_10z168 Mx0_11z168 Mx0_12z168 Mx0_13z168 My1z168 My2z168 Mx3_0z168 Mx4_0z168 My5))) [0, 1, 2, 3, 4, 5, 6] (by decide) rfl
                                have hP : va_P D classes ((wS54 cI cJ cZ cB p0 m0) ++ (wS58 cI cJ cZ cB m0 m1 m2 m3 m4 m5 Mx0_4z168 Mx0_5z168 Mx0_6z168 Mx0_7z168 Mx0_8 Mx0_9z168 Mx0_10z168 Mx0_11z168 Mx0_12z168 Mx0_13z168 My1z168 My2z168 Mx3_0z168 Mx4_0z168 My5)) H := hP
                                have hD : va_D A ((wS54 cI cJ cZ cB p0 m0) ++ (wS58 cI cJ cZ cB m0 m1 m2 m3 m4 m5 Mx0_4z168 Mx0_5z168 Mx0_6z168 Mx0_7z168 Mx0_8 Mx0_9z168 Mx0_10z168 Mx0_11z168 Mx0_12z168 Mx0_13z168 My1z168 My2z168 Mx3_0z168 Mx4_0z168 My5)) := hD
                                clear hPc hDc hFc
                                refine lv_istore_n (lv' := [(3, .int rz168), (4, .int l4), (2, .int l2), (0, .ref p0), (1, .int a1)]) hx hb d_S_run_38 rfl hl (by decide) rfl (fun ls hl => ?_)
                                refine lv_iload_n hx hb d_S_run_39 rfl (lv_at hl 0 rfl) ?_
                                refine lv_iconst (v := 1) hx hb d_S_run_40 (by decide) ?_
                                refine lv_icmp_gt (tgt := 47) hx hb d_S_run_41 (by decide) (fun c169 => ?_) (fun c169 => ?_)
                                · obtain ⟨v170, hv170⟩ : ∃ y : Int32, y = (l4 + (1 : Int32)) := ⟨_, rfl⟩
                                  refine lv_iinc (v := v170) (lv' := [(4, .int v170), (3, .int rz168), (2, .int l2), (0, .ref p0), (1, .int a1)]) hx hb d_S_run_47 hl (k := 1) rfl (by rw [hv170]; rfl) (by decide) rfl (fun ls hl => ?_)
                                  refine lv_goto (tgt := 21) hx hb d_S_run_50 (by decide) ?_
                                  exact ih v170 l2 rz168 Mx0_4z168 Mx0_5z168 Mx0_6z168 Mx0_7z168 Mx0_8 Mx0_9z168 Mx0_10z168 Mx0_11z168 Mx0_12z168 Mx0_13z168 My1z168 My2z168 Mx3_0z168 Mx4_0z168 My5 H _ ls (lpu c136 hv170 hn21_x2) (lpn hc21_x2 c136 hv170) hP hD hS (lv_sub hl [0, 2, 1, 3, 4] rfl)
                                · obtain ⟨v171, hv171⟩ : ∃ y : Int32, y = (l2 + (1 : Int32)) := ⟨_, rfl⟩
                                  refine lv_iinc (v := v171) (lv' := [(2, .int v171), (3, .int rz168), (4, .int l4), (0, .ref p0), (1, .int a1)]) hx hb d_S_run_44 hl (k := 2) rfl (by rw [hv171]; rfl) (by decide) rfl (fun ls hl => ?_)
                                  obtain ⟨v172, hv172⟩ : ∃ y : Int32, y = (l4 + (1 : Int32)) := ⟨_, rfl⟩
                                  refine lv_iinc (v := v172) (lv' := [(4, .int v172), (2, .int v171), (3, .int rz168), (0, .ref p0), (1, .int a1)]) hx hb d_S_run_47 hl (k := 2) rfl (by rw [hv172]; rfl) (by decide) rfl (fun ls hl => ?_)
                                  refine lv_goto (tgt := 21) hx hb d_S_run_50 (by decide) ?_
                                  exact ih v172 v171 rz168 Mx0_4z168 Mx0_5z168 Mx0_6z168 Mx0_7z168 Mx0_8 Mx0_9z168 Mx0_10z168 Mx0_11z168 Mx0_12z168 Mx0_13z168 My1z168 My2z168 Mx3_0z168 Mx4_0z168 My5 H _ ls (lpu c136 hv172 hn21_x2) (lpn hc21_x2 c136 hv172) hP hD hS (lv_sub hl [0, 1, 2, 3, 4] rfl)
                      exact LP21_x2 _ v135 v134 rz90 Mx0_4 Mx0_5 Mx0_6z90 Mx0_7z90 Mx0_8 Mx0_9z90 Mx0_10z90 Mx0_11z90 Mx0_12z90 Mx0_13z90 My1 My2 Mx3_0 Mx4_0z90 My5z90 H _ ls (Nat.lt_succ_self _) (lpn hc21_x0 c3 hv135) hP hD hS hl
              · have hPc := hP.sub (ws' := (wS51 cI cJ cZ cB m0 m1 m2 m3 m4 Mx0_4 Mx0_5 Mx0_6 Mx0_7 Mx0_8 Mx0_9 Mx0_10 Mx0_11 Mx0_12 Mx0_13 My1 My2 Mx3_0 Mx4_0)) [1, 2, 3, 4, 5] rfl
                have hDc := hD.sub (ws' := (wS51 cI cJ cZ cB m0 m1 m2 m3 m4 Mx0_4 Mx0_5 Mx0_6 Mx0_7 Mx0_8 Mx0_9 Mx0_10 Mx0_11 Mx0_12 Mx0_13 My1 My2 Mx3_0 Mx4_0)) [1, 2, 3, 4, 5] (by decide) rfl
                have hFc := va_free (wc := (wS51 cI cJ cZ cB m0 m1 m2 m3 m4 Mx0_4 Mx0_5 Mx0_6 Mx0_7 Mx0_8 Mx0_9 Mx0_10 Mx0_11 Mx0_12 Mx0_13 My1 My2 Mx3_0 Mx4_0)) hD hS hA [1, 2, 3, 4, 5] rfl
                refine va_calli (va_runV (C := "SignMachine$Machine") (As := []) (rest := []) ⟨hx, hb, hml, hown, hk⟩ (c_M_execute_s3 l K D cI cJ cZ cB m0 m1 m2 m3 m4 H.size Mx0_4 Mx0_5 Mx0_6 Mx0_7 Mx0_8 Mx0_9 Mx0_10 Mx0_11 Mx0_12 Mx0_13 My1 My2 Mx3_0 Mx4_0  q5) (v_M_execute_s3 hk k_258 ⟨Nat.le_of_ble_eq_true rfl, Nat.le_of_ble_eq_true rfl⟩) (pMC_v hK hPc hDc hC hS hA (ci := 1) (q0 := 0) rfl rfl rfl) rfl rfl hl.1 rfl (lv_room (Nat.le_of_ble_eq_true rfl)) d_S_run_35 ⟨by decide, by decide⟩) hS (fun q _ h => hFc q h) hFc (fun rz173 u t H locs ht hvm hr0 hB hz1 hk1 hS => ?_)
                obtain ⟨Mx0_4z173, Mx0_5z173, Mx0_6z173, Mx0_7z173, Mx0_9z173, Mx0_10z173, Mx0_11z173, Mx0_12z173, Mx0_13z173, My1z173, My2z173, Mx3_0z173, Mx4_0z173, hP1, hD1⟩ := hB
                rw [ht] at hP1
                obtain ⟨hP, hD⟩ := va_join (wr := (wS54 cI cJ cZ cB p0 m0)) (w1 := (wS51 cI cJ cZ cB m0 m1 m2 m3 m4 Mx0_4z173 Mx0_5z173 Mx0_6z173 Mx0_7z173 Mx0_8 Mx0_9z173 Mx0_10z173 Mx0_11z173 Mx0_12z173 Mx0_13z173 My1z173 My2z173 Mx3_0z173 Mx4_0z173)) hP hD [1, 2, 3, 4, 5] [0] rfl rfl (by decide) (by decide) hk1 hFc hP1 hD1
                have hP := hP.sub (ws' := ((wS54 cI cJ cZ cB p0 m0) ++ (wS51 cI cJ cZ cB m0 m1 m2 m3 m4 Mx0_4z173 Mx0_5z173 Mx0_6z173 Mx0_7z173 Mx0_8 Mx0_9z173 Mx0_10z173 Mx0_11z173 Mx0_12z173 Mx0_13z173 My1z173 My2z173 Mx3_0z173 Mx4_0z173))) [0, 1, 2, 3, 4, 5] rfl
                have hD := hD.sub (ws' := ((wS54 cI cJ cZ cB p0 m0) ++ (wS51 cI cJ cZ cB m0 m1 m2 m3 m4 Mx0_4z173 Mx0_5z173 Mx0_6z173 Mx0_7z173 Mx0_8 Mx0_9z173 Mx0_10z173 Mx0_11z173 Mx0_12z173 Mx0_13z173 My1z173 My2z173 Mx3_0z173 Mx4_0z173))) [0, 1, 2, 3, 4, 5] (by decide) rfl
                have hP : va_P D classes ((wS54 cI cJ cZ cB p0 m0) ++ (wS51 cI cJ cZ cB m0 m1 m2 m3 m4 Mx0_4z173 Mx0_5z173 Mx0_6z173 Mx0_7z173 Mx0_8 Mx0_9z173 Mx0_10z173 Mx0_11z173 Mx0_12z173 Mx0_13z173 My1z173 My2z173 Mx3_0z173 Mx4_0z173)) H := hP
                have hD : va_D A ((wS54 cI cJ cZ cB p0 m0) ++ (wS51 cI cJ cZ cB m0 m1 m2 m3 m4 Mx0_4z173 Mx0_5z173 Mx0_6z173 Mx0_7z173 Mx0_8 Mx0_9z173 Mx0_10z173 Mx0_11z173 Mx0_12z173 Mx0_13z173 My1z173 My2z173 Mx3_0z173 Mx4_0z173)) := hD
                clear hPc hDc hFc
                refine lv_istore_n (lv' := [(3, .int rz173), (4, .int l4), (2, .int l2), (0, .ref p0), (1, .int a1)]) hx hb d_S_run_38 rfl hl (by decide) rfl (fun ls hl => ?_)
                refine lv_iload_n hx hb d_S_run_39 rfl (lv_at hl 0 rfl) ?_
                refine lv_iconst (v := 1) hx hb d_S_run_40 (by decide) ?_
                refine lv_icmp_gt (tgt := 47) hx hb d_S_run_41 (by decide) (fun c174 => ?_) (fun c174 => ?_)
                · obtain ⟨v175, hv175⟩ : ∃ y : Int32, y = (l4 + (1 : Int32)) := ⟨_, rfl⟩
                  refine lv_iinc (v := v175) (lv' := [(4, .int v175), (3, .int rz173), (2, .int l2), (0, .ref p0), (1, .int a1)]) hx hb d_S_run_47 hl (k := 1) rfl (by rw [hv175]; rfl) (by decide) rfl (fun ls hl => ?_)
                  refine lv_goto (tgt := 21) hx hb d_S_run_50 (by decide) ?_
                  exact ih v175 rz173 l2 Mx0_4z173 Mx0_5z173 Mx0_6z173 Mx0_7z173 Mx0_8 Mx0_9z173 Mx0_10z173 Mx0_11z173 Mx0_12z173 Mx0_13z173 My1z173 My2z173 Mx3_0z173 Mx4_0z173 H _ ls (lpu c3 hv175 hn21_x0) (lpn hc21_x0 c3 hv175) hP hD hS (lv_sub hl [0, 1, 2, 3, 4] rfl)
                · obtain ⟨v176, hv176⟩ : ∃ y : Int32, y = (l2 + (1 : Int32)) := ⟨_, rfl⟩
                  refine lv_iinc (v := v176) (lv' := [(2, .int v176), (3, .int rz173), (4, .int l4), (0, .ref p0), (1, .int a1)]) hx hb d_S_run_44 hl (k := 2) rfl (by rw [hv176]; rfl) (by decide) rfl (fun ls hl => ?_)
                  obtain ⟨v177, hv177⟩ : ∃ y : Int32, y = (l4 + (1 : Int32)) := ⟨_, rfl⟩
                  refine lv_iinc (v := v177) (lv' := [(4, .int v177), (2, .int v176), (3, .int rz173), (0, .ref p0), (1, .int a1)]) hx hb d_S_run_47 hl (k := 2) rfl (by rw [hv177]; rfl) (by decide) rfl (fun ls hl => ?_)
                  refine lv_goto (tgt := 21) hx hb d_S_run_50 (by decide) ?_
                  exact ih v177 rz173 v176 Mx0_4z173 Mx0_5z173 Mx0_6z173 Mx0_7z173 Mx0_8 Mx0_9z173 Mx0_10z173 Mx0_11z173 Mx0_12z173 Mx0_13z173 My1z173 My2z173 Mx3_0z173 Mx4_0z173 H _ ls (lpu c3 hv177 hn21_x0) (lpn hc21_x0 c3 hv177) hP hD hS (lv_sub hl [0, 2, 1, 3, 4] rfl)
      exact LP21_x0 _ (0 : Int32) (0 : Int32) (0 : Int32) Mx0_4 Mx0_5 Mx0_6 Mx0_7 Mx0_8 Mx0_9 Mx0_10 Mx0_11 Mx0_12 Mx0_13 My1 My2 Mx3_0 Mx4_0 s.heap _ ls (Nat.lt_succ_self _) (by decide) hP hD hS hl
    · refine lv_iconst (v := (-1)) hx hb d_S_run_12 (by decide) ?_
      refine W.widen (k := 2) (n := 8000) (by decide) (by decide) ?_
      exact W.iret (v := (-1 : Int32)) hx hb hr (fun t ht hW => ⟨⟨(-1 : Int32), (), rfl, trivial, ⟨_, isC_0, (by show va_P D classes _ t.heap; rw [ht]; exact hP), hD⟩⟩, hS.F ht⟩) hS.2.2 d_S_run_13
theorem v_S_run_b11 {R : Room} {s : State} {args : Array Value} {own : String} {index : Nat} (hk : ∀ w ∈ tb, w.before args s = true) (hl : Cond.methodLink own index y_S_run ∈ tb) (hR : 7 + 1 ≤ R.frames ∧ 8 + (5 + 11) + 151 ≤ R.locals) : CallW R s args own "SignMachine" index y_S_run b_S_run 5 (some .int) (.code y_S_run b_S_run 5 (some .int) :: tb) ({ frames := 7, cells := 2, slots := 8000, locals := 151 }) 2 8000 1 := mk_v 1 hk k_474 hl k_472 k_473 k_116 rfl rfl h_S_run hR

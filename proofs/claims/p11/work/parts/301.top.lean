set_option maxHeartbeats 4000000 in
set_option maxRecDepth 100000 in
theorem c_S_poke_b11 (l : Launch) (K : CK) (D : va_G) (cI cJ cZ cB : ClassId) (p0 m0 m1 m2 m3 m4 : Nat) (sz : Nat) (Mx0_4 : Bool) (Mx0_5 : Int32) (Mx0_6 : Int32) (Mx0_7 : Int32) (Mx0_8 : Int32) (Mx0_9 : Int32) (Mx0_10 : Int32) (Mx0_11 : Int32) (Mx0_12 : Int32) (Mx0_13 : Int32) (My1 : Nat → Int32) (My2 : Nat → Int32) (Mx3_0 : Int32) (Mx4_0 : Int32)  (a1 : Int32) (a2 : Int32) (a3 : Int32) : Met l y_S_poke (.code y_S_poke b_S_poke 4 (some .boolean) :: tb) ({ frames := 1, cells := 0, slots := 0, locals := 22 }) (pMC K D cI cJ cZ cB ((wS54 cI cJ cZ cB p0 m0) ++ (wS51 cI cJ cZ cB m0 m1 m2 m3 m4 Mx0_4 Mx0_5 Mx0_6 Mx0_7 Mx0_8 Mx0_9 Mx0_10 Mx0_11 Mx0_12 Mx0_13 My1 My2 Mx3_0 Mx4_0)) sz [.ref p0, .int a1, .int a2, .int a3]) (va_Qi (fun r (uL : Int32) => uL = (0 : Int32) ∧ r = (f_cpoke a1 a2 a3)) (fun uL t => ∃ W9 : va_W, isC K cI cJ cZ cB p0 uL W9 ∧ va_P D classes W9 t.heap ∧ va_D (va_A ((wS54 cI cJ cZ cB p0 m0) ++ (wS51 cI cJ cZ cB m0 m1 m2 m3 m4 Mx0_4 Mx0_5 Mx0_6 Mx0_7 Mx0_8 Mx0_9 Mx0_10 Mx0_11 Mx0_12 Mx0_13 My1 My2 Mx3_0 Mx4_0)) sz) W9) (va_A ((wS54 cI cJ cZ cB p0 m0) ++ (wS51 cI cJ cZ cB m0 m1 m2 m3 m4 Mx0_4 Mx0_5 Mx0_6 Mx0_7 Mx0_8 Mx0_9 Mx0_10 Mx0_11 Mx0_12 Mx0_13 My1 My2 Mx3_0 Mx4_0)) sz)) 0 0 (va_A ((wS54 cI cJ cZ cB p0 m0) ++ (wS51 cI cJ cZ cB m0 m1 m2 m3 m4 Mx0_4 Mx0_5 Mx0_6 Mx0_7 Mx0_8 Mx0_9 Mx0_10 Mx0_11 Mx0_12 Mx0_13 My1 My2 Mx3_0 Mx4_0)) sz) := by
  refine Met.ofW (cc := b_S_poke) (maxL := 4) (ret := (some .boolean)) (by decide) rfl ?_
  intro p e s m args below meth c s₁ B hml hv
  obtain ⟨rfl, hsz, hK, hP, hD0, hC⟩ := hv
  subst hsz
  have hD := hD0.self (sz := s.heap.size)
  generalize hAe : va_A ((wS54 cI cJ cZ cB p0 m0) ++ (wS51 cI cJ cZ cB m0 m1 m2 m3 m4 Mx0_4 Mx0_5 Mx0_6 Mx0_7 Mx0_8 Mx0_9 Mx0_10 Mx0_11 Mx0_12 Mx0_13 My1 My2 Mx3_0 Mx4_0)) s.heap.size = A at hD hC ⊢
  have hA : ∀ q : Nat, s.heap.size ≤ q → A q := fun q h => by rw [← hAe]; exact Or.inr h
  clear hAe hD0
  have hS : va_S A s.heap s.heap [] := va_S.rf
  have hx := B.exec
  have hb := B.bytes
  have hr := B.returns
  have hts := atoms_spec (ws := .code y_S_poke b_S_poke 4 (some .boolean) :: tb) B.pre
  have hk : ∀ w ∈ tb, w.before [.ref p0, .int a1, .int a2, .int a3].toArray s = true := fun w h => hts w (List.mem_cons_of_mem _ h)
  have hown : s.vm.findClass "SignMachine" = some m.cls := findClass_of_methodNamed B.named
  have hlocks := B.notSynchronized
  have hl := lv_entry ([.ref p0, .int a1, .int a2, .int a3]) (n := 4) (Nat.le_of_ble_eq_true rfl)
  rw [lg_entry_eq]
  generalize (lg_sl ([.ref p0, .int a1, .int a2, .int a3]) ++ List.replicate (4 - (lg_sl ([.ref p0, .int a1, .int a2, .int a3])).length) Slot.unset).toArray = ls at hl ⊢
  have hl : lv_has ls 4 [(0, .ref p0), (1, .int a1), (2, .int a2), (3, .int a3)] := hl
  refine lv_iload_n hx hb d_S_poke_0 rfl (lv_at hl 1 rfl) ?_
  refine cs_i (W.runS (As := [.int a1]) (rest := []) ⟨hx, hb, hml, hown, hk⟩ (c_M_isAddress l a1) (s_M_isAddress hk k_221 ⟨Nat.le_of_ble_eq_true rfl, Nat.le_of_ble_eq_true rfl⟩) ⟨fun a U g mk q => q, fun U hU hW => ⟨rfl, trivial⟩⟩ rfl rfl hl.1 rfl (lv_room (Nat.le_of_ble_eq_true rfl)) d_S_poke_1 ⟨Nat.le_of_ble_eq_true rfl, Nat.le_of_ble_eq_true rfl⟩) ?_
  obtain ⟨z1, hz1⟩ : ∃ y : Bool, y = (f_M_isAddress a1) := ⟨_, rfl⟩
  rw [← hz1]
  refine lv_if_eq (tgt := 15) hx hb d_S_poke_4 (by decide) (fun c2 => ?_) (fun c2 => ?_)
  · refine lv_iconst (v := 0) hx hb d_S_poke_15 (by decide) ?_
    exact W.zret (v := (0 : Int32)) hx hb hr rfl (fun t ht hW => ⟨⟨(0 : Int32), (0 : Int32), rfl, ⟨rfl, by unfold f_cpoke; simp only [← hz1, if_pos c2]⟩, ⟨_, isC_0, (by show va_P D classes _ t.heap; rw [ht]; exact hP), hD⟩⟩, hS.F ht⟩) hS.2.2 d_S_poke_16
  · refine lv_iload_n hx hb d_S_poke_7 rfl (lv_at hl 2 rfl) ?_
    refine lv_iload_n hx hb d_S_poke_8 rfl (lv_at hl 3 rfl) ?_
    refine cs_i (W.runS (As := [.int a2, .int a3]) (rest := []) ⟨hx, hb, hml, hown, hk⟩ (c_W_isWord l a2 a3) (s_W_isWord hk k_224 ⟨Nat.le_of_ble_eq_true rfl, Nat.le_of_ble_eq_true rfl⟩) ⟨fun a U g mk q => q, fun U hU hW => ⟨rfl, trivial⟩⟩ rfl rfl hl.1 rfl (lv_room (Nat.le_of_ble_eq_true rfl)) d_S_poke_9 ⟨Nat.le_of_ble_eq_true rfl, Nat.le_of_ble_eq_true rfl⟩) ?_
    obtain ⟨z3, hz3⟩ : ∃ y : Bool, y = (f_W_isWord a2 a3) := ⟨_, rfl⟩
    rw [← hz3]
    refine lv_if_ne (tgt := 17) hx hb d_S_poke_12 (by decide) (fun c4 => ?_) (fun c4 => ?_)
    · refine lv_aload_n hx hb d_S_poke_17 rfl (lv_at hl 0 rfl) ?_
      refine va_get (D := D) (ci := 0) (v := .ref m0) (C := "SignMachine") (T := F_S) (N := 2) hx hb hk fi_S hown hK.1 hP 0 rfl rfl 0 (by decide) (hk _ k_210) (fun _ h9 => h9) rfl d_S_poke_18 ?_
      refine lv_iload_n hx hb d_S_poke_21 rfl (lv_at hl 1 rfl) ?_
      refine lv_iload_n hx hb d_S_poke_22 rfl (lv_at hl 2 rfl) ?_
      refine lv_iload_n hx hb d_S_poke_23 rfl (lv_at hl 3 rfl) ?_
      refine cs_i (W.runS (As := [.int a2, .int a3]) (rest := [.int a1, .ref m0]) ⟨hx, hb, hml, hown, hk⟩ (c_W_make l a2 a3) (s_W_make hk k_228 ⟨Nat.le_of_ble_eq_true rfl, Nat.le_of_ble_eq_true rfl⟩) ⟨fun a U g mk q => q, fun U hU hW => ⟨rfl, trivial⟩⟩ rfl rfl hl.1 rfl (lv_room (Nat.le_of_ble_eq_true rfl)) d_S_poke_24 ⟨Nat.le_of_ble_eq_true rfl, Nat.le_of_ble_eq_true rfl⟩) ?_
      refine lv_topi (fun v5 hv5 => ?_)
      have hPc := hP.sub (ws' := (wS51 cI cJ cZ cB m0 m1 m2 m3 m4 Mx0_4 Mx0_5 Mx0_6 Mx0_7 Mx0_8 Mx0_9 Mx0_10 Mx0_11 Mx0_12 Mx0_13 My1 My2 Mx3_0 Mx4_0)) [1, 2, 3, 4, 5] rfl
      have hDc := hD.sub (ws' := (wS51 cI cJ cZ cB m0 m1 m2 m3 m4 Mx0_4 Mx0_5 Mx0_6 Mx0_7 Mx0_8 Mx0_9 Mx0_10 Mx0_11 Mx0_12 Mx0_13 My1 My2 Mx3_0 Mx4_0)) [1, 2, 3, 4, 5] (by decide) rfl
      have hFc := va_free (wc := (wS51 cI cJ cZ cB m0 m1 m2 m3 m4 Mx0_4 Mx0_5 Mx0_6 Mx0_7 Mx0_8 Mx0_9 Mx0_10 Mx0_11 Mx0_12 Mx0_13 My1 My2 Mx3_0 Mx4_0)) hD hS hA [1, 2, 3, 4, 5] rfl
      refine va_callv (va_runV (C := "SignMachine$Machine") (As := [.int a1, .int v5]) (rest := []) ⟨hx, hb, hml, hown, hk⟩ (c_M_putWord_s1 l K D cI cJ cZ cB m0 m1 m2 m3 m4 s.heap.size Mx0_4 Mx0_5 Mx0_6 Mx0_7 Mx0_8 Mx0_9 Mx0_10 Mx0_11 Mx0_12 Mx0_13 My1 My2 Mx3_0 Mx4_0 a1 v5 ) (v_M_putWord_s1 hk k_232 ⟨Nat.le_of_ble_eq_true rfl, Nat.le_of_ble_eq_true rfl⟩) (pMC_v hK hPc hDc hC hS hA (ci := 1) (q0 := 0) rfl rfl rfl) rfl rfl hl.1 rfl (lv_room (Nat.le_of_ble_eq_true rfl)) d_S_poke_27 ⟨by decide, by decide⟩) hS (fun q _ h => hFc q h) hFc (fun u t H locs ht hvm hr0 hB hzq hkq hS => ?_)
      obtain ⟨My1z6, hP1, hD1⟩ := hB
      rw [ht] at hP1
      obtain ⟨hP, hD⟩ := va_join (wr := (wS54 cI cJ cZ cB p0 m0)) (w1 := (wS51 cI cJ cZ cB m0 m1 m2 m3 m4 Mx0_4 Mx0_5 Mx0_6 Mx0_7 Mx0_8 Mx0_9 Mx0_10 Mx0_11 Mx0_12 Mx0_13 My1z6 My2 Mx3_0 Mx4_0)) hP hD [1, 2, 3, 4, 5] [0] rfl rfl (by decide) (by decide) hkq hFc hP1 hD1
      have hP := hP.sub (ws' := ((wS54 cI cJ cZ cB p0 m0) ++ (wS51 cI cJ cZ cB m0 m1 m2 m3 m4 Mx0_4 Mx0_5 Mx0_6 Mx0_7 Mx0_8 Mx0_9 Mx0_10 Mx0_11 Mx0_12 Mx0_13 My1z6 My2 Mx3_0 Mx4_0))) [0, 1, 2, 3, 4, 5] rfl
      have hD := hD.sub (ws' := ((wS54 cI cJ cZ cB p0 m0) ++ (wS51 cI cJ cZ cB m0 m1 m2 m3 m4 Mx0_4 Mx0_5 Mx0_6 Mx0_7 Mx0_8 Mx0_9 Mx0_10 Mx0_11 Mx0_12 Mx0_13 My1z6 My2 Mx3_0 Mx4_0))) [0, 1, 2, 3, 4, 5] (by decide) rfl
      have hP : va_P D classes ((wS54 cI cJ cZ cB p0 m0) ++ (wS51 cI cJ cZ cB m0 m1 m2 m3 m4 Mx0_4 Mx0_5 Mx0_6 Mx0_7 Mx0_8 Mx0_9 Mx0_10 Mx0_11 Mx0_12 Mx0_13 My1z6 My2 Mx3_0 Mx4_0)) H := hP
      have hD : va_D A ((wS54 cI cJ cZ cB p0 m0) ++ (wS51 cI cJ cZ cB m0 m1 m2 m3 m4 Mx0_4 Mx0_5 Mx0_6 Mx0_7 Mx0_8 Mx0_9 Mx0_10 Mx0_11 Mx0_12 Mx0_13 My1z6 My2 Mx3_0 Mx4_0)) := hD
      clear hPc hDc hFc
      refine lv_iconst (v := 1) hx hb d_S_poke_30 (by decide) ?_
      exact W.zret (v := (1 : Int32)) hx hb hr rfl (fun t ht hW => ⟨⟨(1 : Int32), (0 : Int32), rfl, ⟨rfl, by unfold f_cpoke; simp only [← hz1, ← hz3, if_neg c2, if_neg c4]⟩, ⟨_, isC_0, (by show va_P D classes _ t.heap; rw [ht]; exact hP), hD⟩⟩, hS.F ht⟩) hS.2.2 d_S_poke_31
    · refine lv_iconst (v := 0) hx hb d_S_poke_15 (by decide) ?_
      exact W.zret (v := (0 : Int32)) hx hb hr rfl (fun t ht hW => ⟨⟨(0 : Int32), (0 : Int32), rfl, ⟨rfl, by unfold f_cpoke; simp only [← hz1, ← hz3, if_neg c2, if_pos c4]⟩, ⟨_, isC_0, (by show va_P D classes _ t.heap; rw [ht]; exact hP), hD⟩⟩, hS.F ht⟩) hS.2.2 d_S_poke_16
theorem v_S_poke_b11 {R : Room} {s : State} {args : Array Value} {own : String} {index : Nat} (hk : ∀ w ∈ tb, w.before args s = true) (hl : Cond.methodLink own index y_S_poke ∈ tb) (hR : 1 + 1 ≤ R.frames ∧ 8 + (4 + 11) + 22 ≤ R.locals) : CallW R s args own "SignMachine" index y_S_poke b_S_poke 4 (some .boolean) (.code y_S_poke b_S_poke 4 (some .boolean) :: tb) ({ frames := 1, cells := 0, slots := 0, locals := 22 }) 0 0 3 := mk_v 3 hk k_220 hl k_218 k_219 k_116 rfl rfl h_S_poke hR
set_option maxHeartbeats 4000000 in
set_option maxRecDepth 100000 in
theorem c_S_peekSign_b11 (l : Launch) (K : CK) (D : va_G) (cI cJ cZ cB : ClassId) (p0 m0 m1 m2 m3 m4 : Nat) (sz : Nat) (Mx0_4 : Bool) (Mx0_5 : Int32) (Mx0_6 : Int32) (Mx0_7 : Int32) (Mx0_8 : Int32) (Mx0_9 : Int32) (Mx0_10 : Int32) (Mx0_11 : Int32) (Mx0_12 : Int32) (Mx0_13 : Int32) (My1 : Nat → Int32) (My2 : Nat → Int32) (Mx3_0 : Int32) (Mx4_0 : Int32)  (a1 : Int32) : Met l y_S_peekSign (.code y_S_peekSign b_S_peekSign 2 (some .int) :: tb) ({ frames := 1, cells := 0, slots := 0, locals := 21 }) (pMC K D cI cJ cZ cB ((wS54 cI cJ cZ cB p0 m0) ++ (wS51 cI cJ cZ cB m0 m1 m2 m3 m4 Mx0_4 Mx0_5 Mx0_6 Mx0_7 Mx0_8 Mx0_9 Mx0_10 Mx0_11 Mx0_12 Mx0_13 My1 My2 Mx3_0 Mx4_0)) sz [.ref p0, .int a1]) (va_Qi (fun r (uL : Int32) => uL = (0 : Int32)) (fun uL t => ∃ W9 : va_W, isC K cI cJ cZ cB p0 uL W9 ∧ va_P D classes W9 t.heap ∧ va_D (va_A ((wS54 cI cJ cZ cB p0 m0) ++ (wS51 cI cJ cZ cB m0 m1 m2 m3 m4 Mx0_4 Mx0_5 Mx0_6 Mx0_7 Mx0_8 Mx0_9 Mx0_10 Mx0_11 Mx0_12 Mx0_13 My1 My2 Mx3_0 Mx4_0)) sz) W9) (va_A ((wS54 cI cJ cZ cB p0 m0) ++ (wS51 cI cJ cZ cB m0 m1 m2 m3 m4 Mx0_4 Mx0_5 Mx0_6 Mx0_7 Mx0_8 Mx0_9 Mx0_10 Mx0_11 Mx0_12 Mx0_13 My1 My2 Mx3_0 Mx4_0)) sz)) 0 0 (va_A ((wS54 cI cJ cZ cB p0 m0) ++ (wS51 cI cJ cZ cB m0 m1 m2 m3 m4 Mx0_4 Mx0_5 Mx0_6 Mx0_7 Mx0_8 Mx0_9 Mx0_10 Mx0_11 Mx0_12 Mx0_13 My1 My2 Mx3_0 Mx4_0)) sz) := by
  refine Met.ofW (cc := b_S_peekSign) (maxL := 2) (ret := (some .int)) (by decide) rfl ?_
  intro p e s m args below meth c s₁ B hml hv
  obtain ⟨rfl, hsz, hK, hP, hD0, hC⟩ := hv
  subst hsz
  have hD := hD0.self (sz := s.heap.size)
  generalize hAe : va_A ((wS54 cI cJ cZ cB p0 m0) ++ (wS51 cI cJ cZ cB m0 m1 m2 m3 m4 Mx0_4 Mx0_5 Mx0_6 Mx0_7 Mx0_8 Mx0_9 Mx0_10 Mx0_11 Mx0_12 Mx0_13 My1 My2 Mx3_0 Mx4_0)) s.heap.size = A at hD hC ⊢
  have hA : ∀ q : Nat, s.heap.size ≤ q → A q := fun q h => by rw [← hAe]; exact Or.inr h
  clear hAe hD0
  have hS : va_S A s.heap s.heap [] := va_S.rf
  have hx := B.exec
  have hb := B.bytes
  have hr := B.returns
  have hts := atoms_spec (ws := .code y_S_peekSign b_S_peekSign 2 (some .int) :: tb) B.pre
  have hk : ∀ w ∈ tb, w.before [.ref p0, .int a1].toArray s = true := fun w h => hts w (List.mem_cons_of_mem _ h)
  have hown : s.vm.findClass "SignMachine" = some m.cls := findClass_of_methodNamed B.named
  have hlocks := B.notSynchronized
  have hl := lv_entry ([.ref p0, .int a1]) (n := 2) (Nat.le_of_ble_eq_true rfl)
  rw [lg_entry_eq]
  generalize (lg_sl ([.ref p0, .int a1]) ++ List.replicate (2 - (lg_sl ([.ref p0, .int a1])).length) Slot.unset).toArray = ls at hl ⊢
  have hl : lv_has ls 2 [(0, .ref p0), (1, .int a1)] := hl
  refine lv_iload_n hx hb d_S_peekSign_0 rfl (lv_at hl 1 rfl) ?_
  refine cs_i (W.runS (As := [.int a1]) (rest := []) ⟨hx, hb, hml, hown, hk⟩ (c_M_isAddress l a1) (s_M_isAddress hk k_221 ⟨Nat.le_of_ble_eq_true rfl, Nat.le_of_ble_eq_true rfl⟩) ⟨fun a U g mk q => q, fun U hU hW => ⟨rfl, trivial⟩⟩ rfl rfl hl.1 rfl (lv_room (Nat.le_of_ble_eq_true rfl)) d_S_peekSign_1 ⟨Nat.le_of_ble_eq_true rfl, Nat.le_of_ble_eq_true rfl⟩) ?_
  obtain ⟨z1, hz1⟩ : ∃ y : Bool, y = (f_M_isAddress a1) := ⟨_, rfl⟩
  rw [← hz1]
  refine lv_if_eq (tgt := 21) hx hb d_S_peekSign_4 (by decide) (fun c2 => ?_) (fun c2 => ?_)
  · refine lv_iconst (v := (-1)) hx hb d_S_peekSign_21 (by decide) ?_
    exact W.iret (v := (-1 : Int32)) hx hb hr (fun t ht hW => ⟨⟨(-1 : Int32), (0 : Int32), rfl, rfl, ⟨_, isC_0, (by show va_P D classes _ t.heap; rw [ht]; exact hP), hD⟩⟩, hS.F ht⟩) hS.2.2 d_S_peekSign_22
  · refine lv_aload_n hx hb d_S_peekSign_7 rfl (lv_at hl 0 rfl) ?_
    refine va_get (D := D) (ci := 0) (v := .ref m0) (C := "SignMachine") (T := F_S) (N := 2) hx hb hk fi_S hown hK.1 hP 0 rfl rfl 0 (by decide) (hk _ k_210) (fun _ h9 => h9) rfl d_S_peekSign_8 ?_
    refine lv_iload_n hx hb d_S_peekSign_11 rfl (lv_at hl 1 rfl) ?_
    have hPc := hP.sub (ws' := (wS51 cI cJ cZ cB m0 m1 m2 m3 m4 Mx0_4 Mx0_5 Mx0_6 Mx0_7 Mx0_8 Mx0_9 Mx0_10 Mx0_11 Mx0_12 Mx0_13 My1 My2 Mx3_0 Mx4_0)) [1, 2, 3, 4, 5] rfl
    have hDc := hD.sub (ws' := (wS51 cI cJ cZ cB m0 m1 m2 m3 m4 Mx0_4 Mx0_5 Mx0_6 Mx0_7 Mx0_8 Mx0_9 Mx0_10 Mx0_11 Mx0_12 Mx0_13 My1 My2 Mx3_0 Mx4_0)) [1, 2, 3, 4, 5] (by decide) rfl
    have hFc := va_free (wc := (wS51 cI cJ cZ cB m0 m1 m2 m3 m4 Mx0_4 Mx0_5 Mx0_6 Mx0_7 Mx0_8 Mx0_9 Mx0_10 Mx0_11 Mx0_12 Mx0_13 My1 My2 Mx3_0 Mx4_0)) hD hS hA [1, 2, 3, 4, 5] rfl
    refine va_calli (va_runV (C := "SignMachine$Machine") (As := [.int a1]) (rest := []) ⟨hx, hb, hml, hown, hk⟩ (c_M_wordAt_s1 l K D cI cJ cZ cB m0 m1 m2 m3 m4 s.heap.size Mx0_4 Mx0_5 Mx0_6 Mx0_7 Mx0_8 Mx0_9 Mx0_10 Mx0_11 Mx0_12 Mx0_13 My1 My2 Mx3_0 Mx4_0 a1 ) (v_M_wordAt_s1 hk k_240 ⟨Nat.le_of_ble_eq_true rfl, Nat.le_of_ble_eq_true rfl⟩) (pMC_v hK hPc hDc hC hS hA (ci := 1) (q0 := 0) rfl rfl rfl) rfl rfl hl.1 rfl (lv_room (Nat.le_of_ble_eq_true rfl)) d_S_peekSign_12 ⟨by decide, by decide⟩) hS (fun q _ h => hFc q h) hFc (fun rz3 u t H locs ht hvm hr0 hB hzq hkq hS => ?_)
    obtain ⟨hP1, hD1⟩ := hB
    rw [ht] at hP1
    obtain ⟨hP, hD⟩ := va_join (wr := (wS54 cI cJ cZ cB p0 m0)) (w1 := (wS51 cI cJ cZ cB m0 m1 m2 m3 m4 Mx0_4 Mx0_5 Mx0_6 Mx0_7 Mx0_8 Mx0_9 Mx0_10 Mx0_11 Mx0_12 Mx0_13 My1 My2 Mx3_0 Mx4_0)) hP hD [1, 2, 3, 4, 5] [0] rfl rfl (by decide) (by decide) hkq hFc hP1 hD1
    have hP := hP.sub (ws' := ((wS54 cI cJ cZ cB p0 m0) ++ (wS51 cI cJ cZ cB m0 m1 m2 m3 m4 Mx0_4 Mx0_5 Mx0_6 Mx0_7 Mx0_8 Mx0_9 Mx0_10 Mx0_11 Mx0_12 Mx0_13 My1 My2 Mx3_0 Mx4_0))) [0, 1, 2, 3, 4, 5] rfl
    have hD := hD.sub (ws' := ((wS54 cI cJ cZ cB p0 m0) ++ (wS51 cI cJ cZ cB m0 m1 m2 m3 m4 Mx0_4 Mx0_5 Mx0_6 Mx0_7 Mx0_8 Mx0_9 Mx0_10 Mx0_11 Mx0_12 Mx0_13 My1 My2 Mx3_0 Mx4_0))) [0, 1, 2, 3, 4, 5] (by decide) rfl
    have hP : va_P D classes ((wS54 cI cJ cZ cB p0 m0) ++ (wS51 cI cJ cZ cB m0 m1 m2 m3 m4 Mx0_4 Mx0_5 Mx0_6 Mx0_7 Mx0_8 Mx0_9 Mx0_10 Mx0_11 Mx0_12 Mx0_13 My1 My2 Mx3_0 Mx4_0)) H := hP
    have hD : va_D A ((wS54 cI cJ cZ cB p0 m0) ++ (wS51 cI cJ cZ cB m0 m1 m2 m3 m4 Mx0_4 Mx0_5 Mx0_6 Mx0_7 Mx0_8 Mx0_9 Mx0_10 Mx0_11 Mx0_12 Mx0_13 My1 My2 Mx3_0 Mx4_0)) := hD
    clear hPc hDc hFc
    refine cs_i (W.runS (As := [.int rz3]) (rest := []) ⟨hx, hb, hml, hown, hk⟩ (c_W_sign l rz3) (s_W_sign hk k_244 ⟨Nat.le_of_ble_eq_true rfl, Nat.le_of_ble_eq_true rfl⟩) ⟨fun a U g mk q => q, fun U hU hW => ⟨rfl, trivial⟩⟩ rfl rfl hl.1 rfl (lv_room (Nat.le_of_ble_eq_true rfl)) d_S_peekSign_15 ⟨Nat.le_of_ble_eq_true rfl, Nat.le_of_ble_eq_true rfl⟩) ?_
    refine lv_topi (fun v4 hv4 => ?_)
    refine lv_goto (tgt := 22) hx hb d_S_peekSign_18 (by decide) ?_
    exact W.iret (v := v4) hx hb hr (fun t ht hW => ⟨⟨v4, (0 : Int32), rfl, rfl, ⟨_, isC_0, (by show va_P D classes _ t.heap; rw [ht]; exact hP), hD⟩⟩, hS.F ht⟩) hS.2.2 d_S_peekSign_22
theorem v_S_peekSign_b11 {R : Room} {s : State} {args : Array Value} {own : String} {index : Nat} (hk : ∀ w ∈ tb, w.before args s = true) (hl : Cond.methodLink own index y_S_peekSign ∈ tb) (hR : 1 + 1 ≤ R.frames ∧ 8 + (2 + 11) + 21 ≤ R.locals) : CallW R s args own "SignMachine" index y_S_peekSign b_S_peekSign 2 (some .int) (.code y_S_peekSign b_S_peekSign 2 (some .int) :: tb) ({ frames := 1, cells := 0, slots := 0, locals := 21 }) 0 0 1 := mk_v 1 hk k_239 hl k_237 k_238 k_116 rfl rfl h_S_peekSign hR
set_option maxHeartbeats 4000000 in
set_option maxRecDepth 100000 in
theorem c_S_peekSize_b11 (l : Launch) (K : CK) (D : va_G) (cI cJ cZ cB : ClassId) (p0 m0 m1 m2 m3 m4 : Nat) (sz : Nat) (Mx0_4 : Bool) (Mx0_5 : Int32) (Mx0_6 : Int32) (Mx0_7 : Int32) (Mx0_8 : Int32) (Mx0_9 : Int32) (Mx0_10 : Int32) (Mx0_11 : Int32) (Mx0_12 : Int32) (Mx0_13 : Int32) (My1 : Nat → Int32) (My2 : Nat → Int32) (Mx3_0 : Int32) (Mx4_0 : Int32)  (a1 : Int32) : Met l y_S_peekSize (.code y_S_peekSize b_S_peekSize 2 (some .int) :: tb) ({ frames := 1, cells := 0, slots := 0, locals := 21 }) (pMC K D cI cJ cZ cB ((wS54 cI cJ cZ cB p0 m0) ++ (wS51 cI cJ cZ cB m0 m1 m2 m3 m4 Mx0_4 Mx0_5 Mx0_6 Mx0_7 Mx0_8 Mx0_9 Mx0_10 Mx0_11 Mx0_12 Mx0_13 My1 My2 Mx3_0 Mx4_0)) sz [.ref p0, .int a1]) (va_Qi (fun r (uL : Int32) => uL = (0 : Int32)) (fun uL t => ∃ W9 : va_W, isC K cI cJ cZ cB p0 uL W9 ∧ va_P D classes W9 t.heap ∧ va_D (va_A ((wS54 cI cJ cZ cB p0 m0) ++ (wS51 cI cJ cZ cB m0 m1 m2 m3 m4 Mx0_4 Mx0_5 Mx0_6 Mx0_7 Mx0_8 Mx0_9 Mx0_10 Mx0_11 Mx0_12 Mx0_13 My1 My2 Mx3_0 Mx4_0)) sz) W9) (va_A ((wS54 cI cJ cZ cB p0 m0) ++ (wS51 cI cJ cZ cB m0 m1 m2 m3 m4 Mx0_4 Mx0_5 Mx0_6 Mx0_7 Mx0_8 Mx0_9 Mx0_10 Mx0_11 Mx0_12 Mx0_13 My1 My2 Mx3_0 Mx4_0)) sz)) 0 0 (va_A ((wS54 cI cJ cZ cB p0 m0) ++ (wS51 cI cJ cZ cB m0 m1 m2 m3 m4 Mx0_4 Mx0_5 Mx0_6 Mx0_7 Mx0_8 Mx0_9 Mx0_10 Mx0_11 Mx0_12 Mx0_13 My1 My2 Mx3_0 Mx4_0)) sz) := by
  refine Met.ofW (cc := b_S_peekSize) (maxL := 2) (ret := (some .int)) (by decide) rfl ?_
  intro p e s m args below meth c s₁ B hml hv
  obtain ⟨rfl, hsz, hK, hP, hD0, hC⟩ := hv
  subst hsz
  have hD := hD0.self (sz := s.heap.size)
  generalize hAe : va_A ((wS54 cI cJ cZ cB p0 m0) ++ (wS51 cI cJ cZ cB m0 m1 m2 m3 m4 Mx0_4 Mx0_5 Mx0_6 Mx0_7 Mx0_8 Mx0_9 Mx0_10 Mx0_11 Mx0_12 Mx0_13 My1 My2 Mx3_0 Mx4_0)) s.heap.size = A at hD hC ⊢
  have hA : ∀ q : Nat, s.heap.size ≤ q → A q := fun q h => by rw [← hAe]; exact Or.inr h
  clear hAe hD0
  have hS : va_S A s.heap s.heap [] := va_S.rf
  have hx := B.exec
  have hb := B.bytes
  have hr := B.returns
  have hts := atoms_spec (ws := .code y_S_peekSize b_S_peekSize 2 (some .int) :: tb) B.pre
  have hk : ∀ w ∈ tb, w.before [.ref p0, .int a1].toArray s = true := fun w h => hts w (List.mem_cons_of_mem _ h)
  have hown : s.vm.findClass "SignMachine" = some m.cls := findClass_of_methodNamed B.named
  have hlocks := B.notSynchronized
  have hl := lv_entry ([.ref p0, .int a1]) (n := 2) (Nat.le_of_ble_eq_true rfl)
  rw [lg_entry_eq]
  generalize (lg_sl ([.ref p0, .int a1]) ++ List.replicate (2 - (lg_sl ([.ref p0, .int a1])).length) Slot.unset).toArray = ls at hl ⊢
  have hl : lv_has ls 2 [(0, .ref p0), (1, .int a1)] := hl
  refine lv_iload_n hx hb d_S_peekSize_0 rfl (lv_at hl 1 rfl) ?_
  refine cs_i (W.runS (As := [.int a1]) (rest := []) ⟨hx, hb, hml, hown, hk⟩ (c_M_isAddress l a1) (s_M_isAddress hk k_221 ⟨Nat.le_of_ble_eq_true rfl, Nat.le_of_ble_eq_true rfl⟩) ⟨fun a U g mk q => q, fun U hU hW => ⟨rfl, trivial⟩⟩ rfl rfl hl.1 rfl (lv_room (Nat.le_of_ble_eq_true rfl)) d_S_peekSize_1 ⟨Nat.le_of_ble_eq_true rfl, Nat.le_of_ble_eq_true rfl⟩) ?_
  obtain ⟨z1, hz1⟩ : ∃ y : Bool, y = (f_M_isAddress a1) := ⟨_, rfl⟩
  rw [← hz1]
  refine lv_if_eq (tgt := 21) hx hb d_S_peekSize_4 (by decide) (fun c2 => ?_) (fun c2 => ?_)
  · refine lv_iconst (v := (-1)) hx hb d_S_peekSize_21 (by decide) ?_
    exact W.iret (v := (-1 : Int32)) hx hb hr (fun t ht hW => ⟨⟨(-1 : Int32), (0 : Int32), rfl, rfl, ⟨_, isC_0, (by show va_P D classes _ t.heap; rw [ht]; exact hP), hD⟩⟩, hS.F ht⟩) hS.2.2 d_S_peekSize_22
  · refine lv_aload_n hx hb d_S_peekSize_7 rfl (lv_at hl 0 rfl) ?_
    refine va_get (D := D) (ci := 0) (v := .ref m0) (C := "SignMachine") (T := F_S) (N := 2) hx hb hk fi_S hown hK.1 hP 0 rfl rfl 0 (by decide) (hk _ k_210) (fun _ h9 => h9) rfl d_S_peekSize_8 ?_
    refine lv_iload_n hx hb d_S_peekSize_11 rfl (lv_at hl 1 rfl) ?_
    have hPc := hP.sub (ws' := (wS51 cI cJ cZ cB m0 m1 m2 m3 m4 Mx0_4 Mx0_5 Mx0_6 Mx0_7 Mx0_8 Mx0_9 Mx0_10 Mx0_11 Mx0_12 Mx0_13 My1 My2 Mx3_0 Mx4_0)) [1, 2, 3, 4, 5] rfl
    have hDc := hD.sub (ws' := (wS51 cI cJ cZ cB m0 m1 m2 m3 m4 Mx0_4 Mx0_5 Mx0_6 Mx0_7 Mx0_8 Mx0_9 Mx0_10 Mx0_11 Mx0_12 Mx0_13 My1 My2 Mx3_0 Mx4_0)) [1, 2, 3, 4, 5] (by decide) rfl
    have hFc := va_free (wc := (wS51 cI cJ cZ cB m0 m1 m2 m3 m4 Mx0_4 Mx0_5 Mx0_6 Mx0_7 Mx0_8 Mx0_9 Mx0_10 Mx0_11 Mx0_12 Mx0_13 My1 My2 Mx3_0 Mx4_0)) hD hS hA [1, 2, 3, 4, 5] rfl
    refine va_calli (va_runV (C := "SignMachine$Machine") (As := [.int a1]) (rest := []) ⟨hx, hb, hml, hown, hk⟩ (c_M_wordAt_s1 l K D cI cJ cZ cB m0 m1 m2 m3 m4 s.heap.size Mx0_4 Mx0_5 Mx0_6 Mx0_7 Mx0_8 Mx0_9 Mx0_10 Mx0_11 Mx0_12 Mx0_13 My1 My2 Mx3_0 Mx4_0 a1 ) (v_M_wordAt_s1 hk k_240 ⟨Nat.le_of_ble_eq_true rfl, Nat.le_of_ble_eq_true rfl⟩) (pMC_v hK hPc hDc hC hS hA (ci := 1) (q0 := 0) rfl rfl rfl) rfl rfl hl.1 rfl (lv_room (Nat.le_of_ble_eq_true rfl)) d_S_peekSize_12 ⟨by decide, by decide⟩) hS (fun q _ h => hFc q h) hFc (fun rz3 u t H locs ht hvm hr0 hB hzq hkq hS => ?_)
    obtain ⟨hP1, hD1⟩ := hB
    rw [ht] at hP1
    obtain ⟨hP, hD⟩ := va_join (wr := (wS54 cI cJ cZ cB p0 m0)) (w1 := (wS51 cI cJ cZ cB m0 m1 m2 m3 m4 Mx0_4 Mx0_5 Mx0_6 Mx0_7 Mx0_8 Mx0_9 Mx0_10 Mx0_11 Mx0_12 Mx0_13 My1 My2 Mx3_0 Mx4_0)) hP hD [1, 2, 3, 4, 5] [0] rfl rfl (by decide) (by decide) hkq hFc hP1 hD1
    have hP := hP.sub (ws' := ((wS54 cI cJ cZ cB p0 m0) ++ (wS51 cI cJ cZ cB m0 m1 m2 m3 m4 Mx0_4 Mx0_5 Mx0_6 Mx0_7 Mx0_8 Mx0_9 Mx0_10 Mx0_11 Mx0_12 Mx0_13 My1 My2 Mx3_0 Mx4_0))) [0, 1, 2, 3, 4, 5] rfl
    have hD := hD.sub (ws' := ((wS54 cI cJ cZ cB p0 m0) ++ (wS51 cI cJ cZ cB m0 m1 m2 m3 m4 Mx0_4 Mx0_5 Mx0_6 Mx0_7 Mx0_8 Mx0_9 Mx0_10 Mx0_11 Mx0_12 Mx0_13 My1 My2 Mx3_0 Mx4_0))) [0, 1, 2, 3, 4, 5] (by decide) rfl
    have hP : va_P D classes ((wS54 cI cJ cZ cB p0 m0) ++ (wS51 cI cJ cZ cB m0 m1 m2 m3 m4 Mx0_4 Mx0_5 Mx0_6 Mx0_7 Mx0_8 Mx0_9 Mx0_10 Mx0_11 Mx0_12 Mx0_13 My1 My2 Mx3_0 Mx4_0)) H := hP
    have hD : va_D A ((wS54 cI cJ cZ cB p0 m0) ++ (wS51 cI cJ cZ cB m0 m1 m2 m3 m4 Mx0_4 Mx0_5 Mx0_6 Mx0_7 Mx0_8 Mx0_9 Mx0_10 Mx0_11 Mx0_12 Mx0_13 My1 My2 Mx3_0 Mx4_0)) := hD
    clear hPc hDc hFc
    refine cs_i (W.runS (As := [.int rz3]) (rest := []) ⟨hx, hb, hml, hown, hk⟩ (c_W_size l rz3) (s_W_size hk k_251 ⟨Nat.le_of_ble_eq_true rfl, Nat.le_of_ble_eq_true rfl⟩) ⟨fun a U g mk q => q, fun U hU hW => ⟨rfl, trivial⟩⟩ rfl rfl hl.1 rfl (lv_room (Nat.le_of_ble_eq_true rfl)) d_S_peekSize_15 ⟨Nat.le_of_ble_eq_true rfl, Nat.le_of_ble_eq_true rfl⟩) ?_
    refine lv_topi (fun v4 hv4 => ?_)
    refine lv_goto (tgt := 22) hx hb d_S_peekSize_18 (by decide) ?_
    exact W.iret (v := v4) hx hb hr (fun t ht hW => ⟨⟨v4, (0 : Int32), rfl, rfl, ⟨_, isC_0, (by show va_P D classes _ t.heap; rw [ht]; exact hP), hD⟩⟩, hS.F ht⟩) hS.2.2 d_S_peekSize_22
theorem v_S_peekSize_b11 {R : Room} {s : State} {args : Array Value} {own : String} {index : Nat} (hk : ∀ w ∈ tb, w.before args s = true) (hl : Cond.methodLink own index y_S_peekSize ∈ tb) (hR : 1 + 1 ≤ R.frames ∧ 8 + (2 + 11) + 21 ≤ R.locals) : CallW R s args own "SignMachine" index y_S_peekSize b_S_peekSize 2 (some .int) (.code y_S_peekSize b_S_peekSize 2 (some .int) :: tb) ({ frames := 1, cells := 0, slots := 0, locals := 21 }) 0 0 1 := mk_v 1 hk k_250 hl k_248 k_249 k_116 rfl rfl h_S_peekSize hR
set_option maxHeartbeats 4000000 in
set_option maxRecDepth 100000 in
theorem c_S_registerSign_b11 (l : Launch) (K : CK) (D : va_G) (cI cJ cZ cB : ClassId) (p0 m0 m1 m2 m3 m4 : Nat) (sz : Nat) (Mx0_4 : Bool) (Mx0_5 : Int32) (Mx0_6 : Int32) (Mx0_7 : Int32) (Mx0_8 : Int32) (Mx0_9 : Int32) (Mx0_10 : Int32) (Mx0_11 : Int32) (Mx0_12 : Int32) (Mx0_13 : Int32) (My1 : Nat → Int32) (My2 : Nat → Int32) (Mx3_0 : Int32) (Mx4_0 : Int32)  (a1 : Int32) : Met l y_S_registerSign (.code y_S_registerSign b_S_registerSign 2 (some .int) :: tb) ({ frames := 1, cells := 0, slots := 0, locals := 21 }) (pMC K D cI cJ cZ cB ((wS54 cI cJ cZ cB p0 m0) ++ (wS51 cI cJ cZ cB m0 m1 m2 m3 m4 Mx0_4 Mx0_5 Mx0_6 Mx0_7 Mx0_8 Mx0_9 Mx0_10 Mx0_11 Mx0_12 Mx0_13 My1 My2 Mx3_0 Mx4_0)) sz [.ref p0, .int a1]) (va_Qi (fun r (uL : Int32) => uL = (0 : Int32)) (fun uL t => ∃ W9 : va_W, isC K cI cJ cZ cB p0 uL W9 ∧ va_P D classes W9 t.heap ∧ va_D (va_A ((wS54 cI cJ cZ cB p0 m0) ++ (wS51 cI cJ cZ cB m0 m1 m2 m3 m4 Mx0_4 Mx0_5 Mx0_6 Mx0_7 Mx0_8 Mx0_9 Mx0_10 Mx0_11 Mx0_12 Mx0_13 My1 My2 Mx3_0 Mx4_0)) sz) W9) (va_A ((wS54 cI cJ cZ cB p0 m0) ++ (wS51 cI cJ cZ cB m0 m1 m2 m3 m4 Mx0_4 Mx0_5 Mx0_6 Mx0_7 Mx0_8 Mx0_9 Mx0_10 Mx0_11 Mx0_12 Mx0_13 My1 My2 Mx3_0 Mx4_0)) sz)) 0 0 (va_A ((wS54 cI cJ cZ cB p0 m0) ++ (wS51 cI cJ cZ cB m0 m1 m2 m3 m4 Mx0_4 Mx0_5 Mx0_6 Mx0_7 Mx0_8 Mx0_9 Mx0_10 Mx0_11 Mx0_12 Mx0_13 My1 My2 Mx3_0 Mx4_0)) sz) := by
  refine Met.ofW (cc := b_S_registerSign) (maxL := 2) (ret := (some .int)) (by decide) rfl ?_
  intro p e s m args below meth c s₁ B hml hv
  obtain ⟨rfl, hsz, hK, hP, hD0, hC⟩ := hv
  subst hsz
  have hD := hD0.self (sz := s.heap.size)
  generalize hAe : va_A ((wS54 cI cJ cZ cB p0 m0) ++ (wS51 cI cJ cZ cB m0 m1 m2 m3 m4 Mx0_4 Mx0_5 Mx0_6 Mx0_7 Mx0_8 Mx0_9 Mx0_10 Mx0_11 Mx0_12 Mx0_13 My1 My2 Mx3_0 Mx4_0)) s.heap.size = A at hD hC ⊢
  have hA : ∀ q : Nat, s.heap.size ≤ q → A q := fun q h => by rw [← hAe]; exact Or.inr h
  clear hAe hD0
  have hS : va_S A s.heap s.heap [] := va_S.rf
  have hx := B.exec
  have hb := B.bytes
  have hr := B.returns
  have hts := atoms_spec (ws := .code y_S_registerSign b_S_registerSign 2 (some .int) :: tb) B.pre
  have hk : ∀ w ∈ tb, w.before [.ref p0, .int a1].toArray s = true := fun w h => hts w (List.mem_cons_of_mem _ h)
  have hown : s.vm.findClass "SignMachine" = some m.cls := findClass_of_methodNamed B.named
  have hlocks := B.notSynchronized
  have hl := lv_entry ([.ref p0, .int a1]) (n := 2) (Nat.le_of_ble_eq_true rfl)
  rw [lg_entry_eq]
  generalize (lg_sl ([.ref p0, .int a1]) ++ List.replicate (2 - (lg_sl ([.ref p0, .int a1])).length) Slot.unset).toArray = ls at hl ⊢
  have hl : lv_has ls 2 [(0, .ref p0), (1, .int a1)] := hl
  refine lv_iload_n hx hb d_S_registerSign_0 rfl (lv_at hl 1 rfl) ?_
  refine cs_i (W.runS (As := [.int a1]) (rest := []) ⟨hx, hb, hml, hown, hk⟩ (c_M_isRegister l a1) (s_M_isRegister hk k_479 ⟨Nat.le_of_ble_eq_true rfl, Nat.le_of_ble_eq_true rfl⟩) ⟨fun a U g mk q => q, fun U hU hW => ⟨rfl, trivial⟩⟩ rfl rfl hl.1 rfl (lv_room (Nat.le_of_ble_eq_true rfl)) d_S_registerSign_1 ⟨Nat.le_of_ble_eq_true rfl, Nat.le_of_ble_eq_true rfl⟩) ?_
  obtain ⟨z1, hz1⟩ : ∃ y : Bool, y = (f_M_isRegister a1) := ⟨_, rfl⟩
  rw [← hz1]
  refine lv_if_eq (tgt := 21) hx hb d_S_registerSign_4 (by decide) (fun c2 => ?_) (fun c2 => ?_)
  · refine lv_iconst (v := (-1)) hx hb d_S_registerSign_21 (by decide) ?_
    exact W.iret (v := (-1 : Int32)) hx hb hr (fun t ht hW => ⟨⟨(-1 : Int32), (0 : Int32), rfl, rfl, ⟨_, isC_0, (by show va_P D classes _ t.heap; rw [ht]; exact hP), hD⟩⟩, hS.F ht⟩) hS.2.2 d_S_registerSign_22
  · refine lv_aload_n hx hb d_S_registerSign_7 rfl (lv_at hl 0 rfl) ?_
    refine va_get (D := D) (ci := 0) (v := .ref m0) (C := "SignMachine") (T := F_S) (N := 2) hx hb hk fi_S hown hK.1 hP 0 rfl rfl 0 (by decide) (hk _ k_210) (fun _ h9 => h9) rfl d_S_registerSign_8 ?_
    refine lv_iload_n hx hb d_S_registerSign_11 rfl (lv_at hl 1 rfl) ?_
    have hPc := hP.sub (ws' := (wS51 cI cJ cZ cB m0 m1 m2 m3 m4 Mx0_4 Mx0_5 Mx0_6 Mx0_7 Mx0_8 Mx0_9 Mx0_10 Mx0_11 Mx0_12 Mx0_13 My1 My2 Mx3_0 Mx4_0)) [1, 2, 3, 4, 5] rfl
    have hDc := hD.sub (ws' := (wS51 cI cJ cZ cB m0 m1 m2 m3 m4 Mx0_4 Mx0_5 Mx0_6 Mx0_7 Mx0_8 Mx0_9 Mx0_10 Mx0_11 Mx0_12 Mx0_13 My1 My2 Mx3_0 Mx4_0)) [1, 2, 3, 4, 5] (by decide) rfl
    have hFc := va_free (wc := (wS51 cI cJ cZ cB m0 m1 m2 m3 m4 Mx0_4 Mx0_5 Mx0_6 Mx0_7 Mx0_8 Mx0_9 Mx0_10 Mx0_11 Mx0_12 Mx0_13 My1 My2 Mx3_0 Mx4_0)) hD hS hA [1, 2, 3, 4, 5] rfl
    refine va_calli (va_runV (C := "SignMachine$Machine") (As := [.int a1]) (rest := []) ⟨hx, hb, hml, hown, hk⟩ (c_M_register_s1 l K D cI cJ cZ cB m0 m1 m2 m3 m4 s.heap.size Mx0_4 Mx0_5 Mx0_6 Mx0_7 Mx0_8 Mx0_9 Mx0_10 Mx0_11 Mx0_12 Mx0_13 My1 My2 Mx3_0 Mx4_0 a1 ) (v_M_register_s1 hk k_482 ⟨Nat.le_of_ble_eq_true rfl, Nat.le_of_ble_eq_true rfl⟩) (pMC_v hK hPc hDc hC hS hA (ci := 1) (q0 := 0) rfl rfl rfl) rfl rfl hl.1 rfl (lv_room (Nat.le_of_ble_eq_true rfl)) d_S_registerSign_12 ⟨by decide, by decide⟩) hS (fun q _ h => hFc q h) hFc (fun rz3 u t H locs ht hvm hr0 hB hzq hkq hS => ?_)
    obtain ⟨hP1, hD1⟩ := hB
    rw [ht] at hP1
    obtain ⟨hP, hD⟩ := va_join (wr := (wS54 cI cJ cZ cB p0 m0)) (w1 := (wS51 cI cJ cZ cB m0 m1 m2 m3 m4 Mx0_4 Mx0_5 Mx0_6 Mx0_7 Mx0_8 Mx0_9 Mx0_10 Mx0_11 Mx0_12 Mx0_13 My1 My2 Mx3_0 Mx4_0)) hP hD [1, 2, 3, 4, 5] [0] rfl rfl (by decide) (by decide) hkq hFc hP1 hD1
    have hP := hP.sub (ws' := ((wS54 cI cJ cZ cB p0 m0) ++ (wS51 cI cJ cZ cB m0 m1 m2 m3 m4 Mx0_4 Mx0_5 Mx0_6 Mx0_7 Mx0_8 Mx0_9 Mx0_10 Mx0_11 Mx0_12 Mx0_13 My1 My2 Mx3_0 Mx4_0))) [0, 1, 2, 3, 4, 5] rfl
    have hD := hD.sub (ws' := ((wS54 cI cJ cZ cB p0 m0) ++ (wS51 cI cJ cZ cB m0 m1 m2 m3 m4 Mx0_4 Mx0_5 Mx0_6 Mx0_7 Mx0_8 Mx0_9 Mx0_10 Mx0_11 Mx0_12 Mx0_13 My1 My2 Mx3_0 Mx4_0))) [0, 1, 2, 3, 4, 5] (by decide) rfl
    have hP : va_P D classes ((wS54 cI cJ cZ cB p0 m0) ++ (wS51 cI cJ cZ cB m0 m1 m2 m3 m4 Mx0_4 Mx0_5 Mx0_6 Mx0_7 Mx0_8 Mx0_9 Mx0_10 Mx0_11 Mx0_12 Mx0_13 My1 My2 Mx3_0 Mx4_0)) H := hP
    have hD : va_D A ((wS54 cI cJ cZ cB p0 m0) ++ (wS51 cI cJ cZ cB m0 m1 m2 m3 m4 Mx0_4 Mx0_5 Mx0_6 Mx0_7 Mx0_8 Mx0_9 Mx0_10 Mx0_11 Mx0_12 Mx0_13 My1 My2 Mx3_0 Mx4_0)) := hD
    clear hPc hDc hFc
    refine cs_i (W.runS (As := [.int rz3]) (rest := []) ⟨hx, hb, hml, hown, hk⟩ (c_W_sign l rz3) (s_W_sign hk k_244 ⟨Nat.le_of_ble_eq_true rfl, Nat.le_of_ble_eq_true rfl⟩) ⟨fun a U g mk q => q, fun U hU hW => ⟨rfl, trivial⟩⟩ rfl rfl hl.1 rfl (lv_room (Nat.le_of_ble_eq_true rfl)) d_S_registerSign_15 ⟨Nat.le_of_ble_eq_true rfl, Nat.le_of_ble_eq_true rfl⟩) ?_
    refine lv_topi (fun v4 hv4 => ?_)
    refine lv_goto (tgt := 22) hx hb d_S_registerSign_18 (by decide) ?_
    exact W.iret (v := v4) hx hb hr (fun t ht hW => ⟨⟨v4, (0 : Int32), rfl, rfl, ⟨_, isC_0, (by show va_P D classes _ t.heap; rw [ht]; exact hP), hD⟩⟩, hS.F ht⟩) hS.2.2 d_S_registerSign_22
theorem v_S_registerSign_b11 {R : Room} {s : State} {args : Array Value} {own : String} {index : Nat} (hk : ∀ w ∈ tb, w.before args s = true) (hl : Cond.methodLink own index y_S_registerSign ∈ tb) (hR : 1 + 1 ≤ R.frames ∧ 8 + (2 + 11) + 21 ≤ R.locals) : CallW R s args own "SignMachine" index y_S_registerSign b_S_registerSign 2 (some .int) (.code y_S_registerSign b_S_registerSign 2 (some .int) :: tb) ({ frames := 1, cells := 0, slots := 0, locals := 21 }) 0 0 1 := mk_v 1 hk k_478 hl k_476 k_477 k_116 rfl rfl h_S_registerSign hR
set_option maxHeartbeats 4000000 in
set_option maxRecDepth 100000 in
theorem c_S_registerSize_b11 (l : Launch) (K : CK) (D : va_G) (cI cJ cZ cB : ClassId) (p0 m0 m1 m2 m3 m4 : Nat) (sz : Nat) (Mx0_4 : Bool) (Mx0_5 : Int32) (Mx0_6 : Int32) (Mx0_7 : Int32) (Mx0_8 : Int32) (Mx0_9 : Int32) (Mx0_10 : Int32) (Mx0_11 : Int32) (Mx0_12 : Int32) (Mx0_13 : Int32) (My1 : Nat → Int32) (My2 : Nat → Int32) (Mx3_0 : Int32) (Mx4_0 : Int32)  (a1 : Int32) : Met l y_S_registerSize (.code y_S_registerSize b_S_registerSize 2 (some .int) :: tb) ({ frames := 1, cells := 0, slots := 0, locals := 21 }) (pMC K D cI cJ cZ cB ((wS54 cI cJ cZ cB p0 m0) ++ (wS51 cI cJ cZ cB m0 m1 m2 m3 m4 Mx0_4 Mx0_5 Mx0_6 Mx0_7 Mx0_8 Mx0_9 Mx0_10 Mx0_11 Mx0_12 Mx0_13 My1 My2 Mx3_0 Mx4_0)) sz [.ref p0, .int a1]) (va_Qi (fun r (uL : Int32) => uL = (0 : Int32)) (fun uL t => ∃ W9 : va_W, isC K cI cJ cZ cB p0 uL W9 ∧ va_P D classes W9 t.heap ∧ va_D (va_A ((wS54 cI cJ cZ cB p0 m0) ++ (wS51 cI cJ cZ cB m0 m1 m2 m3 m4 Mx0_4 Mx0_5 Mx0_6 Mx0_7 Mx0_8 Mx0_9 Mx0_10 Mx0_11 Mx0_12 Mx0_13 My1 My2 Mx3_0 Mx4_0)) sz) W9) (va_A ((wS54 cI cJ cZ cB p0 m0) ++ (wS51 cI cJ cZ cB m0 m1 m2 m3 m4 Mx0_4 Mx0_5 Mx0_6 Mx0_7 Mx0_8 Mx0_9 Mx0_10 Mx0_11 Mx0_12 Mx0_13 My1 My2 Mx3_0 Mx4_0)) sz)) 0 0 (va_A ((wS54 cI cJ cZ cB p0 m0) ++ (wS51 cI cJ cZ cB m0 m1 m2 m3 m4 Mx0_4 Mx0_5 Mx0_6 Mx0_7 Mx0_8 Mx0_9 Mx0_10 Mx0_11 Mx0_12 Mx0_13 My1 My2 Mx3_0 Mx4_0)) sz) := by
  refine Met.ofW (cc := b_S_registerSize) (maxL := 2) (ret := (some .int)) (by decide) rfl ?_
  intro p e s m args below meth c s₁ B hml hv
  obtain ⟨rfl, hsz, hK, hP, hD0, hC⟩ := hv
  subst hsz
  have hD := hD0.self (sz := s.heap.size)
  generalize hAe : va_A ((wS54 cI cJ cZ cB p0 m0) ++ (wS51 cI cJ cZ cB m0 m1 m2 m3 m4 Mx0_4 Mx0_5 Mx0_6 Mx0_7 Mx0_8 Mx0_9 Mx0_10 Mx0_11 Mx0_12 Mx0_13 My1 My2 Mx3_0 Mx4_0)) s.heap.size = A at hD hC ⊢
  have hA : ∀ q : Nat, s.heap.size ≤ q → A q := fun q h => by rw [← hAe]; exact Or.inr h
  clear hAe hD0
  have hS : va_S A s.heap s.heap [] := va_S.rf
  have hx := B.exec
  have hb := B.bytes
  have hr := B.returns
  have hts := atoms_spec (ws := .code y_S_registerSize b_S_registerSize 2 (some .int) :: tb) B.pre
  have hk : ∀ w ∈ tb, w.before [.ref p0, .int a1].toArray s = true := fun w h => hts w (List.mem_cons_of_mem _ h)
  have hown : s.vm.findClass "SignMachine" = some m.cls := findClass_of_methodNamed B.named
  have hlocks := B.notSynchronized
  have hl := lv_entry ([.ref p0, .int a1]) (n := 2) (Nat.le_of_ble_eq_true rfl)
  rw [lg_entry_eq]
  generalize (lg_sl ([.ref p0, .int a1]) ++ List.replicate (2 - (lg_sl ([.ref p0, .int a1])).length) Slot.unset).toArray = ls at hl ⊢
  have hl : lv_has ls 2 [(0, .ref p0), (1, .int a1)] := hl
  refine lv_iload_n hx hb d_S_registerSize_0 rfl (lv_at hl 1 rfl) ?_
  refine cs_i (W.runS (As := [.int a1]) (rest := []) ⟨hx, hb, hml, hown, hk⟩ (c_M_isRegister l a1) (s_M_isRegister hk k_479 ⟨Nat.le_of_ble_eq_true rfl, Nat.le_of_ble_eq_true rfl⟩) ⟨fun a U g mk q => q, fun U hU hW => ⟨rfl, trivial⟩⟩ rfl rfl hl.1 rfl (lv_room (Nat.le_of_ble_eq_true rfl)) d_S_registerSize_1 ⟨Nat.le_of_ble_eq_true rfl, Nat.le_of_ble_eq_true rfl⟩) ?_
  obtain ⟨z1, hz1⟩ : ∃ y : Bool, y = (f_M_isRegister a1) := ⟨_, rfl⟩
  rw [← hz1]
  refine lv_if_eq (tgt := 21) hx hb d_S_registerSize_4 (by decide) (fun c2 => ?_) (fun c2 => ?_)
  · refine lv_iconst (v := (-1)) hx hb d_S_registerSize_21 (by decide) ?_
    exact W.iret (v := (-1 : Int32)) hx hb hr (fun t ht hW => ⟨⟨(-1 : Int32), (0 : Int32), rfl, rfl, ⟨_, isC_0, (by show va_P D classes _ t.heap; rw [ht]; exact hP), hD⟩⟩, hS.F ht⟩) hS.2.2 d_S_registerSize_22
  · refine lv_aload_n hx hb d_S_registerSize_7 rfl (lv_at hl 0 rfl) ?_
    refine va_get (D := D) (ci := 0) (v := .ref m0) (C := "SignMachine") (T := F_S) (N := 2) hx hb hk fi_S hown hK.1 hP 0 rfl rfl 0 (by decide) (hk _ k_210) (fun _ h9 => h9) rfl d_S_registerSize_8 ?_
    refine lv_iload_n hx hb d_S_registerSize_11 rfl (lv_at hl 1 rfl) ?_
    have hPc := hP.sub (ws' := (wS51 cI cJ cZ cB m0 m1 m2 m3 m4 Mx0_4 Mx0_5 Mx0_6 Mx0_7 Mx0_8 Mx0_9 Mx0_10 Mx0_11 Mx0_12 Mx0_13 My1 My2 Mx3_0 Mx4_0)) [1, 2, 3, 4, 5] rfl
    have hDc := hD.sub (ws' := (wS51 cI cJ cZ cB m0 m1 m2 m3 m4 Mx0_4 Mx0_5 Mx0_6 Mx0_7 Mx0_8 Mx0_9 Mx0_10 Mx0_11 Mx0_12 Mx0_13 My1 My2 Mx3_0 Mx4_0)) [1, 2, 3, 4, 5] (by decide) rfl
    have hFc := va_free (wc := (wS51 cI cJ cZ cB m0 m1 m2 m3 m4 Mx0_4 Mx0_5 Mx0_6 Mx0_7 Mx0_8 Mx0_9 Mx0_10 Mx0_11 Mx0_12 Mx0_13 My1 My2 Mx3_0 Mx4_0)) hD hS hA [1, 2, 3, 4, 5] rfl
    refine va_calli (va_runV (C := "SignMachine$Machine") (As := [.int a1]) (rest := []) ⟨hx, hb, hml, hown, hk⟩ (c_M_register_s1 l K D cI cJ cZ cB m0 m1 m2 m3 m4 s.heap.size Mx0_4 Mx0_5 Mx0_6 Mx0_7 Mx0_8 Mx0_9 Mx0_10 Mx0_11 Mx0_12 Mx0_13 My1 My2 Mx3_0 Mx4_0 a1 ) (v_M_register_s1 hk k_482 ⟨Nat.le_of_ble_eq_true rfl, Nat.le_of_ble_eq_true rfl⟩) (pMC_v hK hPc hDc hC hS hA (ci := 1) (q0 := 0) rfl rfl rfl) rfl rfl hl.1 rfl (lv_room (Nat.le_of_ble_eq_true rfl)) d_S_registerSize_12 ⟨by decide, by decide⟩) hS (fun q _ h => hFc q h) hFc (fun rz3 u t H locs ht hvm hr0 hB hzq hkq hS => ?_)
    obtain ⟨hP1, hD1⟩ := hB
    rw [ht] at hP1
    obtain ⟨hP, hD⟩ := va_join (wr := (wS54 cI cJ cZ cB p0 m0)) (w1 := (wS51 cI cJ cZ cB m0 m1 m2 m3 m4 Mx0_4 Mx0_5 Mx0_6 Mx0_7 Mx0_8 Mx0_9 Mx0_10 Mx0_11 Mx0_12 Mx0_13 My1 My2 Mx3_0 Mx4_0)) hP hD [1, 2, 3, 4, 5] [0] rfl rfl (by decide) (by decide) hkq hFc hP1 hD1
    have hP := hP.sub (ws' := ((wS54 cI cJ cZ cB p0 m0) ++ (wS51 cI cJ cZ cB m0 m1 m2 m3 m4 Mx0_4 Mx0_5 Mx0_6 Mx0_7 Mx0_8 Mx0_9 Mx0_10 Mx0_11 Mx0_12 Mx0_13 My1 My2 Mx3_0 Mx4_0))) [0, 1, 2, 3, 4, 5] rfl
    have hD := hD.sub (ws' := ((wS54 cI cJ cZ cB p0 m0) ++ (wS51 cI cJ cZ cB m0 m1 m2 m3 m4 Mx0_4 Mx0_5 Mx0_6 Mx0_7 Mx0_8 Mx0_9 Mx0_10 Mx0_11 Mx0_12 Mx0_13 My1 My2 Mx3_0 Mx4_0))) [0, 1, 2, 3, 4, 5] (by decide) rfl
    have hP : va_P D classes ((wS54 cI cJ cZ cB p0 m0) ++ (wS51 cI cJ cZ cB m0 m1 m2 m3 m4 Mx0_4 Mx0_5 Mx0_6 Mx0_7 Mx0_8 Mx0_9 Mx0_10 Mx0_11 Mx0_12 Mx0_13 My1 My2 Mx3_0 Mx4_0)) H := hP
    have hD : va_D A ((wS54 cI cJ cZ cB p0 m0) ++ (wS51 cI cJ cZ cB m0 m1 m2 m3 m4 Mx0_4 Mx0_5 Mx0_6 Mx0_7 Mx0_8 Mx0_9 Mx0_10 Mx0_11 Mx0_12 Mx0_13 My1 My2 Mx3_0 Mx4_0)) := hD
    clear hPc hDc hFc
    refine cs_i (W.runS (As := [.int rz3]) (rest := []) ⟨hx, hb, hml, hown, hk⟩ (c_W_size l rz3) (s_W_size hk k_251 ⟨Nat.le_of_ble_eq_true rfl, Nat.le_of_ble_eq_true rfl⟩) ⟨fun a U g mk q => q, fun U hU hW => ⟨rfl, trivial⟩⟩ rfl rfl hl.1 rfl (lv_room (Nat.le_of_ble_eq_true rfl)) d_S_registerSize_15 ⟨Nat.le_of_ble_eq_true rfl, Nat.le_of_ble_eq_true rfl⟩) ?_
    refine lv_topi (fun v4 hv4 => ?_)
    refine lv_goto (tgt := 22) hx hb d_S_registerSize_18 (by decide) ?_
    exact W.iret (v := v4) hx hb hr (fun t ht hW => ⟨⟨v4, (0 : Int32), rfl, rfl, ⟨_, isC_0, (by show va_P D classes _ t.heap; rw [ht]; exact hP), hD⟩⟩, hS.F ht⟩) hS.2.2 d_S_registerSize_22
theorem v_S_registerSize_b11 {R : Room} {s : State} {args : Array Value} {own : String} {index : Nat} (hk : ∀ w ∈ tb, w.before args s = true) (hl : Cond.methodLink own index y_S_registerSize ∈ tb) (hR : 1 + 1 ≤ R.frames ∧ 8 + (2 + 11) + 21 ≤ R.locals) : CallW R s args own "SignMachine" index y_S_registerSize b_S_registerSize 2 (some .int) (.code y_S_registerSize b_S_registerSize 2 (some .int) :: tb) ({ frames := 1, cells := 0, slots := 0, locals := 21 }) 0 0 1 := mk_v 1 hk k_486 hl k_484 k_485 k_116 rfl rfl h_S_registerSize hR
set_option maxHeartbeats 4000000 in
set_option maxRecDepth 100000 in
theorem c_S_set_b11 (l : Launch) (K : CK) (D : va_G) (cI cJ cZ cB : ClassId) (p0 m0 m1 m2 m3 m4 : Nat) (sz : Nat) (Mx0_4 : Bool) (Mx0_5 : Int32) (Mx0_6 : Int32) (Mx0_7 : Int32) (Mx0_8 : Int32) (Mx0_9 : Int32) (Mx0_10 : Int32) (Mx0_11 : Int32) (Mx0_12 : Int32) (Mx0_13 : Int32) (My1 : Nat → Int32) (My2 : Nat → Int32) (Mx3_0 : Int32) (Mx4_0 : Int32)  (a1 : Int32) (a2 : Int32) (a3 : Int32) : Met l y_S_set (.code y_S_set b_S_set 4 (some .boolean) :: tb) ({ frames := 2, cells := 0, slots := 0, locals := 40 }) (pMC K D cI cJ cZ cB ((wS54 cI cJ cZ cB p0 m0) ++ (wS51 cI cJ cZ cB m0 m1 m2 m3 m4 Mx0_4 Mx0_5 Mx0_6 Mx0_7 Mx0_8 Mx0_9 Mx0_10 Mx0_11 Mx0_12 Mx0_13 My1 My2 Mx3_0 Mx4_0)) sz [.ref p0, .int a1, .int a2, .int a3]) (va_Qi (fun r (uL : Int32) => uL = (0 : Int32) ∧ r = (f_cset a1 a2 a3)) (fun uL t => ∃ W9 : va_W, isC K cI cJ cZ cB p0 uL W9 ∧ va_P D classes W9 t.heap ∧ va_D (va_A ((wS54 cI cJ cZ cB p0 m0) ++ (wS51 cI cJ cZ cB m0 m1 m2 m3 m4 Mx0_4 Mx0_5 Mx0_6 Mx0_7 Mx0_8 Mx0_9 Mx0_10 Mx0_11 Mx0_12 Mx0_13 My1 My2 Mx3_0 Mx4_0)) sz) W9) (va_A ((wS54 cI cJ cZ cB p0 m0) ++ (wS51 cI cJ cZ cB m0 m1 m2 m3 m4 Mx0_4 Mx0_5 Mx0_6 Mx0_7 Mx0_8 Mx0_9 Mx0_10 Mx0_11 Mx0_12 Mx0_13 My1 My2 Mx3_0 Mx4_0)) sz)) 0 0 (va_A ((wS54 cI cJ cZ cB p0 m0) ++ (wS51 cI cJ cZ cB m0 m1 m2 m3 m4 Mx0_4 Mx0_5 Mx0_6 Mx0_7 Mx0_8 Mx0_9 Mx0_10 Mx0_11 Mx0_12 Mx0_13 My1 My2 Mx3_0 Mx4_0)) sz) := by
  refine Met.ofW (cc := b_S_set) (maxL := 4) (ret := (some .boolean)) (by decide) rfl ?_
  intro p e s m args below meth c s₁ B hml hv
  obtain ⟨rfl, hsz, hK, hP, hD0, hC⟩ := hv
  subst hsz
  have hD := hD0.self (sz := s.heap.size)
  generalize hAe : va_A ((wS54 cI cJ cZ cB p0 m0) ++ (wS51 cI cJ cZ cB m0 m1 m2 m3 m4 Mx0_4 Mx0_5 Mx0_6 Mx0_7 Mx0_8 Mx0_9 Mx0_10 Mx0_11 Mx0_12 Mx0_13 My1 My2 Mx3_0 Mx4_0)) s.heap.size = A at hD hC ⊢
  have hA : ∀ q : Nat, s.heap.size ≤ q → A q := fun q h => by rw [← hAe]; exact Or.inr h
  clear hAe hD0
  have hS : va_S A s.heap s.heap [] := va_S.rf
  have hx := B.exec
  have hb := B.bytes
  have hr := B.returns
  have hts := atoms_spec (ws := .code y_S_set b_S_set 4 (some .boolean) :: tb) B.pre
  have hk : ∀ w ∈ tb, w.before [.ref p0, .int a1, .int a2, .int a3].toArray s = true := fun w h => hts w (List.mem_cons_of_mem _ h)
  have hown : s.vm.findClass "SignMachine" = some m.cls := findClass_of_methodNamed B.named
  have hlocks := B.notSynchronized
  have hl := lv_entry ([.ref p0, .int a1, .int a2, .int a3]) (n := 4) (Nat.le_of_ble_eq_true rfl)
  rw [lg_entry_eq]
  generalize (lg_sl ([.ref p0, .int a1, .int a2, .int a3]) ++ List.replicate (4 - (lg_sl ([.ref p0, .int a1, .int a2, .int a3])).length) Slot.unset).toArray = ls at hl ⊢
  have hl : lv_has ls 4 [(0, .ref p0), (1, .int a1), (2, .int a2), (3, .int a3)] := hl
  refine lv_iload_n hx hb d_S_set_0 rfl (lv_at hl 1 rfl) ?_
  refine cs_i (W.runS (As := [.int a1]) (rest := []) ⟨hx, hb, hml, hown, hk⟩ (c_M_isRegister l a1) (s_M_isRegister hk k_479 ⟨Nat.le_of_ble_eq_true rfl, Nat.le_of_ble_eq_true rfl⟩) ⟨fun a U g mk q => q, fun U hU hW => ⟨rfl, trivial⟩⟩ rfl rfl hl.1 rfl (lv_room (Nat.le_of_ble_eq_true rfl)) d_S_set_1 ⟨Nat.le_of_ble_eq_true rfl, Nat.le_of_ble_eq_true rfl⟩) ?_
  obtain ⟨z1, hz1⟩ : ∃ y : Bool, y = (f_M_isRegister a1) := ⟨_, rfl⟩
  rw [← hz1]
  refine lv_if_eq (tgt := 15) hx hb d_S_set_4 (by decide) (fun c2 => ?_) (fun c2 => ?_)
  · refine lv_iconst (v := 0) hx hb d_S_set_15 (by decide) ?_
    exact W.zret (v := (0 : Int32)) hx hb hr rfl (fun t ht hW => ⟨⟨(0 : Int32), (0 : Int32), rfl, ⟨rfl, by unfold f_cset; simp only [← hz1, if_pos c2]⟩, ⟨_, isC_0, (by show va_P D classes _ t.heap; rw [ht]; exact hP), hD⟩⟩, hS.F ht⟩) hS.2.2 d_S_set_16
  · refine lv_iload_n hx hb d_S_set_7 rfl (lv_at hl 2 rfl) ?_
    refine lv_iload_n hx hb d_S_set_8 rfl (lv_at hl 3 rfl) ?_
    refine cs_i (W.runS (As := [.int a2, .int a3]) (rest := []) ⟨hx, hb, hml, hown, hk⟩ (c_W_isWord l a2 a3) (s_W_isWord hk k_224 ⟨Nat.le_of_ble_eq_true rfl, Nat.le_of_ble_eq_true rfl⟩) ⟨fun a U g mk q => q, fun U hU hW => ⟨rfl, trivial⟩⟩ rfl rfl hl.1 rfl (lv_room (Nat.le_of_ble_eq_true rfl)) d_S_set_9 ⟨Nat.le_of_ble_eq_true rfl, Nat.le_of_ble_eq_true rfl⟩) ?_
    obtain ⟨z3, hz3⟩ : ∃ y : Bool, y = (f_W_isWord a2 a3) := ⟨_, rfl⟩
    rw [← hz3]
    refine lv_if_ne (tgt := 17) hx hb d_S_set_12 (by decide) (fun c4 => ?_) (fun c4 => ?_)
    · refine lv_iload_n hx hb d_S_set_17 rfl (lv_at hl 1 rfl) ?_
      refine cs_i (W.runS (As := [.int a1]) (rest := []) ⟨hx, hb, hml, hown, hk⟩ (c_M_isShort l a1) (s_M_isShort hk k_491 ⟨Nat.le_of_ble_eq_true rfl, Nat.le_of_ble_eq_true rfl⟩) ⟨fun a U g mk q => q, fun U hU hW => ⟨rfl, trivial⟩⟩ rfl rfl hl.1 rfl (lv_room (Nat.le_of_ble_eq_true rfl)) d_S_set_18 ⟨Nat.le_of_ble_eq_true rfl, Nat.le_of_ble_eq_true rfl⟩) ?_
      obtain ⟨z5, hz5⟩ : ∃ y : Bool, y = (f_M_isShort a1) := ⟨_, rfl⟩
      rw [← hz5]
      refine lv_if_eq (tgt := 33) hx hb d_S_set_21 (by decide) (fun c6 => ?_) (fun c6 => ?_)
      · refine lv_iload_n hx hb d_S_set_33 rfl (lv_at hl 1 rfl) ?_
        refine lv_bipush (v := 8) hx hb d_S_set_34 (by decide) ?_
        refine lv_icmp_ne (tgt := 45) hx hb d_S_set_36 (by decide) (fun c7 => ?_) (fun c7 => ?_)
        · refine lv_aload_n hx hb d_S_set_45 rfl (lv_at hl 0 rfl) ?_
          refine va_get (D := D) (ci := 0) (v := .ref m0) (C := "SignMachine") (T := F_S) (N := 2) hx hb hk fi_S hown hK.1 hP 0 rfl rfl 0 (by decide) (hk _ k_210) (fun _ h9 => h9) rfl d_S_set_46 ?_
          refine lv_iload_n hx hb d_S_set_49 rfl (lv_at hl 1 rfl) ?_
          refine lv_iload_n hx hb d_S_set_50 rfl (lv_at hl 2 rfl) ?_
          refine lv_iload_n hx hb d_S_set_51 rfl (lv_at hl 3 rfl) ?_
          refine cs_i (W.runS (As := [.int a2, .int a3]) (rest := [.int a1, .ref m0]) ⟨hx, hb, hml, hown, hk⟩ (c_W_make l a2 a3) (s_W_make hk k_228 ⟨Nat.le_of_ble_eq_true rfl, Nat.le_of_ble_eq_true rfl⟩) ⟨fun a U g mk q => q, fun U hU hW => ⟨rfl, trivial⟩⟩ rfl rfl hl.1 rfl (lv_room (Nat.le_of_ble_eq_true rfl)) d_S_set_52 ⟨Nat.le_of_ble_eq_true rfl, Nat.le_of_ble_eq_true rfl⟩) ?_
          refine lv_topi (fun v8 hv8 => ?_)
          have hPc := hP.sub (ws' := (wS51 cI cJ cZ cB m0 m1 m2 m3 m4 Mx0_4 Mx0_5 Mx0_6 Mx0_7 Mx0_8 Mx0_9 Mx0_10 Mx0_11 Mx0_12 Mx0_13 My1 My2 Mx3_0 Mx4_0)) [1, 2, 3, 4, 5] rfl
          have hDc := hD.sub (ws' := (wS51 cI cJ cZ cB m0 m1 m2 m3 m4 Mx0_4 Mx0_5 Mx0_6 Mx0_7 Mx0_8 Mx0_9 Mx0_10 Mx0_11 Mx0_12 Mx0_13 My1 My2 Mx3_0 Mx4_0)) [1, 2, 3, 4, 5] (by decide) rfl
          have hFc := va_free (wc := (wS51 cI cJ cZ cB m0 m1 m2 m3 m4 Mx0_4 Mx0_5 Mx0_6 Mx0_7 Mx0_8 Mx0_9 Mx0_10 Mx0_11 Mx0_12 Mx0_13 My1 My2 Mx3_0 Mx4_0)) hD hS hA [1, 2, 3, 4, 5] rfl
          refine va_callv (va_runV (C := "SignMachine$Machine") (As := [.int a1, .int v8]) (rest := []) ⟨hx, hb, hml, hown, hk⟩ (c_M_putRegister_s1 l K D cI cJ cZ cB m0 m1 m2 m3 m4 s.heap.size Mx0_4 Mx0_5 Mx0_6 Mx0_7 Mx0_8 Mx0_9 Mx0_10 Mx0_11 Mx0_12 Mx0_13 My1 My2 Mx3_0 Mx4_0 a1 v8 ) (v_M_putRegister_s1 hk k_494 ⟨Nat.le_of_ble_eq_true rfl, Nat.le_of_ble_eq_true rfl⟩) (pMC_v hK hPc hDc hC hS hA (ci := 1) (q0 := 0) rfl rfl rfl) rfl rfl hl.1 rfl (lv_room (Nat.le_of_ble_eq_true rfl)) d_S_set_55 ⟨by decide, by decide⟩) hS (fun q _ h => hFc q h) hFc (fun u t H locs ht hvm hr0 hB hzq hkq hS => ?_)
          obtain ⟨My2z9, hP1, hD1⟩ := hB
          rw [ht] at hP1
          obtain ⟨hP, hD⟩ := va_join (wr := (wS54 cI cJ cZ cB p0 m0)) (w1 := (wS51 cI cJ cZ cB m0 m1 m2 m3 m4 Mx0_4 Mx0_5 Mx0_6 Mx0_7 Mx0_8 Mx0_9 Mx0_10 Mx0_11 Mx0_12 Mx0_13 My1 My2z9 Mx3_0 Mx4_0)) hP hD [1, 2, 3, 4, 5] [0] rfl rfl (by decide) (by decide) hkq hFc hP1 hD1
          have hP := hP.sub (ws' := ((wS54 cI cJ cZ cB p0 m0) ++ (wS51 cI cJ cZ cB m0 m1 m2 m3 m4 Mx0_4 Mx0_5 Mx0_6 Mx0_7 Mx0_8 Mx0_9 Mx0_10 Mx0_11 Mx0_12 Mx0_13 My1 My2z9 Mx3_0 Mx4_0))) [0, 1, 2, 3, 4, 5] rfl
          have hD := hD.sub (ws' := ((wS54 cI cJ cZ cB p0 m0) ++ (wS51 cI cJ cZ cB m0 m1 m2 m3 m4 Mx0_4 Mx0_5 Mx0_6 Mx0_7 Mx0_8 Mx0_9 Mx0_10 Mx0_11 Mx0_12 Mx0_13 My1 My2z9 Mx3_0 Mx4_0))) [0, 1, 2, 3, 4, 5] (by decide) rfl
          have hP : va_P D classes ((wS54 cI cJ cZ cB p0 m0) ++ (wS51 cI cJ cZ cB m0 m1 m2 m3 m4 Mx0_4 Mx0_5 Mx0_6 Mx0_7 Mx0_8 Mx0_9 Mx0_10 Mx0_11 Mx0_12 Mx0_13 My1 My2z9 Mx3_0 Mx4_0)) H := hP
          have hD : va_D A ((wS54 cI cJ cZ cB p0 m0) ++ (wS51 cI cJ cZ cB m0 m1 m2 m3 m4 Mx0_4 Mx0_5 Mx0_6 Mx0_7 Mx0_8 Mx0_9 Mx0_10 Mx0_11 Mx0_12 Mx0_13 My1 My2z9 Mx3_0 Mx4_0)) := hD
          clear hPc hDc hFc
          refine lv_iconst (v := 1) hx hb d_S_set_58 (by decide) ?_
          exact W.zret (v := (1 : Int32)) hx hb hr rfl (fun t ht hW => ⟨⟨(1 : Int32), (0 : Int32), rfl, ⟨rfl, by unfold f_cset; simp only [← hz1, ← hz3, ← hz5, if_neg c2, if_neg c4, if_pos c6, if_neg c7]⟩, ⟨_, isC_0, (by show va_P D classes _ t.heap; rw [ht]; exact hP), hD⟩⟩, hS.F ht⟩) hS.2.2 d_S_set_59
        · refine lv_iload_n hx hb d_S_set_39 rfl (lv_at hl 2 rfl) ?_
          refine lv_if_eq (tgt := 45) hx hb d_S_set_40 (by decide) (fun c10 => ?_) (fun c10 => ?_)
          · refine lv_aload_n hx hb d_S_set_45 rfl (lv_at hl 0 rfl) ?_
            refine va_get (D := D) (ci := 0) (v := .ref m0) (C := "SignMachine") (T := F_S) (N := 2) hx hb hk fi_S hown hK.1 hP 0 rfl rfl 0 (by decide) (hk _ k_210) (fun _ h9 => h9) rfl d_S_set_46 ?_
            refine lv_iload_n hx hb d_S_set_49 rfl (lv_at hl 1 rfl) ?_
            refine lv_iload_n hx hb d_S_set_50 rfl (lv_at hl 2 rfl) ?_
            refine lv_iload_n hx hb d_S_set_51 rfl (lv_at hl 3 rfl) ?_
            refine cs_i (W.runS (As := [.int a2, .int a3]) (rest := [.int a1, .ref m0]) ⟨hx, hb, hml, hown, hk⟩ (c_W_make l a2 a3) (s_W_make hk k_228 ⟨Nat.le_of_ble_eq_true rfl, Nat.le_of_ble_eq_true rfl⟩) ⟨fun a U g mk q => q, fun U hU hW => ⟨rfl, trivial⟩⟩ rfl rfl hl.1 rfl (lv_room (Nat.le_of_ble_eq_true rfl)) d_S_set_52 ⟨Nat.le_of_ble_eq_true rfl, Nat.le_of_ble_eq_true rfl⟩) ?_
            refine lv_topi (fun v11 hv11 => ?_)
            have hPc := hP.sub (ws' := (wS51 cI cJ cZ cB m0 m1 m2 m3 m4 Mx0_4 Mx0_5 Mx0_6 Mx0_7 Mx0_8 Mx0_9 Mx0_10 Mx0_11 Mx0_12 Mx0_13 My1 My2 Mx3_0 Mx4_0)) [1, 2, 3, 4, 5] rfl
            have hDc := hD.sub (ws' := (wS51 cI cJ cZ cB m0 m1 m2 m3 m4 Mx0_4 Mx0_5 Mx0_6 Mx0_7 Mx0_8 Mx0_9 Mx0_10 Mx0_11 Mx0_12 Mx0_13 My1 My2 Mx3_0 Mx4_0)) [1, 2, 3, 4, 5] (by decide) rfl
            have hFc := va_free (wc := (wS51 cI cJ cZ cB m0 m1 m2 m3 m4 Mx0_4 Mx0_5 Mx0_6 Mx0_7 Mx0_8 Mx0_9 Mx0_10 Mx0_11 Mx0_12 Mx0_13 My1 My2 Mx3_0 Mx4_0)) hD hS hA [1, 2, 3, 4, 5] rfl
            refine va_callv (va_runV (C := "SignMachine$Machine") (As := [.int a1, .int v11]) (rest := []) ⟨hx, hb, hml, hown, hk⟩ (c_M_putRegister_s1 l K D cI cJ cZ cB m0 m1 m2 m3 m4 s.heap.size Mx0_4 Mx0_5 Mx0_6 Mx0_7 Mx0_8 Mx0_9 Mx0_10 Mx0_11 Mx0_12 Mx0_13 My1 My2 Mx3_0 Mx4_0 a1 v11 ) (v_M_putRegister_s1 hk k_494 ⟨Nat.le_of_ble_eq_true rfl, Nat.le_of_ble_eq_true rfl⟩) (pMC_v hK hPc hDc hC hS hA (ci := 1) (q0 := 0) rfl rfl rfl) rfl rfl hl.1 rfl (lv_room (Nat.le_of_ble_eq_true rfl)) d_S_set_55 ⟨by decide, by decide⟩) hS (fun q _ h => hFc q h) hFc (fun u t H locs ht hvm hr0 hB hzq hkq hS => ?_)
            obtain ⟨My2z12, hP1, hD1⟩ := hB
            rw [ht] at hP1
            obtain ⟨hP, hD⟩ := va_join (wr := (wS54 cI cJ cZ cB p0 m0)) (w1 := (wS51 cI cJ cZ cB m0 m1 m2 m3 m4 Mx0_4 Mx0_5 Mx0_6 Mx0_7 Mx0_8 Mx0_9 Mx0_10 Mx0_11 Mx0_12 Mx0_13 My1 My2z12 Mx3_0 Mx4_0)) hP hD [1, 2, 3, 4, 5] [0] rfl rfl (by decide) (by decide) hkq hFc hP1 hD1
            have hP := hP.sub (ws' := ((wS54 cI cJ cZ cB p0 m0) ++ (wS51 cI cJ cZ cB m0 m1 m2 m3 m4 Mx0_4 Mx0_5 Mx0_6 Mx0_7 Mx0_8 Mx0_9 Mx0_10 Mx0_11 Mx0_12 Mx0_13 My1 My2z12 Mx3_0 Mx4_0))) [0, 1, 2, 3, 4, 5] rfl
            have hD := hD.sub (ws' := ((wS54 cI cJ cZ cB p0 m0) ++ (wS51 cI cJ cZ cB m0 m1 m2 m3 m4 Mx0_4 Mx0_5 Mx0_6 Mx0_7 Mx0_8 Mx0_9 Mx0_10 Mx0_11 Mx0_12 Mx0_13 My1 My2z12 Mx3_0 Mx4_0))) [0, 1, 2, 3, 4, 5] (by decide) rfl
            have hP : va_P D classes ((wS54 cI cJ cZ cB p0 m0) ++ (wS51 cI cJ cZ cB m0 m1 m2 m3 m4 Mx0_4 Mx0_5 Mx0_6 Mx0_7 Mx0_8 Mx0_9 Mx0_10 Mx0_11 Mx0_12 Mx0_13 My1 My2z12 Mx3_0 Mx4_0)) H := hP
            have hD : va_D A ((wS54 cI cJ cZ cB p0 m0) ++ (wS51 cI cJ cZ cB m0 m1 m2 m3 m4 Mx0_4 Mx0_5 Mx0_6 Mx0_7 Mx0_8 Mx0_9 Mx0_10 Mx0_11 Mx0_12 Mx0_13 My1 My2z12 Mx3_0 Mx4_0)) := hD
            clear hPc hDc hFc
            refine lv_iconst (v := 1) hx hb d_S_set_58 (by decide) ?_
            exact W.zret (v := (1 : Int32)) hx hb hr rfl (fun t ht hW => ⟨⟨(1 : Int32), (0 : Int32), rfl, ⟨rfl, by unfold f_cset; simp only [← hz1, ← hz3, ← hz5, if_neg c2, if_neg c4, if_pos c6, if_pos c7, if_pos c10]⟩, ⟨_, isC_0, (by show va_P D classes _ t.heap; rw [ht]; exact hP), hD⟩⟩, hS.F ht⟩) hS.2.2 d_S_set_59
          · refine lv_iconst (v := 0) hx hb d_S_set_43 (by decide) ?_
            exact W.zret (v := (0 : Int32)) hx hb hr rfl (fun t ht hW => ⟨⟨(0 : Int32), (0 : Int32), rfl, ⟨rfl, by unfold f_cset; simp only [← hz1, ← hz3, ← hz5, if_neg c2, if_neg c4, if_pos c6, if_pos c7, if_neg c10]⟩, ⟨_, isC_0, (by show va_P D classes _ t.heap; rw [ht]; exact hP), hD⟩⟩, hS.F ht⟩) hS.2.2 d_S_set_44
      · refine lv_iload_n hx hb d_S_set_24 rfl (lv_at hl 3 rfl) ?_
        refine lv_sipush (v := 4095) hx hb d_S_set_25 (by decide) ?_
        refine lv_icmp_le (tgt := 33) hx hb d_S_set_28 (by decide) (fun c13 => ?_) (fun c13 => ?_)
        · refine lv_iload_n hx hb d_S_set_33 rfl (lv_at hl 1 rfl) ?_
          refine lv_bipush (v := 8) hx hb d_S_set_34 (by decide) ?_
          refine lv_icmp_ne (tgt := 45) hx hb d_S_set_36 (by decide) (fun c14 => ?_) (fun c14 => ?_)
          · refine lv_aload_n hx hb d_S_set_45 rfl (lv_at hl 0 rfl) ?_
            refine va_get (D := D) (ci := 0) (v := .ref m0) (C := "SignMachine") (T := F_S) (N := 2) hx hb hk fi_S hown hK.1 hP 0 rfl rfl 0 (by decide) (hk _ k_210) (fun _ h9 => h9) rfl d_S_set_46 ?_
            refine lv_iload_n hx hb d_S_set_49 rfl (lv_at hl 1 rfl) ?_
            refine lv_iload_n hx hb d_S_set_50 rfl (lv_at hl 2 rfl) ?_
            refine lv_iload_n hx hb d_S_set_51 rfl (lv_at hl 3 rfl) ?_
            refine cs_i (W.runS (As := [.int a2, .int a3]) (rest := [.int a1, .ref m0]) ⟨hx, hb, hml, hown, hk⟩ (c_W_make l a2 a3) (s_W_make hk k_228 ⟨Nat.le_of_ble_eq_true rfl, Nat.le_of_ble_eq_true rfl⟩) ⟨fun a U g mk q => q, fun U hU hW => ⟨rfl, trivial⟩⟩ rfl rfl hl.1 rfl (lv_room (Nat.le_of_ble_eq_true rfl)) d_S_set_52 ⟨Nat.le_of_ble_eq_true rfl, Nat.le_of_ble_eq_true rfl⟩) ?_
            refine lv_topi (fun v15 hv15 => ?_)
            have hPc := hP.sub (ws' := (wS51 cI cJ cZ cB m0 m1 m2 m3 m4 Mx0_4 Mx0_5 Mx0_6 Mx0_7 Mx0_8 Mx0_9 Mx0_10 Mx0_11 Mx0_12 Mx0_13 My1 My2 Mx3_0 Mx4_0)) [1, 2, 3, 4, 5] rfl
            have hDc := hD.sub (ws' := (wS51 cI cJ cZ cB m0 m1 m2 m3 m4 Mx0_4 Mx0_5 Mx0_6 Mx0_7 Mx0_8 Mx0_9 Mx0_10 Mx0_11 Mx0_12 Mx0_13 My1 My2 Mx3_0 Mx4_0)) [1, 2, 3, 4, 5] (by decide) rfl
            have hFc := va_free (wc := (wS51 cI cJ cZ cB m0 m1 m2 m3 m4 Mx0_4 Mx0_5 Mx0_6 Mx0_7 Mx0_8 Mx0_9 Mx0_10 Mx0_11 Mx0_12 Mx0_13 My1 My2 Mx3_0 Mx4_0)) hD hS hA [1, 2, 3, 4, 5] rfl
            refine va_callv (va_runV (C := "SignMachine$Machine") (As := [.int a1, .int v15]) (rest := []) ⟨hx, hb, hml, hown, hk⟩ (c_M_putRegister_s1 l K D cI cJ cZ cB m0 m1 m2 m3 m4 s.heap.size Mx0_4 Mx0_5 Mx0_6 Mx0_7 Mx0_8 Mx0_9 Mx0_10 Mx0_11 Mx0_12 Mx0_13 My1 My2 Mx3_0 Mx4_0 a1 v15 ) (v_M_putRegister_s1 hk k_494 ⟨Nat.le_of_ble_eq_true rfl, Nat.le_of_ble_eq_true rfl⟩) (pMC_v hK hPc hDc hC hS hA (ci := 1) (q0 := 0) rfl rfl rfl) rfl rfl hl.1 rfl (lv_room (Nat.le_of_ble_eq_true rfl)) d_S_set_55 ⟨by decide, by decide⟩) hS (fun q _ h => hFc q h) hFc (fun u t H locs ht hvm hr0 hB hzq hkq hS => ?_)
            obtain ⟨My2z16, hP1, hD1⟩ := hB
            rw [ht] at hP1
            obtain ⟨hP, hD⟩ := va_join (wr := (wS54 cI cJ cZ cB p0 m0)) (w1 := (wS51 cI cJ cZ cB m0 m1 m2 m3 m4 Mx0_4 Mx0_5 Mx0_6 Mx0_7 Mx0_8 Mx0_9 Mx0_10 Mx0_11 Mx0_12 Mx0_13 My1 My2z16 Mx3_0 Mx4_0)) hP hD [1, 2, 3, 4, 5] [0] rfl rfl (by decide) (by decide) hkq hFc hP1 hD1
            have hP := hP.sub (ws' := ((wS54 cI cJ cZ cB p0 m0) ++ (wS51 cI cJ cZ cB m0 m1 m2 m3 m4 Mx0_4 Mx0_5 Mx0_6 Mx0_7 Mx0_8 Mx0_9 Mx0_10 Mx0_11 Mx0_12 Mx0_13 My1 My2z16 Mx3_0 Mx4_0))) [0, 1, 2, 3, 4, 5] rfl
            have hD := hD.sub (ws' := ((wS54 cI cJ cZ cB p0 m0) ++ (wS51 cI cJ cZ cB m0 m1 m2 m3 m4 Mx0_4 Mx0_5 Mx0_6 Mx0_7 Mx0_8 Mx0_9 Mx0_10 Mx0_11 Mx0_12 Mx0_13 My1 My2z16 Mx3_0 Mx4_0))) [0, 1, 2, 3, 4, 5] (by decide) rfl
            have hP : va_P D classes ((wS54 cI cJ cZ cB p0 m0) ++ (wS51 cI cJ cZ cB m0 m1 m2 m3 m4 Mx0_4 Mx0_5 Mx0_6 Mx0_7 Mx0_8 Mx0_9 Mx0_10 Mx0_11 Mx0_12 Mx0_13 My1 My2z16 Mx3_0 Mx4_0)) H := hP
            have hD : va_D A ((wS54 cI cJ cZ cB p0 m0) ++ (wS51 cI cJ cZ cB m0 m1 m2 m3 m4 Mx0_4 Mx0_5 Mx0_6 Mx0_7 Mx0_8 Mx0_9 Mx0_10 Mx0_11 Mx0_12 Mx0_13 My1 My2z16 Mx3_0 Mx4_0)) := hD
            clear hPc hDc hFc
            refine lv_iconst (v := 1) hx hb d_S_set_58 (by decide) ?_
            exact W.zret (v := (1 : Int32)) hx hb hr rfl (fun t ht hW => ⟨⟨(1 : Int32), (0 : Int32), rfl, ⟨rfl, by unfold f_cset; simp only [← hz1, ← hz3, ← hz5, if_neg c2, if_neg c4, if_neg c6, if_pos c13, if_neg c14]⟩, ⟨_, isC_0, (by show va_P D classes _ t.heap; rw [ht]; exact hP), hD⟩⟩, hS.F ht⟩) hS.2.2 d_S_set_59
          · refine lv_iload_n hx hb d_S_set_39 rfl (lv_at hl 2 rfl) ?_
            refine lv_if_eq (tgt := 45) hx hb d_S_set_40 (by decide) (fun c17 => ?_) (fun c17 => ?_)
            · refine lv_aload_n hx hb d_S_set_45 rfl (lv_at hl 0 rfl) ?_
              refine va_get (D := D) (ci := 0) (v := .ref m0) (C := "SignMachine") (T := F_S) (N := 2) hx hb hk fi_S hown hK.1 hP 0 rfl rfl 0 (by decide) (hk _ k_210) (fun _ h9 => h9) rfl d_S_set_46 ?_
              refine lv_iload_n hx hb d_S_set_49 rfl (lv_at hl 1 rfl) ?_
              refine lv_iload_n hx hb d_S_set_50 rfl (lv_at hl 2 rfl) ?_
              refine lv_iload_n hx hb d_S_set_51 rfl (lv_at hl 3 rfl) ?_
              refine cs_i (W.runS (As := [.int a2, .int a3]) (rest := [.int a1, .ref m0]) ⟨hx, hb, hml, hown, hk⟩ (c_W_make l a2 a3) (s_W_make hk k_228 ⟨Nat.le_of_ble_eq_true rfl, Nat.le_of_ble_eq_true rfl⟩) ⟨fun a U g mk q => q, fun U hU hW => ⟨rfl, trivial⟩⟩ rfl rfl hl.1 rfl (lv_room (Nat.le_of_ble_eq_true rfl)) d_S_set_52 ⟨Nat.le_of_ble_eq_true rfl, Nat.le_of_ble_eq_true rfl⟩) ?_
              refine lv_topi (fun v18 hv18 => ?_)
              have hPc := hP.sub (ws' := (wS51 cI cJ cZ cB m0 m1 m2 m3 m4 Mx0_4 Mx0_5 Mx0_6 Mx0_7 Mx0_8 Mx0_9 Mx0_10 Mx0_11 Mx0_12 Mx0_13 My1 My2 Mx3_0 Mx4_0)) [1, 2, 3, 4, 5] rfl
              have hDc := hD.sub (ws' := (wS51 cI cJ cZ cB m0 m1 m2 m3 m4 Mx0_4 Mx0_5 Mx0_6 Mx0_7 Mx0_8 Mx0_9 Mx0_10 Mx0_11 Mx0_12 Mx0_13 My1 My2 Mx3_0 Mx4_0)) [1, 2, 3, 4, 5] (by decide) rfl
              have hFc := va_free (wc := (wS51 cI cJ cZ cB m0 m1 m2 m3 m4 Mx0_4 Mx0_5 Mx0_6 Mx0_7 Mx0_8 Mx0_9 Mx0_10 Mx0_11 Mx0_12 Mx0_13 My1 My2 Mx3_0 Mx4_0)) hD hS hA [1, 2, 3, 4, 5] rfl
              refine va_callv (va_runV (C := "SignMachine$Machine") (As := [.int a1, .int v18]) (rest := []) ⟨hx, hb, hml, hown, hk⟩ (c_M_putRegister_s1 l K D cI cJ cZ cB m0 m1 m2 m3 m4 s.heap.size Mx0_4 Mx0_5 Mx0_6 Mx0_7 Mx0_8 Mx0_9 Mx0_10 Mx0_11 Mx0_12 Mx0_13 My1 My2 Mx3_0 Mx4_0 a1 v18 ) (v_M_putRegister_s1 hk k_494 ⟨Nat.le_of_ble_eq_true rfl, Nat.le_of_ble_eq_true rfl⟩) (pMC_v hK hPc hDc hC hS hA (ci := 1) (q0 := 0) rfl rfl rfl) rfl rfl hl.1 rfl (lv_room (Nat.le_of_ble_eq_true rfl)) d_S_set_55 ⟨by decide, by decide⟩) hS (fun q _ h => hFc q h) hFc (fun u t H locs ht hvm hr0 hB hzq hkq hS => ?_)
              obtain ⟨My2z19, hP1, hD1⟩ := hB
              rw [ht] at hP1
              obtain ⟨hP, hD⟩ := va_join (wr := (wS54 cI cJ cZ cB p0 m0)) (w1 := (wS51 cI cJ cZ cB m0 m1 m2 m3 m4 Mx0_4 Mx0_5 Mx0_6 Mx0_7 Mx0_8 Mx0_9 Mx0_10 Mx0_11 Mx0_12 Mx0_13 My1 My2z19 Mx3_0 Mx4_0)) hP hD [1, 2, 3, 4, 5] [0] rfl rfl (by decide) (by decide) hkq hFc hP1 hD1
              have hP := hP.sub (ws' := ((wS54 cI cJ cZ cB p0 m0) ++ (wS51 cI cJ cZ cB m0 m1 m2 m3 m4 Mx0_4 Mx0_5 Mx0_6 Mx0_7 Mx0_8 Mx0_9 Mx0_10 Mx0_11 Mx0_12 Mx0_13 My1 My2z19 Mx3_0 Mx4_0))) [0, 1, 2, 3, 4, 5] rfl
              have hD := hD.sub (ws' := ((wS54 cI cJ cZ cB p0 m0) ++ (wS51 cI cJ cZ cB m0 m1 m2 m3 m4 Mx0_4 Mx0_5 Mx0_6 Mx0_7 Mx0_8 Mx0_9 Mx0_10 Mx0_11 Mx0_12 Mx0_13 My1 My2z19 Mx3_0 Mx4_0))) [0, 1, 2, 3, 4, 5] (by decide) rfl
              have hP : va_P D classes ((wS54 cI cJ cZ cB p0 m0) ++ (wS51 cI cJ cZ cB m0 m1 m2 m3 m4 Mx0_4 Mx0_5 Mx0_6 Mx0_7 Mx0_8 Mx0_9 Mx0_10 Mx0_11 Mx0_12 Mx0_13 My1 My2z19 Mx3_0 Mx4_0)) H := hP
              have hD : va_D A ((wS54 cI cJ cZ cB p0 m0) ++ (wS51 cI cJ cZ cB m0 m1 m2 m3 m4 Mx0_4 Mx0_5 Mx0_6 Mx0_7 Mx0_8 Mx0_9 Mx0_10 Mx0_11 Mx0_12 Mx0_13 My1 My2z19 Mx3_0 Mx4_0)) := hD
              clear hPc hDc hFc
              refine lv_iconst (v := 1) hx hb d_S_set_58 (by decide) ?_
              exact W.zret (v := (1 : Int32)) hx hb hr rfl (fun t ht hW => ⟨⟨(1 : Int32), (0 : Int32), rfl, ⟨rfl, by unfold f_cset; simp only [← hz1, ← hz3, ← hz5, if_neg c2, if_neg c4, if_neg c6, if_pos c13, if_pos c14, if_pos c17]⟩, ⟨_, isC_0, (by show va_P D classes _ t.heap; rw [ht]; exact hP), hD⟩⟩, hS.F ht⟩) hS.2.2 d_S_set_59
            · refine lv_iconst (v := 0) hx hb d_S_set_43 (by decide) ?_
              exact W.zret (v := (0 : Int32)) hx hb hr rfl (fun t ht hW => ⟨⟨(0 : Int32), (0 : Int32), rfl, ⟨rfl, by unfold f_cset; simp only [← hz1, ← hz3, ← hz5, if_neg c2, if_neg c4, if_neg c6, if_pos c13, if_pos c14, if_neg c17]⟩, ⟨_, isC_0, (by show va_P D classes _ t.heap; rw [ht]; exact hP), hD⟩⟩, hS.F ht⟩) hS.2.2 d_S_set_44
        · refine lv_iconst (v := 0) hx hb d_S_set_31 (by decide) ?_
          exact W.zret (v := (0 : Int32)) hx hb hr rfl (fun t ht hW => ⟨⟨(0 : Int32), (0 : Int32), rfl, ⟨rfl, by unfold f_cset; simp only [← hz1, ← hz3, ← hz5, if_neg c2, if_neg c4, if_neg c6, if_neg c13]⟩, ⟨_, isC_0, (by show va_P D classes _ t.heap; rw [ht]; exact hP), hD⟩⟩, hS.F ht⟩) hS.2.2 d_S_set_32
    · refine lv_iconst (v := 0) hx hb d_S_set_15 (by decide) ?_
      exact W.zret (v := (0 : Int32)) hx hb hr rfl (fun t ht hW => ⟨⟨(0 : Int32), (0 : Int32), rfl, ⟨rfl, by unfold f_cset; simp only [← hz1, ← hz3, if_neg c2, if_pos c4]⟩, ⟨_, isC_0, (by show va_P D classes _ t.heap; rw [ht]; exact hP), hD⟩⟩, hS.F ht⟩) hS.2.2 d_S_set_16
theorem v_S_set_b11 {R : Room} {s : State} {args : Array Value} {own : String} {index : Nat} (hk : ∀ w ∈ tb, w.before args s = true) (hl : Cond.methodLink own index y_S_set ∈ tb) (hR : 2 + 1 ≤ R.frames ∧ 8 + (4 + 11) + 40 ≤ R.locals) : CallW R s args own "SignMachine" index y_S_set b_S_set 4 (some .boolean) (.code y_S_set b_S_set 4 (some .boolean) :: tb) ({ frames := 2, cells := 0, slots := 0, locals := 40 }) 0 0 3 := mk_v 3 hk k_490 hl k_488 k_489 k_116 rfl rfl h_S_set hR
set_option maxHeartbeats 4000000 in
set_option maxRecDepth 100000 in
theorem c_S_state_b11 (l : Launch) (K : CK) (D : va_G) (cI cJ cZ cB : ClassId) (p0 m0 m1 m2 m3 m4 : Nat) (sz : Nat) (Mx0_4 : Bool) (Mx0_5 : Int32) (Mx0_6 : Int32) (Mx0_7 : Int32) (Mx0_8 : Int32) (Mx0_9 : Int32) (Mx0_10 : Int32) (Mx0_11 : Int32) (Mx0_12 : Int32) (Mx0_13 : Int32) (My1 : Nat → Int32) (My2 : Nat → Int32) (Mx3_0 : Int32) (Mx4_0 : Int32)  (a1 : Int32) : Met l y_S_state (.code y_S_state b_S_state 2 (some .int) :: tb) ({ frames := 1, cells := 0, slots := 0, locals := 21 }) (pMC K D cI cJ cZ cB ((wS54 cI cJ cZ cB p0 m0) ++ (wS51 cI cJ cZ cB m0 m1 m2 m3 m4 Mx0_4 Mx0_5 Mx0_6 Mx0_7 Mx0_8 Mx0_9 Mx0_10 Mx0_11 Mx0_12 Mx0_13 My1 My2 Mx3_0 Mx4_0)) sz [.ref p0, .int a1]) (va_Qi (fun r (uL : Int32) => uL = (0 : Int32)) (fun uL t => ∃ W9 : va_W, isC K cI cJ cZ cB p0 uL W9 ∧ va_P D classes W9 t.heap ∧ va_D (va_A ((wS54 cI cJ cZ cB p0 m0) ++ (wS51 cI cJ cZ cB m0 m1 m2 m3 m4 Mx0_4 Mx0_5 Mx0_6 Mx0_7 Mx0_8 Mx0_9 Mx0_10 Mx0_11 Mx0_12 Mx0_13 My1 My2 Mx3_0 Mx4_0)) sz) W9) (va_A ((wS54 cI cJ cZ cB p0 m0) ++ (wS51 cI cJ cZ cB m0 m1 m2 m3 m4 Mx0_4 Mx0_5 Mx0_6 Mx0_7 Mx0_8 Mx0_9 Mx0_10 Mx0_11 Mx0_12 Mx0_13 My1 My2 Mx3_0 Mx4_0)) sz)) 0 0 (va_A ((wS54 cI cJ cZ cB p0 m0) ++ (wS51 cI cJ cZ cB m0 m1 m2 m3 m4 Mx0_4 Mx0_5 Mx0_6 Mx0_7 Mx0_8 Mx0_9 Mx0_10 Mx0_11 Mx0_12 Mx0_13 My1 My2 Mx3_0 Mx4_0)) sz) := by
  refine Met.ofW (cc := b_S_state) (maxL := 2) (ret := (some .int)) (by decide) rfl ?_
  intro p e s m args below meth c s₁ B hml hv
  obtain ⟨rfl, hsz, hK, hP, hD0, hC⟩ := hv
  subst hsz
  have hD := hD0.self (sz := s.heap.size)
  generalize hAe : va_A ((wS54 cI cJ cZ cB p0 m0) ++ (wS51 cI cJ cZ cB m0 m1 m2 m3 m4 Mx0_4 Mx0_5 Mx0_6 Mx0_7 Mx0_8 Mx0_9 Mx0_10 Mx0_11 Mx0_12 Mx0_13 My1 My2 Mx3_0 Mx4_0)) s.heap.size = A at hD hC ⊢
  have hA : ∀ q : Nat, s.heap.size ≤ q → A q := fun q h => by rw [← hAe]; exact Or.inr h
  clear hAe hD0
  have hS : va_S A s.heap s.heap [] := va_S.rf
  have hx := B.exec
  have hb := B.bytes
  have hr := B.returns
  have hts := atoms_spec (ws := .code y_S_state b_S_state 2 (some .int) :: tb) B.pre
  have hk : ∀ w ∈ tb, w.before [.ref p0, .int a1].toArray s = true := fun w h => hts w (List.mem_cons_of_mem _ h)
  have hown : s.vm.findClass "SignMachine" = some m.cls := findClass_of_methodNamed B.named
  have hlocks := B.notSynchronized
  have hl := lv_entry ([.ref p0, .int a1]) (n := 2) (Nat.le_of_ble_eq_true rfl)
  rw [lg_entry_eq]
  generalize (lg_sl ([.ref p0, .int a1]) ++ List.replicate (2 - (lg_sl ([.ref p0, .int a1])).length) Slot.unset).toArray = ls at hl ⊢
  have hl : lv_has ls 2 [(0, .ref p0), (1, .int a1)] := hl
  refine lv_iload_n hx hb d_S_state_0 rfl (lv_at hl 1 rfl) ?_
  by_cases c1 : a1 = (0 : Int32)
  · refine lv_tableIn (off := 43) (tgt := 44) hx hb d_S_state_1 (by rw [c1]; decide) (by rw [c1]; decide) (by rw [c1]; rfl) (by decide) ?_
    refine lv_aload_n hx hb d_S_state_44 rfl (lv_at hl 0 rfl) ?_
    refine va_get (D := D) (ci := 0) (v := .ref m0) (C := "SignMachine") (T := F_S) (N := 2) hx hb hk fi_S hown hK.1 hP 0 rfl rfl 0 (by decide) (hk _ k_210) (fun _ h9 => h9) rfl d_S_state_45 ?_
    refine va_getN (D := D) (ci := 1) (v := .int Mx0_7) (C := "SignMachine$Machine") (T := F_M) (N := 14) hx hb hk fi_M hown hK.1 hP 1 rfl rfl 7 (by decide) (va_Nw.use rfl (hK.2 _ n_173)) (fun _ h9 => h9) rfl d_S_state_48 ?_
    exact W.iret (v := Mx0_7) hx hb hr (fun t ht hW => ⟨⟨Mx0_7, (0 : Int32), rfl, rfl, ⟨_, isC_0, (by show va_P D classes _ t.heap; rw [ht]; exact hP), hD⟩⟩, hS.F ht⟩) hS.2.2 d_S_state_51
  · by_cases c2 : a1 = (1 : Int32)
    · refine lv_tableIn (off := 51) (tgt := 52) hx hb d_S_state_1 (by rw [c2]; decide) (by rw [c2]; decide) (by rw [c2]; rfl) (by decide) ?_
      refine lv_aload_n hx hb d_S_state_52 rfl (lv_at hl 0 rfl) ?_
      refine va_get (D := D) (ci := 0) (v := .ref m0) (C := "SignMachine") (T := F_S) (N := 2) hx hb hk fi_S hown hK.1 hP 0 rfl rfl 0 (by decide) (hk _ k_210) (fun _ h9 => h9) rfl d_S_state_53 ?_
      refine va_getN (D := D) (ci := 1) (v := .int (bI Mx0_4)) (C := "SignMachine$Machine") (T := F_M) (N := 14) hx hb hk fi_M hown hK.1 hP 1 rfl rfl 4 (by decide) (va_Nw.use rfl (hK.2 _ n_167)) (fun _ h9 => h9) rfl d_S_state_56 ?_
      refine lv_if_eq (tgt := 66) hx hb d_S_state_59 (by decide) (fun c3 => ?_) (fun c3 => ?_)
      · refine lv_iconst (v := 0) hx hb d_S_state_66 (by decide) ?_
        exact W.iret (v := (0 : Int32)) hx hb hr (fun t ht hW => ⟨⟨(0 : Int32), (0 : Int32), rfl, rfl, ⟨_, isC_0, (by show va_P D classes _ t.heap; rw [ht]; exact hP), hD⟩⟩, hS.F ht⟩) hS.2.2 d_S_state_67
      · refine lv_iconst (v := 1) hx hb d_S_state_62 (by decide) ?_
        refine lv_goto (tgt := 67) hx hb d_S_state_63 (by decide) ?_
        exact W.iret (v := (1 : Int32)) hx hb hr (fun t ht hW => ⟨⟨(1 : Int32), (0 : Int32), rfl, rfl, ⟨_, isC_0, (by show va_P D classes _ t.heap; rw [ht]; exact hP), hD⟩⟩, hS.F ht⟩) hS.2.2 d_S_state_67
    · by_cases c4 : a1 = (2 : Int32)
      · refine lv_tableIn (off := 67) (tgt := 68) hx hb d_S_state_1 (by rw [c4]; decide) (by rw [c4]; decide) (by rw [c4]; rfl) (by decide) ?_
        refine lv_aload_n hx hb d_S_state_68 rfl (lv_at hl 0 rfl) ?_
        refine va_get (D := D) (ci := 0) (v := .ref m0) (C := "SignMachine") (T := F_S) (N := 2) hx hb hk fi_S hown hK.1 hP 0 rfl rfl 0 (by decide) (hk _ k_210) (fun _ h9 => h9) rfl d_S_state_69 ?_
        refine va_getN (D := D) (ci := 1) (v := .int Mx0_5) (C := "SignMachine$Machine") (T := F_M) (N := 14) hx hb hk fi_M hown hK.1 hP 1 rfl rfl 5 (by decide) (va_Nw.use rfl (hK.2 _ n_169)) (fun _ h9 => h9) rfl d_S_state_72 ?_
        exact W.iret (v := Mx0_5) hx hb hr (fun t ht hW => ⟨⟨Mx0_5, (0 : Int32), rfl, rfl, ⟨_, isC_0, (by show va_P D classes _ t.heap; rw [ht]; exact hP), hD⟩⟩, hS.F ht⟩) hS.2.2 d_S_state_75
      · by_cases c5 : a1 = (3 : Int32)
        · refine lv_tableIn (off := 75) (tgt := 76) hx hb d_S_state_1 (by rw [c5]; decide) (by rw [c5]; decide) (by rw [c5]; rfl) (by decide) ?_
          refine lv_aload_n hx hb d_S_state_76 rfl (lv_at hl 0 rfl) ?_
          refine va_get (D := D) (ci := 0) (v := .ref m0) (C := "SignMachine") (T := F_S) (N := 2) hx hb hk fi_S hown hK.1 hP 0 rfl rfl 0 (by decide) (hk _ k_210) (fun _ h9 => h9) rfl d_S_state_77 ?_
          refine va_getN (D := D) (ci := 1) (v := .int Mx0_6) (C := "SignMachine$Machine") (T := F_M) (N := 14) hx hb hk fi_M hown hK.1 hP 1 rfl rfl 6 (by decide) (va_Nw.use rfl (hK.2 _ n_171)) (fun _ h9 => h9) rfl d_S_state_80 ?_
          exact W.iret (v := Mx0_6) hx hb hr (fun t ht hW => ⟨⟨Mx0_6, (0 : Int32), rfl, rfl, ⟨_, isC_0, (by show va_P D classes _ t.heap; rw [ht]; exact hP), hD⟩⟩, hS.F ht⟩) hS.2.2 d_S_state_83
        · by_cases c6 : a1 = (4 : Int32)
          · refine lv_tableIn (off := 83) (tgt := 84) hx hb d_S_state_1 (by rw [c6]; decide) (by rw [c6]; decide) (by rw [c6]; rfl) (by decide) ?_
            refine lv_aload_n hx hb d_S_state_84 rfl (lv_at hl 0 rfl) ?_
            refine va_get (D := D) (ci := 0) (v := .ref m0) (C := "SignMachine") (T := F_S) (N := 2) hx hb hk fi_S hown hK.1 hP 0 rfl rfl 0 (by decide) (hk _ k_210) (fun _ h9 => h9) rfl d_S_state_85 ?_
            refine lv_iconst (v := 0) hx hb d_S_state_88 (by decide) ?_
            have hPc := hP.sub (ws' := (wS51 cI cJ cZ cB m0 m1 m2 m3 m4 Mx0_4 Mx0_5 Mx0_6 Mx0_7 Mx0_8 Mx0_9 Mx0_10 Mx0_11 Mx0_12 Mx0_13 My1 My2 Mx3_0 Mx4_0)) [1, 2, 3, 4, 5] rfl
            have hDc := hD.sub (ws' := (wS51 cI cJ cZ cB m0 m1 m2 m3 m4 Mx0_4 Mx0_5 Mx0_6 Mx0_7 Mx0_8 Mx0_9 Mx0_10 Mx0_11 Mx0_12 Mx0_13 My1 My2 Mx3_0 Mx4_0)) [1, 2, 3, 4, 5] (by decide) rfl
            have hFc := va_free (wc := (wS51 cI cJ cZ cB m0 m1 m2 m3 m4 Mx0_4 Mx0_5 Mx0_6 Mx0_7 Mx0_8 Mx0_9 Mx0_10 Mx0_11 Mx0_12 Mx0_13 My1 My2 Mx3_0 Mx4_0)) hD hS hA [1, 2, 3, 4, 5] rfl
            refine va_callq (va_runV (C := "SignMachine$Machine") (As := [.int (0 : Int32)]) (rest := []) ⟨hx, hb, hml, hown, hk⟩ (c_M_unit_s1 l K D cI cJ cZ cB m0 m1 m2 m3 m4 s.heap.size Mx0_4 Mx0_5 Mx0_6 Mx0_7 Mx0_8 Mx0_9 Mx0_10 Mx0_11 Mx0_12 Mx0_13 My1 My2 Mx3_0 Mx4_0 (0 : Int32) ) (v_M_unit_s1 hk k_499 ⟨Nat.le_of_ble_eq_true rfl, Nat.le_of_ble_eq_true rfl⟩) (pMC_v hK hPc hDc hC hS hA (ci := 1) (q0 := 0) rfl rfl rfl) rfl rfl hl.1 rfl (lv_room (Nat.le_of_ble_eq_true rfl)) d_S_state_89 ⟨by decide, by decide⟩) hS (fun q _ h => hFc q h) hFc (fun rz7 u t H locs ht hvm hr0 hB hzq hkq hS => ?_)
            obtain ⟨hP1, hD1⟩ := hB
            rw [ht] at hP1
            obtain ⟨hP, hD⟩ := va_join (wr := (wS54 cI cJ cZ cB p0 m0)) (w1 := (wS51 cI cJ cZ cB m0 m1 m2 m3 m4 Mx0_4 Mx0_5 Mx0_6 Mx0_7 Mx0_8 Mx0_9 Mx0_10 Mx0_11 Mx0_12 Mx0_13 My1 My2 Mx3_0 Mx4_0)) hP hD [1, 2, 3, 4, 5] [0] rfl rfl (by decide) (by decide) hkq hFc hP1 hD1
            have hP := hP.sub (ws' := ((wS54 cI cJ cZ cB p0 m0) ++ (wS51 cI cJ cZ cB m0 m1 m2 m3 m4 Mx0_4 Mx0_5 Mx0_6 Mx0_7 Mx0_8 Mx0_9 Mx0_10 Mx0_11 Mx0_12 Mx0_13 My1 My2 Mx3_0 Mx4_0))) [0, 1, 2, 3, 4, 5] rfl
            have hD := hD.sub (ws' := ((wS54 cI cJ cZ cB p0 m0) ++ (wS51 cI cJ cZ cB m0 m1 m2 m3 m4 Mx0_4 Mx0_5 Mx0_6 Mx0_7 Mx0_8 Mx0_9 Mx0_10 Mx0_11 Mx0_12 Mx0_13 My1 My2 Mx3_0 Mx4_0))) [0, 1, 2, 3, 4, 5] (by decide) rfl
            have hP : va_P D classes ((wS54 cI cJ cZ cB p0 m0) ++ (wS51 cI cJ cZ cB m0 m1 m2 m3 m4 Mx0_4 Mx0_5 Mx0_6 Mx0_7 Mx0_8 Mx0_9 Mx0_10 Mx0_11 Mx0_12 Mx0_13 My1 My2 Mx3_0 Mx4_0)) H := hP
            have hD : va_D A ((wS54 cI cJ cZ cB p0 m0) ++ (wS51 cI cJ cZ cB m0 m1 m2 m3 m4 Mx0_4 Mx0_5 Mx0_6 Mx0_7 Mx0_8 Mx0_9 Mx0_10 Mx0_11 Mx0_12 Mx0_13 My1 My2 Mx3_0 Mx4_0)) := hD
            clear hPc hDc hFc
            rcases hr0 with hr0 | hr0
            · subst hr0
              refine W.eq (g2 := F0 m 92 ls [.ref m3]) rfl ?_
              refine va_getN (D := D) (ci := 2) (v := .int Mx3_0) (C := "SignMachine$Tape") (T := F_T) (N := 2) hx hb hk fi_T hown hK.1 hP 4 rfl rfl 0 (by decide) (va_Nw.use rfl (hK.2 _ n_154)) (fun _ h9 => h9) rfl d_S_state_92 ?_
              exact W.iret (v := Mx3_0) hx hb hr (fun t ht hW => ⟨⟨Mx3_0, (0 : Int32), rfl, rfl, ⟨_, isC_0, (by show va_P D classes _ t.heap; rw [ht]; exact hP), hD⟩⟩, hS.F ht⟩) hS.2.2 d_S_state_95
            · subst hr0
              refine W.eq (g2 := F0 m 92 ls [.ref m4]) rfl ?_
              refine va_getN (D := D) (ci := 2) (v := .int Mx4_0) (C := "SignMachine$Tape") (T := F_T) (N := 2) hx hb hk fi_T hown hK.1 hP 5 rfl rfl 0 (by decide) (va_Nw.use rfl (hK.2 _ n_154)) (fun _ h9 => h9) rfl d_S_state_92 ?_
              exact W.iret (v := Mx4_0) hx hb hr (fun t ht hW => ⟨⟨Mx4_0, (0 : Int32), rfl, rfl, ⟨_, isC_0, (by show va_P D classes _ t.heap; rw [ht]; exact hP), hD⟩⟩, hS.F ht⟩) hS.2.2 d_S_state_95
          · by_cases c8 : a1 = (5 : Int32)
            · refine lv_tableIn (off := 95) (tgt := 96) hx hb d_S_state_1 (by rw [c8]; decide) (by rw [c8]; decide) (by rw [c8]; rfl) (by decide) ?_
              refine lv_aload_n hx hb d_S_state_96 rfl (lv_at hl 0 rfl) ?_
              refine va_get (D := D) (ci := 0) (v := .ref m0) (C := "SignMachine") (T := F_S) (N := 2) hx hb hk fi_S hown hK.1 hP 0 rfl rfl 0 (by decide) (hk _ k_210) (fun _ h9 => h9) rfl d_S_state_97 ?_
              refine lv_iconst (v := 1) hx hb d_S_state_100 (by decide) ?_
              have hPc := hP.sub (ws' := (wS51 cI cJ cZ cB m0 m1 m2 m3 m4 Mx0_4 Mx0_5 Mx0_6 Mx0_7 Mx0_8 Mx0_9 Mx0_10 Mx0_11 Mx0_12 Mx0_13 My1 My2 Mx3_0 Mx4_0)) [1, 2, 3, 4, 5] rfl
              have hDc := hD.sub (ws' := (wS51 cI cJ cZ cB m0 m1 m2 m3 m4 Mx0_4 Mx0_5 Mx0_6 Mx0_7 Mx0_8 Mx0_9 Mx0_10 Mx0_11 Mx0_12 Mx0_13 My1 My2 Mx3_0 Mx4_0)) [1, 2, 3, 4, 5] (by decide) rfl
              have hFc := va_free (wc := (wS51 cI cJ cZ cB m0 m1 m2 m3 m4 Mx0_4 Mx0_5 Mx0_6 Mx0_7 Mx0_8 Mx0_9 Mx0_10 Mx0_11 Mx0_12 Mx0_13 My1 My2 Mx3_0 Mx4_0)) hD hS hA [1, 2, 3, 4, 5] rfl
              refine va_callq (va_runV (C := "SignMachine$Machine") (As := [.int (1 : Int32)]) (rest := []) ⟨hx, hb, hml, hown, hk⟩ (c_M_unit_s1 l K D cI cJ cZ cB m0 m1 m2 m3 m4 s.heap.size Mx0_4 Mx0_5 Mx0_6 Mx0_7 Mx0_8 Mx0_9 Mx0_10 Mx0_11 Mx0_12 Mx0_13 My1 My2 Mx3_0 Mx4_0 (1 : Int32) ) (v_M_unit_s1 hk k_499 ⟨Nat.le_of_ble_eq_true rfl, Nat.le_of_ble_eq_true rfl⟩) (pMC_v hK hPc hDc hC hS hA (ci := 1) (q0 := 0) rfl rfl rfl) rfl rfl hl.1 rfl (lv_room (Nat.le_of_ble_eq_true rfl)) d_S_state_101 ⟨by decide, by decide⟩) hS (fun q _ h => hFc q h) hFc (fun rz9 u t H locs ht hvm hr0 hB hzq hkq hS => ?_)
              obtain ⟨hP1, hD1⟩ := hB
              rw [ht] at hP1
              obtain ⟨hP, hD⟩ := va_join (wr := (wS54 cI cJ cZ cB p0 m0)) (w1 := (wS51 cI cJ cZ cB m0 m1 m2 m3 m4 Mx0_4 Mx0_5 Mx0_6 Mx0_7 Mx0_8 Mx0_9 Mx0_10 Mx0_11 Mx0_12 Mx0_13 My1 My2 Mx3_0 Mx4_0)) hP hD [1, 2, 3, 4, 5] [0] rfl rfl (by decide) (by decide) hkq hFc hP1 hD1
              have hP := hP.sub (ws' := ((wS54 cI cJ cZ cB p0 m0) ++ (wS51 cI cJ cZ cB m0 m1 m2 m3 m4 Mx0_4 Mx0_5 Mx0_6 Mx0_7 Mx0_8 Mx0_9 Mx0_10 Mx0_11 Mx0_12 Mx0_13 My1 My2 Mx3_0 Mx4_0))) [0, 1, 2, 3, 4, 5] rfl
              have hD := hD.sub (ws' := ((wS54 cI cJ cZ cB p0 m0) ++ (wS51 cI cJ cZ cB m0 m1 m2 m3 m4 Mx0_4 Mx0_5 Mx0_6 Mx0_7 Mx0_8 Mx0_9 Mx0_10 Mx0_11 Mx0_12 Mx0_13 My1 My2 Mx3_0 Mx4_0))) [0, 1, 2, 3, 4, 5] (by decide) rfl
              have hP : va_P D classes ((wS54 cI cJ cZ cB p0 m0) ++ (wS51 cI cJ cZ cB m0 m1 m2 m3 m4 Mx0_4 Mx0_5 Mx0_6 Mx0_7 Mx0_8 Mx0_9 Mx0_10 Mx0_11 Mx0_12 Mx0_13 My1 My2 Mx3_0 Mx4_0)) H := hP
              have hD : va_D A ((wS54 cI cJ cZ cB p0 m0) ++ (wS51 cI cJ cZ cB m0 m1 m2 m3 m4 Mx0_4 Mx0_5 Mx0_6 Mx0_7 Mx0_8 Mx0_9 Mx0_10 Mx0_11 Mx0_12 Mx0_13 My1 My2 Mx3_0 Mx4_0)) := hD
              clear hPc hDc hFc
              rcases hr0 with hr0 | hr0
              · subst hr0
                refine W.eq (g2 := F0 m 104 ls [.ref m3]) rfl ?_
                refine va_getN (D := D) (ci := 2) (v := .int Mx3_0) (C := "SignMachine$Tape") (T := F_T) (N := 2) hx hb hk fi_T hown hK.1 hP 4 rfl rfl 0 (by decide) (va_Nw.use rfl (hK.2 _ n_154)) (fun _ h9 => h9) rfl d_S_state_104 ?_
                exact W.iret (v := Mx3_0) hx hb hr (fun t ht hW => ⟨⟨Mx3_0, (0 : Int32), rfl, rfl, ⟨_, isC_0, (by show va_P D classes _ t.heap; rw [ht]; exact hP), hD⟩⟩, hS.F ht⟩) hS.2.2 d_S_state_107
              · subst hr0
                refine W.eq (g2 := F0 m 104 ls [.ref m4]) rfl ?_
                refine va_getN (D := D) (ci := 2) (v := .int Mx4_0) (C := "SignMachine$Tape") (T := F_T) (N := 2) hx hb hk fi_T hown hK.1 hP 5 rfl rfl 0 (by decide) (va_Nw.use rfl (hK.2 _ n_154)) (fun _ h9 => h9) rfl d_S_state_104 ?_
                exact W.iret (v := Mx4_0) hx hb hr (fun t ht hW => ⟨⟨Mx4_0, (0 : Int32), rfl, rfl, ⟨_, isC_0, (by show va_P D classes _ t.heap; rw [ht]; exact hP), hD⟩⟩, hS.F ht⟩) hS.2.2 d_S_state_107
            · by_cases c10 : a1 = (6 : Int32)
              · refine lv_tableIn (off := 107) (tgt := 108) hx hb d_S_state_1 (by rw [c10]; decide) (by rw [c10]; decide) (by rw [c10]; rfl) (by decide) ?_
                refine lv_aload_n hx hb d_S_state_108 rfl (lv_at hl 0 rfl) ?_
                refine va_get (D := D) (ci := 0) (v := .ref m0) (C := "SignMachine") (T := F_S) (N := 2) hx hb hk fi_S hown hK.1 hP 0 rfl rfl 0 (by decide) (hk _ k_210) (fun _ h9 => h9) rfl d_S_state_109 ?_
                refine va_getN (D := D) (ci := 1) (v := .int Mx0_8) (C := "SignMachine$Machine") (T := F_M) (N := 14) hx hb hk fi_M hown hK.1 hP 1 rfl rfl 8 (by decide) (va_Nw.use rfl (hK.2 _ n_175)) (fun _ h9 => h9) rfl d_S_state_112 ?_
                exact W.iret (v := Mx0_8) hx hb hr (fun t ht hW => ⟨⟨Mx0_8, (0 : Int32), rfl, rfl, ⟨_, isC_0, (by show va_P D classes _ t.heap; rw [ht]; exact hP), hD⟩⟩, hS.F ht⟩) hS.2.2 d_S_state_115
              · refine lv_tableOut (tgt := 116) hx hb d_S_state_1 (by have e0 := lv_neT c1 (a := 0) rfl; have e1 := lv_neT c2 (a := 1) rfl; have e2 := lv_neT c4 (a := 2) rfl; have e3 := lv_neT c5 (a := 3) rfl; have e4 := lv_neT c6 (a := 4) rfl; have e5 := lv_neT c8 (a := 5) rfl; have e6 := lv_neT c10 (a := 6) rfl; omega) (by decide) ?_
                refine lv_bipush (v := (-2)) hx hb d_S_state_116 (by decide) ?_
                exact W.iret (v := (-2 : Int32)) hx hb hr (fun t ht hW => ⟨⟨(-2 : Int32), (0 : Int32), rfl, rfl, ⟨_, isC_0, (by show va_P D classes _ t.heap; rw [ht]; exact hP), hD⟩⟩, hS.F ht⟩) hS.2.2 d_S_state_118
theorem v_S_state_b11 {R : Room} {s : State} {args : Array Value} {own : String} {index : Nat} (hk : ∀ w ∈ tb, w.before args s = true) (hl : Cond.methodLink own index y_S_state ∈ tb) (hR : 1 + 1 ≤ R.frames ∧ 8 + (2 + 11) + 21 ≤ R.locals) : CallW R s args own "SignMachine" index y_S_state b_S_state 2 (some .int) (.code y_S_state b_S_state 2 (some .int) :: tb) ({ frames := 1, cells := 0, slots := 0, locals := 21 }) 0 0 1 := mk_v 1 hk k_498 hl k_496 k_497 k_116 rfl rfl h_S_state hR
set_option maxHeartbeats 4000000 in
set_option maxRecDepth 100000 in
theorem c_S_go_b11 (l : Launch) (K : CK) (D : va_G) (cI cJ cZ cB : ClassId) (p0 m0 m1 m2 m3 m4 : Nat) (sz : Nat) (Mx0_4 : Bool) (Mx0_5 : Int32) (Mx0_6 : Int32) (Mx0_7 : Int32) (Mx0_8 : Int32) (Mx0_9 : Int32) (Mx0_10 : Int32) (Mx0_11 : Int32) (Mx0_12 : Int32) (Mx0_13 : Int32) (My1 : Nat → Int32) (My2 : Nat → Int32) (Mx3_0 : Int32) (Mx4_0 : Int32)  (a1 : Int32) : Met l y_S_go (.code y_S_go b_S_go 2 (some .boolean) :: tb) ({ frames := 1, cells := 0, slots := 0, locals := 20 }) (pMC K D cI cJ cZ cB ((wS54 cI cJ cZ cB p0 m0) ++ (wS51 cI cJ cZ cB m0 m1 m2 m3 m4 Mx0_4 Mx0_5 Mx0_6 Mx0_7 Mx0_8 Mx0_9 Mx0_10 Mx0_11 Mx0_12 Mx0_13 My1 My2 Mx3_0 Mx4_0)) sz [.ref p0, .int a1]) (va_Qi (fun r (uL : Int32) => uL = (0 : Int32) ∧ r = (f_cgo a1)) (fun uL t => ∃ W9 : va_W, isC K cI cJ cZ cB p0 uL W9 ∧ va_P D classes W9 t.heap ∧ va_D (va_A ((wS54 cI cJ cZ cB p0 m0) ++ (wS51 cI cJ cZ cB m0 m1 m2 m3 m4 Mx0_4 Mx0_5 Mx0_6 Mx0_7 Mx0_8 Mx0_9 Mx0_10 Mx0_11 Mx0_12 Mx0_13 My1 My2 Mx3_0 Mx4_0)) sz) W9) (va_A ((wS54 cI cJ cZ cB p0 m0) ++ (wS51 cI cJ cZ cB m0 m1 m2 m3 m4 Mx0_4 Mx0_5 Mx0_6 Mx0_7 Mx0_8 Mx0_9 Mx0_10 Mx0_11 Mx0_12 Mx0_13 My1 My2 Mx3_0 Mx4_0)) sz)) 0 0 (va_A ((wS54 cI cJ cZ cB p0 m0) ++ (wS51 cI cJ cZ cB m0 m1 m2 m3 m4 Mx0_4 Mx0_5 Mx0_6 Mx0_7 Mx0_8 Mx0_9 Mx0_10 Mx0_11 Mx0_12 Mx0_13 My1 My2 Mx3_0 Mx4_0)) sz) := by
  refine Met.ofW (cc := b_S_go) (maxL := 2) (ret := (some .boolean)) (by decide) rfl ?_
  intro p e s m args below meth c s₁ B hml hv
  obtain ⟨rfl, hsz, hK, hP, hD0, hC⟩ := hv
  subst hsz
  have hD := hD0.self (sz := s.heap.size)
  generalize hAe : va_A ((wS54 cI cJ cZ cB p0 m0) ++ (wS51 cI cJ cZ cB m0 m1 m2 m3 m4 Mx0_4 Mx0_5 Mx0_6 Mx0_7 Mx0_8 Mx0_9 Mx0_10 Mx0_11 Mx0_12 Mx0_13 My1 My2 Mx3_0 Mx4_0)) s.heap.size = A at hD hC ⊢
  have hA : ∀ q : Nat, s.heap.size ≤ q → A q := fun q h => by rw [← hAe]; exact Or.inr h
  clear hAe hD0
  have hS : va_S A s.heap s.heap [] := va_S.rf
  have hx := B.exec
  have hb := B.bytes
  have hr := B.returns
  have hts := atoms_spec (ws := .code y_S_go b_S_go 2 (some .boolean) :: tb) B.pre
  have hk : ∀ w ∈ tb, w.before [.ref p0, .int a1].toArray s = true := fun w h => hts w (List.mem_cons_of_mem _ h)
  have hown : s.vm.findClass "SignMachine" = some m.cls := findClass_of_methodNamed B.named
  have hlocks := B.notSynchronized
  have hl := lv_entry ([.ref p0, .int a1]) (n := 2) (Nat.le_of_ble_eq_true rfl)
  rw [lg_entry_eq]
  generalize (lg_sl ([.ref p0, .int a1]) ++ List.replicate (2 - (lg_sl ([.ref p0, .int a1])).length) Slot.unset).toArray = ls at hl ⊢
  have hl : lv_has ls 2 [(0, .ref p0), (1, .int a1)] := hl
  refine lv_iload_n hx hb d_S_go_0 rfl (lv_at hl 1 rfl) ?_
  refine cs_i (W.runS (As := [.int a1]) (rest := []) ⟨hx, hb, hml, hown, hk⟩ (c_M_isAddress l a1) (s_M_isAddress hk k_221 ⟨Nat.le_of_ble_eq_true rfl, Nat.le_of_ble_eq_true rfl⟩) ⟨fun a U g mk q => q, fun U hU hW => ⟨rfl, trivial⟩⟩ rfl rfl hl.1 rfl (lv_room (Nat.le_of_ble_eq_true rfl)) d_S_go_1 ⟨Nat.le_of_ble_eq_true rfl, Nat.le_of_ble_eq_true rfl⟩) ?_
  obtain ⟨z1, hz1⟩ : ∃ y : Bool, y = (f_M_isAddress a1) := ⟨_, rfl⟩
  rw [← hz1]
  refine lv_if_ne (tgt := 9) hx hb d_S_go_4 (by decide) (fun c2 => ?_) (fun c2 => ?_)
  · refine lv_aload_n hx hb d_S_go_9 rfl (lv_at hl 0 rfl) ?_
    refine va_get (D := D) (ci := 0) (v := .ref m0) (C := "SignMachine") (T := F_S) (N := 2) hx hb hk fi_S hown hK.1 hP 0 rfl rfl 0 (by decide) (hk _ k_210) (fun _ h9 => h9) rfl d_S_go_10 ?_
    refine lv_iload_n hx hb d_S_go_13 rfl (lv_at hl 1 rfl) ?_
    refine va_putN (D := D) (ci := 1) (v := .int a1) (ty := .int) (C := "SignMachine$Machine") (T := F_M) (N := 14) hx hb hk fi_M ft_M ft_M_ok fn_M hown hK.1 hP hD hS 1 rfl rfl 7 (by decide) (va_Nw.use rfl (hK.2 _ n_173)) (fun _ h9 => h9) rfl (by decide +kernel) rfl rfl (Nat.le_of_ble_eq_true rfl) d_S_go_14 (fun H locs hP hD hS => ?_)
    have hP : va_P D classes ((wS54 cI cJ cZ cB p0 m0) ++ (wS51 cI cJ cZ cB m0 m1 m2 m3 m4 Mx0_4 Mx0_5 Mx0_6 a1 Mx0_8 Mx0_9 Mx0_10 Mx0_11 Mx0_12 Mx0_13 My1 My2 Mx3_0 Mx4_0)) H := hP
    have hD : va_D A ((wS54 cI cJ cZ cB p0 m0) ++ (wS51 cI cJ cZ cB m0 m1 m2 m3 m4 Mx0_4 Mx0_5 Mx0_6 a1 Mx0_8 Mx0_9 Mx0_10 Mx0_11 Mx0_12 Mx0_13 My1 My2 Mx3_0 Mx4_0)) := hD
    refine lv_iconst (v := 1) hx hb d_S_go_17 (by decide) ?_
    exact W.zret (v := (1 : Int32)) hx hb hr rfl (fun t ht hW => ⟨⟨(1 : Int32), (0 : Int32), rfl, ⟨rfl, by unfold f_cgo; simp only [← hz1, if_neg c2]⟩, ⟨_, isC_0, (by show va_P D classes _ t.heap; rw [ht]; exact hP), hD⟩⟩, hS.F ht⟩) hS.2.2 d_S_go_18
  · refine lv_iconst (v := 0) hx hb d_S_go_7 (by decide) ?_
    exact W.zret (v := (0 : Int32)) hx hb hr rfl (fun t ht hW => ⟨⟨(0 : Int32), (0 : Int32), rfl, ⟨rfl, by unfold f_cgo; simp only [← hz1, if_pos c2]⟩, ⟨_, isC_0, (by show va_P D classes _ t.heap; rw [ht]; exact hP), hD⟩⟩, hS.F ht⟩) hS.2.2 d_S_go_8
theorem v_S_go_b11 {R : Room} {s : State} {args : Array Value} {own : String} {index : Nat} (hk : ∀ w ∈ tb, w.before args s = true) (hl : Cond.methodLink own index y_S_go ∈ tb) (hR : 1 + 1 ≤ R.frames ∧ 8 + (2 + 11) + 20 ≤ R.locals) : CallW R s args own "SignMachine" index y_S_go b_S_go 2 (some .boolean) (.code y_S_go b_S_go 2 (some .boolean) :: tb) ({ frames := 1, cells := 0, slots := 0, locals := 20 }) 0 0 1 := mk_v 1 hk k_503 hl k_501 k_502 k_116 rfl rfl h_S_go hR
set_option maxHeartbeats 4000000 in
set_option maxRecDepth 100000 in
theorem c_S_tape_b11 (l : Launch) (K : CK) (D : va_G) (cI cJ cZ cB : ClassId) (p0 m0 m1 m2 m3 m4 : Nat) (sz : Nat) (Mx0_4 : Bool) (Mx0_5 : Int32) (Mx0_6 : Int32) (Mx0_7 : Int32) (Mx0_8 : Int32) (Mx0_9 : Int32) (Mx0_10 : Int32) (Mx0_11 : Int32) (Mx0_12 : Int32) (Mx0_13 : Int32) (My1 : Nat → Int32) (My2 : Nat → Int32) (Mx3_0 : Int32) (Mx4_0 : Int32)  (a1 : Int32) (a2 : Int32) (a3 : Int32) : Met l y_S_tape (.code y_S_tape b_S_tape 5 (some .int) :: tb) ({ frames := 2, cells := 0, slots := 0, locals := 43 }) (pMC K D cI cJ cZ cB ((wS54 cI cJ cZ cB p0 m0) ++ (wS51 cI cJ cZ cB m0 m1 m2 m3 m4 Mx0_4 Mx0_5 Mx0_6 Mx0_7 Mx0_8 Mx0_9 Mx0_10 Mx0_11 Mx0_12 Mx0_13 My1 My2 Mx3_0 Mx4_0)) sz [.ref p0, .int a1, .int a2, .int a3]) (va_Qi (fun r (uL : Int32) => uL = (0 : Int32)) (fun uL t => ∃ W9 : va_W, isC K cI cJ cZ cB p0 uL W9 ∧ va_P D classes W9 t.heap ∧ va_D (va_A ((wS54 cI cJ cZ cB p0 m0) ++ (wS51 cI cJ cZ cB m0 m1 m2 m3 m4 Mx0_4 Mx0_5 Mx0_6 Mx0_7 Mx0_8 Mx0_9 Mx0_10 Mx0_11 Mx0_12 Mx0_13 My1 My2 Mx3_0 Mx4_0)) sz) W9) (va_A ((wS54 cI cJ cZ cB p0 m0) ++ (wS51 cI cJ cZ cB m0 m1 m2 m3 m4 Mx0_4 Mx0_5 Mx0_6 Mx0_7 Mx0_8 Mx0_9 Mx0_10 Mx0_11 Mx0_12 Mx0_13 My1 My2 Mx3_0 Mx4_0)) sz)) 0 0 (va_A ((wS54 cI cJ cZ cB p0 m0) ++ (wS51 cI cJ cZ cB m0 m1 m2 m3 m4 Mx0_4 Mx0_5 Mx0_6 Mx0_7 Mx0_8 Mx0_9 Mx0_10 Mx0_11 Mx0_12 Mx0_13 My1 My2 Mx3_0 Mx4_0)) sz) := by
  refine Met.ofW (cc := b_S_tape) (maxL := 5) (ret := (some .int)) (by decide) rfl ?_
  intro p e s m args below meth c s₁ B hml hv
  obtain ⟨rfl, hsz, hK, hP, hD0, hC⟩ := hv
  subst hsz
  have hD := hD0.self (sz := s.heap.size)
  generalize hAe : va_A ((wS54 cI cJ cZ cB p0 m0) ++ (wS51 cI cJ cZ cB m0 m1 m2 m3 m4 Mx0_4 Mx0_5 Mx0_6 Mx0_7 Mx0_8 Mx0_9 Mx0_10 Mx0_11 Mx0_12 Mx0_13 My1 My2 Mx3_0 Mx4_0)) s.heap.size = A at hD hC ⊢
  have hA : ∀ q : Nat, s.heap.size ≤ q → A q := fun q h => by rw [← hAe]; exact Or.inr h
  clear hAe hD0
  have hS : va_S A s.heap s.heap [] := va_S.rf
  have hx := B.exec
  have hb := B.bytes
  have hr := B.returns
  have hts := atoms_spec (ws := .code y_S_tape b_S_tape 5 (some .int) :: tb) B.pre
  have hk : ∀ w ∈ tb, w.before [.ref p0, .int a1, .int a2, .int a3].toArray s = true := fun w h => hts w (List.mem_cons_of_mem _ h)
  have hown : s.vm.findClass "SignMachine" = some m.cls := findClass_of_methodNamed B.named
  have hlocks := B.notSynchronized
  have hl := lv_entry ([.ref p0, .int a1, .int a2, .int a3]) (n := 5) (Nat.le_of_ble_eq_true rfl)
  rw [lg_entry_eq]
  generalize (lg_sl ([.ref p0, .int a1, .int a2, .int a3]) ++ List.replicate (5 - (lg_sl ([.ref p0, .int a1, .int a2, .int a3])).length) Slot.unset).toArray = ls at hl ⊢
  have hl : lv_has ls 5 [(0, .ref p0), (1, .int a1), (2, .int a2), (3, .int a3)] := hl
  refine lv_iload_n hx hb d_S_tape_0 rfl (lv_at hl 1 rfl) ?_
  refine lv_if_lt (tgt := 17) hx hb d_S_tape_1 (by decide) (fun c1 => ?_) (fun c1 => ?_)
  · refine lv_ldc (v := (-2000000000)) hx hb hown (hk _ k_509) d_S_tape_17 ?_
    exact W.iret (v := (-2000000000 : Int32)) hx hb hr (fun t ht hW => ⟨⟨(-2000000000 : Int32), (0 : Int32), rfl, rfl, ⟨_, isC_0, (by show va_P D classes _ t.heap; rw [ht]; exact hP), hD⟩⟩, hS.F ht⟩) hS.2.2 d_S_tape_19
  · refine lv_iload_n hx hb d_S_tape_4 rfl (lv_at hl 1 rfl) ?_
    refine lv_iconst (v := 1) hx hb d_S_tape_5 (by decide) ?_
    refine lv_icmp_gt (tgt := 17) hx hb d_S_tape_6 (by decide) (fun c2 => ?_) (fun c2 => ?_)
    · refine lv_ldc (v := (-2000000000)) hx hb hown (hk _ k_509) d_S_tape_17 ?_
      exact W.iret (v := (-2000000000 : Int32)) hx hb hr (fun t ht hW => ⟨⟨(-2000000000 : Int32), (0 : Int32), rfl, rfl, ⟨_, isC_0, (by show va_P D classes _ t.heap; rw [ht]; exact hP), hD⟩⟩, hS.F ht⟩) hS.2.2 d_S_tape_19
    · refine lv_iload_n hx hb d_S_tape_9 rfl (lv_at hl 2 rfl) ?_
      refine lv_iload_n hx hb d_S_tape_10 rfl (lv_at hl 3 rfl) ?_
      refine cs_i (W.runS (As := [.int a2, .int a3]) (rest := []) ⟨hx, hb, hml, hown, hk⟩ (c_T_isWord l a2 a3) (s_T_isWord hk k_508 ⟨Nat.le_of_ble_eq_true rfl, Nat.le_of_ble_eq_true rfl⟩) ⟨fun a U g mk q => q, fun U hU hW => ⟨rfl, trivial⟩⟩ rfl rfl hl.1 rfl (lv_room (Nat.le_of_ble_eq_true rfl)) d_S_tape_11 ⟨Nat.le_of_ble_eq_true rfl, Nat.le_of_ble_eq_true rfl⟩) ?_
      obtain ⟨z3, hz3⟩ : ∃ y : Bool, y = (f_T_isWord a2 a3) := ⟨_, rfl⟩
      rw [← hz3]
      refine lv_if_ne (tgt := 20) hx hb d_S_tape_14 (by decide) (fun c4 => ?_) (fun c4 => ?_)
      · refine lv_aload_n hx hb d_S_tape_20 rfl (lv_at hl 0 rfl) ?_
        refine va_get (D := D) (ci := 0) (v := .ref m0) (C := "SignMachine") (T := F_S) (N := 2) hx hb hk fi_S hown hK.1 hP 0 rfl rfl 0 (by decide) (hk _ k_210) (fun _ h9 => h9) rfl d_S_tape_21 ?_
        refine lv_iload_n hx hb d_S_tape_24 rfl (lv_at hl 1 rfl) ?_
        have hPc := hP.sub (ws' := (wS51 cI cJ cZ cB m0 m1 m2 m3 m4 Mx0_4 Mx0_5 Mx0_6 Mx0_7 Mx0_8 Mx0_9 Mx0_10 Mx0_11 Mx0_12 Mx0_13 My1 My2 Mx3_0 Mx4_0)) [1, 2, 3, 4, 5] rfl
        have hDc := hD.sub (ws' := (wS51 cI cJ cZ cB m0 m1 m2 m3 m4 Mx0_4 Mx0_5 Mx0_6 Mx0_7 Mx0_8 Mx0_9 Mx0_10 Mx0_11 Mx0_12 Mx0_13 My1 My2 Mx3_0 Mx4_0)) [1, 2, 3, 4, 5] (by decide) rfl
        have hFc := va_free (wc := (wS51 cI cJ cZ cB m0 m1 m2 m3 m4 Mx0_4 Mx0_5 Mx0_6 Mx0_7 Mx0_8 Mx0_9 Mx0_10 Mx0_11 Mx0_12 Mx0_13 My1 My2 Mx3_0 Mx4_0)) hD hS hA [1, 2, 3, 4, 5] rfl
        refine va_callq (va_runV (C := "SignMachine$Machine") (As := [.int a1]) (rest := []) ⟨hx, hb, hml, hown, hk⟩ (c_M_unit_s1 l K D cI cJ cZ cB m0 m1 m2 m3 m4 s.heap.size Mx0_4 Mx0_5 Mx0_6 Mx0_7 Mx0_8 Mx0_9 Mx0_10 Mx0_11 Mx0_12 Mx0_13 My1 My2 Mx3_0 Mx4_0 a1 ) (v_M_unit_s1 hk k_499 ⟨Nat.le_of_ble_eq_true rfl, Nat.le_of_ble_eq_true rfl⟩) (pMC_v hK hPc hDc hC hS hA (ci := 1) (q0 := 0) rfl rfl rfl) rfl rfl hl.1 rfl (lv_room (Nat.le_of_ble_eq_true rfl)) d_S_tape_25 ⟨by decide, by decide⟩) hS (fun q _ h => hFc q h) hFc (fun rz5 u t H locs ht hvm hr0 hB hzq hkq hS => ?_)
        obtain ⟨hP1, hD1⟩ := hB
        rw [ht] at hP1
        obtain ⟨hP, hD⟩ := va_join (wr := (wS54 cI cJ cZ cB p0 m0)) (w1 := (wS51 cI cJ cZ cB m0 m1 m2 m3 m4 Mx0_4 Mx0_5 Mx0_6 Mx0_7 Mx0_8 Mx0_9 Mx0_10 Mx0_11 Mx0_12 Mx0_13 My1 My2 Mx3_0 Mx4_0)) hP hD [1, 2, 3, 4, 5] [0] rfl rfl (by decide) (by decide) hkq hFc hP1 hD1
        have hP := hP.sub (ws' := ((wS54 cI cJ cZ cB p0 m0) ++ (wS51 cI cJ cZ cB m0 m1 m2 m3 m4 Mx0_4 Mx0_5 Mx0_6 Mx0_7 Mx0_8 Mx0_9 Mx0_10 Mx0_11 Mx0_12 Mx0_13 My1 My2 Mx3_0 Mx4_0))) [0, 1, 2, 3, 4, 5] rfl
        have hD := hD.sub (ws' := ((wS54 cI cJ cZ cB p0 m0) ++ (wS51 cI cJ cZ cB m0 m1 m2 m3 m4 Mx0_4 Mx0_5 Mx0_6 Mx0_7 Mx0_8 Mx0_9 Mx0_10 Mx0_11 Mx0_12 Mx0_13 My1 My2 Mx3_0 Mx4_0))) [0, 1, 2, 3, 4, 5] (by decide) rfl
        have hP : va_P D classes ((wS54 cI cJ cZ cB p0 m0) ++ (wS51 cI cJ cZ cB m0 m1 m2 m3 m4 Mx0_4 Mx0_5 Mx0_6 Mx0_7 Mx0_8 Mx0_9 Mx0_10 Mx0_11 Mx0_12 Mx0_13 My1 My2 Mx3_0 Mx4_0)) H := hP
        have hD : va_D A ((wS54 cI cJ cZ cB p0 m0) ++ (wS51 cI cJ cZ cB m0 m1 m2 m3 m4 Mx0_4 Mx0_5 Mx0_6 Mx0_7 Mx0_8 Mx0_9 Mx0_10 Mx0_11 Mx0_12 Mx0_13 My1 My2 Mx3_0 Mx4_0)) := hD
        clear hPc hDc hFc
        rcases hr0 with hr0 | hr0
        · subst hr0
          refine W.eq (g2 := F0 m 28 ls [.ref m3]) rfl ?_
          refine lv_iload_n hx hb d_S_tape_28 rfl (lv_at hl 2 rfl) ?_
          refine lv_iload_n hx hb d_S_tape_29 rfl (lv_at hl 3 rfl) ?_
          have hPc := hP.sub (ws' := (wS51 cI cJ cZ cB m0 m1 m2 m3 m4 Mx0_4 Mx0_5 Mx0_6 Mx0_7 Mx0_8 Mx0_9 Mx0_10 Mx0_11 Mx0_12 Mx0_13 My1 My2 Mx3_0 Mx4_0)) [1, 2, 3, 4, 5] rfl
          have hDc := hD.sub (ws' := (wS51 cI cJ cZ cB m0 m1 m2 m3 m4 Mx0_4 Mx0_5 Mx0_6 Mx0_7 Mx0_8 Mx0_9 Mx0_10 Mx0_11 Mx0_12 Mx0_13 My1 My2 Mx3_0 Mx4_0)) [1, 2, 3, 4, 5] (by decide) rfl
          have hFc := va_free (wc := (wS51 cI cJ cZ cB m0 m1 m2 m3 m4 Mx0_4 Mx0_5 Mx0_6 Mx0_7 Mx0_8 Mx0_9 Mx0_10 Mx0_11 Mx0_12 Mx0_13 My1 My2 Mx3_0 Mx4_0)) hD hS hA [1, 2, 3, 4, 5] rfl
          refine va_calli (va_runV (C := "SignMachine$Tape") (As := [.int a2, .int a3]) (rest := []) ⟨hx, hb, hml, hown, hk⟩ (c_T_wordAt_s1 l K D cI cJ cZ cB m0 m1 m2 m3 m4 H.size Mx0_4 Mx0_5 Mx0_6 Mx0_7 Mx0_8 Mx0_9 Mx0_10 Mx0_11 Mx0_12 Mx0_13 My1 My2 Mx3_0 Mx4_0 a2 a3 ) (v_T_wordAt_s1 hk k_510 ⟨Nat.le_of_ble_eq_true rfl, Nat.le_of_ble_eq_true rfl⟩) (pMC_v hK hPc hDc hC hS hA (ci := 2) (q0 := 3) rfl rfl rfl) rfl rfl hl.1 rfl (lv_room (Nat.le_of_ble_eq_true rfl)) d_S_tape_30 ⟨by decide, by decide⟩) hS (fun q _ h => hFc q h) hFc (fun rz6 u t H locs ht hvm hr0 hB hzq hkq hS => ?_)
          obtain ⟨hP1, hD1⟩ := hB
          rw [ht] at hP1
          obtain ⟨hP, hD⟩ := va_join (wr := (wS54 cI cJ cZ cB p0 m0)) (w1 := (wS51 cI cJ cZ cB m0 m1 m2 m3 m4 Mx0_4 Mx0_5 Mx0_6 Mx0_7 Mx0_8 Mx0_9 Mx0_10 Mx0_11 Mx0_12 Mx0_13 My1 My2 Mx3_0 Mx4_0)) hP hD [1, 2, 3, 4, 5] [0] rfl rfl (by decide) (by decide) hkq hFc hP1 hD1
          have hP := hP.sub (ws' := ((wS54 cI cJ cZ cB p0 m0) ++ (wS51 cI cJ cZ cB m0 m1 m2 m3 m4 Mx0_4 Mx0_5 Mx0_6 Mx0_7 Mx0_8 Mx0_9 Mx0_10 Mx0_11 Mx0_12 Mx0_13 My1 My2 Mx3_0 Mx4_0))) [0, 1, 2, 3, 4, 5] rfl
          have hD := hD.sub (ws' := ((wS54 cI cJ cZ cB p0 m0) ++ (wS51 cI cJ cZ cB m0 m1 m2 m3 m4 Mx0_4 Mx0_5 Mx0_6 Mx0_7 Mx0_8 Mx0_9 Mx0_10 Mx0_11 Mx0_12 Mx0_13 My1 My2 Mx3_0 Mx4_0))) [0, 1, 2, 3, 4, 5] (by decide) rfl
          have hP : va_P D classes ((wS54 cI cJ cZ cB p0 m0) ++ (wS51 cI cJ cZ cB m0 m1 m2 m3 m4 Mx0_4 Mx0_5 Mx0_6 Mx0_7 Mx0_8 Mx0_9 Mx0_10 Mx0_11 Mx0_12 Mx0_13 My1 My2 Mx3_0 Mx4_0)) H := hP
          have hD : va_D A ((wS54 cI cJ cZ cB p0 m0) ++ (wS51 cI cJ cZ cB m0 m1 m2 m3 m4 Mx0_4 Mx0_5 Mx0_6 Mx0_7 Mx0_8 Mx0_9 Mx0_10 Mx0_11 Mx0_12 Mx0_13 My1 My2 Mx3_0 Mx4_0)) := hD
          clear hPc hDc hFc
          refine lv_istore (lv' := [(4, .int rz6), (0, .ref p0), (1, .int a1), (2, .int a2), (3, .int a3)]) hx hb d_S_tape_33 hl (by decide) rfl (fun ls hl => ?_)
          refine lv_iload hx hb d_S_tape_35 (lv_at hl 0 rfl) ?_
          refine lv_ldc (v := 1073741824) hx hb hown (hk _ k_511) d_S_tape_37 ?_
          refine lv_icmp_ne (tgt := 47) hx hb d_S_tape_39 (by decide) (fun c7 => ?_) (fun c7 => ?_)
          · refine lv_iload hx hb d_S_tape_47 (lv_at hl 0 rfl) ?_
            refine cs_i (W.runS (As := [.int rz6]) (rest := []) ⟨hx, hb, hml, hown, hk⟩ (c_W_number l rz6) (s_W_number hk k_513 ⟨Nat.le_of_ble_eq_true rfl, Nat.le_of_ble_eq_true rfl⟩) ⟨fun a U g mk q => q, fun U hU hW => ⟨rfl, trivial⟩⟩ rfl rfl hl.1 rfl (lv_room (Nat.le_of_ble_eq_true rfl)) d_S_tape_49 ⟨Nat.le_of_ble_eq_true rfl, Nat.le_of_ble_eq_true rfl⟩) ?_
            refine lv_topi (fun v8 hv8 => ?_)
            exact W.iret (v := v8) hx hb hr (fun t ht hW => ⟨⟨v8, (0 : Int32), rfl, rfl, ⟨_, isC_0, (by show va_P D classes _ t.heap; rw [ht]; exact hP), hD⟩⟩, hS.F ht⟩) hS.2.2 d_S_tape_52
          · refine lv_ldc (v := (-1073741824)) hx hb hown (hk _ k_512) d_S_tape_42 ?_
            refine lv_goto (tgt := 52) hx hb d_S_tape_44 (by decide) ?_
            exact W.iret (v := (-1073741824 : Int32)) hx hb hr (fun t ht hW => ⟨⟨(-1073741824 : Int32), (0 : Int32), rfl, rfl, ⟨_, isC_0, (by show va_P D classes _ t.heap; rw [ht]; exact hP), hD⟩⟩, hS.F ht⟩) hS.2.2 d_S_tape_52
        · subst hr0
          refine W.eq (g2 := F0 m 28 ls [.ref m4]) rfl ?_
          refine lv_iload_n hx hb d_S_tape_28 rfl (lv_at hl 2 rfl) ?_
          refine lv_iload_n hx hb d_S_tape_29 rfl (lv_at hl 3 rfl) ?_
          have hPc := hP.sub (ws' := (wS51 cI cJ cZ cB m0 m1 m2 m3 m4 Mx0_4 Mx0_5 Mx0_6 Mx0_7 Mx0_8 Mx0_9 Mx0_10 Mx0_11 Mx0_12 Mx0_13 My1 My2 Mx3_0 Mx4_0)) [1, 2, 3, 4, 5] rfl
          have hDc := hD.sub (ws' := (wS51 cI cJ cZ cB m0 m1 m2 m3 m4 Mx0_4 Mx0_5 Mx0_6 Mx0_7 Mx0_8 Mx0_9 Mx0_10 Mx0_11 Mx0_12 Mx0_13 My1 My2 Mx3_0 Mx4_0)) [1, 2, 3, 4, 5] (by decide) rfl
          have hFc := va_free (wc := (wS51 cI cJ cZ cB m0 m1 m2 m3 m4 Mx0_4 Mx0_5 Mx0_6 Mx0_7 Mx0_8 Mx0_9 Mx0_10 Mx0_11 Mx0_12 Mx0_13 My1 My2 Mx3_0 Mx4_0)) hD hS hA [1, 2, 3, 4, 5] rfl
          refine va_calli (va_runV (C := "SignMachine$Tape") (As := [.int a2, .int a3]) (rest := []) ⟨hx, hb, hml, hown, hk⟩ (c_T_wordAt_s2 l K D cI cJ cZ cB m0 m1 m2 m3 m4 H.size Mx0_4 Mx0_5 Mx0_6 Mx0_7 Mx0_8 Mx0_9 Mx0_10 Mx0_11 Mx0_12 Mx0_13 My1 My2 Mx3_0 Mx4_0 a2 a3 ) (v_T_wordAt_s2 hk k_510 ⟨Nat.le_of_ble_eq_true rfl, Nat.le_of_ble_eq_true rfl⟩) (pMC_v hK hPc hDc hC hS hA (ci := 2) (q0 := 4) rfl rfl rfl) rfl rfl hl.1 rfl (lv_room (Nat.le_of_ble_eq_true rfl)) d_S_tape_30 ⟨by decide, by decide⟩) hS (fun q _ h => hFc q h) hFc (fun rz9 u t H locs ht hvm hr0 hB hzq hkq hS => ?_)
          obtain ⟨hP1, hD1⟩ := hB
          rw [ht] at hP1
          obtain ⟨hP, hD⟩ := va_join (wr := (wS54 cI cJ cZ cB p0 m0)) (w1 := (wS51 cI cJ cZ cB m0 m1 m2 m3 m4 Mx0_4 Mx0_5 Mx0_6 Mx0_7 Mx0_8 Mx0_9 Mx0_10 Mx0_11 Mx0_12 Mx0_13 My1 My2 Mx3_0 Mx4_0)) hP hD [1, 2, 3, 4, 5] [0] rfl rfl (by decide) (by decide) hkq hFc hP1 hD1
          have hP := hP.sub (ws' := ((wS54 cI cJ cZ cB p0 m0) ++ (wS51 cI cJ cZ cB m0 m1 m2 m3 m4 Mx0_4 Mx0_5 Mx0_6 Mx0_7 Mx0_8 Mx0_9 Mx0_10 Mx0_11 Mx0_12 Mx0_13 My1 My2 Mx3_0 Mx4_0))) [0, 1, 2, 3, 4, 5] rfl
          have hD := hD.sub (ws' := ((wS54 cI cJ cZ cB p0 m0) ++ (wS51 cI cJ cZ cB m0 m1 m2 m3 m4 Mx0_4 Mx0_5 Mx0_6 Mx0_7 Mx0_8 Mx0_9 Mx0_10 Mx0_11 Mx0_12 Mx0_13 My1 My2 Mx3_0 Mx4_0))) [0, 1, 2, 3, 4, 5] (by decide) rfl
          have hP : va_P D classes ((wS54 cI cJ cZ cB p0 m0) ++ (wS51 cI cJ cZ cB m0 m1 m2 m3 m4 Mx0_4 Mx0_5 Mx0_6 Mx0_7 Mx0_8 Mx0_9 Mx0_10 Mx0_11 Mx0_12 Mx0_13 My1 My2 Mx3_0 Mx4_0)) H := hP
          have hD : va_D A ((wS54 cI cJ cZ cB p0 m0) ++ (wS51 cI cJ cZ cB m0 m1 m2 m3 m4 Mx0_4 Mx0_5 Mx0_6 Mx0_7 Mx0_8 Mx0_9 Mx0_10 Mx0_11 Mx0_12 Mx0_13 My1 My2 Mx3_0 Mx4_0)) := hD
          clear hPc hDc hFc
          refine lv_istore (lv' := [(4, .int rz9), (0, .ref p0), (1, .int a1), (2, .int a2), (3, .int a3)]) hx hb d_S_tape_33 hl (by decide) rfl (fun ls hl => ?_)
          refine lv_iload hx hb d_S_tape_35 (lv_at hl 0 rfl) ?_
          refine lv_ldc (v := 1073741824) hx hb hown (hk _ k_511) d_S_tape_37 ?_
          refine lv_icmp_ne (tgt := 47) hx hb d_S_tape_39 (by decide) (fun c10 => ?_) (fun c10 => ?_)
          · refine lv_iload hx hb d_S_tape_47 (lv_at hl 0 rfl) ?_
            refine cs_i (W.runS (As := [.int rz9]) (rest := []) ⟨hx, hb, hml, hown, hk⟩ (c_W_number l rz9) (s_W_number hk k_513 ⟨Nat.le_of_ble_eq_true rfl, Nat.le_of_ble_eq_true rfl⟩) ⟨fun a U g mk q => q, fun U hU hW => ⟨rfl, trivial⟩⟩ rfl rfl hl.1 rfl (lv_room (Nat.le_of_ble_eq_true rfl)) d_S_tape_49 ⟨Nat.le_of_ble_eq_true rfl, Nat.le_of_ble_eq_true rfl⟩) ?_
            refine lv_topi (fun v11 hv11 => ?_)
            exact W.iret (v := v11) hx hb hr (fun t ht hW => ⟨⟨v11, (0 : Int32), rfl, rfl, ⟨_, isC_0, (by show va_P D classes _ t.heap; rw [ht]; exact hP), hD⟩⟩, hS.F ht⟩) hS.2.2 d_S_tape_52
          · refine lv_ldc (v := (-1073741824)) hx hb hown (hk _ k_512) d_S_tape_42 ?_
            refine lv_goto (tgt := 52) hx hb d_S_tape_44 (by decide) ?_
            exact W.iret (v := (-1073741824 : Int32)) hx hb hr (fun t ht hW => ⟨⟨(-1073741824 : Int32), (0 : Int32), rfl, rfl, ⟨_, isC_0, (by show va_P D classes _ t.heap; rw [ht]; exact hP), hD⟩⟩, hS.F ht⟩) hS.2.2 d_S_tape_52
      · refine lv_ldc (v := (-2000000000)) hx hb hown (hk _ k_509) d_S_tape_17 ?_
        exact W.iret (v := (-2000000000 : Int32)) hx hb hr (fun t ht hW => ⟨⟨(-2000000000 : Int32), (0 : Int32), rfl, rfl, ⟨_, isC_0, (by show va_P D classes _ t.heap; rw [ht]; exact hP), hD⟩⟩, hS.F ht⟩) hS.2.2 d_S_tape_19
theorem v_S_tape_b11 {R : Room} {s : State} {args : Array Value} {own : String} {index : Nat} (hk : ∀ w ∈ tb, w.before args s = true) (hl : Cond.methodLink own index y_S_tape ∈ tb) (hR : 2 + 1 ≤ R.frames ∧ 8 + (5 + 11) + 43 ≤ R.locals) : CallW R s args own "SignMachine" index y_S_tape b_S_tape 5 (some .int) (.code y_S_tape b_S_tape 5 (some .int) :: tb) ({ frames := 2, cells := 0, slots := 0, locals := 43 }) 0 0 3 := mk_v 3 hk k_507 hl k_505 k_506 k_116 rfl rfl h_S_tape hR
set_option maxHeartbeats 4000000 in
set_option maxRecDepth 100000 in
theorem c_S_step_b11 (l : Launch) (K : CK) (D : va_G) (cI cJ cZ cB : ClassId) (p0 m0 m1 m2 m3 m4 : Nat) (sz : Nat) (Mx0_4 : Bool) (Mx0_5 : Int32) (Mx0_6 : Int32) (Mx0_7 : Int32) (Mx0_8 : Int32) (Mx0_9 : Int32) (Mx0_10 : Int32) (Mx0_11 : Int32) (Mx0_12 : Int32) (Mx0_13 : Int32) (My1 : Nat → Int32) (My2 : Nat → Int32) (Mx3_0 : Int32) (Mx4_0 : Int32)   : Met l y_S_step (.code y_S_step b_S_step 1 (some .int) :: tb) ({ frames := 7, cells := 1, slots := 4000, locals := 151 }) (pMC K D cI cJ cZ cB ((wS54 cI cJ cZ cB p0 m0) ++ (wS51 cI cJ cZ cB m0 m1 m2 m3 m4 Mx0_4 Mx0_5 Mx0_6 Mx0_7 Mx0_8 Mx0_9 Mx0_10 Mx0_11 Mx0_12 Mx0_13 My1 My2 Mx3_0 Mx4_0)) sz [.ref p0]) (va_Qi (fun r (uL : Int32) => uL = (0 : Int32)) (fun uL t => ∃ W9 : va_W, isC K cI cJ cZ cB p0 uL W9 ∧ va_P D classes W9 t.heap ∧ va_D (va_A ((wS54 cI cJ cZ cB p0 m0) ++ (wS51 cI cJ cZ cB m0 m1 m2 m3 m4 Mx0_4 Mx0_5 Mx0_6 Mx0_7 Mx0_8 Mx0_9 Mx0_10 Mx0_11 Mx0_12 Mx0_13 My1 My2 Mx3_0 Mx4_0)) sz) W9) (va_A ((wS54 cI cJ cZ cB p0 m0) ++ (wS51 cI cJ cZ cB m0 m1 m2 m3 m4 Mx0_4 Mx0_5 Mx0_6 Mx0_7 Mx0_8 Mx0_9 Mx0_10 Mx0_11 Mx0_12 Mx0_13 My1 My2 Mx3_0 Mx4_0)) sz)) 1 4000 (va_A ((wS54 cI cJ cZ cB p0 m0) ++ (wS51 cI cJ cZ cB m0 m1 m2 m3 m4 Mx0_4 Mx0_5 Mx0_6 Mx0_7 Mx0_8 Mx0_9 Mx0_10 Mx0_11 Mx0_12 Mx0_13 My1 My2 Mx3_0 Mx4_0)) sz) := by
  refine Met.ofW (cc := b_S_step) (maxL := 1) (ret := (some .int)) (by decide) rfl ?_
  intro p e s m args below meth c s₁ B hml hv
  obtain ⟨rfl, hsz, hK, hP, hD0, hC⟩ := hv
  subst hsz
  have hD := hD0.self (sz := s.heap.size)
  generalize hAe : va_A ((wS54 cI cJ cZ cB p0 m0) ++ (wS51 cI cJ cZ cB m0 m1 m2 m3 m4 Mx0_4 Mx0_5 Mx0_6 Mx0_7 Mx0_8 Mx0_9 Mx0_10 Mx0_11 Mx0_12 Mx0_13 My1 My2 Mx3_0 Mx4_0)) s.heap.size = A at hD hC ⊢
  have hA : ∀ q : Nat, s.heap.size ≤ q → A q := fun q h => by rw [← hAe]; exact Or.inr h
  clear hAe hD0
  have hS : va_S A s.heap s.heap [] := va_S.rf
  have hx := B.exec
  have hb := B.bytes
  have hr := B.returns
  have hts := atoms_spec (ws := .code y_S_step b_S_step 1 (some .int) :: tb) B.pre
  have hk : ∀ w ∈ tb, w.before [.ref p0].toArray s = true := fun w h => hts w (List.mem_cons_of_mem _ h)
  have hown : s.vm.findClass "SignMachine" = some m.cls := findClass_of_methodNamed B.named
  have hlocks := B.notSynchronized
  have hl := lv_entry ([.ref p0]) (n := 1) (Nat.le_of_ble_eq_true rfl)
  rw [lg_entry_eq]
  generalize (lg_sl ([.ref p0]) ++ List.replicate (1 - (lg_sl ([.ref p0])).length) Slot.unset).toArray = ls at hl ⊢
  have hl : lv_has ls 1 [(0, .ref p0)] := hl
  refine lv_aload_n hx hb d_S_step_0 rfl (lv_at hl 0 rfl) ?_
  refine va_get (D := D) (ci := 0) (v := .ref m0) (C := "SignMachine") (T := F_S) (N := 2) hx hb hk fi_S hown hK.1 hP 0 rfl rfl 0 (by decide) (hk _ k_210) (fun _ h9 => h9) rfl d_S_step_1 ?_
  refine lv_aload_n hx hb d_S_step_4 rfl (lv_at hl 0 rfl) ?_
  refine va_get (D := D) (ci := 0) (v := .ref m0) (C := "SignMachine") (T := F_S) (N := 2) hx hb hk fi_S hown hK.1 hP 0 rfl rfl 0 (by decide) (hk _ k_210) (fun _ h9 => h9) rfl d_S_step_5 ?_
  by_cases q1 : ((f_W_size (f_mw My1 Mx0_7)) &&& (63 : Int32)) = (37 : Int32)
  · by_cases q2 : (((f_W_size (f_mw My1 Mx0_7)) >>> ((6 : Int32) &&& (31 : Int32))) &&& (63 : Int32)) = (0 : Int32)
    · have hPc := hP.sub (ws' := (wS51 cI cJ cZ cB m0 m1 m2 m3 m4 Mx0_4 Mx0_5 Mx0_6 Mx0_7 Mx0_8 Mx0_9 Mx0_10 Mx0_11 Mx0_12 Mx0_13 My1 My2 Mx3_0 Mx4_0)) [1, 2, 3, 4, 5] rfl
      have hDc := hD.sub (ws' := (wS51 cI cJ cZ cB m0 m1 m2 m3 m4 Mx0_4 Mx0_5 Mx0_6 Mx0_7 Mx0_8 Mx0_9 Mx0_10 Mx0_11 Mx0_12 Mx0_13 My1 My2 Mx3_0 Mx4_0)) [1, 2, 3, 4, 5] (by decide) rfl
      have hFc := va_free (wc := (wS51 cI cJ cZ cB m0 m1 m2 m3 m4 Mx0_4 Mx0_5 Mx0_6 Mx0_7 Mx0_8 Mx0_9 Mx0_10 Mx0_11 Mx0_12 Mx0_13 My1 My2 Mx3_0 Mx4_0)) hD hS hA [1, 2, 3, 4, 5] rfl
      refine va_calli (va_runV (C := "SignMachine$Machine") (As := []) (rest := [.ref m0]) ⟨hx, hb, hml, hown, hk⟩ (c_M_execute_s1 l K D cI cJ cZ cB m0 m1 m2 m3 m4 s.heap.size Mx0_4 Mx0_5 Mx0_6 Mx0_7 Mx0_8 Mx0_9 Mx0_10 Mx0_11 Mx0_12 Mx0_13 My1 My2 Mx3_0 Mx4_0  q1 q2) (v_M_execute_s1 hk k_258 ⟨Nat.le_of_ble_eq_true rfl, Nat.le_of_ble_eq_true rfl⟩) (pMC_v hK hPc hDc hC hS hA (ci := 1) (q0 := 0) rfl rfl rfl) rfl rfl hl.1 rfl (lv_room (Nat.le_of_ble_eq_true rfl)) d_S_step_8 ⟨by decide, by decide⟩) hS (fun q _ h => hFc q h) hFc (fun rz3 u t H locs ht hvm hr0 hB hzq hkq hS => ?_)
      subst hr0
      rcases hB with ⟨hzz3, Mx0_6z3, Mx0_7z3, Mx0_9z3, Mx0_10z3, Mx0_11z3, Mx0_12z3, Mx0_13z3, Mx3_0z3, hP1, hD1⟩ | ⟨m5, Mx0_6z3, Mx0_7z3, Mx0_9z3, Mx0_10z3, Mx0_11z3, Mx0_12z3, Mx0_13z3, Mx3_0z3, My5z3, hP1, hD1⟩
      · rw [ht] at hP1
        obtain ⟨hP, hD⟩ := va_join (wr := (wS54 cI cJ cZ cB p0 m0)) (w1 := (wS51 cI cJ cZ cB m0 m1 m2 m3 m4 Mx0_4 Mx0_5 Mx0_6z3 Mx0_7z3 Mx0_8 Mx0_9z3 Mx0_10z3 Mx0_11z3 Mx0_12z3 Mx0_13z3 My1 My2 Mx3_0z3 Mx4_0)) hP hD [1, 2, 3, 4, 5] [0] rfl rfl (by decide) (by decide) hkq hFc hP1 hD1
        have hP := hP.sub (ws' := ((wS54 cI cJ cZ cB p0 m0) ++ (wS51 cI cJ cZ cB m0 m1 m2 m3 m4 Mx0_4 Mx0_5 Mx0_6z3 Mx0_7z3 Mx0_8 Mx0_9z3 Mx0_10z3 Mx0_11z3 Mx0_12z3 Mx0_13z3 My1 My2 Mx3_0z3 Mx4_0))) [0, 1, 2, 3, 4, 5] rfl
        have hD := hD.sub (ws' := ((wS54 cI cJ cZ cB p0 m0) ++ (wS51 cI cJ cZ cB m0 m1 m2 m3 m4 Mx0_4 Mx0_5 Mx0_6z3 Mx0_7z3 Mx0_8 Mx0_9z3 Mx0_10z3 Mx0_11z3 Mx0_12z3 Mx0_13z3 My1 My2 Mx3_0z3 Mx4_0))) [0, 1, 2, 3, 4, 5] (by decide) rfl
        have hP : va_P D classes ((wS54 cI cJ cZ cB p0 m0) ++ (wS51 cI cJ cZ cB m0 m1 m2 m3 m4 Mx0_4 Mx0_5 Mx0_6z3 Mx0_7z3 Mx0_8 Mx0_9z3 Mx0_10z3 Mx0_11z3 Mx0_12z3 Mx0_13z3 My1 My2 Mx3_0z3 Mx4_0)) H := hP
        have hD : va_D A ((wS54 cI cJ cZ cB p0 m0) ++ (wS51 cI cJ cZ cB m0 m1 m2 m3 m4 Mx0_4 Mx0_5 Mx0_6z3 Mx0_7z3 Mx0_8 Mx0_9z3 Mx0_10z3 Mx0_11z3 Mx0_12z3 Mx0_13z3 My1 My2 Mx3_0z3 Mx4_0)) := hD
        clear hPc hDc hFc
        refine W.widen (k := 1) (n := 4000) (by decide) (by decide) ?_
        refine va_putN (D := D) (ci := 1) (v := .int rz3) (ty := .int) (C := "SignMachine$Machine") (T := F_M) (N := 14) hx hb hk fi_M ft_M ft_M_ok fn_M hown hK.1 hP hD hS 1 rfl rfl 8 (by decide) (va_Nw.use rfl (hK.2 _ n_175)) (fun _ h9 => h9) rfl (by decide +kernel) rfl rfl (Nat.le_of_ble_eq_true rfl) d_S_step_11 (fun H locs hP hD hS => ?_)
        have hP : va_P D classes ((wS54 cI cJ cZ cB p0 m0) ++ (wS51 cI cJ cZ cB m0 m1 m2 m3 m4 Mx0_4 Mx0_5 Mx0_6z3 Mx0_7z3 rz3 Mx0_9z3 Mx0_10z3 Mx0_11z3 Mx0_12z3 Mx0_13z3 My1 My2 Mx3_0z3 Mx4_0)) H := hP
        have hD : va_D A ((wS54 cI cJ cZ cB p0 m0) ++ (wS51 cI cJ cZ cB m0 m1 m2 m3 m4 Mx0_4 Mx0_5 Mx0_6z3 Mx0_7z3 rz3 Mx0_9z3 Mx0_10z3 Mx0_11z3 Mx0_12z3 Mx0_13z3 My1 My2 Mx3_0z3 Mx4_0)) := hD
        refine lv_aload_n hx hb d_S_step_14 rfl (lv_at hl 0 rfl) ?_
        refine va_get (D := D) (ci := 0) (v := .ref m0) (C := "SignMachine") (T := F_S) (N := 2) hx hb hk fi_S hown hK.1 hP 0 rfl rfl 0 (by decide) (hk _ k_210) (fun _ h9 => h9) rfl d_S_step_15 ?_
        refine va_getN (D := D) (ci := 1) (v := .int rz3) (C := "SignMachine$Machine") (T := F_M) (N := 14) hx hb hk fi_M hown hK.1 hP 1 rfl rfl 8 (by decide) (va_Nw.use rfl (hK.2 _ n_175)) (fun _ h9 => h9) rfl d_S_step_18 ?_
        exact W.iret (v := rz3) hx hb hr (fun t ht hW => ⟨⟨rz3, (0 : Int32), rfl, rfl, ⟨_, isC_0, (by show va_P D classes _ t.heap; rw [ht]; exact hP), hD⟩⟩, hS.F ht⟩) hS.2.2 d_S_step_21
      · rw [ht] at hP1
        obtain ⟨hP, hD⟩ := va_join (wr := (wS54 cI cJ cZ cB p0 m0)) (w1 := (wS57 cI cJ cZ cB m0 m1 m2 m3 m4 m5 Mx0_4 Mx0_5 Mx0_6z3 Mx0_7z3 Mx0_8 Mx0_9z3 Mx0_10z3 Mx0_11z3 Mx0_12z3 Mx0_13z3 My1 My2 Mx3_0z3 Mx4_0 My5z3)) hP hD [1, 2, 3, 4, 5] [0] rfl rfl (by decide) (by decide) hkq hFc hP1 hD1
        have hP := hP.sub (ws' := ((wS54 cI cJ cZ cB p0 m0) ++ (wS57 cI cJ cZ cB m0 m1 m2 m3 m4 m5 Mx0_4 Mx0_5 Mx0_6z3 Mx0_7z3 Mx0_8 Mx0_9z3 Mx0_10z3 Mx0_11z3 Mx0_12z3 Mx0_13z3 My1 My2 Mx3_0z3 Mx4_0 My5z3))) [0, 1, 2, 3, 4, 5, 6] rfl
        have hD := hD.sub (ws' := ((wS54 cI cJ cZ cB p0 m0) ++ (wS57 cI cJ cZ cB m0 m1 m2 m3 m4 m5 Mx0_4 Mx0_5 Mx0_6z3 Mx0_7z3 Mx0_8 Mx0_9z3 Mx0_10z3 Mx0_11z3 Mx0_12z3 Mx0_13z3 My1 My2 Mx3_0z3 Mx4_0 My5z3))) [0, 1, 2, 3, 4, 5, 6] (by decide) rfl
        have hP : va_P D classes ((wS54 cI cJ cZ cB p0 m0) ++ (wS57 cI cJ cZ cB m0 m1 m2 m3 m4 m5 Mx0_4 Mx0_5 Mx0_6z3 Mx0_7z3 Mx0_8 Mx0_9z3 Mx0_10z3 Mx0_11z3 Mx0_12z3 Mx0_13z3 My1 My2 Mx3_0z3 Mx4_0 My5z3)) H := hP
        have hD : va_D A ((wS54 cI cJ cZ cB p0 m0) ++ (wS57 cI cJ cZ cB m0 m1 m2 m3 m4 m5 Mx0_4 Mx0_5 Mx0_6z3 Mx0_7z3 Mx0_8 Mx0_9z3 Mx0_10z3 Mx0_11z3 Mx0_12z3 Mx0_13z3 My1 My2 Mx3_0z3 Mx4_0 My5z3)) := hD
        clear hPc hDc hFc
        refine W.widen (k := 1) (n := 4000) (by decide) (by decide) ?_
        refine va_putN (D := D) (ci := 1) (v := .int rz3) (ty := .int) (C := "SignMachine$Machine") (T := F_M) (N := 14) hx hb hk fi_M ft_M ft_M_ok fn_M hown hK.1 hP hD hS 1 rfl rfl 8 (by decide) (va_Nw.use rfl (hK.2 _ n_175)) (fun _ h9 => h9) rfl (by decide +kernel) rfl rfl (Nat.le_of_ble_eq_true rfl) d_S_step_11 (fun H locs hP hD hS => ?_)
        have hP : va_P D classes ((wS54 cI cJ cZ cB p0 m0) ++ (wS57 cI cJ cZ cB m0 m1 m2 m3 m4 m5 Mx0_4 Mx0_5 Mx0_6z3 Mx0_7z3 rz3 Mx0_9z3 Mx0_10z3 Mx0_11z3 Mx0_12z3 Mx0_13z3 My1 My2 Mx3_0z3 Mx4_0 My5z3)) H := hP
        have hD : va_D A ((wS54 cI cJ cZ cB p0 m0) ++ (wS57 cI cJ cZ cB m0 m1 m2 m3 m4 m5 Mx0_4 Mx0_5 Mx0_6z3 Mx0_7z3 rz3 Mx0_9z3 Mx0_10z3 Mx0_11z3 Mx0_12z3 Mx0_13z3 My1 My2 Mx3_0z3 Mx4_0 My5z3)) := hD
        refine lv_aload_n hx hb d_S_step_14 rfl (lv_at hl 0 rfl) ?_
        refine va_get (D := D) (ci := 0) (v := .ref m0) (C := "SignMachine") (T := F_S) (N := 2) hx hb hk fi_S hown hK.1 hP 0 rfl rfl 0 (by decide) (hk _ k_210) (fun _ h9 => h9) rfl d_S_step_15 ?_
        refine va_getN (D := D) (ci := 1) (v := .int rz3) (C := "SignMachine$Machine") (T := F_M) (N := 14) hx hb hk fi_M hown hK.1 hP 1 rfl rfl 8 (by decide) (va_Nw.use rfl (hK.2 _ n_175)) (fun _ h9 => h9) rfl d_S_step_18 ?_
        exact W.iret (v := rz3) hx hb hr (fun t ht hW => ⟨⟨rz3, (0 : Int32), rfl, rfl, ⟨_, isC_1, (by show va_P D classes _ t.heap; rw [ht]; exact hP), hD⟩⟩, hS.F ht⟩) hS.2.2 d_S_step_21
    · have hPc := hP.sub (ws' := (wS51 cI cJ cZ cB m0 m1 m2 m3 m4 Mx0_4 Mx0_5 Mx0_6 Mx0_7 Mx0_8 Mx0_9 Mx0_10 Mx0_11 Mx0_12 Mx0_13 My1 My2 Mx3_0 Mx4_0)) [1, 2, 3, 4, 5] rfl
      have hDc := hD.sub (ws' := (wS51 cI cJ cZ cB m0 m1 m2 m3 m4 Mx0_4 Mx0_5 Mx0_6 Mx0_7 Mx0_8 Mx0_9 Mx0_10 Mx0_11 Mx0_12 Mx0_13 My1 My2 Mx3_0 Mx4_0)) [1, 2, 3, 4, 5] (by decide) rfl
      have hFc := va_free (wc := (wS51 cI cJ cZ cB m0 m1 m2 m3 m4 Mx0_4 Mx0_5 Mx0_6 Mx0_7 Mx0_8 Mx0_9 Mx0_10 Mx0_11 Mx0_12 Mx0_13 My1 My2 Mx3_0 Mx4_0)) hD hS hA [1, 2, 3, 4, 5] rfl
      refine va_calli (va_runV (C := "SignMachine$Machine") (As := []) (rest := [.ref m0]) ⟨hx, hb, hml, hown, hk⟩ (c_M_execute_s2 l K D cI cJ cZ cB m0 m1 m2 m3 m4 s.heap.size Mx0_4 Mx0_5 Mx0_6 Mx0_7 Mx0_8 Mx0_9 Mx0_10 Mx0_11 Mx0_12 Mx0_13 My1 My2 Mx3_0 Mx4_0  q1 q2) (v_M_execute_s2 hk k_258 ⟨Nat.le_of_ble_eq_true rfl, Nat.le_of_ble_eq_true rfl⟩) (pMC_v hK hPc hDc hC hS hA (ci := 1) (q0 := 0) rfl rfl rfl) rfl rfl hl.1 rfl (lv_room (Nat.le_of_ble_eq_true rfl)) d_S_step_8 ⟨by decide, by decide⟩) hS (fun q _ h => hFc q h) hFc (fun rz4 u t H locs ht hvm hr0 hB hzq hkq hS => ?_)
      subst hr0
      rcases hB with ⟨hzz4, Mx0_6z4, Mx0_7z4, Mx0_9z4, Mx0_10z4, Mx0_11z4, Mx0_12z4, Mx0_13z4, Mx4_0z4, hP1, hD1⟩ | ⟨m5, Mx0_6z4, Mx0_7z4, Mx0_9z4, Mx0_10z4, Mx0_11z4, Mx0_12z4, Mx0_13z4, Mx4_0z4, My5z4, hP1, hD1⟩
      · rw [ht] at hP1
        obtain ⟨hP, hD⟩ := va_join (wr := (wS54 cI cJ cZ cB p0 m0)) (w1 := (wS51 cI cJ cZ cB m0 m1 m2 m3 m4 Mx0_4 Mx0_5 Mx0_6z4 Mx0_7z4 Mx0_8 Mx0_9z4 Mx0_10z4 Mx0_11z4 Mx0_12z4 Mx0_13z4 My1 My2 Mx3_0 Mx4_0z4)) hP hD [1, 2, 3, 4, 5] [0] rfl rfl (by decide) (by decide) hkq hFc hP1 hD1
        have hP := hP.sub (ws' := ((wS54 cI cJ cZ cB p0 m0) ++ (wS51 cI cJ cZ cB m0 m1 m2 m3 m4 Mx0_4 Mx0_5 Mx0_6z4 Mx0_7z4 Mx0_8 Mx0_9z4 Mx0_10z4 Mx0_11z4 Mx0_12z4 Mx0_13z4 My1 My2 Mx3_0 Mx4_0z4))) [0, 1, 2, 3, 4, 5] rfl
        have hD := hD.sub (ws' := ((wS54 cI cJ cZ cB p0 m0) ++ (wS51 cI cJ cZ cB m0 m1 m2 m3 m4 Mx0_4 Mx0_5 Mx0_6z4 Mx0_7z4 Mx0_8 Mx0_9z4 Mx0_10z4 Mx0_11z4 Mx0_12z4 Mx0_13z4 My1 My2 Mx3_0 Mx4_0z4))) [0, 1, 2, 3, 4, 5] (by decide) rfl
        have hP : va_P D classes ((wS54 cI cJ cZ cB p0 m0) ++ (wS51 cI cJ cZ cB m0 m1 m2 m3 m4 Mx0_4 Mx0_5 Mx0_6z4 Mx0_7z4 Mx0_8 Mx0_9z4 Mx0_10z4 Mx0_11z4 Mx0_12z4 Mx0_13z4 My1 My2 Mx3_0 Mx4_0z4)) H := hP
        have hD : va_D A ((wS54 cI cJ cZ cB p0 m0) ++ (wS51 cI cJ cZ cB m0 m1 m2 m3 m4 Mx0_4 Mx0_5 Mx0_6z4 Mx0_7z4 Mx0_8 Mx0_9z4 Mx0_10z4 Mx0_11z4 Mx0_12z4 Mx0_13z4 My1 My2 Mx3_0 Mx4_0z4)) := hD
        clear hPc hDc hFc
        refine W.widen (k := 1) (n := 4000) (by decide) (by decide) ?_
        refine va_putN (D := D) (ci := 1) (v := .int rz4) (ty := .int) (C := "SignMachine$Machine") (T := F_M) (N := 14) hx hb hk fi_M ft_M ft_M_ok fn_M hown hK.1 hP hD hS 1 rfl rfl 8 (by decide) (va_Nw.use rfl (hK.2 _ n_175)) (fun _ h9 => h9) rfl (by decide +kernel) rfl rfl (Nat.le_of_ble_eq_true rfl) d_S_step_11 (fun H locs hP hD hS => ?_)
        have hP : va_P D classes ((wS54 cI cJ cZ cB p0 m0) ++ (wS51 cI cJ cZ cB m0 m1 m2 m3 m4 Mx0_4 Mx0_5 Mx0_6z4 Mx0_7z4 rz4 Mx0_9z4 Mx0_10z4 Mx0_11z4 Mx0_12z4 Mx0_13z4 My1 My2 Mx3_0 Mx4_0z4)) H := hP
        have hD : va_D A ((wS54 cI cJ cZ cB p0 m0) ++ (wS51 cI cJ cZ cB m0 m1 m2 m3 m4 Mx0_4 Mx0_5 Mx0_6z4 Mx0_7z4 rz4 Mx0_9z4 Mx0_10z4 Mx0_11z4 Mx0_12z4 Mx0_13z4 My1 My2 Mx3_0 Mx4_0z4)) := hD
        refine lv_aload_n hx hb d_S_step_14 rfl (lv_at hl 0 rfl) ?_
        refine va_get (D := D) (ci := 0) (v := .ref m0) (C := "SignMachine") (T := F_S) (N := 2) hx hb hk fi_S hown hK.1 hP 0 rfl rfl 0 (by decide) (hk _ k_210) (fun _ h9 => h9) rfl d_S_step_15 ?_
        refine va_getN (D := D) (ci := 1) (v := .int rz4) (C := "SignMachine$Machine") (T := F_M) (N := 14) hx hb hk fi_M hown hK.1 hP 1 rfl rfl 8 (by decide) (va_Nw.use rfl (hK.2 _ n_175)) (fun _ h9 => h9) rfl d_S_step_18 ?_
        exact W.iret (v := rz4) hx hb hr (fun t ht hW => ⟨⟨rz4, (0 : Int32), rfl, rfl, ⟨_, isC_0, (by show va_P D classes _ t.heap; rw [ht]; exact hP), hD⟩⟩, hS.F ht⟩) hS.2.2 d_S_step_21
      · rw [ht] at hP1
        obtain ⟨hP, hD⟩ := va_join (wr := (wS54 cI cJ cZ cB p0 m0)) (w1 := (wS58 cI cJ cZ cB m0 m1 m2 m3 m4 m5 Mx0_4 Mx0_5 Mx0_6z4 Mx0_7z4 Mx0_8 Mx0_9z4 Mx0_10z4 Mx0_11z4 Mx0_12z4 Mx0_13z4 My1 My2 Mx3_0 Mx4_0z4 My5z4)) hP hD [1, 2, 3, 4, 5] [0] rfl rfl (by decide) (by decide) hkq hFc hP1 hD1
        have hP := hP.sub (ws' := ((wS54 cI cJ cZ cB p0 m0) ++ (wS58 cI cJ cZ cB m0 m1 m2 m3 m4 m5 Mx0_4 Mx0_5 Mx0_6z4 Mx0_7z4 Mx0_8 Mx0_9z4 Mx0_10z4 Mx0_11z4 Mx0_12z4 Mx0_13z4 My1 My2 Mx3_0 Mx4_0z4 My5z4))) [0, 1, 2, 3, 4, 5, 6] rfl
        have hD := hD.sub (ws' := ((wS54 cI cJ cZ cB p0 m0) ++ (wS58 cI cJ cZ cB m0 m1 m2 m3 m4 m5 Mx0_4 Mx0_5 Mx0_6z4 Mx0_7z4 Mx0_8 Mx0_9z4 Mx0_10z4 Mx0_11z4 Mx0_12z4 Mx0_13z4 My1 My2 Mx3_0 Mx4_0z4 My5z4))) [0, 1, 2, 3, 4, 5, 6] (by decide) rfl
        have hP : va_P D classes ((wS54 cI cJ cZ cB p0 m0) ++ (wS58 cI cJ cZ cB m0 m1 m2 m3 m4 m5 Mx0_4 Mx0_5 Mx0_6z4 Mx0_7z4 Mx0_8 Mx0_9z4 Mx0_10z4 Mx0_11z4 Mx0_12z4 Mx0_13z4 My1 My2 Mx3_0 Mx4_0z4 My5z4)) H := hP
        have hD : va_D A ((wS54 cI cJ cZ cB p0 m0) ++ (wS58 cI cJ cZ cB m0 m1 m2 m3 m4 m5 Mx0_4 Mx0_5 Mx0_6z4 Mx0_7z4 Mx0_8 Mx0_9z4 Mx0_10z4 Mx0_11z4 Mx0_12z4 Mx0_13z4 My1 My2 Mx3_0 Mx4_0z4 My5z4)) := hD
        clear hPc hDc hFc
        refine W.widen (k := 1) (n := 4000) (by decide) (by decide) ?_
        refine va_putN (D := D) (ci := 1) (v := .int rz4) (ty := .int) (C := "SignMachine$Machine") (T := F_M) (N := 14) hx hb hk fi_M ft_M ft_M_ok fn_M hown hK.1 hP hD hS 1 rfl rfl 8 (by decide) (va_Nw.use rfl (hK.2 _ n_175)) (fun _ h9 => h9) rfl (by decide +kernel) rfl rfl (Nat.le_of_ble_eq_true rfl) d_S_step_11 (fun H locs hP hD hS => ?_)
        have hP : va_P D classes ((wS54 cI cJ cZ cB p0 m0) ++ (wS58 cI cJ cZ cB m0 m1 m2 m3 m4 m5 Mx0_4 Mx0_5 Mx0_6z4 Mx0_7z4 rz4 Mx0_9z4 Mx0_10z4 Mx0_11z4 Mx0_12z4 Mx0_13z4 My1 My2 Mx3_0 Mx4_0z4 My5z4)) H := hP
        have hD : va_D A ((wS54 cI cJ cZ cB p0 m0) ++ (wS58 cI cJ cZ cB m0 m1 m2 m3 m4 m5 Mx0_4 Mx0_5 Mx0_6z4 Mx0_7z4 rz4 Mx0_9z4 Mx0_10z4 Mx0_11z4 Mx0_12z4 Mx0_13z4 My1 My2 Mx3_0 Mx4_0z4 My5z4)) := hD
        refine lv_aload_n hx hb d_S_step_14 rfl (lv_at hl 0 rfl) ?_
        refine va_get (D := D) (ci := 0) (v := .ref m0) (C := "SignMachine") (T := F_S) (N := 2) hx hb hk fi_S hown hK.1 hP 0 rfl rfl 0 (by decide) (hk _ k_210) (fun _ h9 => h9) rfl d_S_step_15 ?_
        refine va_getN (D := D) (ci := 1) (v := .int rz4) (C := "SignMachine$Machine") (T := F_M) (N := 14) hx hb hk fi_M hown hK.1 hP 1 rfl rfl 8 (by decide) (va_Nw.use rfl (hK.2 _ n_175)) (fun _ h9 => h9) rfl d_S_step_18 ?_
        exact W.iret (v := rz4) hx hb hr (fun t ht hW => ⟨⟨rz4, (0 : Int32), rfl, rfl, ⟨_, isC_2, (by show va_P D classes _ t.heap; rw [ht]; exact hP), hD⟩⟩, hS.F ht⟩) hS.2.2 d_S_step_21
  · have hPc := hP.sub (ws' := (wS51 cI cJ cZ cB m0 m1 m2 m3 m4 Mx0_4 Mx0_5 Mx0_6 Mx0_7 Mx0_8 Mx0_9 Mx0_10 Mx0_11 Mx0_12 Mx0_13 My1 My2 Mx3_0 Mx4_0)) [1, 2, 3, 4, 5] rfl
    have hDc := hD.sub (ws' := (wS51 cI cJ cZ cB m0 m1 m2 m3 m4 Mx0_4 Mx0_5 Mx0_6 Mx0_7 Mx0_8 Mx0_9 Mx0_10 Mx0_11 Mx0_12 Mx0_13 My1 My2 Mx3_0 Mx4_0)) [1, 2, 3, 4, 5] (by decide) rfl
    have hFc := va_free (wc := (wS51 cI cJ cZ cB m0 m1 m2 m3 m4 Mx0_4 Mx0_5 Mx0_6 Mx0_7 Mx0_8 Mx0_9 Mx0_10 Mx0_11 Mx0_12 Mx0_13 My1 My2 Mx3_0 Mx4_0)) hD hS hA [1, 2, 3, 4, 5] rfl
    refine va_calli (va_runV (C := "SignMachine$Machine") (As := []) (rest := [.ref m0]) ⟨hx, hb, hml, hown, hk⟩ (c_M_execute_s3 l K D cI cJ cZ cB m0 m1 m2 m3 m4 s.heap.size Mx0_4 Mx0_5 Mx0_6 Mx0_7 Mx0_8 Mx0_9 Mx0_10 Mx0_11 Mx0_12 Mx0_13 My1 My2 Mx3_0 Mx4_0  q1) (v_M_execute_s3 hk k_258 ⟨Nat.le_of_ble_eq_true rfl, Nat.le_of_ble_eq_true rfl⟩) (pMC_v hK hPc hDc hC hS hA (ci := 1) (q0 := 0) rfl rfl rfl) rfl rfl hl.1 rfl (lv_room (Nat.le_of_ble_eq_true rfl)) d_S_step_8 ⟨by decide, by decide⟩) hS (fun q _ h => hFc q h) hFc (fun rz5 u t H locs ht hvm hr0 hB hzq hkq hS => ?_)
    obtain ⟨Mx0_4z5, Mx0_5z5, Mx0_6z5, Mx0_7z5, Mx0_9z5, Mx0_10z5, Mx0_11z5, Mx0_12z5, Mx0_13z5, My1z5, My2z5, Mx3_0z5, Mx4_0z5, hP1, hD1⟩ := hB
    rw [ht] at hP1
    obtain ⟨hP, hD⟩ := va_join (wr := (wS54 cI cJ cZ cB p0 m0)) (w1 := (wS51 cI cJ cZ cB m0 m1 m2 m3 m4 Mx0_4z5 Mx0_5z5 Mx0_6z5 Mx0_7z5 Mx0_8 Mx0_9z5 Mx0_10z5 Mx0_11z5 Mx0_12z5 Mx0_13z5 My1z5 My2z5 Mx3_0z5 Mx4_0z5)) hP hD [1, 2, 3, 4, 5] [0] rfl rfl (by decide) (by decide) hkq hFc hP1 hD1
    have hP := hP.sub (ws' := ((wS54 cI cJ cZ cB p0 m0) ++ (wS51 cI cJ cZ cB m0 m1 m2 m3 m4 Mx0_4z5 Mx0_5z5 Mx0_6z5 Mx0_7z5 Mx0_8 Mx0_9z5 Mx0_10z5 Mx0_11z5 Mx0_12z5 Mx0_13z5 My1z5 My2z5 Mx3_0z5 Mx4_0z5))) [0, 1, 2, 3, 4, 5] rfl
    have hD := hD.sub (ws' := ((wS54 cI cJ cZ cB p0 m0) ++ (wS51 cI cJ cZ cB m0 m1 m2 m3 m4 Mx0_4z5 Mx0_5z5 Mx0_6z5 Mx0_7z5 Mx0_8 Mx0_9z5 Mx0_10z5 Mx0_11z5 Mx0_12z5 Mx0_13z5 My1z5 My2z5 Mx3_0z5 Mx4_0z5))) [0, 1, 2, 3, 4, 5] (by decide) rfl
    have hP : va_P D classes ((wS54 cI cJ cZ cB p0 m0) ++ (wS51 cI cJ cZ cB m0 m1 m2 m3 m4 Mx0_4z5 Mx0_5z5 Mx0_6z5 Mx0_7z5 Mx0_8 Mx0_9z5 Mx0_10z5 Mx0_11z5 Mx0_12z5 Mx0_13z5 My1z5 My2z5 Mx3_0z5 Mx4_0z5)) H := hP
    have hD : va_D A ((wS54 cI cJ cZ cB p0 m0) ++ (wS51 cI cJ cZ cB m0 m1 m2 m3 m4 Mx0_4z5 Mx0_5z5 Mx0_6z5 Mx0_7z5 Mx0_8 Mx0_9z5 Mx0_10z5 Mx0_11z5 Mx0_12z5 Mx0_13z5 My1z5 My2z5 Mx3_0z5 Mx4_0z5)) := hD
    clear hPc hDc hFc
    refine va_putN (D := D) (ci := 1) (v := .int rz5) (ty := .int) (C := "SignMachine$Machine") (T := F_M) (N := 14) hx hb hk fi_M ft_M ft_M_ok fn_M hown hK.1 hP hD hS 1 rfl rfl 8 (by decide) (va_Nw.use rfl (hK.2 _ n_175)) (fun _ h9 => h9) rfl (by decide +kernel) rfl rfl (Nat.le_of_ble_eq_true rfl) d_S_step_11 (fun H locs hP hD hS => ?_)
    have hP : va_P D classes ((wS54 cI cJ cZ cB p0 m0) ++ (wS51 cI cJ cZ cB m0 m1 m2 m3 m4 Mx0_4z5 Mx0_5z5 Mx0_6z5 Mx0_7z5 rz5 Mx0_9z5 Mx0_10z5 Mx0_11z5 Mx0_12z5 Mx0_13z5 My1z5 My2z5 Mx3_0z5 Mx4_0z5)) H := hP
    have hD : va_D A ((wS54 cI cJ cZ cB p0 m0) ++ (wS51 cI cJ cZ cB m0 m1 m2 m3 m4 Mx0_4z5 Mx0_5z5 Mx0_6z5 Mx0_7z5 rz5 Mx0_9z5 Mx0_10z5 Mx0_11z5 Mx0_12z5 Mx0_13z5 My1z5 My2z5 Mx3_0z5 Mx4_0z5)) := hD
    refine lv_aload_n hx hb d_S_step_14 rfl (lv_at hl 0 rfl) ?_
    refine va_get (D := D) (ci := 0) (v := .ref m0) (C := "SignMachine") (T := F_S) (N := 2) hx hb hk fi_S hown hK.1 hP 0 rfl rfl 0 (by decide) (hk _ k_210) (fun _ h9 => h9) rfl d_S_step_15 ?_
    refine va_getN (D := D) (ci := 1) (v := .int rz5) (C := "SignMachine$Machine") (T := F_M) (N := 14) hx hb hk fi_M hown hK.1 hP 1 rfl rfl 8 (by decide) (va_Nw.use rfl (hK.2 _ n_175)) (fun _ h9 => h9) rfl d_S_step_18 ?_
    refine W.widen (k := 1) (n := 4000) (by decide) (by decide) ?_
    exact W.iret (v := rz5) hx hb hr (fun t ht hW => ⟨⟨rz5, (0 : Int32), rfl, rfl, ⟨_, isC_0, (by show va_P D classes _ t.heap; rw [ht]; exact hP), hD⟩⟩, hS.F ht⟩) hS.2.2 d_S_step_21
theorem v_S_step_b11 {R : Room} {s : State} {args : Array Value} {own : String} {index : Nat} (hk : ∀ w ∈ tb, w.before args s = true) (hl : Cond.methodLink own index y_S_step ∈ tb) (hR : 7 + 1 ≤ R.frames ∧ 8 + (1 + 11) + 151 ≤ R.locals) : CallW R s args own "SignMachine" index y_S_step b_S_step 1 (some .int) (.code y_S_step b_S_step 1 (some .int) :: tb) ({ frames := 7, cells := 1, slots := 4000, locals := 151 }) 1 4000 0 := mk_v 0 hk k_257 hl k_255 k_256 k_116 rfl rfl h_S_step hR
set_option maxHeartbeats 4000000 in
set_option maxRecDepth 100000 in
theorem c_S_run_b11 (l : Launch) (K : CK) (D : va_G) (cI cJ cZ cB : ClassId) (p0 m0 m1 m2 m3 m4 : Nat) (sz : Nat) (Mx0_4 : Bool) (Mx0_5 : Int32) (Mx0_6 : Int32) (Mx0_7 : Int32) (Mx0_8 : Int32) (Mx0_9 : Int32) (Mx0_10 : Int32) (Mx0_11 : Int32) (Mx0_12 : Int32) (Mx0_13 : Int32) (My1 : Nat → Int32) (My2 : Nat → Int32) (Mx3_0 : Int32) (Mx4_0 : Int32)  (a1 : Int32) : Met l y_S_run (.code y_S_run b_S_run 5 (some .int) :: tb) ({ frames := 7, cells := 2, slots := 8000, locals := 151 }) (pMC K D cI cJ cZ cB ((wS54 cI cJ cZ cB p0 m0) ++ (wS51 cI cJ cZ cB m0 m1 m2 m3 m4 Mx0_4 Mx0_5 Mx0_6 Mx0_7 Mx0_8 Mx0_9 Mx0_10 Mx0_11 Mx0_12 Mx0_13 My1 My2 Mx3_0 Mx4_0)) sz [.ref p0, .int a1]) (va_Qi (fun r (uL : Int32) => uL = (0 : Int32)) (fun uL t => ∃ W9 : va_W, isC K cI cJ cZ cB p0 uL W9 ∧ va_P D classes W9 t.heap ∧ va_D (va_A ((wS54 cI cJ cZ cB p0 m0) ++ (wS51 cI cJ cZ cB m0 m1 m2 m3 m4 Mx0_4 Mx0_5 Mx0_6 Mx0_7 Mx0_8 Mx0_9 Mx0_10 Mx0_11 Mx0_12 Mx0_13 My1 My2 Mx3_0 Mx4_0)) sz) W9) (va_A ((wS54 cI cJ cZ cB p0 m0) ++ (wS51 cI cJ cZ cB m0 m1 m2 m3 m4 Mx0_4 Mx0_5 Mx0_6 Mx0_7 Mx0_8 Mx0_9 Mx0_10 Mx0_11 Mx0_12 Mx0_13 My1 My2 Mx3_0 Mx4_0)) sz)) 2 8000 (va_A ((wS54 cI cJ cZ cB p0 m0) ++ (wS51 cI cJ cZ cB m0 m1 m2 m3 m4 Mx0_4 Mx0_5 Mx0_6 Mx0_7 Mx0_8 Mx0_9 Mx0_10 Mx0_11 Mx0_12 Mx0_13 My1 My2 Mx3_0 Mx4_0)) sz) := by
  refine Met.ofW (cc := b_S_run) (maxL := 5) (ret := (some .int)) (by decide) rfl ?_
  intro p e s m args below meth c s₁ B hml hv
  obtain ⟨rfl, hsz, hK, hP, hD0, hC⟩ := hv
  subst hsz
  have hD := hD0.self (sz := s.heap.size)
  generalize hAe : va_A ((wS54 cI cJ cZ cB p0 m0) ++ (wS51 cI cJ cZ cB m0 m1 m2 m3 m4 Mx0_4 Mx0_5 Mx0_6 Mx0_7 Mx0_8 Mx0_9 Mx0_10 Mx0_11 Mx0_12 Mx0_13 My1 My2 Mx3_0 Mx4_0)) s.heap.size = A at hD hC ⊢
  have hA : ∀ q : Nat, s.heap.size ≤ q → A q := fun q h => by rw [← hAe]; exact Or.inr h
  clear hAe hD0
  have hS : va_S A s.heap s.heap [] := va_S.rf
  have hx := B.exec
  have hb := B.bytes
  have hr := B.returns
  have hts := atoms_spec (ws := .code y_S_run b_S_run 5 (some .int) :: tb) B.pre
  have hk : ∀ w ∈ tb, w.before [.ref p0, .int a1].toArray s = true := fun w h => hts w (List.mem_cons_of_mem _ h)
  have hown : s.vm.findClass "SignMachine" = some m.cls := findClass_of_methodNamed B.named
  have hlocks := B.notSynchronized
  have hl := lv_entry ([.ref p0, .int a1]) (n := 5) (Nat.le_of_ble_eq_true rfl)
  rw [lg_entry_eq]
  generalize (lg_sl ([.ref p0, .int a1]) ++ List.replicate (5 - (lg_sl ([.ref p0, .int a1])).length) Slot.unset).toArray = ls at hl ⊢
  have hl : lv_has ls 5 [(0, .ref p0), (1, .int a1)] := hl
  refine lv_iload_n hx hb d_S_run_0 rfl (lv_at hl 1 rfl) ?_
  refine lv_iconst (v := 1) hx hb d_S_run_1 (by decide) ?_
  refine lv_icmp_lt (tgt := 12) hx hb d_S_run_2 (by decide) (fun c1 => ?_) (fun c1 => ?_)
  · refine lv_iconst (v := (-1)) hx hb d_S_run_12 (by decide) ?_
    refine W.widen (k := 2) (n := 8000) (by decide) (by decide) ?_
    exact W.iret (v := (-1 : Int32)) hx hb hr (fun t ht hW => ⟨⟨(-1 : Int32), (0 : Int32), rfl, rfl, ⟨_, isC_0, (by show va_P D classes _ t.heap; rw [ht]; exact hP), hD⟩⟩, hS.F ht⟩) hS.2.2 d_S_run_13
  · refine lv_iload_n hx hb d_S_run_5 rfl (lv_at hl 1 rfl) ?_
    refine lv_sipush (v := 20000) hx hb d_S_run_6 (by decide) ?_
    refine lv_icmp_le (tgt := 14) hx hb d_S_run_9 (by decide) (fun c2 => ?_) (fun c2 => ?_)
    · refine lv_iconst (v := 0) hx hb d_S_run_14 (by decide) ?_
      refine lv_istore_n (lv' := [(2, .int (0 : Int32)), (0, .ref p0), (1, .int a1)]) hx hb d_S_run_15 rfl hl (by decide) rfl (fun ls hl => ?_)
      refine lv_iconst (v := 0) hx hb d_S_run_16 (by decide) ?_
      refine lv_istore_n (lv' := [(3, .int (0 : Int32)), (2, .int (0 : Int32)), (0, .ref p0), (1, .int a1)]) hx hb d_S_run_17 rfl hl (by decide) rfl (fun ls hl => ?_)
      refine lv_iconst (v := 0) hx hb d_S_run_18 (by decide) ?_
      refine lv_istore (lv' := [(4, .int (0 : Int32)), (3, .int (0 : Int32)), (2, .int (0 : Int32)), (0, .ref p0), (1, .int a1)]) hx hb d_S_run_19 hl (by decide) rfl (fun ls hl => ?_)
      have LP21_x0 : ∀ (n : Nat) (l4 : Int32) (l3 : Int32) (l2 : Int32) (Mx0_4 : Bool) (Mx0_5 : Int32) (Mx0_6 : Int32) (Mx0_7 : Int32) (Mx0_8 : Int32) (Mx0_9 : Int32) (Mx0_10 : Int32) (Mx0_11 : Int32) (Mx0_12 : Int32) (Mx0_13 : Int32) (My1 : Nat → Int32) (My2 : Nat → Int32) (Mx3_0 : Int32) (Mx4_0 : Int32) (H : Heap) (locs : List Loc) (ls : Array Slot), ((a1).toInt - (l4).toInt).toNat < n → ¬ l4 < (0 : Int32) → va_P D classes ((wS54 cI cJ cZ cB p0 m0) ++ (wS51 cI cJ cZ cB m0 m1 m2 m3 m4 Mx0_4 Mx0_5 Mx0_6 Mx0_7 Mx0_8 Mx0_9 Mx0_10 Mx0_11 Mx0_12 Mx0_13 My1 My2 Mx3_0 Mx4_0)) H → va_D A ((wS54 cI cJ cZ cB p0 m0) ++ (wS51 cI cJ cZ cB m0 m1 m2 m3 m4 Mx0_4 Mx0_5 Mx0_6 Mx0_7 Mx0_8 Mx0_9 Mx0_10 Mx0_11 Mx0_12 Mx0_13 My1 My2 Mx3_0 Mx4_0)) → va_S A s.heap H locs → lv_has ls 5 [(4, .int l4), (3, .int l3), (2, .int l2), (0, .ref p0), (1, .int a1)] → W p l e ({ frames := 7, cells := 2, slots := 8000, locals := 151 }) s m [.ref p0, .int a1].toArray below meth c H locs 0 0 (MQ below (va_Qi (fun r (uL : Int32) => uL = (0 : Int32)) (fun uL t => ∃ W9 : va_W, isC K cI cJ cZ cB p0 uL W9 ∧ va_P D classes W9 t.heap ∧ va_D A W9) A) [.ref p0, .int a1].toArray s 2 8000 A) (F0 m 21 ls []) := by
        intro n
        induction n with
        | zero => intro l4 l3 l2 Mx0_4 Mx0_5 Mx0_6 Mx0_7 Mx0_8 Mx0_9 Mx0_10 Mx0_11 Mx0_12 Mx0_13 My1 My2 Mx3_0 Mx4_0 H locs ls hn; exact absurd hn (Nat.not_lt_zero _)
        | succ n ih =>
          intro l4 l3 l2 Mx0_4 Mx0_5 Mx0_6 Mx0_7 Mx0_8 Mx0_9 Mx0_10 Mx0_11 Mx0_12 Mx0_13 My1 My2 Mx3_0 Mx4_0 H locs ls hn21_x0 hc21_x0 hP hD hS hl
          refine lv_iload hx hb d_S_run_21 (lv_at hl 0 rfl) ?_
          refine lv_iload_n hx hb d_S_run_23 rfl (lv_at hl 4 rfl) ?_
          refine lv_icmp_ge (tgt := 53) hx hb d_S_run_24 (by decide) (fun c3 => ?_) (fun c3 => ?_)
          · refine lv_aload_n hx hb d_S_run_53 rfl (lv_at hl 3 rfl) ?_
            refine va_get (D := D) (ci := 0) (v := .ref m0) (C := "SignMachine") (T := F_S) (N := 2) hx hb hk fi_S hown hK.1 hP 0 rfl rfl 0 (by decide) (hk _ k_210) (fun _ h9 => h9) rfl d_S_run_54 ?_
            refine lv_iload_n hx hb d_S_run_57 rfl (lv_at hl 1 rfl) ?_
            refine va_putN (D := D) (ci := 1) (v := .int l3) (ty := .int) (C := "SignMachine$Machine") (T := F_M) (N := 14) hx hb hk fi_M ft_M ft_M_ok fn_M hown hK.1 hP hD hS 1 rfl rfl 8 (by decide) (va_Nw.use rfl (hK.2 _ n_175)) (fun _ h9 => h9) rfl (by decide +kernel) rfl rfl (Nat.le_of_ble_eq_true rfl) d_S_run_58 (fun H locs hP hD hS => ?_)
            have hP : va_P D classes ((wS54 cI cJ cZ cB p0 m0) ++ (wS51 cI cJ cZ cB m0 m1 m2 m3 m4 Mx0_4 Mx0_5 Mx0_6 Mx0_7 l3 Mx0_9 Mx0_10 Mx0_11 Mx0_12 Mx0_13 My1 My2 Mx3_0 Mx4_0)) H := hP
            have hD : va_D A ((wS54 cI cJ cZ cB p0 m0) ++ (wS51 cI cJ cZ cB m0 m1 m2 m3 m4 Mx0_4 Mx0_5 Mx0_6 Mx0_7 l3 Mx0_9 Mx0_10 Mx0_11 Mx0_12 Mx0_13 My1 My2 Mx3_0 Mx4_0)) := hD
            refine lv_iload_n hx hb d_S_run_61 rfl (lv_at hl 2 rfl) ?_
            refine W.widen (k := 2) (n := 8000) (by decide) (by decide) ?_
            exact W.iret (v := l2) hx hb hr (fun t ht hW => ⟨⟨l2, (0 : Int32), rfl, rfl, ⟨_, isC_0, (by show va_P D classes _ t.heap; rw [ht]; exact hP), hD⟩⟩, hS.F ht⟩) hS.2.2 d_S_run_62
          · refine lv_iload_n hx hb d_S_run_27 rfl (lv_at hl 1 rfl) ?_
            refine lv_if_ne (tgt := 53) hx hb d_S_run_28 (by decide) (fun c4 => ?_) (fun c4 => ?_)
            · refine lv_aload_n hx hb d_S_run_53 rfl (lv_at hl 3 rfl) ?_
              refine va_get (D := D) (ci := 0) (v := .ref m0) (C := "SignMachine") (T := F_S) (N := 2) hx hb hk fi_S hown hK.1 hP 0 rfl rfl 0 (by decide) (hk _ k_210) (fun _ h9 => h9) rfl d_S_run_54 ?_
              refine lv_iload_n hx hb d_S_run_57 rfl (lv_at hl 1 rfl) ?_
              refine va_putN (D := D) (ci := 1) (v := .int l3) (ty := .int) (C := "SignMachine$Machine") (T := F_M) (N := 14) hx hb hk fi_M ft_M ft_M_ok fn_M hown hK.1 hP hD hS 1 rfl rfl 8 (by decide) (va_Nw.use rfl (hK.2 _ n_175)) (fun _ h9 => h9) rfl (by decide +kernel) rfl rfl (Nat.le_of_ble_eq_true rfl) d_S_run_58 (fun H locs hP hD hS => ?_)
              have hP : va_P D classes ((wS54 cI cJ cZ cB p0 m0) ++ (wS51 cI cJ cZ cB m0 m1 m2 m3 m4 Mx0_4 Mx0_5 Mx0_6 Mx0_7 l3 Mx0_9 Mx0_10 Mx0_11 Mx0_12 Mx0_13 My1 My2 Mx3_0 Mx4_0)) H := hP
              have hD : va_D A ((wS54 cI cJ cZ cB p0 m0) ++ (wS51 cI cJ cZ cB m0 m1 m2 m3 m4 Mx0_4 Mx0_5 Mx0_6 Mx0_7 l3 Mx0_9 Mx0_10 Mx0_11 Mx0_12 Mx0_13 My1 My2 Mx3_0 Mx4_0)) := hD
              refine lv_iload_n hx hb d_S_run_61 rfl (lv_at hl 2 rfl) ?_
              refine W.widen (k := 2) (n := 8000) (by decide) (by decide) ?_
              exact W.iret (v := l2) hx hb hr (fun t ht hW => ⟨⟨l2, (0 : Int32), rfl, rfl, ⟨_, isC_0, (by show va_P D classes _ t.heap; rw [ht]; exact hP), hD⟩⟩, hS.F ht⟩) hS.2.2 d_S_run_62
            · refine lv_aload_n hx hb d_S_run_31 rfl (lv_at hl 3 rfl) ?_
              refine va_get (D := D) (ci := 0) (v := .ref m0) (C := "SignMachine") (T := F_S) (N := 2) hx hb hk fi_S hown hK.1 hP 0 rfl rfl 0 (by decide) (hk _ k_210) (fun _ h9 => h9) rfl d_S_run_32 ?_
              by_cases q5 : ((f_W_size (f_mw My1 Mx0_7)) &&& (63 : Int32)) = (37 : Int32)
              · by_cases q6 : (((f_W_size (f_mw My1 Mx0_7)) >>> ((6 : Int32) &&& (31 : Int32))) &&& (63 : Int32)) = (0 : Int32)
                · have hPc := hP.sub (ws' := (wS51 cI cJ cZ cB m0 m1 m2 m3 m4 Mx0_4 Mx0_5 Mx0_6 Mx0_7 Mx0_8 Mx0_9 Mx0_10 Mx0_11 Mx0_12 Mx0_13 My1 My2 Mx3_0 Mx4_0)) [1, 2, 3, 4, 5] rfl
                  have hDc := hD.sub (ws' := (wS51 cI cJ cZ cB m0 m1 m2 m3 m4 Mx0_4 Mx0_5 Mx0_6 Mx0_7 Mx0_8 Mx0_9 Mx0_10 Mx0_11 Mx0_12 Mx0_13 My1 My2 Mx3_0 Mx4_0)) [1, 2, 3, 4, 5] (by decide) rfl
                  have hFc := va_free (wc := (wS51 cI cJ cZ cB m0 m1 m2 m3 m4 Mx0_4 Mx0_5 Mx0_6 Mx0_7 Mx0_8 Mx0_9 Mx0_10 Mx0_11 Mx0_12 Mx0_13 My1 My2 Mx3_0 Mx4_0)) hD hS hA [1, 2, 3, 4, 5] rfl
                  refine va_calli (va_runV (C := "SignMachine$Machine") (As := []) (rest := []) ⟨hx, hb, hml, hown, hk⟩ (c_M_execute_s1 l K D cI cJ cZ cB m0 m1 m2 m3 m4 H.size Mx0_4 Mx0_5 Mx0_6 Mx0_7 Mx0_8 Mx0_9 Mx0_10 Mx0_11 Mx0_12 Mx0_13 My1 My2 Mx3_0 Mx4_0  q5 q6) (v_M_execute_s1 hk k_258 ⟨Nat.le_of_ble_eq_true rfl, Nat.le_of_ble_eq_true rfl⟩) (pMC_v hK hPc hDc hC hS hA (ci := 1) (q0 := 0) rfl rfl rfl) rfl rfl hl.1 rfl (lv_room (Nat.le_of_ble_eq_true rfl)) d_S_run_35 ⟨by decide, by decide⟩) hS (fun q _ h => hFc q h) hFc (fun rz7 u t H locs ht hvm hr0 hB hzq hkq hS => ?_)
                  subst hr0
                  rcases hB with ⟨hzz7, Mx0_6z7, Mx0_7z7, Mx0_9z7, Mx0_10z7, Mx0_11z7, Mx0_12z7, Mx0_13z7, Mx3_0z7, hP1, hD1⟩ | ⟨m5, Mx0_6z7, Mx0_7z7, Mx0_9z7, Mx0_10z7, Mx0_11z7, Mx0_12z7, Mx0_13z7, Mx3_0z7, My5z7, hP1, hD1⟩
                  · rw [ht] at hP1
                    obtain ⟨hP, hD⟩ := va_join (wr := (wS54 cI cJ cZ cB p0 m0)) (w1 := (wS51 cI cJ cZ cB m0 m1 m2 m3 m4 Mx0_4 Mx0_5 Mx0_6z7 Mx0_7z7 Mx0_8 Mx0_9z7 Mx0_10z7 Mx0_11z7 Mx0_12z7 Mx0_13z7 My1 My2 Mx3_0z7 Mx4_0)) hP hD [1, 2, 3, 4, 5] [0] rfl rfl (by decide) (by decide) hkq hFc hP1 hD1
                    have hP := hP.sub (ws' := ((wS54 cI cJ cZ cB p0 m0) ++ (wS51 cI cJ cZ cB m0 m1 m2 m3 m4 Mx0_4 Mx0_5 Mx0_6z7 Mx0_7z7 Mx0_8 Mx0_9z7 Mx0_10z7 Mx0_11z7 Mx0_12z7 Mx0_13z7 My1 My2 Mx3_0z7 Mx4_0))) [0, 1, 2, 3, 4, 5] rfl
                    have hD := hD.sub (ws' := ((wS54 cI cJ cZ cB p0 m0) ++ (wS51 cI cJ cZ cB m0 m1 m2 m3 m4 Mx0_4 Mx0_5 Mx0_6z7 Mx0_7z7 Mx0_8 Mx0_9z7 Mx0_10z7 Mx0_11z7 Mx0_12z7 Mx0_13z7 My1 My2 Mx3_0z7 Mx4_0))) [0, 1, 2, 3, 4, 5] (by decide) rfl
                    have hP : va_P D classes ((wS54 cI cJ cZ cB p0 m0) ++ (wS51 cI cJ cZ cB m0 m1 m2 m3 m4 Mx0_4 Mx0_5 Mx0_6z7 Mx0_7z7 Mx0_8 Mx0_9z7 Mx0_10z7 Mx0_11z7 Mx0_12z7 Mx0_13z7 My1 My2 Mx3_0z7 Mx4_0)) H := hP
                    have hD : va_D A ((wS54 cI cJ cZ cB p0 m0) ++ (wS51 cI cJ cZ cB m0 m1 m2 m3 m4 Mx0_4 Mx0_5 Mx0_6z7 Mx0_7z7 Mx0_8 Mx0_9z7 Mx0_10z7 Mx0_11z7 Mx0_12z7 Mx0_13z7 My1 My2 Mx3_0z7 Mx4_0)) := hD
                    clear hPc hDc hFc
                    refine W.widen (k := 1) (n := 4000) (by decide) (by decide) ?_
                    refine lv_istore_n (lv' := [(3, .int rz7), (4, .int l4), (2, .int l2), (0, .ref p0), (1, .int a1)]) hx hb d_S_run_38 rfl hl (by decide) rfl (fun ls hl => ?_)
                    refine lv_iload_n hx hb d_S_run_39 rfl (lv_at hl 0 rfl) ?_
                    refine lv_iconst (v := 1) hx hb d_S_run_40 (by decide) ?_
                    refine lv_icmp_gt (tgt := 47) hx hb d_S_run_41 (by decide) (fun c8 => ?_) (fun c8 => ?_)
                    · obtain ⟨v9, hv9⟩ : ∃ y : Int32, y = (l4 + (1 : Int32)) := ⟨_, rfl⟩
                      refine lv_iinc (v := v9) (lv' := [(4, .int v9), (3, .int rz7), (2, .int l2), (0, .ref p0), (1, .int a1)]) hx hb d_S_run_47 hl (k := 1) rfl (by rw [hv9]; rfl) (by decide) rfl (fun ls hl => ?_)
                      refine lv_goto (tgt := 21) hx hb d_S_run_50 (by decide) ?_
                      refine lv_iload hx hb d_S_run_21 (lv_at hl 0 rfl) ?_
                      refine lv_iload_n hx hb d_S_run_23 rfl (lv_at hl 4 rfl) ?_
                      refine lv_icmp_ge (tgt := 53) hx hb d_S_run_24 (by decide) (fun c10 => ?_) (fun c10 => ?_)
                      · refine lv_aload_n hx hb d_S_run_53 rfl (lv_at hl 3 rfl) ?_
                        refine va_get (D := D) (ci := 0) (v := .ref m0) (C := "SignMachine") (T := F_S) (N := 2) hx hb hk fi_S hown hK.1 hP 0 rfl rfl 0 (by decide) (hk _ k_210) (fun _ h9 => h9) rfl d_S_run_54 ?_
                        refine lv_iload_n hx hb d_S_run_57 rfl (lv_at hl 1 rfl) ?_
                        refine va_putN (D := D) (ci := 1) (v := .int rz7) (ty := .int) (C := "SignMachine$Machine") (T := F_M) (N := 14) hx hb hk fi_M ft_M ft_M_ok fn_M hown hK.1 hP hD hS 1 rfl rfl 8 (by decide) (va_Nw.use rfl (hK.2 _ n_175)) (fun _ h9 => h9) rfl (by decide +kernel) rfl rfl (Nat.le_of_ble_eq_true rfl) d_S_run_58 (fun H locs hP hD hS => ?_)
                        have hP : va_P D classes ((wS54 cI cJ cZ cB p0 m0) ++ (wS51 cI cJ cZ cB m0 m1 m2 m3 m4 Mx0_4 Mx0_5 Mx0_6z7 Mx0_7z7 rz7 Mx0_9z7 Mx0_10z7 Mx0_11z7 Mx0_12z7 Mx0_13z7 My1 My2 Mx3_0z7 Mx4_0)) H := hP
                        have hD : va_D A ((wS54 cI cJ cZ cB p0 m0) ++ (wS51 cI cJ cZ cB m0 m1 m2 m3 m4 Mx0_4 Mx0_5 Mx0_6z7 Mx0_7z7 rz7 Mx0_9z7 Mx0_10z7 Mx0_11z7 Mx0_12z7 Mx0_13z7 My1 My2 Mx3_0z7 Mx4_0)) := hD
                        refine lv_iload_n hx hb d_S_run_61 rfl (lv_at hl 2 rfl) ?_
                        refine W.widen (k := 2) (n := 8000) (by decide) (by decide) ?_
                        exact W.iret (v := l2) hx hb hr (fun t ht hW => ⟨⟨l2, (0 : Int32), rfl, rfl, ⟨_, isC_0, (by show va_P D classes _ t.heap; rw [ht]; exact hP), hD⟩⟩, hS.F ht⟩) hS.2.2 d_S_run_62
                      · refine lv_iload_n hx hb d_S_run_27 rfl (lv_at hl 1 rfl) ?_
                        refine lv_if_ne (tgt := 53) hx hb d_S_run_28 (by decide) (fun c11 => ?_) (fun c11 => absurd c11 (show ¬ rz7 = (0 : Int32) from hzz7))
                        refine lv_aload_n hx hb d_S_run_53 rfl (lv_at hl 3 rfl) ?_
                        refine va_get (D := D) (ci := 0) (v := .ref m0) (C := "SignMachine") (T := F_S) (N := 2) hx hb hk fi_S hown hK.1 hP 0 rfl rfl 0 (by decide) (hk _ k_210) (fun _ h9 => h9) rfl d_S_run_54 ?_
                        refine lv_iload_n hx hb d_S_run_57 rfl (lv_at hl 1 rfl) ?_
                        refine va_putN (D := D) (ci := 1) (v := .int rz7) (ty := .int) (C := "SignMachine$Machine") (T := F_M) (N := 14) hx hb hk fi_M ft_M ft_M_ok fn_M hown hK.1 hP hD hS 1 rfl rfl 8 (by decide) (va_Nw.use rfl (hK.2 _ n_175)) (fun _ h9 => h9) rfl (by decide +kernel) rfl rfl (Nat.le_of_ble_eq_true rfl) d_S_run_58 (fun H locs hP hD hS => ?_)
                        have hP : va_P D classes ((wS54 cI cJ cZ cB p0 m0) ++ (wS51 cI cJ cZ cB m0 m1 m2 m3 m4 Mx0_4 Mx0_5 Mx0_6z7 Mx0_7z7 rz7 Mx0_9z7 Mx0_10z7 Mx0_11z7 Mx0_12z7 Mx0_13z7 My1 My2 Mx3_0z7 Mx4_0)) H := hP
                        have hD : va_D A ((wS54 cI cJ cZ cB p0 m0) ++ (wS51 cI cJ cZ cB m0 m1 m2 m3 m4 Mx0_4 Mx0_5 Mx0_6z7 Mx0_7z7 rz7 Mx0_9z7 Mx0_10z7 Mx0_11z7 Mx0_12z7 Mx0_13z7 My1 My2 Mx3_0z7 Mx4_0)) := hD
                        refine lv_iload_n hx hb d_S_run_61 rfl (lv_at hl 2 rfl) ?_
                        refine W.widen (k := 2) (n := 8000) (by decide) (by decide) ?_
                        exact W.iret (v := l2) hx hb hr (fun t ht hW => ⟨⟨l2, (0 : Int32), rfl, rfl, ⟨_, isC_0, (by show va_P D classes _ t.heap; rw [ht]; exact hP), hD⟩⟩, hS.F ht⟩) hS.2.2 d_S_run_62
                    · obtain ⟨v12, hv12⟩ : ∃ y : Int32, y = (l2 + (1 : Int32)) := ⟨_, rfl⟩
                      refine lv_iinc (v := v12) (lv' := [(2, .int v12), (3, .int rz7), (4, .int l4), (0, .ref p0), (1, .int a1)]) hx hb d_S_run_44 hl (k := 2) rfl (by rw [hv12]; rfl) (by decide) rfl (fun ls hl => ?_)
                      obtain ⟨v13, hv13⟩ : ∃ y : Int32, y = (l4 + (1 : Int32)) := ⟨_, rfl⟩
                      refine lv_iinc (v := v13) (lv' := [(4, .int v13), (2, .int v12), (3, .int rz7), (0, .ref p0), (1, .int a1)]) hx hb d_S_run_47 hl (k := 2) rfl (by rw [hv13]; rfl) (by decide) rfl (fun ls hl => ?_)
                      refine lv_goto (tgt := 21) hx hb d_S_run_50 (by decide) ?_
                      refine lv_iload hx hb d_S_run_21 (lv_at hl 0 rfl) ?_
                      refine lv_iload_n hx hb d_S_run_23 rfl (lv_at hl 4 rfl) ?_
                      refine lv_icmp_ge (tgt := 53) hx hb d_S_run_24 (by decide) (fun c14 => ?_) (fun c14 => ?_)
                      · refine lv_aload_n hx hb d_S_run_53 rfl (lv_at hl 3 rfl) ?_
                        refine va_get (D := D) (ci := 0) (v := .ref m0) (C := "SignMachine") (T := F_S) (N := 2) hx hb hk fi_S hown hK.1 hP 0 rfl rfl 0 (by decide) (hk _ k_210) (fun _ h9 => h9) rfl d_S_run_54 ?_
                        refine lv_iload_n hx hb d_S_run_57 rfl (lv_at hl 2 rfl) ?_
                        refine va_putN (D := D) (ci := 1) (v := .int rz7) (ty := .int) (C := "SignMachine$Machine") (T := F_M) (N := 14) hx hb hk fi_M ft_M ft_M_ok fn_M hown hK.1 hP hD hS 1 rfl rfl 8 (by decide) (va_Nw.use rfl (hK.2 _ n_175)) (fun _ h9 => h9) rfl (by decide +kernel) rfl rfl (Nat.le_of_ble_eq_true rfl) d_S_run_58 (fun H locs hP hD hS => ?_)
                        have hP : va_P D classes ((wS54 cI cJ cZ cB p0 m0) ++ (wS51 cI cJ cZ cB m0 m1 m2 m3 m4 Mx0_4 Mx0_5 Mx0_6z7 Mx0_7z7 rz7 Mx0_9z7 Mx0_10z7 Mx0_11z7 Mx0_12z7 Mx0_13z7 My1 My2 Mx3_0z7 Mx4_0)) H := hP
                        have hD : va_D A ((wS54 cI cJ cZ cB p0 m0) ++ (wS51 cI cJ cZ cB m0 m1 m2 m3 m4 Mx0_4 Mx0_5 Mx0_6z7 Mx0_7z7 rz7 Mx0_9z7 Mx0_10z7 Mx0_11z7 Mx0_12z7 Mx0_13z7 My1 My2 Mx3_0z7 Mx4_0)) := hD
                        refine lv_iload_n hx hb d_S_run_61 rfl (lv_at hl 1 rfl) ?_
                        refine W.widen (k := 2) (n := 8000) (by decide) (by decide) ?_
                        exact W.iret (v := v12) hx hb hr (fun t ht hW => ⟨⟨v12, (0 : Int32), rfl, rfl, ⟨_, isC_0, (by show va_P D classes _ t.heap; rw [ht]; exact hP), hD⟩⟩, hS.F ht⟩) hS.2.2 d_S_run_62
                      · refine lv_iload_n hx hb d_S_run_27 rfl (lv_at hl 2 rfl) ?_
                        refine lv_if_ne (tgt := 53) hx hb d_S_run_28 (by decide) (fun c15 => ?_) (fun c15 => absurd c15 (show ¬ rz7 = (0 : Int32) from hzz7))
                        refine lv_aload_n hx hb d_S_run_53 rfl (lv_at hl 3 rfl) ?_
                        refine va_get (D := D) (ci := 0) (v := .ref m0) (C := "SignMachine") (T := F_S) (N := 2) hx hb hk fi_S hown hK.1 hP 0 rfl rfl 0 (by decide) (hk _ k_210) (fun _ h9 => h9) rfl d_S_run_54 ?_
                        refine lv_iload_n hx hb d_S_run_57 rfl (lv_at hl 2 rfl) ?_
                        refine va_putN (D := D) (ci := 1) (v := .int rz7) (ty := .int) (C := "SignMachine$Machine") (T := F_M) (N := 14) hx hb hk fi_M ft_M ft_M_ok fn_M hown hK.1 hP hD hS 1 rfl rfl 8 (by decide) (va_Nw.use rfl (hK.2 _ n_175)) (fun _ h9 => h9) rfl (by decide +kernel) rfl rfl (Nat.le_of_ble_eq_true rfl) d_S_run_58 (fun H locs hP hD hS => ?_)
                        have hP : va_P D classes ((wS54 cI cJ cZ cB p0 m0) ++ (wS51 cI cJ cZ cB m0 m1 m2 m3 m4 Mx0_4 Mx0_5 Mx0_6z7 Mx0_7z7 rz7 Mx0_9z7 Mx0_10z7 Mx0_11z7 Mx0_12z7 Mx0_13z7 My1 My2 Mx3_0z7 Mx4_0)) H := hP
                        have hD : va_D A ((wS54 cI cJ cZ cB p0 m0) ++ (wS51 cI cJ cZ cB m0 m1 m2 m3 m4 Mx0_4 Mx0_5 Mx0_6z7 Mx0_7z7 rz7 Mx0_9z7 Mx0_10z7 Mx0_11z7 Mx0_12z7 Mx0_13z7 My1 My2 Mx3_0z7 Mx4_0)) := hD
                        refine lv_iload_n hx hb d_S_run_61 rfl (lv_at hl 1 rfl) ?_
                        refine W.widen (k := 2) (n := 8000) (by decide) (by decide) ?_
                        exact W.iret (v := v12) hx hb hr (fun t ht hW => ⟨⟨v12, (0 : Int32), rfl, rfl, ⟨_, isC_0, (by show va_P D classes _ t.heap; rw [ht]; exact hP), hD⟩⟩, hS.F ht⟩) hS.2.2 d_S_run_62
                  · rw [ht] at hP1
                    obtain ⟨hP, hD⟩ := va_join (wr := (wS54 cI cJ cZ cB p0 m0)) (w1 := (wS57 cI cJ cZ cB m0 m1 m2 m3 m4 m5 Mx0_4 Mx0_5 Mx0_6z7 Mx0_7z7 Mx0_8 Mx0_9z7 Mx0_10z7 Mx0_11z7 Mx0_12z7 Mx0_13z7 My1 My2 Mx3_0z7 Mx4_0 My5z7)) hP hD [1, 2, 3, 4, 5] [0] rfl rfl (by decide) (by decide) hkq hFc hP1 hD1
                    have hP := hP.sub (ws' := ((wS54 cI cJ cZ cB p0 m0) ++ (wS57 cI cJ cZ cB m0 m1 m2 m3 m4 m5 Mx0_4 Mx0_5 Mx0_6z7 Mx0_7z7 Mx0_8 Mx0_9z7 Mx0_10z7 Mx0_11z7 Mx0_12z7 Mx0_13z7 My1 My2 Mx3_0z7 Mx4_0 My5z7))) [0, 1, 2, 3, 4, 5, 6] rfl
                    have hD := hD.sub (ws' := ((wS54 cI cJ cZ cB p0 m0) ++ (wS57 cI cJ cZ cB m0 m1 m2 m3 m4 m5 Mx0_4 Mx0_5 Mx0_6z7 Mx0_7z7 Mx0_8 Mx0_9z7 Mx0_10z7 Mx0_11z7 Mx0_12z7 Mx0_13z7 My1 My2 Mx3_0z7 Mx4_0 My5z7))) [0, 1, 2, 3, 4, 5, 6] (by decide) rfl
                    have hP : va_P D classes ((wS54 cI cJ cZ cB p0 m0) ++ (wS57 cI cJ cZ cB m0 m1 m2 m3 m4 m5 Mx0_4 Mx0_5 Mx0_6z7 Mx0_7z7 Mx0_8 Mx0_9z7 Mx0_10z7 Mx0_11z7 Mx0_12z7 Mx0_13z7 My1 My2 Mx3_0z7 Mx4_0 My5z7)) H := hP
                    have hD : va_D A ((wS54 cI cJ cZ cB p0 m0) ++ (wS57 cI cJ cZ cB m0 m1 m2 m3 m4 m5 Mx0_4 Mx0_5 Mx0_6z7 Mx0_7z7 Mx0_8 Mx0_9z7 Mx0_10z7 Mx0_11z7 Mx0_12z7 Mx0_13z7 My1 My2 Mx3_0z7 Mx4_0 My5z7)) := hD
                    clear hPc hDc hFc
                    refine W.widen (k := 1) (n := 4000) (by decide) (by decide) ?_
                    refine lv_istore_n (lv' := [(3, .int rz7), (4, .int l4), (2, .int l2), (0, .ref p0), (1, .int a1)]) hx hb d_S_run_38 rfl hl (by decide) rfl (fun ls hl => ?_)
                    refine lv_iload_n hx hb d_S_run_39 rfl (lv_at hl 0 rfl) ?_
                    refine lv_iconst (v := 1) hx hb d_S_run_40 (by decide) ?_
                    refine lv_icmp_gt (tgt := 47) hx hb d_S_run_41 (by decide) (fun c16 => ?_) (fun c16 => ?_)
                    · obtain ⟨v17, hv17⟩ : ∃ y : Int32, y = (l4 + (1 : Int32)) := ⟨_, rfl⟩
                      refine lv_iinc (v := v17) (lv' := [(4, .int v17), (3, .int rz7), (2, .int l2), (0, .ref p0), (1, .int a1)]) hx hb d_S_run_47 hl (k := 1) rfl (by rw [hv17]; rfl) (by decide) rfl (fun ls hl => ?_)
                      refine lv_goto (tgt := 21) hx hb d_S_run_50 (by decide) ?_
                      have LP21_x1 : ∀ (n : Nat) (l4 : Int32) (l3 : Int32) (l2 : Int32) (Mx0_4 : Bool) (Mx0_5 : Int32) (Mx0_6 : Int32) (Mx0_7 : Int32) (Mx0_8 : Int32) (Mx0_9 : Int32) (Mx0_10 : Int32) (Mx0_11 : Int32) (Mx0_12 : Int32) (Mx0_13 : Int32) (My1 : Nat → Int32) (My2 : Nat → Int32) (Mx3_0 : Int32) (Mx4_0 : Int32) (My5 : Nat → Int32) (H : Heap) (locs : List Loc) (ls : Array Slot), ((a1).toInt - (l4).toInt).toNat < n → ¬ l4 < (0 : Int32) → va_P D classes ((wS54 cI cJ cZ cB p0 m0) ++ (wS57 cI cJ cZ cB m0 m1 m2 m3 m4 m5 Mx0_4 Mx0_5 Mx0_6 Mx0_7 Mx0_8 Mx0_9 Mx0_10 Mx0_11 Mx0_12 Mx0_13 My1 My2 Mx3_0 Mx4_0 My5)) H → va_D A ((wS54 cI cJ cZ cB p0 m0) ++ (wS57 cI cJ cZ cB m0 m1 m2 m3 m4 m5 Mx0_4 Mx0_5 Mx0_6 Mx0_7 Mx0_8 Mx0_9 Mx0_10 Mx0_11 Mx0_12 Mx0_13 My1 My2 Mx3_0 Mx4_0 My5)) → va_S A s.heap H locs → lv_has ls 5 [(4, .int l4), (3, .int l3), (2, .int l2), (0, .ref p0), (1, .int a1)] → W p l e ({ frames := 7, cells := 2, slots := 8000, locals := 151 }) s m [.ref p0, .int a1].toArray below meth c H locs 1 4000 (MQ below (va_Qi (fun r (uL : Int32) => uL = (0 : Int32)) (fun uL t => ∃ W9 : va_W, isC K cI cJ cZ cB p0 uL W9 ∧ va_P D classes W9 t.heap ∧ va_D A W9) A) [.ref p0, .int a1].toArray s 2 8000 A) (F0 m 21 ls []) := by
                        intro n
                        induction n with
                        | zero => intro l4 l3 l2 Mx0_4 Mx0_5 Mx0_6 Mx0_7 Mx0_8 Mx0_9 Mx0_10 Mx0_11 Mx0_12 Mx0_13 My1 My2 Mx3_0 Mx4_0 My5 H locs ls hn; exact absurd hn (Nat.not_lt_zero _)
                        | succ n ih =>
                          intro l4 l3 l2 Mx0_4 Mx0_5 Mx0_6 Mx0_7 Mx0_8 Mx0_9 Mx0_10 Mx0_11 Mx0_12 Mx0_13 My1 My2 Mx3_0 Mx4_0 My5 H locs ls hn21_x1 hc21_x1 hP hD hS hl
                          refine lv_iload hx hb d_S_run_21 (lv_at hl 0 rfl) ?_
                          refine lv_iload_n hx hb d_S_run_23 rfl (lv_at hl 4 rfl) ?_
                          refine lv_icmp_ge (tgt := 53) hx hb d_S_run_24 (by decide) (fun c18 => ?_) (fun c18 => ?_)
                          · refine lv_aload_n hx hb d_S_run_53 rfl (lv_at hl 3 rfl) ?_
                            refine va_get (D := D) (ci := 0) (v := .ref m0) (C := "SignMachine") (T := F_S) (N := 2) hx hb hk fi_S hown hK.1 hP 0 rfl rfl 0 (by decide) (hk _ k_210) (fun _ h9 => h9) rfl d_S_run_54 ?_
                            refine lv_iload_n hx hb d_S_run_57 rfl (lv_at hl 1 rfl) ?_
                            refine va_putN (D := D) (ci := 1) (v := .int l3) (ty := .int) (C := "SignMachine$Machine") (T := F_M) (N := 14) hx hb hk fi_M ft_M ft_M_ok fn_M hown hK.1 hP hD hS 1 rfl rfl 8 (by decide) (va_Nw.use rfl (hK.2 _ n_175)) (fun _ h9 => h9) rfl (by decide +kernel) rfl rfl (Nat.le_of_ble_eq_true rfl) d_S_run_58 (fun H locs hP hD hS => ?_)
                            have hP : va_P D classes ((wS54 cI cJ cZ cB p0 m0) ++ (wS57 cI cJ cZ cB m0 m1 m2 m3 m4 m5 Mx0_4 Mx0_5 Mx0_6 Mx0_7 l3 Mx0_9 Mx0_10 Mx0_11 Mx0_12 Mx0_13 My1 My2 Mx3_0 Mx4_0 My5)) H := hP
                            have hD : va_D A ((wS54 cI cJ cZ cB p0 m0) ++ (wS57 cI cJ cZ cB m0 m1 m2 m3 m4 m5 Mx0_4 Mx0_5 Mx0_6 Mx0_7 l3 Mx0_9 Mx0_10 Mx0_11 Mx0_12 Mx0_13 My1 My2 Mx3_0 Mx4_0 My5)) := hD
                            refine lv_iload_n hx hb d_S_run_61 rfl (lv_at hl 2 rfl) ?_
                            refine W.widen (k := 2) (n := 8000) (by decide) (by decide) ?_
                            exact W.iret (v := l2) hx hb hr (fun t ht hW => ⟨⟨l2, (0 : Int32), rfl, rfl, ⟨_, isC_1, (by show va_P D classes _ t.heap; rw [ht]; exact hP), hD⟩⟩, hS.F ht⟩) hS.2.2 d_S_run_62
                          · refine lv_iload_n hx hb d_S_run_27 rfl (lv_at hl 1 rfl) ?_
                            refine lv_if_ne (tgt := 53) hx hb d_S_run_28 (by decide) (fun c19 => ?_) (fun c19 => ?_)
                            · refine lv_aload_n hx hb d_S_run_53 rfl (lv_at hl 3 rfl) ?_
                              refine va_get (D := D) (ci := 0) (v := .ref m0) (C := "SignMachine") (T := F_S) (N := 2) hx hb hk fi_S hown hK.1 hP 0 rfl rfl 0 (by decide) (hk _ k_210) (fun _ h9 => h9) rfl d_S_run_54 ?_
                              refine lv_iload_n hx hb d_S_run_57 rfl (lv_at hl 1 rfl) ?_
                              refine va_putN (D := D) (ci := 1) (v := .int l3) (ty := .int) (C := "SignMachine$Machine") (T := F_M) (N := 14) hx hb hk fi_M ft_M ft_M_ok fn_M hown hK.1 hP hD hS 1 rfl rfl 8 (by decide) (va_Nw.use rfl (hK.2 _ n_175)) (fun _ h9 => h9) rfl (by decide +kernel) rfl rfl (Nat.le_of_ble_eq_true rfl) d_S_run_58 (fun H locs hP hD hS => ?_)
                              have hP : va_P D classes ((wS54 cI cJ cZ cB p0 m0) ++ (wS57 cI cJ cZ cB m0 m1 m2 m3 m4 m5 Mx0_4 Mx0_5 Mx0_6 Mx0_7 l3 Mx0_9 Mx0_10 Mx0_11 Mx0_12 Mx0_13 My1 My2 Mx3_0 Mx4_0 My5)) H := hP
                              have hD : va_D A ((wS54 cI cJ cZ cB p0 m0) ++ (wS57 cI cJ cZ cB m0 m1 m2 m3 m4 m5 Mx0_4 Mx0_5 Mx0_6 Mx0_7 l3 Mx0_9 Mx0_10 Mx0_11 Mx0_12 Mx0_13 My1 My2 Mx3_0 Mx4_0 My5)) := hD
                              refine lv_iload_n hx hb d_S_run_61 rfl (lv_at hl 2 rfl) ?_
                              refine W.widen (k := 2) (n := 8000) (by decide) (by decide) ?_
                              exact W.iret (v := l2) hx hb hr (fun t ht hW => ⟨⟨l2, (0 : Int32), rfl, rfl, ⟨_, isC_1, (by show va_P D classes _ t.heap; rw [ht]; exact hP), hD⟩⟩, hS.F ht⟩) hS.2.2 d_S_run_62
                            · refine lv_aload_n hx hb d_S_run_31 rfl (lv_at hl 3 rfl) ?_
                              refine va_get (D := D) (ci := 0) (v := .ref m0) (C := "SignMachine") (T := F_S) (N := 2) hx hb hk fi_S hown hK.1 hP 0 rfl rfl 0 (by decide) (hk _ k_210) (fun _ h9 => h9) rfl d_S_run_32 ?_
                              by_cases q20 : ((f_W_size (f_mw My1 Mx0_7)) &&& (63 : Int32)) = (37 : Int32)
                              · by_cases q21 : (((f_W_size (f_mw My1 Mx0_7)) >>> ((6 : Int32) &&& (31 : Int32))) &&& (63 : Int32)) = (0 : Int32)
                                · have hPc := hP.sub (ws' := (wS57 cI cJ cZ cB m0 m1 m2 m3 m4 m5 Mx0_4 Mx0_5 Mx0_6 Mx0_7 Mx0_8 Mx0_9 Mx0_10 Mx0_11 Mx0_12 Mx0_13 My1 My2 Mx3_0 Mx4_0 My5)) [1, 2, 3, 4, 5, 6] rfl
                                  have hDc := hD.sub (ws' := (wS57 cI cJ cZ cB m0 m1 m2 m3 m4 m5 Mx0_4 Mx0_5 Mx0_6 Mx0_7 Mx0_8 Mx0_9 Mx0_10 Mx0_11 Mx0_12 Mx0_13 My1 My2 Mx3_0 Mx4_0 My5)) [1, 2, 3, 4, 5, 6] (by decide) rfl
                                  have hFc := va_free (wc := (wS57 cI cJ cZ cB m0 m1 m2 m3 m4 m5 Mx0_4 Mx0_5 Mx0_6 Mx0_7 Mx0_8 Mx0_9 Mx0_10 Mx0_11 Mx0_12 Mx0_13 My1 My2 Mx3_0 Mx4_0 My5)) hD hS hA [1, 2, 3, 4, 5, 6] rfl
                                  refine va_calli (va_runV (C := "SignMachine$Machine") (As := []) (rest := []) ⟨hx, hb, hml, hown, hk⟩ (c_M_execute_s4 l K D cI cJ cZ cB m0 m1 m2 m3 m4 m5 H.size Mx0_4 Mx0_5 Mx0_6 Mx0_7 Mx0_8 Mx0_9 Mx0_10 Mx0_11 Mx0_12 Mx0_13 My1 My2 Mx3_0 Mx4_0 My5  q20 q21) (v_M_execute_s4 hk k_258 ⟨Nat.le_of_ble_eq_true rfl, Nat.le_of_ble_eq_true rfl⟩) (pMC_v hK hPc hDc hC hS hA (ci := 1) (q0 := 0) rfl rfl rfl) rfl rfl hl.1 rfl (lv_room (Nat.le_of_ble_eq_true rfl)) d_S_run_35 ⟨by decide, by decide⟩) hS (fun q _ h => hFc q h) hFc (fun rz22 u t H locs ht hvm hr0 hB hzq hkq hS => ?_)
                                  obtain ⟨Mx0_6z22, Mx0_7z22, Mx0_9z22, Mx0_10z22, Mx0_11z22, Mx0_12z22, Mx0_13z22, Mx3_0z22, My5z22, hP1, hD1⟩ := hB
                                  rw [ht] at hP1
                                  obtain ⟨hP, hD⟩ := va_join (wr := (wS54 cI cJ cZ cB p0 m0)) (w1 := (wS57 cI cJ cZ cB m0 m1 m2 m3 m4 m5 Mx0_4 Mx0_5 Mx0_6z22 Mx0_7z22 Mx0_8 Mx0_9z22 Mx0_10z22 Mx0_11z22 Mx0_12z22 Mx0_13z22 My1 My2 Mx3_0z22 Mx4_0 My5z22)) hP hD [1, 2, 3, 4, 5, 6] [0] rfl rfl (by decide) (by decide) hkq hFc hP1 hD1
                                  have hP := hP.sub (ws' := ((wS54 cI cJ cZ cB p0 m0) ++ (wS57 cI cJ cZ cB m0 m1 m2 m3 m4 m5 Mx0_4 Mx0_5 Mx0_6z22 Mx0_7z22 Mx0_8 Mx0_9z22 Mx0_10z22 Mx0_11z22 Mx0_12z22 Mx0_13z22 My1 My2 Mx3_0z22 Mx4_0 My5z22))) [0, 1, 2, 3, 4, 5, 6] rfl
                                  have hD := hD.sub (ws' := ((wS54 cI cJ cZ cB p0 m0) ++ (wS57 cI cJ cZ cB m0 m1 m2 m3 m4 m5 Mx0_4 Mx0_5 Mx0_6z22 Mx0_7z22 Mx0_8 Mx0_9z22 Mx0_10z22 Mx0_11z22 Mx0_12z22 Mx0_13z22 My1 My2 Mx3_0z22 Mx4_0 My5z22))) [0, 1, 2, 3, 4, 5, 6] (by decide) rfl
                                  have hP : va_P D classes ((wS54 cI cJ cZ cB p0 m0) ++ (wS57 cI cJ cZ cB m0 m1 m2 m3 m4 m5 Mx0_4 Mx0_5 Mx0_6z22 Mx0_7z22 Mx0_8 Mx0_9z22 Mx0_10z22 Mx0_11z22 Mx0_12z22 Mx0_13z22 My1 My2 Mx3_0z22 Mx4_0 My5z22)) H := hP
                                  have hD : va_D A ((wS54 cI cJ cZ cB p0 m0) ++ (wS57 cI cJ cZ cB m0 m1 m2 m3 m4 m5 Mx0_4 Mx0_5 Mx0_6z22 Mx0_7z22 Mx0_8 Mx0_9z22 Mx0_10z22 Mx0_11z22 Mx0_12z22 Mx0_13z22 My1 My2 Mx3_0z22 Mx4_0 My5z22)) := hD
                                  clear hPc hDc hFc
                                  refine lv_istore_n (lv' := [(3, .int rz22), (4, .int l4), (2, .int l2), (0, .ref p0), (1, .int a1)]) hx hb d_S_run_38 rfl hl (by decide) rfl (fun ls hl => ?_)
                                  refine lv_iload_n hx hb d_S_run_39 rfl (lv_at hl 0 rfl) ?_
                                  refine lv_iconst (v := 1) hx hb d_S_run_40 (by decide) ?_
                                  refine lv_icmp_gt (tgt := 47) hx hb d_S_run_41 (by decide) (fun c23 => ?_) (fun c23 => ?_)
                                  · obtain ⟨v24, hv24⟩ : ∃ y : Int32, y = (l4 + (1 : Int32)) := ⟨_, rfl⟩
                                    refine lv_iinc (v := v24) (lv' := [(4, .int v24), (3, .int rz22), (2, .int l2), (0, .ref p0), (1, .int a1)]) hx hb d_S_run_47 hl (k := 1) rfl (by rw [hv24]; rfl) (by decide) rfl (fun ls hl => ?_)
                                    refine lv_goto (tgt := 21) hx hb d_S_run_50 (by decide) ?_
                                    exact ih v24 rz22 l2 Mx0_4 Mx0_5 Mx0_6z22 Mx0_7z22 Mx0_8 Mx0_9z22 Mx0_10z22 Mx0_11z22 Mx0_12z22 Mx0_13z22 My1 My2 Mx3_0z22 Mx4_0 My5z22 H _ ls (lpu c18 hv24 hn21_x1) (lpn hc21_x1 c18 hv24) hP hD hS (lv_sub hl [0, 1, 2, 3, 4] rfl)
                                  · obtain ⟨v25, hv25⟩ : ∃ y : Int32, y = (l2 + (1 : Int32)) := ⟨_, rfl⟩
                                    refine lv_iinc (v := v25) (lv' := [(2, .int v25), (3, .int rz22), (4, .int l4), (0, .ref p0), (1, .int a1)]) hx hb d_S_run_44 hl (k := 2) rfl (by rw [hv25]; rfl) (by decide) rfl (fun ls hl => ?_)
                                    obtain ⟨v26, hv26⟩ : ∃ y : Int32, y = (l4 + (1 : Int32)) := ⟨_, rfl⟩
                                    refine lv_iinc (v := v26) (lv' := [(4, .int v26), (2, .int v25), (3, .int rz22), (0, .ref p0), (1, .int a1)]) hx hb d_S_run_47 hl (k := 2) rfl (by rw [hv26]; rfl) (by decide) rfl (fun ls hl => ?_)
                                    refine lv_goto (tgt := 21) hx hb d_S_run_50 (by decide) ?_
                                    exact ih v26 rz22 v25 Mx0_4 Mx0_5 Mx0_6z22 Mx0_7z22 Mx0_8 Mx0_9z22 Mx0_10z22 Mx0_11z22 Mx0_12z22 Mx0_13z22 My1 My2 Mx3_0z22 Mx4_0 My5z22 H _ ls (lpu c18 hv26 hn21_x1) (lpn hc21_x1 c18 hv26) hP hD hS (lv_sub hl [0, 2, 1, 3, 4] rfl)
                                · have hPc := hP.sub (ws' := (wS57 cI cJ cZ cB m0 m1 m2 m3 m4 m5 Mx0_4 Mx0_5 Mx0_6 Mx0_7 Mx0_8 Mx0_9 Mx0_10 Mx0_11 Mx0_12 Mx0_13 My1 My2 Mx3_0 Mx4_0 My5)) [1, 2, 3, 4, 5, 6] rfl
                                  have hDc := hD.sub (ws' := (wS57 cI cJ cZ cB m0 m1 m2 m3 m4 m5 Mx0_4 Mx0_5 Mx0_6 Mx0_7 Mx0_8 Mx0_9 Mx0_10 Mx0_11 Mx0_12 Mx0_13 My1 My2 Mx3_0 Mx4_0 My5)) [1, 2, 3, 4, 5, 6] (by decide) rfl
                                  have hFc := va_free (wc := (wS57 cI cJ cZ cB m0 m1 m2 m3 m4 m5 Mx0_4 Mx0_5 Mx0_6 Mx0_7 Mx0_8 Mx0_9 Mx0_10 Mx0_11 Mx0_12 Mx0_13 My1 My2 Mx3_0 Mx4_0 My5)) hD hS hA [1, 2, 3, 4, 5, 6] rfl
                                  refine va_calli (va_runV (C := "SignMachine$Machine") (As := []) (rest := []) ⟨hx, hb, hml, hown, hk⟩ (c_M_execute_s5 l K D cI cJ cZ cB m0 m1 m2 m3 m4 m5 H.size Mx0_4 Mx0_5 Mx0_6 Mx0_7 Mx0_8 Mx0_9 Mx0_10 Mx0_11 Mx0_12 Mx0_13 My1 My2 Mx3_0 Mx4_0 My5  q20 q21) (v_M_execute_s5 hk k_258 ⟨Nat.le_of_ble_eq_true rfl, Nat.le_of_ble_eq_true rfl⟩) (pMC_v hK hPc hDc hC hS hA (ci := 1) (q0 := 0) rfl rfl rfl) rfl rfl hl.1 rfl (lv_room (Nat.le_of_ble_eq_true rfl)) d_S_run_35 ⟨by decide, by decide⟩) hS (fun q _ h => hFc q h) hFc (fun rz27 u t H locs ht hvm hr0 hB hzq hkq hS => ?_)
                                  subst hr0
                                  rcases hB with ⟨hzz27, Mx0_6z27, Mx0_7z27, Mx0_9z27, Mx0_10z27, Mx0_11z27, Mx0_12z27, Mx0_13z27, Mx4_0z27, hP1, hD1⟩ | ⟨m6, Mx0_6z27, Mx0_7z27, Mx0_9z27, Mx0_10z27, Mx0_11z27, Mx0_12z27, Mx0_13z27, Mx4_0z27, My6z27, hP1, hD1⟩
                                  · rw [ht] at hP1
                                    obtain ⟨hP, hD⟩ := va_join (wr := (wS54 cI cJ cZ cB p0 m0)) (w1 := (wS57 cI cJ cZ cB m0 m1 m2 m3 m4 m5 Mx0_4 Mx0_5 Mx0_6z27 Mx0_7z27 Mx0_8 Mx0_9z27 Mx0_10z27 Mx0_11z27 Mx0_12z27 Mx0_13z27 My1 My2 Mx3_0 Mx4_0z27 My5)) hP hD [1, 2, 3, 4, 5, 6] [0] rfl rfl (by decide) (by decide) hkq hFc hP1 hD1
                                    have hP := hP.sub (ws' := ((wS54 cI cJ cZ cB p0 m0) ++ (wS57 cI cJ cZ cB m0 m1 m2 m3 m4 m5 Mx0_4 Mx0_5 Mx0_6z27 Mx0_7z27 Mx0_8 Mx0_9z27 Mx0_10z27 Mx0_11z27 Mx0_12z27 Mx0_13z27 My1 My2 Mx3_0 Mx4_0z27 My5))) [0, 1, 2, 3, 4, 5, 6] rfl
                                    have hD := hD.sub (ws' := ((wS54 cI cJ cZ cB p0 m0) ++ (wS57 cI cJ cZ cB m0 m1 m2 m3 m4 m5 Mx0_4 Mx0_5 Mx0_6z27 Mx0_7z27 Mx0_8 Mx0_9z27 Mx0_10z27 Mx0_11z27 Mx0_12z27 Mx0_13z27 My1 My2 Mx3_0 Mx4_0z27 My5))) [0, 1, 2, 3, 4, 5, 6] (by decide) rfl
                                    have hP : va_P D classes ((wS54 cI cJ cZ cB p0 m0) ++ (wS57 cI cJ cZ cB m0 m1 m2 m3 m4 m5 Mx0_4 Mx0_5 Mx0_6z27 Mx0_7z27 Mx0_8 Mx0_9z27 Mx0_10z27 Mx0_11z27 Mx0_12z27 Mx0_13z27 My1 My2 Mx3_0 Mx4_0z27 My5)) H := hP
                                    have hD : va_D A ((wS54 cI cJ cZ cB p0 m0) ++ (wS57 cI cJ cZ cB m0 m1 m2 m3 m4 m5 Mx0_4 Mx0_5 Mx0_6z27 Mx0_7z27 Mx0_8 Mx0_9z27 Mx0_10z27 Mx0_11z27 Mx0_12z27 Mx0_13z27 My1 My2 Mx3_0 Mx4_0z27 My5)) := hD
                                    clear hPc hDc hFc
                                    refine W.widen (k := 2) (n := 8000) (by decide) (by decide) ?_
                                    refine lv_istore_n (lv' := [(3, .int rz27), (4, .int l4), (2, .int l2), (0, .ref p0), (1, .int a1)]) hx hb d_S_run_38 rfl hl (by decide) rfl (fun ls hl => ?_)
                                    refine lv_iload_n hx hb d_S_run_39 rfl (lv_at hl 0 rfl) ?_
                                    refine lv_iconst (v := 1) hx hb d_S_run_40 (by decide) ?_
                                    refine lv_icmp_gt (tgt := 47) hx hb d_S_run_41 (by decide) (fun c28 => ?_) (fun c28 => ?_)
                                    · obtain ⟨v29, hv29⟩ : ∃ y : Int32, y = (l4 + (1 : Int32)) := ⟨_, rfl⟩
                                      refine lv_iinc (v := v29) (lv' := [(4, .int v29), (3, .int rz27), (2, .int l2), (0, .ref p0), (1, .int a1)]) hx hb d_S_run_47 hl (k := 1) rfl (by rw [hv29]; rfl) (by decide) rfl (fun ls hl => ?_)
                                      refine lv_goto (tgt := 21) hx hb d_S_run_50 (by decide) ?_
                                      refine lv_iload hx hb d_S_run_21 (lv_at hl 0 rfl) ?_
                                      refine lv_iload_n hx hb d_S_run_23 rfl (lv_at hl 4 rfl) ?_
                                      refine lv_icmp_ge (tgt := 53) hx hb d_S_run_24 (by decide) (fun c30 => ?_) (fun c30 => ?_)
                                      · refine lv_aload_n hx hb d_S_run_53 rfl (lv_at hl 3 rfl) ?_
                                        refine va_get (D := D) (ci := 0) (v := .ref m0) (C := "SignMachine") (T := F_S) (N := 2) hx hb hk fi_S hown hK.1 hP 0 rfl rfl 0 (by decide) (hk _ k_210) (fun _ h9 => h9) rfl d_S_run_54 ?_
                                        refine lv_iload_n hx hb d_S_run_57 rfl (lv_at hl 1 rfl) ?_
                                        refine va_putN (D := D) (ci := 1) (v := .int rz27) (ty := .int) (C := "SignMachine$Machine") (T := F_M) (N := 14) hx hb hk fi_M ft_M ft_M_ok fn_M hown hK.1 hP hD hS 1 rfl rfl 8 (by decide) (va_Nw.use rfl (hK.2 _ n_175)) (fun _ h9 => h9) rfl (by decide +kernel) rfl rfl (Nat.le_of_ble_eq_true rfl) d_S_run_58 (fun H locs hP hD hS => ?_)
                                        have hP : va_P D classes ((wS54 cI cJ cZ cB p0 m0) ++ (wS57 cI cJ cZ cB m0 m1 m2 m3 m4 m5 Mx0_4 Mx0_5 Mx0_6z27 Mx0_7z27 rz27 Mx0_9z27 Mx0_10z27 Mx0_11z27 Mx0_12z27 Mx0_13z27 My1 My2 Mx3_0 Mx4_0z27 My5)) H := hP
                                        have hD : va_D A ((wS54 cI cJ cZ cB p0 m0) ++ (wS57 cI cJ cZ cB m0 m1 m2 m3 m4 m5 Mx0_4 Mx0_5 Mx0_6z27 Mx0_7z27 rz27 Mx0_9z27 Mx0_10z27 Mx0_11z27 Mx0_12z27 Mx0_13z27 My1 My2 Mx3_0 Mx4_0z27 My5)) := hD
                                        refine lv_iload_n hx hb d_S_run_61 rfl (lv_at hl 2 rfl) ?_
                                        exact W.iret (v := l2) hx hb hr (fun t ht hW => ⟨⟨l2, (0 : Int32), rfl, rfl, ⟨_, isC_1, (by show va_P D classes _ t.heap; rw [ht]; exact hP), hD⟩⟩, hS.F ht⟩) hS.2.2 d_S_run_62
                                      · refine lv_iload_n hx hb d_S_run_27 rfl (lv_at hl 1 rfl) ?_
                                        refine lv_if_ne (tgt := 53) hx hb d_S_run_28 (by decide) (fun c31 => ?_) (fun c31 => absurd c31 (show ¬ rz27 = (0 : Int32) from hzz27))
                                        refine lv_aload_n hx hb d_S_run_53 rfl (lv_at hl 3 rfl) ?_
                                        refine va_get (D := D) (ci := 0) (v := .ref m0) (C := "SignMachine") (T := F_S) (N := 2) hx hb hk fi_S hown hK.1 hP 0 rfl rfl 0 (by decide) (hk _ k_210) (fun _ h9 => h9) rfl d_S_run_54 ?_
                                        refine lv_iload_n hx hb d_S_run_57 rfl (lv_at hl 1 rfl) ?_
                                        refine va_putN (D := D) (ci := 1) (v := .int rz27) (ty := .int) (C := "SignMachine$Machine") (T := F_M) (N := 14) hx hb hk fi_M ft_M ft_M_ok fn_M hown hK.1 hP hD hS 1 rfl rfl 8 (by decide) (va_Nw.use rfl (hK.2 _ n_175)) (fun _ h9 => h9) rfl (by decide +kernel) rfl rfl (Nat.le_of_ble_eq_true rfl) d_S_run_58 (fun H locs hP hD hS => ?_)
                                        have hP : va_P D classes ((wS54 cI cJ cZ cB p0 m0) ++ (wS57 cI cJ cZ cB m0 m1 m2 m3 m4 m5 Mx0_4 Mx0_5 Mx0_6z27 Mx0_7z27 rz27 Mx0_9z27 Mx0_10z27 Mx0_11z27 Mx0_12z27 Mx0_13z27 My1 My2 Mx3_0 Mx4_0z27 My5)) H := hP
                                        have hD : va_D A ((wS54 cI cJ cZ cB p0 m0) ++ (wS57 cI cJ cZ cB m0 m1 m2 m3 m4 m5 Mx0_4 Mx0_5 Mx0_6z27 Mx0_7z27 rz27 Mx0_9z27 Mx0_10z27 Mx0_11z27 Mx0_12z27 Mx0_13z27 My1 My2 Mx3_0 Mx4_0z27 My5)) := hD
                                        refine lv_iload_n hx hb d_S_run_61 rfl (lv_at hl 2 rfl) ?_
                                        exact W.iret (v := l2) hx hb hr (fun t ht hW => ⟨⟨l2, (0 : Int32), rfl, rfl, ⟨_, isC_1, (by show va_P D classes _ t.heap; rw [ht]; exact hP), hD⟩⟩, hS.F ht⟩) hS.2.2 d_S_run_62
                                    · obtain ⟨v32, hv32⟩ : ∃ y : Int32, y = (l2 + (1 : Int32)) := ⟨_, rfl⟩
                                      refine lv_iinc (v := v32) (lv' := [(2, .int v32), (3, .int rz27), (4, .int l4), (0, .ref p0), (1, .int a1)]) hx hb d_S_run_44 hl (k := 2) rfl (by rw [hv32]; rfl) (by decide) rfl (fun ls hl => ?_)
                                      obtain ⟨v33, hv33⟩ : ∃ y : Int32, y = (l4 + (1 : Int32)) := ⟨_, rfl⟩
                                      refine lv_iinc (v := v33) (lv' := [(4, .int v33), (2, .int v32), (3, .int rz27), (0, .ref p0), (1, .int a1)]) hx hb d_S_run_47 hl (k := 2) rfl (by rw [hv33]; rfl) (by decide) rfl (fun ls hl => ?_)
                                      refine lv_goto (tgt := 21) hx hb d_S_run_50 (by decide) ?_
                                      refine lv_iload hx hb d_S_run_21 (lv_at hl 0 rfl) ?_
                                      refine lv_iload_n hx hb d_S_run_23 rfl (lv_at hl 4 rfl) ?_
                                      refine lv_icmp_ge (tgt := 53) hx hb d_S_run_24 (by decide) (fun c34 => ?_) (fun c34 => ?_)
                                      · refine lv_aload_n hx hb d_S_run_53 rfl (lv_at hl 3 rfl) ?_
                                        refine va_get (D := D) (ci := 0) (v := .ref m0) (C := "SignMachine") (T := F_S) (N := 2) hx hb hk fi_S hown hK.1 hP 0 rfl rfl 0 (by decide) (hk _ k_210) (fun _ h9 => h9) rfl d_S_run_54 ?_
                                        refine lv_iload_n hx hb d_S_run_57 rfl (lv_at hl 2 rfl) ?_
                                        refine va_putN (D := D) (ci := 1) (v := .int rz27) (ty := .int) (C := "SignMachine$Machine") (T := F_M) (N := 14) hx hb hk fi_M ft_M ft_M_ok fn_M hown hK.1 hP hD hS 1 rfl rfl 8 (by decide) (va_Nw.use rfl (hK.2 _ n_175)) (fun _ h9 => h9) rfl (by decide +kernel) rfl rfl (Nat.le_of_ble_eq_true rfl) d_S_run_58 (fun H locs hP hD hS => ?_)
                                        have hP : va_P D classes ((wS54 cI cJ cZ cB p0 m0) ++ (wS57 cI cJ cZ cB m0 m1 m2 m3 m4 m5 Mx0_4 Mx0_5 Mx0_6z27 Mx0_7z27 rz27 Mx0_9z27 Mx0_10z27 Mx0_11z27 Mx0_12z27 Mx0_13z27 My1 My2 Mx3_0 Mx4_0z27 My5)) H := hP
                                        have hD : va_D A ((wS54 cI cJ cZ cB p0 m0) ++ (wS57 cI cJ cZ cB m0 m1 m2 m3 m4 m5 Mx0_4 Mx0_5 Mx0_6z27 Mx0_7z27 rz27 Mx0_9z27 Mx0_10z27 Mx0_11z27 Mx0_12z27 Mx0_13z27 My1 My2 Mx3_0 Mx4_0z27 My5)) := hD
                                        refine lv_iload_n hx hb d_S_run_61 rfl (lv_at hl 1 rfl) ?_
                                        exact W.iret (v := v32) hx hb hr (fun t ht hW => ⟨⟨v32, (0 : Int32), rfl, rfl, ⟨_, isC_1, (by show va_P D classes _ t.heap; rw [ht]; exact hP), hD⟩⟩, hS.F ht⟩) hS.2.2 d_S_run_62
                                      · refine lv_iload_n hx hb d_S_run_27 rfl (lv_at hl 2 rfl) ?_
                                        refine lv_if_ne (tgt := 53) hx hb d_S_run_28 (by decide) (fun c35 => ?_) (fun c35 => absurd c35 (show ¬ rz27 = (0 : Int32) from hzz27))
                                        refine lv_aload_n hx hb d_S_run_53 rfl (lv_at hl 3 rfl) ?_
                                        refine va_get (D := D) (ci := 0) (v := .ref m0) (C := "SignMachine") (T := F_S) (N := 2) hx hb hk fi_S hown hK.1 hP 0 rfl rfl 0 (by decide) (hk _ k_210) (fun _ h9 => h9) rfl d_S_run_54 ?_
                                        refine lv_iload_n hx hb d_S_run_57 rfl (lv_at hl 2 rfl) ?_
                                        refine va_putN (D := D) (ci := 1) (v := .int rz27) (ty := .int) (C := "SignMachine$Machine") (T := F_M) (N := 14) hx hb hk fi_M ft_M ft_M_ok fn_M hown hK.1 hP hD hS 1 rfl rfl 8 (by decide) (va_Nw.use rfl (hK.2 _ n_175)) (fun _ h9 => h9) rfl (by decide +kernel) rfl rfl (Nat.le_of_ble_eq_true rfl) d_S_run_58 (fun H locs hP hD hS => ?_)
                                        have hP : va_P D classes ((wS54 cI cJ cZ cB p0 m0) ++ (wS57 cI cJ cZ cB m0 m1 m2 m3 m4 m5 Mx0_4 Mx0_5 Mx0_6z27 Mx0_7z27 rz27 Mx0_9z27 Mx0_10z27 Mx0_11z27 Mx0_12z27 Mx0_13z27 My1 My2 Mx3_0 Mx4_0z27 My5)) H := hP
                                        have hD : va_D A ((wS54 cI cJ cZ cB p0 m0) ++ (wS57 cI cJ cZ cB m0 m1 m2 m3 m4 m5 Mx0_4 Mx0_5 Mx0_6z27 Mx0_7z27 rz27 Mx0_9z27 Mx0_10z27 Mx0_11z27 Mx0_12z27 Mx0_13z27 My1 My2 Mx3_0 Mx4_0z27 My5)) := hD
                                        refine lv_iload_n hx hb d_S_run_61 rfl (lv_at hl 1 rfl) ?_
                                        exact W.iret (v := v32) hx hb hr (fun t ht hW => ⟨⟨v32, (0 : Int32), rfl, rfl, ⟨_, isC_1, (by show va_P D classes _ t.heap; rw [ht]; exact hP), hD⟩⟩, hS.F ht⟩) hS.2.2 d_S_run_62
                                  · rw [ht] at hP1
                                    obtain ⟨hP, hD⟩ := va_join (wr := (wS54 cI cJ cZ cB p0 m0)) (w1 := (wS60 cI cJ cZ cB m0 m1 m2 m3 m4 m5 m6 Mx0_4 Mx0_5 Mx0_6z27 Mx0_7z27 Mx0_8 Mx0_9z27 Mx0_10z27 Mx0_11z27 Mx0_12z27 Mx0_13z27 My1 My2 Mx3_0 Mx4_0z27 My5 My6z27)) hP hD [1, 2, 3, 4, 5, 6] [0] rfl rfl (by decide) (by decide) hkq hFc hP1 hD1
                                    have hP := hP.sub (ws' := ((wS54 cI cJ cZ cB p0 m0) ++ (wS60 cI cJ cZ cB m0 m1 m2 m3 m4 m5 m6 Mx0_4 Mx0_5 Mx0_6z27 Mx0_7z27 Mx0_8 Mx0_9z27 Mx0_10z27 Mx0_11z27 Mx0_12z27 Mx0_13z27 My1 My2 Mx3_0 Mx4_0z27 My5 My6z27))) [0, 1, 2, 3, 4, 5, 6, 7] rfl
                                    have hD := hD.sub (ws' := ((wS54 cI cJ cZ cB p0 m0) ++ (wS60 cI cJ cZ cB m0 m1 m2 m3 m4 m5 m6 Mx0_4 Mx0_5 Mx0_6z27 Mx0_7z27 Mx0_8 Mx0_9z27 Mx0_10z27 Mx0_11z27 Mx0_12z27 Mx0_13z27 My1 My2 Mx3_0 Mx4_0z27 My5 My6z27))) [0, 1, 2, 3, 4, 5, 6, 7] (by decide) rfl
                                    have hP : va_P D classes ((wS54 cI cJ cZ cB p0 m0) ++ (wS60 cI cJ cZ cB m0 m1 m2 m3 m4 m5 m6 Mx0_4 Mx0_5 Mx0_6z27 Mx0_7z27 Mx0_8 Mx0_9z27 Mx0_10z27 Mx0_11z27 Mx0_12z27 Mx0_13z27 My1 My2 Mx3_0 Mx4_0z27 My5 My6z27)) H := hP
                                    have hD : va_D A ((wS54 cI cJ cZ cB p0 m0) ++ (wS60 cI cJ cZ cB m0 m1 m2 m3 m4 m5 m6 Mx0_4 Mx0_5 Mx0_6z27 Mx0_7z27 Mx0_8 Mx0_9z27 Mx0_10z27 Mx0_11z27 Mx0_12z27 Mx0_13z27 My1 My2 Mx3_0 Mx4_0z27 My5 My6z27)) := hD
                                    clear hPc hDc hFc
                                    refine W.widen (k := 2) (n := 8000) (by decide) (by decide) ?_
                                    refine lv_istore_n (lv' := [(3, .int rz27), (4, .int l4), (2, .int l2), (0, .ref p0), (1, .int a1)]) hx hb d_S_run_38 rfl hl (by decide) rfl (fun ls hl => ?_)
                                    refine lv_iload_n hx hb d_S_run_39 rfl (lv_at hl 0 rfl) ?_
                                    refine lv_iconst (v := 1) hx hb d_S_run_40 (by decide) ?_
                                    refine lv_icmp_gt (tgt := 47) hx hb d_S_run_41 (by decide) (fun c36 => ?_) (fun c36 => ?_)
                                    · obtain ⟨v37, hv37⟩ : ∃ y : Int32, y = (l4 + (1 : Int32)) := ⟨_, rfl⟩
                                      refine lv_iinc (v := v37) (lv' := [(4, .int v37), (3, .int rz27), (2, .int l2), (0, .ref p0), (1, .int a1)]) hx hb d_S_run_47 hl (k := 1) rfl (by rw [hv37]; rfl) (by decide) rfl (fun ls hl => ?_)
                                      refine lv_goto (tgt := 21) hx hb d_S_run_50 (by decide) ?_
                                      have LP21_x3 : ∀ (n : Nat) (l4 : Int32) (l3 : Int32) (l2 : Int32) (Mx0_4 : Bool) (Mx0_5 : Int32) (Mx0_6 : Int32) (Mx0_7 : Int32) (Mx0_8 : Int32) (Mx0_9 : Int32) (Mx0_10 : Int32) (Mx0_11 : Int32) (Mx0_12 : Int32) (Mx0_13 : Int32) (My1 : Nat → Int32) (My2 : Nat → Int32) (Mx3_0 : Int32) (Mx4_0 : Int32) (My5 : Nat → Int32) (My6 : Nat → Int32) (H : Heap) (locs : List Loc) (ls : Array Slot), ((a1).toInt - (l4).toInt).toNat < n → ¬ l4 < (0 : Int32) → va_P D classes ((wS54 cI cJ cZ cB p0 m0) ++ (wS60 cI cJ cZ cB m0 m1 m2 m3 m4 m5 m6 Mx0_4 Mx0_5 Mx0_6 Mx0_7 Mx0_8 Mx0_9 Mx0_10 Mx0_11 Mx0_12 Mx0_13 My1 My2 Mx3_0 Mx4_0 My5 My6)) H → va_D A ((wS54 cI cJ cZ cB p0 m0) ++ (wS60 cI cJ cZ cB m0 m1 m2 m3 m4 m5 m6 Mx0_4 Mx0_5 Mx0_6 Mx0_7 Mx0_8 Mx0_9 Mx0_10 Mx0_11 Mx0_12 Mx0_13 My1 My2 Mx3_0 Mx4_0 My5 My6)) → va_S A s.heap H locs → lv_has ls 5 [(4, .int l4), (3, .int l3), (2, .int l2), (0, .ref p0), (1, .int a1)] → W p l e ({ frames := 7, cells := 2, slots := 8000, locals := 151 }) s m [.ref p0, .int a1].toArray below meth c H locs 2 8000 (MQ below (va_Qi (fun r (uL : Int32) => uL = (0 : Int32)) (fun uL t => ∃ W9 : va_W, isC K cI cJ cZ cB p0 uL W9 ∧ va_P D classes W9 t.heap ∧ va_D A W9) A) [.ref p0, .int a1].toArray s 2 8000 A) (F0 m 21 ls []) := by
                                        intro n
                                        induction n with
                                        | zero => intro l4 l3 l2 Mx0_4 Mx0_5 Mx0_6 Mx0_7 Mx0_8 Mx0_9 Mx0_10 Mx0_11 Mx0_12 Mx0_13 My1 My2 Mx3_0 Mx4_0 My5 My6 H locs ls hn; exact absurd hn (Nat.not_lt_zero _)
                                        | succ n ih =>
                                          intro l4 l3 l2 Mx0_4 Mx0_5 Mx0_6 Mx0_7 Mx0_8 Mx0_9 Mx0_10 Mx0_11 Mx0_12 Mx0_13 My1 My2 Mx3_0 Mx4_0 My5 My6 H locs ls hn21_x3 hc21_x3 hP hD hS hl
                                          refine lv_iload hx hb d_S_run_21 (lv_at hl 0 rfl) ?_
                                          refine lv_iload_n hx hb d_S_run_23 rfl (lv_at hl 4 rfl) ?_
                                          refine lv_icmp_ge (tgt := 53) hx hb d_S_run_24 (by decide) (fun c38 => ?_) (fun c38 => ?_)
                                          · refine lv_aload_n hx hb d_S_run_53 rfl (lv_at hl 3 rfl) ?_
                                            refine va_get (D := D) (ci := 0) (v := .ref m0) (C := "SignMachine") (T := F_S) (N := 2) hx hb hk fi_S hown hK.1 hP 0 rfl rfl 0 (by decide) (hk _ k_210) (fun _ h9 => h9) rfl d_S_run_54 ?_
                                            refine lv_iload_n hx hb d_S_run_57 rfl (lv_at hl 1 rfl) ?_
                                            refine va_putN (D := D) (ci := 1) (v := .int l3) (ty := .int) (C := "SignMachine$Machine") (T := F_M) (N := 14) hx hb hk fi_M ft_M ft_M_ok fn_M hown hK.1 hP hD hS 1 rfl rfl 8 (by decide) (va_Nw.use rfl (hK.2 _ n_175)) (fun _ h9 => h9) rfl (by decide +kernel) rfl rfl (Nat.le_of_ble_eq_true rfl) d_S_run_58 (fun H locs hP hD hS => ?_)
                                            have hP : va_P D classes ((wS54 cI cJ cZ cB p0 m0) ++ (wS60 cI cJ cZ cB m0 m1 m2 m3 m4 m5 m6 Mx0_4 Mx0_5 Mx0_6 Mx0_7 l3 Mx0_9 Mx0_10 Mx0_11 Mx0_12 Mx0_13 My1 My2 Mx3_0 Mx4_0 My5 My6)) H := hP
                                            have hD : va_D A ((wS54 cI cJ cZ cB p0 m0) ++ (wS60 cI cJ cZ cB m0 m1 m2 m3 m4 m5 m6 Mx0_4 Mx0_5 Mx0_6 Mx0_7 l3 Mx0_9 Mx0_10 Mx0_11 Mx0_12 Mx0_13 My1 My2 Mx3_0 Mx4_0 My5 My6)) := hD
                                            refine lv_iload_n hx hb d_S_run_61 rfl (lv_at hl 2 rfl) ?_
                                            exact W.iret (v := l2) hx hb hr (fun t ht hW => ⟨⟨l2, (0 : Int32), rfl, rfl, ⟨_, isC_3, (by show va_P D classes _ t.heap; rw [ht]; exact hP), hD⟩⟩, hS.F ht⟩) hS.2.2 d_S_run_62
                                          · refine lv_iload_n hx hb d_S_run_27 rfl (lv_at hl 1 rfl) ?_
                                            refine lv_if_ne (tgt := 53) hx hb d_S_run_28 (by decide) (fun c39 => ?_) (fun c39 => ?_)
                                            · refine lv_aload_n hx hb d_S_run_53 rfl (lv_at hl 3 rfl) ?_
                                              refine va_get (D := D) (ci := 0) (v := .ref m0) (C := "SignMachine") (T := F_S) (N := 2) hx hb hk fi_S hown hK.1 hP 0 rfl rfl 0 (by decide) (hk _ k_210) (fun _ h9 => h9) rfl d_S_run_54 ?_
                                              refine lv_iload_n hx hb d_S_run_57 rfl (lv_at hl 1 rfl) ?_
                                              refine va_putN (D := D) (ci := 1) (v := .int l3) (ty := .int) (C := "SignMachine$Machine") (T := F_M) (N := 14) hx hb hk fi_M ft_M ft_M_ok fn_M hown hK.1 hP hD hS 1 rfl rfl 8 (by decide) (va_Nw.use rfl (hK.2 _ n_175)) (fun _ h9 => h9) rfl (by decide +kernel) rfl rfl (Nat.le_of_ble_eq_true rfl) d_S_run_58 (fun H locs hP hD hS => ?_)
                                              have hP : va_P D classes ((wS54 cI cJ cZ cB p0 m0) ++ (wS60 cI cJ cZ cB m0 m1 m2 m3 m4 m5 m6 Mx0_4 Mx0_5 Mx0_6 Mx0_7 l3 Mx0_9 Mx0_10 Mx0_11 Mx0_12 Mx0_13 My1 My2 Mx3_0 Mx4_0 My5 My6)) H := hP
                                              have hD : va_D A ((wS54 cI cJ cZ cB p0 m0) ++ (wS60 cI cJ cZ cB m0 m1 m2 m3 m4 m5 m6 Mx0_4 Mx0_5 Mx0_6 Mx0_7 l3 Mx0_9 Mx0_10 Mx0_11 Mx0_12 Mx0_13 My1 My2 Mx3_0 Mx4_0 My5 My6)) := hD
                                              refine lv_iload_n hx hb d_S_run_61 rfl (lv_at hl 2 rfl) ?_
                                              exact W.iret (v := l2) hx hb hr (fun t ht hW => ⟨⟨l2, (0 : Int32), rfl, rfl, ⟨_, isC_3, (by show va_P D classes _ t.heap; rw [ht]; exact hP), hD⟩⟩, hS.F ht⟩) hS.2.2 d_S_run_62
                                            · refine lv_aload_n hx hb d_S_run_31 rfl (lv_at hl 3 rfl) ?_
                                              refine va_get (D := D) (ci := 0) (v := .ref m0) (C := "SignMachine") (T := F_S) (N := 2) hx hb hk fi_S hown hK.1 hP 0 rfl rfl 0 (by decide) (hk _ k_210) (fun _ h9 => h9) rfl d_S_run_32 ?_
                                              have hPc := hP.sub (ws' := (wS60 cI cJ cZ cB m0 m1 m2 m3 m4 m5 m6 Mx0_4 Mx0_5 Mx0_6 Mx0_7 Mx0_8 Mx0_9 Mx0_10 Mx0_11 Mx0_12 Mx0_13 My1 My2 Mx3_0 Mx4_0 My5 My6)) [1, 2, 3, 4, 5, 6, 7] rfl
                                              have hDc := hD.sub (ws' := (wS60 cI cJ cZ cB m0 m1 m2 m3 m4 m5 m6 Mx0_4 Mx0_5 Mx0_6 Mx0_7 Mx0_8 Mx0_9 Mx0_10 Mx0_11 Mx0_12 Mx0_13 My1 My2 Mx3_0 Mx4_0 My5 My6)) [1, 2, 3, 4, 5, 6, 7] (by decide) rfl
                                              have hFc := va_free (wc := (wS60 cI cJ cZ cB m0 m1 m2 m3 m4 m5 m6 Mx0_4 Mx0_5 Mx0_6 Mx0_7 Mx0_8 Mx0_9 Mx0_10 Mx0_11 Mx0_12 Mx0_13 My1 My2 Mx3_0 Mx4_0 My5 My6)) hD hS hA [1, 2, 3, 4, 5, 6, 7] rfl
                                              refine va_calli (va_runV (C := "SignMachine$Machine") (As := []) (rest := []) ⟨hx, hb, hml, hown, hk⟩ (c_M_execute_s6 l K D cI cJ cZ cB m0 m1 m2 m3 m4 m5 m6 H.size Mx0_4 Mx0_5 Mx0_6 Mx0_7 Mx0_8 Mx0_9 Mx0_10 Mx0_11 Mx0_12 Mx0_13 My1 My2 Mx3_0 Mx4_0 My5 My6  ) (v_M_execute_s6 hk k_258 ⟨Nat.le_of_ble_eq_true rfl, Nat.le_of_ble_eq_true rfl⟩) (pMC_v hK hPc hDc hC hS hA (ci := 1) (q0 := 0) rfl rfl rfl) rfl rfl hl.1 rfl (lv_room (Nat.le_of_ble_eq_true rfl)) d_S_run_35 ⟨by decide, by decide⟩) hS (fun q _ h => hFc q h) hFc (fun rz40 u t H locs ht hvm hr0 hB hzq hkq hS => ?_)
                                              obtain ⟨Mx0_4z40, Mx0_5z40, Mx0_6z40, Mx0_7z40, Mx0_9z40, Mx0_10z40, Mx0_11z40, Mx0_12z40, Mx0_13z40, My1z40, My2z40, Mx3_0z40, Mx4_0z40, My5z40, My6z40, hP1, hD1⟩ := hB
                                              rw [ht] at hP1
                                              obtain ⟨hP, hD⟩ := va_join (wr := (wS54 cI cJ cZ cB p0 m0)) (w1 := (wS60 cI cJ cZ cB m0 m1 m2 m3 m4 m5 m6 Mx0_4z40 Mx0_5z40 Mx0_6z40 Mx0_7z40 Mx0_8 Mx0_9z40 Mx0_10z40 Mx0_11z40 Mx0_12z40 Mx0_13z40 My1z40 My2z40 Mx3_0z40 Mx4_0z40 My5z40 My6z40)) hP hD [1, 2, 3, 4, 5, 6, 7] [0] rfl rfl (by decide) (by decide) hkq hFc hP1 hD1
                                              have hP := hP.sub (ws' := ((wS54 cI cJ cZ cB p0 m0) ++ (wS60 cI cJ cZ cB m0 m1 m2 m3 m4 m5 m6 Mx0_4z40 Mx0_5z40 Mx0_6z40 Mx0_7z40 Mx0_8 Mx0_9z40 Mx0_10z40 Mx0_11z40 Mx0_12z40 Mx0_13z40 My1z40 My2z40 Mx3_0z40 Mx4_0z40 My5z40 My6z40))) [0, 1, 2, 3, 4, 5, 6, 7] rfl
                                              have hD := hD.sub (ws' := ((wS54 cI cJ cZ cB p0 m0) ++ (wS60 cI cJ cZ cB m0 m1 m2 m3 m4 m5 m6 Mx0_4z40 Mx0_5z40 Mx0_6z40 Mx0_7z40 Mx0_8 Mx0_9z40 Mx0_10z40 Mx0_11z40 Mx0_12z40 Mx0_13z40 My1z40 My2z40 Mx3_0z40 Mx4_0z40 My5z40 My6z40))) [0, 1, 2, 3, 4, 5, 6, 7] (by decide) rfl
                                              have hP : va_P D classes ((wS54 cI cJ cZ cB p0 m0) ++ (wS60 cI cJ cZ cB m0 m1 m2 m3 m4 m5 m6 Mx0_4z40 Mx0_5z40 Mx0_6z40 Mx0_7z40 Mx0_8 Mx0_9z40 Mx0_10z40 Mx0_11z40 Mx0_12z40 Mx0_13z40 My1z40 My2z40 Mx3_0z40 Mx4_0z40 My5z40 My6z40)) H := hP
                                              have hD : va_D A ((wS54 cI cJ cZ cB p0 m0) ++ (wS60 cI cJ cZ cB m0 m1 m2 m3 m4 m5 m6 Mx0_4z40 Mx0_5z40 Mx0_6z40 Mx0_7z40 Mx0_8 Mx0_9z40 Mx0_10z40 Mx0_11z40 Mx0_12z40 Mx0_13z40 My1z40 My2z40 Mx3_0z40 Mx4_0z40 My5z40 My6z40)) := hD
                                              clear hPc hDc hFc
                                              refine lv_istore_n (lv' := [(3, .int rz40), (4, .int l4), (2, .int l2), (0, .ref p0), (1, .int a1)]) hx hb d_S_run_38 rfl hl (by decide) rfl (fun ls hl => ?_)
                                              refine lv_iload_n hx hb d_S_run_39 rfl (lv_at hl 0 rfl) ?_
                                              refine lv_iconst (v := 1) hx hb d_S_run_40 (by decide) ?_
                                              refine lv_icmp_gt (tgt := 47) hx hb d_S_run_41 (by decide) (fun c41 => ?_) (fun c41 => ?_)
                                              · obtain ⟨v42, hv42⟩ : ∃ y : Int32, y = (l4 + (1 : Int32)) := ⟨_, rfl⟩
                                                refine lv_iinc (v := v42) (lv' := [(4, .int v42), (3, .int rz40), (2, .int l2), (0, .ref p0), (1, .int a1)]) hx hb d_S_run_47 hl (k := 1) rfl (by rw [hv42]; rfl) (by decide) rfl (fun ls hl => ?_)
                                                refine lv_goto (tgt := 21) hx hb d_S_run_50 (by decide) ?_
                                                exact ih v42 rz40 l2 Mx0_4z40 Mx0_5z40 Mx0_6z40 Mx0_7z40 Mx0_8 Mx0_9z40 Mx0_10z40 Mx0_11z40 Mx0_12z40 Mx0_13z40 My1z40 My2z40 Mx3_0z40 Mx4_0z40 My5z40 My6z40 H _ ls (lpu c38 hv42 hn21_x3) (lpn hc21_x3 c38 hv42) hP hD hS (lv_sub hl [0, 1, 2, 3, 4] rfl)
                                              · obtain ⟨v43, hv43⟩ : ∃ y : Int32, y = (l2 + (1 : Int32)) := ⟨_, rfl⟩
                                                refine lv_iinc (v := v43) (lv' := [(2, .int v43), (3, .int rz40), (4, .int l4), (0, .ref p0), (1, .int a1)]) hx hb d_S_run_44 hl (k := 2) rfl (by rw [hv43]; rfl) (by decide) rfl (fun ls hl => ?_)
                                                obtain ⟨v44, hv44⟩ : ∃ y : Int32, y = (l4 + (1 : Int32)) := ⟨_, rfl⟩
                                                refine lv_iinc (v := v44) (lv' := [(4, .int v44), (2, .int v43), (3, .int rz40), (0, .ref p0), (1, .int a1)]) hx hb d_S_run_47 hl (k := 2) rfl (by rw [hv44]; rfl) (by decide) rfl (fun ls hl => ?_)
                                                refine lv_goto (tgt := 21) hx hb d_S_run_50 (by decide) ?_
                                                exact ih v44 rz40 v43 Mx0_4z40 Mx0_5z40 Mx0_6z40 Mx0_7z40 Mx0_8 Mx0_9z40 Mx0_10z40 Mx0_11z40 Mx0_12z40 Mx0_13z40 My1z40 My2z40 Mx3_0z40 Mx4_0z40 My5z40 My6z40 H _ ls (lpu c38 hv44 hn21_x3) (lpn hc21_x3 c38 hv44) hP hD hS (lv_sub hl [0, 2, 1, 3, 4] rfl)
                                      exact LP21_x3 _ v37 rz27 l2 Mx0_4 Mx0_5 Mx0_6z27 Mx0_7z27 Mx0_8 Mx0_9z27 Mx0_10z27 Mx0_11z27 Mx0_12z27 Mx0_13z27 My1 My2 Mx3_0 Mx4_0z27 My5 My6z27 H _ ls (Nat.lt_succ_self _) (lpn hc21_x1 c18 hv37) hP hD hS hl
                                    · obtain ⟨v45, hv45⟩ : ∃ y : Int32, y = (l2 + (1 : Int32)) := ⟨_, rfl⟩
                                      refine lv_iinc (v := v45) (lv' := [(2, .int v45), (3, .int rz27), (4, .int l4), (0, .ref p0), (1, .int a1)]) hx hb d_S_run_44 hl (k := 2) rfl (by rw [hv45]; rfl) (by decide) rfl (fun ls hl => ?_)
                                      obtain ⟨v46, hv46⟩ : ∃ y : Int32, y = (l4 + (1 : Int32)) := ⟨_, rfl⟩
                                      refine lv_iinc (v := v46) (lv' := [(4, .int v46), (2, .int v45), (3, .int rz27), (0, .ref p0), (1, .int a1)]) hx hb d_S_run_47 hl (k := 2) rfl (by rw [hv46]; rfl) (by decide) rfl (fun ls hl => ?_)
                                      refine lv_goto (tgt := 21) hx hb d_S_run_50 (by decide) ?_
                                      have LP21_x3 : ∀ (n : Nat) (l4 : Int32) (l2 : Int32) (l3 : Int32) (Mx0_4 : Bool) (Mx0_5 : Int32) (Mx0_6 : Int32) (Mx0_7 : Int32) (Mx0_8 : Int32) (Mx0_9 : Int32) (Mx0_10 : Int32) (Mx0_11 : Int32) (Mx0_12 : Int32) (Mx0_13 : Int32) (My1 : Nat → Int32) (My2 : Nat → Int32) (Mx3_0 : Int32) (Mx4_0 : Int32) (My5 : Nat → Int32) (My6 : Nat → Int32) (H : Heap) (locs : List Loc) (ls : Array Slot), ((a1).toInt - (l4).toInt).toNat < n → ¬ l4 < (0 : Int32) → va_P D classes ((wS54 cI cJ cZ cB p0 m0) ++ (wS60 cI cJ cZ cB m0 m1 m2 m3 m4 m5 m6 Mx0_4 Mx0_5 Mx0_6 Mx0_7 Mx0_8 Mx0_9 Mx0_10 Mx0_11 Mx0_12 Mx0_13 My1 My2 Mx3_0 Mx4_0 My5 My6)) H → va_D A ((wS54 cI cJ cZ cB p0 m0) ++ (wS60 cI cJ cZ cB m0 m1 m2 m3 m4 m5 m6 Mx0_4 Mx0_5 Mx0_6 Mx0_7 Mx0_8 Mx0_9 Mx0_10 Mx0_11 Mx0_12 Mx0_13 My1 My2 Mx3_0 Mx4_0 My5 My6)) → va_S A s.heap H locs → lv_has ls 5 [(4, .int l4), (2, .int l2), (3, .int l3), (0, .ref p0), (1, .int a1)] → W p l e ({ frames := 7, cells := 2, slots := 8000, locals := 151 }) s m [.ref p0, .int a1].toArray below meth c H locs 2 8000 (MQ below (va_Qi (fun r (uL : Int32) => uL = (0 : Int32)) (fun uL t => ∃ W9 : va_W, isC K cI cJ cZ cB p0 uL W9 ∧ va_P D classes W9 t.heap ∧ va_D A W9) A) [.ref p0, .int a1].toArray s 2 8000 A) (F0 m 21 ls []) := by
                                        intro n
                                        induction n with
                                        | zero => intro l4 l2 l3 Mx0_4 Mx0_5 Mx0_6 Mx0_7 Mx0_8 Mx0_9 Mx0_10 Mx0_11 Mx0_12 Mx0_13 My1 My2 Mx3_0 Mx4_0 My5 My6 H locs ls hn; exact absurd hn (Nat.not_lt_zero _)
                                        | succ n ih =>
                                          intro l4 l2 l3 Mx0_4 Mx0_5 Mx0_6 Mx0_7 Mx0_8 Mx0_9 Mx0_10 Mx0_11 Mx0_12 Mx0_13 My1 My2 Mx3_0 Mx4_0 My5 My6 H locs ls hn21_x3 hc21_x3 hP hD hS hl
                                          refine lv_iload hx hb d_S_run_21 (lv_at hl 0 rfl) ?_
                                          refine lv_iload_n hx hb d_S_run_23 rfl (lv_at hl 4 rfl) ?_
                                          refine lv_icmp_ge (tgt := 53) hx hb d_S_run_24 (by decide) (fun c47 => ?_) (fun c47 => ?_)
                                          · refine lv_aload_n hx hb d_S_run_53 rfl (lv_at hl 3 rfl) ?_
                                            refine va_get (D := D) (ci := 0) (v := .ref m0) (C := "SignMachine") (T := F_S) (N := 2) hx hb hk fi_S hown hK.1 hP 0 rfl rfl 0 (by decide) (hk _ k_210) (fun _ h9 => h9) rfl d_S_run_54 ?_
                                            refine lv_iload_n hx hb d_S_run_57 rfl (lv_at hl 2 rfl) ?_
                                            refine va_putN (D := D) (ci := 1) (v := .int l3) (ty := .int) (C := "SignMachine$Machine") (T := F_M) (N := 14) hx hb hk fi_M ft_M ft_M_ok fn_M hown hK.1 hP hD hS 1 rfl rfl 8 (by decide) (va_Nw.use rfl (hK.2 _ n_175)) (fun _ h9 => h9) rfl (by decide +kernel) rfl rfl (Nat.le_of_ble_eq_true rfl) d_S_run_58 (fun H locs hP hD hS => ?_)
                                            have hP : va_P D classes ((wS54 cI cJ cZ cB p0 m0) ++ (wS60 cI cJ cZ cB m0 m1 m2 m3 m4 m5 m6 Mx0_4 Mx0_5 Mx0_6 Mx0_7 l3 Mx0_9 Mx0_10 Mx0_11 Mx0_12 Mx0_13 My1 My2 Mx3_0 Mx4_0 My5 My6)) H := hP
                                            have hD : va_D A ((wS54 cI cJ cZ cB p0 m0) ++ (wS60 cI cJ cZ cB m0 m1 m2 m3 m4 m5 m6 Mx0_4 Mx0_5 Mx0_6 Mx0_7 l3 Mx0_9 Mx0_10 Mx0_11 Mx0_12 Mx0_13 My1 My2 Mx3_0 Mx4_0 My5 My6)) := hD
                                            refine lv_iload_n hx hb d_S_run_61 rfl (lv_at hl 1 rfl) ?_
                                            exact W.iret (v := l2) hx hb hr (fun t ht hW => ⟨⟨l2, (0 : Int32), rfl, rfl, ⟨_, isC_3, (by show va_P D classes _ t.heap; rw [ht]; exact hP), hD⟩⟩, hS.F ht⟩) hS.2.2 d_S_run_62
                                          · refine lv_iload_n hx hb d_S_run_27 rfl (lv_at hl 2 rfl) ?_
                                            refine lv_if_ne (tgt := 53) hx hb d_S_run_28 (by decide) (fun c48 => ?_) (fun c48 => ?_)
                                            · refine lv_aload_n hx hb d_S_run_53 rfl (lv_at hl 3 rfl) ?_
                                              refine va_get (D := D) (ci := 0) (v := .ref m0) (C := "SignMachine") (T := F_S) (N := 2) hx hb hk fi_S hown hK.1 hP 0 rfl rfl 0 (by decide) (hk _ k_210) (fun _ h9 => h9) rfl d_S_run_54 ?_
                                              refine lv_iload_n hx hb d_S_run_57 rfl (lv_at hl 2 rfl) ?_
                                              refine va_putN (D := D) (ci := 1) (v := .int l3) (ty := .int) (C := "SignMachine$Machine") (T := F_M) (N := 14) hx hb hk fi_M ft_M ft_M_ok fn_M hown hK.1 hP hD hS 1 rfl rfl 8 (by decide) (va_Nw.use rfl (hK.2 _ n_175)) (fun _ h9 => h9) rfl (by decide +kernel) rfl rfl (Nat.le_of_ble_eq_true rfl) d_S_run_58 (fun H locs hP hD hS => ?_)
                                              have hP : va_P D classes ((wS54 cI cJ cZ cB p0 m0) ++ (wS60 cI cJ cZ cB m0 m1 m2 m3 m4 m5 m6 Mx0_4 Mx0_5 Mx0_6 Mx0_7 l3 Mx0_9 Mx0_10 Mx0_11 Mx0_12 Mx0_13 My1 My2 Mx3_0 Mx4_0 My5 My6)) H := hP
                                              have hD : va_D A ((wS54 cI cJ cZ cB p0 m0) ++ (wS60 cI cJ cZ cB m0 m1 m2 m3 m4 m5 m6 Mx0_4 Mx0_5 Mx0_6 Mx0_7 l3 Mx0_9 Mx0_10 Mx0_11 Mx0_12 Mx0_13 My1 My2 Mx3_0 Mx4_0 My5 My6)) := hD
                                              refine lv_iload_n hx hb d_S_run_61 rfl (lv_at hl 1 rfl) ?_
                                              exact W.iret (v := l2) hx hb hr (fun t ht hW => ⟨⟨l2, (0 : Int32), rfl, rfl, ⟨_, isC_3, (by show va_P D classes _ t.heap; rw [ht]; exact hP), hD⟩⟩, hS.F ht⟩) hS.2.2 d_S_run_62
                                            · refine lv_aload_n hx hb d_S_run_31 rfl (lv_at hl 3 rfl) ?_
                                              refine va_get (D := D) (ci := 0) (v := .ref m0) (C := "SignMachine") (T := F_S) (N := 2) hx hb hk fi_S hown hK.1 hP 0 rfl rfl 0 (by decide) (hk _ k_210) (fun _ h9 => h9) rfl d_S_run_32 ?_
                                              have hPc := hP.sub (ws' := (wS60 cI cJ cZ cB m0 m1 m2 m3 m4 m5 m6 Mx0_4 Mx0_5 Mx0_6 Mx0_7 Mx0_8 Mx0_9 Mx0_10 Mx0_11 Mx0_12 Mx0_13 My1 My2 Mx3_0 Mx4_0 My5 My6)) [1, 2, 3, 4, 5, 6, 7] rfl
                                              have hDc := hD.sub (ws' := (wS60 cI cJ cZ cB m0 m1 m2 m3 m4 m5 m6 Mx0_4 Mx0_5 Mx0_6 Mx0_7 Mx0_8 Mx0_9 Mx0_10 Mx0_11 Mx0_12 Mx0_13 My1 My2 Mx3_0 Mx4_0 My5 My6)) [1, 2, 3, 4, 5, 6, 7] (by decide) rfl
                                              have hFc := va_free (wc := (wS60 cI cJ cZ cB m0 m1 m2 m3 m4 m5 m6 Mx0_4 Mx0_5 Mx0_6 Mx0_7 Mx0_8 Mx0_9 Mx0_10 Mx0_11 Mx0_12 Mx0_13 My1 My2 Mx3_0 Mx4_0 My5 My6)) hD hS hA [1, 2, 3, 4, 5, 6, 7] rfl
                                              refine va_calli (va_runV (C := "SignMachine$Machine") (As := []) (rest := []) ⟨hx, hb, hml, hown, hk⟩ (c_M_execute_s6 l K D cI cJ cZ cB m0 m1 m2 m3 m4 m5 m6 H.size Mx0_4 Mx0_5 Mx0_6 Mx0_7 Mx0_8 Mx0_9 Mx0_10 Mx0_11 Mx0_12 Mx0_13 My1 My2 Mx3_0 Mx4_0 My5 My6  ) (v_M_execute_s6 hk k_258 ⟨Nat.le_of_ble_eq_true rfl, Nat.le_of_ble_eq_true rfl⟩) (pMC_v hK hPc hDc hC hS hA (ci := 1) (q0 := 0) rfl rfl rfl) rfl rfl hl.1 rfl (lv_room (Nat.le_of_ble_eq_true rfl)) d_S_run_35 ⟨by decide, by decide⟩) hS (fun q _ h => hFc q h) hFc (fun rz49 u t H locs ht hvm hr0 hB hzq hkq hS => ?_)
                                              obtain ⟨Mx0_4z49, Mx0_5z49, Mx0_6z49, Mx0_7z49, Mx0_9z49, Mx0_10z49, Mx0_11z49, Mx0_12z49, Mx0_13z49, My1z49, My2z49, Mx3_0z49, Mx4_0z49, My5z49, My6z49, hP1, hD1⟩ := hB
                                              rw [ht] at hP1
                                              obtain ⟨hP, hD⟩ := va_join (wr := (wS54 cI cJ cZ cB p0 m0)) (w1 := (wS60 cI cJ cZ cB m0 m1 m2 m3 m4 m5 m6 Mx0_4z49 Mx0_5z49 Mx0_6z49 Mx0_7z49 Mx0_8 Mx0_9z49 Mx0_10z49 Mx0_11z49 Mx0_12z49 Mx0_13z49 My1z49 My2z49 Mx3_0z49 Mx4_0z49 My5z49 My6z49)) hP hD [1, 2, 3, 4, 5, 6, 7] [0] rfl rfl (by decide) (by decide) hkq hFc hP1 hD1
                                              have hP := hP.sub (ws' := ((wS54 cI cJ cZ cB p0 m0) ++ (wS60 cI cJ cZ cB m0 m1 m2 m3 m4 m5 m6 Mx0_4z49 Mx0_5z49 Mx0_6z49 Mx0_7z49 Mx0_8 Mx0_9z49 Mx0_10z49 Mx0_11z49 Mx0_12z49 Mx0_13z49 My1z49 My2z49 Mx3_0z49 Mx4_0z49 My5z49 My6z49))) [0, 1, 2, 3, 4, 5, 6, 7] rfl
                                              have hD := hD.sub (ws' := ((wS54 cI cJ cZ cB p0 m0) ++ (wS60 cI cJ cZ cB m0 m1 m2 m3 m4 m5 m6 Mx0_4z49 Mx0_5z49 Mx0_6z49 Mx0_7z49 Mx0_8 Mx0_9z49 Mx0_10z49 Mx0_11z49 Mx0_12z49 Mx0_13z49 My1z49 My2z49 Mx3_0z49 Mx4_0z49 My5z49 My6z49))) [0, 1, 2, 3, 4, 5, 6, 7] (by decide) rfl
                                              have hP : va_P D classes ((wS54 cI cJ cZ cB p0 m0) ++ (wS60 cI cJ cZ cB m0 m1 m2 m3 m4 m5 m6 Mx0_4z49 Mx0_5z49 Mx0_6z49 Mx0_7z49 Mx0_8 Mx0_9z49 Mx0_10z49 Mx0_11z49 Mx0_12z49 Mx0_13z49 My1z49 My2z49 Mx3_0z49 Mx4_0z49 My5z49 My6z49)) H := hP
                                              have hD : va_D A ((wS54 cI cJ cZ cB p0 m0) ++ (wS60 cI cJ cZ cB m0 m1 m2 m3 m4 m5 m6 Mx0_4z49 Mx0_5z49 Mx0_6z49 Mx0_7z49 Mx0_8 Mx0_9z49 Mx0_10z49 Mx0_11z49 Mx0_12z49 Mx0_13z49 My1z49 My2z49 Mx3_0z49 Mx4_0z49 My5z49 My6z49)) := hD
                                              clear hPc hDc hFc
                                              refine lv_istore_n (lv' := [(3, .int rz49), (4, .int l4), (2, .int l2), (0, .ref p0), (1, .int a1)]) hx hb d_S_run_38 rfl hl (by decide) rfl (fun ls hl => ?_)
                                              refine lv_iload_n hx hb d_S_run_39 rfl (lv_at hl 0 rfl) ?_
                                              refine lv_iconst (v := 1) hx hb d_S_run_40 (by decide) ?_
                                              refine lv_icmp_gt (tgt := 47) hx hb d_S_run_41 (by decide) (fun c50 => ?_) (fun c50 => ?_)
                                              · obtain ⟨v51, hv51⟩ : ∃ y : Int32, y = (l4 + (1 : Int32)) := ⟨_, rfl⟩
                                                refine lv_iinc (v := v51) (lv' := [(4, .int v51), (3, .int rz49), (2, .int l2), (0, .ref p0), (1, .int a1)]) hx hb d_S_run_47 hl (k := 1) rfl (by rw [hv51]; rfl) (by decide) rfl (fun ls hl => ?_)
                                                refine lv_goto (tgt := 21) hx hb d_S_run_50 (by decide) ?_
                                                exact ih v51 l2 rz49 Mx0_4z49 Mx0_5z49 Mx0_6z49 Mx0_7z49 Mx0_8 Mx0_9z49 Mx0_10z49 Mx0_11z49 Mx0_12z49 Mx0_13z49 My1z49 My2z49 Mx3_0z49 Mx4_0z49 My5z49 My6z49 H _ ls (lpu c47 hv51 hn21_x3) (lpn hc21_x3 c47 hv51) hP hD hS (lv_sub hl [0, 2, 1, 3, 4] rfl)
                                              · obtain ⟨v52, hv52⟩ : ∃ y : Int32, y = (l2 + (1 : Int32)) := ⟨_, rfl⟩
                                                refine lv_iinc (v := v52) (lv' := [(2, .int v52), (3, .int rz49), (4, .int l4), (0, .ref p0), (1, .int a1)]) hx hb d_S_run_44 hl (k := 2) rfl (by rw [hv52]; rfl) (by decide) rfl (fun ls hl => ?_)
                                                obtain ⟨v53, hv53⟩ : ∃ y : Int32, y = (l4 + (1 : Int32)) := ⟨_, rfl⟩
                                                refine lv_iinc (v := v53) (lv' := [(4, .int v53), (2, .int v52), (3, .int rz49), (0, .ref p0), (1, .int a1)]) hx hb d_S_run_47 hl (k := 2) rfl (by rw [hv53]; rfl) (by decide) rfl (fun ls hl => ?_)
                                                refine lv_goto (tgt := 21) hx hb d_S_run_50 (by decide) ?_
                                                exact ih v53 v52 rz49 Mx0_4z49 Mx0_5z49 Mx0_6z49 Mx0_7z49 Mx0_8 Mx0_9z49 Mx0_10z49 Mx0_11z49 Mx0_12z49 Mx0_13z49 My1z49 My2z49 Mx3_0z49 Mx4_0z49 My5z49 My6z49 H _ ls (lpu c47 hv53 hn21_x3) (lpn hc21_x3 c47 hv53) hP hD hS (lv_sub hl [0, 1, 2, 3, 4] rfl)
                                      exact LP21_x3 _ v46 v45 rz27 Mx0_4 Mx0_5 Mx0_6z27 Mx0_7z27 Mx0_8 Mx0_9z27 Mx0_10z27 Mx0_11z27 Mx0_12z27 Mx0_13z27 My1 My2 Mx3_0 Mx4_0z27 My5 My6z27 H _ ls (Nat.lt_succ_self _) (lpn hc21_x1 c18 hv46) hP hD hS hl
                              · have hPc := hP.sub (ws' := (wS57 cI cJ cZ cB m0 m1 m2 m3 m4 m5 Mx0_4 Mx0_5 Mx0_6 Mx0_7 Mx0_8 Mx0_9 Mx0_10 Mx0_11 Mx0_12 Mx0_13 My1 My2 Mx3_0 Mx4_0 My5)) [1, 2, 3, 4, 5, 6] rfl
                                have hDc := hD.sub (ws' := (wS57 cI cJ cZ cB m0 m1 m2 m3 m4 m5 Mx0_4 Mx0_5 Mx0_6 Mx0_7 Mx0_8 Mx0_9 Mx0_10 Mx0_11 Mx0_12 Mx0_13 My1 My2 Mx3_0 Mx4_0 My5)) [1, 2, 3, 4, 5, 6] (by decide) rfl
                                have hFc := va_free (wc := (wS57 cI cJ cZ cB m0 m1 m2 m3 m4 m5 Mx0_4 Mx0_5 Mx0_6 Mx0_7 Mx0_8 Mx0_9 Mx0_10 Mx0_11 Mx0_12 Mx0_13 My1 My2 Mx3_0 Mx4_0 My5)) hD hS hA [1, 2, 3, 4, 5, 6] rfl
                                refine va_calli (va_runV (C := "SignMachine$Machine") (As := []) (rest := []) ⟨hx, hb, hml, hown, hk⟩ (c_M_execute_s7 l K D cI cJ cZ cB m0 m1 m2 m3 m4 m5 H.size Mx0_4 Mx0_5 Mx0_6 Mx0_7 Mx0_8 Mx0_9 Mx0_10 Mx0_11 Mx0_12 Mx0_13 My1 My2 Mx3_0 Mx4_0 My5  q20) (v_M_execute_s7 hk k_258 ⟨Nat.le_of_ble_eq_true rfl, Nat.le_of_ble_eq_true rfl⟩) (pMC_v hK hPc hDc hC hS hA (ci := 1) (q0 := 0) rfl rfl rfl) rfl rfl hl.1 rfl (lv_room (Nat.le_of_ble_eq_true rfl)) d_S_run_35 ⟨by decide, by decide⟩) hS (fun q _ h => hFc q h) hFc (fun rz54 u t H locs ht hvm hr0 hB hzq hkq hS => ?_)
                                obtain ⟨Mx0_4z54, Mx0_5z54, Mx0_6z54, Mx0_7z54, Mx0_9z54, Mx0_10z54, Mx0_11z54, Mx0_12z54, Mx0_13z54, My1z54, My2z54, Mx3_0z54, Mx4_0z54, hP1, hD1⟩ := hB
                                rw [ht] at hP1
                                obtain ⟨hP, hD⟩ := va_join (wr := (wS54 cI cJ cZ cB p0 m0)) (w1 := (wS57 cI cJ cZ cB m0 m1 m2 m3 m4 m5 Mx0_4z54 Mx0_5z54 Mx0_6z54 Mx0_7z54 Mx0_8 Mx0_9z54 Mx0_10z54 Mx0_11z54 Mx0_12z54 Mx0_13z54 My1z54 My2z54 Mx3_0z54 Mx4_0z54 My5)) hP hD [1, 2, 3, 4, 5, 6] [0] rfl rfl (by decide) (by decide) hkq hFc hP1 hD1
                                have hP := hP.sub (ws' := ((wS54 cI cJ cZ cB p0 m0) ++ (wS57 cI cJ cZ cB m0 m1 m2 m3 m4 m5 Mx0_4z54 Mx0_5z54 Mx0_6z54 Mx0_7z54 Mx0_8 Mx0_9z54 Mx0_10z54 Mx0_11z54 Mx0_12z54 Mx0_13z54 My1z54 My2z54 Mx3_0z54 Mx4_0z54 My5))) [0, 1, 2, 3, 4, 5, 6] rfl
                                have hD := hD.sub (ws' := ((wS54 cI cJ cZ cB p0 m0) ++ (wS57 cI cJ cZ cB m0 m1 m2 m3 m4 m5 Mx0_4z54 Mx0_5z54 Mx0_6z54 Mx0_7z54 Mx0_8 Mx0_9z54 Mx0_10z54 Mx0_11z54 Mx0_12z54 Mx0_13z54 My1z54 My2z54 Mx3_0z54 Mx4_0z54 My5))) [0, 1, 2, 3, 4, 5, 6] (by decide) rfl
                                have hP : va_P D classes ((wS54 cI cJ cZ cB p0 m0) ++ (wS57 cI cJ cZ cB m0 m1 m2 m3 m4 m5 Mx0_4z54 Mx0_5z54 Mx0_6z54 Mx0_7z54 Mx0_8 Mx0_9z54 Mx0_10z54 Mx0_11z54 Mx0_12z54 Mx0_13z54 My1z54 My2z54 Mx3_0z54 Mx4_0z54 My5)) H := hP
                                have hD : va_D A ((wS54 cI cJ cZ cB p0 m0) ++ (wS57 cI cJ cZ cB m0 m1 m2 m3 m4 m5 Mx0_4z54 Mx0_5z54 Mx0_6z54 Mx0_7z54 Mx0_8 Mx0_9z54 Mx0_10z54 Mx0_11z54 Mx0_12z54 Mx0_13z54 My1z54 My2z54 Mx3_0z54 Mx4_0z54 My5)) := hD
                                clear hPc hDc hFc
                                refine lv_istore_n (lv' := [(3, .int rz54), (4, .int l4), (2, .int l2), (0, .ref p0), (1, .int a1)]) hx hb d_S_run_38 rfl hl (by decide) rfl (fun ls hl => ?_)
                                refine lv_iload_n hx hb d_S_run_39 rfl (lv_at hl 0 rfl) ?_
                                refine lv_iconst (v := 1) hx hb d_S_run_40 (by decide) ?_
                                refine lv_icmp_gt (tgt := 47) hx hb d_S_run_41 (by decide) (fun c55 => ?_) (fun c55 => ?_)
                                · obtain ⟨v56, hv56⟩ : ∃ y : Int32, y = (l4 + (1 : Int32)) := ⟨_, rfl⟩
                                  refine lv_iinc (v := v56) (lv' := [(4, .int v56), (3, .int rz54), (2, .int l2), (0, .ref p0), (1, .int a1)]) hx hb d_S_run_47 hl (k := 1) rfl (by rw [hv56]; rfl) (by decide) rfl (fun ls hl => ?_)
                                  refine lv_goto (tgt := 21) hx hb d_S_run_50 (by decide) ?_
                                  exact ih v56 rz54 l2 Mx0_4z54 Mx0_5z54 Mx0_6z54 Mx0_7z54 Mx0_8 Mx0_9z54 Mx0_10z54 Mx0_11z54 Mx0_12z54 Mx0_13z54 My1z54 My2z54 Mx3_0z54 Mx4_0z54 My5 H _ ls (lpu c18 hv56 hn21_x1) (lpn hc21_x1 c18 hv56) hP hD hS (lv_sub hl [0, 1, 2, 3, 4] rfl)
                                · obtain ⟨v57, hv57⟩ : ∃ y : Int32, y = (l2 + (1 : Int32)) := ⟨_, rfl⟩
                                  refine lv_iinc (v := v57) (lv' := [(2, .int v57), (3, .int rz54), (4, .int l4), (0, .ref p0), (1, .int a1)]) hx hb d_S_run_44 hl (k := 2) rfl (by rw [hv57]; rfl) (by decide) rfl (fun ls hl => ?_)
                                  obtain ⟨v58, hv58⟩ : ∃ y : Int32, y = (l4 + (1 : Int32)) := ⟨_, rfl⟩
                                  refine lv_iinc (v := v58) (lv' := [(4, .int v58), (2, .int v57), (3, .int rz54), (0, .ref p0), (1, .int a1)]) hx hb d_S_run_47 hl (k := 2) rfl (by rw [hv58]; rfl) (by decide) rfl (fun ls hl => ?_)
                                  refine lv_goto (tgt := 21) hx hb d_S_run_50 (by decide) ?_
                                  exact ih v58 rz54 v57 Mx0_4z54 Mx0_5z54 Mx0_6z54 Mx0_7z54 Mx0_8 Mx0_9z54 Mx0_10z54 Mx0_11z54 Mx0_12z54 Mx0_13z54 My1z54 My2z54 Mx3_0z54 Mx4_0z54 My5 H _ ls (lpu c18 hv58 hn21_x1) (lpn hc21_x1 c18 hv58) hP hD hS (lv_sub hl [0, 2, 1, 3, 4] rfl)
                      exact LP21_x1 _ v17 rz7 l2 Mx0_4 Mx0_5 Mx0_6z7 Mx0_7z7 Mx0_8 Mx0_9z7 Mx0_10z7 Mx0_11z7 Mx0_12z7 Mx0_13z7 My1 My2 Mx3_0z7 Mx4_0 My5z7 H _ ls (Nat.lt_succ_self _) (lpn hc21_x0 c3 hv17) hP hD hS hl
                    · obtain ⟨v59, hv59⟩ : ∃ y : Int32, y = (l2 + (1 : Int32)) := ⟨_, rfl⟩
                      refine lv_iinc (v := v59) (lv' := [(2, .int v59), (3, .int rz7), (4, .int l4), (0, .ref p0), (1, .int a1)]) hx hb d_S_run_44 hl (k := 2) rfl (by rw [hv59]; rfl) (by decide) rfl (fun ls hl => ?_)
                      obtain ⟨v60, hv60⟩ : ∃ y : Int32, y = (l4 + (1 : Int32)) := ⟨_, rfl⟩
                      refine lv_iinc (v := v60) (lv' := [(4, .int v60), (2, .int v59), (3, .int rz7), (0, .ref p0), (1, .int a1)]) hx hb d_S_run_47 hl (k := 2) rfl (by rw [hv60]; rfl) (by decide) rfl (fun ls hl => ?_)
                      refine lv_goto (tgt := 21) hx hb d_S_run_50 (by decide) ?_
                      have LP21_x1 : ∀ (n : Nat) (l4 : Int32) (l2 : Int32) (l3 : Int32) (Mx0_4 : Bool) (Mx0_5 : Int32) (Mx0_6 : Int32) (Mx0_7 : Int32) (Mx0_8 : Int32) (Mx0_9 : Int32) (Mx0_10 : Int32) (Mx0_11 : Int32) (Mx0_12 : Int32) (Mx0_13 : Int32) (My1 : Nat → Int32) (My2 : Nat → Int32) (Mx3_0 : Int32) (Mx4_0 : Int32) (My5 : Nat → Int32) (H : Heap) (locs : List Loc) (ls : Array Slot), ((a1).toInt - (l4).toInt).toNat < n → ¬ l4 < (0 : Int32) → va_P D classes ((wS54 cI cJ cZ cB p0 m0) ++ (wS57 cI cJ cZ cB m0 m1 m2 m3 m4 m5 Mx0_4 Mx0_5 Mx0_6 Mx0_7 Mx0_8 Mx0_9 Mx0_10 Mx0_11 Mx0_12 Mx0_13 My1 My2 Mx3_0 Mx4_0 My5)) H → va_D A ((wS54 cI cJ cZ cB p0 m0) ++ (wS57 cI cJ cZ cB m0 m1 m2 m3 m4 m5 Mx0_4 Mx0_5 Mx0_6 Mx0_7 Mx0_8 Mx0_9 Mx0_10 Mx0_11 Mx0_12 Mx0_13 My1 My2 Mx3_0 Mx4_0 My5)) → va_S A s.heap H locs → lv_has ls 5 [(4, .int l4), (2, .int l2), (3, .int l3), (0, .ref p0), (1, .int a1)] → W p l e ({ frames := 7, cells := 2, slots := 8000, locals := 151 }) s m [.ref p0, .int a1].toArray below meth c H locs 1 4000 (MQ below (va_Qi (fun r (uL : Int32) => uL = (0 : Int32)) (fun uL t => ∃ W9 : va_W, isC K cI cJ cZ cB p0 uL W9 ∧ va_P D classes W9 t.heap ∧ va_D A W9) A) [.ref p0, .int a1].toArray s 2 8000 A) (F0 m 21 ls []) := by
                        intro n
                        induction n with
                        | zero => intro l4 l2 l3 Mx0_4 Mx0_5 Mx0_6 Mx0_7 Mx0_8 Mx0_9 Mx0_10 Mx0_11 Mx0_12 Mx0_13 My1 My2 Mx3_0 Mx4_0 My5 H locs ls hn; exact absurd hn (Nat.not_lt_zero _)
                        | succ n ih =>
                          intro l4 l2 l3 Mx0_4 Mx0_5 Mx0_6 Mx0_7 Mx0_8 Mx0_9 Mx0_10 Mx0_11 Mx0_12 Mx0_13 My1 My2 Mx3_0 Mx4_0 My5 H locs ls hn21_x1 hc21_x1 hP hD hS hl
                          refine lv_iload hx hb d_S_run_21 (lv_at hl 0 rfl) ?_
                          refine lv_iload_n hx hb d_S_run_23 rfl (lv_at hl 4 rfl) ?_
                          refine lv_icmp_ge (tgt := 53) hx hb d_S_run_24 (by decide) (fun c61 => ?_) (fun c61 => ?_)
                          · refine lv_aload_n hx hb d_S_run_53 rfl (lv_at hl 3 rfl) ?_
                            refine va_get (D := D) (ci := 0) (v := .ref m0) (C := "SignMachine") (T := F_S) (N := 2) hx hb hk fi_S hown hK.1 hP 0 rfl rfl 0 (by decide) (hk _ k_210) (fun _ h9 => h9) rfl d_S_run_54 ?_
                            refine lv_iload_n hx hb d_S_run_57 rfl (lv_at hl 2 rfl) ?_
                            refine va_putN (D := D) (ci := 1) (v := .int l3) (ty := .int) (C := "SignMachine$Machine") (T := F_M) (N := 14) hx hb hk fi_M ft_M ft_M_ok fn_M hown hK.1 hP hD hS 1 rfl rfl 8 (by decide) (va_Nw.use rfl (hK.2 _ n_175)) (fun _ h9 => h9) rfl (by decide +kernel) rfl rfl (Nat.le_of_ble_eq_true rfl) d_S_run_58 (fun H locs hP hD hS => ?_)
                            have hP : va_P D classes ((wS54 cI cJ cZ cB p0 m0) ++ (wS57 cI cJ cZ cB m0 m1 m2 m3 m4 m5 Mx0_4 Mx0_5 Mx0_6 Mx0_7 l3 Mx0_9 Mx0_10 Mx0_11 Mx0_12 Mx0_13 My1 My2 Mx3_0 Mx4_0 My5)) H := hP
                            have hD : va_D A ((wS54 cI cJ cZ cB p0 m0) ++ (wS57 cI cJ cZ cB m0 m1 m2 m3 m4 m5 Mx0_4 Mx0_5 Mx0_6 Mx0_7 l3 Mx0_9 Mx0_10 Mx0_11 Mx0_12 Mx0_13 My1 My2 Mx3_0 Mx4_0 My5)) := hD
                            refine lv_iload_n hx hb d_S_run_61 rfl (lv_at hl 1 rfl) ?_
                            refine W.widen (k := 2) (n := 8000) (by decide) (by decide) ?_
                            exact W.iret (v := l2) hx hb hr (fun t ht hW => ⟨⟨l2, (0 : Int32), rfl, rfl, ⟨_, isC_1, (by show va_P D classes _ t.heap; rw [ht]; exact hP), hD⟩⟩, hS.F ht⟩) hS.2.2 d_S_run_62
                          · refine lv_iload_n hx hb d_S_run_27 rfl (lv_at hl 2 rfl) ?_
                            refine lv_if_ne (tgt := 53) hx hb d_S_run_28 (by decide) (fun c62 => ?_) (fun c62 => ?_)
                            · refine lv_aload_n hx hb d_S_run_53 rfl (lv_at hl 3 rfl) ?_
                              refine va_get (D := D) (ci := 0) (v := .ref m0) (C := "SignMachine") (T := F_S) (N := 2) hx hb hk fi_S hown hK.1 hP 0 rfl rfl 0 (by decide) (hk _ k_210) (fun _ h9 => h9) rfl d_S_run_54 ?_
                              refine lv_iload_n hx hb d_S_run_57 rfl (lv_at hl 2 rfl) ?_
                              refine va_putN (D := D) (ci := 1) (v := .int l3) (ty := .int) (C := "SignMachine$Machine") (T := F_M) (N := 14) hx hb hk fi_M ft_M ft_M_ok fn_M hown hK.1 hP hD hS 1 rfl rfl 8 (by decide) (va_Nw.use rfl (hK.2 _ n_175)) (fun _ h9 => h9) rfl (by decide +kernel) rfl rfl (Nat.le_of_ble_eq_true rfl) d_S_run_58 (fun H locs hP hD hS => ?_)
                              have hP : va_P D classes ((wS54 cI cJ cZ cB p0 m0) ++ (wS57 cI cJ cZ cB m0 m1 m2 m3 m4 m5 Mx0_4 Mx0_5 Mx0_6 Mx0_7 l3 Mx0_9 Mx0_10 Mx0_11 Mx0_12 Mx0_13 My1 My2 Mx3_0 Mx4_0 My5)) H := hP
                              have hD : va_D A ((wS54 cI cJ cZ cB p0 m0) ++ (wS57 cI cJ cZ cB m0 m1 m2 m3 m4 m5 Mx0_4 Mx0_5 Mx0_6 Mx0_7 l3 Mx0_9 Mx0_10 Mx0_11 Mx0_12 Mx0_13 My1 My2 Mx3_0 Mx4_0 My5)) := hD
                              refine lv_iload_n hx hb d_S_run_61 rfl (lv_at hl 1 rfl) ?_
                              refine W.widen (k := 2) (n := 8000) (by decide) (by decide) ?_
                              exact W.iret (v := l2) hx hb hr (fun t ht hW => ⟨⟨l2, (0 : Int32), rfl, rfl, ⟨_, isC_1, (by show va_P D classes _ t.heap; rw [ht]; exact hP), hD⟩⟩, hS.F ht⟩) hS.2.2 d_S_run_62
                            · refine lv_aload_n hx hb d_S_run_31 rfl (lv_at hl 3 rfl) ?_
                              refine va_get (D := D) (ci := 0) (v := .ref m0) (C := "SignMachine") (T := F_S) (N := 2) hx hb hk fi_S hown hK.1 hP 0 rfl rfl 0 (by decide) (hk _ k_210) (fun _ h9 => h9) rfl d_S_run_32 ?_
                              by_cases q63 : ((f_W_size (f_mw My1 Mx0_7)) &&& (63 : Int32)) = (37 : Int32)
                              · by_cases q64 : (((f_W_size (f_mw My1 Mx0_7)) >>> ((6 : Int32) &&& (31 : Int32))) &&& (63 : Int32)) = (0 : Int32)
                                · have hPc := hP.sub (ws' := (wS57 cI cJ cZ cB m0 m1 m2 m3 m4 m5 Mx0_4 Mx0_5 Mx0_6 Mx0_7 Mx0_8 Mx0_9 Mx0_10 Mx0_11 Mx0_12 Mx0_13 My1 My2 Mx3_0 Mx4_0 My5)) [1, 2, 3, 4, 5, 6] rfl
                                  have hDc := hD.sub (ws' := (wS57 cI cJ cZ cB m0 m1 m2 m3 m4 m5 Mx0_4 Mx0_5 Mx0_6 Mx0_7 Mx0_8 Mx0_9 Mx0_10 Mx0_11 Mx0_12 Mx0_13 My1 My2 Mx3_0 Mx4_0 My5)) [1, 2, 3, 4, 5, 6] (by decide) rfl
                                  have hFc := va_free (wc := (wS57 cI cJ cZ cB m0 m1 m2 m3 m4 m5 Mx0_4 Mx0_5 Mx0_6 Mx0_7 Mx0_8 Mx0_9 Mx0_10 Mx0_11 Mx0_12 Mx0_13 My1 My2 Mx3_0 Mx4_0 My5)) hD hS hA [1, 2, 3, 4, 5, 6] rfl
                                  refine va_calli (va_runV (C := "SignMachine$Machine") (As := []) (rest := []) ⟨hx, hb, hml, hown, hk⟩ (c_M_execute_s4 l K D cI cJ cZ cB m0 m1 m2 m3 m4 m5 H.size Mx0_4 Mx0_5 Mx0_6 Mx0_7 Mx0_8 Mx0_9 Mx0_10 Mx0_11 Mx0_12 Mx0_13 My1 My2 Mx3_0 Mx4_0 My5  q63 q64) (v_M_execute_s4 hk k_258 ⟨Nat.le_of_ble_eq_true rfl, Nat.le_of_ble_eq_true rfl⟩) (pMC_v hK hPc hDc hC hS hA (ci := 1) (q0 := 0) rfl rfl rfl) rfl rfl hl.1 rfl (lv_room (Nat.le_of_ble_eq_true rfl)) d_S_run_35 ⟨by decide, by decide⟩) hS (fun q _ h => hFc q h) hFc (fun rz65 u t H locs ht hvm hr0 hB hzq hkq hS => ?_)
                                  obtain ⟨Mx0_6z65, Mx0_7z65, Mx0_9z65, Mx0_10z65, Mx0_11z65, Mx0_12z65, Mx0_13z65, Mx3_0z65, My5z65, hP1, hD1⟩ := hB
                                  rw [ht] at hP1
                                  obtain ⟨hP, hD⟩ := va_join (wr := (wS54 cI cJ cZ cB p0 m0)) (w1 := (wS57 cI cJ cZ cB m0 m1 m2 m3 m4 m5 Mx0_4 Mx0_5 Mx0_6z65 Mx0_7z65 Mx0_8 Mx0_9z65 Mx0_10z65 Mx0_11z65 Mx0_12z65 Mx0_13z65 My1 My2 Mx3_0z65 Mx4_0 My5z65)) hP hD [1, 2, 3, 4, 5, 6] [0] rfl rfl (by decide) (by decide) hkq hFc hP1 hD1
                                  have hP := hP.sub (ws' := ((wS54 cI cJ cZ cB p0 m0) ++ (wS57 cI cJ cZ cB m0 m1 m2 m3 m4 m5 Mx0_4 Mx0_5 Mx0_6z65 Mx0_7z65 Mx0_8 Mx0_9z65 Mx0_10z65 Mx0_11z65 Mx0_12z65 Mx0_13z65 My1 My2 Mx3_0z65 Mx4_0 My5z65))) [0, 1, 2, 3, 4, 5, 6] rfl
                                  have hD := hD.sub (ws' := ((wS54 cI cJ cZ cB p0 m0) ++ (wS57 cI cJ cZ cB m0 m1 m2 m3 m4 m5 Mx0_4 Mx0_5 Mx0_6z65 Mx0_7z65 Mx0_8 Mx0_9z65 Mx0_10z65 Mx0_11z65 Mx0_12z65 Mx0_13z65 My1 My2 Mx3_0z65 Mx4_0 My5z65))) [0, 1, 2, 3, 4, 5, 6] (by decide) rfl
                                  have hP : va_P D classes ((wS54 cI cJ cZ cB p0 m0) ++ (wS57 cI cJ cZ cB m0 m1 m2 m3 m4 m5 Mx0_4 Mx0_5 Mx0_6z65 Mx0_7z65 Mx0_8 Mx0_9z65 Mx0_10z65 Mx0_11z65 Mx0_12z65 Mx0_13z65 My1 My2 Mx3_0z65 Mx4_0 My5z65)) H := hP
                                  have hD : va_D A ((wS54 cI cJ cZ cB p0 m0) ++ (wS57 cI cJ cZ cB m0 m1 m2 m3 m4 m5 Mx0_4 Mx0_5 Mx0_6z65 Mx0_7z65 Mx0_8 Mx0_9z65 Mx0_10z65 Mx0_11z65 Mx0_12z65 Mx0_13z65 My1 My2 Mx3_0z65 Mx4_0 My5z65)) := hD
                                  clear hPc hDc hFc
                                  refine lv_istore_n (lv' := [(3, .int rz65), (4, .int l4), (2, .int l2), (0, .ref p0), (1, .int a1)]) hx hb d_S_run_38 rfl hl (by decide) rfl (fun ls hl => ?_)
                                  refine lv_iload_n hx hb d_S_run_39 rfl (lv_at hl 0 rfl) ?_
                                  refine lv_iconst (v := 1) hx hb d_S_run_40 (by decide) ?_
                                  refine lv_icmp_gt (tgt := 47) hx hb d_S_run_41 (by decide) (fun c66 => ?_) (fun c66 => ?_)
                                  · obtain ⟨v67, hv67⟩ : ∃ y : Int32, y = (l4 + (1 : Int32)) := ⟨_, rfl⟩
                                    refine lv_iinc (v := v67) (lv' := [(4, .int v67), (3, .int rz65), (2, .int l2), (0, .ref p0), (1, .int a1)]) hx hb d_S_run_47 hl (k := 1) rfl (by rw [hv67]; rfl) (by decide) rfl (fun ls hl => ?_)
                                    refine lv_goto (tgt := 21) hx hb d_S_run_50 (by decide) ?_
                                    exact ih v67 l2 rz65 Mx0_4 Mx0_5 Mx0_6z65 Mx0_7z65 Mx0_8 Mx0_9z65 Mx0_10z65 Mx0_11z65 Mx0_12z65 Mx0_13z65 My1 My2 Mx3_0z65 Mx4_0 My5z65 H _ ls (lpu c61 hv67 hn21_x1) (lpn hc21_x1 c61 hv67) hP hD hS (lv_sub hl [0, 2, 1, 3, 4] rfl)
                                  · obtain ⟨v68, hv68⟩ : ∃ y : Int32, y = (l2 + (1 : Int32)) := ⟨_, rfl⟩
                                    refine lv_iinc (v := v68) (lv' := [(2, .int v68), (3, .int rz65), (4, .int l4), (0, .ref p0), (1, .int a1)]) hx hb d_S_run_44 hl (k := 2) rfl (by rw [hv68]; rfl) (by decide) rfl (fun ls hl => ?_)
                                    obtain ⟨v69, hv69⟩ : ∃ y : Int32, y = (l4 + (1 : Int32)) := ⟨_, rfl⟩
                                    refine lv_iinc (v := v69) (lv' := [(4, .int v69), (2, .int v68), (3, .int rz65), (0, .ref p0), (1, .int a1)]) hx hb d_S_run_47 hl (k := 2) rfl (by rw [hv69]; rfl) (by decide) rfl (fun ls hl => ?_)
                                    refine lv_goto (tgt := 21) hx hb d_S_run_50 (by decide) ?_
                                    exact ih v69 v68 rz65 Mx0_4 Mx0_5 Mx0_6z65 Mx0_7z65 Mx0_8 Mx0_9z65 Mx0_10z65 Mx0_11z65 Mx0_12z65 Mx0_13z65 My1 My2 Mx3_0z65 Mx4_0 My5z65 H _ ls (lpu c61 hv69 hn21_x1) (lpn hc21_x1 c61 hv69) hP hD hS (lv_sub hl [0, 1, 2, 3, 4] rfl)
                                · have hPc := hP.sub (ws' := (wS57 cI cJ cZ cB m0 m1 m2 m3 m4 m5 Mx0_4 Mx0_5 Mx0_6 Mx0_7 Mx0_8 Mx0_9 Mx0_10 Mx0_11 Mx0_12 Mx0_13 My1 My2 Mx3_0 Mx4_0 My5)) [1, 2, 3, 4, 5, 6] rfl
                                  have hDc := hD.sub (ws' := (wS57 cI cJ cZ cB m0 m1 m2 m3 m4 m5 Mx0_4 Mx0_5 Mx0_6 Mx0_7 Mx0_8 Mx0_9 Mx0_10 Mx0_11 Mx0_12 Mx0_13 My1 My2 Mx3_0 Mx4_0 My5)) [1, 2, 3, 4, 5, 6] (by decide) rfl
                                  have hFc := va_free (wc := (wS57 cI cJ cZ cB m0 m1 m2 m3 m4 m5 Mx0_4 Mx0_5 Mx0_6 Mx0_7 Mx0_8 Mx0_9 Mx0_10 Mx0_11 Mx0_12 Mx0_13 My1 My2 Mx3_0 Mx4_0 My5)) hD hS hA [1, 2, 3, 4, 5, 6] rfl
                                  refine va_calli (va_runV (C := "SignMachine$Machine") (As := []) (rest := []) ⟨hx, hb, hml, hown, hk⟩ (c_M_execute_s5 l K D cI cJ cZ cB m0 m1 m2 m3 m4 m5 H.size Mx0_4 Mx0_5 Mx0_6 Mx0_7 Mx0_8 Mx0_9 Mx0_10 Mx0_11 Mx0_12 Mx0_13 My1 My2 Mx3_0 Mx4_0 My5  q63 q64) (v_M_execute_s5 hk k_258 ⟨Nat.le_of_ble_eq_true rfl, Nat.le_of_ble_eq_true rfl⟩) (pMC_v hK hPc hDc hC hS hA (ci := 1) (q0 := 0) rfl rfl rfl) rfl rfl hl.1 rfl (lv_room (Nat.le_of_ble_eq_true rfl)) d_S_run_35 ⟨by decide, by decide⟩) hS (fun q _ h => hFc q h) hFc (fun rz70 u t H locs ht hvm hr0 hB hzq hkq hS => ?_)
                                  subst hr0
                                  rcases hB with ⟨hzz70, Mx0_6z70, Mx0_7z70, Mx0_9z70, Mx0_10z70, Mx0_11z70, Mx0_12z70, Mx0_13z70, Mx4_0z70, hP1, hD1⟩ | ⟨m6, Mx0_6z70, Mx0_7z70, Mx0_9z70, Mx0_10z70, Mx0_11z70, Mx0_12z70, Mx0_13z70, Mx4_0z70, My6z70, hP1, hD1⟩
                                  · rw [ht] at hP1
                                    obtain ⟨hP, hD⟩ := va_join (wr := (wS54 cI cJ cZ cB p0 m0)) (w1 := (wS57 cI cJ cZ cB m0 m1 m2 m3 m4 m5 Mx0_4 Mx0_5 Mx0_6z70 Mx0_7z70 Mx0_8 Mx0_9z70 Mx0_10z70 Mx0_11z70 Mx0_12z70 Mx0_13z70 My1 My2 Mx3_0 Mx4_0z70 My5)) hP hD [1, 2, 3, 4, 5, 6] [0] rfl rfl (by decide) (by decide) hkq hFc hP1 hD1
                                    have hP := hP.sub (ws' := ((wS54 cI cJ cZ cB p0 m0) ++ (wS57 cI cJ cZ cB m0 m1 m2 m3 m4 m5 Mx0_4 Mx0_5 Mx0_6z70 Mx0_7z70 Mx0_8 Mx0_9z70 Mx0_10z70 Mx0_11z70 Mx0_12z70 Mx0_13z70 My1 My2 Mx3_0 Mx4_0z70 My5))) [0, 1, 2, 3, 4, 5, 6] rfl
                                    have hD := hD.sub (ws' := ((wS54 cI cJ cZ cB p0 m0) ++ (wS57 cI cJ cZ cB m0 m1 m2 m3 m4 m5 Mx0_4 Mx0_5 Mx0_6z70 Mx0_7z70 Mx0_8 Mx0_9z70 Mx0_10z70 Mx0_11z70 Mx0_12z70 Mx0_13z70 My1 My2 Mx3_0 Mx4_0z70 My5))) [0, 1, 2, 3, 4, 5, 6] (by decide) rfl
                                    have hP : va_P D classes ((wS54 cI cJ cZ cB p0 m0) ++ (wS57 cI cJ cZ cB m0 m1 m2 m3 m4 m5 Mx0_4 Mx0_5 Mx0_6z70 Mx0_7z70 Mx0_8 Mx0_9z70 Mx0_10z70 Mx0_11z70 Mx0_12z70 Mx0_13z70 My1 My2 Mx3_0 Mx4_0z70 My5)) H := hP
                                    have hD : va_D A ((wS54 cI cJ cZ cB p0 m0) ++ (wS57 cI cJ cZ cB m0 m1 m2 m3 m4 m5 Mx0_4 Mx0_5 Mx0_6z70 Mx0_7z70 Mx0_8 Mx0_9z70 Mx0_10z70 Mx0_11z70 Mx0_12z70 Mx0_13z70 My1 My2 Mx3_0 Mx4_0z70 My5)) := hD
                                    clear hPc hDc hFc
                                    refine W.widen (k := 2) (n := 8000) (by decide) (by decide) ?_
                                    refine lv_istore_n (lv' := [(3, .int rz70), (4, .int l4), (2, .int l2), (0, .ref p0), (1, .int a1)]) hx hb d_S_run_38 rfl hl (by decide) rfl (fun ls hl => ?_)
                                    refine lv_iload_n hx hb d_S_run_39 rfl (lv_at hl 0 rfl) ?_
                                    refine lv_iconst (v := 1) hx hb d_S_run_40 (by decide) ?_
                                    refine lv_icmp_gt (tgt := 47) hx hb d_S_run_41 (by decide) (fun c71 => ?_) (fun c71 => ?_)
                                    · obtain ⟨v72, hv72⟩ : ∃ y : Int32, y = (l4 + (1 : Int32)) := ⟨_, rfl⟩
                                      refine lv_iinc (v := v72) (lv' := [(4, .int v72), (3, .int rz70), (2, .int l2), (0, .ref p0), (1, .int a1)]) hx hb d_S_run_47 hl (k := 1) rfl (by rw [hv72]; rfl) (by decide) rfl (fun ls hl => ?_)
                                      refine lv_goto (tgt := 21) hx hb d_S_run_50 (by decide) ?_
                                      refine lv_iload hx hb d_S_run_21 (lv_at hl 0 rfl) ?_
                                      refine lv_iload_n hx hb d_S_run_23 rfl (lv_at hl 4 rfl) ?_
                                      refine lv_icmp_ge (tgt := 53) hx hb d_S_run_24 (by decide) (fun c73 => ?_) (fun c73 => ?_)
                                      · refine lv_aload_n hx hb d_S_run_53 rfl (lv_at hl 3 rfl) ?_
                                        refine va_get (D := D) (ci := 0) (v := .ref m0) (C := "SignMachine") (T := F_S) (N := 2) hx hb hk fi_S hown hK.1 hP 0 rfl rfl 0 (by decide) (hk _ k_210) (fun _ h9 => h9) rfl d_S_run_54 ?_
                                        refine lv_iload_n hx hb d_S_run_57 rfl (lv_at hl 1 rfl) ?_
                                        refine va_putN (D := D) (ci := 1) (v := .int rz70) (ty := .int) (C := "SignMachine$Machine") (T := F_M) (N := 14) hx hb hk fi_M ft_M ft_M_ok fn_M hown hK.1 hP hD hS 1 rfl rfl 8 (by decide) (va_Nw.use rfl (hK.2 _ n_175)) (fun _ h9 => h9) rfl (by decide +kernel) rfl rfl (Nat.le_of_ble_eq_true rfl) d_S_run_58 (fun H locs hP hD hS => ?_)
                                        have hP : va_P D classes ((wS54 cI cJ cZ cB p0 m0) ++ (wS57 cI cJ cZ cB m0 m1 m2 m3 m4 m5 Mx0_4 Mx0_5 Mx0_6z70 Mx0_7z70 rz70 Mx0_9z70 Mx0_10z70 Mx0_11z70 Mx0_12z70 Mx0_13z70 My1 My2 Mx3_0 Mx4_0z70 My5)) H := hP
                                        have hD : va_D A ((wS54 cI cJ cZ cB p0 m0) ++ (wS57 cI cJ cZ cB m0 m1 m2 m3 m4 m5 Mx0_4 Mx0_5 Mx0_6z70 Mx0_7z70 rz70 Mx0_9z70 Mx0_10z70 Mx0_11z70 Mx0_12z70 Mx0_13z70 My1 My2 Mx3_0 Mx4_0z70 My5)) := hD
                                        refine lv_iload_n hx hb d_S_run_61 rfl (lv_at hl 2 rfl) ?_
                                        exact W.iret (v := l2) hx hb hr (fun t ht hW => ⟨⟨l2, (0 : Int32), rfl, rfl, ⟨_, isC_1, (by show va_P D classes _ t.heap; rw [ht]; exact hP), hD⟩⟩, hS.F ht⟩) hS.2.2 d_S_run_62
                                      · refine lv_iload_n hx hb d_S_run_27 rfl (lv_at hl 1 rfl) ?_
                                        refine lv_if_ne (tgt := 53) hx hb d_S_run_28 (by decide) (fun c74 => ?_) (fun c74 => absurd c74 (show ¬ rz70 = (0 : Int32) from hzz70))
                                        refine lv_aload_n hx hb d_S_run_53 rfl (lv_at hl 3 rfl) ?_
                                        refine va_get (D := D) (ci := 0) (v := .ref m0) (C := "SignMachine") (T := F_S) (N := 2) hx hb hk fi_S hown hK.1 hP 0 rfl rfl 0 (by decide) (hk _ k_210) (fun _ h9 => h9) rfl d_S_run_54 ?_
                                        refine lv_iload_n hx hb d_S_run_57 rfl (lv_at hl 1 rfl) ?_
                                        refine va_putN (D := D) (ci := 1) (v := .int rz70) (ty := .int) (C := "SignMachine$Machine") (T := F_M) (N := 14) hx hb hk fi_M ft_M ft_M_ok fn_M hown hK.1 hP hD hS 1 rfl rfl 8 (by decide) (va_Nw.use rfl (hK.2 _ n_175)) (fun _ h9 => h9) rfl (by decide +kernel) rfl rfl (Nat.le_of_ble_eq_true rfl) d_S_run_58 (fun H locs hP hD hS => ?_)
                                        have hP : va_P D classes ((wS54 cI cJ cZ cB p0 m0) ++ (wS57 cI cJ cZ cB m0 m1 m2 m3 m4 m5 Mx0_4 Mx0_5 Mx0_6z70 Mx0_7z70 rz70 Mx0_9z70 Mx0_10z70 Mx0_11z70 Mx0_12z70 Mx0_13z70 My1 My2 Mx3_0 Mx4_0z70 My5)) H := hP
                                        have hD : va_D A ((wS54 cI cJ cZ cB p0 m0) ++ (wS57 cI cJ cZ cB m0 m1 m2 m3 m4 m5 Mx0_4 Mx0_5 Mx0_6z70 Mx0_7z70 rz70 Mx0_9z70 Mx0_10z70 Mx0_11z70 Mx0_12z70 Mx0_13z70 My1 My2 Mx3_0 Mx4_0z70 My5)) := hD
                                        refine lv_iload_n hx hb d_S_run_61 rfl (lv_at hl 2 rfl) ?_
                                        exact W.iret (v := l2) hx hb hr (fun t ht hW => ⟨⟨l2, (0 : Int32), rfl, rfl, ⟨_, isC_1, (by show va_P D classes _ t.heap; rw [ht]; exact hP), hD⟩⟩, hS.F ht⟩) hS.2.2 d_S_run_62
                                    · obtain ⟨v75, hv75⟩ : ∃ y : Int32, y = (l2 + (1 : Int32)) := ⟨_, rfl⟩
                                      refine lv_iinc (v := v75) (lv' := [(2, .int v75), (3, .int rz70), (4, .int l4), (0, .ref p0), (1, .int a1)]) hx hb d_S_run_44 hl (k := 2) rfl (by rw [hv75]; rfl) (by decide) rfl (fun ls hl => ?_)
                                      obtain ⟨v76, hv76⟩ : ∃ y : Int32, y = (l4 + (1 : Int32)) := ⟨_, rfl⟩
                                      refine lv_iinc (v := v76) (lv' := [(4, .int v76), (2, .int v75), (3, .int rz70), (0, .ref p0), (1, .int a1)]) hx hb d_S_run_47 hl (k := 2) rfl (by rw [hv76]; rfl) (by decide) rfl (fun ls hl => ?_)
                                      refine lv_goto (tgt := 21) hx hb d_S_run_50 (by decide) ?_
                                      refine lv_iload hx hb d_S_run_21 (lv_at hl 0 rfl) ?_
                                      refine lv_iload_n hx hb d_S_run_23 rfl (lv_at hl 4 rfl) ?_
                                      refine lv_icmp_ge (tgt := 53) hx hb d_S_run_24 (by decide) (fun c77 => ?_) (fun c77 => ?_)
                                      · refine lv_aload_n hx hb d_S_run_53 rfl (lv_at hl 3 rfl) ?_
                                        refine va_get (D := D) (ci := 0) (v := .ref m0) (C := "SignMachine") (T := F_S) (N := 2) hx hb hk fi_S hown hK.1 hP 0 rfl rfl 0 (by decide) (hk _ k_210) (fun _ h9 => h9) rfl d_S_run_54 ?_
                                        refine lv_iload_n hx hb d_S_run_57 rfl (lv_at hl 2 rfl) ?_
                                        refine va_putN (D := D) (ci := 1) (v := .int rz70) (ty := .int) (C := "SignMachine$Machine") (T := F_M) (N := 14) hx hb hk fi_M ft_M ft_M_ok fn_M hown hK.1 hP hD hS 1 rfl rfl 8 (by decide) (va_Nw.use rfl (hK.2 _ n_175)) (fun _ h9 => h9) rfl (by decide +kernel) rfl rfl (Nat.le_of_ble_eq_true rfl) d_S_run_58 (fun H locs hP hD hS => ?_)
                                        have hP : va_P D classes ((wS54 cI cJ cZ cB p0 m0) ++ (wS57 cI cJ cZ cB m0 m1 m2 m3 m4 m5 Mx0_4 Mx0_5 Mx0_6z70 Mx0_7z70 rz70 Mx0_9z70 Mx0_10z70 Mx0_11z70 Mx0_12z70 Mx0_13z70 My1 My2 Mx3_0 Mx4_0z70 My5)) H := hP
                                        have hD : va_D A ((wS54 cI cJ cZ cB p0 m0) ++ (wS57 cI cJ cZ cB m0 m1 m2 m3 m4 m5 Mx0_4 Mx0_5 Mx0_6z70 Mx0_7z70 rz70 Mx0_9z70 Mx0_10z70 Mx0_11z70 Mx0_12z70 Mx0_13z70 My1 My2 Mx3_0 Mx4_0z70 My5)) := hD
                                        refine lv_iload_n hx hb d_S_run_61 rfl (lv_at hl 1 rfl) ?_
                                        exact W.iret (v := v75) hx hb hr (fun t ht hW => ⟨⟨v75, (0 : Int32), rfl, rfl, ⟨_, isC_1, (by show va_P D classes _ t.heap; rw [ht]; exact hP), hD⟩⟩, hS.F ht⟩) hS.2.2 d_S_run_62
                                      · refine lv_iload_n hx hb d_S_run_27 rfl (lv_at hl 2 rfl) ?_
                                        refine lv_if_ne (tgt := 53) hx hb d_S_run_28 (by decide) (fun c78 => ?_) (fun c78 => absurd c78 (show ¬ rz70 = (0 : Int32) from hzz70))
                                        refine lv_aload_n hx hb d_S_run_53 rfl (lv_at hl 3 rfl) ?_
                                        refine va_get (D := D) (ci := 0) (v := .ref m0) (C := "SignMachine") (T := F_S) (N := 2) hx hb hk fi_S hown hK.1 hP 0 rfl rfl 0 (by decide) (hk _ k_210) (fun _ h9 => h9) rfl d_S_run_54 ?_
                                        refine lv_iload_n hx hb d_S_run_57 rfl (lv_at hl 2 rfl) ?_
                                        refine va_putN (D := D) (ci := 1) (v := .int rz70) (ty := .int) (C := "SignMachine$Machine") (T := F_M) (N := 14) hx hb hk fi_M ft_M ft_M_ok fn_M hown hK.1 hP hD hS 1 rfl rfl 8 (by decide) (va_Nw.use rfl (hK.2 _ n_175)) (fun _ h9 => h9) rfl (by decide +kernel) rfl rfl (Nat.le_of_ble_eq_true rfl) d_S_run_58 (fun H locs hP hD hS => ?_)
                                        have hP : va_P D classes ((wS54 cI cJ cZ cB p0 m0) ++ (wS57 cI cJ cZ cB m0 m1 m2 m3 m4 m5 Mx0_4 Mx0_5 Mx0_6z70 Mx0_7z70 rz70 Mx0_9z70 Mx0_10z70 Mx0_11z70 Mx0_12z70 Mx0_13z70 My1 My2 Mx3_0 Mx4_0z70 My5)) H := hP
                                        have hD : va_D A ((wS54 cI cJ cZ cB p0 m0) ++ (wS57 cI cJ cZ cB m0 m1 m2 m3 m4 m5 Mx0_4 Mx0_5 Mx0_6z70 Mx0_7z70 rz70 Mx0_9z70 Mx0_10z70 Mx0_11z70 Mx0_12z70 Mx0_13z70 My1 My2 Mx3_0 Mx4_0z70 My5)) := hD
                                        refine lv_iload_n hx hb d_S_run_61 rfl (lv_at hl 1 rfl) ?_
                                        exact W.iret (v := v75) hx hb hr (fun t ht hW => ⟨⟨v75, (0 : Int32), rfl, rfl, ⟨_, isC_1, (by show va_P D classes _ t.heap; rw [ht]; exact hP), hD⟩⟩, hS.F ht⟩) hS.2.2 d_S_run_62
                                  · rw [ht] at hP1
                                    obtain ⟨hP, hD⟩ := va_join (wr := (wS54 cI cJ cZ cB p0 m0)) (w1 := (wS60 cI cJ cZ cB m0 m1 m2 m3 m4 m5 m6 Mx0_4 Mx0_5 Mx0_6z70 Mx0_7z70 Mx0_8 Mx0_9z70 Mx0_10z70 Mx0_11z70 Mx0_12z70 Mx0_13z70 My1 My2 Mx3_0 Mx4_0z70 My5 My6z70)) hP hD [1, 2, 3, 4, 5, 6] [0] rfl rfl (by decide) (by decide) hkq hFc hP1 hD1
                                    have hP := hP.sub (ws' := ((wS54 cI cJ cZ cB p0 m0) ++ (wS60 cI cJ cZ cB m0 m1 m2 m3 m4 m5 m6 Mx0_4 Mx0_5 Mx0_6z70 Mx0_7z70 Mx0_8 Mx0_9z70 Mx0_10z70 Mx0_11z70 Mx0_12z70 Mx0_13z70 My1 My2 Mx3_0 Mx4_0z70 My5 My6z70))) [0, 1, 2, 3, 4, 5, 6, 7] rfl
                                    have hD := hD.sub (ws' := ((wS54 cI cJ cZ cB p0 m0) ++ (wS60 cI cJ cZ cB m0 m1 m2 m3 m4 m5 m6 Mx0_4 Mx0_5 Mx0_6z70 Mx0_7z70 Mx0_8 Mx0_9z70 Mx0_10z70 Mx0_11z70 Mx0_12z70 Mx0_13z70 My1 My2 Mx3_0 Mx4_0z70 My5 My6z70))) [0, 1, 2, 3, 4, 5, 6, 7] (by decide) rfl
                                    have hP : va_P D classes ((wS54 cI cJ cZ cB p0 m0) ++ (wS60 cI cJ cZ cB m0 m1 m2 m3 m4 m5 m6 Mx0_4 Mx0_5 Mx0_6z70 Mx0_7z70 Mx0_8 Mx0_9z70 Mx0_10z70 Mx0_11z70 Mx0_12z70 Mx0_13z70 My1 My2 Mx3_0 Mx4_0z70 My5 My6z70)) H := hP
                                    have hD : va_D A ((wS54 cI cJ cZ cB p0 m0) ++ (wS60 cI cJ cZ cB m0 m1 m2 m3 m4 m5 m6 Mx0_4 Mx0_5 Mx0_6z70 Mx0_7z70 Mx0_8 Mx0_9z70 Mx0_10z70 Mx0_11z70 Mx0_12z70 Mx0_13z70 My1 My2 Mx3_0 Mx4_0z70 My5 My6z70)) := hD
                                    clear hPc hDc hFc
                                    refine W.widen (k := 2) (n := 8000) (by decide) (by decide) ?_
                                    refine lv_istore_n (lv' := [(3, .int rz70), (4, .int l4), (2, .int l2), (0, .ref p0), (1, .int a1)]) hx hb d_S_run_38 rfl hl (by decide) rfl (fun ls hl => ?_)
                                    refine lv_iload_n hx hb d_S_run_39 rfl (lv_at hl 0 rfl) ?_
                                    refine lv_iconst (v := 1) hx hb d_S_run_40 (by decide) ?_
                                    refine lv_icmp_gt (tgt := 47) hx hb d_S_run_41 (by decide) (fun c79 => ?_) (fun c79 => ?_)
                                    · obtain ⟨v80, hv80⟩ : ∃ y : Int32, y = (l4 + (1 : Int32)) := ⟨_, rfl⟩
                                      refine lv_iinc (v := v80) (lv' := [(4, .int v80), (3, .int rz70), (2, .int l2), (0, .ref p0), (1, .int a1)]) hx hb d_S_run_47 hl (k := 1) rfl (by rw [hv80]; rfl) (by decide) rfl (fun ls hl => ?_)
                                      refine lv_goto (tgt := 21) hx hb d_S_run_50 (by decide) ?_
                                      have LP21_x3 : ∀ (n : Nat) (l4 : Int32) (l3 : Int32) (l2 : Int32) (Mx0_4 : Bool) (Mx0_5 : Int32) (Mx0_6 : Int32) (Mx0_7 : Int32) (Mx0_8 : Int32) (Mx0_9 : Int32) (Mx0_10 : Int32) (Mx0_11 : Int32) (Mx0_12 : Int32) (Mx0_13 : Int32) (My1 : Nat → Int32) (My2 : Nat → Int32) (Mx3_0 : Int32) (Mx4_0 : Int32) (My5 : Nat → Int32) (My6 : Nat → Int32) (H : Heap) (locs : List Loc) (ls : Array Slot), ((a1).toInt - (l4).toInt).toNat < n → ¬ l4 < (0 : Int32) → va_P D classes ((wS54 cI cJ cZ cB p0 m0) ++ (wS60 cI cJ cZ cB m0 m1 m2 m3 m4 m5 m6 Mx0_4 Mx0_5 Mx0_6 Mx0_7 Mx0_8 Mx0_9 Mx0_10 Mx0_11 Mx0_12 Mx0_13 My1 My2 Mx3_0 Mx4_0 My5 My6)) H → va_D A ((wS54 cI cJ cZ cB p0 m0) ++ (wS60 cI cJ cZ cB m0 m1 m2 m3 m4 m5 m6 Mx0_4 Mx0_5 Mx0_6 Mx0_7 Mx0_8 Mx0_9 Mx0_10 Mx0_11 Mx0_12 Mx0_13 My1 My2 Mx3_0 Mx4_0 My5 My6)) → va_S A s.heap H locs → lv_has ls 5 [(4, .int l4), (3, .int l3), (2, .int l2), (0, .ref p0), (1, .int a1)] → W p l e ({ frames := 7, cells := 2, slots := 8000, locals := 151 }) s m [.ref p0, .int a1].toArray below meth c H locs 2 8000 (MQ below (va_Qi (fun r (uL : Int32) => uL = (0 : Int32)) (fun uL t => ∃ W9 : va_W, isC K cI cJ cZ cB p0 uL W9 ∧ va_P D classes W9 t.heap ∧ va_D A W9) A) [.ref p0, .int a1].toArray s 2 8000 A) (F0 m 21 ls []) := by
                                        intro n
                                        induction n with
                                        | zero => intro l4 l3 l2 Mx0_4 Mx0_5 Mx0_6 Mx0_7 Mx0_8 Mx0_9 Mx0_10 Mx0_11 Mx0_12 Mx0_13 My1 My2 Mx3_0 Mx4_0 My5 My6 H locs ls hn; exact absurd hn (Nat.not_lt_zero _)
                                        | succ n ih =>
                                          intro l4 l3 l2 Mx0_4 Mx0_5 Mx0_6 Mx0_7 Mx0_8 Mx0_9 Mx0_10 Mx0_11 Mx0_12 Mx0_13 My1 My2 Mx3_0 Mx4_0 My5 My6 H locs ls hn21_x3 hc21_x3 hP hD hS hl
                                          refine lv_iload hx hb d_S_run_21 (lv_at hl 0 rfl) ?_
                                          refine lv_iload_n hx hb d_S_run_23 rfl (lv_at hl 4 rfl) ?_
                                          refine lv_icmp_ge (tgt := 53) hx hb d_S_run_24 (by decide) (fun c81 => ?_) (fun c81 => ?_)
                                          · refine lv_aload_n hx hb d_S_run_53 rfl (lv_at hl 3 rfl) ?_
                                            refine va_get (D := D) (ci := 0) (v := .ref m0) (C := "SignMachine") (T := F_S) (N := 2) hx hb hk fi_S hown hK.1 hP 0 rfl rfl 0 (by decide) (hk _ k_210) (fun _ h9 => h9) rfl d_S_run_54 ?_
                                            refine lv_iload_n hx hb d_S_run_57 rfl (lv_at hl 1 rfl) ?_
                                            refine va_putN (D := D) (ci := 1) (v := .int l3) (ty := .int) (C := "SignMachine$Machine") (T := F_M) (N := 14) hx hb hk fi_M ft_M ft_M_ok fn_M hown hK.1 hP hD hS 1 rfl rfl 8 (by decide) (va_Nw.use rfl (hK.2 _ n_175)) (fun _ h9 => h9) rfl (by decide +kernel) rfl rfl (Nat.le_of_ble_eq_true rfl) d_S_run_58 (fun H locs hP hD hS => ?_)
                                            have hP : va_P D classes ((wS54 cI cJ cZ cB p0 m0) ++ (wS60 cI cJ cZ cB m0 m1 m2 m3 m4 m5 m6 Mx0_4 Mx0_5 Mx0_6 Mx0_7 l3 Mx0_9 Mx0_10 Mx0_11 Mx0_12 Mx0_13 My1 My2 Mx3_0 Mx4_0 My5 My6)) H := hP
                                            have hD : va_D A ((wS54 cI cJ cZ cB p0 m0) ++ (wS60 cI cJ cZ cB m0 m1 m2 m3 m4 m5 m6 Mx0_4 Mx0_5 Mx0_6 Mx0_7 l3 Mx0_9 Mx0_10 Mx0_11 Mx0_12 Mx0_13 My1 My2 Mx3_0 Mx4_0 My5 My6)) := hD
                                            refine lv_iload_n hx hb d_S_run_61 rfl (lv_at hl 2 rfl) ?_
                                            exact W.iret (v := l2) hx hb hr (fun t ht hW => ⟨⟨l2, (0 : Int32), rfl, rfl, ⟨_, isC_3, (by show va_P D classes _ t.heap; rw [ht]; exact hP), hD⟩⟩, hS.F ht⟩) hS.2.2 d_S_run_62
                                          · refine lv_iload_n hx hb d_S_run_27 rfl (lv_at hl 1 rfl) ?_
                                            refine lv_if_ne (tgt := 53) hx hb d_S_run_28 (by decide) (fun c82 => ?_) (fun c82 => ?_)
                                            · refine lv_aload_n hx hb d_S_run_53 rfl (lv_at hl 3 rfl) ?_
                                              refine va_get (D := D) (ci := 0) (v := .ref m0) (C := "SignMachine") (T := F_S) (N := 2) hx hb hk fi_S hown hK.1 hP 0 rfl rfl 0 (by decide) (hk _ k_210) (fun _ h9 => h9) rfl d_S_run_54 ?_
                                              refine lv_iload_n hx hb d_S_run_57 rfl (lv_at hl 1 rfl) ?_
                                              refine va_putN (D := D) (ci := 1) (v := .int l3) (ty := .int) (C := "SignMachine$Machine") (T := F_M) (N := 14) hx hb hk fi_M ft_M ft_M_ok fn_M hown hK.1 hP hD hS 1 rfl rfl 8 (by decide) (va_Nw.use rfl (hK.2 _ n_175)) (fun _ h9 => h9) rfl (by decide +kernel) rfl rfl (Nat.le_of_ble_eq_true rfl) d_S_run_58 (fun H locs hP hD hS => ?_)
                                              have hP : va_P D classes ((wS54 cI cJ cZ cB p0 m0) ++ (wS60 cI cJ cZ cB m0 m1 m2 m3 m4 m5 m6 Mx0_4 Mx0_5 Mx0_6 Mx0_7 l3 Mx0_9 Mx0_10 Mx0_11 Mx0_12 Mx0_13 My1 My2 Mx3_0 Mx4_0 My5 My6)) H := hP
                                              have hD : va_D A ((wS54 cI cJ cZ cB p0 m0) ++ (wS60 cI cJ cZ cB m0 m1 m2 m3 m4 m5 m6 Mx0_4 Mx0_5 Mx0_6 Mx0_7 l3 Mx0_9 Mx0_10 Mx0_11 Mx0_12 Mx0_13 My1 My2 Mx3_0 Mx4_0 My5 My6)) := hD
                                              refine lv_iload_n hx hb d_S_run_61 rfl (lv_at hl 2 rfl) ?_
                                              exact W.iret (v := l2) hx hb hr (fun t ht hW => ⟨⟨l2, (0 : Int32), rfl, rfl, ⟨_, isC_3, (by show va_P D classes _ t.heap; rw [ht]; exact hP), hD⟩⟩, hS.F ht⟩) hS.2.2 d_S_run_62
                                            · refine lv_aload_n hx hb d_S_run_31 rfl (lv_at hl 3 rfl) ?_
                                              refine va_get (D := D) (ci := 0) (v := .ref m0) (C := "SignMachine") (T := F_S) (N := 2) hx hb hk fi_S hown hK.1 hP 0 rfl rfl 0 (by decide) (hk _ k_210) (fun _ h9 => h9) rfl d_S_run_32 ?_
                                              have hPc := hP.sub (ws' := (wS60 cI cJ cZ cB m0 m1 m2 m3 m4 m5 m6 Mx0_4 Mx0_5 Mx0_6 Mx0_7 Mx0_8 Mx0_9 Mx0_10 Mx0_11 Mx0_12 Mx0_13 My1 My2 Mx3_0 Mx4_0 My5 My6)) [1, 2, 3, 4, 5, 6, 7] rfl
                                              have hDc := hD.sub (ws' := (wS60 cI cJ cZ cB m0 m1 m2 m3 m4 m5 m6 Mx0_4 Mx0_5 Mx0_6 Mx0_7 Mx0_8 Mx0_9 Mx0_10 Mx0_11 Mx0_12 Mx0_13 My1 My2 Mx3_0 Mx4_0 My5 My6)) [1, 2, 3, 4, 5, 6, 7] (by decide) rfl
                                              have hFc := va_free (wc := (wS60 cI cJ cZ cB m0 m1 m2 m3 m4 m5 m6 Mx0_4 Mx0_5 Mx0_6 Mx0_7 Mx0_8 Mx0_9 Mx0_10 Mx0_11 Mx0_12 Mx0_13 My1 My2 Mx3_0 Mx4_0 My5 My6)) hD hS hA [1, 2, 3, 4, 5, 6, 7] rfl
                                              refine va_calli (va_runV (C := "SignMachine$Machine") (As := []) (rest := []) ⟨hx, hb, hml, hown, hk⟩ (c_M_execute_s6 l K D cI cJ cZ cB m0 m1 m2 m3 m4 m5 m6 H.size Mx0_4 Mx0_5 Mx0_6 Mx0_7 Mx0_8 Mx0_9 Mx0_10 Mx0_11 Mx0_12 Mx0_13 My1 My2 Mx3_0 Mx4_0 My5 My6  ) (v_M_execute_s6 hk k_258 ⟨Nat.le_of_ble_eq_true rfl, Nat.le_of_ble_eq_true rfl⟩) (pMC_v hK hPc hDc hC hS hA (ci := 1) (q0 := 0) rfl rfl rfl) rfl rfl hl.1 rfl (lv_room (Nat.le_of_ble_eq_true rfl)) d_S_run_35 ⟨by decide, by decide⟩) hS (fun q _ h => hFc q h) hFc (fun rz83 u t H locs ht hvm hr0 hB hzq hkq hS => ?_)
                                              obtain ⟨Mx0_4z83, Mx0_5z83, Mx0_6z83, Mx0_7z83, Mx0_9z83, Mx0_10z83, Mx0_11z83, Mx0_12z83, Mx0_13z83, My1z83, My2z83, Mx3_0z83, Mx4_0z83, My5z83, My6z83, hP1, hD1⟩ := hB
                                              rw [ht] at hP1
                                              obtain ⟨hP, hD⟩ := va_join (wr := (wS54 cI cJ cZ cB p0 m0)) (w1 := (wS60 cI cJ cZ cB m0 m1 m2 m3 m4 m5 m6 Mx0_4z83 Mx0_5z83 Mx0_6z83 Mx0_7z83 Mx0_8 Mx0_9z83 Mx0_10z83 Mx0_11z83 Mx0_12z83 Mx0_13z83 My1z83 My2z83 Mx3_0z83 Mx4_0z83 My5z83 My6z83)) hP hD [1, 2, 3, 4, 5, 6, 7] [0] rfl rfl (by decide) (by decide) hkq hFc hP1 hD1
                                              have hP := hP.sub (ws' := ((wS54 cI cJ cZ cB p0 m0) ++ (wS60 cI cJ cZ cB m0 m1 m2 m3 m4 m5 m6 Mx0_4z83 Mx0_5z83 Mx0_6z83 Mx0_7z83 Mx0_8 Mx0_9z83 Mx0_10z83 Mx0_11z83 Mx0_12z83 Mx0_13z83 My1z83 My2z83 Mx3_0z83 Mx4_0z83 My5z83 My6z83))) [0, 1, 2, 3, 4, 5, 6, 7] rfl
                                              have hD := hD.sub (ws' := ((wS54 cI cJ cZ cB p0 m0) ++ (wS60 cI cJ cZ cB m0 m1 m2 m3 m4 m5 m6 Mx0_4z83 Mx0_5z83 Mx0_6z83 Mx0_7z83 Mx0_8 Mx0_9z83 Mx0_10z83 Mx0_11z83 Mx0_12z83 Mx0_13z83 My1z83 My2z83 Mx3_0z83 Mx4_0z83 My5z83 My6z83))) [0, 1, 2, 3, 4, 5, 6, 7] (by decide) rfl
                                              have hP : va_P D classes ((wS54 cI cJ cZ cB p0 m0) ++ (wS60 cI cJ cZ cB m0 m1 m2 m3 m4 m5 m6 Mx0_4z83 Mx0_5z83 Mx0_6z83 Mx0_7z83 Mx0_8 Mx0_9z83 Mx0_10z83 Mx0_11z83 Mx0_12z83 Mx0_13z83 My1z83 My2z83 Mx3_0z83 Mx4_0z83 My5z83 My6z83)) H := hP
                                              have hD : va_D A ((wS54 cI cJ cZ cB p0 m0) ++ (wS60 cI cJ cZ cB m0 m1 m2 m3 m4 m5 m6 Mx0_4z83 Mx0_5z83 Mx0_6z83 Mx0_7z83 Mx0_8 Mx0_9z83 Mx0_10z83 Mx0_11z83 Mx0_12z83 Mx0_13z83 My1z83 My2z83 Mx3_0z83 Mx4_0z83 My5z83 My6z83)) := hD
                                              clear hPc hDc hFc
                                              refine lv_istore_n (lv' := [(3, .int rz83), (4, .int l4), (2, .int l2), (0, .ref p0), (1, .int a1)]) hx hb d_S_run_38 rfl hl (by decide) rfl (fun ls hl => ?_)
                                              refine lv_iload_n hx hb d_S_run_39 rfl (lv_at hl 0 rfl) ?_
                                              refine lv_iconst (v := 1) hx hb d_S_run_40 (by decide) ?_
                                              refine lv_icmp_gt (tgt := 47) hx hb d_S_run_41 (by decide) (fun c84 => ?_) (fun c84 => ?_)
                                              · obtain ⟨v85, hv85⟩ : ∃ y : Int32, y = (l4 + (1 : Int32)) := ⟨_, rfl⟩
                                                refine lv_iinc (v := v85) (lv' := [(4, .int v85), (3, .int rz83), (2, .int l2), (0, .ref p0), (1, .int a1)]) hx hb d_S_run_47 hl (k := 1) rfl (by rw [hv85]; rfl) (by decide) rfl (fun ls hl => ?_)
                                                refine lv_goto (tgt := 21) hx hb d_S_run_50 (by decide) ?_
                                                exact ih v85 rz83 l2 Mx0_4z83 Mx0_5z83 Mx0_6z83 Mx0_7z83 Mx0_8 Mx0_9z83 Mx0_10z83 Mx0_11z83 Mx0_12z83 Mx0_13z83 My1z83 My2z83 Mx3_0z83 Mx4_0z83 My5z83 My6z83 H _ ls (lpu c81 hv85 hn21_x3) (lpn hc21_x3 c81 hv85) hP hD hS (lv_sub hl [0, 1, 2, 3, 4] rfl)
                                              · obtain ⟨v86, hv86⟩ : ∃ y : Int32, y = (l2 + (1 : Int32)) := ⟨_, rfl⟩
                                                refine lv_iinc (v := v86) (lv' := [(2, .int v86), (3, .int rz83), (4, .int l4), (0, .ref p0), (1, .int a1)]) hx hb d_S_run_44 hl (k := 2) rfl (by rw [hv86]; rfl) (by decide) rfl (fun ls hl => ?_)
                                                obtain ⟨v87, hv87⟩ : ∃ y : Int32, y = (l4 + (1 : Int32)) := ⟨_, rfl⟩
                                                refine lv_iinc (v := v87) (lv' := [(4, .int v87), (2, .int v86), (3, .int rz83), (0, .ref p0), (1, .int a1)]) hx hb d_S_run_47 hl (k := 2) rfl (by rw [hv87]; rfl) (by decide) rfl (fun ls hl => ?_)
                                                refine lv_goto (tgt := 21) hx hb d_S_run_50 (by decide) ?_
                                                exact ih v87 rz83 v86 Mx0_4z83 Mx0_5z83 Mx0_6z83 Mx0_7z83 Mx0_8 Mx0_9z83 Mx0_10z83 Mx0_11z83 Mx0_12z83 Mx0_13z83 My1z83 My2z83 Mx3_0z83 Mx4_0z83 My5z83 My6z83 H _ ls (lpu c81 hv87 hn21_x3) (lpn hc21_x3 c81 hv87) hP hD hS (lv_sub hl [0, 2, 1, 3, 4] rfl)
                                      exact LP21_x3 _ v80 rz70 l2 Mx0_4 Mx0_5 Mx0_6z70 Mx0_7z70 Mx0_8 Mx0_9z70 Mx0_10z70 Mx0_11z70 Mx0_12z70 Mx0_13z70 My1 My2 Mx3_0 Mx4_0z70 My5 My6z70 H _ ls (Nat.lt_succ_self _) (lpn hc21_x1 c61 hv80) hP hD hS hl
                                    · obtain ⟨v88, hv88⟩ : ∃ y : Int32, y = (l2 + (1 : Int32)) := ⟨_, rfl⟩
                                      refine lv_iinc (v := v88) (lv' := [(2, .int v88), (3, .int rz70), (4, .int l4), (0, .ref p0), (1, .int a1)]) hx hb d_S_run_44 hl (k := 2) rfl (by rw [hv88]; rfl) (by decide) rfl (fun ls hl => ?_)
                                      obtain ⟨v89, hv89⟩ : ∃ y : Int32, y = (l4 + (1 : Int32)) := ⟨_, rfl⟩
                                      refine lv_iinc (v := v89) (lv' := [(4, .int v89), (2, .int v88), (3, .int rz70), (0, .ref p0), (1, .int a1)]) hx hb d_S_run_47 hl (k := 2) rfl (by rw [hv89]; rfl) (by decide) rfl (fun ls hl => ?_)
                                      refine lv_goto (tgt := 21) hx hb d_S_run_50 (by decide) ?_
                                      have LP21_x3 : ∀ (n : Nat) (l4 : Int32) (l2 : Int32) (l3 : Int32) (Mx0_4 : Bool) (Mx0_5 : Int32) (Mx0_6 : Int32) (Mx0_7 : Int32) (Mx0_8 : Int32) (Mx0_9 : Int32) (Mx0_10 : Int32) (Mx0_11 : Int32) (Mx0_12 : Int32) (Mx0_13 : Int32) (My1 : Nat → Int32) (My2 : Nat → Int32) (Mx3_0 : Int32) (Mx4_0 : Int32) (My5 : Nat → Int32) (My6 : Nat → Int32) (H : Heap) (locs : List Loc) (ls : Array Slot), ((a1).toInt - (l4).toInt).toNat < n → ¬ l4 < (0 : Int32) → va_P D classes ((wS54 cI cJ cZ cB p0 m0) ++ (wS60 cI cJ cZ cB m0 m1 m2 m3 m4 m5 m6 Mx0_4 Mx0_5 Mx0_6 Mx0_7 Mx0_8 Mx0_9 Mx0_10 Mx0_11 Mx0_12 Mx0_13 My1 My2 Mx3_0 Mx4_0 My5 My6)) H → va_D A ((wS54 cI cJ cZ cB p0 m0) ++ (wS60 cI cJ cZ cB m0 m1 m2 m3 m4 m5 m6 Mx0_4 Mx0_5 Mx0_6 Mx0_7 Mx0_8 Mx0_9 Mx0_10 Mx0_11 Mx0_12 Mx0_13 My1 My2 Mx3_0 Mx4_0 My5 My6)) → va_S A s.heap H locs → lv_has ls 5 [(4, .int l4), (2, .int l2), (3, .int l3), (0, .ref p0), (1, .int a1)] → W p l e ({ frames := 7, cells := 2, slots := 8000, locals := 151 }) s m [.ref p0, .int a1].toArray below meth c H locs 2 8000 (MQ below (va_Qi (fun r (uL : Int32) => uL = (0 : Int32)) (fun uL t => ∃ W9 : va_W, isC K cI cJ cZ cB p0 uL W9 ∧ va_P D classes W9 t.heap ∧ va_D A W9) A) [.ref p0, .int a1].toArray s 2 8000 A) (F0 m 21 ls []) := by
                                        intro n
                                        induction n with
                                        | zero => intro l4 l2 l3 Mx0_4 Mx0_5 Mx0_6 Mx0_7 Mx0_8 Mx0_9 Mx0_10 Mx0_11 Mx0_12 Mx0_13 My1 My2 Mx3_0 Mx4_0 My5 My6 H locs ls hn; exact absurd hn (Nat.not_lt_zero _)
                                        | succ n ih =>
                                          intro l4 l2 l3 Mx0_4 Mx0_5 Mx0_6 Mx0_7 Mx0_8 Mx0_9 Mx0_10 Mx0_11 Mx0_12 Mx0_13 My1 My2 Mx3_0 Mx4_0 My5 My6 H locs ls hn21_x3 hc21_x3 hP hD hS hl
                                          refine lv_iload hx hb d_S_run_21 (lv_at hl 0 rfl) ?_
                                          refine lv_iload_n hx hb d_S_run_23 rfl (lv_at hl 4 rfl) ?_
                                          refine lv_icmp_ge (tgt := 53) hx hb d_S_run_24 (by decide) (fun c90 => ?_) (fun c90 => ?_)
                                          · refine lv_aload_n hx hb d_S_run_53 rfl (lv_at hl 3 rfl) ?_
                                            refine va_get (D := D) (ci := 0) (v := .ref m0) (C := "SignMachine") (T := F_S) (N := 2) hx hb hk fi_S hown hK.1 hP 0 rfl rfl 0 (by decide) (hk _ k_210) (fun _ h9 => h9) rfl d_S_run_54 ?_
                                            refine lv_iload_n hx hb d_S_run_57 rfl (lv_at hl 2 rfl) ?_
                                            refine va_putN (D := D) (ci := 1) (v := .int l3) (ty := .int) (C := "SignMachine$Machine") (T := F_M) (N := 14) hx hb hk fi_M ft_M ft_M_ok fn_M hown hK.1 hP hD hS 1 rfl rfl 8 (by decide) (va_Nw.use rfl (hK.2 _ n_175)) (fun _ h9 => h9) rfl (by decide +kernel) rfl rfl (Nat.le_of_ble_eq_true rfl) d_S_run_58 (fun H locs hP hD hS => ?_)
                                            have hP : va_P D classes ((wS54 cI cJ cZ cB p0 m0) ++ (wS60 cI cJ cZ cB m0 m1 m2 m3 m4 m5 m6 Mx0_4 Mx0_5 Mx0_6 Mx0_7 l3 Mx0_9 Mx0_10 Mx0_11 Mx0_12 Mx0_13 My1 My2 Mx3_0 Mx4_0 My5 My6)) H := hP
                                            have hD : va_D A ((wS54 cI cJ cZ cB p0 m0) ++ (wS60 cI cJ cZ cB m0 m1 m2 m3 m4 m5 m6 Mx0_4 Mx0_5 Mx0_6 Mx0_7 l3 Mx0_9 Mx0_10 Mx0_11 Mx0_12 Mx0_13 My1 My2 Mx3_0 Mx4_0 My5 My6)) := hD
                                            refine lv_iload_n hx hb d_S_run_61 rfl (lv_at hl 1 rfl) ?_
                                            exact W.iret (v := l2) hx hb hr (fun t ht hW => ⟨⟨l2, (0 : Int32), rfl, rfl, ⟨_, isC_3, (by show va_P D classes _ t.heap; rw [ht]; exact hP), hD⟩⟩, hS.F ht⟩) hS.2.2 d_S_run_62
                                          · refine lv_iload_n hx hb d_S_run_27 rfl (lv_at hl 2 rfl) ?_
                                            refine lv_if_ne (tgt := 53) hx hb d_S_run_28 (by decide) (fun c91 => ?_) (fun c91 => ?_)
                                            · refine lv_aload_n hx hb d_S_run_53 rfl (lv_at hl 3 rfl) ?_
                                              refine va_get (D := D) (ci := 0) (v := .ref m0) (C := "SignMachine") (T := F_S) (N := 2) hx hb hk fi_S hown hK.1 hP 0 rfl rfl 0 (by decide) (hk _ k_210) (fun _ h9 => h9) rfl d_S_run_54 ?_
                                              refine lv_iload_n hx hb d_S_run_57 rfl (lv_at hl 2 rfl) ?_
                                              refine va_putN (D := D) (ci := 1) (v := .int l3) (ty := .int) (C := "SignMachine$Machine") (T := F_M) (N := 14) hx hb hk fi_M ft_M ft_M_ok fn_M hown hK.1 hP hD hS 1 rfl rfl 8 (by decide) (va_Nw.use rfl (hK.2 _ n_175)) (fun _ h9 => h9) rfl (by decide +kernel) rfl rfl (Nat.le_of_ble_eq_true rfl) d_S_run_58 (fun H locs hP hD hS => ?_)
                                              have hP : va_P D classes ((wS54 cI cJ cZ cB p0 m0) ++ (wS60 cI cJ cZ cB m0 m1 m2 m3 m4 m5 m6 Mx0_4 Mx0_5 Mx0_6 Mx0_7 l3 Mx0_9 Mx0_10 Mx0_11 Mx0_12 Mx0_13 My1 My2 Mx3_0 Mx4_0 My5 My6)) H := hP
                                              have hD : va_D A ((wS54 cI cJ cZ cB p0 m0) ++ (wS60 cI cJ cZ cB m0 m1 m2 m3 m4 m5 m6 Mx0_4 Mx0_5 Mx0_6 Mx0_7 l3 Mx0_9 Mx0_10 Mx0_11 Mx0_12 Mx0_13 My1 My2 Mx3_0 Mx4_0 My5 My6)) := hD
                                              refine lv_iload_n hx hb d_S_run_61 rfl (lv_at hl 1 rfl) ?_
                                              exact W.iret (v := l2) hx hb hr (fun t ht hW => ⟨⟨l2, (0 : Int32), rfl, rfl, ⟨_, isC_3, (by show va_P D classes _ t.heap; rw [ht]; exact hP), hD⟩⟩, hS.F ht⟩) hS.2.2 d_S_run_62
                                            · refine lv_aload_n hx hb d_S_run_31 rfl (lv_at hl 3 rfl) ?_
                                              refine va_get (D := D) (ci := 0) (v := .ref m0) (C := "SignMachine") (T := F_S) (N := 2) hx hb hk fi_S hown hK.1 hP 0 rfl rfl 0 (by decide) (hk _ k_210) (fun _ h9 => h9) rfl d_S_run_32 ?_
                                              have hPc := hP.sub (ws' := (wS60 cI cJ cZ cB m0 m1 m2 m3 m4 m5 m6 Mx0_4 Mx0_5 Mx0_6 Mx0_7 Mx0_8 Mx0_9 Mx0_10 Mx0_11 Mx0_12 Mx0_13 My1 My2 Mx3_0 Mx4_0 My5 My6)) [1, 2, 3, 4, 5, 6, 7] rfl
                                              have hDc := hD.sub (ws' := (wS60 cI cJ cZ cB m0 m1 m2 m3 m4 m5 m6 Mx0_4 Mx0_5 Mx0_6 Mx0_7 Mx0_8 Mx0_9 Mx0_10 Mx0_11 Mx0_12 Mx0_13 My1 My2 Mx3_0 Mx4_0 My5 My6)) [1, 2, 3, 4, 5, 6, 7] (by decide) rfl
                                              have hFc := va_free (wc := (wS60 cI cJ cZ cB m0 m1 m2 m3 m4 m5 m6 Mx0_4 Mx0_5 Mx0_6 Mx0_7 Mx0_8 Mx0_9 Mx0_10 Mx0_11 Mx0_12 Mx0_13 My1 My2 Mx3_0 Mx4_0 My5 My6)) hD hS hA [1, 2, 3, 4, 5, 6, 7] rfl
                                              refine va_calli (va_runV (C := "SignMachine$Machine") (As := []) (rest := []) ⟨hx, hb, hml, hown, hk⟩ (c_M_execute_s6 l K D cI cJ cZ cB m0 m1 m2 m3 m4 m5 m6 H.size Mx0_4 Mx0_5 Mx0_6 Mx0_7 Mx0_8 Mx0_9 Mx0_10 Mx0_11 Mx0_12 Mx0_13 My1 My2 Mx3_0 Mx4_0 My5 My6  ) (v_M_execute_s6 hk k_258 ⟨Nat.le_of_ble_eq_true rfl, Nat.le_of_ble_eq_true rfl⟩) (pMC_v hK hPc hDc hC hS hA (ci := 1) (q0 := 0) rfl rfl rfl) rfl rfl hl.1 rfl (lv_room (Nat.le_of_ble_eq_true rfl)) d_S_run_35 ⟨by decide, by decide⟩) hS (fun q _ h => hFc q h) hFc (fun rz92 u t H locs ht hvm hr0 hB hzq hkq hS => ?_)
                                              obtain ⟨Mx0_4z92, Mx0_5z92, Mx0_6z92, Mx0_7z92, Mx0_9z92, Mx0_10z92, Mx0_11z92, Mx0_12z92, Mx0_13z92, My1z92, My2z92, Mx3_0z92, Mx4_0z92, My5z92, My6z92, hP1, hD1⟩ := hB
                                              rw [ht] at hP1
                                              obtain ⟨hP, hD⟩ := va_join (wr := (wS54 cI cJ cZ cB p0 m0)) (w1 := (wS60 cI cJ cZ cB m0 m1 m2 m3 m4 m5 m6 Mx0_4z92 Mx0_5z92 Mx0_6z92 Mx0_7z92 Mx0_8 Mx0_9z92 Mx0_10z92 Mx0_11z92 Mx0_12z92 Mx0_13z92 My1z92 My2z92 Mx3_0z92 Mx4_0z92 My5z92 My6z92)) hP hD [1, 2, 3, 4, 5, 6, 7] [0] rfl rfl (by decide) (by decide) hkq hFc hP1 hD1
                                              have hP := hP.sub (ws' := ((wS54 cI cJ cZ cB p0 m0) ++ (wS60 cI cJ cZ cB m0 m1 m2 m3 m4 m5 m6 Mx0_4z92 Mx0_5z92 Mx0_6z92 Mx0_7z92 Mx0_8 Mx0_9z92 Mx0_10z92 Mx0_11z92 Mx0_12z92 Mx0_13z92 My1z92 My2z92 Mx3_0z92 Mx4_0z92 My5z92 My6z92))) [0, 1, 2, 3, 4, 5, 6, 7] rfl
                                              have hD := hD.sub (ws' := ((wS54 cI cJ cZ cB p0 m0) ++ (wS60 cI cJ cZ cB m0 m1 m2 m3 m4 m5 m6 Mx0_4z92 Mx0_5z92 Mx0_6z92 Mx0_7z92 Mx0_8 Mx0_9z92 Mx0_10z92 Mx0_11z92 Mx0_12z92 Mx0_13z92 My1z92 My2z92 Mx3_0z92 Mx4_0z92 My5z92 My6z92))) [0, 1, 2, 3, 4, 5, 6, 7] (by decide) rfl
                                              have hP : va_P D classes ((wS54 cI cJ cZ cB p0 m0) ++ (wS60 cI cJ cZ cB m0 m1 m2 m3 m4 m5 m6 Mx0_4z92 Mx0_5z92 Mx0_6z92 Mx0_7z92 Mx0_8 Mx0_9z92 Mx0_10z92 Mx0_11z92 Mx0_12z92 Mx0_13z92 My1z92 My2z92 Mx3_0z92 Mx4_0z92 My5z92 My6z92)) H := hP
                                              have hD : va_D A ((wS54 cI cJ cZ cB p0 m0) ++ (wS60 cI cJ cZ cB m0 m1 m2 m3 m4 m5 m6 Mx0_4z92 Mx0_5z92 Mx0_6z92 Mx0_7z92 Mx0_8 Mx0_9z92 Mx0_10z92 Mx0_11z92 Mx0_12z92 Mx0_13z92 My1z92 My2z92 Mx3_0z92 Mx4_0z92 My5z92 My6z92)) := hD
                                              clear hPc hDc hFc
                                              refine lv_istore_n (lv' := [(3, .int rz92), (4, .int l4), (2, .int l2), (0, .ref p0), (1, .int a1)]) hx hb d_S_run_38 rfl hl (by decide) rfl (fun ls hl => ?_)
                                              refine lv_iload_n hx hb d_S_run_39 rfl (lv_at hl 0 rfl) ?_
                                              refine lv_iconst (v := 1) hx hb d_S_run_40 (by decide) ?_
                                              refine lv_icmp_gt (tgt := 47) hx hb d_S_run_41 (by decide) (fun c93 => ?_) (fun c93 => ?_)
                                              · obtain ⟨v94, hv94⟩ : ∃ y : Int32, y = (l4 + (1 : Int32)) := ⟨_, rfl⟩
                                                refine lv_iinc (v := v94) (lv' := [(4, .int v94), (3, .int rz92), (2, .int l2), (0, .ref p0), (1, .int a1)]) hx hb d_S_run_47 hl (k := 1) rfl (by rw [hv94]; rfl) (by decide) rfl (fun ls hl => ?_)
                                                refine lv_goto (tgt := 21) hx hb d_S_run_50 (by decide) ?_
                                                exact ih v94 l2 rz92 Mx0_4z92 Mx0_5z92 Mx0_6z92 Mx0_7z92 Mx0_8 Mx0_9z92 Mx0_10z92 Mx0_11z92 Mx0_12z92 Mx0_13z92 My1z92 My2z92 Mx3_0z92 Mx4_0z92 My5z92 My6z92 H _ ls (lpu c90 hv94 hn21_x3) (lpn hc21_x3 c90 hv94) hP hD hS (lv_sub hl [0, 2, 1, 3, 4] rfl)
                                              · obtain ⟨v95, hv95⟩ : ∃ y : Int32, y = (l2 + (1 : Int32)) := ⟨_, rfl⟩
                                                refine lv_iinc (v := v95) (lv' := [(2, .int v95), (3, .int rz92), (4, .int l4), (0, .ref p0), (1, .int a1)]) hx hb d_S_run_44 hl (k := 2) rfl (by rw [hv95]; rfl) (by decide) rfl (fun ls hl => ?_)
                                                obtain ⟨v96, hv96⟩ : ∃ y : Int32, y = (l4 + (1 : Int32)) := ⟨_, rfl⟩
                                                refine lv_iinc (v := v96) (lv' := [(4, .int v96), (2, .int v95), (3, .int rz92), (0, .ref p0), (1, .int a1)]) hx hb d_S_run_47 hl (k := 2) rfl (by rw [hv96]; rfl) (by decide) rfl (fun ls hl => ?_)
                                                refine lv_goto (tgt := 21) hx hb d_S_run_50 (by decide) ?_
                                                exact ih v96 v95 rz92 Mx0_4z92 Mx0_5z92 Mx0_6z92 Mx0_7z92 Mx0_8 Mx0_9z92 Mx0_10z92 Mx0_11z92 Mx0_12z92 Mx0_13z92 My1z92 My2z92 Mx3_0z92 Mx4_0z92 My5z92 My6z92 H _ ls (lpu c90 hv96 hn21_x3) (lpn hc21_x3 c90 hv96) hP hD hS (lv_sub hl [0, 1, 2, 3, 4] rfl)
                                      exact LP21_x3 _ v89 v88 rz70 Mx0_4 Mx0_5 Mx0_6z70 Mx0_7z70 Mx0_8 Mx0_9z70 Mx0_10z70 Mx0_11z70 Mx0_12z70 Mx0_13z70 My1 My2 Mx3_0 Mx4_0z70 My5 My6z70 H _ ls (Nat.lt_succ_self _) (lpn hc21_x1 c61 hv89) hP hD hS hl
                              · have hPc := hP.sub (ws' := (wS57 cI cJ cZ cB m0 m1 m2 m3 m4 m5 Mx0_4 Mx0_5 Mx0_6 Mx0_7 Mx0_8 Mx0_9 Mx0_10 Mx0_11 Mx0_12 Mx0_13 My1 My2 Mx3_0 Mx4_0 My5)) [1, 2, 3, 4, 5, 6] rfl
                                have hDc := hD.sub (ws' := (wS57 cI cJ cZ cB m0 m1 m2 m3 m4 m5 Mx0_4 Mx0_5 Mx0_6 Mx0_7 Mx0_8 Mx0_9 Mx0_10 Mx0_11 Mx0_12 Mx0_13 My1 My2 Mx3_0 Mx4_0 My5)) [1, 2, 3, 4, 5, 6] (by decide) rfl
                                have hFc := va_free (wc := (wS57 cI cJ cZ cB m0 m1 m2 m3 m4 m5 Mx0_4 Mx0_5 Mx0_6 Mx0_7 Mx0_8 Mx0_9 Mx0_10 Mx0_11 Mx0_12 Mx0_13 My1 My2 Mx3_0 Mx4_0 My5)) hD hS hA [1, 2, 3, 4, 5, 6] rfl
                                refine va_calli (va_runV (C := "SignMachine$Machine") (As := []) (rest := []) ⟨hx, hb, hml, hown, hk⟩ (c_M_execute_s7 l K D cI cJ cZ cB m0 m1 m2 m3 m4 m5 H.size Mx0_4 Mx0_5 Mx0_6 Mx0_7 Mx0_8 Mx0_9 Mx0_10 Mx0_11 Mx0_12 Mx0_13 My1 My2 Mx3_0 Mx4_0 My5  q63) (v_M_execute_s7 hk k_258 ⟨Nat.le_of_ble_eq_true rfl, Nat.le_of_ble_eq_true rfl⟩) (pMC_v hK hPc hDc hC hS hA (ci := 1) (q0 := 0) rfl rfl rfl) rfl rfl hl.1 rfl (lv_room (Nat.le_of_ble_eq_true rfl)) d_S_run_35 ⟨by decide, by decide⟩) hS (fun q _ h => hFc q h) hFc (fun rz97 u t H locs ht hvm hr0 hB hzq hkq hS => ?_)
                                obtain ⟨Mx0_4z97, Mx0_5z97, Mx0_6z97, Mx0_7z97, Mx0_9z97, Mx0_10z97, Mx0_11z97, Mx0_12z97, Mx0_13z97, My1z97, My2z97, Mx3_0z97, Mx4_0z97, hP1, hD1⟩ := hB
                                rw [ht] at hP1
                                obtain ⟨hP, hD⟩ := va_join (wr := (wS54 cI cJ cZ cB p0 m0)) (w1 := (wS57 cI cJ cZ cB m0 m1 m2 m3 m4 m5 Mx0_4z97 Mx0_5z97 Mx0_6z97 Mx0_7z97 Mx0_8 Mx0_9z97 Mx0_10z97 Mx0_11z97 Mx0_12z97 Mx0_13z97 My1z97 My2z97 Mx3_0z97 Mx4_0z97 My5)) hP hD [1, 2, 3, 4, 5, 6] [0] rfl rfl (by decide) (by decide) hkq hFc hP1 hD1
                                have hP := hP.sub (ws' := ((wS54 cI cJ cZ cB p0 m0) ++ (wS57 cI cJ cZ cB m0 m1 m2 m3 m4 m5 Mx0_4z97 Mx0_5z97 Mx0_6z97 Mx0_7z97 Mx0_8 Mx0_9z97 Mx0_10z97 Mx0_11z97 Mx0_12z97 Mx0_13z97 My1z97 My2z97 Mx3_0z97 Mx4_0z97 My5))) [0, 1, 2, 3, 4, 5, 6] rfl
                                have hD := hD.sub (ws' := ((wS54 cI cJ cZ cB p0 m0) ++ (wS57 cI cJ cZ cB m0 m1 m2 m3 m4 m5 Mx0_4z97 Mx0_5z97 Mx0_6z97 Mx0_7z97 Mx0_8 Mx0_9z97 Mx0_10z97 Mx0_11z97 Mx0_12z97 Mx0_13z97 My1z97 My2z97 Mx3_0z97 Mx4_0z97 My5))) [0, 1, 2, 3, 4, 5, 6] (by decide) rfl
                                have hP : va_P D classes ((wS54 cI cJ cZ cB p0 m0) ++ (wS57 cI cJ cZ cB m0 m1 m2 m3 m4 m5 Mx0_4z97 Mx0_5z97 Mx0_6z97 Mx0_7z97 Mx0_8 Mx0_9z97 Mx0_10z97 Mx0_11z97 Mx0_12z97 Mx0_13z97 My1z97 My2z97 Mx3_0z97 Mx4_0z97 My5)) H := hP
                                have hD : va_D A ((wS54 cI cJ cZ cB p0 m0) ++ (wS57 cI cJ cZ cB m0 m1 m2 m3 m4 m5 Mx0_4z97 Mx0_5z97 Mx0_6z97 Mx0_7z97 Mx0_8 Mx0_9z97 Mx0_10z97 Mx0_11z97 Mx0_12z97 Mx0_13z97 My1z97 My2z97 Mx3_0z97 Mx4_0z97 My5)) := hD
                                clear hPc hDc hFc
                                refine lv_istore_n (lv' := [(3, .int rz97), (4, .int l4), (2, .int l2), (0, .ref p0), (1, .int a1)]) hx hb d_S_run_38 rfl hl (by decide) rfl (fun ls hl => ?_)
                                refine lv_iload_n hx hb d_S_run_39 rfl (lv_at hl 0 rfl) ?_
                                refine lv_iconst (v := 1) hx hb d_S_run_40 (by decide) ?_
                                refine lv_icmp_gt (tgt := 47) hx hb d_S_run_41 (by decide) (fun c98 => ?_) (fun c98 => ?_)
                                · obtain ⟨v99, hv99⟩ : ∃ y : Int32, y = (l4 + (1 : Int32)) := ⟨_, rfl⟩
                                  refine lv_iinc (v := v99) (lv' := [(4, .int v99), (3, .int rz97), (2, .int l2), (0, .ref p0), (1, .int a1)]) hx hb d_S_run_47 hl (k := 1) rfl (by rw [hv99]; rfl) (by decide) rfl (fun ls hl => ?_)
                                  refine lv_goto (tgt := 21) hx hb d_S_run_50 (by decide) ?_
                                  exact ih v99 l2 rz97 Mx0_4z97 Mx0_5z97 Mx0_6z97 Mx0_7z97 Mx0_8 Mx0_9z97 Mx0_10z97 Mx0_11z97 Mx0_12z97 Mx0_13z97 My1z97 My2z97 Mx3_0z97 Mx4_0z97 My5 H _ ls (lpu c61 hv99 hn21_x1) (lpn hc21_x1 c61 hv99) hP hD hS (lv_sub hl [0, 2, 1, 3, 4] rfl)
                                · obtain ⟨v100, hv100⟩ : ∃ y : Int32, y = (l2 + (1 : Int32)) := ⟨_, rfl⟩
                                  refine lv_iinc (v := v100) (lv' := [(2, .int v100), (3, .int rz97), (4, .int l4), (0, .ref p0), (1, .int a1)]) hx hb d_S_run_44 hl (k := 2) rfl (by rw [hv100]; rfl) (by decide) rfl (fun ls hl => ?_)
                                  obtain ⟨v101, hv101⟩ : ∃ y : Int32, y = (l4 + (1 : Int32)) := ⟨_, rfl⟩
                                  refine lv_iinc (v := v101) (lv' := [(4, .int v101), (2, .int v100), (3, .int rz97), (0, .ref p0), (1, .int a1)]) hx hb d_S_run_47 hl (k := 2) rfl (by rw [hv101]; rfl) (by decide) rfl (fun ls hl => ?_)
                                  refine lv_goto (tgt := 21) hx hb d_S_run_50 (by decide) ?_
                                  exact ih v101 v100 rz97 Mx0_4z97 Mx0_5z97 Mx0_6z97 Mx0_7z97 Mx0_8 Mx0_9z97 Mx0_10z97 Mx0_11z97 Mx0_12z97 Mx0_13z97 My1z97 My2z97 Mx3_0z97 Mx4_0z97 My5 H _ ls (lpu c61 hv101 hn21_x1) (lpn hc21_x1 c61 hv101) hP hD hS (lv_sub hl [0, 1, 2, 3, 4] rfl)
                      exact LP21_x1 _ v60 v59 rz7 Mx0_4 Mx0_5 Mx0_6z7 Mx0_7z7 Mx0_8 Mx0_9z7 Mx0_10z7 Mx0_11z7 Mx0_12z7 Mx0_13z7 My1 My2 Mx3_0z7 Mx4_0 My5z7 H _ ls (Nat.lt_succ_self _) (lpn hc21_x0 c3 hv60) hP hD hS hl
                · have hPc := hP.sub (ws' := (wS51 cI cJ cZ cB m0 m1 m2 m3 m4 Mx0_4 Mx0_5 Mx0_6 Mx0_7 Mx0_8 Mx0_9 Mx0_10 Mx0_11 Mx0_12 Mx0_13 My1 My2 Mx3_0 Mx4_0)) [1, 2, 3, 4, 5] rfl
                  have hDc := hD.sub (ws' := (wS51 cI cJ cZ cB m0 m1 m2 m3 m4 Mx0_4 Mx0_5 Mx0_6 Mx0_7 Mx0_8 Mx0_9 Mx0_10 Mx0_11 Mx0_12 Mx0_13 My1 My2 Mx3_0 Mx4_0)) [1, 2, 3, 4, 5] (by decide) rfl
                  have hFc := va_free (wc := (wS51 cI cJ cZ cB m0 m1 m2 m3 m4 Mx0_4 Mx0_5 Mx0_6 Mx0_7 Mx0_8 Mx0_9 Mx0_10 Mx0_11 Mx0_12 Mx0_13 My1 My2 Mx3_0 Mx4_0)) hD hS hA [1, 2, 3, 4, 5] rfl
                  refine va_calli (va_runV (C := "SignMachine$Machine") (As := []) (rest := []) ⟨hx, hb, hml, hown, hk⟩ (c_M_execute_s2 l K D cI cJ cZ cB m0 m1 m2 m3 m4 H.size Mx0_4 Mx0_5 Mx0_6 Mx0_7 Mx0_8 Mx0_9 Mx0_10 Mx0_11 Mx0_12 Mx0_13 My1 My2 Mx3_0 Mx4_0  q5 q6) (v_M_execute_s2 hk k_258 ⟨Nat.le_of_ble_eq_true rfl, Nat.le_of_ble_eq_true rfl⟩) (pMC_v hK hPc hDc hC hS hA (ci := 1) (q0 := 0) rfl rfl rfl) rfl rfl hl.1 rfl (lv_room (Nat.le_of_ble_eq_true rfl)) d_S_run_35 ⟨by decide, by decide⟩) hS (fun q _ h => hFc q h) hFc (fun rz102 u t H locs ht hvm hr0 hB hzq hkq hS => ?_)
                  subst hr0
                  rcases hB with ⟨hzz102, Mx0_6z102, Mx0_7z102, Mx0_9z102, Mx0_10z102, Mx0_11z102, Mx0_12z102, Mx0_13z102, Mx4_0z102, hP1, hD1⟩ | ⟨m5, Mx0_6z102, Mx0_7z102, Mx0_9z102, Mx0_10z102, Mx0_11z102, Mx0_12z102, Mx0_13z102, Mx4_0z102, My5z102, hP1, hD1⟩
                  · rw [ht] at hP1
                    obtain ⟨hP, hD⟩ := va_join (wr := (wS54 cI cJ cZ cB p0 m0)) (w1 := (wS51 cI cJ cZ cB m0 m1 m2 m3 m4 Mx0_4 Mx0_5 Mx0_6z102 Mx0_7z102 Mx0_8 Mx0_9z102 Mx0_10z102 Mx0_11z102 Mx0_12z102 Mx0_13z102 My1 My2 Mx3_0 Mx4_0z102)) hP hD [1, 2, 3, 4, 5] [0] rfl rfl (by decide) (by decide) hkq hFc hP1 hD1
                    have hP := hP.sub (ws' := ((wS54 cI cJ cZ cB p0 m0) ++ (wS51 cI cJ cZ cB m0 m1 m2 m3 m4 Mx0_4 Mx0_5 Mx0_6z102 Mx0_7z102 Mx0_8 Mx0_9z102 Mx0_10z102 Mx0_11z102 Mx0_12z102 Mx0_13z102 My1 My2 Mx3_0 Mx4_0z102))) [0, 1, 2, 3, 4, 5] rfl
                    have hD := hD.sub (ws' := ((wS54 cI cJ cZ cB p0 m0) ++ (wS51 cI cJ cZ cB m0 m1 m2 m3 m4 Mx0_4 Mx0_5 Mx0_6z102 Mx0_7z102 Mx0_8 Mx0_9z102 Mx0_10z102 Mx0_11z102 Mx0_12z102 Mx0_13z102 My1 My2 Mx3_0 Mx4_0z102))) [0, 1, 2, 3, 4, 5] (by decide) rfl
                    have hP : va_P D classes ((wS54 cI cJ cZ cB p0 m0) ++ (wS51 cI cJ cZ cB m0 m1 m2 m3 m4 Mx0_4 Mx0_5 Mx0_6z102 Mx0_7z102 Mx0_8 Mx0_9z102 Mx0_10z102 Mx0_11z102 Mx0_12z102 Mx0_13z102 My1 My2 Mx3_0 Mx4_0z102)) H := hP
                    have hD : va_D A ((wS54 cI cJ cZ cB p0 m0) ++ (wS51 cI cJ cZ cB m0 m1 m2 m3 m4 Mx0_4 Mx0_5 Mx0_6z102 Mx0_7z102 Mx0_8 Mx0_9z102 Mx0_10z102 Mx0_11z102 Mx0_12z102 Mx0_13z102 My1 My2 Mx3_0 Mx4_0z102)) := hD
                    clear hPc hDc hFc
                    refine W.widen (k := 1) (n := 4000) (by decide) (by decide) ?_
                    refine lv_istore_n (lv' := [(3, .int rz102), (4, .int l4), (2, .int l2), (0, .ref p0), (1, .int a1)]) hx hb d_S_run_38 rfl hl (by decide) rfl (fun ls hl => ?_)
                    refine lv_iload_n hx hb d_S_run_39 rfl (lv_at hl 0 rfl) ?_
                    refine lv_iconst (v := 1) hx hb d_S_run_40 (by decide) ?_
                    refine lv_icmp_gt (tgt := 47) hx hb d_S_run_41 (by decide) (fun c103 => ?_) (fun c103 => ?_)
                    · obtain ⟨v104, hv104⟩ : ∃ y : Int32, y = (l4 + (1 : Int32)) := ⟨_, rfl⟩
                      refine lv_iinc (v := v104) (lv' := [(4, .int v104), (3, .int rz102), (2, .int l2), (0, .ref p0), (1, .int a1)]) hx hb d_S_run_47 hl (k := 1) rfl (by rw [hv104]; rfl) (by decide) rfl (fun ls hl => ?_)
                      refine lv_goto (tgt := 21) hx hb d_S_run_50 (by decide) ?_
                      refine lv_iload hx hb d_S_run_21 (lv_at hl 0 rfl) ?_
                      refine lv_iload_n hx hb d_S_run_23 rfl (lv_at hl 4 rfl) ?_
                      refine lv_icmp_ge (tgt := 53) hx hb d_S_run_24 (by decide) (fun c105 => ?_) (fun c105 => ?_)
                      · refine lv_aload_n hx hb d_S_run_53 rfl (lv_at hl 3 rfl) ?_
                        refine va_get (D := D) (ci := 0) (v := .ref m0) (C := "SignMachine") (T := F_S) (N := 2) hx hb hk fi_S hown hK.1 hP 0 rfl rfl 0 (by decide) (hk _ k_210) (fun _ h9 => h9) rfl d_S_run_54 ?_
                        refine lv_iload_n hx hb d_S_run_57 rfl (lv_at hl 1 rfl) ?_
                        refine va_putN (D := D) (ci := 1) (v := .int rz102) (ty := .int) (C := "SignMachine$Machine") (T := F_M) (N := 14) hx hb hk fi_M ft_M ft_M_ok fn_M hown hK.1 hP hD hS 1 rfl rfl 8 (by decide) (va_Nw.use rfl (hK.2 _ n_175)) (fun _ h9 => h9) rfl (by decide +kernel) rfl rfl (Nat.le_of_ble_eq_true rfl) d_S_run_58 (fun H locs hP hD hS => ?_)
                        have hP : va_P D classes ((wS54 cI cJ cZ cB p0 m0) ++ (wS51 cI cJ cZ cB m0 m1 m2 m3 m4 Mx0_4 Mx0_5 Mx0_6z102 Mx0_7z102 rz102 Mx0_9z102 Mx0_10z102 Mx0_11z102 Mx0_12z102 Mx0_13z102 My1 My2 Mx3_0 Mx4_0z102)) H := hP
                        have hD : va_D A ((wS54 cI cJ cZ cB p0 m0) ++ (wS51 cI cJ cZ cB m0 m1 m2 m3 m4 Mx0_4 Mx0_5 Mx0_6z102 Mx0_7z102 rz102 Mx0_9z102 Mx0_10z102 Mx0_11z102 Mx0_12z102 Mx0_13z102 My1 My2 Mx3_0 Mx4_0z102)) := hD
                        refine lv_iload_n hx hb d_S_run_61 rfl (lv_at hl 2 rfl) ?_
                        refine W.widen (k := 2) (n := 8000) (by decide) (by decide) ?_
                        exact W.iret (v := l2) hx hb hr (fun t ht hW => ⟨⟨l2, (0 : Int32), rfl, rfl, ⟨_, isC_0, (by show va_P D classes _ t.heap; rw [ht]; exact hP), hD⟩⟩, hS.F ht⟩) hS.2.2 d_S_run_62
                      · refine lv_iload_n hx hb d_S_run_27 rfl (lv_at hl 1 rfl) ?_
                        refine lv_if_ne (tgt := 53) hx hb d_S_run_28 (by decide) (fun c106 => ?_) (fun c106 => absurd c106 (show ¬ rz102 = (0 : Int32) from hzz102))
                        refine lv_aload_n hx hb d_S_run_53 rfl (lv_at hl 3 rfl) ?_
                        refine va_get (D := D) (ci := 0) (v := .ref m0) (C := "SignMachine") (T := F_S) (N := 2) hx hb hk fi_S hown hK.1 hP 0 rfl rfl 0 (by decide) (hk _ k_210) (fun _ h9 => h9) rfl d_S_run_54 ?_
                        refine lv_iload_n hx hb d_S_run_57 rfl (lv_at hl 1 rfl) ?_
                        refine va_putN (D := D) (ci := 1) (v := .int rz102) (ty := .int) (C := "SignMachine$Machine") (T := F_M) (N := 14) hx hb hk fi_M ft_M ft_M_ok fn_M hown hK.1 hP hD hS 1 rfl rfl 8 (by decide) (va_Nw.use rfl (hK.2 _ n_175)) (fun _ h9 => h9) rfl (by decide +kernel) rfl rfl (Nat.le_of_ble_eq_true rfl) d_S_run_58 (fun H locs hP hD hS => ?_)
                        have hP : va_P D classes ((wS54 cI cJ cZ cB p0 m0) ++ (wS51 cI cJ cZ cB m0 m1 m2 m3 m4 Mx0_4 Mx0_5 Mx0_6z102 Mx0_7z102 rz102 Mx0_9z102 Mx0_10z102 Mx0_11z102 Mx0_12z102 Mx0_13z102 My1 My2 Mx3_0 Mx4_0z102)) H := hP
                        have hD : va_D A ((wS54 cI cJ cZ cB p0 m0) ++ (wS51 cI cJ cZ cB m0 m1 m2 m3 m4 Mx0_4 Mx0_5 Mx0_6z102 Mx0_7z102 rz102 Mx0_9z102 Mx0_10z102 Mx0_11z102 Mx0_12z102 Mx0_13z102 My1 My2 Mx3_0 Mx4_0z102)) := hD
                        refine lv_iload_n hx hb d_S_run_61 rfl (lv_at hl 2 rfl) ?_
                        refine W.widen (k := 2) (n := 8000) (by decide) (by decide) ?_
                        exact W.iret (v := l2) hx hb hr (fun t ht hW => ⟨⟨l2, (0 : Int32), rfl, rfl, ⟨_, isC_0, (by show va_P D classes _ t.heap; rw [ht]; exact hP), hD⟩⟩, hS.F ht⟩) hS.2.2 d_S_run_62
                    · obtain ⟨v107, hv107⟩ : ∃ y : Int32, y = (l2 + (1 : Int32)) := ⟨_, rfl⟩
                      refine lv_iinc (v := v107) (lv' := [(2, .int v107), (3, .int rz102), (4, .int l4), (0, .ref p0), (1, .int a1)]) hx hb d_S_run_44 hl (k := 2) rfl (by rw [hv107]; rfl) (by decide) rfl (fun ls hl => ?_)
                      obtain ⟨v108, hv108⟩ : ∃ y : Int32, y = (l4 + (1 : Int32)) := ⟨_, rfl⟩
                      refine lv_iinc (v := v108) (lv' := [(4, .int v108), (2, .int v107), (3, .int rz102), (0, .ref p0), (1, .int a1)]) hx hb d_S_run_47 hl (k := 2) rfl (by rw [hv108]; rfl) (by decide) rfl (fun ls hl => ?_)
                      refine lv_goto (tgt := 21) hx hb d_S_run_50 (by decide) ?_
                      refine lv_iload hx hb d_S_run_21 (lv_at hl 0 rfl) ?_
                      refine lv_iload_n hx hb d_S_run_23 rfl (lv_at hl 4 rfl) ?_
                      refine lv_icmp_ge (tgt := 53) hx hb d_S_run_24 (by decide) (fun c109 => ?_) (fun c109 => ?_)
                      · refine lv_aload_n hx hb d_S_run_53 rfl (lv_at hl 3 rfl) ?_
                        refine va_get (D := D) (ci := 0) (v := .ref m0) (C := "SignMachine") (T := F_S) (N := 2) hx hb hk fi_S hown hK.1 hP 0 rfl rfl 0 (by decide) (hk _ k_210) (fun _ h9 => h9) rfl d_S_run_54 ?_
                        refine lv_iload_n hx hb d_S_run_57 rfl (lv_at hl 2 rfl) ?_
                        refine va_putN (D := D) (ci := 1) (v := .int rz102) (ty := .int) (C := "SignMachine$Machine") (T := F_M) (N := 14) hx hb hk fi_M ft_M ft_M_ok fn_M hown hK.1 hP hD hS 1 rfl rfl 8 (by decide) (va_Nw.use rfl (hK.2 _ n_175)) (fun _ h9 => h9) rfl (by decide +kernel) rfl rfl (Nat.le_of_ble_eq_true rfl) d_S_run_58 (fun H locs hP hD hS => ?_)
                        have hP : va_P D classes ((wS54 cI cJ cZ cB p0 m0) ++ (wS51 cI cJ cZ cB m0 m1 m2 m3 m4 Mx0_4 Mx0_5 Mx0_6z102 Mx0_7z102 rz102 Mx0_9z102 Mx0_10z102 Mx0_11z102 Mx0_12z102 Mx0_13z102 My1 My2 Mx3_0 Mx4_0z102)) H := hP
                        have hD : va_D A ((wS54 cI cJ cZ cB p0 m0) ++ (wS51 cI cJ cZ cB m0 m1 m2 m3 m4 Mx0_4 Mx0_5 Mx0_6z102 Mx0_7z102 rz102 Mx0_9z102 Mx0_10z102 Mx0_11z102 Mx0_12z102 Mx0_13z102 My1 My2 Mx3_0 Mx4_0z102)) := hD
                        refine lv_iload_n hx hb d_S_run_61 rfl (lv_at hl 1 rfl) ?_
                        refine W.widen (k := 2) (n := 8000) (by decide) (by decide) ?_
                        exact W.iret (v := v107) hx hb hr (fun t ht hW => ⟨⟨v107, (0 : Int32), rfl, rfl, ⟨_, isC_0, (by show va_P D classes _ t.heap; rw [ht]; exact hP), hD⟩⟩, hS.F ht⟩) hS.2.2 d_S_run_62
                      · refine lv_iload_n hx hb d_S_run_27 rfl (lv_at hl 2 rfl) ?_
                        refine lv_if_ne (tgt := 53) hx hb d_S_run_28 (by decide) (fun c110 => ?_) (fun c110 => absurd c110 (show ¬ rz102 = (0 : Int32) from hzz102))
                        refine lv_aload_n hx hb d_S_run_53 rfl (lv_at hl 3 rfl) ?_
                        refine va_get (D := D) (ci := 0) (v := .ref m0) (C := "SignMachine") (T := F_S) (N := 2) hx hb hk fi_S hown hK.1 hP 0 rfl rfl 0 (by decide) (hk _ k_210) (fun _ h9 => h9) rfl d_S_run_54 ?_
                        refine lv_iload_n hx hb d_S_run_57 rfl (lv_at hl 2 rfl) ?_
                        refine va_putN (D := D) (ci := 1) (v := .int rz102) (ty := .int) (C := "SignMachine$Machine") (T := F_M) (N := 14) hx hb hk fi_M ft_M ft_M_ok fn_M hown hK.1 hP hD hS 1 rfl rfl 8 (by decide) (va_Nw.use rfl (hK.2 _ n_175)) (fun _ h9 => h9) rfl (by decide +kernel) rfl rfl (Nat.le_of_ble_eq_true rfl) d_S_run_58 (fun H locs hP hD hS => ?_)
                        have hP : va_P D classes ((wS54 cI cJ cZ cB p0 m0) ++ (wS51 cI cJ cZ cB m0 m1 m2 m3 m4 Mx0_4 Mx0_5 Mx0_6z102 Mx0_7z102 rz102 Mx0_9z102 Mx0_10z102 Mx0_11z102 Mx0_12z102 Mx0_13z102 My1 My2 Mx3_0 Mx4_0z102)) H := hP
                        have hD : va_D A ((wS54 cI cJ cZ cB p0 m0) ++ (wS51 cI cJ cZ cB m0 m1 m2 m3 m4 Mx0_4 Mx0_5 Mx0_6z102 Mx0_7z102 rz102 Mx0_9z102 Mx0_10z102 Mx0_11z102 Mx0_12z102 Mx0_13z102 My1 My2 Mx3_0 Mx4_0z102)) := hD
                        refine lv_iload_n hx hb d_S_run_61 rfl (lv_at hl 1 rfl) ?_
                        refine W.widen (k := 2) (n := 8000) (by decide) (by decide) ?_
                        exact W.iret (v := v107) hx hb hr (fun t ht hW => ⟨⟨v107, (0 : Int32), rfl, rfl, ⟨_, isC_0, (by show va_P D classes _ t.heap; rw [ht]; exact hP), hD⟩⟩, hS.F ht⟩) hS.2.2 d_S_run_62
                  · rw [ht] at hP1
                    obtain ⟨hP, hD⟩ := va_join (wr := (wS54 cI cJ cZ cB p0 m0)) (w1 := (wS58 cI cJ cZ cB m0 m1 m2 m3 m4 m5 Mx0_4 Mx0_5 Mx0_6z102 Mx0_7z102 Mx0_8 Mx0_9z102 Mx0_10z102 Mx0_11z102 Mx0_12z102 Mx0_13z102 My1 My2 Mx3_0 Mx4_0z102 My5z102)) hP hD [1, 2, 3, 4, 5] [0] rfl rfl (by decide) (by decide) hkq hFc hP1 hD1
                    have hP := hP.sub (ws' := ((wS54 cI cJ cZ cB p0 m0) ++ (wS58 cI cJ cZ cB m0 m1 m2 m3 m4 m5 Mx0_4 Mx0_5 Mx0_6z102 Mx0_7z102 Mx0_8 Mx0_9z102 Mx0_10z102 Mx0_11z102 Mx0_12z102 Mx0_13z102 My1 My2 Mx3_0 Mx4_0z102 My5z102))) [0, 1, 2, 3, 4, 5, 6] rfl
                    have hD := hD.sub (ws' := ((wS54 cI cJ cZ cB p0 m0) ++ (wS58 cI cJ cZ cB m0 m1 m2 m3 m4 m5 Mx0_4 Mx0_5 Mx0_6z102 Mx0_7z102 Mx0_8 Mx0_9z102 Mx0_10z102 Mx0_11z102 Mx0_12z102 Mx0_13z102 My1 My2 Mx3_0 Mx4_0z102 My5z102))) [0, 1, 2, 3, 4, 5, 6] (by decide) rfl
                    have hP : va_P D classes ((wS54 cI cJ cZ cB p0 m0) ++ (wS58 cI cJ cZ cB m0 m1 m2 m3 m4 m5 Mx0_4 Mx0_5 Mx0_6z102 Mx0_7z102 Mx0_8 Mx0_9z102 Mx0_10z102 Mx0_11z102 Mx0_12z102 Mx0_13z102 My1 My2 Mx3_0 Mx4_0z102 My5z102)) H := hP
                    have hD : va_D A ((wS54 cI cJ cZ cB p0 m0) ++ (wS58 cI cJ cZ cB m0 m1 m2 m3 m4 m5 Mx0_4 Mx0_5 Mx0_6z102 Mx0_7z102 Mx0_8 Mx0_9z102 Mx0_10z102 Mx0_11z102 Mx0_12z102 Mx0_13z102 My1 My2 Mx3_0 Mx4_0z102 My5z102)) := hD
                    clear hPc hDc hFc
                    refine W.widen (k := 1) (n := 4000) (by decide) (by decide) ?_
                    refine lv_istore_n (lv' := [(3, .int rz102), (4, .int l4), (2, .int l2), (0, .ref p0), (1, .int a1)]) hx hb d_S_run_38 rfl hl (by decide) rfl (fun ls hl => ?_)
                    refine lv_iload_n hx hb d_S_run_39 rfl (lv_at hl 0 rfl) ?_
                    refine lv_iconst (v := 1) hx hb d_S_run_40 (by decide) ?_
                    refine lv_icmp_gt (tgt := 47) hx hb d_S_run_41 (by decide) (fun c111 => ?_) (fun c111 => ?_)
                    · obtain ⟨v112, hv112⟩ : ∃ y : Int32, y = (l4 + (1 : Int32)) := ⟨_, rfl⟩
                      refine lv_iinc (v := v112) (lv' := [(4, .int v112), (3, .int rz102), (2, .int l2), (0, .ref p0), (1, .int a1)]) hx hb d_S_run_47 hl (k := 1) rfl (by rw [hv112]; rfl) (by decide) rfl (fun ls hl => ?_)
                      refine lv_goto (tgt := 21) hx hb d_S_run_50 (by decide) ?_
                      have LP21_x2 : ∀ (n : Nat) (l4 : Int32) (l3 : Int32) (l2 : Int32) (Mx0_4 : Bool) (Mx0_5 : Int32) (Mx0_6 : Int32) (Mx0_7 : Int32) (Mx0_8 : Int32) (Mx0_9 : Int32) (Mx0_10 : Int32) (Mx0_11 : Int32) (Mx0_12 : Int32) (Mx0_13 : Int32) (My1 : Nat → Int32) (My2 : Nat → Int32) (Mx3_0 : Int32) (Mx4_0 : Int32) (My5 : Nat → Int32) (H : Heap) (locs : List Loc) (ls : Array Slot), ((a1).toInt - (l4).toInt).toNat < n → ¬ l4 < (0 : Int32) → va_P D classes ((wS54 cI cJ cZ cB p0 m0) ++ (wS58 cI cJ cZ cB m0 m1 m2 m3 m4 m5 Mx0_4 Mx0_5 Mx0_6 Mx0_7 Mx0_8 Mx0_9 Mx0_10 Mx0_11 Mx0_12 Mx0_13 My1 My2 Mx3_0 Mx4_0 My5)) H → va_D A ((wS54 cI cJ cZ cB p0 m0) ++ (wS58 cI cJ cZ cB m0 m1 m2 m3 m4 m5 Mx0_4 Mx0_5 Mx0_6 Mx0_7 Mx0_8 Mx0_9 Mx0_10 Mx0_11 Mx0_12 Mx0_13 My1 My2 Mx3_0 Mx4_0 My5)) → va_S A s.heap H locs → lv_has ls 5 [(4, .int l4), (3, .int l3), (2, .int l2), (0, .ref p0), (1, .int a1)] → W p l e ({ frames := 7, cells := 2, slots := 8000, locals := 151 }) s m [.ref p0, .int a1].toArray below meth c H locs 1 4000 (MQ below (va_Qi (fun r (uL : Int32) => uL = (0 : Int32)) (fun uL t => ∃ W9 : va_W, isC K cI cJ cZ cB p0 uL W9 ∧ va_P D classes W9 t.heap ∧ va_D A W9) A) [.ref p0, .int a1].toArray s 2 8000 A) (F0 m 21 ls []) := by
                        intro n
                        induction n with
                        | zero => intro l4 l3 l2 Mx0_4 Mx0_5 Mx0_6 Mx0_7 Mx0_8 Mx0_9 Mx0_10 Mx0_11 Mx0_12 Mx0_13 My1 My2 Mx3_0 Mx4_0 My5 H locs ls hn; exact absurd hn (Nat.not_lt_zero _)
                        | succ n ih =>
                          intro l4 l3 l2 Mx0_4 Mx0_5 Mx0_6 Mx0_7 Mx0_8 Mx0_9 Mx0_10 Mx0_11 Mx0_12 Mx0_13 My1 My2 Mx3_0 Mx4_0 My5 H locs ls hn21_x2 hc21_x2 hP hD hS hl
                          refine lv_iload hx hb d_S_run_21 (lv_at hl 0 rfl) ?_
                          refine lv_iload_n hx hb d_S_run_23 rfl (lv_at hl 4 rfl) ?_
                          refine lv_icmp_ge (tgt := 53) hx hb d_S_run_24 (by decide) (fun c113 => ?_) (fun c113 => ?_)
                          · refine lv_aload_n hx hb d_S_run_53 rfl (lv_at hl 3 rfl) ?_
                            refine va_get (D := D) (ci := 0) (v := .ref m0) (C := "SignMachine") (T := F_S) (N := 2) hx hb hk fi_S hown hK.1 hP 0 rfl rfl 0 (by decide) (hk _ k_210) (fun _ h9 => h9) rfl d_S_run_54 ?_
                            refine lv_iload_n hx hb d_S_run_57 rfl (lv_at hl 1 rfl) ?_
                            refine va_putN (D := D) (ci := 1) (v := .int l3) (ty := .int) (C := "SignMachine$Machine") (T := F_M) (N := 14) hx hb hk fi_M ft_M ft_M_ok fn_M hown hK.1 hP hD hS 1 rfl rfl 8 (by decide) (va_Nw.use rfl (hK.2 _ n_175)) (fun _ h9 => h9) rfl (by decide +kernel) rfl rfl (Nat.le_of_ble_eq_true rfl) d_S_run_58 (fun H locs hP hD hS => ?_)
                            have hP : va_P D classes ((wS54 cI cJ cZ cB p0 m0) ++ (wS58 cI cJ cZ cB m0 m1 m2 m3 m4 m5 Mx0_4 Mx0_5 Mx0_6 Mx0_7 l3 Mx0_9 Mx0_10 Mx0_11 Mx0_12 Mx0_13 My1 My2 Mx3_0 Mx4_0 My5)) H := hP
                            have hD : va_D A ((wS54 cI cJ cZ cB p0 m0) ++ (wS58 cI cJ cZ cB m0 m1 m2 m3 m4 m5 Mx0_4 Mx0_5 Mx0_6 Mx0_7 l3 Mx0_9 Mx0_10 Mx0_11 Mx0_12 Mx0_13 My1 My2 Mx3_0 Mx4_0 My5)) := hD
                            refine lv_iload_n hx hb d_S_run_61 rfl (lv_at hl 2 rfl) ?_
                            refine W.widen (k := 2) (n := 8000) (by decide) (by decide) ?_
                            exact W.iret (v := l2) hx hb hr (fun t ht hW => ⟨⟨l2, (0 : Int32), rfl, rfl, ⟨_, isC_2, (by show va_P D classes _ t.heap; rw [ht]; exact hP), hD⟩⟩, hS.F ht⟩) hS.2.2 d_S_run_62
                          · refine lv_iload_n hx hb d_S_run_27 rfl (lv_at hl 1 rfl) ?_
                            refine lv_if_ne (tgt := 53) hx hb d_S_run_28 (by decide) (fun c114 => ?_) (fun c114 => ?_)
                            · refine lv_aload_n hx hb d_S_run_53 rfl (lv_at hl 3 rfl) ?_
                              refine va_get (D := D) (ci := 0) (v := .ref m0) (C := "SignMachine") (T := F_S) (N := 2) hx hb hk fi_S hown hK.1 hP 0 rfl rfl 0 (by decide) (hk _ k_210) (fun _ h9 => h9) rfl d_S_run_54 ?_
                              refine lv_iload_n hx hb d_S_run_57 rfl (lv_at hl 1 rfl) ?_
                              refine va_putN (D := D) (ci := 1) (v := .int l3) (ty := .int) (C := "SignMachine$Machine") (T := F_M) (N := 14) hx hb hk fi_M ft_M ft_M_ok fn_M hown hK.1 hP hD hS 1 rfl rfl 8 (by decide) (va_Nw.use rfl (hK.2 _ n_175)) (fun _ h9 => h9) rfl (by decide +kernel) rfl rfl (Nat.le_of_ble_eq_true rfl) d_S_run_58 (fun H locs hP hD hS => ?_)
                              have hP : va_P D classes ((wS54 cI cJ cZ cB p0 m0) ++ (wS58 cI cJ cZ cB m0 m1 m2 m3 m4 m5 Mx0_4 Mx0_5 Mx0_6 Mx0_7 l3 Mx0_9 Mx0_10 Mx0_11 Mx0_12 Mx0_13 My1 My2 Mx3_0 Mx4_0 My5)) H := hP
                              have hD : va_D A ((wS54 cI cJ cZ cB p0 m0) ++ (wS58 cI cJ cZ cB m0 m1 m2 m3 m4 m5 Mx0_4 Mx0_5 Mx0_6 Mx0_7 l3 Mx0_9 Mx0_10 Mx0_11 Mx0_12 Mx0_13 My1 My2 Mx3_0 Mx4_0 My5)) := hD
                              refine lv_iload_n hx hb d_S_run_61 rfl (lv_at hl 2 rfl) ?_
                              refine W.widen (k := 2) (n := 8000) (by decide) (by decide) ?_
                              exact W.iret (v := l2) hx hb hr (fun t ht hW => ⟨⟨l2, (0 : Int32), rfl, rfl, ⟨_, isC_2, (by show va_P D classes _ t.heap; rw [ht]; exact hP), hD⟩⟩, hS.F ht⟩) hS.2.2 d_S_run_62
                            · refine lv_aload_n hx hb d_S_run_31 rfl (lv_at hl 3 rfl) ?_
                              refine va_get (D := D) (ci := 0) (v := .ref m0) (C := "SignMachine") (T := F_S) (N := 2) hx hb hk fi_S hown hK.1 hP 0 rfl rfl 0 (by decide) (hk _ k_210) (fun _ h9 => h9) rfl d_S_run_32 ?_
                              by_cases q115 : ((f_W_size (f_mw My1 Mx0_7)) &&& (63 : Int32)) = (37 : Int32)
                              · by_cases q116 : (((f_W_size (f_mw My1 Mx0_7)) >>> ((6 : Int32) &&& (31 : Int32))) &&& (63 : Int32)) = (0 : Int32)
                                · have hPc := hP.sub (ws' := (wS58 cI cJ cZ cB m0 m1 m2 m3 m4 m5 Mx0_4 Mx0_5 Mx0_6 Mx0_7 Mx0_8 Mx0_9 Mx0_10 Mx0_11 Mx0_12 Mx0_13 My1 My2 Mx3_0 Mx4_0 My5)) [1, 2, 3, 4, 5, 6] rfl
                                  have hDc := hD.sub (ws' := (wS58 cI cJ cZ cB m0 m1 m2 m3 m4 m5 Mx0_4 Mx0_5 Mx0_6 Mx0_7 Mx0_8 Mx0_9 Mx0_10 Mx0_11 Mx0_12 Mx0_13 My1 My2 Mx3_0 Mx4_0 My5)) [1, 2, 3, 4, 5, 6] (by decide) rfl
                                  have hFc := va_free (wc := (wS58 cI cJ cZ cB m0 m1 m2 m3 m4 m5 Mx0_4 Mx0_5 Mx0_6 Mx0_7 Mx0_8 Mx0_9 Mx0_10 Mx0_11 Mx0_12 Mx0_13 My1 My2 Mx3_0 Mx4_0 My5)) hD hS hA [1, 2, 3, 4, 5, 6] rfl
                                  refine va_calli (va_runV (C := "SignMachine$Machine") (As := []) (rest := []) ⟨hx, hb, hml, hown, hk⟩ (c_M_execute_s8 l K D cI cJ cZ cB m0 m1 m2 m3 m4 m5 H.size Mx0_4 Mx0_5 Mx0_6 Mx0_7 Mx0_8 Mx0_9 Mx0_10 Mx0_11 Mx0_12 Mx0_13 My1 My2 Mx3_0 Mx4_0 My5  q115 q116) (v_M_execute_s8 hk k_258 ⟨Nat.le_of_ble_eq_true rfl, Nat.le_of_ble_eq_true rfl⟩) (pMC_v hK hPc hDc hC hS hA (ci := 1) (q0 := 0) rfl rfl rfl) rfl rfl hl.1 rfl (lv_room (Nat.le_of_ble_eq_true rfl)) d_S_run_35 ⟨by decide, by decide⟩) hS (fun q _ h => hFc q h) hFc (fun rz117 u t H locs ht hvm hr0 hB hzq hkq hS => ?_)
                                  subst hr0
                                  rcases hB with ⟨hzz117, Mx0_6z117, Mx0_7z117, Mx0_9z117, Mx0_10z117, Mx0_11z117, Mx0_12z117, Mx0_13z117, Mx3_0z117, hP1, hD1⟩ | ⟨m6, Mx0_6z117, Mx0_7z117, Mx0_9z117, Mx0_10z117, Mx0_11z117, Mx0_12z117, Mx0_13z117, Mx3_0z117, My6z117, hP1, hD1⟩
                                  · rw [ht] at hP1
                                    obtain ⟨hP, hD⟩ := va_join (wr := (wS54 cI cJ cZ cB p0 m0)) (w1 := (wS58 cI cJ cZ cB m0 m1 m2 m3 m4 m5 Mx0_4 Mx0_5 Mx0_6z117 Mx0_7z117 Mx0_8 Mx0_9z117 Mx0_10z117 Mx0_11z117 Mx0_12z117 Mx0_13z117 My1 My2 Mx3_0z117 Mx4_0 My5)) hP hD [1, 2, 3, 4, 5, 6] [0] rfl rfl (by decide) (by decide) hkq hFc hP1 hD1
                                    have hP := hP.sub (ws' := ((wS54 cI cJ cZ cB p0 m0) ++ (wS58 cI cJ cZ cB m0 m1 m2 m3 m4 m5 Mx0_4 Mx0_5 Mx0_6z117 Mx0_7z117 Mx0_8 Mx0_9z117 Mx0_10z117 Mx0_11z117 Mx0_12z117 Mx0_13z117 My1 My2 Mx3_0z117 Mx4_0 My5))) [0, 1, 2, 3, 4, 5, 6] rfl
                                    have hD := hD.sub (ws' := ((wS54 cI cJ cZ cB p0 m0) ++ (wS58 cI cJ cZ cB m0 m1 m2 m3 m4 m5 Mx0_4 Mx0_5 Mx0_6z117 Mx0_7z117 Mx0_8 Mx0_9z117 Mx0_10z117 Mx0_11z117 Mx0_12z117 Mx0_13z117 My1 My2 Mx3_0z117 Mx4_0 My5))) [0, 1, 2, 3, 4, 5, 6] (by decide) rfl
                                    have hP : va_P D classes ((wS54 cI cJ cZ cB p0 m0) ++ (wS58 cI cJ cZ cB m0 m1 m2 m3 m4 m5 Mx0_4 Mx0_5 Mx0_6z117 Mx0_7z117 Mx0_8 Mx0_9z117 Mx0_10z117 Mx0_11z117 Mx0_12z117 Mx0_13z117 My1 My2 Mx3_0z117 Mx4_0 My5)) H := hP
                                    have hD : va_D A ((wS54 cI cJ cZ cB p0 m0) ++ (wS58 cI cJ cZ cB m0 m1 m2 m3 m4 m5 Mx0_4 Mx0_5 Mx0_6z117 Mx0_7z117 Mx0_8 Mx0_9z117 Mx0_10z117 Mx0_11z117 Mx0_12z117 Mx0_13z117 My1 My2 Mx3_0z117 Mx4_0 My5)) := hD
                                    clear hPc hDc hFc
                                    refine W.widen (k := 2) (n := 8000) (by decide) (by decide) ?_
                                    refine lv_istore_n (lv' := [(3, .int rz117), (4, .int l4), (2, .int l2), (0, .ref p0), (1, .int a1)]) hx hb d_S_run_38 rfl hl (by decide) rfl (fun ls hl => ?_)
                                    refine lv_iload_n hx hb d_S_run_39 rfl (lv_at hl 0 rfl) ?_
                                    refine lv_iconst (v := 1) hx hb d_S_run_40 (by decide) ?_
                                    refine lv_icmp_gt (tgt := 47) hx hb d_S_run_41 (by decide) (fun c118 => ?_) (fun c118 => ?_)
                                    · obtain ⟨v119, hv119⟩ : ∃ y : Int32, y = (l4 + (1 : Int32)) := ⟨_, rfl⟩
                                      refine lv_iinc (v := v119) (lv' := [(4, .int v119), (3, .int rz117), (2, .int l2), (0, .ref p0), (1, .int a1)]) hx hb d_S_run_47 hl (k := 1) rfl (by rw [hv119]; rfl) (by decide) rfl (fun ls hl => ?_)
                                      refine lv_goto (tgt := 21) hx hb d_S_run_50 (by decide) ?_
                                      refine lv_iload hx hb d_S_run_21 (lv_at hl 0 rfl) ?_
                                      refine lv_iload_n hx hb d_S_run_23 rfl (lv_at hl 4 rfl) ?_
                                      refine lv_icmp_ge (tgt := 53) hx hb d_S_run_24 (by decide) (fun c120 => ?_) (fun c120 => ?_)
                                      · refine lv_aload_n hx hb d_S_run_53 rfl (lv_at hl 3 rfl) ?_
                                        refine va_get (D := D) (ci := 0) (v := .ref m0) (C := "SignMachine") (T := F_S) (N := 2) hx hb hk fi_S hown hK.1 hP 0 rfl rfl 0 (by decide) (hk _ k_210) (fun _ h9 => h9) rfl d_S_run_54 ?_
                                        refine lv_iload_n hx hb d_S_run_57 rfl (lv_at hl 1 rfl) ?_
                                        refine va_putN (D := D) (ci := 1) (v := .int rz117) (ty := .int) (C := "SignMachine$Machine") (T := F_M) (N := 14) hx hb hk fi_M ft_M ft_M_ok fn_M hown hK.1 hP hD hS 1 rfl rfl 8 (by decide) (va_Nw.use rfl (hK.2 _ n_175)) (fun _ h9 => h9) rfl (by decide +kernel) rfl rfl (Nat.le_of_ble_eq_true rfl) d_S_run_58 (fun H locs hP hD hS => ?_)
                                        have hP : va_P D classes ((wS54 cI cJ cZ cB p0 m0) ++ (wS58 cI cJ cZ cB m0 m1 m2 m3 m4 m5 Mx0_4 Mx0_5 Mx0_6z117 Mx0_7z117 rz117 Mx0_9z117 Mx0_10z117 Mx0_11z117 Mx0_12z117 Mx0_13z117 My1 My2 Mx3_0z117 Mx4_0 My5)) H := hP
                                        have hD : va_D A ((wS54 cI cJ cZ cB p0 m0) ++ (wS58 cI cJ cZ cB m0 m1 m2 m3 m4 m5 Mx0_4 Mx0_5 Mx0_6z117 Mx0_7z117 rz117 Mx0_9z117 Mx0_10z117 Mx0_11z117 Mx0_12z117 Mx0_13z117 My1 My2 Mx3_0z117 Mx4_0 My5)) := hD
                                        refine lv_iload_n hx hb d_S_run_61 rfl (lv_at hl 2 rfl) ?_
                                        exact W.iret (v := l2) hx hb hr (fun t ht hW => ⟨⟨l2, (0 : Int32), rfl, rfl, ⟨_, isC_2, (by show va_P D classes _ t.heap; rw [ht]; exact hP), hD⟩⟩, hS.F ht⟩) hS.2.2 d_S_run_62
                                      · refine lv_iload_n hx hb d_S_run_27 rfl (lv_at hl 1 rfl) ?_
                                        refine lv_if_ne (tgt := 53) hx hb d_S_run_28 (by decide) (fun c121 => ?_) (fun c121 => absurd c121 (show ¬ rz117 = (0 : Int32) from hzz117))
                                        refine lv_aload_n hx hb d_S_run_53 rfl (lv_at hl 3 rfl) ?_
                                        refine va_get (D := D) (ci := 0) (v := .ref m0) (C := "SignMachine") (T := F_S) (N := 2) hx hb hk fi_S hown hK.1 hP 0 rfl rfl 0 (by decide) (hk _ k_210) (fun _ h9 => h9) rfl d_S_run_54 ?_
                                        refine lv_iload_n hx hb d_S_run_57 rfl (lv_at hl 1 rfl) ?_
                                        refine va_putN (D := D) (ci := 1) (v := .int rz117) (ty := .int) (C := "SignMachine$Machine") (T := F_M) (N := 14) hx hb hk fi_M ft_M ft_M_ok fn_M hown hK.1 hP hD hS 1 rfl rfl 8 (by decide) (va_Nw.use rfl (hK.2 _ n_175)) (fun _ h9 => h9) rfl (by decide +kernel) rfl rfl (Nat.le_of_ble_eq_true rfl) d_S_run_58 (fun H locs hP hD hS => ?_)
                                        have hP : va_P D classes ((wS54 cI cJ cZ cB p0 m0) ++ (wS58 cI cJ cZ cB m0 m1 m2 m3 m4 m5 Mx0_4 Mx0_5 Mx0_6z117 Mx0_7z117 rz117 Mx0_9z117 Mx0_10z117 Mx0_11z117 Mx0_12z117 Mx0_13z117 My1 My2 Mx3_0z117 Mx4_0 My5)) H := hP
                                        have hD : va_D A ((wS54 cI cJ cZ cB p0 m0) ++ (wS58 cI cJ cZ cB m0 m1 m2 m3 m4 m5 Mx0_4 Mx0_5 Mx0_6z117 Mx0_7z117 rz117 Mx0_9z117 Mx0_10z117 Mx0_11z117 Mx0_12z117 Mx0_13z117 My1 My2 Mx3_0z117 Mx4_0 My5)) := hD
                                        refine lv_iload_n hx hb d_S_run_61 rfl (lv_at hl 2 rfl) ?_
                                        exact W.iret (v := l2) hx hb hr (fun t ht hW => ⟨⟨l2, (0 : Int32), rfl, rfl, ⟨_, isC_2, (by show va_P D classes _ t.heap; rw [ht]; exact hP), hD⟩⟩, hS.F ht⟩) hS.2.2 d_S_run_62
                                    · obtain ⟨v122, hv122⟩ : ∃ y : Int32, y = (l2 + (1 : Int32)) := ⟨_, rfl⟩
                                      refine lv_iinc (v := v122) (lv' := [(2, .int v122), (3, .int rz117), (4, .int l4), (0, .ref p0), (1, .int a1)]) hx hb d_S_run_44 hl (k := 2) rfl (by rw [hv122]; rfl) (by decide) rfl (fun ls hl => ?_)
                                      obtain ⟨v123, hv123⟩ : ∃ y : Int32, y = (l4 + (1 : Int32)) := ⟨_, rfl⟩
                                      refine lv_iinc (v := v123) (lv' := [(4, .int v123), (2, .int v122), (3, .int rz117), (0, .ref p0), (1, .int a1)]) hx hb d_S_run_47 hl (k := 2) rfl (by rw [hv123]; rfl) (by decide) rfl (fun ls hl => ?_)
                                      refine lv_goto (tgt := 21) hx hb d_S_run_50 (by decide) ?_
                                      refine lv_iload hx hb d_S_run_21 (lv_at hl 0 rfl) ?_
                                      refine lv_iload_n hx hb d_S_run_23 rfl (lv_at hl 4 rfl) ?_
                                      refine lv_icmp_ge (tgt := 53) hx hb d_S_run_24 (by decide) (fun c124 => ?_) (fun c124 => ?_)
                                      · refine lv_aload_n hx hb d_S_run_53 rfl (lv_at hl 3 rfl) ?_
                                        refine va_get (D := D) (ci := 0) (v := .ref m0) (C := "SignMachine") (T := F_S) (N := 2) hx hb hk fi_S hown hK.1 hP 0 rfl rfl 0 (by decide) (hk _ k_210) (fun _ h9 => h9) rfl d_S_run_54 ?_
                                        refine lv_iload_n hx hb d_S_run_57 rfl (lv_at hl 2 rfl) ?_
                                        refine va_putN (D := D) (ci := 1) (v := .int rz117) (ty := .int) (C := "SignMachine$Machine") (T := F_M) (N := 14) hx hb hk fi_M ft_M ft_M_ok fn_M hown hK.1 hP hD hS 1 rfl rfl 8 (by decide) (va_Nw.use rfl (hK.2 _ n_175)) (fun _ h9 => h9) rfl (by decide +kernel) rfl rfl (Nat.le_of_ble_eq_true rfl) d_S_run_58 (fun H locs hP hD hS => ?_)
                                        have hP : va_P D classes ((wS54 cI cJ cZ cB p0 m0) ++ (wS58 cI cJ cZ cB m0 m1 m2 m3 m4 m5 Mx0_4 Mx0_5 Mx0_6z117 Mx0_7z117 rz117 Mx0_9z117 Mx0_10z117 Mx0_11z117 Mx0_12z117 Mx0_13z117 My1 My2 Mx3_0z117 Mx4_0 My5)) H := hP
                                        have hD : va_D A ((wS54 cI cJ cZ cB p0 m0) ++ (wS58 cI cJ cZ cB m0 m1 m2 m3 m4 m5 Mx0_4 Mx0_5 Mx0_6z117 Mx0_7z117 rz117 Mx0_9z117 Mx0_10z117 Mx0_11z117 Mx0_12z117 Mx0_13z117 My1 My2 Mx3_0z117 Mx4_0 My5)) := hD
                                        refine lv_iload_n hx hb d_S_run_61 rfl (lv_at hl 1 rfl) ?_
                                        exact W.iret (v := v122) hx hb hr (fun t ht hW => ⟨⟨v122, (0 : Int32), rfl, rfl, ⟨_, isC_2, (by show va_P D classes _ t.heap; rw [ht]; exact hP), hD⟩⟩, hS.F ht⟩) hS.2.2 d_S_run_62
                                      · refine lv_iload_n hx hb d_S_run_27 rfl (lv_at hl 2 rfl) ?_
                                        refine lv_if_ne (tgt := 53) hx hb d_S_run_28 (by decide) (fun c125 => ?_) (fun c125 => absurd c125 (show ¬ rz117 = (0 : Int32) from hzz117))
                                        refine lv_aload_n hx hb d_S_run_53 rfl (lv_at hl 3 rfl) ?_
                                        refine va_get (D := D) (ci := 0) (v := .ref m0) (C := "SignMachine") (T := F_S) (N := 2) hx hb hk fi_S hown hK.1 hP 0 rfl rfl 0 (by decide) (hk _ k_210) (fun _ h9 => h9) rfl d_S_run_54 ?_
                                        refine lv_iload_n hx hb d_S_run_57 rfl (lv_at hl 2 rfl) ?_
                                        refine va_putN (D := D) (ci := 1) (v := .int rz117) (ty := .int) (C := "SignMachine$Machine") (T := F_M) (N := 14) hx hb hk fi_M ft_M ft_M_ok fn_M hown hK.1 hP hD hS 1 rfl rfl 8 (by decide) (va_Nw.use rfl (hK.2 _ n_175)) (fun _ h9 => h9) rfl (by decide +kernel) rfl rfl (Nat.le_of_ble_eq_true rfl) d_S_run_58 (fun H locs hP hD hS => ?_)
                                        have hP : va_P D classes ((wS54 cI cJ cZ cB p0 m0) ++ (wS58 cI cJ cZ cB m0 m1 m2 m3 m4 m5 Mx0_4 Mx0_5 Mx0_6z117 Mx0_7z117 rz117 Mx0_9z117 Mx0_10z117 Mx0_11z117 Mx0_12z117 Mx0_13z117 My1 My2 Mx3_0z117 Mx4_0 My5)) H := hP
                                        have hD : va_D A ((wS54 cI cJ cZ cB p0 m0) ++ (wS58 cI cJ cZ cB m0 m1 m2 m3 m4 m5 Mx0_4 Mx0_5 Mx0_6z117 Mx0_7z117 rz117 Mx0_9z117 Mx0_10z117 Mx0_11z117 Mx0_12z117 Mx0_13z117 My1 My2 Mx3_0z117 Mx4_0 My5)) := hD
                                        refine lv_iload_n hx hb d_S_run_61 rfl (lv_at hl 1 rfl) ?_
                                        exact W.iret (v := v122) hx hb hr (fun t ht hW => ⟨⟨v122, (0 : Int32), rfl, rfl, ⟨_, isC_2, (by show va_P D classes _ t.heap; rw [ht]; exact hP), hD⟩⟩, hS.F ht⟩) hS.2.2 d_S_run_62
                                  · rw [ht] at hP1
                                    obtain ⟨hP, hD⟩ := va_join (wr := (wS54 cI cJ cZ cB p0 m0)) (w1 := (wS62 cI cJ cZ cB m0 m1 m2 m3 m4 m5 m6 Mx0_4 Mx0_5 Mx0_6z117 Mx0_7z117 Mx0_8 Mx0_9z117 Mx0_10z117 Mx0_11z117 Mx0_12z117 Mx0_13z117 My1 My2 Mx3_0z117 Mx4_0 My5 My6z117)) hP hD [1, 2, 3, 4, 5, 6] [0] rfl rfl (by decide) (by decide) hkq hFc hP1 hD1
                                    have hP := hP.sub (ws' := ((wS54 cI cJ cZ cB p0 m0) ++ (wS62 cI cJ cZ cB m0 m1 m2 m3 m4 m5 m6 Mx0_4 Mx0_5 Mx0_6z117 Mx0_7z117 Mx0_8 Mx0_9z117 Mx0_10z117 Mx0_11z117 Mx0_12z117 Mx0_13z117 My1 My2 Mx3_0z117 Mx4_0 My5 My6z117))) [0, 1, 2, 3, 4, 5, 6, 7] rfl
                                    have hD := hD.sub (ws' := ((wS54 cI cJ cZ cB p0 m0) ++ (wS62 cI cJ cZ cB m0 m1 m2 m3 m4 m5 m6 Mx0_4 Mx0_5 Mx0_6z117 Mx0_7z117 Mx0_8 Mx0_9z117 Mx0_10z117 Mx0_11z117 Mx0_12z117 Mx0_13z117 My1 My2 Mx3_0z117 Mx4_0 My5 My6z117))) [0, 1, 2, 3, 4, 5, 6, 7] (by decide) rfl
                                    have hP : va_P D classes ((wS54 cI cJ cZ cB p0 m0) ++ (wS62 cI cJ cZ cB m0 m1 m2 m3 m4 m5 m6 Mx0_4 Mx0_5 Mx0_6z117 Mx0_7z117 Mx0_8 Mx0_9z117 Mx0_10z117 Mx0_11z117 Mx0_12z117 Mx0_13z117 My1 My2 Mx3_0z117 Mx4_0 My5 My6z117)) H := hP
                                    have hD : va_D A ((wS54 cI cJ cZ cB p0 m0) ++ (wS62 cI cJ cZ cB m0 m1 m2 m3 m4 m5 m6 Mx0_4 Mx0_5 Mx0_6z117 Mx0_7z117 Mx0_8 Mx0_9z117 Mx0_10z117 Mx0_11z117 Mx0_12z117 Mx0_13z117 My1 My2 Mx3_0z117 Mx4_0 My5 My6z117)) := hD
                                    clear hPc hDc hFc
                                    refine W.widen (k := 2) (n := 8000) (by decide) (by decide) ?_
                                    refine lv_istore_n (lv' := [(3, .int rz117), (4, .int l4), (2, .int l2), (0, .ref p0), (1, .int a1)]) hx hb d_S_run_38 rfl hl (by decide) rfl (fun ls hl => ?_)
                                    refine lv_iload_n hx hb d_S_run_39 rfl (lv_at hl 0 rfl) ?_
                                    refine lv_iconst (v := 1) hx hb d_S_run_40 (by decide) ?_
                                    refine lv_icmp_gt (tgt := 47) hx hb d_S_run_41 (by decide) (fun c126 => ?_) (fun c126 => ?_)
                                    · obtain ⟨v127, hv127⟩ : ∃ y : Int32, y = (l4 + (1 : Int32)) := ⟨_, rfl⟩
                                      refine lv_iinc (v := v127) (lv' := [(4, .int v127), (3, .int rz117), (2, .int l2), (0, .ref p0), (1, .int a1)]) hx hb d_S_run_47 hl (k := 1) rfl (by rw [hv127]; rfl) (by decide) rfl (fun ls hl => ?_)
                                      refine lv_goto (tgt := 21) hx hb d_S_run_50 (by decide) ?_
                                      have LP21_x4 : ∀ (n : Nat) (l4 : Int32) (l3 : Int32) (l2 : Int32) (Mx0_4 : Bool) (Mx0_5 : Int32) (Mx0_6 : Int32) (Mx0_7 : Int32) (Mx0_8 : Int32) (Mx0_9 : Int32) (Mx0_10 : Int32) (Mx0_11 : Int32) (Mx0_12 : Int32) (Mx0_13 : Int32) (My1 : Nat → Int32) (My2 : Nat → Int32) (Mx3_0 : Int32) (Mx4_0 : Int32) (My5 : Nat → Int32) (My6 : Nat → Int32) (H : Heap) (locs : List Loc) (ls : Array Slot), ((a1).toInt - (l4).toInt).toNat < n → ¬ l4 < (0 : Int32) → va_P D classes ((wS54 cI cJ cZ cB p0 m0) ++ (wS62 cI cJ cZ cB m0 m1 m2 m3 m4 m5 m6 Mx0_4 Mx0_5 Mx0_6 Mx0_7 Mx0_8 Mx0_9 Mx0_10 Mx0_11 Mx0_12 Mx0_13 My1 My2 Mx3_0 Mx4_0 My5 My6)) H → va_D A ((wS54 cI cJ cZ cB p0 m0) ++ (wS62 cI cJ cZ cB m0 m1 m2 m3 m4 m5 m6 Mx0_4 Mx0_5 Mx0_6 Mx0_7 Mx0_8 Mx0_9 Mx0_10 Mx0_11 Mx0_12 Mx0_13 My1 My2 Mx3_0 Mx4_0 My5 My6)) → va_S A s.heap H locs → lv_has ls 5 [(4, .int l4), (3, .int l3), (2, .int l2), (0, .ref p0), (1, .int a1)] → W p l e ({ frames := 7, cells := 2, slots := 8000, locals := 151 }) s m [.ref p0, .int a1].toArray below meth c H locs 2 8000 (MQ below (va_Qi (fun r (uL : Int32) => uL = (0 : Int32)) (fun uL t => ∃ W9 : va_W, isC K cI cJ cZ cB p0 uL W9 ∧ va_P D classes W9 t.heap ∧ va_D A W9) A) [.ref p0, .int a1].toArray s 2 8000 A) (F0 m 21 ls []) := by
                                        intro n
                                        induction n with
                                        | zero => intro l4 l3 l2 Mx0_4 Mx0_5 Mx0_6 Mx0_7 Mx0_8 Mx0_9 Mx0_10 Mx0_11 Mx0_12 Mx0_13 My1 My2 Mx3_0 Mx4_0 My5 My6 H locs ls hn; exact absurd hn (Nat.not_lt_zero _)
                                        | succ n ih =>
                                          intro l4 l3 l2 Mx0_4 Mx0_5 Mx0_6 Mx0_7 Mx0_8 Mx0_9 Mx0_10 Mx0_11 Mx0_12 Mx0_13 My1 My2 Mx3_0 Mx4_0 My5 My6 H locs ls hn21_x4 hc21_x4 hP hD hS hl
                                          refine lv_iload hx hb d_S_run_21 (lv_at hl 0 rfl) ?_
                                          refine lv_iload_n hx hb d_S_run_23 rfl (lv_at hl 4 rfl) ?_
                                          refine lv_icmp_ge (tgt := 53) hx hb d_S_run_24 (by decide) (fun c128 => ?_) (fun c128 => ?_)
                                          · refine lv_aload_n hx hb d_S_run_53 rfl (lv_at hl 3 rfl) ?_
                                            refine va_get (D := D) (ci := 0) (v := .ref m0) (C := "SignMachine") (T := F_S) (N := 2) hx hb hk fi_S hown hK.1 hP 0 rfl rfl 0 (by decide) (hk _ k_210) (fun _ h9 => h9) rfl d_S_run_54 ?_
                                            refine lv_iload_n hx hb d_S_run_57 rfl (lv_at hl 1 rfl) ?_
                                            refine va_putN (D := D) (ci := 1) (v := .int l3) (ty := .int) (C := "SignMachine$Machine") (T := F_M) (N := 14) hx hb hk fi_M ft_M ft_M_ok fn_M hown hK.1 hP hD hS 1 rfl rfl 8 (by decide) (va_Nw.use rfl (hK.2 _ n_175)) (fun _ h9 => h9) rfl (by decide +kernel) rfl rfl (Nat.le_of_ble_eq_true rfl) d_S_run_58 (fun H locs hP hD hS => ?_)
                                            have hP : va_P D classes ((wS54 cI cJ cZ cB p0 m0) ++ (wS62 cI cJ cZ cB m0 m1 m2 m3 m4 m5 m6 Mx0_4 Mx0_5 Mx0_6 Mx0_7 l3 Mx0_9 Mx0_10 Mx0_11 Mx0_12 Mx0_13 My1 My2 Mx3_0 Mx4_0 My5 My6)) H := hP
                                            have hD : va_D A ((wS54 cI cJ cZ cB p0 m0) ++ (wS62 cI cJ cZ cB m0 m1 m2 m3 m4 m5 m6 Mx0_4 Mx0_5 Mx0_6 Mx0_7 l3 Mx0_9 Mx0_10 Mx0_11 Mx0_12 Mx0_13 My1 My2 Mx3_0 Mx4_0 My5 My6)) := hD
                                            refine lv_iload_n hx hb d_S_run_61 rfl (lv_at hl 2 rfl) ?_
                                            exact W.iret (v := l2) hx hb hr (fun t ht hW => ⟨⟨l2, (0 : Int32), rfl, rfl, ⟨_, isC_4, (by show va_P D classes _ t.heap; rw [ht]; exact hP), hD⟩⟩, hS.F ht⟩) hS.2.2 d_S_run_62
                                          · refine lv_iload_n hx hb d_S_run_27 rfl (lv_at hl 1 rfl) ?_
                                            refine lv_if_ne (tgt := 53) hx hb d_S_run_28 (by decide) (fun c129 => ?_) (fun c129 => ?_)
                                            · refine lv_aload_n hx hb d_S_run_53 rfl (lv_at hl 3 rfl) ?_
                                              refine va_get (D := D) (ci := 0) (v := .ref m0) (C := "SignMachine") (T := F_S) (N := 2) hx hb hk fi_S hown hK.1 hP 0 rfl rfl 0 (by decide) (hk _ k_210) (fun _ h9 => h9) rfl d_S_run_54 ?_
                                              refine lv_iload_n hx hb d_S_run_57 rfl (lv_at hl 1 rfl) ?_
                                              refine va_putN (D := D) (ci := 1) (v := .int l3) (ty := .int) (C := "SignMachine$Machine") (T := F_M) (N := 14) hx hb hk fi_M ft_M ft_M_ok fn_M hown hK.1 hP hD hS 1 rfl rfl 8 (by decide) (va_Nw.use rfl (hK.2 _ n_175)) (fun _ h9 => h9) rfl (by decide +kernel) rfl rfl (Nat.le_of_ble_eq_true rfl) d_S_run_58 (fun H locs hP hD hS => ?_)
                                              have hP : va_P D classes ((wS54 cI cJ cZ cB p0 m0) ++ (wS62 cI cJ cZ cB m0 m1 m2 m3 m4 m5 m6 Mx0_4 Mx0_5 Mx0_6 Mx0_7 l3 Mx0_9 Mx0_10 Mx0_11 Mx0_12 Mx0_13 My1 My2 Mx3_0 Mx4_0 My5 My6)) H := hP
                                              have hD : va_D A ((wS54 cI cJ cZ cB p0 m0) ++ (wS62 cI cJ cZ cB m0 m1 m2 m3 m4 m5 m6 Mx0_4 Mx0_5 Mx0_6 Mx0_7 l3 Mx0_9 Mx0_10 Mx0_11 Mx0_12 Mx0_13 My1 My2 Mx3_0 Mx4_0 My5 My6)) := hD
                                              refine lv_iload_n hx hb d_S_run_61 rfl (lv_at hl 2 rfl) ?_
                                              exact W.iret (v := l2) hx hb hr (fun t ht hW => ⟨⟨l2, (0 : Int32), rfl, rfl, ⟨_, isC_4, (by show va_P D classes _ t.heap; rw [ht]; exact hP), hD⟩⟩, hS.F ht⟩) hS.2.2 d_S_run_62
                                            · refine lv_aload_n hx hb d_S_run_31 rfl (lv_at hl 3 rfl) ?_
                                              refine va_get (D := D) (ci := 0) (v := .ref m0) (C := "SignMachine") (T := F_S) (N := 2) hx hb hk fi_S hown hK.1 hP 0 rfl rfl 0 (by decide) (hk _ k_210) (fun _ h9 => h9) rfl d_S_run_32 ?_
                                              have hPc := hP.sub (ws' := (wS62 cI cJ cZ cB m0 m1 m2 m3 m4 m5 m6 Mx0_4 Mx0_5 Mx0_6 Mx0_7 Mx0_8 Mx0_9 Mx0_10 Mx0_11 Mx0_12 Mx0_13 My1 My2 Mx3_0 Mx4_0 My5 My6)) [1, 2, 3, 4, 5, 6, 7] rfl
                                              have hDc := hD.sub (ws' := (wS62 cI cJ cZ cB m0 m1 m2 m3 m4 m5 m6 Mx0_4 Mx0_5 Mx0_6 Mx0_7 Mx0_8 Mx0_9 Mx0_10 Mx0_11 Mx0_12 Mx0_13 My1 My2 Mx3_0 Mx4_0 My5 My6)) [1, 2, 3, 4, 5, 6, 7] (by decide) rfl
                                              have hFc := va_free (wc := (wS62 cI cJ cZ cB m0 m1 m2 m3 m4 m5 m6 Mx0_4 Mx0_5 Mx0_6 Mx0_7 Mx0_8 Mx0_9 Mx0_10 Mx0_11 Mx0_12 Mx0_13 My1 My2 Mx3_0 Mx4_0 My5 My6)) hD hS hA [1, 2, 3, 4, 5, 6, 7] rfl
                                              refine va_calli (va_runV (C := "SignMachine$Machine") (As := []) (rest := []) ⟨hx, hb, hml, hown, hk⟩ (c_M_execute_s9 l K D cI cJ cZ cB m0 m1 m2 m3 m4 m5 m6 H.size Mx0_4 Mx0_5 Mx0_6 Mx0_7 Mx0_8 Mx0_9 Mx0_10 Mx0_11 Mx0_12 Mx0_13 My1 My2 Mx3_0 Mx4_0 My5 My6  ) (v_M_execute_s9 hk k_258 ⟨Nat.le_of_ble_eq_true rfl, Nat.le_of_ble_eq_true rfl⟩) (pMC_v hK hPc hDc hC hS hA (ci := 1) (q0 := 0) rfl rfl rfl) rfl rfl hl.1 rfl (lv_room (Nat.le_of_ble_eq_true rfl)) d_S_run_35 ⟨by decide, by decide⟩) hS (fun q _ h => hFc q h) hFc (fun rz130 u t H locs ht hvm hr0 hB hzq hkq hS => ?_)
                                              obtain ⟨Mx0_4z130, Mx0_5z130, Mx0_6z130, Mx0_7z130, Mx0_9z130, Mx0_10z130, Mx0_11z130, Mx0_12z130, Mx0_13z130, My1z130, My2z130, Mx3_0z130, Mx4_0z130, My5z130, My6z130, hP1, hD1⟩ := hB
                                              rw [ht] at hP1
                                              obtain ⟨hP, hD⟩ := va_join (wr := (wS54 cI cJ cZ cB p0 m0)) (w1 := (wS62 cI cJ cZ cB m0 m1 m2 m3 m4 m5 m6 Mx0_4z130 Mx0_5z130 Mx0_6z130 Mx0_7z130 Mx0_8 Mx0_9z130 Mx0_10z130 Mx0_11z130 Mx0_12z130 Mx0_13z130 My1z130 My2z130 Mx3_0z130 Mx4_0z130 My5z130 My6z130)) hP hD [1, 2, 3, 4, 5, 6, 7] [0] rfl rfl (by decide) (by decide) hkq hFc hP1 hD1
                                              have hP := hP.sub (ws' := ((wS54 cI cJ cZ cB p0 m0) ++ (wS62 cI cJ cZ cB m0 m1 m2 m3 m4 m5 m6 Mx0_4z130 Mx0_5z130 Mx0_6z130 Mx0_7z130 Mx0_8 Mx0_9z130 Mx0_10z130 Mx0_11z130 Mx0_12z130 Mx0_13z130 My1z130 My2z130 Mx3_0z130 Mx4_0z130 My5z130 My6z130))) [0, 1, 2, 3, 4, 5, 6, 7] rfl
                                              have hD := hD.sub (ws' := ((wS54 cI cJ cZ cB p0 m0) ++ (wS62 cI cJ cZ cB m0 m1 m2 m3 m4 m5 m6 Mx0_4z130 Mx0_5z130 Mx0_6z130 Mx0_7z130 Mx0_8 Mx0_9z130 Mx0_10z130 Mx0_11z130 Mx0_12z130 Mx0_13z130 My1z130 My2z130 Mx3_0z130 Mx4_0z130 My5z130 My6z130))) [0, 1, 2, 3, 4, 5, 6, 7] (by decide) rfl
                                              have hP : va_P D classes ((wS54 cI cJ cZ cB p0 m0) ++ (wS62 cI cJ cZ cB m0 m1 m2 m3 m4 m5 m6 Mx0_4z130 Mx0_5z130 Mx0_6z130 Mx0_7z130 Mx0_8 Mx0_9z130 Mx0_10z130 Mx0_11z130 Mx0_12z130 Mx0_13z130 My1z130 My2z130 Mx3_0z130 Mx4_0z130 My5z130 My6z130)) H := hP
                                              have hD : va_D A ((wS54 cI cJ cZ cB p0 m0) ++ (wS62 cI cJ cZ cB m0 m1 m2 m3 m4 m5 m6 Mx0_4z130 Mx0_5z130 Mx0_6z130 Mx0_7z130 Mx0_8 Mx0_9z130 Mx0_10z130 Mx0_11z130 Mx0_12z130 Mx0_13z130 My1z130 My2z130 Mx3_0z130 Mx4_0z130 My5z130 My6z130)) := hD
                                              clear hPc hDc hFc
                                              refine lv_istore_n (lv' := [(3, .int rz130), (4, .int l4), (2, .int l2), (0, .ref p0), (1, .int a1)]) hx hb d_S_run_38 rfl hl (by decide) rfl (fun ls hl => ?_)
                                              refine lv_iload_n hx hb d_S_run_39 rfl (lv_at hl 0 rfl) ?_
                                              refine lv_iconst (v := 1) hx hb d_S_run_40 (by decide) ?_
                                              refine lv_icmp_gt (tgt := 47) hx hb d_S_run_41 (by decide) (fun c131 => ?_) (fun c131 => ?_)
                                              · obtain ⟨v132, hv132⟩ : ∃ y : Int32, y = (l4 + (1 : Int32)) := ⟨_, rfl⟩
                                                refine lv_iinc (v := v132) (lv' := [(4, .int v132), (3, .int rz130), (2, .int l2), (0, .ref p0), (1, .int a1)]) hx hb d_S_run_47 hl (k := 1) rfl (by rw [hv132]; rfl) (by decide) rfl (fun ls hl => ?_)
                                                refine lv_goto (tgt := 21) hx hb d_S_run_50 (by decide) ?_
                                                exact ih v132 rz130 l2 Mx0_4z130 Mx0_5z130 Mx0_6z130 Mx0_7z130 Mx0_8 Mx0_9z130 Mx0_10z130 Mx0_11z130 Mx0_12z130 Mx0_13z130 My1z130 My2z130 Mx3_0z130 Mx4_0z130 My5z130 My6z130 H _ ls (lpu c128 hv132 hn21_x4) (lpn hc21_x4 c128 hv132) hP hD hS (lv_sub hl [0, 1, 2, 3, 4] rfl)
                                              · obtain ⟨v133, hv133⟩ : ∃ y : Int32, y = (l2 + (1 : Int32)) := ⟨_, rfl⟩
                                                refine lv_iinc (v := v133) (lv' := [(2, .int v133), (3, .int rz130), (4, .int l4), (0, .ref p0), (1, .int a1)]) hx hb d_S_run_44 hl (k := 2) rfl (by rw [hv133]; rfl) (by decide) rfl (fun ls hl => ?_)
                                                obtain ⟨v134, hv134⟩ : ∃ y : Int32, y = (l4 + (1 : Int32)) := ⟨_, rfl⟩
                                                refine lv_iinc (v := v134) (lv' := [(4, .int v134), (2, .int v133), (3, .int rz130), (0, .ref p0), (1, .int a1)]) hx hb d_S_run_47 hl (k := 2) rfl (by rw [hv134]; rfl) (by decide) rfl (fun ls hl => ?_)
                                                refine lv_goto (tgt := 21) hx hb d_S_run_50 (by decide) ?_
                                                exact ih v134 rz130 v133 Mx0_4z130 Mx0_5z130 Mx0_6z130 Mx0_7z130 Mx0_8 Mx0_9z130 Mx0_10z130 Mx0_11z130 Mx0_12z130 Mx0_13z130 My1z130 My2z130 Mx3_0z130 Mx4_0z130 My5z130 My6z130 H _ ls (lpu c128 hv134 hn21_x4) (lpn hc21_x4 c128 hv134) hP hD hS (lv_sub hl [0, 2, 1, 3, 4] rfl)
                                      exact LP21_x4 _ v127 rz117 l2 Mx0_4 Mx0_5 Mx0_6z117 Mx0_7z117 Mx0_8 Mx0_9z117 Mx0_10z117 Mx0_11z117 Mx0_12z117 Mx0_13z117 My1 My2 Mx3_0z117 Mx4_0 My5 My6z117 H _ ls (Nat.lt_succ_self _) (lpn hc21_x2 c113 hv127) hP hD hS hl
                                    · obtain ⟨v135, hv135⟩ : ∃ y : Int32, y = (l2 + (1 : Int32)) := ⟨_, rfl⟩
                                      refine lv_iinc (v := v135) (lv' := [(2, .int v135), (3, .int rz117), (4, .int l4), (0, .ref p0), (1, .int a1)]) hx hb d_S_run_44 hl (k := 2) rfl (by rw [hv135]; rfl) (by decide) rfl (fun ls hl => ?_)
                                      obtain ⟨v136, hv136⟩ : ∃ y : Int32, y = (l4 + (1 : Int32)) := ⟨_, rfl⟩
                                      refine lv_iinc (v := v136) (lv' := [(4, .int v136), (2, .int v135), (3, .int rz117), (0, .ref p0), (1, .int a1)]) hx hb d_S_run_47 hl (k := 2) rfl (by rw [hv136]; rfl) (by decide) rfl (fun ls hl => ?_)
                                      refine lv_goto (tgt := 21) hx hb d_S_run_50 (by decide) ?_
                                      have LP21_x4 : ∀ (n : Nat) (l4 : Int32) (l2 : Int32) (l3 : Int32) (Mx0_4 : Bool) (Mx0_5 : Int32) (Mx0_6 : Int32) (Mx0_7 : Int32) (Mx0_8 : Int32) (Mx0_9 : Int32) (Mx0_10 : Int32) (Mx0_11 : Int32) (Mx0_12 : Int32) (Mx0_13 : Int32) (My1 : Nat → Int32) (My2 : Nat → Int32) (Mx3_0 : Int32) (Mx4_0 : Int32) (My5 : Nat → Int32) (My6 : Nat → Int32) (H : Heap) (locs : List Loc) (ls : Array Slot), ((a1).toInt - (l4).toInt).toNat < n → ¬ l4 < (0 : Int32) → va_P D classes ((wS54 cI cJ cZ cB p0 m0) ++ (wS62 cI cJ cZ cB m0 m1 m2 m3 m4 m5 m6 Mx0_4 Mx0_5 Mx0_6 Mx0_7 Mx0_8 Mx0_9 Mx0_10 Mx0_11 Mx0_12 Mx0_13 My1 My2 Mx3_0 Mx4_0 My5 My6)) H → va_D A ((wS54 cI cJ cZ cB p0 m0) ++ (wS62 cI cJ cZ cB m0 m1 m2 m3 m4 m5 m6 Mx0_4 Mx0_5 Mx0_6 Mx0_7 Mx0_8 Mx0_9 Mx0_10 Mx0_11 Mx0_12 Mx0_13 My1 My2 Mx3_0 Mx4_0 My5 My6)) → va_S A s.heap H locs → lv_has ls 5 [(4, .int l4), (2, .int l2), (3, .int l3), (0, .ref p0), (1, .int a1)] → W p l e ({ frames := 7, cells := 2, slots := 8000, locals := 151 }) s m [.ref p0, .int a1].toArray below meth c H locs 2 8000 (MQ below (va_Qi (fun r (uL : Int32) => uL = (0 : Int32)) (fun uL t => ∃ W9 : va_W, isC K cI cJ cZ cB p0 uL W9 ∧ va_P D classes W9 t.heap ∧ va_D A W9) A) [.ref p0, .int a1].toArray s 2 8000 A) (F0 m 21 ls []) := by
                                        intro n
                                        induction n with
                                        | zero => intro l4 l2 l3 Mx0_4 Mx0_5 Mx0_6 Mx0_7 Mx0_8 Mx0_9 Mx0_10 Mx0_11 Mx0_12 Mx0_13 My1 My2 Mx3_0 Mx4_0 My5 My6 H locs ls hn; exact absurd hn (Nat.not_lt_zero _)
                                        | succ n ih =>
                                          intro l4 l2 l3 Mx0_4 Mx0_5 Mx0_6 Mx0_7 Mx0_8 Mx0_9 Mx0_10 Mx0_11 Mx0_12 Mx0_13 My1 My2 Mx3_0 Mx4_0 My5 My6 H locs ls hn21_x4 hc21_x4 hP hD hS hl
                                          refine lv_iload hx hb d_S_run_21 (lv_at hl 0 rfl) ?_
                                          refine lv_iload_n hx hb d_S_run_23 rfl (lv_at hl 4 rfl) ?_
                                          refine lv_icmp_ge (tgt := 53) hx hb d_S_run_24 (by decide) (fun c137 => ?_) (fun c137 => ?_)
                                          · refine lv_aload_n hx hb d_S_run_53 rfl (lv_at hl 3 rfl) ?_
                                            refine va_get (D := D) (ci := 0) (v := .ref m0) (C := "SignMachine") (T := F_S) (N := 2) hx hb hk fi_S hown hK.1 hP 0 rfl rfl 0 (by decide) (hk _ k_210) (fun _ h9 => h9) rfl d_S_run_54 ?_
                                            refine lv_iload_n hx hb d_S_run_57 rfl (lv_at hl 2 rfl) ?_
                                            refine va_putN (D := D) (ci := 1) (v := .int l3) (ty := .int) (C := "SignMachine$Machine") (T := F_M) (N := 14) hx hb hk fi_M ft_M ft_M_ok fn_M hown hK.1 hP hD hS 1 rfl rfl 8 (by decide) (va_Nw.use rfl (hK.2 _ n_175)) (fun _ h9 => h9) rfl (by decide +kernel) rfl rfl (Nat.le_of_ble_eq_true rfl) d_S_run_58 (fun H locs hP hD hS => ?_)
                                            have hP : va_P D classes ((wS54 cI cJ cZ cB p0 m0) ++ (wS62 cI cJ cZ cB m0 m1 m2 m3 m4 m5 m6 Mx0_4 Mx0_5 Mx0_6 Mx0_7 l3 Mx0_9 Mx0_10 Mx0_11 Mx0_12 Mx0_13 My1 My2 Mx3_0 Mx4_0 My5 My6)) H := hP
                                            have hD : va_D A ((wS54 cI cJ cZ cB p0 m0) ++ (wS62 cI cJ cZ cB m0 m1 m2 m3 m4 m5 m6 Mx0_4 Mx0_5 Mx0_6 Mx0_7 l3 Mx0_9 Mx0_10 Mx0_11 Mx0_12 Mx0_13 My1 My2 Mx3_0 Mx4_0 My5 My6)) := hD
                                            refine lv_iload_n hx hb d_S_run_61 rfl (lv_at hl 1 rfl) ?_
                                            exact W.iret (v := l2) hx hb hr (fun t ht hW => ⟨⟨l2, (0 : Int32), rfl, rfl, ⟨_, isC_4, (by show va_P D classes _ t.heap; rw [ht]; exact hP), hD⟩⟩, hS.F ht⟩) hS.2.2 d_S_run_62
                                          · refine lv_iload_n hx hb d_S_run_27 rfl (lv_at hl 2 rfl) ?_
                                            refine lv_if_ne (tgt := 53) hx hb d_S_run_28 (by decide) (fun c138 => ?_) (fun c138 => ?_)
                                            · refine lv_aload_n hx hb d_S_run_53 rfl (lv_at hl 3 rfl) ?_
                                              refine va_get (D := D) (ci := 0) (v := .ref m0) (C := "SignMachine") (T := F_S) (N := 2) hx hb hk fi_S hown hK.1 hP 0 rfl rfl 0 (by decide) (hk _ k_210) (fun _ h9 => h9) rfl d_S_run_54 ?_
                                              refine lv_iload_n hx hb d_S_run_57 rfl (lv_at hl 2 rfl) ?_
                                              refine va_putN (D := D) (ci := 1) (v := .int l3) (ty := .int) (C := "SignMachine$Machine") (T := F_M) (N := 14) hx hb hk fi_M ft_M ft_M_ok fn_M hown hK.1 hP hD hS 1 rfl rfl 8 (by decide) (va_Nw.use rfl (hK.2 _ n_175)) (fun _ h9 => h9) rfl (by decide +kernel) rfl rfl (Nat.le_of_ble_eq_true rfl) d_S_run_58 (fun H locs hP hD hS => ?_)
                                              have hP : va_P D classes ((wS54 cI cJ cZ cB p0 m0) ++ (wS62 cI cJ cZ cB m0 m1 m2 m3 m4 m5 m6 Mx0_4 Mx0_5 Mx0_6 Mx0_7 l3 Mx0_9 Mx0_10 Mx0_11 Mx0_12 Mx0_13 My1 My2 Mx3_0 Mx4_0 My5 My6)) H := hP
                                              have hD : va_D A ((wS54 cI cJ cZ cB p0 m0) ++ (wS62 cI cJ cZ cB m0 m1 m2 m3 m4 m5 m6 Mx0_4 Mx0_5 Mx0_6 Mx0_7 l3 Mx0_9 Mx0_10 Mx0_11 Mx0_12 Mx0_13 My1 My2 Mx3_0 Mx4_0 My5 My6)) := hD
                                              refine lv_iload_n hx hb d_S_run_61 rfl (lv_at hl 1 rfl) ?_
                                              exact W.iret (v := l2) hx hb hr (fun t ht hW => ⟨⟨l2, (0 : Int32), rfl, rfl, ⟨_, isC_4, (by show va_P D classes _ t.heap; rw [ht]; exact hP), hD⟩⟩, hS.F ht⟩) hS.2.2 d_S_run_62
                                            · refine lv_aload_n hx hb d_S_run_31 rfl (lv_at hl 3 rfl) ?_
                                              refine va_get (D := D) (ci := 0) (v := .ref m0) (C := "SignMachine") (T := F_S) (N := 2) hx hb hk fi_S hown hK.1 hP 0 rfl rfl 0 (by decide) (hk _ k_210) (fun _ h9 => h9) rfl d_S_run_32 ?_
                                              have hPc := hP.sub (ws' := (wS62 cI cJ cZ cB m0 m1 m2 m3 m4 m5 m6 Mx0_4 Mx0_5 Mx0_6 Mx0_7 Mx0_8 Mx0_9 Mx0_10 Mx0_11 Mx0_12 Mx0_13 My1 My2 Mx3_0 Mx4_0 My5 My6)) [1, 2, 3, 4, 5, 6, 7] rfl
                                              have hDc := hD.sub (ws' := (wS62 cI cJ cZ cB m0 m1 m2 m3 m4 m5 m6 Mx0_4 Mx0_5 Mx0_6 Mx0_7 Mx0_8 Mx0_9 Mx0_10 Mx0_11 Mx0_12 Mx0_13 My1 My2 Mx3_0 Mx4_0 My5 My6)) [1, 2, 3, 4, 5, 6, 7] (by decide) rfl
                                              have hFc := va_free (wc := (wS62 cI cJ cZ cB m0 m1 m2 m3 m4 m5 m6 Mx0_4 Mx0_5 Mx0_6 Mx0_7 Mx0_8 Mx0_9 Mx0_10 Mx0_11 Mx0_12 Mx0_13 My1 My2 Mx3_0 Mx4_0 My5 My6)) hD hS hA [1, 2, 3, 4, 5, 6, 7] rfl
                                              refine va_calli (va_runV (C := "SignMachine$Machine") (As := []) (rest := []) ⟨hx, hb, hml, hown, hk⟩ (c_M_execute_s9 l K D cI cJ cZ cB m0 m1 m2 m3 m4 m5 m6 H.size Mx0_4 Mx0_5 Mx0_6 Mx0_7 Mx0_8 Mx0_9 Mx0_10 Mx0_11 Mx0_12 Mx0_13 My1 My2 Mx3_0 Mx4_0 My5 My6  ) (v_M_execute_s9 hk k_258 ⟨Nat.le_of_ble_eq_true rfl, Nat.le_of_ble_eq_true rfl⟩) (pMC_v hK hPc hDc hC hS hA (ci := 1) (q0 := 0) rfl rfl rfl) rfl rfl hl.1 rfl (lv_room (Nat.le_of_ble_eq_true rfl)) d_S_run_35 ⟨by decide, by decide⟩) hS (fun q _ h => hFc q h) hFc (fun rz139 u t H locs ht hvm hr0 hB hzq hkq hS => ?_)
                                              obtain ⟨Mx0_4z139, Mx0_5z139, Mx0_6z139, Mx0_7z139, Mx0_9z139, Mx0_10z139, Mx0_11z139, Mx0_12z139, Mx0_13z139, My1z139, My2z139, Mx3_0z139, Mx4_0z139, My5z139, My6z139, hP1, hD1⟩ := hB
                                              rw [ht] at hP1
                                              obtain ⟨hP, hD⟩ := va_join (wr := (wS54 cI cJ cZ cB p0 m0)) (w1 := (wS62 cI cJ cZ cB m0 m1 m2 m3 m4 m5 m6 Mx0_4z139 Mx0_5z139 Mx0_6z139 Mx0_7z139 Mx0_8 Mx0_9z139 Mx0_10z139 Mx0_11z139 Mx0_12z139 Mx0_13z139 My1z139 My2z139 Mx3_0z139 Mx4_0z139 My5z139 My6z139)) hP hD [1, 2, 3, 4, 5, 6, 7] [0] rfl rfl (by decide) (by decide) hkq hFc hP1 hD1
                                              have hP := hP.sub (ws' := ((wS54 cI cJ cZ cB p0 m0) ++ (wS62 cI cJ cZ cB m0 m1 m2 m3 m4 m5 m6 Mx0_4z139 Mx0_5z139 Mx0_6z139 Mx0_7z139 Mx0_8 Mx0_9z139 Mx0_10z139 Mx0_11z139 Mx0_12z139 Mx0_13z139 My1z139 My2z139 Mx3_0z139 Mx4_0z139 My5z139 My6z139))) [0, 1, 2, 3, 4, 5, 6, 7] rfl
                                              have hD := hD.sub (ws' := ((wS54 cI cJ cZ cB p0 m0) ++ (wS62 cI cJ cZ cB m0 m1 m2 m3 m4 m5 m6 Mx0_4z139 Mx0_5z139 Mx0_6z139 Mx0_7z139 Mx0_8 Mx0_9z139 Mx0_10z139 Mx0_11z139 Mx0_12z139 Mx0_13z139 My1z139 My2z139 Mx3_0z139 Mx4_0z139 My5z139 My6z139))) [0, 1, 2, 3, 4, 5, 6, 7] (by decide) rfl
                                              have hP : va_P D classes ((wS54 cI cJ cZ cB p0 m0) ++ (wS62 cI cJ cZ cB m0 m1 m2 m3 m4 m5 m6 Mx0_4z139 Mx0_5z139 Mx0_6z139 Mx0_7z139 Mx0_8 Mx0_9z139 Mx0_10z139 Mx0_11z139 Mx0_12z139 Mx0_13z139 My1z139 My2z139 Mx3_0z139 Mx4_0z139 My5z139 My6z139)) H := hP
                                              have hD : va_D A ((wS54 cI cJ cZ cB p0 m0) ++ (wS62 cI cJ cZ cB m0 m1 m2 m3 m4 m5 m6 Mx0_4z139 Mx0_5z139 Mx0_6z139 Mx0_7z139 Mx0_8 Mx0_9z139 Mx0_10z139 Mx0_11z139 Mx0_12z139 Mx0_13z139 My1z139 My2z139 Mx3_0z139 Mx4_0z139 My5z139 My6z139)) := hD
                                              clear hPc hDc hFc
                                              refine lv_istore_n (lv' := [(3, .int rz139), (4, .int l4), (2, .int l2), (0, .ref p0), (1, .int a1)]) hx hb d_S_run_38 rfl hl (by decide) rfl (fun ls hl => ?_)
                                              refine lv_iload_n hx hb d_S_run_39 rfl (lv_at hl 0 rfl) ?_
                                              refine lv_iconst (v := 1) hx hb d_S_run_40 (by decide) ?_
                                              refine lv_icmp_gt (tgt := 47) hx hb d_S_run_41 (by decide) (fun c140 => ?_) (fun c140 => ?_)
                                              · obtain ⟨v141, hv141⟩ : ∃ y : Int32, y = (l4 + (1 : Int32)) := ⟨_, rfl⟩
                                                refine lv_iinc (v := v141) (lv' := [(4, .int v141), (3, .int rz139), (2, .int l2), (0, .ref p0), (1, .int a1)]) hx hb d_S_run_47 hl (k := 1) rfl (by rw [hv141]; rfl) (by decide) rfl (fun ls hl => ?_)
                                                refine lv_goto (tgt := 21) hx hb d_S_run_50 (by decide) ?_
                                                exact ih v141 l2 rz139 Mx0_4z139 Mx0_5z139 Mx0_6z139 Mx0_7z139 Mx0_8 Mx0_9z139 Mx0_10z139 Mx0_11z139 Mx0_12z139 Mx0_13z139 My1z139 My2z139 Mx3_0z139 Mx4_0z139 My5z139 My6z139 H _ ls (lpu c137 hv141 hn21_x4) (lpn hc21_x4 c137 hv141) hP hD hS (lv_sub hl [0, 2, 1, 3, 4] rfl)
                                              · obtain ⟨v142, hv142⟩ : ∃ y : Int32, y = (l2 + (1 : Int32)) := ⟨_, rfl⟩
                                                refine lv_iinc (v := v142) (lv' := [(2, .int v142), (3, .int rz139), (4, .int l4), (0, .ref p0), (1, .int a1)]) hx hb d_S_run_44 hl (k := 2) rfl (by rw [hv142]; rfl) (by decide) rfl (fun ls hl => ?_)
                                                obtain ⟨v143, hv143⟩ : ∃ y : Int32, y = (l4 + (1 : Int32)) := ⟨_, rfl⟩
                                                refine lv_iinc (v := v143) (lv' := [(4, .int v143), (2, .int v142), (3, .int rz139), (0, .ref p0), (1, .int a1)]) hx hb d_S_run_47 hl (k := 2) rfl (by rw [hv143]; rfl) (by decide) rfl (fun ls hl => ?_)
                                                refine lv_goto (tgt := 21) hx hb d_S_run_50 (by decide) ?_
                                                exact ih v143 v142 rz139 Mx0_4z139 Mx0_5z139 Mx0_6z139 Mx0_7z139 Mx0_8 Mx0_9z139 Mx0_10z139 Mx0_11z139 Mx0_12z139 Mx0_13z139 My1z139 My2z139 Mx3_0z139 Mx4_0z139 My5z139 My6z139 H _ ls (lpu c137 hv143 hn21_x4) (lpn hc21_x4 c137 hv143) hP hD hS (lv_sub hl [0, 1, 2, 3, 4] rfl)
                                      exact LP21_x4 _ v136 v135 rz117 Mx0_4 Mx0_5 Mx0_6z117 Mx0_7z117 Mx0_8 Mx0_9z117 Mx0_10z117 Mx0_11z117 Mx0_12z117 Mx0_13z117 My1 My2 Mx3_0z117 Mx4_0 My5 My6z117 H _ ls (Nat.lt_succ_self _) (lpn hc21_x2 c113 hv136) hP hD hS hl
                                · have hPc := hP.sub (ws' := (wS58 cI cJ cZ cB m0 m1 m2 m3 m4 m5 Mx0_4 Mx0_5 Mx0_6 Mx0_7 Mx0_8 Mx0_9 Mx0_10 Mx0_11 Mx0_12 Mx0_13 My1 My2 Mx3_0 Mx4_0 My5)) [1, 2, 3, 4, 5, 6] rfl
                                  have hDc := hD.sub (ws' := (wS58 cI cJ cZ cB m0 m1 m2 m3 m4 m5 Mx0_4 Mx0_5 Mx0_6 Mx0_7 Mx0_8 Mx0_9 Mx0_10 Mx0_11 Mx0_12 Mx0_13 My1 My2 Mx3_0 Mx4_0 My5)) [1, 2, 3, 4, 5, 6] (by decide) rfl
                                  have hFc := va_free (wc := (wS58 cI cJ cZ cB m0 m1 m2 m3 m4 m5 Mx0_4 Mx0_5 Mx0_6 Mx0_7 Mx0_8 Mx0_9 Mx0_10 Mx0_11 Mx0_12 Mx0_13 My1 My2 Mx3_0 Mx4_0 My5)) hD hS hA [1, 2, 3, 4, 5, 6] rfl
                                  refine va_calli (va_runV (C := "SignMachine$Machine") (As := []) (rest := []) ⟨hx, hb, hml, hown, hk⟩ (c_M_execute_s10 l K D cI cJ cZ cB m0 m1 m2 m3 m4 m5 H.size Mx0_4 Mx0_5 Mx0_6 Mx0_7 Mx0_8 Mx0_9 Mx0_10 Mx0_11 Mx0_12 Mx0_13 My1 My2 Mx3_0 Mx4_0 My5  q115 q116) (v_M_execute_s10 hk k_258 ⟨Nat.le_of_ble_eq_true rfl, Nat.le_of_ble_eq_true rfl⟩) (pMC_v hK hPc hDc hC hS hA (ci := 1) (q0 := 0) rfl rfl rfl) rfl rfl hl.1 rfl (lv_room (Nat.le_of_ble_eq_true rfl)) d_S_run_35 ⟨by decide, by decide⟩) hS (fun q _ h => hFc q h) hFc (fun rz144 u t H locs ht hvm hr0 hB hzq hkq hS => ?_)
                                  obtain ⟨Mx0_6z144, Mx0_7z144, Mx0_9z144, Mx0_10z144, Mx0_11z144, Mx0_12z144, Mx0_13z144, Mx4_0z144, My5z144, hP1, hD1⟩ := hB
                                  rw [ht] at hP1
                                  obtain ⟨hP, hD⟩ := va_join (wr := (wS54 cI cJ cZ cB p0 m0)) (w1 := (wS58 cI cJ cZ cB m0 m1 m2 m3 m4 m5 Mx0_4 Mx0_5 Mx0_6z144 Mx0_7z144 Mx0_8 Mx0_9z144 Mx0_10z144 Mx0_11z144 Mx0_12z144 Mx0_13z144 My1 My2 Mx3_0 Mx4_0z144 My5z144)) hP hD [1, 2, 3, 4, 5, 6] [0] rfl rfl (by decide) (by decide) hkq hFc hP1 hD1
                                  have hP := hP.sub (ws' := ((wS54 cI cJ cZ cB p0 m0) ++ (wS58 cI cJ cZ cB m0 m1 m2 m3 m4 m5 Mx0_4 Mx0_5 Mx0_6z144 Mx0_7z144 Mx0_8 Mx0_9z144 Mx0_10z144 Mx0_11z144 Mx0_12z144 Mx0_13z144 My1 My2 Mx3_0 Mx4_0z144 My5z144))) [0, 1, 2, 3, 4, 5, 6] rfl
                                  have hD := hD.sub (ws' := ((wS54 cI cJ cZ cB p0 m0) ++ (wS58 cI cJ cZ cB m0 m1 m2 m3 m4 m5 Mx0_4 Mx0_5 Mx0_6z144 Mx0_7z144 Mx0_8 Mx0_9z144 Mx0_10z144 Mx0_11z144 Mx0_12z144 Mx0_13z144 My1 My2 Mx3_0 Mx4_0z144 My5z144))) [0, 1, 2, 3, 4, 5, 6] (by decide) rfl
                                  have hP : va_P D classes ((wS54 cI cJ cZ cB p0 m0) ++ (wS58 cI cJ cZ cB m0 m1 m2 m3 m4 m5 Mx0_4 Mx0_5 Mx0_6z144 Mx0_7z144 Mx0_8 Mx0_9z144 Mx0_10z144 Mx0_11z144 Mx0_12z144 Mx0_13z144 My1 My2 Mx3_0 Mx4_0z144 My5z144)) H := hP
                                  have hD : va_D A ((wS54 cI cJ cZ cB p0 m0) ++ (wS58 cI cJ cZ cB m0 m1 m2 m3 m4 m5 Mx0_4 Mx0_5 Mx0_6z144 Mx0_7z144 Mx0_8 Mx0_9z144 Mx0_10z144 Mx0_11z144 Mx0_12z144 Mx0_13z144 My1 My2 Mx3_0 Mx4_0z144 My5z144)) := hD
                                  clear hPc hDc hFc
                                  refine lv_istore_n (lv' := [(3, .int rz144), (4, .int l4), (2, .int l2), (0, .ref p0), (1, .int a1)]) hx hb d_S_run_38 rfl hl (by decide) rfl (fun ls hl => ?_)
                                  refine lv_iload_n hx hb d_S_run_39 rfl (lv_at hl 0 rfl) ?_
                                  refine lv_iconst (v := 1) hx hb d_S_run_40 (by decide) ?_
                                  refine lv_icmp_gt (tgt := 47) hx hb d_S_run_41 (by decide) (fun c145 => ?_) (fun c145 => ?_)
                                  · obtain ⟨v146, hv146⟩ : ∃ y : Int32, y = (l4 + (1 : Int32)) := ⟨_, rfl⟩
                                    refine lv_iinc (v := v146) (lv' := [(4, .int v146), (3, .int rz144), (2, .int l2), (0, .ref p0), (1, .int a1)]) hx hb d_S_run_47 hl (k := 1) rfl (by rw [hv146]; rfl) (by decide) rfl (fun ls hl => ?_)
                                    refine lv_goto (tgt := 21) hx hb d_S_run_50 (by decide) ?_
                                    exact ih v146 rz144 l2 Mx0_4 Mx0_5 Mx0_6z144 Mx0_7z144 Mx0_8 Mx0_9z144 Mx0_10z144 Mx0_11z144 Mx0_12z144 Mx0_13z144 My1 My2 Mx3_0 Mx4_0z144 My5z144 H _ ls (lpu c113 hv146 hn21_x2) (lpn hc21_x2 c113 hv146) hP hD hS (lv_sub hl [0, 1, 2, 3, 4] rfl)
                                  · obtain ⟨v147, hv147⟩ : ∃ y : Int32, y = (l2 + (1 : Int32)) := ⟨_, rfl⟩
                                    refine lv_iinc (v := v147) (lv' := [(2, .int v147), (3, .int rz144), (4, .int l4), (0, .ref p0), (1, .int a1)]) hx hb d_S_run_44 hl (k := 2) rfl (by rw [hv147]; rfl) (by decide) rfl (fun ls hl => ?_)
                                    obtain ⟨v148, hv148⟩ : ∃ y : Int32, y = (l4 + (1 : Int32)) := ⟨_, rfl⟩
                                    refine lv_iinc (v := v148) (lv' := [(4, .int v148), (2, .int v147), (3, .int rz144), (0, .ref p0), (1, .int a1)]) hx hb d_S_run_47 hl (k := 2) rfl (by rw [hv148]; rfl) (by decide) rfl (fun ls hl => ?_)
                                    refine lv_goto (tgt := 21) hx hb d_S_run_50 (by decide) ?_
                                    exact ih v148 rz144 v147 Mx0_4 Mx0_5 Mx0_6z144 Mx0_7z144 Mx0_8 Mx0_9z144 Mx0_10z144 Mx0_11z144 Mx0_12z144 Mx0_13z144 My1 My2 Mx3_0 Mx4_0z144 My5z144 H _ ls (lpu c113 hv148 hn21_x2) (lpn hc21_x2 c113 hv148) hP hD hS (lv_sub hl [0, 2, 1, 3, 4] rfl)
                              · have hPc := hP.sub (ws' := (wS58 cI cJ cZ cB m0 m1 m2 m3 m4 m5 Mx0_4 Mx0_5 Mx0_6 Mx0_7 Mx0_8 Mx0_9 Mx0_10 Mx0_11 Mx0_12 Mx0_13 My1 My2 Mx3_0 Mx4_0 My5)) [1, 2, 3, 4, 5, 6] rfl
                                have hDc := hD.sub (ws' := (wS58 cI cJ cZ cB m0 m1 m2 m3 m4 m5 Mx0_4 Mx0_5 Mx0_6 Mx0_7 Mx0_8 Mx0_9 Mx0_10 Mx0_11 Mx0_12 Mx0_13 My1 My2 Mx3_0 Mx4_0 My5)) [1, 2, 3, 4, 5, 6] (by decide) rfl
                                have hFc := va_free (wc := (wS58 cI cJ cZ cB m0 m1 m2 m3 m4 m5 Mx0_4 Mx0_5 Mx0_6 Mx0_7 Mx0_8 Mx0_9 Mx0_10 Mx0_11 Mx0_12 Mx0_13 My1 My2 Mx3_0 Mx4_0 My5)) hD hS hA [1, 2, 3, 4, 5, 6] rfl
                                refine va_calli (va_runV (C := "SignMachine$Machine") (As := []) (rest := []) ⟨hx, hb, hml, hown, hk⟩ (c_M_execute_s11 l K D cI cJ cZ cB m0 m1 m2 m3 m4 m5 H.size Mx0_4 Mx0_5 Mx0_6 Mx0_7 Mx0_8 Mx0_9 Mx0_10 Mx0_11 Mx0_12 Mx0_13 My1 My2 Mx3_0 Mx4_0 My5  q115) (v_M_execute_s11 hk k_258 ⟨Nat.le_of_ble_eq_true rfl, Nat.le_of_ble_eq_true rfl⟩) (pMC_v hK hPc hDc hC hS hA (ci := 1) (q0 := 0) rfl rfl rfl) rfl rfl hl.1 rfl (lv_room (Nat.le_of_ble_eq_true rfl)) d_S_run_35 ⟨by decide, by decide⟩) hS (fun q _ h => hFc q h) hFc (fun rz149 u t H locs ht hvm hr0 hB hzq hkq hS => ?_)
                                obtain ⟨Mx0_4z149, Mx0_5z149, Mx0_6z149, Mx0_7z149, Mx0_9z149, Mx0_10z149, Mx0_11z149, Mx0_12z149, Mx0_13z149, My1z149, My2z149, Mx3_0z149, Mx4_0z149, hP1, hD1⟩ := hB
                                rw [ht] at hP1
                                obtain ⟨hP, hD⟩ := va_join (wr := (wS54 cI cJ cZ cB p0 m0)) (w1 := (wS58 cI cJ cZ cB m0 m1 m2 m3 m4 m5 Mx0_4z149 Mx0_5z149 Mx0_6z149 Mx0_7z149 Mx0_8 Mx0_9z149 Mx0_10z149 Mx0_11z149 Mx0_12z149 Mx0_13z149 My1z149 My2z149 Mx3_0z149 Mx4_0z149 My5)) hP hD [1, 2, 3, 4, 5, 6] [0] rfl rfl (by decide) (by decide) hkq hFc hP1 hD1
                                have hP := hP.sub (ws' := ((wS54 cI cJ cZ cB p0 m0) ++ (wS58 cI cJ cZ cB m0 m1 m2 m3 m4 m5 Mx0_4z149 Mx0_5z149 Mx0_6z149 Mx0_7z149 Mx0_8 Mx0_9z149 Mx0_10z149 Mx0_11z149 Mx0_12z149 Mx0_13z149 My1z149 My2z149 Mx3_0z149 Mx4_0z149 My5))) [0, 1, 2, 3, 4, 5, 6] rfl
                                have hD := hD.sub (ws' := ((wS54 cI cJ cZ cB p0 m0) ++ (wS58 cI cJ cZ cB m0 m1 m2 m3 m4 m5 Mx0_4z149 Mx0_5z149 Mx0_6z149 Mx0_7z149 Mx0_8 Mx0_9z149 Mx0_10z149 Mx0_11z149 Mx0_12z149 Mx0_13z149 My1z149 My2z149 Mx3_0z149 Mx4_0z149 My5))) [0, 1, 2, 3, 4, 5, 6] (by decide) rfl
                                have hP : va_P D classes ((wS54 cI cJ cZ cB p0 m0) ++ (wS58 cI cJ cZ cB m0 m1 m2 m3 m4 m5 Mx0_4z149 Mx0_5z149 Mx0_6z149 Mx0_7z149 Mx0_8 Mx0_9z149 Mx0_10z149 Mx0_11z149 Mx0_12z149 Mx0_13z149 My1z149 My2z149 Mx3_0z149 Mx4_0z149 My5)) H := hP
                                have hD : va_D A ((wS54 cI cJ cZ cB p0 m0) ++ (wS58 cI cJ cZ cB m0 m1 m2 m3 m4 m5 Mx0_4z149 Mx0_5z149 Mx0_6z149 Mx0_7z149 Mx0_8 Mx0_9z149 Mx0_10z149 Mx0_11z149 Mx0_12z149 Mx0_13z149 My1z149 My2z149 Mx3_0z149 Mx4_0z149 My5)) := hD
                                clear hPc hDc hFc
                                refine lv_istore_n (lv' := [(3, .int rz149), (4, .int l4), (2, .int l2), (0, .ref p0), (1, .int a1)]) hx hb d_S_run_38 rfl hl (by decide) rfl (fun ls hl => ?_)
                                refine lv_iload_n hx hb d_S_run_39 rfl (lv_at hl 0 rfl) ?_
                                refine lv_iconst (v := 1) hx hb d_S_run_40 (by decide) ?_
                                refine lv_icmp_gt (tgt := 47) hx hb d_S_run_41 (by decide) (fun c150 => ?_) (fun c150 => ?_)
                                · obtain ⟨v151, hv151⟩ : ∃ y : Int32, y = (l4 + (1 : Int32)) := ⟨_, rfl⟩
                                  refine lv_iinc (v := v151) (lv' := [(4, .int v151), (3, .int rz149), (2, .int l2), (0, .ref p0), (1, .int a1)]) hx hb d_S_run_47 hl (k := 1) rfl (by rw [hv151]; rfl) (by decide) rfl (fun ls hl => ?_)
                                  refine lv_goto (tgt := 21) hx hb d_S_run_50 (by decide) ?_
                                  exact ih v151 rz149 l2 Mx0_4z149 Mx0_5z149 Mx0_6z149 Mx0_7z149 Mx0_8 Mx0_9z149 Mx0_10z149 Mx0_11z149 Mx0_12z149 Mx0_13z149 My1z149 My2z149 Mx3_0z149 Mx4_0z149 My5 H _ ls (lpu c113 hv151 hn21_x2) (lpn hc21_x2 c113 hv151) hP hD hS (lv_sub hl [0, 1, 2, 3, 4] rfl)
                                · obtain ⟨v152, hv152⟩ : ∃ y : Int32, y = (l2 + (1 : Int32)) := ⟨_, rfl⟩
                                  refine lv_iinc (v := v152) (lv' := [(2, .int v152), (3, .int rz149), (4, .int l4), (0, .ref p0), (1, .int a1)]) hx hb d_S_run_44 hl (k := 2) rfl (by rw [hv152]; rfl) (by decide) rfl (fun ls hl => ?_)
                                  obtain ⟨v153, hv153⟩ : ∃ y : Int32, y = (l4 + (1 : Int32)) := ⟨_, rfl⟩
                                  refine lv_iinc (v := v153) (lv' := [(4, .int v153), (2, .int v152), (3, .int rz149), (0, .ref p0), (1, .int a1)]) hx hb d_S_run_47 hl (k := 2) rfl (by rw [hv153]; rfl) (by decide) rfl (fun ls hl => ?_)
                                  refine lv_goto (tgt := 21) hx hb d_S_run_50 (by decide) ?_
                                  exact ih v153 rz149 v152 Mx0_4z149 Mx0_5z149 Mx0_6z149 Mx0_7z149 Mx0_8 Mx0_9z149 Mx0_10z149 Mx0_11z149 Mx0_12z149 Mx0_13z149 My1z149 My2z149 Mx3_0z149 Mx4_0z149 My5 H _ ls (lpu c113 hv153 hn21_x2) (lpn hc21_x2 c113 hv153) hP hD hS (lv_sub hl [0, 2, 1, 3, 4] rfl)
                      exact LP21_x2 _ v112 rz102 l2 Mx0_4 Mx0_5 Mx0_6z102 Mx0_7z102 Mx0_8 Mx0_9z102 Mx0_10z102 Mx0_11z102 Mx0_12z102 Mx0_13z102 My1 My2 Mx3_0 Mx4_0z102 My5z102 H _ ls (Nat.lt_succ_self _) (lpn hc21_x0 c3 hv112) hP hD hS hl
                    · obtain ⟨v154, hv154⟩ : ∃ y : Int32, y = (l2 + (1 : Int32)) := ⟨_, rfl⟩
                      refine lv_iinc (v := v154) (lv' := [(2, .int v154), (3, .int rz102), (4, .int l4), (0, .ref p0), (1, .int a1)]) hx hb d_S_run_44 hl (k := 2) rfl (by rw [hv154]; rfl) (by decide) rfl (fun ls hl => ?_)
                      obtain ⟨v155, hv155⟩ : ∃ y : Int32, y = (l4 + (1 : Int32)) := ⟨_, rfl⟩
                      refine lv_iinc (v := v155) (lv' := [(4, .int v155), (2, .int v154), (3, .int rz102), (0, .ref p0), (1, .int a1)]) hx hb d_S_run_47 hl (k := 2) rfl (by rw [hv155]; rfl) (by decide) rfl (fun ls hl => ?_)
                      refine lv_goto (tgt := 21) hx hb d_S_run_50 (by decide) ?_
                      have LP21_x2 : ∀ (n : Nat) (l4 : Int32) (l2 : Int32) (l3 : Int32) (Mx0_4 : Bool) (Mx0_5 : Int32) (Mx0_6 : Int32) (Mx0_7 : Int32) (Mx0_8 : Int32) (Mx0_9 : Int32) (Mx0_10 : Int32) (Mx0_11 : Int32) (Mx0_12 : Int32) (Mx0_13 : Int32) (My1 : Nat → Int32) (My2 : Nat → Int32) (Mx3_0 : Int32) (Mx4_0 : Int32) (My5 : Nat → Int32) (H : Heap) (locs : List Loc) (ls : Array Slot), ((a1).toInt - (l4).toInt).toNat < n → ¬ l4 < (0 : Int32) → va_P D classes ((wS54 cI cJ cZ cB p0 m0) ++ (wS58 cI cJ cZ cB m0 m1 m2 m3 m4 m5 Mx0_4 Mx0_5 Mx0_6 Mx0_7 Mx0_8 Mx0_9 Mx0_10 Mx0_11 Mx0_12 Mx0_13 My1 My2 Mx3_0 Mx4_0 My5)) H → va_D A ((wS54 cI cJ cZ cB p0 m0) ++ (wS58 cI cJ cZ cB m0 m1 m2 m3 m4 m5 Mx0_4 Mx0_5 Mx0_6 Mx0_7 Mx0_8 Mx0_9 Mx0_10 Mx0_11 Mx0_12 Mx0_13 My1 My2 Mx3_0 Mx4_0 My5)) → va_S A s.heap H locs → lv_has ls 5 [(4, .int l4), (2, .int l2), (3, .int l3), (0, .ref p0), (1, .int a1)] → W p l e ({ frames := 7, cells := 2, slots := 8000, locals := 151 }) s m [.ref p0, .int a1].toArray below meth c H locs 1 4000 (MQ below (va_Qi (fun r (uL : Int32) => uL = (0 : Int32)) (fun uL t => ∃ W9 : va_W, isC K cI cJ cZ cB p0 uL W9 ∧ va_P D classes W9 t.heap ∧ va_D A W9) A) [.ref p0, .int a1].toArray s 2 8000 A) (F0 m 21 ls []) := by
                        intro n
                        induction n with
                        | zero => intro l4 l2 l3 Mx0_4 Mx0_5 Mx0_6 Mx0_7 Mx0_8 Mx0_9 Mx0_10 Mx0_11 Mx0_12 Mx0_13 My1 My2 Mx3_0 Mx4_0 My5 H locs ls hn; exact absurd hn (Nat.not_lt_zero _)
                        | succ n ih =>
                          intro l4 l2 l3 Mx0_4 Mx0_5 Mx0_6 Mx0_7 Mx0_8 Mx0_9 Mx0_10 Mx0_11 Mx0_12 Mx0_13 My1 My2 Mx3_0 Mx4_0 My5 H locs ls hn21_x2 hc21_x2 hP hD hS hl
                          refine lv_iload hx hb d_S_run_21 (lv_at hl 0 rfl) ?_
                          refine lv_iload_n hx hb d_S_run_23 rfl (lv_at hl 4 rfl) ?_
                          refine lv_icmp_ge (tgt := 53) hx hb d_S_run_24 (by decide) (fun c156 => ?_) (fun c156 => ?_)
                          · refine lv_aload_n hx hb d_S_run_53 rfl (lv_at hl 3 rfl) ?_
                            refine va_get (D := D) (ci := 0) (v := .ref m0) (C := "SignMachine") (T := F_S) (N := 2) hx hb hk fi_S hown hK.1 hP 0 rfl rfl 0 (by decide) (hk _ k_210) (fun _ h9 => h9) rfl d_S_run_54 ?_
                            refine lv_iload_n hx hb d_S_run_57 rfl (lv_at hl 2 rfl) ?_
                            refine va_putN (D := D) (ci := 1) (v := .int l3) (ty := .int) (C := "SignMachine$Machine") (T := F_M) (N := 14) hx hb hk fi_M ft_M ft_M_ok fn_M hown hK.1 hP hD hS 1 rfl rfl 8 (by decide) (va_Nw.use rfl (hK.2 _ n_175)) (fun _ h9 => h9) rfl (by decide +kernel) rfl rfl (Nat.le_of_ble_eq_true rfl) d_S_run_58 (fun H locs hP hD hS => ?_)
                            have hP : va_P D classes ((wS54 cI cJ cZ cB p0 m0) ++ (wS58 cI cJ cZ cB m0 m1 m2 m3 m4 m5 Mx0_4 Mx0_5 Mx0_6 Mx0_7 l3 Mx0_9 Mx0_10 Mx0_11 Mx0_12 Mx0_13 My1 My2 Mx3_0 Mx4_0 My5)) H := hP
                            have hD : va_D A ((wS54 cI cJ cZ cB p0 m0) ++ (wS58 cI cJ cZ cB m0 m1 m2 m3 m4 m5 Mx0_4 Mx0_5 Mx0_6 Mx0_7 l3 Mx0_9 Mx0_10 Mx0_11 Mx0_12 Mx0_13 My1 My2 Mx3_0 Mx4_0 My5)) := hD
                            refine lv_iload_n hx hb d_S_run_61 rfl (lv_at hl 1 rfl) ?_
                            refine W.widen (k := 2) (n := 8000) (by decide) (by decide) ?_
                            exact W.iret (v := l2) hx hb hr (fun t ht hW => ⟨⟨l2, (0 : Int32), rfl, rfl, ⟨_, isC_2, (by show va_P D classes _ t.heap; rw [ht]; exact hP), hD⟩⟩, hS.F ht⟩) hS.2.2 d_S_run_62
                          · refine lv_iload_n hx hb d_S_run_27 rfl (lv_at hl 2 rfl) ?_
                            refine lv_if_ne (tgt := 53) hx hb d_S_run_28 (by decide) (fun c157 => ?_) (fun c157 => ?_)
                            · refine lv_aload_n hx hb d_S_run_53 rfl (lv_at hl 3 rfl) ?_
                              refine va_get (D := D) (ci := 0) (v := .ref m0) (C := "SignMachine") (T := F_S) (N := 2) hx hb hk fi_S hown hK.1 hP 0 rfl rfl 0 (by decide) (hk _ k_210) (fun _ h9 => h9) rfl d_S_run_54 ?_
                              refine lv_iload_n hx hb d_S_run_57 rfl (lv_at hl 2 rfl) ?_
                              refine va_putN (D := D) (ci := 1) (v := .int l3) (ty := .int) (C := "SignMachine$Machine") (T := F_M) (N := 14) hx hb hk fi_M ft_M ft_M_ok fn_M hown hK.1 hP hD hS 1 rfl rfl 8 (by decide) (va_Nw.use rfl (hK.2 _ n_175)) (fun _ h9 => h9) rfl (by decide +kernel) rfl rfl (Nat.le_of_ble_eq_true rfl) d_S_run_58 (fun H locs hP hD hS => ?_)
                              have hP : va_P D classes ((wS54 cI cJ cZ cB p0 m0) ++ (wS58 cI cJ cZ cB m0 m1 m2 m3 m4 m5 Mx0_4 Mx0_5 Mx0_6 Mx0_7 l3 Mx0_9 Mx0_10 Mx0_11 Mx0_12 Mx0_13 My1 My2 Mx3_0 Mx4_0 My5)) H := hP
                              have hD : va_D A ((wS54 cI cJ cZ cB p0 m0) ++ (wS58 cI cJ cZ cB m0 m1 m2 m3 m4 m5 Mx0_4 Mx0_5 Mx0_6 Mx0_7 l3 Mx0_9 Mx0_10 Mx0_11 Mx0_12 Mx0_13 My1 My2 Mx3_0 Mx4_0 My5)) := hD
                              refine lv_iload_n hx hb d_S_run_61 rfl (lv_at hl 1 rfl) ?_
                              refine W.widen (k := 2) (n := 8000) (by decide) (by decide) ?_
                              exact W.iret (v := l2) hx hb hr (fun t ht hW => ⟨⟨l2, (0 : Int32), rfl, rfl, ⟨_, isC_2, (by show va_P D classes _ t.heap; rw [ht]; exact hP), hD⟩⟩, hS.F ht⟩) hS.2.2 d_S_run_62
                            · refine lv_aload_n hx hb d_S_run_31 rfl (lv_at hl 3 rfl) ?_
                              refine va_get (D := D) (ci := 0) (v := .ref m0) (C := "SignMachine") (T := F_S) (N := 2) hx hb hk fi_S hown hK.1 hP 0 rfl rfl 0 (by decide) (hk _ k_210) (fun _ h9 => h9) rfl d_S_run_32 ?_
                              by_cases q158 : ((f_W_size (f_mw My1 Mx0_7)) &&& (63 : Int32)) = (37 : Int32)
                              · by_cases q159 : (((f_W_size (f_mw My1 Mx0_7)) >>> ((6 : Int32) &&& (31 : Int32))) &&& (63 : Int32)) = (0 : Int32)
                                · have hPc := hP.sub (ws' := (wS58 cI cJ cZ cB m0 m1 m2 m3 m4 m5 Mx0_4 Mx0_5 Mx0_6 Mx0_7 Mx0_8 Mx0_9 Mx0_10 Mx0_11 Mx0_12 Mx0_13 My1 My2 Mx3_0 Mx4_0 My5)) [1, 2, 3, 4, 5, 6] rfl
                                  have hDc := hD.sub (ws' := (wS58 cI cJ cZ cB m0 m1 m2 m3 m4 m5 Mx0_4 Mx0_5 Mx0_6 Mx0_7 Mx0_8 Mx0_9 Mx0_10 Mx0_11 Mx0_12 Mx0_13 My1 My2 Mx3_0 Mx4_0 My5)) [1, 2, 3, 4, 5, 6] (by decide) rfl
                                  have hFc := va_free (wc := (wS58 cI cJ cZ cB m0 m1 m2 m3 m4 m5 Mx0_4 Mx0_5 Mx0_6 Mx0_7 Mx0_8 Mx0_9 Mx0_10 Mx0_11 Mx0_12 Mx0_13 My1 My2 Mx3_0 Mx4_0 My5)) hD hS hA [1, 2, 3, 4, 5, 6] rfl
                                  refine va_calli (va_runV (C := "SignMachine$Machine") (As := []) (rest := []) ⟨hx, hb, hml, hown, hk⟩ (c_M_execute_s8 l K D cI cJ cZ cB m0 m1 m2 m3 m4 m5 H.size Mx0_4 Mx0_5 Mx0_6 Mx0_7 Mx0_8 Mx0_9 Mx0_10 Mx0_11 Mx0_12 Mx0_13 My1 My2 Mx3_0 Mx4_0 My5  q158 q159) (v_M_execute_s8 hk k_258 ⟨Nat.le_of_ble_eq_true rfl, Nat.le_of_ble_eq_true rfl⟩) (pMC_v hK hPc hDc hC hS hA (ci := 1) (q0 := 0) rfl rfl rfl) rfl rfl hl.1 rfl (lv_room (Nat.le_of_ble_eq_true rfl)) d_S_run_35 ⟨by decide, by decide⟩) hS (fun q _ h => hFc q h) hFc (fun rz160 u t H locs ht hvm hr0 hB hzq hkq hS => ?_)
                                  subst hr0
                                  rcases hB with ⟨hzz160, Mx0_6z160, Mx0_7z160, Mx0_9z160, Mx0_10z160, Mx0_11z160, Mx0_12z160, Mx0_13z160, Mx3_0z160, hP1, hD1⟩ | ⟨m6, Mx0_6z160, Mx0_7z160, Mx0_9z160, Mx0_10z160, Mx0_11z160, Mx0_12z160, Mx0_13z160, Mx3_0z160, My6z160, hP1, hD1⟩
                                  · rw [ht] at hP1
                                    obtain ⟨hP, hD⟩ := va_join (wr := (wS54 cI cJ cZ cB p0 m0)) (w1 := (wS58 cI cJ cZ cB m0 m1 m2 m3 m4 m5 Mx0_4 Mx0_5 Mx0_6z160 Mx0_7z160 Mx0_8 Mx0_9z160 Mx0_10z160 Mx0_11z160 Mx0_12z160 Mx0_13z160 My1 My2 Mx3_0z160 Mx4_0 My5)) hP hD [1, 2, 3, 4, 5, 6] [0] rfl rfl (by decide) (by decide) hkq hFc hP1 hD1
                                    have hP := hP.sub (ws' := ((wS54 cI cJ cZ cB p0 m0) ++ (wS58 cI cJ cZ cB m0 m1 m2 m3 m4 m5 Mx0_4 Mx0_5 Mx0_6z160 Mx0_7z160 Mx0_8 Mx0_9z160 Mx0_10z160 Mx0_11z160 Mx0_12z160 Mx0_13z160 My1 My2 Mx3_0z160 Mx4_0 My5))) [0, 1, 2, 3, 4, 5, 6] rfl
                                    have hD := hD.sub (ws' := ((wS54 cI cJ cZ cB p0 m0) ++ (wS58 cI cJ cZ cB m0 m1 m2 m3 m4 m5 Mx0_4 Mx0_5 Mx0_6z160 Mx0_7z160 Mx0_8 Mx0_9z160 Mx0_10z160 Mx0_11z160 Mx0_12z160 Mx0_13z160 My1 My2 Mx3_0z160 Mx4_0 My5))) [0, 1, 2, 3, 4, 5, 6] (by decide) rfl
                                    have hP : va_P D classes ((wS54 cI cJ cZ cB p0 m0) ++ (wS58 cI cJ cZ cB m0 m1 m2 m3 m4 m5 Mx0_4 Mx0_5 Mx0_6z160 Mx0_7z160 Mx0_8 Mx0_9z160 Mx0_10z160 Mx0_11z160 Mx0_12z160 Mx0_13z160 My1 My2 Mx3_0z160 Mx4_0 My5)) H := hP
                                    have hD : va_D A ((wS54 cI cJ cZ cB p0 m0) ++ (wS58 cI cJ cZ cB m0 m1 m2 m3 m4 m5 Mx0_4 Mx0_5 Mx0_6z160 Mx0_7z160 Mx0_8 Mx0_9z160 Mx0_10z160 Mx0_11z160 Mx0_12z160 Mx0_13z160 My1 My2 Mx3_0z160 Mx4_0 My5)) := hD
                                    clear hPc hDc hFc
                                    refine W.widen (k := 2) (n := 8000) (by decide) (by decide) ?_
                                    refine lv_istore_n (lv' := [(3, .int rz160), (4, .int l4), (2, .int l2), (0, .ref p0), (1, .int a1)]) hx hb d_S_run_38 rfl hl (by decide) rfl (fun ls hl => ?_)
                                    refine lv_iload_n hx hb d_S_run_39 rfl (lv_at hl 0 rfl) ?_
                                    refine lv_iconst (v := 1) hx hb d_S_run_40 (by decide) ?_
                                    refine lv_icmp_gt (tgt := 47) hx hb d_S_run_41 (by decide) (fun c161 => ?_) (fun c161 => ?_)
                                    · obtain ⟨v162, hv162⟩ : ∃ y : Int32, y = (l4 + (1 : Int32)) := ⟨_, rfl⟩
                                      refine lv_iinc (v := v162) (lv' := [(4, .int v162), (3, .int rz160), (2, .int l2), (0, .ref p0), (1, .int a1)]) hx hb d_S_run_47 hl (k := 1) rfl (by rw [hv162]; rfl) (by decide) rfl (fun ls hl => ?_)
                                      refine lv_goto (tgt := 21) hx hb d_S_run_50 (by decide) ?_
                                      refine lv_iload hx hb d_S_run_21 (lv_at hl 0 rfl) ?_
                                      refine lv_iload_n hx hb d_S_run_23 rfl (lv_at hl 4 rfl) ?_
                                      refine lv_icmp_ge (tgt := 53) hx hb d_S_run_24 (by decide) (fun c163 => ?_) (fun c163 => ?_)
                                      · refine lv_aload_n hx hb d_S_run_53 rfl (lv_at hl 3 rfl) ?_
                                        refine va_get (D := D) (ci := 0) (v := .ref m0) (C := "SignMachine") (T := F_S) (N := 2) hx hb hk fi_S hown hK.1 hP 0 rfl rfl 0 (by decide) (hk _ k_210) (fun _ h9 => h9) rfl d_S_run_54 ?_
                                        refine lv_iload_n hx hb d_S_run_57 rfl (lv_at hl 1 rfl) ?_
                                        refine va_putN (D := D) (ci := 1) (v := .int rz160) (ty := .int) (C := "SignMachine$Machine") (T := F_M) (N := 14) hx hb hk fi_M ft_M ft_M_ok fn_M hown hK.1 hP hD hS 1 rfl rfl 8 (by decide) (va_Nw.use rfl (hK.2 _ n_175)) (fun _ h9 => h9) rfl (by decide +kernel) rfl rfl (Nat.le_of_ble_eq_true rfl) d_S_run_58 (fun H locs hP hD hS => ?_)
                                        have hP : va_P D classes ((wS54 cI cJ cZ cB p0 m0) ++ (wS58 cI cJ cZ cB m0 m1 m2 m3 m4 m5 Mx0_4 Mx0_5 Mx0_6z160 Mx0_7z160 rz160 Mx0_9z160 Mx0_10z160 Mx0_11z160 Mx0_12z160 Mx0_13z160 My1 My2 Mx3_0z160 Mx4_0 My5)) H := hP
                                        have hD : va_D A ((wS54 cI cJ cZ cB p0 m0) ++ (wS58 cI cJ cZ cB m0 m1 m2 m3 m4 m5 Mx0_4 Mx0_5 Mx0_6z160 Mx0_7z160 rz160 Mx0_9z160 Mx0_10z160 Mx0_11z160 Mx0_12z160 Mx0_13z160 My1 My2 Mx3_0z160 Mx4_0 My5)) := hD
                                        refine lv_iload_n hx hb d_S_run_61 rfl (lv_at hl 2 rfl) ?_
                                        exact W.iret (v := l2) hx hb hr (fun t ht hW => ⟨⟨l2, (0 : Int32), rfl, rfl, ⟨_, isC_2, (by show va_P D classes _ t.heap; rw [ht]; exact hP), hD⟩⟩, hS.F ht⟩) hS.2.2 d_S_run_62
                                      · refine lv_iload_n hx hb d_S_run_27 rfl (lv_at hl 1 rfl) ?_
                                        refine lv_if_ne (tgt := 53) hx hb d_S_run_28 (by decide) (fun c164 => ?_) (fun c164 => absurd c164 (show ¬ rz160 = (0 : Int32) from hzz160))
                                        refine lv_aload_n hx hb d_S_run_53 rfl (lv_at hl 3 rfl) ?_
                                        refine va_get (D := D) (ci := 0) (v := .ref m0) (C := "SignMachine") (T := F_S) (N := 2) hx hb hk fi_S hown hK.1 hP 0 rfl rfl 0 (by decide) (hk _ k_210) (fun _ h9 => h9) rfl d_S_run_54 ?_
                                        refine lv_iload_n hx hb d_S_run_57 rfl (lv_at hl 1 rfl) ?_
                                        refine va_putN (D := D) (ci := 1) (v := .int rz160) (ty := .int) (C := "SignMachine$Machine") (T := F_M) (N := 14) hx hb hk fi_M ft_M ft_M_ok fn_M hown hK.1 hP hD hS 1 rfl rfl 8 (by decide) (va_Nw.use rfl (hK.2 _ n_175)) (fun _ h9 => h9) rfl (by decide +kernel) rfl rfl (Nat.le_of_ble_eq_true rfl) d_S_run_58 (fun H locs hP hD hS => ?_)
                                        have hP : va_P D classes ((wS54 cI cJ cZ cB p0 m0) ++ (wS58 cI cJ cZ cB m0 m1 m2 m3 m4 m5 Mx0_4 Mx0_5 Mx0_6z160 Mx0_7z160 rz160 Mx0_9z160 Mx0_10z160 Mx0_11z160 Mx0_12z160 Mx0_13z160 My1 My2 Mx3_0z160 Mx4_0 My5)) H := hP
                                        have hD : va_D A ((wS54 cI cJ cZ cB p0 m0) ++ (wS58 cI cJ cZ cB m0 m1 m2 m3 m4 m5 Mx0_4 Mx0_5 Mx0_6z160 Mx0_7z160 rz160 Mx0_9z160 Mx0_10z160 Mx0_11z160 Mx0_12z160 Mx0_13z160 My1 My2 Mx3_0z160 Mx4_0 My5)) := hD
                                        refine lv_iload_n hx hb d_S_run_61 rfl (lv_at hl 2 rfl) ?_
                                        exact W.iret (v := l2) hx hb hr (fun t ht hW => ⟨⟨l2, (0 : Int32), rfl, rfl, ⟨_, isC_2, (by show va_P D classes _ t.heap; rw [ht]; exact hP), hD⟩⟩, hS.F ht⟩) hS.2.2 d_S_run_62
                                    · obtain ⟨v165, hv165⟩ : ∃ y : Int32, y = (l2 + (1 : Int32)) := ⟨_, rfl⟩
                                      refine lv_iinc (v := v165) (lv' := [(2, .int v165), (3, .int rz160), (4, .int l4), (0, .ref p0), (1, .int a1)]) hx hb d_S_run_44 hl (k := 2) rfl (by rw [hv165]; rfl) (by decide) rfl (fun ls hl => ?_)
                                      obtain ⟨v166, hv166⟩ : ∃ y : Int32, y = (l4 + (1 : Int32)) := ⟨_, rfl⟩
                                      refine lv_iinc (v := v166) (lv' := [(4, .int v166), (2, .int v165), (3, .int rz160), (0, .ref p0), (1, .int a1)]) hx hb d_S_run_47 hl (k := 2) rfl (by rw [hv166]; rfl) (by decide) rfl (fun ls hl => ?_)
                                      refine lv_goto (tgt := 21) hx hb d_S_run_50 (by decide) ?_
                                      refine lv_iload hx hb d_S_run_21 (lv_at hl 0 rfl) ?_
                                      refine lv_iload_n hx hb d_S_run_23 rfl (lv_at hl 4 rfl) ?_
                                      refine lv_icmp_ge (tgt := 53) hx hb d_S_run_24 (by decide) (fun c167 => ?_) (fun c167 => ?_)
                                      · refine lv_aload_n hx hb d_S_run_53 rfl (lv_at hl 3 rfl) ?_
                                        refine va_get (D := D) (ci := 0) (v := .ref m0) (C := "SignMachine") (T := F_S) (N := 2) hx hb hk fi_S hown hK.1 hP 0 rfl rfl 0 (by decide) (hk _ k_210) (fun _ h9 => h9) rfl d_S_run_54 ?_
                                        refine lv_iload_n hx hb d_S_run_57 rfl (lv_at hl 2 rfl) ?_
                                        refine va_putN (D := D) (ci := 1) (v := .int rz160) (ty := .int) (C := "SignMachine$Machine") (T := F_M) (N := 14) hx hb hk fi_M ft_M ft_M_ok fn_M hown hK.1 hP hD hS 1 rfl rfl 8 (by decide) (va_Nw.use rfl (hK.2 _ n_175)) (fun _ h9 => h9) rfl (by decide +kernel) rfl rfl (Nat.le_of_ble_eq_true rfl) d_S_run_58 (fun H locs hP hD hS => ?_)
                                        have hP : va_P D classes ((wS54 cI cJ cZ cB p0 m0) ++ (wS58 cI cJ cZ cB m0 m1 m2 m3 m4 m5 Mx0_4 Mx0_5 Mx0_6z160 Mx0_7z160 rz160 Mx0_9z160 Mx0_10z160 Mx0_11z160 Mx0_12z160 Mx0_13z160 My1 My2 Mx3_0z160 Mx4_0 My5)) H := hP
                                        have hD : va_D A ((wS54 cI cJ cZ cB p0 m0) ++ (wS58 cI cJ cZ cB m0 m1 m2 m3 m4 m5 Mx0_4 Mx0_5 Mx0_6z160 Mx0_7z160 rz160 Mx0_9z160 Mx0_10z160 Mx0_11z160 Mx0_12z160 Mx0_13z160 My1 My2 Mx3_0z160 Mx4_0 My5)) := hD
                                        refine lv_iload_n hx hb d_S_run_61 rfl (lv_at hl 1 rfl) ?_
                                        exact W.iret (v := v165) hx hb hr (fun t ht hW => ⟨⟨v165, (0 : Int32), rfl, rfl, ⟨_, isC_2, (by show va_P D classes _ t.heap; rw [ht]; exact hP), hD⟩⟩, hS.F ht⟩) hS.2.2 d_S_run_62
                                      · refine lv_iload_n hx hb d_S_run_27 rfl (lv_at hl 2 rfl) ?_
                                        refine lv_if_ne (tgt := 53) hx hb d_S_run_28 (by decide) (fun c168 => ?_) (fun c168 => absurd c168 (show ¬ rz160 = (0 : Int32) from hzz160))
                                        refine lv_aload_n hx hb d_S_run_53 rfl (lv_at hl 3 rfl) ?_
                                        refine va_get (D := D) (ci := 0) (v := .ref m0) (C := "SignMachine") (T := F_S) (N := 2) hx hb hk fi_S hown hK.1 hP 0 rfl rfl 0 (by decide) (hk _ k_210) (fun _ h9 => h9) rfl d_S_run_54 ?_
                                        refine lv_iload_n hx hb d_S_run_57 rfl (lv_at hl 2 rfl) ?_
                                        refine va_putN (D := D) (ci := 1) (v := .int rz160) (ty := .int) (C := "SignMachine$Machine") (T := F_M) (N := 14) hx hb hk fi_M ft_M ft_M_ok fn_M hown hK.1 hP hD hS 1 rfl rfl 8 (by decide) (va_Nw.use rfl (hK.2 _ n_175)) (fun _ h9 => h9) rfl (by decide +kernel) rfl rfl (Nat.le_of_ble_eq_true rfl) d_S_run_58 (fun H locs hP hD hS => ?_)
                                        have hP : va_P D classes ((wS54 cI cJ cZ cB p0 m0) ++ (wS58 cI cJ cZ cB m0 m1 m2 m3 m4 m5 Mx0_4 Mx0_5 Mx0_6z160 Mx0_7z160 rz160 Mx0_9z160 Mx0_10z160 Mx0_11z160 Mx0_12z160 Mx0_13z160 My1 My2 Mx3_0z160 Mx4_0 My5)) H := hP
                                        have hD : va_D A ((wS54 cI cJ cZ cB p0 m0) ++ (wS58 cI cJ cZ cB m0 m1 m2 m3 m4 m5 Mx0_4 Mx0_5 Mx0_6z160 Mx0_7z160 rz160 Mx0_9z160 Mx0_10z160 Mx0_11z160 Mx0_12z160 Mx0_13z160 My1 My2 Mx3_0z160 Mx4_0 My5)) := hD
                                        refine lv_iload_n hx hb d_S_run_61 rfl (lv_at hl 1 rfl) ?_
                                        exact W.iret (v := v165) hx hb hr (fun t ht hW => ⟨⟨v165, (0 : Int32), rfl, rfl, ⟨_, isC_2, (by show va_P D classes _ t.heap; rw [ht]; exact hP), hD⟩⟩, hS.F ht⟩) hS.2.2 d_S_run_62
                                  · rw [ht] at hP1
                                    obtain ⟨hP, hD⟩ := va_join (wr := (wS54 cI cJ cZ cB p0 m0)) (w1 := (wS62 cI cJ cZ cB m0 m1 m2 m3 m4 m5 m6 Mx0_4 Mx0_5 Mx0_6z160 Mx0_7z160 Mx0_8 Mx0_9z160 Mx0_10z160 Mx0_11z160 Mx0_12z160 Mx0_13z160 My1 My2 Mx3_0z160 Mx4_0 My5 My6z160)) hP hD [1, 2, 3, 4, 5, 6] [0] rfl rfl (by decide) (by decide) hkq hFc hP1 hD1
                                    have hP := hP.sub (ws' := ((wS54 cI cJ cZ cB p0 m0) ++ (wS62 cI cJ cZ cB m0 m1 m2 m3 m4 m5 m6 Mx0_4 Mx0_5 Mx0_6z160 Mx0_7z160 Mx0_8 Mx0_9z160 Mx0_10z160 Mx0_11z160 Mx0_12z160 Mx0_13z160 My1 My2 Mx3_0z160 Mx4_0 My5 My6z160))) [0, 1, 2, 3, 4, 5, 6, 7] rfl
                                    have hD := hD.sub (ws' := ((wS54 cI cJ cZ cB p0 m0) ++ (wS62 cI cJ cZ cB m0 m1 m2 m3 m4 m5 m6 Mx0_4 Mx0_5 Mx0_6z160 Mx0_7z160 Mx0_8 Mx0_9z160 Mx0_10z160 Mx0_11z160 Mx0_12z160 Mx0_13z160 My1 My2 Mx3_0z160 Mx4_0 My5 My6z160))) [0, 1, 2, 3, 4, 5, 6, 7] (by decide) rfl
                                    have hP : va_P D classes ((wS54 cI cJ cZ cB p0 m0) ++ (wS62 cI cJ cZ cB m0 m1 m2 m3 m4 m5 m6 Mx0_4 Mx0_5 Mx0_6z160 Mx0_7z160 Mx0_8 Mx0_9z160 Mx0_10z160 Mx0_11z160 Mx0_12z160 Mx0_13z160 My1 My2 Mx3_0z160 Mx4_0 My5 My6z160)) H := hP
                                    have hD : va_D A ((wS54 cI cJ cZ cB p0 m0) ++ (wS62 cI cJ cZ cB m0 m1 m2 m3 m4 m5 m6 Mx0_4 Mx0_5 Mx0_6z160 Mx0_7z160 Mx0_8 Mx0_9z160 Mx0_10z160 Mx0_11z160 Mx0_12z160 Mx0_13z160 My1 My2 Mx3_0z160 Mx4_0 My5 My6z160)) := hD
                                    clear hPc hDc hFc
                                    refine W.widen (k := 2) (n := 8000) (by decide) (by decide) ?_
                                    refine lv_istore_n (lv' := [(3, .int rz160), (4, .int l4), (2, .int l2), (0, .ref p0), (1, .int a1)]) hx hb d_S_run_38 rfl hl (by decide) rfl (fun ls hl => ?_)
                                    refine lv_iload_n hx hb d_S_run_39 rfl (lv_at hl 0 rfl) ?_
                                    refine lv_iconst (v := 1) hx hb d_S_run_40 (by decide) ?_
                                    refine lv_icmp_gt (tgt := 47) hx hb d_S_run_41 (by decide) (fun c169 => ?_) (fun c169 => ?_)
                                    · obtain ⟨v170, hv170⟩ : ∃ y : Int32, y = (l4 + (1 : Int32)) := ⟨_, rfl⟩
                                      refine lv_iinc (v := v170) (lv' := [(4, .int v170), (3, .int rz160), (2, .int l2), (0, .ref p0), (1, .int a1)]) hx hb d_S_run_47 hl (k := 1) rfl (by rw [hv170]; rfl) (by decide) rfl (fun ls hl => ?_)
                                      refine lv_goto (tgt := 21) hx hb d_S_run_50 (by decide) ?_
                                      have LP21_x4 : ∀ (n : Nat) (l4 : Int32) (l3 : Int32) (l2 : Int32) (Mx0_4 : Bool) (Mx0_5 : Int32) (Mx0_6 : Int32) (Mx0_7 : Int32) (Mx0_8 : Int32) (Mx0_9 : Int32) (Mx0_10 : Int32) (Mx0_11 : Int32) (Mx0_12 : Int32) (Mx0_13 : Int32) (My1 : Nat → Int32) (My2 : Nat → Int32) (Mx3_0 : Int32) (Mx4_0 : Int32) (My5 : Nat → Int32) (My6 : Nat → Int32) (H : Heap) (locs : List Loc) (ls : Array Slot), ((a1).toInt - (l4).toInt).toNat < n → ¬ l4 < (0 : Int32) → va_P D classes ((wS54 cI cJ cZ cB p0 m0) ++ (wS62 cI cJ cZ cB m0 m1 m2 m3 m4 m5 m6 Mx0_4 Mx0_5 Mx0_6 Mx0_7 Mx0_8 Mx0_9 Mx0_10 Mx0_11 Mx0_12 Mx0_13 My1 My2 Mx3_0 Mx4_0 My5 My6)) H → va_D A ((wS54 cI cJ cZ cB p0 m0) ++ (wS62 cI cJ cZ cB m0 m1 m2 m3 m4 m5 m6 Mx0_4 Mx0_5 Mx0_6 Mx0_7 Mx0_8 Mx0_9 Mx0_10 Mx0_11 Mx0_12 Mx0_13 My1 My2 Mx3_0 Mx4_0 My5 My6)) → va_S A s.heap H locs → lv_has ls 5 [(4, .int l4), (3, .int l3), (2, .int l2), (0, .ref p0), (1, .int a1)] → W p l e ({ frames := 7, cells := 2, slots := 8000, locals := 151 }) s m [.ref p0, .int a1].toArray below meth c H locs 2 8000 (MQ below (va_Qi (fun r (uL : Int32) => uL = (0 : Int32)) (fun uL t => ∃ W9 : va_W, isC K cI cJ cZ cB p0 uL W9 ∧ va_P D classes W9 t.heap ∧ va_D A W9) A) [.ref p0, .int a1].toArray s 2 8000 A) (F0 m 21 ls []) := by
                                        intro n
                                        induction n with
                                        | zero => intro l4 l3 l2 Mx0_4 Mx0_5 Mx0_6 Mx0_7 Mx0_8 Mx0_9 Mx0_10 Mx0_11 Mx0_12 Mx0_13 My1 My2 Mx3_0 Mx4_0 My5 My6 H locs ls hn; exact absurd hn (Nat.not_lt_zero _)
                                        | succ n ih =>
                                          intro l4 l3 l2 Mx0_4 Mx0_5 Mx0_6 Mx0_7 Mx0_8 Mx0_9 Mx0_10 Mx0_11 Mx0_12 Mx0_13 My1 My2 Mx3_0 Mx4_0 My5 My6 H locs ls hn21_x4 hc21_x4 hP hD hS hl
                                          refine lv_iload hx hb d_S_run_21 (lv_at hl 0 rfl) ?_
                                          refine lv_iload_n hx hb d_S_run_23 rfl (lv_at hl 4 rfl) ?_
                                          refine lv_icmp_ge (tgt := 53) hx hb d_S_run_24 (by decide) (fun c171 => ?_) (fun c171 => ?_)
                                          · refine lv_aload_n hx hb d_S_run_53 rfl (lv_at hl 3 rfl) ?_
                                            refine va_get (D := D) (ci := 0) (v := .ref m0) (C := "SignMachine") (T := F_S) (N := 2) hx hb hk fi_S hown hK.1 hP 0 rfl rfl 0 (by decide) (hk _ k_210) (fun _ h9 => h9) rfl d_S_run_54 ?_
                                            refine lv_iload_n hx hb d_S_run_57 rfl (lv_at hl 1 rfl) ?_
                                            refine va_putN (D := D) (ci := 1) (v := .int l3) (ty := .int) (C := "SignMachine$Machine") (T := F_M) (N := 14) hx hb hk fi_M ft_M ft_M_ok fn_M hown hK.1 hP hD hS 1 rfl rfl 8 (by decide) (va_Nw.use rfl (hK.2 _ n_175)) (fun _ h9 => h9) rfl (by decide +kernel) rfl rfl (Nat.le_of_ble_eq_true rfl) d_S_run_58 (fun H locs hP hD hS => ?_)
                                            have hP : va_P D classes ((wS54 cI cJ cZ cB p0 m0) ++ (wS62 cI cJ cZ cB m0 m1 m2 m3 m4 m5 m6 Mx0_4 Mx0_5 Mx0_6 Mx0_7 l3 Mx0_9 Mx0_10 Mx0_11 Mx0_12 Mx0_13 My1 My2 Mx3_0 Mx4_0 My5 My6)) H := hP
                                            have hD : va_D A ((wS54 cI cJ cZ cB p0 m0) ++ (wS62 cI cJ cZ cB m0 m1 m2 m3 m4 m5 m6 Mx0_4 Mx0_5 Mx0_6 Mx0_7 l3 Mx0_9 Mx0_10 Mx0_11 Mx0_12 Mx0_13 My1 My2 Mx3_0 Mx4_0 My5 My6)) := hD
                                            refine lv_iload_n hx hb d_S_run_61 rfl (lv_at hl 2 rfl) ?_
                                            exact W.iret (v := l2) hx hb hr (fun t ht hW => ⟨⟨l2, (0 : Int32), rfl, rfl, ⟨_, isC_4, (by show va_P D classes _ t.heap; rw [ht]; exact hP), hD⟩⟩, hS.F ht⟩) hS.2.2 d_S_run_62
                                          · refine lv_iload_n hx hb d_S_run_27 rfl (lv_at hl 1 rfl) ?_
                                            refine lv_if_ne (tgt := 53) hx hb d_S_run_28 (by decide) (fun c172 => ?_) (fun c172 => ?_)
                                            · refine lv_aload_n hx hb d_S_run_53 rfl (lv_at hl 3 rfl) ?_
                                              refine va_get (D := D) (ci := 0) (v := .ref m0) (C := "SignMachine") (T := F_S) (N := 2) hx hb hk fi_S hown hK.1 hP 0 rfl rfl 0 (by decide) (hk _ k_210) (fun _ h9 => h9) rfl d_S_run_54 ?_
                                              refine lv_iload_n hx hb d_S_run_57 rfl (lv_at hl 1 rfl) ?_
                                              refine va_putN (D := D) (ci := 1) (v := .int l3) (ty := .int) (C := "SignMachine$Machine") (T := F_M) (N := 14) hx hb hk fi_M ft_M ft_M_ok fn_M hown hK.1 hP hD hS 1 rfl rfl 8 (by decide) (va_Nw.use rfl (hK.2 _ n_175)) (fun _ h9 => h9) rfl (by decide +kernel) rfl rfl (Nat.le_of_ble_eq_true rfl) d_S_run_58 (fun H locs hP hD hS => ?_)
                                              have hP : va_P D classes ((wS54 cI cJ cZ cB p0 m0) ++ (wS62 cI cJ cZ cB m0 m1 m2 m3 m4 m5 m6 Mx0_4 Mx0_5 Mx0_6 Mx0_7 l3 Mx0_9 Mx0_10 Mx0_11 Mx0_12 Mx0_13 My1 My2 Mx3_0 Mx4_0 My5 My6)) H := hP
                                              have hD : va_D A ((wS54 cI cJ cZ cB p0 m0) ++ (wS62 cI cJ cZ cB m0 m1 m2 m3 m4 m5 m6 Mx0_4 Mx0_5 Mx0_6 Mx0_7 l3 Mx0_9 Mx0_10 Mx0_11 Mx0_12 Mx0_13 My1 My2 Mx3_0 Mx4_0 My5 My6)) := hD
                                              refine lv_iload_n hx hb d_S_run_61 rfl (lv_at hl 2 rfl) ?_
                                              exact W.iret (v := l2) hx hb hr (fun t ht hW => ⟨⟨l2, (0 : Int32), rfl, rfl, ⟨_, isC_4, (by show va_P D classes _ t.heap; rw [ht]; exact hP), hD⟩⟩, hS.F ht⟩) hS.2.2 d_S_run_62
                                            · refine lv_aload_n hx hb d_S_run_31 rfl (lv_at hl 3 rfl) ?_
                                              refine va_get (D := D) (ci := 0) (v := .ref m0) (C := "SignMachine") (T := F_S) (N := 2) hx hb hk fi_S hown hK.1 hP 0 rfl rfl 0 (by decide) (hk _ k_210) (fun _ h9 => h9) rfl d_S_run_32 ?_
                                              have hPc := hP.sub (ws' := (wS62 cI cJ cZ cB m0 m1 m2 m3 m4 m5 m6 Mx0_4 Mx0_5 Mx0_6 Mx0_7 Mx0_8 Mx0_9 Mx0_10 Mx0_11 Mx0_12 Mx0_13 My1 My2 Mx3_0 Mx4_0 My5 My6)) [1, 2, 3, 4, 5, 6, 7] rfl
                                              have hDc := hD.sub (ws' := (wS62 cI cJ cZ cB m0 m1 m2 m3 m4 m5 m6 Mx0_4 Mx0_5 Mx0_6 Mx0_7 Mx0_8 Mx0_9 Mx0_10 Mx0_11 Mx0_12 Mx0_13 My1 My2 Mx3_0 Mx4_0 My5 My6)) [1, 2, 3, 4, 5, 6, 7] (by decide) rfl
                                              have hFc := va_free (wc := (wS62 cI cJ cZ cB m0 m1 m2 m3 m4 m5 m6 Mx0_4 Mx0_5 Mx0_6 Mx0_7 Mx0_8 Mx0_9 Mx0_10 Mx0_11 Mx0_12 Mx0_13 My1 My2 Mx3_0 Mx4_0 My5 My6)) hD hS hA [1, 2, 3, 4, 5, 6, 7] rfl
                                              refine va_calli (va_runV (C := "SignMachine$Machine") (As := []) (rest := []) ⟨hx, hb, hml, hown, hk⟩ (c_M_execute_s9 l K D cI cJ cZ cB m0 m1 m2 m3 m4 m5 m6 H.size Mx0_4 Mx0_5 Mx0_6 Mx0_7 Mx0_8 Mx0_9 Mx0_10 Mx0_11 Mx0_12 Mx0_13 My1 My2 Mx3_0 Mx4_0 My5 My6  ) (v_M_execute_s9 hk k_258 ⟨Nat.le_of_ble_eq_true rfl, Nat.le_of_ble_eq_true rfl⟩) (pMC_v hK hPc hDc hC hS hA (ci := 1) (q0 := 0) rfl rfl rfl) rfl rfl hl.1 rfl (lv_room (Nat.le_of_ble_eq_true rfl)) d_S_run_35 ⟨by decide, by decide⟩) hS (fun q _ h => hFc q h) hFc (fun rz173 u t H locs ht hvm hr0 hB hzq hkq hS => ?_)
                                              obtain ⟨Mx0_4z173, Mx0_5z173, Mx0_6z173, Mx0_7z173, Mx0_9z173, Mx0_10z173, Mx0_11z173, Mx0_12z173, Mx0_13z173, My1z173, My2z173, Mx3_0z173, Mx4_0z173, My5z173, My6z173, hP1, hD1⟩ := hB
                                              rw [ht] at hP1
                                              obtain ⟨hP, hD⟩ := va_join (wr := (wS54 cI cJ cZ cB p0 m0)) (w1 := (wS62 cI cJ cZ cB m0 m1 m2 m3 m4 m5 m6 Mx0_4z173 Mx0_5z173 Mx0_6z173 Mx0_7z173 Mx0_8 Mx0_9z173 Mx0_10z173 Mx0_11z173 Mx0_12z173 Mx0_13z173 My1z173 My2z173 Mx3_0z173 Mx4_0z173 My5z173 My6z173)) hP hD [1, 2, 3, 4, 5, 6, 7] [0] rfl rfl (by decide) (by decide) hkq hFc hP1 hD1
                                              have hP := hP.sub (ws' := ((wS54 cI cJ cZ cB p0 m0) ++ (wS62 cI cJ cZ cB m0 m1 m2 m3 m4 m5 m6 Mx0_4z173 Mx0_5z173 Mx0_6z173 Mx0_7z173 Mx0_8 Mx0_9z173 Mx0_10z173 Mx0_11z173 Mx0_12z173 Mx0_13z173 My1z173 My2z173 Mx3_0z173 Mx4_0z173 My5z173 My6z173))) [0, 1, 2, 3, 4, 5, 6, 7] rfl
                                              have hD := hD.sub (ws' := ((wS54 cI cJ cZ cB p0 m0) ++ (wS62 cI cJ cZ cB m0 m1 m2 m3 m4 m5 m6 Mx0_4z173 Mx0_5z173 Mx0_6z173 Mx0_7z173 Mx0_8 Mx0_9z173 Mx0_10z173 Mx0_11z173 Mx0_12z173 Mx0_13z173 My1z173 My2z173 Mx3_0z173 Mx4_0z173 My5z173 My6z173))) [0, 1, 2, 3, 4, 5, 6, 7] (by decide) rfl
                                              have hP : va_P D classes ((wS54 cI cJ cZ cB p0 m0) ++ (wS62 cI cJ cZ cB m0 m1 m2 m3 m4 m5 m6 Mx0_4z173 Mx0_5z173 Mx0_6z173 Mx0_7z173 Mx0_8 Mx0_9z173 Mx0_10z173 Mx0_11z173 Mx0_12z173 Mx0_13z173 My1z173 My2z173 Mx3_0z173 Mx4_0z173 My5z173 My6z173)) H := hP
                                              have hD : va_D A ((wS54 cI cJ cZ cB p0 m0) ++ (wS62 cI cJ cZ cB m0 m1 m2 m3 m4 m5 m6 Mx0_4z173 Mx0_5z173 Mx0_6z173 Mx0_7z173 Mx0_8 Mx0_9z173 Mx0_10z173 Mx0_11z173 Mx0_12z173 Mx0_13z173 My1z173 My2z173 Mx3_0z173 Mx4_0z173 My5z173 My6z173)) := hD
                                              clear hPc hDc hFc
                                              refine lv_istore_n (lv' := [(3, .int rz173), (4, .int l4), (2, .int l2), (0, .ref p0), (1, .int a1)]) hx hb d_S_run_38 rfl hl (by decide) rfl (fun ls hl => ?_)
                                              refine lv_iload_n hx hb d_S_run_39 rfl (lv_at hl 0 rfl) ?_
                                              refine lv_iconst (v := 1) hx hb d_S_run_40 (by decide) ?_
                                              refine lv_icmp_gt (tgt := 47) hx hb d_S_run_41 (by decide) (fun c174 => ?_) (fun c174 => ?_)
                                              · obtain ⟨v175, hv175⟩ : ∃ y : Int32, y = (l4 + (1 : Int32)) := ⟨_, rfl⟩
                                                refine lv_iinc (v := v175) (lv' := [(4, .int v175), (3, .int rz173), (2, .int l2), (0, .ref p0), (1, .int a1)]) hx hb d_S_run_47 hl (k := 1) rfl (by rw [hv175]; rfl) (by decide) rfl (fun ls hl => ?_)
                                                refine lv_goto (tgt := 21) hx hb d_S_run_50 (by decide) ?_
                                                exact ih v175 rz173 l2 Mx0_4z173 Mx0_5z173 Mx0_6z173 Mx0_7z173 Mx0_8 Mx0_9z173 Mx0_10z173 Mx0_11z173 Mx0_12z173 Mx0_13z173 My1z173 My2z173 Mx3_0z173 Mx4_0z173 My5z173 My6z173 H _ ls (lpu c171 hv175 hn21_x4) (lpn hc21_x4 c171 hv175) hP hD hS (lv_sub hl [0, 1, 2, 3, 4] rfl)
                                              · obtain ⟨v176, hv176⟩ : ∃ y : Int32, y = (l2 + (1 : Int32)) := ⟨_, rfl⟩
                                                refine lv_iinc (v := v176) (lv' := [(2, .int v176), (3, .int rz173), (4, .int l4), (0, .ref p0), (1, .int a1)]) hx hb d_S_run_44 hl (k := 2) rfl (by rw [hv176]; rfl) (by decide) rfl (fun ls hl => ?_)
                                                obtain ⟨v177, hv177⟩ : ∃ y : Int32, y = (l4 + (1 : Int32)) := ⟨_, rfl⟩
                                                refine lv_iinc (v := v177) (lv' := [(4, .int v177), (2, .int v176), (3, .int rz173), (0, .ref p0), (1, .int a1)]) hx hb d_S_run_47 hl (k := 2) rfl (by rw [hv177]; rfl) (by decide) rfl (fun ls hl => ?_)
                                                refine lv_goto (tgt := 21) hx hb d_S_run_50 (by decide) ?_
                                                exact ih v177 rz173 v176 Mx0_4z173 Mx0_5z173 Mx0_6z173 Mx0_7z173 Mx0_8 Mx0_9z173 Mx0_10z173 Mx0_11z173 Mx0_12z173 Mx0_13z173 My1z173 My2z173 Mx3_0z173 Mx4_0z173 My5z173 My6z173 H _ ls (lpu c171 hv177 hn21_x4) (lpn hc21_x4 c171 hv177) hP hD hS (lv_sub hl [0, 2, 1, 3, 4] rfl)
                                      exact LP21_x4 _ v170 rz160 l2 Mx0_4 Mx0_5 Mx0_6z160 Mx0_7z160 Mx0_8 Mx0_9z160 Mx0_10z160 Mx0_11z160 Mx0_12z160 Mx0_13z160 My1 My2 Mx3_0z160 Mx4_0 My5 My6z160 H _ ls (Nat.lt_succ_self _) (lpn hc21_x2 c156 hv170) hP hD hS hl
                                    · obtain ⟨v178, hv178⟩ : ∃ y : Int32, y = (l2 + (1 : Int32)) := ⟨_, rfl⟩
                                      refine lv_iinc (v := v178) (lv' := [(2, .int v178), (3, .int rz160), (4, .int l4), (0, .ref p0), (1, .int a1)]) hx hb d_S_run_44 hl (k := 2) rfl (by rw [hv178]; rfl) (by decide) rfl (fun ls hl => ?_)
                                      obtain ⟨v179, hv179⟩ : ∃ y : Int32, y = (l4 + (1 : Int32)) := ⟨_, rfl⟩
                                      refine lv_iinc (v := v179) (lv' := [(4, .int v179), (2, .int v178), (3, .int rz160), (0, .ref p0), (1, .int a1)]) hx hb d_S_run_47 hl (k := 2) rfl (by rw [hv179]; rfl) (by decide) rfl (fun ls hl => ?_)
                                      refine lv_goto (tgt := 21) hx hb d_S_run_50 (by decide) ?_
                                      have LP21_x4 : ∀ (n : Nat) (l4 : Int32) (l2 : Int32) (l3 : Int32) (Mx0_4 : Bool) (Mx0_5 : Int32) (Mx0_6 : Int32) (Mx0_7 : Int32) (Mx0_8 : Int32) (Mx0_9 : Int32) (Mx0_10 : Int32) (Mx0_11 : Int32) (Mx0_12 : Int32) (Mx0_13 : Int32) (My1 : Nat → Int32) (My2 : Nat → Int32) (Mx3_0 : Int32) (Mx4_0 : Int32) (My5 : Nat → Int32) (My6 : Nat → Int32) (H : Heap) (locs : List Loc) (ls : Array Slot), ((a1).toInt - (l4).toInt).toNat < n → ¬ l4 < (0 : Int32) → va_P D classes ((wS54 cI cJ cZ cB p0 m0) ++ (wS62 cI cJ cZ cB m0 m1 m2 m3 m4 m5 m6 Mx0_4 Mx0_5 Mx0_6 Mx0_7 Mx0_8 Mx0_9 Mx0_10 Mx0_11 Mx0_12 Mx0_13 My1 My2 Mx3_0 Mx4_0 My5 My6)) H → va_D A ((wS54 cI cJ cZ cB p0 m0) ++ (wS62 cI cJ cZ cB m0 m1 m2 m3 m4 m5 m6 Mx0_4 Mx0_5 Mx0_6 Mx0_7 Mx0_8 Mx0_9 Mx0_10 Mx0_11 Mx0_12 Mx0_13 My1 My2 Mx3_0 Mx4_0 My5 My6)) → va_S A s.heap H locs → lv_has ls 5 [(4, .int l4), (2, .int l2), (3, .int l3), (0, .ref p0), (1, .int a1)] → W p l e ({ frames := 7, cells := 2, slots := 8000, locals := 151 }) s m [.ref p0, .int a1].toArray below meth c H locs 2 8000 (MQ below (va_Qi (fun r (uL : Int32) => uL = (0 : Int32)) (fun uL t => ∃ W9 : va_W, isC K cI cJ cZ cB p0 uL W9 ∧ va_P D classes W9 t.heap ∧ va_D A W9) A) [.ref p0, .int a1].toArray s 2 8000 A) (F0 m 21 ls []) := by
                                        intro n
                                        induction n with
                                        | zero => intro l4 l2 l3 Mx0_4 Mx0_5 Mx0_6 Mx0_7 Mx0_8 Mx0_9 Mx0_10 Mx0_11 Mx0_12 Mx0_13 My1 My2 Mx3_0 Mx4_0 My5 My6 H locs ls hn; exact absurd hn (Nat.not_lt_zero _)
                                        | succ n ih =>
                                          intro l4 l2 l3 Mx0_4 Mx0_5 Mx0_6 Mx0_7 Mx0_8 Mx0_9 Mx0_10 Mx0_11 Mx0_12 Mx0_13 My1 My2 Mx3_0 Mx4_0 My5 My6 H locs ls hn21_x4 hc21_x4 hP hD hS hl
                                          refine lv_iload hx hb d_S_run_21 (lv_at hl 0 rfl) ?_
                                          refine lv_iload_n hx hb d_S_run_23 rfl (lv_at hl 4 rfl) ?_
                                          refine lv_icmp_ge (tgt := 53) hx hb d_S_run_24 (by decide) (fun c180 => ?_) (fun c180 => ?_)
                                          · refine lv_aload_n hx hb d_S_run_53 rfl (lv_at hl 3 rfl) ?_
                                            refine va_get (D := D) (ci := 0) (v := .ref m0) (C := "SignMachine") (T := F_S) (N := 2) hx hb hk fi_S hown hK.1 hP 0 rfl rfl 0 (by decide) (hk _ k_210) (fun _ h9 => h9) rfl d_S_run_54 ?_
                                            refine lv_iload_n hx hb d_S_run_57 rfl (lv_at hl 2 rfl) ?_
                                            refine va_putN (D := D) (ci := 1) (v := .int l3) (ty := .int) (C := "SignMachine$Machine") (T := F_M) (N := 14) hx hb hk fi_M ft_M ft_M_ok fn_M hown hK.1 hP hD hS 1 rfl rfl 8 (by decide) (va_Nw.use rfl (hK.2 _ n_175)) (fun _ h9 => h9) rfl (by decide +kernel) rfl rfl (Nat.le_of_ble_eq_true rfl) d_S_run_58 (fun H locs hP hD hS => ?_)
                                            have hP : va_P D classes ((wS54 cI cJ cZ cB p0 m0) ++ (wS62 cI cJ cZ cB m0 m1 m2 m3 m4 m5 m6 Mx0_4 Mx0_5 Mx0_6 Mx0_7 l3 Mx0_9 Mx0_10 Mx0_11 Mx0_12 Mx0_13 My1 My2 Mx3_0 Mx4_0 My5 My6)) H := hP
                                            have hD : va_D A ((wS54 cI cJ cZ cB p0 m0) ++ (wS62 cI cJ cZ cB m0 m1 m2 m3 m4 m5 m6 Mx0_4 Mx0_5 Mx0_6 Mx0_7 l3 Mx0_9 Mx0_10 Mx0_11 Mx0_12 Mx0_13 My1 My2 Mx3_0 Mx4_0 My5 My6)) := hD
                                            refine lv_iload_n hx hb d_S_run_61 rfl (lv_at hl 1 rfl) ?_
                                            exact W.iret (v := l2) hx hb hr (fun t ht hW => ⟨⟨l2, (0 : Int32), rfl, rfl, ⟨_, isC_4, (by show va_P D classes _ t.heap; rw [ht]; exact hP), hD⟩⟩, hS.F ht⟩) hS.2.2 d_S_run_62
                                          · refine lv_iload_n hx hb d_S_run_27 rfl (lv_at hl 2 rfl) ?_
                                            refine lv_if_ne (tgt := 53) hx hb d_S_run_28 (by decide) (fun c181 => ?_) (fun c181 => ?_)
                                            · refine lv_aload_n hx hb d_S_run_53 rfl (lv_at hl 3 rfl) ?_
                                              refine va_get (D := D) (ci := 0) (v := .ref m0) (C := "SignMachine") (T := F_S) (N := 2) hx hb hk fi_S hown hK.1 hP 0 rfl rfl 0 (by decide) (hk _ k_210) (fun _ h9 => h9) rfl d_S_run_54 ?_
                                              refine lv_iload_n hx hb d_S_run_57 rfl (lv_at hl 2 rfl) ?_
                                              refine va_putN (D := D) (ci := 1) (v := .int l3) (ty := .int) (C := "SignMachine$Machine") (T := F_M) (N := 14) hx hb hk fi_M ft_M ft_M_ok fn_M hown hK.1 hP hD hS 1 rfl rfl 8 (by decide) (va_Nw.use rfl (hK.2 _ n_175)) (fun _ h9 => h9) rfl (by decide +kernel) rfl rfl (Nat.le_of_ble_eq_true rfl) d_S_run_58 (fun H locs hP hD hS => ?_)
                                              have hP : va_P D classes ((wS54 cI cJ cZ cB p0 m0) ++ (wS62 cI cJ cZ cB m0 m1 m2 m3 m4 m5 m6 Mx0_4 Mx0_5 Mx0_6 Mx0_7 l3 Mx0_9 Mx0_10 Mx0_11 Mx0_12 Mx0_13 My1 My2 Mx3_0 Mx4_0 My5 My6)) H := hP
                                              have hD : va_D A ((wS54 cI cJ cZ cB p0 m0) ++ (wS62 cI cJ cZ cB m0 m1 m2 m3 m4 m5 m6 Mx0_4 Mx0_5 Mx0_6 Mx0_7 l3 Mx0_9 Mx0_10 Mx0_11 Mx0_12 Mx0_13 My1 My2 Mx3_0 Mx4_0 My5 My6)) := hD
                                              refine lv_iload_n hx hb d_S_run_61 rfl (lv_at hl 1 rfl) ?_
                                              exact W.iret (v := l2) hx hb hr (fun t ht hW => ⟨⟨l2, (0 : Int32), rfl, rfl, ⟨_, isC_4, (by show va_P D classes _ t.heap; rw [ht]; exact hP), hD⟩⟩, hS.F ht⟩) hS.2.2 d_S_run_62
                                            · refine lv_aload_n hx hb d_S_run_31 rfl (lv_at hl 3 rfl) ?_
                                              refine va_get (D := D) (ci := 0) (v := .ref m0) (C := "SignMachine") (T := F_S) (N := 2) hx hb hk fi_S hown hK.1 hP 0 rfl rfl 0 (by decide) (hk _ k_210) (fun _ h9 => h9) rfl d_S_run_32 ?_
                                              have hPc := hP.sub (ws' := (wS62 cI cJ cZ cB m0 m1 m2 m3 m4 m5 m6 Mx0_4 Mx0_5 Mx0_6 Mx0_7 Mx0_8 Mx0_9 Mx0_10 Mx0_11 Mx0_12 Mx0_13 My1 My2 Mx3_0 Mx4_0 My5 My6)) [1, 2, 3, 4, 5, 6, 7] rfl
                                              have hDc := hD.sub (ws' := (wS62 cI cJ cZ cB m0 m1 m2 m3 m4 m5 m6 Mx0_4 Mx0_5 Mx0_6 Mx0_7 Mx0_8 Mx0_9 Mx0_10 Mx0_11 Mx0_12 Mx0_13 My1 My2 Mx3_0 Mx4_0 My5 My6)) [1, 2, 3, 4, 5, 6, 7] (by decide) rfl
                                              have hFc := va_free (wc := (wS62 cI cJ cZ cB m0 m1 m2 m3 m4 m5 m6 Mx0_4 Mx0_5 Mx0_6 Mx0_7 Mx0_8 Mx0_9 Mx0_10 Mx0_11 Mx0_12 Mx0_13 My1 My2 Mx3_0 Mx4_0 My5 My6)) hD hS hA [1, 2, 3, 4, 5, 6, 7] rfl
                                              refine va_calli (va_runV (C := "SignMachine$Machine") (As := []) (rest := []) ⟨hx, hb, hml, hown, hk⟩ (c_M_execute_s9 l K D cI cJ cZ cB m0 m1 m2 m3 m4 m5 m6 H.size Mx0_4 Mx0_5 Mx0_6 Mx0_7 Mx0_8 Mx0_9 Mx0_10 Mx0_11 Mx0_12 Mx0_13 My1 My2 Mx3_0 Mx4_0 My5 My6  ) (v_M_execute_s9 hk k_258 ⟨Nat.le_of_ble_eq_true rfl, Nat.le_of_ble_eq_true rfl⟩) (pMC_v hK hPc hDc hC hS hA (ci := 1) (q0 := 0) rfl rfl rfl) rfl rfl hl.1 rfl (lv_room (Nat.le_of_ble_eq_true rfl)) d_S_run_35 ⟨by decide, by decide⟩) hS (fun q _ h => hFc q h) hFc (fun rz182 u t H locs ht hvm hr0 hB hzq hkq hS => ?_)
                                              obtain ⟨Mx0_4z182, Mx0_5z182, Mx0_6z182, Mx0_7z182, Mx0_9z182, Mx0_10z182, Mx0_11z182, Mx0_12z182, Mx0_13z182, My1z182, My2z182, Mx3_0z182, Mx4_0z182, My5z182, My6z182, hP1, hD1⟩ := hB
                                              rw [ht] at hP1
                                              obtain ⟨hP, hD⟩ := va_join (wr := (wS54 cI cJ cZ cB p0 m0)) (w1 := (wS62 cI cJ cZ cB m0 m1 m2 m3 m4 m5 m6 Mx0_4z182 Mx0_5z182 Mx0_6z182 Mx0_7z182 Mx0_8 Mx0_9z182 Mx0_10z182 Mx0_11z182 Mx0_12z182 Mx0_13z182 My1z182 My2z182 Mx3_0z182 Mx4_0z182 My5z182 My6z182)) hP hD [1, 2, 3, 4, 5, 6, 7] [0] rfl rfl (by decide) (by decide) hkq hFc hP1 hD1
                                              have hP := hP.sub (ws' := ((wS54 cI cJ cZ cB p0 m0) ++ (wS62 cI cJ cZ cB m0 m1 m2 m3 m4 m5 m6 Mx0_4z182 Mx0_5z182 Mx0_6z182 Mx0_7z182 Mx0_8 Mx0_9z182 Mx0_10z182 Mx0_11z182 Mx0_12z182 Mx0_13z182 My1z182 My2z182 Mx3_0z182 Mx4_0z182 My5z182 My6z182))) [0, 1, 2, 3, 4, 5, 6, 7] rfl
                                              have hD := hD.sub (ws' := ((wS54 cI cJ cZ cB p0 m0) ++ (wS62 cI cJ cZ cB m0 m1 m2 m3 m4 m5 m6 Mx0_4z182 Mx0_5z182 Mx0_6z182 Mx0_7z182 Mx0_8 Mx0_9z182 Mx0_10z182 Mx0_11z182 Mx0_12z182 Mx0_13z182 My1z182 My2z182 Mx3_0z182 Mx4_0z182 My5z182 My6z182))) [0, 1, 2, 3, 4, 5, 6, 7] (by decide) rfl
                                              have hP : va_P D classes ((wS54 cI cJ cZ cB p0 m0) ++ (wS62 cI cJ cZ cB m0 m1 m2 m3 m4 m5 m6 Mx0_4z182 Mx0_5z182 Mx0_6z182 Mx0_7z182 Mx0_8 Mx0_9z182 Mx0_10z182 Mx0_11z182 Mx0_12z182 Mx0_13z182 My1z182 My2z182 Mx3_0z182 Mx4_0z182 My5z182 My6z182)) H := hP
                                              have hD : va_D A ((wS54 cI cJ cZ cB p0 m0) ++ (wS62 cI cJ cZ cB m0 m1 m2 m3 m4 m5 m6 Mx0_4z182 Mx0_5z182 Mx0_6z182 Mx0_7z182 Mx0_8 Mx0_9z182 Mx0_10z182 Mx0_11z182 Mx0_12z182 Mx0_13z182 My1z182 My2z182 Mx3_0z182 Mx4_0z182 My5z182 My6z182)) := hD
                                              clear hPc hDc hFc
                                              refine lv_istore_n (lv' := [(3, .int rz182), (4, .int l4), (2, .int l2), (0, .ref p0), (1, .int a1)]) hx hb d_S_run_38 rfl hl (by decide) rfl (fun ls hl => ?_)
                                              refine lv_iload_n hx hb d_S_run_39 rfl (lv_at hl 0 rfl) ?_
                                              refine lv_iconst (v := 1) hx hb d_S_run_40 (by decide) ?_
                                              refine lv_icmp_gt (tgt := 47) hx hb d_S_run_41 (by decide) (fun c183 => ?_) (fun c183 => ?_)
                                              · obtain ⟨v184, hv184⟩ : ∃ y : Int32, y = (l4 + (1 : Int32)) := ⟨_, rfl⟩
                                                refine lv_iinc (v := v184) (lv' := [(4, .int v184), (3, .int rz182), (2, .int l2), (0, .ref p0), (1, .int a1)]) hx hb d_S_run_47 hl (k := 1) rfl (by rw [hv184]; rfl) (by decide) rfl (fun ls hl => ?_)
                                                refine lv_goto (tgt := 21) hx hb d_S_run_50 (by decide) ?_
                                                exact ih v184 l2 rz182 Mx0_4z182 Mx0_5z182 Mx0_6z182 Mx0_7z182 Mx0_8 Mx0_9z182 Mx0_10z182 Mx0_11z182 Mx0_12z182 Mx0_13z182 My1z182 My2z182 Mx3_0z182 Mx4_0z182 My5z182 My6z182 H _ ls (lpu c180 hv184 hn21_x4) (lpn hc21_x4 c180 hv184) hP hD hS (lv_sub hl [0, 2, 1, 3, 4] rfl)
                                              · obtain ⟨v185, hv185⟩ : ∃ y : Int32, y = (l2 + (1 : Int32)) := ⟨_, rfl⟩
                                                refine lv_iinc (v := v185) (lv' := [(2, .int v185), (3, .int rz182), (4, .int l4), (0, .ref p0), (1, .int a1)]) hx hb d_S_run_44 hl (k := 2) rfl (by rw [hv185]; rfl) (by decide) rfl (fun ls hl => ?_)
                                                obtain ⟨v186, hv186⟩ : ∃ y : Int32, y = (l4 + (1 : Int32)) := ⟨_, rfl⟩
                                                refine lv_iinc (v := v186) (lv' := [(4, .int v186), (2, .int v185), (3, .int rz182), (0, .ref p0), (1, .int a1)]) hx hb d_S_run_47 hl (k := 2) rfl (by rw [hv186]; rfl) (by decide) rfl (fun ls hl => ?_)
                                                refine lv_goto (tgt := 21) hx hb d_S_run_50 (by decide) ?_
                                                exact ih v186 v185 rz182 Mx0_4z182 Mx0_5z182 Mx0_6z182 Mx0_7z182 Mx0_8 Mx0_9z182 Mx0_10z182 Mx0_11z182 Mx0_12z182 Mx0_13z182 My1z182 My2z182 Mx3_0z182 Mx4_0z182 My5z182 My6z182 H _ ls (lpu c180 hv186 hn21_x4) (lpn hc21_x4 c180 hv186) hP hD hS (lv_sub hl [0, 1, 2, 3, 4] rfl)
                                      exact LP21_x4 _ v179 v178 rz160 Mx0_4 Mx0_5 Mx0_6z160 Mx0_7z160 Mx0_8 Mx0_9z160 Mx0_10z160 Mx0_11z160 Mx0_12z160 Mx0_13z160 My1 My2 Mx3_0z160 Mx4_0 My5 My6z160 H _ ls (Nat.lt_succ_self _) (lpn hc21_x2 c156 hv179) hP hD hS hl
                                · have hPc := hP.sub (ws' := (wS58 cI cJ cZ cB m0 m1 m2 m3 m4 m5 Mx0_4 Mx0_5 Mx0_6 Mx0_7 Mx0_8 Mx0_9 Mx0_10 Mx0_11 Mx0_12 Mx0_13 My1 My2 Mx3_0 Mx4_0 My5)) [1, 2, 3, 4, 5, 6] rfl
                                  have hDc := hD.sub (ws' := (wS58 cI cJ cZ cB m0 m1 m2 m3 m4 m5 Mx0_4 Mx0_5 Mx0_6 Mx0_7 Mx0_8 Mx0_9 Mx0_10 Mx0_11 Mx0_12 Mx0_13 My1 My2 Mx3_0 Mx4_0 My5)) [1, 2, 3, 4, 5, 6] (by decide) rfl
                                  have hFc := va_free (wc := (wS58 cI cJ cZ cB m0 m1 m2 m3 m4 m5 Mx0_4 Mx0_5 Mx0_6 Mx0_7 Mx0_8 Mx0_9 Mx0_10 Mx0_11 Mx0_12 Mx0_13 My1 My2 Mx3_0 Mx4_0 My5)) hD hS hA [1, 2, 3, 4, 5, 6] rfl
                                  refine va_calli (va_runV (C := "SignMachine$Machine") (As := []) (rest := []) ⟨hx, hb, hml, hown, hk⟩ (c_M_execute_s10 l K D cI cJ cZ cB m0 m1 m2 m3 m4 m5 H.size Mx0_4 Mx0_5 Mx0_6 Mx0_7 Mx0_8 Mx0_9 Mx0_10 Mx0_11 Mx0_12 Mx0_13 My1 My2 Mx3_0 Mx4_0 My5  q158 q159) (v_M_execute_s10 hk k_258 ⟨Nat.le_of_ble_eq_true rfl, Nat.le_of_ble_eq_true rfl⟩) (pMC_v hK hPc hDc hC hS hA (ci := 1) (q0 := 0) rfl rfl rfl) rfl rfl hl.1 rfl (lv_room (Nat.le_of_ble_eq_true rfl)) d_S_run_35 ⟨by decide, by decide⟩) hS (fun q _ h => hFc q h) hFc (fun rz187 u t H locs ht hvm hr0 hB hzq hkq hS => ?_)
                                  obtain ⟨Mx0_6z187, Mx0_7z187, Mx0_9z187, Mx0_10z187, Mx0_11z187, Mx0_12z187, Mx0_13z187, Mx4_0z187, My5z187, hP1, hD1⟩ := hB
                                  rw [ht] at hP1
                                  obtain ⟨hP, hD⟩ := va_join (wr := (wS54 cI cJ cZ cB p0 m0)) (w1 := (wS58 cI cJ cZ cB m0 m1 m2 m3 m4 m5 Mx0_4 Mx0_5 Mx0_6z187 Mx0_7z187 Mx0_8 Mx0_9z187 Mx0_10z187 Mx0_11z187 Mx0_12z187 Mx0_13z187 My1 My2 Mx3_0 Mx4_0z187 My5z187)) hP hD [1, 2, 3, 4, 5, 6] [0] rfl rfl (by decide) (by decide) hkq hFc hP1 hD1
                                  have hP := hP.sub (ws' := ((wS54 cI cJ cZ cB p0 m0) ++ (wS58 cI cJ cZ cB m0 m1 m2 m3 m4 m5 Mx0_4 Mx0_5 Mx0_6z187 Mx0_7z187 Mx0_8 Mx0_9z187 Mx0_10z187 Mx0_11z187 Mx0_12z187 Mx0_13z187 My1 My2 Mx3_0 Mx4_0z187 My5z187))) [0, 1, 2, 3, 4, 5, 6] rfl
                                  have hD := hD.sub (ws' := ((wS54 cI cJ cZ cB p0 m0) ++ (wS58 cI cJ cZ cB m0 m1 m2 m3 m4 m5 Mx0_4 Mx0_5 Mx0_6z187 Mx0_7z187 Mx0_8 Mx0_9z187 Mx0_10z187 Mx0_11z187 Mx0_12z187 Mx0_13z187 My1 My2 Mx3_0 Mx4_0z187 My5z187))) [0, 1, 2, 3, 4, 5, 6] (by decide) rfl
                                  have hP : va_P D classes ((wS54 cI cJ cZ cB p0 m0) ++ (wS58 cI cJ cZ cB m0 m1 m2 m3 m4 m5 Mx0_4 Mx0_5 Mx0_6z187 Mx0_7z187 Mx0_8 Mx0_9z187 Mx0_10z187 Mx0_11z187 Mx0_12z187 Mx0_13z187 My1 My2 Mx3_0 Mx4_0z187 My5z187)) H := hP
                                  have hD : va_D A ((wS54 cI cJ cZ cB p0 m0) ++ (wS58 cI cJ cZ cB m0 m1 m2 m3 m4 m5 Mx0_4 Mx0_5 Mx0_6z187 Mx0_7z187 Mx0_8 Mx0_9z187 Mx0_10z187 Mx0_11z187 Mx0_12z187 Mx0_13z187 My1 My2 Mx3_0 Mx4_0z187 My5z187)) := hD
                                  clear hPc hDc hFc
                                  refine lv_istore_n (lv' := [(3, .int rz187), (4, .int l4), (2, .int l2), (0, .ref p0), (1, .int a1)]) hx hb d_S_run_38 rfl hl (by decide) rfl (fun ls hl => ?_)
                                  refine lv_iload_n hx hb d_S_run_39 rfl (lv_at hl 0 rfl) ?_
                                  refine lv_iconst (v := 1) hx hb d_S_run_40 (by decide) ?_
                                  refine lv_icmp_gt (tgt := 47) hx hb d_S_run_41 (by decide) (fun c188 => ?_) (fun c188 => ?_)
                                  · obtain ⟨v189, hv189⟩ : ∃ y : Int32, y = (l4 + (1 : Int32)) := ⟨_, rfl⟩
                                    refine lv_iinc (v := v189) (lv' := [(4, .int v189), (3, .int rz187), (2, .int l2), (0, .ref p0), (1, .int a1)]) hx hb d_S_run_47 hl (k := 1) rfl (by rw [hv189]; rfl) (by decide) rfl (fun ls hl => ?_)
                                    refine lv_goto (tgt := 21) hx hb d_S_run_50 (by decide) ?_
                                    exact ih v189 l2 rz187 Mx0_4 Mx0_5 Mx0_6z187 Mx0_7z187 Mx0_8 Mx0_9z187 Mx0_10z187 Mx0_11z187 Mx0_12z187 Mx0_13z187 My1 My2 Mx3_0 Mx4_0z187 My5z187 H _ ls (lpu c156 hv189 hn21_x2) (lpn hc21_x2 c156 hv189) hP hD hS (lv_sub hl [0, 2, 1, 3, 4] rfl)
                                  · obtain ⟨v190, hv190⟩ : ∃ y : Int32, y = (l2 + (1 : Int32)) := ⟨_, rfl⟩
                                    refine lv_iinc (v := v190) (lv' := [(2, .int v190), (3, .int rz187), (4, .int l4), (0, .ref p0), (1, .int a1)]) hx hb d_S_run_44 hl (k := 2) rfl (by rw [hv190]; rfl) (by decide) rfl (fun ls hl => ?_)
                                    obtain ⟨v191, hv191⟩ : ∃ y : Int32, y = (l4 + (1 : Int32)) := ⟨_, rfl⟩
                                    refine lv_iinc (v := v191) (lv' := [(4, .int v191), (2, .int v190), (3, .int rz187), (0, .ref p0), (1, .int a1)]) hx hb d_S_run_47 hl (k := 2) rfl (by rw [hv191]; rfl) (by decide) rfl (fun ls hl => ?_)
                                    refine lv_goto (tgt := 21) hx hb d_S_run_50 (by decide) ?_
                                    exact ih v191 v190 rz187 Mx0_4 Mx0_5 Mx0_6z187 Mx0_7z187 Mx0_8 Mx0_9z187 Mx0_10z187 Mx0_11z187 Mx0_12z187 Mx0_13z187 My1 My2 Mx3_0 Mx4_0z187 My5z187 H _ ls (lpu c156 hv191 hn21_x2) (lpn hc21_x2 c156 hv191) hP hD hS (lv_sub hl [0, 1, 2, 3, 4] rfl)
                              · have hPc := hP.sub (ws' := (wS58 cI cJ cZ cB m0 m1 m2 m3 m4 m5 Mx0_4 Mx0_5 Mx0_6 Mx0_7 Mx0_8 Mx0_9 Mx0_10 Mx0_11 Mx0_12 Mx0_13 My1 My2 Mx3_0 Mx4_0 My5)) [1, 2, 3, 4, 5, 6] rfl
                                have hDc := hD.sub (ws' := (wS58 cI cJ cZ cB m0 m1 m2 m3 m4 m5 Mx0_4 Mx0_5 Mx0_6 Mx0_7 Mx0_8 Mx0_9 Mx0_10 Mx0_11 Mx0_12 Mx0_13 My1 My2 Mx3_0 Mx4_0 My5)) [1, 2, 3, 4, 5, 6] (by decide) rfl
                                have hFc := va_free (wc := (wS58 cI cJ cZ cB m0 m1 m2 m3 m4 m5 Mx0_4 Mx0_5 Mx0_6 Mx0_7 Mx0_8 Mx0_9 Mx0_10 Mx0_11 Mx0_12 Mx0_13 My1 My2 Mx3_0 Mx4_0 My5)) hD hS hA [1, 2, 3, 4, 5, 6] rfl
                                refine va_calli (va_runV (C := "SignMachine$Machine") (As := []) (rest := []) ⟨hx, hb, hml, hown, hk⟩ (c_M_execute_s11 l K D cI cJ cZ cB m0 m1 m2 m3 m4 m5 H.size Mx0_4 Mx0_5 Mx0_6 Mx0_7 Mx0_8 Mx0_9 Mx0_10 Mx0_11 Mx0_12 Mx0_13 My1 My2 Mx3_0 Mx4_0 My5  q158) (v_M_execute_s11 hk k_258 ⟨Nat.le_of_ble_eq_true rfl, Nat.le_of_ble_eq_true rfl⟩) (pMC_v hK hPc hDc hC hS hA (ci := 1) (q0 := 0) rfl rfl rfl) rfl rfl hl.1 rfl (lv_room (Nat.le_of_ble_eq_true rfl)) d_S_run_35 ⟨by decide, by decide⟩) hS (fun q _ h => hFc q h) hFc (fun rz192 u t H locs ht hvm hr0 hB hzq hkq hS => ?_)
                                obtain ⟨Mx0_4z192, Mx0_5z192, Mx0_6z192, Mx0_7z192, Mx0_9z192, Mx0_10z192, Mx0_11z192, Mx0_12z192, Mx0_13z192, My1z192, My2z192, Mx3_0z192, Mx4_0z192, hP1, hD1⟩ := hB
                                rw [ht] at hP1
                                obtain ⟨hP, hD⟩ := va_join (wr := (wS54 cI cJ cZ cB p0 m0)) (w1 := (wS58 cI cJ cZ cB m0 m1 m2 m3 m4 m5 Mx0_4z192 Mx0_5z192 Mx0_6z192 Mx0_7z192 Mx0_8 Mx0_9z192 Mx0_10z192 Mx0_11z192 Mx0_12z192 Mx0_13z192 My1z192 My2z192 Mx3_0z192 Mx4_0z192 My5)) hP hD [1, 2, 3, 4, 5, 6] [0] rfl rfl (by decide) (by decide) hkq hFc hP1 hD1
                                have hP := hP.sub (ws' := ((wS54 cI cJ cZ cB p0 m0) ++ (wS58 cI cJ cZ cB m0 m1 m2 m3 m4 m5 Mx0_4z192 Mx0_5z192 Mx0_6z192 Mx0_7z192 Mx0_8 Mx0_9z192 Mx0_10z192 Mx0_11z192 Mx0_12z192 Mx0_13z192 My1z192 My2z192 Mx3_0z192 Mx4_0z192 My5))) [0, 1, 2, 3, 4, 5, 6] rfl
                                have hD := hD.sub (ws' := ((wS54 cI cJ cZ cB p0 m0) ++ (wS58 cI cJ cZ cB m0 m1 m2 m3 m4 m5 Mx0_4z192 Mx0_5z192 Mx0_6z192 Mx0_7z192 Mx0_8 Mx0_9z192 Mx0_10z192 Mx0_11z192 Mx0_12z192 Mx0_13z192 My1z192 My2z192 Mx3_0z192 Mx4_0z192 My5))) [0, 1, 2, 3, 4, 5, 6] (by decide) rfl
                                have hP : va_P D classes ((wS54 cI cJ cZ cB p0 m0) ++ (wS58 cI cJ cZ cB m0 m1 m2 m3 m4 m5 Mx0_4z192 Mx0_5z192 Mx0_6z192 Mx0_7z192 Mx0_8 Mx0_9z192 Mx0_10z192 Mx0_11z192 Mx0_12z192 Mx0_13z192 My1z192 My2z192 Mx3_0z192 Mx4_0z192 My5)) H := hP
                                have hD : va_D A ((wS54 cI cJ cZ cB p0 m0) ++ (wS58 cI cJ cZ cB m0 m1 m2 m3 m4 m5 Mx0_4z192 Mx0_5z192 Mx0_6z192 Mx0_7z192 Mx0_8 Mx0_9z192 Mx0_10z192 Mx0_11z192 Mx0_12z192 Mx0_13z192 My1z192 My2z192 Mx3_0z192 Mx4_0z192 My5)) := hD
                                clear hPc hDc hFc
                                refine lv_istore_n (lv' := [(3, .int rz192), (4, .int l4), (2, .int l2), (0, .ref p0), (1, .int a1)]) hx hb d_S_run_38 rfl hl (by decide) rfl (fun ls hl => ?_)
                                refine lv_iload_n hx hb d_S_run_39 rfl (lv_at hl 0 rfl) ?_
                                refine lv_iconst (v := 1) hx hb d_S_run_40 (by decide) ?_
                                refine lv_icmp_gt (tgt := 47) hx hb d_S_run_41 (by decide) (fun c193 => ?_) (fun c193 => ?_)
                                · obtain ⟨v194, hv194⟩ : ∃ y : Int32, y = (l4 + (1 : Int32)) := ⟨_, rfl⟩
                                  refine lv_iinc (v := v194) (lv' := [(4, .int v194), (3, .int rz192), (2, .int l2), (0, .ref p0), (1, .int a1)]) hx hb d_S_run_47 hl (k := 1) rfl (by rw [hv194]; rfl) (by decide) rfl (fun ls hl => ?_)
                                  refine lv_goto (tgt := 21) hx hb d_S_run_50 (by decide) ?_
                                  exact ih v194 l2 rz192 Mx0_4z192 Mx0_5z192 Mx0_6z192 Mx0_7z192 Mx0_8 Mx0_9z192 Mx0_10z192 Mx0_11z192 Mx0_12z192 Mx0_13z192 My1z192 My2z192 Mx3_0z192 Mx4_0z192 My5 H _ ls (lpu c156 hv194 hn21_x2) (lpn hc21_x2 c156 hv194) hP hD hS (lv_sub hl [0, 2, 1, 3, 4] rfl)
                                · obtain ⟨v195, hv195⟩ : ∃ y : Int32, y = (l2 + (1 : Int32)) := ⟨_, rfl⟩
                                  refine lv_iinc (v := v195) (lv' := [(2, .int v195), (3, .int rz192), (4, .int l4), (0, .ref p0), (1, .int a1)]) hx hb d_S_run_44 hl (k := 2) rfl (by rw [hv195]; rfl) (by decide) rfl (fun ls hl => ?_)
                                  obtain ⟨v196, hv196⟩ : ∃ y : Int32, y = (l4 + (1 : Int32)) := ⟨_, rfl⟩
                                  refine lv_iinc (v := v196) (lv' := [(4, .int v196), (2, .int v195), (3, .int rz192), (0, .ref p0), (1, .int a1)]) hx hb d_S_run_47 hl (k := 2) rfl (by rw [hv196]; rfl) (by decide) rfl (fun ls hl => ?_)
                                  refine lv_goto (tgt := 21) hx hb d_S_run_50 (by decide) ?_
                                  exact ih v196 v195 rz192 Mx0_4z192 Mx0_5z192 Mx0_6z192 Mx0_7z192 Mx0_8 Mx0_9z192 Mx0_10z192 Mx0_11z192 Mx0_12z192 Mx0_13z192 My1z192 My2z192 Mx3_0z192 Mx4_0z192 My5 H _ ls (lpu c156 hv196 hn21_x2) (lpn hc21_x2 c156 hv196) hP hD hS (lv_sub hl [0, 1, 2, 3, 4] rfl)
                      exact LP21_x2 _ v155 v154 rz102 Mx0_4 Mx0_5 Mx0_6z102 Mx0_7z102 Mx0_8 Mx0_9z102 Mx0_10z102 Mx0_11z102 Mx0_12z102 Mx0_13z102 My1 My2 Mx3_0 Mx4_0z102 My5z102 H _ ls (Nat.lt_succ_self _) (lpn hc21_x0 c3 hv155) hP hD hS hl
              · have hPc := hP.sub (ws' := (wS51 cI cJ cZ cB m0 m1 m2 m3 m4 Mx0_4 Mx0_5 Mx0_6 Mx0_7 Mx0_8 Mx0_9 Mx0_10 Mx0_11 Mx0_12 Mx0_13 My1 My2 Mx3_0 Mx4_0)) [1, 2, 3, 4, 5] rfl
                have hDc := hD.sub (ws' := (wS51 cI cJ cZ cB m0 m1 m2 m3 m4 Mx0_4 Mx0_5 Mx0_6 Mx0_7 Mx0_8 Mx0_9 Mx0_10 Mx0_11 Mx0_12 Mx0_13 My1 My2 Mx3_0 Mx4_0)) [1, 2, 3, 4, 5] (by decide) rfl
                have hFc := va_free (wc := (wS51 cI cJ cZ cB m0 m1 m2 m3 m4 Mx0_4 Mx0_5 Mx0_6 Mx0_7 Mx0_8 Mx0_9 Mx0_10 Mx0_11 Mx0_12 Mx0_13 My1 My2 Mx3_0 Mx4_0)) hD hS hA [1, 2, 3, 4, 5] rfl
                refine va_calli (va_runV (C := "SignMachine$Machine") (As := []) (rest := []) ⟨hx, hb, hml, hown, hk⟩ (c_M_execute_s3 l K D cI cJ cZ cB m0 m1 m2 m3 m4 H.size Mx0_4 Mx0_5 Mx0_6 Mx0_7 Mx0_8 Mx0_9 Mx0_10 Mx0_11 Mx0_12 Mx0_13 My1 My2 Mx3_0 Mx4_0  q5) (v_M_execute_s3 hk k_258 ⟨Nat.le_of_ble_eq_true rfl, Nat.le_of_ble_eq_true rfl⟩) (pMC_v hK hPc hDc hC hS hA (ci := 1) (q0 := 0) rfl rfl rfl) rfl rfl hl.1 rfl (lv_room (Nat.le_of_ble_eq_true rfl)) d_S_run_35 ⟨by decide, by decide⟩) hS (fun q _ h => hFc q h) hFc (fun rz197 u t H locs ht hvm hr0 hB hzq hkq hS => ?_)
                obtain ⟨Mx0_4z197, Mx0_5z197, Mx0_6z197, Mx0_7z197, Mx0_9z197, Mx0_10z197, Mx0_11z197, Mx0_12z197, Mx0_13z197, My1z197, My2z197, Mx3_0z197, Mx4_0z197, hP1, hD1⟩ := hB
                rw [ht] at hP1
                obtain ⟨hP, hD⟩ := va_join (wr := (wS54 cI cJ cZ cB p0 m0)) (w1 := (wS51 cI cJ cZ cB m0 m1 m2 m3 m4 Mx0_4z197 Mx0_5z197 Mx0_6z197 Mx0_7z197 Mx0_8 Mx0_9z197 Mx0_10z197 Mx0_11z197 Mx0_12z197 Mx0_13z197 My1z197 My2z197 Mx3_0z197 Mx4_0z197)) hP hD [1, 2, 3, 4, 5] [0] rfl rfl (by decide) (by decide) hkq hFc hP1 hD1
                have hP := hP.sub (ws' := ((wS54 cI cJ cZ cB p0 m0) ++ (wS51 cI cJ cZ cB m0 m1 m2 m3 m4 Mx0_4z197 Mx0_5z197 Mx0_6z197 Mx0_7z197 Mx0_8 Mx0_9z197 Mx0_10z197 Mx0_11z197 Mx0_12z197 Mx0_13z197 My1z197 My2z197 Mx3_0z197 Mx4_0z197))) [0, 1, 2, 3, 4, 5] rfl
                have hD := hD.sub (ws' := ((wS54 cI cJ cZ cB p0 m0) ++ (wS51 cI cJ cZ cB m0 m1 m2 m3 m4 Mx0_4z197 Mx0_5z197 Mx0_6z197 Mx0_7z197 Mx0_8 Mx0_9z197 Mx0_10z197 Mx0_11z197 Mx0_12z197 Mx0_13z197 My1z197 My2z197 Mx3_0z197 Mx4_0z197))) [0, 1, 2, 3, 4, 5] (by decide) rfl
                have hP : va_P D classes ((wS54 cI cJ cZ cB p0 m0) ++ (wS51 cI cJ cZ cB m0 m1 m2 m3 m4 Mx0_4z197 Mx0_5z197 Mx0_6z197 Mx0_7z197 Mx0_8 Mx0_9z197 Mx0_10z197 Mx0_11z197 Mx0_12z197 Mx0_13z197 My1z197 My2z197 Mx3_0z197 Mx4_0z197)) H := hP
                have hD : va_D A ((wS54 cI cJ cZ cB p0 m0) ++ (wS51 cI cJ cZ cB m0 m1 m2 m3 m4 Mx0_4z197 Mx0_5z197 Mx0_6z197 Mx0_7z197 Mx0_8 Mx0_9z197 Mx0_10z197 Mx0_11z197 Mx0_12z197 Mx0_13z197 My1z197 My2z197 Mx3_0z197 Mx4_0z197)) := hD
                clear hPc hDc hFc
                refine lv_istore_n (lv' := [(3, .int rz197), (4, .int l4), (2, .int l2), (0, .ref p0), (1, .int a1)]) hx hb d_S_run_38 rfl hl (by decide) rfl (fun ls hl => ?_)
                refine lv_iload_n hx hb d_S_run_39 rfl (lv_at hl 0 rfl) ?_
                refine lv_iconst (v := 1) hx hb d_S_run_40 (by decide) ?_
                refine lv_icmp_gt (tgt := 47) hx hb d_S_run_41 (by decide) (fun c198 => ?_) (fun c198 => ?_)
                · obtain ⟨v199, hv199⟩ : ∃ y : Int32, y = (l4 + (1 : Int32)) := ⟨_, rfl⟩
                  refine lv_iinc (v := v199) (lv' := [(4, .int v199), (3, .int rz197), (2, .int l2), (0, .ref p0), (1, .int a1)]) hx hb d_S_run_47 hl (k := 1) rfl (by rw [hv199]; rfl) (by decide) rfl (fun ls hl => ?_)
                  refine lv_goto (tgt := 21) hx hb d_S_run_50 (by decide) ?_
                  exact ih v199 rz197 l2 Mx0_4z197 Mx0_5z197 Mx0_6z197 Mx0_7z197 Mx0_8 Mx0_9z197 Mx0_10z197 Mx0_11z197 Mx0_12z197 Mx0_13z197 My1z197 My2z197 Mx3_0z197 Mx4_0z197 H _ ls (lpu c3 hv199 hn21_x0) (lpn hc21_x0 c3 hv199) hP hD hS (lv_sub hl [0, 1, 2, 3, 4] rfl)
                · obtain ⟨v200, hv200⟩ : ∃ y : Int32, y = (l2 + (1 : Int32)) := ⟨_, rfl⟩
                  refine lv_iinc (v := v200) (lv' := [(2, .int v200), (3, .int rz197), (4, .int l4), (0, .ref p0), (1, .int a1)]) hx hb d_S_run_44 hl (k := 2) rfl (by rw [hv200]; rfl) (by decide) rfl (fun ls hl => ?_)
                  obtain ⟨v201, hv201⟩ : ∃ y : Int32, y = (l4 + (1 : Int32)) := ⟨_, rfl⟩
                  refine lv_iinc (v := v201) (lv' := [(4, .int v201), (2, .int v200), (3, .int rz197), (0, .ref p0), (1, .int a1)]) hx hb d_S_run_47 hl (k := 2) rfl (by rw [hv201]; rfl) (by decide) rfl (fun ls hl => ?_)
                  refine lv_goto (tgt := 21) hx hb d_S_run_50 (by decide) ?_
                  exact ih v201 rz197 v200 Mx0_4z197 Mx0_5z197 Mx0_6z197 Mx0_7z197 Mx0_8 Mx0_9z197 Mx0_10z197 Mx0_11z197 Mx0_12z197 Mx0_13z197 My1z197 My2z197 Mx3_0z197 Mx4_0z197 H _ ls (lpu c3 hv201 hn21_x0) (lpn hc21_x0 c3 hv201) hP hD hS (lv_sub hl [0, 2, 1, 3, 4] rfl)
      exact LP21_x0 _ (0 : Int32) (0 : Int32) (0 : Int32) Mx0_4 Mx0_5 Mx0_6 Mx0_7 Mx0_8 Mx0_9 Mx0_10 Mx0_11 Mx0_12 Mx0_13 My1 My2 Mx3_0 Mx4_0 s.heap _ ls (Nat.lt_succ_self _) (by decide) hP hD hS hl
    · refine lv_iconst (v := (-1)) hx hb d_S_run_12 (by decide) ?_
      refine W.widen (k := 2) (n := 8000) (by decide) (by decide) ?_
      exact W.iret (v := (-1 : Int32)) hx hb hr (fun t ht hW => ⟨⟨(-1 : Int32), (0 : Int32), rfl, rfl, ⟨_, isC_0, (by show va_P D classes _ t.heap; rw [ht]; exact hP), hD⟩⟩, hS.F ht⟩) hS.2.2 d_S_run_13
theorem v_S_run_b11 {R : Room} {s : State} {args : Array Value} {own : String} {index : Nat} (hk : ∀ w ∈ tb, w.before args s = true) (hl : Cond.methodLink own index y_S_run ∈ tb) (hR : 7 + 1 ≤ R.frames ∧ 8 + (5 + 11) + 151 ≤ R.locals) : CallW R s args own "SignMachine" index y_S_run b_S_run 5 (some .int) (.code y_S_run b_S_run 5 (some .int) :: tb) ({ frames := 7, cells := 2, slots := 8000, locals := 151 }) 2 8000 1 := mk_v 1 hk k_474 hl k_472 k_473 k_116 rfl rfl h_S_run hR

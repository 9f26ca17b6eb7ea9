set_option maxHeartbeats 4000000 in
set_option maxRecDepth 100000 in
theorem c_S_peekSign_b14 (l : Launch) (K : CK) (D : va_G) (cI cJ cZ cB : ClassId) (p0 m0 m1 m2 m3 m4 m5 m6 : Nat) (sz : Nat) (Mx0_4 : Bool) (Mx0_5 : Int32) (Mx0_6 : Int32) (Mx0_7 : Int32) (Mx0_8 : Int32) (Mx0_9 : Int32) (Mx0_10 : Int32) (Mx0_11 : Int32) (Mx0_12 : Int32) (Mx0_13 : Int32) (My1 : Nat → Int32) (My2 : Nat → Int32) (Mx3_0 : Int32) (Mx4_0 : Int32) (My5 : Nat → Int32) (My6 : Nat → Int32)  (a1 : Int32) : Met l y_S_peekSign (.code y_S_peekSign b_S_peekSign 2 (some .int) :: tb) ({ frames := 1, cells := 0, slots := 0, locals := 21 }) (pMC K D cI cJ cZ cB ((wS54 cI cJ cZ cB p0 m0) ++ (wS60 cI cJ cZ cB m0 m1 m2 m3 m4 m5 m6 Mx0_4 Mx0_5 Mx0_6 Mx0_7 Mx0_8 Mx0_9 Mx0_10 Mx0_11 Mx0_12 Mx0_13 My1 My2 Mx3_0 Mx4_0 My5 My6)) sz [.ref p0, .int a1]) (va_Qi (fun r (uL : Int32) => uL = (0 : Int32)) (fun uL t => ∃ W9 : va_W, isC K cI cJ cZ cB p0 uL W9 ∧ va_P D classes W9 t.heap ∧ va_D (va_A ((wS54 cI cJ cZ cB p0 m0) ++ (wS60 cI cJ cZ cB m0 m1 m2 m3 m4 m5 m6 Mx0_4 Mx0_5 Mx0_6 Mx0_7 Mx0_8 Mx0_9 Mx0_10 Mx0_11 Mx0_12 Mx0_13 My1 My2 Mx3_0 Mx4_0 My5 My6)) sz) W9) (va_A ((wS54 cI cJ cZ cB p0 m0) ++ (wS60 cI cJ cZ cB m0 m1 m2 m3 m4 m5 m6 Mx0_4 Mx0_5 Mx0_6 Mx0_7 Mx0_8 Mx0_9 Mx0_10 Mx0_11 Mx0_12 Mx0_13 My1 My2 Mx3_0 Mx4_0 My5 My6)) sz)) 0 0 (va_A ((wS54 cI cJ cZ cB p0 m0) ++ (wS60 cI cJ cZ cB m0 m1 m2 m3 m4 m5 m6 Mx0_4 Mx0_5 Mx0_6 Mx0_7 Mx0_8 Mx0_9 Mx0_10 Mx0_11 Mx0_12 Mx0_13 My1 My2 Mx3_0 Mx4_0 My5 My6)) sz) := by
  refine Met.ofW (cc := b_S_peekSign) (maxL := 2) (ret := (some .int)) (by decide) rfl ?_
  intro p e s m args below meth c s₁ B hml hv
  obtain ⟨rfl, hsz, hK, hP, hD0, hC⟩ := hv
  subst hsz
  have hD := hD0.self (sz := s.heap.size)
  generalize hAe : va_A ((wS54 cI cJ cZ cB p0 m0) ++ (wS60 cI cJ cZ cB m0 m1 m2 m3 m4 m5 m6 Mx0_4 Mx0_5 Mx0_6 Mx0_7 Mx0_8 Mx0_9 Mx0_10 Mx0_11 Mx0_12 Mx0_13 My1 My2 Mx3_0 Mx4_0 My5 My6)) s.heap.size = A at hD hC ⊢
  have hA : ∀ q : Nat, s.heap.size ≤ q → A q := fun q h => by rw [← hAe]; exact Or.inr h
  clear hAe hD0
  have hS : va_S A s.heap s.heap [] := va_S.rf
  have hx := B.exec
  have hb := B.bytes
  have hr := B.returns
  have hts := atoms_spec (ws := .code y_S_peekSign b_S_peekSign 2 (some .int) :: tb) B.pre
  have hk : ∀ w ∈ tb, w.before [.ref p0, .int a1].toArray s = true := fun w h => hts w (List.mem_cons_of_mem _ h)
  have hown : s.vm.findClass "SignMachine" = some m.cls := findClass_of_methodNamed B.named
  have hlocks := B.notSynchronized
  have hl := lv_entry ([.ref p0, .int a1]) (n := 2) (Nat.le_of_ble_eq_true rfl)
  rw [lg_entry_eq]
  generalize (lg_sl ([.ref p0, .int a1]) ++ List.replicate (2 - (lg_sl ([.ref p0, .int a1])).length) Slot.unset).toArray = ls at hl ⊢
  have hl : lv_has ls 2 [(0, .ref p0), (1, .int a1)] := hl
  refine lv_iload_n hx hb d_S_peekSign_0 rfl (lv_at hl 1 rfl) ?_
  refine cs_i (W.runS (As := [.int a1]) (rest := []) ⟨hx, hb, hml, hown, hk⟩ (c_M_isAddress l a1) (s_M_isAddress hk k_221 ⟨Nat.le_of_ble_eq_true rfl, Nat.le_of_ble_eq_true rfl⟩) ⟨fun a U g mk q => q, fun U hU hW => ⟨rfl, trivial⟩⟩ rfl rfl hl.1 rfl (lv_room (Nat.le_of_ble_eq_true rfl)) d_S_peekSign_1 ⟨Nat.le_of_ble_eq_true rfl, Nat.le_of_ble_eq_true rfl⟩) ?_
  obtain ⟨z1, hz1⟩ : ∃ y : Bool, y = (f_M_isAddress a1) := ⟨_, rfl⟩
  rw [← hz1]
  refine lv_if_eq (tgt := 21) hx hb d_S_peekSign_4 (by decide) (fun c2 => ?_) (fun c2 => ?_)
  · refine lv_iconst (v := (-1)) hx hb d_S_peekSign_21 (by decide) ?_
    exact W.iret (v := (-1 : Int32)) hx hb hr (fun t ht hW => ⟨⟨(-1 : Int32), (0 : Int32), rfl, rfl, ⟨_, isC_3, (by show va_P D classes _ t.heap; rw [ht]; exact hP), hD⟩⟩, hS.F ht⟩) hS.2.2 d_S_peekSign_22
  · refine lv_aload_n hx hb d_S_peekSign_7 rfl (lv_at hl 0 rfl) ?_
    refine va_get (D := D) (ci := 0) (v := .ref m0) (C := "SignMachine") (T := F_S) (N := 2) hx hb hk fi_S hown hK.1 hP 0 rfl rfl 0 (by decide) (hk _ k_210) (fun _ h9 => h9) rfl d_S_peekSign_8 ?_
    refine lv_iload_n hx hb d_S_peekSign_11 rfl (lv_at hl 1 rfl) ?_
    have hPc := hP.sub (ws' := (wS60 cI cJ cZ cB m0 m1 m2 m3 m4 m5 m6 Mx0_4 Mx0_5 Mx0_6 Mx0_7 Mx0_8 Mx0_9 Mx0_10 Mx0_11 Mx0_12 Mx0_13 My1 My2 Mx3_0 Mx4_0 My5 My6)) [1, 2, 3, 4, 5, 6, 7] rfl
    have hDc := hD.sub (ws' := (wS60 cI cJ cZ cB m0 m1 m2 m3 m4 m5 m6 Mx0_4 Mx0_5 Mx0_6 Mx0_7 Mx0_8 Mx0_9 Mx0_10 Mx0_11 Mx0_12 Mx0_13 My1 My2 Mx3_0 Mx4_0 My5 My6)) [1, 2, 3, 4, 5, 6, 7] (by decide) rfl
    have hFc := va_free (wc := (wS60 cI cJ cZ cB m0 m1 m2 m3 m4 m5 m6 Mx0_4 Mx0_5 Mx0_6 Mx0_7 Mx0_8 Mx0_9 Mx0_10 Mx0_11 Mx0_12 Mx0_13 My1 My2 Mx3_0 Mx4_0 My5 My6)) hD hS hA [1, 2, 3, 4, 5, 6, 7] rfl
    refine va_calli (va_runV (C := "SignMachine$Machine") (As := [.int a1]) (rest := []) ⟨hx, hb, hml, hown, hk⟩ (c_M_wordAt_s4 l K D cI cJ cZ cB m0 m1 m2 m3 m4 m5 m6 s.heap.size Mx0_4 Mx0_5 Mx0_6 Mx0_7 Mx0_8 Mx0_9 Mx0_10 Mx0_11 Mx0_12 Mx0_13 My1 My2 Mx3_0 Mx4_0 My5 My6 a1 ) (v_M_wordAt_s4 hk k_240 ⟨Nat.le_of_ble_eq_true rfl, Nat.le_of_ble_eq_true rfl⟩) (pMC_v hK hPc hDc hC hS hA (ci := 1) (q0 := 0) rfl rfl rfl) rfl rfl hl.1 rfl (lv_room (Nat.le_of_ble_eq_true rfl)) d_S_peekSign_12 ⟨by decide, by decide⟩) hS (fun q _ h => hFc q h) hFc (fun rz3 u t H locs ht hvm hr0 hB hzq hkq hS => ?_)
    obtain ⟨hP1, hD1⟩ := hB
    rw [ht] at hP1
    obtain ⟨hP, hD⟩ := va_join (wr := (wS54 cI cJ cZ cB p0 m0)) (w1 := (wS60 cI cJ cZ cB m0 m1 m2 m3 m4 m5 m6 Mx0_4 Mx0_5 Mx0_6 Mx0_7 Mx0_8 Mx0_9 Mx0_10 Mx0_11 Mx0_12 Mx0_13 My1 My2 Mx3_0 Mx4_0 My5 My6)) hP hD [1, 2, 3, 4, 5, 6, 7] [0] rfl rfl (by decide) (by decide) hkq hFc hP1 hD1
    have hP := hP.sub (ws' := ((wS54 cI cJ cZ cB p0 m0) ++ (wS60 cI cJ cZ cB m0 m1 m2 m3 m4 m5 m6 Mx0_4 Mx0_5 Mx0_6 Mx0_7 Mx0_8 Mx0_9 Mx0_10 Mx0_11 Mx0_12 Mx0_13 My1 My2 Mx3_0 Mx4_0 My5 My6))) [0, 1, 2, 3, 4, 5, 6, 7] rfl
    have hD := hD.sub (ws' := ((wS54 cI cJ cZ cB p0 m0) ++ (wS60 cI cJ cZ cB m0 m1 m2 m3 m4 m5 m6 Mx0_4 Mx0_5 Mx0_6 Mx0_7 Mx0_8 Mx0_9 Mx0_10 Mx0_11 Mx0_12 Mx0_13 My1 My2 Mx3_0 Mx4_0 My5 My6))) [0, 1, 2, 3, 4, 5, 6, 7] (by decide) rfl
    have hP : va_P D classes ((wS54 cI cJ cZ cB p0 m0) ++ (wS60 cI cJ cZ cB m0 m1 m2 m3 m4 m5 m6 Mx0_4 Mx0_5 Mx0_6 Mx0_7 Mx0_8 Mx0_9 Mx0_10 Mx0_11 Mx0_12 Mx0_13 My1 My2 Mx3_0 Mx4_0 My5 My6)) H := hP
    have hD : va_D A ((wS54 cI cJ cZ cB p0 m0) ++ (wS60 cI cJ cZ cB m0 m1 m2 m3 m4 m5 m6 Mx0_4 Mx0_5 Mx0_6 Mx0_7 Mx0_8 Mx0_9 Mx0_10 Mx0_11 Mx0_12 Mx0_13 My1 My2 Mx3_0 Mx4_0 My5 My6)) := hD
    clear hPc hDc hFc
    refine cs_i (W.runS (As := [.int rz3]) (rest := []) ⟨hx, hb, hml, hown, hk⟩ (c_W_sign l rz3) (s_W_sign hk k_244 ⟨Nat.le_of_ble_eq_true rfl, Nat.le_of_ble_eq_true rfl⟩) ⟨fun a U g mk q => q, fun U hU hW => ⟨rfl, trivial⟩⟩ rfl rfl hl.1 rfl (lv_room (Nat.le_of_ble_eq_true rfl)) d_S_peekSign_15 ⟨Nat.le_of_ble_eq_true rfl, Nat.le_of_ble_eq_true rfl⟩) ?_
    refine lv_topi (fun v4 hv4 => ?_)
    refine lv_goto (tgt := 22) hx hb d_S_peekSign_18 (by decide) ?_
    exact W.iret (v := v4) hx hb hr (fun t ht hW => ⟨⟨v4, (0 : Int32), rfl, rfl, ⟨_, isC_3, (by show va_P D classes _ t.heap; rw [ht]; exact hP), hD⟩⟩, hS.F ht⟩) hS.2.2 d_S_peekSign_22
theorem v_S_peekSign_b14 {R : Room} {s : State} {args : Array Value} {own : String} {index : Nat} (hk : ∀ w ∈ tb, w.before args s = true) (hl : Cond.methodLink own index y_S_peekSign ∈ tb) (hR : 1 + 1 ≤ R.frames ∧ 8 + (2 + 11) + 21 ≤ R.locals) : CallW R s args own "SignMachine" index y_S_peekSign b_S_peekSign 2 (some .int) (.code y_S_peekSign b_S_peekSign 2 (some .int) :: tb) ({ frames := 1, cells := 0, slots := 0, locals := 21 }) 0 0 1 := mk_v 1 hk k_239 hl k_237 k_238 k_116 rfl rfl h_S_peekSign hR
set_option maxHeartbeats 4000000 in
set_option maxRecDepth 100000 in
theorem c_S_peekSize_b14 (l : Launch) (K : CK) (D : va_G) (cI cJ cZ cB : ClassId) (p0 m0 m1 m2 m3 m4 m5 m6 : Nat) (sz : Nat) (Mx0_4 : Bool) (Mx0_5 : Int32) (Mx0_6 : Int32) (Mx0_7 : Int32) (Mx0_8 : Int32) (Mx0_9 : Int32) (Mx0_10 : Int32) (Mx0_11 : Int32) (Mx0_12 : Int32) (Mx0_13 : Int32) (My1 : Nat → Int32) (My2 : Nat → Int32) (Mx3_0 : Int32) (Mx4_0 : Int32) (My5 : Nat → Int32) (My6 : Nat → Int32)  (a1 : Int32) : Met l y_S_peekSize (.code y_S_peekSize b_S_peekSize 2 (some .int) :: tb) ({ frames := 1, cells := 0, slots := 0, locals := 21 }) (pMC K D cI cJ cZ cB ((wS54 cI cJ cZ cB p0 m0) ++ (wS60 cI cJ cZ cB m0 m1 m2 m3 m4 m5 m6 Mx0_4 Mx0_5 Mx0_6 Mx0_7 Mx0_8 Mx0_9 Mx0_10 Mx0_11 Mx0_12 Mx0_13 My1 My2 Mx3_0 Mx4_0 My5 My6)) sz [.ref p0, .int a1]) (va_Qi (fun r (uL : Int32) => uL = (0 : Int32)) (fun uL t => ∃ W9 : va_W, isC K cI cJ cZ cB p0 uL W9 ∧ va_P D classes W9 t.heap ∧ va_D (va_A ((wS54 cI cJ cZ cB p0 m0) ++ (wS60 cI cJ cZ cB m0 m1 m2 m3 m4 m5 m6 Mx0_4 Mx0_5 Mx0_6 Mx0_7 Mx0_8 Mx0_9 Mx0_10 Mx0_11 Mx0_12 Mx0_13 My1 My2 Mx3_0 Mx4_0 My5 My6)) sz) W9) (va_A ((wS54 cI cJ cZ cB p0 m0) ++ (wS60 cI cJ cZ cB m0 m1 m2 m3 m4 m5 m6 Mx0_4 Mx0_5 Mx0_6 Mx0_7 Mx0_8 Mx0_9 Mx0_10 Mx0_11 Mx0_12 Mx0_13 My1 My2 Mx3_0 Mx4_0 My5 My6)) sz)) 0 0 (va_A ((wS54 cI cJ cZ cB p0 m0) ++ (wS60 cI cJ cZ cB m0 m1 m2 m3 m4 m5 m6 Mx0_4 Mx0_5 Mx0_6 Mx0_7 Mx0_8 Mx0_9 Mx0_10 Mx0_11 Mx0_12 Mx0_13 My1 My2 Mx3_0 Mx4_0 My5 My6)) sz) := by
  refine Met.ofW (cc := b_S_peekSize) (maxL := 2) (ret := (some .int)) (by decide) rfl ?_
  intro p e s m args below meth c s₁ B hml hv
  obtain ⟨rfl, hsz, hK, hP, hD0, hC⟩ := hv
  subst hsz
  have hD := hD0.self (sz := s.heap.size)
  generalize hAe : va_A ((wS54 cI cJ cZ cB p0 m0) ++ (wS60 cI cJ cZ cB m0 m1 m2 m3 m4 m5 m6 Mx0_4 Mx0_5 Mx0_6 Mx0_7 Mx0_8 Mx0_9 Mx0_10 Mx0_11 Mx0_12 Mx0_13 My1 My2 Mx3_0 Mx4_0 My5 My6)) s.heap.size = A at hD hC ⊢
  have hA : ∀ q : Nat, s.heap.size ≤ q → A q := fun q h => by rw [← hAe]; exact Or.inr h
  clear hAe hD0
  have hS : va_S A s.heap s.heap [] := va_S.rf
  have hx := B.exec
  have hb := B.bytes
  have hr := B.returns
  have hts := atoms_spec (ws := .code y_S_peekSize b_S_peekSize 2 (some .int) :: tb) B.pre
  have hk : ∀ w ∈ tb, w.before [.ref p0, .int a1].toArray s = true := fun w h => hts w (List.mem_cons_of_mem _ h)
  have hown : s.vm.findClass "SignMachine" = some m.cls := findClass_of_methodNamed B.named
  have hlocks := B.notSynchronized
  have hl := lv_entry ([.ref p0, .int a1]) (n := 2) (Nat.le_of_ble_eq_true rfl)
  rw [lg_entry_eq]
  generalize (lg_sl ([.ref p0, .int a1]) ++ List.replicate (2 - (lg_sl ([.ref p0, .int a1])).length) Slot.unset).toArray = ls at hl ⊢
  have hl : lv_has ls 2 [(0, .ref p0), (1, .int a1)] := hl
  refine lv_iload_n hx hb d_S_peekSize_0 rfl (lv_at hl 1 rfl) ?_
  refine cs_i (W.runS (As := [.int a1]) (rest := []) ⟨hx, hb, hml, hown, hk⟩ (c_M_isAddress l a1) (s_M_isAddress hk k_221 ⟨Nat.le_of_ble_eq_true rfl, Nat.le_of_ble_eq_true rfl⟩) ⟨fun a U g mk q => q, fun U hU hW => ⟨rfl, trivial⟩⟩ rfl rfl hl.1 rfl (lv_room (Nat.le_of_ble_eq_true rfl)) d_S_peekSize_1 ⟨Nat.le_of_ble_eq_true rfl, Nat.le_of_ble_eq_true rfl⟩) ?_
  obtain ⟨z1, hz1⟩ : ∃ y : Bool, y = (f_M_isAddress a1) := ⟨_, rfl⟩
  rw [← hz1]
  refine lv_if_eq (tgt := 21) hx hb d_S_peekSize_4 (by decide) (fun c2 => ?_) (fun c2 => ?_)
  · refine lv_iconst (v := (-1)) hx hb d_S_peekSize_21 (by decide) ?_
    exact W.iret (v := (-1 : Int32)) hx hb hr (fun t ht hW => ⟨⟨(-1 : Int32), (0 : Int32), rfl, rfl, ⟨_, isC_3, (by show va_P D classes _ t.heap; rw [ht]; exact hP), hD⟩⟩, hS.F ht⟩) hS.2.2 d_S_peekSize_22
  · refine lv_aload_n hx hb d_S_peekSize_7 rfl (lv_at hl 0 rfl) ?_
    refine va_get (D := D) (ci := 0) (v := .ref m0) (C := "SignMachine") (T := F_S) (N := 2) hx hb hk fi_S hown hK.1 hP 0 rfl rfl 0 (by decide) (hk _ k_210) (fun _ h9 => h9) rfl d_S_peekSize_8 ?_
    refine lv_iload_n hx hb d_S_peekSize_11 rfl (lv_at hl 1 rfl) ?_
    have hPc := hP.sub (ws' := (wS60 cI cJ cZ cB m0 m1 m2 m3 m4 m5 m6 Mx0_4 Mx0_5 Mx0_6 Mx0_7 Mx0_8 Mx0_9 Mx0_10 Mx0_11 Mx0_12 Mx0_13 My1 My2 Mx3_0 Mx4_0 My5 My6)) [1, 2, 3, 4, 5, 6, 7] rfl
    have hDc := hD.sub (ws' := (wS60 cI cJ cZ cB m0 m1 m2 m3 m4 m5 m6 Mx0_4 Mx0_5 Mx0_6 Mx0_7 Mx0_8 Mx0_9 Mx0_10 Mx0_11 Mx0_12 Mx0_13 My1 My2 Mx3_0 Mx4_0 My5 My6)) [1, 2, 3, 4, 5, 6, 7] (by decide) rfl
    have hFc := va_free (wc := (wS60 cI cJ cZ cB m0 m1 m2 m3 m4 m5 m6 Mx0_4 Mx0_5 Mx0_6 Mx0_7 Mx0_8 Mx0_9 Mx0_10 Mx0_11 Mx0_12 Mx0_13 My1 My2 Mx3_0 Mx4_0 My5 My6)) hD hS hA [1, 2, 3, 4, 5, 6, 7] rfl
    refine va_calli (va_runV (C := "SignMachine$Machine") (As := [.int a1]) (rest := []) ⟨hx, hb, hml, hown, hk⟩ (c_M_wordAt_s4 l K D cI cJ cZ cB m0 m1 m2 m3 m4 m5 m6 s.heap.size Mx0_4 Mx0_5 Mx0_6 Mx0_7 Mx0_8 Mx0_9 Mx0_10 Mx0_11 Mx0_12 Mx0_13 My1 My2 Mx3_0 Mx4_0 My5 My6 a1 ) (v_M_wordAt_s4 hk k_240 ⟨Nat.le_of_ble_eq_true rfl, Nat.le_of_ble_eq_true rfl⟩) (pMC_v hK hPc hDc hC hS hA (ci := 1) (q0 := 0) rfl rfl rfl) rfl rfl hl.1 rfl (lv_room (Nat.le_of_ble_eq_true rfl)) d_S_peekSize_12 ⟨by decide, by decide⟩) hS (fun q _ h => hFc q h) hFc (fun rz3 u t H locs ht hvm hr0 hB hzq hkq hS => ?_)
    obtain ⟨hP1, hD1⟩ := hB
    rw [ht] at hP1
    obtain ⟨hP, hD⟩ := va_join (wr := (wS54 cI cJ cZ cB p0 m0)) (w1 := (wS60 cI cJ cZ cB m0 m1 m2 m3 m4 m5 m6 Mx0_4 Mx0_5 Mx0_6 Mx0_7 Mx0_8 Mx0_9 Mx0_10 Mx0_11 Mx0_12 Mx0_13 My1 My2 Mx3_0 Mx4_0 My5 My6)) hP hD [1, 2, 3, 4, 5, 6, 7] [0] rfl rfl (by decide) (by decide) hkq hFc hP1 hD1
    have hP := hP.sub (ws' := ((wS54 cI cJ cZ cB p0 m0) ++ (wS60 cI cJ cZ cB m0 m1 m2 m3 m4 m5 m6 Mx0_4 Mx0_5 Mx0_6 Mx0_7 Mx0_8 Mx0_9 Mx0_10 Mx0_11 Mx0_12 Mx0_13 My1 My2 Mx3_0 Mx4_0 My5 My6))) [0, 1, 2, 3, 4, 5, 6, 7] rfl
    have hD := hD.sub (ws' := ((wS54 cI cJ cZ cB p0 m0) ++ (wS60 cI cJ cZ cB m0 m1 m2 m3 m4 m5 m6 Mx0_4 Mx0_5 Mx0_6 Mx0_7 Mx0_8 Mx0_9 Mx0_10 Mx0_11 Mx0_12 Mx0_13 My1 My2 Mx3_0 Mx4_0 My5 My6))) [0, 1, 2, 3, 4, 5, 6, 7] (by decide) rfl
    have hP : va_P D classes ((wS54 cI cJ cZ cB p0 m0) ++ (wS60 cI cJ cZ cB m0 m1 m2 m3 m4 m5 m6 Mx0_4 Mx0_5 Mx0_6 Mx0_7 Mx0_8 Mx0_9 Mx0_10 Mx0_11 Mx0_12 Mx0_13 My1 My2 Mx3_0 Mx4_0 My5 My6)) H := hP
    have hD : va_D A ((wS54 cI cJ cZ cB p0 m0) ++ (wS60 cI cJ cZ cB m0 m1 m2 m3 m4 m5 m6 Mx0_4 Mx0_5 Mx0_6 Mx0_7 Mx0_8 Mx0_9 Mx0_10 Mx0_11 Mx0_12 Mx0_13 My1 My2 Mx3_0 Mx4_0 My5 My6)) := hD
    clear hPc hDc hFc
    refine cs_i (W.runS (As := [.int rz3]) (rest := []) ⟨hx, hb, hml, hown, hk⟩ (c_W_size l rz3) (s_W_size hk k_251 ⟨Nat.le_of_ble_eq_true rfl, Nat.le_of_ble_eq_true rfl⟩) ⟨fun a U g mk q => q, fun U hU hW => ⟨rfl, trivial⟩⟩ rfl rfl hl.1 rfl (lv_room (Nat.le_of_ble_eq_true rfl)) d_S_peekSize_15 ⟨Nat.le_of_ble_eq_true rfl, Nat.le_of_ble_eq_true rfl⟩) ?_
    refine lv_topi (fun v4 hv4 => ?_)
    refine lv_goto (tgt := 22) hx hb d_S_peekSize_18 (by decide) ?_
    exact W.iret (v := v4) hx hb hr (fun t ht hW => ⟨⟨v4, (0 : Int32), rfl, rfl, ⟨_, isC_3, (by show va_P D classes _ t.heap; rw [ht]; exact hP), hD⟩⟩, hS.F ht⟩) hS.2.2 d_S_peekSize_22
theorem v_S_peekSize_b14 {R : Room} {s : State} {args : Array Value} {own : String} {index : Nat} (hk : ∀ w ∈ tb, w.before args s = true) (hl : Cond.methodLink own index y_S_peekSize ∈ tb) (hR : 1 + 1 ≤ R.frames ∧ 8 + (2 + 11) + 21 ≤ R.locals) : CallW R s args own "SignMachine" index y_S_peekSize b_S_peekSize 2 (some .int) (.code y_S_peekSize b_S_peekSize 2 (some .int) :: tb) ({ frames := 1, cells := 0, slots := 0, locals := 21 }) 0 0 1 := mk_v 1 hk k_250 hl k_248 k_249 k_116 rfl rfl h_S_peekSize hR
set_option maxHeartbeats 4000000 in
set_option maxRecDepth 100000 in
theorem c_S_registerSign_b14 (l : Launch) (K : CK) (D : va_G) (cI cJ cZ cB : ClassId) (p0 m0 m1 m2 m3 m4 m5 m6 : Nat) (sz : Nat) (Mx0_4 : Bool) (Mx0_5 : Int32) (Mx0_6 : Int32) (Mx0_7 : Int32) (Mx0_8 : Int32) (Mx0_9 : Int32) (Mx0_10 : Int32) (Mx0_11 : Int32) (Mx0_12 : Int32) (Mx0_13 : Int32) (My1 : Nat → Int32) (My2 : Nat → Int32) (Mx3_0 : Int32) (Mx4_0 : Int32) (My5 : Nat → Int32) (My6 : Nat → Int32)  (a1 : Int32) : Met l y_S_registerSign (.code y_S_registerSign b_S_registerSign 2 (some .int) :: tb) ({ frames := 1, cells := 0, slots := 0, locals := 21 }) (pMC K D cI cJ cZ cB ((wS54 cI cJ cZ cB p0 m0) ++ (wS60 cI cJ cZ cB m0 m1 m2 m3 m4 m5 m6 Mx0_4 Mx0_5 Mx0_6 Mx0_7 Mx0_8 Mx0_9 Mx0_10 Mx0_11 Mx0_12 Mx0_13 My1 My2 Mx3_0 Mx4_0 My5 My6)) sz [.ref p0, .int a1]) (va_Qi (fun r (uL : Int32) => uL = (0 : Int32)) (fun uL t => ∃ W9 : va_W, isC K cI cJ cZ cB p0 uL W9 ∧ va_P D classes W9 t.heap ∧ va_D (va_A ((wS54 cI cJ cZ cB p0 m0) ++ (wS60 cI cJ cZ cB m0 m1 m2 m3 m4 m5 m6 Mx0_4 Mx0_5 Mx0_6 Mx0_7 Mx0_8 Mx0_9 Mx0_10 Mx0_11 Mx0_12 Mx0_13 My1 My2 Mx3_0 Mx4_0 My5 My6)) sz) W9) (va_A ((wS54 cI cJ cZ cB p0 m0) ++ (wS60 cI cJ cZ cB m0 m1 m2 m3 m4 m5 m6 Mx0_4 Mx0_5 Mx0_6 Mx0_7 Mx0_8 Mx0_9 Mx0_10 Mx0_11 Mx0_12 Mx0_13 My1 My2 Mx3_0 Mx4_0 My5 My6)) sz)) 0 0 (va_A ((wS54 cI cJ cZ cB p0 m0) ++ (wS60 cI cJ cZ cB m0 m1 m2 m3 m4 m5 m6 Mx0_4 Mx0_5 Mx0_6 Mx0_7 Mx0_8 Mx0_9 Mx0_10 Mx0_11 Mx0_12 Mx0_13 My1 My2 Mx3_0 Mx4_0 My5 My6)) sz) := by
  refine Met.ofW (cc := b_S_registerSign) (maxL := 2) (ret := (some .int)) (by decide) rfl ?_
  intro p e s m args below meth c s₁ B hml hv
  obtain ⟨rfl, hsz, hK, hP, hD0, hC⟩ := hv
  subst hsz
  have hD := hD0.self (sz := s.heap.size)
  generalize hAe : va_A ((wS54 cI cJ cZ cB p0 m0) ++ (wS60 cI cJ cZ cB m0 m1 m2 m3 m4 m5 m6 Mx0_4 Mx0_5 Mx0_6 Mx0_7 Mx0_8 Mx0_9 Mx0_10 Mx0_11 Mx0_12 Mx0_13 My1 My2 Mx3_0 Mx4_0 My5 My6)) s.heap.size = A at hD hC ⊢
  have hA : ∀ q : Nat, s.heap.size ≤ q → A q := fun q h => by rw [← hAe]; exact Or.inr h
  clear hAe hD0
  have hS : va_S A s.heap s.heap [] := va_S.rf
  have hx := B.exec
  have hb := B.bytes
  have hr := B.returns
  have hts := atoms_spec (ws := .code y_S_registerSign b_S_registerSign 2 (some .int) :: tb) B.pre
  have hk : ∀ w ∈ tb, w.before [.ref p0, .int a1].toArray s = true := fun w h => hts w (List.mem_cons_of_mem _ h)
  have hown : s.vm.findClass "SignMachine" = some m.cls := findClass_of_methodNamed B.named
  have hlocks := B.notSynchronized
  have hl := lv_entry ([.ref p0, .int a1]) (n := 2) (Nat.le_of_ble_eq_true rfl)
  rw [lg_entry_eq]
  generalize (lg_sl ([.ref p0, .int a1]) ++ List.replicate (2 - (lg_sl ([.ref p0, .int a1])).length) Slot.unset).toArray = ls at hl ⊢
  have hl : lv_has ls 2 [(0, .ref p0), (1, .int a1)] := hl
  refine lv_iload_n hx hb d_S_registerSign_0 rfl (lv_at hl 1 rfl) ?_
  refine cs_i (W.runS (As := [.int a1]) (rest := []) ⟨hx, hb, hml, hown, hk⟩ (c_M_isRegister l a1) (s_M_isRegister hk k_479 ⟨Nat.le_of_ble_eq_true rfl, Nat.le_of_ble_eq_true rfl⟩) ⟨fun a U g mk q => q, fun U hU hW => ⟨rfl, trivial⟩⟩ rfl rfl hl.1 rfl (lv_room (Nat.le_of_ble_eq_true rfl)) d_S_registerSign_1 ⟨Nat.le_of_ble_eq_true rfl, Nat.le_of_ble_eq_true rfl⟩) ?_
  obtain ⟨z1, hz1⟩ : ∃ y : Bool, y = (f_M_isRegister a1) := ⟨_, rfl⟩
  rw [← hz1]
  refine lv_if_eq (tgt := 21) hx hb d_S_registerSign_4 (by decide) (fun c2 => ?_) (fun c2 => ?_)
  · refine lv_iconst (v := (-1)) hx hb d_S_registerSign_21 (by decide) ?_
    exact W.iret (v := (-1 : Int32)) hx hb hr (fun t ht hW => ⟨⟨(-1 : Int32), (0 : Int32), rfl, rfl, ⟨_, isC_3, (by show va_P D classes _ t.heap; rw [ht]; exact hP), hD⟩⟩, hS.F ht⟩) hS.2.2 d_S_registerSign_22
  · refine lv_aload_n hx hb d_S_registerSign_7 rfl (lv_at hl 0 rfl) ?_
    refine va_get (D := D) (ci := 0) (v := .ref m0) (C := "SignMachine") (T := F_S) (N := 2) hx hb hk fi_S hown hK.1 hP 0 rfl rfl 0 (by decide) (hk _ k_210) (fun _ h9 => h9) rfl d_S_registerSign_8 ?_
    refine lv_iload_n hx hb d_S_registerSign_11 rfl (lv_at hl 1 rfl) ?_
    have hPc := hP.sub (ws' := (wS60 cI cJ cZ cB m0 m1 m2 m3 m4 m5 m6 Mx0_4 Mx0_5 Mx0_6 Mx0_7 Mx0_8 Mx0_9 Mx0_10 Mx0_11 Mx0_12 Mx0_13 My1 My2 Mx3_0 Mx4_0 My5 My6)) [1, 2, 3, 4, 5, 6, 7] rfl
    have hDc := hD.sub (ws' := (wS60 cI cJ cZ cB m0 m1 m2 m3 m4 m5 m6 Mx0_4 Mx0_5 Mx0_6 Mx0_7 Mx0_8 Mx0_9 Mx0_10 Mx0_11 Mx0_12 Mx0_13 My1 My2 Mx3_0 Mx4_0 My5 My6)) [1, 2, 3, 4, 5, 6, 7] (by decide) rfl
    have hFc := va_free (wc := (wS60 cI cJ cZ cB m0 m1 m2 m3 m4 m5 m6 Mx0_4 Mx0_5 Mx0_6 Mx0_7 Mx0_8 Mx0_9 Mx0_10 Mx0_11 Mx0_12 Mx0_13 My1 My2 Mx3_0 Mx4_0 My5 My6)) hD hS hA [1, 2, 3, 4, 5, 6, 7] rfl
    refine va_calli (va_runV (C := "SignMachine$Machine") (As := [.int a1]) (rest := []) ⟨hx, hb, hml, hown, hk⟩ (c_M_register_s3 l K D cI cJ cZ cB m0 m1 m2 m3 m4 m5 m6 s.heap.size Mx0_4 Mx0_5 Mx0_6 Mx0_7 Mx0_8 Mx0_9 Mx0_10 Mx0_11 Mx0_12 Mx0_13 My1 My2 Mx3_0 Mx4_0 My5 My6 a1 ) (v_M_register_s3 hk k_482 ⟨Nat.le_of_ble_eq_true rfl, Nat.le_of_ble_eq_true rfl⟩) (pMC_v hK hPc hDc hC hS hA (ci := 1) (q0 := 0) rfl rfl rfl) rfl rfl hl.1 rfl (lv_room (Nat.le_of_ble_eq_true rfl)) d_S_registerSign_12 ⟨by decide, by decide⟩) hS (fun q _ h => hFc q h) hFc (fun rz3 u t H locs ht hvm hr0 hB hzq hkq hS => ?_)
    obtain ⟨hP1, hD1⟩ := hB
    rw [ht] at hP1
    obtain ⟨hP, hD⟩ := va_join (wr := (wS54 cI cJ cZ cB p0 m0)) (w1 := (wS60 cI cJ cZ cB m0 m1 m2 m3 m4 m5 m6 Mx0_4 Mx0_5 Mx0_6 Mx0_7 Mx0_8 Mx0_9 Mx0_10 Mx0_11 Mx0_12 Mx0_13 My1 My2 Mx3_0 Mx4_0 My5 My6)) hP hD [1, 2, 3, 4, 5, 6, 7] [0] rfl rfl (by decide) (by decide) hkq hFc hP1 hD1
    have hP := hP.sub (ws' := ((wS54 cI cJ cZ cB p0 m0) ++ (wS60 cI cJ cZ cB m0 m1 m2 m3 m4 m5 m6 Mx0_4 Mx0_5 Mx0_6 Mx0_7 Mx0_8 Mx0_9 Mx0_10 Mx0_11 Mx0_12 Mx0_13 My1 My2 Mx3_0 Mx4_0 My5 My6))) [0, 1, 2, 3, 4, 5, 6, 7] rfl
    have hD := hD.sub (ws' := ((wS54 cI cJ cZ cB p0 m0) ++ (wS60 cI cJ cZ cB m0 m1 m2 m3 m4 m5 m6 Mx0_4 Mx0_5 Mx0_6 Mx0_7 Mx0_8 Mx0_9 Mx0_10 Mx0_11 Mx0_12 Mx0_13 My1 My2 Mx3_0 Mx4_0 My5 My6))) [0, 1, 2, 3, 4, 5, 6, 7] (by decide) rfl
    have hP : va_P D classes ((wS54 cI cJ cZ cB p0 m0) ++ (wS60 cI cJ cZ cB m0 m1 m2 m3 m4 m5 m6 Mx0_4 Mx0_5 Mx0_6 Mx0_7 Mx0_8 Mx0_9 Mx0_10 Mx0_11 Mx0_12 Mx0_13 My1 My2 Mx3_0 Mx4_0 My5 My6)) H := hP
    have hD : va_D A ((wS54 cI cJ cZ cB p0 m0) ++ (wS60 cI cJ cZ cB m0 m1 m2 m3 m4 m5 m6 Mx0_4 Mx0_5 Mx0_6 Mx0_7 Mx0_8 Mx0_9 Mx0_10 Mx0_11 Mx0_12 Mx0_13 My1 My2 Mx3_0 Mx4_0 My5 My6)) := hD
    clear hPc hDc hFc
    refine cs_i (W.runS (As := [.int rz3]) (rest := []) ⟨hx, hb, hml, hown, hk⟩ (c_W_sign l rz3) (s_W_sign hk k_244 ⟨Nat.le_of_ble_eq_true rfl, Nat.le_of_ble_eq_true rfl⟩) ⟨fun a U g mk q => q, fun U hU hW => ⟨rfl, trivial⟩⟩ rfl rfl hl.1 rfl (lv_room (Nat.le_of_ble_eq_true rfl)) d_S_registerSign_15 ⟨Nat.le_of_ble_eq_true rfl, Nat.le_of_ble_eq_true rfl⟩) ?_
    refine lv_topi (fun v4 hv4 => ?_)
    refine lv_goto (tgt := 22) hx hb d_S_registerSign_18 (by decide) ?_
    exact W.iret (v := v4) hx hb hr (fun t ht hW => ⟨⟨v4, (0 : Int32), rfl, rfl, ⟨_, isC_3, (by show va_P D classes _ t.heap; rw [ht]; exact hP), hD⟩⟩, hS.F ht⟩) hS.2.2 d_S_registerSign_22
theorem v_S_registerSign_b14 {R : Room} {s : State} {args : Array Value} {own : String} {index : Nat} (hk : ∀ w ∈ tb, w.before args s = true) (hl : Cond.methodLink own index y_S_registerSign ∈ tb) (hR : 1 + 1 ≤ R.frames ∧ 8 + (2 + 11) + 21 ≤ R.locals) : CallW R s args own "SignMachine" index y_S_registerSign b_S_registerSign 2 (some .int) (.code y_S_registerSign b_S_registerSign 2 (some .int) :: tb) ({ frames := 1, cells := 0, slots := 0, locals := 21 }) 0 0 1 := mk_v 1 hk k_478 hl k_476 k_477 k_116 rfl rfl h_S_registerSign hR
set_option maxHeartbeats 4000000 in
set_option maxRecDepth 100000 in
theorem c_S_registerSize_b14 (l : Launch) (K : CK) (D : va_G) (cI cJ cZ cB : ClassId) (p0 m0 m1 m2 m3 m4 m5 m6 : Nat) (sz : Nat) (Mx0_4 : Bool) (Mx0_5 : Int32) (Mx0_6 : Int32) (Mx0_7 : Int32) (Mx0_8 : Int32) (Mx0_9 : Int32) (Mx0_10 : Int32) (Mx0_11 : Int32) (Mx0_12 : Int32) (Mx0_13 : Int32) (My1 : Nat → Int32) (My2 : Nat → Int32) (Mx3_0 : Int32) (Mx4_0 : Int32) (My5 : Nat → Int32) (My6 : Nat → Int32)  (a1 : Int32) : Met l y_S_registerSize (.code y_S_registerSize b_S_registerSize 2 (some .int) :: tb) ({ frames := 1, cells := 0, slots := 0, locals := 21 }) (pMC K D cI cJ cZ cB ((wS54 cI cJ cZ cB p0 m0) ++ (wS60 cI cJ cZ cB m0 m1 m2 m3 m4 m5 m6 Mx0_4 Mx0_5 Mx0_6 Mx0_7 Mx0_8 Mx0_9 Mx0_10 Mx0_11 Mx0_12 Mx0_13 My1 My2 Mx3_0 Mx4_0 My5 My6)) sz [.ref p0, .int a1]) (va_Qi (fun r (uL : Int32) => uL = (0 : Int32)) (fun uL t => ∃ W9 : va_W, isC K cI cJ cZ cB p0 uL W9 ∧ va_P D classes W9 t.heap ∧ va_D (va_A ((wS54 cI cJ cZ cB p0 m0) ++ (wS60 cI cJ cZ cB m0 m1 m2 m3 m4 m5 m6 Mx0_4 Mx0_5 Mx0_6 Mx0_7 Mx0_8 Mx0_9 Mx0_10 Mx0_11 Mx0_12 Mx0_13 My1 My2 Mx3_0 Mx4_0 My5 My6)) sz) W9) (va_A ((wS54 cI cJ cZ cB p0 m0) ++ (wS60 cI cJ cZ cB m0 m1 m2 m3 m4 m5 m6 Mx0_4 Mx0_5 Mx0_6 Mx0_7 Mx0_8 Mx0_9 Mx0_10 Mx0_11 Mx0_12 Mx0_13 My1 My2 Mx3_0 Mx4_0 My5 My6)) sz)) 0 0 (va_A ((wS54 cI cJ cZ cB p0 m0) ++ (wS60 cI cJ cZ cB m0 m1 m2 m3 m4 m5 m6 Mx0_4 Mx0_5 Mx0_6 Mx0_7 Mx0_8 Mx0_9 Mx0_10 Mx0_11 Mx0_12 Mx0_13 My1 My2 Mx3_0 Mx4_0 My5 My6)) sz) := by
  refine Met.ofW (cc := b_S_registerSize) (maxL := 2) (ret := (some .int)) (by decide) rfl ?_
  intro p e s m args below meth c s₁ B hml hv
  obtain ⟨rfl, hsz, hK, hP, hD0, hC⟩ := hv
  subst hsz
  have hD := hD0.self (sz := s.heap.size)
  generalize hAe : va_A ((wS54 cI cJ cZ cB p0 m0) ++ (wS60 cI cJ cZ cB m0 m1 m2 m3 m4 m5 m6 Mx0_4 Mx0_5 Mx0_6 Mx0_7 Mx0_8 Mx0_9 Mx0_10 Mx0_11 Mx0_12 Mx0_13 My1 My2 Mx3_0 Mx4_0 My5 My6)) s.heap.size = A at hD hC ⊢
  have hA : ∀ q : Nat, s.heap.size ≤ q → A q := fun q h => by rw [← hAe]; exact Or.inr h
  clear hAe hD0
  have hS : va_S A s.heap s.heap [] := va_S.rf
  have hx := B.exec
  have hb := B.bytes
  have hr := B.returns
  have hts := atoms_spec (ws := .code y_S_registerSize b_S_registerSize 2 (some .int) :: tb) B.pre
  have hk : ∀ w ∈ tb, w.before [.ref p0, .int a1].toArray s = true := fun w h => hts w (List.mem_cons_of_mem _ h)
  have hown : s.vm.findClass "SignMachine" = some m.cls := findClass_of_methodNamed B.named
  have hlocks := B.notSynchronized
  have hl := lv_entry ([.ref p0, .int a1]) (n := 2) (Nat.le_of_ble_eq_true rfl)
  rw [lg_entry_eq]
  generalize (lg_sl ([.ref p0, .int a1]) ++ List.replicate (2 - (lg_sl ([.ref p0, .int a1])).length) Slot.unset).toArray = ls at hl ⊢
  have hl : lv_has ls 2 [(0, .ref p0), (1, .int a1)] := hl
  refine lv_iload_n hx hb d_S_registerSize_0 rfl (lv_at hl 1 rfl) ?_
  refine cs_i (W.runS (As := [.int a1]) (rest := []) ⟨hx, hb, hml, hown, hk⟩ (c_M_isRegister l a1) (s_M_isRegister hk k_479 ⟨Nat.le_of_ble_eq_true rfl, Nat.le_of_ble_eq_true rfl⟩) ⟨fun a U g mk q => q, fun U hU hW => ⟨rfl, trivial⟩⟩ rfl rfl hl.1 rfl (lv_room (Nat.le_of_ble_eq_true rfl)) d_S_registerSize_1 ⟨Nat.le_of_ble_eq_true rfl, Nat.le_of_ble_eq_true rfl⟩) ?_
  obtain ⟨z1, hz1⟩ : ∃ y : Bool, y = (f_M_isRegister a1) := ⟨_, rfl⟩
  rw [← hz1]
  refine lv_if_eq (tgt := 21) hx hb d_S_registerSize_4 (by decide) (fun c2 => ?_) (fun c2 => ?_)
  · refine lv_iconst (v := (-1)) hx hb d_S_registerSize_21 (by decide) ?_
    exact W.iret (v := (-1 : Int32)) hx hb hr (fun t ht hW => ⟨⟨(-1 : Int32), (0 : Int32), rfl, rfl, ⟨_, isC_3, (by show va_P D classes _ t.heap; rw [ht]; exact hP), hD⟩⟩, hS.F ht⟩) hS.2.2 d_S_registerSize_22
  · refine lv_aload_n hx hb d_S_registerSize_7 rfl (lv_at hl 0 rfl) ?_
    refine va_get (D := D) (ci := 0) (v := .ref m0) (C := "SignMachine") (T := F_S) (N := 2) hx hb hk fi_S hown hK.1 hP 0 rfl rfl 0 (by decide) (hk _ k_210) (fun _ h9 => h9) rfl d_S_registerSize_8 ?_
    refine lv_iload_n hx hb d_S_registerSize_11 rfl (lv_at hl 1 rfl) ?_
    have hPc := hP.sub (ws' := (wS60 cI cJ cZ cB m0 m1 m2 m3 m4 m5 m6 Mx0_4 Mx0_5 Mx0_6 Mx0_7 Mx0_8 Mx0_9 Mx0_10 Mx0_11 Mx0_12 Mx0_13 My1 My2 Mx3_0 Mx4_0 My5 My6)) [1, 2, 3, 4, 5, 6, 7] rfl
    have hDc := hD.sub (ws' := (wS60 cI cJ cZ cB m0 m1 m2 m3 m4 m5 m6 Mx0_4 Mx0_5 Mx0_6 Mx0_7 Mx0_8 Mx0_9 Mx0_10 Mx0_11 Mx0_12 Mx0_13 My1 My2 Mx3_0 Mx4_0 My5 My6)) [1, 2, 3, 4, 5, 6, 7] (by decide) rfl
    have hFc := va_free (wc := (wS60 cI cJ cZ cB m0 m1 m2 m3 m4 m5 m6 Mx0_4 Mx0_5 Mx0_6 Mx0_7 Mx0_8 Mx0_9 Mx0_10 Mx0_11 Mx0_12 Mx0_13 My1 My2 Mx3_0 Mx4_0 My5 My6)) hD hS hA [1, 2, 3, 4, 5, 6, 7] rfl
    refine va_calli (va_runV (C := "SignMachine$Machine") (As := [.int a1]) (rest := []) ⟨hx, hb, hml, hown, hk⟩ (c_M_register_s3 l K D cI cJ cZ cB m0 m1 m2 m3 m4 m5 m6 s.heap.size Mx0_4 Mx0_5 Mx0_6 Mx0_7 Mx0_8 Mx0_9 Mx0_10 Mx0_11 Mx0_12 Mx0_13 My1 My2 Mx3_0 Mx4_0 My5 My6 a1 ) (v_M_register_s3 hk k_482 ⟨Nat.le_of_ble_eq_true rfl, Nat.le_of_ble_eq_true rfl⟩) (pMC_v hK hPc hDc hC hS hA (ci := 1) (q0 := 0) rfl rfl rfl) rfl rfl hl.1 rfl (lv_room (Nat.le_of_ble_eq_true rfl)) d_S_registerSize_12 ⟨by decide, by decide⟩) hS (fun q _ h => hFc q h) hFc (fun rz3 u t H locs ht hvm hr0 hB hzq hkq hS => ?_)
    obtain ⟨hP1, hD1⟩ := hB
    rw [ht] at hP1
    obtain ⟨hP, hD⟩ := va_join (wr := (wS54 cI cJ cZ cB p0 m0)) (w1 := (wS60 cI cJ cZ cB m0 m1 m2 m3 m4 m5 m6 Mx0_4 Mx0_5 Mx0_6 Mx0_7 Mx0_8 Mx0_9 Mx0_10 Mx0_11 Mx0_12 Mx0_13 My1 My2 Mx3_0 Mx4_0 My5 My6)) hP hD [1, 2, 3, 4, 5, 6, 7] [0] rfl rfl (by decide) (by decide) hkq hFc hP1 hD1
    have hP := hP.sub (ws' := ((wS54 cI cJ cZ cB p0 m0) ++ (wS60 cI cJ cZ cB m0 m1 m2 m3 m4 m5 m6 Mx0_4 Mx0_5 Mx0_6 Mx0_7 Mx0_8 Mx0_9 Mx0_10 Mx0_11 Mx0_12 Mx0_13 My1 My2 Mx3_0 Mx4_0 My5 My6))) [0, 1, 2, 3, 4, 5, 6, 7] rfl
    have hD := hD.sub (ws' := ((wS54 cI cJ cZ cB p0 m0) ++ (wS60 cI cJ cZ cB m0 m1 m2 m3 m4 m5 m6 Mx0_4 Mx0_5 Mx0_6 Mx0_7 Mx0_8 Mx0_9 Mx0_10 Mx0_11 Mx0_12 Mx0_13 My1 My2 Mx3_0 Mx4_0 My5 My6))) [0, 1, 2, 3, 4, 5, 6, 7] (by decide) rfl
    have hP : va_P D classes ((wS54 cI cJ cZ cB p0 m0) ++ (wS60 cI cJ cZ cB m0 m1 m2 m3 m4 m5 m6 Mx0_4 Mx0_5 Mx0_6 Mx0_7 Mx0_8 Mx0_9 Mx0_10 Mx0_11 Mx0_12 Mx0_13 My1 My2 Mx3_0 Mx4_0 My5 My6)) H := hP
    have hD : va_D A ((wS54 cI cJ cZ cB p0 m0) ++ (wS60 cI cJ cZ cB m0 m1 m2 m3 m4 m5 m6 Mx0_4 Mx0_5 Mx0_6 Mx0_7 Mx0_8 Mx0_9 Mx0_10 Mx0_11 Mx0_12 Mx0_13 My1 My2 Mx3_0 Mx4_0 My5 My6)) := hD
    clear hPc hDc hFc
    refine cs_i (W.runS (As := [.int rz3]) (rest := []) ⟨hx, hb, hml, hown, hk⟩ (c_W_size l rz3) (s_W_size hk k_251 ⟨Nat.le_of_ble_eq_true rfl, Nat.le_of_ble_eq_true rfl⟩) ⟨fun a U g mk q => q, fun U hU hW => ⟨rfl, trivial⟩⟩ rfl rfl hl.1 rfl (lv_room (Nat.le_of_ble_eq_true rfl)) d_S_registerSize_15 ⟨Nat.le_of_ble_eq_true rfl, Nat.le_of_ble_eq_true rfl⟩) ?_
    refine lv_topi (fun v4 hv4 => ?_)
    refine lv_goto (tgt := 22) hx hb d_S_registerSize_18 (by decide) ?_
    exact W.iret (v := v4) hx hb hr (fun t ht hW => ⟨⟨v4, (0 : Int32), rfl, rfl, ⟨_, isC_3, (by show va_P D classes _ t.heap; rw [ht]; exact hP), hD⟩⟩, hS.F ht⟩) hS.2.2 d_S_registerSize_22
theorem v_S_registerSize_b14 {R : Room} {s : State} {args : Array Value} {own : String} {index : Nat} (hk : ∀ w ∈ tb, w.before args s = true) (hl : Cond.methodLink own index y_S_registerSize ∈ tb) (hR : 1 + 1 ≤ R.frames ∧ 8 + (2 + 11) + 21 ≤ R.locals) : CallW R s args own "SignMachine" index y_S_registerSize b_S_registerSize 2 (some .int) (.code y_S_registerSize b_S_registerSize 2 (some .int) :: tb) ({ frames := 1, cells := 0, slots := 0, locals := 21 }) 0 0 1 := mk_v 1 hk k_486 hl k_484 k_485 k_116 rfl rfl h_S_registerSize hR
set_option maxHeartbeats 4000000 in
set_option maxRecDepth 100000 in
theorem c_S_set_b14 (l : Launch) (K : CK) (D : va_G) (cI cJ cZ cB : ClassId) (p0 m0 m1 m2 m3 m4 m5 m6 : Nat) (sz : Nat) (Mx0_4 : Bool) (Mx0_5 : Int32) (Mx0_6 : Int32) (Mx0_7 : Int32) (Mx0_8 : Int32) (Mx0_9 : Int32) (Mx0_10 : Int32) (Mx0_11 : Int32) (Mx0_12 : Int32) (Mx0_13 : Int32) (My1 : Nat → Int32) (My2 : Nat → Int32) (Mx3_0 : Int32) (Mx4_0 : Int32) (My5 : Nat → Int32) (My6 : Nat → Int32)  (a1 : Int32) (a2 : Int32) (a3 : Int32) : Met l y_S_set (.code y_S_set b_S_set 4 (some .boolean) :: tb) ({ frames := 2, cells := 0, slots := 0, locals := 40 }) (pMC K D cI cJ cZ cB ((wS54 cI cJ cZ cB p0 m0) ++ (wS60 cI cJ cZ cB m0 m1 m2 m3 m4 m5 m6 Mx0_4 Mx0_5 Mx0_6 Mx0_7 Mx0_8 Mx0_9 Mx0_10 Mx0_11 Mx0_12 Mx0_13 My1 My2 Mx3_0 Mx4_0 My5 My6)) sz [.ref p0, .int a1, .int a2, .int a3]) (va_Qi (fun r (uL : Int32) => uL = (0 : Int32) ∧ r = (f_cset a1 a2 a3)) (fun uL t => ∃ W9 : va_W, isC K cI cJ cZ cB p0 uL W9 ∧ va_P D classes W9 t.heap ∧ va_D (va_A ((wS54 cI cJ cZ cB p0 m0) ++ (wS60 cI cJ cZ cB m0 m1 m2 m3 m4 m5 m6 Mx0_4 Mx0_5 Mx0_6 Mx0_7 Mx0_8 Mx0_9 Mx0_10 Mx0_11 Mx0_12 Mx0_13 My1 My2 Mx3_0 Mx4_0 My5 My6)) sz) W9) (va_A ((wS54 cI cJ cZ cB p0 m0) ++ (wS60 cI cJ cZ cB m0 m1 m2 m3 m4 m5 m6 Mx0_4 Mx0_5 Mx0_6 Mx0_7 Mx0_8 Mx0_9 Mx0_10 Mx0_11 Mx0_12 Mx0_13 My1 My2 Mx3_0 Mx4_0 My5 My6)) sz)) 0 0 (va_A ((wS54 cI cJ cZ cB p0 m0) ++ (wS60 cI cJ cZ cB m0 m1 m2 m3 m4 m5 m6 Mx0_4 Mx0_5 Mx0_6 Mx0_7 Mx0_8 Mx0_9 Mx0_10 Mx0_11 Mx0_12 Mx0_13 My1 My2 Mx3_0 Mx4_0 My5 My6)) sz) := by
  refine Met.ofW (cc := b_S_set) (maxL := 4) (ret := (some .boolean)) (by decide) rfl ?_
  intro p e s m args below meth c s₁ B hml hv
  obtain ⟨rfl, hsz, hK, hP, hD0, hC⟩ := hv
  subst hsz
  have hD := hD0.self (sz := s.heap.size)
  generalize hAe : va_A ((wS54 cI cJ cZ cB p0 m0) ++ (wS60 cI cJ cZ cB m0 m1 m2 m3 m4 m5 m6 Mx0_4 Mx0_5 Mx0_6 Mx0_7 Mx0_8 Mx0_9 Mx0_10 Mx0_11 Mx0_12 Mx0_13 My1 My2 Mx3_0 Mx4_0 My5 My6)) s.heap.size = A at hD hC ⊢
  have hA : ∀ q : Nat, s.heap.size ≤ q → A q := fun q h => by rw [← hAe]; exact Or.inr h
  clear hAe hD0
  have hS : va_S A s.heap s.heap [] := va_S.rf
  have hx := B.exec
  have hb := B.bytes
  have hr := B.returns
  have hts := atoms_spec (ws := .code y_S_set b_S_set 4 (some .boolean) :: tb) B.pre
  have hk : ∀ w ∈ tb, w.before [.ref p0, .int a1, .int a2, .int a3].toArray s = true := fun w h => hts w (List.mem_cons_of_mem _ h)
  have hown : s.vm.findClass "SignMachine" = some m.cls := findClass_of_methodNamed B.named
  have hlocks := B.notSynchronized
  have hl := lv_entry ([.ref p0, .int a1, .int a2, .int a3]) (n := 4) (Nat.le_of_ble_eq_true rfl)
  rw [lg_entry_eq]
  generalize (lg_sl ([.ref p0, .int a1, .int a2, .int a3]) ++ List.replicate (4 - (lg_sl ([.ref p0, .int a1, .int a2, .int a3])).length) Slot.unset).toArray = ls at hl ⊢
  have hl : lv_has ls 4 [(0, .ref p0), (1, .int a1), (2, .int a2), (3, .int a3)] := hl
  refine lv_iload_n hx hb d_S_set_0 rfl (lv_at hl 1 rfl) ?_
  refine cs_i (W.runS (As := [.int a1]) (rest := []) ⟨hx, hb, hml, hown, hk⟩ (c_M_isRegister l a1) (s_M_isRegister hk k_479 ⟨Nat.le_of_ble_eq_true rfl, Nat.le_of_ble_eq_true rfl⟩) ⟨fun a U g mk q => q, fun U hU hW => ⟨rfl, trivial⟩⟩ rfl rfl hl.1 rfl (lv_room (Nat.le_of_ble_eq_true rfl)) d_S_set_1 ⟨Nat.le_of_ble_eq_true rfl, Nat.le_of_ble_eq_true rfl⟩) ?_
  obtain ⟨z1, hz1⟩ : ∃ y : Bool, y = (f_M_isRegister a1) := ⟨_, rfl⟩
  rw [← hz1]
  refine lv_if_eq (tgt := 15) hx hb d_S_set_4 (by decide) (fun c2 => ?_) (fun c2 => ?_)
  · refine lv_iconst (v := 0) hx hb d_S_set_15 (by decide) ?_
    exact W.zret (v := (0 : Int32)) hx hb hr rfl (fun t ht hW => ⟨⟨(0 : Int32), (0 : Int32), rfl, ⟨rfl, by unfold f_cset; simp only [← hz1, if_pos c2]⟩, ⟨_, isC_3, (by show va_P D classes _ t.heap; rw [ht]; exact hP), hD⟩⟩, hS.F ht⟩) hS.2.2 d_S_set_16
  · refine lv_iload_n hx hb d_S_set_7 rfl (lv_at hl 2 rfl) ?_
    refine lv_iload_n hx hb d_S_set_8 rfl (lv_at hl 3 rfl) ?_
    refine cs_i (W.runS (As := [.int a2, .int a3]) (rest := []) ⟨hx, hb, hml, hown, hk⟩ (c_W_isWord l a2 a3) (s_W_isWord hk k_224 ⟨Nat.le_of_ble_eq_true rfl, Nat.le_of_ble_eq_true rfl⟩) ⟨fun a U g mk q => q, fun U hU hW => ⟨rfl, trivial⟩⟩ rfl rfl hl.1 rfl (lv_room (Nat.le_of_ble_eq_true rfl)) d_S_set_9 ⟨Nat.le_of_ble_eq_true rfl, Nat.le_of_ble_eq_true rfl⟩) ?_
    obtain ⟨z3, hz3⟩ : ∃ y : Bool, y = (f_W_isWord a2 a3) := ⟨_, rfl⟩
    rw [← hz3]
    refine lv_if_ne (tgt := 17) hx hb d_S_set_12 (by decide) (fun c4 => ?_) (fun c4 => ?_)
    · refine lv_iload_n hx hb d_S_set_17 rfl (lv_at hl 1 rfl) ?_
      refine cs_i (W.runS (As := [.int a1]) (rest := []) ⟨hx, hb, hml, hown, hk⟩ (c_M_isShort l a1) (s_M_isShort hk k_491 ⟨Nat.le_of_ble_eq_true rfl, Nat.le_of_ble_eq_true rfl⟩) ⟨fun a U g mk q => q, fun U hU hW => ⟨rfl, trivial⟩⟩ rfl rfl hl.1 rfl (lv_room (Nat.le_of_ble_eq_true rfl)) d_S_set_18 ⟨Nat.le_of_ble_eq_true rfl, Nat.le_of_ble_eq_true rfl⟩) ?_
      obtain ⟨z5, hz5⟩ : ∃ y : Bool, y = (f_M_isShort a1) := ⟨_, rfl⟩
      rw [← hz5]
      refine lv_if_eq (tgt := 33) hx hb d_S_set_21 (by decide) (fun c6 => ?_) (fun c6 => ?_)
      · refine lv_iload_n hx hb d_S_set_33 rfl (lv_at hl 1 rfl) ?_
        refine lv_bipush (v := 8) hx hb d_S_set_34 (by decide) ?_
        refine lv_icmp_ne (tgt := 45) hx hb d_S_set_36 (by decide) (fun c7 => ?_) (fun c7 => ?_)
        · refine lv_aload_n hx hb d_S_set_45 rfl (lv_at hl 0 rfl) ?_
          refine va_get (D := D) (ci := 0) (v := .ref m0) (C := "SignMachine") (T := F_S) (N := 2) hx hb hk fi_S hown hK.1 hP 0 rfl rfl 0 (by decide) (hk _ k_210) (fun _ h9 => h9) rfl d_S_set_46 ?_
          refine lv_iload_n hx hb d_S_set_49 rfl (lv_at hl 1 rfl) ?_
          refine lv_iload_n hx hb d_S_set_50 rfl (lv_at hl 2 rfl) ?_
          refine lv_iload_n hx hb d_S_set_51 rfl (lv_at hl 3 rfl) ?_
          refine cs_i (W.runS (As := [.int a2, .int a3]) (rest := [.int a1, .ref m0]) ⟨hx, hb, hml, hown, hk⟩ (c_W_make l a2 a3) (s_W_make hk k_228 ⟨Nat.le_of_ble_eq_true rfl, Nat.le_of_ble_eq_true rfl⟩) ⟨fun a U g mk q => q, fun U hU hW => ⟨rfl, trivial⟩⟩ rfl rfl hl.1 rfl (lv_room (Nat.le_of_ble_eq_true rfl)) d_S_set_52 ⟨Nat.le_of_ble_eq_true rfl, Nat.le_of_ble_eq_true rfl⟩) ?_
          refine lv_topi (fun v8 hv8 => ?_)
          have hPc := hP.sub (ws' := (wS60 cI cJ cZ cB m0 m1 m2 m3 m4 m5 m6 Mx0_4 Mx0_5 Mx0_6 Mx0_7 Mx0_8 Mx0_9 Mx0_10 Mx0_11 Mx0_12 Mx0_13 My1 My2 Mx3_0 Mx4_0 My5 My6)) [1, 2, 3, 4, 5, 6, 7] rfl
          have hDc := hD.sub (ws' := (wS60 cI cJ cZ cB m0 m1 m2 m3 m4 m5 m6 Mx0_4 Mx0_5 Mx0_6 Mx0_7 Mx0_8 Mx0_9 Mx0_10 Mx0_11 Mx0_12 Mx0_13 My1 My2 Mx3_0 Mx4_0 My5 My6)) [1, 2, 3, 4, 5, 6, 7] (by decide) rfl
          have hFc := va_free (wc := (wS60 cI cJ cZ cB m0 m1 m2 m3 m4 m5 m6 Mx0_4 Mx0_5 Mx0_6 Mx0_7 Mx0_8 Mx0_9 Mx0_10 Mx0_11 Mx0_12 Mx0_13 My1 My2 Mx3_0 Mx4_0 My5 My6)) hD hS hA [1, 2, 3, 4, 5, 6, 7] rfl
          refine va_callv (va_runV (C := "SignMachine$Machine") (As := [.int a1, .int v8]) (rest := []) ⟨hx, hb, hml, hown, hk⟩ (c_M_putRegister_s2 l K D cI cJ cZ cB m0 m1 m2 m3 m4 m5 m6 s.heap.size Mx0_4 Mx0_5 Mx0_6 Mx0_7 Mx0_8 Mx0_9 Mx0_10 Mx0_11 Mx0_12 Mx0_13 My1 My2 Mx3_0 Mx4_0 My5 My6 a1 v8 ) (v_M_putRegister_s2 hk k_494 ⟨Nat.le_of_ble_eq_true rfl, Nat.le_of_ble_eq_true rfl⟩) (pMC_v hK hPc hDc hC hS hA (ci := 1) (q0 := 0) rfl rfl rfl) rfl rfl hl.1 rfl (lv_room (Nat.le_of_ble_eq_true rfl)) d_S_set_55 ⟨by decide, by decide⟩) hS (fun q _ h => hFc q h) hFc (fun u t H locs ht hvm hr0 hB hzq hkq hS => ?_)
          obtain ⟨My2z9, hP1, hD1⟩ := hB
          rw [ht] at hP1
          obtain ⟨hP, hD⟩ := va_join (wr := (wS54 cI cJ cZ cB p0 m0)) (w1 := (wS60 cI cJ cZ cB m0 m1 m2 m3 m4 m5 m6 Mx0_4 Mx0_5 Mx0_6 Mx0_7 Mx0_8 Mx0_9 Mx0_10 Mx0_11 Mx0_12 Mx0_13 My1 My2z9 Mx3_0 Mx4_0 My5 My6)) hP hD [1, 2, 3, 4, 5, 6, 7] [0] rfl rfl (by decide) (by decide) hkq hFc hP1 hD1
          have hP := hP.sub (ws' := ((wS54 cI cJ cZ cB p0 m0) ++ (wS60 cI cJ cZ cB m0 m1 m2 m3 m4 m5 m6 Mx0_4 Mx0_5 Mx0_6 Mx0_7 Mx0_8 Mx0_9 Mx0_10 Mx0_11 Mx0_12 Mx0_13 My1 My2z9 Mx3_0 Mx4_0 My5 My6))) [0, 1, 2, 3, 4, 5, 6, 7] rfl
          have hD := hD.sub (ws' := ((wS54 cI cJ cZ cB p0 m0) ++ (wS60 cI cJ cZ cB m0 m1 m2 m3 m4 m5 m6 Mx0_4 Mx0_5 Mx0_6 Mx0_7 Mx0_8 Mx0_9 Mx0_10 Mx0_11 Mx0_12 Mx0_13 My1 My2z9 Mx3_0 Mx4_0 My5 My6))) [0, 1, 2, 3, 4, 5, 6, 7] (by decide) rfl
          have hP : va_P D classes ((wS54 cI cJ cZ cB p0 m0) ++ (wS60 cI cJ cZ cB m0 m1 m2 m3 m4 m5 m6 Mx0_4 Mx0_5 Mx0_6 Mx0_7 Mx0_8 Mx0_9 Mx0_10 Mx0_11 Mx0_12 Mx0_13 My1 My2z9 Mx3_0 Mx4_0 My5 My6)) H := hP
          have hD : va_D A ((wS54 cI cJ cZ cB p0 m0) ++ (wS60 cI cJ cZ cB m0 m1 m2 m3 m4 m5 m6 Mx0_4 Mx0_5 Mx0_6 Mx0_7 Mx0_8 Mx0_9 Mx0_10 Mx0_11 Mx0_12 Mx0_13 My1 My2z9 Mx3_0 Mx4_0 My5 My6)) := hD
          clear hPc hDc hFc
          refine lv_iconst (v := 1) hx hb d_S_set_58 (by decide) ?_
          exact W.zret (v := (1 : Int32)) hx hb hr rfl (fun t ht hW => ⟨⟨(1 : Int32), (0 : Int32), rfl, ⟨rfl, by unfold f_cset; simp only [← hz1, ← hz3, ← hz5, if_neg c2, if_neg c4, if_pos c6, if_neg c7]⟩, ⟨_, isC_3, (by show va_P D classes _ t.heap; rw [ht]; exact hP), hD⟩⟩, hS.F ht⟩) hS.2.2 d_S_set_59
        · refine lv_iload_n hx hb d_S_set_39 rfl (lv_at hl 2 rfl) ?_
          refine lv_if_eq (tgt := 45) hx hb d_S_set_40 (by decide) (fun c10 => ?_) (fun c10 => ?_)
          · refine lv_aload_n hx hb d_S_set_45 rfl (lv_at hl 0 rfl) ?_
            refine va_get (D := D) (ci := 0) (v := .ref m0) (C := "SignMachine") (T := F_S) (N := 2) hx hb hk fi_S hown hK.1 hP 0 rfl rfl 0 (by decide) (hk _ k_210) (fun _ h9 => h9) rfl d_S_set_46 ?_
            refine lv_iload_n hx hb d_S_set_49 rfl (lv_at hl 1 rfl) ?_
            refine lv_iload_n hx hb d_S_set_50 rfl (lv_at hl 2 rfl) ?_
            refine lv_iload_n hx hb d_S_set_51 rfl (lv_at hl 3 rfl) ?_
            refine cs_i (W.runS (As := [.int a2, .int a3]) (rest := [.int a1, .ref m0]) ⟨hx, hb, hml, hown, hk⟩ (c_W_make l a2 a3) (s_W_make hk k_228 ⟨Nat.le_of_ble_eq_true rfl, Nat.le_of_ble_eq_true rfl⟩) ⟨fun a U g mk q => q, fun U hU hW => ⟨rfl, trivial⟩⟩ rfl rfl hl.1 rfl (lv_room (Nat.le_of_ble_eq_true rfl)) d_S_set_52 ⟨Nat.le_of_ble_eq_true rfl, Nat.le_of_ble_eq_true rfl⟩) ?_
            refine lv_topi (fun v11 hv11 => ?_)
            have hPc := hP.sub (ws' := (wS60 cI cJ cZ cB m0 m1 m2 m3 m4 m5 m6 Mx0_4 Mx0_5 Mx0_6 Mx0_7 Mx0_8 Mx0_9 Mx0_10 Mx0_11 Mx0_12 Mx0_13 My1 My2 Mx3_0 Mx4_0 My5 My6)) [1, 2, 3, 4, 5, 6, 7] rfl
            have hDc := hD.sub (ws' := (wS60 cI cJ cZ cB m0 m1 m2 m3 m4 m5 m6 Mx0_4 Mx0_5 Mx0_6 Mx0_7 Mx0_8 Mx0_9 Mx0_10 Mx0_11 Mx0_12 Mx0_13 My1 My2 Mx3_0 Mx4_0 My5 My6)) [1, 2, 3, 4, 5, 6, 7] (by decide) rfl
            have hFc := va_free (wc := (wS60 cI cJ cZ cB m0 m1 m2 m3 m4 m5 m6 Mx0_4 Mx0_5 Mx0_6 Mx0_7 Mx0_8 Mx0_9 Mx0_10 Mx0_11 Mx0_12 Mx0_13 My1 My2 Mx3_0 Mx4_0 My5 My6)) hD hS hA [1, 2, 3, 4, 5, 6, 7] rfl
            refine va_callv (va_runV (C := "SignMachine$Machine") (As := [.int a1, .int v11]) (rest := []) ⟨hx, hb, hml, hown, hk⟩ (c_M_putRegister_s2 l K D cI cJ cZ cB m0 m1 m2 m3 m4 m5 m6 s.heap.size Mx0_4 Mx0_5 Mx0_6 Mx0_7 Mx0_8 Mx0_9 Mx0_10 Mx0_11 Mx0_12 Mx0_13 My1 My2 Mx3_0 Mx4_0 My5 My6 a1 v11 ) (v_M_putRegister_s2 hk k_494 ⟨Nat.le_of_ble_eq_true rfl, Nat.le_of_ble_eq_true rfl⟩) (pMC_v hK hPc hDc hC hS hA (ci := 1) (q0 := 0) rfl rfl rfl) rfl rfl hl.1 rfl (lv_room (Nat.le_of_ble_eq_true rfl)) d_S_set_55 ⟨by decide, by decide⟩) hS (fun q _ h => hFc q h) hFc (fun u t H locs ht hvm hr0 hB hzq hkq hS => ?_)
            obtain ⟨My2z12, hP1, hD1⟩ := hB
            rw [ht] at hP1
            obtain ⟨hP, hD⟩ := va_join (wr := (wS54 cI cJ cZ cB p0 m0)) (w1 := (wS60 cI cJ cZ cB m0 m1 m2 m3 m4 m5 m6 Mx0_4 Mx0_5 Mx0_6 Mx0_7 Mx0_8 Mx0_9 Mx0_10 Mx0_11 Mx0_12 Mx0_13 My1 My2z12 Mx3_0 Mx4_0 My5 My6)) hP hD [1, 2, 3, 4, 5, 6, 7] [0] rfl rfl (by decide) (by decide) hkq hFc hP1 hD1
            have hP := hP.sub (ws' := ((wS54 cI cJ cZ cB p0 m0) ++ (wS60 cI cJ cZ cB m0 m1 m2 m3 m4 m5 m6 Mx0_4 Mx0_5 Mx0_6 Mx0_7 Mx0_8 Mx0_9 Mx0_10 Mx0_11 Mx0_12 Mx0_13 My1 My2z12 Mx3_0 Mx4_0 My5 My6))) [0, 1, 2, 3, 4, 5, 6, 7] rfl
            have hD := hD.sub (ws' := ((wS54 cI cJ cZ cB p0 m0) ++ (wS60 cI cJ cZ cB m0 m1 m2 m3 m4 m5 m6 Mx0_4 Mx0_5 Mx0_6 Mx0_7 Mx0_8 Mx0_9 Mx0_10 Mx0_11 Mx0_12 Mx0_13 My1 My2z12 Mx3_0 Mx4_0 My5 My6))) [0, 1, 2, 3, 4, 5, 6, 7] (by decide) rfl
            have hP : va_P D classes ((wS54 cI cJ cZ cB p0 m0) ++ (wS60 cI cJ cZ cB m0 m1 m2 m3 m4 m5 m6 Mx0_4 Mx0_5 Mx0_6 Mx0_7 Mx0_8 Mx0_9 Mx0_10 Mx0_11 Mx0_12 Mx0_13 My1 My2z12 Mx3_0 Mx4_0 My5 My6)) H := hP
            have hD : va_D A ((wS54 cI cJ cZ cB p0 m0) ++ (wS60 cI cJ cZ cB m0 m1 m2 m3 m4 m5 m6 Mx0_4 Mx0_5 Mx0_6 Mx0_7 Mx0_8 Mx0_9 Mx0_10 Mx0_11 Mx0_12 Mx0_13 My1 My2z12 Mx3_0 Mx4_0 My5 My6)) := hD
            clear hPc hDc hFc
            refine lv_iconst (v := 1) hx hb d_S_set_58 (by decide) ?_
            exact W.zret (v := (1 : Int32)) hx hb hr rfl (fun t ht hW => ⟨⟨(1 : Int32), (0 : Int32), rfl, ⟨rfl, by unfold f_cset; simp only [← hz1, ← hz3, ← hz5, if_neg c2, if_neg c4, if_pos c6, if_pos c7, if_pos c10]⟩, ⟨_, isC_3, (by show va_P D classes _ t.heap; rw [ht]; exact hP), hD⟩⟩, hS.F ht⟩) hS.2.2 d_S_set_59
          · refine lv_iconst (v := 0) hx hb d_S_set_43 (by decide) ?_
            exact W.zret (v := (0 : Int32)) hx hb hr rfl (fun t ht hW => ⟨⟨(0 : Int32), (0 : Int32), rfl, ⟨rfl, by unfold f_cset; simp only [← hz1, ← hz3, ← hz5, if_neg c2, if_neg c4, if_pos c6, if_pos c7, if_neg c10]⟩, ⟨_, isC_3, (by show va_P D classes _ t.heap; rw [ht]; exact hP), hD⟩⟩, hS.F ht⟩) hS.2.2 d_S_set_44
      · refine lv_iload_n hx hb d_S_set_24 rfl (lv_at hl 3 rfl) ?_
        refine lv_sipush (v := 4095) hx hb d_S_set_25 (by decide) ?_
        refine lv_icmp_le (tgt := 33) hx hb d_S_set_28 (by decide) (fun c13 => ?_) (fun c13 => ?_)
        · refine lv_iload_n hx hb d_S_set_33 rfl (lv_at hl 1 rfl) ?_
          refine lv_bipush (v := 8) hx hb d_S_set_34 (by decide) ?_
          refine lv_icmp_ne (tgt := 45) hx hb d_S_set_36 (by decide) (fun c14 => ?_) (fun c14 => ?_)
          · refine lv_aload_n hx hb d_S_set_45 rfl (lv_at hl 0 rfl) ?_
            refine va_get (D := D) (ci := 0) (v := .ref m0) (C := "SignMachine") (T := F_S) (N := 2) hx hb hk fi_S hown hK.1 hP 0 rfl rfl 0 (by decide) (hk _ k_210) (fun _ h9 => h9) rfl d_S_set_46 ?_
            refine lv_iload_n hx hb d_S_set_49 rfl (lv_at hl 1 rfl) ?_
            refine lv_iload_n hx hb d_S_set_50 rfl (lv_at hl 2 rfl) ?_
            refine lv_iload_n hx hb d_S_set_51 rfl (lv_at hl 3 rfl) ?_
            refine cs_i (W.runS (As := [.int a2, .int a3]) (rest := [.int a1, .ref m0]) ⟨hx, hb, hml, hown, hk⟩ (c_W_make l a2 a3) (s_W_make hk k_228 ⟨Nat.le_of_ble_eq_true rfl, Nat.le_of_ble_eq_true rfl⟩) ⟨fun a U g mk q => q, fun U hU hW => ⟨rfl, trivial⟩⟩ rfl rfl hl.1 rfl (lv_room (Nat.le_of_ble_eq_true rfl)) d_S_set_52 ⟨Nat.le_of_ble_eq_true rfl, Nat.le_of_ble_eq_true rfl⟩) ?_
            refine lv_topi (fun v15 hv15 => ?_)
            have hPc := hP.sub (ws' := (wS60 cI cJ cZ cB m0 m1 m2 m3 m4 m5 m6 Mx0_4 Mx0_5 Mx0_6 Mx0_7 Mx0_8 Mx0_9 Mx0_10 Mx0_11 Mx0_12 Mx0_13 My1 My2 Mx3_0 Mx4_0 My5 My6)) [1, 2, 3, 4, 5, 6, 7] rfl
            have hDc := hD.sub (ws' := (wS60 cI cJ cZ cB m0 m1 m2 m3 m4 m5 m6 Mx0_4 Mx0_5 Mx0_6 Mx0_7 Mx0_8 Mx0_9 Mx0_10 Mx0_11 Mx0_12 Mx0_13 My1 My2 Mx3_0 Mx4_0 My5 My6)) [1, 2, 3, 4, 5, 6, 7] (by decide) rfl
            have hFc := va_free (wc := (wS60 cI cJ cZ cB m0 m1 m2 m3 m4 m5 m6 Mx0_4 Mx0_5 Mx0_6 Mx0_7 Mx0_8 Mx0_9 Mx0_10 Mx0_11 Mx0_12 Mx0_13 My1 My2 Mx3_0 Mx4_0 My5 My6)) hD hS hA [1, 2, 3, 4, 5, 6, 7] rfl
            refine va_callv (va_runV (C := "SignMachine$Machine") (As := [.int a1, .int v15]) (rest := []) ⟨hx, hb, hml, hown, hk⟩ (c_M_putRegister_s2 l K D cI cJ cZ cB m0 m1 m2 m3 m4 m5 m6 s.heap.size Mx0_4 Mx0_5 Mx0_6 Mx0_7 Mx0_8 Mx0_9 Mx0_10 Mx0_11 Mx0_12 Mx0_13 My1 My2 Mx3_0 Mx4_0 My5 My6 a1 v15 ) (v_M_putRegister_s2 hk k_494 ⟨Nat.le_of_ble_eq_true rfl, Nat.le_of_ble_eq_true rfl⟩) (pMC_v hK hPc hDc hC hS hA (ci := 1) (q0 := 0) rfl rfl rfl) rfl rfl hl.1 rfl (lv_room (Nat.le_of_ble_eq_true rfl)) d_S_set_55 ⟨by decide, by decide⟩) hS (fun q _ h => hFc q h) hFc (fun u t H locs ht hvm hr0 hB hzq hkq hS => ?_)
            obtain ⟨My2z16, hP1, hD1⟩ := hB
            rw [ht] at hP1
            obtain ⟨hP, hD⟩ := va_join (wr := (wS54 cI cJ cZ cB p0 m0)) (w1 := (wS60 cI cJ cZ cB m0 m1 m2 m3 m4 m5 m6 Mx0_4 Mx0_5 Mx0_6 Mx0_7 Mx0_8 Mx0_9 Mx0_10 Mx0_11 Mx0_12 Mx0_13 My1 My2z16 Mx3_0 Mx4_0 My5 My6)) hP hD [1, 2, 3, 4, 5, 6, 7] [0] rfl rfl (by decide) (by decide) hkq hFc hP1 hD1
            have hP := hP.sub (ws' := ((wS54 cI cJ cZ cB p0 m0) ++ (wS60 cI cJ cZ cB m0 m1 m2 m3 m4 m5 m6 Mx0_4 Mx0_5 Mx0_6 Mx0_7 Mx0_8 Mx0_9 Mx0_10 Mx0_11 Mx0_12 Mx0_13 My1 My2z16 Mx3_0 Mx4_0 My5 My6))) [0, 1, 2, 3, 4, 5, 6, 7] rfl
            have hD := hD.sub (ws' := ((wS54 cI cJ cZ cB p0 m0) ++ (wS60 cI cJ cZ cB m0 m1 m2 m3 m4 m5 m6 Mx0_4 Mx0_5 Mx0_6 Mx0_7 Mx0_8 Mx0_9 Mx0_10 Mx0_11 Mx0_12 Mx0_13 My1 My2z16 Mx3_0 Mx4_0 My5 My6))) [0, 1, 2, 3, 4, 5, 6, 7] (by decide) rfl
            have hP : va_P D classes ((wS54 cI cJ cZ cB p0 m0) ++ (wS60 cI cJ cZ cB m0 m1 m2 m3 m4 m5 m6 Mx0_4 Mx0_5 Mx0_6 Mx0_7 Mx0_8 Mx0_9 Mx0_10 Mx0_11 Mx0_12 Mx0_13 My1 My2z16 Mx3_0 Mx4_0 My5 My6)) H := hP
            have hD : va_D A ((wS54 cI cJ cZ cB p0 m0) ++ (wS60 cI cJ cZ cB m0 m1 m2 m3 m4 m5 m6 Mx0_4 Mx0_5 Mx0_6 Mx0_7 Mx0_8 Mx0_9 Mx0_10 Mx0_11 Mx0_12 Mx0_13 My1 My2z16 Mx3_0 Mx4_0 My5 My6)) := hD
            clear hPc hDc hFc
            refine lv_iconst (v := 1) hx hb d_S_set_58 (by decide) ?_
            exact W.zret (v := (1 : Int32)) hx hb hr rfl (fun t ht hW => ⟨⟨(1 : Int32), (0 : Int32), rfl, ⟨rfl, by unfold f_cset; simp only [← hz1, ← hz3, ← hz5, if_neg c2, if_neg c4, if_neg c6, if_pos c13, if_neg c14]⟩, ⟨_, isC_3, (by show va_P D classes _ t.heap; rw [ht]; exact hP), hD⟩⟩, hS.F ht⟩) hS.2.2 d_S_set_59
          · refine lv_iload_n hx hb d_S_set_39 rfl (lv_at hl 2 rfl) ?_
            refine lv_if_eq (tgt := 45) hx hb d_S_set_40 (by decide) (fun c17 => ?_) (fun c17 => ?_)
            · refine lv_aload_n hx hb d_S_set_45 rfl (lv_at hl 0 rfl) ?_
              refine va_get (D := D) (ci := 0) (v := .ref m0) (C := "SignMachine") (T := F_S) (N := 2) hx hb hk fi_S hown hK.1 hP 0 rfl rfl 0 (by decide) (hk _ k_210) (fun _ h9 => h9) rfl d_S_set_46 ?_
              refine lv_iload_n hx hb d_S_set_49 rfl (lv_at hl 1 rfl) ?_
              refine lv_iload_n hx hb d_S_set_50 rfl (lv_at hl 2 rfl) ?_
              refine lv_iload_n hx hb d_S_set_51 rfl (lv_at hl 3 rfl) ?_
              refine cs_i (W.runS (As := [.int a2, .int a3]) (rest := [.int a1, .ref m0]) ⟨hx, hb, hml, hown, hk⟩ (c_W_make l a2 a3) (s_W_make hk k_228 ⟨Nat.le_of_ble_eq_true rfl, Nat.le_of_ble_eq_true rfl⟩) ⟨fun a U g mk q => q, fun U hU hW => ⟨rfl, trivial⟩⟩ rfl rfl hl.1 rfl (lv_room (Nat.le_of_ble_eq_true rfl)) d_S_set_52 ⟨Nat.le_of_ble_eq_true rfl, Nat.le_of_ble_eq_true rfl⟩) ?_
              refine lv_topi (fun v18 hv18 => ?_)
              have hPc := hP.sub (ws' := (wS60 cI cJ cZ cB m0 m1 m2 m3 m4 m5 m6 Mx0_4 Mx0_5 Mx0_6 Mx0_7 Mx0_8 Mx0_9 Mx0_10 Mx0_11 Mx0_12 Mx0_13 My1 My2 Mx3_0 Mx4_0 My5 My6)) [1, 2, 3, 4, 5, 6, 7] rfl
              have hDc := hD.sub (ws' := (wS60 cI cJ cZ cB m0 m1 m2 m3 m4 m5 m6 Mx0_4 Mx0_5 Mx0_6 Mx0_7 Mx0_8 Mx0_9 Mx0_10 Mx0_11 Mx0_12 Mx0_13 My1 My2 Mx3_0 Mx4_0 My5 My6)) [1, 2, 3, 4, 5, 6, 7] (by decide) rfl
              have hFc := va_free (wc := (wS60 cI cJ cZ cB m0 m1 m2 m3 m4 m5 m6 Mx0_4 Mx0_5 Mx0_6 Mx0_7 Mx0_8 Mx0_9 Mx0_10 Mx0_11 Mx0_12 Mx0_13 My1 My2 Mx3_0 Mx4_0 My5 My6)) hD hS hA [1, 2, 3, 4, 5, 6, 7] rfl
              refine va_callv (va_runV (C := "SignMachine$Machine") (As := [.int a1, .int v18]) (rest := []) ⟨hx, hb, hml, hown, hk⟩ (c_M_putRegister_s2 l K D cI cJ cZ cB m0 m1 m2 m3 m4 m5 m6 s.heap.size Mx0_4 Mx0_5 Mx0_6 Mx0_7 Mx0_8 Mx0_9 Mx0_10 Mx0_11 Mx0_12 Mx0_13 My1 My2 Mx3_0 Mx4_0 My5 My6 a1 v18 ) (v_M_putRegister_s2 hk k_494 ⟨Nat.le_of_ble_eq_true rfl, Nat.le_of_ble_eq_true rfl⟩) (pMC_v hK hPc hDc hC hS hA (ci := 1) (q0 := 0) rfl rfl rfl) rfl rfl hl.1 rfl (lv_room (Nat.le_of_ble_eq_true rfl)) d_S_set_55 ⟨by decide, by decide⟩) hS (fun q _ h => hFc q h) hFc (fun u t H locs ht hvm hr0 hB hzq hkq hS => ?_)
              obtain ⟨My2z19, hP1, hD1⟩ := hB
              rw [ht] at hP1
              obtain ⟨hP, hD⟩ := va_join (wr := (wS54 cI cJ cZ cB p0 m0)) (w1 := (wS60 cI cJ cZ cB m0 m1 m2 m3 m4 m5 m6 Mx0_4 Mx0_5 Mx0_6 Mx0_7 Mx0_8 Mx0_9 Mx0_10 Mx0_11 Mx0_12 Mx0_13 My1 My2z19 Mx3_0 Mx4_0 My5 My6)) hP hD [1, 2, 3, 4, 5, 6, 7] [0] rfl rfl (by decide) (by decide) hkq hFc hP1 hD1
              have hP := hP.sub (ws' := ((wS54 cI cJ cZ cB p0 m0) ++ (wS60 cI cJ cZ cB m0 m1 m2 m3 m4 m5 m6 Mx0_4 Mx0_5 Mx0_6 Mx0_7 Mx0_8 Mx0_9 Mx0_10 Mx0_11 Mx0_12 Mx0_13 My1 My2z19 Mx3_0 Mx4_0 My5 My6))) [0, 1, 2, 3, 4, 5, 6, 7] rfl
              have hD := hD.sub (ws' := ((wS54 cI cJ cZ cB p0 m0) ++ (wS60 cI cJ cZ cB m0 m1 m2 m3 m4 m5 m6 Mx0_4 Mx0_5 Mx0_6 Mx0_7 Mx0_8 Mx0_9 Mx0_10 Mx0_11 Mx0_12 Mx0_13 My1 My2z19 Mx3_0 Mx4_0 My5 My6))) [0, 1, 2, 3, 4, 5, 6, 7] (by decide) rfl
              have hP : va_P D classes ((wS54 cI cJ cZ cB p0 m0) ++ (wS60 cI cJ cZ cB m0 m1 m2 m3 m4 m5 m6 Mx0_4 Mx0_5 Mx0_6 Mx0_7 Mx0_8 Mx0_9 Mx0_10 Mx0_11 Mx0_12 Mx0_13 My1 My2z19 Mx3_0 Mx4_0 My5 My6)) H := hP
              have hD : va_D A ((wS54 cI cJ cZ cB p0 m0) ++ (wS60 cI cJ cZ cB m0 m1 m2 m3 m4 m5 m6 Mx0_4 Mx0_5 Mx0_6 Mx0_7 Mx0_8 Mx0_9 Mx0_10 Mx0_11 Mx0_12 Mx0_13 My1 My2z19 Mx3_0 Mx4_0 My5 My6)) := hD
              clear hPc hDc hFc
              refine lv_iconst (v := 1) hx hb d_S_set_58 (by decide) ?_
              exact W.zret (v := (1 : Int32)) hx hb hr rfl (fun t ht hW => ⟨⟨(1 : Int32), (0 : Int32), rfl, ⟨rfl, by unfold f_cset; simp only [← hz1, ← hz3, ← hz5, if_neg c2, if_neg c4, if_neg c6, if_pos c13, if_pos c14, if_pos c17]⟩, ⟨_, isC_3, (by show va_P D classes _ t.heap; rw [ht]; exact hP), hD⟩⟩, hS.F ht⟩) hS.2.2 d_S_set_59
            · refine lv_iconst (v := 0) hx hb d_S_set_43 (by decide) ?_
              exact W.zret (v := (0 : Int32)) hx hb hr rfl (fun t ht hW => ⟨⟨(0 : Int32), (0 : Int32), rfl, ⟨rfl, by unfold f_cset; simp only [← hz1, ← hz3, ← hz5, if_neg c2, if_neg c4, if_neg c6, if_pos c13, if_pos c14, if_neg c17]⟩, ⟨_, isC_3, (by show va_P D classes _ t.heap; rw [ht]; exact hP), hD⟩⟩, hS.F ht⟩) hS.2.2 d_S_set_44
        · refine lv_iconst (v := 0) hx hb d_S_set_31 (by decide) ?_
          exact W.zret (v := (0 : Int32)) hx hb hr rfl (fun t ht hW => ⟨⟨(0 : Int32), (0 : Int32), rfl, ⟨rfl, by unfold f_cset; simp only [← hz1, ← hz3, ← hz5, if_neg c2, if_neg c4, if_neg c6, if_neg c13]⟩, ⟨_, isC_3, (by show va_P D classes _ t.heap; rw [ht]; exact hP), hD⟩⟩, hS.F ht⟩) hS.2.2 d_S_set_32
    · refine lv_iconst (v := 0) hx hb d_S_set_15 (by decide) ?_
      exact W.zret (v := (0 : Int32)) hx hb hr rfl (fun t ht hW => ⟨⟨(0 : Int32), (0 : Int32), rfl, ⟨rfl, by unfold f_cset; simp only [← hz1, ← hz3, if_neg c2, if_pos c4]⟩, ⟨_, isC_3, (by show va_P D classes _ t.heap; rw [ht]; exact hP), hD⟩⟩, hS.F ht⟩) hS.2.2 d_S_set_16
theorem v_S_set_b14 {R : Room} {s : State} {args : Array Value} {own : String} {index : Nat} (hk : ∀ w ∈ tb, w.before args s = true) (hl : Cond.methodLink own index y_S_set ∈ tb) (hR : 2 + 1 ≤ R.frames ∧ 8 + (4 + 11) + 40 ≤ R.locals) : CallW R s args own "SignMachine" index y_S_set b_S_set 4 (some .boolean) (.code y_S_set b_S_set 4 (some .boolean) :: tb) ({ frames := 2, cells := 0, slots := 0, locals := 40 }) 0 0 3 := mk_v 3 hk k_490 hl k_488 k_489 k_116 rfl rfl h_S_set hR
set_option maxHeartbeats 4000000 in
set_option maxRecDepth 100000 in
theorem c_S_state_b14 (l : Launch) (K : CK) (D : va_G) (cI cJ cZ cB : ClassId) (p0 m0 m1 m2 m3 m4 m5 m6 : Nat) (sz : Nat) (Mx0_4 : Bool) (Mx0_5 : Int32) (Mx0_6 : Int32) (Mx0_7 : Int32) (Mx0_8 : Int32) (Mx0_9 : Int32) (Mx0_10 : Int32) (Mx0_11 : Int32) (Mx0_12 : Int32) (Mx0_13 : Int32) (My1 : Nat → Int32) (My2 : Nat → Int32) (Mx3_0 : Int32) (Mx4_0 : Int32) (My5 : Nat → Int32) (My6 : Nat → Int32)  (a1 : Int32) : Met l y_S_state (.code y_S_state b_S_state 2 (some .int) :: tb) ({ frames := 1, cells := 0, slots := 0, locals := 21 }) (pMC K D cI cJ cZ cB ((wS54 cI cJ cZ cB p0 m0) ++ (wS60 cI cJ cZ cB m0 m1 m2 m3 m4 m5 m6 Mx0_4 Mx0_5 Mx0_6 Mx0_7 Mx0_8 Mx0_9 Mx0_10 Mx0_11 Mx0_12 Mx0_13 My1 My2 Mx3_0 Mx4_0 My5 My6)) sz [.ref p0, .int a1]) (va_Qi (fun r (uL : Int32) => uL = (0 : Int32)) (fun uL t => ∃ W9 : va_W, isC K cI cJ cZ cB p0 uL W9 ∧ va_P D classes W9 t.heap ∧ va_D (va_A ((wS54 cI cJ cZ cB p0 m0) ++ (wS60 cI cJ cZ cB m0 m1 m2 m3 m4 m5 m6 Mx0_4 Mx0_5 Mx0_6 Mx0_7 Mx0_8 Mx0_9 Mx0_10 Mx0_11 Mx0_12 Mx0_13 My1 My2 Mx3_0 Mx4_0 My5 My6)) sz) W9) (va_A ((wS54 cI cJ cZ cB p0 m0) ++ (wS60 cI cJ cZ cB m0 m1 m2 m3 m4 m5 m6 Mx0_4 Mx0_5 Mx0_6 Mx0_7 Mx0_8 Mx0_9 Mx0_10 Mx0_11 Mx0_12 Mx0_13 My1 My2 Mx3_0 Mx4_0 My5 My6)) sz)) 0 0 (va_A ((wS54 cI cJ cZ cB p0 m0) ++ (wS60 cI cJ cZ cB m0 m1 m2 m3 m4 m5 m6 Mx0_4 Mx0_5 Mx0_6 Mx0_7 Mx0_8 Mx0_9 Mx0_10 Mx0_11 Mx0_12 Mx0_13 My1 My2 Mx3_0 Mx4_0 My5 My6)) sz) := by
  refine Met.ofW (cc := b_S_state) (maxL := 2) (ret := (some .int)) (by decide) rfl ?_
  intro p e s m args below meth c s₁ B hml hv
  obtain ⟨rfl, hsz, hK, hP, hD0, hC⟩ := hv
  subst hsz
  have hD := hD0.self (sz := s.heap.size)
  generalize hAe : va_A ((wS54 cI cJ cZ cB p0 m0) ++ (wS60 cI cJ cZ cB m0 m1 m2 m3 m4 m5 m6 Mx0_4 Mx0_5 Mx0_6 Mx0_7 Mx0_8 Mx0_9 Mx0_10 Mx0_11 Mx0_12 Mx0_13 My1 My2 Mx3_0 Mx4_0 My5 My6)) s.heap.size = A at hD hC ⊢
  have hA : ∀ q : Nat, s.heap.size ≤ q → A q := fun q h => by rw [← hAe]; exact Or.inr h
  clear hAe hD0
  have hS : va_S A s.heap s.heap [] := va_S.rf
  have hx := B.exec
  have hb := B.bytes
  have hr := B.returns
  have hts := atoms_spec (ws := .code y_S_state b_S_state 2 (some .int) :: tb) B.pre
  have hk : ∀ w ∈ tb, w.before [.ref p0, .int a1].toArray s = true := fun w h => hts w (List.mem_cons_of_mem _ h)
  have hown : s.vm.findClass "SignMachine" = some m.cls := findClass_of_methodNamed B.named
  have hlocks := B.notSynchronized
  have hl := lv_entry ([.ref p0, .int a1]) (n := 2) (Nat.le_of_ble_eq_true rfl)
  rw [lg_entry_eq]
  generalize (lg_sl ([.ref p0, .int a1]) ++ List.replicate (2 - (lg_sl ([.ref p0, .int a1])).length) Slot.unset).toArray = ls at hl ⊢
  have hl : lv_has ls 2 [(0, .ref p0), (1, .int a1)] := hl
  refine lv_iload_n hx hb d_S_state_0 rfl (lv_at hl 1 rfl) ?_
  by_cases c1 : a1 = (0 : Int32)
  · refine lv_tableIn (off := 43) (tgt := 44) hx hb d_S_state_1 (by rw [c1]; decide) (by rw [c1]; decide) (by rw [c1]; rfl) (by decide) ?_
    refine lv_aload_n hx hb d_S_state_44 rfl (lv_at hl 0 rfl) ?_
    refine va_get (D := D) (ci := 0) (v := .ref m0) (C := "SignMachine") (T := F_S) (N := 2) hx hb hk fi_S hown hK.1 hP 0 rfl rfl 0 (by decide) (hk _ k_210) (fun _ h9 => h9) rfl d_S_state_45 ?_
    refine va_getN (D := D) (ci := 1) (v := .int Mx0_7) (C := "SignMachine$Machine") (T := F_M) (N := 14) hx hb hk fi_M hown hK.1 hP 1 rfl rfl 7 (by decide) (va_Nw.use rfl (hK.2 _ n_173)) (fun _ h9 => h9) rfl d_S_state_48 ?_
    exact W.iret (v := Mx0_7) hx hb hr (fun t ht hW => ⟨⟨Mx0_7, (0 : Int32), rfl, rfl, ⟨_, isC_3, (by show va_P D classes _ t.heap; rw [ht]; exact hP), hD⟩⟩, hS.F ht⟩) hS.2.2 d_S_state_51
  · by_cases c2 : a1 = (1 : Int32)
    · refine lv_tableIn (off := 51) (tgt := 52) hx hb d_S_state_1 (by rw [c2]; decide) (by rw [c2]; decide) (by rw [c2]; rfl) (by decide) ?_
      refine lv_aload_n hx hb d_S_state_52 rfl (lv_at hl 0 rfl) ?_
      refine va_get (D := D) (ci := 0) (v := .ref m0) (C := "SignMachine") (T := F_S) (N := 2) hx hb hk fi_S hown hK.1 hP 0 rfl rfl 0 (by decide) (hk _ k_210) (fun _ h9 => h9) rfl d_S_state_53 ?_
      refine va_getN (D := D) (ci := 1) (v := .int (bI Mx0_4)) (C := "SignMachine$Machine") (T := F_M) (N := 14) hx hb hk fi_M hown hK.1 hP 1 rfl rfl 4 (by decide) (va_Nw.use rfl (hK.2 _ n_167)) (fun _ h9 => h9) rfl d_S_state_56 ?_
      refine lv_if_eq (tgt := 66) hx hb d_S_state_59 (by decide) (fun c3 => ?_) (fun c3 => ?_)
      · refine lv_iconst (v := 0) hx hb d_S_state_66 (by decide) ?_
        exact W.iret (v := (0 : Int32)) hx hb hr (fun t ht hW => ⟨⟨(0 : Int32), (0 : Int32), rfl, rfl, ⟨_, isC_3, (by show va_P D classes _ t.heap; rw [ht]; exact hP), hD⟩⟩, hS.F ht⟩) hS.2.2 d_S_state_67
      · refine lv_iconst (v := 1) hx hb d_S_state_62 (by decide) ?_
        refine lv_goto (tgt := 67) hx hb d_S_state_63 (by decide) ?_
        exact W.iret (v := (1 : Int32)) hx hb hr (fun t ht hW => ⟨⟨(1 : Int32), (0 : Int32), rfl, rfl, ⟨_, isC_3, (by show va_P D classes _ t.heap; rw [ht]; exact hP), hD⟩⟩, hS.F ht⟩) hS.2.2 d_S_state_67
    · by_cases c4 : a1 = (2 : Int32)
      · refine lv_tableIn (off := 67) (tgt := 68) hx hb d_S_state_1 (by rw [c4]; decide) (by rw [c4]; decide) (by rw [c4]; rfl) (by decide) ?_
        refine lv_aload_n hx hb d_S_state_68 rfl (lv_at hl 0 rfl) ?_
        refine va_get (D := D) (ci := 0) (v := .ref m0) (C := "SignMachine") (T := F_S) (N := 2) hx hb hk fi_S hown hK.1 hP 0 rfl rfl 0 (by decide) (hk _ k_210) (fun _ h9 => h9) rfl d_S_state_69 ?_
        refine va_getN (D := D) (ci := 1) (v := .int Mx0_5) (C := "SignMachine$Machine") (T := F_M) (N := 14) hx hb hk fi_M hown hK.1 hP 1 rfl rfl 5 (by decide) (va_Nw.use rfl (hK.2 _ n_169)) (fun _ h9 => h9) rfl d_S_state_72 ?_
        exact W.iret (v := Mx0_5) hx hb hr (fun t ht hW => ⟨⟨Mx0_5, (0 : Int32), rfl, rfl, ⟨_, isC_3, (by show va_P D classes _ t.heap; rw [ht]; exact hP), hD⟩⟩, hS.F ht⟩) hS.2.2 d_S_state_75
      · by_cases c5 : a1 = (3 : Int32)
        · refine lv_tableIn (off := 75) (tgt := 76) hx hb d_S_state_1 (by rw [c5]; decide) (by rw [c5]; decide) (by rw [c5]; rfl) (by decide) ?_
          refine lv_aload_n hx hb d_S_state_76 rfl (lv_at hl 0 rfl) ?_
          refine va_get (D := D) (ci := 0) (v := .ref m0) (C := "SignMachine") (T := F_S) (N := 2) hx hb hk fi_S hown hK.1 hP 0 rfl rfl 0 (by decide) (hk _ k_210) (fun _ h9 => h9) rfl d_S_state_77 ?_
          refine va_getN (D := D) (ci := 1) (v := .int Mx0_6) (C := "SignMachine$Machine") (T := F_M) (N := 14) hx hb hk fi_M hown hK.1 hP 1 rfl rfl 6 (by decide) (va_Nw.use rfl (hK.2 _ n_171)) (fun _ h9 => h9) rfl d_S_state_80 ?_
          exact W.iret (v := Mx0_6) hx hb hr (fun t ht hW => ⟨⟨Mx0_6, (0 : Int32), rfl, rfl, ⟨_, isC_3, (by show va_P D classes _ t.heap; rw [ht]; exact hP), hD⟩⟩, hS.F ht⟩) hS.2.2 d_S_state_83
        · by_cases c6 : a1 = (4 : Int32)
          · refine lv_tableIn (off := 83) (tgt := 84) hx hb d_S_state_1 (by rw [c6]; decide) (by rw [c6]; decide) (by rw [c6]; rfl) (by decide) ?_
            refine lv_aload_n hx hb d_S_state_84 rfl (lv_at hl 0 rfl) ?_
            refine va_get (D := D) (ci := 0) (v := .ref m0) (C := "SignMachine") (T := F_S) (N := 2) hx hb hk fi_S hown hK.1 hP 0 rfl rfl 0 (by decide) (hk _ k_210) (fun _ h9 => h9) rfl d_S_state_85 ?_
            refine lv_iconst (v := 0) hx hb d_S_state_88 (by decide) ?_
            have hPc := hP.sub (ws' := (wS60 cI cJ cZ cB m0 m1 m2 m3 m4 m5 m6 Mx0_4 Mx0_5 Mx0_6 Mx0_7 Mx0_8 Mx0_9 Mx0_10 Mx0_11 Mx0_12 Mx0_13 My1 My2 Mx3_0 Mx4_0 My5 My6)) [1, 2, 3, 4, 5, 6, 7] rfl
            have hDc := hD.sub (ws' := (wS60 cI cJ cZ cB m0 m1 m2 m3 m4 m5 m6 Mx0_4 Mx0_5 Mx0_6 Mx0_7 Mx0_8 Mx0_9 Mx0_10 Mx0_11 Mx0_12 Mx0_13 My1 My2 Mx3_0 Mx4_0 My5 My6)) [1, 2, 3, 4, 5, 6, 7] (by decide) rfl
            have hFc := va_free (wc := (wS60 cI cJ cZ cB m0 m1 m2 m3 m4 m5 m6 Mx0_4 Mx0_5 Mx0_6 Mx0_7 Mx0_8 Mx0_9 Mx0_10 Mx0_11 Mx0_12 Mx0_13 My1 My2 Mx3_0 Mx4_0 My5 My6)) hD hS hA [1, 2, 3, 4, 5, 6, 7] rfl
            refine va_callq (va_runV (C := "SignMachine$Machine") (As := [.int (0 : Int32)]) (rest := []) ⟨hx, hb, hml, hown, hk⟩ (c_M_unit_s7 l K D cI cJ cZ cB m0 m1 m2 m3 m4 m5 m6 s.heap.size Mx0_4 Mx0_5 Mx0_6 Mx0_7 Mx0_8 Mx0_9 Mx0_10 Mx0_11 Mx0_12 Mx0_13 My1 My2 Mx3_0 Mx4_0 My5 My6 (0 : Int32) ) (v_M_unit_s7 hk k_499 ⟨Nat.le_of_ble_eq_true rfl, Nat.le_of_ble_eq_true rfl⟩) (pMC_v hK hPc hDc hC hS hA (ci := 1) (q0 := 0) rfl rfl rfl) rfl rfl hl.1 rfl (lv_room (Nat.le_of_ble_eq_true rfl)) d_S_state_89 ⟨by decide, by decide⟩) hS (fun q _ h => hFc q h) hFc (fun rz7 u t H locs ht hvm hr0 hB hzq hkq hS => ?_)
            obtain ⟨hP1, hD1⟩ := hB
            rw [ht] at hP1
            obtain ⟨hP, hD⟩ := va_join (wr := (wS54 cI cJ cZ cB p0 m0)) (w1 := (wS60 cI cJ cZ cB m0 m1 m2 m3 m4 m5 m6 Mx0_4 Mx0_5 Mx0_6 Mx0_7 Mx0_8 Mx0_9 Mx0_10 Mx0_11 Mx0_12 Mx0_13 My1 My2 Mx3_0 Mx4_0 My5 My6)) hP hD [1, 2, 3, 4, 5, 6, 7] [0] rfl rfl (by decide) (by decide) hkq hFc hP1 hD1
            have hP := hP.sub (ws' := ((wS54 cI cJ cZ cB p0 m0) ++ (wS60 cI cJ cZ cB m0 m1 m2 m3 m4 m5 m6 Mx0_4 Mx0_5 Mx0_6 Mx0_7 Mx0_8 Mx0_9 Mx0_10 Mx0_11 Mx0_12 Mx0_13 My1 My2 Mx3_0 Mx4_0 My5 My6))) [0, 1, 2, 3, 4, 5, 6, 7] rfl
            have hD := hD.sub (ws' := ((wS54 cI cJ cZ cB p0 m0) ++ (wS60 cI cJ cZ cB m0 m1 m2 m3 m4 m5 m6 Mx0_4 Mx0_5 Mx0_6 Mx0_7 Mx0_8 Mx0_9 Mx0_10 Mx0_11 Mx0_12 Mx0_13 My1 My2 Mx3_0 Mx4_0 My5 My6))) [0, 1, 2, 3, 4, 5, 6, 7] (by decide) rfl
            have hP : va_P D classes ((wS54 cI cJ cZ cB p0 m0) ++ (wS60 cI cJ cZ cB m0 m1 m2 m3 m4 m5 m6 Mx0_4 Mx0_5 Mx0_6 Mx0_7 Mx0_8 Mx0_9 Mx0_10 Mx0_11 Mx0_12 Mx0_13 My1 My2 Mx3_0 Mx4_0 My5 My6)) H := hP
            have hD : va_D A ((wS54 cI cJ cZ cB p0 m0) ++ (wS60 cI cJ cZ cB m0 m1 m2 m3 m4 m5 m6 Mx0_4 Mx0_5 Mx0_6 Mx0_7 Mx0_8 Mx0_9 Mx0_10 Mx0_11 Mx0_12 Mx0_13 My1 My2 Mx3_0 Mx4_0 My5 My6)) := hD
            clear hPc hDc hFc
            rcases hr0 with hr0 | hr0
            · subst hr0
              refine W.eq (g2 := F0 m 92 ls [.ref m3]) rfl ?_
              refine va_getN (D := D) (ci := 2) (v := .int Mx3_0) (C := "SignMachine$Tape") (T := F_T) (N := 2) hx hb hk fi_T hown hK.1 hP 4 rfl rfl 0 (by decide) (va_Nw.use rfl (hK.2 _ n_154)) (fun _ h9 => h9) rfl d_S_state_92 ?_
              exact W.iret (v := Mx3_0) hx hb hr (fun t ht hW => ⟨⟨Mx3_0, (0 : Int32), rfl, rfl, ⟨_, isC_3, (by show va_P D classes _ t.heap; rw [ht]; exact hP), hD⟩⟩, hS.F ht⟩) hS.2.2 d_S_state_95
            · subst hr0
              refine W.eq (g2 := F0 m 92 ls [.ref m4]) rfl ?_
              refine va_getN (D := D) (ci := 2) (v := .int Mx4_0) (C := "SignMachine$Tape") (T := F_T) (N := 2) hx hb hk fi_T hown hK.1 hP 5 rfl rfl 0 (by decide) (va_Nw.use rfl (hK.2 _ n_154)) (fun _ h9 => h9) rfl d_S_state_92 ?_
              exact W.iret (v := Mx4_0) hx hb hr (fun t ht hW => ⟨⟨Mx4_0, (0 : Int32), rfl, rfl, ⟨_, isC_3, (by show va_P D classes _ t.heap; rw [ht]; exact hP), hD⟩⟩, hS.F ht⟩) hS.2.2 d_S_state_95
          · by_cases c8 : a1 = (5 : Int32)
            · refine lv_tableIn (off := 95) (tgt := 96) hx hb d_S_state_1 (by rw [c8]; decide) (by rw [c8]; decide) (by rw [c8]; rfl) (by decide) ?_
              refine lv_aload_n hx hb d_S_state_96 rfl (lv_at hl 0 rfl) ?_
              refine va_get (D := D) (ci := 0) (v := .ref m0) (C := "SignMachine") (T := F_S) (N := 2) hx hb hk fi_S hown hK.1 hP 0 rfl rfl 0 (by decide) (hk _ k_210) (fun _ h9 => h9) rfl d_S_state_97 ?_
              refine lv_iconst (v := 1) hx hb d_S_state_100 (by decide) ?_
              have hPc := hP.sub (ws' := (wS60 cI cJ cZ cB m0 m1 m2 m3 m4 m5 m6 Mx0_4 Mx0_5 Mx0_6 Mx0_7 Mx0_8 Mx0_9 Mx0_10 Mx0_11 Mx0_12 Mx0_13 My1 My2 Mx3_0 Mx4_0 My5 My6)) [1, 2, 3, 4, 5, 6, 7] rfl
              have hDc := hD.sub (ws' := (wS60 cI cJ cZ cB m0 m1 m2 m3 m4 m5 m6 Mx0_4 Mx0_5 Mx0_6 Mx0_7 Mx0_8 Mx0_9 Mx0_10 Mx0_11 Mx0_12 Mx0_13 My1 My2 Mx3_0 Mx4_0 My5 My6)) [1, 2, 3, 4, 5, 6, 7] (by decide) rfl
              have hFc := va_free (wc := (wS60 cI cJ cZ cB m0 m1 m2 m3 m4 m5 m6 Mx0_4 Mx0_5 Mx0_6 Mx0_7 Mx0_8 Mx0_9 Mx0_10 Mx0_11 Mx0_12 Mx0_13 My1 My2 Mx3_0 Mx4_0 My5 My6)) hD hS hA [1, 2, 3, 4, 5, 6, 7] rfl
              refine va_callq (va_runV (C := "SignMachine$Machine") (As := [.int (1 : Int32)]) (rest := []) ⟨hx, hb, hml, hown, hk⟩ (c_M_unit_s7 l K D cI cJ cZ cB m0 m1 m2 m3 m4 m5 m6 s.heap.size Mx0_4 Mx0_5 Mx0_6 Mx0_7 Mx0_8 Mx0_9 Mx0_10 Mx0_11 Mx0_12 Mx0_13 My1 My2 Mx3_0 Mx4_0 My5 My6 (1 : Int32) ) (v_M_unit_s7 hk k_499 ⟨Nat.le_of_ble_eq_true rfl, Nat.le_of_ble_eq_true rfl⟩) (pMC_v hK hPc hDc hC hS hA (ci := 1) (q0 := 0) rfl rfl rfl) rfl rfl hl.1 rfl (lv_room (Nat.le_of_ble_eq_true rfl)) d_S_state_101 ⟨by decide, by decide⟩) hS (fun q _ h => hFc q h) hFc (fun rz9 u t H locs ht hvm hr0 hB hzq hkq hS => ?_)
              obtain ⟨hP1, hD1⟩ := hB
              rw [ht] at hP1
              obtain ⟨hP, hD⟩ := va_join (wr := (wS54 cI cJ cZ cB p0 m0)) (w1 := (wS60 cI cJ cZ cB m0 m1 m2 m3 m4 m5 m6 Mx0_4 Mx0_5 Mx0_6 Mx0_7 Mx0_8 Mx0_9 Mx0_10 Mx0_11 Mx0_12 Mx0_13 My1 My2 Mx3_0 Mx4_0 My5 My6)) hP hD [1, 2, 3, 4, 5, 6, 7] [0] rfl rfl (by decide) (by decide) hkq hFc hP1 hD1
              have hP := hP.sub (ws' := ((wS54 cI cJ cZ cB p0 m0) ++ (wS60 cI cJ cZ cB m0 m1 m2 m3 m4 m5 m6 Mx0_4 Mx0_5 Mx0_6 Mx0_7 Mx0_8 Mx0_9 Mx0_10 Mx0_11 Mx0_12 Mx0_13 My1 My2 Mx3_0 Mx4_0 My5 My6))) [0, 1, 2, 3, 4, 5, 6, 7] rfl
              have hD := hD.sub (ws' := ((wS54 cI cJ cZ cB p0 m0) ++ (wS60 cI cJ cZ cB m0 m1 m2 m3 m4 m5 m6 Mx0_4 Mx0_5 Mx0_6 Mx0_7 Mx0_8 Mx0_9 Mx0_10 Mx0_11 Mx0_12 Mx0_13 My1 My2 Mx3_0 Mx4_0 My5 My6))) [0, 1, 2, 3, 4, 5, 6, 7] (by decide) rfl
              have hP : va_P D classes ((wS54 cI cJ cZ cB p0 m0) ++ (wS60 cI cJ cZ cB m0 m1 m2 m3 m4 m5 m6 Mx0_4 Mx0_5 Mx0_6 Mx0_7 Mx0_8 Mx0_9 Mx0_10 Mx0_11 Mx0_12 Mx0_13 My1 My2 Mx3_0 Mx4_0 My5 My6)) H := hP
              have hD : va_D A ((wS54 cI cJ cZ cB p0 m0) ++ (wS60 cI cJ cZ cB m0 m1 m2 m3 m4 m5 m6 Mx0_4 Mx0_5 Mx0_6 Mx0_7 Mx0_8 Mx0_9 Mx0_10 Mx0_11 Mx0_12 Mx0_13 My1 My2 Mx3_0 Mx4_0 My5 My6)) := hD
              clear hPc hDc hFc
              rcases hr0 with hr0 | hr0
              · subst hr0
                refine W.eq (g2 := F0 m 104 ls [.ref m3]) rfl ?_
                refine va_getN (D := D) (ci := 2) (v := .int Mx3_0) (C := "SignMachine$Tape") (T := F_T) (N := 2) hx hb hk fi_T hown hK.1 hP 4 rfl rfl 0 (by decide) (va_Nw.use rfl (hK.2 _ n_154)) (fun _ h9 => h9) rfl d_S_state_104 ?_
                exact W.iret (v := Mx3_0) hx hb hr (fun t ht hW => ⟨⟨Mx3_0, (0 : Int32), rfl, rfl, ⟨_, isC_3, (by show va_P D classes _ t.heap; rw [ht]; exact hP), hD⟩⟩, hS.F ht⟩) hS.2.2 d_S_state_107
              · subst hr0
                refine W.eq (g2 := F0 m 104 ls [.ref m4]) rfl ?_
                refine va_getN (D := D) (ci := 2) (v := .int Mx4_0) (C := "SignMachine$Tape") (T := F_T) (N := 2) hx hb hk fi_T hown hK.1 hP 5 rfl rfl 0 (by decide) (va_Nw.use rfl (hK.2 _ n_154)) (fun _ h9 => h9) rfl d_S_state_104 ?_
                exact W.iret (v := Mx4_0) hx hb hr (fun t ht hW => ⟨⟨Mx4_0, (0 : Int32), rfl, rfl, ⟨_, isC_3, (by show va_P D classes _ t.heap; rw [ht]; exact hP), hD⟩⟩, hS.F ht⟩) hS.2.2 d_S_state_107
            · by_cases c10 : a1 = (6 : Int32)
              · refine lv_tableIn (off := 107) (tgt := 108) hx hb d_S_state_1 (by rw [c10]; decide) (by rw [c10]; decide) (by rw [c10]; rfl) (by decide) ?_
                refine lv_aload_n hx hb d_S_state_108 rfl (lv_at hl 0 rfl) ?_
                refine va_get (D := D) (ci := 0) (v := .ref m0) (C := "SignMachine") (T := F_S) (N := 2) hx hb hk fi_S hown hK.1 hP 0 rfl rfl 0 (by decide) (hk _ k_210) (fun _ h9 => h9) rfl d_S_state_109 ?_
                refine va_getN (D := D) (ci := 1) (v := .int Mx0_8) (C := "SignMachine$Machine") (T := F_M) (N := 14) hx hb hk fi_M hown hK.1 hP 1 rfl rfl 8 (by decide) (va_Nw.use rfl (hK.2 _ n_175)) (fun _ h9 => h9) rfl d_S_state_112 ?_
                exact W.iret (v := Mx0_8) hx hb hr (fun t ht hW => ⟨⟨Mx0_8, (0 : Int32), rfl, rfl, ⟨_, isC_3, (by show va_P D classes _ t.heap; rw [ht]; exact hP), hD⟩⟩, hS.F ht⟩) hS.2.2 d_S_state_115
              · refine lv_tableOut (tgt := 116) hx hb d_S_state_1 (by have e0 := lv_neT c1 (a := 0) rfl; have e1 := lv_neT c2 (a := 1) rfl; have e2 := lv_neT c4 (a := 2) rfl; have e3 := lv_neT c5 (a := 3) rfl; have e4 := lv_neT c6 (a := 4) rfl; have e5 := lv_neT c8 (a := 5) rfl; have e6 := lv_neT c10 (a := 6) rfl; omega) (by decide) ?_
                refine lv_bipush (v := (-2)) hx hb d_S_state_116 (by decide) ?_
                exact W.iret (v := (-2 : Int32)) hx hb hr (fun t ht hW => ⟨⟨(-2 : Int32), (0 : Int32), rfl, rfl, ⟨_, isC_3, (by show va_P D classes _ t.heap; rw [ht]; exact hP), hD⟩⟩, hS.F ht⟩) hS.2.2 d_S_state_118
theorem v_S_state_b14 {R : Room} {s : State} {args : Array Value} {own : String} {index : Nat} (hk : ∀ w ∈ tb, w.before args s = true) (hl : Cond.methodLink own index y_S_state ∈ tb) (hR : 1 + 1 ≤ R.frames ∧ 8 + (2 + 11) + 21 ≤ R.locals) : CallW R s args own "SignMachine" index y_S_state b_S_state 2 (some .int) (.code y_S_state b_S_state 2 (some .int) :: tb) ({ frames := 1, cells := 0, slots := 0, locals := 21 }) 0 0 1 := mk_v 1 hk k_498 hl k_496 k_497 k_116 rfl rfl h_S_state hR
set_option maxHeartbeats 4000000 in
set_option maxRecDepth 100000 in
theorem c_S_go_b14 (l : Launch) (K : CK) (D : va_G) (cI cJ cZ cB : ClassId) (p0 m0 m1 m2 m3 m4 m5 m6 : Nat) (sz : Nat) (Mx0_4 : Bool) (Mx0_5 : Int32) (Mx0_6 : Int32) (Mx0_7 : Int32) (Mx0_8 : Int32) (Mx0_9 : Int32) (Mx0_10 : Int32) (Mx0_11 : Int32) (Mx0_12 : Int32) (Mx0_13 : Int32) (My1 : Nat → Int32) (My2 : Nat → Int32) (Mx3_0 : Int32) (Mx4_0 : Int32) (My5 : Nat → Int32) (My6 : Nat → Int32)  (a1 : Int32) : Met l y_S_go (.code y_S_go b_S_go 2 (some .boolean) :: tb) ({ frames := 1, cells := 0, slots := 0, locals := 20 }) (pMC K D cI cJ cZ cB ((wS54 cI cJ cZ cB p0 m0) ++ (wS60 cI cJ cZ cB m0 m1 m2 m3 m4 m5 m6 Mx0_4 Mx0_5 Mx0_6 Mx0_7 Mx0_8 Mx0_9 Mx0_10 Mx0_11 Mx0_12 Mx0_13 My1 My2 Mx3_0 Mx4_0 My5 My6)) sz [.ref p0, .int a1]) (va_Qi (fun r (uL : Int32) => uL = (0 : Int32) ∧ r = (f_cgo a1)) (fun uL t => ∃ W9 : va_W, isC K cI cJ cZ cB p0 uL W9 ∧ va_P D classes W9 t.heap ∧ va_D (va_A ((wS54 cI cJ cZ cB p0 m0) ++ (wS60 cI cJ cZ cB m0 m1 m2 m3 m4 m5 m6 Mx0_4 Mx0_5 Mx0_6 Mx0_7 Mx0_8 Mx0_9 Mx0_10 Mx0_11 Mx0_12 Mx0_13 My1 My2 Mx3_0 Mx4_0 My5 My6)) sz) W9) (va_A ((wS54 cI cJ cZ cB p0 m0) ++ (wS60 cI cJ cZ cB m0 m1 m2 m3 m4 m5 m6 Mx0_4 Mx0_5 Mx0_6 Mx0_7 Mx0_8 Mx0_9 Mx0_10 Mx0_11 Mx0_12 Mx0_13 My1 My2 Mx3_0 Mx4_0 My5 My6)) sz)) 0 0 (va_A ((wS54 cI cJ cZ cB p0 m0) ++ (wS60 cI cJ cZ cB m0 m1 m2 m3 m4 m5 m6 Mx0_4 Mx0_5 Mx0_6 Mx0_7 Mx0_8 Mx0_9 Mx0_10 Mx0_11 Mx0_12 Mx0_13 My1 My2 Mx3_0 Mx4_0 My5 My6)) sz) := by
  refine Met.ofW (cc := b_S_go) (maxL := 2) (ret := (some .boolean)) (by decide) rfl ?_
  intro p e s m args below meth c s₁ B hml hv
  obtain ⟨rfl, hsz, hK, hP, hD0, hC⟩ := hv
  subst hsz
  have hD := hD0.self (sz := s.heap.size)
  generalize hAe : va_A ((wS54 cI cJ cZ cB p0 m0) ++ (wS60 cI cJ cZ cB m0 m1 m2 m3 m4 m5 m6 Mx0_4 Mx0_5 Mx0_6 Mx0_7 Mx0_8 Mx0_9 Mx0_10 Mx0_11 Mx0_12 Mx0_13 My1 My2 Mx3_0 Mx4_0 My5 My6)) s.heap.size = A at hD hC ⊢
  have hA : ∀ q : Nat, s.heap.size ≤ q → A q := fun q h => by rw [← hAe]; exact Or.inr h
  clear hAe hD0
  have hS : va_S A s.heap s.heap [] := va_S.rf
  have hx := B.exec
  have hb := B.bytes
  have hr := B.returns
  have hts := atoms_spec (ws := .code y_S_go b_S_go 2 (some .boolean) :: tb) B.pre
  have hk : ∀ w ∈ tb, w.before [.ref p0, .int a1].toArray s = true := fun w h => hts w (List.mem_cons_of_mem _ h)
  have hown : s.vm.findClass "SignMachine" = some m.cls := findClass_of_methodNamed B.named
  have hlocks := B.notSynchronized
  have hl := lv_entry ([.ref p0, .int a1]) (n := 2) (Nat.le_of_ble_eq_true rfl)
  rw [lg_entry_eq]
  generalize (lg_sl ([.ref p0, .int a1]) ++ List.replicate (2 - (lg_sl ([.ref p0, .int a1])).length) Slot.unset).toArray = ls at hl ⊢
  have hl : lv_has ls 2 [(0, .ref p0), (1, .int a1)] := hl
  refine lv_iload_n hx hb d_S_go_0 rfl (lv_at hl 1 rfl) ?_
  refine cs_i (W.runS (As := [.int a1]) (rest := []) ⟨hx, hb, hml, hown, hk⟩ (c_M_isAddress l a1) (s_M_isAddress hk k_221 ⟨Nat.le_of_ble_eq_true rfl, Nat.le_of_ble_eq_true rfl⟩) ⟨fun a U g mk q => q, fun U hU hW => ⟨rfl, trivial⟩⟩ rfl rfl hl.1 rfl (lv_room (Nat.le_of_ble_eq_true rfl)) d_S_go_1 ⟨Nat.le_of_ble_eq_true rfl, Nat.le_of_ble_eq_true rfl⟩) ?_
  obtain ⟨z1, hz1⟩ : ∃ y : Bool, y = (f_M_isAddress a1) := ⟨_, rfl⟩
  rw [← hz1]
  refine lv_if_ne (tgt := 9) hx hb d_S_go_4 (by decide) (fun c2 => ?_) (fun c2 => ?_)
  · refine lv_aload_n hx hb d_S_go_9 rfl (lv_at hl 0 rfl) ?_
    refine va_get (D := D) (ci := 0) (v := .ref m0) (C := "SignMachine") (T := F_S) (N := 2) hx hb hk fi_S hown hK.1 hP 0 rfl rfl 0 (by decide) (hk _ k_210) (fun _ h9 => h9) rfl d_S_go_10 ?_
    refine lv_iload_n hx hb d_S_go_13 rfl (lv_at hl 1 rfl) ?_
    refine va_putN (D := D) (ci := 1) (v := .int a1) (ty := .int) (C := "SignMachine$Machine") (T := F_M) (N := 14) hx hb hk fi_M ft_M ft_M_ok fn_M hown hK.1 hP hD hS 1 rfl rfl 7 (by decide) (va_Nw.use rfl (hK.2 _ n_173)) (fun _ h9 => h9) rfl (by decide +kernel) rfl rfl (Nat.le_of_ble_eq_true rfl) d_S_go_14 (fun H locs hP hD hS => ?_)
    have hP : va_P D classes ((wS54 cI cJ cZ cB p0 m0) ++ (wS60 cI cJ cZ cB m0 m1 m2 m3 m4 m5 m6 Mx0_4 Mx0_5 Mx0_6 a1 Mx0_8 Mx0_9 Mx0_10 Mx0_11 Mx0_12 Mx0_13 My1 My2 Mx3_0 Mx4_0 My5 My6)) H := hP
    have hD : va_D A ((wS54 cI cJ cZ cB p0 m0) ++ (wS60 cI cJ cZ cB m0 m1 m2 m3 m4 m5 m6 Mx0_4 Mx0_5 Mx0_6 a1 Mx0_8 Mx0_9 Mx0_10 Mx0_11 Mx0_12 Mx0_13 My1 My2 Mx3_0 Mx4_0 My5 My6)) := hD
    refine lv_iconst (v := 1) hx hb d_S_go_17 (by decide) ?_
    exact W.zret (v := (1 : Int32)) hx hb hr rfl (fun t ht hW => ⟨⟨(1 : Int32), (0 : Int32), rfl, ⟨rfl, by unfold f_cgo; simp only [← hz1, if_neg c2]⟩, ⟨_, isC_3, (by show va_P D classes _ t.heap; rw [ht]; exact hP), hD⟩⟩, hS.F ht⟩) hS.2.2 d_S_go_18
  · refine lv_iconst (v := 0) hx hb d_S_go_7 (by decide) ?_
    exact W.zret (v := (0 : Int32)) hx hb hr rfl (fun t ht hW => ⟨⟨(0 : Int32), (0 : Int32), rfl, ⟨rfl, by unfold f_cgo; simp only [← hz1, if_pos c2]⟩, ⟨_, isC_3, (by show va_P D classes _ t.heap; rw [ht]; exact hP), hD⟩⟩, hS.F ht⟩) hS.2.2 d_S_go_8
theorem v_S_go_b14 {R : Room} {s : State} {args : Array Value} {own : String} {index : Nat} (hk : ∀ w ∈ tb, w.before args s = true) (hl : Cond.methodLink own index y_S_go ∈ tb) (hR : 1 + 1 ≤ R.frames ∧ 8 + (2 + 11) + 20 ≤ R.locals) : CallW R s args own "SignMachine" index y_S_go b_S_go 2 (some .boolean) (.code y_S_go b_S_go 2 (some .boolean) :: tb) ({ frames := 1, cells := 0, slots := 0, locals := 20 }) 0 0 1 := mk_v 1 hk k_503 hl k_501 k_502 k_116 rfl rfl h_S_go hR
set_option maxHeartbeats 4000000 in
set_option maxRecDepth 100000 in
theorem c_S_tape_b14 (l : Launch) (K : CK) (D : va_G) (cI cJ cZ cB : ClassId) (p0 m0 m1 m2 m3 m4 m5 m6 : Nat) (sz : Nat) (Mx0_4 : Bool) (Mx0_5 : Int32) (Mx0_6 : Int32) (Mx0_7 : Int32) (Mx0_8 : Int32) (Mx0_9 : Int32) (Mx0_10 : Int32) (Mx0_11 : Int32) (Mx0_12 : Int32) (Mx0_13 : Int32) (My1 : Nat → Int32) (My2 : Nat → Int32) (Mx3_0 : Int32) (Mx4_0 : Int32) (My5 : Nat → Int32) (My6 : Nat → Int32)  (a1 : Int32) (a2 : Int32) (a3 : Int32) : Met l y_S_tape (.code y_S_tape b_S_tape 5 (some .int) :: tb) ({ frames := 2, cells := 0, slots := 0, locals := 43 }) (pMC K D cI cJ cZ cB ((wS54 cI cJ cZ cB p0 m0) ++ (wS60 cI cJ cZ cB m0 m1 m2 m3 m4 m5 m6 Mx0_4 Mx0_5 Mx0_6 Mx0_7 Mx0_8 Mx0_9 Mx0_10 Mx0_11 Mx0_12 Mx0_13 My1 My2 Mx3_0 Mx4_0 My5 My6)) sz [.ref p0, .int a1, .int a2, .int a3]) (va_Qi (fun r (uL : Int32) => uL = (0 : Int32)) (fun uL t => ∃ W9 : va_W, isC K cI cJ cZ cB p0 uL W9 ∧ va_P D classes W9 t.heap ∧ va_D (va_A ((wS54 cI cJ cZ cB p0 m0) ++ (wS60 cI cJ cZ cB m0 m1 m2 m3 m4 m5 m6 Mx0_4 Mx0_5 Mx0_6 Mx0_7 Mx0_8 Mx0_9 Mx0_10 Mx0_11 Mx0_12 Mx0_13 My1 My2 Mx3_0 Mx4_0 My5 My6)) sz) W9) (va_A ((wS54 cI cJ cZ cB p0 m0) ++ (wS60 cI cJ cZ cB m0 m1 m2 m3 m4 m5 m6 Mx0_4 Mx0_5 Mx0_6 Mx0_7 Mx0_8 Mx0_9 Mx0_10 Mx0_11 Mx0_12 Mx0_13 My1 My2 Mx3_0 Mx4_0 My5 My6)) sz)) 0 0 (va_A ((wS54 cI cJ cZ cB p0 m0) ++ (wS60 cI cJ cZ cB m0 m1 m2 m3 m4 m5 m6 Mx0_4 Mx0_5 Mx0_6 Mx0_7 Mx0_8 Mx0_9 Mx0_10 Mx0_11 Mx0_12 Mx0_13 My1 My2 Mx3_0 Mx4_0 My5 My6)) sz) := by
  refine Met.ofW (cc := b_S_tape) (maxL := 5) (ret := (some .int)) (by decide) rfl ?_
  intro p e s m args below meth c s₁ B hml hv
  obtain ⟨rfl, hsz, hK, hP, hD0, hC⟩ := hv
  subst hsz
  have hD := hD0.self (sz := s.heap.size)
  generalize hAe : va_A ((wS54 cI cJ cZ cB p0 m0) ++ (wS60 cI cJ cZ cB m0 m1 m2 m3 m4 m5 m6 Mx0_4 Mx0_5 Mx0_6 Mx0_7 Mx0_8 Mx0_9 Mx0_10 Mx0_11 Mx0_12 Mx0_13 My1 My2 Mx3_0 Mx4_0 My5 My6)) s.heap.size = A at hD hC ⊢
  have hA : ∀ q : Nat, s.heap.size ≤ q → A q := fun q h => by rw [← hAe]; exact Or.inr h
  clear hAe hD0
  have hS : va_S A s.heap s.heap [] := va_S.rf
  have hx := B.exec
  have hb := B.bytes
  have hr := B.returns
  have hts := atoms_spec (ws := .code y_S_tape b_S_tape 5 (some .int) :: tb) B.pre
  have hk : ∀ w ∈ tb, w.before [.ref p0, .int a1, .int a2, .int a3].toArray s = true := fun w h => hts w (List.mem_cons_of_mem _ h)
  have hown : s.vm.findClass "SignMachine" = some m.cls := findClass_of_methodNamed B.named
  have hlocks := B.notSynchronized
  have hl := lv_entry ([.ref p0, .int a1, .int a2, .int a3]) (n := 5) (Nat.le_of_ble_eq_true rfl)
  rw [lg_entry_eq]
  generalize (lg_sl ([.ref p0, .int a1, .int a2, .int a3]) ++ List.replicate (5 - (lg_sl ([.ref p0, .int a1, .int a2, .int a3])).length) Slot.unset).toArray = ls at hl ⊢
  have hl : lv_has ls 5 [(0, .ref p0), (1, .int a1), (2, .int a2), (3, .int a3)] := hl
  refine lv_iload_n hx hb d_S_tape_0 rfl (lv_at hl 1 rfl) ?_
  refine lv_if_lt (tgt := 17) hx hb d_S_tape_1 (by decide) (fun c1 => ?_) (fun c1 => ?_)
  · refine lv_ldc (v := (-2000000000)) hx hb hown (hk _ k_509) d_S_tape_17 ?_
    exact W.iret (v := (-2000000000 : Int32)) hx hb hr (fun t ht hW => ⟨⟨(-2000000000 : Int32), (0 : Int32), rfl, rfl, ⟨_, isC_3, (by show va_P D classes _ t.heap; rw [ht]; exact hP), hD⟩⟩, hS.F ht⟩) hS.2.2 d_S_tape_19
  · refine lv_iload_n hx hb d_S_tape_4 rfl (lv_at hl 1 rfl) ?_
    refine lv_iconst (v := 1) hx hb d_S_tape_5 (by decide) ?_
    refine lv_icmp_gt (tgt := 17) hx hb d_S_tape_6 (by decide) (fun c2 => ?_) (fun c2 => ?_)
    · refine lv_ldc (v := (-2000000000)) hx hb hown (hk _ k_509) d_S_tape_17 ?_
      exact W.iret (v := (-2000000000 : Int32)) hx hb hr (fun t ht hW => ⟨⟨(-2000000000 : Int32), (0 : Int32), rfl, rfl, ⟨_, isC_3, (by show va_P D classes _ t.heap; rw [ht]; exact hP), hD⟩⟩, hS.F ht⟩) hS.2.2 d_S_tape_19
    · refine lv_iload_n hx hb d_S_tape_9 rfl (lv_at hl 2 rfl) ?_
      refine lv_iload_n hx hb d_S_tape_10 rfl (lv_at hl 3 rfl) ?_
      refine cs_i (W.runS (As := [.int a2, .int a3]) (rest := []) ⟨hx, hb, hml, hown, hk⟩ (c_T_isWord l a2 a3) (s_T_isWord hk k_508 ⟨Nat.le_of_ble_eq_true rfl, Nat.le_of_ble_eq_true rfl⟩) ⟨fun a U g mk q => q, fun U hU hW => ⟨rfl, trivial⟩⟩ rfl rfl hl.1 rfl (lv_room (Nat.le_of_ble_eq_true rfl)) d_S_tape_11 ⟨Nat.le_of_ble_eq_true rfl, Nat.le_of_ble_eq_true rfl⟩) ?_
      obtain ⟨z3, hz3⟩ : ∃ y : Bool, y = (f_T_isWord a2 a3) := ⟨_, rfl⟩
      rw [← hz3]
      refine lv_if_ne (tgt := 20) hx hb d_S_tape_14 (by decide) (fun c4 => ?_) (fun c4 => ?_)
      · refine lv_aload_n hx hb d_S_tape_20 rfl (lv_at hl 0 rfl) ?_
        refine va_get (D := D) (ci := 0) (v := .ref m0) (C := "SignMachine") (T := F_S) (N := 2) hx hb hk fi_S hown hK.1 hP 0 rfl rfl 0 (by decide) (hk _ k_210) (fun _ h9 => h9) rfl d_S_tape_21 ?_
        refine lv_iload_n hx hb d_S_tape_24 rfl (lv_at hl 1 rfl) ?_
        have hPc := hP.sub (ws' := (wS60 cI cJ cZ cB m0 m1 m2 m3 m4 m5 m6 Mx0_4 Mx0_5 Mx0_6 Mx0_7 Mx0_8 Mx0_9 Mx0_10 Mx0_11 Mx0_12 Mx0_13 My1 My2 Mx3_0 Mx4_0 My5 My6)) [1, 2, 3, 4, 5, 6, 7] rfl
        have hDc := hD.sub (ws' := (wS60 cI cJ cZ cB m0 m1 m2 m3 m4 m5 m6 Mx0_4 Mx0_5 Mx0_6 Mx0_7 Mx0_8 Mx0_9 Mx0_10 Mx0_11 Mx0_12 Mx0_13 My1 My2 Mx3_0 Mx4_0 My5 My6)) [1, 2, 3, 4, 5, 6, 7] (by decide) rfl
        have hFc := va_free (wc := (wS60 cI cJ cZ cB m0 m1 m2 m3 m4 m5 m6 Mx0_4 Mx0_5 Mx0_6 Mx0_7 Mx0_8 Mx0_9 Mx0_10 Mx0_11 Mx0_12 Mx0_13 My1 My2 Mx3_0 Mx4_0 My5 My6)) hD hS hA [1, 2, 3, 4, 5, 6, 7] rfl
        refine va_callq (va_runV (C := "SignMachine$Machine") (As := [.int a1]) (rest := []) ⟨hx, hb, hml, hown, hk⟩ (c_M_unit_s7 l K D cI cJ cZ cB m0 m1 m2 m3 m4 m5 m6 s.heap.size Mx0_4 Mx0_5 Mx0_6 Mx0_7 Mx0_8 Mx0_9 Mx0_10 Mx0_11 Mx0_12 Mx0_13 My1 My2 Mx3_0 Mx4_0 My5 My6 a1 ) (v_M_unit_s7 hk k_499 ⟨Nat.le_of_ble_eq_true rfl, Nat.le_of_ble_eq_true rfl⟩) (pMC_v hK hPc hDc hC hS hA (ci := 1) (q0 := 0) rfl rfl rfl) rfl rfl hl.1 rfl (lv_room (Nat.le_of_ble_eq_true rfl)) d_S_tape_25 ⟨by decide, by decide⟩) hS (fun q _ h => hFc q h) hFc (fun rz5 u t H locs ht hvm hr0 hB hzq hkq hS => ?_)
        obtain ⟨hP1, hD1⟩ := hB
        rw [ht] at hP1
        obtain ⟨hP, hD⟩ := va_join (wr := (wS54 cI cJ cZ cB p0 m0)) (w1 := (wS60 cI cJ cZ cB m0 m1 m2 m3 m4 m5 m6 Mx0_4 Mx0_5 Mx0_6 Mx0_7 Mx0_8 Mx0_9 Mx0_10 Mx0_11 Mx0_12 Mx0_13 My1 My2 Mx3_0 Mx4_0 My5 My6)) hP hD [1, 2, 3, 4, 5, 6, 7] [0] rfl rfl (by decide) (by decide) hkq hFc hP1 hD1
        have hP := hP.sub (ws' := ((wS54 cI cJ cZ cB p0 m0) ++ (wS60 cI cJ cZ cB m0 m1 m2 m3 m4 m5 m6 Mx0_4 Mx0_5 Mx0_6 Mx0_7 Mx0_8 Mx0_9 Mx0_10 Mx0_11 Mx0_12 Mx0_13 My1 My2 Mx3_0 Mx4_0 My5 My6))) [0, 1, 2, 3, 4, 5, 6, 7] rfl
        have hD := hD.sub (ws' := ((wS54 cI cJ cZ cB p0 m0) ++ (wS60 cI cJ cZ cB m0 m1 m2 m3 m4 m5 m6 Mx0_4 Mx0_5 Mx0_6 Mx0_7 Mx0_8 Mx0_9 Mx0_10 Mx0_11 Mx0_12 Mx0_13 My1 My2 Mx3_0 Mx4_0 My5 My6))) [0, 1, 2, 3, 4, 5, 6, 7] (by decide) rfl
        have hP : va_P D classes ((wS54 cI cJ cZ cB p0 m0) ++ (wS60 cI cJ cZ cB m0 m1 m2 m3 m4 m5 m6 Mx0_4 Mx0_5 Mx0_6 Mx0_7 Mx0_8 Mx0_9 Mx0_10 Mx0_11 Mx0_12 Mx0_13 My1 My2 Mx3_0 Mx4_0 My5 My6)) H := hP
        have hD : va_D A ((wS54 cI cJ cZ cB p0 m0) ++ (wS60 cI cJ cZ cB m0 m1 m2 m3 m4 m5 m6 Mx0_4 Mx0_5 Mx0_6 Mx0_7 Mx0_8 Mx0_9 Mx0_10 Mx0_11 Mx0_12 Mx0_13 My1 My2 Mx3_0 Mx4_0 My5 My6)) := hD
        clear hPc hDc hFc
        rcases hr0 with hr0 | hr0
        · subst hr0
          refine W.eq (g2 := F0 m 28 ls [.ref m3]) rfl ?_
          refine lv_iload_n hx hb d_S_tape_28 rfl (lv_at hl 2 rfl) ?_
          refine lv_iload_n hx hb d_S_tape_29 rfl (lv_at hl 3 rfl) ?_
          have hPc := hP.sub (ws' := (wS60 cI cJ cZ cB m0 m1 m2 m3 m4 m5 m6 Mx0_4 Mx0_5 Mx0_6 Mx0_7 Mx0_8 Mx0_9 Mx0_10 Mx0_11 Mx0_12 Mx0_13 My1 My2 Mx3_0 Mx4_0 My5 My6)) [1, 2, 3, 4, 5, 6, 7] rfl
          have hDc := hD.sub (ws' := (wS60 cI cJ cZ cB m0 m1 m2 m3 m4 m5 m6 Mx0_4 Mx0_5 Mx0_6 Mx0_7 Mx0_8 Mx0_9 Mx0_10 Mx0_11 Mx0_12 Mx0_13 My1 My2 Mx3_0 Mx4_0 My5 My6)) [1, 2, 3, 4, 5, 6, 7] (by decide) rfl
          have hFc := va_free (wc := (wS60 cI cJ cZ cB m0 m1 m2 m3 m4 m5 m6 Mx0_4 Mx0_5 Mx0_6 Mx0_7 Mx0_8 Mx0_9 Mx0_10 Mx0_11 Mx0_12 Mx0_13 My1 My2 Mx3_0 Mx4_0 My5 My6)) hD hS hA [1, 2, 3, 4, 5, 6, 7] rfl
          refine va_calli (va_runV (C := "SignMachine$Tape") (As := [.int a2, .int a3]) (rest := []) ⟨hx, hb, hml, hown, hk⟩ (c_T_wordAt_s3 l K D cI cJ cZ cB m0 m1 m2 m3 m4 m5 m6 H.size Mx0_4 Mx0_5 Mx0_6 Mx0_7 Mx0_8 Mx0_9 Mx0_10 Mx0_11 Mx0_12 Mx0_13 My1 My2 Mx3_0 Mx4_0 My5 My6 a2 a3 ) (v_T_wordAt_s3 hk k_510 ⟨Nat.le_of_ble_eq_true rfl, Nat.le_of_ble_eq_true rfl⟩) (pMC_v hK hPc hDc hC hS hA (ci := 2) (q0 := 3) rfl rfl rfl) rfl rfl hl.1 rfl (lv_room (Nat.le_of_ble_eq_true rfl)) d_S_tape_30 ⟨by decide, by decide⟩) hS (fun q _ h => hFc q h) hFc (fun rz6 u t H locs ht hvm hr0 hB hzq hkq hS => ?_)
          obtain ⟨hP1, hD1⟩ := hB
          rw [ht] at hP1
          obtain ⟨hP, hD⟩ := va_join (wr := (wS54 cI cJ cZ cB p0 m0)) (w1 := (wS60 cI cJ cZ cB m0 m1 m2 m3 m4 m5 m6 Mx0_4 Mx0_5 Mx0_6 Mx0_7 Mx0_8 Mx0_9 Mx0_10 Mx0_11 Mx0_12 Mx0_13 My1 My2 Mx3_0 Mx4_0 My5 My6)) hP hD [1, 2, 3, 4, 5, 6, 7] [0] rfl rfl (by decide) (by decide) hkq hFc hP1 hD1
          have hP := hP.sub (ws' := ((wS54 cI cJ cZ cB p0 m0) ++ (wS60 cI cJ cZ cB m0 m1 m2 m3 m4 m5 m6 Mx0_4 Mx0_5 Mx0_6 Mx0_7 Mx0_8 Mx0_9 Mx0_10 Mx0_11 Mx0_12 Mx0_13 My1 My2 Mx3_0 Mx4_0 My5 My6))) [0, 1, 2, 3, 4, 5, 6, 7] rfl
          have hD := hD.sub (ws' := ((wS54 cI cJ cZ cB p0 m0) ++ (wS60 cI cJ cZ cB m0 m1 m2 m3 m4 m5 m6 Mx0_4 Mx0_5 Mx0_6 Mx0_7 Mx0_8 Mx0_9 Mx0_10 Mx0_11 Mx0_12 Mx0_13 My1 My2 Mx3_0 Mx4_0 My5 My6))) [0, 1, 2, 3, 4, 5, 6, 7] (by decide) rfl
          have hP : va_P D classes ((wS54 cI cJ cZ cB p0 m0) ++ (wS60 cI cJ cZ cB m0 m1 m2 m3 m4 m5 m6 Mx0_4 Mx0_5 Mx0_6 Mx0_7 Mx0_8 Mx0_9 Mx0_10 Mx0_11 Mx0_12 Mx0_13 My1 My2 Mx3_0 Mx4_0 My5 My6)) H := hP
          have hD : va_D A ((wS54 cI cJ cZ cB p0 m0) ++ (wS60 cI cJ cZ cB m0 m1 m2 m3 m4 m5 m6 Mx0_4 Mx0_5 Mx0_6 Mx0_7 Mx0_8 Mx0_9 Mx0_10 Mx0_11 Mx0_12 Mx0_13 My1 My2 Mx3_0 Mx4_0 My5 My6)) := hD
          clear hPc hDc hFc
          refine lv_istore (lv' := [(4, .int rz6), (0, .ref p0), (1, .int a1), (2, .int a2), (3, .int a3)]) hx hb d_S_tape_33 hl (by decide) rfl (fun ls hl => ?_)
          refine lv_iload hx hb d_S_tape_35 (lv_at hl 0 rfl) ?_
          refine lv_ldc (v := 1073741824) hx hb hown (hk _ k_511) d_S_tape_37 ?_
          refine lv_icmp_ne (tgt := 47) hx hb d_S_tape_39 (by decide) (fun c7 => ?_) (fun c7 => ?_)
          · refine lv_iload hx hb d_S_tape_47 (lv_at hl 0 rfl) ?_
            refine cs_i (W.runS (As := [.int rz6]) (rest := []) ⟨hx, hb, hml, hown, hk⟩ (c_W_number l rz6) (s_W_number hk k_513 ⟨Nat.le_of_ble_eq_true rfl, Nat.le_of_ble_eq_true rfl⟩) ⟨fun a U g mk q => q, fun U hU hW => ⟨rfl, trivial⟩⟩ rfl rfl hl.1 rfl (lv_room (Nat.le_of_ble_eq_true rfl)) d_S_tape_49 ⟨Nat.le_of_ble_eq_true rfl, Nat.le_of_ble_eq_true rfl⟩) ?_
            refine lv_topi (fun v8 hv8 => ?_)
            exact W.iret (v := v8) hx hb hr (fun t ht hW => ⟨⟨v8, (0 : Int32), rfl, rfl, ⟨_, isC_3, (by show va_P D classes _ t.heap; rw [ht]; exact hP), hD⟩⟩, hS.F ht⟩) hS.2.2 d_S_tape_52
          · refine lv_ldc (v := (-1073741824)) hx hb hown (hk _ k_512) d_S_tape_42 ?_
            refine lv_goto (tgt := 52) hx hb d_S_tape_44 (by decide) ?_
            exact W.iret (v := (-1073741824 : Int32)) hx hb hr (fun t ht hW => ⟨⟨(-1073741824 : Int32), (0 : Int32), rfl, rfl, ⟨_, isC_3, (by show va_P D classes _ t.heap; rw [ht]; exact hP), hD⟩⟩, hS.F ht⟩) hS.2.2 d_S_tape_52
        · subst hr0
          refine W.eq (g2 := F0 m 28 ls [.ref m4]) rfl ?_
          refine lv_iload_n hx hb d_S_tape_28 rfl (lv_at hl 2 rfl) ?_
          refine lv_iload_n hx hb d_S_tape_29 rfl (lv_at hl 3 rfl) ?_
          have hPc := hP.sub (ws' := (wS60 cI cJ cZ cB m0 m1 m2 m3 m4 m5 m6 Mx0_4 Mx0_5 Mx0_6 Mx0_7 Mx0_8 Mx0_9 Mx0_10 Mx0_11 Mx0_12 Mx0_13 My1 My2 Mx3_0 Mx4_0 My5 My6)) [1, 2, 3, 4, 5, 6, 7] rfl
          have hDc := hD.sub (ws' := (wS60 cI cJ cZ cB m0 m1 m2 m3 m4 m5 m6 Mx0_4 Mx0_5 Mx0_6 Mx0_7 Mx0_8 Mx0_9 Mx0_10 Mx0_11 Mx0_12 Mx0_13 My1 My2 Mx3_0 Mx4_0 My5 My6)) [1, 2, 3, 4, 5, 6, 7] (by decide) rfl
          have hFc := va_free (wc := (wS60 cI cJ cZ cB m0 m1 m2 m3 m4 m5 m6 Mx0_4 Mx0_5 Mx0_6 Mx0_7 Mx0_8 Mx0_9 Mx0_10 Mx0_11 Mx0_12 Mx0_13 My1 My2 Mx3_0 Mx4_0 My5 My6)) hD hS hA [1, 2, 3, 4, 5, 6, 7] rfl
          refine va_calli (va_runV (C := "SignMachine$Tape") (As := [.int a2, .int a3]) (rest := []) ⟨hx, hb, hml, hown, hk⟩ (c_T_wordAt_s4 l K D cI cJ cZ cB m0 m1 m2 m3 m4 m5 m6 H.size Mx0_4 Mx0_5 Mx0_6 Mx0_7 Mx0_8 Mx0_9 Mx0_10 Mx0_11 Mx0_12 Mx0_13 My1 My2 Mx3_0 Mx4_0 My5 My6 a2 a3 ) (v_T_wordAt_s4 hk k_510 ⟨Nat.le_of_ble_eq_true rfl, Nat.le_of_ble_eq_true rfl⟩) (pMC_v hK hPc hDc hC hS hA (ci := 2) (q0 := 4) rfl rfl rfl) rfl rfl hl.1 rfl (lv_room (Nat.le_of_ble_eq_true rfl)) d_S_tape_30 ⟨by decide, by decide⟩) hS (fun q _ h => hFc q h) hFc (fun rz9 u t H locs ht hvm hr0 hB hzq hkq hS => ?_)
          obtain ⟨hP1, hD1⟩ := hB
          rw [ht] at hP1
          obtain ⟨hP, hD⟩ := va_join (wr := (wS54 cI cJ cZ cB p0 m0)) (w1 := (wS60 cI cJ cZ cB m0 m1 m2 m3 m4 m5 m6 Mx0_4 Mx0_5 Mx0_6 Mx0_7 Mx0_8 Mx0_9 Mx0_10 Mx0_11 Mx0_12 Mx0_13 My1 My2 Mx3_0 Mx4_0 My5 My6)) hP hD [1, 2, 3, 4, 5, 6, 7] [0] rfl rfl (by decide) (by decide) hkq hFc hP1 hD1
          have hP := hP.sub (ws' := ((wS54 cI cJ cZ cB p0 m0) ++ (wS60 cI cJ cZ cB m0 m1 m2 m3 m4 m5 m6 Mx0_4 Mx0_5 Mx0_6 Mx0_7 Mx0_8 Mx0_9 Mx0_10 Mx0_11 Mx0_12 Mx0_13 My1 My2 Mx3_0 Mx4_0 My5 My6))) [0, 1, 2, 3, 4, 5, 6, 7] rfl
          have hD := hD.sub (ws' := ((wS54 cI cJ cZ cB p0 m0) ++ (wS60 cI cJ cZ cB m0 m1 m2 m3 m4 m5 m6 Mx0_4 Mx0_5 Mx0_6 Mx0_7 Mx0_8 Mx0_9 Mx0_10 Mx0_11 Mx0_12 Mx0_13 My1 My2 Mx3_0 Mx4_0 My5 My6))) [0, 1, 2, 3, 4, 5, 6, 7] (by decide) rfl
          have hP : va_P D classes ((wS54 cI cJ cZ cB p0 m0) ++ (wS60 cI cJ cZ cB m0 m1 m2 m3 m4 m5 m6 Mx0_4 Mx0_5 Mx0_6 Mx0_7 Mx0_8 Mx0_9 Mx0_10 Mx0_11 Mx0_12 Mx0_13 My1 My2 Mx3_0 Mx4_0 My5 My6)) H := hP
          have hD : va_D A ((wS54 cI cJ cZ cB p0 m0) ++ (wS60 cI cJ cZ cB m0 m1 m2 m3 m4 m5 m6 Mx0_4 Mx0_5 Mx0_6 Mx0_7 Mx0_8 Mx0_9 Mx0_10 Mx0_11 Mx0_12 Mx0_13 My1 My2 Mx3_0 Mx4_0 My5 My6)) := hD
          clear hPc hDc hFc
          refine lv_istore (lv' := [(4, .int rz9), (0, .ref p0), (1, .int a1), (2, .int a2), (3, .int a3)]) hx hb d_S_tape_33 hl (by decide) rfl (fun ls hl => ?_)
          refine lv_iload hx hb d_S_tape_35 (lv_at hl 0 rfl) ?_
          refine lv_ldc (v := 1073741824) hx hb hown (hk _ k_511) d_S_tape_37 ?_
          refine lv_icmp_ne (tgt := 47) hx hb d_S_tape_39 (by decide) (fun c10 => ?_) (fun c10 => ?_)
          · refine lv_iload hx hb d_S_tape_47 (lv_at hl 0 rfl) ?_
            refine cs_i (W.runS (As := [.int rz9]) (rest := []) ⟨hx, hb, hml, hown, hk⟩ (c_W_number l rz9) (s_W_number hk k_513 ⟨Nat.le_of_ble_eq_true rfl, Nat.le_of_ble_eq_true rfl⟩) ⟨fun a U g mk q => q, fun U hU hW => ⟨rfl, trivial⟩⟩ rfl rfl hl.1 rfl (lv_room (Nat.le_of_ble_eq_true rfl)) d_S_tape_49 ⟨Nat.le_of_ble_eq_true rfl, Nat.le_of_ble_eq_true rfl⟩) ?_
            refine lv_topi (fun v11 hv11 => ?_)
            exact W.iret (v := v11) hx hb hr (fun t ht hW => ⟨⟨v11, (0 : Int32), rfl, rfl, ⟨_, isC_3, (by show va_P D classes _ t.heap; rw [ht]; exact hP), hD⟩⟩, hS.F ht⟩) hS.2.2 d_S_tape_52
          · refine lv_ldc (v := (-1073741824)) hx hb hown (hk _ k_512) d_S_tape_42 ?_
            refine lv_goto (tgt := 52) hx hb d_S_tape_44 (by decide) ?_
            exact W.iret (v := (-1073741824 : Int32)) hx hb hr (fun t ht hW => ⟨⟨(-1073741824 : Int32), (0 : Int32), rfl, rfl, ⟨_, isC_3, (by show va_P D classes _ t.heap; rw [ht]; exact hP), hD⟩⟩, hS.F ht⟩) hS.2.2 d_S_tape_52
      · refine lv_ldc (v := (-2000000000)) hx hb hown (hk _ k_509) d_S_tape_17 ?_
        exact W.iret (v := (-2000000000 : Int32)) hx hb hr (fun t ht hW => ⟨⟨(-2000000000 : Int32), (0 : Int32), rfl, rfl, ⟨_, isC_3, (by show va_P D classes _ t.heap; rw [ht]; exact hP), hD⟩⟩, hS.F ht⟩) hS.2.2 d_S_tape_19
theorem v_S_tape_b14 {R : Room} {s : State} {args : Array Value} {own : String} {index : Nat} (hk : ∀ w ∈ tb, w.before args s = true) (hl : Cond.methodLink own index y_S_tape ∈ tb) (hR : 2 + 1 ≤ R.frames ∧ 8 + (5 + 11) + 43 ≤ R.locals) : CallW R s args own "SignMachine" index y_S_tape b_S_tape 5 (some .int) (.code y_S_tape b_S_tape 5 (some .int) :: tb) ({ frames := 2, cells := 0, slots := 0, locals := 43 }) 0 0 3 := mk_v 3 hk k_507 hl k_505 k_506 k_116 rfl rfl h_S_tape hR
set_option maxHeartbeats 4000000 in
set_option maxRecDepth 100000 in
theorem c_S_step_b14 (l : Launch) (K : CK) (D : va_G) (cI cJ cZ cB : ClassId) (p0 m0 m1 m2 m3 m4 m5 m6 : Nat) (sz : Nat) (Mx0_4 : Bool) (Mx0_5 : Int32) (Mx0_6 : Int32) (Mx0_7 : Int32) (Mx0_8 : Int32) (Mx0_9 : Int32) (Mx0_10 : Int32) (Mx0_11 : Int32) (Mx0_12 : Int32) (Mx0_13 : Int32) (My1 : Nat → Int32) (My2 : Nat → Int32) (Mx3_0 : Int32) (Mx4_0 : Int32) (My5 : Nat → Int32) (My6 : Nat → Int32)   : Met l y_S_step (.code y_S_step b_S_step 1 (some .int) :: tb) ({ frames := 7, cells := 1, slots := 4000, locals := 151 }) (pMC K D cI cJ cZ cB ((wS54 cI cJ cZ cB p0 m0) ++ (wS60 cI cJ cZ cB m0 m1 m2 m3 m4 m5 m6 Mx0_4 Mx0_5 Mx0_6 Mx0_7 Mx0_8 Mx0_9 Mx0_10 Mx0_11 Mx0_12 Mx0_13 My1 My2 Mx3_0 Mx4_0 My5 My6)) sz [.ref p0]) (va_Qi (fun r (uL : Int32) => uL = (0 : Int32)) (fun uL t => ∃ W9 : va_W, isC K cI cJ cZ cB p0 uL W9 ∧ va_P D classes W9 t.heap ∧ va_D (va_A ((wS54 cI cJ cZ cB p0 m0) ++ (wS60 cI cJ cZ cB m0 m1 m2 m3 m4 m5 m6 Mx0_4 Mx0_5 Mx0_6 Mx0_7 Mx0_8 Mx0_9 Mx0_10 Mx0_11 Mx0_12 Mx0_13 My1 My2 Mx3_0 Mx4_0 My5 My6)) sz) W9) (va_A ((wS54 cI cJ cZ cB p0 m0) ++ (wS60 cI cJ cZ cB m0 m1 m2 m3 m4 m5 m6 Mx0_4 Mx0_5 Mx0_6 Mx0_7 Mx0_8 Mx0_9 Mx0_10 Mx0_11 Mx0_12 Mx0_13 My1 My2 Mx3_0 Mx4_0 My5 My6)) sz)) 1 4000 (va_A ((wS54 cI cJ cZ cB p0 m0) ++ (wS60 cI cJ cZ cB m0 m1 m2 m3 m4 m5 m6 Mx0_4 Mx0_5 Mx0_6 Mx0_7 Mx0_8 Mx0_9 Mx0_10 Mx0_11 Mx0_12 Mx0_13 My1 My2 Mx3_0 Mx4_0 My5 My6)) sz) := by
  refine Met.ofW (cc := b_S_step) (maxL := 1) (ret := (some .int)) (by decide) rfl ?_
  intro p e s m args below meth c s₁ B hml hv
  obtain ⟨rfl, hsz, hK, hP, hD0, hC⟩ := hv
  subst hsz
  have hD := hD0.self (sz := s.heap.size)
  generalize hAe : va_A ((wS54 cI cJ cZ cB p0 m0) ++ (wS60 cI cJ cZ cB m0 m1 m2 m3 m4 m5 m6 Mx0_4 Mx0_5 Mx0_6 Mx0_7 Mx0_8 Mx0_9 Mx0_10 Mx0_11 Mx0_12 Mx0_13 My1 My2 Mx3_0 Mx4_0 My5 My6)) s.heap.size = A at hD hC ⊢
  have hA : ∀ q : Nat, s.heap.size ≤ q → A q := fun q h => by rw [← hAe]; exact Or.inr h
  clear hAe hD0
  have hS : va_S A s.heap s.heap [] := va_S.rf
  have hx := B.exec
  have hb := B.bytes
  have hr := B.returns
  have hts := atoms_spec (ws := .code y_S_step b_S_step 1 (some .int) :: tb) B.pre
  have hk : ∀ w ∈ tb, w.before [.ref p0].toArray s = true := fun w h => hts w (List.mem_cons_of_mem _ h)
  have hown : s.vm.findClass "SignMachine" = some m.cls := findClass_of_methodNamed B.named
  have hlocks := B.notSynchronized
  have hl := lv_entry ([.ref p0]) (n := 1) (Nat.le_of_ble_eq_true rfl)
  rw [lg_entry_eq]
  generalize (lg_sl ([.ref p0]) ++ List.replicate (1 - (lg_sl ([.ref p0])).length) Slot.unset).toArray = ls at hl ⊢
  have hl : lv_has ls 1 [(0, .ref p0)] := hl
  refine lv_aload_n hx hb d_S_step_0 rfl (lv_at hl 0 rfl) ?_
  refine va_get (D := D) (ci := 0) (v := .ref m0) (C := "SignMachine") (T := F_S) (N := 2) hx hb hk fi_S hown hK.1 hP 0 rfl rfl 0 (by decide) (hk _ k_210) (fun _ h9 => h9) rfl d_S_step_1 ?_
  refine lv_aload_n hx hb d_S_step_4 rfl (lv_at hl 0 rfl) ?_
  refine va_get (D := D) (ci := 0) (v := .ref m0) (C := "SignMachine") (T := F_S) (N := 2) hx hb hk fi_S hown hK.1 hP 0 rfl rfl 0 (by decide) (hk _ k_210) (fun _ h9 => h9) rfl d_S_step_5 ?_
  have hPc := hP.sub (ws' := (wS60 cI cJ cZ cB m0 m1 m2 m3 m4 m5 m6 Mx0_4 Mx0_5 Mx0_6 Mx0_7 Mx0_8 Mx0_9 Mx0_10 Mx0_11 Mx0_12 Mx0_13 My1 My2 Mx3_0 Mx4_0 My5 My6)) [1, 2, 3, 4, 5, 6, 7] rfl
  have hDc := hD.sub (ws' := (wS60 cI cJ cZ cB m0 m1 m2 m3 m4 m5 m6 Mx0_4 Mx0_5 Mx0_6 Mx0_7 Mx0_8 Mx0_9 Mx0_10 Mx0_11 Mx0_12 Mx0_13 My1 My2 Mx3_0 Mx4_0 My5 My6)) [1, 2, 3, 4, 5, 6, 7] (by decide) rfl
  have hFc := va_free (wc := (wS60 cI cJ cZ cB m0 m1 m2 m3 m4 m5 m6 Mx0_4 Mx0_5 Mx0_6 Mx0_7 Mx0_8 Mx0_9 Mx0_10 Mx0_11 Mx0_12 Mx0_13 My1 My2 Mx3_0 Mx4_0 My5 My6)) hD hS hA [1, 2, 3, 4, 5, 6, 7] rfl
  refine va_calli (va_runV (C := "SignMachine$Machine") (As := []) (rest := [.ref m0]) ⟨hx, hb, hml, hown, hk⟩ (c_M_execute_s6 l K D cI cJ cZ cB m0 m1 m2 m3 m4 m5 m6 s.heap.size Mx0_4 Mx0_5 Mx0_6 Mx0_7 Mx0_8 Mx0_9 Mx0_10 Mx0_11 Mx0_12 Mx0_13 My1 My2 Mx3_0 Mx4_0 My5 My6  ) (v_M_execute_s6 hk k_258 ⟨Nat.le_of_ble_eq_true rfl, Nat.le_of_ble_eq_true rfl⟩) (pMC_v hK hPc hDc hC hS hA (ci := 1) (q0 := 0) rfl rfl rfl) rfl rfl hl.1 rfl (lv_room (Nat.le_of_ble_eq_true rfl)) d_S_step_8 ⟨by decide, by decide⟩) hS (fun q _ h => hFc q h) hFc (fun rz1 u t H locs ht hvm hr0 hB hzq hkq hS => ?_)
  obtain ⟨Mx0_4z1, Mx0_5z1, Mx0_6z1, Mx0_7z1, Mx0_9z1, Mx0_10z1, Mx0_11z1, Mx0_12z1, Mx0_13z1, My1z1, My2z1, Mx3_0z1, Mx4_0z1, My5z1, My6z1, hP1, hD1⟩ := hB
  rw [ht] at hP1
  obtain ⟨hP, hD⟩ := va_join (wr := (wS54 cI cJ cZ cB p0 m0)) (w1 := (wS60 cI cJ cZ cB m0 m1 m2 m3 m4 m5 m6 Mx0_4z1 Mx0_5z1 Mx0_6z1 Mx0_7z1 Mx0_8 Mx0_9z1 Mx0_10z1 Mx0_11z1 Mx0_12z1 Mx0_13z1 My1z1 My2z1 Mx3_0z1 Mx4_0z1 My5z1 My6z1)) hP hD [1, 2, 3, 4, 5, 6, 7] [0] rfl rfl (by decide) (by decide) hkq hFc hP1 hD1
  have hP := hP.sub (ws' := ((wS54 cI cJ cZ cB p0 m0) ++ (wS60 cI cJ cZ cB m0 m1 m2 m3 m4 m5 m6 Mx0_4z1 Mx0_5z1 Mx0_6z1 Mx0_7z1 Mx0_8 Mx0_9z1 Mx0_10z1 Mx0_11z1 Mx0_12z1 Mx0_13z1 My1z1 My2z1 Mx3_0z1 Mx4_0z1 My5z1 My6z1))) [0, 1, 2, 3, 4, 5, 6, 7] rfl
  have hD := hD.sub (ws' := ((wS54 cI cJ cZ cB p0 m0) ++ (wS60 cI cJ cZ cB m0 m1 m2 m3 m4 m5 m6 Mx0_4z1 Mx0_5z1 Mx0_6z1 Mx0_7z1 Mx0_8 Mx0_9z1 Mx0_10z1 Mx0_11z1 Mx0_12z1 Mx0_13z1 My1z1 My2z1 Mx3_0z1 Mx4_0z1 My5z1 My6z1))) [0, 1, 2, 3, 4, 5, 6, 7] (by decide) rfl
  have hP : va_P D classes ((wS54 cI cJ cZ cB p0 m0) ++ (wS60 cI cJ cZ cB m0 m1 m2 m3 m4 m5 m6 Mx0_4z1 Mx0_5z1 Mx0_6z1 Mx0_7z1 Mx0_8 Mx0_9z1 Mx0_10z1 Mx0_11z1 Mx0_12z1 Mx0_13z1 My1z1 My2z1 Mx3_0z1 Mx4_0z1 My5z1 My6z1)) H := hP
  have hD : va_D A ((wS54 cI cJ cZ cB p0 m0) ++ (wS60 cI cJ cZ cB m0 m1 m2 m3 m4 m5 m6 Mx0_4z1 Mx0_5z1 Mx0_6z1 Mx0_7z1 Mx0_8 Mx0_9z1 Mx0_10z1 Mx0_11z1 Mx0_12z1 Mx0_13z1 My1z1 My2z1 Mx3_0z1 Mx4_0z1 My5z1 My6z1)) := hD
  clear hPc hDc hFc
  refine va_putN (D := D) (ci := 1) (v := .int rz1) (ty := .int) (C := "SignMachine$Machine") (T := F_M) (N := 14) hx hb hk fi_M ft_M ft_M_ok fn_M hown hK.1 hP hD hS 1 rfl rfl 8 (by decide) (va_Nw.use rfl (hK.2 _ n_175)) (fun _ h9 => h9) rfl (by decide +kernel) rfl rfl (Nat.le_of_ble_eq_true rfl) d_S_step_11 (fun H locs hP hD hS => ?_)
  have hP : va_P D classes ((wS54 cI cJ cZ cB p0 m0) ++ (wS60 cI cJ cZ cB m0 m1 m2 m3 m4 m5 m6 Mx0_4z1 Mx0_5z1 Mx0_6z1 Mx0_7z1 rz1 Mx0_9z1 Mx0_10z1 Mx0_11z1 Mx0_12z1 Mx0_13z1 My1z1 My2z1 Mx3_0z1 Mx4_0z1 My5z1 My6z1)) H := hP
  have hD : va_D A ((wS54 cI cJ cZ cB p0 m0) ++ (wS60 cI cJ cZ cB m0 m1 m2 m3 m4 m5 m6 Mx0_4z1 Mx0_5z1 Mx0_6z1 Mx0_7z1 rz1 Mx0_9z1 Mx0_10z1 Mx0_11z1 Mx0_12z1 Mx0_13z1 My1z1 My2z1 Mx3_0z1 Mx4_0z1 My5z1 My6z1)) := hD
  refine lv_aload_n hx hb d_S_step_14 rfl (lv_at hl 0 rfl) ?_
  refine va_get (D := D) (ci := 0) (v := .ref m0) (C := "SignMachine") (T := F_S) (N := 2) hx hb hk fi_S hown hK.1 hP 0 rfl rfl 0 (by decide) (hk _ k_210) (fun _ h9 => h9) rfl d_S_step_15 ?_
  refine va_getN (D := D) (ci := 1) (v := .int rz1) (C := "SignMachine$Machine") (T := F_M) (N := 14) hx hb hk fi_M hown hK.1 hP 1 rfl rfl 8 (by decide) (va_Nw.use rfl (hK.2 _ n_175)) (fun _ h9 => h9) rfl d_S_step_18 ?_
  refine W.widen (k := 1) (n := 4000) (by decide) (by decide) ?_
  exact W.iret (v := rz1) hx hb hr (fun t ht hW => ⟨⟨rz1, (0 : Int32), rfl, rfl, ⟨_, isC_3, (by show va_P D classes _ t.heap; rw [ht]; exact hP), hD⟩⟩, hS.F ht⟩) hS.2.2 d_S_step_21
theorem v_S_step_b14 {R : Room} {s : State} {args : Array Value} {own : String} {index : Nat} (hk : ∀ w ∈ tb, w.before args s = true) (hl : Cond.methodLink own index y_S_step ∈ tb) (hR : 7 + 1 ≤ R.frames ∧ 8 + (1 + 11) + 151 ≤ R.locals) : CallW R s args own "SignMachine" index y_S_step b_S_step 1 (some .int) (.code y_S_step b_S_step 1 (some .int) :: tb) ({ frames := 7, cells := 1, slots := 4000, locals := 151 }) 1 4000 0 := mk_v 0 hk k_257 hl k_255 k_256 k_116 rfl rfl h_S_step hR
set_option maxHeartbeats 4000000 in
set_option maxRecDepth 100000 in
theorem c_S_run_b14 (l : Launch) (K : CK) (D : va_G) (cI cJ cZ cB : ClassId) (p0 m0 m1 m2 m3 m4 m5 m6 : Nat) (sz : Nat) (Mx0_4 : Bool) (Mx0_5 : Int32) (Mx0_6 : Int32) (Mx0_7 : Int32) (Mx0_8 : Int32) (Mx0_9 : Int32) (Mx0_10 : Int32) (Mx0_11 : Int32) (Mx0_12 : Int32) (Mx0_13 : Int32) (My1 : Nat → Int32) (My2 : Nat → Int32) (Mx3_0 : Int32) (Mx4_0 : Int32) (My5 : Nat → Int32) (My6 : Nat → Int32)  (a1 : Int32) : Met l y_S_run (.code y_S_run b_S_run 5 (some .int) :: tb) ({ frames := 7, cells := 2, slots := 8000, locals := 151 }) (pMC K D cI cJ cZ cB ((wS54 cI cJ cZ cB p0 m0) ++ (wS60 cI cJ cZ cB m0 m1 m2 m3 m4 m5 m6 Mx0_4 Mx0_5 Mx0_6 Mx0_7 Mx0_8 Mx0_9 Mx0_10 Mx0_11 Mx0_12 Mx0_13 My1 My2 Mx3_0 Mx4_0 My5 My6)) sz [.ref p0, .int a1]) (va_Qi (fun r (uL : Int32) => uL = (0 : Int32)) (fun uL t => ∃ W9 : va_W, isC K cI cJ cZ cB p0 uL W9 ∧ va_P D classes W9 t.heap ∧ va_D (va_A ((wS54 cI cJ cZ cB p0 m0) ++ (wS60 cI cJ cZ cB m0 m1 m2 m3 m4 m5 m6 Mx0_4 Mx0_5 Mx0_6 Mx0_7 Mx0_8 Mx0_9 Mx0_10 Mx0_11 Mx0_12 Mx0_13 My1 My2 Mx3_0 Mx4_0 My5 My6)) sz) W9) (va_A ((wS54 cI cJ cZ cB p0 m0) ++ (wS60 cI cJ cZ cB m0 m1 m2 m3 m4 m5 m6 Mx0_4 Mx0_5 Mx0_6 Mx0_7 Mx0_8 Mx0_9 Mx0_10 Mx0_11 Mx0_12 Mx0_13 My1 My2 Mx3_0 Mx4_0 My5 My6)) sz)) 2 8000 (va_A ((wS54 cI cJ cZ cB p0 m0) ++ (wS60 cI cJ cZ cB m0 m1 m2 m3 m4 m5 m6 Mx0_4 Mx0_5 Mx0_6 Mx0_7 Mx0_8 Mx0_9 Mx0_10 Mx0_11 Mx0_12 Mx0_13 My1 My2 Mx3_0 Mx4_0 My5 My6)) sz) := by
  refine Met.ofW (cc := b_S_run) (maxL := 5) (ret := (some .int)) (by decide) rfl ?_
  intro p e s m args below meth c s₁ B hml hv
  obtain ⟨rfl, hsz, hK, hP, hD0, hC⟩ := hv
  subst hsz
  have hD := hD0.self (sz := s.heap.size)
  generalize hAe : va_A ((wS54 cI cJ cZ cB p0 m0) ++ (wS60 cI cJ cZ cB m0 m1 m2 m3 m4 m5 m6 Mx0_4 Mx0_5 Mx0_6 Mx0_7 Mx0_8 Mx0_9 Mx0_10 Mx0_11 Mx0_12 Mx0_13 My1 My2 Mx3_0 Mx4_0 My5 My6)) s.heap.size = A at hD hC ⊢
  have hA : ∀ q : Nat, s.heap.size ≤ q → A q := fun q h => by rw [← hAe]; exact Or.inr h
  clear hAe hD0
  have hS : va_S A s.heap s.heap [] := va_S.rf
  have hx := B.exec
  have hb := B.bytes
  have hr := B.returns
  have hts := atoms_spec (ws := .code y_S_run b_S_run 5 (some .int) :: tb) B.pre
  have hk : ∀ w ∈ tb, w.before [.ref p0, .int a1].toArray s = true := fun w h => hts w (List.mem_cons_of_mem _ h)
  have hown : s.vm.findClass "SignMachine" = some m.cls := findClass_of_methodNamed B.named
  have hlocks := B.notSynchronized
  have hl := lv_entry ([.ref p0, .int a1]) (n := 5) (Nat.le_of_ble_eq_true rfl)
  rw [lg_entry_eq]
  generalize (lg_sl ([.ref p0, .int a1]) ++ List.replicate (5 - (lg_sl ([.ref p0, .int a1])).length) Slot.unset).toArray = ls at hl ⊢
  have hl : lv_has ls 5 [(0, .ref p0), (1, .int a1)] := hl
  refine lv_iload_n hx hb d_S_run_0 rfl (lv_at hl 1 rfl) ?_
  refine lv_iconst (v := 1) hx hb d_S_run_1 (by decide) ?_
  refine lv_icmp_lt (tgt := 12) hx hb d_S_run_2 (by decide) (fun c1 => ?_) (fun c1 => ?_)
  · refine lv_iconst (v := (-1)) hx hb d_S_run_12 (by decide) ?_
    refine W.widen (k := 2) (n := 8000) (by decide) (by decide) ?_
    exact W.iret (v := (-1 : Int32)) hx hb hr (fun t ht hW => ⟨⟨(-1 : Int32), (0 : Int32), rfl, rfl, ⟨_, isC_3, (by show va_P D classes _ t.heap; rw [ht]; exact hP), hD⟩⟩, hS.F ht⟩) hS.2.2 d_S_run_13
  · refine lv_iload_n hx hb d_S_run_5 rfl (lv_at hl 1 rfl) ?_
    refine lv_sipush (v := 20000) hx hb d_S_run_6 (by decide) ?_
    refine lv_icmp_le (tgt := 14) hx hb d_S_run_9 (by decide) (fun c2 => ?_) (fun c2 => ?_)
    · refine lv_iconst (v := 0) hx hb d_S_run_14 (by decide) ?_
      refine lv_istore_n (lv' := [(2, .int (0 : Int32)), (0, .ref p0), (1, .int a1)]) hx hb d_S_run_15 rfl hl (by decide) rfl (fun ls hl => ?_)
      refine lv_iconst (v := 0) hx hb d_S_run_16 (by decide) ?_
      refine lv_istore_n (lv' := [(3, .int (0 : Int32)), (2, .int (0 : Int32)), (0, .ref p0), (1, .int a1)]) hx hb d_S_run_17 rfl hl (by decide) rfl (fun ls hl => ?_)
      refine lv_iconst (v := 0) hx hb d_S_run_18 (by decide) ?_
      refine lv_istore (lv' := [(4, .int (0 : Int32)), (3, .int (0 : Int32)), (2, .int (0 : Int32)), (0, .ref p0), (1, .int a1)]) hx hb d_S_run_19 hl (by decide) rfl (fun ls hl => ?_)
      have LP21_x3 : ∀ (n : Nat) (l4 : Int32) (l3 : Int32) (l2 : Int32) (Mx0_4 : Bool) (Mx0_5 : Int32) (Mx0_6 : Int32) (Mx0_7 : Int32) (Mx0_8 : Int32) (Mx0_9 : Int32) (Mx0_10 : Int32) (Mx0_11 : Int32) (Mx0_12 : Int32) (Mx0_13 : Int32) (My1 : Nat → Int32) (My2 : Nat → Int32) (Mx3_0 : Int32) (Mx4_0 : Int32) (My5 : Nat → Int32) (My6 : Nat → Int32) (H : Heap) (locs : List Loc) (ls : Array Slot), ((a1).toInt - (l4).toInt).toNat < n → ¬ l4 < (0 : Int32) → va_P D classes ((wS54 cI cJ cZ cB p0 m0) ++ (wS60 cI cJ cZ cB m0 m1 m2 m3 m4 m5 m6 Mx0_4 Mx0_5 Mx0_6 Mx0_7 Mx0_8 Mx0_9 Mx0_10 Mx0_11 Mx0_12 Mx0_13 My1 My2 Mx3_0 Mx4_0 My5 My6)) H → va_D A ((wS54 cI cJ cZ cB p0 m0) ++ (wS60 cI cJ cZ cB m0 m1 m2 m3 m4 m5 m6 Mx0_4 Mx0_5 Mx0_6 Mx0_7 Mx0_8 Mx0_9 Mx0_10 Mx0_11 Mx0_12 Mx0_13 My1 My2 Mx3_0 Mx4_0 My5 My6)) → va_S A s.heap H locs → lv_has ls 5 [(4, .int l4), (3, .int l3), (2, .int l2), (0, .ref p0), (1, .int a1)] → W p l e ({ frames := 7, cells := 2, slots := 8000, locals := 151 }) s m [.ref p0, .int a1].toArray below meth c H locs 0 0 (MQ below (va_Qi (fun r (uL : Int32) => uL = (0 : Int32)) (fun uL t => ∃ W9 : va_W, isC K cI cJ cZ cB p0 uL W9 ∧ va_P D classes W9 t.heap ∧ va_D A W9) A) [.ref p0, .int a1].toArray s 2 8000 A) (F0 m 21 ls []) := by
        intro n
        induction n with
        | zero => intro l4 l3 l2 Mx0_4 Mx0_5 Mx0_6 Mx0_7 Mx0_8 Mx0_9 Mx0_10 Mx0_11 Mx0_12 Mx0_13 My1 My2 Mx3_0 Mx4_0 My5 My6 H locs ls hn; exact absurd hn (Nat.not_lt_zero _)
        | succ n ih =>
          intro l4 l3 l2 Mx0_4 Mx0_5 Mx0_6 Mx0_7 Mx0_8 Mx0_9 Mx0_10 Mx0_11 Mx0_12 Mx0_13 My1 My2 Mx3_0 Mx4_0 My5 My6 H locs ls hn21_x3 hc21_x3 hP hD hS hl
          refine lv_iload hx hb d_S_run_21 (lv_at hl 0 rfl) ?_
          refine lv_iload_n hx hb d_S_run_23 rfl (lv_at hl 4 rfl) ?_
          refine lv_icmp_ge (tgt := 53) hx hb d_S_run_24 (by decide) (fun c3 => ?_) (fun c3 => ?_)
          · refine lv_aload_n hx hb d_S_run_53 rfl (lv_at hl 3 rfl) ?_
            refine va_get (D := D) (ci := 0) (v := .ref m0) (C := "SignMachine") (T := F_S) (N := 2) hx hb hk fi_S hown hK.1 hP 0 rfl rfl 0 (by decide) (hk _ k_210) (fun _ h9 => h9) rfl d_S_run_54 ?_
            refine lv_iload_n hx hb d_S_run_57 rfl (lv_at hl 1 rfl) ?_
            refine va_putN (D := D) (ci := 1) (v := .int l3) (ty := .int) (C := "SignMachine$Machine") (T := F_M) (N := 14) hx hb hk fi_M ft_M ft_M_ok fn_M hown hK.1 hP hD hS 1 rfl rfl 8 (by decide) (va_Nw.use rfl (hK.2 _ n_175)) (fun _ h9 => h9) rfl (by decide +kernel) rfl rfl (Nat.le_of_ble_eq_true rfl) d_S_run_58 (fun H locs hP hD hS => ?_)
            have hP : va_P D classes ((wS54 cI cJ cZ cB p0 m0) ++ (wS60 cI cJ cZ cB m0 m1 m2 m3 m4 m5 m6 Mx0_4 Mx0_5 Mx0_6 Mx0_7 l3 Mx0_9 Mx0_10 Mx0_11 Mx0_12 Mx0_13 My1 My2 Mx3_0 Mx4_0 My5 My6)) H := hP
            have hD : va_D A ((wS54 cI cJ cZ cB p0 m0) ++ (wS60 cI cJ cZ cB m0 m1 m2 m3 m4 m5 m6 Mx0_4 Mx0_5 Mx0_6 Mx0_7 l3 Mx0_9 Mx0_10 Mx0_11 Mx0_12 Mx0_13 My1 My2 Mx3_0 Mx4_0 My5 My6)) := hD
            refine lv_iload_n hx hb d_S_run_61 rfl (lv_at hl 2 rfl) ?_
            refine W.widen (k := 2) (n := 8000) (by decide) (by decide) ?_
            exact W.iret (v := l2) hx hb hr (fun t ht hW => ⟨⟨l2, (0 : Int32), rfl, rfl, ⟨_, isC_3, (by show va_P D classes _ t.heap; rw [ht]; exact hP), hD⟩⟩, hS.F ht⟩) hS.2.2 d_S_run_62
          · refine lv_iload_n hx hb d_S_run_27 rfl (lv_at hl 1 rfl) ?_
            refine lv_if_ne (tgt := 53) hx hb d_S_run_28 (by decide) (fun c4 => ?_) (fun c4 => ?_)
            · refine lv_aload_n hx hb d_S_run_53 rfl (lv_at hl 3 rfl) ?_
              refine va_get (D := D) (ci := 0) (v := .ref m0) (C := "SignMachine") (T := F_S) (N := 2) hx hb hk fi_S hown hK.1 hP 0 rfl rfl 0 (by decide) (hk _ k_210) (fun _ h9 => h9) rfl d_S_run_54 ?_
              refine lv_iload_n hx hb d_S_run_57 rfl (lv_at hl 1 rfl) ?_
              refine va_putN (D := D) (ci := 1) (v := .int l3) (ty := .int) (C := "SignMachine$Machine") (T := F_M) (N := 14) hx hb hk fi_M ft_M ft_M_ok fn_M hown hK.1 hP hD hS 1 rfl rfl 8 (by decide) (va_Nw.use rfl (hK.2 _ n_175)) (fun _ h9 => h9) rfl (by decide +kernel) rfl rfl (Nat.le_of_ble_eq_true rfl) d_S_run_58 (fun H locs hP hD hS => ?_)
              have hP : va_P D classes ((wS54 cI cJ cZ cB p0 m0) ++ (wS60 cI cJ cZ cB m0 m1 m2 m3 m4 m5 m6 Mx0_4 Mx0_5 Mx0_6 Mx0_7 l3 Mx0_9 Mx0_10 Mx0_11 Mx0_12 Mx0_13 My1 My2 Mx3_0 Mx4_0 My5 My6)) H := hP
              have hD : va_D A ((wS54 cI cJ cZ cB p0 m0) ++ (wS60 cI cJ cZ cB m0 m1 m2 m3 m4 m5 m6 Mx0_4 Mx0_5 Mx0_6 Mx0_7 l3 Mx0_9 Mx0_10 Mx0_11 Mx0_12 Mx0_13 My1 My2 Mx3_0 Mx4_0 My5 My6)) := hD
              refine lv_iload_n hx hb d_S_run_61 rfl (lv_at hl 2 rfl) ?_
              refine W.widen (k := 2) (n := 8000) (by decide) (by decide) ?_
              exact W.iret (v := l2) hx hb hr (fun t ht hW => ⟨⟨l2, (0 : Int32), rfl, rfl, ⟨_, isC_3, (by show va_P D classes _ t.heap; rw [ht]; exact hP), hD⟩⟩, hS.F ht⟩) hS.2.2 d_S_run_62
            · refine lv_aload_n hx hb d_S_run_31 rfl (lv_at hl 3 rfl) ?_
              refine va_get (D := D) (ci := 0) (v := .ref m0) (C := "SignMachine") (T := F_S) (N := 2) hx hb hk fi_S hown hK.1 hP 0 rfl rfl 0 (by decide) (hk _ k_210) (fun _ h9 => h9) rfl d_S_run_32 ?_
              have hPc := hP.sub (ws' := (wS60 cI cJ cZ cB m0 m1 m2 m3 m4 m5 m6 Mx0_4 Mx0_5 Mx0_6 Mx0_7 Mx0_8 Mx0_9 Mx0_10 Mx0_11 Mx0_12 Mx0_13 My1 My2 Mx3_0 Mx4_0 My5 My6)) [1, 2, 3, 4, 5, 6, 7] rfl
              have hDc := hD.sub (ws' := (wS60 cI cJ cZ cB m0 m1 m2 m3 m4 m5 m6 Mx0_4 Mx0_5 Mx0_6 Mx0_7 Mx0_8 Mx0_9 Mx0_10 Mx0_11 Mx0_12 Mx0_13 My1 My2 Mx3_0 Mx4_0 My5 My6)) [1, 2, 3, 4, 5, 6, 7] (by decide) rfl
              have hFc := va_free (wc := (wS60 cI cJ cZ cB m0 m1 m2 m3 m4 m5 m6 Mx0_4 Mx0_5 Mx0_6 Mx0_7 Mx0_8 Mx0_9 Mx0_10 Mx0_11 Mx0_12 Mx0_13 My1 My2 Mx3_0 Mx4_0 My5 My6)) hD hS hA [1, 2, 3, 4, 5, 6, 7] rfl
              refine va_calli (va_runV (C := "SignMachine$Machine") (As := []) (rest := []) ⟨hx, hb, hml, hown, hk⟩ (c_M_execute_s6 l K D cI cJ cZ cB m0 m1 m2 m3 m4 m5 m6 H.size Mx0_4 Mx0_5 Mx0_6 Mx0_7 Mx0_8 Mx0_9 Mx0_10 Mx0_11 Mx0_12 Mx0_13 My1 My2 Mx3_0 Mx4_0 My5 My6  ) (v_M_execute_s6 hk k_258 ⟨Nat.le_of_ble_eq_true rfl, Nat.le_of_ble_eq_true rfl⟩) (pMC_v hK hPc hDc hC hS hA (ci := 1) (q0 := 0) rfl rfl rfl) rfl rfl hl.1 rfl (lv_room (Nat.le_of_ble_eq_true rfl)) d_S_run_35 ⟨by decide, by decide⟩) hS (fun q _ h => hFc q h) hFc (fun rz5 u t H locs ht hvm hr0 hB hzq hkq hS => ?_)
              obtain ⟨Mx0_4z5, Mx0_5z5, Mx0_6z5, Mx0_7z5, Mx0_9z5, Mx0_10z5, Mx0_11z5, Mx0_12z5, Mx0_13z5, My1z5, My2z5, Mx3_0z5, Mx4_0z5, My5z5, My6z5, hP1, hD1⟩ := hB
              rw [ht] at hP1
              obtain ⟨hP, hD⟩ := va_join (wr := (wS54 cI cJ cZ cB p0 m0)) (w1 := (wS60 cI cJ cZ cB m0 m1 m2 m3 m4 m5 m6 Mx0_4z5 Mx0_5z5 Mx0_6z5 Mx0_7z5 Mx0_8 Mx0_9z5 Mx0_10z5 Mx0_11z5 Mx0_12z5 Mx0_13z5 My1z5 My2z5 Mx3_0z5 Mx4_0z5 My5z5 My6z5)) hP hD [1, 2, 3, 4, 5, 6, 7] [0] rfl rfl (by decide) (by decide) hkq hFc hP1 hD1
              have hP := hP.sub (ws' := ((wS54 cI cJ cZ cB p0 m0) ++ (wS60 cI cJ cZ cB m0 m1 m2 m3 m4 m5 m6 Mx0_4z5 Mx0_5z5 Mx0_6z5 Mx0_7z5 Mx0_8 Mx0_9z5 Mx0_10z5 Mx0_11z5 Mx0_12z5 Mx0_13z5 My1z5 My2z5 Mx3_0z5 Mx4_0z5 My5z5 My6z5))) [0, 1, 2, 3, 4, 5, 6, 7] rfl
              have hD := hD.sub (ws' := ((wS54 cI cJ cZ cB p0 m0) ++ (wS60 cI cJ cZ cB m0 m1 m2 m3 m4 m5 m6 Mx0_4z5 Mx0_5z5 Mx0_6z5 Mx0_7z5 Mx0_8 Mx0_9z5 Mx0_10z5 Mx0_11z5 Mx0_12z5 Mx0_13z5 My1z5 My2z5 Mx3_0z5 Mx4_0z5 My5z5 My6z5))) [0, 1, 2, 3, 4, 5, 6, 7] (by decide) rfl
              have hP : va_P D classes ((wS54 cI cJ cZ cB p0 m0) ++ (wS60 cI cJ cZ cB m0 m1 m2 m3 m4 m5 m6 Mx0_4z5 Mx0_5z5 Mx0_6z5 Mx0_7z5 Mx0_8 Mx0_9z5 Mx0_10z5 Mx0_11z5 Mx0_12z5 Mx0_13z5 My1z5 My2z5 Mx3_0z5 Mx4_0z5 My5z5 My6z5)) H := hP
              have hD : va_D A ((wS54 cI cJ cZ cB p0 m0) ++ (wS60 cI cJ cZ cB m0 m1 m2 m3 m4 m5 m6 Mx0_4z5 Mx0_5z5 Mx0_6z5 Mx0_7z5 Mx0_8 Mx0_9z5 Mx0_10z5 Mx0_11z5 Mx0_12z5 Mx0_13z5 My1z5 My2z5 Mx3_0z5 Mx4_0z5 My5z5 My6z5)) := hD
              clear hPc hDc hFc
              refine lv_istore_n (lv' := [(3, .int rz5), (4, .int l4), (2, .int l2), (0, .ref p0), (1, .int a1)]) hx hb d_S_run_38 rfl hl (by decide) rfl (fun ls hl => ?_)
              refine lv_iload_n hx hb d_S_run_39 rfl (lv_at hl 0 rfl) ?_
              refine lv_iconst (v := 1) hx hb d_S_run_40 (by decide) ?_
              refine lv_icmp_gt (tgt := 47) hx hb d_S_run_41 (by decide) (fun c6 => ?_) (fun c6 => ?_)
              · obtain ⟨v7, hv7⟩ : ∃ y : Int32, y = (l4 + (1 : Int32)) := ⟨_, rfl⟩
                refine lv_iinc (v := v7) (lv' := [(4, .int v7), (3, .int rz5), (2, .int l2), (0, .ref p0), (1, .int a1)]) hx hb d_S_run_47 hl (k := 1) rfl (by rw [hv7]; rfl) (by decide) rfl (fun ls hl => ?_)
                refine lv_goto (tgt := 21) hx hb d_S_run_50 (by decide) ?_
                exact ih v7 rz5 l2 Mx0_4z5 Mx0_5z5 Mx0_6z5 Mx0_7z5 Mx0_8 Mx0_9z5 Mx0_10z5 Mx0_11z5 Mx0_12z5 Mx0_13z5 My1z5 My2z5 Mx3_0z5 Mx4_0z5 My5z5 My6z5 H _ ls (lpu c3 hv7 hn21_x3) (lpn hc21_x3 c3 hv7) hP hD hS (lv_sub hl [0, 1, 2, 3, 4] rfl)
              · obtain ⟨v8, hv8⟩ : ∃ y : Int32, y = (l2 + (1 : Int32)) := ⟨_, rfl⟩
                refine lv_iinc (v := v8) (lv' := [(2, .int v8), (3, .int rz5), (4, .int l4), (0, .ref p0), (1, .int a1)]) hx hb d_S_run_44 hl (k := 2) rfl (by rw [hv8]; rfl) (by decide) rfl (fun ls hl => ?_)
                obtain ⟨v9, hv9⟩ : ∃ y : Int32, y = (l4 + (1 : Int32)) := ⟨_, rfl⟩
                refine lv_iinc (v := v9) (lv' := [(4, .int v9), (2, .int v8), (3, .int rz5), (0, .ref p0), (1, .int a1)]) hx hb d_S_run_47 hl (k := 2) rfl (by rw [hv9]; rfl) (by decide) rfl (fun ls hl => ?_)
                refine lv_goto (tgt := 21) hx hb d_S_run_50 (by decide) ?_
                exact ih v9 rz5 v8 Mx0_4z5 Mx0_5z5 Mx0_6z5 Mx0_7z5 Mx0_8 Mx0_9z5 Mx0_10z5 Mx0_11z5 Mx0_12z5 Mx0_13z5 My1z5 My2z5 Mx3_0z5 Mx4_0z5 My5z5 My6z5 H _ ls (lpu c3 hv9 hn21_x3) (lpn hc21_x3 c3 hv9) hP hD hS (lv_sub hl [0, 2, 1, 3, 4] rfl)
      exact LP21_x3 _ (0 : Int32) (0 : Int32) (0 : Int32) Mx0_4 Mx0_5 Mx0_6 Mx0_7 Mx0_8 Mx0_9 Mx0_10 Mx0_11 Mx0_12 Mx0_13 My1 My2 Mx3_0 Mx4_0 My5 My6 s.heap _ ls (Nat.lt_succ_self _) (by decide) hP hD hS hl
    · refine lv_iconst (v := (-1)) hx hb d_S_run_12 (by decide) ?_
      refine W.widen (k := 2) (n := 8000) (by decide) (by decide) ?_
      exact W.iret (v := (-1 : Int32)) hx hb hr (fun t ht hW => ⟨⟨(-1 : Int32), (0 : Int32), rfl, rfl, ⟨_, isC_3, (by show va_P D classes _ t.heap; rw [ht]; exact hP), hD⟩⟩, hS.F ht⟩) hS.2.2 d_S_run_13
theorem v_S_run_b14 {R : Room} {s : State} {args : Array Value} {own : String} {index : Nat} (hk : ∀ w ∈ tb, w.before args s = true) (hl : Cond.methodLink own index y_S_run ∈ tb) (hR : 7 + 1 ≤ R.frames ∧ 8 + (5 + 11) + 151 ≤ R.locals) : CallW R s args own "SignMachine" index y_S_run b_S_run 5 (some .int) (.code y_S_run b_S_run 5 (some .int) :: tb) ({ frames := 7, cells := 2, slots := 8000, locals := 151 }) 2 8000 1 := mk_v 1 hk k_474 hl k_472 k_473 k_116 rfl rfl h_S_run hR
set_option maxHeartbeats 4000000 in
set_option maxRecDepth 100000 in
theorem c_S_feed_b14 (l : Launch) (K : CK) (D : va_G) (cI cJ cZ cB : ClassId) (p0 m0 m1 m2 m3 m4 m5 m6 : Nat) (sz : Nat) (Mx0_4 : Bool) (Mx0_5 : Int32) (Mx0_6 : Int32) (Mx0_7 : Int32) (Mx0_8 : Int32) (Mx0_9 : Int32) (Mx0_10 : Int32) (Mx0_11 : Int32) (Mx0_12 : Int32) (Mx0_13 : Int32) (My1 : Nat → Int32) (My2 : Nat → Int32) (Mx3_0 : Int32) (Mx4_0 : Int32) (My5 : Nat → Int32) (My6 : Nat → Int32)  (a1 : Int32) (a2 : Int32) (a3 : Int32) (a4 : Int32) (a5 : Int32) (hL : 0 ≤ (0 : Int32).toInt ∧ (0 : Int32).toInt ≤ 4000) : Met l y_S_feed (.code y_S_feed b_S_feed 7 (some .int) :: tb) ({ frames := 4, cells := 16, slots := 9873, locals := 72 }) (pMC K D cI cJ cZ cB ((wS54 cI cJ cZ cB p0 m0) ++ (wS60 cI cJ cZ cB m0 m1 m2 m3 m4 m5 m6 Mx0_4 Mx0_5 Mx0_6 Mx0_7 Mx0_8 Mx0_9 Mx0_10 Mx0_11 Mx0_12 Mx0_13 My1 My2 Mx3_0 Mx4_0 My5 My6)) sz [.ref p0, .int a1, .int a2, .int a3, .int a4, .int a5]) (va_Qi (fun r (uL : Int32) => P_feed (0 : Int32) r uL) (fun uL t => ∃ W9 : va_W, isC K cI cJ cZ cB p0 uL W9 ∧ va_P D classes W9 t.heap ∧ va_D (va_A ((wS54 cI cJ cZ cB p0 m0) ++ (wS60 cI cJ cZ cB m0 m1 m2 m3 m4 m5 m6 Mx0_4 Mx0_5 Mx0_6 Mx0_7 Mx0_8 Mx0_9 Mx0_10 Mx0_11 Mx0_12 Mx0_13 My1 My2 Mx3_0 Mx4_0 My5 My6)) sz) W9) (va_A ((wS54 cI cJ cZ cB p0 m0) ++ (wS60 cI cJ cZ cB m0 m1 m2 m3 m4 m5 m6 Mx0_4 Mx0_5 Mx0_6 Mx0_7 Mx0_8 Mx0_9 Mx0_10 Mx0_11 Mx0_12 Mx0_13 My1 My2 Mx3_0 Mx4_0 My5 My6)) sz)) 16 9873 (va_A ((wS54 cI cJ cZ cB p0 m0) ++ (wS60 cI cJ cZ cB m0 m1 m2 m3 m4 m5 m6 Mx0_4 Mx0_5 Mx0_6 Mx0_7 Mx0_8 Mx0_9 Mx0_10 Mx0_11 Mx0_12 Mx0_13 My1 My2 Mx3_0 Mx4_0 My5 My6)) sz) := by
  refine Met.ofW (cc := b_S_feed) (maxL := 7) (ret := (some .int)) (by decide) rfl ?_
  intro p e s m args below meth c s₁ B hml hv
  obtain ⟨rfl, hsz, hK, hP, hD0, hC⟩ := hv
  subst hsz
  have hD := hD0.self (sz := s.heap.size)
  generalize hAe : va_A ((wS54 cI cJ cZ cB p0 m0) ++ (wS60 cI cJ cZ cB m0 m1 m2 m3 m4 m5 m6 Mx0_4 Mx0_5 Mx0_6 Mx0_7 Mx0_8 Mx0_9 Mx0_10 Mx0_11 Mx0_12 Mx0_13 My1 My2 Mx3_0 Mx4_0 My5 My6)) s.heap.size = A at hD hC ⊢
  have hA : ∀ q : Nat, s.heap.size ≤ q → A q := fun q h => by rw [← hAe]; exact Or.inr h
  clear hAe hD0
  have hS : va_S A s.heap s.heap [] := va_S.rf
  have hx := B.exec
  have hb := B.bytes
  have hr := B.returns
  have hts := atoms_spec (ws := .code y_S_feed b_S_feed 7 (some .int) :: tb) B.pre
  have hk : ∀ w ∈ tb, w.before [.ref p0, .int a1, .int a2, .int a3, .int a4, .int a5].toArray s = true := fun w h => hts w (List.mem_cons_of_mem _ h)
  have hown : s.vm.findClass "SignMachine" = some m.cls := findClass_of_methodNamed B.named
  have hlocks := B.notSynchronized
  have hl := lv_entry ([.ref p0, .int a1, .int a2, .int a3, .int a4, .int a5]) (n := 7) (Nat.le_of_ble_eq_true rfl)
  rw [lg_entry_eq]
  generalize (lg_sl ([.ref p0, .int a1, .int a2, .int a3, .int a4, .int a5]) ++ List.replicate (7 - (lg_sl ([.ref p0, .int a1, .int a2, .int a3, .int a4, .int a5])).length) Slot.unset).toArray = ls at hl ⊢
  have hl : lv_has ls 7 [(0, .ref p0), (1, .int a1), (2, .int a2), (3, .int a3), (4, .int a4), (5, .int a5)] := hl
  refine lv_aload_n hx hb d_S_feed_0 rfl (lv_at hl 0 rfl) ?_
  refine sn_q (va_runV (C := "SignMachine") (As := []) (rest := []) ⟨hx, hb, hml, hown, hk⟩ (c_S_assembler_b4 l K D cI cJ cZ cB p0 m0 m1 m2 m3 m4 m5 m6 s.heap.size Mx0_4 Mx0_5 Mx0_6 Mx0_7 Mx0_8 Mx0_9 Mx0_10 Mx0_11 Mx0_12 Mx0_13 My1 My2 Mx3_0 Mx4_0 My5 My6 ) (v_S_assembler_b4 hk k_518 ⟨Nat.le_of_ble_eq_true rfl, Nat.le_of_ble_eq_true rfl⟩) (pMC_v hK hP hD hC hS hA (ci := 0) (q0 := 0) rfl rfl rfl) rfl rfl hl.1 rfl (lv_room (Nat.le_of_ble_eq_true rfl)) d_S_feed_1 ⟨by decide, by decide⟩) hS hA hD (fun rz1 g0 t H locs hr0 ht hB hFr hS => ?_)
  obtain ⟨g1, g2, g3, g4, g5, g6, g7, g8, g9, g10, g11, g12, g13, g14, g15, Ax0_3z1, Ax0_4z1, Ax0_5z1, Ax0_6z1, Ax0_7z1, Ax0_8z1, Ax0_9z1, Ax0_10z1, Ax0_11z1, Ax0_12z1, Ax0_13z1, Ax0_14z1, Ax1_1z1, Ax1_2z1, Ax1_3z1, Ax1_4z1, Ax1_5z1, Ax1_6z1, Ax1_7z1, Ax1_8z1, Ay2z1, Ax3_5z1, Ax3_6z1, Ay4z1, Ay5z1, Ay6z1, Ay7z1, Ay8z1, Ax9_6z1, Ay10z1, Ay11z1, Ay12z1, Ay13z1, Ay14z1, Ay15z1, ex0z1, hP, hD⟩ := hB
  subst ex0z1
  rw [ht] at hP
  have hD := dwk hD hFr
  clear ht hFr
  have hP : va_P D classes ((wS55 cI cJ cZ cB p0 m0 g0) ++ (wS60 cI cJ cZ cB m0 m1 m2 m3 m4 m5 m6 Mx0_4 Mx0_5 Mx0_6 Mx0_7 Mx0_8 Mx0_9 Mx0_10 Mx0_11 Mx0_12 Mx0_13 My1 My2 Mx3_0 Mx4_0 My5 My6) ++ (wS52 K cI cJ cZ cB g0 g1 g2 g3 g4 g5 g6 g7 g8 g9 g10 g11 g12 g13 g14 g15 Ax0_3z1 Ax0_4z1 Ax0_5z1 Ax0_6z1 Ax0_7z1 Ax0_8z1 Ax0_9z1 Ax0_10z1 Ax0_11z1 Ax0_12z1 Ax0_13z1 Ax0_14z1 (0 : Int32) Ax1_2z1 Ax1_3z1 Ax1_4z1 Ax1_5z1 Ax1_6z1 Ax1_7z1 Ax1_8z1 Ay2z1 Ax3_5z1 Ax3_6z1 Ay4z1 Ay5z1 Ay6z1 Ay7z1 Ay8z1 Ax9_6z1 Ay10z1 Ay11z1 Ay12z1 Ay13z1 Ay14z1 Ay15z1)) H := hP
  have hD : va_D A ((wS55 cI cJ cZ cB p0 m0 g0) ++ (wS60 cI cJ cZ cB m0 m1 m2 m3 m4 m5 m6 Mx0_4 Mx0_5 Mx0_6 Mx0_7 Mx0_8 Mx0_9 Mx0_10 Mx0_11 Mx0_12 Mx0_13 My1 My2 Mx3_0 Mx4_0 My5 My6) ++ (wS52 K cI cJ cZ cB g0 g1 g2 g3 g4 g5 g6 g7 g8 g9 g10 g11 g12 g13 g14 g15 Ax0_3z1 Ax0_4z1 Ax0_5z1 Ax0_6z1 Ax0_7z1 Ax0_8z1 Ax0_9z1 Ax0_10z1 Ax0_11z1 Ax0_12z1 Ax0_13z1 Ax0_14z1 (0 : Int32) Ax1_2z1 Ax1_3z1 Ax1_4z1 Ax1_5z1 Ax1_6z1 Ax1_7z1 Ax1_8z1 Ay2z1 Ax3_5z1 Ax3_6z1 Ay4z1 Ay5z1 Ay6z1 Ay7z1 Ay8z1 Ax9_6z1 Ay10z1 Ay11z1 Ay12z1 Ay13z1 Ay14z1 Ay15z1)) := hD
  refine W.widen (k := 16) (n := 9873) (by decide) (by decide) ?_
  subst hr0
  refine W.eq (g2 := F0 m 4 ls [.ref g0]) rfl ?_
  refine va_getN (D := D) (ci := 3) (v := .ref g1) (C := "SignMachine$Assembler") (T := F_A) (N := 15) hx hb hk fi_A hown hK.1 hP 8 rfl rfl 0 (by decide) (va_Nw.use rfl (hK.2 _ n_632)) (fun _ h9 => h9) rfl d_S_feed_4 ?_
  refine lv_astore (lv' := [(6, .ref g1), (0, .ref p0), (1, .int a1), (2, .int a2), (3, .int a3), (4, .int a4), (5, .int a5)]) hx hb d_S_feed_7 hl (by decide) rfl (fun ls hl => ?_)
  refine lv_aload hx hb d_S_feed_9 (lv_at hl 0 rfl) ?_
  have hPc := hP.sub (ws' := (wS52 K cI cJ cZ cB g0 g1 g2 g3 g4 g5 g6 g7 g8 g9 g10 g11 g12 g13 g14 g15 Ax0_3z1 Ax0_4z1 Ax0_5z1 Ax0_6z1 Ax0_7z1 Ax0_8z1 Ax0_9z1 Ax0_10z1 Ax0_11z1 Ax0_12z1 Ax0_13z1 Ax0_14z1 (0 : Int32) Ax1_2z1 Ax1_3z1 Ax1_4z1 Ax1_5z1 Ax1_6z1 Ax1_7z1 Ax1_8z1 Ay2z1 Ax3_5z1 Ax3_6z1 Ay4z1 Ay5z1 Ay6z1 Ay7z1 Ay8z1 Ax9_6z1 Ay10z1 Ay11z1 Ay12z1 Ay13z1 Ay14z1 Ay15z1)) [8, 9, 10, 11, 12, 13, 14, 15, 16, 17, 18, 19, 20, 21, 22, 23] rfl
  have hDc := hD.sub (ws' := (wS52 K cI cJ cZ cB g0 g1 g2 g3 g4 g5 g6 g7 g8 g9 g10 g11 g12 g13 g14 g15 Ax0_3z1 Ax0_4z1 Ax0_5z1 Ax0_6z1 Ax0_7z1 Ax0_8z1 Ax0_9z1 Ax0_10z1 Ax0_11z1 Ax0_12z1 Ax0_13z1 Ax0_14z1 (0 : Int32) Ax1_2z1 Ax1_3z1 Ax1_4z1 Ax1_5z1 Ax1_6z1 Ax1_7z1 Ax1_8z1 Ay2z1 Ax3_5z1 Ax3_6z1 Ay4z1 Ay5z1 Ay6z1 Ay7z1 Ay8z1 Ax9_6z1 Ay10z1 Ay11z1 Ay12z1 Ay13z1 Ay14z1 Ay15z1)) [8, 9, 10, 11, 12, 13, 14, 15, 16, 17, 18, 19, 20, 21, 22, 23] (by decide) rfl
  have hFc := va_free (wc := (wS52 K cI cJ cZ cB g0 g1 g2 g3 g4 g5 g6 g7 g8 g9 g10 g11 g12 g13 g14 g15 Ax0_3z1 Ax0_4z1 Ax0_5z1 Ax0_6z1 Ax0_7z1 Ax0_8z1 Ax0_9z1 Ax0_10z1 Ax0_11z1 Ax0_12z1 Ax0_13z1 Ax0_14z1 (0 : Int32) Ax1_2z1 Ax1_3z1 Ax1_4z1 Ax1_5z1 Ax1_6z1 Ax1_7z1 Ax1_8z1 Ay2z1 Ax3_5z1 Ax3_6z1 Ay4z1 Ay5z1 Ay6z1 Ay7z1 Ay8z1 Ax9_6z1 Ay10z1 Ay11z1 Ay12z1 Ay13z1 Ay14z1 Ay15z1)) hD hS hA [8, 9, 10, 11, 12, 13, 14, 15, 16, 17, 18, 19, 20, 21, 22, 23] rfl
  refine va_calli (va_runV (C := "SignMachine$Source") (As := []) (rest := []) ⟨hx, hb, hml, hown, hk⟩ (c_R_hasRoom_s1 l K D cI cJ cZ cB g0 g1 g2 g3 g4 g5 g6 g7 g8 g9 g10 g11 g12 g13 g14 g15 H.size Ax0_3z1 Ax0_4z1 Ax0_5z1 Ax0_6z1 Ax0_7z1 Ax0_8z1 Ax0_9z1 Ax0_10z1 Ax0_11z1 Ax0_12z1 Ax0_13z1 Ax0_14z1 (0 : Int32) Ax1_2z1 Ax1_3z1 Ax1_4z1 Ax1_5z1 Ax1_6z1 Ax1_7z1 Ax1_8z1 Ay2z1 Ax3_5z1 Ax3_6z1 Ay4z1 Ay5z1 Ay6z1 Ay7z1 Ay8z1 Ax9_6z1 Ay10z1 Ay11z1 Ay12z1 Ay13z1 Ay14z1 Ay15z1  ) (v_R_hasRoom_s1 hk k_683 ⟨Nat.le_of_ble_eq_true rfl, Nat.le_of_ble_eq_true rfl⟩) (pMC_v hK hPc hDc hC hS hA (ci := 4) (q0 := 1) rfl rfl rfl) rfl rfl hl.1 rfl (lv_room (Nat.le_of_ble_eq_true rfl)) d_S_feed_11 ⟨by decide, by decide⟩) hS (fun q _ h => hFc q h) hFc (fun rz2 u t H locs ht hvm hr0 hB hzq hkq hS => ?_)
  have hrz2 := hr0
  obtain ⟨hP1, hD1⟩ := hB
  rw [ht] at hP1
  obtain ⟨hP, hD⟩ := va_join (wr := (wS55 cI cJ cZ cB p0 m0 g0) ++ (wS60 cI cJ cZ cB m0 m1 m2 m3 m4 m5 m6 Mx0_4 Mx0_5 Mx0_6 Mx0_7 Mx0_8 Mx0_9 Mx0_10 Mx0_11 Mx0_12 Mx0_13 My1 My2 Mx3_0 Mx4_0 My5 My6)) (w1 := (wS52 K cI cJ cZ cB g0 g1 g2 g3 g4 g5 g6 g7 g8 g9 g10 g11 g12 g13 g14 g15 Ax0_3z1 Ax0_4z1 Ax0_5z1 Ax0_6z1 Ax0_7z1 Ax0_8z1 Ax0_9z1 Ax0_10z1 Ax0_11z1 Ax0_12z1 Ax0_13z1 Ax0_14z1 (0 : Int32) Ax1_2z1 Ax1_3z1 Ax1_4z1 Ax1_5z1 Ax1_6z1 Ax1_7z1 Ax1_8z1 Ay2z1 Ax3_5z1 Ax3_6z1 Ay4z1 Ay5z1 Ay6z1 Ay7z1 Ay8z1 Ax9_6z1 Ay10z1 Ay11z1 Ay12z1 Ay13z1 Ay14z1 Ay15z1)) hP hD [8, 9, 10, 11, 12, 13, 14, 15, 16, 17, 18, 19, 20, 21, 22, 23] [0, 1, 2, 3, 4, 5, 6, 7] rfl rfl (by decide) (by decide) hkq hFc hP1 hD1
  have hP := hP.sub (ws' := ((wS55 cI cJ cZ cB p0 m0 g0) ++ (wS60 cI cJ cZ cB m0 m1 m2 m3 m4 m5 m6 Mx0_4 Mx0_5 Mx0_6 Mx0_7 Mx0_8 Mx0_9 Mx0_10 Mx0_11 Mx0_12 Mx0_13 My1 My2 Mx3_0 Mx4_0 My5 My6) ++ (wS52 K cI cJ cZ cB g0 g1 g2 g3 g4 g5 g6 g7 g8 g9 g10 g11 g12 g13 g14 g15 Ax0_3z1 Ax0_4z1 Ax0_5z1 Ax0_6z1 Ax0_7z1 Ax0_8z1 Ax0_9z1 Ax0_10z1 Ax0_11z1 Ax0_12z1 Ax0_13z1 Ax0_14z1 (0 : Int32) Ax1_2z1 Ax1_3z1 Ax1_4z1 Ax1_5z1 Ax1_6z1 Ax1_7z1 Ax1_8z1 Ay2z1 Ax3_5z1 Ax3_6z1 Ay4z1 Ay5z1 Ay6z1 Ay7z1 Ay8z1 Ax9_6z1 Ay10z1 Ay11z1 Ay12z1 Ay13z1 Ay14z1 Ay15z1))) [0, 1, 2, 3, 4, 5, 6, 7, 8, 9, 10, 11, 12, 13, 14, 15, 16, 17, 18, 19, 20, 21, 22, 23] rfl
  have hD := hD.sub (ws' := ((wS55 cI cJ cZ cB p0 m0 g0) ++ (wS60 cI cJ cZ cB m0 m1 m2 m3 m4 m5 m6 Mx0_4 Mx0_5 Mx0_6 Mx0_7 Mx0_8 Mx0_9 Mx0_10 Mx0_11 Mx0_12 Mx0_13 My1 My2 Mx3_0 Mx4_0 My5 My6) ++ (wS52 K cI cJ cZ cB g0 g1 g2 g3 g4 g5 g6 g7 g8 g9 g10 g11 g12 g13 g14 g15 Ax0_3z1 Ax0_4z1 Ax0_5z1 Ax0_6z1 Ax0_7z1 Ax0_8z1 Ax0_9z1 Ax0_10z1 Ax0_11z1 Ax0_12z1 Ax0_13z1 Ax0_14z1 (0 : Int32) Ax1_2z1 Ax1_3z1 Ax1_4z1 Ax1_5z1 Ax1_6z1 Ax1_7z1 Ax1_8z1 Ay2z1 Ax3_5z1 Ax3_6z1 Ay4z1 Ay5z1 Ay6z1 Ay7z1 Ay8z1 Ax9_6z1 Ay10z1 Ay11z1 Ay12z1 Ay13z1 Ay14z1 Ay15z1))) [0, 1, 2, 3, 4, 5, 6, 7, 8, 9, 10, 11, 12, 13, 14, 15, 16, 17, 18, 19, 20, 21, 22, 23] (by decide) rfl
  have hP : va_P D classes ((wS55 cI cJ cZ cB p0 m0 g0) ++ (wS60 cI cJ cZ cB m0 m1 m2 m3 m4 m5 m6 Mx0_4 Mx0_5 Mx0_6 Mx0_7 Mx0_8 Mx0_9 Mx0_10 Mx0_11 Mx0_12 Mx0_13 My1 My2 Mx3_0 Mx4_0 My5 My6) ++ (wS52 K cI cJ cZ cB g0 g1 g2 g3 g4 g5 g6 g7 g8 g9 g10 g11 g12 g13 g14 g15 Ax0_3z1 Ax0_4z1 Ax0_5z1 Ax0_6z1 Ax0_7z1 Ax0_8z1 Ax0_9z1 Ax0_10z1 Ax0_11z1 Ax0_12z1 Ax0_13z1 Ax0_14z1 (0 : Int32) Ax1_2z1 Ax1_3z1 Ax1_4z1 Ax1_5z1 Ax1_6z1 Ax1_7z1 Ax1_8z1 Ay2z1 Ax3_5z1 Ax3_6z1 Ay4z1 Ay5z1 Ay6z1 Ay7z1 Ay8z1 Ax9_6z1 Ay10z1 Ay11z1 Ay12z1 Ay13z1 Ay14z1 Ay15z1)) H := hP
  have hD : va_D A ((wS55 cI cJ cZ cB p0 m0 g0) ++ (wS60 cI cJ cZ cB m0 m1 m2 m3 m4 m5 m6 Mx0_4 Mx0_5 Mx0_6 Mx0_7 Mx0_8 Mx0_9 Mx0_10 Mx0_11 Mx0_12 Mx0_13 My1 My2 Mx3_0 Mx4_0 My5 My6) ++ (wS52 K cI cJ cZ cB g0 g1 g2 g3 g4 g5 g6 g7 g8 g9 g10 g11 g12 g13 g14 g15 Ax0_3z1 Ax0_4z1 Ax0_5z1 Ax0_6z1 Ax0_7z1 Ax0_8z1 Ax0_9z1 Ax0_10z1 Ax0_11z1 Ax0_12z1 Ax0_13z1 Ax0_14z1 (0 : Int32) Ax1_2z1 Ax1_3z1 Ax1_4z1 Ax1_5z1 Ax1_6z1 Ax1_7z1 Ax1_8z1 Ay2z1 Ax3_5z1 Ax3_6z1 Ay4z1 Ay5z1 Ay6z1 Ay7z1 Ay8z1 Ax9_6z1 Ay10z1 Ay11z1 Ay12z1 Ay13z1 Ay14z1 Ay15z1)) := hD
  clear hPc hDc hFc
  refine lv_if_ne (tgt := 19) hx hb d_S_feed_14 (by decide) (fun c3 => ?_) (fun c3 => ?_)
  · refine lv_aload hx hb d_S_feed_19 (lv_at hl 0 rfl) ?_
    refine lv_iload_n hx hb d_S_feed_21 rfl (lv_at hl 2 rfl) ?_
    have hPc := hP.sub (ws' := (wS52 K cI cJ cZ cB g0 g1 g2 g3 g4 g5 g6 g7 g8 g9 g10 g11 g12 g13 g14 g15 Ax0_3z1 Ax0_4z1 Ax0_5z1 Ax0_6z1 Ax0_7z1 Ax0_8z1 Ax0_9z1 Ax0_10z1 Ax0_11z1 Ax0_12z1 Ax0_13z1 Ax0_14z1 (0 : Int32) Ax1_2z1 Ax1_3z1 Ax1_4z1 Ax1_5z1 Ax1_6z1 Ax1_7z1 Ax1_8z1 Ay2z1 Ax3_5z1 Ax3_6z1 Ay4z1 Ay5z1 Ay6z1 Ay7z1 Ay8z1 Ax9_6z1 Ay10z1 Ay11z1 Ay12z1 Ay13z1 Ay14z1 Ay15z1)) [8, 9, 10, 11, 12, 13, 14, 15, 16, 17, 18, 19, 20, 21, 22, 23] rfl
    have hDc := hD.sub (ws' := (wS52 K cI cJ cZ cB g0 g1 g2 g3 g4 g5 g6 g7 g8 g9 g10 g11 g12 g13 g14 g15 Ax0_3z1 Ax0_4z1 Ax0_5z1 Ax0_6z1 Ax0_7z1 Ax0_8z1 Ax0_9z1 Ax0_10z1 Ax0_11z1 Ax0_12z1 Ax0_13z1 Ax0_14z1 (0 : Int32) Ax1_2z1 Ax1_3z1 Ax1_4z1 Ax1_5z1 Ax1_6z1 Ax1_7z1 Ax1_8z1 Ay2z1 Ax3_5z1 Ax3_6z1 Ay4z1 Ay5z1 Ay6z1 Ay7z1 Ay8z1 Ax9_6z1 Ay10z1 Ay11z1 Ay12z1 Ay13z1 Ay14z1 Ay15z1)) [8, 9, 10, 11, 12, 13, 14, 15, 16, 17, 18, 19, 20, 21, 22, 23] (by decide) rfl
    have hFc := va_free (wc := (wS52 K cI cJ cZ cB g0 g1 g2 g3 g4 g5 g6 g7 g8 g9 g10 g11 g12 g13 g14 g15 Ax0_3z1 Ax0_4z1 Ax0_5z1 Ax0_6z1 Ax0_7z1 Ax0_8z1 Ax0_9z1 Ax0_10z1 Ax0_11z1 Ax0_12z1 Ax0_13z1 Ax0_14z1 (0 : Int32) Ax1_2z1 Ax1_3z1 Ax1_4z1 Ax1_5z1 Ax1_6z1 Ax1_7z1 Ax1_8z1 Ay2z1 Ax3_5z1 Ax3_6z1 Ay4z1 Ay5z1 Ay6z1 Ay7z1 Ay8z1 Ax9_6z1 Ay10z1 Ay11z1 Ay12z1 Ay13z1 Ay14z1 Ay15z1)) hD hS hA [8, 9, 10, 11, 12, 13, 14, 15, 16, 17, 18, 19, 20, 21, 22, 23] rfl
    refine va_callv (va_runV (C := "SignMachine$Source") (As := [.int a1]) (rest := []) ⟨hx, hb, hml, hown, hk⟩ (c_R_append_s1 l K D cI cJ cZ cB g0 g1 g2 g3 g4 g5 g6 g7 g8 g9 g10 g11 g12 g13 g14 g15 H.size Ax0_3z1 Ax0_4z1 Ax0_5z1 Ax0_6z1 Ax0_7z1 Ax0_8z1 Ax0_9z1 Ax0_10z1 Ax0_11z1 Ax0_12z1 Ax0_13z1 Ax0_14z1 (0 : Int32) Ax1_2z1 Ax1_3z1 Ax1_4z1 Ax1_5z1 Ax1_6z1 Ax1_7z1 Ax1_8z1 Ay2z1 Ax3_5z1 Ax3_6z1 Ay4z1 Ay5z1 Ay6z1 Ay7z1 Ay8z1 Ax9_6z1 Ay10z1 Ay11z1 Ay12z1 Ay13z1 Ay14z1 Ay15z1 a1 (0 : Int32) ⟨rfl, by decide⟩) (v_R_append_s1 hk k_687 ⟨Nat.le_of_ble_eq_true rfl, Nat.le_of_ble_eq_true rfl⟩) (pMC_v hK hPc hDc hC hS hA (ci := 4) (q0 := 1) rfl rfl rfl) rfl rfl hl.1 rfl (lv_room (Nat.le_of_ble_eq_true rfl)) d_S_feed_22 ⟨by decide, by decide⟩) hS (fun q _ h => hFc q h) hFc (fun u t H locs ht hvm hr0 hB hzq hkq hS => ?_)
    obtain ⟨Ax1_1z4, Ay2z4, ex0z4, hP1, hD1⟩ := hB
    have ex0z4 : Ax1_1z4.toInt = (0 : Int) + 4 := ex0z4
    rw [ht] at hP1
    obtain ⟨hP, hD⟩ := va_join (wr := (wS55 cI cJ cZ cB p0 m0 g0) ++ (wS60 cI cJ cZ cB m0 m1 m2 m3 m4 m5 m6 Mx0_4 Mx0_5 Mx0_6 Mx0_7 Mx0_8 Mx0_9 Mx0_10 Mx0_11 Mx0_12 Mx0_13 My1 My2 Mx3_0 Mx4_0 My5 My6)) (w1 := (wS52 K cI cJ cZ cB g0 g1 g2 g3 g4 g5 g6 g7 g8 g9 g10 g11 g12 g13 g14 g15 Ax0_3z1 Ax0_4z1 Ax0_5z1 Ax0_6z1 Ax0_7z1 Ax0_8z1 Ax0_9z1 Ax0_10z1 Ax0_11z1 Ax0_12z1 Ax0_13z1 Ax0_14z1 Ax1_1z4 Ax1_2z1 Ax1_3z1 Ax1_4z1 Ax1_5z1 Ax1_6z1 Ax1_7z1 Ax1_8z1 Ay2z4 Ax3_5z1 Ax3_6z1 Ay4z1 Ay5z1 Ay6z1 Ay7z1 Ay8z1 Ax9_6z1 Ay10z1 Ay11z1 Ay12z1 Ay13z1 Ay14z1 Ay15z1)) hP hD [8, 9, 10, 11, 12, 13, 14, 15, 16, 17, 18, 19, 20, 21, 22, 23] [0, 1, 2, 3, 4, 5, 6, 7] rfl rfl (by decide) (by decide) hkq hFc hP1 hD1
    have hP := hP.sub (ws' := ((wS55 cI cJ cZ cB p0 m0 g0) ++ (wS60 cI cJ cZ cB m0 m1 m2 m3 m4 m5 m6 Mx0_4 Mx0_5 Mx0_6 Mx0_7 Mx0_8 Mx0_9 Mx0_10 Mx0_11 Mx0_12 Mx0_13 My1 My2 Mx3_0 Mx4_0 My5 My6) ++ (wS52 K cI cJ cZ cB g0 g1 g2 g3 g4 g5 g6 g7 g8 g9 g10 g11 g12 g13 g14 g15 Ax0_3z1 Ax0_4z1 Ax0_5z1 Ax0_6z1 Ax0_7z1 Ax0_8z1 Ax0_9z1 Ax0_10z1 Ax0_11z1 Ax0_12z1 Ax0_13z1 Ax0_14z1 Ax1_1z4 Ax1_2z1 Ax1_3z1 Ax1_4z1 Ax1_5z1 Ax1_6z1 Ax1_7z1 Ax1_8z1 Ay2z4 Ax3_5z1 Ax3_6z1 Ay4z1 Ay5z1 Ay6z1 Ay7z1 Ay8z1 Ax9_6z1 Ay10z1 Ay11z1 Ay12z1 Ay13z1 Ay14z1 Ay15z1))) [0, 1, 2, 3, 4, 5, 6, 7, 8, 9, 10, 11, 12, 13, 14, 15, 16, 17, 18, 19, 20, 21, 22, 23] rfl
    have hD := hD.sub (ws' := ((wS55 cI cJ cZ cB p0 m0 g0) ++ (wS60 cI cJ cZ cB m0 m1 m2 m3 m4 m5 m6 Mx0_4 Mx0_5 Mx0_6 Mx0_7 Mx0_8 Mx0_9 Mx0_10 Mx0_11 Mx0_12 Mx0_13 My1 My2 Mx3_0 Mx4_0 My5 My6) ++ (wS52 K cI cJ cZ cB g0 g1 g2 g3 g4 g5 g6 g7 g8 g9 g10 g11 g12 g13 g14 g15 Ax0_3z1 Ax0_4z1 Ax0_5z1 Ax0_6z1 Ax0_7z1 Ax0_8z1 Ax0_9z1 Ax0_10z1 Ax0_11z1 Ax0_12z1 Ax0_13z1 Ax0_14z1 Ax1_1z4 Ax1_2z1 Ax1_3z1 Ax1_4z1 Ax1_5z1 Ax1_6z1 Ax1_7z1 Ax1_8z1 Ay2z4 Ax3_5z1 Ax3_6z1 Ay4z1 Ay5z1 Ay6z1 Ay7z1 Ay8z1 Ax9_6z1 Ay10z1 Ay11z1 Ay12z1 Ay13z1 Ay14z1 Ay15z1))) [0, 1, 2, 3, 4, 5, 6, 7, 8, 9, 10, 11, 12, 13, 14, 15, 16, 17, 18, 19, 20, 21, 22, 23] (by decide) rfl
    have hP : va_P D classes ((wS55 cI cJ cZ cB p0 m0 g0) ++ (wS60 cI cJ cZ cB m0 m1 m2 m3 m4 m5 m6 Mx0_4 Mx0_5 Mx0_6 Mx0_7 Mx0_8 Mx0_9 Mx0_10 Mx0_11 Mx0_12 Mx0_13 My1 My2 Mx3_0 Mx4_0 My5 My6) ++ (wS52 K cI cJ cZ cB g0 g1 g2 g3 g4 g5 g6 g7 g8 g9 g10 g11 g12 g13 g14 g15 Ax0_3z1 Ax0_4z1 Ax0_5z1 Ax0_6z1 Ax0_7z1 Ax0_8z1 Ax0_9z1 Ax0_10z1 Ax0_11z1 Ax0_12z1 Ax0_13z1 Ax0_14z1 Ax1_1z4 Ax1_2z1 Ax1_3z1 Ax1_4z1 Ax1_5z1 Ax1_6z1 Ax1_7z1 Ax1_8z1 Ay2z4 Ax3_5z1 Ax3_6z1 Ay4z1 Ay5z1 Ay6z1 Ay7z1 Ay8z1 Ax9_6z1 Ay10z1 Ay11z1 Ay12z1 Ay13z1 Ay14z1 Ay15z1)) H := hP
    have hD : va_D A ((wS55 cI cJ cZ cB p0 m0 g0) ++ (wS60 cI cJ cZ cB m0 m1 m2 m3 m4 m5 m6 Mx0_4 Mx0_5 Mx0_6 Mx0_7 Mx0_8 Mx0_9 Mx0_10 Mx0_11 Mx0_12 Mx0_13 My1 My2 Mx3_0 Mx4_0 My5 My6) ++ (wS52 K cI cJ cZ cB g0 g1 g2 g3 g4 g5 g6 g7 g8 g9 g10 g11 g12 g13 g14 g15 Ax0_3z1 Ax0_4z1 Ax0_5z1 Ax0_6z1 Ax0_7z1 Ax0_8z1 Ax0_9z1 Ax0_10z1 Ax0_11z1 Ax0_12z1 Ax0_13z1 Ax0_14z1 Ax1_1z4 Ax1_2z1 Ax1_3z1 Ax1_4z1 Ax1_5z1 Ax1_6z1 Ax1_7z1 Ax1_8z1 Ay2z4 Ax3_5z1 Ax3_6z1 Ay4z1 Ay5z1 Ay6z1 Ay7z1 Ay8z1 Ax9_6z1 Ay10z1 Ay11z1 Ay12z1 Ay13z1 Ay14z1 Ay15z1)) := hD
    clear hPc hDc hFc
    refine lv_aload hx hb d_S_feed_25 (lv_at hl 0 rfl) ?_
    refine lv_iload_n hx hb d_S_feed_27 rfl (lv_at hl 3 rfl) ?_
    have hPc := hP.sub (ws' := (wS52 K cI cJ cZ cB g0 g1 g2 g3 g4 g5 g6 g7 g8 g9 g10 g11 g12 g13 g14 g15 Ax0_3z1 Ax0_4z1 Ax0_5z1 Ax0_6z1 Ax0_7z1 Ax0_8z1 Ax0_9z1 Ax0_10z1 Ax0_11z1 Ax0_12z1 Ax0_13z1 Ax0_14z1 Ax1_1z4 Ax1_2z1 Ax1_3z1 Ax1_4z1 Ax1_5z1 Ax1_6z1 Ax1_7z1 Ax1_8z1 Ay2z4 Ax3_5z1 Ax3_6z1 Ay4z1 Ay5z1 Ay6z1 Ay7z1 Ay8z1 Ax9_6z1 Ay10z1 Ay11z1 Ay12z1 Ay13z1 Ay14z1 Ay15z1)) [8, 9, 10, 11, 12, 13, 14, 15, 16, 17, 18, 19, 20, 21, 22, 23] rfl
    have hDc := hD.sub (ws' := (wS52 K cI cJ cZ cB g0 g1 g2 g3 g4 g5 g6 g7 g8 g9 g10 g11 g12 g13 g14 g15 Ax0_3z1 Ax0_4z1 Ax0_5z1 Ax0_6z1 Ax0_7z1 Ax0_8z1 Ax0_9z1 Ax0_10z1 Ax0_11z1 Ax0_12z1 Ax0_13z1 Ax0_14z1 Ax1_1z4 Ax1_2z1 Ax1_3z1 Ax1_4z1 Ax1_5z1 Ax1_6z1 Ax1_7z1 Ax1_8z1 Ay2z4 Ax3_5z1 Ax3_6z1 Ay4z1 Ay5z1 Ay6z1 Ay7z1 Ay8z1 Ax9_6z1 Ay10z1 Ay11z1 Ay12z1 Ay13z1 Ay14z1 Ay15z1)) [8, 9, 10, 11, 12, 13, 14, 15, 16, 17, 18, 19, 20, 21, 22, 23] (by decide) rfl
    have hFc := va_free (wc := (wS52 K cI cJ cZ cB g0 g1 g2 g3 g4 g5 g6 g7 g8 g9 g10 g11 g12 g13 g14 g15 Ax0_3z1 Ax0_4z1 Ax0_5z1 Ax0_6z1 Ax0_7z1 Ax0_8z1 Ax0_9z1 Ax0_10z1 Ax0_11z1 Ax0_12z1 Ax0_13z1 Ax0_14z1 Ax1_1z4 Ax1_2z1 Ax1_3z1 Ax1_4z1 Ax1_5z1 Ax1_6z1 Ax1_7z1 Ax1_8z1 Ay2z4 Ax3_5z1 Ax3_6z1 Ay4z1 Ay5z1 Ay6z1 Ay7z1 Ay8z1 Ax9_6z1 Ay10z1 Ay11z1 Ay12z1 Ay13z1 Ay14z1 Ay15z1)) hD hS hA [8, 9, 10, 11, 12, 13, 14, 15, 16, 17, 18, 19, 20, 21, 22, 23] rfl
    refine va_callv (va_runV (C := "SignMachine$Source") (As := [.int a2]) (rest := []) ⟨hx, hb, hml, hown, hk⟩ (c_R_append_s1 l K D cI cJ cZ cB g0 g1 g2 g3 g4 g5 g6 g7 g8 g9 g10 g11 g12 g13 g14 g15 H.size Ax0_3z1 Ax0_4z1 Ax0_5z1 Ax0_6z1 Ax0_7z1 Ax0_8z1 Ax0_9z1 Ax0_10z1 Ax0_11z1 Ax0_12z1 Ax0_13z1 Ax0_14z1 Ax1_1z4 Ax1_2z1 Ax1_3z1 Ax1_4z1 Ax1_5z1 Ax1_6z1 Ax1_7z1 Ax1_8z1 Ay2z4 Ax3_5z1 Ax3_6z1 Ay4z1 Ay5z1 Ay6z1 Ay7z1 Ay8z1 Ax9_6z1 Ay10z1 Ay11z1 Ay12z1 Ay13z1 Ay14z1 Ay15z1 a2 Ax1_1z4 ⟨rfl, by omega⟩) (v_R_append_s1 hk k_687 ⟨Nat.le_of_ble_eq_true rfl, Nat.le_of_ble_eq_true rfl⟩) (pMC_v hK hPc hDc hC hS hA (ci := 4) (q0 := 1) rfl rfl rfl) rfl rfl hl.1 rfl (lv_room (Nat.le_of_ble_eq_true rfl)) d_S_feed_28 ⟨by decide, by decide⟩) hS (fun q _ h => hFc q h) hFc (fun u t H locs ht hvm hr0 hB hzq hkq hS => ?_)
    obtain ⟨Ax1_1z5, Ay2z5, ex0z5, hP1, hD1⟩ := hB
    have ex0z5 : Ax1_1z5.toInt = Ax1_1z4.toInt + 4 := ex0z5
    rw [ht] at hP1
    obtain ⟨hP, hD⟩ := va_join (wr := (wS55 cI cJ cZ cB p0 m0 g0) ++ (wS60 cI cJ cZ cB m0 m1 m2 m3 m4 m5 m6 Mx0_4 Mx0_5 Mx0_6 Mx0_7 Mx0_8 Mx0_9 Mx0_10 Mx0_11 Mx0_12 Mx0_13 My1 My2 Mx3_0 Mx4_0 My5 My6)) (w1 := (wS52 K cI cJ cZ cB g0 g1 g2 g3 g4 g5 g6 g7 g8 g9 g10 g11 g12 g13 g14 g15 Ax0_3z1 Ax0_4z1 Ax0_5z1 Ax0_6z1 Ax0_7z1 Ax0_8z1 Ax0_9z1 Ax0_10z1 Ax0_11z1 Ax0_12z1 Ax0_13z1 Ax0_14z1 Ax1_1z5 Ax1_2z1 Ax1_3z1 Ax1_4z1 Ax1_5z1 Ax1_6z1 Ax1_7z1 Ax1_8z1 Ay2z5 Ax3_5z1 Ax3_6z1 Ay4z1 Ay5z1 Ay6z1 Ay7z1 Ay8z1 Ax9_6z1 Ay10z1 Ay11z1 Ay12z1 Ay13z1 Ay14z1 Ay15z1)) hP hD [8, 9, 10, 11, 12, 13, 14, 15, 16, 17, 18, 19, 20, 21, 22, 23] [0, 1, 2, 3, 4, 5, 6, 7] rfl rfl (by decide) (by decide) hkq hFc hP1 hD1
    have hP := hP.sub (ws' := ((wS55 cI cJ cZ cB p0 m0 g0) ++ (wS60 cI cJ cZ cB m0 m1 m2 m3 m4 m5 m6 Mx0_4 Mx0_5 Mx0_6 Mx0_7 Mx0_8 Mx0_9 Mx0_10 Mx0_11 Mx0_12 Mx0_13 My1 My2 Mx3_0 Mx4_0 My5 My6) ++ (wS52 K cI cJ cZ cB g0 g1 g2 g3 g4 g5 g6 g7 g8 g9 g10 g11 g12 g13 g14 g15 Ax0_3z1 Ax0_4z1 Ax0_5z1 Ax0_6z1 Ax0_7z1 Ax0_8z1 Ax0_9z1 Ax0_10z1 Ax0_11z1 Ax0_12z1 Ax0_13z1 Ax0_14z1 Ax1_1z5 Ax1_2z1 Ax1_3z1 Ax1_4z1 Ax1_5z1 Ax1_6z1 Ax1_7z1 Ax1_8z1 Ay2z5 Ax3_5z1 Ax3_6z1 Ay4z1 Ay5z1 Ay6z1 Ay7z1 Ay8z1 Ax9_6z1 Ay10z1 Ay11z1 Ay12z1 Ay13z1 Ay14z1 Ay15z1))) [0, 1, 2, 3, 4, 5, 6, 7, 8, 9, 10, 11, 12, 13, 14, 15, 16, 17, 18, 19, 20, 21, 22, 23] rfl
    have hD := hD.sub (ws' := ((wS55 cI cJ cZ cB p0 m0 g0) ++ (wS60 cI cJ cZ cB m0 m1 m2 m3 m4 m5 m6 Mx0_4 Mx0_5 Mx0_6 Mx0_7 Mx0_8 Mx0_9 Mx0_10 Mx0_11 Mx0_12 Mx0_13 My1 My2 Mx3_0 Mx4_0 My5 My6) ++ (wS52 K cI cJ cZ cB g0 g1 g2 g3 g4 g5 g6 g7 g8 g9 g10 g11 g12 g13 g14 g15 Ax0_3z1 Ax0_4z1 Ax0_5z1 Ax0_6z1 Ax0_7z1 Ax0_8z1 Ax0_9z1 Ax0_10z1 Ax0_11z1 Ax0_12z1 Ax0_13z1 Ax0_14z1 Ax1_1z5 Ax1_2z1 Ax1_3z1 Ax1_4z1 Ax1_5z1 Ax1_6z1 Ax1_7z1 Ax1_8z1 Ay2z5 Ax3_5z1 Ax3_6z1 Ay4z1 Ay5z1 Ay6z1 Ay7z1 Ay8z1 Ax9_6z1 Ay10z1 Ay11z1 Ay12z1 Ay13z1 Ay14z1 Ay15z1))) [0, 1, 2, 3, 4, 5, 6, 7, 8, 9, 10, 11, 12, 13, 14, 15, 16, 17, 18, 19, 20, 21, 22, 23] (by decide) rfl
    have hP : va_P D classes ((wS55 cI cJ cZ cB p0 m0 g0) ++ (wS60 cI cJ cZ cB m0 m1 m2 m3 m4 m5 m6 Mx0_4 Mx0_5 Mx0_6 Mx0_7 Mx0_8 Mx0_9 Mx0_10 Mx0_11 Mx0_12 Mx0_13 My1 My2 Mx3_0 Mx4_0 My5 My6) ++ (wS52 K cI cJ cZ cB g0 g1 g2 g3 g4 g5 g6 g7 g8 g9 g10 g11 g12 g13 g14 g15 Ax0_3z1 Ax0_4z1 Ax0_5z1 Ax0_6z1 Ax0_7z1 Ax0_8z1 Ax0_9z1 Ax0_10z1 Ax0_11z1 Ax0_12z1 Ax0_13z1 Ax0_14z1 Ax1_1z5 Ax1_2z1 Ax1_3z1 Ax1_4z1 Ax1_5z1 Ax1_6z1 Ax1_7z1 Ax1_8z1 Ay2z5 Ax3_5z1 Ax3_6z1 Ay4z1 Ay5z1 Ay6z1 Ay7z1 Ay8z1 Ax9_6z1 Ay10z1 Ay11z1 Ay12z1 Ay13z1 Ay14z1 Ay15z1)) H := hP
    have hD : va_D A ((wS55 cI cJ cZ cB p0 m0 g0) ++ (wS60 cI cJ cZ cB m0 m1 m2 m3 m4 m5 m6 Mx0_4 Mx0_5 Mx0_6 Mx0_7 Mx0_8 Mx0_9 Mx0_10 Mx0_11 Mx0_12 Mx0_13 My1 My2 Mx3_0 Mx4_0 My5 My6) ++ (wS52 K cI cJ cZ cB g0 g1 g2 g3 g4 g5 g6 g7 g8 g9 g10 g11 g12 g13 g14 g15 Ax0_3z1 Ax0_4z1 Ax0_5z1 Ax0_6z1 Ax0_7z1 Ax0_8z1 Ax0_9z1 Ax0_10z1 Ax0_11z1 Ax0_12z1 Ax0_13z1 Ax0_14z1 Ax1_1z5 Ax1_2z1 Ax1_3z1 Ax1_4z1 Ax1_5z1 Ax1_6z1 Ax1_7z1 Ax1_8z1 Ay2z5 Ax3_5z1 Ax3_6z1 Ay4z1 Ay5z1 Ay6z1 Ay7z1 Ay8z1 Ax9_6z1 Ay10z1 Ay11z1 Ay12z1 Ay13z1 Ay14z1 Ay15z1)) := hD
    clear hPc hDc hFc
    refine lv_aload hx hb d_S_feed_31 (lv_at hl 0 rfl) ?_
    refine lv_iload_n hx hb d_S_feed_33 rfl (lv_at hl 4 rfl) ?_
    have hPc := hP.sub (ws' := (wS52 K cI cJ cZ cB g0 g1 g2 g3 g4 g5 g6 g7 g8 g9 g10 g11 g12 g13 g14 g15 Ax0_3z1 Ax0_4z1 Ax0_5z1 Ax0_6z1 Ax0_7z1 Ax0_8z1 Ax0_9z1 Ax0_10z1 Ax0_11z1 Ax0_12z1 Ax0_13z1 Ax0_14z1 Ax1_1z5 Ax1_2z1 Ax1_3z1 Ax1_4z1 Ax1_5z1 Ax1_6z1 Ax1_7z1 Ax1_8z1 Ay2z5 Ax3_5z1 Ax3_6z1 Ay4z1 Ay5z1 Ay6z1 Ay7z1 Ay8z1 Ax9_6z1 Ay10z1 Ay11z1 Ay12z1 Ay13z1 Ay14z1 Ay15z1)) [8, 9, 10, 11, 12, 13, 14, 15, 16, 17, 18, 19, 20, 21, 22, 23] rfl
    have hDc := hD.sub (ws' := (wS52 K cI cJ cZ cB g0 g1 g2 g3 g4 g5 g6 g7 g8 g9 g10 g11 g12 g13 g14 g15 Ax0_3z1 Ax0_4z1 Ax0_5z1 Ax0_6z1 Ax0_7z1 Ax0_8z1 Ax0_9z1 Ax0_10z1 Ax0_11z1 Ax0_12z1 Ax0_13z1 Ax0_14z1 Ax1_1z5 Ax1_2z1 Ax1_3z1 Ax1_4z1 Ax1_5z1 Ax1_6z1 Ax1_7z1 Ax1_8z1 Ay2z5 Ax3_5z1 Ax3_6z1 Ay4z1 Ay5z1 Ay6z1 Ay7z1 Ay8z1 Ax9_6z1 Ay10z1 Ay11z1 Ay12z1 Ay13z1 Ay14z1 Ay15z1)) [8, 9, 10, 11, 12, 13, 14, 15, 16, 17, 18, 19, 20, 21, 22, 23] (by decide) rfl
    have hFc := va_free (wc := (wS52 K cI cJ cZ cB g0 g1 g2 g3 g4 g5 g6 g7 g8 g9 g10 g11 g12 g13 g14 g15 Ax0_3z1 Ax0_4z1 Ax0_5z1 Ax0_6z1 Ax0_7z1 Ax0_8z1 Ax0_9z1 Ax0_10z1 Ax0_11z1 Ax0_12z1 Ax0_13z1 Ax0_14z1 Ax1_1z5 Ax1_2z1 Ax1_3z1 Ax1_4z1 Ax1_5z1 Ax1_6z1 Ax1_7z1 Ax1_8z1 Ay2z5 Ax3_5z1 Ax3_6z1 Ay4z1 Ay5z1 Ay6z1 Ay7z1 Ay8z1 Ax9_6z1 Ay10z1 Ay11z1 Ay12z1 Ay13z1 Ay14z1 Ay15z1)) hD hS hA [8, 9, 10, 11, 12, 13, 14, 15, 16, 17, 18, 19, 20, 21, 22, 23] rfl
    refine va_callv (va_runV (C := "SignMachine$Source") (As := [.int a3]) (rest := []) ⟨hx, hb, hml, hown, hk⟩ (c_R_append_s1 l K D cI cJ cZ cB g0 g1 g2 g3 g4 g5 g6 g7 g8 g9 g10 g11 g12 g13 g14 g15 H.size Ax0_3z1 Ax0_4z1 Ax0_5z1 Ax0_6z1 Ax0_7z1 Ax0_8z1 Ax0_9z1 Ax0_10z1 Ax0_11z1 Ax0_12z1 Ax0_13z1 Ax0_14z1 Ax1_1z5 Ax1_2z1 Ax1_3z1 Ax1_4z1 Ax1_5z1 Ax1_6z1 Ax1_7z1 Ax1_8z1 Ay2z5 Ax3_5z1 Ax3_6z1 Ay4z1 Ay5z1 Ay6z1 Ay7z1 Ay8z1 Ax9_6z1 Ay10z1 Ay11z1 Ay12z1 Ay13z1 Ay14z1 Ay15z1 a3 Ax1_1z5 ⟨rfl, by omega⟩) (v_R_append_s1 hk k_687 ⟨Nat.le_of_ble_eq_true rfl, Nat.le_of_ble_eq_true rfl⟩) (pMC_v hK hPc hDc hC hS hA (ci := 4) (q0 := 1) rfl rfl rfl) rfl rfl hl.1 rfl (lv_room (Nat.le_of_ble_eq_true rfl)) d_S_feed_34 ⟨by decide, by decide⟩) hS (fun q _ h => hFc q h) hFc (fun u t H locs ht hvm hr0 hB hzq hkq hS => ?_)
    obtain ⟨Ax1_1z6, Ay2z6, ex0z6, hP1, hD1⟩ := hB
    have ex0z6 : Ax1_1z6.toInt = Ax1_1z5.toInt + 4 := ex0z6
    rw [ht] at hP1
    obtain ⟨hP, hD⟩ := va_join (wr := (wS55 cI cJ cZ cB p0 m0 g0) ++ (wS60 cI cJ cZ cB m0 m1 m2 m3 m4 m5 m6 Mx0_4 Mx0_5 Mx0_6 Mx0_7 Mx0_8 Mx0_9 Mx0_10 Mx0_11 Mx0_12 Mx0_13 My1 My2 Mx3_0 Mx4_0 My5 My6)) (w1 := (wS52 K cI cJ cZ cB g0 g1 g2 g3 g4 g5 g6 g7 g8 g9 g10 g11 g12 g13 g14 g15 Ax0_3z1 Ax0_4z1 Ax0_5z1 Ax0_6z1 Ax0_7z1 Ax0_8z1 Ax0_9z1 Ax0_10z1 Ax0_11z1 Ax0_12z1 Ax0_13z1 Ax0_14z1 Ax1_1z6 Ax1_2z1 Ax1_3z1 Ax1_4z1 Ax1_5z1 Ax1_6z1 Ax1_7z1 Ax1_8z1 Ay2z6 Ax3_5z1 Ax3_6z1 Ay4z1 Ay5z1 Ay6z1 Ay7z1 Ay8z1 Ax9_6z1 Ay10z1 Ay11z1 Ay12z1 Ay13z1 Ay14z1 Ay15z1)) hP hD [8, 9, 10, 11, 12, 13, 14, 15, 16, 17, 18, 19, 20, 21, 22, 23] [0, 1, 2, 3, 4, 5, 6, 7] rfl rfl (by decide) (by decide) hkq hFc hP1 hD1
    have hP := hP.sub (ws' := ((wS55 cI cJ cZ cB p0 m0 g0) ++ (wS60 cI cJ cZ cB m0 m1 m2 m3 m4 m5 m6 Mx0_4 Mx0_5 Mx0_6 Mx0_7 Mx0_8 Mx0_9 Mx0_10 Mx0_11 Mx0_12 Mx0_13 My1 My2 Mx3_0 Mx4_0 My5 My6) ++ (wS52 K cI cJ cZ cB g0 g1 g2 g3 g4 g5 g6 g7 g8 g9 g10 g11 g12 g13 g14 g15 Ax0_3z1 Ax0_4z1 Ax0_5z1 Ax0_6z1 Ax0_7z1 Ax0_8z1 Ax0_9z1 Ax0_10z1 Ax0_11z1 Ax0_12z1 Ax0_13z1 Ax0_14z1 Ax1_1z6 Ax1_2z1 Ax1_3z1 Ax1_4z1 Ax1_5z1 Ax1_6z1 Ax1_7z1 Ax1_8z1 Ay2z6 Ax3_5z1 Ax3_6z1 Ay4z1 Ay5z1 Ay6z1 Ay7z1 Ay8z1 Ax9_6z1 Ay10z1 Ay11z1 Ay12z1 Ay13z1 Ay14z1 Ay15z1))) [0, 1, 2, 3, 4, 5, 6, 7, 8, 9, 10, 11, 12, 13, 14, 15, 16, 17, 18, 19, 20, 21, 22, 23] rfl
    have hD := hD.sub (ws' := ((wS55 cI cJ cZ cB p0 m0 g0) ++ (wS60 cI cJ cZ cB m0 m1 m2 m3 m4 m5 m6 Mx0_4 Mx0_5 Mx0_6 Mx0_7 Mx0_8 Mx0_9 Mx0_10 Mx0_11 Mx0_12 Mx0_13 My1 My2 Mx3_0 Mx4_0 My5 My6) ++ (wS52 K cI cJ cZ cB g0 g1 g2 g3 g4 g5 g6 g7 g8 g9 g10 g11 g12 g13 g14 g15 Ax0_3z1 Ax0_4z1 Ax0_5z1 Ax0_6z1 Ax0_7z1 Ax0_8z1 Ax0_9z1 Ax0_10z1 Ax0_11z1 Ax0_12z1 Ax0_13z1 Ax0_14z1 Ax1_1z6 Ax1_2z1 Ax1_3z1 Ax1_4z1 Ax1_5z1 Ax1_6z1 Ax1_7z1 Ax1_8z1 Ay2z6 Ax3_5z1 Ax3_6z1 Ay4z1 Ay5z1 Ay6z1 Ay7z1 Ay8z1 Ax9_6z1 Ay10z1 Ay11z1 Ay12z1 Ay13z1 Ay14z1 Ay15z1))) [0, 1, 2, 3, 4, 5, 6, 7, 8, 9, 10, 11, 12, 13, 14, 15, 16, 17, 18, 19, 20, 21, 22, 23] (by decide) rfl
    have hP : va_P D classes ((wS55 cI cJ cZ cB p0 m0 g0) ++ (wS60 cI cJ cZ cB m0 m1 m2 m3 m4 m5 m6 Mx0_4 Mx0_5 Mx0_6 Mx0_7 Mx0_8 Mx0_9 Mx0_10 Mx0_11 Mx0_12 Mx0_13 My1 My2 Mx3_0 Mx4_0 My5 My6) ++ (wS52 K cI cJ cZ cB g0 g1 g2 g3 g4 g5 g6 g7 g8 g9 g10 g11 g12 g13 g14 g15 Ax0_3z1 Ax0_4z1 Ax0_5z1 Ax0_6z1 Ax0_7z1 Ax0_8z1 Ax0_9z1 Ax0_10z1 Ax0_11z1 Ax0_12z1 Ax0_13z1 Ax0_14z1 Ax1_1z6 Ax1_2z1 Ax1_3z1 Ax1_4z1 Ax1_5z1 Ax1_6z1 Ax1_7z1 Ax1_8z1 Ay2z6 Ax3_5z1 Ax3_6z1 Ay4z1 Ay5z1 Ay6z1 Ay7z1 Ay8z1 Ax9_6z1 Ay10z1 Ay11z1 Ay12z1 Ay13z1 Ay14z1 Ay15z1)) H := hP
    have hD : va_D A ((wS55 cI cJ cZ cB p0 m0 g0) ++ (wS60 cI cJ cZ cB m0 m1 m2 m3 m4 m5 m6 Mx0_4 Mx0_5 Mx0_6 Mx0_7 Mx0_8 Mx0_9 Mx0_10 Mx0_11 Mx0_12 Mx0_13 My1 My2 Mx3_0 Mx4_0 My5 My6) ++ (wS52 K cI cJ cZ cB g0 g1 g2 g3 g4 g5 g6 g7 g8 g9 g10 g11 g12 g13 g14 g15 Ax0_3z1 Ax0_4z1 Ax0_5z1 Ax0_6z1 Ax0_7z1 Ax0_8z1 Ax0_9z1 Ax0_10z1 Ax0_11z1 Ax0_12z1 Ax0_13z1 Ax0_14z1 Ax1_1z6 Ax1_2z1 Ax1_3z1 Ax1_4z1 Ax1_5z1 Ax1_6z1 Ax1_7z1 Ax1_8z1 Ay2z6 Ax3_5z1 Ax3_6z1 Ay4z1 Ay5z1 Ay6z1 Ay7z1 Ay8z1 Ax9_6z1 Ay10z1 Ay11z1 Ay12z1 Ay13z1 Ay14z1 Ay15z1)) := hD
    clear hPc hDc hFc
    refine lv_aload hx hb d_S_feed_37 (lv_at hl 0 rfl) ?_
    refine lv_iload hx hb d_S_feed_39 (lv_at hl 5 rfl) ?_
    have hPc := hP.sub (ws' := (wS52 K cI cJ cZ cB g0 g1 g2 g3 g4 g5 g6 g7 g8 g9 g10 g11 g12 g13 g14 g15 Ax0_3z1 Ax0_4z1 Ax0_5z1 Ax0_6z1 Ax0_7z1 Ax0_8z1 Ax0_9z1 Ax0_10z1 Ax0_11z1 Ax0_12z1 Ax0_13z1 Ax0_14z1 Ax1_1z6 Ax1_2z1 Ax1_3z1 Ax1_4z1 Ax1_5z1 Ax1_6z1 Ax1_7z1 Ax1_8z1 Ay2z6 Ax3_5z1 Ax3_6z1 Ay4z1 Ay5z1 Ay6z1 Ay7z1 Ay8z1 Ax9_6z1 Ay10z1 Ay11z1 Ay12z1 Ay13z1 Ay14z1 Ay15z1)) [8, 9, 10, 11, 12, 13, 14, 15, 16, 17, 18, 19, 20, 21, 22, 23] rfl
    have hDc := hD.sub (ws' := (wS52 K cI cJ cZ cB g0 g1 g2 g3 g4 g5 g6 g7 g8 g9 g10 g11 g12 g13 g14 g15 Ax0_3z1 Ax0_4z1 Ax0_5z1 Ax0_6z1 Ax0_7z1 Ax0_8z1 Ax0_9z1 Ax0_10z1 Ax0_11z1 Ax0_12z1 Ax0_13z1 Ax0_14z1 Ax1_1z6 Ax1_2z1 Ax1_3z1 Ax1_4z1 Ax1_5z1 Ax1_6z1 Ax1_7z1 Ax1_8z1 Ay2z6 Ax3_5z1 Ax3_6z1 Ay4z1 Ay5z1 Ay6z1 Ay7z1 Ay8z1 Ax9_6z1 Ay10z1 Ay11z1 Ay12z1 Ay13z1 Ay14z1 Ay15z1)) [8, 9, 10, 11, 12, 13, 14, 15, 16, 17, 18, 19, 20, 21, 22, 23] (by decide) rfl
    have hFc := va_free (wc := (wS52 K cI cJ cZ cB g0 g1 g2 g3 g4 g5 g6 g7 g8 g9 g10 g11 g12 g13 g14 g15 Ax0_3z1 Ax0_4z1 Ax0_5z1 Ax0_6z1 Ax0_7z1 Ax0_8z1 Ax0_9z1 Ax0_10z1 Ax0_11z1 Ax0_12z1 Ax0_13z1 Ax0_14z1 Ax1_1z6 Ax1_2z1 Ax1_3z1 Ax1_4z1 Ax1_5z1 Ax1_6z1 Ax1_7z1 Ax1_8z1 Ay2z6 Ax3_5z1 Ax3_6z1 Ay4z1 Ay5z1 Ay6z1 Ay7z1 Ay8z1 Ax9_6z1 Ay10z1 Ay11z1 Ay12z1 Ay13z1 Ay14z1 Ay15z1)) hD hS hA [8, 9, 10, 11, 12, 13, 14, 15, 16, 17, 18, 19, 20, 21, 22, 23] rfl
    refine va_callv (va_runV (C := "SignMachine$Source") (As := [.int a4]) (rest := []) ⟨hx, hb, hml, hown, hk⟩ (c_R_append_s1 l K D cI cJ cZ cB g0 g1 g2 g3 g4 g5 g6 g7 g8 g9 g10 g11 g12 g13 g14 g15 H.size Ax0_3z1 Ax0_4z1 Ax0_5z1 Ax0_6z1 Ax0_7z1 Ax0_8z1 Ax0_9z1 Ax0_10z1 Ax0_11z1 Ax0_12z1 Ax0_13z1 Ax0_14z1 Ax1_1z6 Ax1_2z1 Ax1_3z1 Ax1_4z1 Ax1_5z1 Ax1_6z1 Ax1_7z1 Ax1_8z1 Ay2z6 Ax3_5z1 Ax3_6z1 Ay4z1 Ay5z1 Ay6z1 Ay7z1 Ay8z1 Ax9_6z1 Ay10z1 Ay11z1 Ay12z1 Ay13z1 Ay14z1 Ay15z1 a4 Ax1_1z6 ⟨rfl, by omega⟩) (v_R_append_s1 hk k_687 ⟨Nat.le_of_ble_eq_true rfl, Nat.le_of_ble_eq_true rfl⟩) (pMC_v hK hPc hDc hC hS hA (ci := 4) (q0 := 1) rfl rfl rfl) rfl rfl hl.1 rfl (lv_room (Nat.le_of_ble_eq_true rfl)) d_S_feed_41 ⟨by decide, by decide⟩) hS (fun q _ h => hFc q h) hFc (fun u t H locs ht hvm hr0 hB hzq hkq hS => ?_)
    obtain ⟨Ax1_1z7, Ay2z7, ex0z7, hP1, hD1⟩ := hB
    have ex0z7 : Ax1_1z7.toInt = Ax1_1z6.toInt + 4 := ex0z7
    rw [ht] at hP1
    obtain ⟨hP, hD⟩ := va_join (wr := (wS55 cI cJ cZ cB p0 m0 g0) ++ (wS60 cI cJ cZ cB m0 m1 m2 m3 m4 m5 m6 Mx0_4 Mx0_5 Mx0_6 Mx0_7 Mx0_8 Mx0_9 Mx0_10 Mx0_11 Mx0_12 Mx0_13 My1 My2 Mx3_0 Mx4_0 My5 My6)) (w1 := (wS52 K cI cJ cZ cB g0 g1 g2 g3 g4 g5 g6 g7 g8 g9 g10 g11 g12 g13 g14 g15 Ax0_3z1 Ax0_4z1 Ax0_5z1 Ax0_6z1 Ax0_7z1 Ax0_8z1 Ax0_9z1 Ax0_10z1 Ax0_11z1 Ax0_12z1 Ax0_13z1 Ax0_14z1 Ax1_1z7 Ax1_2z1 Ax1_3z1 Ax1_4z1 Ax1_5z1 Ax1_6z1 Ax1_7z1 Ax1_8z1 Ay2z7 Ax3_5z1 Ax3_6z1 Ay4z1 Ay5z1 Ay6z1 Ay7z1 Ay8z1 Ax9_6z1 Ay10z1 Ay11z1 Ay12z1 Ay13z1 Ay14z1 Ay15z1)) hP hD [8, 9, 10, 11, 12, 13, 14, 15, 16, 17, 18, 19, 20, 21, 22, 23] [0, 1, 2, 3, 4, 5, 6, 7] rfl rfl (by decide) (by decide) hkq hFc hP1 hD1
    have hP := hP.sub (ws' := ((wS55 cI cJ cZ cB p0 m0 g0) ++ (wS60 cI cJ cZ cB m0 m1 m2 m3 m4 m5 m6 Mx0_4 Mx0_5 Mx0_6 Mx0_7 Mx0_8 Mx0_9 Mx0_10 Mx0_11 Mx0_12 Mx0_13 My1 My2 Mx3_0 Mx4_0 My5 My6) ++ (wS52 K cI cJ cZ cB g0 g1 g2 g3 g4 g5 g6 g7 g8 g9 g10 g11 g12 g13 g14 g15 Ax0_3z1 Ax0_4z1 Ax0_5z1 Ax0_6z1 Ax0_7z1 Ax0_8z1 Ax0_9z1 Ax0_10z1 Ax0_11z1 Ax0_12z1 Ax0_13z1 Ax0_14z1 Ax1_1z7 Ax1_2z1 Ax1_3z1 Ax1_4z1 Ax1_5z1 Ax1_6z1 Ax1_7z1 Ax1_8z1 Ay2z7 Ax3_5z1 Ax3_6z1 Ay4z1 Ay5z1 Ay6z1 Ay7z1 Ay8z1 Ax9_6z1 Ay10z1 Ay11z1 Ay12z1 Ay13z1 Ay14z1 Ay15z1))) [0, 1, 2, 3, 4, 5, 6, 7, 8, 9, 10, 11, 12, 13, 14, 15, 16, 17, 18, 19, 20, 21, 22, 23] rfl
    have hD := hD.sub (ws' := ((wS55 cI cJ cZ cB p0 m0 g0) ++ (wS60 cI cJ cZ cB m0 m1 m2 m3 m4 m5 m6 Mx0_4 Mx0_5 Mx0_6 Mx0_7 Mx0_8 Mx0_9 Mx0_10 Mx0_11 Mx0_12 Mx0_13 My1 My2 Mx3_0 Mx4_0 My5 My6) ++ (wS52 K cI cJ cZ cB g0 g1 g2 g3 g4 g5 g6 g7 g8 g9 g10 g11 g12 g13 g14 g15 Ax0_3z1 Ax0_4z1 Ax0_5z1 Ax0_6z1 Ax0_7z1 Ax0_8z1 Ax0_9z1 Ax0_10z1 Ax0_11z1 Ax0_12z1 Ax0_13z1 Ax0_14z1 Ax1_1z7 Ax1_2z1 Ax1_3z1 Ax1_4z1 Ax1_5z1 Ax1_6z1 Ax1_7z1 Ax1_8z1 Ay2z7 Ax3_5z1 Ax3_6z1 Ay4z1 Ay5z1 Ay6z1 Ay7z1 Ay8z1 Ax9_6z1 Ay10z1 Ay11z1 Ay12z1 Ay13z1 Ay14z1 Ay15z1))) [0, 1, 2, 3, 4, 5, 6, 7, 8, 9, 10, 11, 12, 13, 14, 15, 16, 17, 18, 19, 20, 21, 22, 23] (by decide) rfl
    have hP : va_P D classes ((wS55 cI cJ cZ cB p0 m0 g0) ++ (wS60 cI cJ cZ cB m0 m1 m2 m3 m4 m5 m6 Mx0_4 Mx0_5 Mx0_6 Mx0_7 Mx0_8 Mx0_9 Mx0_10 Mx0_11 Mx0_12 Mx0_13 My1 My2 Mx3_0 Mx4_0 My5 My6) ++ (wS52 K cI cJ cZ cB g0 g1 g2 g3 g4 g5 g6 g7 g8 g9 g10 g11 g12 g13 g14 g15 Ax0_3z1 Ax0_4z1 Ax0_5z1 Ax0_6z1 Ax0_7z1 Ax0_8z1 Ax0_9z1 Ax0_10z1 Ax0_11z1 Ax0_12z1 Ax0_13z1 Ax0_14z1 Ax1_1z7 Ax1_2z1 Ax1_3z1 Ax1_4z1 Ax1_5z1 Ax1_6z1 Ax1_7z1 Ax1_8z1 Ay2z7 Ax3_5z1 Ax3_6z1 Ay4z1 Ay5z1 Ay6z1 Ay7z1 Ay8z1 Ax9_6z1 Ay10z1 Ay11z1 Ay12z1 Ay13z1 Ay14z1 Ay15z1)) H := hP
    have hD : va_D A ((wS55 cI cJ cZ cB p0 m0 g0) ++ (wS60 cI cJ cZ cB m0 m1 m2 m3 m4 m5 m6 Mx0_4 Mx0_5 Mx0_6 Mx0_7 Mx0_8 Mx0_9 Mx0_10 Mx0_11 Mx0_12 Mx0_13 My1 My2 Mx3_0 Mx4_0 My5 My6) ++ (wS52 K cI cJ cZ cB g0 g1 g2 g3 g4 g5 g6 g7 g8 g9 g10 g11 g12 g13 g14 g15 Ax0_3z1 Ax0_4z1 Ax0_5z1 Ax0_6z1 Ax0_7z1 Ax0_8z1 Ax0_9z1 Ax0_10z1 Ax0_11z1 Ax0_12z1 Ax0_13z1 Ax0_14z1 Ax1_1z7 Ax1_2z1 Ax1_3z1 Ax1_4z1 Ax1_5z1 Ax1_6z1 Ax1_7z1 Ax1_8z1 Ay2z7 Ax3_5z1 Ax3_6z1 Ay4z1 Ay5z1 Ay6z1 Ay7z1 Ay8z1 Ax9_6z1 Ay10z1 Ay11z1 Ay12z1 Ay13z1 Ay14z1 Ay15z1)) := hD
    clear hPc hDc hFc
    refine lv_aload hx hb d_S_feed_44 (lv_at hl 0 rfl) ?_
    refine lv_iload hx hb d_S_feed_46 (lv_at hl 6 rfl) ?_
    have hPc := hP.sub (ws' := (wS52 K cI cJ cZ cB g0 g1 g2 g3 g4 g5 g6 g7 g8 g9 g10 g11 g12 g13 g14 g15 Ax0_3z1 Ax0_4z1 Ax0_5z1 Ax0_6z1 Ax0_7z1 Ax0_8z1 Ax0_9z1 Ax0_10z1 Ax0_11z1 Ax0_12z1 Ax0_13z1 Ax0_14z1 Ax1_1z7 Ax1_2z1 Ax1_3z1 Ax1_4z1 Ax1_5z1 Ax1_6z1 Ax1_7z1 Ax1_8z1 Ay2z7 Ax3_5z1 Ax3_6z1 Ay4z1 Ay5z1 Ay6z1 Ay7z1 Ay8z1 Ax9_6z1 Ay10z1 Ay11z1 Ay12z1 Ay13z1 Ay14z1 Ay15z1)) [8, 9, 10, 11, 12, 13, 14, 15, 16, 17, 18, 19, 20, 21, 22, 23] rfl
    have hDc := hD.sub (ws' := (wS52 K cI cJ cZ cB g0 g1 g2 g3 g4 g5 g6 g7 g8 g9 g10 g11 g12 g13 g14 g15 Ax0_3z1 Ax0_4z1 Ax0_5z1 Ax0_6z1 Ax0_7z1 Ax0_8z1 Ax0_9z1 Ax0_10z1 Ax0_11z1 Ax0_12z1 Ax0_13z1 Ax0_14z1 Ax1_1z7 Ax1_2z1 Ax1_3z1 Ax1_4z1 Ax1_5z1 Ax1_6z1 Ax1_7z1 Ax1_8z1 Ay2z7 Ax3_5z1 Ax3_6z1 Ay4z1 Ay5z1 Ay6z1 Ay7z1 Ay8z1 Ax9_6z1 Ay10z1 Ay11z1 Ay12z1 Ay13z1 Ay14z1 Ay15z1)) [8, 9, 10, 11, 12, 13, 14, 15, 16, 17, 18, 19, 20, 21, 22, 23] (by decide) rfl
    have hFc := va_free (wc := (wS52 K cI cJ cZ cB g0 g1 g2 g3 g4 g5 g6 g7 g8 g9 g10 g11 g12 g13 g14 g15 Ax0_3z1 Ax0_4z1 Ax0_5z1 Ax0_6z1 Ax0_7z1 Ax0_8z1 Ax0_9z1 Ax0_10z1 Ax0_11z1 Ax0_12z1 Ax0_13z1 Ax0_14z1 Ax1_1z7 Ax1_2z1 Ax1_3z1 Ax1_4z1 Ax1_5z1 Ax1_6z1 Ax1_7z1 Ax1_8z1 Ay2z7 Ax3_5z1 Ax3_6z1 Ay4z1 Ay5z1 Ay6z1 Ay7z1 Ay8z1 Ax9_6z1 Ay10z1 Ay11z1 Ay12z1 Ay13z1 Ay14z1 Ay15z1)) hD hS hA [8, 9, 10, 11, 12, 13, 14, 15, 16, 17, 18, 19, 20, 21, 22, 23] rfl
    refine va_callv (va_runV (C := "SignMachine$Source") (As := [.int a5]) (rest := []) ⟨hx, hb, hml, hown, hk⟩ (c_R_append_s1 l K D cI cJ cZ cB g0 g1 g2 g3 g4 g5 g6 g7 g8 g9 g10 g11 g12 g13 g14 g15 H.size Ax0_3z1 Ax0_4z1 Ax0_5z1 Ax0_6z1 Ax0_7z1 Ax0_8z1 Ax0_9z1 Ax0_10z1 Ax0_11z1 Ax0_12z1 Ax0_13z1 Ax0_14z1 Ax1_1z7 Ax1_2z1 Ax1_3z1 Ax1_4z1 Ax1_5z1 Ax1_6z1 Ax1_7z1 Ax1_8z1 Ay2z7 Ax3_5z1 Ax3_6z1 Ay4z1 Ay5z1 Ay6z1 Ay7z1 Ay8z1 Ax9_6z1 Ay10z1 Ay11z1 Ay12z1 Ay13z1 Ay14z1 Ay15z1 a5 Ax1_1z7 ⟨rfl, by omega⟩) (v_R_append_s1 hk k_687 ⟨Nat.le_of_ble_eq_true rfl, Nat.le_of_ble_eq_true rfl⟩) (pMC_v hK hPc hDc hC hS hA (ci := 4) (q0 := 1) rfl rfl rfl) rfl rfl hl.1 rfl (lv_room (Nat.le_of_ble_eq_true rfl)) d_S_feed_48 ⟨by decide, by decide⟩) hS (fun q _ h => hFc q h) hFc (fun u t H locs ht hvm hr0 hB hzq hkq hS => ?_)
    obtain ⟨Ax1_1z8, Ay2z8, ex0z8, hP1, hD1⟩ := hB
    have ex0z8 : Ax1_1z8.toInt = Ax1_1z7.toInt + 4 := ex0z8
    rw [ht] at hP1
    obtain ⟨hP, hD⟩ := va_join (wr := (wS55 cI cJ cZ cB p0 m0 g0) ++ (wS60 cI cJ cZ cB m0 m1 m2 m3 m4 m5 m6 Mx0_4 Mx0_5 Mx0_6 Mx0_7 Mx0_8 Mx0_9 Mx0_10 Mx0_11 Mx0_12 Mx0_13 My1 My2 Mx3_0 Mx4_0 My5 My6)) (w1 := (wS52 K cI cJ cZ cB g0 g1 g2 g3 g4 g5 g6 g7 g8 g9 g10 g11 g12 g13 g14 g15 Ax0_3z1 Ax0_4z1 Ax0_5z1 Ax0_6z1 Ax0_7z1 Ax0_8z1 Ax0_9z1 Ax0_10z1 Ax0_11z1 Ax0_12z1 Ax0_13z1 Ax0_14z1 Ax1_1z8 Ax1_2z1 Ax1_3z1 Ax1_4z1 Ax1_5z1 Ax1_6z1 Ax1_7z1 Ax1_8z1 Ay2z8 Ax3_5z1 Ax3_6z1 Ay4z1 Ay5z1 Ay6z1 Ay7z1 Ay8z1 Ax9_6z1 Ay10z1 Ay11z1 Ay12z1 Ay13z1 Ay14z1 Ay15z1)) hP hD [8, 9, 10, 11, 12, 13, 14, 15, 16, 17, 18, 19, 20, 21, 22, 23] [0, 1, 2, 3, 4, 5, 6, 7] rfl rfl (by decide) (by decide) hkq hFc hP1 hD1
    have hP := hP.sub (ws' := ((wS55 cI cJ cZ cB p0 m0 g0) ++ (wS60 cI cJ cZ cB m0 m1 m2 m3 m4 m5 m6 Mx0_4 Mx0_5 Mx0_6 Mx0_7 Mx0_8 Mx0_9 Mx0_10 Mx0_11 Mx0_12 Mx0_13 My1 My2 Mx3_0 Mx4_0 My5 My6) ++ (wS52 K cI cJ cZ cB g0 g1 g2 g3 g4 g5 g6 g7 g8 g9 g10 g11 g12 g13 g14 g15 Ax0_3z1 Ax0_4z1 Ax0_5z1 Ax0_6z1 Ax0_7z1 Ax0_8z1 Ax0_9z1 Ax0_10z1 Ax0_11z1 Ax0_12z1 Ax0_13z1 Ax0_14z1 Ax1_1z8 Ax1_2z1 Ax1_3z1 Ax1_4z1 Ax1_5z1 Ax1_6z1 Ax1_7z1 Ax1_8z1 Ay2z8 Ax3_5z1 Ax3_6z1 Ay4z1 Ay5z1 Ay6z1 Ay7z1 Ay8z1 Ax9_6z1 Ay10z1 Ay11z1 Ay12z1 Ay13z1 Ay14z1 Ay15z1))) [0, 1, 2, 3, 4, 5, 6, 7, 8, 9, 10, 11, 12, 13, 14, 15, 16, 17, 18, 19, 20, 21, 22, 23] rfl
    have hD := hD.sub (ws' := ((wS55 cI cJ cZ cB p0 m0 g0) ++ (wS60 cI cJ cZ cB m0 m1 m2 m3 m4 m5 m6 Mx0_4 Mx0_5 Mx0_6 Mx0_7 Mx0_8 Mx0_9 Mx0_10 Mx0_11 Mx0_12 Mx0_13 My1 My2 Mx3_0 Mx4_0 My5 My6) ++ (wS52 K cI cJ cZ cB g0 g1 g2 g3 g4 g5 g6 g7 g8 g9 g10 g11 g12 g13 g14 g15 Ax0_3z1 Ax0_4z1 Ax0_5z1 Ax0_6z1 Ax0_7z1 Ax0_8z1 Ax0_9z1 Ax0_10z1 Ax0_11z1 Ax0_12z1 Ax0_13z1 Ax0_14z1 Ax1_1z8 Ax1_2z1 Ax1_3z1 Ax1_4z1 Ax1_5z1 Ax1_6z1 Ax1_7z1 Ax1_8z1 Ay2z8 Ax3_5z1 Ax3_6z1 Ay4z1 Ay5z1 Ay6z1 Ay7z1 Ay8z1 Ax9_6z1 Ay10z1 Ay11z1 Ay12z1 Ay13z1 Ay14z1 Ay15z1))) [0, 1, 2, 3, 4, 5, 6, 7, 8, 9, 10, 11, 12, 13, 14, 15, 16, 17, 18, 19, 20, 21, 22, 23] (by decide) rfl
    have hP : va_P D classes ((wS55 cI cJ cZ cB p0 m0 g0) ++ (wS60 cI cJ cZ cB m0 m1 m2 m3 m4 m5 m6 Mx0_4 Mx0_5 Mx0_6 Mx0_7 Mx0_8 Mx0_9 Mx0_10 Mx0_11 Mx0_12 Mx0_13 My1 My2 Mx3_0 Mx4_0 My5 My6) ++ (wS52 K cI cJ cZ cB g0 g1 g2 g3 g4 g5 g6 g7 g8 g9 g10 g11 g12 g13 g14 g15 Ax0_3z1 Ax0_4z1 Ax0_5z1 Ax0_6z1 Ax0_7z1 Ax0_8z1 Ax0_9z1 Ax0_10z1 Ax0_11z1 Ax0_12z1 Ax0_13z1 Ax0_14z1 Ax1_1z8 Ax1_2z1 Ax1_3z1 Ax1_4z1 Ax1_5z1 Ax1_6z1 Ax1_7z1 Ax1_8z1 Ay2z8 Ax3_5z1 Ax3_6z1 Ay4z1 Ay5z1 Ay6z1 Ay7z1 Ay8z1 Ax9_6z1 Ay10z1 Ay11z1 Ay12z1 Ay13z1 Ay14z1 Ay15z1)) H := hP
    have hD : va_D A ((wS55 cI cJ cZ cB p0 m0 g0) ++ (wS60 cI cJ cZ cB m0 m1 m2 m3 m4 m5 m6 Mx0_4 Mx0_5 Mx0_6 Mx0_7 Mx0_8 Mx0_9 Mx0_10 Mx0_11 Mx0_12 Mx0_13 My1 My2 Mx3_0 Mx4_0 My5 My6) ++ (wS52 K cI cJ cZ cB g0 g1 g2 g3 g4 g5 g6 g7 g8 g9 g10 g11 g12 g13 g14 g15 Ax0_3z1 Ax0_4z1 Ax0_5z1 Ax0_6z1 Ax0_7z1 Ax0_8z1 Ax0_9z1 Ax0_10z1 Ax0_11z1 Ax0_12z1 Ax0_13z1 Ax0_14z1 Ax1_1z8 Ax1_2z1 Ax1_3z1 Ax1_4z1 Ax1_5z1 Ax1_6z1 Ax1_7z1 Ax1_8z1 Ay2z8 Ax3_5z1 Ax3_6z1 Ay4z1 Ay5z1 Ay6z1 Ay7z1 Ay8z1 Ax9_6z1 Ay10z1 Ay11z1 Ay12z1 Ay13z1 Ay14z1 Ay15z1)) := hD
    clear hPc hDc hFc
    refine lv_aload hx hb d_S_feed_51 (lv_at hl 0 rfl) ?_
    refine va_getN (D := D) (ci := 4) (v := .int Ax1_1z8) (C := "SignMachine$Source") (T := F_R) (N := 9) hx hb hk fi_R hown hK.1 hP 9 rfl rfl 1 (by decide) (va_Nw.use rfl (hK.2 _ n_537)) (fun _ h9 => h9) rfl d_S_feed_53 ?_
    exact W.iret (v := Ax1_1z8) hx hb hr (fun t ht hW => ⟨⟨Ax1_1z8, Ax1_1z8, rfl, (fA (hr_i hL hrz2 c3) (show Ax1_1z8.toInt = (0 : Int) + 20 from by omega)), ⟨_, isC_8, (by show va_P D classes _ t.heap; rw [ht]; exact hP), hD⟩⟩, hS.F ht⟩) hS.2.2 d_S_feed_56
  · refine lv_iconst (v := (-1)) hx hb d_S_feed_17 (by decide) ?_
    exact W.iret (v := (-1 : Int32)) hx hb hr (fun t ht hW => ⟨⟨(-1 : Int32), (0 : Int32), rfl, (fB (hr0_i hL hrz2 c3)), ⟨_, isC_8, (by show va_P D classes _ t.heap; rw [ht]; exact hP), hD⟩⟩, hS.F ht⟩) hS.2.2 d_S_feed_18
theorem v_S_feed_b14 {R : Room} {s : State} {args : Array Value} {own : String} {index : Nat} (hk : ∀ w ∈ tb, w.before args s = true) (hl : Cond.methodLink own index y_S_feed ∈ tb) (hR : 4 + 1 ≤ R.frames ∧ 8 + (7 + 11) + 72 ≤ R.locals) : CallW R s args own "SignMachine" index y_S_feed b_S_feed 7 (some .int) (.code y_S_feed b_S_feed 7 (some .int) :: tb) ({ frames := 4, cells := 16, slots := 9873, locals := 72 }) 16 9873 5 := mk_v 5 hk k_517 hl k_515 k_516 k_116 rfl rfl h_S_feed hR

set_option maxHeartbeats 4000000 in
set_option maxRecDepth 100000 in
theorem c_S_end_b14 (l : Launch) (K : CK) (D : va_G) (cI cJ cZ cB : ClassId) (p0 m0 m1 m2 m3 m4 m5 m6 : Nat) (sz : Nat) (Mx0_4 : Bool) (Mx0_5 : Int32) (Mx0_6 : Int32) (Mx0_7 : Int32) (Mx0_8 : Int32) (Mx0_9 : Int32) (Mx0_10 : Int32) (Mx0_11 : Int32) (Mx0_12 : Int32) (Mx0_13 : Int32) (My1 : Nat → Int32) (My2 : Nat → Int32) (Mx3_0 : Int32) (Mx4_0 : Int32) (My5 : Nat → Int32) (My6 : Nat → Int32)  (a1 : Int32) (hL : 0 ≤ (0 : Int32).toInt ∧ (0 : Int32).toInt ≤ 4000) : Met l y_S_end (.code y_S_end b_S_end 3 (some .int) :: tb) ({ frames := 4, cells := 16, slots := 9873, locals := 72 }) (pMC K D cI cJ cZ cB ((wS54 cI cJ cZ cB p0 m0) ++ (wS60 cI cJ cZ cB m0 m1 m2 m3 m4 m5 m6 Mx0_4 Mx0_5 Mx0_6 Mx0_7 Mx0_8 Mx0_9 Mx0_10 Mx0_11 Mx0_12 Mx0_13 My1 My2 Mx3_0 Mx4_0 My5 My6)) sz [.ref p0, .int a1]) (va_Qi (fun r (uL : Int32) => P_end (0 : Int32) a1 r uL) (fun uL t => ∃ W9 : va_W, isC K cI cJ cZ cB p0 uL W9 ∧ va_P D classes W9 t.heap ∧ va_D (va_A ((wS54 cI cJ cZ cB p0 m0) ++ (wS60 cI cJ cZ cB m0 m1 m2 m3 m4 m5 m6 Mx0_4 Mx0_5 Mx0_6 Mx0_7 Mx0_8 Mx0_9 Mx0_10 Mx0_11 Mx0_12 Mx0_13 My1 My2 Mx3_0 Mx4_0 My5 My6)) sz) W9) (va_A ((wS54 cI cJ cZ cB p0 m0) ++ (wS60 cI cJ cZ cB m0 m1 m2 m3 m4 m5 m6 Mx0_4 Mx0_5 Mx0_6 Mx0_7 Mx0_8 Mx0_9 Mx0_10 Mx0_11 Mx0_12 Mx0_13 My1 My2 Mx3_0 Mx4_0 My5 My6)) sz)) 16 9873 (va_A ((wS54 cI cJ cZ cB p0 m0) ++ (wS60 cI cJ cZ cB m0 m1 m2 m3 m4 m5 m6 Mx0_4 Mx0_5 Mx0_6 Mx0_7 Mx0_8 Mx0_9 Mx0_10 Mx0_11 Mx0_12 Mx0_13 My1 My2 Mx3_0 Mx4_0 My5 My6)) sz) := by
  refine Met.ofW (cc := b_S_end) (maxL := 3) (ret := (some .int)) (by decide) rfl ?_
  intro p e s m args below meth c s₁ B hml hv
  obtain ⟨rfl, hsz, hK, hP, hD0, hC⟩ := hv
  subst hsz
  have hD := hD0.self (sz := s.heap.size)
  generalize hAe : va_A ((wS54 cI cJ cZ cB p0 m0) ++ (wS60 cI cJ cZ cB m0 m1 m2 m3 m4 m5 m6 Mx0_4 Mx0_5 Mx0_6 Mx0_7 Mx0_8 Mx0_9 Mx0_10 Mx0_11 Mx0_12 Mx0_13 My1 My2 Mx3_0 Mx4_0 My5 My6)) s.heap.size = A at hD hC ⊢
  have hA : ∀ q : Nat, s.heap.size ≤ q → A q := fun q h => by rw [← hAe]; exact Or.inr h
  clear hAe hD0
  have hS : va_S A s.heap s.heap [] := va_S.rf
  have hx := B.exec
  have hb := B.bytes
  have hr := B.returns
  have hts := atoms_spec (ws := .code y_S_end b_S_end 3 (some .int) :: tb) B.pre
  have hk : ∀ w ∈ tb, w.before [.ref p0, .int a1].toArray s = true := fun w h => hts w (List.mem_cons_of_mem _ h)
  have hown : s.vm.findClass "SignMachine" = some m.cls := findClass_of_methodNamed B.named
  have hlocks := B.notSynchronized
  have hl := lv_entry ([.ref p0, .int a1]) (n := 3) (Nat.le_of_ble_eq_true rfl)
  rw [lg_entry_eq]
  generalize (lg_sl ([.ref p0, .int a1]) ++ List.replicate (3 - (lg_sl ([.ref p0, .int a1])).length) Slot.unset).toArray = ls at hl ⊢
  have hl : lv_has ls 3 [(0, .ref p0), (1, .int a1)] := hl
  refine lv_aload_n hx hb d_S_end_0 rfl (lv_at hl 0 rfl) ?_
  refine sn_q (va_runV (C := "SignMachine") (As := []) (rest := []) ⟨hx, hb, hml, hown, hk⟩ (c_S_assembler_b4 l K D cI cJ cZ cB p0 m0 m1 m2 m3 m4 m5 m6 s.heap.size Mx0_4 Mx0_5 Mx0_6 Mx0_7 Mx0_8 Mx0_9 Mx0_10 Mx0_11 Mx0_12 Mx0_13 My1 My2 Mx3_0 Mx4_0 My5 My6 ) (v_S_assembler_b4 hk k_518 ⟨Nat.le_of_ble_eq_true rfl, Nat.le_of_ble_eq_true rfl⟩) (pMC_v hK hP hD hC hS hA (ci := 0) (q0 := 0) rfl rfl rfl) rfl rfl hl.1 rfl (lv_room (Nat.le_of_ble_eq_true rfl)) d_S_end_1 ⟨by decide, by decide⟩) hS hA hD (fun rz1 g0 t H locs hr0 ht hB hFr hS => ?_)
  obtain ⟨g1, g2, g3, g4, g5, g6, g7, g8, g9, g10, g11, g12, g13, g14, g15, Ax0_3z1, Ax0_4z1, Ax0_5z1, Ax0_6z1, Ax0_7z1, Ax0_8z1, Ax0_9z1, Ax0_10z1, Ax0_11z1, Ax0_12z1, Ax0_13z1, Ax0_14z1, Ax1_1z1, Ax1_2z1, Ax1_3z1, Ax1_4z1, Ax1_5z1, Ax1_6z1, Ax1_7z1, Ax1_8z1, Ay2z1, Ax3_5z1, Ax3_6z1, Ay4z1, Ay5z1, Ay6z1, Ay7z1, Ay8z1, Ax9_6z1, Ay10z1, Ay11z1, Ay12z1, Ay13z1, Ay14z1, Ay15z1, ex0z1, hP, hD⟩ := hB
  subst ex0z1
  rw [ht] at hP
  have hD := dwk hD hFr
  clear ht hFr
  have hP : va_P D classes ((wS55 cI cJ cZ cB p0 m0 g0) ++ (wS60 cI cJ cZ cB m0 m1 m2 m3 m4 m5 m6 Mx0_4 Mx0_5 Mx0_6 Mx0_7 Mx0_8 Mx0_9 Mx0_10 Mx0_11 Mx0_12 Mx0_13 My1 My2 Mx3_0 Mx4_0 My5 My6) ++ (wS52 K cI cJ cZ cB g0 g1 g2 g3 g4 g5 g6 g7 g8 g9 g10 g11 g12 g13 g14 g15 Ax0_3z1 Ax0_4z1 Ax0_5z1 Ax0_6z1 Ax0_7z1 Ax0_8z1 Ax0_9z1 Ax0_10z1 Ax0_11z1 Ax0_12z1 Ax0_13z1 Ax0_14z1 (0 : Int32) Ax1_2z1 Ax1_3z1 Ax1_4z1 Ax1_5z1 Ax1_6z1 Ax1_7z1 Ax1_8z1 Ay2z1 Ax3_5z1 Ax3_6z1 Ay4z1 Ay5z1 Ay6z1 Ay7z1 Ay8z1 Ax9_6z1 Ay10z1 Ay11z1 Ay12z1 Ay13z1 Ay14z1 Ay15z1)) H := hP
  have hD : va_D A ((wS55 cI cJ cZ cB p0 m0 g0) ++ (wS60 cI cJ cZ cB m0 m1 m2 m3 m4 m5 m6 Mx0_4 Mx0_5 Mx0_6 Mx0_7 Mx0_8 Mx0_9 Mx0_10 Mx0_11 Mx0_12 Mx0_13 My1 My2 Mx3_0 Mx4_0 My5 My6) ++ (wS52 K cI cJ cZ cB g0 g1 g2 g3 g4 g5 g6 g7 g8 g9 g10 g11 g12 g13 g14 g15 Ax0_3z1 Ax0_4z1 Ax0_5z1 Ax0_6z1 Ax0_7z1 Ax0_8z1 Ax0_9z1 Ax0_10z1 Ax0_11z1 Ax0_12z1 Ax0_13z1 Ax0_14z1 (0 : Int32) Ax1_2z1 Ax1_3z1 Ax1_4z1 Ax1_5z1 Ax1_6z1 Ax1_7z1 Ax1_8z1 Ay2z1 Ax3_5z1 Ax3_6z1 Ay4z1 Ay5z1 Ay6z1 Ay7z1 Ay8z1 Ax9_6z1 Ay10z1 Ay11z1 Ay12z1 Ay13z1 Ay14z1 Ay15z1)) := hD
  refine W.widen (k := 16) (n := 9873) (by decide) (by decide) ?_
  subst hr0
  refine W.eq (g2 := F0 m 4 ls [.ref g0]) rfl ?_
  refine va_getN (D := D) (ci := 3) (v := .ref g1) (C := "SignMachine$Assembler") (T := F_A) (N := 15) hx hb hk fi_A hown hK.1 hP 8 rfl rfl 0 (by decide) (va_Nw.use rfl (hK.2 _ n_632)) (fun _ h9 => h9) rfl d_S_end_4 ?_
  refine lv_astore_n (lv' := [(2, .ref g1), (0, .ref p0), (1, .int a1)]) hx hb d_S_end_7 rfl hl (by decide) rfl (fun ls hl => ?_)
  refine lv_iload_n hx hb d_S_end_8 rfl (lv_at hl 2 rfl) ?_
  refine lv_if_lt (tgt := 27) hx hb d_S_end_9 (by decide) (fun c2 => ?_) (fun c2 => ?_)
  · refine lv_iconst (v := (-1)) hx hb d_S_end_27 (by decide) ?_
    exact W.iret (v := (-1 : Int32)) hx hb hr (fun t ht hW => ⟨⟨(-1 : Int32), (0 : Int32), rfl, (eB (show ¬ (0 ≤ a1.toInt ∧ a1.toInt ≤ 20 ∧ 20 ≤ (0 : Int)) from by have q0 : a1.toInt < (0 : Int) := c_lt c2; omega)), ⟨_, isC_8, (by show va_P D classes _ t.heap; rw [ht]; exact hP), hD⟩⟩, hS.F ht⟩) hS.2.2 d_S_end_28
  · refine lv_iload_n hx hb d_S_end_12 rfl (lv_at hl 2 rfl) ?_
    refine lv_bipush (v := 20) hx hb d_S_end_13 (by decide) ?_
    refine lv_icmp_gt (tgt := 27) hx hb d_S_end_15 (by decide) (fun c3 => ?_) (fun c3 => ?_)
    · refine lv_iconst (v := (-1)) hx hb d_S_end_27 (by decide) ?_
      exact W.iret (v := (-1 : Int32)) hx hb hr (fun t ht hW => ⟨⟨(-1 : Int32), (0 : Int32), rfl, (eB (show ¬ (0 ≤ a1.toInt ∧ a1.toInt ≤ 20 ∧ 20 ≤ (0 : Int)) from by have q0 : (0 : Int) ≤ a1.toInt := c_nlt c2; have q1 : (20 : Int) < a1.toInt := c_lt c3; omega)), ⟨_, isC_8, (by show va_P D classes _ t.heap; rw [ht]; exact hP), hD⟩⟩, hS.F ht⟩) hS.2.2 d_S_end_28
    · refine lv_aload_n hx hb d_S_end_18 rfl (lv_at hl 0 rfl) ?_
      refine va_getN (D := D) (ci := 4) (v := .int (0 : Int32)) (C := "SignMachine$Source") (T := F_R) (N := 9) hx hb hk fi_R hown hK.1 hP 9 rfl rfl 1 (by decide) (va_Nw.use rfl (hK.2 _ n_537)) (fun _ h9 => h9) rfl d_S_end_19 ?_
      refine lv_bipush (v := 20) hx hb d_S_end_22 (by decide) ?_
      refine lv_icmp_ge (tgt := 29) hx hb d_S_end_24 (by decide) (fun c4 => absurd c4 (show ¬ (20 : Int32) ≤ (0 : Int32) from (by decide))) (fun c4 => ?_)
      refine lv_iconst (v := (-1)) hx hb d_S_end_27 (by decide) ?_
      exact W.iret (v := (-1 : Int32)) hx hb hr (fun t ht hW => ⟨⟨(-1 : Int32), (0 : Int32), rfl, (eB (show ¬ (0 ≤ a1.toInt ∧ a1.toInt ≤ 20 ∧ 20 ≤ (0 : Int)) from by have q0 : (0 : Int) ≤ a1.toInt := c_nlt c2; have q1 : a1.toInt ≤ (20 : Int) := c_nlt c3; omega)), ⟨_, isC_8, (by show va_P D classes _ t.heap; rw [ht]; exact hP), hD⟩⟩, hS.F ht⟩) hS.2.2 d_S_end_28
theorem v_S_end_b14 {R : Room} {s : State} {args : Array Value} {own : String} {index : Nat} (hk : ∀ w ∈ tb, w.before args s = true) (hl : Cond.methodLink own index y_S_end ∈ tb) (hR : 4 + 1 ≤ R.frames ∧ 8 + (3 + 11) + 72 ≤ R.locals) : CallW R s args own "SignMachine" index y_S_end b_S_end 3 (some .int) (.code y_S_end b_S_end 3 (some .int) :: tb) ({ frames := 4, cells := 16, slots := 9873, locals := 72 }) 16 9873 1 := mk_v 1 hk k_694 hl k_692 k_693 k_116 rfl rfl h_S_end hR
set_option maxHeartbeats 4000000 in
set_option maxRecDepth 100000 in
theorem c_S_assemble_b14 (l : Launch) (K : CK) (D : va_G) (cI cJ cZ cB : ClassId) (p0 m0 m1 m2 m3 m4 m5 m6 : Nat) (sz : Nat) (Mx0_4 : Bool) (Mx0_5 : Int32) (Mx0_6 : Int32) (Mx0_7 : Int32) (Mx0_8 : Int32) (Mx0_9 : Int32) (Mx0_10 : Int32) (Mx0_11 : Int32) (Mx0_12 : Int32) (Mx0_13 : Int32) (My1 : Nat → Int32) (My2 : Nat → Int32) (Mx3_0 : Int32) (Mx4_0 : Int32) (My5 : Nat → Int32) (My6 : Nat → Int32)   : Met l y_S_assemble (.code y_S_assemble b_S_assemble 3 (some .int) :: tb) ({ frames := 8, cells := 16, slots := 9873, locals := 181 }) (pMC K D cI cJ cZ cB ((wS54 cI cJ cZ cB p0 m0) ++ (wS60 cI cJ cZ cB m0 m1 m2 m3 m4 m5 m6 Mx0_4 Mx0_5 Mx0_6 Mx0_7 Mx0_8 Mx0_9 Mx0_10 Mx0_11 Mx0_12 Mx0_13 My1 My2 Mx3_0 Mx4_0 My5 My6)) sz [.ref p0]) (va_Qi (fun r (uL : Int32) => uL.toInt = 0) (fun uL t => ∃ W9 : va_W, isC K cI cJ cZ cB p0 uL W9 ∧ va_P D classes W9 t.heap ∧ va_D (va_A ((wS54 cI cJ cZ cB p0 m0) ++ (wS60 cI cJ cZ cB m0 m1 m2 m3 m4 m5 m6 Mx0_4 Mx0_5 Mx0_6 Mx0_7 Mx0_8 Mx0_9 Mx0_10 Mx0_11 Mx0_12 Mx0_13 My1 My2 Mx3_0 Mx4_0 My5 My6)) sz) W9) (va_A ((wS54 cI cJ cZ cB p0 m0) ++ (wS60 cI cJ cZ cB m0 m1 m2 m3 m4 m5 m6 Mx0_4 Mx0_5 Mx0_6 Mx0_7 Mx0_8 Mx0_9 Mx0_10 Mx0_11 Mx0_12 Mx0_13 My1 My2 Mx3_0 Mx4_0 My5 My6)) sz)) 16 9873 (va_A ((wS54 cI cJ cZ cB p0 m0) ++ (wS60 cI cJ cZ cB m0 m1 m2 m3 m4 m5 m6 Mx0_4 Mx0_5 Mx0_6 Mx0_7 Mx0_8 Mx0_9 Mx0_10 Mx0_11 Mx0_12 Mx0_13 My1 My2 Mx3_0 Mx4_0 My5 My6)) sz) := by
  refine Met.ofW (cc := b_S_assemble) (maxL := 3) (ret := (some .int)) (by decide) rfl ?_
  intro p e s m args below meth c s₁ B hml hv
  obtain ⟨rfl, hsz, hK, hP, hD0, hC⟩ := hv
  subst hsz
  have hD := hD0.self (sz := s.heap.size)
  generalize hAe : va_A ((wS54 cI cJ cZ cB p0 m0) ++ (wS60 cI cJ cZ cB m0 m1 m2 m3 m4 m5 m6 Mx0_4 Mx0_5 Mx0_6 Mx0_7 Mx0_8 Mx0_9 Mx0_10 Mx0_11 Mx0_12 Mx0_13 My1 My2 Mx3_0 Mx4_0 My5 My6)) s.heap.size = A at hD hC ⊢
  have hA : ∀ q : Nat, s.heap.size ≤ q → A q := fun q h => by rw [← hAe]; exact Or.inr h
  clear hAe hD0
  have hS : va_S A s.heap s.heap [] := va_S.rf
  have hx := B.exec
  have hb := B.bytes
  have hr := B.returns
  have hts := atoms_spec (ws := .code y_S_assemble b_S_assemble 3 (some .int) :: tb) B.pre
  have hk : ∀ w ∈ tb, w.before [.ref p0].toArray s = true := fun w h => hts w (List.mem_cons_of_mem _ h)
  have hown : s.vm.findClass "SignMachine" = some m.cls := findClass_of_methodNamed B.named
  have hlocks := B.notSynchronized
  have hl := lv_entry ([.ref p0]) (n := 3) (Nat.le_of_ble_eq_true rfl)
  rw [lg_entry_eq]
  generalize (lg_sl ([.ref p0]) ++ List.replicate (3 - (lg_sl ([.ref p0])).length) Slot.unset).toArray = ls at hl ⊢
  have hl : lv_has ls 3 [(0, .ref p0)] := hl
  refine lv_aload_n hx hb d_S_assemble_0 rfl (lv_at hl 0 rfl) ?_
  refine sn_q (va_runV (C := "SignMachine") (As := []) (rest := []) ⟨hx, hb, hml, hown, hk⟩ (c_S_assembler_b4 l K D cI cJ cZ cB p0 m0 m1 m2 m3 m4 m5 m6 s.heap.size Mx0_4 Mx0_5 Mx0_6 Mx0_7 Mx0_8 Mx0_9 Mx0_10 Mx0_11 Mx0_12 Mx0_13 My1 My2 Mx3_0 Mx4_0 My5 My6 ) (v_S_assembler_b4 hk k_518 ⟨Nat.le_of_ble_eq_true rfl, Nat.le_of_ble_eq_true rfl⟩) (pMC_v hK hP hD hC hS hA (ci := 0) (q0 := 0) rfl rfl rfl) rfl rfl hl.1 rfl (lv_room (Nat.le_of_ble_eq_true rfl)) d_S_assemble_1 ⟨by decide, by decide⟩) hS hA hD (fun rz1 g0 t H locs hr0 ht hB hFr hS => ?_)
  obtain ⟨g1, g2, g3, g4, g5, g6, g7, g8, g9, g10, g11, g12, g13, g14, g15, Ax0_3z1, Ax0_4z1, Ax0_5z1, Ax0_6z1, Ax0_7z1, Ax0_8z1, Ax0_9z1, Ax0_10z1, Ax0_11z1, Ax0_12z1, Ax0_13z1, Ax0_14z1, Ax1_1z1, Ax1_2z1, Ax1_3z1, Ax1_4z1, Ax1_5z1, Ax1_6z1, Ax1_7z1, Ax1_8z1, Ay2z1, Ax3_5z1, Ax3_6z1, Ay4z1, Ay5z1, Ay6z1, Ay7z1, Ay8z1, Ax9_6z1, Ay10z1, Ay11z1, Ay12z1, Ay13z1, Ay14z1, Ay15z1, ex0z1, hP, hD⟩ := hB
  subst ex0z1
  rw [ht] at hP
  have hD := dwk hD hFr
  clear ht hFr
  have hP : va_P D classes ((wS55 cI cJ cZ cB p0 m0 g0) ++ (wS60 cI cJ cZ cB m0 m1 m2 m3 m4 m5 m6 Mx0_4 Mx0_5 Mx0_6 Mx0_7 Mx0_8 Mx0_9 Mx0_10 Mx0_11 Mx0_12 Mx0_13 My1 My2 Mx3_0 Mx4_0 My5 My6) ++ (wS52 K cI cJ cZ cB g0 g1 g2 g3 g4 g5 g6 g7 g8 g9 g10 g11 g12 g13 g14 g15 Ax0_3z1 Ax0_4z1 Ax0_5z1 Ax0_6z1 Ax0_7z1 Ax0_8z1 Ax0_9z1 Ax0_10z1 Ax0_11z1 Ax0_12z1 Ax0_13z1 Ax0_14z1 (0 : Int32) Ax1_2z1 Ax1_3z1 Ax1_4z1 Ax1_5z1 Ax1_6z1 Ax1_7z1 Ax1_8z1 Ay2z1 Ax3_5z1 Ax3_6z1 Ay4z1 Ay5z1 Ay6z1 Ay7z1 Ay8z1 Ax9_6z1 Ay10z1 Ay11z1 Ay12z1 Ay13z1 Ay14z1 Ay15z1)) H := hP
  have hD : va_D A ((wS55 cI cJ cZ cB p0 m0 g0) ++ (wS60 cI cJ cZ cB m0 m1 m2 m3 m4 m5 m6 Mx0_4 Mx0_5 Mx0_6 Mx0_7 Mx0_8 Mx0_9 Mx0_10 Mx0_11 Mx0_12 Mx0_13 My1 My2 Mx3_0 Mx4_0 My5 My6) ++ (wS52 K cI cJ cZ cB g0 g1 g2 g3 g4 g5 g6 g7 g8 g9 g10 g11 g12 g13 g14 g15 Ax0_3z1 Ax0_4z1 Ax0_5z1 Ax0_6z1 Ax0_7z1 Ax0_8z1 Ax0_9z1 Ax0_10z1 Ax0_11z1 Ax0_12z1 Ax0_13z1 Ax0_14z1 (0 : Int32) Ax1_2z1 Ax1_3z1 Ax1_4z1 Ax1_5z1 Ax1_6z1 Ax1_7z1 Ax1_8z1 Ay2z1 Ax3_5z1 Ax3_6z1 Ay4z1 Ay5z1 Ay6z1 Ay7z1 Ay8z1 Ax9_6z1 Ay10z1 Ay11z1 Ay12z1 Ay13z1 Ay14z1 Ay15z1)) := hD
  refine W.widen (k := 16) (n := 9873) (by decide) (by decide) ?_
  subst hr0
  refine W.eq (g2 := F0 m 4 ls [.ref g0]) rfl ?_
  refine lv_astore_n (lv' := [(1, .ref g0), (0, .ref p0)]) hx hb d_S_assemble_4 rfl hl (by decide) rfl (fun ls hl => ?_)
  refine lv_aload_n hx hb d_S_assemble_5 rfl (lv_at hl 0 rfl) ?_
  have hPc := hP.sub (ws' := (wS52 K cI cJ cZ cB g0 g1 g2 g3 g4 g5 g6 g7 g8 g9 g10 g11 g12 g13 g14 g15 Ax0_3z1 Ax0_4z1 Ax0_5z1 Ax0_6z1 Ax0_7z1 Ax0_8z1 Ax0_9z1 Ax0_10z1 Ax0_11z1 Ax0_12z1 Ax0_13z1 Ax0_14z1 (0 : Int32) Ax1_2z1 Ax1_3z1 Ax1_4z1 Ax1_5z1 Ax1_6z1 Ax1_7z1 Ax1_8z1 Ay2z1 Ax3_5z1 Ax3_6z1 Ay4z1 Ay5z1 Ay6z1 Ay7z1 Ay8z1 Ax9_6z1 Ay10z1 Ay11z1 Ay12z1 Ay13z1 Ay14z1 Ay15z1)) [8, 9, 10, 11, 12, 13, 14, 15, 16, 17, 18, 19, 20, 21, 22, 23] rfl
  have hDc := hD.sub (ws' := (wS52 K cI cJ cZ cB g0 g1 g2 g3 g4 g5 g6 g7 g8 g9 g10 g11 g12 g13 g14 g15 Ax0_3z1 Ax0_4z1 Ax0_5z1 Ax0_6z1 Ax0_7z1 Ax0_8z1 Ax0_9z1 Ax0_10z1 Ax0_11z1 Ax0_12z1 Ax0_13z1 Ax0_14z1 (0 : Int32) Ax1_2z1 Ax1_3z1 Ax1_4z1 Ax1_5z1 Ax1_6z1 Ax1_7z1 Ax1_8z1 Ay2z1 Ax3_5z1 Ax3_6z1 Ay4z1 Ay5z1 Ay6z1 Ay7z1 Ay8z1 Ax9_6z1 Ay10z1 Ay11z1 Ay12z1 Ay13z1 Ay14z1 Ay15z1)) [8, 9, 10, 11, 12, 13, 14, 15, 16, 17, 18, 19, 20, 21, 22, 23] (by decide) rfl
  have hFc := va_free (wc := (wS52 K cI cJ cZ cB g0 g1 g2 g3 g4 g5 g6 g7 g8 g9 g10 g11 g12 g13 g14 g15 Ax0_3z1 Ax0_4z1 Ax0_5z1 Ax0_6z1 Ax0_7z1 Ax0_8z1 Ax0_9z1 Ax0_10z1 Ax0_11z1 Ax0_12z1 Ax0_13z1 Ax0_14z1 (0 : Int32) Ax1_2z1 Ax1_3z1 Ax1_4z1 Ax1_5z1 Ax1_6z1 Ax1_7z1 Ax1_8z1 Ay2z1 Ax3_5z1 Ax3_6z1 Ay4z1 Ay5z1 Ay6z1 Ay7z1 Ay8z1 Ax9_6z1 Ay10z1 Ay11z1 Ay12z1 Ay13z1 Ay14z1 Ay15z1)) hD hS hA [8, 9, 10, 11, 12, 13, 14, 15, 16, 17, 18, 19, 20, 21, 22, 23] rfl
  refine va_callv (va_runV (C := "SignMachine$Assembler") (As := []) (rest := []) ⟨hx, hb, hml, hown, hk⟩ (c_A_begin_s1 l K D cI cJ cZ cB g0 g1 g2 g3 g4 g5 g6 g7 g8 g9 g10 g11 g12 g13 g14 g15 H.size Ax0_3z1 Ax0_4z1 Ax0_5z1 Ax0_6z1 Ax0_7z1 Ax0_8z1 Ax0_9z1 Ax0_10z1 Ax0_11z1 Ax0_12z1 Ax0_13z1 Ax0_14z1 (0 : Int32) Ax1_2z1 Ax1_3z1 Ax1_4z1 Ax1_5z1 Ax1_6z1 Ax1_7z1 Ax1_8z1 Ay2z1 Ax3_5z1 Ax3_6z1 Ay4z1 Ay5z1 Ay6z1 Ay7z1 Ay8z1 Ax9_6z1 Ay10z1 Ay11z1 Ay12z1 Ay13z1 Ay14z1 Ay15z1  ) (v_A_begin_s1 hk k_699 ⟨Nat.le_of_ble_eq_true rfl, Nat.le_of_ble_eq_true rfl⟩) (pMC_v hK hPc hDc hC hS hA (ci := 3) (q0 := 0) rfl rfl rfl) rfl rfl hl.1 rfl (lv_room (Nat.le_of_ble_eq_true rfl)) d_S_assemble_6 ⟨by decide, by decide⟩) hS (fun q _ h => hFc q h) hFc (fun u t H locs ht hvm hr0 hB hzq hkq hS => ?_)
  obtain ⟨Ax0_3z2, Ax0_4z2, Ax0_7z2, Ax0_8z2, Ax1_2z2, Ax1_5z2, Ax3_5z2, Ax3_6z2, Ay8z2, Ax9_6z2, Ay15z2, hP1, hD1⟩ := hB
  rw [ht] at hP1
  obtain ⟨hP, hD⟩ := va_join (wr := (wS55 cI cJ cZ cB p0 m0 g0) ++ (wS60 cI cJ cZ cB m0 m1 m2 m3 m4 m5 m6 Mx0_4 Mx0_5 Mx0_6 Mx0_7 Mx0_8 Mx0_9 Mx0_10 Mx0_11 Mx0_12 Mx0_13 My1 My2 Mx3_0 Mx4_0 My5 My6)) (w1 := (wS52 K cI cJ cZ cB g0 g1 g2 g3 g4 g5 g6 g7 g8 g9 g10 g11 g12 g13 g14 g15 Ax0_3z2 Ax0_4z2 Ax0_5z1 Ax0_6z1 Ax0_7z2 Ax0_8z2 Ax0_9z1 Ax0_10z1 Ax0_11z1 Ax0_12z1 Ax0_13z1 Ax0_14z1 (0 : Int32) Ax1_2z2 Ax1_3z1 Ax1_4z1 Ax1_5z2 Ax1_6z1 Ax1_7z1 Ax1_8z1 Ay2z1 Ax3_5z2 Ax3_6z2 Ay4z1 Ay5z1 Ay6z1 Ay7z1 Ay8z2 Ax9_6z2 Ay10z1 Ay11z1 Ay12z1 Ay13z1 Ay14z1 Ay15z2)) hP hD [8, 9, 10, 11, 12, 13, 14, 15, 16, 17, 18, 19, 20, 21, 22, 23] [0, 1, 2, 3, 4, 5, 6, 7] rfl rfl (by decide) (by decide) hkq hFc hP1 hD1
  have hP := hP.sub (ws' := ((wS55 cI cJ cZ cB p0 m0 g0) ++ (wS60 cI cJ cZ cB m0 m1 m2 m3 m4 m5 m6 Mx0_4 Mx0_5 Mx0_6 Mx0_7 Mx0_8 Mx0_9 Mx0_10 Mx0_11 Mx0_12 Mx0_13 My1 My2 Mx3_0 Mx4_0 My5 My6) ++ (wS52 K cI cJ cZ cB g0 g1 g2 g3 g4 g5 g6 g7 g8 g9 g10 g11 g12 g13 g14 g15 Ax0_3z2 Ax0_4z2 Ax0_5z1 Ax0_6z1 Ax0_7z2 Ax0_8z2 Ax0_9z1 Ax0_10z1 Ax0_11z1 Ax0_12z1 Ax0_13z1 Ax0_14z1 (0 : Int32) Ax1_2z2 Ax1_3z1 Ax1_4z1 Ax1_5z2 Ax1_6z1 Ax1_7z1 Ax1_8z1 Ay2z1 Ax3_5z2 Ax3_6z2 Ay4z1 Ay5z1 Ay6z1 Ay7z1 Ay8z2 Ax9_6z2 Ay10z1 Ay11z1 Ay12z1 Ay13z1 Ay14z1 Ay15z2))) [0, 1, 2, 3, 4, 5, 6, 7, 8, 9, 10, 11, 12, 13, 14, 15, 16, 17, 18, 19, 20, 21, 22, 23] rfl
  have hD := hD.sub (ws' := ((wS55 cI cJ cZ cB p0 m0 g0) ++ (wS60 cI cJ cZ cB m0 m1 m2 m3 m4 m5 m6 Mx0_4 Mx0_5 Mx0_6 Mx0_7 Mx0_8 Mx0_9 Mx0_10 Mx0_11 Mx0_12 Mx0_13 My1 My2 Mx3_0 Mx4_0 My5 My6) ++ (wS52 K cI cJ cZ cB g0 g1 g2 g3 g4 g5 g6 g7 g8 g9 g10 g11 g12 g13 g14 g15 Ax0_3z2 Ax0_4z2 Ax0_5z1 Ax0_6z1 Ax0_7z2 Ax0_8z2 Ax0_9z1 Ax0_10z1 Ax0_11z1 Ax0_12z1 Ax0_13z1 Ax0_14z1 (0 : Int32) Ax1_2z2 Ax1_3z1 Ax1_4z1 Ax1_5z2 Ax1_6z1 Ax1_7z1 Ax1_8z1 Ay2z1 Ax3_5z2 Ax3_6z2 Ay4z1 Ay5z1 Ay6z1 Ay7z1 Ay8z2 Ax9_6z2 Ay10z1 Ay11z1 Ay12z1 Ay13z1 Ay14z1 Ay15z2))) [0, 1, 2, 3, 4, 5, 6, 7, 8, 9, 10, 11, 12, 13, 14, 15, 16, 17, 18, 19, 20, 21, 22, 23] (by decide) rfl
  have hP : va_P D classes ((wS55 cI cJ cZ cB p0 m0 g0) ++ (wS60 cI cJ cZ cB m0 m1 m2 m3 m4 m5 m6 Mx0_4 Mx0_5 Mx0_6 Mx0_7 Mx0_8 Mx0_9 Mx0_10 Mx0_11 Mx0_12 Mx0_13 My1 My2 Mx3_0 Mx4_0 My5 My6) ++ (wS52 K cI cJ cZ cB g0 g1 g2 g3 g4 g5 g6 g7 g8 g9 g10 g11 g12 g13 g14 g15 Ax0_3z2 Ax0_4z2 Ax0_5z1 Ax0_6z1 Ax0_7z2 Ax0_8z2 Ax0_9z1 Ax0_10z1 Ax0_11z1 Ax0_12z1 Ax0_13z1 Ax0_14z1 (0 : Int32) Ax1_2z2 Ax1_3z1 Ax1_4z1 Ax1_5z2 Ax1_6z1 Ax1_7z1 Ax1_8z1 Ay2z1 Ax3_5z2 Ax3_6z2 Ay4z1 Ay5z1 Ay6z1 Ay7z1 Ay8z2 Ax9_6z2 Ay10z1 Ay11z1 Ay12z1 Ay13z1 Ay14z1 Ay15z2)) H := hP
  have hD : va_D A ((wS55 cI cJ cZ cB p0 m0 g0) ++ (wS60 cI cJ cZ cB m0 m1 m2 m3 m4 m5 m6 Mx0_4 Mx0_5 Mx0_6 Mx0_7 Mx0_8 Mx0_9 Mx0_10 Mx0_11 Mx0_12 Mx0_13 My1 My2 Mx3_0 Mx4_0 My5 My6) ++ (wS52 K cI cJ cZ cB g0 g1 g2 g3 g4 g5 g6 g7 g8 g9 g10 g11 g12 g13 g14 g15 Ax0_3z2 Ax0_4z2 Ax0_5z1 Ax0_6z1 Ax0_7z2 Ax0_8z2 Ax0_9z1 Ax0_10z1 Ax0_11z1 Ax0_12z1 Ax0_13z1 Ax0_14z1 (0 : Int32) Ax1_2z2 Ax1_3z1 Ax1_4z1 Ax1_5z2 Ax1_6z1 Ax1_7z1 Ax1_8z1 Ay2z1 Ax3_5z2 Ax3_6z2 Ay4z1 Ay5z1 Ay6z1 Ay7z1 Ay8z2 Ax9_6z2 Ay10z1 Ay11z1 Ay12z1 Ay13z1 Ay14z1 Ay15z2)) := hD
  clear hPc hDc hFc
  refine lv_iconst (v := 0) hx hb d_S_assemble_9 (by decide) ?_
  refine lv_istore_n (lv' := [(2, .int (0 : Int32)), (1, .ref g0), (0, .ref p0)]) hx hb d_S_assemble_10 rfl hl (by decide) rfl (fun ls hl => ?_)
  have LP11_x16 : ∀ (n : Nat) (l2 : Int32) (Mx0_7 : Int32) (My1 : Nat → Int32) (Ax0_3 : Int32) (Ax0_4 : Int32) (Ax0_5 : Int32) (Ax0_6 : Int32) (Ax0_7 : Int32) (Ax0_8 : Bool) (Ax0_9 : Int64) (Ax0_10 : Int32) (Ax0_11 : Option (Fin 51)) (Ax0_12 : Int32) (Ax0_13 : Int32) (Ax0_14 : Int32) (Ax1_1 : Int32) (Ax1_2 : Int32) (Ax1_3 : Int32) (Ax1_4 : Int32) (Ax1_5 : Int32) (Ax1_6 : Int32) (Ax1_7 : Int64) (Ax1_8 : Int32) (Ay2 : Nat → Int32) (Ax3_5 : Int32) (Ax3_6 : Int32) (Ay4 : Nat → Int64) (Ay5 : Nat → Int32) (Ay6 : Nat → Int32) (Ay7 : Nat → Int32) (Ay8 : Nat → Int32) (Ax9_6 : Int32) (Ay10 : Nat → Int32) (Ay11 : Nat → Int32) (Ay12 : Nat → Int32) (Ay13 : Nat → Int32) (Ay14 : Nat → Int32) (Ay15 : Nat → Int32) (H : Heap) (locs : List Loc) (ls : Array Slot), (((4000 : Int32)).toInt - (l2).toInt).toNat < n → ¬ l2 < (0 : Int32) → va_P D classes ((wS55 cI cJ cZ cB p0 m0 g0) ++ (wS60 cI cJ cZ cB m0 m1 m2 m3 m4 m5 m6 Mx0_4 Mx0_5 Mx0_6 Mx0_7 Mx0_8 Mx0_9 Mx0_10 Mx0_11 Mx0_12 Mx0_13 My1 My2 Mx3_0 Mx4_0 My5 My6) ++ (wS52 K cI cJ cZ cB g0 g1 g2 g3 g4 g5 g6 g7 g8 g9 g10 g11 g12 g13 g14 g15 Ax0_3 Ax0_4 Ax0_5 Ax0_6 Ax0_7 Ax0_8 Ax0_9 Ax0_10 Ax0_11 Ax0_12 Ax0_13 Ax0_14 Ax1_1 Ax1_2 Ax1_3 Ax1_4 Ax1_5 Ax1_6 Ax1_7 Ax1_8 Ay2 Ax3_5 Ax3_6 Ay4 Ay5 Ay6 Ay7 Ay8 Ax9_6 Ay10 Ay11 Ay12 Ay13 Ay14 Ay15)) H → va_D A ((wS55 cI cJ cZ cB p0 m0 g0) ++ (wS60 cI cJ cZ cB m0 m1 m2 m3 m4 m5 m6 Mx0_4 Mx0_5 Mx0_6 Mx0_7 Mx0_8 Mx0_9 Mx0_10 Mx0_11 Mx0_12 Mx0_13 My1 My2 Mx3_0 Mx4_0 My5 My6) ++ (wS52 K cI cJ cZ cB g0 g1 g2 g3 g4 g5 g6 g7 g8 g9 g10 g11 g12 g13 g14 g15 Ax0_3 Ax0_4 Ax0_5 Ax0_6 Ax0_7 Ax0_8 Ax0_9 Ax0_10 Ax0_11 Ax0_12 Ax0_13 Ax0_14 Ax1_1 Ax1_2 Ax1_3 Ax1_4 Ax1_5 Ax1_6 Ax1_7 Ax1_8 Ay2 Ax3_5 Ax3_6 Ay4 Ay5 Ay6 Ay7 Ay8 Ax9_6 Ay10 Ay11 Ay12 Ay13 Ay14 Ay15)) → va_S A s.heap H locs → lv_has ls 3 [(2, .int l2), (1, .ref g0), (0, .ref p0)] → W p l e ({ frames := 8, cells := 16, slots := 9873, locals := 181 }) s m [.ref p0].toArray below meth c H locs 16 9873 (MQ below (va_Qi (fun r (uL : Int32) => uL.toInt = 0) (fun uL t => ∃ W9 : va_W, isC K cI cJ cZ cB p0 uL W9 ∧ va_P D classes W9 t.heap ∧ va_D A W9) A) [.ref p0].toArray s 16 9873 A) (F0 m 11 ls []) := by
    intro n
    induction n with
    | zero => intro l2 Mx0_7 My1 Ax0_3 Ax0_4 Ax0_5 Ax0_6 Ax0_7 Ax0_8 Ax0_9 Ax0_10 Ax0_11 Ax0_12 Ax0_13 Ax0_14 Ax1_1 Ax1_2 Ax1_3 Ax1_4 Ax1_5 Ax1_6 Ax1_7 Ax1_8 Ay2 Ax3_5 Ax3_6 Ay4 Ay5 Ay6 Ay7 Ay8 Ax9_6 Ay10 Ay11 Ay12 Ay13 Ay14 Ay15 H locs ls hn; exact absurd hn (Nat.not_lt_zero _)
    | succ n ih =>
      intro l2 Mx0_7 My1 Ax0_3 Ax0_4 Ax0_5 Ax0_6 Ax0_7 Ax0_8 Ax0_9 Ax0_10 Ax0_11 Ax0_12 Ax0_13 Ax0_14 Ax1_1 Ax1_2 Ax1_3 Ax1_4 Ax1_5 Ax1_6 Ax1_7 Ax1_8 Ay2 Ax3_5 Ax3_6 Ay4 Ay5 Ay6 Ay7 Ay8 Ax9_6 Ay10 Ay11 Ay12 Ay13 Ay14 Ay15 H locs ls hn11_x16 hc11_x16 hP hD hS hl
      refine lv_iload_n hx hb d_S_assemble_11 rfl (lv_at hl 0 rfl) ?_
      refine lv_sipush (v := 4000) hx hb d_S_assemble_12 (by decide) ?_
      refine lv_icmp_ge (tgt := 43) hx hb d_S_assemble_15 (by decide) (fun c3 => ?_) (fun c3 => ?_)
      · refine lv_aload_n hx hb d_S_assemble_43 rfl (lv_at hl 1 rfl) ?_
        have hPc := hP.sub (ws' := (wS52 K cI cJ cZ cB g0 g1 g2 g3 g4 g5 g6 g7 g8 g9 g10 g11 g12 g13 g14 g15 Ax0_3 Ax0_4 Ax0_5 Ax0_6 Ax0_7 Ax0_8 Ax0_9 Ax0_10 Ax0_11 Ax0_12 Ax0_13 Ax0_14 Ax1_1 Ax1_2 Ax1_3 Ax1_4 Ax1_5 Ax1_6 Ax1_7 Ax1_8 Ay2 Ax3_5 Ax3_6 Ay4 Ay5 Ay6 Ay7 Ay8 Ax9_6 Ay10 Ay11 Ay12 Ay13 Ay14 Ay15)) [8, 9, 10, 11, 12, 13, 14, 15, 16, 17, 18, 19, 20, 21, 22, 23] rfl
        have hDc := hD.sub (ws' := (wS52 K cI cJ cZ cB g0 g1 g2 g3 g4 g5 g6 g7 g8 g9 g10 g11 g12 g13 g14 g15 Ax0_3 Ax0_4 Ax0_5 Ax0_6 Ax0_7 Ax0_8 Ax0_9 Ax0_10 Ax0_11 Ax0_12 Ax0_13 Ax0_14 Ax1_1 Ax1_2 Ax1_3 Ax1_4 Ax1_5 Ax1_6 Ax1_7 Ax1_8 Ay2 Ax3_5 Ax3_6 Ay4 Ay5 Ay6 Ay7 Ay8 Ax9_6 Ay10 Ay11 Ay12 Ay13 Ay14 Ay15)) [8, 9, 10, 11, 12, 13, 14, 15, 16, 17, 18, 19, 20, 21, 22, 23] (by decide) rfl
        have hFc := va_free (wc := (wS52 K cI cJ cZ cB g0 g1 g2 g3 g4 g5 g6 g7 g8 g9 g10 g11 g12 g13 g14 g15 Ax0_3 Ax0_4 Ax0_5 Ax0_6 Ax0_7 Ax0_8 Ax0_9 Ax0_10 Ax0_11 Ax0_12 Ax0_13 Ax0_14 Ax1_1 Ax1_2 Ax1_3 Ax1_4 Ax1_5 Ax1_6 Ax1_7 Ax1_8 Ay2 Ax3_5 Ax3_6 Ay4 Ay5 Ay6 Ay7 Ay8 Ax9_6 Ay10 Ay11 Ay12 Ay13 Ay14 Ay15)) hD hS hA [8, 9, 10, 11, 12, 13, 14, 15, 16, 17, 18, 19, 20, 21, 22, 23] rfl
        refine va_callv (va_runV (C := "SignMachine$Assembler") (As := []) (rest := []) ⟨hx, hb, hml, hown, hk⟩ (c_A_finish_s1 l K D cI cJ cZ cB g0 g1 g2 g3 g4 g5 g6 g7 g8 g9 g10 g11 g12 g13 g14 g15 H.size Ax0_3 Ax0_4 Ax0_5 Ax0_6 Ax0_7 Ax0_8 Ax0_9 Ax0_10 Ax0_11 Ax0_12 Ax0_13 Ax0_14 Ax1_1 Ax1_2 Ax1_3 Ax1_4 Ax1_5 Ax1_6 Ax1_7 Ax1_8 Ay2 Ax3_5 Ax3_6 Ay4 Ay5 Ay6 Ay7 Ay8 Ax9_6 Ay10 Ay11 Ay12 Ay13 Ay14 Ay15  ) (v_A_finish_s1 hk k_1074 ⟨Nat.le_of_ble_eq_true rfl, Nat.le_of_ble_eq_true rfl⟩) (pMC_v hK hPc hDc hC hS hA (ci := 3) (q0 := 0) rfl rfl rfl) rfl rfl hl.1 rfl (lv_room (Nat.le_of_ble_eq_true rfl)) d_S_assemble_44 ⟨by decide, by decide⟩) hS (fun q _ h => hFc q h) hFc (fun u t H locs ht hvm hr0 hB hzq hkq hS => ?_)
        obtain ⟨Ax0_3z4, Ax0_4z4, Ax0_5z4, Ax1_1z4, Ay11z4, ex0z4, hP1, hD1⟩ := hB
        subst ex0z4
        rw [ht] at hP1
        obtain ⟨hP, hD⟩ := va_join (wr := (wS55 cI cJ cZ cB p0 m0 g0) ++ (wS60 cI cJ cZ cB m0 m1 m2 m3 m4 m5 m6 Mx0_4 Mx0_5 Mx0_6 Mx0_7 Mx0_8 Mx0_9 Mx0_10 Mx0_11 Mx0_12 Mx0_13 My1 My2 Mx3_0 Mx4_0 My5 My6)) (w1 := (wS52 K cI cJ cZ cB g0 g1 g2 g3 g4 g5 g6 g7 g8 g9 g10 g11 g12 g13 g14 g15 Ax0_3z4 Ax0_4z4 Ax0_5z4 Ax0_6 Ax0_7 Ax0_8 Ax0_9 Ax0_10 Ax0_11 Ax0_12 Ax0_13 Ax0_14 (0 : Int32) Ax1_2 Ax1_3 Ax1_4 Ax1_5 Ax1_6 Ax1_7 Ax1_8 Ay2 Ax3_5 Ax3_6 Ay4 Ay5 Ay6 Ay7 Ay8 Ax9_6 Ay10 Ay11z4 Ay12 Ay13 Ay14 Ay15)) hP hD [8, 9, 10, 11, 12, 13, 14, 15, 16, 17, 18, 19, 20, 21, 22, 23] [0, 1, 2, 3, 4, 5, 6, 7] rfl rfl (by decide) (by decide) hkq hFc hP1 hD1
        have hP := hP.sub (ws' := ((wS55 cI cJ cZ cB p0 m0 g0) ++ (wS60 cI cJ cZ cB m0 m1 m2 m3 m4 m5 m6 Mx0_4 Mx0_5 Mx0_6 Mx0_7 Mx0_8 Mx0_9 Mx0_10 Mx0_11 Mx0_12 Mx0_13 My1 My2 Mx3_0 Mx4_0 My5 My6) ++ (wS52 K cI cJ cZ cB g0 g1 g2 g3 g4 g5 g6 g7 g8 g9 g10 g11 g12 g13 g14 g15 Ax0_3z4 Ax0_4z4 Ax0_5z4 Ax0_6 Ax0_7 Ax0_8 Ax0_9 Ax0_10 Ax0_11 Ax0_12 Ax0_13 Ax0_14 (0 : Int32) Ax1_2 Ax1_3 Ax1_4 Ax1_5 Ax1_6 Ax1_7 Ax1_8 Ay2 Ax3_5 Ax3_6 Ay4 Ay5 Ay6 Ay7 Ay8 Ax9_6 Ay10 Ay11z4 Ay12 Ay13 Ay14 Ay15))) [0, 1, 2, 3, 4, 5, 6, 7, 8, 9, 10, 11, 12, 13, 14, 15, 16, 17, 18, 19, 20, 21, 22, 23] rfl
        have hD := hD.sub (ws' := ((wS55 cI cJ cZ cB p0 m0 g0) ++ (wS60 cI cJ cZ cB m0 m1 m2 m3 m4 m5 m6 Mx0_4 Mx0_5 Mx0_6 Mx0_7 Mx0_8 Mx0_9 Mx0_10 Mx0_11 Mx0_12 Mx0_13 My1 My2 Mx3_0 Mx4_0 My5 My6) ++ (wS52 K cI cJ cZ cB g0 g1 g2 g3 g4 g5 g6 g7 g8 g9 g10 g11 g12 g13 g14 g15 Ax0_3z4 Ax0_4z4 Ax0_5z4 Ax0_6 Ax0_7 Ax0_8 Ax0_9 Ax0_10 Ax0_11 Ax0_12 Ax0_13 Ax0_14 (0 : Int32) Ax1_2 Ax1_3 Ax1_4 Ax1_5 Ax1_6 Ax1_7 Ax1_8 Ay2 Ax3_5 Ax3_6 Ay4 Ay5 Ay6 Ay7 Ay8 Ax9_6 Ay10 Ay11z4 Ay12 Ay13 Ay14 Ay15))) [0, 1, 2, 3, 4, 5, 6, 7, 8, 9, 10, 11, 12, 13, 14, 15, 16, 17, 18, 19, 20, 21, 22, 23] (by decide) rfl
        have hP : va_P D classes ((wS55 cI cJ cZ cB p0 m0 g0) ++ (wS60 cI cJ cZ cB m0 m1 m2 m3 m4 m5 m6 Mx0_4 Mx0_5 Mx0_6 Mx0_7 Mx0_8 Mx0_9 Mx0_10 Mx0_11 Mx0_12 Mx0_13 My1 My2 Mx3_0 Mx4_0 My5 My6) ++ (wS52 K cI cJ cZ cB g0 g1 g2 g3 g4 g5 g6 g7 g8 g9 g10 g11 g12 g13 g14 g15 Ax0_3z4 Ax0_4z4 Ax0_5z4 Ax0_6 Ax0_7 Ax0_8 Ax0_9 Ax0_10 Ax0_11 Ax0_12 Ax0_13 Ax0_14 (0 : Int32) Ax1_2 Ax1_3 Ax1_4 Ax1_5 Ax1_6 Ax1_7 Ax1_8 Ay2 Ax3_5 Ax3_6 Ay4 Ay5 Ay6 Ay7 Ay8 Ax9_6 Ay10 Ay11z4 Ay12 Ay13 Ay14 Ay15)) H := hP
        have hD : va_D A ((wS55 cI cJ cZ cB p0 m0 g0) ++ (wS60 cI cJ cZ cB m0 m1 m2 m3 m4 m5 m6 Mx0_4 Mx0_5 Mx0_6 Mx0_7 Mx0_8 Mx0_9 Mx0_10 Mx0_11 Mx0_12 Mx0_13 My1 My2 Mx3_0 Mx4_0 My5 My6) ++ (wS52 K cI cJ cZ cB g0 g1 g2 g3 g4 g5 g6 g7 g8 g9 g10 g11 g12 g13 g14 g15 Ax0_3z4 Ax0_4z4 Ax0_5z4 Ax0_6 Ax0_7 Ax0_8 Ax0_9 Ax0_10 Ax0_11 Ax0_12 Ax0_13 Ax0_14 (0 : Int32) Ax1_2 Ax1_3 Ax1_4 Ax1_5 Ax1_6 Ax1_7 Ax1_8 Ay2 Ax3_5 Ax3_6 Ay4 Ay5 Ay6 Ay7 Ay8 Ax9_6 Ay10 Ay11z4 Ay12 Ay13 Ay14 Ay15)) := hD
        clear hPc hDc hFc
        refine lv_aload_n hx hb d_S_assemble_47 rfl (lv_at hl 1 rfl) ?_
        refine va_getN (D := D) (ci := 3) (v := .int Ax0_3z4) (C := "SignMachine$Assembler") (T := F_A) (N := 15) hx hb hk fi_A hown hK.1 hP 8 rfl rfl 3 (by decide) (va_Nw.use rfl (hK.2 _ n_637)) (fun _ h9 => h9) rfl d_S_assemble_48 ?_
        refine lv_if_ne (tgt := 73) hx hb d_S_assemble_51 (by decide) (fun c5 => ?_) (fun c5 => ?_)
        · refine lv_aload_n hx hb d_S_assemble_73 rfl (lv_at hl 1 rfl) ?_
          refine va_getN (D := D) (ci := 3) (v := .int Ax0_3z4) (C := "SignMachine$Assembler") (T := F_A) (N := 15) hx hb hk fi_A hown hK.1 hP 8 rfl rfl 3 (by decide) (va_Nw.use rfl (hK.2 _ n_637)) (fun _ h9 => h9) rfl d_S_assemble_74 ?_
          exact W.iret (v := Ax0_3z4) hx hb hr (fun t ht hW => ⟨⟨Ax0_3z4, (0 : Int32), rfl, rfl, ⟨_, isC_8, (by show va_P D classes _ t.heap; rw [ht]; exact hP), hD⟩⟩, hS.F ht⟩) hS.2.2 d_S_assemble_77
        · refine lv_aload_n hx hb d_S_assemble_54 rfl (lv_at hl 2 rfl) ?_
          refine lv_aload_n hx hb d_S_assemble_55 rfl (lv_at hl 1 rfl) ?_
          refine va_getN (D := D) (ci := 3) (v := .ref g9) (C := "SignMachine$Assembler") (T := F_A) (N := 15) hx hb hk fi_A hown hK.1 hP 8 rfl rfl 2 (by decide) (va_Nw.use rfl (hK.2 _ n_635)) (fun _ h9 => h9) rfl d_S_assemble_56 ?_
          refine kn_v (va_runV (C := "SignMachine") (As := [.ref g9]) (rest := []) ⟨hx, hb, hml, hown, hk⟩ (c_S_load_b4 l K D cI cJ cZ cB p0 m0 m1 m2 m3 m4 m5 m6 g0 g1 g2 g3 g4 g5 g6 g7 g8 g9 g10 g11 g12 g13 g14 g15 H.size Mx0_4 Mx0_5 Mx0_6 Mx0_7 Mx0_8 Mx0_9 Mx0_10 Mx0_11 Mx0_12 Mx0_13 My1 My2 Mx3_0 Mx4_0 My5 My6 Ax0_3z4 Ax0_4z4 Ax0_5z4 Ax0_6 Ax0_7 Ax0_8 Ax0_9 Ax0_10 Ax0_11 Ax0_12 Ax0_13 Ax0_14 (0 : Int32) Ax1_2 Ax1_3 Ax1_4 Ax1_5 Ax1_6 Ax1_7 Ax1_8 Ay2 Ax3_5 Ax3_6 Ay4 Ay5 Ay6 Ay7 Ay8 Ax9_6 Ay10 Ay11z4 Ay12 Ay13 Ay14 Ay15 ) (v_S_load_b4 hk k_1099 ⟨Nat.le_of_ble_eq_true rfl, Nat.le_of_ble_eq_true rfl⟩) (pMC_v hK hP hD hC hS hA (ci := 0) (q0 := 0) rfl rfl rfl) rfl rfl hl.1 rfl (lv_room (Nat.le_of_ble_eq_true rfl)) d_S_assemble_59 ⟨by decide, by decide⟩) hS hA hD (fun u t H locs ht hB hFr hS => ?_)
          obtain ⟨My1z6, hP, hD⟩ := hB
          rw [ht] at hP
          have hD := dwk hD hFr
          clear ht hFr
          have hP : va_P D classes ((wS55 cI cJ cZ cB p0 m0 g0) ++ (wS60 cI cJ cZ cB m0 m1 m2 m3 m4 m5 m6 Mx0_4 Mx0_5 Mx0_6 Mx0_7 Mx0_8 Mx0_9 Mx0_10 Mx0_11 Mx0_12 Mx0_13 My1z6 My2 Mx3_0 Mx4_0 My5 My6) ++ (wS52 K cI cJ cZ cB g0 g1 g2 g3 g4 g5 g6 g7 g8 g9 g10 g11 g12 g13 g14 g15 Ax0_3z4 Ax0_4z4 Ax0_5z4 Ax0_6 Ax0_7 Ax0_8 Ax0_9 Ax0_10 Ax0_11 Ax0_12 Ax0_13 Ax0_14 (0 : Int32) Ax1_2 Ax1_3 Ax1_4 Ax1_5 Ax1_6 Ax1_7 Ax1_8 Ay2 Ax3_5 Ax3_6 Ay4 Ay5 Ay6 Ay7 Ay8 Ax9_6 Ay10 Ay11z4 Ay12 Ay13 Ay14 Ay15)) H := hP
          have hD : va_D A ((wS55 cI cJ cZ cB p0 m0 g0) ++ (wS60 cI cJ cZ cB m0 m1 m2 m3 m4 m5 m6 Mx0_4 Mx0_5 Mx0_6 Mx0_7 Mx0_8 Mx0_9 Mx0_10 Mx0_11 Mx0_12 Mx0_13 My1z6 My2 Mx3_0 Mx4_0 My5 My6) ++ (wS52 K cI cJ cZ cB g0 g1 g2 g3 g4 g5 g6 g7 g8 g9 g10 g11 g12 g13 g14 g15 Ax0_3z4 Ax0_4z4 Ax0_5z4 Ax0_6 Ax0_7 Ax0_8 Ax0_9 Ax0_10 Ax0_11 Ax0_12 Ax0_13 Ax0_14 (0 : Int32) Ax1_2 Ax1_3 Ax1_4 Ax1_5 Ax1_6 Ax1_7 Ax1_8 Ay2 Ax3_5 Ax3_6 Ay4 Ay5 Ay6 Ay7 Ay8 Ax9_6 Ay10 Ay11z4 Ay12 Ay13 Ay14 Ay15)) := hD
          refine lv_aload_n hx hb d_S_assemble_62 rfl (lv_at hl 2 rfl) ?_
          refine va_get (D := D) (ci := 0) (v := .ref m0) (C := "SignMachine") (T := F_S) (N := 2) hx hb hk fi_S hown hK.1 hP 0 rfl rfl 0 (by decide) (hk _ k_210) (fun _ h9 => h9) rfl d_S_assemble_63 ?_
          refine lv_aload_n hx hb d_S_assemble_66 rfl (lv_at hl 1 rfl) ?_
          refine va_getN (D := D) (ci := 3) (v := .int Ax0_6) (C := "SignMachine$Assembler") (T := F_A) (N := 15) hx hb hk fi_A hown hK.1 hP 8 rfl rfl 6 (by decide) (va_Nw.use rfl (hK.2 _ n_642)) (fun _ h9 => h9) rfl d_S_assemble_67 ?_
          refine va_putN (D := D) (ci := 1) (v := .int Ax0_6) (ty := .int) (C := "SignMachine$Machine") (T := F_M) (N := 14) hx hb hk fi_M ft_M ft_M_ok fn_M hown hK.1 hP hD hS 1 rfl rfl 7 (by decide) (va_Nw.use rfl (hK.2 _ n_173)) (fun _ h9 => h9) rfl (by decide +kernel) rfl rfl (Nat.le_of_ble_eq_true rfl) d_S_assemble_70 (fun H locs hP hD hS => ?_)
          have hP : va_P D classes ((wS55 cI cJ cZ cB p0 m0 g0) ++ (wS60 cI cJ cZ cB m0 m1 m2 m3 m4 m5 m6 Mx0_4 Mx0_5 Mx0_6 Ax0_6 Mx0_8 Mx0_9 Mx0_10 Mx0_11 Mx0_12 Mx0_13 My1z6 My2 Mx3_0 Mx4_0 My5 My6) ++ (wS52 K cI cJ cZ cB g0 g1 g2 g3 g4 g5 g6 g7 g8 g9 g10 g11 g12 g13 g14 g15 Ax0_3z4 Ax0_4z4 Ax0_5z4 Ax0_6 Ax0_7 Ax0_8 Ax0_9 Ax0_10 Ax0_11 Ax0_12 Ax0_13 Ax0_14 (0 : Int32) Ax1_2 Ax1_3 Ax1_4 Ax1_5 Ax1_6 Ax1_7 Ax1_8 Ay2 Ax3_5 Ax3_6 Ay4 Ay5 Ay6 Ay7 Ay8 Ax9_6 Ay10 Ay11z4 Ay12 Ay13 Ay14 Ay15)) H := hP
          have hD : va_D A ((wS55 cI cJ cZ cB p0 m0 g0) ++ (wS60 cI cJ cZ cB m0 m1 m2 m3 m4 m5 m6 Mx0_4 Mx0_5 Mx0_6 Ax0_6 Mx0_8 Mx0_9 Mx0_10 Mx0_11 Mx0_12 Mx0_13 My1z6 My2 Mx3_0 Mx4_0 My5 My6) ++ (wS52 K cI cJ cZ cB g0 g1 g2 g3 g4 g5 g6 g7 g8 g9 g10 g11 g12 g13 g14 g15 Ax0_3z4 Ax0_4z4 Ax0_5z4 Ax0_6 Ax0_7 Ax0_8 Ax0_9 Ax0_10 Ax0_11 Ax0_12 Ax0_13 Ax0_14 (0 : Int32) Ax1_2 Ax1_3 Ax1_4 Ax1_5 Ax1_6 Ax1_7 Ax1_8 Ay2 Ax3_5 Ax3_6 Ay4 Ay5 Ay6 Ay7 Ay8 Ax9_6 Ay10 Ay11z4 Ay12 Ay13 Ay14 Ay15)) := hD
          refine lv_aload_n hx hb d_S_assemble_73 rfl (lv_at hl 1 rfl) ?_
          refine va_getN (D := D) (ci := 3) (v := .int Ax0_3z4) (C := "SignMachine$Assembler") (T := F_A) (N := 15) hx hb hk fi_A hown hK.1 hP 8 rfl rfl 3 (by decide) (va_Nw.use rfl (hK.2 _ n_637)) (fun _ h9 => h9) rfl d_S_assemble_74 ?_
          exact W.iret (v := Ax0_3z4) hx hb hr (fun t ht hW => ⟨⟨Ax0_3z4, (0 : Int32), rfl, rfl, ⟨_, isC_8, (by show va_P D classes _ t.heap; rw [ht]; exact hP), hD⟩⟩, hS.F ht⟩) hS.2.2 d_S_assemble_77
      · refine lv_aload_n hx hb d_S_assemble_18 rfl (lv_at hl 1 rfl) ?_
        have hPc := hP.sub (ws' := (wS52 K cI cJ cZ cB g0 g1 g2 g3 g4 g5 g6 g7 g8 g9 g10 g11 g12 g13 g14 g15 Ax0_3 Ax0_4 Ax0_5 Ax0_6 Ax0_7 Ax0_8 Ax0_9 Ax0_10 Ax0_11 Ax0_12 Ax0_13 Ax0_14 Ax1_1 Ax1_2 Ax1_3 Ax1_4 Ax1_5 Ax1_6 Ax1_7 Ax1_8 Ay2 Ax3_5 Ax3_6 Ay4 Ay5 Ay6 Ay7 Ay8 Ax9_6 Ay10 Ay11 Ay12 Ay13 Ay14 Ay15)) [8, 9, 10, 11, 12, 13, 14, 15, 16, 17, 18, 19, 20, 21, 22, 23] rfl
        have hDc := hD.sub (ws' := (wS52 K cI cJ cZ cB g0 g1 g2 g3 g4 g5 g6 g7 g8 g9 g10 g11 g12 g13 g14 g15 Ax0_3 Ax0_4 Ax0_5 Ax0_6 Ax0_7 Ax0_8 Ax0_9 Ax0_10 Ax0_11 Ax0_12 Ax0_13 Ax0_14 Ax1_1 Ax1_2 Ax1_3 Ax1_4 Ax1_5 Ax1_6 Ax1_7 Ax1_8 Ay2 Ax3_5 Ax3_6 Ay4 Ay5 Ay6 Ay7 Ay8 Ax9_6 Ay10 Ay11 Ay12 Ay13 Ay14 Ay15)) [8, 9, 10, 11, 12, 13, 14, 15, 16, 17, 18, 19, 20, 21, 22, 23] (by decide) rfl
        have hFc := va_free (wc := (wS52 K cI cJ cZ cB g0 g1 g2 g3 g4 g5 g6 g7 g8 g9 g10 g11 g12 g13 g14 g15 Ax0_3 Ax0_4 Ax0_5 Ax0_6 Ax0_7 Ax0_8 Ax0_9 Ax0_10 Ax0_11 Ax0_12 Ax0_13 Ax0_14 Ax1_1 Ax1_2 Ax1_3 Ax1_4 Ax1_5 Ax1_6 Ax1_7 Ax1_8 Ay2 Ax3_5 Ax3_6 Ay4 Ay5 Ay6 Ay7 Ay8 Ax9_6 Ay10 Ay11 Ay12 Ay13 Ay14 Ay15)) hD hS hA [8, 9, 10, 11, 12, 13, 14, 15, 16, 17, 18, 19, 20, 21, 22, 23] rfl
        refine va_calli (va_runV (C := "SignMachine$Assembler") (As := []) (rest := []) ⟨hx, hb, hml, hown, hk⟩ (c_A_hasLine_s1 l K D cI cJ cZ cB g0 g1 g2 g3 g4 g5 g6 g7 g8 g9 g10 g11 g12 g13 g14 g15 H.size Ax0_3 Ax0_4 Ax0_5 Ax0_6 Ax0_7 Ax0_8 Ax0_9 Ax0_10 Ax0_11 Ax0_12 Ax0_13 Ax0_14 Ax1_1 Ax1_2 Ax1_3 Ax1_4 Ax1_5 Ax1_6 Ax1_7 Ax1_8 Ay2 Ax3_5 Ax3_6 Ay4 Ay5 Ay6 Ay7 Ay8 Ax9_6 Ay10 Ay11 Ay12 Ay13 Ay14 Ay15  ) (v_A_hasLine_s1 hk k_715 ⟨Nat.le_of_ble_eq_true rfl, Nat.le_of_ble_eq_true rfl⟩) (pMC_v hK hPc hDc hC hS hA (ci := 3) (q0 := 0) rfl rfl rfl) rfl rfl hl.1 rfl (lv_room (Nat.le_of_ble_eq_true rfl)) d_S_assemble_19 ⟨by decide, by decide⟩) hS (fun q _ h => hFc q h) hFc (fun rz7 u t H locs ht hvm hr0 hB hzq hkq hS => ?_)
        obtain ⟨z7, hz7⟩ := hr0
        subst hz7
        obtain ⟨hP1, hD1⟩ := hB
        rw [ht] at hP1
        obtain ⟨hP, hD⟩ := va_join (wr := (wS55 cI cJ cZ cB p0 m0 g0) ++ (wS60 cI cJ cZ cB m0 m1 m2 m3 m4 m5 m6 Mx0_4 Mx0_5 Mx0_6 Mx0_7 Mx0_8 Mx0_9 Mx0_10 Mx0_11 Mx0_12 Mx0_13 My1 My2 Mx3_0 Mx4_0 My5 My6)) (w1 := (wS52 K cI cJ cZ cB g0 g1 g2 g3 g4 g5 g6 g7 g8 g9 g10 g11 g12 g13 g14 g15 Ax0_3 Ax0_4 Ax0_5 Ax0_6 Ax0_7 Ax0_8 Ax0_9 Ax0_10 Ax0_11 Ax0_12 Ax0_13 Ax0_14 Ax1_1 Ax1_2 Ax1_3 Ax1_4 Ax1_5 Ax1_6 Ax1_7 Ax1_8 Ay2 Ax3_5 Ax3_6 Ay4 Ay5 Ay6 Ay7 Ay8 Ax9_6 Ay10 Ay11 Ay12 Ay13 Ay14 Ay15)) hP hD [8, 9, 10, 11, 12, 13, 14, 15, 16, 17, 18, 19, 20, 21, 22, 23] [0, 1, 2, 3, 4, 5, 6, 7] rfl rfl (by decide) (by decide) hkq hFc hP1 hD1
        have hP := hP.sub (ws' := ((wS55 cI cJ cZ cB p0 m0 g0) ++ (wS60 cI cJ cZ cB m0 m1 m2 m3 m4 m5 m6 Mx0_4 Mx0_5 Mx0_6 Mx0_7 Mx0_8 Mx0_9 Mx0_10 Mx0_11 Mx0_12 Mx0_13 My1 My2 Mx3_0 Mx4_0 My5 My6) ++ (wS52 K cI cJ cZ cB g0 g1 g2 g3 g4 g5 g6 g7 g8 g9 g10 g11 g12 g13 g14 g15 Ax0_3 Ax0_4 Ax0_5 Ax0_6 Ax0_7 Ax0_8 Ax0_9 Ax0_10 Ax0_11 Ax0_12 Ax0_13 Ax0_14 Ax1_1 Ax1_2 Ax1_3 Ax1_4 Ax1_5 Ax1_6 Ax1_7 Ax1_8 Ay2 Ax3_5 Ax3_6 Ay4 Ay5 Ay6 Ay7 Ay8 Ax9_6 Ay10 Ay11 Ay12 Ay13 Ay14 Ay15))) [0, 1, 2, 3, 4, 5, 6, 7, 8, 9, 10, 11, 12, 13, 14, 15, 16, 17, 18, 19, 20, 21, 22, 23] rfl
        have hD := hD.sub (ws' := ((wS55 cI cJ cZ cB p0 m0 g0) ++ (wS60 cI cJ cZ cB m0 m1 m2 m3 m4 m5 m6 Mx0_4 Mx0_5 Mx0_6 Mx0_7 Mx0_8 Mx0_9 Mx0_10 Mx0_11 Mx0_12 Mx0_13 My1 My2 Mx3_0 Mx4_0 My5 My6) ++ (wS52 K cI cJ cZ cB g0 g1 g2 g3 g4 g5 g6 g7 g8 g9 g10 g11 g12 g13 g14 g15 Ax0_3 Ax0_4 Ax0_5 Ax0_6 Ax0_7 Ax0_8 Ax0_9 Ax0_10 Ax0_11 Ax0_12 Ax0_13 Ax0_14 Ax1_1 Ax1_2 Ax1_3 Ax1_4 Ax1_5 Ax1_6 Ax1_7 Ax1_8 Ay2 Ax3_5 Ax3_6 Ay4 Ay5 Ay6 Ay7 Ay8 Ax9_6 Ay10 Ay11 Ay12 Ay13 Ay14 Ay15))) [0, 1, 2, 3, 4, 5, 6, 7, 8, 9, 10, 11, 12, 13, 14, 15, 16, 17, 18, 19, 20, 21, 22, 23] (by decide) rfl
        have hP : va_P D classes ((wS55 cI cJ cZ cB p0 m0 g0) ++ (wS60 cI cJ cZ cB m0 m1 m2 m3 m4 m5 m6 Mx0_4 Mx0_5 Mx0_6 Mx0_7 Mx0_8 Mx0_9 Mx0_10 Mx0_11 Mx0_12 Mx0_13 My1 My2 Mx3_0 Mx4_0 My5 My6) ++ (wS52 K cI cJ cZ cB g0 g1 g2 g3 g4 g5 g6 g7 g8 g9 g10 g11 g12 g13 g14 g15 Ax0_3 Ax0_4 Ax0_5 Ax0_6 Ax0_7 Ax0_8 Ax0_9 Ax0_10 Ax0_11 Ax0_12 Ax0_13 Ax0_14 Ax1_1 Ax1_2 Ax1_3 Ax1_4 Ax1_5 Ax1_6 Ax1_7 Ax1_8 Ay2 Ax3_5 Ax3_6 Ay4 Ay5 Ay6 Ay7 Ay8 Ax9_6 Ay10 Ay11 Ay12 Ay13 Ay14 Ay15)) H := hP
        have hD : va_D A ((wS55 cI cJ cZ cB p0 m0 g0) ++ (wS60 cI cJ cZ cB m0 m1 m2 m3 m4 m5 m6 Mx0_4 Mx0_5 Mx0_6 Mx0_7 Mx0_8 Mx0_9 Mx0_10 Mx0_11 Mx0_12 Mx0_13 My1 My2 Mx3_0 Mx4_0 My5 My6) ++ (wS52 K cI cJ cZ cB g0 g1 g2 g3 g4 g5 g6 g7 g8 g9 g10 g11 g12 g13 g14 g15 Ax0_3 Ax0_4 Ax0_5 Ax0_6 Ax0_7 Ax0_8 Ax0_9 Ax0_10 Ax0_11 Ax0_12 Ax0_13 Ax0_14 Ax1_1 Ax1_2 Ax1_3 Ax1_4 Ax1_5 Ax1_6 Ax1_7 Ax1_8 Ay2 Ax3_5 Ax3_6 Ay4 Ay5 Ay6 Ay7 Ay8 Ax9_6 Ay10 Ay11 Ay12 Ay13 Ay14 Ay15)) := hD
        clear hPc hDc hFc
        refine lv_if_eq (tgt := 43) hx hb d_S_assemble_22 (by decide) (fun c8 => ?_) (fun c8 => ?_)
        · refine lv_aload_n hx hb d_S_assemble_43 rfl (lv_at hl 1 rfl) ?_
          have hPc := hP.sub (ws' := (wS52 K cI cJ cZ cB g0 g1 g2 g3 g4 g5 g6 g7 g8 g9 g10 g11 g12 g13 g14 g15 Ax0_3 Ax0_4 Ax0_5 Ax0_6 Ax0_7 Ax0_8 Ax0_9 Ax0_10 Ax0_11 Ax0_12 Ax0_13 Ax0_14 Ax1_1 Ax1_2 Ax1_3 Ax1_4 Ax1_5 Ax1_6 Ax1_7 Ax1_8 Ay2 Ax3_5 Ax3_6 Ay4 Ay5 Ay6 Ay7 Ay8 Ax9_6 Ay10 Ay11 Ay12 Ay13 Ay14 Ay15)) [8, 9, 10, 11, 12, 13, 14, 15, 16, 17, 18, 19, 20, 21, 22, 23] rfl
          have hDc := hD.sub (ws' := (wS52 K cI cJ cZ cB g0 g1 g2 g3 g4 g5 g6 g7 g8 g9 g10 g11 g12 g13 g14 g15 Ax0_3 Ax0_4 Ax0_5 Ax0_6 Ax0_7 Ax0_8 Ax0_9 Ax0_10 Ax0_11 Ax0_12 Ax0_13 Ax0_14 Ax1_1 Ax1_2 Ax1_3 Ax1_4 Ax1_5 Ax1_6 Ax1_7 Ax1_8 Ay2 Ax3_5 Ax3_6 Ay4 Ay5 Ay6 Ay7 Ay8 Ax9_6 Ay10 Ay11 Ay12 Ay13 Ay14 Ay15)) [8, 9, 10, 11, 12, 13, 14, 15, 16, 17, 18, 19, 20, 21, 22, 23] (by decide) rfl
          have hFc := va_free (wc := (wS52 K cI cJ cZ cB g0 g1 g2 g3 g4 g5 g6 g7 g8 g9 g10 g11 g12 g13 g14 g15 Ax0_3 Ax0_4 Ax0_5 Ax0_6 Ax0_7 Ax0_8 Ax0_9 Ax0_10 Ax0_11 Ax0_12 Ax0_13 Ax0_14 Ax1_1 Ax1_2 Ax1_3 Ax1_4 Ax1_5 Ax1_6 Ax1_7 Ax1_8 Ay2 Ax3_5 Ax3_6 Ay4 Ay5 Ay6 Ay7 Ay8 Ax9_6 Ay10 Ay11 Ay12 Ay13 Ay14 Ay15)) hD hS hA [8, 9, 10, 11, 12, 13, 14, 15, 16, 17, 18, 19, 20, 21, 22, 23] rfl
          refine va_callv (va_runV (C := "SignMachine$Assembler") (As := []) (rest := []) ⟨hx, hb, hml, hown, hk⟩ (c_A_finish_s1 l K D cI cJ cZ cB g0 g1 g2 g3 g4 g5 g6 g7 g8 g9 g10 g11 g12 g13 g14 g15 H.size Ax0_3 Ax0_4 Ax0_5 Ax0_6 Ax0_7 Ax0_8 Ax0_9 Ax0_10 Ax0_11 Ax0_12 Ax0_13 Ax0_14 Ax1_1 Ax1_2 Ax1_3 Ax1_4 Ax1_5 Ax1_6 Ax1_7 Ax1_8 Ay2 Ax3_5 Ax3_6 Ay4 Ay5 Ay6 Ay7 Ay8 Ax9_6 Ay10 Ay11 Ay12 Ay13 Ay14 Ay15  ) (v_A_finish_s1 hk k_1074 ⟨Nat.le_of_ble_eq_true rfl, Nat.le_of_ble_eq_true rfl⟩) (pMC_v hK hPc hDc hC hS hA (ci := 3) (q0 := 0) rfl rfl rfl) rfl rfl hl.1 rfl (lv_room (Nat.le_of_ble_eq_true rfl)) d_S_assemble_44 ⟨by decide, by decide⟩) hS (fun q _ h => hFc q h) hFc (fun u t H locs ht hvm hr0 hB hzq hkq hS => ?_)
          obtain ⟨Ax0_3z9, Ax0_4z9, Ax0_5z9, Ax1_1z9, Ay11z9, ex0z9, hP1, hD1⟩ := hB
          subst ex0z9
          rw [ht] at hP1
          obtain ⟨hP, hD⟩ := va_join (wr := (wS55 cI cJ cZ cB p0 m0 g0) ++ (wS60 cI cJ cZ cB m0 m1 m2 m3 m4 m5 m6 Mx0_4 Mx0_5 Mx0_6 Mx0_7 Mx0_8 Mx0_9 Mx0_10 Mx0_11 Mx0_12 Mx0_13 My1 My2 Mx3_0 Mx4_0 My5 My6)) (w1 := (wS52 K cI cJ cZ cB g0 g1 g2 g3 g4 g5 g6 g7 g8 g9 g10 g11 g12 g13 g14 g15 Ax0_3z9 Ax0_4z9 Ax0_5z9 Ax0_6 Ax0_7 Ax0_8 Ax0_9 Ax0_10 Ax0_11 Ax0_12 Ax0_13 Ax0_14 (0 : Int32) Ax1_2 Ax1_3 Ax1_4 Ax1_5 Ax1_6 Ax1_7 Ax1_8 Ay2 Ax3_5 Ax3_6 Ay4 Ay5 Ay6 Ay7 Ay8 Ax9_6 Ay10 Ay11z9 Ay12 Ay13 Ay14 Ay15)) hP hD [8, 9, 10, 11, 12, 13, 14, 15, 16, 17, 18, 19, 20, 21, 22, 23] [0, 1, 2, 3, 4, 5, 6, 7] rfl rfl (by decide) (by decide) hkq hFc hP1 hD1
          have hP := hP.sub (ws' := ((wS55 cI cJ cZ cB p0 m0 g0) ++ (wS60 cI cJ cZ cB m0 m1 m2 m3 m4 m5 m6 Mx0_4 Mx0_5 Mx0_6 Mx0_7 Mx0_8 Mx0_9 Mx0_10 Mx0_11 Mx0_12 Mx0_13 My1 My2 Mx3_0 Mx4_0 My5 My6) ++ (wS52 K cI cJ cZ cB g0 g1 g2 g3 g4 g5 g6 g7 g8 g9 g10 g11 g12 g13 g14 g15 Ax0_3z9 Ax0_4z9 Ax0_5z9 Ax0_6 Ax0_7 Ax0_8 Ax0_9 Ax0_10 Ax0_11 Ax0_12 Ax0_13 Ax0_14 (0 : Int32) Ax1_2 Ax1_3 Ax1_4 Ax1_5 Ax1_6 Ax1_7 Ax1_8 Ay2 Ax3_5 Ax3_6 Ay4 Ay5 Ay6 Ay7 Ay8 Ax9_6 Ay10 Ay11z9 Ay12 Ay13 Ay14 Ay15))) [0, 1, 2, 3, 4, 5, 6, 7, 8, 9, 10, 11, 12, 13, 14, 15, 16, 17, 18, 19, 20, 21, 22, 23] rfl
          have hD := hD.sub (ws' := ((wS55 cI cJ cZ cB p0 m0 g0) ++ (wS60 cI cJ cZ cB m0 m1 m2 m3 m4 m5 m6 Mx0_4 Mx0_5 Mx0_6 Mx0_7 Mx0_8 Mx0_9 Mx0_10 Mx0_11 Mx0_12 Mx0_13 My1 My2 Mx3_0 Mx4_0 My5 My6) ++ (wS52 K cI cJ cZ cB g0 g1 g2 g3 g4 g5 g6 g7 g8 g9 g10 g11 g12 g13 g14 g15 Ax0_3z9 Ax0_4z9 Ax0_5z9 Ax0_6 Ax0_7 Ax0_8 Ax0_9 Ax0_10 Ax0_11 Ax0_12 Ax0_13 Ax0_14 (0 : Int32) Ax1_2 Ax1_3 Ax1_4 Ax1_5 Ax1_6 Ax1_7 Ax1_8 Ay2 Ax3_5 Ax3_6 Ay4 Ay5 Ay6 Ay7 Ay8 Ax9_6 Ay10 Ay11z9 Ay12 Ay13 Ay14 Ay15))) [0, 1, 2, 3, 4, 5, 6, 7, 8, 9, 10, 11, 12, 13, 14, 15, 16, 17, 18, 19, 20, 21, 22, 23] (by decide) rfl
          have hP : va_P D classes ((wS55 cI cJ cZ cB p0 m0 g0) ++ (wS60 cI cJ cZ cB m0 m1 m2 m3 m4 m5 m6 Mx0_4 Mx0_5 Mx0_6 Mx0_7 Mx0_8 Mx0_9 Mx0_10 Mx0_11 Mx0_12 Mx0_13 My1 My2 Mx3_0 Mx4_0 My5 My6) ++ (wS52 K cI cJ cZ cB g0 g1 g2 g3 g4 g5 g6 g7 g8 g9 g10 g11 g12 g13 g14 g15 Ax0_3z9 Ax0_4z9 Ax0_5z9 Ax0_6 Ax0_7 Ax0_8 Ax0_9 Ax0_10 Ax0_11 Ax0_12 Ax0_13 Ax0_14 (0 : Int32) Ax1_2 Ax1_3 Ax1_4 Ax1_5 Ax1_6 Ax1_7 Ax1_8 Ay2 Ax3_5 Ax3_6 Ay4 Ay5 Ay6 Ay7 Ay8 Ax9_6 Ay10 Ay11z9 Ay12 Ay13 Ay14 Ay15)) H := hP
          have hD : va_D A ((wS55 cI cJ cZ cB p0 m0 g0) ++ (wS60 cI cJ cZ cB m0 m1 m2 m3 m4 m5 m6 Mx0_4 Mx0_5 Mx0_6 Mx0_7 Mx0_8 Mx0_9 Mx0_10 Mx0_11 Mx0_12 Mx0_13 My1 My2 Mx3_0 Mx4_0 My5 My6) ++ (wS52 K cI cJ cZ cB g0 g1 g2 g3 g4 g5 g6 g7 g8 g9 g10 g11 g12 g13 g14 g15 Ax0_3z9 Ax0_4z9 Ax0_5z9 Ax0_6 Ax0_7 Ax0_8 Ax0_9 Ax0_10 Ax0_11 Ax0_12 Ax0_13 Ax0_14 (0 : Int32) Ax1_2 Ax1_3 Ax1_4 Ax1_5 Ax1_6 Ax1_7 Ax1_8 Ay2 Ax3_5 Ax3_6 Ay4 Ay5 Ay6 Ay7 Ay8 Ax9_6 Ay10 Ay11z9 Ay12 Ay13 Ay14 Ay15)) := hD
          clear hPc hDc hFc
          refine lv_aload_n hx hb d_S_assemble_47 rfl (lv_at hl 1 rfl) ?_
          refine va_getN (D := D) (ci := 3) (v := .int Ax0_3z9) (C := "SignMachine$Assembler") (T := F_A) (N := 15) hx hb hk fi_A hown hK.1 hP 8 rfl rfl 3 (by decide) (va_Nw.use rfl (hK.2 _ n_637)) (fun _ h9 => h9) rfl d_S_assemble_48 ?_
          refine lv_if_ne (tgt := 73) hx hb d_S_assemble_51 (by decide) (fun c10 => ?_) (fun c10 => ?_)
          · refine lv_aload_n hx hb d_S_assemble_73 rfl (lv_at hl 1 rfl) ?_
            refine va_getN (D := D) (ci := 3) (v := .int Ax0_3z9) (C := "SignMachine$Assembler") (T := F_A) (N := 15) hx hb hk fi_A hown hK.1 hP 8 rfl rfl 3 (by decide) (va_Nw.use rfl (hK.2 _ n_637)) (fun _ h9 => h9) rfl d_S_assemble_74 ?_
            exact W.iret (v := Ax0_3z9) hx hb hr (fun t ht hW => ⟨⟨Ax0_3z9, (0 : Int32), rfl, rfl, ⟨_, isC_8, (by show va_P D classes _ t.heap; rw [ht]; exact hP), hD⟩⟩, hS.F ht⟩) hS.2.2 d_S_assemble_77
          · refine lv_aload_n hx hb d_S_assemble_54 rfl (lv_at hl 2 rfl) ?_
            refine lv_aload_n hx hb d_S_assemble_55 rfl (lv_at hl 1 rfl) ?_
            refine va_getN (D := D) (ci := 3) (v := .ref g9) (C := "SignMachine$Assembler") (T := F_A) (N := 15) hx hb hk fi_A hown hK.1 hP 8 rfl rfl 2 (by decide) (va_Nw.use rfl (hK.2 _ n_635)) (fun _ h9 => h9) rfl d_S_assemble_56 ?_
            refine kn_v (va_runV (C := "SignMachine") (As := [.ref g9]) (rest := []) ⟨hx, hb, hml, hown, hk⟩ (c_S_load_b4 l K D cI cJ cZ cB p0 m0 m1 m2 m3 m4 m5 m6 g0 g1 g2 g3 g4 g5 g6 g7 g8 g9 g10 g11 g12 g13 g14 g15 H.size Mx0_4 Mx0_5 Mx0_6 Mx0_7 Mx0_8 Mx0_9 Mx0_10 Mx0_11 Mx0_12 Mx0_13 My1 My2 Mx3_0 Mx4_0 My5 My6 Ax0_3z9 Ax0_4z9 Ax0_5z9 Ax0_6 Ax0_7 Ax0_8 Ax0_9 Ax0_10 Ax0_11 Ax0_12 Ax0_13 Ax0_14 (0 : Int32) Ax1_2 Ax1_3 Ax1_4 Ax1_5 Ax1_6 Ax1_7 Ax1_8 Ay2 Ax3_5 Ax3_6 Ay4 Ay5 Ay6 Ay7 Ay8 Ax9_6 Ay10 Ay11z9 Ay12 Ay13 Ay14 Ay15 ) (v_S_load_b4 hk k_1099 ⟨Nat.le_of_ble_eq_true rfl, Nat.le_of_ble_eq_true rfl⟩) (pMC_v hK hP hD hC hS hA (ci := 0) (q0 := 0) rfl rfl rfl) rfl rfl hl.1 rfl (lv_room (Nat.le_of_ble_eq_true rfl)) d_S_assemble_59 ⟨by decide, by decide⟩) hS hA hD (fun u t H locs ht hB hFr hS => ?_)
            obtain ⟨My1z11, hP, hD⟩ := hB
            rw [ht] at hP
            have hD := dwk hD hFr
            clear ht hFr
            have hP : va_P D classes ((wS55 cI cJ cZ cB p0 m0 g0) ++ (wS60 cI cJ cZ cB m0 m1 m2 m3 m4 m5 m6 Mx0_4 Mx0_5 Mx0_6 Mx0_7 Mx0_8 Mx0_9 Mx0_10 Mx0_11 Mx0_12 Mx0_13 My1z11 My2 Mx3_0 Mx4_0 My5 My6) ++ (wS52 K cI cJ cZ cB g0 g1 g2 g3 g4 g5 g6 g7 g8 g9 g10 g11 g12 g13 g14 g15 Ax0_3z9 Ax0_4z9 Ax0_5z9 Ax0_6 Ax0_7 Ax0_8 Ax0_9 Ax0_10 Ax0_11 Ax0_12 Ax0_13 Ax0_14 (0 : Int32) Ax1_2 Ax1_3 Ax1_4 Ax1_5 Ax1_6 Ax1_7 Ax1_8 Ay2 Ax3_5 Ax3_6 Ay4 Ay5 Ay6 Ay7 Ay8 Ax9_6 Ay10 Ay11z9 Ay12 Ay13 Ay14 Ay15)) H := hP
            have hD : va_D A ((wS55 cI cJ cZ cB p0 m0 g0) ++ (wS60 cI cJ cZ cB m0 m1 m2 m3 m4 m5 m6 Mx0_4 Mx0_5 Mx0_6 Mx0_7 Mx0_8 Mx0_9 Mx0_10 Mx0_11 Mx0_12 Mx0_13 My1z11 My2 Mx3_0 Mx4_0 My5 My6) ++ (wS52 K cI cJ cZ cB g0 g1 g2 g3 g4 g5 g6 g7 g8 g9 g10 g11 g12 g13 g14 g15 Ax0_3z9 Ax0_4z9 Ax0_5z9 Ax0_6 Ax0_7 Ax0_8 Ax0_9 Ax0_10 Ax0_11 Ax0_12 Ax0_13 Ax0_14 (0 : Int32) Ax1_2 Ax1_3 Ax1_4 Ax1_5 Ax1_6 Ax1_7 Ax1_8 Ay2 Ax3_5 Ax3_6 Ay4 Ay5 Ay6 Ay7 Ay8 Ax9_6 Ay10 Ay11z9 Ay12 Ay13 Ay14 Ay15)) := hD
            refine lv_aload_n hx hb d_S_assemble_62 rfl (lv_at hl 2 rfl) ?_
            refine va_get (D := D) (ci := 0) (v := .ref m0) (C := "SignMachine") (T := F_S) (N := 2) hx hb hk fi_S hown hK.1 hP 0 rfl rfl 0 (by decide) (hk _ k_210) (fun _ h9 => h9) rfl d_S_assemble_63 ?_
            refine lv_aload_n hx hb d_S_assemble_66 rfl (lv_at hl 1 rfl) ?_
            refine va_getN (D := D) (ci := 3) (v := .int Ax0_6) (C := "SignMachine$Assembler") (T := F_A) (N := 15) hx hb hk fi_A hown hK.1 hP 8 rfl rfl 6 (by decide) (va_Nw.use rfl (hK.2 _ n_642)) (fun _ h9 => h9) rfl d_S_assemble_67 ?_
            refine va_putN (D := D) (ci := 1) (v := .int Ax0_6) (ty := .int) (C := "SignMachine$Machine") (T := F_M) (N := 14) hx hb hk fi_M ft_M ft_M_ok fn_M hown hK.1 hP hD hS 1 rfl rfl 7 (by decide) (va_Nw.use rfl (hK.2 _ n_173)) (fun _ h9 => h9) rfl (by decide +kernel) rfl rfl (Nat.le_of_ble_eq_true rfl) d_S_assemble_70 (fun H locs hP hD hS => ?_)
            have hP : va_P D classes ((wS55 cI cJ cZ cB p0 m0 g0) ++ (wS60 cI cJ cZ cB m0 m1 m2 m3 m4 m5 m6 Mx0_4 Mx0_5 Mx0_6 Ax0_6 Mx0_8 Mx0_9 Mx0_10 Mx0_11 Mx0_12 Mx0_13 My1z11 My2 Mx3_0 Mx4_0 My5 My6) ++ (wS52 K cI cJ cZ cB g0 g1 g2 g3 g4 g5 g6 g7 g8 g9 g10 g11 g12 g13 g14 g15 Ax0_3z9 Ax0_4z9 Ax0_5z9 Ax0_6 Ax0_7 Ax0_8 Ax0_9 Ax0_10 Ax0_11 Ax0_12 Ax0_13 Ax0_14 (0 : Int32) Ax1_2 Ax1_3 Ax1_4 Ax1_5 Ax1_6 Ax1_7 Ax1_8 Ay2 Ax3_5 Ax3_6 Ay4 Ay5 Ay6 Ay7 Ay8 Ax9_6 Ay10 Ay11z9 Ay12 Ay13 Ay14 Ay15)) H := hP
            have hD : va_D A ((wS55 cI cJ cZ cB p0 m0 g0) ++ (wS60 cI cJ cZ cB m0 m1 m2 m3 m4 m5 m6 Mx0_4 Mx0_5 Mx0_6 Ax0_6 Mx0_8 Mx0_9 Mx0_10 Mx0_11 Mx0_12 Mx0_13 My1z11 My2 Mx3_0 Mx4_0 My5 My6) ++ (wS52 K cI cJ cZ cB g0 g1 g2 g3 g4 g5 g6 g7 g8 g9 g10 g11 g12 g13 g14 g15 Ax0_3z9 Ax0_4z9 Ax0_5z9 Ax0_6 Ax0_7 Ax0_8 Ax0_9 Ax0_10 Ax0_11 Ax0_12 Ax0_13 Ax0_14 (0 : Int32) Ax1_2 Ax1_3 Ax1_4 Ax1_5 Ax1_6 Ax1_7 Ax1_8 Ay2 Ax3_5 Ax3_6 Ay4 Ay5 Ay6 Ay7 Ay8 Ax9_6 Ay10 Ay11z9 Ay12 Ay13 Ay14 Ay15)) := hD
            refine lv_aload_n hx hb d_S_assemble_73 rfl (lv_at hl 1 rfl) ?_
            refine va_getN (D := D) (ci := 3) (v := .int Ax0_3z9) (C := "SignMachine$Assembler") (T := F_A) (N := 15) hx hb hk fi_A hown hK.1 hP 8 rfl rfl 3 (by decide) (va_Nw.use rfl (hK.2 _ n_637)) (fun _ h9 => h9) rfl d_S_assemble_74 ?_
            exact W.iret (v := Ax0_3z9) hx hb hr (fun t ht hW => ⟨⟨Ax0_3z9, (0 : Int32), rfl, rfl, ⟨_, isC_8, (by show va_P D classes _ t.heap; rw [ht]; exact hP), hD⟩⟩, hS.F ht⟩) hS.2.2 d_S_assemble_77
        · refine lv_aload_n hx hb d_S_assemble_25 rfl (lv_at hl 1 rfl) ?_
          have hPc := hP.sub (ws' := (wS52 K cI cJ cZ cB g0 g1 g2 g3 g4 g5 g6 g7 g8 g9 g10 g11 g12 g13 g14 g15 Ax0_3 Ax0_4 Ax0_5 Ax0_6 Ax0_7 Ax0_8 Ax0_9 Ax0_10 Ax0_11 Ax0_12 Ax0_13 Ax0_14 Ax1_1 Ax1_2 Ax1_3 Ax1_4 Ax1_5 Ax1_6 Ax1_7 Ax1_8 Ay2 Ax3_5 Ax3_6 Ay4 Ay5 Ay6 Ay7 Ay8 Ax9_6 Ay10 Ay11 Ay12 Ay13 Ay14 Ay15)) [8, 9, 10, 11, 12, 13, 14, 15, 16, 17, 18, 19, 20, 21, 22, 23] rfl
          have hDc := hD.sub (ws' := (wS52 K cI cJ cZ cB g0 g1 g2 g3 g4 g5 g6 g7 g8 g9 g10 g11 g12 g13 g14 g15 Ax0_3 Ax0_4 Ax0_5 Ax0_6 Ax0_7 Ax0_8 Ax0_9 Ax0_10 Ax0_11 Ax0_12 Ax0_13 Ax0_14 Ax1_1 Ax1_2 Ax1_3 Ax1_4 Ax1_5 Ax1_6 Ax1_7 Ax1_8 Ay2 Ax3_5 Ax3_6 Ay4 Ay5 Ay6 Ay7 Ay8 Ax9_6 Ay10 Ay11 Ay12 Ay13 Ay14 Ay15)) [8, 9, 10, 11, 12, 13, 14, 15, 16, 17, 18, 19, 20, 21, 22, 23] (by decide) rfl
          have hFc := va_free (wc := (wS52 K cI cJ cZ cB g0 g1 g2 g3 g4 g5 g6 g7 g8 g9 g10 g11 g12 g13 g14 g15 Ax0_3 Ax0_4 Ax0_5 Ax0_6 Ax0_7 Ax0_8 Ax0_9 Ax0_10 Ax0_11 Ax0_12 Ax0_13 Ax0_14 Ax1_1 Ax1_2 Ax1_3 Ax1_4 Ax1_5 Ax1_6 Ax1_7 Ax1_8 Ay2 Ax3_5 Ax3_6 Ay4 Ay5 Ay6 Ay7 Ay8 Ax9_6 Ay10 Ay11 Ay12 Ay13 Ay14 Ay15)) hD hS hA [8, 9, 10, 11, 12, 13, 14, 15, 16, 17, 18, 19, 20, 21, 22, 23] rfl
          refine va_callv (va_runV (C := "SignMachine$Assembler") (As := []) (rest := []) ⟨hx, hb, hml, hown, hk⟩ (c_A_takeHead_s1 l K D cI cJ cZ cB g0 g1 g2 g3 g4 g5 g6 g7 g8 g9 g10 g11 g12 g13 g14 g15 H.size Ax0_3 Ax0_4 Ax0_5 Ax0_6 Ax0_7 Ax0_8 Ax0_9 Ax0_10 Ax0_11 Ax0_12 Ax0_13 Ax0_14 Ax1_1 Ax1_2 Ax1_3 Ax1_4 Ax1_5 Ax1_6 Ax1_7 Ax1_8 Ay2 Ax3_5 Ax3_6 Ay4 Ay5 Ay6 Ay7 Ay8 Ax9_6 Ay10 Ay11 Ay12 Ay13 Ay14 Ay15  ) (v_A_takeHead_s1 hk k_723 ⟨Nat.le_of_ble_eq_true rfl, Nat.le_of_ble_eq_true rfl⟩) (pMC_v hK hPc hDc hC hS hA (ci := 3) (q0 := 0) rfl rfl rfl) rfl rfl hl.1 rfl (lv_room (Nat.le_of_ble_eq_true rfl)) d_S_assemble_26 ⟨by decide, by decide⟩) hS (fun q _ h => hFc q h) hFc (fun u t H locs ht hvm hr0 hB hzq hkq hS => ?_)
          obtain ⟨Ax0_3z12, Ax0_4z12, Ax0_9z12, Ax0_10z12, Ax0_11z12, Ax0_12z12, Ax1_2z12, Ax1_3z12, Ax1_4z12, Ax1_5z12, Ax1_6z12, Ax1_7z12, Ax1_8z12, Ax3_5z12, Ax3_6z12, Ay4z12, Ay5z12, Ay6z12, Ay13z12, Ay14z12, Ay15z12, hP1, hD1⟩ := hB
          rw [ht] at hP1
          obtain ⟨hP, hD⟩ := va_join (wr := (wS55 cI cJ cZ cB p0 m0 g0) ++ (wS60 cI cJ cZ cB m0 m1 m2 m3 m4 m5 m6 Mx0_4 Mx0_5 Mx0_6 Mx0_7 Mx0_8 Mx0_9 Mx0_10 Mx0_11 Mx0_12 Mx0_13 My1 My2 Mx3_0 Mx4_0 My5 My6)) (w1 := (wS52 K cI cJ cZ cB g0 g1 g2 g3 g4 g5 g6 g7 g8 g9 g10 g11 g12 g13 g14 g15 Ax0_3z12 Ax0_4z12 Ax0_5 Ax0_6 Ax0_7 Ax0_8 Ax0_9z12 Ax0_10z12 Ax0_11z12 Ax0_12z12 Ax0_13 Ax0_14 Ax1_1 Ax1_2z12 Ax1_3z12 Ax1_4z12 Ax1_5z12 Ax1_6z12 Ax1_7z12 Ax1_8z12 Ay2 Ax3_5z12 Ax3_6z12 Ay4z12 Ay5z12 Ay6z12 Ay7 Ay8 Ax9_6 Ay10 Ay11 Ay12 Ay13z12 Ay14z12 Ay15z12)) hP hD [8, 9, 10, 11, 12, 13, 14, 15, 16, 17, 18, 19, 20, 21, 22, 23] [0, 1, 2, 3, 4, 5, 6, 7] rfl rfl (by decide) (by decide) hkq hFc hP1 hD1
          have hP := hP.sub (ws' := ((wS55 cI cJ cZ cB p0 m0 g0) ++ (wS60 cI cJ cZ cB m0 m1 m2 m3 m4 m5 m6 Mx0_4 Mx0_5 Mx0_6 Mx0_7 Mx0_8 Mx0_9 Mx0_10 Mx0_11 Mx0_12 Mx0_13 My1 My2 Mx3_0 Mx4_0 My5 My6) ++ (wS52 K cI cJ cZ cB g0 g1 g2 g3 g4 g5 g6 g7 g8 g9 g10 g11 g12 g13 g14 g15 Ax0_3z12 Ax0_4z12 Ax0_5 Ax0_6 Ax0_7 Ax0_8 Ax0_9z12 Ax0_10z12 Ax0_11z12 Ax0_12z12 Ax0_13 Ax0_14 Ax1_1 Ax1_2z12 Ax1_3z12 Ax1_4z12 Ax1_5z12 Ax1_6z12 Ax1_7z12 Ax1_8z12 Ay2 Ax3_5z12 Ax3_6z12 Ay4z12 Ay5z12 Ay6z12 Ay7 Ay8 Ax9_6 Ay10 Ay11 Ay12 Ay13z12 Ay14z12 Ay15z12))) [0, 1, 2, 3, 4, 5, 6, 7, 8, 9, 10, 11, 12, 13, 14, 15, 16, 17, 18, 19, 20, 21, 22, 23] rfl
          have hD := hD.sub (ws' := ((wS55 cI cJ cZ cB p0 m0 g0) ++ (wS60 cI cJ cZ cB m0 m1 m2 m3 m4 m5 m6 Mx0_4 Mx0_5 Mx0_6 Mx0_7 Mx0_8 Mx0_9 Mx0_10 Mx0_11 Mx0_12 Mx0_13 My1 My2 Mx3_0 Mx4_0 My5 My6) ++ (wS52 K cI cJ cZ cB g0 g1 g2 g3 g4 g5 g6 g7 g8 g9 g10 g11 g12 g13 g14 g15 Ax0_3z12 Ax0_4z12 Ax0_5 Ax0_6 Ax0_7 Ax0_8 Ax0_9z12 Ax0_10z12 Ax0_11z12 Ax0_12z12 Ax0_13 Ax0_14 Ax1_1 Ax1_2z12 Ax1_3z12 Ax1_4z12 Ax1_5z12 Ax1_6z12 Ax1_7z12 Ax1_8z12 Ay2 Ax3_5z12 Ax3_6z12 Ay4z12 Ay5z12 Ay6z12 Ay7 Ay8 Ax9_6 Ay10 Ay11 Ay12 Ay13z12 Ay14z12 Ay15z12))) [0, 1, 2, 3, 4, 5, 6, 7, 8, 9, 10, 11, 12, 13, 14, 15, 16, 17, 18, 19, 20, 21, 22, 23] (by decide) rfl
          have hP : va_P D classes ((wS55 cI cJ cZ cB p0 m0 g0) ++ (wS60 cI cJ cZ cB m0 m1 m2 m3 m4 m5 m6 Mx0_4 Mx0_5 Mx0_6 Mx0_7 Mx0_8 Mx0_9 Mx0_10 Mx0_11 Mx0_12 Mx0_13 My1 My2 Mx3_0 Mx4_0 My5 My6) ++ (wS52 K cI cJ cZ cB g0 g1 g2 g3 g4 g5 g6 g7 g8 g9 g10 g11 g12 g13 g14 g15 Ax0_3z12 Ax0_4z12 Ax0_5 Ax0_6 Ax0_7 Ax0_8 Ax0_9z12 Ax0_10z12 Ax0_11z12 Ax0_12z12 Ax0_13 Ax0_14 Ax1_1 Ax1_2z12 Ax1_3z12 Ax1_4z12 Ax1_5z12 Ax1_6z12 Ax1_7z12 Ax1_8z12 Ay2 Ax3_5z12 Ax3_6z12 Ay4z12 Ay5z12 Ay6z12 Ay7 Ay8 Ax9_6 Ay10 Ay11 Ay12 Ay13z12 Ay14z12 Ay15z12)) H := hP
          have hD : va_D A ((wS55 cI cJ cZ cB p0 m0 g0) ++ (wS60 cI cJ cZ cB m0 m1 m2 m3 m4 m5 m6 Mx0_4 Mx0_5 Mx0_6 Mx0_7 Mx0_8 Mx0_9 Mx0_10 Mx0_11 Mx0_12 Mx0_13 My1 My2 Mx3_0 Mx4_0 My5 My6) ++ (wS52 K cI cJ cZ cB g0 g1 g2 g3 g4 g5 g6 g7 g8 g9 g10 g11 g12 g13 g14 g15 Ax0_3z12 Ax0_4z12 Ax0_5 Ax0_6 Ax0_7 Ax0_8 Ax0_9z12 Ax0_10z12 Ax0_11z12 Ax0_12z12 Ax0_13 Ax0_14 Ax1_1 Ax1_2z12 Ax1_3z12 Ax1_4z12 Ax1_5z12 Ax1_6z12 Ax1_7z12 Ax1_8z12 Ay2 Ax3_5z12 Ax3_6z12 Ay4z12 Ay5z12 Ay6z12 Ay7 Ay8 Ax9_6 Ay10 Ay11 Ay12 Ay13z12 Ay14z12 Ay15z12)) := hD
          clear hPc hDc hFc
          refine lv_aload_n hx hb d_S_assemble_29 rfl (lv_at hl 1 rfl) ?_
          have hPc := hP.sub (ws' := (wS52 K cI cJ cZ cB g0 g1 g2 g3 g4 g5 g6 g7 g8 g9 g10 g11 g12 g13 g14 g15 Ax0_3z12 Ax0_4z12 Ax0_5 Ax0_6 Ax0_7 Ax0_8 Ax0_9z12 Ax0_10z12 Ax0_11z12 Ax0_12z12 Ax0_13 Ax0_14 Ax1_1 Ax1_2z12 Ax1_3z12 Ax1_4z12 Ax1_5z12 Ax1_6z12 Ax1_7z12 Ax1_8z12 Ay2 Ax3_5z12 Ax3_6z12 Ay4z12 Ay5z12 Ay6z12 Ay7 Ay8 Ax9_6 Ay10 Ay11 Ay12 Ay13z12 Ay14z12 Ay15z12)) [8, 9, 10, 11, 12, 13, 14, 15, 16, 17, 18, 19, 20, 21, 22, 23] rfl
          have hDc := hD.sub (ws' := (wS52 K cI cJ cZ cB g0 g1 g2 g3 g4 g5 g6 g7 g8 g9 g10 g11 g12 g13 g14 g15 Ax0_3z12 Ax0_4z12 Ax0_5 Ax0_6 Ax0_7 Ax0_8 Ax0_9z12 Ax0_10z12 Ax0_11z12 Ax0_12z12 Ax0_13 Ax0_14 Ax1_1 Ax1_2z12 Ax1_3z12 Ax1_4z12 Ax1_5z12 Ax1_6z12 Ax1_7z12 Ax1_8z12 Ay2 Ax3_5z12 Ax3_6z12 Ay4z12 Ay5z12 Ay6z12 Ay7 Ay8 Ax9_6 Ay10 Ay11 Ay12 Ay13z12 Ay14z12 Ay15z12)) [8, 9, 10, 11, 12, 13, 14, 15, 16, 17, 18, 19, 20, 21, 22, 23] (by decide) rfl
          have hFc := va_free (wc := (wS52 K cI cJ cZ cB g0 g1 g2 g3 g4 g5 g6 g7 g8 g9 g10 g11 g12 g13 g14 g15 Ax0_3z12 Ax0_4z12 Ax0_5 Ax0_6 Ax0_7 Ax0_8 Ax0_9z12 Ax0_10z12 Ax0_11z12 Ax0_12z12 Ax0_13 Ax0_14 Ax1_1 Ax1_2z12 Ax1_3z12 Ax1_4z12 Ax1_5z12 Ax1_6z12 Ax1_7z12 Ax1_8z12 Ay2 Ax3_5z12 Ax3_6z12 Ay4z12 Ay5z12 Ay6z12 Ay7 Ay8 Ax9_6 Ay10 Ay11 Ay12 Ay13z12 Ay14z12 Ay15z12)) hD hS hA [8, 9, 10, 11, 12, 13, 14, 15, 16, 17, 18, 19, 20, 21, 22, 23] rfl
          refine va_callv (va_runV (C := "SignMachine$Assembler") (As := []) (rest := []) ⟨hx, hb, hml, hown, hk⟩ (c_A_takeArgument_s1 l K D cI cJ cZ cB g0 g1 g2 g3 g4 g5 g6 g7 g8 g9 g10 g11 g12 g13 g14 g15 H.size Ax0_3z12 Ax0_4z12 Ax0_5 Ax0_6 Ax0_7 Ax0_8 Ax0_9z12 Ax0_10z12 Ax0_11z12 Ax0_12z12 Ax0_13 Ax0_14 Ax1_1 Ax1_2z12 Ax1_3z12 Ax1_4z12 Ax1_5z12 Ax1_6z12 Ax1_7z12 Ax1_8z12 Ay2 Ax3_5z12 Ax3_6z12 Ay4z12 Ay5z12 Ay6z12 Ay7 Ay8 Ax9_6 Ay10 Ay11 Ay12 Ay13z12 Ay14z12 Ay15z12  ) (v_A_takeArgument_s1 hk k_944 ⟨Nat.le_of_ble_eq_true rfl, Nat.le_of_ble_eq_true rfl⟩) (pMC_v hK hPc hDc hC hS hA (ci := 3) (q0 := 0) rfl rfl rfl) rfl rfl hl.1 rfl (lv_room (Nat.le_of_ble_eq_true rfl)) d_S_assemble_30 ⟨by decide, by decide⟩) hS (fun q _ h => hFc q h) hFc (fun u t H locs ht hvm hr0 hB hzq hkq hS => ?_)
          obtain ⟨Ax0_3z13, Ax0_4z13, Ax0_5z13, Ax0_6z13, Ax0_7z13, Ax0_8z13, Ax0_10z13, Ax0_11z13, Ax0_13z13, Ax0_14z13, Ax1_3z13, Ax1_6z13, Ax1_7z13, Ax1_8z13, Ax3_5z13, Ax3_6z13, Ay4z13, Ay5z13, Ay6z13, Ax9_6z13, Ay10z13, Ay11z13, Ay12z13, Ay13z13, Ay14z13, Ay15z13, hP1, hD1⟩ := hB
          rw [ht] at hP1
          obtain ⟨hP, hD⟩ := va_join (wr := (wS55 cI cJ cZ cB p0 m0 g0) ++ (wS60 cI cJ cZ cB m0 m1 m2 m3 m4 m5 m6 Mx0_4 Mx0_5 Mx0_6 Mx0_7 Mx0_8 Mx0_9 Mx0_10 Mx0_11 Mx0_12 Mx0_13 My1 My2 Mx3_0 Mx4_0 My5 My6)) (w1 := (wS52 K cI cJ cZ cB g0 g1 g2 g3 g4 g5 g6 g7 g8 g9 g10 g11 g12 g13 g14 g15 Ax0_3z13 Ax0_4z13 Ax0_5z13 Ax0_6z13 Ax0_7z13 Ax0_8z13 Ax0_9z12 Ax0_10z13 Ax0_11z13 Ax0_12z12 Ax0_13z13 Ax0_14z13 Ax1_1 Ax1_2z12 Ax1_3z13 Ax1_4z12 Ax1_5z12 Ax1_6z13 Ax1_7z13 Ax1_8z13 Ay2 Ax3_5z13 Ax3_6z13 Ay4z13 Ay5z13 Ay6z13 Ay7 Ay8 Ax9_6z13 Ay10z13 Ay11z13 Ay12z13 Ay13z13 Ay14z13 Ay15z13)) hP hD [8, 9, 10, 11, 12, 13, 14, 15, 16, 17, 18, 19, 20, 21, 22, 23] [0, 1, 2, 3, 4, 5, 6, 7] rfl rfl (by decide) (by decide) hkq hFc hP1 hD1
          have hP := hP.sub (ws' := ((wS55 cI cJ cZ cB p0 m0 g0) ++ (wS60 cI cJ cZ cB m0 m1 m2 m3 m4 m5 m6 Mx0_4 Mx0_5 Mx0_6 Mx0_7 Mx0_8 Mx0_9 Mx0_10 Mx0_11 Mx0_12 Mx0_13 My1 My2 Mx3_0 Mx4_0 My5 My6) ++ (wS52 K cI cJ cZ cB g0 g1 g2 g3 g4 g5 g6 g7 g8 g9 g10 g11 g12 g13 g14 g15 Ax0_3z13 Ax0_4z13 Ax0_5z13 Ax0_6z13 Ax0_7z13 Ax0_8z13 Ax0_9z12 Ax0_10z13 Ax0_11z13 Ax0_12z12 Ax0_13z13 Ax0_14z13 Ax1_1 Ax1_2z12 Ax1_3z13 Ax1_4z12 Ax1_5z12 Ax1_6z13 Ax1_7z13 Ax1_8z13 Ay2 Ax3_5z13 Ax3_6z13 Ay4z13 Ay5z13 Ay6z13 Ay7 Ay8 Ax9_6z13 Ay10z13 Ay11z13 Ay12z13 Ay13z13 Ay14z13 Ay15z13))) [0, 1, 2, 3, 4, 5, 6, 7, 8, 9, 10, 11, 12, 13, 14, 15, 16, 17, 18, 19, 20, 21, 22, 23] rfl
          have hD := hD.sub (ws' := ((wS55 cI cJ cZ cB p0 m0 g0) ++ (wS60 cI cJ cZ cB m0 m1 m2 m3 m4 m5 m6 Mx0_4 Mx0_5 Mx0_6 Mx0_7 Mx0_8 Mx0_9 Mx0_10 Mx0_11 Mx0_12 Mx0_13 My1 My2 Mx3_0 Mx4_0 My5 My6) ++ (wS52 K cI cJ cZ cB g0 g1 g2 g3 g4 g5 g6 g7 g8 g9 g10 g11 g12 g13 g14 g15 Ax0_3z13 Ax0_4z13 Ax0_5z13 Ax0_6z13 Ax0_7z13 Ax0_8z13 Ax0_9z12 Ax0_10z13 Ax0_11z13 Ax0_12z12 Ax0_13z13 Ax0_14z13 Ax1_1 Ax1_2z12 Ax1_3z13 Ax1_4z12 Ax1_5z12 Ax1_6z13 Ax1_7z13 Ax1_8z13 Ay2 Ax3_5z13 Ax3_6z13 Ay4z13 Ay5z13 Ay6z13 Ay7 Ay8 Ax9_6z13 Ay10z13 Ay11z13 Ay12z13 Ay13z13 Ay14z13 Ay15z13))) [0, 1, 2, 3, 4, 5, 6, 7, 8, 9, 10, 11, 12, 13, 14, 15, 16, 17, 18, 19, 20, 21, 22, 23] (by decide) rfl
          have hP : va_P D classes ((wS55 cI cJ cZ cB p0 m0 g0) ++ (wS60 cI cJ cZ cB m0 m1 m2 m3 m4 m5 m6 Mx0_4 Mx0_5 Mx0_6 Mx0_7 Mx0_8 Mx0_9 Mx0_10 Mx0_11 Mx0_12 Mx0_13 My1 My2 Mx3_0 Mx4_0 My5 My6) ++ (wS52 K cI cJ cZ cB g0 g1 g2 g3 g4 g5 g6 g7 g8 g9 g10 g11 g12 g13 g14 g15 Ax0_3z13 Ax0_4z13 Ax0_5z13 Ax0_6z13 Ax0_7z13 Ax0_8z13 Ax0_9z12 Ax0_10z13 Ax0_11z13 Ax0_12z12 Ax0_13z13 Ax0_14z13 Ax1_1 Ax1_2z12 Ax1_3z13 Ax1_4z12 Ax1_5z12 Ax1_6z13 Ax1_7z13 Ax1_8z13 Ay2 Ax3_5z13 Ax3_6z13 Ay4z13 Ay5z13 Ay6z13 Ay7 Ay8 Ax9_6z13 Ay10z13 Ay11z13 Ay12z13 Ay13z13 Ay14z13 Ay15z13)) H := hP
          have hD : va_D A ((wS55 cI cJ cZ cB p0 m0 g0) ++ (wS60 cI cJ cZ cB m0 m1 m2 m3 m4 m5 m6 Mx0_4 Mx0_5 Mx0_6 Mx0_7 Mx0_8 Mx0_9 Mx0_10 Mx0_11 Mx0_12 Mx0_13 My1 My2 Mx3_0 Mx4_0 My5 My6) ++ (wS52 K cI cJ cZ cB g0 g1 g2 g3 g4 g5 g6 g7 g8 g9 g10 g11 g12 g13 g14 g15 Ax0_3z13 Ax0_4z13 Ax0_5z13 Ax0_6z13 Ax0_7z13 Ax0_8z13 Ax0_9z12 Ax0_10z13 Ax0_11z13 Ax0_12z12 Ax0_13z13 Ax0_14z13 Ax1_1 Ax1_2z12 Ax1_3z13 Ax1_4z12 Ax1_5z12 Ax1_6z13 Ax1_7z13 Ax1_8z13 Ay2 Ax3_5z13 Ax3_6z13 Ay4z13 Ay5z13 Ay6z13 Ay7 Ay8 Ax9_6z13 Ay10z13 Ay11z13 Ay12z13 Ay13z13 Ay14z13 Ay15z13)) := hD
          clear hPc hDc hFc
          refine lv_aload_n hx hb d_S_assemble_33 rfl (lv_at hl 1 rfl) ?_
          have hPc := hP.sub (ws' := (wS52 K cI cJ cZ cB g0 g1 g2 g3 g4 g5 g6 g7 g8 g9 g10 g11 g12 g13 g14 g15 Ax0_3z13 Ax0_4z13 Ax0_5z13 Ax0_6z13 Ax0_7z13 Ax0_8z13 Ax0_9z12 Ax0_10z13 Ax0_11z13 Ax0_12z12 Ax0_13z13 Ax0_14z13 Ax1_1 Ax1_2z12 Ax1_3z13 Ax1_4z12 Ax1_5z12 Ax1_6z13 Ax1_7z13 Ax1_8z13 Ay2 Ax3_5z13 Ax3_6z13 Ay4z13 Ay5z13 Ay6z13 Ay7 Ay8 Ax9_6z13 Ay10z13 Ay11z13 Ay12z13 Ay13z13 Ay14z13 Ay15z13)) [8, 9, 10, 11, 12, 13, 14, 15, 16, 17, 18, 19, 20, 21, 22, 23] rfl
          have hDc := hD.sub (ws' := (wS52 K cI cJ cZ cB g0 g1 g2 g3 g4 g5 g6 g7 g8 g9 g10 g11 g12 g13 g14 g15 Ax0_3z13 Ax0_4z13 Ax0_5z13 Ax0_6z13 Ax0_7z13 Ax0_8z13 Ax0_9z12 Ax0_10z13 Ax0_11z13 Ax0_12z12 Ax0_13z13 Ax0_14z13 Ax1_1 Ax1_2z12 Ax1_3z13 Ax1_4z12 Ax1_5z12 Ax1_6z13 Ax1_7z13 Ax1_8z13 Ay2 Ax3_5z13 Ax3_6z13 Ay4z13 Ay5z13 Ay6z13 Ay7 Ay8 Ax9_6z13 Ay10z13 Ay11z13 Ay12z13 Ay13z13 Ay14z13 Ay15z13)) [8, 9, 10, 11, 12, 13, 14, 15, 16, 17, 18, 19, 20, 21, 22, 23] (by decide) rfl
          have hFc := va_free (wc := (wS52 K cI cJ cZ cB g0 g1 g2 g3 g4 g5 g6 g7 g8 g9 g10 g11 g12 g13 g14 g15 Ax0_3z13 Ax0_4z13 Ax0_5z13 Ax0_6z13 Ax0_7z13 Ax0_8z13 Ax0_9z12 Ax0_10z13 Ax0_11z13 Ax0_12z12 Ax0_13z13 Ax0_14z13 Ax1_1 Ax1_2z12 Ax1_3z13 Ax1_4z12 Ax1_5z12 Ax1_6z13 Ax1_7z13 Ax1_8z13 Ay2 Ax3_5z13 Ax3_6z13 Ay4z13 Ay5z13 Ay6z13 Ay7 Ay8 Ax9_6z13 Ay10z13 Ay11z13 Ay12z13 Ay13z13 Ay14z13 Ay15z13)) hD hS hA [8, 9, 10, 11, 12, 13, 14, 15, 16, 17, 18, 19, 20, 21, 22, 23] rfl
          refine va_callv (va_runV (C := "SignMachine$Assembler") (As := []) (rest := []) ⟨hx, hb, hml, hown, hk⟩ (c_A_leaveLine_s1 l K D cI cJ cZ cB g0 g1 g2 g3 g4 g5 g6 g7 g8 g9 g10 g11 g12 g13 g14 g15 H.size Ax0_3z13 Ax0_4z13 Ax0_5z13 Ax0_6z13 Ax0_7z13 Ax0_8z13 Ax0_9z12 Ax0_10z13 Ax0_11z13 Ax0_12z12 Ax0_13z13 Ax0_14z13 Ax1_1 Ax1_2z12 Ax1_3z13 Ax1_4z12 Ax1_5z12 Ax1_6z13 Ax1_7z13 Ax1_8z13 Ay2 Ax3_5z13 Ax3_6z13 Ay4z13 Ay5z13 Ay6z13 Ay7 Ay8 Ax9_6z13 Ay10z13 Ay11z13 Ay12z13 Ay13z13 Ay14z13 Ay15z13  ) (v_A_leaveLine_s1 hk k_1066 ⟨Nat.le_of_ble_eq_true rfl, Nat.le_of_ble_eq_true rfl⟩) (pMC_v hK hPc hDc hC hS hA (ci := 3) (q0 := 0) rfl rfl rfl) rfl rfl hl.1 rfl (lv_room (Nat.le_of_ble_eq_true rfl)) d_S_assemble_34 ⟨by decide, by decide⟩) hS (fun q _ h => hFc q h) hFc (fun u t H locs ht hvm hr0 hB hzq hkq hS => ?_)
          obtain ⟨Ay7z14, Ay8z14, hP1, hD1⟩ := hB
          rw [ht] at hP1
          obtain ⟨hP, hD⟩ := va_join (wr := (wS55 cI cJ cZ cB p0 m0 g0) ++ (wS60 cI cJ cZ cB m0 m1 m2 m3 m4 m5 m6 Mx0_4 Mx0_5 Mx0_6 Mx0_7 Mx0_8 Mx0_9 Mx0_10 Mx0_11 Mx0_12 Mx0_13 My1 My2 Mx3_0 Mx4_0 My5 My6)) (w1 := (wS52 K cI cJ cZ cB g0 g1 g2 g3 g4 g5 g6 g7 g8 g9 g10 g11 g12 g13 g14 g15 Ax0_3z13 Ax0_4z13 Ax0_5z13 Ax0_6z13 Ax0_7z13 Ax0_8z13 Ax0_9z12 Ax0_10z13 Ax0_11z13 Ax0_12z12 Ax0_13z13 Ax0_14z13 Ax1_1 Ax1_2z12 Ax1_3z13 Ax1_4z12 Ax1_5z12 Ax1_6z13 Ax1_7z13 Ax1_8z13 Ay2 Ax3_5z13 Ax3_6z13 Ay4z13 Ay5z13 Ay6z13 Ay7z14 Ay8z14 Ax9_6z13 Ay10z13 Ay11z13 Ay12z13 Ay13z13 Ay14z13 Ay15z13)) hP hD [8, 9, 10, 11, 12, 13, 14, 15, 16, 17, 18, 19, 20, 21, 22, 23] [0, 1, 2, 3, 4, 5, 6, 7] rfl rfl (by decide) (by decide) hkq hFc hP1 hD1
          have hP := hP.sub (ws' := ((wS55 cI cJ cZ cB p0 m0 g0) ++ (wS60 cI cJ cZ cB m0 m1 m2 m3 m4 m5 m6 Mx0_4 Mx0_5 Mx0_6 Mx0_7 Mx0_8 Mx0_9 Mx0_10 Mx0_11 Mx0_12 Mx0_13 My1 My2 Mx3_0 Mx4_0 My5 My6) ++ (wS52 K cI cJ cZ cB g0 g1 g2 g3 g4 g5 g6 g7 g8 g9 g10 g11 g12 g13 g14 g15 Ax0_3z13 Ax0_4z13 Ax0_5z13 Ax0_6z13 Ax0_7z13 Ax0_8z13 Ax0_9z12 Ax0_10z13 Ax0_11z13 Ax0_12z12 Ax0_13z13 Ax0_14z13 Ax1_1 Ax1_2z12 Ax1_3z13 Ax1_4z12 Ax1_5z12 Ax1_6z13 Ax1_7z13 Ax1_8z13 Ay2 Ax3_5z13 Ax3_6z13 Ay4z13 Ay5z13 Ay6z13 Ay7z14 Ay8z14 Ax9_6z13 Ay10z13 Ay11z13 Ay12z13 Ay13z13 Ay14z13 Ay15z13))) [0, 1, 2, 3, 4, 5, 6, 7, 8, 9, 10, 11, 12, 13, 14, 15, 16, 17, 18, 19, 20, 21, 22, 23] rfl
          have hD := hD.sub (ws' := ((wS55 cI cJ cZ cB p0 m0 g0) ++ (wS60 cI cJ cZ cB m0 m1 m2 m3 m4 m5 m6 Mx0_4 Mx0_5 Mx0_6 Mx0_7 Mx0_8 Mx0_9 Mx0_10 Mx0_11 Mx0_12 Mx0_13 My1 My2 Mx3_0 Mx4_0 My5 My6) ++ (wS52 K cI cJ cZ cB g0 g1 g2 g3 g4 g5 g6 g7 g8 g9 g10 g11 g12 g13 g14 g15 Ax0_3z13 Ax0_4z13 Ax0_5z13 Ax0_6z13 Ax0_7z13 Ax0_8z13 Ax0_9z12 Ax0_10z13 Ax0_11z13 Ax0_12z12 Ax0_13z13 Ax0_14z13 Ax1_1 Ax1_2z12 Ax1_3z13 Ax1_4z12 Ax1_5z12 Ax1_6z13 Ax1_7z13 Ax1_8z13 Ay2 Ax3_5z13 Ax3_6z13 Ay4z13 Ay5z13 Ay6z13 Ay7z14 Ay8z14 Ax9_6z13 Ay10z13 Ay11z13 Ay12z13 Ay13z13 Ay14z13 Ay15z13))) [0, 1, 2, 3, 4, 5, 6, 7, 8, 9, 10, 11, 12, 13, 14, 15, 16, 17, 18, 19, 20, 21, 22, 23] (by decide) rfl
          have hP : va_P D classes ((wS55 cI cJ cZ cB p0 m0 g0) ++ (wS60 cI cJ cZ cB m0 m1 m2 m3 m4 m5 m6 Mx0_4 Mx0_5 Mx0_6 Mx0_7 Mx0_8 Mx0_9 Mx0_10 Mx0_11 Mx0_12 Mx0_13 My1 My2 Mx3_0 Mx4_0 My5 My6) ++ (wS52 K cI cJ cZ cB g0 g1 g2 g3 g4 g5 g6 g7 g8 g9 g10 g11 g12 g13 g14 g15 Ax0_3z13 Ax0_4z13 Ax0_5z13 Ax0_6z13 Ax0_7z13 Ax0_8z13 Ax0_9z12 Ax0_10z13 Ax0_11z13 Ax0_12z12 Ax0_13z13 Ax0_14z13 Ax1_1 Ax1_2z12 Ax1_3z13 Ax1_4z12 Ax1_5z12 Ax1_6z13 Ax1_7z13 Ax1_8z13 Ay2 Ax3_5z13 Ax3_6z13 Ay4z13 Ay5z13 Ay6z13 Ay7z14 Ay8z14 Ax9_6z13 Ay10z13 Ay11z13 Ay12z13 Ay13z13 Ay14z13 Ay15z13)) H := hP
          have hD : va_D A ((wS55 cI cJ cZ cB p0 m0 g0) ++ (wS60 cI cJ cZ cB m0 m1 m2 m3 m4 m5 m6 Mx0_4 Mx0_5 Mx0_6 Mx0_7 Mx0_8 Mx0_9 Mx0_10 Mx0_11 Mx0_12 Mx0_13 My1 My2 Mx3_0 Mx4_0 My5 My6) ++ (wS52 K cI cJ cZ cB g0 g1 g2 g3 g4 g5 g6 g7 g8 g9 g10 g11 g12 g13 g14 g15 Ax0_3z13 Ax0_4z13 Ax0_5z13 Ax0_6z13 Ax0_7z13 Ax0_8z13 Ax0_9z12 Ax0_10z13 Ax0_11z13 Ax0_12z12 Ax0_13z13 Ax0_14z13 Ax1_1 Ax1_2z12 Ax1_3z13 Ax1_4z12 Ax1_5z12 Ax1_6z13 Ax1_7z13 Ax1_8z13 Ay2 Ax3_5z13 Ax3_6z13 Ay4z13 Ay5z13 Ay6z13 Ay7z14 Ay8z14 Ax9_6z13 Ay10z13 Ay11z13 Ay12z13 Ay13z13 Ay14z13 Ay15z13)) := hD
          clear hPc hDc hFc
          obtain ⟨v15, hv15⟩ : ∃ y : Int32, y = (l2 + (1 : Int32)) := ⟨_, rfl⟩
          refine lv_iinc (v := v15) (lv' := [(2, .int v15), (1, .ref g0), (0, .ref p0)]) hx hb d_S_assemble_37 hl (k := 0) rfl (by rw [hv15]; rfl) (by decide) rfl (fun ls hl => ?_)
          refine lv_goto (tgt := 11) hx hb d_S_assemble_40 (by decide) ?_
          exact ih v15 Mx0_7 My1 Ax0_3z13 Ax0_4z13 Ax0_5z13 Ax0_6z13 Ax0_7z13 Ax0_8z13 Ax0_9z12 Ax0_10z13 Ax0_11z13 Ax0_12z12 Ax0_13z13 Ax0_14z13 Ax1_1 Ax1_2z12 Ax1_3z13 Ax1_4z12 Ax1_5z12 Ax1_6z13 Ax1_7z13 Ax1_8z13 Ay2 Ax3_5z13 Ax3_6z13 Ay4z13 Ay5z13 Ay6z13 Ay7z14 Ay8z14 Ax9_6z13 Ay10z13 Ay11z13 Ay12z13 Ay13z13 Ay14z13 Ay15z13 H _ ls (lpu c3 hv15 hn11_x16) (lpn hc11_x16 c3 hv15) hP hD hS (lv_sub hl [0, 1, 2] rfl)
  exact LP11_x16 _ (0 : Int32) Mx0_7 My1 Ax0_3z2 Ax0_4z2 Ax0_5z1 Ax0_6z1 Ax0_7z2 Ax0_8z2 Ax0_9z1 Ax0_10z1 Ax0_11z1 Ax0_12z1 Ax0_13z1 Ax0_14z1 (0 : Int32) Ax1_2z2 Ax1_3z1 Ax1_4z1 Ax1_5z2 Ax1_6z1 Ax1_7z1 Ax1_8z1 Ay2z1 Ax3_5z2 Ax3_6z2 Ay4z1 Ay5z1 Ay6z1 Ay7z1 Ay8z2 Ax9_6z2 Ay10z1 Ay11z1 Ay12z1 Ay13z1 Ay14z1 Ay15z2 H _ ls (Nat.lt_succ_self _) (by decide) hP hD hS hl
theorem v_S_assemble_b14 {R : Room} {s : State} {args : Array Value} {own : String} {index : Nat} (hk : ∀ w ∈ tb, w.before args s = true) (hl : Cond.methodLink own index y_S_assemble ∈ tb) (hR : 8 + 1 ≤ R.frames ∧ 8 + (3 + 11) + 181 ≤ R.locals) : CallW R s args own "SignMachine" index y_S_assemble b_S_assemble 3 (some .int) (.code y_S_assemble b_S_assemble 3 (some .int) :: tb) ({ frames := 8, cells := 16, slots := 9873, locals := 181 }) 16 9873 0 := mk_v 0 hk k_698 hl k_696 k_697 k_116 rfl rfl h_S_assemble hR
set_option maxHeartbeats 4000000 in
set_option maxRecDepth 100000 in
theorem c_S_about_b14 (l : Launch) (K : CK) (D : va_G) (cI cJ cZ cB : ClassId) (p0 m0 m1 m2 m3 m4 m5 m6 : Nat) (sz : Nat) (Mx0_4 : Bool) (Mx0_5 : Int32) (Mx0_6 : Int32) (Mx0_7 : Int32) (Mx0_8 : Int32) (Mx0_9 : Int32) (Mx0_10 : Int32) (Mx0_11 : Int32) (Mx0_12 : Int32) (Mx0_13 : Int32) (My1 : Nat → Int32) (My2 : Nat → Int32) (Mx3_0 : Int32) (Mx4_0 : Int32) (My5 : Nat → Int32) (My6 : Nat → Int32)  (a1 : Int32) : Met l y_S_about (.code y_S_about b_S_about 3 (some .int) :: tb) ({ frames := 4, cells := 16, slots := 9873, locals := 72 }) (pMC K D cI cJ cZ cB ((wS54 cI cJ cZ cB p0 m0) ++ (wS60 cI cJ cZ cB m0 m1 m2 m3 m4 m5 m6 Mx0_4 Mx0_5 Mx0_6 Mx0_7 Mx0_8 Mx0_9 Mx0_10 Mx0_11 Mx0_12 Mx0_13 My1 My2 Mx3_0 Mx4_0 My5 My6)) sz [.ref p0, .int a1]) (va_Qi (fun r (uL : Int32) => uL = (0 : Int32)) (fun uL t => ∃ W9 : va_W, isC K cI cJ cZ cB p0 uL W9 ∧ va_P D classes W9 t.heap ∧ va_D (va_A ((wS54 cI cJ cZ cB p0 m0) ++ (wS60 cI cJ cZ cB m0 m1 m2 m3 m4 m5 m6 Mx0_4 Mx0_5 Mx0_6 Mx0_7 Mx0_8 Mx0_9 Mx0_10 Mx0_11 Mx0_12 Mx0_13 My1 My2 Mx3_0 Mx4_0 My5 My6)) sz) W9) (va_A ((wS54 cI cJ cZ cB p0 m0) ++ (wS60 cI cJ cZ cB m0 m1 m2 m3 m4 m5 m6 Mx0_4 Mx0_5 Mx0_6 Mx0_7 Mx0_8 Mx0_9 Mx0_10 Mx0_11 Mx0_12 Mx0_13 My1 My2 Mx3_0 Mx4_0 My5 My6)) sz)) 16 9873 (va_A ((wS54 cI cJ cZ cB p0 m0) ++ (wS60 cI cJ cZ cB m0 m1 m2 m3 m4 m5 m6 Mx0_4 Mx0_5 Mx0_6 Mx0_7 Mx0_8 Mx0_9 Mx0_10 Mx0_11 Mx0_12 Mx0_13 My1 My2 Mx3_0 Mx4_0 My5 My6)) sz) := by
  refine Met.ofW (cc := b_S_about) (maxL := 3) (ret := (some .int)) (by decide) rfl ?_
  intro p e s m args below meth c s₁ B hml hv
  obtain ⟨rfl, hsz, hK, hP, hD0, hC⟩ := hv
  subst hsz
  have hD := hD0.self (sz := s.heap.size)
  generalize hAe : va_A ((wS54 cI cJ cZ cB p0 m0) ++ (wS60 cI cJ cZ cB m0 m1 m2 m3 m4 m5 m6 Mx0_4 Mx0_5 Mx0_6 Mx0_7 Mx0_8 Mx0_9 Mx0_10 Mx0_11 Mx0_12 Mx0_13 My1 My2 Mx3_0 Mx4_0 My5 My6)) s.heap.size = A at hD hC ⊢
  have hA : ∀ q : Nat, s.heap.size ≤ q → A q := fun q h => by rw [← hAe]; exact Or.inr h
  clear hAe hD0
  have hS : va_S A s.heap s.heap [] := va_S.rf
  have hx := B.exec
  have hb := B.bytes
  have hr := B.returns
  have hts := atoms_spec (ws := .code y_S_about b_S_about 3 (some .int) :: tb) B.pre
  have hk : ∀ w ∈ tb, w.before [.ref p0, .int a1].toArray s = true := fun w h => hts w (List.mem_cons_of_mem _ h)
  have hown : s.vm.findClass "SignMachine" = some m.cls := findClass_of_methodNamed B.named
  have hlocks := B.notSynchronized
  have hl := lv_entry ([.ref p0, .int a1]) (n := 3) (Nat.le_of_ble_eq_true rfl)
  rw [lg_entry_eq]
  generalize (lg_sl ([.ref p0, .int a1]) ++ List.replicate (3 - (lg_sl ([.ref p0, .int a1])).length) Slot.unset).toArray = ls at hl ⊢
  have hl : lv_has ls 3 [(0, .ref p0), (1, .int a1)] := hl
  refine lv_aload_n hx hb d_S_about_0 rfl (lv_at hl 0 rfl) ?_
  refine sn_q (va_runV (C := "SignMachine") (As := []) (rest := []) ⟨hx, hb, hml, hown, hk⟩ (c_S_assembler_b4 l K D cI cJ cZ cB p0 m0 m1 m2 m3 m4 m5 m6 s.heap.size Mx0_4 Mx0_5 Mx0_6 Mx0_7 Mx0_8 Mx0_9 Mx0_10 Mx0_11 Mx0_12 Mx0_13 My1 My2 Mx3_0 Mx4_0 My5 My6 ) (v_S_assembler_b4 hk k_518 ⟨Nat.le_of_ble_eq_true rfl, Nat.le_of_ble_eq_true rfl⟩) (pMC_v hK hP hD hC hS hA (ci := 0) (q0 := 0) rfl rfl rfl) rfl rfl hl.1 rfl (lv_room (Nat.le_of_ble_eq_true rfl)) d_S_about_1 ⟨by decide, by decide⟩) hS hA hD (fun rz1 g0 t H locs hr0 ht hB hFr hS => ?_)
  obtain ⟨g1, g2, g3, g4, g5, g6, g7, g8, g9, g10, g11, g12, g13, g14, g15, Ax0_3z1, Ax0_4z1, Ax0_5z1, Ax0_6z1, Ax0_7z1, Ax0_8z1, Ax0_9z1, Ax0_10z1, Ax0_11z1, Ax0_12z1, Ax0_13z1, Ax0_14z1, Ax1_1z1, Ax1_2z1, Ax1_3z1, Ax1_4z1, Ax1_5z1, Ax1_6z1, Ax1_7z1, Ax1_8z1, Ay2z1, Ax3_5z1, Ax3_6z1, Ay4z1, Ay5z1, Ay6z1, Ay7z1, Ay8z1, Ax9_6z1, Ay10z1, Ay11z1, Ay12z1, Ay13z1, Ay14z1, Ay15z1, ex0z1, hP, hD⟩ := hB
  subst ex0z1
  rw [ht] at hP
  have hD := dwk hD hFr
  clear ht hFr
  have hP : va_P D classes ((wS55 cI cJ cZ cB p0 m0 g0) ++ (wS60 cI cJ cZ cB m0 m1 m2 m3 m4 m5 m6 Mx0_4 Mx0_5 Mx0_6 Mx0_7 Mx0_8 Mx0_9 Mx0_10 Mx0_11 Mx0_12 Mx0_13 My1 My2 Mx3_0 Mx4_0 My5 My6) ++ (wS52 K cI cJ cZ cB g0 g1 g2 g3 g4 g5 g6 g7 g8 g9 g10 g11 g12 g13 g14 g15 Ax0_3z1 Ax0_4z1 Ax0_5z1 Ax0_6z1 Ax0_7z1 Ax0_8z1 Ax0_9z1 Ax0_10z1 Ax0_11z1 Ax0_12z1 Ax0_13z1 Ax0_14z1 (0 : Int32) Ax1_2z1 Ax1_3z1 Ax1_4z1 Ax1_5z1 Ax1_6z1 Ax1_7z1 Ax1_8z1 Ay2z1 Ax3_5z1 Ax3_6z1 Ay4z1 Ay5z1 Ay6z1 Ay7z1 Ay8z1 Ax9_6z1 Ay10z1 Ay11z1 Ay12z1 Ay13z1 Ay14z1 Ay15z1)) H := hP
  have hD : va_D A ((wS55 cI cJ cZ cB p0 m0 g0) ++ (wS60 cI cJ cZ cB m0 m1 m2 m3 m4 m5 m6 Mx0_4 Mx0_5 Mx0_6 Mx0_7 Mx0_8 Mx0_9 Mx0_10 Mx0_11 Mx0_12 Mx0_13 My1 My2 Mx3_0 Mx4_0 My5 My6) ++ (wS52 K cI cJ cZ cB g0 g1 g2 g3 g4 g5 g6 g7 g8 g9 g10 g11 g12 g13 g14 g15 Ax0_3z1 Ax0_4z1 Ax0_5z1 Ax0_6z1 Ax0_7z1 Ax0_8z1 Ax0_9z1 Ax0_10z1 Ax0_11z1 Ax0_12z1 Ax0_13z1 Ax0_14z1 (0 : Int32) Ax1_2z1 Ax1_3z1 Ax1_4z1 Ax1_5z1 Ax1_6z1 Ax1_7z1 Ax1_8z1 Ay2z1 Ax3_5z1 Ax3_6z1 Ay4z1 Ay5z1 Ay6z1 Ay7z1 Ay8z1 Ax9_6z1 Ay10z1 Ay11z1 Ay12z1 Ay13z1 Ay14z1 Ay15z1)) := hD
  refine W.widen (k := 16) (n := 9873) (by decide) (by decide) ?_
  subst hr0
  refine W.eq (g2 := F0 m 4 ls [.ref g0]) rfl ?_
  refine lv_astore_n (lv' := [(2, .ref g0), (0, .ref p0), (1, .int a1)]) hx hb d_S_about_4 rfl hl (by decide) rfl (fun ls hl => ?_)
  refine lv_iload_n hx hb d_S_about_5 rfl (lv_at hl 2 rfl) ?_
  by_cases c2 : a1 = (0 : Int32)
  · refine lv_tableIn (off := 26) (tgt := 32) hx hb d_S_about_6 (by rw [c2]; decide) (by rw [c2]; decide) (by rw [c2]; rfl) (by decide) ?_
    refine lv_aload_n hx hb d_S_about_32 rfl (lv_at hl 0 rfl) ?_
    refine va_getN (D := D) (ci := 3) (v := .int Ax0_4z1) (C := "SignMachine$Assembler") (T := F_A) (N := 15) hx hb hk fi_A hown hK.1 hP 8 rfl rfl 4 (by decide) (va_Nw.use rfl (hK.2 _ n_639)) (fun _ h9 => h9) rfl d_S_about_33 ?_
    exact W.iret (v := Ax0_4z1) hx hb hr (fun t ht hW => ⟨⟨Ax0_4z1, (0 : Int32), rfl, rfl, ⟨_, isC_8, (by show va_P D classes _ t.heap; rw [ht]; exact hP), hD⟩⟩, hS.F ht⟩) hS.2.2 d_S_about_36
  · by_cases c3 : a1 = (1 : Int32)
    · refine lv_tableIn (off := 31) (tgt := 37) hx hb d_S_about_6 (by rw [c3]; decide) (by rw [c3]; decide) (by rw [c3]; rfl) (by decide) ?_
      refine lv_aload_n hx hb d_S_about_37 rfl (lv_at hl 0 rfl) ?_
      refine va_getN (D := D) (ci := 3) (v := .int Ax0_5z1) (C := "SignMachine$Assembler") (T := F_A) (N := 15) hx hb hk fi_A hown hK.1 hP 8 rfl rfl 5 (by decide) (va_Nw.use rfl (hK.2 _ n_641)) (fun _ h9 => h9) rfl d_S_about_38 ?_
      exact W.iret (v := Ax0_5z1) hx hb hr (fun t ht hW => ⟨⟨Ax0_5z1, (0 : Int32), rfl, rfl, ⟨_, isC_8, (by show va_P D classes _ t.heap; rw [ht]; exact hP), hD⟩⟩, hS.F ht⟩) hS.2.2 d_S_about_41
    · by_cases c4 : a1 = (2 : Int32)
      · refine lv_tableIn (off := 36) (tgt := 42) hx hb d_S_about_6 (by rw [c4]; decide) (by rw [c4]; decide) (by rw [c4]; rfl) (by decide) ?_
        refine lv_aload_n hx hb d_S_about_42 rfl (lv_at hl 0 rfl) ?_
        refine va_getN (D := D) (ci := 3) (v := .ref g1) (C := "SignMachine$Assembler") (T := F_A) (N := 15) hx hb hk fi_A hown hK.1 hP 8 rfl rfl 0 (by decide) (va_Nw.use rfl (hK.2 _ n_632)) (fun _ h9 => h9) rfl d_S_about_43 ?_
        refine va_getN (D := D) (ci := 4) (v := .int (0 : Int32)) (C := "SignMachine$Source") (T := F_R) (N := 9) hx hb hk fi_R hown hK.1 hP 9 rfl rfl 1 (by decide) (va_Nw.use rfl (hK.2 _ n_537)) (fun _ h9 => h9) rfl d_S_about_46 ?_
        exact W.iret (v := (0 : Int32)) hx hb hr (fun t ht hW => ⟨⟨(0 : Int32), (0 : Int32), rfl, rfl, ⟨_, isC_8, (by show va_P D classes _ t.heap; rw [ht]; exact hP), hD⟩⟩, hS.F ht⟩) hS.2.2 d_S_about_49
      · refine lv_tableOut (tgt := 50) hx hb d_S_about_6 (by have e0 := lv_neT c2 (a := 0) rfl; have e1 := lv_neT c3 (a := 1) rfl; have e2 := lv_neT c4 (a := 2) rfl; omega) (by decide) ?_
        refine lv_iconst (v := (-1)) hx hb d_S_about_50 (by decide) ?_
        exact W.iret (v := (-1 : Int32)) hx hb hr (fun t ht hW => ⟨⟨(-1 : Int32), (0 : Int32), rfl, rfl, ⟨_, isC_8, (by show va_P D classes _ t.heap; rw [ht]; exact hP), hD⟩⟩, hS.F ht⟩) hS.2.2 d_S_about_51
theorem v_S_about_b14 {R : Room} {s : State} {args : Array Value} {own : String} {index : Nat} (hk : ∀ w ∈ tb, w.before args s = true) (hl : Cond.methodLink own index y_S_about ∈ tb) (hR : 4 + 1 ≤ R.frames ∧ 8 + (3 + 11) + 72 ≤ R.locals) : CallW R s args own "SignMachine" index y_S_about b_S_about 3 (some .int) (.code y_S_about b_S_about 3 (some .int) :: tb) ({ frames := 4, cells := 16, slots := 9873, locals := 72 }) 16 9873 1 := mk_v 1 hk k_1114 hl k_1112 k_1113 k_116 rfl rfl h_S_about hR
set_option maxHeartbeats 4000000 in
set_option maxRecDepth 100000 in
theorem c_S_poke_b15 (l : Launch) (K : CK) (D : va_G) (cI cJ cZ cB : ClassId) (p0 m0 m1 m2 m3 m4 m5 m6 : Nat) (sz : Nat) (Mx0_4 : Bool) (Mx0_5 : Int32) (Mx0_6 : Int32) (Mx0_7 : Int32) (Mx0_8 : Int32) (Mx0_9 : Int32) (Mx0_10 : Int32) (Mx0_11 : Int32) (Mx0_12 : Int32) (Mx0_13 : Int32) (My1 : Nat → Int32) (My2 : Nat → Int32) (Mx3_0 : Int32) (Mx4_0 : Int32) (My5 : Nat → Int32) (My6 : Nat → Int32)  (a1 : Int32) (a2 : Int32) (a3 : Int32) : Met l y_S_poke (.code y_S_poke b_S_poke 4 (some .boolean) :: tb) ({ frames := 1, cells := 0, slots := 0, locals := 22 }) (pMC K D cI cJ cZ cB ((wS54 cI cJ cZ cB p0 m0) ++ (wS62 cI cJ cZ cB m0 m1 m2 m3 m4 m5 m6 Mx0_4 Mx0_5 Mx0_6 Mx0_7 Mx0_8 Mx0_9 Mx0_10 Mx0_11 Mx0_12 Mx0_13 My1 My2 Mx3_0 Mx4_0 My5 My6)) sz [.ref p0, .int a1, .int a2, .int a3]) (va_Qi (fun r (uL : Int32) => uL = (0 : Int32) ∧ r = (f_cpoke a1 a2 a3)) (fun uL t => ∃ W9 : va_W, isC K cI cJ cZ cB p0 uL W9 ∧ va_P D classes W9 t.heap ∧ va_D (va_A ((wS54 cI cJ cZ cB p0 m0) ++ (wS62 cI cJ cZ cB m0 m1 m2 m3 m4 m5 m6 Mx0_4 Mx0_5 Mx0_6 Mx0_7 Mx0_8 Mx0_9 Mx0_10 Mx0_11 Mx0_12 Mx0_13 My1 My2 Mx3_0 Mx4_0 My5 My6)) sz) W9) (va_A ((wS54 cI cJ cZ cB p0 m0) ++ (wS62 cI cJ cZ cB m0 m1 m2 m3 m4 m5 m6 Mx0_4 Mx0_5 Mx0_6 Mx0_7 Mx0_8 Mx0_9 Mx0_10 Mx0_11 Mx0_12 Mx0_13 My1 My2 Mx3_0 Mx4_0 My5 My6)) sz)) 0 0 (va_A ((wS54 cI cJ cZ cB p0 m0) ++ (wS62 cI cJ cZ cB m0 m1 m2 m3 m4 m5 m6 Mx0_4 Mx0_5 Mx0_6 Mx0_7 Mx0_8 Mx0_9 Mx0_10 Mx0_11 Mx0_12 Mx0_13 My1 My2 Mx3_0 Mx4_0 My5 My6)) sz) := by
  refine Met.ofW (cc := b_S_poke) (maxL := 4) (ret := (some .boolean)) (by decide) rfl ?_
  intro p e s m args below meth c s₁ B hml hv
  obtain ⟨rfl, hsz, hK, hP, hD0, hC⟩ := hv
  subst hsz
  have hD := hD0.self (sz := s.heap.size)
  generalize hAe : va_A ((wS54 cI cJ cZ cB p0 m0) ++ (wS62 cI cJ cZ cB m0 m1 m2 m3 m4 m5 m6 Mx0_4 Mx0_5 Mx0_6 Mx0_7 Mx0_8 Mx0_9 Mx0_10 Mx0_11 Mx0_12 Mx0_13 My1 My2 Mx3_0 Mx4_0 My5 My6)) s.heap.size = A at hD hC ⊢
  have hA : ∀ q : Nat, s.heap.size ≤ q → A q := fun q h => by rw [← hAe]; exact Or.inr h
  clear hAe hD0
  have hS : va_S A s.heap s.heap [] := va_S.rf
  have hx := B.exec
  have hb := B.bytes
  have hr := B.returns
  have hts := atoms_spec (ws := .code y_S_poke b_S_poke 4 (some .boolean) :: tb) B.pre
  have hk : ∀ w ∈ tb, w.before [.ref p0, .int a1, .int a2, .int a3].toArray s = true := fun w h => hts w (List.mem_cons_of_mem _ h)
  have hown : s.vm.findClass "SignMachine" = some m.cls := findClass_of_methodNamed B.named
  have hlocks := B.notSynchronized
  have hl := lv_entry ([.ref p0, .int a1, .int a2, .int a3]) (n := 4) (Nat.le_of_ble_eq_true rfl)
  rw [lg_entry_eq]
  generalize (lg_sl ([.ref p0, .int a1, .int a2, .int a3]) ++ List.replicate (4 - (lg_sl ([.ref p0, .int a1, .int a2, .int a3])).length) Slot.unset).toArray = ls at hl ⊢
  have hl : lv_has ls 4 [(0, .ref p0), (1, .int a1), (2, .int a2), (3, .int a3)] := hl
  refine lv_iload_n hx hb d_S_poke_0 rfl (lv_at hl 1 rfl) ?_
  refine cs_i (W.runS (As := [.int a1]) (rest := []) ⟨hx, hb, hml, hown, hk⟩ (c_M_isAddress l a1) (s_M_isAddress hk k_221 ⟨Nat.le_of_ble_eq_true rfl, Nat.le_of_ble_eq_true rfl⟩) ⟨fun a U g mk q => q, fun U hU hW => ⟨rfl, trivial⟩⟩ rfl rfl hl.1 rfl (lv_room (Nat.le_of_ble_eq_true rfl)) d_S_poke_1 ⟨Nat.le_of_ble_eq_true rfl, Nat.le_of_ble_eq_true rfl⟩) ?_
  obtain ⟨z1, hz1⟩ : ∃ y : Bool, y = (f_M_isAddress a1) := ⟨_, rfl⟩
  rw [← hz1]
  refine lv_if_eq (tgt := 15) hx hb d_S_poke_4 (by decide) (fun c2 => ?_) (fun c2 => ?_)
  · refine lv_iconst (v := 0) hx hb d_S_poke_15 (by decide) ?_
    exact W.zret (v := (0 : Int32)) hx hb hr rfl (fun t ht hW => ⟨⟨(0 : Int32), (0 : Int32), rfl, ⟨rfl, by unfold f_cpoke; simp only [← hz1, if_pos c2]⟩, ⟨_, isC_4, (by show va_P D classes _ t.heap; rw [ht]; exact hP), hD⟩⟩, hS.F ht⟩) hS.2.2 d_S_poke_16
  · refine lv_iload_n hx hb d_S_poke_7 rfl (lv_at hl 2 rfl) ?_
    refine lv_iload_n hx hb d_S_poke_8 rfl (lv_at hl 3 rfl) ?_
    refine cs_i (W.runS (As := [.int a2, .int a3]) (rest := []) ⟨hx, hb, hml, hown, hk⟩ (c_W_isWord l a2 a3) (s_W_isWord hk k_224 ⟨Nat.le_of_ble_eq_true rfl, Nat.le_of_ble_eq_true rfl⟩) ⟨fun a U g mk q => q, fun U hU hW => ⟨rfl, trivial⟩⟩ rfl rfl hl.1 rfl (lv_room (Nat.le_of_ble_eq_true rfl)) d_S_poke_9 ⟨Nat.le_of_ble_eq_true rfl, Nat.le_of_ble_eq_true rfl⟩) ?_
    obtain ⟨z3, hz3⟩ : ∃ y : Bool, y = (f_W_isWord a2 a3) := ⟨_, rfl⟩
    rw [← hz3]
    refine lv_if_ne (tgt := 17) hx hb d_S_poke_12 (by decide) (fun c4 => ?_) (fun c4 => ?_)
    · refine lv_aload_n hx hb d_S_poke_17 rfl (lv_at hl 0 rfl) ?_
      refine va_get (D := D) (ci := 0) (v := .ref m0) (C := "SignMachine") (T := F_S) (N := 2) hx hb hk fi_S hown hK.1 hP 0 rfl rfl 0 (by decide) (hk _ k_210) (fun _ h9 => h9) rfl d_S_poke_18 ?_
      refine lv_iload_n hx hb d_S_poke_21 rfl (lv_at hl 1 rfl) ?_
      refine lv_iload_n hx hb d_S_poke_22 rfl (lv_at hl 2 rfl) ?_
      refine lv_iload_n hx hb d_S_poke_23 rfl (lv_at hl 3 rfl) ?_
      refine cs_i (W.runS (As := [.int a2, .int a3]) (rest := [.int a1, .ref m0]) ⟨hx, hb, hml, hown, hk⟩ (c_W_make l a2 a3) (s_W_make hk k_228 ⟨Nat.le_of_ble_eq_true rfl, Nat.le_of_ble_eq_true rfl⟩) ⟨fun a U g mk q => q, fun U hU hW => ⟨rfl, trivial⟩⟩ rfl rfl hl.1 rfl (lv_room (Nat.le_of_ble_eq_true rfl)) d_S_poke_24 ⟨Nat.le_of_ble_eq_true rfl, Nat.le_of_ble_eq_true rfl⟩) ?_
      refine lv_topi (fun v5 hv5 => ?_)
      have hPc := hP.sub (ws' := (wS62 cI cJ cZ cB m0 m1 m2 m3 m4 m5 m6 Mx0_4 Mx0_5 Mx0_6 Mx0_7 Mx0_8 Mx0_9 Mx0_10 Mx0_11 Mx0_12 Mx0_13 My1 My2 Mx3_0 Mx4_0 My5 My6)) [1, 2, 3, 4, 5, 6, 7] rfl
      have hDc := hD.sub (ws' := (wS62 cI cJ cZ cB m0 m1 m2 m3 m4 m5 m6 Mx0_4 Mx0_5 Mx0_6 Mx0_7 Mx0_8 Mx0_9 Mx0_10 Mx0_11 Mx0_12 Mx0_13 My1 My2 Mx3_0 Mx4_0 My5 My6)) [1, 2, 3, 4, 5, 6, 7] (by decide) rfl
      have hFc := va_free (wc := (wS62 cI cJ cZ cB m0 m1 m2 m3 m4 m5 m6 Mx0_4 Mx0_5 Mx0_6 Mx0_7 Mx0_8 Mx0_9 Mx0_10 Mx0_11 Mx0_12 Mx0_13 My1 My2 Mx3_0 Mx4_0 My5 My6)) hD hS hA [1, 2, 3, 4, 5, 6, 7] rfl
      refine va_callv (va_runV (C := "SignMachine$Machine") (As := [.int a1, .int v5]) (rest := []) ⟨hx, hb, hml, hown, hk⟩ (c_M_putWord_s4 l K D cI cJ cZ cB m0 m1 m2 m3 m4 m5 m6 s.heap.size Mx0_4 Mx0_5 Mx0_6 Mx0_7 Mx0_8 Mx0_9 Mx0_10 Mx0_11 Mx0_12 Mx0_13 My1 My2 Mx3_0 Mx4_0 My5 My6 a1 v5 ) (v_M_putWord_s4 hk k_232 ⟨Nat.le_of_ble_eq_true rfl, Nat.le_of_ble_eq_true rfl⟩) (pMC_v hK hPc hDc hC hS hA (ci := 1) (q0 := 0) rfl rfl rfl) rfl rfl hl.1 rfl (lv_room (Nat.le_of_ble_eq_true rfl)) d_S_poke_27 ⟨by decide, by decide⟩) hS (fun q _ h => hFc q h) hFc (fun u t H locs ht hvm hr0 hB hzq hkq hS => ?_)
      obtain ⟨My1z6, hP1, hD1⟩ := hB
      rw [ht] at hP1
      obtain ⟨hP, hD⟩ := va_join (wr := (wS54 cI cJ cZ cB p0 m0)) (w1 := (wS62 cI cJ cZ cB m0 m1 m2 m3 m4 m5 m6 Mx0_4 Mx0_5 Mx0_6 Mx0_7 Mx0_8 Mx0_9 Mx0_10 Mx0_11 Mx0_12 Mx0_13 My1z6 My2 Mx3_0 Mx4_0 My5 My6)) hP hD [1, 2, 3, 4, 5, 6, 7] [0] rfl rfl (by decide) (by decide) hkq hFc hP1 hD1
      have hP := hP.sub (ws' := ((wS54 cI cJ cZ cB p0 m0) ++ (wS62 cI cJ cZ cB m0 m1 m2 m3 m4 m5 m6 Mx0_4 Mx0_5 Mx0_6 Mx0_7 Mx0_8 Mx0_9 Mx0_10 Mx0_11 Mx0_12 Mx0_13 My1z6 My2 Mx3_0 Mx4_0 My5 My6))) [0, 1, 2, 3, 4, 5, 6, 7] rfl
      have hD := hD.sub (ws' := ((wS54 cI cJ cZ cB p0 m0) ++ (wS62 cI cJ cZ cB m0 m1 m2 m3 m4 m5 m6 Mx0_4 Mx0_5 Mx0_6 Mx0_7 Mx0_8 Mx0_9 Mx0_10 Mx0_11 Mx0_12 Mx0_13 My1z6 My2 Mx3_0 Mx4_0 My5 My6))) [0, 1, 2, 3, 4, 5, 6, 7] (by decide) rfl
      have hP : va_P D classes ((wS54 cI cJ cZ cB p0 m0) ++ (wS62 cI cJ cZ cB m0 m1 m2 m3 m4 m5 m6 Mx0_4 Mx0_5 Mx0_6 Mx0_7 Mx0_8 Mx0_9 Mx0_10 Mx0_11 Mx0_12 Mx0_13 My1z6 My2 Mx3_0 Mx4_0 My5 My6)) H := hP
      have hD : va_D A ((wS54 cI cJ cZ cB p0 m0) ++ (wS62 cI cJ cZ cB m0 m1 m2 m3 m4 m5 m6 Mx0_4 Mx0_5 Mx0_6 Mx0_7 Mx0_8 Mx0_9 Mx0_10 Mx0_11 Mx0_12 Mx0_13 My1z6 My2 Mx3_0 Mx4_0 My5 My6)) := hD
      clear hPc hDc hFc
      refine lv_iconst (v := 1) hx hb d_S_poke_30 (by decide) ?_
      exact W.zret (v := (1 : Int32)) hx hb hr rfl (fun t ht hW => ⟨⟨(1 : Int32), (0 : Int32), rfl, ⟨rfl, by unfold f_cpoke; simp only [← hz1, ← hz3, if_neg c2, if_neg c4]⟩, ⟨_, isC_4, (by show va_P D classes _ t.heap; rw [ht]; exact hP), hD⟩⟩, hS.F ht⟩) hS.2.2 d_S_poke_31
    · refine lv_iconst (v := 0) hx hb d_S_poke_15 (by decide) ?_
      exact W.zret (v := (0 : Int32)) hx hb hr rfl (fun t ht hW => ⟨⟨(0 : Int32), (0 : Int32), rfl, ⟨rfl, by unfold f_cpoke; simp only [← hz1, ← hz3, if_neg c2, if_pos c4]⟩, ⟨_, isC_4, (by show va_P D classes _ t.heap; rw [ht]; exact hP), hD⟩⟩, hS.F ht⟩) hS.2.2 d_S_poke_16
theorem v_S_poke_b15 {R : Room} {s : State} {args : Array Value} {own : String} {index : Nat} (hk : ∀ w ∈ tb, w.before args s = true) (hl : Cond.methodLink own index y_S_poke ∈ tb) (hR : 1 + 1 ≤ R.frames ∧ 8 + (4 + 11) + 22 ≤ R.locals) : CallW R s args own "SignMachine" index y_S_poke b_S_poke 4 (some .boolean) (.code y_S_poke b_S_poke 4 (some .boolean) :: tb) ({ frames := 1, cells := 0, slots := 0, locals := 22 }) 0 0 3 := mk_v 3 hk k_220 hl k_218 k_219 k_116 rfl rfl h_S_poke hR
set_option maxHeartbeats 4000000 in
set_option maxRecDepth 100000 in
theorem c_S_peekSign_b15 (l : Launch) (K : CK) (D : va_G) (cI cJ cZ cB : ClassId) (p0 m0 m1 m2 m3 m4 m5 m6 : Nat) (sz : Nat) (Mx0_4 : Bool) (Mx0_5 : Int32) (Mx0_6 : Int32) (Mx0_7 : Int32) (Mx0_8 : Int32) (Mx0_9 : Int32) (Mx0_10 : Int32) (Mx0_11 : Int32) (Mx0_12 : Int32) (Mx0_13 : Int32) (My1 : Nat → Int32) (My2 : Nat → Int32) (Mx3_0 : Int32) (Mx4_0 : Int32) (My5 : Nat → Int32) (My6 : Nat → Int32)  (a1 : Int32) : Met l y_S_peekSign (.code y_S_peekSign b_S_peekSign 2 (some .int) :: tb) ({ frames := 1, cells := 0, slots := 0, locals := 21 }) (pMC K D cI cJ cZ cB ((wS54 cI cJ cZ cB p0 m0) ++ (wS62 cI cJ cZ cB m0 m1 m2 m3 m4 m5 m6 Mx0_4 Mx0_5 Mx0_6 Mx0_7 Mx0_8 Mx0_9 Mx0_10 Mx0_11 Mx0_12 Mx0_13 My1 My2 Mx3_0 Mx4_0 My5 My6)) sz [.ref p0, .int a1]) (va_Qi (fun r (uL : Int32) => uL = (0 : Int32)) (fun uL t => ∃ W9 : va_W, isC K cI cJ cZ cB p0 uL W9 ∧ va_P D classes W9 t.heap ∧ va_D (va_A ((wS54 cI cJ cZ cB p0 m0) ++ (wS62 cI cJ cZ cB m0 m1 m2 m3 m4 m5 m6 Mx0_4 Mx0_5 Mx0_6 Mx0_7 Mx0_8 Mx0_9 Mx0_10 Mx0_11 Mx0_12 Mx0_13 My1 My2 Mx3_0 Mx4_0 My5 My6)) sz) W9) (va_A ((wS54 cI cJ cZ cB p0 m0) ++ (wS62 cI cJ cZ cB m0 m1 m2 m3 m4 m5 m6 Mx0_4 Mx0_5 Mx0_6 Mx0_7 Mx0_8 Mx0_9 Mx0_10 Mx0_11 Mx0_12 Mx0_13 My1 My2 Mx3_0 Mx4_0 My5 My6)) sz)) 0 0 (va_A ((wS54 cI cJ cZ cB p0 m0) ++ (wS62 cI cJ cZ cB m0 m1 m2 m3 m4 m5 m6 Mx0_4 Mx0_5 Mx0_6 Mx0_7 Mx0_8 Mx0_9 Mx0_10 Mx0_11 Mx0_12 Mx0_13 My1 My2 Mx3_0 Mx4_0 My5 My6)) sz) := by
  refine Met.ofW (cc := b_S_peekSign) (maxL := 2) (ret := (some .int)) (by decide) rfl ?_
  intro p e s m args below meth c s₁ B hml hv
  obtain ⟨rfl, hsz, hK, hP, hD0, hC⟩ := hv
  subst hsz
  have hD := hD0.self (sz := s.heap.size)
  generalize hAe : va_A ((wS54 cI cJ cZ cB p0 m0) ++ (wS62 cI cJ cZ cB m0 m1 m2 m3 m4 m5 m6 Mx0_4 Mx0_5 Mx0_6 Mx0_7 Mx0_8 Mx0_9 Mx0_10 Mx0_11 Mx0_12 Mx0_13 My1 My2 Mx3_0 Mx4_0 My5 My6)) s.heap.size = A at hD hC ⊢
  have hA : ∀ q : Nat, s.heap.size ≤ q → A q := fun q h => by rw [← hAe]; exact Or.inr h
  clear hAe hD0
  have hS : va_S A s.heap s.heap [] := va_S.rf
  have hx := B.exec
  have hb := B.bytes
  have hr := B.returns
  have hts := atoms_spec (ws := .code y_S_peekSign b_S_peekSign 2 (some .int) :: tb) B.pre
  have hk : ∀ w ∈ tb, w.before [.ref p0, .int a1].toArray s = true := fun w h => hts w (List.mem_cons_of_mem _ h)
  have hown : s.vm.findClass "SignMachine" = some m.cls := findClass_of_methodNamed B.named
  have hlocks := B.notSynchronized
  have hl := lv_entry ([.ref p0, .int a1]) (n := 2) (Nat.le_of_ble_eq_true rfl)
  rw [lg_entry_eq]
  generalize (lg_sl ([.ref p0, .int a1]) ++ List.replicate (2 - (lg_sl ([.ref p0, .int a1])).length) Slot.unset).toArray = ls at hl ⊢
  have hl : lv_has ls 2 [(0, .ref p0), (1, .int a1)] := hl
  refine lv_iload_n hx hb d_S_peekSign_0 rfl (lv_at hl 1 rfl) ?_
  refine cs_i (W.runS (As := [.int a1]) (rest := []) ⟨hx, hb, hml, hown, hk⟩ (c_M_isAddress l a1) (s_M_isAddress hk k_221 ⟨Nat.le_of_ble_eq_true rfl, Nat.le_of_ble_eq_true rfl⟩) ⟨fun a U g mk q => q, fun U hU hW => ⟨rfl, trivial⟩⟩ rfl rfl hl.1 rfl (lv_room (Nat.le_of_ble_eq_true rfl)) d_S_peekSign_1 ⟨Nat.le_of_ble_eq_true rfl, Nat.le_of_ble_eq_true rfl⟩) ?_
  obtain ⟨z1, hz1⟩ : ∃ y : Bool, y = (f_M_isAddress a1) := ⟨_, rfl⟩
  rw [← hz1]
  refine lv_if_eq (tgt := 21) hx hb d_S_peekSign_4 (by decide) (fun c2 => ?_) (fun c2 => ?_)
  · refine lv_iconst (v := (-1)) hx hb d_S_peekSign_21 (by decide) ?_
    exact W.iret (v := (-1 : Int32)) hx hb hr (fun t ht hW => ⟨⟨(-1 : Int32), (0 : Int32), rfl, rfl, ⟨_, isC_4, (by show va_P D classes _ t.heap; rw [ht]; exact hP), hD⟩⟩, hS.F ht⟩) hS.2.2 d_S_peekSign_22
  · refine lv_aload_n hx hb d_S_peekSign_7 rfl (lv_at hl 0 rfl) ?_
    refine va_get (D := D) (ci := 0) (v := .ref m0) (C := "SignMachine") (T := F_S) (N := 2) hx hb hk fi_S hown hK.1 hP 0 rfl rfl 0 (by decide) (hk _ k_210) (fun _ h9 => h9) rfl d_S_peekSign_8 ?_
    refine lv_iload_n hx hb d_S_peekSign_11 rfl (lv_at hl 1 rfl) ?_
    have hPc := hP.sub (ws' := (wS62 cI cJ cZ cB m0 m1 m2 m3 m4 m5 m6 Mx0_4 Mx0_5 Mx0_6 Mx0_7 Mx0_8 Mx0_9 Mx0_10 Mx0_11 Mx0_12 Mx0_13 My1 My2 Mx3_0 Mx4_0 My5 My6)) [1, 2, 3, 4, 5, 6, 7] rfl
    have hDc := hD.sub (ws' := (wS62 cI cJ cZ cB m0 m1 m2 m3 m4 m5 m6 Mx0_4 Mx0_5 Mx0_6 Mx0_7 Mx0_8 Mx0_9 Mx0_10 Mx0_11 Mx0_12 Mx0_13 My1 My2 Mx3_0 Mx4_0 My5 My6)) [1, 2, 3, 4, 5, 6, 7] (by decide) rfl
    have hFc := va_free (wc := (wS62 cI cJ cZ cB m0 m1 m2 m3 m4 m5 m6 Mx0_4 Mx0_5 Mx0_6 Mx0_7 Mx0_8 Mx0_9 Mx0_10 Mx0_11 Mx0_12 Mx0_13 My1 My2 Mx3_0 Mx4_0 My5 My6)) hD hS hA [1, 2, 3, 4, 5, 6, 7] rfl
    refine va_calli (va_runV (C := "SignMachine$Machine") (As := [.int a1]) (rest := []) ⟨hx, hb, hml, hown, hk⟩ (c_M_wordAt_s5 l K D cI cJ cZ cB m0 m1 m2 m3 m4 m5 m6 s.heap.size Mx0_4 Mx0_5 Mx0_6 Mx0_7 Mx0_8 Mx0_9 Mx0_10 Mx0_11 Mx0_12 Mx0_13 My1 My2 Mx3_0 Mx4_0 My5 My6 a1 ) (v_M_wordAt_s5 hk k_240 ⟨Nat.le_of_ble_eq_true rfl, Nat.le_of_ble_eq_true rfl⟩) (pMC_v hK hPc hDc hC hS hA (ci := 1) (q0 := 0) rfl rfl rfl) rfl rfl hl.1 rfl (lv_room (Nat.le_of_ble_eq_true rfl)) d_S_peekSign_12 ⟨by decide, by decide⟩) hS (fun q _ h => hFc q h) hFc (fun rz3 u t H locs ht hvm hr0 hB hzq hkq hS => ?_)
    obtain ⟨hP1, hD1⟩ := hB
    rw [ht] at hP1
    obtain ⟨hP, hD⟩ := va_join (wr := (wS54 cI cJ cZ cB p0 m0)) (w1 := (wS62 cI cJ cZ cB m0 m1 m2 m3 m4 m5 m6 Mx0_4 Mx0_5 Mx0_6 Mx0_7 Mx0_8 Mx0_9 Mx0_10 Mx0_11 Mx0_12 Mx0_13 My1 My2 Mx3_0 Mx4_0 My5 My6)) hP hD [1, 2, 3, 4, 5, 6, 7] [0] rfl rfl (by decide) (by decide) hkq hFc hP1 hD1
    have hP := hP.sub (ws' := ((wS54 cI cJ cZ cB p0 m0) ++ (wS62 cI cJ cZ cB m0 m1 m2 m3 m4 m5 m6 Mx0_4 Mx0_5 Mx0_6 Mx0_7 Mx0_8 Mx0_9 Mx0_10 Mx0_11 Mx0_12 Mx0_13 My1 My2 Mx3_0 Mx4_0 My5 My6))) [0, 1, 2, 3, 4, 5, 6, 7] rfl
    have hD := hD.sub (ws' := ((wS54 cI cJ cZ cB p0 m0) ++ (wS62 cI cJ cZ cB m0 m1 m2 m3 m4 m5 m6 Mx0_4 Mx0_5 Mx0_6 Mx0_7 Mx0_8 Mx0_9 Mx0_10 Mx0_11 Mx0_12 Mx0_13 My1 My2 Mx3_0 Mx4_0 My5 My6))) [0, 1, 2, 3, 4, 5, 6, 7] (by decide) rfl
    have hP : va_P D classes ((wS54 cI cJ cZ cB p0 m0) ++ (wS62 cI cJ cZ cB m0 m1 m2 m3 m4 m5 m6 Mx0_4 Mx0_5 Mx0_6 Mx0_7 Mx0_8 Mx0_9 Mx0_10 Mx0_11 Mx0_12 Mx0_13 My1 My2 Mx3_0 Mx4_0 My5 My6)) H := hP
    have hD : va_D A ((wS54 cI cJ cZ cB p0 m0) ++ (wS62 cI cJ cZ cB m0 m1 m2 m3 m4 m5 m6 Mx0_4 Mx0_5 Mx0_6 Mx0_7 Mx0_8 Mx0_9 Mx0_10 Mx0_11 Mx0_12 Mx0_13 My1 My2 Mx3_0 Mx4_0 My5 My6)) := hD
    clear hPc hDc hFc
    refine cs_i (W.runS (As := [.int rz3]) (rest := []) ⟨hx, hb, hml, hown, hk⟩ (c_W_sign l rz3) (s_W_sign hk k_244 ⟨Nat.le_of_ble_eq_true rfl, Nat.le_of_ble_eq_true rfl⟩) ⟨fun a U g mk q => q, fun U hU hW => ⟨rfl, trivial⟩⟩ rfl rfl hl.1 rfl (lv_room (Nat.le_of_ble_eq_true rfl)) d_S_peekSign_15 ⟨Nat.le_of_ble_eq_true rfl, Nat.le_of_ble_eq_true rfl⟩) ?_
    refine lv_topi (fun v4 hv4 => ?_)
    refine lv_goto (tgt := 22) hx hb d_S_peekSign_18 (by decide) ?_
    exact W.iret (v := v4) hx hb hr (fun t ht hW => ⟨⟨v4, (0 : Int32), rfl, rfl, ⟨_, isC_4, (by show va_P D classes _ t.heap; rw [ht]; exact hP), hD⟩⟩, hS.F ht⟩) hS.2.2 d_S_peekSign_22
theorem v_S_peekSign_b15 {R : Room} {s : State} {args : Array Value} {own : String} {index : Nat} (hk : ∀ w ∈ tb, w.before args s = true) (hl : Cond.methodLink own index y_S_peekSign ∈ tb) (hR : 1 + 1 ≤ R.frames ∧ 8 + (2 + 11) + 21 ≤ R.locals) : CallW R s args own "SignMachine" index y_S_peekSign b_S_peekSign 2 (some .int) (.code y_S_peekSign b_S_peekSign 2 (some .int) :: tb) ({ frames := 1, cells := 0, slots := 0, locals := 21 }) 0 0 1 := mk_v 1 hk k_239 hl k_237 k_238 k_116 rfl rfl h_S_peekSign hR
set_option maxHeartbeats 4000000 in
set_option maxRecDepth 100000 in
theorem c_S_peekSize_b15 (l : Launch) (K : CK) (D : va_G) (cI cJ cZ cB : ClassId) (p0 m0 m1 m2 m3 m4 m5 m6 : Nat) (sz : Nat) (Mx0_4 : Bool) (Mx0_5 : Int32) (Mx0_6 : Int32) (Mx0_7 : Int32) (Mx0_8 : Int32) (Mx0_9 : Int32) (Mx0_10 : Int32) (Mx0_11 : Int32) (Mx0_12 : Int32) (Mx0_13 : Int32) (My1 : Nat → Int32) (My2 : Nat → Int32) (Mx3_0 : Int32) (Mx4_0 : Int32) (My5 : Nat → Int32) (My6 : Nat → Int32)  (a1 : Int32) : Met l y_S_peekSize (.code y_S_peekSize b_S_peekSize 2 (some .int) :: tb) ({ frames := 1, cells := 0, slots := 0, locals := 21 }) (pMC K D cI cJ cZ cB ((wS54 cI cJ cZ cB p0 m0) ++ (wS62 cI cJ cZ cB m0 m1 m2 m3 m4 m5 m6 Mx0_4 Mx0_5 Mx0_6 Mx0_7 Mx0_8 Mx0_9 Mx0_10 Mx0_11 Mx0_12 Mx0_13 My1 My2 Mx3_0 Mx4_0 My5 My6)) sz [.ref p0, .int a1]) (va_Qi (fun r (uL : Int32) => uL = (0 : Int32)) (fun uL t => ∃ W9 : va_W, isC K cI cJ cZ cB p0 uL W9 ∧ va_P D classes W9 t.heap ∧ va_D (va_A ((wS54 cI cJ cZ cB p0 m0) ++ (wS62 cI cJ cZ cB m0 m1 m2 m3 m4 m5 m6 Mx0_4 Mx0_5 Mx0_6 Mx0_7 Mx0_8 Mx0_9 Mx0_10 Mx0_11 Mx0_12 Mx0_13 My1 My2 Mx3_0 Mx4_0 My5 My6)) sz) W9) (va_A ((wS54 cI cJ cZ cB p0 m0) ++ (wS62 cI cJ cZ cB m0 m1 m2 m3 m4 m5 m6 Mx0_4 Mx0_5 Mx0_6 Mx0_7 Mx0_8 Mx0_9 Mx0_10 Mx0_11 Mx0_12 Mx0_13 My1 My2 Mx3_0 Mx4_0 My5 My6)) sz)) 0 0 (va_A ((wS54 cI cJ cZ cB p0 m0) ++ (wS62 cI cJ cZ cB m0 m1 m2 m3 m4 m5 m6 Mx0_4 Mx0_5 Mx0_6 Mx0_7 Mx0_8 Mx0_9 Mx0_10 Mx0_11 Mx0_12 Mx0_13 My1 My2 Mx3_0 Mx4_0 My5 My6)) sz) := by
  refine Met.ofW (cc := b_S_peekSize) (maxL := 2) (ret := (some .int)) (by decide) rfl ?_
  intro p e s m args below meth c s₁ B hml hv
  obtain ⟨rfl, hsz, hK, hP, hD0, hC⟩ := hv
  subst hsz
  have hD := hD0.self (sz := s.heap.size)
  generalize hAe : va_A ((wS54 cI cJ cZ cB p0 m0) ++ (wS62 cI cJ cZ cB m0 m1 m2 m3 m4 m5 m6 Mx0_4 Mx0_5 Mx0_6 Mx0_7 Mx0_8 Mx0_9 Mx0_10 Mx0_11 Mx0_12 Mx0_13 My1 My2 Mx3_0 Mx4_0 My5 My6)) s.heap.size = A at hD hC ⊢
  have hA : ∀ q : Nat, s.heap.size ≤ q → A q := fun q h => by rw [← hAe]; exact Or.inr h
  clear hAe hD0
  have hS : va_S A s.heap s.heap [] := va_S.rf
  have hx := B.exec
  have hb := B.bytes
  have hr := B.returns
  have hts := atoms_spec (ws := .code y_S_peekSize b_S_peekSize 2 (some .int) :: tb) B.pre
  have hk : ∀ w ∈ tb, w.before [.ref p0, .int a1].toArray s = true := fun w h => hts w (List.mem_cons_of_mem _ h)
  have hown : s.vm.findClass "SignMachine" = some m.cls := findClass_of_methodNamed B.named
  have hlocks := B.notSynchronized
  have hl := lv_entry ([.ref p0, .int a1]) (n := 2) (Nat.le_of_ble_eq_true rfl)
  rw [lg_entry_eq]
  generalize (lg_sl ([.ref p0, .int a1]) ++ List.replicate (2 - (lg_sl ([.ref p0, .int a1])).length) Slot.unset).toArray = ls at hl ⊢
  have hl : lv_has ls 2 [(0, .ref p0), (1, .int a1)] := hl
  refine lv_iload_n hx hb d_S_peekSize_0 rfl (lv_at hl 1 rfl) ?_
  refine cs_i (W.runS (As := [.int a1]) (rest := []) ⟨hx, hb, hml, hown, hk⟩ (c_M_isAddress l a1) (s_M_isAddress hk k_221 ⟨Nat.le_of_ble_eq_true rfl, Nat.le_of_ble_eq_true rfl⟩) ⟨fun a U g mk q => q, fun U hU hW => ⟨rfl, trivial⟩⟩ rfl rfl hl.1 rfl (lv_room (Nat.le_of_ble_eq_true rfl)) d_S_peekSize_1 ⟨Nat.le_of_ble_eq_true rfl, Nat.le_of_ble_eq_true rfl⟩) ?_
  obtain ⟨z1, hz1⟩ : ∃ y : Bool, y = (f_M_isAddress a1) := ⟨_, rfl⟩
  rw [← hz1]
  refine lv_if_eq (tgt := 21) hx hb d_S_peekSize_4 (by decide) (fun c2 => ?_) (fun c2 => ?_)
  · refine lv_iconst (v := (-1)) hx hb d_S_peekSize_21 (by decide) ?_
    exact W.iret (v := (-1 : Int32)) hx hb hr (fun t ht hW => ⟨⟨(-1 : Int32), (0 : Int32), rfl, rfl, ⟨_, isC_4, (by show va_P D classes _ t.heap; rw [ht]; exact hP), hD⟩⟩, hS.F ht⟩) hS.2.2 d_S_peekSize_22
  · refine lv_aload_n hx hb d_S_peekSize_7 rfl (lv_at hl 0 rfl) ?_
    refine va_get (D := D) (ci := 0) (v := .ref m0) (C := "SignMachine") (T := F_S) (N := 2) hx hb hk fi_S hown hK.1 hP 0 rfl rfl 0 (by decide) (hk _ k_210) (fun _ h9 => h9) rfl d_S_peekSize_8 ?_
    refine lv_iload_n hx hb d_S_peekSize_11 rfl (lv_at hl 1 rfl) ?_
    have hPc := hP.sub (ws' := (wS62 cI cJ cZ cB m0 m1 m2 m3 m4 m5 m6 Mx0_4 Mx0_5 Mx0_6 Mx0_7 Mx0_8 Mx0_9 Mx0_10 Mx0_11 Mx0_12 Mx0_13 My1 My2 Mx3_0 Mx4_0 My5 My6)) [1, 2, 3, 4, 5, 6, 7] rfl
    have hDc := hD.sub (ws' := (wS62 cI cJ cZ cB m0 m1 m2 m3 m4 m5 m6 Mx0_4 Mx0_5 Mx0_6 Mx0_7 Mx0_8 Mx0_9 Mx0_10 Mx0_11 Mx0_12 Mx0_13 My1 My2 Mx3_0 Mx4_0 My5 My6)) [1, 2, 3, 4, 5, 6, 7] (by decide) rfl
    have hFc := va_free (wc := (wS62 cI cJ cZ cB m0 m1 m2 m3 m4 m5 m6 Mx0_4 Mx0_5 Mx0_6 Mx0_7 Mx0_8 Mx0_9 Mx0_10 Mx0_11 Mx0_12 Mx0_13 My1 My2 Mx3_0 Mx4_0 My5 My6)) hD hS hA [1, 2, 3, 4, 5, 6, 7] rfl
    refine va_calli (va_runV (C := "SignMachine$Machine") (As := [.int a1]) (rest := []) ⟨hx, hb, hml, hown, hk⟩ (c_M_wordAt_s5 l K D cI cJ cZ cB m0 m1 m2 m3 m4 m5 m6 s.heap.size Mx0_4 Mx0_5 Mx0_6 Mx0_7 Mx0_8 Mx0_9 Mx0_10 Mx0_11 Mx0_12 Mx0_13 My1 My2 Mx3_0 Mx4_0 My5 My6 a1 ) (v_M_wordAt_s5 hk k_240 ⟨Nat.le_of_ble_eq_true rfl, Nat.le_of_ble_eq_true rfl⟩) (pMC_v hK hPc hDc hC hS hA (ci := 1) (q0 := 0) rfl rfl rfl) rfl rfl hl.1 rfl (lv_room (Nat.le_of_ble_eq_true rfl)) d_S_peekSize_12 ⟨by decide, by decide⟩) hS (fun q _ h => hFc q h) hFc (fun rz3 u t H locs ht hvm hr0 hB hzq hkq hS => ?_)
    obtain ⟨hP1, hD1⟩ := hB
    rw [ht] at hP1
    obtain ⟨hP, hD⟩ := va_join (wr := (wS54 cI cJ cZ cB p0 m0)) (w1 := (wS62 cI cJ cZ cB m0 m1 m2 m3 m4 m5 m6 Mx0_4 Mx0_5 Mx0_6 Mx0_7 Mx0_8 Mx0_9 Mx0_10 Mx0_11 Mx0_12 Mx0_13 My1 My2 Mx3_0 Mx4_0 My5 My6)) hP hD [1, 2, 3, 4, 5, 6, 7] [0] rfl rfl (by decide) (by decide) hkq hFc hP1 hD1
    have hP := hP.sub (ws' := ((wS54 cI cJ cZ cB p0 m0) ++ (wS62 cI cJ cZ cB m0 m1 m2 m3 m4 m5 m6 Mx0_4 Mx0_5 Mx0_6 Mx0_7 Mx0_8 Mx0_9 Mx0_10 Mx0_11 Mx0_12 Mx0_13 My1 My2 Mx3_0 Mx4_0 My5 My6))) [0, 1, 2, 3, 4, 5, 6, 7] rfl
    have hD := hD.sub (ws' := ((wS54 cI cJ cZ cB p0 m0) ++ (wS62 cI cJ cZ cB m0 m1 m2 m3 m4 m5 m6 Mx0_4 Mx0_5 Mx0_6 Mx0_7 Mx0_8 Mx0_9 Mx0_10 Mx0_11 Mx0_12 Mx0_13 My1 My2 Mx3_0 Mx4_0 My5 My6))) [0, 1, 2, 3, 4, 5, 6, 7] (by decide) rfl
    have hP : va_P D classes ((wS54 cI cJ cZ cB p0 m0) ++ (wS62 cI cJ cZ cB m0 m1 m2 m3 m4 m5 m6 Mx0_4 Mx0_5 Mx0_6 Mx0_7 Mx0_8 Mx0_9 Mx0_10 Mx0_11 Mx0_12 Mx0_13 My1 My2 Mx3_0 Mx4_0 My5 My6)) H := hP
    have hD : va_D A ((wS54 cI cJ cZ cB p0 m0) ++ (wS62 cI cJ cZ cB m0 m1 m2 m3 m4 m5 m6 Mx0_4 Mx0_5 Mx0_6 Mx0_7 Mx0_8 Mx0_9 Mx0_10 Mx0_11 Mx0_12 Mx0_13 My1 My2 Mx3_0 Mx4_0 My5 My6)) := hD
    clear hPc hDc hFc
    refine cs_i (W.runS (As := [.int rz3]) (rest := []) ⟨hx, hb, hml, hown, hk⟩ (c_W_size l rz3) (s_W_size hk k_251 ⟨Nat.le_of_ble_eq_true rfl, Nat.le_of_ble_eq_true rfl⟩) ⟨fun a U g mk q => q, fun U hU hW => ⟨rfl, trivial⟩⟩ rfl rfl hl.1 rfl (lv_room (Nat.le_of_ble_eq_true rfl)) d_S_peekSize_15 ⟨Nat.le_of_ble_eq_true rfl, Nat.le_of_ble_eq_true rfl⟩) ?_
    refine lv_topi (fun v4 hv4 => ?_)
    refine lv_goto (tgt := 22) hx hb d_S_peekSize_18 (by decide) ?_
    exact W.iret (v := v4) hx hb hr (fun t ht hW => ⟨⟨v4, (0 : Int32), rfl, rfl, ⟨_, isC_4, (by show va_P D classes _ t.heap; rw [ht]; exact hP), hD⟩⟩, hS.F ht⟩) hS.2.2 d_S_peekSize_22
theorem v_S_peekSize_b15 {R : Room} {s : State} {args : Array Value} {own : String} {index : Nat} (hk : ∀ w ∈ tb, w.before args s = true) (hl : Cond.methodLink own index y_S_peekSize ∈ tb) (hR : 1 + 1 ≤ R.frames ∧ 8 + (2 + 11) + 21 ≤ R.locals) : CallW R s args own "SignMachine" index y_S_peekSize b_S_peekSize 2 (some .int) (.code y_S_peekSize b_S_peekSize 2 (some .int) :: tb) ({ frames := 1, cells := 0, slots := 0, locals := 21 }) 0 0 1 := mk_v 1 hk k_250 hl k_248 k_249 k_116 rfl rfl h_S_peekSize hR
set_option maxHeartbeats 4000000 in
set_option maxRecDepth 100000 in
theorem c_S_registerSign_b15 (l : Launch) (K : CK) (D : va_G) (cI cJ cZ cB : ClassId) (p0 m0 m1 m2 m3 m4 m5 m6 : Nat) (sz : Nat) (Mx0_4 : Bool) (Mx0_5 : Int32) (Mx0_6 : Int32) (Mx0_7 : Int32) (Mx0_8 : Int32) (Mx0_9 : Int32) (Mx0_10 : Int32) (Mx0_11 : Int32) (Mx0_12 : Int32) (Mx0_13 : Int32) (My1 : Nat → Int32) (My2 : Nat → Int32) (Mx3_0 : Int32) (Mx4_0 : Int32) (My5 : Nat → Int32) (My6 : Nat → Int32)  (a1 : Int32) : Met l y_S_registerSign (.code y_S_registerSign b_S_registerSign 2 (some .int) :: tb) ({ frames := 1, cells := 0, slots := 0, locals := 21 }) (pMC K D cI cJ cZ cB ((wS54 cI cJ cZ cB p0 m0) ++ (wS62 cI cJ cZ cB m0 m1 m2 m3 m4 m5 m6 Mx0_4 Mx0_5 Mx0_6 Mx0_7 Mx0_8 Mx0_9 Mx0_10 Mx0_11 Mx0_12 Mx0_13 My1 My2 Mx3_0 Mx4_0 My5 My6)) sz [.ref p0, .int a1]) (va_Qi (fun r (uL : Int32) => uL = (0 : Int32)) (fun uL t => ∃ W9 : va_W, isC K cI cJ cZ cB p0 uL W9 ∧ va_P D classes W9 t.heap ∧ va_D (va_A ((wS54 cI cJ cZ cB p0 m0) ++ (wS62 cI cJ cZ cB m0 m1 m2 m3 m4 m5 m6 Mx0_4 Mx0_5 Mx0_6 Mx0_7 Mx0_8 Mx0_9 Mx0_10 Mx0_11 Mx0_12 Mx0_13 My1 My2 Mx3_0 Mx4_0 My5 My6)) sz) W9) (va_A ((wS54 cI cJ cZ cB p0 m0) ++ (wS62 cI cJ cZ cB m0 m1 m2 m3 m4 m5 m6 Mx0_4 Mx0_5 Mx0_6 Mx0_7 Mx0_8 Mx0_9 Mx0_10 Mx0_11 Mx0_12 Mx0_13 My1 My2 Mx3_0 Mx4_0 My5 My6)) sz)) 0 0 (va_A ((wS54 cI cJ cZ cB p0 m0) ++ (wS62 cI cJ cZ cB m0 m1 m2 m3 m4 m5 m6 Mx0_4 Mx0_5 Mx0_6 Mx0_7 Mx0_8 Mx0_9 Mx0_10 Mx0_11 Mx0_12 Mx0_13 My1 My2 Mx3_0 Mx4_0 My5 My6)) sz) := by
  refine Met.ofW (cc := b_S_registerSign) (maxL := 2) (ret := (some .int)) (by decide) rfl ?_
  intro p e s m args below meth c s₁ B hml hv
  obtain ⟨rfl, hsz, hK, hP, hD0, hC⟩ := hv
  subst hsz
  have hD := hD0.self (sz := s.heap.size)
  generalize hAe : va_A ((wS54 cI cJ cZ cB p0 m0) ++ (wS62 cI cJ cZ cB m0 m1 m2 m3 m4 m5 m6 Mx0_4 Mx0_5 Mx0_6 Mx0_7 Mx0_8 Mx0_9 Mx0_10 Mx0_11 Mx0_12 Mx0_13 My1 My2 Mx3_0 Mx4_0 My5 My6)) s.heap.size = A at hD hC ⊢
  have hA : ∀ q : Nat, s.heap.size ≤ q → A q := fun q h => by rw [← hAe]; exact Or.inr h
  clear hAe hD0
  have hS : va_S A s.heap s.heap [] := va_S.rf
  have hx := B.exec
  have hb := B.bytes
  have hr := B.returns
  have hts := atoms_spec (ws := .code y_S_registerSign b_S_registerSign 2 (some .int) :: tb) B.pre
  have hk : ∀ w ∈ tb, w.before [.ref p0, .int a1].toArray s = true := fun w h => hts w (List.mem_cons_of_mem _ h)
  have hown : s.vm.findClass "SignMachine" = some m.cls := findClass_of_methodNamed B.named
  have hlocks := B.notSynchronized
  have hl := lv_entry ([.ref p0, .int a1]) (n := 2) (Nat.le_of_ble_eq_true rfl)
  rw [lg_entry_eq]
  generalize (lg_sl ([.ref p0, .int a1]) ++ List.replicate (2 - (lg_sl ([.ref p0, .int a1])).length) Slot.unset).toArray = ls at hl ⊢
  have hl : lv_has ls 2 [(0, .ref p0), (1, .int a1)] := hl
  refine lv_iload_n hx hb d_S_registerSign_0 rfl (lv_at hl 1 rfl) ?_
  refine cs_i (W.runS (As := [.int a1]) (rest := []) ⟨hx, hb, hml, hown, hk⟩ (c_M_isRegister l a1) (s_M_isRegister hk k_479 ⟨Nat.le_of_ble_eq_true rfl, Nat.le_of_ble_eq_true rfl⟩) ⟨fun a U g mk q => q, fun U hU hW => ⟨rfl, trivial⟩⟩ rfl rfl hl.1 rfl (lv_room (Nat.le_of_ble_eq_true rfl)) d_S_registerSign_1 ⟨Nat.le_of_ble_eq_true rfl, Nat.le_of_ble_eq_true rfl⟩) ?_
  obtain ⟨z1, hz1⟩ : ∃ y : Bool, y = (f_M_isRegister a1) := ⟨_, rfl⟩
  rw [← hz1]
  refine lv_if_eq (tgt := 21) hx hb d_S_registerSign_4 (by decide) (fun c2 => ?_) (fun c2 => ?_)
  · refine lv_iconst (v := (-1)) hx hb d_S_registerSign_21 (by decide) ?_
    exact W.iret (v := (-1 : Int32)) hx hb hr (fun t ht hW => ⟨⟨(-1 : Int32), (0 : Int32), rfl, rfl, ⟨_, isC_4, (by show va_P D classes _ t.heap; rw [ht]; exact hP), hD⟩⟩, hS.F ht⟩) hS.2.2 d_S_registerSign_22
  · refine lv_aload_n hx hb d_S_registerSign_7 rfl (lv_at hl 0 rfl) ?_
    refine va_get (D := D) (ci := 0) (v := .ref m0) (C := "SignMachine") (T := F_S) (N := 2) hx hb hk fi_S hown hK.1 hP 0 rfl rfl 0 (by decide) (hk _ k_210) (fun _ h9 => h9) rfl d_S_registerSign_8 ?_
    refine lv_iload_n hx hb d_S_registerSign_11 rfl (lv_at hl 1 rfl) ?_
    have hPc := hP.sub (ws' := (wS62 cI cJ cZ cB m0 m1 m2 m3 m4 m5 m6 Mx0_4 Mx0_5 Mx0_6 Mx0_7 Mx0_8 Mx0_9 Mx0_10 Mx0_11 Mx0_12 Mx0_13 My1 My2 Mx3_0 Mx4_0 My5 My6)) [1, 2, 3, 4, 5, 6, 7] rfl
    have hDc := hD.sub (ws' := (wS62 cI cJ cZ cB m0 m1 m2 m3 m4 m5 m6 Mx0_4 Mx0_5 Mx0_6 Mx0_7 Mx0_8 Mx0_9 Mx0_10 Mx0_11 Mx0_12 Mx0_13 My1 My2 Mx3_0 Mx4_0 My5 My6)) [1, 2, 3, 4, 5, 6, 7] (by decide) rfl
    have hFc := va_free (wc := (wS62 cI cJ cZ cB m0 m1 m2 m3 m4 m5 m6 Mx0_4 Mx0_5 Mx0_6 Mx0_7 Mx0_8 Mx0_9 Mx0_10 Mx0_11 Mx0_12 Mx0_13 My1 My2 Mx3_0 Mx4_0 My5 My6)) hD hS hA [1, 2, 3, 4, 5, 6, 7] rfl
    refine va_calli (va_runV (C := "SignMachine$Machine") (As := [.int a1]) (rest := []) ⟨hx, hb, hml, hown, hk⟩ (c_M_register_s5 l K D cI cJ cZ cB m0 m1 m2 m3 m4 m5 m6 s.heap.size Mx0_4 Mx0_5 Mx0_6 Mx0_7 Mx0_8 Mx0_9 Mx0_10 Mx0_11 Mx0_12 Mx0_13 My1 My2 Mx3_0 Mx4_0 My5 My6 a1 ) (v_M_register_s5 hk k_482 ⟨Nat.le_of_ble_eq_true rfl, Nat.le_of_ble_eq_true rfl⟩) (pMC_v hK hPc hDc hC hS hA (ci := 1) (q0 := 0) rfl rfl rfl) rfl rfl hl.1 rfl (lv_room (Nat.le_of_ble_eq_true rfl)) d_S_registerSign_12 ⟨by decide, by decide⟩) hS (fun q _ h => hFc q h) hFc (fun rz3 u t H locs ht hvm hr0 hB hzq hkq hS => ?_)
    obtain ⟨hP1, hD1⟩ := hB
    rw [ht] at hP1
    obtain ⟨hP, hD⟩ := va_join (wr := (wS54 cI cJ cZ cB p0 m0)) (w1 := (wS62 cI cJ cZ cB m0 m1 m2 m3 m4 m5 m6 Mx0_4 Mx0_5 Mx0_6 Mx0_7 Mx0_8 Mx0_9 Mx0_10 Mx0_11 Mx0_12 Mx0_13 My1 My2 Mx3_0 Mx4_0 My5 My6)) hP hD [1, 2, 3, 4, 5, 6, 7] [0] rfl rfl (by decide) (by decide) hkq hFc hP1 hD1
    have hP := hP.sub (ws' := ((wS54 cI cJ cZ cB p0 m0) ++ (wS62 cI cJ cZ cB m0 m1 m2 m3 m4 m5 m6 Mx0_4 Mx0_5 Mx0_6 Mx0_7 Mx0_8 Mx0_9 Mx0_10 Mx0_11 Mx0_12 Mx0_13 My1 My2 Mx3_0 Mx4_0 My5 My6))) [0, 1, 2, 3, 4, 5, 6, 7] rfl
    have hD := hD.sub (ws' := ((wS54 cI cJ cZ cB p0 m0) ++ (wS62 cI cJ cZ cB m0 m1 m2 m3 m4 m5 m6 Mx0_4 Mx0_5 Mx0_6 Mx0_7 Mx0_8 Mx0_9 Mx0_10 Mx0_11 Mx0_12 Mx0_13 My1 My2 Mx3_0 Mx4_0 My5 My6))) [0, 1, 2, 3, 4, 5, 6, 7] (by decide) rfl
    have hP : va_P D classes ((wS54 cI cJ cZ cB p0 m0) ++ (wS62 cI cJ cZ cB m0 m1 m2 m3 m4 m5 m6 Mx0_4 Mx0_5 Mx0_6 Mx0_7 Mx0_8 Mx0_9 Mx0_10 Mx0_11 Mx0_12 Mx0_13 My1 My2 Mx3_0 Mx4_0 My5 My6)) H := hP
    have hD : va_D A ((wS54 cI cJ cZ cB p0 m0) ++ (wS62 cI cJ cZ cB m0 m1 m2 m3 m4 m5 m6 Mx0_4 Mx0_5 Mx0_6 Mx0_7 Mx0_8 Mx0_9 Mx0_10 Mx0_11 Mx0_12 Mx0_13 My1 My2 Mx3_0 Mx4_0 My5 My6)) := hD
    clear hPc hDc hFc
    refine cs_i (W.runS (As := [.int rz3]) (rest := []) ⟨hx, hb, hml, hown, hk⟩ (c_W_sign l rz3) (s_W_sign hk k_244 ⟨Nat.le_of_ble_eq_true rfl, Nat.le_of_ble_eq_true rfl⟩) ⟨fun a U g mk q => q, fun U hU hW => ⟨rfl, trivial⟩⟩ rfl rfl hl.1 rfl (lv_room (Nat.le_of_ble_eq_true rfl)) d_S_registerSign_15 ⟨Nat.le_of_ble_eq_true rfl, Nat.le_of_ble_eq_true rfl⟩) ?_
    refine lv_topi (fun v4 hv4 => ?_)
    refine lv_goto (tgt := 22) hx hb d_S_registerSign_18 (by decide) ?_
    exact W.iret (v := v4) hx hb hr (fun t ht hW => ⟨⟨v4, (0 : Int32), rfl, rfl, ⟨_, isC_4, (by show va_P D classes _ t.heap; rw [ht]; exact hP), hD⟩⟩, hS.F ht⟩) hS.2.2 d_S_registerSign_22
theorem v_S_registerSign_b15 {R : Room} {s : State} {args : Array Value} {own : String} {index : Nat} (hk : ∀ w ∈ tb, w.before args s = true) (hl : Cond.methodLink own index y_S_registerSign ∈ tb) (hR : 1 + 1 ≤ R.frames ∧ 8 + (2 + 11) + 21 ≤ R.locals) : CallW R s args own "SignMachine" index y_S_registerSign b_S_registerSign 2 (some .int) (.code y_S_registerSign b_S_registerSign 2 (some .int) :: tb) ({ frames := 1, cells := 0, slots := 0, locals := 21 }) 0 0 1 := mk_v 1 hk k_478 hl k_476 k_477 k_116 rfl rfl h_S_registerSign hR
set_option maxHeartbeats 4000000 in
set_option maxRecDepth 100000 in
theorem c_S_registerSize_b15 (l : Launch) (K : CK) (D : va_G) (cI cJ cZ cB : ClassId) (p0 m0 m1 m2 m3 m4 m5 m6 : Nat) (sz : Nat) (Mx0_4 : Bool) (Mx0_5 : Int32) (Mx0_6 : Int32) (Mx0_7 : Int32) (Mx0_8 : Int32) (Mx0_9 : Int32) (Mx0_10 : Int32) (Mx0_11 : Int32) (Mx0_12 : Int32) (Mx0_13 : Int32) (My1 : Nat → Int32) (My2 : Nat → Int32) (Mx3_0 : Int32) (Mx4_0 : Int32) (My5 : Nat → Int32) (My6 : Nat → Int32)  (a1 : Int32) : Met l y_S_registerSize (.code y_S_registerSize b_S_registerSize 2 (some .int) :: tb) ({ frames := 1, cells := 0, slots := 0, locals := 21 }) (pMC K D cI cJ cZ cB ((wS54 cI cJ cZ cB p0 m0) ++ (wS62 cI cJ cZ cB m0 m1 m2 m3 m4 m5 m6 Mx0_4 Mx0_5 Mx0_6 Mx0_7 Mx0_8 Mx0_9 Mx0_10 Mx0_11 Mx0_12 Mx0_13 My1 My2 Mx3_0 Mx4_0 My5 My6)) sz [.ref p0, .int a1]) (va_Qi (fun r (uL : Int32) => uL = (0 : Int32)) (fun uL t => ∃ W9 : va_W, isC K cI cJ cZ cB p0 uL W9 ∧ va_P D classes W9 t.heap ∧ va_D (va_A ((wS54 cI cJ cZ cB p0 m0) ++ (wS62 cI cJ cZ cB m0 m1 m2 m3 m4 m5 m6 Mx0_4 Mx0_5 Mx0_6 Mx0_7 Mx0_8 Mx0_9 Mx0_10 Mx0_11 Mx0_12 Mx0_13 My1 My2 Mx3_0 Mx4_0 My5 My6)) sz) W9) (va_A ((wS54 cI cJ cZ cB p0 m0) ++ (wS62 cI cJ cZ cB m0 m1 m2 m3 m4 m5 m6 Mx0_4 Mx0_5 Mx0_6 Mx0_7 Mx0_8 Mx0_9 Mx0_10 Mx0_11 Mx0_12 Mx0_13 My1 My2 Mx3_0 Mx4_0 My5 My6)) sz)) 0 0 (va_A ((wS54 cI cJ cZ cB p0 m0) ++ (wS62 cI cJ cZ cB m0 m1 m2 m3 m4 m5 m6 Mx0_4 Mx0_5 Mx0_6 Mx0_7 Mx0_8 Mx0_9 Mx0_10 Mx0_11 Mx0_12 Mx0_13 My1 My2 Mx3_0 Mx4_0 My5 My6)) sz) := by
  refine Met.ofW (cc := b_S_registerSize) (maxL := 2) (ret := (some .int)) (by decide) rfl ?_
  intro p e s m args below meth c s₁ B hml hv
  obtain ⟨rfl, hsz, hK, hP, hD0, hC⟩ := hv
  subst hsz
  have hD := hD0.self (sz := s.heap.size)
  generalize hAe : va_A ((wS54 cI cJ cZ cB p0 m0) ++ (wS62 cI cJ cZ cB m0 m1 m2 m3 m4 m5 m6 Mx0_4 Mx0_5 Mx0_6 Mx0_7 Mx0_8 Mx0_9 Mx0_10 Mx0_11 Mx0_12 Mx0_13 My1 My2 Mx3_0 Mx4_0 My5 My6)) s.heap.size = A at hD hC ⊢
  have hA : ∀ q : Nat, s.heap.size ≤ q → A q := fun q h => by rw [← hAe]; exact Or.inr h
  clear hAe hD0
  have hS : va_S A s.heap s.heap [] := va_S.rf
  have hx := B.exec
  have hb := B.bytes
  have hr := B.returns
  have hts := atoms_spec (ws := .code y_S_registerSize b_S_registerSize 2 (some .int) :: tb) B.pre
  have hk : ∀ w ∈ tb, w.before [.ref p0, .int a1].toArray s = true := fun w h => hts w (List.mem_cons_of_mem _ h)
  have hown : s.vm.findClass "SignMachine" = some m.cls := findClass_of_methodNamed B.named
  have hlocks := B.notSynchronized
  have hl := lv_entry ([.ref p0, .int a1]) (n := 2) (Nat.le_of_ble_eq_true rfl)
  rw [lg_entry_eq]
  generalize (lg_sl ([.ref p0, .int a1]) ++ List.replicate (2 - (lg_sl ([.ref p0, .int a1])).length) Slot.unset).toArray = ls at hl ⊢
  have hl : lv_has ls 2 [(0, .ref p0), (1, .int a1)] := hl
  refine lv_iload_n hx hb d_S_registerSize_0 rfl (lv_at hl 1 rfl) ?_
  refine cs_i (W.runS (As := [.int a1]) (rest := []) ⟨hx, hb, hml, hown, hk⟩ (c_M_isRegister l a1) (s_M_isRegister hk k_479 ⟨Nat.le_of_ble_eq_true rfl, Nat.le_of_ble_eq_true rfl⟩) ⟨fun a U g mk q => q, fun U hU hW => ⟨rfl, trivial⟩⟩ rfl rfl hl.1 rfl (lv_room (Nat.le_of_ble_eq_true rfl)) d_S_registerSize_1 ⟨Nat.le_of_ble_eq_true rfl, Nat.le_of_ble_eq_true rfl⟩) ?_
  obtain ⟨z1, hz1⟩ : ∃ y : Bool, y = (f_M_isRegister a1) := ⟨_, rfl⟩
  rw [← hz1]
  refine lv_if_eq (tgt := 21) hx hb d_S_registerSize_4 (by decide) (fun c2 => ?_) (fun c2 => ?_)
  · refine lv_iconst (v := (-1)) hx hb d_S_registerSize_21 (by decide) ?_
    exact W.iret (v := (-1 : Int32)) hx hb hr (fun t ht hW => ⟨⟨(-1 : Int32), (0 : Int32), rfl, rfl, ⟨_, isC_4, (by show va_P D classes _ t.heap; rw [ht]; exact hP), hD⟩⟩, hS.F ht⟩) hS.2.2 d_S_registerSize_22
  · refine lv_aload_n hx hb d_S_registerSize_7 rfl (lv_at hl 0 rfl) ?_
    refine va_get (D := D) (ci := 0) (v := .ref m0) (C := "SignMachine") (T := F_S) (N := 2) hx hb hk fi_S hown hK.1 hP 0 rfl rfl 0 (by decide) (hk _ k_210) (fun _ h9 => h9) rfl d_S_registerSize_8 ?_
    refine lv_iload_n hx hb d_S_registerSize_11 rfl (lv_at hl 1 rfl) ?_
    have hPc := hP.sub (ws' := (wS62 cI cJ cZ cB m0 m1 m2 m3 m4 m5 m6 Mx0_4 Mx0_5 Mx0_6 Mx0_7 Mx0_8 Mx0_9 Mx0_10 Mx0_11 Mx0_12 Mx0_13 My1 My2 Mx3_0 Mx4_0 My5 My6)) [1, 2, 3, 4, 5, 6, 7] rfl
    have hDc := hD.sub (ws' := (wS62 cI cJ cZ cB m0 m1 m2 m3 m4 m5 m6 Mx0_4 Mx0_5 Mx0_6 Mx0_7 Mx0_8 Mx0_9 Mx0_10 Mx0_11 Mx0_12 Mx0_13 My1 My2 Mx3_0 Mx4_0 My5 My6)) [1, 2, 3, 4, 5, 6, 7] (by decide) rfl
    have hFc := va_free (wc := (wS62 cI cJ cZ cB m0 m1 m2 m3 m4 m5 m6 Mx0_4 Mx0_5 Mx0_6 Mx0_7 Mx0_8 Mx0_9 Mx0_10 Mx0_11 Mx0_12 Mx0_13 My1 My2 Mx3_0 Mx4_0 My5 My6)) hD hS hA [1, 2, 3, 4, 5, 6, 7] rfl
    refine va_calli (va_runV (C := "SignMachine$Machine") (As := [.int a1]) (rest := []) ⟨hx, hb, hml, hown, hk⟩ (c_M_register_s5 l K D cI cJ cZ cB m0 m1 m2 m3 m4 m5 m6 s.heap.size Mx0_4 Mx0_5 Mx0_6 Mx0_7 Mx0_8 Mx0_9 Mx0_10 Mx0_11 Mx0_12 Mx0_13 My1 My2 Mx3_0 Mx4_0 My5 My6 a1 ) (v_M_register_s5 hk k_482 ⟨Nat.le_of_ble_eq_true rfl, Nat.le_of_ble_eq_true rfl⟩) (pMC_v hK hPc hDc hC hS hA (ci := 1) (q0 := 0) rfl rfl rfl) rfl rfl hl.1 rfl (lv_room (Nat.le_of_ble_eq_true rfl)) d_S_registerSize_12 ⟨by decide, by decide⟩) hS (fun q _ h => hFc q h) hFc (fun rz3 u t H locs ht hvm hr0 hB hzq hkq hS => ?_)
    obtain ⟨hP1, hD1⟩ := hB
    rw [ht] at hP1
    obtain ⟨hP, hD⟩ := va_join (wr := (wS54 cI cJ cZ cB p0 m0)) (w1 := (wS62 cI cJ cZ cB m0 m1 m2 m3 m4 m5 m6 Mx0_4 Mx0_5 Mx0_6 Mx0_7 Mx0_8 Mx0_9 Mx0_10 Mx0_11 Mx0_12 Mx0_13 My1 My2 Mx3_0 Mx4_0 My5 My6)) hP hD [1, 2, 3, 4, 5, 6, 7] [0] rfl rfl (by decide) (by decide) hkq hFc hP1 hD1
    have hP := hP.sub (ws' := ((wS54 cI cJ cZ cB p0 m0) ++ (wS62 cI cJ cZ cB m0 m1 m2 m3 m4 m5 m6 Mx0_4 Mx0_5 Mx0_6 Mx0_7 Mx0_8 Mx0_9 Mx0_10 Mx0_11 Mx0_12 Mx0_13 My1 My2 Mx3_0 Mx4_0 My5 My6))) [0, 1, 2, 3, 4, 5, 6, 7] rfl
    have hD := hD.sub (ws' := ((wS54 cI cJ cZ cB p0 m0) ++ (wS62 cI cJ cZ cB m0 m1 m2 m3 m4 m5 m6 Mx0_4 Mx0_5 Mx0_6 Mx0_7 Mx0_8 Mx0_9 Mx0_10 Mx0_11 Mx0_12 Mx0_13 My1 My2 Mx3_0 Mx4_0 My5 My6))) [0, 1, 2, 3, 4, 5, 6, 7] (by decide) rfl
    have hP : va_P D classes ((wS54 cI cJ cZ cB p0 m0) ++ (wS62 cI cJ cZ cB m0 m1 m2 m3 m4 m5 m6 Mx0_4 Mx0_5 Mx0_6 Mx0_7 Mx0_8 Mx0_9 Mx0_10 Mx0_11 Mx0_12 Mx0_13 My1 My2 Mx3_0 Mx4_0 My5 My6)) H := hP
    have hD : va_D A ((wS54 cI cJ cZ cB p0 m0) ++ (wS62 cI cJ cZ cB m0 m1 m2 m3 m4 m5 m6 Mx0_4 Mx0_5 Mx0_6 Mx0_7 Mx0_8 Mx0_9 Mx0_10 Mx0_11 Mx0_12 Mx0_13 My1 My2 Mx3_0 Mx4_0 My5 My6)) := hD
    clear hPc hDc hFc
    refine cs_i (W.runS (As := [.int rz3]) (rest := []) ⟨hx, hb, hml, hown, hk⟩ (c_W_size l rz3) (s_W_size hk k_251 ⟨Nat.le_of_ble_eq_true rfl, Nat.le_of_ble_eq_true rfl⟩) ⟨fun a U g mk q => q, fun U hU hW => ⟨rfl, trivial⟩⟩ rfl rfl hl.1 rfl (lv_room (Nat.le_of_ble_eq_true rfl)) d_S_registerSize_15 ⟨Nat.le_of_ble_eq_true rfl, Nat.le_of_ble_eq_true rfl⟩) ?_
    refine lv_topi (fun v4 hv4 => ?_)
    refine lv_goto (tgt := 22) hx hb d_S_registerSize_18 (by decide) ?_
    exact W.iret (v := v4) hx hb hr (fun t ht hW => ⟨⟨v4, (0 : Int32), rfl, rfl, ⟨_, isC_4, (by show va_P D classes _ t.heap; rw [ht]; exact hP), hD⟩⟩, hS.F ht⟩) hS.2.2 d_S_registerSize_22
theorem v_S_registerSize_b15 {R : Room} {s : State} {args : Array Value} {own : String} {index : Nat} (hk : ∀ w ∈ tb, w.before args s = true) (hl : Cond.methodLink own index y_S_registerSize ∈ tb) (hR : 1 + 1 ≤ R.frames ∧ 8 + (2 + 11) + 21 ≤ R.locals) : CallW R s args own "SignMachine" index y_S_registerSize b_S_registerSize 2 (some .int) (.code y_S_registerSize b_S_registerSize 2 (some .int) :: tb) ({ frames := 1, cells := 0, slots := 0, locals := 21 }) 0 0 1 := mk_v 1 hk k_486 hl k_484 k_485 k_116 rfl rfl h_S_registerSize hR
set_option maxHeartbeats 4000000 in
set_option maxRecDepth 100000 in
theorem c_S_set_b15 (l : Launch) (K : CK) (D : va_G) (cI cJ cZ cB : ClassId) (p0 m0 m1 m2 m3 m4 m5 m6 : Nat) (sz : Nat) (Mx0_4 : Bool) (Mx0_5 : Int32) (Mx0_6 : Int32) (Mx0_7 : Int32) (Mx0_8 : Int32) (Mx0_9 : Int32) (Mx0_10 : Int32) (Mx0_11 : Int32) (Mx0_12 : Int32) (Mx0_13 : Int32) (My1 : Nat → Int32) (My2 : Nat → Int32) (Mx3_0 : Int32) (Mx4_0 : Int32) (My5 : Nat → Int32) (My6 : Nat → Int32)  (a1 : Int32) (a2 : Int32) (a3 : Int32) : Met l y_S_set (.code y_S_set b_S_set 4 (some .boolean) :: tb) ({ frames := 2, cells := 0, slots := 0, locals := 40 }) (pMC K D cI cJ cZ cB ((wS54 cI cJ cZ cB p0 m0) ++ (wS62 cI cJ cZ cB m0 m1 m2 m3 m4 m5 m6 Mx0_4 Mx0_5 Mx0_6 Mx0_7 Mx0_8 Mx0_9 Mx0_10 Mx0_11 Mx0_12 Mx0_13 My1 My2 Mx3_0 Mx4_0 My5 My6)) sz [.ref p0, .int a1, .int a2, .int a3]) (va_Qi (fun r (uL : Int32) => uL = (0 : Int32) ∧ r = (f_cset a1 a2 a3)) (fun uL t => ∃ W9 : va_W, isC K cI cJ cZ cB p0 uL W9 ∧ va_P D classes W9 t.heap ∧ va_D (va_A ((wS54 cI cJ cZ cB p0 m0) ++ (wS62 cI cJ cZ cB m0 m1 m2 m3 m4 m5 m6 Mx0_4 Mx0_5 Mx0_6 Mx0_7 Mx0_8 Mx0_9 Mx0_10 Mx0_11 Mx0_12 Mx0_13 My1 My2 Mx3_0 Mx4_0 My5 My6)) sz) W9) (va_A ((wS54 cI cJ cZ cB p0 m0) ++ (wS62 cI cJ cZ cB m0 m1 m2 m3 m4 m5 m6 Mx0_4 Mx0_5 Mx0_6 Mx0_7 Mx0_8 Mx0_9 Mx0_10 Mx0_11 Mx0_12 Mx0_13 My1 My2 Mx3_0 Mx4_0 My5 My6)) sz)) 0 0 (va_A ((wS54 cI cJ cZ cB p0 m0) ++ (wS62 cI cJ cZ cB m0 m1 m2 m3 m4 m5 m6 Mx0_4 Mx0_5 Mx0_6 Mx0_7 Mx0_8 Mx0_9 Mx0_10 Mx0_11 Mx0_12 Mx0_13 My1 My2 Mx3_0 Mx4_0 My5 My6)) sz) := by
  refine Met.ofW (cc := b_S_set) (maxL := 4) (ret := (some .boolean)) (by decide) rfl ?_
  intro p e s m args below meth c s₁ B hml hv
  obtain ⟨rfl, hsz, hK, hP, hD0, hC⟩ := hv
  subst hsz
  have hD := hD0.self (sz := s.heap.size)
  generalize hAe : va_A ((wS54 cI cJ cZ cB p0 m0) ++ (wS62 cI cJ cZ cB m0 m1 m2 m3 m4 m5 m6 Mx0_4 Mx0_5 Mx0_6 Mx0_7 Mx0_8 Mx0_9 Mx0_10 Mx0_11 Mx0_12 Mx0_13 My1 My2 Mx3_0 Mx4_0 My5 My6)) s.heap.size = A at hD hC ⊢
  have hA : ∀ q : Nat, s.heap.size ≤ q → A q := fun q h => by rw [← hAe]; exact Or.inr h
  clear hAe hD0
  have hS : va_S A s.heap s.heap [] := va_S.rf
  have hx := B.exec
  have hb := B.bytes
  have hr := B.returns
  have hts := atoms_spec (ws := .code y_S_set b_S_set 4 (some .boolean) :: tb) B.pre
  have hk : ∀ w ∈ tb, w.before [.ref p0, .int a1, .int a2, .int a3].toArray s = true := fun w h => hts w (List.mem_cons_of_mem _ h)
  have hown : s.vm.findClass "SignMachine" = some m.cls := findClass_of_methodNamed B.named
  have hlocks := B.notSynchronized
  have hl := lv_entry ([.ref p0, .int a1, .int a2, .int a3]) (n := 4) (Nat.le_of_ble_eq_true rfl)
  rw [lg_entry_eq]
  generalize (lg_sl ([.ref p0, .int a1, .int a2, .int a3]) ++ List.replicate (4 - (lg_sl ([.ref p0, .int a1, .int a2, .int a3])).length) Slot.unset).toArray = ls at hl ⊢
  have hl : lv_has ls 4 [(0, .ref p0), (1, .int a1), (2, .int a2), (3, .int a3)] := hl
  refine lv_iload_n hx hb d_S_set_0 rfl (lv_at hl 1 rfl) ?_
  refine cs_i (W.runS (As := [.int a1]) (rest := []) ⟨hx, hb, hml, hown, hk⟩ (c_M_isRegister l a1) (s_M_isRegister hk k_479 ⟨Nat.le_of_ble_eq_true rfl, Nat.le_of_ble_eq_true rfl⟩) ⟨fun a U g mk q => q, fun U hU hW => ⟨rfl, trivial⟩⟩ rfl rfl hl.1 rfl (lv_room (Nat.le_of_ble_eq_true rfl)) d_S_set_1 ⟨Nat.le_of_ble_eq_true rfl, Nat.le_of_ble_eq_true rfl⟩) ?_
  obtain ⟨z1, hz1⟩ : ∃ y : Bool, y = (f_M_isRegister a1) := ⟨_, rfl⟩
  rw [← hz1]
  refine lv_if_eq (tgt := 15) hx hb d_S_set_4 (by decide) (fun c2 => ?_) (fun c2 => ?_)
  · refine lv_iconst (v := 0) hx hb d_S_set_15 (by decide) ?_
    exact W.zret (v := (0 : Int32)) hx hb hr rfl (fun t ht hW => ⟨⟨(0 : Int32), (0 : Int32), rfl, ⟨rfl, by unfold f_cset; simp only [← hz1, if_pos c2]⟩, ⟨_, isC_4, (by show va_P D classes _ t.heap; rw [ht]; exact hP), hD⟩⟩, hS.F ht⟩) hS.2.2 d_S_set_16
  · refine lv_iload_n hx hb d_S_set_7 rfl (lv_at hl 2 rfl) ?_
    refine lv_iload_n hx hb d_S_set_8 rfl (lv_at hl 3 rfl) ?_
    refine cs_i (W.runS (As := [.int a2, .int a3]) (rest := []) ⟨hx, hb, hml, hown, hk⟩ (c_W_isWord l a2 a3) (s_W_isWord hk k_224 ⟨Nat.le_of_ble_eq_true rfl, Nat.le_of_ble_eq_true rfl⟩) ⟨fun a U g mk q => q, fun U hU hW => ⟨rfl, trivial⟩⟩ rfl rfl hl.1 rfl (lv_room (Nat.le_of_ble_eq_true rfl)) d_S_set_9 ⟨Nat.le_of_ble_eq_true rfl, Nat.le_of_ble_eq_true rfl⟩) ?_
    obtain ⟨z3, hz3⟩ : ∃ y : Bool, y = (f_W_isWord a2 a3) := ⟨_, rfl⟩
    rw [← hz3]
    refine lv_if_ne (tgt := 17) hx hb d_S_set_12 (by decide) (fun c4 => ?_) (fun c4 => ?_)
    · refine lv_iload_n hx hb d_S_set_17 rfl (lv_at hl 1 rfl) ?_
      refine cs_i (W.runS (As := [.int a1]) (rest := []) ⟨hx, hb, hml, hown, hk⟩ (c_M_isShort l a1) (s_M_isShort hk k_491 ⟨Nat.le_of_ble_eq_true rfl, Nat.le_of_ble_eq_true rfl⟩) ⟨fun a U g mk q => q, fun U hU hW => ⟨rfl, trivial⟩⟩ rfl rfl hl.1 rfl (lv_room (Nat.le_of_ble_eq_true rfl)) d_S_set_18 ⟨Nat.le_of_ble_eq_true rfl, Nat.le_of_ble_eq_true rfl⟩) ?_
      obtain ⟨z5, hz5⟩ : ∃ y : Bool, y = (f_M_isShort a1) := ⟨_, rfl⟩
      rw [← hz5]
      refine lv_if_eq (tgt := 33) hx hb d_S_set_21 (by decide) (fun c6 => ?_) (fun c6 => ?_)
      · refine lv_iload_n hx hb d_S_set_33 rfl (lv_at hl 1 rfl) ?_
        refine lv_bipush (v := 8) hx hb d_S_set_34 (by decide) ?_
        refine lv_icmp_ne (tgt := 45) hx hb d_S_set_36 (by decide) (fun c7 => ?_) (fun c7 => ?_)
        · refine lv_aload_n hx hb d_S_set_45 rfl (lv_at hl 0 rfl) ?_
          refine va_get (D := D) (ci := 0) (v := .ref m0) (C := "SignMachine") (T := F_S) (N := 2) hx hb hk fi_S hown hK.1 hP 0 rfl rfl 0 (by decide) (hk _ k_210) (fun _ h9 => h9) rfl d_S_set_46 ?_
          refine lv_iload_n hx hb d_S_set_49 rfl (lv_at hl 1 rfl) ?_
          refine lv_iload_n hx hb d_S_set_50 rfl (lv_at hl 2 rfl) ?_
          refine lv_iload_n hx hb d_S_set_51 rfl (lv_at hl 3 rfl) ?_
          refine cs_i (W.runS (As := [.int a2, .int a3]) (rest := [.int a1, .ref m0]) ⟨hx, hb, hml, hown, hk⟩ (c_W_make l a2 a3) (s_W_make hk k_228 ⟨Nat.le_of_ble_eq_true rfl, Nat.le_of_ble_eq_true rfl⟩) ⟨fun a U g mk q => q, fun U hU hW => ⟨rfl, trivial⟩⟩ rfl rfl hl.1 rfl (lv_room (Nat.le_of_ble_eq_true rfl)) d_S_set_52 ⟨Nat.le_of_ble_eq_true rfl, Nat.le_of_ble_eq_true rfl⟩) ?_
          refine lv_topi (fun v8 hv8 => ?_)
          have hPc := hP.sub (ws' := (wS62 cI cJ cZ cB m0 m1 m2 m3 m4 m5 m6 Mx0_4 Mx0_5 Mx0_6 Mx0_7 Mx0_8 Mx0_9 Mx0_10 Mx0_11 Mx0_12 Mx0_13 My1 My2 Mx3_0 Mx4_0 My5 My6)) [1, 2, 3, 4, 5, 6, 7] rfl
          have hDc := hD.sub (ws' := (wS62 cI cJ cZ cB m0 m1 m2 m3 m4 m5 m6 Mx0_4 Mx0_5 Mx0_6 Mx0_7 Mx0_8 Mx0_9 Mx0_10 Mx0_11 Mx0_12 Mx0_13 My1 My2 Mx3_0 Mx4_0 My5 My6)) [1, 2, 3, 4, 5, 6, 7] (by decide) rfl
          have hFc := va_free (wc := (wS62 cI cJ cZ cB m0 m1 m2 m3 m4 m5 m6 Mx0_4 Mx0_5 Mx0_6 Mx0_7 Mx0_8 Mx0_9 Mx0_10 Mx0_11 Mx0_12 Mx0_13 My1 My2 Mx3_0 Mx4_0 My5 My6)) hD hS hA [1, 2, 3, 4, 5, 6, 7] rfl
          refine va_callv (va_runV (C := "SignMachine$Machine") (As := [.int a1, .int v8]) (rest := []) ⟨hx, hb, hml, hown, hk⟩ (c_M_putRegister_s4 l K D cI cJ cZ cB m0 m1 m2 m3 m4 m5 m6 s.heap.size Mx0_4 Mx0_5 Mx0_6 Mx0_7 Mx0_8 Mx0_9 Mx0_10 Mx0_11 Mx0_12 Mx0_13 My1 My2 Mx3_0 Mx4_0 My5 My6 a1 v8 ) (v_M_putRegister_s4 hk k_494 ⟨Nat.le_of_ble_eq_true rfl, Nat.le_of_ble_eq_true rfl⟩) (pMC_v hK hPc hDc hC hS hA (ci := 1) (q0 := 0) rfl rfl rfl) rfl rfl hl.1 rfl (lv_room (Nat.le_of_ble_eq_true rfl)) d_S_set_55 ⟨by decide, by decide⟩) hS (fun q _ h => hFc q h) hFc (fun u t H locs ht hvm hr0 hB hzq hkq hS => ?_)
          obtain ⟨My2z9, hP1, hD1⟩ := hB
          rw [ht] at hP1
          obtain ⟨hP, hD⟩ := va_join (wr := (wS54 cI cJ cZ cB p0 m0)) (w1 := (wS62 cI cJ cZ cB m0 m1 m2 m3 m4 m5 m6 Mx0_4 Mx0_5 Mx0_6 Mx0_7 Mx0_8 Mx0_9 Mx0_10 Mx0_11 Mx0_12 Mx0_13 My1 My2z9 Mx3_0 Mx4_0 My5 My6)) hP hD [1, 2, 3, 4, 5, 6, 7] [0] rfl rfl (by decide) (by decide) hkq hFc hP1 hD1
          have hP := hP.sub (ws' := ((wS54 cI cJ cZ cB p0 m0) ++ (wS62 cI cJ cZ cB m0 m1 m2 m3 m4 m5 m6 Mx0_4 Mx0_5 Mx0_6 Mx0_7 Mx0_8 Mx0_9 Mx0_10 Mx0_11 Mx0_12 Mx0_13 My1 My2z9 Mx3_0 Mx4_0 My5 My6))) [0, 1, 2, 3, 4, 5, 6, 7] rfl
          have hD := hD.sub (ws' := ((wS54 cI cJ cZ cB p0 m0) ++ (wS62 cI cJ cZ cB m0 m1 m2 m3 m4 m5 m6 Mx0_4 Mx0_5 Mx0_6 Mx0_7 Mx0_8 Mx0_9 Mx0_10 Mx0_11 Mx0_12 Mx0_13 My1 My2z9 Mx3_0 Mx4_0 My5 My6))) [0, 1, 2, 3, 4, 5, 6, 7] (by decide) rfl
          have hP : va_P D classes ((wS54 cI cJ cZ cB p0 m0) ++ (wS62 cI cJ cZ cB m0 m1 m2 m3 m4 m5 m6 Mx0_4 Mx0_5 Mx0_6 Mx0_7 Mx0_8 Mx0_9 Mx0_10 Mx0_11 Mx0_12 Mx0_13 My1 My2z9 Mx3_0 Mx4_0 My5 My6)) H := hP
          have hD : va_D A ((wS54 cI cJ cZ cB p0 m0) ++ (wS62 cI cJ cZ cB m0 m1 m2 m3 m4 m5 m6 Mx0_4 Mx0_5 Mx0_6 Mx0_7 Mx0_8 Mx0_9 Mx0_10 Mx0_11 Mx0_12 Mx0_13 My1 My2z9 Mx3_0 Mx4_0 My5 My6)) := hD
          clear hPc hDc hFc
          refine lv_iconst (v := 1) hx hb d_S_set_58 (by decide) ?_
          exact W.zret (v := (1 : Int32)) hx hb hr rfl (fun t ht hW => ⟨⟨(1 : Int32), (0 : Int32), rfl, ⟨rfl, by unfold f_cset; simp only [← hz1, ← hz3, ← hz5, if_neg c2, if_neg c4, if_pos c6, if_neg c7]⟩, ⟨_, isC_4, (by show va_P D classes _ t.heap; rw [ht]; exact hP), hD⟩⟩, hS.F ht⟩) hS.2.2 d_S_set_59
        · refine lv_iload_n hx hb d_S_set_39 rfl (lv_at hl 2 rfl) ?_
          refine lv_if_eq (tgt := 45) hx hb d_S_set_40 (by decide) (fun c10 => ?_) (fun c10 => ?_)
          · refine lv_aload_n hx hb d_S_set_45 rfl (lv_at hl 0 rfl) ?_
            refine va_get (D := D) (ci := 0) (v := .ref m0) (C := "SignMachine") (T := F_S) (N := 2) hx hb hk fi_S hown hK.1 hP 0 rfl rfl 0 (by decide) (hk _ k_210) (fun _ h9 => h9) rfl d_S_set_46 ?_
            refine lv_iload_n hx hb d_S_set_49 rfl (lv_at hl 1 rfl) ?_
            refine lv_iload_n hx hb d_S_set_50 rfl (lv_at hl 2 rfl) ?_
            refine lv_iload_n hx hb d_S_set_51 rfl (lv_at hl 3 rfl) ?_
            refine cs_i (W.runS (As := [.int a2, .int a3]) (rest := [.int a1, .ref m0]) ⟨hx, hb, hml, hown, hk⟩ (c_W_make l a2 a3) (s_W_make hk k_228 ⟨Nat.le_of_ble_eq_true rfl, Nat.le_of_ble_eq_true rfl⟩) ⟨fun a U g mk q => q, fun U hU hW => ⟨rfl, trivial⟩⟩ rfl rfl hl.1 rfl (lv_room (Nat.le_of_ble_eq_true rfl)) d_S_set_52 ⟨Nat.le_of_ble_eq_true rfl, Nat.le_of_ble_eq_true rfl⟩) ?_
            refine lv_topi (fun v11 hv11 => ?_)
            have hPc := hP.sub (ws' := (wS62 cI cJ cZ cB m0 m1 m2 m3 m4 m5 m6 Mx0_4 Mx0_5 Mx0_6 Mx0_7 Mx0_8 Mx0_9 Mx0_10 Mx0_11 Mx0_12 Mx0_13 My1 My2 Mx3_0 Mx4_0 My5 My6)) [1, 2, 3, 4, 5, 6, 7] rfl
            have hDc := hD.sub (ws' := (wS62 cI cJ cZ cB m0 m1 m2 m3 m4 m5 m6 Mx0_4 Mx0_5 Mx0_6 Mx0_7 Mx0_8 Mx0_9 Mx0_10 Mx0_11 Mx0_12 Mx0_13 My1 My2 Mx3_0 Mx4_0 My5 My6)) [1, 2, 3, 4, 5, 6, 7] (by decide) rfl
            have hFc := va_free (wc := (wS62 cI cJ cZ cB m0 m1 m2 m3 m4 m5 m6 Mx0_4 Mx0_5 Mx0_6 Mx0_7 Mx0_8 Mx0_9 Mx0_10 Mx0_11 Mx0_12 Mx0_13 My1 My2 Mx3_0 Mx4_0 My5 My6)) hD hS hA [1, 2, 3, 4, 5, 6, 7] rfl
            refine va_callv (va_runV (C := "SignMachine$Machine") (As := [.int a1, .int v11]) (rest := []) ⟨hx, hb, hml, hown, hk⟩ (c_M_putRegister_s4 l K D cI cJ cZ cB m0 m1 m2 m3 m4 m5 m6 s.heap.size Mx0_4 Mx0_5 Mx0_6 Mx0_7 Mx0_8 Mx0_9 Mx0_10 Mx0_11 Mx0_12 Mx0_13 My1 My2 Mx3_0 Mx4_0 My5 My6 a1 v11 ) (v_M_putRegister_s4 hk k_494 ⟨Nat.le_of_ble_eq_true rfl, Nat.le_of_ble_eq_true rfl⟩) (pMC_v hK hPc hDc hC hS hA (ci := 1) (q0 := 0) rfl rfl rfl) rfl rfl hl.1 rfl (lv_room (Nat.le_of_ble_eq_true rfl)) d_S_set_55 ⟨by decide, by decide⟩) hS (fun q _ h => hFc q h) hFc (fun u t H locs ht hvm hr0 hB hzq hkq hS => ?_)
            obtain ⟨My2z12, hP1, hD1⟩ := hB
            rw [ht] at hP1
            obtain ⟨hP, hD⟩ := va_join (wr := (wS54 cI cJ cZ cB p0 m0)) (w1 := (wS62 cI cJ cZ cB m0 m1 m2 m3 m4 m5 m6 Mx0_4 Mx0_5 Mx0_6 Mx0_7 Mx0_8 Mx0_9 Mx0_10 Mx0_11 Mx0_12 Mx0_13 My1 My2z12 Mx3_0 Mx4_0 My5 My6)) hP hD [1, 2, 3, 4, 5, 6, 7] [0] rfl rfl (by decide) (by decide) hkq hFc hP1 hD1
            have hP := hP.sub (ws' := ((wS54 cI cJ cZ cB p0 m0) ++ (wS62 cI cJ cZ cB m0 m1 m2 m3 m4 m5 m6 Mx0_4 Mx0_5 Mx0_6 Mx0_7 Mx0_8 Mx0_9 Mx0_10 Mx0_11 Mx0_12 Mx0_13 My1 My2z12 Mx3_0 Mx4_0 My5 My6))) [0, 1, 2, 3, 4, 5, 6, 7] rfl
            have hD := hD.sub (ws' := ((wS54 cI cJ cZ cB p0 m0) ++ (wS62 cI cJ cZ cB m0 m1 m2 m3 m4 m5 m6 Mx0_4 Mx0_5 Mx0_6 Mx0_7 Mx0_8 Mx0_9 Mx0_10 Mx0_11 Mx0_12 Mx0_13 My1 My2z12 Mx3_0 Mx4_0 My5 My6))) [0, 1, 2, 3, 4, 5, 6, 7] (by decide) rfl
            have hP : va_P D classes ((wS54 cI cJ cZ cB p0 m0) ++ (wS62 cI cJ cZ cB m0 m1 m2 m3 m4 m5 m6 Mx0_4 Mx0_5 Mx0_6 Mx0_7 Mx0_8 Mx0_9 Mx0_10 Mx0_11 Mx0_12 Mx0_13 My1 My2z12 Mx3_0 Mx4_0 My5 My6)) H := hP
            have hD : va_D A ((wS54 cI cJ cZ cB p0 m0) ++ (wS62 cI cJ cZ cB m0 m1 m2 m3 m4 m5 m6 Mx0_4 Mx0_5 Mx0_6 Mx0_7 Mx0_8 Mx0_9 Mx0_10 Mx0_11 Mx0_12 Mx0_13 My1 My2z12 Mx3_0 Mx4_0 My5 My6)) := hD
            clear hPc hDc hFc
            refine lv_iconst (v := 1) hx hb d_S_set_58 (by decide) ?_
            exact W.zret (v := (1 : Int32)) hx hb hr rfl (fun t ht hW => ⟨⟨(1 : Int32), (0 : Int32), rfl, ⟨rfl, by unfold f_cset; simp only [← hz1, ← hz3, ← hz5, if_neg c2, if_neg c4, if_pos c6, if_pos c7, if_pos c10]⟩, ⟨_, isC_4, (by show va_P D classes _ t.heap; rw [ht]; exact hP), hD⟩⟩, hS.F ht⟩) hS.2.2 d_S_set_59
          · refine lv_iconst (v := 0) hx hb d_S_set_43 (by decide) ?_
            exact W.zret (v := (0 : Int32)) hx hb hr rfl (fun t ht hW => ⟨⟨(0 : Int32), (0 : Int32), rfl, ⟨rfl, by unfold f_cset; simp only [← hz1, ← hz3, ← hz5, if_neg c2, if_neg c4, if_pos c6, if_pos c7, if_neg c10]⟩, ⟨_, isC_4, (by show va_P D classes _ t.heap; rw [ht]; exact hP), hD⟩⟩, hS.F ht⟩) hS.2.2 d_S_set_44
      · refine lv_iload_n hx hb d_S_set_24 rfl (lv_at hl 3 rfl) ?_
        refine lv_sipush (v := 4095) hx hb d_S_set_25 (by decide) ?_
        refine lv_icmp_le (tgt := 33) hx hb d_S_set_28 (by decide) (fun c13 => ?_) (fun c13 => ?_)
        · refine lv_iload_n hx hb d_S_set_33 rfl (lv_at hl 1 rfl) ?_
          refine lv_bipush (v := 8) hx hb d_S_set_34 (by decide) ?_
          refine lv_icmp_ne (tgt := 45) hx hb d_S_set_36 (by decide) (fun c14 => ?_) (fun c14 => ?_)
          · refine lv_aload_n hx hb d_S_set_45 rfl (lv_at hl 0 rfl) ?_
            refine va_get (D := D) (ci := 0) (v := .ref m0) (C := "SignMachine") (T := F_S) (N := 2) hx hb hk fi_S hown hK.1 hP 0 rfl rfl 0 (by decide) (hk _ k_210) (fun _ h9 => h9) rfl d_S_set_46 ?_
            refine lv_iload_n hx hb d_S_set_49 rfl (lv_at hl 1 rfl) ?_
            refine lv_iload_n hx hb d_S_set_50 rfl (lv_at hl 2 rfl) ?_
            refine lv_iload_n hx hb d_S_set_51 rfl (lv_at hl 3 rfl) ?_
            refine cs_i (W.runS (As := [.int a2, .int a3]) (rest := [.int a1, .ref m0]) ⟨hx, hb, hml, hown, hk⟩ (c_W_make l a2 a3) (s_W_make hk k_228 ⟨Nat.le_of_ble_eq_true rfl, Nat.le_of_ble_eq_true rfl⟩) ⟨fun a U g mk q => q, fun U hU hW => ⟨rfl, trivial⟩⟩ rfl rfl hl.1 rfl (lv_room (Nat.le_of_ble_eq_true rfl)) d_S_set_52 ⟨Nat.le_of_ble_eq_true rfl, Nat.le_of_ble_eq_true rfl⟩) ?_
            refine lv_topi (fun v15 hv15 => ?_)
            have hPc := hP.sub (ws' := (wS62 cI cJ cZ cB m0 m1 m2 m3 m4 m5 m6 Mx0_4 Mx0_5 Mx0_6 Mx0_7 Mx0_8 Mx0_9 Mx0_10 Mx0_11 Mx0_12 Mx0_13 My1 My2 Mx3_0 Mx4_0 My5 My6)) [1, 2, 3, 4, 5, 6, 7] rfl
            have hDc := hD.sub (ws' := (wS62 cI cJ cZ cB m0 m1 m2 m3 m4 m5 m6 Mx0_4 Mx0_5 Mx0_6 Mx0_7 Mx0_8 Mx0_9 Mx0_10 Mx0_11 Mx0_12 Mx0_13 My1 My2 Mx3_0 Mx4_0 My5 My6)) [1, 2, 3, 4, 5, 6, 7] (by decide) rfl
            have hFc := va_free (wc := (wS62 cI cJ cZ cB m0 m1 m2 m3 m4 m5 m6 Mx0_4 Mx0_5 Mx0_6 Mx0_7 Mx0_8 Mx0_9 Mx0_10 Mx0_11 Mx0_12 Mx0_13 My1 My2 Mx3_0 Mx4_0 My5 My6)) hD hS hA [1, 2, 3, 4, 5, 6, 7] rfl
            refine va_callv (va_runV (C := "SignMachine$Machine") (As := [.int a1, .int v15]) (rest := []) ⟨hx, hb, hml, hown, hk⟩ (c_M_putRegister_s4 l K D cI cJ cZ cB m0 m1 m2 m3 m4 m5 m6 s.heap.size Mx0_4 Mx0_5 Mx0_6 Mx0_7 Mx0_8 Mx0_9 Mx0_10 Mx0_11 Mx0_12 Mx0_13 My1 My2 Mx3_0 Mx4_0 My5 My6 a1 v15 ) (v_M_putRegister_s4 hk k_494 ⟨Nat.le_of_ble_eq_true rfl, Nat.le_of_ble_eq_true rfl⟩) (pMC_v hK hPc hDc hC hS hA (ci := 1) (q0 := 0) rfl rfl rfl) rfl rfl hl.1 rfl (lv_room (Nat.le_of_ble_eq_true rfl)) d_S_set_55 ⟨by decide, by decide⟩) hS (fun q _ h => hFc q h) hFc (fun u t H locs ht hvm hr0 hB hzq hkq hS => ?_)
            obtain ⟨My2z16, hP1, hD1⟩ := hB
            rw [ht] at hP1
            obtain ⟨hP, hD⟩ := va_join (wr := (wS54 cI cJ cZ cB p0 m0)) (w1 := (wS62 cI cJ cZ cB m0 m1 m2 m3 m4 m5 m6 Mx0_4 Mx0_5 Mx0_6 Mx0_7 Mx0_8 Mx0_9 Mx0_10 Mx0_11 Mx0_12 Mx0_13 My1 My2z16 Mx3_0 Mx4_0 My5 My6)) hP hD [1, 2, 3, 4, 5, 6, 7] [0] rfl rfl (by decide) (by decide) hkq hFc hP1 hD1
            have hP := hP.sub (ws' := ((wS54 cI cJ cZ cB p0 m0) ++ (wS62 cI cJ cZ cB m0 m1 m2 m3 m4 m5 m6 Mx0_4 Mx0_5 Mx0_6 Mx0_7 Mx0_8 Mx0_9 Mx0_10 Mx0_11 Mx0_12 Mx0_13 My1 My2z16 Mx3_0 Mx4_0 My5 My6))) [0, 1, 2, 3, 4, 5, 6, 7] rfl
            have hD := hD.sub (ws' := ((wS54 cI cJ cZ cB p0 m0) ++ (wS62 cI cJ cZ cB m0 m1 m2 m3 m4 m5 m6 Mx0_4 Mx0_5 Mx0_6 Mx0_7 Mx0_8 Mx0_9 Mx0_10 Mx0_11 Mx0_12 Mx0_13 My1 My2z16 Mx3_0 Mx4_0 My5 My6))) [0, 1, 2, 3, 4, 5, 6, 7] (by decide) rfl
            have hP : va_P D classes ((wS54 cI cJ cZ cB p0 m0) ++ (wS62 cI cJ cZ cB m0 m1 m2 m3 m4 m5 m6 Mx0_4 Mx0_5 Mx0_6 Mx0_7 Mx0_8 Mx0_9 Mx0_10 Mx0_11 Mx0_12 Mx0_13 My1 My2z16 Mx3_0 Mx4_0 My5 My6)) H := hP
            have hD : va_D A ((wS54 cI cJ cZ cB p0 m0) ++ (wS62 cI cJ cZ cB m0 m1 m2 m3 m4 m5 m6 Mx0_4 Mx0_5 Mx0_6 Mx0_7 Mx0_8 Mx0_9 Mx0_10 Mx0_11 Mx0_12 Mx0_13 My1 My2z16 Mx3_0 Mx4_0 My5 My6)) := hD
            clear hPc hDc hFc
            refine lv_iconst (v := 1) hx hb d_S_set_58 (by decide) ?_
            exact W.zret (v := (1 : Int32)) hx hb hr rfl (fun t ht hW => ⟨⟨(1 : Int32), (0 : Int32), rfl, ⟨rfl, by unfold f_cset; simp only [← hz1, ← hz3, ← hz5, if_neg c2, if_neg c4, if_neg c6, if_pos c13, if_neg c14]⟩, ⟨_, isC_4, (by show va_P D classes _ t.heap; rw [ht]; exact hP), hD⟩⟩, hS.F ht⟩) hS.2.2 d_S_set_59
          · refine lv_iload_n hx hb d_S_set_39 rfl (lv_at hl 2 rfl) ?_
            refine lv_if_eq (tgt := 45) hx hb d_S_set_40 (by decide) (fun c17 => ?_) (fun c17 => ?_)
            · refine lv_aload_n hx hb d_S_set_45 rfl (lv_at hl 0 rfl) ?_
              refine va_get (D := D) (ci := 0) (v := .ref m0) (C := "SignMachine") (T := F_S) (N := 2) hx hb hk fi_S hown hK.1 hP 0 rfl rfl 0 (by decide) (hk _ k_210) (fun _ h9 => h9) rfl d_S_set_46 ?_
              refine lv_iload_n hx hb d_S_set_49 rfl (lv_at hl 1 rfl) ?_
              refine lv_iload_n hx hb d_S_set_50 rfl (lv_at hl 2 rfl) ?_
              refine lv_iload_n hx hb d_S_set_51 rfl (lv_at hl 3 rfl) ?_
              refine cs_i (W.runS (As := [.int a2, .int a3]) (rest := [.int a1, .ref m0]) ⟨hx, hb, hml, hown, hk⟩ (c_W_make l a2 a3) (s_W_make hk k_228 ⟨Nat.le_of_ble_eq_true rfl, Nat.le_of_ble_eq_true rfl⟩) ⟨fun a U g mk q => q, fun U hU hW => ⟨rfl, trivial⟩⟩ rfl rfl hl.1 rfl (lv_room (Nat.le_of_ble_eq_true rfl)) d_S_set_52 ⟨Nat.le_of_ble_eq_true rfl, Nat.le_of_ble_eq_true rfl⟩) ?_
              refine lv_topi (fun v18 hv18 => ?_)
              have hPc := hP.sub (ws' := (wS62 cI cJ cZ cB m0 m1 m2 m3 m4 m5 m6 Mx0_4 Mx0_5 Mx0_6 Mx0_7 Mx0_8 Mx0_9 Mx0_10 Mx0_11 Mx0_12 Mx0_13 My1 My2 Mx3_0 Mx4_0 My5 My6)) [1, 2, 3, 4, 5, 6, 7] rfl
              have hDc := hD.sub (ws' := (wS62 cI cJ cZ cB m0 m1 m2 m3 m4 m5 m6 Mx0_4 Mx0_5 Mx0_6 Mx0_7 Mx0_8 Mx0_9 Mx0_10 Mx0_11 Mx0_12 Mx0_13 My1 My2 Mx3_0 Mx4_0 My5 My6)) [1, 2, 3, 4, 5, 6, 7] (by decide) rfl
              have hFc := va_free (wc := (wS62 cI cJ cZ cB m0 m1 m2 m3 m4 m5 m6 Mx0_4 Mx0_5 Mx0_6 Mx0_7 Mx0_8 Mx0_9 Mx0_10 Mx0_11 Mx0_12 Mx0_13 My1 My2 Mx3_0 Mx4_0 My5 My6)) hD hS hA [1, 2, 3, 4, 5, 6, 7] rfl
              refine va_callv (va_runV (C := "SignMachine$Machine") (As := [.int a1, .int v18]) (rest := []) ⟨hx, hb, hml, hown, hk⟩ (c_M_putRegister_s4 l K D cI cJ cZ cB m0 m1 m2 m3 m4 m5 m6 s.heap.size Mx0_4 Mx0_5 Mx0_6 Mx0_7 Mx0_8 Mx0_9 Mx0_10 Mx0_11 Mx0_12 Mx0_13 My1 My2 Mx3_0 Mx4_0 My5 My6 a1 v18 ) (v_M_putRegister_s4 hk k_494 ⟨Nat.le_of_ble_eq_true rfl, Nat.le_of_ble_eq_true rfl⟩) (pMC_v hK hPc hDc hC hS hA (ci := 1) (q0 := 0) rfl rfl rfl) rfl rfl hl.1 rfl (lv_room (Nat.le_of_ble_eq_true rfl)) d_S_set_55 ⟨by decide, by decide⟩) hS (fun q _ h => hFc q h) hFc (fun u t H locs ht hvm hr0 hB hzq hkq hS => ?_)
              obtain ⟨My2z19, hP1, hD1⟩ := hB
              rw [ht] at hP1
              obtain ⟨hP, hD⟩ := va_join (wr := (wS54 cI cJ cZ cB p0 m0)) (w1 := (wS62 cI cJ cZ cB m0 m1 m2 m3 m4 m5 m6 Mx0_4 Mx0_5 Mx0_6 Mx0_7 Mx0_8 Mx0_9 Mx0_10 Mx0_11 Mx0_12 Mx0_13 My1 My2z19 Mx3_0 Mx4_0 My5 My6)) hP hD [1, 2, 3, 4, 5, 6, 7] [0] rfl rfl (by decide) (by decide) hkq hFc hP1 hD1
              have hP := hP.sub (ws' := ((wS54 cI cJ cZ cB p0 m0) ++ (wS62 cI cJ cZ cB m0 m1 m2 m3 m4 m5 m6 Mx0_4 Mx0_5 Mx0_6 Mx0_7 Mx0_8 Mx0_9 Mx0_10 Mx0_11 Mx0_12 Mx0_13 My1 My2z19 Mx3_0 Mx4_0 My5 My6))) [0, 1, 2, 3, 4, 5, 6, 7] rfl
              have hD := hD.sub (ws' := ((wS54 cI cJ cZ cB p0 m0) ++ (wS62 cI cJ cZ cB m0 m1 m2 m3 m4 m5 m6 Mx0_4 Mx0_5 Mx0_6 Mx0_7 Mx0_8 Mx0_9 Mx0_10 Mx0_11 Mx0_12 Mx0_13 My1 My2z19 Mx3_0 Mx4_0 My5 My6))) [0, 1, 2, 3, 4, 5, 6, 7] (by decide) rfl
              have hP : va_P D classes ((wS54 cI cJ cZ cB p0 m0) ++ (wS62 cI cJ cZ cB m0 m1 m2 m3 m4 m5 m6 Mx0_4 Mx0_5 Mx0_6 Mx0_7 Mx0_8 Mx0_9 Mx0_10 Mx0_11 Mx0_12 Mx0_13 My1 My2z19 Mx3_0 Mx4_0 My5 My6)) H := hP
              have hD : va_D A ((wS54 cI cJ cZ cB p0 m0) ++ (wS62 cI cJ cZ cB m0 m1 m2 m3 m4 m5 m6 Mx0_4 Mx0_5 Mx0_6 Mx0_7 Mx0_8 Mx0_9 Mx0_10 Mx0_11 Mx0_12 Mx0_13 My1 My2z19 Mx3_0 Mx4_0 My5 My6)) := hD
              clear hPc hDc hFc
              refine lv_iconst (v := 1) hx hb d_S_set_58 (by decide) ?_
              exact W.zret (v := (1 : Int32)) hx hb hr rfl (fun t ht hW => ⟨⟨(1 : Int32), (0 : Int32), rfl, ⟨rfl, by unfold f_cset; simp only [← hz1, ← hz3, ← hz5, if_neg c2, if_neg c4, if_neg c6, if_pos c13, if_pos c14, if_pos c17]⟩, ⟨_, isC_4, (by show va_P D classes _ t.heap; rw [ht]; exact hP), hD⟩⟩, hS.F ht⟩) hS.2.2 d_S_set_59
            · refine lv_iconst (v := 0) hx hb d_S_set_43 (by decide) ?_
              exact W.zret (v := (0 : Int32)) hx hb hr rfl (fun t ht hW => ⟨⟨(0 : Int32), (0 : Int32), rfl, ⟨rfl, by unfold f_cset; simp only [← hz1, ← hz3, ← hz5, if_neg c2, if_neg c4, if_neg c6, if_pos c13, if_pos c14, if_neg c17]⟩, ⟨_, isC_4, (by show va_P D classes _ t.heap; rw [ht]; exact hP), hD⟩⟩, hS.F ht⟩) hS.2.2 d_S_set_44
        · refine lv_iconst (v := 0) hx hb d_S_set_31 (by decide) ?_
          exact W.zret (v := (0 : Int32)) hx hb hr rfl (fun t ht hW => ⟨⟨(0 : Int32), (0 : Int32), rfl, ⟨rfl, by unfold f_cset; simp only [← hz1, ← hz3, ← hz5, if_neg c2, if_neg c4, if_neg c6, if_neg c13]⟩, ⟨_, isC_4, (by show va_P D classes _ t.heap; rw [ht]; exact hP), hD⟩⟩, hS.F ht⟩) hS.2.2 d_S_set_32
    · refine lv_iconst (v := 0) hx hb d_S_set_15 (by decide) ?_
      exact W.zret (v := (0 : Int32)) hx hb hr rfl (fun t ht hW => ⟨⟨(0 : Int32), (0 : Int32), rfl, ⟨rfl, by unfold f_cset; simp only [← hz1, ← hz3, if_neg c2, if_pos c4]⟩, ⟨_, isC_4, (by show va_P D classes _ t.heap; rw [ht]; exact hP), hD⟩⟩, hS.F ht⟩) hS.2.2 d_S_set_16
theorem v_S_set_b15 {R : Room} {s : State} {args : Array Value} {own : String} {index : Nat} (hk : ∀ w ∈ tb, w.before args s = true) (hl : Cond.methodLink own index y_S_set ∈ tb) (hR : 2 + 1 ≤ R.frames ∧ 8 + (4 + 11) + 40 ≤ R.locals) : CallW R s args own "SignMachine" index y_S_set b_S_set 4 (some .boolean) (.code y_S_set b_S_set 4 (some .boolean) :: tb) ({ frames := 2, cells := 0, slots := 0, locals := 40 }) 0 0 3 := mk_v 3 hk k_490 hl k_488 k_489 k_116 rfl rfl h_S_set hR

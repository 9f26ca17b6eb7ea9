set_option maxHeartbeats 4000000 in
set_option maxRecDepth 100000 in
theorem c_S_about_b20 (l : Launch) (K : CK) (D : va_G) (cI cJ cZ cB : ClassId) (p0 m0 m1 m2 m3 m4 m5 m6 g0 g1 g2 g3 g4 g5 g6 g7 g8 g9 g10 g11 g12 g13 g14 g15 : Nat) (sz : Nat) (Mx0_4 : Bool) (Mx0_5 : Int32) (Mx0_6 : Int32) (Mx0_7 : Int32) (Mx0_8 : Int32) (Mx0_9 : Int32) (Mx0_10 : Int32) (Mx0_11 : Int32) (Mx0_12 : Int32) (Mx0_13 : Int32) (My1 : Nat → Int32) (My2 : Nat → Int32) (Mx3_0 : Int32) (Mx4_0 : Int32) (My5 : Nat → Int32) (My6 : Nat → Int32) (Ax0_3 : Int32) (Ax0_4 : Int32) (Ax0_5 : Int32) (Ax0_6 : Int32) (Ax0_7 : Int32) (Ax0_8 : Bool) (Ax0_9 : Int64) (Ax0_10 : Int32) (Ax0_11 : Option (Fin 51)) (Ax0_12 : Int32) (Ax0_13 : Int32) (Ax0_14 : Int32) (Ax1_1 : Int32) (Ax1_2 : Int32) (Ax1_3 : Int32) (Ax1_4 : Int32) (Ax1_5 : Int32) (Ax1_6 : Int32) (Ax1_7 : Int64) (Ax1_8 : Int32) (Ay2 : Nat → Int32) (Ax3_5 : Int32) (Ax3_6 : Int32) (Ay4 : Nat → Int64) (Ay5 : Nat → Int32) (Ay6 : Nat → Int32) (Ay7 : Nat → Int32) (Ay8 : Nat → Int32) (Ax9_6 : Int32) (Ay10 : Nat → Int32) (Ay11 : Nat → Int32) (Ay12 : Nat → Int32) (Ay13 : Nat → Int32) (Ay14 : Nat → Int32) (Ay15 : Nat → Int32)  (a1 : Int32) : Met l y_S_about (.code y_S_about b_S_about 3 (some .int) :: tb) ({ frames := 4, cells := 16, slots := 9873, locals := 72 }) (pMC K D cI cJ cZ cB ((wS55 cI cJ cZ cB p0 m0 g0) ++ (wS62 cI cJ cZ cB m0 m1 m2 m3 m4 m5 m6 Mx0_4 Mx0_5 Mx0_6 Mx0_7 Mx0_8 Mx0_9 Mx0_10 Mx0_11 Mx0_12 Mx0_13 My1 My2 Mx3_0 Mx4_0 My5 My6) ++ (wS52 K cI cJ cZ cB g0 g1 g2 g3 g4 g5 g6 g7 g8 g9 g10 g11 g12 g13 g14 g15 Ax0_3 Ax0_4 Ax0_5 Ax0_6 Ax0_7 Ax0_8 Ax0_9 Ax0_10 Ax0_11 Ax0_12 Ax0_13 Ax0_14 Ax1_1 Ax1_2 Ax1_3 Ax1_4 Ax1_5 Ax1_6 Ax1_7 Ax1_8 Ay2 Ax3_5 Ax3_6 Ay4 Ay5 Ay6 Ay7 Ay8 Ax9_6 Ay10 Ay11 Ay12 Ay13 Ay14 Ay15)) sz [.ref p0, .int a1]) (va_Qi (fun r (_ : Unit) => True) (fun _ t => ∃ W9 : va_W, isC K cI cJ cZ cB p0 W9 ∧ va_P D classes W9 t.heap ∧ va_D (va_A ((wS55 cI cJ cZ cB p0 m0 g0) ++ (wS62 cI cJ cZ cB m0 m1 m2 m3 m4 m5 m6 Mx0_4 Mx0_5 Mx0_6 Mx0_7 Mx0_8 Mx0_9 Mx0_10 Mx0_11 Mx0_12 Mx0_13 My1 My2 Mx3_0 Mx4_0 My5 My6) ++ (wS52 K cI cJ cZ cB g0 g1 g2 g3 g4 g5 g6 g7 g8 g9 g10 g11 g12 g13 g14 g15 Ax0_3 Ax0_4 Ax0_5 Ax0_6 Ax0_7 Ax0_8 Ax0_9 Ax0_10 Ax0_11 Ax0_12 Ax0_13 Ax0_14 Ax1_1 Ax1_2 Ax1_3 Ax1_4 Ax1_5 Ax1_6 Ax1_7 Ax1_8 Ay2 Ax3_5 Ax3_6 Ay4 Ay5 Ay6 Ay7 Ay8 Ax9_6 Ay10 Ay11 Ay12 Ay13 Ay14 Ay15)) sz) W9) (va_A ((wS55 cI cJ cZ cB p0 m0 g0) ++ (wS62 cI cJ cZ cB m0 m1 m2 m3 m4 m5 m6 Mx0_4 Mx0_5 Mx0_6 Mx0_7 Mx0_8 Mx0_9 Mx0_10 Mx0_11 Mx0_12 Mx0_13 My1 My2 Mx3_0 Mx4_0 My5 My6) ++ (wS52 K cI cJ cZ cB g0 g1 g2 g3 g4 g5 g6 g7 g8 g9 g10 g11 g12 g13 g14 g15 Ax0_3 Ax0_4 Ax0_5 Ax0_6 Ax0_7 Ax0_8 Ax0_9 Ax0_10 Ax0_11 Ax0_12 Ax0_13 Ax0_14 Ax1_1 Ax1_2 Ax1_3 Ax1_4 Ax1_5 Ax1_6 Ax1_7 Ax1_8 Ay2 Ax3_5 Ax3_6 Ay4 Ay5 Ay6 Ay7 Ay8 Ax9_6 Ay10 Ay11 Ay12 Ay13 Ay14 Ay15)) sz)) 16 9873 (va_A ((wS55 cI cJ cZ cB p0 m0 g0) ++ (wS62 cI cJ cZ cB m0 m1 m2 m3 m4 m5 m6 Mx0_4 Mx0_5 Mx0_6 Mx0_7 Mx0_8 Mx0_9 Mx0_10 Mx0_11 Mx0_12 Mx0_13 My1 My2 Mx3_0 Mx4_0 My5 My6) ++ (wS52 K cI cJ cZ cB g0 g1 g2 g3 g4 g5 g6 g7 g8 g9 g10 g11 g12 g13 g14 g15 Ax0_3 Ax0_4 Ax0_5 Ax0_6 Ax0_7 Ax0_8 Ax0_9 Ax0_10 Ax0_11 Ax0_12 Ax0_13 Ax0_14 Ax1_1 Ax1_2 Ax1_3 Ax1_4 Ax1_5 Ax1_6 Ax1_7 Ax1_8 Ay2 Ax3_5 Ax3_6 Ay4 Ay5 Ay6 Ay7 Ay8 Ax9_6 Ay10 Ay11 Ay12 Ay13 Ay14 Ay15)) sz) := by
  refine Met.ofW (cc := b_S_about) (maxL := 3) (ret := (some .int)) (by decide) rfl ?_
  intro p e s m args below meth c s₁ B hml hv
  obtain ⟨rfl, hsz, hK, hP, hD0, hC⟩ := hv
  subst hsz
  have hD := hD0.self (sz := s.heap.size)
  generalize hAe : va_A ((wS55 cI cJ cZ cB p0 m0 g0) ++ (wS62 cI cJ cZ cB m0 m1 m2 m3 m4 m5 m6 Mx0_4 Mx0_5 Mx0_6 Mx0_7 Mx0_8 Mx0_9 Mx0_10 Mx0_11 Mx0_12 Mx0_13 My1 My2 Mx3_0 Mx4_0 My5 My6) ++ (wS52 K cI cJ cZ cB g0 g1 g2 g3 g4 g5 g6 g7 g8 g9 g10 g11 g12 g13 g14 g15 Ax0_3 Ax0_4 Ax0_5 Ax0_6 Ax0_7 Ax0_8 Ax0_9 Ax0_10 Ax0_11 Ax0_12 Ax0_13 Ax0_14 Ax1_1 Ax1_2 Ax1_3 Ax1_4 Ax1_5 Ax1_6 Ax1_7 Ax1_8 Ay2 Ax3_5 Ax3_6 Ay4 Ay5 Ay6 Ay7 Ay8 Ax9_6 Ay10 Ay11 Ay12 Ay13 Ay14 Ay15)) s.heap.size = A at hD hC ⊢
  have hA : ∀ q : Nat, s.heap.size ≤ q → A q := fun q h => by rw [← hAe]; exact Or.inr h
  clear hAe hD0
  have hS : va_S A s.heap s.heap [] := va_S.rf
  have hx := B.exec
  have hb := B.bytes
  have hr := B.returns
  have hts := atoms_spec (ws := .code y_S_about b_S_about 3 (some .int) :: tb) B.pre
  have hk : ∀ w ∈ tb, w.before [.ref p0, .int a1].toArray s = true := fun w h => hts w (List.mem_cons_of_mem _ h)
  have hown : s.vm.findClass "SignMachine" = some m.cls := findClass_of_methodNamed B.named
  have hlocks := B.notSynchronized
  have hl := lv_entry ([.ref p0, .int a1]) (n := 3) (Nat.le_of_ble_eq_true rfl)
  rw [lg_entry_eq]
  generalize (lg_sl ([.ref p0, .int a1]) ++ List.replicate (3 - (lg_sl ([.ref p0, .int a1])).length) Slot.unset).toArray = ls at hl ⊢
  have hl : lv_has ls 3 [(0, .ref p0), (1, .int a1)] := hl
  refine lv_aload_n hx hb d_S_about_0 rfl (lv_at hl 0 rfl) ?_
  refine sn_q (va_runV (C := "SignMachine") (As := []) (rest := []) ⟨hx, hb, hml, hown, hk⟩ (c_S_assembler_b10 l K D cI cJ cZ cB p0 m0 m1 m2 m3 m4 m5 m6 g0 g1 g2 g3 g4 g5 g6 g7 g8 g9 g10 g11 g12 g13 g14 g15 s.heap.size Mx0_4 Mx0_5 Mx0_6 Mx0_7 Mx0_8 Mx0_9 Mx0_10 Mx0_11 Mx0_12 Mx0_13 My1 My2 Mx3_0 Mx4_0 My5 My6 Ax0_3 Ax0_4 Ax0_5 Ax0_6 Ax0_7 Ax0_8 Ax0_9 Ax0_10 Ax0_11 Ax0_12 Ax0_13 Ax0_14 Ax1_1 Ax1_2 Ax1_3 Ax1_4 Ax1_5 Ax1_6 Ax1_7 Ax1_8 Ay2 Ax3_5 Ax3_6 Ay4 Ay5 Ay6 Ay7 Ay8 Ax9_6 Ay10 Ay11 Ay12 Ay13 Ay14 Ay15 ) (v_S_assembler_b10 hk k_518 ⟨Nat.le_of_ble_eq_true rfl, Nat.le_of_ble_eq_true rfl⟩) (pMC_v hK hP hD hC hS hA (ci := 0) (q0 := 0) rfl rfl rfl) rfl rfl hl.1 rfl (lv_room (Nat.le_of_ble_eq_true rfl)) d_S_about_1 ⟨by decide, by decide⟩) hS hA hD (fun rz1 u t H locs hr0 ht hB hFr hS => ?_)
  obtain ⟨hP, hD⟩ := hB
  rw [ht] at hP
  have hD := dwk hD hFr
  clear ht hFr
  have hP : va_P D classes ((wS55 cI cJ cZ cB p0 m0 g0) ++ (wS62 cI cJ cZ cB m0 m1 m2 m3 m4 m5 m6 Mx0_4 Mx0_5 Mx0_6 Mx0_7 Mx0_8 Mx0_9 Mx0_10 Mx0_11 Mx0_12 Mx0_13 My1 My2 Mx3_0 Mx4_0 My5 My6) ++ (wS52 K cI cJ cZ cB g0 g1 g2 g3 g4 g5 g6 g7 g8 g9 g10 g11 g12 g13 g14 g15 Ax0_3 Ax0_4 Ax0_5 Ax0_6 Ax0_7 Ax0_8 Ax0_9 Ax0_10 Ax0_11 Ax0_12 Ax0_13 Ax0_14 Ax1_1 Ax1_2 Ax1_3 Ax1_4 Ax1_5 Ax1_6 Ax1_7 Ax1_8 Ay2 Ax3_5 Ax3_6 Ay4 Ay5 Ay6 Ay7 Ay8 Ax9_6 Ay10 Ay11 Ay12 Ay13 Ay14 Ay15)) H := hP
  have hD : va_D A ((wS55 cI cJ cZ cB p0 m0 g0) ++ (wS62 cI cJ cZ cB m0 m1 m2 m3 m4 m5 m6 Mx0_4 Mx0_5 Mx0_6 Mx0_7 Mx0_8 Mx0_9 Mx0_10 Mx0_11 Mx0_12 Mx0_13 My1 My2 Mx3_0 Mx4_0 My5 My6) ++ (wS52 K cI cJ cZ cB g0 g1 g2 g3 g4 g5 g6 g7 g8 g9 g10 g11 g12 g13 g14 g15 Ax0_3 Ax0_4 Ax0_5 Ax0_6 Ax0_7 Ax0_8 Ax0_9 Ax0_10 Ax0_11 Ax0_12 Ax0_13 Ax0_14 Ax1_1 Ax1_2 Ax1_3 Ax1_4 Ax1_5 Ax1_6 Ax1_7 Ax1_8 Ay2 Ax3_5 Ax3_6 Ay4 Ay5 Ay6 Ay7 Ay8 Ax9_6 Ay10 Ay11 Ay12 Ay13 Ay14 Ay15)) := hD
  subst hr0
  refine W.eq (g2 := F0 m 4 ls [.ref g0]) rfl ?_
  refine lv_astore_n (lv' := [(2, .ref g0), (0, .ref p0), (1, .int a1)]) hx hb d_S_about_4 rfl hl (by decide) rfl (fun ls hl => ?_)
  refine lv_iload_n hx hb d_S_about_5 rfl (lv_at hl 2 rfl) ?_
  by_cases c2 : a1 = (0 : Int32)
  · refine lv_tableIn (off := 26) (tgt := 32) hx hb d_S_about_6 (by rw [c2]; decide) (by rw [c2]; decide) (by rw [c2]; rfl) (by decide) ?_
    refine lv_aload_n hx hb d_S_about_32 rfl (lv_at hl 0 rfl) ?_
    refine va_getN (D := D) (ci := 3) (v := .int Ax0_4) (C := "SignMachine$Assembler") (T := F_A) (N := 15) hx hb hk fi_A hown hK.1 hP 8 rfl rfl 4 (by decide) (va_Nw.use rfl (hK.2 _ n_639)) (fun _ h9 => h9) rfl d_S_about_33 ?_
    refine W.widen (k := 16) (n := 9873) (by decide) (by decide) ?_
    exact W.iret (v := Ax0_4) hx hb hr (fun t ht hW => ⟨⟨Ax0_4, (), rfl, trivial, ⟨_, isC_9, (by show va_P D classes _ t.heap; rw [ht]; exact hP), hD⟩⟩, hS.F ht⟩) hS.2.2 d_S_about_36
  · by_cases c3 : a1 = (1 : Int32)
    · refine lv_tableIn (off := 31) (tgt := 37) hx hb d_S_about_6 (by rw [c3]; decide) (by rw [c3]; decide) (by rw [c3]; rfl) (by decide) ?_
      refine lv_aload_n hx hb d_S_about_37 rfl (lv_at hl 0 rfl) ?_
      refine va_getN (D := D) (ci := 3) (v := .int Ax0_5) (C := "SignMachine$Assembler") (T := F_A) (N := 15) hx hb hk fi_A hown hK.1 hP 8 rfl rfl 5 (by decide) (va_Nw.use rfl (hK.2 _ n_641)) (fun _ h9 => h9) rfl d_S_about_38 ?_
      refine W.widen (k := 16) (n := 9873) (by decide) (by decide) ?_
      exact W.iret (v := Ax0_5) hx hb hr (fun t ht hW => ⟨⟨Ax0_5, (), rfl, trivial, ⟨_, isC_9, (by show va_P D classes _ t.heap; rw [ht]; exact hP), hD⟩⟩, hS.F ht⟩) hS.2.2 d_S_about_41
    · by_cases c4 : a1 = (2 : Int32)
      · refine lv_tableIn (off := 36) (tgt := 42) hx hb d_S_about_6 (by rw [c4]; decide) (by rw [c4]; decide) (by rw [c4]; rfl) (by decide) ?_
        refine lv_aload_n hx hb d_S_about_42 rfl (lv_at hl 0 rfl) ?_
        refine va_getN (D := D) (ci := 3) (v := .ref g1) (C := "SignMachine$Assembler") (T := F_A) (N := 15) hx hb hk fi_A hown hK.1 hP 8 rfl rfl 0 (by decide) (va_Nw.use rfl (hK.2 _ n_632)) (fun _ h9 => h9) rfl d_S_about_43 ?_
        refine va_getN (D := D) (ci := 4) (v := .int Ax1_1) (C := "SignMachine$Source") (T := F_R) (N := 9) hx hb hk fi_R hown hK.1 hP 9 rfl rfl 1 (by decide) (va_Nw.use rfl (hK.2 _ n_537)) (fun _ h9 => h9) rfl d_S_about_46 ?_
        refine W.widen (k := 16) (n := 9873) (by decide) (by decide) ?_
        exact W.iret (v := Ax1_1) hx hb hr (fun t ht hW => ⟨⟨Ax1_1, (), rfl, trivial, ⟨_, isC_9, (by show va_P D classes _ t.heap; rw [ht]; exact hP), hD⟩⟩, hS.F ht⟩) hS.2.2 d_S_about_49
      · refine lv_tableOut (tgt := 50) hx hb d_S_about_6 (by have e0 := lv_neT c2 (a := 0) rfl; have e1 := lv_neT c3 (a := 1) rfl; have e2 := lv_neT c4 (a := 2) rfl; omega) (by decide) ?_
        refine lv_iconst (v := (-1)) hx hb d_S_about_50 (by decide) ?_
        refine W.widen (k := 16) (n := 9873) (by decide) (by decide) ?_
        exact W.iret (v := (-1 : Int32)) hx hb hr (fun t ht hW => ⟨⟨(-1 : Int32), (), rfl, trivial, ⟨_, isC_9, (by show va_P D classes _ t.heap; rw [ht]; exact hP), hD⟩⟩, hS.F ht⟩) hS.2.2 d_S_about_51
theorem v_S_about_b20 {R : Room} {s : State} {args : Array Value} {own : String} {index : Nat} (hk : ∀ w ∈ tb, w.before args s = true) (hl : Cond.methodLink own index y_S_about ∈ tb) (hR : 4 + 1 ≤ R.frames ∧ 8 + (3 + 11) + 72 ≤ R.locals) : CallW R s args own "SignMachine" index y_S_about b_S_about 3 (some .int) (.code y_S_about b_S_about 3 (some .int) :: tb) ({ frames := 4, cells := 16, slots := 9873, locals := 72 }) 16 9873 1 := mk_v 1 hk k_1114 hl k_1112 k_1113 k_116 rfl rfl h_S_about hR

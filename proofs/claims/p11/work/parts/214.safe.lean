set_option maxHeartbeats 4000000 in
set_option maxRecDepth 100000 in
theorem c_M_goIf_s1 (l : Launch) (K : CK) (D : va_G) (cI cJ cZ cB : ClassId) (p0 p1 p2 p3 p4 : Nat) (sz : Nat) (x0_4 : Bool) (x0_5 : Int32) (x0_6 : Int32) (x0_7 : Int32) (x0_8 : Int32) (x0_9 : Int32) (x0_10 : Int32) (x0_11 : Int32) (x0_12 : Int32) (x0_13 : Int32) (y1 : Nat → Int32) (y2 : Nat → Int32) (x3_0 : Int32) (x4_0 : Int32)  (a1 : Bool) : Met l y_M_goIf (.code y_M_goIf b_M_goIf 2 none :: tb) ({ frames := 1, cells := 0, slots := 0, locals := 22 }) (pMC K D cI cJ cZ cB (wS51 cI cJ cZ cB p0 p1 p2 p3 p4 x0_4 x0_5 x0_6 x0_7 x0_8 x0_9 x0_10 x0_11 x0_12 x0_13 y1 y2 x3_0 x4_0) sz [.ref p0, .int (bI a1)]) (va_Qv (fun (_ : Unit) => True) (fun _ t => (∃ u_x0_7 : Int32, ∃ u_y2 : Nat → Int32, va_P D classes (wS51 cI cJ cZ cB p0 p1 p2 p3 p4 x0_4 x0_5 x0_6 u_x0_7 x0_8 x0_9 x0_10 x0_11 x0_12 x0_13 y1 u_y2 x3_0 x4_0) t.heap ∧ va_D (va_A (wS51 cI cJ cZ cB p0 p1 p2 p3 p4 x0_4 x0_5 x0_6 x0_7 x0_8 x0_9 x0_10 x0_11 x0_12 x0_13 y1 y2 x3_0 x4_0) sz) (wS51 cI cJ cZ cB p0 p1 p2 p3 p4 x0_4 x0_5 x0_6 u_x0_7 x0_8 x0_9 x0_10 x0_11 x0_12 x0_13 y1 u_y2 x3_0 x4_0))) (va_A (wS51 cI cJ cZ cB p0 p1 p2 p3 p4 x0_4 x0_5 x0_6 x0_7 x0_8 x0_9 x0_10 x0_11 x0_12 x0_13 y1 y2 x3_0 x4_0) sz)) 0 0 (va_A (wS51 cI cJ cZ cB p0 p1 p2 p3 p4 x0_4 x0_5 x0_6 x0_7 x0_8 x0_9 x0_10 x0_11 x0_12 x0_13 y1 y2 x3_0 x4_0) sz) := by
  refine Met.ofW (cc := b_M_goIf) (maxL := 2) (ret := none) (by decide) rfl ?_
  intro p e s m args below meth c s₁ B hml hv
  obtain ⟨rfl, hsz, hK, hP, hD0, hC⟩ := hv
  subst hsz
  have hD := hD0.self (sz := s.heap.size)
  generalize hAe : va_A (wS51 cI cJ cZ cB p0 p1 p2 p3 p4 x0_4 x0_5 x0_6 x0_7 x0_8 x0_9 x0_10 x0_11 x0_12 x0_13 y1 y2 x3_0 x4_0) s.heap.size = A at hD hC ⊢
  have hA : ∀ q : Nat, s.heap.size ≤ q → A q := fun q h => by rw [← hAe]; exact Or.inr h
  clear hAe hD0
  have hS : va_S A s.heap s.heap [] := va_S.rf
  have hx := B.exec
  have hb := B.bytes
  have hr := B.returns
  have hts := atoms_spec (ws := .code y_M_goIf b_M_goIf 2 none :: tb) B.pre
  have hk : ∀ w ∈ tb, w.before [.ref p0, .int (bI a1)].toArray s = true := fun w h => hts w (List.mem_cons_of_mem _ h)
  have hown : s.vm.findClass "SignMachine$Machine" = some m.cls := findClass_of_methodNamed B.named
  have hlocks := B.notSynchronized
  have hl := lv_entry ([.ref p0, .int (bI a1)]) (n := 2) (Nat.le_of_ble_eq_true rfl)
  rw [lg_entry_eq]
  generalize (lg_sl ([.ref p0, .int (bI a1)]) ++ List.replicate (2 - (lg_sl ([.ref p0, .int (bI a1)])).length) Slot.unset).toArray = ls at hl ⊢
  have hl : lv_has ls 2 [(0, .ref p0), (1, .int (bI a1))] := hl
  refine lv_iload_n hx hb d_M_goIf_0 rfl (lv_at hl 1 rfl) ?_
  refine lv_if_eq (tgt := 22) hx hb d_M_goIf_1 (by decide) (fun c1 => ?_) (fun c1 => ?_)
  · exact W.vret hx hb hr (fun t ht hW => ⟨⟨(), rfl, trivial, ⟨x0_7, y2, by show va_P D classes _ t.heap; rw [ht]; exact hP, hD⟩⟩, hS.F ht⟩) hS.2.2 d_M_goIf_22
  · refine lv_aload_n hx hb d_M_goIf_4 rfl (lv_at hl 0 rfl) ?_
    refine lv_bipush (v := 8) hx hb d_M_goIf_5 (by decide) ?_
    refine lv_aload_n hx hb d_M_goIf_7 rfl (lv_at hl 0 rfl) ?_
    refine va_get (D := D) (ci := 1) (v := .int x0_7) (C := "SignMachine$Machine") (T := F_M) (N := 14) hx hb hk fi_M hown hK.1 hP 0 rfl rfl 7 (by decide) (hk _ k_174) (fun _ h9 => h9) rfl d_M_goIf_8 ?_
    refine kn_v (va_runV (C := "SignMachine$Machine") (As := [.int (8 : Int32), .int x0_7]) (rest := []) ⟨hx, hb, hml, hown, hk⟩ (c_M_putRegister_s1 l K D cI cJ cZ cB p0 p1 p2 p3 p4 s.heap.size x0_4 x0_5 x0_6 x0_7 x0_8 x0_9 x0_10 x0_11 x0_12 x0_13 y1 y2 x3_0 x4_0  (8 : Int32) x0_7 ) (v_M_putRegister_s1 hk k_362 ⟨Nat.le_of_ble_eq_true rfl, Nat.le_of_ble_eq_true rfl⟩) (pMC_v hK hP hD hC hS hA (ci := 1) (q0 := 0) rfl rfl rfl) rfl rfl hl.1 rfl (lv_room (Nat.le_of_ble_eq_true rfl)) d_M_goIf_11 ⟨by decide, by decide⟩) hS hA hD (fun u t H locs ht hB hFr hS => ?_)
    obtain ⟨y2z2, hP, hD⟩ := hB
    rw [ht] at hP
    have hD := dwk hD hFr
    clear ht hFr
    have hP : va_P D classes (wS51 cI cJ cZ cB p0 p1 p2 p3 p4 x0_4 x0_5 x0_6 x0_7 x0_8 x0_9 x0_10 x0_11 x0_12 x0_13 y1 y2z2 x3_0 x4_0) H := hP
    have hD : va_D A (wS51 cI cJ cZ cB p0 p1 p2 p3 p4 x0_4 x0_5 x0_6 x0_7 x0_8 x0_9 x0_10 x0_11 x0_12 x0_13 y1 y2z2 x3_0 x4_0) := hD
    refine lv_aload_n hx hb d_M_goIf_14 rfl (lv_at hl 0 rfl) ?_
    refine lv_aload_n hx hb d_M_goIf_15 rfl (lv_at hl 0 rfl) ?_
    refine va_get (D := D) (ci := 1) (v := .int x0_12) (C := "SignMachine$Machine") (T := F_M) (N := 14) hx hb hk fi_M hown hK.1 hP 0 rfl rfl 12 (by decide) (hk _ k_179) (fun _ h9 => h9) rfl d_M_goIf_16 ?_
    refine va_put (D := D) (ci := 1) (v := .int x0_12) (ty := .int) (C := "SignMachine$Machine") (T := F_M) (N := 14) hx hb hk fi_M ft_M ft_M_ok fn_M hown hK.1 hP hD hS 0 rfl rfl 7 (by decide) (hk _ k_174) (fun _ h9 => h9) rfl (by decide +kernel) rfl rfl (Nat.le_of_ble_eq_true rfl) d_M_goIf_19 (fun H locs hP hD hS => ?_)
    have hP : va_P D classes (wS51 cI cJ cZ cB p0 p1 p2 p3 p4 x0_4 x0_5 x0_6 x0_12 x0_8 x0_9 x0_10 x0_11 x0_12 x0_13 y1 y2z2 x3_0 x4_0) H := hP
    have hD : va_D A (wS51 cI cJ cZ cB p0 p1 p2 p3 p4 x0_4 x0_5 x0_6 x0_12 x0_8 x0_9 x0_10 x0_11 x0_12 x0_13 y1 y2z2 x3_0 x4_0) := hD
    exact W.vret hx hb hr (fun t ht hW => ⟨⟨(), rfl, trivial, ⟨x0_12, y2z2, by show va_P D classes _ t.heap; rw [ht]; exact hP, hD⟩⟩, hS.F ht⟩) hS.2.2 d_M_goIf_22
theorem v_M_goIf_s1 {R : Room} {s : State} {args : Array Value} {own : String} {index : Nat} (hk : ∀ w ∈ tb, w.before args s = true) (hl : Cond.methodLink own index y_M_goIf ∈ tb) (hR : 1 + 1 ≤ R.frames ∧ 8 + (2 + 11) + 22 ≤ R.locals) : CallW R s args own "SignMachine$Machine" index y_M_goIf b_M_goIf 2 none (.code y_M_goIf b_M_goIf 2 none :: tb) ({ frames := 1, cells := 0, slots := 0, locals := 22 }) 0 0 1 := mk_v 1 hk k_451 hl k_450 k_28 k_117 rfl rfl h_M_goIf hR
set_option maxHeartbeats 4000000 in
set_option maxRecDepth 100000 in
theorem c_M_goByState_s1 (l : Launch) (K : CK) (D : va_G) (cI cJ cZ cB : ClassId) (p0 p1 p2 p3 p4 : Nat) (sz : Nat) (x0_4 : Bool) (x0_5 : Int32) (x0_6 : Int32) (x0_7 : Int32) (x0_8 : Int32) (x0_9 : Int32) (x0_10 : Int32) (x0_11 : Int32) (x0_12 : Int32) (x0_13 : Int32) (y1 : Nat → Int32) (y2 : Nat → Int32) (x3_0 : Int32) (x4_0 : Int32)   : Met l y_M_goByState (.code y_M_goByState b_M_goByState 2 none :: tb) ({ frames := 2, cells := 0, slots := 0, locals := 43 }) (pMC K D cI cJ cZ cB (wS51 cI cJ cZ cB p0 p1 p2 p3 p4 x0_4 x0_5 x0_6 x0_7 x0_8 x0_9 x0_10 x0_11 x0_12 x0_13 y1 y2 x3_0 x4_0) sz [.ref p0]) (va_Qv (fun (_ : Unit) => True) (fun _ t => (∃ u_x0_4 : Bool, ∃ u_x0_7 : Int32, ∃ u_y2 : Nat → Int32, va_P D classes (wS51 cI cJ cZ cB p0 p1 p2 p3 p4 u_x0_4 x0_5 x0_6 u_x0_7 x0_8 x0_9 x0_10 x0_11 x0_12 x0_13 y1 u_y2 x3_0 x4_0) t.heap ∧ va_D (va_A (wS51 cI cJ cZ cB p0 p1 p2 p3 p4 x0_4 x0_5 x0_6 x0_7 x0_8 x0_9 x0_10 x0_11 x0_12 x0_13 y1 y2 x3_0 x4_0) sz) (wS51 cI cJ cZ cB p0 p1 p2 p3 p4 u_x0_4 x0_5 x0_6 u_x0_7 x0_8 x0_9 x0_10 x0_11 x0_12 x0_13 y1 u_y2 x3_0 x4_0))) (va_A (wS51 cI cJ cZ cB p0 p1 p2 p3 p4 x0_4 x0_5 x0_6 x0_7 x0_8 x0_9 x0_10 x0_11 x0_12 x0_13 y1 y2 x3_0 x4_0) sz)) 0 0 (va_A (wS51 cI cJ cZ cB p0 p1 p2 p3 p4 x0_4 x0_5 x0_6 x0_7 x0_8 x0_9 x0_10 x0_11 x0_12 x0_13 y1 y2 x3_0 x4_0) sz) := by
  refine Met.ofW (cc := b_M_goByState) (maxL := 2) (ret := none) (by decide) rfl ?_
  intro p e s m args below meth c s₁ B hml hv
  obtain ⟨rfl, hsz, hK, hP, hD0, hC⟩ := hv
  subst hsz
  have hD := hD0.self (sz := s.heap.size)
  generalize hAe : va_A (wS51 cI cJ cZ cB p0 p1 p2 p3 p4 x0_4 x0_5 x0_6 x0_7 x0_8 x0_9 x0_10 x0_11 x0_12 x0_13 y1 y2 x3_0 x4_0) s.heap.size = A at hD hC ⊢
  have hA : ∀ q : Nat, s.heap.size ≤ q → A q := fun q h => by rw [← hAe]; exact Or.inr h
  clear hAe hD0
  have hS : va_S A s.heap s.heap [] := va_S.rf
  have hx := B.exec
  have hb := B.bytes
  have hr := B.returns
  have hts := atoms_spec (ws := .code y_M_goByState b_M_goByState 2 none :: tb) B.pre
  have hk : ∀ w ∈ tb, w.before [.ref p0].toArray s = true := fun w h => hts w (List.mem_cons_of_mem _ h)
  have hown : s.vm.findClass "SignMachine$Machine" = some m.cls := findClass_of_methodNamed B.named
  have hlocks := B.notSynchronized
  have hl := lv_entry ([.ref p0]) (n := 2) (Nat.le_of_ble_eq_true rfl)
  rw [lg_entry_eq]
  generalize (lg_sl ([.ref p0]) ++ List.replicate (2 - (lg_sl ([.ref p0])).length) Slot.unset).toArray = ls at hl ⊢
  have hl : lv_has ls 2 [(0, .ref p0)] := hl
  refine lv_aload_n hx hb d_M_goByState_0 rfl (lv_at hl 0 rfl) ?_
  refine va_get (D := D) (ci := 1) (v := .int (bI x0_4)) (C := "SignMachine$Machine") (T := F_M) (N := 14) hx hb hk fi_M hown hK.1 hP 0 rfl rfl 4 (by decide) (hk _ k_168) (fun _ h9 => h9) rfl d_M_goByState_1 ?_
  refine lv_istore_n (lv' := [(1, .int (bI x0_4)), (0, .ref p0)]) hx hb d_M_goByState_4 rfl hl (by decide) rfl (fun ls hl => ?_)
  refine lv_aload_n hx hb d_M_goByState_5 rfl (lv_at hl 1 rfl) ?_
  refine va_get (D := D) (ci := 1) (v := .int x0_10) (C := "SignMachine$Machine") (T := F_M) (N := 14) hx hb hk fi_M hown hK.1 hP 0 rfl rfl 10 (by decide) (hk _ k_177) (fun _ h9 => h9) rfl d_M_goByState_6 ?_
  by_cases c1 : x0_10 = (0 : Int32)
  · refine lv_tableIn (off := 51) (tgt := 60) hx hb d_M_goByState_9 (by rw [c1]; decide) (by rw [c1]; decide) (by rw [c1]; rfl) (by decide) ?_
    refine lv_aload_n hx hb d_M_goByState_60 rfl (lv_at hl 1 rfl) ?_
    refine lv_iconst (v := 1) hx hb d_M_goByState_61 (by decide) ?_
    refine kn_v (va_runV (C := "SignMachine$Machine") (As := [.int (bI true)]) (rest := []) ⟨hx, hb, hml, hown, hk⟩ (c_M_goIf_s1 l K D cI cJ cZ cB p0 p1 p2 p3 p4 s.heap.size x0_4 x0_5 x0_6 x0_7 x0_8 x0_9 x0_10 x0_11 x0_12 x0_13 y1 y2 x3_0 x4_0  true ) (v_M_goIf_s1 hk k_448 ⟨Nat.le_of_ble_eq_true rfl, Nat.le_of_ble_eq_true rfl⟩) (pMC_v hK hP hD hC hS hA (ci := 1) (q0 := 0) rfl rfl rfl) rfl rfl hl.1 rfl (lv_room (Nat.le_of_ble_eq_true rfl)) d_M_goByState_62 ⟨by decide, by decide⟩) hS hA hD (fun u t H locs ht hB hFr hS => ?_)
    obtain ⟨x0_7z2, y2z2, hP, hD⟩ := hB
    rw [ht] at hP
    have hD := dwk hD hFr
    clear ht hFr
    have hP : va_P D classes (wS51 cI cJ cZ cB p0 p1 p2 p3 p4 x0_4 x0_5 x0_6 x0_7z2 x0_8 x0_9 x0_10 x0_11 x0_12 x0_13 y1 y2z2 x3_0 x4_0) H := hP
    have hD : va_D A (wS51 cI cJ cZ cB p0 p1 p2 p3 p4 x0_4 x0_5 x0_6 x0_7z2 x0_8 x0_9 x0_10 x0_11 x0_12 x0_13 y1 y2z2 x3_0 x4_0) := hD
    refine lv_goto (tgt := 224) hx hb d_M_goByState_65 (by decide) ?_
    exact W.vret hx hb hr (fun t ht hW => ⟨⟨(), rfl, trivial, ⟨x0_4, x0_7z2, y2z2, by show va_P D classes _ t.heap; rw [ht]; exact hP, hD⟩⟩, hS.F ht⟩) hS.2.2 d_M_goByState_224
  · by_cases c3 : x0_10 = (1 : Int32)
    · refine lv_tableIn (off := 59) (tgt := 68) hx hb d_M_goByState_9 (by rw [c3]; decide) (by rw [c3]; decide) (by rw [c3]; rfl) (by decide) ?_
      refine lv_aload_n hx hb d_M_goByState_68 rfl (lv_at hl 1 rfl) ?_
      refine lv_aload_n hx hb d_M_goByState_69 rfl (lv_at hl 1 rfl) ?_
      refine va_get (D := D) (ci := 1) (v := .int x0_12) (C := "SignMachine$Machine") (T := F_M) (N := 14) hx hb hk fi_M hown hK.1 hP 0 rfl rfl 12 (by decide) (hk _ k_179) (fun _ h9 => h9) rfl d_M_goByState_70 ?_
      refine va_put (D := D) (ci := 1) (v := .int x0_12) (ty := .int) (C := "SignMachine$Machine") (T := F_M) (N := 14) hx hb hk fi_M ft_M ft_M_ok fn_M hown hK.1 hP hD hS 0 rfl rfl 7 (by decide) (hk _ k_174) (fun _ h9 => h9) rfl (by decide +kernel) rfl rfl (Nat.le_of_ble_eq_true rfl) d_M_goByState_73 (fun H locs hP hD hS => ?_)
      have hP : va_P D classes (wS51 cI cJ cZ cB p0 p1 p2 p3 p4 x0_4 x0_5 x0_6 x0_12 x0_8 x0_9 x0_10 x0_11 x0_12 x0_13 y1 y2 x3_0 x4_0) H := hP
      have hD : va_D A (wS51 cI cJ cZ cB p0 p1 p2 p3 p4 x0_4 x0_5 x0_6 x0_12 x0_8 x0_9 x0_10 x0_11 x0_12 x0_13 y1 y2 x3_0 x4_0) := hD
      refine lv_goto (tgt := 224) hx hb d_M_goByState_76 (by decide) ?_
      exact W.vret hx hb hr (fun t ht hW => ⟨⟨(), rfl, trivial, ⟨x0_4, x0_12, y2, by show va_P D classes _ t.heap; rw [ht]; exact hP, hD⟩⟩, hS.F ht⟩) hS.2.2 d_M_goByState_224
    · by_cases c4 : x0_10 = (2 : Int32)
      · refine lv_tableIn (off := 70) (tgt := 79) hx hb d_M_goByState_9 (by rw [c4]; decide) (by rw [c4]; decide) (by rw [c4]; rfl) (by decide) ?_
        refine lv_aload_n hx hb d_M_goByState_79 rfl (lv_at hl 1 rfl) ?_
        refine lv_iconst (v := 0) hx hb d_M_goByState_80 (by decide) ?_
        refine va_put (D := D) (ci := 1) (v := .int (0 : Int32)) (ty := .boolean) (C := "SignMachine$Machine") (T := F_M) (N := 14) hx hb hk fi_M ft_M ft_M_ok fn_M hown hK.1 hP hD hS 0 rfl rfl 4 (by decide) (hk _ k_168) (fun _ h9 => h9) rfl (by decide +kernel) rfl rfl (Nat.le_of_ble_eq_true rfl) d_M_goByState_81 (fun H locs hP hD hS => ?_)
        have hP : va_P D classes (wS51 cI cJ cZ cB p0 p1 p2 p3 p4 false x0_5 x0_6 x0_7 x0_8 x0_9 x0_10 x0_11 x0_12 x0_13 y1 y2 x3_0 x4_0) H := hP
        have hD : va_D A (wS51 cI cJ cZ cB p0 p1 p2 p3 p4 false x0_5 x0_6 x0_7 x0_8 x0_9 x0_10 x0_11 x0_12 x0_13 y1 y2 x3_0 x4_0) := hD
        refine lv_aload_n hx hb d_M_goByState_84 rfl (lv_at hl 1 rfl) ?_
        refine lv_iload_n hx hb d_M_goByState_85 rfl (lv_at hl 0 rfl) ?_
        refine kn_v (va_runV (C := "SignMachine$Machine") (As := [.int (bI x0_4)]) (rest := []) ⟨hx, hb, hml, hown, hk⟩ (c_M_goIf_s1 l K D cI cJ cZ cB p0 p1 p2 p3 p4 H.size false x0_5 x0_6 x0_7 x0_8 x0_9 x0_10 x0_11 x0_12 x0_13 y1 y2 x3_0 x4_0  x0_4 ) (v_M_goIf_s1 hk k_448 ⟨Nat.le_of_ble_eq_true rfl, Nat.le_of_ble_eq_true rfl⟩) (pMC_v hK hP hD hC hS hA (ci := 1) (q0 := 0) rfl rfl rfl) rfl rfl hl.1 rfl (lv_room (Nat.le_of_ble_eq_true rfl)) d_M_goByState_86 ⟨by decide, by decide⟩) hS hA hD (fun u t H locs ht hB hFr hS => ?_)
        obtain ⟨x0_7z5, y2z5, hP, hD⟩ := hB
        rw [ht] at hP
        have hD := dwk hD hFr
        clear ht hFr
        have hP : va_P D classes (wS51 cI cJ cZ cB p0 p1 p2 p3 p4 false x0_5 x0_6 x0_7z5 x0_8 x0_9 x0_10 x0_11 x0_12 x0_13 y1 y2z5 x3_0 x4_0) H := hP
        have hD : va_D A (wS51 cI cJ cZ cB p0 p1 p2 p3 p4 false x0_5 x0_6 x0_7z5 x0_8 x0_9 x0_10 x0_11 x0_12 x0_13 y1 y2z5 x3_0 x4_0) := hD
        refine lv_goto (tgt := 224) hx hb d_M_goByState_89 (by decide) ?_
        exact W.vret hx hb hr (fun t ht hW => ⟨⟨(), rfl, trivial, ⟨false, x0_7z5, y2z5, by show va_P D classes _ t.heap; rw [ht]; exact hP, hD⟩⟩, hS.F ht⟩) hS.2.2 d_M_goByState_224
      · by_cases c6 : x0_10 = (3 : Int32)
        · refine lv_tableIn (off := 83) (tgt := 92) hx hb d_M_goByState_9 (by rw [c6]; decide) (by rw [c6]; decide) (by rw [c6]; rfl) (by decide) ?_
          refine lv_aload_n hx hb d_M_goByState_92 rfl (lv_at hl 1 rfl) ?_
          refine lv_iconst (v := 0) hx hb d_M_goByState_93 (by decide) ?_
          refine va_put (D := D) (ci := 1) (v := .int (0 : Int32)) (ty := .boolean) (C := "SignMachine$Machine") (T := F_M) (N := 14) hx hb hk fi_M ft_M ft_M_ok fn_M hown hK.1 hP hD hS 0 rfl rfl 4 (by decide) (hk _ k_168) (fun _ h9 => h9) rfl (by decide +kernel) rfl rfl (Nat.le_of_ble_eq_true rfl) d_M_goByState_94 (fun H locs hP hD hS => ?_)
          have hP : va_P D classes (wS51 cI cJ cZ cB p0 p1 p2 p3 p4 false x0_5 x0_6 x0_7 x0_8 x0_9 x0_10 x0_11 x0_12 x0_13 y1 y2 x3_0 x4_0) H := hP
          have hD : va_D A (wS51 cI cJ cZ cB p0 p1 p2 p3 p4 false x0_5 x0_6 x0_7 x0_8 x0_9 x0_10 x0_11 x0_12 x0_13 y1 y2 x3_0 x4_0) := hD
          refine lv_aload_n hx hb d_M_goByState_97 rfl (lv_at hl 1 rfl) ?_
          refine lv_iload_n hx hb d_M_goByState_98 rfl (lv_at hl 0 rfl) ?_
          refine lv_if_ne (tgt := 106) hx hb d_M_goByState_99 (by decide) (fun c7 => ?_) (fun c7 => ?_)
          · refine lv_iconst (v := 0) hx hb d_M_goByState_106 (by decide) ?_
            refine kn_v (va_runV (C := "SignMachine$Machine") (As := [.int (bI false)]) (rest := []) ⟨hx, hb, hml, hown, hk⟩ (c_M_goIf_s1 l K D cI cJ cZ cB p0 p1 p2 p3 p4 H.size false x0_5 x0_6 x0_7 x0_8 x0_9 x0_10 x0_11 x0_12 x0_13 y1 y2 x3_0 x4_0  false ) (v_M_goIf_s1 hk k_448 ⟨Nat.le_of_ble_eq_true rfl, Nat.le_of_ble_eq_true rfl⟩) (pMC_v hK hP hD hC hS hA (ci := 1) (q0 := 0) rfl rfl rfl) rfl rfl hl.1 rfl (lv_room (Nat.le_of_ble_eq_true rfl)) d_M_goByState_107 ⟨by decide, by decide⟩) hS hA hD (fun u t H locs ht hB hFr hS => ?_)
            obtain ⟨x0_7z8, y2z8, hP, hD⟩ := hB
            rw [ht] at hP
            have hD := dwk hD hFr
            clear ht hFr
            have hP : va_P D classes (wS51 cI cJ cZ cB p0 p1 p2 p3 p4 false x0_5 x0_6 x0_7z8 x0_8 x0_9 x0_10 x0_11 x0_12 x0_13 y1 y2z8 x3_0 x4_0) H := hP
            have hD : va_D A (wS51 cI cJ cZ cB p0 p1 p2 p3 p4 false x0_5 x0_6 x0_7z8 x0_8 x0_9 x0_10 x0_11 x0_12 x0_13 y1 y2z8 x3_0 x4_0) := hD
            refine lv_goto (tgt := 224) hx hb d_M_goByState_110 (by decide) ?_
            exact W.vret hx hb hr (fun t ht hW => ⟨⟨(), rfl, trivial, ⟨false, x0_7z8, y2z8, by show va_P D classes _ t.heap; rw [ht]; exact hP, hD⟩⟩, hS.F ht⟩) hS.2.2 d_M_goByState_224
          · refine lv_iconst (v := 1) hx hb d_M_goByState_102 (by decide) ?_
            refine lv_goto (tgt := 107) hx hb d_M_goByState_103 (by decide) ?_
            refine kn_v (va_runV (C := "SignMachine$Machine") (As := [.int (bI true)]) (rest := []) ⟨hx, hb, hml, hown, hk⟩ (c_M_goIf_s1 l K D cI cJ cZ cB p0 p1 p2 p3 p4 H.size false x0_5 x0_6 x0_7 x0_8 x0_9 x0_10 x0_11 x0_12 x0_13 y1 y2 x3_0 x4_0  true ) (v_M_goIf_s1 hk k_448 ⟨Nat.le_of_ble_eq_true rfl, Nat.le_of_ble_eq_true rfl⟩) (pMC_v hK hP hD hC hS hA (ci := 1) (q0 := 0) rfl rfl rfl) rfl rfl hl.1 rfl (lv_room (Nat.le_of_ble_eq_true rfl)) d_M_goByState_107 ⟨by decide, by decide⟩) hS hA hD (fun u t H locs ht hB hFr hS => ?_)
            obtain ⟨x0_7z9, y2z9, hP, hD⟩ := hB
            rw [ht] at hP
            have hD := dwk hD hFr
            clear ht hFr
            have hP : va_P D classes (wS51 cI cJ cZ cB p0 p1 p2 p3 p4 false x0_5 x0_6 x0_7z9 x0_8 x0_9 x0_10 x0_11 x0_12 x0_13 y1 y2z9 x3_0 x4_0) H := hP
            have hD : va_D A (wS51 cI cJ cZ cB p0 p1 p2 p3 p4 false x0_5 x0_6 x0_7z9 x0_8 x0_9 x0_10 x0_11 x0_12 x0_13 y1 y2z9 x3_0 x4_0) := hD
            refine lv_goto (tgt := 224) hx hb d_M_goByState_110 (by decide) ?_
            exact W.vret hx hb hr (fun t ht hW => ⟨⟨(), rfl, trivial, ⟨false, x0_7z9, y2z9, by show va_P D classes _ t.heap; rw [ht]; exact hP, hD⟩⟩, hS.F ht⟩) hS.2.2 d_M_goByState_224
        · by_cases c10 : x0_10 = (4 : Int32)
          · refine lv_tableIn (off := 104) (tgt := 113) hx hb d_M_goByState_9 (by rw [c10]; decide) (by rw [c10]; decide) (by rw [c10]; rfl) (by decide) ?_
            refine lv_aload_n hx hb d_M_goByState_113 rfl (lv_at hl 1 rfl) ?_
            refine lv_aload_n hx hb d_M_goByState_114 rfl (lv_at hl 1 rfl) ?_
            refine va_get (D := D) (ci := 1) (v := .int x0_5) (C := "SignMachine$Machine") (T := F_M) (N := 14) hx hb hk fi_M hown hK.1 hP 0 rfl rfl 5 (by decide) (hk _ k_170) (fun _ h9 => h9) rfl d_M_goByState_115 ?_
            refine lv_if_ge (tgt := 125) hx hb d_M_goByState_118 (by decide) (fun c11 => ?_) (fun c11 => ?_)
            · refine lv_iconst (v := 0) hx hb d_M_goByState_125 (by decide) ?_
              refine kn_v (va_runV (C := "SignMachine$Machine") (As := [.int (bI false)]) (rest := []) ⟨hx, hb, hml, hown, hk⟩ (c_M_goIf_s1 l K D cI cJ cZ cB p0 p1 p2 p3 p4 s.heap.size x0_4 x0_5 x0_6 x0_7 x0_8 x0_9 x0_10 x0_11 x0_12 x0_13 y1 y2 x3_0 x4_0  false ) (v_M_goIf_s1 hk k_448 ⟨Nat.le_of_ble_eq_true rfl, Nat.le_of_ble_eq_true rfl⟩) (pMC_v hK hP hD hC hS hA (ci := 1) (q0 := 0) rfl rfl rfl) rfl rfl hl.1 rfl (lv_room (Nat.le_of_ble_eq_true rfl)) d_M_goByState_126 ⟨by decide, by decide⟩) hS hA hD (fun u t H locs ht hB hFr hS => ?_)
              obtain ⟨x0_7z12, y2z12, hP, hD⟩ := hB
              rw [ht] at hP
              have hD := dwk hD hFr
              clear ht hFr
              have hP : va_P D classes (wS51 cI cJ cZ cB p0 p1 p2 p3 p4 x0_4 x0_5 x0_6 x0_7z12 x0_8 x0_9 x0_10 x0_11 x0_12 x0_13 y1 y2z12 x3_0 x4_0) H := hP
              have hD : va_D A (wS51 cI cJ cZ cB p0 p1 p2 p3 p4 x0_4 x0_5 x0_6 x0_7z12 x0_8 x0_9 x0_10 x0_11 x0_12 x0_13 y1 y2z12 x3_0 x4_0) := hD
              refine lv_goto (tgt := 224) hx hb d_M_goByState_129 (by decide) ?_
              exact W.vret hx hb hr (fun t ht hW => ⟨⟨(), rfl, trivial, ⟨x0_4, x0_7z12, y2z12, by show va_P D classes _ t.heap; rw [ht]; exact hP, hD⟩⟩, hS.F ht⟩) hS.2.2 d_M_goByState_224
            · refine lv_iconst (v := 1) hx hb d_M_goByState_121 (by decide) ?_
              refine lv_goto (tgt := 126) hx hb d_M_goByState_122 (by decide) ?_
              refine kn_v (va_runV (C := "SignMachine$Machine") (As := [.int (bI true)]) (rest := []) ⟨hx, hb, hml, hown, hk⟩ (c_M_goIf_s1 l K D cI cJ cZ cB p0 p1 p2 p3 p4 s.heap.size x0_4 x0_5 x0_6 x0_7 x0_8 x0_9 x0_10 x0_11 x0_12 x0_13 y1 y2 x3_0 x4_0  true ) (v_M_goIf_s1 hk k_448 ⟨Nat.le_of_ble_eq_true rfl, Nat.le_of_ble_eq_true rfl⟩) (pMC_v hK hP hD hC hS hA (ci := 1) (q0 := 0) rfl rfl rfl) rfl rfl hl.1 rfl (lv_room (Nat.le_of_ble_eq_true rfl)) d_M_goByState_126 ⟨by decide, by decide⟩) hS hA hD (fun u t H locs ht hB hFr hS => ?_)
              obtain ⟨x0_7z13, y2z13, hP, hD⟩ := hB
              rw [ht] at hP
              have hD := dwk hD hFr
              clear ht hFr
              have hP : va_P D classes (wS51 cI cJ cZ cB p0 p1 p2 p3 p4 x0_4 x0_5 x0_6 x0_7z13 x0_8 x0_9 x0_10 x0_11 x0_12 x0_13 y1 y2z13 x3_0 x4_0) H := hP
              have hD : va_D A (wS51 cI cJ cZ cB p0 p1 p2 p3 p4 x0_4 x0_5 x0_6 x0_7z13 x0_8 x0_9 x0_10 x0_11 x0_12 x0_13 y1 y2z13 x3_0 x4_0) := hD
              refine lv_goto (tgt := 224) hx hb d_M_goByState_129 (by decide) ?_
              exact W.vret hx hb hr (fun t ht hW => ⟨⟨(), rfl, trivial, ⟨x0_4, x0_7z13, y2z13, by show va_P D classes _ t.heap; rw [ht]; exact hP, hD⟩⟩, hS.F ht⟩) hS.2.2 d_M_goByState_224
          · by_cases c14 : x0_10 = (5 : Int32)
            · refine lv_tableIn (off := 123) (tgt := 132) hx hb d_M_goByState_9 (by rw [c14]; decide) (by rw [c14]; decide) (by rw [c14]; rfl) (by decide) ?_
              refine lv_aload_n hx hb d_M_goByState_132 rfl (lv_at hl 1 rfl) ?_
              refine lv_aload_n hx hb d_M_goByState_133 rfl (lv_at hl 1 rfl) ?_
              refine va_get (D := D) (ci := 1) (v := .int x0_5) (C := "SignMachine$Machine") (T := F_M) (N := 14) hx hb hk fi_M hown hK.1 hP 0 rfl rfl 5 (by decide) (hk _ k_170) (fun _ h9 => h9) rfl d_M_goByState_134 ?_
              refine lv_if_ne (tgt := 144) hx hb d_M_goByState_137 (by decide) (fun c15 => ?_) (fun c15 => ?_)
              · refine lv_iconst (v := 0) hx hb d_M_goByState_144 (by decide) ?_
                refine kn_v (va_runV (C := "SignMachine$Machine") (As := [.int (bI false)]) (rest := []) ⟨hx, hb, hml, hown, hk⟩ (c_M_goIf_s1 l K D cI cJ cZ cB p0 p1 p2 p3 p4 s.heap.size x0_4 x0_5 x0_6 x0_7 x0_8 x0_9 x0_10 x0_11 x0_12 x0_13 y1 y2 x3_0 x4_0  false ) (v_M_goIf_s1 hk k_448 ⟨Nat.le_of_ble_eq_true rfl, Nat.le_of_ble_eq_true rfl⟩) (pMC_v hK hP hD hC hS hA (ci := 1) (q0 := 0) rfl rfl rfl) rfl rfl hl.1 rfl (lv_room (Nat.le_of_ble_eq_true rfl)) d_M_goByState_145 ⟨by decide, by decide⟩) hS hA hD (fun u t H locs ht hB hFr hS => ?_)
                obtain ⟨x0_7z16, y2z16, hP, hD⟩ := hB
                rw [ht] at hP
                have hD := dwk hD hFr
                clear ht hFr
                have hP : va_P D classes (wS51 cI cJ cZ cB p0 p1 p2 p3 p4 x0_4 x0_5 x0_6 x0_7z16 x0_8 x0_9 x0_10 x0_11 x0_12 x0_13 y1 y2z16 x3_0 x4_0) H := hP
                have hD : va_D A (wS51 cI cJ cZ cB p0 p1 p2 p3 p4 x0_4 x0_5 x0_6 x0_7z16 x0_8 x0_9 x0_10 x0_11 x0_12 x0_13 y1 y2z16 x3_0 x4_0) := hD
                refine lv_goto (tgt := 224) hx hb d_M_goByState_148 (by decide) ?_
                exact W.vret hx hb hr (fun t ht hW => ⟨⟨(), rfl, trivial, ⟨x0_4, x0_7z16, y2z16, by show va_P D classes _ t.heap; rw [ht]; exact hP, hD⟩⟩, hS.F ht⟩) hS.2.2 d_M_goByState_224
              · refine lv_iconst (v := 1) hx hb d_M_goByState_140 (by decide) ?_
                refine lv_goto (tgt := 145) hx hb d_M_goByState_141 (by decide) ?_
                refine kn_v (va_runV (C := "SignMachine$Machine") (As := [.int (bI true)]) (rest := []) ⟨hx, hb, hml, hown, hk⟩ (c_M_goIf_s1 l K D cI cJ cZ cB p0 p1 p2 p3 p4 s.heap.size x0_4 x0_5 x0_6 x0_7 x0_8 x0_9 x0_10 x0_11 x0_12 x0_13 y1 y2 x3_0 x4_0  true ) (v_M_goIf_s1 hk k_448 ⟨Nat.le_of_ble_eq_true rfl, Nat.le_of_ble_eq_true rfl⟩) (pMC_v hK hP hD hC hS hA (ci := 1) (q0 := 0) rfl rfl rfl) rfl rfl hl.1 rfl (lv_room (Nat.le_of_ble_eq_true rfl)) d_M_goByState_145 ⟨by decide, by decide⟩) hS hA hD (fun u t H locs ht hB hFr hS => ?_)
                obtain ⟨x0_7z17, y2z17, hP, hD⟩ := hB
                rw [ht] at hP
                have hD := dwk hD hFr
                clear ht hFr
                have hP : va_P D classes (wS51 cI cJ cZ cB p0 p1 p2 p3 p4 x0_4 x0_5 x0_6 x0_7z17 x0_8 x0_9 x0_10 x0_11 x0_12 x0_13 y1 y2z17 x3_0 x4_0) H := hP
                have hD : va_D A (wS51 cI cJ cZ cB p0 p1 p2 p3 p4 x0_4 x0_5 x0_6 x0_7z17 x0_8 x0_9 x0_10 x0_11 x0_12 x0_13 y1 y2z17 x3_0 x4_0) := hD
                refine lv_goto (tgt := 224) hx hb d_M_goByState_148 (by decide) ?_
                exact W.vret hx hb hr (fun t ht hW => ⟨⟨(), rfl, trivial, ⟨x0_4, x0_7z17, y2z17, by show va_P D classes _ t.heap; rw [ht]; exact hP, hD⟩⟩, hS.F ht⟩) hS.2.2 d_M_goByState_224
            · by_cases c18 : x0_10 = (6 : Int32)
              · refine lv_tableIn (off := 142) (tgt := 151) hx hb d_M_goByState_9 (by rw [c18]; decide) (by rw [c18]; decide) (by rw [c18]; rfl) (by decide) ?_
                refine lv_aload_n hx hb d_M_goByState_151 rfl (lv_at hl 1 rfl) ?_
                refine lv_aload_n hx hb d_M_goByState_152 rfl (lv_at hl 1 rfl) ?_
                refine va_get (D := D) (ci := 1) (v := .int x0_5) (C := "SignMachine$Machine") (T := F_M) (N := 14) hx hb hk fi_M hown hK.1 hP 0 rfl rfl 5 (by decide) (hk _ k_170) (fun _ h9 => h9) rfl d_M_goByState_153 ?_
                refine lv_if_le (tgt := 163) hx hb d_M_goByState_156 (by decide) (fun c19 => ?_) (fun c19 => ?_)
                · refine lv_iconst (v := 0) hx hb d_M_goByState_163 (by decide) ?_
                  refine kn_v (va_runV (C := "SignMachine$Machine") (As := [.int (bI false)]) (rest := []) ⟨hx, hb, hml, hown, hk⟩ (c_M_goIf_s1 l K D cI cJ cZ cB p0 p1 p2 p3 p4 s.heap.size x0_4 x0_5 x0_6 x0_7 x0_8 x0_9 x0_10 x0_11 x0_12 x0_13 y1 y2 x3_0 x4_0  false ) (v_M_goIf_s1 hk k_448 ⟨Nat.le_of_ble_eq_true rfl, Nat.le_of_ble_eq_true rfl⟩) (pMC_v hK hP hD hC hS hA (ci := 1) (q0 := 0) rfl rfl rfl) rfl rfl hl.1 rfl (lv_room (Nat.le_of_ble_eq_true rfl)) d_M_goByState_164 ⟨by decide, by decide⟩) hS hA hD (fun u t H locs ht hB hFr hS => ?_)
                  obtain ⟨x0_7z20, y2z20, hP, hD⟩ := hB
                  rw [ht] at hP
                  have hD := dwk hD hFr
                  clear ht hFr
                  have hP : va_P D classes (wS51 cI cJ cZ cB p0 p1 p2 p3 p4 x0_4 x0_5 x0_6 x0_7z20 x0_8 x0_9 x0_10 x0_11 x0_12 x0_13 y1 y2z20 x3_0 x4_0) H := hP
                  have hD : va_D A (wS51 cI cJ cZ cB p0 p1 p2 p3 p4 x0_4 x0_5 x0_6 x0_7z20 x0_8 x0_9 x0_10 x0_11 x0_12 x0_13 y1 y2z20 x3_0 x4_0) := hD
                  refine lv_goto (tgt := 224) hx hb d_M_goByState_167 (by decide) ?_
                  exact W.vret hx hb hr (fun t ht hW => ⟨⟨(), rfl, trivial, ⟨x0_4, x0_7z20, y2z20, by show va_P D classes _ t.heap; rw [ht]; exact hP, hD⟩⟩, hS.F ht⟩) hS.2.2 d_M_goByState_224
                · refine lv_iconst (v := 1) hx hb d_M_goByState_159 (by decide) ?_
                  refine lv_goto (tgt := 164) hx hb d_M_goByState_160 (by decide) ?_
                  refine kn_v (va_runV (C := "SignMachine$Machine") (As := [.int (bI true)]) (rest := []) ⟨hx, hb, hml, hown, hk⟩ (c_M_goIf_s1 l K D cI cJ cZ cB p0 p1 p2 p3 p4 s.heap.size x0_4 x0_5 x0_6 x0_7 x0_8 x0_9 x0_10 x0_11 x0_12 x0_13 y1 y2 x3_0 x4_0  true ) (v_M_goIf_s1 hk k_448 ⟨Nat.le_of_ble_eq_true rfl, Nat.le_of_ble_eq_true rfl⟩) (pMC_v hK hP hD hC hS hA (ci := 1) (q0 := 0) rfl rfl rfl) rfl rfl hl.1 rfl (lv_room (Nat.le_of_ble_eq_true rfl)) d_M_goByState_164 ⟨by decide, by decide⟩) hS hA hD (fun u t H locs ht hB hFr hS => ?_)
                  obtain ⟨x0_7z21, y2z21, hP, hD⟩ := hB
                  rw [ht] at hP
                  have hD := dwk hD hFr
                  clear ht hFr
                  have hP : va_P D classes (wS51 cI cJ cZ cB p0 p1 p2 p3 p4 x0_4 x0_5 x0_6 x0_7z21 x0_8 x0_9 x0_10 x0_11 x0_12 x0_13 y1 y2z21 x3_0 x4_0) H := hP
                  have hD : va_D A (wS51 cI cJ cZ cB p0 p1 p2 p3 p4 x0_4 x0_5 x0_6 x0_7z21 x0_8 x0_9 x0_10 x0_11 x0_12 x0_13 y1 y2z21 x3_0 x4_0) := hD
                  refine lv_goto (tgt := 224) hx hb d_M_goByState_167 (by decide) ?_
                  exact W.vret hx hb hr (fun t ht hW => ⟨⟨(), rfl, trivial, ⟨x0_4, x0_7z21, y2z21, by show va_P D classes _ t.heap; rw [ht]; exact hP, hD⟩⟩, hS.F ht⟩) hS.2.2 d_M_goByState_224
              · by_cases c22 : x0_10 = (7 : Int32)
                · refine lv_tableIn (off := 161) (tgt := 170) hx hb d_M_goByState_9 (by rw [c22]; decide) (by rw [c22]; decide) (by rw [c22]; rfl) (by decide) ?_
                  refine lv_aload_n hx hb d_M_goByState_170 rfl (lv_at hl 1 rfl) ?_
                  refine lv_aload_n hx hb d_M_goByState_171 rfl (lv_at hl 1 rfl) ?_
                  refine va_get (D := D) (ci := 1) (v := .int x0_5) (C := "SignMachine$Machine") (T := F_M) (N := 14) hx hb hk fi_M hown hK.1 hP 0 rfl rfl 5 (by decide) (hk _ k_170) (fun _ h9 => h9) rfl d_M_goByState_172 ?_
                  refine lv_if_lt (tgt := 182) hx hb d_M_goByState_175 (by decide) (fun c23 => ?_) (fun c23 => ?_)
                  · refine lv_iconst (v := 0) hx hb d_M_goByState_182 (by decide) ?_
                    refine kn_v (va_runV (C := "SignMachine$Machine") (As := [.int (bI false)]) (rest := []) ⟨hx, hb, hml, hown, hk⟩ (c_M_goIf_s1 l K D cI cJ cZ cB p0 p1 p2 p3 p4 s.heap.size x0_4 x0_5 x0_6 x0_7 x0_8 x0_9 x0_10 x0_11 x0_12 x0_13 y1 y2 x3_0 x4_0  false ) (v_M_goIf_s1 hk k_448 ⟨Nat.le_of_ble_eq_true rfl, Nat.le_of_ble_eq_true rfl⟩) (pMC_v hK hP hD hC hS hA (ci := 1) (q0 := 0) rfl rfl rfl) rfl rfl hl.1 rfl (lv_room (Nat.le_of_ble_eq_true rfl)) d_M_goByState_183 ⟨by decide, by decide⟩) hS hA hD (fun u t H locs ht hB hFr hS => ?_)
                    obtain ⟨x0_7z24, y2z24, hP, hD⟩ := hB
                    rw [ht] at hP
                    have hD := dwk hD hFr
                    clear ht hFr
                    have hP : va_P D classes (wS51 cI cJ cZ cB p0 p1 p2 p3 p4 x0_4 x0_5 x0_6 x0_7z24 x0_8 x0_9 x0_10 x0_11 x0_12 x0_13 y1 y2z24 x3_0 x4_0) H := hP
                    have hD : va_D A (wS51 cI cJ cZ cB p0 p1 p2 p3 p4 x0_4 x0_5 x0_6 x0_7z24 x0_8 x0_9 x0_10 x0_11 x0_12 x0_13 y1 y2z24 x3_0 x4_0) := hD
                    refine lv_goto (tgt := 224) hx hb d_M_goByState_186 (by decide) ?_
                    exact W.vret hx hb hr (fun t ht hW => ⟨⟨(), rfl, trivial, ⟨x0_4, x0_7z24, y2z24, by show va_P D classes _ t.heap; rw [ht]; exact hP, hD⟩⟩, hS.F ht⟩) hS.2.2 d_M_goByState_224
                  · refine lv_iconst (v := 1) hx hb d_M_goByState_178 (by decide) ?_
                    refine lv_goto (tgt := 183) hx hb d_M_goByState_179 (by decide) ?_
                    refine kn_v (va_runV (C := "SignMachine$Machine") (As := [.int (bI true)]) (rest := []) ⟨hx, hb, hml, hown, hk⟩ (c_M_goIf_s1 l K D cI cJ cZ cB p0 p1 p2 p3 p4 s.heap.size x0_4 x0_5 x0_6 x0_7 x0_8 x0_9 x0_10 x0_11 x0_12 x0_13 y1 y2 x3_0 x4_0  true ) (v_M_goIf_s1 hk k_448 ⟨Nat.le_of_ble_eq_true rfl, Nat.le_of_ble_eq_true rfl⟩) (pMC_v hK hP hD hC hS hA (ci := 1) (q0 := 0) rfl rfl rfl) rfl rfl hl.1 rfl (lv_room (Nat.le_of_ble_eq_true rfl)) d_M_goByState_183 ⟨by decide, by decide⟩) hS hA hD (fun u t H locs ht hB hFr hS => ?_)
                    obtain ⟨x0_7z25, y2z25, hP, hD⟩ := hB
                    rw [ht] at hP
                    have hD := dwk hD hFr
                    clear ht hFr
                    have hP : va_P D classes (wS51 cI cJ cZ cB p0 p1 p2 p3 p4 x0_4 x0_5 x0_6 x0_7z25 x0_8 x0_9 x0_10 x0_11 x0_12 x0_13 y1 y2z25 x3_0 x4_0) H := hP
                    have hD : va_D A (wS51 cI cJ cZ cB p0 p1 p2 p3 p4 x0_4 x0_5 x0_6 x0_7z25 x0_8 x0_9 x0_10 x0_11 x0_12 x0_13 y1 y2z25 x3_0 x4_0) := hD
                    refine lv_goto (tgt := 224) hx hb d_M_goByState_186 (by decide) ?_
                    exact W.vret hx hb hr (fun t ht hW => ⟨⟨(), rfl, trivial, ⟨x0_4, x0_7z25, y2z25, by show va_P D classes _ t.heap; rw [ht]; exact hP, hD⟩⟩, hS.F ht⟩) hS.2.2 d_M_goByState_224
                · by_cases c26 : x0_10 = (8 : Int32)
                  · refine lv_tableIn (off := 180) (tgt := 189) hx hb d_M_goByState_9 (by rw [c26]; decide) (by rw [c26]; decide) (by rw [c26]; rfl) (by decide) ?_
                    refine lv_aload_n hx hb d_M_goByState_189 rfl (lv_at hl 1 rfl) ?_
                    refine lv_aload_n hx hb d_M_goByState_190 rfl (lv_at hl 1 rfl) ?_
                    refine va_get (D := D) (ci := 1) (v := .int x0_5) (C := "SignMachine$Machine") (T := F_M) (N := 14) hx hb hk fi_M hown hK.1 hP 0 rfl rfl 5 (by decide) (hk _ k_170) (fun _ h9 => h9) rfl d_M_goByState_191 ?_
                    refine lv_if_eq (tgt := 201) hx hb d_M_goByState_194 (by decide) (fun c27 => ?_) (fun c27 => ?_)
                    · refine lv_iconst (v := 0) hx hb d_M_goByState_201 (by decide) ?_
                      refine kn_v (va_runV (C := "SignMachine$Machine") (As := [.int (bI false)]) (rest := []) ⟨hx, hb, hml, hown, hk⟩ (c_M_goIf_s1 l K D cI cJ cZ cB p0 p1 p2 p3 p4 s.heap.size x0_4 x0_5 x0_6 x0_7 x0_8 x0_9 x0_10 x0_11 x0_12 x0_13 y1 y2 x3_0 x4_0  false ) (v_M_goIf_s1 hk k_448 ⟨Nat.le_of_ble_eq_true rfl, Nat.le_of_ble_eq_true rfl⟩) (pMC_v hK hP hD hC hS hA (ci := 1) (q0 := 0) rfl rfl rfl) rfl rfl hl.1 rfl (lv_room (Nat.le_of_ble_eq_true rfl)) d_M_goByState_202 ⟨by decide, by decide⟩) hS hA hD (fun u t H locs ht hB hFr hS => ?_)
                      obtain ⟨x0_7z28, y2z28, hP, hD⟩ := hB
                      rw [ht] at hP
                      have hD := dwk hD hFr
                      clear ht hFr
                      have hP : va_P D classes (wS51 cI cJ cZ cB p0 p1 p2 p3 p4 x0_4 x0_5 x0_6 x0_7z28 x0_8 x0_9 x0_10 x0_11 x0_12 x0_13 y1 y2z28 x3_0 x4_0) H := hP
                      have hD : va_D A (wS51 cI cJ cZ cB p0 p1 p2 p3 p4 x0_4 x0_5 x0_6 x0_7z28 x0_8 x0_9 x0_10 x0_11 x0_12 x0_13 y1 y2z28 x3_0 x4_0) := hD
                      refine lv_goto (tgt := 224) hx hb d_M_goByState_205 (by decide) ?_
                      exact W.vret hx hb hr (fun t ht hW => ⟨⟨(), rfl, trivial, ⟨x0_4, x0_7z28, y2z28, by show va_P D classes _ t.heap; rw [ht]; exact hP, hD⟩⟩, hS.F ht⟩) hS.2.2 d_M_goByState_224
                    · refine lv_iconst (v := 1) hx hb d_M_goByState_197 (by decide) ?_
                      refine lv_goto (tgt := 202) hx hb d_M_goByState_198 (by decide) ?_
                      refine kn_v (va_runV (C := "SignMachine$Machine") (As := [.int (bI true)]) (rest := []) ⟨hx, hb, hml, hown, hk⟩ (c_M_goIf_s1 l K D cI cJ cZ cB p0 p1 p2 p3 p4 s.heap.size x0_4 x0_5 x0_6 x0_7 x0_8 x0_9 x0_10 x0_11 x0_12 x0_13 y1 y2 x3_0 x4_0  true ) (v_M_goIf_s1 hk k_448 ⟨Nat.le_of_ble_eq_true rfl, Nat.le_of_ble_eq_true rfl⟩) (pMC_v hK hP hD hC hS hA (ci := 1) (q0 := 0) rfl rfl rfl) rfl rfl hl.1 rfl (lv_room (Nat.le_of_ble_eq_true rfl)) d_M_goByState_202 ⟨by decide, by decide⟩) hS hA hD (fun u t H locs ht hB hFr hS => ?_)
                      obtain ⟨x0_7z29, y2z29, hP, hD⟩ := hB
                      rw [ht] at hP
                      have hD := dwk hD hFr
                      clear ht hFr
                      have hP : va_P D classes (wS51 cI cJ cZ cB p0 p1 p2 p3 p4 x0_4 x0_5 x0_6 x0_7z29 x0_8 x0_9 x0_10 x0_11 x0_12 x0_13 y1 y2z29 x3_0 x4_0) H := hP
                      have hD : va_D A (wS51 cI cJ cZ cB p0 p1 p2 p3 p4 x0_4 x0_5 x0_6 x0_7z29 x0_8 x0_9 x0_10 x0_11 x0_12 x0_13 y1 y2z29 x3_0 x4_0) := hD
                      refine lv_goto (tgt := 224) hx hb d_M_goByState_205 (by decide) ?_
                      exact W.vret hx hb hr (fun t ht hW => ⟨⟨(), rfl, trivial, ⟨x0_4, x0_7z29, y2z29, by show va_P D classes _ t.heap; rw [ht]; exact hP, hD⟩⟩, hS.F ht⟩) hS.2.2 d_M_goByState_224
                  · refine lv_tableOut (tgt := 208) hx hb d_M_goByState_9 (by have e0 := lv_neT c1 (a := 0) rfl; have e1 := lv_neT c3 (a := 1) rfl; have e2 := lv_neT c4 (a := 2) rfl; have e3 := lv_neT c6 (a := 3) rfl; have e4 := lv_neT c10 (a := 4) rfl; have e5 := lv_neT c14 (a := 5) rfl; have e6 := lv_neT c18 (a := 6) rfl; have e7 := lv_neT c22 (a := 7) rfl; have e8 := lv_neT c26 (a := 8) rfl; omega) (by decide) ?_
                    refine lv_aload_n hx hb d_M_goByState_208 rfl (lv_at hl 1 rfl) ?_
                    refine lv_aload_n hx hb d_M_goByState_209 rfl (lv_at hl 1 rfl) ?_
                    refine va_get (D := D) (ci := 1) (v := .int x0_5) (C := "SignMachine$Machine") (T := F_M) (N := 14) hx hb hk fi_M hown hK.1 hP 0 rfl rfl 5 (by decide) (hk _ k_170) (fun _ h9 => h9) rfl d_M_goByState_210 ?_
                    refine lv_if_gt (tgt := 220) hx hb d_M_goByState_213 (by decide) (fun c30 => ?_) (fun c30 => ?_)
                    · refine lv_iconst (v := 0) hx hb d_M_goByState_220 (by decide) ?_
                      refine kn_v (va_runV (C := "SignMachine$Machine") (As := [.int (bI false)]) (rest := []) ⟨hx, hb, hml, hown, hk⟩ (c_M_goIf_s1 l K D cI cJ cZ cB p0 p1 p2 p3 p4 s.heap.size x0_4 x0_5 x0_6 x0_7 x0_8 x0_9 x0_10 x0_11 x0_12 x0_13 y1 y2 x3_0 x4_0  false ) (v_M_goIf_s1 hk k_448 ⟨Nat.le_of_ble_eq_true rfl, Nat.le_of_ble_eq_true rfl⟩) (pMC_v hK hP hD hC hS hA (ci := 1) (q0 := 0) rfl rfl rfl) rfl rfl hl.1 rfl (lv_room (Nat.le_of_ble_eq_true rfl)) d_M_goByState_221 ⟨by decide, by decide⟩) hS hA hD (fun u t H locs ht hB hFr hS => ?_)
                      obtain ⟨x0_7z31, y2z31, hP, hD⟩ := hB
                      rw [ht] at hP
                      have hD := dwk hD hFr
                      clear ht hFr
                      have hP : va_P D classes (wS51 cI cJ cZ cB p0 p1 p2 p3 p4 x0_4 x0_5 x0_6 x0_7z31 x0_8 x0_9 x0_10 x0_11 x0_12 x0_13 y1 y2z31 x3_0 x4_0) H := hP
                      have hD : va_D A (wS51 cI cJ cZ cB p0 p1 p2 p3 p4 x0_4 x0_5 x0_6 x0_7z31 x0_8 x0_9 x0_10 x0_11 x0_12 x0_13 y1 y2z31 x3_0 x4_0) := hD
                      exact W.vret hx hb hr (fun t ht hW => ⟨⟨(), rfl, trivial, ⟨x0_4, x0_7z31, y2z31, by show va_P D classes _ t.heap; rw [ht]; exact hP, hD⟩⟩, hS.F ht⟩) hS.2.2 d_M_goByState_224
                    · refine lv_iconst (v := 1) hx hb d_M_goByState_216 (by decide) ?_
                      refine lv_goto (tgt := 221) hx hb d_M_goByState_217 (by decide) ?_
                      refine kn_v (va_runV (C := "SignMachine$Machine") (As := [.int (bI true)]) (rest := []) ⟨hx, hb, hml, hown, hk⟩ (c_M_goIf_s1 l K D cI cJ cZ cB p0 p1 p2 p3 p4 s.heap.size x0_4 x0_5 x0_6 x0_7 x0_8 x0_9 x0_10 x0_11 x0_12 x0_13 y1 y2 x3_0 x4_0  true ) (v_M_goIf_s1 hk k_448 ⟨Nat.le_of_ble_eq_true rfl, Nat.le_of_ble_eq_true rfl⟩) (pMC_v hK hP hD hC hS hA (ci := 1) (q0 := 0) rfl rfl rfl) rfl rfl hl.1 rfl (lv_room (Nat.le_of_ble_eq_true rfl)) d_M_goByState_221 ⟨by decide, by decide⟩) hS hA hD (fun u t H locs ht hB hFr hS => ?_)
                      obtain ⟨x0_7z32, y2z32, hP, hD⟩ := hB
                      rw [ht] at hP
                      have hD := dwk hD hFr
                      clear ht hFr
                      have hP : va_P D classes (wS51 cI cJ cZ cB p0 p1 p2 p3 p4 x0_4 x0_5 x0_6 x0_7z32 x0_8 x0_9 x0_10 x0_11 x0_12 x0_13 y1 y2z32 x3_0 x4_0) H := hP
                      have hD : va_D A (wS51 cI cJ cZ cB p0 p1 p2 p3 p4 x0_4 x0_5 x0_6 x0_7z32 x0_8 x0_9 x0_10 x0_11 x0_12 x0_13 y1 y2z32 x3_0 x4_0) := hD
                      exact W.vret hx hb hr (fun t ht hW => ⟨⟨(), rfl, trivial, ⟨x0_4, x0_7z32, y2z32, by show va_P D classes _ t.heap; rw [ht]; exact hP, hD⟩⟩, hS.F ht⟩) hS.2.2 d_M_goByState_224
theorem v_M_goByState_s1 {R : Room} {s : State} {args : Array Value} {own : String} {index : Nat} (hk : ∀ w ∈ tb, w.before args s = true) (hl : Cond.methodLink own index y_M_goByState ∈ tb) (hR : 2 + 1 ≤ R.frames ∧ 8 + (2 + 11) + 43 ≤ R.locals) : CallW R s args own "SignMachine$Machine" index y_M_goByState b_M_goByState 2 none (.code y_M_goByState b_M_goByState 2 none :: tb) ({ frames := 2, cells := 0, slots := 0, locals := 43 }) 0 0 0 := mk_v 0 hk k_455 hl k_454 k_29 k_117 rfl rfl h_M_goByState hR
set_option maxHeartbeats 4000000 in
set_option maxRecDepth 100000 in
theorem c_M_performMiddle_s3 (l : Launch) (K : CK) (D : va_G) (cI cJ cZ cB : ClassId) (p0 p1 p2 p3 p4 : Nat) (sz : Nat) (x0_4 : Bool) (x0_5 : Int32) (x0_6 : Int32) (x0_7 : Int32) (x0_8 : Int32) (x0_9 : Int32) (x0_10 : Int32) (x0_11 : Int32) (x0_12 : Int32) (x0_13 : Int32) (y1 : Nat → Int32) (y2 : Nat → Int32) (x3_0 : Int32) (x4_0 : Int32)   (hy1 : ¬ x0_9 = (37 : Int32)) : Met l y_M_performMiddle (.code y_M_performMiddle b_M_performMiddle 1 none :: tb) ({ frames := 3, cells := 0, slots := 0, locals := 69 }) (pMC K D cI cJ cZ cB (wS51 cI cJ cZ cB p0 p1 p2 p3 p4 x0_4 x0_5 x0_6 x0_7 x0_8 x0_9 x0_10 x0_11 x0_12 x0_13 y1 y2 x3_0 x4_0) sz [.ref p0]) (va_Qv (fun (_ : Unit) => True) (fun _ t => (∃ u_x0_4 : Bool, ∃ u_x0_7 : Int32, ∃ u_y1 : Nat → Int32, ∃ u_y2 : Nat → Int32, ∃ u_x3_0 : Int32, ∃ u_x4_0 : Int32, va_P D classes (wS51 cI cJ cZ cB p0 p1 p2 p3 p4 u_x0_4 x0_5 x0_6 u_x0_7 x0_8 x0_9 x0_10 x0_11 x0_12 x0_13 u_y1 u_y2 u_x3_0 u_x4_0) t.heap ∧ va_D (va_A (wS51 cI cJ cZ cB p0 p1 p2 p3 p4 x0_4 x0_5 x0_6 x0_7 x0_8 x0_9 x0_10 x0_11 x0_12 x0_13 y1 y2 x3_0 x4_0) sz) (wS51 cI cJ cZ cB p0 p1 p2 p3 p4 u_x0_4 x0_5 x0_6 u_x0_7 x0_8 x0_9 x0_10 x0_11 x0_12 x0_13 u_y1 u_y2 u_x3_0 u_x4_0))) (va_A (wS51 cI cJ cZ cB p0 p1 p2 p3 p4 x0_4 x0_5 x0_6 x0_7 x0_8 x0_9 x0_10 x0_11 x0_12 x0_13 y1 y2 x3_0 x4_0) sz)) 0 0 (va_A (wS51 cI cJ cZ cB p0 p1 p2 p3 p4 x0_4 x0_5 x0_6 x0_7 x0_8 x0_9 x0_10 x0_11 x0_12 x0_13 y1 y2 x3_0 x4_0) sz) := by
  refine Met.ofW (cc := b_M_performMiddle) (maxL := 1) (ret := none) (by decide) rfl ?_
  intro p e s m args below meth c s₁ B hml hv
  obtain ⟨rfl, hsz, hK, hP, hD0, hC⟩ := hv
  subst hsz
  have hD := hD0.self (sz := s.heap.size)
  generalize hAe : va_A (wS51 cI cJ cZ cB p0 p1 p2 p3 p4 x0_4 x0_5 x0_6 x0_7 x0_8 x0_9 x0_10 x0_11 x0_12 x0_13 y1 y2 x3_0 x4_0) s.heap.size = A at hD hC ⊢
  have hA : ∀ q : Nat, s.heap.size ≤ q → A q := fun q h => by rw [← hAe]; exact Or.inr h
  clear hAe hD0
  have hS : va_S A s.heap s.heap [] := va_S.rf
  have hx := B.exec
  have hb := B.bytes
  have hr := B.returns
  have hts := atoms_spec (ws := .code y_M_performMiddle b_M_performMiddle 1 none :: tb) B.pre
  have hk : ∀ w ∈ tb, w.before [.ref p0].toArray s = true := fun w h => hts w (List.mem_cons_of_mem _ h)
  have hown : s.vm.findClass "SignMachine$Machine" = some m.cls := findClass_of_methodNamed B.named
  have hlocks := B.notSynchronized
  have hl := lv_entry ([.ref p0]) (n := 1) (Nat.le_of_ble_eq_true rfl)
  rw [lg_entry_eq]
  generalize (lg_sl ([.ref p0]) ++ List.replicate (1 - (lg_sl ([.ref p0])).length) Slot.unset).toArray = ls at hl ⊢
  have hl : lv_has ls 1 [(0, .ref p0)] := hl
  refine lv_aload_n hx hb d_M_performMiddle_0 rfl (lv_at hl 0 rfl) ?_
  refine va_get (D := D) (ci := 1) (v := .int x0_9) (C := "SignMachine$Machine") (T := F_M) (N := 14) hx hb hk fi_M hown hK.1 hP 0 rfl rfl 9 (by decide) (hk _ k_176) (fun _ h9 => h9) rfl d_M_performMiddle_1 ?_
  by_cases c1 : x0_9 = (32 : Int32)
  · refine lv_tableIn (off := 48) (tgt := 52) hx hb d_M_performMiddle_4 (by rw [c1]; decide) (by rw [c1]; decide) (by rw [c1]; rfl) (by decide) ?_
    refine lv_aload_n hx hb d_M_performMiddle_52 rfl (lv_at hl 0 rfl) ?_
    refine lv_aload_n hx hb d_M_performMiddle_53 rfl (lv_at hl 0 rfl) ?_
    refine lv_bipush (v := 8) hx hb d_M_performMiddle_54 (by decide) ?_
    refine sn_i (va_runV (C := "SignMachine$Machine") (As := [.int (8 : Int32)]) (rest := [.ref p0]) ⟨hx, hb, hml, hown, hk⟩ (c_M_register_s1 l K D cI cJ cZ cB p0 p1 p2 p3 p4 s.heap.size x0_4 x0_5 x0_6 x0_7 x0_8 x0_9 x0_10 x0_11 x0_12 x0_13 y1 y2 x3_0 x4_0  (8 : Int32) ) (v_M_register_s1 hk k_273 ⟨Nat.le_of_ble_eq_true rfl, Nat.le_of_ble_eq_true rfl⟩) (pMC_v hK hP hD hC hS hA (ci := 1) (q0 := 0) rfl rfl rfl) rfl rfl hl.1 rfl (lv_room (Nat.le_of_ble_eq_true rfl)) d_M_performMiddle_56 ⟨by decide, by decide⟩) hS hA hD (fun rz2 u t H locs hr0 ht hB hFr hS => ?_)
    obtain ⟨hP, hD⟩ := hB
    rw [ht] at hP
    have hD := dwk hD hFr
    clear ht hFr
    have hP : va_P D classes (wS51 cI cJ cZ cB p0 p1 p2 p3 p4 x0_4 x0_5 x0_6 x0_7 x0_8 x0_9 x0_10 x0_11 x0_12 x0_13 y1 y2 x3_0 x4_0) H := hP
    have hD : va_D A (wS51 cI cJ cZ cB p0 p1 p2 p3 p4 x0_4 x0_5 x0_6 x0_7 x0_8 x0_9 x0_10 x0_11 x0_12 x0_13 y1 y2 x3_0 x4_0) := hD
    refine kn_v (va_runV (C := "SignMachine$Machine") (As := [.int rz2]) (rest := []) ⟨hx, hb, hml, hown, hk⟩ (c_M_storeWord_s1 l K D cI cJ cZ cB p0 p1 p2 p3 p4 H.size x0_4 x0_5 x0_6 x0_7 x0_8 x0_9 x0_10 x0_11 x0_12 x0_13 y1 y2 x3_0 x4_0  rz2 ) (v_M_storeWord_s1 hk k_414 ⟨Nat.le_of_ble_eq_true rfl, Nat.le_of_ble_eq_true rfl⟩) (pMC_v hK hP hD hC hS hA (ci := 1) (q0 := 0) rfl rfl rfl) rfl rfl hl.1 rfl (lv_room (Nat.le_of_ble_eq_true rfl)) d_M_performMiddle_59 ⟨by decide, by decide⟩) hS hA hD (fun u t H locs ht hB hFr hS => ?_)
    obtain ⟨y1z3, hP, hD⟩ := hB
    rw [ht] at hP
    have hD := dwk hD hFr
    clear ht hFr
    have hP : va_P D classes (wS51 cI cJ cZ cB p0 p1 p2 p3 p4 x0_4 x0_5 x0_6 x0_7 x0_8 x0_9 x0_10 x0_11 x0_12 x0_13 y1z3 y2 x3_0 x4_0) H := hP
    have hD : va_D A (wS51 cI cJ cZ cB p0 p1 p2 p3 p4 x0_4 x0_5 x0_6 x0_7 x0_8 x0_9 x0_10 x0_11 x0_12 x0_13 y1z3 y2 x3_0 x4_0) := hD
    refine lv_goto (tgt := 109) hx hb d_M_performMiddle_62 (by decide) ?_
    exact W.vret hx hb hr (fun t ht hW => ⟨⟨(), rfl, trivial, ⟨x0_4, x0_7, y1z3, y2, x3_0, x4_0, by show va_P D classes _ t.heap; rw [ht]; exact hP, hD⟩⟩, hS.F ht⟩) hS.2.2 d_M_performMiddle_109
  · by_cases c4 : x0_9 = (33 : Int32)
    · refine lv_tableIn (off := 61) (tgt := 65) hx hb d_M_performMiddle_4 (by rw [c4]; decide) (by rw [c4]; decide) (by rw [c4]; rfl) (by decide) ?_
      refine lv_aload_n hx hb d_M_performMiddle_65 rfl (lv_at hl 0 rfl) ?_
      refine lv_iconst (v := 0) hx hb d_M_performMiddle_66 (by decide) ?_
      refine kn_v (va_runV (C := "SignMachine$Machine") (As := [.int (0 : Int32)]) (rest := []) ⟨hx, hb, hml, hown, hk⟩ (c_M_storeWord_s1 l K D cI cJ cZ cB p0 p1 p2 p3 p4 s.heap.size x0_4 x0_5 x0_6 x0_7 x0_8 x0_9 x0_10 x0_11 x0_12 x0_13 y1 y2 x3_0 x4_0  (0 : Int32) ) (v_M_storeWord_s1 hk k_414 ⟨Nat.le_of_ble_eq_true rfl, Nat.le_of_ble_eq_true rfl⟩) (pMC_v hK hP hD hC hS hA (ci := 1) (q0 := 0) rfl rfl rfl) rfl rfl hl.1 rfl (lv_room (Nat.le_of_ble_eq_true rfl)) d_M_performMiddle_67 ⟨by decide, by decide⟩) hS hA hD (fun u t H locs ht hB hFr hS => ?_)
      obtain ⟨y1z5, hP, hD⟩ := hB
      rw [ht] at hP
      have hD := dwk hD hFr
      clear ht hFr
      have hP : va_P D classes (wS51 cI cJ cZ cB p0 p1 p2 p3 p4 x0_4 x0_5 x0_6 x0_7 x0_8 x0_9 x0_10 x0_11 x0_12 x0_13 y1z5 y2 x3_0 x4_0) H := hP
      have hD : va_D A (wS51 cI cJ cZ cB p0 p1 p2 p3 p4 x0_4 x0_5 x0_6 x0_7 x0_8 x0_9 x0_10 x0_11 x0_12 x0_13 y1z5 y2 x3_0 x4_0) := hD
      refine lv_goto (tgt := 109) hx hb d_M_performMiddle_70 (by decide) ?_
      exact W.vret hx hb hr (fun t ht hW => ⟨⟨(), rfl, trivial, ⟨x0_4, x0_7, y1z5, y2, x3_0, x4_0, by show va_P D classes _ t.heap; rw [ht]; exact hP, hD⟩⟩, hS.F ht⟩) hS.2.2 d_M_performMiddle_109
    · by_cases c6 : x0_9 = (34 : Int32)
      · refine lv_tableIn (off := 105) (tgt := 109) hx hb d_M_performMiddle_4 (by rw [c6]; decide) (by rw [c6]; decide) (by rw [c6]; rfl) (by decide) ?_
        exact W.vret hx hb hr (fun t ht hW => ⟨⟨(), rfl, trivial, ⟨x0_4, x0_7, y1, y2, x3_0, x4_0, by show va_P D classes _ t.heap; rw [ht]; exact hP, hD⟩⟩, hS.F ht⟩) hS.2.2 d_M_performMiddle_109
      · by_cases c7 : x0_9 = (35 : Int32)
        · refine lv_tableIn (off := 69) (tgt := 73) hx hb d_M_performMiddle_4 (by rw [c7]; decide) (by rw [c7]; decide) (by rw [c7]; rfl) (by decide) ?_
          refine lv_aload_n hx hb d_M_performMiddle_73 rfl (lv_at hl 0 rfl) ?_
          refine kn_v (va_runV (C := "SignMachine$Machine") (As := []) (rest := []) ⟨hx, hb, hml, hown, hk⟩ (c_M_wind_s1 l K D cI cJ cZ cB p0 p1 p2 p3 p4 s.heap.size x0_4 x0_5 x0_6 x0_7 x0_8 x0_9 x0_10 x0_11 x0_12 x0_13 y1 y2 x3_0 x4_0   ) (v_M_wind_s1 hk k_425 ⟨Nat.le_of_ble_eq_true rfl, Nat.le_of_ble_eq_true rfl⟩) (pMC_v hK hP hD hC hS hA (ci := 1) (q0 := 0) rfl rfl rfl) rfl rfl hl.1 rfl (lv_room (Nat.le_of_ble_eq_true rfl)) d_M_performMiddle_74 ⟨by decide, by decide⟩) hS hA hD (fun u t H locs ht hB hFr hS => ?_)
          obtain ⟨x3_0z8, x4_0z8, hP, hD⟩ := hB
          rw [ht] at hP
          have hD := dwk hD hFr
          clear ht hFr
          have hP : va_P D classes (wS51 cI cJ cZ cB p0 p1 p2 p3 p4 x0_4 x0_5 x0_6 x0_7 x0_8 x0_9 x0_10 x0_11 x0_12 x0_13 y1 y2 x3_0z8 x4_0z8) H := hP
          have hD : va_D A (wS51 cI cJ cZ cB p0 p1 p2 p3 p4 x0_4 x0_5 x0_6 x0_7 x0_8 x0_9 x0_10 x0_11 x0_12 x0_13 y1 y2 x3_0z8 x4_0z8) := hD
          refine lv_goto (tgt := 109) hx hb d_M_performMiddle_77 (by decide) ?_
          exact W.vret hx hb hr (fun t ht hW => ⟨⟨(), rfl, trivial, ⟨x0_4, x0_7, y1, y2, x3_0z8, x4_0z8, by show va_P D classes _ t.heap; rw [ht]; exact hP, hD⟩⟩, hS.F ht⟩) hS.2.2 d_M_performMiddle_109
        · by_cases c9 : x0_9 = (36 : Int32)
          · refine lv_tableIn (off := 76) (tgt := 80) hx hb d_M_performMiddle_4 (by rw [c9]; decide) (by rw [c9]; decide) (by rw [c9]; rfl) (by decide) ?_
            refine lv_aload_n hx hb d_M_performMiddle_80 rfl (lv_at hl 0 rfl) ?_
            refine kn_v (va_runV (C := "SignMachine$Machine") (As := []) (rest := []) ⟨hx, hb, hml, hown, hk⟩ (c_M_readBlock_s1 l K D cI cJ cZ cB p0 p1 p2 p3 p4 s.heap.size x0_4 x0_5 x0_6 x0_7 x0_8 x0_9 x0_10 x0_11 x0_12 x0_13 y1 y2 x3_0 x4_0   ) (v_M_readBlock_s1 hk k_429 ⟨Nat.le_of_ble_eq_true rfl, Nat.le_of_ble_eq_true rfl⟩) (pMC_v hK hP hD hC hS hA (ci := 1) (q0 := 0) rfl rfl rfl) rfl rfl hl.1 rfl (lv_room (Nat.le_of_ble_eq_true rfl)) d_M_performMiddle_81 ⟨by decide, by decide⟩) hS hA hD (fun u t H locs ht hB hFr hS => ?_)
            obtain ⟨y1z10, x3_0z10, x4_0z10, hP, hD⟩ := hB
            rw [ht] at hP
            have hD := dwk hD hFr
            clear ht hFr
            have hP : va_P D classes (wS51 cI cJ cZ cB p0 p1 p2 p3 p4 x0_4 x0_5 x0_6 x0_7 x0_8 x0_9 x0_10 x0_11 x0_12 x0_13 y1z10 y2 x3_0z10 x4_0z10) H := hP
            have hD : va_D A (wS51 cI cJ cZ cB p0 p1 p2 p3 p4 x0_4 x0_5 x0_6 x0_7 x0_8 x0_9 x0_10 x0_11 x0_12 x0_13 y1z10 y2 x3_0z10 x4_0z10) := hD
            refine lv_goto (tgt := 109) hx hb d_M_performMiddle_84 (by decide) ?_
            exact W.vret hx hb hr (fun t ht hW => ⟨⟨(), rfl, trivial, ⟨x0_4, x0_7, y1z10, y2, x3_0z10, x4_0z10, by show va_P D classes _ t.heap; rw [ht]; exact hP, hD⟩⟩, hS.F ht⟩) hS.2.2 d_M_performMiddle_109
          · by_cases c12 : x0_9 = (38 : Int32)
            · refine lv_tableIn (off := 90) (tgt := 94) hx hb d_M_performMiddle_4 (by rw [c12]; decide) (by rw [c12]; decide) (by rw [c12]; rfl) (by decide) ?_
              refine lv_aload_n hx hb d_M_performMiddle_94 rfl (lv_at hl 0 rfl) ?_
              refine lv_iconst (v := 1) hx hb d_M_performMiddle_95 (by decide) ?_
              refine kn_v (va_runV (C := "SignMachine$Machine") (As := [.int (bI true)]) (rest := []) ⟨hx, hb, hml, hown, hk⟩ (c_M_goIf_s1 l K D cI cJ cZ cB p0 p1 p2 p3 p4 s.heap.size x0_4 x0_5 x0_6 x0_7 x0_8 x0_9 x0_10 x0_11 x0_12 x0_13 y1 y2 x3_0 x4_0  true ) (v_M_goIf_s1 hk k_448 ⟨Nat.le_of_ble_eq_true rfl, Nat.le_of_ble_eq_true rfl⟩) (pMC_v hK hP hD hC hS hA (ci := 1) (q0 := 0) rfl rfl rfl) rfl rfl hl.1 rfl (lv_room (Nat.le_of_ble_eq_true rfl)) d_M_performMiddle_96 ⟨by decide, by decide⟩) hS hA hD (fun u t H locs ht hB hFr hS => ?_)
              obtain ⟨x0_7z13, y2z13, hP, hD⟩ := hB
              rw [ht] at hP
              have hD := dwk hD hFr
              clear ht hFr
              have hP : va_P D classes (wS51 cI cJ cZ cB p0 p1 p2 p3 p4 x0_4 x0_5 x0_6 x0_7z13 x0_8 x0_9 x0_10 x0_11 x0_12 x0_13 y1 y2z13 x3_0 x4_0) H := hP
              have hD : va_D A (wS51 cI cJ cZ cB p0 p1 p2 p3 p4 x0_4 x0_5 x0_6 x0_7z13 x0_8 x0_9 x0_10 x0_11 x0_12 x0_13 y1 y2z13 x3_0 x4_0) := hD
              refine lv_goto (tgt := 109) hx hb d_M_performMiddle_99 (by decide) ?_
              exact W.vret hx hb hr (fun t ht hW => ⟨⟨(), rfl, trivial, ⟨x0_4, x0_7z13, y1, y2z13, x3_0, x4_0, by show va_P D classes _ t.heap; rw [ht]; exact hP, hD⟩⟩, hS.F ht⟩) hS.2.2 d_M_performMiddle_109
            · by_cases c14 : x0_9 = (39 : Int32)
              · refine lv_tableIn (off := 98) (tgt := 102) hx hb d_M_performMiddle_4 (by rw [c14]; decide) (by rw [c14]; decide) (by rw [c14]; rfl) (by decide) ?_
                refine lv_aload_n hx hb d_M_performMiddle_102 rfl (lv_at hl 0 rfl) ?_
                refine kn_v (va_runV (C := "SignMachine$Machine") (As := []) (rest := []) ⟨hx, hb, hml, hown, hk⟩ (c_M_goByState_s1 l K D cI cJ cZ cB p0 p1 p2 p3 p4 s.heap.size x0_4 x0_5 x0_6 x0_7 x0_8 x0_9 x0_10 x0_11 x0_12 x0_13 y1 y2 x3_0 x4_0   ) (v_M_goByState_s1 hk k_452 ⟨Nat.le_of_ble_eq_true rfl, Nat.le_of_ble_eq_true rfl⟩) (pMC_v hK hP hD hC hS hA (ci := 1) (q0 := 0) rfl rfl rfl) rfl rfl hl.1 rfl (lv_room (Nat.le_of_ble_eq_true rfl)) d_M_performMiddle_103 ⟨by decide, by decide⟩) hS hA hD (fun u t H locs ht hB hFr hS => ?_)
                obtain ⟨x0_4z15, x0_7z15, y2z15, hP, hD⟩ := hB
                rw [ht] at hP
                have hD := dwk hD hFr
                clear ht hFr
                have hP : va_P D classes (wS51 cI cJ cZ cB p0 p1 p2 p3 p4 x0_4z15 x0_5 x0_6 x0_7z15 x0_8 x0_9 x0_10 x0_11 x0_12 x0_13 y1 y2z15 x3_0 x4_0) H := hP
                have hD : va_D A (wS51 cI cJ cZ cB p0 p1 p2 p3 p4 x0_4z15 x0_5 x0_6 x0_7z15 x0_8 x0_9 x0_10 x0_11 x0_12 x0_13 y1 y2z15 x3_0 x4_0) := hD
                refine lv_goto (tgt := 109) hx hb d_M_performMiddle_106 (by decide) ?_
                exact W.vret hx hb hr (fun t ht hW => ⟨⟨(), rfl, trivial, ⟨x0_4z15, x0_7z15, y1, y2z15, x3_0, x4_0, by show va_P D classes _ t.heap; rw [ht]; exact hP, hD⟩⟩, hS.F ht⟩) hS.2.2 d_M_performMiddle_109
              · refine lv_tableOut (tgt := 109) hx hb d_M_performMiddle_4 (by have e0 := lv_neT c1 (a := 32) rfl; have e1 := lv_neT c4 (a := 33) rfl; have e2 := lv_neT c6 (a := 34) rfl; have e3 := lv_neT c7 (a := 35) rfl; have e4 := lv_neT c9 (a := 36) rfl; have e5 := lv_neT hy1 (a := 37) rfl; have e6 := lv_neT c12 (a := 38) rfl; have e7 := lv_neT c14 (a := 39) rfl; omega) (by decide) ?_
                exact W.vret hx hb hr (fun t ht hW => ⟨⟨(), rfl, trivial, ⟨x0_4, x0_7, y1, y2, x3_0, x4_0, by show va_P D classes _ t.heap; rw [ht]; exact hP, hD⟩⟩, hS.F ht⟩) hS.2.2 d_M_performMiddle_109
theorem v_M_performMiddle_s3 {R : Room} {s : State} {args : Array Value} {own : String} {index : Nat} (hk : ∀ w ∈ tb, w.before args s = true) (hl : Cond.methodLink own index y_M_performMiddle ∈ tb) (hR : 3 + 1 ≤ R.frames ∧ 8 + (1 + 11) + 69 ≤ R.locals) : CallW R s args own "SignMachine$Machine" index y_M_performMiddle b_M_performMiddle 1 none (.code y_M_performMiddle b_M_performMiddle 1 none :: tb) ({ frames := 3, cells := 0, slots := 0, locals := 69 }) 0 0 0 := mk_v 0 hk k_424 hl k_423 k_24 k_117 rfl rfl h_M_performMiddle hR
set_option maxHeartbeats 4000000 in
set_option maxRecDepth 100000 in
theorem c_M_registerIs_s1 (l : Launch) (K : CK) (D : va_G) (cI cJ cZ cB : ClassId) (p0 p1 p2 p3 p4 : Nat) (sz : Nat) (x0_4 : Bool) (x0_5 : Int32) (x0_6 : Int32) (x0_7 : Int32) (x0_8 : Int32) (x0_9 : Int32) (x0_10 : Int32) (x0_11 : Int32) (x0_12 : Int32) (x0_13 : Int32) (y1 : Nat → Int32) (y2 : Nat → Int32) (x3_0 : Int32) (x4_0 : Int32)  (a1 : Int32) : Met l y_M_registerIs (.code y_M_registerIs b_M_registerIs 2 (some .boolean) :: tb) ({ frames := 0, cells := 0, slots := 0, locals := 0 }) (pMC K D cI cJ cZ cB (wS51 cI cJ cZ cB p0 p1 p2 p3 p4 x0_4 x0_5 x0_6 x0_7 x0_8 x0_9 x0_10 x0_11 x0_12 x0_13 y1 y2 x3_0 x4_0) sz [.ref p0, .int a1]) (va_Qi (fun r (_ : Unit) => ∃ z : Bool, r = bI z) (fun _ t => (va_P D classes (wS51 cI cJ cZ cB p0 p1 p2 p3 p4 x0_4 x0_5 x0_6 x0_7 x0_8 x0_9 x0_10 x0_11 x0_12 x0_13 y1 y2 x3_0 x4_0) t.heap ∧ va_D (va_A (wS51 cI cJ cZ cB p0 p1 p2 p3 p4 x0_4 x0_5 x0_6 x0_7 x0_8 x0_9 x0_10 x0_11 x0_12 x0_13 y1 y2 x3_0 x4_0) sz) (wS51 cI cJ cZ cB p0 p1 p2 p3 p4 x0_4 x0_5 x0_6 x0_7 x0_8 x0_9 x0_10 x0_11 x0_12 x0_13 y1 y2 x3_0 x4_0))) (va_A (wS51 cI cJ cZ cB p0 p1 p2 p3 p4 x0_4 x0_5 x0_6 x0_7 x0_8 x0_9 x0_10 x0_11 x0_12 x0_13 y1 y2 x3_0 x4_0) sz)) 0 0 (va_A (wS51 cI cJ cZ cB p0 p1 p2 p3 p4 x0_4 x0_5 x0_6 x0_7 x0_8 x0_9 x0_10 x0_11 x0_12 x0_13 y1 y2 x3_0 x4_0) sz) := by
  refine Met.ofW (cc := b_M_registerIs) (maxL := 2) (ret := (some .boolean)) (by decide) rfl ?_
  intro p e s m args below meth c s₁ B hml hv
  obtain ⟨rfl, hsz, hK, hP, hD0, hC⟩ := hv
  subst hsz
  have hD := hD0.self (sz := s.heap.size)
  generalize hAe : va_A (wS51 cI cJ cZ cB p0 p1 p2 p3 p4 x0_4 x0_5 x0_6 x0_7 x0_8 x0_9 x0_10 x0_11 x0_12 x0_13 y1 y2 x3_0 x4_0) s.heap.size = A at hD hC ⊢
  have hA : ∀ q : Nat, s.heap.size ≤ q → A q := fun q h => by rw [← hAe]; exact Or.inr h
  clear hAe hD0
  have hS : va_S A s.heap s.heap [] := va_S.rf
  have hx := B.exec
  have hb := B.bytes
  have hr := B.returns
  have hts := atoms_spec (ws := .code y_M_registerIs b_M_registerIs 2 (some .boolean) :: tb) B.pre
  have hk : ∀ w ∈ tb, w.before [.ref p0, .int a1].toArray s = true := fun w h => hts w (List.mem_cons_of_mem _ h)
  have hown : s.vm.findClass "SignMachine$Machine" = some m.cls := findClass_of_methodNamed B.named
  have hlocks := B.notSynchronized
  have hl := lv_entry ([.ref p0, .int a1]) (n := 2) (Nat.le_of_ble_eq_true rfl)
  rw [lg_entry_eq]
  generalize (lg_sl ([.ref p0, .int a1]) ++ List.replicate (2 - (lg_sl ([.ref p0, .int a1])).length) Slot.unset).toArray = ls at hl ⊢
  have hl : lv_has ls 2 [(0, .ref p0), (1, .int a1)] := hl
  refine lv_aload_n hx hb d_M_registerIs_0 rfl (lv_at hl 0 rfl) ?_
  refine va_get (D := D) (ci := 1) (v := .int x0_10) (C := "SignMachine$Machine") (T := F_M) (N := 14) hx hb hk fi_M hown hK.1 hP 0 rfl rfl 10 (by decide) (hk _ k_177) (fun _ h9 => h9) rfl d_M_registerIs_1 ?_
  by_cases c1 : x0_10 = (0 : Int32)
  · refine lv_tableIn (off := 36) (tgt := 40) hx hb d_M_registerIs_4 (by rw [c1]; decide) (by rw [c1]; decide) (by rw [c1]; rfl) (by decide) ?_
    refine lv_iload_n hx hb d_M_registerIs_40 rfl (lv_at hl 1 rfl) ?_
    refine lv_if_ge (tgt := 48) hx hb d_M_registerIs_41 (by decide) (fun c2 => ?_) (fun c2 => ?_)
    · refine lv_iconst (v := 0) hx hb d_M_registerIs_48 (by decide) ?_
      exact W.zret (v := (0 : Int32)) hx hb hr rfl (fun t ht hW => ⟨⟨(0 : Int32), (), rfl, ⟨false, rfl⟩, ⟨by show va_P D classes _ t.heap; rw [ht]; exact hP, hD⟩⟩, hS.F ht⟩) hS.2.2 d_M_registerIs_49
    · refine lv_iconst (v := 1) hx hb d_M_registerIs_44 (by decide) ?_
      refine lv_goto (tgt := 49) hx hb d_M_registerIs_45 (by decide) ?_
      exact W.zret (v := (1 : Int32)) hx hb hr rfl (fun t ht hW => ⟨⟨(1 : Int32), (), rfl, ⟨true, rfl⟩, ⟨by show va_P D classes _ t.heap; rw [ht]; exact hP, hD⟩⟩, hS.F ht⟩) hS.2.2 d_M_registerIs_49
  · by_cases c3 : x0_10 = (1 : Int32)
    · refine lv_tableIn (off := 46) (tgt := 50) hx hb d_M_registerIs_4 (by rw [c3]; decide) (by rw [c3]; decide) (by rw [c3]; rfl) (by decide) ?_
      refine lv_iload_n hx hb d_M_registerIs_50 rfl (lv_at hl 1 rfl) ?_
      refine lv_if_ne (tgt := 58) hx hb d_M_registerIs_51 (by decide) (fun c4 => ?_) (fun c4 => ?_)
      · refine lv_iconst (v := 0) hx hb d_M_registerIs_58 (by decide) ?_
        exact W.zret (v := (0 : Int32)) hx hb hr rfl (fun t ht hW => ⟨⟨(0 : Int32), (), rfl, ⟨false, rfl⟩, ⟨by show va_P D classes _ t.heap; rw [ht]; exact hP, hD⟩⟩, hS.F ht⟩) hS.2.2 d_M_registerIs_59
      · refine lv_iconst (v := 1) hx hb d_M_registerIs_54 (by decide) ?_
        refine lv_goto (tgt := 59) hx hb d_M_registerIs_55 (by decide) ?_
        exact W.zret (v := (1 : Int32)) hx hb hr rfl (fun t ht hW => ⟨⟨(1 : Int32), (), rfl, ⟨true, rfl⟩, ⟨by show va_P D classes _ t.heap; rw [ht]; exact hP, hD⟩⟩, hS.F ht⟩) hS.2.2 d_M_registerIs_59
    · by_cases c5 : x0_10 = (2 : Int32)
      · refine lv_tableIn (off := 56) (tgt := 60) hx hb d_M_registerIs_4 (by rw [c5]; decide) (by rw [c5]; decide) (by rw [c5]; rfl) (by decide) ?_
        refine lv_iload_n hx hb d_M_registerIs_60 rfl (lv_at hl 1 rfl) ?_
        refine lv_if_le (tgt := 68) hx hb d_M_registerIs_61 (by decide) (fun c6 => ?_) (fun c6 => ?_)
        · refine lv_iconst (v := 0) hx hb d_M_registerIs_68 (by decide) ?_
          exact W.zret (v := (0 : Int32)) hx hb hr rfl (fun t ht hW => ⟨⟨(0 : Int32), (), rfl, ⟨false, rfl⟩, ⟨by show va_P D classes _ t.heap; rw [ht]; exact hP, hD⟩⟩, hS.F ht⟩) hS.2.2 d_M_registerIs_69
        · refine lv_iconst (v := 1) hx hb d_M_registerIs_64 (by decide) ?_
          refine lv_goto (tgt := 69) hx hb d_M_registerIs_65 (by decide) ?_
          exact W.zret (v := (1 : Int32)) hx hb hr rfl (fun t ht hW => ⟨⟨(1 : Int32), (), rfl, ⟨true, rfl⟩, ⟨by show va_P D classes _ t.heap; rw [ht]; exact hP, hD⟩⟩, hS.F ht⟩) hS.2.2 d_M_registerIs_69
      · by_cases c7 : x0_10 = (3 : Int32)
        · refine lv_tableIn (off := 66) (tgt := 70) hx hb d_M_registerIs_4 (by rw [c7]; decide) (by rw [c7]; decide) (by rw [c7]; rfl) (by decide) ?_
          refine lv_iload_n hx hb d_M_registerIs_70 rfl (lv_at hl 1 rfl) ?_
          refine lv_if_lt (tgt := 78) hx hb d_M_registerIs_71 (by decide) (fun c8 => ?_) (fun c8 => ?_)
          · refine lv_iconst (v := 0) hx hb d_M_registerIs_78 (by decide) ?_
            exact W.zret (v := (0 : Int32)) hx hb hr rfl (fun t ht hW => ⟨⟨(0 : Int32), (), rfl, ⟨false, rfl⟩, ⟨by show va_P D classes _ t.heap; rw [ht]; exact hP, hD⟩⟩, hS.F ht⟩) hS.2.2 d_M_registerIs_79
          · refine lv_iconst (v := 1) hx hb d_M_registerIs_74 (by decide) ?_
            refine lv_goto (tgt := 79) hx hb d_M_registerIs_75 (by decide) ?_
            exact W.zret (v := (1 : Int32)) hx hb hr rfl (fun t ht hW => ⟨⟨(1 : Int32), (), rfl, ⟨true, rfl⟩, ⟨by show va_P D classes _ t.heap; rw [ht]; exact hP, hD⟩⟩, hS.F ht⟩) hS.2.2 d_M_registerIs_79
        · by_cases c9 : x0_10 = (4 : Int32)
          · refine lv_tableIn (off := 76) (tgt := 80) hx hb d_M_registerIs_4 (by rw [c9]; decide) (by rw [c9]; decide) (by rw [c9]; rfl) (by decide) ?_
            refine lv_iload_n hx hb d_M_registerIs_80 rfl (lv_at hl 1 rfl) ?_
            refine lv_if_eq (tgt := 88) hx hb d_M_registerIs_81 (by decide) (fun c10 => ?_) (fun c10 => ?_)
            · refine lv_iconst (v := 0) hx hb d_M_registerIs_88 (by decide) ?_
              exact W.zret (v := (0 : Int32)) hx hb hr rfl (fun t ht hW => ⟨⟨(0 : Int32), (), rfl, ⟨false, rfl⟩, ⟨by show va_P D classes _ t.heap; rw [ht]; exact hP, hD⟩⟩, hS.F ht⟩) hS.2.2 d_M_registerIs_89
            · refine lv_iconst (v := 1) hx hb d_M_registerIs_84 (by decide) ?_
              refine lv_goto (tgt := 89) hx hb d_M_registerIs_85 (by decide) ?_
              exact W.zret (v := (1 : Int32)) hx hb hr rfl (fun t ht hW => ⟨⟨(1 : Int32), (), rfl, ⟨true, rfl⟩, ⟨by show va_P D classes _ t.heap; rw [ht]; exact hP, hD⟩⟩, hS.F ht⟩) hS.2.2 d_M_registerIs_89
          · refine lv_tableOut (tgt := 90) hx hb d_M_registerIs_4 (by have e0 := lv_neT c1 (a := 0) rfl; have e1 := lv_neT c3 (a := 1) rfl; have e2 := lv_neT c5 (a := 2) rfl; have e3 := lv_neT c7 (a := 3) rfl; have e4 := lv_neT c9 (a := 4) rfl; omega) (by decide) ?_
            refine lv_iload_n hx hb d_M_registerIs_90 rfl (lv_at hl 1 rfl) ?_
            refine lv_if_gt (tgt := 98) hx hb d_M_registerIs_91 (by decide) (fun c11 => ?_) (fun c11 => ?_)
            · refine lv_iconst (v := 0) hx hb d_M_registerIs_98 (by decide) ?_
              exact W.zret (v := (0 : Int32)) hx hb hr rfl (fun t ht hW => ⟨⟨(0 : Int32), (), rfl, ⟨false, rfl⟩, ⟨by show va_P D classes _ t.heap; rw [ht]; exact hP, hD⟩⟩, hS.F ht⟩) hS.2.2 d_M_registerIs_99
            · refine lv_iconst (v := 1) hx hb d_M_registerIs_94 (by decide) ?_
              refine lv_goto (tgt := 99) hx hb d_M_registerIs_95 (by decide) ?_
              exact W.zret (v := (1 : Int32)) hx hb hr rfl (fun t ht hW => ⟨⟨(1 : Int32), (), rfl, ⟨true, rfl⟩, ⟨by show va_P D classes _ t.heap; rw [ht]; exact hP, hD⟩⟩, hS.F ht⟩) hS.2.2 d_M_registerIs_99
theorem v_M_registerIs_s1 {R : Room} {s : State} {args : Array Value} {own : String} {index : Nat} (hk : ∀ w ∈ tb, w.before args s = true) (hl : Cond.methodLink own index y_M_registerIs ∈ tb) (hR : 0 + 1 ≤ R.frames ∧ 8 + (2 + 11) + 0 ≤ R.locals) : CallW R s args own "SignMachine$Machine" index y_M_registerIs b_M_registerIs 2 (some .boolean) (.code y_M_registerIs b_M_registerIs 2 (some .boolean) :: tb) ({ frames := 0, cells := 0, slots := 0, locals := 0 }) 0 0 1 := mk_v 1 hk k_459 hl k_458 k_30 k_117 rfl rfl h_M_registerIs hR
set_option maxHeartbeats 4000000 in
set_option maxRecDepth 100000 in
theorem c_M_changeByAddress_s1 (l : Launch) (K : CK) (D : va_G) (cI cJ cZ cB : ClassId) (p0 p1 p2 p3 p4 : Nat) (sz : Nat) (x0_4 : Bool) (x0_5 : Int32) (x0_6 : Int32) (x0_7 : Int32) (x0_8 : Int32) (x0_9 : Int32) (x0_10 : Int32) (x0_11 : Int32) (x0_12 : Int32) (x0_13 : Int32) (y1 : Nat → Int32) (y2 : Nat → Int32) (x3_0 : Int32) (x4_0 : Int32)  (a1 : Int32) : Met l y_M_changeByAddress (.code y_M_changeByAddress b_M_changeByAddress 2 none :: tb) ({ frames := 3, cells := 0, slots := 0, locals := 66 }) (pMC K D cI cJ cZ cB (wS51 cI cJ cZ cB p0 p1 p2 p3 p4 x0_4 x0_5 x0_6 x0_7 x0_8 x0_9 x0_10 x0_11 x0_12 x0_13 y1 y2 x3_0 x4_0) sz [.ref p0, .int a1]) (va_Qv (fun (_ : Unit) => True) (fun _ t => (∃ u_x0_4 : Bool, ∃ u_y2 : Nat → Int32, va_P D classes (wS51 cI cJ cZ cB p0 p1 p2 p3 p4 u_x0_4 x0_5 x0_6 x0_7 x0_8 x0_9 x0_10 x0_11 x0_12 x0_13 y1 u_y2 x3_0 x4_0) t.heap ∧ va_D (va_A (wS51 cI cJ cZ cB p0 p1 p2 p3 p4 x0_4 x0_5 x0_6 x0_7 x0_8 x0_9 x0_10 x0_11 x0_12 x0_13 y1 y2 x3_0 x4_0) sz) (wS51 cI cJ cZ cB p0 p1 p2 p3 p4 u_x0_4 x0_5 x0_6 x0_7 x0_8 x0_9 x0_10 x0_11 x0_12 x0_13 y1 u_y2 x3_0 x4_0))) (va_A (wS51 cI cJ cZ cB p0 p1 p2 p3 p4 x0_4 x0_5 x0_6 x0_7 x0_8 x0_9 x0_10 x0_11 x0_12 x0_13 y1 y2 x3_0 x4_0) sz)) 0 0 (va_A (wS51 cI cJ cZ cB p0 p1 p2 p3 p4 x0_4 x0_5 x0_6 x0_7 x0_8 x0_9 x0_10 x0_11 x0_12 x0_13 y1 y2 x3_0 x4_0) sz) := by
  refine Met.ofW (cc := b_M_changeByAddress) (maxL := 2) (ret := none) (by decide) rfl ?_
  intro p e s m args below meth c s₁ B hml hv
  obtain ⟨rfl, hsz, hK, hP, hD0, hC⟩ := hv
  subst hsz
  have hD := hD0.self (sz := s.heap.size)
  generalize hAe : va_A (wS51 cI cJ cZ cB p0 p1 p2 p3 p4 x0_4 x0_5 x0_6 x0_7 x0_8 x0_9 x0_10 x0_11 x0_12 x0_13 y1 y2 x3_0 x4_0) s.heap.size = A at hD hC ⊢
  have hA : ∀ q : Nat, s.heap.size ≤ q → A q := fun q h => by rw [← hAe]; exact Or.inr h
  clear hAe hD0
  have hS : va_S A s.heap s.heap [] := va_S.rf
  have hx := B.exec
  have hb := B.bytes
  have hr := B.returns
  have hts := atoms_spec (ws := .code y_M_changeByAddress b_M_changeByAddress 2 none :: tb) B.pre
  have hk : ∀ w ∈ tb, w.before [.ref p0, .int a1].toArray s = true := fun w h => hts w (List.mem_cons_of_mem _ h)
  have hown : s.vm.findClass "SignMachine$Machine" = some m.cls := findClass_of_methodNamed B.named
  have hlocks := B.notSynchronized
  have hl := lv_entry ([.ref p0, .int a1]) (n := 2) (Nat.le_of_ble_eq_true rfl)
  rw [lg_entry_eq]
  generalize (lg_sl ([.ref p0, .int a1]) ++ List.replicate (2 - (lg_sl ([.ref p0, .int a1])).length) Slot.unset).toArray = ls at hl ⊢
  have hl : lv_has ls 2 [(0, .ref p0), (1, .int a1)] := hl
  refine lv_aload_n hx hb d_M_changeByAddress_0 rfl (lv_at hl 0 rfl) ?_
  refine va_get (D := D) (ci := 1) (v := .int x0_10) (C := "SignMachine$Machine") (T := F_M) (N := 14) hx hb hk fi_M hown hK.1 hP 0 rfl rfl 10 (by decide) (hk _ k_177) (fun _ h9 => h9) rfl d_M_changeByAddress_1 ?_
  by_cases c1 : x0_10 = (0 : Int32)
  · refine lv_tableIn (off := 28) (tgt := 32) hx hb d_M_changeByAddress_4 (by rw [c1]; decide) (by rw [c1]; decide) (by rw [c1]; rfl) (by decide) ?_
    refine lv_aload_n hx hb d_M_changeByAddress_32 rfl (lv_at hl 0 rfl) ?_
    refine lv_iload_n hx hb d_M_changeByAddress_33 rfl (lv_at hl 1 rfl) ?_
    refine lv_aload_n hx hb d_M_changeByAddress_34 rfl (lv_at hl 0 rfl) ?_
    refine va_get (D := D) (ci := 1) (v := .int x0_12) (C := "SignMachine$Machine") (T := F_M) (N := 14) hx hb hk fi_M hown hK.1 hP 0 rfl rfl 12 (by decide) (hk _ k_179) (fun _ h9 => h9) rfl d_M_changeByAddress_35 ?_
    refine kn_v (va_runV (C := "SignMachine$Machine") (As := [.int a1, .int x0_12]) (rest := []) ⟨hx, hb, hml, hown, hk⟩ (c_M_addTo_s1 l K D cI cJ cZ cB p0 p1 p2 p3 p4 s.heap.size x0_4 x0_5 x0_6 x0_7 x0_8 x0_9 x0_10 x0_11 x0_12 x0_13 y1 y2 x3_0 x4_0  a1 x0_12 ) (v_M_addTo_s1 hk k_354 ⟨Nat.le_of_ble_eq_true rfl, Nat.le_of_ble_eq_true rfl⟩) (pMC_v hK hP hD hC hS hA (ci := 1) (q0 := 0) rfl rfl rfl) rfl rfl hl.1 rfl (lv_room (Nat.le_of_ble_eq_true rfl)) d_M_changeByAddress_38 ⟨by decide, by decide⟩) hS hA hD (fun u t H locs ht hB hFr hS => ?_)
    obtain ⟨x0_4z2, y2z2, hP, hD⟩ := hB
    rw [ht] at hP
    have hD := dwk hD hFr
    clear ht hFr
    have hP : va_P D classes (wS51 cI cJ cZ cB p0 p1 p2 p3 p4 x0_4z2 x0_5 x0_6 x0_7 x0_8 x0_9 x0_10 x0_11 x0_12 x0_13 y1 y2z2 x3_0 x4_0) H := hP
    have hD : va_D A (wS51 cI cJ cZ cB p0 p1 p2 p3 p4 x0_4z2 x0_5 x0_6 x0_7 x0_8 x0_9 x0_10 x0_11 x0_12 x0_13 y1 y2z2 x3_0 x4_0) := hD
    refine lv_goto (tgt := 95) hx hb d_M_changeByAddress_41 (by decide) ?_
    exact W.vret hx hb hr (fun t ht hW => ⟨⟨(), rfl, trivial, ⟨x0_4z2, y2z2, by show va_P D classes _ t.heap; rw [ht]; exact hP, hD⟩⟩, hS.F ht⟩) hS.2.2 d_M_changeByAddress_95
  · by_cases c3 : x0_10 = (1 : Int32)
    · refine lv_tableIn (off := 40) (tgt := 44) hx hb d_M_changeByAddress_4 (by rw [c3]; decide) (by rw [c3]; decide) (by rw [c3]; rfl) (by decide) ?_
      refine lv_aload_n hx hb d_M_changeByAddress_44 rfl (lv_at hl 0 rfl) ?_
      refine lv_iload_n hx hb d_M_changeByAddress_45 rfl (lv_at hl 1 rfl) ?_
      refine lv_aload_n hx hb d_M_changeByAddress_46 rfl (lv_at hl 0 rfl) ?_
      refine va_get (D := D) (ci := 1) (v := .int x0_12) (C := "SignMachine$Machine") (T := F_M) (N := 14) hx hb hk fi_M hown hK.1 hP 0 rfl rfl 12 (by decide) (hk _ k_179) (fun _ h9 => h9) rfl d_M_changeByAddress_47 ?_
      refine lv_ineg hx hb d_M_changeByAddress_50 ?_
      refine lv_topi (fun v4 hv4 => ?_)
      refine kn_v (va_runV (C := "SignMachine$Machine") (As := [.int a1, .int v4]) (rest := []) ⟨hx, hb, hml, hown, hk⟩ (c_M_addTo_s1 l K D cI cJ cZ cB p0 p1 p2 p3 p4 s.heap.size x0_4 x0_5 x0_6 x0_7 x0_8 x0_9 x0_10 x0_11 x0_12 x0_13 y1 y2 x3_0 x4_0  a1 v4 ) (v_M_addTo_s1 hk k_354 ⟨Nat.le_of_ble_eq_true rfl, Nat.le_of_ble_eq_true rfl⟩) (pMC_v hK hP hD hC hS hA (ci := 1) (q0 := 0) rfl rfl rfl) rfl rfl hl.1 rfl (lv_room (Nat.le_of_ble_eq_true rfl)) d_M_changeByAddress_51 ⟨by decide, by decide⟩) hS hA hD (fun u t H locs ht hB hFr hS => ?_)
      obtain ⟨x0_4z5, y2z5, hP, hD⟩ := hB
      rw [ht] at hP
      have hD := dwk hD hFr
      clear ht hFr
      have hP : va_P D classes (wS51 cI cJ cZ cB p0 p1 p2 p3 p4 x0_4z5 x0_5 x0_6 x0_7 x0_8 x0_9 x0_10 x0_11 x0_12 x0_13 y1 y2z5 x3_0 x4_0) H := hP
      have hD : va_D A (wS51 cI cJ cZ cB p0 p1 p2 p3 p4 x0_4z5 x0_5 x0_6 x0_7 x0_8 x0_9 x0_10 x0_11 x0_12 x0_13 y1 y2z5 x3_0 x4_0) := hD
      refine lv_goto (tgt := 95) hx hb d_M_changeByAddress_54 (by decide) ?_
      exact W.vret hx hb hr (fun t ht hW => ⟨⟨(), rfl, trivial, ⟨x0_4z5, y2z5, by show va_P D classes _ t.heap; rw [ht]; exact hP, hD⟩⟩, hS.F ht⟩) hS.2.2 d_M_changeByAddress_95
    · by_cases c6 : x0_10 = (2 : Int32)
      · refine lv_tableIn (off := 53) (tgt := 57) hx hb d_M_changeByAddress_4 (by rw [c6]; decide) (by rw [c6]; decide) (by rw [c6]; rfl) (by decide) ?_
        refine lv_aload_n hx hb d_M_changeByAddress_57 rfl (lv_at hl 0 rfl) ?_
        refine lv_iload_n hx hb d_M_changeByAddress_58 rfl (lv_at hl 1 rfl) ?_
        refine lv_aload_n hx hb d_M_changeByAddress_59 rfl (lv_at hl 0 rfl) ?_
        refine va_get (D := D) (ci := 1) (v := .int x0_12) (C := "SignMachine$Machine") (T := F_M) (N := 14) hx hb hk fi_M hown hK.1 hP 0 rfl rfl 12 (by decide) (hk _ k_179) (fun _ h9 => h9) rfl d_M_changeByAddress_60 ?_
        refine lv_aload_n hx hb d_M_changeByAddress_63 rfl (lv_at hl 0 rfl) ?_
        refine va_get (D := D) (ci := 1) (v := .int x0_13) (C := "SignMachine$Machine") (T := F_M) (N := 14) hx hb hk fi_M hown hK.1 hP 0 rfl rfl 13 (by decide) (hk _ k_180) (fun _ h9 => h9) rfl d_M_changeByAddress_64 ?_
        refine cs_i (W.runS (As := [.int x0_12, .int x0_13]) (rest := [.int a1, .ref p0]) ⟨hx, hb, hml, hown, hk⟩ (c_W_of l x0_12 x0_13) (s_W_of hk k_359 ⟨Nat.le_of_ble_eq_true rfl, Nat.le_of_ble_eq_true rfl⟩) ⟨fun a U g mk q => q, fun U hU hW => ⟨rfl, trivial⟩⟩ rfl rfl hl.1 rfl (lv_room (Nat.le_of_ble_eq_true rfl)) d_M_changeByAddress_67 ⟨Nat.le_of_ble_eq_true rfl, Nat.le_of_ble_eq_true rfl⟩) ?_
        refine lv_topi (fun v7 hv7 => ?_)
        refine kn_v (va_runV (C := "SignMachine$Machine") (As := [.int a1, .int v7]) (rest := []) ⟨hx, hb, hml, hown, hk⟩ (c_M_putRegister_s1 l K D cI cJ cZ cB p0 p1 p2 p3 p4 s.heap.size x0_4 x0_5 x0_6 x0_7 x0_8 x0_9 x0_10 x0_11 x0_12 x0_13 y1 y2 x3_0 x4_0  a1 v7 ) (v_M_putRegister_s1 hk k_362 ⟨Nat.le_of_ble_eq_true rfl, Nat.le_of_ble_eq_true rfl⟩) (pMC_v hK hP hD hC hS hA (ci := 1) (q0 := 0) rfl rfl rfl) rfl rfl hl.1 rfl (lv_room (Nat.le_of_ble_eq_true rfl)) d_M_changeByAddress_70 ⟨by decide, by decide⟩) hS hA hD (fun u t H locs ht hB hFr hS => ?_)
        obtain ⟨y2z8, hP, hD⟩ := hB
        rw [ht] at hP
        have hD := dwk hD hFr
        clear ht hFr
        have hP : va_P D classes (wS51 cI cJ cZ cB p0 p1 p2 p3 p4 x0_4 x0_5 x0_6 x0_7 x0_8 x0_9 x0_10 x0_11 x0_12 x0_13 y1 y2z8 x3_0 x4_0) H := hP
        have hD : va_D A (wS51 cI cJ cZ cB p0 p1 p2 p3 p4 x0_4 x0_5 x0_6 x0_7 x0_8 x0_9 x0_10 x0_11 x0_12 x0_13 y1 y2z8 x3_0 x4_0) := hD
        refine lv_goto (tgt := 95) hx hb d_M_changeByAddress_73 (by decide) ?_
        exact W.vret hx hb hr (fun t ht hW => ⟨⟨(), rfl, trivial, ⟨x0_4, y2z8, by show va_P D classes _ t.heap; rw [ht]; exact hP, hD⟩⟩, hS.F ht⟩) hS.2.2 d_M_changeByAddress_95
      · refine lv_tableOut (tgt := 76) hx hb d_M_changeByAddress_4 (by have e0 := lv_neT c1 (a := 0) rfl; have e1 := lv_neT c3 (a := 1) rfl; have e2 := lv_neT c6 (a := 2) rfl; omega) (by decide) ?_
        refine lv_aload_n hx hb d_M_changeByAddress_76 rfl (lv_at hl 0 rfl) ?_
        refine lv_iload_n hx hb d_M_changeByAddress_77 rfl (lv_at hl 1 rfl) ?_
        refine lv_aload_n hx hb d_M_changeByAddress_78 rfl (lv_at hl 0 rfl) ?_
        refine va_get (D := D) (ci := 1) (v := .int x0_12) (C := "SignMachine$Machine") (T := F_M) (N := 14) hx hb hk fi_M hown hK.1 hP 0 rfl rfl 12 (by decide) (hk _ k_179) (fun _ h9 => h9) rfl d_M_changeByAddress_79 ?_
        refine lv_aload_n hx hb d_M_changeByAddress_82 rfl (lv_at hl 0 rfl) ?_
        refine va_get (D := D) (ci := 1) (v := .int x0_13) (C := "SignMachine$Machine") (T := F_M) (N := 14) hx hb hk fi_M hown hK.1 hP 0 rfl rfl 13 (by decide) (hk _ k_180) (fun _ h9 => h9) rfl d_M_changeByAddress_83 ?_
        refine cs_i (W.runS (As := [.int x0_12, .int x0_13]) (rest := [.int a1, .ref p0]) ⟨hx, hb, hml, hown, hk⟩ (c_W_of l x0_12 x0_13) (s_W_of hk k_359 ⟨Nat.le_of_ble_eq_true rfl, Nat.le_of_ble_eq_true rfl⟩) ⟨fun a U g mk q => q, fun U hU hW => ⟨rfl, trivial⟩⟩ rfl rfl hl.1 rfl (lv_room (Nat.le_of_ble_eq_true rfl)) d_M_changeByAddress_86 ⟨Nat.le_of_ble_eq_true rfl, Nat.le_of_ble_eq_true rfl⟩) ?_
        refine lv_topi (fun v9 hv9 => ?_)
        refine cs_i (W.runS (As := [.int v9]) (rest := [.int a1, .ref p0]) ⟨hx, hb, hml, hown, hk⟩ (c_W_opposite l v9) (s_W_opposite hk k_411 ⟨Nat.le_of_ble_eq_true rfl, Nat.le_of_ble_eq_true rfl⟩) ⟨fun a U g mk q => q, fun U hU hW => ⟨rfl, trivial⟩⟩ rfl rfl hl.1 rfl (lv_room (Nat.le_of_ble_eq_true rfl)) d_M_changeByAddress_89 ⟨Nat.le_of_ble_eq_true rfl, Nat.le_of_ble_eq_true rfl⟩) ?_
        refine lv_topi (fun v10 hv10 => ?_)
        refine kn_v (va_runV (C := "SignMachine$Machine") (As := [.int a1, .int v10]) (rest := []) ⟨hx, hb, hml, hown, hk⟩ (c_M_putRegister_s1 l K D cI cJ cZ cB p0 p1 p2 p3 p4 s.heap.size x0_4 x0_5 x0_6 x0_7 x0_8 x0_9 x0_10 x0_11 x0_12 x0_13 y1 y2 x3_0 x4_0  a1 v10 ) (v_M_putRegister_s1 hk k_362 ⟨Nat.le_of_ble_eq_true rfl, Nat.le_of_ble_eq_true rfl⟩) (pMC_v hK hP hD hC hS hA (ci := 1) (q0 := 0) rfl rfl rfl) rfl rfl hl.1 rfl (lv_room (Nat.le_of_ble_eq_true rfl)) d_M_changeByAddress_92 ⟨by decide, by decide⟩) hS hA hD (fun u t H locs ht hB hFr hS => ?_)
        obtain ⟨y2z11, hP, hD⟩ := hB
        rw [ht] at hP
        have hD := dwk hD hFr
        clear ht hFr
        have hP : va_P D classes (wS51 cI cJ cZ cB p0 p1 p2 p3 p4 x0_4 x0_5 x0_6 x0_7 x0_8 x0_9 x0_10 x0_11 x0_12 x0_13 y1 y2z11 x3_0 x4_0) H := hP
        have hD : va_D A (wS51 cI cJ cZ cB p0 p1 p2 p3 p4 x0_4 x0_5 x0_6 x0_7 x0_8 x0_9 x0_10 x0_11 x0_12 x0_13 y1 y2z11 x3_0 x4_0) := hD
        exact W.vret hx hb hr (fun t ht hW => ⟨⟨(), rfl, trivial, ⟨x0_4, y2z11, by show va_P D classes _ t.heap; rw [ht]; exact hP, hD⟩⟩, hS.F ht⟩) hS.2.2 d_M_changeByAddress_95
theorem v_M_changeByAddress_s1 {R : Room} {s : State} {args : Array Value} {own : String} {index : Nat} (hk : ∀ w ∈ tb, w.before args s = true) (hl : Cond.methodLink own index y_M_changeByAddress ∈ tb) (hR : 3 + 1 ≤ R.frames ∧ 8 + (2 + 11) + 66 ≤ R.locals) : CallW R s args own "SignMachine$Machine" index y_M_changeByAddress b_M_changeByAddress 2 none (.code y_M_changeByAddress b_M_changeByAddress 2 none :: tb) ({ frames := 3, cells := 0, slots := 0, locals := 66 }) 0 0 1 := mk_v 1 hk k_463 hl k_462 k_31 k_117 rfl rfl h_M_changeByAddress hR
set_option maxHeartbeats 4000000 in
set_option maxRecDepth 100000 in
theorem c_M_compareField_s1 (l : Launch) (K : CK) (D : va_G) (cI cJ cZ cB : ClassId) (p0 p1 p2 p3 p4 : Nat) (sz : Nat) (x0_4 : Bool) (x0_5 : Int32) (x0_6 : Int32) (x0_7 : Int32) (x0_8 : Int32) (x0_9 : Int32) (x0_10 : Int32) (x0_11 : Int32) (x0_12 : Int32) (x0_13 : Int32) (y1 : Nat → Int32) (y2 : Nat → Int32) (x3_0 : Int32) (x4_0 : Int32)  (a1 : Int32) : Met l y_M_compareField (.code y_M_compareField b_M_compareField 2 none :: tb) ({ frames := 3, cells := 0, slots := 0, locals := 65 }) (pMC K D cI cJ cZ cB (wS51 cI cJ cZ cB p0 p1 p2 p3 p4 x0_4 x0_5 x0_6 x0_7 x0_8 x0_9 x0_10 x0_11 x0_12 x0_13 y1 y2 x3_0 x4_0) sz [.ref p0, .int a1]) (va_Qv (fun (_ : Unit) => True) (fun _ t => (∃ u_x0_5 : Int32, va_P D classes (wS51 cI cJ cZ cB p0 p1 p2 p3 p4 x0_4 u_x0_5 x0_6 x0_7 x0_8 x0_9 x0_10 x0_11 x0_12 x0_13 y1 y2 x3_0 x4_0) t.heap ∧ va_D (va_A (wS51 cI cJ cZ cB p0 p1 p2 p3 p4 x0_4 x0_5 x0_6 x0_7 x0_8 x0_9 x0_10 x0_11 x0_12 x0_13 y1 y2 x3_0 x4_0) sz) (wS51 cI cJ cZ cB p0 p1 p2 p3 p4 x0_4 u_x0_5 x0_6 x0_7 x0_8 x0_9 x0_10 x0_11 x0_12 x0_13 y1 y2 x3_0 x4_0))) (va_A (wS51 cI cJ cZ cB p0 p1 p2 p3 p4 x0_4 x0_5 x0_6 x0_7 x0_8 x0_9 x0_10 x0_11 x0_12 x0_13 y1 y2 x3_0 x4_0) sz)) 0 0 (va_A (wS51 cI cJ cZ cB p0 p1 p2 p3 p4 x0_4 x0_5 x0_6 x0_7 x0_8 x0_9 x0_10 x0_11 x0_12 x0_13 y1 y2 x3_0 x4_0) sz) := by
  refine Met.ofW (cc := b_M_compareField) (maxL := 2) (ret := none) (by decide) rfl ?_
  intro p e s m args below meth c s₁ B hml hv
  obtain ⟨rfl, hsz, hK, hP, hD0, hC⟩ := hv
  subst hsz
  have hD := hD0.self (sz := s.heap.size)
  generalize hAe : va_A (wS51 cI cJ cZ cB p0 p1 p2 p3 p4 x0_4 x0_5 x0_6 x0_7 x0_8 x0_9 x0_10 x0_11 x0_12 x0_13 y1 y2 x3_0 x4_0) s.heap.size = A at hD hC ⊢
  have hA : ∀ q : Nat, s.heap.size ≤ q → A q := fun q h => by rw [← hAe]; exact Or.inr h
  clear hAe hD0
  have hS : va_S A s.heap s.heap [] := va_S.rf
  have hx := B.exec
  have hb := B.bytes
  have hr := B.returns
  have hts := atoms_spec (ws := .code y_M_compareField b_M_compareField 2 none :: tb) B.pre
  have hk : ∀ w ∈ tb, w.before [.ref p0, .int a1].toArray s = true := fun w h => hts w (List.mem_cons_of_mem _ h)
  have hown : s.vm.findClass "SignMachine$Machine" = some m.cls := findClass_of_methodNamed B.named
  have hlocks := B.notSynchronized
  have hl := lv_entry ([.ref p0, .int a1]) (n := 2) (Nat.le_of_ble_eq_true rfl)
  rw [lg_entry_eq]
  generalize (lg_sl ([.ref p0, .int a1]) ++ List.replicate (2 - (lg_sl ([.ref p0, .int a1])).length) Slot.unset).toArray = ls at hl ⊢
  have hl : lv_has ls 2 [(0, .ref p0), (1, .int a1)] := hl
  refine lv_aload_n hx hb d_M_compareField_0 rfl (lv_at hl 0 rfl) ?_
  refine lv_iload_n hx hb d_M_compareField_1 rfl (lv_at hl 1 rfl) ?_
  refine lv_aload_n hx hb d_M_compareField_2 rfl (lv_at hl 0 rfl) ?_
  refine va_get (D := D) (ci := 1) (v := .int x0_10) (C := "SignMachine$Machine") (T := F_M) (N := 14) hx hb hk fi_M hown hK.1 hP 0 rfl rfl 10 (by decide) (hk _ k_177) (fun _ h9 => h9) rfl d_M_compareField_3 ?_
  refine cs_i (W.runS (As := [.int a1, .int x0_10]) (rest := [.ref p0]) ⟨hx, hb, hml, hown, hk⟩ (c_W_field l a1 x0_10) (s_W_field hk k_314 ⟨Nat.le_of_ble_eq_true rfl, Nat.le_of_ble_eq_true rfl⟩) ⟨fun a U g mk q => q, fun U hU hW => ⟨rfl, trivial⟩⟩ rfl rfl hl.1 rfl (lv_room (Nat.le_of_ble_eq_true rfl)) d_M_compareField_6 ⟨Nat.le_of_ble_eq_true rfl, Nat.le_of_ble_eq_true rfl⟩) ?_
  refine lv_topi (fun v1 hv1 => ?_)
  refine cs_i (W.runS (As := [.int v1]) (rest := [.ref p0]) ⟨hx, hb, hml, hown, hk⟩ (c_W_number l v1) (s_W_number hk k_277 ⟨Nat.le_of_ble_eq_true rfl, Nat.le_of_ble_eq_true rfl⟩) ⟨fun a U g mk q => q, fun U hU hW => ⟨rfl, trivial⟩⟩ rfl rfl hl.1 rfl (lv_room (Nat.le_of_ble_eq_true rfl)) d_M_compareField_9 ⟨Nat.le_of_ble_eq_true rfl, Nat.le_of_ble_eq_true rfl⟩) ?_
  refine lv_topi (fun v2 hv2 => ?_)
  refine lv_aload_n hx hb d_M_compareField_12 rfl (lv_at hl 0 rfl) ?_
  refine sn_i (va_runV (C := "SignMachine$Machine") (As := []) (rest := [.int v2, .ref p0]) ⟨hx, hb, hml, hown, hk⟩ (c_M_value_s1 l K D cI cJ cZ cB p0 p1 p2 p3 p4 s.heap.size x0_4 x0_5 x0_6 x0_7 x0_8 x0_9 x0_10 x0_11 x0_12 x0_13 y1 y2 x3_0 x4_0   ) (v_M_value_s1 hk k_310 ⟨Nat.le_of_ble_eq_true rfl, Nat.le_of_ble_eq_true rfl⟩) (pMC_v hK hP hD hC hS hA (ci := 1) (q0 := 0) rfl rfl rfl) rfl rfl hl.1 rfl (lv_room (Nat.le_of_ble_eq_true rfl)) d_M_compareField_13 ⟨by decide, by decide⟩) hS hA hD (fun rz3 u t H locs hr0 ht hB hFr hS => ?_)
  obtain ⟨hP, hD⟩ := hB
  rw [ht] at hP
  have hD := dwk hD hFr
  clear ht hFr
  have hP : va_P D classes (wS51 cI cJ cZ cB p0 p1 p2 p3 p4 x0_4 x0_5 x0_6 x0_7 x0_8 x0_9 x0_10 x0_11 x0_12 x0_13 y1 y2 x3_0 x4_0) H := hP
  have hD : va_D A (wS51 cI cJ cZ cB p0 p1 p2 p3 p4 x0_4 x0_5 x0_6 x0_7 x0_8 x0_9 x0_10 x0_11 x0_12 x0_13 y1 y2 x3_0 x4_0) := hD
  refine cs_i (W.runS (As := [.int rz3]) (rest := [.int v2, .ref p0]) ⟨hx, hb, hml, hown, hk⟩ (c_W_number l rz3) (s_W_number hk k_277 ⟨Nat.le_of_ble_eq_true rfl, Nat.le_of_ble_eq_true rfl⟩) ⟨fun a U g mk q => q, fun U hU hW => ⟨rfl, trivial⟩⟩ rfl rfl hl.1 rfl (lv_room (Nat.le_of_ble_eq_true rfl)) d_M_compareField_16 ⟨Nat.le_of_ble_eq_true rfl, Nat.le_of_ble_eq_true rfl⟩) ?_
  refine lv_topi (fun v4 hv4 => ?_)
  refine cs_i (W.runS (As := [.int v2, .int v4]) (rest := [.ref p0]) ⟨hx, hb, hml, hown, hk⟩ (c_I_compare l v2 v4) (s_I_compare hk k_468 ⟨Nat.le_of_ble_eq_true rfl, Nat.le_of_ble_eq_true rfl⟩) ⟨fun a U g mk q => q, fun U hU hW => ⟨rfl, trivial⟩⟩ rfl rfl hl.1 rfl (lv_room (Nat.le_of_ble_eq_true rfl)) d_M_compareField_19 ⟨Nat.le_of_ble_eq_true rfl, Nat.le_of_ble_eq_true rfl⟩) ?_
  refine lv_topi (fun v5 hv5 => ?_)
  refine va_put (D := D) (ci := 1) (v := .int v5) (ty := .int) (C := "SignMachine$Machine") (T := F_M) (N := 14) hx hb hk fi_M ft_M ft_M_ok fn_M hown hK.1 hP hD hS 0 rfl rfl 5 (by decide) (hk _ k_170) (fun _ h9 => h9) rfl (by decide +kernel) rfl rfl (Nat.le_of_ble_eq_true rfl) d_M_compareField_22 (fun H locs hP hD hS => ?_)
  have hP : va_P D classes (wS51 cI cJ cZ cB p0 p1 p2 p3 p4 x0_4 v5 x0_6 x0_7 x0_8 x0_9 x0_10 x0_11 x0_12 x0_13 y1 y2 x3_0 x4_0) H := hP
  have hD : va_D A (wS51 cI cJ cZ cB p0 p1 p2 p3 p4 x0_4 v5 x0_6 x0_7 x0_8 x0_9 x0_10 x0_11 x0_12 x0_13 y1 y2 x3_0 x4_0) := hD
  exact W.vret hx hb hr (fun t ht hW => ⟨⟨(), rfl, trivial, ⟨v5, by show va_P D classes _ t.heap; rw [ht]; exact hP, hD⟩⟩, hS.F ht⟩) hS.2.2 d_M_compareField_25
theorem v_M_compareField_s1 {R : Room} {s : State} {args : Array Value} {own : String} {index : Nat} (hk : ∀ w ∈ tb, w.before args s = true) (hl : Cond.methodLink own index y_M_compareField ∈ tb) (hR : 3 + 1 ≤ R.frames ∧ 8 + (2 + 11) + 65 ≤ R.locals) : CallW R s args own "SignMachine$Machine" index y_M_compareField b_M_compareField 2 none (.code y_M_compareField b_M_compareField 2 none :: tb) ({ frames := 3, cells := 0, slots := 0, locals := 65 }) 0 0 1 := mk_v 1 hk k_467 hl k_466 k_32 k_117 rfl rfl h_M_compareField hR
set_option maxHeartbeats 4000000 in
set_option maxRecDepth 100000 in
theorem c_M_perform_s3 (l : Launch) (K : CK) (D : va_G) (cI cJ cZ cB : ClassId) (p0 p1 p2 p3 p4 : Nat) (sz : Nat) (x0_4 : Bool) (x0_5 : Int32) (x0_6 : Int32) (x0_7 : Int32) (x0_8 : Int32) (x0_9 : Int32) (x0_10 : Int32) (x0_11 : Int32) (x0_12 : Int32) (x0_13 : Int32) (y1 : Nat → Int32) (y2 : Nat → Int32) (x3_0 : Int32) (x4_0 : Int32)   (hy1 : ¬ x0_9 = (37 : Int32)) : Met l y_M_perform (.code y_M_perform b_M_perform 1 none :: tb) ({ frames := 5, cells := 0, slots := 0, locals := 110 }) (pMC K D cI cJ cZ cB (wS51 cI cJ cZ cB p0 p1 p2 p3 p4 x0_4 x0_5 x0_6 x0_7 x0_8 x0_9 x0_10 x0_11 x0_12 x0_13 y1 y2 x3_0 x4_0) sz [.ref p0]) (va_Qv (fun (_ : Unit) => True) (fun _ t => (∃ u_x0_4 : Bool, ∃ u_x0_5 : Int32, ∃ u_x0_7 : Int32, ∃ u_y1 : Nat → Int32, ∃ u_y2 : Nat → Int32, ∃ u_x3_0 : Int32, ∃ u_x4_0 : Int32, va_P D classes (wS51 cI cJ cZ cB p0 p1 p2 p3 p4 u_x0_4 u_x0_5 x0_6 u_x0_7 x0_8 x0_9 x0_10 x0_11 x0_12 x0_13 u_y1 u_y2 u_x3_0 u_x4_0) t.heap ∧ va_D (va_A (wS51 cI cJ cZ cB p0 p1 p2 p3 p4 x0_4 x0_5 x0_6 x0_7 x0_8 x0_9 x0_10 x0_11 x0_12 x0_13 y1 y2 x3_0 x4_0) sz) (wS51 cI cJ cZ cB p0 p1 p2 p3 p4 u_x0_4 u_x0_5 x0_6 u_x0_7 x0_8 x0_9 x0_10 x0_11 x0_12 x0_13 u_y1 u_y2 u_x3_0 u_x4_0))) (va_A (wS51 cI cJ cZ cB p0 p1 p2 p3 p4 x0_4 x0_5 x0_6 x0_7 x0_8 x0_9 x0_10 x0_11 x0_12 x0_13 y1 y2 x3_0 x4_0) sz)) 0 0 (va_A (wS51 cI cJ cZ cB p0 p1 p2 p3 p4 x0_4 x0_5 x0_6 x0_7 x0_8 x0_9 x0_10 x0_11 x0_12 x0_13 y1 y2 x3_0 x4_0) sz) := by
  refine Met.ofW (cc := b_M_perform) (maxL := 1) (ret := none) (by decide) rfl ?_
  intro p e s m args below meth c s₁ B hml hv
  obtain ⟨rfl, hsz, hK, hP, hD0, hC⟩ := hv
  subst hsz
  have hD := hD0.self (sz := s.heap.size)
  generalize hAe : va_A (wS51 cI cJ cZ cB p0 p1 p2 p3 p4 x0_4 x0_5 x0_6 x0_7 x0_8 x0_9 x0_10 x0_11 x0_12 x0_13 y1 y2 x3_0 x4_0) s.heap.size = A at hD hC ⊢
  have hA : ∀ q : Nat, s.heap.size ≤ q → A q := fun q h => by rw [← hAe]; exact Or.inr h
  clear hAe hD0
  have hS : va_S A s.heap s.heap [] := va_S.rf
  have hx := B.exec
  have hb := B.bytes
  have hr := B.returns
  have hts := atoms_spec (ws := .code y_M_perform b_M_perform 1 none :: tb) B.pre
  have hk : ∀ w ∈ tb, w.before [.ref p0].toArray s = true := fun w h => hts w (List.mem_cons_of_mem _ h)
  have hown : s.vm.findClass "SignMachine$Machine" = some m.cls := findClass_of_methodNamed B.named
  have hlocks := B.notSynchronized
  have hl := lv_entry ([.ref p0]) (n := 1) (Nat.le_of_ble_eq_true rfl)
  rw [lg_entry_eq]
  generalize (lg_sl ([.ref p0]) ++ List.replicate (1 - (lg_sl ([.ref p0])).length) Slot.unset).toArray = ls at hl ⊢
  have hl : lv_has ls 1 [(0, .ref p0)] := hl
  refine lv_aload_n hx hb d_M_perform_0 rfl (lv_at hl 0 rfl) ?_
  refine va_get (D := D) (ci := 1) (v := .int x0_9) (C := "SignMachine$Machine") (T := F_M) (N := 14) hx hb hk fi_M hown hK.1 hP 0 rfl rfl 9 (by decide) (hk _ k_176) (fun _ h9 => h9) rfl d_M_perform_1 ?_
  refine lv_iconst (v := 3) hx hb d_M_perform_4 (by decide) ?_
  refine lv_ishr hx hb d_M_perform_5 ?_
  refine lv_topi (fun v1 hv1 => ?_)
  by_cases c2 : v1 = (0 : Int32)
  · refine lv_tableIn (off := 42) (tgt := 48) hx hb d_M_perform_6 (by rw [c2]; decide) (by rw [c2]; decide) (by rw [c2]; rfl) (by decide) ?_
    refine lv_aload_n hx hb d_M_perform_48 rfl (lv_at hl 0 rfl) ?_
    refine kn_v (va_runV (C := "SignMachine$Machine") (As := []) (rest := []) ⟨hx, hb, hml, hown, hk⟩ (c_M_performLow_s1 l K D cI cJ cZ cB p0 p1 p2 p3 p4 s.heap.size x0_4 x0_5 x0_6 x0_7 x0_8 x0_9 x0_10 x0_11 x0_12 x0_13 y1 y2 x3_0 x4_0   ) (v_M_performLow_s1 hk k_350 ⟨Nat.le_of_ble_eq_true rfl, Nat.le_of_ble_eq_true rfl⟩) (pMC_v hK hP hD hC hS hA (ci := 1) (q0 := 0) rfl rfl rfl) rfl rfl hl.1 rfl (lv_room (Nat.le_of_ble_eq_true rfl)) d_M_perform_49 ⟨by decide, by decide⟩) hS hA hD (fun u t H locs ht hB hFr hS => ?_)
    obtain ⟨x0_4z3, y1z3, y2z3, hP, hD⟩ := hB
    rw [ht] at hP
    have hD := dwk hD hFr
    clear ht hFr
    have hP : va_P D classes (wS51 cI cJ cZ cB p0 p1 p2 p3 p4 x0_4z3 x0_5 x0_6 x0_7 x0_8 x0_9 x0_10 x0_11 x0_12 x0_13 y1z3 y2z3 x3_0 x4_0) H := hP
    have hD : va_D A (wS51 cI cJ cZ cB p0 p1 p2 p3 p4 x0_4z3 x0_5 x0_6 x0_7 x0_8 x0_9 x0_10 x0_11 x0_12 x0_13 y1z3 y2z3 x3_0 x4_0) := hD
    refine lv_goto (tgt := 173) hx hb d_M_perform_52 (by decide) ?_
    exact W.vret hx hb hr (fun t ht hW => ⟨⟨(), rfl, trivial, ⟨x0_4z3, x0_5, x0_7, y1z3, y2z3, x3_0, x4_0, by show va_P D classes _ t.heap; rw [ht]; exact hP, hD⟩⟩, hS.F ht⟩) hS.2.2 d_M_perform_173
  · by_cases c4 : v1 = (1 : Int32)
    · refine lv_tableIn (off := 49) (tgt := 55) hx hb d_M_perform_6 (by rw [c4]; decide) (by rw [c4]; decide) (by rw [c4]; rfl) (by decide) ?_
      refine lv_aload_n hx hb d_M_perform_55 rfl (lv_at hl 0 rfl) ?_
      refine lv_aload_n hx hb d_M_perform_56 rfl (lv_at hl 0 rfl) ?_
      refine va_get (D := D) (ci := 1) (v := .int x0_9) (C := "SignMachine$Machine") (T := F_M) (N := 14) hx hb hk fi_M hown hK.1 hP 0 rfl rfl 9 (by decide) (hk _ k_176) (fun _ h9 => h9) rfl d_M_perform_57 ?_
      refine lv_bipush (v := 7) hx hb d_M_perform_60 (by decide) ?_
      refine lv_iand hx hb d_M_perform_62 ?_
      refine lv_topi (fun v5 hv5 => ?_)
      refine lv_aload_n hx hb d_M_perform_63 rfl (lv_at hl 0 rfl) ?_
      refine sn_i (va_runV (C := "SignMachine$Machine") (As := []) (rest := [.int v5, .ref p0]) ⟨hx, hb, hml, hown, hk⟩ (c_M_value_s1 l K D cI cJ cZ cB p0 p1 p2 p3 p4 s.heap.size x0_4 x0_5 x0_6 x0_7 x0_8 x0_9 x0_10 x0_11 x0_12 x0_13 y1 y2 x3_0 x4_0   ) (v_M_value_s1 hk k_310 ⟨Nat.le_of_ble_eq_true rfl, Nat.le_of_ble_eq_true rfl⟩) (pMC_v hK hP hD hC hS hA (ci := 1) (q0 := 0) rfl rfl rfl) rfl rfl hl.1 rfl (lv_room (Nat.le_of_ble_eq_true rfl)) d_M_perform_64 ⟨by decide, by decide⟩) hS hA hD (fun rz6 u t H locs hr0 ht hB hFr hS => ?_)
      obtain ⟨hP, hD⟩ := hB
      rw [ht] at hP
      have hD := dwk hD hFr
      clear ht hFr
      have hP : va_P D classes (wS51 cI cJ cZ cB p0 p1 p2 p3 p4 x0_4 x0_5 x0_6 x0_7 x0_8 x0_9 x0_10 x0_11 x0_12 x0_13 y1 y2 x3_0 x4_0) H := hP
      have hD : va_D A (wS51 cI cJ cZ cB p0 p1 p2 p3 p4 x0_4 x0_5 x0_6 x0_7 x0_8 x0_9 x0_10 x0_11 x0_12 x0_13 y1 y2 x3_0 x4_0) := hD
      refine kn_v (va_runV (C := "SignMachine$Machine") (As := [.int v5, .int rz6]) (rest := []) ⟨hx, hb, hml, hown, hk⟩ (c_M_putRegister_s1 l K D cI cJ cZ cB p0 p1 p2 p3 p4 H.size x0_4 x0_5 x0_6 x0_7 x0_8 x0_9 x0_10 x0_11 x0_12 x0_13 y1 y2 x3_0 x4_0  v5 rz6 ) (v_M_putRegister_s1 hk k_362 ⟨Nat.le_of_ble_eq_true rfl, Nat.le_of_ble_eq_true rfl⟩) (pMC_v hK hP hD hC hS hA (ci := 1) (q0 := 0) rfl rfl rfl) rfl rfl hl.1 rfl (lv_room (Nat.le_of_ble_eq_true rfl)) d_M_perform_67 ⟨by decide, by decide⟩) hS hA hD (fun u t H locs ht hB hFr hS => ?_)
      obtain ⟨y2z7, hP, hD⟩ := hB
      rw [ht] at hP
      have hD := dwk hD hFr
      clear ht hFr
      have hP : va_P D classes (wS51 cI cJ cZ cB p0 p1 p2 p3 p4 x0_4 x0_5 x0_6 x0_7 x0_8 x0_9 x0_10 x0_11 x0_12 x0_13 y1 y2z7 x3_0 x4_0) H := hP
      have hD : va_D A (wS51 cI cJ cZ cB p0 p1 p2 p3 p4 x0_4 x0_5 x0_6 x0_7 x0_8 x0_9 x0_10 x0_11 x0_12 x0_13 y1 y2z7 x3_0 x4_0) := hD
      refine lv_goto (tgt := 173) hx hb d_M_perform_70 (by decide) ?_
      exact W.vret hx hb hr (fun t ht hW => ⟨⟨(), rfl, trivial, ⟨x0_4, x0_5, x0_7, y1, y2z7, x3_0, x4_0, by show va_P D classes _ t.heap; rw [ht]; exact hP, hD⟩⟩, hS.F ht⟩) hS.2.2 d_M_perform_173
    · by_cases c8 : v1 = (2 : Int32)
      · refine lv_tableIn (off := 67) (tgt := 73) hx hb d_M_perform_6 (by rw [c8]; decide) (by rw [c8]; decide) (by rw [c8]; rfl) (by decide) ?_
        refine lv_aload_n hx hb d_M_perform_73 rfl (lv_at hl 0 rfl) ?_
        refine lv_aload_n hx hb d_M_perform_74 rfl (lv_at hl 0 rfl) ?_
        refine va_get (D := D) (ci := 1) (v := .int x0_9) (C := "SignMachine$Machine") (T := F_M) (N := 14) hx hb hk fi_M hown hK.1 hP 0 rfl rfl 9 (by decide) (hk _ k_176) (fun _ h9 => h9) rfl d_M_perform_75 ?_
        refine lv_bipush (v := 7) hx hb d_M_perform_78 (by decide) ?_
        refine lv_iand hx hb d_M_perform_80 ?_
        refine lv_topi (fun v9 hv9 => ?_)
        refine lv_aload_n hx hb d_M_perform_81 rfl (lv_at hl 0 rfl) ?_
        refine sn_i (va_runV (C := "SignMachine$Machine") (As := []) (rest := [.int v9, .ref p0]) ⟨hx, hb, hml, hown, hk⟩ (c_M_value_s1 l K D cI cJ cZ cB p0 p1 p2 p3 p4 s.heap.size x0_4 x0_5 x0_6 x0_7 x0_8 x0_9 x0_10 x0_11 x0_12 x0_13 y1 y2 x3_0 x4_0   ) (v_M_value_s1 hk k_310 ⟨Nat.le_of_ble_eq_true rfl, Nat.le_of_ble_eq_true rfl⟩) (pMC_v hK hP hD hC hS hA (ci := 1) (q0 := 0) rfl rfl rfl) rfl rfl hl.1 rfl (lv_room (Nat.le_of_ble_eq_true rfl)) d_M_perform_82 ⟨by decide, by decide⟩) hS hA hD (fun rz10 u t H locs hr0 ht hB hFr hS => ?_)
        obtain ⟨hP, hD⟩ := hB
        rw [ht] at hP
        have hD := dwk hD hFr
        clear ht hFr
        have hP : va_P D classes (wS51 cI cJ cZ cB p0 p1 p2 p3 p4 x0_4 x0_5 x0_6 x0_7 x0_8 x0_9 x0_10 x0_11 x0_12 x0_13 y1 y2 x3_0 x4_0) H := hP
        have hD : va_D A (wS51 cI cJ cZ cB p0 p1 p2 p3 p4 x0_4 x0_5 x0_6 x0_7 x0_8 x0_9 x0_10 x0_11 x0_12 x0_13 y1 y2 x3_0 x4_0) := hD
        refine cs_i (W.runS (As := [.int rz10]) (rest := [.int v9, .ref p0]) ⟨hx, hb, hml, hown, hk⟩ (c_W_opposite l rz10) (s_W_opposite hk k_411 ⟨Nat.le_of_ble_eq_true rfl, Nat.le_of_ble_eq_true rfl⟩) ⟨fun a U g mk q => q, fun U hU hW => ⟨rfl, trivial⟩⟩ rfl rfl hl.1 rfl (lv_room (Nat.le_of_ble_eq_true rfl)) d_M_perform_85 ⟨Nat.le_of_ble_eq_true rfl, Nat.le_of_ble_eq_true rfl⟩) ?_
        refine lv_topi (fun v11 hv11 => ?_)
        refine kn_v (va_runV (C := "SignMachine$Machine") (As := [.int v9, .int v11]) (rest := []) ⟨hx, hb, hml, hown, hk⟩ (c_M_putRegister_s1 l K D cI cJ cZ cB p0 p1 p2 p3 p4 H.size x0_4 x0_5 x0_6 x0_7 x0_8 x0_9 x0_10 x0_11 x0_12 x0_13 y1 y2 x3_0 x4_0  v9 v11 ) (v_M_putRegister_s1 hk k_362 ⟨Nat.le_of_ble_eq_true rfl, Nat.le_of_ble_eq_true rfl⟩) (pMC_v hK hP hD hC hS hA (ci := 1) (q0 := 0) rfl rfl rfl) rfl rfl hl.1 rfl (lv_room (Nat.le_of_ble_eq_true rfl)) d_M_perform_88 ⟨by decide, by decide⟩) hS hA hD (fun u t H locs ht hB hFr hS => ?_)
        obtain ⟨y2z12, hP, hD⟩ := hB
        rw [ht] at hP
        have hD := dwk hD hFr
        clear ht hFr
        have hP : va_P D classes (wS51 cI cJ cZ cB p0 p1 p2 p3 p4 x0_4 x0_5 x0_6 x0_7 x0_8 x0_9 x0_10 x0_11 x0_12 x0_13 y1 y2z12 x3_0 x4_0) H := hP
        have hD : va_D A (wS51 cI cJ cZ cB p0 p1 p2 p3 p4 x0_4 x0_5 x0_6 x0_7 x0_8 x0_9 x0_10 x0_11 x0_12 x0_13 y1 y2z12 x3_0 x4_0) := hD
        refine lv_goto (tgt := 173) hx hb d_M_perform_91 (by decide) ?_
        exact W.vret hx hb hr (fun t ht hW => ⟨⟨(), rfl, trivial, ⟨x0_4, x0_5, x0_7, y1, y2z12, x3_0, x4_0, by show va_P D classes _ t.heap; rw [ht]; exact hP, hD⟩⟩, hS.F ht⟩) hS.2.2 d_M_perform_173
      · by_cases c13 : v1 = (3 : Int32)
        · refine lv_tableIn (off := 88) (tgt := 94) hx hb d_M_perform_6 (by rw [c13]; decide) (by rw [c13]; decide) (by rw [c13]; rfl) (by decide) ?_
          refine lv_aload_n hx hb d_M_perform_94 rfl (lv_at hl 0 rfl) ?_
          refine lv_aload_n hx hb d_M_perform_95 rfl (lv_at hl 0 rfl) ?_
          refine lv_aload_n hx hb d_M_perform_96 rfl (lv_at hl 0 rfl) ?_
          refine va_get (D := D) (ci := 1) (v := .int x0_9) (C := "SignMachine$Machine") (T := F_M) (N := 14) hx hb hk fi_M hown hK.1 hP 0 rfl rfl 9 (by decide) (hk _ k_176) (fun _ h9 => h9) rfl d_M_perform_97 ?_
          refine lv_bipush (v := 7) hx hb d_M_perform_100 (by decide) ?_
          refine lv_iand hx hb d_M_perform_102 ?_
          refine lv_topi (fun v14 hv14 => ?_)
          refine sn_i (va_runV (C := "SignMachine$Machine") (As := [.int v14]) (rest := [.ref p0]) ⟨hx, hb, hml, hown, hk⟩ (c_M_register_s1 l K D cI cJ cZ cB p0 p1 p2 p3 p4 s.heap.size x0_4 x0_5 x0_6 x0_7 x0_8 x0_9 x0_10 x0_11 x0_12 x0_13 y1 y2 x3_0 x4_0  v14 ) (v_M_register_s1 hk k_273 ⟨Nat.le_of_ble_eq_true rfl, Nat.le_of_ble_eq_true rfl⟩) (pMC_v hK hP hD hC hS hA (ci := 1) (q0 := 0) rfl rfl rfl) rfl rfl hl.1 rfl (lv_room (Nat.le_of_ble_eq_true rfl)) d_M_perform_103 ⟨by decide, by decide⟩) hS hA hD (fun rz15 u t H locs hr0 ht hB hFr hS => ?_)
          obtain ⟨hP, hD⟩ := hB
          rw [ht] at hP
          have hD := dwk hD hFr
          clear ht hFr
          have hP : va_P D classes (wS51 cI cJ cZ cB p0 p1 p2 p3 p4 x0_4 x0_5 x0_6 x0_7 x0_8 x0_9 x0_10 x0_11 x0_12 x0_13 y1 y2 x3_0 x4_0) H := hP
          have hD : va_D A (wS51 cI cJ cZ cB p0 p1 p2 p3 p4 x0_4 x0_5 x0_6 x0_7 x0_8 x0_9 x0_10 x0_11 x0_12 x0_13 y1 y2 x3_0 x4_0) := hD
          refine kn_v (va_runV (C := "SignMachine$Machine") (As := [.int rz15]) (rest := []) ⟨hx, hb, hml, hown, hk⟩ (c_M_storeWord_s1 l K D cI cJ cZ cB p0 p1 p2 p3 p4 H.size x0_4 x0_5 x0_6 x0_7 x0_8 x0_9 x0_10 x0_11 x0_12 x0_13 y1 y2 x3_0 x4_0  rz15 ) (v_M_storeWord_s1 hk k_414 ⟨Nat.le_of_ble_eq_true rfl, Nat.le_of_ble_eq_true rfl⟩) (pMC_v hK hP hD hC hS hA (ci := 1) (q0 := 0) rfl rfl rfl) rfl rfl hl.1 rfl (lv_room (Nat.le_of_ble_eq_true rfl)) d_M_perform_106 ⟨by decide, by decide⟩) hS hA hD (fun u t H locs ht hB hFr hS => ?_)
          obtain ⟨y1z16, hP, hD⟩ := hB
          rw [ht] at hP
          have hD := dwk hD hFr
          clear ht hFr
          have hP : va_P D classes (wS51 cI cJ cZ cB p0 p1 p2 p3 p4 x0_4 x0_5 x0_6 x0_7 x0_8 x0_9 x0_10 x0_11 x0_12 x0_13 y1z16 y2 x3_0 x4_0) H := hP
          have hD : va_D A (wS51 cI cJ cZ cB p0 p1 p2 p3 p4 x0_4 x0_5 x0_6 x0_7 x0_8 x0_9 x0_10 x0_11 x0_12 x0_13 y1z16 y2 x3_0 x4_0) := hD
          refine lv_goto (tgt := 173) hx hb d_M_perform_109 (by decide) ?_
          exact W.vret hx hb hr (fun t ht hW => ⟨⟨(), rfl, trivial, ⟨x0_4, x0_5, x0_7, y1z16, y2, x3_0, x4_0, by show va_P D classes _ t.heap; rw [ht]; exact hP, hD⟩⟩, hS.F ht⟩) hS.2.2 d_M_perform_173
        · by_cases c17 : v1 = (4 : Int32)
          · refine lv_tableIn (off := 106) (tgt := 112) hx hb d_M_perform_6 (by rw [c17]; decide) (by rw [c17]; decide) (by rw [c17]; rfl) (by decide) ?_
            refine lv_aload_n hx hb d_M_perform_112 rfl (lv_at hl 0 rfl) ?_
            refine kn_v (va_runV (C := "SignMachine$Machine") (As := []) (rest := []) ⟨hx, hb, hml, hown, hk⟩ (c_M_performMiddle_s3 l K D cI cJ cZ cB p0 p1 p2 p3 p4 s.heap.size x0_4 x0_5 x0_6 x0_7 x0_8 x0_9 x0_10 x0_11 x0_12 x0_13 y1 y2 x3_0 x4_0   hy1) (v_M_performMiddle_s3 hk k_421 ⟨Nat.le_of_ble_eq_true rfl, Nat.le_of_ble_eq_true rfl⟩) (pMC_v hK hP hD hC hS hA (ci := 1) (q0 := 0) rfl rfl rfl) rfl rfl hl.1 rfl (lv_room (Nat.le_of_ble_eq_true rfl)) d_M_perform_113 ⟨by decide, by decide⟩) hS hA hD (fun u t H locs ht hB hFr hS => ?_)
            obtain ⟨x0_4z18, x0_7z18, y1z18, y2z18, x3_0z18, x4_0z18, hP, hD⟩ := hB
            rw [ht] at hP
            have hD := dwk hD hFr
            clear ht hFr
            have hP : va_P D classes (wS51 cI cJ cZ cB p0 p1 p2 p3 p4 x0_4z18 x0_5 x0_6 x0_7z18 x0_8 x0_9 x0_10 x0_11 x0_12 x0_13 y1z18 y2z18 x3_0z18 x4_0z18) H := hP
            have hD : va_D A (wS51 cI cJ cZ cB p0 p1 p2 p3 p4 x0_4z18 x0_5 x0_6 x0_7z18 x0_8 x0_9 x0_10 x0_11 x0_12 x0_13 y1z18 y2z18 x3_0z18 x4_0z18) := hD
            refine lv_goto (tgt := 173) hx hb d_M_perform_116 (by decide) ?_
            exact W.vret hx hb hr (fun t ht hW => ⟨⟨(), rfl, trivial, ⟨x0_4z18, x0_5, x0_7z18, y1z18, y2z18, x3_0z18, x4_0z18, by show va_P D classes _ t.heap; rw [ht]; exact hP, hD⟩⟩, hS.F ht⟩) hS.2.2 d_M_perform_173
          · by_cases c19 : v1 = (5 : Int32)
            · refine lv_tableIn (off := 113) (tgt := 119) hx hb d_M_perform_6 (by rw [c19]; decide) (by rw [c19]; decide) (by rw [c19]; rfl) (by decide) ?_
              refine lv_aload_n hx hb d_M_perform_119 rfl (lv_at hl 0 rfl) ?_
              refine lv_aload_n hx hb d_M_perform_120 rfl (lv_at hl 0 rfl) ?_
              refine lv_aload_n hx hb d_M_perform_121 rfl (lv_at hl 0 rfl) ?_
              refine lv_aload_n hx hb d_M_perform_122 rfl (lv_at hl 0 rfl) ?_
              refine va_get (D := D) (ci := 1) (v := .int x0_9) (C := "SignMachine$Machine") (T := F_M) (N := 14) hx hb hk fi_M hown hK.1 hP 0 rfl rfl 9 (by decide) (hk _ k_176) (fun _ h9 => h9) rfl d_M_perform_123 ?_
              refine lv_bipush (v := 7) hx hb d_M_perform_126 (by decide) ?_
              refine lv_iand hx hb d_M_perform_128 ?_
              refine lv_topi (fun v20 hv20 => ?_)
              refine sn_i (va_runV (C := "SignMachine$Machine") (As := [.int v20]) (rest := [.ref p0, .ref p0]) ⟨hx, hb, hml, hown, hk⟩ (c_M_register_s1 l K D cI cJ cZ cB p0 p1 p2 p3 p4 s.heap.size x0_4 x0_5 x0_6 x0_7 x0_8 x0_9 x0_10 x0_11 x0_12 x0_13 y1 y2 x3_0 x4_0  v20 ) (v_M_register_s1 hk k_273 ⟨Nat.le_of_ble_eq_true rfl, Nat.le_of_ble_eq_true rfl⟩) (pMC_v hK hP hD hC hS hA (ci := 1) (q0 := 0) rfl rfl rfl) rfl rfl hl.1 rfl (lv_room (Nat.le_of_ble_eq_true rfl)) d_M_perform_129 ⟨by decide, by decide⟩) hS hA hD (fun rz21 u t H locs hr0 ht hB hFr hS => ?_)
              obtain ⟨hP, hD⟩ := hB
              rw [ht] at hP
              have hD := dwk hD hFr
              clear ht hFr
              have hP : va_P D classes (wS51 cI cJ cZ cB p0 p1 p2 p3 p4 x0_4 x0_5 x0_6 x0_7 x0_8 x0_9 x0_10 x0_11 x0_12 x0_13 y1 y2 x3_0 x4_0) H := hP
              have hD : va_D A (wS51 cI cJ cZ cB p0 p1 p2 p3 p4 x0_4 x0_5 x0_6 x0_7 x0_8 x0_9 x0_10 x0_11 x0_12 x0_13 y1 y2 x3_0 x4_0) := hD
              refine cs_i (W.runS (As := [.int rz21]) (rest := [.ref p0, .ref p0]) ⟨hx, hb, hml, hown, hk⟩ (c_W_number l rz21) (s_W_number hk k_277 ⟨Nat.le_of_ble_eq_true rfl, Nat.le_of_ble_eq_true rfl⟩) ⟨fun a U g mk q => q, fun U hU hW => ⟨rfl, trivial⟩⟩ rfl rfl hl.1 rfl (lv_room (Nat.le_of_ble_eq_true rfl)) d_M_perform_132 ⟨Nat.le_of_ble_eq_true rfl, Nat.le_of_ble_eq_true rfl⟩) ?_
              refine lv_topi (fun v22 hv22 => ?_)
              refine sn_i (va_runV (C := "SignMachine$Machine") (As := [.int v22]) (rest := [.ref p0]) ⟨hx, hb, hml, hown, hk⟩ (c_M_registerIs_s1 l K D cI cJ cZ cB p0 p1 p2 p3 p4 H.size x0_4 x0_5 x0_6 x0_7 x0_8 x0_9 x0_10 x0_11 x0_12 x0_13 y1 y2 x3_0 x4_0  v22 ) (v_M_registerIs_s1 hk k_456 ⟨Nat.le_of_ble_eq_true rfl, Nat.le_of_ble_eq_true rfl⟩) (pMC_v hK hP hD hC hS hA (ci := 1) (q0 := 0) rfl rfl rfl) rfl rfl hl.1 rfl (lv_room (Nat.le_of_ble_eq_true rfl)) d_M_perform_135 ⟨by decide, by decide⟩) hS hA hD (fun rz23 u t H locs hr0 ht hB hFr hS => ?_)
              obtain ⟨z23, hz23⟩ := hr0
              subst hz23
              obtain ⟨hP, hD⟩ := hB
              rw [ht] at hP
              have hD := dwk hD hFr
              clear ht hFr
              have hP : va_P D classes (wS51 cI cJ cZ cB p0 p1 p2 p3 p4 x0_4 x0_5 x0_6 x0_7 x0_8 x0_9 x0_10 x0_11 x0_12 x0_13 y1 y2 x3_0 x4_0) H := hP
              have hD : va_D A (wS51 cI cJ cZ cB p0 p1 p2 p3 p4 x0_4 x0_5 x0_6 x0_7 x0_8 x0_9 x0_10 x0_11 x0_12 x0_13 y1 y2 x3_0 x4_0) := hD
              refine kn_v (va_runV (C := "SignMachine$Machine") (As := [.int (bI z23)]) (rest := []) ⟨hx, hb, hml, hown, hk⟩ (c_M_goIf_s1 l K D cI cJ cZ cB p0 p1 p2 p3 p4 H.size x0_4 x0_5 x0_6 x0_7 x0_8 x0_9 x0_10 x0_11 x0_12 x0_13 y1 y2 x3_0 x4_0  z23 ) (v_M_goIf_s1 hk k_448 ⟨Nat.le_of_ble_eq_true rfl, Nat.le_of_ble_eq_true rfl⟩) (pMC_v hK hP hD hC hS hA (ci := 1) (q0 := 0) rfl rfl rfl) rfl rfl hl.1 rfl (lv_room (Nat.le_of_ble_eq_true rfl)) d_M_perform_138 ⟨by decide, by decide⟩) hS hA hD (fun u t H locs ht hB hFr hS => ?_)
              obtain ⟨x0_7z24, y2z24, hP, hD⟩ := hB
              rw [ht] at hP
              have hD := dwk hD hFr
              clear ht hFr
              have hP : va_P D classes (wS51 cI cJ cZ cB p0 p1 p2 p3 p4 x0_4 x0_5 x0_6 x0_7z24 x0_8 x0_9 x0_10 x0_11 x0_12 x0_13 y1 y2z24 x3_0 x4_0) H := hP
              have hD : va_D A (wS51 cI cJ cZ cB p0 p1 p2 p3 p4 x0_4 x0_5 x0_6 x0_7z24 x0_8 x0_9 x0_10 x0_11 x0_12 x0_13 y1 y2z24 x3_0 x4_0) := hD
              refine lv_goto (tgt := 173) hx hb d_M_perform_141 (by decide) ?_
              exact W.vret hx hb hr (fun t ht hW => ⟨⟨(), rfl, trivial, ⟨x0_4, x0_5, x0_7z24, y1, y2z24, x3_0, x4_0, by show va_P D classes _ t.heap; rw [ht]; exact hP, hD⟩⟩, hS.F ht⟩) hS.2.2 d_M_perform_173
            · by_cases c25 : v1 = (6 : Int32)
              · refine lv_tableIn (off := 138) (tgt := 144) hx hb d_M_perform_6 (by rw [c25]; decide) (by rw [c25]; decide) (by rw [c25]; rfl) (by decide) ?_
                refine lv_aload_n hx hb d_M_perform_144 rfl (lv_at hl 0 rfl) ?_
                refine lv_aload_n hx hb d_M_perform_145 rfl (lv_at hl 0 rfl) ?_
                refine va_get (D := D) (ci := 1) (v := .int x0_9) (C := "SignMachine$Machine") (T := F_M) (N := 14) hx hb hk fi_M hown hK.1 hP 0 rfl rfl 9 (by decide) (hk _ k_176) (fun _ h9 => h9) rfl d_M_perform_146 ?_
                refine lv_bipush (v := 7) hx hb d_M_perform_149 (by decide) ?_
                refine lv_iand hx hb d_M_perform_151 ?_
                refine lv_topi (fun v26 hv26 => ?_)
                refine kn_v (va_runV (C := "SignMachine$Machine") (As := [.int v26]) (rest := []) ⟨hx, hb, hml, hown, hk⟩ (c_M_changeByAddress_s1 l K D cI cJ cZ cB p0 p1 p2 p3 p4 s.heap.size x0_4 x0_5 x0_6 x0_7 x0_8 x0_9 x0_10 x0_11 x0_12 x0_13 y1 y2 x3_0 x4_0  v26 ) (v_M_changeByAddress_s1 hk k_460 ⟨Nat.le_of_ble_eq_true rfl, Nat.le_of_ble_eq_true rfl⟩) (pMC_v hK hP hD hC hS hA (ci := 1) (q0 := 0) rfl rfl rfl) rfl rfl hl.1 rfl (lv_room (Nat.le_of_ble_eq_true rfl)) d_M_perform_152 ⟨by decide, by decide⟩) hS hA hD (fun u t H locs ht hB hFr hS => ?_)
                obtain ⟨x0_4z27, y2z27, hP, hD⟩ := hB
                rw [ht] at hP
                have hD := dwk hD hFr
                clear ht hFr
                have hP : va_P D classes (wS51 cI cJ cZ cB p0 p1 p2 p3 p4 x0_4z27 x0_5 x0_6 x0_7 x0_8 x0_9 x0_10 x0_11 x0_12 x0_13 y1 y2z27 x3_0 x4_0) H := hP
                have hD : va_D A (wS51 cI cJ cZ cB p0 p1 p2 p3 p4 x0_4z27 x0_5 x0_6 x0_7 x0_8 x0_9 x0_10 x0_11 x0_12 x0_13 y1 y2z27 x3_0 x4_0) := hD
                refine lv_goto (tgt := 173) hx hb d_M_perform_155 (by decide) ?_
                exact W.vret hx hb hr (fun t ht hW => ⟨⟨(), rfl, trivial, ⟨x0_4z27, x0_5, x0_7, y1, y2z27, x3_0, x4_0, by show va_P D classes _ t.heap; rw [ht]; exact hP, hD⟩⟩, hS.F ht⟩) hS.2.2 d_M_perform_173
              · refine lv_tableOut (tgt := 158) hx hb d_M_perform_6 (by have e0 := lv_neT c2 (a := 0) rfl; have e1 := lv_neT c4 (a := 1) rfl; have e2 := lv_neT c8 (a := 2) rfl; have e3 := lv_neT c13 (a := 3) rfl; have e4 := lv_neT c17 (a := 4) rfl; have e5 := lv_neT c19 (a := 5) rfl; have e6 := lv_neT c25 (a := 6) rfl; omega) (by decide) ?_
                refine lv_aload_n hx hb d_M_perform_158 rfl (lv_at hl 0 rfl) ?_
                refine lv_aload_n hx hb d_M_perform_159 rfl (lv_at hl 0 rfl) ?_
                refine lv_aload_n hx hb d_M_perform_160 rfl (lv_at hl 0 rfl) ?_
                refine va_get (D := D) (ci := 1) (v := .int x0_9) (C := "SignMachine$Machine") (T := F_M) (N := 14) hx hb hk fi_M hown hK.1 hP 0 rfl rfl 9 (by decide) (hk _ k_176) (fun _ h9 => h9) rfl d_M_perform_161 ?_
                refine lv_bipush (v := 7) hx hb d_M_perform_164 (by decide) ?_
                refine lv_iand hx hb d_M_perform_166 ?_
                refine lv_topi (fun v28 hv28 => ?_)
                refine sn_i (va_runV (C := "SignMachine$Machine") (As := [.int v28]) (rest := [.ref p0]) ⟨hx, hb, hml, hown, hk⟩ (c_M_register_s1 l K D cI cJ cZ cB p0 p1 p2 p3 p4 s.heap.size x0_4 x0_5 x0_6 x0_7 x0_8 x0_9 x0_10 x0_11 x0_12 x0_13 y1 y2 x3_0 x4_0  v28 ) (v_M_register_s1 hk k_273 ⟨Nat.le_of_ble_eq_true rfl, Nat.le_of_ble_eq_true rfl⟩) (pMC_v hK hP hD hC hS hA (ci := 1) (q0 := 0) rfl rfl rfl) rfl rfl hl.1 rfl (lv_room (Nat.le_of_ble_eq_true rfl)) d_M_perform_167 ⟨by decide, by decide⟩) hS hA hD (fun rz29 u t H locs hr0 ht hB hFr hS => ?_)
                obtain ⟨hP, hD⟩ := hB
                rw [ht] at hP
                have hD := dwk hD hFr
                clear ht hFr
                have hP : va_P D classes (wS51 cI cJ cZ cB p0 p1 p2 p3 p4 x0_4 x0_5 x0_6 x0_7 x0_8 x0_9 x0_10 x0_11 x0_12 x0_13 y1 y2 x3_0 x4_0) H := hP
                have hD : va_D A (wS51 cI cJ cZ cB p0 p1 p2 p3 p4 x0_4 x0_5 x0_6 x0_7 x0_8 x0_9 x0_10 x0_11 x0_12 x0_13 y1 y2 x3_0 x4_0) := hD
                refine kn_v (va_runV (C := "SignMachine$Machine") (As := [.int rz29]) (rest := []) ⟨hx, hb, hml, hown, hk⟩ (c_M_compareField_s1 l K D cI cJ cZ cB p0 p1 p2 p3 p4 H.size x0_4 x0_5 x0_6 x0_7 x0_8 x0_9 x0_10 x0_11 x0_12 x0_13 y1 y2 x3_0 x4_0  rz29 ) (v_M_compareField_s1 hk k_464 ⟨Nat.le_of_ble_eq_true rfl, Nat.le_of_ble_eq_true rfl⟩) (pMC_v hK hP hD hC hS hA (ci := 1) (q0 := 0) rfl rfl rfl) rfl rfl hl.1 rfl (lv_room (Nat.le_of_ble_eq_true rfl)) d_M_perform_170 ⟨by decide, by decide⟩) hS hA hD (fun u t H locs ht hB hFr hS => ?_)
                obtain ⟨x0_5z30, hP, hD⟩ := hB
                rw [ht] at hP
                have hD := dwk hD hFr
                clear ht hFr
                have hP : va_P D classes (wS51 cI cJ cZ cB p0 p1 p2 p3 p4 x0_4 x0_5z30 x0_6 x0_7 x0_8 x0_9 x0_10 x0_11 x0_12 x0_13 y1 y2 x3_0 x4_0) H := hP
                have hD : va_D A (wS51 cI cJ cZ cB p0 p1 p2 p3 p4 x0_4 x0_5z30 x0_6 x0_7 x0_8 x0_9 x0_10 x0_11 x0_12 x0_13 y1 y2 x3_0 x4_0) := hD
                exact W.vret hx hb hr (fun t ht hW => ⟨⟨(), rfl, trivial, ⟨x0_4, x0_5z30, x0_7, y1, y2, x3_0, x4_0, by show va_P D classes _ t.heap; rw [ht]; exact hP, hD⟩⟩, hS.F ht⟩) hS.2.2 d_M_perform_173
theorem v_M_perform_s3 {R : Room} {s : State} {args : Array Value} {own : String} {index : Nat} (hk : ∀ w ∈ tb, w.before args s = true) (hl : Cond.methodLink own index y_M_perform ∈ tb) (hR : 5 + 1 ≤ R.frames ∧ 8 + (1 + 11) + 110 ≤ R.locals) : CallW R s args own "SignMachine$Machine" index y_M_perform b_M_perform 1 none (.code y_M_perform b_M_perform 1 none :: tb) ({ frames := 5, cells := 0, slots := 0, locals := 110 }) 0 0 0 := mk_v 0 hk k_349 hl k_348 k_11 k_117 rfl rfl h_M_perform hR
set_option maxHeartbeats 4000000 in
set_option maxRecDepth 100000 in
theorem c_M_execute_s3 (l : Launch) (K : CK) (D : va_G) (cI cJ cZ cB : ClassId) (p0 p1 p2 p3 p4 : Nat) (sz : Nat) (x0_4 : Bool) (x0_5 : Int32) (x0_6 : Int32) (x0_7 : Int32) (x0_8 : Int32) (x0_9 : Int32) (x0_10 : Int32) (x0_11 : Int32) (x0_12 : Int32) (x0_13 : Int32) (y1 : Nat → Int32) (y2 : Nat → Int32) (x3_0 : Int32) (x4_0 : Int32)   (hy1 : ¬ ((f_W_size (f_mw y1 x0_7)) &&& (63 : Int32)) = (37 : Int32)) : Met l y_M_execute (.code y_M_execute b_M_execute 2 (some .int) :: tb) ({ frames := 6, cells := 0, slots := 0, locals := 130 }) (pMC K D cI cJ cZ cB (wS51 cI cJ cZ cB p0 p1 p2 p3 p4 x0_4 x0_5 x0_6 x0_7 x0_8 x0_9 x0_10 x0_11 x0_12 x0_13 y1 y2 x3_0 x4_0) sz [.ref p0]) (va_Qi (fun r (_ : Unit) => True) (fun _ t => (∃ u_x0_4 : Bool, ∃ u_x0_5 : Int32, ∃ u_x0_6 : Int32, ∃ u_x0_7 : Int32, ∃ u_x0_9 : Int32, ∃ u_x0_10 : Int32, ∃ u_x0_11 : Int32, ∃ u_x0_12 : Int32, ∃ u_x0_13 : Int32, ∃ u_y1 : Nat → Int32, ∃ u_y2 : Nat → Int32, ∃ u_x3_0 : Int32, ∃ u_x4_0 : Int32, va_P D classes (wS51 cI cJ cZ cB p0 p1 p2 p3 p4 u_x0_4 u_x0_5 u_x0_6 u_x0_7 x0_8 u_x0_9 u_x0_10 u_x0_11 u_x0_12 u_x0_13 u_y1 u_y2 u_x3_0 u_x4_0) t.heap ∧ va_D (va_A (wS51 cI cJ cZ cB p0 p1 p2 p3 p4 x0_4 x0_5 x0_6 x0_7 x0_8 x0_9 x0_10 x0_11 x0_12 x0_13 y1 y2 x3_0 x4_0) sz) (wS51 cI cJ cZ cB p0 p1 p2 p3 p4 u_x0_4 u_x0_5 u_x0_6 u_x0_7 x0_8 u_x0_9 u_x0_10 u_x0_11 u_x0_12 u_x0_13 u_y1 u_y2 u_x3_0 u_x4_0))) (va_A (wS51 cI cJ cZ cB p0 p1 p2 p3 p4 x0_4 x0_5 x0_6 x0_7 x0_8 x0_9 x0_10 x0_11 x0_12 x0_13 y1 y2 x3_0 x4_0) sz)) 0 0 (va_A (wS51 cI cJ cZ cB p0 p1 p2 p3 p4 x0_4 x0_5 x0_6 x0_7 x0_8 x0_9 x0_10 x0_11 x0_12 x0_13 y1 y2 x3_0 x4_0) sz) := by
  refine Met.ofW (cc := b_M_execute) (maxL := 2) (ret := (some .int)) (by decide) rfl ?_
  intro p e s m args below meth c s₁ B hml hv
  obtain ⟨rfl, hsz, hK, hP, hD0, hC⟩ := hv
  subst hsz
  have hD := hD0.self (sz := s.heap.size)
  generalize hAe : va_A (wS51 cI cJ cZ cB p0 p1 p2 p3 p4 x0_4 x0_5 x0_6 x0_7 x0_8 x0_9 x0_10 x0_11 x0_12 x0_13 y1 y2 x3_0 x4_0) s.heap.size = A at hD hC ⊢
  have hA : ∀ q : Nat, s.heap.size ≤ q → A q := fun q h => by rw [← hAe]; exact Or.inr h
  clear hAe hD0
  have hS : va_S A s.heap s.heap [] := va_S.rf
  have hx := B.exec
  have hb := B.bytes
  have hr := B.returns
  have hts := atoms_spec (ws := .code y_M_execute b_M_execute 2 (some .int) :: tb) B.pre
  have hk : ∀ w ∈ tb, w.before [.ref p0].toArray s = true := fun w h => hts w (List.mem_cons_of_mem _ h)
  have hown : s.vm.findClass "SignMachine$Machine" = some m.cls := findClass_of_methodNamed B.named
  have hlocks := B.notSynchronized
  have hl := lv_entry ([.ref p0]) (n := 2) (Nat.le_of_ble_eq_true rfl)
  rw [lg_entry_eq]
  generalize (lg_sl ([.ref p0]) ++ List.replicate (2 - (lg_sl ([.ref p0])).length) Slot.unset).toArray = ls at hl ⊢
  have hl : lv_has ls 2 [(0, .ref p0)] := hl
  refine lv_aload_n hx hb d_M_execute_0 rfl (lv_at hl 0 rfl) ?_
  refine va_get (D := D) (ci := 1) (v := .int x0_7) (C := "SignMachine$Machine") (T := F_M) (N := 14) hx hb hk fi_M hown hK.1 hP 0 rfl rfl 7 (by decide) (hk _ k_174) (fun _ h9 => h9) rfl d_M_execute_1 ?_
  refine cs_i (W.runS (As := [.int x0_7]) (rest := []) ⟨hx, hb, hml, hown, hk⟩ (c_M_isAddress l x0_7) (s_M_isAddress hk k_262 ⟨Nat.le_of_ble_eq_true rfl, Nat.le_of_ble_eq_true rfl⟩) ⟨fun a U g mk q => q, fun U hU hW => ⟨rfl, trivial⟩⟩ rfl rfl hl.1 rfl (lv_room (Nat.le_of_ble_eq_true rfl)) d_M_execute_4 ⟨Nat.le_of_ble_eq_true rfl, Nat.le_of_ble_eq_true rfl⟩) ?_
  obtain ⟨z1, hz1⟩ : ∃ y : Bool, y = (f_M_isAddress x0_7) := ⟨_, rfl⟩
  rw [← hz1]
  refine lv_if_ne (tgt := 12) hx hb d_M_execute_7 (by decide) (fun c2 => ?_) (fun c2 => ?_)
  · refine lv_aload_n hx hb d_M_execute_12 rfl (lv_at hl 0 rfl) ?_
    refine lv_aload_n hx hb d_M_execute_13 rfl (lv_at hl 0 rfl) ?_
    refine lv_aload_n hx hb d_M_execute_14 rfl (lv_at hl 0 rfl) ?_
    refine va_get (D := D) (ci := 1) (v := .int x0_7) (C := "SignMachine$Machine") (T := F_M) (N := 14) hx hb hk fi_M hown hK.1 hP 0 rfl rfl 7 (by decide) (hk _ k_174) (fun _ h9 => h9) rfl d_M_execute_15 ?_
    refine sn_i (va_runV (C := "SignMachine$Machine") (As := [.int x0_7]) (rest := [.ref p0]) ⟨hx, hb, hml, hown, hk⟩ (c_M_wordAt_s1 l K D cI cJ cZ cB p0 p1 p2 p3 p4 s.heap.size x0_4 x0_5 x0_6 x0_7 x0_8 x0_9 x0_10 x0_11 x0_12 x0_13 y1 y2 x3_0 x4_0  x0_7 ) (v_M_wordAt_s1 hk k_263 ⟨Nat.le_of_ble_eq_true rfl, Nat.le_of_ble_eq_true rfl⟩) (pMC_v hK hP hD hC hS hA (ci := 1) (q0 := 0) rfl rfl rfl) rfl rfl hl.1 rfl (lv_room (Nat.le_of_ble_eq_true rfl)) d_M_execute_18 ⟨by decide, by decide⟩) hS hA hD (fun rz3 u t H locs hr0 ht hB hFr hS => ?_)
    have hrz3 := hr0
    obtain ⟨hP, hD⟩ := hB
    rw [ht] at hP
    have hD := dwk hD hFr
    clear ht hFr
    have hP : va_P D classes (wS51 cI cJ cZ cB p0 p1 p2 p3 p4 x0_4 x0_5 x0_6 x0_7 x0_8 x0_9 x0_10 x0_11 x0_12 x0_13 y1 y2 x3_0 x4_0) H := hP
    have hD : va_D A (wS51 cI cJ cZ cB p0 p1 p2 p3 p4 x0_4 x0_5 x0_6 x0_7 x0_8 x0_9 x0_10 x0_11 x0_12 x0_13 y1 y2 x3_0 x4_0) := hD
    refine kn_v (va_runV (C := "SignMachine$Machine") (As := [.int rz3]) (rest := []) ⟨hx, hb, hml, hown, hk⟩ (c_M_decode_s1 l K D cI cJ cZ cB p0 p1 p2 p3 p4 H.size x0_4 x0_5 x0_6 x0_7 x0_8 x0_9 x0_10 x0_11 x0_12 x0_13 y1 y2 x3_0 x4_0  rz3 ) (v_M_decode_s1 hk k_264 ⟨Nat.le_of_ble_eq_true rfl, Nat.le_of_ble_eq_true rfl⟩) (pMC_v hK hP hD hC hS hA (ci := 1) (q0 := 0) rfl rfl rfl) rfl rfl hl.1 rfl (lv_room (Nat.le_of_ble_eq_true rfl)) d_M_execute_21 ⟨by decide, by decide⟩) hS hA hD (fun u t H locs ht hB hFr hS => ?_)
    obtain ⟨x0_9z4, x0_10z4, x0_11z4, x0_12z4, x0_13z4, ex0z4, ex1z4, hP, hD⟩ := hB
    rw [hrz3] at ex0z4 ex1z4
    have hc1 : ¬ x0_9z4 = (37 : Int32) := by rw [ex0z4]; exact hy1
    rw [ht] at hP
    have hD := dwk hD hFr
    clear ht hFr
    have hP : va_P D classes (wS51 cI cJ cZ cB p0 p1 p2 p3 p4 x0_4 x0_5 x0_6 x0_7 x0_8 x0_9z4 x0_10z4 x0_11z4 x0_12z4 x0_13z4 y1 y2 x3_0 x4_0) H := hP
    have hD : va_D A (wS51 cI cJ cZ cB p0 p1 p2 p3 p4 x0_4 x0_5 x0_6 x0_7 x0_8 x0_9z4 x0_10z4 x0_11z4 x0_12z4 x0_13z4 y1 y2 x3_0 x4_0) := hD
    refine lv_aload_n hx hb d_M_execute_24 rfl (lv_at hl 0 rfl) ?_
    refine sn_i (va_runV (C := "SignMachine$Machine") (As := []) (rest := []) ⟨hx, hb, hml, hown, hk⟩ (c_M_reasonAgainst_s1 l K D cI cJ cZ cB p0 p1 p2 p3 p4 H.size x0_4 x0_5 x0_6 x0_7 x0_8 x0_9z4 x0_10z4 x0_11z4 x0_12z4 x0_13z4 y1 y2 x3_0 x4_0   ) (v_M_reasonAgainst_s1 hk k_280 ⟨Nat.le_of_ble_eq_true rfl, Nat.le_of_ble_eq_true rfl⟩) (pMC_v hK hP hD hC hS hA (ci := 1) (q0 := 0) rfl rfl rfl) rfl rfl hl.1 rfl (lv_room (Nat.le_of_ble_eq_true rfl)) d_M_execute_25 ⟨by decide, by decide⟩) hS hA hD (fun rz5 u t H locs hr0 ht hB hFr hS => ?_)
    obtain ⟨hP, hD⟩ := hB
    rw [ht] at hP
    have hD := dwk hD hFr
    clear ht hFr
    have hP : va_P D classes (wS51 cI cJ cZ cB p0 p1 p2 p3 p4 x0_4 x0_5 x0_6 x0_7 x0_8 x0_9z4 x0_10z4 x0_11z4 x0_12z4 x0_13z4 y1 y2 x3_0 x4_0) H := hP
    have hD : va_D A (wS51 cI cJ cZ cB p0 p1 p2 p3 p4 x0_4 x0_5 x0_6 x0_7 x0_8 x0_9z4 x0_10z4 x0_11z4 x0_12z4 x0_13z4 y1 y2 x3_0 x4_0) := hD
    refine lv_istore_n (lv' := [(1, .int rz5), (0, .ref p0)]) hx hb d_M_execute_28 rfl hl (by decide) rfl (fun ls hl => ?_)
    refine lv_iload_n hx hb d_M_execute_29 rfl (lv_at hl 0 rfl) ?_
    refine lv_if_eq (tgt := 35) hx hb d_M_execute_30 (by decide) (fun c6 => ?_) (fun c6 => ?_)
    · refine lv_aload_n hx hb d_M_execute_35 rfl (lv_at hl 1 rfl) ?_
      refine lv_aload_n hx hb d_M_execute_36 rfl (lv_at hl 1 rfl) ?_
      refine va_get (D := D) (ci := 1) (v := .int x0_6) (C := "SignMachine$Machine") (T := F_M) (N := 14) hx hb hk fi_M hown hK.1 hP 0 rfl rfl 6 (by decide) (hk _ k_172) (fun _ h9 => h9) rfl d_M_execute_37 ?_
      refine lv_aload_n hx hb d_M_execute_40 rfl (lv_at hl 1 rfl) ?_
      refine sn_i (va_runV (C := "SignMachine$Machine") (As := []) (rest := [.int x0_6, .ref p0]) ⟨hx, hb, hml, hown, hk⟩ (c_M_duration_s1 l K D cI cJ cZ cB p0 p1 p2 p3 p4 H.size x0_4 x0_5 x0_6 x0_7 x0_8 x0_9z4 x0_10z4 x0_11z4 x0_12z4 x0_13z4 y1 y2 x3_0 x4_0   ) (v_M_duration_s1 hk k_341 ⟨Nat.le_of_ble_eq_true rfl, Nat.le_of_ble_eq_true rfl⟩) (pMC_v hK hP hD hC hS hA (ci := 1) (q0 := 0) rfl rfl rfl) rfl rfl hl.1 rfl (lv_room (Nat.le_of_ble_eq_true rfl)) d_M_execute_41 ⟨by decide, by decide⟩) hS hA hD (fun rz7 u t H locs hr0 ht hB hFr hS => ?_)
      obtain ⟨hP, hD⟩ := hB
      rw [ht] at hP
      have hD := dwk hD hFr
      clear ht hFr
      have hP : va_P D classes (wS51 cI cJ cZ cB p0 p1 p2 p3 p4 x0_4 x0_5 x0_6 x0_7 x0_8 x0_9z4 x0_10z4 x0_11z4 x0_12z4 x0_13z4 y1 y2 x3_0 x4_0) H := hP
      have hD : va_D A (wS51 cI cJ cZ cB p0 p1 p2 p3 p4 x0_4 x0_5 x0_6 x0_7 x0_8 x0_9z4 x0_10z4 x0_11z4 x0_12z4 x0_13z4 y1 y2 x3_0 x4_0) := hD
      refine lv_iadd hx hb d_M_execute_44 ?_
      refine lv_topi (fun v8 hv8 => ?_)
      refine lv_ldc (v := 1073741823) hx hb hown (hk _ k_345) d_M_execute_45 ?_
      refine lv_iand hx hb d_M_execute_47 ?_
      refine lv_topi (fun v9 hv9 => ?_)
      refine va_put (D := D) (ci := 1) (v := .int v9) (ty := .int) (C := "SignMachine$Machine") (T := F_M) (N := 14) hx hb hk fi_M ft_M ft_M_ok fn_M hown hK.1 hP hD hS 0 rfl rfl 6 (by decide) (hk _ k_172) (fun _ h9 => h9) rfl (by decide +kernel) rfl rfl (Nat.le_of_ble_eq_true rfl) d_M_execute_48 (fun H locs hP hD hS => ?_)
      have hP : va_P D classes (wS51 cI cJ cZ cB p0 p1 p2 p3 p4 x0_4 x0_5 v9 x0_7 x0_8 x0_9z4 x0_10z4 x0_11z4 x0_12z4 x0_13z4 y1 y2 x3_0 x4_0) H := hP
      have hD : va_D A (wS51 cI cJ cZ cB p0 p1 p2 p3 p4 x0_4 x0_5 v9 x0_7 x0_8 x0_9z4 x0_10z4 x0_11z4 x0_12z4 x0_13z4 y1 y2 x3_0 x4_0) := hD
      refine lv_aload_n hx hb d_M_execute_51 rfl (lv_at hl 1 rfl) ?_
      refine lv_dup hx hb d_M_execute_52 rfl ?_
      refine va_get (D := D) (ci := 1) (v := .int x0_7) (C := "SignMachine$Machine") (T := F_M) (N := 14) hx hb hk fi_M hown hK.1 hP 0 rfl rfl 7 (by decide) (hk _ k_174) (fun _ h9 => h9) rfl d_M_execute_53 ?_
      refine lv_iconst (v := 1) hx hb d_M_execute_56 (by decide) ?_
      refine lv_iadd hx hb d_M_execute_57 ?_
      refine lv_topi (fun v10 hv10 => ?_)
      refine va_put (D := D) (ci := 1) (v := .int v10) (ty := .int) (C := "SignMachine$Machine") (T := F_M) (N := 14) hx hb hk fi_M ft_M ft_M_ok fn_M hown hK.1 hP hD hS 0 rfl rfl 7 (by decide) (hk _ k_174) (fun _ h9 => h9) rfl (by decide +kernel) rfl rfl (Nat.le_of_ble_eq_true rfl) d_M_execute_58 (fun H locs hP hD hS => ?_)
      have hP : va_P D classes (wS51 cI cJ cZ cB p0 p1 p2 p3 p4 x0_4 x0_5 v9 v10 x0_8 x0_9z4 x0_10z4 x0_11z4 x0_12z4 x0_13z4 y1 y2 x3_0 x4_0) H := hP
      have hD : va_D A (wS51 cI cJ cZ cB p0 p1 p2 p3 p4 x0_4 x0_5 v9 v10 x0_8 x0_9z4 x0_10z4 x0_11z4 x0_12z4 x0_13z4 y1 y2 x3_0 x4_0) := hD
      refine lv_aload_n hx hb d_M_execute_61 rfl (lv_at hl 1 rfl) ?_
      refine kn_v (va_runV (C := "SignMachine$Machine") (As := []) (rest := []) ⟨hx, hb, hml, hown, hk⟩ (c_M_perform_s3 l K D cI cJ cZ cB p0 p1 p2 p3 p4 H.size x0_4 x0_5 v9 v10 x0_8 x0_9z4 x0_10z4 x0_11z4 x0_12z4 x0_13z4 y1 y2 x3_0 x4_0   hc1) (v_M_perform_s3 hk k_346 ⟨Nat.le_of_ble_eq_true rfl, Nat.le_of_ble_eq_true rfl⟩) (pMC_v hK hP hD hC hS hA (ci := 1) (q0 := 0) rfl rfl rfl) rfl rfl hl.1 rfl (lv_room (Nat.le_of_ble_eq_true rfl)) d_M_execute_62 ⟨by decide, by decide⟩) hS hA hD (fun u t H locs ht hB hFr hS => ?_)
      obtain ⟨x0_4z11, x0_5z11, x0_7z11, y1z11, y2z11, x3_0z11, x4_0z11, hP, hD⟩ := hB
      rw [ht] at hP
      have hD := dwk hD hFr
      clear ht hFr
      have hP : va_P D classes (wS51 cI cJ cZ cB p0 p1 p2 p3 p4 x0_4z11 x0_5z11 v9 x0_7z11 x0_8 x0_9z4 x0_10z4 x0_11z4 x0_12z4 x0_13z4 y1z11 y2z11 x3_0z11 x4_0z11) H := hP
      have hD : va_D A (wS51 cI cJ cZ cB p0 p1 p2 p3 p4 x0_4z11 x0_5z11 v9 x0_7z11 x0_8 x0_9z4 x0_10z4 x0_11z4 x0_12z4 x0_13z4 y1z11 y2z11 x3_0z11 x4_0z11) := hD
      refine lv_aload_n hx hb d_M_execute_65 rfl (lv_at hl 1 rfl) ?_
      refine va_get (D := D) (ci := 1) (v := .int x0_9z4) (C := "SignMachine$Machine") (T := F_M) (N := 14) hx hb hk fi_M hown hK.1 hP 0 rfl rfl 9 (by decide) (hk _ k_176) (fun _ h9 => h9) rfl d_M_execute_66 ?_
      refine lv_iconst (v := 5) hx hb d_M_execute_69 (by decide) ?_
      refine lv_icmp_ne (tgt := 85) hx hb d_M_execute_70 (by decide) (fun c12 => ?_) (fun c12 => ?_)
      · refine lv_iconst (v := 0) hx hb d_M_execute_85 (by decide) ?_
        exact W.iret (v := (0 : Int32)) hx hb hr (fun t ht hW => ⟨⟨(0 : Int32), (), rfl, trivial, ⟨x0_4z11, x0_5z11, v9, x0_7z11, x0_9z4, x0_10z4, x0_11z4, x0_12z4, x0_13z4, y1z11, y2z11, x3_0z11, x4_0z11, by show va_P D classes _ t.heap; rw [ht]; exact hP, hD⟩⟩, hS.F ht⟩) hS.2.2 d_M_execute_86
      · refine lv_aload_n hx hb d_M_execute_73 rfl (lv_at hl 1 rfl) ?_
        refine va_get (D := D) (ci := 1) (v := .int x0_10z4) (C := "SignMachine$Machine") (T := F_M) (N := 14) hx hb hk fi_M hown hK.1 hP 0 rfl rfl 10 (by decide) (hk _ k_177) (fun _ h9 => h9) rfl d_M_execute_74 ?_
        refine lv_iconst (v := 2) hx hb d_M_execute_77 (by decide) ?_
        refine lv_icmp_ne (tgt := 85) hx hb d_M_execute_78 (by decide) (fun c13 => ?_) (fun c13 => ?_)
        · refine lv_iconst (v := 0) hx hb d_M_execute_85 (by decide) ?_
          exact W.iret (v := (0 : Int32)) hx hb hr (fun t ht hW => ⟨⟨(0 : Int32), (), rfl, trivial, ⟨x0_4z11, x0_5z11, v9, x0_7z11, x0_9z4, x0_10z4, x0_11z4, x0_12z4, x0_13z4, y1z11, y2z11, x3_0z11, x4_0z11, by show va_P D classes _ t.heap; rw [ht]; exact hP, hD⟩⟩, hS.F ht⟩) hS.2.2 d_M_execute_86
        · refine lv_iconst (v := 1) hx hb d_M_execute_81 (by decide) ?_
          refine lv_goto (tgt := 86) hx hb d_M_execute_82 (by decide) ?_
          exact W.iret (v := (1 : Int32)) hx hb hr (fun t ht hW => ⟨⟨(1 : Int32), (), rfl, trivial, ⟨x0_4z11, x0_5z11, v9, x0_7z11, x0_9z4, x0_10z4, x0_11z4, x0_12z4, x0_13z4, y1z11, y2z11, x3_0z11, x4_0z11, by show va_P D classes _ t.heap; rw [ht]; exact hP, hD⟩⟩, hS.F ht⟩) hS.2.2 d_M_execute_86
    · refine lv_iload_n hx hb d_M_execute_33 rfl (lv_at hl 0 rfl) ?_
      exact W.iret (v := rz5) hx hb hr (fun t ht hW => ⟨⟨rz5, (), rfl, trivial, ⟨x0_4, x0_5, x0_6, x0_7, x0_9z4, x0_10z4, x0_11z4, x0_12z4, x0_13z4, y1, y2, x3_0, x4_0, by show va_P D classes _ t.heap; rw [ht]; exact hP, hD⟩⟩, hS.F ht⟩) hS.2.2 d_M_execute_34
  · refine lv_iconst (v := 3) hx hb d_M_execute_10 (by decide) ?_
    exact W.iret (v := (3 : Int32)) hx hb hr (fun t ht hW => ⟨⟨(3 : Int32), (), rfl, trivial, ⟨x0_4, x0_5, x0_6, x0_7, x0_9, x0_10, x0_11, x0_12, x0_13, y1, y2, x3_0, x4_0, by show va_P D classes _ t.heap; rw [ht]; exact hP, hD⟩⟩, hS.F ht⟩) hS.2.2 d_M_execute_11
theorem v_M_execute_s3 {R : Room} {s : State} {args : Array Value} {own : String} {index : Nat} (hk : ∀ w ∈ tb, w.before args s = true) (hl : Cond.methodLink own index y_M_execute ∈ tb) (hR : 6 + 1 ≤ R.frames ∧ 8 + (2 + 11) + 130 ≤ R.locals) : CallW R s args own "SignMachine$Machine" index y_M_execute b_M_execute 2 (some .int) (.code y_M_execute b_M_execute 2 (some .int) :: tb) ({ frames := 6, cells := 0, slots := 0, locals := 130 }) 0 0 0 := mk_v 0 hk k_261 hl k_259 k_260 k_117 rfl rfl h_M_execute hR

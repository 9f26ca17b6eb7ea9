set_option maxHeartbeats 4000000 in
set_option maxRecDepth 100000 in
theorem c_M_compareField_s5 (l : Launch) (K : CK) (D : va_G) (cI cJ cZ cB : ClassId) (p0 p1 p2 p3 p4 p5 : Nat) (sz : Nat) (x0_4 : Bool) (x0_5 : Int32) (x0_6 : Int32) (x0_7 : Int32) (x0_8 : Int32) (x0_9 : Int32) (x0_10 : Int32) (x0_11 : Int32) (x0_12 : Int32) (x0_13 : Int32) (y1 : Nat → Int32) (y2 : Nat → Int32) (x3_0 : Int32) (x4_0 : Int32) (y5 : Nat → Int32)  (a1 : Int32) : Met l y_M_compareField (.code y_M_compareField b_M_compareField 2 none :: tb) ({ frames := 3, cells := 0, slots := 0, locals := 65 }) (pMC K D cI cJ cZ cB (wS58 cI cJ cZ cB p0 p1 p2 p3 p4 p5 x0_4 x0_5 x0_6 x0_7 x0_8 x0_9 x0_10 x0_11 x0_12 x0_13 y1 y2 x3_0 x4_0 y5) sz [.ref p0, .int a1]) (va_Qv (fun (_ : Unit) => True) (fun _ t => (∃ u_x0_5 : Int32, va_P D classes (wS58 cI cJ cZ cB p0 p1 p2 p3 p4 p5 x0_4 u_x0_5 x0_6 x0_7 x0_8 x0_9 x0_10 x0_11 x0_12 x0_13 y1 y2 x3_0 x4_0 y5) t.heap ∧ va_D (va_A (wS58 cI cJ cZ cB p0 p1 p2 p3 p4 p5 x0_4 x0_5 x0_6 x0_7 x0_8 x0_9 x0_10 x0_11 x0_12 x0_13 y1 y2 x3_0 x4_0 y5) sz) (wS58 cI cJ cZ cB p0 p1 p2 p3 p4 p5 x0_4 u_x0_5 x0_6 x0_7 x0_8 x0_9 x0_10 x0_11 x0_12 x0_13 y1 y2 x3_0 x4_0 y5))) (va_A (wS58 cI cJ cZ cB p0 p1 p2 p3 p4 p5 x0_4 x0_5 x0_6 x0_7 x0_8 x0_9 x0_10 x0_11 x0_12 x0_13 y1 y2 x3_0 x4_0 y5) sz)) 0 0 (va_A (wS58 cI cJ cZ cB p0 p1 p2 p3 p4 p5 x0_4 x0_5 x0_6 x0_7 x0_8 x0_9 x0_10 x0_11 x0_12 x0_13 y1 y2 x3_0 x4_0 y5) sz) := by
  refine Met.ofW (cc := b_M_compareField) (maxL := 2) (ret := none) (by decide) rfl ?_
  intro p e s m args below meth c s₁ B hml hv
  obtain ⟨rfl, hsz, hK, hP, hD0, hC⟩ := hv
  subst hsz
  have hD := hD0.self (sz := s.heap.size)
  generalize hAe : va_A (wS58 cI cJ cZ cB p0 p1 p2 p3 p4 p5 x0_4 x0_5 x0_6 x0_7 x0_8 x0_9 x0_10 x0_11 x0_12 x0_13 y1 y2 x3_0 x4_0 y5) s.heap.size = A at hD hC ⊢
  have hA : ∀ q : Nat, s.heap.size ≤ q → A q := fun q h => by rw [← hAe]; exact Or.inr h
  clear hAe hD0
  have hS : va_S A s.heap s.heap [] := va_S.rf
  have hx := B.exec
  have hb := B.bytes
  have hr := B.returns
  have hts := atoms_spec (ws := .code y_M_compareField b_M_compareField 2 none :: tb) B.pre
  have hk : ∀ w ∈ tb, w.before [.ref p0, .int a1].toArray s = true := fun w h => hts w (List.mem_cons_of_mem _ h)
  have hown : s.vm.findClass "SignMachine$Machine" = some m.cls := findClass_of_methodNamed B.named
  have hlocks := B.notSynchronized
  have hl := lv_entry ([.ref p0, .int a1]) (n := 2) (Nat.le_of_ble_eq_true rfl)
  rw [lg_entry_eq]
  generalize (lg_sl ([.ref p0, .int a1]) ++ List.replicate (2 - (lg_sl ([.ref p0, .int a1])).length) Slot.unset).toArray = ls at hl ⊢
  have hl : lv_has ls 2 [(0, .ref p0), (1, .int a1)] := hl
  refine lv_aload_n hx hb d_M_compareField_0 rfl (lv_at hl 0 rfl) ?_
  refine lv_iload_n hx hb d_M_compareField_1 rfl (lv_at hl 1 rfl) ?_
  refine lv_aload_n hx hb d_M_compareField_2 rfl (lv_at hl 0 rfl) ?_
  refine va_get (D := D) (ci := 1) (v := .int x0_10) (C := "SignMachine$Machine") (T := F_M) (N := 14) hx hb hk fi_M hown hK.1 hP 0 rfl rfl 10 (by decide) (hk _ k_177) (fun _ h9 => h9) rfl d_M_compareField_3 ?_
  refine cs_i (W.runS (As := [.int a1, .int x0_10]) (rest := [.ref p0]) ⟨hx, hb, hml, hown, hk⟩ (c_W_field l a1 x0_10) (s_W_field hk k_314 ⟨Nat.le_of_ble_eq_true rfl, Nat.le_of_ble_eq_true rfl⟩) ⟨fun a U g mk q => q, fun U hU hW => ⟨rfl, trivial⟩⟩ rfl rfl hl.1 rfl (lv_room (Nat.le_of_ble_eq_true rfl)) d_M_compareField_6 ⟨Nat.le_of_ble_eq_true rfl, Nat.le_of_ble_eq_true rfl⟩) ?_
  refine lv_topi (fun v1 hv1 => ?_)
  refine cs_i (W.runS (As := [.int v1]) (rest := [.ref p0]) ⟨hx, hb, hml, hown, hk⟩ (c_W_number l v1) (s_W_number hk k_277 ⟨Nat.le_of_ble_eq_true rfl, Nat.le_of_ble_eq_true rfl⟩) ⟨fun a U g mk q => q, fun U hU hW => ⟨rfl, trivial⟩⟩ rfl rfl hl.1 rfl (lv_room (Nat.le_of_ble_eq_true rfl)) d_M_compareField_9 ⟨Nat.le_of_ble_eq_true rfl, Nat.le_of_ble_eq_true rfl⟩) ?_
  refine lv_topi (fun v2 hv2 => ?_)
  refine lv_aload_n hx hb d_M_compareField_12 rfl (lv_at hl 0 rfl) ?_
  refine sn_i (va_runV (C := "SignMachine$Machine") (As := []) (rest := [.int v2, .ref p0]) ⟨hx, hb, hml, hown, hk⟩ (c_M_value_s4 l K D cI cJ cZ cB p0 p1 p2 p3 p4 p5 s.heap.size x0_4 x0_5 x0_6 x0_7 x0_8 x0_9 x0_10 x0_11 x0_12 x0_13 y1 y2 x3_0 x4_0 y5   ) (v_M_value_s4 hk k_310 ⟨Nat.le_of_ble_eq_true rfl, Nat.le_of_ble_eq_true rfl⟩) (pMC_v hK hP hD hC hS hA (ci := 1) (q0 := 0) rfl rfl rfl) rfl rfl hl.1 rfl (lv_room (Nat.le_of_ble_eq_true rfl)) d_M_compareField_13 ⟨by decide, by decide⟩) hS hA hD (fun rz3 u t H locs hr0 ht hB hFr hS => ?_)
  obtain ⟨hP, hD⟩ := hB
  rw [ht] at hP
  have hD := dwk hD hFr
  clear ht hFr
  have hP : va_P D classes (wS58 cI cJ cZ cB p0 p1 p2 p3 p4 p5 x0_4 x0_5 x0_6 x0_7 x0_8 x0_9 x0_10 x0_11 x0_12 x0_13 y1 y2 x3_0 x4_0 y5) H := hP
  have hD : va_D A (wS58 cI cJ cZ cB p0 p1 p2 p3 p4 p5 x0_4 x0_5 x0_6 x0_7 x0_8 x0_9 x0_10 x0_11 x0_12 x0_13 y1 y2 x3_0 x4_0 y5) := hD
  refine cs_i (W.runS (As := [.int rz3]) (rest := [.int v2, .ref p0]) ⟨hx, hb, hml, hown, hk⟩ (c_W_number l rz3) (s_W_number hk k_277 ⟨Nat.le_of_ble_eq_true rfl, Nat.le_of_ble_eq_true rfl⟩) ⟨fun a U g mk q => q, fun U hU hW => ⟨rfl, trivial⟩⟩ rfl rfl hl.1 rfl (lv_room (Nat.le_of_ble_eq_true rfl)) d_M_compareField_16 ⟨Nat.le_of_ble_eq_true rfl, Nat.le_of_ble_eq_true rfl⟩) ?_
  refine lv_topi (fun v4 hv4 => ?_)
  refine cs_i (W.runS (As := [.int v2, .int v4]) (rest := [.ref p0]) ⟨hx, hb, hml, hown, hk⟩ (c_I_compare l v2 v4) (s_I_compare hk k_468 ⟨Nat.le_of_ble_eq_true rfl, Nat.le_of_ble_eq_true rfl⟩) ⟨fun a U g mk q => q, fun U hU hW => ⟨rfl, trivial⟩⟩ rfl rfl hl.1 rfl (lv_room (Nat.le_of_ble_eq_true rfl)) d_M_compareField_19 ⟨Nat.le_of_ble_eq_true rfl, Nat.le_of_ble_eq_true rfl⟩) ?_
  refine lv_topi (fun v5 hv5 => ?_)
  refine va_put (D := D) (ci := 1) (v := .int v5) (ty := .int) (C := "SignMachine$Machine") (T := F_M) (N := 14) hx hb hk fi_M ft_M ft_M_ok fn_M hown hK.1 hP hD hS 0 rfl rfl 5 (by decide) (hk _ k_170) (fun _ h9 => h9) rfl (by decide +kernel) rfl rfl (Nat.le_of_ble_eq_true rfl) d_M_compareField_22 (fun H locs hP hD hS => ?_)
  have hP : va_P D classes (wS58 cI cJ cZ cB p0 p1 p2 p3 p4 p5 x0_4 v5 x0_6 x0_7 x0_8 x0_9 x0_10 x0_11 x0_12 x0_13 y1 y2 x3_0 x4_0 y5) H := hP
  have hD : va_D A (wS58 cI cJ cZ cB p0 p1 p2 p3 p4 p5 x0_4 v5 x0_6 x0_7 x0_8 x0_9 x0_10 x0_11 x0_12 x0_13 y1 y2 x3_0 x4_0 y5) := hD
  exact W.vret hx hb hr (fun t ht hW => ⟨⟨(), rfl, trivial, ⟨v5, by show va_P D classes _ t.heap; rw [ht]; exact hP, hD⟩⟩, hS.F ht⟩) hS.2.2 d_M_compareField_25
theorem v_M_compareField_s5 {R : Room} {s : State} {args : Array Value} {own : String} {index : Nat} (hk : ∀ w ∈ tb, w.before args s = true) (hl : Cond.methodLink own index y_M_compareField ∈ tb) (hR : 3 + 1 ≤ R.frames ∧ 8 + (2 + 11) + 65 ≤ R.locals) : CallW R s args own "SignMachine$Machine" index y_M_compareField b_M_compareField 2 none (.code y_M_compareField b_M_compareField 2 none :: tb) ({ frames := 3, cells := 0, slots := 0, locals := 65 }) 0 0 1 := mk_v 1 hk k_467 hl k_466 k_32 k_117 rfl rfl h_M_compareField hR
set_option maxHeartbeats 4000000 in
set_option maxRecDepth 100000 in
theorem c_M_perform_s11 (l : Launch) (K : CK) (D : va_G) (cI cJ cZ cB : ClassId) (p0 p1 p2 p3 p4 p5 : Nat) (sz : Nat) (x0_4 : Bool) (x0_5 : Int32) (x0_6 : Int32) (x0_7 : Int32) (x0_8 : Int32) (x0_9 : Int32) (x0_10 : Int32) (x0_11 : Int32) (x0_12 : Int32) (x0_13 : Int32) (y1 : Nat → Int32) (y2 : Nat → Int32) (x3_0 : Int32) (x4_0 : Int32) (y5 : Nat → Int32)   (hy1 : ¬ x0_9 = (37 : Int32)) : Met l y_M_perform (.code y_M_perform b_M_perform 1 none :: tb) ({ frames := 5, cells := 0, slots := 0, locals := 110 }) (pMC K D cI cJ cZ cB (wS58 cI cJ cZ cB p0 p1 p2 p3 p4 p5 x0_4 x0_5 x0_6 x0_7 x0_8 x0_9 x0_10 x0_11 x0_12 x0_13 y1 y2 x3_0 x4_0 y5) sz [.ref p0]) (va_Qv (fun (_ : Unit) => True) (fun _ t => (∃ u_x0_4 : Bool, ∃ u_x0_5 : Int32, ∃ u_x0_7 : Int32, ∃ u_y1 : Nat → Int32, ∃ u_y2 : Nat → Int32, ∃ u_x3_0 : Int32, ∃ u_x4_0 : Int32, va_P D classes (wS58 cI cJ cZ cB p0 p1 p2 p3 p4 p5 u_x0_4 u_x0_5 x0_6 u_x0_7 x0_8 x0_9 x0_10 x0_11 x0_12 x0_13 u_y1 u_y2 u_x3_0 u_x4_0 y5) t.heap ∧ va_D (va_A (wS58 cI cJ cZ cB p0 p1 p2 p3 p4 p5 x0_4 x0_5 x0_6 x0_7 x0_8 x0_9 x0_10 x0_11 x0_12 x0_13 y1 y2 x3_0 x4_0 y5) sz) (wS58 cI cJ cZ cB p0 p1 p2 p3 p4 p5 u_x0_4 u_x0_5 x0_6 u_x0_7 x0_8 x0_9 x0_10 x0_11 x0_12 x0_13 u_y1 u_y2 u_x3_0 u_x4_0 y5))) (va_A (wS58 cI cJ cZ cB p0 p1 p2 p3 p4 p5 x0_4 x0_5 x0_6 x0_7 x0_8 x0_9 x0_10 x0_11 x0_12 x0_13 y1 y2 x3_0 x4_0 y5) sz)) 0 0 (va_A (wS58 cI cJ cZ cB p0 p1 p2 p3 p4 p5 x0_4 x0_5 x0_6 x0_7 x0_8 x0_9 x0_10 x0_11 x0_12 x0_13 y1 y2 x3_0 x4_0 y5) sz) := by
  refine Met.ofW (cc := b_M_perform) (maxL := 1) (ret := none) (by decide) rfl ?_
  intro p e s m args below meth c s₁ B hml hv
  obtain ⟨rfl, hsz, hK, hP, hD0, hC⟩ := hv
  subst hsz
  have hD := hD0.self (sz := s.heap.size)
  generalize hAe : va_A (wS58 cI cJ cZ cB p0 p1 p2 p3 p4 p5 x0_4 x0_5 x0_6 x0_7 x0_8 x0_9 x0_10 x0_11 x0_12 x0_13 y1 y2 x3_0 x4_0 y5) s.heap.size = A at hD hC ⊢
  have hA : ∀ q : Nat, s.heap.size ≤ q → A q := fun q h => by rw [← hAe]; exact Or.inr h
  clear hAe hD0
  have hS : va_S A s.heap s.heap [] := va_S.rf
  have hx := B.exec
  have hb := B.bytes
  have hr := B.returns
  have hts := atoms_spec (ws := .code y_M_perform b_M_perform 1 none :: tb) B.pre
  have hk : ∀ w ∈ tb, w.before [.ref p0].toArray s = true := fun w h => hts w (List.mem_cons_of_mem _ h)
  have hown : s.vm.findClass "SignMachine$Machine" = some m.cls := findClass_of_methodNamed B.named
  have hlocks := B.notSynchronized
  have hl := lv_entry ([.ref p0]) (n := 1) (Nat.le_of_ble_eq_true rfl)
  rw [lg_entry_eq]
  generalize (lg_sl ([.ref p0]) ++ List.replicate (1 - (lg_sl ([.ref p0])).length) Slot.unset).toArray = ls at hl ⊢
  have hl : lv_has ls 1 [(0, .ref p0)] := hl
  refine lv_aload_n hx hb d_M_perform_0 rfl (lv_at hl 0 rfl) ?_
  refine va_get (D := D) (ci := 1) (v := .int x0_9) (C := "SignMachine$Machine") (T := F_M) (N := 14) hx hb hk fi_M hown hK.1 hP 0 rfl rfl 9 (by decide) (hk _ k_176) (fun _ h9 => h9) rfl d_M_perform_1 ?_
  refine lv_iconst (v := 3) hx hb d_M_perform_4 (by decide) ?_
  refine lv_ishr hx hb d_M_perform_5 ?_
  refine lv_topi (fun v1 hv1 => ?_)
  by_cases c2 : v1 = (0 : Int32)
  · refine lv_tableIn (off := 42) (tgt := 48) hx hb d_M_perform_6 (by rw [c2]; decide) (by rw [c2]; decide) (by rw [c2]; rfl) (by decide) ?_
    refine lv_aload_n hx hb d_M_perform_48 rfl (lv_at hl 0 rfl) ?_
    refine kn_v (va_runV (C := "SignMachine$Machine") (As := []) (rest := []) ⟨hx, hb, hml, hown, hk⟩ (c_M_performLow_s5 l K D cI cJ cZ cB p0 p1 p2 p3 p4 p5 s.heap.size x0_4 x0_5 x0_6 x0_7 x0_8 x0_9 x0_10 x0_11 x0_12 x0_13 y1 y2 x3_0 x4_0 y5   ) (v_M_performLow_s5 hk k_350 ⟨Nat.le_of_ble_eq_true rfl, Nat.le_of_ble_eq_true rfl⟩) (pMC_v hK hP hD hC hS hA (ci := 1) (q0 := 0) rfl rfl rfl) rfl rfl hl.1 rfl (lv_room (Nat.le_of_ble_eq_true rfl)) d_M_perform_49 ⟨by decide, by decide⟩) hS hA hD (fun u t H locs ht hB hFr hS => ?_)
    obtain ⟨x0_4z3, y1z3, y2z3, hP, hD⟩ := hB
    rw [ht] at hP
    have hD := dwk hD hFr
    clear ht hFr
    have hP : va_P D classes (wS58 cI cJ cZ cB p0 p1 p2 p3 p4 p5 x0_4z3 x0_5 x0_6 x0_7 x0_8 x0_9 x0_10 x0_11 x0_12 x0_13 y1z3 y2z3 x3_0 x4_0 y5) H := hP
    have hD : va_D A (wS58 cI cJ cZ cB p0 p1 p2 p3 p4 p5 x0_4z3 x0_5 x0_6 x0_7 x0_8 x0_9 x0_10 x0_11 x0_12 x0_13 y1z3 y2z3 x3_0 x4_0 y5) := hD
    refine lv_goto (tgt := 173) hx hb d_M_perform_52 (by decide) ?_
    exact W.vret hx hb hr (fun t ht hW => ⟨⟨(), rfl, trivial, ⟨x0_4z3, x0_5, x0_7, y1z3, y2z3, x3_0, x4_0, by show va_P D classes _ t.heap; rw [ht]; exact hP, hD⟩⟩, hS.F ht⟩) hS.2.2 d_M_perform_173
  · by_cases c4 : v1 = (1 : Int32)
    · refine lv_tableIn (off := 49) (tgt := 55) hx hb d_M_perform_6 (by rw [c4]; decide) (by rw [c4]; decide) (by rw [c4]; rfl) (by decide) ?_
      refine lv_aload_n hx hb d_M_perform_55 rfl (lv_at hl 0 rfl) ?_
      refine lv_aload_n hx hb d_M_perform_56 rfl (lv_at hl 0 rfl) ?_
      refine va_get (D := D) (ci := 1) (v := .int x0_9) (C := "SignMachine$Machine") (T := F_M) (N := 14) hx hb hk fi_M hown hK.1 hP 0 rfl rfl 9 (by decide) (hk _ k_176) (fun _ h9 => h9) rfl d_M_perform_57 ?_
      refine lv_bipush (v := 7) hx hb d_M_perform_60 (by decide) ?_
      refine lv_iand hx hb d_M_perform_62 ?_
      refine lv_topi (fun v5 hv5 => ?_)
      refine lv_aload_n hx hb d_M_perform_63 rfl (lv_at hl 0 rfl) ?_
      refine sn_i (va_runV (C := "SignMachine$Machine") (As := []) (rest := [.int v5, .ref p0]) ⟨hx, hb, hml, hown, hk⟩ (c_M_value_s4 l K D cI cJ cZ cB p0 p1 p2 p3 p4 p5 s.heap.size x0_4 x0_5 x0_6 x0_7 x0_8 x0_9 x0_10 x0_11 x0_12 x0_13 y1 y2 x3_0 x4_0 y5   ) (v_M_value_s4 hk k_310 ⟨Nat.le_of_ble_eq_true rfl, Nat.le_of_ble_eq_true rfl⟩) (pMC_v hK hP hD hC hS hA (ci := 1) (q0 := 0) rfl rfl rfl) rfl rfl hl.1 rfl (lv_room (Nat.le_of_ble_eq_true rfl)) d_M_perform_64 ⟨by decide, by decide⟩) hS hA hD (fun rz6 u t H locs hr0 ht hB hFr hS => ?_)
      obtain ⟨hP, hD⟩ := hB
      rw [ht] at hP
      have hD := dwk hD hFr
      clear ht hFr
      have hP : va_P D classes (wS58 cI cJ cZ cB p0 p1 p2 p3 p4 p5 x0_4 x0_5 x0_6 x0_7 x0_8 x0_9 x0_10 x0_11 x0_12 x0_13 y1 y2 x3_0 x4_0 y5) H := hP
      have hD : va_D A (wS58 cI cJ cZ cB p0 p1 p2 p3 p4 p5 x0_4 x0_5 x0_6 x0_7 x0_8 x0_9 x0_10 x0_11 x0_12 x0_13 y1 y2 x3_0 x4_0 y5) := hD
      refine kn_v (va_runV (C := "SignMachine$Machine") (As := [.int v5, .int rz6]) (rest := []) ⟨hx, hb, hml, hown, hk⟩ (c_M_putRegister_s5 l K D cI cJ cZ cB p0 p1 p2 p3 p4 p5 H.size x0_4 x0_5 x0_6 x0_7 x0_8 x0_9 x0_10 x0_11 x0_12 x0_13 y1 y2 x3_0 x4_0 y5  v5 rz6 ) (v_M_putRegister_s5 hk k_362 ⟨Nat.le_of_ble_eq_true rfl, Nat.le_of_ble_eq_true rfl⟩) (pMC_v hK hP hD hC hS hA (ci := 1) (q0 := 0) rfl rfl rfl) rfl rfl hl.1 rfl (lv_room (Nat.le_of_ble_eq_true rfl)) d_M_perform_67 ⟨by decide, by decide⟩) hS hA hD (fun u t H locs ht hB hFr hS => ?_)
      obtain ⟨y2z7, hP, hD⟩ := hB
      rw [ht] at hP
      have hD := dwk hD hFr
      clear ht hFr
      have hP : va_P D classes (wS58 cI cJ cZ cB p0 p1 p2 p3 p4 p5 x0_4 x0_5 x0_6 x0_7 x0_8 x0_9 x0_10 x0_11 x0_12 x0_13 y1 y2z7 x3_0 x4_0 y5) H := hP
      have hD : va_D A (wS58 cI cJ cZ cB p0 p1 p2 p3 p4 p5 x0_4 x0_5 x0_6 x0_7 x0_8 x0_9 x0_10 x0_11 x0_12 x0_13 y1 y2z7 x3_0 x4_0 y5) := hD
      refine lv_goto (tgt := 173) hx hb d_M_perform_70 (by decide) ?_
      exact W.vret hx hb hr (fun t ht hW => ⟨⟨(), rfl, trivial, ⟨x0_4, x0_5, x0_7, y1, y2z7, x3_0, x4_0, by show va_P D classes _ t.heap; rw [ht]; exact hP, hD⟩⟩, hS.F ht⟩) hS.2.2 d_M_perform_173
    · by_cases c8 : v1 = (2 : Int32)
      · refine lv_tableIn (off := 67) (tgt := 73) hx hb d_M_perform_6 (by rw [c8]; decide) (by rw [c8]; decide) (by rw [c8]; rfl) (by decide) ?_
        refine lv_aload_n hx hb d_M_perform_73 rfl (lv_at hl 0 rfl) ?_
        refine lv_aload_n hx hb d_M_perform_74 rfl (lv_at hl 0 rfl) ?_
        refine va_get (D := D) (ci := 1) (v := .int x0_9) (C := "SignMachine$Machine") (T := F_M) (N := 14) hx hb hk fi_M hown hK.1 hP 0 rfl rfl 9 (by decide) (hk _ k_176) (fun _ h9 => h9) rfl d_M_perform_75 ?_
        refine lv_bipush (v := 7) hx hb d_M_perform_78 (by decide) ?_
        refine lv_iand hx hb d_M_perform_80 ?_
        refine lv_topi (fun v9 hv9 => ?_)
        refine lv_aload_n hx hb d_M_perform_81 rfl (lv_at hl 0 rfl) ?_
        refine sn_i (va_runV (C := "SignMachine$Machine") (As := []) (rest := [.int v9, .ref p0]) ⟨hx, hb, hml, hown, hk⟩ (c_M_value_s4 l K D cI cJ cZ cB p0 p1 p2 p3 p4 p5 s.heap.size x0_4 x0_5 x0_6 x0_7 x0_8 x0_9 x0_10 x0_11 x0_12 x0_13 y1 y2 x3_0 x4_0 y5   ) (v_M_value_s4 hk k_310 ⟨Nat.le_of_ble_eq_true rfl, Nat.le_of_ble_eq_true rfl⟩) (pMC_v hK hP hD hC hS hA (ci := 1) (q0 := 0) rfl rfl rfl) rfl rfl hl.1 rfl (lv_room (Nat.le_of_ble_eq_true rfl)) d_M_perform_82 ⟨by decide, by decide⟩) hS hA hD (fun rz10 u t H locs hr0 ht hB hFr hS => ?_)
        obtain ⟨hP, hD⟩ := hB
        rw [ht] at hP
        have hD := dwk hD hFr
        clear ht hFr
        have hP : va_P D classes (wS58 cI cJ cZ cB p0 p1 p2 p3 p4 p5 x0_4 x0_5 x0_6 x0_7 x0_8 x0_9 x0_10 x0_11 x0_12 x0_13 y1 y2 x3_0 x4_0 y5) H := hP
        have hD : va_D A (wS58 cI cJ cZ cB p0 p1 p2 p3 p4 p5 x0_4 x0_5 x0_6 x0_7 x0_8 x0_9 x0_10 x0_11 x0_12 x0_13 y1 y2 x3_0 x4_0 y5) := hD
        refine cs_i (W.runS (As := [.int rz10]) (rest := [.int v9, .ref p0]) ⟨hx, hb, hml, hown, hk⟩ (c_W_opposite l rz10) (s_W_opposite hk k_411 ⟨Nat.le_of_ble_eq_true rfl, Nat.le_of_ble_eq_true rfl⟩) ⟨fun a U g mk q => q, fun U hU hW => ⟨rfl, trivial⟩⟩ rfl rfl hl.1 rfl (lv_room (Nat.le_of_ble_eq_true rfl)) d_M_perform_85 ⟨Nat.le_of_ble_eq_true rfl, Nat.le_of_ble_eq_true rfl⟩) ?_
        refine lv_topi (fun v11 hv11 => ?_)
        refine kn_v (va_runV (C := "SignMachine$Machine") (As := [.int v9, .int v11]) (rest := []) ⟨hx, hb, hml, hown, hk⟩ (c_M_putRegister_s5 l K D cI cJ cZ cB p0 p1 p2 p3 p4 p5 H.size x0_4 x0_5 x0_6 x0_7 x0_8 x0_9 x0_10 x0_11 x0_12 x0_13 y1 y2 x3_0 x4_0 y5  v9 v11 ) (v_M_putRegister_s5 hk k_362 ⟨Nat.le_of_ble_eq_true rfl, Nat.le_of_ble_eq_true rfl⟩) (pMC_v hK hP hD hC hS hA (ci := 1) (q0 := 0) rfl rfl rfl) rfl rfl hl.1 rfl (lv_room (Nat.le_of_ble_eq_true rfl)) d_M_perform_88 ⟨by decide, by decide⟩) hS hA hD (fun u t H locs ht hB hFr hS => ?_)
        obtain ⟨y2z12, hP, hD⟩ := hB
        rw [ht] at hP
        have hD := dwk hD hFr
        clear ht hFr
        have hP : va_P D classes (wS58 cI cJ cZ cB p0 p1 p2 p3 p4 p5 x0_4 x0_5 x0_6 x0_7 x0_8 x0_9 x0_10 x0_11 x0_12 x0_13 y1 y2z12 x3_0 x4_0 y5) H := hP
        have hD : va_D A (wS58 cI cJ cZ cB p0 p1 p2 p3 p4 p5 x0_4 x0_5 x0_6 x0_7 x0_8 x0_9 x0_10 x0_11 x0_12 x0_13 y1 y2z12 x3_0 x4_0 y5) := hD
        refine lv_goto (tgt := 173) hx hb d_M_perform_91 (by decide) ?_
        exact W.vret hx hb hr (fun t ht hW => ⟨⟨(), rfl, trivial, ⟨x0_4, x0_5, x0_7, y1, y2z12, x3_0, x4_0, by show va_P D classes _ t.heap; rw [ht]; exact hP, hD⟩⟩, hS.F ht⟩) hS.2.2 d_M_perform_173
      · by_cases c13 : v1 = (3 : Int32)
        · refine lv_tableIn (off := 88) (tgt := 94) hx hb d_M_perform_6 (by rw [c13]; decide) (by rw [c13]; decide) (by rw [c13]; rfl) (by decide) ?_
          refine lv_aload_n hx hb d_M_perform_94 rfl (lv_at hl 0 rfl) ?_
          refine lv_aload_n hx hb d_M_perform_95 rfl (lv_at hl 0 rfl) ?_
          refine lv_aload_n hx hb d_M_perform_96 rfl (lv_at hl 0 rfl) ?_
          refine va_get (D := D) (ci := 1) (v := .int x0_9) (C := "SignMachine$Machine") (T := F_M) (N := 14) hx hb hk fi_M hown hK.1 hP 0 rfl rfl 9 (by decide) (hk _ k_176) (fun _ h9 => h9) rfl d_M_perform_97 ?_
          refine lv_bipush (v := 7) hx hb d_M_perform_100 (by decide) ?_
          refine lv_iand hx hb d_M_perform_102 ?_
          refine lv_topi (fun v14 hv14 => ?_)
          refine sn_i (va_runV (C := "SignMachine$Machine") (As := [.int v14]) (rest := [.ref p0]) ⟨hx, hb, hml, hown, hk⟩ (c_M_register_s4 l K D cI cJ cZ cB p0 p1 p2 p3 p4 p5 s.heap.size x0_4 x0_5 x0_6 x0_7 x0_8 x0_9 x0_10 x0_11 x0_12 x0_13 y1 y2 x3_0 x4_0 y5  v14 ) (v_M_register_s4 hk k_273 ⟨Nat.le_of_ble_eq_true rfl, Nat.le_of_ble_eq_true rfl⟩) (pMC_v hK hP hD hC hS hA (ci := 1) (q0 := 0) rfl rfl rfl) rfl rfl hl.1 rfl (lv_room (Nat.le_of_ble_eq_true rfl)) d_M_perform_103 ⟨by decide, by decide⟩) hS hA hD (fun rz15 u t H locs hr0 ht hB hFr hS => ?_)
          obtain ⟨hP, hD⟩ := hB
          rw [ht] at hP
          have hD := dwk hD hFr
          clear ht hFr
          have hP : va_P D classes (wS58 cI cJ cZ cB p0 p1 p2 p3 p4 p5 x0_4 x0_5 x0_6 x0_7 x0_8 x0_9 x0_10 x0_11 x0_12 x0_13 y1 y2 x3_0 x4_0 y5) H := hP
          have hD : va_D A (wS58 cI cJ cZ cB p0 p1 p2 p3 p4 p5 x0_4 x0_5 x0_6 x0_7 x0_8 x0_9 x0_10 x0_11 x0_12 x0_13 y1 y2 x3_0 x4_0 y5) := hD
          refine kn_v (va_runV (C := "SignMachine$Machine") (As := [.int rz15]) (rest := []) ⟨hx, hb, hml, hown, hk⟩ (c_M_storeWord_s5 l K D cI cJ cZ cB p0 p1 p2 p3 p4 p5 H.size x0_4 x0_5 x0_6 x0_7 x0_8 x0_9 x0_10 x0_11 x0_12 x0_13 y1 y2 x3_0 x4_0 y5  rz15 ) (v_M_storeWord_s5 hk k_414 ⟨Nat.le_of_ble_eq_true rfl, Nat.le_of_ble_eq_true rfl⟩) (pMC_v hK hP hD hC hS hA (ci := 1) (q0 := 0) rfl rfl rfl) rfl rfl hl.1 rfl (lv_room (Nat.le_of_ble_eq_true rfl)) d_M_perform_106 ⟨by decide, by decide⟩) hS hA hD (fun u t H locs ht hB hFr hS => ?_)
          obtain ⟨y1z16, hP, hD⟩ := hB
          rw [ht] at hP
          have hD := dwk hD hFr
          clear ht hFr
          have hP : va_P D classes (wS58 cI cJ cZ cB p0 p1 p2 p3 p4 p5 x0_4 x0_5 x0_6 x0_7 x0_8 x0_9 x0_10 x0_11 x0_12 x0_13 y1z16 y2 x3_0 x4_0 y5) H := hP
          have hD : va_D A (wS58 cI cJ cZ cB p0 p1 p2 p3 p4 p5 x0_4 x0_5 x0_6 x0_7 x0_8 x0_9 x0_10 x0_11 x0_12 x0_13 y1z16 y2 x3_0 x4_0 y5) := hD
          refine lv_goto (tgt := 173) hx hb d_M_perform_109 (by decide) ?_
          exact W.vret hx hb hr (fun t ht hW => ⟨⟨(), rfl, trivial, ⟨x0_4, x0_5, x0_7, y1z16, y2, x3_0, x4_0, by show va_P D classes _ t.heap; rw [ht]; exact hP, hD⟩⟩, hS.F ht⟩) hS.2.2 d_M_perform_173
        · by_cases c17 : v1 = (4 : Int32)
          · refine lv_tableIn (off := 106) (tgt := 112) hx hb d_M_perform_6 (by rw [c17]; decide) (by rw [c17]; decide) (by rw [c17]; rfl) (by decide) ?_
            refine lv_aload_n hx hb d_M_perform_112 rfl (lv_at hl 0 rfl) ?_
            refine kn_v (va_runV (C := "SignMachine$Machine") (As := []) (rest := []) ⟨hx, hb, hml, hown, hk⟩ (c_M_performMiddle_s11 l K D cI cJ cZ cB p0 p1 p2 p3 p4 p5 s.heap.size x0_4 x0_5 x0_6 x0_7 x0_8 x0_9 x0_10 x0_11 x0_12 x0_13 y1 y2 x3_0 x4_0 y5   hy1) (v_M_performMiddle_s11 hk k_421 ⟨Nat.le_of_ble_eq_true rfl, Nat.le_of_ble_eq_true rfl⟩) (pMC_v hK hP hD hC hS hA (ci := 1) (q0 := 0) rfl rfl rfl) rfl rfl hl.1 rfl (lv_room (Nat.le_of_ble_eq_true rfl)) d_M_perform_113 ⟨by decide, by decide⟩) hS hA hD (fun u t H locs ht hB hFr hS => ?_)
            obtain ⟨x0_4z18, x0_7z18, y1z18, y2z18, x3_0z18, x4_0z18, hP, hD⟩ := hB
            rw [ht] at hP
            have hD := dwk hD hFr
            clear ht hFr
            have hP : va_P D classes (wS58 cI cJ cZ cB p0 p1 p2 p3 p4 p5 x0_4z18 x0_5 x0_6 x0_7z18 x0_8 x0_9 x0_10 x0_11 x0_12 x0_13 y1z18 y2z18 x3_0z18 x4_0z18 y5) H := hP
            have hD : va_D A (wS58 cI cJ cZ cB p0 p1 p2 p3 p4 p5 x0_4z18 x0_5 x0_6 x0_7z18 x0_8 x0_9 x0_10 x0_11 x0_12 x0_13 y1z18 y2z18 x3_0z18 x4_0z18 y5) := hD
            refine lv_goto (tgt := 173) hx hb d_M_perform_116 (by decide) ?_
            exact W.vret hx hb hr (fun t ht hW => ⟨⟨(), rfl, trivial, ⟨x0_4z18, x0_5, x0_7z18, y1z18, y2z18, x3_0z18, x4_0z18, by show va_P D classes _ t.heap; rw [ht]; exact hP, hD⟩⟩, hS.F ht⟩) hS.2.2 d_M_perform_173
          · by_cases c19 : v1 = (5 : Int32)
            · refine lv_tableIn (off := 113) (tgt := 119) hx hb d_M_perform_6 (by rw [c19]; decide) (by rw [c19]; decide) (by rw [c19]; rfl) (by decide) ?_
              refine lv_aload_n hx hb d_M_perform_119 rfl (lv_at hl 0 rfl) ?_
              refine lv_aload_n hx hb d_M_perform_120 rfl (lv_at hl 0 rfl) ?_
              refine lv_aload_n hx hb d_M_perform_121 rfl (lv_at hl 0 rfl) ?_
              refine lv_aload_n hx hb d_M_perform_122 rfl (lv_at hl 0 rfl) ?_
              refine va_get (D := D) (ci := 1) (v := .int x0_9) (C := "SignMachine$Machine") (T := F_M) (N := 14) hx hb hk fi_M hown hK.1 hP 0 rfl rfl 9 (by decide) (hk _ k_176) (fun _ h9 => h9) rfl d_M_perform_123 ?_
              refine lv_bipush (v := 7) hx hb d_M_perform_126 (by decide) ?_
              refine lv_iand hx hb d_M_perform_128 ?_
              refine lv_topi (fun v20 hv20 => ?_)
              refine sn_i (va_runV (C := "SignMachine$Machine") (As := [.int v20]) (rest := [.ref p0, .ref p0]) ⟨hx, hb, hml, hown, hk⟩ (c_M_register_s4 l K D cI cJ cZ cB p0 p1 p2 p3 p4 p5 s.heap.size x0_4 x0_5 x0_6 x0_7 x0_8 x0_9 x0_10 x0_11 x0_12 x0_13 y1 y2 x3_0 x4_0 y5  v20 ) (v_M_register_s4 hk k_273 ⟨Nat.le_of_ble_eq_true rfl, Nat.le_of_ble_eq_true rfl⟩) (pMC_v hK hP hD hC hS hA (ci := 1) (q0 := 0) rfl rfl rfl) rfl rfl hl.1 rfl (lv_room (Nat.le_of_ble_eq_true rfl)) d_M_perform_129 ⟨by decide, by decide⟩) hS hA hD (fun rz21 u t H locs hr0 ht hB hFr hS => ?_)
              obtain ⟨hP, hD⟩ := hB
              rw [ht] at hP
              have hD := dwk hD hFr
              clear ht hFr
              have hP : va_P D classes (wS58 cI cJ cZ cB p0 p1 p2 p3 p4 p5 x0_4 x0_5 x0_6 x0_7 x0_8 x0_9 x0_10 x0_11 x0_12 x0_13 y1 y2 x3_0 x4_0 y5) H := hP
              have hD : va_D A (wS58 cI cJ cZ cB p0 p1 p2 p3 p4 p5 x0_4 x0_5 x0_6 x0_7 x0_8 x0_9 x0_10 x0_11 x0_12 x0_13 y1 y2 x3_0 x4_0 y5) := hD
              refine cs_i (W.runS (As := [.int rz21]) (rest := [.ref p0, .ref p0]) ⟨hx, hb, hml, hown, hk⟩ (c_W_number l rz21) (s_W_number hk k_277 ⟨Nat.le_of_ble_eq_true rfl, Nat.le_of_ble_eq_true rfl⟩) ⟨fun a U g mk q => q, fun U hU hW => ⟨rfl, trivial⟩⟩ rfl rfl hl.1 rfl (lv_room (Nat.le_of_ble_eq_true rfl)) d_M_perform_132 ⟨Nat.le_of_ble_eq_true rfl, Nat.le_of_ble_eq_true rfl⟩) ?_
              refine lv_topi (fun v22 hv22 => ?_)
              refine sn_i (va_runV (C := "SignMachine$Machine") (As := [.int v22]) (rest := [.ref p0]) ⟨hx, hb, hml, hown, hk⟩ (c_M_registerIs_s5 l K D cI cJ cZ cB p0 p1 p2 p3 p4 p5 H.size x0_4 x0_5 x0_6 x0_7 x0_8 x0_9 x0_10 x0_11 x0_12 x0_13 y1 y2 x3_0 x4_0 y5  v22 ) (v_M_registerIs_s5 hk k_456 ⟨Nat.le_of_ble_eq_true rfl, Nat.le_of_ble_eq_true rfl⟩) (pMC_v hK hP hD hC hS hA (ci := 1) (q0 := 0) rfl rfl rfl) rfl rfl hl.1 rfl (lv_room (Nat.le_of_ble_eq_true rfl)) d_M_perform_135 ⟨by decide, by decide⟩) hS hA hD (fun rz23 u t H locs hr0 ht hB hFr hS => ?_)
              obtain ⟨z23, hz23⟩ := hr0
              subst hz23
              obtain ⟨hP, hD⟩ := hB
              rw [ht] at hP
              have hD := dwk hD hFr
              clear ht hFr
              have hP : va_P D classes (wS58 cI cJ cZ cB p0 p1 p2 p3 p4 p5 x0_4 x0_5 x0_6 x0_7 x0_8 x0_9 x0_10 x0_11 x0_12 x0_13 y1 y2 x3_0 x4_0 y5) H := hP
              have hD : va_D A (wS58 cI cJ cZ cB p0 p1 p2 p3 p4 p5 x0_4 x0_5 x0_6 x0_7 x0_8 x0_9 x0_10 x0_11 x0_12 x0_13 y1 y2 x3_0 x4_0 y5) := hD
              refine kn_v (va_runV (C := "SignMachine$Machine") (As := [.int (bI z23)]) (rest := []) ⟨hx, hb, hml, hown, hk⟩ (c_M_goIf_s5 l K D cI cJ cZ cB p0 p1 p2 p3 p4 p5 H.size x0_4 x0_5 x0_6 x0_7 x0_8 x0_9 x0_10 x0_11 x0_12 x0_13 y1 y2 x3_0 x4_0 y5  z23 ) (v_M_goIf_s5 hk k_448 ⟨Nat.le_of_ble_eq_true rfl, Nat.le_of_ble_eq_true rfl⟩) (pMC_v hK hP hD hC hS hA (ci := 1) (q0 := 0) rfl rfl rfl) rfl rfl hl.1 rfl (lv_room (Nat.le_of_ble_eq_true rfl)) d_M_perform_138 ⟨by decide, by decide⟩) hS hA hD (fun u t H locs ht hB hFr hS => ?_)
              obtain ⟨x0_7z24, y2z24, hP, hD⟩ := hB
              rw [ht] at hP
              have hD := dwk hD hFr
              clear ht hFr
              have hP : va_P D classes (wS58 cI cJ cZ cB p0 p1 p2 p3 p4 p5 x0_4 x0_5 x0_6 x0_7z24 x0_8 x0_9 x0_10 x0_11 x0_12 x0_13 y1 y2z24 x3_0 x4_0 y5) H := hP
              have hD : va_D A (wS58 cI cJ cZ cB p0 p1 p2 p3 p4 p5 x0_4 x0_5 x0_6 x0_7z24 x0_8 x0_9 x0_10 x0_11 x0_12 x0_13 y1 y2z24 x3_0 x4_0 y5) := hD
              refine lv_goto (tgt := 173) hx hb d_M_perform_141 (by decide) ?_
              exact W.vret hx hb hr (fun t ht hW => ⟨⟨(), rfl, trivial, ⟨x0_4, x0_5, x0_7z24, y1, y2z24, x3_0, x4_0, by show va_P D classes _ t.heap; rw [ht]; exact hP, hD⟩⟩, hS.F ht⟩) hS.2.2 d_M_perform_173
            · by_cases c25 : v1 = (6 : Int32)
              · refine lv_tableIn (off := 138) (tgt := 144) hx hb d_M_perform_6 (by rw [c25]; decide) (by rw [c25]; decide) (by rw [c25]; rfl) (by decide) ?_
                refine lv_aload_n hx hb d_M_perform_144 rfl (lv_at hl 0 rfl) ?_
                refine lv_aload_n hx hb d_M_perform_145 rfl (lv_at hl 0 rfl) ?_
                refine va_get (D := D) (ci := 1) (v := .int x0_9) (C := "SignMachine$Machine") (T := F_M) (N := 14) hx hb hk fi_M hown hK.1 hP 0 rfl rfl 9 (by decide) (hk _ k_176) (fun _ h9 => h9) rfl d_M_perform_146 ?_
                refine lv_bipush (v := 7) hx hb d_M_perform_149 (by decide) ?_
                refine lv_iand hx hb d_M_perform_151 ?_
                refine lv_topi (fun v26 hv26 => ?_)
                refine kn_v (va_runV (C := "SignMachine$Machine") (As := [.int v26]) (rest := []) ⟨hx, hb, hml, hown, hk⟩ (c_M_changeByAddress_s5 l K D cI cJ cZ cB p0 p1 p2 p3 p4 p5 s.heap.size x0_4 x0_5 x0_6 x0_7 x0_8 x0_9 x0_10 x0_11 x0_12 x0_13 y1 y2 x3_0 x4_0 y5  v26 ) (v_M_changeByAddress_s5 hk k_460 ⟨Nat.le_of_ble_eq_true rfl, Nat.le_of_ble_eq_true rfl⟩) (pMC_v hK hP hD hC hS hA (ci := 1) (q0 := 0) rfl rfl rfl) rfl rfl hl.1 rfl (lv_room (Nat.le_of_ble_eq_true rfl)) d_M_perform_152 ⟨by decide, by decide⟩) hS hA hD (fun u t H locs ht hB hFr hS => ?_)
                obtain ⟨x0_4z27, y2z27, hP, hD⟩ := hB
                rw [ht] at hP
                have hD := dwk hD hFr
                clear ht hFr
                have hP : va_P D classes (wS58 cI cJ cZ cB p0 p1 p2 p3 p4 p5 x0_4z27 x0_5 x0_6 x0_7 x0_8 x0_9 x0_10 x0_11 x0_12 x0_13 y1 y2z27 x3_0 x4_0 y5) H := hP
                have hD : va_D A (wS58 cI cJ cZ cB p0 p1 p2 p3 p4 p5 x0_4z27 x0_5 x0_6 x0_7 x0_8 x0_9 x0_10 x0_11 x0_12 x0_13 y1 y2z27 x3_0 x4_0 y5) := hD
                refine lv_goto (tgt := 173) hx hb d_M_perform_155 (by decide) ?_
                exact W.vret hx hb hr (fun t ht hW => ⟨⟨(), rfl, trivial, ⟨x0_4z27, x0_5, x0_7, y1, y2z27, x3_0, x4_0, by show va_P D classes _ t.heap; rw [ht]; exact hP, hD⟩⟩, hS.F ht⟩) hS.2.2 d_M_perform_173
              · refine lv_tableOut (tgt := 158) hx hb d_M_perform_6 (by have e0 := lv_neT c2 (a := 0) rfl; have e1 := lv_neT c4 (a := 1) rfl; have e2 := lv_neT c8 (a := 2) rfl; have e3 := lv_neT c13 (a := 3) rfl; have e4 := lv_neT c17 (a := 4) rfl; have e5 := lv_neT c19 (a := 5) rfl; have e6 := lv_neT c25 (a := 6) rfl; omega) (by decide) ?_
                refine lv_aload_n hx hb d_M_perform_158 rfl (lv_at hl 0 rfl) ?_
                refine lv_aload_n hx hb d_M_perform_159 rfl (lv_at hl 0 rfl) ?_
                refine lv_aload_n hx hb d_M_perform_160 rfl (lv_at hl 0 rfl) ?_
                refine va_get (D := D) (ci := 1) (v := .int x0_9) (C := "SignMachine$Machine") (T := F_M) (N := 14) hx hb hk fi_M hown hK.1 hP 0 rfl rfl 9 (by decide) (hk _ k_176) (fun _ h9 => h9) rfl d_M_perform_161 ?_
                refine lv_bipush (v := 7) hx hb d_M_perform_164 (by decide) ?_
                refine lv_iand hx hb d_M_perform_166 ?_
                refine lv_topi (fun v28 hv28 => ?_)
                refine sn_i (va_runV (C := "SignMachine$Machine") (As := [.int v28]) (rest := [.ref p0]) ⟨hx, hb, hml, hown, hk⟩ (c_M_register_s4 l K D cI cJ cZ cB p0 p1 p2 p3 p4 p5 s.heap.size x0_4 x0_5 x0_6 x0_7 x0_8 x0_9 x0_10 x0_11 x0_12 x0_13 y1 y2 x3_0 x4_0 y5  v28 ) (v_M_register_s4 hk k_273 ⟨Nat.le_of_ble_eq_true rfl, Nat.le_of_ble_eq_true rfl⟩) (pMC_v hK hP hD hC hS hA (ci := 1) (q0 := 0) rfl rfl rfl) rfl rfl hl.1 rfl (lv_room (Nat.le_of_ble_eq_true rfl)) d_M_perform_167 ⟨by decide, by decide⟩) hS hA hD (fun rz29 u t H locs hr0 ht hB hFr hS => ?_)
                obtain ⟨hP, hD⟩ := hB
                rw [ht] at hP
                have hD := dwk hD hFr
                clear ht hFr
                have hP : va_P D classes (wS58 cI cJ cZ cB p0 p1 p2 p3 p4 p5 x0_4 x0_5 x0_6 x0_7 x0_8 x0_9 x0_10 x0_11 x0_12 x0_13 y1 y2 x3_0 x4_0 y5) H := hP
                have hD : va_D A (wS58 cI cJ cZ cB p0 p1 p2 p3 p4 p5 x0_4 x0_5 x0_6 x0_7 x0_8 x0_9 x0_10 x0_11 x0_12 x0_13 y1 y2 x3_0 x4_0 y5) := hD
                refine kn_v (va_runV (C := "SignMachine$Machine") (As := [.int rz29]) (rest := []) ⟨hx, hb, hml, hown, hk⟩ (c_M_compareField_s5 l K D cI cJ cZ cB p0 p1 p2 p3 p4 p5 H.size x0_4 x0_5 x0_6 x0_7 x0_8 x0_9 x0_10 x0_11 x0_12 x0_13 y1 y2 x3_0 x4_0 y5  rz29 ) (v_M_compareField_s5 hk k_464 ⟨Nat.le_of_ble_eq_true rfl, Nat.le_of_ble_eq_true rfl⟩) (pMC_v hK hP hD hC hS hA (ci := 1) (q0 := 0) rfl rfl rfl) rfl rfl hl.1 rfl (lv_room (Nat.le_of_ble_eq_true rfl)) d_M_perform_170 ⟨by decide, by decide⟩) hS hA hD (fun u t H locs ht hB hFr hS => ?_)
                obtain ⟨x0_5z30, hP, hD⟩ := hB
                rw [ht] at hP
                have hD := dwk hD hFr
                clear ht hFr
                have hP : va_P D classes (wS58 cI cJ cZ cB p0 p1 p2 p3 p4 p5 x0_4 x0_5z30 x0_6 x0_7 x0_8 x0_9 x0_10 x0_11 x0_12 x0_13 y1 y2 x3_0 x4_0 y5) H := hP
                have hD : va_D A (wS58 cI cJ cZ cB p0 p1 p2 p3 p4 p5 x0_4 x0_5z30 x0_6 x0_7 x0_8 x0_9 x0_10 x0_11 x0_12 x0_13 y1 y2 x3_0 x4_0 y5) := hD
                exact W.vret hx hb hr (fun t ht hW => ⟨⟨(), rfl, trivial, ⟨x0_4, x0_5z30, x0_7, y1, y2, x3_0, x4_0, by show va_P D classes _ t.heap; rw [ht]; exact hP, hD⟩⟩, hS.F ht⟩) hS.2.2 d_M_perform_173
theorem v_M_perform_s11 {R : Room} {s : State} {args : Array Value} {own : String} {index : Nat} (hk : ∀ w ∈ tb, w.before args s = true) (hl : Cond.methodLink own index y_M_perform ∈ tb) (hR : 5 + 1 ≤ R.frames ∧ 8 + (1 + 11) + 110 ≤ R.locals) : CallW R s args own "SignMachine$Machine" index y_M_perform b_M_perform 1 none (.code y_M_perform b_M_perform 1 none :: tb) ({ frames := 5, cells := 0, slots := 0, locals := 110 }) 0 0 0 := mk_v 0 hk k_349 hl k_348 k_11 k_117 rfl rfl h_M_perform hR
set_option maxHeartbeats 4000000 in
set_option maxRecDepth 100000 in
theorem c_M_execute_s11 (l : Launch) (K : CK) (D : va_G) (cI cJ cZ cB : ClassId) (p0 p1 p2 p3 p4 p5 : Nat) (sz : Nat) (x0_4 : Bool) (x0_5 : Int32) (x0_6 : Int32) (x0_7 : Int32) (x0_8 : Int32) (x0_9 : Int32) (x0_10 : Int32) (x0_11 : Int32) (x0_12 : Int32) (x0_13 : Int32) (y1 : Nat → Int32) (y2 : Nat → Int32) (x3_0 : Int32) (x4_0 : Int32) (y5 : Nat → Int32)   (hy1 : ¬ ((f_W_size (f_mw y1 x0_7)) &&& (63 : Int32)) = (37 : Int32)) : Met l y_M_execute (.code y_M_execute b_M_execute 2 (some .int) :: tb) ({ frames := 6, cells := 0, slots := 0, locals := 130 }) (pMC K D cI cJ cZ cB (wS58 cI cJ cZ cB p0 p1 p2 p3 p4 p5 x0_4 x0_5 x0_6 x0_7 x0_8 x0_9 x0_10 x0_11 x0_12 x0_13 y1 y2 x3_0 x4_0 y5) sz [.ref p0]) (va_Qi (fun r (_ : Unit) => True) (fun _ t => (∃ u_x0_4 : Bool, ∃ u_x0_5 : Int32, ∃ u_x0_6 : Int32, ∃ u_x0_7 : Int32, ∃ u_x0_9 : Int32, ∃ u_x0_10 : Int32, ∃ u_x0_11 : Int32, ∃ u_x0_12 : Int32, ∃ u_x0_13 : Int32, ∃ u_y1 : Nat → Int32, ∃ u_y2 : Nat → Int32, ∃ u_x3_0 : Int32, ∃ u_x4_0 : Int32, va_P D classes (wS58 cI cJ cZ cB p0 p1 p2 p3 p4 p5 u_x0_4 u_x0_5 u_x0_6 u_x0_7 x0_8 u_x0_9 u_x0_10 u_x0_11 u_x0_12 u_x0_13 u_y1 u_y2 u_x3_0 u_x4_0 y5) t.heap ∧ va_D (va_A (wS58 cI cJ cZ cB p0 p1 p2 p3 p4 p5 x0_4 x0_5 x0_6 x0_7 x0_8 x0_9 x0_10 x0_11 x0_12 x0_13 y1 y2 x3_0 x4_0 y5) sz) (wS58 cI cJ cZ cB p0 p1 p2 p3 p4 p5 u_x0_4 u_x0_5 u_x0_6 u_x0_7 x0_8 u_x0_9 u_x0_10 u_x0_11 u_x0_12 u_x0_13 u_y1 u_y2 u_x3_0 u_x4_0 y5))) (va_A (wS58 cI cJ cZ cB p0 p1 p2 p3 p4 p5 x0_4 x0_5 x0_6 x0_7 x0_8 x0_9 x0_10 x0_11 x0_12 x0_13 y1 y2 x3_0 x4_0 y5) sz)) 0 0 (va_A (wS58 cI cJ cZ cB p0 p1 p2 p3 p4 p5 x0_4 x0_5 x0_6 x0_7 x0_8 x0_9 x0_10 x0_11 x0_12 x0_13 y1 y2 x3_0 x4_0 y5) sz) := by
  refine Met.ofW (cc := b_M_execute) (maxL := 2) (ret := (some .int)) (by decide) rfl ?_
  intro p e s m args below meth c s₁ B hml hv
  obtain ⟨rfl, hsz, hK, hP, hD0, hC⟩ := hv
  subst hsz
  have hD := hD0.self (sz := s.heap.size)
  generalize hAe : va_A (wS58 cI cJ cZ cB p0 p1 p2 p3 p4 p5 x0_4 x0_5 x0_6 x0_7 x0_8 x0_9 x0_10 x0_11 x0_12 x0_13 y1 y2 x3_0 x4_0 y5) s.heap.size = A at hD hC ⊢
  have hA : ∀ q : Nat, s.heap.size ≤ q → A q := fun q h => by rw [← hAe]; exact Or.inr h
  clear hAe hD0
  have hS : va_S A s.heap s.heap [] := va_S.rf
  have hx := B.exec
  have hb := B.bytes
  have hr := B.returns
  have hts := atoms_spec (ws := .code y_M_execute b_M_execute 2 (some .int) :: tb) B.pre
  have hk : ∀ w ∈ tb, w.before [.ref p0].toArray s = true := fun w h => hts w (List.mem_cons_of_mem _ h)
  have hown : s.vm.findClass "SignMachine$Machine" = some m.cls := findClass_of_methodNamed B.named
  have hlocks := B.notSynchronized
  have hl := lv_entry ([.ref p0]) (n := 2) (Nat.le_of_ble_eq_true rfl)
  rw [lg_entry_eq]
  generalize (lg_sl ([.ref p0]) ++ List.replicate (2 - (lg_sl ([.ref p0])).length) Slot.unset).toArray = ls at hl ⊢
  have hl : lv_has ls 2 [(0, .ref p0)] := hl
  refine lv_aload_n hx hb d_M_execute_0 rfl (lv_at hl 0 rfl) ?_
  refine va_get (D := D) (ci := 1) (v := .int x0_7) (C := "SignMachine$Machine") (T := F_M) (N := 14) hx hb hk fi_M hown hK.1 hP 0 rfl rfl 7 (by decide) (hk _ k_174) (fun _ h9 => h9) rfl d_M_execute_1 ?_
  refine cs_i (W.runS (As := [.int x0_7]) (rest := []) ⟨hx, hb, hml, hown, hk⟩ (c_M_isAddress l x0_7) (s_M_isAddress hk k_262 ⟨Nat.le_of_ble_eq_true rfl, Nat.le_of_ble_eq_true rfl⟩) ⟨fun a U g mk q => q, fun U hU hW => ⟨rfl, trivial⟩⟩ rfl rfl hl.1 rfl (lv_room (Nat.le_of_ble_eq_true rfl)) d_M_execute_4 ⟨Nat.le_of_ble_eq_true rfl, Nat.le_of_ble_eq_true rfl⟩) ?_
  obtain ⟨z1, hz1⟩ : ∃ y : Bool, y = (f_M_isAddress x0_7) := ⟨_, rfl⟩
  rw [← hz1]
  refine lv_if_ne (tgt := 12) hx hb d_M_execute_7 (by decide) (fun c2 => ?_) (fun c2 => ?_)
  · refine lv_aload_n hx hb d_M_execute_12 rfl (lv_at hl 0 rfl) ?_
    refine lv_aload_n hx hb d_M_execute_13 rfl (lv_at hl 0 rfl) ?_
    refine lv_aload_n hx hb d_M_execute_14 rfl (lv_at hl 0 rfl) ?_
    refine va_get (D := D) (ci := 1) (v := .int x0_7) (C := "SignMachine$Machine") (T := F_M) (N := 14) hx hb hk fi_M hown hK.1 hP 0 rfl rfl 7 (by decide) (hk _ k_174) (fun _ h9 => h9) rfl d_M_execute_15 ?_
    refine sn_i (va_runV (C := "SignMachine$Machine") (As := [.int x0_7]) (rest := [.ref p0]) ⟨hx, hb, hml, hown, hk⟩ (c_M_wordAt_s3 l K D cI cJ cZ cB p0 p1 p2 p3 p4 p5 s.heap.size x0_4 x0_5 x0_6 x0_7 x0_8 x0_9 x0_10 x0_11 x0_12 x0_13 y1 y2 x3_0 x4_0 y5  x0_7 ) (v_M_wordAt_s3 hk k_263 ⟨Nat.le_of_ble_eq_true rfl, Nat.le_of_ble_eq_true rfl⟩) (pMC_v hK hP hD hC hS hA (ci := 1) (q0 := 0) rfl rfl rfl) rfl rfl hl.1 rfl (lv_room (Nat.le_of_ble_eq_true rfl)) d_M_execute_18 ⟨by decide, by decide⟩) hS hA hD (fun rz3 u t H locs hr0 ht hB hFr hS => ?_)
    have hrz3 := hr0
    obtain ⟨hP, hD⟩ := hB
    rw [ht] at hP
    have hD := dwk hD hFr
    clear ht hFr
    have hP : va_P D classes (wS58 cI cJ cZ cB p0 p1 p2 p3 p4 p5 x0_4 x0_5 x0_6 x0_7 x0_8 x0_9 x0_10 x0_11 x0_12 x0_13 y1 y2 x3_0 x4_0 y5) H := hP
    have hD : va_D A (wS58 cI cJ cZ cB p0 p1 p2 p3 p4 p5 x0_4 x0_5 x0_6 x0_7 x0_8 x0_9 x0_10 x0_11 x0_12 x0_13 y1 y2 x3_0 x4_0 y5) := hD
    refine kn_v (va_runV (C := "SignMachine$Machine") (As := [.int rz3]) (rest := []) ⟨hx, hb, hml, hown, hk⟩ (c_M_decode_s4 l K D cI cJ cZ cB p0 p1 p2 p3 p4 p5 H.size x0_4 x0_5 x0_6 x0_7 x0_8 x0_9 x0_10 x0_11 x0_12 x0_13 y1 y2 x3_0 x4_0 y5  rz3 ) (v_M_decode_s4 hk k_264 ⟨Nat.le_of_ble_eq_true rfl, Nat.le_of_ble_eq_true rfl⟩) (pMC_v hK hP hD hC hS hA (ci := 1) (q0 := 0) rfl rfl rfl) rfl rfl hl.1 rfl (lv_room (Nat.le_of_ble_eq_true rfl)) d_M_execute_21 ⟨by decide, by decide⟩) hS hA hD (fun u t H locs ht hB hFr hS => ?_)
    obtain ⟨x0_9z4, x0_10z4, x0_11z4, x0_12z4, x0_13z4, ex0z4, ex1z4, hP, hD⟩ := hB
    rw [hrz3] at ex0z4 ex1z4
    have hc1 : ¬ x0_9z4 = (37 : Int32) := by rw [ex0z4]; exact hy1
    rw [ht] at hP
    have hD := dwk hD hFr
    clear ht hFr
    have hP : va_P D classes (wS58 cI cJ cZ cB p0 p1 p2 p3 p4 p5 x0_4 x0_5 x0_6 x0_7 x0_8 x0_9z4 x0_10z4 x0_11z4 x0_12z4 x0_13z4 y1 y2 x3_0 x4_0 y5) H := hP
    have hD : va_D A (wS58 cI cJ cZ cB p0 p1 p2 p3 p4 p5 x0_4 x0_5 x0_6 x0_7 x0_8 x0_9z4 x0_10z4 x0_11z4 x0_12z4 x0_13z4 y1 y2 x3_0 x4_0 y5) := hD
    refine lv_aload_n hx hb d_M_execute_24 rfl (lv_at hl 0 rfl) ?_
    refine sn_i (va_runV (C := "SignMachine$Machine") (As := []) (rest := []) ⟨hx, hb, hml, hown, hk⟩ (c_M_reasonAgainst_s4 l K D cI cJ cZ cB p0 p1 p2 p3 p4 p5 H.size x0_4 x0_5 x0_6 x0_7 x0_8 x0_9z4 x0_10z4 x0_11z4 x0_12z4 x0_13z4 y1 y2 x3_0 x4_0 y5   ) (v_M_reasonAgainst_s4 hk k_280 ⟨Nat.le_of_ble_eq_true rfl, Nat.le_of_ble_eq_true rfl⟩) (pMC_v hK hP hD hC hS hA (ci := 1) (q0 := 0) rfl rfl rfl) rfl rfl hl.1 rfl (lv_room (Nat.le_of_ble_eq_true rfl)) d_M_execute_25 ⟨by decide, by decide⟩) hS hA hD (fun rz5 u t H locs hr0 ht hB hFr hS => ?_)
    obtain ⟨hP, hD⟩ := hB
    rw [ht] at hP
    have hD := dwk hD hFr
    clear ht hFr
    have hP : va_P D classes (wS58 cI cJ cZ cB p0 p1 p2 p3 p4 p5 x0_4 x0_5 x0_6 x0_7 x0_8 x0_9z4 x0_10z4 x0_11z4 x0_12z4 x0_13z4 y1 y2 x3_0 x4_0 y5) H := hP
    have hD : va_D A (wS58 cI cJ cZ cB p0 p1 p2 p3 p4 p5 x0_4 x0_5 x0_6 x0_7 x0_8 x0_9z4 x0_10z4 x0_11z4 x0_12z4 x0_13z4 y1 y2 x3_0 x4_0 y5) := hD
    refine lv_istore_n (lv' := [(1, .int rz5), (0, .ref p0)]) hx hb d_M_execute_28 rfl hl (by decide) rfl (fun ls hl => ?_)
    refine lv_iload_n hx hb d_M_execute_29 rfl (lv_at hl 0 rfl) ?_
    refine lv_if_eq (tgt := 35) hx hb d_M_execute_30 (by decide) (fun c6 => ?_) (fun c6 => ?_)
    · refine lv_aload_n hx hb d_M_execute_35 rfl (lv_at hl 1 rfl) ?_
      refine lv_aload_n hx hb d_M_execute_36 rfl (lv_at hl 1 rfl) ?_
      refine va_get (D := D) (ci := 1) (v := .int x0_6) (C := "SignMachine$Machine") (T := F_M) (N := 14) hx hb hk fi_M hown hK.1 hP 0 rfl rfl 6 (by decide) (hk _ k_172) (fun _ h9 => h9) rfl d_M_execute_37 ?_
      refine lv_aload_n hx hb d_M_execute_40 rfl (lv_at hl 1 rfl) ?_
      refine sn_i (va_runV (C := "SignMachine$Machine") (As := []) (rest := [.int x0_6, .ref p0]) ⟨hx, hb, hml, hown, hk⟩ (c_M_duration_s4 l K D cI cJ cZ cB p0 p1 p2 p3 p4 p5 H.size x0_4 x0_5 x0_6 x0_7 x0_8 x0_9z4 x0_10z4 x0_11z4 x0_12z4 x0_13z4 y1 y2 x3_0 x4_0 y5   ) (v_M_duration_s4 hk k_341 ⟨Nat.le_of_ble_eq_true rfl, Nat.le_of_ble_eq_true rfl⟩) (pMC_v hK hP hD hC hS hA (ci := 1) (q0 := 0) rfl rfl rfl) rfl rfl hl.1 rfl (lv_room (Nat.le_of_ble_eq_true rfl)) d_M_execute_41 ⟨by decide, by decide⟩) hS hA hD (fun rz7 u t H locs hr0 ht hB hFr hS => ?_)
      obtain ⟨hP, hD⟩ := hB
      rw [ht] at hP
      have hD := dwk hD hFr
      clear ht hFr
      have hP : va_P D classes (wS58 cI cJ cZ cB p0 p1 p2 p3 p4 p5 x0_4 x0_5 x0_6 x0_7 x0_8 x0_9z4 x0_10z4 x0_11z4 x0_12z4 x0_13z4 y1 y2 x3_0 x4_0 y5) H := hP
      have hD : va_D A (wS58 cI cJ cZ cB p0 p1 p2 p3 p4 p5 x0_4 x0_5 x0_6 x0_7 x0_8 x0_9z4 x0_10z4 x0_11z4 x0_12z4 x0_13z4 y1 y2 x3_0 x4_0 y5) := hD
      refine lv_iadd hx hb d_M_execute_44 ?_
      refine lv_topi (fun v8 hv8 => ?_)
      refine lv_ldc (v := 1073741823) hx hb hown (hk _ k_345) d_M_execute_45 ?_
      refine lv_iand hx hb d_M_execute_47 ?_
      refine lv_topi (fun v9 hv9 => ?_)
      refine va_put (D := D) (ci := 1) (v := .int v9) (ty := .int) (C := "SignMachine$Machine") (T := F_M) (N := 14) hx hb hk fi_M ft_M ft_M_ok fn_M hown hK.1 hP hD hS 0 rfl rfl 6 (by decide) (hk _ k_172) (fun _ h9 => h9) rfl (by decide +kernel) rfl rfl (Nat.le_of_ble_eq_true rfl) d_M_execute_48 (fun H locs hP hD hS => ?_)
      have hP : va_P D classes (wS58 cI cJ cZ cB p0 p1 p2 p3 p4 p5 x0_4 x0_5 v9 x0_7 x0_8 x0_9z4 x0_10z4 x0_11z4 x0_12z4 x0_13z4 y1 y2 x3_0 x4_0 y5) H := hP
      have hD : va_D A (wS58 cI cJ cZ cB p0 p1 p2 p3 p4 p5 x0_4 x0_5 v9 x0_7 x0_8 x0_9z4 x0_10z4 x0_11z4 x0_12z4 x0_13z4 y1 y2 x3_0 x4_0 y5) := hD
      refine lv_aload_n hx hb d_M_execute_51 rfl (lv_at hl 1 rfl) ?_
      refine lv_dup hx hb d_M_execute_52 rfl ?_
      refine va_get (D := D) (ci := 1) (v := .int x0_7) (C := "SignMachine$Machine") (T := F_M) (N := 14) hx hb hk fi_M hown hK.1 hP 0 rfl rfl 7 (by decide) (hk _ k_174) (fun _ h9 => h9) rfl d_M_execute_53 ?_
      refine lv_iconst (v := 1) hx hb d_M_execute_56 (by decide) ?_
      refine lv_iadd hx hb d_M_execute_57 ?_
      refine lv_topi (fun v10 hv10 => ?_)
      refine va_put (D := D) (ci := 1) (v := .int v10) (ty := .int) (C := "SignMachine$Machine") (T := F_M) (N := 14) hx hb hk fi_M ft_M ft_M_ok fn_M hown hK.1 hP hD hS 0 rfl rfl 7 (by decide) (hk _ k_174) (fun _ h9 => h9) rfl (by decide +kernel) rfl rfl (Nat.le_of_ble_eq_true rfl) d_M_execute_58 (fun H locs hP hD hS => ?_)
      have hP : va_P D classes (wS58 cI cJ cZ cB p0 p1 p2 p3 p4 p5 x0_4 x0_5 v9 v10 x0_8 x0_9z4 x0_10z4 x0_11z4 x0_12z4 x0_13z4 y1 y2 x3_0 x4_0 y5) H := hP
      have hD : va_D A (wS58 cI cJ cZ cB p0 p1 p2 p3 p4 p5 x0_4 x0_5 v9 v10 x0_8 x0_9z4 x0_10z4 x0_11z4 x0_12z4 x0_13z4 y1 y2 x3_0 x4_0 y5) := hD
      refine lv_aload_n hx hb d_M_execute_61 rfl (lv_at hl 1 rfl) ?_
      refine kn_v (va_runV (C := "SignMachine$Machine") (As := []) (rest := []) ⟨hx, hb, hml, hown, hk⟩ (c_M_perform_s11 l K D cI cJ cZ cB p0 p1 p2 p3 p4 p5 H.size x0_4 x0_5 v9 v10 x0_8 x0_9z4 x0_10z4 x0_11z4 x0_12z4 x0_13z4 y1 y2 x3_0 x4_0 y5   hc1) (v_M_perform_s11 hk k_346 ⟨Nat.le_of_ble_eq_true rfl, Nat.le_of_ble_eq_true rfl⟩) (pMC_v hK hP hD hC hS hA (ci := 1) (q0 := 0) rfl rfl rfl) rfl rfl hl.1 rfl (lv_room (Nat.le_of_ble_eq_true rfl)) d_M_execute_62 ⟨by decide, by decide⟩) hS hA hD (fun u t H locs ht hB hFr hS => ?_)
      obtain ⟨x0_4z11, x0_5z11, x0_7z11, y1z11, y2z11, x3_0z11, x4_0z11, hP, hD⟩ := hB
      rw [ht] at hP
      have hD := dwk hD hFr
      clear ht hFr
      have hP : va_P D classes (wS58 cI cJ cZ cB p0 p1 p2 p3 p4 p5 x0_4z11 x0_5z11 v9 x0_7z11 x0_8 x0_9z4 x0_10z4 x0_11z4 x0_12z4 x0_13z4 y1z11 y2z11 x3_0z11 x4_0z11 y5) H := hP
      have hD : va_D A (wS58 cI cJ cZ cB p0 p1 p2 p3 p4 p5 x0_4z11 x0_5z11 v9 x0_7z11 x0_8 x0_9z4 x0_10z4 x0_11z4 x0_12z4 x0_13z4 y1z11 y2z11 x3_0z11 x4_0z11 y5) := hD
      refine lv_aload_n hx hb d_M_execute_65 rfl (lv_at hl 1 rfl) ?_
      refine va_get (D := D) (ci := 1) (v := .int x0_9z4) (C := "SignMachine$Machine") (T := F_M) (N := 14) hx hb hk fi_M hown hK.1 hP 0 rfl rfl 9 (by decide) (hk _ k_176) (fun _ h9 => h9) rfl d_M_execute_66 ?_
      refine lv_iconst (v := 5) hx hb d_M_execute_69 (by decide) ?_
      refine lv_icmp_ne (tgt := 85) hx hb d_M_execute_70 (by decide) (fun c12 => ?_) (fun c12 => ?_)
      · refine lv_iconst (v := 0) hx hb d_M_execute_85 (by decide) ?_
        exact W.iret (v := (0 : Int32)) hx hb hr (fun t ht hW => ⟨⟨(0 : Int32), (), rfl, trivial, ⟨x0_4z11, x0_5z11, v9, x0_7z11, x0_9z4, x0_10z4, x0_11z4, x0_12z4, x0_13z4, y1z11, y2z11, x3_0z11, x4_0z11, by show va_P D classes _ t.heap; rw [ht]; exact hP, hD⟩⟩, hS.F ht⟩) hS.2.2 d_M_execute_86
      · refine lv_aload_n hx hb d_M_execute_73 rfl (lv_at hl 1 rfl) ?_
        refine va_get (D := D) (ci := 1) (v := .int x0_10z4) (C := "SignMachine$Machine") (T := F_M) (N := 14) hx hb hk fi_M hown hK.1 hP 0 rfl rfl 10 (by decide) (hk _ k_177) (fun _ h9 => h9) rfl d_M_execute_74 ?_
        refine lv_iconst (v := 2) hx hb d_M_execute_77 (by decide) ?_
        refine lv_icmp_ne (tgt := 85) hx hb d_M_execute_78 (by decide) (fun c13 => ?_) (fun c13 => ?_)
        · refine lv_iconst (v := 0) hx hb d_M_execute_85 (by decide) ?_
          exact W.iret (v := (0 : Int32)) hx hb hr (fun t ht hW => ⟨⟨(0 : Int32), (), rfl, trivial, ⟨x0_4z11, x0_5z11, v9, x0_7z11, x0_9z4, x0_10z4, x0_11z4, x0_12z4, x0_13z4, y1z11, y2z11, x3_0z11, x4_0z11, by show va_P D classes _ t.heap; rw [ht]; exact hP, hD⟩⟩, hS.F ht⟩) hS.2.2 d_M_execute_86
        · refine lv_iconst (v := 1) hx hb d_M_execute_81 (by decide) ?_
          refine lv_goto (tgt := 86) hx hb d_M_execute_82 (by decide) ?_
          exact W.iret (v := (1 : Int32)) hx hb hr (fun t ht hW => ⟨⟨(1 : Int32), (), rfl, trivial, ⟨x0_4z11, x0_5z11, v9, x0_7z11, x0_9z4, x0_10z4, x0_11z4, x0_12z4, x0_13z4, y1z11, y2z11, x3_0z11, x4_0z11, by show va_P D classes _ t.heap; rw [ht]; exact hP, hD⟩⟩, hS.F ht⟩) hS.2.2 d_M_execute_86
    · refine lv_iload_n hx hb d_M_execute_33 rfl (lv_at hl 0 rfl) ?_
      exact W.iret (v := rz5) hx hb hr (fun t ht hW => ⟨⟨rz5, (), rfl, trivial, ⟨x0_4, x0_5, x0_6, x0_7, x0_9z4, x0_10z4, x0_11z4, x0_12z4, x0_13z4, y1, y2, x3_0, x4_0, by show va_P D classes _ t.heap; rw [ht]; exact hP, hD⟩⟩, hS.F ht⟩) hS.2.2 d_M_execute_34
  · refine lv_iconst (v := 3) hx hb d_M_execute_10 (by decide) ?_
    exact W.iret (v := (3 : Int32)) hx hb hr (fun t ht hW => ⟨⟨(3 : Int32), (), rfl, trivial, ⟨x0_4, x0_5, x0_6, x0_7, x0_9, x0_10, x0_11, x0_12, x0_13, y1, y2, x3_0, x4_0, by show va_P D classes _ t.heap; rw [ht]; exact hP, hD⟩⟩, hS.F ht⟩) hS.2.2 d_M_execute_11
theorem v_M_execute_s11 {R : Room} {s : State} {args : Array Value} {own : String} {index : Nat} (hk : ∀ w ∈ tb, w.before args s = true) (hl : Cond.methodLink own index y_M_execute ∈ tb) (hR : 6 + 1 ≤ R.frames ∧ 8 + (2 + 11) + 130 ≤ R.locals) : CallW R s args own "SignMachine$Machine" index y_M_execute b_M_execute 2 (some .int) (.code y_M_execute b_M_execute 2 (some .int) :: tb) ({ frames := 6, cells := 0, slots := 0, locals := 130 }) 0 0 0 := mk_v 0 hk k_261 hl k_259 k_260 k_117 rfl rfl h_M_execute hR
abbrev wS63 (cI cJ cZ cB : ClassId) (p0 : Nat) (x0_3 : Int32) (x0_4 : Int32) (x0_5 : Int32) (x0_6 : Int32) (x0_7 : Int32) (x0_8 : Bool) (x0_9 : Int64) (x0_10 : Int32) (x0_12 : Int32) (x0_13 : Int32) (x0_14 : Int32) : va_W := [(p0, .inr (3, [.null, .null, .null, .int x0_3, .int x0_4, .int x0_5, .int x0_6, .int x0_7, .int (bI x0_8), .long x0_9, .int x0_10, .null, .int x0_12, .int x0_13, .int x0_14]))]
abbrev wS64 (cI cJ cZ cB : ClassId) (p0 p1 : Nat) (x0_3 : Int32) (x0_4 : Int32) (x0_5 : Int32) (x0_6 : Int32) (x0_7 : Int32) (x0_8 : Bool) (x0_9 : Int64) (x0_10 : Int32) (x0_12 : Int32) (x0_13 : Int32) (x0_14 : Int32) (x1_1 : Int32) (x1_2 : Int32) (x1_3 : Int32) (x1_4 : Int32) (x1_5 : Int32) (x1_6 : Int32) (x1_7 : Int64) (x1_8 : Int32) : va_W := [(p0, .inr (3, [.null, .null, .null, .int x0_3, .int x0_4, .int x0_5, .int x0_6, .int x0_7, .int (bI x0_8), .long x0_9, .int x0_10, .null, .int x0_12, .int x0_13, .int x0_14])), (p1, .inr (4, [.null, .int x1_1, .int x1_2, .int x1_3, .int x1_4, .int x1_5, .int x1_6, .long x1_7, .int x1_8]))]
abbrev wS65 (cI cJ cZ cB : ClassId) (p0 p1 p2 : Nat) (x0_3 : Int32) (x0_4 : Int32) (x0_5 : Int32) (x0_6 : Int32) (x0_7 : Int32) (x0_8 : Bool) (x0_9 : Int64) (x0_10 : Int32) (x0_12 : Int32) (x0_13 : Int32) (x0_14 : Int32) (x1_1 : Int32) (x1_2 : Int32) (x1_3 : Int32) (x1_4 : Int32) (x1_5 : Int32) (x1_6 : Int32) (x1_7 : Int64) (x1_8 : Int32) (y2 : Nat → Int32) : va_W := [(p0, .inr (3, [.null, .null, .null, .int x0_3, .int x0_4, .int x0_5, .int x0_6, .int x0_7, .int (bI x0_8), .long x0_9, .int x0_10, .null, .int x0_12, .int x0_13, .int x0_14])), (p1, .inr (4, [.null, .int x1_1, .int x1_2, .int x1_3, .int x1_4, .int x1_5, .int x1_6, .long x1_7, .int x1_8])), (p2, .inl (cB, 4000, .inl y2))]
abbrev wS66 (cI cJ cZ cB : ClassId) (p0 p1 p2 : Nat) (x0_3 : Int32) (x0_4 : Int32) (x0_5 : Int32) (x0_6 : Int32) (x0_7 : Int32) (x0_8 : Bool) (x0_9 : Int64) (x0_10 : Int32) (x0_12 : Int32) (x0_13 : Int32) (x0_14 : Int32) (x1_1 : Int32) (x1_2 : Int32) (x1_3 : Int32) (x1_4 : Int32) (x1_5 : Int32) (x1_6 : Int32) (x1_7 : Int64) (x1_8 : Int32) (y2 : Nat → Int32) : va_W := [(p0, .inr (3, [.null, .null, .null, .int x0_3, .int x0_4, .int x0_5, .int x0_6, .int x0_7, .int (bI x0_8), .long x0_9, .int x0_10, .null, .int x0_12, .int x0_13, .int x0_14])), (p1, .inr (4, [.ref p2, .int x1_1, .int x1_2, .int x1_3, .int x1_4, .int x1_5, .int x1_6, .long x1_7, .int x1_8])), (p2, .inl (cB, 4000, .inl y2))]
set_option maxHeartbeats 4000000 in
set_option maxRecDepth 100000 in
theorem c_R_init_s1 (l : Launch) (K : CK) (D : va_G) (cI cJ cZ cB : ClassId) (p0 p1 : Nat) (sz : Nat) (x0_3 : Int32) (x0_4 : Int32) (x0_5 : Int32) (x0_6 : Int32) (x0_7 : Int32) (x0_8 : Bool) (x0_9 : Int64) (x0_10 : Int32) (x0_12 : Int32) (x0_13 : Int32) (x0_14 : Int32) (x1_1 : Int32) (x1_2 : Int32) (x1_3 : Int32) (x1_4 : Int32) (x1_5 : Int32) (x1_6 : Int32) (x1_7 : Int64) (x1_8 : Int32)   : Met l y_R_init (.code y_R_init b_R_init 1 none :: tb) ({ frames := 1, cells := 1, slots := 4000, locals := 12 }) (pMC K D cI cJ cZ cB (wS64 cI cJ cZ cB p0 p1 x0_3 x0_4 x0_5 x0_6 x0_7 x0_8 x0_9 x0_10 x0_12 x0_13 x0_14 x1_1 x1_2 x1_3 x1_4 x1_5 x1_6 x1_7 x1_8) sz [.ref p1]) (va_Qv (fun (_ : Unit) => True) (fun _ t => (∃ p2 : Nat, ∃ u_y2 : Nat → Int32, va_P D classes (wS66 cI cJ cZ cB p0 p1 p2 x0_3 x0_4 x0_5 x0_6 x0_7 x0_8 x0_9 x0_10 x0_12 x0_13 x0_14 x1_1 x1_2 x1_3 x1_4 x1_5 x1_6 x1_7 x1_8 u_y2) t.heap ∧ va_D (va_A (wS64 cI cJ cZ cB p0 p1 x0_3 x0_4 x0_5 x0_6 x0_7 x0_8 x0_9 x0_10 x0_12 x0_13 x0_14 x1_1 x1_2 x1_3 x1_4 x1_5 x1_6 x1_7 x1_8) sz) (wS66 cI cJ cZ cB p0 p1 p2 x0_3 x0_4 x0_5 x0_6 x0_7 x0_8 x0_9 x0_10 x0_12 x0_13 x0_14 x1_1 x1_2 x1_3 x1_4 x1_5 x1_6 x1_7 x1_8 u_y2))) (va_A (wS64 cI cJ cZ cB p0 p1 x0_3 x0_4 x0_5 x0_6 x0_7 x0_8 x0_9 x0_10 x0_12 x0_13 x0_14 x1_1 x1_2 x1_3 x1_4 x1_5 x1_6 x1_7 x1_8) sz)) 1 4000 (va_A (wS64 cI cJ cZ cB p0 p1 x0_3 x0_4 x0_5 x0_6 x0_7 x0_8 x0_9 x0_10 x0_12 x0_13 x0_14 x1_1 x1_2 x1_3 x1_4 x1_5 x1_6 x1_7 x1_8) sz) := by
  refine Met.ofW (cc := b_R_init) (maxL := 1) (ret := none) (by decide) rfl ?_
  intro p e s m args below meth c s₁ B hml hv
  obtain ⟨rfl, hsz, hK, hP, hD0, hC⟩ := hv
  subst hsz
  have hD := hD0.self (sz := s.heap.size)
  generalize hAe : va_A (wS64 cI cJ cZ cB p0 p1 x0_3 x0_4 x0_5 x0_6 x0_7 x0_8 x0_9 x0_10 x0_12 x0_13 x0_14 x1_1 x1_2 x1_3 x1_4 x1_5 x1_6 x1_7 x1_8) s.heap.size = A at hD hC ⊢
  have hA : ∀ q : Nat, s.heap.size ≤ q → A q := fun q h => by rw [← hAe]; exact Or.inr h
  clear hAe hD0
  have hS : va_S A s.heap s.heap [] := va_S.rf
  have hx := B.exec
  have hb := B.bytes
  have hr := B.returns
  have hts := atoms_spec (ws := .code y_R_init b_R_init 1 none :: tb) B.pre
  have hk : ∀ w ∈ tb, w.before [.ref p1].toArray s = true := fun w h => hts w (List.mem_cons_of_mem _ h)
  have hown : s.vm.findClass "SignMachine$Source" = some m.cls := findClass_of_methodNamed B.named
  have hlocks := B.notSynchronized
  have hin : meth.name = "<init>" := (name_of_methodNamed B.named B.method).1
  have hl := lv_entry ([.ref p1]) (n := 1) (Nat.le_of_ble_eq_true rfl)
  rw [lg_entry_eq]
  generalize (lg_sl ([.ref p1]) ++ List.replicate (1 - (lg_sl ([.ref p1])).length) Slot.unset).toArray = ls at hl ⊢
  have hl : lv_has ls 1 [(0, .ref p1)] := hl
  refine lv_aload_n hx hb d_R_init_0 rfl (lv_at hl 0 rfl) ?_
  refine W.objInit hx hb hown (hk _ k_533) (hk _ k_140) (hk _ k_obj) rfl (by rw [hml]; exact hl.1) rfl d_R_init_1 (Nat.le_of_ble_eq_true rfl) (Nat.le_of_ble_eq_true rfl) ?_
  refine W.eq (g2 := F0 m 4 ls []) rfl ?_
  refine lv_aload_n hx hb d_R_init_4 rfl (lv_at hl 0 rfl) ?_
  refine lv_sipush (v := 4000) hx hb d_R_init_5 (by decide) ?_
  refine nwa (atype := .byte) (ty := .byte) (N' := 4000) (a0 := (4000, .inl (fun _ => 0))) hx hb (hk _ k_569) rfl hK.1 3 rfl (fun _ h => h) hP hD hS hA (zr_byte 4000) (by decide) (by decide) (by decide) (by decide) (by decide) d_R_init_8 (fun p2 H hP hD hS => ?_)
  have hP : va_P D classes (wS65 cI cJ cZ cB p0 p1 p2 x0_3 x0_4 x0_5 x0_6 x0_7 x0_8 x0_9 x0_10 x0_12 x0_13 x0_14 x1_1 x1_2 x1_3 x1_4 x1_5 x1_6 x1_7 x1_8 (fun _ => 0)) H := hP
  have hD : va_D A (wS65 cI cJ cZ cB p0 p1 p2 x0_3 x0_4 x0_5 x0_6 x0_7 x0_8 x0_9 x0_10 x0_12 x0_13 x0_14 x1_1 x1_2 x1_3 x1_4 x1_5 x1_6 x1_7 x1_8 (fun _ => 0)) := hD
  refine W.widen (k := 1) (n := 4000) (by decide) (by decide) ?_
  refine va_putF (D := D) (ci := 4) (v := .ref p2) (ty := (.array .byte)) (C := "SignMachine$Source") (T := F_R) (N := 9) hx hb hk fi_R ft_R ft_R_ok fn_R hown hK.1 hP hD hS 1 rfl rfl 0 (by decide) (hk _ k_534) (fun _ h9 => h9) rfl hin rfl (by decide +kernel) rfl rfl (Nat.le_of_ble_eq_true rfl) d_R_init_10 (fun H locs hP hD hS => ?_)
  have hP : va_P D classes (wS66 cI cJ cZ cB p0 p1 p2 x0_3 x0_4 x0_5 x0_6 x0_7 x0_8 x0_9 x0_10 x0_12 x0_13 x0_14 x1_1 x1_2 x1_3 x1_4 x1_5 x1_6 x1_7 x1_8 (fun _ => 0)) H := hP
  have hD : va_D A (wS66 cI cJ cZ cB p0 p1 p2 x0_3 x0_4 x0_5 x0_6 x0_7 x0_8 x0_9 x0_10 x0_12 x0_13 x0_14 x1_1 x1_2 x1_3 x1_4 x1_5 x1_6 x1_7 x1_8 (fun _ => 0)) := hD
  exact W.vret hx hb hr (fun t ht hW => ⟨⟨(), rfl, trivial, ⟨p2, (fun _ => 0), by show va_P D classes _ t.heap; rw [ht]; exact hP, hD⟩⟩, hS.F ht⟩) hS.2.2 d_R_init_13
theorem iN_R_init_s1 {R : Room} {s : State} {args : Array Value} {own host : String} {index : Nat} (hk : ∀ w ∈ tb, w.before args s = true) (hl : va_Nw (.methodLinkNest own index y_R_init host) s) (hR : 1 + 1 ≤ R.frames ∧ 8 + (1 + 11) + 12 ≤ R.locals) : va_CN R s args own index y_R_init host b_R_init 1 none (.code y_R_init b_R_init 1 none :: tb) ({ frames := 1, cells := 1, slots := 4000, locals := 12 }) 1 4000 0 ∧ (y_R_init).name = "<init>" ∧ (Cond.instanceMethod y_R_init).before args s = true := ⟨va_cnB 0 hk (gi_t k_532) rfl rfl rfl hl (hk _ k_124) h_R_init hR, rfl, hk _ k_531⟩
theorem iP_R_init_s1 {R : Room} {s : State} {args : Array Value} {own : String} {index : Nat} (hk : ∀ w ∈ tb, w.before args s = true) (hl : Cond.methodLink own index y_R_init ∈ tb) (hR : 1 + 1 ≤ R.frames ∧ 8 + (1 + 11) + 12 ≤ R.locals) : CallB R s args own index y_R_init b_R_init 1 none (.code y_R_init b_R_init 1 none :: tb) ({ frames := 1, cells := 1, slots := 4000, locals := 12 }) 1 4000 0 ∧ (y_R_init).name = "<init>" ∧ (Cond.instanceMethod y_R_init).before args s = true := ⟨callB_of 0 hk (gi_t k_532) rfl rfl rfl (hk _ k_124) (hk _ hl) h_R_init hR, rfl, hk _ k_531⟩
abbrev wS67 (cI cJ cZ cB : ClassId) (p0 p1 p2 : Nat) (x0_3 : Int32) (x0_4 : Int32) (x0_5 : Int32) (x0_6 : Int32) (x0_7 : Int32) (x0_8 : Bool) (x0_9 : Int64) (x0_10 : Int32) (x0_12 : Int32) (x0_13 : Int32) (x0_14 : Int32) (x1_1 : Int32) (x1_2 : Int32) (x1_3 : Int32) (x1_4 : Int32) (x1_5 : Int32) (x1_6 : Int32) (x1_7 : Int64) (x1_8 : Int32) (y2 : Nat → Int32) : va_W := [(p0, .inr (3, [.ref p1, .null, .null, .int x0_3, .int x0_4, .int x0_5, .int x0_6, .int x0_7, .int (bI x0_8), .long x0_9, .int x0_10, .null, .int x0_12, .int x0_13, .int x0_14])), (p1, .inr (4, [.ref p2, .int x1_1, .int x1_2, .int x1_3, .int x1_4, .int x1_5, .int x1_6, .long x1_7, .int x1_8])), (p2, .inl (cB, 4000, .inl y2))]
abbrev wS68 (cI cJ cZ cB : ClassId) (p0 p1 p2 p3 : Nat) (x0_3 : Int32) (x0_4 : Int32) (x0_5 : Int32) (x0_6 : Int32) (x0_7 : Int32) (x0_8 : Bool) (x0_9 : Int64) (x0_10 : Int32) (x0_12 : Int32) (x0_13 : Int32) (x0_14 : Int32) (x1_1 : Int32) (x1_2 : Int32) (x1_3 : Int32) (x1_4 : Int32) (x1_5 : Int32) (x1_6 : Int32) (x1_7 : Int64) (x1_8 : Int32) (y2 : Nat → Int32) (x3_5 : Int32) (x3_6 : Int32) : va_W := [(p0, .inr (3, [.ref p1, .null, .null, .int x0_3, .int x0_4, .int x0_5, .int x0_6, .int x0_7, .int (bI x0_8), .long x0_9, .int x0_10, .null, .int x0_12, .int x0_13, .int x0_14])), (p1, .inr (4, [.ref p2, .int x1_1, .int x1_2, .int x1_3, .int x1_4, .int x1_5, .int x1_6, .long x1_7, .int x1_8])), (p2, .inl (cB, 4000, .inl y2)), (p3, .inr (5, [.null, .null, .null, .null, .null, .int x3_5, .int x3_6]))]
abbrev wS69 (cI cJ cZ cB : ClassId) (p0 p1 p2 p3 p4 : Nat) (x0_3 : Int32) (x0_4 : Int32) (x0_5 : Int32) (x0_6 : Int32) (x0_7 : Int32) (x0_8 : Bool) (x0_9 : Int64) (x0_10 : Int32) (x0_12 : Int32) (x0_13 : Int32) (x0_14 : Int32) (x1_1 : Int32) (x1_2 : Int32) (x1_3 : Int32) (x1_4 : Int32) (x1_5 : Int32) (x1_6 : Int32) (x1_7 : Int64) (x1_8 : Int32) (y2 : Nat → Int32) (x3_5 : Int32) (x3_6 : Int32) (y4 : Nat → Int64) : va_W := [(p0, .inr (3, [.ref p1, .null, .null, .int x0_3, .int x0_4, .int x0_5, .int x0_6, .int x0_7, .int (bI x0_8), .long x0_9, .int x0_10, .null, .int x0_12, .int x0_13, .int x0_14])), (p1, .inr (4, [.ref p2, .int x1_1, .int x1_2, .int x1_3, .int x1_4, .int x1_5, .int x1_6, .long x1_7, .int x1_8])), (p2, .inl (cB, 4000, .inl y2)), (p3, .inr (5, [.null, .null, .null, .null, .null, .int x3_5, .int x3_6])), (p4, .inl (cJ, 100, .inr (.inl y4)))]
abbrev wS70 (cI cJ cZ cB : ClassId) (p0 p1 p2 p3 p4 : Nat) (x0_3 : Int32) (x0_4 : Int32) (x0_5 : Int32) (x0_6 : Int32) (x0_7 : Int32) (x0_8 : Bool) (x0_9 : Int64) (x0_10 : Int32) (x0_12 : Int32) (x0_13 : Int32) (x0_14 : Int32) (x1_1 : Int32) (x1_2 : Int32) (x1_3 : Int32) (x1_4 : Int32) (x1_5 : Int32) (x1_6 : Int32) (x1_7 : Int64) (x1_8 : Int32) (y2 : Nat → Int32) (x3_5 : Int32) (x3_6 : Int32) (y4 : Nat → Int64) : va_W := [(p0, .inr (3, [.ref p1, .null, .null, .int x0_3, .int x0_4, .int x0_5, .int x0_6, .int x0_7, .int (bI x0_8), .long x0_9, .int x0_10, .null, .int x0_12, .int x0_13, .int x0_14])), (p1, .inr (4, [.ref p2, .int x1_1, .int x1_2, .int x1_3, .int x1_4, .int x1_5, .int x1_6, .long x1_7, .int x1_8])), (p2, .inl (cB, 4000, .inl y2)), (p3, .inr (5, [.ref p4, .null, .null, .null, .null, .int x3_5, .int x3_6])), (p4, .inl (cJ, 100, .inr (.inl y4)))]
abbrev wS71 (cI cJ cZ cB : ClassId) (p0 p1 p2 p3 p4 p5 : Nat) (x0_3 : Int32) (x0_4 : Int32) (x0_5 : Int32) (x0_6 : Int32) (x0_7 : Int32) (x0_8 : Bool) (x0_9 : Int64) (x0_10 : Int32) (x0_12 : Int32) (x0_13 : Int32) (x0_14 : Int32) (x1_1 : Int32) (x1_2 : Int32) (x1_3 : Int32) (x1_4 : Int32) (x1_5 : Int32) (x1_6 : Int32) (x1_7 : Int64) (x1_8 : Int32) (y2 : Nat → Int32) (x3_5 : Int32) (x3_6 : Int32) (y4 : Nat → Int64) (y5 : Nat → Int32) : va_W := [(p0, .inr (3, [.ref p1, .null, .null, .int x0_3, .int x0_4, .int x0_5, .int x0_6, .int x0_7, .int (bI x0_8), .long x0_9, .int x0_10, .null, .int x0_12, .int x0_13, .int x0_14])), (p1, .inr (4, [.ref p2, .int x1_1, .int x1_2, .int x1_3, .int x1_4, .int x1_5, .int x1_6, .long x1_7, .int x1_8])), (p2, .inl (cB, 4000, .inl y2)), (p3, .inr (5, [.ref p4, .null, .null, .null, .null, .int x3_5, .int x3_6])), (p4, .inl (cJ, 100, .inr (.inl y4))), (p5, .inl (cI, 100, .inl y5))]
abbrev wS72 (cI cJ cZ cB : ClassId) (p0 p1 p2 p3 p4 p5 : Nat) (x0_3 : Int32) (x0_4 : Int32) (x0_5 : Int32) (x0_6 : Int32) (x0_7 : Int32) (x0_8 : Bool) (x0_9 : Int64) (x0_10 : Int32) (x0_12 : Int32) (x0_13 : Int32) (x0_14 : Int32) (x1_1 : Int32) (x1_2 : Int32) (x1_3 : Int32) (x1_4 : Int32) (x1_5 : Int32) (x1_6 : Int32) (x1_7 : Int64) (x1_8 : Int32) (y2 : Nat → Int32) (x3_5 : Int32) (x3_6 : Int32) (y4 : Nat → Int64) (y5 : Nat → Int32) : va_W := [(p0, .inr (3, [.ref p1, .null, .null, .int x0_3, .int x0_4, .int x0_5, .int x0_6, .int x0_7, .int (bI x0_8), .long x0_9, .int x0_10, .null, .int x0_12, .int x0_13, .int x0_14])), (p1, .inr (4, [.ref p2, .int x1_1, .int x1_2, .int x1_3, .int x1_4, .int x1_5, .int x1_6, .long x1_7, .int x1_8])), (p2, .inl (cB, 4000, .inl y2)), (p3, .inr (5, [.ref p4, .ref p5, .null, .null, .null, .int x3_5, .int x3_6])), (p4, .inl (cJ, 100, .inr (.inl y4))), (p5, .inl (cI, 100, .inl y5))]
abbrev wS73 (cI cJ cZ cB : ClassId) (p0 p1 p2 p3 p4 p5 p6 : Nat) (x0_3 : Int32) (x0_4 : Int32) (x0_5 : Int32) (x0_6 : Int32) (x0_7 : Int32) (x0_8 : Bool) (x0_9 : Int64) (x0_10 : Int32) (x0_12 : Int32) (x0_13 : Int32) (x0_14 : Int32) (x1_1 : Int32) (x1_2 : Int32) (x1_3 : Int32) (x1_4 : Int32) (x1_5 : Int32) (x1_6 : Int32) (x1_7 : Int64) (x1_8 : Int32) (y2 : Nat → Int32) (x3_5 : Int32) (x3_6 : Int32) (y4 : Nat → Int64) (y5 : Nat → Int32) (y6 : Nat → Int32) : va_W := [(p0, .inr (3, [.ref p1, .null, .null, .int x0_3, .int x0_4, .int x0_5, .int x0_6, .int x0_7, .int (bI x0_8), .long x0_9, .int x0_10, .null, .int x0_12, .int x0_13, .int x0_14])), (p1, .inr (4, [.ref p2, .int x1_1, .int x1_2, .int x1_3, .int x1_4, .int x1_5, .int x1_6, .long x1_7, .int x1_8])), (p2, .inl (cB, 4000, .inl y2)), (p3, .inr (5, [.ref p4, .ref p5, .null, .null, .null, .int x3_5, .int x3_6])), (p4, .inl (cJ, 100, .inr (.inl y4))), (p5, .inl (cI, 100, .inl y5)), (p6, .inl (cZ, 100, .inl y6))]
abbrev wS74 (cI cJ cZ cB : ClassId) (p0 p1 p2 p3 p4 p5 p6 : Nat) (x0_3 : Int32) (x0_4 : Int32) (x0_5 : Int32) (x0_6 : Int32) (x0_7 : Int32) (x0_8 : Bool) (x0_9 : Int64) (x0_10 : Int32) (x0_12 : Int32) (x0_13 : Int32) (x0_14 : Int32) (x1_1 : Int32) (x1_2 : Int32) (x1_3 : Int32) (x1_4 : Int32) (x1_5 : Int32) (x1_6 : Int32) (x1_7 : Int64) (x1_8 : Int32) (y2 : Nat → Int32) (x3_5 : Int32) (x3_6 : Int32) (y4 : Nat → Int64) (y5 : Nat → Int32) (y6 : Nat → Int32) : va_W := [(p0, .inr (3, [.ref p1, .null, .null, .int x0_3, .int x0_4, .int x0_5, .int x0_6, .int x0_7, .int (bI x0_8), .long x0_9, .int x0_10, .null, .int x0_12, .int x0_13, .int x0_14])), (p1, .inr (4, [.ref p2, .int x1_1, .int x1_2, .int x1_3, .int x1_4, .int x1_5, .int x1_6, .long x1_7, .int x1_8])), (p2, .inl (cB, 4000, .inl y2)), (p3, .inr (5, [.ref p4, .ref p5, .ref p6, .null, .null, .int x3_5, .int x3_6])), (p4, .inl (cJ, 100, .inr (.inl y4))), (p5, .inl (cI, 100, .inl y5)), (p6, .inl (cZ, 100, .inl y6))]
abbrev wS75 (cI cJ cZ cB : ClassId) (p0 p1 p2 p3 p4 p5 p6 p7 : Nat) (x0_3 : Int32) (x0_4 : Int32) (x0_5 : Int32) (x0_6 : Int32) (x0_7 : Int32) (x0_8 : Bool) (x0_9 : Int64) (x0_10 : Int32) (x0_12 : Int32) (x0_13 : Int32) (x0_14 : Int32) (x1_1 : Int32) (x1_2 : Int32) (x1_3 : Int32) (x1_4 : Int32) (x1_5 : Int32) (x1_6 : Int32) (x1_7 : Int64) (x1_8 : Int32) (y2 : Nat → Int32) (x3_5 : Int32) (x3_6 : Int32) (y4 : Nat → Int64) (y5 : Nat → Int32) (y6 : Nat → Int32) (y7 : Nat → Int32) : va_W := [(p0, .inr (3, [.ref p1, .null, .null, .int x0_3, .int x0_4, .int x0_5, .int x0_6, .int x0_7, .int (bI x0_8), .long x0_9, .int x0_10, .null, .int x0_12, .int x0_13, .int x0_14])), (p1, .inr (4, [.ref p2, .int x1_1, .int x1_2, .int x1_3, .int x1_4, .int x1_5, .int x1_6, .long x1_7, .int x1_8])), (p2, .inl (cB, 4000, .inl y2)), (p3, .inr (5, [.ref p4, .ref p5, .ref p6, .null, .null, .int x3_5, .int x3_6])), (p4, .inl (cJ, 100, .inr (.inl y4))), (p5, .inl (cI, 100, .inl y5)), (p6, .inl (cZ, 100, .inl y6)), (p7, .inl (cI, 10, .inl y7))]
abbrev wS76 (cI cJ cZ cB : ClassId) (p0 p1 p2 p3 p4 p5 p6 p7 : Nat) (x0_3 : Int32) (x0_4 : Int32) (x0_5 : Int32) (x0_6 : Int32) (x0_7 : Int32) (x0_8 : Bool) (x0_9 : Int64) (x0_10 : Int32) (x0_12 : Int32) (x0_13 : Int32) (x0_14 : Int32) (x1_1 : Int32) (x1_2 : Int32) (x1_3 : Int32) (x1_4 : Int32) (x1_5 : Int32) (x1_6 : Int32) (x1_7 : Int64) (x1_8 : Int32) (y2 : Nat → Int32) (x3_5 : Int32) (x3_6 : Int32) (y4 : Nat → Int64) (y5 : Nat → Int32) (y6 : Nat → Int32) (y7 : Nat → Int32) : va_W := [(p0, .inr (3, [.ref p1, .null, .null, .int x0_3, .int x0_4, .int x0_5, .int x0_6, .int x0_7, .int (bI x0_8), .long x0_9, .int x0_10, .null, .int x0_12, .int x0_13, .int x0_14])), (p1, .inr (4, [.ref p2, .int x1_1, .int x1_2, .int x1_3, .int x1_4, .int x1_5, .int x1_6, .long x1_7, .int x1_8])), (p2, .inl (cB, 4000, .inl y2)), (p3, .inr (5, [.ref p4, .ref p5, .ref p6, .ref p7, .null, .int x3_5, .int x3_6])), (p4, .inl (cJ, 100, .inr (.inl y4))), (p5, .inl (cI, 100, .inl y5)), (p6, .inl (cZ, 100, .inl y6)), (p7, .inl (cI, 10, .inl y7))]
abbrev wS77 (cI cJ cZ cB : ClassId) (p0 p1 p2 p3 p4 p5 p6 p7 p8 : Nat) (x0_3 : Int32) (x0_4 : Int32) (x0_5 : Int32) (x0_6 : Int32) (x0_7 : Int32) (x0_8 : Bool) (x0_9 : Int64) (x0_10 : Int32) (x0_12 : Int32) (x0_13 : Int32) (x0_14 : Int32) (x1_1 : Int32) (x1_2 : Int32) (x1_3 : Int32) (x1_4 : Int32) (x1_5 : Int32) (x1_6 : Int32) (x1_7 : Int64) (x1_8 : Int32) (y2 : Nat → Int32) (x3_5 : Int32) (x3_6 : Int32) (y4 : Nat → Int64) (y5 : Nat → Int32) (y6 : Nat → Int32) (y7 : Nat → Int32) (y8 : Nat → Int32) : va_W := [(p0, .inr (3, [.ref p1, .null, .null, .int x0_3, .int x0_4, .int x0_5, .int x0_6, .int x0_7, .int (bI x0_8), .long x0_9, .int x0_10, .null, .int x0_12, .int x0_13, .int x0_14])), (p1, .inr (4, [.ref p2, .int x1_1, .int x1_2, .int x1_3, .int x1_4, .int x1_5, .int x1_6, .long x1_7, .int x1_8])), (p2, .inl (cB, 4000, .inl y2)), (p3, .inr (5, [.ref p4, .ref p5, .ref p6, .ref p7, .null, .int x3_5, .int x3_6])), (p4, .inl (cJ, 100, .inr (.inl y4))), (p5, .inl (cI, 100, .inl y5)), (p6, .inl (cZ, 100, .inl y6)), (p7, .inl (cI, 10, .inl y7)), (p8, .inl (cZ, 10, .inl y8))]
abbrev wS78 (cI cJ cZ cB : ClassId) (p0 p1 p2 p3 p4 p5 p6 p7 p8 : Nat) (x0_3 : Int32) (x0_4 : Int32) (x0_5 : Int32) (x0_6 : Int32) (x0_7 : Int32) (x0_8 : Bool) (x0_9 : Int64) (x0_10 : Int32) (x0_12 : Int32) (x0_13 : Int32) (x0_14 : Int32) (x1_1 : Int32) (x1_2 : Int32) (x1_3 : Int32) (x1_4 : Int32) (x1_5 : Int32) (x1_6 : Int32) (x1_7 : Int64) (x1_8 : Int32) (y2 : Nat → Int32) (x3_5 : Int32) (x3_6 : Int32) (y4 : Nat → Int64) (y5 : Nat → Int32) (y6 : Nat → Int32) (y7 : Nat → Int32) (y8 : Nat → Int32) : va_W := [(p0, .inr (3, [.ref p1, .null, .null, .int x0_3, .int x0_4, .int x0_5, .int x0_6, .int x0_7, .int (bI x0_8), .long x0_9, .int x0_10, .null, .int x0_12, .int x0_13, .int x0_14])), (p1, .inr (4, [.ref p2, .int x1_1, .int x1_2, .int x1_3, .int x1_4, .int x1_5, .int x1_6, .long x1_7, .int x1_8])), (p2, .inl (cB, 4000, .inl y2)), (p3, .inr (5, [.ref p4, .ref p5, .ref p6, .ref p7, .ref p8, .int x3_5, .int x3_6])), (p4, .inl (cJ, 100, .inr (.inl y4))), (p5, .inl (cI, 100, .inl y5)), (p6, .inl (cZ, 100, .inl y6)), (p7, .inl (cI, 10, .inl y7)), (p8, .inl (cZ, 10, .inl y8))]
set_option maxHeartbeats 4000000 in
set_option maxRecDepth 100000 in
theorem c_N_init_s1 (l : Launch) (K : CK) (D : va_G) (cI cJ cZ cB : ClassId) (p0 p1 p2 p3 : Nat) (sz : Nat) (x0_3 : Int32) (x0_4 : Int32) (x0_5 : Int32) (x0_6 : Int32) (x0_7 : Int32) (x0_8 : Bool) (x0_9 : Int64) (x0_10 : Int32) (x0_12 : Int32) (x0_13 : Int32) (x0_14 : Int32) (x1_1 : Int32) (x1_2 : Int32) (x1_3 : Int32) (x1_4 : Int32) (x1_5 : Int32) (x1_6 : Int32) (x1_7 : Int64) (x1_8 : Int32) (y2 : Nat → Int32) (x3_5 : Int32) (x3_6 : Int32)   : Met l y_N_init (.code y_N_init b_N_init 1 none :: tb) ({ frames := 1, cells := 5, slots := 320, locals := 12 }) (pMC K D cI cJ cZ cB (wS68 cI cJ cZ cB p0 p1 p2 p3 x0_3 x0_4 x0_5 x0_6 x0_7 x0_8 x0_9 x0_10 x0_12 x0_13 x0_14 x1_1 x1_2 x1_3 x1_4 x1_5 x1_6 x1_7 x1_8 y2 x3_5 x3_6) sz [.ref p3]) (va_Qv (fun (_ : Unit) => True) (fun _ t => (∃ p4 p5 p6 p7 p8 : Nat, ∃ u_y4 : Nat → Int64, ∃ u_y5 : Nat → Int32, ∃ u_y6 : Nat → Int32, ∃ u_y7 : Nat → Int32, ∃ u_y8 : Nat → Int32, va_P D classes (wS78 cI cJ cZ cB p0 p1 p2 p3 p4 p5 p6 p7 p8 x0_3 x0_4 x0_5 x0_6 x0_7 x0_8 x0_9 x0_10 x0_12 x0_13 x0_14 x1_1 x1_2 x1_3 x1_4 x1_5 x1_6 x1_7 x1_8 y2 x3_5 x3_6 u_y4 u_y5 u_y6 u_y7 u_y8) t.heap ∧ va_D (va_A (wS68 cI cJ cZ cB p0 p1 p2 p3 x0_3 x0_4 x0_5 x0_6 x0_7 x0_8 x0_9 x0_10 x0_12 x0_13 x0_14 x1_1 x1_2 x1_3 x1_4 x1_5 x1_6 x1_7 x1_8 y2 x3_5 x3_6) sz) (wS78 cI cJ cZ cB p0 p1 p2 p3 p4 p5 p6 p7 p8 x0_3 x0_4 x0_5 x0_6 x0_7 x0_8 x0_9 x0_10 x0_12 x0_13 x0_14 x1_1 x1_2 x1_3 x1_4 x1_5 x1_6 x1_7 x1_8 y2 x3_5 x3_6 u_y4 u_y5 u_y6 u_y7 u_y8))) (va_A (wS68 cI cJ cZ cB p0 p1 p2 p3 x0_3 x0_4 x0_5 x0_6 x0_7 x0_8 x0_9 x0_10 x0_12 x0_13 x0_14 x1_1 x1_2 x1_3 x1_4 x1_5 x1_6 x1_7 x1_8 y2 x3_5 x3_6) sz)) 5 320 (va_A (wS68 cI cJ cZ cB p0 p1 p2 p3 x0_3 x0_4 x0_5 x0_6 x0_7 x0_8 x0_9 x0_10 x0_12 x0_13 x0_14 x1_1 x1_2 x1_3 x1_4 x1_5 x1_6 x1_7 x1_8 y2 x3_5 x3_6) sz) := by
  refine Met.ofW (cc := b_N_init) (maxL := 1) (ret := none) (by decide) rfl ?_
  intro p e s m args below meth c s₁ B hml hv
  obtain ⟨rfl, hsz, hK, hP, hD0, hC⟩ := hv
  subst hsz
  have hD := hD0.self (sz := s.heap.size)
  generalize hAe : va_A (wS68 cI cJ cZ cB p0 p1 p2 p3 x0_3 x0_4 x0_5 x0_6 x0_7 x0_8 x0_9 x0_10 x0_12 x0_13 x0_14 x1_1 x1_2 x1_3 x1_4 x1_5 x1_6 x1_7 x1_8 y2 x3_5 x3_6) s.heap.size = A at hD hC ⊢
  have hA : ∀ q : Nat, s.heap.size ≤ q → A q := fun q h => by rw [← hAe]; exact Or.inr h
  clear hAe hD0
  have hS : va_S A s.heap s.heap [] := va_S.rf
  have hx := B.exec
  have hb := B.bytes
  have hr := B.returns
  have hts := atoms_spec (ws := .code y_N_init b_N_init 1 none :: tb) B.pre
  have hk : ∀ w ∈ tb, w.before [.ref p3].toArray s = true := fun w h => hts w (List.mem_cons_of_mem _ h)
  have hown : s.vm.findClass "SignMachine$Names" = some m.cls := findClass_of_methodNamed B.named
  have hlocks := B.notSynchronized
  have hin : meth.name = "<init>" := (name_of_methodNamed B.named B.method).1
  have hl := lv_entry ([.ref p3]) (n := 1) (Nat.le_of_ble_eq_true rfl)
  rw [lg_entry_eq]
  generalize (lg_sl ([.ref p3]) ++ List.replicate (1 - (lg_sl ([.ref p3])).length) Slot.unset).toArray = ls at hl ⊢
  have hl : lv_has ls 1 [(0, .ref p3)] := hl
  refine lv_aload_n hx hb d_N_init_0 rfl (lv_at hl 0 rfl) ?_
  refine W.objInit hx hb hown (hk _ k_575) (hk _ k_140) (hk _ k_obj) rfl (by rw [hml]; exact hl.1) rfl d_N_init_1 (Nat.le_of_ble_eq_true rfl) (Nat.le_of_ble_eq_true rfl) ?_
  refine W.eq (g2 := F0 m 4 ls []) rfl ?_
  refine lv_aload_n hx hb d_N_init_4 rfl (lv_at hl 0 rfl) ?_
  refine lv_bipush (v := 100) hx hb d_N_init_5 (by decide) ?_
  refine nwa (atype := .long) (ty := .long) (N' := 100) (a0 := (100, .inr (.inl (fun _ => 0)))) hx hb (hk _ k_599) rfl hK.1 1 rfl (fun _ h => h) hP hD hS hA (zr_long 100) (by decide) (by decide) (by decide) (by decide) (by decide) d_N_init_7 (fun p4 H hP hD hS => ?_)
  have hP : va_P D classes (wS69 cI cJ cZ cB p0 p1 p2 p3 p4 x0_3 x0_4 x0_5 x0_6 x0_7 x0_8 x0_9 x0_10 x0_12 x0_13 x0_14 x1_1 x1_2 x1_3 x1_4 x1_5 x1_6 x1_7 x1_8 y2 x3_5 x3_6 (fun _ => 0)) H := hP
  have hD : va_D A (wS69 cI cJ cZ cB p0 p1 p2 p3 p4 x0_3 x0_4 x0_5 x0_6 x0_7 x0_8 x0_9 x0_10 x0_12 x0_13 x0_14 x1_1 x1_2 x1_3 x1_4 x1_5 x1_6 x1_7 x1_8 y2 x3_5 x3_6 (fun _ => 0)) := hD
  refine W.widen (k := 1) (n := 100) (by decide) (by decide) ?_
  refine va_putF (D := D) (ci := 5) (v := .ref p4) (ty := (.array .long)) (C := "SignMachine$Names") (T := F_N) (N := 7) hx hb hk fi_N ft_N ft_N_ok fn_N hown hK.1 hP hD hS 3 rfl rfl 0 (by decide) (hk _ k_576) (fun _ h9 => h9) rfl hin rfl (by decide +kernel) rfl rfl (Nat.le_of_ble_eq_true rfl) d_N_init_9 (fun H locs hP hD hS => ?_)
  have hP : va_P D classes (wS70 cI cJ cZ cB p0 p1 p2 p3 p4 x0_3 x0_4 x0_5 x0_6 x0_7 x0_8 x0_9 x0_10 x0_12 x0_13 x0_14 x1_1 x1_2 x1_3 x1_4 x1_5 x1_6 x1_7 x1_8 y2 x3_5 x3_6 (fun _ => 0)) H := hP
  have hD : va_D A (wS70 cI cJ cZ cB p0 p1 p2 p3 p4 x0_3 x0_4 x0_5 x0_6 x0_7 x0_8 x0_9 x0_10 x0_12 x0_13 x0_14 x1_1 x1_2 x1_3 x1_4 x1_5 x1_6 x1_7 x1_8 y2 x3_5 x3_6 (fun _ => 0)) := hD
  refine lv_aload_n hx hb d_N_init_12 rfl (lv_at hl 0 rfl) ?_
  refine lv_bipush (v := 100) hx hb d_N_init_13 (by decide) ?_
  refine nwa (atype := .int) (ty := .int) (N' := 100) (a0 := (100, .inl (fun _ => 0))) hx hb (hk _ k_162) rfl hK.1 0 rfl (fun _ h => h) hP hD hS hA (zr_int 100) (by decide) (by decide) (by decide) (by decide) (by decide) d_N_init_15 (fun p5 H hP hD hS => ?_)
  have hP : va_P D classes (wS71 cI cJ cZ cB p0 p1 p2 p3 p4 p5 x0_3 x0_4 x0_5 x0_6 x0_7 x0_8 x0_9 x0_10 x0_12 x0_13 x0_14 x1_1 x1_2 x1_3 x1_4 x1_5 x1_6 x1_7 x1_8 y2 x3_5 x3_6 (fun _ => 0) (fun _ => 0)) H := hP
  have hD : va_D A (wS71 cI cJ cZ cB p0 p1 p2 p3 p4 p5 x0_3 x0_4 x0_5 x0_6 x0_7 x0_8 x0_9 x0_10 x0_12 x0_13 x0_14 x1_1 x1_2 x1_3 x1_4 x1_5 x1_6 x1_7 x1_8 y2 x3_5 x3_6 (fun _ => 0) (fun _ => 0)) := hD
  refine W.widen (k := 2) (n := 200) (by decide) (by decide) ?_
  refine va_putF (D := D) (ci := 5) (v := .ref p5) (ty := (.array .int)) (C := "SignMachine$Names") (T := F_N) (N := 7) hx hb hk fi_N ft_N ft_N_ok fn_N hown hK.1 hP hD hS 3 rfl rfl 1 (by decide) (hk _ k_577) (fun _ h9 => h9) rfl hin rfl (by decide +kernel) rfl rfl (Nat.le_of_ble_eq_true rfl) d_N_init_17 (fun H locs hP hD hS => ?_)
  have hP : va_P D classes (wS72 cI cJ cZ cB p0 p1 p2 p3 p4 p5 x0_3 x0_4 x0_5 x0_6 x0_7 x0_8 x0_9 x0_10 x0_12 x0_13 x0_14 x1_1 x1_2 x1_3 x1_4 x1_5 x1_6 x1_7 x1_8 y2 x3_5 x3_6 (fun _ => 0) (fun _ => 0)) H := hP
  have hD : va_D A (wS72 cI cJ cZ cB p0 p1 p2 p3 p4 p5 x0_3 x0_4 x0_5 x0_6 x0_7 x0_8 x0_9 x0_10 x0_12 x0_13 x0_14 x1_1 x1_2 x1_3 x1_4 x1_5 x1_6 x1_7 x1_8 y2 x3_5 x3_6 (fun _ => 0) (fun _ => 0)) := hD
  refine lv_aload_n hx hb d_N_init_20 rfl (lv_at hl 0 rfl) ?_
  refine lv_bipush (v := 100) hx hb d_N_init_21 (by decide) ?_
  refine nwa (atype := .boolean) (ty := .boolean) (N' := 100) (a0 := (100, .inl (fun _ => 0))) hx hb (hk _ k_600) rfl hK.1 2 rfl (fun _ h => h) hP hD hS hA (zr_boolean 100) (by decide) (by decide) (by decide) (by decide) (by decide) d_N_init_23 (fun p6 H hP hD hS => ?_)
  have hP : va_P D classes (wS73 cI cJ cZ cB p0 p1 p2 p3 p4 p5 p6 x0_3 x0_4 x0_5 x0_6 x0_7 x0_8 x0_9 x0_10 x0_12 x0_13 x0_14 x1_1 x1_2 x1_3 x1_4 x1_5 x1_6 x1_7 x1_8 y2 x3_5 x3_6 (fun _ => 0) (fun _ => 0) (fun _ => 0)) H := hP
  have hD : va_D A (wS73 cI cJ cZ cB p0 p1 p2 p3 p4 p5 p6 x0_3 x0_4 x0_5 x0_6 x0_7 x0_8 x0_9 x0_10 x0_12 x0_13 x0_14 x1_1 x1_2 x1_3 x1_4 x1_5 x1_6 x1_7 x1_8 y2 x3_5 x3_6 (fun _ => 0) (fun _ => 0) (fun _ => 0)) := hD
  refine W.widen (k := 3) (n := 300) (by decide) (by decide) ?_
  refine va_putF (D := D) (ci := 5) (v := .ref p6) (ty := (.array .boolean)) (C := "SignMachine$Names") (T := F_N) (N := 7) hx hb hk fi_N ft_N ft_N_ok fn_N hown hK.1 hP hD hS 3 rfl rfl 2 (by decide) (hk _ k_578) (fun _ h9 => h9) rfl hin rfl (by decide +kernel) rfl rfl (Nat.le_of_ble_eq_true rfl) d_N_init_25 (fun H locs hP hD hS => ?_)
  have hP : va_P D classes (wS74 cI cJ cZ cB p0 p1 p2 p3 p4 p5 p6 x0_3 x0_4 x0_5 x0_6 x0_7 x0_8 x0_9 x0_10 x0_12 x0_13 x0_14 x1_1 x1_2 x1_3 x1_4 x1_5 x1_6 x1_7 x1_8 y2 x3_5 x3_6 (fun _ => 0) (fun _ => 0) (fun _ => 0)) H := hP
  have hD : va_D A (wS74 cI cJ cZ cB p0 p1 p2 p3 p4 p5 p6 x0_3 x0_4 x0_5 x0_6 x0_7 x0_8 x0_9 x0_10 x0_12 x0_13 x0_14 x1_1 x1_2 x1_3 x1_4 x1_5 x1_6 x1_7 x1_8 y2 x3_5 x3_6 (fun _ => 0) (fun _ => 0) (fun _ => 0)) := hD
  refine lv_aload_n hx hb d_N_init_28 rfl (lv_at hl 0 rfl) ?_
  refine lv_bipush (v := 10) hx hb d_N_init_29 (by decide) ?_
  refine nwa (atype := .int) (ty := .int) (N' := 10) (a0 := (10, .inl (fun _ => 0))) hx hb (hk _ k_162) rfl hK.1 0 rfl (fun _ h => h) hP hD hS hA (zr_int 10) (by decide) (by decide) (by decide) (by decide) (by decide) d_N_init_31 (fun p7 H hP hD hS => ?_)
  have hP : va_P D classes (wS75 cI cJ cZ cB p0 p1 p2 p3 p4 p5 p6 p7 x0_3 x0_4 x0_5 x0_6 x0_7 x0_8 x0_9 x0_10 x0_12 x0_13 x0_14 x1_1 x1_2 x1_3 x1_4 x1_5 x1_6 x1_7 x1_8 y2 x3_5 x3_6 (fun _ => 0) (fun _ => 0) (fun _ => 0) (fun _ => 0)) H := hP
  have hD : va_D A (wS75 cI cJ cZ cB p0 p1 p2 p3 p4 p5 p6 p7 x0_3 x0_4 x0_5 x0_6 x0_7 x0_8 x0_9 x0_10 x0_12 x0_13 x0_14 x1_1 x1_2 x1_3 x1_4 x1_5 x1_6 x1_7 x1_8 y2 x3_5 x3_6 (fun _ => 0) (fun _ => 0) (fun _ => 0) (fun _ => 0)) := hD
  refine W.widen (k := 4) (n := 310) (by decide) (by decide) ?_
  refine va_putF (D := D) (ci := 5) (v := .ref p7) (ty := (.array .int)) (C := "SignMachine$Names") (T := F_N) (N := 7) hx hb hk fi_N ft_N ft_N_ok fn_N hown hK.1 hP hD hS 3 rfl rfl 3 (by decide) (hk _ k_579) (fun _ h9 => h9) rfl hin rfl (by decide +kernel) rfl rfl (Nat.le_of_ble_eq_true rfl) d_N_init_33 (fun H locs hP hD hS => ?_)
  have hP : va_P D classes (wS76 cI cJ cZ cB p0 p1 p2 p3 p4 p5 p6 p7 x0_3 x0_4 x0_5 x0_6 x0_7 x0_8 x0_9 x0_10 x0_12 x0_13 x0_14 x1_1 x1_2 x1_3 x1_4 x1_5 x1_6 x1_7 x1_8 y2 x3_5 x3_6 (fun _ => 0) (fun _ => 0) (fun _ => 0) (fun _ => 0)) H := hP
  have hD : va_D A (wS76 cI cJ cZ cB p0 p1 p2 p3 p4 p5 p6 p7 x0_3 x0_4 x0_5 x0_6 x0_7 x0_8 x0_9 x0_10 x0_12 x0_13 x0_14 x1_1 x1_2 x1_3 x1_4 x1_5 x1_6 x1_7 x1_8 y2 x3_5 x3_6 (fun _ => 0) (fun _ => 0) (fun _ => 0) (fun _ => 0)) := hD
  refine lv_aload_n hx hb d_N_init_36 rfl (lv_at hl 0 rfl) ?_
  refine lv_bipush (v := 10) hx hb d_N_init_37 (by decide) ?_
  refine nwa (atype := .boolean) (ty := .boolean) (N' := 10) (a0 := (10, .inl (fun _ => 0))) hx hb (hk _ k_600) rfl hK.1 2 rfl (fun _ h => h) hP hD hS hA (zr_boolean 10) (by decide) (by decide) (by decide) (by decide) (by decide) d_N_init_39 (fun p8 H hP hD hS => ?_)
  have hP : va_P D classes (wS77 cI cJ cZ cB p0 p1 p2 p3 p4 p5 p6 p7 p8 x0_3 x0_4 x0_5 x0_6 x0_7 x0_8 x0_9 x0_10 x0_12 x0_13 x0_14 x1_1 x1_2 x1_3 x1_4 x1_5 x1_6 x1_7 x1_8 y2 x3_5 x3_6 (fun _ => 0) (fun _ => 0) (fun _ => 0) (fun _ => 0) (fun _ => 0)) H := hP
  have hD : va_D A (wS77 cI cJ cZ cB p0 p1 p2 p3 p4 p5 p6 p7 p8 x0_3 x0_4 x0_5 x0_6 x0_7 x0_8 x0_9 x0_10 x0_12 x0_13 x0_14 x1_1 x1_2 x1_3 x1_4 x1_5 x1_6 x1_7 x1_8 y2 x3_5 x3_6 (fun _ => 0) (fun _ => 0) (fun _ => 0) (fun _ => 0) (fun _ => 0)) := hD
  refine W.widen (k := 5) (n := 320) (by decide) (by decide) ?_
  refine va_putF (D := D) (ci := 5) (v := .ref p8) (ty := (.array .boolean)) (C := "SignMachine$Names") (T := F_N) (N := 7) hx hb hk fi_N ft_N ft_N_ok fn_N hown hK.1 hP hD hS 3 rfl rfl 4 (by decide) (hk _ k_580) (fun _ h9 => h9) rfl hin rfl (by decide +kernel) rfl rfl (Nat.le_of_ble_eq_true rfl) d_N_init_41 (fun H locs hP hD hS => ?_)
  have hP : va_P D classes (wS78 cI cJ cZ cB p0 p1 p2 p3 p4 p5 p6 p7 p8 x0_3 x0_4 x0_5 x0_6 x0_7 x0_8 x0_9 x0_10 x0_12 x0_13 x0_14 x1_1 x1_2 x1_3 x1_4 x1_5 x1_6 x1_7 x1_8 y2 x3_5 x3_6 (fun _ => 0) (fun _ => 0) (fun _ => 0) (fun _ => 0) (fun _ => 0)) H := hP
  have hD : va_D A (wS78 cI cJ cZ cB p0 p1 p2 p3 p4 p5 p6 p7 p8 x0_3 x0_4 x0_5 x0_6 x0_7 x0_8 x0_9 x0_10 x0_12 x0_13 x0_14 x1_1 x1_2 x1_3 x1_4 x1_5 x1_6 x1_7 x1_8 y2 x3_5 x3_6 (fun _ => 0) (fun _ => 0) (fun _ => 0) (fun _ => 0) (fun _ => 0)) := hD
  exact W.vret hx hb hr (fun t ht hW => ⟨⟨(), rfl, trivial, ⟨p4, p5, p6, p7, p8, (fun _ => 0), (fun _ => 0), (fun _ => 0), (fun _ => 0), (fun _ => 0), by show va_P D classes _ t.heap; rw [ht]; exact hP, hD⟩⟩, hS.F ht⟩) hS.2.2 d_N_init_44
theorem iN_N_init_s1 {R : Room} {s : State} {args : Array Value} {own host : String} {index : Nat} (hk : ∀ w ∈ tb, w.before args s = true) (hl : va_Nw (.methodLinkNest own index y_N_init host) s) (hR : 1 + 1 ≤ R.frames ∧ 8 + (1 + 11) + 12 ≤ R.locals) : va_CN R s args own index y_N_init host b_N_init 1 none (.code y_N_init b_N_init 1 none :: tb) ({ frames := 1, cells := 5, slots := 320, locals := 12 }) 5 320 0 ∧ (y_N_init).name = "<init>" ∧ (Cond.instanceMethod y_N_init).before args s = true := ⟨va_cnB 0 hk (gi_t k_574) rfl rfl rfl hl (hk _ k_125) h_N_init hR, rfl, hk _ k_573⟩
theorem iP_N_init_s1 {R : Room} {s : State} {args : Array Value} {own : String} {index : Nat} (hk : ∀ w ∈ tb, w.before args s = true) (hl : Cond.methodLink own index y_N_init ∈ tb) (hR : 1 + 1 ≤ R.frames ∧ 8 + (1 + 11) + 12 ≤ R.locals) : CallB R s args own index y_N_init b_N_init 1 none (.code y_N_init b_N_init 1 none :: tb) ({ frames := 1, cells := 5, slots := 320, locals := 12 }) 5 320 0 ∧ (y_N_init).name = "<init>" ∧ (Cond.instanceMethod y_N_init).before args s = true := ⟨callB_of 0 hk (gi_t k_574) rfl rfl rfl (hk _ k_125) (hk _ hl) h_N_init hR, rfl, hk _ k_573⟩
abbrev wS79 (cI cJ cZ cB : ClassId) (p0 p1 p2 p3 p4 p5 p6 p7 p8 : Nat) (x0_3 : Int32) (x0_4 : Int32) (x0_5 : Int32) (x0_6 : Int32) (x0_7 : Int32) (x0_8 : Bool) (x0_9 : Int64) (x0_10 : Int32) (x0_12 : Int32) (x0_13 : Int32) (x0_14 : Int32) (x1_1 : Int32) (x1_2 : Int32) (x1_3 : Int32) (x1_4 : Int32) (x1_5 : Int32) (x1_6 : Int32) (x1_7 : Int64) (x1_8 : Int32) (y2 : Nat → Int32) (x3_5 : Int32) (x3_6 : Int32) (y4 : Nat → Int64) (y5 : Nat → Int32) (y6 : Nat → Int32) (y7 : Nat → Int32) (y8 : Nat → Int32) : va_W := [(p0, .inr (3, [.ref p1, .ref p3, .null, .int x0_3, .int x0_4, .int x0_5, .int x0_6, .int x0_7, .int (bI x0_8), .long x0_9, .int x0_10, .null, .int x0_12, .int x0_13, .int x0_14])), (p1, .inr (4, [.ref p2, .int x1_1, .int x1_2, .int x1_3, .int x1_4, .int x1_5, .int x1_6, .long x1_7, .int x1_8])), (p2, .inl (cB, 4000, .inl y2)), (p3, .inr (5, [.ref p4, .ref p5, .ref p6, .ref p7, .ref p8, .int x3_5, .int x3_6])), (p4, .inl (cJ, 100, .inr (.inl y4))), (p5, .inl (cI, 100, .inl y5)), (p6, .inl (cZ, 100, .inl y6)), (p7, .inl (cI, 10, .inl y7)), (p8, .inl (cZ, 10, .inl y8))]
abbrev wS80 (cI cJ cZ cB : ClassId) (p0 p1 p2 p3 p4 p5 p6 p7 p8 p9 : Nat) (x0_3 : Int32) (x0_4 : Int32) (x0_5 : Int32) (x0_6 : Int32) (x0_7 : Int32) (x0_8 : Bool) (x0_9 : Int64) (x0_10 : Int32) (x0_12 : Int32) (x0_13 : Int32) (x0_14 : Int32) (x1_1 : Int32) (x1_2 : Int32) (x1_3 : Int32) (x1_4 : Int32) (x1_5 : Int32) (x1_6 : Int32) (x1_7 : Int64) (x1_8 : Int32) (y2 : Nat → Int32) (x3_5 : Int32) (x3_6 : Int32) (y4 : Nat → Int64) (y5 : Nat → Int32) (y6 : Nat → Int32) (y7 : Nat → Int32) (y8 : Nat → Int32) (x9_6 : Int32) : va_W := [(p0, .inr (3, [.ref p1, .ref p3, .null, .int x0_3, .int x0_4, .int x0_5, .int x0_6, .int x0_7, .int (bI x0_8), .long x0_9, .int x0_10, .null, .int x0_12, .int x0_13, .int x0_14])), (p1, .inr (4, [.ref p2, .int x1_1, .int x1_2, .int x1_3, .int x1_4, .int x1_5, .int x1_6, .long x1_7, .int x1_8])), (p2, .inl (cB, 4000, .inl y2)), (p3, .inr (5, [.ref p4, .ref p5, .ref p6, .ref p7, .ref p8, .int x3_5, .int x3_6])), (p4, .inl (cJ, 100, .inr (.inl y4))), (p5, .inl (cI, 100, .inl y5)), (p6, .inl (cZ, 100, .inl y6)), (p7, .inl (cI, 10, .inl y7)), (p8, .inl (cZ, 10, .inl y8)), (p9, .inr (6, [.null, .null, .null, .null, .null, .null, .int x9_6]))]
abbrev wS81 (cI cJ cZ cB : ClassId) (p0 p1 p2 p3 p4 p5 p6 p7 p8 p9 p10 : Nat) (x0_3 : Int32) (x0_4 : Int32) (x0_5 : Int32) (x0_6 : Int32) (x0_7 : Int32) (x0_8 : Bool) (x0_9 : Int64) (x0_10 : Int32) (x0_12 : Int32) (x0_13 : Int32) (x0_14 : Int32) (x1_1 : Int32) (x1_2 : Int32) (x1_3 : Int32) (x1_4 : Int32) (x1_5 : Int32) (x1_6 : Int32) (x1_7 : Int64) (x1_8 : Int32) (y2 : Nat → Int32) (x3_5 : Int32) (x3_6 : Int32) (y4 : Nat → Int64) (y5 : Nat → Int32) (y6 : Nat → Int32) (y7 : Nat → Int32) (y8 : Nat → Int32) (x9_6 : Int32) (y10 : Nat → Int32) : va_W := [(p0, .inr (3, [.ref p1, .ref p3, .null, .int x0_3, .int x0_4, .int x0_5, .int x0_6, .int x0_7, .int (bI x0_8), .long x0_9, .int x0_10, .null, .int x0_12, .int x0_13, .int x0_14])), (p1, .inr (4, [.ref p2, .int x1_1, .int x1_2, .int x1_3, .int x1_4, .int x1_5, .int x1_6, .long x1_7, .int x1_8])), (p2, .inl (cB, 4000, .inl y2)), (p3, .inr (5, [.ref p4, .ref p5, .ref p6, .ref p7, .ref p8, .int x3_5, .int x3_6])), (p4, .inl (cJ, 100, .inr (.inl y4))), (p5, .inl (cI, 100, .inl y5)), (p6, .inl (cZ, 100, .inl y6)), (p7, .inl (cI, 10, .inl y7)), (p8, .inl (cZ, 10, .inl y8)), (p9, .inr (6, [.null, .null, .null, .null, .null, .null, .int x9_6])), (p10, .inl (cI, 1101, .inl y10))]
abbrev wS82 (cI cJ cZ cB : ClassId) (p0 p1 p2 p3 p4 p5 p6 p7 p8 p9 p10 : Nat) (x0_3 : Int32) (x0_4 : Int32) (x0_5 : Int32) (x0_6 : Int32) (x0_7 : Int32) (x0_8 : Bool) (x0_9 : Int64) (x0_10 : Int32) (x0_12 : Int32) (x0_13 : Int32) (x0_14 : Int32) (x1_1 : Int32) (x1_2 : Int32) (x1_3 : Int32) (x1_4 : Int32) (x1_5 : Int32) (x1_6 : Int32) (x1_7 : Int64) (x1_8 : Int32) (y2 : Nat → Int32) (x3_5 : Int32) (x3_6 : Int32) (y4 : Nat → Int64) (y5 : Nat → Int32) (y6 : Nat → Int32) (y7 : Nat → Int32) (y8 : Nat → Int32) (x9_6 : Int32) (y10 : Nat → Int32) : va_W := [(p0, .inr (3, [.ref p1, .ref p3, .null, .int x0_3, .int x0_4, .int x0_5, .int x0_6, .int x0_7, .int (bI x0_8), .long x0_9, .int x0_10, .null, .int x0_12, .int x0_13, .int x0_14])), (p1, .inr (4, [.ref p2, .int x1_1, .int x1_2, .int x1_3, .int x1_4, .int x1_5, .int x1_6, .long x1_7, .int x1_8])), (p2, .inl (cB, 4000, .inl y2)), (p3, .inr (5, [.ref p4, .ref p5, .ref p6, .ref p7, .ref p8, .int x3_5, .int x3_6])), (p4, .inl (cJ, 100, .inr (.inl y4))), (p5, .inl (cI, 100, .inl y5)), (p6, .inl (cZ, 100, .inl y6)), (p7, .inl (cI, 10, .inl y7)), (p8, .inl (cZ, 10, .inl y8)), (p9, .inr (6, [.ref p10, .null, .null, .null, .null, .null, .int x9_6])), (p10, .inl (cI, 1101, .inl y10))]
abbrev wS83 (cI cJ cZ cB : ClassId) (p0 p1 p2 p3 p4 p5 p6 p7 p8 p9 p10 p11 : Nat) (x0_3 : Int32) (x0_4 : Int32) (x0_5 : Int32) (x0_6 : Int32) (x0_7 : Int32) (x0_8 : Bool) (x0_9 : Int64) (x0_10 : Int32) (x0_12 : Int32) (x0_13 : Int32) (x0_14 : Int32) (x1_1 : Int32) (x1_2 : Int32) (x1_3 : Int32) (x1_4 : Int32) (x1_5 : Int32) (x1_6 : Int32) (x1_7 : Int64) (x1_8 : Int32) (y2 : Nat → Int32) (x3_5 : Int32) (x3_6 : Int32) (y4 : Nat → Int64) (y5 : Nat → Int32) (y6 : Nat → Int32) (y7 : Nat → Int32) (y8 : Nat → Int32) (x9_6 : Int32) (y10 : Nat → Int32) (y11 : Nat → Int32) : va_W := [(p0, .inr (3, [.ref p1, .ref p3, .null, .int x0_3, .int x0_4, .int x0_5, .int x0_6, .int x0_7, .int (bI x0_8), .long x0_9, .int x0_10, .null, .int x0_12, .int x0_13, .int x0_14])), (p1, .inr (4, [.ref p2, .int x1_1, .int x1_2, .int x1_3, .int x1_4, .int x1_5, .int x1_6, .long x1_7, .int x1_8])), (p2, .inl (cB, 4000, .inl y2)), (p3, .inr (5, [.ref p4, .ref p5, .ref p6, .ref p7, .ref p8, .int x3_5, .int x3_6])), (p4, .inl (cJ, 100, .inr (.inl y4))), (p5, .inl (cI, 100, .inl y5)), (p6, .inl (cZ, 100, .inl y6)), (p7, .inl (cI, 10, .inl y7)), (p8, .inl (cZ, 10, .inl y8)), (p9, .inr (6, [.ref p10, .null, .null, .null, .null, .null, .int x9_6])), (p10, .inl (cI, 1101, .inl y10)), (p11, .inl (cI, 1101, .inl y11))]
abbrev wS84 (cI cJ cZ cB : ClassId) (p0 p1 p2 p3 p4 p5 p6 p7 p8 p9 p10 p11 : Nat) (x0_3 : Int32) (x0_4 : Int32) (x0_5 : Int32) (x0_6 : Int32) (x0_7 : Int32) (x0_8 : Bool) (x0_9 : Int64) (x0_10 : Int32) (x0_12 : Int32) (x0_13 : Int32) (x0_14 : Int32) (x1_1 : Int32) (x1_2 : Int32) (x1_3 : Int32) (x1_4 : Int32) (x1_5 : Int32) (x1_6 : Int32) (x1_7 : Int64) (x1_8 : Int32) (y2 : Nat → Int32) (x3_5 : Int32) (x3_6 : Int32) (y4 : Nat → Int64) (y5 : Nat → Int32) (y6 : Nat → Int32) (y7 : Nat → Int32) (y8 : Nat → Int32) (x9_6 : Int32) (y10 : Nat → Int32) (y11 : Nat → Int32) : va_W := [(p0, .inr (3, [.ref p1, .ref p3, .null, .int x0_3, .int x0_4, .int x0_5, .int x0_6, .int x0_7, .int (bI x0_8), .long x0_9, .int x0_10, .null, .int x0_12, .int x0_13, .int x0_14])), (p1, .inr (4, [.ref p2, .int x1_1, .int x1_2, .int x1_3, .int x1_4, .int x1_5, .int x1_6, .long x1_7, .int x1_8])), (p2, .inl (cB, 4000, .inl y2)), (p3, .inr (5, [.ref p4, .ref p5, .ref p6, .ref p7, .ref p8, .int x3_5, .int x3_6])), (p4, .inl (cJ, 100, .inr (.inl y4))), (p5, .inl (cI, 100, .inl y5)), (p6, .inl (cZ, 100, .inl y6)), (p7, .inl (cI, 10, .inl y7)), (p8, .inl (cZ, 10, .inl y8)), (p9, .inr (6, [.ref p10, .ref p11, .null, .null, .null, .null, .int x9_6])), (p10, .inl (cI, 1101, .inl y10)), (p11, .inl (cI, 1101, .inl y11))]
abbrev wS85 (cI cJ cZ cB : ClassId) (p0 p1 p2 p3 p4 p5 p6 p7 p8 p9 p10 p11 p12 : Nat) (x0_3 : Int32) (x0_4 : Int32) (x0_5 : Int32) (x0_6 : Int32) (x0_7 : Int32) (x0_8 : Bool) (x0_9 : Int64) (x0_10 : Int32) (x0_12 : Int32) (x0_13 : Int32) (x0_14 : Int32) (x1_1 : Int32) (x1_2 : Int32) (x1_3 : Int32) (x1_4 : Int32) (x1_5 : Int32) (x1_6 : Int32) (x1_7 : Int64) (x1_8 : Int32) (y2 : Nat → Int32) (x3_5 : Int32) (x3_6 : Int32) (y4 : Nat → Int64) (y5 : Nat → Int32) (y6 : Nat → Int32) (y7 : Nat → Int32) (y8 : Nat → Int32) (x9_6 : Int32) (y10 : Nat → Int32) (y11 : Nat → Int32) (y12 : Nat → Int32) : va_W := [(p0, .inr (3, [.ref p1, .ref p3, .null, .int x0_3, .int x0_4, .int x0_5, .int x0_6, .int x0_7, .int (bI x0_8), .long x0_9, .int x0_10, .null, .int x0_12, .int x0_13, .int x0_14])), (p1, .inr (4, [.ref p2, .int x1_1, .int x1_2, .int x1_3, .int x1_4, .int x1_5, .int x1_6, .long x1_7, .int x1_8])), (p2, .inl (cB, 4000, .inl y2)), (p3, .inr (5, [.ref p4, .ref p5, .ref p6, .ref p7, .ref p8, .int x3_5, .int x3_6])), (p4, .inl (cJ, 100, .inr (.inl y4))), (p5, .inl (cI, 100, .inl y5)), (p6, .inl (cZ, 100, .inl y6)), (p7, .inl (cI, 10, .inl y7)), (p8, .inl (cZ, 10, .inl y8)), (p9, .inr (6, [.ref p10, .ref p11, .null, .null, .null, .null, .int x9_6])), (p10, .inl (cI, 1101, .inl y10)), (p11, .inl (cI, 1101, .inl y11)), (p12, .inl (cI, 1101, .inl y12))]
abbrev wS86 (cI cJ cZ cB : ClassId) (p0 p1 p2 p3 p4 p5 p6 p7 p8 p9 p10 p11 p12 : Nat) (x0_3 : Int32) (x0_4 : Int32) (x0_5 : Int32) (x0_6 : Int32) (x0_7 : Int32) (x0_8 : Bool) (x0_9 : Int64) (x0_10 : Int32) (x0_12 : Int32) (x0_13 : Int32) (x0_14 : Int32) (x1_1 : Int32) (x1_2 : Int32) (x1_3 : Int32) (x1_4 : Int32) (x1_5 : Int32) (x1_6 : Int32) (x1_7 : Int64) (x1_8 : Int32) (y2 : Nat → Int32) (x3_5 : Int32) (x3_6 : Int32) (y4 : Nat → Int64) (y5 : Nat → Int32) (y6 : Nat → Int32) (y7 : Nat → Int32) (y8 : Nat → Int32) (x9_6 : Int32) (y10 : Nat → Int32) (y11 : Nat → Int32) (y12 : Nat → Int32) : va_W := [(p0, .inr (3, [.ref p1, .ref p3, .null, .int x0_3, .int x0_4, .int x0_5, .int x0_6, .int x0_7, .int (bI x0_8), .long x0_9, .int x0_10, .null, .int x0_12, .int x0_13, .int x0_14])), (p1, .inr (4, [.ref p2, .int x1_1, .int x1_2, .int x1_3, .int x1_4, .int x1_5, .int x1_6, .long x1_7, .int x1_8])), (p2, .inl (cB, 4000, .inl y2)), (p3, .inr (5, [.ref p4, .ref p5, .ref p6, .ref p7, .ref p8, .int x3_5, .int x3_6])), (p4, .inl (cJ, 100, .inr (.inl y4))), (p5, .inl (cI, 100, .inl y5)), (p6, .inl (cZ, 100, .inl y6)), (p7, .inl (cI, 10, .inl y7)), (p8, .inl (cZ, 10, .inl y8)), (p9, .inr (6, [.ref p10, .ref p11, .ref p12, .null, .null, .null, .int x9_6])), (p10, .inl (cI, 1101, .inl y10)), (p11, .inl (cI, 1101, .inl y11)), (p12, .inl (cI, 1101, .inl y12))]
abbrev wS87 (cI cJ cZ cB : ClassId) (p0 p1 p2 p3 p4 p5 p6 p7 p8 p9 p10 p11 p12 p13 : Nat) (x0_3 : Int32) (x0_4 : Int32) (x0_5 : Int32) (x0_6 : Int32) (x0_7 : Int32) (x0_8 : Bool) (x0_9 : Int64) (x0_10 : Int32) (x0_12 : Int32) (x0_13 : Int32) (x0_14 : Int32) (x1_1 : Int32) (x1_2 : Int32) (x1_3 : Int32) (x1_4 : Int32) (x1_5 : Int32) (x1_6 : Int32) (x1_7 : Int64) (x1_8 : Int32) (y2 : Nat → Int32) (x3_5 : Int32) (x3_6 : Int32) (y4 : Nat → Int64) (y5 : Nat → Int32) (y6 : Nat → Int32) (y7 : Nat → Int32) (y8 : Nat → Int32) (x9_6 : Int32) (y10 : Nat → Int32) (y11 : Nat → Int32) (y12 : Nat → Int32) (y13 : Nat → Int32) : va_W := [(p0, .inr (3, [.ref p1, .ref p3, .null, .int x0_3, .int x0_4, .int x0_5, .int x0_6, .int x0_7, .int (bI x0_8), .long x0_9, .int x0_10, .null, .int x0_12, .int x0_13, .int x0_14])), (p1, .inr (4, [.ref p2, .int x1_1, .int x1_2, .int x1_3, .int x1_4, .int x1_5, .int x1_6, .long x1_7, .int x1_8])), (p2, .inl (cB, 4000, .inl y2)), (p3, .inr (5, [.ref p4, .ref p5, .ref p6, .ref p7, .ref p8, .int x3_5, .int x3_6])), (p4, .inl (cJ, 100, .inr (.inl y4))), (p5, .inl (cI, 100, .inl y5)), (p6, .inl (cZ, 100, .inl y6)), (p7, .inl (cI, 10, .inl y7)), (p8, .inl (cZ, 10, .inl y8)), (p9, .inr (6, [.ref p10, .ref p11, .ref p12, .null, .null, .null, .int x9_6])), (p10, .inl (cI, 1101, .inl y10)), (p11, .inl (cI, 1101, .inl y11)), (p12, .inl (cI, 1101, .inl y12)), (p13, .inl (cB, 1101, .inl y13))]
abbrev wS88 (cI cJ cZ cB : ClassId) (p0 p1 p2 p3 p4 p5 p6 p7 p8 p9 p10 p11 p12 p13 : Nat) (x0_3 : Int32) (x0_4 : Int32) (x0_5 : Int32) (x0_6 : Int32) (x0_7 : Int32) (x0_8 : Bool) (x0_9 : Int64) (x0_10 : Int32) (x0_12 : Int32) (x0_13 : Int32) (x0_14 : Int32) (x1_1 : Int32) (x1_2 : Int32) (x1_3 : Int32) (x1_4 : Int32) (x1_5 : Int32) (x1_6 : Int32) (x1_7 : Int64) (x1_8 : Int32) (y2 : Nat → Int32) (x3_5 : Int32) (x3_6 : Int32) (y4 : Nat → Int64) (y5 : Nat → Int32) (y6 : Nat → Int32) (y7 : Nat → Int32) (y8 : Nat → Int32) (x9_6 : Int32) (y10 : Nat → Int32) (y11 : Nat → Int32) (y12 : Nat → Int32) (y13 : Nat → Int32) : va_W := [(p0, .inr (3, [.ref p1, .ref p3, .null, .int x0_3, .int x0_4, .int x0_5, .int x0_6, .int x0_7, .int (bI x0_8), .long x0_9, .int x0_10, .null, .int x0_12, .int x0_13, .int x0_14])), (p1, .inr (4, [.ref p2, .int x1_1, .int x1_2, .int x1_3, .int x1_4, .int x1_5, .int x1_6, .long x1_7, .int x1_8])), (p2, .inl (cB, 4000, .inl y2)), (p3, .inr (5, [.ref p4, .ref p5, .ref p6, .ref p7, .ref p8, .int x3_5, .int x3_6])), (p4, .inl (cJ, 100, .inr (.inl y4))), (p5, .inl (cI, 100, .inl y5)), (p6, .inl (cZ, 100, .inl y6)), (p7, .inl (cI, 10, .inl y7)), (p8, .inl (cZ, 10, .inl y8)), (p9, .inr (6, [.ref p10, .ref p11, .ref p12, .ref p13, .null, .null, .int x9_6])), (p10, .inl (cI, 1101, .inl y10)), (p11, .inl (cI, 1101, .inl y11)), (p12, .inl (cI, 1101, .inl y12)), (p13, .inl (cB, 1101, .inl y13))]
abbrev wS89 (cI cJ cZ cB : ClassId) (p0 p1 p2 p3 p4 p5 p6 p7 p8 p9 p10 p11 p12 p13 p14 : Nat) (x0_3 : Int32) (x0_4 : Int32) (x0_5 : Int32) (x0_6 : Int32) (x0_7 : Int32) (x0_8 : Bool) (x0_9 : Int64) (x0_10 : Int32) (x0_12 : Int32) (x0_13 : Int32) (x0_14 : Int32) (x1_1 : Int32) (x1_2 : Int32) (x1_3 : Int32) (x1_4 : Int32) (x1_5 : Int32) (x1_6 : Int32) (x1_7 : Int64) (x1_8 : Int32) (y2 : Nat → Int32) (x3_5 : Int32) (x3_6 : Int32) (y4 : Nat → Int64) (y5 : Nat → Int32) (y6 : Nat → Int32) (y7 : Nat → Int32) (y8 : Nat → Int32) (x9_6 : Int32) (y10 : Nat → Int32) (y11 : Nat → Int32) (y12 : Nat → Int32) (y13 : Nat → Int32) (y14 : Nat → Int32) : va_W := [(p0, .inr (3, [.ref p1, .ref p3, .null, .int x0_3, .int x0_4, .int x0_5, .int x0_6, .int x0_7, .int (bI x0_8), .long x0_9, .int x0_10, .null, .int x0_12, .int x0_13, .int x0_14])), (p1, .inr (4, [.ref p2, .int x1_1, .int x1_2, .int x1_3, .int x1_4, .int x1_5, .int x1_6, .long x1_7, .int x1_8])), (p2, .inl (cB, 4000, .inl y2)), (p3, .inr (5, [.ref p4, .ref p5, .ref p6, .ref p7, .ref p8, .int x3_5, .int x3_6])), (p4, .inl (cJ, 100, .inr (.inl y4))), (p5, .inl (cI, 100, .inl y5)), (p6, .inl (cZ, 100, .inl y6)), (p7, .inl (cI, 10, .inl y7)), (p8, .inl (cZ, 10, .inl y8)), (p9, .inr (6, [.ref p10, .ref p11, .ref p12, .ref p13, .null, .null, .int x9_6])), (p10, .inl (cI, 1101, .inl y10)), (p11, .inl (cI, 1101, .inl y11)), (p12, .inl (cI, 1101, .inl y12)), (p13, .inl (cB, 1101, .inl y13)), (p14, .inl (cI, 1101, .inl y14))]
abbrev wS90 (cI cJ cZ cB : ClassId) (p0 p1 p2 p3 p4 p5 p6 p7 p8 p9 p10 p11 p12 p13 p14 : Nat) (x0_3 : Int32) (x0_4 : Int32) (x0_5 : Int32) (x0_6 : Int32) (x0_7 : Int32) (x0_8 : Bool) (x0_9 : Int64) (x0_10 : Int32) (x0_12 : Int32) (x0_13 : Int32) (x0_14 : Int32) (x1_1 : Int32) (x1_2 : Int32) (x1_3 : Int32) (x1_4 : Int32) (x1_5 : Int32) (x1_6 : Int32) (x1_7 : Int64) (x1_8 : Int32) (y2 : Nat → Int32) (x3_5 : Int32) (x3_6 : Int32) (y4 : Nat → Int64) (y5 : Nat → Int32) (y6 : Nat → Int32) (y7 : Nat → Int32) (y8 : Nat → Int32) (x9_6 : Int32) (y10 : Nat → Int32) (y11 : Nat → Int32) (y12 : Nat → Int32) (y13 : Nat → Int32) (y14 : Nat → Int32) : va_W := [(p0, .inr (3, [.ref p1, .ref p3, .null, .int x0_3, .int x0_4, .int x0_5, .int x0_6, .int x0_7, .int (bI x0_8), .long x0_9, .int x0_10, .null, .int x0_12, .int x0_13, .int x0_14])), (p1, .inr (4, [.ref p2, .int x1_1, .int x1_2, .int x1_3, .int x1_4, .int x1_5, .int x1_6, .long x1_7, .int x1_8])), (p2, .inl (cB, 4000, .inl y2)), (p3, .inr (5, [.ref p4, .ref p5, .ref p6, .ref p7, .ref p8, .int x3_5, .int x3_6])), (p4, .inl (cJ, 100, .inr (.inl y4))), (p5, .inl (cI, 100, .inl y5)), (p6, .inl (cZ, 100, .inl y6)), (p7, .inl (cI, 10, .inl y7)), (p8, .inl (cZ, 10, .inl y8)), (p9, .inr (6, [.ref p10, .ref p11, .ref p12, .ref p13, .ref p14, .null, .int x9_6])), (p10, .inl (cI, 1101, .inl y10)), (p11, .inl (cI, 1101, .inl y11)), (p12, .inl (cI, 1101, .inl y12)), (p13, .inl (cB, 1101, .inl y13)), (p14, .inl (cI, 1101, .inl y14))]
abbrev wS91 (cI cJ cZ cB : ClassId) (p0 p1 p2 p3 p4 p5 p6 p7 p8 p9 p10 p11 p12 p13 p14 p15 : Nat) (x0_3 : Int32) (x0_4 : Int32) (x0_5 : Int32) (x0_6 : Int32) (x0_7 : Int32) (x0_8 : Bool) (x0_9 : Int64) (x0_10 : Int32) (x0_12 : Int32) (x0_13 : Int32) (x0_14 : Int32) (x1_1 : Int32) (x1_2 : Int32) (x1_3 : Int32) (x1_4 : Int32) (x1_5 : Int32) (x1_6 : Int32) (x1_7 : Int64) (x1_8 : Int32) (y2 : Nat → Int32) (x3_5 : Int32) (x3_6 : Int32) (y4 : Nat → Int64) (y5 : Nat → Int32) (y6 : Nat → Int32) (y7 : Nat → Int32) (y8 : Nat → Int32) (x9_6 : Int32) (y10 : Nat → Int32) (y11 : Nat → Int32) (y12 : Nat → Int32) (y13 : Nat → Int32) (y14 : Nat → Int32) (y15 : Nat → Int32) : va_W := [(p0, .inr (3, [.ref p1, .ref p3, .null, .int x0_3, .int x0_4, .int x0_5, .int x0_6, .int x0_7, .int (bI x0_8), .long x0_9, .int x0_10, .null, .int x0_12, .int x0_13, .int x0_14])), (p1, .inr (4, [.ref p2, .int x1_1, .int x1_2, .int x1_3, .int x1_4, .int x1_5, .int x1_6, .long x1_7, .int x1_8])), (p2, .inl (cB, 4000, .inl y2)), (p3, .inr (5, [.ref p4, .ref p5, .ref p6, .ref p7, .ref p8, .int x3_5, .int x3_6])), (p4, .inl (cJ, 100, .inr (.inl y4))), (p5, .inl (cI, 100, .inl y5)), (p6, .inl (cZ, 100, .inl y6)), (p7, .inl (cI, 10, .inl y7)), (p8, .inl (cZ, 10, .inl y8)), (p9, .inr (6, [.ref p10, .ref p11, .ref p12, .ref p13, .ref p14, .null, .int x9_6])), (p10, .inl (cI, 1101, .inl y10)), (p11, .inl (cI, 1101, .inl y11)), (p12, .inl (cI, 1101, .inl y12)), (p13, .inl (cB, 1101, .inl y13)), (p14, .inl (cI, 1101, .inl y14)), (p15, .inl (cI, 10, .inl y15))]
abbrev wS92 (cI cJ cZ cB : ClassId) (p0 p1 p2 p3 p4 p5 p6 p7 p8 p9 p10 p11 p12 p13 p14 p15 : Nat) (x0_3 : Int32) (x0_4 : Int32) (x0_5 : Int32) (x0_6 : Int32) (x0_7 : Int32) (x0_8 : Bool) (x0_9 : Int64) (x0_10 : Int32) (x0_12 : Int32) (x0_13 : Int32) (x0_14 : Int32) (x1_1 : Int32) (x1_2 : Int32) (x1_3 : Int32) (x1_4 : Int32) (x1_5 : Int32) (x1_6 : Int32) (x1_7 : Int64) (x1_8 : Int32) (y2 : Nat → Int32) (x3_5 : Int32) (x3_6 : Int32) (y4 : Nat → Int64) (y5 : Nat → Int32) (y6 : Nat → Int32) (y7 : Nat → Int32) (y8 : Nat → Int32) (x9_6 : Int32) (y10 : Nat → Int32) (y11 : Nat → Int32) (y12 : Nat → Int32) (y13 : Nat → Int32) (y14 : Nat → Int32) (y15 : Nat → Int32) : va_W := [(p0, .inr (3, [.ref p1, .ref p3, .null, .int x0_3, .int x0_4, .int x0_5, .int x0_6, .int x0_7, .int (bI x0_8), .long x0_9, .int x0_10, .null, .int x0_12, .int x0_13, .int x0_14])), (p1, .inr (4, [.ref p2, .int x1_1, .int x1_2, .int x1_3, .int x1_4, .int x1_5, .int x1_6, .long x1_7, .int x1_8])), (p2, .inl (cB, 4000, .inl y2)), (p3, .inr (5, [.ref p4, .ref p5, .ref p6, .ref p7, .ref p8, .int x3_5, .int x3_6])), (p4, .inl (cJ, 100, .inr (.inl y4))), (p5, .inl (cI, 100, .inl y5)), (p6, .inl (cZ, 100, .inl y6)), (p7, .inl (cI, 10, .inl y7)), (p8, .inl (cZ, 10, .inl y8)), (p9, .inr (6, [.ref p10, .ref p11, .ref p12, .ref p13, .ref p14, .ref p15, .int x9_6])), (p10, .inl (cI, 1101, .inl y10)), (p11, .inl (cI, 1101, .inl y11)), (p12, .inl (cI, 1101, .inl y12)), (p13, .inl (cB, 1101, .inl y13)), (p14, .inl (cI, 1101, .inl y14)), (p15, .inl (cI, 10, .inl y15))]
set_option maxHeartbeats 4000000 in
set_option maxRecDepth 100000 in
theorem c_O_init_s1 (l : Launch) (K : CK) (D : va_G) (cI cJ cZ cB : ClassId) (p0 p1 p2 p3 p4 p5 p6 p7 p8 p9 : Nat) (sz : Nat) (x0_3 : Int32) (x0_4 : Int32) (x0_5 : Int32) (x0_6 : Int32) (x0_7 : Int32) (x0_8 : Bool) (x0_9 : Int64) (x0_10 : Int32) (x0_12 : Int32) (x0_13 : Int32) (x0_14 : Int32) (x1_1 : Int32) (x1_2 : Int32) (x1_3 : Int32) (x1_4 : Int32) (x1_5 : Int32) (x1_6 : Int32) (x1_7 : Int64) (x1_8 : Int32) (y2 : Nat → Int32) (x3_5 : Int32) (x3_6 : Int32) (y4 : Nat → Int64) (y5 : Nat → Int32) (y6 : Nat → Int32) (y7 : Nat → Int32) (y8 : Nat → Int32) (x9_6 : Int32)   : Met l y_O_init (.code y_O_init b_O_init 1 none :: tb) ({ frames := 1, cells := 6, slots := 5515, locals := 12 }) (pMC K D cI cJ cZ cB (wS80 cI cJ cZ cB p0 p1 p2 p3 p4 p5 p6 p7 p8 p9 x0_3 x0_4 x0_5 x0_6 x0_7 x0_8 x0_9 x0_10 x0_12 x0_13 x0_14 x1_1 x1_2 x1_3 x1_4 x1_5 x1_6 x1_7 x1_8 y2 x3_5 x3_6 y4 y5 y6 y7 y8 x9_6) sz [.ref p9]) (va_Qv (fun (_ : Unit) => True) (fun _ t => (∃ p10 p11 p12 p13 p14 p15 : Nat, ∃ u_y10 : Nat → Int32, ∃ u_y11 : Nat → Int32, ∃ u_y12 : Nat → Int32, ∃ u_y13 : Nat → Int32, ∃ u_y14 : Nat → Int32, ∃ u_y15 : Nat → Int32, va_P D classes (wS92 cI cJ cZ cB p0 p1 p2 p3 p4 p5 p6 p7 p8 p9 p10 p11 p12 p13 p14 p15 x0_3 x0_4 x0_5 x0_6 x0_7 x0_8 x0_9 x0_10 x0_12 x0_13 x0_14 x1_1 x1_2 x1_3 x1_4 x1_5 x1_6 x1_7 x1_8 y2 x3_5 x3_6 y4 y5 y6 y7 y8 x9_6 u_y10 u_y11 u_y12 u_y13 u_y14 u_y15) t.heap ∧ va_D (va_A (wS80 cI cJ cZ cB p0 p1 p2 p3 p4 p5 p6 p7 p8 p9 x0_3 x0_4 x0_5 x0_6 x0_7 x0_8 x0_9 x0_10 x0_12 x0_13 x0_14 x1_1 x1_2 x1_3 x1_4 x1_5 x1_6 x1_7 x1_8 y2 x3_5 x3_6 y4 y5 y6 y7 y8 x9_6) sz) (wS92 cI cJ cZ cB p0 p1 p2 p3 p4 p5 p6 p7 p8 p9 p10 p11 p12 p13 p14 p15 x0_3 x0_4 x0_5 x0_6 x0_7 x0_8 x0_9 x0_10 x0_12 x0_13 x0_14 x1_1 x1_2 x1_3 x1_4 x1_5 x1_6 x1_7 x1_8 y2 x3_5 x3_6 y4 y5 y6 y7 y8 x9_6 u_y10 u_y11 u_y12 u_y13 u_y14 u_y15))) (va_A (wS80 cI cJ cZ cB p0 p1 p2 p3 p4 p5 p6 p7 p8 p9 x0_3 x0_4 x0_5 x0_6 x0_7 x0_8 x0_9 x0_10 x0_12 x0_13 x0_14 x1_1 x1_2 x1_3 x1_4 x1_5 x1_6 x1_7 x1_8 y2 x3_5 x3_6 y4 y5 y6 y7 y8 x9_6) sz)) 6 5515 (va_A (wS80 cI cJ cZ cB p0 p1 p2 p3 p4 p5 p6 p7 p8 p9 x0_3 x0_4 x0_5 x0_6 x0_7 x0_8 x0_9 x0_10 x0_12 x0_13 x0_14 x1_1 x1_2 x1_3 x1_4 x1_5 x1_6 x1_7 x1_8 y2 x3_5 x3_6 y4 y5 y6 y7 y8 x9_6) sz) := by
  refine Met.ofW (cc := b_O_init) (maxL := 1) (ret := none) (by decide) rfl ?_
  intro p e s m args below meth c s₁ B hml hv
  obtain ⟨rfl, hsz, hK, hP, hD0, hC⟩ := hv
  subst hsz
  have hD := hD0.self (sz := s.heap.size)
  generalize hAe : va_A (wS80 cI cJ cZ cB p0 p1 p2 p3 p4 p5 p6 p7 p8 p9 x0_3 x0_4 x0_5 x0_6 x0_7 x0_8 x0_9 x0_10 x0_12 x0_13 x0_14 x1_1 x1_2 x1_3 x1_4 x1_5 x1_6 x1_7 x1_8 y2 x3_5 x3_6 y4 y5 y6 y7 y8 x9_6) s.heap.size = A at hD hC ⊢
  have hA : ∀ q : Nat, s.heap.size ≤ q → A q := fun q h => by rw [← hAe]; exact Or.inr h
  clear hAe hD0
  have hS : va_S A s.heap s.heap [] := va_S.rf
  have hx := B.exec
  have hb := B.bytes
  have hr := B.returns
  have hts := atoms_spec (ws := .code y_O_init b_O_init 1 none :: tb) B.pre
  have hk : ∀ w ∈ tb, w.before [.ref p9].toArray s = true := fun w h => hts w (List.mem_cons_of_mem _ h)
  have hown : s.vm.findClass "SignMachine$Output" = some m.cls := findClass_of_methodNamed B.named
  have hlocks := B.notSynchronized
  have hin : meth.name = "<init>" := (name_of_methodNamed B.named B.method).1
  have hl := lv_entry ([.ref p9]) (n := 1) (Nat.le_of_ble_eq_true rfl)
  rw [lg_entry_eq]
  generalize (lg_sl ([.ref p9]) ++ List.replicate (1 - (lg_sl ([.ref p9])).length) Slot.unset).toArray = ls at hl ⊢
  have hl : lv_has ls 1 [(0, .ref p9)] := hl
  refine lv_aload_n hx hb d_O_init_0 rfl (lv_at hl 0 rfl) ?_
  refine W.objInit hx hb hown (hk _ k_606) (hk _ k_140) (hk _ k_obj) rfl (by rw [hml]; exact hl.1) rfl d_O_init_1 (Nat.le_of_ble_eq_true rfl) (Nat.le_of_ble_eq_true rfl) ?_
  refine W.eq (g2 := F0 m 4 ls []) rfl ?_
  refine lv_aload_n hx hb d_O_init_4 rfl (lv_at hl 0 rfl) ?_
  refine lv_sipush (v := 1101) hx hb d_O_init_5 (by decide) ?_
  refine nwa (atype := .int) (ty := .int) (N' := 1101) (a0 := (1101, .inl (fun _ => 0))) hx hb (hk _ k_162) rfl hK.1 0 rfl (fun _ h => h) hP hD hS hA (zr_int 1101) (by decide) (by decide) (by decide) (by decide) (by decide) d_O_init_8 (fun p10 H hP hD hS => ?_)
  have hP : va_P D classes (wS81 cI cJ cZ cB p0 p1 p2 p3 p4 p5 p6 p7 p8 p9 p10 x0_3 x0_4 x0_5 x0_6 x0_7 x0_8 x0_9 x0_10 x0_12 x0_13 x0_14 x1_1 x1_2 x1_3 x1_4 x1_5 x1_6 x1_7 x1_8 y2 x3_5 x3_6 y4 y5 y6 y7 y8 x9_6 (fun _ => 0)) H := hP
  have hD : va_D A (wS81 cI cJ cZ cB p0 p1 p2 p3 p4 p5 p6 p7 p8 p9 p10 x0_3 x0_4 x0_5 x0_6 x0_7 x0_8 x0_9 x0_10 x0_12 x0_13 x0_14 x1_1 x1_2 x1_3 x1_4 x1_5 x1_6 x1_7 x1_8 y2 x3_5 x3_6 y4 y5 y6 y7 y8 x9_6 (fun _ => 0)) := hD
  refine W.widen (k := 1) (n := 1101) (by decide) (by decide) ?_
  refine va_putF (D := D) (ci := 6) (v := .ref p10) (ty := (.array .int)) (C := "SignMachine$Output") (T := F_O) (N := 7) hx hb hk fi_O ft_O ft_O_ok fn_O hown hK.1 hP hD hS 9 rfl rfl 0 (by decide) (hk _ k_607) (fun _ h9 => h9) rfl hin rfl (by decide +kernel) rfl rfl (Nat.le_of_ble_eq_true rfl) d_O_init_10 (fun H locs hP hD hS => ?_)
  have hP : va_P D classes (wS82 cI cJ cZ cB p0 p1 p2 p3 p4 p5 p6 p7 p8 p9 p10 x0_3 x0_4 x0_5 x0_6 x0_7 x0_8 x0_9 x0_10 x0_12 x0_13 x0_14 x1_1 x1_2 x1_3 x1_4 x1_5 x1_6 x1_7 x1_8 y2 x3_5 x3_6 y4 y5 y6 y7 y8 x9_6 (fun _ => 0)) H := hP
  have hD : va_D A (wS82 cI cJ cZ cB p0 p1 p2 p3 p4 p5 p6 p7 p8 p9 p10 x0_3 x0_4 x0_5 x0_6 x0_7 x0_8 x0_9 x0_10 x0_12 x0_13 x0_14 x1_1 x1_2 x1_3 x1_4 x1_5 x1_6 x1_7 x1_8 y2 x3_5 x3_6 y4 y5 y6 y7 y8 x9_6 (fun _ => 0)) := hD
  refine lv_aload_n hx hb d_O_init_13 rfl (lv_at hl 0 rfl) ?_
  refine lv_sipush (v := 1101) hx hb d_O_init_14 (by decide) ?_
  refine nwa (atype := .int) (ty := .int) (N' := 1101) (a0 := (1101, .inl (fun _ => 0))) hx hb (hk _ k_162) rfl hK.1 0 rfl (fun _ h => h) hP hD hS hA (zr_int 1101) (by decide) (by decide) (by decide) (by decide) (by decide) d_O_init_17 (fun p11 H hP hD hS => ?_)
  have hP : va_P D classes (wS83 cI cJ cZ cB p0 p1 p2 p3 p4 p5 p6 p7 p8 p9 p10 p11 x0_3 x0_4 x0_5 x0_6 x0_7 x0_8 x0_9 x0_10 x0_12 x0_13 x0_14 x1_1 x1_2 x1_3 x1_4 x1_5 x1_6 x1_7 x1_8 y2 x3_5 x3_6 y4 y5 y6 y7 y8 x9_6 (fun _ => 0) (fun _ => 0)) H := hP
  have hD : va_D A (wS83 cI cJ cZ cB p0 p1 p2 p3 p4 p5 p6 p7 p8 p9 p10 p11 x0_3 x0_4 x0_5 x0_6 x0_7 x0_8 x0_9 x0_10 x0_12 x0_13 x0_14 x1_1 x1_2 x1_3 x1_4 x1_5 x1_6 x1_7 x1_8 y2 x3_5 x3_6 y4 y5 y6 y7 y8 x9_6 (fun _ => 0) (fun _ => 0)) := hD
  refine W.widen (k := 2) (n := 2202) (by decide) (by decide) ?_
  refine va_putF (D := D) (ci := 6) (v := .ref p11) (ty := (.array .int)) (C := "SignMachine$Output") (T := F_O) (N := 7) hx hb hk fi_O ft_O ft_O_ok fn_O hown hK.1 hP hD hS 9 rfl rfl 1 (by decide) (hk _ k_608) (fun _ h9 => h9) rfl hin rfl (by decide +kernel) rfl rfl (Nat.le_of_ble_eq_true rfl) d_O_init_19 (fun H locs hP hD hS => ?_)
  have hP : va_P D classes (wS84 cI cJ cZ cB p0 p1 p2 p3 p4 p5 p6 p7 p8 p9 p10 p11 x0_3 x0_4 x0_5 x0_6 x0_7 x0_8 x0_9 x0_10 x0_12 x0_13 x0_14 x1_1 x1_2 x1_3 x1_4 x1_5 x1_6 x1_7 x1_8 y2 x3_5 x3_6 y4 y5 y6 y7 y8 x9_6 (fun _ => 0) (fun _ => 0)) H := hP
  have hD : va_D A (wS84 cI cJ cZ cB p0 p1 p2 p3 p4 p5 p6 p7 p8 p9 p10 p11 x0_3 x0_4 x0_5 x0_6 x0_7 x0_8 x0_9 x0_10 x0_12 x0_13 x0_14 x1_1 x1_2 x1_3 x1_4 x1_5 x1_6 x1_7 x1_8 y2 x3_5 x3_6 y4 y5 y6 y7 y8 x9_6 (fun _ => 0) (fun _ => 0)) := hD
  refine lv_aload_n hx hb d_O_init_22 rfl (lv_at hl 0 rfl) ?_
  refine lv_sipush (v := 1101) hx hb d_O_init_23 (by decide) ?_
  refine nwa (atype := .int) (ty := .int) (N' := 1101) (a0 := (1101, .inl (fun _ => 0))) hx hb (hk _ k_162) rfl hK.1 0 rfl (fun _ h => h) hP hD hS hA (zr_int 1101) (by decide) (by decide) (by decide) (by decide) (by decide) d_O_init_26 (fun p12 H hP hD hS => ?_)
  have hP : va_P D classes (wS85 cI cJ cZ cB p0 p1 p2 p3 p4 p5 p6 p7 p8 p9 p10 p11 p12 x0_3 x0_4 x0_5 x0_6 x0_7 x0_8 x0_9 x0_10 x0_12 x0_13 x0_14 x1_1 x1_2 x1_3 x1_4 x1_5 x1_6 x1_7 x1_8 y2 x3_5 x3_6 y4 y5 y6 y7 y8 x9_6 (fun _ => 0) (fun _ => 0) (fun _ => 0)) H := hP
  have hD : va_D A (wS85 cI cJ cZ cB p0 p1 p2 p3 p4 p5 p6 p7 p8 p9 p10 p11 p12 x0_3 x0_4 x0_5 x0_6 x0_7 x0_8 x0_9 x0_10 x0_12 x0_13 x0_14 x1_1 x1_2 x1_3 x1_4 x1_5 x1_6 x1_7 x1_8 y2 x3_5 x3_6 y4 y5 y6 y7 y8 x9_6 (fun _ => 0) (fun _ => 0) (fun _ => 0)) := hD
  refine W.widen (k := 3) (n := 3303) (by decide) (by decide) ?_
  refine va_putF (D := D) (ci := 6) (v := .ref p12) (ty := (.array .int)) (C := "SignMachine$Output") (T := F_O) (N := 7) hx hb hk fi_O ft_O ft_O_ok fn_O hown hK.1 hP hD hS 9 rfl rfl 2 (by decide) (hk _ k_609) (fun _ h9 => h9) rfl hin rfl (by decide +kernel) rfl rfl (Nat.le_of_ble_eq_true rfl) d_O_init_28 (fun H locs hP hD hS => ?_)
  have hP : va_P D classes (wS86 cI cJ cZ cB p0 p1 p2 p3 p4 p5 p6 p7 p8 p9 p10 p11 p12 x0_3 x0_4 x0_5 x0_6 x0_7 x0_8 x0_9 x0_10 x0_12 x0_13 x0_14 x1_1 x1_2 x1_3 x1_4 x1_5 x1_6 x1_7 x1_8 y2 x3_5 x3_6 y4 y5 y6 y7 y8 x9_6 (fun _ => 0) (fun _ => 0) (fun _ => 0)) H := hP
  have hD : va_D A (wS86 cI cJ cZ cB p0 p1 p2 p3 p4 p5 p6 p7 p8 p9 p10 p11 p12 x0_3 x0_4 x0_5 x0_6 x0_7 x0_8 x0_9 x0_10 x0_12 x0_13 x0_14 x1_1 x1_2 x1_3 x1_4 x1_5 x1_6 x1_7 x1_8 y2 x3_5 x3_6 y4 y5 y6 y7 y8 x9_6 (fun _ => 0) (fun _ => 0) (fun _ => 0)) := hD
  refine lv_aload_n hx hb d_O_init_31 rfl (lv_at hl 0 rfl) ?_
  refine lv_sipush (v := 1101) hx hb d_O_init_32 (by decide) ?_
  refine nwa (atype := .byte) (ty := .byte) (N' := 1101) (a0 := (1101, .inl (fun _ => 0))) hx hb (hk _ k_569) rfl hK.1 3 rfl (fun _ h => h) hP hD hS hA (zr_byte 1101) (by decide) (by decide) (by decide) (by decide) (by decide) d_O_init_35 (fun p13 H hP hD hS => ?_)
  have hP : va_P D classes (wS87 cI cJ cZ cB p0 p1 p2 p3 p4 p5 p6 p7 p8 p9 p10 p11 p12 p13 x0_3 x0_4 x0_5 x0_6 x0_7 x0_8 x0_9 x0_10 x0_12 x0_13 x0_14 x1_1 x1_2 x1_3 x1_4 x1_5 x1_6 x1_7 x1_8 y2 x3_5 x3_6 y4 y5 y6 y7 y8 x9_6 (fun _ => 0) (fun _ => 0) (fun _ => 0) (fun _ => 0)) H := hP
  have hD : va_D A (wS87 cI cJ cZ cB p0 p1 p2 p3 p4 p5 p6 p7 p8 p9 p10 p11 p12 p13 x0_3 x0_4 x0_5 x0_6 x0_7 x0_8 x0_9 x0_10 x0_12 x0_13 x0_14 x1_1 x1_2 x1_3 x1_4 x1_5 x1_6 x1_7 x1_8 y2 x3_5 x3_6 y4 y5 y6 y7 y8 x9_6 (fun _ => 0) (fun _ => 0) (fun _ => 0) (fun _ => 0)) := hD
  refine W.widen (k := 4) (n := 4404) (by decide) (by decide) ?_
  refine va_putF (D := D) (ci := 6) (v := .ref p13) (ty := (.array .byte)) (C := "SignMachine$Output") (T := F_O) (N := 7) hx hb hk fi_O ft_O ft_O_ok fn_O hown hK.1 hP hD hS 9 rfl rfl 3 (by decide) (hk _ k_610) (fun _ h9 => h9) rfl hin rfl (by decide +kernel) rfl rfl (Nat.le_of_ble_eq_true rfl) d_O_init_37 (fun H locs hP hD hS => ?_)
  have hP : va_P D classes (wS88 cI cJ cZ cB p0 p1 p2 p3 p4 p5 p6 p7 p8 p9 p10 p11 p12 p13 x0_3 x0_4 x0_5 x0_6 x0_7 x0_8 x0_9 x0_10 x0_12 x0_13 x0_14 x1_1 x1_2 x1_3 x1_4 x1_5 x1_6 x1_7 x1_8 y2 x3_5 x3_6 y4 y5 y6 y7 y8 x9_6 (fun _ => 0) (fun _ => 0) (fun _ => 0) (fun _ => 0)) H := hP
  have hD : va_D A (wS88 cI cJ cZ cB p0 p1 p2 p3 p4 p5 p6 p7 p8 p9 p10 p11 p12 p13 x0_3 x0_4 x0_5 x0_6 x0_7 x0_8 x0_9 x0_10 x0_12 x0_13 x0_14 x1_1 x1_2 x1_3 x1_4 x1_5 x1_6 x1_7 x1_8 y2 x3_5 x3_6 y4 y5 y6 y7 y8 x9_6 (fun _ => 0) (fun _ => 0) (fun _ => 0) (fun _ => 0)) := hD
  refine lv_aload_n hx hb d_O_init_40 rfl (lv_at hl 0 rfl) ?_
  refine lv_sipush (v := 1101) hx hb d_O_init_41 (by decide) ?_
  refine nwa (atype := .int) (ty := .int) (N' := 1101) (a0 := (1101, .inl (fun _ => 0))) hx hb (hk _ k_162) rfl hK.1 0 rfl (fun _ h => h) hP hD hS hA (zr_int 1101) (by decide) (by decide) (by decide) (by decide) (by decide) d_O_init_44 (fun p14 H hP hD hS => ?_)
  have hP : va_P D classes (wS89 cI cJ cZ cB p0 p1 p2 p3 p4 p5 p6 p7 p8 p9 p10 p11 p12 p13 p14 x0_3 x0_4 x0_5 x0_6 x0_7 x0_8 x0_9 x0_10 x0_12 x0_13 x0_14 x1_1 x1_2 x1_3 x1_4 x1_5 x1_6 x1_7 x1_8 y2 x3_5 x3_6 y4 y5 y6 y7 y8 x9_6 (fun _ => 0) (fun _ => 0) (fun _ => 0) (fun _ => 0) (fun _ => 0)) H := hP
  have hD : va_D A (wS89 cI cJ cZ cB p0 p1 p2 p3 p4 p5 p6 p7 p8 p9 p10 p11 p12 p13 p14 x0_3 x0_4 x0_5 x0_6 x0_7 x0_8 x0_9 x0_10 x0_12 x0_13 x0_14 x1_1 x1_2 x1_3 x1_4 x1_5 x1_6 x1_7 x1_8 y2 x3_5 x3_6 y4 y5 y6 y7 y8 x9_6 (fun _ => 0) (fun _ => 0) (fun _ => 0) (fun _ => 0) (fun _ => 0)) := hD
  refine W.widen (k := 5) (n := 5505) (by decide) (by decide) ?_
  refine va_putF (D := D) (ci := 6) (v := .ref p14) (ty := (.array .int)) (C := "SignMachine$Output") (T := F_O) (N := 7) hx hb hk fi_O ft_O ft_O_ok fn_O hown hK.1 hP hD hS 9 rfl rfl 4 (by decide) (hk _ k_611) (fun _ h9 => h9) rfl hin rfl (by decide +kernel) rfl rfl (Nat.le_of_ble_eq_true rfl) d_O_init_46 (fun H locs hP hD hS => ?_)
  have hP : va_P D classes (wS90 cI cJ cZ cB p0 p1 p2 p3 p4 p5 p6 p7 p8 p9 p10 p11 p12 p13 p14 x0_3 x0_4 x0_5 x0_6 x0_7 x0_8 x0_9 x0_10 x0_12 x0_13 x0_14 x1_1 x1_2 x1_3 x1_4 x1_5 x1_6 x1_7 x1_8 y2 x3_5 x3_6 y4 y5 y6 y7 y8 x9_6 (fun _ => 0) (fun _ => 0) (fun _ => 0) (fun _ => 0) (fun _ => 0)) H := hP
  have hD : va_D A (wS90 cI cJ cZ cB p0 p1 p2 p3 p4 p5 p6 p7 p8 p9 p10 p11 p12 p13 p14 x0_3 x0_4 x0_5 x0_6 x0_7 x0_8 x0_9 x0_10 x0_12 x0_13 x0_14 x1_1 x1_2 x1_3 x1_4 x1_5 x1_6 x1_7 x1_8 y2 x3_5 x3_6 y4 y5 y6 y7 y8 x9_6 (fun _ => 0) (fun _ => 0) (fun _ => 0) (fun _ => 0) (fun _ => 0)) := hD
  refine lv_aload_n hx hb d_O_init_49 rfl (lv_at hl 0 rfl) ?_
  refine lv_bipush (v := 10) hx hb d_O_init_50 (by decide) ?_
  refine nwa (atype := .int) (ty := .int) (N' := 10) (a0 := (10, .inl (fun _ => 0))) hx hb (hk _ k_162) rfl hK.1 0 rfl (fun _ h => h) hP hD hS hA (zr_int 10) (by decide) (by decide) (by decide) (by decide) (by decide) d_O_init_52 (fun p15 H hP hD hS => ?_)
  have hP : va_P D classes (wS91 cI cJ cZ cB p0 p1 p2 p3 p4 p5 p6 p7 p8 p9 p10 p11 p12 p13 p14 p15 x0_3 x0_4 x0_5 x0_6 x0_7 x0_8 x0_9 x0_10 x0_12 x0_13 x0_14 x1_1 x1_2 x1_3 x1_4 x1_5 x1_6 x1_7 x1_8 y2 x3_5 x3_6 y4 y5 y6 y7 y8 x9_6 (fun _ => 0) (fun _ => 0) (fun _ => 0) (fun _ => 0) (fun _ => 0) (fun _ => 0)) H := hP
  have hD : va_D A (wS91 cI cJ cZ cB p0 p1 p2 p3 p4 p5 p6 p7 p8 p9 p10 p11 p12 p13 p14 p15 x0_3 x0_4 x0_5 x0_6 x0_7 x0_8 x0_9 x0_10 x0_12 x0_13 x0_14 x1_1 x1_2 x1_3 x1_4 x1_5 x1_6 x1_7 x1_8 y2 x3_5 x3_6 y4 y5 y6 y7 y8 x9_6 (fun _ => 0) (fun _ => 0) (fun _ => 0) (fun _ => 0) (fun _ => 0) (fun _ => 0)) := hD
  refine W.widen (k := 6) (n := 5515) (by decide) (by decide) ?_
  refine va_putF (D := D) (ci := 6) (v := .ref p15) (ty := (.array .int)) (C := "SignMachine$Output") (T := F_O) (N := 7) hx hb hk fi_O ft_O ft_O_ok fn_O hown hK.1 hP hD hS 9 rfl rfl 5 (by decide) (hk _ k_612) (fun _ h9 => h9) rfl hin rfl (by decide +kernel) rfl rfl (Nat.le_of_ble_eq_true rfl) d_O_init_54 (fun H locs hP hD hS => ?_)
  have hP : va_P D classes (wS92 cI cJ cZ cB p0 p1 p2 p3 p4 p5 p6 p7 p8 p9 p10 p11 p12 p13 p14 p15 x0_3 x0_4 x0_5 x0_6 x0_7 x0_8 x0_9 x0_10 x0_12 x0_13 x0_14 x1_1 x1_2 x1_3 x1_4 x1_5 x1_6 x1_7 x1_8 y2 x3_5 x3_6 y4 y5 y6 y7 y8 x9_6 (fun _ => 0) (fun _ => 0) (fun _ => 0) (fun _ => 0) (fun _ => 0) (fun _ => 0)) H := hP
  have hD : va_D A (wS92 cI cJ cZ cB p0 p1 p2 p3 p4 p5 p6 p7 p8 p9 p10 p11 p12 p13 p14 p15 x0_3 x0_4 x0_5 x0_6 x0_7 x0_8 x0_9 x0_10 x0_12 x0_13 x0_14 x1_1 x1_2 x1_3 x1_4 x1_5 x1_6 x1_7 x1_8 y2 x3_5 x3_6 y4 y5 y6 y7 y8 x9_6 (fun _ => 0) (fun _ => 0) (fun _ => 0) (fun _ => 0) (fun _ => 0) (fun _ => 0)) := hD
  exact W.vret hx hb hr (fun t ht hW => ⟨⟨(), rfl, trivial, ⟨p10, p11, p12, p13, p14, p15, (fun _ => 0), (fun _ => 0), (fun _ => 0), (fun _ => 0), (fun _ => 0), (fun _ => 0), by show va_P D classes _ t.heap; rw [ht]; exact hP, hD⟩⟩, hS.F ht⟩) hS.2.2 d_O_init_57
theorem iN_O_init_s1 {R : Room} {s : State} {args : Array Value} {own host : String} {index : Nat} (hk : ∀ w ∈ tb, w.before args s = true) (hl : va_Nw (.methodLinkNest own index y_O_init host) s) (hR : 1 + 1 ≤ R.frames ∧ 8 + (1 + 11) + 12 ≤ R.locals) : va_CN R s args own index y_O_init host b_O_init 1 none (.code y_O_init b_O_init 1 none :: tb) ({ frames := 1, cells := 6, slots := 5515, locals := 12 }) 6 5515 0 ∧ (y_O_init).name = "<init>" ∧ (Cond.instanceMethod y_O_init).before args s = true := ⟨va_cnB 0 hk (gi_t k_605) rfl rfl rfl hl (hk _ k_126) h_O_init hR, rfl, hk _ k_604⟩
theorem iP_O_init_s1 {R : Room} {s : State} {args : Array Value} {own : String} {index : Nat} (hk : ∀ w ∈ tb, w.before args s = true) (hl : Cond.methodLink own index y_O_init ∈ tb) (hR : 1 + 1 ≤ R.frames ∧ 8 + (1 + 11) + 12 ≤ R.locals) : CallB R s args own index y_O_init b_O_init 1 none (.code y_O_init b_O_init 1 none :: tb) ({ frames := 1, cells := 6, slots := 5515, locals := 12 }) 6 5515 0 ∧ (y_O_init).name = "<init>" ∧ (Cond.instanceMethod y_O_init).before args s = true := ⟨callB_of 0 hk (gi_t k_605) rfl rfl rfl (hk _ k_126) (hk _ hl) h_O_init hR, rfl, hk _ k_604⟩
abbrev wS93 (cI cJ cZ cB : ClassId) (p0 p1 p2 p3 p4 p5 p6 p7 p8 p9 p10 p11 p12 p13 p14 p15 : Nat) (x0_3 : Int32) (x0_4 : Int32) (x0_5 : Int32) (x0_6 : Int32) (x0_7 : Int32) (x0_8 : Bool) (x0_9 : Int64) (x0_10 : Int32) (x0_12 : Int32) (x0_13 : Int32) (x0_14 : Int32) (x1_1 : Int32) (x1_2 : Int32) (x1_3 : Int32) (x1_4 : Int32) (x1_5 : Int32) (x1_6 : Int32) (x1_7 : Int64) (x1_8 : Int32) (y2 : Nat → Int32) (x3_5 : Int32) (x3_6 : Int32) (y4 : Nat → Int64) (y5 : Nat → Int32) (y6 : Nat → Int32) (y7 : Nat → Int32) (y8 : Nat → Int32) (x9_6 : Int32) (y10 : Nat → Int32) (y11 : Nat → Int32) (y12 : Nat → Int32) (y13 : Nat → Int32) (y14 : Nat → Int32) (y15 : Nat → Int32) : va_W := [(p0, .inr (3, [.ref p1, .ref p3, .ref p9, .int x0_3, .int x0_4, .int x0_5, .int x0_6, .int x0_7, .int (bI x0_8), .long x0_9, .int x0_10, .null, .int x0_12, .int x0_13, .int x0_14])), (p1, .inr (4, [.ref p2, .int x1_1, .int x1_2, .int x1_3, .int x1_4, .int x1_5, .int x1_6, .long x1_7, .int x1_8])), (p2, .inl (cB, 4000, .inl y2)), (p3, .inr (5, [.ref p4, .ref p5, .ref p6, .ref p7, .ref p8, .int x3_5, .int x3_6])), (p4, .inl (cJ, 100, .inr (.inl y4))), (p5, .inl (cI, 100, .inl y5)), (p6, .inl (cZ, 100, .inl y6)), (p7, .inl (cI, 10, .inl y7)), (p8, .inl (cZ, 10, .inl y8)), (p9, .inr (6, [.ref p10, .ref p11, .ref p12, .ref p13, .ref p14, .ref p15, .int x9_6])), (p10, .inl (cI, 1101, .inl y10)), (p11, .inl (cI, 1101, .inl y11)), (p12, .inl (cI, 1101, .inl y12)), (p13, .inl (cB, 1101, .inl y13)), (p14, .inl (cI, 1101, .inl y14)), (p15, .inl (cI, 10, .inl y15))]
set_option maxHeartbeats 4000000 in
set_option maxRecDepth 100000 in
theorem c_A_init_s1 (l : Launch) (K : CK) (D : va_G) (cI cJ cZ cB : ClassId) (p0 : Nat) (sz : Nat) (x0_3 : Int32) (x0_4 : Int32) (x0_5 : Int32) (x0_6 : Int32) (x0_7 : Int32) (x0_8 : Bool) (x0_9 : Int64) (x0_10 : Int32) (x0_12 : Int32) (x0_13 : Int32) (x0_14 : Int32)   : Met l y_A_init (.code y_A_init b_A_init 1 none :: tb) ({ frames := 2, cells := 15, slots := 9858, locals := 32 }) (pMC K D cI cJ cZ cB (wS63 cI cJ cZ cB p0 x0_3 x0_4 x0_5 x0_6 x0_7 x0_8 x0_9 x0_10 x0_12 x0_13 x0_14) sz [.ref p0]) (va_Qv (fun (_ : Unit) => True) (fun _ t => (∃ p1 p2 p3 p4 p5 p6 p7 p8 p9 p10 p11 p12 p13 p14 p15 : Nat, ∃ u_x0_5 : Int32, ∃ u_x1_1 : Int32, ∃ u_x1_2 : Int32, ∃ u_x1_3 : Int32, ∃ u_x1_4 : Int32, ∃ u_x1_5 : Int32, ∃ u_x1_6 : Int32, ∃ u_x1_7 : Int64, ∃ u_x1_8 : Int32, ∃ u_y2 : Nat → Int32, ∃ u_x3_5 : Int32, ∃ u_x3_6 : Int32, ∃ u_y4 : Nat → Int64, ∃ u_y5 : Nat → Int32, ∃ u_y6 : Nat → Int32, ∃ u_y7 : Nat → Int32, ∃ u_y8 : Nat → Int32, ∃ u_x9_6 : Int32, ∃ u_y10 : Nat → Int32, ∃ u_y11 : Nat → Int32, ∃ u_y12 : Nat → Int32, ∃ u_y13 : Nat → Int32, ∃ u_y14 : Nat → Int32, ∃ u_y15 : Nat → Int32, (u_x1_1 = (0 : Int32)) ∧ va_P D classes (wS93 cI cJ cZ cB p0 p1 p2 p3 p4 p5 p6 p7 p8 p9 p10 p11 p12 p13 p14 p15 x0_3 x0_4 u_x0_5 x0_6 x0_7 x0_8 x0_9 x0_10 x0_12 x0_13 x0_14 u_x1_1 u_x1_2 u_x1_3 u_x1_4 u_x1_5 u_x1_6 u_x1_7 u_x1_8 u_y2 u_x3_5 u_x3_6 u_y4 u_y5 u_y6 u_y7 u_y8 u_x9_6 u_y10 u_y11 u_y12 u_y13 u_y14 u_y15) t.heap ∧ va_D (va_A (wS63 cI cJ cZ cB p0 x0_3 x0_4 x0_5 x0_6 x0_7 x0_8 x0_9 x0_10 x0_12 x0_13 x0_14) sz) (wS93 cI cJ cZ cB p0 p1 p2 p3 p4 p5 p6 p7 p8 p9 p10 p11 p12 p13 p14 p15 x0_3 x0_4 u_x0_5 x0_6 x0_7 x0_8 x0_9 x0_10 x0_12 x0_13 x0_14 u_x1_1 u_x1_2 u_x1_3 u_x1_4 u_x1_5 u_x1_6 u_x1_7 u_x1_8 u_y2 u_x3_5 u_x3_6 u_y4 u_y5 u_y6 u_y7 u_y8 u_x9_6 u_y10 u_y11 u_y12 u_y13 u_y14 u_y15))) (va_A (wS63 cI cJ cZ cB p0 x0_3 x0_4 x0_5 x0_6 x0_7 x0_8 x0_9 x0_10 x0_12 x0_13 x0_14) sz)) 15 9858 (va_A (wS63 cI cJ cZ cB p0 x0_3 x0_4 x0_5 x0_6 x0_7 x0_8 x0_9 x0_10 x0_12 x0_13 x0_14) sz) := by
  refine Met.ofW (cc := b_A_init) (maxL := 1) (ret := none) (by decide) rfl ?_
  intro p e s m args below meth c s₁ B hml hv
  obtain ⟨rfl, hsz, hK, hP, hD0, hC⟩ := hv
  subst hsz
  have hD := hD0.self (sz := s.heap.size)
  generalize hAe : va_A (wS63 cI cJ cZ cB p0 x0_3 x0_4 x0_5 x0_6 x0_7 x0_8 x0_9 x0_10 x0_12 x0_13 x0_14) s.heap.size = A at hD hC ⊢
  have hA : ∀ q : Nat, s.heap.size ≤ q → A q := fun q h => by rw [← hAe]; exact Or.inr h
  clear hAe hD0
  have hS : va_S A s.heap s.heap [] := va_S.rf
  have hx := B.exec
  have hb := B.bytes
  have hr := B.returns
  have hts := atoms_spec (ws := .code y_A_init b_A_init 1 none :: tb) B.pre
  have hk : ∀ w ∈ tb, w.before [.ref p0].toArray s = true := fun w h => hts w (List.mem_cons_of_mem _ h)
  have hown : s.vm.findClass "SignMachine$Assembler" = some m.cls := findClass_of_methodNamed B.named
  have hlocks := B.notSynchronized
  have hin : meth.name = "<init>" := (name_of_methodNamed B.named B.method).1
  have hl := lv_entry ([.ref p0]) (n := 1) (Nat.le_of_ble_eq_true rfl)
  rw [lg_entry_eq]
  generalize (lg_sl ([.ref p0]) ++ List.replicate (1 - (lg_sl ([.ref p0])).length) Slot.unset).toArray = ls at hl ⊢
  have hl : lv_has ls 1 [(0, .ref p0)] := hl
  refine lv_aload_n hx hb d_A_init_0 rfl (lv_at hl 0 rfl) ?_
  refine W.objInit hx hb hown (hk _ k_527) (hk _ k_140) (hk _ k_obj) rfl (by rw [hml]; exact hl.1) rfl d_A_init_1 (Nat.le_of_ble_eq_true rfl) (Nat.le_of_ble_eq_true rfl) ?_
  refine W.eq (g2 := F0 m 4 ls []) rfl ?_
  refine lv_aload_n hx hb d_A_init_4 rfl (lv_at hl 0 rfl) ?_
  refine va_new (ci := 4) (fs := [.null, .int 0, .int 0, .int 0, .int 0, .int 0, .int 0, .long 0, .int 0]) (C := "SignMachine$Source") (T := F_R) (N := 9) hx hb hk fi_R ft_R ft_R_ok hown (hk _ k_528) (hk _ k_529) (hk _ k_124) hK.1 hP hD hS hA rfl (by decide +kernel) (by decide) (by decide) d_A_init_5 (fun p1 H hP hD hS => ?_)
  have hP : va_P D classes (wS64 cI cJ cZ cB p0 p1 x0_3 x0_4 x0_5 x0_6 x0_7 x0_8 x0_9 x0_10 x0_12 x0_13 x0_14 (0 : Int32) (0 : Int32) (0 : Int32) (0 : Int32) (0 : Int32) (0 : Int32) (0 : Int64) (0 : Int32)) H := hP
  have hD : va_D A (wS64 cI cJ cZ cB p0 p1 x0_3 x0_4 x0_5 x0_6 x0_7 x0_8 x0_9 x0_10 x0_12 x0_13 x0_14 (0 : Int32) (0 : Int32) (0 : Int32) (0 : Int32) (0 : Int32) (0 : Int32) (0 : Int64) (0 : Int32)) := hD
  refine W.widen (k := 1) (n := 9) (by decide) (by decide) ?_
  refine lv_dup hx hb d_A_init_8 rfl ?_
  refine kn_v (va_runIN (As := []) (rest := [.ref p1, .ref p0]) ⟨hx, hb, hml, hown, hk⟩ (c_R_init_s1 l K D cI cJ cZ cB p0 p1 H.size x0_3 x0_4 x0_5 x0_6 x0_7 x0_8 x0_9 x0_10 x0_12 x0_13 x0_14 (0 : Int32) (0 : Int32) (0 : Int32) (0 : Int32) (0 : Int32) (0 : Int32) (0 : Int64) (0 : Int32)   ) (iN_R_init_s1 hk (hK.2 _ n_530) ⟨Nat.le_of_ble_eq_true rfl, Nat.le_of_ble_eq_true rfl⟩) (pMC_i hK hP hD hC hS hA) rfl rfl hl.1 rfl (lv_room (Nat.le_of_ble_eq_true rfl)) d_A_init_9 ⟨by decide, by decide⟩) hS hA hD (fun u t H locs ht hB hFr hS => ?_)
  obtain ⟨p2, y2z1, hP, hD⟩ := hB
  rw [ht] at hP
  have hD := dwk hD hFr
  clear ht hFr
  have hP : va_P D classes (wS66 cI cJ cZ cB p0 p1 p2 x0_3 x0_4 x0_5 x0_6 x0_7 x0_8 x0_9 x0_10 x0_12 x0_13 x0_14 (0 : Int32) (0 : Int32) (0 : Int32) (0 : Int32) (0 : Int32) (0 : Int32) (0 : Int64) (0 : Int32) y2z1) H := hP
  have hD : va_D A (wS66 cI cJ cZ cB p0 p1 p2 x0_3 x0_4 x0_5 x0_6 x0_7 x0_8 x0_9 x0_10 x0_12 x0_13 x0_14 (0 : Int32) (0 : Int32) (0 : Int32) (0 : Int32) (0 : Int32) (0 : Int32) (0 : Int64) (0 : Int32) y2z1) := hD
  refine W.widen (k := 2) (n := 4009) (by decide) (by decide) ?_
  refine va_putF (D := D) (ci := 3) (v := .ref p1) (ty := (.object "SignMachine$Source")) (C := "SignMachine$Assembler") (T := F_A) (N := 15) hx hb hk fi_A ft_A ft_A_ok fn_A hown hK.1 hP hD hS 0 rfl rfl 0 (by decide) (hk _ k_631) (fun _ h9 => h9) rfl hin rfl (by decide +kernel) rfl rfl (Nat.le_of_ble_eq_true rfl) d_A_init_12 (fun H locs hP hD hS => ?_)
  have hP : va_P D classes (wS67 cI cJ cZ cB p0 p1 p2 x0_3 x0_4 x0_5 x0_6 x0_7 x0_8 x0_9 x0_10 x0_12 x0_13 x0_14 (0 : Int32) (0 : Int32) (0 : Int32) (0 : Int32) (0 : Int32) (0 : Int32) (0 : Int64) (0 : Int32) y2z1) H := hP
  have hD : va_D A (wS67 cI cJ cZ cB p0 p1 p2 x0_3 x0_4 x0_5 x0_6 x0_7 x0_8 x0_9 x0_10 x0_12 x0_13 x0_14 (0 : Int32) (0 : Int32) (0 : Int32) (0 : Int32) (0 : Int32) (0 : Int32) (0 : Int64) (0 : Int32) y2z1) := hD
  refine lv_aload_n hx hb d_A_init_15 rfl (lv_at hl 0 rfl) ?_
  refine va_new (ci := 5) (fs := [.null, .null, .null, .null, .null, .int 0, .int 0]) (C := "SignMachine$Names") (T := F_N) (N := 7) hx hb hk fi_N ft_N ft_N_ok hown (hk _ k_570) (hk _ k_571) (hk _ k_125) hK.1 hP hD hS hA rfl (by decide +kernel) (by decide) (by decide) d_A_init_16 (fun p3 H hP hD hS => ?_)
  have hP : va_P D classes (wS68 cI cJ cZ cB p0 p1 p2 p3 x0_3 x0_4 x0_5 x0_6 x0_7 x0_8 x0_9 x0_10 x0_12 x0_13 x0_14 (0 : Int32) (0 : Int32) (0 : Int32) (0 : Int32) (0 : Int32) (0 : Int32) (0 : Int64) (0 : Int32) y2z1 (0 : Int32) (0 : Int32)) H := hP
  have hD : va_D A (wS68 cI cJ cZ cB p0 p1 p2 p3 x0_3 x0_4 x0_5 x0_6 x0_7 x0_8 x0_9 x0_10 x0_12 x0_13 x0_14 (0 : Int32) (0 : Int32) (0 : Int32) (0 : Int32) (0 : Int32) (0 : Int32) (0 : Int64) (0 : Int32) y2z1 (0 : Int32) (0 : Int32)) := hD
  refine W.widen (k := 3) (n := 4016) (by decide) (by decide) ?_
  refine lv_dup hx hb d_A_init_19 rfl ?_
  refine kn_v (va_runIN (As := []) (rest := [.ref p3, .ref p0]) ⟨hx, hb, hml, hown, hk⟩ (c_N_init_s1 l K D cI cJ cZ cB p0 p1 p2 p3 H.size x0_3 x0_4 x0_5 x0_6 x0_7 x0_8 x0_9 x0_10 x0_12 x0_13 x0_14 (0 : Int32) (0 : Int32) (0 : Int32) (0 : Int32) (0 : Int32) (0 : Int32) (0 : Int64) (0 : Int32) y2z1 (0 : Int32) (0 : Int32)   ) (iN_N_init_s1 hk (hK.2 _ n_572) ⟨Nat.le_of_ble_eq_true rfl, Nat.le_of_ble_eq_true rfl⟩) (pMC_i hK hP hD hC hS hA) rfl rfl hl.1 rfl (lv_room (Nat.le_of_ble_eq_true rfl)) d_A_init_20 ⟨by decide, by decide⟩) hS hA hD (fun u t H locs ht hB hFr hS => ?_)
  obtain ⟨p4, p5, p6, p7, p8, y4z2, y5z2, y6z2, y7z2, y8z2, hP, hD⟩ := hB
  rw [ht] at hP
  have hD := dwk hD hFr
  clear ht hFr
  have hP : va_P D classes (wS78 cI cJ cZ cB p0 p1 p2 p3 p4 p5 p6 p7 p8 x0_3 x0_4 x0_5 x0_6 x0_7 x0_8 x0_9 x0_10 x0_12 x0_13 x0_14 (0 : Int32) (0 : Int32) (0 : Int32) (0 : Int32) (0 : Int32) (0 : Int32) (0 : Int64) (0 : Int32) y2z1 (0 : Int32) (0 : Int32) y4z2 y5z2 y6z2 y7z2 y8z2) H := hP
  have hD : va_D A (wS78 cI cJ cZ cB p0 p1 p2 p3 p4 p5 p6 p7 p8 x0_3 x0_4 x0_5 x0_6 x0_7 x0_8 x0_9 x0_10 x0_12 x0_13 x0_14 (0 : Int32) (0 : Int32) (0 : Int32) (0 : Int32) (0 : Int32) (0 : Int32) (0 : Int64) (0 : Int32) y2z1 (0 : Int32) (0 : Int32) y4z2 y5z2 y6z2 y7z2 y8z2) := hD
  refine W.widen (k := 8) (n := 4336) (by decide) (by decide) ?_
  refine va_putF (D := D) (ci := 3) (v := .ref p3) (ty := (.object "SignMachine$Names")) (C := "SignMachine$Assembler") (T := F_A) (N := 15) hx hb hk fi_A ft_A ft_A_ok fn_A hown hK.1 hP hD hS 0 rfl rfl 1 (by decide) (hk _ k_633) (fun _ h9 => h9) rfl hin rfl (by decide +kernel) rfl rfl (Nat.le_of_ble_eq_true rfl) d_A_init_23 (fun H locs hP hD hS => ?_)
  have hP : va_P D classes (wS79 cI cJ cZ cB p0 p1 p2 p3 p4 p5 p6 p7 p8 x0_3 x0_4 x0_5 x0_6 x0_7 x0_8 x0_9 x0_10 x0_12 x0_13 x0_14 (0 : Int32) (0 : Int32) (0 : Int32) (0 : Int32) (0 : Int32) (0 : Int32) (0 : Int64) (0 : Int32) y2z1 (0 : Int32) (0 : Int32) y4z2 y5z2 y6z2 y7z2 y8z2) H := hP
  have hD : va_D A (wS79 cI cJ cZ cB p0 p1 p2 p3 p4 p5 p6 p7 p8 x0_3 x0_4 x0_5 x0_6 x0_7 x0_8 x0_9 x0_10 x0_12 x0_13 x0_14 (0 : Int32) (0 : Int32) (0 : Int32) (0 : Int32) (0 : Int32) (0 : Int32) (0 : Int64) (0 : Int32) y2z1 (0 : Int32) (0 : Int32) y4z2 y5z2 y6z2 y7z2 y8z2) := hD
  refine lv_aload_n hx hb d_A_init_26 rfl (lv_at hl 0 rfl) ?_
  refine va_new (ci := 6) (fs := [.null, .null, .null, .null, .null, .null, .int 0]) (C := "SignMachine$Output") (T := F_O) (N := 7) hx hb hk fi_O ft_O ft_O_ok hown (hk _ k_601) (hk _ k_602) (hk _ k_126) hK.1 hP hD hS hA rfl (by decide +kernel) (by decide) (by decide) d_A_init_27 (fun p9 H hP hD hS => ?_)
  have hP : va_P D classes (wS80 cI cJ cZ cB p0 p1 p2 p3 p4 p5 p6 p7 p8 p9 x0_3 x0_4 x0_5 x0_6 x0_7 x0_8 x0_9 x0_10 x0_12 x0_13 x0_14 (0 : Int32) (0 : Int32) (0 : Int32) (0 : Int32) (0 : Int32) (0 : Int32) (0 : Int64) (0 : Int32) y2z1 (0 : Int32) (0 : Int32) y4z2 y5z2 y6z2 y7z2 y8z2 (0 : Int32)) H := hP
  have hD : va_D A (wS80 cI cJ cZ cB p0 p1 p2 p3 p4 p5 p6 p7 p8 p9 x0_3 x0_4 x0_5 x0_6 x0_7 x0_8 x0_9 x0_10 x0_12 x0_13 x0_14 (0 : Int32) (0 : Int32) (0 : Int32) (0 : Int32) (0 : Int32) (0 : Int32) (0 : Int64) (0 : Int32) y2z1 (0 : Int32) (0 : Int32) y4z2 y5z2 y6z2 y7z2 y8z2 (0 : Int32)) := hD
  refine W.widen (k := 9) (n := 4343) (by decide) (by decide) ?_
  refine lv_dup hx hb d_A_init_30 rfl ?_
  refine kn_v (va_runIN (As := []) (rest := [.ref p9, .ref p0]) ⟨hx, hb, hml, hown, hk⟩ (c_O_init_s1 l K D cI cJ cZ cB p0 p1 p2 p3 p4 p5 p6 p7 p8 p9 H.size x0_3 x0_4 x0_5 x0_6 x0_7 x0_8 x0_9 x0_10 x0_12 x0_13 x0_14 (0 : Int32) (0 : Int32) (0 : Int32) (0 : Int32) (0 : Int32) (0 : Int32) (0 : Int64) (0 : Int32) y2z1 (0 : Int32) (0 : Int32) y4z2 y5z2 y6z2 y7z2 y8z2 (0 : Int32)   ) (iN_O_init_s1 hk (hK.2 _ n_603) ⟨Nat.le_of_ble_eq_true rfl, Nat.le_of_ble_eq_true rfl⟩) (pMC_i hK hP hD hC hS hA) rfl rfl hl.1 rfl (lv_room (Nat.le_of_ble_eq_true rfl)) d_A_init_31 ⟨by decide, by decide⟩) hS hA hD (fun u t H locs ht hB hFr hS => ?_)
  obtain ⟨p10, p11, p12, p13, p14, p15, y10z3, y11z3, y12z3, y13z3, y14z3, y15z3, hP, hD⟩ := hB
  rw [ht] at hP
  have hD := dwk hD hFr
  clear ht hFr
  have hP : va_P D classes (wS92 cI cJ cZ cB p0 p1 p2 p3 p4 p5 p6 p7 p8 p9 p10 p11 p12 p13 p14 p15 x0_3 x0_4 x0_5 x0_6 x0_7 x0_8 x0_9 x0_10 x0_12 x0_13 x0_14 (0 : Int32) (0 : Int32) (0 : Int32) (0 : Int32) (0 : Int32) (0 : Int32) (0 : Int64) (0 : Int32) y2z1 (0 : Int32) (0 : Int32) y4z2 y5z2 y6z2 y7z2 y8z2 (0 : Int32) y10z3 y11z3 y12z3 y13z3 y14z3 y15z3) H := hP
  have hD : va_D A (wS92 cI cJ cZ cB p0 p1 p2 p3 p4 p5 p6 p7 p8 p9 p10 p11 p12 p13 p14 p15 x0_3 x0_4 x0_5 x0_6 x0_7 x0_8 x0_9 x0_10 x0_12 x0_13 x0_14 (0 : Int32) (0 : Int32) (0 : Int32) (0 : Int32) (0 : Int32) (0 : Int32) (0 : Int64) (0 : Int32) y2z1 (0 : Int32) (0 : Int32) y4z2 y5z2 y6z2 y7z2 y8z2 (0 : Int32) y10z3 y11z3 y12z3 y13z3 y14z3 y15z3) := hD
  refine W.widen (k := 15) (n := 9858) (by decide) (by decide) ?_
  refine va_putF (D := D) (ci := 3) (v := .ref p9) (ty := (.object "SignMachine$Output")) (C := "SignMachine$Assembler") (T := F_A) (N := 15) hx hb hk fi_A ft_A ft_A_ok fn_A hown hK.1 hP hD hS 0 rfl rfl 2 (by decide) (hk _ k_634) (fun _ h9 => h9) rfl hin rfl (by decide +kernel) rfl rfl (Nat.le_of_ble_eq_true rfl) d_A_init_34 (fun H locs hP hD hS => ?_)
  have hP : va_P D classes (wS93 cI cJ cZ cB p0 p1 p2 p3 p4 p5 p6 p7 p8 p9 p10 p11 p12 p13 p14 p15 x0_3 x0_4 x0_5 x0_6 x0_7 x0_8 x0_9 x0_10 x0_12 x0_13 x0_14 (0 : Int32) (0 : Int32) (0 : Int32) (0 : Int32) (0 : Int32) (0 : Int32) (0 : Int64) (0 : Int32) y2z1 (0 : Int32) (0 : Int32) y4z2 y5z2 y6z2 y7z2 y8z2 (0 : Int32) y10z3 y11z3 y12z3 y13z3 y14z3 y15z3) H := hP
  have hD : va_D A (wS93 cI cJ cZ cB p0 p1 p2 p3 p4 p5 p6 p7 p8 p9 p10 p11 p12 p13 p14 p15 x0_3 x0_4 x0_5 x0_6 x0_7 x0_8 x0_9 x0_10 x0_12 x0_13 x0_14 (0 : Int32) (0 : Int32) (0 : Int32) (0 : Int32) (0 : Int32) (0 : Int32) (0 : Int64) (0 : Int32) y2z1 (0 : Int32) (0 : Int32) y4z2 y5z2 y6z2 y7z2 y8z2 (0 : Int32) y10z3 y11z3 y12z3 y13z3 y14z3 y15z3) := hD
  refine lv_aload_n hx hb d_A_init_37 rfl (lv_at hl 0 rfl) ?_
  refine lv_iconst (v := (-1)) hx hb d_A_init_38 (by decide) ?_
  refine va_put (D := D) (ci := 3) (v := .int (-1 : Int32)) (ty := .int) (C := "SignMachine$Assembler") (T := F_A) (N := 15) hx hb hk fi_A ft_A ft_A_ok fn_A hown hK.1 hP hD hS 0 rfl rfl 5 (by decide) (hk _ k_640) (fun _ h9 => h9) rfl (by decide +kernel) rfl rfl (Nat.le_of_ble_eq_true rfl) d_A_init_39 (fun H locs hP hD hS => ?_)
  have hP : va_P D classes (wS93 cI cJ cZ cB p0 p1 p2 p3 p4 p5 p6 p7 p8 p9 p10 p11 p12 p13 p14 p15 x0_3 x0_4 (-1 : Int32) x0_6 x0_7 x0_8 x0_9 x0_10 x0_12 x0_13 x0_14 (0 : Int32) (0 : Int32) (0 : Int32) (0 : Int32) (0 : Int32) (0 : Int32) (0 : Int64) (0 : Int32) y2z1 (0 : Int32) (0 : Int32) y4z2 y5z2 y6z2 y7z2 y8z2 (0 : Int32) y10z3 y11z3 y12z3 y13z3 y14z3 y15z3) H := hP
  have hD : va_D A (wS93 cI cJ cZ cB p0 p1 p2 p3 p4 p5 p6 p7 p8 p9 p10 p11 p12 p13 p14 p15 x0_3 x0_4 (-1 : Int32) x0_6 x0_7 x0_8 x0_9 x0_10 x0_12 x0_13 x0_14 (0 : Int32) (0 : Int32) (0 : Int32) (0 : Int32) (0 : Int32) (0 : Int32) (0 : Int64) (0 : Int32) y2z1 (0 : Int32) (0 : Int32) y4z2 y5z2 y6z2 y7z2 y8z2 (0 : Int32) y10z3 y11z3 y12z3 y13z3 y14z3 y15z3) := hD
  exact W.vret hx hb hr (fun t ht hW => ⟨⟨(), rfl, trivial, ⟨p1, p2, p3, p4, p5, p6, p7, p8, p9, p10, p11, p12, p13, p14, p15, (-1 : Int32), (0 : Int32), (0 : Int32), (0 : Int32), (0 : Int32), (0 : Int32), (0 : Int32), (0 : Int64), (0 : Int32), y2z1, (0 : Int32), (0 : Int32), y4z2, y5z2, y6z2, y7z2, y8z2, (0 : Int32), y10z3, y11z3, y12z3, y13z3, y14z3, y15z3, rfl, by show va_P D classes _ t.heap; rw [ht]; exact hP, hD⟩⟩, hS.F ht⟩) hS.2.2 d_A_init_42
theorem iN_A_init_s1 {R : Room} {s : State} {args : Array Value} {own host : String} {index : Nat} (hk : ∀ w ∈ tb, w.before args s = true) (hl : va_Nw (.methodLinkNest own index y_A_init host) s) (hR : 2 + 1 ≤ R.frames ∧ 8 + (1 + 11) + 32 ≤ R.locals) : va_CN R s args own index y_A_init host b_A_init 1 none (.code y_A_init b_A_init 1 none :: tb) ({ frames := 2, cells := 15, slots := 9858, locals := 32 }) 15 9858 0 ∧ (y_A_init).name = "<init>" ∧ (Cond.instanceMethod y_A_init).before args s = true := ⟨va_cnB 0 hk (gi_t k_526) rfl rfl rfl hl (hk _ k_123) h_A_init hR, rfl, hk _ k_525⟩
theorem iP_A_init_s1 {R : Room} {s : State} {args : Array Value} {own : String} {index : Nat} (hk : ∀ w ∈ tb, w.before args s = true) (hl : Cond.methodLink own index y_A_init ∈ tb) (hR : 2 + 1 ≤ R.frames ∧ 8 + (1 + 11) + 32 ≤ R.locals) : CallB R s args own index y_A_init b_A_init 1 none (.code y_A_init b_A_init 1 none :: tb) ({ frames := 2, cells := 15, slots := 9858, locals := 32 }) 15 9858 0 ∧ (y_A_init).name = "<init>" ∧ (Cond.instanceMethod y_A_init).before args s = true := ⟨callB_of 0 hk (gi_t k_526) rfl rfl rfl (hk _ k_123) (hk _ hl) h_A_init hR, rfl, hk _ k_525⟩

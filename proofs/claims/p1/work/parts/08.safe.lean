set_option maxHeartbeats 4000000 in
set_option maxRecDepth 100000 in
theorem c_M_execute_s1 (l : Launch) (D : va_G) (cI cJ cZ cB : ClassId) (p0 p1 p2 p3 p4 : Nat) (sz : Nat) (x0_4 : Bool) (x0_5 : Int32) (x0_6 : Int32) (x0_7 : Int32) (x0_8 : Int32) (x0_9 : Int32) (x0_10 : Int32) (x0_11 : Int32) (x0_12 : Int32) (x0_13 : Int32) (y1 : Nat → Int32) (y2 : Nat → Int32) (x3_0 : Int32) (x4_0 : Int32)  : Met l y_M_execute (.code y_M_execute b_M_execute 2 (some .int) :: tb) ({ frames := 6, cells := 1, slots := 4000, locals := 130 }) (pM D cI cJ cZ cB (wS0 cI cJ cZ cB p0 p1 p2 p3 p4 x0_4 x0_5 x0_6 x0_7 x0_8 x0_9 x0_10 x0_11 x0_12 x0_13 y1 y2 x3_0 x4_0) sz [.ref p0]) (va_Qi (fun r (_ : Unit) => True) (fun _ t => (∃ u_x0_4 : Bool, ∃ u_x0_5 : Int32, ∃ u_x0_6 : Int32, ∃ u_x0_7 : Int32, ∃ u_x0_9 : Int32, ∃ u_x0_10 : Int32, ∃ u_x0_11 : Int32, ∃ u_x0_12 : Int32, ∃ u_x0_13 : Int32, ∃ u_y1 : Nat → Int32, ∃ u_y2 : Nat → Int32, ∃ u_x3_0 : Int32, ∃ u_x4_0 : Int32, va_P D classes (wS0 cI cJ cZ cB p0 p1 p2 p3 p4 u_x0_4 u_x0_5 u_x0_6 u_x0_7 x0_8 u_x0_9 u_x0_10 u_x0_11 u_x0_12 u_x0_13 u_y1 u_y2 u_x3_0 u_x4_0) t.heap ∧ va_D (va_A (wS0 cI cJ cZ cB p0 p1 p2 p3 p4 x0_4 x0_5 x0_6 x0_7 x0_8 x0_9 x0_10 x0_11 x0_12 x0_13 y1 y2 x3_0 x4_0) sz) (wS0 cI cJ cZ cB p0 p1 p2 p3 p4 u_x0_4 u_x0_5 u_x0_6 u_x0_7 x0_8 u_x0_9 u_x0_10 u_x0_11 u_x0_12 u_x0_13 u_y1 u_y2 u_x3_0 u_x4_0)) ∨ (∃ p5 : Nat, ∃ u_x0_4 : Bool, ∃ u_x0_5 : Int32, ∃ u_x0_6 : Int32, ∃ u_x0_7 : Int32, ∃ u_x0_9 : Int32, ∃ u_x0_10 : Int32, ∃ u_x0_11 : Int32, ∃ u_x0_12 : Int32, ∃ u_x0_13 : Int32, ∃ u_y1 : Nat → Int32, ∃ u_y2 : Nat → Int32, ∃ u_x3_0 : Int32, ∃ u_x4_0 : Int32, ∃ u_y5 : Nat → Int32, va_P D classes (wS3 cI cJ cZ cB p0 p1 p2 p3 p4 p5 u_x0_4 u_x0_5 u_x0_6 u_x0_7 x0_8 u_x0_9 u_x0_10 u_x0_11 u_x0_12 u_x0_13 u_y1 u_y2 u_x3_0 u_x4_0 u_y5) t.heap ∧ va_D (va_A (wS0 cI cJ cZ cB p0 p1 p2 p3 p4 x0_4 x0_5 x0_6 x0_7 x0_8 x0_9 x0_10 x0_11 x0_12 x0_13 y1 y2 x3_0 x4_0) sz) (wS3 cI cJ cZ cB p0 p1 p2 p3 p4 p5 u_x0_4 u_x0_5 u_x0_6 u_x0_7 x0_8 u_x0_9 u_x0_10 u_x0_11 u_x0_12 u_x0_13 u_y1 u_y2 u_x3_0 u_x4_0 u_y5)) ∨ (∃ p5 : Nat, ∃ u_x0_4 : Bool, ∃ u_x0_5 : Int32, ∃ u_x0_6 : Int32, ∃ u_x0_7 : Int32, ∃ u_x0_9 : Int32, ∃ u_x0_10 : Int32, ∃ u_x0_11 : Int32, ∃ u_x0_12 : Int32, ∃ u_x0_13 : Int32, ∃ u_y1 : Nat → Int32, ∃ u_y2 : Nat → Int32, ∃ u_x3_0 : Int32, ∃ u_x4_0 : Int32, ∃ u_y5 : Nat → Int32, va_P D classes (wS4 cI cJ cZ cB p0 p1 p2 p3 p4 p5 u_x0_4 u_x0_5 u_x0_6 u_x0_7 x0_8 u_x0_9 u_x0_10 u_x0_11 u_x0_12 u_x0_13 u_y1 u_y2 u_x3_0 u_x4_0 u_y5) t.heap ∧ va_D (va_A (wS0 cI cJ cZ cB p0 p1 p2 p3 p4 x0_4 x0_5 x0_6 x0_7 x0_8 x0_9 x0_10 x0_11 x0_12 x0_13 y1 y2 x3_0 x4_0) sz) (wS4 cI cJ cZ cB p0 p1 p2 p3 p4 p5 u_x0_4 u_x0_5 u_x0_6 u_x0_7 x0_8 u_x0_9 u_x0_10 u_x0_11 u_x0_12 u_x0_13 u_y1 u_y2 u_x3_0 u_x4_0 u_y5))) (va_A (wS0 cI cJ cZ cB p0 p1 p2 p3 p4 x0_4 x0_5 x0_6 x0_7 x0_8 x0_9 x0_10 x0_11 x0_12 x0_13 y1 y2 x3_0 x4_0) sz)) 1 4000 (va_A (wS0 cI cJ cZ cB p0 p1 p2 p3 p4 x0_4 x0_5 x0_6 x0_7 x0_8 x0_9 x0_10 x0_11 x0_12 x0_13 y1 y2 x3_0 x4_0) sz) := by
  refine Met.ofW (cc := b_M_execute) (maxL := 2) (ret := (some .int)) (by decide) rfl ?_
  intro p e s m args below meth c s₁ B hml hv
  obtain ⟨rfl, hsz, hK, hP, hD0⟩ := hv
  subst hsz
  have hD := hD0.self (sz := s.heap.size)
  generalize hAe : va_A (wS0 cI cJ cZ cB p0 p1 p2 p3 p4 x0_4 x0_5 x0_6 x0_7 x0_8 x0_9 x0_10 x0_11 x0_12 x0_13 y1 y2 x3_0 x4_0) s.heap.size = A at hD ⊢
  have hA : ∀ q : Nat, s.heap.size ≤ q → A q := fun q h => by rw [← hAe]; exact Or.inr h
  clear hAe hD0
  have hS : va_S A s.heap s.heap [] := va_S.rf
  have hx := B.exec
  have hb := B.bytes
  have hr := B.returns
  have hts := atoms_spec (ws := .code y_M_execute b_M_execute 2 (some .int) :: tb) B.pre
  have hk : ∀ w ∈ tb, w.before [.ref p0].toArray s = true := fun w h => hts w (List.mem_cons_of_mem _ h)
  have hown : s.vm.findClass "SignMachine$Machine" = some m.cls := findClass_of_methodNamed B.named
  have hlocks := B.notSynchronized
  have hl := lv_entry ([.ref p0]) (n := 2) (Nat.le_of_ble_eq_true rfl)
  rw [lg_entry_eq]
  generalize (lg_sl ([.ref p0]) ++ List.replicate (2 - (lg_sl ([.ref p0])).length) Slot.unset).toArray = ls at hl ⊢
  have hl : lv_has ls 2 [(0, .ref p0)] := hl
  refine lv_aload_n hx hb d_M_execute_0 rfl (lv_at hl 0 rfl) ?_
  refine va_get (D := D) (ci := 1) (v := .int x0_7) (C := "SignMachine$Machine") (T := F_M) (N := 14) hx hb hk fi_M hown hK.1 hP 0 rfl rfl 7 (by decide) (hk _ k_174) (fun _ h9 => h9) rfl d_M_execute_1 ?_
  refine cs_i (W.runS (As := [.int x0_7]) (rest := []) ⟨hx, hb, hml, hown, hk⟩ (c_M_isAddress l x0_7) (s_M_isAddress hk k_262 ⟨Nat.le_of_ble_eq_true rfl, Nat.le_of_ble_eq_true rfl⟩) ⟨fun a U g mk q => q, fun U hU hW => ⟨rfl, trivial⟩⟩ rfl rfl hl.1 rfl (lv_room (Nat.le_of_ble_eq_true rfl)) d_M_execute_4 ⟨Nat.le_of_ble_eq_true rfl, Nat.le_of_ble_eq_true rfl⟩) ?_
  obtain ⟨z1, hz1⟩ : ∃ y : Bool, y = (f_M_isAddress x0_7) := ⟨_, rfl⟩
  rw [← hz1]
  refine lv_if_ne (tgt := 12) hx hb d_M_execute_7 (by decide) (fun c2 => ?_) (fun c2 => ?_)
  · refine lv_aload_n hx hb d_M_execute_12 rfl (lv_at hl 0 rfl) ?_
    refine lv_aload_n hx hb d_M_execute_13 rfl (lv_at hl 0 rfl) ?_
    refine lv_aload_n hx hb d_M_execute_14 rfl (lv_at hl 0 rfl) ?_
    refine va_get (D := D) (ci := 1) (v := .int x0_7) (C := "SignMachine$Machine") (T := F_M) (N := 14) hx hb hk fi_M hown hK.1 hP 0 rfl rfl 7 (by decide) (hk _ k_174) (fun _ h9 => h9) rfl d_M_execute_15 ?_
    refine sn_i (va_runV (C := "SignMachine$Machine") (As := [.int x0_7]) (rest := [.ref p0]) ⟨hx, hb, hml, hown, hk⟩ (c_M_wordAt_s1 l D cI cJ cZ cB p0 p1 p2 p3 p4 s.heap.size x0_4 x0_5 x0_6 x0_7 x0_8 x0_9 x0_10 x0_11 x0_12 x0_13 y1 y2 x3_0 x4_0 x0_7) (v_M_wordAt_s1 hk k_263 ⟨Nat.le_of_ble_eq_true rfl, Nat.le_of_ble_eq_true rfl⟩) (pM_v hK hP hD (ci := 1) (q0 := 0) rfl rfl rfl) rfl rfl hl.1 rfl (lv_room (Nat.le_of_ble_eq_true rfl)) d_M_execute_18 ⟨by decide, by decide⟩) hS hA hD (fun rz3 u t H locs hr0 ht hB hFr hS => ?_)
    obtain ⟨hP, hD⟩ := hB
    rw [ht] at hP
    have hD := dwk hD hFr
    clear ht hFr
    have hP : va_P D classes (wS0 cI cJ cZ cB p0 p1 p2 p3 p4 x0_4 x0_5 x0_6 x0_7 x0_8 x0_9 x0_10 x0_11 x0_12 x0_13 y1 y2 x3_0 x4_0) H := hP
    have hD : va_D A (wS0 cI cJ cZ cB p0 p1 p2 p3 p4 x0_4 x0_5 x0_6 x0_7 x0_8 x0_9 x0_10 x0_11 x0_12 x0_13 y1 y2 x3_0 x4_0) := hD
    refine kn_v (va_runV (C := "SignMachine$Machine") (As := [.int rz3]) (rest := []) ⟨hx, hb, hml, hown, hk⟩ (c_M_decode_s1 l D cI cJ cZ cB p0 p1 p2 p3 p4 H.size x0_4 x0_5 x0_6 x0_7 x0_8 x0_9 x0_10 x0_11 x0_12 x0_13 y1 y2 x3_0 x4_0 rz3) (v_M_decode_s1 hk k_264 ⟨Nat.le_of_ble_eq_true rfl, Nat.le_of_ble_eq_true rfl⟩) (pM_v hK hP hD (ci := 1) (q0 := 0) rfl rfl rfl) rfl rfl hl.1 rfl (lv_room (Nat.le_of_ble_eq_true rfl)) d_M_execute_21 ⟨by decide, by decide⟩) hS hA hD (fun u t H locs ht hB hFr hS => ?_)
    obtain ⟨x0_9z4, x0_10z4, x0_11z4, x0_12z4, x0_13z4, hP, hD⟩ := hB
    rw [ht] at hP
    have hD := dwk hD hFr
    clear ht hFr
    have hP : va_P D classes (wS0 cI cJ cZ cB p0 p1 p2 p3 p4 x0_4 x0_5 x0_6 x0_7 x0_8 x0_9z4 x0_10z4 x0_11z4 x0_12z4 x0_13z4 y1 y2 x3_0 x4_0) H := hP
    have hD : va_D A (wS0 cI cJ cZ cB p0 p1 p2 p3 p4 x0_4 x0_5 x0_6 x0_7 x0_8 x0_9z4 x0_10z4 x0_11z4 x0_12z4 x0_13z4 y1 y2 x3_0 x4_0) := hD
    refine lv_aload_n hx hb d_M_execute_24 rfl (lv_at hl 0 rfl) ?_
    refine sn_i (va_runV (C := "SignMachine$Machine") (As := []) (rest := []) ⟨hx, hb, hml, hown, hk⟩ (c_M_reasonAgainst_s1 l D cI cJ cZ cB p0 p1 p2 p3 p4 H.size x0_4 x0_5 x0_6 x0_7 x0_8 x0_9z4 x0_10z4 x0_11z4 x0_12z4 x0_13z4 y1 y2 x3_0 x4_0 ) (v_M_reasonAgainst_s1 hk k_280 ⟨Nat.le_of_ble_eq_true rfl, Nat.le_of_ble_eq_true rfl⟩) (pM_v hK hP hD (ci := 1) (q0 := 0) rfl rfl rfl) rfl rfl hl.1 rfl (lv_room (Nat.le_of_ble_eq_true rfl)) d_M_execute_25 ⟨by decide, by decide⟩) hS hA hD (fun rz5 u t H locs hr0 ht hB hFr hS => ?_)
    obtain ⟨hP, hD⟩ := hB
    rw [ht] at hP
    have hD := dwk hD hFr
    clear ht hFr
    have hP : va_P D classes (wS0 cI cJ cZ cB p0 p1 p2 p3 p4 x0_4 x0_5 x0_6 x0_7 x0_8 x0_9z4 x0_10z4 x0_11z4 x0_12z4 x0_13z4 y1 y2 x3_0 x4_0) H := hP
    have hD : va_D A (wS0 cI cJ cZ cB p0 p1 p2 p3 p4 x0_4 x0_5 x0_6 x0_7 x0_8 x0_9z4 x0_10z4 x0_11z4 x0_12z4 x0_13z4 y1 y2 x3_0 x4_0) := hD
    refine lv_istore_n (lv' := [(1, .int rz5), (0, .ref p0)]) hx hb d_M_execute_28 rfl hl (by decide) rfl (fun ls hl => ?_)
    refine lv_iload_n hx hb d_M_execute_29 rfl (lv_at hl 0 rfl) ?_
    refine lv_if_eq (tgt := 35) hx hb d_M_execute_30 (by decide) (fun c6 => ?_) (fun c6 => ?_)
    · refine lv_aload_n hx hb d_M_execute_35 rfl (lv_at hl 1 rfl) ?_
      refine lv_aload_n hx hb d_M_execute_36 rfl (lv_at hl 1 rfl) ?_
      refine va_get (D := D) (ci := 1) (v := .int x0_6) (C := "SignMachine$Machine") (T := F_M) (N := 14) hx hb hk fi_M hown hK.1 hP 0 rfl rfl 6 (by decide) (hk _ k_172) (fun _ h9 => h9) rfl d_M_execute_37 ?_
      refine lv_aload_n hx hb d_M_execute_40 rfl (lv_at hl 1 rfl) ?_
      refine sn_i (va_runV (C := "SignMachine$Machine") (As := []) (rest := [.int x0_6, .ref p0]) ⟨hx, hb, hml, hown, hk⟩ (c_M_duration_s1 l D cI cJ cZ cB p0 p1 p2 p3 p4 H.size x0_4 x0_5 x0_6 x0_7 x0_8 x0_9z4 x0_10z4 x0_11z4 x0_12z4 x0_13z4 y1 y2 x3_0 x4_0 ) (v_M_duration_s1 hk k_341 ⟨Nat.le_of_ble_eq_true rfl, Nat.le_of_ble_eq_true rfl⟩) (pM_v hK hP hD (ci := 1) (q0 := 0) rfl rfl rfl) rfl rfl hl.1 rfl (lv_room (Nat.le_of_ble_eq_true rfl)) d_M_execute_41 ⟨by decide, by decide⟩) hS hA hD (fun rz7 u t H locs hr0 ht hB hFr hS => ?_)
      obtain ⟨hP, hD⟩ := hB
      rw [ht] at hP
      have hD := dwk hD hFr
      clear ht hFr
      have hP : va_P D classes (wS0 cI cJ cZ cB p0 p1 p2 p3 p4 x0_4 x0_5 x0_6 x0_7 x0_8 x0_9z4 x0_10z4 x0_11z4 x0_12z4 x0_13z4 y1 y2 x3_0 x4_0) H := hP
      have hD : va_D A (wS0 cI cJ cZ cB p0 p1 p2 p3 p4 x0_4 x0_5 x0_6 x0_7 x0_8 x0_9z4 x0_10z4 x0_11z4 x0_12z4 x0_13z4 y1 y2 x3_0 x4_0) := hD
      refine lv_iadd hx hb d_M_execute_44 ?_
      refine lv_topi (fun v8 hv8 => ?_)
      refine lv_ldc (v := 1073741823) hx hb hown (hk _ k_345) d_M_execute_45 ?_
      refine lv_iand hx hb d_M_execute_47 ?_
      refine lv_topi (fun v9 hv9 => ?_)
      refine va_put (D := D) (ci := 1) (v := .int v9) (ty := .int) (C := "SignMachine$Machine") (T := F_M) (N := 14) hx hb hk fi_M ft_M ft_M_ok fn_M hown hK.1 hP hD hS 0 rfl rfl 6 (by decide) (hk _ k_172) (fun _ h9 => h9) rfl (by decide +kernel) rfl rfl (Nat.le_of_ble_eq_true rfl) d_M_execute_48 (fun H locs hP hD hS => ?_)
      have hP : va_P D classes (wS0 cI cJ cZ cB p0 p1 p2 p3 p4 x0_4 x0_5 v9 x0_7 x0_8 x0_9z4 x0_10z4 x0_11z4 x0_12z4 x0_13z4 y1 y2 x3_0 x4_0) H := hP
      have hD : va_D A (wS0 cI cJ cZ cB p0 p1 p2 p3 p4 x0_4 x0_5 v9 x0_7 x0_8 x0_9z4 x0_10z4 x0_11z4 x0_12z4 x0_13z4 y1 y2 x3_0 x4_0) := hD
      refine lv_aload_n hx hb d_M_execute_51 rfl (lv_at hl 1 rfl) ?_
      refine lv_dup hx hb d_M_execute_52 rfl ?_
      refine va_get (D := D) (ci := 1) (v := .int x0_7) (C := "SignMachine$Machine") (T := F_M) (N := 14) hx hb hk fi_M hown hK.1 hP 0 rfl rfl 7 (by decide) (hk _ k_174) (fun _ h9 => h9) rfl d_M_execute_53 ?_
      refine lv_iconst (v := 1) hx hb d_M_execute_56 (by decide) ?_
      refine lv_iadd hx hb d_M_execute_57 ?_
      refine lv_topi (fun v10 hv10 => ?_)
      refine va_put (D := D) (ci := 1) (v := .int v10) (ty := .int) (C := "SignMachine$Machine") (T := F_M) (N := 14) hx hb hk fi_M ft_M ft_M_ok fn_M hown hK.1 hP hD hS 0 rfl rfl 7 (by decide) (hk _ k_174) (fun _ h9 => h9) rfl (by decide +kernel) rfl rfl (Nat.le_of_ble_eq_true rfl) d_M_execute_58 (fun H locs hP hD hS => ?_)
      have hP : va_P D classes (wS0 cI cJ cZ cB p0 p1 p2 p3 p4 x0_4 x0_5 v9 v10 x0_8 x0_9z4 x0_10z4 x0_11z4 x0_12z4 x0_13z4 y1 y2 x3_0 x4_0) H := hP
      have hD : va_D A (wS0 cI cJ cZ cB p0 p1 p2 p3 p4 x0_4 x0_5 v9 v10 x0_8 x0_9z4 x0_10z4 x0_11z4 x0_12z4 x0_13z4 y1 y2 x3_0 x4_0) := hD
      refine lv_aload_n hx hb d_M_execute_61 rfl (lv_at hl 1 rfl) ?_
      refine kn_v (va_runV (C := "SignMachine$Machine") (As := []) (rest := []) ⟨hx, hb, hml, hown, hk⟩ (c_M_perform_s1 l D cI cJ cZ cB p0 p1 p2 p3 p4 H.size x0_4 x0_5 v9 v10 x0_8 x0_9z4 x0_10z4 x0_11z4 x0_12z4 x0_13z4 y1 y2 x3_0 x4_0 ) (v_M_perform_s1 hk k_346 ⟨Nat.le_of_ble_eq_true rfl, Nat.le_of_ble_eq_true rfl⟩) (pM_v hK hP hD (ci := 1) (q0 := 0) rfl rfl rfl) rfl rfl hl.1 rfl (lv_room (Nat.le_of_ble_eq_true rfl)) d_M_execute_62 ⟨by decide, by decide⟩) hS hA hD (fun u t H locs ht hB hFr hS => ?_)
      rcases hB with ⟨x0_4z11, x0_5z11, x0_7z11, y1z11, y2z11, x3_0z11, x4_0z11, hP, hD⟩ | ⟨p5, x0_4z11, x0_5z11, x0_7z11, y1z11, y2z11, x3_0z11, x4_0z11, y5z11, hP, hD⟩ | ⟨p5, x0_4z11, x0_5z11, x0_7z11, y1z11, y2z11, x3_0z11, x4_0z11, y5z11, hP, hD⟩
      · rw [ht] at hP
        have hD := dwk hD hFr
        clear ht hFr
        have hP : va_P D classes (wS0 cI cJ cZ cB p0 p1 p2 p3 p4 x0_4z11 x0_5z11 v9 x0_7z11 x0_8 x0_9z4 x0_10z4 x0_11z4 x0_12z4 x0_13z4 y1z11 y2z11 x3_0z11 x4_0z11) H := hP
        have hD : va_D A (wS0 cI cJ cZ cB p0 p1 p2 p3 p4 x0_4z11 x0_5z11 v9 x0_7z11 x0_8 x0_9z4 x0_10z4 x0_11z4 x0_12z4 x0_13z4 y1z11 y2z11 x3_0z11 x4_0z11) := hD
        refine W.widen (k := 1) (n := 4000) (by decide) (by decide) ?_
        refine lv_aload_n hx hb d_M_execute_65 rfl (lv_at hl 1 rfl) ?_
        refine va_get (D := D) (ci := 1) (v := .int x0_9z4) (C := "SignMachine$Machine") (T := F_M) (N := 14) hx hb hk fi_M hown hK.1 hP 0 rfl rfl 9 (by decide) (hk _ k_176) (fun _ h9 => h9) rfl d_M_execute_66 ?_
        refine lv_iconst (v := 5) hx hb d_M_execute_69 (by decide) ?_
        refine lv_icmp_ne (tgt := 85) hx hb d_M_execute_70 (by decide) (fun c12 => ?_) (fun c12 => ?_)
        · refine lv_iconst (v := 0) hx hb d_M_execute_85 (by decide) ?_
          exact W.iret (v := (0 : Int32)) hx hb hr (fun t ht hW => ⟨⟨(0 : Int32), (), rfl, trivial, Or.inl ⟨x0_4z11, x0_5z11, v9, x0_7z11, x0_9z4, x0_10z4, x0_11z4, x0_12z4, x0_13z4, y1z11, y2z11, x3_0z11, x4_0z11, by show va_P D classes _ t.heap; rw [ht]; exact hP, hD⟩⟩, hS.F ht⟩) hS.2.2 d_M_execute_86
        · refine lv_aload_n hx hb d_M_execute_73 rfl (lv_at hl 1 rfl) ?_
          refine va_get (D := D) (ci := 1) (v := .int x0_10z4) (C := "SignMachine$Machine") (T := F_M) (N := 14) hx hb hk fi_M hown hK.1 hP 0 rfl rfl 10 (by decide) (hk _ k_177) (fun _ h9 => h9) rfl d_M_execute_74 ?_
          refine lv_iconst (v := 2) hx hb d_M_execute_77 (by decide) ?_
          refine lv_icmp_ne (tgt := 85) hx hb d_M_execute_78 (by decide) (fun c13 => ?_) (fun c13 => ?_)
          · refine lv_iconst (v := 0) hx hb d_M_execute_85 (by decide) ?_
            exact W.iret (v := (0 : Int32)) hx hb hr (fun t ht hW => ⟨⟨(0 : Int32), (), rfl, trivial, Or.inl ⟨x0_4z11, x0_5z11, v9, x0_7z11, x0_9z4, x0_10z4, x0_11z4, x0_12z4, x0_13z4, y1z11, y2z11, x3_0z11, x4_0z11, by show va_P D classes _ t.heap; rw [ht]; exact hP, hD⟩⟩, hS.F ht⟩) hS.2.2 d_M_execute_86
          · refine lv_iconst (v := 1) hx hb d_M_execute_81 (by decide) ?_
            refine lv_goto (tgt := 86) hx hb d_M_execute_82 (by decide) ?_
            exact W.iret (v := (1 : Int32)) hx hb hr (fun t ht hW => ⟨⟨(1 : Int32), (), rfl, trivial, Or.inl ⟨x0_4z11, x0_5z11, v9, x0_7z11, x0_9z4, x0_10z4, x0_11z4, x0_12z4, x0_13z4, y1z11, y2z11, x3_0z11, x4_0z11, by show va_P D classes _ t.heap; rw [ht]; exact hP, hD⟩⟩, hS.F ht⟩) hS.2.2 d_M_execute_86
      · rw [ht] at hP
        have hD := dwk hD hFr
        clear ht hFr
        have hP : va_P D classes (wS3 cI cJ cZ cB p0 p1 p2 p3 p4 p5 x0_4z11 x0_5z11 v9 x0_7z11 x0_8 x0_9z4 x0_10z4 x0_11z4 x0_12z4 x0_13z4 y1z11 y2z11 x3_0z11 x4_0z11 y5z11) H := hP
        have hD : va_D A (wS3 cI cJ cZ cB p0 p1 p2 p3 p4 p5 x0_4z11 x0_5z11 v9 x0_7z11 x0_8 x0_9z4 x0_10z4 x0_11z4 x0_12z4 x0_13z4 y1z11 y2z11 x3_0z11 x4_0z11 y5z11) := hD
        refine W.widen (k := 1) (n := 4000) (by decide) (by decide) ?_
        refine lv_aload_n hx hb d_M_execute_65 rfl (lv_at hl 1 rfl) ?_
        refine va_get (D := D) (ci := 1) (v := .int x0_9z4) (C := "SignMachine$Machine") (T := F_M) (N := 14) hx hb hk fi_M hown hK.1 hP 0 rfl rfl 9 (by decide) (hk _ k_176) (fun _ h9 => h9) rfl d_M_execute_66 ?_
        refine lv_iconst (v := 5) hx hb d_M_execute_69 (by decide) ?_
        refine lv_icmp_ne (tgt := 85) hx hb d_M_execute_70 (by decide) (fun c14 => ?_) (fun c14 => ?_)
        · refine lv_iconst (v := 0) hx hb d_M_execute_85 (by decide) ?_
          exact W.iret (v := (0 : Int32)) hx hb hr (fun t ht hW => ⟨⟨(0 : Int32), (), rfl, trivial, Or.inr (Or.inl ⟨p5, x0_4z11, x0_5z11, v9, x0_7z11, x0_9z4, x0_10z4, x0_11z4, x0_12z4, x0_13z4, y1z11, y2z11, x3_0z11, x4_0z11, y5z11, by show va_P D classes _ t.heap; rw [ht]; exact hP, hD⟩)⟩, hS.F ht⟩) hS.2.2 d_M_execute_86
        · refine lv_aload_n hx hb d_M_execute_73 rfl (lv_at hl 1 rfl) ?_
          refine va_get (D := D) (ci := 1) (v := .int x0_10z4) (C := "SignMachine$Machine") (T := F_M) (N := 14) hx hb hk fi_M hown hK.1 hP 0 rfl rfl 10 (by decide) (hk _ k_177) (fun _ h9 => h9) rfl d_M_execute_74 ?_
          refine lv_iconst (v := 2) hx hb d_M_execute_77 (by decide) ?_
          refine lv_icmp_ne (tgt := 85) hx hb d_M_execute_78 (by decide) (fun c15 => ?_) (fun c15 => ?_)
          · refine lv_iconst (v := 0) hx hb d_M_execute_85 (by decide) ?_
            exact W.iret (v := (0 : Int32)) hx hb hr (fun t ht hW => ⟨⟨(0 : Int32), (), rfl, trivial, Or.inr (Or.inl ⟨p5, x0_4z11, x0_5z11, v9, x0_7z11, x0_9z4, x0_10z4, x0_11z4, x0_12z4, x0_13z4, y1z11, y2z11, x3_0z11, x4_0z11, y5z11, by show va_P D classes _ t.heap; rw [ht]; exact hP, hD⟩)⟩, hS.F ht⟩) hS.2.2 d_M_execute_86
          · refine lv_iconst (v := 1) hx hb d_M_execute_81 (by decide) ?_
            refine lv_goto (tgt := 86) hx hb d_M_execute_82 (by decide) ?_
            exact W.iret (v := (1 : Int32)) hx hb hr (fun t ht hW => ⟨⟨(1 : Int32), (), rfl, trivial, Or.inr (Or.inl ⟨p5, x0_4z11, x0_5z11, v9, x0_7z11, x0_9z4, x0_10z4, x0_11z4, x0_12z4, x0_13z4, y1z11, y2z11, x3_0z11, x4_0z11, y5z11, by show va_P D classes _ t.heap; rw [ht]; exact hP, hD⟩)⟩, hS.F ht⟩) hS.2.2 d_M_execute_86
      · rw [ht] at hP
        have hD := dwk hD hFr
        clear ht hFr
        have hP : va_P D classes (wS4 cI cJ cZ cB p0 p1 p2 p3 p4 p5 x0_4z11 x0_5z11 v9 x0_7z11 x0_8 x0_9z4 x0_10z4 x0_11z4 x0_12z4 x0_13z4 y1z11 y2z11 x3_0z11 x4_0z11 y5z11) H := hP
        have hD : va_D A (wS4 cI cJ cZ cB p0 p1 p2 p3 p4 p5 x0_4z11 x0_5z11 v9 x0_7z11 x0_8 x0_9z4 x0_10z4 x0_11z4 x0_12z4 x0_13z4 y1z11 y2z11 x3_0z11 x4_0z11 y5z11) := hD
        refine W.widen (k := 1) (n := 4000) (by decide) (by decide) ?_
        refine lv_aload_n hx hb d_M_execute_65 rfl (lv_at hl 1 rfl) ?_
        refine va_get (D := D) (ci := 1) (v := .int x0_9z4) (C := "SignMachine$Machine") (T := F_M) (N := 14) hx hb hk fi_M hown hK.1 hP 0 rfl rfl 9 (by decide) (hk _ k_176) (fun _ h9 => h9) rfl d_M_execute_66 ?_
        refine lv_iconst (v := 5) hx hb d_M_execute_69 (by decide) ?_
        refine lv_icmp_ne (tgt := 85) hx hb d_M_execute_70 (by decide) (fun c16 => ?_) (fun c16 => ?_)
        · refine lv_iconst (v := 0) hx hb d_M_execute_85 (by decide) ?_
          exact W.iret (v := (0 : Int32)) hx hb hr (fun t ht hW => ⟨⟨(0 : Int32), (), rfl, trivial, Or.inr (Or.inr (⟨p5, x0_4z11, x0_5z11, v9, x0_7z11, x0_9z4, x0_10z4, x0_11z4, x0_12z4, x0_13z4, y1z11, y2z11, x3_0z11, x4_0z11, y5z11, by show va_P D classes _ t.heap; rw [ht]; exact hP, hD⟩))⟩, hS.F ht⟩) hS.2.2 d_M_execute_86
        · refine lv_aload_n hx hb d_M_execute_73 rfl (lv_at hl 1 rfl) ?_
          refine va_get (D := D) (ci := 1) (v := .int x0_10z4) (C := "SignMachine$Machine") (T := F_M) (N := 14) hx hb hk fi_M hown hK.1 hP 0 rfl rfl 10 (by decide) (hk _ k_177) (fun _ h9 => h9) rfl d_M_execute_74 ?_
          refine lv_iconst (v := 2) hx hb d_M_execute_77 (by decide) ?_
          refine lv_icmp_ne (tgt := 85) hx hb d_M_execute_78 (by decide) (fun c17 => ?_) (fun c17 => ?_)
          · refine lv_iconst (v := 0) hx hb d_M_execute_85 (by decide) ?_
            exact W.iret (v := (0 : Int32)) hx hb hr (fun t ht hW => ⟨⟨(0 : Int32), (), rfl, trivial, Or.inr (Or.inr (⟨p5, x0_4z11, x0_5z11, v9, x0_7z11, x0_9z4, x0_10z4, x0_11z4, x0_12z4, x0_13z4, y1z11, y2z11, x3_0z11, x4_0z11, y5z11, by show va_P D classes _ t.heap; rw [ht]; exact hP, hD⟩))⟩, hS.F ht⟩) hS.2.2 d_M_execute_86
          · refine lv_iconst (v := 1) hx hb d_M_execute_81 (by decide) ?_
            refine lv_goto (tgt := 86) hx hb d_M_execute_82 (by decide) ?_
            exact W.iret (v := (1 : Int32)) hx hb hr (fun t ht hW => ⟨⟨(1 : Int32), (), rfl, trivial, Or.inr (Or.inr (⟨p5, x0_4z11, x0_5z11, v9, x0_7z11, x0_9z4, x0_10z4, x0_11z4, x0_12z4, x0_13z4, y1z11, y2z11, x3_0z11, x4_0z11, y5z11, by show va_P D classes _ t.heap; rw [ht]; exact hP, hD⟩))⟩, hS.F ht⟩) hS.2.2 d_M_execute_86
    · refine lv_iload_n hx hb d_M_execute_33 rfl (lv_at hl 0 rfl) ?_
      refine W.widen (k := 1) (n := 4000) (by decide) (by decide) ?_
      exact W.iret (v := rz5) hx hb hr (fun t ht hW => ⟨⟨rz5, (), rfl, trivial, Or.inl ⟨x0_4, x0_5, x0_6, x0_7, x0_9z4, x0_10z4, x0_11z4, x0_12z4, x0_13z4, y1, y2, x3_0, x4_0, by show va_P D classes _ t.heap; rw [ht]; exact hP, hD⟩⟩, hS.F ht⟩) hS.2.2 d_M_execute_34
  · refine lv_iconst (v := 3) hx hb d_M_execute_10 (by decide) ?_
    refine W.widen (k := 1) (n := 4000) (by decide) (by decide) ?_
    exact W.iret (v := (3 : Int32)) hx hb hr (fun t ht hW => ⟨⟨(3 : Int32), (), rfl, trivial, Or.inl ⟨x0_4, x0_5, x0_6, x0_7, x0_9, x0_10, x0_11, x0_12, x0_13, y1, y2, x3_0, x4_0, by show va_P D classes _ t.heap; rw [ht]; exact hP, hD⟩⟩, hS.F ht⟩) hS.2.2 d_M_execute_11
theorem v_M_execute_s1 {R : Room} {s : State} {args : Array Value} {own : String} {index : Nat} (hk : ∀ w ∈ tb, w.before args s = true) (hl : Cond.methodLink own index y_M_execute ∈ tb) (hR : 6 + 1 ≤ R.frames ∧ 8 + (2 + 11) + 130 ≤ R.locals) : CallW R s args own "SignMachine$Machine" index y_M_execute b_M_execute 2 (some .int) (.code y_M_execute b_M_execute 2 (some .int) :: tb) ({ frames := 6, cells := 1, slots := 4000, locals := 130 }) 1 4000 0 := mk_v 0 hk k_261 hl k_259 k_260 k_117 rfl rfl h_M_execute hR

set_option maxHeartbeats 4000000 in
set_option maxRecDepth 100000 in
theorem c_M_divide_s4 (l : Launch) (K : CK) (D : va_G) (cI cJ cZ cB : ClassId) (p0 p1 p2 p3 p4 p5 p6 : Nat) (sz : Nat) (x0_4 : Bool) (x0_5 : Int32) (x0_6 : Int32) (x0_7 : Int32) (x0_8 : Int32) (x0_9 : Int32) (x0_10 : Int32) (x0_11 : Int32) (x0_12 : Int32) (x0_13 : Int32) (y1 : Nat → Int32) (y2 : Nat → Int32) (x3_0 : Int32) (x4_0 : Int32) (y5 : Nat → Int32) (y6 : Nat → Int32)  (a1 : Int32) : Met l y_M_divide (.code y_M_divide b_M_divide 6 none :: tb) ({ frames := 2, cells := 0, slots := 0, locals := 41 }) (pMC K D cI cJ cZ cB (wS62 cI cJ cZ cB p0 p1 p2 p3 p4 p5 p6 x0_4 x0_5 x0_6 x0_7 x0_8 x0_9 x0_10 x0_11 x0_12 x0_13 y1 y2 x3_0 x4_0 y5 y6) sz [.ref p0, .int a1]) (va_Qv (fun (_ : Unit) => True) (fun _ t => (∃ u_x0_4 : Bool, ∃ u_y2 : Nat → Int32, va_P D classes (wS62 cI cJ cZ cB p0 p1 p2 p3 p4 p5 p6 u_x0_4 x0_5 x0_6 x0_7 x0_8 x0_9 x0_10 x0_11 x0_12 x0_13 y1 u_y2 x3_0 x4_0 y5 y6) t.heap ∧ va_D (va_A (wS62 cI cJ cZ cB p0 p1 p2 p3 p4 p5 p6 x0_4 x0_5 x0_6 x0_7 x0_8 x0_9 x0_10 x0_11 x0_12 x0_13 y1 y2 x3_0 x4_0 y5 y6) sz) (wS62 cI cJ cZ cB p0 p1 p2 p3 p4 p5 p6 u_x0_4 x0_5 x0_6 x0_7 x0_8 x0_9 x0_10 x0_11 x0_12 x0_13 y1 u_y2 x3_0 x4_0 y5 y6))) (va_A (wS62 cI cJ cZ cB p0 p1 p2 p3 p4 p5 p6 x0_4 x0_5 x0_6 x0_7 x0_8 x0_9 x0_10 x0_11 x0_12 x0_13 y1 y2 x3_0 x4_0 y5 y6) sz)) 0 0 (va_A (wS62 cI cJ cZ cB p0 p1 p2 p3 p4 p5 p6 x0_4 x0_5 x0_6 x0_7 x0_8 x0_9 x0_10 x0_11 x0_12 x0_13 y1 y2 x3_0 x4_0 y5 y6) sz) := by
  refine Met.ofW (cc := b_M_divide) (maxL := 6) (ret := none) (by decide) rfl ?_
  intro p e s m args below meth c s₁ B hml hv
  obtain ⟨rfl, hsz, hK, hP, hD0, hC⟩ := hv
  subst hsz
  have hD := hD0.self (sz := s.heap.size)
  generalize hAe : va_A (wS62 cI cJ cZ cB p0 p1 p2 p3 p4 p5 p6 x0_4 x0_5 x0_6 x0_7 x0_8 x0_9 x0_10 x0_11 x0_12 x0_13 y1 y2 x3_0 x4_0 y5 y6) s.heap.size = A at hD hC ⊢
  have hA : ∀ q : Nat, s.heap.size ≤ q → A q := fun q h => by rw [← hAe]; exact Or.inr h
  clear hAe hD0
  have hS : va_S A s.heap s.heap [] := va_S.rf
  have hx := B.exec
  have hb := B.bytes
  have hr := B.returns
  have hts := atoms_spec (ws := .code y_M_divide b_M_divide 6 none :: tb) B.pre
  have hk : ∀ w ∈ tb, w.before [.ref p0, .int a1].toArray s = true := fun w h => hts w (List.mem_cons_of_mem _ h)
  have hown : s.vm.findClass "SignMachine$Machine" = some m.cls := findClass_of_methodNamed B.named
  have hlocks := B.notSynchronized
  have hl := lv_entry ([.ref p0, .int a1]) (n := 6) (Nat.le_of_ble_eq_true rfl)
  rw [lg_entry_eq]
  generalize (lg_sl ([.ref p0, .int a1]) ++ List.replicate (6 - (lg_sl ([.ref p0, .int a1])).length) Slot.unset).toArray = ls at hl ⊢
  have hl : lv_has ls 6 [(0, .ref p0), (1, .int a1)] := hl
  refine lv_aload_n hx hb d_M_divide_0 rfl (lv_at hl 0 rfl) ?_
  refine lv_iconst (v := 0) hx hb d_M_divide_1 (by decide) ?_
  refine sn_i (va_runV (C := "SignMachine$Machine") (As := [.int (0 : Int32)]) (rest := []) ⟨hx, hb, hml, hown, hk⟩ (c_M_register_s5 l K D cI cJ cZ cB p0 p1 p2 p3 p4 p5 p6 s.heap.size x0_4 x0_5 x0_6 x0_7 x0_8 x0_9 x0_10 x0_11 x0_12 x0_13 y1 y2 x3_0 x4_0 y5 y6  (0 : Int32) ) (v_M_register_s5 hk k_273 ⟨Nat.le_of_ble_eq_true rfl, Nat.le_of_ble_eq_true rfl⟩) (pMC_v hK hP hD hC hS hA (ci := 1) (q0 := 0) rfl rfl rfl) rfl rfl hl.1 rfl (lv_room (Nat.le_of_ble_eq_true rfl)) d_M_divide_2 ⟨by decide, by decide⟩) hS hA hD (fun rz1 u t H locs hr0 ht hB hFr hS => ?_)
  obtain ⟨hP, hD⟩ := hB
  rw [ht] at hP
  have hD := dwk hD hFr
  clear ht hFr
  have hP : va_P D classes (wS62 cI cJ cZ cB p0 p1 p2 p3 p4 p5 p6 x0_4 x0_5 x0_6 x0_7 x0_8 x0_9 x0_10 x0_11 x0_12 x0_13 y1 y2 x3_0 x4_0 y5 y6) H := hP
  have hD : va_D A (wS62 cI cJ cZ cB p0 p1 p2 p3 p4 p5 p6 x0_4 x0_5 x0_6 x0_7 x0_8 x0_9 x0_10 x0_11 x0_12 x0_13 y1 y2 x3_0 x4_0 y5 y6) := hD
  refine lv_istore_n (lv' := [(2, .int rz1), (0, .ref p0), (1, .int a1)]) hx hb d_M_divide_5 rfl hl (by decide) rfl (fun ls hl => ?_)
  refine lv_iload_n hx hb d_M_divide_6 rfl (lv_at hl 2 rfl) ?_
  refine cs_i (W.runS (As := [.int a1]) (rest := []) ⟨hx, hb, hml, hown, hk⟩ (c_W_size l a1) (s_W_size hk k_268 ⟨Nat.le_of_ble_eq_true rfl, Nat.le_of_ble_eq_true rfl⟩) ⟨fun a U g mk q => q, fun U hU hW => ⟨rfl, trivial⟩⟩ rfl rfl hl.1 rfl (lv_room (Nat.le_of_ble_eq_true rfl)) d_M_divide_7 ⟨Nat.le_of_ble_eq_true rfl, Nat.le_of_ble_eq_true rfl⟩) ?_
  refine lv_topi (fun v2 hv2 => ?_)
  refine lv_istore_n (lv' := [(3, .int v2), (2, .int rz1), (0, .ref p0), (1, .int a1)]) hx hb d_M_divide_10 rfl hl (by decide) rfl (fun ls hl => ?_)
  refine lv_iload_n hx hb d_M_divide_11 rfl (lv_at hl 0 rfl) ?_
  refine lv_if_eq (tgt := 23) hx hb d_M_divide_12 (by decide) (fun c3 => ?_) (fun c3 => ?_)
  · refine lv_aload_n hx hb d_M_divide_23 rfl (lv_at hl 2 rfl) ?_
    refine lv_iconst (v := 1) hx hb d_M_divide_24 (by decide) ?_
    refine va_put (D := D) (ci := 1) (v := .int (1 : Int32)) (ty := .boolean) (C := "SignMachine$Machine") (T := F_M) (N := 14) hx hb hk fi_M ft_M ft_M_ok fn_M hown hK.1 hP hD hS 0 rfl rfl 4 (by decide) (hk _ k_168) (fun _ h9 => h9) rfl (by decide +kernel) rfl rfl (Nat.le_of_ble_eq_true rfl) d_M_divide_25 (fun H locs hP hD hS => ?_)
    have hP : va_P D classes (wS62 cI cJ cZ cB p0 p1 p2 p3 p4 p5 p6 true x0_5 x0_6 x0_7 x0_8 x0_9 x0_10 x0_11 x0_12 x0_13 y1 y2 x3_0 x4_0 y5 y6) H := hP
    have hD : va_D A (wS62 cI cJ cZ cB p0 p1 p2 p3 p4 p5 p6 true x0_5 x0_6 x0_7 x0_8 x0_9 x0_10 x0_11 x0_12 x0_13 y1 y2 x3_0 x4_0 y5 y6) := hD
    exact W.vret hx hb hr (fun t ht hW => ⟨⟨(), rfl, trivial, ⟨true, y2, by show va_P D classes _ t.heap; rw [ht]; exact hP, hD⟩⟩, hS.F ht⟩) hS.2.2 d_M_divide_28
  · refine lv_iload_n hx hb d_M_divide_15 rfl (lv_at hl 1 rfl) ?_
    refine cs_i (W.runS (As := [.int rz1]) (rest := []) ⟨hx, hb, hml, hown, hk⟩ (c_W_size l rz1) (s_W_size hk k_268 ⟨Nat.le_of_ble_eq_true rfl, Nat.le_of_ble_eq_true rfl⟩) ⟨fun a U g mk q => q, fun U hU hW => ⟨rfl, trivial⟩⟩ rfl rfl hl.1 rfl (lv_room (Nat.le_of_ble_eq_true rfl)) d_M_divide_16 ⟨Nat.le_of_ble_eq_true rfl, Nat.le_of_ble_eq_true rfl⟩) ?_
    refine lv_topi (fun v4 hv4 => ?_)
    refine lv_iload_n hx hb d_M_divide_19 rfl (lv_at hl 0 rfl) ?_
    refine lv_icmp_lt (tgt := 29) hx hb d_M_divide_20 (by decide) (fun c5 => ?_) (fun c5 => ?_)
    · refine lv_aload_n hx hb d_M_divide_29 rfl (lv_at hl 2 rfl) ?_
      refine sn_l (va_runV (C := "SignMachine$Machine") (As := []) (rest := []) ⟨hx, hb, hml, hown, hk⟩ (c_M_sizeOfAX_s4 l K D cI cJ cZ cB p0 p1 p2 p3 p4 p5 p6 H.size x0_4 x0_5 x0_6 x0_7 x0_8 x0_9 x0_10 x0_11 x0_12 x0_13 y1 y2 x3_0 x4_0 y5 y6   ) (v_M_sizeOfAX_s4 hk k_375 ⟨Nat.le_of_ble_eq_true rfl, Nat.le_of_ble_eq_true rfl⟩) (pMC_v hK hP hD hC hS hA (ci := 1) (q0 := 0) rfl rfl rfl) rfl rfl hl.1 rfl (lv_room (Nat.le_of_ble_eq_true rfl)) d_M_divide_30 ⟨by decide, by decide⟩) hS hA hD (fun rz6 u t H locs hr0 ht hB hFr hS => ?_)
      obtain ⟨hP, hD⟩ := hB
      rw [ht] at hP
      have hD := dwk hD hFr
      clear ht hFr
      have hP : va_P D classes (wS62 cI cJ cZ cB p0 p1 p2 p3 p4 p5 p6 x0_4 x0_5 x0_6 x0_7 x0_8 x0_9 x0_10 x0_11 x0_12 x0_13 y1 y2 x3_0 x4_0 y5 y6) H := hP
      have hD : va_D A (wS62 cI cJ cZ cB p0 p1 p2 p3 p4 p5 p6 x0_4 x0_5 x0_6 x0_7 x0_8 x0_9 x0_10 x0_11 x0_12 x0_13 y1 y2 x3_0 x4_0 y5 y6) := hD
      refine lv_lstore (lv' := [(4, .long rz6), (3, .int v2), (2, .int rz1), (0, .ref p0), (1, .int a1)]) hx hb d_M_divide_33 hl (by decide) rfl (fun ls hl => ?_)
      refine lv_aload_n hx hb d_M_divide_35 rfl (lv_at hl 3 rfl) ?_
      refine lv_iconst (v := 0) hx hb d_M_divide_36 (by decide) ?_
      refine lv_iload_n hx hb d_M_divide_37 rfl (lv_at hl 2 rfl) ?_
      refine cs_i (W.runS (As := [.int rz1]) (rest := [.int (0 : Int32), .ref p0]) ⟨hx, hb, hml, hown, hk⟩ (c_W_sign l rz1) (s_W_sign hk k_269 ⟨Nat.le_of_ble_eq_true rfl, Nat.le_of_ble_eq_true rfl⟩) ⟨fun a U g mk q => q, fun U hU hW => ⟨rfl, trivial⟩⟩ rfl rfl hl.1 rfl (lv_room (Nat.le_of_ble_eq_true rfl)) d_M_divide_38 ⟨Nat.le_of_ble_eq_true rfl, Nat.le_of_ble_eq_true rfl⟩) ?_
      refine lv_topi (fun v7 hv7 => ?_)
      refine lv_iload_n hx hb d_M_divide_41 rfl (lv_at hl 4 rfl) ?_
      refine cs_i (W.runS (As := [.int a1]) (rest := [.int v7, .int (0 : Int32), .ref p0]) ⟨hx, hb, hml, hown, hk⟩ (c_W_sign l a1) (s_W_sign hk k_269 ⟨Nat.le_of_ble_eq_true rfl, Nat.le_of_ble_eq_true rfl⟩) ⟨fun a U g mk q => q, fun U hU hW => ⟨rfl, trivial⟩⟩ rfl rfl hl.1 rfl (lv_room (Nat.le_of_ble_eq_true rfl)) d_M_divide_42 ⟨Nat.le_of_ble_eq_true rfl, Nat.le_of_ble_eq_true rfl⟩) ?_
      refine lv_topi (fun v8 hv8 => ?_)
      refine lv_ixor hx hb d_M_divide_45 ?_
      refine lv_topi (fun v9 hv9 => ?_)
      refine lv_lload hx hb d_M_divide_46 (lv_at hl 0 rfl) ?_
      refine lv_iload_n hx hb d_M_divide_48 rfl (lv_at hl 1 rfl) ?_
      refine lv_i2l (v := (v2 : Int32).toInt64) hx hb d_M_divide_49 rfl ?_
      refine lv_topl (fun v10 hv10 => ?_)
      refine lv_ldiv hx hb d_M_divide_50 (by rw [hv10]; exact i2l_ne c3) ?_
      refine lv_topl (fun v11 hv11 => ?_)
      refine lv_l2i (v := (v11 : Int64).toInt32) hx hb d_M_divide_51 rfl ?_
      refine lv_topi (fun v12 hv12 => ?_)
      refine cs_i (W.runS (As := [.int v9, .int v12]) (rest := [.int (0 : Int32), .ref p0]) ⟨hx, hb, hml, hown, hk⟩ (c_W_make l v9 v12) (s_W_make hk k_370 ⟨Nat.le_of_ble_eq_true rfl, Nat.le_of_ble_eq_true rfl⟩) ⟨fun a U g mk q => q, fun U hU hW => ⟨rfl, trivial⟩⟩ rfl rfl hl.1 rfl (lv_room (Nat.le_of_ble_eq_true rfl)) d_M_divide_52 ⟨Nat.le_of_ble_eq_true rfl, Nat.le_of_ble_eq_true rfl⟩) ?_
      refine lv_topi (fun v13 hv13 => ?_)
      refine kn_v (va_runV (C := "SignMachine$Machine") (As := [.int (0 : Int32), .int v13]) (rest := []) ⟨hx, hb, hml, hown, hk⟩ (c_M_putRegister_s4 l K D cI cJ cZ cB p0 p1 p2 p3 p4 p5 p6 H.size x0_4 x0_5 x0_6 x0_7 x0_8 x0_9 x0_10 x0_11 x0_12 x0_13 y1 y2 x3_0 x4_0 y5 y6  (0 : Int32) v13 ) (v_M_putRegister_s4 hk k_362 ⟨Nat.le_of_ble_eq_true rfl, Nat.le_of_ble_eq_true rfl⟩) (pMC_v hK hP hD hC hS hA (ci := 1) (q0 := 0) rfl rfl rfl) rfl rfl hl.1 rfl (lv_room (Nat.le_of_ble_eq_true rfl)) d_M_divide_55 ⟨by decide, by decide⟩) hS hA hD (fun u t H locs ht hB hFr hS => ?_)
      obtain ⟨y2z14, hP, hD⟩ := hB
      rw [ht] at hP
      have hD := dwk hD hFr
      clear ht hFr
      have hP : va_P D classes (wS62 cI cJ cZ cB p0 p1 p2 p3 p4 p5 p6 x0_4 x0_5 x0_6 x0_7 x0_8 x0_9 x0_10 x0_11 x0_12 x0_13 y1 y2z14 x3_0 x4_0 y5 y6) H := hP
      have hD : va_D A (wS62 cI cJ cZ cB p0 p1 p2 p3 p4 p5 p6 x0_4 x0_5 x0_6 x0_7 x0_8 x0_9 x0_10 x0_11 x0_12 x0_13 y1 y2z14 x3_0 x4_0 y5 y6) := hD
      refine lv_aload_n hx hb d_M_divide_58 rfl (lv_at hl 3 rfl) ?_
      refine lv_bipush (v := 7) hx hb d_M_divide_59 (by decide) ?_
      refine lv_iload_n hx hb d_M_divide_61 rfl (lv_at hl 2 rfl) ?_
      refine cs_i (W.runS (As := [.int rz1]) (rest := [.int (7 : Int32), .ref p0]) ⟨hx, hb, hml, hown, hk⟩ (c_W_sign l rz1) (s_W_sign hk k_269 ⟨Nat.le_of_ble_eq_true rfl, Nat.le_of_ble_eq_true rfl⟩) ⟨fun a U g mk q => q, fun U hU hW => ⟨rfl, trivial⟩⟩ rfl rfl hl.1 rfl (lv_room (Nat.le_of_ble_eq_true rfl)) d_M_divide_62 ⟨Nat.le_of_ble_eq_true rfl, Nat.le_of_ble_eq_true rfl⟩) ?_
      refine lv_topi (fun v15 hv15 => ?_)
      refine lv_lload hx hb d_M_divide_65 (lv_at hl 0 rfl) ?_
      refine lv_iload_n hx hb d_M_divide_67 rfl (lv_at hl 1 rfl) ?_
      refine lv_i2l (v := (v2 : Int32).toInt64) hx hb d_M_divide_68 rfl ?_
      refine lv_topl (fun v16 hv16 => ?_)
      refine lv_lrem hx hb d_M_divide_69 (by rw [hv16]; exact i2l_ne c3) ?_
      refine lv_topl (fun v17 hv17 => ?_)
      refine lv_l2i (v := (v17 : Int64).toInt32) hx hb d_M_divide_70 rfl ?_
      refine lv_topi (fun v18 hv18 => ?_)
      refine cs_i (W.runS (As := [.int v15, .int v18]) (rest := [.int (7 : Int32), .ref p0]) ⟨hx, hb, hml, hown, hk⟩ (c_W_make l v15 v18) (s_W_make hk k_370 ⟨Nat.le_of_ble_eq_true rfl, Nat.le_of_ble_eq_true rfl⟩) ⟨fun a U g mk q => q, fun U hU hW => ⟨rfl, trivial⟩⟩ rfl rfl hl.1 rfl (lv_room (Nat.le_of_ble_eq_true rfl)) d_M_divide_71 ⟨Nat.le_of_ble_eq_true rfl, Nat.le_of_ble_eq_true rfl⟩) ?_
      refine lv_topi (fun v19 hv19 => ?_)
      refine kn_v (va_runV (C := "SignMachine$Machine") (As := [.int (7 : Int32), .int v19]) (rest := []) ⟨hx, hb, hml, hown, hk⟩ (c_M_putRegister_s4 l K D cI cJ cZ cB p0 p1 p2 p3 p4 p5 p6 H.size x0_4 x0_5 x0_6 x0_7 x0_8 x0_9 x0_10 x0_11 x0_12 x0_13 y1 y2z14 x3_0 x4_0 y5 y6  (7 : Int32) v19 ) (v_M_putRegister_s4 hk k_362 ⟨Nat.le_of_ble_eq_true rfl, Nat.le_of_ble_eq_true rfl⟩) (pMC_v hK hP hD hC hS hA (ci := 1) (q0 := 0) rfl rfl rfl) rfl rfl hl.1 rfl (lv_room (Nat.le_of_ble_eq_true rfl)) d_M_divide_74 ⟨by decide, by decide⟩) hS hA hD (fun u t H locs ht hB hFr hS => ?_)
      obtain ⟨y2z20, hP, hD⟩ := hB
      rw [ht] at hP
      have hD := dwk hD hFr
      clear ht hFr
      have hP : va_P D classes (wS62 cI cJ cZ cB p0 p1 p2 p3 p4 p5 p6 x0_4 x0_5 x0_6 x0_7 x0_8 x0_9 x0_10 x0_11 x0_12 x0_13 y1 y2z20 x3_0 x4_0 y5 y6) H := hP
      have hD : va_D A (wS62 cI cJ cZ cB p0 p1 p2 p3 p4 p5 p6 x0_4 x0_5 x0_6 x0_7 x0_8 x0_9 x0_10 x0_11 x0_12 x0_13 y1 y2z20 x3_0 x4_0 y5 y6) := hD
      exact W.vret hx hb hr (fun t ht hW => ⟨⟨(), rfl, trivial, ⟨x0_4, y2z20, by show va_P D classes _ t.heap; rw [ht]; exact hP, hD⟩⟩, hS.F ht⟩) hS.2.2 d_M_divide_77
    · refine lv_aload_n hx hb d_M_divide_23 rfl (lv_at hl 2 rfl) ?_
      refine lv_iconst (v := 1) hx hb d_M_divide_24 (by decide) ?_
      refine va_put (D := D) (ci := 1) (v := .int (1 : Int32)) (ty := .boolean) (C := "SignMachine$Machine") (T := F_M) (N := 14) hx hb hk fi_M ft_M ft_M_ok fn_M hown hK.1 hP hD hS 0 rfl rfl 4 (by decide) (hk _ k_168) (fun _ h9 => h9) rfl (by decide +kernel) rfl rfl (Nat.le_of_ble_eq_true rfl) d_M_divide_25 (fun H locs hP hD hS => ?_)
      have hP : va_P D classes (wS62 cI cJ cZ cB p0 p1 p2 p3 p4 p5 p6 true x0_5 x0_6 x0_7 x0_8 x0_9 x0_10 x0_11 x0_12 x0_13 y1 y2 x3_0 x4_0 y5 y6) H := hP
      have hD : va_D A (wS62 cI cJ cZ cB p0 p1 p2 p3 p4 p5 p6 true x0_5 x0_6 x0_7 x0_8 x0_9 x0_10 x0_11 x0_12 x0_13 y1 y2 x3_0 x4_0 y5 y6) := hD
      exact W.vret hx hb hr (fun t ht hW => ⟨⟨(), rfl, trivial, ⟨true, y2, by show va_P D classes _ t.heap; rw [ht]; exact hP, hD⟩⟩, hS.F ht⟩) hS.2.2 d_M_divide_28
theorem v_M_divide_s4 {R : Room} {s : State} {args : Array Value} {own : String} {index : Nat} (hk : ∀ w ∈ tb, w.before args s = true) (hl : Cond.methodLink own index y_M_divide ∈ tb) (hR : 2 + 1 ≤ R.frames ∧ 8 + (6 + 11) + 41 ≤ R.locals) : CallW R s args own "SignMachine$Machine" index y_M_divide b_M_divide 6 none (.code y_M_divide b_M_divide 6 none :: tb) ({ frames := 2, cells := 0, slots := 0, locals := 41 }) 0 0 1 := mk_v 1 hk k_374 hl k_373 k_15 k_117 rfl rfl h_M_divide hR
set_option maxHeartbeats 4000000 in
set_option maxRecDepth 100000 in
theorem c_M_putSizesOfAX_s4 (l : Launch) (K : CK) (D : va_G) (cI cJ cZ cB : ClassId) (p0 p1 p2 p3 p4 p5 p6 : Nat) (sz : Nat) (x0_4 : Bool) (x0_5 : Int32) (x0_6 : Int32) (x0_7 : Int32) (x0_8 : Int32) (x0_9 : Int32) (x0_10 : Int32) (x0_11 : Int32) (x0_12 : Int32) (x0_13 : Int32) (y1 : Nat → Int32) (y2 : Nat → Int32) (x3_0 : Int32) (x4_0 : Int32) (y5 : Nat → Int32) (y6 : Nat → Int32)  (a1 : Int64) : Met l y_M_putSizesOfAX (.code y_M_putSizesOfAX b_M_putSizesOfAX 5 none :: tb) ({ frames := 1, cells := 0, slots := 0, locals := 22 }) (pMC K D cI cJ cZ cB (wS62 cI cJ cZ cB p0 p1 p2 p3 p4 p5 p6 x0_4 x0_5 x0_6 x0_7 x0_8 x0_9 x0_10 x0_11 x0_12 x0_13 y1 y2 x3_0 x4_0 y5 y6) sz [.ref p0, .long a1]) (va_Qv (fun (_ : Unit) => True) (fun _ t => (∃ u_y2 : Nat → Int32, va_P D classes (wS62 cI cJ cZ cB p0 p1 p2 p3 p4 p5 p6 x0_4 x0_5 x0_6 x0_7 x0_8 x0_9 x0_10 x0_11 x0_12 x0_13 y1 u_y2 x3_0 x4_0 y5 y6) t.heap ∧ va_D (va_A (wS62 cI cJ cZ cB p0 p1 p2 p3 p4 p5 p6 x0_4 x0_5 x0_6 x0_7 x0_8 x0_9 x0_10 x0_11 x0_12 x0_13 y1 y2 x3_0 x4_0 y5 y6) sz) (wS62 cI cJ cZ cB p0 p1 p2 p3 p4 p5 p6 x0_4 x0_5 x0_6 x0_7 x0_8 x0_9 x0_10 x0_11 x0_12 x0_13 y1 u_y2 x3_0 x4_0 y5 y6))) (va_A (wS62 cI cJ cZ cB p0 p1 p2 p3 p4 p5 p6 x0_4 x0_5 x0_6 x0_7 x0_8 x0_9 x0_10 x0_11 x0_12 x0_13 y1 y2 x3_0 x4_0 y5 y6) sz)) 0 0 (va_A (wS62 cI cJ cZ cB p0 p1 p2 p3 p4 p5 p6 x0_4 x0_5 x0_6 x0_7 x0_8 x0_9 x0_10 x0_11 x0_12 x0_13 y1 y2 x3_0 x4_0 y5 y6) sz) := by
  refine Met.ofW (cc := b_M_putSizesOfAX) (maxL := 5) (ret := none) (by decide) rfl ?_
  intro p e s m args below meth c s₁ B hml hv
  obtain ⟨rfl, hsz, hK, hP, hD0, hC⟩ := hv
  subst hsz
  have hD := hD0.self (sz := s.heap.size)
  generalize hAe : va_A (wS62 cI cJ cZ cB p0 p1 p2 p3 p4 p5 p6 x0_4 x0_5 x0_6 x0_7 x0_8 x0_9 x0_10 x0_11 x0_12 x0_13 y1 y2 x3_0 x4_0 y5 y6) s.heap.size = A at hD hC ⊢
  have hA : ∀ q : Nat, s.heap.size ≤ q → A q := fun q h => by rw [← hAe]; exact Or.inr h
  clear hAe hD0
  have hS : va_S A s.heap s.heap [] := va_S.rf
  have hx := B.exec
  have hb := B.bytes
  have hr := B.returns
  have hts := atoms_spec (ws := .code y_M_putSizesOfAX b_M_putSizesOfAX 5 none :: tb) B.pre
  have hk : ∀ w ∈ tb, w.before [.ref p0, .long a1].toArray s = true := fun w h => hts w (List.mem_cons_of_mem _ h)
  have hown : s.vm.findClass "SignMachine$Machine" = some m.cls := findClass_of_methodNamed B.named
  have hlocks := B.notSynchronized
  have hl := lv_entry ([.ref p0, .long a1]) (n := 5) (Nat.le_of_ble_eq_true rfl)
  rw [lg_entry_eq]
  generalize (lg_sl ([.ref p0, .long a1]) ++ List.replicate (5 - (lg_sl ([.ref p0, .long a1])).length) Slot.unset).toArray = ls at hl ⊢
  have hl : lv_has ls 5 [(0, .ref p0), (1, .long a1)] := hl
  refine lv_lload_n hx hb d_M_putSizesOfAX_0 rfl (lv_at hl 1 rfl) ?_
  refine lv_bipush (v := 30) hx hb d_M_putSizesOfAX_1 (by decide) ?_
  refine lv_lshr (v := (a1 >>> (((30 : Int32) : Int32).toInt64 &&& 63))) hx hb d_M_putSizesOfAX_3 rfl ?_
  refine lv_topl (fun v1 hv1 => ?_)
  refine lv_l2i (v := (v1 : Int64).toInt32) hx hb d_M_putSizesOfAX_4 rfl ?_
  refine lv_topi (fun v2 hv2 => ?_)
  refine lv_ldc (v := 1073741823) hx hb hown (hk _ k_345) d_M_putSizesOfAX_5 ?_
  refine lv_iand hx hb d_M_putSizesOfAX_7 ?_
  refine lv_topi (fun v3 hv3 => ?_)
  refine lv_istore_n (lv' := [(3, .int v3), (0, .ref p0), (1, .long a1)]) hx hb d_M_putSizesOfAX_8 rfl hl (by decide) rfl (fun ls hl => ?_)
  refine lv_lload_n hx hb d_M_putSizesOfAX_9 rfl (lv_at hl 2 rfl) ?_
  refine lv_l2i (v := (a1 : Int64).toInt32) hx hb d_M_putSizesOfAX_10 rfl ?_
  refine lv_topi (fun v4 hv4 => ?_)
  refine lv_ldc (v := 1073741823) hx hb hown (hk _ k_345) d_M_putSizesOfAX_11 ?_
  refine lv_iand hx hb d_M_putSizesOfAX_13 ?_
  refine lv_topi (fun v5 hv5 => ?_)
  refine lv_istore (lv' := [(4, .int v5), (3, .int v3), (0, .ref p0), (1, .long a1)]) hx hb d_M_putSizesOfAX_14 hl (by decide) rfl (fun ls hl => ?_)
  refine lv_aload_n hx hb d_M_putSizesOfAX_16 rfl (lv_at hl 2 rfl) ?_
  refine lv_iconst (v := 0) hx hb d_M_putSizesOfAX_17 (by decide) ?_
  refine lv_aload_n hx hb d_M_putSizesOfAX_18 rfl (lv_at hl 2 rfl) ?_
  refine lv_iconst (v := 0) hx hb d_M_putSizesOfAX_19 (by decide) ?_
  refine sn_i (va_runV (C := "SignMachine$Machine") (As := [.int (0 : Int32)]) (rest := [.int (0 : Int32), .ref p0]) ⟨hx, hb, hml, hown, hk⟩ (c_M_register_s5 l K D cI cJ cZ cB p0 p1 p2 p3 p4 p5 p6 s.heap.size x0_4 x0_5 x0_6 x0_7 x0_8 x0_9 x0_10 x0_11 x0_12 x0_13 y1 y2 x3_0 x4_0 y5 y6  (0 : Int32) ) (v_M_register_s5 hk k_273 ⟨Nat.le_of_ble_eq_true rfl, Nat.le_of_ble_eq_true rfl⟩) (pMC_v hK hP hD hC hS hA (ci := 1) (q0 := 0) rfl rfl rfl) rfl rfl hl.1 rfl (lv_room (Nat.le_of_ble_eq_true rfl)) d_M_putSizesOfAX_20 ⟨by decide, by decide⟩) hS hA hD (fun rz6 u t H locs hr0 ht hB hFr hS => ?_)
  obtain ⟨hP, hD⟩ := hB
  rw [ht] at hP
  have hD := dwk hD hFr
  clear ht hFr
  have hP : va_P D classes (wS62 cI cJ cZ cB p0 p1 p2 p3 p4 p5 p6 x0_4 x0_5 x0_6 x0_7 x0_8 x0_9 x0_10 x0_11 x0_12 x0_13 y1 y2 x3_0 x4_0 y5 y6) H := hP
  have hD : va_D A (wS62 cI cJ cZ cB p0 p1 p2 p3 p4 p5 p6 x0_4 x0_5 x0_6 x0_7 x0_8 x0_9 x0_10 x0_11 x0_12 x0_13 y1 y2 x3_0 x4_0 y5 y6) := hD
  refine cs_i (W.runS (As := [.int rz6]) (rest := [.int (0 : Int32), .ref p0]) ⟨hx, hb, hml, hown, hk⟩ (c_W_sign l rz6) (s_W_sign hk k_269 ⟨Nat.le_of_ble_eq_true rfl, Nat.le_of_ble_eq_true rfl⟩) ⟨fun a U g mk q => q, fun U hU hW => ⟨rfl, trivial⟩⟩ rfl rfl hl.1 rfl (lv_room (Nat.le_of_ble_eq_true rfl)) d_M_putSizesOfAX_23 ⟨Nat.le_of_ble_eq_true rfl, Nat.le_of_ble_eq_true rfl⟩) ?_
  refine lv_topi (fun v7 hv7 => ?_)
  refine lv_iload_n hx hb d_M_putSizesOfAX_26 rfl (lv_at hl 1 rfl) ?_
  refine cs_i (W.runS (As := [.int v7, .int v3]) (rest := [.int (0 : Int32), .ref p0]) ⟨hx, hb, hml, hown, hk⟩ (c_W_make l v7 v3) (s_W_make hk k_370 ⟨Nat.le_of_ble_eq_true rfl, Nat.le_of_ble_eq_true rfl⟩) ⟨fun a U g mk q => q, fun U hU hW => ⟨rfl, trivial⟩⟩ rfl rfl hl.1 rfl (lv_room (Nat.le_of_ble_eq_true rfl)) d_M_putSizesOfAX_27 ⟨Nat.le_of_ble_eq_true rfl, Nat.le_of_ble_eq_true rfl⟩) ?_
  refine lv_topi (fun v8 hv8 => ?_)
  refine kn_v (va_runV (C := "SignMachine$Machine") (As := [.int (0 : Int32), .int v8]) (rest := []) ⟨hx, hb, hml, hown, hk⟩ (c_M_putRegister_s4 l K D cI cJ cZ cB p0 p1 p2 p3 p4 p5 p6 H.size x0_4 x0_5 x0_6 x0_7 x0_8 x0_9 x0_10 x0_11 x0_12 x0_13 y1 y2 x3_0 x4_0 y5 y6  (0 : Int32) v8 ) (v_M_putRegister_s4 hk k_362 ⟨Nat.le_of_ble_eq_true rfl, Nat.le_of_ble_eq_true rfl⟩) (pMC_v hK hP hD hC hS hA (ci := 1) (q0 := 0) rfl rfl rfl) rfl rfl hl.1 rfl (lv_room (Nat.le_of_ble_eq_true rfl)) d_M_putSizesOfAX_30 ⟨by decide, by decide⟩) hS hA hD (fun u t H locs ht hB hFr hS => ?_)
  obtain ⟨y2z9, hP, hD⟩ := hB
  rw [ht] at hP
  have hD := dwk hD hFr
  clear ht hFr
  have hP : va_P D classes (wS62 cI cJ cZ cB p0 p1 p2 p3 p4 p5 p6 x0_4 x0_5 x0_6 x0_7 x0_8 x0_9 x0_10 x0_11 x0_12 x0_13 y1 y2z9 x3_0 x4_0 y5 y6) H := hP
  have hD : va_D A (wS62 cI cJ cZ cB p0 p1 p2 p3 p4 p5 p6 x0_4 x0_5 x0_6 x0_7 x0_8 x0_9 x0_10 x0_11 x0_12 x0_13 y1 y2z9 x3_0 x4_0 y5 y6) := hD
  refine lv_aload_n hx hb d_M_putSizesOfAX_33 rfl (lv_at hl 2 rfl) ?_
  refine lv_bipush (v := 7) hx hb d_M_putSizesOfAX_34 (by decide) ?_
  refine lv_aload_n hx hb d_M_putSizesOfAX_36 rfl (lv_at hl 2 rfl) ?_
  refine lv_bipush (v := 7) hx hb d_M_putSizesOfAX_37 (by decide) ?_
  refine sn_i (va_runV (C := "SignMachine$Machine") (As := [.int (7 : Int32)]) (rest := [.int (7 : Int32), .ref p0]) ⟨hx, hb, hml, hown, hk⟩ (c_M_register_s5 l K D cI cJ cZ cB p0 p1 p2 p3 p4 p5 p6 H.size x0_4 x0_5 x0_6 x0_7 x0_8 x0_9 x0_10 x0_11 x0_12 x0_13 y1 y2z9 x3_0 x4_0 y5 y6  (7 : Int32) ) (v_M_register_s5 hk k_273 ⟨Nat.le_of_ble_eq_true rfl, Nat.le_of_ble_eq_true rfl⟩) (pMC_v hK hP hD hC hS hA (ci := 1) (q0 := 0) rfl rfl rfl) rfl rfl hl.1 rfl (lv_room (Nat.le_of_ble_eq_true rfl)) d_M_putSizesOfAX_39 ⟨by decide, by decide⟩) hS hA hD (fun rz10 u t H locs hr0 ht hB hFr hS => ?_)
  obtain ⟨hP, hD⟩ := hB
  rw [ht] at hP
  have hD := dwk hD hFr
  clear ht hFr
  have hP : va_P D classes (wS62 cI cJ cZ cB p0 p1 p2 p3 p4 p5 p6 x0_4 x0_5 x0_6 x0_7 x0_8 x0_9 x0_10 x0_11 x0_12 x0_13 y1 y2z9 x3_0 x4_0 y5 y6) H := hP
  have hD : va_D A (wS62 cI cJ cZ cB p0 p1 p2 p3 p4 p5 p6 x0_4 x0_5 x0_6 x0_7 x0_8 x0_9 x0_10 x0_11 x0_12 x0_13 y1 y2z9 x3_0 x4_0 y5 y6) := hD
  refine cs_i (W.runS (As := [.int rz10]) (rest := [.int (7 : Int32), .ref p0]) ⟨hx, hb, hml, hown, hk⟩ (c_W_sign l rz10) (s_W_sign hk k_269 ⟨Nat.le_of_ble_eq_true rfl, Nat.le_of_ble_eq_true rfl⟩) ⟨fun a U g mk q => q, fun U hU hW => ⟨rfl, trivial⟩⟩ rfl rfl hl.1 rfl (lv_room (Nat.le_of_ble_eq_true rfl)) d_M_putSizesOfAX_42 ⟨Nat.le_of_ble_eq_true rfl, Nat.le_of_ble_eq_true rfl⟩) ?_
  refine lv_topi (fun v11 hv11 => ?_)
  refine lv_iload hx hb d_M_putSizesOfAX_45 (lv_at hl 0 rfl) ?_
  refine cs_i (W.runS (As := [.int v11, .int v5]) (rest := [.int (7 : Int32), .ref p0]) ⟨hx, hb, hml, hown, hk⟩ (c_W_make l v11 v5) (s_W_make hk k_370 ⟨Nat.le_of_ble_eq_true rfl, Nat.le_of_ble_eq_true rfl⟩) ⟨fun a U g mk q => q, fun U hU hW => ⟨rfl, trivial⟩⟩ rfl rfl hl.1 rfl (lv_room (Nat.le_of_ble_eq_true rfl)) d_M_putSizesOfAX_47 ⟨Nat.le_of_ble_eq_true rfl, Nat.le_of_ble_eq_true rfl⟩) ?_
  refine lv_topi (fun v12 hv12 => ?_)
  refine kn_v (va_runV (C := "SignMachine$Machine") (As := [.int (7 : Int32), .int v12]) (rest := []) ⟨hx, hb, hml, hown, hk⟩ (c_M_putRegister_s4 l K D cI cJ cZ cB p0 p1 p2 p3 p4 p5 p6 H.size x0_4 x0_5 x0_6 x0_7 x0_8 x0_9 x0_10 x0_11 x0_12 x0_13 y1 y2z9 x3_0 x4_0 y5 y6  (7 : Int32) v12 ) (v_M_putRegister_s4 hk k_362 ⟨Nat.le_of_ble_eq_true rfl, Nat.le_of_ble_eq_true rfl⟩) (pMC_v hK hP hD hC hS hA (ci := 1) (q0 := 0) rfl rfl rfl) rfl rfl hl.1 rfl (lv_room (Nat.le_of_ble_eq_true rfl)) d_M_putSizesOfAX_50 ⟨by decide, by decide⟩) hS hA hD (fun u t H locs ht hB hFr hS => ?_)
  obtain ⟨y2z13, hP, hD⟩ := hB
  rw [ht] at hP
  have hD := dwk hD hFr
  clear ht hFr
  have hP : va_P D classes (wS62 cI cJ cZ cB p0 p1 p2 p3 p4 p5 p6 x0_4 x0_5 x0_6 x0_7 x0_8 x0_9 x0_10 x0_11 x0_12 x0_13 y1 y2z13 x3_0 x4_0 y5 y6) H := hP
  have hD : va_D A (wS62 cI cJ cZ cB p0 p1 p2 p3 p4 p5 p6 x0_4 x0_5 x0_6 x0_7 x0_8 x0_9 x0_10 x0_11 x0_12 x0_13 y1 y2z13 x3_0 x4_0 y5 y6) := hD
  exact W.vret hx hb hr (fun t ht hW => ⟨⟨(), rfl, trivial, ⟨y2z13, by show va_P D classes _ t.heap; rw [ht]; exact hP, hD⟩⟩, hS.F ht⟩) hS.2.2 d_M_putSizesOfAX_53
theorem v_M_putSizesOfAX_s4 {R : Room} {s : State} {args : Array Value} {own : String} {index : Nat} (hk : ∀ w ∈ tb, w.before args s = true) (hl : Cond.methodLink own index y_M_putSizesOfAX ∈ tb) (hR : 1 + 1 ≤ R.frames ∧ 8 + (5 + 11) + 22 ≤ R.locals) : CallW R s args own "SignMachine$Machine" index y_M_putSizesOfAX b_M_putSizesOfAX 5 none (.code y_M_putSizesOfAX b_M_putSizesOfAX 5 none :: tb) ({ frames := 1, cells := 0, slots := 0, locals := 22 }) 0 0 1 := mk_v 1 hk k_398 hl k_397 k_20 k_117 rfl rfl h_M_putSizesOfAX hR
set_option maxHeartbeats 4000000 in
set_option maxRecDepth 100000 in
theorem c_M_becomeDigits_s4 (l : Launch) (K : CK) (D : va_G) (cI cJ cZ cB : ClassId) (p0 p1 p2 p3 p4 p5 p6 : Nat) (sz : Nat) (x0_4 : Bool) (x0_5 : Int32) (x0_6 : Int32) (x0_7 : Int32) (x0_8 : Int32) (x0_9 : Int32) (x0_10 : Int32) (x0_11 : Int32) (x0_12 : Int32) (x0_13 : Int32) (y1 : Nat → Int32) (y2 : Nat → Int32) (x3_0 : Int32) (x4_0 : Int32) (y5 : Nat → Int32) (y6 : Nat → Int32)   : Met l y_M_becomeDigits (.code y_M_becomeDigits b_M_becomeDigits 5 none :: tb) ({ frames := 2, cells := 0, slots := 0, locals := 46 }) (pMC K D cI cJ cZ cB (wS62 cI cJ cZ cB p0 p1 p2 p3 p4 p5 p6 x0_4 x0_5 x0_6 x0_7 x0_8 x0_9 x0_10 x0_11 x0_12 x0_13 y1 y2 x3_0 x4_0 y5 y6) sz [.ref p0]) (va_Qv (fun (_ : Unit) => True) (fun _ t => (∃ u_y2 : Nat → Int32, va_P D classes (wS62 cI cJ cZ cB p0 p1 p2 p3 p4 p5 p6 x0_4 x0_5 x0_6 x0_7 x0_8 x0_9 x0_10 x0_11 x0_12 x0_13 y1 u_y2 x3_0 x4_0 y5 y6) t.heap ∧ va_D (va_A (wS62 cI cJ cZ cB p0 p1 p2 p3 p4 p5 p6 x0_4 x0_5 x0_6 x0_7 x0_8 x0_9 x0_10 x0_11 x0_12 x0_13 y1 y2 x3_0 x4_0 y5 y6) sz) (wS62 cI cJ cZ cB p0 p1 p2 p3 p4 p5 p6 x0_4 x0_5 x0_6 x0_7 x0_8 x0_9 x0_10 x0_11 x0_12 x0_13 y1 u_y2 x3_0 x4_0 y5 y6))) (va_A (wS62 cI cJ cZ cB p0 p1 p2 p3 p4 p5 p6 x0_4 x0_5 x0_6 x0_7 x0_8 x0_9 x0_10 x0_11 x0_12 x0_13 y1 y2 x3_0 x4_0 y5 y6) sz)) 0 0 (va_A (wS62 cI cJ cZ cB p0 p1 p2 p3 p4 p5 p6 x0_4 x0_5 x0_6 x0_7 x0_8 x0_9 x0_10 x0_11 x0_12 x0_13 y1 y2 x3_0 x4_0 y5 y6) sz) := by
  refine Met.ofW (cc := b_M_becomeDigits) (maxL := 5) (ret := none) (by decide) rfl ?_
  intro p e s m args below meth c s₁ B hml hv
  obtain ⟨rfl, hsz, hK, hP, hD0, hC⟩ := hv
  subst hsz
  have hD := hD0.self (sz := s.heap.size)
  generalize hAe : va_A (wS62 cI cJ cZ cB p0 p1 p2 p3 p4 p5 p6 x0_4 x0_5 x0_6 x0_7 x0_8 x0_9 x0_10 x0_11 x0_12 x0_13 y1 y2 x3_0 x4_0 y5 y6) s.heap.size = A at hD hC ⊢
  have hA : ∀ q : Nat, s.heap.size ≤ q → A q := fun q h => by rw [← hAe]; exact Or.inr h
  clear hAe hD0
  have hS : va_S A s.heap s.heap [] := va_S.rf
  have hx := B.exec
  have hb := B.bytes
  have hr := B.returns
  have hts := atoms_spec (ws := .code y_M_becomeDigits b_M_becomeDigits 5 none :: tb) B.pre
  have hk : ∀ w ∈ tb, w.before [.ref p0].toArray s = true := fun w h => hts w (List.mem_cons_of_mem _ h)
  have hown : s.vm.findClass "SignMachine$Machine" = some m.cls := findClass_of_methodNamed B.named
  have hlocks := B.notSynchronized
  have hl := lv_entry ([.ref p0]) (n := 5) (Nat.le_of_ble_eq_true rfl)
  rw [lg_entry_eq]
  generalize (lg_sl ([.ref p0]) ++ List.replicate (5 - (lg_sl ([.ref p0])).length) Slot.unset).toArray = ls at hl ⊢
  have hl : lv_has ls 5 [(0, .ref p0)] := hl
  refine lv_aload_n hx hb d_M_becomeDigits_0 rfl (lv_at hl 0 rfl) ?_
  refine lv_iconst (v := 0) hx hb d_M_becomeDigits_1 (by decide) ?_
  refine sn_i (va_runV (C := "SignMachine$Machine") (As := [.int (0 : Int32)]) (rest := []) ⟨hx, hb, hml, hown, hk⟩ (c_M_register_s5 l K D cI cJ cZ cB p0 p1 p2 p3 p4 p5 p6 s.heap.size x0_4 x0_5 x0_6 x0_7 x0_8 x0_9 x0_10 x0_11 x0_12 x0_13 y1 y2 x3_0 x4_0 y5 y6  (0 : Int32) ) (v_M_register_s5 hk k_273 ⟨Nat.le_of_ble_eq_true rfl, Nat.le_of_ble_eq_true rfl⟩) (pMC_v hK hP hD hC hS hA (ci := 1) (q0 := 0) rfl rfl rfl) rfl rfl hl.1 rfl (lv_room (Nat.le_of_ble_eq_true rfl)) d_M_becomeDigits_2 ⟨by decide, by decide⟩) hS hA hD (fun rz1 u t H locs hr0 ht hB hFr hS => ?_)
  obtain ⟨hP, hD⟩ := hB
  rw [ht] at hP
  have hD := dwk hD hFr
  clear ht hFr
  have hP : va_P D classes (wS62 cI cJ cZ cB p0 p1 p2 p3 p4 p5 p6 x0_4 x0_5 x0_6 x0_7 x0_8 x0_9 x0_10 x0_11 x0_12 x0_13 y1 y2 x3_0 x4_0 y5 y6) H := hP
  have hD : va_D A (wS62 cI cJ cZ cB p0 p1 p2 p3 p4 p5 p6 x0_4 x0_5 x0_6 x0_7 x0_8 x0_9 x0_10 x0_11 x0_12 x0_13 y1 y2 x3_0 x4_0 y5 y6) := hD
  refine cs_i (W.runS (As := [.int rz1]) (rest := []) ⟨hx, hb, hml, hown, hk⟩ (c_W_size l rz1) (s_W_size hk k_268 ⟨Nat.le_of_ble_eq_true rfl, Nat.le_of_ble_eq_true rfl⟩) ⟨fun a U g mk q => q, fun U hU hW => ⟨rfl, trivial⟩⟩ rfl rfl hl.1 rfl (lv_room (Nat.le_of_ble_eq_true rfl)) d_M_becomeDigits_5 ⟨Nat.le_of_ble_eq_true rfl, Nat.le_of_ble_eq_true rfl⟩) ?_
  refine lv_topi (fun v2 hv2 => ?_)
  refine lv_istore_n (lv' := [(1, .int v2), (0, .ref p0)]) hx hb d_M_becomeDigits_8 rfl hl (by decide) rfl (fun ls hl => ?_)
  refine lv_lconst (v := 0) hx hb d_M_becomeDigits_9 (by decide) ?_
  refine lv_lstore_n (lv' := [(2, .long (0 : Int64)), (1, .int v2), (0, .ref p0)]) hx hb d_M_becomeDigits_10 rfl hl (by decide) rfl (fun ls hl => ?_)
  refine lv_iconst (v := 0) hx hb d_M_becomeDigits_11 (by decide) ?_
  refine lv_istore (lv' := [(4, .int (0 : Int32)), (2, .long (0 : Int64)), (1, .int v2), (0, .ref p0)]) hx hb d_M_becomeDigits_12 hl (by decide) rfl (fun ls hl => ?_)
  have LP14_62 : ∀ (n : Nat) (l4 : Int32) (l2 : Int64) (l1 : Int32) (y2 : Nat → Int32) (H : Heap) (locs : List Loc) (ls : Array Slot), (((10 : Int32)).toInt - (l4).toInt).toNat < n → ¬ l4 < (0 : Int32) → va_P D classes (wS62 cI cJ cZ cB p0 p1 p2 p3 p4 p5 p6 x0_4 x0_5 x0_6 x0_7 x0_8 x0_9 x0_10 x0_11 x0_12 x0_13 y1 y2 x3_0 x4_0 y5 y6) H → va_D A (wS62 cI cJ cZ cB p0 p1 p2 p3 p4 p5 p6 x0_4 x0_5 x0_6 x0_7 x0_8 x0_9 x0_10 x0_11 x0_12 x0_13 y1 y2 x3_0 x4_0 y5 y6) → va_S A s.heap H locs → lv_has ls 5 [(4, .int l4), (2, .long l2), (1, .int l1), (0, .ref p0)] → W p l e ({ frames := 2, cells := 0, slots := 0, locals := 46 }) s m [.ref p0].toArray below meth c H locs 0 0 (MQ below (va_Qv (fun (_ : Unit) => True) (fun _ t => (∃ u_y2 : Nat → Int32, va_P D classes (wS62 cI cJ cZ cB p0 p1 p2 p3 p4 p5 p6 x0_4 x0_5 x0_6 x0_7 x0_8 x0_9 x0_10 x0_11 x0_12 x0_13 y1 u_y2 x3_0 x4_0 y5 y6) t.heap ∧ va_D A (wS62 cI cJ cZ cB p0 p1 p2 p3 p4 p5 p6 x0_4 x0_5 x0_6 x0_7 x0_8 x0_9 x0_10 x0_11 x0_12 x0_13 y1 u_y2 x3_0 x4_0 y5 y6))) A) [.ref p0].toArray s 0 0 A) (F0 m 14 ls []) := by
    intro n
    induction n with
    | zero => intro l4 l2 l1 y2 H locs ls hn; exact absurd hn (Nat.not_lt_zero _)
    | succ n ih =>
      intro l4 l2 l1 y2 H locs ls hn14_62 hc14_62 hP hD hS hl
      refine lv_iload hx hb d_M_becomeDigits_14 (lv_at hl 0 rfl) ?_
      refine lv_bipush (v := 10) hx hb d_M_becomeDigits_16 (by decide) ?_
      refine lv_icmp_ge (tgt := 49) hx hb d_M_becomeDigits_18 (by decide) (fun c3 => ?_) (fun c3 => ?_)
      · refine lv_aload_n hx hb d_M_becomeDigits_49 rfl (lv_at hl 3 rfl) ?_
        refine lv_lload_n hx hb d_M_becomeDigits_50 rfl (lv_at hl 1 rfl) ?_
        refine kn_v (va_runV (C := "SignMachine$Machine") (As := [.long l2]) (rest := []) ⟨hx, hb, hml, hown, hk⟩ (c_M_putSizesOfAX_s4 l K D cI cJ cZ cB p0 p1 p2 p3 p4 p5 p6 H.size x0_4 x0_5 x0_6 x0_7 x0_8 x0_9 x0_10 x0_11 x0_12 x0_13 y1 y2 x3_0 x4_0 y5 y6  l2 ) (v_M_putSizesOfAX_s4 hk k_395 ⟨Nat.le_of_ble_eq_true rfl, Nat.le_of_ble_eq_true rfl⟩) (pMC_v hK hP hD hC hS hA (ci := 1) (q0 := 0) rfl rfl rfl) rfl rfl hl.1 rfl (lv_room (Nat.le_of_ble_eq_true rfl)) d_M_becomeDigits_51 ⟨by decide, by decide⟩) hS hA hD (fun u t H locs ht hB hFr hS => ?_)
        obtain ⟨y2z4, hP, hD⟩ := hB
        rw [ht] at hP
        have hD := dwk hD hFr
        clear ht hFr
        have hP : va_P D classes (wS62 cI cJ cZ cB p0 p1 p2 p3 p4 p5 p6 x0_4 x0_5 x0_6 x0_7 x0_8 x0_9 x0_10 x0_11 x0_12 x0_13 y1 y2z4 x3_0 x4_0 y5 y6) H := hP
        have hD : va_D A (wS62 cI cJ cZ cB p0 p1 p2 p3 p4 p5 p6 x0_4 x0_5 x0_6 x0_7 x0_8 x0_9 x0_10 x0_11 x0_12 x0_13 y1 y2z4 x3_0 x4_0 y5 y6) := hD
        exact W.vret hx hb hr (fun t ht hW => ⟨⟨(), rfl, trivial, ⟨y2z4, by show va_P D classes _ t.heap; rw [ht]; exact hP, hD⟩⟩, hS.F ht⟩) hS.2.2 d_M_becomeDigits_54
      · refine lv_lload_n hx hb d_M_becomeDigits_21 rfl (lv_at hl 1 rfl) ?_
        refine lv_bipush (v := 30) hx hb d_M_becomeDigits_22 (by decide) ?_
        refine lv_iload_n hx hb d_M_becomeDigits_24 rfl (lv_at hl 2 rfl) ?_
        refine lv_bipush (v := 10) hx hb d_M_becomeDigits_25 (by decide) ?_
        refine lv_irem hx hb d_M_becomeDigits_27 (by decide) ?_
        refine lv_topi (fun v5 hv5 => ?_)
        refine lv_iadd hx hb d_M_becomeDigits_28 ?_
        refine lv_topi (fun v6 hv6 => ?_)
        refine lv_i2l (v := (v6 : Int32).toInt64) hx hb d_M_becomeDigits_29 rfl ?_
        refine lv_topl (fun v7 hv7 => ?_)
        refine lv_bipush (v := 6) hx hb d_M_becomeDigits_30 (by decide) ?_
        refine lv_iload hx hb d_M_becomeDigits_32 (lv_at hl 0 rfl) ?_
        refine lv_imul hx hb d_M_becomeDigits_34 ?_
        refine lv_topi (fun v8 hv8 => ?_)
        refine lv_lshl (v := (v7 <<< ((v8 : Int32).toInt64 &&& 63))) hx hb d_M_becomeDigits_35 rfl ?_
        refine lv_topl (fun v9 hv9 => ?_)
        refine lv_lor hx hb d_M_becomeDigits_36 ?_
        refine lv_topl (fun v10 hv10 => ?_)
        refine lv_lstore_n (lv' := [(2, .long v10), (4, .int l4), (1, .int l1), (0, .ref p0)]) hx hb d_M_becomeDigits_37 rfl hl (by decide) rfl (fun ls hl => ?_)
        refine lv_iload_n hx hb d_M_becomeDigits_38 rfl (lv_at hl 2 rfl) ?_
        refine lv_bipush (v := 10) hx hb d_M_becomeDigits_39 (by decide) ?_
        refine lv_idiv hx hb d_M_becomeDigits_41 (by decide) ?_
        refine lv_topi (fun v11 hv11 => ?_)
        refine lv_istore_n (lv' := [(1, .int v11), (2, .long v10), (4, .int l4), (0, .ref p0)]) hx hb d_M_becomeDigits_42 rfl hl (by decide) rfl (fun ls hl => ?_)
        obtain ⟨v12, hv12⟩ : ∃ y : Int32, y = (l4 + (1 : Int32)) := ⟨_, rfl⟩
        refine lv_iinc (v := v12) (lv' := [(4, .int v12), (1, .int v11), (2, .long v10), (0, .ref p0)]) hx hb d_M_becomeDigits_43 hl (k := 2) rfl (by rw [hv12]; rfl) (by decide) rfl (fun ls hl => ?_)
        refine lv_goto (tgt := 14) hx hb d_M_becomeDigits_46 (by decide) ?_
        exact ih v12 v10 v11 y2 H _ ls (lpu c3 hv12 hn14_62) (lpn hc14_62 c3 hv12) hP hD hS (lv_sub hl [0, 2, 1, 3] rfl)
  exact LP14_62 _ (0 : Int32) (0 : Int64) v2 y2 H _ ls (Nat.lt_succ_self _) (by decide) hP hD hS hl
theorem v_M_becomeDigits_s4 {R : Room} {s : State} {args : Array Value} {own : String} {index : Nat} (hk : ∀ w ∈ tb, w.before args s = true) (hl : Cond.methodLink own index y_M_becomeDigits ∈ tb) (hR : 2 + 1 ≤ R.frames ∧ 8 + (5 + 11) + 46 ≤ R.locals) : CallW R s args own "SignMachine$Machine" index y_M_becomeDigits b_M_becomeDigits 5 none (.code y_M_becomeDigits b_M_becomeDigits 5 none :: tb) ({ frames := 2, cells := 0, slots := 0, locals := 46 }) 0 0 0 := mk_v 0 hk k_394 hl k_393 k_19 k_117 rfl rfl h_M_becomeDigits hR
set_option maxHeartbeats 4000000 in
set_option maxRecDepth 100000 in
theorem c_M_becomeNumber_s4 (l : Launch) (K : CK) (D : va_G) (cI cJ cZ cB : ClassId) (p0 p1 p2 p3 p4 p5 p6 : Nat) (sz : Nat) (x0_4 : Bool) (x0_5 : Int32) (x0_6 : Int32) (x0_7 : Int32) (x0_8 : Int32) (x0_9 : Int32) (x0_10 : Int32) (x0_11 : Int32) (x0_12 : Int32) (x0_13 : Int32) (y1 : Nat → Int32) (y2 : Nat → Int32) (x3_0 : Int32) (x4_0 : Int32) (y5 : Nat → Int32) (y6 : Nat → Int32)   : Met l y_M_becomeNumber (.code y_M_becomeNumber b_M_becomeNumber 6 none :: tb) ({ frames := 2, cells := 0, slots := 0, locals := 41 }) (pMC K D cI cJ cZ cB (wS62 cI cJ cZ cB p0 p1 p2 p3 p4 p5 p6 x0_4 x0_5 x0_6 x0_7 x0_8 x0_9 x0_10 x0_11 x0_12 x0_13 y1 y2 x3_0 x4_0 y5 y6) sz [.ref p0]) (va_Qv (fun (_ : Unit) => True) (fun _ t => (∃ u_x0_4 : Bool, ∃ u_y2 : Nat → Int32, va_P D classes (wS62 cI cJ cZ cB p0 p1 p2 p3 p4 p5 p6 u_x0_4 x0_5 x0_6 x0_7 x0_8 x0_9 x0_10 x0_11 x0_12 x0_13 y1 u_y2 x3_0 x4_0 y5 y6) t.heap ∧ va_D (va_A (wS62 cI cJ cZ cB p0 p1 p2 p3 p4 p5 p6 x0_4 x0_5 x0_6 x0_7 x0_8 x0_9 x0_10 x0_11 x0_12 x0_13 y1 y2 x3_0 x4_0 y5 y6) sz) (wS62 cI cJ cZ cB p0 p1 p2 p3 p4 p5 p6 u_x0_4 x0_5 x0_6 x0_7 x0_8 x0_9 x0_10 x0_11 x0_12 x0_13 y1 u_y2 x3_0 x4_0 y5 y6))) (va_A (wS62 cI cJ cZ cB p0 p1 p2 p3 p4 p5 p6 x0_4 x0_5 x0_6 x0_7 x0_8 x0_9 x0_10 x0_11 x0_12 x0_13 y1 y2 x3_0 x4_0 y5 y6) sz)) 0 0 (va_A (wS62 cI cJ cZ cB p0 p1 p2 p3 p4 p5 p6 x0_4 x0_5 x0_6 x0_7 x0_8 x0_9 x0_10 x0_11 x0_12 x0_13 y1 y2 x3_0 x4_0 y5 y6) sz) := by
  refine Met.ofW (cc := b_M_becomeNumber) (maxL := 6) (ret := none) (by decide) rfl ?_
  intro p e s m args below meth c s₁ B hml hv
  obtain ⟨rfl, hsz, hK, hP, hD0, hC⟩ := hv
  subst hsz
  have hD := hD0.self (sz := s.heap.size)
  generalize hAe : va_A (wS62 cI cJ cZ cB p0 p1 p2 p3 p4 p5 p6 x0_4 x0_5 x0_6 x0_7 x0_8 x0_9 x0_10 x0_11 x0_12 x0_13 y1 y2 x3_0 x4_0 y5 y6) s.heap.size = A at hD hC ⊢
  have hA : ∀ q : Nat, s.heap.size ≤ q → A q := fun q h => by rw [← hAe]; exact Or.inr h
  clear hAe hD0
  have hS : va_S A s.heap s.heap [] := va_S.rf
  have hx := B.exec
  have hb := B.bytes
  have hr := B.returns
  have hts := atoms_spec (ws := .code y_M_becomeNumber b_M_becomeNumber 6 none :: tb) B.pre
  have hk : ∀ w ∈ tb, w.before [.ref p0].toArray s = true := fun w h => hts w (List.mem_cons_of_mem _ h)
  have hown : s.vm.findClass "SignMachine$Machine" = some m.cls := findClass_of_methodNamed B.named
  have hlocks := B.notSynchronized
  have hl := lv_entry ([.ref p0]) (n := 6) (Nat.le_of_ble_eq_true rfl)
  rw [lg_entry_eq]
  generalize (lg_sl ([.ref p0]) ++ List.replicate (6 - (lg_sl ([.ref p0])).length) Slot.unset).toArray = ls at hl ⊢
  have hl : lv_has ls 6 [(0, .ref p0)] := hl
  refine lv_aload_n hx hb d_M_becomeNumber_0 rfl (lv_at hl 0 rfl) ?_
  refine sn_l (va_runV (C := "SignMachine$Machine") (As := []) (rest := []) ⟨hx, hb, hml, hown, hk⟩ (c_M_sizeOfAX_s4 l K D cI cJ cZ cB p0 p1 p2 p3 p4 p5 p6 s.heap.size x0_4 x0_5 x0_6 x0_7 x0_8 x0_9 x0_10 x0_11 x0_12 x0_13 y1 y2 x3_0 x4_0 y5 y6   ) (v_M_sizeOfAX_s4 hk k_375 ⟨Nat.le_of_ble_eq_true rfl, Nat.le_of_ble_eq_true rfl⟩) (pMC_v hK hP hD hC hS hA (ci := 1) (q0 := 0) rfl rfl rfl) rfl rfl hl.1 rfl (lv_room (Nat.le_of_ble_eq_true rfl)) d_M_becomeNumber_1 ⟨by decide, by decide⟩) hS hA hD (fun rz1 u t H locs hr0 ht hB hFr hS => ?_)
  obtain ⟨hP, hD⟩ := hB
  rw [ht] at hP
  have hD := dwk hD hFr
  clear ht hFr
  have hP : va_P D classes (wS62 cI cJ cZ cB p0 p1 p2 p3 p4 p5 p6 x0_4 x0_5 x0_6 x0_7 x0_8 x0_9 x0_10 x0_11 x0_12 x0_13 y1 y2 x3_0 x4_0 y5 y6) H := hP
  have hD : va_D A (wS62 cI cJ cZ cB p0 p1 p2 p3 p4 p5 p6 x0_4 x0_5 x0_6 x0_7 x0_8 x0_9 x0_10 x0_11 x0_12 x0_13 y1 y2 x3_0 x4_0 y5 y6) := hD
  refine lv_lstore_n (lv' := [(1, .long rz1), (0, .ref p0)]) hx hb d_M_becomeNumber_4 rfl hl (by decide) rfl (fun ls hl => ?_)
  refine lv_lconst (v := 0) hx hb d_M_becomeNumber_5 (by decide) ?_
  refine lv_lstore_n (lv' := [(3, .long (0 : Int64)), (1, .long rz1), (0, .ref p0)]) hx hb d_M_becomeNumber_6 rfl hl (by decide) rfl (fun ls hl => ?_)
  refine lv_bipush (v := 9) hx hb d_M_becomeNumber_7 (by decide) ?_
  refine lv_istore (lv' := [(5, .int (9 : Int32)), (3, .long (0 : Int64)), (1, .long rz1), (0, .ref p0)]) hx hb d_M_becomeNumber_9 hl (by decide) rfl (fun ls hl => ?_)
  have LP11_62 : ∀ (n : Nat) (l5 : Int32) (l3 : Int64) (x0_4 : Bool) (y2 : Nat → Int32) (H : Heap) (locs : List Loc) (ls : Array Slot), ((l5).toInt + 1).toNat < n → va_P D classes (wS62 cI cJ cZ cB p0 p1 p2 p3 p4 p5 p6 x0_4 x0_5 x0_6 x0_7 x0_8 x0_9 x0_10 x0_11 x0_12 x0_13 y1 y2 x3_0 x4_0 y5 y6) H → va_D A (wS62 cI cJ cZ cB p0 p1 p2 p3 p4 p5 p6 x0_4 x0_5 x0_6 x0_7 x0_8 x0_9 x0_10 x0_11 x0_12 x0_13 y1 y2 x3_0 x4_0 y5 y6) → va_S A s.heap H locs → lv_has ls 6 [(5, .int l5), (3, .long l3), (1, .long rz1), (0, .ref p0)] → W p l e ({ frames := 2, cells := 0, slots := 0, locals := 41 }) s m [.ref p0].toArray below meth c H locs 0 0 (MQ below (va_Qv (fun (_ : Unit) => True) (fun _ t => (∃ u_x0_4 : Bool, ∃ u_y2 : Nat → Int32, va_P D classes (wS62 cI cJ cZ cB p0 p1 p2 p3 p4 p5 p6 u_x0_4 x0_5 x0_6 x0_7 x0_8 x0_9 x0_10 x0_11 x0_12 x0_13 y1 u_y2 x3_0 x4_0 y5 y6) t.heap ∧ va_D A (wS62 cI cJ cZ cB p0 p1 p2 p3 p4 p5 p6 u_x0_4 x0_5 x0_6 x0_7 x0_8 x0_9 x0_10 x0_11 x0_12 x0_13 y1 u_y2 x3_0 x4_0 y5 y6))) A) [.ref p0].toArray s 0 0 A) (F0 m 11 ls []) := by
    intro n
    induction n with
    | zero => intro l5 l3 x0_4 y2 H locs ls hn; exact absurd hn (Nat.not_lt_zero _)
    | succ n ih =>
      intro l5 l3 x0_4 y2 H locs ls hn11_62 hP hD hS hl
      refine lv_iload hx hb d_M_becomeNumber_11 (lv_at hl 0 rfl) ?_
      refine lv_if_lt (tgt := 44) hx hb d_M_becomeNumber_13 (by decide) (fun c2 => ?_) (fun c2 => ?_)
      · refine lv_lload_n hx hb d_M_becomeNumber_44 rfl (lv_at hl 1 rfl) ?_
        refine lv_ldc2 (v := 1073741823) hx hb hown (hk _ k_389) d_M_becomeNumber_45 ?_
        refine W.lcmp hx hb d_M_becomeNumber_48 ?_
        refine lv_topi (fun v3 hv3 => ?_)
        refine lv_if_le (tgt := 57) hx hb d_M_becomeNumber_49 (by decide) (fun c4 => ?_) (fun c4 => ?_)
        · refine lv_lload_n hx hb d_M_becomeNumber_57 rfl (lv_at hl 1 rfl) ?_
          refine lv_ldc2 (v := 1073741824) hx hb hown (hk _ k_390) d_M_becomeNumber_58 ?_
          refine lv_lrem hx hb d_M_becomeNumber_61 (by decide) ?_
          refine lv_topl (fun v5 hv5 => ?_)
          refine lv_l2i (v := (v5 : Int64).toInt32) hx hb d_M_becomeNumber_62 rfl ?_
          refine lv_topi (fun v6 hv6 => ?_)
          refine lv_istore (lv' := [(5, .int v6), (3, .long l3), (1, .long rz1), (0, .ref p0)]) hx hb d_M_becomeNumber_63 hl (by decide) rfl (fun ls hl => ?_)
          refine lv_aload_n hx hb d_M_becomeNumber_65 rfl (lv_at hl 3 rfl) ?_
          refine lv_iconst (v := 0) hx hb d_M_becomeNumber_66 (by decide) ?_
          refine lv_aload_n hx hb d_M_becomeNumber_67 rfl (lv_at hl 3 rfl) ?_
          refine lv_iconst (v := 0) hx hb d_M_becomeNumber_68 (by decide) ?_
          refine sn_i (va_runV (C := "SignMachine$Machine") (As := [.int (0 : Int32)]) (rest := [.int (0 : Int32), .ref p0]) ⟨hx, hb, hml, hown, hk⟩ (c_M_register_s5 l K D cI cJ cZ cB p0 p1 p2 p3 p4 p5 p6 H.size x0_4 x0_5 x0_6 x0_7 x0_8 x0_9 x0_10 x0_11 x0_12 x0_13 y1 y2 x3_0 x4_0 y5 y6  (0 : Int32) ) (v_M_register_s5 hk k_273 ⟨Nat.le_of_ble_eq_true rfl, Nat.le_of_ble_eq_true rfl⟩) (pMC_v hK hP hD hC hS hA (ci := 1) (q0 := 0) rfl rfl rfl) rfl rfl hl.1 rfl (lv_room (Nat.le_of_ble_eq_true rfl)) d_M_becomeNumber_69 ⟨by decide, by decide⟩) hS hA hD (fun rz7 u t H locs hr0 ht hB hFr hS => ?_)
          obtain ⟨hP, hD⟩ := hB
          rw [ht] at hP
          have hD := dwk hD hFr
          clear ht hFr
          have hP : va_P D classes (wS62 cI cJ cZ cB p0 p1 p2 p3 p4 p5 p6 x0_4 x0_5 x0_6 x0_7 x0_8 x0_9 x0_10 x0_11 x0_12 x0_13 y1 y2 x3_0 x4_0 y5 y6) H := hP
          have hD : va_D A (wS62 cI cJ cZ cB p0 p1 p2 p3 p4 p5 p6 x0_4 x0_5 x0_6 x0_7 x0_8 x0_9 x0_10 x0_11 x0_12 x0_13 y1 y2 x3_0 x4_0 y5 y6) := hD
          refine cs_i (W.runS (As := [.int rz7]) (rest := [.int (0 : Int32), .ref p0]) ⟨hx, hb, hml, hown, hk⟩ (c_W_sign l rz7) (s_W_sign hk k_269 ⟨Nat.le_of_ble_eq_true rfl, Nat.le_of_ble_eq_true rfl⟩) ⟨fun a U g mk q => q, fun U hU hW => ⟨rfl, trivial⟩⟩ rfl rfl hl.1 rfl (lv_room (Nat.le_of_ble_eq_true rfl)) d_M_becomeNumber_72 ⟨Nat.le_of_ble_eq_true rfl, Nat.le_of_ble_eq_true rfl⟩) ?_
          refine lv_topi (fun v8 hv8 => ?_)
          refine lv_iload hx hb d_M_becomeNumber_75 (lv_at hl 0 rfl) ?_
          refine cs_i (W.runS (As := [.int v8, .int v6]) (rest := [.int (0 : Int32), .ref p0]) ⟨hx, hb, hml, hown, hk⟩ (c_W_make l v8 v6) (s_W_make hk k_370 ⟨Nat.le_of_ble_eq_true rfl, Nat.le_of_ble_eq_true rfl⟩) ⟨fun a U g mk q => q, fun U hU hW => ⟨rfl, trivial⟩⟩ rfl rfl hl.1 rfl (lv_room (Nat.le_of_ble_eq_true rfl)) d_M_becomeNumber_77 ⟨Nat.le_of_ble_eq_true rfl, Nat.le_of_ble_eq_true rfl⟩) ?_
          refine lv_topi (fun v9 hv9 => ?_)
          refine kn_v (va_runV (C := "SignMachine$Machine") (As := [.int (0 : Int32), .int v9]) (rest := []) ⟨hx, hb, hml, hown, hk⟩ (c_M_putRegister_s4 l K D cI cJ cZ cB p0 p1 p2 p3 p4 p5 p6 H.size x0_4 x0_5 x0_6 x0_7 x0_8 x0_9 x0_10 x0_11 x0_12 x0_13 y1 y2 x3_0 x4_0 y5 y6  (0 : Int32) v9 ) (v_M_putRegister_s4 hk k_362 ⟨Nat.le_of_ble_eq_true rfl, Nat.le_of_ble_eq_true rfl⟩) (pMC_v hK hP hD hC hS hA (ci := 1) (q0 := 0) rfl rfl rfl) rfl rfl hl.1 rfl (lv_room (Nat.le_of_ble_eq_true rfl)) d_M_becomeNumber_80 ⟨by decide, by decide⟩) hS hA hD (fun u t H locs ht hB hFr hS => ?_)
          obtain ⟨y2z10, hP, hD⟩ := hB
          rw [ht] at hP
          have hD := dwk hD hFr
          clear ht hFr
          have hP : va_P D classes (wS62 cI cJ cZ cB p0 p1 p2 p3 p4 p5 p6 x0_4 x0_5 x0_6 x0_7 x0_8 x0_9 x0_10 x0_11 x0_12 x0_13 y1 y2z10 x3_0 x4_0 y5 y6) H := hP
          have hD : va_D A (wS62 cI cJ cZ cB p0 p1 p2 p3 p4 p5 p6 x0_4 x0_5 x0_6 x0_7 x0_8 x0_9 x0_10 x0_11 x0_12 x0_13 y1 y2z10 x3_0 x4_0 y5 y6) := hD
          exact W.vret hx hb hr (fun t ht hW => ⟨⟨(), rfl, trivial, ⟨x0_4, y2z10, by show va_P D classes _ t.heap; rw [ht]; exact hP, hD⟩⟩, hS.F ht⟩) hS.2.2 d_M_becomeNumber_83
        · refine lv_aload_n hx hb d_M_becomeNumber_52 rfl (lv_at hl 3 rfl) ?_
          refine lv_iconst (v := 1) hx hb d_M_becomeNumber_53 (by decide) ?_
          refine va_put (D := D) (ci := 1) (v := .int (1 : Int32)) (ty := .boolean) (C := "SignMachine$Machine") (T := F_M) (N := 14) hx hb hk fi_M ft_M ft_M_ok fn_M hown hK.1 hP hD hS 0 rfl rfl 4 (by decide) (hk _ k_168) (fun _ h9 => h9) rfl (by decide +kernel) rfl rfl (Nat.le_of_ble_eq_true rfl) d_M_becomeNumber_54 (fun H locs hP hD hS => ?_)
          have hP : va_P D classes (wS62 cI cJ cZ cB p0 p1 p2 p3 p4 p5 p6 true x0_5 x0_6 x0_7 x0_8 x0_9 x0_10 x0_11 x0_12 x0_13 y1 y2 x3_0 x4_0 y5 y6) H := hP
          have hD : va_D A (wS62 cI cJ cZ cB p0 p1 p2 p3 p4 p5 p6 true x0_5 x0_6 x0_7 x0_8 x0_9 x0_10 x0_11 x0_12 x0_13 y1 y2 x3_0 x4_0 y5 y6) := hD
          refine lv_lload_n hx hb d_M_becomeNumber_57 rfl (lv_at hl 1 rfl) ?_
          refine lv_ldc2 (v := 1073741824) hx hb hown (hk _ k_390) d_M_becomeNumber_58 ?_
          refine lv_lrem hx hb d_M_becomeNumber_61 (by decide) ?_
          refine lv_topl (fun v11 hv11 => ?_)
          refine lv_l2i (v := (v11 : Int64).toInt32) hx hb d_M_becomeNumber_62 rfl ?_
          refine lv_topi (fun v12 hv12 => ?_)
          refine lv_istore (lv' := [(5, .int v12), (3, .long l3), (1, .long rz1), (0, .ref p0)]) hx hb d_M_becomeNumber_63 hl (by decide) rfl (fun ls hl => ?_)
          refine lv_aload_n hx hb d_M_becomeNumber_65 rfl (lv_at hl 3 rfl) ?_
          refine lv_iconst (v := 0) hx hb d_M_becomeNumber_66 (by decide) ?_
          refine lv_aload_n hx hb d_M_becomeNumber_67 rfl (lv_at hl 3 rfl) ?_
          refine lv_iconst (v := 0) hx hb d_M_becomeNumber_68 (by decide) ?_
          refine sn_i (va_runV (C := "SignMachine$Machine") (As := [.int (0 : Int32)]) (rest := [.int (0 : Int32), .ref p0]) ⟨hx, hb, hml, hown, hk⟩ (c_M_register_s5 l K D cI cJ cZ cB p0 p1 p2 p3 p4 p5 p6 H.size true x0_5 x0_6 x0_7 x0_8 x0_9 x0_10 x0_11 x0_12 x0_13 y1 y2 x3_0 x4_0 y5 y6  (0 : Int32) ) (v_M_register_s5 hk k_273 ⟨Nat.le_of_ble_eq_true rfl, Nat.le_of_ble_eq_true rfl⟩) (pMC_v hK hP hD hC hS hA (ci := 1) (q0 := 0) rfl rfl rfl) rfl rfl hl.1 rfl (lv_room (Nat.le_of_ble_eq_true rfl)) d_M_becomeNumber_69 ⟨by decide, by decide⟩) hS hA hD (fun rz13 u t H locs hr0 ht hB hFr hS => ?_)
          obtain ⟨hP, hD⟩ := hB
          rw [ht] at hP
          have hD := dwk hD hFr
          clear ht hFr
          have hP : va_P D classes (wS62 cI cJ cZ cB p0 p1 p2 p3 p4 p5 p6 true x0_5 x0_6 x0_7 x0_8 x0_9 x0_10 x0_11 x0_12 x0_13 y1 y2 x3_0 x4_0 y5 y6) H := hP
          have hD : va_D A (wS62 cI cJ cZ cB p0 p1 p2 p3 p4 p5 p6 true x0_5 x0_6 x0_7 x0_8 x0_9 x0_10 x0_11 x0_12 x0_13 y1 y2 x3_0 x4_0 y5 y6) := hD
          refine cs_i (W.runS (As := [.int rz13]) (rest := [.int (0 : Int32), .ref p0]) ⟨hx, hb, hml, hown, hk⟩ (c_W_sign l rz13) (s_W_sign hk k_269 ⟨Nat.le_of_ble_eq_true rfl, Nat.le_of_ble_eq_true rfl⟩) ⟨fun a U g mk q => q, fun U hU hW => ⟨rfl, trivial⟩⟩ rfl rfl hl.1 rfl (lv_room (Nat.le_of_ble_eq_true rfl)) d_M_becomeNumber_72 ⟨Nat.le_of_ble_eq_true rfl, Nat.le_of_ble_eq_true rfl⟩) ?_
          refine lv_topi (fun v14 hv14 => ?_)
          refine lv_iload hx hb d_M_becomeNumber_75 (lv_at hl 0 rfl) ?_
          refine cs_i (W.runS (As := [.int v14, .int v12]) (rest := [.int (0 : Int32), .ref p0]) ⟨hx, hb, hml, hown, hk⟩ (c_W_make l v14 v12) (s_W_make hk k_370 ⟨Nat.le_of_ble_eq_true rfl, Nat.le_of_ble_eq_true rfl⟩) ⟨fun a U g mk q => q, fun U hU hW => ⟨rfl, trivial⟩⟩ rfl rfl hl.1 rfl (lv_room (Nat.le_of_ble_eq_true rfl)) d_M_becomeNumber_77 ⟨Nat.le_of_ble_eq_true rfl, Nat.le_of_ble_eq_true rfl⟩) ?_
          refine lv_topi (fun v15 hv15 => ?_)
          refine kn_v (va_runV (C := "SignMachine$Machine") (As := [.int (0 : Int32), .int v15]) (rest := []) ⟨hx, hb, hml, hown, hk⟩ (c_M_putRegister_s4 l K D cI cJ cZ cB p0 p1 p2 p3 p4 p5 p6 H.size true x0_5 x0_6 x0_7 x0_8 x0_9 x0_10 x0_11 x0_12 x0_13 y1 y2 x3_0 x4_0 y5 y6  (0 : Int32) v15 ) (v_M_putRegister_s4 hk k_362 ⟨Nat.le_of_ble_eq_true rfl, Nat.le_of_ble_eq_true rfl⟩) (pMC_v hK hP hD hC hS hA (ci := 1) (q0 := 0) rfl rfl rfl) rfl rfl hl.1 rfl (lv_room (Nat.le_of_ble_eq_true rfl)) d_M_becomeNumber_80 ⟨by decide, by decide⟩) hS hA hD (fun u t H locs ht hB hFr hS => ?_)
          obtain ⟨y2z16, hP, hD⟩ := hB
          rw [ht] at hP
          have hD := dwk hD hFr
          clear ht hFr
          have hP : va_P D classes (wS62 cI cJ cZ cB p0 p1 p2 p3 p4 p5 p6 true x0_5 x0_6 x0_7 x0_8 x0_9 x0_10 x0_11 x0_12 x0_13 y1 y2z16 x3_0 x4_0 y5 y6) H := hP
          have hD : va_D A (wS62 cI cJ cZ cB p0 p1 p2 p3 p4 p5 p6 true x0_5 x0_6 x0_7 x0_8 x0_9 x0_10 x0_11 x0_12 x0_13 y1 y2z16 x3_0 x4_0 y5 y6) := hD
          exact W.vret hx hb hr (fun t ht hW => ⟨⟨(), rfl, trivial, ⟨true, y2z16, by show va_P D classes _ t.heap; rw [ht]; exact hP, hD⟩⟩, hS.F ht⟩) hS.2.2 d_M_becomeNumber_83
      · refine lv_lload_n hx hb d_M_becomeNumber_16 rfl (lv_at hl 1 rfl) ?_
        refine lv_ldc2 (v := 10) hx hb hown (hk _ k_387) d_M_becomeNumber_17 ?_
        refine lv_lmul hx hb d_M_becomeNumber_20 ?_
        refine lv_topl (fun v17 hv17 => ?_)
        refine lv_lload_n hx hb d_M_becomeNumber_21 rfl (lv_at hl 2 rfl) ?_
        refine lv_bipush (v := 6) hx hb d_M_becomeNumber_22 (by decide) ?_
        refine lv_iload hx hb d_M_becomeNumber_24 (lv_at hl 0 rfl) ?_
        refine lv_imul hx hb d_M_becomeNumber_26 ?_
        refine lv_topi (fun v18 hv18 => ?_)
        refine lv_lshr (v := (rz1 >>> ((v18 : Int32).toInt64 &&& 63))) hx hb d_M_becomeNumber_27 rfl ?_
        refine lv_topl (fun v19 hv19 => ?_)
        refine lv_ldc2 (v := 63) hx hb hown (hk _ k_388) d_M_becomeNumber_28 ?_
        refine lv_land hx hb d_M_becomeNumber_31 ?_
        refine lv_topl (fun v20 hv20 => ?_)
        refine lv_ldc2 (v := 10) hx hb hown (hk _ k_387) d_M_becomeNumber_32 ?_
        refine lv_lrem hx hb d_M_becomeNumber_35 (by decide) ?_
        refine lv_topl (fun v21 hv21 => ?_)
        refine lv_ladd hx hb d_M_becomeNumber_36 ?_
        refine lv_topl (fun v22 hv22 => ?_)
        refine lv_lstore_n (lv' := [(3, .long v22), (5, .int l5), (1, .long rz1), (0, .ref p0)]) hx hb d_M_becomeNumber_37 rfl hl (by decide) rfl (fun ls hl => ?_)
        obtain ⟨v23, hv23⟩ : ∃ y : Int32, y = (l5 + (-1 : Int32)) := ⟨_, rfl⟩
        refine lv_iinc (v := v23) (lv' := [(5, .int v23), (3, .long v22), (1, .long rz1), (0, .ref p0)]) hx hb d_M_becomeNumber_38 hl (k := 1) rfl (by rw [hv23]; rfl) (by decide) rfl (fun ls hl => ?_)
        refine lv_goto (tgt := 11) hx hb d_M_becomeNumber_41 (by decide) ?_
        exact ih v23 v22 x0_4 y2 H _ ls (lpd c2 hv23 (by decide) (by decide) hn11_62) hP hD hS (lv_sub hl [0, 1, 2, 3] rfl)
  exact LP11_62 _ (9 : Int32) (0 : Int64) x0_4 y2 H _ ls (Nat.lt_succ_self _) hP hD hS hl
theorem v_M_becomeNumber_s4 {R : Room} {s : State} {args : Array Value} {own : String} {index : Nat} (hk : ∀ w ∈ tb, w.before args s = true) (hl : Cond.methodLink own index y_M_becomeNumber ∈ tb) (hR : 2 + 1 ≤ R.frames ∧ 8 + (6 + 11) + 41 ≤ R.locals) : CallW R s args own "SignMachine$Machine" index y_M_becomeNumber b_M_becomeNumber 6 none (.code y_M_becomeNumber b_M_becomeNumber 6 none :: tb) ({ frames := 2, cells := 0, slots := 0, locals := 41 }) 0 0 0 := mk_v 0 hk k_386 hl k_385 k_18 k_117 rfl rfl h_M_becomeNumber hR
set_option maxHeartbeats 4000000 in
set_option maxRecDepth 100000 in
theorem c_M_convert_s4 (l : Launch) (K : CK) (D : va_G) (cI cJ cZ cB : ClassId) (p0 p1 p2 p3 p4 p5 p6 : Nat) (sz : Nat) (x0_4 : Bool) (x0_5 : Int32) (x0_6 : Int32) (x0_7 : Int32) (x0_8 : Int32) (x0_9 : Int32) (x0_10 : Int32) (x0_11 : Int32) (x0_12 : Int32) (x0_13 : Int32) (y1 : Nat → Int32) (y2 : Nat → Int32) (x3_0 : Int32) (x4_0 : Int32) (y5 : Nat → Int32) (y6 : Nat → Int32)   : Met l y_M_convert (.code y_M_convert b_M_convert 1 none :: tb) ({ frames := 3, cells := 0, slots := 0, locals := 70 }) (pMC K D cI cJ cZ cB (wS62 cI cJ cZ cB p0 p1 p2 p3 p4 p5 p6 x0_4 x0_5 x0_6 x0_7 x0_8 x0_9 x0_10 x0_11 x0_12 x0_13 y1 y2 x3_0 x4_0 y5 y6) sz [.ref p0]) (va_Qv (fun (_ : Unit) => True) (fun _ t => (∃ u_x0_4 : Bool, ∃ u_y2 : Nat → Int32, va_P D classes (wS62 cI cJ cZ cB p0 p1 p2 p3 p4 p5 p6 u_x0_4 x0_5 x0_6 x0_7 x0_8 x0_9 x0_10 x0_11 x0_12 x0_13 y1 u_y2 x3_0 x4_0 y5 y6) t.heap ∧ va_D (va_A (wS62 cI cJ cZ cB p0 p1 p2 p3 p4 p5 p6 x0_4 x0_5 x0_6 x0_7 x0_8 x0_9 x0_10 x0_11 x0_12 x0_13 y1 y2 x3_0 x4_0 y5 y6) sz) (wS62 cI cJ cZ cB p0 p1 p2 p3 p4 p5 p6 u_x0_4 x0_5 x0_6 x0_7 x0_8 x0_9 x0_10 x0_11 x0_12 x0_13 y1 u_y2 x3_0 x4_0 y5 y6))) (va_A (wS62 cI cJ cZ cB p0 p1 p2 p3 p4 p5 p6 x0_4 x0_5 x0_6 x0_7 x0_8 x0_9 x0_10 x0_11 x0_12 x0_13 y1 y2 x3_0 x4_0 y5 y6) sz)) 0 0 (va_A (wS62 cI cJ cZ cB p0 p1 p2 p3 p4 p5 p6 x0_4 x0_5 x0_6 x0_7 x0_8 x0_9 x0_10 x0_11 x0_12 x0_13 y1 y2 x3_0 x4_0 y5 y6) sz) := by
  refine Met.ofW (cc := b_M_convert) (maxL := 1) (ret := none) (by decide) rfl ?_
  intro p e s m args below meth c s₁ B hml hv
  obtain ⟨rfl, hsz, hK, hP, hD0, hC⟩ := hv
  subst hsz
  have hD := hD0.self (sz := s.heap.size)
  generalize hAe : va_A (wS62 cI cJ cZ cB p0 p1 p2 p3 p4 p5 p6 x0_4 x0_5 x0_6 x0_7 x0_8 x0_9 x0_10 x0_11 x0_12 x0_13 y1 y2 x3_0 x4_0 y5 y6) s.heap.size = A at hD hC ⊢
  have hA : ∀ q : Nat, s.heap.size ≤ q → A q := fun q h => by rw [← hAe]; exact Or.inr h
  clear hAe hD0
  have hS : va_S A s.heap s.heap [] := va_S.rf
  have hx := B.exec
  have hb := B.bytes
  have hr := B.returns
  have hts := atoms_spec (ws := .code y_M_convert b_M_convert 1 none :: tb) B.pre
  have hk : ∀ w ∈ tb, w.before [.ref p0].toArray s = true := fun w h => hts w (List.mem_cons_of_mem _ h)
  have hown : s.vm.findClass "SignMachine$Machine" = some m.cls := findClass_of_methodNamed B.named
  have hlocks := B.notSynchronized
  have hl := lv_entry ([.ref p0]) (n := 1) (Nat.le_of_ble_eq_true rfl)
  rw [lg_entry_eq]
  generalize (lg_sl ([.ref p0]) ++ List.replicate (1 - (lg_sl ([.ref p0])).length) Slot.unset).toArray = ls at hl ⊢
  have hl : lv_has ls 1 [(0, .ref p0)] := hl
  refine lv_aload_n hx hb d_M_convert_0 rfl (lv_at hl 0 rfl) ?_
  refine va_get (D := D) (ci := 1) (v := .int x0_10) (C := "SignMachine$Machine") (T := F_M) (N := 14) hx hb hk fi_M hown hK.1 hP 0 rfl rfl 10 (by decide) (hk _ k_177) (fun _ h9 => h9) rfl d_M_convert_1 ?_
  refine lv_if_ne (tgt := 14) hx hb d_M_convert_4 (by decide) (fun c1 => ?_) (fun c1 => ?_)
  · refine lv_aload_n hx hb d_M_convert_14 rfl (lv_at hl 0 rfl) ?_
    refine va_get (D := D) (ci := 1) (v := .int x0_10) (C := "SignMachine$Machine") (T := F_M) (N := 14) hx hb hk fi_M hown hK.1 hP 0 rfl rfl 10 (by decide) (hk _ k_177) (fun _ h9 => h9) rfl d_M_convert_15 ?_
    refine lv_iconst (v := 1) hx hb d_M_convert_18 (by decide) ?_
    refine lv_icmp_ne (tgt := 26) hx hb d_M_convert_19 (by decide) (fun c2 => ?_) (fun c2 => ?_)
    · exact W.vret hx hb hr (fun t ht hW => ⟨⟨(), rfl, trivial, ⟨x0_4, y2, by show va_P D classes _ t.heap; rw [ht]; exact hP, hD⟩⟩, hS.F ht⟩) hS.2.2 d_M_convert_26
    · refine lv_aload_n hx hb d_M_convert_22 rfl (lv_at hl 0 rfl) ?_
      refine kn_v (va_runV (C := "SignMachine$Machine") (As := []) (rest := []) ⟨hx, hb, hml, hown, hk⟩ (c_M_becomeDigits_s4 l K D cI cJ cZ cB p0 p1 p2 p3 p4 p5 p6 s.heap.size x0_4 x0_5 x0_6 x0_7 x0_8 x0_9 x0_10 x0_11 x0_12 x0_13 y1 y2 x3_0 x4_0 y5 y6   ) (v_M_becomeDigits_s4 hk k_391 ⟨Nat.le_of_ble_eq_true rfl, Nat.le_of_ble_eq_true rfl⟩) (pMC_v hK hP hD hC hS hA (ci := 1) (q0 := 0) rfl rfl rfl) rfl rfl hl.1 rfl (lv_room (Nat.le_of_ble_eq_true rfl)) d_M_convert_23 ⟨by decide, by decide⟩) hS hA hD (fun u t H locs ht hB hFr hS => ?_)
      obtain ⟨y2z3, hP, hD⟩ := hB
      rw [ht] at hP
      have hD := dwk hD hFr
      clear ht hFr
      have hP : va_P D classes (wS62 cI cJ cZ cB p0 p1 p2 p3 p4 p5 p6 x0_4 x0_5 x0_6 x0_7 x0_8 x0_9 x0_10 x0_11 x0_12 x0_13 y1 y2z3 x3_0 x4_0 y5 y6) H := hP
      have hD : va_D A (wS62 cI cJ cZ cB p0 p1 p2 p3 p4 p5 p6 x0_4 x0_5 x0_6 x0_7 x0_8 x0_9 x0_10 x0_11 x0_12 x0_13 y1 y2z3 x3_0 x4_0 y5 y6) := hD
      exact W.vret hx hb hr (fun t ht hW => ⟨⟨(), rfl, trivial, ⟨x0_4, y2z3, by show va_P D classes _ t.heap; rw [ht]; exact hP, hD⟩⟩, hS.F ht⟩) hS.2.2 d_M_convert_26
  · refine lv_aload_n hx hb d_M_convert_7 rfl (lv_at hl 0 rfl) ?_
    refine kn_v (va_runV (C := "SignMachine$Machine") (As := []) (rest := []) ⟨hx, hb, hml, hown, hk⟩ (c_M_becomeNumber_s4 l K D cI cJ cZ cB p0 p1 p2 p3 p4 p5 p6 s.heap.size x0_4 x0_5 x0_6 x0_7 x0_8 x0_9 x0_10 x0_11 x0_12 x0_13 y1 y2 x3_0 x4_0 y5 y6   ) (v_M_becomeNumber_s4 hk k_383 ⟨Nat.le_of_ble_eq_true rfl, Nat.le_of_ble_eq_true rfl⟩) (pMC_v hK hP hD hC hS hA (ci := 1) (q0 := 0) rfl rfl rfl) rfl rfl hl.1 rfl (lv_room (Nat.le_of_ble_eq_true rfl)) d_M_convert_8 ⟨by decide, by decide⟩) hS hA hD (fun u t H locs ht hB hFr hS => ?_)
    obtain ⟨x0_4z4, y2z4, hP, hD⟩ := hB
    rw [ht] at hP
    have hD := dwk hD hFr
    clear ht hFr
    have hP : va_P D classes (wS62 cI cJ cZ cB p0 p1 p2 p3 p4 p5 p6 x0_4z4 x0_5 x0_6 x0_7 x0_8 x0_9 x0_10 x0_11 x0_12 x0_13 y1 y2z4 x3_0 x4_0 y5 y6) H := hP
    have hD : va_D A (wS62 cI cJ cZ cB p0 p1 p2 p3 p4 p5 p6 x0_4z4 x0_5 x0_6 x0_7 x0_8 x0_9 x0_10 x0_11 x0_12 x0_13 y1 y2z4 x3_0 x4_0 y5 y6) := hD
    refine lv_goto (tgt := 26) hx hb d_M_convert_11 (by decide) ?_
    exact W.vret hx hb hr (fun t ht hW => ⟨⟨(), rfl, trivial, ⟨x0_4z4, y2z4, by show va_P D classes _ t.heap; rw [ht]; exact hP, hD⟩⟩, hS.F ht⟩) hS.2.2 d_M_convert_26
theorem v_M_convert_s4 {R : Room} {s : State} {args : Array Value} {own : String} {index : Nat} (hk : ∀ w ∈ tb, w.before args s = true) (hl : Cond.methodLink own index y_M_convert ∈ tb) (hR : 3 + 1 ≤ R.frames ∧ 8 + (1 + 11) + 70 ≤ R.locals) : CallW R s args own "SignMachine$Machine" index y_M_convert b_M_convert 1 none (.code y_M_convert b_M_convert 1 none :: tb) ({ frames := 3, cells := 0, slots := 0, locals := 70 }) 0 0 0 := mk_v 0 hk k_382 hl k_381 k_17 k_117 rfl rfl h_M_convert hR
set_option maxHeartbeats 4000000 in
set_option maxRecDepth 100000 in
theorem c_M_shift_s4 (l : Launch) (K : CK) (D : va_G) (cI cJ cZ cB : ClassId) (p0 p1 p2 p3 p4 p5 p6 : Nat) (sz : Nat) (x0_4 : Bool) (x0_5 : Int32) (x0_6 : Int32) (x0_7 : Int32) (x0_8 : Int32) (x0_9 : Int32) (x0_10 : Int32) (x0_11 : Int32) (x0_12 : Int32) (x0_13 : Int32) (y1 : Nat → Int32) (y2 : Nat → Int32) (x3_0 : Int32) (x4_0 : Int32) (y5 : Nat → Int32) (y6 : Nat → Int32)   : Met l y_M_shift (.code y_M_shift b_M_shift 5 none :: tb) ({ frames := 2, cells := 0, slots := 0, locals := 46 }) (pMC K D cI cJ cZ cB (wS62 cI cJ cZ cB p0 p1 p2 p3 p4 p5 p6 x0_4 x0_5 x0_6 x0_7 x0_8 x0_9 x0_10 x0_11 x0_12 x0_13 y1 y2 x3_0 x4_0 y5 y6) sz [.ref p0]) (va_Qv (fun (_ : Unit) => True) (fun _ t => (∃ u_y2 : Nat → Int32, va_P D classes (wS62 cI cJ cZ cB p0 p1 p2 p3 p4 p5 p6 x0_4 x0_5 x0_6 x0_7 x0_8 x0_9 x0_10 x0_11 x0_12 x0_13 y1 u_y2 x3_0 x4_0 y5 y6) t.heap ∧ va_D (va_A (wS62 cI cJ cZ cB p0 p1 p2 p3 p4 p5 p6 x0_4 x0_5 x0_6 x0_7 x0_8 x0_9 x0_10 x0_11 x0_12 x0_13 y1 y2 x3_0 x4_0 y5 y6) sz) (wS62 cI cJ cZ cB p0 p1 p2 p3 p4 p5 p6 x0_4 x0_5 x0_6 x0_7 x0_8 x0_9 x0_10 x0_11 x0_12 x0_13 y1 u_y2 x3_0 x4_0 y5 y6))) (va_A (wS62 cI cJ cZ cB p0 p1 p2 p3 p4 p5 p6 x0_4 x0_5 x0_6 x0_7 x0_8 x0_9 x0_10 x0_11 x0_12 x0_13 y1 y2 x3_0 x4_0 y5 y6) sz)) 0 0 (va_A (wS62 cI cJ cZ cB p0 p1 p2 p3 p4 p5 p6 x0_4 x0_5 x0_6 x0_7 x0_8 x0_9 x0_10 x0_11 x0_12 x0_13 y1 y2 x3_0 x4_0 y5 y6) sz) := by
  refine Met.ofW (cc := b_M_shift) (maxL := 5) (ret := none) (by decide) rfl ?_
  intro p e s m args below meth c s₁ B hml hv
  obtain ⟨rfl, hsz, hK, hP, hD0, hC⟩ := hv
  subst hsz
  have hD := hD0.self (sz := s.heap.size)
  generalize hAe : va_A (wS62 cI cJ cZ cB p0 p1 p2 p3 p4 p5 p6 x0_4 x0_5 x0_6 x0_7 x0_8 x0_9 x0_10 x0_11 x0_12 x0_13 y1 y2 x3_0 x4_0 y5 y6) s.heap.size = A at hD hC ⊢
  have hA : ∀ q : Nat, s.heap.size ≤ q → A q := fun q h => by rw [← hAe]; exact Or.inr h
  clear hAe hD0
  have hS : va_S A s.heap s.heap [] := va_S.rf
  have hx := B.exec
  have hb := B.bytes
  have hr := B.returns
  have hts := atoms_spec (ws := .code y_M_shift b_M_shift 5 none :: tb) B.pre
  have hk : ∀ w ∈ tb, w.before [.ref p0].toArray s = true := fun w h => hts w (List.mem_cons_of_mem _ h)
  have hown : s.vm.findClass "SignMachine$Machine" = some m.cls := findClass_of_methodNamed B.named
  have hlocks := B.notSynchronized
  have hl := lv_entry ([.ref p0]) (n := 5) (Nat.le_of_ble_eq_true rfl)
  rw [lg_entry_eq]
  generalize (lg_sl ([.ref p0]) ++ List.replicate (5 - (lg_sl ([.ref p0])).length) Slot.unset).toArray = ls at hl ⊢
  have hl : lv_has ls 5 [(0, .ref p0)] := hl
  refine lv_aload_n hx hb d_M_shift_0 rfl (lv_at hl 0 rfl) ?_
  refine va_get (D := D) (ci := 1) (v := .int x0_10) (C := "SignMachine$Machine") (T := F_M) (N := 14) hx hb hk fi_M hown hK.1 hP 0 rfl rfl 10 (by decide) (hk _ k_177) (fun _ h9 => h9) rfl d_M_shift_1 ?_
  refine lv_iconst (v := 1) hx hb d_M_shift_4 (by decide) ?_
  refine lv_icmp_gt (tgt := 69) hx hb d_M_shift_5 (by decide) (fun c1 => ?_) (fun c1 => ?_)
  · refine lv_bipush (v := 6) hx hb d_M_shift_69 (by decide) ?_
    refine lv_aload_n hx hb d_M_shift_71 rfl (lv_at hl 0 rfl) ?_
    refine va_get (D := D) (ci := 1) (v := .int x0_12) (C := "SignMachine$Machine") (T := F_M) (N := 14) hx hb hk fi_M hown hK.1 hP 0 rfl rfl 12 (by decide) (hk _ k_179) (fun _ h9 => h9) rfl d_M_shift_72 ?_
    refine lv_bipush (v := 10) hx hb d_M_shift_75 (by decide) ?_
    refine va_mmin hx hb (hml.trans hl.1.symm) hown (hk _ k_403) (hk _ k_404) (hk _ k_121) (hk _ k_minc) (Nat.le_of_ble_eq_true rfl) (Nat.le_of_ble_eq_true rfl) (Nat.zero_le _) (Nat.zero_le _) d_M_shift_77 ?_
    refine lv_topi (fun v2 hv2 => ?_)
    have hmv2 : v2 ≤ (10 : Int32) := mn1 hv2
    refine lv_imul hx hb d_M_shift_80 ?_
    refine lv_topi (fun v3 hv3 => ?_)
    refine lv_istore_n (lv' := [(1, .int v3), (0, .ref p0)]) hx hb d_M_shift_81 rfl hl (by decide) rfl (fun ls hl => ?_)
    refine lv_bipush (v := 6) hx hb d_M_shift_82 (by decide) ?_
    refine lv_aload_n hx hb d_M_shift_84 rfl (lv_at hl 1 rfl) ?_
    refine va_get (D := D) (ci := 1) (v := .int x0_12) (C := "SignMachine$Machine") (T := F_M) (N := 14) hx hb hk fi_M hown hK.1 hP 0 rfl rfl 12 (by decide) (hk _ k_179) (fun _ h9 => h9) rfl d_M_shift_85 ?_
    refine lv_bipush (v := 10) hx hb d_M_shift_88 (by decide) ?_
    refine lv_irem hx hb d_M_shift_90 (by decide) ?_
    refine lv_topi (fun v4 hv4 => ?_)
    refine lv_imul hx hb d_M_shift_91 ?_
    refine lv_topi (fun v5 hv5 => ?_)
    refine lv_istore_n (lv' := [(2, .int v5), (1, .int v3), (0, .ref p0)]) hx hb d_M_shift_92 rfl hl (by decide) rfl (fun ls hl => ?_)
    refine lv_aload_n hx hb d_M_shift_93 rfl (lv_at hl 2 rfl) ?_
    refine sn_l (va_runV (C := "SignMachine$Machine") (As := []) (rest := []) ⟨hx, hb, hml, hown, hk⟩ (c_M_sizeOfAX_s4 l K D cI cJ cZ cB p0 p1 p2 p3 p4 p5 p6 s.heap.size x0_4 x0_5 x0_6 x0_7 x0_8 x0_9 x0_10 x0_11 x0_12 x0_13 y1 y2 x3_0 x4_0 y5 y6   ) (v_M_sizeOfAX_s4 hk k_375 ⟨Nat.le_of_ble_eq_true rfl, Nat.le_of_ble_eq_true rfl⟩) (pMC_v hK hP hD hC hS hA (ci := 1) (q0 := 0) rfl rfl rfl) rfl rfl hl.1 rfl (lv_room (Nat.le_of_ble_eq_true rfl)) d_M_shift_94 ⟨by decide, by decide⟩) hS hA hD (fun rz6 u t H locs hr0 ht hB hFr hS => ?_)
    obtain ⟨hP, hD⟩ := hB
    rw [ht] at hP
    have hD := dwk hD hFr
    clear ht hFr
    have hP : va_P D classes (wS62 cI cJ cZ cB p0 p1 p2 p3 p4 p5 p6 x0_4 x0_5 x0_6 x0_7 x0_8 x0_9 x0_10 x0_11 x0_12 x0_13 y1 y2 x3_0 x4_0 y5 y6) H := hP
    have hD : va_D A (wS62 cI cJ cZ cB p0 p1 p2 p3 p4 p5 p6 x0_4 x0_5 x0_6 x0_7 x0_8 x0_9 x0_10 x0_11 x0_12 x0_13 y1 y2 x3_0 x4_0 y5 y6) := hD
    refine lv_lstore_n (lv' := [(3, .long rz6), (2, .int v5), (1, .int v3), (0, .ref p0)]) hx hb d_M_shift_97 rfl hl (by decide) rfl (fun ls hl => ?_)
    refine lv_aload_n hx hb d_M_shift_98 rfl (lv_at hl 3 rfl) ?_
    refine va_get (D := D) (ci := 1) (v := .int x0_10) (C := "SignMachine$Machine") (T := F_M) (N := 14) hx hb hk fi_M hown hK.1 hP 0 rfl rfl 10 (by decide) (hk _ k_177) (fun _ h9 => h9) rfl d_M_shift_99 ?_
    by_cases c7 : x0_10 = (2 : Int32)
    · refine lv_tableIn (off := 26) (tgt := 128) hx hb d_M_shift_102 (by rw [c7]; decide) (by rw [c7]; decide) (by rw [c7]; rfl) (by decide) ?_
      refine lv_lload_n hx hb d_M_shift_128 rfl (lv_at hl 0 rfl) ?_
      refine lv_iload_n hx hb d_M_shift_129 rfl (lv_at hl 2 rfl) ?_
      refine lv_lshl (v := (rz6 <<< ((v3 : Int32).toInt64 &&& 63))) hx hb d_M_shift_130 rfl ?_
      refine lv_topl (fun v8 hv8 => ?_)
      refine lv_lstore_n (lv' := [(3, .long v8), (2, .int v5), (1, .int v3), (0, .ref p0)]) hx hb d_M_shift_131 rfl hl (by decide) rfl (fun ls hl => ?_)
      refine lv_goto (tgt := 167) hx hb d_M_shift_132 (by decide) ?_
      refine lv_aload_n hx hb d_M_shift_167 rfl (lv_at hl 3 rfl) ?_
      refine lv_lload_n hx hb d_M_shift_168 rfl (lv_at hl 0 rfl) ?_
      refine kn_v (va_runV (C := "SignMachine$Machine") (As := [.long v8]) (rest := []) ⟨hx, hb, hml, hown, hk⟩ (c_M_putSizesOfAX_s4 l K D cI cJ cZ cB p0 p1 p2 p3 p4 p5 p6 H.size x0_4 x0_5 x0_6 x0_7 x0_8 x0_9 x0_10 x0_11 x0_12 x0_13 y1 y2 x3_0 x4_0 y5 y6  v8 ) (v_M_putSizesOfAX_s4 hk k_395 ⟨Nat.le_of_ble_eq_true rfl, Nat.le_of_ble_eq_true rfl⟩) (pMC_v hK hP hD hC hS hA (ci := 1) (q0 := 0) rfl rfl rfl) rfl rfl hl.1 rfl (lv_room (Nat.le_of_ble_eq_true rfl)) d_M_shift_169 ⟨by decide, by decide⟩) hS hA hD (fun u t H locs ht hB hFr hS => ?_)
      obtain ⟨y2z9, hP, hD⟩ := hB
      rw [ht] at hP
      have hD := dwk hD hFr
      clear ht hFr
      have hP : va_P D classes (wS62 cI cJ cZ cB p0 p1 p2 p3 p4 p5 p6 x0_4 x0_5 x0_6 x0_7 x0_8 x0_9 x0_10 x0_11 x0_12 x0_13 y1 y2z9 x3_0 x4_0 y5 y6) H := hP
      have hD : va_D A (wS62 cI cJ cZ cB p0 p1 p2 p3 p4 p5 p6 x0_4 x0_5 x0_6 x0_7 x0_8 x0_9 x0_10 x0_11 x0_12 x0_13 y1 y2z9 x3_0 x4_0 y5 y6) := hD
      exact W.vret hx hb hr (fun t ht hW => ⟨⟨(), rfl, trivial, ⟨y2z9, by show va_P D classes _ t.heap; rw [ht]; exact hP, hD⟩⟩, hS.F ht⟩) hS.2.2 d_M_shift_172
    · by_cases c10 : x0_10 = (3 : Int32)
      · refine lv_tableIn (off := 33) (tgt := 135) hx hb d_M_shift_102 (by rw [c10]; decide) (by rw [c10]; decide) (by rw [c10]; rfl) (by decide) ?_
        refine lv_lload_n hx hb d_M_shift_135 rfl (lv_at hl 0 rfl) ?_
        refine lv_iload_n hx hb d_M_shift_136 rfl (lv_at hl 2 rfl) ?_
        refine lv_lshr (v := (rz6 >>> ((v3 : Int32).toInt64 &&& 63))) hx hb d_M_shift_137 rfl ?_
        refine lv_topl (fun v11 hv11 => ?_)
        refine lv_lstore_n (lv' := [(3, .long v11), (2, .int v5), (1, .int v3), (0, .ref p0)]) hx hb d_M_shift_138 rfl hl (by decide) rfl (fun ls hl => ?_)
        refine lv_goto (tgt := 167) hx hb d_M_shift_139 (by decide) ?_
        refine lv_aload_n hx hb d_M_shift_167 rfl (lv_at hl 3 rfl) ?_
        refine lv_lload_n hx hb d_M_shift_168 rfl (lv_at hl 0 rfl) ?_
        refine kn_v (va_runV (C := "SignMachine$Machine") (As := [.long v11]) (rest := []) ⟨hx, hb, hml, hown, hk⟩ (c_M_putSizesOfAX_s4 l K D cI cJ cZ cB p0 p1 p2 p3 p4 p5 p6 H.size x0_4 x0_5 x0_6 x0_7 x0_8 x0_9 x0_10 x0_11 x0_12 x0_13 y1 y2 x3_0 x4_0 y5 y6  v11 ) (v_M_putSizesOfAX_s4 hk k_395 ⟨Nat.le_of_ble_eq_true rfl, Nat.le_of_ble_eq_true rfl⟩) (pMC_v hK hP hD hC hS hA (ci := 1) (q0 := 0) rfl rfl rfl) rfl rfl hl.1 rfl (lv_room (Nat.le_of_ble_eq_true rfl)) d_M_shift_169 ⟨by decide, by decide⟩) hS hA hD (fun u t H locs ht hB hFr hS => ?_)
        obtain ⟨y2z12, hP, hD⟩ := hB
        rw [ht] at hP
        have hD := dwk hD hFr
        clear ht hFr
        have hP : va_P D classes (wS62 cI cJ cZ cB p0 p1 p2 p3 p4 p5 p6 x0_4 x0_5 x0_6 x0_7 x0_8 x0_9 x0_10 x0_11 x0_12 x0_13 y1 y2z12 x3_0 x4_0 y5 y6) H := hP
        have hD : va_D A (wS62 cI cJ cZ cB p0 p1 p2 p3 p4 p5 p6 x0_4 x0_5 x0_6 x0_7 x0_8 x0_9 x0_10 x0_11 x0_12 x0_13 y1 y2z12 x3_0 x4_0 y5 y6) := hD
        exact W.vret hx hb hr (fun t ht hW => ⟨⟨(), rfl, trivial, ⟨y2z12, by show va_P D classes _ t.heap; rw [ht]; exact hP, hD⟩⟩, hS.F ht⟩) hS.2.2 d_M_shift_172
      · by_cases c13 : x0_10 = (4 : Int32)
        · refine lv_tableIn (off := 40) (tgt := 142) hx hb d_M_shift_102 (by rw [c13]; decide) (by rw [c13]; decide) (by rw [c13]; rfl) (by decide) ?_
          refine lv_lload_n hx hb d_M_shift_142 rfl (lv_at hl 0 rfl) ?_
          refine lv_iload_n hx hb d_M_shift_143 rfl (lv_at hl 1 rfl) ?_
          refine lv_lshl (v := (rz6 <<< ((v5 : Int32).toInt64 &&& 63))) hx hb d_M_shift_144 rfl ?_
          refine lv_topl (fun v14 hv14 => ?_)
          refine lv_lload_n hx hb d_M_shift_145 rfl (lv_at hl 0 rfl) ?_
          refine lv_bipush (v := 60) hx hb d_M_shift_146 (by decide) ?_
          refine lv_iload_n hx hb d_M_shift_148 rfl (lv_at hl 1 rfl) ?_
          refine lv_isub hx hb d_M_shift_149 ?_
          refine lv_topi (fun v15 hv15 => ?_)
          refine lv_lshr (v := (rz6 >>> ((v15 : Int32).toInt64 &&& 63))) hx hb d_M_shift_150 rfl ?_
          refine lv_topl (fun v16 hv16 => ?_)
          refine lv_lor hx hb d_M_shift_151 ?_
          refine lv_topl (fun v17 hv17 => ?_)
          refine lv_lstore_n (lv' := [(3, .long v17), (2, .int v5), (1, .int v3), (0, .ref p0)]) hx hb d_M_shift_152 rfl hl (by decide) rfl (fun ls hl => ?_)
          refine lv_goto (tgt := 167) hx hb d_M_shift_153 (by decide) ?_
          refine lv_aload_n hx hb d_M_shift_167 rfl (lv_at hl 3 rfl) ?_
          refine lv_lload_n hx hb d_M_shift_168 rfl (lv_at hl 0 rfl) ?_
          refine kn_v (va_runV (C := "SignMachine$Machine") (As := [.long v17]) (rest := []) ⟨hx, hb, hml, hown, hk⟩ (c_M_putSizesOfAX_s4 l K D cI cJ cZ cB p0 p1 p2 p3 p4 p5 p6 H.size x0_4 x0_5 x0_6 x0_7 x0_8 x0_9 x0_10 x0_11 x0_12 x0_13 y1 y2 x3_0 x4_0 y5 y6  v17 ) (v_M_putSizesOfAX_s4 hk k_395 ⟨Nat.le_of_ble_eq_true rfl, Nat.le_of_ble_eq_true rfl⟩) (pMC_v hK hP hD hC hS hA (ci := 1) (q0 := 0) rfl rfl rfl) rfl rfl hl.1 rfl (lv_room (Nat.le_of_ble_eq_true rfl)) d_M_shift_169 ⟨by decide, by decide⟩) hS hA hD (fun u t H locs ht hB hFr hS => ?_)
          obtain ⟨y2z18, hP, hD⟩ := hB
          rw [ht] at hP
          have hD := dwk hD hFr
          clear ht hFr
          have hP : va_P D classes (wS62 cI cJ cZ cB p0 p1 p2 p3 p4 p5 p6 x0_4 x0_5 x0_6 x0_7 x0_8 x0_9 x0_10 x0_11 x0_12 x0_13 y1 y2z18 x3_0 x4_0 y5 y6) H := hP
          have hD : va_D A (wS62 cI cJ cZ cB p0 p1 p2 p3 p4 p5 p6 x0_4 x0_5 x0_6 x0_7 x0_8 x0_9 x0_10 x0_11 x0_12 x0_13 y1 y2z18 x3_0 x4_0 y5 y6) := hD
          exact W.vret hx hb hr (fun t ht hW => ⟨⟨(), rfl, trivial, ⟨y2z18, by show va_P D classes _ t.heap; rw [ht]; exact hP, hD⟩⟩, hS.F ht⟩) hS.2.2 d_M_shift_172
        · refine lv_tableOut (tgt := 156) hx hb d_M_shift_102 (by have e0 := lv_neT c7 (a := 2) rfl; have e1 := lv_neT c10 (a := 3) rfl; have e2 := lv_neT c13 (a := 4) rfl; omega) (by decide) ?_
          refine lv_lload_n hx hb d_M_shift_156 rfl (lv_at hl 0 rfl) ?_
          refine lv_iload_n hx hb d_M_shift_157 rfl (lv_at hl 1 rfl) ?_
          refine lv_lshr (v := (rz6 >>> ((v5 : Int32).toInt64 &&& 63))) hx hb d_M_shift_158 rfl ?_
          refine lv_topl (fun v19 hv19 => ?_)
          refine lv_lload_n hx hb d_M_shift_159 rfl (lv_at hl 0 rfl) ?_
          refine lv_bipush (v := 60) hx hb d_M_shift_160 (by decide) ?_
          refine lv_iload_n hx hb d_M_shift_162 rfl (lv_at hl 1 rfl) ?_
          refine lv_isub hx hb d_M_shift_163 ?_
          refine lv_topi (fun v20 hv20 => ?_)
          refine lv_lshl (v := (rz6 <<< ((v20 : Int32).toInt64 &&& 63))) hx hb d_M_shift_164 rfl ?_
          refine lv_topl (fun v21 hv21 => ?_)
          refine lv_lor hx hb d_M_shift_165 ?_
          refine lv_topl (fun v22 hv22 => ?_)
          refine lv_lstore_n (lv' := [(3, .long v22), (2, .int v5), (1, .int v3), (0, .ref p0)]) hx hb d_M_shift_166 rfl hl (by decide) rfl (fun ls hl => ?_)
          refine lv_aload_n hx hb d_M_shift_167 rfl (lv_at hl 3 rfl) ?_
          refine lv_lload_n hx hb d_M_shift_168 rfl (lv_at hl 0 rfl) ?_
          refine kn_v (va_runV (C := "SignMachine$Machine") (As := [.long v22]) (rest := []) ⟨hx, hb, hml, hown, hk⟩ (c_M_putSizesOfAX_s4 l K D cI cJ cZ cB p0 p1 p2 p3 p4 p5 p6 H.size x0_4 x0_5 x0_6 x0_7 x0_8 x0_9 x0_10 x0_11 x0_12 x0_13 y1 y2 x3_0 x4_0 y5 y6  v22 ) (v_M_putSizesOfAX_s4 hk k_395 ⟨Nat.le_of_ble_eq_true rfl, Nat.le_of_ble_eq_true rfl⟩) (pMC_v hK hP hD hC hS hA (ci := 1) (q0 := 0) rfl rfl rfl) rfl rfl hl.1 rfl (lv_room (Nat.le_of_ble_eq_true rfl)) d_M_shift_169 ⟨by decide, by decide⟩) hS hA hD (fun u t H locs ht hB hFr hS => ?_)
          obtain ⟨y2z23, hP, hD⟩ := hB
          rw [ht] at hP
          have hD := dwk hD hFr
          clear ht hFr
          have hP : va_P D classes (wS62 cI cJ cZ cB p0 p1 p2 p3 p4 p5 p6 x0_4 x0_5 x0_6 x0_7 x0_8 x0_9 x0_10 x0_11 x0_12 x0_13 y1 y2z23 x3_0 x4_0 y5 y6) H := hP
          have hD : va_D A (wS62 cI cJ cZ cB p0 p1 p2 p3 p4 p5 p6 x0_4 x0_5 x0_6 x0_7 x0_8 x0_9 x0_10 x0_11 x0_12 x0_13 y1 y2z23 x3_0 x4_0 y5 y6) := hD
          exact W.vret hx hb hr (fun t ht hW => ⟨⟨(), rfl, trivial, ⟨y2z23, by show va_P D classes _ t.heap; rw [ht]; exact hP, hD⟩⟩, hS.F ht⟩) hS.2.2 d_M_shift_172
  · refine lv_bipush (v := 6) hx hb d_M_shift_8 (by decide) ?_
    refine lv_aload_n hx hb d_M_shift_10 rfl (lv_at hl 0 rfl) ?_
    refine va_get (D := D) (ci := 1) (v := .int x0_12) (C := "SignMachine$Machine") (T := F_M) (N := 14) hx hb hk fi_M hown hK.1 hP 0 rfl rfl 12 (by decide) (hk _ k_179) (fun _ h9 => h9) rfl d_M_shift_11 ?_
    refine lv_iconst (v := 5) hx hb d_M_shift_14 (by decide) ?_
    refine va_mmin hx hb (hml.trans hl.1.symm) hown (hk _ k_403) (hk _ k_404) (hk _ k_121) (hk _ k_minc) (Nat.le_of_ble_eq_true rfl) (Nat.le_of_ble_eq_true rfl) (Nat.zero_le _) (Nat.zero_le _) d_M_shift_15 ?_
    refine lv_topi (fun v24 hv24 => ?_)
    have hmv24 : v24 ≤ (5 : Int32) := mn1 hv24
    refine lv_imul hx hb d_M_shift_18 ?_
    refine lv_topi (fun v25 hv25 => ?_)
    refine lv_istore_n (lv' := [(1, .int v25), (0, .ref p0)]) hx hb d_M_shift_19 rfl hl (by decide) rfl (fun ls hl => ?_)
    refine lv_aload_n hx hb d_M_shift_20 rfl (lv_at hl 1 rfl) ?_
    refine lv_iconst (v := 0) hx hb d_M_shift_21 (by decide) ?_
    refine sn_i (va_runV (C := "SignMachine$Machine") (As := [.int (0 : Int32)]) (rest := []) ⟨hx, hb, hml, hown, hk⟩ (c_M_register_s5 l K D cI cJ cZ cB p0 p1 p2 p3 p4 p5 p6 s.heap.size x0_4 x0_5 x0_6 x0_7 x0_8 x0_9 x0_10 x0_11 x0_12 x0_13 y1 y2 x3_0 x4_0 y5 y6  (0 : Int32) ) (v_M_register_s5 hk k_273 ⟨Nat.le_of_ble_eq_true rfl, Nat.le_of_ble_eq_true rfl⟩) (pMC_v hK hP hD hC hS hA (ci := 1) (q0 := 0) rfl rfl rfl) rfl rfl hl.1 rfl (lv_room (Nat.le_of_ble_eq_true rfl)) d_M_shift_22 ⟨by decide, by decide⟩) hS hA hD (fun rz26 u t H locs hr0 ht hB hFr hS => ?_)
    obtain ⟨hP, hD⟩ := hB
    rw [ht] at hP
    have hD := dwk hD hFr
    clear ht hFr
    have hP : va_P D classes (wS62 cI cJ cZ cB p0 p1 p2 p3 p4 p5 p6 x0_4 x0_5 x0_6 x0_7 x0_8 x0_9 x0_10 x0_11 x0_12 x0_13 y1 y2 x3_0 x4_0 y5 y6) H := hP
    have hD : va_D A (wS62 cI cJ cZ cB p0 p1 p2 p3 p4 p5 p6 x0_4 x0_5 x0_6 x0_7 x0_8 x0_9 x0_10 x0_11 x0_12 x0_13 y1 y2 x3_0 x4_0 y5 y6) := hD
    refine cs_i (W.runS (As := [.int rz26]) (rest := []) ⟨hx, hb, hml, hown, hk⟩ (c_W_size l rz26) (s_W_size hk k_268 ⟨Nat.le_of_ble_eq_true rfl, Nat.le_of_ble_eq_true rfl⟩) ⟨fun a U g mk q => q, fun U hU hW => ⟨rfl, trivial⟩⟩ rfl rfl hl.1 rfl (lv_room (Nat.le_of_ble_eq_true rfl)) d_M_shift_25 ⟨Nat.le_of_ble_eq_true rfl, Nat.le_of_ble_eq_true rfl⟩) ?_
    refine lv_topi (fun v27 hv27 => ?_)
    refine lv_i2l (v := (v27 : Int32).toInt64) hx hb d_M_shift_28 rfl ?_
    refine lv_topl (fun v28 hv28 => ?_)
    refine lv_lstore_n (lv' := [(2, .long v28), (1, .int v25), (0, .ref p0)]) hx hb d_M_shift_29 rfl hl (by decide) rfl (fun ls hl => ?_)
    refine lv_aload_n hx hb d_M_shift_30 rfl (lv_at hl 2 rfl) ?_
    refine va_get (D := D) (ci := 1) (v := .int x0_10) (C := "SignMachine$Machine") (T := F_M) (N := 14) hx hb hk fi_M hown hK.1 hP 0 rfl rfl 10 (by decide) (hk _ k_177) (fun _ h9 => h9) rfl d_M_shift_31 ?_
    refine lv_if_ne (tgt := 43) hx hb d_M_shift_34 (by decide) (fun c29 => ?_) (fun c29 => ?_)
    · refine lv_lload_n hx hb d_M_shift_43 rfl (lv_at hl 0 rfl) ?_
      refine lv_iload_n hx hb d_M_shift_44 rfl (lv_at hl 1 rfl) ?_
      refine lv_lshr (v := (v28 >>> ((v25 : Int32).toInt64 &&& 63))) hx hb d_M_shift_45 rfl ?_
      refine lv_topl (fun v30 hv30 => ?_)
      refine lv_lstore_n (lv' := [(2, .long v30), (1, .int v25), (0, .ref p0)]) hx hb d_M_shift_46 rfl hl (by decide) rfl (fun ls hl => ?_)
      refine lv_aload_n hx hb d_M_shift_47 rfl (lv_at hl 2 rfl) ?_
      refine lv_iconst (v := 0) hx hb d_M_shift_48 (by decide) ?_
      refine lv_aload_n hx hb d_M_shift_49 rfl (lv_at hl 2 rfl) ?_
      refine lv_iconst (v := 0) hx hb d_M_shift_50 (by decide) ?_
      refine sn_i (va_runV (C := "SignMachine$Machine") (As := [.int (0 : Int32)]) (rest := [.int (0 : Int32), .ref p0]) ⟨hx, hb, hml, hown, hk⟩ (c_M_register_s5 l K D cI cJ cZ cB p0 p1 p2 p3 p4 p5 p6 H.size x0_4 x0_5 x0_6 x0_7 x0_8 x0_9 x0_10 x0_11 x0_12 x0_13 y1 y2 x3_0 x4_0 y5 y6  (0 : Int32) ) (v_M_register_s5 hk k_273 ⟨Nat.le_of_ble_eq_true rfl, Nat.le_of_ble_eq_true rfl⟩) (pMC_v hK hP hD hC hS hA (ci := 1) (q0 := 0) rfl rfl rfl) rfl rfl hl.1 rfl (lv_room (Nat.le_of_ble_eq_true rfl)) d_M_shift_51 ⟨by decide, by decide⟩) hS hA hD (fun rz31 u t H locs hr0 ht hB hFr hS => ?_)
      obtain ⟨hP, hD⟩ := hB
      rw [ht] at hP
      have hD := dwk hD hFr
      clear ht hFr
      have hP : va_P D classes (wS62 cI cJ cZ cB p0 p1 p2 p3 p4 p5 p6 x0_4 x0_5 x0_6 x0_7 x0_8 x0_9 x0_10 x0_11 x0_12 x0_13 y1 y2 x3_0 x4_0 y5 y6) H := hP
      have hD : va_D A (wS62 cI cJ cZ cB p0 p1 p2 p3 p4 p5 p6 x0_4 x0_5 x0_6 x0_7 x0_8 x0_9 x0_10 x0_11 x0_12 x0_13 y1 y2 x3_0 x4_0 y5 y6) := hD
      refine cs_i (W.runS (As := [.int rz31]) (rest := [.int (0 : Int32), .ref p0]) ⟨hx, hb, hml, hown, hk⟩ (c_W_sign l rz31) (s_W_sign hk k_269 ⟨Nat.le_of_ble_eq_true rfl, Nat.le_of_ble_eq_true rfl⟩) ⟨fun a U g mk q => q, fun U hU hW => ⟨rfl, trivial⟩⟩ rfl rfl hl.1 rfl (lv_room (Nat.le_of_ble_eq_true rfl)) d_M_shift_54 ⟨Nat.le_of_ble_eq_true rfl, Nat.le_of_ble_eq_true rfl⟩) ?_
      refine lv_topi (fun v32 hv32 => ?_)
      refine lv_lload_n hx hb d_M_shift_57 rfl (lv_at hl 0 rfl) ?_
      refine lv_l2i (v := (v30 : Int64).toInt32) hx hb d_M_shift_58 rfl ?_
      refine lv_topi (fun v33 hv33 => ?_)
      refine lv_ldc (v := 1073741823) hx hb hown (hk _ k_345) d_M_shift_59 ?_
      refine lv_iand hx hb d_M_shift_61 ?_
      refine lv_topi (fun v34 hv34 => ?_)
      refine cs_i (W.runS (As := [.int v32, .int v34]) (rest := [.int (0 : Int32), .ref p0]) ⟨hx, hb, hml, hown, hk⟩ (c_W_make l v32 v34) (s_W_make hk k_370 ⟨Nat.le_of_ble_eq_true rfl, Nat.le_of_ble_eq_true rfl⟩) ⟨fun a U g mk q => q, fun U hU hW => ⟨rfl, trivial⟩⟩ rfl rfl hl.1 rfl (lv_room (Nat.le_of_ble_eq_true rfl)) d_M_shift_62 ⟨Nat.le_of_ble_eq_true rfl, Nat.le_of_ble_eq_true rfl⟩) ?_
      refine lv_topi (fun v35 hv35 => ?_)
      refine kn_v (va_runV (C := "SignMachine$Machine") (As := [.int (0 : Int32), .int v35]) (rest := []) ⟨hx, hb, hml, hown, hk⟩ (c_M_putRegister_s4 l K D cI cJ cZ cB p0 p1 p2 p3 p4 p5 p6 H.size x0_4 x0_5 x0_6 x0_7 x0_8 x0_9 x0_10 x0_11 x0_12 x0_13 y1 y2 x3_0 x4_0 y5 y6  (0 : Int32) v35 ) (v_M_putRegister_s4 hk k_362 ⟨Nat.le_of_ble_eq_true rfl, Nat.le_of_ble_eq_true rfl⟩) (pMC_v hK hP hD hC hS hA (ci := 1) (q0 := 0) rfl rfl rfl) rfl rfl hl.1 rfl (lv_room (Nat.le_of_ble_eq_true rfl)) d_M_shift_65 ⟨by decide, by decide⟩) hS hA hD (fun u t H locs ht hB hFr hS => ?_)
      obtain ⟨y2z36, hP, hD⟩ := hB
      rw [ht] at hP
      have hD := dwk hD hFr
      clear ht hFr
      have hP : va_P D classes (wS62 cI cJ cZ cB p0 p1 p2 p3 p4 p5 p6 x0_4 x0_5 x0_6 x0_7 x0_8 x0_9 x0_10 x0_11 x0_12 x0_13 y1 y2z36 x3_0 x4_0 y5 y6) H := hP
      have hD : va_D A (wS62 cI cJ cZ cB p0 p1 p2 p3 p4 p5 p6 x0_4 x0_5 x0_6 x0_7 x0_8 x0_9 x0_10 x0_11 x0_12 x0_13 y1 y2z36 x3_0 x4_0 y5 y6) := hD
      exact W.vret hx hb hr (fun t ht hW => ⟨⟨(), rfl, trivial, ⟨y2z36, by show va_P D classes _ t.heap; rw [ht]; exact hP, hD⟩⟩, hS.F ht⟩) hS.2.2 d_M_shift_68
    · refine lv_lload_n hx hb d_M_shift_37 rfl (lv_at hl 0 rfl) ?_
      refine lv_iload_n hx hb d_M_shift_38 rfl (lv_at hl 1 rfl) ?_
      refine lv_lshl (v := (v28 <<< ((v25 : Int32).toInt64 &&& 63))) hx hb d_M_shift_39 rfl ?_
      refine lv_topl (fun v37 hv37 => ?_)
      refine lv_goto (tgt := 46) hx hb d_M_shift_40 (by decide) ?_
      refine lv_lstore_n (lv' := [(2, .long v37), (1, .int v25), (0, .ref p0)]) hx hb d_M_shift_46 rfl hl (by decide) rfl (fun ls hl => ?_)
      refine lv_aload_n hx hb d_M_shift_47 rfl (lv_at hl 2 rfl) ?_
      refine lv_iconst (v := 0) hx hb d_M_shift_48 (by decide) ?_
      refine lv_aload_n hx hb d_M_shift_49 rfl (lv_at hl 2 rfl) ?_
      refine lv_iconst (v := 0) hx hb d_M_shift_50 (by decide) ?_
      refine sn_i (va_runV (C := "SignMachine$Machine") (As := [.int (0 : Int32)]) (rest := [.int (0 : Int32), .ref p0]) ⟨hx, hb, hml, hown, hk⟩ (c_M_register_s5 l K D cI cJ cZ cB p0 p1 p2 p3 p4 p5 p6 H.size x0_4 x0_5 x0_6 x0_7 x0_8 x0_9 x0_10 x0_11 x0_12 x0_13 y1 y2 x3_0 x4_0 y5 y6  (0 : Int32) ) (v_M_register_s5 hk k_273 ⟨Nat.le_of_ble_eq_true rfl, Nat.le_of_ble_eq_true rfl⟩) (pMC_v hK hP hD hC hS hA (ci := 1) (q0 := 0) rfl rfl rfl) rfl rfl hl.1 rfl (lv_room (Nat.le_of_ble_eq_true rfl)) d_M_shift_51 ⟨by decide, by decide⟩) hS hA hD (fun rz38 u t H locs hr0 ht hB hFr hS => ?_)
      obtain ⟨hP, hD⟩ := hB
      rw [ht] at hP
      have hD := dwk hD hFr
      clear ht hFr
      have hP : va_P D classes (wS62 cI cJ cZ cB p0 p1 p2 p3 p4 p5 p6 x0_4 x0_5 x0_6 x0_7 x0_8 x0_9 x0_10 x0_11 x0_12 x0_13 y1 y2 x3_0 x4_0 y5 y6) H := hP
      have hD : va_D A (wS62 cI cJ cZ cB p0 p1 p2 p3 p4 p5 p6 x0_4 x0_5 x0_6 x0_7 x0_8 x0_9 x0_10 x0_11 x0_12 x0_13 y1 y2 x3_0 x4_0 y5 y6) := hD
      refine cs_i (W.runS (As := [.int rz38]) (rest := [.int (0 : Int32), .ref p0]) ⟨hx, hb, hml, hown, hk⟩ (c_W_sign l rz38) (s_W_sign hk k_269 ⟨Nat.le_of_ble_eq_true rfl, Nat.le_of_ble_eq_true rfl⟩) ⟨fun a U g mk q => q, fun U hU hW => ⟨rfl, trivial⟩⟩ rfl rfl hl.1 rfl (lv_room (Nat.le_of_ble_eq_true rfl)) d_M_shift_54 ⟨Nat.le_of_ble_eq_true rfl, Nat.le_of_ble_eq_true rfl⟩) ?_
      refine lv_topi (fun v39 hv39 => ?_)
      refine lv_lload_n hx hb d_M_shift_57 rfl (lv_at hl 0 rfl) ?_
      refine lv_l2i (v := (v37 : Int64).toInt32) hx hb d_M_shift_58 rfl ?_
      refine lv_topi (fun v40 hv40 => ?_)
      refine lv_ldc (v := 1073741823) hx hb hown (hk _ k_345) d_M_shift_59 ?_
      refine lv_iand hx hb d_M_shift_61 ?_
      refine lv_topi (fun v41 hv41 => ?_)
      refine cs_i (W.runS (As := [.int v39, .int v41]) (rest := [.int (0 : Int32), .ref p0]) ⟨hx, hb, hml, hown, hk⟩ (c_W_make l v39 v41) (s_W_make hk k_370 ⟨Nat.le_of_ble_eq_true rfl, Nat.le_of_ble_eq_true rfl⟩) ⟨fun a U g mk q => q, fun U hU hW => ⟨rfl, trivial⟩⟩ rfl rfl hl.1 rfl (lv_room (Nat.le_of_ble_eq_true rfl)) d_M_shift_62 ⟨Nat.le_of_ble_eq_true rfl, Nat.le_of_ble_eq_true rfl⟩) ?_
      refine lv_topi (fun v42 hv42 => ?_)
      refine kn_v (va_runV (C := "SignMachine$Machine") (As := [.int (0 : Int32), .int v42]) (rest := []) ⟨hx, hb, hml, hown, hk⟩ (c_M_putRegister_s4 l K D cI cJ cZ cB p0 p1 p2 p3 p4 p5 p6 H.size x0_4 x0_5 x0_6 x0_7 x0_8 x0_9 x0_10 x0_11 x0_12 x0_13 y1 y2 x3_0 x4_0 y5 y6  (0 : Int32) v42 ) (v_M_putRegister_s4 hk k_362 ⟨Nat.le_of_ble_eq_true rfl, Nat.le_of_ble_eq_true rfl⟩) (pMC_v hK hP hD hC hS hA (ci := 1) (q0 := 0) rfl rfl rfl) rfl rfl hl.1 rfl (lv_room (Nat.le_of_ble_eq_true rfl)) d_M_shift_65 ⟨by decide, by decide⟩) hS hA hD (fun u t H locs ht hB hFr hS => ?_)
      obtain ⟨y2z43, hP, hD⟩ := hB
      rw [ht] at hP
      have hD := dwk hD hFr
      clear ht hFr
      have hP : va_P D classes (wS62 cI cJ cZ cB p0 p1 p2 p3 p4 p5 p6 x0_4 x0_5 x0_6 x0_7 x0_8 x0_9 x0_10 x0_11 x0_12 x0_13 y1 y2z43 x3_0 x4_0 y5 y6) H := hP
      have hD : va_D A (wS62 cI cJ cZ cB p0 p1 p2 p3 p4 p5 p6 x0_4 x0_5 x0_6 x0_7 x0_8 x0_9 x0_10 x0_11 x0_12 x0_13 y1 y2z43 x3_0 x4_0 y5 y6) := hD
      exact W.vret hx hb hr (fun t ht hW => ⟨⟨(), rfl, trivial, ⟨y2z43, by show va_P D classes _ t.heap; rw [ht]; exact hP, hD⟩⟩, hS.F ht⟩) hS.2.2 d_M_shift_68
theorem v_M_shift_s4 {R : Room} {s : State} {args : Array Value} {own : String} {index : Nat} (hk : ∀ w ∈ tb, w.before args s = true) (hl : Cond.methodLink own index y_M_shift ∈ tb) (hR : 2 + 1 ≤ R.frames ∧ 8 + (5 + 11) + 46 ≤ R.locals) : CallW R s args own "SignMachine$Machine" index y_M_shift b_M_shift 5 none (.code y_M_shift b_M_shift 5 none :: tb) ({ frames := 2, cells := 0, slots := 0, locals := 46 }) 0 0 0 := mk_v 0 hk k_402 hl k_401 k_21 k_117 rfl rfl h_M_shift hR
set_option maxHeartbeats 4000000 in
set_option maxRecDepth 100000 in
theorem c_M_putWord_s4 (l : Launch) (K : CK) (D : va_G) (cI cJ cZ cB : ClassId) (p0 p1 p2 p3 p4 p5 p6 : Nat) (sz : Nat) (x0_4 : Bool) (x0_5 : Int32) (x0_6 : Int32) (x0_7 : Int32) (x0_8 : Int32) (x0_9 : Int32) (x0_10 : Int32) (x0_11 : Int32) (x0_12 : Int32) (x0_13 : Int32) (y1 : Nat → Int32) (y2 : Nat → Int32) (x3_0 : Int32) (x4_0 : Int32) (y5 : Nat → Int32) (y6 : Nat → Int32)  (a1 : Int32) (a2 : Int32) : Met l y_M_putWord (.code y_M_putWord b_M_putWord 3 none :: tb) ({ frames := 0, cells := 0, slots := 0, locals := 0 }) (pMC K D cI cJ cZ cB (wS62 cI cJ cZ cB p0 p1 p2 p3 p4 p5 p6 x0_4 x0_5 x0_6 x0_7 x0_8 x0_9 x0_10 x0_11 x0_12 x0_13 y1 y2 x3_0 x4_0 y5 y6) sz [.ref p0, .int a1, .int a2]) (va_Qv (fun (_ : Unit) => True) (fun _ t => (∃ u_y1 : Nat → Int32, va_P D classes (wS62 cI cJ cZ cB p0 p1 p2 p3 p4 p5 p6 x0_4 x0_5 x0_6 x0_7 x0_8 x0_9 x0_10 x0_11 x0_12 x0_13 u_y1 y2 x3_0 x4_0 y5 y6) t.heap ∧ va_D (va_A (wS62 cI cJ cZ cB p0 p1 p2 p3 p4 p5 p6 x0_4 x0_5 x0_6 x0_7 x0_8 x0_9 x0_10 x0_11 x0_12 x0_13 y1 y2 x3_0 x4_0 y5 y6) sz) (wS62 cI cJ cZ cB p0 p1 p2 p3 p4 p5 p6 x0_4 x0_5 x0_6 x0_7 x0_8 x0_9 x0_10 x0_11 x0_12 x0_13 u_y1 y2 x3_0 x4_0 y5 y6))) (va_A (wS62 cI cJ cZ cB p0 p1 p2 p3 p4 p5 p6 x0_4 x0_5 x0_6 x0_7 x0_8 x0_9 x0_10 x0_11 x0_12 x0_13 y1 y2 x3_0 x4_0 y5 y6) sz)) 0 0 (va_A (wS62 cI cJ cZ cB p0 p1 p2 p3 p4 p5 p6 x0_4 x0_5 x0_6 x0_7 x0_8 x0_9 x0_10 x0_11 x0_12 x0_13 y1 y2 x3_0 x4_0 y5 y6) sz) := by
  refine Met.ofW (cc := b_M_putWord) (maxL := 3) (ret := none) (by decide) rfl ?_
  intro p e s m args below meth c s₁ B hml hv
  obtain ⟨rfl, hsz, hK, hP, hD0, hC⟩ := hv
  subst hsz
  have hD := hD0.self (sz := s.heap.size)
  generalize hAe : va_A (wS62 cI cJ cZ cB p0 p1 p2 p3 p4 p5 p6 x0_4 x0_5 x0_6 x0_7 x0_8 x0_9 x0_10 x0_11 x0_12 x0_13 y1 y2 x3_0 x4_0 y5 y6) s.heap.size = A at hD hC ⊢
  have hA : ∀ q : Nat, s.heap.size ≤ q → A q := fun q h => by rw [← hAe]; exact Or.inr h
  clear hAe hD0
  have hS : va_S A s.heap s.heap [] := va_S.rf
  have hx := B.exec
  have hb := B.bytes
  have hr := B.returns
  have hts := atoms_spec (ws := .code y_M_putWord b_M_putWord 3 none :: tb) B.pre
  have hk : ∀ w ∈ tb, w.before [.ref p0, .int a1, .int a2].toArray s = true := fun w h => hts w (List.mem_cons_of_mem _ h)
  have hown : s.vm.findClass "SignMachine$Machine" = some m.cls := findClass_of_methodNamed B.named
  have hlocks := B.notSynchronized
  have hl := lv_entry ([.ref p0, .int a1, .int a2]) (n := 3) (Nat.le_of_ble_eq_true rfl)
  rw [lg_entry_eq]
  generalize (lg_sl ([.ref p0, .int a1, .int a2]) ++ List.replicate (3 - (lg_sl ([.ref p0, .int a1, .int a2])).length) Slot.unset).toArray = ls at hl ⊢
  have hl : lv_has ls 3 [(0, .ref p0), (1, .int a1), (2, .int a2)] := hl
  refine lv_iload_n hx hb d_M_putWord_0 rfl (lv_at hl 1 rfl) ?_
  refine lv_if_lt (tgt := 18) hx hb d_M_putWord_1 (by decide) (fun c1 => ?_) (fun c1 => ?_)
  · exact W.vret hx hb hr (fun t ht hW => ⟨⟨(), rfl, trivial, ⟨y1, by show va_P D classes _ t.heap; rw [ht]; exact hP, hD⟩⟩, hS.F ht⟩) hS.2.2 d_M_putWord_18
  · refine lv_iload_n hx hb d_M_putWord_4 rfl (lv_at hl 1 rfl) ?_
    refine lv_sipush (v := 4000) hx hb d_M_putWord_5 (by decide) ?_
    refine lv_icmp_ge (tgt := 18) hx hb d_M_putWord_8 (by decide) (fun c2 => ?_) (fun c2 => ?_)
    · exact W.vret hx hb hr (fun t ht hW => ⟨⟨(), rfl, trivial, ⟨y1, by show va_P D classes _ t.heap; rw [ht]; exact hP, hD⟩⟩, hS.F ht⟩) hS.2.2 d_M_putWord_18
    · refine lv_aload_n hx hb d_M_putWord_11 rfl (lv_at hl 0 rfl) ?_
      refine va_get (D := D) (ci := 1) (v := .ref p1) (C := "SignMachine$Machine") (T := F_M) (N := 14) hx hb hk fi_M hown hK.1 hP 0 rfl rfl 0 (by decide) (hk _ k_163) (fun _ h9 => h9) rfl d_M_putWord_12 ?_
      refine lv_iload_n hx hb d_M_putWord_15 rfl (lv_at hl 1 rfl) ?_
      refine lv_iload_n hx hb d_M_putWord_16 rfl (lv_at hl 2 rfl) ?_
      refine va_iast hx hb hK.1 hP hD hS 1 0 rfl rfl (vpin c1 c2 rfl) d_M_putWord_17 (fun H locs hP hD hS => ?_)
      have hP : va_P D classes (wS62 cI cJ cZ cB p0 p1 p2 p3 p4 p5 p6 x0_4 x0_5 x0_6 x0_7 x0_8 x0_9 x0_10 x0_11 x0_12 x0_13 (upd y1 (a1).toNatClampNeg a2) y2 x3_0 x4_0 y5 y6) H := hP
      have hD : va_D A (wS62 cI cJ cZ cB p0 p1 p2 p3 p4 p5 p6 x0_4 x0_5 x0_6 x0_7 x0_8 x0_9 x0_10 x0_11 x0_12 x0_13 (upd y1 (a1).toNatClampNeg a2) y2 x3_0 x4_0 y5 y6) := hD
      obtain ⟨v3, hv3⟩ : ∃ y : Nat → Int32, y = (upd y1 (a1).toNatClampNeg a2) := ⟨_, rfl⟩
      rw [← hv3] at hP hD
      clear hv3
      exact W.vret hx hb hr (fun t ht hW => ⟨⟨(), rfl, trivial, ⟨v3, by show va_P D classes _ t.heap; rw [ht]; exact hP, hD⟩⟩, hS.F ht⟩) hS.2.2 d_M_putWord_18
theorem v_M_putWord_s4 {R : Room} {s : State} {args : Array Value} {own : String} {index : Nat} (hk : ∀ w ∈ tb, w.before args s = true) (hl : Cond.methodLink own index y_M_putWord ∈ tb) (hR : 0 + 1 ≤ R.frames ∧ 8 + (3 + 11) + 0 ≤ R.locals) : CallW R s args own "SignMachine$Machine" index y_M_putWord b_M_putWord 3 none (.code y_M_putWord b_M_putWord 3 none :: tb) ({ frames := 0, cells := 0, slots := 0, locals := 0 }) 0 0 2 := mk_v 2 hk k_235 hl k_233 k_234 k_117 rfl rfl h_M_putWord hR
set_option maxHeartbeats 4000000 in
set_option maxRecDepth 100000 in
theorem c_M_moveWords_s4 (l : Launch) (K : CK) (D : va_G) (cI cJ cZ cB : ClassId) (p0 p1 p2 p3 p4 p5 p6 : Nat) (sz : Nat) (x0_4 : Bool) (x0_5 : Int32) (x0_6 : Int32) (x0_7 : Int32) (x0_8 : Int32) (x0_9 : Int32) (x0_10 : Int32) (x0_11 : Int32) (x0_12 : Int32) (x0_13 : Int32) (y1 : Nat → Int32) (y2 : Nat → Int32) (x3_0 : Int32) (x4_0 : Int32) (y5 : Nat → Int32) (y6 : Nat → Int32)   : Met l y_M_moveWords (.code y_M_moveWords b_M_moveWords 3 none :: tb) ({ frames := 3, cells := 0, slots := 0, locals := 66 }) (pMC K D cI cJ cZ cB (wS62 cI cJ cZ cB p0 p1 p2 p3 p4 p5 p6 x0_4 x0_5 x0_6 x0_7 x0_8 x0_9 x0_10 x0_11 x0_12 x0_13 y1 y2 x3_0 x4_0 y5 y6) sz [.ref p0]) (va_Qv (fun (_ : Unit) => True) (fun _ t => (∃ u_x0_4 : Bool, ∃ u_y1 : Nat → Int32, ∃ u_y2 : Nat → Int32, va_P D classes (wS62 cI cJ cZ cB p0 p1 p2 p3 p4 p5 p6 u_x0_4 x0_5 x0_6 x0_7 x0_8 x0_9 x0_10 x0_11 x0_12 x0_13 u_y1 u_y2 x3_0 x4_0 y5 y6) t.heap ∧ va_D (va_A (wS62 cI cJ cZ cB p0 p1 p2 p3 p4 p5 p6 x0_4 x0_5 x0_6 x0_7 x0_8 x0_9 x0_10 x0_11 x0_12 x0_13 y1 y2 x3_0 x4_0 y5 y6) sz) (wS62 cI cJ cZ cB p0 p1 p2 p3 p4 p5 p6 u_x0_4 x0_5 x0_6 x0_7 x0_8 x0_9 x0_10 x0_11 x0_12 x0_13 u_y1 u_y2 x3_0 x4_0 y5 y6))) (va_A (wS62 cI cJ cZ cB p0 p1 p2 p3 p4 p5 p6 x0_4 x0_5 x0_6 x0_7 x0_8 x0_9 x0_10 x0_11 x0_12 x0_13 y1 y2 x3_0 x4_0 y5 y6) sz)) 0 0 (va_A (wS62 cI cJ cZ cB p0 p1 p2 p3 p4 p5 p6 x0_4 x0_5 x0_6 x0_7 x0_8 x0_9 x0_10 x0_11 x0_12 x0_13 y1 y2 x3_0 x4_0 y5 y6) sz) := by
  refine Met.ofW (cc := b_M_moveWords) (maxL := 3) (ret := none) (by decide) rfl ?_
  intro p e s m args below meth c s₁ B hml hv
  obtain ⟨rfl, hsz, hK, hP, hD0, hC⟩ := hv
  subst hsz
  have hD := hD0.self (sz := s.heap.size)
  generalize hAe : va_A (wS62 cI cJ cZ cB p0 p1 p2 p3 p4 p5 p6 x0_4 x0_5 x0_6 x0_7 x0_8 x0_9 x0_10 x0_11 x0_12 x0_13 y1 y2 x3_0 x4_0 y5 y6) s.heap.size = A at hD hC ⊢
  have hA : ∀ q : Nat, s.heap.size ≤ q → A q := fun q h => by rw [← hAe]; exact Or.inr h
  clear hAe hD0
  have hS : va_S A s.heap s.heap [] := va_S.rf
  have hx := B.exec
  have hb := B.bytes
  have hr := B.returns
  have hts := atoms_spec (ws := .code y_M_moveWords b_M_moveWords 3 none :: tb) B.pre
  have hk : ∀ w ∈ tb, w.before [.ref p0].toArray s = true := fun w h => hts w (List.mem_cons_of_mem _ h)
  have hown : s.vm.findClass "SignMachine$Machine" = some m.cls := findClass_of_methodNamed B.named
  have hlocks := B.notSynchronized
  have hl := lv_entry ([.ref p0]) (n := 3) (Nat.le_of_ble_eq_true rfl)
  rw [lg_entry_eq]
  generalize (lg_sl ([.ref p0]) ++ List.replicate (3 - (lg_sl ([.ref p0])).length) Slot.unset).toArray = ls at hl ⊢
  have hl : lv_has ls 3 [(0, .ref p0)] := hl
  refine lv_aload_n hx hb d_M_moveWords_0 rfl (lv_at hl 0 rfl) ?_
  refine lv_iconst (v := 1) hx hb d_M_moveWords_1 (by decide) ?_
  refine sn_i (va_runV (C := "SignMachine$Machine") (As := [.int (1 : Int32)]) (rest := []) ⟨hx, hb, hml, hown, hk⟩ (c_M_register_s5 l K D cI cJ cZ cB p0 p1 p2 p3 p4 p5 p6 s.heap.size x0_4 x0_5 x0_6 x0_7 x0_8 x0_9 x0_10 x0_11 x0_12 x0_13 y1 y2 x3_0 x4_0 y5 y6  (1 : Int32) ) (v_M_register_s5 hk k_273 ⟨Nat.le_of_ble_eq_true rfl, Nat.le_of_ble_eq_true rfl⟩) (pMC_v hK hP hD hC hS hA (ci := 1) (q0 := 0) rfl rfl rfl) rfl rfl hl.1 rfl (lv_room (Nat.le_of_ble_eq_true rfl)) d_M_moveWords_2 ⟨by decide, by decide⟩) hS hA hD (fun rz1 u t H locs hr0 ht hB hFr hS => ?_)
  obtain ⟨hP, hD⟩ := hB
  rw [ht] at hP
  have hD := dwk hD hFr
  clear ht hFr
  have hP : va_P D classes (wS62 cI cJ cZ cB p0 p1 p2 p3 p4 p5 p6 x0_4 x0_5 x0_6 x0_7 x0_8 x0_9 x0_10 x0_11 x0_12 x0_13 y1 y2 x3_0 x4_0 y5 y6) H := hP
  have hD : va_D A (wS62 cI cJ cZ cB p0 p1 p2 p3 p4 p5 p6 x0_4 x0_5 x0_6 x0_7 x0_8 x0_9 x0_10 x0_11 x0_12 x0_13 y1 y2 x3_0 x4_0 y5 y6) := hD
  refine cs_i (W.runS (As := [.int rz1]) (rest := []) ⟨hx, hb, hml, hown, hk⟩ (c_W_number l rz1) (s_W_number hk k_277 ⟨Nat.le_of_ble_eq_true rfl, Nat.le_of_ble_eq_true rfl⟩) ⟨fun a U g mk q => q, fun U hU hW => ⟨rfl, trivial⟩⟩ rfl rfl hl.1 rfl (lv_room (Nat.le_of_ble_eq_true rfl)) d_M_moveWords_5 ⟨Nat.le_of_ble_eq_true rfl, Nat.le_of_ble_eq_true rfl⟩) ?_
  refine lv_topi (fun v2 hv2 => ?_)
  refine lv_istore_n (lv' := [(1, .int v2), (0, .ref p0)]) hx hb d_M_moveWords_8 rfl hl (by decide) rfl (fun ls hl => ?_)
  refine lv_iconst (v := 0) hx hb d_M_moveWords_9 (by decide) ?_
  refine lv_istore_n (lv' := [(2, .int (0 : Int32)), (1, .int v2), (0, .ref p0)]) hx hb d_M_moveWords_10 rfl hl (by decide) rfl (fun ls hl => ?_)
  have LP11_62 : ∀ (n : Nat) (l2 : Int32) (x0_4 : Bool) (y1 : Nat → Int32) (y2 : Nat → Int32) (H : Heap) (locs : List Loc) (ls : Array Slot), ((x0_10).toInt - (l2).toInt).toNat < n → ¬ l2 < (0 : Int32) → va_P D classes (wS62 cI cJ cZ cB p0 p1 p2 p3 p4 p5 p6 x0_4 x0_5 x0_6 x0_7 x0_8 x0_9 x0_10 x0_11 x0_12 x0_13 y1 y2 x3_0 x4_0 y5 y6) H → va_D A (wS62 cI cJ cZ cB p0 p1 p2 p3 p4 p5 p6 x0_4 x0_5 x0_6 x0_7 x0_8 x0_9 x0_10 x0_11 x0_12 x0_13 y1 y2 x3_0 x4_0 y5 y6) → va_S A s.heap H locs → lv_has ls 3 [(2, .int l2), (1, .int v2), (0, .ref p0)] → W p l e ({ frames := 3, cells := 0, slots := 0, locals := 66 }) s m [.ref p0].toArray below meth c H locs 0 0 (MQ below (va_Qv (fun (_ : Unit) => True) (fun _ t => (∃ u_x0_4 : Bool, ∃ u_y1 : Nat → Int32, ∃ u_y2 : Nat → Int32, va_P D classes (wS62 cI cJ cZ cB p0 p1 p2 p3 p4 p5 p6 u_x0_4 x0_5 x0_6 x0_7 x0_8 x0_9 x0_10 x0_11 x0_12 x0_13 u_y1 u_y2 x3_0 x4_0 y5 y6) t.heap ∧ va_D A (wS62 cI cJ cZ cB p0 p1 p2 p3 p4 p5 p6 u_x0_4 x0_5 x0_6 x0_7 x0_8 x0_9 x0_10 x0_11 x0_12 x0_13 u_y1 u_y2 x3_0 x4_0 y5 y6))) A) [.ref p0].toArray s 0 0 A) (F0 m 11 ls []) := by
    intro n
    induction n with
    | zero => intro l2 x0_4 y1 y2 H locs ls hn; exact absurd hn (Nat.not_lt_zero _)
    | succ n ih =>
      intro l2 x0_4 y1 y2 H locs ls hn11_62 hc11_62 hP hD hS hl
      refine lv_iload_n hx hb d_M_moveWords_11 rfl (lv_at hl 0 rfl) ?_
      refine lv_aload_n hx hb d_M_moveWords_12 rfl (lv_at hl 2 rfl) ?_
      refine va_get (D := D) (ci := 1) (v := .int x0_10) (C := "SignMachine$Machine") (T := F_M) (N := 14) hx hb hk fi_M hown hK.1 hP 0 rfl rfl 10 (by decide) (hk _ k_177) (fun _ h9 => h9) rfl d_M_moveWords_13 ?_
      refine lv_icmp_ge (tgt := 42) hx hb d_M_moveWords_16 (by decide) (fun c3 => ?_) (fun c3 => ?_)
      · refine lv_aload_n hx hb d_M_moveWords_42 rfl (lv_at hl 2 rfl) ?_
        refine lv_iconst (v := 1) hx hb d_M_moveWords_43 (by decide) ?_
        refine lv_aload_n hx hb d_M_moveWords_44 rfl (lv_at hl 2 rfl) ?_
        refine va_get (D := D) (ci := 1) (v := .int x0_10) (C := "SignMachine$Machine") (T := F_M) (N := 14) hx hb hk fi_M hown hK.1 hP 0 rfl rfl 10 (by decide) (hk _ k_177) (fun _ h9 => h9) rfl d_M_moveWords_45 ?_
        refine kn_v (va_runV (C := "SignMachine$Machine") (As := [.int (1 : Int32), .int x0_10]) (rest := []) ⟨hx, hb, hml, hown, hk⟩ (c_M_addTo_s4 l K D cI cJ cZ cB p0 p1 p2 p3 p4 p5 p6 H.size x0_4 x0_5 x0_6 x0_7 x0_8 x0_9 x0_10 x0_11 x0_12 x0_13 y1 y2 x3_0 x4_0 y5 y6  (1 : Int32) x0_10 ) (v_M_addTo_s4 hk k_354 ⟨Nat.le_of_ble_eq_true rfl, Nat.le_of_ble_eq_true rfl⟩) (pMC_v hK hP hD hC hS hA (ci := 1) (q0 := 0) rfl rfl rfl) rfl rfl hl.1 rfl (lv_room (Nat.le_of_ble_eq_true rfl)) d_M_moveWords_48 ⟨by decide, by decide⟩) hS hA hD (fun u t H locs ht hB hFr hS => ?_)
        obtain ⟨x0_4z4, y2z4, hP, hD⟩ := hB
        rw [ht] at hP
        have hD := dwk hD hFr
        clear ht hFr
        have hP : va_P D classes (wS62 cI cJ cZ cB p0 p1 p2 p3 p4 p5 p6 x0_4z4 x0_5 x0_6 x0_7 x0_8 x0_9 x0_10 x0_11 x0_12 x0_13 y1 y2z4 x3_0 x4_0 y5 y6) H := hP
        have hD : va_D A (wS62 cI cJ cZ cB p0 p1 p2 p3 p4 p5 p6 x0_4z4 x0_5 x0_6 x0_7 x0_8 x0_9 x0_10 x0_11 x0_12 x0_13 y1 y2z4 x3_0 x4_0 y5 y6) := hD
        exact W.vret hx hb hr (fun t ht hW => ⟨⟨(), rfl, trivial, ⟨x0_4z4, y1, y2z4, by show va_P D classes _ t.heap; rw [ht]; exact hP, hD⟩⟩, hS.F ht⟩) hS.2.2 d_M_moveWords_51
      · refine lv_aload_n hx hb d_M_moveWords_19 rfl (lv_at hl 2 rfl) ?_
        refine lv_iload_n hx hb d_M_moveWords_20 rfl (lv_at hl 1 rfl) ?_
        refine lv_iload_n hx hb d_M_moveWords_21 rfl (lv_at hl 0 rfl) ?_
        refine lv_iadd hx hb d_M_moveWords_22 ?_
        refine lv_topi (fun v5 hv5 => ?_)
        refine lv_aload_n hx hb d_M_moveWords_23 rfl (lv_at hl 2 rfl) ?_
        refine lv_aload_n hx hb d_M_moveWords_24 rfl (lv_at hl 2 rfl) ?_
        refine va_get (D := D) (ci := 1) (v := .int x0_12) (C := "SignMachine$Machine") (T := F_M) (N := 14) hx hb hk fi_M hown hK.1 hP 0 rfl rfl 12 (by decide) (hk _ k_179) (fun _ h9 => h9) rfl d_M_moveWords_25 ?_
        refine lv_iload_n hx hb d_M_moveWords_28 rfl (lv_at hl 0 rfl) ?_
        refine lv_iadd hx hb d_M_moveWords_29 ?_
        refine lv_topi (fun v6 hv6 => ?_)
        refine sn_i (va_runV (C := "SignMachine$Machine") (As := [.int v6]) (rest := [.int v5, .ref p0]) ⟨hx, hb, hml, hown, hk⟩ (c_M_wordAt_s5 l K D cI cJ cZ cB p0 p1 p2 p3 p4 p5 p6 H.size x0_4 x0_5 x0_6 x0_7 x0_8 x0_9 x0_10 x0_11 x0_12 x0_13 y1 y2 x3_0 x4_0 y5 y6  v6 ) (v_M_wordAt_s5 hk k_263 ⟨Nat.le_of_ble_eq_true rfl, Nat.le_of_ble_eq_true rfl⟩) (pMC_v hK hP hD hC hS hA (ci := 1) (q0 := 0) rfl rfl rfl) rfl rfl hl.1 rfl (lv_room (Nat.le_of_ble_eq_true rfl)) d_M_moveWords_30 ⟨by decide, by decide⟩) hS hA hD (fun rz7 u t H locs hr0 ht hB hFr hS => ?_)
        have hrz7 := hr0
        obtain ⟨hP, hD⟩ := hB
        rw [ht] at hP
        have hD := dwk hD hFr
        clear ht hFr
        have hP : va_P D classes (wS62 cI cJ cZ cB p0 p1 p2 p3 p4 p5 p6 x0_4 x0_5 x0_6 x0_7 x0_8 x0_9 x0_10 x0_11 x0_12 x0_13 y1 y2 x3_0 x4_0 y5 y6) H := hP
        have hD : va_D A (wS62 cI cJ cZ cB p0 p1 p2 p3 p4 p5 p6 x0_4 x0_5 x0_6 x0_7 x0_8 x0_9 x0_10 x0_11 x0_12 x0_13 y1 y2 x3_0 x4_0 y5 y6) := hD
        refine kn_v (va_runV (C := "SignMachine$Machine") (As := [.int v5, .int rz7]) (rest := []) ⟨hx, hb, hml, hown, hk⟩ (c_M_putWord_s4 l K D cI cJ cZ cB p0 p1 p2 p3 p4 p5 p6 H.size x0_4 x0_5 x0_6 x0_7 x0_8 x0_9 x0_10 x0_11 x0_12 x0_13 y1 y2 x3_0 x4_0 y5 y6  v5 rz7 ) (v_M_putWord_s4 hk k_410 ⟨Nat.le_of_ble_eq_true rfl, Nat.le_of_ble_eq_true rfl⟩) (pMC_v hK hP hD hC hS hA (ci := 1) (q0 := 0) rfl rfl rfl) rfl rfl hl.1 rfl (lv_room (Nat.le_of_ble_eq_true rfl)) d_M_moveWords_33 ⟨by decide, by decide⟩) hS hA hD (fun u t H locs ht hB hFr hS => ?_)
        obtain ⟨y1z8, hP, hD⟩ := hB
        rw [ht] at hP
        have hD := dwk hD hFr
        clear ht hFr
        have hP : va_P D classes (wS62 cI cJ cZ cB p0 p1 p2 p3 p4 p5 p6 x0_4 x0_5 x0_6 x0_7 x0_8 x0_9 x0_10 x0_11 x0_12 x0_13 y1z8 y2 x3_0 x4_0 y5 y6) H := hP
        have hD : va_D A (wS62 cI cJ cZ cB p0 p1 p2 p3 p4 p5 p6 x0_4 x0_5 x0_6 x0_7 x0_8 x0_9 x0_10 x0_11 x0_12 x0_13 y1z8 y2 x3_0 x4_0 y5 y6) := hD
        obtain ⟨v9, hv9⟩ : ∃ y : Int32, y = (l2 + (1 : Int32)) := ⟨_, rfl⟩
        refine lv_iinc (v := v9) (lv' := [(2, .int v9), (1, .int v2), (0, .ref p0)]) hx hb d_M_moveWords_36 hl (k := 0) rfl (by rw [hv9]; rfl) (by decide) rfl (fun ls hl => ?_)
        refine lv_goto (tgt := 11) hx hb d_M_moveWords_39 (by decide) ?_
        exact ih v9 x0_4 y1z8 y2 H _ ls (lpu c3 hv9 hn11_62) (lpn hc11_62 c3 hv9) hP hD hS (lv_sub hl [0, 1, 2] rfl)
  exact LP11_62 _ (0 : Int32) x0_4 y1 y2 H _ ls (Nat.lt_succ_self _) (by decide) hP hD hS hl
theorem v_M_moveWords_s4 {R : Room} {s : State} {args : Array Value} {own : String} {index : Nat} (hk : ∀ w ∈ tb, w.before args s = true) (hl : Cond.methodLink own index y_M_moveWords ∈ tb) (hR : 3 + 1 ≤ R.frames ∧ 8 + (3 + 11) + 66 ≤ R.locals) : CallW R s args own "SignMachine$Machine" index y_M_moveWords b_M_moveWords 3 none (.code y_M_moveWords b_M_moveWords 3 none :: tb) ({ frames := 3, cells := 0, slots := 0, locals := 66 }) 0 0 0 := mk_v 0 hk k_409 hl k_408 k_22 k_117 rfl rfl h_M_moveWords hR
set_option maxHeartbeats 4000000 in
set_option maxRecDepth 100000 in
theorem c_M_performLow_s4 (l : Launch) (K : CK) (D : va_G) (cI cJ cZ cB : ClassId) (p0 p1 p2 p3 p4 p5 p6 : Nat) (sz : Nat) (x0_4 : Bool) (x0_5 : Int32) (x0_6 : Int32) (x0_7 : Int32) (x0_8 : Int32) (x0_9 : Int32) (x0_10 : Int32) (x0_11 : Int32) (x0_12 : Int32) (x0_13 : Int32) (y1 : Nat → Int32) (y2 : Nat → Int32) (x3_0 : Int32) (x4_0 : Int32) (y5 : Nat → Int32) (y6 : Nat → Int32)   : Met l y_M_performLow (.code y_M_performLow b_M_performLow 1 none :: tb) ({ frames := 4, cells := 0, slots := 0, locals := 90 }) (pMC K D cI cJ cZ cB (wS62 cI cJ cZ cB p0 p1 p2 p3 p4 p5 p6 x0_4 x0_5 x0_6 x0_7 x0_8 x0_9 x0_10 x0_11 x0_12 x0_13 y1 y2 x3_0 x4_0 y5 y6) sz [.ref p0]) (va_Qv (fun (_ : Unit) => True) (fun _ t => (∃ u_x0_4 : Bool, ∃ u_y1 : Nat → Int32, ∃ u_y2 : Nat → Int32, va_P D classes (wS62 cI cJ cZ cB p0 p1 p2 p3 p4 p5 p6 u_x0_4 x0_5 x0_6 x0_7 x0_8 x0_9 x0_10 x0_11 x0_12 x0_13 u_y1 u_y2 x3_0 x4_0 y5 y6) t.heap ∧ va_D (va_A (wS62 cI cJ cZ cB p0 p1 p2 p3 p4 p5 p6 x0_4 x0_5 x0_6 x0_7 x0_8 x0_9 x0_10 x0_11 x0_12 x0_13 y1 y2 x3_0 x4_0 y5 y6) sz) (wS62 cI cJ cZ cB p0 p1 p2 p3 p4 p5 p6 u_x0_4 x0_5 x0_6 x0_7 x0_8 x0_9 x0_10 x0_11 x0_12 x0_13 u_y1 u_y2 x3_0 x4_0 y5 y6))) (va_A (wS62 cI cJ cZ cB p0 p1 p2 p3 p4 p5 p6 x0_4 x0_5 x0_6 x0_7 x0_8 x0_9 x0_10 x0_11 x0_12 x0_13 y1 y2 x3_0 x4_0 y5 y6) sz)) 0 0 (va_A (wS62 cI cJ cZ cB p0 p1 p2 p3 p4 p5 p6 x0_4 x0_5 x0_6 x0_7 x0_8 x0_9 x0_10 x0_11 x0_12 x0_13 y1 y2 x3_0 x4_0 y5 y6) sz) := by
  refine Met.ofW (cc := b_M_performLow) (maxL := 1) (ret := none) (by decide) rfl ?_
  intro p e s m args below meth c s₁ B hml hv
  obtain ⟨rfl, hsz, hK, hP, hD0, hC⟩ := hv
  subst hsz
  have hD := hD0.self (sz := s.heap.size)
  generalize hAe : va_A (wS62 cI cJ cZ cB p0 p1 p2 p3 p4 p5 p6 x0_4 x0_5 x0_6 x0_7 x0_8 x0_9 x0_10 x0_11 x0_12 x0_13 y1 y2 x3_0 x4_0 y5 y6) s.heap.size = A at hD hC ⊢
  have hA : ∀ q : Nat, s.heap.size ≤ q → A q := fun q h => by rw [← hAe]; exact Or.inr h
  clear hAe hD0
  have hS : va_S A s.heap s.heap [] := va_S.rf
  have hx := B.exec
  have hb := B.bytes
  have hr := B.returns
  have hts := atoms_spec (ws := .code y_M_performLow b_M_performLow 1 none :: tb) B.pre
  have hk : ∀ w ∈ tb, w.before [.ref p0].toArray s = true := fun w h => hts w (List.mem_cons_of_mem _ h)
  have hown : s.vm.findClass "SignMachine$Machine" = some m.cls := findClass_of_methodNamed B.named
  have hlocks := B.notSynchronized
  have hl := lv_entry ([.ref p0]) (n := 1) (Nat.le_of_ble_eq_true rfl)
  rw [lg_entry_eq]
  generalize (lg_sl ([.ref p0]) ++ List.replicate (1 - (lg_sl ([.ref p0])).length) Slot.unset).toArray = ls at hl ⊢
  have hl : lv_has ls 1 [(0, .ref p0)] := hl
  refine lv_aload_n hx hb d_M_performLow_0 rfl (lv_at hl 0 rfl) ?_
  refine va_get (D := D) (ci := 1) (v := .int x0_9) (C := "SignMachine$Machine") (T := F_M) (N := 14) hx hb hk fi_M hown hK.1 hP 0 rfl rfl 9 (by decide) (hk _ k_176) (fun _ h9 => h9) rfl d_M_performLow_1 ?_
  by_cases c1 : x0_9 = (1 : Int32)
  · refine lv_tableIn (off := 44) (tgt := 48) hx hb d_M_performLow_4 (by rw [c1]; decide) (by rw [c1]; decide) (by rw [c1]; rfl) (by decide) ?_
    refine lv_aload_n hx hb d_M_performLow_48 rfl (lv_at hl 0 rfl) ?_
    refine lv_iconst (v := 0) hx hb d_M_performLow_49 (by decide) ?_
    refine lv_aload_n hx hb d_M_performLow_50 rfl (lv_at hl 0 rfl) ?_
    refine sn_i (va_runV (C := "SignMachine$Machine") (As := []) (rest := [.int (0 : Int32), .ref p0]) ⟨hx, hb, hml, hown, hk⟩ (c_M_value_s5 l K D cI cJ cZ cB p0 p1 p2 p3 p4 p5 p6 s.heap.size x0_4 x0_5 x0_6 x0_7 x0_8 x0_9 x0_10 x0_11 x0_12 x0_13 y1 y2 x3_0 x4_0 y5 y6   ) (v_M_value_s5 hk k_310 ⟨Nat.le_of_ble_eq_true rfl, Nat.le_of_ble_eq_true rfl⟩) (pMC_v hK hP hD hC hS hA (ci := 1) (q0 := 0) rfl rfl rfl) rfl rfl hl.1 rfl (lv_room (Nat.le_of_ble_eq_true rfl)) d_M_performLow_51 ⟨by decide, by decide⟩) hS hA hD (fun rz2 u t H locs hr0 ht hB hFr hS => ?_)
    obtain ⟨hP, hD⟩ := hB
    rw [ht] at hP
    have hD := dwk hD hFr
    clear ht hFr
    have hP : va_P D classes (wS62 cI cJ cZ cB p0 p1 p2 p3 p4 p5 p6 x0_4 x0_5 x0_6 x0_7 x0_8 x0_9 x0_10 x0_11 x0_12 x0_13 y1 y2 x3_0 x4_0 y5 y6) H := hP
    have hD : va_D A (wS62 cI cJ cZ cB p0 p1 p2 p3 p4 p5 p6 x0_4 x0_5 x0_6 x0_7 x0_8 x0_9 x0_10 x0_11 x0_12 x0_13 y1 y2 x3_0 x4_0 y5 y6) := hD
    refine cs_i (W.runS (As := [.int rz2]) (rest := [.int (0 : Int32), .ref p0]) ⟨hx, hb, hml, hown, hk⟩ (c_W_number l rz2) (s_W_number hk k_277 ⟨Nat.le_of_ble_eq_true rfl, Nat.le_of_ble_eq_true rfl⟩) ⟨fun a U g mk q => q, fun U hU hW => ⟨rfl, trivial⟩⟩ rfl rfl hl.1 rfl (lv_room (Nat.le_of_ble_eq_true rfl)) d_M_performLow_54 ⟨Nat.le_of_ble_eq_true rfl, Nat.le_of_ble_eq_true rfl⟩) ?_
    refine lv_topi (fun v3 hv3 => ?_)
    refine kn_v (va_runV (C := "SignMachine$Machine") (As := [.int (0 : Int32), .int v3]) (rest := []) ⟨hx, hb, hml, hown, hk⟩ (c_M_addTo_s4 l K D cI cJ cZ cB p0 p1 p2 p3 p4 p5 p6 H.size x0_4 x0_5 x0_6 x0_7 x0_8 x0_9 x0_10 x0_11 x0_12 x0_13 y1 y2 x3_0 x4_0 y5 y6  (0 : Int32) v3 ) (v_M_addTo_s4 hk k_354 ⟨Nat.le_of_ble_eq_true rfl, Nat.le_of_ble_eq_true rfl⟩) (pMC_v hK hP hD hC hS hA (ci := 1) (q0 := 0) rfl rfl rfl) rfl rfl hl.1 rfl (lv_room (Nat.le_of_ble_eq_true rfl)) d_M_performLow_57 ⟨by decide, by decide⟩) hS hA hD (fun u t H locs ht hB hFr hS => ?_)
    obtain ⟨x0_4z4, y2z4, hP, hD⟩ := hB
    rw [ht] at hP
    have hD := dwk hD hFr
    clear ht hFr
    have hP : va_P D classes (wS62 cI cJ cZ cB p0 p1 p2 p3 p4 p5 p6 x0_4z4 x0_5 x0_6 x0_7 x0_8 x0_9 x0_10 x0_11 x0_12 x0_13 y1 y2z4 x3_0 x4_0 y5 y6) H := hP
    have hD : va_D A (wS62 cI cJ cZ cB p0 p1 p2 p3 p4 p5 p6 x0_4z4 x0_5 x0_6 x0_7 x0_8 x0_9 x0_10 x0_11 x0_12 x0_13 y1 y2z4 x3_0 x4_0 y5 y6) := hD
    refine lv_goto (tgt := 122) hx hb d_M_performLow_60 (by decide) ?_
    exact W.vret hx hb hr (fun t ht hW => ⟨⟨(), rfl, trivial, ⟨x0_4z4, y1, y2z4, by show va_P D classes _ t.heap; rw [ht]; exact hP, hD⟩⟩, hS.F ht⟩) hS.2.2 d_M_performLow_122
  · by_cases c5 : x0_9 = (2 : Int32)
    · refine lv_tableIn (off := 59) (tgt := 63) hx hb d_M_performLow_4 (by rw [c5]; decide) (by rw [c5]; decide) (by rw [c5]; rfl) (by decide) ?_
      refine lv_aload_n hx hb d_M_performLow_63 rfl (lv_at hl 0 rfl) ?_
      refine lv_iconst (v := 0) hx hb d_M_performLow_64 (by decide) ?_
      refine lv_aload_n hx hb d_M_performLow_65 rfl (lv_at hl 0 rfl) ?_
      refine sn_i (va_runV (C := "SignMachine$Machine") (As := []) (rest := [.int (0 : Int32), .ref p0]) ⟨hx, hb, hml, hown, hk⟩ (c_M_value_s5 l K D cI cJ cZ cB p0 p1 p2 p3 p4 p5 p6 s.heap.size x0_4 x0_5 x0_6 x0_7 x0_8 x0_9 x0_10 x0_11 x0_12 x0_13 y1 y2 x3_0 x4_0 y5 y6   ) (v_M_value_s5 hk k_310 ⟨Nat.le_of_ble_eq_true rfl, Nat.le_of_ble_eq_true rfl⟩) (pMC_v hK hP hD hC hS hA (ci := 1) (q0 := 0) rfl rfl rfl) rfl rfl hl.1 rfl (lv_room (Nat.le_of_ble_eq_true rfl)) d_M_performLow_66 ⟨by decide, by decide⟩) hS hA hD (fun rz6 u t H locs hr0 ht hB hFr hS => ?_)
      obtain ⟨hP, hD⟩ := hB
      rw [ht] at hP
      have hD := dwk hD hFr
      clear ht hFr
      have hP : va_P D classes (wS62 cI cJ cZ cB p0 p1 p2 p3 p4 p5 p6 x0_4 x0_5 x0_6 x0_7 x0_8 x0_9 x0_10 x0_11 x0_12 x0_13 y1 y2 x3_0 x4_0 y5 y6) H := hP
      have hD : va_D A (wS62 cI cJ cZ cB p0 p1 p2 p3 p4 p5 p6 x0_4 x0_5 x0_6 x0_7 x0_8 x0_9 x0_10 x0_11 x0_12 x0_13 y1 y2 x3_0 x4_0 y5 y6) := hD
      refine cs_i (W.runS (As := [.int rz6]) (rest := [.int (0 : Int32), .ref p0]) ⟨hx, hb, hml, hown, hk⟩ (c_W_number l rz6) (s_W_number hk k_277 ⟨Nat.le_of_ble_eq_true rfl, Nat.le_of_ble_eq_true rfl⟩) ⟨fun a U g mk q => q, fun U hU hW => ⟨rfl, trivial⟩⟩ rfl rfl hl.1 rfl (lv_room (Nat.le_of_ble_eq_true rfl)) d_M_performLow_69 ⟨Nat.le_of_ble_eq_true rfl, Nat.le_of_ble_eq_true rfl⟩) ?_
      refine lv_topi (fun v7 hv7 => ?_)
      refine lv_ineg hx hb d_M_performLow_72 ?_
      refine lv_topi (fun v8 hv8 => ?_)
      refine kn_v (va_runV (C := "SignMachine$Machine") (As := [.int (0 : Int32), .int v8]) (rest := []) ⟨hx, hb, hml, hown, hk⟩ (c_M_addTo_s4 l K D cI cJ cZ cB p0 p1 p2 p3 p4 p5 p6 H.size x0_4 x0_5 x0_6 x0_7 x0_8 x0_9 x0_10 x0_11 x0_12 x0_13 y1 y2 x3_0 x4_0 y5 y6  (0 : Int32) v8 ) (v_M_addTo_s4 hk k_354 ⟨Nat.le_of_ble_eq_true rfl, Nat.le_of_ble_eq_true rfl⟩) (pMC_v hK hP hD hC hS hA (ci := 1) (q0 := 0) rfl rfl rfl) rfl rfl hl.1 rfl (lv_room (Nat.le_of_ble_eq_true rfl)) d_M_performLow_73 ⟨by decide, by decide⟩) hS hA hD (fun u t H locs ht hB hFr hS => ?_)
      obtain ⟨x0_4z9, y2z9, hP, hD⟩ := hB
      rw [ht] at hP
      have hD := dwk hD hFr
      clear ht hFr
      have hP : va_P D classes (wS62 cI cJ cZ cB p0 p1 p2 p3 p4 p5 p6 x0_4z9 x0_5 x0_6 x0_7 x0_8 x0_9 x0_10 x0_11 x0_12 x0_13 y1 y2z9 x3_0 x4_0 y5 y6) H := hP
      have hD : va_D A (wS62 cI cJ cZ cB p0 p1 p2 p3 p4 p5 p6 x0_4z9 x0_5 x0_6 x0_7 x0_8 x0_9 x0_10 x0_11 x0_12 x0_13 y1 y2z9 x3_0 x4_0 y5 y6) := hD
      refine lv_goto (tgt := 122) hx hb d_M_performLow_76 (by decide) ?_
      exact W.vret hx hb hr (fun t ht hW => ⟨⟨(), rfl, trivial, ⟨x0_4z9, y1, y2z9, by show va_P D classes _ t.heap; rw [ht]; exact hP, hD⟩⟩, hS.F ht⟩) hS.2.2 d_M_performLow_122
    · by_cases c10 : x0_9 = (3 : Int32)
      · refine lv_tableIn (off := 75) (tgt := 79) hx hb d_M_performLow_4 (by rw [c10]; decide) (by rw [c10]; decide) (by rw [c10]; rfl) (by decide) ?_
        refine lv_aload_n hx hb d_M_performLow_79 rfl (lv_at hl 0 rfl) ?_
        refine lv_aload_n hx hb d_M_performLow_80 rfl (lv_at hl 0 rfl) ?_
        refine sn_i (va_runV (C := "SignMachine$Machine") (As := []) (rest := [.ref p0]) ⟨hx, hb, hml, hown, hk⟩ (c_M_value_s5 l K D cI cJ cZ cB p0 p1 p2 p3 p4 p5 p6 s.heap.size x0_4 x0_5 x0_6 x0_7 x0_8 x0_9 x0_10 x0_11 x0_12 x0_13 y1 y2 x3_0 x4_0 y5 y6   ) (v_M_value_s5 hk k_310 ⟨Nat.le_of_ble_eq_true rfl, Nat.le_of_ble_eq_true rfl⟩) (pMC_v hK hP hD hC hS hA (ci := 1) (q0 := 0) rfl rfl rfl) rfl rfl hl.1 rfl (lv_room (Nat.le_of_ble_eq_true rfl)) d_M_performLow_81 ⟨by decide, by decide⟩) hS hA hD (fun rz11 u t H locs hr0 ht hB hFr hS => ?_)
        obtain ⟨hP, hD⟩ := hB
        rw [ht] at hP
        have hD := dwk hD hFr
        clear ht hFr
        have hP : va_P D classes (wS62 cI cJ cZ cB p0 p1 p2 p3 p4 p5 p6 x0_4 x0_5 x0_6 x0_7 x0_8 x0_9 x0_10 x0_11 x0_12 x0_13 y1 y2 x3_0 x4_0 y5 y6) H := hP
        have hD : va_D A (wS62 cI cJ cZ cB p0 p1 p2 p3 p4 p5 p6 x0_4 x0_5 x0_6 x0_7 x0_8 x0_9 x0_10 x0_11 x0_12 x0_13 y1 y2 x3_0 x4_0 y5 y6) := hD
        refine kn_v (va_runV (C := "SignMachine$Machine") (As := [.int rz11]) (rest := []) ⟨hx, hb, hml, hown, hk⟩ (c_M_multiply_s4 l K D cI cJ cZ cB p0 p1 p2 p3 p4 p5 p6 H.size x0_4 x0_5 x0_6 x0_7 x0_8 x0_9 x0_10 x0_11 x0_12 x0_13 y1 y2 x3_0 x4_0 y5 y6  rz11 ) (v_M_multiply_s4 hk k_366 ⟨Nat.le_of_ble_eq_true rfl, Nat.le_of_ble_eq_true rfl⟩) (pMC_v hK hP hD hC hS hA (ci := 1) (q0 := 0) rfl rfl rfl) rfl rfl hl.1 rfl (lv_room (Nat.le_of_ble_eq_true rfl)) d_M_performLow_84 ⟨by decide, by decide⟩) hS hA hD (fun u t H locs ht hB hFr hS => ?_)
        obtain ⟨y2z12, hP, hD⟩ := hB
        rw [ht] at hP
        have hD := dwk hD hFr
        clear ht hFr
        have hP : va_P D classes (wS62 cI cJ cZ cB p0 p1 p2 p3 p4 p5 p6 x0_4 x0_5 x0_6 x0_7 x0_8 x0_9 x0_10 x0_11 x0_12 x0_13 y1 y2z12 x3_0 x4_0 y5 y6) H := hP
        have hD : va_D A (wS62 cI cJ cZ cB p0 p1 p2 p3 p4 p5 p6 x0_4 x0_5 x0_6 x0_7 x0_8 x0_9 x0_10 x0_11 x0_12 x0_13 y1 y2z12 x3_0 x4_0 y5 y6) := hD
        refine lv_goto (tgt := 122) hx hb d_M_performLow_87 (by decide) ?_
        exact W.vret hx hb hr (fun t ht hW => ⟨⟨(), rfl, trivial, ⟨x0_4, y1, y2z12, by show va_P D classes _ t.heap; rw [ht]; exact hP, hD⟩⟩, hS.F ht⟩) hS.2.2 d_M_performLow_122
      · by_cases c13 : x0_9 = (4 : Int32)
        · refine lv_tableIn (off := 86) (tgt := 90) hx hb d_M_performLow_4 (by rw [c13]; decide) (by rw [c13]; decide) (by rw [c13]; rfl) (by decide) ?_
          refine lv_aload_n hx hb d_M_performLow_90 rfl (lv_at hl 0 rfl) ?_
          refine lv_aload_n hx hb d_M_performLow_91 rfl (lv_at hl 0 rfl) ?_
          refine sn_i (va_runV (C := "SignMachine$Machine") (As := []) (rest := [.ref p0]) ⟨hx, hb, hml, hown, hk⟩ (c_M_value_s5 l K D cI cJ cZ cB p0 p1 p2 p3 p4 p5 p6 s.heap.size x0_4 x0_5 x0_6 x0_7 x0_8 x0_9 x0_10 x0_11 x0_12 x0_13 y1 y2 x3_0 x4_0 y5 y6   ) (v_M_value_s5 hk k_310 ⟨Nat.le_of_ble_eq_true rfl, Nat.le_of_ble_eq_true rfl⟩) (pMC_v hK hP hD hC hS hA (ci := 1) (q0 := 0) rfl rfl rfl) rfl rfl hl.1 rfl (lv_room (Nat.le_of_ble_eq_true rfl)) d_M_performLow_92 ⟨by decide, by decide⟩) hS hA hD (fun rz14 u t H locs hr0 ht hB hFr hS => ?_)
          obtain ⟨hP, hD⟩ := hB
          rw [ht] at hP
          have hD := dwk hD hFr
          clear ht hFr
          have hP : va_P D classes (wS62 cI cJ cZ cB p0 p1 p2 p3 p4 p5 p6 x0_4 x0_5 x0_6 x0_7 x0_8 x0_9 x0_10 x0_11 x0_12 x0_13 y1 y2 x3_0 x4_0 y5 y6) H := hP
          have hD : va_D A (wS62 cI cJ cZ cB p0 p1 p2 p3 p4 p5 p6 x0_4 x0_5 x0_6 x0_7 x0_8 x0_9 x0_10 x0_11 x0_12 x0_13 y1 y2 x3_0 x4_0 y5 y6) := hD
          refine kn_v (va_runV (C := "SignMachine$Machine") (As := [.int rz14]) (rest := []) ⟨hx, hb, hml, hown, hk⟩ (c_M_divide_s4 l K D cI cJ cZ cB p0 p1 p2 p3 p4 p5 p6 H.size x0_4 x0_5 x0_6 x0_7 x0_8 x0_9 x0_10 x0_11 x0_12 x0_13 y1 y2 x3_0 x4_0 y5 y6  rz14 ) (v_M_divide_s4 hk k_371 ⟨Nat.le_of_ble_eq_true rfl, Nat.le_of_ble_eq_true rfl⟩) (pMC_v hK hP hD hC hS hA (ci := 1) (q0 := 0) rfl rfl rfl) rfl rfl hl.1 rfl (lv_room (Nat.le_of_ble_eq_true rfl)) d_M_performLow_95 ⟨by decide, by decide⟩) hS hA hD (fun u t H locs ht hB hFr hS => ?_)
          obtain ⟨x0_4z15, y2z15, hP, hD⟩ := hB
          rw [ht] at hP
          have hD := dwk hD hFr
          clear ht hFr
          have hP : va_P D classes (wS62 cI cJ cZ cB p0 p1 p2 p3 p4 p5 p6 x0_4z15 x0_5 x0_6 x0_7 x0_8 x0_9 x0_10 x0_11 x0_12 x0_13 y1 y2z15 x3_0 x4_0 y5 y6) H := hP
          have hD : va_D A (wS62 cI cJ cZ cB p0 p1 p2 p3 p4 p5 p6 x0_4z15 x0_5 x0_6 x0_7 x0_8 x0_9 x0_10 x0_11 x0_12 x0_13 y1 y2z15 x3_0 x4_0 y5 y6) := hD
          refine lv_goto (tgt := 122) hx hb d_M_performLow_98 (by decide) ?_
          exact W.vret hx hb hr (fun t ht hW => ⟨⟨(), rfl, trivial, ⟨x0_4z15, y1, y2z15, by show va_P D classes _ t.heap; rw [ht]; exact hP, hD⟩⟩, hS.F ht⟩) hS.2.2 d_M_performLow_122
        · by_cases c16 : x0_9 = (5 : Int32)
          · refine lv_tableIn (off := 97) (tgt := 101) hx hb d_M_performLow_4 (by rw [c16]; decide) (by rw [c16]; decide) (by rw [c16]; rfl) (by decide) ?_
            refine lv_aload_n hx hb d_M_performLow_101 rfl (lv_at hl 0 rfl) ?_
            refine kn_v (va_runV (C := "SignMachine$Machine") (As := []) (rest := []) ⟨hx, hb, hml, hown, hk⟩ (c_M_convert_s4 l K D cI cJ cZ cB p0 p1 p2 p3 p4 p5 p6 s.heap.size x0_4 x0_5 x0_6 x0_7 x0_8 x0_9 x0_10 x0_11 x0_12 x0_13 y1 y2 x3_0 x4_0 y5 y6   ) (v_M_convert_s4 hk k_379 ⟨Nat.le_of_ble_eq_true rfl, Nat.le_of_ble_eq_true rfl⟩) (pMC_v hK hP hD hC hS hA (ci := 1) (q0 := 0) rfl rfl rfl) rfl rfl hl.1 rfl (lv_room (Nat.le_of_ble_eq_true rfl)) d_M_performLow_102 ⟨by decide, by decide⟩) hS hA hD (fun u t H locs ht hB hFr hS => ?_)
            obtain ⟨x0_4z17, y2z17, hP, hD⟩ := hB
            rw [ht] at hP
            have hD := dwk hD hFr
            clear ht hFr
            have hP : va_P D classes (wS62 cI cJ cZ cB p0 p1 p2 p3 p4 p5 p6 x0_4z17 x0_5 x0_6 x0_7 x0_8 x0_9 x0_10 x0_11 x0_12 x0_13 y1 y2z17 x3_0 x4_0 y5 y6) H := hP
            have hD : va_D A (wS62 cI cJ cZ cB p0 p1 p2 p3 p4 p5 p6 x0_4z17 x0_5 x0_6 x0_7 x0_8 x0_9 x0_10 x0_11 x0_12 x0_13 y1 y2z17 x3_0 x4_0 y5 y6) := hD
            refine lv_goto (tgt := 122) hx hb d_M_performLow_105 (by decide) ?_
            exact W.vret hx hb hr (fun t ht hW => ⟨⟨(), rfl, trivial, ⟨x0_4z17, y1, y2z17, by show va_P D classes _ t.heap; rw [ht]; exact hP, hD⟩⟩, hS.F ht⟩) hS.2.2 d_M_performLow_122
          · by_cases c18 : x0_9 = (6 : Int32)
            · refine lv_tableIn (off := 104) (tgt := 108) hx hb d_M_performLow_4 (by rw [c18]; decide) (by rw [c18]; decide) (by rw [c18]; rfl) (by decide) ?_
              refine lv_aload_n hx hb d_M_performLow_108 rfl (lv_at hl 0 rfl) ?_
              refine kn_v (va_runV (C := "SignMachine$Machine") (As := []) (rest := []) ⟨hx, hb, hml, hown, hk⟩ (c_M_shift_s4 l K D cI cJ cZ cB p0 p1 p2 p3 p4 p5 p6 s.heap.size x0_4 x0_5 x0_6 x0_7 x0_8 x0_9 x0_10 x0_11 x0_12 x0_13 y1 y2 x3_0 x4_0 y5 y6   ) (v_M_shift_s4 hk k_399 ⟨Nat.le_of_ble_eq_true rfl, Nat.le_of_ble_eq_true rfl⟩) (pMC_v hK hP hD hC hS hA (ci := 1) (q0 := 0) rfl rfl rfl) rfl rfl hl.1 rfl (lv_room (Nat.le_of_ble_eq_true rfl)) d_M_performLow_109 ⟨by decide, by decide⟩) hS hA hD (fun u t H locs ht hB hFr hS => ?_)
              obtain ⟨y2z19, hP, hD⟩ := hB
              rw [ht] at hP
              have hD := dwk hD hFr
              clear ht hFr
              have hP : va_P D classes (wS62 cI cJ cZ cB p0 p1 p2 p3 p4 p5 p6 x0_4 x0_5 x0_6 x0_7 x0_8 x0_9 x0_10 x0_11 x0_12 x0_13 y1 y2z19 x3_0 x4_0 y5 y6) H := hP
              have hD : va_D A (wS62 cI cJ cZ cB p0 p1 p2 p3 p4 p5 p6 x0_4 x0_5 x0_6 x0_7 x0_8 x0_9 x0_10 x0_11 x0_12 x0_13 y1 y2z19 x3_0 x4_0 y5 y6) := hD
              refine lv_goto (tgt := 122) hx hb d_M_performLow_112 (by decide) ?_
              exact W.vret hx hb hr (fun t ht hW => ⟨⟨(), rfl, trivial, ⟨x0_4, y1, y2z19, by show va_P D classes _ t.heap; rw [ht]; exact hP, hD⟩⟩, hS.F ht⟩) hS.2.2 d_M_performLow_122
            · by_cases c20 : x0_9 = (7 : Int32)
              · refine lv_tableIn (off := 111) (tgt := 115) hx hb d_M_performLow_4 (by rw [c20]; decide) (by rw [c20]; decide) (by rw [c20]; rfl) (by decide) ?_
                refine lv_aload_n hx hb d_M_performLow_115 rfl (lv_at hl 0 rfl) ?_
                refine kn_v (va_runV (C := "SignMachine$Machine") (As := []) (rest := []) ⟨hx, hb, hml, hown, hk⟩ (c_M_moveWords_s4 l K D cI cJ cZ cB p0 p1 p2 p3 p4 p5 p6 s.heap.size x0_4 x0_5 x0_6 x0_7 x0_8 x0_9 x0_10 x0_11 x0_12 x0_13 y1 y2 x3_0 x4_0 y5 y6   ) (v_M_moveWords_s4 hk k_406 ⟨Nat.le_of_ble_eq_true rfl, Nat.le_of_ble_eq_true rfl⟩) (pMC_v hK hP hD hC hS hA (ci := 1) (q0 := 0) rfl rfl rfl) rfl rfl hl.1 rfl (lv_room (Nat.le_of_ble_eq_true rfl)) d_M_performLow_116 ⟨by decide, by decide⟩) hS hA hD (fun u t H locs ht hB hFr hS => ?_)
                obtain ⟨x0_4z21, y1z21, y2z21, hP, hD⟩ := hB
                rw [ht] at hP
                have hD := dwk hD hFr
                clear ht hFr
                have hP : va_P D classes (wS62 cI cJ cZ cB p0 p1 p2 p3 p4 p5 p6 x0_4z21 x0_5 x0_6 x0_7 x0_8 x0_9 x0_10 x0_11 x0_12 x0_13 y1z21 y2z21 x3_0 x4_0 y5 y6) H := hP
                have hD : va_D A (wS62 cI cJ cZ cB p0 p1 p2 p3 p4 p5 p6 x0_4z21 x0_5 x0_6 x0_7 x0_8 x0_9 x0_10 x0_11 x0_12 x0_13 y1z21 y2z21 x3_0 x4_0 y5 y6) := hD
                refine lv_goto (tgt := 122) hx hb d_M_performLow_119 (by decide) ?_
                exact W.vret hx hb hr (fun t ht hW => ⟨⟨(), rfl, trivial, ⟨x0_4z21, y1z21, y2z21, by show va_P D classes _ t.heap; rw [ht]; exact hP, hD⟩⟩, hS.F ht⟩) hS.2.2 d_M_performLow_122
              · refine lv_tableOut (tgt := 122) hx hb d_M_performLow_4 (by have e0 := lv_neT c1 (a := 1) rfl; have e1 := lv_neT c5 (a := 2) rfl; have e2 := lv_neT c10 (a := 3) rfl; have e3 := lv_neT c13 (a := 4) rfl; have e4 := lv_neT c16 (a := 5) rfl; have e5 := lv_neT c18 (a := 6) rfl; have e6 := lv_neT c20 (a := 7) rfl; omega) (by decide) ?_
                exact W.vret hx hb hr (fun t ht hW => ⟨⟨(), rfl, trivial, ⟨x0_4, y1, y2, by show va_P D classes _ t.heap; rw [ht]; exact hP, hD⟩⟩, hS.F ht⟩) hS.2.2 d_M_performLow_122
theorem v_M_performLow_s4 {R : Room} {s : State} {args : Array Value} {own : String} {index : Nat} (hk : ∀ w ∈ tb, w.before args s = true) (hl : Cond.methodLink own index y_M_performLow ∈ tb) (hR : 4 + 1 ≤ R.frames ∧ 8 + (1 + 11) + 90 ≤ R.locals) : CallW R s args own "SignMachine$Machine" index y_M_performLow b_M_performLow 1 none (.code y_M_performLow b_M_performLow 1 none :: tb) ({ frames := 4, cells := 0, slots := 0, locals := 90 }) 0 0 0 := mk_v 0 hk k_353 hl k_352 k_12 k_117 rfl rfl h_M_performLow hR

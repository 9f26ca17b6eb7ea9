set_option maxHeartbeats 4000000 in
set_option maxRecDepth 100000 in
theorem c_A_isLaterSymbol_s1 (l : Launch) (K : CK) (D : va_G) (cI cJ cZ cB : ClassId) (p0 p1 p2 p3 p4 p5 p6 p7 p8 p9 p10 p11 p12 p13 p14 p15 : Nat) (sz : Nat) (x0_3 : Int32) (x0_4 : Int32) (x0_5 : Int32) (x0_6 : Int32) (x0_7 : Int32) (x0_8 : Bool) (x0_9 : Int64) (x0_10 : Int32) (x0_11 : Option (Fin 51)) (x0_12 : Int32) (x0_13 : Int32) (x0_14 : Int32) (x1_1 : Int32) (x1_2 : Int32) (x1_3 : Int32) (x1_4 : Int32) (x1_5 : Int32) (x1_6 : Int32) (x1_7 : Int64) (x1_8 : Int32) (y2 : Nat → Int32) (x3_5 : Int32) (x3_6 : Int32) (y4 : Nat → Int64) (y5 : Nat → Int32) (y6 : Nat → Int32) (y7 : Nat → Int32) (y8 : Nat → Int32) (x9_6 : Int32) (y10 : Nat → Int32) (y11 : Nat → Int32) (y12 : Nat → Int32) (y13 : Nat → Int32) (y14 : Nat → Int32) (y15 : Nat → Int32)  (a1 : Int64) : Met l y_A_isLaterSymbol (.code y_A_isLaterSymbol b_A_isLaterSymbol 3 (some .boolean) :: tb) ({ frames := 2, cells := 0, slots := 0, locals := 45 }) (pMC K D cI cJ cZ cB (wS52 K cI cJ cZ cB p0 p1 p2 p3 p4 p5 p6 p7 p8 p9 p10 p11 p12 p13 p14 p15 x0_3 x0_4 x0_5 x0_6 x0_7 x0_8 x0_9 x0_10 x0_11 x0_12 x0_13 x0_14 x1_1 x1_2 x1_3 x1_4 x1_5 x1_6 x1_7 x1_8 y2 x3_5 x3_6 y4 y5 y6 y7 y8 x9_6 y10 y11 y12 y13 y14 y15) sz [.ref p0, .long a1]) (va_Qi (fun r (_ : Unit) => ∃ z : Bool, r = bI z) (fun _ t => (∃ u_x0_3 : Int32, ∃ u_x0_4 : Int32, ∃ u_x0_14 : Int32, ∃ u_x3_5 : Int32, ∃ u_x3_6 : Int32, ∃ u_y4 : Nat → Int64, ∃ u_y5 : Nat → Int32, ∃ u_y6 : Nat → Int32, va_P D classes (wS52 K cI cJ cZ cB p0 p1 p2 p3 p4 p5 p6 p7 p8 p9 p10 p11 p12 p13 p14 p15 u_x0_3 u_x0_4 x0_5 x0_6 x0_7 x0_8 x0_9 x0_10 x0_11 x0_12 x0_13 u_x0_14 x1_1 x1_2 x1_3 x1_4 x1_5 x1_6 x1_7 x1_8 y2 u_x3_5 u_x3_6 u_y4 u_y5 u_y6 y7 y8 x9_6 y10 y11 y12 y13 y14 y15) t.heap ∧ va_D (va_A (wS52 K cI cJ cZ cB p0 p1 p2 p3 p4 p5 p6 p7 p8 p9 p10 p11 p12 p13 p14 p15 x0_3 x0_4 x0_5 x0_6 x0_7 x0_8 x0_9 x0_10 x0_11 x0_12 x0_13 x0_14 x1_1 x1_2 x1_3 x1_4 x1_5 x1_6 x1_7 x1_8 y2 x3_5 x3_6 y4 y5 y6 y7 y8 x9_6 y10 y11 y12 y13 y14 y15) sz) (wS52 K cI cJ cZ cB p0 p1 p2 p3 p4 p5 p6 p7 p8 p9 p10 p11 p12 p13 p14 p15 u_x0_3 u_x0_4 x0_5 x0_6 x0_7 x0_8 x0_9 x0_10 x0_11 x0_12 x0_13 u_x0_14 x1_1 x1_2 x1_3 x1_4 x1_5 x1_6 x1_7 x1_8 y2 u_x3_5 u_x3_6 u_y4 u_y5 u_y6 y7 y8 x9_6 y10 y11 y12 y13 y14 y15))) (va_A (wS52 K cI cJ cZ cB p0 p1 p2 p3 p4 p5 p6 p7 p8 p9 p10 p11 p12 p13 p14 p15 x0_3 x0_4 x0_5 x0_6 x0_7 x0_8 x0_9 x0_10 x0_11 x0_12 x0_13 x0_14 x1_1 x1_2 x1_3 x1_4 x1_5 x1_6 x1_7 x1_8 y2 x3_5 x3_6 y4 y5 y6 y7 y8 x9_6 y10 y11 y12 y13 y14 y15) sz)) 0 0 (va_A (wS52 K cI cJ cZ cB p0 p1 p2 p3 p4 p5 p6 p7 p8 p9 p10 p11 p12 p13 p14 p15 x0_3 x0_4 x0_5 x0_6 x0_7 x0_8 x0_9 x0_10 x0_11 x0_12 x0_13 x0_14 x1_1 x1_2 x1_3 x1_4 x1_5 x1_6 x1_7 x1_8 y2 x3_5 x3_6 y4 y5 y6 y7 y8 x9_6 y10 y11 y12 y13 y14 y15) sz) := by
  refine Met.ofW (cc := b_A_isLaterSymbol) (maxL := 3) (ret := (some .boolean)) (by decide) rfl ?_
  intro p e s m args below meth c s₁ B hml hv
  obtain ⟨rfl, hsz, hK, hP, hD0, hC⟩ := hv
  subst hsz
  have hD := hD0.self (sz := s.heap.size)
  generalize hAe : va_A (wS52 K cI cJ cZ cB p0 p1 p2 p3 p4 p5 p6 p7 p8 p9 p10 p11 p12 p13 p14 p15 x0_3 x0_4 x0_5 x0_6 x0_7 x0_8 x0_9 x0_10 x0_11 x0_12 x0_13 x0_14 x1_1 x1_2 x1_3 x1_4 x1_5 x1_6 x1_7 x1_8 y2 x3_5 x3_6 y4 y5 y6 y7 y8 x9_6 y10 y11 y12 y13 y14 y15) s.heap.size = A at hD hC ⊢
  have hA : ∀ q : Nat, s.heap.size ≤ q → A q := fun q h => by rw [← hAe]; exact Or.inr h
  clear hAe hD0
  have hS : va_S A s.heap s.heap [] := va_S.rf
  have hx := B.exec
  have hb := B.bytes
  have hr := B.returns
  have hts := atoms_spec (ws := .code y_A_isLaterSymbol b_A_isLaterSymbol 3 (some .boolean) :: tb) B.pre
  have hk : ∀ w ∈ tb, w.before [.ref p0, .long a1].toArray s = true := fun w h => hts w (List.mem_cons_of_mem _ h)
  have hown : s.vm.findClass "SignMachine$Assembler" = some m.cls := findClass_of_methodNamed B.named
  have hlocks := B.notSynchronized
  have hl := lv_entry ([.ref p0, .long a1]) (n := 3) (Nat.le_of_ble_eq_true rfl)
  rw [lg_entry_eq]
  generalize (lg_sl ([.ref p0, .long a1]) ++ List.replicate (3 - (lg_sl ([.ref p0, .long a1])).length) Slot.unset).toArray = ls at hl ⊢
  have hl : lv_has ls 3 [(0, .ref p0), (1, .long a1)] := hl
  refine lv_lload_n hx hb d_A_isLaterSymbol_0 rfl (lv_at hl 1 rfl) ?_
  refine lv_iconst (v := 2) hx hb d_A_isLaterSymbol_1 (by decide) ?_
  refine cs_i (W.runS (As := [.long a1, .int (2 : Int32)]) (rest := []) ⟨hx, hb, hml, hown, hk⟩ (c_N_localDigit l a1 (2 : Int32)) (s_N_localDigit hk k_771 ⟨Nat.le_of_ble_eq_true rfl, Nat.le_of_ble_eq_true rfl⟩) ⟨fun a U g mk q => q, fun U hU hW => ⟨rfl, trivial⟩⟩ rfl rfl hl.1 rfl (lv_room (Nat.le_of_ble_eq_true rfl)) d_A_isLaterSymbol_2 ⟨Nat.le_of_ble_eq_true rfl, Nat.le_of_ble_eq_true rfl⟩) ?_
  refine lv_topi (fun v1 hv1 => ?_)
  refine lv_if_ge (tgt := 17) hx hb d_A_isLaterSymbol_5 (by decide) (fun c2 => ?_) (fun c2 => ?_)
  · refine lv_iconst (v := 0) hx hb d_A_isLaterSymbol_17 (by decide) ?_
    exact W.zret (v := (0 : Int32)) hx hb hr rfl (fun t ht hW => ⟨⟨(0 : Int32), (), rfl, ⟨false, rfl⟩, ⟨x0_3, x0_4, x0_14, x3_5, x3_6, y4, y5, y6, by show va_P D classes _ t.heap; rw [ht]; exact hP, hD⟩⟩, hS.F ht⟩) hS.2.2 d_A_isLaterSymbol_18
  · refine lv_lload_n hx hb d_A_isLaterSymbol_8 rfl (lv_at hl 1 rfl) ?_
    refine lv_bipush (v := 8) hx hb d_A_isLaterSymbol_9 (by decide) ?_
    refine cs_i (W.runS (As := [.long a1, .int (8 : Int32)]) (rest := []) ⟨hx, hb, hml, hown, hk⟩ (c_N_localDigit l a1 (8 : Int32)) (s_N_localDigit hk k_771 ⟨Nat.le_of_ble_eq_true rfl, Nat.le_of_ble_eq_true rfl⟩) ⟨fun a U g mk q => q, fun U hU hW => ⟨rfl, trivial⟩⟩ rfl rfl hl.1 rfl (lv_room (Nat.le_of_ble_eq_true rfl)) d_A_isLaterSymbol_11 ⟨Nat.le_of_ble_eq_true rfl, Nat.le_of_ble_eq_true rfl⟩) ?_
    refine lv_topi (fun v3 hv3 => ?_)
    refine lv_if_lt (tgt := 19) hx hb d_A_isLaterSymbol_14 (by decide) (fun c4 => ?_) (fun c4 => ?_)
    · refine lv_aload_n hx hb d_A_isLaterSymbol_19 rfl (lv_at hl 0 rfl) ?_
      refine lv_aload_n hx hb d_A_isLaterSymbol_20 rfl (lv_at hl 0 rfl) ?_
      refine va_get (D := D) (ci := 3) (v := .ref p3) (C := "SignMachine$Assembler") (T := F_A) (N := 15) hx hb hk fi_A hown hK.1 hP 0 rfl rfl 1 (by decide) (hk _ k_633) (fun _ h9 => h9) rfl d_A_isLaterSymbol_21 ?_
      refine lv_lload_n hx hb d_A_isLaterSymbol_24 rfl (lv_at hl 1 rfl) ?_
      refine sn_i (va_runV (C := "SignMachine$Names") (As := [.long a1]) (rest := [.ref p0]) ⟨hx, hb, hml, hown, hk⟩ (c_N_find_s1 l K D cI cJ cZ cB p0 p1 p2 p3 p4 p5 p6 p7 p8 p9 p10 p11 p12 p13 p14 p15 s.heap.size x0_3 x0_4 x0_5 x0_6 x0_7 x0_8 x0_9 x0_10 x0_11 x0_12 x0_13 x0_14 x1_1 x1_2 x1_3 x1_4 x1_5 x1_6 x1_7 x1_8 y2 x3_5 x3_6 y4 y5 y6 y7 y8 x9_6 y10 y11 y12 y13 y14 y15  a1 ) (v_N_find_s1 hk k_924 ⟨Nat.le_of_ble_eq_true rfl, Nat.le_of_ble_eq_true rfl⟩) (pMC_v hK hP hD hC hS hA (ci := 5) (q0 := 3) rfl rfl rfl) rfl rfl hl.1 rfl (lv_room (Nat.le_of_ble_eq_true rfl)) d_A_isLaterSymbol_25 ⟨by decide, by decide⟩) hS hA hD (fun rz5 u t H locs hr0 ht hB hFr hS => ?_)
      obtain ⟨hP, hD⟩ := hB
      rw [ht] at hP
      have hD := dwk hD hFr
      clear ht hFr
      have hP : va_P D classes (wS52 K cI cJ cZ cB p0 p1 p2 p3 p4 p5 p6 p7 p8 p9 p10 p11 p12 p13 p14 p15 x0_3 x0_4 x0_5 x0_6 x0_7 x0_8 x0_9 x0_10 x0_11 x0_12 x0_13 x0_14 x1_1 x1_2 x1_3 x1_4 x1_5 x1_6 x1_7 x1_8 y2 x3_5 x3_6 y4 y5 y6 y7 y8 x9_6 y10 y11 y12 y13 y14 y15) H := hP
      have hD : va_D A (wS52 K cI cJ cZ cB p0 p1 p2 p3 p4 p5 p6 p7 p8 p9 p10 p11 p12 p13 p14 p15 x0_3 x0_4 x0_5 x0_6 x0_7 x0_8 x0_9 x0_10 x0_11 x0_12 x0_13 x0_14 x1_1 x1_2 x1_3 x1_4 x1_5 x1_6 x1_7 x1_8 y2 x3_5 x3_6 y4 y5 y6 y7 y8 x9_6 y10 y11 y12 y13 y14 y15) := hD
      refine va_put (D := D) (ci := 3) (v := .int rz5) (ty := .int) (C := "SignMachine$Assembler") (T := F_A) (N := 15) hx hb hk fi_A ft_A ft_A_ok fn_A hown hK.1 hP hD hS 0 rfl rfl 14 (by decide) (hk _ k_651) (fun _ h9 => h9) rfl (by decide +kernel) rfl rfl (Nat.le_of_ble_eq_true rfl) d_A_isLaterSymbol_28 (fun H locs hP hD hS => ?_)
      have hP : va_P D classes (wS52 K cI cJ cZ cB p0 p1 p2 p3 p4 p5 p6 p7 p8 p9 p10 p11 p12 p13 p14 p15 x0_3 x0_4 x0_5 x0_6 x0_7 x0_8 x0_9 x0_10 x0_11 x0_12 x0_13 rz5 x1_1 x1_2 x1_3 x1_4 x1_5 x1_6 x1_7 x1_8 y2 x3_5 x3_6 y4 y5 y6 y7 y8 x9_6 y10 y11 y12 y13 y14 y15) H := hP
      have hD : va_D A (wS52 K cI cJ cZ cB p0 p1 p2 p3 p4 p5 p6 p7 p8 p9 p10 p11 p12 p13 p14 p15 x0_3 x0_4 x0_5 x0_6 x0_7 x0_8 x0_9 x0_10 x0_11 x0_12 x0_13 rz5 x1_1 x1_2 x1_3 x1_4 x1_5 x1_6 x1_7 x1_8 y2 x3_5 x3_6 y4 y5 y6 y7 y8 x9_6 y10 y11 y12 y13 y14 y15) := hD
      refine lv_aload_n hx hb d_A_isLaterSymbol_31 rfl (lv_at hl 0 rfl) ?_
      refine va_get (D := D) (ci := 3) (v := .ref p3) (C := "SignMachine$Assembler") (T := F_A) (N := 15) hx hb hk fi_A hown hK.1 hP 0 rfl rfl 1 (by decide) (hk _ k_633) (fun _ h9 => h9) rfl d_A_isLaterSymbol_32 ?_
      refine lv_aload_n hx hb d_A_isLaterSymbol_35 rfl (lv_at hl 0 rfl) ?_
      refine va_get (D := D) (ci := 3) (v := .int rz5) (C := "SignMachine$Assembler") (T := F_A) (N := 15) hx hb hk fi_A hown hK.1 hP 0 rfl rfl 14 (by decide) (hk _ k_651) (fun _ h9 => h9) rfl d_A_isLaterSymbol_36 ?_
      refine sn_i (va_runV (C := "SignMachine$Names") (As := [.int rz5]) (rest := []) ⟨hx, hb, hml, hown, hk⟩ (c_N_isTold_s1 l K D cI cJ cZ cB p0 p1 p2 p3 p4 p5 p6 p7 p8 p9 p10 p11 p12 p13 p14 p15 H.size x0_3 x0_4 x0_5 x0_6 x0_7 x0_8 x0_9 x0_10 x0_11 x0_12 x0_13 rz5 x1_1 x1_2 x1_3 x1_4 x1_5 x1_6 x1_7 x1_8 y2 x3_5 x3_6 y4 y5 y6 y7 y8 x9_6 y10 y11 y12 y13 y14 y15  rz5 ) (v_N_isTold_s1 hk k_928 ⟨Nat.le_of_ble_eq_true rfl, Nat.le_of_ble_eq_true rfl⟩) (pMC_v hK hP hD hC hS hA (ci := 5) (q0 := 3) rfl rfl rfl) rfl rfl hl.1 rfl (lv_room (Nat.le_of_ble_eq_true rfl)) d_A_isLaterSymbol_39 ⟨by decide, by decide⟩) hS hA hD (fun rz6 u t H locs hr0 ht hB hFr hS => ?_)
      obtain ⟨z6, hz6⟩ := hr0
      subst hz6
      obtain ⟨hP, hD⟩ := hB
      rw [ht] at hP
      have hD := dwk hD hFr
      clear ht hFr
      have hP : va_P D classes (wS52 K cI cJ cZ cB p0 p1 p2 p3 p4 p5 p6 p7 p8 p9 p10 p11 p12 p13 p14 p15 x0_3 x0_4 x0_5 x0_6 x0_7 x0_8 x0_9 x0_10 x0_11 x0_12 x0_13 rz5 x1_1 x1_2 x1_3 x1_4 x1_5 x1_6 x1_7 x1_8 y2 x3_5 x3_6 y4 y5 y6 y7 y8 x9_6 y10 y11 y12 y13 y14 y15) H := hP
      have hD : va_D A (wS52 K cI cJ cZ cB p0 p1 p2 p3 p4 p5 p6 p7 p8 p9 p10 p11 p12 p13 p14 p15 x0_3 x0_4 x0_5 x0_6 x0_7 x0_8 x0_9 x0_10 x0_11 x0_12 x0_13 rz5 x1_1 x1_2 x1_3 x1_4 x1_5 x1_6 x1_7 x1_8 y2 x3_5 x3_6 y4 y5 y6 y7 y8 x9_6 y10 y11 y12 y13 y14 y15) := hD
      refine lv_if_eq (tgt := 47) hx hb d_A_isLaterSymbol_42 (by decide) (fun c7 => ?_) (fun c7 => ?_)
      · refine lv_aload_n hx hb d_A_isLaterSymbol_47 rfl (lv_at hl 0 rfl) ?_
        refine va_get (D := D) (ci := 3) (v := .int rz5) (C := "SignMachine$Assembler") (T := F_A) (N := 15) hx hb hk fi_A hown hK.1 hP 0 rfl rfl 14 (by decide) (hk _ k_651) (fun _ h9 => h9) rfl d_A_isLaterSymbol_48 ?_
        refine lv_if_ge (tgt := 66) hx hb d_A_isLaterSymbol_51 (by decide) (fun c8 => ?_) (fun c8 => ?_)
        · refine lv_aload_n hx hb d_A_isLaterSymbol_66 rfl (lv_at hl 0 rfl) ?_
          refine va_get (D := D) (ci := 3) (v := .int rz5) (C := "SignMachine$Assembler") (T := F_A) (N := 15) hx hb hk fi_A hown hK.1 hP 0 rfl rfl 14 (by decide) (hk _ k_651) (fun _ h9 => h9) rfl d_A_isLaterSymbol_67 ?_
          refine lv_if_ge (tgt := 79) hx hb d_A_isLaterSymbol_70 (by decide) (fun c9 => ?_) (fun c9 => absurd (show (0 : Int32) ≤ rz5 from c8) c9)
          refine lv_iconst (v := 1) hx hb d_A_isLaterSymbol_79 (by decide) ?_
          exact W.zret (v := (1 : Int32)) hx hb hr rfl (fun t ht hW => ⟨⟨(1 : Int32), (), rfl, ⟨true, rfl⟩, ⟨x0_3, x0_4, rz5, x3_5, x3_6, y4, y5, y6, by show va_P D classes _ t.heap; rw [ht]; exact hP, hD⟩⟩, hS.F ht⟩) hS.2.2 d_A_isLaterSymbol_80
        · refine lv_aload_n hx hb d_A_isLaterSymbol_54 rfl (lv_at hl 0 rfl) ?_
          refine lv_aload_n hx hb d_A_isLaterSymbol_55 rfl (lv_at hl 0 rfl) ?_
          refine va_get (D := D) (ci := 3) (v := .ref p3) (C := "SignMachine$Assembler") (T := F_A) (N := 15) hx hb hk fi_A hown hK.1 hP 0 rfl rfl 1 (by decide) (hk _ k_633) (fun _ h9 => h9) rfl d_A_isLaterSymbol_56 ?_
          refine lv_lload_n hx hb d_A_isLaterSymbol_59 rfl (lv_at hl 1 rfl) ?_
          refine sn_i (va_runV (C := "SignMachine$Names") (As := [.long a1]) (rest := [.ref p0]) ⟨hx, hb, hml, hown, hk⟩ (c_N_addSymbol_s1 l K D cI cJ cZ cB p0 p1 p2 p3 p4 p5 p6 p7 p8 p9 p10 p11 p12 p13 p14 p15 H.size x0_3 x0_4 x0_5 x0_6 x0_7 x0_8 x0_9 x0_10 x0_11 x0_12 x0_13 rz5 x1_1 x1_2 x1_3 x1_4 x1_5 x1_6 x1_7 x1_8 y2 x3_5 x3_6 y4 y5 y6 y7 y8 x9_6 y10 y11 y12 y13 y14 y15  a1 ) (v_N_addSymbol_s1 hk k_932 ⟨Nat.le_of_ble_eq_true rfl, Nat.le_of_ble_eq_true rfl⟩) (pMC_v hK hP hD hC hS hA (ci := 5) (q0 := 3) rfl rfl rfl) rfl rfl hl.1 rfl (lv_room (Nat.le_of_ble_eq_true rfl)) d_A_isLaterSymbol_60 ⟨by decide, by decide⟩) hS hA hD (fun rz10 u t H locs hr0 ht hB hFr hS => ?_)
          obtain ⟨x3_5z10, x3_6z10, y4z10, y5z10, y6z10, hP, hD⟩ := hB
          rw [ht] at hP
          have hD := dwk hD hFr
          clear ht hFr
          have hP : va_P D classes (wS52 K cI cJ cZ cB p0 p1 p2 p3 p4 p5 p6 p7 p8 p9 p10 p11 p12 p13 p14 p15 x0_3 x0_4 x0_5 x0_6 x0_7 x0_8 x0_9 x0_10 x0_11 x0_12 x0_13 rz5 x1_1 x1_2 x1_3 x1_4 x1_5 x1_6 x1_7 x1_8 y2 x3_5z10 x3_6z10 y4z10 y5z10 y6z10 y7 y8 x9_6 y10 y11 y12 y13 y14 y15) H := hP
          have hD : va_D A (wS52 K cI cJ cZ cB p0 p1 p2 p3 p4 p5 p6 p7 p8 p9 p10 p11 p12 p13 p14 p15 x0_3 x0_4 x0_5 x0_6 x0_7 x0_8 x0_9 x0_10 x0_11 x0_12 x0_13 rz5 x1_1 x1_2 x1_3 x1_4 x1_5 x1_6 x1_7 x1_8 y2 x3_5z10 x3_6z10 y4z10 y5z10 y6z10 y7 y8 x9_6 y10 y11 y12 y13 y14 y15) := hD
          refine va_put (D := D) (ci := 3) (v := .int rz10) (ty := .int) (C := "SignMachine$Assembler") (T := F_A) (N := 15) hx hb hk fi_A ft_A ft_A_ok fn_A hown hK.1 hP hD hS 0 rfl rfl 14 (by decide) (hk _ k_651) (fun _ h9 => h9) rfl (by decide +kernel) rfl rfl (Nat.le_of_ble_eq_true rfl) d_A_isLaterSymbol_63 (fun H locs hP hD hS => ?_)
          have hP : va_P D classes (wS52 K cI cJ cZ cB p0 p1 p2 p3 p4 p5 p6 p7 p8 p9 p10 p11 p12 p13 p14 p15 x0_3 x0_4 x0_5 x0_6 x0_7 x0_8 x0_9 x0_10 x0_11 x0_12 x0_13 rz10 x1_1 x1_2 x1_3 x1_4 x1_5 x1_6 x1_7 x1_8 y2 x3_5z10 x3_6z10 y4z10 y5z10 y6z10 y7 y8 x9_6 y10 y11 y12 y13 y14 y15) H := hP
          have hD : va_D A (wS52 K cI cJ cZ cB p0 p1 p2 p3 p4 p5 p6 p7 p8 p9 p10 p11 p12 p13 p14 p15 x0_3 x0_4 x0_5 x0_6 x0_7 x0_8 x0_9 x0_10 x0_11 x0_12 x0_13 rz10 x1_1 x1_2 x1_3 x1_4 x1_5 x1_6 x1_7 x1_8 y2 x3_5z10 x3_6z10 y4z10 y5z10 y6z10 y7 y8 x9_6 y10 y11 y12 y13 y14 y15) := hD
          refine lv_aload_n hx hb d_A_isLaterSymbol_66 rfl (lv_at hl 0 rfl) ?_
          refine va_get (D := D) (ci := 3) (v := .int rz10) (C := "SignMachine$Assembler") (T := F_A) (N := 15) hx hb hk fi_A hown hK.1 hP 0 rfl rfl 14 (by decide) (hk _ k_651) (fun _ h9 => h9) rfl d_A_isLaterSymbol_67 ?_
          refine lv_if_ge (tgt := 79) hx hb d_A_isLaterSymbol_70 (by decide) (fun c11 => ?_) (fun c11 => ?_)
          · refine lv_iconst (v := 1) hx hb d_A_isLaterSymbol_79 (by decide) ?_
            exact W.zret (v := (1 : Int32)) hx hb hr rfl (fun t ht hW => ⟨⟨(1 : Int32), (), rfl, ⟨true, rfl⟩, ⟨x0_3, x0_4, rz10, x3_5z10, x3_6z10, y4z10, y5z10, y6z10, by show va_P D classes _ t.heap; rw [ht]; exact hP, hD⟩⟩, hS.F ht⟩) hS.2.2 d_A_isLaterSymbol_80
          · refine lv_aload_n hx hb d_A_isLaterSymbol_73 rfl (lv_at hl 0 rfl) ?_
            refine lv_iconst (v := 5) hx hb d_A_isLaterSymbol_74 (by decide) ?_
            refine sn_i (va_runV (C := "SignMachine$Assembler") (As := [.int (5 : Int32)]) (rest := []) ⟨hx, hb, hml, hown, hk⟩ (c_A_fail_s1 l K D cI cJ cZ cB p0 p1 p2 p3 p4 p5 p6 p7 p8 p9 p10 p11 p12 p13 p14 p15 H.size x0_3 x0_4 x0_5 x0_6 x0_7 x0_8 x0_9 x0_10 x0_11 x0_12 x0_13 rz10 x1_1 x1_2 x1_3 x1_4 x1_5 x1_6 x1_7 x1_8 y2 x3_5z10 x3_6z10 y4z10 y5z10 y6z10 y7 y8 x9_6 y10 y11 y12 y13 y14 y15  (5 : Int32) ) (v_A_fail_s1 hk k_767 ⟨Nat.le_of_ble_eq_true rfl, Nat.le_of_ble_eq_true rfl⟩) (pMC_v hK hP hD hC hS hA (ci := 3) (q0 := 0) rfl rfl rfl) rfl rfl hl.1 rfl (lv_room (Nat.le_of_ble_eq_true rfl)) d_A_isLaterSymbol_75 ⟨by decide, by decide⟩) hS hA hD (fun rz12 u t H locs hr0 ht hB hFr hS => ?_)
            obtain ⟨x0_3z12, x0_4z12, hP, hD⟩ := hB
            rw [ht] at hP
            have hD := dwk hD hFr
            clear ht hFr
            have hP : va_P D classes (wS52 K cI cJ cZ cB p0 p1 p2 p3 p4 p5 p6 p7 p8 p9 p10 p11 p12 p13 p14 p15 x0_3z12 x0_4z12 x0_5 x0_6 x0_7 x0_8 x0_9 x0_10 x0_11 x0_12 x0_13 rz10 x1_1 x1_2 x1_3 x1_4 x1_5 x1_6 x1_7 x1_8 y2 x3_5z10 x3_6z10 y4z10 y5z10 y6z10 y7 y8 x9_6 y10 y11 y12 y13 y14 y15) H := hP
            have hD : va_D A (wS52 K cI cJ cZ cB p0 p1 p2 p3 p4 p5 p6 p7 p8 p9 p10 p11 p12 p13 p14 p15 x0_3z12 x0_4z12 x0_5 x0_6 x0_7 x0_8 x0_9 x0_10 x0_11 x0_12 x0_13 rz10 x1_1 x1_2 x1_3 x1_4 x1_5 x1_6 x1_7 x1_8 y2 x3_5z10 x3_6z10 y4z10 y5z10 y6z10 y7 y8 x9_6 y10 y11 y12 y13 y14 y15) := hD
            refine lv_pop hx hb d_A_isLaterSymbol_78 rfl ?_
            refine lv_iconst (v := 1) hx hb d_A_isLaterSymbol_79 (by decide) ?_
            exact W.zret (v := (1 : Int32)) hx hb hr rfl (fun t ht hW => ⟨⟨(1 : Int32), (), rfl, ⟨true, rfl⟩, ⟨x0_3z12, x0_4z12, rz10, x3_5z10, x3_6z10, y4z10, y5z10, y6z10, by show va_P D classes _ t.heap; rw [ht]; exact hP, hD⟩⟩, hS.F ht⟩) hS.2.2 d_A_isLaterSymbol_80
      · refine lv_iconst (v := 0) hx hb d_A_isLaterSymbol_45 (by decide) ?_
        exact W.zret (v := (0 : Int32)) hx hb hr rfl (fun t ht hW => ⟨⟨(0 : Int32), (), rfl, ⟨false, rfl⟩, ⟨x0_3, x0_4, rz5, x3_5, x3_6, y4, y5, y6, by show va_P D classes _ t.heap; rw [ht]; exact hP, hD⟩⟩, hS.F ht⟩) hS.2.2 d_A_isLaterSymbol_46
    · refine lv_iconst (v := 0) hx hb d_A_isLaterSymbol_17 (by decide) ?_
      exact W.zret (v := (0 : Int32)) hx hb hr rfl (fun t ht hW => ⟨⟨(0 : Int32), (), rfl, ⟨false, rfl⟩, ⟨x0_3, x0_4, x0_14, x3_5, x3_6, y4, y5, y6, by show va_P D classes _ t.heap; rw [ht]; exact hP, hD⟩⟩, hS.F ht⟩) hS.2.2 d_A_isLaterSymbol_18
theorem v_A_isLaterSymbol_s1 {R : Room} {s : State} {args : Array Value} {own : String} {index : Nat} (hk : ∀ w ∈ tb, w.before args s = true) (hl : Cond.methodLink own index y_A_isLaterSymbol ∈ tb) (hR : 2 + 1 ≤ R.frames ∧ 8 + (3 + 11) + 45 ≤ R.locals) : CallW R s args own "SignMachine$Assembler" index y_A_isLaterSymbol b_A_isLaterSymbol 3 (some .boolean) (.code y_A_isLaterSymbol b_A_isLaterSymbol 3 (some .boolean) :: tb) ({ frames := 2, cells := 0, slots := 0, locals := 45 }) 0 0 1 := mk_v 1 hk k_1043 hl k_1042 k_54 k_123 rfl rfl h_A_isLaterSymbol hR
set_option maxHeartbeats 4000000 in
set_option maxRecDepth 100000 in
theorem c_A_readLaterName_s1 (l : Launch) (K : CK) (D : va_G) (cI cJ cZ cB : ClassId) (p0 p1 p2 p3 p4 p5 p6 p7 p8 p9 p10 p11 p12 p13 p14 p15 : Nat) (sz : Nat) (x0_3 : Int32) (x0_4 : Int32) (x0_5 : Int32) (x0_6 : Int32) (x0_7 : Int32) (x0_8 : Bool) (x0_9 : Int64) (x0_10 : Int32) (x0_11 : Option (Fin 51)) (x0_12 : Int32) (x0_13 : Int32) (x0_14 : Int32) (x1_1 : Int32) (x1_2 : Int32) (x1_3 : Int32) (x1_4 : Int32) (x1_5 : Int32) (x1_6 : Int32) (x1_7 : Int64) (x1_8 : Int32) (y2 : Nat → Int32) (x3_5 : Int32) (x3_6 : Int32) (y4 : Nat → Int64) (y5 : Nat → Int32) (y6 : Nat → Int32) (y7 : Nat → Int32) (y8 : Nat → Int32) (x9_6 : Int32) (y10 : Nat → Int32) (y11 : Nat → Int32) (y12 : Nat → Int32) (y13 : Nat → Int32) (y14 : Nat → Int32) (y15 : Nat → Int32)   : Met l y_A_readLaterName (.code y_A_readLaterName b_A_readLaterName 3 (some .boolean) :: tb) ({ frames := 3, cells := 0, slots := 0, locals := 67 }) (pMC K D cI cJ cZ cB (wS52 K cI cJ cZ cB p0 p1 p2 p3 p4 p5 p6 p7 p8 p9 p10 p11 p12 p13 p14 p15 x0_3 x0_4 x0_5 x0_6 x0_7 x0_8 x0_9 x0_10 x0_11 x0_12 x0_13 x0_14 x1_1 x1_2 x1_3 x1_4 x1_5 x1_6 x1_7 x1_8 y2 x3_5 x3_6 y4 y5 y6 y7 y8 x9_6 y10 y11 y12 y13 y14 y15) sz [.ref p0]) (va_Qi (fun r (_ : Unit) => ∃ z : Bool, r = bI z) (fun _ t => (∃ u_x0_3 : Int32, ∃ u_x0_4 : Int32, ∃ u_x0_13 : Int32, ∃ u_x0_14 : Int32, ∃ u_x1_3 : Int32, ∃ u_x1_6 : Int32, ∃ u_x1_7 : Int64, ∃ u_x1_8 : Int32, ∃ u_x3_5 : Int32, ∃ u_x3_6 : Int32, ∃ u_y4 : Nat → Int64, ∃ u_y5 : Nat → Int32, ∃ u_y6 : Nat → Int32, va_P D classes (wS52 K cI cJ cZ cB p0 p1 p2 p3 p4 p5 p6 p7 p8 p9 p10 p11 p12 p13 p14 p15 u_x0_3 u_x0_4 x0_5 x0_6 x0_7 x0_8 x0_9 x0_10 x0_11 x0_12 u_x0_13 u_x0_14 x1_1 x1_2 u_x1_3 x1_4 x1_5 u_x1_6 u_x1_7 u_x1_8 y2 u_x3_5 u_x3_6 u_y4 u_y5 u_y6 y7 y8 x9_6 y10 y11 y12 y13 y14 y15) t.heap ∧ va_D (va_A (wS52 K cI cJ cZ cB p0 p1 p2 p3 p4 p5 p6 p7 p8 p9 p10 p11 p12 p13 p14 p15 x0_3 x0_4 x0_5 x0_6 x0_7 x0_8 x0_9 x0_10 x0_11 x0_12 x0_13 x0_14 x1_1 x1_2 x1_3 x1_4 x1_5 x1_6 x1_7 x1_8 y2 x3_5 x3_6 y4 y5 y6 y7 y8 x9_6 y10 y11 y12 y13 y14 y15) sz) (wS52 K cI cJ cZ cB p0 p1 p2 p3 p4 p5 p6 p7 p8 p9 p10 p11 p12 p13 p14 p15 u_x0_3 u_x0_4 x0_5 x0_6 x0_7 x0_8 x0_9 x0_10 x0_11 x0_12 u_x0_13 u_x0_14 x1_1 x1_2 u_x1_3 x1_4 x1_5 u_x1_6 u_x1_7 u_x1_8 y2 u_x3_5 u_x3_6 u_y4 u_y5 u_y6 y7 y8 x9_6 y10 y11 y12 y13 y14 y15))) (va_A (wS52 K cI cJ cZ cB p0 p1 p2 p3 p4 p5 p6 p7 p8 p9 p10 p11 p12 p13 p14 p15 x0_3 x0_4 x0_5 x0_6 x0_7 x0_8 x0_9 x0_10 x0_11 x0_12 x0_13 x0_14 x1_1 x1_2 x1_3 x1_4 x1_5 x1_6 x1_7 x1_8 y2 x3_5 x3_6 y4 y5 y6 y7 y8 x9_6 y10 y11 y12 y13 y14 y15) sz)) 0 0 (va_A (wS52 K cI cJ cZ cB p0 p1 p2 p3 p4 p5 p6 p7 p8 p9 p10 p11 p12 p13 p14 p15 x0_3 x0_4 x0_5 x0_6 x0_7 x0_8 x0_9 x0_10 x0_11 x0_12 x0_13 x0_14 x1_1 x1_2 x1_3 x1_4 x1_5 x1_6 x1_7 x1_8 y2 x3_5 x3_6 y4 y5 y6 y7 y8 x9_6 y10 y11 y12 y13 y14 y15) sz) := by
  refine Met.ofW (cc := b_A_readLaterName) (maxL := 3) (ret := (some .boolean)) (by decide) rfl ?_
  intro p e s m args below meth c s₁ B hml hv
  obtain ⟨rfl, hsz, hK, hP, hD0, hC⟩ := hv
  subst hsz
  have hD := hD0.self (sz := s.heap.size)
  generalize hAe : va_A (wS52 K cI cJ cZ cB p0 p1 p2 p3 p4 p5 p6 p7 p8 p9 p10 p11 p12 p13 p14 p15 x0_3 x0_4 x0_5 x0_6 x0_7 x0_8 x0_9 x0_10 x0_11 x0_12 x0_13 x0_14 x1_1 x1_2 x1_3 x1_4 x1_5 x1_6 x1_7 x1_8 y2 x3_5 x3_6 y4 y5 y6 y7 y8 x9_6 y10 y11 y12 y13 y14 y15) s.heap.size = A at hD hC ⊢
  have hA : ∀ q : Nat, s.heap.size ≤ q → A q := fun q h => by rw [← hAe]; exact Or.inr h
  clear hAe hD0
  have hS : va_S A s.heap s.heap [] := va_S.rf
  have hx := B.exec
  have hb := B.bytes
  have hr := B.returns
  have hts := atoms_spec (ws := .code y_A_readLaterName b_A_readLaterName 3 (some .boolean) :: tb) B.pre
  have hk : ∀ w ∈ tb, w.before [.ref p0].toArray s = true := fun w h => hts w (List.mem_cons_of_mem _ h)
  have hown : s.vm.findClass "SignMachine$Assembler" = some m.cls := findClass_of_methodNamed B.named
  have hlocks := B.notSynchronized
  have hl := lv_entry ([.ref p0]) (n := 3) (Nat.le_of_ble_eq_true rfl)
  rw [lg_entry_eq]
  generalize (lg_sl ([.ref p0]) ++ List.replicate (3 - (lg_sl ([.ref p0])).length) Slot.unset).toArray = ls at hl ⊢
  have hl : lv_has ls 3 [(0, .ref p0)] := hl
  refine lv_aload_n hx hb d_A_readLaterName_0 rfl (lv_at hl 0 rfl) ?_
  refine va_get (D := D) (ci := 3) (v := .ref p1) (C := "SignMachine$Assembler") (T := F_A) (N := 15) hx hb hk fi_A hown hK.1 hP 0 rfl rfl 0 (by decide) (hk _ k_631) (fun _ h9 => h9) rfl d_A_readLaterName_1 ?_
  refine va_getN (D := D) (ci := 4) (v := .int x1_3) (C := "SignMachine$Source") (T := F_R) (N := 9) hx hb hk fi_R hown hK.1 hP 1 rfl rfl 3 (by decide) (va_Nw.use rfl (hK.2 _ n_541)) (fun _ h9 => h9) rfl d_A_readLaterName_4 ?_
  refine lv_istore_n (lv' := [(1, .int x1_3), (0, .ref p0)]) hx hb d_A_readLaterName_7 rfl hl (by decide) rfl (fun ls hl => ?_)
  refine lv_aload_n hx hb d_A_readLaterName_8 rfl (lv_at hl 1 rfl) ?_
  refine va_get (D := D) (ci := 3) (v := .ref p1) (C := "SignMachine$Assembler") (T := F_A) (N := 15) hx hb hk fi_A hown hK.1 hP 0 rfl rfl 0 (by decide) (hk _ k_631) (fun _ h9 => h9) rfl d_A_readLaterName_9 ?_
  refine kn_v (va_runV (C := "SignMachine$Source") (As := []) (rest := []) ⟨hx, hb, hml, hown, hk⟩ (c_R_readToken_s1 l K D cI cJ cZ cB p0 p1 p2 p3 p4 p5 p6 p7 p8 p9 p10 p11 p12 p13 p14 p15 s.heap.size x0_3 x0_4 x0_5 x0_6 x0_7 x0_8 x0_9 x0_10 x0_11 x0_12 x0_13 x0_14 x1_1 x1_2 x1_3 x1_4 x1_5 x1_6 x1_7 x1_8 y2 x3_5 x3_6 y4 y5 y6 y7 y8 x9_6 y10 y11 y12 y13 y14 y15   ) (v_R_readToken_s1 hk k_752 ⟨Nat.le_of_ble_eq_true rfl, Nat.le_of_ble_eq_true rfl⟩) (pMC_v hK hP hD hC hS hA (ci := 4) (q0 := 1) rfl rfl rfl) rfl rfl hl.1 rfl (lv_room (Nat.le_of_ble_eq_true rfl)) d_A_readLaterName_12 ⟨by decide, by decide⟩) hS hA hD (fun u t H locs ht hB hFr hS => ?_)
  obtain ⟨x1_3z1, x1_6z1, x1_7z1, x1_8z1, hP, hD⟩ := hB
  rw [ht] at hP
  have hD := dwk hD hFr
  clear ht hFr
  have hP : va_P D classes (wS52 K cI cJ cZ cB p0 p1 p2 p3 p4 p5 p6 p7 p8 p9 p10 p11 p12 p13 p14 p15 x0_3 x0_4 x0_5 x0_6 x0_7 x0_8 x0_9 x0_10 x0_11 x0_12 x0_13 x0_14 x1_1 x1_2 x1_3z1 x1_4 x1_5 x1_6z1 x1_7z1 x1_8z1 y2 x3_5 x3_6 y4 y5 y6 y7 y8 x9_6 y10 y11 y12 y13 y14 y15) H := hP
  have hD : va_D A (wS52 K cI cJ cZ cB p0 p1 p2 p3 p4 p5 p6 p7 p8 p9 p10 p11 p12 p13 p14 p15 x0_3 x0_4 x0_5 x0_6 x0_7 x0_8 x0_9 x0_10 x0_11 x0_12 x0_13 x0_14 x1_1 x1_2 x1_3z1 x1_4 x1_5 x1_6z1 x1_7z1 x1_8z1 y2 x3_5 x3_6 y4 y5 y6 y7 y8 x9_6 y10 y11 y12 y13 y14 y15) := hD
  refine lv_aload_n hx hb d_A_readLaterName_15 rfl (lv_at hl 1 rfl) ?_
  refine va_get (D := D) (ci := 3) (v := .ref p1) (C := "SignMachine$Assembler") (T := F_A) (N := 15) hx hb hk fi_A hown hK.1 hP 0 rfl rfl 0 (by decide) (hk _ k_631) (fun _ h9 => h9) rfl d_A_readLaterName_16 ?_
  refine va_getN (D := D) (ci := 4) (v := .int x1_6z1) (C := "SignMachine$Source") (T := F_R) (N := 9) hx hb hk fi_R hown hK.1 hP 1 rfl rfl 6 (by decide) (va_Nw.use rfl (hK.2 _ n_544)) (fun _ h9 => h9) rfl d_A_readLaterName_19 ?_
  refine lv_iconst (v := 2) hx hb d_A_readLaterName_22 (by decide) ?_
  refine lv_icmp_ne (tgt := 89) hx hb d_A_readLaterName_23 (by decide) (fun c2 => ?_) (fun c2 => ?_)
  · refine lv_aload_n hx hb d_A_readLaterName_89 rfl (lv_at hl 1 rfl) ?_
    refine va_get (D := D) (ci := 3) (v := .ref p1) (C := "SignMachine$Assembler") (T := F_A) (N := 15) hx hb hk fi_A hown hK.1 hP 0 rfl rfl 0 (by decide) (hk _ k_631) (fun _ h9 => h9) rfl d_A_readLaterName_90 ?_
    refine lv_iload_n hx hb d_A_readLaterName_93 rfl (lv_at hl 0 rfl) ?_
    refine va_putN (D := D) (ci := 4) (v := .int x1_3) (ty := .int) (C := "SignMachine$Source") (T := F_R) (N := 9) hx hb hk fi_R ft_R ft_R_ok fn_R hown hK.1 hP hD hS 1 rfl rfl 3 (by decide) (va_Nw.use rfl (hK.2 _ n_541)) (fun _ h9 => h9) rfl (by decide +kernel) rfl rfl (Nat.le_of_ble_eq_true rfl) d_A_readLaterName_94 (fun H locs hP hD hS => ?_)
    have hP : va_P D classes (wS52 K cI cJ cZ cB p0 p1 p2 p3 p4 p5 p6 p7 p8 p9 p10 p11 p12 p13 p14 p15 x0_3 x0_4 x0_5 x0_6 x0_7 x0_8 x0_9 x0_10 x0_11 x0_12 x0_13 x0_14 x1_1 x1_2 x1_3 x1_4 x1_5 x1_6z1 x1_7z1 x1_8z1 y2 x3_5 x3_6 y4 y5 y6 y7 y8 x9_6 y10 y11 y12 y13 y14 y15) H := hP
    have hD : va_D A (wS52 K cI cJ cZ cB p0 p1 p2 p3 p4 p5 p6 p7 p8 p9 p10 p11 p12 p13 p14 p15 x0_3 x0_4 x0_5 x0_6 x0_7 x0_8 x0_9 x0_10 x0_11 x0_12 x0_13 x0_14 x1_1 x1_2 x1_3 x1_4 x1_5 x1_6z1 x1_7z1 x1_8z1 y2 x3_5 x3_6 y4 y5 y6 y7 y8 x9_6 y10 y11 y12 y13 y14 y15) := hD
    refine lv_iconst (v := 0) hx hb d_A_readLaterName_97 (by decide) ?_
    exact W.zret (v := (0 : Int32)) hx hb hr rfl (fun t ht hW => ⟨⟨(0 : Int32), (), rfl, ⟨false, rfl⟩, ⟨x0_3, x0_4, x0_13, x0_14, x1_3, x1_6z1, x1_7z1, x1_8z1, x3_5, x3_6, y4, y5, y6, by show va_P D classes _ t.heap; rw [ht]; exact hP, hD⟩⟩, hS.F ht⟩) hS.2.2 d_A_readLaterName_98
  · refine lv_aload_n hx hb d_A_readLaterName_26 rfl (lv_at hl 1 rfl) ?_
    refine va_get (D := D) (ci := 3) (v := .ref p1) (C := "SignMachine$Assembler") (T := F_A) (N := 15) hx hb hk fi_A hown hK.1 hP 0 rfl rfl 0 (by decide) (hk _ k_631) (fun _ h9 => h9) rfl d_A_readLaterName_27 ?_
    refine sn_i (va_runV (C := "SignMachine$Source") (As := []) (rest := []) ⟨hx, hb, hml, hown, hk⟩ (c_R_peek_s1 l K D cI cJ cZ cB p0 p1 p2 p3 p4 p5 p6 p7 p8 p9 p10 p11 p12 p13 p14 p15 H.size x0_3 x0_4 x0_5 x0_6 x0_7 x0_8 x0_9 x0_10 x0_11 x0_12 x0_13 x0_14 x1_1 x1_2 x1_3z1 x1_4 x1_5 x1_6z1 x1_7z1 x1_8z1 y2 x3_5 x3_6 y4 y5 y6 y7 y8 x9_6 y10 y11 y12 y13 y14 y15   ) (v_R_peek_s1 hk k_739 ⟨Nat.le_of_ble_eq_true rfl, Nat.le_of_ble_eq_true rfl⟩) (pMC_v hK hP hD hC hS hA (ci := 4) (q0 := 1) rfl rfl rfl) rfl rfl hl.1 rfl (lv_room (Nat.le_of_ble_eq_true rfl)) d_A_readLaterName_30 ⟨by decide, by decide⟩) hS hA hD (fun rz3 u t H locs hr0 ht hB hFr hS => ?_)
    obtain ⟨hP, hD⟩ := hB
    rw [ht] at hP
    have hD := dwk hD hFr
    clear ht hFr
    have hP : va_P D classes (wS52 K cI cJ cZ cB p0 p1 p2 p3 p4 p5 p6 p7 p8 p9 p10 p11 p12 p13 p14 p15 x0_3 x0_4 x0_5 x0_6 x0_7 x0_8 x0_9 x0_10 x0_11 x0_12 x0_13 x0_14 x1_1 x1_2 x1_3z1 x1_4 x1_5 x1_6z1 x1_7z1 x1_8z1 y2 x3_5 x3_6 y4 y5 y6 y7 y8 x9_6 y10 y11 y12 y13 y14 y15) H := hP
    have hD : va_D A (wS52 K cI cJ cZ cB p0 p1 p2 p3 p4 p5 p6 p7 p8 p9 p10 p11 p12 p13 p14 p15 x0_3 x0_4 x0_5 x0_6 x0_7 x0_8 x0_9 x0_10 x0_11 x0_12 x0_13 x0_14 x1_1 x1_2 x1_3z1 x1_4 x1_5 x1_6z1 x1_7z1 x1_8z1 y2 x3_5 x3_6 y4 y5 y6 y7 y8 x9_6 y10 y11 y12 y13 y14 y15) := hD
    refine cs_i (W.runS (As := [.int rz3]) (rest := []) ⟨hx, hb, hml, hown, hk⟩ (c_A_isOperator l rz3) (s_A_isOperator hk k_1018 ⟨Nat.le_of_ble_eq_true rfl, Nat.le_of_ble_eq_true rfl⟩) ⟨fun a U g mk q => q, fun U hU hW => ⟨rfl, trivial⟩⟩ rfl rfl hl.1 rfl (lv_room (Nat.le_of_ble_eq_true rfl)) d_A_readLaterName_33 ⟨Nat.le_of_ble_eq_true rfl, Nat.le_of_ble_eq_true rfl⟩) ?_
    obtain ⟨z4, hz4⟩ : ∃ y : Bool, y = (f_A_isOperator rz3) := ⟨_, rfl⟩
    rw [← hz4]
    refine lv_if_ne (tgt := 89) hx hb d_A_readLaterName_36 (by decide) (fun c5 => ?_) (fun c5 => ?_)
    · refine lv_aload_n hx hb d_A_readLaterName_89 rfl (lv_at hl 1 rfl) ?_
      refine va_get (D := D) (ci := 3) (v := .ref p1) (C := "SignMachine$Assembler") (T := F_A) (N := 15) hx hb hk fi_A hown hK.1 hP 0 rfl rfl 0 (by decide) (hk _ k_631) (fun _ h9 => h9) rfl d_A_readLaterName_90 ?_
      refine lv_iload_n hx hb d_A_readLaterName_93 rfl (lv_at hl 0 rfl) ?_
      refine va_putN (D := D) (ci := 4) (v := .int x1_3) (ty := .int) (C := "SignMachine$Source") (T := F_R) (N := 9) hx hb hk fi_R ft_R ft_R_ok fn_R hown hK.1 hP hD hS 1 rfl rfl 3 (by decide) (va_Nw.use rfl (hK.2 _ n_541)) (fun _ h9 => h9) rfl (by decide +kernel) rfl rfl (Nat.le_of_ble_eq_true rfl) d_A_readLaterName_94 (fun H locs hP hD hS => ?_)
      have hP : va_P D classes (wS52 K cI cJ cZ cB p0 p1 p2 p3 p4 p5 p6 p7 p8 p9 p10 p11 p12 p13 p14 p15 x0_3 x0_4 x0_5 x0_6 x0_7 x0_8 x0_9 x0_10 x0_11 x0_12 x0_13 x0_14 x1_1 x1_2 x1_3 x1_4 x1_5 x1_6z1 x1_7z1 x1_8z1 y2 x3_5 x3_6 y4 y5 y6 y7 y8 x9_6 y10 y11 y12 y13 y14 y15) H := hP
      have hD : va_D A (wS52 K cI cJ cZ cB p0 p1 p2 p3 p4 p5 p6 p7 p8 p9 p10 p11 p12 p13 p14 p15 x0_3 x0_4 x0_5 x0_6 x0_7 x0_8 x0_9 x0_10 x0_11 x0_12 x0_13 x0_14 x1_1 x1_2 x1_3 x1_4 x1_5 x1_6z1 x1_7z1 x1_8z1 y2 x3_5 x3_6 y4 y5 y6 y7 y8 x9_6 y10 y11 y12 y13 y14 y15) := hD
      refine lv_iconst (v := 0) hx hb d_A_readLaterName_97 (by decide) ?_
      exact W.zret (v := (0 : Int32)) hx hb hr rfl (fun t ht hW => ⟨⟨(0 : Int32), (), rfl, ⟨false, rfl⟩, ⟨x0_3, x0_4, x0_13, x0_14, x1_3, x1_6z1, x1_7z1, x1_8z1, x3_5, x3_6, y4, y5, y6, by show va_P D classes _ t.heap; rw [ht]; exact hP, hD⟩⟩, hS.F ht⟩) hS.2.2 d_A_readLaterName_98
    · refine lv_aload_n hx hb d_A_readLaterName_39 rfl (lv_at hl 1 rfl) ?_
      refine va_get (D := D) (ci := 3) (v := .ref p1) (C := "SignMachine$Assembler") (T := F_A) (N := 15) hx hb hk fi_A hown hK.1 hP 0 rfl rfl 0 (by decide) (hk _ k_631) (fun _ h9 => h9) rfl d_A_readLaterName_40 ?_
      refine va_getN (D := D) (ci := 4) (v := .long x1_7z1) (C := "SignMachine$Source") (T := F_R) (N := 9) hx hb hk fi_R hown hK.1 hP 1 rfl rfl 7 (by decide) (va_Nw.use rfl (hK.2 _ n_546)) (fun _ h9 => h9) rfl d_A_readLaterName_43 ?_
      refine lv_bipush (v := 6) hx hb d_A_readLaterName_46 (by decide) ?_
      refine cs_i (W.runS (As := [.long x1_7z1, .int (6 : Int32)]) (rest := []) ⟨hx, hb, hml, hown, hk⟩ (c_N_localDigit l x1_7z1 (6 : Int32)) (s_N_localDigit hk k_771 ⟨Nat.le_of_ble_eq_true rfl, Nat.le_of_ble_eq_true rfl⟩) ⟨fun a U g mk q => q, fun U hU hW => ⟨rfl, trivial⟩⟩ rfl rfl hl.1 rfl (lv_room (Nat.le_of_ble_eq_true rfl)) d_A_readLaterName_48 ⟨Nat.le_of_ble_eq_true rfl, Nat.le_of_ble_eq_true rfl⟩) ?_
      refine lv_topi (fun v6 hv6 => ?_)
      refine lv_istore_n (lv' := [(2, .int v6), (1, .int x1_3), (0, .ref p0)]) hx hb d_A_readLaterName_51 rfl hl (by decide) rfl (fun ls hl => ?_)
      refine lv_iload_n hx hb d_A_readLaterName_52 rfl (lv_at hl 0 rfl) ?_
      refine lv_if_lt (tgt := 68) hx hb d_A_readLaterName_53 (by decide) (fun c7 => ?_) (fun c7 => ?_)
      · refine lv_aload_n hx hb d_A_readLaterName_68 rfl (lv_at hl 2 rfl) ?_
        refine lv_aload_n hx hb d_A_readLaterName_69 rfl (lv_at hl 2 rfl) ?_
        refine va_get (D := D) (ci := 3) (v := .ref p1) (C := "SignMachine$Assembler") (T := F_A) (N := 15) hx hb hk fi_A hown hK.1 hP 0 rfl rfl 0 (by decide) (hk _ k_631) (fun _ h9 => h9) rfl d_A_readLaterName_70 ?_
        refine va_getN (D := D) (ci := 4) (v := .long x1_7z1) (C := "SignMachine$Source") (T := F_R) (N := 9) hx hb hk fi_R hown hK.1 hP 1 rfl rfl 7 (by decide) (va_Nw.use rfl (hK.2 _ n_546)) (fun _ h9 => h9) rfl d_A_readLaterName_73 ?_
        refine sn_i (va_runV (C := "SignMachine$Assembler") (As := [.long x1_7z1]) (rest := []) ⟨hx, hb, hml, hown, hk⟩ (c_A_isLaterSymbol_s1 l K D cI cJ cZ cB p0 p1 p2 p3 p4 p5 p6 p7 p8 p9 p10 p11 p12 p13 p14 p15 H.size x0_3 x0_4 x0_5 x0_6 x0_7 x0_8 x0_9 x0_10 x0_11 x0_12 x0_13 x0_14 x1_1 x1_2 x1_3z1 x1_4 x1_5 x1_6z1 x1_7z1 x1_8z1 y2 x3_5 x3_6 y4 y5 y6 y7 y8 x9_6 y10 y11 y12 y13 y14 y15  x1_7z1 ) (v_A_isLaterSymbol_s1 hk k_1040 ⟨Nat.le_of_ble_eq_true rfl, Nat.le_of_ble_eq_true rfl⟩) (pMC_v hK hP hD hC hS hA (ci := 3) (q0 := 0) rfl rfl rfl) rfl rfl hl.1 rfl (lv_room (Nat.le_of_ble_eq_true rfl)) d_A_readLaterName_76 ⟨by decide, by decide⟩) hS hA hD (fun rz8 u t H locs hr0 ht hB hFr hS => ?_)
        obtain ⟨z8, hz8⟩ := hr0
        subst hz8
        obtain ⟨x0_3z8, x0_4z8, x0_14z8, x3_5z8, x3_6z8, y4z8, y5z8, y6z8, hP, hD⟩ := hB
        rw [ht] at hP
        have hD := dwk hD hFr
        clear ht hFr
        have hP : va_P D classes (wS52 K cI cJ cZ cB p0 p1 p2 p3 p4 p5 p6 p7 p8 p9 p10 p11 p12 p13 p14 p15 x0_3z8 x0_4z8 x0_5 x0_6 x0_7 x0_8 x0_9 x0_10 x0_11 x0_12 x0_13 x0_14z8 x1_1 x1_2 x1_3z1 x1_4 x1_5 x1_6z1 x1_7z1 x1_8z1 y2 x3_5z8 x3_6z8 y4z8 y5z8 y6z8 y7 y8 x9_6 y10 y11 y12 y13 y14 y15) H := hP
        have hD : va_D A (wS52 K cI cJ cZ cB p0 p1 p2 p3 p4 p5 p6 p7 p8 p9 p10 p11 p12 p13 p14 p15 x0_3z8 x0_4z8 x0_5 x0_6 x0_7 x0_8 x0_9 x0_10 x0_11 x0_12 x0_13 x0_14z8 x1_1 x1_2 x1_3z1 x1_4 x1_5 x1_6z1 x1_7z1 x1_8z1 y2 x3_5z8 x3_6z8 y4z8 y5z8 y6z8 y7 y8 x9_6 y10 y11 y12 y13 y14 y15) := hD
        refine lv_if_eq (tgt := 89) hx hb d_A_readLaterName_79 (by decide) (fun c9 => ?_) (fun c9 => ?_)
        · refine lv_aload_n hx hb d_A_readLaterName_89 rfl (lv_at hl 2 rfl) ?_
          refine va_get (D := D) (ci := 3) (v := .ref p1) (C := "SignMachine$Assembler") (T := F_A) (N := 15) hx hb hk fi_A hown hK.1 hP 0 rfl rfl 0 (by decide) (hk _ k_631) (fun _ h9 => h9) rfl d_A_readLaterName_90 ?_
          refine lv_iload_n hx hb d_A_readLaterName_93 rfl (lv_at hl 1 rfl) ?_
          refine va_putN (D := D) (ci := 4) (v := .int x1_3) (ty := .int) (C := "SignMachine$Source") (T := F_R) (N := 9) hx hb hk fi_R ft_R ft_R_ok fn_R hown hK.1 hP hD hS 1 rfl rfl 3 (by decide) (va_Nw.use rfl (hK.2 _ n_541)) (fun _ h9 => h9) rfl (by decide +kernel) rfl rfl (Nat.le_of_ble_eq_true rfl) d_A_readLaterName_94 (fun H locs hP hD hS => ?_)
          have hP : va_P D classes (wS52 K cI cJ cZ cB p0 p1 p2 p3 p4 p5 p6 p7 p8 p9 p10 p11 p12 p13 p14 p15 x0_3z8 x0_4z8 x0_5 x0_6 x0_7 x0_8 x0_9 x0_10 x0_11 x0_12 x0_13 x0_14z8 x1_1 x1_2 x1_3 x1_4 x1_5 x1_6z1 x1_7z1 x1_8z1 y2 x3_5z8 x3_6z8 y4z8 y5z8 y6z8 y7 y8 x9_6 y10 y11 y12 y13 y14 y15) H := hP
          have hD : va_D A (wS52 K cI cJ cZ cB p0 p1 p2 p3 p4 p5 p6 p7 p8 p9 p10 p11 p12 p13 p14 p15 x0_3z8 x0_4z8 x0_5 x0_6 x0_7 x0_8 x0_9 x0_10 x0_11 x0_12 x0_13 x0_14z8 x1_1 x1_2 x1_3 x1_4 x1_5 x1_6z1 x1_7z1 x1_8z1 y2 x3_5z8 x3_6z8 y4z8 y5z8 y6z8 y7 y8 x9_6 y10 y11 y12 y13 y14 y15) := hD
          refine lv_iconst (v := 0) hx hb d_A_readLaterName_97 (by decide) ?_
          exact W.zret (v := (0 : Int32)) hx hb hr rfl (fun t ht hW => ⟨⟨(0 : Int32), (), rfl, ⟨false, rfl⟩, ⟨x0_3z8, x0_4z8, x0_13, x0_14z8, x1_3, x1_6z1, x1_7z1, x1_8z1, x3_5z8, x3_6z8, y4z8, y5z8, y6z8, by show va_P D classes _ t.heap; rw [ht]; exact hP, hD⟩⟩, hS.F ht⟩) hS.2.2 d_A_readLaterName_98
        · refine lv_aload_n hx hb d_A_readLaterName_82 rfl (lv_at hl 2 rfl) ?_
          refine lv_iconst (v := 1) hx hb d_A_readLaterName_83 (by decide) ?_
          refine va_put (D := D) (ci := 3) (v := .int (1 : Int32)) (ty := .int) (C := "SignMachine$Assembler") (T := F_A) (N := 15) hx hb hk fi_A ft_A ft_A_ok fn_A hown hK.1 hP hD hS 0 rfl rfl 13 (by decide) (hk _ k_650) (fun _ h9 => h9) rfl (by decide +kernel) rfl rfl (Nat.le_of_ble_eq_true rfl) d_A_readLaterName_84 (fun H locs hP hD hS => ?_)
          have hP : va_P D classes (wS52 K cI cJ cZ cB p0 p1 p2 p3 p4 p5 p6 p7 p8 p9 p10 p11 p12 p13 p14 p15 x0_3z8 x0_4z8 x0_5 x0_6 x0_7 x0_8 x0_9 x0_10 x0_11 x0_12 (1 : Int32) x0_14z8 x1_1 x1_2 x1_3z1 x1_4 x1_5 x1_6z1 x1_7z1 x1_8z1 y2 x3_5z8 x3_6z8 y4z8 y5z8 y6z8 y7 y8 x9_6 y10 y11 y12 y13 y14 y15) H := hP
          have hD : va_D A (wS52 K cI cJ cZ cB p0 p1 p2 p3 p4 p5 p6 p7 p8 p9 p10 p11 p12 p13 p14 p15 x0_3z8 x0_4z8 x0_5 x0_6 x0_7 x0_8 x0_9 x0_10 x0_11 x0_12 (1 : Int32) x0_14z8 x1_1 x1_2 x1_3z1 x1_4 x1_5 x1_6z1 x1_7z1 x1_8z1 y2 x3_5z8 x3_6z8 y4z8 y5z8 y6z8 y7 y8 x9_6 y10 y11 y12 y13 y14 y15) := hD
          refine lv_iconst (v := 1) hx hb d_A_readLaterName_87 (by decide) ?_
          exact W.zret (v := (1 : Int32)) hx hb hr rfl (fun t ht hW => ⟨⟨(1 : Int32), (), rfl, ⟨true, rfl⟩, ⟨x0_3z8, x0_4z8, (1 : Int32), x0_14z8, x1_3z1, x1_6z1, x1_7z1, x1_8z1, x3_5z8, x3_6z8, y4z8, y5z8, y6z8, by show va_P D classes _ t.heap; rw [ht]; exact hP, hD⟩⟩, hS.F ht⟩) hS.2.2 d_A_readLaterName_88
      · refine lv_aload_n hx hb d_A_readLaterName_56 rfl (lv_at hl 2 rfl) ?_
        refine lv_iconst (v := 2) hx hb d_A_readLaterName_57 (by decide) ?_
        refine va_put (D := D) (ci := 3) (v := .int (2 : Int32)) (ty := .int) (C := "SignMachine$Assembler") (T := F_A) (N := 15) hx hb hk fi_A ft_A ft_A_ok fn_A hown hK.1 hP hD hS 0 rfl rfl 13 (by decide) (hk _ k_650) (fun _ h9 => h9) rfl (by decide +kernel) rfl rfl (Nat.le_of_ble_eq_true rfl) d_A_readLaterName_58 (fun H locs hP hD hS => ?_)
        have hP : va_P D classes (wS52 K cI cJ cZ cB p0 p1 p2 p3 p4 p5 p6 p7 p8 p9 p10 p11 p12 p13 p14 p15 x0_3 x0_4 x0_5 x0_6 x0_7 x0_8 x0_9 x0_10 x0_11 x0_12 (2 : Int32) x0_14 x1_1 x1_2 x1_3z1 x1_4 x1_5 x1_6z1 x1_7z1 x1_8z1 y2 x3_5 x3_6 y4 y5 y6 y7 y8 x9_6 y10 y11 y12 y13 y14 y15) H := hP
        have hD : va_D A (wS52 K cI cJ cZ cB p0 p1 p2 p3 p4 p5 p6 p7 p8 p9 p10 p11 p12 p13 p14 p15 x0_3 x0_4 x0_5 x0_6 x0_7 x0_8 x0_9 x0_10 x0_11 x0_12 (2 : Int32) x0_14 x1_1 x1_2 x1_3z1 x1_4 x1_5 x1_6z1 x1_7z1 x1_8z1 y2 x3_5 x3_6 y4 y5 y6 y7 y8 x9_6 y10 y11 y12 y13 y14 y15) := hD
        refine lv_aload_n hx hb d_A_readLaterName_61 rfl (lv_at hl 2 rfl) ?_
        refine lv_iload_n hx hb d_A_readLaterName_62 rfl (lv_at hl 0 rfl) ?_
        refine va_put (D := D) (ci := 3) (v := .int v6) (ty := .int) (C := "SignMachine$Assembler") (T := F_A) (N := 15) hx hb hk fi_A ft_A ft_A_ok fn_A hown hK.1 hP hD hS 0 rfl rfl 14 (by decide) (hk _ k_651) (fun _ h9 => h9) rfl (by decide +kernel) rfl rfl (Nat.le_of_ble_eq_true rfl) d_A_readLaterName_63 (fun H locs hP hD hS => ?_)
        have hP : va_P D classes (wS52 K cI cJ cZ cB p0 p1 p2 p3 p4 p5 p6 p7 p8 p9 p10 p11 p12 p13 p14 p15 x0_3 x0_4 x0_5 x0_6 x0_7 x0_8 x0_9 x0_10 x0_11 x0_12 (2 : Int32) v6 x1_1 x1_2 x1_3z1 x1_4 x1_5 x1_6z1 x1_7z1 x1_8z1 y2 x3_5 x3_6 y4 y5 y6 y7 y8 x9_6 y10 y11 y12 y13 y14 y15) H := hP
        have hD : va_D A (wS52 K cI cJ cZ cB p0 p1 p2 p3 p4 p5 p6 p7 p8 p9 p10 p11 p12 p13 p14 p15 x0_3 x0_4 x0_5 x0_6 x0_7 x0_8 x0_9 x0_10 x0_11 x0_12 (2 : Int32) v6 x1_1 x1_2 x1_3z1 x1_4 x1_5 x1_6z1 x1_7z1 x1_8z1 y2 x3_5 x3_6 y4 y5 y6 y7 y8 x9_6 y10 y11 y12 y13 y14 y15) := hD
        refine lv_iconst (v := 1) hx hb d_A_readLaterName_66 (by decide) ?_
        exact W.zret (v := (1 : Int32)) hx hb hr rfl (fun t ht hW => ⟨⟨(1 : Int32), (), rfl, ⟨true, rfl⟩, ⟨x0_3, x0_4, (2 : Int32), v6, x1_3z1, x1_6z1, x1_7z1, x1_8z1, x3_5, x3_6, y4, y5, y6, by show va_P D classes _ t.heap; rw [ht]; exact hP, hD⟩⟩, hS.F ht⟩) hS.2.2 d_A_readLaterName_67
theorem v_A_readLaterName_s1 {R : Room} {s : State} {args : Array Value} {own : String} {index : Nat} (hk : ∀ w ∈ tb, w.before args s = true) (hl : Cond.methodLink own index y_A_readLaterName ∈ tb) (hR : 3 + 1 ≤ R.frames ∧ 8 + (3 + 11) + 67 ≤ R.locals) : CallW R s args own "SignMachine$Assembler" index y_A_readLaterName b_A_readLaterName 3 (some .boolean) (.code y_A_readLaterName b_A_readLaterName 3 (some .boolean) :: tb) ({ frames := 3, cells := 0, slots := 0, locals := 67 }) 0 0 0 := mk_v 0 hk k_1039 hl k_1038 k_53 k_123 rfl rfl h_A_readLaterName hR
set_option maxHeartbeats 4000000 in
set_option maxRecDepth 100000 in
theorem c_N_addLiteral_s1 (l : Launch) (K : CK) (D : va_G) (cI cJ cZ cB : ClassId) (p0 p1 p2 p3 p4 p5 p6 p7 p8 p9 p10 p11 p12 p13 p14 p15 : Nat) (sz : Nat) (x0_3 : Int32) (x0_4 : Int32) (x0_5 : Int32) (x0_6 : Int32) (x0_7 : Int32) (x0_8 : Bool) (x0_9 : Int64) (x0_10 : Int32) (x0_11 : Option (Fin 51)) (x0_12 : Int32) (x0_13 : Int32) (x0_14 : Int32) (x1_1 : Int32) (x1_2 : Int32) (x1_3 : Int32) (x1_4 : Int32) (x1_5 : Int32) (x1_6 : Int32) (x1_7 : Int64) (x1_8 : Int32) (y2 : Nat → Int32) (x3_5 : Int32) (x3_6 : Int32) (y4 : Nat → Int64) (y5 : Nat → Int32) (y6 : Nat → Int32) (y7 : Nat → Int32) (y8 : Nat → Int32) (x9_6 : Int32) (y10 : Nat → Int32) (y11 : Nat → Int32) (y12 : Nat → Int32) (y13 : Nat → Int32) (y14 : Nat → Int32) (y15 : Nat → Int32)  (a1 : Int32) : Met l y_N_addLiteral (.code y_N_addLiteral b_N_addLiteral 2 (some .int) :: tb) ({ frames := 1, cells := 0, slots := 0, locals := 23 }) (pMC K D cI cJ cZ cB (wS52 K cI cJ cZ cB p0 p1 p2 p3 p4 p5 p6 p7 p8 p9 p10 p11 p12 p13 p14 p15 x0_3 x0_4 x0_5 x0_6 x0_7 x0_8 x0_9 x0_10 x0_11 x0_12 x0_13 x0_14 x1_1 x1_2 x1_3 x1_4 x1_5 x1_6 x1_7 x1_8 y2 x3_5 x3_6 y4 y5 y6 y7 y8 x9_6 y10 y11 y12 y13 y14 y15) sz [.ref p3, .int a1]) (va_Qi (fun r (_ : Unit) => True) (fun _ t => (∃ u_x3_5 : Int32, ∃ u_y4 : Nat → Int64, ∃ u_y5 : Nat → Int32, ∃ u_y6 : Nat → Int32, va_P D classes (wS52 K cI cJ cZ cB p0 p1 p2 p3 p4 p5 p6 p7 p8 p9 p10 p11 p12 p13 p14 p15 x0_3 x0_4 x0_5 x0_6 x0_7 x0_8 x0_9 x0_10 x0_11 x0_12 x0_13 x0_14 x1_1 x1_2 x1_3 x1_4 x1_5 x1_6 x1_7 x1_8 y2 u_x3_5 x3_6 u_y4 u_y5 u_y6 y7 y8 x9_6 y10 y11 y12 y13 y14 y15) t.heap ∧ va_D (va_A (wS52 K cI cJ cZ cB p0 p1 p2 p3 p4 p5 p6 p7 p8 p9 p10 p11 p12 p13 p14 p15 x0_3 x0_4 x0_5 x0_6 x0_7 x0_8 x0_9 x0_10 x0_11 x0_12 x0_13 x0_14 x1_1 x1_2 x1_3 x1_4 x1_5 x1_6 x1_7 x1_8 y2 x3_5 x3_6 y4 y5 y6 y7 y8 x9_6 y10 y11 y12 y13 y14 y15) sz) (wS52 K cI cJ cZ cB p0 p1 p2 p3 p4 p5 p6 p7 p8 p9 p10 p11 p12 p13 p14 p15 x0_3 x0_4 x0_5 x0_6 x0_7 x0_8 x0_9 x0_10 x0_11 x0_12 x0_13 x0_14 x1_1 x1_2 x1_3 x1_4 x1_5 x1_6 x1_7 x1_8 y2 u_x3_5 x3_6 u_y4 u_y5 u_y6 y7 y8 x9_6 y10 y11 y12 y13 y14 y15))) (va_A (wS52 K cI cJ cZ cB p0 p1 p2 p3 p4 p5 p6 p7 p8 p9 p10 p11 p12 p13 p14 p15 x0_3 x0_4 x0_5 x0_6 x0_7 x0_8 x0_9 x0_10 x0_11 x0_12 x0_13 x0_14 x1_1 x1_2 x1_3 x1_4 x1_5 x1_6 x1_7 x1_8 y2 x3_5 x3_6 y4 y5 y6 y7 y8 x9_6 y10 y11 y12 y13 y14 y15) sz)) 0 0 (va_A (wS52 K cI cJ cZ cB p0 p1 p2 p3 p4 p5 p6 p7 p8 p9 p10 p11 p12 p13 p14 p15 x0_3 x0_4 x0_5 x0_6 x0_7 x0_8 x0_9 x0_10 x0_11 x0_12 x0_13 x0_14 x1_1 x1_2 x1_3 x1_4 x1_5 x1_6 x1_7 x1_8 y2 x3_5 x3_6 y4 y5 y6 y7 y8 x9_6 y10 y11 y12 y13 y14 y15) sz) := by
  refine Met.ofW (cc := b_N_addLiteral) (maxL := 2) (ret := (some .int)) (by decide) rfl ?_
  intro p e s m args below meth c s₁ B hml hv
  obtain ⟨rfl, hsz, hK, hP, hD0, hC⟩ := hv
  subst hsz
  have hD := hD0.self (sz := s.heap.size)
  generalize hAe : va_A (wS52 K cI cJ cZ cB p0 p1 p2 p3 p4 p5 p6 p7 p8 p9 p10 p11 p12 p13 p14 p15 x0_3 x0_4 x0_5 x0_6 x0_7 x0_8 x0_9 x0_10 x0_11 x0_12 x0_13 x0_14 x1_1 x1_2 x1_3 x1_4 x1_5 x1_6 x1_7 x1_8 y2 x3_5 x3_6 y4 y5 y6 y7 y8 x9_6 y10 y11 y12 y13 y14 y15) s.heap.size = A at hD hC ⊢
  have hA : ∀ q : Nat, s.heap.size ≤ q → A q := fun q h => by rw [← hAe]; exact Or.inr h
  clear hAe hD0
  have hS : va_S A s.heap s.heap [] := va_S.rf
  have hx := B.exec
  have hb := B.bytes
  have hr := B.returns
  have hts := atoms_spec (ws := .code y_N_addLiteral b_N_addLiteral 2 (some .int) :: tb) B.pre
  have hk : ∀ w ∈ tb, w.before [.ref p3, .int a1].toArray s = true := fun w h => hts w (List.mem_cons_of_mem _ h)
  have hown : s.vm.findClass "SignMachine$Names" = some m.cls := findClass_of_methodNamed B.named
  have hlocks := B.notSynchronized
  have hl := lv_entry ([.ref p3, .int a1]) (n := 2) (Nat.le_of_ble_eq_true rfl)
  rw [lg_entry_eq]
  generalize (lg_sl ([.ref p3, .int a1]) ++ List.replicate (2 - (lg_sl ([.ref p3, .int a1])).length) Slot.unset).toArray = ls at hl ⊢
  have hl : lv_has ls 2 [(0, .ref p3), (1, .int a1)] := hl
  refine lv_aload_n hx hb d_N_addLiteral_0 rfl (lv_at hl 0 rfl) ?_
  refine va_get (D := D) (ci := 5) (v := .int x3_5) (C := "SignMachine$Names") (T := F_N) (N := 7) hx hb hk fi_N hown hK.1 hP 3 rfl rfl 5 (by decide) (hk _ k_581) (fun _ h9 => h9) rfl d_N_addLiteral_1 ?_
  refine lv_aload_n hx hb d_N_addLiteral_4 rfl (lv_at hl 0 rfl) ?_
  refine va_get (D := D) (ci := 5) (v := .int x3_6) (C := "SignMachine$Names") (T := F_N) (N := 7) hx hb hk fi_N hown hK.1 hP 3 rfl rfl 6 (by decide) (hk _ k_583) (fun _ h9 => h9) rfl d_N_addLiteral_5 ?_
  refine lv_isub hx hb d_N_addLiteral_8 ?_
  refine lv_topi (fun v1 hv1 => ?_)
  refine lv_bipush (v := 40) hx hb d_N_addLiteral_9 (by decide) ?_
  refine lv_icmp_lt (tgt := 19) hx hb d_N_addLiteral_11 (by decide) (fun c2 => ?_) (fun c2 => ?_)
  · refine lv_aload_n hx hb d_N_addLiteral_19 rfl (lv_at hl 0 rfl) ?_
    refine lv_lconst (v := 0) hx hb d_N_addLiteral_20 (by decide) ?_
    refine lv_iload_n hx hb d_N_addLiteral_21 rfl (lv_at hl 1 rfl) ?_
    refine sn_i (va_runV (C := "SignMachine$Names") (As := [.long (0 : Int64), .int a1]) (rest := []) ⟨hx, hb, hml, hown, hk⟩ (c_N_add_s1 l K D cI cJ cZ cB p0 p1 p2 p3 p4 p5 p6 p7 p8 p9 p10 p11 p12 p13 p14 p15 s.heap.size x0_3 x0_4 x0_5 x0_6 x0_7 x0_8 x0_9 x0_10 x0_11 x0_12 x0_13 x0_14 x1_1 x1_2 x1_3 x1_4 x1_5 x1_6 x1_7 x1_8 y2 x3_5 x3_6 y4 y5 y6 y7 y8 x9_6 y10 y11 y12 y13 y14 y15  (0 : Int64) a1 ) (v_N_add_s1 hk k_936 ⟨Nat.le_of_ble_eq_true rfl, Nat.le_of_ble_eq_true rfl⟩) (pMC_v hK hP hD hC hS hA (ci := 5) (q0 := 3) rfl rfl rfl) rfl rfl hl.1 rfl (lv_room (Nat.le_of_ble_eq_true rfl)) d_N_addLiteral_22 ⟨by decide, by decide⟩) hS hA hD (fun rz3 u t H locs hr0 ht hB hFr hS => ?_)
    obtain ⟨x3_5z3, y4z3, y5z3, y6z3, hP, hD⟩ := hB
    rw [ht] at hP
    have hD := dwk hD hFr
    clear ht hFr
    have hP : va_P D classes (wS52 K cI cJ cZ cB p0 p1 p2 p3 p4 p5 p6 p7 p8 p9 p10 p11 p12 p13 p14 p15 x0_3 x0_4 x0_5 x0_6 x0_7 x0_8 x0_9 x0_10 x0_11 x0_12 x0_13 x0_14 x1_1 x1_2 x1_3 x1_4 x1_5 x1_6 x1_7 x1_8 y2 x3_5z3 x3_6 y4z3 y5z3 y6z3 y7 y8 x9_6 y10 y11 y12 y13 y14 y15) H := hP
    have hD : va_D A (wS52 K cI cJ cZ cB p0 p1 p2 p3 p4 p5 p6 p7 p8 p9 p10 p11 p12 p13 p14 p15 x0_3 x0_4 x0_5 x0_6 x0_7 x0_8 x0_9 x0_10 x0_11 x0_12 x0_13 x0_14 x1_1 x1_2 x1_3 x1_4 x1_5 x1_6 x1_7 x1_8 y2 x3_5z3 x3_6 y4z3 y5z3 y6z3 y7 y8 x9_6 y10 y11 y12 y13 y14 y15) := hD
    exact W.iret (v := rz3) hx hb hr (fun t ht hW => ⟨⟨rz3, (), rfl, trivial, ⟨x3_5z3, y4z3, y5z3, y6z3, by show va_P D classes _ t.heap; rw [ht]; exact hP, hD⟩⟩, hS.F ht⟩) hS.2.2 d_N_addLiteral_25
  · refine lv_bipush (v := (-2)) hx hb d_N_addLiteral_14 (by decide) ?_
    refine lv_goto (tgt := 25) hx hb d_N_addLiteral_16 (by decide) ?_
    exact W.iret (v := (-2 : Int32)) hx hb hr (fun t ht hW => ⟨⟨(-2 : Int32), (), rfl, trivial, ⟨x3_5, y4, y5, y6, by show va_P D classes _ t.heap; rw [ht]; exact hP, hD⟩⟩, hS.F ht⟩) hS.2.2 d_N_addLiteral_25
theorem v_N_addLiteral_s1 {R : Room} {s : State} {args : Array Value} {own : String} {index : Nat} (hk : ∀ w ∈ tb, w.before args s = true) (hl : Cond.methodLink own index y_N_addLiteral ∈ tb) (hR : 1 + 1 ≤ R.frames ∧ 8 + (2 + 11) + 23 ≤ R.locals) : CallW R s args own "SignMachine$Names" index y_N_addLiteral b_N_addLiteral 2 (some .int) (.code y_N_addLiteral b_N_addLiteral 2 (some .int) :: tb) ({ frames := 1, cells := 0, slots := 0, locals := 23 }) 0 0 1 := mk_v 1 hk k_1035 hl k_1033 k_1034 k_125 rfl rfl h_N_addLiteral hR
set_option maxHeartbeats 4000000 in
set_option maxRecDepth 100000 in
theorem c_A_takeLiteral_s1 (l : Launch) (K : CK) (D : va_G) (cI cJ cZ cB : ClassId) (p0 p1 p2 p3 p4 p5 p6 p7 p8 p9 p10 p11 p12 p13 p14 p15 : Nat) (sz : Nat) (x0_3 : Int32) (x0_4 : Int32) (x0_5 : Int32) (x0_6 : Int32) (x0_7 : Int32) (x0_8 : Bool) (x0_9 : Int64) (x0_10 : Int32) (x0_11 : Option (Fin 51)) (x0_12 : Int32) (x0_13 : Int32) (x0_14 : Int32) (x1_1 : Int32) (x1_2 : Int32) (x1_3 : Int32) (x1_4 : Int32) (x1_5 : Int32) (x1_6 : Int32) (x1_7 : Int64) (x1_8 : Int32) (y2 : Nat → Int32) (x3_5 : Int32) (x3_6 : Int32) (y4 : Nat → Int64) (y5 : Nat → Int32) (y6 : Nat → Int32) (y7 : Nat → Int32) (y8 : Nat → Int32) (x9_6 : Int32) (y10 : Nat → Int32) (y11 : Nat → Int32) (y12 : Nat → Int32) (y13 : Nat → Int32) (y14 : Nat → Int32) (y15 : Nat → Int32)  (a1 : Int32) : Met l y_A_takeLiteral (.code y_A_takeLiteral b_A_takeLiteral 2 none :: tb) ({ frames := 2, cells := 0, slots := 0, locals := 44 }) (pMC K D cI cJ cZ cB (wS52 K cI cJ cZ cB p0 p1 p2 p3 p4 p5 p6 p7 p8 p9 p10 p11 p12 p13 p14 p15 x0_3 x0_4 x0_5 x0_6 x0_7 x0_8 x0_9 x0_10 x0_11 x0_12 x0_13 x0_14 x1_1 x1_2 x1_3 x1_4 x1_5 x1_6 x1_7 x1_8 y2 x3_5 x3_6 y4 y5 y6 y7 y8 x9_6 y10 y11 y12 y13 y14 y15) sz [.ref p0, .int a1]) (va_Qv (fun (_ : Unit) => True) (fun _ t => (∃ u_x0_3 : Int32, ∃ u_x0_4 : Int32, ∃ u_x0_13 : Int32, ∃ u_x0_14 : Int32, ∃ u_x1_3 : Int32, ∃ u_x3_5 : Int32, ∃ u_y4 : Nat → Int64, ∃ u_y5 : Nat → Int32, ∃ u_y6 : Nat → Int32, va_P D classes (wS52 K cI cJ cZ cB p0 p1 p2 p3 p4 p5 p6 p7 p8 p9 p10 p11 p12 p13 p14 p15 u_x0_3 u_x0_4 x0_5 x0_6 x0_7 x0_8 x0_9 x0_10 x0_11 x0_12 u_x0_13 u_x0_14 x1_1 x1_2 u_x1_3 x1_4 x1_5 x1_6 x1_7 x1_8 y2 u_x3_5 x3_6 u_y4 u_y5 u_y6 y7 y8 x9_6 y10 y11 y12 y13 y14 y15) t.heap ∧ va_D (va_A (wS52 K cI cJ cZ cB p0 p1 p2 p3 p4 p5 p6 p7 p8 p9 p10 p11 p12 p13 p14 p15 x0_3 x0_4 x0_5 x0_6 x0_7 x0_8 x0_9 x0_10 x0_11 x0_12 x0_13 x0_14 x1_1 x1_2 x1_3 x1_4 x1_5 x1_6 x1_7 x1_8 y2 x3_5 x3_6 y4 y5 y6 y7 y8 x9_6 y10 y11 y12 y13 y14 y15) sz) (wS52 K cI cJ cZ cB p0 p1 p2 p3 p4 p5 p6 p7 p8 p9 p10 p11 p12 p13 p14 p15 u_x0_3 u_x0_4 x0_5 x0_6 x0_7 x0_8 x0_9 x0_10 x0_11 x0_12 u_x0_13 u_x0_14 x1_1 x1_2 u_x1_3 x1_4 x1_5 x1_6 x1_7 x1_8 y2 u_x3_5 x3_6 u_y4 u_y5 u_y6 y7 y8 x9_6 y10 y11 y12 y13 y14 y15))) (va_A (wS52 K cI cJ cZ cB p0 p1 p2 p3 p4 p5 p6 p7 p8 p9 p10 p11 p12 p13 p14 p15 x0_3 x0_4 x0_5 x0_6 x0_7 x0_8 x0_9 x0_10 x0_11 x0_12 x0_13 x0_14 x1_1 x1_2 x1_3 x1_4 x1_5 x1_6 x1_7 x1_8 y2 x3_5 x3_6 y4 y5 y6 y7 y8 x9_6 y10 y11 y12 y13 y14 y15) sz)) 0 0 (va_A (wS52 K cI cJ cZ cB p0 p1 p2 p3 p4 p5 p6 p7 p8 p9 p10 p11 p12 p13 p14 p15 x0_3 x0_4 x0_5 x0_6 x0_7 x0_8 x0_9 x0_10 x0_11 x0_12 x0_13 x0_14 x1_1 x1_2 x1_3 x1_4 x1_5 x1_6 x1_7 x1_8 y2 x3_5 x3_6 y4 y5 y6 y7 y8 x9_6 y10 y11 y12 y13 y14 y15) sz) := by
  refine Met.ofW (cc := b_A_takeLiteral) (maxL := 2) (ret := none) (by decide) rfl ?_
  intro p e s m args below meth c s₁ B hml hv
  obtain ⟨rfl, hsz, hK, hP, hD0, hC⟩ := hv
  subst hsz
  have hD := hD0.self (sz := s.heap.size)
  generalize hAe : va_A (wS52 K cI cJ cZ cB p0 p1 p2 p3 p4 p5 p6 p7 p8 p9 p10 p11 p12 p13 p14 p15 x0_3 x0_4 x0_5 x0_6 x0_7 x0_8 x0_9 x0_10 x0_11 x0_12 x0_13 x0_14 x1_1 x1_2 x1_3 x1_4 x1_5 x1_6 x1_7 x1_8 y2 x3_5 x3_6 y4 y5 y6 y7 y8 x9_6 y10 y11 y12 y13 y14 y15) s.heap.size = A at hD hC ⊢
  have hA : ∀ q : Nat, s.heap.size ≤ q → A q := fun q h => by rw [← hAe]; exact Or.inr h
  clear hAe hD0
  have hS : va_S A s.heap s.heap [] := va_S.rf
  have hx := B.exec
  have hb := B.bytes
  have hr := B.returns
  have hts := atoms_spec (ws := .code y_A_takeLiteral b_A_takeLiteral 2 none :: tb) B.pre
  have hk : ∀ w ∈ tb, w.before [.ref p0, .int a1].toArray s = true := fun w h => hts w (List.mem_cons_of_mem _ h)
  have hown : s.vm.findClass "SignMachine$Assembler" = some m.cls := findClass_of_methodNamed B.named
  have hlocks := B.notSynchronized
  have hl := lv_entry ([.ref p0, .int a1]) (n := 2) (Nat.le_of_ble_eq_true rfl)
  rw [lg_entry_eq]
  generalize (lg_sl ([.ref p0, .int a1]) ++ List.replicate (2 - (lg_sl ([.ref p0, .int a1])).length) Slot.unset).toArray = ls at hl ⊢
  have hl : lv_has ls 2 [(0, .ref p0), (1, .int a1)] := hl
  refine lv_aload_n hx hb d_A_takeLiteral_0 rfl (lv_at hl 0 rfl) ?_
  refine va_get (D := D) (ci := 3) (v := .ref p1) (C := "SignMachine$Assembler") (T := F_A) (N := 15) hx hb hk fi_A hown hK.1 hP 0 rfl rfl 0 (by decide) (hk _ k_631) (fun _ h9 => h9) rfl d_A_takeLiteral_1 ?_
  refine lv_bipush (v := 61) hx hb d_A_takeLiteral_4 (by decide) ?_
  refine sn_i (va_runV (C := "SignMachine$Source") (As := [.int (61 : Int32)]) (rest := []) ⟨hx, hb, hml, hown, hk⟩ (c_R_takes_s1 l K D cI cJ cZ cB p0 p1 p2 p3 p4 p5 p6 p7 p8 p9 p10 p11 p12 p13 p14 p15 s.heap.size x0_3 x0_4 x0_5 x0_6 x0_7 x0_8 x0_9 x0_10 x0_11 x0_12 x0_13 x0_14 x1_1 x1_2 x1_3 x1_4 x1_5 x1_6 x1_7 x1_8 y2 x3_5 x3_6 y4 y5 y6 y7 y8 x9_6 y10 y11 y12 y13 y14 y15  (61 : Int32) ) (v_R_takes_s1 hk k_954 ⟨Nat.le_of_ble_eq_true rfl, Nat.le_of_ble_eq_true rfl⟩) (pMC_v hK hP hD hC hS hA (ci := 4) (q0 := 1) rfl rfl rfl) rfl rfl hl.1 rfl (lv_room (Nat.le_of_ble_eq_true rfl)) d_A_takeLiteral_6 ⟨by decide, by decide⟩) hS hA hD (fun rz1 u t H locs hr0 ht hB hFr hS => ?_)
  obtain ⟨z1, hz1⟩ := hr0
  subst hz1
  obtain ⟨x1_3z1, hP, hD⟩ := hB
  rw [ht] at hP
  have hD := dwk hD hFr
  clear ht hFr
  have hP : va_P D classes (wS52 K cI cJ cZ cB p0 p1 p2 p3 p4 p5 p6 p7 p8 p9 p10 p11 p12 p13 p14 p15 x0_3 x0_4 x0_5 x0_6 x0_7 x0_8 x0_9 x0_10 x0_11 x0_12 x0_13 x0_14 x1_1 x1_2 x1_3z1 x1_4 x1_5 x1_6 x1_7 x1_8 y2 x3_5 x3_6 y4 y5 y6 y7 y8 x9_6 y10 y11 y12 y13 y14 y15) H := hP
  have hD : va_D A (wS52 K cI cJ cZ cB p0 p1 p2 p3 p4 p5 p6 p7 p8 p9 p10 p11 p12 p13 p14 p15 x0_3 x0_4 x0_5 x0_6 x0_7 x0_8 x0_9 x0_10 x0_11 x0_12 x0_13 x0_14 x1_1 x1_2 x1_3z1 x1_4 x1_5 x1_6 x1_7 x1_8 y2 x3_5 x3_6 y4 y5 y6 y7 y8 x9_6 y10 y11 y12 y13 y14 y15) := hD
  refine lv_if_ne (tgt := 18) hx hb d_A_takeLiteral_9 (by decide) (fun c2 => ?_) (fun c2 => ?_)
  · refine lv_aload_n hx hb d_A_takeLiteral_18 rfl (lv_at hl 0 rfl) ?_
    refine va_get (D := D) (ci := 3) (v := .int x0_3) (C := "SignMachine$Assembler") (T := F_A) (N := 15) hx hb hk fi_A hown hK.1 hP 0 rfl rfl 3 (by decide) (hk _ k_636) (fun _ h9 => h9) rfl d_A_takeLiteral_19 ?_
    refine lv_if_eq (tgt := 26) hx hb d_A_takeLiteral_22 (by decide) (fun c3 => ?_) (fun c3 => ?_)
    · refine lv_aload_n hx hb d_A_takeLiteral_26 rfl (lv_at hl 0 rfl) ?_
      refine lv_iconst (v := 1) hx hb d_A_takeLiteral_27 (by decide) ?_
      refine va_put (D := D) (ci := 3) (v := .int (1 : Int32)) (ty := .int) (C := "SignMachine$Assembler") (T := F_A) (N := 15) hx hb hk fi_A ft_A ft_A_ok fn_A hown hK.1 hP hD hS 0 rfl rfl 13 (by decide) (hk _ k_650) (fun _ h9 => h9) rfl (by decide +kernel) rfl rfl (Nat.le_of_ble_eq_true rfl) d_A_takeLiteral_28 (fun H locs hP hD hS => ?_)
      have hP : va_P D classes (wS52 K cI cJ cZ cB p0 p1 p2 p3 p4 p5 p6 p7 p8 p9 p10 p11 p12 p13 p14 p15 x0_3 x0_4 x0_5 x0_6 x0_7 x0_8 x0_9 x0_10 x0_11 x0_12 (1 : Int32) x0_14 x1_1 x1_2 x1_3z1 x1_4 x1_5 x1_6 x1_7 x1_8 y2 x3_5 x3_6 y4 y5 y6 y7 y8 x9_6 y10 y11 y12 y13 y14 y15) H := hP
      have hD : va_D A (wS52 K cI cJ cZ cB p0 p1 p2 p3 p4 p5 p6 p7 p8 p9 p10 p11 p12 p13 p14 p15 x0_3 x0_4 x0_5 x0_6 x0_7 x0_8 x0_9 x0_10 x0_11 x0_12 (1 : Int32) x0_14 x1_1 x1_2 x1_3z1 x1_4 x1_5 x1_6 x1_7 x1_8 y2 x3_5 x3_6 y4 y5 y6 y7 y8 x9_6 y10 y11 y12 y13 y14 y15) := hD
      refine lv_aload_n hx hb d_A_takeLiteral_31 rfl (lv_at hl 0 rfl) ?_
      refine lv_aload_n hx hb d_A_takeLiteral_32 rfl (lv_at hl 0 rfl) ?_
      refine va_get (D := D) (ci := 3) (v := .ref p3) (C := "SignMachine$Assembler") (T := F_A) (N := 15) hx hb hk fi_A hown hK.1 hP 0 rfl rfl 1 (by decide) (hk _ k_633) (fun _ h9 => h9) rfl d_A_takeLiteral_33 ?_
      refine lv_iload_n hx hb d_A_takeLiteral_36 rfl (lv_at hl 1 rfl) ?_
      refine sn_i (va_runV (C := "SignMachine$Names") (As := [.int a1]) (rest := [.ref p0]) ⟨hx, hb, hml, hown, hk⟩ (c_N_addLiteral_s1 l K D cI cJ cZ cB p0 p1 p2 p3 p4 p5 p6 p7 p8 p9 p10 p11 p12 p13 p14 p15 H.size x0_3 x0_4 x0_5 x0_6 x0_7 x0_8 x0_9 x0_10 x0_11 x0_12 (1 : Int32) x0_14 x1_1 x1_2 x1_3z1 x1_4 x1_5 x1_6 x1_7 x1_8 y2 x3_5 x3_6 y4 y5 y6 y7 y8 x9_6 y10 y11 y12 y13 y14 y15  a1 ) (v_N_addLiteral_s1 hk k_1032 ⟨Nat.le_of_ble_eq_true rfl, Nat.le_of_ble_eq_true rfl⟩) (pMC_v hK hP hD hC hS hA (ci := 5) (q0 := 3) rfl rfl rfl) rfl rfl hl.1 rfl (lv_room (Nat.le_of_ble_eq_true rfl)) d_A_takeLiteral_37 ⟨by decide, by decide⟩) hS hA hD (fun rz4 u t H locs hr0 ht hB hFr hS => ?_)
      obtain ⟨x3_5z4, y4z4, y5z4, y6z4, hP, hD⟩ := hB
      rw [ht] at hP
      have hD := dwk hD hFr
      clear ht hFr
      have hP : va_P D classes (wS52 K cI cJ cZ cB p0 p1 p2 p3 p4 p5 p6 p7 p8 p9 p10 p11 p12 p13 p14 p15 x0_3 x0_4 x0_5 x0_6 x0_7 x0_8 x0_9 x0_10 x0_11 x0_12 (1 : Int32) x0_14 x1_1 x1_2 x1_3z1 x1_4 x1_5 x1_6 x1_7 x1_8 y2 x3_5z4 x3_6 y4z4 y5z4 y6z4 y7 y8 x9_6 y10 y11 y12 y13 y14 y15) H := hP
      have hD : va_D A (wS52 K cI cJ cZ cB p0 p1 p2 p3 p4 p5 p6 p7 p8 p9 p10 p11 p12 p13 p14 p15 x0_3 x0_4 x0_5 x0_6 x0_7 x0_8 x0_9 x0_10 x0_11 x0_12 (1 : Int32) x0_14 x1_1 x1_2 x1_3z1 x1_4 x1_5 x1_6 x1_7 x1_8 y2 x3_5z4 x3_6 y4z4 y5z4 y6z4 y7 y8 x9_6 y10 y11 y12 y13 y14 y15) := hD
      refine va_put (D := D) (ci := 3) (v := .int rz4) (ty := .int) (C := "SignMachine$Assembler") (T := F_A) (N := 15) hx hb hk fi_A ft_A ft_A_ok fn_A hown hK.1 hP hD hS 0 rfl rfl 14 (by decide) (hk _ k_651) (fun _ h9 => h9) rfl (by decide +kernel) rfl rfl (Nat.le_of_ble_eq_true rfl) d_A_takeLiteral_40 (fun H locs hP hD hS => ?_)
      have hP : va_P D classes (wS52 K cI cJ cZ cB p0 p1 p2 p3 p4 p5 p6 p7 p8 p9 p10 p11 p12 p13 p14 p15 x0_3 x0_4 x0_5 x0_6 x0_7 x0_8 x0_9 x0_10 x0_11 x0_12 (1 : Int32) rz4 x1_1 x1_2 x1_3z1 x1_4 x1_5 x1_6 x1_7 x1_8 y2 x3_5z4 x3_6 y4z4 y5z4 y6z4 y7 y8 x9_6 y10 y11 y12 y13 y14 y15) H := hP
      have hD : va_D A (wS52 K cI cJ cZ cB p0 p1 p2 p3 p4 p5 p6 p7 p8 p9 p10 p11 p12 p13 p14 p15 x0_3 x0_4 x0_5 x0_6 x0_7 x0_8 x0_9 x0_10 x0_11 x0_12 (1 : Int32) rz4 x1_1 x1_2 x1_3z1 x1_4 x1_5 x1_6 x1_7 x1_8 y2 x3_5z4 x3_6 y4z4 y5z4 y6z4 y7 y8 x9_6 y10 y11 y12 y13 y14 y15) := hD
      refine lv_aload_n hx hb d_A_takeLiteral_43 rfl (lv_at hl 0 rfl) ?_
      refine va_get (D := D) (ci := 3) (v := .int rz4) (C := "SignMachine$Assembler") (T := F_A) (N := 15) hx hb hk fi_A hown hK.1 hP 0 rfl rfl 14 (by decide) (hk _ k_651) (fun _ h9 => h9) rfl d_A_takeLiteral_44 ?_
      refine lv_if_ge (tgt := 56) hx hb d_A_takeLiteral_47 (by decide) (fun c5 => ?_) (fun c5 => ?_)
      · exact W.vret hx hb hr (fun t ht hW => ⟨⟨(), rfl, trivial, ⟨x0_3, x0_4, (1 : Int32), rz4, x1_3z1, x3_5z4, y4z4, y5z4, y6z4, by show va_P D classes _ t.heap; rw [ht]; exact hP, hD⟩⟩, hS.F ht⟩) hS.2.2 d_A_takeLiteral_56
      · refine lv_aload_n hx hb d_A_takeLiteral_50 rfl (lv_at hl 0 rfl) ?_
        refine lv_iconst (v := 5) hx hb d_A_takeLiteral_51 (by decide) ?_
        refine sn_i (va_runV (C := "SignMachine$Assembler") (As := [.int (5 : Int32)]) (rest := []) ⟨hx, hb, hml, hown, hk⟩ (c_A_fail_s1 l K D cI cJ cZ cB p0 p1 p2 p3 p4 p5 p6 p7 p8 p9 p10 p11 p12 p13 p14 p15 H.size x0_3 x0_4 x0_5 x0_6 x0_7 x0_8 x0_9 x0_10 x0_11 x0_12 (1 : Int32) rz4 x1_1 x1_2 x1_3z1 x1_4 x1_5 x1_6 x1_7 x1_8 y2 x3_5z4 x3_6 y4z4 y5z4 y6z4 y7 y8 x9_6 y10 y11 y12 y13 y14 y15  (5 : Int32) ) (v_A_fail_s1 hk k_767 ⟨Nat.le_of_ble_eq_true rfl, Nat.le_of_ble_eq_true rfl⟩) (pMC_v hK hP hD hC hS hA (ci := 3) (q0 := 0) rfl rfl rfl) rfl rfl hl.1 rfl (lv_room (Nat.le_of_ble_eq_true rfl)) d_A_takeLiteral_52 ⟨by decide, by decide⟩) hS hA hD (fun rz6 u t H locs hr0 ht hB hFr hS => ?_)
        obtain ⟨x0_3z6, x0_4z6, hP, hD⟩ := hB
        rw [ht] at hP
        have hD := dwk hD hFr
        clear ht hFr
        have hP : va_P D classes (wS52 K cI cJ cZ cB p0 p1 p2 p3 p4 p5 p6 p7 p8 p9 p10 p11 p12 p13 p14 p15 x0_3z6 x0_4z6 x0_5 x0_6 x0_7 x0_8 x0_9 x0_10 x0_11 x0_12 (1 : Int32) rz4 x1_1 x1_2 x1_3z1 x1_4 x1_5 x1_6 x1_7 x1_8 y2 x3_5z4 x3_6 y4z4 y5z4 y6z4 y7 y8 x9_6 y10 y11 y12 y13 y14 y15) H := hP
        have hD : va_D A (wS52 K cI cJ cZ cB p0 p1 p2 p3 p4 p5 p6 p7 p8 p9 p10 p11 p12 p13 p14 p15 x0_3z6 x0_4z6 x0_5 x0_6 x0_7 x0_8 x0_9 x0_10 x0_11 x0_12 (1 : Int32) rz4 x1_1 x1_2 x1_3z1 x1_4 x1_5 x1_6 x1_7 x1_8 y2 x3_5z4 x3_6 y4z4 y5z4 y6z4 y7 y8 x9_6 y10 y11 y12 y13 y14 y15) := hD
        refine lv_pop hx hb d_A_takeLiteral_55 rfl ?_
        exact W.vret hx hb hr (fun t ht hW => ⟨⟨(), rfl, trivial, ⟨x0_3z6, x0_4z6, (1 : Int32), rz4, x1_3z1, x3_5z4, y4z4, y5z4, y6z4, by show va_P D classes _ t.heap; rw [ht]; exact hP, hD⟩⟩, hS.F ht⟩) hS.2.2 d_A_takeLiteral_56
    · exact W.vret hx hb hr (fun t ht hW => ⟨⟨(), rfl, trivial, ⟨x0_3, x0_4, x0_13, x0_14, x1_3z1, x3_5, y4, y5, y6, by show va_P D classes _ t.heap; rw [ht]; exact hP, hD⟩⟩, hS.F ht⟩) hS.2.2 d_A_takeLiteral_25
  · refine lv_aload_n hx hb d_A_takeLiteral_12 rfl (lv_at hl 0 rfl) ?_
    refine lv_iconst (v := 1) hx hb d_A_takeLiteral_13 (by decide) ?_
    refine sn_i (va_runV (C := "SignMachine$Assembler") (As := [.int (1 : Int32)]) (rest := []) ⟨hx, hb, hml, hown, hk⟩ (c_A_fail_s1 l K D cI cJ cZ cB p0 p1 p2 p3 p4 p5 p6 p7 p8 p9 p10 p11 p12 p13 p14 p15 H.size x0_3 x0_4 x0_5 x0_6 x0_7 x0_8 x0_9 x0_10 x0_11 x0_12 x0_13 x0_14 x1_1 x1_2 x1_3z1 x1_4 x1_5 x1_6 x1_7 x1_8 y2 x3_5 x3_6 y4 y5 y6 y7 y8 x9_6 y10 y11 y12 y13 y14 y15  (1 : Int32) ) (v_A_fail_s1 hk k_767 ⟨Nat.le_of_ble_eq_true rfl, Nat.le_of_ble_eq_true rfl⟩) (pMC_v hK hP hD hC hS hA (ci := 3) (q0 := 0) rfl rfl rfl) rfl rfl hl.1 rfl (lv_room (Nat.le_of_ble_eq_true rfl)) d_A_takeLiteral_14 ⟨by decide, by decide⟩) hS hA hD (fun rz7 u t H locs hr0 ht hB hFr hS => ?_)
    obtain ⟨x0_3z7, x0_4z7, hP, hD⟩ := hB
    rw [ht] at hP
    have hD := dwk hD hFr
    clear ht hFr
    have hP : va_P D classes (wS52 K cI cJ cZ cB p0 p1 p2 p3 p4 p5 p6 p7 p8 p9 p10 p11 p12 p13 p14 p15 x0_3z7 x0_4z7 x0_5 x0_6 x0_7 x0_8 x0_9 x0_10 x0_11 x0_12 x0_13 x0_14 x1_1 x1_2 x1_3z1 x1_4 x1_5 x1_6 x1_7 x1_8 y2 x3_5 x3_6 y4 y5 y6 y7 y8 x9_6 y10 y11 y12 y13 y14 y15) H := hP
    have hD : va_D A (wS52 K cI cJ cZ cB p0 p1 p2 p3 p4 p5 p6 p7 p8 p9 p10 p11 p12 p13 p14 p15 x0_3z7 x0_4z7 x0_5 x0_6 x0_7 x0_8 x0_9 x0_10 x0_11 x0_12 x0_13 x0_14 x1_1 x1_2 x1_3z1 x1_4 x1_5 x1_6 x1_7 x1_8 y2 x3_5 x3_6 y4 y5 y6 y7 y8 x9_6 y10 y11 y12 y13 y14 y15) := hD
    refine lv_pop hx hb d_A_takeLiteral_17 rfl ?_
    refine lv_aload_n hx hb d_A_takeLiteral_18 rfl (lv_at hl 0 rfl) ?_
    refine va_get (D := D) (ci := 3) (v := .int x0_3z7) (C := "SignMachine$Assembler") (T := F_A) (N := 15) hx hb hk fi_A hown hK.1 hP 0 rfl rfl 3 (by decide) (hk _ k_636) (fun _ h9 => h9) rfl d_A_takeLiteral_19 ?_
    refine lv_if_eq (tgt := 26) hx hb d_A_takeLiteral_22 (by decide) (fun c8 => ?_) (fun c8 => ?_)
    · refine lv_aload_n hx hb d_A_takeLiteral_26 rfl (lv_at hl 0 rfl) ?_
      refine lv_iconst (v := 1) hx hb d_A_takeLiteral_27 (by decide) ?_
      refine va_put (D := D) (ci := 3) (v := .int (1 : Int32)) (ty := .int) (C := "SignMachine$Assembler") (T := F_A) (N := 15) hx hb hk fi_A ft_A ft_A_ok fn_A hown hK.1 hP hD hS 0 rfl rfl 13 (by decide) (hk _ k_650) (fun _ h9 => h9) rfl (by decide +kernel) rfl rfl (Nat.le_of_ble_eq_true rfl) d_A_takeLiteral_28 (fun H locs hP hD hS => ?_)
      have hP : va_P D classes (wS52 K cI cJ cZ cB p0 p1 p2 p3 p4 p5 p6 p7 p8 p9 p10 p11 p12 p13 p14 p15 x0_3z7 x0_4z7 x0_5 x0_6 x0_7 x0_8 x0_9 x0_10 x0_11 x0_12 (1 : Int32) x0_14 x1_1 x1_2 x1_3z1 x1_4 x1_5 x1_6 x1_7 x1_8 y2 x3_5 x3_6 y4 y5 y6 y7 y8 x9_6 y10 y11 y12 y13 y14 y15) H := hP
      have hD : va_D A (wS52 K cI cJ cZ cB p0 p1 p2 p3 p4 p5 p6 p7 p8 p9 p10 p11 p12 p13 p14 p15 x0_3z7 x0_4z7 x0_5 x0_6 x0_7 x0_8 x0_9 x0_10 x0_11 x0_12 (1 : Int32) x0_14 x1_1 x1_2 x1_3z1 x1_4 x1_5 x1_6 x1_7 x1_8 y2 x3_5 x3_6 y4 y5 y6 y7 y8 x9_6 y10 y11 y12 y13 y14 y15) := hD
      refine lv_aload_n hx hb d_A_takeLiteral_31 rfl (lv_at hl 0 rfl) ?_
      refine lv_aload_n hx hb d_A_takeLiteral_32 rfl (lv_at hl 0 rfl) ?_
      refine va_get (D := D) (ci := 3) (v := .ref p3) (C := "SignMachine$Assembler") (T := F_A) (N := 15) hx hb hk fi_A hown hK.1 hP 0 rfl rfl 1 (by decide) (hk _ k_633) (fun _ h9 => h9) rfl d_A_takeLiteral_33 ?_
      refine lv_iload_n hx hb d_A_takeLiteral_36 rfl (lv_at hl 1 rfl) ?_
      refine sn_i (va_runV (C := "SignMachine$Names") (As := [.int a1]) (rest := [.ref p0]) ⟨hx, hb, hml, hown, hk⟩ (c_N_addLiteral_s1 l K D cI cJ cZ cB p0 p1 p2 p3 p4 p5 p6 p7 p8 p9 p10 p11 p12 p13 p14 p15 H.size x0_3z7 x0_4z7 x0_5 x0_6 x0_7 x0_8 x0_9 x0_10 x0_11 x0_12 (1 : Int32) x0_14 x1_1 x1_2 x1_3z1 x1_4 x1_5 x1_6 x1_7 x1_8 y2 x3_5 x3_6 y4 y5 y6 y7 y8 x9_6 y10 y11 y12 y13 y14 y15  a1 ) (v_N_addLiteral_s1 hk k_1032 ⟨Nat.le_of_ble_eq_true rfl, Nat.le_of_ble_eq_true rfl⟩) (pMC_v hK hP hD hC hS hA (ci := 5) (q0 := 3) rfl rfl rfl) rfl rfl hl.1 rfl (lv_room (Nat.le_of_ble_eq_true rfl)) d_A_takeLiteral_37 ⟨by decide, by decide⟩) hS hA hD (fun rz9 u t H locs hr0 ht hB hFr hS => ?_)
      obtain ⟨x3_5z9, y4z9, y5z9, y6z9, hP, hD⟩ := hB
      rw [ht] at hP
      have hD := dwk hD hFr
      clear ht hFr
      have hP : va_P D classes (wS52 K cI cJ cZ cB p0 p1 p2 p3 p4 p5 p6 p7 p8 p9 p10 p11 p12 p13 p14 p15 x0_3z7 x0_4z7 x0_5 x0_6 x0_7 x0_8 x0_9 x0_10 x0_11 x0_12 (1 : Int32) x0_14 x1_1 x1_2 x1_3z1 x1_4 x1_5 x1_6 x1_7 x1_8 y2 x3_5z9 x3_6 y4z9 y5z9 y6z9 y7 y8 x9_6 y10 y11 y12 y13 y14 y15) H := hP
      have hD : va_D A (wS52 K cI cJ cZ cB p0 p1 p2 p3 p4 p5 p6 p7 p8 p9 p10 p11 p12 p13 p14 p15 x0_3z7 x0_4z7 x0_5 x0_6 x0_7 x0_8 x0_9 x0_10 x0_11 x0_12 (1 : Int32) x0_14 x1_1 x1_2 x1_3z1 x1_4 x1_5 x1_6 x1_7 x1_8 y2 x3_5z9 x3_6 y4z9 y5z9 y6z9 y7 y8 x9_6 y10 y11 y12 y13 y14 y15) := hD
      refine va_put (D := D) (ci := 3) (v := .int rz9) (ty := .int) (C := "SignMachine$Assembler") (T := F_A) (N := 15) hx hb hk fi_A ft_A ft_A_ok fn_A hown hK.1 hP hD hS 0 rfl rfl 14 (by decide) (hk _ k_651) (fun _ h9 => h9) rfl (by decide +kernel) rfl rfl (Nat.le_of_ble_eq_true rfl) d_A_takeLiteral_40 (fun H locs hP hD hS => ?_)
      have hP : va_P D classes (wS52 K cI cJ cZ cB p0 p1 p2 p3 p4 p5 p6 p7 p8 p9 p10 p11 p12 p13 p14 p15 x0_3z7 x0_4z7 x0_5 x0_6 x0_7 x0_8 x0_9 x0_10 x0_11 x0_12 (1 : Int32) rz9 x1_1 x1_2 x1_3z1 x1_4 x1_5 x1_6 x1_7 x1_8 y2 x3_5z9 x3_6 y4z9 y5z9 y6z9 y7 y8 x9_6 y10 y11 y12 y13 y14 y15) H := hP
      have hD : va_D A (wS52 K cI cJ cZ cB p0 p1 p2 p3 p4 p5 p6 p7 p8 p9 p10 p11 p12 p13 p14 p15 x0_3z7 x0_4z7 x0_5 x0_6 x0_7 x0_8 x0_9 x0_10 x0_11 x0_12 (1 : Int32) rz9 x1_1 x1_2 x1_3z1 x1_4 x1_5 x1_6 x1_7 x1_8 y2 x3_5z9 x3_6 y4z9 y5z9 y6z9 y7 y8 x9_6 y10 y11 y12 y13 y14 y15) := hD
      refine lv_aload_n hx hb d_A_takeLiteral_43 rfl (lv_at hl 0 rfl) ?_
      refine va_get (D := D) (ci := 3) (v := .int rz9) (C := "SignMachine$Assembler") (T := F_A) (N := 15) hx hb hk fi_A hown hK.1 hP 0 rfl rfl 14 (by decide) (hk _ k_651) (fun _ h9 => h9) rfl d_A_takeLiteral_44 ?_
      refine lv_if_ge (tgt := 56) hx hb d_A_takeLiteral_47 (by decide) (fun c10 => ?_) (fun c10 => ?_)
      · exact W.vret hx hb hr (fun t ht hW => ⟨⟨(), rfl, trivial, ⟨x0_3z7, x0_4z7, (1 : Int32), rz9, x1_3z1, x3_5z9, y4z9, y5z9, y6z9, by show va_P D classes _ t.heap; rw [ht]; exact hP, hD⟩⟩, hS.F ht⟩) hS.2.2 d_A_takeLiteral_56
      · refine lv_aload_n hx hb d_A_takeLiteral_50 rfl (lv_at hl 0 rfl) ?_
        refine lv_iconst (v := 5) hx hb d_A_takeLiteral_51 (by decide) ?_
        refine sn_i (va_runV (C := "SignMachine$Assembler") (As := [.int (5 : Int32)]) (rest := []) ⟨hx, hb, hml, hown, hk⟩ (c_A_fail_s1 l K D cI cJ cZ cB p0 p1 p2 p3 p4 p5 p6 p7 p8 p9 p10 p11 p12 p13 p14 p15 H.size x0_3z7 x0_4z7 x0_5 x0_6 x0_7 x0_8 x0_9 x0_10 x0_11 x0_12 (1 : Int32) rz9 x1_1 x1_2 x1_3z1 x1_4 x1_5 x1_6 x1_7 x1_8 y2 x3_5z9 x3_6 y4z9 y5z9 y6z9 y7 y8 x9_6 y10 y11 y12 y13 y14 y15  (5 : Int32) ) (v_A_fail_s1 hk k_767 ⟨Nat.le_of_ble_eq_true rfl, Nat.le_of_ble_eq_true rfl⟩) (pMC_v hK hP hD hC hS hA (ci := 3) (q0 := 0) rfl rfl rfl) rfl rfl hl.1 rfl (lv_room (Nat.le_of_ble_eq_true rfl)) d_A_takeLiteral_52 ⟨by decide, by decide⟩) hS hA hD (fun rz11 u t H locs hr0 ht hB hFr hS => ?_)
        obtain ⟨x0_3z11, x0_4z11, hP, hD⟩ := hB
        rw [ht] at hP
        have hD := dwk hD hFr
        clear ht hFr
        have hP : va_P D classes (wS52 K cI cJ cZ cB p0 p1 p2 p3 p4 p5 p6 p7 p8 p9 p10 p11 p12 p13 p14 p15 x0_3z11 x0_4z11 x0_5 x0_6 x0_7 x0_8 x0_9 x0_10 x0_11 x0_12 (1 : Int32) rz9 x1_1 x1_2 x1_3z1 x1_4 x1_5 x1_6 x1_7 x1_8 y2 x3_5z9 x3_6 y4z9 y5z9 y6z9 y7 y8 x9_6 y10 y11 y12 y13 y14 y15) H := hP
        have hD : va_D A (wS52 K cI cJ cZ cB p0 p1 p2 p3 p4 p5 p6 p7 p8 p9 p10 p11 p12 p13 p14 p15 x0_3z11 x0_4z11 x0_5 x0_6 x0_7 x0_8 x0_9 x0_10 x0_11 x0_12 (1 : Int32) rz9 x1_1 x1_2 x1_3z1 x1_4 x1_5 x1_6 x1_7 x1_8 y2 x3_5z9 x3_6 y4z9 y5z9 y6z9 y7 y8 x9_6 y10 y11 y12 y13 y14 y15) := hD
        refine lv_pop hx hb d_A_takeLiteral_55 rfl ?_
        exact W.vret hx hb hr (fun t ht hW => ⟨⟨(), rfl, trivial, ⟨x0_3z11, x0_4z11, (1 : Int32), rz9, x1_3z1, x3_5z9, y4z9, y5z9, y6z9, by show va_P D classes _ t.heap; rw [ht]; exact hP, hD⟩⟩, hS.F ht⟩) hS.2.2 d_A_takeLiteral_56
    · exact W.vret hx hb hr (fun t ht hW => ⟨⟨(), rfl, trivial, ⟨x0_3z7, x0_4z7, x0_13, x0_14, x1_3z1, x3_5, y4, y5, y6, by show va_P D classes _ t.heap; rw [ht]; exact hP, hD⟩⟩, hS.F ht⟩) hS.2.2 d_A_takeLiteral_25
theorem v_A_takeLiteral_s1 {R : Room} {s : State} {args : Array Value} {own : String} {index : Nat} (hk : ∀ w ∈ tb, w.before args s = true) (hl : Cond.methodLink own index y_A_takeLiteral ∈ tb) (hR : 2 + 1 ≤ R.frames ∧ 8 + (2 + 11) + 44 ≤ R.locals) : CallW R s args own "SignMachine$Assembler" index y_A_takeLiteral b_A_takeLiteral 2 none (.code y_A_takeLiteral b_A_takeLiteral 2 none :: tb) ({ frames := 2, cells := 0, slots := 0, locals := 44 }) 0 0 1 := mk_v 1 hk k_1031 hl k_1030 k_52 k_123 rfl rfl h_A_takeLiteral hR
set_option maxHeartbeats 4000000 in
set_option maxRecDepth 100000 in
theorem c_A_readAddress_s1 (l : Launch) (K : CK) (D : va_G) (cI cJ cZ cB : ClassId) (p0 p1 p2 p3 p4 p5 p6 p7 p8 p9 p10 p11 p12 p13 p14 p15 : Nat) (sz : Nat) (x0_3 : Int32) (x0_4 : Int32) (x0_5 : Int32) (x0_6 : Int32) (x0_7 : Int32) (x0_8 : Bool) (x0_9 : Int64) (x0_10 : Int32) (x0_11 : Option (Fin 51)) (x0_12 : Int32) (x0_13 : Int32) (x0_14 : Int32) (x1_1 : Int32) (x1_2 : Int32) (x1_3 : Int32) (x1_4 : Int32) (x1_5 : Int32) (x1_6 : Int32) (x1_7 : Int64) (x1_8 : Int32) (y2 : Nat → Int32) (x3_5 : Int32) (x3_6 : Int32) (y4 : Nat → Int64) (y5 : Nat → Int32) (y6 : Nat → Int32) (y7 : Nat → Int32) (y8 : Nat → Int32) (x9_6 : Int32) (y10 : Nat → Int32) (y11 : Nat → Int32) (y12 : Nat → Int32) (y13 : Nat → Int32) (y14 : Nat → Int32) (y15 : Nat → Int32)   : Met l y_A_readAddress (.code y_A_readAddress b_A_readAddress 2 (some .int) :: tb) ({ frames := 4, cells := 0, slots := 0, locals := 98 }) (pMC K D cI cJ cZ cB (wS52 K cI cJ cZ cB p0 p1 p2 p3 p4 p5 p6 p7 p8 p9 p10 p11 p12 p13 p14 p15 x0_3 x0_4 x0_5 x0_6 x0_7 x0_8 x0_9 x0_10 x0_11 x0_12 x0_13 x0_14 x1_1 x1_2 x1_3 x1_4 x1_5 x1_6 x1_7 x1_8 y2 x3_5 x3_6 y4 y5 y6 y7 y8 x9_6 y10 y11 y12 y13 y14 y15) sz [.ref p0]) (va_Qi (fun r (_ : Unit) => True) (fun _ t => (∃ u_x0_3 : Int32, ∃ u_x0_4 : Int32, ∃ u_x0_13 : Int32, ∃ u_x0_14 : Int32, ∃ u_x1_3 : Int32, ∃ u_x1_6 : Int32, ∃ u_x1_7 : Int64, ∃ u_x1_8 : Int32, ∃ u_x3_5 : Int32, ∃ u_x3_6 : Int32, ∃ u_y4 : Nat → Int64, ∃ u_y5 : Nat → Int32, ∃ u_y6 : Nat → Int32, va_P D classes (wS52 K cI cJ cZ cB p0 p1 p2 p3 p4 p5 p6 p7 p8 p9 p10 p11 p12 p13 p14 p15 u_x0_3 u_x0_4 x0_5 x0_6 x0_7 x0_8 x0_9 x0_10 x0_11 x0_12 u_x0_13 u_x0_14 x1_1 x1_2 u_x1_3 x1_4 x1_5 u_x1_6 u_x1_7 u_x1_8 y2 u_x3_5 u_x3_6 u_y4 u_y5 u_y6 y7 y8 x9_6 y10 y11 y12 y13 y14 y15) t.heap ∧ va_D (va_A (wS52 K cI cJ cZ cB p0 p1 p2 p3 p4 p5 p6 p7 p8 p9 p10 p11 p12 p13 p14 p15 x0_3 x0_4 x0_5 x0_6 x0_7 x0_8 x0_9 x0_10 x0_11 x0_12 x0_13 x0_14 x1_1 x1_2 x1_3 x1_4 x1_5 x1_6 x1_7 x1_8 y2 x3_5 x3_6 y4 y5 y6 y7 y8 x9_6 y10 y11 y12 y13 y14 y15) sz) (wS52 K cI cJ cZ cB p0 p1 p2 p3 p4 p5 p6 p7 p8 p9 p10 p11 p12 p13 p14 p15 u_x0_3 u_x0_4 x0_5 x0_6 x0_7 x0_8 x0_9 x0_10 x0_11 x0_12 u_x0_13 u_x0_14 x1_1 x1_2 u_x1_3 x1_4 x1_5 u_x1_6 u_x1_7 u_x1_8 y2 u_x3_5 u_x3_6 u_y4 u_y5 u_y6 y7 y8 x9_6 y10 y11 y12 y13 y14 y15))) (va_A (wS52 K cI cJ cZ cB p0 p1 p2 p3 p4 p5 p6 p7 p8 p9 p10 p11 p12 p13 p14 p15 x0_3 x0_4 x0_5 x0_6 x0_7 x0_8 x0_9 x0_10 x0_11 x0_12 x0_13 x0_14 x1_1 x1_2 x1_3 x1_4 x1_5 x1_6 x1_7 x1_8 y2 x3_5 x3_6 y4 y5 y6 y7 y8 x9_6 y10 y11 y12 y13 y14 y15) sz)) 0 0 (va_A (wS52 K cI cJ cZ cB p0 p1 p2 p3 p4 p5 p6 p7 p8 p9 p10 p11 p12 p13 p14 p15 x0_3 x0_4 x0_5 x0_6 x0_7 x0_8 x0_9 x0_10 x0_11 x0_12 x0_13 x0_14 x1_1 x1_2 x1_3 x1_4 x1_5 x1_6 x1_7 x1_8 y2 x3_5 x3_6 y4 y5 y6 y7 y8 x9_6 y10 y11 y12 y13 y14 y15) sz) := by
  refine Met.ofW (cc := b_A_readAddress) (maxL := 2) (ret := (some .int)) (by decide) rfl ?_
  intro p e s m args below meth c s₁ B hml hv
  obtain ⟨rfl, hsz, hK, hP, hD0, hC⟩ := hv
  subst hsz
  have hD := hD0.self (sz := s.heap.size)
  generalize hAe : va_A (wS52 K cI cJ cZ cB p0 p1 p2 p3 p4 p5 p6 p7 p8 p9 p10 p11 p12 p13 p14 p15 x0_3 x0_4 x0_5 x0_6 x0_7 x0_8 x0_9 x0_10 x0_11 x0_12 x0_13 x0_14 x1_1 x1_2 x1_3 x1_4 x1_5 x1_6 x1_7 x1_8 y2 x3_5 x3_6 y4 y5 y6 y7 y8 x9_6 y10 y11 y12 y13 y14 y15) s.heap.size = A at hD hC ⊢
  have hA : ∀ q : Nat, s.heap.size ≤ q → A q := fun q h => by rw [← hAe]; exact Or.inr h
  clear hAe hD0
  have hS : va_S A s.heap s.heap [] := va_S.rf
  have hx := B.exec
  have hb := B.bytes
  have hr := B.returns
  have hts := atoms_spec (ws := .code y_A_readAddress b_A_readAddress 2 (some .int) :: tb) B.pre
  have hk : ∀ w ∈ tb, w.before [.ref p0].toArray s = true := fun w h => hts w (List.mem_cons_of_mem _ h)
  have hown : s.vm.findClass "SignMachine$Assembler" = some m.cls := findClass_of_methodNamed B.named
  have hlocks := B.notSynchronized
  have hl := lv_entry ([.ref p0]) (n := 2) (Nat.le_of_ble_eq_true rfl)
  rw [lg_entry_eq]
  generalize (lg_sl ([.ref p0]) ++ List.replicate (2 - (lg_sl ([.ref p0])).length) Slot.unset).toArray = ls at hl ⊢
  have hl : lv_has ls 2 [(0, .ref p0)] := hl
  refine lv_aload_n hx hb d_A_readAddress_0 rfl (lv_at hl 0 rfl) ?_
  refine lv_iconst (v := 0) hx hb d_A_readAddress_1 (by decide) ?_
  refine va_put (D := D) (ci := 3) (v := .int (0 : Int32)) (ty := .int) (C := "SignMachine$Assembler") (T := F_A) (N := 15) hx hb hk fi_A ft_A ft_A_ok fn_A hown hK.1 hP hD hS 0 rfl rfl 13 (by decide) (hk _ k_650) (fun _ h9 => h9) rfl (by decide +kernel) rfl rfl (Nat.le_of_ble_eq_true rfl) d_A_readAddress_2 (fun H locs hP hD hS => ?_)
  have hP : va_P D classes (wS52 K cI cJ cZ cB p0 p1 p2 p3 p4 p5 p6 p7 p8 p9 p10 p11 p12 p13 p14 p15 x0_3 x0_4 x0_5 x0_6 x0_7 x0_8 x0_9 x0_10 x0_11 x0_12 (0 : Int32) x0_14 x1_1 x1_2 x1_3 x1_4 x1_5 x1_6 x1_7 x1_8 y2 x3_5 x3_6 y4 y5 y6 y7 y8 x9_6 y10 y11 y12 y13 y14 y15) H := hP
  have hD : va_D A (wS52 K cI cJ cZ cB p0 p1 p2 p3 p4 p5 p6 p7 p8 p9 p10 p11 p12 p13 p14 p15 x0_3 x0_4 x0_5 x0_6 x0_7 x0_8 x0_9 x0_10 x0_11 x0_12 (0 : Int32) x0_14 x1_1 x1_2 x1_3 x1_4 x1_5 x1_6 x1_7 x1_8 y2 x3_5 x3_6 y4 y5 y6 y7 y8 x9_6 y10 y11 y12 y13 y14 y15) := hD
  refine lv_aload_n hx hb d_A_readAddress_5 rfl (lv_at hl 0 rfl) ?_
  refine va_get (D := D) (ci := 3) (v := .ref p1) (C := "SignMachine$Assembler") (T := F_A) (N := 15) hx hb hk fi_A hown hK.1 hP 0 rfl rfl 0 (by decide) (hk _ k_631) (fun _ h9 => h9) rfl d_A_readAddress_6 ?_
  refine sn_i (va_runV (C := "SignMachine$Source") (As := []) (rest := []) ⟨hx, hb, hml, hown, hk⟩ (c_R_peek_s1 l K D cI cJ cZ cB p0 p1 p2 p3 p4 p5 p6 p7 p8 p9 p10 p11 p12 p13 p14 p15 H.size x0_3 x0_4 x0_5 x0_6 x0_7 x0_8 x0_9 x0_10 x0_11 x0_12 (0 : Int32) x0_14 x1_1 x1_2 x1_3 x1_4 x1_5 x1_6 x1_7 x1_8 y2 x3_5 x3_6 y4 y5 y6 y7 y8 x9_6 y10 y11 y12 y13 y14 y15   ) (v_R_peek_s1 hk k_739 ⟨Nat.le_of_ble_eq_true rfl, Nat.le_of_ble_eq_true rfl⟩) (pMC_v hK hP hD hC hS hA (ci := 4) (q0 := 1) rfl rfl rfl) rfl rfl hl.1 rfl (lv_room (Nat.le_of_ble_eq_true rfl)) d_A_readAddress_9 ⟨by decide, by decide⟩) hS hA hD (fun rz1 u t H locs hr0 ht hB hFr hS => ?_)
  obtain ⟨hP, hD⟩ := hB
  rw [ht] at hP
  have hD := dwk hD hFr
  clear ht hFr
  have hP : va_P D classes (wS52 K cI cJ cZ cB p0 p1 p2 p3 p4 p5 p6 p7 p8 p9 p10 p11 p12 p13 p14 p15 x0_3 x0_4 x0_5 x0_6 x0_7 x0_8 x0_9 x0_10 x0_11 x0_12 (0 : Int32) x0_14 x1_1 x1_2 x1_3 x1_4 x1_5 x1_6 x1_7 x1_8 y2 x3_5 x3_6 y4 y5 y6 y7 y8 x9_6 y10 y11 y12 y13 y14 y15) H := hP
  have hD : va_D A (wS52 K cI cJ cZ cB p0 p1 p2 p3 p4 p5 p6 p7 p8 p9 p10 p11 p12 p13 p14 p15 x0_3 x0_4 x0_5 x0_6 x0_7 x0_8 x0_9 x0_10 x0_11 x0_12 (0 : Int32) x0_14 x1_1 x1_2 x1_3 x1_4 x1_5 x1_6 x1_7 x1_8 y2 x3_5 x3_6 y4 y5 y6 y7 y8 x9_6 y10 y11 y12 y13 y14 y15) := hD
  refine lv_istore_n (lv' := [(1, .int rz1), (0, .ref p0)]) hx hb d_A_readAddress_12 rfl hl (by decide) rfl (fun ls hl => ?_)
  refine lv_iload_n hx hb d_A_readAddress_13 rfl (lv_at hl 0 rfl) ?_
  refine lv_iconst (v := (-1)) hx hb d_A_readAddress_14 (by decide) ?_
  refine lv_icmp_eq (tgt := 30) hx hb d_A_readAddress_15 (by decide) (fun c2 => ?_) (fun c2 => ?_)
  · refine lv_iconst (v := 0) hx hb d_A_readAddress_30 (by decide) ?_
    exact W.iret (v := (0 : Int32)) hx hb hr (fun t ht hW => ⟨⟨(0 : Int32), (), rfl, trivial, ⟨x0_3, x0_4, (0 : Int32), x0_14, x1_3, x1_6, x1_7, x1_8, x3_5, x3_6, y4, y5, y6, by show va_P D classes _ t.heap; rw [ht]; exact hP, hD⟩⟩, hS.F ht⟩) hS.2.2 d_A_readAddress_31
  · refine lv_iload_n hx hb d_A_readAddress_18 rfl (lv_at hl 0 rfl) ?_
    refine lv_bipush (v := 44) hx hb d_A_readAddress_19 (by decide) ?_
    refine lv_icmp_eq (tgt := 30) hx hb d_A_readAddress_21 (by decide) (fun c3 => ?_) (fun c3 => ?_)
    · refine lv_iconst (v := 0) hx hb d_A_readAddress_30 (by decide) ?_
      exact W.iret (v := (0 : Int32)) hx hb hr (fun t ht hW => ⟨⟨(0 : Int32), (), rfl, trivial, ⟨x0_3, x0_4, (0 : Int32), x0_14, x1_3, x1_6, x1_7, x1_8, x3_5, x3_6, y4, y5, y6, by show va_P D classes _ t.heap; rw [ht]; exact hP, hD⟩⟩, hS.F ht⟩) hS.2.2 d_A_readAddress_31
    · refine lv_iload_n hx hb d_A_readAddress_24 rfl (lv_at hl 0 rfl) ?_
      refine lv_bipush (v := 40) hx hb d_A_readAddress_25 (by decide) ?_
      refine lv_icmp_ne (tgt := 32) hx hb d_A_readAddress_27 (by decide) (fun c4 => ?_) (fun c4 => ?_)
      · refine lv_aload_n hx hb d_A_readAddress_32 rfl (lv_at hl 1 rfl) ?_
        refine va_get (D := D) (ci := 3) (v := .ref p1) (C := "SignMachine$Assembler") (T := F_A) (N := 15) hx hb hk fi_A hown hK.1 hP 0 rfl rfl 0 (by decide) (hk _ k_631) (fun _ h9 => h9) rfl d_A_readAddress_33 ?_
        refine lv_bipush (v := 61) hx hb d_A_readAddress_36 (by decide) ?_
        refine sn_i (va_runV (C := "SignMachine$Source") (As := [.int (61 : Int32)]) (rest := []) ⟨hx, hb, hml, hown, hk⟩ (c_R_takes_s1 l K D cI cJ cZ cB p0 p1 p2 p3 p4 p5 p6 p7 p8 p9 p10 p11 p12 p13 p14 p15 H.size x0_3 x0_4 x0_5 x0_6 x0_7 x0_8 x0_9 x0_10 x0_11 x0_12 (0 : Int32) x0_14 x1_1 x1_2 x1_3 x1_4 x1_5 x1_6 x1_7 x1_8 y2 x3_5 x3_6 y4 y5 y6 y7 y8 x9_6 y10 y11 y12 y13 y14 y15  (61 : Int32) ) (v_R_takes_s1 hk k_954 ⟨Nat.le_of_ble_eq_true rfl, Nat.le_of_ble_eq_true rfl⟩) (pMC_v hK hP hD hC hS hA (ci := 4) (q0 := 1) rfl rfl rfl) rfl rfl hl.1 rfl (lv_room (Nat.le_of_ble_eq_true rfl)) d_A_readAddress_38 ⟨by decide, by decide⟩) hS hA hD (fun rz5 u t H locs hr0 ht hB hFr hS => ?_)
        obtain ⟨z5, hz5⟩ := hr0
        subst hz5
        obtain ⟨x1_3z5, hP, hD⟩ := hB
        rw [ht] at hP
        have hD := dwk hD hFr
        clear ht hFr
        have hP : va_P D classes (wS52 K cI cJ cZ cB p0 p1 p2 p3 p4 p5 p6 p7 p8 p9 p10 p11 p12 p13 p14 p15 x0_3 x0_4 x0_5 x0_6 x0_7 x0_8 x0_9 x0_10 x0_11 x0_12 (0 : Int32) x0_14 x1_1 x1_2 x1_3z5 x1_4 x1_5 x1_6 x1_7 x1_8 y2 x3_5 x3_6 y4 y5 y6 y7 y8 x9_6 y10 y11 y12 y13 y14 y15) H := hP
        have hD : va_D A (wS52 K cI cJ cZ cB p0 p1 p2 p3 p4 p5 p6 p7 p8 p9 p10 p11 p12 p13 p14 p15 x0_3 x0_4 x0_5 x0_6 x0_7 x0_8 x0_9 x0_10 x0_11 x0_12 (0 : Int32) x0_14 x1_1 x1_2 x1_3z5 x1_4 x1_5 x1_6 x1_7 x1_8 y2 x3_5 x3_6 y4 y5 y6 y7 y8 x9_6 y10 y11 y12 y13 y14 y15) := hD
        refine lv_if_eq (tgt := 54) hx hb d_A_readAddress_41 (by decide) (fun c6 => ?_) (fun c6 => ?_)
        · refine lv_aload_n hx hb d_A_readAddress_54 rfl (lv_at hl 1 rfl) ?_
          refine sn_i (va_runV (C := "SignMachine$Assembler") (As := []) (rest := []) ⟨hx, hb, hml, hown, hk⟩ (c_A_readLaterName_s1 l K D cI cJ cZ cB p0 p1 p2 p3 p4 p5 p6 p7 p8 p9 p10 p11 p12 p13 p14 p15 H.size x0_3 x0_4 x0_5 x0_6 x0_7 x0_8 x0_9 x0_10 x0_11 x0_12 (0 : Int32) x0_14 x1_1 x1_2 x1_3z5 x1_4 x1_5 x1_6 x1_7 x1_8 y2 x3_5 x3_6 y4 y5 y6 y7 y8 x9_6 y10 y11 y12 y13 y14 y15   ) (v_A_readLaterName_s1 hk k_1036 ⟨Nat.le_of_ble_eq_true rfl, Nat.le_of_ble_eq_true rfl⟩) (pMC_v hK hP hD hC hS hA (ci := 3) (q0 := 0) rfl rfl rfl) rfl rfl hl.1 rfl (lv_room (Nat.le_of_ble_eq_true rfl)) d_A_readAddress_55 ⟨by decide, by decide⟩) hS hA hD (fun rz7 u t H locs hr0 ht hB hFr hS => ?_)
          obtain ⟨z7, hz7⟩ := hr0
          subst hz7
          obtain ⟨x0_3z7, x0_4z7, x0_13z7, x0_14z7, x1_3z7, x1_6z7, x1_7z7, x1_8z7, x3_5z7, x3_6z7, y4z7, y5z7, y6z7, hP, hD⟩ := hB
          rw [ht] at hP
          have hD := dwk hD hFr
          clear ht hFr
          have hP : va_P D classes (wS52 K cI cJ cZ cB p0 p1 p2 p3 p4 p5 p6 p7 p8 p9 p10 p11 p12 p13 p14 p15 x0_3z7 x0_4z7 x0_5 x0_6 x0_7 x0_8 x0_9 x0_10 x0_11 x0_12 x0_13z7 x0_14z7 x1_1 x1_2 x1_3z7 x1_4 x1_5 x1_6z7 x1_7z7 x1_8z7 y2 x3_5z7 x3_6z7 y4z7 y5z7 y6z7 y7 y8 x9_6 y10 y11 y12 y13 y14 y15) H := hP
          have hD : va_D A (wS52 K cI cJ cZ cB p0 p1 p2 p3 p4 p5 p6 p7 p8 p9 p10 p11 p12 p13 p14 p15 x0_3z7 x0_4z7 x0_5 x0_6 x0_7 x0_8 x0_9 x0_10 x0_11 x0_12 x0_13z7 x0_14z7 x1_1 x1_2 x1_3z7 x1_4 x1_5 x1_6z7 x1_7z7 x1_8z7 y2 x3_5z7 x3_6z7 y4z7 y5z7 y6z7 y7 y8 x9_6 y10 y11 y12 y13 y14 y15) := hD
          refine lv_if_eq (tgt := 65) hx hb d_A_readAddress_58 (by decide) (fun c8 => ?_) (fun c8 => ?_)
          · refine lv_aload_n hx hb d_A_readAddress_65 rfl (lv_at hl 1 rfl) ?_
            refine sn_i (va_runV (C := "SignMachine$Assembler") (As := []) (rest := []) ⟨hx, hb, hml, hown, hk⟩ (c_A_readExp_s1 l K D cI cJ cZ cB p0 p1 p2 p3 p4 p5 p6 p7 p8 p9 p10 p11 p12 p13 p14 p15 H.size x0_3z7 x0_4z7 x0_5 x0_6 x0_7 x0_8 x0_9 x0_10 x0_11 x0_12 x0_13z7 x0_14z7 x1_1 x1_2 x1_3z7 x1_4 x1_5 x1_6z7 x1_7z7 x1_8z7 y2 x3_5z7 x3_6z7 y4z7 y5z7 y6z7 y7 y8 x9_6 y10 y11 y12 y13 y14 y15   ) (v_A_readExp_s1 hk k_989 ⟨Nat.le_of_ble_eq_true rfl, Nat.le_of_ble_eq_true rfl⟩) (pMC_v hK hP hD hC hS hA (ci := 3) (q0 := 0) rfl rfl rfl) rfl rfl hl.1 rfl (lv_room (Nat.le_of_ble_eq_true rfl)) d_A_readAddress_66 ⟨by decide, by decide⟩) hS hA hD (fun rz9 u t H locs hr0 ht hB hFr hS => ?_)
            obtain ⟨x0_3z9, x0_4z9, x1_3z9, x1_6z9, x1_7z9, x1_8z9, hP, hD⟩ := hB
            rw [ht] at hP
            have hD := dwk hD hFr
            clear ht hFr
            have hP : va_P D classes (wS52 K cI cJ cZ cB p0 p1 p2 p3 p4 p5 p6 p7 p8 p9 p10 p11 p12 p13 p14 p15 x0_3z9 x0_4z9 x0_5 x0_6 x0_7 x0_8 x0_9 x0_10 x0_11 x0_12 x0_13z7 x0_14z7 x1_1 x1_2 x1_3z9 x1_4 x1_5 x1_6z9 x1_7z9 x1_8z9 y2 x3_5z7 x3_6z7 y4z7 y5z7 y6z7 y7 y8 x9_6 y10 y11 y12 y13 y14 y15) H := hP
            have hD : va_D A (wS52 K cI cJ cZ cB p0 p1 p2 p3 p4 p5 p6 p7 p8 p9 p10 p11 p12 p13 p14 p15 x0_3z9 x0_4z9 x0_5 x0_6 x0_7 x0_8 x0_9 x0_10 x0_11 x0_12 x0_13z7 x0_14z7 x1_1 x1_2 x1_3z9 x1_4 x1_5 x1_6z9 x1_7z9 x1_8z9 y2 x3_5z7 x3_6z7 y4z7 y5z7 y6z7 y7 y8 x9_6 y10 y11 y12 y13 y14 y15) := hD
            exact W.iret (v := rz9) hx hb hr (fun t ht hW => ⟨⟨rz9, (), rfl, trivial, ⟨x0_3z9, x0_4z9, x0_13z7, x0_14z7, x1_3z9, x1_6z9, x1_7z9, x1_8z9, x3_5z7, x3_6z7, y4z7, y5z7, y6z7, by show va_P D classes _ t.heap; rw [ht]; exact hP, hD⟩⟩, hS.F ht⟩) hS.2.2 d_A_readAddress_69
          · refine lv_iconst (v := 0) hx hb d_A_readAddress_61 (by decide) ?_
            refine lv_goto (tgt := 69) hx hb d_A_readAddress_62 (by decide) ?_
            exact W.iret (v := (0 : Int32)) hx hb hr (fun t ht hW => ⟨⟨(0 : Int32), (), rfl, trivial, ⟨x0_3z7, x0_4z7, x0_13z7, x0_14z7, x1_3z7, x1_6z7, x1_7z7, x1_8z7, x3_5z7, x3_6z7, y4z7, y5z7, y6z7, by show va_P D classes _ t.heap; rw [ht]; exact hP, hD⟩⟩, hS.F ht⟩) hS.2.2 d_A_readAddress_69
        · refine lv_aload_n hx hb d_A_readAddress_44 rfl (lv_at hl 1 rfl) ?_
          refine lv_aload_n hx hb d_A_readAddress_45 rfl (lv_at hl 1 rfl) ?_
          refine sn_i (va_runV (C := "SignMachine$Assembler") (As := []) (rest := [.ref p0]) ⟨hx, hb, hml, hown, hk⟩ (c_A_readW_s1 l K D cI cJ cZ cB p0 p1 p2 p3 p4 p5 p6 p7 p8 p9 p10 p11 p12 p13 p14 p15 H.size x0_3 x0_4 x0_5 x0_6 x0_7 x0_8 x0_9 x0_10 x0_11 x0_12 (0 : Int32) x0_14 x1_1 x1_2 x1_3z5 x1_4 x1_5 x1_6 x1_7 x1_8 y2 x3_5 x3_6 y4 y5 y6 y7 y8 x9_6 y10 y11 y12 y13 y14 y15   ) (v_A_readW_s1 hk k_985 ⟨Nat.le_of_ble_eq_true rfl, Nat.le_of_ble_eq_true rfl⟩) (pMC_v hK hP hD hC hS hA (ci := 3) (q0 := 0) rfl rfl rfl) rfl rfl hl.1 rfl (lv_room (Nat.le_of_ble_eq_true rfl)) d_A_readAddress_46 ⟨by decide, by decide⟩) hS hA hD (fun rz10 u t H locs hr0 ht hB hFr hS => ?_)
          obtain ⟨x0_3z10, x0_4z10, x1_3z10, x1_6z10, x1_7z10, x1_8z10, hP, hD⟩ := hB
          rw [ht] at hP
          have hD := dwk hD hFr
          clear ht hFr
          have hP : va_P D classes (wS52 K cI cJ cZ cB p0 p1 p2 p3 p4 p5 p6 p7 p8 p9 p10 p11 p12 p13 p14 p15 x0_3z10 x0_4z10 x0_5 x0_6 x0_7 x0_8 x0_9 x0_10 x0_11 x0_12 (0 : Int32) x0_14 x1_1 x1_2 x1_3z10 x1_4 x1_5 x1_6z10 x1_7z10 x1_8z10 y2 x3_5 x3_6 y4 y5 y6 y7 y8 x9_6 y10 y11 y12 y13 y14 y15) H := hP
          have hD : va_D A (wS52 K cI cJ cZ cB p0 p1 p2 p3 p4 p5 p6 p7 p8 p9 p10 p11 p12 p13 p14 p15 x0_3z10 x0_4z10 x0_5 x0_6 x0_7 x0_8 x0_9 x0_10 x0_11 x0_12 (0 : Int32) x0_14 x1_1 x1_2 x1_3z10 x1_4 x1_5 x1_6z10 x1_7z10 x1_8z10 y2 x3_5 x3_6 y4 y5 y6 y7 y8 x9_6 y10 y11 y12 y13 y14 y15) := hD
          refine kn_v (va_runV (C := "SignMachine$Assembler") (As := [.int rz10]) (rest := []) ⟨hx, hb, hml, hown, hk⟩ (c_A_takeLiteral_s1 l K D cI cJ cZ cB p0 p1 p2 p3 p4 p5 p6 p7 p8 p9 p10 p11 p12 p13 p14 p15 H.size x0_3z10 x0_4z10 x0_5 x0_6 x0_7 x0_8 x0_9 x0_10 x0_11 x0_12 (0 : Int32) x0_14 x1_1 x1_2 x1_3z10 x1_4 x1_5 x1_6z10 x1_7z10 x1_8z10 y2 x3_5 x3_6 y4 y5 y6 y7 y8 x9_6 y10 y11 y12 y13 y14 y15  rz10 ) (v_A_takeLiteral_s1 hk k_1028 ⟨Nat.le_of_ble_eq_true rfl, Nat.le_of_ble_eq_true rfl⟩) (pMC_v hK hP hD hC hS hA (ci := 3) (q0 := 0) rfl rfl rfl) rfl rfl hl.1 rfl (lv_room (Nat.le_of_ble_eq_true rfl)) d_A_readAddress_49 ⟨by decide, by decide⟩) hS hA hD (fun u t H locs ht hB hFr hS => ?_)
          obtain ⟨x0_3z11, x0_4z11, x0_13z11, x0_14z11, x1_3z11, x3_5z11, y4z11, y5z11, y6z11, hP, hD⟩ := hB
          rw [ht] at hP
          have hD := dwk hD hFr
          clear ht hFr
          have hP : va_P D classes (wS52 K cI cJ cZ cB p0 p1 p2 p3 p4 p5 p6 p7 p8 p9 p10 p11 p12 p13 p14 p15 x0_3z11 x0_4z11 x0_5 x0_6 x0_7 x0_8 x0_9 x0_10 x0_11 x0_12 x0_13z11 x0_14z11 x1_1 x1_2 x1_3z11 x1_4 x1_5 x1_6z10 x1_7z10 x1_8z10 y2 x3_5z11 x3_6 y4z11 y5z11 y6z11 y7 y8 x9_6 y10 y11 y12 y13 y14 y15) H := hP
          have hD : va_D A (wS52 K cI cJ cZ cB p0 p1 p2 p3 p4 p5 p6 p7 p8 p9 p10 p11 p12 p13 p14 p15 x0_3z11 x0_4z11 x0_5 x0_6 x0_7 x0_8 x0_9 x0_10 x0_11 x0_12 x0_13z11 x0_14z11 x1_1 x1_2 x1_3z11 x1_4 x1_5 x1_6z10 x1_7z10 x1_8z10 y2 x3_5z11 x3_6 y4z11 y5z11 y6z11 y7 y8 x9_6 y10 y11 y12 y13 y14 y15) := hD
          refine lv_iconst (v := 0) hx hb d_A_readAddress_52 (by decide) ?_
          exact W.iret (v := (0 : Int32)) hx hb hr (fun t ht hW => ⟨⟨(0 : Int32), (), rfl, trivial, ⟨x0_3z11, x0_4z11, x0_13z11, x0_14z11, x1_3z11, x1_6z10, x1_7z10, x1_8z10, x3_5z11, x3_6, y4z11, y5z11, y6z11, by show va_P D classes _ t.heap; rw [ht]; exact hP, hD⟩⟩, hS.F ht⟩) hS.2.2 d_A_readAddress_53
      · refine lv_iconst (v := 0) hx hb d_A_readAddress_30 (by decide) ?_
        exact W.iret (v := (0 : Int32)) hx hb hr (fun t ht hW => ⟨⟨(0 : Int32), (), rfl, trivial, ⟨x0_3, x0_4, (0 : Int32), x0_14, x1_3, x1_6, x1_7, x1_8, x3_5, x3_6, y4, y5, y6, by show va_P D classes _ t.heap; rw [ht]; exact hP, hD⟩⟩, hS.F ht⟩) hS.2.2 d_A_readAddress_31
theorem v_A_readAddress_s1 {R : Room} {s : State} {args : Array Value} {own : String} {index : Nat} (hk : ∀ w ∈ tb, w.before args s = true) (hl : Cond.methodLink own index y_A_readAddress ∈ tb) (hR : 4 + 1 ≤ R.frames ∧ 8 + (2 + 11) + 98 ≤ R.locals) : CallW R s args own "SignMachine$Assembler" index y_A_readAddress b_A_readAddress 2 (some .int) (.code y_A_readAddress b_A_readAddress 2 (some .int) :: tb) ({ frames := 4, cells := 0, slots := 0, locals := 98 }) 0 0 0 := mk_v 0 hk k_984 hl k_983 k_46 k_123 rfl rfl h_A_readAddress hR
set_option maxHeartbeats 4000000 in
set_option maxRecDepth 100000 in
theorem c_A_takeOperation_s1 (l : Launch) (K : CK) (D : va_G) (cI cJ cZ cB : ClassId) (p0 p1 p2 p3 p4 p5 p6 p7 p8 p9 p10 p11 p12 p13 p14 p15 : Nat) (sz : Nat) (x0_3 : Int32) (x0_4 : Int32) (x0_5 : Int32) (x0_6 : Int32) (x0_7 : Int32) (x0_8 : Bool) (x0_9 : Int64) (x0_10 : Int32) (x0_11 : Option (Fin 51)) (x0_12 : Int32) (x0_13 : Int32) (x0_14 : Int32) (x1_1 : Int32) (x1_2 : Int32) (x1_3 : Int32) (x1_4 : Int32) (x1_5 : Int32) (x1_6 : Int32) (x1_7 : Int64) (x1_8 : Int32) (y2 : Nat → Int32) (x3_5 : Int32) (x3_6 : Int32) (y4 : Nat → Int64) (y5 : Nat → Int32) (y6 : Nat → Int32) (y7 : Nat → Int32) (y8 : Nat → Int32) (x9_6 : Int32) (y10 : Nat → Int32) (y11 : Nat → Int32) (y12 : Nat → Int32) (y13 : Nat → Int32) (y14 : Nat → Int32) (y15 : Nat → Int32)  (a1 : Int32) : Met l y_A_takeOperation (.code y_A_takeOperation b_A_takeOperation 5 none :: tb) ({ frames := 5, cells := 0, slots := 0, locals := 119 }) (pMC K D cI cJ cZ cB (wS52 K cI cJ cZ cB p0 p1 p2 p3 p4 p5 p6 p7 p8 p9 p10 p11 p12 p13 p14 p15 x0_3 x0_4 x0_5 x0_6 x0_7 x0_8 x0_9 x0_10 x0_11 x0_12 x0_13 x0_14 x1_1 x1_2 x1_3 x1_4 x1_5 x1_6 x1_7 x1_8 y2 x3_5 x3_6 y4 y5 y6 y7 y8 x9_6 y10 y11 y12 y13 y14 y15) sz [.ref p0, .int a1]) (va_Qv (fun (_ : Unit) => True) (fun _ t => (∃ u_x0_3 : Int32, ∃ u_x0_4 : Int32, ∃ u_x0_7 : Int32, ∃ u_x0_13 : Int32, ∃ u_x0_14 : Int32, ∃ u_x1_3 : Int32, ∃ u_x1_6 : Int32, ∃ u_x1_7 : Int64, ∃ u_x1_8 : Int32, ∃ u_x3_5 : Int32, ∃ u_x3_6 : Int32, ∃ u_y4 : Nat → Int64, ∃ u_y5 : Nat → Int32, ∃ u_y6 : Nat → Int32, ∃ u_x9_6 : Int32, ∃ u_y10 : Nat → Int32, ∃ u_y11 : Nat → Int32, ∃ u_y12 : Nat → Int32, ∃ u_y13 : Nat → Int32, ∃ u_y14 : Nat → Int32, ∃ u_y15 : Nat → Int32, va_P D classes (wS52 K cI cJ cZ cB p0 p1 p2 p3 p4 p5 p6 p7 p8 p9 p10 p11 p12 p13 p14 p15 u_x0_3 u_x0_4 x0_5 x0_6 u_x0_7 x0_8 x0_9 x0_10 x0_11 x0_12 u_x0_13 u_x0_14 x1_1 x1_2 u_x1_3 x1_4 x1_5 u_x1_6 u_x1_7 u_x1_8 y2 u_x3_5 u_x3_6 u_y4 u_y5 u_y6 y7 y8 u_x9_6 u_y10 u_y11 u_y12 u_y13 u_y14 u_y15) t.heap ∧ va_D (va_A (wS52 K cI cJ cZ cB p0 p1 p2 p3 p4 p5 p6 p7 p8 p9 p10 p11 p12 p13 p14 p15 x0_3 x0_4 x0_5 x0_6 x0_7 x0_8 x0_9 x0_10 x0_11 x0_12 x0_13 x0_14 x1_1 x1_2 x1_3 x1_4 x1_5 x1_6 x1_7 x1_8 y2 x3_5 x3_6 y4 y5 y6 y7 y8 x9_6 y10 y11 y12 y13 y14 y15) sz) (wS52 K cI cJ cZ cB p0 p1 p2 p3 p4 p5 p6 p7 p8 p9 p10 p11 p12 p13 p14 p15 u_x0_3 u_x0_4 x0_5 x0_6 u_x0_7 x0_8 x0_9 x0_10 x0_11 x0_12 u_x0_13 u_x0_14 x1_1 x1_2 u_x1_3 x1_4 x1_5 u_x1_6 u_x1_7 u_x1_8 y2 u_x3_5 u_x3_6 u_y4 u_y5 u_y6 y7 y8 u_x9_6 u_y10 u_y11 u_y12 u_y13 u_y14 u_y15))) (va_A (wS52 K cI cJ cZ cB p0 p1 p2 p3 p4 p5 p6 p7 p8 p9 p10 p11 p12 p13 p14 p15 x0_3 x0_4 x0_5 x0_6 x0_7 x0_8 x0_9 x0_10 x0_11 x0_12 x0_13 x0_14 x1_1 x1_2 x1_3 x1_4 x1_5 x1_6 x1_7 x1_8 y2 x3_5 x3_6 y4 y5 y6 y7 y8 x9_6 y10 y11 y12 y13 y14 y15) sz)) 0 0 (va_A (wS52 K cI cJ cZ cB p0 p1 p2 p3 p4 p5 p6 p7 p8 p9 p10 p11 p12 p13 p14 p15 x0_3 x0_4 x0_5 x0_6 x0_7 x0_8 x0_9 x0_10 x0_11 x0_12 x0_13 x0_14 x1_1 x1_2 x1_3 x1_4 x1_5 x1_6 x1_7 x1_8 y2 x3_5 x3_6 y4 y5 y6 y7 y8 x9_6 y10 y11 y12 y13 y14 y15) sz) := by
  refine Met.ofW (cc := b_A_takeOperation) (maxL := 5) (ret := none) (by decide) rfl ?_
  intro p e s m args below meth c s₁ B hml hv
  obtain ⟨rfl, hsz, hK, hP, hD0, hC⟩ := hv
  subst hsz
  have hD := hD0.self (sz := s.heap.size)
  generalize hAe : va_A (wS52 K cI cJ cZ cB p0 p1 p2 p3 p4 p5 p6 p7 p8 p9 p10 p11 p12 p13 p14 p15 x0_3 x0_4 x0_5 x0_6 x0_7 x0_8 x0_9 x0_10 x0_11 x0_12 x0_13 x0_14 x1_1 x1_2 x1_3 x1_4 x1_5 x1_6 x1_7 x1_8 y2 x3_5 x3_6 y4 y5 y6 y7 y8 x9_6 y10 y11 y12 y13 y14 y15) s.heap.size = A at hD hC ⊢
  have hA : ∀ q : Nat, s.heap.size ≤ q → A q := fun q h => by rw [← hAe]; exact Or.inr h
  clear hAe hD0
  have hS : va_S A s.heap s.heap [] := va_S.rf
  have hx := B.exec
  have hb := B.bytes
  have hr := B.returns
  have hts := atoms_spec (ws := .code y_A_takeOperation b_A_takeOperation 5 none :: tb) B.pre
  have hk : ∀ w ∈ tb, w.before [.ref p0, .int a1].toArray s = true := fun w h => hts w (List.mem_cons_of_mem _ h)
  have hown : s.vm.findClass "SignMachine$Assembler" = some m.cls := findClass_of_methodNamed B.named
  have hlocks := B.notSynchronized
  have hl := lv_entry ([.ref p0, .int a1]) (n := 5) (Nat.le_of_ble_eq_true rfl)
  rw [lg_entry_eq]
  generalize (lg_sl ([.ref p0, .int a1]) ++ List.replicate (5 - (lg_sl ([.ref p0, .int a1])).length) Slot.unset).toArray = ls at hl ⊢
  have hl : lv_has ls 5 [(0, .ref p0), (1, .int a1)] := hl
  refine lv_aload_n hx hb d_A_takeOperation_0 rfl (lv_at hl 0 rfl) ?_
  refine sn_i (va_runV (C := "SignMachine$Assembler") (As := []) (rest := []) ⟨hx, hb, hml, hown, hk⟩ (c_A_readAddress_s1 l K D cI cJ cZ cB p0 p1 p2 p3 p4 p5 p6 p7 p8 p9 p10 p11 p12 p13 p14 p15 s.heap.size x0_3 x0_4 x0_5 x0_6 x0_7 x0_8 x0_9 x0_10 x0_11 x0_12 x0_13 x0_14 x1_1 x1_2 x1_3 x1_4 x1_5 x1_6 x1_7 x1_8 y2 x3_5 x3_6 y4 y5 y6 y7 y8 x9_6 y10 y11 y12 y13 y14 y15   ) (v_A_readAddress_s1 hk k_981 ⟨Nat.le_of_ble_eq_true rfl, Nat.le_of_ble_eq_true rfl⟩) (pMC_v hK hP hD hC hS hA (ci := 3) (q0 := 0) rfl rfl rfl) rfl rfl hl.1 rfl (lv_room (Nat.le_of_ble_eq_true rfl)) d_A_takeOperation_1 ⟨by decide, by decide⟩) hS hA hD (fun rz1 u t H locs hr0 ht hB hFr hS => ?_)
  obtain ⟨x0_3z1, x0_4z1, x0_13z1, x0_14z1, x1_3z1, x1_6z1, x1_7z1, x1_8z1, x3_5z1, x3_6z1, y4z1, y5z1, y6z1, hP, hD⟩ := hB
  rw [ht] at hP
  have hD := dwk hD hFr
  clear ht hFr
  have hP : va_P D classes (wS52 K cI cJ cZ cB p0 p1 p2 p3 p4 p5 p6 p7 p8 p9 p10 p11 p12 p13 p14 p15 x0_3z1 x0_4z1 x0_5 x0_6 x0_7 x0_8 x0_9 x0_10 x0_11 x0_12 x0_13z1 x0_14z1 x1_1 x1_2 x1_3z1 x1_4 x1_5 x1_6z1 x1_7z1 x1_8z1 y2 x3_5z1 x3_6z1 y4z1 y5z1 y6z1 y7 y8 x9_6 y10 y11 y12 y13 y14 y15) H := hP
  have hD : va_D A (wS52 K cI cJ cZ cB p0 p1 p2 p3 p4 p5 p6 p7 p8 p9 p10 p11 p12 p13 p14 p15 x0_3z1 x0_4z1 x0_5 x0_6 x0_7 x0_8 x0_9 x0_10 x0_11 x0_12 x0_13z1 x0_14z1 x1_1 x1_2 x1_3z1 x1_4 x1_5 x1_6z1 x1_7z1 x1_8z1 y2 x3_5z1 x3_6z1 y4z1 y5z1 y6z1 y7 y8 x9_6 y10 y11 y12 y13 y14 y15) := hD
  refine lv_istore_n (lv' := [(2, .int rz1), (0, .ref p0), (1, .int a1)]) hx hb d_A_takeOperation_4 rfl hl (by decide) rfl (fun ls hl => ?_)
  refine lv_iconst (v := 0) hx hb d_A_takeOperation_5 (by decide) ?_
  refine lv_istore_n (lv' := [(3, .int (0 : Int32)), (2, .int rz1), (0, .ref p0), (1, .int a1)]) hx hb d_A_takeOperation_6 rfl hl (by decide) rfl (fun ls hl => ?_)
  refine lv_iload_n hx hb d_A_takeOperation_7 rfl (lv_at hl 3 rfl) ?_
  refine lv_istore (lv' := [(4, .int a1), (3, .int (0 : Int32)), (2, .int rz1), (0, .ref p0), (1, .int a1)]) hx hb d_A_takeOperation_8 hl (by decide) rfl (fun ls hl => ?_)
  refine lv_aload_n hx hb d_A_takeOperation_10 rfl (lv_at hl 3 rfl) ?_
  refine va_get (D := D) (ci := 3) (v := .int x0_3z1) (C := "SignMachine$Assembler") (T := F_A) (N := 15) hx hb hk fi_A hown hK.1 hP 0 rfl rfl 3 (by decide) (hk _ k_636) (fun _ h9 => h9) rfl d_A_takeOperation_11 ?_
  refine lv_if_ne (tgt := 34) hx hb d_A_takeOperation_14 (by decide) (fun c2 => ?_) (fun c2 => ?_)
  · refine lv_aload_n hx hb d_A_takeOperation_34 rfl (lv_at hl 3 rfl) ?_
    refine va_get (D := D) (ci := 3) (v := .int x0_3z1) (C := "SignMachine$Assembler") (T := F_A) (N := 15) hx hb hk fi_A hown hK.1 hP 0 rfl rfl 3 (by decide) (hk _ k_636) (fun _ h9 => h9) rfl d_A_takeOperation_35 ?_
    refine lv_if_ne (tgt := 63) hx hb d_A_takeOperation_38 (by decide) (fun c3 => ?_) (fun c3 => absurd c3 (show ¬ x0_3z1 = (0 : Int32) from c2))
    refine lv_aload_n hx hb d_A_takeOperation_63 rfl (lv_at hl 3 rfl) ?_
    refine kn_v (va_runV (C := "SignMachine$Assembler") (As := []) (rest := []) ⟨hx, hb, hml, hown, hk⟩ (c_A_expectEnd_s1 l K D cI cJ cZ cB p0 p1 p2 p3 p4 p5 p6 p7 p8 p9 p10 p11 p12 p13 p14 p15 H.size x0_3z1 x0_4z1 x0_5 x0_6 x0_7 x0_8 x0_9 x0_10 x0_11 x0_12 x0_13z1 x0_14z1 x1_1 x1_2 x1_3z1 x1_4 x1_5 x1_6z1 x1_7z1 x1_8z1 y2 x3_5z1 x3_6z1 y4z1 y5z1 y6z1 y7 y8 x9_6 y10 y11 y12 y13 y14 y15   ) (v_A_expectEnd_s1 hk k_1044 ⟨Nat.le_of_ble_eq_true rfl, Nat.le_of_ble_eq_true rfl⟩) (pMC_v hK hP hD hC hS hA (ci := 3) (q0 := 0) rfl rfl rfl) rfl rfl hl.1 rfl (lv_room (Nat.le_of_ble_eq_true rfl)) d_A_takeOperation_64 ⟨by decide, by decide⟩) hS hA hD (fun u t H locs ht hB hFr hS => ?_)
    obtain ⟨x0_3z4, x0_4z4, hP, hD⟩ := hB
    rw [ht] at hP
    have hD := dwk hD hFr
    clear ht hFr
    have hP : va_P D classes (wS52 K cI cJ cZ cB p0 p1 p2 p3 p4 p5 p6 p7 p8 p9 p10 p11 p12 p13 p14 p15 x0_3z4 x0_4z4 x0_5 x0_6 x0_7 x0_8 x0_9 x0_10 x0_11 x0_12 x0_13z1 x0_14z1 x1_1 x1_2 x1_3z1 x1_4 x1_5 x1_6z1 x1_7z1 x1_8z1 y2 x3_5z1 x3_6z1 y4z1 y5z1 y6z1 y7 y8 x9_6 y10 y11 y12 y13 y14 y15) H := hP
    have hD : va_D A (wS52 K cI cJ cZ cB p0 p1 p2 p3 p4 p5 p6 p7 p8 p9 p10 p11 p12 p13 p14 p15 x0_3z4 x0_4z4 x0_5 x0_6 x0_7 x0_8 x0_9 x0_10 x0_11 x0_12 x0_13z1 x0_14z1 x1_1 x1_2 x1_3z1 x1_4 x1_5 x1_6z1 x1_7z1 x1_8z1 y2 x3_5z1 x3_6z1 y4z1 y5z1 y6z1 y7 y8 x9_6 y10 y11 y12 y13 y14 y15) := hD
    refine lv_iload_n hx hb d_A_takeOperation_67 rfl (lv_at hl 2 rfl) ?_
    refine va_mabs hx hb (hml.trans hl.1.symm) hown (hk _ k_1048) (hk _ k_331) (hk _ k_121) (hk _ k_absc) (Nat.le_of_ble_eq_true rfl) (Nat.le_of_ble_eq_true rfl) (Nat.zero_le _) (Nat.zero_le _) d_A_takeOperation_68 ?_
    refine lv_topi (fun v5 hv5 => ?_)
    refine lv_sipush (v := 4095) hx hb d_A_takeOperation_71 (by decide) ?_
    refine lv_icmp_gt (tgt := 99) hx hb d_A_takeOperation_74 (by decide) (fun c6 => ?_) (fun c6 => ?_)
    · refine lv_aload_n hx hb d_A_takeOperation_99 rfl (lv_at hl 3 rfl) ?_
      refine lv_iconst (v := 4) hx hb d_A_takeOperation_100 (by decide) ?_
      refine sn_i (va_runV (C := "SignMachine$Assembler") (As := [.int (4 : Int32)]) (rest := []) ⟨hx, hb, hml, hown, hk⟩ (c_A_fail_s1 l K D cI cJ cZ cB p0 p1 p2 p3 p4 p5 p6 p7 p8 p9 p10 p11 p12 p13 p14 p15 H.size x0_3z4 x0_4z4 x0_5 x0_6 x0_7 x0_8 x0_9 x0_10 x0_11 x0_12 x0_13z1 x0_14z1 x1_1 x1_2 x1_3z1 x1_4 x1_5 x1_6z1 x1_7z1 x1_8z1 y2 x3_5z1 x3_6z1 y4z1 y5z1 y6z1 y7 y8 x9_6 y10 y11 y12 y13 y14 y15  (4 : Int32) ) (v_A_fail_s1 hk k_767 ⟨Nat.le_of_ble_eq_true rfl, Nat.le_of_ble_eq_true rfl⟩) (pMC_v hK hP hD hC hS hA (ci := 3) (q0 := 0) rfl rfl rfl) rfl rfl hl.1 rfl (lv_room (Nat.le_of_ble_eq_true rfl)) d_A_takeOperation_101 ⟨by decide, by decide⟩) hS hA hD (fun rz7 u t H locs hr0 ht hB hFr hS => ?_)
      obtain ⟨x0_3z7, x0_4z7, hP, hD⟩ := hB
      rw [ht] at hP
      have hD := dwk hD hFr
      clear ht hFr
      have hP : va_P D classes (wS52 K cI cJ cZ cB p0 p1 p2 p3 p4 p5 p6 p7 p8 p9 p10 p11 p12 p13 p14 p15 x0_3z7 x0_4z7 x0_5 x0_6 x0_7 x0_8 x0_9 x0_10 x0_11 x0_12 x0_13z1 x0_14z1 x1_1 x1_2 x1_3z1 x1_4 x1_5 x1_6z1 x1_7z1 x1_8z1 y2 x3_5z1 x3_6z1 y4z1 y5z1 y6z1 y7 y8 x9_6 y10 y11 y12 y13 y14 y15) H := hP
      have hD : va_D A (wS52 K cI cJ cZ cB p0 p1 p2 p3 p4 p5 p6 p7 p8 p9 p10 p11 p12 p13 p14 p15 x0_3z7 x0_4z7 x0_5 x0_6 x0_7 x0_8 x0_9 x0_10 x0_11 x0_12 x0_13z1 x0_14z1 x1_1 x1_2 x1_3z1 x1_4 x1_5 x1_6z1 x1_7z1 x1_8z1 y2 x3_5z1 x3_6z1 y4z1 y5z1 y6z1 y7 y8 x9_6 y10 y11 y12 y13 y14 y15) := hD
      refine lv_pop hx hb d_A_takeOperation_104 rfl ?_
      refine lv_aload_n hx hb d_A_takeOperation_105 rfl (lv_at hl 3 rfl) ?_
      refine va_get (D := D) (ci := 3) (v := .int x0_3z7) (C := "SignMachine$Assembler") (T := F_A) (N := 15) hx hb hk fi_A hown hK.1 hP 0 rfl rfl 3 (by decide) (hk _ k_636) (fun _ h9 => h9) rfl d_A_takeOperation_106 ?_
      refine lv_if_ne (tgt := 136) hx hb d_A_takeOperation_109 (by decide) (fun c8 => ?_) (fun c8 => ?_)
      · exact W.vret hx hb hr (fun t ht hW => ⟨⟨(), rfl, trivial, ⟨x0_3z7, x0_4z7, x0_7, x0_13z1, x0_14z1, x1_3z1, x1_6z1, x1_7z1, x1_8z1, x3_5z1, x3_6z1, y4z1, y5z1, y6z1, x9_6, y10, y11, y12, y13, y14, y15, by show va_P D classes _ t.heap; rw [ht]; exact hP, hD⟩⟩, hS.F ht⟩) hS.2.2 d_A_takeOperation_136
      · refine lv_aload_n hx hb d_A_takeOperation_112 rfl (lv_at hl 3 rfl) ?_
        refine lv_iload_n hx hb d_A_takeOperation_113 rfl (lv_at hl 2 rfl) ?_
        refine cs_i (W.runS (As := [.int rz1]) (rest := [.ref p0]) ⟨hx, hb, hml, hown, hk⟩ (c_A_addressPart l rz1) (s_A_addressPart hk k_1049 ⟨Nat.le_of_ble_eq_true rfl, Nat.le_of_ble_eq_true rfl⟩) ⟨fun a U g mk q => q, fun U hU hW => ⟨rfl, trivial⟩⟩ rfl rfl hl.1 rfl (lv_room (Nat.le_of_ble_eq_true rfl)) d_A_takeOperation_114 ⟨Nat.le_of_ble_eq_true rfl, Nat.le_of_ble_eq_true rfl⟩) ?_
        refine lv_topi (fun v9 hv9 => ?_)
        refine lv_iload_n hx hb d_A_takeOperation_117 rfl (lv_at hl 1 rfl) ?_
        refine lv_bipush (v := 12) hx hb d_A_takeOperation_118 (by decide) ?_
        refine lv_ishl hx hb d_A_takeOperation_120 ?_
        refine tpi (y := (0 : Int32)) (by decide) ?_
        refine lv_ior hx hb d_A_takeOperation_121 ?_
        refine lv_topi (fun v10 hv10 => ?_)
        refine lv_iload hx hb d_A_takeOperation_122 (lv_at hl 0 rfl) ?_
        refine lv_bipush (v := 6) hx hb d_A_takeOperation_124 (by decide) ?_
        refine lv_ishl hx hb d_A_takeOperation_126 ?_
        refine lv_topi (fun v11 hv11 => ?_)
        refine lv_ior hx hb d_A_takeOperation_127 ?_
        refine lv_topi (fun v12 hv12 => ?_)
        refine lv_aload_n hx hb d_A_takeOperation_128 rfl (lv_at hl 3 rfl) ?_
        refine va_get (D := D) (ci := 3) (v := .int x0_12) (C := "SignMachine$Assembler") (T := F_A) (N := 15) hx hb hk fi_A hown hK.1 hP 0 rfl rfl 12 (by decide) (hk _ k_649) (fun _ h9 => h9) rfl d_A_takeOperation_129 ?_
        refine lv_ior hx hb d_A_takeOperation_132 ?_
        refine lv_topi (fun v13 hv13 => ?_)
        refine kn_v (va_runV (C := "SignMachine$Assembler") (As := [.int v13]) (rest := []) ⟨hx, hb, hml, hown, hk⟩ (c_A_putInstruction_s1 l K D cI cJ cZ cB p0 p1 p2 p3 p4 p5 p6 p7 p8 p9 p10 p11 p12 p13 p14 p15 H.size x0_3z7 x0_4z7 x0_5 x0_6 x0_7 x0_8 x0_9 x0_10 x0_11 x0_12 x0_13z1 x0_14z1 x1_1 x1_2 x1_3z1 x1_4 x1_5 x1_6z1 x1_7z1 x1_8z1 y2 x3_5z1 x3_6z1 y4z1 y5z1 y6z1 y7 y8 x9_6 y10 y11 y12 y13 y14 y15  v13 ) (v_A_putInstruction_s1 hk k_968 ⟨Nat.le_of_ble_eq_true rfl, Nat.le_of_ble_eq_true rfl⟩) (pMC_v hK hP hD hC hS hA (ci := 3) (q0 := 0) rfl rfl rfl) rfl rfl hl.1 rfl (lv_room (Nat.le_of_ble_eq_true rfl)) d_A_takeOperation_133 ⟨by decide, by decide⟩) hS hA hD (fun u t H locs ht hB hFr hS => ?_)
        obtain ⟨x0_3z14, x0_4z14, x0_7z14, x9_6z14, y10z14, y11z14, y12z14, y13z14, y14z14, y15z14, hP, hD⟩ := hB
        rw [ht] at hP
        have hD := dwk hD hFr
        clear ht hFr
        have hP : va_P D classes (wS52 K cI cJ cZ cB p0 p1 p2 p3 p4 p5 p6 p7 p8 p9 p10 p11 p12 p13 p14 p15 x0_3z14 x0_4z14 x0_5 x0_6 x0_7z14 x0_8 x0_9 x0_10 x0_11 x0_12 x0_13z1 x0_14z1 x1_1 x1_2 x1_3z1 x1_4 x1_5 x1_6z1 x1_7z1 x1_8z1 y2 x3_5z1 x3_6z1 y4z1 y5z1 y6z1 y7 y8 x9_6z14 y10z14 y11z14 y12z14 y13z14 y14z14 y15z14) H := hP
        have hD : va_D A (wS52 K cI cJ cZ cB p0 p1 p2 p3 p4 p5 p6 p7 p8 p9 p10 p11 p12 p13 p14 p15 x0_3z14 x0_4z14 x0_5 x0_6 x0_7z14 x0_8 x0_9 x0_10 x0_11 x0_12 x0_13z1 x0_14z1 x1_1 x1_2 x1_3z1 x1_4 x1_5 x1_6z1 x1_7z1 x1_8z1 y2 x3_5z1 x3_6z1 y4z1 y5z1 y6z1 y7 y8 x9_6z14 y10z14 y11z14 y12z14 y13z14 y14z14 y15z14) := hD
        exact W.vret hx hb hr (fun t ht hW => ⟨⟨(), rfl, trivial, ⟨x0_3z14, x0_4z14, x0_7z14, x0_13z1, x0_14z1, x1_3z1, x1_6z1, x1_7z1, x1_8z1, x3_5z1, x3_6z1, y4z1, y5z1, y6z1, x9_6z14, y10z14, y11z14, y12z14, y13z14, y14z14, y15z14, by show va_P D classes _ t.heap; rw [ht]; exact hP, hD⟩⟩, hS.F ht⟩) hS.2.2 d_A_takeOperation_136
    · refine lv_iload_n hx hb d_A_takeOperation_77 rfl (lv_at hl 1 rfl) ?_
      refine lv_if_lt (tgt := 99) hx hb d_A_takeOperation_78 (by decide) (fun c15 => absurd c15 (show ¬ (0 : Int32) < (0 : Int32) from (by decide))) (fun c15 => ?_)
      refine lv_iload_n hx hb d_A_takeOperation_81 rfl (lv_at hl 1 rfl) ?_
      refine lv_bipush (v := 6) hx hb d_A_takeOperation_82 (by decide) ?_
      refine lv_icmp_gt (tgt := 99) hx hb d_A_takeOperation_84 (by decide) (fun c16 => absurd c16 (show ¬ (6 : Int32) < (0 : Int32) from (by decide))) (fun c16 => ?_)
      refine lv_iload hx hb d_A_takeOperation_87 (lv_at hl 0 rfl) ?_
      refine lv_if_lt (tgt := 99) hx hb d_A_takeOperation_89 (by decide) (fun c17 => ?_) (fun c17 => ?_)
      · refine lv_aload_n hx hb d_A_takeOperation_99 rfl (lv_at hl 3 rfl) ?_
        refine lv_iconst (v := 4) hx hb d_A_takeOperation_100 (by decide) ?_
        refine sn_i (va_runV (C := "SignMachine$Assembler") (As := [.int (4 : Int32)]) (rest := []) ⟨hx, hb, hml, hown, hk⟩ (c_A_fail_s1 l K D cI cJ cZ cB p0 p1 p2 p3 p4 p5 p6 p7 p8 p9 p10 p11 p12 p13 p14 p15 H.size x0_3z4 x0_4z4 x0_5 x0_6 x0_7 x0_8 x0_9 x0_10 x0_11 x0_12 x0_13z1 x0_14z1 x1_1 x1_2 x1_3z1 x1_4 x1_5 x1_6z1 x1_7z1 x1_8z1 y2 x3_5z1 x3_6z1 y4z1 y5z1 y6z1 y7 y8 x9_6 y10 y11 y12 y13 y14 y15  (4 : Int32) ) (v_A_fail_s1 hk k_767 ⟨Nat.le_of_ble_eq_true rfl, Nat.le_of_ble_eq_true rfl⟩) (pMC_v hK hP hD hC hS hA (ci := 3) (q0 := 0) rfl rfl rfl) rfl rfl hl.1 rfl (lv_room (Nat.le_of_ble_eq_true rfl)) d_A_takeOperation_101 ⟨by decide, by decide⟩) hS hA hD (fun rz18 u t H locs hr0 ht hB hFr hS => ?_)
        obtain ⟨x0_3z18, x0_4z18, hP, hD⟩ := hB
        rw [ht] at hP
        have hD := dwk hD hFr
        clear ht hFr
        have hP : va_P D classes (wS52 K cI cJ cZ cB p0 p1 p2 p3 p4 p5 p6 p7 p8 p9 p10 p11 p12 p13 p14 p15 x0_3z18 x0_4z18 x0_5 x0_6 x0_7 x0_8 x0_9 x0_10 x0_11 x0_12 x0_13z1 x0_14z1 x1_1 x1_2 x1_3z1 x1_4 x1_5 x1_6z1 x1_7z1 x1_8z1 y2 x3_5z1 x3_6z1 y4z1 y5z1 y6z1 y7 y8 x9_6 y10 y11 y12 y13 y14 y15) H := hP
        have hD : va_D A (wS52 K cI cJ cZ cB p0 p1 p2 p3 p4 p5 p6 p7 p8 p9 p10 p11 p12 p13 p14 p15 x0_3z18 x0_4z18 x0_5 x0_6 x0_7 x0_8 x0_9 x0_10 x0_11 x0_12 x0_13z1 x0_14z1 x1_1 x1_2 x1_3z1 x1_4 x1_5 x1_6z1 x1_7z1 x1_8z1 y2 x3_5z1 x3_6z1 y4z1 y5z1 y6z1 y7 y8 x9_6 y10 y11 y12 y13 y14 y15) := hD
        refine lv_pop hx hb d_A_takeOperation_104 rfl ?_
        refine lv_aload_n hx hb d_A_takeOperation_105 rfl (lv_at hl 3 rfl) ?_
        refine va_get (D := D) (ci := 3) (v := .int x0_3z18) (C := "SignMachine$Assembler") (T := F_A) (N := 15) hx hb hk fi_A hown hK.1 hP 0 rfl rfl 3 (by decide) (hk _ k_636) (fun _ h9 => h9) rfl d_A_takeOperation_106 ?_
        refine lv_if_ne (tgt := 136) hx hb d_A_takeOperation_109 (by decide) (fun c19 => ?_) (fun c19 => ?_)
        · exact W.vret hx hb hr (fun t ht hW => ⟨⟨(), rfl, trivial, ⟨x0_3z18, x0_4z18, x0_7, x0_13z1, x0_14z1, x1_3z1, x1_6z1, x1_7z1, x1_8z1, x3_5z1, x3_6z1, y4z1, y5z1, y6z1, x9_6, y10, y11, y12, y13, y14, y15, by show va_P D classes _ t.heap; rw [ht]; exact hP, hD⟩⟩, hS.F ht⟩) hS.2.2 d_A_takeOperation_136
        · refine lv_aload_n hx hb d_A_takeOperation_112 rfl (lv_at hl 3 rfl) ?_
          refine lv_iload_n hx hb d_A_takeOperation_113 rfl (lv_at hl 2 rfl) ?_
          refine cs_i (W.runS (As := [.int rz1]) (rest := [.ref p0]) ⟨hx, hb, hml, hown, hk⟩ (c_A_addressPart l rz1) (s_A_addressPart hk k_1049 ⟨Nat.le_of_ble_eq_true rfl, Nat.le_of_ble_eq_true rfl⟩) ⟨fun a U g mk q => q, fun U hU hW => ⟨rfl, trivial⟩⟩ rfl rfl hl.1 rfl (lv_room (Nat.le_of_ble_eq_true rfl)) d_A_takeOperation_114 ⟨Nat.le_of_ble_eq_true rfl, Nat.le_of_ble_eq_true rfl⟩) ?_
          refine lv_topi (fun v20 hv20 => ?_)
          refine lv_iload_n hx hb d_A_takeOperation_117 rfl (lv_at hl 1 rfl) ?_
          refine lv_bipush (v := 12) hx hb d_A_takeOperation_118 (by decide) ?_
          refine lv_ishl hx hb d_A_takeOperation_120 ?_
          refine tpi (y := (0 : Int32)) (by decide) ?_
          refine lv_ior hx hb d_A_takeOperation_121 ?_
          refine lv_topi (fun v21 hv21 => ?_)
          refine lv_iload hx hb d_A_takeOperation_122 (lv_at hl 0 rfl) ?_
          refine lv_bipush (v := 6) hx hb d_A_takeOperation_124 (by decide) ?_
          refine lv_ishl hx hb d_A_takeOperation_126 ?_
          refine lv_topi (fun v22 hv22 => ?_)
          refine lv_ior hx hb d_A_takeOperation_127 ?_
          refine lv_topi (fun v23 hv23 => ?_)
          refine lv_aload_n hx hb d_A_takeOperation_128 rfl (lv_at hl 3 rfl) ?_
          refine va_get (D := D) (ci := 3) (v := .int x0_12) (C := "SignMachine$Assembler") (T := F_A) (N := 15) hx hb hk fi_A hown hK.1 hP 0 rfl rfl 12 (by decide) (hk _ k_649) (fun _ h9 => h9) rfl d_A_takeOperation_129 ?_
          refine lv_ior hx hb d_A_takeOperation_132 ?_
          refine lv_topi (fun v24 hv24 => ?_)
          refine kn_v (va_runV (C := "SignMachine$Assembler") (As := [.int v24]) (rest := []) ⟨hx, hb, hml, hown, hk⟩ (c_A_putInstruction_s1 l K D cI cJ cZ cB p0 p1 p2 p3 p4 p5 p6 p7 p8 p9 p10 p11 p12 p13 p14 p15 H.size x0_3z18 x0_4z18 x0_5 x0_6 x0_7 x0_8 x0_9 x0_10 x0_11 x0_12 x0_13z1 x0_14z1 x1_1 x1_2 x1_3z1 x1_4 x1_5 x1_6z1 x1_7z1 x1_8z1 y2 x3_5z1 x3_6z1 y4z1 y5z1 y6z1 y7 y8 x9_6 y10 y11 y12 y13 y14 y15  v24 ) (v_A_putInstruction_s1 hk k_968 ⟨Nat.le_of_ble_eq_true rfl, Nat.le_of_ble_eq_true rfl⟩) (pMC_v hK hP hD hC hS hA (ci := 3) (q0 := 0) rfl rfl rfl) rfl rfl hl.1 rfl (lv_room (Nat.le_of_ble_eq_true rfl)) d_A_takeOperation_133 ⟨by decide, by decide⟩) hS hA hD (fun u t H locs ht hB hFr hS => ?_)
          obtain ⟨x0_3z25, x0_4z25, x0_7z25, x9_6z25, y10z25, y11z25, y12z25, y13z25, y14z25, y15z25, hP, hD⟩ := hB
          rw [ht] at hP
          have hD := dwk hD hFr
          clear ht hFr
          have hP : va_P D classes (wS52 K cI cJ cZ cB p0 p1 p2 p3 p4 p5 p6 p7 p8 p9 p10 p11 p12 p13 p14 p15 x0_3z25 x0_4z25 x0_5 x0_6 x0_7z25 x0_8 x0_9 x0_10 x0_11 x0_12 x0_13z1 x0_14z1 x1_1 x1_2 x1_3z1 x1_4 x1_5 x1_6z1 x1_7z1 x1_8z1 y2 x3_5z1 x3_6z1 y4z1 y5z1 y6z1 y7 y8 x9_6z25 y10z25 y11z25 y12z25 y13z25 y14z25 y15z25) H := hP
          have hD : va_D A (wS52 K cI cJ cZ cB p0 p1 p2 p3 p4 p5 p6 p7 p8 p9 p10 p11 p12 p13 p14 p15 x0_3z25 x0_4z25 x0_5 x0_6 x0_7z25 x0_8 x0_9 x0_10 x0_11 x0_12 x0_13z1 x0_14z1 x1_1 x1_2 x1_3z1 x1_4 x1_5 x1_6z1 x1_7z1 x1_8z1 y2 x3_5z1 x3_6z1 y4z1 y5z1 y6z1 y7 y8 x9_6z25 y10z25 y11z25 y12z25 y13z25 y14z25 y15z25) := hD
          exact W.vret hx hb hr (fun t ht hW => ⟨⟨(), rfl, trivial, ⟨x0_3z25, x0_4z25, x0_7z25, x0_13z1, x0_14z1, x1_3z1, x1_6z1, x1_7z1, x1_8z1, x3_5z1, x3_6z1, y4z1, y5z1, y6z1, x9_6z25, y10z25, y11z25, y12z25, y13z25, y14z25, y15z25, by show va_P D classes _ t.heap; rw [ht]; exact hP, hD⟩⟩, hS.F ht⟩) hS.2.2 d_A_takeOperation_136
      · refine lv_iload hx hb d_A_takeOperation_92 (lv_at hl 0 rfl) ?_
        refine lv_bipush (v := 63) hx hb d_A_takeOperation_94 (by decide) ?_
        refine lv_icmp_le (tgt := 105) hx hb d_A_takeOperation_96 (by decide) (fun c26 => ?_) (fun c26 => ?_)
        · refine lv_aload_n hx hb d_A_takeOperation_105 rfl (lv_at hl 3 rfl) ?_
          refine va_get (D := D) (ci := 3) (v := .int x0_3z4) (C := "SignMachine$Assembler") (T := F_A) (N := 15) hx hb hk fi_A hown hK.1 hP 0 rfl rfl 3 (by decide) (hk _ k_636) (fun _ h9 => h9) rfl d_A_takeOperation_106 ?_
          refine lv_if_ne (tgt := 136) hx hb d_A_takeOperation_109 (by decide) (fun c27 => ?_) (fun c27 => ?_)
          · exact W.vret hx hb hr (fun t ht hW => ⟨⟨(), rfl, trivial, ⟨x0_3z4, x0_4z4, x0_7, x0_13z1, x0_14z1, x1_3z1, x1_6z1, x1_7z1, x1_8z1, x3_5z1, x3_6z1, y4z1, y5z1, y6z1, x9_6, y10, y11, y12, y13, y14, y15, by show va_P D classes _ t.heap; rw [ht]; exact hP, hD⟩⟩, hS.F ht⟩) hS.2.2 d_A_takeOperation_136
          · refine lv_aload_n hx hb d_A_takeOperation_112 rfl (lv_at hl 3 rfl) ?_
            refine lv_iload_n hx hb d_A_takeOperation_113 rfl (lv_at hl 2 rfl) ?_
            refine cs_i (W.runS (As := [.int rz1]) (rest := [.ref p0]) ⟨hx, hb, hml, hown, hk⟩ (c_A_addressPart l rz1) (s_A_addressPart hk k_1049 ⟨Nat.le_of_ble_eq_true rfl, Nat.le_of_ble_eq_true rfl⟩) ⟨fun a U g mk q => q, fun U hU hW => ⟨rfl, trivial⟩⟩ rfl rfl hl.1 rfl (lv_room (Nat.le_of_ble_eq_true rfl)) d_A_takeOperation_114 ⟨Nat.le_of_ble_eq_true rfl, Nat.le_of_ble_eq_true rfl⟩) ?_
            refine lv_topi (fun v28 hv28 => ?_)
            refine lv_iload_n hx hb d_A_takeOperation_117 rfl (lv_at hl 1 rfl) ?_
            refine lv_bipush (v := 12) hx hb d_A_takeOperation_118 (by decide) ?_
            refine lv_ishl hx hb d_A_takeOperation_120 ?_
            refine tpi (y := (0 : Int32)) (by decide) ?_
            refine lv_ior hx hb d_A_takeOperation_121 ?_
            refine lv_topi (fun v29 hv29 => ?_)
            refine lv_iload hx hb d_A_takeOperation_122 (lv_at hl 0 rfl) ?_
            refine lv_bipush (v := 6) hx hb d_A_takeOperation_124 (by decide) ?_
            refine lv_ishl hx hb d_A_takeOperation_126 ?_
            refine lv_topi (fun v30 hv30 => ?_)
            refine lv_ior hx hb d_A_takeOperation_127 ?_
            refine lv_topi (fun v31 hv31 => ?_)
            refine lv_aload_n hx hb d_A_takeOperation_128 rfl (lv_at hl 3 rfl) ?_
            refine va_get (D := D) (ci := 3) (v := .int x0_12) (C := "SignMachine$Assembler") (T := F_A) (N := 15) hx hb hk fi_A hown hK.1 hP 0 rfl rfl 12 (by decide) (hk _ k_649) (fun _ h9 => h9) rfl d_A_takeOperation_129 ?_
            refine lv_ior hx hb d_A_takeOperation_132 ?_
            refine lv_topi (fun v32 hv32 => ?_)
            refine kn_v (va_runV (C := "SignMachine$Assembler") (As := [.int v32]) (rest := []) ⟨hx, hb, hml, hown, hk⟩ (c_A_putInstruction_s1 l K D cI cJ cZ cB p0 p1 p2 p3 p4 p5 p6 p7 p8 p9 p10 p11 p12 p13 p14 p15 H.size x0_3z4 x0_4z4 x0_5 x0_6 x0_7 x0_8 x0_9 x0_10 x0_11 x0_12 x0_13z1 x0_14z1 x1_1 x1_2 x1_3z1 x1_4 x1_5 x1_6z1 x1_7z1 x1_8z1 y2 x3_5z1 x3_6z1 y4z1 y5z1 y6z1 y7 y8 x9_6 y10 y11 y12 y13 y14 y15  v32 ) (v_A_putInstruction_s1 hk k_968 ⟨Nat.le_of_ble_eq_true rfl, Nat.le_of_ble_eq_true rfl⟩) (pMC_v hK hP hD hC hS hA (ci := 3) (q0 := 0) rfl rfl rfl) rfl rfl hl.1 rfl (lv_room (Nat.le_of_ble_eq_true rfl)) d_A_takeOperation_133 ⟨by decide, by decide⟩) hS hA hD (fun u t H locs ht hB hFr hS => ?_)
            obtain ⟨x0_3z33, x0_4z33, x0_7z33, x9_6z33, y10z33, y11z33, y12z33, y13z33, y14z33, y15z33, hP, hD⟩ := hB
            rw [ht] at hP
            have hD := dwk hD hFr
            clear ht hFr
            have hP : va_P D classes (wS52 K cI cJ cZ cB p0 p1 p2 p3 p4 p5 p6 p7 p8 p9 p10 p11 p12 p13 p14 p15 x0_3z33 x0_4z33 x0_5 x0_6 x0_7z33 x0_8 x0_9 x0_10 x0_11 x0_12 x0_13z1 x0_14z1 x1_1 x1_2 x1_3z1 x1_4 x1_5 x1_6z1 x1_7z1 x1_8z1 y2 x3_5z1 x3_6z1 y4z1 y5z1 y6z1 y7 y8 x9_6z33 y10z33 y11z33 y12z33 y13z33 y14z33 y15z33) H := hP
            have hD : va_D A (wS52 K cI cJ cZ cB p0 p1 p2 p3 p4 p5 p6 p7 p8 p9 p10 p11 p12 p13 p14 p15 x0_3z33 x0_4z33 x0_5 x0_6 x0_7z33 x0_8 x0_9 x0_10 x0_11 x0_12 x0_13z1 x0_14z1 x1_1 x1_2 x1_3z1 x1_4 x1_5 x1_6z1 x1_7z1 x1_8z1 y2 x3_5z1 x3_6z1 y4z1 y5z1 y6z1 y7 y8 x9_6z33 y10z33 y11z33 y12z33 y13z33 y14z33 y15z33) := hD
            exact W.vret hx hb hr (fun t ht hW => ⟨⟨(), rfl, trivial, ⟨x0_3z33, x0_4z33, x0_7z33, x0_13z1, x0_14z1, x1_3z1, x1_6z1, x1_7z1, x1_8z1, x3_5z1, x3_6z1, y4z1, y5z1, y6z1, x9_6z33, y10z33, y11z33, y12z33, y13z33, y14z33, y15z33, by show va_P D classes _ t.heap; rw [ht]; exact hP, hD⟩⟩, hS.F ht⟩) hS.2.2 d_A_takeOperation_136
        · refine lv_aload_n hx hb d_A_takeOperation_99 rfl (lv_at hl 3 rfl) ?_
          refine lv_iconst (v := 4) hx hb d_A_takeOperation_100 (by decide) ?_
          refine sn_i (va_runV (C := "SignMachine$Assembler") (As := [.int (4 : Int32)]) (rest := []) ⟨hx, hb, hml, hown, hk⟩ (c_A_fail_s1 l K D cI cJ cZ cB p0 p1 p2 p3 p4 p5 p6 p7 p8 p9 p10 p11 p12 p13 p14 p15 H.size x0_3z4 x0_4z4 x0_5 x0_6 x0_7 x0_8 x0_9 x0_10 x0_11 x0_12 x0_13z1 x0_14z1 x1_1 x1_2 x1_3z1 x1_4 x1_5 x1_6z1 x1_7z1 x1_8z1 y2 x3_5z1 x3_6z1 y4z1 y5z1 y6z1 y7 y8 x9_6 y10 y11 y12 y13 y14 y15  (4 : Int32) ) (v_A_fail_s1 hk k_767 ⟨Nat.le_of_ble_eq_true rfl, Nat.le_of_ble_eq_true rfl⟩) (pMC_v hK hP hD hC hS hA (ci := 3) (q0 := 0) rfl rfl rfl) rfl rfl hl.1 rfl (lv_room (Nat.le_of_ble_eq_true rfl)) d_A_takeOperation_101 ⟨by decide, by decide⟩) hS hA hD (fun rz34 u t H locs hr0 ht hB hFr hS => ?_)
          obtain ⟨x0_3z34, x0_4z34, hP, hD⟩ := hB
          rw [ht] at hP
          have hD := dwk hD hFr
          clear ht hFr
          have hP : va_P D classes (wS52 K cI cJ cZ cB p0 p1 p2 p3 p4 p5 p6 p7 p8 p9 p10 p11 p12 p13 p14 p15 x0_3z34 x0_4z34 x0_5 x0_6 x0_7 x0_8 x0_9 x0_10 x0_11 x0_12 x0_13z1 x0_14z1 x1_1 x1_2 x1_3z1 x1_4 x1_5 x1_6z1 x1_7z1 x1_8z1 y2 x3_5z1 x3_6z1 y4z1 y5z1 y6z1 y7 y8 x9_6 y10 y11 y12 y13 y14 y15) H := hP
          have hD : va_D A (wS52 K cI cJ cZ cB p0 p1 p2 p3 p4 p5 p6 p7 p8 p9 p10 p11 p12 p13 p14 p15 x0_3z34 x0_4z34 x0_5 x0_6 x0_7 x0_8 x0_9 x0_10 x0_11 x0_12 x0_13z1 x0_14z1 x1_1 x1_2 x1_3z1 x1_4 x1_5 x1_6z1 x1_7z1 x1_8z1 y2 x3_5z1 x3_6z1 y4z1 y5z1 y6z1 y7 y8 x9_6 y10 y11 y12 y13 y14 y15) := hD
          refine lv_pop hx hb d_A_takeOperation_104 rfl ?_
          refine lv_aload_n hx hb d_A_takeOperation_105 rfl (lv_at hl 3 rfl) ?_
          refine va_get (D := D) (ci := 3) (v := .int x0_3z34) (C := "SignMachine$Assembler") (T := F_A) (N := 15) hx hb hk fi_A hown hK.1 hP 0 rfl rfl 3 (by decide) (hk _ k_636) (fun _ h9 => h9) rfl d_A_takeOperation_106 ?_
          refine lv_if_ne (tgt := 136) hx hb d_A_takeOperation_109 (by decide) (fun c35 => ?_) (fun c35 => ?_)
          · exact W.vret hx hb hr (fun t ht hW => ⟨⟨(), rfl, trivial, ⟨x0_3z34, x0_4z34, x0_7, x0_13z1, x0_14z1, x1_3z1, x1_6z1, x1_7z1, x1_8z1, x3_5z1, x3_6z1, y4z1, y5z1, y6z1, x9_6, y10, y11, y12, y13, y14, y15, by show va_P D classes _ t.heap; rw [ht]; exact hP, hD⟩⟩, hS.F ht⟩) hS.2.2 d_A_takeOperation_136
          · refine lv_aload_n hx hb d_A_takeOperation_112 rfl (lv_at hl 3 rfl) ?_
            refine lv_iload_n hx hb d_A_takeOperation_113 rfl (lv_at hl 2 rfl) ?_
            refine cs_i (W.runS (As := [.int rz1]) (rest := [.ref p0]) ⟨hx, hb, hml, hown, hk⟩ (c_A_addressPart l rz1) (s_A_addressPart hk k_1049 ⟨Nat.le_of_ble_eq_true rfl, Nat.le_of_ble_eq_true rfl⟩) ⟨fun a U g mk q => q, fun U hU hW => ⟨rfl, trivial⟩⟩ rfl rfl hl.1 rfl (lv_room (Nat.le_of_ble_eq_true rfl)) d_A_takeOperation_114 ⟨Nat.le_of_ble_eq_true rfl, Nat.le_of_ble_eq_true rfl⟩) ?_
            refine lv_topi (fun v36 hv36 => ?_)
            refine lv_iload_n hx hb d_A_takeOperation_117 rfl (lv_at hl 1 rfl) ?_
            refine lv_bipush (v := 12) hx hb d_A_takeOperation_118 (by decide) ?_
            refine lv_ishl hx hb d_A_takeOperation_120 ?_
            refine tpi (y := (0 : Int32)) (by decide) ?_
            refine lv_ior hx hb d_A_takeOperation_121 ?_
            refine lv_topi (fun v37 hv37 => ?_)
            refine lv_iload hx hb d_A_takeOperation_122 (lv_at hl 0 rfl) ?_
            refine lv_bipush (v := 6) hx hb d_A_takeOperation_124 (by decide) ?_
            refine lv_ishl hx hb d_A_takeOperation_126 ?_
            refine lv_topi (fun v38 hv38 => ?_)
            refine lv_ior hx hb d_A_takeOperation_127 ?_
            refine lv_topi (fun v39 hv39 => ?_)
            refine lv_aload_n hx hb d_A_takeOperation_128 rfl (lv_at hl 3 rfl) ?_
            refine va_get (D := D) (ci := 3) (v := .int x0_12) (C := "SignMachine$Assembler") (T := F_A) (N := 15) hx hb hk fi_A hown hK.1 hP 0 rfl rfl 12 (by decide) (hk _ k_649) (fun _ h9 => h9) rfl d_A_takeOperation_129 ?_
            refine lv_ior hx hb d_A_takeOperation_132 ?_
            refine lv_topi (fun v40 hv40 => ?_)
            refine kn_v (va_runV (C := "SignMachine$Assembler") (As := [.int v40]) (rest := []) ⟨hx, hb, hml, hown, hk⟩ (c_A_putInstruction_s1 l K D cI cJ cZ cB p0 p1 p2 p3 p4 p5 p6 p7 p8 p9 p10 p11 p12 p13 p14 p15 H.size x0_3z34 x0_4z34 x0_5 x0_6 x0_7 x0_8 x0_9 x0_10 x0_11 x0_12 x0_13z1 x0_14z1 x1_1 x1_2 x1_3z1 x1_4 x1_5 x1_6z1 x1_7z1 x1_8z1 y2 x3_5z1 x3_6z1 y4z1 y5z1 y6z1 y7 y8 x9_6 y10 y11 y12 y13 y14 y15  v40 ) (v_A_putInstruction_s1 hk k_968 ⟨Nat.le_of_ble_eq_true rfl, Nat.le_of_ble_eq_true rfl⟩) (pMC_v hK hP hD hC hS hA (ci := 3) (q0 := 0) rfl rfl rfl) rfl rfl hl.1 rfl (lv_room (Nat.le_of_ble_eq_true rfl)) d_A_takeOperation_133 ⟨by decide, by decide⟩) hS hA hD (fun u t H locs ht hB hFr hS => ?_)
            obtain ⟨x0_3z41, x0_4z41, x0_7z41, x9_6z41, y10z41, y11z41, y12z41, y13z41, y14z41, y15z41, hP, hD⟩ := hB
            rw [ht] at hP
            have hD := dwk hD hFr
            clear ht hFr
            have hP : va_P D classes (wS52 K cI cJ cZ cB p0 p1 p2 p3 p4 p5 p6 p7 p8 p9 p10 p11 p12 p13 p14 p15 x0_3z41 x0_4z41 x0_5 x0_6 x0_7z41 x0_8 x0_9 x0_10 x0_11 x0_12 x0_13z1 x0_14z1 x1_1 x1_2 x1_3z1 x1_4 x1_5 x1_6z1 x1_7z1 x1_8z1 y2 x3_5z1 x3_6z1 y4z1 y5z1 y6z1 y7 y8 x9_6z41 y10z41 y11z41 y12z41 y13z41 y14z41 y15z41) H := hP
            have hD : va_D A (wS52 K cI cJ cZ cB p0 p1 p2 p3 p4 p5 p6 p7 p8 p9 p10 p11 p12 p13 p14 p15 x0_3z41 x0_4z41 x0_5 x0_6 x0_7z41 x0_8 x0_9 x0_10 x0_11 x0_12 x0_13z1 x0_14z1 x1_1 x1_2 x1_3z1 x1_4 x1_5 x1_6z1 x1_7z1 x1_8z1 y2 x3_5z1 x3_6z1 y4z1 y5z1 y6z1 y7 y8 x9_6z41 y10z41 y11z41 y12z41 y13z41 y14z41 y15z41) := hD
            exact W.vret hx hb hr (fun t ht hW => ⟨⟨(), rfl, trivial, ⟨x0_3z41, x0_4z41, x0_7z41, x0_13z1, x0_14z1, x1_3z1, x1_6z1, x1_7z1, x1_8z1, x3_5z1, x3_6z1, y4z1, y5z1, y6z1, x9_6z41, y10z41, y11z41, y12z41, y13z41, y14z41, y15z41, by show va_P D classes _ t.heap; rw [ht]; exact hP, hD⟩⟩, hS.F ht⟩) hS.2.2 d_A_takeOperation_136
  · refine lv_aload_n hx hb d_A_takeOperation_17 rfl (lv_at hl 3 rfl) ?_
    refine va_get (D := D) (ci := 3) (v := .ref p1) (C := "SignMachine$Assembler") (T := F_A) (N := 15) hx hb hk fi_A hown hK.1 hP 0 rfl rfl 0 (by decide) (hk _ k_631) (fun _ h9 => h9) rfl d_A_takeOperation_18 ?_
    refine lv_bipush (v := 44) hx hb d_A_takeOperation_21 (by decide) ?_
    refine sn_i (va_runV (C := "SignMachine$Source") (As := [.int (44 : Int32)]) (rest := []) ⟨hx, hb, hml, hown, hk⟩ (c_R_takes_s1 l K D cI cJ cZ cB p0 p1 p2 p3 p4 p5 p6 p7 p8 p9 p10 p11 p12 p13 p14 p15 H.size x0_3z1 x0_4z1 x0_5 x0_6 x0_7 x0_8 x0_9 x0_10 x0_11 x0_12 x0_13z1 x0_14z1 x1_1 x1_2 x1_3z1 x1_4 x1_5 x1_6z1 x1_7z1 x1_8z1 y2 x3_5z1 x3_6z1 y4z1 y5z1 y6z1 y7 y8 x9_6 y10 y11 y12 y13 y14 y15  (44 : Int32) ) (v_R_takes_s1 hk k_954 ⟨Nat.le_of_ble_eq_true rfl, Nat.le_of_ble_eq_true rfl⟩) (pMC_v hK hP hD hC hS hA (ci := 4) (q0 := 1) rfl rfl rfl) rfl rfl hl.1 rfl (lv_room (Nat.le_of_ble_eq_true rfl)) d_A_takeOperation_23 ⟨by decide, by decide⟩) hS hA hD (fun rz42 u t H locs hr0 ht hB hFr hS => ?_)
    obtain ⟨z42, hz42⟩ := hr0
    subst hz42
    obtain ⟨x1_3z42, hP, hD⟩ := hB
    rw [ht] at hP
    have hD := dwk hD hFr
    clear ht hFr
    have hP : va_P D classes (wS52 K cI cJ cZ cB p0 p1 p2 p3 p4 p5 p6 p7 p8 p9 p10 p11 p12 p13 p14 p15 x0_3z1 x0_4z1 x0_5 x0_6 x0_7 x0_8 x0_9 x0_10 x0_11 x0_12 x0_13z1 x0_14z1 x1_1 x1_2 x1_3z42 x1_4 x1_5 x1_6z1 x1_7z1 x1_8z1 y2 x3_5z1 x3_6z1 y4z1 y5z1 y6z1 y7 y8 x9_6 y10 y11 y12 y13 y14 y15) H := hP
    have hD : va_D A (wS52 K cI cJ cZ cB p0 p1 p2 p3 p4 p5 p6 p7 p8 p9 p10 p11 p12 p13 p14 p15 x0_3z1 x0_4z1 x0_5 x0_6 x0_7 x0_8 x0_9 x0_10 x0_11 x0_12 x0_13z1 x0_14z1 x1_1 x1_2 x1_3z42 x1_4 x1_5 x1_6z1 x1_7z1 x1_8z1 y2 x3_5z1 x3_6z1 y4z1 y5z1 y6z1 y7 y8 x9_6 y10 y11 y12 y13 y14 y15) := hD
    refine lv_if_eq (tgt := 34) hx hb d_A_takeOperation_26 (by decide) (fun c43 => ?_) (fun c43 => ?_)
    · refine lv_aload_n hx hb d_A_takeOperation_34 rfl (lv_at hl 3 rfl) ?_
      refine va_get (D := D) (ci := 3) (v := .int x0_3z1) (C := "SignMachine$Assembler") (T := F_A) (N := 15) hx hb hk fi_A hown hK.1 hP 0 rfl rfl 3 (by decide) (hk _ k_636) (fun _ h9 => h9) rfl d_A_takeOperation_35 ?_
      refine lv_if_ne (tgt := 63) hx hb d_A_takeOperation_38 (by decide) (fun c44 => absurd (show x0_3z1 = (0 : Int32) from c2) c44) (fun c44 => ?_)
      refine lv_aload_n hx hb d_A_takeOperation_41 rfl (lv_at hl 3 rfl) ?_
      refine va_get (D := D) (ci := 3) (v := .ref p1) (C := "SignMachine$Assembler") (T := F_A) (N := 15) hx hb hk fi_A hown hK.1 hP 0 rfl rfl 0 (by decide) (hk _ k_631) (fun _ h9 => h9) rfl d_A_takeOperation_42 ?_
      refine lv_bipush (v := 40) hx hb d_A_takeOperation_45 (by decide) ?_
      refine sn_i (va_runV (C := "SignMachine$Source") (As := [.int (40 : Int32)]) (rest := []) ⟨hx, hb, hml, hown, hk⟩ (c_R_takes_s1 l K D cI cJ cZ cB p0 p1 p2 p3 p4 p5 p6 p7 p8 p9 p10 p11 p12 p13 p14 p15 H.size x0_3z1 x0_4z1 x0_5 x0_6 x0_7 x0_8 x0_9 x0_10 x0_11 x0_12 x0_13z1 x0_14z1 x1_1 x1_2 x1_3z42 x1_4 x1_5 x1_6z1 x1_7z1 x1_8z1 y2 x3_5z1 x3_6z1 y4z1 y5z1 y6z1 y7 y8 x9_6 y10 y11 y12 y13 y14 y15  (40 : Int32) ) (v_R_takes_s1 hk k_954 ⟨Nat.le_of_ble_eq_true rfl, Nat.le_of_ble_eq_true rfl⟩) (pMC_v hK hP hD hC hS hA (ci := 4) (q0 := 1) rfl rfl rfl) rfl rfl hl.1 rfl (lv_room (Nat.le_of_ble_eq_true rfl)) d_A_takeOperation_47 ⟨by decide, by decide⟩) hS hA hD (fun rz45 u t H locs hr0 ht hB hFr hS => ?_)
      obtain ⟨z45, hz45⟩ := hr0
      subst hz45
      obtain ⟨x1_3z45, hP, hD⟩ := hB
      rw [ht] at hP
      have hD := dwk hD hFr
      clear ht hFr
      have hP : va_P D classes (wS52 K cI cJ cZ cB p0 p1 p2 p3 p4 p5 p6 p7 p8 p9 p10 p11 p12 p13 p14 p15 x0_3z1 x0_4z1 x0_5 x0_6 x0_7 x0_8 x0_9 x0_10 x0_11 x0_12 x0_13z1 x0_14z1 x1_1 x1_2 x1_3z45 x1_4 x1_5 x1_6z1 x1_7z1 x1_8z1 y2 x3_5z1 x3_6z1 y4z1 y5z1 y6z1 y7 y8 x9_6 y10 y11 y12 y13 y14 y15) H := hP
      have hD : va_D A (wS52 K cI cJ cZ cB p0 p1 p2 p3 p4 p5 p6 p7 p8 p9 p10 p11 p12 p13 p14 p15 x0_3z1 x0_4z1 x0_5 x0_6 x0_7 x0_8 x0_9 x0_10 x0_11 x0_12 x0_13z1 x0_14z1 x1_1 x1_2 x1_3z45 x1_4 x1_5 x1_6z1 x1_7z1 x1_8z1 y2 x3_5z1 x3_6z1 y4z1 y5z1 y6z1 y7 y8 x9_6 y10 y11 y12 y13 y14 y15) := hD
      refine lv_if_eq (tgt := 63) hx hb d_A_takeOperation_50 (by decide) (fun c46 => ?_) (fun c46 => ?_)
      · refine lv_aload_n hx hb d_A_takeOperation_63 rfl (lv_at hl 3 rfl) ?_
        refine kn_v (va_runV (C := "SignMachine$Assembler") (As := []) (rest := []) ⟨hx, hb, hml, hown, hk⟩ (c_A_expectEnd_s1 l K D cI cJ cZ cB p0 p1 p2 p3 p4 p5 p6 p7 p8 p9 p10 p11 p12 p13 p14 p15 H.size x0_3z1 x0_4z1 x0_5 x0_6 x0_7 x0_8 x0_9 x0_10 x0_11 x0_12 x0_13z1 x0_14z1 x1_1 x1_2 x1_3z45 x1_4 x1_5 x1_6z1 x1_7z1 x1_8z1 y2 x3_5z1 x3_6z1 y4z1 y5z1 y6z1 y7 y8 x9_6 y10 y11 y12 y13 y14 y15   ) (v_A_expectEnd_s1 hk k_1044 ⟨Nat.le_of_ble_eq_true rfl, Nat.le_of_ble_eq_true rfl⟩) (pMC_v hK hP hD hC hS hA (ci := 3) (q0 := 0) rfl rfl rfl) rfl rfl hl.1 rfl (lv_room (Nat.le_of_ble_eq_true rfl)) d_A_takeOperation_64 ⟨by decide, by decide⟩) hS hA hD (fun u t H locs ht hB hFr hS => ?_)
        obtain ⟨x0_3z47, x0_4z47, hP, hD⟩ := hB
        rw [ht] at hP
        have hD := dwk hD hFr
        clear ht hFr
        have hP : va_P D classes (wS52 K cI cJ cZ cB p0 p1 p2 p3 p4 p5 p6 p7 p8 p9 p10 p11 p12 p13 p14 p15 x0_3z47 x0_4z47 x0_5 x0_6 x0_7 x0_8 x0_9 x0_10 x0_11 x0_12 x0_13z1 x0_14z1 x1_1 x1_2 x1_3z45 x1_4 x1_5 x1_6z1 x1_7z1 x1_8z1 y2 x3_5z1 x3_6z1 y4z1 y5z1 y6z1 y7 y8 x9_6 y10 y11 y12 y13 y14 y15) H := hP
        have hD : va_D A (wS52 K cI cJ cZ cB p0 p1 p2 p3 p4 p5 p6 p7 p8 p9 p10 p11 p12 p13 p14 p15 x0_3z47 x0_4z47 x0_5 x0_6 x0_7 x0_8 x0_9 x0_10 x0_11 x0_12 x0_13z1 x0_14z1 x1_1 x1_2 x1_3z45 x1_4 x1_5 x1_6z1 x1_7z1 x1_8z1 y2 x3_5z1 x3_6z1 y4z1 y5z1 y6z1 y7 y8 x9_6 y10 y11 y12 y13 y14 y15) := hD
        refine lv_iload_n hx hb d_A_takeOperation_67 rfl (lv_at hl 2 rfl) ?_
        refine va_mabs hx hb (hml.trans hl.1.symm) hown (hk _ k_1048) (hk _ k_331) (hk _ k_121) (hk _ k_absc) (Nat.le_of_ble_eq_true rfl) (Nat.le_of_ble_eq_true rfl) (Nat.zero_le _) (Nat.zero_le _) d_A_takeOperation_68 ?_
        refine lv_topi (fun v48 hv48 => ?_)
        refine lv_sipush (v := 4095) hx hb d_A_takeOperation_71 (by decide) ?_
        refine lv_icmp_gt (tgt := 99) hx hb d_A_takeOperation_74 (by decide) (fun c49 => ?_) (fun c49 => ?_)
        · refine lv_aload_n hx hb d_A_takeOperation_99 rfl (lv_at hl 3 rfl) ?_
          refine lv_iconst (v := 4) hx hb d_A_takeOperation_100 (by decide) ?_
          refine sn_i (va_runV (C := "SignMachine$Assembler") (As := [.int (4 : Int32)]) (rest := []) ⟨hx, hb, hml, hown, hk⟩ (c_A_fail_s1 l K D cI cJ cZ cB p0 p1 p2 p3 p4 p5 p6 p7 p8 p9 p10 p11 p12 p13 p14 p15 H.size x0_3z47 x0_4z47 x0_5 x0_6 x0_7 x0_8 x0_9 x0_10 x0_11 x0_12 x0_13z1 x0_14z1 x1_1 x1_2 x1_3z45 x1_4 x1_5 x1_6z1 x1_7z1 x1_8z1 y2 x3_5z1 x3_6z1 y4z1 y5z1 y6z1 y7 y8 x9_6 y10 y11 y12 y13 y14 y15  (4 : Int32) ) (v_A_fail_s1 hk k_767 ⟨Nat.le_of_ble_eq_true rfl, Nat.le_of_ble_eq_true rfl⟩) (pMC_v hK hP hD hC hS hA (ci := 3) (q0 := 0) rfl rfl rfl) rfl rfl hl.1 rfl (lv_room (Nat.le_of_ble_eq_true rfl)) d_A_takeOperation_101 ⟨by decide, by decide⟩) hS hA hD (fun rz50 u t H locs hr0 ht hB hFr hS => ?_)
          obtain ⟨x0_3z50, x0_4z50, hP, hD⟩ := hB
          rw [ht] at hP
          have hD := dwk hD hFr
          clear ht hFr
          have hP : va_P D classes (wS52 K cI cJ cZ cB p0 p1 p2 p3 p4 p5 p6 p7 p8 p9 p10 p11 p12 p13 p14 p15 x0_3z50 x0_4z50 x0_5 x0_6 x0_7 x0_8 x0_9 x0_10 x0_11 x0_12 x0_13z1 x0_14z1 x1_1 x1_2 x1_3z45 x1_4 x1_5 x1_6z1 x1_7z1 x1_8z1 y2 x3_5z1 x3_6z1 y4z1 y5z1 y6z1 y7 y8 x9_6 y10 y11 y12 y13 y14 y15) H := hP
          have hD : va_D A (wS52 K cI cJ cZ cB p0 p1 p2 p3 p4 p5 p6 p7 p8 p9 p10 p11 p12 p13 p14 p15 x0_3z50 x0_4z50 x0_5 x0_6 x0_7 x0_8 x0_9 x0_10 x0_11 x0_12 x0_13z1 x0_14z1 x1_1 x1_2 x1_3z45 x1_4 x1_5 x1_6z1 x1_7z1 x1_8z1 y2 x3_5z1 x3_6z1 y4z1 y5z1 y6z1 y7 y8 x9_6 y10 y11 y12 y13 y14 y15) := hD
          refine lv_pop hx hb d_A_takeOperation_104 rfl ?_
          refine lv_aload_n hx hb d_A_takeOperation_105 rfl (lv_at hl 3 rfl) ?_
          refine va_get (D := D) (ci := 3) (v := .int x0_3z50) (C := "SignMachine$Assembler") (T := F_A) (N := 15) hx hb hk fi_A hown hK.1 hP 0 rfl rfl 3 (by decide) (hk _ k_636) (fun _ h9 => h9) rfl d_A_takeOperation_106 ?_
          refine lv_if_ne (tgt := 136) hx hb d_A_takeOperation_109 (by decide) (fun c51 => ?_) (fun c51 => ?_)
          · exact W.vret hx hb hr (fun t ht hW => ⟨⟨(), rfl, trivial, ⟨x0_3z50, x0_4z50, x0_7, x0_13z1, x0_14z1, x1_3z45, x1_6z1, x1_7z1, x1_8z1, x3_5z1, x3_6z1, y4z1, y5z1, y6z1, x9_6, y10, y11, y12, y13, y14, y15, by show va_P D classes _ t.heap; rw [ht]; exact hP, hD⟩⟩, hS.F ht⟩) hS.2.2 d_A_takeOperation_136
          · refine lv_aload_n hx hb d_A_takeOperation_112 rfl (lv_at hl 3 rfl) ?_
            refine lv_iload_n hx hb d_A_takeOperation_113 rfl (lv_at hl 2 rfl) ?_
            refine cs_i (W.runS (As := [.int rz1]) (rest := [.ref p0]) ⟨hx, hb, hml, hown, hk⟩ (c_A_addressPart l rz1) (s_A_addressPart hk k_1049 ⟨Nat.le_of_ble_eq_true rfl, Nat.le_of_ble_eq_true rfl⟩) ⟨fun a U g mk q => q, fun U hU hW => ⟨rfl, trivial⟩⟩ rfl rfl hl.1 rfl (lv_room (Nat.le_of_ble_eq_true rfl)) d_A_takeOperation_114 ⟨Nat.le_of_ble_eq_true rfl, Nat.le_of_ble_eq_true rfl⟩) ?_
            refine lv_topi (fun v52 hv52 => ?_)
            refine lv_iload_n hx hb d_A_takeOperation_117 rfl (lv_at hl 1 rfl) ?_
            refine lv_bipush (v := 12) hx hb d_A_takeOperation_118 (by decide) ?_
            refine lv_ishl hx hb d_A_takeOperation_120 ?_
            refine tpi (y := (0 : Int32)) (by decide) ?_
            refine lv_ior hx hb d_A_takeOperation_121 ?_
            refine lv_topi (fun v53 hv53 => ?_)
            refine lv_iload hx hb d_A_takeOperation_122 (lv_at hl 0 rfl) ?_
            refine lv_bipush (v := 6) hx hb d_A_takeOperation_124 (by decide) ?_
            refine lv_ishl hx hb d_A_takeOperation_126 ?_
            refine lv_topi (fun v54 hv54 => ?_)
            refine lv_ior hx hb d_A_takeOperation_127 ?_
            refine lv_topi (fun v55 hv55 => ?_)
            refine lv_aload_n hx hb d_A_takeOperation_128 rfl (lv_at hl 3 rfl) ?_
            refine va_get (D := D) (ci := 3) (v := .int x0_12) (C := "SignMachine$Assembler") (T := F_A) (N := 15) hx hb hk fi_A hown hK.1 hP 0 rfl rfl 12 (by decide) (hk _ k_649) (fun _ h9 => h9) rfl d_A_takeOperation_129 ?_
            refine lv_ior hx hb d_A_takeOperation_132 ?_
            refine lv_topi (fun v56 hv56 => ?_)
            refine kn_v (va_runV (C := "SignMachine$Assembler") (As := [.int v56]) (rest := []) ⟨hx, hb, hml, hown, hk⟩ (c_A_putInstruction_s1 l K D cI cJ cZ cB p0 p1 p2 p3 p4 p5 p6 p7 p8 p9 p10 p11 p12 p13 p14 p15 H.size x0_3z50 x0_4z50 x0_5 x0_6 x0_7 x0_8 x0_9 x0_10 x0_11 x0_12 x0_13z1 x0_14z1 x1_1 x1_2 x1_3z45 x1_4 x1_5 x1_6z1 x1_7z1 x1_8z1 y2 x3_5z1 x3_6z1 y4z1 y5z1 y6z1 y7 y8 x9_6 y10 y11 y12 y13 y14 y15  v56 ) (v_A_putInstruction_s1 hk k_968 ⟨Nat.le_of_ble_eq_true rfl, Nat.le_of_ble_eq_true rfl⟩) (pMC_v hK hP hD hC hS hA (ci := 3) (q0 := 0) rfl rfl rfl) rfl rfl hl.1 rfl (lv_room (Nat.le_of_ble_eq_true rfl)) d_A_takeOperation_133 ⟨by decide, by decide⟩) hS hA hD (fun u t H locs ht hB hFr hS => ?_)
            obtain ⟨x0_3z57, x0_4z57, x0_7z57, x9_6z57, y10z57, y11z57, y12z57, y13z57, y14z57, y15z57, hP, hD⟩ := hB
            rw [ht] at hP
            have hD := dwk hD hFr
            clear ht hFr
            have hP : va_P D classes (wS52 K cI cJ cZ cB p0 p1 p2 p3 p4 p5 p6 p7 p8 p9 p10 p11 p12 p13 p14 p15 x0_3z57 x0_4z57 x0_5 x0_6 x0_7z57 x0_8 x0_9 x0_10 x0_11 x0_12 x0_13z1 x0_14z1 x1_1 x1_2 x1_3z45 x1_4 x1_5 x1_6z1 x1_7z1 x1_8z1 y2 x3_5z1 x3_6z1 y4z1 y5z1 y6z1 y7 y8 x9_6z57 y10z57 y11z57 y12z57 y13z57 y14z57 y15z57) H := hP
            have hD : va_D A (wS52 K cI cJ cZ cB p0 p1 p2 p3 p4 p5 p6 p7 p8 p9 p10 p11 p12 p13 p14 p15 x0_3z57 x0_4z57 x0_5 x0_6 x0_7z57 x0_8 x0_9 x0_10 x0_11 x0_12 x0_13z1 x0_14z1 x1_1 x1_2 x1_3z45 x1_4 x1_5 x1_6z1 x1_7z1 x1_8z1 y2 x3_5z1 x3_6z1 y4z1 y5z1 y6z1 y7 y8 x9_6z57 y10z57 y11z57 y12z57 y13z57 y14z57 y15z57) := hD
            exact W.vret hx hb hr (fun t ht hW => ⟨⟨(), rfl, trivial, ⟨x0_3z57, x0_4z57, x0_7z57, x0_13z1, x0_14z1, x1_3z45, x1_6z1, x1_7z1, x1_8z1, x3_5z1, x3_6z1, y4z1, y5z1, y6z1, x9_6z57, y10z57, y11z57, y12z57, y13z57, y14z57, y15z57, by show va_P D classes _ t.heap; rw [ht]; exact hP, hD⟩⟩, hS.F ht⟩) hS.2.2 d_A_takeOperation_136
        · refine lv_iload_n hx hb d_A_takeOperation_77 rfl (lv_at hl 1 rfl) ?_
          refine lv_if_lt (tgt := 99) hx hb d_A_takeOperation_78 (by decide) (fun c58 => absurd c58 (show ¬ (0 : Int32) < (0 : Int32) from (by decide))) (fun c58 => ?_)
          refine lv_iload_n hx hb d_A_takeOperation_81 rfl (lv_at hl 1 rfl) ?_
          refine lv_bipush (v := 6) hx hb d_A_takeOperation_82 (by decide) ?_
          refine lv_icmp_gt (tgt := 99) hx hb d_A_takeOperation_84 (by decide) (fun c59 => absurd c59 (show ¬ (6 : Int32) < (0 : Int32) from (by decide))) (fun c59 => ?_)
          refine lv_iload hx hb d_A_takeOperation_87 (lv_at hl 0 rfl) ?_
          refine lv_if_lt (tgt := 99) hx hb d_A_takeOperation_89 (by decide) (fun c60 => ?_) (fun c60 => ?_)
          · refine lv_aload_n hx hb d_A_takeOperation_99 rfl (lv_at hl 3 rfl) ?_
            refine lv_iconst (v := 4) hx hb d_A_takeOperation_100 (by decide) ?_
            refine sn_i (va_runV (C := "SignMachine$Assembler") (As := [.int (4 : Int32)]) (rest := []) ⟨hx, hb, hml, hown, hk⟩ (c_A_fail_s1 l K D cI cJ cZ cB p0 p1 p2 p3 p4 p5 p6 p7 p8 p9 p10 p11 p12 p13 p14 p15 H.size x0_3z47 x0_4z47 x0_5 x0_6 x0_7 x0_8 x0_9 x0_10 x0_11 x0_12 x0_13z1 x0_14z1 x1_1 x1_2 x1_3z45 x1_4 x1_5 x1_6z1 x1_7z1 x1_8z1 y2 x3_5z1 x3_6z1 y4z1 y5z1 y6z1 y7 y8 x9_6 y10 y11 y12 y13 y14 y15  (4 : Int32) ) (v_A_fail_s1 hk k_767 ⟨Nat.le_of_ble_eq_true rfl, Nat.le_of_ble_eq_true rfl⟩) (pMC_v hK hP hD hC hS hA (ci := 3) (q0 := 0) rfl rfl rfl) rfl rfl hl.1 rfl (lv_room (Nat.le_of_ble_eq_true rfl)) d_A_takeOperation_101 ⟨by decide, by decide⟩) hS hA hD (fun rz61 u t H locs hr0 ht hB hFr hS => ?_)
            obtain ⟨x0_3z61, x0_4z61, hP, hD⟩ := hB
            rw [ht] at hP
            have hD := dwk hD hFr
            clear ht hFr
            have hP : va_P D classes (wS52 K cI cJ cZ cB p0 p1 p2 p3 p4 p5 p6 p7 p8 p9 p10 p11 p12 p13 p14 p15 x0_3z61 x0_4z61 x0_5 x0_6 x0_7 x0_8 x0_9 x0_10 x0_11 x0_12 x0_13z1 x0_14z1 x1_1 x1_2 x1_3z45 x1_4 x1_5 x1_6z1 x1_7z1 x1_8z1 y2 x3_5z1 x3_6z1 y4z1 y5z1 y6z1 y7 y8 x9_6 y10 y11 y12 y13 y14 y15) H := hP
            have hD : va_D A (wS52 K cI cJ cZ cB p0 p1 p2 p3 p4 p5 p6 p7 p8 p9 p10 p11 p12 p13 p14 p15 x0_3z61 x0_4z61 x0_5 x0_6 x0_7 x0_8 x0_9 x0_10 x0_11 x0_12 x0_13z1 x0_14z1 x1_1 x1_2 x1_3z45 x1_4 x1_5 x1_6z1 x1_7z1 x1_8z1 y2 x3_5z1 x3_6z1 y4z1 y5z1 y6z1 y7 y8 x9_6 y10 y11 y12 y13 y14 y15) := hD
            refine lv_pop hx hb d_A_takeOperation_104 rfl ?_
            refine lv_aload_n hx hb d_A_takeOperation_105 rfl (lv_at hl 3 rfl) ?_
            refine va_get (D := D) (ci := 3) (v := .int x0_3z61) (C := "SignMachine$Assembler") (T := F_A) (N := 15) hx hb hk fi_A hown hK.1 hP 0 rfl rfl 3 (by decide) (hk _ k_636) (fun _ h9 => h9) rfl d_A_takeOperation_106 ?_
            refine lv_if_ne (tgt := 136) hx hb d_A_takeOperation_109 (by decide) (fun c62 => ?_) (fun c62 => ?_)
            · exact W.vret hx hb hr (fun t ht hW => ⟨⟨(), rfl, trivial, ⟨x0_3z61, x0_4z61, x0_7, x0_13z1, x0_14z1, x1_3z45, x1_6z1, x1_7z1, x1_8z1, x3_5z1, x3_6z1, y4z1, y5z1, y6z1, x9_6, y10, y11, y12, y13, y14, y15, by show va_P D classes _ t.heap; rw [ht]; exact hP, hD⟩⟩, hS.F ht⟩) hS.2.2 d_A_takeOperation_136
            · refine lv_aload_n hx hb d_A_takeOperation_112 rfl (lv_at hl 3 rfl) ?_
              refine lv_iload_n hx hb d_A_takeOperation_113 rfl (lv_at hl 2 rfl) ?_
              refine cs_i (W.runS (As := [.int rz1]) (rest := [.ref p0]) ⟨hx, hb, hml, hown, hk⟩ (c_A_addressPart l rz1) (s_A_addressPart hk k_1049 ⟨Nat.le_of_ble_eq_true rfl, Nat.le_of_ble_eq_true rfl⟩) ⟨fun a U g mk q => q, fun U hU hW => ⟨rfl, trivial⟩⟩ rfl rfl hl.1 rfl (lv_room (Nat.le_of_ble_eq_true rfl)) d_A_takeOperation_114 ⟨Nat.le_of_ble_eq_true rfl, Nat.le_of_ble_eq_true rfl⟩) ?_
              refine lv_topi (fun v63 hv63 => ?_)
              refine lv_iload_n hx hb d_A_takeOperation_117 rfl (lv_at hl 1 rfl) ?_
              refine lv_bipush (v := 12) hx hb d_A_takeOperation_118 (by decide) ?_
              refine lv_ishl hx hb d_A_takeOperation_120 ?_
              refine tpi (y := (0 : Int32)) (by decide) ?_
              refine lv_ior hx hb d_A_takeOperation_121 ?_
              refine lv_topi (fun v64 hv64 => ?_)
              refine lv_iload hx hb d_A_takeOperation_122 (lv_at hl 0 rfl) ?_
              refine lv_bipush (v := 6) hx hb d_A_takeOperation_124 (by decide) ?_
              refine lv_ishl hx hb d_A_takeOperation_126 ?_
              refine lv_topi (fun v65 hv65 => ?_)
              refine lv_ior hx hb d_A_takeOperation_127 ?_
              refine lv_topi (fun v66 hv66 => ?_)
              refine lv_aload_n hx hb d_A_takeOperation_128 rfl (lv_at hl 3 rfl) ?_
              refine va_get (D := D) (ci := 3) (v := .int x0_12) (C := "SignMachine$Assembler") (T := F_A) (N := 15) hx hb hk fi_A hown hK.1 hP 0 rfl rfl 12 (by decide) (hk _ k_649) (fun _ h9 => h9) rfl d_A_takeOperation_129 ?_
              refine lv_ior hx hb d_A_takeOperation_132 ?_
              refine lv_topi (fun v67 hv67 => ?_)
              refine kn_v (va_runV (C := "SignMachine$Assembler") (As := [.int v67]) (rest := []) ⟨hx, hb, hml, hown, hk⟩ (c_A_putInstruction_s1 l K D cI cJ cZ cB p0 p1 p2 p3 p4 p5 p6 p7 p8 p9 p10 p11 p12 p13 p14 p15 H.size x0_3z61 x0_4z61 x0_5 x0_6 x0_7 x0_8 x0_9 x0_10 x0_11 x0_12 x0_13z1 x0_14z1 x1_1 x1_2 x1_3z45 x1_4 x1_5 x1_6z1 x1_7z1 x1_8z1 y2 x3_5z1 x3_6z1 y4z1 y5z1 y6z1 y7 y8 x9_6 y10 y11 y12 y13 y14 y15  v67 ) (v_A_putInstruction_s1 hk k_968 ⟨Nat.le_of_ble_eq_true rfl, Nat.le_of_ble_eq_true rfl⟩) (pMC_v hK hP hD hC hS hA (ci := 3) (q0 := 0) rfl rfl rfl) rfl rfl hl.1 rfl (lv_room (Nat.le_of_ble_eq_true rfl)) d_A_takeOperation_133 ⟨by decide, by decide⟩) hS hA hD (fun u t H locs ht hB hFr hS => ?_)
              obtain ⟨x0_3z68, x0_4z68, x0_7z68, x9_6z68, y10z68, y11z68, y12z68, y13z68, y14z68, y15z68, hP, hD⟩ := hB
              rw [ht] at hP
              have hD := dwk hD hFr
              clear ht hFr
              have hP : va_P D classes (wS52 K cI cJ cZ cB p0 p1 p2 p3 p4 p5 p6 p7 p8 p9 p10 p11 p12 p13 p14 p15 x0_3z68 x0_4z68 x0_5 x0_6 x0_7z68 x0_8 x0_9 x0_10 x0_11 x0_12 x0_13z1 x0_14z1 x1_1 x1_2 x1_3z45 x1_4 x1_5 x1_6z1 x1_7z1 x1_8z1 y2 x3_5z1 x3_6z1 y4z1 y5z1 y6z1 y7 y8 x9_6z68 y10z68 y11z68 y12z68 y13z68 y14z68 y15z68) H := hP
              have hD : va_D A (wS52 K cI cJ cZ cB p0 p1 p2 p3 p4 p5 p6 p7 p8 p9 p10 p11 p12 p13 p14 p15 x0_3z68 x0_4z68 x0_5 x0_6 x0_7z68 x0_8 x0_9 x0_10 x0_11 x0_12 x0_13z1 x0_14z1 x1_1 x1_2 x1_3z45 x1_4 x1_5 x1_6z1 x1_7z1 x1_8z1 y2 x3_5z1 x3_6z1 y4z1 y5z1 y6z1 y7 y8 x9_6z68 y10z68 y11z68 y12z68 y13z68 y14z68 y15z68) := hD
              exact W.vret hx hb hr (fun t ht hW => ⟨⟨(), rfl, trivial, ⟨x0_3z68, x0_4z68, x0_7z68, x0_13z1, x0_14z1, x1_3z45, x1_6z1, x1_7z1, x1_8z1, x3_5z1, x3_6z1, y4z1, y5z1, y6z1, x9_6z68, y10z68, y11z68, y12z68, y13z68, y14z68, y15z68, by show va_P D classes _ t.heap; rw [ht]; exact hP, hD⟩⟩, hS.F ht⟩) hS.2.2 d_A_takeOperation_136
          · refine lv_iload hx hb d_A_takeOperation_92 (lv_at hl 0 rfl) ?_
            refine lv_bipush (v := 63) hx hb d_A_takeOperation_94 (by decide) ?_
            refine lv_icmp_le (tgt := 105) hx hb d_A_takeOperation_96 (by decide) (fun c69 => ?_) (fun c69 => ?_)
            · refine lv_aload_n hx hb d_A_takeOperation_105 rfl (lv_at hl 3 rfl) ?_
              refine va_get (D := D) (ci := 3) (v := .int x0_3z47) (C := "SignMachine$Assembler") (T := F_A) (N := 15) hx hb hk fi_A hown hK.1 hP 0 rfl rfl 3 (by decide) (hk _ k_636) (fun _ h9 => h9) rfl d_A_takeOperation_106 ?_
              refine lv_if_ne (tgt := 136) hx hb d_A_takeOperation_109 (by decide) (fun c70 => ?_) (fun c70 => ?_)
              · exact W.vret hx hb hr (fun t ht hW => ⟨⟨(), rfl, trivial, ⟨x0_3z47, x0_4z47, x0_7, x0_13z1, x0_14z1, x1_3z45, x1_6z1, x1_7z1, x1_8z1, x3_5z1, x3_6z1, y4z1, y5z1, y6z1, x9_6, y10, y11, y12, y13, y14, y15, by show va_P D classes _ t.heap; rw [ht]; exact hP, hD⟩⟩, hS.F ht⟩) hS.2.2 d_A_takeOperation_136
              · refine lv_aload_n hx hb d_A_takeOperation_112 rfl (lv_at hl 3 rfl) ?_
                refine lv_iload_n hx hb d_A_takeOperation_113 rfl (lv_at hl 2 rfl) ?_
                refine cs_i (W.runS (As := [.int rz1]) (rest := [.ref p0]) ⟨hx, hb, hml, hown, hk⟩ (c_A_addressPart l rz1) (s_A_addressPart hk k_1049 ⟨Nat.le_of_ble_eq_true rfl, Nat.le_of_ble_eq_true rfl⟩) ⟨fun a U g mk q => q, fun U hU hW => ⟨rfl, trivial⟩⟩ rfl rfl hl.1 rfl (lv_room (Nat.le_of_ble_eq_true rfl)) d_A_takeOperation_114 ⟨Nat.le_of_ble_eq_true rfl, Nat.le_of_ble_eq_true rfl⟩) ?_
                refine lv_topi (fun v71 hv71 => ?_)
                refine lv_iload_n hx hb d_A_takeOperation_117 rfl (lv_at hl 1 rfl) ?_
                refine lv_bipush (v := 12) hx hb d_A_takeOperation_118 (by decide) ?_
                refine lv_ishl hx hb d_A_takeOperation_120 ?_
                refine tpi (y := (0 : Int32)) (by decide) ?_
                refine lv_ior hx hb d_A_takeOperation_121 ?_
                refine lv_topi (fun v72 hv72 => ?_)
                refine lv_iload hx hb d_A_takeOperation_122 (lv_at hl 0 rfl) ?_
                refine lv_bipush (v := 6) hx hb d_A_takeOperation_124 (by decide) ?_
                refine lv_ishl hx hb d_A_takeOperation_126 ?_
                refine lv_topi (fun v73 hv73 => ?_)
                refine lv_ior hx hb d_A_takeOperation_127 ?_
                refine lv_topi (fun v74 hv74 => ?_)
                refine lv_aload_n hx hb d_A_takeOperation_128 rfl (lv_at hl 3 rfl) ?_
                refine va_get (D := D) (ci := 3) (v := .int x0_12) (C := "SignMachine$Assembler") (T := F_A) (N := 15) hx hb hk fi_A hown hK.1 hP 0 rfl rfl 12 (by decide) (hk _ k_649) (fun _ h9 => h9) rfl d_A_takeOperation_129 ?_
                refine lv_ior hx hb d_A_takeOperation_132 ?_
                refine lv_topi (fun v75 hv75 => ?_)
                refine kn_v (va_runV (C := "SignMachine$Assembler") (As := [.int v75]) (rest := []) ⟨hx, hb, hml, hown, hk⟩ (c_A_putInstruction_s1 l K D cI cJ cZ cB p0 p1 p2 p3 p4 p5 p6 p7 p8 p9 p10 p11 p12 p13 p14 p15 H.size x0_3z47 x0_4z47 x0_5 x0_6 x0_7 x0_8 x0_9 x0_10 x0_11 x0_12 x0_13z1 x0_14z1 x1_1 x1_2 x1_3z45 x1_4 x1_5 x1_6z1 x1_7z1 x1_8z1 y2 x3_5z1 x3_6z1 y4z1 y5z1 y6z1 y7 y8 x9_6 y10 y11 y12 y13 y14 y15  v75 ) (v_A_putInstruction_s1 hk k_968 ⟨Nat.le_of_ble_eq_true rfl, Nat.le_of_ble_eq_true rfl⟩) (pMC_v hK hP hD hC hS hA (ci := 3) (q0 := 0) rfl rfl rfl) rfl rfl hl.1 rfl (lv_room (Nat.le_of_ble_eq_true rfl)) d_A_takeOperation_133 ⟨by decide, by decide⟩) hS hA hD (fun u t H locs ht hB hFr hS => ?_)
                obtain ⟨x0_3z76, x0_4z76, x0_7z76, x9_6z76, y10z76, y11z76, y12z76, y13z76, y14z76, y15z76, hP, hD⟩ := hB
                rw [ht] at hP
                have hD := dwk hD hFr
                clear ht hFr
                have hP : va_P D classes (wS52 K cI cJ cZ cB p0 p1 p2 p3 p4 p5 p6 p7 p8 p9 p10 p11 p12 p13 p14 p15 x0_3z76 x0_4z76 x0_5 x0_6 x0_7z76 x0_8 x0_9 x0_10 x0_11 x0_12 x0_13z1 x0_14z1 x1_1 x1_2 x1_3z45 x1_4 x1_5 x1_6z1 x1_7z1 x1_8z1 y2 x3_5z1 x3_6z1 y4z1 y5z1 y6z1 y7 y8 x9_6z76 y10z76 y11z76 y12z76 y13z76 y14z76 y15z76) H := hP
                have hD : va_D A (wS52 K cI cJ cZ cB p0 p1 p2 p3 p4 p5 p6 p7 p8 p9 p10 p11 p12 p13 p14 p15 x0_3z76 x0_4z76 x0_5 x0_6 x0_7z76 x0_8 x0_9 x0_10 x0_11 x0_12 x0_13z1 x0_14z1 x1_1 x1_2 x1_3z45 x1_4 x1_5 x1_6z1 x1_7z1 x1_8z1 y2 x3_5z1 x3_6z1 y4z1 y5z1 y6z1 y7 y8 x9_6z76 y10z76 y11z76 y12z76 y13z76 y14z76 y15z76) := hD
                exact W.vret hx hb hr (fun t ht hW => ⟨⟨(), rfl, trivial, ⟨x0_3z76, x0_4z76, x0_7z76, x0_13z1, x0_14z1, x1_3z45, x1_6z1, x1_7z1, x1_8z1, x3_5z1, x3_6z1, y4z1, y5z1, y6z1, x9_6z76, y10z76, y11z76, y12z76, y13z76, y14z76, y15z76, by show va_P D classes _ t.heap; rw [ht]; exact hP, hD⟩⟩, hS.F ht⟩) hS.2.2 d_A_takeOperation_136
            · refine lv_aload_n hx hb d_A_takeOperation_99 rfl (lv_at hl 3 rfl) ?_
              refine lv_iconst (v := 4) hx hb d_A_takeOperation_100 (by decide) ?_
              refine sn_i (va_runV (C := "SignMachine$Assembler") (As := [.int (4 : Int32)]) (rest := []) ⟨hx, hb, hml, hown, hk⟩ (c_A_fail_s1 l K D cI cJ cZ cB p0 p1 p2 p3 p4 p5 p6 p7 p8 p9 p10 p11 p12 p13 p14 p15 H.size x0_3z47 x0_4z47 x0_5 x0_6 x0_7 x0_8 x0_9 x0_10 x0_11 x0_12 x0_13z1 x0_14z1 x1_1 x1_2 x1_3z45 x1_4 x1_5 x1_6z1 x1_7z1 x1_8z1 y2 x3_5z1 x3_6z1 y4z1 y5z1 y6z1 y7 y8 x9_6 y10 y11 y12 y13 y14 y15  (4 : Int32) ) (v_A_fail_s1 hk k_767 ⟨Nat.le_of_ble_eq_true rfl, Nat.le_of_ble_eq_true rfl⟩) (pMC_v hK hP hD hC hS hA (ci := 3) (q0 := 0) rfl rfl rfl) rfl rfl hl.1 rfl (lv_room (Nat.le_of_ble_eq_true rfl)) d_A_takeOperation_101 ⟨by decide, by decide⟩) hS hA hD (fun rz77 u t H locs hr0 ht hB hFr hS => ?_)
              obtain ⟨x0_3z77, x0_4z77, hP, hD⟩ := hB
              rw [ht] at hP
              have hD := dwk hD hFr
              clear ht hFr
              have hP : va_P D classes (wS52 K cI cJ cZ cB p0 p1 p2 p3 p4 p5 p6 p7 p8 p9 p10 p11 p12 p13 p14 p15 x0_3z77 x0_4z77 x0_5 x0_6 x0_7 x0_8 x0_9 x0_10 x0_11 x0_12 x0_13z1 x0_14z1 x1_1 x1_2 x1_3z45 x1_4 x1_5 x1_6z1 x1_7z1 x1_8z1 y2 x3_5z1 x3_6z1 y4z1 y5z1 y6z1 y7 y8 x9_6 y10 y11 y12 y13 y14 y15) H := hP
              have hD : va_D A (wS52 K cI cJ cZ cB p0 p1 p2 p3 p4 p5 p6 p7 p8 p9 p10 p11 p12 p13 p14 p15 x0_3z77 x0_4z77 x0_5 x0_6 x0_7 x0_8 x0_9 x0_10 x0_11 x0_12 x0_13z1 x0_14z1 x1_1 x1_2 x1_3z45 x1_4 x1_5 x1_6z1 x1_7z1 x1_8z1 y2 x3_5z1 x3_6z1 y4z1 y5z1 y6z1 y7 y8 x9_6 y10 y11 y12 y13 y14 y15) := hD
              refine lv_pop hx hb d_A_takeOperation_104 rfl ?_
              refine lv_aload_n hx hb d_A_takeOperation_105 rfl (lv_at hl 3 rfl) ?_
              refine va_get (D := D) (ci := 3) (v := .int x0_3z77) (C := "SignMachine$Assembler") (T := F_A) (N := 15) hx hb hk fi_A hown hK.1 hP 0 rfl rfl 3 (by decide) (hk _ k_636) (fun _ h9 => h9) rfl d_A_takeOperation_106 ?_
              refine lv_if_ne (tgt := 136) hx hb d_A_takeOperation_109 (by decide) (fun c78 => ?_) (fun c78 => ?_)
              · exact W.vret hx hb hr (fun t ht hW => ⟨⟨(), rfl, trivial, ⟨x0_3z77, x0_4z77, x0_7, x0_13z1, x0_14z1, x1_3z45, x1_6z1, x1_7z1, x1_8z1, x3_5z1, x3_6z1, y4z1, y5z1, y6z1, x9_6, y10, y11, y12, y13, y14, y15, by show va_P D classes _ t.heap; rw [ht]; exact hP, hD⟩⟩, hS.F ht⟩) hS.2.2 d_A_takeOperation_136
              · refine lv_aload_n hx hb d_A_takeOperation_112 rfl (lv_at hl 3 rfl) ?_
                refine lv_iload_n hx hb d_A_takeOperation_113 rfl (lv_at hl 2 rfl) ?_
                refine cs_i (W.runS (As := [.int rz1]) (rest := [.ref p0]) ⟨hx, hb, hml, hown, hk⟩ (c_A_addressPart l rz1) (s_A_addressPart hk k_1049 ⟨Nat.le_of_ble_eq_true rfl, Nat.le_of_ble_eq_true rfl⟩) ⟨fun a U g mk q => q, fun U hU hW => ⟨rfl, trivial⟩⟩ rfl rfl hl.1 rfl (lv_room (Nat.le_of_ble_eq_true rfl)) d_A_takeOperation_114 ⟨Nat.le_of_ble_eq_true rfl, Nat.le_of_ble_eq_true rfl⟩) ?_
                refine lv_topi (fun v79 hv79 => ?_)
                refine lv_iload_n hx hb d_A_takeOperation_117 rfl (lv_at hl 1 rfl) ?_
                refine lv_bipush (v := 12) hx hb d_A_takeOperation_118 (by decide) ?_
                refine lv_ishl hx hb d_A_takeOperation_120 ?_
                refine tpi (y := (0 : Int32)) (by decide) ?_
                refine lv_ior hx hb d_A_takeOperation_121 ?_
                refine lv_topi (fun v80 hv80 => ?_)
                refine lv_iload hx hb d_A_takeOperation_122 (lv_at hl 0 rfl) ?_
                refine lv_bipush (v := 6) hx hb d_A_takeOperation_124 (by decide) ?_
                refine lv_ishl hx hb d_A_takeOperation_126 ?_
                refine lv_topi (fun v81 hv81 => ?_)
                refine lv_ior hx hb d_A_takeOperation_127 ?_
                refine lv_topi (fun v82 hv82 => ?_)
                refine lv_aload_n hx hb d_A_takeOperation_128 rfl (lv_at hl 3 rfl) ?_
                refine va_get (D := D) (ci := 3) (v := .int x0_12) (C := "SignMachine$Assembler") (T := F_A) (N := 15) hx hb hk fi_A hown hK.1 hP 0 rfl rfl 12 (by decide) (hk _ k_649) (fun _ h9 => h9) rfl d_A_takeOperation_129 ?_
                refine lv_ior hx hb d_A_takeOperation_132 ?_
                refine lv_topi (fun v83 hv83 => ?_)
                refine kn_v (va_runV (C := "SignMachine$Assembler") (As := [.int v83]) (rest := []) ⟨hx, hb, hml, hown, hk⟩ (c_A_putInstruction_s1 l K D cI cJ cZ cB p0 p1 p2 p3 p4 p5 p6 p7 p8 p9 p10 p11 p12 p13 p14 p15 H.size x0_3z77 x0_4z77 x0_5 x0_6 x0_7 x0_8 x0_9 x0_10 x0_11 x0_12 x0_13z1 x0_14z1 x1_1 x1_2 x1_3z45 x1_4 x1_5 x1_6z1 x1_7z1 x1_8z1 y2 x3_5z1 x3_6z1 y4z1 y5z1 y6z1 y7 y8 x9_6 y10 y11 y12 y13 y14 y15  v83 ) (v_A_putInstruction_s1 hk k_968 ⟨Nat.le_of_ble_eq_true rfl, Nat.le_of_ble_eq_true rfl⟩) (pMC_v hK hP hD hC hS hA (ci := 3) (q0 := 0) rfl rfl rfl) rfl rfl hl.1 rfl (lv_room (Nat.le_of_ble_eq_true rfl)) d_A_takeOperation_133 ⟨by decide, by decide⟩) hS hA hD (fun u t H locs ht hB hFr hS => ?_)
                obtain ⟨x0_3z84, x0_4z84, x0_7z84, x9_6z84, y10z84, y11z84, y12z84, y13z84, y14z84, y15z84, hP, hD⟩ := hB
                rw [ht] at hP
                have hD := dwk hD hFr
                clear ht hFr
                have hP : va_P D classes (wS52 K cI cJ cZ cB p0 p1 p2 p3 p4 p5 p6 p7 p8 p9 p10 p11 p12 p13 p14 p15 x0_3z84 x0_4z84 x0_5 x0_6 x0_7z84 x0_8 x0_9 x0_10 x0_11 x0_12 x0_13z1 x0_14z1 x1_1 x1_2 x1_3z45 x1_4 x1_5 x1_6z1 x1_7z1 x1_8z1 y2 x3_5z1 x3_6z1 y4z1 y5z1 y6z1 y7 y8 x9_6z84 y10z84 y11z84 y12z84 y13z84 y14z84 y15z84) H := hP
                have hD : va_D A (wS52 K cI cJ cZ cB p0 p1 p2 p3 p4 p5 p6 p7 p8 p9 p10 p11 p12 p13 p14 p15 x0_3z84 x0_4z84 x0_5 x0_6 x0_7z84 x0_8 x0_9 x0_10 x0_11 x0_12 x0_13z1 x0_14z1 x1_1 x1_2 x1_3z45 x1_4 x1_5 x1_6z1 x1_7z1 x1_8z1 y2 x3_5z1 x3_6z1 y4z1 y5z1 y6z1 y7 y8 x9_6z84 y10z84 y11z84 y12z84 y13z84 y14z84 y15z84) := hD
                exact W.vret hx hb hr (fun t ht hW => ⟨⟨(), rfl, trivial, ⟨x0_3z84, x0_4z84, x0_7z84, x0_13z1, x0_14z1, x1_3z45, x1_6z1, x1_7z1, x1_8z1, x3_5z1, x3_6z1, y4z1, y5z1, y6z1, x9_6z84, y10z84, y11z84, y12z84, y13z84, y14z84, y15z84, by show va_P D classes _ t.heap; rw [ht]; exact hP, hD⟩⟩, hS.F ht⟩) hS.2.2 d_A_takeOperation_136
      · refine lv_aload_n hx hb d_A_takeOperation_53 rfl (lv_at hl 3 rfl) ?_
        refine sn_i (va_runV (C := "SignMachine$Assembler") (As := []) (rest := []) ⟨hx, hb, hml, hown, hk⟩ (c_A_readExp_s1 l K D cI cJ cZ cB p0 p1 p2 p3 p4 p5 p6 p7 p8 p9 p10 p11 p12 p13 p14 p15 H.size x0_3z1 x0_4z1 x0_5 x0_6 x0_7 x0_8 x0_9 x0_10 x0_11 x0_12 x0_13z1 x0_14z1 x1_1 x1_2 x1_3z45 x1_4 x1_5 x1_6z1 x1_7z1 x1_8z1 y2 x3_5z1 x3_6z1 y4z1 y5z1 y6z1 y7 y8 x9_6 y10 y11 y12 y13 y14 y15   ) (v_A_readExp_s1 hk k_989 ⟨Nat.le_of_ble_eq_true rfl, Nat.le_of_ble_eq_true rfl⟩) (pMC_v hK hP hD hC hS hA (ci := 3) (q0 := 0) rfl rfl rfl) rfl rfl hl.1 rfl (lv_room (Nat.le_of_ble_eq_true rfl)) d_A_takeOperation_54 ⟨by decide, by decide⟩) hS hA hD (fun rz85 u t H locs hr0 ht hB hFr hS => ?_)
        obtain ⟨x0_3z85, x0_4z85, x1_3z85, x1_6z85, x1_7z85, x1_8z85, hP, hD⟩ := hB
        rw [ht] at hP
        have hD := dwk hD hFr
        clear ht hFr
        have hP : va_P D classes (wS52 K cI cJ cZ cB p0 p1 p2 p3 p4 p5 p6 p7 p8 p9 p10 p11 p12 p13 p14 p15 x0_3z85 x0_4z85 x0_5 x0_6 x0_7 x0_8 x0_9 x0_10 x0_11 x0_12 x0_13z1 x0_14z1 x1_1 x1_2 x1_3z85 x1_4 x1_5 x1_6z85 x1_7z85 x1_8z85 y2 x3_5z1 x3_6z1 y4z1 y5z1 y6z1 y7 y8 x9_6 y10 y11 y12 y13 y14 y15) H := hP
        have hD : va_D A (wS52 K cI cJ cZ cB p0 p1 p2 p3 p4 p5 p6 p7 p8 p9 p10 p11 p12 p13 p14 p15 x0_3z85 x0_4z85 x0_5 x0_6 x0_7 x0_8 x0_9 x0_10 x0_11 x0_12 x0_13z1 x0_14z1 x1_1 x1_2 x1_3z85 x1_4 x1_5 x1_6z85 x1_7z85 x1_8z85 y2 x3_5z1 x3_6z1 y4z1 y5z1 y6z1 y7 y8 x9_6 y10 y11 y12 y13 y14 y15) := hD
        refine lv_istore (lv' := [(4, .int rz85), (3, .int (0 : Int32)), (2, .int rz1), (0, .ref p0), (1, .int a1)]) hx hb d_A_takeOperation_57 hl (by decide) rfl (fun ls hl => ?_)
        refine lv_aload_n hx hb d_A_takeOperation_59 rfl (lv_at hl 3 rfl) ?_
        refine kn_v (va_runV (C := "SignMachine$Assembler") (As := []) (rest := []) ⟨hx, hb, hml, hown, hk⟩ (c_A_expectBracket_s1 l K D cI cJ cZ cB p0 p1 p2 p3 p4 p5 p6 p7 p8 p9 p10 p11 p12 p13 p14 p15 H.size x0_3z85 x0_4z85 x0_5 x0_6 x0_7 x0_8 x0_9 x0_10 x0_11 x0_12 x0_13z1 x0_14z1 x1_1 x1_2 x1_3z85 x1_4 x1_5 x1_6z85 x1_7z85 x1_8z85 y2 x3_5z1 x3_6z1 y4z1 y5z1 y6z1 y7 y8 x9_6 y10 y11 y12 y13 y14 y15   ) (v_A_expectBracket_s1 hk k_1021 ⟨Nat.le_of_ble_eq_true rfl, Nat.le_of_ble_eq_true rfl⟩) (pMC_v hK hP hD hC hS hA (ci := 3) (q0 := 0) rfl rfl rfl) rfl rfl hl.1 rfl (lv_room (Nat.le_of_ble_eq_true rfl)) d_A_takeOperation_60 ⟨by decide, by decide⟩) hS hA hD (fun u t H locs ht hB hFr hS => ?_)
        obtain ⟨x0_3z86, x0_4z86, x1_3z86, hP, hD⟩ := hB
        rw [ht] at hP
        have hD := dwk hD hFr
        clear ht hFr
        have hP : va_P D classes (wS52 K cI cJ cZ cB p0 p1 p2 p3 p4 p5 p6 p7 p8 p9 p10 p11 p12 p13 p14 p15 x0_3z86 x0_4z86 x0_5 x0_6 x0_7 x0_8 x0_9 x0_10 x0_11 x0_12 x0_13z1 x0_14z1 x1_1 x1_2 x1_3z86 x1_4 x1_5 x1_6z85 x1_7z85 x1_8z85 y2 x3_5z1 x3_6z1 y4z1 y5z1 y6z1 y7 y8 x9_6 y10 y11 y12 y13 y14 y15) H := hP
        have hD : va_D A (wS52 K cI cJ cZ cB p0 p1 p2 p3 p4 p5 p6 p7 p8 p9 p10 p11 p12 p13 p14 p15 x0_3z86 x0_4z86 x0_5 x0_6 x0_7 x0_8 x0_9 x0_10 x0_11 x0_12 x0_13z1 x0_14z1 x1_1 x1_2 x1_3z86 x1_4 x1_5 x1_6z85 x1_7z85 x1_8z85 y2 x3_5z1 x3_6z1 y4z1 y5z1 y6z1 y7 y8 x9_6 y10 y11 y12 y13 y14 y15) := hD
        refine lv_aload_n hx hb d_A_takeOperation_63 rfl (lv_at hl 3 rfl) ?_
        refine kn_v (va_runV (C := "SignMachine$Assembler") (As := []) (rest := []) ⟨hx, hb, hml, hown, hk⟩ (c_A_expectEnd_s1 l K D cI cJ cZ cB p0 p1 p2 p3 p4 p5 p6 p7 p8 p9 p10 p11 p12 p13 p14 p15 H.size x0_3z86 x0_4z86 x0_5 x0_6 x0_7 x0_8 x0_9 x0_10 x0_11 x0_12 x0_13z1 x0_14z1 x1_1 x1_2 x1_3z86 x1_4 x1_5 x1_6z85 x1_7z85 x1_8z85 y2 x3_5z1 x3_6z1 y4z1 y5z1 y6z1 y7 y8 x9_6 y10 y11 y12 y13 y14 y15   ) (v_A_expectEnd_s1 hk k_1044 ⟨Nat.le_of_ble_eq_true rfl, Nat.le_of_ble_eq_true rfl⟩) (pMC_v hK hP hD hC hS hA (ci := 3) (q0 := 0) rfl rfl rfl) rfl rfl hl.1 rfl (lv_room (Nat.le_of_ble_eq_true rfl)) d_A_takeOperation_64 ⟨by decide, by decide⟩) hS hA hD (fun u t H locs ht hB hFr hS => ?_)
        obtain ⟨x0_3z87, x0_4z87, hP, hD⟩ := hB
        rw [ht] at hP
        have hD := dwk hD hFr
        clear ht hFr
        have hP : va_P D classes (wS52 K cI cJ cZ cB p0 p1 p2 p3 p4 p5 p6 p7 p8 p9 p10 p11 p12 p13 p14 p15 x0_3z87 x0_4z87 x0_5 x0_6 x0_7 x0_8 x0_9 x0_10 x0_11 x0_12 x0_13z1 x0_14z1 x1_1 x1_2 x1_3z86 x1_4 x1_5 x1_6z85 x1_7z85 x1_8z85 y2 x3_5z1 x3_6z1 y4z1 y5z1 y6z1 y7 y8 x9_6 y10 y11 y12 y13 y14 y15) H := hP
        have hD : va_D A (wS52 K cI cJ cZ cB p0 p1 p2 p3 p4 p5 p6 p7 p8 p9 p10 p11 p12 p13 p14 p15 x0_3z87 x0_4z87 x0_5 x0_6 x0_7 x0_8 x0_9 x0_10 x0_11 x0_12 x0_13z1 x0_14z1 x1_1 x1_2 x1_3z86 x1_4 x1_5 x1_6z85 x1_7z85 x1_8z85 y2 x3_5z1 x3_6z1 y4z1 y5z1 y6z1 y7 y8 x9_6 y10 y11 y12 y13 y14 y15) := hD
        refine lv_iload_n hx hb d_A_takeOperation_67 rfl (lv_at hl 2 rfl) ?_
        refine va_mabs hx hb (hml.trans hl.1.symm) hown (hk _ k_1048) (hk _ k_331) (hk _ k_121) (hk _ k_absc) (Nat.le_of_ble_eq_true rfl) (Nat.le_of_ble_eq_true rfl) (Nat.zero_le _) (Nat.zero_le _) d_A_takeOperation_68 ?_
        refine lv_topi (fun v88 hv88 => ?_)
        refine lv_sipush (v := 4095) hx hb d_A_takeOperation_71 (by decide) ?_
        refine lv_icmp_gt (tgt := 99) hx hb d_A_takeOperation_74 (by decide) (fun c89 => ?_) (fun c89 => ?_)
        · refine lv_aload_n hx hb d_A_takeOperation_99 rfl (lv_at hl 3 rfl) ?_
          refine lv_iconst (v := 4) hx hb d_A_takeOperation_100 (by decide) ?_
          refine sn_i (va_runV (C := "SignMachine$Assembler") (As := [.int (4 : Int32)]) (rest := []) ⟨hx, hb, hml, hown, hk⟩ (c_A_fail_s1 l K D cI cJ cZ cB p0 p1 p2 p3 p4 p5 p6 p7 p8 p9 p10 p11 p12 p13 p14 p15 H.size x0_3z87 x0_4z87 x0_5 x0_6 x0_7 x0_8 x0_9 x0_10 x0_11 x0_12 x0_13z1 x0_14z1 x1_1 x1_2 x1_3z86 x1_4 x1_5 x1_6z85 x1_7z85 x1_8z85 y2 x3_5z1 x3_6z1 y4z1 y5z1 y6z1 y7 y8 x9_6 y10 y11 y12 y13 y14 y15  (4 : Int32) ) (v_A_fail_s1 hk k_767 ⟨Nat.le_of_ble_eq_true rfl, Nat.le_of_ble_eq_true rfl⟩) (pMC_v hK hP hD hC hS hA (ci := 3) (q0 := 0) rfl rfl rfl) rfl rfl hl.1 rfl (lv_room (Nat.le_of_ble_eq_true rfl)) d_A_takeOperation_101 ⟨by decide, by decide⟩) hS hA hD (fun rz90 u t H locs hr0 ht hB hFr hS => ?_)
          obtain ⟨x0_3z90, x0_4z90, hP, hD⟩ := hB
          rw [ht] at hP
          have hD := dwk hD hFr
          clear ht hFr
          have hP : va_P D classes (wS52 K cI cJ cZ cB p0 p1 p2 p3 p4 p5 p6 p7 p8 p9 p10 p11 p12 p13 p14 p15 x0_3z90 x0_4z90 x0_5 x0_6 x0_7 x0_8 x0_9 x0_10 x0_11 x0_12 x0_13z1 x0_14z1 x1_1 x1_2 x1_3z86 x1_4 x1_5 x1_6z85 x1_7z85 x1_8z85 y2 x3_5z1 x3_6z1 y4z1 y5z1 y6z1 y7 y8 x9_6 y10 y11 y12 y13 y14 y15) H := hP
          have hD : va_D A (wS52 K cI cJ cZ cB p0 p1 p2 p3 p4 p5 p6 p7 p8 p9 p10 p11 p12 p13 p14 p15 x0_3z90 x0_4z90 x0_5 x0_6 x0_7 x0_8 x0_9 x0_10 x0_11 x0_12 x0_13z1 x0_14z1 x1_1 x1_2 x1_3z86 x1_4 x1_5 x1_6z85 x1_7z85 x1_8z85 y2 x3_5z1 x3_6z1 y4z1 y5z1 y6z1 y7 y8 x9_6 y10 y11 y12 y13 y14 y15) := hD
          refine lv_pop hx hb d_A_takeOperation_104 rfl ?_
          refine lv_aload_n hx hb d_A_takeOperation_105 rfl (lv_at hl 3 rfl) ?_
          refine va_get (D := D) (ci := 3) (v := .int x0_3z90) (C := "SignMachine$Assembler") (T := F_A) (N := 15) hx hb hk fi_A hown hK.1 hP 0 rfl rfl 3 (by decide) (hk _ k_636) (fun _ h9 => h9) rfl d_A_takeOperation_106 ?_
          refine lv_if_ne (tgt := 136) hx hb d_A_takeOperation_109 (by decide) (fun c91 => ?_) (fun c91 => ?_)
          · exact W.vret hx hb hr (fun t ht hW => ⟨⟨(), rfl, trivial, ⟨x0_3z90, x0_4z90, x0_7, x0_13z1, x0_14z1, x1_3z86, x1_6z85, x1_7z85, x1_8z85, x3_5z1, x3_6z1, y4z1, y5z1, y6z1, x9_6, y10, y11, y12, y13, y14, y15, by show va_P D classes _ t.heap; rw [ht]; exact hP, hD⟩⟩, hS.F ht⟩) hS.2.2 d_A_takeOperation_136
          · refine lv_aload_n hx hb d_A_takeOperation_112 rfl (lv_at hl 3 rfl) ?_
            refine lv_iload_n hx hb d_A_takeOperation_113 rfl (lv_at hl 2 rfl) ?_
            refine cs_i (W.runS (As := [.int rz1]) (rest := [.ref p0]) ⟨hx, hb, hml, hown, hk⟩ (c_A_addressPart l rz1) (s_A_addressPart hk k_1049 ⟨Nat.le_of_ble_eq_true rfl, Nat.le_of_ble_eq_true rfl⟩) ⟨fun a U g mk q => q, fun U hU hW => ⟨rfl, trivial⟩⟩ rfl rfl hl.1 rfl (lv_room (Nat.le_of_ble_eq_true rfl)) d_A_takeOperation_114 ⟨Nat.le_of_ble_eq_true rfl, Nat.le_of_ble_eq_true rfl⟩) ?_
            refine lv_topi (fun v92 hv92 => ?_)
            refine lv_iload_n hx hb d_A_takeOperation_117 rfl (lv_at hl 1 rfl) ?_
            refine lv_bipush (v := 12) hx hb d_A_takeOperation_118 (by decide) ?_
            refine lv_ishl hx hb d_A_takeOperation_120 ?_
            refine tpi (y := (0 : Int32)) (by decide) ?_
            refine lv_ior hx hb d_A_takeOperation_121 ?_
            refine lv_topi (fun v93 hv93 => ?_)
            refine lv_iload hx hb d_A_takeOperation_122 (lv_at hl 0 rfl) ?_
            refine lv_bipush (v := 6) hx hb d_A_takeOperation_124 (by decide) ?_
            refine lv_ishl hx hb d_A_takeOperation_126 ?_
            refine lv_topi (fun v94 hv94 => ?_)
            refine lv_ior hx hb d_A_takeOperation_127 ?_
            refine lv_topi (fun v95 hv95 => ?_)
            refine lv_aload_n hx hb d_A_takeOperation_128 rfl (lv_at hl 3 rfl) ?_
            refine va_get (D := D) (ci := 3) (v := .int x0_12) (C := "SignMachine$Assembler") (T := F_A) (N := 15) hx hb hk fi_A hown hK.1 hP 0 rfl rfl 12 (by decide) (hk _ k_649) (fun _ h9 => h9) rfl d_A_takeOperation_129 ?_
            refine lv_ior hx hb d_A_takeOperation_132 ?_
            refine lv_topi (fun v96 hv96 => ?_)
            refine kn_v (va_runV (C := "SignMachine$Assembler") (As := [.int v96]) (rest := []) ⟨hx, hb, hml, hown, hk⟩ (c_A_putInstruction_s1 l K D cI cJ cZ cB p0 p1 p2 p3 p4 p5 p6 p7 p8 p9 p10 p11 p12 p13 p14 p15 H.size x0_3z90 x0_4z90 x0_5 x0_6 x0_7 x0_8 x0_9 x0_10 x0_11 x0_12 x0_13z1 x0_14z1 x1_1 x1_2 x1_3z86 x1_4 x1_5 x1_6z85 x1_7z85 x1_8z85 y2 x3_5z1 x3_6z1 y4z1 y5z1 y6z1 y7 y8 x9_6 y10 y11 y12 y13 y14 y15  v96 ) (v_A_putInstruction_s1 hk k_968 ⟨Nat.le_of_ble_eq_true rfl, Nat.le_of_ble_eq_true rfl⟩) (pMC_v hK hP hD hC hS hA (ci := 3) (q0 := 0) rfl rfl rfl) rfl rfl hl.1 rfl (lv_room (Nat.le_of_ble_eq_true rfl)) d_A_takeOperation_133 ⟨by decide, by decide⟩) hS hA hD (fun u t H locs ht hB hFr hS => ?_)
            obtain ⟨x0_3z97, x0_4z97, x0_7z97, x9_6z97, y10z97, y11z97, y12z97, y13z97, y14z97, y15z97, hP, hD⟩ := hB
            rw [ht] at hP
            have hD := dwk hD hFr
            clear ht hFr
            have hP : va_P D classes (wS52 K cI cJ cZ cB p0 p1 p2 p3 p4 p5 p6 p7 p8 p9 p10 p11 p12 p13 p14 p15 x0_3z97 x0_4z97 x0_5 x0_6 x0_7z97 x0_8 x0_9 x0_10 x0_11 x0_12 x0_13z1 x0_14z1 x1_1 x1_2 x1_3z86 x1_4 x1_5 x1_6z85 x1_7z85 x1_8z85 y2 x3_5z1 x3_6z1 y4z1 y5z1 y6z1 y7 y8 x9_6z97 y10z97 y11z97 y12z97 y13z97 y14z97 y15z97) H := hP
            have hD : va_D A (wS52 K cI cJ cZ cB p0 p1 p2 p3 p4 p5 p6 p7 p8 p9 p10 p11 p12 p13 p14 p15 x0_3z97 x0_4z97 x0_5 x0_6 x0_7z97 x0_8 x0_9 x0_10 x0_11 x0_12 x0_13z1 x0_14z1 x1_1 x1_2 x1_3z86 x1_4 x1_5 x1_6z85 x1_7z85 x1_8z85 y2 x3_5z1 x3_6z1 y4z1 y5z1 y6z1 y7 y8 x9_6z97 y10z97 y11z97 y12z97 y13z97 y14z97 y15z97) := hD
            exact W.vret hx hb hr (fun t ht hW => ⟨⟨(), rfl, trivial, ⟨x0_3z97, x0_4z97, x0_7z97, x0_13z1, x0_14z1, x1_3z86, x1_6z85, x1_7z85, x1_8z85, x3_5z1, x3_6z1, y4z1, y5z1, y6z1, x9_6z97, y10z97, y11z97, y12z97, y13z97, y14z97, y15z97, by show va_P D classes _ t.heap; rw [ht]; exact hP, hD⟩⟩, hS.F ht⟩) hS.2.2 d_A_takeOperation_136
        · refine lv_iload_n hx hb d_A_takeOperation_77 rfl (lv_at hl 1 rfl) ?_
          refine lv_if_lt (tgt := 99) hx hb d_A_takeOperation_78 (by decide) (fun c98 => absurd c98 (show ¬ (0 : Int32) < (0 : Int32) from (by decide))) (fun c98 => ?_)
          refine lv_iload_n hx hb d_A_takeOperation_81 rfl (lv_at hl 1 rfl) ?_
          refine lv_bipush (v := 6) hx hb d_A_takeOperation_82 (by decide) ?_
          refine lv_icmp_gt (tgt := 99) hx hb d_A_takeOperation_84 (by decide) (fun c99 => absurd c99 (show ¬ (6 : Int32) < (0 : Int32) from (by decide))) (fun c99 => ?_)
          refine lv_iload hx hb d_A_takeOperation_87 (lv_at hl 0 rfl) ?_
          refine lv_if_lt (tgt := 99) hx hb d_A_takeOperation_89 (by decide) (fun c100 => ?_) (fun c100 => ?_)
          · refine lv_aload_n hx hb d_A_takeOperation_99 rfl (lv_at hl 3 rfl) ?_
            refine lv_iconst (v := 4) hx hb d_A_takeOperation_100 (by decide) ?_
            refine sn_i (va_runV (C := "SignMachine$Assembler") (As := [.int (4 : Int32)]) (rest := []) ⟨hx, hb, hml, hown, hk⟩ (c_A_fail_s1 l K D cI cJ cZ cB p0 p1 p2 p3 p4 p5 p6 p7 p8 p9 p10 p11 p12 p13 p14 p15 H.size x0_3z87 x0_4z87 x0_5 x0_6 x0_7 x0_8 x0_9 x0_10 x0_11 x0_12 x0_13z1 x0_14z1 x1_1 x1_2 x1_3z86 x1_4 x1_5 x1_6z85 x1_7z85 x1_8z85 y2 x3_5z1 x3_6z1 y4z1 y5z1 y6z1 y7 y8 x9_6 y10 y11 y12 y13 y14 y15  (4 : Int32) ) (v_A_fail_s1 hk k_767 ⟨Nat.le_of_ble_eq_true rfl, Nat.le_of_ble_eq_true rfl⟩) (pMC_v hK hP hD hC hS hA (ci := 3) (q0 := 0) rfl rfl rfl) rfl rfl hl.1 rfl (lv_room (Nat.le_of_ble_eq_true rfl)) d_A_takeOperation_101 ⟨by decide, by decide⟩) hS hA hD (fun rz101 u t H locs hr0 ht hB hFr hS => ?_)
            obtain ⟨x0_3z101, x0_4z101, hP, hD⟩ := hB
            rw [ht] at hP
            have hD := dwk hD hFr
            clear ht hFr
            have hP : va_P D classes (wS52 K cI cJ cZ cB p0 p1 p2 p3 p4 p5 p6 p7 p8 p9 p10 p11 p12 p13 p14 p15 x0_3z101 x0_4z101 x0_5 x0_6 x0_7 x0_8 x0_9 x0_10 x0_11 x0_12 x0_13z1 x0_14z1 x1_1 x1_2 x1_3z86 x1_4 x1_5 x1_6z85 x1_7z85 x1_8z85 y2 x3_5z1 x3_6z1 y4z1 y5z1 y6z1 y7 y8 x9_6 y10 y11 y12 y13 y14 y15) H := hP
            have hD : va_D A (wS52 K cI cJ cZ cB p0 p1 p2 p3 p4 p5 p6 p7 p8 p9 p10 p11 p12 p13 p14 p15 x0_3z101 x0_4z101 x0_5 x0_6 x0_7 x0_8 x0_9 x0_10 x0_11 x0_12 x0_13z1 x0_14z1 x1_1 x1_2 x1_3z86 x1_4 x1_5 x1_6z85 x1_7z85 x1_8z85 y2 x3_5z1 x3_6z1 y4z1 y5z1 y6z1 y7 y8 x9_6 y10 y11 y12 y13 y14 y15) := hD
            refine lv_pop hx hb d_A_takeOperation_104 rfl ?_
            refine lv_aload_n hx hb d_A_takeOperation_105 rfl (lv_at hl 3 rfl) ?_
            refine va_get (D := D) (ci := 3) (v := .int x0_3z101) (C := "SignMachine$Assembler") (T := F_A) (N := 15) hx hb hk fi_A hown hK.1 hP 0 rfl rfl 3 (by decide) (hk _ k_636) (fun _ h9 => h9) rfl d_A_takeOperation_106 ?_
            refine lv_if_ne (tgt := 136) hx hb d_A_takeOperation_109 (by decide) (fun c102 => ?_) (fun c102 => ?_)
            · exact W.vret hx hb hr (fun t ht hW => ⟨⟨(), rfl, trivial, ⟨x0_3z101, x0_4z101, x0_7, x0_13z1, x0_14z1, x1_3z86, x1_6z85, x1_7z85, x1_8z85, x3_5z1, x3_6z1, y4z1, y5z1, y6z1, x9_6, y10, y11, y12, y13, y14, y15, by show va_P D classes _ t.heap; rw [ht]; exact hP, hD⟩⟩, hS.F ht⟩) hS.2.2 d_A_takeOperation_136
            · refine lv_aload_n hx hb d_A_takeOperation_112 rfl (lv_at hl 3 rfl) ?_
              refine lv_iload_n hx hb d_A_takeOperation_113 rfl (lv_at hl 2 rfl) ?_
              refine cs_i (W.runS (As := [.int rz1]) (rest := [.ref p0]) ⟨hx, hb, hml, hown, hk⟩ (c_A_addressPart l rz1) (s_A_addressPart hk k_1049 ⟨Nat.le_of_ble_eq_true rfl, Nat.le_of_ble_eq_true rfl⟩) ⟨fun a U g mk q => q, fun U hU hW => ⟨rfl, trivial⟩⟩ rfl rfl hl.1 rfl (lv_room (Nat.le_of_ble_eq_true rfl)) d_A_takeOperation_114 ⟨Nat.le_of_ble_eq_true rfl, Nat.le_of_ble_eq_true rfl⟩) ?_
              refine lv_topi (fun v103 hv103 => ?_)
              refine lv_iload_n hx hb d_A_takeOperation_117 rfl (lv_at hl 1 rfl) ?_
              refine lv_bipush (v := 12) hx hb d_A_takeOperation_118 (by decide) ?_
              refine lv_ishl hx hb d_A_takeOperation_120 ?_
              refine tpi (y := (0 : Int32)) (by decide) ?_
              refine lv_ior hx hb d_A_takeOperation_121 ?_
              refine lv_topi (fun v104 hv104 => ?_)
              refine lv_iload hx hb d_A_takeOperation_122 (lv_at hl 0 rfl) ?_
              refine lv_bipush (v := 6) hx hb d_A_takeOperation_124 (by decide) ?_
              refine lv_ishl hx hb d_A_takeOperation_126 ?_
              refine lv_topi (fun v105 hv105 => ?_)
              refine lv_ior hx hb d_A_takeOperation_127 ?_
              refine lv_topi (fun v106 hv106 => ?_)
              refine lv_aload_n hx hb d_A_takeOperation_128 rfl (lv_at hl 3 rfl) ?_
              refine va_get (D := D) (ci := 3) (v := .int x0_12) (C := "SignMachine$Assembler") (T := F_A) (N := 15) hx hb hk fi_A hown hK.1 hP 0 rfl rfl 12 (by decide) (hk _ k_649) (fun _ h9 => h9) rfl d_A_takeOperation_129 ?_
              refine lv_ior hx hb d_A_takeOperation_132 ?_
              refine lv_topi (fun v107 hv107 => ?_)
              refine kn_v (va_runV (C := "SignMachine$Assembler") (As := [.int v107]) (rest := []) ⟨hx, hb, hml, hown, hk⟩ (c_A_putInstruction_s1 l K D cI cJ cZ cB p0 p1 p2 p3 p4 p5 p6 p7 p8 p9 p10 p11 p12 p13 p14 p15 H.size x0_3z101 x0_4z101 x0_5 x0_6 x0_7 x0_8 x0_9 x0_10 x0_11 x0_12 x0_13z1 x0_14z1 x1_1 x1_2 x1_3z86 x1_4 x1_5 x1_6z85 x1_7z85 x1_8z85 y2 x3_5z1 x3_6z1 y4z1 y5z1 y6z1 y7 y8 x9_6 y10 y11 y12 y13 y14 y15  v107 ) (v_A_putInstruction_s1 hk k_968 ⟨Nat.le_of_ble_eq_true rfl, Nat.le_of_ble_eq_true rfl⟩) (pMC_v hK hP hD hC hS hA (ci := 3) (q0 := 0) rfl rfl rfl) rfl rfl hl.1 rfl (lv_room (Nat.le_of_ble_eq_true rfl)) d_A_takeOperation_133 ⟨by decide, by decide⟩) hS hA hD (fun u t H locs ht hB hFr hS => ?_)
              obtain ⟨x0_3z108, x0_4z108, x0_7z108, x9_6z108, y10z108, y11z108, y12z108, y13z108, y14z108, y15z108, hP, hD⟩ := hB
              rw [ht] at hP
              have hD := dwk hD hFr
              clear ht hFr
              have hP : va_P D classes (wS52 K cI cJ cZ cB p0 p1 p2 p3 p4 p5 p6 p7 p8 p9 p10 p11 p12 p13 p14 p15 x0_3z108 x0_4z108 x0_5 x0_6 x0_7z108 x0_8 x0_9 x0_10 x0_11 x0_12 x0_13z1 x0_14z1 x1_1 x1_2 x1_3z86 x1_4 x1_5 x1_6z85 x1_7z85 x1_8z85 y2 x3_5z1 x3_6z1 y4z1 y5z1 y6z1 y7 y8 x9_6z108 y10z108 y11z108 y12z108 y13z108 y14z108 y15z108) H := hP
              have hD : va_D A (wS52 K cI cJ cZ cB p0 p1 p2 p3 p4 p5 p6 p7 p8 p9 p10 p11 p12 p13 p14 p15 x0_3z108 x0_4z108 x0_5 x0_6 x0_7z108 x0_8 x0_9 x0_10 x0_11 x0_12 x0_13z1 x0_14z1 x1_1 x1_2 x1_3z86 x1_4 x1_5 x1_6z85 x1_7z85 x1_8z85 y2 x3_5z1 x3_6z1 y4z1 y5z1 y6z1 y7 y8 x9_6z108 y10z108 y11z108 y12z108 y13z108 y14z108 y15z108) := hD
              exact W.vret hx hb hr (fun t ht hW => ⟨⟨(), rfl, trivial, ⟨x0_3z108, x0_4z108, x0_7z108, x0_13z1, x0_14z1, x1_3z86, x1_6z85, x1_7z85, x1_8z85, x3_5z1, x3_6z1, y4z1, y5z1, y6z1, x9_6z108, y10z108, y11z108, y12z108, y13z108, y14z108, y15z108, by show va_P D classes _ t.heap; rw [ht]; exact hP, hD⟩⟩, hS.F ht⟩) hS.2.2 d_A_takeOperation_136
          · refine lv_iload hx hb d_A_takeOperation_92 (lv_at hl 0 rfl) ?_
            refine lv_bipush (v := 63) hx hb d_A_takeOperation_94 (by decide) ?_
            refine lv_icmp_le (tgt := 105) hx hb d_A_takeOperation_96 (by decide) (fun c109 => ?_) (fun c109 => ?_)
            · refine lv_aload_n hx hb d_A_takeOperation_105 rfl (lv_at hl 3 rfl) ?_
              refine va_get (D := D) (ci := 3) (v := .int x0_3z87) (C := "SignMachine$Assembler") (T := F_A) (N := 15) hx hb hk fi_A hown hK.1 hP 0 rfl rfl 3 (by decide) (hk _ k_636) (fun _ h9 => h9) rfl d_A_takeOperation_106 ?_
              refine lv_if_ne (tgt := 136) hx hb d_A_takeOperation_109 (by decide) (fun c110 => ?_) (fun c110 => ?_)
              · exact W.vret hx hb hr (fun t ht hW => ⟨⟨(), rfl, trivial, ⟨x0_3z87, x0_4z87, x0_7, x0_13z1, x0_14z1, x1_3z86, x1_6z85, x1_7z85, x1_8z85, x3_5z1, x3_6z1, y4z1, y5z1, y6z1, x9_6, y10, y11, y12, y13, y14, y15, by show va_P D classes _ t.heap; rw [ht]; exact hP, hD⟩⟩, hS.F ht⟩) hS.2.2 d_A_takeOperation_136
              · refine lv_aload_n hx hb d_A_takeOperation_112 rfl (lv_at hl 3 rfl) ?_
                refine lv_iload_n hx hb d_A_takeOperation_113 rfl (lv_at hl 2 rfl) ?_
                refine cs_i (W.runS (As := [.int rz1]) (rest := [.ref p0]) ⟨hx, hb, hml, hown, hk⟩ (c_A_addressPart l rz1) (s_A_addressPart hk k_1049 ⟨Nat.le_of_ble_eq_true rfl, Nat.le_of_ble_eq_true rfl⟩) ⟨fun a U g mk q => q, fun U hU hW => ⟨rfl, trivial⟩⟩ rfl rfl hl.1 rfl (lv_room (Nat.le_of_ble_eq_true rfl)) d_A_takeOperation_114 ⟨Nat.le_of_ble_eq_true rfl, Nat.le_of_ble_eq_true rfl⟩) ?_
                refine lv_topi (fun v111 hv111 => ?_)
                refine lv_iload_n hx hb d_A_takeOperation_117 rfl (lv_at hl 1 rfl) ?_
                refine lv_bipush (v := 12) hx hb d_A_takeOperation_118 (by decide) ?_
                refine lv_ishl hx hb d_A_takeOperation_120 ?_
                refine tpi (y := (0 : Int32)) (by decide) ?_
                refine lv_ior hx hb d_A_takeOperation_121 ?_
                refine lv_topi (fun v112 hv112 => ?_)
                refine lv_iload hx hb d_A_takeOperation_122 (lv_at hl 0 rfl) ?_
                refine lv_bipush (v := 6) hx hb d_A_takeOperation_124 (by decide) ?_
                refine lv_ishl hx hb d_A_takeOperation_126 ?_
                refine lv_topi (fun v113 hv113 => ?_)
                refine lv_ior hx hb d_A_takeOperation_127 ?_
                refine lv_topi (fun v114 hv114 => ?_)
                refine lv_aload_n hx hb d_A_takeOperation_128 rfl (lv_at hl 3 rfl) ?_
                refine va_get (D := D) (ci := 3) (v := .int x0_12) (C := "SignMachine$Assembler") (T := F_A) (N := 15) hx hb hk fi_A hown hK.1 hP 0 rfl rfl 12 (by decide) (hk _ k_649) (fun _ h9 => h9) rfl d_A_takeOperation_129 ?_
                refine lv_ior hx hb d_A_takeOperation_132 ?_
                refine lv_topi (fun v115 hv115 => ?_)
                refine kn_v (va_runV (C := "SignMachine$Assembler") (As := [.int v115]) (rest := []) ⟨hx, hb, hml, hown, hk⟩ (c_A_putInstruction_s1 l K D cI cJ cZ cB p0 p1 p2 p3 p4 p5 p6 p7 p8 p9 p10 p11 p12 p13 p14 p15 H.size x0_3z87 x0_4z87 x0_5 x0_6 x0_7 x0_8 x0_9 x0_10 x0_11 x0_12 x0_13z1 x0_14z1 x1_1 x1_2 x1_3z86 x1_4 x1_5 x1_6z85 x1_7z85 x1_8z85 y2 x3_5z1 x3_6z1 y4z1 y5z1 y6z1 y7 y8 x9_6 y10 y11 y12 y13 y14 y15  v115 ) (v_A_putInstruction_s1 hk k_968 ⟨Nat.le_of_ble_eq_true rfl, Nat.le_of_ble_eq_true rfl⟩) (pMC_v hK hP hD hC hS hA (ci := 3) (q0 := 0) rfl rfl rfl) rfl rfl hl.1 rfl (lv_room (Nat.le_of_ble_eq_true rfl)) d_A_takeOperation_133 ⟨by decide, by decide⟩) hS hA hD (fun u t H locs ht hB hFr hS => ?_)
                obtain ⟨x0_3z116, x0_4z116, x0_7z116, x9_6z116, y10z116, y11z116, y12z116, y13z116, y14z116, y15z116, hP, hD⟩ := hB
                rw [ht] at hP
                have hD := dwk hD hFr
                clear ht hFr
                have hP : va_P D classes (wS52 K cI cJ cZ cB p0 p1 p2 p3 p4 p5 p6 p7 p8 p9 p10 p11 p12 p13 p14 p15 x0_3z116 x0_4z116 x0_5 x0_6 x0_7z116 x0_8 x0_9 x0_10 x0_11 x0_12 x0_13z1 x0_14z1 x1_1 x1_2 x1_3z86 x1_4 x1_5 x1_6z85 x1_7z85 x1_8z85 y2 x3_5z1 x3_6z1 y4z1 y5z1 y6z1 y7 y8 x9_6z116 y10z116 y11z116 y12z116 y13z116 y14z116 y15z116) H := hP
                have hD : va_D A (wS52 K cI cJ cZ cB p0 p1 p2 p3 p4 p5 p6 p7 p8 p9 p10 p11 p12 p13 p14 p15 x0_3z116 x0_4z116 x0_5 x0_6 x0_7z116 x0_8 x0_9 x0_10 x0_11 x0_12 x0_13z1 x0_14z1 x1_1 x1_2 x1_3z86 x1_4 x1_5 x1_6z85 x1_7z85 x1_8z85 y2 x3_5z1 x3_6z1 y4z1 y5z1 y6z1 y7 y8 x9_6z116 y10z116 y11z116 y12z116 y13z116 y14z116 y15z116) := hD
                exact W.vret hx hb hr (fun t ht hW => ⟨⟨(), rfl, trivial, ⟨x0_3z116, x0_4z116, x0_7z116, x0_13z1, x0_14z1, x1_3z86, x1_6z85, x1_7z85, x1_8z85, x3_5z1, x3_6z1, y4z1, y5z1, y6z1, x9_6z116, y10z116, y11z116, y12z116, y13z116, y14z116, y15z116, by show va_P D classes _ t.heap; rw [ht]; exact hP, hD⟩⟩, hS.F ht⟩) hS.2.2 d_A_takeOperation_136
            · refine lv_aload_n hx hb d_A_takeOperation_99 rfl (lv_at hl 3 rfl) ?_
              refine lv_iconst (v := 4) hx hb d_A_takeOperation_100 (by decide) ?_
              refine sn_i (va_runV (C := "SignMachine$Assembler") (As := [.int (4 : Int32)]) (rest := []) ⟨hx, hb, hml, hown, hk⟩ (c_A_fail_s1 l K D cI cJ cZ cB p0 p1 p2 p3 p4 p5 p6 p7 p8 p9 p10 p11 p12 p13 p14 p15 H.size x0_3z87 x0_4z87 x0_5 x0_6 x0_7 x0_8 x0_9 x0_10 x0_11 x0_12 x0_13z1 x0_14z1 x1_1 x1_2 x1_3z86 x1_4 x1_5 x1_6z85 x1_7z85 x1_8z85 y2 x3_5z1 x3_6z1 y4z1 y5z1 y6z1 y7 y8 x9_6 y10 y11 y12 y13 y14 y15  (4 : Int32) ) (v_A_fail_s1 hk k_767 ⟨Nat.le_of_ble_eq_true rfl, Nat.le_of_ble_eq_true rfl⟩) (pMC_v hK hP hD hC hS hA (ci := 3) (q0 := 0) rfl rfl rfl) rfl rfl hl.1 rfl (lv_room (Nat.le_of_ble_eq_true rfl)) d_A_takeOperation_101 ⟨by decide, by decide⟩) hS hA hD (fun rz117 u t H locs hr0 ht hB hFr hS => ?_)
              obtain ⟨x0_3z117, x0_4z117, hP, hD⟩ := hB
              rw [ht] at hP
              have hD := dwk hD hFr
              clear ht hFr
              have hP : va_P D classes (wS52 K cI cJ cZ cB p0 p1 p2 p3 p4 p5 p6 p7 p8 p9 p10 p11 p12 p13 p14 p15 x0_3z117 x0_4z117 x0_5 x0_6 x0_7 x0_8 x0_9 x0_10 x0_11 x0_12 x0_13z1 x0_14z1 x1_1 x1_2 x1_3z86 x1_4 x1_5 x1_6z85 x1_7z85 x1_8z85 y2 x3_5z1 x3_6z1 y4z1 y5z1 y6z1 y7 y8 x9_6 y10 y11 y12 y13 y14 y15) H := hP
              have hD : va_D A (wS52 K cI cJ cZ cB p0 p1 p2 p3 p4 p5 p6 p7 p8 p9 p10 p11 p12 p13 p14 p15 x0_3z117 x0_4z117 x0_5 x0_6 x0_7 x0_8 x0_9 x0_10 x0_11 x0_12 x0_13z1 x0_14z1 x1_1 x1_2 x1_3z86 x1_4 x1_5 x1_6z85 x1_7z85 x1_8z85 y2 x3_5z1 x3_6z1 y4z1 y5z1 y6z1 y7 y8 x9_6 y10 y11 y12 y13 y14 y15) := hD
              refine lv_pop hx hb d_A_takeOperation_104 rfl ?_
              refine lv_aload_n hx hb d_A_takeOperation_105 rfl (lv_at hl 3 rfl) ?_
              refine va_get (D := D) (ci := 3) (v := .int x0_3z117) (C := "SignMachine$Assembler") (T := F_A) (N := 15) hx hb hk fi_A hown hK.1 hP 0 rfl rfl 3 (by decide) (hk _ k_636) (fun _ h9 => h9) rfl d_A_takeOperation_106 ?_
              refine lv_if_ne (tgt := 136) hx hb d_A_takeOperation_109 (by decide) (fun c118 => ?_) (fun c118 => ?_)
              · exact W.vret hx hb hr (fun t ht hW => ⟨⟨(), rfl, trivial, ⟨x0_3z117, x0_4z117, x0_7, x0_13z1, x0_14z1, x1_3z86, x1_6z85, x1_7z85, x1_8z85, x3_5z1, x3_6z1, y4z1, y5z1, y6z1, x9_6, y10, y11, y12, y13, y14, y15, by show va_P D classes _ t.heap; rw [ht]; exact hP, hD⟩⟩, hS.F ht⟩) hS.2.2 d_A_takeOperation_136
              · refine lv_aload_n hx hb d_A_takeOperation_112 rfl (lv_at hl 3 rfl) ?_
                refine lv_iload_n hx hb d_A_takeOperation_113 rfl (lv_at hl 2 rfl) ?_
                refine cs_i (W.runS (As := [.int rz1]) (rest := [.ref p0]) ⟨hx, hb, hml, hown, hk⟩ (c_A_addressPart l rz1) (s_A_addressPart hk k_1049 ⟨Nat.le_of_ble_eq_true rfl, Nat.le_of_ble_eq_true rfl⟩) ⟨fun a U g mk q => q, fun U hU hW => ⟨rfl, trivial⟩⟩ rfl rfl hl.1 rfl (lv_room (Nat.le_of_ble_eq_true rfl)) d_A_takeOperation_114 ⟨Nat.le_of_ble_eq_true rfl, Nat.le_of_ble_eq_true rfl⟩) ?_
                refine lv_topi (fun v119 hv119 => ?_)
                refine lv_iload_n hx hb d_A_takeOperation_117 rfl (lv_at hl 1 rfl) ?_
                refine lv_bipush (v := 12) hx hb d_A_takeOperation_118 (by decide) ?_
                refine lv_ishl hx hb d_A_takeOperation_120 ?_
                refine tpi (y := (0 : Int32)) (by decide) ?_
                refine lv_ior hx hb d_A_takeOperation_121 ?_
                refine lv_topi (fun v120 hv120 => ?_)
                refine lv_iload hx hb d_A_takeOperation_122 (lv_at hl 0 rfl) ?_
                refine lv_bipush (v := 6) hx hb d_A_takeOperation_124 (by decide) ?_
                refine lv_ishl hx hb d_A_takeOperation_126 ?_
                refine lv_topi (fun v121 hv121 => ?_)
                refine lv_ior hx hb d_A_takeOperation_127 ?_
                refine lv_topi (fun v122 hv122 => ?_)
                refine lv_aload_n hx hb d_A_takeOperation_128 rfl (lv_at hl 3 rfl) ?_
                refine va_get (D := D) (ci := 3) (v := .int x0_12) (C := "SignMachine$Assembler") (T := F_A) (N := 15) hx hb hk fi_A hown hK.1 hP 0 rfl rfl 12 (by decide) (hk _ k_649) (fun _ h9 => h9) rfl d_A_takeOperation_129 ?_
                refine lv_ior hx hb d_A_takeOperation_132 ?_
                refine lv_topi (fun v123 hv123 => ?_)
                refine kn_v (va_runV (C := "SignMachine$Assembler") (As := [.int v123]) (rest := []) ⟨hx, hb, hml, hown, hk⟩ (c_A_putInstruction_s1 l K D cI cJ cZ cB p0 p1 p2 p3 p4 p5 p6 p7 p8 p9 p10 p11 p12 p13 p14 p15 H.size x0_3z117 x0_4z117 x0_5 x0_6 x0_7 x0_8 x0_9 x0_10 x0_11 x0_12 x0_13z1 x0_14z1 x1_1 x1_2 x1_3z86 x1_4 x1_5 x1_6z85 x1_7z85 x1_8z85 y2 x3_5z1 x3_6z1 y4z1 y5z1 y6z1 y7 y8 x9_6 y10 y11 y12 y13 y14 y15  v123 ) (v_A_putInstruction_s1 hk k_968 ⟨Nat.le_of_ble_eq_true rfl, Nat.le_of_ble_eq_true rfl⟩) (pMC_v hK hP hD hC hS hA (ci := 3) (q0 := 0) rfl rfl rfl) rfl rfl hl.1 rfl (lv_room (Nat.le_of_ble_eq_true rfl)) d_A_takeOperation_133 ⟨by decide, by decide⟩) hS hA hD (fun u t H locs ht hB hFr hS => ?_)
                obtain ⟨x0_3z124, x0_4z124, x0_7z124, x9_6z124, y10z124, y11z124, y12z124, y13z124, y14z124, y15z124, hP, hD⟩ := hB
                rw [ht] at hP
                have hD := dwk hD hFr
                clear ht hFr
                have hP : va_P D classes (wS52 K cI cJ cZ cB p0 p1 p2 p3 p4 p5 p6 p7 p8 p9 p10 p11 p12 p13 p14 p15 x0_3z124 x0_4z124 x0_5 x0_6 x0_7z124 x0_8 x0_9 x0_10 x0_11 x0_12 x0_13z1 x0_14z1 x1_1 x1_2 x1_3z86 x1_4 x1_5 x1_6z85 x1_7z85 x1_8z85 y2 x3_5z1 x3_6z1 y4z1 y5z1 y6z1 y7 y8 x9_6z124 y10z124 y11z124 y12z124 y13z124 y14z124 y15z124) H := hP
                have hD : va_D A (wS52 K cI cJ cZ cB p0 p1 p2 p3 p4 p5 p6 p7 p8 p9 p10 p11 p12 p13 p14 p15 x0_3z124 x0_4z124 x0_5 x0_6 x0_7z124 x0_8 x0_9 x0_10 x0_11 x0_12 x0_13z1 x0_14z1 x1_1 x1_2 x1_3z86 x1_4 x1_5 x1_6z85 x1_7z85 x1_8z85 y2 x3_5z1 x3_6z1 y4z1 y5z1 y6z1 y7 y8 x9_6z124 y10z124 y11z124 y12z124 y13z124 y14z124 y15z124) := hD
                exact W.vret hx hb hr (fun t ht hW => ⟨⟨(), rfl, trivial, ⟨x0_3z124, x0_4z124, x0_7z124, x0_13z1, x0_14z1, x1_3z86, x1_6z85, x1_7z85, x1_8z85, x3_5z1, x3_6z1, y4z1, y5z1, y6z1, x9_6z124, y10z124, y11z124, y12z124, y13z124, y14z124, y15z124, by show va_P D classes _ t.heap; rw [ht]; exact hP, hD⟩⟩, hS.F ht⟩) hS.2.2 d_A_takeOperation_136
    · refine lv_aload_n hx hb d_A_takeOperation_29 rfl (lv_at hl 3 rfl) ?_
      refine sn_i (va_runV (C := "SignMachine$Assembler") (As := []) (rest := []) ⟨hx, hb, hml, hown, hk⟩ (c_A_readExp_s1 l K D cI cJ cZ cB p0 p1 p2 p3 p4 p5 p6 p7 p8 p9 p10 p11 p12 p13 p14 p15 H.size x0_3z1 x0_4z1 x0_5 x0_6 x0_7 x0_8 x0_9 x0_10 x0_11 x0_12 x0_13z1 x0_14z1 x1_1 x1_2 x1_3z42 x1_4 x1_5 x1_6z1 x1_7z1 x1_8z1 y2 x3_5z1 x3_6z1 y4z1 y5z1 y6z1 y7 y8 x9_6 y10 y11 y12 y13 y14 y15   ) (v_A_readExp_s1 hk k_989 ⟨Nat.le_of_ble_eq_true rfl, Nat.le_of_ble_eq_true rfl⟩) (pMC_v hK hP hD hC hS hA (ci := 3) (q0 := 0) rfl rfl rfl) rfl rfl hl.1 rfl (lv_room (Nat.le_of_ble_eq_true rfl)) d_A_takeOperation_30 ⟨by decide, by decide⟩) hS hA hD (fun rz125 u t H locs hr0 ht hB hFr hS => ?_)
      obtain ⟨x0_3z125, x0_4z125, x1_3z125, x1_6z125, x1_7z125, x1_8z125, hP, hD⟩ := hB
      rw [ht] at hP
      have hD := dwk hD hFr
      clear ht hFr
      have hP : va_P D classes (wS52 K cI cJ cZ cB p0 p1 p2 p3 p4 p5 p6 p7 p8 p9 p10 p11 p12 p13 p14 p15 x0_3z125 x0_4z125 x0_5 x0_6 x0_7 x0_8 x0_9 x0_10 x0_11 x0_12 x0_13z1 x0_14z1 x1_1 x1_2 x1_3z125 x1_4 x1_5 x1_6z125 x1_7z125 x1_8z125 y2 x3_5z1 x3_6z1 y4z1 y5z1 y6z1 y7 y8 x9_6 y10 y11 y12 y13 y14 y15) H := hP
      have hD : va_D A (wS52 K cI cJ cZ cB p0 p1 p2 p3 p4 p5 p6 p7 p8 p9 p10 p11 p12 p13 p14 p15 x0_3z125 x0_4z125 x0_5 x0_6 x0_7 x0_8 x0_9 x0_10 x0_11 x0_12 x0_13z1 x0_14z1 x1_1 x1_2 x1_3z125 x1_4 x1_5 x1_6z125 x1_7z125 x1_8z125 y2 x3_5z1 x3_6z1 y4z1 y5z1 y6z1 y7 y8 x9_6 y10 y11 y12 y13 y14 y15) := hD
      refine lv_istore_n (lv' := [(3, .int rz125), (4, .int a1), (2, .int rz1), (0, .ref p0), (1, .int a1)]) hx hb d_A_takeOperation_33 rfl hl (by decide) rfl (fun ls hl => ?_)
      refine lv_aload_n hx hb d_A_takeOperation_34 rfl (lv_at hl 3 rfl) ?_
      refine va_get (D := D) (ci := 3) (v := .int x0_3z125) (C := "SignMachine$Assembler") (T := F_A) (N := 15) hx hb hk fi_A hown hK.1 hP 0 rfl rfl 3 (by decide) (hk _ k_636) (fun _ h9 => h9) rfl d_A_takeOperation_35 ?_
      refine lv_if_ne (tgt := 63) hx hb d_A_takeOperation_38 (by decide) (fun c126 => ?_) (fun c126 => ?_)
      · refine lv_aload_n hx hb d_A_takeOperation_63 rfl (lv_at hl 3 rfl) ?_
        refine kn_v (va_runV (C := "SignMachine$Assembler") (As := []) (rest := []) ⟨hx, hb, hml, hown, hk⟩ (c_A_expectEnd_s1 l K D cI cJ cZ cB p0 p1 p2 p3 p4 p5 p6 p7 p8 p9 p10 p11 p12 p13 p14 p15 H.size x0_3z125 x0_4z125 x0_5 x0_6 x0_7 x0_8 x0_9 x0_10 x0_11 x0_12 x0_13z1 x0_14z1 x1_1 x1_2 x1_3z125 x1_4 x1_5 x1_6z125 x1_7z125 x1_8z125 y2 x3_5z1 x3_6z1 y4z1 y5z1 y6z1 y7 y8 x9_6 y10 y11 y12 y13 y14 y15   ) (v_A_expectEnd_s1 hk k_1044 ⟨Nat.le_of_ble_eq_true rfl, Nat.le_of_ble_eq_true rfl⟩) (pMC_v hK hP hD hC hS hA (ci := 3) (q0 := 0) rfl rfl rfl) rfl rfl hl.1 rfl (lv_room (Nat.le_of_ble_eq_true rfl)) d_A_takeOperation_64 ⟨by decide, by decide⟩) hS hA hD (fun u t H locs ht hB hFr hS => ?_)
        obtain ⟨x0_3z127, x0_4z127, hP, hD⟩ := hB
        rw [ht] at hP
        have hD := dwk hD hFr
        clear ht hFr
        have hP : va_P D classes (wS52 K cI cJ cZ cB p0 p1 p2 p3 p4 p5 p6 p7 p8 p9 p10 p11 p12 p13 p14 p15 x0_3z127 x0_4z127 x0_5 x0_6 x0_7 x0_8 x0_9 x0_10 x0_11 x0_12 x0_13z1 x0_14z1 x1_1 x1_2 x1_3z125 x1_4 x1_5 x1_6z125 x1_7z125 x1_8z125 y2 x3_5z1 x3_6z1 y4z1 y5z1 y6z1 y7 y8 x9_6 y10 y11 y12 y13 y14 y15) H := hP
        have hD : va_D A (wS52 K cI cJ cZ cB p0 p1 p2 p3 p4 p5 p6 p7 p8 p9 p10 p11 p12 p13 p14 p15 x0_3z127 x0_4z127 x0_5 x0_6 x0_7 x0_8 x0_9 x0_10 x0_11 x0_12 x0_13z1 x0_14z1 x1_1 x1_2 x1_3z125 x1_4 x1_5 x1_6z125 x1_7z125 x1_8z125 y2 x3_5z1 x3_6z1 y4z1 y5z1 y6z1 y7 y8 x9_6 y10 y11 y12 y13 y14 y15) := hD
        refine lv_iload_n hx hb d_A_takeOperation_67 rfl (lv_at hl 2 rfl) ?_
        refine va_mabs hx hb (hml.trans hl.1.symm) hown (hk _ k_1048) (hk _ k_331) (hk _ k_121) (hk _ k_absc) (Nat.le_of_ble_eq_true rfl) (Nat.le_of_ble_eq_true rfl) (Nat.zero_le _) (Nat.zero_le _) d_A_takeOperation_68 ?_
        refine lv_topi (fun v128 hv128 => ?_)
        refine lv_sipush (v := 4095) hx hb d_A_takeOperation_71 (by decide) ?_
        refine lv_icmp_gt (tgt := 99) hx hb d_A_takeOperation_74 (by decide) (fun c129 => ?_) (fun c129 => ?_)
        · refine lv_aload_n hx hb d_A_takeOperation_99 rfl (lv_at hl 3 rfl) ?_
          refine lv_iconst (v := 4) hx hb d_A_takeOperation_100 (by decide) ?_
          refine sn_i (va_runV (C := "SignMachine$Assembler") (As := [.int (4 : Int32)]) (rest := []) ⟨hx, hb, hml, hown, hk⟩ (c_A_fail_s1 l K D cI cJ cZ cB p0 p1 p2 p3 p4 p5 p6 p7 p8 p9 p10 p11 p12 p13 p14 p15 H.size x0_3z127 x0_4z127 x0_5 x0_6 x0_7 x0_8 x0_9 x0_10 x0_11 x0_12 x0_13z1 x0_14z1 x1_1 x1_2 x1_3z125 x1_4 x1_5 x1_6z125 x1_7z125 x1_8z125 y2 x3_5z1 x3_6z1 y4z1 y5z1 y6z1 y7 y8 x9_6 y10 y11 y12 y13 y14 y15  (4 : Int32) ) (v_A_fail_s1 hk k_767 ⟨Nat.le_of_ble_eq_true rfl, Nat.le_of_ble_eq_true rfl⟩) (pMC_v hK hP hD hC hS hA (ci := 3) (q0 := 0) rfl rfl rfl) rfl rfl hl.1 rfl (lv_room (Nat.le_of_ble_eq_true rfl)) d_A_takeOperation_101 ⟨by decide, by decide⟩) hS hA hD (fun rz130 u t H locs hr0 ht hB hFr hS => ?_)
          obtain ⟨x0_3z130, x0_4z130, hP, hD⟩ := hB
          rw [ht] at hP
          have hD := dwk hD hFr
          clear ht hFr
          have hP : va_P D classes (wS52 K cI cJ cZ cB p0 p1 p2 p3 p4 p5 p6 p7 p8 p9 p10 p11 p12 p13 p14 p15 x0_3z130 x0_4z130 x0_5 x0_6 x0_7 x0_8 x0_9 x0_10 x0_11 x0_12 x0_13z1 x0_14z1 x1_1 x1_2 x1_3z125 x1_4 x1_5 x1_6z125 x1_7z125 x1_8z125 y2 x3_5z1 x3_6z1 y4z1 y5z1 y6z1 y7 y8 x9_6 y10 y11 y12 y13 y14 y15) H := hP
          have hD : va_D A (wS52 K cI cJ cZ cB p0 p1 p2 p3 p4 p5 p6 p7 p8 p9 p10 p11 p12 p13 p14 p15 x0_3z130 x0_4z130 x0_5 x0_6 x0_7 x0_8 x0_9 x0_10 x0_11 x0_12 x0_13z1 x0_14z1 x1_1 x1_2 x1_3z125 x1_4 x1_5 x1_6z125 x1_7z125 x1_8z125 y2 x3_5z1 x3_6z1 y4z1 y5z1 y6z1 y7 y8 x9_6 y10 y11 y12 y13 y14 y15) := hD
          refine lv_pop hx hb d_A_takeOperation_104 rfl ?_
          refine lv_aload_n hx hb d_A_takeOperation_105 rfl (lv_at hl 3 rfl) ?_
          refine va_get (D := D) (ci := 3) (v := .int x0_3z130) (C := "SignMachine$Assembler") (T := F_A) (N := 15) hx hb hk fi_A hown hK.1 hP 0 rfl rfl 3 (by decide) (hk _ k_636) (fun _ h9 => h9) rfl d_A_takeOperation_106 ?_
          refine lv_if_ne (tgt := 136) hx hb d_A_takeOperation_109 (by decide) (fun c131 => ?_) (fun c131 => ?_)
          · exact W.vret hx hb hr (fun t ht hW => ⟨⟨(), rfl, trivial, ⟨x0_3z130, x0_4z130, x0_7, x0_13z1, x0_14z1, x1_3z125, x1_6z125, x1_7z125, x1_8z125, x3_5z1, x3_6z1, y4z1, y5z1, y6z1, x9_6, y10, y11, y12, y13, y14, y15, by show va_P D classes _ t.heap; rw [ht]; exact hP, hD⟩⟩, hS.F ht⟩) hS.2.2 d_A_takeOperation_136
          · refine lv_aload_n hx hb d_A_takeOperation_112 rfl (lv_at hl 3 rfl) ?_
            refine lv_iload_n hx hb d_A_takeOperation_113 rfl (lv_at hl 2 rfl) ?_
            refine cs_i (W.runS (As := [.int rz1]) (rest := [.ref p0]) ⟨hx, hb, hml, hown, hk⟩ (c_A_addressPart l rz1) (s_A_addressPart hk k_1049 ⟨Nat.le_of_ble_eq_true rfl, Nat.le_of_ble_eq_true rfl⟩) ⟨fun a U g mk q => q, fun U hU hW => ⟨rfl, trivial⟩⟩ rfl rfl hl.1 rfl (lv_room (Nat.le_of_ble_eq_true rfl)) d_A_takeOperation_114 ⟨Nat.le_of_ble_eq_true rfl, Nat.le_of_ble_eq_true rfl⟩) ?_
            refine lv_topi (fun v132 hv132 => ?_)
            refine lv_iload_n hx hb d_A_takeOperation_117 rfl (lv_at hl 0 rfl) ?_
            refine lv_bipush (v := 12) hx hb d_A_takeOperation_118 (by decide) ?_
            refine lv_ishl hx hb d_A_takeOperation_120 ?_
            refine lv_topi (fun v133 hv133 => ?_)
            refine lv_ior hx hb d_A_takeOperation_121 ?_
            refine lv_topi (fun v134 hv134 => ?_)
            refine lv_iload hx hb d_A_takeOperation_122 (lv_at hl 1 rfl) ?_
            refine lv_bipush (v := 6) hx hb d_A_takeOperation_124 (by decide) ?_
            refine lv_ishl hx hb d_A_takeOperation_126 ?_
            refine lv_topi (fun v135 hv135 => ?_)
            refine lv_ior hx hb d_A_takeOperation_127 ?_
            refine lv_topi (fun v136 hv136 => ?_)
            refine lv_aload_n hx hb d_A_takeOperation_128 rfl (lv_at hl 3 rfl) ?_
            refine va_get (D := D) (ci := 3) (v := .int x0_12) (C := "SignMachine$Assembler") (T := F_A) (N := 15) hx hb hk fi_A hown hK.1 hP 0 rfl rfl 12 (by decide) (hk _ k_649) (fun _ h9 => h9) rfl d_A_takeOperation_129 ?_
            refine lv_ior hx hb d_A_takeOperation_132 ?_
            refine lv_topi (fun v137 hv137 => ?_)
            refine kn_v (va_runV (C := "SignMachine$Assembler") (As := [.int v137]) (rest := []) ⟨hx, hb, hml, hown, hk⟩ (c_A_putInstruction_s1 l K D cI cJ cZ cB p0 p1 p2 p3 p4 p5 p6 p7 p8 p9 p10 p11 p12 p13 p14 p15 H.size x0_3z130 x0_4z130 x0_5 x0_6 x0_7 x0_8 x0_9 x0_10 x0_11 x0_12 x0_13z1 x0_14z1 x1_1 x1_2 x1_3z125 x1_4 x1_5 x1_6z125 x1_7z125 x1_8z125 y2 x3_5z1 x3_6z1 y4z1 y5z1 y6z1 y7 y8 x9_6 y10 y11 y12 y13 y14 y15  v137 ) (v_A_putInstruction_s1 hk k_968 ⟨Nat.le_of_ble_eq_true rfl, Nat.le_of_ble_eq_true rfl⟩) (pMC_v hK hP hD hC hS hA (ci := 3) (q0 := 0) rfl rfl rfl) rfl rfl hl.1 rfl (lv_room (Nat.le_of_ble_eq_true rfl)) d_A_takeOperation_133 ⟨by decide, by decide⟩) hS hA hD (fun u t H locs ht hB hFr hS => ?_)
            obtain ⟨x0_3z138, x0_4z138, x0_7z138, x9_6z138, y10z138, y11z138, y12z138, y13z138, y14z138, y15z138, hP, hD⟩ := hB
            rw [ht] at hP
            have hD := dwk hD hFr
            clear ht hFr
            have hP : va_P D classes (wS52 K cI cJ cZ cB p0 p1 p2 p3 p4 p5 p6 p7 p8 p9 p10 p11 p12 p13 p14 p15 x0_3z138 x0_4z138 x0_5 x0_6 x0_7z138 x0_8 x0_9 x0_10 x0_11 x0_12 x0_13z1 x0_14z1 x1_1 x1_2 x1_3z125 x1_4 x1_5 x1_6z125 x1_7z125 x1_8z125 y2 x3_5z1 x3_6z1 y4z1 y5z1 y6z1 y7 y8 x9_6z138 y10z138 y11z138 y12z138 y13z138 y14z138 y15z138) H := hP
            have hD : va_D A (wS52 K cI cJ cZ cB p0 p1 p2 p3 p4 p5 p6 p7 p8 p9 p10 p11 p12 p13 p14 p15 x0_3z138 x0_4z138 x0_5 x0_6 x0_7z138 x0_8 x0_9 x0_10 x0_11 x0_12 x0_13z1 x0_14z1 x1_1 x1_2 x1_3z125 x1_4 x1_5 x1_6z125 x1_7z125 x1_8z125 y2 x3_5z1 x3_6z1 y4z1 y5z1 y6z1 y7 y8 x9_6z138 y10z138 y11z138 y12z138 y13z138 y14z138 y15z138) := hD
            exact W.vret hx hb hr (fun t ht hW => ⟨⟨(), rfl, trivial, ⟨x0_3z138, x0_4z138, x0_7z138, x0_13z1, x0_14z1, x1_3z125, x1_6z125, x1_7z125, x1_8z125, x3_5z1, x3_6z1, y4z1, y5z1, y6z1, x9_6z138, y10z138, y11z138, y12z138, y13z138, y14z138, y15z138, by show va_P D classes _ t.heap; rw [ht]; exact hP, hD⟩⟩, hS.F ht⟩) hS.2.2 d_A_takeOperation_136
        · refine lv_iload_n hx hb d_A_takeOperation_77 rfl (lv_at hl 0 rfl) ?_
          refine lv_if_lt (tgt := 99) hx hb d_A_takeOperation_78 (by decide) (fun c139 => ?_) (fun c139 => ?_)
          · refine lv_aload_n hx hb d_A_takeOperation_99 rfl (lv_at hl 3 rfl) ?_
            refine lv_iconst (v := 4) hx hb d_A_takeOperation_100 (by decide) ?_
            refine sn_i (va_runV (C := "SignMachine$Assembler") (As := [.int (4 : Int32)]) (rest := []) ⟨hx, hb, hml, hown, hk⟩ (c_A_fail_s1 l K D cI cJ cZ cB p0 p1 p2 p3 p4 p5 p6 p7 p8 p9 p10 p11 p12 p13 p14 p15 H.size x0_3z127 x0_4z127 x0_5 x0_6 x0_7 x0_8 x0_9 x0_10 x0_11 x0_12 x0_13z1 x0_14z1 x1_1 x1_2 x1_3z125 x1_4 x1_5 x1_6z125 x1_7z125 x1_8z125 y2 x3_5z1 x3_6z1 y4z1 y5z1 y6z1 y7 y8 x9_6 y10 y11 y12 y13 y14 y15  (4 : Int32) ) (v_A_fail_s1 hk k_767 ⟨Nat.le_of_ble_eq_true rfl, Nat.le_of_ble_eq_true rfl⟩) (pMC_v hK hP hD hC hS hA (ci := 3) (q0 := 0) rfl rfl rfl) rfl rfl hl.1 rfl (lv_room (Nat.le_of_ble_eq_true rfl)) d_A_takeOperation_101 ⟨by decide, by decide⟩) hS hA hD (fun rz140 u t H locs hr0 ht hB hFr hS => ?_)
            obtain ⟨x0_3z140, x0_4z140, hP, hD⟩ := hB
            rw [ht] at hP
            have hD := dwk hD hFr
            clear ht hFr
            have hP : va_P D classes (wS52 K cI cJ cZ cB p0 p1 p2 p3 p4 p5 p6 p7 p8 p9 p10 p11 p12 p13 p14 p15 x0_3z140 x0_4z140 x0_5 x0_6 x0_7 x0_8 x0_9 x0_10 x0_11 x0_12 x0_13z1 x0_14z1 x1_1 x1_2 x1_3z125 x1_4 x1_5 x1_6z125 x1_7z125 x1_8z125 y2 x3_5z1 x3_6z1 y4z1 y5z1 y6z1 y7 y8 x9_6 y10 y11 y12 y13 y14 y15) H := hP
            have hD : va_D A (wS52 K cI cJ cZ cB p0 p1 p2 p3 p4 p5 p6 p7 p8 p9 p10 p11 p12 p13 p14 p15 x0_3z140 x0_4z140 x0_5 x0_6 x0_7 x0_8 x0_9 x0_10 x0_11 x0_12 x0_13z1 x0_14z1 x1_1 x1_2 x1_3z125 x1_4 x1_5 x1_6z125 x1_7z125 x1_8z125 y2 x3_5z1 x3_6z1 y4z1 y5z1 y6z1 y7 y8 x9_6 y10 y11 y12 y13 y14 y15) := hD
            refine lv_pop hx hb d_A_takeOperation_104 rfl ?_
            refine lv_aload_n hx hb d_A_takeOperation_105 rfl (lv_at hl 3 rfl) ?_
            refine va_get (D := D) (ci := 3) (v := .int x0_3z140) (C := "SignMachine$Assembler") (T := F_A) (N := 15) hx hb hk fi_A hown hK.1 hP 0 rfl rfl 3 (by decide) (hk _ k_636) (fun _ h9 => h9) rfl d_A_takeOperation_106 ?_
            refine lv_if_ne (tgt := 136) hx hb d_A_takeOperation_109 (by decide) (fun c141 => ?_) (fun c141 => ?_)
            · exact W.vret hx hb hr (fun t ht hW => ⟨⟨(), rfl, trivial, ⟨x0_3z140, x0_4z140, x0_7, x0_13z1, x0_14z1, x1_3z125, x1_6z125, x1_7z125, x1_8z125, x3_5z1, x3_6z1, y4z1, y5z1, y6z1, x9_6, y10, y11, y12, y13, y14, y15, by show va_P D classes _ t.heap; rw [ht]; exact hP, hD⟩⟩, hS.F ht⟩) hS.2.2 d_A_takeOperation_136
            · refine lv_aload_n hx hb d_A_takeOperation_112 rfl (lv_at hl 3 rfl) ?_
              refine lv_iload_n hx hb d_A_takeOperation_113 rfl (lv_at hl 2 rfl) ?_
              refine cs_i (W.runS (As := [.int rz1]) (rest := [.ref p0]) ⟨hx, hb, hml, hown, hk⟩ (c_A_addressPart l rz1) (s_A_addressPart hk k_1049 ⟨Nat.le_of_ble_eq_true rfl, Nat.le_of_ble_eq_true rfl⟩) ⟨fun a U g mk q => q, fun U hU hW => ⟨rfl, trivial⟩⟩ rfl rfl hl.1 rfl (lv_room (Nat.le_of_ble_eq_true rfl)) d_A_takeOperation_114 ⟨Nat.le_of_ble_eq_true rfl, Nat.le_of_ble_eq_true rfl⟩) ?_
              refine lv_topi (fun v142 hv142 => ?_)
              refine lv_iload_n hx hb d_A_takeOperation_117 rfl (lv_at hl 0 rfl) ?_
              refine lv_bipush (v := 12) hx hb d_A_takeOperation_118 (by decide) ?_
              refine lv_ishl hx hb d_A_takeOperation_120 ?_
              refine lv_topi (fun v143 hv143 => ?_)
              refine lv_ior hx hb d_A_takeOperation_121 ?_
              refine lv_topi (fun v144 hv144 => ?_)
              refine lv_iload hx hb d_A_takeOperation_122 (lv_at hl 1 rfl) ?_
              refine lv_bipush (v := 6) hx hb d_A_takeOperation_124 (by decide) ?_
              refine lv_ishl hx hb d_A_takeOperation_126 ?_
              refine lv_topi (fun v145 hv145 => ?_)
              refine lv_ior hx hb d_A_takeOperation_127 ?_
              refine lv_topi (fun v146 hv146 => ?_)
              refine lv_aload_n hx hb d_A_takeOperation_128 rfl (lv_at hl 3 rfl) ?_
              refine va_get (D := D) (ci := 3) (v := .int x0_12) (C := "SignMachine$Assembler") (T := F_A) (N := 15) hx hb hk fi_A hown hK.1 hP 0 rfl rfl 12 (by decide) (hk _ k_649) (fun _ h9 => h9) rfl d_A_takeOperation_129 ?_
              refine lv_ior hx hb d_A_takeOperation_132 ?_
              refine lv_topi (fun v147 hv147 => ?_)
              refine kn_v (va_runV (C := "SignMachine$Assembler") (As := [.int v147]) (rest := []) ⟨hx, hb, hml, hown, hk⟩ (c_A_putInstruction_s1 l K D cI cJ cZ cB p0 p1 p2 p3 p4 p5 p6 p7 p8 p9 p10 p11 p12 p13 p14 p15 H.size x0_3z140 x0_4z140 x0_5 x0_6 x0_7 x0_8 x0_9 x0_10 x0_11 x0_12 x0_13z1 x0_14z1 x1_1 x1_2 x1_3z125 x1_4 x1_5 x1_6z125 x1_7z125 x1_8z125 y2 x3_5z1 x3_6z1 y4z1 y5z1 y6z1 y7 y8 x9_6 y10 y11 y12 y13 y14 y15  v147 ) (v_A_putInstruction_s1 hk k_968 ⟨Nat.le_of_ble_eq_true rfl, Nat.le_of_ble_eq_true rfl⟩) (pMC_v hK hP hD hC hS hA (ci := 3) (q0 := 0) rfl rfl rfl) rfl rfl hl.1 rfl (lv_room (Nat.le_of_ble_eq_true rfl)) d_A_takeOperation_133 ⟨by decide, by decide⟩) hS hA hD (fun u t H locs ht hB hFr hS => ?_)
              obtain ⟨x0_3z148, x0_4z148, x0_7z148, x9_6z148, y10z148, y11z148, y12z148, y13z148, y14z148, y15z148, hP, hD⟩ := hB
              rw [ht] at hP
              have hD := dwk hD hFr
              clear ht hFr
              have hP : va_P D classes (wS52 K cI cJ cZ cB p0 p1 p2 p3 p4 p5 p6 p7 p8 p9 p10 p11 p12 p13 p14 p15 x0_3z148 x0_4z148 x0_5 x0_6 x0_7z148 x0_8 x0_9 x0_10 x0_11 x0_12 x0_13z1 x0_14z1 x1_1 x1_2 x1_3z125 x1_4 x1_5 x1_6z125 x1_7z125 x1_8z125 y2 x3_5z1 x3_6z1 y4z1 y5z1 y6z1 y7 y8 x9_6z148 y10z148 y11z148 y12z148 y13z148 y14z148 y15z148) H := hP
              have hD : va_D A (wS52 K cI cJ cZ cB p0 p1 p2 p3 p4 p5 p6 p7 p8 p9 p10 p11 p12 p13 p14 p15 x0_3z148 x0_4z148 x0_5 x0_6 x0_7z148 x0_8 x0_9 x0_10 x0_11 x0_12 x0_13z1 x0_14z1 x1_1 x1_2 x1_3z125 x1_4 x1_5 x1_6z125 x1_7z125 x1_8z125 y2 x3_5z1 x3_6z1 y4z1 y5z1 y6z1 y7 y8 x9_6z148 y10z148 y11z148 y12z148 y13z148 y14z148 y15z148) := hD
              exact W.vret hx hb hr (fun t ht hW => ⟨⟨(), rfl, trivial, ⟨x0_3z148, x0_4z148, x0_7z148, x0_13z1, x0_14z1, x1_3z125, x1_6z125, x1_7z125, x1_8z125, x3_5z1, x3_6z1, y4z1, y5z1, y6z1, x9_6z148, y10z148, y11z148, y12z148, y13z148, y14z148, y15z148, by show va_P D classes _ t.heap; rw [ht]; exact hP, hD⟩⟩, hS.F ht⟩) hS.2.2 d_A_takeOperation_136
          · refine lv_iload_n hx hb d_A_takeOperation_81 rfl (lv_at hl 0 rfl) ?_
            refine lv_bipush (v := 6) hx hb d_A_takeOperation_82 (by decide) ?_
            refine lv_icmp_gt (tgt := 99) hx hb d_A_takeOperation_84 (by decide) (fun c149 => ?_) (fun c149 => ?_)
            · refine lv_aload_n hx hb d_A_takeOperation_99 rfl (lv_at hl 3 rfl) ?_
              refine lv_iconst (v := 4) hx hb d_A_takeOperation_100 (by decide) ?_
              refine sn_i (va_runV (C := "SignMachine$Assembler") (As := [.int (4 : Int32)]) (rest := []) ⟨hx, hb, hml, hown, hk⟩ (c_A_fail_s1 l K D cI cJ cZ cB p0 p1 p2 p3 p4 p5 p6 p7 p8 p9 p10 p11 p12 p13 p14 p15 H.size x0_3z127 x0_4z127 x0_5 x0_6 x0_7 x0_8 x0_9 x0_10 x0_11 x0_12 x0_13z1 x0_14z1 x1_1 x1_2 x1_3z125 x1_4 x1_5 x1_6z125 x1_7z125 x1_8z125 y2 x3_5z1 x3_6z1 y4z1 y5z1 y6z1 y7 y8 x9_6 y10 y11 y12 y13 y14 y15  (4 : Int32) ) (v_A_fail_s1 hk k_767 ⟨Nat.le_of_ble_eq_true rfl, Nat.le_of_ble_eq_true rfl⟩) (pMC_v hK hP hD hC hS hA (ci := 3) (q0 := 0) rfl rfl rfl) rfl rfl hl.1 rfl (lv_room (Nat.le_of_ble_eq_true rfl)) d_A_takeOperation_101 ⟨by decide, by decide⟩) hS hA hD (fun rz150 u t H locs hr0 ht hB hFr hS => ?_)
              obtain ⟨x0_3z150, x0_4z150, hP, hD⟩ := hB
              rw [ht] at hP
              have hD := dwk hD hFr
              clear ht hFr
              have hP : va_P D classes (wS52 K cI cJ cZ cB p0 p1 p2 p3 p4 p5 p6 p7 p8 p9 p10 p11 p12 p13 p14 p15 x0_3z150 x0_4z150 x0_5 x0_6 x0_7 x0_8 x0_9 x0_10 x0_11 x0_12 x0_13z1 x0_14z1 x1_1 x1_2 x1_3z125 x1_4 x1_5 x1_6z125 x1_7z125 x1_8z125 y2 x3_5z1 x3_6z1 y4z1 y5z1 y6z1 y7 y8 x9_6 y10 y11 y12 y13 y14 y15) H := hP
              have hD : va_D A (wS52 K cI cJ cZ cB p0 p1 p2 p3 p4 p5 p6 p7 p8 p9 p10 p11 p12 p13 p14 p15 x0_3z150 x0_4z150 x0_5 x0_6 x0_7 x0_8 x0_9 x0_10 x0_11 x0_12 x0_13z1 x0_14z1 x1_1 x1_2 x1_3z125 x1_4 x1_5 x1_6z125 x1_7z125 x1_8z125 y2 x3_5z1 x3_6z1 y4z1 y5z1 y6z1 y7 y8 x9_6 y10 y11 y12 y13 y14 y15) := hD
              refine lv_pop hx hb d_A_takeOperation_104 rfl ?_
              refine lv_aload_n hx hb d_A_takeOperation_105 rfl (lv_at hl 3 rfl) ?_
              refine va_get (D := D) (ci := 3) (v := .int x0_3z150) (C := "SignMachine$Assembler") (T := F_A) (N := 15) hx hb hk fi_A hown hK.1 hP 0 rfl rfl 3 (by decide) (hk _ k_636) (fun _ h9 => h9) rfl d_A_takeOperation_106 ?_
              refine lv_if_ne (tgt := 136) hx hb d_A_takeOperation_109 (by decide) (fun c151 => ?_) (fun c151 => ?_)
              · exact W.vret hx hb hr (fun t ht hW => ⟨⟨(), rfl, trivial, ⟨x0_3z150, x0_4z150, x0_7, x0_13z1, x0_14z1, x1_3z125, x1_6z125, x1_7z125, x1_8z125, x3_5z1, x3_6z1, y4z1, y5z1, y6z1, x9_6, y10, y11, y12, y13, y14, y15, by show va_P D classes _ t.heap; rw [ht]; exact hP, hD⟩⟩, hS.F ht⟩) hS.2.2 d_A_takeOperation_136
              · refine lv_aload_n hx hb d_A_takeOperation_112 rfl (lv_at hl 3 rfl) ?_
                refine lv_iload_n hx hb d_A_takeOperation_113 rfl (lv_at hl 2 rfl) ?_
                refine cs_i (W.runS (As := [.int rz1]) (rest := [.ref p0]) ⟨hx, hb, hml, hown, hk⟩ (c_A_addressPart l rz1) (s_A_addressPart hk k_1049 ⟨Nat.le_of_ble_eq_true rfl, Nat.le_of_ble_eq_true rfl⟩) ⟨fun a U g mk q => q, fun U hU hW => ⟨rfl, trivial⟩⟩ rfl rfl hl.1 rfl (lv_room (Nat.le_of_ble_eq_true rfl)) d_A_takeOperation_114 ⟨Nat.le_of_ble_eq_true rfl, Nat.le_of_ble_eq_true rfl⟩) ?_
                refine lv_topi (fun v152 hv152 => ?_)
                refine lv_iload_n hx hb d_A_takeOperation_117 rfl (lv_at hl 0 rfl) ?_
                refine lv_bipush (v := 12) hx hb d_A_takeOperation_118 (by decide) ?_
                refine lv_ishl hx hb d_A_takeOperation_120 ?_
                refine lv_topi (fun v153 hv153 => ?_)
                refine lv_ior hx hb d_A_takeOperation_121 ?_
                refine lv_topi (fun v154 hv154 => ?_)
                refine lv_iload hx hb d_A_takeOperation_122 (lv_at hl 1 rfl) ?_
                refine lv_bipush (v := 6) hx hb d_A_takeOperation_124 (by decide) ?_
                refine lv_ishl hx hb d_A_takeOperation_126 ?_
                refine lv_topi (fun v155 hv155 => ?_)
                refine lv_ior hx hb d_A_takeOperation_127 ?_
                refine lv_topi (fun v156 hv156 => ?_)
                refine lv_aload_n hx hb d_A_takeOperation_128 rfl (lv_at hl 3 rfl) ?_
                refine va_get (D := D) (ci := 3) (v := .int x0_12) (C := "SignMachine$Assembler") (T := F_A) (N := 15) hx hb hk fi_A hown hK.1 hP 0 rfl rfl 12 (by decide) (hk _ k_649) (fun _ h9 => h9) rfl d_A_takeOperation_129 ?_
                refine lv_ior hx hb d_A_takeOperation_132 ?_
                refine lv_topi (fun v157 hv157 => ?_)
                refine kn_v (va_runV (C := "SignMachine$Assembler") (As := [.int v157]) (rest := []) ⟨hx, hb, hml, hown, hk⟩ (c_A_putInstruction_s1 l K D cI cJ cZ cB p0 p1 p2 p3 p4 p5 p6 p7 p8 p9 p10 p11 p12 p13 p14 p15 H.size x0_3z150 x0_4z150 x0_5 x0_6 x0_7 x0_8 x0_9 x0_10 x0_11 x0_12 x0_13z1 x0_14z1 x1_1 x1_2 x1_3z125 x1_4 x1_5 x1_6z125 x1_7z125 x1_8z125 y2 x3_5z1 x3_6z1 y4z1 y5z1 y6z1 y7 y8 x9_6 y10 y11 y12 y13 y14 y15  v157 ) (v_A_putInstruction_s1 hk k_968 ⟨Nat.le_of_ble_eq_true rfl, Nat.le_of_ble_eq_true rfl⟩) (pMC_v hK hP hD hC hS hA (ci := 3) (q0 := 0) rfl rfl rfl) rfl rfl hl.1 rfl (lv_room (Nat.le_of_ble_eq_true rfl)) d_A_takeOperation_133 ⟨by decide, by decide⟩) hS hA hD (fun u t H locs ht hB hFr hS => ?_)
                obtain ⟨x0_3z158, x0_4z158, x0_7z158, x9_6z158, y10z158, y11z158, y12z158, y13z158, y14z158, y15z158, hP, hD⟩ := hB
                rw [ht] at hP
                have hD := dwk hD hFr
                clear ht hFr
                have hP : va_P D classes (wS52 K cI cJ cZ cB p0 p1 p2 p3 p4 p5 p6 p7 p8 p9 p10 p11 p12 p13 p14 p15 x0_3z158 x0_4z158 x0_5 x0_6 x0_7z158 x0_8 x0_9 x0_10 x0_11 x0_12 x0_13z1 x0_14z1 x1_1 x1_2 x1_3z125 x1_4 x1_5 x1_6z125 x1_7z125 x1_8z125 y2 x3_5z1 x3_6z1 y4z1 y5z1 y6z1 y7 y8 x9_6z158 y10z158 y11z158 y12z158 y13z158 y14z158 y15z158) H := hP
                have hD : va_D A (wS52 K cI cJ cZ cB p0 p1 p2 p3 p4 p5 p6 p7 p8 p9 p10 p11 p12 p13 p14 p15 x0_3z158 x0_4z158 x0_5 x0_6 x0_7z158 x0_8 x0_9 x0_10 x0_11 x0_12 x0_13z1 x0_14z1 x1_1 x1_2 x1_3z125 x1_4 x1_5 x1_6z125 x1_7z125 x1_8z125 y2 x3_5z1 x3_6z1 y4z1 y5z1 y6z1 y7 y8 x9_6z158 y10z158 y11z158 y12z158 y13z158 y14z158 y15z158) := hD
                exact W.vret hx hb hr (fun t ht hW => ⟨⟨(), rfl, trivial, ⟨x0_3z158, x0_4z158, x0_7z158, x0_13z1, x0_14z1, x1_3z125, x1_6z125, x1_7z125, x1_8z125, x3_5z1, x3_6z1, y4z1, y5z1, y6z1, x9_6z158, y10z158, y11z158, y12z158, y13z158, y14z158, y15z158, by show va_P D classes _ t.heap; rw [ht]; exact hP, hD⟩⟩, hS.F ht⟩) hS.2.2 d_A_takeOperation_136
            · refine lv_iload hx hb d_A_takeOperation_87 (lv_at hl 1 rfl) ?_
              refine lv_if_lt (tgt := 99) hx hb d_A_takeOperation_89 (by decide) (fun c159 => ?_) (fun c159 => ?_)
              · refine lv_aload_n hx hb d_A_takeOperation_99 rfl (lv_at hl 3 rfl) ?_
                refine lv_iconst (v := 4) hx hb d_A_takeOperation_100 (by decide) ?_
                refine sn_i (va_runV (C := "SignMachine$Assembler") (As := [.int (4 : Int32)]) (rest := []) ⟨hx, hb, hml, hown, hk⟩ (c_A_fail_s1 l K D cI cJ cZ cB p0 p1 p2 p3 p4 p5 p6 p7 p8 p9 p10 p11 p12 p13 p14 p15 H.size x0_3z127 x0_4z127 x0_5 x0_6 x0_7 x0_8 x0_9 x0_10 x0_11 x0_12 x0_13z1 x0_14z1 x1_1 x1_2 x1_3z125 x1_4 x1_5 x1_6z125 x1_7z125 x1_8z125 y2 x3_5z1 x3_6z1 y4z1 y5z1 y6z1 y7 y8 x9_6 y10 y11 y12 y13 y14 y15  (4 : Int32) ) (v_A_fail_s1 hk k_767 ⟨Nat.le_of_ble_eq_true rfl, Nat.le_of_ble_eq_true rfl⟩) (pMC_v hK hP hD hC hS hA (ci := 3) (q0 := 0) rfl rfl rfl) rfl rfl hl.1 rfl (lv_room (Nat.le_of_ble_eq_true rfl)) d_A_takeOperation_101 ⟨by decide, by decide⟩) hS hA hD (fun rz160 u t H locs hr0 ht hB hFr hS => ?_)
                obtain ⟨x0_3z160, x0_4z160, hP, hD⟩ := hB
                rw [ht] at hP
                have hD := dwk hD hFr
                clear ht hFr
                have hP : va_P D classes (wS52 K cI cJ cZ cB p0 p1 p2 p3 p4 p5 p6 p7 p8 p9 p10 p11 p12 p13 p14 p15 x0_3z160 x0_4z160 x0_5 x0_6 x0_7 x0_8 x0_9 x0_10 x0_11 x0_12 x0_13z1 x0_14z1 x1_1 x1_2 x1_3z125 x1_4 x1_5 x1_6z125 x1_7z125 x1_8z125 y2 x3_5z1 x3_6z1 y4z1 y5z1 y6z1 y7 y8 x9_6 y10 y11 y12 y13 y14 y15) H := hP
                have hD : va_D A (wS52 K cI cJ cZ cB p0 p1 p2 p3 p4 p5 p6 p7 p8 p9 p10 p11 p12 p13 p14 p15 x0_3z160 x0_4z160 x0_5 x0_6 x0_7 x0_8 x0_9 x0_10 x0_11 x0_12 x0_13z1 x0_14z1 x1_1 x1_2 x1_3z125 x1_4 x1_5 x1_6z125 x1_7z125 x1_8z125 y2 x3_5z1 x3_6z1 y4z1 y5z1 y6z1 y7 y8 x9_6 y10 y11 y12 y13 y14 y15) := hD
                refine lv_pop hx hb d_A_takeOperation_104 rfl ?_
                refine lv_aload_n hx hb d_A_takeOperation_105 rfl (lv_at hl 3 rfl) ?_
                refine va_get (D := D) (ci := 3) (v := .int x0_3z160) (C := "SignMachine$Assembler") (T := F_A) (N := 15) hx hb hk fi_A hown hK.1 hP 0 rfl rfl 3 (by decide) (hk _ k_636) (fun _ h9 => h9) rfl d_A_takeOperation_106 ?_
                refine lv_if_ne (tgt := 136) hx hb d_A_takeOperation_109 (by decide) (fun c161 => ?_) (fun c161 => ?_)
                · exact W.vret hx hb hr (fun t ht hW => ⟨⟨(), rfl, trivial, ⟨x0_3z160, x0_4z160, x0_7, x0_13z1, x0_14z1, x1_3z125, x1_6z125, x1_7z125, x1_8z125, x3_5z1, x3_6z1, y4z1, y5z1, y6z1, x9_6, y10, y11, y12, y13, y14, y15, by show va_P D classes _ t.heap; rw [ht]; exact hP, hD⟩⟩, hS.F ht⟩) hS.2.2 d_A_takeOperation_136
                · refine lv_aload_n hx hb d_A_takeOperation_112 rfl (lv_at hl 3 rfl) ?_
                  refine lv_iload_n hx hb d_A_takeOperation_113 rfl (lv_at hl 2 rfl) ?_
                  refine cs_i (W.runS (As := [.int rz1]) (rest := [.ref p0]) ⟨hx, hb, hml, hown, hk⟩ (c_A_addressPart l rz1) (s_A_addressPart hk k_1049 ⟨Nat.le_of_ble_eq_true rfl, Nat.le_of_ble_eq_true rfl⟩) ⟨fun a U g mk q => q, fun U hU hW => ⟨rfl, trivial⟩⟩ rfl rfl hl.1 rfl (lv_room (Nat.le_of_ble_eq_true rfl)) d_A_takeOperation_114 ⟨Nat.le_of_ble_eq_true rfl, Nat.le_of_ble_eq_true rfl⟩) ?_
                  refine lv_topi (fun v162 hv162 => ?_)
                  refine lv_iload_n hx hb d_A_takeOperation_117 rfl (lv_at hl 0 rfl) ?_
                  refine lv_bipush (v := 12) hx hb d_A_takeOperation_118 (by decide) ?_
                  refine lv_ishl hx hb d_A_takeOperation_120 ?_
                  refine lv_topi (fun v163 hv163 => ?_)
                  refine lv_ior hx hb d_A_takeOperation_121 ?_
                  refine lv_topi (fun v164 hv164 => ?_)
                  refine lv_iload hx hb d_A_takeOperation_122 (lv_at hl 1 rfl) ?_
                  refine lv_bipush (v := 6) hx hb d_A_takeOperation_124 (by decide) ?_
                  refine lv_ishl hx hb d_A_takeOperation_126 ?_
                  refine lv_topi (fun v165 hv165 => ?_)
                  refine lv_ior hx hb d_A_takeOperation_127 ?_
                  refine lv_topi (fun v166 hv166 => ?_)
                  refine lv_aload_n hx hb d_A_takeOperation_128 rfl (lv_at hl 3 rfl) ?_
                  refine va_get (D := D) (ci := 3) (v := .int x0_12) (C := "SignMachine$Assembler") (T := F_A) (N := 15) hx hb hk fi_A hown hK.1 hP 0 rfl rfl 12 (by decide) (hk _ k_649) (fun _ h9 => h9) rfl d_A_takeOperation_129 ?_
                  refine lv_ior hx hb d_A_takeOperation_132 ?_
                  refine lv_topi (fun v167 hv167 => ?_)
                  refine kn_v (va_runV (C := "SignMachine$Assembler") (As := [.int v167]) (rest := []) ⟨hx, hb, hml, hown, hk⟩ (c_A_putInstruction_s1 l K D cI cJ cZ cB p0 p1 p2 p3 p4 p5 p6 p7 p8 p9 p10 p11 p12 p13 p14 p15 H.size x0_3z160 x0_4z160 x0_5 x0_6 x0_7 x0_8 x0_9 x0_10 x0_11 x0_12 x0_13z1 x0_14z1 x1_1 x1_2 x1_3z125 x1_4 x1_5 x1_6z125 x1_7z125 x1_8z125 y2 x3_5z1 x3_6z1 y4z1 y5z1 y6z1 y7 y8 x9_6 y10 y11 y12 y13 y14 y15  v167 ) (v_A_putInstruction_s1 hk k_968 ⟨Nat.le_of_ble_eq_true rfl, Nat.le_of_ble_eq_true rfl⟩) (pMC_v hK hP hD hC hS hA (ci := 3) (q0 := 0) rfl rfl rfl) rfl rfl hl.1 rfl (lv_room (Nat.le_of_ble_eq_true rfl)) d_A_takeOperation_133 ⟨by decide, by decide⟩) hS hA hD (fun u t H locs ht hB hFr hS => ?_)
                  obtain ⟨x0_3z168, x0_4z168, x0_7z168, x9_6z168, y10z168, y11z168, y12z168, y13z168, y14z168, y15z168, hP, hD⟩ := hB
                  rw [ht] at hP
                  have hD := dwk hD hFr
                  clear ht hFr
                  have hP : va_P D classes (wS52 K cI cJ cZ cB p0 p1 p2 p3 p4 p5 p6 p7 p8 p9 p10 p11 p12 p13 p14 p15 x0_3z168 x0_4z168 x0_5 x0_6 x0_7z168 x0_8 x0_9 x0_10 x0_11 x0_12 x0_13z1 x0_14z1 x1_1 x1_2 x1_3z125 x1_4 x1_5 x1_6z125 x1_7z125 x1_8z125 y2 x3_5z1 x3_6z1 y4z1 y5z1 y6z1 y7 y8 x9_6z168 y10z168 y11z168 y12z168 y13z168 y14z168 y15z168) H := hP
                  have hD : va_D A (wS52 K cI cJ cZ cB p0 p1 p2 p3 p4 p5 p6 p7 p8 p9 p10 p11 p12 p13 p14 p15 x0_3z168 x0_4z168 x0_5 x0_6 x0_7z168 x0_8 x0_9 x0_10 x0_11 x0_12 x0_13z1 x0_14z1 x1_1 x1_2 x1_3z125 x1_4 x1_5 x1_6z125 x1_7z125 x1_8z125 y2 x3_5z1 x3_6z1 y4z1 y5z1 y6z1 y7 y8 x9_6z168 y10z168 y11z168 y12z168 y13z168 y14z168 y15z168) := hD
                  exact W.vret hx hb hr (fun t ht hW => ⟨⟨(), rfl, trivial, ⟨x0_3z168, x0_4z168, x0_7z168, x0_13z1, x0_14z1, x1_3z125, x1_6z125, x1_7z125, x1_8z125, x3_5z1, x3_6z1, y4z1, y5z1, y6z1, x9_6z168, y10z168, y11z168, y12z168, y13z168, y14z168, y15z168, by show va_P D classes _ t.heap; rw [ht]; exact hP, hD⟩⟩, hS.F ht⟩) hS.2.2 d_A_takeOperation_136
              · refine lv_iload hx hb d_A_takeOperation_92 (lv_at hl 1 rfl) ?_
                refine lv_bipush (v := 63) hx hb d_A_takeOperation_94 (by decide) ?_
                refine lv_icmp_le (tgt := 105) hx hb d_A_takeOperation_96 (by decide) (fun c169 => ?_) (fun c169 => ?_)
                · refine lv_aload_n hx hb d_A_takeOperation_105 rfl (lv_at hl 3 rfl) ?_
                  refine va_get (D := D) (ci := 3) (v := .int x0_3z127) (C := "SignMachine$Assembler") (T := F_A) (N := 15) hx hb hk fi_A hown hK.1 hP 0 rfl rfl 3 (by decide) (hk _ k_636) (fun _ h9 => h9) rfl d_A_takeOperation_106 ?_
                  refine lv_if_ne (tgt := 136) hx hb d_A_takeOperation_109 (by decide) (fun c170 => ?_) (fun c170 => ?_)
                  · exact W.vret hx hb hr (fun t ht hW => ⟨⟨(), rfl, trivial, ⟨x0_3z127, x0_4z127, x0_7, x0_13z1, x0_14z1, x1_3z125, x1_6z125, x1_7z125, x1_8z125, x3_5z1, x3_6z1, y4z1, y5z1, y6z1, x9_6, y10, y11, y12, y13, y14, y15, by show va_P D classes _ t.heap; rw [ht]; exact hP, hD⟩⟩, hS.F ht⟩) hS.2.2 d_A_takeOperation_136
                  · refine lv_aload_n hx hb d_A_takeOperation_112 rfl (lv_at hl 3 rfl) ?_
                    refine lv_iload_n hx hb d_A_takeOperation_113 rfl (lv_at hl 2 rfl) ?_
                    refine cs_i (W.runS (As := [.int rz1]) (rest := [.ref p0]) ⟨hx, hb, hml, hown, hk⟩ (c_A_addressPart l rz1) (s_A_addressPart hk k_1049 ⟨Nat.le_of_ble_eq_true rfl, Nat.le_of_ble_eq_true rfl⟩) ⟨fun a U g mk q => q, fun U hU hW => ⟨rfl, trivial⟩⟩ rfl rfl hl.1 rfl (lv_room (Nat.le_of_ble_eq_true rfl)) d_A_takeOperation_114 ⟨Nat.le_of_ble_eq_true rfl, Nat.le_of_ble_eq_true rfl⟩) ?_
                    refine lv_topi (fun v171 hv171 => ?_)
                    refine lv_iload_n hx hb d_A_takeOperation_117 rfl (lv_at hl 0 rfl) ?_
                    refine lv_bipush (v := 12) hx hb d_A_takeOperation_118 (by decide) ?_
                    refine lv_ishl hx hb d_A_takeOperation_120 ?_
                    refine lv_topi (fun v172 hv172 => ?_)
                    refine lv_ior hx hb d_A_takeOperation_121 ?_
                    refine lv_topi (fun v173 hv173 => ?_)
                    refine lv_iload hx hb d_A_takeOperation_122 (lv_at hl 1 rfl) ?_
                    refine lv_bipush (v := 6) hx hb d_A_takeOperation_124 (by decide) ?_
                    refine lv_ishl hx hb d_A_takeOperation_126 ?_
                    refine lv_topi (fun v174 hv174 => ?_)
                    refine lv_ior hx hb d_A_takeOperation_127 ?_
                    refine lv_topi (fun v175 hv175 => ?_)
                    refine lv_aload_n hx hb d_A_takeOperation_128 rfl (lv_at hl 3 rfl) ?_
                    refine va_get (D := D) (ci := 3) (v := .int x0_12) (C := "SignMachine$Assembler") (T := F_A) (N := 15) hx hb hk fi_A hown hK.1 hP 0 rfl rfl 12 (by decide) (hk _ k_649) (fun _ h9 => h9) rfl d_A_takeOperation_129 ?_
                    refine lv_ior hx hb d_A_takeOperation_132 ?_
                    refine lv_topi (fun v176 hv176 => ?_)
                    refine kn_v (va_runV (C := "SignMachine$Assembler") (As := [.int v176]) (rest := []) ⟨hx, hb, hml, hown, hk⟩ (c_A_putInstruction_s1 l K D cI cJ cZ cB p0 p1 p2 p3 p4 p5 p6 p7 p8 p9 p10 p11 p12 p13 p14 p15 H.size x0_3z127 x0_4z127 x0_5 x0_6 x0_7 x0_8 x0_9 x0_10 x0_11 x0_12 x0_13z1 x0_14z1 x1_1 x1_2 x1_3z125 x1_4 x1_5 x1_6z125 x1_7z125 x1_8z125 y2 x3_5z1 x3_6z1 y4z1 y5z1 y6z1 y7 y8 x9_6 y10 y11 y12 y13 y14 y15  v176 ) (v_A_putInstruction_s1 hk k_968 ⟨Nat.le_of_ble_eq_true rfl, Nat.le_of_ble_eq_true rfl⟩) (pMC_v hK hP hD hC hS hA (ci := 3) (q0 := 0) rfl rfl rfl) rfl rfl hl.1 rfl (lv_room (Nat.le_of_ble_eq_true rfl)) d_A_takeOperation_133 ⟨by decide, by decide⟩) hS hA hD (fun u t H locs ht hB hFr hS => ?_)
                    obtain ⟨x0_3z177, x0_4z177, x0_7z177, x9_6z177, y10z177, y11z177, y12z177, y13z177, y14z177, y15z177, hP, hD⟩ := hB
                    rw [ht] at hP
                    have hD := dwk hD hFr
                    clear ht hFr
                    have hP : va_P D classes (wS52 K cI cJ cZ cB p0 p1 p2 p3 p4 p5 p6 p7 p8 p9 p10 p11 p12 p13 p14 p15 x0_3z177 x0_4z177 x0_5 x0_6 x0_7z177 x0_8 x0_9 x0_10 x0_11 x0_12 x0_13z1 x0_14z1 x1_1 x1_2 x1_3z125 x1_4 x1_5 x1_6z125 x1_7z125 x1_8z125 y2 x3_5z1 x3_6z1 y4z1 y5z1 y6z1 y7 y8 x9_6z177 y10z177 y11z177 y12z177 y13z177 y14z177 y15z177) H := hP
                    have hD : va_D A (wS52 K cI cJ cZ cB p0 p1 p2 p3 p4 p5 p6 p7 p8 p9 p10 p11 p12 p13 p14 p15 x0_3z177 x0_4z177 x0_5 x0_6 x0_7z177 x0_8 x0_9 x0_10 x0_11 x0_12 x0_13z1 x0_14z1 x1_1 x1_2 x1_3z125 x1_4 x1_5 x1_6z125 x1_7z125 x1_8z125 y2 x3_5z1 x3_6z1 y4z1 y5z1 y6z1 y7 y8 x9_6z177 y10z177 y11z177 y12z177 y13z177 y14z177 y15z177) := hD
                    exact W.vret hx hb hr (fun t ht hW => ⟨⟨(), rfl, trivial, ⟨x0_3z177, x0_4z177, x0_7z177, x0_13z1, x0_14z1, x1_3z125, x1_6z125, x1_7z125, x1_8z125, x3_5z1, x3_6z1, y4z1, y5z1, y6z1, x9_6z177, y10z177, y11z177, y12z177, y13z177, y14z177, y15z177, by show va_P D classes _ t.heap; rw [ht]; exact hP, hD⟩⟩, hS.F ht⟩) hS.2.2 d_A_takeOperation_136
                · refine lv_aload_n hx hb d_A_takeOperation_99 rfl (lv_at hl 3 rfl) ?_
                  refine lv_iconst (v := 4) hx hb d_A_takeOperation_100 (by decide) ?_
                  refine sn_i (va_runV (C := "SignMachine$Assembler") (As := [.int (4 : Int32)]) (rest := []) ⟨hx, hb, hml, hown, hk⟩ (c_A_fail_s1 l K D cI cJ cZ cB p0 p1 p2 p3 p4 p5 p6 p7 p8 p9 p10 p11 p12 p13 p14 p15 H.size x0_3z127 x0_4z127 x0_5 x0_6 x0_7 x0_8 x0_9 x0_10 x0_11 x0_12 x0_13z1 x0_14z1 x1_1 x1_2 x1_3z125 x1_4 x1_5 x1_6z125 x1_7z125 x1_8z125 y2 x3_5z1 x3_6z1 y4z1 y5z1 y6z1 y7 y8 x9_6 y10 y11 y12 y13 y14 y15  (4 : Int32) ) (v_A_fail_s1 hk k_767 ⟨Nat.le_of_ble_eq_true rfl, Nat.le_of_ble_eq_true rfl⟩) (pMC_v hK hP hD hC hS hA (ci := 3) (q0 := 0) rfl rfl rfl) rfl rfl hl.1 rfl (lv_room (Nat.le_of_ble_eq_true rfl)) d_A_takeOperation_101 ⟨by decide, by decide⟩) hS hA hD (fun rz178 u t H locs hr0 ht hB hFr hS => ?_)
                  obtain ⟨x0_3z178, x0_4z178, hP, hD⟩ := hB
                  rw [ht] at hP
                  have hD := dwk hD hFr
                  clear ht hFr
                  have hP : va_P D classes (wS52 K cI cJ cZ cB p0 p1 p2 p3 p4 p5 p6 p7 p8 p9 p10 p11 p12 p13 p14 p15 x0_3z178 x0_4z178 x0_5 x0_6 x0_7 x0_8 x0_9 x0_10 x0_11 x0_12 x0_13z1 x0_14z1 x1_1 x1_2 x1_3z125 x1_4 x1_5 x1_6z125 x1_7z125 x1_8z125 y2 x3_5z1 x3_6z1 y4z1 y5z1 y6z1 y7 y8 x9_6 y10 y11 y12 y13 y14 y15) H := hP
                  have hD : va_D A (wS52 K cI cJ cZ cB p0 p1 p2 p3 p4 p5 p6 p7 p8 p9 p10 p11 p12 p13 p14 p15 x0_3z178 x0_4z178 x0_5 x0_6 x0_7 x0_8 x0_9 x0_10 x0_11 x0_12 x0_13z1 x0_14z1 x1_1 x1_2 x1_3z125 x1_4 x1_5 x1_6z125 x1_7z125 x1_8z125 y2 x3_5z1 x3_6z1 y4z1 y5z1 y6z1 y7 y8 x9_6 y10 y11 y12 y13 y14 y15) := hD
                  refine lv_pop hx hb d_A_takeOperation_104 rfl ?_
                  refine lv_aload_n hx hb d_A_takeOperation_105 rfl (lv_at hl 3 rfl) ?_
                  refine va_get (D := D) (ci := 3) (v := .int x0_3z178) (C := "SignMachine$Assembler") (T := F_A) (N := 15) hx hb hk fi_A hown hK.1 hP 0 rfl rfl 3 (by decide) (hk _ k_636) (fun _ h9 => h9) rfl d_A_takeOperation_106 ?_
                  refine lv_if_ne (tgt := 136) hx hb d_A_takeOperation_109 (by decide) (fun c179 => ?_) (fun c179 => ?_)
                  · exact W.vret hx hb hr (fun t ht hW => ⟨⟨(), rfl, trivial, ⟨x0_3z178, x0_4z178, x0_7, x0_13z1, x0_14z1, x1_3z125, x1_6z125, x1_7z125, x1_8z125, x3_5z1, x3_6z1, y4z1, y5z1, y6z1, x9_6, y10, y11, y12, y13, y14, y15, by show va_P D classes _ t.heap; rw [ht]; exact hP, hD⟩⟩, hS.F ht⟩) hS.2.2 d_A_takeOperation_136
                  · refine lv_aload_n hx hb d_A_takeOperation_112 rfl (lv_at hl 3 rfl) ?_
                    refine lv_iload_n hx hb d_A_takeOperation_113 rfl (lv_at hl 2 rfl) ?_
                    refine cs_i (W.runS (As := [.int rz1]) (rest := [.ref p0]) ⟨hx, hb, hml, hown, hk⟩ (c_A_addressPart l rz1) (s_A_addressPart hk k_1049 ⟨Nat.le_of_ble_eq_true rfl, Nat.le_of_ble_eq_true rfl⟩) ⟨fun a U g mk q => q, fun U hU hW => ⟨rfl, trivial⟩⟩ rfl rfl hl.1 rfl (lv_room (Nat.le_of_ble_eq_true rfl)) d_A_takeOperation_114 ⟨Nat.le_of_ble_eq_true rfl, Nat.le_of_ble_eq_true rfl⟩) ?_
                    refine lv_topi (fun v180 hv180 => ?_)
                    refine lv_iload_n hx hb d_A_takeOperation_117 rfl (lv_at hl 0 rfl) ?_
                    refine lv_bipush (v := 12) hx hb d_A_takeOperation_118 (by decide) ?_
                    refine lv_ishl hx hb d_A_takeOperation_120 ?_
                    refine lv_topi (fun v181 hv181 => ?_)
                    refine lv_ior hx hb d_A_takeOperation_121 ?_
                    refine lv_topi (fun v182 hv182 => ?_)
                    refine lv_iload hx hb d_A_takeOperation_122 (lv_at hl 1 rfl) ?_
                    refine lv_bipush (v := 6) hx hb d_A_takeOperation_124 (by decide) ?_
                    refine lv_ishl hx hb d_A_takeOperation_126 ?_
                    refine lv_topi (fun v183 hv183 => ?_)
                    refine lv_ior hx hb d_A_takeOperation_127 ?_
                    refine lv_topi (fun v184 hv184 => ?_)
                    refine lv_aload_n hx hb d_A_takeOperation_128 rfl (lv_at hl 3 rfl) ?_
                    refine va_get (D := D) (ci := 3) (v := .int x0_12) (C := "SignMachine$Assembler") (T := F_A) (N := 15) hx hb hk fi_A hown hK.1 hP 0 rfl rfl 12 (by decide) (hk _ k_649) (fun _ h9 => h9) rfl d_A_takeOperation_129 ?_
                    refine lv_ior hx hb d_A_takeOperation_132 ?_
                    refine lv_topi (fun v185 hv185 => ?_)
                    refine kn_v (va_runV (C := "SignMachine$Assembler") (As := [.int v185]) (rest := []) ⟨hx, hb, hml, hown, hk⟩ (c_A_putInstruction_s1 l K D cI cJ cZ cB p0 p1 p2 p3 p4 p5 p6 p7 p8 p9 p10 p11 p12 p13 p14 p15 H.size x0_3z178 x0_4z178 x0_5 x0_6 x0_7 x0_8 x0_9 x0_10 x0_11 x0_12 x0_13z1 x0_14z1 x1_1 x1_2 x1_3z125 x1_4 x1_5 x1_6z125 x1_7z125 x1_8z125 y2 x3_5z1 x3_6z1 y4z1 y5z1 y6z1 y7 y8 x9_6 y10 y11 y12 y13 y14 y15  v185 ) (v_A_putInstruction_s1 hk k_968 ⟨Nat.le_of_ble_eq_true rfl, Nat.le_of_ble_eq_true rfl⟩) (pMC_v hK hP hD hC hS hA (ci := 3) (q0 := 0) rfl rfl rfl) rfl rfl hl.1 rfl (lv_room (Nat.le_of_ble_eq_true rfl)) d_A_takeOperation_133 ⟨by decide, by decide⟩) hS hA hD (fun u t H locs ht hB hFr hS => ?_)
                    obtain ⟨x0_3z186, x0_4z186, x0_7z186, x9_6z186, y10z186, y11z186, y12z186, y13z186, y14z186, y15z186, hP, hD⟩ := hB
                    rw [ht] at hP
                    have hD := dwk hD hFr
                    clear ht hFr
                    have hP : va_P D classes (wS52 K cI cJ cZ cB p0 p1 p2 p3 p4 p5 p6 p7 p8 p9 p10 p11 p12 p13 p14 p15 x0_3z186 x0_4z186 x0_5 x0_6 x0_7z186 x0_8 x0_9 x0_10 x0_11 x0_12 x0_13z1 x0_14z1 x1_1 x1_2 x1_3z125 x1_4 x1_5 x1_6z125 x1_7z125 x1_8z125 y2 x3_5z1 x3_6z1 y4z1 y5z1 y6z1 y7 y8 x9_6z186 y10z186 y11z186 y12z186 y13z186 y14z186 y15z186) H := hP
                    have hD : va_D A (wS52 K cI cJ cZ cB p0 p1 p2 p3 p4 p5 p6 p7 p8 p9 p10 p11 p12 p13 p14 p15 x0_3z186 x0_4z186 x0_5 x0_6 x0_7z186 x0_8 x0_9 x0_10 x0_11 x0_12 x0_13z1 x0_14z1 x1_1 x1_2 x1_3z125 x1_4 x1_5 x1_6z125 x1_7z125 x1_8z125 y2 x3_5z1 x3_6z1 y4z1 y5z1 y6z1 y7 y8 x9_6z186 y10z186 y11z186 y12z186 y13z186 y14z186 y15z186) := hD
                    exact W.vret hx hb hr (fun t ht hW => ⟨⟨(), rfl, trivial, ⟨x0_3z186, x0_4z186, x0_7z186, x0_13z1, x0_14z1, x1_3z125, x1_6z125, x1_7z125, x1_8z125, x3_5z1, x3_6z1, y4z1, y5z1, y6z1, x9_6z186, y10z186, y11z186, y12z186, y13z186, y14z186, y15z186, by show va_P D classes _ t.heap; rw [ht]; exact hP, hD⟩⟩, hS.F ht⟩) hS.2.2 d_A_takeOperation_136
      · refine lv_aload_n hx hb d_A_takeOperation_41 rfl (lv_at hl 3 rfl) ?_
        refine va_get (D := D) (ci := 3) (v := .ref p1) (C := "SignMachine$Assembler") (T := F_A) (N := 15) hx hb hk fi_A hown hK.1 hP 0 rfl rfl 0 (by decide) (hk _ k_631) (fun _ h9 => h9) rfl d_A_takeOperation_42 ?_
        refine lv_bipush (v := 40) hx hb d_A_takeOperation_45 (by decide) ?_
        refine sn_i (va_runV (C := "SignMachine$Source") (As := [.int (40 : Int32)]) (rest := []) ⟨hx, hb, hml, hown, hk⟩ (c_R_takes_s1 l K D cI cJ cZ cB p0 p1 p2 p3 p4 p5 p6 p7 p8 p9 p10 p11 p12 p13 p14 p15 H.size x0_3z125 x0_4z125 x0_5 x0_6 x0_7 x0_8 x0_9 x0_10 x0_11 x0_12 x0_13z1 x0_14z1 x1_1 x1_2 x1_3z125 x1_4 x1_5 x1_6z125 x1_7z125 x1_8z125 y2 x3_5z1 x3_6z1 y4z1 y5z1 y6z1 y7 y8 x9_6 y10 y11 y12 y13 y14 y15  (40 : Int32) ) (v_R_takes_s1 hk k_954 ⟨Nat.le_of_ble_eq_true rfl, Nat.le_of_ble_eq_true rfl⟩) (pMC_v hK hP hD hC hS hA (ci := 4) (q0 := 1) rfl rfl rfl) rfl rfl hl.1 rfl (lv_room (Nat.le_of_ble_eq_true rfl)) d_A_takeOperation_47 ⟨by decide, by decide⟩) hS hA hD (fun rz187 u t H locs hr0 ht hB hFr hS => ?_)
        obtain ⟨z187, hz187⟩ := hr0
        subst hz187
        obtain ⟨x1_3z187, hP, hD⟩ := hB
        rw [ht] at hP
        have hD := dwk hD hFr
        clear ht hFr
        have hP : va_P D classes (wS52 K cI cJ cZ cB p0 p1 p2 p3 p4 p5 p6 p7 p8 p9 p10 p11 p12 p13 p14 p15 x0_3z125 x0_4z125 x0_5 x0_6 x0_7 x0_8 x0_9 x0_10 x0_11 x0_12 x0_13z1 x0_14z1 x1_1 x1_2 x1_3z187 x1_4 x1_5 x1_6z125 x1_7z125 x1_8z125 y2 x3_5z1 x3_6z1 y4z1 y5z1 y6z1 y7 y8 x9_6 y10 y11 y12 y13 y14 y15) H := hP
        have hD : va_D A (wS52 K cI cJ cZ cB p0 p1 p2 p3 p4 p5 p6 p7 p8 p9 p10 p11 p12 p13 p14 p15 x0_3z125 x0_4z125 x0_5 x0_6 x0_7 x0_8 x0_9 x0_10 x0_11 x0_12 x0_13z1 x0_14z1 x1_1 x1_2 x1_3z187 x1_4 x1_5 x1_6z125 x1_7z125 x1_8z125 y2 x3_5z1 x3_6z1 y4z1 y5z1 y6z1 y7 y8 x9_6 y10 y11 y12 y13 y14 y15) := hD
        refine lv_if_eq (tgt := 63) hx hb d_A_takeOperation_50 (by decide) (fun c188 => ?_) (fun c188 => ?_)
        · refine lv_aload_n hx hb d_A_takeOperation_63 rfl (lv_at hl 3 rfl) ?_
          refine kn_v (va_runV (C := "SignMachine$Assembler") (As := []) (rest := []) ⟨hx, hb, hml, hown, hk⟩ (c_A_expectEnd_s1 l K D cI cJ cZ cB p0 p1 p2 p3 p4 p5 p6 p7 p8 p9 p10 p11 p12 p13 p14 p15 H.size x0_3z125 x0_4z125 x0_5 x0_6 x0_7 x0_8 x0_9 x0_10 x0_11 x0_12 x0_13z1 x0_14z1 x1_1 x1_2 x1_3z187 x1_4 x1_5 x1_6z125 x1_7z125 x1_8z125 y2 x3_5z1 x3_6z1 y4z1 y5z1 y6z1 y7 y8 x9_6 y10 y11 y12 y13 y14 y15   ) (v_A_expectEnd_s1 hk k_1044 ⟨Nat.le_of_ble_eq_true rfl, Nat.le_of_ble_eq_true rfl⟩) (pMC_v hK hP hD hC hS hA (ci := 3) (q0 := 0) rfl rfl rfl) rfl rfl hl.1 rfl (lv_room (Nat.le_of_ble_eq_true rfl)) d_A_takeOperation_64 ⟨by decide, by decide⟩) hS hA hD (fun u t H locs ht hB hFr hS => ?_)
          obtain ⟨x0_3z189, x0_4z189, hP, hD⟩ := hB
          rw [ht] at hP
          have hD := dwk hD hFr
          clear ht hFr
          have hP : va_P D classes (wS52 K cI cJ cZ cB p0 p1 p2 p3 p4 p5 p6 p7 p8 p9 p10 p11 p12 p13 p14 p15 x0_3z189 x0_4z189 x0_5 x0_6 x0_7 x0_8 x0_9 x0_10 x0_11 x0_12 x0_13z1 x0_14z1 x1_1 x1_2 x1_3z187 x1_4 x1_5 x1_6z125 x1_7z125 x1_8z125 y2 x3_5z1 x3_6z1 y4z1 y5z1 y6z1 y7 y8 x9_6 y10 y11 y12 y13 y14 y15) H := hP
          have hD : va_D A (wS52 K cI cJ cZ cB p0 p1 p2 p3 p4 p5 p6 p7 p8 p9 p10 p11 p12 p13 p14 p15 x0_3z189 x0_4z189 x0_5 x0_6 x0_7 x0_8 x0_9 x0_10 x0_11 x0_12 x0_13z1 x0_14z1 x1_1 x1_2 x1_3z187 x1_4 x1_5 x1_6z125 x1_7z125 x1_8z125 y2 x3_5z1 x3_6z1 y4z1 y5z1 y6z1 y7 y8 x9_6 y10 y11 y12 y13 y14 y15) := hD
          refine lv_iload_n hx hb d_A_takeOperation_67 rfl (lv_at hl 2 rfl) ?_
          refine va_mabs hx hb (hml.trans hl.1.symm) hown (hk _ k_1048) (hk _ k_331) (hk _ k_121) (hk _ k_absc) (Nat.le_of_ble_eq_true rfl) (Nat.le_of_ble_eq_true rfl) (Nat.zero_le _) (Nat.zero_le _) d_A_takeOperation_68 ?_
          refine lv_topi (fun v190 hv190 => ?_)
          refine lv_sipush (v := 4095) hx hb d_A_takeOperation_71 (by decide) ?_
          refine lv_icmp_gt (tgt := 99) hx hb d_A_takeOperation_74 (by decide) (fun c191 => ?_) (fun c191 => ?_)
          · refine lv_aload_n hx hb d_A_takeOperation_99 rfl (lv_at hl 3 rfl) ?_
            refine lv_iconst (v := 4) hx hb d_A_takeOperation_100 (by decide) ?_
            refine sn_i (va_runV (C := "SignMachine$Assembler") (As := [.int (4 : Int32)]) (rest := []) ⟨hx, hb, hml, hown, hk⟩ (c_A_fail_s1 l K D cI cJ cZ cB p0 p1 p2 p3 p4 p5 p6 p7 p8 p9 p10 p11 p12 p13 p14 p15 H.size x0_3z189 x0_4z189 x0_5 x0_6 x0_7 x0_8 x0_9 x0_10 x0_11 x0_12 x0_13z1 x0_14z1 x1_1 x1_2 x1_3z187 x1_4 x1_5 x1_6z125 x1_7z125 x1_8z125 y2 x3_5z1 x3_6z1 y4z1 y5z1 y6z1 y7 y8 x9_6 y10 y11 y12 y13 y14 y15  (4 : Int32) ) (v_A_fail_s1 hk k_767 ⟨Nat.le_of_ble_eq_true rfl, Nat.le_of_ble_eq_true rfl⟩) (pMC_v hK hP hD hC hS hA (ci := 3) (q0 := 0) rfl rfl rfl) rfl rfl hl.1 rfl (lv_room (Nat.le_of_ble_eq_true rfl)) d_A_takeOperation_101 ⟨by decide, by decide⟩) hS hA hD (fun rz192 u t H locs hr0 ht hB hFr hS => ?_)
            obtain ⟨x0_3z192, x0_4z192, hP, hD⟩ := hB
            rw [ht] at hP
            have hD := dwk hD hFr
            clear ht hFr
            have hP : va_P D classes (wS52 K cI cJ cZ cB p0 p1 p2 p3 p4 p5 p6 p7 p8 p9 p10 p11 p12 p13 p14 p15 x0_3z192 x0_4z192 x0_5 x0_6 x0_7 x0_8 x0_9 x0_10 x0_11 x0_12 x0_13z1 x0_14z1 x1_1 x1_2 x1_3z187 x1_4 x1_5 x1_6z125 x1_7z125 x1_8z125 y2 x3_5z1 x3_6z1 y4z1 y5z1 y6z1 y7 y8 x9_6 y10 y11 y12 y13 y14 y15) H := hP
            have hD : va_D A (wS52 K cI cJ cZ cB p0 p1 p2 p3 p4 p5 p6 p7 p8 p9 p10 p11 p12 p13 p14 p15 x0_3z192 x0_4z192 x0_5 x0_6 x0_7 x0_8 x0_9 x0_10 x0_11 x0_12 x0_13z1 x0_14z1 x1_1 x1_2 x1_3z187 x1_4 x1_5 x1_6z125 x1_7z125 x1_8z125 y2 x3_5z1 x3_6z1 y4z1 y5z1 y6z1 y7 y8 x9_6 y10 y11 y12 y13 y14 y15) := hD
            refine lv_pop hx hb d_A_takeOperation_104 rfl ?_
            refine lv_aload_n hx hb d_A_takeOperation_105 rfl (lv_at hl 3 rfl) ?_
            refine va_get (D := D) (ci := 3) (v := .int x0_3z192) (C := "SignMachine$Assembler") (T := F_A) (N := 15) hx hb hk fi_A hown hK.1 hP 0 rfl rfl 3 (by decide) (hk _ k_636) (fun _ h9 => h9) rfl d_A_takeOperation_106 ?_
            refine lv_if_ne (tgt := 136) hx hb d_A_takeOperation_109 (by decide) (fun c193 => ?_) (fun c193 => ?_)
            · exact W.vret hx hb hr (fun t ht hW => ⟨⟨(), rfl, trivial, ⟨x0_3z192, x0_4z192, x0_7, x0_13z1, x0_14z1, x1_3z187, x1_6z125, x1_7z125, x1_8z125, x3_5z1, x3_6z1, y4z1, y5z1, y6z1, x9_6, y10, y11, y12, y13, y14, y15, by show va_P D classes _ t.heap; rw [ht]; exact hP, hD⟩⟩, hS.F ht⟩) hS.2.2 d_A_takeOperation_136
            · refine lv_aload_n hx hb d_A_takeOperation_112 rfl (lv_at hl 3 rfl) ?_
              refine lv_iload_n hx hb d_A_takeOperation_113 rfl (lv_at hl 2 rfl) ?_
              refine cs_i (W.runS (As := [.int rz1]) (rest := [.ref p0]) ⟨hx, hb, hml, hown, hk⟩ (c_A_addressPart l rz1) (s_A_addressPart hk k_1049 ⟨Nat.le_of_ble_eq_true rfl, Nat.le_of_ble_eq_true rfl⟩) ⟨fun a U g mk q => q, fun U hU hW => ⟨rfl, trivial⟩⟩ rfl rfl hl.1 rfl (lv_room (Nat.le_of_ble_eq_true rfl)) d_A_takeOperation_114 ⟨Nat.le_of_ble_eq_true rfl, Nat.le_of_ble_eq_true rfl⟩) ?_
              refine lv_topi (fun v194 hv194 => ?_)
              refine lv_iload_n hx hb d_A_takeOperation_117 rfl (lv_at hl 0 rfl) ?_
              refine lv_bipush (v := 12) hx hb d_A_takeOperation_118 (by decide) ?_
              refine lv_ishl hx hb d_A_takeOperation_120 ?_
              refine lv_topi (fun v195 hv195 => ?_)
              refine lv_ior hx hb d_A_takeOperation_121 ?_
              refine lv_topi (fun v196 hv196 => ?_)
              refine lv_iload hx hb d_A_takeOperation_122 (lv_at hl 1 rfl) ?_
              refine lv_bipush (v := 6) hx hb d_A_takeOperation_124 (by decide) ?_
              refine lv_ishl hx hb d_A_takeOperation_126 ?_
              refine lv_topi (fun v197 hv197 => ?_)
              refine lv_ior hx hb d_A_takeOperation_127 ?_
              refine lv_topi (fun v198 hv198 => ?_)
              refine lv_aload_n hx hb d_A_takeOperation_128 rfl (lv_at hl 3 rfl) ?_
              refine va_get (D := D) (ci := 3) (v := .int x0_12) (C := "SignMachine$Assembler") (T := F_A) (N := 15) hx hb hk fi_A hown hK.1 hP 0 rfl rfl 12 (by decide) (hk _ k_649) (fun _ h9 => h9) rfl d_A_takeOperation_129 ?_
              refine lv_ior hx hb d_A_takeOperation_132 ?_
              refine lv_topi (fun v199 hv199 => ?_)
              refine kn_v (va_runV (C := "SignMachine$Assembler") (As := [.int v199]) (rest := []) ⟨hx, hb, hml, hown, hk⟩ (c_A_putInstruction_s1 l K D cI cJ cZ cB p0 p1 p2 p3 p4 p5 p6 p7 p8 p9 p10 p11 p12 p13 p14 p15 H.size x0_3z192 x0_4z192 x0_5 x0_6 x0_7 x0_8 x0_9 x0_10 x0_11 x0_12 x0_13z1 x0_14z1 x1_1 x1_2 x1_3z187 x1_4 x1_5 x1_6z125 x1_7z125 x1_8z125 y2 x3_5z1 x3_6z1 y4z1 y5z1 y6z1 y7 y8 x9_6 y10 y11 y12 y13 y14 y15  v199 ) (v_A_putInstruction_s1 hk k_968 ⟨Nat.le_of_ble_eq_true rfl, Nat.le_of_ble_eq_true rfl⟩) (pMC_v hK hP hD hC hS hA (ci := 3) (q0 := 0) rfl rfl rfl) rfl rfl hl.1 rfl (lv_room (Nat.le_of_ble_eq_true rfl)) d_A_takeOperation_133 ⟨by decide, by decide⟩) hS hA hD (fun u t H locs ht hB hFr hS => ?_)
              obtain ⟨x0_3z200, x0_4z200, x0_7z200, x9_6z200, y10z200, y11z200, y12z200, y13z200, y14z200, y15z200, hP, hD⟩ := hB
              rw [ht] at hP
              have hD := dwk hD hFr
              clear ht hFr
              have hP : va_P D classes (wS52 K cI cJ cZ cB p0 p1 p2 p3 p4 p5 p6 p7 p8 p9 p10 p11 p12 p13 p14 p15 x0_3z200 x0_4z200 x0_5 x0_6 x0_7z200 x0_8 x0_9 x0_10 x0_11 x0_12 x0_13z1 x0_14z1 x1_1 x1_2 x1_3z187 x1_4 x1_5 x1_6z125 x1_7z125 x1_8z125 y2 x3_5z1 x3_6z1 y4z1 y5z1 y6z1 y7 y8 x9_6z200 y10z200 y11z200 y12z200 y13z200 y14z200 y15z200) H := hP
              have hD : va_D A (wS52 K cI cJ cZ cB p0 p1 p2 p3 p4 p5 p6 p7 p8 p9 p10 p11 p12 p13 p14 p15 x0_3z200 x0_4z200 x0_5 x0_6 x0_7z200 x0_8 x0_9 x0_10 x0_11 x0_12 x0_13z1 x0_14z1 x1_1 x1_2 x1_3z187 x1_4 x1_5 x1_6z125 x1_7z125 x1_8z125 y2 x3_5z1 x3_6z1 y4z1 y5z1 y6z1 y7 y8 x9_6z200 y10z200 y11z200 y12z200 y13z200 y14z200 y15z200) := hD
              exact W.vret hx hb hr (fun t ht hW => ⟨⟨(), rfl, trivial, ⟨x0_3z200, x0_4z200, x0_7z200, x0_13z1, x0_14z1, x1_3z187, x1_6z125, x1_7z125, x1_8z125, x3_5z1, x3_6z1, y4z1, y5z1, y6z1, x9_6z200, y10z200, y11z200, y12z200, y13z200, y14z200, y15z200, by show va_P D classes _ t.heap; rw [ht]; exact hP, hD⟩⟩, hS.F ht⟩) hS.2.2 d_A_takeOperation_136
          · refine lv_iload_n hx hb d_A_takeOperation_77 rfl (lv_at hl 0 rfl) ?_
            refine lv_if_lt (tgt := 99) hx hb d_A_takeOperation_78 (by decide) (fun c201 => ?_) (fun c201 => ?_)
            · refine lv_aload_n hx hb d_A_takeOperation_99 rfl (lv_at hl 3 rfl) ?_
              refine lv_iconst (v := 4) hx hb d_A_takeOperation_100 (by decide) ?_
              refine sn_i (va_runV (C := "SignMachine$Assembler") (As := [.int (4 : Int32)]) (rest := []) ⟨hx, hb, hml, hown, hk⟩ (c_A_fail_s1 l K D cI cJ cZ cB p0 p1 p2 p3 p4 p5 p6 p7 p8 p9 p10 p11 p12 p13 p14 p15 H.size x0_3z189 x0_4z189 x0_5 x0_6 x0_7 x0_8 x0_9 x0_10 x0_11 x0_12 x0_13z1 x0_14z1 x1_1 x1_2 x1_3z187 x1_4 x1_5 x1_6z125 x1_7z125 x1_8z125 y2 x3_5z1 x3_6z1 y4z1 y5z1 y6z1 y7 y8 x9_6 y10 y11 y12 y13 y14 y15  (4 : Int32) ) (v_A_fail_s1 hk k_767 ⟨Nat.le_of_ble_eq_true rfl, Nat.le_of_ble_eq_true rfl⟩) (pMC_v hK hP hD hC hS hA (ci := 3) (q0 := 0) rfl rfl rfl) rfl rfl hl.1 rfl (lv_room (Nat.le_of_ble_eq_true rfl)) d_A_takeOperation_101 ⟨by decide, by decide⟩) hS hA hD (fun rz202 u t H locs hr0 ht hB hFr hS => ?_)
              obtain ⟨x0_3z202, x0_4z202, hP, hD⟩ := hB
              rw [ht] at hP
              have hD := dwk hD hFr
              clear ht hFr
              have hP : va_P D classes (wS52 K cI cJ cZ cB p0 p1 p2 p3 p4 p5 p6 p7 p8 p9 p10 p11 p12 p13 p14 p15 x0_3z202 x0_4z202 x0_5 x0_6 x0_7 x0_8 x0_9 x0_10 x0_11 x0_12 x0_13z1 x0_14z1 x1_1 x1_2 x1_3z187 x1_4 x1_5 x1_6z125 x1_7z125 x1_8z125 y2 x3_5z1 x3_6z1 y4z1 y5z1 y6z1 y7 y8 x9_6 y10 y11 y12 y13 y14 y15) H := hP
              have hD : va_D A (wS52 K cI cJ cZ cB p0 p1 p2 p3 p4 p5 p6 p7 p8 p9 p10 p11 p12 p13 p14 p15 x0_3z202 x0_4z202 x0_5 x0_6 x0_7 x0_8 x0_9 x0_10 x0_11 x0_12 x0_13z1 x0_14z1 x1_1 x1_2 x1_3z187 x1_4 x1_5 x1_6z125 x1_7z125 x1_8z125 y2 x3_5z1 x3_6z1 y4z1 y5z1 y6z1 y7 y8 x9_6 y10 y11 y12 y13 y14 y15) := hD
              refine lv_pop hx hb d_A_takeOperation_104 rfl ?_
              refine lv_aload_n hx hb d_A_takeOperation_105 rfl (lv_at hl 3 rfl) ?_
              refine va_get (D := D) (ci := 3) (v := .int x0_3z202) (C := "SignMachine$Assembler") (T := F_A) (N := 15) hx hb hk fi_A hown hK.1 hP 0 rfl rfl 3 (by decide) (hk _ k_636) (fun _ h9 => h9) rfl d_A_takeOperation_106 ?_
              refine lv_if_ne (tgt := 136) hx hb d_A_takeOperation_109 (by decide) (fun c203 => ?_) (fun c203 => ?_)
              · exact W.vret hx hb hr (fun t ht hW => ⟨⟨(), rfl, trivial, ⟨x0_3z202, x0_4z202, x0_7, x0_13z1, x0_14z1, x1_3z187, x1_6z125, x1_7z125, x1_8z125, x3_5z1, x3_6z1, y4z1, y5z1, y6z1, x9_6, y10, y11, y12, y13, y14, y15, by show va_P D classes _ t.heap; rw [ht]; exact hP, hD⟩⟩, hS.F ht⟩) hS.2.2 d_A_takeOperation_136
              · refine lv_aload_n hx hb d_A_takeOperation_112 rfl (lv_at hl 3 rfl) ?_
                refine lv_iload_n hx hb d_A_takeOperation_113 rfl (lv_at hl 2 rfl) ?_
                refine cs_i (W.runS (As := [.int rz1]) (rest := [.ref p0]) ⟨hx, hb, hml, hown, hk⟩ (c_A_addressPart l rz1) (s_A_addressPart hk k_1049 ⟨Nat.le_of_ble_eq_true rfl, Nat.le_of_ble_eq_true rfl⟩) ⟨fun a U g mk q => q, fun U hU hW => ⟨rfl, trivial⟩⟩ rfl rfl hl.1 rfl (lv_room (Nat.le_of_ble_eq_true rfl)) d_A_takeOperation_114 ⟨Nat.le_of_ble_eq_true rfl, Nat.le_of_ble_eq_true rfl⟩) ?_
                refine lv_topi (fun v204 hv204 => ?_)
                refine lv_iload_n hx hb d_A_takeOperation_117 rfl (lv_at hl 0 rfl) ?_
                refine lv_bipush (v := 12) hx hb d_A_takeOperation_118 (by decide) ?_
                refine lv_ishl hx hb d_A_takeOperation_120 ?_
                refine lv_topi (fun v205 hv205 => ?_)
                refine lv_ior hx hb d_A_takeOperation_121 ?_
                refine lv_topi (fun v206 hv206 => ?_)
                refine lv_iload hx hb d_A_takeOperation_122 (lv_at hl 1 rfl) ?_
                refine lv_bipush (v := 6) hx hb d_A_takeOperation_124 (by decide) ?_
                refine lv_ishl hx hb d_A_takeOperation_126 ?_
                refine lv_topi (fun v207 hv207 => ?_)
                refine lv_ior hx hb d_A_takeOperation_127 ?_
                refine lv_topi (fun v208 hv208 => ?_)
                refine lv_aload_n hx hb d_A_takeOperation_128 rfl (lv_at hl 3 rfl) ?_
                refine va_get (D := D) (ci := 3) (v := .int x0_12) (C := "SignMachine$Assembler") (T := F_A) (N := 15) hx hb hk fi_A hown hK.1 hP 0 rfl rfl 12 (by decide) (hk _ k_649) (fun _ h9 => h9) rfl d_A_takeOperation_129 ?_
                refine lv_ior hx hb d_A_takeOperation_132 ?_
                refine lv_topi (fun v209 hv209 => ?_)
                refine kn_v (va_runV (C := "SignMachine$Assembler") (As := [.int v209]) (rest := []) ⟨hx, hb, hml, hown, hk⟩ (c_A_putInstruction_s1 l K D cI cJ cZ cB p0 p1 p2 p3 p4 p5 p6 p7 p8 p9 p10 p11 p12 p13 p14 p15 H.size x0_3z202 x0_4z202 x0_5 x0_6 x0_7 x0_8 x0_9 x0_10 x0_11 x0_12 x0_13z1 x0_14z1 x1_1 x1_2 x1_3z187 x1_4 x1_5 x1_6z125 x1_7z125 x1_8z125 y2 x3_5z1 x3_6z1 y4z1 y5z1 y6z1 y7 y8 x9_6 y10 y11 y12 y13 y14 y15  v209 ) (v_A_putInstruction_s1 hk k_968 ⟨Nat.le_of_ble_eq_true rfl, Nat.le_of_ble_eq_true rfl⟩) (pMC_v hK hP hD hC hS hA (ci := 3) (q0 := 0) rfl rfl rfl) rfl rfl hl.1 rfl (lv_room (Nat.le_of_ble_eq_true rfl)) d_A_takeOperation_133 ⟨by decide, by decide⟩) hS hA hD (fun u t H locs ht hB hFr hS => ?_)
                obtain ⟨x0_3z210, x0_4z210, x0_7z210, x9_6z210, y10z210, y11z210, y12z210, y13z210, y14z210, y15z210, hP, hD⟩ := hB
                rw [ht] at hP
                have hD := dwk hD hFr
                clear ht hFr
                have hP : va_P D classes (wS52 K cI cJ cZ cB p0 p1 p2 p3 p4 p5 p6 p7 p8 p9 p10 p11 p12 p13 p14 p15 x0_3z210 x0_4z210 x0_5 x0_6 x0_7z210 x0_8 x0_9 x0_10 x0_11 x0_12 x0_13z1 x0_14z1 x1_1 x1_2 x1_3z187 x1_4 x1_5 x1_6z125 x1_7z125 x1_8z125 y2 x3_5z1 x3_6z1 y4z1 y5z1 y6z1 y7 y8 x9_6z210 y10z210 y11z210 y12z210 y13z210 y14z210 y15z210) H := hP
                have hD : va_D A (wS52 K cI cJ cZ cB p0 p1 p2 p3 p4 p5 p6 p7 p8 p9 p10 p11 p12 p13 p14 p15 x0_3z210 x0_4z210 x0_5 x0_6 x0_7z210 x0_8 x0_9 x0_10 x0_11 x0_12 x0_13z1 x0_14z1 x1_1 x1_2 x1_3z187 x1_4 x1_5 x1_6z125 x1_7z125 x1_8z125 y2 x3_5z1 x3_6z1 y4z1 y5z1 y6z1 y7 y8 x9_6z210 y10z210 y11z210 y12z210 y13z210 y14z210 y15z210) := hD
                exact W.vret hx hb hr (fun t ht hW => ⟨⟨(), rfl, trivial, ⟨x0_3z210, x0_4z210, x0_7z210, x0_13z1, x0_14z1, x1_3z187, x1_6z125, x1_7z125, x1_8z125, x3_5z1, x3_6z1, y4z1, y5z1, y6z1, x9_6z210, y10z210, y11z210, y12z210, y13z210, y14z210, y15z210, by show va_P D classes _ t.heap; rw [ht]; exact hP, hD⟩⟩, hS.F ht⟩) hS.2.2 d_A_takeOperation_136
            · refine lv_iload_n hx hb d_A_takeOperation_81 rfl (lv_at hl 0 rfl) ?_
              refine lv_bipush (v := 6) hx hb d_A_takeOperation_82 (by decide) ?_
              refine lv_icmp_gt (tgt := 99) hx hb d_A_takeOperation_84 (by decide) (fun c211 => ?_) (fun c211 => ?_)
              · refine lv_aload_n hx hb d_A_takeOperation_99 rfl (lv_at hl 3 rfl) ?_
                refine lv_iconst (v := 4) hx hb d_A_takeOperation_100 (by decide) ?_
                refine sn_i (va_runV (C := "SignMachine$Assembler") (As := [.int (4 : Int32)]) (rest := []) ⟨hx, hb, hml, hown, hk⟩ (c_A_fail_s1 l K D cI cJ cZ cB p0 p1 p2 p3 p4 p5 p6 p7 p8 p9 p10 p11 p12 p13 p14 p15 H.size x0_3z189 x0_4z189 x0_5 x0_6 x0_7 x0_8 x0_9 x0_10 x0_11 x0_12 x0_13z1 x0_14z1 x1_1 x1_2 x1_3z187 x1_4 x1_5 x1_6z125 x1_7z125 x1_8z125 y2 x3_5z1 x3_6z1 y4z1 y5z1 y6z1 y7 y8 x9_6 y10 y11 y12 y13 y14 y15  (4 : Int32) ) (v_A_fail_s1 hk k_767 ⟨Nat.le_of_ble_eq_true rfl, Nat.le_of_ble_eq_true rfl⟩) (pMC_v hK hP hD hC hS hA (ci := 3) (q0 := 0) rfl rfl rfl) rfl rfl hl.1 rfl (lv_room (Nat.le_of_ble_eq_true rfl)) d_A_takeOperation_101 ⟨by decide, by decide⟩) hS hA hD (fun rz212 u t H locs hr0 ht hB hFr hS => ?_)
                obtain ⟨x0_3z212, x0_4z212, hP, hD⟩ := hB
                rw [ht] at hP
                have hD := dwk hD hFr
                clear ht hFr
                have hP : va_P D classes (wS52 K cI cJ cZ cB p0 p1 p2 p3 p4 p5 p6 p7 p8 p9 p10 p11 p12 p13 p14 p15 x0_3z212 x0_4z212 x0_5 x0_6 x0_7 x0_8 x0_9 x0_10 x0_11 x0_12 x0_13z1 x0_14z1 x1_1 x1_2 x1_3z187 x1_4 x1_5 x1_6z125 x1_7z125 x1_8z125 y2 x3_5z1 x3_6z1 y4z1 y5z1 y6z1 y7 y8 x9_6 y10 y11 y12 y13 y14 y15) H := hP
                have hD : va_D A (wS52 K cI cJ cZ cB p0 p1 p2 p3 p4 p5 p6 p7 p8 p9 p10 p11 p12 p13 p14 p15 x0_3z212 x0_4z212 x0_5 x0_6 x0_7 x0_8 x0_9 x0_10 x0_11 x0_12 x0_13z1 x0_14z1 x1_1 x1_2 x1_3z187 x1_4 x1_5 x1_6z125 x1_7z125 x1_8z125 y2 x3_5z1 x3_6z1 y4z1 y5z1 y6z1 y7 y8 x9_6 y10 y11 y12 y13 y14 y15) := hD
                refine lv_pop hx hb d_A_takeOperation_104 rfl ?_
                refine lv_aload_n hx hb d_A_takeOperation_105 rfl (lv_at hl 3 rfl) ?_
                refine va_get (D := D) (ci := 3) (v := .int x0_3z212) (C := "SignMachine$Assembler") (T := F_A) (N := 15) hx hb hk fi_A hown hK.1 hP 0 rfl rfl 3 (by decide) (hk _ k_636) (fun _ h9 => h9) rfl d_A_takeOperation_106 ?_
                refine lv_if_ne (tgt := 136) hx hb d_A_takeOperation_109 (by decide) (fun c213 => ?_) (fun c213 => ?_)
                · exact W.vret hx hb hr (fun t ht hW => ⟨⟨(), rfl, trivial, ⟨x0_3z212, x0_4z212, x0_7, x0_13z1, x0_14z1, x1_3z187, x1_6z125, x1_7z125, x1_8z125, x3_5z1, x3_6z1, y4z1, y5z1, y6z1, x9_6, y10, y11, y12, y13, y14, y15, by show va_P D classes _ t.heap; rw [ht]; exact hP, hD⟩⟩, hS.F ht⟩) hS.2.2 d_A_takeOperation_136
                · refine lv_aload_n hx hb d_A_takeOperation_112 rfl (lv_at hl 3 rfl) ?_
                  refine lv_iload_n hx hb d_A_takeOperation_113 rfl (lv_at hl 2 rfl) ?_
                  refine cs_i (W.runS (As := [.int rz1]) (rest := [.ref p0]) ⟨hx, hb, hml, hown, hk⟩ (c_A_addressPart l rz1) (s_A_addressPart hk k_1049 ⟨Nat.le_of_ble_eq_true rfl, Nat.le_of_ble_eq_true rfl⟩) ⟨fun a U g mk q => q, fun U hU hW => ⟨rfl, trivial⟩⟩ rfl rfl hl.1 rfl (lv_room (Nat.le_of_ble_eq_true rfl)) d_A_takeOperation_114 ⟨Nat.le_of_ble_eq_true rfl, Nat.le_of_ble_eq_true rfl⟩) ?_
                  refine lv_topi (fun v214 hv214 => ?_)
                  refine lv_iload_n hx hb d_A_takeOperation_117 rfl (lv_at hl 0 rfl) ?_
                  refine lv_bipush (v := 12) hx hb d_A_takeOperation_118 (by decide) ?_
                  refine lv_ishl hx hb d_A_takeOperation_120 ?_
                  refine lv_topi (fun v215 hv215 => ?_)
                  refine lv_ior hx hb d_A_takeOperation_121 ?_
                  refine lv_topi (fun v216 hv216 => ?_)
                  refine lv_iload hx hb d_A_takeOperation_122 (lv_at hl 1 rfl) ?_
                  refine lv_bipush (v := 6) hx hb d_A_takeOperation_124 (by decide) ?_
                  refine lv_ishl hx hb d_A_takeOperation_126 ?_
                  refine lv_topi (fun v217 hv217 => ?_)
                  refine lv_ior hx hb d_A_takeOperation_127 ?_
                  refine lv_topi (fun v218 hv218 => ?_)
                  refine lv_aload_n hx hb d_A_takeOperation_128 rfl (lv_at hl 3 rfl) ?_
                  refine va_get (D := D) (ci := 3) (v := .int x0_12) (C := "SignMachine$Assembler") (T := F_A) (N := 15) hx hb hk fi_A hown hK.1 hP 0 rfl rfl 12 (by decide) (hk _ k_649) (fun _ h9 => h9) rfl d_A_takeOperation_129 ?_
                  refine lv_ior hx hb d_A_takeOperation_132 ?_
                  refine lv_topi (fun v219 hv219 => ?_)
                  refine kn_v (va_runV (C := "SignMachine$Assembler") (As := [.int v219]) (rest := []) ⟨hx, hb, hml, hown, hk⟩ (c_A_putInstruction_s1 l K D cI cJ cZ cB p0 p1 p2 p3 p4 p5 p6 p7 p8 p9 p10 p11 p12 p13 p14 p15 H.size x0_3z212 x0_4z212 x0_5 x0_6 x0_7 x0_8 x0_9 x0_10 x0_11 x0_12 x0_13z1 x0_14z1 x1_1 x1_2 x1_3z187 x1_4 x1_5 x1_6z125 x1_7z125 x1_8z125 y2 x3_5z1 x3_6z1 y4z1 y5z1 y6z1 y7 y8 x9_6 y10 y11 y12 y13 y14 y15  v219 ) (v_A_putInstruction_s1 hk k_968 ⟨Nat.le_of_ble_eq_true rfl, Nat.le_of_ble_eq_true rfl⟩) (pMC_v hK hP hD hC hS hA (ci := 3) (q0 := 0) rfl rfl rfl) rfl rfl hl.1 rfl (lv_room (Nat.le_of_ble_eq_true rfl)) d_A_takeOperation_133 ⟨by decide, by decide⟩) hS hA hD (fun u t H locs ht hB hFr hS => ?_)
                  obtain ⟨x0_3z220, x0_4z220, x0_7z220, x9_6z220, y10z220, y11z220, y12z220, y13z220, y14z220, y15z220, hP, hD⟩ := hB
                  rw [ht] at hP
                  have hD := dwk hD hFr
                  clear ht hFr
                  have hP : va_P D classes (wS52 K cI cJ cZ cB p0 p1 p2 p3 p4 p5 p6 p7 p8 p9 p10 p11 p12 p13 p14 p15 x0_3z220 x0_4z220 x0_5 x0_6 x0_7z220 x0_8 x0_9 x0_10 x0_11 x0_12 x0_13z1 x0_14z1 x1_1 x1_2 x1_3z187 x1_4 x1_5 x1_6z125 x1_7z125 x1_8z125 y2 x3_5z1 x3_6z1 y4z1 y5z1 y6z1 y7 y8 x9_6z220 y10z220 y11z220 y12z220 y13z220 y14z220 y15z220) H := hP
                  have hD : va_D A (wS52 K cI cJ cZ cB p0 p1 p2 p3 p4 p5 p6 p7 p8 p9 p10 p11 p12 p13 p14 p15 x0_3z220 x0_4z220 x0_5 x0_6 x0_7z220 x0_8 x0_9 x0_10 x0_11 x0_12 x0_13z1 x0_14z1 x1_1 x1_2 x1_3z187 x1_4 x1_5 x1_6z125 x1_7z125 x1_8z125 y2 x3_5z1 x3_6z1 y4z1 y5z1 y6z1 y7 y8 x9_6z220 y10z220 y11z220 y12z220 y13z220 y14z220 y15z220) := hD
                  exact W.vret hx hb hr (fun t ht hW => ⟨⟨(), rfl, trivial, ⟨x0_3z220, x0_4z220, x0_7z220, x0_13z1, x0_14z1, x1_3z187, x1_6z125, x1_7z125, x1_8z125, x3_5z1, x3_6z1, y4z1, y5z1, y6z1, x9_6z220, y10z220, y11z220, y12z220, y13z220, y14z220, y15z220, by show va_P D classes _ t.heap; rw [ht]; exact hP, hD⟩⟩, hS.F ht⟩) hS.2.2 d_A_takeOperation_136
              · refine lv_iload hx hb d_A_takeOperation_87 (lv_at hl 1 rfl) ?_
                refine lv_if_lt (tgt := 99) hx hb d_A_takeOperation_89 (by decide) (fun c221 => ?_) (fun c221 => ?_)
                · refine lv_aload_n hx hb d_A_takeOperation_99 rfl (lv_at hl 3 rfl) ?_
                  refine lv_iconst (v := 4) hx hb d_A_takeOperation_100 (by decide) ?_
                  refine sn_i (va_runV (C := "SignMachine$Assembler") (As := [.int (4 : Int32)]) (rest := []) ⟨hx, hb, hml, hown, hk⟩ (c_A_fail_s1 l K D cI cJ cZ cB p0 p1 p2 p3 p4 p5 p6 p7 p8 p9 p10 p11 p12 p13 p14 p15 H.size x0_3z189 x0_4z189 x0_5 x0_6 x0_7 x0_8 x0_9 x0_10 x0_11 x0_12 x0_13z1 x0_14z1 x1_1 x1_2 x1_3z187 x1_4 x1_5 x1_6z125 x1_7z125 x1_8z125 y2 x3_5z1 x3_6z1 y4z1 y5z1 y6z1 y7 y8 x9_6 y10 y11 y12 y13 y14 y15  (4 : Int32) ) (v_A_fail_s1 hk k_767 ⟨Nat.le_of_ble_eq_true rfl, Nat.le_of_ble_eq_true rfl⟩) (pMC_v hK hP hD hC hS hA (ci := 3) (q0 := 0) rfl rfl rfl) rfl rfl hl.1 rfl (lv_room (Nat.le_of_ble_eq_true rfl)) d_A_takeOperation_101 ⟨by decide, by decide⟩) hS hA hD (fun rz222 u t H locs hr0 ht hB hFr hS => ?_)
                  obtain ⟨x0_3z222, x0_4z222, hP, hD⟩ := hB
                  rw [ht] at hP
                  have hD := dwk hD hFr
                  clear ht hFr
                  have hP : va_P D classes (wS52 K cI cJ cZ cB p0 p1 p2 p3 p4 p5 p6 p7 p8 p9 p10 p11 p12 p13 p14 p15 x0_3z222 x0_4z222 x0_5 x0_6 x0_7 x0_8 x0_9 x0_10 x0_11 x0_12 x0_13z1 x0_14z1 x1_1 x1_2 x1_3z187 x1_4 x1_5 x1_6z125 x1_7z125 x1_8z125 y2 x3_5z1 x3_6z1 y4z1 y5z1 y6z1 y7 y8 x9_6 y10 y11 y12 y13 y14 y15) H := hP
                  have hD : va_D A (wS52 K cI cJ cZ cB p0 p1 p2 p3 p4 p5 p6 p7 p8 p9 p10 p11 p12 p13 p14 p15 x0_3z222 x0_4z222 x0_5 x0_6 x0_7 x0_8 x0_9 x0_10 x0_11 x0_12 x0_13z1 x0_14z1 x1_1 x1_2 x1_3z187 x1_4 x1_5 x1_6z125 x1_7z125 x1_8z125 y2 x3_5z1 x3_6z1 y4z1 y5z1 y6z1 y7 y8 x9_6 y10 y11 y12 y13 y14 y15) := hD
                  refine lv_pop hx hb d_A_takeOperation_104 rfl ?_
                  refine lv_aload_n hx hb d_A_takeOperation_105 rfl (lv_at hl 3 rfl) ?_
                  refine va_get (D := D) (ci := 3) (v := .int x0_3z222) (C := "SignMachine$Assembler") (T := F_A) (N := 15) hx hb hk fi_A hown hK.1 hP 0 rfl rfl 3 (by decide) (hk _ k_636) (fun _ h9 => h9) rfl d_A_takeOperation_106 ?_
                  refine lv_if_ne (tgt := 136) hx hb d_A_takeOperation_109 (by decide) (fun c223 => ?_) (fun c223 => ?_)
                  · exact W.vret hx hb hr (fun t ht hW => ⟨⟨(), rfl, trivial, ⟨x0_3z222, x0_4z222, x0_7, x0_13z1, x0_14z1, x1_3z187, x1_6z125, x1_7z125, x1_8z125, x3_5z1, x3_6z1, y4z1, y5z1, y6z1, x9_6, y10, y11, y12, y13, y14, y15, by show va_P D classes _ t.heap; rw [ht]; exact hP, hD⟩⟩, hS.F ht⟩) hS.2.2 d_A_takeOperation_136
                  · refine lv_aload_n hx hb d_A_takeOperation_112 rfl (lv_at hl 3 rfl) ?_
                    refine lv_iload_n hx hb d_A_takeOperation_113 rfl (lv_at hl 2 rfl) ?_
                    refine cs_i (W.runS (As := [.int rz1]) (rest := [.ref p0]) ⟨hx, hb, hml, hown, hk⟩ (c_A_addressPart l rz1) (s_A_addressPart hk k_1049 ⟨Nat.le_of_ble_eq_true rfl, Nat.le_of_ble_eq_true rfl⟩) ⟨fun a U g mk q => q, fun U hU hW => ⟨rfl, trivial⟩⟩ rfl rfl hl.1 rfl (lv_room (Nat.le_of_ble_eq_true rfl)) d_A_takeOperation_114 ⟨Nat.le_of_ble_eq_true rfl, Nat.le_of_ble_eq_true rfl⟩) ?_
                    refine lv_topi (fun v224 hv224 => ?_)
                    refine lv_iload_n hx hb d_A_takeOperation_117 rfl (lv_at hl 0 rfl) ?_
                    refine lv_bipush (v := 12) hx hb d_A_takeOperation_118 (by decide) ?_
                    refine lv_ishl hx hb d_A_takeOperation_120 ?_
                    refine lv_topi (fun v225 hv225 => ?_)
                    refine lv_ior hx hb d_A_takeOperation_121 ?_
                    refine lv_topi (fun v226 hv226 => ?_)
                    refine lv_iload hx hb d_A_takeOperation_122 (lv_at hl 1 rfl) ?_
                    refine lv_bipush (v := 6) hx hb d_A_takeOperation_124 (by decide) ?_
                    refine lv_ishl hx hb d_A_takeOperation_126 ?_
                    refine lv_topi (fun v227 hv227 => ?_)
                    refine lv_ior hx hb d_A_takeOperation_127 ?_
                    refine lv_topi (fun v228 hv228 => ?_)
                    refine lv_aload_n hx hb d_A_takeOperation_128 rfl (lv_at hl 3 rfl) ?_
                    refine va_get (D := D) (ci := 3) (v := .int x0_12) (C := "SignMachine$Assembler") (T := F_A) (N := 15) hx hb hk fi_A hown hK.1 hP 0 rfl rfl 12 (by decide) (hk _ k_649) (fun _ h9 => h9) rfl d_A_takeOperation_129 ?_
                    refine lv_ior hx hb d_A_takeOperation_132 ?_
                    refine lv_topi (fun v229 hv229 => ?_)
                    refine kn_v (va_runV (C := "SignMachine$Assembler") (As := [.int v229]) (rest := []) ⟨hx, hb, hml, hown, hk⟩ (c_A_putInstruction_s1 l K D cI cJ cZ cB p0 p1 p2 p3 p4 p5 p6 p7 p8 p9 p10 p11 p12 p13 p14 p15 H.size x0_3z222 x0_4z222 x0_5 x0_6 x0_7 x0_8 x0_9 x0_10 x0_11 x0_12 x0_13z1 x0_14z1 x1_1 x1_2 x1_3z187 x1_4 x1_5 x1_6z125 x1_7z125 x1_8z125 y2 x3_5z1 x3_6z1 y4z1 y5z1 y6z1 y7 y8 x9_6 y10 y11 y12 y13 y14 y15  v229 ) (v_A_putInstruction_s1 hk k_968 ⟨Nat.le_of_ble_eq_true rfl, Nat.le_of_ble_eq_true rfl⟩) (pMC_v hK hP hD hC hS hA (ci := 3) (q0 := 0) rfl rfl rfl) rfl rfl hl.1 rfl (lv_room (Nat.le_of_ble_eq_true rfl)) d_A_takeOperation_133 ⟨by decide, by decide⟩) hS hA hD (fun u t H locs ht hB hFr hS => ?_)
                    obtain ⟨x0_3z230, x0_4z230, x0_7z230, x9_6z230, y10z230, y11z230, y12z230, y13z230, y14z230, y15z230, hP, hD⟩ := hB
                    rw [ht] at hP
                    have hD := dwk hD hFr
                    clear ht hFr
                    have hP : va_P D classes (wS52 K cI cJ cZ cB p0 p1 p2 p3 p4 p5 p6 p7 p8 p9 p10 p11 p12 p13 p14 p15 x0_3z230 x0_4z230 x0_5 x0_6 x0_7z230 x0_8 x0_9 x0_10 x0_11 x0_12 x0_13z1 x0_14z1 x1_1 x1_2 x1_3z187 x1_4 x1_5 x1_6z125 x1_7z125 x1_8z125 y2 x3_5z1 x3_6z1 y4z1 y5z1 y6z1 y7 y8 x9_6z230 y10z230 y11z230 y12z230 y13z230 y14z230 y15z230) H := hP
                    have hD : va_D A (wS52 K cI cJ cZ cB p0 p1 p2 p3 p4 p5 p6 p7 p8 p9 p10 p11 p12 p13 p14 p15 x0_3z230 x0_4z230 x0_5 x0_6 x0_7z230 x0_8 x0_9 x0_10 x0_11 x0_12 x0_13z1 x0_14z1 x1_1 x1_2 x1_3z187 x1_4 x1_5 x1_6z125 x1_7z125 x1_8z125 y2 x3_5z1 x3_6z1 y4z1 y5z1 y6z1 y7 y8 x9_6z230 y10z230 y11z230 y12z230 y13z230 y14z230 y15z230) := hD
                    exact W.vret hx hb hr (fun t ht hW => ⟨⟨(), rfl, trivial, ⟨x0_3z230, x0_4z230, x0_7z230, x0_13z1, x0_14z1, x1_3z187, x1_6z125, x1_7z125, x1_8z125, x3_5z1, x3_6z1, y4z1, y5z1, y6z1, x9_6z230, y10z230, y11z230, y12z230, y13z230, y14z230, y15z230, by show va_P D classes _ t.heap; rw [ht]; exact hP, hD⟩⟩, hS.F ht⟩) hS.2.2 d_A_takeOperation_136
                · refine lv_iload hx hb d_A_takeOperation_92 (lv_at hl 1 rfl) ?_
                  refine lv_bipush (v := 63) hx hb d_A_takeOperation_94 (by decide) ?_
                  refine lv_icmp_le (tgt := 105) hx hb d_A_takeOperation_96 (by decide) (fun c231 => ?_) (fun c231 => ?_)
                  · refine lv_aload_n hx hb d_A_takeOperation_105 rfl (lv_at hl 3 rfl) ?_
                    refine va_get (D := D) (ci := 3) (v := .int x0_3z189) (C := "SignMachine$Assembler") (T := F_A) (N := 15) hx hb hk fi_A hown hK.1 hP 0 rfl rfl 3 (by decide) (hk _ k_636) (fun _ h9 => h9) rfl d_A_takeOperation_106 ?_
                    refine lv_if_ne (tgt := 136) hx hb d_A_takeOperation_109 (by decide) (fun c232 => ?_) (fun c232 => ?_)
                    · exact W.vret hx hb hr (fun t ht hW => ⟨⟨(), rfl, trivial, ⟨x0_3z189, x0_4z189, x0_7, x0_13z1, x0_14z1, x1_3z187, x1_6z125, x1_7z125, x1_8z125, x3_5z1, x3_6z1, y4z1, y5z1, y6z1, x9_6, y10, y11, y12, y13, y14, y15, by show va_P D classes _ t.heap; rw [ht]; exact hP, hD⟩⟩, hS.F ht⟩) hS.2.2 d_A_takeOperation_136
                    · refine lv_aload_n hx hb d_A_takeOperation_112 rfl (lv_at hl 3 rfl) ?_
                      refine lv_iload_n hx hb d_A_takeOperation_113 rfl (lv_at hl 2 rfl) ?_
                      refine cs_i (W.runS (As := [.int rz1]) (rest := [.ref p0]) ⟨hx, hb, hml, hown, hk⟩ (c_A_addressPart l rz1) (s_A_addressPart hk k_1049 ⟨Nat.le_of_ble_eq_true rfl, Nat.le_of_ble_eq_true rfl⟩) ⟨fun a U g mk q => q, fun U hU hW => ⟨rfl, trivial⟩⟩ rfl rfl hl.1 rfl (lv_room (Nat.le_of_ble_eq_true rfl)) d_A_takeOperation_114 ⟨Nat.le_of_ble_eq_true rfl, Nat.le_of_ble_eq_true rfl⟩) ?_
                      refine lv_topi (fun v233 hv233 => ?_)
                      refine lv_iload_n hx hb d_A_takeOperation_117 rfl (lv_at hl 0 rfl) ?_
                      refine lv_bipush (v := 12) hx hb d_A_takeOperation_118 (by decide) ?_
                      refine lv_ishl hx hb d_A_takeOperation_120 ?_
                      refine lv_topi (fun v234 hv234 => ?_)
                      refine lv_ior hx hb d_A_takeOperation_121 ?_
                      refine lv_topi (fun v235 hv235 => ?_)
                      refine lv_iload hx hb d_A_takeOperation_122 (lv_at hl 1 rfl) ?_
                      refine lv_bipush (v := 6) hx hb d_A_takeOperation_124 (by decide) ?_
                      refine lv_ishl hx hb d_A_takeOperation_126 ?_
                      refine lv_topi (fun v236 hv236 => ?_)
                      refine lv_ior hx hb d_A_takeOperation_127 ?_
                      refine lv_topi (fun v237 hv237 => ?_)
                      refine lv_aload_n hx hb d_A_takeOperation_128 rfl (lv_at hl 3 rfl) ?_
                      refine va_get (D := D) (ci := 3) (v := .int x0_12) (C := "SignMachine$Assembler") (T := F_A) (N := 15) hx hb hk fi_A hown hK.1 hP 0 rfl rfl 12 (by decide) (hk _ k_649) (fun _ h9 => h9) rfl d_A_takeOperation_129 ?_
                      refine lv_ior hx hb d_A_takeOperation_132 ?_
                      refine lv_topi (fun v238 hv238 => ?_)
                      refine kn_v (va_runV (C := "SignMachine$Assembler") (As := [.int v238]) (rest := []) ⟨hx, hb, hml, hown, hk⟩ (c_A_putInstruction_s1 l K D cI cJ cZ cB p0 p1 p2 p3 p4 p5 p6 p7 p8 p9 p10 p11 p12 p13 p14 p15 H.size x0_3z189 x0_4z189 x0_5 x0_6 x0_7 x0_8 x0_9 x0_10 x0_11 x0_12 x0_13z1 x0_14z1 x1_1 x1_2 x1_3z187 x1_4 x1_5 x1_6z125 x1_7z125 x1_8z125 y2 x3_5z1 x3_6z1 y4z1 y5z1 y6z1 y7 y8 x9_6 y10 y11 y12 y13 y14 y15  v238 ) (v_A_putInstruction_s1 hk k_968 ⟨Nat.le_of_ble_eq_true rfl, Nat.le_of_ble_eq_true rfl⟩) (pMC_v hK hP hD hC hS hA (ci := 3) (q0 := 0) rfl rfl rfl) rfl rfl hl.1 rfl (lv_room (Nat.le_of_ble_eq_true rfl)) d_A_takeOperation_133 ⟨by decide, by decide⟩) hS hA hD (fun u t H locs ht hB hFr hS => ?_)
                      obtain ⟨x0_3z239, x0_4z239, x0_7z239, x9_6z239, y10z239, y11z239, y12z239, y13z239, y14z239, y15z239, hP, hD⟩ := hB
                      rw [ht] at hP
                      have hD := dwk hD hFr
                      clear ht hFr
                      have hP : va_P D classes (wS52 K cI cJ cZ cB p0 p1 p2 p3 p4 p5 p6 p7 p8 p9 p10 p11 p12 p13 p14 p15 x0_3z239 x0_4z239 x0_5 x0_6 x0_7z239 x0_8 x0_9 x0_10 x0_11 x0_12 x0_13z1 x0_14z1 x1_1 x1_2 x1_3z187 x1_4 x1_5 x1_6z125 x1_7z125 x1_8z125 y2 x3_5z1 x3_6z1 y4z1 y5z1 y6z1 y7 y8 x9_6z239 y10z239 y11z239 y12z239 y13z239 y14z239 y15z239) H := hP
                      have hD : va_D A (wS52 K cI cJ cZ cB p0 p1 p2 p3 p4 p5 p6 p7 p8 p9 p10 p11 p12 p13 p14 p15 x0_3z239 x0_4z239 x0_5 x0_6 x0_7z239 x0_8 x0_9 x0_10 x0_11 x0_12 x0_13z1 x0_14z1 x1_1 x1_2 x1_3z187 x1_4 x1_5 x1_6z125 x1_7z125 x1_8z125 y2 x3_5z1 x3_6z1 y4z1 y5z1 y6z1 y7 y8 x9_6z239 y10z239 y11z239 y12z239 y13z239 y14z239 y15z239) := hD
                      exact W.vret hx hb hr (fun t ht hW => ⟨⟨(), rfl, trivial, ⟨x0_3z239, x0_4z239, x0_7z239, x0_13z1, x0_14z1, x1_3z187, x1_6z125, x1_7z125, x1_8z125, x3_5z1, x3_6z1, y4z1, y5z1, y6z1, x9_6z239, y10z239, y11z239, y12z239, y13z239, y14z239, y15z239, by show va_P D classes _ t.heap; rw [ht]; exact hP, hD⟩⟩, hS.F ht⟩) hS.2.2 d_A_takeOperation_136
                  · refine lv_aload_n hx hb d_A_takeOperation_99 rfl (lv_at hl 3 rfl) ?_
                    refine lv_iconst (v := 4) hx hb d_A_takeOperation_100 (by decide) ?_
                    refine sn_i (va_runV (C := "SignMachine$Assembler") (As := [.int (4 : Int32)]) (rest := []) ⟨hx, hb, hml, hown, hk⟩ (c_A_fail_s1 l K D cI cJ cZ cB p0 p1 p2 p3 p4 p5 p6 p7 p8 p9 p10 p11 p12 p13 p14 p15 H.size x0_3z189 x0_4z189 x0_5 x0_6 x0_7 x0_8 x0_9 x0_10 x0_11 x0_12 x0_13z1 x0_14z1 x1_1 x1_2 x1_3z187 x1_4 x1_5 x1_6z125 x1_7z125 x1_8z125 y2 x3_5z1 x3_6z1 y4z1 y5z1 y6z1 y7 y8 x9_6 y10 y11 y12 y13 y14 y15  (4 : Int32) ) (v_A_fail_s1 hk k_767 ⟨Nat.le_of_ble_eq_true rfl, Nat.le_of_ble_eq_true rfl⟩) (pMC_v hK hP hD hC hS hA (ci := 3) (q0 := 0) rfl rfl rfl) rfl rfl hl.1 rfl (lv_room (Nat.le_of_ble_eq_true rfl)) d_A_takeOperation_101 ⟨by decide, by decide⟩) hS hA hD (fun rz240 u t H locs hr0 ht hB hFr hS => ?_)
                    obtain ⟨x0_3z240, x0_4z240, hP, hD⟩ := hB
                    rw [ht] at hP
                    have hD := dwk hD hFr
                    clear ht hFr
                    have hP : va_P D classes (wS52 K cI cJ cZ cB p0 p1 p2 p3 p4 p5 p6 p7 p8 p9 p10 p11 p12 p13 p14 p15 x0_3z240 x0_4z240 x0_5 x0_6 x0_7 x0_8 x0_9 x0_10 x0_11 x0_12 x0_13z1 x0_14z1 x1_1 x1_2 x1_3z187 x1_4 x1_5 x1_6z125 x1_7z125 x1_8z125 y2 x3_5z1 x3_6z1 y4z1 y5z1 y6z1 y7 y8 x9_6 y10 y11 y12 y13 y14 y15) H := hP
                    have hD : va_D A (wS52 K cI cJ cZ cB p0 p1 p2 p3 p4 p5 p6 p7 p8 p9 p10 p11 p12 p13 p14 p15 x0_3z240 x0_4z240 x0_5 x0_6 x0_7 x0_8 x0_9 x0_10 x0_11 x0_12 x0_13z1 x0_14z1 x1_1 x1_2 x1_3z187 x1_4 x1_5 x1_6z125 x1_7z125 x1_8z125 y2 x3_5z1 x3_6z1 y4z1 y5z1 y6z1 y7 y8 x9_6 y10 y11 y12 y13 y14 y15) := hD
                    refine lv_pop hx hb d_A_takeOperation_104 rfl ?_
                    refine lv_aload_n hx hb d_A_takeOperation_105 rfl (lv_at hl 3 rfl) ?_
                    refine va_get (D := D) (ci := 3) (v := .int x0_3z240) (C := "SignMachine$Assembler") (T := F_A) (N := 15) hx hb hk fi_A hown hK.1 hP 0 rfl rfl 3 (by decide) (hk _ k_636) (fun _ h9 => h9) rfl d_A_takeOperation_106 ?_
                    refine lv_if_ne (tgt := 136) hx hb d_A_takeOperation_109 (by decide) (fun c241 => ?_) (fun c241 => ?_)
                    · exact W.vret hx hb hr (fun t ht hW => ⟨⟨(), rfl, trivial, ⟨x0_3z240, x0_4z240, x0_7, x0_13z1, x0_14z1, x1_3z187, x1_6z125, x1_7z125, x1_8z125, x3_5z1, x3_6z1, y4z1, y5z1, y6z1, x9_6, y10, y11, y12, y13, y14, y15, by show va_P D classes _ t.heap; rw [ht]; exact hP, hD⟩⟩, hS.F ht⟩) hS.2.2 d_A_takeOperation_136
                    · refine lv_aload_n hx hb d_A_takeOperation_112 rfl (lv_at hl 3 rfl) ?_
                      refine lv_iload_n hx hb d_A_takeOperation_113 rfl (lv_at hl 2 rfl) ?_
                      refine cs_i (W.runS (As := [.int rz1]) (rest := [.ref p0]) ⟨hx, hb, hml, hown, hk⟩ (c_A_addressPart l rz1) (s_A_addressPart hk k_1049 ⟨Nat.le_of_ble_eq_true rfl, Nat.le_of_ble_eq_true rfl⟩) ⟨fun a U g mk q => q, fun U hU hW => ⟨rfl, trivial⟩⟩ rfl rfl hl.1 rfl (lv_room (Nat.le_of_ble_eq_true rfl)) d_A_takeOperation_114 ⟨Nat.le_of_ble_eq_true rfl, Nat.le_of_ble_eq_true rfl⟩) ?_
                      refine lv_topi (fun v242 hv242 => ?_)
                      refine lv_iload_n hx hb d_A_takeOperation_117 rfl (lv_at hl 0 rfl) ?_
                      refine lv_bipush (v := 12) hx hb d_A_takeOperation_118 (by decide) ?_
                      refine lv_ishl hx hb d_A_takeOperation_120 ?_
                      refine lv_topi (fun v243 hv243 => ?_)
                      refine lv_ior hx hb d_A_takeOperation_121 ?_
                      refine lv_topi (fun v244 hv244 => ?_)
                      refine lv_iload hx hb d_A_takeOperation_122 (lv_at hl 1 rfl) ?_
                      refine lv_bipush (v := 6) hx hb d_A_takeOperation_124 (by decide) ?_
                      refine lv_ishl hx hb d_A_takeOperation_126 ?_
                      refine lv_topi (fun v245 hv245 => ?_)
                      refine lv_ior hx hb d_A_takeOperation_127 ?_
                      refine lv_topi (fun v246 hv246 => ?_)
                      refine lv_aload_n hx hb d_A_takeOperation_128 rfl (lv_at hl 3 rfl) ?_
                      refine va_get (D := D) (ci := 3) (v := .int x0_12) (C := "SignMachine$Assembler") (T := F_A) (N := 15) hx hb hk fi_A hown hK.1 hP 0 rfl rfl 12 (by decide) (hk _ k_649) (fun _ h9 => h9) rfl d_A_takeOperation_129 ?_
                      refine lv_ior hx hb d_A_takeOperation_132 ?_
                      refine lv_topi (fun v247 hv247 => ?_)
                      refine kn_v (va_runV (C := "SignMachine$Assembler") (As := [.int v247]) (rest := []) ⟨hx, hb, hml, hown, hk⟩ (c_A_putInstruction_s1 l K D cI cJ cZ cB p0 p1 p2 p3 p4 p5 p6 p7 p8 p9 p10 p11 p12 p13 p14 p15 H.size x0_3z240 x0_4z240 x0_5 x0_6 x0_7 x0_8 x0_9 x0_10 x0_11 x0_12 x0_13z1 x0_14z1 x1_1 x1_2 x1_3z187 x1_4 x1_5 x1_6z125 x1_7z125 x1_8z125 y2 x3_5z1 x3_6z1 y4z1 y5z1 y6z1 y7 y8 x9_6 y10 y11 y12 y13 y14 y15  v247 ) (v_A_putInstruction_s1 hk k_968 ⟨Nat.le_of_ble_eq_true rfl, Nat.le_of_ble_eq_true rfl⟩) (pMC_v hK hP hD hC hS hA (ci := 3) (q0 := 0) rfl rfl rfl) rfl rfl hl.1 rfl (lv_room (Nat.le_of_ble_eq_true rfl)) d_A_takeOperation_133 ⟨by decide, by decide⟩) hS hA hD (fun u t H locs ht hB hFr hS => ?_)
                      obtain ⟨x0_3z248, x0_4z248, x0_7z248, x9_6z248, y10z248, y11z248, y12z248, y13z248, y14z248, y15z248, hP, hD⟩ := hB
                      rw [ht] at hP
                      have hD := dwk hD hFr
                      clear ht hFr
                      have hP : va_P D classes (wS52 K cI cJ cZ cB p0 p1 p2 p3 p4 p5 p6 p7 p8 p9 p10 p11 p12 p13 p14 p15 x0_3z248 x0_4z248 x0_5 x0_6 x0_7z248 x0_8 x0_9 x0_10 x0_11 x0_12 x0_13z1 x0_14z1 x1_1 x1_2 x1_3z187 x1_4 x1_5 x1_6z125 x1_7z125 x1_8z125 y2 x3_5z1 x3_6z1 y4z1 y5z1 y6z1 y7 y8 x9_6z248 y10z248 y11z248 y12z248 y13z248 y14z248 y15z248) H := hP
                      have hD : va_D A (wS52 K cI cJ cZ cB p0 p1 p2 p3 p4 p5 p6 p7 p8 p9 p10 p11 p12 p13 p14 p15 x0_3z248 x0_4z248 x0_5 x0_6 x0_7z248 x0_8 x0_9 x0_10 x0_11 x0_12 x0_13z1 x0_14z1 x1_1 x1_2 x1_3z187 x1_4 x1_5 x1_6z125 x1_7z125 x1_8z125 y2 x3_5z1 x3_6z1 y4z1 y5z1 y6z1 y7 y8 x9_6z248 y10z248 y11z248 y12z248 y13z248 y14z248 y15z248) := hD
                      exact W.vret hx hb hr (fun t ht hW => ⟨⟨(), rfl, trivial, ⟨x0_3z248, x0_4z248, x0_7z248, x0_13z1, x0_14z1, x1_3z187, x1_6z125, x1_7z125, x1_8z125, x3_5z1, x3_6z1, y4z1, y5z1, y6z1, x9_6z248, y10z248, y11z248, y12z248, y13z248, y14z248, y15z248, by show va_P D classes _ t.heap; rw [ht]; exact hP, hD⟩⟩, hS.F ht⟩) hS.2.2 d_A_takeOperation_136
        · refine lv_aload_n hx hb d_A_takeOperation_53 rfl (lv_at hl 3 rfl) ?_
          refine sn_i (va_runV (C := "SignMachine$Assembler") (As := []) (rest := []) ⟨hx, hb, hml, hown, hk⟩ (c_A_readExp_s1 l K D cI cJ cZ cB p0 p1 p2 p3 p4 p5 p6 p7 p8 p9 p10 p11 p12 p13 p14 p15 H.size x0_3z125 x0_4z125 x0_5 x0_6 x0_7 x0_8 x0_9 x0_10 x0_11 x0_12 x0_13z1 x0_14z1 x1_1 x1_2 x1_3z187 x1_4 x1_5 x1_6z125 x1_7z125 x1_8z125 y2 x3_5z1 x3_6z1 y4z1 y5z1 y6z1 y7 y8 x9_6 y10 y11 y12 y13 y14 y15   ) (v_A_readExp_s1 hk k_989 ⟨Nat.le_of_ble_eq_true rfl, Nat.le_of_ble_eq_true rfl⟩) (pMC_v hK hP hD hC hS hA (ci := 3) (q0 := 0) rfl rfl rfl) rfl rfl hl.1 rfl (lv_room (Nat.le_of_ble_eq_true rfl)) d_A_takeOperation_54 ⟨by decide, by decide⟩) hS hA hD (fun rz249 u t H locs hr0 ht hB hFr hS => ?_)
          obtain ⟨x0_3z249, x0_4z249, x1_3z249, x1_6z249, x1_7z249, x1_8z249, hP, hD⟩ := hB
          rw [ht] at hP
          have hD := dwk hD hFr
          clear ht hFr
          have hP : va_P D classes (wS52 K cI cJ cZ cB p0 p1 p2 p3 p4 p5 p6 p7 p8 p9 p10 p11 p12 p13 p14 p15 x0_3z249 x0_4z249 x0_5 x0_6 x0_7 x0_8 x0_9 x0_10 x0_11 x0_12 x0_13z1 x0_14z1 x1_1 x1_2 x1_3z249 x1_4 x1_5 x1_6z249 x1_7z249 x1_8z249 y2 x3_5z1 x3_6z1 y4z1 y5z1 y6z1 y7 y8 x9_6 y10 y11 y12 y13 y14 y15) H := hP
          have hD : va_D A (wS52 K cI cJ cZ cB p0 p1 p2 p3 p4 p5 p6 p7 p8 p9 p10 p11 p12 p13 p14 p15 x0_3z249 x0_4z249 x0_5 x0_6 x0_7 x0_8 x0_9 x0_10 x0_11 x0_12 x0_13z1 x0_14z1 x1_1 x1_2 x1_3z249 x1_4 x1_5 x1_6z249 x1_7z249 x1_8z249 y2 x3_5z1 x3_6z1 y4z1 y5z1 y6z1 y7 y8 x9_6 y10 y11 y12 y13 y14 y15) := hD
          refine lv_istore (lv' := [(4, .int rz249), (3, .int rz125), (2, .int rz1), (0, .ref p0), (1, .int a1)]) hx hb d_A_takeOperation_57 hl (by decide) rfl (fun ls hl => ?_)
          refine lv_aload_n hx hb d_A_takeOperation_59 rfl (lv_at hl 3 rfl) ?_
          refine kn_v (va_runV (C := "SignMachine$Assembler") (As := []) (rest := []) ⟨hx, hb, hml, hown, hk⟩ (c_A_expectBracket_s1 l K D cI cJ cZ cB p0 p1 p2 p3 p4 p5 p6 p7 p8 p9 p10 p11 p12 p13 p14 p15 H.size x0_3z249 x0_4z249 x0_5 x0_6 x0_7 x0_8 x0_9 x0_10 x0_11 x0_12 x0_13z1 x0_14z1 x1_1 x1_2 x1_3z249 x1_4 x1_5 x1_6z249 x1_7z249 x1_8z249 y2 x3_5z1 x3_6z1 y4z1 y5z1 y6z1 y7 y8 x9_6 y10 y11 y12 y13 y14 y15   ) (v_A_expectBracket_s1 hk k_1021 ⟨Nat.le_of_ble_eq_true rfl, Nat.le_of_ble_eq_true rfl⟩) (pMC_v hK hP hD hC hS hA (ci := 3) (q0 := 0) rfl rfl rfl) rfl rfl hl.1 rfl (lv_room (Nat.le_of_ble_eq_true rfl)) d_A_takeOperation_60 ⟨by decide, by decide⟩) hS hA hD (fun u t H locs ht hB hFr hS => ?_)
          obtain ⟨x0_3z250, x0_4z250, x1_3z250, hP, hD⟩ := hB
          rw [ht] at hP
          have hD := dwk hD hFr
          clear ht hFr
          have hP : va_P D classes (wS52 K cI cJ cZ cB p0 p1 p2 p3 p4 p5 p6 p7 p8 p9 p10 p11 p12 p13 p14 p15 x0_3z250 x0_4z250 x0_5 x0_6 x0_7 x0_8 x0_9 x0_10 x0_11 x0_12 x0_13z1 x0_14z1 x1_1 x1_2 x1_3z250 x1_4 x1_5 x1_6z249 x1_7z249 x1_8z249 y2 x3_5z1 x3_6z1 y4z1 y5z1 y6z1 y7 y8 x9_6 y10 y11 y12 y13 y14 y15) H := hP
          have hD : va_D A (wS52 K cI cJ cZ cB p0 p1 p2 p3 p4 p5 p6 p7 p8 p9 p10 p11 p12 p13 p14 p15 x0_3z250 x0_4z250 x0_5 x0_6 x0_7 x0_8 x0_9 x0_10 x0_11 x0_12 x0_13z1 x0_14z1 x1_1 x1_2 x1_3z250 x1_4 x1_5 x1_6z249 x1_7z249 x1_8z249 y2 x3_5z1 x3_6z1 y4z1 y5z1 y6z1 y7 y8 x9_6 y10 y11 y12 y13 y14 y15) := hD
          refine lv_aload_n hx hb d_A_takeOperation_63 rfl (lv_at hl 3 rfl) ?_
          refine kn_v (va_runV (C := "SignMachine$Assembler") (As := []) (rest := []) ⟨hx, hb, hml, hown, hk⟩ (c_A_expectEnd_s1 l K D cI cJ cZ cB p0 p1 p2 p3 p4 p5 p6 p7 p8 p9 p10 p11 p12 p13 p14 p15 H.size x0_3z250 x0_4z250 x0_5 x0_6 x0_7 x0_8 x0_9 x0_10 x0_11 x0_12 x0_13z1 x0_14z1 x1_1 x1_2 x1_3z250 x1_4 x1_5 x1_6z249 x1_7z249 x1_8z249 y2 x3_5z1 x3_6z1 y4z1 y5z1 y6z1 y7 y8 x9_6 y10 y11 y12 y13 y14 y15   ) (v_A_expectEnd_s1 hk k_1044 ⟨Nat.le_of_ble_eq_true rfl, Nat.le_of_ble_eq_true rfl⟩) (pMC_v hK hP hD hC hS hA (ci := 3) (q0 := 0) rfl rfl rfl) rfl rfl hl.1 rfl (lv_room (Nat.le_of_ble_eq_true rfl)) d_A_takeOperation_64 ⟨by decide, by decide⟩) hS hA hD (fun u t H locs ht hB hFr hS => ?_)
          obtain ⟨x0_3z251, x0_4z251, hP, hD⟩ := hB
          rw [ht] at hP
          have hD := dwk hD hFr
          clear ht hFr
          have hP : va_P D classes (wS52 K cI cJ cZ cB p0 p1 p2 p3 p4 p5 p6 p7 p8 p9 p10 p11 p12 p13 p14 p15 x0_3z251 x0_4z251 x0_5 x0_6 x0_7 x0_8 x0_9 x0_10 x0_11 x0_12 x0_13z1 x0_14z1 x1_1 x1_2 x1_3z250 x1_4 x1_5 x1_6z249 x1_7z249 x1_8z249 y2 x3_5z1 x3_6z1 y4z1 y5z1 y6z1 y7 y8 x9_6 y10 y11 y12 y13 y14 y15) H := hP
          have hD : va_D A (wS52 K cI cJ cZ cB p0 p1 p2 p3 p4 p5 p6 p7 p8 p9 p10 p11 p12 p13 p14 p15 x0_3z251 x0_4z251 x0_5 x0_6 x0_7 x0_8 x0_9 x0_10 x0_11 x0_12 x0_13z1 x0_14z1 x1_1 x1_2 x1_3z250 x1_4 x1_5 x1_6z249 x1_7z249 x1_8z249 y2 x3_5z1 x3_6z1 y4z1 y5z1 y6z1 y7 y8 x9_6 y10 y11 y12 y13 y14 y15) := hD
          refine lv_iload_n hx hb d_A_takeOperation_67 rfl (lv_at hl 2 rfl) ?_
          refine va_mabs hx hb (hml.trans hl.1.symm) hown (hk _ k_1048) (hk _ k_331) (hk _ k_121) (hk _ k_absc) (Nat.le_of_ble_eq_true rfl) (Nat.le_of_ble_eq_true rfl) (Nat.zero_le _) (Nat.zero_le _) d_A_takeOperation_68 ?_
          refine lv_topi (fun v252 hv252 => ?_)
          refine lv_sipush (v := 4095) hx hb d_A_takeOperation_71 (by decide) ?_
          refine lv_icmp_gt (tgt := 99) hx hb d_A_takeOperation_74 (by decide) (fun c253 => ?_) (fun c253 => ?_)
          · refine lv_aload_n hx hb d_A_takeOperation_99 rfl (lv_at hl 3 rfl) ?_
            refine lv_iconst (v := 4) hx hb d_A_takeOperation_100 (by decide) ?_
            refine sn_i (va_runV (C := "SignMachine$Assembler") (As := [.int (4 : Int32)]) (rest := []) ⟨hx, hb, hml, hown, hk⟩ (c_A_fail_s1 l K D cI cJ cZ cB p0 p1 p2 p3 p4 p5 p6 p7 p8 p9 p10 p11 p12 p13 p14 p15 H.size x0_3z251 x0_4z251 x0_5 x0_6 x0_7 x0_8 x0_9 x0_10 x0_11 x0_12 x0_13z1 x0_14z1 x1_1 x1_2 x1_3z250 x1_4 x1_5 x1_6z249 x1_7z249 x1_8z249 y2 x3_5z1 x3_6z1 y4z1 y5z1 y6z1 y7 y8 x9_6 y10 y11 y12 y13 y14 y15  (4 : Int32) ) (v_A_fail_s1 hk k_767 ⟨Nat.le_of_ble_eq_true rfl, Nat.le_of_ble_eq_true rfl⟩) (pMC_v hK hP hD hC hS hA (ci := 3) (q0 := 0) rfl rfl rfl) rfl rfl hl.1 rfl (lv_room (Nat.le_of_ble_eq_true rfl)) d_A_takeOperation_101 ⟨by decide, by decide⟩) hS hA hD (fun rz254 u t H locs hr0 ht hB hFr hS => ?_)
            obtain ⟨x0_3z254, x0_4z254, hP, hD⟩ := hB
            rw [ht] at hP
            have hD := dwk hD hFr
            clear ht hFr
            have hP : va_P D classes (wS52 K cI cJ cZ cB p0 p1 p2 p3 p4 p5 p6 p7 p8 p9 p10 p11 p12 p13 p14 p15 x0_3z254 x0_4z254 x0_5 x0_6 x0_7 x0_8 x0_9 x0_10 x0_11 x0_12 x0_13z1 x0_14z1 x1_1 x1_2 x1_3z250 x1_4 x1_5 x1_6z249 x1_7z249 x1_8z249 y2 x3_5z1 x3_6z1 y4z1 y5z1 y6z1 y7 y8 x9_6 y10 y11 y12 y13 y14 y15) H := hP
            have hD : va_D A (wS52 K cI cJ cZ cB p0 p1 p2 p3 p4 p5 p6 p7 p8 p9 p10 p11 p12 p13 p14 p15 x0_3z254 x0_4z254 x0_5 x0_6 x0_7 x0_8 x0_9 x0_10 x0_11 x0_12 x0_13z1 x0_14z1 x1_1 x1_2 x1_3z250 x1_4 x1_5 x1_6z249 x1_7z249 x1_8z249 y2 x3_5z1 x3_6z1 y4z1 y5z1 y6z1 y7 y8 x9_6 y10 y11 y12 y13 y14 y15) := hD
            refine lv_pop hx hb d_A_takeOperation_104 rfl ?_
            refine lv_aload_n hx hb d_A_takeOperation_105 rfl (lv_at hl 3 rfl) ?_
            refine va_get (D := D) (ci := 3) (v := .int x0_3z254) (C := "SignMachine$Assembler") (T := F_A) (N := 15) hx hb hk fi_A hown hK.1 hP 0 rfl rfl 3 (by decide) (hk _ k_636) (fun _ h9 => h9) rfl d_A_takeOperation_106 ?_
            refine lv_if_ne (tgt := 136) hx hb d_A_takeOperation_109 (by decide) (fun c255 => ?_) (fun c255 => ?_)
            · exact W.vret hx hb hr (fun t ht hW => ⟨⟨(), rfl, trivial, ⟨x0_3z254, x0_4z254, x0_7, x0_13z1, x0_14z1, x1_3z250, x1_6z249, x1_7z249, x1_8z249, x3_5z1, x3_6z1, y4z1, y5z1, y6z1, x9_6, y10, y11, y12, y13, y14, y15, by show va_P D classes _ t.heap; rw [ht]; exact hP, hD⟩⟩, hS.F ht⟩) hS.2.2 d_A_takeOperation_136
            · refine lv_aload_n hx hb d_A_takeOperation_112 rfl (lv_at hl 3 rfl) ?_
              refine lv_iload_n hx hb d_A_takeOperation_113 rfl (lv_at hl 2 rfl) ?_
              refine cs_i (W.runS (As := [.int rz1]) (rest := [.ref p0]) ⟨hx, hb, hml, hown, hk⟩ (c_A_addressPart l rz1) (s_A_addressPart hk k_1049 ⟨Nat.le_of_ble_eq_true rfl, Nat.le_of_ble_eq_true rfl⟩) ⟨fun a U g mk q => q, fun U hU hW => ⟨rfl, trivial⟩⟩ rfl rfl hl.1 rfl (lv_room (Nat.le_of_ble_eq_true rfl)) d_A_takeOperation_114 ⟨Nat.le_of_ble_eq_true rfl, Nat.le_of_ble_eq_true rfl⟩) ?_
              refine lv_topi (fun v256 hv256 => ?_)
              refine lv_iload_n hx hb d_A_takeOperation_117 rfl (lv_at hl 1 rfl) ?_
              refine lv_bipush (v := 12) hx hb d_A_takeOperation_118 (by decide) ?_
              refine lv_ishl hx hb d_A_takeOperation_120 ?_
              refine lv_topi (fun v257 hv257 => ?_)
              refine lv_ior hx hb d_A_takeOperation_121 ?_
              refine lv_topi (fun v258 hv258 => ?_)
              refine lv_iload hx hb d_A_takeOperation_122 (lv_at hl 0 rfl) ?_
              refine lv_bipush (v := 6) hx hb d_A_takeOperation_124 (by decide) ?_
              refine lv_ishl hx hb d_A_takeOperation_126 ?_
              refine lv_topi (fun v259 hv259 => ?_)
              refine lv_ior hx hb d_A_takeOperation_127 ?_
              refine lv_topi (fun v260 hv260 => ?_)
              refine lv_aload_n hx hb d_A_takeOperation_128 rfl (lv_at hl 3 rfl) ?_
              refine va_get (D := D) (ci := 3) (v := .int x0_12) (C := "SignMachine$Assembler") (T := F_A) (N := 15) hx hb hk fi_A hown hK.1 hP 0 rfl rfl 12 (by decide) (hk _ k_649) (fun _ h9 => h9) rfl d_A_takeOperation_129 ?_
              refine lv_ior hx hb d_A_takeOperation_132 ?_
              refine lv_topi (fun v261 hv261 => ?_)
              refine kn_v (va_runV (C := "SignMachine$Assembler") (As := [.int v261]) (rest := []) ⟨hx, hb, hml, hown, hk⟩ (c_A_putInstruction_s1 l K D cI cJ cZ cB p0 p1 p2 p3 p4 p5 p6 p7 p8 p9 p10 p11 p12 p13 p14 p15 H.size x0_3z254 x0_4z254 x0_5 x0_6 x0_7 x0_8 x0_9 x0_10 x0_11 x0_12 x0_13z1 x0_14z1 x1_1 x1_2 x1_3z250 x1_4 x1_5 x1_6z249 x1_7z249 x1_8z249 y2 x3_5z1 x3_6z1 y4z1 y5z1 y6z1 y7 y8 x9_6 y10 y11 y12 y13 y14 y15  v261 ) (v_A_putInstruction_s1 hk k_968 ⟨Nat.le_of_ble_eq_true rfl, Nat.le_of_ble_eq_true rfl⟩) (pMC_v hK hP hD hC hS hA (ci := 3) (q0 := 0) rfl rfl rfl) rfl rfl hl.1 rfl (lv_room (Nat.le_of_ble_eq_true rfl)) d_A_takeOperation_133 ⟨by decide, by decide⟩) hS hA hD (fun u t H locs ht hB hFr hS => ?_)
              obtain ⟨x0_3z262, x0_4z262, x0_7z262, x9_6z262, y10z262, y11z262, y12z262, y13z262, y14z262, y15z262, hP, hD⟩ := hB
              rw [ht] at hP
              have hD := dwk hD hFr
              clear ht hFr
              have hP : va_P D classes (wS52 K cI cJ cZ cB p0 p1 p2 p3 p4 p5 p6 p7 p8 p9 p10 p11 p12 p13 p14 p15 x0_3z262 x0_4z262 x0_5 x0_6 x0_7z262 x0_8 x0_9 x0_10 x0_11 x0_12 x0_13z1 x0_14z1 x1_1 x1_2 x1_3z250 x1_4 x1_5 x1_6z249 x1_7z249 x1_8z249 y2 x3_5z1 x3_6z1 y4z1 y5z1 y6z1 y7 y8 x9_6z262 y10z262 y11z262 y12z262 y13z262 y14z262 y15z262) H := hP
              have hD : va_D A (wS52 K cI cJ cZ cB p0 p1 p2 p3 p4 p5 p6 p7 p8 p9 p10 p11 p12 p13 p14 p15 x0_3z262 x0_4z262 x0_5 x0_6 x0_7z262 x0_8 x0_9 x0_10 x0_11 x0_12 x0_13z1 x0_14z1 x1_1 x1_2 x1_3z250 x1_4 x1_5 x1_6z249 x1_7z249 x1_8z249 y2 x3_5z1 x3_6z1 y4z1 y5z1 y6z1 y7 y8 x9_6z262 y10z262 y11z262 y12z262 y13z262 y14z262 y15z262) := hD
              exact W.vret hx hb hr (fun t ht hW => ⟨⟨(), rfl, trivial, ⟨x0_3z262, x0_4z262, x0_7z262, x0_13z1, x0_14z1, x1_3z250, x1_6z249, x1_7z249, x1_8z249, x3_5z1, x3_6z1, y4z1, y5z1, y6z1, x9_6z262, y10z262, y11z262, y12z262, y13z262, y14z262, y15z262, by show va_P D classes _ t.heap; rw [ht]; exact hP, hD⟩⟩, hS.F ht⟩) hS.2.2 d_A_takeOperation_136
          · refine lv_iload_n hx hb d_A_takeOperation_77 rfl (lv_at hl 1 rfl) ?_
            refine lv_if_lt (tgt := 99) hx hb d_A_takeOperation_78 (by decide) (fun c263 => ?_) (fun c263 => ?_)
            · refine lv_aload_n hx hb d_A_takeOperation_99 rfl (lv_at hl 3 rfl) ?_
              refine lv_iconst (v := 4) hx hb d_A_takeOperation_100 (by decide) ?_
              refine sn_i (va_runV (C := "SignMachine$Assembler") (As := [.int (4 : Int32)]) (rest := []) ⟨hx, hb, hml, hown, hk⟩ (c_A_fail_s1 l K D cI cJ cZ cB p0 p1 p2 p3 p4 p5 p6 p7 p8 p9 p10 p11 p12 p13 p14 p15 H.size x0_3z251 x0_4z251 x0_5 x0_6 x0_7 x0_8 x0_9 x0_10 x0_11 x0_12 x0_13z1 x0_14z1 x1_1 x1_2 x1_3z250 x1_4 x1_5 x1_6z249 x1_7z249 x1_8z249 y2 x3_5z1 x3_6z1 y4z1 y5z1 y6z1 y7 y8 x9_6 y10 y11 y12 y13 y14 y15  (4 : Int32) ) (v_A_fail_s1 hk k_767 ⟨Nat.le_of_ble_eq_true rfl, Nat.le_of_ble_eq_true rfl⟩) (pMC_v hK hP hD hC hS hA (ci := 3) (q0 := 0) rfl rfl rfl) rfl rfl hl.1 rfl (lv_room (Nat.le_of_ble_eq_true rfl)) d_A_takeOperation_101 ⟨by decide, by decide⟩) hS hA hD (fun rz264 u t H locs hr0 ht hB hFr hS => ?_)
              obtain ⟨x0_3z264, x0_4z264, hP, hD⟩ := hB
              rw [ht] at hP
              have hD := dwk hD hFr
              clear ht hFr
              have hP : va_P D classes (wS52 K cI cJ cZ cB p0 p1 p2 p3 p4 p5 p6 p7 p8 p9 p10 p11 p12 p13 p14 p15 x0_3z264 x0_4z264 x0_5 x0_6 x0_7 x0_8 x0_9 x0_10 x0_11 x0_12 x0_13z1 x0_14z1 x1_1 x1_2 x1_3z250 x1_4 x1_5 x1_6z249 x1_7z249 x1_8z249 y2 x3_5z1 x3_6z1 y4z1 y5z1 y6z1 y7 y8 x9_6 y10 y11 y12 y13 y14 y15) H := hP
              have hD : va_D A (wS52 K cI cJ cZ cB p0 p1 p2 p3 p4 p5 p6 p7 p8 p9 p10 p11 p12 p13 p14 p15 x0_3z264 x0_4z264 x0_5 x0_6 x0_7 x0_8 x0_9 x0_10 x0_11 x0_12 x0_13z1 x0_14z1 x1_1 x1_2 x1_3z250 x1_4 x1_5 x1_6z249 x1_7z249 x1_8z249 y2 x3_5z1 x3_6z1 y4z1 y5z1 y6z1 y7 y8 x9_6 y10 y11 y12 y13 y14 y15) := hD
              refine lv_pop hx hb d_A_takeOperation_104 rfl ?_
              refine lv_aload_n hx hb d_A_takeOperation_105 rfl (lv_at hl 3 rfl) ?_
              refine va_get (D := D) (ci := 3) (v := .int x0_3z264) (C := "SignMachine$Assembler") (T := F_A) (N := 15) hx hb hk fi_A hown hK.1 hP 0 rfl rfl 3 (by decide) (hk _ k_636) (fun _ h9 => h9) rfl d_A_takeOperation_106 ?_
              refine lv_if_ne (tgt := 136) hx hb d_A_takeOperation_109 (by decide) (fun c265 => ?_) (fun c265 => ?_)
              · exact W.vret hx hb hr (fun t ht hW => ⟨⟨(), rfl, trivial, ⟨x0_3z264, x0_4z264, x0_7, x0_13z1, x0_14z1, x1_3z250, x1_6z249, x1_7z249, x1_8z249, x3_5z1, x3_6z1, y4z1, y5z1, y6z1, x9_6, y10, y11, y12, y13, y14, y15, by show va_P D classes _ t.heap; rw [ht]; exact hP, hD⟩⟩, hS.F ht⟩) hS.2.2 d_A_takeOperation_136
              · refine lv_aload_n hx hb d_A_takeOperation_112 rfl (lv_at hl 3 rfl) ?_
                refine lv_iload_n hx hb d_A_takeOperation_113 rfl (lv_at hl 2 rfl) ?_
                refine cs_i (W.runS (As := [.int rz1]) (rest := [.ref p0]) ⟨hx, hb, hml, hown, hk⟩ (c_A_addressPart l rz1) (s_A_addressPart hk k_1049 ⟨Nat.le_of_ble_eq_true rfl, Nat.le_of_ble_eq_true rfl⟩) ⟨fun a U g mk q => q, fun U hU hW => ⟨rfl, trivial⟩⟩ rfl rfl hl.1 rfl (lv_room (Nat.le_of_ble_eq_true rfl)) d_A_takeOperation_114 ⟨Nat.le_of_ble_eq_true rfl, Nat.le_of_ble_eq_true rfl⟩) ?_
                refine lv_topi (fun v266 hv266 => ?_)
                refine lv_iload_n hx hb d_A_takeOperation_117 rfl (lv_at hl 1 rfl) ?_
                refine lv_bipush (v := 12) hx hb d_A_takeOperation_118 (by decide) ?_
                refine lv_ishl hx hb d_A_takeOperation_120 ?_
                refine lv_topi (fun v267 hv267 => ?_)
                refine lv_ior hx hb d_A_takeOperation_121 ?_
                refine lv_topi (fun v268 hv268 => ?_)
                refine lv_iload hx hb d_A_takeOperation_122 (lv_at hl 0 rfl) ?_
                refine lv_bipush (v := 6) hx hb d_A_takeOperation_124 (by decide) ?_
                refine lv_ishl hx hb d_A_takeOperation_126 ?_
                refine lv_topi (fun v269 hv269 => ?_)
                refine lv_ior hx hb d_A_takeOperation_127 ?_
                refine lv_topi (fun v270 hv270 => ?_)
                refine lv_aload_n hx hb d_A_takeOperation_128 rfl (lv_at hl 3 rfl) ?_
                refine va_get (D := D) (ci := 3) (v := .int x0_12) (C := "SignMachine$Assembler") (T := F_A) (N := 15) hx hb hk fi_A hown hK.1 hP 0 rfl rfl 12 (by decide) (hk _ k_649) (fun _ h9 => h9) rfl d_A_takeOperation_129 ?_
                refine lv_ior hx hb d_A_takeOperation_132 ?_
                refine lv_topi (fun v271 hv271 => ?_)
                refine kn_v (va_runV (C := "SignMachine$Assembler") (As := [.int v271]) (rest := []) ⟨hx, hb, hml, hown, hk⟩ (c_A_putInstruction_s1 l K D cI cJ cZ cB p0 p1 p2 p3 p4 p5 p6 p7 p8 p9 p10 p11 p12 p13 p14 p15 H.size x0_3z264 x0_4z264 x0_5 x0_6 x0_7 x0_8 x0_9 x0_10 x0_11 x0_12 x0_13z1 x0_14z1 x1_1 x1_2 x1_3z250 x1_4 x1_5 x1_6z249 x1_7z249 x1_8z249 y2 x3_5z1 x3_6z1 y4z1 y5z1 y6z1 y7 y8 x9_6 y10 y11 y12 y13 y14 y15  v271 ) (v_A_putInstruction_s1 hk k_968 ⟨Nat.le_of_ble_eq_true rfl, Nat.le_of_ble_eq_true rfl⟩) (pMC_v hK hP hD hC hS hA (ci := 3) (q0 := 0) rfl rfl rfl) rfl rfl hl.1 rfl (lv_room (Nat.le_of_ble_eq_true rfl)) d_A_takeOperation_133 ⟨by decide, by decide⟩) hS hA hD (fun u t H locs ht hB hFr hS => ?_)
                obtain ⟨x0_3z272, x0_4z272, x0_7z272, x9_6z272, y10z272, y11z272, y12z272, y13z272, y14z272, y15z272, hP, hD⟩ := hB
                rw [ht] at hP
                have hD := dwk hD hFr
                clear ht hFr
                have hP : va_P D classes (wS52 K cI cJ cZ cB p0 p1 p2 p3 p4 p5 p6 p7 p8 p9 p10 p11 p12 p13 p14 p15 x0_3z272 x0_4z272 x0_5 x0_6 x0_7z272 x0_8 x0_9 x0_10 x0_11 x0_12 x0_13z1 x0_14z1 x1_1 x1_2 x1_3z250 x1_4 x1_5 x1_6z249 x1_7z249 x1_8z249 y2 x3_5z1 x3_6z1 y4z1 y5z1 y6z1 y7 y8 x9_6z272 y10z272 y11z272 y12z272 y13z272 y14z272 y15z272) H := hP
                have hD : va_D A (wS52 K cI cJ cZ cB p0 p1 p2 p3 p4 p5 p6 p7 p8 p9 p10 p11 p12 p13 p14 p15 x0_3z272 x0_4z272 x0_5 x0_6 x0_7z272 x0_8 x0_9 x0_10 x0_11 x0_12 x0_13z1 x0_14z1 x1_1 x1_2 x1_3z250 x1_4 x1_5 x1_6z249 x1_7z249 x1_8z249 y2 x3_5z1 x3_6z1 y4z1 y5z1 y6z1 y7 y8 x9_6z272 y10z272 y11z272 y12z272 y13z272 y14z272 y15z272) := hD
                exact W.vret hx hb hr (fun t ht hW => ⟨⟨(), rfl, trivial, ⟨x0_3z272, x0_4z272, x0_7z272, x0_13z1, x0_14z1, x1_3z250, x1_6z249, x1_7z249, x1_8z249, x3_5z1, x3_6z1, y4z1, y5z1, y6z1, x9_6z272, y10z272, y11z272, y12z272, y13z272, y14z272, y15z272, by show va_P D classes _ t.heap; rw [ht]; exact hP, hD⟩⟩, hS.F ht⟩) hS.2.2 d_A_takeOperation_136
            · refine lv_iload_n hx hb d_A_takeOperation_81 rfl (lv_at hl 1 rfl) ?_
              refine lv_bipush (v := 6) hx hb d_A_takeOperation_82 (by decide) ?_
              refine lv_icmp_gt (tgt := 99) hx hb d_A_takeOperation_84 (by decide) (fun c273 => ?_) (fun c273 => ?_)
              · refine lv_aload_n hx hb d_A_takeOperation_99 rfl (lv_at hl 3 rfl) ?_
                refine lv_iconst (v := 4) hx hb d_A_takeOperation_100 (by decide) ?_
                refine sn_i (va_runV (C := "SignMachine$Assembler") (As := [.int (4 : Int32)]) (rest := []) ⟨hx, hb, hml, hown, hk⟩ (c_A_fail_s1 l K D cI cJ cZ cB p0 p1 p2 p3 p4 p5 p6 p7 p8 p9 p10 p11 p12 p13 p14 p15 H.size x0_3z251 x0_4z251 x0_5 x0_6 x0_7 x0_8 x0_9 x0_10 x0_11 x0_12 x0_13z1 x0_14z1 x1_1 x1_2 x1_3z250 x1_4 x1_5 x1_6z249 x1_7z249 x1_8z249 y2 x3_5z1 x3_6z1 y4z1 y5z1 y6z1 y7 y8 x9_6 y10 y11 y12 y13 y14 y15  (4 : Int32) ) (v_A_fail_s1 hk k_767 ⟨Nat.le_of_ble_eq_true rfl, Nat.le_of_ble_eq_true rfl⟩) (pMC_v hK hP hD hC hS hA (ci := 3) (q0 := 0) rfl rfl rfl) rfl rfl hl.1 rfl (lv_room (Nat.le_of_ble_eq_true rfl)) d_A_takeOperation_101 ⟨by decide, by decide⟩) hS hA hD (fun rz274 u t H locs hr0 ht hB hFr hS => ?_)
                obtain ⟨x0_3z274, x0_4z274, hP, hD⟩ := hB
                rw [ht] at hP
                have hD := dwk hD hFr
                clear ht hFr
                have hP : va_P D classes (wS52 K cI cJ cZ cB p0 p1 p2 p3 p4 p5 p6 p7 p8 p9 p10 p11 p12 p13 p14 p15 x0_3z274 x0_4z274 x0_5 x0_6 x0_7 x0_8 x0_9 x0_10 x0_11 x0_12 x0_13z1 x0_14z1 x1_1 x1_2 x1_3z250 x1_4 x1_5 x1_6z249 x1_7z249 x1_8z249 y2 x3_5z1 x3_6z1 y4z1 y5z1 y6z1 y7 y8 x9_6 y10 y11 y12 y13 y14 y15) H := hP
                have hD : va_D A (wS52 K cI cJ cZ cB p0 p1 p2 p3 p4 p5 p6 p7 p8 p9 p10 p11 p12 p13 p14 p15 x0_3z274 x0_4z274 x0_5 x0_6 x0_7 x0_8 x0_9 x0_10 x0_11 x0_12 x0_13z1 x0_14z1 x1_1 x1_2 x1_3z250 x1_4 x1_5 x1_6z249 x1_7z249 x1_8z249 y2 x3_5z1 x3_6z1 y4z1 y5z1 y6z1 y7 y8 x9_6 y10 y11 y12 y13 y14 y15) := hD
                refine lv_pop hx hb d_A_takeOperation_104 rfl ?_
                refine lv_aload_n hx hb d_A_takeOperation_105 rfl (lv_at hl 3 rfl) ?_
                refine va_get (D := D) (ci := 3) (v := .int x0_3z274) (C := "SignMachine$Assembler") (T := F_A) (N := 15) hx hb hk fi_A hown hK.1 hP 0 rfl rfl 3 (by decide) (hk _ k_636) (fun _ h9 => h9) rfl d_A_takeOperation_106 ?_
                refine lv_if_ne (tgt := 136) hx hb d_A_takeOperation_109 (by decide) (fun c275 => ?_) (fun c275 => ?_)
                · exact W.vret hx hb hr (fun t ht hW => ⟨⟨(), rfl, trivial, ⟨x0_3z274, x0_4z274, x0_7, x0_13z1, x0_14z1, x1_3z250, x1_6z249, x1_7z249, x1_8z249, x3_5z1, x3_6z1, y4z1, y5z1, y6z1, x9_6, y10, y11, y12, y13, y14, y15, by show va_P D classes _ t.heap; rw [ht]; exact hP, hD⟩⟩, hS.F ht⟩) hS.2.2 d_A_takeOperation_136
                · refine lv_aload_n hx hb d_A_takeOperation_112 rfl (lv_at hl 3 rfl) ?_
                  refine lv_iload_n hx hb d_A_takeOperation_113 rfl (lv_at hl 2 rfl) ?_
                  refine cs_i (W.runS (As := [.int rz1]) (rest := [.ref p0]) ⟨hx, hb, hml, hown, hk⟩ (c_A_addressPart l rz1) (s_A_addressPart hk k_1049 ⟨Nat.le_of_ble_eq_true rfl, Nat.le_of_ble_eq_true rfl⟩) ⟨fun a U g mk q => q, fun U hU hW => ⟨rfl, trivial⟩⟩ rfl rfl hl.1 rfl (lv_room (Nat.le_of_ble_eq_true rfl)) d_A_takeOperation_114 ⟨Nat.le_of_ble_eq_true rfl, Nat.le_of_ble_eq_true rfl⟩) ?_
                  refine lv_topi (fun v276 hv276 => ?_)
                  refine lv_iload_n hx hb d_A_takeOperation_117 rfl (lv_at hl 1 rfl) ?_
                  refine lv_bipush (v := 12) hx hb d_A_takeOperation_118 (by decide) ?_
                  refine lv_ishl hx hb d_A_takeOperation_120 ?_
                  refine lv_topi (fun v277 hv277 => ?_)
                  refine lv_ior hx hb d_A_takeOperation_121 ?_
                  refine lv_topi (fun v278 hv278 => ?_)
                  refine lv_iload hx hb d_A_takeOperation_122 (lv_at hl 0 rfl) ?_
                  refine lv_bipush (v := 6) hx hb d_A_takeOperation_124 (by decide) ?_
                  refine lv_ishl hx hb d_A_takeOperation_126 ?_
                  refine lv_topi (fun v279 hv279 => ?_)
                  refine lv_ior hx hb d_A_takeOperation_127 ?_
                  refine lv_topi (fun v280 hv280 => ?_)
                  refine lv_aload_n hx hb d_A_takeOperation_128 rfl (lv_at hl 3 rfl) ?_
                  refine va_get (D := D) (ci := 3) (v := .int x0_12) (C := "SignMachine$Assembler") (T := F_A) (N := 15) hx hb hk fi_A hown hK.1 hP 0 rfl rfl 12 (by decide) (hk _ k_649) (fun _ h9 => h9) rfl d_A_takeOperation_129 ?_
                  refine lv_ior hx hb d_A_takeOperation_132 ?_
                  refine lv_topi (fun v281 hv281 => ?_)
                  refine kn_v (va_runV (C := "SignMachine$Assembler") (As := [.int v281]) (rest := []) ⟨hx, hb, hml, hown, hk⟩ (c_A_putInstruction_s1 l K D cI cJ cZ cB p0 p1 p2 p3 p4 p5 p6 p7 p8 p9 p10 p11 p12 p13 p14 p15 H.size x0_3z274 x0_4z274 x0_5 x0_6 x0_7 x0_8 x0_9 x0_10 x0_11 x0_12 x0_13z1 x0_14z1 x1_1 x1_2 x1_3z250 x1_4 x1_5 x1_6z249 x1_7z249 x1_8z249 y2 x3_5z1 x3_6z1 y4z1 y5z1 y6z1 y7 y8 x9_6 y10 y11 y12 y13 y14 y15  v281 ) (v_A_putInstruction_s1 hk k_968 ⟨Nat.le_of_ble_eq_true rfl, Nat.le_of_ble_eq_true rfl⟩) (pMC_v hK hP hD hC hS hA (ci := 3) (q0 := 0) rfl rfl rfl) rfl rfl hl.1 rfl (lv_room (Nat.le_of_ble_eq_true rfl)) d_A_takeOperation_133 ⟨by decide, by decide⟩) hS hA hD (fun u t H locs ht hB hFr hS => ?_)
                  obtain ⟨x0_3z282, x0_4z282, x0_7z282, x9_6z282, y10z282, y11z282, y12z282, y13z282, y14z282, y15z282, hP, hD⟩ := hB
                  rw [ht] at hP
                  have hD := dwk hD hFr
                  clear ht hFr
                  have hP : va_P D classes (wS52 K cI cJ cZ cB p0 p1 p2 p3 p4 p5 p6 p7 p8 p9 p10 p11 p12 p13 p14 p15 x0_3z282 x0_4z282 x0_5 x0_6 x0_7z282 x0_8 x0_9 x0_10 x0_11 x0_12 x0_13z1 x0_14z1 x1_1 x1_2 x1_3z250 x1_4 x1_5 x1_6z249 x1_7z249 x1_8z249 y2 x3_5z1 x3_6z1 y4z1 y5z1 y6z1 y7 y8 x9_6z282 y10z282 y11z282 y12z282 y13z282 y14z282 y15z282) H := hP
                  have hD : va_D A (wS52 K cI cJ cZ cB p0 p1 p2 p3 p4 p5 p6 p7 p8 p9 p10 p11 p12 p13 p14 p15 x0_3z282 x0_4z282 x0_5 x0_6 x0_7z282 x0_8 x0_9 x0_10 x0_11 x0_12 x0_13z1 x0_14z1 x1_1 x1_2 x1_3z250 x1_4 x1_5 x1_6z249 x1_7z249 x1_8z249 y2 x3_5z1 x3_6z1 y4z1 y5z1 y6z1 y7 y8 x9_6z282 y10z282 y11z282 y12z282 y13z282 y14z282 y15z282) := hD
                  exact W.vret hx hb hr (fun t ht hW => ⟨⟨(), rfl, trivial, ⟨x0_3z282, x0_4z282, x0_7z282, x0_13z1, x0_14z1, x1_3z250, x1_6z249, x1_7z249, x1_8z249, x3_5z1, x3_6z1, y4z1, y5z1, y6z1, x9_6z282, y10z282, y11z282, y12z282, y13z282, y14z282, y15z282, by show va_P D classes _ t.heap; rw [ht]; exact hP, hD⟩⟩, hS.F ht⟩) hS.2.2 d_A_takeOperation_136
              · refine lv_iload hx hb d_A_takeOperation_87 (lv_at hl 0 rfl) ?_
                refine lv_if_lt (tgt := 99) hx hb d_A_takeOperation_89 (by decide) (fun c283 => ?_) (fun c283 => ?_)
                · refine lv_aload_n hx hb d_A_takeOperation_99 rfl (lv_at hl 3 rfl) ?_
                  refine lv_iconst (v := 4) hx hb d_A_takeOperation_100 (by decide) ?_
                  refine sn_i (va_runV (C := "SignMachine$Assembler") (As := [.int (4 : Int32)]) (rest := []) ⟨hx, hb, hml, hown, hk⟩ (c_A_fail_s1 l K D cI cJ cZ cB p0 p1 p2 p3 p4 p5 p6 p7 p8 p9 p10 p11 p12 p13 p14 p15 H.size x0_3z251 x0_4z251 x0_5 x0_6 x0_7 x0_8 x0_9 x0_10 x0_11 x0_12 x0_13z1 x0_14z1 x1_1 x1_2 x1_3z250 x1_4 x1_5 x1_6z249 x1_7z249 x1_8z249 y2 x3_5z1 x3_6z1 y4z1 y5z1 y6z1 y7 y8 x9_6 y10 y11 y12 y13 y14 y15  (4 : Int32) ) (v_A_fail_s1 hk k_767 ⟨Nat.le_of_ble_eq_true rfl, Nat.le_of_ble_eq_true rfl⟩) (pMC_v hK hP hD hC hS hA (ci := 3) (q0 := 0) rfl rfl rfl) rfl rfl hl.1 rfl (lv_room (Nat.le_of_ble_eq_true rfl)) d_A_takeOperation_101 ⟨by decide, by decide⟩) hS hA hD (fun rz284 u t H locs hr0 ht hB hFr hS => ?_)
                  obtain ⟨x0_3z284, x0_4z284, hP, hD⟩ := hB
                  rw [ht] at hP
                  have hD := dwk hD hFr
                  clear ht hFr
                  have hP : va_P D classes (wS52 K cI cJ cZ cB p0 p1 p2 p3 p4 p5 p6 p7 p8 p9 p10 p11 p12 p13 p14 p15 x0_3z284 x0_4z284 x0_5 x0_6 x0_7 x0_8 x0_9 x0_10 x0_11 x0_12 x0_13z1 x0_14z1 x1_1 x1_2 x1_3z250 x1_4 x1_5 x1_6z249 x1_7z249 x1_8z249 y2 x3_5z1 x3_6z1 y4z1 y5z1 y6z1 y7 y8 x9_6 y10 y11 y12 y13 y14 y15) H := hP
                  have hD : va_D A (wS52 K cI cJ cZ cB p0 p1 p2 p3 p4 p5 p6 p7 p8 p9 p10 p11 p12 p13 p14 p15 x0_3z284 x0_4z284 x0_5 x0_6 x0_7 x0_8 x0_9 x0_10 x0_11 x0_12 x0_13z1 x0_14z1 x1_1 x1_2 x1_3z250 x1_4 x1_5 x1_6z249 x1_7z249 x1_8z249 y2 x3_5z1 x3_6z1 y4z1 y5z1 y6z1 y7 y8 x9_6 y10 y11 y12 y13 y14 y15) := hD
                  refine lv_pop hx hb d_A_takeOperation_104 rfl ?_
                  refine lv_aload_n hx hb d_A_takeOperation_105 rfl (lv_at hl 3 rfl) ?_
                  refine va_get (D := D) (ci := 3) (v := .int x0_3z284) (C := "SignMachine$Assembler") (T := F_A) (N := 15) hx hb hk fi_A hown hK.1 hP 0 rfl rfl 3 (by decide) (hk _ k_636) (fun _ h9 => h9) rfl d_A_takeOperation_106 ?_
                  refine lv_if_ne (tgt := 136) hx hb d_A_takeOperation_109 (by decide) (fun c285 => ?_) (fun c285 => ?_)
                  · exact W.vret hx hb hr (fun t ht hW => ⟨⟨(), rfl, trivial, ⟨x0_3z284, x0_4z284, x0_7, x0_13z1, x0_14z1, x1_3z250, x1_6z249, x1_7z249, x1_8z249, x3_5z1, x3_6z1, y4z1, y5z1, y6z1, x9_6, y10, y11, y12, y13, y14, y15, by show va_P D classes _ t.heap; rw [ht]; exact hP, hD⟩⟩, hS.F ht⟩) hS.2.2 d_A_takeOperation_136
                  · refine lv_aload_n hx hb d_A_takeOperation_112 rfl (lv_at hl 3 rfl) ?_
                    refine lv_iload_n hx hb d_A_takeOperation_113 rfl (lv_at hl 2 rfl) ?_
                    refine cs_i (W.runS (As := [.int rz1]) (rest := [.ref p0]) ⟨hx, hb, hml, hown, hk⟩ (c_A_addressPart l rz1) (s_A_addressPart hk k_1049 ⟨Nat.le_of_ble_eq_true rfl, Nat.le_of_ble_eq_true rfl⟩) ⟨fun a U g mk q => q, fun U hU hW => ⟨rfl, trivial⟩⟩ rfl rfl hl.1 rfl (lv_room (Nat.le_of_ble_eq_true rfl)) d_A_takeOperation_114 ⟨Nat.le_of_ble_eq_true rfl, Nat.le_of_ble_eq_true rfl⟩) ?_
                    refine lv_topi (fun v286 hv286 => ?_)
                    refine lv_iload_n hx hb d_A_takeOperation_117 rfl (lv_at hl 1 rfl) ?_
                    refine lv_bipush (v := 12) hx hb d_A_takeOperation_118 (by decide) ?_
                    refine lv_ishl hx hb d_A_takeOperation_120 ?_
                    refine lv_topi (fun v287 hv287 => ?_)
                    refine lv_ior hx hb d_A_takeOperation_121 ?_
                    refine lv_topi (fun v288 hv288 => ?_)
                    refine lv_iload hx hb d_A_takeOperation_122 (lv_at hl 0 rfl) ?_
                    refine lv_bipush (v := 6) hx hb d_A_takeOperation_124 (by decide) ?_
                    refine lv_ishl hx hb d_A_takeOperation_126 ?_
                    refine lv_topi (fun v289 hv289 => ?_)
                    refine lv_ior hx hb d_A_takeOperation_127 ?_
                    refine lv_topi (fun v290 hv290 => ?_)
                    refine lv_aload_n hx hb d_A_takeOperation_128 rfl (lv_at hl 3 rfl) ?_
                    refine va_get (D := D) (ci := 3) (v := .int x0_12) (C := "SignMachine$Assembler") (T := F_A) (N := 15) hx hb hk fi_A hown hK.1 hP 0 rfl rfl 12 (by decide) (hk _ k_649) (fun _ h9 => h9) rfl d_A_takeOperation_129 ?_
                    refine lv_ior hx hb d_A_takeOperation_132 ?_
                    refine lv_topi (fun v291 hv291 => ?_)
                    refine kn_v (va_runV (C := "SignMachine$Assembler") (As := [.int v291]) (rest := []) ⟨hx, hb, hml, hown, hk⟩ (c_A_putInstruction_s1 l K D cI cJ cZ cB p0 p1 p2 p3 p4 p5 p6 p7 p8 p9 p10 p11 p12 p13 p14 p15 H.size x0_3z284 x0_4z284 x0_5 x0_6 x0_7 x0_8 x0_9 x0_10 x0_11 x0_12 x0_13z1 x0_14z1 x1_1 x1_2 x1_3z250 x1_4 x1_5 x1_6z249 x1_7z249 x1_8z249 y2 x3_5z1 x3_6z1 y4z1 y5z1 y6z1 y7 y8 x9_6 y10 y11 y12 y13 y14 y15  v291 ) (v_A_putInstruction_s1 hk k_968 ⟨Nat.le_of_ble_eq_true rfl, Nat.le_of_ble_eq_true rfl⟩) (pMC_v hK hP hD hC hS hA (ci := 3) (q0 := 0) rfl rfl rfl) rfl rfl hl.1 rfl (lv_room (Nat.le_of_ble_eq_true rfl)) d_A_takeOperation_133 ⟨by decide, by decide⟩) hS hA hD (fun u t H locs ht hB hFr hS => ?_)
                    obtain ⟨x0_3z292, x0_4z292, x0_7z292, x9_6z292, y10z292, y11z292, y12z292, y13z292, y14z292, y15z292, hP, hD⟩ := hB
                    rw [ht] at hP
                    have hD := dwk hD hFr
                    clear ht hFr
                    have hP : va_P D classes (wS52 K cI cJ cZ cB p0 p1 p2 p3 p4 p5 p6 p7 p8 p9 p10 p11 p12 p13 p14 p15 x0_3z292 x0_4z292 x0_5 x0_6 x0_7z292 x0_8 x0_9 x0_10 x0_11 x0_12 x0_13z1 x0_14z1 x1_1 x1_2 x1_3z250 x1_4 x1_5 x1_6z249 x1_7z249 x1_8z249 y2 x3_5z1 x3_6z1 y4z1 y5z1 y6z1 y7 y8 x9_6z292 y10z292 y11z292 y12z292 y13z292 y14z292 y15z292) H := hP
                    have hD : va_D A (wS52 K cI cJ cZ cB p0 p1 p2 p3 p4 p5 p6 p7 p8 p9 p10 p11 p12 p13 p14 p15 x0_3z292 x0_4z292 x0_5 x0_6 x0_7z292 x0_8 x0_9 x0_10 x0_11 x0_12 x0_13z1 x0_14z1 x1_1 x1_2 x1_3z250 x1_4 x1_5 x1_6z249 x1_7z249 x1_8z249 y2 x3_5z1 x3_6z1 y4z1 y5z1 y6z1 y7 y8 x9_6z292 y10z292 y11z292 y12z292 y13z292 y14z292 y15z292) := hD
                    exact W.vret hx hb hr (fun t ht hW => ⟨⟨(), rfl, trivial, ⟨x0_3z292, x0_4z292, x0_7z292, x0_13z1, x0_14z1, x1_3z250, x1_6z249, x1_7z249, x1_8z249, x3_5z1, x3_6z1, y4z1, y5z1, y6z1, x9_6z292, y10z292, y11z292, y12z292, y13z292, y14z292, y15z292, by show va_P D classes _ t.heap; rw [ht]; exact hP, hD⟩⟩, hS.F ht⟩) hS.2.2 d_A_takeOperation_136
                · refine lv_iload hx hb d_A_takeOperation_92 (lv_at hl 0 rfl) ?_
                  refine lv_bipush (v := 63) hx hb d_A_takeOperation_94 (by decide) ?_
                  refine lv_icmp_le (tgt := 105) hx hb d_A_takeOperation_96 (by decide) (fun c293 => ?_) (fun c293 => ?_)
                  · refine lv_aload_n hx hb d_A_takeOperation_105 rfl (lv_at hl 3 rfl) ?_
                    refine va_get (D := D) (ci := 3) (v := .int x0_3z251) (C := "SignMachine$Assembler") (T := F_A) (N := 15) hx hb hk fi_A hown hK.1 hP 0 rfl rfl 3 (by decide) (hk _ k_636) (fun _ h9 => h9) rfl d_A_takeOperation_106 ?_
                    refine lv_if_ne (tgt := 136) hx hb d_A_takeOperation_109 (by decide) (fun c294 => ?_) (fun c294 => ?_)
                    · exact W.vret hx hb hr (fun t ht hW => ⟨⟨(), rfl, trivial, ⟨x0_3z251, x0_4z251, x0_7, x0_13z1, x0_14z1, x1_3z250, x1_6z249, x1_7z249, x1_8z249, x3_5z1, x3_6z1, y4z1, y5z1, y6z1, x9_6, y10, y11, y12, y13, y14, y15, by show va_P D classes _ t.heap; rw [ht]; exact hP, hD⟩⟩, hS.F ht⟩) hS.2.2 d_A_takeOperation_136
                    · refine lv_aload_n hx hb d_A_takeOperation_112 rfl (lv_at hl 3 rfl) ?_
                      refine lv_iload_n hx hb d_A_takeOperation_113 rfl (lv_at hl 2 rfl) ?_
                      refine cs_i (W.runS (As := [.int rz1]) (rest := [.ref p0]) ⟨hx, hb, hml, hown, hk⟩ (c_A_addressPart l rz1) (s_A_addressPart hk k_1049 ⟨Nat.le_of_ble_eq_true rfl, Nat.le_of_ble_eq_true rfl⟩) ⟨fun a U g mk q => q, fun U hU hW => ⟨rfl, trivial⟩⟩ rfl rfl hl.1 rfl (lv_room (Nat.le_of_ble_eq_true rfl)) d_A_takeOperation_114 ⟨Nat.le_of_ble_eq_true rfl, Nat.le_of_ble_eq_true rfl⟩) ?_
                      refine lv_topi (fun v295 hv295 => ?_)
                      refine lv_iload_n hx hb d_A_takeOperation_117 rfl (lv_at hl 1 rfl) ?_
                      refine lv_bipush (v := 12) hx hb d_A_takeOperation_118 (by decide) ?_
                      refine lv_ishl hx hb d_A_takeOperation_120 ?_
                      refine lv_topi (fun v296 hv296 => ?_)
                      refine lv_ior hx hb d_A_takeOperation_121 ?_
                      refine lv_topi (fun v297 hv297 => ?_)
                      refine lv_iload hx hb d_A_takeOperation_122 (lv_at hl 0 rfl) ?_
                      refine lv_bipush (v := 6) hx hb d_A_takeOperation_124 (by decide) ?_
                      refine lv_ishl hx hb d_A_takeOperation_126 ?_
                      refine lv_topi (fun v298 hv298 => ?_)
                      refine lv_ior hx hb d_A_takeOperation_127 ?_
                      refine lv_topi (fun v299 hv299 => ?_)
                      refine lv_aload_n hx hb d_A_takeOperation_128 rfl (lv_at hl 3 rfl) ?_
                      refine va_get (D := D) (ci := 3) (v := .int x0_12) (C := "SignMachine$Assembler") (T := F_A) (N := 15) hx hb hk fi_A hown hK.1 hP 0 rfl rfl 12 (by decide) (hk _ k_649) (fun _ h9 => h9) rfl d_A_takeOperation_129 ?_
                      refine lv_ior hx hb d_A_takeOperation_132 ?_
                      refine lv_topi (fun v300 hv300 => ?_)
                      refine kn_v (va_runV (C := "SignMachine$Assembler") (As := [.int v300]) (rest := []) ⟨hx, hb, hml, hown, hk⟩ (c_A_putInstruction_s1 l K D cI cJ cZ cB p0 p1 p2 p3 p4 p5 p6 p7 p8 p9 p10 p11 p12 p13 p14 p15 H.size x0_3z251 x0_4z251 x0_5 x0_6 x0_7 x0_8 x0_9 x0_10 x0_11 x0_12 x0_13z1 x0_14z1 x1_1 x1_2 x1_3z250 x1_4 x1_5 x1_6z249 x1_7z249 x1_8z249 y2 x3_5z1 x3_6z1 y4z1 y5z1 y6z1 y7 y8 x9_6 y10 y11 y12 y13 y14 y15  v300 ) (v_A_putInstruction_s1 hk k_968 ⟨Nat.le_of_ble_eq_true rfl, Nat.le_of_ble_eq_true rfl⟩) (pMC_v hK hP hD hC hS hA (ci := 3) (q0 := 0) rfl rfl rfl) rfl rfl hl.1 rfl (lv_room (Nat.le_of_ble_eq_true rfl)) d_A_takeOperation_133 ⟨by decide, by decide⟩) hS hA hD (fun u t H locs ht hB hFr hS => ?_)
                      obtain ⟨x0_3z301, x0_4z301, x0_7z301, x9_6z301, y10z301, y11z301, y12z301, y13z301, y14z301, y15z301, hP, hD⟩ := hB
                      rw [ht] at hP
                      have hD := dwk hD hFr
                      clear ht hFr
                      have hP : va_P D classes (wS52 K cI cJ cZ cB p0 p1 p2 p3 p4 p5 p6 p7 p8 p9 p10 p11 p12 p13 p14 p15 x0_3z301 x0_4z301 x0_5 x0_6 x0_7z301 x0_8 x0_9 x0_10 x0_11 x0_12 x0_13z1 x0_14z1 x1_1 x1_2 x1_3z250 x1_4 x1_5 x1_6z249 x1_7z249 x1_8z249 y2 x3_5z1 x3_6z1 y4z1 y5z1 y6z1 y7 y8 x9_6z301 y10z301 y11z301 y12z301 y13z301 y14z301 y15z301) H := hP
                      have hD : va_D A (wS52 K cI cJ cZ cB p0 p1 p2 p3 p4 p5 p6 p7 p8 p9 p10 p11 p12 p13 p14 p15 x0_3z301 x0_4z301 x0_5 x0_6 x0_7z301 x0_8 x0_9 x0_10 x0_11 x0_12 x0_13z1 x0_14z1 x1_1 x1_2 x1_3z250 x1_4 x1_5 x1_6z249 x1_7z249 x1_8z249 y2 x3_5z1 x3_6z1 y4z1 y5z1 y6z1 y7 y8 x9_6z301 y10z301 y11z301 y12z301 y13z301 y14z301 y15z301) := hD
                      exact W.vret hx hb hr (fun t ht hW => ⟨⟨(), rfl, trivial, ⟨x0_3z301, x0_4z301, x0_7z301, x0_13z1, x0_14z1, x1_3z250, x1_6z249, x1_7z249, x1_8z249, x3_5z1, x3_6z1, y4z1, y5z1, y6z1, x9_6z301, y10z301, y11z301, y12z301, y13z301, y14z301, y15z301, by show va_P D classes _ t.heap; rw [ht]; exact hP, hD⟩⟩, hS.F ht⟩) hS.2.2 d_A_takeOperation_136
                  · refine lv_aload_n hx hb d_A_takeOperation_99 rfl (lv_at hl 3 rfl) ?_
                    refine lv_iconst (v := 4) hx hb d_A_takeOperation_100 (by decide) ?_
                    refine sn_i (va_runV (C := "SignMachine$Assembler") (As := [.int (4 : Int32)]) (rest := []) ⟨hx, hb, hml, hown, hk⟩ (c_A_fail_s1 l K D cI cJ cZ cB p0 p1 p2 p3 p4 p5 p6 p7 p8 p9 p10 p11 p12 p13 p14 p15 H.size x0_3z251 x0_4z251 x0_5 x0_6 x0_7 x0_8 x0_9 x0_10 x0_11 x0_12 x0_13z1 x0_14z1 x1_1 x1_2 x1_3z250 x1_4 x1_5 x1_6z249 x1_7z249 x1_8z249 y2 x3_5z1 x3_6z1 y4z1 y5z1 y6z1 y7 y8 x9_6 y10 y11 y12 y13 y14 y15  (4 : Int32) ) (v_A_fail_s1 hk k_767 ⟨Nat.le_of_ble_eq_true rfl, Nat.le_of_ble_eq_true rfl⟩) (pMC_v hK hP hD hC hS hA (ci := 3) (q0 := 0) rfl rfl rfl) rfl rfl hl.1 rfl (lv_room (Nat.le_of_ble_eq_true rfl)) d_A_takeOperation_101 ⟨by decide, by decide⟩) hS hA hD (fun rz302 u t H locs hr0 ht hB hFr hS => ?_)
                    obtain ⟨x0_3z302, x0_4z302, hP, hD⟩ := hB
                    rw [ht] at hP
                    have hD := dwk hD hFr
                    clear ht hFr
                    have hP : va_P D classes (wS52 K cI cJ cZ cB p0 p1 p2 p3 p4 p5 p6 p7 p8 p9 p10 p11 p12 p13 p14 p15 x0_3z302 x0_4z302 x0_5 x0_6 x0_7 x0_8 x0_9 x0_10 x0_11 x0_12 x0_13z1 x0_14z1 x1_1 x1_2 x1_3z250 x1_4 x1_5 x1_6z249 x1_7z249 x1_8z249 y2 x3_5z1 x3_6z1 y4z1 y5z1 y6z1 y7 y8 x9_6 y10 y11 y12 y13 y14 y15) H := hP
                    have hD : va_D A (wS52 K cI cJ cZ cB p0 p1 p2 p3 p4 p5 p6 p7 p8 p9 p10 p11 p12 p13 p14 p15 x0_3z302 x0_4z302 x0_5 x0_6 x0_7 x0_8 x0_9 x0_10 x0_11 x0_12 x0_13z1 x0_14z1 x1_1 x1_2 x1_3z250 x1_4 x1_5 x1_6z249 x1_7z249 x1_8z249 y2 x3_5z1 x3_6z1 y4z1 y5z1 y6z1 y7 y8 x9_6 y10 y11 y12 y13 y14 y15) := hD
                    refine lv_pop hx hb d_A_takeOperation_104 rfl ?_
                    refine lv_aload_n hx hb d_A_takeOperation_105 rfl (lv_at hl 3 rfl) ?_
                    refine va_get (D := D) (ci := 3) (v := .int x0_3z302) (C := "SignMachine$Assembler") (T := F_A) (N := 15) hx hb hk fi_A hown hK.1 hP 0 rfl rfl 3 (by decide) (hk _ k_636) (fun _ h9 => h9) rfl d_A_takeOperation_106 ?_
                    refine lv_if_ne (tgt := 136) hx hb d_A_takeOperation_109 (by decide) (fun c303 => ?_) (fun c303 => ?_)
                    · exact W.vret hx hb hr (fun t ht hW => ⟨⟨(), rfl, trivial, ⟨x0_3z302, x0_4z302, x0_7, x0_13z1, x0_14z1, x1_3z250, x1_6z249, x1_7z249, x1_8z249, x3_5z1, x3_6z1, y4z1, y5z1, y6z1, x9_6, y10, y11, y12, y13, y14, y15, by show va_P D classes _ t.heap; rw [ht]; exact hP, hD⟩⟩, hS.F ht⟩) hS.2.2 d_A_takeOperation_136
                    · refine lv_aload_n hx hb d_A_takeOperation_112 rfl (lv_at hl 3 rfl) ?_
                      refine lv_iload_n hx hb d_A_takeOperation_113 rfl (lv_at hl 2 rfl) ?_
                      refine cs_i (W.runS (As := [.int rz1]) (rest := [.ref p0]) ⟨hx, hb, hml, hown, hk⟩ (c_A_addressPart l rz1) (s_A_addressPart hk k_1049 ⟨Nat.le_of_ble_eq_true rfl, Nat.le_of_ble_eq_true rfl⟩) ⟨fun a U g mk q => q, fun U hU hW => ⟨rfl, trivial⟩⟩ rfl rfl hl.1 rfl (lv_room (Nat.le_of_ble_eq_true rfl)) d_A_takeOperation_114 ⟨Nat.le_of_ble_eq_true rfl, Nat.le_of_ble_eq_true rfl⟩) ?_
                      refine lv_topi (fun v304 hv304 => ?_)
                      refine lv_iload_n hx hb d_A_takeOperation_117 rfl (lv_at hl 1 rfl) ?_
                      refine lv_bipush (v := 12) hx hb d_A_takeOperation_118 (by decide) ?_
                      refine lv_ishl hx hb d_A_takeOperation_120 ?_
                      refine lv_topi (fun v305 hv305 => ?_)
                      refine lv_ior hx hb d_A_takeOperation_121 ?_
                      refine lv_topi (fun v306 hv306 => ?_)
                      refine lv_iload hx hb d_A_takeOperation_122 (lv_at hl 0 rfl) ?_
                      refine lv_bipush (v := 6) hx hb d_A_takeOperation_124 (by decide) ?_
                      refine lv_ishl hx hb d_A_takeOperation_126 ?_
                      refine lv_topi (fun v307 hv307 => ?_)
                      refine lv_ior hx hb d_A_takeOperation_127 ?_
                      refine lv_topi (fun v308 hv308 => ?_)
                      refine lv_aload_n hx hb d_A_takeOperation_128 rfl (lv_at hl 3 rfl) ?_
                      refine va_get (D := D) (ci := 3) (v := .int x0_12) (C := "SignMachine$Assembler") (T := F_A) (N := 15) hx hb hk fi_A hown hK.1 hP 0 rfl rfl 12 (by decide) (hk _ k_649) (fun _ h9 => h9) rfl d_A_takeOperation_129 ?_
                      refine lv_ior hx hb d_A_takeOperation_132 ?_
                      refine lv_topi (fun v309 hv309 => ?_)
                      refine kn_v (va_runV (C := "SignMachine$Assembler") (As := [.int v309]) (rest := []) ⟨hx, hb, hml, hown, hk⟩ (c_A_putInstruction_s1 l K D cI cJ cZ cB p0 p1 p2 p3 p4 p5 p6 p7 p8 p9 p10 p11 p12 p13 p14 p15 H.size x0_3z302 x0_4z302 x0_5 x0_6 x0_7 x0_8 x0_9 x0_10 x0_11 x0_12 x0_13z1 x0_14z1 x1_1 x1_2 x1_3z250 x1_4 x1_5 x1_6z249 x1_7z249 x1_8z249 y2 x3_5z1 x3_6z1 y4z1 y5z1 y6z1 y7 y8 x9_6 y10 y11 y12 y13 y14 y15  v309 ) (v_A_putInstruction_s1 hk k_968 ⟨Nat.le_of_ble_eq_true rfl, Nat.le_of_ble_eq_true rfl⟩) (pMC_v hK hP hD hC hS hA (ci := 3) (q0 := 0) rfl rfl rfl) rfl rfl hl.1 rfl (lv_room (Nat.le_of_ble_eq_true rfl)) d_A_takeOperation_133 ⟨by decide, by decide⟩) hS hA hD (fun u t H locs ht hB hFr hS => ?_)
                      obtain ⟨x0_3z310, x0_4z310, x0_7z310, x9_6z310, y10z310, y11z310, y12z310, y13z310, y14z310, y15z310, hP, hD⟩ := hB
                      rw [ht] at hP
                      have hD := dwk hD hFr
                      clear ht hFr
                      have hP : va_P D classes (wS52 K cI cJ cZ cB p0 p1 p2 p3 p4 p5 p6 p7 p8 p9 p10 p11 p12 p13 p14 p15 x0_3z310 x0_4z310 x0_5 x0_6 x0_7z310 x0_8 x0_9 x0_10 x0_11 x0_12 x0_13z1 x0_14z1 x1_1 x1_2 x1_3z250 x1_4 x1_5 x1_6z249 x1_7z249 x1_8z249 y2 x3_5z1 x3_6z1 y4z1 y5z1 y6z1 y7 y8 x9_6z310 y10z310 y11z310 y12z310 y13z310 y14z310 y15z310) H := hP
                      have hD : va_D A (wS52 K cI cJ cZ cB p0 p1 p2 p3 p4 p5 p6 p7 p8 p9 p10 p11 p12 p13 p14 p15 x0_3z310 x0_4z310 x0_5 x0_6 x0_7z310 x0_8 x0_9 x0_10 x0_11 x0_12 x0_13z1 x0_14z1 x1_1 x1_2 x1_3z250 x1_4 x1_5 x1_6z249 x1_7z249 x1_8z249 y2 x3_5z1 x3_6z1 y4z1 y5z1 y6z1 y7 y8 x9_6z310 y10z310 y11z310 y12z310 y13z310 y14z310 y15z310) := hD
                      exact W.vret hx hb hr (fun t ht hW => ⟨⟨(), rfl, trivial, ⟨x0_3z310, x0_4z310, x0_7z310, x0_13z1, x0_14z1, x1_3z250, x1_6z249, x1_7z249, x1_8z249, x3_5z1, x3_6z1, y4z1, y5z1, y6z1, x9_6z310, y10z310, y11z310, y12z310, y13z310, y14z310, y15z310, by show va_P D classes _ t.heap; rw [ht]; exact hP, hD⟩⟩, hS.F ht⟩) hS.2.2 d_A_takeOperation_136
theorem v_A_takeOperation_s1 {R : Room} {s : State} {args : Array Value} {own : String} {index : Nat} (hk : ∀ w ∈ tb, w.before args s = true) (hl : Cond.methodLink own index y_A_takeOperation ∈ tb) (hR : 5 + 1 ≤ R.frames ∧ 8 + (5 + 11) + 119 ≤ R.locals) : CallW R s args own "SignMachine$Assembler" index y_A_takeOperation b_A_takeOperation 5 none (.code y_A_takeOperation b_A_takeOperation 5 none :: tb) ({ frames := 5, cells := 0, slots := 0, locals := 119 }) 0 0 1 := mk_v 1 hk k_980 hl k_979 k_45 k_123 rfl rfl h_A_takeOperation hR

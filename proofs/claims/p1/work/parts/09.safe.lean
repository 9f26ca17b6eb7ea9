set_option maxHeartbeats 4000000 in
set_option maxRecDepth 100000 in
theorem c_A_readLabel_s1 (l : Launch) (D : va_G) (cI cJ cZ cB : ClassId) (p0 p1 p2 p3 p4 p5 p6 p7 p8 p9 p10 p11 p12 p13 p14 p15 : Nat) (sz : Nat) (x0_3 : Int32) (x0_4 : Int32) (x0_5 : Int32) (x0_6 : Int32) (x0_7 : Int32) (x0_8 : Bool) (x0_9 : Int64) (x0_10 : Int32) (x0_12 : Int32) (x0_13 : Int32) (x0_14 : Int32) (x1_1 : Int32) (x1_2 : Int32) (x1_3 : Int32) (x1_4 : Int32) (x1_5 : Int32) (x1_6 : Int32) (x1_7 : Int64) (x1_8 : Int32) (y2 : Nat → Int32) (x3_5 : Int32) (x3_6 : Int32) (y4 : Nat → Int64) (y5 : Nat → Int32) (y6 : Nat → Int32) (y7 : Nat → Int32) (y8 : Nat → Int32) (x9_6 : Int32) (y10 : Nat → Int32) (y11 : Nat → Int32) (y12 : Nat → Int32) (y13 : Nat → Int32) (y14 : Nat → Int32) (y15 : Nat → Int32)  : Met l y_A_readLabel (.code y_A_readLabel b_A_readLabel 1 none :: tb) ({ frames := 2, cells := 0, slots := 0, locals := 48 }) (pM D cI cJ cZ cB (wS1 cI cJ cZ cB p0 p1 p2 p3 p4 p5 p6 p7 p8 p9 p10 p11 p12 p13 p14 p15 x0_3 x0_4 x0_5 x0_6 x0_7 x0_8 x0_9 x0_10 x0_12 x0_13 x0_14 x1_1 x1_2 x1_3 x1_4 x1_5 x1_6 x1_7 x1_8 y2 x3_5 x3_6 y4 y5 y6 y7 y8 x9_6 y10 y11 y12 y13 y14 y15) sz [.ref p0]) (va_Qv (fun (_ : Unit) => True) (fun _ t => (∃ u_x0_3 : Int32, ∃ u_x0_4 : Int32, ∃ u_x0_9 : Int64, ∃ u_x1_3 : Int32, ∃ u_x1_6 : Int32, ∃ u_x1_7 : Int64, ∃ u_x1_8 : Int32, va_P D classes (wS1 cI cJ cZ cB p0 p1 p2 p3 p4 p5 p6 p7 p8 p9 p10 p11 p12 p13 p14 p15 u_x0_3 u_x0_4 x0_5 x0_6 x0_7 x0_8 u_x0_9 x0_10 x0_12 x0_13 x0_14 x1_1 x1_2 u_x1_3 x1_4 x1_5 u_x1_6 u_x1_7 u_x1_8 y2 x3_5 x3_6 y4 y5 y6 y7 y8 x9_6 y10 y11 y12 y13 y14 y15) t.heap ∧ va_D (va_A (wS1 cI cJ cZ cB p0 p1 p2 p3 p4 p5 p6 p7 p8 p9 p10 p11 p12 p13 p14 p15 x0_3 x0_4 x0_5 x0_6 x0_7 x0_8 x0_9 x0_10 x0_12 x0_13 x0_14 x1_1 x1_2 x1_3 x1_4 x1_5 x1_6 x1_7 x1_8 y2 x3_5 x3_6 y4 y5 y6 y7 y8 x9_6 y10 y11 y12 y13 y14 y15) sz) (wS1 cI cJ cZ cB p0 p1 p2 p3 p4 p5 p6 p7 p8 p9 p10 p11 p12 p13 p14 p15 u_x0_3 u_x0_4 x0_5 x0_6 x0_7 x0_8 u_x0_9 x0_10 x0_12 x0_13 x0_14 x1_1 x1_2 u_x1_3 x1_4 x1_5 u_x1_6 u_x1_7 u_x1_8 y2 x3_5 x3_6 y4 y5 y6 y7 y8 x9_6 y10 y11 y12 y13 y14 y15))) (va_A (wS1 cI cJ cZ cB p0 p1 p2 p3 p4 p5 p6 p7 p8 p9 p10 p11 p12 p13 p14 p15 x0_3 x0_4 x0_5 x0_6 x0_7 x0_8 x0_9 x0_10 x0_12 x0_13 x0_14 x1_1 x1_2 x1_3 x1_4 x1_5 x1_6 x1_7 x1_8 y2 x3_5 x3_6 y4 y5 y6 y7 y8 x9_6 y10 y11 y12 y13 y14 y15) sz)) 0 0 (va_A (wS1 cI cJ cZ cB p0 p1 p2 p3 p4 p5 p6 p7 p8 p9 p10 p11 p12 p13 p14 p15 x0_3 x0_4 x0_5 x0_6 x0_7 x0_8 x0_9 x0_10 x0_12 x0_13 x0_14 x1_1 x1_2 x1_3 x1_4 x1_5 x1_6 x1_7 x1_8 y2 x3_5 x3_6 y4 y5 y6 y7 y8 x9_6 y10 y11 y12 y13 y14 y15) sz) := by
  refine Met.ofW (cc := b_A_readLabel) (maxL := 1) (ret := none) (by decide) rfl ?_
  intro p e s m args below meth c s₁ B hml hv
  obtain ⟨rfl, hsz, hK, hP, hD0⟩ := hv
  subst hsz
  have hD := hD0.self (sz := s.heap.size)
  generalize hAe : va_A (wS1 cI cJ cZ cB p0 p1 p2 p3 p4 p5 p6 p7 p8 p9 p10 p11 p12 p13 p14 p15 x0_3 x0_4 x0_5 x0_6 x0_7 x0_8 x0_9 x0_10 x0_12 x0_13 x0_14 x1_1 x1_2 x1_3 x1_4 x1_5 x1_6 x1_7 x1_8 y2 x3_5 x3_6 y4 y5 y6 y7 y8 x9_6 y10 y11 y12 y13 y14 y15) s.heap.size = A at hD ⊢
  have hA : ∀ q : Nat, s.heap.size ≤ q → A q := fun q h => by rw [← hAe]; exact Or.inr h
  clear hAe hD0
  have hS : va_S A s.heap s.heap [] := va_S.rf
  have hx := B.exec
  have hb := B.bytes
  have hr := B.returns
  have hts := atoms_spec (ws := .code y_A_readLabel b_A_readLabel 1 none :: tb) B.pre
  have hk : ∀ w ∈ tb, w.before [.ref p0].toArray s = true := fun w h => hts w (List.mem_cons_of_mem _ h)
  have hown : s.vm.findClass "SignMachine$Assembler" = some m.cls := findClass_of_methodNamed B.named
  have hlocks := B.notSynchronized
  have hl := lv_entry ([.ref p0]) (n := 1) (Nat.le_of_ble_eq_true rfl)
  rw [lg_entry_eq]
  generalize (lg_sl ([.ref p0]) ++ List.replicate (1 - (lg_sl ([.ref p0])).length) Slot.unset).toArray = ls at hl ⊢
  have hl : lv_has ls 1 [(0, .ref p0)] := hl
  refine lv_aload_n hx hb d_A_readLabel_0 rfl (lv_at hl 0 rfl) ?_
  refine va_get (D := D) (ci := 3) (v := .ref p1) (C := "SignMachine$Assembler") (T := F_A) (N := 15) hx hb hk fi_A hown hK.1 hP 0 rfl rfl 0 (by decide) (hk _ k_631) (fun _ h9 => h9) rfl d_A_readLabel_1 ?_
  refine sn_i (va_runV (C := "SignMachine$Source") (As := []) (rest := []) ⟨hx, hb, hml, hown, hk⟩ (c_R_peek_s1 l D cI cJ cZ cB p0 p1 p2 p3 p4 p5 p6 p7 p8 p9 p10 p11 p12 p13 p14 p15 s.heap.size x0_3 x0_4 x0_5 x0_6 x0_7 x0_8 x0_9 x0_10 x0_12 x0_13 x0_14 x1_1 x1_2 x1_3 x1_4 x1_5 x1_6 x1_7 x1_8 y2 x3_5 x3_6 y4 y5 y6 y7 y8 x9_6 y10 y11 y12 y13 y14 y15 ) (v_R_peek_s1 hk k_739 ⟨Nat.le_of_ble_eq_true rfl, Nat.le_of_ble_eq_true rfl⟩) (pM_v hK hP hD (ci := 4) (q0 := 1) rfl rfl rfl) rfl rfl hl.1 rfl (lv_room (Nat.le_of_ble_eq_true rfl)) d_A_readLabel_4 ⟨by decide, by decide⟩) hS hA hD (fun rz1 u t H locs hr0 ht hB hFr hS => ?_)
  obtain ⟨hP, hD⟩ := hB
  rw [ht] at hP
  have hD := dwk hD hFr
  clear ht hFr
  have hP : va_P D classes (wS1 cI cJ cZ cB p0 p1 p2 p3 p4 p5 p6 p7 p8 p9 p10 p11 p12 p13 p14 p15 x0_3 x0_4 x0_5 x0_6 x0_7 x0_8 x0_9 x0_10 x0_12 x0_13 x0_14 x1_1 x1_2 x1_3 x1_4 x1_5 x1_6 x1_7 x1_8 y2 x3_5 x3_6 y4 y5 y6 y7 y8 x9_6 y10 y11 y12 y13 y14 y15) H := hP
  have hD : va_D A (wS1 cI cJ cZ cB p0 p1 p2 p3 p4 p5 p6 p7 p8 p9 p10 p11 p12 p13 p14 p15 x0_3 x0_4 x0_5 x0_6 x0_7 x0_8 x0_9 x0_10 x0_12 x0_13 x0_14 x1_1 x1_2 x1_3 x1_4 x1_5 x1_6 x1_7 x1_8 y2 x3_5 x3_6 y4 y5 y6 y7 y8 x9_6 y10 y11 y12 y13 y14 y15) := hD
  refine lv_bipush (v := 32) hx hb d_A_readLabel_7 (by decide) ?_
  refine lv_icmp_ne (tgt := 13) hx hb d_A_readLabel_9 (by decide) (fun c2 => ?_) (fun c2 => ?_)
  · refine lv_aload_n hx hb d_A_readLabel_13 rfl (lv_at hl 0 rfl) ?_
    refine va_get (D := D) (ci := 3) (v := .ref p1) (C := "SignMachine$Assembler") (T := F_A) (N := 15) hx hb hk fi_A hown hK.1 hP 0 rfl rfl 0 (by decide) (hk _ k_631) (fun _ h9 => h9) rfl d_A_readLabel_14 ?_
    refine kn_v (va_runV (C := "SignMachine$Source") (As := []) (rest := []) ⟨hx, hb, hml, hown, hk⟩ (c_R_readToken_s1 l D cI cJ cZ cB p0 p1 p2 p3 p4 p5 p6 p7 p8 p9 p10 p11 p12 p13 p14 p15 H.size x0_3 x0_4 x0_5 x0_6 x0_7 x0_8 x0_9 x0_10 x0_12 x0_13 x0_14 x1_1 x1_2 x1_3 x1_4 x1_5 x1_6 x1_7 x1_8 y2 x3_5 x3_6 y4 y5 y6 y7 y8 x9_6 y10 y11 y12 y13 y14 y15 ) (v_R_readToken_s1 hk k_752 ⟨Nat.le_of_ble_eq_true rfl, Nat.le_of_ble_eq_true rfl⟩) (pM_v hK hP hD (ci := 4) (q0 := 1) rfl rfl rfl) rfl rfl hl.1 rfl (lv_room (Nat.le_of_ble_eq_true rfl)) d_A_readLabel_17 ⟨by decide, by decide⟩) hS hA hD (fun u t H locs ht hB hFr hS => ?_)
    obtain ⟨x1_3z3, x1_6z3, x1_7z3, x1_8z3, hP, hD⟩ := hB
    rw [ht] at hP
    have hD := dwk hD hFr
    clear ht hFr
    have hP : va_P D classes (wS1 cI cJ cZ cB p0 p1 p2 p3 p4 p5 p6 p7 p8 p9 p10 p11 p12 p13 p14 p15 x0_3 x0_4 x0_5 x0_6 x0_7 x0_8 x0_9 x0_10 x0_12 x0_13 x0_14 x1_1 x1_2 x1_3z3 x1_4 x1_5 x1_6z3 x1_7z3 x1_8z3 y2 x3_5 x3_6 y4 y5 y6 y7 y8 x9_6 y10 y11 y12 y13 y14 y15) H := hP
    have hD : va_D A (wS1 cI cJ cZ cB p0 p1 p2 p3 p4 p5 p6 p7 p8 p9 p10 p11 p12 p13 p14 p15 x0_3 x0_4 x0_5 x0_6 x0_7 x0_8 x0_9 x0_10 x0_12 x0_13 x0_14 x1_1 x1_2 x1_3z3 x1_4 x1_5 x1_6z3 x1_7z3 x1_8z3 y2 x3_5 x3_6 y4 y5 y6 y7 y8 x9_6 y10 y11 y12 y13 y14 y15) := hD
    refine lv_aload_n hx hb d_A_readLabel_20 rfl (lv_at hl 0 rfl) ?_
    refine va_get (D := D) (ci := 3) (v := .ref p1) (C := "SignMachine$Assembler") (T := F_A) (N := 15) hx hb hk fi_A hown hK.1 hP 0 rfl rfl 0 (by decide) (hk _ k_631) (fun _ h9 => h9) rfl d_A_readLabel_21 ?_
    refine va_getN (D := D) (ci := 4) (v := .int x1_6z3) (C := "SignMachine$Source") (T := F_R) (N := 9) hx hb hk fi_R hown hK.1 hP 1 rfl rfl 6 (by decide) (va_Nw.use rfl (hK.2 _ n_544)) (fun _ h9 => h9) rfl d_A_readLabel_24 ?_
    refine lv_iconst (v := 2) hx hb d_A_readLabel_27 (by decide) ?_
    refine lv_icmp_ne (tgt := 43) hx hb d_A_readLabel_28 (by decide) (fun c4 => ?_) (fun c4 => ?_)
    · refine lv_aload_n hx hb d_A_readLabel_43 rfl (lv_at hl 0 rfl) ?_
      refine lv_iconst (v := 1) hx hb d_A_readLabel_44 (by decide) ?_
      refine sn_i (va_runV (C := "SignMachine$Assembler") (As := [.int (1 : Int32)]) (rest := []) ⟨hx, hb, hml, hown, hk⟩ (c_A_fail_s1 l D cI cJ cZ cB p0 p1 p2 p3 p4 p5 p6 p7 p8 p9 p10 p11 p12 p13 p14 p15 H.size x0_3 x0_4 x0_5 x0_6 x0_7 x0_8 x0_9 x0_10 x0_12 x0_13 x0_14 x1_1 x1_2 x1_3z3 x1_4 x1_5 x1_6z3 x1_7z3 x1_8z3 y2 x3_5 x3_6 y4 y5 y6 y7 y8 x9_6 y10 y11 y12 y13 y14 y15 (1 : Int32)) (v_A_fail_s1 hk k_767 ⟨Nat.le_of_ble_eq_true rfl, Nat.le_of_ble_eq_true rfl⟩) (pM_v hK hP hD (ci := 3) (q0 := 0) rfl rfl rfl) rfl rfl hl.1 rfl (lv_room (Nat.le_of_ble_eq_true rfl)) d_A_readLabel_45 ⟨by decide, by decide⟩) hS hA hD (fun rz5 u t H locs hr0 ht hB hFr hS => ?_)
      obtain ⟨x0_3z5, x0_4z5, hP, hD⟩ := hB
      rw [ht] at hP
      have hD := dwk hD hFr
      clear ht hFr
      have hP : va_P D classes (wS1 cI cJ cZ cB p0 p1 p2 p3 p4 p5 p6 p7 p8 p9 p10 p11 p12 p13 p14 p15 x0_3z5 x0_4z5 x0_5 x0_6 x0_7 x0_8 x0_9 x0_10 x0_12 x0_13 x0_14 x1_1 x1_2 x1_3z3 x1_4 x1_5 x1_6z3 x1_7z3 x1_8z3 y2 x3_5 x3_6 y4 y5 y6 y7 y8 x9_6 y10 y11 y12 y13 y14 y15) H := hP
      have hD : va_D A (wS1 cI cJ cZ cB p0 p1 p2 p3 p4 p5 p6 p7 p8 p9 p10 p11 p12 p13 p14 p15 x0_3z5 x0_4z5 x0_5 x0_6 x0_7 x0_8 x0_9 x0_10 x0_12 x0_13 x0_14 x1_1 x1_2 x1_3z3 x1_4 x1_5 x1_6z3 x1_7z3 x1_8z3 y2 x3_5 x3_6 y4 y5 y6 y7 y8 x9_6 y10 y11 y12 y13 y14 y15) := hD
      refine lv_pop hx hb d_A_readLabel_48 rfl ?_
      exact W.vret hx hb hr (fun t ht hW => ⟨⟨(), rfl, trivial, ⟨x0_3z5, x0_4z5, x0_9, x1_3z3, x1_6z3, x1_7z3, x1_8z3, by show va_P D classes _ t.heap; rw [ht]; exact hP, hD⟩⟩, hS.F ht⟩) hS.2.2 d_A_readLabel_49
    · refine lv_aload_n hx hb d_A_readLabel_31 rfl (lv_at hl 0 rfl) ?_
      refine va_get (D := D) (ci := 3) (v := .ref p1) (C := "SignMachine$Assembler") (T := F_A) (N := 15) hx hb hk fi_A hown hK.1 hP 0 rfl rfl 0 (by decide) (hk _ k_631) (fun _ h9 => h9) rfl d_A_readLabel_32 ?_
      refine sn_i (va_runV (C := "SignMachine$Source") (As := []) (rest := []) ⟨hx, hb, hml, hown, hk⟩ (c_R_peek_s1 l D cI cJ cZ cB p0 p1 p2 p3 p4 p5 p6 p7 p8 p9 p10 p11 p12 p13 p14 p15 H.size x0_3 x0_4 x0_5 x0_6 x0_7 x0_8 x0_9 x0_10 x0_12 x0_13 x0_14 x1_1 x1_2 x1_3z3 x1_4 x1_5 x1_6z3 x1_7z3 x1_8z3 y2 x3_5 x3_6 y4 y5 y6 y7 y8 x9_6 y10 y11 y12 y13 y14 y15 ) (v_R_peek_s1 hk k_739 ⟨Nat.le_of_ble_eq_true rfl, Nat.le_of_ble_eq_true rfl⟩) (pM_v hK hP hD (ci := 4) (q0 := 1) rfl rfl rfl) rfl rfl hl.1 rfl (lv_room (Nat.le_of_ble_eq_true rfl)) d_A_readLabel_35 ⟨by decide, by decide⟩) hS hA hD (fun rz6 u t H locs hr0 ht hB hFr hS => ?_)
      obtain ⟨hP, hD⟩ := hB
      rw [ht] at hP
      have hD := dwk hD hFr
      clear ht hFr
      have hP : va_P D classes (wS1 cI cJ cZ cB p0 p1 p2 p3 p4 p5 p6 p7 p8 p9 p10 p11 p12 p13 p14 p15 x0_3 x0_4 x0_5 x0_6 x0_7 x0_8 x0_9 x0_10 x0_12 x0_13 x0_14 x1_1 x1_2 x1_3z3 x1_4 x1_5 x1_6z3 x1_7z3 x1_8z3 y2 x3_5 x3_6 y4 y5 y6 y7 y8 x9_6 y10 y11 y12 y13 y14 y15) H := hP
      have hD : va_D A (wS1 cI cJ cZ cB p0 p1 p2 p3 p4 p5 p6 p7 p8 p9 p10 p11 p12 p13 p14 p15 x0_3 x0_4 x0_5 x0_6 x0_7 x0_8 x0_9 x0_10 x0_12 x0_13 x0_14 x1_1 x1_2 x1_3z3 x1_4 x1_5 x1_6z3 x1_7z3 x1_8z3 y2 x3_5 x3_6 y4 y5 y6 y7 y8 x9_6 y10 y11 y12 y13 y14 y15) := hD
      refine lv_bipush (v := 32) hx hb d_A_readLabel_38 (by decide) ?_
      refine lv_icmp_eq (tgt := 50) hx hb d_A_readLabel_40 (by decide) (fun c7 => ?_) (fun c7 => ?_)
      · refine lv_aload_n hx hb d_A_readLabel_50 rfl (lv_at hl 0 rfl) ?_
        refine lv_aload_n hx hb d_A_readLabel_51 rfl (lv_at hl 0 rfl) ?_
        refine va_get (D := D) (ci := 3) (v := .ref p1) (C := "SignMachine$Assembler") (T := F_A) (N := 15) hx hb hk fi_A hown hK.1 hP 0 rfl rfl 0 (by decide) (hk _ k_631) (fun _ h9 => h9) rfl d_A_readLabel_52 ?_
        refine va_getN (D := D) (ci := 4) (v := .long x1_7z3) (C := "SignMachine$Source") (T := F_R) (N := 9) hx hb hk fi_R hown hK.1 hP 1 rfl rfl 7 (by decide) (va_Nw.use rfl (hK.2 _ n_546)) (fun _ h9 => h9) rfl d_A_readLabel_55 ?_
        refine va_put (D := D) (ci := 3) (v := .long x1_7z3) (ty := .long) (C := "SignMachine$Assembler") (T := F_A) (N := 15) hx hb hk fi_A ft_A ft_A_ok fn_A hown hK.1 hP hD hS 0 rfl rfl 9 (by decide) (hk _ k_646) (fun _ h9 => h9) rfl (by decide +kernel) rfl rfl (Nat.le_of_ble_eq_true rfl) d_A_readLabel_58 (fun H locs hP hD hS => ?_)
        have hP : va_P D classes (wS1 cI cJ cZ cB p0 p1 p2 p3 p4 p5 p6 p7 p8 p9 p10 p11 p12 p13 p14 p15 x0_3 x0_4 x0_5 x0_6 x0_7 x0_8 x1_7z3 x0_10 x0_12 x0_13 x0_14 x1_1 x1_2 x1_3z3 x1_4 x1_5 x1_6z3 x1_7z3 x1_8z3 y2 x3_5 x3_6 y4 y5 y6 y7 y8 x9_6 y10 y11 y12 y13 y14 y15) H := hP
        have hD : va_D A (wS1 cI cJ cZ cB p0 p1 p2 p3 p4 p5 p6 p7 p8 p9 p10 p11 p12 p13 p14 p15 x0_3 x0_4 x0_5 x0_6 x0_7 x0_8 x1_7z3 x0_10 x0_12 x0_13 x0_14 x1_1 x1_2 x1_3z3 x1_4 x1_5 x1_6z3 x1_7z3 x1_8z3 y2 x3_5 x3_6 y4 y5 y6 y7 y8 x9_6 y10 y11 y12 y13 y14 y15) := hD
        refine lv_aload_n hx hb d_A_readLabel_61 rfl (lv_at hl 0 rfl) ?_
        refine va_get (D := D) (ci := 3) (v := .long x1_7z3) (C := "SignMachine$Assembler") (T := F_A) (N := 15) hx hb hk fi_A hown hK.1 hP 0 rfl rfl 9 (by decide) (hk _ k_646) (fun _ h9 => h9) rfl d_A_readLabel_62 ?_
        refine lv_iconst (v := 2) hx hb d_A_readLabel_65 (by decide) ?_
        refine cs_i (W.runS (As := [.long x1_7z3, .int (2 : Int32)]) (rest := []) ⟨hx, hb, hml, hown, hk⟩ (c_N_localDigit l x1_7z3 (2 : Int32)) (s_N_localDigit hk k_771 ⟨Nat.le_of_ble_eq_true rfl, Nat.le_of_ble_eq_true rfl⟩) ⟨fun a U g mk q => q, fun U hU hW => ⟨rfl, trivial⟩⟩ rfl rfl hl.1 rfl (lv_room (Nat.le_of_ble_eq_true rfl)) d_A_readLabel_66 ⟨Nat.le_of_ble_eq_true rfl, Nat.le_of_ble_eq_true rfl⟩) ?_
        refine lv_topi (fun v8 hv8 => ?_)
        refine lv_if_ge (tgt := 84) hx hb d_A_readLabel_69 (by decide) (fun c9 => ?_) (fun c9 => ?_)
        · refine lv_aload_n hx hb d_A_readLabel_84 rfl (lv_at hl 0 rfl) ?_
          refine lv_iconst (v := 3) hx hb d_A_readLabel_85 (by decide) ?_
          refine sn_i (va_runV (C := "SignMachine$Assembler") (As := [.int (3 : Int32)]) (rest := []) ⟨hx, hb, hml, hown, hk⟩ (c_A_fail_s1 l D cI cJ cZ cB p0 p1 p2 p3 p4 p5 p6 p7 p8 p9 p10 p11 p12 p13 p14 p15 H.size x0_3 x0_4 x0_5 x0_6 x0_7 x0_8 x1_7z3 x0_10 x0_12 x0_13 x0_14 x1_1 x1_2 x1_3z3 x1_4 x1_5 x1_6z3 x1_7z3 x1_8z3 y2 x3_5 x3_6 y4 y5 y6 y7 y8 x9_6 y10 y11 y12 y13 y14 y15 (3 : Int32)) (v_A_fail_s1 hk k_767 ⟨Nat.le_of_ble_eq_true rfl, Nat.le_of_ble_eq_true rfl⟩) (pM_v hK hP hD (ci := 3) (q0 := 0) rfl rfl rfl) rfl rfl hl.1 rfl (lv_room (Nat.le_of_ble_eq_true rfl)) d_A_readLabel_86 ⟨by decide, by decide⟩) hS hA hD (fun rz10 u t H locs hr0 ht hB hFr hS => ?_)
          obtain ⟨x0_3z10, x0_4z10, hP, hD⟩ := hB
          rw [ht] at hP
          have hD := dwk hD hFr
          clear ht hFr
          have hP : va_P D classes (wS1 cI cJ cZ cB p0 p1 p2 p3 p4 p5 p6 p7 p8 p9 p10 p11 p12 p13 p14 p15 x0_3z10 x0_4z10 x0_5 x0_6 x0_7 x0_8 x1_7z3 x0_10 x0_12 x0_13 x0_14 x1_1 x1_2 x1_3z3 x1_4 x1_5 x1_6z3 x1_7z3 x1_8z3 y2 x3_5 x3_6 y4 y5 y6 y7 y8 x9_6 y10 y11 y12 y13 y14 y15) H := hP
          have hD : va_D A (wS1 cI cJ cZ cB p0 p1 p2 p3 p4 p5 p6 p7 p8 p9 p10 p11 p12 p13 p14 p15 x0_3z10 x0_4z10 x0_5 x0_6 x0_7 x0_8 x1_7z3 x0_10 x0_12 x0_13 x0_14 x1_1 x1_2 x1_3z3 x1_4 x1_5 x1_6z3 x1_7z3 x1_8z3 y2 x3_5 x3_6 y4 y5 y6 y7 y8 x9_6 y10 y11 y12 y13 y14 y15) := hD
          refine lv_pop hx hb d_A_readLabel_89 rfl ?_
          exact W.vret hx hb hr (fun t ht hW => ⟨⟨(), rfl, trivial, ⟨x0_3z10, x0_4z10, x1_7z3, x1_3z3, x1_6z3, x1_7z3, x1_8z3, by show va_P D classes _ t.heap; rw [ht]; exact hP, hD⟩⟩, hS.F ht⟩) hS.2.2 d_A_readLabel_90
        · refine lv_aload_n hx hb d_A_readLabel_72 rfl (lv_at hl 0 rfl) ?_
          refine va_get (D := D) (ci := 3) (v := .long x1_7z3) (C := "SignMachine$Assembler") (T := F_A) (N := 15) hx hb hk fi_A hown hK.1 hP 0 rfl rfl 9 (by decide) (hk _ k_646) (fun _ h9 => h9) rfl d_A_readLabel_73 ?_
          refine lv_bipush (v := 6) hx hb d_A_readLabel_76 (by decide) ?_
          refine cs_i (W.runS (As := [.long x1_7z3, .int (6 : Int32)]) (rest := []) ⟨hx, hb, hml, hown, hk⟩ (c_N_localDigit l x1_7z3 (6 : Int32)) (s_N_localDigit hk k_771 ⟨Nat.le_of_ble_eq_true rfl, Nat.le_of_ble_eq_true rfl⟩) ⟨fun a U g mk q => q, fun U hU hW => ⟨rfl, trivial⟩⟩ rfl rfl hl.1 rfl (lv_room (Nat.le_of_ble_eq_true rfl)) d_A_readLabel_78 ⟨Nat.le_of_ble_eq_true rfl, Nat.le_of_ble_eq_true rfl⟩) ?_
          refine lv_topi (fun v11 hv11 => ?_)
          refine lv_if_lt (tgt := 90) hx hb d_A_readLabel_81 (by decide) (fun c12 => ?_) (fun c12 => ?_)
          · exact W.vret hx hb hr (fun t ht hW => ⟨⟨(), rfl, trivial, ⟨x0_3, x0_4, x1_7z3, x1_3z3, x1_6z3, x1_7z3, x1_8z3, by show va_P D classes _ t.heap; rw [ht]; exact hP, hD⟩⟩, hS.F ht⟩) hS.2.2 d_A_readLabel_90
          · refine lv_aload_n hx hb d_A_readLabel_84 rfl (lv_at hl 0 rfl) ?_
            refine lv_iconst (v := 3) hx hb d_A_readLabel_85 (by decide) ?_
            refine sn_i (va_runV (C := "SignMachine$Assembler") (As := [.int (3 : Int32)]) (rest := []) ⟨hx, hb, hml, hown, hk⟩ (c_A_fail_s1 l D cI cJ cZ cB p0 p1 p2 p3 p4 p5 p6 p7 p8 p9 p10 p11 p12 p13 p14 p15 H.size x0_3 x0_4 x0_5 x0_6 x0_7 x0_8 x1_7z3 x0_10 x0_12 x0_13 x0_14 x1_1 x1_2 x1_3z3 x1_4 x1_5 x1_6z3 x1_7z3 x1_8z3 y2 x3_5 x3_6 y4 y5 y6 y7 y8 x9_6 y10 y11 y12 y13 y14 y15 (3 : Int32)) (v_A_fail_s1 hk k_767 ⟨Nat.le_of_ble_eq_true rfl, Nat.le_of_ble_eq_true rfl⟩) (pM_v hK hP hD (ci := 3) (q0 := 0) rfl rfl rfl) rfl rfl hl.1 rfl (lv_room (Nat.le_of_ble_eq_true rfl)) d_A_readLabel_86 ⟨by decide, by decide⟩) hS hA hD (fun rz13 u t H locs hr0 ht hB hFr hS => ?_)
            obtain ⟨x0_3z13, x0_4z13, hP, hD⟩ := hB
            rw [ht] at hP
            have hD := dwk hD hFr
            clear ht hFr
            have hP : va_P D classes (wS1 cI cJ cZ cB p0 p1 p2 p3 p4 p5 p6 p7 p8 p9 p10 p11 p12 p13 p14 p15 x0_3z13 x0_4z13 x0_5 x0_6 x0_7 x0_8 x1_7z3 x0_10 x0_12 x0_13 x0_14 x1_1 x1_2 x1_3z3 x1_4 x1_5 x1_6z3 x1_7z3 x1_8z3 y2 x3_5 x3_6 y4 y5 y6 y7 y8 x9_6 y10 y11 y12 y13 y14 y15) H := hP
            have hD : va_D A (wS1 cI cJ cZ cB p0 p1 p2 p3 p4 p5 p6 p7 p8 p9 p10 p11 p12 p13 p14 p15 x0_3z13 x0_4z13 x0_5 x0_6 x0_7 x0_8 x1_7z3 x0_10 x0_12 x0_13 x0_14 x1_1 x1_2 x1_3z3 x1_4 x1_5 x1_6z3 x1_7z3 x1_8z3 y2 x3_5 x3_6 y4 y5 y6 y7 y8 x9_6 y10 y11 y12 y13 y14 y15) := hD
            refine lv_pop hx hb d_A_readLabel_89 rfl ?_
            exact W.vret hx hb hr (fun t ht hW => ⟨⟨(), rfl, trivial, ⟨x0_3z13, x0_4z13, x1_7z3, x1_3z3, x1_6z3, x1_7z3, x1_8z3, by show va_P D classes _ t.heap; rw [ht]; exact hP, hD⟩⟩, hS.F ht⟩) hS.2.2 d_A_readLabel_90
      · refine lv_aload_n hx hb d_A_readLabel_43 rfl (lv_at hl 0 rfl) ?_
        refine lv_iconst (v := 1) hx hb d_A_readLabel_44 (by decide) ?_
        refine sn_i (va_runV (C := "SignMachine$Assembler") (As := [.int (1 : Int32)]) (rest := []) ⟨hx, hb, hml, hown, hk⟩ (c_A_fail_s1 l D cI cJ cZ cB p0 p1 p2 p3 p4 p5 p6 p7 p8 p9 p10 p11 p12 p13 p14 p15 H.size x0_3 x0_4 x0_5 x0_6 x0_7 x0_8 x0_9 x0_10 x0_12 x0_13 x0_14 x1_1 x1_2 x1_3z3 x1_4 x1_5 x1_6z3 x1_7z3 x1_8z3 y2 x3_5 x3_6 y4 y5 y6 y7 y8 x9_6 y10 y11 y12 y13 y14 y15 (1 : Int32)) (v_A_fail_s1 hk k_767 ⟨Nat.le_of_ble_eq_true rfl, Nat.le_of_ble_eq_true rfl⟩) (pM_v hK hP hD (ci := 3) (q0 := 0) rfl rfl rfl) rfl rfl hl.1 rfl (lv_room (Nat.le_of_ble_eq_true rfl)) d_A_readLabel_45 ⟨by decide, by decide⟩) hS hA hD (fun rz14 u t H locs hr0 ht hB hFr hS => ?_)
        obtain ⟨x0_3z14, x0_4z14, hP, hD⟩ := hB
        rw [ht] at hP
        have hD := dwk hD hFr
        clear ht hFr
        have hP : va_P D classes (wS1 cI cJ cZ cB p0 p1 p2 p3 p4 p5 p6 p7 p8 p9 p10 p11 p12 p13 p14 p15 x0_3z14 x0_4z14 x0_5 x0_6 x0_7 x0_8 x0_9 x0_10 x0_12 x0_13 x0_14 x1_1 x1_2 x1_3z3 x1_4 x1_5 x1_6z3 x1_7z3 x1_8z3 y2 x3_5 x3_6 y4 y5 y6 y7 y8 x9_6 y10 y11 y12 y13 y14 y15) H := hP
        have hD : va_D A (wS1 cI cJ cZ cB p0 p1 p2 p3 p4 p5 p6 p7 p8 p9 p10 p11 p12 p13 p14 p15 x0_3z14 x0_4z14 x0_5 x0_6 x0_7 x0_8 x0_9 x0_10 x0_12 x0_13 x0_14 x1_1 x1_2 x1_3z3 x1_4 x1_5 x1_6z3 x1_7z3 x1_8z3 y2 x3_5 x3_6 y4 y5 y6 y7 y8 x9_6 y10 y11 y12 y13 y14 y15) := hD
        refine lv_pop hx hb d_A_readLabel_48 rfl ?_
        exact W.vret hx hb hr (fun t ht hW => ⟨⟨(), rfl, trivial, ⟨x0_3z14, x0_4z14, x0_9, x1_3z3, x1_6z3, x1_7z3, x1_8z3, by show va_P D classes _ t.heap; rw [ht]; exact hP, hD⟩⟩, hS.F ht⟩) hS.2.2 d_A_readLabel_49
  · exact W.vret hx hb hr (fun t ht hW => ⟨⟨(), rfl, trivial, ⟨x0_3, x0_4, x0_9, x1_3, x1_6, x1_7, x1_8, by show va_P D classes _ t.heap; rw [ht]; exact hP, hD⟩⟩, hS.F ht⟩) hS.2.2 d_A_readLabel_12
theorem v_A_readLabel_s1 {R : Room} {s : State} {args : Array Value} {own : String} {index : Nat} (hk : ∀ w ∈ tb, w.before args s = true) (hl : Cond.methodLink own index y_A_readLabel ∈ tb) (hR : 2 + 1 ≤ R.frames ∧ 8 + (1 + 11) + 48 ≤ R.locals) : CallW R s args own "SignMachine$Assembler" index y_A_readLabel b_A_readLabel 1 none (.code y_A_readLabel b_A_readLabel 1 none :: tb) ({ frames := 2, cells := 0, slots := 0, locals := 48 }) 0 0 0 := mk_v 0 hk k_751 hl k_750 k_35 k_123 rfl rfl h_A_readLabel hR
set_option maxHeartbeats 4000000 in
set_option maxRecDepth 100000 in
theorem c_R_skipBlanks_s1 (l : Launch) (D : va_G) (cI cJ cZ cB : ClassId) (p0 p1 p2 p3 p4 p5 p6 p7 p8 p9 p10 p11 p12 p13 p14 p15 : Nat) (sz : Nat) (x0_3 : Int32) (x0_4 : Int32) (x0_5 : Int32) (x0_6 : Int32) (x0_7 : Int32) (x0_8 : Bool) (x0_9 : Int64) (x0_10 : Int32) (x0_12 : Int32) (x0_13 : Int32) (x0_14 : Int32) (x1_1 : Int32) (x1_2 : Int32) (x1_3 : Int32) (x1_4 : Int32) (x1_5 : Int32) (x1_6 : Int32) (x1_7 : Int64) (x1_8 : Int32) (y2 : Nat → Int32) (x3_5 : Int32) (x3_6 : Int32) (y4 : Nat → Int64) (y5 : Nat → Int32) (y6 : Nat → Int32) (y7 : Nat → Int32) (y8 : Nat → Int32) (x9_6 : Int32) (y10 : Nat → Int32) (y11 : Nat → Int32) (y12 : Nat → Int32) (y13 : Nat → Int32) (y14 : Nat → Int32) (y15 : Nat → Int32)  : Met l y_R_skipBlanks (.code y_R_skipBlanks b_R_skipBlanks 2 none :: tb) ({ frames := 1, cells := 0, slots := 0, locals := 20 }) (pM D cI cJ cZ cB (wS1 cI cJ cZ cB p0 p1 p2 p3 p4 p5 p6 p7 p8 p9 p10 p11 p12 p13 p14 p15 x0_3 x0_4 x0_5 x0_6 x0_7 x0_8 x0_9 x0_10 x0_12 x0_13 x0_14 x1_1 x1_2 x1_3 x1_4 x1_5 x1_6 x1_7 x1_8 y2 x3_5 x3_6 y4 y5 y6 y7 y8 x9_6 y10 y11 y12 y13 y14 y15) sz [.ref p1]) (va_Qv (fun (_ : Unit) => True) (fun _ t => (∃ u_x1_3 : Int32, va_P D classes (wS1 cI cJ cZ cB p0 p1 p2 p3 p4 p5 p6 p7 p8 p9 p10 p11 p12 p13 p14 p15 x0_3 x0_4 x0_5 x0_6 x0_7 x0_8 x0_9 x0_10 x0_12 x0_13 x0_14 x1_1 x1_2 u_x1_3 x1_4 x1_5 x1_6 x1_7 x1_8 y2 x3_5 x3_6 y4 y5 y6 y7 y8 x9_6 y10 y11 y12 y13 y14 y15) t.heap ∧ va_D (va_A (wS1 cI cJ cZ cB p0 p1 p2 p3 p4 p5 p6 p7 p8 p9 p10 p11 p12 p13 p14 p15 x0_3 x0_4 x0_5 x0_6 x0_7 x0_8 x0_9 x0_10 x0_12 x0_13 x0_14 x1_1 x1_2 x1_3 x1_4 x1_5 x1_6 x1_7 x1_8 y2 x3_5 x3_6 y4 y5 y6 y7 y8 x9_6 y10 y11 y12 y13 y14 y15) sz) (wS1 cI cJ cZ cB p0 p1 p2 p3 p4 p5 p6 p7 p8 p9 p10 p11 p12 p13 p14 p15 x0_3 x0_4 x0_5 x0_6 x0_7 x0_8 x0_9 x0_10 x0_12 x0_13 x0_14 x1_1 x1_2 u_x1_3 x1_4 x1_5 x1_6 x1_7 x1_8 y2 x3_5 x3_6 y4 y5 y6 y7 y8 x9_6 y10 y11 y12 y13 y14 y15))) (va_A (wS1 cI cJ cZ cB p0 p1 p2 p3 p4 p5 p6 p7 p8 p9 p10 p11 p12 p13 p14 p15 x0_3 x0_4 x0_5 x0_6 x0_7 x0_8 x0_9 x0_10 x0_12 x0_13 x0_14 x1_1 x1_2 x1_3 x1_4 x1_5 x1_6 x1_7 x1_8 y2 x3_5 x3_6 y4 y5 y6 y7 y8 x9_6 y10 y11 y12 y13 y14 y15) sz)) 0 0 (va_A (wS1 cI cJ cZ cB p0 p1 p2 p3 p4 p5 p6 p7 p8 p9 p10 p11 p12 p13 p14 p15 x0_3 x0_4 x0_5 x0_6 x0_7 x0_8 x0_9 x0_10 x0_12 x0_13 x0_14 x1_1 x1_2 x1_3 x1_4 x1_5 x1_6 x1_7 x1_8 y2 x3_5 x3_6 y4 y5 y6 y7 y8 x9_6 y10 y11 y12 y13 y14 y15) sz) := by
  refine Met.ofW (cc := b_R_skipBlanks) (maxL := 2) (ret := none) (by decide) rfl ?_
  intro p e s m args below meth c s₁ B hml hv
  obtain ⟨rfl, hsz, hK, hP, hD0⟩ := hv
  subst hsz
  have hD := hD0.self (sz := s.heap.size)
  generalize hAe : va_A (wS1 cI cJ cZ cB p0 p1 p2 p3 p4 p5 p6 p7 p8 p9 p10 p11 p12 p13 p14 p15 x0_3 x0_4 x0_5 x0_6 x0_7 x0_8 x0_9 x0_10 x0_12 x0_13 x0_14 x1_1 x1_2 x1_3 x1_4 x1_5 x1_6 x1_7 x1_8 y2 x3_5 x3_6 y4 y5 y6 y7 y8 x9_6 y10 y11 y12 y13 y14 y15) s.heap.size = A at hD ⊢
  have hA : ∀ q : Nat, s.heap.size ≤ q → A q := fun q h => by rw [← hAe]; exact Or.inr h
  clear hAe hD0
  have hS : va_S A s.heap s.heap [] := va_S.rf
  have hx := B.exec
  have hb := B.bytes
  have hr := B.returns
  have hts := atoms_spec (ws := .code y_R_skipBlanks b_R_skipBlanks 2 none :: tb) B.pre
  have hk : ∀ w ∈ tb, w.before [.ref p1].toArray s = true := fun w h => hts w (List.mem_cons_of_mem _ h)
  have hown : s.vm.findClass "SignMachine$Source" = some m.cls := findClass_of_methodNamed B.named
  have hlocks := B.notSynchronized
  have hl := lv_entry ([.ref p1]) (n := 2) (Nat.le_of_ble_eq_true rfl)
  rw [lg_entry_eq]
  generalize (lg_sl ([.ref p1]) ++ List.replicate (2 - (lg_sl ([.ref p1])).length) Slot.unset).toArray = ls at hl ⊢
  have hl : lv_has ls 2 [(0, .ref p1)] := hl
  refine lv_iconst (v := 0) hx hb d_R_skipBlanks_0 (by decide) ?_
  refine lv_istore_n (lv' := [(1, .int (0 : Int32)), (0, .ref p1)]) hx hb d_R_skipBlanks_1 rfl hl (by decide) rfl (fun ls hl => ?_)
  have LP2_1 : ∀ (n : Nat) (l1 : Int32) (x1_3 : Int32) (H : Heap) (locs : List Loc) (ls : Array Slot), (((4000 : Int32)).toInt - (l1).toInt).toNat < n → ¬ l1 < (0 : Int32) → va_P D classes (wS1 cI cJ cZ cB p0 p1 p2 p3 p4 p5 p6 p7 p8 p9 p10 p11 p12 p13 p14 p15 x0_3 x0_4 x0_5 x0_6 x0_7 x0_8 x0_9 x0_10 x0_12 x0_13 x0_14 x1_1 x1_2 x1_3 x1_4 x1_5 x1_6 x1_7 x1_8 y2 x3_5 x3_6 y4 y5 y6 y7 y8 x9_6 y10 y11 y12 y13 y14 y15) H → va_D A (wS1 cI cJ cZ cB p0 p1 p2 p3 p4 p5 p6 p7 p8 p9 p10 p11 p12 p13 p14 p15 x0_3 x0_4 x0_5 x0_6 x0_7 x0_8 x0_9 x0_10 x0_12 x0_13 x0_14 x1_1 x1_2 x1_3 x1_4 x1_5 x1_6 x1_7 x1_8 y2 x3_5 x3_6 y4 y5 y6 y7 y8 x9_6 y10 y11 y12 y13 y14 y15) → va_S A s.heap H locs → lv_has ls 2 [(1, .int l1), (0, .ref p1)] → W p l e ({ frames := 1, cells := 0, slots := 0, locals := 20 }) s m [.ref p1].toArray below meth c H locs 0 0 (MQ below (va_Qv (fun (_ : Unit) => True) (fun _ t => (∃ u_x1_3 : Int32, va_P D classes (wS1 cI cJ cZ cB p0 p1 p2 p3 p4 p5 p6 p7 p8 p9 p10 p11 p12 p13 p14 p15 x0_3 x0_4 x0_5 x0_6 x0_7 x0_8 x0_9 x0_10 x0_12 x0_13 x0_14 x1_1 x1_2 u_x1_3 x1_4 x1_5 x1_6 x1_7 x1_8 y2 x3_5 x3_6 y4 y5 y6 y7 y8 x9_6 y10 y11 y12 y13 y14 y15) t.heap ∧ va_D A (wS1 cI cJ cZ cB p0 p1 p2 p3 p4 p5 p6 p7 p8 p9 p10 p11 p12 p13 p14 p15 x0_3 x0_4 x0_5 x0_6 x0_7 x0_8 x0_9 x0_10 x0_12 x0_13 x0_14 x1_1 x1_2 u_x1_3 x1_4 x1_5 x1_6 x1_7 x1_8 y2 x3_5 x3_6 y4 y5 y6 y7 y8 x9_6 y10 y11 y12 y13 y14 y15))) A) [.ref p1].toArray s 0 0 A) (F0 m 2 ls []) := by
    intro n
    induction n with
    | zero => intro l1 x1_3 H locs ls hn; exact absurd hn (Nat.not_lt_zero _)
    | succ n ih =>
      intro l1 x1_3 H locs ls hn2_1 hc2_1 hP hD hS hl
      refine lv_iload_n hx hb d_R_skipBlanks_2 rfl (lv_at hl 0 rfl) ?_
      refine lv_sipush (v := 4000) hx hb d_R_skipBlanks_3 (by decide) ?_
      refine lv_icmp_ge (tgt := 34) hx hb d_R_skipBlanks_6 (by decide) (fun c1 => ?_) (fun c1 => ?_)
      · exact W.vret hx hb hr (fun t ht hW => ⟨⟨(), rfl, trivial, ⟨x1_3, by show va_P D classes _ t.heap; rw [ht]; exact hP, hD⟩⟩, hS.F ht⟩) hS.2.2 d_R_skipBlanks_34
      · refine lv_aload_n hx hb d_R_skipBlanks_9 rfl (lv_at hl 1 rfl) ?_
        refine sn_i (va_runV (C := "SignMachine$Source") (As := []) (rest := []) ⟨hx, hb, hml, hown, hk⟩ (c_R_peek_s1 l D cI cJ cZ cB p0 p1 p2 p3 p4 p5 p6 p7 p8 p9 p10 p11 p12 p13 p14 p15 H.size x0_3 x0_4 x0_5 x0_6 x0_7 x0_8 x0_9 x0_10 x0_12 x0_13 x0_14 x1_1 x1_2 x1_3 x1_4 x1_5 x1_6 x1_7 x1_8 y2 x3_5 x3_6 y4 y5 y6 y7 y8 x9_6 y10 y11 y12 y13 y14 y15 ) (v_R_peek_s1 hk k_747 ⟨Nat.le_of_ble_eq_true rfl, Nat.le_of_ble_eq_true rfl⟩) (pM_v hK hP hD (ci := 4) (q0 := 1) rfl rfl rfl) rfl rfl hl.1 rfl (lv_room (Nat.le_of_ble_eq_true rfl)) d_R_skipBlanks_10 ⟨by decide, by decide⟩) hS hA hD (fun rz2 u t H locs hr0 ht hB hFr hS => ?_)
        obtain ⟨hP, hD⟩ := hB
        rw [ht] at hP
        have hD := dwk hD hFr
        clear ht hFr
        have hP : va_P D classes (wS1 cI cJ cZ cB p0 p1 p2 p3 p4 p5 p6 p7 p8 p9 p10 p11 p12 p13 p14 p15 x0_3 x0_4 x0_5 x0_6 x0_7 x0_8 x0_9 x0_10 x0_12 x0_13 x0_14 x1_1 x1_2 x1_3 x1_4 x1_5 x1_6 x1_7 x1_8 y2 x3_5 x3_6 y4 y5 y6 y7 y8 x9_6 y10 y11 y12 y13 y14 y15) H := hP
        have hD : va_D A (wS1 cI cJ cZ cB p0 p1 p2 p3 p4 p5 p6 p7 p8 p9 p10 p11 p12 p13 p14 p15 x0_3 x0_4 x0_5 x0_6 x0_7 x0_8 x0_9 x0_10 x0_12 x0_13 x0_14 x1_1 x1_2 x1_3 x1_4 x1_5 x1_6 x1_7 x1_8 y2 x3_5 x3_6 y4 y5 y6 y7 y8 x9_6 y10 y11 y12 y13 y14 y15) := hD
        refine lv_bipush (v := 32) hx hb d_R_skipBlanks_13 (by decide) ?_
        refine lv_icmp_ne (tgt := 34) hx hb d_R_skipBlanks_15 (by decide) (fun c3 => ?_) (fun c3 => ?_)
        · exact W.vret hx hb hr (fun t ht hW => ⟨⟨(), rfl, trivial, ⟨x1_3, by show va_P D classes _ t.heap; rw [ht]; exact hP, hD⟩⟩, hS.F ht⟩) hS.2.2 d_R_skipBlanks_34
        · refine lv_aload_n hx hb d_R_skipBlanks_18 rfl (lv_at hl 1 rfl) ?_
          refine lv_dup hx hb d_R_skipBlanks_19 rfl ?_
          refine va_get (D := D) (ci := 4) (v := .int x1_3) (C := "SignMachine$Source") (T := F_R) (N := 9) hx hb hk fi_R hown hK.1 hP 1 rfl rfl 3 (by decide) (hk _ k_540) (fun _ h9 => h9) rfl d_R_skipBlanks_20 ?_
          refine lv_iconst (v := 1) hx hb d_R_skipBlanks_23 (by decide) ?_
          refine lv_iadd hx hb d_R_skipBlanks_24 ?_
          refine lv_topi (fun v4 hv4 => ?_)
          refine va_put (D := D) (ci := 4) (v := .int v4) (ty := .int) (C := "SignMachine$Source") (T := F_R) (N := 9) hx hb hk fi_R ft_R ft_R_ok fn_R hown hK.1 hP hD hS 1 rfl rfl 3 (by decide) (hk _ k_540) (fun _ h9 => h9) rfl (by decide +kernel) rfl rfl (Nat.le_of_ble_eq_true rfl) d_R_skipBlanks_25 (fun H locs hP hD hS => ?_)
          have hP : va_P D classes (wS1 cI cJ cZ cB p0 p1 p2 p3 p4 p5 p6 p7 p8 p9 p10 p11 p12 p13 p14 p15 x0_3 x0_4 x0_5 x0_6 x0_7 x0_8 x0_9 x0_10 x0_12 x0_13 x0_14 x1_1 x1_2 v4 x1_4 x1_5 x1_6 x1_7 x1_8 y2 x3_5 x3_6 y4 y5 y6 y7 y8 x9_6 y10 y11 y12 y13 y14 y15) H := hP
          have hD : va_D A (wS1 cI cJ cZ cB p0 p1 p2 p3 p4 p5 p6 p7 p8 p9 p10 p11 p12 p13 p14 p15 x0_3 x0_4 x0_5 x0_6 x0_7 x0_8 x0_9 x0_10 x0_12 x0_13 x0_14 x1_1 x1_2 v4 x1_4 x1_5 x1_6 x1_7 x1_8 y2 x3_5 x3_6 y4 y5 y6 y7 y8 x9_6 y10 y11 y12 y13 y14 y15) := hD
          obtain ⟨v5, hv5⟩ : ∃ y : Int32, y = (l1 + (1 : Int32)) := ⟨_, rfl⟩
          refine lv_iinc (v := v5) (lv' := [(1, .int v5), (0, .ref p1)]) hx hb d_R_skipBlanks_28 hl (k := 0) rfl (by rw [hv5]; rfl) (by decide) rfl (fun ls hl => ?_)
          refine lv_goto (tgt := 2) hx hb d_R_skipBlanks_31 (by decide) ?_
          exact ih v5 v4 H _ ls (lpu c1 hv5 hn2_1) (lpn hc2_1 c1 hv5) hP hD hS (lv_sub hl [0, 1] rfl)
  exact LP2_1 _ (0 : Int32) x1_3 s.heap _ ls (Nat.lt_succ_self _) (by decide) hP hD hS hl
theorem v_R_skipBlanks_s1 {R : Room} {s : State} {args : Array Value} {own : String} {index : Nat} (hk : ∀ w ∈ tb, w.before args s = true) (hl : Cond.methodLink own index y_R_skipBlanks ∈ tb) (hR : 1 + 1 ≤ R.frames ∧ 8 + (2 + 11) + 20 ≤ R.locals) : CallW R s args own "SignMachine$Source" index y_R_skipBlanks b_R_skipBlanks 2 none (.code y_R_skipBlanks b_R_skipBlanks 2 none :: tb) ({ frames := 1, cells := 0, slots := 0, locals := 20 }) 0 0 0 := mk_v 0 hk k_746 hl k_744 k_745 k_124 rfl rfl h_R_skipBlanks hR
set_option maxHeartbeats 4000000 in
set_option maxRecDepth 100000 in
theorem c_A_isNothing_s1 (l : Launch) (D : va_G) (cI cJ cZ cB : ClassId) (p0 p1 p2 p3 p4 p5 p6 p7 p8 p9 p10 p11 p12 p13 p14 p15 : Nat) (sz : Nat) (x0_3 : Int32) (x0_4 : Int32) (x0_5 : Int32) (x0_6 : Int32) (x0_7 : Int32) (x0_8 : Bool) (x0_9 : Int64) (x0_10 : Int32) (x0_12 : Int32) (x0_13 : Int32) (x0_14 : Int32) (x1_1 : Int32) (x1_2 : Int32) (x1_3 : Int32) (x1_4 : Int32) (x1_5 : Int32) (x1_6 : Int32) (x1_7 : Int64) (x1_8 : Int32) (y2 : Nat → Int32) (x3_5 : Int32) (x3_6 : Int32) (y4 : Nat → Int64) (y5 : Nat → Int32) (y6 : Nat → Int32) (y7 : Nat → Int32) (y8 : Nat → Int32) (x9_6 : Int32) (y10 : Nat → Int32) (y11 : Nat → Int32) (y12 : Nat → Int32) (y13 : Nat → Int32) (y14 : Nat → Int32) (y15 : Nat → Int32)  : Met l y_A_isNothing (.code y_A_isNothing b_A_isNothing 3 (some .boolean) :: tb) ({ frames := 2, cells := 0, slots := 0, locals := 41 }) (pM D cI cJ cZ cB (wS1 cI cJ cZ cB p0 p1 p2 p3 p4 p5 p6 p7 p8 p9 p10 p11 p12 p13 p14 p15 x0_3 x0_4 x0_5 x0_6 x0_7 x0_8 x0_9 x0_10 x0_12 x0_13 x0_14 x1_1 x1_2 x1_3 x1_4 x1_5 x1_6 x1_7 x1_8 y2 x3_5 x3_6 y4 y5 y6 y7 y8 x9_6 y10 y11 y12 y13 y14 y15) sz [.ref p0]) (va_Qi (fun r (_ : Unit) => ∃ z : Bool, r = bI z) (fun _ t => (∃ u_x1_3 : Int32, va_P D classes (wS1 cI cJ cZ cB p0 p1 p2 p3 p4 p5 p6 p7 p8 p9 p10 p11 p12 p13 p14 p15 x0_3 x0_4 x0_5 x0_6 x0_7 x0_8 x0_9 x0_10 x0_12 x0_13 x0_14 x1_1 x1_2 u_x1_3 x1_4 x1_5 x1_6 x1_7 x1_8 y2 x3_5 x3_6 y4 y5 y6 y7 y8 x9_6 y10 y11 y12 y13 y14 y15) t.heap ∧ va_D (va_A (wS1 cI cJ cZ cB p0 p1 p2 p3 p4 p5 p6 p7 p8 p9 p10 p11 p12 p13 p14 p15 x0_3 x0_4 x0_5 x0_6 x0_7 x0_8 x0_9 x0_10 x0_12 x0_13 x0_14 x1_1 x1_2 x1_3 x1_4 x1_5 x1_6 x1_7 x1_8 y2 x3_5 x3_6 y4 y5 y6 y7 y8 x9_6 y10 y11 y12 y13 y14 y15) sz) (wS1 cI cJ cZ cB p0 p1 p2 p3 p4 p5 p6 p7 p8 p9 p10 p11 p12 p13 p14 p15 x0_3 x0_4 x0_5 x0_6 x0_7 x0_8 x0_9 x0_10 x0_12 x0_13 x0_14 x1_1 x1_2 u_x1_3 x1_4 x1_5 x1_6 x1_7 x1_8 y2 x3_5 x3_6 y4 y5 y6 y7 y8 x9_6 y10 y11 y12 y13 y14 y15))) (va_A (wS1 cI cJ cZ cB p0 p1 p2 p3 p4 p5 p6 p7 p8 p9 p10 p11 p12 p13 p14 p15 x0_3 x0_4 x0_5 x0_6 x0_7 x0_8 x0_9 x0_10 x0_12 x0_13 x0_14 x1_1 x1_2 x1_3 x1_4 x1_5 x1_6 x1_7 x1_8 y2 x3_5 x3_6 y4 y5 y6 y7 y8 x9_6 y10 y11 y12 y13 y14 y15) sz)) 0 0 (va_A (wS1 cI cJ cZ cB p0 p1 p2 p3 p4 p5 p6 p7 p8 p9 p10 p11 p12 p13 p14 p15 x0_3 x0_4 x0_5 x0_6 x0_7 x0_8 x0_9 x0_10 x0_12 x0_13 x0_14 x1_1 x1_2 x1_3 x1_4 x1_5 x1_6 x1_7 x1_8 y2 x3_5 x3_6 y4 y5 y6 y7 y8 x9_6 y10 y11 y12 y13 y14 y15) sz) := by
  refine Met.ofW (cc := b_A_isNothing) (maxL := 3) (ret := (some .boolean)) (by decide) rfl ?_
  intro p e s m args below meth c s₁ B hml hv
  obtain ⟨rfl, hsz, hK, hP, hD0⟩ := hv
  subst hsz
  have hD := hD0.self (sz := s.heap.size)
  generalize hAe : va_A (wS1 cI cJ cZ cB p0 p1 p2 p3 p4 p5 p6 p7 p8 p9 p10 p11 p12 p13 p14 p15 x0_3 x0_4 x0_5 x0_6 x0_7 x0_8 x0_9 x0_10 x0_12 x0_13 x0_14 x1_1 x1_2 x1_3 x1_4 x1_5 x1_6 x1_7 x1_8 y2 x3_5 x3_6 y4 y5 y6 y7 y8 x9_6 y10 y11 y12 y13 y14 y15) s.heap.size = A at hD ⊢
  have hA : ∀ q : Nat, s.heap.size ≤ q → A q := fun q h => by rw [← hAe]; exact Or.inr h
  clear hAe hD0
  have hS : va_S A s.heap s.heap [] := va_S.rf
  have hx := B.exec
  have hb := B.bytes
  have hr := B.returns
  have hts := atoms_spec (ws := .code y_A_isNothing b_A_isNothing 3 (some .boolean) :: tb) B.pre
  have hk : ∀ w ∈ tb, w.before [.ref p0].toArray s = true := fun w h => hts w (List.mem_cons_of_mem _ h)
  have hown : s.vm.findClass "SignMachine$Assembler" = some m.cls := findClass_of_methodNamed B.named
  have hlocks := B.notSynchronized
  have hl := lv_entry ([.ref p0]) (n := 3) (Nat.le_of_ble_eq_true rfl)
  rw [lg_entry_eq]
  generalize (lg_sl ([.ref p0]) ++ List.replicate (3 - (lg_sl ([.ref p0])).length) Slot.unset).toArray = ls at hl ⊢
  have hl : lv_has ls 3 [(0, .ref p0)] := hl
  refine lv_aload_n hx hb d_A_isNothing_0 rfl (lv_at hl 0 rfl) ?_
  refine va_get (D := D) (ci := 3) (v := .ref p1) (C := "SignMachine$Assembler") (T := F_A) (N := 15) hx hb hk fi_A hown hK.1 hP 0 rfl rfl 0 (by decide) (hk _ k_631) (fun _ h9 => h9) rfl d_A_isNothing_1 ?_
  refine sn_i (va_runV (C := "SignMachine$Source") (As := []) (rest := []) ⟨hx, hb, hml, hown, hk⟩ (c_R_peek_s1 l D cI cJ cZ cB p0 p1 p2 p3 p4 p5 p6 p7 p8 p9 p10 p11 p12 p13 p14 p15 s.heap.size x0_3 x0_4 x0_5 x0_6 x0_7 x0_8 x0_9 x0_10 x0_12 x0_13 x0_14 x1_1 x1_2 x1_3 x1_4 x1_5 x1_6 x1_7 x1_8 y2 x3_5 x3_6 y4 y5 y6 y7 y8 x9_6 y10 y11 y12 y13 y14 y15 ) (v_R_peek_s1 hk k_739 ⟨Nat.le_of_ble_eq_true rfl, Nat.le_of_ble_eq_true rfl⟩) (pM_v hK hP hD (ci := 4) (q0 := 1) rfl rfl rfl) rfl rfl hl.1 rfl (lv_room (Nat.le_of_ble_eq_true rfl)) d_A_isNothing_4 ⟨by decide, by decide⟩) hS hA hD (fun rz1 u t H locs hr0 ht hB hFr hS => ?_)
  obtain ⟨hP, hD⟩ := hB
  rw [ht] at hP
  have hD := dwk hD hFr
  clear ht hFr
  have hP : va_P D classes (wS1 cI cJ cZ cB p0 p1 p2 p3 p4 p5 p6 p7 p8 p9 p10 p11 p12 p13 p14 p15 x0_3 x0_4 x0_5 x0_6 x0_7 x0_8 x0_9 x0_10 x0_12 x0_13 x0_14 x1_1 x1_2 x1_3 x1_4 x1_5 x1_6 x1_7 x1_8 y2 x3_5 x3_6 y4 y5 y6 y7 y8 x9_6 y10 y11 y12 y13 y14 y15) H := hP
  have hD : va_D A (wS1 cI cJ cZ cB p0 p1 p2 p3 p4 p5 p6 p7 p8 p9 p10 p11 p12 p13 p14 p15 x0_3 x0_4 x0_5 x0_6 x0_7 x0_8 x0_9 x0_10 x0_12 x0_13 x0_14 x1_1 x1_2 x1_3 x1_4 x1_5 x1_6 x1_7 x1_8 y2 x3_5 x3_6 y4 y5 y6 y7 y8 x9_6 y10 y11 y12 y13 y14 y15) := hD
  refine lv_bipush (v := 59) hx hb d_A_isNothing_7 (by decide) ?_
  refine lv_icmp_ne (tgt := 14) hx hb d_A_isNothing_9 (by decide) (fun c2 => ?_) (fun c2 => ?_)
  · refine lv_aload_n hx hb d_A_isNothing_14 rfl (lv_at hl 0 rfl) ?_
    refine va_get (D := D) (ci := 3) (v := .ref p1) (C := "SignMachine$Assembler") (T := F_A) (N := 15) hx hb hk fi_A hown hK.1 hP 0 rfl rfl 0 (by decide) (hk _ k_631) (fun _ h9 => h9) rfl d_A_isNothing_15 ?_
    refine va_getN (D := D) (ci := 4) (v := .int x1_3) (C := "SignMachine$Source") (T := F_R) (N := 9) hx hb hk fi_R hown hK.1 hP 1 rfl rfl 3 (by decide) (va_Nw.use rfl (hK.2 _ n_541)) (fun _ h9 => h9) rfl d_A_isNothing_18 ?_
    refine lv_istore_n (lv' := [(1, .int x1_3), (0, .ref p0)]) hx hb d_A_isNothing_21 rfl hl (by decide) rfl (fun ls hl => ?_)
    refine lv_aload_n hx hb d_A_isNothing_22 rfl (lv_at hl 1 rfl) ?_
    refine va_get (D := D) (ci := 3) (v := .ref p1) (C := "SignMachine$Assembler") (T := F_A) (N := 15) hx hb hk fi_A hown hK.1 hP 0 rfl rfl 0 (by decide) (hk _ k_631) (fun _ h9 => h9) rfl d_A_isNothing_23 ?_
    refine kn_v (va_runV (C := "SignMachine$Source") (As := []) (rest := []) ⟨hx, hb, hml, hown, hk⟩ (c_R_skipBlanks_s1 l D cI cJ cZ cB p0 p1 p2 p3 p4 p5 p6 p7 p8 p9 p10 p11 p12 p13 p14 p15 H.size x0_3 x0_4 x0_5 x0_6 x0_7 x0_8 x0_9 x0_10 x0_12 x0_13 x0_14 x1_1 x1_2 x1_3 x1_4 x1_5 x1_6 x1_7 x1_8 y2 x3_5 x3_6 y4 y5 y6 y7 y8 x9_6 y10 y11 y12 y13 y14 y15 ) (v_R_skipBlanks_s1 hk k_743 ⟨Nat.le_of_ble_eq_true rfl, Nat.le_of_ble_eq_true rfl⟩) (pM_v hK hP hD (ci := 4) (q0 := 1) rfl rfl rfl) rfl rfl hl.1 rfl (lv_room (Nat.le_of_ble_eq_true rfl)) d_A_isNothing_26 ⟨by decide, by decide⟩) hS hA hD (fun u t H locs ht hB hFr hS => ?_)
    obtain ⟨x1_3z3, hP, hD⟩ := hB
    rw [ht] at hP
    have hD := dwk hD hFr
    clear ht hFr
    have hP : va_P D classes (wS1 cI cJ cZ cB p0 p1 p2 p3 p4 p5 p6 p7 p8 p9 p10 p11 p12 p13 p14 p15 x0_3 x0_4 x0_5 x0_6 x0_7 x0_8 x0_9 x0_10 x0_12 x0_13 x0_14 x1_1 x1_2 x1_3z3 x1_4 x1_5 x1_6 x1_7 x1_8 y2 x3_5 x3_6 y4 y5 y6 y7 y8 x9_6 y10 y11 y12 y13 y14 y15) H := hP
    have hD : va_D A (wS1 cI cJ cZ cB p0 p1 p2 p3 p4 p5 p6 p7 p8 p9 p10 p11 p12 p13 p14 p15 x0_3 x0_4 x0_5 x0_6 x0_7 x0_8 x0_9 x0_10 x0_12 x0_13 x0_14 x1_1 x1_2 x1_3z3 x1_4 x1_5 x1_6 x1_7 x1_8 y2 x3_5 x3_6 y4 y5 y6 y7 y8 x9_6 y10 y11 y12 y13 y14 y15) := hD
    refine lv_aload_n hx hb d_A_isNothing_29 rfl (lv_at hl 1 rfl) ?_
    refine va_get (D := D) (ci := 3) (v := .ref p1) (C := "SignMachine$Assembler") (T := F_A) (N := 15) hx hb hk fi_A hown hK.1 hP 0 rfl rfl 0 (by decide) (hk _ k_631) (fun _ h9 => h9) rfl d_A_isNothing_30 ?_
    refine sn_i (va_runV (C := "SignMachine$Source") (As := []) (rest := []) ⟨hx, hb, hml, hown, hk⟩ (c_R_peek_s1 l D cI cJ cZ cB p0 p1 p2 p3 p4 p5 p6 p7 p8 p9 p10 p11 p12 p13 p14 p15 H.size x0_3 x0_4 x0_5 x0_6 x0_7 x0_8 x0_9 x0_10 x0_12 x0_13 x0_14 x1_1 x1_2 x1_3z3 x1_4 x1_5 x1_6 x1_7 x1_8 y2 x3_5 x3_6 y4 y5 y6 y7 y8 x9_6 y10 y11 y12 y13 y14 y15 ) (v_R_peek_s1 hk k_739 ⟨Nat.le_of_ble_eq_true rfl, Nat.le_of_ble_eq_true rfl⟩) (pM_v hK hP hD (ci := 4) (q0 := 1) rfl rfl rfl) rfl rfl hl.1 rfl (lv_room (Nat.le_of_ble_eq_true rfl)) d_A_isNothing_33 ⟨by decide, by decide⟩) hS hA hD (fun rz4 u t H locs hr0 ht hB hFr hS => ?_)
    obtain ⟨hP, hD⟩ := hB
    rw [ht] at hP
    have hD := dwk hD hFr
    clear ht hFr
    have hP : va_P D classes (wS1 cI cJ cZ cB p0 p1 p2 p3 p4 p5 p6 p7 p8 p9 p10 p11 p12 p13 p14 p15 x0_3 x0_4 x0_5 x0_6 x0_7 x0_8 x0_9 x0_10 x0_12 x0_13 x0_14 x1_1 x1_2 x1_3z3 x1_4 x1_5 x1_6 x1_7 x1_8 y2 x3_5 x3_6 y4 y5 y6 y7 y8 x9_6 y10 y11 y12 y13 y14 y15) H := hP
    have hD : va_D A (wS1 cI cJ cZ cB p0 p1 p2 p3 p4 p5 p6 p7 p8 p9 p10 p11 p12 p13 p14 p15 x0_3 x0_4 x0_5 x0_6 x0_7 x0_8 x0_9 x0_10 x0_12 x0_13 x0_14 x1_1 x1_2 x1_3z3 x1_4 x1_5 x1_6 x1_7 x1_8 y2 x3_5 x3_6 y4 y5 y6 y7 y8 x9_6 y10 y11 y12 y13 y14 y15) := hD
    refine lv_iconst (v := (-1)) hx hb d_A_isNothing_36 (by decide) ?_
    refine lv_icmp_ne (tgt := 44) hx hb d_A_isNothing_37 (by decide) (fun c5 => ?_) (fun c5 => ?_)
    · refine lv_iconst (v := 0) hx hb d_A_isNothing_44 (by decide) ?_
      refine lv_istore_n (lv' := [(2, .int (0 : Int32)), (1, .int x1_3), (0, .ref p0)]) hx hb d_A_isNothing_45 rfl hl (by decide) rfl (fun ls hl => ?_)
      refine lv_aload_n hx hb d_A_isNothing_46 rfl (lv_at hl 2 rfl) ?_
      refine va_get (D := D) (ci := 3) (v := .ref p1) (C := "SignMachine$Assembler") (T := F_A) (N := 15) hx hb hk fi_A hown hK.1 hP 0 rfl rfl 0 (by decide) (hk _ k_631) (fun _ h9 => h9) rfl d_A_isNothing_47 ?_
      refine lv_iload_n hx hb d_A_isNothing_50 rfl (lv_at hl 1 rfl) ?_
      refine va_putN (D := D) (ci := 4) (v := .int x1_3) (ty := .int) (C := "SignMachine$Source") (T := F_R) (N := 9) hx hb hk fi_R ft_R ft_R_ok fn_R hown hK.1 hP hD hS 1 rfl rfl 3 (by decide) (va_Nw.use rfl (hK.2 _ n_541)) (fun _ h9 => h9) rfl (by decide +kernel) rfl rfl (Nat.le_of_ble_eq_true rfl) d_A_isNothing_51 (fun H locs hP hD hS => ?_)
      have hP : va_P D classes (wS1 cI cJ cZ cB p0 p1 p2 p3 p4 p5 p6 p7 p8 p9 p10 p11 p12 p13 p14 p15 x0_3 x0_4 x0_5 x0_6 x0_7 x0_8 x0_9 x0_10 x0_12 x0_13 x0_14 x1_1 x1_2 x1_3 x1_4 x1_5 x1_6 x1_7 x1_8 y2 x3_5 x3_6 y4 y5 y6 y7 y8 x9_6 y10 y11 y12 y13 y14 y15) H := hP
      have hD : va_D A (wS1 cI cJ cZ cB p0 p1 p2 p3 p4 p5 p6 p7 p8 p9 p10 p11 p12 p13 p14 p15 x0_3 x0_4 x0_5 x0_6 x0_7 x0_8 x0_9 x0_10 x0_12 x0_13 x0_14 x1_1 x1_2 x1_3 x1_4 x1_5 x1_6 x1_7 x1_8 y2 x3_5 x3_6 y4 y5 y6 y7 y8 x9_6 y10 y11 y12 y13 y14 y15) := hD
      refine lv_iload_n hx hb d_A_isNothing_54 rfl (lv_at hl 0 rfl) ?_
      exact W.zret (v := (0 : Int32)) hx hb hr rfl (fun t ht hW => ⟨⟨(0 : Int32), (), rfl, ⟨false, rfl⟩, ⟨x1_3, by show va_P D classes _ t.heap; rw [ht]; exact hP, hD⟩⟩, hS.F ht⟩) hS.2.2 d_A_isNothing_55
    · refine lv_iconst (v := 1) hx hb d_A_isNothing_40 (by decide) ?_
      refine lv_goto (tgt := 45) hx hb d_A_isNothing_41 (by decide) ?_
      refine lv_istore_n (lv' := [(2, .int (1 : Int32)), (1, .int x1_3), (0, .ref p0)]) hx hb d_A_isNothing_45 rfl hl (by decide) rfl (fun ls hl => ?_)
      refine lv_aload_n hx hb d_A_isNothing_46 rfl (lv_at hl 2 rfl) ?_
      refine va_get (D := D) (ci := 3) (v := .ref p1) (C := "SignMachine$Assembler") (T := F_A) (N := 15) hx hb hk fi_A hown hK.1 hP 0 rfl rfl 0 (by decide) (hk _ k_631) (fun _ h9 => h9) rfl d_A_isNothing_47 ?_
      refine lv_iload_n hx hb d_A_isNothing_50 rfl (lv_at hl 1 rfl) ?_
      refine va_putN (D := D) (ci := 4) (v := .int x1_3) (ty := .int) (C := "SignMachine$Source") (T := F_R) (N := 9) hx hb hk fi_R ft_R ft_R_ok fn_R hown hK.1 hP hD hS 1 rfl rfl 3 (by decide) (va_Nw.use rfl (hK.2 _ n_541)) (fun _ h9 => h9) rfl (by decide +kernel) rfl rfl (Nat.le_of_ble_eq_true rfl) d_A_isNothing_51 (fun H locs hP hD hS => ?_)
      have hP : va_P D classes (wS1 cI cJ cZ cB p0 p1 p2 p3 p4 p5 p6 p7 p8 p9 p10 p11 p12 p13 p14 p15 x0_3 x0_4 x0_5 x0_6 x0_7 x0_8 x0_9 x0_10 x0_12 x0_13 x0_14 x1_1 x1_2 x1_3 x1_4 x1_5 x1_6 x1_7 x1_8 y2 x3_5 x3_6 y4 y5 y6 y7 y8 x9_6 y10 y11 y12 y13 y14 y15) H := hP
      have hD : va_D A (wS1 cI cJ cZ cB p0 p1 p2 p3 p4 p5 p6 p7 p8 p9 p10 p11 p12 p13 p14 p15 x0_3 x0_4 x0_5 x0_6 x0_7 x0_8 x0_9 x0_10 x0_12 x0_13 x0_14 x1_1 x1_2 x1_3 x1_4 x1_5 x1_6 x1_7 x1_8 y2 x3_5 x3_6 y4 y5 y6 y7 y8 x9_6 y10 y11 y12 y13 y14 y15) := hD
      refine lv_iload_n hx hb d_A_isNothing_54 rfl (lv_at hl 0 rfl) ?_
      exact W.zret (v := (1 : Int32)) hx hb hr rfl (fun t ht hW => ⟨⟨(1 : Int32), (), rfl, ⟨true, rfl⟩, ⟨x1_3, by show va_P D classes _ t.heap; rw [ht]; exact hP, hD⟩⟩, hS.F ht⟩) hS.2.2 d_A_isNothing_55
  · refine lv_iconst (v := 1) hx hb d_A_isNothing_12 (by decide) ?_
    exact W.zret (v := (1 : Int32)) hx hb hr rfl (fun t ht hW => ⟨⟨(1 : Int32), (), rfl, ⟨true, rfl⟩, ⟨x1_3, by show va_P D classes _ t.heap; rw [ht]; exact hP, hD⟩⟩, hS.F ht⟩) hS.2.2 d_A_isNothing_13
theorem v_A_isNothing_s1 {R : Room} {s : State} {args : Array Value} {own : String} {index : Nat} (hk : ∀ w ∈ tb, w.before args s = true) (hl : Cond.methodLink own index y_A_isNothing ∈ tb) (hR : 2 + 1 ≤ R.frames ∧ 8 + (3 + 11) + 41 ≤ R.locals) : CallW R s args own "SignMachine$Assembler" index y_A_isNothing b_A_isNothing 3 (some .boolean) (.code y_A_isNothing b_A_isNothing 3 (some .boolean) :: tb) ({ frames := 2, cells := 0, slots := 0, locals := 41 }) 0 0 0 := mk_v 0 hk k_738 hl k_737 k_34 k_123 rfl rfl h_A_isNothing hR
set_option maxHeartbeats 4000000 in
set_option maxRecDepth 100000 in
theorem c_N_tell_s1 (l : Launch) (D : va_G) (cI cJ cZ cB : ClassId) (p0 p1 p2 p3 p4 p5 p6 p7 p8 p9 p10 p11 p12 p13 p14 p15 : Nat) (sz : Nat) (x0_3 : Int32) (x0_4 : Int32) (x0_5 : Int32) (x0_6 : Int32) (x0_7 : Int32) (x0_8 : Bool) (x0_9 : Int64) (x0_10 : Int32) (x0_12 : Int32) (x0_13 : Int32) (x0_14 : Int32) (x1_1 : Int32) (x1_2 : Int32) (x1_3 : Int32) (x1_4 : Int32) (x1_5 : Int32) (x1_6 : Int32) (x1_7 : Int64) (x1_8 : Int32) (y2 : Nat → Int32) (x3_5 : Int32) (x3_6 : Int32) (y4 : Nat → Int64) (y5 : Nat → Int32) (y6 : Nat → Int32) (y7 : Nat → Int32) (y8 : Nat → Int32) (x9_6 : Int32) (y10 : Nat → Int32) (y11 : Nat → Int32) (y12 : Nat → Int32) (y13 : Nat → Int32) (y14 : Nat → Int32) (y15 : Nat → Int32) (a1 : Int32) (a2 : Int32) : Met l y_N_tell (.code y_N_tell b_N_tell 3 none :: tb) ({ frames := 0, cells := 0, slots := 0, locals := 0 }) (pM D cI cJ cZ cB (wS1 cI cJ cZ cB p0 p1 p2 p3 p4 p5 p6 p7 p8 p9 p10 p11 p12 p13 p14 p15 x0_3 x0_4 x0_5 x0_6 x0_7 x0_8 x0_9 x0_10 x0_12 x0_13 x0_14 x1_1 x1_2 x1_3 x1_4 x1_5 x1_6 x1_7 x1_8 y2 x3_5 x3_6 y4 y5 y6 y7 y8 x9_6 y10 y11 y12 y13 y14 y15) sz [.ref p3, .int a1, .int a2]) (va_Qv (fun (_ : Unit) => True) (fun _ t => (∃ u_y5 : Nat → Int32, ∃ u_y6 : Nat → Int32, va_P D classes (wS1 cI cJ cZ cB p0 p1 p2 p3 p4 p5 p6 p7 p8 p9 p10 p11 p12 p13 p14 p15 x0_3 x0_4 x0_5 x0_6 x0_7 x0_8 x0_9 x0_10 x0_12 x0_13 x0_14 x1_1 x1_2 x1_3 x1_4 x1_5 x1_6 x1_7 x1_8 y2 x3_5 x3_6 y4 u_y5 u_y6 y7 y8 x9_6 y10 y11 y12 y13 y14 y15) t.heap ∧ va_D (va_A (wS1 cI cJ cZ cB p0 p1 p2 p3 p4 p5 p6 p7 p8 p9 p10 p11 p12 p13 p14 p15 x0_3 x0_4 x0_5 x0_6 x0_7 x0_8 x0_9 x0_10 x0_12 x0_13 x0_14 x1_1 x1_2 x1_3 x1_4 x1_5 x1_6 x1_7 x1_8 y2 x3_5 x3_6 y4 y5 y6 y7 y8 x9_6 y10 y11 y12 y13 y14 y15) sz) (wS1 cI cJ cZ cB p0 p1 p2 p3 p4 p5 p6 p7 p8 p9 p10 p11 p12 p13 p14 p15 x0_3 x0_4 x0_5 x0_6 x0_7 x0_8 x0_9 x0_10 x0_12 x0_13 x0_14 x1_1 x1_2 x1_3 x1_4 x1_5 x1_6 x1_7 x1_8 y2 x3_5 x3_6 y4 u_y5 u_y6 y7 y8 x9_6 y10 y11 y12 y13 y14 y15))) (va_A (wS1 cI cJ cZ cB p0 p1 p2 p3 p4 p5 p6 p7 p8 p9 p10 p11 p12 p13 p14 p15 x0_3 x0_4 x0_5 x0_6 x0_7 x0_8 x0_9 x0_10 x0_12 x0_13 x0_14 x1_1 x1_2 x1_3 x1_4 x1_5 x1_6 x1_7 x1_8 y2 x3_5 x3_6 y4 y5 y6 y7 y8 x9_6 y10 y11 y12 y13 y14 y15) sz)) 0 0 (va_A (wS1 cI cJ cZ cB p0 p1 p2 p3 p4 p5 p6 p7 p8 p9 p10 p11 p12 p13 p14 p15 x0_3 x0_4 x0_5 x0_6 x0_7 x0_8 x0_9 x0_10 x0_12 x0_13 x0_14 x1_1 x1_2 x1_3 x1_4 x1_5 x1_6 x1_7 x1_8 y2 x3_5 x3_6 y4 y5 y6 y7 y8 x9_6 y10 y11 y12 y13 y14 y15) sz) := by
  refine Met.ofW (cc := b_N_tell) (maxL := 3) (ret := none) (by decide) rfl ?_
  intro p e s m args below meth c s₁ B hml hv
  obtain ⟨rfl, hsz, hK, hP, hD0⟩ := hv
  subst hsz
  have hD := hD0.self (sz := s.heap.size)
  generalize hAe : va_A (wS1 cI cJ cZ cB p0 p1 p2 p3 p4 p5 p6 p7 p8 p9 p10 p11 p12 p13 p14 p15 x0_3 x0_4 x0_5 x0_6 x0_7 x0_8 x0_9 x0_10 x0_12 x0_13 x0_14 x1_1 x1_2 x1_3 x1_4 x1_5 x1_6 x1_7 x1_8 y2 x3_5 x3_6 y4 y5 y6 y7 y8 x9_6 y10 y11 y12 y13 y14 y15) s.heap.size = A at hD ⊢
  have hA : ∀ q : Nat, s.heap.size ≤ q → A q := fun q h => by rw [← hAe]; exact Or.inr h
  clear hAe hD0
  have hS : va_S A s.heap s.heap [] := va_S.rf
  have hx := B.exec
  have hb := B.bytes
  have hr := B.returns
  have hts := atoms_spec (ws := .code y_N_tell b_N_tell 3 none :: tb) B.pre
  have hk : ∀ w ∈ tb, w.before [.ref p3, .int a1, .int a2].toArray s = true := fun w h => hts w (List.mem_cons_of_mem _ h)
  have hown : s.vm.findClass "SignMachine$Names" = some m.cls := findClass_of_methodNamed B.named
  have hlocks := B.notSynchronized
  have hl := lv_entry ([.ref p3, .int a1, .int a2]) (n := 3) (Nat.le_of_ble_eq_true rfl)
  rw [lg_entry_eq]
  generalize (lg_sl ([.ref p3, .int a1, .int a2]) ++ List.replicate (3 - (lg_sl ([.ref p3, .int a1, .int a2])).length) Slot.unset).toArray = ls at hl ⊢
  have hl : lv_has ls 3 [(0, .ref p3), (1, .int a1), (2, .int a2)] := hl
  refine lv_iload_n hx hb d_N_tell_0 rfl (lv_at hl 1 rfl) ?_
  refine lv_if_lt (tgt := 24) hx hb d_N_tell_1 (by decide) (fun c1 => ?_) (fun c1 => ?_)
  · exact W.vret hx hb hr (fun t ht hW => ⟨⟨(), rfl, trivial, ⟨y5, y6, by show va_P D classes _ t.heap; rw [ht]; exact hP, hD⟩⟩, hS.F ht⟩) hS.2.2 d_N_tell_24
  · refine lv_iload_n hx hb d_N_tell_4 rfl (lv_at hl 1 rfl) ?_
    refine lv_bipush (v := 100) hx hb d_N_tell_5 (by decide) ?_
    refine lv_icmp_ge (tgt := 24) hx hb d_N_tell_7 (by decide) (fun c2 => ?_) (fun c2 => ?_)
    · exact W.vret hx hb hr (fun t ht hW => ⟨⟨(), rfl, trivial, ⟨y5, y6, by show va_P D classes _ t.heap; rw [ht]; exact hP, hD⟩⟩, hS.F ht⟩) hS.2.2 d_N_tell_24
    · refine lv_aload_n hx hb d_N_tell_10 rfl (lv_at hl 0 rfl) ?_
      refine va_get (D := D) (ci := 5) (v := .ref p5) (C := "SignMachine$Names") (T := F_N) (N := 7) hx hb hk fi_N hown hK.1 hP 3 rfl rfl 1 (by decide) (hk _ k_577) (fun _ h9 => h9) rfl d_N_tell_11 ?_
      refine lv_iload_n hx hb d_N_tell_14 rfl (lv_at hl 1 rfl) ?_
      refine lv_iload_n hx hb d_N_tell_15 rfl (lv_at hl 2 rfl) ?_
      refine va_iast hx hb hK.1 hP hD hS 5 0 rfl rfl (vpin c1 c2 rfl) d_N_tell_16 (fun H locs hP hD hS => ?_)
      have hP : va_P D classes (wS1 cI cJ cZ cB p0 p1 p2 p3 p4 p5 p6 p7 p8 p9 p10 p11 p12 p13 p14 p15 x0_3 x0_4 x0_5 x0_6 x0_7 x0_8 x0_9 x0_10 x0_12 x0_13 x0_14 x1_1 x1_2 x1_3 x1_4 x1_5 x1_6 x1_7 x1_8 y2 x3_5 x3_6 y4 (upd y5 (a1).toNatClampNeg a2) y6 y7 y8 x9_6 y10 y11 y12 y13 y14 y15) H := hP
      have hD : va_D A (wS1 cI cJ cZ cB p0 p1 p2 p3 p4 p5 p6 p7 p8 p9 p10 p11 p12 p13 p14 p15 x0_3 x0_4 x0_5 x0_6 x0_7 x0_8 x0_9 x0_10 x0_12 x0_13 x0_14 x1_1 x1_2 x1_3 x1_4 x1_5 x1_6 x1_7 x1_8 y2 x3_5 x3_6 y4 (upd y5 (a1).toNatClampNeg a2) y6 y7 y8 x9_6 y10 y11 y12 y13 y14 y15) := hD
      obtain ⟨v3, hv3⟩ : ∃ y : Nat → Int32, y = (upd y5 (a1).toNatClampNeg a2) := ⟨_, rfl⟩
      rw [← hv3] at hP hD
      clear hv3
      refine lv_aload_n hx hb d_N_tell_17 rfl (lv_at hl 0 rfl) ?_
      refine va_get (D := D) (ci := 5) (v := .ref p6) (C := "SignMachine$Names") (T := F_N) (N := 7) hx hb hk fi_N hown hK.1 hP 3 rfl rfl 2 (by decide) (hk _ k_578) (fun _ h9 => h9) rfl d_N_tell_18 ?_
      refine lv_iload_n hx hb d_N_tell_21 rfl (lv_at hl 1 rfl) ?_
      refine lv_iconst (v := 1) hx hb d_N_tell_22 (by decide) ?_
      refine va_zast hx hb hK.1 hP hD hS 6 2 rfl rfl (vpin c1 c2 rfl) d_N_tell_23 (fun H locs hP hD hS => ?_)
      have hP : va_P D classes (wS1 cI cJ cZ cB p0 p1 p2 p3 p4 p5 p6 p7 p8 p9 p10 p11 p12 p13 p14 p15 x0_3 x0_4 x0_5 x0_6 x0_7 x0_8 x0_9 x0_10 x0_12 x0_13 x0_14 x1_1 x1_2 x1_3 x1_4 x1_5 x1_6 x1_7 x1_8 y2 x3_5 x3_6 y4 v3 (upd y6 (a1).toNatClampNeg (vp_nar .boolean (1 : Int32))) y7 y8 x9_6 y10 y11 y12 y13 y14 y15) H := hP
      have hD : va_D A (wS1 cI cJ cZ cB p0 p1 p2 p3 p4 p5 p6 p7 p8 p9 p10 p11 p12 p13 p14 p15 x0_3 x0_4 x0_5 x0_6 x0_7 x0_8 x0_9 x0_10 x0_12 x0_13 x0_14 x1_1 x1_2 x1_3 x1_4 x1_5 x1_6 x1_7 x1_8 y2 x3_5 x3_6 y4 v3 (upd y6 (a1).toNatClampNeg (vp_nar .boolean (1 : Int32))) y7 y8 x9_6 y10 y11 y12 y13 y14 y15) := hD
      obtain ⟨v4, hv4⟩ : ∃ y : Nat → Int32, y = (upd y6 (a1).toNatClampNeg (vp_nar .boolean (1 : Int32))) := ⟨_, rfl⟩
      rw [← hv4] at hP hD
      clear hv4
      exact W.vret hx hb hr (fun t ht hW => ⟨⟨(), rfl, trivial, ⟨v3, v4, by show va_P D classes _ t.heap; rw [ht]; exact hP, hD⟩⟩, hS.F ht⟩) hS.2.2 d_N_tell_24
theorem v_N_tell_s1 {R : Room} {s : State} {args : Array Value} {own : String} {index : Nat} (hk : ∀ w ∈ tb, w.before args s = true) (hl : Cond.methodLink own index y_N_tell ∈ tb) (hR : 0 + 1 ≤ R.frames ∧ 8 + (3 + 11) + 0 ≤ R.locals) : CallW R s args own "SignMachine$Names" index y_N_tell b_N_tell 3 none (.code y_N_tell b_N_tell 3 none :: tb) ({ frames := 0, cells := 0, slots := 0, locals := 0 }) 0 0 2 := mk_v 2 hk k_943 hl k_941 k_942 k_125 rfl rfl h_N_tell hR
set_option maxHeartbeats 4000000 in
set_option maxRecDepth 100000 in
theorem c_A_tellSymbol_s1 (l : Launch) (D : va_G) (cI cJ cZ cB : ClassId) (p0 p1 p2 p3 p4 p5 p6 p7 p8 p9 p10 p11 p12 p13 p14 p15 : Nat) (sz : Nat) (x0_3 : Int32) (x0_4 : Int32) (x0_5 : Int32) (x0_6 : Int32) (x0_7 : Int32) (x0_8 : Bool) (x0_9 : Int64) (x0_10 : Int32) (x0_12 : Int32) (x0_13 : Int32) (x0_14 : Int32) (x1_1 : Int32) (x1_2 : Int32) (x1_3 : Int32) (x1_4 : Int32) (x1_5 : Int32) (x1_6 : Int32) (x1_7 : Int64) (x1_8 : Int32) (y2 : Nat → Int32) (x3_5 : Int32) (x3_6 : Int32) (y4 : Nat → Int64) (y5 : Nat → Int32) (y6 : Nat → Int32) (y7 : Nat → Int32) (y8 : Nat → Int32) (x9_6 : Int32) (y10 : Nat → Int32) (y11 : Nat → Int32) (y12 : Nat → Int32) (y13 : Nat → Int32) (y14 : Nat → Int32) (y15 : Nat → Int32) (a1 : Int32) : Met l y_A_tellSymbol (.code y_A_tellSymbol b_A_tellSymbol 3 none :: tb) ({ frames := 2, cells := 0, slots := 0, locals := 45 }) (pM D cI cJ cZ cB (wS1 cI cJ cZ cB p0 p1 p2 p3 p4 p5 p6 p7 p8 p9 p10 p11 p12 p13 p14 p15 x0_3 x0_4 x0_5 x0_6 x0_7 x0_8 x0_9 x0_10 x0_12 x0_13 x0_14 x1_1 x1_2 x1_3 x1_4 x1_5 x1_6 x1_7 x1_8 y2 x3_5 x3_6 y4 y5 y6 y7 y8 x9_6 y10 y11 y12 y13 y14 y15) sz [.ref p0, .int a1]) (va_Qv (fun (_ : Unit) => True) (fun _ t => (∃ u_x0_3 : Int32, ∃ u_x0_4 : Int32, ∃ u_x3_5 : Int32, ∃ u_x3_6 : Int32, ∃ u_y4 : Nat → Int64, ∃ u_y5 : Nat → Int32, ∃ u_y6 : Nat → Int32, va_P D classes (wS1 cI cJ cZ cB p0 p1 p2 p3 p4 p5 p6 p7 p8 p9 p10 p11 p12 p13 p14 p15 u_x0_3 u_x0_4 x0_5 x0_6 x0_7 x0_8 x0_9 x0_10 x0_12 x0_13 x0_14 x1_1 x1_2 x1_3 x1_4 x1_5 x1_6 x1_7 x1_8 y2 u_x3_5 u_x3_6 u_y4 u_y5 u_y6 y7 y8 x9_6 y10 y11 y12 y13 y14 y15) t.heap ∧ va_D (va_A (wS1 cI cJ cZ cB p0 p1 p2 p3 p4 p5 p6 p7 p8 p9 p10 p11 p12 p13 p14 p15 x0_3 x0_4 x0_5 x0_6 x0_7 x0_8 x0_9 x0_10 x0_12 x0_13 x0_14 x1_1 x1_2 x1_3 x1_4 x1_5 x1_6 x1_7 x1_8 y2 x3_5 x3_6 y4 y5 y6 y7 y8 x9_6 y10 y11 y12 y13 y14 y15) sz) (wS1 cI cJ cZ cB p0 p1 p2 p3 p4 p5 p6 p7 p8 p9 p10 p11 p12 p13 p14 p15 u_x0_3 u_x0_4 x0_5 x0_6 x0_7 x0_8 x0_9 x0_10 x0_12 x0_13 x0_14 x1_1 x1_2 x1_3 x1_4 x1_5 x1_6 x1_7 x1_8 y2 u_x3_5 u_x3_6 u_y4 u_y5 u_y6 y7 y8 x9_6 y10 y11 y12 y13 y14 y15))) (va_A (wS1 cI cJ cZ cB p0 p1 p2 p3 p4 p5 p6 p7 p8 p9 p10 p11 p12 p13 p14 p15 x0_3 x0_4 x0_5 x0_6 x0_7 x0_8 x0_9 x0_10 x0_12 x0_13 x0_14 x1_1 x1_2 x1_3 x1_4 x1_5 x1_6 x1_7 x1_8 y2 x3_5 x3_6 y4 y5 y6 y7 y8 x9_6 y10 y11 y12 y13 y14 y15) sz)) 0 0 (va_A (wS1 cI cJ cZ cB p0 p1 p2 p3 p4 p5 p6 p7 p8 p9 p10 p11 p12 p13 p14 p15 x0_3 x0_4 x0_5 x0_6 x0_7 x0_8 x0_9 x0_10 x0_12 x0_13 x0_14 x1_1 x1_2 x1_3 x1_4 x1_5 x1_6 x1_7 x1_8 y2 x3_5 x3_6 y4 y5 y6 y7 y8 x9_6 y10 y11 y12 y13 y14 y15) sz) := by
  refine Met.ofW (cc := b_A_tellSymbol) (maxL := 3) (ret := none) (by decide) rfl ?_
  intro p e s m args below meth c s₁ B hml hv
  obtain ⟨rfl, hsz, hK, hP, hD0⟩ := hv
  subst hsz
  have hD := hD0.self (sz := s.heap.size)
  generalize hAe : va_A (wS1 cI cJ cZ cB p0 p1 p2 p3 p4 p5 p6 p7 p8 p9 p10 p11 p12 p13 p14 p15 x0_3 x0_4 x0_5 x0_6 x0_7 x0_8 x0_9 x0_10 x0_12 x0_13 x0_14 x1_1 x1_2 x1_3 x1_4 x1_5 x1_6 x1_7 x1_8 y2 x3_5 x3_6 y4 y5 y6 y7 y8 x9_6 y10 y11 y12 y13 y14 y15) s.heap.size = A at hD ⊢
  have hA : ∀ q : Nat, s.heap.size ≤ q → A q := fun q h => by rw [← hAe]; exact Or.inr h
  clear hAe hD0
  have hS : va_S A s.heap s.heap [] := va_S.rf
  have hx := B.exec
  have hb := B.bytes
  have hr := B.returns
  have hts := atoms_spec (ws := .code y_A_tellSymbol b_A_tellSymbol 3 none :: tb) B.pre
  have hk : ∀ w ∈ tb, w.before [.ref p0, .int a1].toArray s = true := fun w h => hts w (List.mem_cons_of_mem _ h)
  have hown : s.vm.findClass "SignMachine$Assembler" = some m.cls := findClass_of_methodNamed B.named
  have hlocks := B.notSynchronized
  have hl := lv_entry ([.ref p0, .int a1]) (n := 3) (Nat.le_of_ble_eq_true rfl)
  rw [lg_entry_eq]
  generalize (lg_sl ([.ref p0, .int a1]) ++ List.replicate (3 - (lg_sl ([.ref p0, .int a1])).length) Slot.unset).toArray = ls at hl ⊢
  have hl : lv_has ls 3 [(0, .ref p0), (1, .int a1)] := hl
  refine lv_aload_n hx hb d_A_tellSymbol_0 rfl (lv_at hl 0 rfl) ?_
  refine va_get (D := D) (ci := 3) (v := .ref p3) (C := "SignMachine$Assembler") (T := F_A) (N := 15) hx hb hk fi_A hown hK.1 hP 0 rfl rfl 1 (by decide) (hk _ k_633) (fun _ h9 => h9) rfl d_A_tellSymbol_1 ?_
  refine lv_aload_n hx hb d_A_tellSymbol_4 rfl (lv_at hl 0 rfl) ?_
  refine va_get (D := D) (ci := 3) (v := .long x0_9) (C := "SignMachine$Assembler") (T := F_A) (N := 15) hx hb hk fi_A hown hK.1 hP 0 rfl rfl 9 (by decide) (hk _ k_646) (fun _ h9 => h9) rfl d_A_tellSymbol_5 ?_
  refine sn_i (va_runV (C := "SignMachine$Names") (As := [.long x0_9]) (rest := []) ⟨hx, hb, hml, hown, hk⟩ (c_N_find_s1 l D cI cJ cZ cB p0 p1 p2 p3 p4 p5 p6 p7 p8 p9 p10 p11 p12 p13 p14 p15 s.heap.size x0_3 x0_4 x0_5 x0_6 x0_7 x0_8 x0_9 x0_10 x0_12 x0_13 x0_14 x1_1 x1_2 x1_3 x1_4 x1_5 x1_6 x1_7 x1_8 y2 x3_5 x3_6 y4 y5 y6 y7 y8 x9_6 y10 y11 y12 y13 y14 y15 x0_9) (v_N_find_s1 hk k_924 ⟨Nat.le_of_ble_eq_true rfl, Nat.le_of_ble_eq_true rfl⟩) (pM_v hK hP hD (ci := 5) (q0 := 3) rfl rfl rfl) rfl rfl hl.1 rfl (lv_room (Nat.le_of_ble_eq_true rfl)) d_A_tellSymbol_8 ⟨by decide, by decide⟩) hS hA hD (fun rz1 u t H locs hr0 ht hB hFr hS => ?_)
  obtain ⟨hP, hD⟩ := hB
  rw [ht] at hP
  have hD := dwk hD hFr
  clear ht hFr
  have hP : va_P D classes (wS1 cI cJ cZ cB p0 p1 p2 p3 p4 p5 p6 p7 p8 p9 p10 p11 p12 p13 p14 p15 x0_3 x0_4 x0_5 x0_6 x0_7 x0_8 x0_9 x0_10 x0_12 x0_13 x0_14 x1_1 x1_2 x1_3 x1_4 x1_5 x1_6 x1_7 x1_8 y2 x3_5 x3_6 y4 y5 y6 y7 y8 x9_6 y10 y11 y12 y13 y14 y15) H := hP
  have hD : va_D A (wS1 cI cJ cZ cB p0 p1 p2 p3 p4 p5 p6 p7 p8 p9 p10 p11 p12 p13 p14 p15 x0_3 x0_4 x0_5 x0_6 x0_7 x0_8 x0_9 x0_10 x0_12 x0_13 x0_14 x1_1 x1_2 x1_3 x1_4 x1_5 x1_6 x1_7 x1_8 y2 x3_5 x3_6 y4 y5 y6 y7 y8 x9_6 y10 y11 y12 y13 y14 y15) := hD
  refine lv_istore_n (lv' := [(2, .int rz1), (0, .ref p0), (1, .int a1)]) hx hb d_A_tellSymbol_11 rfl hl (by decide) rfl (fun ls hl => ?_)
  refine lv_aload_n hx hb d_A_tellSymbol_12 rfl (lv_at hl 1 rfl) ?_
  refine va_get (D := D) (ci := 3) (v := .ref p3) (C := "SignMachine$Assembler") (T := F_A) (N := 15) hx hb hk fi_A hown hK.1 hP 0 rfl rfl 1 (by decide) (hk _ k_633) (fun _ h9 => h9) rfl d_A_tellSymbol_13 ?_
  refine lv_iload_n hx hb d_A_tellSymbol_16 rfl (lv_at hl 0 rfl) ?_
  refine sn_i (va_runV (C := "SignMachine$Names") (As := [.int rz1]) (rest := []) ⟨hx, hb, hml, hown, hk⟩ (c_N_isTold_s1 l D cI cJ cZ cB p0 p1 p2 p3 p4 p5 p6 p7 p8 p9 p10 p11 p12 p13 p14 p15 H.size x0_3 x0_4 x0_5 x0_6 x0_7 x0_8 x0_9 x0_10 x0_12 x0_13 x0_14 x1_1 x1_2 x1_3 x1_4 x1_5 x1_6 x1_7 x1_8 y2 x3_5 x3_6 y4 y5 y6 y7 y8 x9_6 y10 y11 y12 y13 y14 y15 rz1) (v_N_isTold_s1 hk k_928 ⟨Nat.le_of_ble_eq_true rfl, Nat.le_of_ble_eq_true rfl⟩) (pM_v hK hP hD (ci := 5) (q0 := 3) rfl rfl rfl) rfl rfl hl.1 rfl (lv_room (Nat.le_of_ble_eq_true rfl)) d_A_tellSymbol_17 ⟨by decide, by decide⟩) hS hA hD (fun rz2 u t H locs hr0 ht hB hFr hS => ?_)
  obtain ⟨z2, hz2⟩ := hr0
  subst hz2
  obtain ⟨hP, hD⟩ := hB
  rw [ht] at hP
  have hD := dwk hD hFr
  clear ht hFr
  have hP : va_P D classes (wS1 cI cJ cZ cB p0 p1 p2 p3 p4 p5 p6 p7 p8 p9 p10 p11 p12 p13 p14 p15 x0_3 x0_4 x0_5 x0_6 x0_7 x0_8 x0_9 x0_10 x0_12 x0_13 x0_14 x1_1 x1_2 x1_3 x1_4 x1_5 x1_6 x1_7 x1_8 y2 x3_5 x3_6 y4 y5 y6 y7 y8 x9_6 y10 y11 y12 y13 y14 y15) H := hP
  have hD : va_D A (wS1 cI cJ cZ cB p0 p1 p2 p3 p4 p5 p6 p7 p8 p9 p10 p11 p12 p13 p14 p15 x0_3 x0_4 x0_5 x0_6 x0_7 x0_8 x0_9 x0_10 x0_12 x0_13 x0_14 x1_1 x1_2 x1_3 x1_4 x1_5 x1_6 x1_7 x1_8 y2 x3_5 x3_6 y4 y5 y6 y7 y8 x9_6 y10 y11 y12 y13 y14 y15) := hD
  refine lv_if_eq (tgt := 30) hx hb d_A_tellSymbol_20 (by decide) (fun c3 => ?_) (fun c3 => ?_)
  · refine lv_iload_n hx hb d_A_tellSymbol_30 rfl (lv_at hl 0 rfl) ?_
    refine lv_if_ge (tgt := 46) hx hb d_A_tellSymbol_31 (by decide) (fun c4 => ?_) (fun c4 => ?_)
    · refine lv_iload_n hx hb d_A_tellSymbol_46 rfl (lv_at hl 0 rfl) ?_
      refine lv_if_ge (tgt := 57) hx hb d_A_tellSymbol_47 (by decide) (fun c5 => ?_) (fun c5 => absurd (show (0 : Int32) ≤ rz1 from c4) c5)
      refine lv_aload_n hx hb d_A_tellSymbol_57 rfl (lv_at hl 1 rfl) ?_
      refine va_get (D := D) (ci := 3) (v := .ref p3) (C := "SignMachine$Assembler") (T := F_A) (N := 15) hx hb hk fi_A hown hK.1 hP 0 rfl rfl 1 (by decide) (hk _ k_633) (fun _ h9 => h9) rfl d_A_tellSymbol_58 ?_
      refine lv_iload_n hx hb d_A_tellSymbol_61 rfl (lv_at hl 0 rfl) ?_
      refine lv_iload_n hx hb d_A_tellSymbol_62 rfl (lv_at hl 2 rfl) ?_
      refine kn_v (va_runV (C := "SignMachine$Names") (As := [.int rz1, .int a1]) (rest := []) ⟨hx, hb, hml, hown, hk⟩ (c_N_tell_s1 l D cI cJ cZ cB p0 p1 p2 p3 p4 p5 p6 p7 p8 p9 p10 p11 p12 p13 p14 p15 H.size x0_3 x0_4 x0_5 x0_6 x0_7 x0_8 x0_9 x0_10 x0_12 x0_13 x0_14 x1_1 x1_2 x1_3 x1_4 x1_5 x1_6 x1_7 x1_8 y2 x3_5 x3_6 y4 y5 y6 y7 y8 x9_6 y10 y11 y12 y13 y14 y15 rz1 a1) (v_N_tell_s1 hk k_940 ⟨Nat.le_of_ble_eq_true rfl, Nat.le_of_ble_eq_true rfl⟩) (pM_v hK hP hD (ci := 5) (q0 := 3) rfl rfl rfl) rfl rfl hl.1 rfl (lv_room (Nat.le_of_ble_eq_true rfl)) d_A_tellSymbol_63 ⟨by decide, by decide⟩) hS hA hD (fun u t H locs ht hB hFr hS => ?_)
      obtain ⟨y5z6, y6z6, hP, hD⟩ := hB
      rw [ht] at hP
      have hD := dwk hD hFr
      clear ht hFr
      have hP : va_P D classes (wS1 cI cJ cZ cB p0 p1 p2 p3 p4 p5 p6 p7 p8 p9 p10 p11 p12 p13 p14 p15 x0_3 x0_4 x0_5 x0_6 x0_7 x0_8 x0_9 x0_10 x0_12 x0_13 x0_14 x1_1 x1_2 x1_3 x1_4 x1_5 x1_6 x1_7 x1_8 y2 x3_5 x3_6 y4 y5z6 y6z6 y7 y8 x9_6 y10 y11 y12 y13 y14 y15) H := hP
      have hD : va_D A (wS1 cI cJ cZ cB p0 p1 p2 p3 p4 p5 p6 p7 p8 p9 p10 p11 p12 p13 p14 p15 x0_3 x0_4 x0_5 x0_6 x0_7 x0_8 x0_9 x0_10 x0_12 x0_13 x0_14 x1_1 x1_2 x1_3 x1_4 x1_5 x1_6 x1_7 x1_8 y2 x3_5 x3_6 y4 y5z6 y6z6 y7 y8 x9_6 y10 y11 y12 y13 y14 y15) := hD
      exact W.vret hx hb hr (fun t ht hW => ⟨⟨(), rfl, trivial, ⟨x0_3, x0_4, x3_5, x3_6, y4, y5z6, y6z6, by show va_P D classes _ t.heap; rw [ht]; exact hP, hD⟩⟩, hS.F ht⟩) hS.2.2 d_A_tellSymbol_66
    · refine lv_aload_n hx hb d_A_tellSymbol_34 rfl (lv_at hl 1 rfl) ?_
      refine va_get (D := D) (ci := 3) (v := .ref p3) (C := "SignMachine$Assembler") (T := F_A) (N := 15) hx hb hk fi_A hown hK.1 hP 0 rfl rfl 1 (by decide) (hk _ k_633) (fun _ h9 => h9) rfl d_A_tellSymbol_35 ?_
      refine lv_aload_n hx hb d_A_tellSymbol_38 rfl (lv_at hl 1 rfl) ?_
      refine va_get (D := D) (ci := 3) (v := .long x0_9) (C := "SignMachine$Assembler") (T := F_A) (N := 15) hx hb hk fi_A hown hK.1 hP 0 rfl rfl 9 (by decide) (hk _ k_646) (fun _ h9 => h9) rfl d_A_tellSymbol_39 ?_
      refine sn_i (va_runV (C := "SignMachine$Names") (As := [.long x0_9]) (rest := []) ⟨hx, hb, hml, hown, hk⟩ (c_N_addSymbol_s1 l D cI cJ cZ cB p0 p1 p2 p3 p4 p5 p6 p7 p8 p9 p10 p11 p12 p13 p14 p15 H.size x0_3 x0_4 x0_5 x0_6 x0_7 x0_8 x0_9 x0_10 x0_12 x0_13 x0_14 x1_1 x1_2 x1_3 x1_4 x1_5 x1_6 x1_7 x1_8 y2 x3_5 x3_6 y4 y5 y6 y7 y8 x9_6 y10 y11 y12 y13 y14 y15 x0_9) (v_N_addSymbol_s1 hk k_932 ⟨Nat.le_of_ble_eq_true rfl, Nat.le_of_ble_eq_true rfl⟩) (pM_v hK hP hD (ci := 5) (q0 := 3) rfl rfl rfl) rfl rfl hl.1 rfl (lv_room (Nat.le_of_ble_eq_true rfl)) d_A_tellSymbol_42 ⟨by decide, by decide⟩) hS hA hD (fun rz7 u t H locs hr0 ht hB hFr hS => ?_)
      obtain ⟨x3_5z7, x3_6z7, y4z7, y5z7, y6z7, hP, hD⟩ := hB
      rw [ht] at hP
      have hD := dwk hD hFr
      clear ht hFr
      have hP : va_P D classes (wS1 cI cJ cZ cB p0 p1 p2 p3 p4 p5 p6 p7 p8 p9 p10 p11 p12 p13 p14 p15 x0_3 x0_4 x0_5 x0_6 x0_7 x0_8 x0_9 x0_10 x0_12 x0_13 x0_14 x1_1 x1_2 x1_3 x1_4 x1_5 x1_6 x1_7 x1_8 y2 x3_5z7 x3_6z7 y4z7 y5z7 y6z7 y7 y8 x9_6 y10 y11 y12 y13 y14 y15) H := hP
      have hD : va_D A (wS1 cI cJ cZ cB p0 p1 p2 p3 p4 p5 p6 p7 p8 p9 p10 p11 p12 p13 p14 p15 x0_3 x0_4 x0_5 x0_6 x0_7 x0_8 x0_9 x0_10 x0_12 x0_13 x0_14 x1_1 x1_2 x1_3 x1_4 x1_5 x1_6 x1_7 x1_8 y2 x3_5z7 x3_6z7 y4z7 y5z7 y6z7 y7 y8 x9_6 y10 y11 y12 y13 y14 y15) := hD
      refine lv_istore_n (lv' := [(2, .int rz7), (0, .ref p0), (1, .int a1)]) hx hb d_A_tellSymbol_45 rfl hl (by decide) rfl (fun ls hl => ?_)
      refine lv_iload_n hx hb d_A_tellSymbol_46 rfl (lv_at hl 0 rfl) ?_
      refine lv_if_ge (tgt := 57) hx hb d_A_tellSymbol_47 (by decide) (fun c8 => ?_) (fun c8 => ?_)
      · refine lv_aload_n hx hb d_A_tellSymbol_57 rfl (lv_at hl 1 rfl) ?_
        refine va_get (D := D) (ci := 3) (v := .ref p3) (C := "SignMachine$Assembler") (T := F_A) (N := 15) hx hb hk fi_A hown hK.1 hP 0 rfl rfl 1 (by decide) (hk _ k_633) (fun _ h9 => h9) rfl d_A_tellSymbol_58 ?_
        refine lv_iload_n hx hb d_A_tellSymbol_61 rfl (lv_at hl 0 rfl) ?_
        refine lv_iload_n hx hb d_A_tellSymbol_62 rfl (lv_at hl 2 rfl) ?_
        refine kn_v (va_runV (C := "SignMachine$Names") (As := [.int rz7, .int a1]) (rest := []) ⟨hx, hb, hml, hown, hk⟩ (c_N_tell_s1 l D cI cJ cZ cB p0 p1 p2 p3 p4 p5 p6 p7 p8 p9 p10 p11 p12 p13 p14 p15 H.size x0_3 x0_4 x0_5 x0_6 x0_7 x0_8 x0_9 x0_10 x0_12 x0_13 x0_14 x1_1 x1_2 x1_3 x1_4 x1_5 x1_6 x1_7 x1_8 y2 x3_5z7 x3_6z7 y4z7 y5z7 y6z7 y7 y8 x9_6 y10 y11 y12 y13 y14 y15 rz7 a1) (v_N_tell_s1 hk k_940 ⟨Nat.le_of_ble_eq_true rfl, Nat.le_of_ble_eq_true rfl⟩) (pM_v hK hP hD (ci := 5) (q0 := 3) rfl rfl rfl) rfl rfl hl.1 rfl (lv_room (Nat.le_of_ble_eq_true rfl)) d_A_tellSymbol_63 ⟨by decide, by decide⟩) hS hA hD (fun u t H locs ht hB hFr hS => ?_)
        obtain ⟨y5z9, y6z9, hP, hD⟩ := hB
        rw [ht] at hP
        have hD := dwk hD hFr
        clear ht hFr
        have hP : va_P D classes (wS1 cI cJ cZ cB p0 p1 p2 p3 p4 p5 p6 p7 p8 p9 p10 p11 p12 p13 p14 p15 x0_3 x0_4 x0_5 x0_6 x0_7 x0_8 x0_9 x0_10 x0_12 x0_13 x0_14 x1_1 x1_2 x1_3 x1_4 x1_5 x1_6 x1_7 x1_8 y2 x3_5z7 x3_6z7 y4z7 y5z9 y6z9 y7 y8 x9_6 y10 y11 y12 y13 y14 y15) H := hP
        have hD : va_D A (wS1 cI cJ cZ cB p0 p1 p2 p3 p4 p5 p6 p7 p8 p9 p10 p11 p12 p13 p14 p15 x0_3 x0_4 x0_5 x0_6 x0_7 x0_8 x0_9 x0_10 x0_12 x0_13 x0_14 x1_1 x1_2 x1_3 x1_4 x1_5 x1_6 x1_7 x1_8 y2 x3_5z7 x3_6z7 y4z7 y5z9 y6z9 y7 y8 x9_6 y10 y11 y12 y13 y14 y15) := hD
        exact W.vret hx hb hr (fun t ht hW => ⟨⟨(), rfl, trivial, ⟨x0_3, x0_4, x3_5z7, x3_6z7, y4z7, y5z9, y6z9, by show va_P D classes _ t.heap; rw [ht]; exact hP, hD⟩⟩, hS.F ht⟩) hS.2.2 d_A_tellSymbol_66
      · refine lv_aload_n hx hb d_A_tellSymbol_50 rfl (lv_at hl 1 rfl) ?_
        refine lv_iconst (v := 5) hx hb d_A_tellSymbol_51 (by decide) ?_
        refine sn_i (va_runV (C := "SignMachine$Assembler") (As := [.int (5 : Int32)]) (rest := []) ⟨hx, hb, hml, hown, hk⟩ (c_A_fail_s1 l D cI cJ cZ cB p0 p1 p2 p3 p4 p5 p6 p7 p8 p9 p10 p11 p12 p13 p14 p15 H.size x0_3 x0_4 x0_5 x0_6 x0_7 x0_8 x0_9 x0_10 x0_12 x0_13 x0_14 x1_1 x1_2 x1_3 x1_4 x1_5 x1_6 x1_7 x1_8 y2 x3_5z7 x3_6z7 y4z7 y5z7 y6z7 y7 y8 x9_6 y10 y11 y12 y13 y14 y15 (5 : Int32)) (v_A_fail_s1 hk k_767 ⟨Nat.le_of_ble_eq_true rfl, Nat.le_of_ble_eq_true rfl⟩) (pM_v hK hP hD (ci := 3) (q0 := 0) rfl rfl rfl) rfl rfl hl.1 rfl (lv_room (Nat.le_of_ble_eq_true rfl)) d_A_tellSymbol_52 ⟨by decide, by decide⟩) hS hA hD (fun rz10 u t H locs hr0 ht hB hFr hS => ?_)
        obtain ⟨x0_3z10, x0_4z10, hP, hD⟩ := hB
        rw [ht] at hP
        have hD := dwk hD hFr
        clear ht hFr
        have hP : va_P D classes (wS1 cI cJ cZ cB p0 p1 p2 p3 p4 p5 p6 p7 p8 p9 p10 p11 p12 p13 p14 p15 x0_3z10 x0_4z10 x0_5 x0_6 x0_7 x0_8 x0_9 x0_10 x0_12 x0_13 x0_14 x1_1 x1_2 x1_3 x1_4 x1_5 x1_6 x1_7 x1_8 y2 x3_5z7 x3_6z7 y4z7 y5z7 y6z7 y7 y8 x9_6 y10 y11 y12 y13 y14 y15) H := hP
        have hD : va_D A (wS1 cI cJ cZ cB p0 p1 p2 p3 p4 p5 p6 p7 p8 p9 p10 p11 p12 p13 p14 p15 x0_3z10 x0_4z10 x0_5 x0_6 x0_7 x0_8 x0_9 x0_10 x0_12 x0_13 x0_14 x1_1 x1_2 x1_3 x1_4 x1_5 x1_6 x1_7 x1_8 y2 x3_5z7 x3_6z7 y4z7 y5z7 y6z7 y7 y8 x9_6 y10 y11 y12 y13 y14 y15) := hD
        refine lv_pop hx hb d_A_tellSymbol_55 rfl ?_
        exact W.vret hx hb hr (fun t ht hW => ⟨⟨(), rfl, trivial, ⟨x0_3z10, x0_4z10, x3_5z7, x3_6z7, y4z7, y5z7, y6z7, by show va_P D classes _ t.heap; rw [ht]; exact hP, hD⟩⟩, hS.F ht⟩) hS.2.2 d_A_tellSymbol_56
  · refine lv_aload_n hx hb d_A_tellSymbol_23 rfl (lv_at hl 1 rfl) ?_
    refine lv_iconst (v := 3) hx hb d_A_tellSymbol_24 (by decide) ?_
    refine sn_i (va_runV (C := "SignMachine$Assembler") (As := [.int (3 : Int32)]) (rest := []) ⟨hx, hb, hml, hown, hk⟩ (c_A_fail_s1 l D cI cJ cZ cB p0 p1 p2 p3 p4 p5 p6 p7 p8 p9 p10 p11 p12 p13 p14 p15 H.size x0_3 x0_4 x0_5 x0_6 x0_7 x0_8 x0_9 x0_10 x0_12 x0_13 x0_14 x1_1 x1_2 x1_3 x1_4 x1_5 x1_6 x1_7 x1_8 y2 x3_5 x3_6 y4 y5 y6 y7 y8 x9_6 y10 y11 y12 y13 y14 y15 (3 : Int32)) (v_A_fail_s1 hk k_767 ⟨Nat.le_of_ble_eq_true rfl, Nat.le_of_ble_eq_true rfl⟩) (pM_v hK hP hD (ci := 3) (q0 := 0) rfl rfl rfl) rfl rfl hl.1 rfl (lv_room (Nat.le_of_ble_eq_true rfl)) d_A_tellSymbol_25 ⟨by decide, by decide⟩) hS hA hD (fun rz11 u t H locs hr0 ht hB hFr hS => ?_)
    obtain ⟨x0_3z11, x0_4z11, hP, hD⟩ := hB
    rw [ht] at hP
    have hD := dwk hD hFr
    clear ht hFr
    have hP : va_P D classes (wS1 cI cJ cZ cB p0 p1 p2 p3 p4 p5 p6 p7 p8 p9 p10 p11 p12 p13 p14 p15 x0_3z11 x0_4z11 x0_5 x0_6 x0_7 x0_8 x0_9 x0_10 x0_12 x0_13 x0_14 x1_1 x1_2 x1_3 x1_4 x1_5 x1_6 x1_7 x1_8 y2 x3_5 x3_6 y4 y5 y6 y7 y8 x9_6 y10 y11 y12 y13 y14 y15) H := hP
    have hD : va_D A (wS1 cI cJ cZ cB p0 p1 p2 p3 p4 p5 p6 p7 p8 p9 p10 p11 p12 p13 p14 p15 x0_3z11 x0_4z11 x0_5 x0_6 x0_7 x0_8 x0_9 x0_10 x0_12 x0_13 x0_14 x1_1 x1_2 x1_3 x1_4 x1_5 x1_6 x1_7 x1_8 y2 x3_5 x3_6 y4 y5 y6 y7 y8 x9_6 y10 y11 y12 y13 y14 y15) := hD
    refine lv_pop hx hb d_A_tellSymbol_28 rfl ?_
    exact W.vret hx hb hr (fun t ht hW => ⟨⟨(), rfl, trivial, ⟨x0_3z11, x0_4z11, x3_5, x3_6, y4, y5, y6, by show va_P D classes _ t.heap; rw [ht]; exact hP, hD⟩⟩, hS.F ht⟩) hS.2.2 d_A_tellSymbol_29
theorem v_A_tellSymbol_s1 {R : Room} {s : State} {args : Array Value} {own : String} {index : Nat} (hk : ∀ w ∈ tb, w.before args s = true) (hl : Cond.methodLink own index y_A_tellSymbol ∈ tb) (hR : 2 + 1 ≤ R.frames ∧ 8 + (3 + 11) + 45 ≤ R.locals) : CallW R s args own "SignMachine$Assembler" index y_A_tellSymbol b_A_tellSymbol 3 none (.code y_A_tellSymbol b_A_tellSymbol 3 none :: tb) ({ frames := 2, cells := 0, slots := 0, locals := 45 }) 0 0 1 := mk_v 1 hk k_923 hl k_922 k_40 k_123 rfl rfl h_A_tellSymbol hR
set_option maxHeartbeats 4000000 in
set_option maxRecDepth 100000 in
theorem c_O_closeLocal_s1 (l : Launch) (D : va_G) (cI cJ cZ cB : ClassId) (p0 p1 p2 p3 p4 p5 p6 p7 p8 p9 p10 p11 p12 p13 p14 p15 : Nat) (sz : Nat) (x0_3 : Int32) (x0_4 : Int32) (x0_5 : Int32) (x0_6 : Int32) (x0_7 : Int32) (x0_8 : Bool) (x0_9 : Int64) (x0_10 : Int32) (x0_12 : Int32) (x0_13 : Int32) (x0_14 : Int32) (x1_1 : Int32) (x1_2 : Int32) (x1_3 : Int32) (x1_4 : Int32) (x1_5 : Int32) (x1_6 : Int32) (x1_7 : Int64) (x1_8 : Int32) (y2 : Nat → Int32) (x3_5 : Int32) (x3_6 : Int32) (y4 : Nat → Int64) (y5 : Nat → Int32) (y6 : Nat → Int32) (y7 : Nat → Int32) (y8 : Nat → Int32) (x9_6 : Int32) (y10 : Nat → Int32) (y11 : Nat → Int32) (y12 : Nat → Int32) (y13 : Nat → Int32) (y14 : Nat → Int32) (y15 : Nat → Int32) (a1 : Int32) (a2 : Int32) : Met l y_O_closeLocal (.code y_O_closeLocal b_O_closeLocal 6 none :: tb) ({ frames := 1, cells := 0, slots := 0, locals := 20 }) (pM D cI cJ cZ cB (wS1 cI cJ cZ cB p0 p1 p2 p3 p4 p5 p6 p7 p8 p9 p10 p11 p12 p13 p14 p15 x0_3 x0_4 x0_5 x0_6 x0_7 x0_8 x0_9 x0_10 x0_12 x0_13 x0_14 x1_1 x1_2 x1_3 x1_4 x1_5 x1_6 x1_7 x1_8 y2 x3_5 x3_6 y4 y5 y6 y7 y8 x9_6 y10 y11 y12 y13 y14 y15) sz [.ref p9, .int a1, .int a2]) (va_Qv (fun (_ : Unit) => True) (fun _ t => (∃ u_y13 : Nat → Int32, ∃ u_y14 : Nat → Int32, ∃ u_y15 : Nat → Int32, va_P D classes (wS1 cI cJ cZ cB p0 p1 p2 p3 p4 p5 p6 p7 p8 p9 p10 p11 p12 p13 p14 p15 x0_3 x0_4 x0_5 x0_6 x0_7 x0_8 x0_9 x0_10 x0_12 x0_13 x0_14 x1_1 x1_2 x1_3 x1_4 x1_5 x1_6 x1_7 x1_8 y2 x3_5 x3_6 y4 y5 y6 y7 y8 x9_6 y10 y11 y12 u_y13 u_y14 u_y15) t.heap ∧ va_D (va_A (wS1 cI cJ cZ cB p0 p1 p2 p3 p4 p5 p6 p7 p8 p9 p10 p11 p12 p13 p14 p15 x0_3 x0_4 x0_5 x0_6 x0_7 x0_8 x0_9 x0_10 x0_12 x0_13 x0_14 x1_1 x1_2 x1_3 x1_4 x1_5 x1_6 x1_7 x1_8 y2 x3_5 x3_6 y4 y5 y6 y7 y8 x9_6 y10 y11 y12 y13 y14 y15) sz) (wS1 cI cJ cZ cB p0 p1 p2 p3 p4 p5 p6 p7 p8 p9 p10 p11 p12 p13 p14 p15 x0_3 x0_4 x0_5 x0_6 x0_7 x0_8 x0_9 x0_10 x0_12 x0_13 x0_14 x1_1 x1_2 x1_3 x1_4 x1_5 x1_6 x1_7 x1_8 y2 x3_5 x3_6 y4 y5 y6 y7 y8 x9_6 y10 y11 y12 u_y13 u_y14 u_y15))) (va_A (wS1 cI cJ cZ cB p0 p1 p2 p3 p4 p5 p6 p7 p8 p9 p10 p11 p12 p13 p14 p15 x0_3 x0_4 x0_5 x0_6 x0_7 x0_8 x0_9 x0_10 x0_12 x0_13 x0_14 x1_1 x1_2 x1_3 x1_4 x1_5 x1_6 x1_7 x1_8 y2 x3_5 x3_6 y4 y5 y6 y7 y8 x9_6 y10 y11 y12 y13 y14 y15) sz)) 0 0 (va_A (wS1 cI cJ cZ cB p0 p1 p2 p3 p4 p5 p6 p7 p8 p9 p10 p11 p12 p13 p14 p15 x0_3 x0_4 x0_5 x0_6 x0_7 x0_8 x0_9 x0_10 x0_12 x0_13 x0_14 x1_1 x1_2 x1_3 x1_4 x1_5 x1_6 x1_7 x1_8 y2 x3_5 x3_6 y4 y5 y6 y7 y8 x9_6 y10 y11 y12 y13 y14 y15) sz) := by
  refine Met.ofW (cc := b_O_closeLocal) (maxL := 6) (ret := none) (by decide) rfl ?_
  intro p e s m args below meth c s₁ B hml hv
  obtain ⟨rfl, hsz, hK, hP, hD0⟩ := hv
  subst hsz
  have hD := hD0.self (sz := s.heap.size)
  generalize hAe : va_A (wS1 cI cJ cZ cB p0 p1 p2 p3 p4 p5 p6 p7 p8 p9 p10 p11 p12 p13 p14 p15 x0_3 x0_4 x0_5 x0_6 x0_7 x0_8 x0_9 x0_10 x0_12 x0_13 x0_14 x1_1 x1_2 x1_3 x1_4 x1_5 x1_6 x1_7 x1_8 y2 x3_5 x3_6 y4 y5 y6 y7 y8 x9_6 y10 y11 y12 y13 y14 y15) s.heap.size = A at hD ⊢
  have hA : ∀ q : Nat, s.heap.size ≤ q → A q := fun q h => by rw [← hAe]; exact Or.inr h
  clear hAe hD0
  have hS : va_S A s.heap s.heap [] := va_S.rf
  have hx := B.exec
  have hb := B.bytes
  have hr := B.returns
  have hts := atoms_spec (ws := .code y_O_closeLocal b_O_closeLocal 6 none :: tb) B.pre
  have hk : ∀ w ∈ tb, w.before [.ref p9, .int a1, .int a2].toArray s = true := fun w h => hts w (List.mem_cons_of_mem _ h)
  have hown : s.vm.findClass "SignMachine$Output" = some m.cls := findClass_of_methodNamed B.named
  have hlocks := B.notSynchronized
  have hl := lv_entry ([.ref p9, .int a1, .int a2]) (n := 6) (Nat.le_of_ble_eq_true rfl)
  rw [lg_entry_eq]
  generalize (lg_sl ([.ref p9, .int a1, .int a2]) ++ List.replicate (6 - (lg_sl ([.ref p9, .int a1, .int a2])).length) Slot.unset).toArray = ls at hl ⊢
  have hl : lv_has ls 6 [(0, .ref p9), (1, .int a1), (2, .int a2)] := hl
  refine lv_iload_n hx hb d_O_closeLocal_0 rfl (lv_at hl 1 rfl) ?_
  refine lv_if_lt (tgt := 13) hx hb d_O_closeLocal_1 (by decide) (fun c1 => ?_) (fun c1 => ?_)
  · exact W.vret hx hb hr (fun t ht hW => ⟨⟨(), rfl, trivial, ⟨y13, y14, y15, by show va_P D classes _ t.heap; rw [ht]; exact hP, hD⟩⟩, hS.F ht⟩) hS.2.2 d_O_closeLocal_13
  · refine lv_iload_n hx hb d_O_closeLocal_4 rfl (lv_at hl 1 rfl) ?_
    refine lv_aload_n hx hb d_O_closeLocal_5 rfl (lv_at hl 0 rfl) ?_
    refine va_get (D := D) (ci := 6) (v := .ref p15) (C := "SignMachine$Output") (T := F_O) (N := 7) hx hb hk fi_O hown hK.1 hP 9 rfl rfl 5 (by decide) (hk _ k_612) (fun _ h9 => h9) rfl d_O_closeLocal_6 ?_
    refine va_alen (v := 10) hx hb hK.1 hP 15 0 rfl rfl rfl d_O_closeLocal_9 ?_
    refine lv_icmp_lt (tgt := 14) hx hb d_O_closeLocal_10 (by decide) (fun c2 => ?_) (fun c2 => ?_)
    · refine lv_aload_n hx hb d_O_closeLocal_14 rfl (lv_at hl 0 rfl) ?_
      refine va_get (D := D) (ci := 6) (v := .ref p15) (C := "SignMachine$Output") (T := F_O) (N := 7) hx hb hk fi_O hown hK.1 hP 9 rfl rfl 5 (by decide) (hk _ k_612) (fun _ h9 => h9) rfl d_O_closeLocal_15 ?_
      refine lv_iload_n hx hb d_O_closeLocal_18 rfl (lv_at hl 1 rfl) ?_
      refine va_iald hx hb hK.1 hP 15 0 rfl rfl (vpin2 c1 c2 rfl) d_O_closeLocal_19 ?_
      refine lv_topi (fun v3 hv3 => ?_)
      refine lv_istore_n (lv' := [(3, .int v3), (0, .ref p9), (1, .int a1), (2, .int a2)]) hx hb d_O_closeLocal_20 rfl hl (by decide) rfl (fun ls hl => ?_)
      refine lv_iconst (v := 0) hx hb d_O_closeLocal_21 (by decide) ?_
      refine lv_istore (lv' := [(4, .int (0 : Int32)), (3, .int v3), (0, .ref p9), (1, .int a1), (2, .int a2)]) hx hb d_O_closeLocal_22 hl (by decide) rfl (fun ls hl => ?_)
      have LP24_1 : ∀ (n : Nat) (l4 : Int32) (l3 : Int32) (y13 : Nat → Int32) (y14 : Nat → Int32) (y15 : Nat → Int32) (H : Heap) (locs : List Loc) (ls : Array Slot), (((1101 : Int32)).toInt - (l4).toInt).toNat < n → ¬ l4 < (0 : Int32) → va_P D classes (wS1 cI cJ cZ cB p0 p1 p2 p3 p4 p5 p6 p7 p8 p9 p10 p11 p12 p13 p14 p15 x0_3 x0_4 x0_5 x0_6 x0_7 x0_8 x0_9 x0_10 x0_12 x0_13 x0_14 x1_1 x1_2 x1_3 x1_4 x1_5 x1_6 x1_7 x1_8 y2 x3_5 x3_6 y4 y5 y6 y7 y8 x9_6 y10 y11 y12 y13 y14 y15) H → va_D A (wS1 cI cJ cZ cB p0 p1 p2 p3 p4 p5 p6 p7 p8 p9 p10 p11 p12 p13 p14 p15 x0_3 x0_4 x0_5 x0_6 x0_7 x0_8 x0_9 x0_10 x0_12 x0_13 x0_14 x1_1 x1_2 x1_3 x1_4 x1_5 x1_6 x1_7 x1_8 y2 x3_5 x3_6 y4 y5 y6 y7 y8 x9_6 y10 y11 y12 y13 y14 y15) → va_S A s.heap H locs → lv_has ls 6 [(4, .int l4), (3, .int l3), (0, .ref p9), (1, .int a1), (2, .int a2)] → W p l e ({ frames := 1, cells := 0, slots := 0, locals := 20 }) s m [.ref p9, .int a1, .int a2].toArray below meth c H locs 0 0 (MQ below (va_Qv (fun (_ : Unit) => True) (fun _ t => (∃ u_y13 : Nat → Int32, ∃ u_y14 : Nat → Int32, ∃ u_y15 : Nat → Int32, va_P D classes (wS1 cI cJ cZ cB p0 p1 p2 p3 p4 p5 p6 p7 p8 p9 p10 p11 p12 p13 p14 p15 x0_3 x0_4 x0_5 x0_6 x0_7 x0_8 x0_9 x0_10 x0_12 x0_13 x0_14 x1_1 x1_2 x1_3 x1_4 x1_5 x1_6 x1_7 x1_8 y2 x3_5 x3_6 y4 y5 y6 y7 y8 x9_6 y10 y11 y12 u_y13 u_y14 u_y15) t.heap ∧ va_D A (wS1 cI cJ cZ cB p0 p1 p2 p3 p4 p5 p6 p7 p8 p9 p10 p11 p12 p13 p14 p15 x0_3 x0_4 x0_5 x0_6 x0_7 x0_8 x0_9 x0_10 x0_12 x0_13 x0_14 x1_1 x1_2 x1_3 x1_4 x1_5 x1_6 x1_7 x1_8 y2 x3_5 x3_6 y4 y5 y6 y7 y8 x9_6 y10 y11 y12 u_y13 u_y14 u_y15))) A) [.ref p9, .int a1, .int a2].toArray s 0 0 A) (F0 m 24 ls []) := by
        intro n
        induction n with
        | zero => intro l4 l3 y13 y14 y15 H locs ls hn; exact absurd hn (Nat.not_lt_zero _)
        | succ n ih =>
          intro l4 l3 y13 y14 y15 H locs ls hn24_1 hc24_1 hP hD hS hl
          refine lv_iload hx hb d_O_closeLocal_24 (lv_at hl 0 rfl) ?_
          refine lv_sipush (v := 1101) hx hb d_O_closeLocal_26 (by decide) ?_
          refine lv_icmp_ge (tgt := 70) hx hb d_O_closeLocal_29 (by decide) (fun c4 => ?_) (fun c4 => ?_)
          · refine lv_aload_n hx hb d_O_closeLocal_70 rfl (lv_at hl 2 rfl) ?_
            refine va_get (D := D) (ci := 6) (v := .ref p15) (C := "SignMachine$Output") (T := F_O) (N := 7) hx hb hk fi_O hown hK.1 hP 9 rfl rfl 5 (by decide) (hk _ k_612) (fun _ h9 => h9) rfl d_O_closeLocal_71 ?_
            refine lv_iload_n hx hb d_O_closeLocal_74 rfl (lv_at hl 3 rfl) ?_
            refine lv_bipush (v := (-2)) hx hb d_O_closeLocal_75 (by decide) ?_
            refine va_iast hx hb hK.1 hP hD hS 15 0 rfl rfl (vpin2 c1 c2 rfl) d_O_closeLocal_77 (fun H locs hP hD hS => ?_)
            have hP : va_P D classes (wS1 cI cJ cZ cB p0 p1 p2 p3 p4 p5 p6 p7 p8 p9 p10 p11 p12 p13 p14 p15 x0_3 x0_4 x0_5 x0_6 x0_7 x0_8 x0_9 x0_10 x0_12 x0_13 x0_14 x1_1 x1_2 x1_3 x1_4 x1_5 x1_6 x1_7 x1_8 y2 x3_5 x3_6 y4 y5 y6 y7 y8 x9_6 y10 y11 y12 y13 y14 (upd y15 (a1).toNatClampNeg (-2 : Int32))) H := hP
            have hD : va_D A (wS1 cI cJ cZ cB p0 p1 p2 p3 p4 p5 p6 p7 p8 p9 p10 p11 p12 p13 p14 p15 x0_3 x0_4 x0_5 x0_6 x0_7 x0_8 x0_9 x0_10 x0_12 x0_13 x0_14 x1_1 x1_2 x1_3 x1_4 x1_5 x1_6 x1_7 x1_8 y2 x3_5 x3_6 y4 y5 y6 y7 y8 x9_6 y10 y11 y12 y13 y14 (upd y15 (a1).toNatClampNeg (-2 : Int32))) := hD
            obtain ⟨v5, hv5⟩ : ∃ y : Nat → Int32, y = (upd y15 (a1).toNatClampNeg (-2 : Int32)) := ⟨_, rfl⟩
            rw [← hv5] at hP hD
            clear hv5
            exact W.vret hx hb hr (fun t ht hW => ⟨⟨(), rfl, trivial, ⟨y13, y14, v5, by show va_P D classes _ t.heap; rw [ht]; exact hP, hD⟩⟩, hS.F ht⟩) hS.2.2 d_O_closeLocal_78
          · refine lv_iload_n hx hb d_O_closeLocal_32 rfl (lv_at hl 1 rfl) ?_
            refine cs_i (W.runS (As := [.int l3]) (rest := []) ⟨hx, hb, hml, hown, hk⟩ (c_O_isWord l l3) (s_O_isWord hk k_917 ⟨Nat.le_of_ble_eq_true rfl, Nat.le_of_ble_eq_true rfl⟩) ⟨fun a U g mk q => q, fun U hU hW => ⟨rfl, trivial⟩⟩ rfl rfl hl.1 rfl (lv_room (Nat.le_of_ble_eq_true rfl)) d_O_closeLocal_33 ⟨Nat.le_of_ble_eq_true rfl, Nat.le_of_ble_eq_true rfl⟩) ?_
            obtain ⟨z6, hz6⟩ : ∃ y : Bool, y = (f_O_isWord l3) := ⟨_, rfl⟩
            rw [← hz6]
            refine lv_if_eq (tgt := 70) hx hb d_O_closeLocal_36 (by decide) (fun c7 => ?_) (fun c7 => ?_)
            · refine lv_aload_n hx hb d_O_closeLocal_70 rfl (lv_at hl 2 rfl) ?_
              refine va_get (D := D) (ci := 6) (v := .ref p15) (C := "SignMachine$Output") (T := F_O) (N := 7) hx hb hk fi_O hown hK.1 hP 9 rfl rfl 5 (by decide) (hk _ k_612) (fun _ h9 => h9) rfl d_O_closeLocal_71 ?_
              refine lv_iload_n hx hb d_O_closeLocal_74 rfl (lv_at hl 3 rfl) ?_
              refine lv_bipush (v := (-2)) hx hb d_O_closeLocal_75 (by decide) ?_
              refine va_iast hx hb hK.1 hP hD hS 15 0 rfl rfl (vpin2 c1 c2 rfl) d_O_closeLocal_77 (fun H locs hP hD hS => ?_)
              have hP : va_P D classes (wS1 cI cJ cZ cB p0 p1 p2 p3 p4 p5 p6 p7 p8 p9 p10 p11 p12 p13 p14 p15 x0_3 x0_4 x0_5 x0_6 x0_7 x0_8 x0_9 x0_10 x0_12 x0_13 x0_14 x1_1 x1_2 x1_3 x1_4 x1_5 x1_6 x1_7 x1_8 y2 x3_5 x3_6 y4 y5 y6 y7 y8 x9_6 y10 y11 y12 y13 y14 (upd y15 (a1).toNatClampNeg (-2 : Int32))) H := hP
              have hD : va_D A (wS1 cI cJ cZ cB p0 p1 p2 p3 p4 p5 p6 p7 p8 p9 p10 p11 p12 p13 p14 p15 x0_3 x0_4 x0_5 x0_6 x0_7 x0_8 x0_9 x0_10 x0_12 x0_13 x0_14 x1_1 x1_2 x1_3 x1_4 x1_5 x1_6 x1_7 x1_8 y2 x3_5 x3_6 y4 y5 y6 y7 y8 x9_6 y10 y11 y12 y13 y14 (upd y15 (a1).toNatClampNeg (-2 : Int32))) := hD
              obtain ⟨v8, hv8⟩ : ∃ y : Nat → Int32, y = (upd y15 (a1).toNatClampNeg (-2 : Int32)) := ⟨_, rfl⟩
              rw [← hv8] at hP hD
              clear hv8
              exact W.vret hx hb hr (fun t ht hW => ⟨⟨(), rfl, trivial, ⟨y13, y14, v8, by show va_P D classes _ t.heap; rw [ht]; exact hP, hD⟩⟩, hS.F ht⟩) hS.2.2 d_O_closeLocal_78
            · refine lv_aload_n hx hb d_O_closeLocal_39 rfl (lv_at hl 2 rfl) ?_
              refine va_get (D := D) (ci := 6) (v := .ref p14) (C := "SignMachine$Output") (T := F_O) (N := 7) hx hb hk fi_O hown hK.1 hP 9 rfl rfl 4 (by decide) (hk _ k_611) (fun _ h9 => h9) rfl d_O_closeLocal_40 ?_
              refine lv_iload_n hx hb d_O_closeLocal_43 rfl (lv_at hl 1 rfl) ?_
              refine va_iald hx hb hK.1 hP 14 0 rfl rfl (o_inz hz6 c7) d_O_closeLocal_44 ?_
              refine lv_topi (fun v9 hv9 => ?_)
              refine lv_istore (lv' := [(5, .int v9), (4, .int l4), (3, .int l3), (0, .ref p9), (1, .int a1), (2, .int a2)]) hx hb d_O_closeLocal_45 hl (by decide) rfl (fun ls hl => ?_)
              refine lv_aload_n hx hb d_O_closeLocal_47 rfl (lv_at hl 3 rfl) ?_
              refine va_get (D := D) (ci := 6) (v := .ref p13) (C := "SignMachine$Output") (T := F_O) (N := 7) hx hb hk fi_O hown hK.1 hP 9 rfl rfl 3 (by decide) (hk _ k_610) (fun _ h9 => h9) rfl d_O_closeLocal_48 ?_
              refine lv_iload_n hx hb d_O_closeLocal_51 rfl (lv_at hl 2 rfl) ?_
              refine lv_iconst (v := 3) hx hb d_O_closeLocal_52 (by decide) ?_
              refine va_bast hx hb hK.1 hP hD hS 13 3 rfl rfl (o_inz hz6 c7) d_O_closeLocal_53 (fun H locs hP hD hS => ?_)
              have hP : va_P D classes (wS1 cI cJ cZ cB p0 p1 p2 p3 p4 p5 p6 p7 p8 p9 p10 p11 p12 p13 p14 p15 x0_3 x0_4 x0_5 x0_6 x0_7 x0_8 x0_9 x0_10 x0_12 x0_13 x0_14 x1_1 x1_2 x1_3 x1_4 x1_5 x1_6 x1_7 x1_8 y2 x3_5 x3_6 y4 y5 y6 y7 y8 x9_6 y10 y11 y12 (upd y13 (l3).toNatClampNeg (vp_nar .byte (3 : Int32))) y14 y15) H := hP
              have hD : va_D A (wS1 cI cJ cZ cB p0 p1 p2 p3 p4 p5 p6 p7 p8 p9 p10 p11 p12 p13 p14 p15 x0_3 x0_4 x0_5 x0_6 x0_7 x0_8 x0_9 x0_10 x0_12 x0_13 x0_14 x1_1 x1_2 x1_3 x1_4 x1_5 x1_6 x1_7 x1_8 y2 x3_5 x3_6 y4 y5 y6 y7 y8 x9_6 y10 y11 y12 (upd y13 (l3).toNatClampNeg (vp_nar .byte (3 : Int32))) y14 y15) := hD
              obtain ⟨v10, hv10⟩ : ∃ y : Nat → Int32, y = (upd y13 (l3).toNatClampNeg (vp_nar .byte (3 : Int32))) := ⟨_, rfl⟩
              rw [← hv10] at hP hD
              clear hv10
              refine lv_aload_n hx hb d_O_closeLocal_54 rfl (lv_at hl 3 rfl) ?_
              refine va_get (D := D) (ci := 6) (v := .ref p14) (C := "SignMachine$Output") (T := F_O) (N := 7) hx hb hk fi_O hown hK.1 hP 9 rfl rfl 4 (by decide) (hk _ k_611) (fun _ h9 => h9) rfl d_O_closeLocal_55 ?_
              refine lv_iload_n hx hb d_O_closeLocal_58 rfl (lv_at hl 2 rfl) ?_
              refine lv_iload_n hx hb d_O_closeLocal_59 rfl (lv_at hl 5 rfl) ?_
              refine va_iast hx hb hK.1 hP hD hS 14 0 rfl rfl (o_inz hz6 c7) d_O_closeLocal_60 (fun H locs hP hD hS => ?_)
              have hP : va_P D classes (wS1 cI cJ cZ cB p0 p1 p2 p3 p4 p5 p6 p7 p8 p9 p10 p11 p12 p13 p14 p15 x0_3 x0_4 x0_5 x0_6 x0_7 x0_8 x0_9 x0_10 x0_12 x0_13 x0_14 x1_1 x1_2 x1_3 x1_4 x1_5 x1_6 x1_7 x1_8 y2 x3_5 x3_6 y4 y5 y6 y7 y8 x9_6 y10 y11 y12 v10 (upd y14 (l3).toNatClampNeg a2) y15) H := hP
              have hD : va_D A (wS1 cI cJ cZ cB p0 p1 p2 p3 p4 p5 p6 p7 p8 p9 p10 p11 p12 p13 p14 p15 x0_3 x0_4 x0_5 x0_6 x0_7 x0_8 x0_9 x0_10 x0_12 x0_13 x0_14 x1_1 x1_2 x1_3 x1_4 x1_5 x1_6 x1_7 x1_8 y2 x3_5 x3_6 y4 y5 y6 y7 y8 x9_6 y10 y11 y12 v10 (upd y14 (l3).toNatClampNeg a2) y15) := hD
              obtain ⟨v11, hv11⟩ : ∃ y : Nat → Int32, y = (upd y14 (l3).toNatClampNeg a2) := ⟨_, rfl⟩
              rw [← hv11] at hP hD
              clear hv11
              refine lv_iload hx hb d_O_closeLocal_61 (lv_at hl 0 rfl) ?_
              refine lv_istore_n (lv' := [(3, .int v9), (5, .int v9), (4, .int l4), (0, .ref p9), (1, .int a1), (2, .int a2)]) hx hb d_O_closeLocal_63 rfl hl (by decide) rfl (fun ls hl => ?_)
              obtain ⟨v12, hv12⟩ : ∃ y : Int32, y = (l4 + (1 : Int32)) := ⟨_, rfl⟩
              refine lv_iinc (v := v12) (lv' := [(4, .int v12), (3, .int v9), (5, .int v9), (0, .ref p9), (1, .int a1), (2, .int a2)]) hx hb d_O_closeLocal_64 hl (k := 2) rfl (by rw [hv12]; rfl) (by decide) rfl (fun ls hl => ?_)
              refine lv_goto (tgt := 24) hx hb d_O_closeLocal_67 (by decide) ?_
              exact ih v12 v9 v10 v11 y15 H _ ls (lpu c4 hv12 hn24_1) (lpn hc24_1 c4 hv12) hP hD hS (lv_sub hl [0, 1, 3, 4, 5] rfl)
      exact LP24_1 _ (0 : Int32) v3 y13 y14 y15 s.heap _ ls (Nat.lt_succ_self _) (by decide) hP hD hS hl
    · exact W.vret hx hb hr (fun t ht hW => ⟨⟨(), rfl, trivial, ⟨y13, y14, y15, by show va_P D classes _ t.heap; rw [ht]; exact hP, hD⟩⟩, hS.F ht⟩) hS.2.2 d_O_closeLocal_13
theorem v_O_closeLocal_s1 {R : Room} {s : State} {args : Array Value} {own : String} {index : Nat} (hk : ∀ w ∈ tb, w.before args s = true) (hl : Cond.methodLink own index y_O_closeLocal ∈ tb) (hR : 1 + 1 ≤ R.frames ∧ 8 + (6 + 11) + 20 ≤ R.locals) : CallW R s args own "SignMachine$Output" index y_O_closeLocal b_O_closeLocal 6 none (.code y_O_closeLocal b_O_closeLocal 6 none :: tb) ({ frames := 1, cells := 0, slots := 0, locals := 20 }) 0 0 2 := mk_v 2 hk k_916 hl k_914 k_915 k_126 rfl rfl h_O_closeLocal hR
set_option maxHeartbeats 4000000 in
set_option maxRecDepth 100000 in
theorem c_A_tellLabel_s1 (l : Launch) (D : va_G) (cI cJ cZ cB : ClassId) (p0 p1 p2 p3 p4 p5 p6 p7 p8 p9 p10 p11 p12 p13 p14 p15 : Nat) (sz : Nat) (x0_3 : Int32) (x0_4 : Int32) (x0_5 : Int32) (x0_6 : Int32) (x0_7 : Int32) (x0_8 : Bool) (x0_9 : Int64) (x0_10 : Int32) (x0_12 : Int32) (x0_13 : Int32) (x0_14 : Int32) (x1_1 : Int32) (x1_2 : Int32) (x1_3 : Int32) (x1_4 : Int32) (x1_5 : Int32) (x1_6 : Int32) (x1_7 : Int64) (x1_8 : Int32) (y2 : Nat → Int32) (x3_5 : Int32) (x3_6 : Int32) (y4 : Nat → Int64) (y5 : Nat → Int32) (y6 : Nat → Int32) (y7 : Nat → Int32) (y8 : Nat → Int32) (x9_6 : Int32) (y10 : Nat → Int32) (y11 : Nat → Int32) (y12 : Nat → Int32) (y13 : Nat → Int32) (y14 : Nat → Int32) (y15 : Nat → Int32) (a1 : Int32) : Met l y_A_tellLabel (.code y_A_tellLabel b_A_tellLabel 3 none :: tb) ({ frames := 3, cells := 0, slots := 0, locals := 67 }) (pM D cI cJ cZ cB (wS1 cI cJ cZ cB p0 p1 p2 p3 p4 p5 p6 p7 p8 p9 p10 p11 p12 p13 p14 p15 x0_3 x0_4 x0_5 x0_6 x0_7 x0_8 x0_9 x0_10 x0_12 x0_13 x0_14 x1_1 x1_2 x1_3 x1_4 x1_5 x1_6 x1_7 x1_8 y2 x3_5 x3_6 y4 y5 y6 y7 y8 x9_6 y10 y11 y12 y13 y14 y15) sz [.ref p0, .int a1]) (va_Qv (fun (_ : Unit) => True) (fun _ t => (∃ u_x0_3 : Int32, ∃ u_x0_4 : Int32, ∃ u_x0_10 : Int32, ∃ u_x3_5 : Int32, ∃ u_x3_6 : Int32, ∃ u_y4 : Nat → Int64, ∃ u_y5 : Nat → Int32, ∃ u_y6 : Nat → Int32, ∃ u_y13 : Nat → Int32, ∃ u_y14 : Nat → Int32, ∃ u_y15 : Nat → Int32, va_P D classes (wS1 cI cJ cZ cB p0 p1 p2 p3 p4 p5 p6 p7 p8 p9 p10 p11 p12 p13 p14 p15 u_x0_3 u_x0_4 x0_5 x0_6 x0_7 x0_8 x0_9 u_x0_10 x0_12 x0_13 x0_14 x1_1 x1_2 x1_3 x1_4 x1_5 x1_6 x1_7 x1_8 y2 u_x3_5 u_x3_6 u_y4 u_y5 u_y6 y7 y8 x9_6 y10 y11 y12 u_y13 u_y14 u_y15) t.heap ∧ va_D (va_A (wS1 cI cJ cZ cB p0 p1 p2 p3 p4 p5 p6 p7 p8 p9 p10 p11 p12 p13 p14 p15 x0_3 x0_4 x0_5 x0_6 x0_7 x0_8 x0_9 x0_10 x0_12 x0_13 x0_14 x1_1 x1_2 x1_3 x1_4 x1_5 x1_6 x1_7 x1_8 y2 x3_5 x3_6 y4 y5 y6 y7 y8 x9_6 y10 y11 y12 y13 y14 y15) sz) (wS1 cI cJ cZ cB p0 p1 p2 p3 p4 p5 p6 p7 p8 p9 p10 p11 p12 p13 p14 p15 u_x0_3 u_x0_4 x0_5 x0_6 x0_7 x0_8 x0_9 u_x0_10 x0_12 x0_13 x0_14 x1_1 x1_2 x1_3 x1_4 x1_5 x1_6 x1_7 x1_8 y2 u_x3_5 u_x3_6 u_y4 u_y5 u_y6 y7 y8 x9_6 y10 y11 y12 u_y13 u_y14 u_y15))) (va_A (wS1 cI cJ cZ cB p0 p1 p2 p3 p4 p5 p6 p7 p8 p9 p10 p11 p12 p13 p14 p15 x0_3 x0_4 x0_5 x0_6 x0_7 x0_8 x0_9 x0_10 x0_12 x0_13 x0_14 x1_1 x1_2 x1_3 x1_4 x1_5 x1_6 x1_7 x1_8 y2 x3_5 x3_6 y4 y5 y6 y7 y8 x9_6 y10 y11 y12 y13 y14 y15) sz)) 0 0 (va_A (wS1 cI cJ cZ cB p0 p1 p2 p3 p4 p5 p6 p7 p8 p9 p10 p11 p12 p13 p14 p15 x0_3 x0_4 x0_5 x0_6 x0_7 x0_8 x0_9 x0_10 x0_12 x0_13 x0_14 x1_1 x1_2 x1_3 x1_4 x1_5 x1_6 x1_7 x1_8 y2 x3_5 x3_6 y4 y5 y6 y7 y8 x9_6 y10 y11 y12 y13 y14 y15) sz) := by
  refine Met.ofW (cc := b_A_tellLabel) (maxL := 3) (ret := none) (by decide) rfl ?_
  intro p e s m args below meth c s₁ B hml hv
  obtain ⟨rfl, hsz, hK, hP, hD0⟩ := hv
  subst hsz
  have hD := hD0.self (sz := s.heap.size)
  generalize hAe : va_A (wS1 cI cJ cZ cB p0 p1 p2 p3 p4 p5 p6 p7 p8 p9 p10 p11 p12 p13 p14 p15 x0_3 x0_4 x0_5 x0_6 x0_7 x0_8 x0_9 x0_10 x0_12 x0_13 x0_14 x1_1 x1_2 x1_3 x1_4 x1_5 x1_6 x1_7 x1_8 y2 x3_5 x3_6 y4 y5 y6 y7 y8 x9_6 y10 y11 y12 y13 y14 y15) s.heap.size = A at hD ⊢
  have hA : ∀ q : Nat, s.heap.size ≤ q → A q := fun q h => by rw [← hAe]; exact Or.inr h
  clear hAe hD0
  have hS : va_S A s.heap s.heap [] := va_S.rf
  have hx := B.exec
  have hb := B.bytes
  have hr := B.returns
  have hts := atoms_spec (ws := .code y_A_tellLabel b_A_tellLabel 3 none :: tb) B.pre
  have hk : ∀ w ∈ tb, w.before [.ref p0, .int a1].toArray s = true := fun w h => hts w (List.mem_cons_of_mem _ h)
  have hown : s.vm.findClass "SignMachine$Assembler" = some m.cls := findClass_of_methodNamed B.named
  have hlocks := B.notSynchronized
  have hl := lv_entry ([.ref p0, .int a1]) (n := 3) (Nat.le_of_ble_eq_true rfl)
  rw [lg_entry_eq]
  generalize (lg_sl ([.ref p0, .int a1]) ++ List.replicate (3 - (lg_sl ([.ref p0, .int a1])).length) Slot.unset).toArray = ls at hl ⊢
  have hl : lv_has ls 3 [(0, .ref p0), (1, .int a1)] := hl
  refine lv_aload_n hx hb d_A_tellLabel_0 rfl (lv_at hl 0 rfl) ?_
  refine lv_iload_n hx hb d_A_tellLabel_1 rfl (lv_at hl 1 rfl) ?_
  refine va_put (D := D) (ci := 3) (v := .int a1) (ty := .int) (C := "SignMachine$Assembler") (T := F_A) (N := 15) hx hb hk fi_A ft_A ft_A_ok fn_A hown hK.1 hP hD hS 0 rfl rfl 10 (by decide) (hk _ k_647) (fun _ h9 => h9) rfl (by decide +kernel) rfl rfl (Nat.le_of_ble_eq_true rfl) d_A_tellLabel_2 (fun H locs hP hD hS => ?_)
  have hP : va_P D classes (wS1 cI cJ cZ cB p0 p1 p2 p3 p4 p5 p6 p7 p8 p9 p10 p11 p12 p13 p14 p15 x0_3 x0_4 x0_5 x0_6 x0_7 x0_8 x0_9 a1 x0_12 x0_13 x0_14 x1_1 x1_2 x1_3 x1_4 x1_5 x1_6 x1_7 x1_8 y2 x3_5 x3_6 y4 y5 y6 y7 y8 x9_6 y10 y11 y12 y13 y14 y15) H := hP
  have hD : va_D A (wS1 cI cJ cZ cB p0 p1 p2 p3 p4 p5 p6 p7 p8 p9 p10 p11 p12 p13 p14 p15 x0_3 x0_4 x0_5 x0_6 x0_7 x0_8 x0_9 a1 x0_12 x0_13 x0_14 x1_1 x1_2 x1_3 x1_4 x1_5 x1_6 x1_7 x1_8 y2 x3_5 x3_6 y4 y5 y6 y7 y8 x9_6 y10 y11 y12 y13 y14 y15) := hD
  refine lv_aload_n hx hb d_A_tellLabel_5 rfl (lv_at hl 0 rfl) ?_
  refine va_get (D := D) (ci := 3) (v := .long x0_9) (C := "SignMachine$Assembler") (T := F_A) (N := 15) hx hb hk fi_A hown hK.1 hP 0 rfl rfl 9 (by decide) (hk _ k_646) (fun _ h9 => h9) rfl d_A_tellLabel_6 ?_
  refine lv_bipush (v := 8) hx hb d_A_tellLabel_9 (by decide) ?_
  refine cs_i (W.runS (As := [.long x0_9, .int (8 : Int32)]) (rest := []) ⟨hx, hb, hml, hown, hk⟩ (c_N_localDigit l x0_9 (8 : Int32)) (s_N_localDigit hk k_771 ⟨Nat.le_of_ble_eq_true rfl, Nat.le_of_ble_eq_true rfl⟩) ⟨fun a U g mk q => q, fun U hU hW => ⟨rfl, trivial⟩⟩ rfl rfl hl.1 rfl (lv_room (Nat.le_of_ble_eq_true rfl)) d_A_tellLabel_11 ⟨Nat.le_of_ble_eq_true rfl, Nat.le_of_ble_eq_true rfl⟩) ?_
  refine lv_topi (fun v1 hv1 => ?_)
  refine lv_istore_n (lv' := [(2, .int v1), (0, .ref p0), (1, .int a1)]) hx hb d_A_tellLabel_14 rfl hl (by decide) rfl (fun ls hl => ?_)
  refine lv_iload_n hx hb d_A_tellLabel_15 rfl (lv_at hl 0 rfl) ?_
  refine lv_if_lt (tgt := 31) hx hb d_A_tellLabel_16 (by decide) (fun c2 => ?_) (fun c2 => ?_)
  · refine lv_aload_n hx hb d_A_tellLabel_31 rfl (lv_at hl 1 rfl) ?_
    refine va_get (D := D) (ci := 3) (v := .long x0_9) (C := "SignMachine$Assembler") (T := F_A) (N := 15) hx hb hk fi_A hown hK.1 hP 0 rfl rfl 9 (by decide) (hk _ k_646) (fun _ h9 => h9) rfl d_A_tellLabel_32 ?_
    refine lv_lconst (v := 0) hx hb d_A_tellLabel_35 (by decide) ?_
    refine W.lcmp hx hb d_A_tellLabel_36 ?_
    refine lv_topi (fun v3 hv3 => ?_)
    refine lv_if_eq (tgt := 45) hx hb d_A_tellLabel_37 (by decide) (fun c4 => ?_) (fun c4 => ?_)
    · exact W.vret hx hb hr (fun t ht hW => ⟨⟨(), rfl, trivial, ⟨x0_3, x0_4, a1, x3_5, x3_6, y4, y5, y6, y13, y14, y15, by show va_P D classes _ t.heap; rw [ht]; exact hP, hD⟩⟩, hS.F ht⟩) hS.2.2 d_A_tellLabel_45
    · refine lv_aload_n hx hb d_A_tellLabel_40 rfl (lv_at hl 1 rfl) ?_
      refine lv_iload_n hx hb d_A_tellLabel_41 rfl (lv_at hl 2 rfl) ?_
      refine kn_v (va_runV (C := "SignMachine$Assembler") (As := [.int a1]) (rest := []) ⟨hx, hb, hml, hown, hk⟩ (c_A_tellSymbol_s1 l D cI cJ cZ cB p0 p1 p2 p3 p4 p5 p6 p7 p8 p9 p10 p11 p12 p13 p14 p15 H.size x0_3 x0_4 x0_5 x0_6 x0_7 x0_8 x0_9 a1 x0_12 x0_13 x0_14 x1_1 x1_2 x1_3 x1_4 x1_5 x1_6 x1_7 x1_8 y2 x3_5 x3_6 y4 y5 y6 y7 y8 x9_6 y10 y11 y12 y13 y14 y15 a1) (v_A_tellSymbol_s1 hk k_920 ⟨Nat.le_of_ble_eq_true rfl, Nat.le_of_ble_eq_true rfl⟩) (pM_v hK hP hD (ci := 3) (q0 := 0) rfl rfl rfl) rfl rfl hl.1 rfl (lv_room (Nat.le_of_ble_eq_true rfl)) d_A_tellLabel_42 ⟨by decide, by decide⟩) hS hA hD (fun u t H locs ht hB hFr hS => ?_)
      obtain ⟨x0_3z5, x0_4z5, x3_5z5, x3_6z5, y4z5, y5z5, y6z5, hP, hD⟩ := hB
      rw [ht] at hP
      have hD := dwk hD hFr
      clear ht hFr
      have hP : va_P D classes (wS1 cI cJ cZ cB p0 p1 p2 p3 p4 p5 p6 p7 p8 p9 p10 p11 p12 p13 p14 p15 x0_3z5 x0_4z5 x0_5 x0_6 x0_7 x0_8 x0_9 a1 x0_12 x0_13 x0_14 x1_1 x1_2 x1_3 x1_4 x1_5 x1_6 x1_7 x1_8 y2 x3_5z5 x3_6z5 y4z5 y5z5 y6z5 y7 y8 x9_6 y10 y11 y12 y13 y14 y15) H := hP
      have hD : va_D A (wS1 cI cJ cZ cB p0 p1 p2 p3 p4 p5 p6 p7 p8 p9 p10 p11 p12 p13 p14 p15 x0_3z5 x0_4z5 x0_5 x0_6 x0_7 x0_8 x0_9 a1 x0_12 x0_13 x0_14 x1_1 x1_2 x1_3 x1_4 x1_5 x1_6 x1_7 x1_8 y2 x3_5z5 x3_6z5 y4z5 y5z5 y6z5 y7 y8 x9_6 y10 y11 y12 y13 y14 y15) := hD
      exact W.vret hx hb hr (fun t ht hW => ⟨⟨(), rfl, trivial, ⟨x0_3z5, x0_4z5, a1, x3_5z5, x3_6z5, y4z5, y5z5, y6z5, y13, y14, y15, by show va_P D classes _ t.heap; rw [ht]; exact hP, hD⟩⟩, hS.F ht⟩) hS.2.2 d_A_tellLabel_45
  · refine lv_aload_n hx hb d_A_tellLabel_19 rfl (lv_at hl 1 rfl) ?_
    refine va_get (D := D) (ci := 3) (v := .ref p9) (C := "SignMachine$Assembler") (T := F_A) (N := 15) hx hb hk fi_A hown hK.1 hP 0 rfl rfl 2 (by decide) (hk _ k_634) (fun _ h9 => h9) rfl d_A_tellLabel_20 ?_
    refine lv_iload_n hx hb d_A_tellLabel_23 rfl (lv_at hl 0 rfl) ?_
    refine lv_iload_n hx hb d_A_tellLabel_24 rfl (lv_at hl 2 rfl) ?_
    refine kn_v (va_runV (C := "SignMachine$Output") (As := [.int v1, .int a1]) (rest := []) ⟨hx, hb, hml, hown, hk⟩ (c_O_closeLocal_s1 l D cI cJ cZ cB p0 p1 p2 p3 p4 p5 p6 p7 p8 p9 p10 p11 p12 p13 p14 p15 H.size x0_3 x0_4 x0_5 x0_6 x0_7 x0_8 x0_9 a1 x0_12 x0_13 x0_14 x1_1 x1_2 x1_3 x1_4 x1_5 x1_6 x1_7 x1_8 y2 x3_5 x3_6 y4 y5 y6 y7 y8 x9_6 y10 y11 y12 y13 y14 y15 v1 a1) (v_O_closeLocal_s1 hk k_913 ⟨Nat.le_of_ble_eq_true rfl, Nat.le_of_ble_eq_true rfl⟩) (pM_v hK hP hD (ci := 6) (q0 := 9) rfl rfl rfl) rfl rfl hl.1 rfl (lv_room (Nat.le_of_ble_eq_true rfl)) d_A_tellLabel_25 ⟨by decide, by decide⟩) hS hA hD (fun u t H locs ht hB hFr hS => ?_)
    obtain ⟨y13z6, y14z6, y15z6, hP, hD⟩ := hB
    rw [ht] at hP
    have hD := dwk hD hFr
    clear ht hFr
    have hP : va_P D classes (wS1 cI cJ cZ cB p0 p1 p2 p3 p4 p5 p6 p7 p8 p9 p10 p11 p12 p13 p14 p15 x0_3 x0_4 x0_5 x0_6 x0_7 x0_8 x0_9 a1 x0_12 x0_13 x0_14 x1_1 x1_2 x1_3 x1_4 x1_5 x1_6 x1_7 x1_8 y2 x3_5 x3_6 y4 y5 y6 y7 y8 x9_6 y10 y11 y12 y13z6 y14z6 y15z6) H := hP
    have hD : va_D A (wS1 cI cJ cZ cB p0 p1 p2 p3 p4 p5 p6 p7 p8 p9 p10 p11 p12 p13 p14 p15 x0_3 x0_4 x0_5 x0_6 x0_7 x0_8 x0_9 a1 x0_12 x0_13 x0_14 x1_1 x1_2 x1_3 x1_4 x1_5 x1_6 x1_7 x1_8 y2 x3_5 x3_6 y4 y5 y6 y7 y8 x9_6 y10 y11 y12 y13z6 y14z6 y15z6) := hD
    refine lv_goto (tgt := 45) hx hb d_A_tellLabel_28 (by decide) ?_
    exact W.vret hx hb hr (fun t ht hW => ⟨⟨(), rfl, trivial, ⟨x0_3, x0_4, a1, x3_5, x3_6, y4, y5, y6, y13z6, y14z6, y15z6, by show va_P D classes _ t.heap; rw [ht]; exact hP, hD⟩⟩, hS.F ht⟩) hS.2.2 d_A_tellLabel_45
theorem v_A_tellLabel_s1 {R : Room} {s : State} {args : Array Value} {own : String} {index : Nat} (hk : ∀ w ∈ tb, w.before args s = true) (hl : Cond.methodLink own index y_A_tellLabel ∈ tb) (hR : 3 + 1 ≤ R.frames ∧ 8 + (3 + 11) + 67 ≤ R.locals) : CallW R s args own "SignMachine$Assembler" index y_A_tellLabel b_A_tellLabel 3 none (.code y_A_tellLabel b_A_tellLabel 3 none :: tb) ({ frames := 3, cells := 0, slots := 0, locals := 67 }) 0 0 1 := mk_v 1 hk k_912 hl k_911 k_39 k_123 rfl rfl h_A_tellLabel hR
set_option maxHeartbeats 4000000 in
set_option maxRecDepth 100000 in
theorem c_A_putWord_s1 (l : Launch) (D : va_G) (cI cJ cZ cB : ClassId) (p0 p1 p2 p3 p4 p5 p6 p7 p8 p9 p10 p11 p12 p13 p14 p15 : Nat) (sz : Nat) (x0_3 : Int32) (x0_4 : Int32) (x0_5 : Int32) (x0_6 : Int32) (x0_7 : Int32) (x0_8 : Bool) (x0_9 : Int64) (x0_10 : Int32) (x0_12 : Int32) (x0_13 : Int32) (x0_14 : Int32) (x1_1 : Int32) (x1_2 : Int32) (x1_3 : Int32) (x1_4 : Int32) (x1_5 : Int32) (x1_6 : Int32) (x1_7 : Int64) (x1_8 : Int32) (y2 : Nat → Int32) (x3_5 : Int32) (x3_6 : Int32) (y4 : Nat → Int64) (y5 : Nat → Int32) (y6 : Nat → Int32) (y7 : Nat → Int32) (y8 : Nat → Int32) (x9_6 : Int32) (y10 : Nat → Int32) (y11 : Nat → Int32) (y12 : Nat → Int32) (y13 : Nat → Int32) (y14 : Nat → Int32) (y15 : Nat → Int32) (a1 : Int32) : Met l y_A_putWord (.code y_A_putWord b_A_putWord 2 none :: tb) ({ frames := 2, cells := 0, slots := 0, locals := 46 }) (pM D cI cJ cZ cB (wS1 cI cJ cZ cB p0 p1 p2 p3 p4 p5 p6 p7 p8 p9 p10 p11 p12 p13 p14 p15 x0_3 x0_4 x0_5 x0_6 x0_7 x0_8 x0_9 x0_10 x0_12 x0_13 x0_14 x1_1 x1_2 x1_3 x1_4 x1_5 x1_6 x1_7 x1_8 y2 x3_5 x3_6 y4 y5 y6 y7 y8 x9_6 y10 y11 y12 y13 y14 y15) sz [.ref p0, .int a1]) (va_Qv (fun (_ : Unit) => True) (fun _ t => (∃ u_x0_3 : Int32, ∃ u_x0_4 : Int32, ∃ u_x0_7 : Int32, ∃ u_x0_13 : Int32, ∃ u_x9_6 : Int32, ∃ u_y10 : Nat → Int32, ∃ u_y11 : Nat → Int32, ∃ u_y12 : Nat → Int32, ∃ u_y13 : Nat → Int32, ∃ u_y14 : Nat → Int32, ∃ u_y15 : Nat → Int32, va_P D classes (wS1 cI cJ cZ cB p0 p1 p2 p3 p4 p5 p6 p7 p8 p9 p10 p11 p12 p13 p14 p15 u_x0_3 u_x0_4 x0_5 x0_6 u_x0_7 x0_8 x0_9 x0_10 x0_12 u_x0_13 x0_14 x1_1 x1_2 x1_3 x1_4 x1_5 x1_6 x1_7 x1_8 y2 x3_5 x3_6 y4 y5 y6 y7 y8 u_x9_6 u_y10 u_y11 u_y12 u_y13 u_y14 u_y15) t.heap ∧ va_D (va_A (wS1 cI cJ cZ cB p0 p1 p2 p3 p4 p5 p6 p7 p8 p9 p10 p11 p12 p13 p14 p15 x0_3 x0_4 x0_5 x0_6 x0_7 x0_8 x0_9 x0_10 x0_12 x0_13 x0_14 x1_1 x1_2 x1_3 x1_4 x1_5 x1_6 x1_7 x1_8 y2 x3_5 x3_6 y4 y5 y6 y7 y8 x9_6 y10 y11 y12 y13 y14 y15) sz) (wS1 cI cJ cZ cB p0 p1 p2 p3 p4 p5 p6 p7 p8 p9 p10 p11 p12 p13 p14 p15 u_x0_3 u_x0_4 x0_5 x0_6 u_x0_7 x0_8 x0_9 x0_10 x0_12 u_x0_13 x0_14 x1_1 x1_2 x1_3 x1_4 x1_5 x1_6 x1_7 x1_8 y2 x3_5 x3_6 y4 y5 y6 y7 y8 u_x9_6 u_y10 u_y11 u_y12 u_y13 u_y14 u_y15))) (va_A (wS1 cI cJ cZ cB p0 p1 p2 p3 p4 p5 p6 p7 p8 p9 p10 p11 p12 p13 p14 p15 x0_3 x0_4 x0_5 x0_6 x0_7 x0_8 x0_9 x0_10 x0_12 x0_13 x0_14 x1_1 x1_2 x1_3 x1_4 x1_5 x1_6 x1_7 x1_8 y2 x3_5 x3_6 y4 y5 y6 y7 y8 x9_6 y10 y11 y12 y13 y14 y15) sz)) 0 0 (va_A (wS1 cI cJ cZ cB p0 p1 p2 p3 p4 p5 p6 p7 p8 p9 p10 p11 p12 p13 p14 p15 x0_3 x0_4 x0_5 x0_6 x0_7 x0_8 x0_9 x0_10 x0_12 x0_13 x0_14 x1_1 x1_2 x1_3 x1_4 x1_5 x1_6 x1_7 x1_8 y2 x3_5 x3_6 y4 y5 y6 y7 y8 x9_6 y10 y11 y12 y13 y14 y15) sz) := by
  refine Met.ofW (cc := b_A_putWord) (maxL := 2) (ret := none) (by decide) rfl ?_
  intro p e s m args below meth c s₁ B hml hv
  obtain ⟨rfl, hsz, hK, hP, hD0⟩ := hv
  subst hsz
  have hD := hD0.self (sz := s.heap.size)
  generalize hAe : va_A (wS1 cI cJ cZ cB p0 p1 p2 p3 p4 p5 p6 p7 p8 p9 p10 p11 p12 p13 p14 p15 x0_3 x0_4 x0_5 x0_6 x0_7 x0_8 x0_9 x0_10 x0_12 x0_13 x0_14 x1_1 x1_2 x1_3 x1_4 x1_5 x1_6 x1_7 x1_8 y2 x3_5 x3_6 y4 y5 y6 y7 y8 x9_6 y10 y11 y12 y13 y14 y15) s.heap.size = A at hD ⊢
  have hA : ∀ q : Nat, s.heap.size ≤ q → A q := fun q h => by rw [← hAe]; exact Or.inr h
  clear hAe hD0
  have hS : va_S A s.heap s.heap [] := va_S.rf
  have hx := B.exec
  have hb := B.bytes
  have hr := B.returns
  have hts := atoms_spec (ws := .code y_A_putWord b_A_putWord 2 none :: tb) B.pre
  have hk : ∀ w ∈ tb, w.before [.ref p0, .int a1].toArray s = true := fun w h => hts w (List.mem_cons_of_mem _ h)
  have hown : s.vm.findClass "SignMachine$Assembler" = some m.cls := findClass_of_methodNamed B.named
  have hlocks := B.notSynchronized
  have hl := lv_entry ([.ref p0, .int a1]) (n := 2) (Nat.le_of_ble_eq_true rfl)
  rw [lg_entry_eq]
  generalize (lg_sl ([.ref p0, .int a1]) ++ List.replicate (2 - (lg_sl ([.ref p0, .int a1])).length) Slot.unset).toArray = ls at hl ⊢
  have hl : lv_has ls 2 [(0, .ref p0), (1, .int a1)] := hl
  refine lv_aload_n hx hb d_A_putWord_0 rfl (lv_at hl 0 rfl) ?_
  refine lv_iconst (v := 0) hx hb d_A_putWord_1 (by decide) ?_
  refine va_put (D := D) (ci := 3) (v := .int (0 : Int32)) (ty := .int) (C := "SignMachine$Assembler") (T := F_A) (N := 15) hx hb hk fi_A ft_A ft_A_ok fn_A hown hK.1 hP hD hS 0 rfl rfl 13 (by decide) (hk _ k_650) (fun _ h9 => h9) rfl (by decide +kernel) rfl rfl (Nat.le_of_ble_eq_true rfl) d_A_putWord_2 (fun H locs hP hD hS => ?_)
  have hP : va_P D classes (wS1 cI cJ cZ cB p0 p1 p2 p3 p4 p5 p6 p7 p8 p9 p10 p11 p12 p13 p14 p15 x0_3 x0_4 x0_5 x0_6 x0_7 x0_8 x0_9 x0_10 x0_12 (0 : Int32) x0_14 x1_1 x1_2 x1_3 x1_4 x1_5 x1_6 x1_7 x1_8 y2 x3_5 x3_6 y4 y5 y6 y7 y8 x9_6 y10 y11 y12 y13 y14 y15) H := hP
  have hD : va_D A (wS1 cI cJ cZ cB p0 p1 p2 p3 p4 p5 p6 p7 p8 p9 p10 p11 p12 p13 p14 p15 x0_3 x0_4 x0_5 x0_6 x0_7 x0_8 x0_9 x0_10 x0_12 (0 : Int32) x0_14 x1_1 x1_2 x1_3 x1_4 x1_5 x1_6 x1_7 x1_8 y2 x3_5 x3_6 y4 y5 y6 y7 y8 x9_6 y10 y11 y12 y13 y14 y15) := hD
  refine lv_aload_n hx hb d_A_putWord_5 rfl (lv_at hl 0 rfl) ?_
  refine lv_iload_n hx hb d_A_putWord_6 rfl (lv_at hl 1 rfl) ?_
  refine kn_v (va_runV (C := "SignMachine$Assembler") (As := [.int a1]) (rest := []) ⟨hx, hb, hml, hown, hk⟩ (c_A_putInstruction_s1 l D cI cJ cZ cB p0 p1 p2 p3 p4 p5 p6 p7 p8 p9 p10 p11 p12 p13 p14 p15 H.size x0_3 x0_4 x0_5 x0_6 x0_7 x0_8 x0_9 x0_10 x0_12 (0 : Int32) x0_14 x1_1 x1_2 x1_3 x1_4 x1_5 x1_6 x1_7 x1_8 y2 x3_5 x3_6 y4 y5 y6 y7 y8 x9_6 y10 y11 y12 y13 y14 y15 a1) (v_A_putInstruction_s1 hk k_968 ⟨Nat.le_of_ble_eq_true rfl, Nat.le_of_ble_eq_true rfl⟩) (pM_v hK hP hD (ci := 3) (q0 := 0) rfl rfl rfl) rfl rfl hl.1 rfl (lv_room (Nat.le_of_ble_eq_true rfl)) d_A_putWord_7 ⟨by decide, by decide⟩) hS hA hD (fun u t H locs ht hB hFr hS => ?_)
  obtain ⟨x0_3z1, x0_4z1, x0_7z1, x9_6z1, y10z1, y11z1, y12z1, y13z1, y14z1, y15z1, hP, hD⟩ := hB
  rw [ht] at hP
  have hD := dwk hD hFr
  clear ht hFr
  have hP : va_P D classes (wS1 cI cJ cZ cB p0 p1 p2 p3 p4 p5 p6 p7 p8 p9 p10 p11 p12 p13 p14 p15 x0_3z1 x0_4z1 x0_5 x0_6 x0_7z1 x0_8 x0_9 x0_10 x0_12 (0 : Int32) x0_14 x1_1 x1_2 x1_3 x1_4 x1_5 x1_6 x1_7 x1_8 y2 x3_5 x3_6 y4 y5 y6 y7 y8 x9_6z1 y10z1 y11z1 y12z1 y13z1 y14z1 y15z1) H := hP
  have hD : va_D A (wS1 cI cJ cZ cB p0 p1 p2 p3 p4 p5 p6 p7 p8 p9 p10 p11 p12 p13 p14 p15 x0_3z1 x0_4z1 x0_5 x0_6 x0_7z1 x0_8 x0_9 x0_10 x0_12 (0 : Int32) x0_14 x1_1 x1_2 x1_3 x1_4 x1_5 x1_6 x1_7 x1_8 y2 x3_5 x3_6 y4 y5 y6 y7 y8 x9_6z1 y10z1 y11z1 y12z1 y13z1 y14z1 y15z1) := hD
  exact W.vret hx hb hr (fun t ht hW => ⟨⟨(), rfl, trivial, ⟨x0_3z1, x0_4z1, x0_7z1, (0 : Int32), x9_6z1, y10z1, y11z1, y12z1, y13z1, y14z1, y15z1, by show va_P D classes _ t.heap; rw [ht]; exact hP, hD⟩⟩, hS.F ht⟩) hS.2.2 d_A_putWord_10
theorem v_A_putWord_s1 {R : Room} {s : State} {args : Array Value} {own : String} {index : Nat} (hk : ∀ w ∈ tb, w.before args s = true) (hl : Cond.methodLink own index y_A_putWord ∈ tb) (hR : 2 + 1 ≤ R.frames ∧ 8 + (2 + 11) + 46 ≤ R.locals) : CallW R s args own "SignMachine$Assembler" index y_A_putWord b_A_putWord 2 none (.code y_A_putWord b_A_putWord 2 none :: tb) ({ frames := 2, cells := 0, slots := 0, locals := 46 }) 0 0 1 := mk_v 1 hk k_967 hl k_966 k_43 k_123 rfl rfl h_A_putWord hR
set_option maxHeartbeats 4000000 in
set_option maxRecDepth 100000 in
theorem c_A_putPending_s1 (l : Launch) (D : va_G) (cI cJ cZ cB : ClassId) (p0 p1 p2 p3 p4 p5 p6 p7 p8 p9 p10 p11 p12 p13 p14 p15 : Nat) (sz : Nat) (x0_3 : Int32) (x0_4 : Int32) (x0_5 : Int32) (x0_6 : Int32) (x0_7 : Int32) (x0_8 : Bool) (x0_9 : Int64) (x0_10 : Int32) (x0_12 : Int32) (x0_13 : Int32) (x0_14 : Int32) (x1_1 : Int32) (x1_2 : Int32) (x1_3 : Int32) (x1_4 : Int32) (x1_5 : Int32) (x1_6 : Int32) (x1_7 : Int64) (x1_8 : Int32) (y2 : Nat → Int32) (x3_5 : Int32) (x3_6 : Int32) (y4 : Nat → Int64) (y5 : Nat → Int32) (y6 : Nat → Int32) (y7 : Nat → Int32) (y8 : Nat → Int32) (x9_6 : Int32) (y10 : Nat → Int32) (y11 : Nat → Int32) (y12 : Nat → Int32) (y13 : Nat → Int32) (y14 : Nat → Int32) (y15 : Nat → Int32)  : Met l y_A_putPending (.code y_A_putPending b_A_putPending 3 none :: tb) ({ frames := 3, cells := 0, slots := 0, locals := 67 }) (pM D cI cJ cZ cB (wS1 cI cJ cZ cB p0 p1 p2 p3 p4 p5 p6 p7 p8 p9 p10 p11 p12 p13 p14 p15 x0_3 x0_4 x0_5 x0_6 x0_7 x0_8 x0_9 x0_10 x0_12 x0_13 x0_14 x1_1 x1_2 x1_3 x1_4 x1_5 x1_6 x1_7 x1_8 y2 x3_5 x3_6 y4 y5 y6 y7 y8 x9_6 y10 y11 y12 y13 y14 y15) sz [.ref p0]) (va_Qv (fun (_ : Unit) => True) (fun _ t => (∃ u_x0_3 : Int32, ∃ u_x0_4 : Int32, ∃ u_x0_7 : Int32, ∃ u_x0_13 : Int32, ∃ u_y5 : Nat → Int32, ∃ u_y6 : Nat → Int32, ∃ u_x9_6 : Int32, ∃ u_y10 : Nat → Int32, ∃ u_y11 : Nat → Int32, ∃ u_y12 : Nat → Int32, ∃ u_y13 : Nat → Int32, ∃ u_y14 : Nat → Int32, ∃ u_y15 : Nat → Int32, va_P D classes (wS1 cI cJ cZ cB p0 p1 p2 p3 p4 p5 p6 p7 p8 p9 p10 p11 p12 p13 p14 p15 u_x0_3 u_x0_4 x0_5 x0_6 u_x0_7 x0_8 x0_9 x0_10 x0_12 u_x0_13 x0_14 x1_1 x1_2 x1_3 x1_4 x1_5 x1_6 x1_7 x1_8 y2 x3_5 x3_6 y4 u_y5 u_y6 y7 y8 u_x9_6 u_y10 u_y11 u_y12 u_y13 u_y14 u_y15) t.heap ∧ va_D (va_A (wS1 cI cJ cZ cB p0 p1 p2 p3 p4 p5 p6 p7 p8 p9 p10 p11 p12 p13 p14 p15 x0_3 x0_4 x0_5 x0_6 x0_7 x0_8 x0_9 x0_10 x0_12 x0_13 x0_14 x1_1 x1_2 x1_3 x1_4 x1_5 x1_6 x1_7 x1_8 y2 x3_5 x3_6 y4 y5 y6 y7 y8 x9_6 y10 y11 y12 y13 y14 y15) sz) (wS1 cI cJ cZ cB p0 p1 p2 p3 p4 p5 p6 p7 p8 p9 p10 p11 p12 p13 p14 p15 u_x0_3 u_x0_4 x0_5 x0_6 u_x0_7 x0_8 x0_9 x0_10 x0_12 u_x0_13 x0_14 x1_1 x1_2 x1_3 x1_4 x1_5 x1_6 x1_7 x1_8 y2 x3_5 x3_6 y4 u_y5 u_y6 y7 y8 u_x9_6 u_y10 u_y11 u_y12 u_y13 u_y14 u_y15))) (va_A (wS1 cI cJ cZ cB p0 p1 p2 p3 p4 p5 p6 p7 p8 p9 p10 p11 p12 p13 p14 p15 x0_3 x0_4 x0_5 x0_6 x0_7 x0_8 x0_9 x0_10 x0_12 x0_13 x0_14 x1_1 x1_2 x1_3 x1_4 x1_5 x1_6 x1_7 x1_8 y2 x3_5 x3_6 y4 y5 y6 y7 y8 x9_6 y10 y11 y12 y13 y14 y15) sz)) 0 0 (va_A (wS1 cI cJ cZ cB p0 p1 p2 p3 p4 p5 p6 p7 p8 p9 p10 p11 p12 p13 p14 p15 x0_3 x0_4 x0_5 x0_6 x0_7 x0_8 x0_9 x0_10 x0_12 x0_13 x0_14 x1_1 x1_2 x1_3 x1_4 x1_5 x1_6 x1_7 x1_8 y2 x3_5 x3_6 y4 y5 y6 y7 y8 x9_6 y10 y11 y12 y13 y14 y15) sz) := by
  refine Met.ofW (cc := b_A_putPending) (maxL := 3) (ret := none) (by decide) rfl ?_
  intro p e s m args below meth c s₁ B hml hv
  obtain ⟨rfl, hsz, hK, hP, hD0⟩ := hv
  subst hsz
  have hD := hD0.self (sz := s.heap.size)
  generalize hAe : va_A (wS1 cI cJ cZ cB p0 p1 p2 p3 p4 p5 p6 p7 p8 p9 p10 p11 p12 p13 p14 p15 x0_3 x0_4 x0_5 x0_6 x0_7 x0_8 x0_9 x0_10 x0_12 x0_13 x0_14 x1_1 x1_2 x1_3 x1_4 x1_5 x1_6 x1_7 x1_8 y2 x3_5 x3_6 y4 y5 y6 y7 y8 x9_6 y10 y11 y12 y13 y14 y15) s.heap.size = A at hD ⊢
  have hA : ∀ q : Nat, s.heap.size ≤ q → A q := fun q h => by rw [← hAe]; exact Or.inr h
  clear hAe hD0
  have hS : va_S A s.heap s.heap [] := va_S.rf
  have hx := B.exec
  have hb := B.bytes
  have hr := B.returns
  have hts := atoms_spec (ws := .code y_A_putPending b_A_putPending 3 none :: tb) B.pre
  have hk : ∀ w ∈ tb, w.before [.ref p0].toArray s = true := fun w h => hts w (List.mem_cons_of_mem _ h)
  have hown : s.vm.findClass "SignMachine$Assembler" = some m.cls := findClass_of_methodNamed B.named
  have hlocks := B.notSynchronized
  have hl := lv_entry ([.ref p0]) (n := 3) (Nat.le_of_ble_eq_true rfl)
  rw [lg_entry_eq]
  generalize (lg_sl ([.ref p0]) ++ List.replicate (3 - (lg_sl ([.ref p0])).length) Slot.unset).toArray = ls at hl ⊢
  have hl : lv_has ls 3 [(0, .ref p0)] := hl
  refine lv_iconst (v := 0) hx hb d_A_putPending_0 (by decide) ?_
  refine lv_istore_n (lv' := [(1, .int (0 : Int32)), (0, .ref p0)]) hx hb d_A_putPending_1 rfl hl (by decide) rfl (fun ls hl => ?_)
  have LP2_1 : ∀ (n : Nat) (l1 : Int32) (x0_3 : Int32) (x0_4 : Int32) (x0_7 : Int32) (x0_13 : Int32) (y5 : Nat → Int32) (y6 : Nat → Int32) (x9_6 : Int32) (y10 : Nat → Int32) (y11 : Nat → Int32) (y12 : Nat → Int32) (y13 : Nat → Int32) (y14 : Nat → Int32) (y15 : Nat → Int32) (H : Heap) (locs : List Loc) (ls : Array Slot), ((x3_5).toInt - (l1).toInt).toNat < n → ¬ l1 < (0 : Int32) → va_P D classes (wS1 cI cJ cZ cB p0 p1 p2 p3 p4 p5 p6 p7 p8 p9 p10 p11 p12 p13 p14 p15 x0_3 x0_4 x0_5 x0_6 x0_7 x0_8 x0_9 x0_10 x0_12 x0_13 x0_14 x1_1 x1_2 x1_3 x1_4 x1_5 x1_6 x1_7 x1_8 y2 x3_5 x3_6 y4 y5 y6 y7 y8 x9_6 y10 y11 y12 y13 y14 y15) H → va_D A (wS1 cI cJ cZ cB p0 p1 p2 p3 p4 p5 p6 p7 p8 p9 p10 p11 p12 p13 p14 p15 x0_3 x0_4 x0_5 x0_6 x0_7 x0_8 x0_9 x0_10 x0_12 x0_13 x0_14 x1_1 x1_2 x1_3 x1_4 x1_5 x1_6 x1_7 x1_8 y2 x3_5 x3_6 y4 y5 y6 y7 y8 x9_6 y10 y11 y12 y13 y14 y15) → va_S A s.heap H locs → lv_has ls 3 [(1, .int l1), (0, .ref p0)] → W p l e ({ frames := 3, cells := 0, slots := 0, locals := 67 }) s m [.ref p0].toArray below meth c H locs 0 0 (MQ below (va_Qv (fun (_ : Unit) => True) (fun _ t => (∃ u_x0_3 : Int32, ∃ u_x0_4 : Int32, ∃ u_x0_7 : Int32, ∃ u_x0_13 : Int32, ∃ u_y5 : Nat → Int32, ∃ u_y6 : Nat → Int32, ∃ u_x9_6 : Int32, ∃ u_y10 : Nat → Int32, ∃ u_y11 : Nat → Int32, ∃ u_y12 : Nat → Int32, ∃ u_y13 : Nat → Int32, ∃ u_y14 : Nat → Int32, ∃ u_y15 : Nat → Int32, va_P D classes (wS1 cI cJ cZ cB p0 p1 p2 p3 p4 p5 p6 p7 p8 p9 p10 p11 p12 p13 p14 p15 u_x0_3 u_x0_4 x0_5 x0_6 u_x0_7 x0_8 x0_9 x0_10 x0_12 u_x0_13 x0_14 x1_1 x1_2 x1_3 x1_4 x1_5 x1_6 x1_7 x1_8 y2 x3_5 x3_6 y4 u_y5 u_y6 y7 y8 u_x9_6 u_y10 u_y11 u_y12 u_y13 u_y14 u_y15) t.heap ∧ va_D A (wS1 cI cJ cZ cB p0 p1 p2 p3 p4 p5 p6 p7 p8 p9 p10 p11 p12 p13 p14 p15 u_x0_3 u_x0_4 x0_5 x0_6 u_x0_7 x0_8 x0_9 x0_10 x0_12 u_x0_13 x0_14 x1_1 x1_2 x1_3 x1_4 x1_5 x1_6 x1_7 x1_8 y2 x3_5 x3_6 y4 u_y5 u_y6 y7 y8 u_x9_6 u_y10 u_y11 u_y12 u_y13 u_y14 u_y15))) A) [.ref p0].toArray s 0 0 A) (F0 m 2 ls []) := by
    intro n
    induction n with
    | zero => intro l1 x0_3 x0_4 x0_7 x0_13 y5 y6 x9_6 y10 y11 y12 y13 y14 y15 H locs ls hn; exact absurd hn (Nat.not_lt_zero _)
    | succ n ih =>
      intro l1 x0_3 x0_4 x0_7 x0_13 y5 y6 x9_6 y10 y11 y12 y13 y14 y15 H locs ls hn2_1 hc2_1 hP hD hS hl
      refine lv_iload_n hx hb d_A_putPending_2 rfl (lv_at hl 0 rfl) ?_
      refine lv_aload_n hx hb d_A_putPending_3 rfl (lv_at hl 1 rfl) ?_
      refine va_get (D := D) (ci := 3) (v := .ref p3) (C := "SignMachine$Assembler") (T := F_A) (N := 15) hx hb hk fi_A hown hK.1 hP 0 rfl rfl 1 (by decide) (hk _ k_633) (fun _ h9 => h9) rfl d_A_putPending_4 ?_
      refine va_getN (D := D) (ci := 5) (v := .int x3_5) (C := "SignMachine$Names") (T := F_N) (N := 7) hx hb hk fi_N hown hK.1 hP 3 rfl rfl 5 (by decide) (va_Nw.use rfl (hK.2 _ n_582)) (fun _ h9 => h9) rfl d_A_putPending_7 ?_
      refine lv_icmp_ge (tgt := 63) hx hb d_A_putPending_10 (by decide) (fun c1 => ?_) (fun c1 => ?_)
      · exact W.vret hx hb hr (fun t ht hW => ⟨⟨(), rfl, trivial, ⟨x0_3, x0_4, x0_7, x0_13, y5, y6, x9_6, y10, y11, y12, y13, y14, y15, by show va_P D classes _ t.heap; rw [ht]; exact hP, hD⟩⟩, hS.F ht⟩) hS.2.2 d_A_putPending_63
      · refine lv_aload_n hx hb d_A_putPending_13 rfl (lv_at hl 1 rfl) ?_
        refine va_get (D := D) (ci := 3) (v := .int x0_3) (C := "SignMachine$Assembler") (T := F_A) (N := 15) hx hb hk fi_A hown hK.1 hP 0 rfl rfl 3 (by decide) (hk _ k_636) (fun _ h9 => h9) rfl d_A_putPending_14 ?_
        refine lv_if_ne (tgt := 63) hx hb d_A_putPending_17 (by decide) (fun c2 => ?_) (fun c2 => ?_)
        · exact W.vret hx hb hr (fun t ht hW => ⟨⟨(), rfl, trivial, ⟨x0_3, x0_4, x0_7, x0_13, y5, y6, x9_6, y10, y11, y12, y13, y14, y15, by show va_P D classes _ t.heap; rw [ht]; exact hP, hD⟩⟩, hS.F ht⟩) hS.2.2 d_A_putPending_63
        · refine lv_aload_n hx hb d_A_putPending_20 rfl (lv_at hl 1 rfl) ?_
          refine va_get (D := D) (ci := 3) (v := .ref p3) (C := "SignMachine$Assembler") (T := F_A) (N := 15) hx hb hk fi_A hown hK.1 hP 0 rfl rfl 1 (by decide) (hk _ k_633) (fun _ h9 => h9) rfl d_A_putPending_21 ?_
          refine lv_iload_n hx hb d_A_putPending_24 rfl (lv_at hl 0 rfl) ?_
          refine sn_i (va_runV (C := "SignMachine$Names") (As := [.int l1]) (rest := []) ⟨hx, hb, hml, hown, hk⟩ (c_N_isTold_s1 l D cI cJ cZ cB p0 p1 p2 p3 p4 p5 p6 p7 p8 p9 p10 p11 p12 p13 p14 p15 H.size x0_3 x0_4 x0_5 x0_6 x0_7 x0_8 x0_9 x0_10 x0_12 x0_13 x0_14 x1_1 x1_2 x1_3 x1_4 x1_5 x1_6 x1_7 x1_8 y2 x3_5 x3_6 y4 y5 y6 y7 y8 x9_6 y10 y11 y12 y13 y14 y15 l1) (v_N_isTold_s1 hk k_928 ⟨Nat.le_of_ble_eq_true rfl, Nat.le_of_ble_eq_true rfl⟩) (pM_v hK hP hD (ci := 5) (q0 := 3) rfl rfl rfl) rfl rfl hl.1 rfl (lv_room (Nat.le_of_ble_eq_true rfl)) d_A_putPending_25 ⟨by decide, by decide⟩) hS hA hD (fun rz3 u t H locs hr0 ht hB hFr hS => ?_)
          obtain ⟨z3, hz3⟩ := hr0
          subst hz3
          obtain ⟨hP, hD⟩ := hB
          rw [ht] at hP
          have hD := dwk hD hFr
          clear ht hFr
          have hP : va_P D classes (wS1 cI cJ cZ cB p0 p1 p2 p3 p4 p5 p6 p7 p8 p9 p10 p11 p12 p13 p14 p15 x0_3 x0_4 x0_5 x0_6 x0_7 x0_8 x0_9 x0_10 x0_12 x0_13 x0_14 x1_1 x1_2 x1_3 x1_4 x1_5 x1_6 x1_7 x1_8 y2 x3_5 x3_6 y4 y5 y6 y7 y8 x9_6 y10 y11 y12 y13 y14 y15) H := hP
          have hD : va_D A (wS1 cI cJ cZ cB p0 p1 p2 p3 p4 p5 p6 p7 p8 p9 p10 p11 p12 p13 p14 p15 x0_3 x0_4 x0_5 x0_6 x0_7 x0_8 x0_9 x0_10 x0_12 x0_13 x0_14 x1_1 x1_2 x1_3 x1_4 x1_5 x1_6 x1_7 x1_8 y2 x3_5 x3_6 y4 y5 y6 y7 y8 x9_6 y10 y11 y12 y13 y14 y15) := hD
          refine lv_if_ne (tgt := 57) hx hb d_A_putPending_28 (by decide) (fun c4 => ?_) (fun c4 => ?_)
          · obtain ⟨v5, hv5⟩ : ∃ y : Int32, y = (l1 + (1 : Int32)) := ⟨_, rfl⟩
            refine lv_iinc (v := v5) (lv' := [(1, .int v5), (0, .ref p0)]) hx hb d_A_putPending_57 hl (k := 0) rfl (by rw [hv5]; rfl) (by decide) rfl (fun ls hl => ?_)
            refine lv_goto (tgt := 2) hx hb d_A_putPending_60 (by decide) ?_
            exact ih v5 x0_3 x0_4 x0_7 x0_13 y5 y6 x9_6 y10 y11 y12 y13 y14 y15 H _ ls (lpu c1 hv5 hn2_1) (lpn hc2_1 c1 hv5) hP hD hS (lv_sub hl [0, 1] rfl)
          · refine lv_aload_n hx hb d_A_putPending_31 rfl (lv_at hl 1 rfl) ?_
            refine va_get (D := D) (ci := 3) (v := .ref p3) (C := "SignMachine$Assembler") (T := F_A) (N := 15) hx hb hk fi_A hown hK.1 hP 0 rfl rfl 1 (by decide) (hk _ k_633) (fun _ h9 => h9) rfl d_A_putPending_32 ?_
            refine lv_iload_n hx hb d_A_putPending_35 rfl (lv_at hl 0 rfl) ?_
            refine sn_i (va_runV (C := "SignMachine$Names") (As := [.int l1]) (rest := []) ⟨hx, hb, hml, hown, hk⟩ (c_N_valueOf_s1 l D cI cJ cZ cB p0 p1 p2 p3 p4 p5 p6 p7 p8 p9 p10 p11 p12 p13 p14 p15 H.size x0_3 x0_4 x0_5 x0_6 x0_7 x0_8 x0_9 x0_10 x0_12 x0_13 x0_14 x1_1 x1_2 x1_3 x1_4 x1_5 x1_6 x1_7 x1_8 y2 x3_5 x3_6 y4 y5 y6 y7 y8 x9_6 y10 y11 y12 y13 y14 y15 l1) (v_N_valueOf_s1 hk k_1005 ⟨Nat.le_of_ble_eq_true rfl, Nat.le_of_ble_eq_true rfl⟩) (pM_v hK hP hD (ci := 5) (q0 := 3) rfl rfl rfl) rfl rfl hl.1 rfl (lv_room (Nat.le_of_ble_eq_true rfl)) d_A_putPending_36 ⟨by decide, by decide⟩) hS hA hD (fun rz6 u t H locs hr0 ht hB hFr hS => ?_)
            obtain ⟨hP, hD⟩ := hB
            rw [ht] at hP
            have hD := dwk hD hFr
            clear ht hFr
            have hP : va_P D classes (wS1 cI cJ cZ cB p0 p1 p2 p3 p4 p5 p6 p7 p8 p9 p10 p11 p12 p13 p14 p15 x0_3 x0_4 x0_5 x0_6 x0_7 x0_8 x0_9 x0_10 x0_12 x0_13 x0_14 x1_1 x1_2 x1_3 x1_4 x1_5 x1_6 x1_7 x1_8 y2 x3_5 x3_6 y4 y5 y6 y7 y8 x9_6 y10 y11 y12 y13 y14 y15) H := hP
            have hD : va_D A (wS1 cI cJ cZ cB p0 p1 p2 p3 p4 p5 p6 p7 p8 p9 p10 p11 p12 p13 p14 p15 x0_3 x0_4 x0_5 x0_6 x0_7 x0_8 x0_9 x0_10 x0_12 x0_13 x0_14 x1_1 x1_2 x1_3 x1_4 x1_5 x1_6 x1_7 x1_8 y2 x3_5 x3_6 y4 y5 y6 y7 y8 x9_6 y10 y11 y12 y13 y14 y15) := hD
            refine lv_istore_n (lv' := [(2, .int rz6), (1, .int l1), (0, .ref p0)]) hx hb d_A_putPending_39 rfl hl (by decide) rfl (fun ls hl => ?_)
            refine lv_aload_n hx hb d_A_putPending_40 rfl (lv_at hl 2 rfl) ?_
            refine va_get (D := D) (ci := 3) (v := .ref p3) (C := "SignMachine$Assembler") (T := F_A) (N := 15) hx hb hk fi_A hown hK.1 hP 0 rfl rfl 1 (by decide) (hk _ k_633) (fun _ h9 => h9) rfl d_A_putPending_41 ?_
            refine lv_iload_n hx hb d_A_putPending_44 rfl (lv_at hl 1 rfl) ?_
            refine lv_aload_n hx hb d_A_putPending_45 rfl (lv_at hl 2 rfl) ?_
            refine va_get (D := D) (ci := 3) (v := .int x0_7) (C := "SignMachine$Assembler") (T := F_A) (N := 15) hx hb hk fi_A hown hK.1 hP 0 rfl rfl 7 (by decide) (hk _ k_644) (fun _ h9 => h9) rfl d_A_putPending_46 ?_
            refine kn_v (va_runV (C := "SignMachine$Names") (As := [.int l1, .int x0_7]) (rest := []) ⟨hx, hb, hml, hown, hk⟩ (c_N_tell_s1 l D cI cJ cZ cB p0 p1 p2 p3 p4 p5 p6 p7 p8 p9 p10 p11 p12 p13 p14 p15 H.size x0_3 x0_4 x0_5 x0_6 x0_7 x0_8 x0_9 x0_10 x0_12 x0_13 x0_14 x1_1 x1_2 x1_3 x1_4 x1_5 x1_6 x1_7 x1_8 y2 x3_5 x3_6 y4 y5 y6 y7 y8 x9_6 y10 y11 y12 y13 y14 y15 l1 x0_7) (v_N_tell_s1 hk k_940 ⟨Nat.le_of_ble_eq_true rfl, Nat.le_of_ble_eq_true rfl⟩) (pM_v hK hP hD (ci := 5) (q0 := 3) rfl rfl rfl) rfl rfl hl.1 rfl (lv_room (Nat.le_of_ble_eq_true rfl)) d_A_putPending_49 ⟨by decide, by decide⟩) hS hA hD (fun u t H locs ht hB hFr hS => ?_)
            obtain ⟨y5z7, y6z7, hP, hD⟩ := hB
            rw [ht] at hP
            have hD := dwk hD hFr
            clear ht hFr
            have hP : va_P D classes (wS1 cI cJ cZ cB p0 p1 p2 p3 p4 p5 p6 p7 p8 p9 p10 p11 p12 p13 p14 p15 x0_3 x0_4 x0_5 x0_6 x0_7 x0_8 x0_9 x0_10 x0_12 x0_13 x0_14 x1_1 x1_2 x1_3 x1_4 x1_5 x1_6 x1_7 x1_8 y2 x3_5 x3_6 y4 y5z7 y6z7 y7 y8 x9_6 y10 y11 y12 y13 y14 y15) H := hP
            have hD : va_D A (wS1 cI cJ cZ cB p0 p1 p2 p3 p4 p5 p6 p7 p8 p9 p10 p11 p12 p13 p14 p15 x0_3 x0_4 x0_5 x0_6 x0_7 x0_8 x0_9 x0_10 x0_12 x0_13 x0_14 x1_1 x1_2 x1_3 x1_4 x1_5 x1_6 x1_7 x1_8 y2 x3_5 x3_6 y4 y5z7 y6z7 y7 y8 x9_6 y10 y11 y12 y13 y14 y15) := hD
            refine lv_aload_n hx hb d_A_putPending_52 rfl (lv_at hl 2 rfl) ?_
            refine lv_iload_n hx hb d_A_putPending_53 rfl (lv_at hl 0 rfl) ?_
            refine kn_v (va_runV (C := "SignMachine$Assembler") (As := [.int rz6]) (rest := []) ⟨hx, hb, hml, hown, hk⟩ (c_A_putWord_s1 l D cI cJ cZ cB p0 p1 p2 p3 p4 p5 p6 p7 p8 p9 p10 p11 p12 p13 p14 p15 H.size x0_3 x0_4 x0_5 x0_6 x0_7 x0_8 x0_9 x0_10 x0_12 x0_13 x0_14 x1_1 x1_2 x1_3 x1_4 x1_5 x1_6 x1_7 x1_8 y2 x3_5 x3_6 y4 y5z7 y6z7 y7 y8 x9_6 y10 y11 y12 y13 y14 y15 rz6) (v_A_putWord_s1 hk k_964 ⟨Nat.le_of_ble_eq_true rfl, Nat.le_of_ble_eq_true rfl⟩) (pM_v hK hP hD (ci := 3) (q0 := 0) rfl rfl rfl) rfl rfl hl.1 rfl (lv_room (Nat.le_of_ble_eq_true rfl)) d_A_putPending_54 ⟨by decide, by decide⟩) hS hA hD (fun u t H locs ht hB hFr hS => ?_)
            obtain ⟨x0_3z8, x0_4z8, x0_7z8, x0_13z8, x9_6z8, y10z8, y11z8, y12z8, y13z8, y14z8, y15z8, hP, hD⟩ := hB
            rw [ht] at hP
            have hD := dwk hD hFr
            clear ht hFr
            have hP : va_P D classes (wS1 cI cJ cZ cB p0 p1 p2 p3 p4 p5 p6 p7 p8 p9 p10 p11 p12 p13 p14 p15 x0_3z8 x0_4z8 x0_5 x0_6 x0_7z8 x0_8 x0_9 x0_10 x0_12 x0_13z8 x0_14 x1_1 x1_2 x1_3 x1_4 x1_5 x1_6 x1_7 x1_8 y2 x3_5 x3_6 y4 y5z7 y6z7 y7 y8 x9_6z8 y10z8 y11z8 y12z8 y13z8 y14z8 y15z8) H := hP
            have hD : va_D A (wS1 cI cJ cZ cB p0 p1 p2 p3 p4 p5 p6 p7 p8 p9 p10 p11 p12 p13 p14 p15 x0_3z8 x0_4z8 x0_5 x0_6 x0_7z8 x0_8 x0_9 x0_10 x0_12 x0_13z8 x0_14 x1_1 x1_2 x1_3 x1_4 x1_5 x1_6 x1_7 x1_8 y2 x3_5 x3_6 y4 y5z7 y6z7 y7 y8 x9_6z8 y10z8 y11z8 y12z8 y13z8 y14z8 y15z8) := hD
            obtain ⟨v9, hv9⟩ : ∃ y : Int32, y = (l1 + (1 : Int32)) := ⟨_, rfl⟩
            refine lv_iinc (v := v9) (lv' := [(1, .int v9), (2, .int rz6), (0, .ref p0)]) hx hb d_A_putPending_57 hl (k := 1) rfl (by rw [hv9]; rfl) (by decide) rfl (fun ls hl => ?_)
            refine lv_goto (tgt := 2) hx hb d_A_putPending_60 (by decide) ?_
            exact ih v9 x0_3z8 x0_4z8 x0_7z8 x0_13z8 y5z7 y6z7 x9_6z8 y10z8 y11z8 y12z8 y13z8 y14z8 y15z8 H _ ls (lpu c1 hv9 hn2_1) (lpn hc2_1 c1 hv9) hP hD hS (lv_sub hl [0, 2] rfl)
  exact LP2_1 _ (0 : Int32) x0_3 x0_4 x0_7 x0_13 y5 y6 x9_6 y10 y11 y12 y13 y14 y15 s.heap _ ls (Nat.lt_succ_self _) (by decide) hP hD hS hl
theorem v_A_putPending_s1 {R : Room} {s : State} {args : Array Value} {own : String} {index : Nat} (hk : ∀ w ∈ tb, w.before args s = true) (hl : Cond.methodLink own index y_A_putPending ∈ tb) (hR : 3 + 1 ≤ R.frames ∧ 8 + (3 + 11) + 67 ≤ R.locals) : CallW R s args own "SignMachine$Assembler" index y_A_putPending b_A_putPending 3 none (.code y_A_putPending b_A_putPending 3 none :: tb) ({ frames := 3, cells := 0, slots := 0, locals := 67 }) 0 0 0 := mk_v 0 hk k_1065 hl k_1064 k_57 k_123 rfl rfl h_A_putPending hR
set_option maxHeartbeats 4000000 in
set_option maxRecDepth 100000 in
theorem c_R_byteAt_s1 (l : Launch) (D : va_G) (cI cJ cZ cB : ClassId) (p0 p1 p2 p3 p4 p5 p6 p7 p8 p9 p10 p11 p12 p13 p14 p15 : Nat) (sz : Nat) (x0_3 : Int32) (x0_4 : Int32) (x0_5 : Int32) (x0_6 : Int32) (x0_7 : Int32) (x0_8 : Bool) (x0_9 : Int64) (x0_10 : Int32) (x0_12 : Int32) (x0_13 : Int32) (x0_14 : Int32) (x1_1 : Int32) (x1_2 : Int32) (x1_3 : Int32) (x1_4 : Int32) (x1_5 : Int32) (x1_6 : Int32) (x1_7 : Int64) (x1_8 : Int32) (y2 : Nat → Int32) (x3_5 : Int32) (x3_6 : Int32) (y4 : Nat → Int64) (y5 : Nat → Int32) (y6 : Nat → Int32) (y7 : Nat → Int32) (y8 : Nat → Int32) (x9_6 : Int32) (y10 : Nat → Int32) (y11 : Nat → Int32) (y12 : Nat → Int32) (y13 : Nat → Int32) (y14 : Nat → Int32) (y15 : Nat → Int32) (a1 : Int32) : Met l y_R_byteAt (.code y_R_byteAt b_R_byteAt 2 (some .int) :: tb) ({ frames := 0, cells := 0, slots := 0, locals := 0 }) (pM D cI cJ cZ cB (wS1 cI cJ cZ cB p0 p1 p2 p3 p4 p5 p6 p7 p8 p9 p10 p11 p12 p13 p14 p15 x0_3 x0_4 x0_5 x0_6 x0_7 x0_8 x0_9 x0_10 x0_12 x0_13 x0_14 x1_1 x1_2 x1_3 x1_4 x1_5 x1_6 x1_7 x1_8 y2 x3_5 x3_6 y4 y5 y6 y7 y8 x9_6 y10 y11 y12 y13 y14 y15) sz [.ref p1, .int a1]) (va_Qi (fun r (_ : Unit) => True) (fun _ t => (va_P D classes (wS1 cI cJ cZ cB p0 p1 p2 p3 p4 p5 p6 p7 p8 p9 p10 p11 p12 p13 p14 p15 x0_3 x0_4 x0_5 x0_6 x0_7 x0_8 x0_9 x0_10 x0_12 x0_13 x0_14 x1_1 x1_2 x1_3 x1_4 x1_5 x1_6 x1_7 x1_8 y2 x3_5 x3_6 y4 y5 y6 y7 y8 x9_6 y10 y11 y12 y13 y14 y15) t.heap ∧ va_D (va_A (wS1 cI cJ cZ cB p0 p1 p2 p3 p4 p5 p6 p7 p8 p9 p10 p11 p12 p13 p14 p15 x0_3 x0_4 x0_5 x0_6 x0_7 x0_8 x0_9 x0_10 x0_12 x0_13 x0_14 x1_1 x1_2 x1_3 x1_4 x1_5 x1_6 x1_7 x1_8 y2 x3_5 x3_6 y4 y5 y6 y7 y8 x9_6 y10 y11 y12 y13 y14 y15) sz) (wS1 cI cJ cZ cB p0 p1 p2 p3 p4 p5 p6 p7 p8 p9 p10 p11 p12 p13 p14 p15 x0_3 x0_4 x0_5 x0_6 x0_7 x0_8 x0_9 x0_10 x0_12 x0_13 x0_14 x1_1 x1_2 x1_3 x1_4 x1_5 x1_6 x1_7 x1_8 y2 x3_5 x3_6 y4 y5 y6 y7 y8 x9_6 y10 y11 y12 y13 y14 y15))) (va_A (wS1 cI cJ cZ cB p0 p1 p2 p3 p4 p5 p6 p7 p8 p9 p10 p11 p12 p13 p14 p15 x0_3 x0_4 x0_5 x0_6 x0_7 x0_8 x0_9 x0_10 x0_12 x0_13 x0_14 x1_1 x1_2 x1_3 x1_4 x1_5 x1_6 x1_7 x1_8 y2 x3_5 x3_6 y4 y5 y6 y7 y8 x9_6 y10 y11 y12 y13 y14 y15) sz)) 0 0 (va_A (wS1 cI cJ cZ cB p0 p1 p2 p3 p4 p5 p6 p7 p8 p9 p10 p11 p12 p13 p14 p15 x0_3 x0_4 x0_5 x0_6 x0_7 x0_8 x0_9 x0_10 x0_12 x0_13 x0_14 x1_1 x1_2 x1_3 x1_4 x1_5 x1_6 x1_7 x1_8 y2 x3_5 x3_6 y4 y5 y6 y7 y8 x9_6 y10 y11 y12 y13 y14 y15) sz) := by
  refine Met.ofW (cc := b_R_byteAt) (maxL := 2) (ret := (some .int)) (by decide) rfl ?_
  intro p e s m args below meth c s₁ B hml hv
  obtain ⟨rfl, hsz, hK, hP, hD0⟩ := hv
  subst hsz
  have hD := hD0.self (sz := s.heap.size)
  generalize hAe : va_A (wS1 cI cJ cZ cB p0 p1 p2 p3 p4 p5 p6 p7 p8 p9 p10 p11 p12 p13 p14 p15 x0_3 x0_4 x0_5 x0_6 x0_7 x0_8 x0_9 x0_10 x0_12 x0_13 x0_14 x1_1 x1_2 x1_3 x1_4 x1_5 x1_6 x1_7 x1_8 y2 x3_5 x3_6 y4 y5 y6 y7 y8 x9_6 y10 y11 y12 y13 y14 y15) s.heap.size = A at hD ⊢
  have hA : ∀ q : Nat, s.heap.size ≤ q → A q := fun q h => by rw [← hAe]; exact Or.inr h
  clear hAe hD0
  have hS : va_S A s.heap s.heap [] := va_S.rf
  have hx := B.exec
  have hb := B.bytes
  have hr := B.returns
  have hts := atoms_spec (ws := .code y_R_byteAt b_R_byteAt 2 (some .int) :: tb) B.pre
  have hk : ∀ w ∈ tb, w.before [.ref p1, .int a1].toArray s = true := fun w h => hts w (List.mem_cons_of_mem _ h)
  have hown : s.vm.findClass "SignMachine$Source" = some m.cls := findClass_of_methodNamed B.named
  have hlocks := B.notSynchronized
  have hl := lv_entry ([.ref p1, .int a1]) (n := 2) (Nat.le_of_ble_eq_true rfl)
  rw [lg_entry_eq]
  generalize (lg_sl ([.ref p1, .int a1]) ++ List.replicate (2 - (lg_sl ([.ref p1, .int a1])).length) Slot.unset).toArray = ls at hl ⊢
  have hl : lv_has ls 2 [(0, .ref p1), (1, .int a1)] := hl
  refine lv_iload_n hx hb d_R_byteAt_0 rfl (lv_at hl 1 rfl) ?_
  refine lv_if_lt (tgt := 24) hx hb d_R_byteAt_1 (by decide) (fun c1 => ?_) (fun c1 => ?_)
  · refine lv_iconst (v := 0) hx hb d_R_byteAt_24 (by decide) ?_
    exact W.iret (v := (0 : Int32)) hx hb hr (fun t ht hW => ⟨⟨(0 : Int32), (), rfl, trivial, ⟨by show va_P D classes _ t.heap; rw [ht]; exact hP, hD⟩⟩, hS.F ht⟩) hS.2.2 d_R_byteAt_25
  · refine lv_iload_n hx hb d_R_byteAt_4 rfl (lv_at hl 1 rfl) ?_
    refine lv_sipush (v := 4000) hx hb d_R_byteAt_5 (by decide) ?_
    refine lv_icmp_ge (tgt := 24) hx hb d_R_byteAt_8 (by decide) (fun c2 => ?_) (fun c2 => ?_)
    · refine lv_iconst (v := 0) hx hb d_R_byteAt_24 (by decide) ?_
      exact W.iret (v := (0 : Int32)) hx hb hr (fun t ht hW => ⟨⟨(0 : Int32), (), rfl, trivial, ⟨by show va_P D classes _ t.heap; rw [ht]; exact hP, hD⟩⟩, hS.F ht⟩) hS.2.2 d_R_byteAt_25
    · refine lv_aload_n hx hb d_R_byteAt_11 rfl (lv_at hl 0 rfl) ?_
      refine va_get (D := D) (ci := 4) (v := .ref p2) (C := "SignMachine$Source") (T := F_R) (N := 9) hx hb hk fi_R hown hK.1 hP 1 rfl rfl 0 (by decide) (hk _ k_534) (fun _ h9 => h9) rfl d_R_byteAt_12 ?_
      refine lv_iload_n hx hb d_R_byteAt_15 rfl (lv_at hl 1 rfl) ?_
      refine va_bald hx hb hK.1 hP 2 3 rfl rfl (vpin c1 c2 rfl) d_R_byteAt_16 ?_
      refine lv_topi (fun v3 hv3 => ?_)
      refine lv_sipush (v := 255) hx hb d_R_byteAt_17 (by decide) ?_
      refine lv_iand hx hb d_R_byteAt_20 ?_
      refine lv_topi (fun v4 hv4 => ?_)
      refine lv_goto (tgt := 25) hx hb d_R_byteAt_21 (by decide) ?_
      exact W.iret (v := v4) hx hb hr (fun t ht hW => ⟨⟨v4, (), rfl, trivial, ⟨by show va_P D classes _ t.heap; rw [ht]; exact hP, hD⟩⟩, hS.F ht⟩) hS.2.2 d_R_byteAt_25
theorem v_R_byteAt_s1 {R : Room} {s : State} {args : Array Value} {own : String} {index : Nat} (hk : ∀ w ∈ tb, w.before args s = true) (hl : Cond.methodLink own index y_R_byteAt ∈ tb) (hR : 0 + 1 ≤ R.frames ∧ 8 + (2 + 11) + 0 ≤ R.locals) : CallW R s args own "SignMachine$Source" index y_R_byteAt b_R_byteAt 2 (some .int) (.code y_R_byteAt b_R_byteAt 2 (some .int) :: tb) ({ frames := 0, cells := 0, slots := 0, locals := 0 }) 0 0 1 := mk_v 1 hk k_734 hl k_732 k_733 k_124 rfl rfl h_R_byteAt hR
set_option maxHeartbeats 4000000 in
set_option maxRecDepth 100000 in
theorem c_R_nextLine_s1 (l : Launch) (D : va_G) (cI cJ cZ cB : ClassId) (p0 p1 p2 p3 p4 p5 p6 p7 p8 p9 p10 p11 p12 p13 p14 p15 : Nat) (sz : Nat) (x0_3 : Int32) (x0_4 : Int32) (x0_5 : Int32) (x0_6 : Int32) (x0_7 : Int32) (x0_8 : Bool) (x0_9 : Int64) (x0_10 : Int32) (x0_12 : Int32) (x0_13 : Int32) (x0_14 : Int32) (x1_1 : Int32) (x1_2 : Int32) (x1_3 : Int32) (x1_4 : Int32) (x1_5 : Int32) (x1_6 : Int32) (x1_7 : Int64) (x1_8 : Int32) (y2 : Nat → Int32) (x3_5 : Int32) (x3_6 : Int32) (y4 : Nat → Int64) (y5 : Nat → Int32) (y6 : Nat → Int32) (y7 : Nat → Int32) (y8 : Nat → Int32) (x9_6 : Int32) (y10 : Nat → Int32) (y11 : Nat → Int32) (y12 : Nat → Int32) (y13 : Nat → Int32) (y14 : Nat → Int32) (y15 : Nat → Int32)  : Met l y_R_nextLine (.code y_R_nextLine b_R_nextLine 2 none :: tb) ({ frames := 1, cells := 0, slots := 0, locals := 21 }) (pM D cI cJ cZ cB (wS1 cI cJ cZ cB p0 p1 p2 p3 p4 p5 p6 p7 p8 p9 p10 p11 p12 p13 p14 p15 x0_3 x0_4 x0_5 x0_6 x0_7 x0_8 x0_9 x0_10 x0_12 x0_13 x0_14 x1_1 x1_2 x1_3 x1_4 x1_5 x1_6 x1_7 x1_8 y2 x3_5 x3_6 y4 y5 y6 y7 y8 x9_6 y10 y11 y12 y13 y14 y15) sz [.ref p1]) (va_Qv (fun (_ : Unit) => True) (fun _ t => (∃ u_x1_2 : Int32, ∃ u_x1_3 : Int32, ∃ u_x1_4 : Int32, ∃ u_x1_5 : Int32, va_P D classes (wS1 cI cJ cZ cB p0 p1 p2 p3 p4 p5 p6 p7 p8 p9 p10 p11 p12 p13 p14 p15 x0_3 x0_4 x0_5 x0_6 x0_7 x0_8 x0_9 x0_10 x0_12 x0_13 x0_14 x1_1 u_x1_2 u_x1_3 u_x1_4 u_x1_5 x1_6 x1_7 x1_8 y2 x3_5 x3_6 y4 y5 y6 y7 y8 x9_6 y10 y11 y12 y13 y14 y15) t.heap ∧ va_D (va_A (wS1 cI cJ cZ cB p0 p1 p2 p3 p4 p5 p6 p7 p8 p9 p10 p11 p12 p13 p14 p15 x0_3 x0_4 x0_5 x0_6 x0_7 x0_8 x0_9 x0_10 x0_12 x0_13 x0_14 x1_1 x1_2 x1_3 x1_4 x1_5 x1_6 x1_7 x1_8 y2 x3_5 x3_6 y4 y5 y6 y7 y8 x9_6 y10 y11 y12 y13 y14 y15) sz) (wS1 cI cJ cZ cB p0 p1 p2 p3 p4 p5 p6 p7 p8 p9 p10 p11 p12 p13 p14 p15 x0_3 x0_4 x0_5 x0_6 x0_7 x0_8 x0_9 x0_10 x0_12 x0_13 x0_14 x1_1 u_x1_2 u_x1_3 u_x1_4 u_x1_5 x1_6 x1_7 x1_8 y2 x3_5 x3_6 y4 y5 y6 y7 y8 x9_6 y10 y11 y12 y13 y14 y15))) (va_A (wS1 cI cJ cZ cB p0 p1 p2 p3 p4 p5 p6 p7 p8 p9 p10 p11 p12 p13 p14 p15 x0_3 x0_4 x0_5 x0_6 x0_7 x0_8 x0_9 x0_10 x0_12 x0_13 x0_14 x1_1 x1_2 x1_3 x1_4 x1_5 x1_6 x1_7 x1_8 y2 x3_5 x3_6 y4 y5 y6 y7 y8 x9_6 y10 y11 y12 y13 y14 y15) sz)) 0 0 (va_A (wS1 cI cJ cZ cB p0 p1 p2 p3 p4 p5 p6 p7 p8 p9 p10 p11 p12 p13 p14 p15 x0_3 x0_4 x0_5 x0_6 x0_7 x0_8 x0_9 x0_10 x0_12 x0_13 x0_14 x1_1 x1_2 x1_3 x1_4 x1_5 x1_6 x1_7 x1_8 y2 x3_5 x3_6 y4 y5 y6 y7 y8 x9_6 y10 y11 y12 y13 y14 y15) sz) := by
  refine Met.ofW (cc := b_R_nextLine) (maxL := 2) (ret := none) (by decide) rfl ?_
  intro p e s m args below meth c s₁ B hml hv
  obtain ⟨rfl, hsz, hK, hP, hD0⟩ := hv
  subst hsz
  have hD := hD0.self (sz := s.heap.size)
  generalize hAe : va_A (wS1 cI cJ cZ cB p0 p1 p2 p3 p4 p5 p6 p7 p8 p9 p10 p11 p12 p13 p14 p15 x0_3 x0_4 x0_5 x0_6 x0_7 x0_8 x0_9 x0_10 x0_12 x0_13 x0_14 x1_1 x1_2 x1_3 x1_4 x1_5 x1_6 x1_7 x1_8 y2 x3_5 x3_6 y4 y5 y6 y7 y8 x9_6 y10 y11 y12 y13 y14 y15) s.heap.size = A at hD ⊢
  have hA : ∀ q : Nat, s.heap.size ≤ q → A q := fun q h => by rw [← hAe]; exact Or.inr h
  clear hAe hD0
  have hS : va_S A s.heap s.heap [] := va_S.rf
  have hx := B.exec
  have hb := B.bytes
  have hr := B.returns
  have hts := atoms_spec (ws := .code y_R_nextLine b_R_nextLine 2 none :: tb) B.pre
  have hk : ∀ w ∈ tb, w.before [.ref p1].toArray s = true := fun w h => hts w (List.mem_cons_of_mem _ h)
  have hown : s.vm.findClass "SignMachine$Source" = some m.cls := findClass_of_methodNamed B.named
  have hlocks := B.notSynchronized
  have hl := lv_entry ([.ref p1]) (n := 2) (Nat.le_of_ble_eq_true rfl)
  rw [lg_entry_eq]
  generalize (lg_sl ([.ref p1]) ++ List.replicate (2 - (lg_sl ([.ref p1])).length) Slot.unset).toArray = ls at hl ⊢
  have hl : lv_has ls 2 [(0, .ref p1)] := hl
  refine lv_aload_n hx hb d_R_nextLine_0 rfl (lv_at hl 0 rfl) ?_
  refine lv_dup hx hb d_R_nextLine_1 rfl ?_
  refine va_get (D := D) (ci := 4) (v := .int x1_2) (C := "SignMachine$Source") (T := F_R) (N := 9) hx hb hk fi_R hown hK.1 hP 1 rfl rfl 2 (by decide) (hk _ k_538) (fun _ h9 => h9) rfl d_R_nextLine_2 ?_
  refine lv_iconst (v := 1) hx hb d_R_nextLine_5 (by decide) ?_
  refine lv_iadd hx hb d_R_nextLine_6 ?_
  refine lv_topi (fun v1 hv1 => ?_)
  refine va_put (D := D) (ci := 4) (v := .int v1) (ty := .int) (C := "SignMachine$Source") (T := F_R) (N := 9) hx hb hk fi_R ft_R ft_R_ok fn_R hown hK.1 hP hD hS 1 rfl rfl 2 (by decide) (hk _ k_538) (fun _ h9 => h9) rfl (by decide +kernel) rfl rfl (Nat.le_of_ble_eq_true rfl) d_R_nextLine_7 (fun H locs hP hD hS => ?_)
  have hP : va_P D classes (wS1 cI cJ cZ cB p0 p1 p2 p3 p4 p5 p6 p7 p8 p9 p10 p11 p12 p13 p14 p15 x0_3 x0_4 x0_5 x0_6 x0_7 x0_8 x0_9 x0_10 x0_12 x0_13 x0_14 x1_1 v1 x1_3 x1_4 x1_5 x1_6 x1_7 x1_8 y2 x3_5 x3_6 y4 y5 y6 y7 y8 x9_6 y10 y11 y12 y13 y14 y15) H := hP
  have hD : va_D A (wS1 cI cJ cZ cB p0 p1 p2 p3 p4 p5 p6 p7 p8 p9 p10 p11 p12 p13 p14 p15 x0_3 x0_4 x0_5 x0_6 x0_7 x0_8 x0_9 x0_10 x0_12 x0_13 x0_14 x1_1 v1 x1_3 x1_4 x1_5 x1_6 x1_7 x1_8 y2 x3_5 x3_6 y4 y5 y6 y7 y8 x9_6 y10 y11 y12 y13 y14 y15) := hD
  refine lv_aload_n hx hb d_R_nextLine_10 rfl (lv_at hl 0 rfl) ?_
  refine lv_aload_n hx hb d_R_nextLine_11 rfl (lv_at hl 0 rfl) ?_
  refine va_get (D := D) (ci := 4) (v := .int x1_5) (C := "SignMachine$Source") (T := F_R) (N := 9) hx hb hk fi_R hown hK.1 hP 1 rfl rfl 5 (by decide) (hk _ k_543) (fun _ h9 => h9) rfl d_R_nextLine_12 ?_
  refine va_put (D := D) (ci := 4) (v := .int x1_5) (ty := .int) (C := "SignMachine$Source") (T := F_R) (N := 9) hx hb hk fi_R ft_R ft_R_ok fn_R hown hK.1 hP hD hS 1 rfl rfl 3 (by decide) (hk _ k_540) (fun _ h9 => h9) rfl (by decide +kernel) rfl rfl (Nat.le_of_ble_eq_true rfl) d_R_nextLine_15 (fun H locs hP hD hS => ?_)
  have hP : va_P D classes (wS1 cI cJ cZ cB p0 p1 p2 p3 p4 p5 p6 p7 p8 p9 p10 p11 p12 p13 p14 p15 x0_3 x0_4 x0_5 x0_6 x0_7 x0_8 x0_9 x0_10 x0_12 x0_13 x0_14 x1_1 v1 x1_5 x1_4 x1_5 x1_6 x1_7 x1_8 y2 x3_5 x3_6 y4 y5 y6 y7 y8 x9_6 y10 y11 y12 y13 y14 y15) H := hP
  have hD : va_D A (wS1 cI cJ cZ cB p0 p1 p2 p3 p4 p5 p6 p7 p8 p9 p10 p11 p12 p13 p14 p15 x0_3 x0_4 x0_5 x0_6 x0_7 x0_8 x0_9 x0_10 x0_12 x0_13 x0_14 x1_1 v1 x1_5 x1_4 x1_5 x1_6 x1_7 x1_8 y2 x3_5 x3_6 y4 y5 y6 y7 y8 x9_6 y10 y11 y12 y13 y14 y15) := hD
  refine lv_aload_n hx hb d_R_nextLine_18 rfl (lv_at hl 0 rfl) ?_
  refine lv_aload_n hx hb d_R_nextLine_19 rfl (lv_at hl 0 rfl) ?_
  refine va_get (D := D) (ci := 4) (v := .int x1_5) (C := "SignMachine$Source") (T := F_R) (N := 9) hx hb hk fi_R hown hK.1 hP 1 rfl rfl 3 (by decide) (hk _ k_540) (fun _ h9 => h9) rfl d_R_nextLine_20 ?_
  refine va_put (D := D) (ci := 4) (v := .int x1_5) (ty := .int) (C := "SignMachine$Source") (T := F_R) (N := 9) hx hb hk fi_R ft_R ft_R_ok fn_R hown hK.1 hP hD hS 1 rfl rfl 4 (by decide) (hk _ k_542) (fun _ h9 => h9) rfl (by decide +kernel) rfl rfl (Nat.le_of_ble_eq_true rfl) d_R_nextLine_23 (fun H locs hP hD hS => ?_)
  have hP : va_P D classes (wS1 cI cJ cZ cB p0 p1 p2 p3 p4 p5 p6 p7 p8 p9 p10 p11 p12 p13 p14 p15 x0_3 x0_4 x0_5 x0_6 x0_7 x0_8 x0_9 x0_10 x0_12 x0_13 x0_14 x1_1 v1 x1_5 x1_5 x1_5 x1_6 x1_7 x1_8 y2 x3_5 x3_6 y4 y5 y6 y7 y8 x9_6 y10 y11 y12 y13 y14 y15) H := hP
  have hD : va_D A (wS1 cI cJ cZ cB p0 p1 p2 p3 p4 p5 p6 p7 p8 p9 p10 p11 p12 p13 p14 p15 x0_3 x0_4 x0_5 x0_6 x0_7 x0_8 x0_9 x0_10 x0_12 x0_13 x0_14 x1_1 v1 x1_5 x1_5 x1_5 x1_6 x1_7 x1_8 y2 x3_5 x3_6 y4 y5 y6 y7 y8 x9_6 y10 y11 y12 y13 y14 y15) := hD
  refine lv_iconst (v := 0) hx hb d_R_nextLine_26 (by decide) ?_
  refine lv_istore_n (lv' := [(1, .int (0 : Int32)), (0, .ref p1)]) hx hb d_R_nextLine_27 rfl hl (by decide) rfl (fun ls hl => ?_)
  have LP28_1 : ∀ (n : Nat) (l1 : Int32) (x1_2 : Int32) (x1_3 : Int32) (x1_4 : Int32) (x1_5 : Int32) (H : Heap) (locs : List Loc) (ls : Array Slot), (((4000 : Int32)).toInt - (l1).toInt).toNat < n → ¬ l1 < (0 : Int32) → va_P D classes (wS1 cI cJ cZ cB p0 p1 p2 p3 p4 p5 p6 p7 p8 p9 p10 p11 p12 p13 p14 p15 x0_3 x0_4 x0_5 x0_6 x0_7 x0_8 x0_9 x0_10 x0_12 x0_13 x0_14 x1_1 x1_2 x1_3 x1_4 x1_5 x1_6 x1_7 x1_8 y2 x3_5 x3_6 y4 y5 y6 y7 y8 x9_6 y10 y11 y12 y13 y14 y15) H → va_D A (wS1 cI cJ cZ cB p0 p1 p2 p3 p4 p5 p6 p7 p8 p9 p10 p11 p12 p13 p14 p15 x0_3 x0_4 x0_5 x0_6 x0_7 x0_8 x0_9 x0_10 x0_12 x0_13 x0_14 x1_1 x1_2 x1_3 x1_4 x1_5 x1_6 x1_7 x1_8 y2 x3_5 x3_6 y4 y5 y6 y7 y8 x9_6 y10 y11 y12 y13 y14 y15) → va_S A s.heap H locs → lv_has ls 2 [(1, .int l1), (0, .ref p1)] → W p l e ({ frames := 1, cells := 0, slots := 0, locals := 21 }) s m [.ref p1].toArray below meth c H locs 0 0 (MQ below (va_Qv (fun (_ : Unit) => True) (fun _ t => (∃ u_x1_2 : Int32, ∃ u_x1_3 : Int32, ∃ u_x1_4 : Int32, ∃ u_x1_5 : Int32, va_P D classes (wS1 cI cJ cZ cB p0 p1 p2 p3 p4 p5 p6 p7 p8 p9 p10 p11 p12 p13 p14 p15 x0_3 x0_4 x0_5 x0_6 x0_7 x0_8 x0_9 x0_10 x0_12 x0_13 x0_14 x1_1 u_x1_2 u_x1_3 u_x1_4 u_x1_5 x1_6 x1_7 x1_8 y2 x3_5 x3_6 y4 y5 y6 y7 y8 x9_6 y10 y11 y12 y13 y14 y15) t.heap ∧ va_D A (wS1 cI cJ cZ cB p0 p1 p2 p3 p4 p5 p6 p7 p8 p9 p10 p11 p12 p13 p14 p15 x0_3 x0_4 x0_5 x0_6 x0_7 x0_8 x0_9 x0_10 x0_12 x0_13 x0_14 x1_1 u_x1_2 u_x1_3 u_x1_4 u_x1_5 x1_6 x1_7 x1_8 y2 x3_5 x3_6 y4 y5 y6 y7 y8 x9_6 y10 y11 y12 y13 y14 y15))) A) [.ref p1].toArray s 0 0 A) (F0 m 28 ls []) := by
    intro n
    induction n with
    | zero => intro l1 x1_2 x1_3 x1_4 x1_5 H locs ls hn; exact absurd hn (Nat.not_lt_zero _)
    | succ n ih =>
      intro l1 x1_2 x1_3 x1_4 x1_5 H locs ls hn28_1 hc28_1 hP hD hS hl
      refine lv_iload_n hx hb d_R_nextLine_28 rfl (lv_at hl 0 rfl) ?_
      refine lv_sipush (v := 4000) hx hb d_R_nextLine_29 (by decide) ?_
      refine lv_icmp_ge (tgt := 75) hx hb d_R_nextLine_32 (by decide) (fun c2 => ?_) (fun c2 => ?_)
      · refine lv_aload_n hx hb d_R_nextLine_75 rfl (lv_at hl 1 rfl) ?_
        refine lv_aload_n hx hb d_R_nextLine_76 rfl (lv_at hl 1 rfl) ?_
        refine va_get (D := D) (ci := 4) (v := .int x1_4) (C := "SignMachine$Source") (T := F_R) (N := 9) hx hb hk fi_R hown hK.1 hP 1 rfl rfl 4 (by decide) (hk _ k_542) (fun _ h9 => h9) rfl d_R_nextLine_77 ?_
        refine lv_iconst (v := 1) hx hb d_R_nextLine_80 (by decide) ?_
        refine lv_iadd hx hb d_R_nextLine_81 ?_
        refine lv_topi (fun v3 hv3 => ?_)
        refine va_put (D := D) (ci := 4) (v := .int v3) (ty := .int) (C := "SignMachine$Source") (T := F_R) (N := 9) hx hb hk fi_R ft_R ft_R_ok fn_R hown hK.1 hP hD hS 1 rfl rfl 5 (by decide) (hk _ k_543) (fun _ h9 => h9) rfl (by decide +kernel) rfl rfl (Nat.le_of_ble_eq_true rfl) d_R_nextLine_82 (fun H locs hP hD hS => ?_)
        have hP : va_P D classes (wS1 cI cJ cZ cB p0 p1 p2 p3 p4 p5 p6 p7 p8 p9 p10 p11 p12 p13 p14 p15 x0_3 x0_4 x0_5 x0_6 x0_7 x0_8 x0_9 x0_10 x0_12 x0_13 x0_14 x1_1 x1_2 x1_3 x1_4 v3 x1_6 x1_7 x1_8 y2 x3_5 x3_6 y4 y5 y6 y7 y8 x9_6 y10 y11 y12 y13 y14 y15) H := hP
        have hD : va_D A (wS1 cI cJ cZ cB p0 p1 p2 p3 p4 p5 p6 p7 p8 p9 p10 p11 p12 p13 p14 p15 x0_3 x0_4 x0_5 x0_6 x0_7 x0_8 x0_9 x0_10 x0_12 x0_13 x0_14 x1_1 x1_2 x1_3 x1_4 v3 x1_6 x1_7 x1_8 y2 x3_5 x3_6 y4 y5 y6 y7 y8 x9_6 y10 y11 y12 y13 y14 y15) := hD
        exact W.vret hx hb hr (fun t ht hW => ⟨⟨(), rfl, trivial, ⟨x1_2, x1_3, x1_4, v3, by show va_P D classes _ t.heap; rw [ht]; exact hP, hD⟩⟩, hS.F ht⟩) hS.2.2 d_R_nextLine_85
      · refine lv_aload_n hx hb d_R_nextLine_35 rfl (lv_at hl 1 rfl) ?_
        refine va_get (D := D) (ci := 4) (v := .int x1_4) (C := "SignMachine$Source") (T := F_R) (N := 9) hx hb hk fi_R hown hK.1 hP 1 rfl rfl 4 (by decide) (hk _ k_542) (fun _ h9 => h9) rfl d_R_nextLine_36 ?_
        refine lv_aload_n hx hb d_R_nextLine_39 rfl (lv_at hl 1 rfl) ?_
        refine va_get (D := D) (ci := 4) (v := .int x1_1) (C := "SignMachine$Source") (T := F_R) (N := 9) hx hb hk fi_R hown hK.1 hP 1 rfl rfl 1 (by decide) (hk _ k_535) (fun _ h9 => h9) rfl d_R_nextLine_40 ?_
        refine lv_icmp_ge (tgt := 75) hx hb d_R_nextLine_43 (by decide) (fun c4 => ?_) (fun c4 => ?_)
        · refine lv_aload_n hx hb d_R_nextLine_75 rfl (lv_at hl 1 rfl) ?_
          refine lv_aload_n hx hb d_R_nextLine_76 rfl (lv_at hl 1 rfl) ?_
          refine va_get (D := D) (ci := 4) (v := .int x1_4) (C := "SignMachine$Source") (T := F_R) (N := 9) hx hb hk fi_R hown hK.1 hP 1 rfl rfl 4 (by decide) (hk _ k_542) (fun _ h9 => h9) rfl d_R_nextLine_77 ?_
          refine lv_iconst (v := 1) hx hb d_R_nextLine_80 (by decide) ?_
          refine lv_iadd hx hb d_R_nextLine_81 ?_
          refine lv_topi (fun v5 hv5 => ?_)
          refine va_put (D := D) (ci := 4) (v := .int v5) (ty := .int) (C := "SignMachine$Source") (T := F_R) (N := 9) hx hb hk fi_R ft_R ft_R_ok fn_R hown hK.1 hP hD hS 1 rfl rfl 5 (by decide) (hk _ k_543) (fun _ h9 => h9) rfl (by decide +kernel) rfl rfl (Nat.le_of_ble_eq_true rfl) d_R_nextLine_82 (fun H locs hP hD hS => ?_)
          have hP : va_P D classes (wS1 cI cJ cZ cB p0 p1 p2 p3 p4 p5 p6 p7 p8 p9 p10 p11 p12 p13 p14 p15 x0_3 x0_4 x0_5 x0_6 x0_7 x0_8 x0_9 x0_10 x0_12 x0_13 x0_14 x1_1 x1_2 x1_3 x1_4 v5 x1_6 x1_7 x1_8 y2 x3_5 x3_6 y4 y5 y6 y7 y8 x9_6 y10 y11 y12 y13 y14 y15) H := hP
          have hD : va_D A (wS1 cI cJ cZ cB p0 p1 p2 p3 p4 p5 p6 p7 p8 p9 p10 p11 p12 p13 p14 p15 x0_3 x0_4 x0_5 x0_6 x0_7 x0_8 x0_9 x0_10 x0_12 x0_13 x0_14 x1_1 x1_2 x1_3 x1_4 v5 x1_6 x1_7 x1_8 y2 x3_5 x3_6 y4 y5 y6 y7 y8 x9_6 y10 y11 y12 y13 y14 y15) := hD
          exact W.vret hx hb hr (fun t ht hW => ⟨⟨(), rfl, trivial, ⟨x1_2, x1_3, x1_4, v5, by show va_P D classes _ t.heap; rw [ht]; exact hP, hD⟩⟩, hS.F ht⟩) hS.2.2 d_R_nextLine_85
        · refine lv_aload_n hx hb d_R_nextLine_46 rfl (lv_at hl 1 rfl) ?_
          refine lv_aload_n hx hb d_R_nextLine_47 rfl (lv_at hl 1 rfl) ?_
          refine va_get (D := D) (ci := 4) (v := .int x1_4) (C := "SignMachine$Source") (T := F_R) (N := 9) hx hb hk fi_R hown hK.1 hP 1 rfl rfl 4 (by decide) (hk _ k_542) (fun _ h9 => h9) rfl d_R_nextLine_48 ?_
          refine sn_i (va_runV (C := "SignMachine$Source") (As := [.int x1_4]) (rest := []) ⟨hx, hb, hml, hown, hk⟩ (c_R_byteAt_s1 l D cI cJ cZ cB p0 p1 p2 p3 p4 p5 p6 p7 p8 p9 p10 p11 p12 p13 p14 p15 H.size x0_3 x0_4 x0_5 x0_6 x0_7 x0_8 x0_9 x0_10 x0_12 x0_13 x0_14 x1_1 x1_2 x1_3 x1_4 x1_5 x1_6 x1_7 x1_8 y2 x3_5 x3_6 y4 y5 y6 y7 y8 x9_6 y10 y11 y12 y13 y14 y15 x1_4) (v_R_byteAt_s1 hk k_731 ⟨Nat.le_of_ble_eq_true rfl, Nat.le_of_ble_eq_true rfl⟩) (pM_v hK hP hD (ci := 4) (q0 := 1) rfl rfl rfl) rfl rfl hl.1 rfl (lv_room (Nat.le_of_ble_eq_true rfl)) d_R_nextLine_51 ⟨by decide, by decide⟩) hS hA hD (fun rz6 u t H locs hr0 ht hB hFr hS => ?_)
          obtain ⟨hP, hD⟩ := hB
          rw [ht] at hP
          have hD := dwk hD hFr
          clear ht hFr
          have hP : va_P D classes (wS1 cI cJ cZ cB p0 p1 p2 p3 p4 p5 p6 p7 p8 p9 p10 p11 p12 p13 p14 p15 x0_3 x0_4 x0_5 x0_6 x0_7 x0_8 x0_9 x0_10 x0_12 x0_13 x0_14 x1_1 x1_2 x1_3 x1_4 x1_5 x1_6 x1_7 x1_8 y2 x3_5 x3_6 y4 y5 y6 y7 y8 x9_6 y10 y11 y12 y13 y14 y15) H := hP
          have hD : va_D A (wS1 cI cJ cZ cB p0 p1 p2 p3 p4 p5 p6 p7 p8 p9 p10 p11 p12 p13 p14 p15 x0_3 x0_4 x0_5 x0_6 x0_7 x0_8 x0_9 x0_10 x0_12 x0_13 x0_14 x1_1 x1_2 x1_3 x1_4 x1_5 x1_6 x1_7 x1_8 y2 x3_5 x3_6 y4 y5 y6 y7 y8 x9_6 y10 y11 y12 y13 y14 y15) := hD
          refine lv_bipush (v := 10) hx hb d_R_nextLine_54 (by decide) ?_
          refine lv_icmp_eq (tgt := 75) hx hb d_R_nextLine_56 (by decide) (fun c7 => ?_) (fun c7 => ?_)
          · refine lv_aload_n hx hb d_R_nextLine_75 rfl (lv_at hl 1 rfl) ?_
            refine lv_aload_n hx hb d_R_nextLine_76 rfl (lv_at hl 1 rfl) ?_
            refine va_get (D := D) (ci := 4) (v := .int x1_4) (C := "SignMachine$Source") (T := F_R) (N := 9) hx hb hk fi_R hown hK.1 hP 1 rfl rfl 4 (by decide) (hk _ k_542) (fun _ h9 => h9) rfl d_R_nextLine_77 ?_
            refine lv_iconst (v := 1) hx hb d_R_nextLine_80 (by decide) ?_
            refine lv_iadd hx hb d_R_nextLine_81 ?_
            refine lv_topi (fun v8 hv8 => ?_)
            refine va_put (D := D) (ci := 4) (v := .int v8) (ty := .int) (C := "SignMachine$Source") (T := F_R) (N := 9) hx hb hk fi_R ft_R ft_R_ok fn_R hown hK.1 hP hD hS 1 rfl rfl 5 (by decide) (hk _ k_543) (fun _ h9 => h9) rfl (by decide +kernel) rfl rfl (Nat.le_of_ble_eq_true rfl) d_R_nextLine_82 (fun H locs hP hD hS => ?_)
            have hP : va_P D classes (wS1 cI cJ cZ cB p0 p1 p2 p3 p4 p5 p6 p7 p8 p9 p10 p11 p12 p13 p14 p15 x0_3 x0_4 x0_5 x0_6 x0_7 x0_8 x0_9 x0_10 x0_12 x0_13 x0_14 x1_1 x1_2 x1_3 x1_4 v8 x1_6 x1_7 x1_8 y2 x3_5 x3_6 y4 y5 y6 y7 y8 x9_6 y10 y11 y12 y13 y14 y15) H := hP
            have hD : va_D A (wS1 cI cJ cZ cB p0 p1 p2 p3 p4 p5 p6 p7 p8 p9 p10 p11 p12 p13 p14 p15 x0_3 x0_4 x0_5 x0_6 x0_7 x0_8 x0_9 x0_10 x0_12 x0_13 x0_14 x1_1 x1_2 x1_3 x1_4 v8 x1_6 x1_7 x1_8 y2 x3_5 x3_6 y4 y5 y6 y7 y8 x9_6 y10 y11 y12 y13 y14 y15) := hD
            exact W.vret hx hb hr (fun t ht hW => ⟨⟨(), rfl, trivial, ⟨x1_2, x1_3, x1_4, v8, by show va_P D classes _ t.heap; rw [ht]; exact hP, hD⟩⟩, hS.F ht⟩) hS.2.2 d_R_nextLine_85
          · refine lv_aload_n hx hb d_R_nextLine_59 rfl (lv_at hl 1 rfl) ?_
            refine lv_dup hx hb d_R_nextLine_60 rfl ?_
            refine va_get (D := D) (ci := 4) (v := .int x1_4) (C := "SignMachine$Source") (T := F_R) (N := 9) hx hb hk fi_R hown hK.1 hP 1 rfl rfl 4 (by decide) (hk _ k_542) (fun _ h9 => h9) rfl d_R_nextLine_61 ?_
            refine lv_iconst (v := 1) hx hb d_R_nextLine_64 (by decide) ?_
            refine lv_iadd hx hb d_R_nextLine_65 ?_
            refine lv_topi (fun v9 hv9 => ?_)
            refine va_put (D := D) (ci := 4) (v := .int v9) (ty := .int) (C := "SignMachine$Source") (T := F_R) (N := 9) hx hb hk fi_R ft_R ft_R_ok fn_R hown hK.1 hP hD hS 1 rfl rfl 4 (by decide) (hk _ k_542) (fun _ h9 => h9) rfl (by decide +kernel) rfl rfl (Nat.le_of_ble_eq_true rfl) d_R_nextLine_66 (fun H locs hP hD hS => ?_)
            have hP : va_P D classes (wS1 cI cJ cZ cB p0 p1 p2 p3 p4 p5 p6 p7 p8 p9 p10 p11 p12 p13 p14 p15 x0_3 x0_4 x0_5 x0_6 x0_7 x0_8 x0_9 x0_10 x0_12 x0_13 x0_14 x1_1 x1_2 x1_3 v9 x1_5 x1_6 x1_7 x1_8 y2 x3_5 x3_6 y4 y5 y6 y7 y8 x9_6 y10 y11 y12 y13 y14 y15) H := hP
            have hD : va_D A (wS1 cI cJ cZ cB p0 p1 p2 p3 p4 p5 p6 p7 p8 p9 p10 p11 p12 p13 p14 p15 x0_3 x0_4 x0_5 x0_6 x0_7 x0_8 x0_9 x0_10 x0_12 x0_13 x0_14 x1_1 x1_2 x1_3 v9 x1_5 x1_6 x1_7 x1_8 y2 x3_5 x3_6 y4 y5 y6 y7 y8 x9_6 y10 y11 y12 y13 y14 y15) := hD
            obtain ⟨v10, hv10⟩ : ∃ y : Int32, y = (l1 + (1 : Int32)) := ⟨_, rfl⟩
            refine lv_iinc (v := v10) (lv' := [(1, .int v10), (0, .ref p1)]) hx hb d_R_nextLine_69 hl (k := 0) rfl (by rw [hv10]; rfl) (by decide) rfl (fun ls hl => ?_)
            refine lv_goto (tgt := 28) hx hb d_R_nextLine_72 (by decide) ?_
            exact ih v10 x1_2 x1_3 v9 x1_5 H _ ls (lpu c2 hv10 hn28_1) (lpn hc28_1 c2 hv10) hP hD hS (lv_sub hl [0, 1] rfl)
  exact LP28_1 _ (0 : Int32) v1 x1_5 x1_5 x1_5 H _ ls (Nat.lt_succ_self _) (by decide) hP hD hS hl
theorem v_R_nextLine_s1 {R : Room} {s : State} {args : Array Value} {own : String} {index : Nat} (hk : ∀ w ∈ tb, w.before args s = true) (hl : Cond.methodLink own index y_R_nextLine ∈ tb) (hR : 1 + 1 ≤ R.frames ∧ 8 + (2 + 11) + 21 ≤ R.locals) : CallW R s args own "SignMachine$Source" index y_R_nextLine b_R_nextLine 2 none (.code y_R_nextLine b_R_nextLine 2 none :: tb) ({ frames := 1, cells := 0, slots := 0, locals := 21 }) 0 0 0 := mk_v 0 hk k_730 hl k_728 k_729 k_124 rfl rfl h_R_nextLine hR

set_option maxHeartbeats 4000000 in
set_option maxRecDepth 100000 in
theorem c_A_takeHead_s1 (l : Launch) (K : CK) (D : va_G) (cI cJ cZ cB : ClassId) (p0 p1 p2 p3 p4 p5 p6 p7 p8 p9 p10 p11 p12 p13 p14 p15 : Nat) (sz : Nat) (x0_3 : Int32) (x0_4 : Int32) (x0_5 : Int32) (x0_6 : Int32) (x0_7 : Int32) (x0_8 : Bool) (x0_9 : Int64) (x0_10 : Int32) (x0_11 : Option (Fin 51)) (x0_12 : Int32) (x0_13 : Int32) (x0_14 : Int32) (x1_1 : Int32) (x1_2 : Int32) (x1_3 : Int32) (x1_4 : Int32) (x1_5 : Int32) (x1_6 : Int32) (x1_7 : Int64) (x1_8 : Int32) (y2 : Nat → Int32) (x3_5 : Int32) (x3_6 : Int32) (y4 : Nat → Int64) (y5 : Nat → Int32) (y6 : Nat → Int32) (y7 : Nat → Int32) (y8 : Nat → Int32) (x9_6 : Int32) (y10 : Nat → Int32) (y11 : Nat → Int32) (y12 : Nat → Int32) (y13 : Nat → Int32) (y14 : Nat → Int32) (y15 : Nat → Int32)   : Met l y_A_takeHead (.code y_A_takeHead b_A_takeHead 1 none :: tb) ({ frames := 7, cells := 0, slots := 0, locals := 161 }) (pMC K D cI cJ cZ cB (wS52 K cI cJ cZ cB p0 p1 p2 p3 p4 p5 p6 p7 p8 p9 p10 p11 p12 p13 p14 p15 x0_3 x0_4 x0_5 x0_6 x0_7 x0_8 x0_9 x0_10 x0_11 x0_12 x0_13 x0_14 x1_1 x1_2 x1_3 x1_4 x1_5 x1_6 x1_7 x1_8 y2 x3_5 x3_6 y4 y5 y6 y7 y8 x9_6 y10 y11 y12 y13 y14 y15) sz [.ref p0]) (va_Qv (fun (_ : Unit) => True) (fun _ t => (∃ u_x0_3 : Int32, ∃ u_x0_4 : Int32, ∃ u_x0_9 : Int64, ∃ u_x0_10 : Int32, ∃ u_x0_11 : Option (Fin 51), ∃ u_x0_12 : Int32, ∃ u_x1_2 : Int32, ∃ u_x1_3 : Int32, ∃ u_x1_4 : Int32, ∃ u_x1_5 : Int32, ∃ u_x1_6 : Int32, ∃ u_x1_7 : Int64, ∃ u_x1_8 : Int32, ∃ u_x3_5 : Int32, ∃ u_x3_6 : Int32, ∃ u_y4 : Nat → Int64, ∃ u_y5 : Nat → Int32, ∃ u_y6 : Nat → Int32, ∃ u_y13 : Nat → Int32, ∃ u_y14 : Nat → Int32, ∃ u_y15 : Nat → Int32, va_P D classes (wS52 K cI cJ cZ cB p0 p1 p2 p3 p4 p5 p6 p7 p8 p9 p10 p11 p12 p13 p14 p15 u_x0_3 u_x0_4 x0_5 x0_6 x0_7 x0_8 u_x0_9 u_x0_10 u_x0_11 u_x0_12 x0_13 x0_14 x1_1 u_x1_2 u_x1_3 u_x1_4 u_x1_5 u_x1_6 u_x1_7 u_x1_8 y2 u_x3_5 u_x3_6 u_y4 u_y5 u_y6 y7 y8 x9_6 y10 y11 y12 u_y13 u_y14 u_y15) t.heap ∧ va_D (va_A (wS52 K cI cJ cZ cB p0 p1 p2 p3 p4 p5 p6 p7 p8 p9 p10 p11 p12 p13 p14 p15 x0_3 x0_4 x0_5 x0_6 x0_7 x0_8 x0_9 x0_10 x0_11 x0_12 x0_13 x0_14 x1_1 x1_2 x1_3 x1_4 x1_5 x1_6 x1_7 x1_8 y2 x3_5 x3_6 y4 y5 y6 y7 y8 x9_6 y10 y11 y12 y13 y14 y15) sz) (wS52 K cI cJ cZ cB p0 p1 p2 p3 p4 p5 p6 p7 p8 p9 p10 p11 p12 p13 p14 p15 u_x0_3 u_x0_4 x0_5 x0_6 x0_7 x0_8 u_x0_9 u_x0_10 u_x0_11 u_x0_12 x0_13 x0_14 x1_1 u_x1_2 u_x1_3 u_x1_4 u_x1_5 u_x1_6 u_x1_7 u_x1_8 y2 u_x3_5 u_x3_6 u_y4 u_y5 u_y6 y7 y8 x9_6 y10 y11 y12 u_y13 u_y14 u_y15))) (va_A (wS52 K cI cJ cZ cB p0 p1 p2 p3 p4 p5 p6 p7 p8 p9 p10 p11 p12 p13 p14 p15 x0_3 x0_4 x0_5 x0_6 x0_7 x0_8 x0_9 x0_10 x0_11 x0_12 x0_13 x0_14 x1_1 x1_2 x1_3 x1_4 x1_5 x1_6 x1_7 x1_8 y2 x3_5 x3_6 y4 y5 y6 y7 y8 x9_6 y10 y11 y12 y13 y14 y15) sz)) 0 0 (va_A (wS52 K cI cJ cZ cB p0 p1 p2 p3 p4 p5 p6 p7 p8 p9 p10 p11 p12 p13 p14 p15 x0_3 x0_4 x0_5 x0_6 x0_7 x0_8 x0_9 x0_10 x0_11 x0_12 x0_13 x0_14 x1_1 x1_2 x1_3 x1_4 x1_5 x1_6 x1_7 x1_8 y2 x3_5 x3_6 y4 y5 y6 y7 y8 x9_6 y10 y11 y12 y13 y14 y15) sz) := by
  refine Met.ofW (cc := b_A_takeHead) (maxL := 1) (ret := none) (by decide) rfl ?_
  intro p e s m args below meth c s₁ B hml hv
  obtain ⟨rfl, hsz, hK, hP, hD0, hC⟩ := hv
  subst hsz
  have hD := hD0.self (sz := s.heap.size)
  generalize hAe : va_A (wS52 K cI cJ cZ cB p0 p1 p2 p3 p4 p5 p6 p7 p8 p9 p10 p11 p12 p13 p14 p15 x0_3 x0_4 x0_5 x0_6 x0_7 x0_8 x0_9 x0_10 x0_11 x0_12 x0_13 x0_14 x1_1 x1_2 x1_3 x1_4 x1_5 x1_6 x1_7 x1_8 y2 x3_5 x3_6 y4 y5 y6 y7 y8 x9_6 y10 y11 y12 y13 y14 y15) s.heap.size = A at hD hC ⊢
  have hA : ∀ q : Nat, s.heap.size ≤ q → A q := fun q h => by rw [← hAe]; exact Or.inr h
  clear hAe hD0
  have hS : va_S A s.heap s.heap [] := va_S.rf
  have hx := B.exec
  have hb := B.bytes
  have hr := B.returns
  have hts := atoms_spec (ws := .code y_A_takeHead b_A_takeHead 1 none :: tb) B.pre
  have hk : ∀ w ∈ tb, w.before [.ref p0].toArray s = true := fun w h => hts w (List.mem_cons_of_mem _ h)
  have hown : s.vm.findClass "SignMachine$Assembler" = some m.cls := findClass_of_methodNamed B.named
  have hlocks := B.notSynchronized
  have hl := lv_entry ([.ref p0]) (n := 1) (Nat.le_of_ble_eq_true rfl)
  rw [lg_entry_eq]
  generalize (lg_sl ([.ref p0]) ++ List.replicate (1 - (lg_sl ([.ref p0])).length) Slot.unset).toArray = ls at hl ⊢
  have hl : lv_has ls 1 [(0, .ref p0)] := hl
  refine lv_aload_n hx hb d_A_takeHead_0 rfl (lv_at hl 0 rfl) ?_
  refine lv_null hx hb d_A_takeHead_1 ?_
  refine va_put (D := D) (ci := 3) (v := .null) (ty := (.object "SignMachine$Op")) (C := "SignMachine$Assembler") (T := F_A) (N := 15) hx hb hk fi_A ft_A ft_A_ok fn_A hown hK.1 hP hD hS 0 rfl rfl 11 (by decide) (hk _ k_648) (fun _ h9 => h9) rfl (by decide +kernel) rfl rfl (Nat.le_of_ble_eq_true rfl) d_A_takeHead_2 (fun H locs hP hD hS => ?_)
  have hP : va_P D classes (wS52 K cI cJ cZ cB p0 p1 p2 p3 p4 p5 p6 p7 p8 p9 p10 p11 p12 p13 p14 p15 x0_3 x0_4 x0_5 x0_6 x0_7 x0_8 x0_9 x0_10 none x0_12 x0_13 x0_14 x1_1 x1_2 x1_3 x1_4 x1_5 x1_6 x1_7 x1_8 y2 x3_5 x3_6 y4 y5 y6 y7 y8 x9_6 y10 y11 y12 y13 y14 y15) H := hP
  have hD : va_D A (wS52 K cI cJ cZ cB p0 p1 p2 p3 p4 p5 p6 p7 p8 p9 p10 p11 p12 p13 p14 p15 x0_3 x0_4 x0_5 x0_6 x0_7 x0_8 x0_9 x0_10 none x0_12 x0_13 x0_14 x1_1 x1_2 x1_3 x1_4 x1_5 x1_6 x1_7 x1_8 y2 x3_5 x3_6 y4 y5 y6 y7 y8 x9_6 y10 y11 y12 y13 y14 y15) := hD
  refine lv_aload_n hx hb d_A_takeHead_5 rfl (lv_at hl 0 rfl) ?_
  refine lv_lconst (v := 0) hx hb d_A_takeHead_6 (by decide) ?_
  refine va_put (D := D) (ci := 3) (v := .long (0 : Int64)) (ty := .long) (C := "SignMachine$Assembler") (T := F_A) (N := 15) hx hb hk fi_A ft_A ft_A_ok fn_A hown hK.1 hP hD hS 0 rfl rfl 9 (by decide) (hk _ k_646) (fun _ h9 => h9) rfl (by decide +kernel) rfl rfl (Nat.le_of_ble_eq_true rfl) d_A_takeHead_7 (fun H locs hP hD hS => ?_)
  have hP : va_P D classes (wS52 K cI cJ cZ cB p0 p1 p2 p3 p4 p5 p6 p7 p8 p9 p10 p11 p12 p13 p14 p15 x0_3 x0_4 x0_5 x0_6 x0_7 x0_8 (0 : Int64) x0_10 none x0_12 x0_13 x0_14 x1_1 x1_2 x1_3 x1_4 x1_5 x1_6 x1_7 x1_8 y2 x3_5 x3_6 y4 y5 y6 y7 y8 x9_6 y10 y11 y12 y13 y14 y15) H := hP
  have hD : va_D A (wS52 K cI cJ cZ cB p0 p1 p2 p3 p4 p5 p6 p7 p8 p9 p10 p11 p12 p13 p14 p15 x0_3 x0_4 x0_5 x0_6 x0_7 x0_8 (0 : Int64) x0_10 none x0_12 x0_13 x0_14 x1_1 x1_2 x1_3 x1_4 x1_5 x1_6 x1_7 x1_8 y2 x3_5 x3_6 y4 y5 y6 y7 y8 x9_6 y10 y11 y12 y13 y14 y15) := hD
  refine lv_aload_n hx hb d_A_takeHead_10 rfl (lv_at hl 0 rfl) ?_
  refine va_get (D := D) (ci := 3) (v := .ref p1) (C := "SignMachine$Assembler") (T := F_A) (N := 15) hx hb hk fi_A hown hK.1 hP 0 rfl rfl 0 (by decide) (hk _ k_631) (fun _ h9 => h9) rfl d_A_takeHead_11 ?_
  refine kn_v (va_runV (C := "SignMachine$Source") (As := []) (rest := []) ⟨hx, hb, hml, hown, hk⟩ (c_R_nextLine_s1 l K D cI cJ cZ cB p0 p1 p2 p3 p4 p5 p6 p7 p8 p9 p10 p11 p12 p13 p14 p15 H.size x0_3 x0_4 x0_5 x0_6 x0_7 x0_8 (0 : Int64) x0_10 none x0_12 x0_13 x0_14 x1_1 x1_2 x1_3 x1_4 x1_5 x1_6 x1_7 x1_8 y2 x3_5 x3_6 y4 y5 y6 y7 y8 x9_6 y10 y11 y12 y13 y14 y15   ) (v_R_nextLine_s1 hk k_727 ⟨Nat.le_of_ble_eq_true rfl, Nat.le_of_ble_eq_true rfl⟩) (pMC_v hK hP hD hC hS hA (ci := 4) (q0 := 1) rfl rfl rfl) rfl rfl hl.1 rfl (lv_room (Nat.le_of_ble_eq_true rfl)) d_A_takeHead_14 ⟨by decide, by decide⟩) hS hA hD (fun u t H locs ht hB hFr hS => ?_)
  obtain ⟨x1_2z1, x1_3z1, x1_4z1, x1_5z1, hP, hD⟩ := hB
  rw [ht] at hP
  have hD := dwk hD hFr
  clear ht hFr
  have hP : va_P D classes (wS52 K cI cJ cZ cB p0 p1 p2 p3 p4 p5 p6 p7 p8 p9 p10 p11 p12 p13 p14 p15 x0_3 x0_4 x0_5 x0_6 x0_7 x0_8 (0 : Int64) x0_10 none x0_12 x0_13 x0_14 x1_1 x1_2z1 x1_3z1 x1_4z1 x1_5z1 x1_6 x1_7 x1_8 y2 x3_5 x3_6 y4 y5 y6 y7 y8 x9_6 y10 y11 y12 y13 y14 y15) H := hP
  have hD : va_D A (wS52 K cI cJ cZ cB p0 p1 p2 p3 p4 p5 p6 p7 p8 p9 p10 p11 p12 p13 p14 p15 x0_3 x0_4 x0_5 x0_6 x0_7 x0_8 (0 : Int64) x0_10 none x0_12 x0_13 x0_14 x1_1 x1_2z1 x1_3z1 x1_4z1 x1_5z1 x1_6 x1_7 x1_8 y2 x3_5 x3_6 y4 y5 y6 y7 y8 x9_6 y10 y11 y12 y13 y14 y15) := hD
  refine lv_aload_n hx hb d_A_takeHead_17 rfl (lv_at hl 0 rfl) ?_
  refine sn_i (va_runV (C := "SignMachine$Assembler") (As := []) (rest := []) ⟨hx, hb, hml, hown, hk⟩ (c_A_isNothing_s1 l K D cI cJ cZ cB p0 p1 p2 p3 p4 p5 p6 p7 p8 p9 p10 p11 p12 p13 p14 p15 H.size x0_3 x0_4 x0_5 x0_6 x0_7 x0_8 (0 : Int64) x0_10 none x0_12 x0_13 x0_14 x1_1 x1_2z1 x1_3z1 x1_4z1 x1_5z1 x1_6 x1_7 x1_8 y2 x3_5 x3_6 y4 y5 y6 y7 y8 x9_6 y10 y11 y12 y13 y14 y15   ) (v_A_isNothing_s1 hk k_735 ⟨Nat.le_of_ble_eq_true rfl, Nat.le_of_ble_eq_true rfl⟩) (pMC_v hK hP hD hC hS hA (ci := 3) (q0 := 0) rfl rfl rfl) rfl rfl hl.1 rfl (lv_room (Nat.le_of_ble_eq_true rfl)) d_A_takeHead_18 ⟨by decide, by decide⟩) hS hA hD (fun rz2 u t H locs hr0 ht hB hFr hS => ?_)
  obtain ⟨z2, hz2⟩ := hr0
  subst hz2
  obtain ⟨x1_3z2, hP, hD⟩ := hB
  rw [ht] at hP
  have hD := dwk hD hFr
  clear ht hFr
  have hP : va_P D classes (wS52 K cI cJ cZ cB p0 p1 p2 p3 p4 p5 p6 p7 p8 p9 p10 p11 p12 p13 p14 p15 x0_3 x0_4 x0_5 x0_6 x0_7 x0_8 (0 : Int64) x0_10 none x0_12 x0_13 x0_14 x1_1 x1_2z1 x1_3z2 x1_4z1 x1_5z1 x1_6 x1_7 x1_8 y2 x3_5 x3_6 y4 y5 y6 y7 y8 x9_6 y10 y11 y12 y13 y14 y15) H := hP
  have hD : va_D A (wS52 K cI cJ cZ cB p0 p1 p2 p3 p4 p5 p6 p7 p8 p9 p10 p11 p12 p13 p14 p15 x0_3 x0_4 x0_5 x0_6 x0_7 x0_8 (0 : Int64) x0_10 none x0_12 x0_13 x0_14 x1_1 x1_2z1 x1_3z2 x1_4z1 x1_5z1 x1_6 x1_7 x1_8 y2 x3_5 x3_6 y4 y5 y6 y7 y8 x9_6 y10 y11 y12 y13 y14 y15) := hD
  refine lv_if_eq (tgt := 25) hx hb d_A_takeHead_21 (by decide) (fun c3 => ?_) (fun c3 => ?_)
  · refine lv_aload_n hx hb d_A_takeHead_25 rfl (lv_at hl 0 rfl) ?_
    refine kn_v (va_runV (C := "SignMachine$Assembler") (As := []) (rest := []) ⟨hx, hb, hml, hown, hk⟩ (c_A_readLabel_s1 l K D cI cJ cZ cB p0 p1 p2 p3 p4 p5 p6 p7 p8 p9 p10 p11 p12 p13 p14 p15 H.size x0_3 x0_4 x0_5 x0_6 x0_7 x0_8 (0 : Int64) x0_10 none x0_12 x0_13 x0_14 x1_1 x1_2z1 x1_3z2 x1_4z1 x1_5z1 x1_6 x1_7 x1_8 y2 x3_5 x3_6 y4 y5 y6 y7 y8 x9_6 y10 y11 y12 y13 y14 y15   ) (v_A_readLabel_s1 hk k_748 ⟨Nat.le_of_ble_eq_true rfl, Nat.le_of_ble_eq_true rfl⟩) (pMC_v hK hP hD hC hS hA (ci := 3) (q0 := 0) rfl rfl rfl) rfl rfl hl.1 rfl (lv_room (Nat.le_of_ble_eq_true rfl)) d_A_takeHead_26 ⟨by decide, by decide⟩) hS hA hD (fun u t H locs ht hB hFr hS => ?_)
    obtain ⟨x0_3z4, x0_4z4, x0_9z4, x1_3z4, x1_6z4, x1_7z4, x1_8z4, hP, hD⟩ := hB
    rw [ht] at hP
    have hD := dwk hD hFr
    clear ht hFr
    have hP : va_P D classes (wS52 K cI cJ cZ cB p0 p1 p2 p3 p4 p5 p6 p7 p8 p9 p10 p11 p12 p13 p14 p15 x0_3z4 x0_4z4 x0_5 x0_6 x0_7 x0_8 x0_9z4 x0_10 none x0_12 x0_13 x0_14 x1_1 x1_2z1 x1_3z4 x1_4z1 x1_5z1 x1_6z4 x1_7z4 x1_8z4 y2 x3_5 x3_6 y4 y5 y6 y7 y8 x9_6 y10 y11 y12 y13 y14 y15) H := hP
    have hD : va_D A (wS52 K cI cJ cZ cB p0 p1 p2 p3 p4 p5 p6 p7 p8 p9 p10 p11 p12 p13 p14 p15 x0_3z4 x0_4z4 x0_5 x0_6 x0_7 x0_8 x0_9z4 x0_10 none x0_12 x0_13 x0_14 x1_1 x1_2z1 x1_3z4 x1_4z1 x1_5z1 x1_6z4 x1_7z4 x1_8z4 y2 x3_5 x3_6 y4 y5 y6 y7 y8 x9_6 y10 y11 y12 y13 y14 y15) := hD
    refine lv_aload_n hx hb d_A_takeHead_29 rfl (lv_at hl 0 rfl) ?_
    refine va_get (D := D) (ci := 3) (v := .ref p1) (C := "SignMachine$Assembler") (T := F_A) (N := 15) hx hb hk fi_A hown hK.1 hP 0 rfl rfl 0 (by decide) (hk _ k_631) (fun _ h9 => h9) rfl d_A_takeHead_30 ?_
    refine kn_v (va_runV (C := "SignMachine$Source") (As := []) (rest := []) ⟨hx, hb, hml, hown, hk⟩ (c_R_skipBlanks_s1 l K D cI cJ cZ cB p0 p1 p2 p3 p4 p5 p6 p7 p8 p9 p10 p11 p12 p13 p14 p15 H.size x0_3z4 x0_4z4 x0_5 x0_6 x0_7 x0_8 x0_9z4 x0_10 none x0_12 x0_13 x0_14 x1_1 x1_2z1 x1_3z4 x1_4z1 x1_5z1 x1_6z4 x1_7z4 x1_8z4 y2 x3_5 x3_6 y4 y5 y6 y7 y8 x9_6 y10 y11 y12 y13 y14 y15   ) (v_R_skipBlanks_s1 hk k_743 ⟨Nat.le_of_ble_eq_true rfl, Nat.le_of_ble_eq_true rfl⟩) (pMC_v hK hP hD hC hS hA (ci := 4) (q0 := 1) rfl rfl rfl) rfl rfl hl.1 rfl (lv_room (Nat.le_of_ble_eq_true rfl)) d_A_takeHead_33 ⟨by decide, by decide⟩) hS hA hD (fun u t H locs ht hB hFr hS => ?_)
    obtain ⟨x1_3z5, hP, hD⟩ := hB
    rw [ht] at hP
    have hD := dwk hD hFr
    clear ht hFr
    have hP : va_P D classes (wS52 K cI cJ cZ cB p0 p1 p2 p3 p4 p5 p6 p7 p8 p9 p10 p11 p12 p13 p14 p15 x0_3z4 x0_4z4 x0_5 x0_6 x0_7 x0_8 x0_9z4 x0_10 none x0_12 x0_13 x0_14 x1_1 x1_2z1 x1_3z5 x1_4z1 x1_5z1 x1_6z4 x1_7z4 x1_8z4 y2 x3_5 x3_6 y4 y5 y6 y7 y8 x9_6 y10 y11 y12 y13 y14 y15) H := hP
    have hD : va_D A (wS52 K cI cJ cZ cB p0 p1 p2 p3 p4 p5 p6 p7 p8 p9 p10 p11 p12 p13 p14 p15 x0_3z4 x0_4z4 x0_5 x0_6 x0_7 x0_8 x0_9z4 x0_10 none x0_12 x0_13 x0_14 x1_1 x1_2z1 x1_3z5 x1_4z1 x1_5z1 x1_6z4 x1_7z4 x1_8z4 y2 x3_5 x3_6 y4 y5 y6 y7 y8 x9_6 y10 y11 y12 y13 y14 y15) := hD
    refine lv_aload_n hx hb d_A_takeHead_36 rfl (lv_at hl 0 rfl) ?_
    refine va_get (D := D) (ci := 3) (v := .ref p1) (C := "SignMachine$Assembler") (T := F_A) (N := 15) hx hb hk fi_A hown hK.1 hP 0 rfl rfl 0 (by decide) (hk _ k_631) (fun _ h9 => h9) rfl d_A_takeHead_37 ?_
    refine sn_i (va_runV (C := "SignMachine$Source") (As := []) (rest := []) ⟨hx, hb, hml, hown, hk⟩ (c_R_peek_s1 l K D cI cJ cZ cB p0 p1 p2 p3 p4 p5 p6 p7 p8 p9 p10 p11 p12 p13 p14 p15 H.size x0_3z4 x0_4z4 x0_5 x0_6 x0_7 x0_8 x0_9z4 x0_10 none x0_12 x0_13 x0_14 x1_1 x1_2z1 x1_3z5 x1_4z1 x1_5z1 x1_6z4 x1_7z4 x1_8z4 y2 x3_5 x3_6 y4 y5 y6 y7 y8 x9_6 y10 y11 y12 y13 y14 y15   ) (v_R_peek_s1 hk k_739 ⟨Nat.le_of_ble_eq_true rfl, Nat.le_of_ble_eq_true rfl⟩) (pMC_v hK hP hD hC hS hA (ci := 4) (q0 := 1) rfl rfl rfl) rfl rfl hl.1 rfl (lv_room (Nat.le_of_ble_eq_true rfl)) d_A_takeHead_40 ⟨by decide, by decide⟩) hS hA hD (fun rz6 u t H locs hr0 ht hB hFr hS => ?_)
    obtain ⟨hP, hD⟩ := hB
    rw [ht] at hP
    have hD := dwk hD hFr
    clear ht hFr
    have hP : va_P D classes (wS52 K cI cJ cZ cB p0 p1 p2 p3 p4 p5 p6 p7 p8 p9 p10 p11 p12 p13 p14 p15 x0_3z4 x0_4z4 x0_5 x0_6 x0_7 x0_8 x0_9z4 x0_10 none x0_12 x0_13 x0_14 x1_1 x1_2z1 x1_3z5 x1_4z1 x1_5z1 x1_6z4 x1_7z4 x1_8z4 y2 x3_5 x3_6 y4 y5 y6 y7 y8 x9_6 y10 y11 y12 y13 y14 y15) H := hP
    have hD : va_D A (wS52 K cI cJ cZ cB p0 p1 p2 p3 p4 p5 p6 p7 p8 p9 p10 p11 p12 p13 p14 p15 x0_3z4 x0_4z4 x0_5 x0_6 x0_7 x0_8 x0_9z4 x0_10 none x0_12 x0_13 x0_14 x1_1 x1_2z1 x1_3z5 x1_4z1 x1_5z1 x1_6z4 x1_7z4 x1_8z4 y2 x3_5 x3_6 y4 y5 y6 y7 y8 x9_6 y10 y11 y12 y13 y14 y15) := hD
    refine lv_iconst (v := (-1)) hx hb d_A_takeHead_43 (by decide) ?_
    refine lv_icmp_ne (tgt := 53) hx hb d_A_takeHead_44 (by decide) (fun c7 => ?_) (fun c7 => ?_)
    · refine lv_aload_n hx hb d_A_takeHead_53 rfl (lv_at hl 0 rfl) ?_
      refine va_get (D := D) (ci := 3) (v := .int x0_3z4) (C := "SignMachine$Assembler") (T := F_A) (N := 15) hx hb hk fi_A hown hK.1 hP 0 rfl rfl 3 (by decide) (hk _ k_636) (fun _ h9 => h9) rfl d_A_takeHead_54 ?_
      refine lv_if_ne (tgt := 64) hx hb d_A_takeHead_57 (by decide) (fun c8 => ?_) (fun c8 => ?_)
      · refine lv_aload_n hx hb d_A_takeHead_64 rfl (lv_at hl 0 rfl) ?_
        refine va_get (D := D) (ci := 3) (v := .int x0_3z4) (C := "SignMachine$Assembler") (T := F_A) (N := 15) hx hb hk fi_A hown hK.1 hP 0 rfl rfl 3 (by decide) (hk _ k_636) (fun _ h9 => h9) rfl d_A_takeHead_65 ?_
        refine lv_if_ne (tgt := 89) hx hb d_A_takeHead_68 (by decide) (fun c9 => ?_) (fun c9 => absurd c9 (show ¬ x0_3z4 = (0 : Int32) from c8))
        exact W.vret hx hb hr (fun t ht hW => ⟨⟨(), rfl, trivial, ⟨x0_3z4, x0_4z4, x0_9z4, x0_10, none, x0_12, x1_2z1, x1_3z5, x1_4z1, x1_5z1, x1_6z4, x1_7z4, x1_8z4, x3_5, x3_6, y4, y5, y6, y13, y14, y15, by show va_P D classes _ t.heap; rw [ht]; exact hP, hD⟩⟩, hS.F ht⟩) hS.2.2 d_A_takeHead_89
      · refine lv_aload_n hx hb d_A_takeHead_60 rfl (lv_at hl 0 rfl) ?_
        refine kn_v (va_runV (C := "SignMachine$Assembler") (As := []) (rest := []) ⟨hx, hb, hml, hown, hk⟩ (c_A_readOp_s1 l K D cI cJ cZ cB p0 p1 p2 p3 p4 p5 p6 p7 p8 p9 p10 p11 p12 p13 p14 p15 H.size x0_3z4 x0_4z4 x0_5 x0_6 x0_7 x0_8 x0_9z4 x0_10 none x0_12 x0_13 x0_14 x1_1 x1_2z1 x1_3z5 x1_4z1 x1_5z1 x1_6z4 x1_7z4 x1_8z4 y2 x3_5 x3_6 y4 y5 y6 y7 y8 x9_6 y10 y11 y12 y13 y14 y15   ) (v_A_readOp_s1 hk k_777 ⟨Nat.le_of_ble_eq_true rfl, Nat.le_of_ble_eq_true rfl⟩) (pMC_v hK hP hD hC hS hA (ci := 3) (q0 := 0) rfl rfl rfl) rfl rfl hl.1 rfl (lv_room (Nat.le_of_ble_eq_true rfl)) d_A_takeHead_61 ⟨by decide, by decide⟩) hS hA hD (fun u t H locs ht hB hFr hS => ?_)
        obtain ⟨x0_3z10, x0_4z10, x0_11z10, x0_12z10, x1_3z10, hP, hD⟩ := hB
        rw [ht] at hP
        have hD := dwk hD hFr
        clear ht hFr
        have hP : va_P D classes (wS52 K cI cJ cZ cB p0 p1 p2 p3 p4 p5 p6 p7 p8 p9 p10 p11 p12 p13 p14 p15 x0_3z10 x0_4z10 x0_5 x0_6 x0_7 x0_8 x0_9z4 x0_10 x0_11z10 x0_12z10 x0_13 x0_14 x1_1 x1_2z1 x1_3z10 x1_4z1 x1_5z1 x1_6z4 x1_7z4 x1_8z4 y2 x3_5 x3_6 y4 y5 y6 y7 y8 x9_6 y10 y11 y12 y13 y14 y15) H := hP
        have hD : va_D A (wS52 K cI cJ cZ cB p0 p1 p2 p3 p4 p5 p6 p7 p8 p9 p10 p11 p12 p13 p14 p15 x0_3z10 x0_4z10 x0_5 x0_6 x0_7 x0_8 x0_9z4 x0_10 x0_11z10 x0_12z10 x0_13 x0_14 x1_1 x1_2z1 x1_3z10 x1_4z1 x1_5z1 x1_6z4 x1_7z4 x1_8z4 y2 x3_5 x3_6 y4 y5 y6 y7 y8 x9_6 y10 y11 y12 y13 y14 y15) := hD
        refine lv_aload_n hx hb d_A_takeHead_64 rfl (lv_at hl 0 rfl) ?_
        refine va_get (D := D) (ci := 3) (v := .int x0_3z10) (C := "SignMachine$Assembler") (T := F_A) (N := 15) hx hb hk fi_A hown hK.1 hP 0 rfl rfl 3 (by decide) (hk _ k_636) (fun _ h9 => h9) rfl d_A_takeHead_65 ?_
        refine lv_if_ne (tgt := 89) hx hb d_A_takeHead_68 (by decide) (fun c11 => ?_) (fun c11 => ?_)
        · exact W.vret hx hb hr (fun t ht hW => ⟨⟨(), rfl, trivial, ⟨x0_3z10, x0_4z10, x0_9z4, x0_10, x0_11z10, x0_12z10, x1_2z1, x1_3z10, x1_4z1, x1_5z1, x1_6z4, x1_7z4, x1_8z4, x3_5, x3_6, y4, y5, y6, y13, y14, y15, by show va_P D classes _ t.heap; rw [ht]; exact hP, hD⟩⟩, hS.F ht⟩) hS.2.2 d_A_takeHead_89
        · refine lv_aload_n hx hb d_A_takeHead_71 rfl (lv_at hl 0 rfl) ?_
          refine va_get (D := D) (ci := 3) (v := e_oA K x0_11z10) (C := "SignMachine$Assembler") (T := F_A) (N := 15) hx hb hk fi_A hown hK.1 hP 0 rfl rfl 11 (by decide) (hk _ k_648) (fun _ h9 => h9) rfl d_A_takeHead_72 ?_
          rcases x0_11z10 with _ | ⟨i12, hi12⟩
          · refine W.eq (g2 := F0 m 75 ls [.null]) rfl ?_
            refine va_gets hx hb (show va_Z "SignMachine$Op" "EQU" "LSignMachine$Op;" (.ref (e_ad K 46)) A s s.heap from (hC.1 46 (by decide)).1) hS hown (hk _ k_907) (fun _ h9 => h9) d_A_takeHead_75 ?_
            refine W.eq (g2 := F0 m 78 ls [va_rf (some ((e_ad K 46))), va_rf none]) rfl ?_
            refine lv_acmp_eq (tgt := 89) hx hb d_A_takeHead_78 (by decide) (fun c13 => ?_) (fun c13 => ?_)
            · exact W.vret hx hb hr (fun t ht hW => ⟨⟨(), rfl, trivial, ⟨x0_3z10, x0_4z10, x0_9z4, x0_10, none, x0_12z10, x1_2z1, x1_3z10, x1_4z1, x1_5z1, x1_6z4, x1_7z4, x1_8z4, x3_5, x3_6, y4, y5, y6, y13, y14, y15, by show va_P D classes _ t.heap; rw [ht]; exact hP, hD⟩⟩, hS.F ht⟩) hS.2.2 d_A_takeHead_89
            · refine lv_aload_n hx hb d_A_takeHead_81 rfl (lv_at hl 0 rfl) ?_
              refine lv_aload_n hx hb d_A_takeHead_82 rfl (lv_at hl 0 rfl) ?_
              refine va_get (D := D) (ci := 3) (v := .int x0_7) (C := "SignMachine$Assembler") (T := F_A) (N := 15) hx hb hk fi_A hown hK.1 hP 0 rfl rfl 7 (by decide) (hk _ k_644) (fun _ h9 => h9) rfl d_A_takeHead_83 ?_
              refine kn_v (va_runV (C := "SignMachine$Assembler") (As := [.int x0_7]) (rest := []) ⟨hx, hb, hml, hown, hk⟩ (c_A_tellLabel_s1 l K D cI cJ cZ cB p0 p1 p2 p3 p4 p5 p6 p7 p8 p9 p10 p11 p12 p13 p14 p15 H.size x0_3z10 x0_4z10 x0_5 x0_6 x0_7 x0_8 x0_9z4 x0_10 none x0_12z10 x0_13 x0_14 x1_1 x1_2z1 x1_3z10 x1_4z1 x1_5z1 x1_6z4 x1_7z4 x1_8z4 y2 x3_5 x3_6 y4 y5 y6 y7 y8 x9_6 y10 y11 y12 y13 y14 y15  x0_7 ) (v_A_tellLabel_s1 hk k_909 ⟨Nat.le_of_ble_eq_true rfl, Nat.le_of_ble_eq_true rfl⟩) (pMC_v hK hP hD hC hS hA (ci := 3) (q0 := 0) rfl rfl rfl) rfl rfl hl.1 rfl (lv_room (Nat.le_of_ble_eq_true rfl)) d_A_takeHead_86 ⟨by decide, by decide⟩) hS hA hD (fun u t H locs ht hB hFr hS => ?_)
              obtain ⟨x0_3z14, x0_4z14, x0_10z14, x3_5z14, x3_6z14, y4z14, y5z14, y6z14, y13z14, y14z14, y15z14, hP, hD⟩ := hB
              rw [ht] at hP
              have hD := dwk hD hFr
              clear ht hFr
              have hP : va_P D classes (wS52 K cI cJ cZ cB p0 p1 p2 p3 p4 p5 p6 p7 p8 p9 p10 p11 p12 p13 p14 p15 x0_3z14 x0_4z14 x0_5 x0_6 x0_7 x0_8 x0_9z4 x0_10z14 none x0_12z10 x0_13 x0_14 x1_1 x1_2z1 x1_3z10 x1_4z1 x1_5z1 x1_6z4 x1_7z4 x1_8z4 y2 x3_5z14 x3_6z14 y4z14 y5z14 y6z14 y7 y8 x9_6 y10 y11 y12 y13z14 y14z14 y15z14) H := hP
              have hD : va_D A (wS52 K cI cJ cZ cB p0 p1 p2 p3 p4 p5 p6 p7 p8 p9 p10 p11 p12 p13 p14 p15 x0_3z14 x0_4z14 x0_5 x0_6 x0_7 x0_8 x0_9z4 x0_10z14 none x0_12z10 x0_13 x0_14 x1_1 x1_2z1 x1_3z10 x1_4z1 x1_5z1 x1_6z4 x1_7z4 x1_8z4 y2 x3_5z14 x3_6z14 y4z14 y5z14 y6z14 y7 y8 x9_6 y10 y11 y12 y13z14 y14z14 y15z14) := hD
              exact W.vret hx hb hr (fun t ht hW => ⟨⟨(), rfl, trivial, ⟨x0_3z14, x0_4z14, x0_9z4, x0_10z14, none, x0_12z10, x1_2z1, x1_3z10, x1_4z1, x1_5z1, x1_6z4, x1_7z4, x1_8z4, x3_5z14, x3_6z14, y4z14, y5z14, y6z14, y13z14, y14z14, y15z14, by show va_P D classes _ t.heap; rw [ht]; exact hP, hD⟩⟩, hS.F ht⟩) hS.2.2 d_A_takeHead_89
          · refine W.eq (g2 := F0 m 75 ls [.ref (e_ad K i12)]) rfl ?_
            refine va_gets hx hb (show va_Z "SignMachine$Op" "EQU" "LSignMachine$Op;" (.ref (e_ad K 46)) A s s.heap from (hC.1 46 (by decide)).1) hS hown (hk _ k_907) (fun _ h9 => h9) d_A_takeHead_75 ?_
            refine W.eq (g2 := F0 m 78 ls [va_rf (some ((e_ad K 46))), va_rf (some ((e_ad K i12)))]) rfl ?_
            refine lv_acmp_eq (tgt := 89) hx hb d_A_takeHead_78 (by decide) (fun c15 => ?_) (fun c15 => ?_)
            · exact W.vret hx hb hr (fun t ht hW => ⟨⟨(), rfl, trivial, ⟨x0_3z10, x0_4z10, x0_9z4, x0_10, (some ⟨i12, hi12⟩), x0_12z10, x1_2z1, x1_3z10, x1_4z1, x1_5z1, x1_6z4, x1_7z4, x1_8z4, x3_5, x3_6, y4, y5, y6, y13, y14, y15, by show va_P D classes _ t.heap; rw [ht]; exact hP, hD⟩⟩, hS.F ht⟩) hS.2.2 d_A_takeHead_89
            · refine lv_aload_n hx hb d_A_takeHead_81 rfl (lv_at hl 0 rfl) ?_
              refine lv_aload_n hx hb d_A_takeHead_82 rfl (lv_at hl 0 rfl) ?_
              refine va_get (D := D) (ci := 3) (v := .int x0_7) (C := "SignMachine$Assembler") (T := F_A) (N := 15) hx hb hk fi_A hown hK.1 hP 0 rfl rfl 7 (by decide) (hk _ k_644) (fun _ h9 => h9) rfl d_A_takeHead_83 ?_
              refine kn_v (va_runV (C := "SignMachine$Assembler") (As := [.int x0_7]) (rest := []) ⟨hx, hb, hml, hown, hk⟩ (c_A_tellLabel_s1 l K D cI cJ cZ cB p0 p1 p2 p3 p4 p5 p6 p7 p8 p9 p10 p11 p12 p13 p14 p15 H.size x0_3z10 x0_4z10 x0_5 x0_6 x0_7 x0_8 x0_9z4 x0_10 (some ⟨i12, hi12⟩) x0_12z10 x0_13 x0_14 x1_1 x1_2z1 x1_3z10 x1_4z1 x1_5z1 x1_6z4 x1_7z4 x1_8z4 y2 x3_5 x3_6 y4 y5 y6 y7 y8 x9_6 y10 y11 y12 y13 y14 y15  x0_7 ) (v_A_tellLabel_s1 hk k_909 ⟨Nat.le_of_ble_eq_true rfl, Nat.le_of_ble_eq_true rfl⟩) (pMC_v hK hP hD hC hS hA (ci := 3) (q0 := 0) rfl rfl rfl) rfl rfl hl.1 rfl (lv_room (Nat.le_of_ble_eq_true rfl)) d_A_takeHead_86 ⟨by decide, by decide⟩) hS hA hD (fun u t H locs ht hB hFr hS => ?_)
              obtain ⟨x0_3z16, x0_4z16, x0_10z16, x3_5z16, x3_6z16, y4z16, y5z16, y6z16, y13z16, y14z16, y15z16, hP, hD⟩ := hB
              rw [ht] at hP
              have hD := dwk hD hFr
              clear ht hFr
              have hP : va_P D classes (wS52 K cI cJ cZ cB p0 p1 p2 p3 p4 p5 p6 p7 p8 p9 p10 p11 p12 p13 p14 p15 x0_3z16 x0_4z16 x0_5 x0_6 x0_7 x0_8 x0_9z4 x0_10z16 (some ⟨i12, hi12⟩) x0_12z10 x0_13 x0_14 x1_1 x1_2z1 x1_3z10 x1_4z1 x1_5z1 x1_6z4 x1_7z4 x1_8z4 y2 x3_5z16 x3_6z16 y4z16 y5z16 y6z16 y7 y8 x9_6 y10 y11 y12 y13z16 y14z16 y15z16) H := hP
              have hD : va_D A (wS52 K cI cJ cZ cB p0 p1 p2 p3 p4 p5 p6 p7 p8 p9 p10 p11 p12 p13 p14 p15 x0_3z16 x0_4z16 x0_5 x0_6 x0_7 x0_8 x0_9z4 x0_10z16 (some ⟨i12, hi12⟩) x0_12z10 x0_13 x0_14 x1_1 x1_2z1 x1_3z10 x1_4z1 x1_5z1 x1_6z4 x1_7z4 x1_8z4 y2 x3_5z16 x3_6z16 y4z16 y5z16 y6z16 y7 y8 x9_6 y10 y11 y12 y13z16 y14z16 y15z16) := hD
              exact W.vret hx hb hr (fun t ht hW => ⟨⟨(), rfl, trivial, ⟨x0_3z16, x0_4z16, x0_9z4, x0_10z16, (some ⟨i12, hi12⟩), x0_12z10, x1_2z1, x1_3z10, x1_4z1, x1_5z1, x1_6z4, x1_7z4, x1_8z4, x3_5z16, x3_6z16, y4z16, y5z16, y6z16, y13z16, y14z16, y15z16, by show va_P D classes _ t.heap; rw [ht]; exact hP, hD⟩⟩, hS.F ht⟩) hS.2.2 d_A_takeHead_89
    · refine lv_aload_n hx hb d_A_takeHead_47 rfl (lv_at hl 0 rfl) ?_
      refine lv_iconst (v := 1) hx hb d_A_takeHead_48 (by decide) ?_
      refine sn_i (va_runV (C := "SignMachine$Assembler") (As := [.int (1 : Int32)]) (rest := []) ⟨hx, hb, hml, hown, hk⟩ (c_A_fail_s1 l K D cI cJ cZ cB p0 p1 p2 p3 p4 p5 p6 p7 p8 p9 p10 p11 p12 p13 p14 p15 H.size x0_3z4 x0_4z4 x0_5 x0_6 x0_7 x0_8 x0_9z4 x0_10 none x0_12 x0_13 x0_14 x1_1 x1_2z1 x1_3z5 x1_4z1 x1_5z1 x1_6z4 x1_7z4 x1_8z4 y2 x3_5 x3_6 y4 y5 y6 y7 y8 x9_6 y10 y11 y12 y13 y14 y15  (1 : Int32) ) (v_A_fail_s1 hk k_767 ⟨Nat.le_of_ble_eq_true rfl, Nat.le_of_ble_eq_true rfl⟩) (pMC_v hK hP hD hC hS hA (ci := 3) (q0 := 0) rfl rfl rfl) rfl rfl hl.1 rfl (lv_room (Nat.le_of_ble_eq_true rfl)) d_A_takeHead_49 ⟨by decide, by decide⟩) hS hA hD (fun rz17 u t H locs hr0 ht hB hFr hS => ?_)
      obtain ⟨x0_3z17, x0_4z17, hP, hD⟩ := hB
      rw [ht] at hP
      have hD := dwk hD hFr
      clear ht hFr
      have hP : va_P D classes (wS52 K cI cJ cZ cB p0 p1 p2 p3 p4 p5 p6 p7 p8 p9 p10 p11 p12 p13 p14 p15 x0_3z17 x0_4z17 x0_5 x0_6 x0_7 x0_8 x0_9z4 x0_10 none x0_12 x0_13 x0_14 x1_1 x1_2z1 x1_3z5 x1_4z1 x1_5z1 x1_6z4 x1_7z4 x1_8z4 y2 x3_5 x3_6 y4 y5 y6 y7 y8 x9_6 y10 y11 y12 y13 y14 y15) H := hP
      have hD : va_D A (wS52 K cI cJ cZ cB p0 p1 p2 p3 p4 p5 p6 p7 p8 p9 p10 p11 p12 p13 p14 p15 x0_3z17 x0_4z17 x0_5 x0_6 x0_7 x0_8 x0_9z4 x0_10 none x0_12 x0_13 x0_14 x1_1 x1_2z1 x1_3z5 x1_4z1 x1_5z1 x1_6z4 x1_7z4 x1_8z4 y2 x3_5 x3_6 y4 y5 y6 y7 y8 x9_6 y10 y11 y12 y13 y14 y15) := hD
      refine lv_pop hx hb d_A_takeHead_52 rfl ?_
      refine lv_aload_n hx hb d_A_takeHead_53 rfl (lv_at hl 0 rfl) ?_
      refine va_get (D := D) (ci := 3) (v := .int x0_3z17) (C := "SignMachine$Assembler") (T := F_A) (N := 15) hx hb hk fi_A hown hK.1 hP 0 rfl rfl 3 (by decide) (hk _ k_636) (fun _ h9 => h9) rfl d_A_takeHead_54 ?_
      refine lv_if_ne (tgt := 64) hx hb d_A_takeHead_57 (by decide) (fun c18 => ?_) (fun c18 => ?_)
      · refine lv_aload_n hx hb d_A_takeHead_64 rfl (lv_at hl 0 rfl) ?_
        refine va_get (D := D) (ci := 3) (v := .int x0_3z17) (C := "SignMachine$Assembler") (T := F_A) (N := 15) hx hb hk fi_A hown hK.1 hP 0 rfl rfl 3 (by decide) (hk _ k_636) (fun _ h9 => h9) rfl d_A_takeHead_65 ?_
        refine lv_if_ne (tgt := 89) hx hb d_A_takeHead_68 (by decide) (fun c19 => ?_) (fun c19 => absurd c19 (show ¬ x0_3z17 = (0 : Int32) from c18))
        exact W.vret hx hb hr (fun t ht hW => ⟨⟨(), rfl, trivial, ⟨x0_3z17, x0_4z17, x0_9z4, x0_10, none, x0_12, x1_2z1, x1_3z5, x1_4z1, x1_5z1, x1_6z4, x1_7z4, x1_8z4, x3_5, x3_6, y4, y5, y6, y13, y14, y15, by show va_P D classes _ t.heap; rw [ht]; exact hP, hD⟩⟩, hS.F ht⟩) hS.2.2 d_A_takeHead_89
      · refine lv_aload_n hx hb d_A_takeHead_60 rfl (lv_at hl 0 rfl) ?_
        refine kn_v (va_runV (C := "SignMachine$Assembler") (As := []) (rest := []) ⟨hx, hb, hml, hown, hk⟩ (c_A_readOp_s1 l K D cI cJ cZ cB p0 p1 p2 p3 p4 p5 p6 p7 p8 p9 p10 p11 p12 p13 p14 p15 H.size x0_3z17 x0_4z17 x0_5 x0_6 x0_7 x0_8 x0_9z4 x0_10 none x0_12 x0_13 x0_14 x1_1 x1_2z1 x1_3z5 x1_4z1 x1_5z1 x1_6z4 x1_7z4 x1_8z4 y2 x3_5 x3_6 y4 y5 y6 y7 y8 x9_6 y10 y11 y12 y13 y14 y15   ) (v_A_readOp_s1 hk k_777 ⟨Nat.le_of_ble_eq_true rfl, Nat.le_of_ble_eq_true rfl⟩) (pMC_v hK hP hD hC hS hA (ci := 3) (q0 := 0) rfl rfl rfl) rfl rfl hl.1 rfl (lv_room (Nat.le_of_ble_eq_true rfl)) d_A_takeHead_61 ⟨by decide, by decide⟩) hS hA hD (fun u t H locs ht hB hFr hS => ?_)
        obtain ⟨x0_3z20, x0_4z20, x0_11z20, x0_12z20, x1_3z20, hP, hD⟩ := hB
        rw [ht] at hP
        have hD := dwk hD hFr
        clear ht hFr
        have hP : va_P D classes (wS52 K cI cJ cZ cB p0 p1 p2 p3 p4 p5 p6 p7 p8 p9 p10 p11 p12 p13 p14 p15 x0_3z20 x0_4z20 x0_5 x0_6 x0_7 x0_8 x0_9z4 x0_10 x0_11z20 x0_12z20 x0_13 x0_14 x1_1 x1_2z1 x1_3z20 x1_4z1 x1_5z1 x1_6z4 x1_7z4 x1_8z4 y2 x3_5 x3_6 y4 y5 y6 y7 y8 x9_6 y10 y11 y12 y13 y14 y15) H := hP
        have hD : va_D A (wS52 K cI cJ cZ cB p0 p1 p2 p3 p4 p5 p6 p7 p8 p9 p10 p11 p12 p13 p14 p15 x0_3z20 x0_4z20 x0_5 x0_6 x0_7 x0_8 x0_9z4 x0_10 x0_11z20 x0_12z20 x0_13 x0_14 x1_1 x1_2z1 x1_3z20 x1_4z1 x1_5z1 x1_6z4 x1_7z4 x1_8z4 y2 x3_5 x3_6 y4 y5 y6 y7 y8 x9_6 y10 y11 y12 y13 y14 y15) := hD
        refine lv_aload_n hx hb d_A_takeHead_64 rfl (lv_at hl 0 rfl) ?_
        refine va_get (D := D) (ci := 3) (v := .int x0_3z20) (C := "SignMachine$Assembler") (T := F_A) (N := 15) hx hb hk fi_A hown hK.1 hP 0 rfl rfl 3 (by decide) (hk _ k_636) (fun _ h9 => h9) rfl d_A_takeHead_65 ?_
        refine lv_if_ne (tgt := 89) hx hb d_A_takeHead_68 (by decide) (fun c21 => ?_) (fun c21 => ?_)
        · exact W.vret hx hb hr (fun t ht hW => ⟨⟨(), rfl, trivial, ⟨x0_3z20, x0_4z20, x0_9z4, x0_10, x0_11z20, x0_12z20, x1_2z1, x1_3z20, x1_4z1, x1_5z1, x1_6z4, x1_7z4, x1_8z4, x3_5, x3_6, y4, y5, y6, y13, y14, y15, by show va_P D classes _ t.heap; rw [ht]; exact hP, hD⟩⟩, hS.F ht⟩) hS.2.2 d_A_takeHead_89
        · refine lv_aload_n hx hb d_A_takeHead_71 rfl (lv_at hl 0 rfl) ?_
          refine va_get (D := D) (ci := 3) (v := e_oA K x0_11z20) (C := "SignMachine$Assembler") (T := F_A) (N := 15) hx hb hk fi_A hown hK.1 hP 0 rfl rfl 11 (by decide) (hk _ k_648) (fun _ h9 => h9) rfl d_A_takeHead_72 ?_
          rcases x0_11z20 with _ | ⟨i22, hi22⟩
          · refine W.eq (g2 := F0 m 75 ls [.null]) rfl ?_
            refine va_gets hx hb (show va_Z "SignMachine$Op" "EQU" "LSignMachine$Op;" (.ref (e_ad K 46)) A s s.heap from (hC.1 46 (by decide)).1) hS hown (hk _ k_907) (fun _ h9 => h9) d_A_takeHead_75 ?_
            refine W.eq (g2 := F0 m 78 ls [va_rf (some ((e_ad K 46))), va_rf none]) rfl ?_
            refine lv_acmp_eq (tgt := 89) hx hb d_A_takeHead_78 (by decide) (fun c23 => ?_) (fun c23 => ?_)
            · exact W.vret hx hb hr (fun t ht hW => ⟨⟨(), rfl, trivial, ⟨x0_3z20, x0_4z20, x0_9z4, x0_10, none, x0_12z20, x1_2z1, x1_3z20, x1_4z1, x1_5z1, x1_6z4, x1_7z4, x1_8z4, x3_5, x3_6, y4, y5, y6, y13, y14, y15, by show va_P D classes _ t.heap; rw [ht]; exact hP, hD⟩⟩, hS.F ht⟩) hS.2.2 d_A_takeHead_89
            · refine lv_aload_n hx hb d_A_takeHead_81 rfl (lv_at hl 0 rfl) ?_
              refine lv_aload_n hx hb d_A_takeHead_82 rfl (lv_at hl 0 rfl) ?_
              refine va_get (D := D) (ci := 3) (v := .int x0_7) (C := "SignMachine$Assembler") (T := F_A) (N := 15) hx hb hk fi_A hown hK.1 hP 0 rfl rfl 7 (by decide) (hk _ k_644) (fun _ h9 => h9) rfl d_A_takeHead_83 ?_
              refine kn_v (va_runV (C := "SignMachine$Assembler") (As := [.int x0_7]) (rest := []) ⟨hx, hb, hml, hown, hk⟩ (c_A_tellLabel_s1 l K D cI cJ cZ cB p0 p1 p2 p3 p4 p5 p6 p7 p8 p9 p10 p11 p12 p13 p14 p15 H.size x0_3z20 x0_4z20 x0_5 x0_6 x0_7 x0_8 x0_9z4 x0_10 none x0_12z20 x0_13 x0_14 x1_1 x1_2z1 x1_3z20 x1_4z1 x1_5z1 x1_6z4 x1_7z4 x1_8z4 y2 x3_5 x3_6 y4 y5 y6 y7 y8 x9_6 y10 y11 y12 y13 y14 y15  x0_7 ) (v_A_tellLabel_s1 hk k_909 ⟨Nat.le_of_ble_eq_true rfl, Nat.le_of_ble_eq_true rfl⟩) (pMC_v hK hP hD hC hS hA (ci := 3) (q0 := 0) rfl rfl rfl) rfl rfl hl.1 rfl (lv_room (Nat.le_of_ble_eq_true rfl)) d_A_takeHead_86 ⟨by decide, by decide⟩) hS hA hD (fun u t H locs ht hB hFr hS => ?_)
              obtain ⟨x0_3z24, x0_4z24, x0_10z24, x3_5z24, x3_6z24, y4z24, y5z24, y6z24, y13z24, y14z24, y15z24, hP, hD⟩ := hB
              rw [ht] at hP
              have hD := dwk hD hFr
              clear ht hFr
              have hP : va_P D classes (wS52 K cI cJ cZ cB p0 p1 p2 p3 p4 p5 p6 p7 p8 p9 p10 p11 p12 p13 p14 p15 x0_3z24 x0_4z24 x0_5 x0_6 x0_7 x0_8 x0_9z4 x0_10z24 none x0_12z20 x0_13 x0_14 x1_1 x1_2z1 x1_3z20 x1_4z1 x1_5z1 x1_6z4 x1_7z4 x1_8z4 y2 x3_5z24 x3_6z24 y4z24 y5z24 y6z24 y7 y8 x9_6 y10 y11 y12 y13z24 y14z24 y15z24) H := hP
              have hD : va_D A (wS52 K cI cJ cZ cB p0 p1 p2 p3 p4 p5 p6 p7 p8 p9 p10 p11 p12 p13 p14 p15 x0_3z24 x0_4z24 x0_5 x0_6 x0_7 x0_8 x0_9z4 x0_10z24 none x0_12z20 x0_13 x0_14 x1_1 x1_2z1 x1_3z20 x1_4z1 x1_5z1 x1_6z4 x1_7z4 x1_8z4 y2 x3_5z24 x3_6z24 y4z24 y5z24 y6z24 y7 y8 x9_6 y10 y11 y12 y13z24 y14z24 y15z24) := hD
              exact W.vret hx hb hr (fun t ht hW => ⟨⟨(), rfl, trivial, ⟨x0_3z24, x0_4z24, x0_9z4, x0_10z24, none, x0_12z20, x1_2z1, x1_3z20, x1_4z1, x1_5z1, x1_6z4, x1_7z4, x1_8z4, x3_5z24, x3_6z24, y4z24, y5z24, y6z24, y13z24, y14z24, y15z24, by show va_P D classes _ t.heap; rw [ht]; exact hP, hD⟩⟩, hS.F ht⟩) hS.2.2 d_A_takeHead_89
          · refine W.eq (g2 := F0 m 75 ls [.ref (e_ad K i22)]) rfl ?_
            refine va_gets hx hb (show va_Z "SignMachine$Op" "EQU" "LSignMachine$Op;" (.ref (e_ad K 46)) A s s.heap from (hC.1 46 (by decide)).1) hS hown (hk _ k_907) (fun _ h9 => h9) d_A_takeHead_75 ?_
            refine W.eq (g2 := F0 m 78 ls [va_rf (some ((e_ad K 46))), va_rf (some ((e_ad K i22)))]) rfl ?_
            refine lv_acmp_eq (tgt := 89) hx hb d_A_takeHead_78 (by decide) (fun c25 => ?_) (fun c25 => ?_)
            · exact W.vret hx hb hr (fun t ht hW => ⟨⟨(), rfl, trivial, ⟨x0_3z20, x0_4z20, x0_9z4, x0_10, (some ⟨i22, hi22⟩), x0_12z20, x1_2z1, x1_3z20, x1_4z1, x1_5z1, x1_6z4, x1_7z4, x1_8z4, x3_5, x3_6, y4, y5, y6, y13, y14, y15, by show va_P D classes _ t.heap; rw [ht]; exact hP, hD⟩⟩, hS.F ht⟩) hS.2.2 d_A_takeHead_89
            · refine lv_aload_n hx hb d_A_takeHead_81 rfl (lv_at hl 0 rfl) ?_
              refine lv_aload_n hx hb d_A_takeHead_82 rfl (lv_at hl 0 rfl) ?_
              refine va_get (D := D) (ci := 3) (v := .int x0_7) (C := "SignMachine$Assembler") (T := F_A) (N := 15) hx hb hk fi_A hown hK.1 hP 0 rfl rfl 7 (by decide) (hk _ k_644) (fun _ h9 => h9) rfl d_A_takeHead_83 ?_
              refine kn_v (va_runV (C := "SignMachine$Assembler") (As := [.int x0_7]) (rest := []) ⟨hx, hb, hml, hown, hk⟩ (c_A_tellLabel_s1 l K D cI cJ cZ cB p0 p1 p2 p3 p4 p5 p6 p7 p8 p9 p10 p11 p12 p13 p14 p15 H.size x0_3z20 x0_4z20 x0_5 x0_6 x0_7 x0_8 x0_9z4 x0_10 (some ⟨i22, hi22⟩) x0_12z20 x0_13 x0_14 x1_1 x1_2z1 x1_3z20 x1_4z1 x1_5z1 x1_6z4 x1_7z4 x1_8z4 y2 x3_5 x3_6 y4 y5 y6 y7 y8 x9_6 y10 y11 y12 y13 y14 y15  x0_7 ) (v_A_tellLabel_s1 hk k_909 ⟨Nat.le_of_ble_eq_true rfl, Nat.le_of_ble_eq_true rfl⟩) (pMC_v hK hP hD hC hS hA (ci := 3) (q0 := 0) rfl rfl rfl) rfl rfl hl.1 rfl (lv_room (Nat.le_of_ble_eq_true rfl)) d_A_takeHead_86 ⟨by decide, by decide⟩) hS hA hD (fun u t H locs ht hB hFr hS => ?_)
              obtain ⟨x0_3z26, x0_4z26, x0_10z26, x3_5z26, x3_6z26, y4z26, y5z26, y6z26, y13z26, y14z26, y15z26, hP, hD⟩ := hB
              rw [ht] at hP
              have hD := dwk hD hFr
              clear ht hFr
              have hP : va_P D classes (wS52 K cI cJ cZ cB p0 p1 p2 p3 p4 p5 p6 p7 p8 p9 p10 p11 p12 p13 p14 p15 x0_3z26 x0_4z26 x0_5 x0_6 x0_7 x0_8 x0_9z4 x0_10z26 (some ⟨i22, hi22⟩) x0_12z20 x0_13 x0_14 x1_1 x1_2z1 x1_3z20 x1_4z1 x1_5z1 x1_6z4 x1_7z4 x1_8z4 y2 x3_5z26 x3_6z26 y4z26 y5z26 y6z26 y7 y8 x9_6 y10 y11 y12 y13z26 y14z26 y15z26) H := hP
              have hD : va_D A (wS52 K cI cJ cZ cB p0 p1 p2 p3 p4 p5 p6 p7 p8 p9 p10 p11 p12 p13 p14 p15 x0_3z26 x0_4z26 x0_5 x0_6 x0_7 x0_8 x0_9z4 x0_10z26 (some ⟨i22, hi22⟩) x0_12z20 x0_13 x0_14 x1_1 x1_2z1 x1_3z20 x1_4z1 x1_5z1 x1_6z4 x1_7z4 x1_8z4 y2 x3_5z26 x3_6z26 y4z26 y5z26 y6z26 y7 y8 x9_6 y10 y11 y12 y13z26 y14z26 y15z26) := hD
              exact W.vret hx hb hr (fun t ht hW => ⟨⟨(), rfl, trivial, ⟨x0_3z26, x0_4z26, x0_9z4, x0_10z26, (some ⟨i22, hi22⟩), x0_12z20, x1_2z1, x1_3z20, x1_4z1, x1_5z1, x1_6z4, x1_7z4, x1_8z4, x3_5z26, x3_6z26, y4z26, y5z26, y6z26, y13z26, y14z26, y15z26, by show va_P D classes _ t.heap; rw [ht]; exact hP, hD⟩⟩, hS.F ht⟩) hS.2.2 d_A_takeHead_89
  · exact W.vret hx hb hr (fun t ht hW => ⟨⟨(), rfl, trivial, ⟨x0_3, x0_4, (0 : Int64), x0_10, none, x0_12, x1_2z1, x1_3z2, x1_4z1, x1_5z1, x1_6, x1_7, x1_8, x3_5, x3_6, y4, y5, y6, y13, y14, y15, by show va_P D classes _ t.heap; rw [ht]; exact hP, hD⟩⟩, hS.F ht⟩) hS.2.2 d_A_takeHead_24
theorem v_A_takeHead_s1 {R : Room} {s : State} {args : Array Value} {own : String} {index : Nat} (hk : ∀ w ∈ tb, w.before args s = true) (hl : Cond.methodLink own index y_A_takeHead ∈ tb) (hR : 7 + 1 ≤ R.frames ∧ 8 + (1 + 11) + 161 ≤ R.locals) : CallW R s args own "SignMachine$Assembler" index y_A_takeHead b_A_takeHead 1 none (.code y_A_takeHead b_A_takeHead 1 none :: tb) ({ frames := 7, cells := 0, slots := 0, locals := 161 }) 0 0 0 := mk_v 0 hk k_726 hl k_724 k_725 k_123 rfl rfl h_A_takeHead hR
set_option maxHeartbeats 4000000 in
set_option maxRecDepth 100000 in
theorem c_R_skip_s1 (l : Launch) (K : CK) (D : va_G) (cI cJ cZ cB : ClassId) (p0 p1 p2 p3 p4 p5 p6 p7 p8 p9 p10 p11 p12 p13 p14 p15 : Nat) (sz : Nat) (x0_3 : Int32) (x0_4 : Int32) (x0_5 : Int32) (x0_6 : Int32) (x0_7 : Int32) (x0_8 : Bool) (x0_9 : Int64) (x0_10 : Int32) (x0_11 : Option (Fin 51)) (x0_12 : Int32) (x0_13 : Int32) (x0_14 : Int32) (x1_1 : Int32) (x1_2 : Int32) (x1_3 : Int32) (x1_4 : Int32) (x1_5 : Int32) (x1_6 : Int32) (x1_7 : Int64) (x1_8 : Int32) (y2 : Nat → Int32) (x3_5 : Int32) (x3_6 : Int32) (y4 : Nat → Int64) (y5 : Nat → Int32) (y6 : Nat → Int32) (y7 : Nat → Int32) (y8 : Nat → Int32) (x9_6 : Int32) (y10 : Nat → Int32) (y11 : Nat → Int32) (y12 : Nat → Int32) (y13 : Nat → Int32) (y14 : Nat → Int32) (y15 : Nat → Int32)   : Met l y_R_skip (.code y_R_skip b_R_skip 1 none :: tb) ({ frames := 0, cells := 0, slots := 0, locals := 0 }) (pMC K D cI cJ cZ cB (wS52 K cI cJ cZ cB p0 p1 p2 p3 p4 p5 p6 p7 p8 p9 p10 p11 p12 p13 p14 p15 x0_3 x0_4 x0_5 x0_6 x0_7 x0_8 x0_9 x0_10 x0_11 x0_12 x0_13 x0_14 x1_1 x1_2 x1_3 x1_4 x1_5 x1_6 x1_7 x1_8 y2 x3_5 x3_6 y4 y5 y6 y7 y8 x9_6 y10 y11 y12 y13 y14 y15) sz [.ref p1]) (va_Qv (fun (_ : Unit) => True) (fun _ t => (∃ u_x1_3 : Int32, va_P D classes (wS52 K cI cJ cZ cB p0 p1 p2 p3 p4 p5 p6 p7 p8 p9 p10 p11 p12 p13 p14 p15 x0_3 x0_4 x0_5 x0_6 x0_7 x0_8 x0_9 x0_10 x0_11 x0_12 x0_13 x0_14 x1_1 x1_2 u_x1_3 x1_4 x1_5 x1_6 x1_7 x1_8 y2 x3_5 x3_6 y4 y5 y6 y7 y8 x9_6 y10 y11 y12 y13 y14 y15) t.heap ∧ va_D (va_A (wS52 K cI cJ cZ cB p0 p1 p2 p3 p4 p5 p6 p7 p8 p9 p10 p11 p12 p13 p14 p15 x0_3 x0_4 x0_5 x0_6 x0_7 x0_8 x0_9 x0_10 x0_11 x0_12 x0_13 x0_14 x1_1 x1_2 x1_3 x1_4 x1_5 x1_6 x1_7 x1_8 y2 x3_5 x3_6 y4 y5 y6 y7 y8 x9_6 y10 y11 y12 y13 y14 y15) sz) (wS52 K cI cJ cZ cB p0 p1 p2 p3 p4 p5 p6 p7 p8 p9 p10 p11 p12 p13 p14 p15 x0_3 x0_4 x0_5 x0_6 x0_7 x0_8 x0_9 x0_10 x0_11 x0_12 x0_13 x0_14 x1_1 x1_2 u_x1_3 x1_4 x1_5 x1_6 x1_7 x1_8 y2 x3_5 x3_6 y4 y5 y6 y7 y8 x9_6 y10 y11 y12 y13 y14 y15))) (va_A (wS52 K cI cJ cZ cB p0 p1 p2 p3 p4 p5 p6 p7 p8 p9 p10 p11 p12 p13 p14 p15 x0_3 x0_4 x0_5 x0_6 x0_7 x0_8 x0_9 x0_10 x0_11 x0_12 x0_13 x0_14 x1_1 x1_2 x1_3 x1_4 x1_5 x1_6 x1_7 x1_8 y2 x3_5 x3_6 y4 y5 y6 y7 y8 x9_6 y10 y11 y12 y13 y14 y15) sz)) 0 0 (va_A (wS52 K cI cJ cZ cB p0 p1 p2 p3 p4 p5 p6 p7 p8 p9 p10 p11 p12 p13 p14 p15 x0_3 x0_4 x0_5 x0_6 x0_7 x0_8 x0_9 x0_10 x0_11 x0_12 x0_13 x0_14 x1_1 x1_2 x1_3 x1_4 x1_5 x1_6 x1_7 x1_8 y2 x3_5 x3_6 y4 y5 y6 y7 y8 x9_6 y10 y11 y12 y13 y14 y15) sz) := by
  refine Met.ofW (cc := b_R_skip) (maxL := 1) (ret := none) (by decide) rfl ?_
  intro p e s m args below meth c s₁ B hml hv
  obtain ⟨rfl, hsz, hK, hP, hD0, hC⟩ := hv
  subst hsz
  have hD := hD0.self (sz := s.heap.size)
  generalize hAe : va_A (wS52 K cI cJ cZ cB p0 p1 p2 p3 p4 p5 p6 p7 p8 p9 p10 p11 p12 p13 p14 p15 x0_3 x0_4 x0_5 x0_6 x0_7 x0_8 x0_9 x0_10 x0_11 x0_12 x0_13 x0_14 x1_1 x1_2 x1_3 x1_4 x1_5 x1_6 x1_7 x1_8 y2 x3_5 x3_6 y4 y5 y6 y7 y8 x9_6 y10 y11 y12 y13 y14 y15) s.heap.size = A at hD hC ⊢
  have hA : ∀ q : Nat, s.heap.size ≤ q → A q := fun q h => by rw [← hAe]; exact Or.inr h
  clear hAe hD0
  have hS : va_S A s.heap s.heap [] := va_S.rf
  have hx := B.exec
  have hb := B.bytes
  have hr := B.returns
  have hts := atoms_spec (ws := .code y_R_skip b_R_skip 1 none :: tb) B.pre
  have hk : ∀ w ∈ tb, w.before [.ref p1].toArray s = true := fun w h => hts w (List.mem_cons_of_mem _ h)
  have hown : s.vm.findClass "SignMachine$Source" = some m.cls := findClass_of_methodNamed B.named
  have hlocks := B.notSynchronized
  have hl := lv_entry ([.ref p1]) (n := 1) (Nat.le_of_ble_eq_true rfl)
  rw [lg_entry_eq]
  generalize (lg_sl ([.ref p1]) ++ List.replicate (1 - (lg_sl ([.ref p1])).length) Slot.unset).toArray = ls at hl ⊢
  have hl : lv_has ls 1 [(0, .ref p1)] := hl
  refine lv_aload_n hx hb d_R_skip_0 rfl (lv_at hl 0 rfl) ?_
  refine lv_dup hx hb d_R_skip_1 rfl ?_
  refine va_get (D := D) (ci := 4) (v := .int x1_3) (C := "SignMachine$Source") (T := F_R) (N := 9) hx hb hk fi_R hown hK.1 hP 1 rfl rfl 3 (by decide) (hk _ k_540) (fun _ h9 => h9) rfl d_R_skip_2 ?_
  refine lv_iconst (v := 1) hx hb d_R_skip_5 (by decide) ?_
  refine lv_iadd hx hb d_R_skip_6 ?_
  refine lv_topi (fun v1 hv1 => ?_)
  refine va_put (D := D) (ci := 4) (v := .int v1) (ty := .int) (C := "SignMachine$Source") (T := F_R) (N := 9) hx hb hk fi_R ft_R ft_R_ok fn_R hown hK.1 hP hD hS 1 rfl rfl 3 (by decide) (hk _ k_540) (fun _ h9 => h9) rfl (by decide +kernel) rfl rfl (Nat.le_of_ble_eq_true rfl) d_R_skip_7 (fun H locs hP hD hS => ?_)
  have hP : va_P D classes (wS52 K cI cJ cZ cB p0 p1 p2 p3 p4 p5 p6 p7 p8 p9 p10 p11 p12 p13 p14 p15 x0_3 x0_4 x0_5 x0_6 x0_7 x0_8 x0_9 x0_10 x0_11 x0_12 x0_13 x0_14 x1_1 x1_2 v1 x1_4 x1_5 x1_6 x1_7 x1_8 y2 x3_5 x3_6 y4 y5 y6 y7 y8 x9_6 y10 y11 y12 y13 y14 y15) H := hP
  have hD : va_D A (wS52 K cI cJ cZ cB p0 p1 p2 p3 p4 p5 p6 p7 p8 p9 p10 p11 p12 p13 p14 p15 x0_3 x0_4 x0_5 x0_6 x0_7 x0_8 x0_9 x0_10 x0_11 x0_12 x0_13 x0_14 x1_1 x1_2 v1 x1_4 x1_5 x1_6 x1_7 x1_8 y2 x3_5 x3_6 y4 y5 y6 y7 y8 x9_6 y10 y11 y12 y13 y14 y15) := hD
  exact W.vret hx hb hr (fun t ht hW => ⟨⟨(), rfl, trivial, ⟨v1, by show va_P D classes _ t.heap; rw [ht]; exact hP, hD⟩⟩, hS.F ht⟩) hS.2.2 d_R_skip_10
theorem v_R_skip_s1 {R : Room} {s : State} {args : Array Value} {own : String} {index : Nat} (hk : ∀ w ∈ tb, w.before args s = true) (hl : Cond.methodLink own index y_R_skip ∈ tb) (hR : 0 + 1 ≤ R.frames ∧ 8 + (1 + 11) + 0 ≤ R.locals) : CallW R s args own "SignMachine$Source" index y_R_skip b_R_skip 1 none (.code y_R_skip b_R_skip 1 none :: tb) ({ frames := 0, cells := 0, slots := 0, locals := 0 }) 0 0 0 := mk_v 0 hk k_963 hl k_961 k_962 k_124 rfl rfl h_R_skip hR
set_option maxHeartbeats 4000000 in
set_option maxRecDepth 100000 in
theorem c_N_isLocalTold_s1 (l : Launch) (K : CK) (D : va_G) (cI cJ cZ cB : ClassId) (p0 p1 p2 p3 p4 p5 p6 p7 p8 p9 p10 p11 p12 p13 p14 p15 : Nat) (sz : Nat) (x0_3 : Int32) (x0_4 : Int32) (x0_5 : Int32) (x0_6 : Int32) (x0_7 : Int32) (x0_8 : Bool) (x0_9 : Int64) (x0_10 : Int32) (x0_11 : Option (Fin 51)) (x0_12 : Int32) (x0_13 : Int32) (x0_14 : Int32) (x1_1 : Int32) (x1_2 : Int32) (x1_3 : Int32) (x1_4 : Int32) (x1_5 : Int32) (x1_6 : Int32) (x1_7 : Int64) (x1_8 : Int32) (y2 : Nat → Int32) (x3_5 : Int32) (x3_6 : Int32) (y4 : Nat → Int64) (y5 : Nat → Int32) (y6 : Nat → Int32) (y7 : Nat → Int32) (y8 : Nat → Int32) (x9_6 : Int32) (y10 : Nat → Int32) (y11 : Nat → Int32) (y12 : Nat → Int32) (y13 : Nat → Int32) (y14 : Nat → Int32) (y15 : Nat → Int32)  (a1 : Int32) : Met l y_N_isLocalTold (.code y_N_isLocalTold b_N_isLocalTold 2 (some .boolean) :: tb) ({ frames := 0, cells := 0, slots := 0, locals := 0 }) (pMC K D cI cJ cZ cB (wS52 K cI cJ cZ cB p0 p1 p2 p3 p4 p5 p6 p7 p8 p9 p10 p11 p12 p13 p14 p15 x0_3 x0_4 x0_5 x0_6 x0_7 x0_8 x0_9 x0_10 x0_11 x0_12 x0_13 x0_14 x1_1 x1_2 x1_3 x1_4 x1_5 x1_6 x1_7 x1_8 y2 x3_5 x3_6 y4 y5 y6 y7 y8 x9_6 y10 y11 y12 y13 y14 y15) sz [.ref p3, .int a1]) (va_Qi (fun r (_ : Unit) => ∃ z : Bool, r = bI z) (fun _ t => (va_P D classes (wS52 K cI cJ cZ cB p0 p1 p2 p3 p4 p5 p6 p7 p8 p9 p10 p11 p12 p13 p14 p15 x0_3 x0_4 x0_5 x0_6 x0_7 x0_8 x0_9 x0_10 x0_11 x0_12 x0_13 x0_14 x1_1 x1_2 x1_3 x1_4 x1_5 x1_6 x1_7 x1_8 y2 x3_5 x3_6 y4 y5 y6 y7 y8 x9_6 y10 y11 y12 y13 y14 y15) t.heap ∧ va_D (va_A (wS52 K cI cJ cZ cB p0 p1 p2 p3 p4 p5 p6 p7 p8 p9 p10 p11 p12 p13 p14 p15 x0_3 x0_4 x0_5 x0_6 x0_7 x0_8 x0_9 x0_10 x0_11 x0_12 x0_13 x0_14 x1_1 x1_2 x1_3 x1_4 x1_5 x1_6 x1_7 x1_8 y2 x3_5 x3_6 y4 y5 y6 y7 y8 x9_6 y10 y11 y12 y13 y14 y15) sz) (wS52 K cI cJ cZ cB p0 p1 p2 p3 p4 p5 p6 p7 p8 p9 p10 p11 p12 p13 p14 p15 x0_3 x0_4 x0_5 x0_6 x0_7 x0_8 x0_9 x0_10 x0_11 x0_12 x0_13 x0_14 x1_1 x1_2 x1_3 x1_4 x1_5 x1_6 x1_7 x1_8 y2 x3_5 x3_6 y4 y5 y6 y7 y8 x9_6 y10 y11 y12 y13 y14 y15))) (va_A (wS52 K cI cJ cZ cB p0 p1 p2 p3 p4 p5 p6 p7 p8 p9 p10 p11 p12 p13 p14 p15 x0_3 x0_4 x0_5 x0_6 x0_7 x0_8 x0_9 x0_10 x0_11 x0_12 x0_13 x0_14 x1_1 x1_2 x1_3 x1_4 x1_5 x1_6 x1_7 x1_8 y2 x3_5 x3_6 y4 y5 y6 y7 y8 x9_6 y10 y11 y12 y13 y14 y15) sz)) 0 0 (va_A (wS52 K cI cJ cZ cB p0 p1 p2 p3 p4 p5 p6 p7 p8 p9 p10 p11 p12 p13 p14 p15 x0_3 x0_4 x0_5 x0_6 x0_7 x0_8 x0_9 x0_10 x0_11 x0_12 x0_13 x0_14 x1_1 x1_2 x1_3 x1_4 x1_5 x1_6 x1_7 x1_8 y2 x3_5 x3_6 y4 y5 y6 y7 y8 x9_6 y10 y11 y12 y13 y14 y15) sz) := by
  refine Met.ofW (cc := b_N_isLocalTold) (maxL := 2) (ret := (some .boolean)) (by decide) rfl ?_
  intro p e s m args below meth c s₁ B hml hv
  obtain ⟨rfl, hsz, hK, hP, hD0, hC⟩ := hv
  subst hsz
  have hD := hD0.self (sz := s.heap.size)
  generalize hAe : va_A (wS52 K cI cJ cZ cB p0 p1 p2 p3 p4 p5 p6 p7 p8 p9 p10 p11 p12 p13 p14 p15 x0_3 x0_4 x0_5 x0_6 x0_7 x0_8 x0_9 x0_10 x0_11 x0_12 x0_13 x0_14 x1_1 x1_2 x1_3 x1_4 x1_5 x1_6 x1_7 x1_8 y2 x3_5 x3_6 y4 y5 y6 y7 y8 x9_6 y10 y11 y12 y13 y14 y15) s.heap.size = A at hD hC ⊢
  have hA : ∀ q : Nat, s.heap.size ≤ q → A q := fun q h => by rw [← hAe]; exact Or.inr h
  clear hAe hD0
  have hS : va_S A s.heap s.heap [] := va_S.rf
  have hx := B.exec
  have hb := B.bytes
  have hr := B.returns
  have hts := atoms_spec (ws := .code y_N_isLocalTold b_N_isLocalTold 2 (some .boolean) :: tb) B.pre
  have hk : ∀ w ∈ tb, w.before [.ref p3, .int a1].toArray s = true := fun w h => hts w (List.mem_cons_of_mem _ h)
  have hown : s.vm.findClass "SignMachine$Names" = some m.cls := findClass_of_methodNamed B.named
  have hlocks := B.notSynchronized
  have hl := lv_entry ([.ref p3, .int a1]) (n := 2) (Nat.le_of_ble_eq_true rfl)
  rw [lg_entry_eq]
  generalize (lg_sl ([.ref p3, .int a1]) ++ List.replicate (2 - (lg_sl ([.ref p3, .int a1])).length) Slot.unset).toArray = ls at hl ⊢
  have hl : lv_has ls 2 [(0, .ref p3), (1, .int a1)] := hl
  refine lv_iload_n hx hb d_N_isLocalTold_0 rfl (lv_at hl 1 rfl) ?_
  refine lv_if_lt (tgt := 23) hx hb d_N_isLocalTold_1 (by decide) (fun c1 => ?_) (fun c1 => ?_)
  · refine lv_iconst (v := 0) hx hb d_N_isLocalTold_23 (by decide) ?_
    exact W.zret (v := (0 : Int32)) hx hb hr rfl (fun t ht hW => ⟨⟨(0 : Int32), (), rfl, ⟨false, rfl⟩, ⟨by show va_P D classes _ t.heap; rw [ht]; exact hP, hD⟩⟩, hS.F ht⟩) hS.2.2 d_N_isLocalTold_24
  · refine lv_iload_n hx hb d_N_isLocalTold_4 rfl (lv_at hl 1 rfl) ?_
    refine lv_bipush (v := 10) hx hb d_N_isLocalTold_5 (by decide) ?_
    refine lv_icmp_ge (tgt := 23) hx hb d_N_isLocalTold_7 (by decide) (fun c2 => ?_) (fun c2 => ?_)
    · refine lv_iconst (v := 0) hx hb d_N_isLocalTold_23 (by decide) ?_
      exact W.zret (v := (0 : Int32)) hx hb hr rfl (fun t ht hW => ⟨⟨(0 : Int32), (), rfl, ⟨false, rfl⟩, ⟨by show va_P D classes _ t.heap; rw [ht]; exact hP, hD⟩⟩, hS.F ht⟩) hS.2.2 d_N_isLocalTold_24
    · refine lv_aload_n hx hb d_N_isLocalTold_10 rfl (lv_at hl 0 rfl) ?_
      refine va_get (D := D) (ci := 5) (v := .ref p8) (C := "SignMachine$Names") (T := F_N) (N := 7) hx hb hk fi_N hown hK.1 hP 3 rfl rfl 4 (by decide) (hk _ k_580) (fun _ h9 => h9) rfl d_N_isLocalTold_11 ?_
      refine lv_iload_n hx hb d_N_isLocalTold_14 rfl (lv_at hl 1 rfl) ?_
      refine va_zald hx hb hK.1 hP 8 2 rfl rfl (vpin c1 c2 rfl) d_N_isLocalTold_15 ?_
      refine lv_topi (fun v3 hv3 => ?_)
      refine lv_if_eq (tgt := 23) hx hb d_N_isLocalTold_16 (by decide) (fun c4 => ?_) (fun c4 => ?_)
      · refine lv_iconst (v := 0) hx hb d_N_isLocalTold_23 (by decide) ?_
        exact W.zret (v := (0 : Int32)) hx hb hr rfl (fun t ht hW => ⟨⟨(0 : Int32), (), rfl, ⟨false, rfl⟩, ⟨by show va_P D classes _ t.heap; rw [ht]; exact hP, hD⟩⟩, hS.F ht⟩) hS.2.2 d_N_isLocalTold_24
      · refine lv_iconst (v := 1) hx hb d_N_isLocalTold_19 (by decide) ?_
        refine lv_goto (tgt := 24) hx hb d_N_isLocalTold_20 (by decide) ?_
        exact W.zret (v := (1 : Int32)) hx hb hr rfl (fun t ht hW => ⟨⟨(1 : Int32), (), rfl, ⟨true, rfl⟩, ⟨by show va_P D classes _ t.heap; rw [ht]; exact hP, hD⟩⟩, hS.F ht⟩) hS.2.2 d_N_isLocalTold_24
theorem v_N_isLocalTold_s1 {R : Room} {s : State} {args : Array Value} {own : String} {index : Nat} (hk : ∀ w ∈ tb, w.before args s = true) (hl : Cond.methodLink own index y_N_isLocalTold ∈ tb) (hR : 0 + 1 ≤ R.frames ∧ 8 + (2 + 11) + 0 ≤ R.locals) : CallW R s args own "SignMachine$Names" index y_N_isLocalTold b_N_isLocalTold 2 (some .boolean) (.code y_N_isLocalTold b_N_isLocalTold 2 (some .boolean) :: tb) ({ frames := 0, cells := 0, slots := 0, locals := 0 }) 0 0 1 := mk_v 1 hk k_1000 hl k_998 k_999 k_125 rfl rfl h_N_isLocalTold hR
set_option maxHeartbeats 4000000 in
set_option maxRecDepth 100000 in
theorem c_N_localValue_s1 (l : Launch) (K : CK) (D : va_G) (cI cJ cZ cB : ClassId) (p0 p1 p2 p3 p4 p5 p6 p7 p8 p9 p10 p11 p12 p13 p14 p15 : Nat) (sz : Nat) (x0_3 : Int32) (x0_4 : Int32) (x0_5 : Int32) (x0_6 : Int32) (x0_7 : Int32) (x0_8 : Bool) (x0_9 : Int64) (x0_10 : Int32) (x0_11 : Option (Fin 51)) (x0_12 : Int32) (x0_13 : Int32) (x0_14 : Int32) (x1_1 : Int32) (x1_2 : Int32) (x1_3 : Int32) (x1_4 : Int32) (x1_5 : Int32) (x1_6 : Int32) (x1_7 : Int64) (x1_8 : Int32) (y2 : Nat → Int32) (x3_5 : Int32) (x3_6 : Int32) (y4 : Nat → Int64) (y5 : Nat → Int32) (y6 : Nat → Int32) (y7 : Nat → Int32) (y8 : Nat → Int32) (x9_6 : Int32) (y10 : Nat → Int32) (y11 : Nat → Int32) (y12 : Nat → Int32) (y13 : Nat → Int32) (y14 : Nat → Int32) (y15 : Nat → Int32)  (a1 : Int32) : Met l y_N_localValue (.code y_N_localValue b_N_localValue 2 (some .int) :: tb) ({ frames := 0, cells := 0, slots := 0, locals := 0 }) (pMC K D cI cJ cZ cB (wS52 K cI cJ cZ cB p0 p1 p2 p3 p4 p5 p6 p7 p8 p9 p10 p11 p12 p13 p14 p15 x0_3 x0_4 x0_5 x0_6 x0_7 x0_8 x0_9 x0_10 x0_11 x0_12 x0_13 x0_14 x1_1 x1_2 x1_3 x1_4 x1_5 x1_6 x1_7 x1_8 y2 x3_5 x3_6 y4 y5 y6 y7 y8 x9_6 y10 y11 y12 y13 y14 y15) sz [.ref p3, .int a1]) (va_Qi (fun r (_ : Unit) => True) (fun _ t => (va_P D classes (wS52 K cI cJ cZ cB p0 p1 p2 p3 p4 p5 p6 p7 p8 p9 p10 p11 p12 p13 p14 p15 x0_3 x0_4 x0_5 x0_6 x0_7 x0_8 x0_9 x0_10 x0_11 x0_12 x0_13 x0_14 x1_1 x1_2 x1_3 x1_4 x1_5 x1_6 x1_7 x1_8 y2 x3_5 x3_6 y4 y5 y6 y7 y8 x9_6 y10 y11 y12 y13 y14 y15) t.heap ∧ va_D (va_A (wS52 K cI cJ cZ cB p0 p1 p2 p3 p4 p5 p6 p7 p8 p9 p10 p11 p12 p13 p14 p15 x0_3 x0_4 x0_5 x0_6 x0_7 x0_8 x0_9 x0_10 x0_11 x0_12 x0_13 x0_14 x1_1 x1_2 x1_3 x1_4 x1_5 x1_6 x1_7 x1_8 y2 x3_5 x3_6 y4 y5 y6 y7 y8 x9_6 y10 y11 y12 y13 y14 y15) sz) (wS52 K cI cJ cZ cB p0 p1 p2 p3 p4 p5 p6 p7 p8 p9 p10 p11 p12 p13 p14 p15 x0_3 x0_4 x0_5 x0_6 x0_7 x0_8 x0_9 x0_10 x0_11 x0_12 x0_13 x0_14 x1_1 x1_2 x1_3 x1_4 x1_5 x1_6 x1_7 x1_8 y2 x3_5 x3_6 y4 y5 y6 y7 y8 x9_6 y10 y11 y12 y13 y14 y15))) (va_A (wS52 K cI cJ cZ cB p0 p1 p2 p3 p4 p5 p6 p7 p8 p9 p10 p11 p12 p13 p14 p15 x0_3 x0_4 x0_5 x0_6 x0_7 x0_8 x0_9 x0_10 x0_11 x0_12 x0_13 x0_14 x1_1 x1_2 x1_3 x1_4 x1_5 x1_6 x1_7 x1_8 y2 x3_5 x3_6 y4 y5 y6 y7 y8 x9_6 y10 y11 y12 y13 y14 y15) sz)) 0 0 (va_A (wS52 K cI cJ cZ cB p0 p1 p2 p3 p4 p5 p6 p7 p8 p9 p10 p11 p12 p13 p14 p15 x0_3 x0_4 x0_5 x0_6 x0_7 x0_8 x0_9 x0_10 x0_11 x0_12 x0_13 x0_14 x1_1 x1_2 x1_3 x1_4 x1_5 x1_6 x1_7 x1_8 y2 x3_5 x3_6 y4 y5 y6 y7 y8 x9_6 y10 y11 y12 y13 y14 y15) sz) := by
  refine Met.ofW (cc := b_N_localValue) (maxL := 2) (ret := (some .int)) (by decide) rfl ?_
  intro p e s m args below meth c s₁ B hml hv
  obtain ⟨rfl, hsz, hK, hP, hD0, hC⟩ := hv
  subst hsz
  have hD := hD0.self (sz := s.heap.size)
  generalize hAe : va_A (wS52 K cI cJ cZ cB p0 p1 p2 p3 p4 p5 p6 p7 p8 p9 p10 p11 p12 p13 p14 p15 x0_3 x0_4 x0_5 x0_6 x0_7 x0_8 x0_9 x0_10 x0_11 x0_12 x0_13 x0_14 x1_1 x1_2 x1_3 x1_4 x1_5 x1_6 x1_7 x1_8 y2 x3_5 x3_6 y4 y5 y6 y7 y8 x9_6 y10 y11 y12 y13 y14 y15) s.heap.size = A at hD hC ⊢
  have hA : ∀ q : Nat, s.heap.size ≤ q → A q := fun q h => by rw [← hAe]; exact Or.inr h
  clear hAe hD0
  have hS : va_S A s.heap s.heap [] := va_S.rf
  have hx := B.exec
  have hb := B.bytes
  have hr := B.returns
  have hts := atoms_spec (ws := .code y_N_localValue b_N_localValue 2 (some .int) :: tb) B.pre
  have hk : ∀ w ∈ tb, w.before [.ref p3, .int a1].toArray s = true := fun w h => hts w (List.mem_cons_of_mem _ h)
  have hown : s.vm.findClass "SignMachine$Names" = some m.cls := findClass_of_methodNamed B.named
  have hlocks := B.notSynchronized
  have hl := lv_entry ([.ref p3, .int a1]) (n := 2) (Nat.le_of_ble_eq_true rfl)
  rw [lg_entry_eq]
  generalize (lg_sl ([.ref p3, .int a1]) ++ List.replicate (2 - (lg_sl ([.ref p3, .int a1])).length) Slot.unset).toArray = ls at hl ⊢
  have hl : lv_has ls 2 [(0, .ref p3), (1, .int a1)] := hl
  refine lv_iload_n hx hb d_N_localValue_0 rfl (lv_at hl 1 rfl) ?_
  refine lv_if_lt (tgt := 19) hx hb d_N_localValue_1 (by decide) (fun c1 => ?_) (fun c1 => ?_)
  · refine lv_iconst (v := 0) hx hb d_N_localValue_19 (by decide) ?_
    exact W.iret (v := (0 : Int32)) hx hb hr (fun t ht hW => ⟨⟨(0 : Int32), (), rfl, trivial, ⟨by show va_P D classes _ t.heap; rw [ht]; exact hP, hD⟩⟩, hS.F ht⟩) hS.2.2 d_N_localValue_20
  · refine lv_iload_n hx hb d_N_localValue_4 rfl (lv_at hl 1 rfl) ?_
    refine lv_bipush (v := 10) hx hb d_N_localValue_5 (by decide) ?_
    refine lv_icmp_ge (tgt := 19) hx hb d_N_localValue_7 (by decide) (fun c2 => ?_) (fun c2 => ?_)
    · refine lv_iconst (v := 0) hx hb d_N_localValue_19 (by decide) ?_
      exact W.iret (v := (0 : Int32)) hx hb hr (fun t ht hW => ⟨⟨(0 : Int32), (), rfl, trivial, ⟨by show va_P D classes _ t.heap; rw [ht]; exact hP, hD⟩⟩, hS.F ht⟩) hS.2.2 d_N_localValue_20
    · refine lv_aload_n hx hb d_N_localValue_10 rfl (lv_at hl 0 rfl) ?_
      refine va_get (D := D) (ci := 5) (v := .ref p7) (C := "SignMachine$Names") (T := F_N) (N := 7) hx hb hk fi_N hown hK.1 hP 3 rfl rfl 3 (by decide) (hk _ k_579) (fun _ h9 => h9) rfl d_N_localValue_11 ?_
      refine lv_iload_n hx hb d_N_localValue_14 rfl (lv_at hl 1 rfl) ?_
      refine va_iald hx hb hK.1 hP 7 0 rfl rfl (vpin c1 c2 rfl) d_N_localValue_15 ?_
      refine lv_topi (fun v3 hv3 => ?_)
      refine lv_goto (tgt := 20) hx hb d_N_localValue_16 (by decide) ?_
      exact W.iret (v := v3) hx hb hr (fun t ht hW => ⟨⟨v3, (), rfl, trivial, ⟨by show va_P D classes _ t.heap; rw [ht]; exact hP, hD⟩⟩, hS.F ht⟩) hS.2.2 d_N_localValue_20
theorem v_N_localValue_s1 {R : Room} {s : State} {args : Array Value} {own : String} {index : Nat} (hk : ∀ w ∈ tb, w.before args s = true) (hl : Cond.methodLink own index y_N_localValue ∈ tb) (hR : 0 + 1 ≤ R.frames ∧ 8 + (2 + 11) + 0 ≤ R.locals) : CallW R s args own "SignMachine$Names" index y_N_localValue b_N_localValue 2 (some .int) (.code y_N_localValue b_N_localValue 2 (some .int) :: tb) ({ frames := 0, cells := 0, slots := 0, locals := 0 }) 0 0 1 := mk_v 1 hk k_1004 hl k_1002 k_1003 k_125 rfl rfl h_N_localValue hR
set_option maxHeartbeats 4000000 in
set_option maxRecDepth 100000 in
theorem c_A_atomValue_s1 (l : Launch) (K : CK) (D : va_G) (cI cJ cZ cB : ClassId) (p0 p1 p2 p3 p4 p5 p6 p7 p8 p9 p10 p11 p12 p13 p14 p15 : Nat) (sz : Nat) (x0_3 : Int32) (x0_4 : Int32) (x0_5 : Int32) (x0_6 : Int32) (x0_7 : Int32) (x0_8 : Bool) (x0_9 : Int64) (x0_10 : Int32) (x0_11 : Option (Fin 51)) (x0_12 : Int32) (x0_13 : Int32) (x0_14 : Int32) (x1_1 : Int32) (x1_2 : Int32) (x1_3 : Int32) (x1_4 : Int32) (x1_5 : Int32) (x1_6 : Int32) (x1_7 : Int64) (x1_8 : Int32) (y2 : Nat → Int32) (x3_5 : Int32) (x3_6 : Int32) (y4 : Nat → Int64) (y5 : Nat → Int32) (y6 : Nat → Int32) (y7 : Nat → Int32) (y8 : Nat → Int32) (x9_6 : Int32) (y10 : Nat → Int32) (y11 : Nat → Int32) (y12 : Nat → Int32) (y13 : Nat → Int32) (y14 : Nat → Int32) (y15 : Nat → Int32)   : Met l y_A_atomValue (.code y_A_atomValue b_A_atomValue 3 (some .int) :: tb) ({ frames := 1, cells := 0, slots := 0, locals := 25 }) (pMC K D cI cJ cZ cB (wS52 K cI cJ cZ cB p0 p1 p2 p3 p4 p5 p6 p7 p8 p9 p10 p11 p12 p13 p14 p15 x0_3 x0_4 x0_5 x0_6 x0_7 x0_8 x0_9 x0_10 x0_11 x0_12 x0_13 x0_14 x1_1 x1_2 x1_3 x1_4 x1_5 x1_6 x1_7 x1_8 y2 x3_5 x3_6 y4 y5 y6 y7 y8 x9_6 y10 y11 y12 y13 y14 y15) sz [.ref p0]) (va_Qi (fun r (_ : Unit) => True) (fun _ t => (∃ u_x0_3 : Int32, ∃ u_x0_4 : Int32, va_P D classes (wS52 K cI cJ cZ cB p0 p1 p2 p3 p4 p5 p6 p7 p8 p9 p10 p11 p12 p13 p14 p15 u_x0_3 u_x0_4 x0_5 x0_6 x0_7 x0_8 x0_9 x0_10 x0_11 x0_12 x0_13 x0_14 x1_1 x1_2 x1_3 x1_4 x1_5 x1_6 x1_7 x1_8 y2 x3_5 x3_6 y4 y5 y6 y7 y8 x9_6 y10 y11 y12 y13 y14 y15) t.heap ∧ va_D (va_A (wS52 K cI cJ cZ cB p0 p1 p2 p3 p4 p5 p6 p7 p8 p9 p10 p11 p12 p13 p14 p15 x0_3 x0_4 x0_5 x0_6 x0_7 x0_8 x0_9 x0_10 x0_11 x0_12 x0_13 x0_14 x1_1 x1_2 x1_3 x1_4 x1_5 x1_6 x1_7 x1_8 y2 x3_5 x3_6 y4 y5 y6 y7 y8 x9_6 y10 y11 y12 y13 y14 y15) sz) (wS52 K cI cJ cZ cB p0 p1 p2 p3 p4 p5 p6 p7 p8 p9 p10 p11 p12 p13 p14 p15 u_x0_3 u_x0_4 x0_5 x0_6 x0_7 x0_8 x0_9 x0_10 x0_11 x0_12 x0_13 x0_14 x1_1 x1_2 x1_3 x1_4 x1_5 x1_6 x1_7 x1_8 y2 x3_5 x3_6 y4 y5 y6 y7 y8 x9_6 y10 y11 y12 y13 y14 y15))) (va_A (wS52 K cI cJ cZ cB p0 p1 p2 p3 p4 p5 p6 p7 p8 p9 p10 p11 p12 p13 p14 p15 x0_3 x0_4 x0_5 x0_6 x0_7 x0_8 x0_9 x0_10 x0_11 x0_12 x0_13 x0_14 x1_1 x1_2 x1_3 x1_4 x1_5 x1_6 x1_7 x1_8 y2 x3_5 x3_6 y4 y5 y6 y7 y8 x9_6 y10 y11 y12 y13 y14 y15) sz)) 0 0 (va_A (wS52 K cI cJ cZ cB p0 p1 p2 p3 p4 p5 p6 p7 p8 p9 p10 p11 p12 p13 p14 p15 x0_3 x0_4 x0_5 x0_6 x0_7 x0_8 x0_9 x0_10 x0_11 x0_12 x0_13 x0_14 x1_1 x1_2 x1_3 x1_4 x1_5 x1_6 x1_7 x1_8 y2 x3_5 x3_6 y4 y5 y6 y7 y8 x9_6 y10 y11 y12 y13 y14 y15) sz) := by
  refine Met.ofW (cc := b_A_atomValue) (maxL := 3) (ret := (some .int)) (by decide) rfl ?_
  intro p e s m args below meth c s₁ B hml hv
  obtain ⟨rfl, hsz, hK, hP, hD0, hC⟩ := hv
  subst hsz
  have hD := hD0.self (sz := s.heap.size)
  generalize hAe : va_A (wS52 K cI cJ cZ cB p0 p1 p2 p3 p4 p5 p6 p7 p8 p9 p10 p11 p12 p13 p14 p15 x0_3 x0_4 x0_5 x0_6 x0_7 x0_8 x0_9 x0_10 x0_11 x0_12 x0_13 x0_14 x1_1 x1_2 x1_3 x1_4 x1_5 x1_6 x1_7 x1_8 y2 x3_5 x3_6 y4 y5 y6 y7 y8 x9_6 y10 y11 y12 y13 y14 y15) s.heap.size = A at hD hC ⊢
  have hA : ∀ q : Nat, s.heap.size ≤ q → A q := fun q h => by rw [← hAe]; exact Or.inr h
  clear hAe hD0
  have hS : va_S A s.heap s.heap [] := va_S.rf
  have hx := B.exec
  have hb := B.bytes
  have hr := B.returns
  have hts := atoms_spec (ws := .code y_A_atomValue b_A_atomValue 3 (some .int) :: tb) B.pre
  have hk : ∀ w ∈ tb, w.before [.ref p0].toArray s = true := fun w h => hts w (List.mem_cons_of_mem _ h)
  have hown : s.vm.findClass "SignMachine$Assembler" = some m.cls := findClass_of_methodNamed B.named
  have hlocks := B.notSynchronized
  have hl := lv_entry ([.ref p0]) (n := 3) (Nat.le_of_ble_eq_true rfl)
  rw [lg_entry_eq]
  generalize (lg_sl ([.ref p0]) ++ List.replicate (3 - (lg_sl ([.ref p0])).length) Slot.unset).toArray = ls at hl ⊢
  have hl : lv_has ls 3 [(0, .ref p0)] := hl
  refine lv_aload_n hx hb d_A_atomValue_0 rfl (lv_at hl 0 rfl) ?_
  refine va_get (D := D) (ci := 3) (v := .ref p1) (C := "SignMachine$Assembler") (T := F_A) (N := 15) hx hb hk fi_A hown hK.1 hP 0 rfl rfl 0 (by decide) (hk _ k_631) (fun _ h9 => h9) rfl d_A_atomValue_1 ?_
  refine va_getN (D := D) (ci := 4) (v := .int x1_6) (C := "SignMachine$Source") (T := F_R) (N := 9) hx hb hk fi_R hown hK.1 hP 1 rfl rfl 6 (by decide) (va_Nw.use rfl (hK.2 _ n_544)) (fun _ h9 => h9) rfl d_A_atomValue_4 ?_
  by_cases c1 : x1_6 = (1 : Int32)
  · refine lv_tableIn (off := 25) (tgt := 32) hx hb d_A_atomValue_7 (by rw [c1]; decide) (by rw [c1]; decide) (by rw [c1]; rfl) (by decide) ?_
    refine lv_aload_n hx hb d_A_atomValue_32 rfl (lv_at hl 0 rfl) ?_
    refine va_get (D := D) (ci := 3) (v := .ref p1) (C := "SignMachine$Assembler") (T := F_A) (N := 15) hx hb hk fi_A hown hK.1 hP 0 rfl rfl 0 (by decide) (hk _ k_631) (fun _ h9 => h9) rfl d_A_atomValue_33 ?_
    refine va_getN (D := D) (ci := 4) (v := .int x1_8) (C := "SignMachine$Source") (T := F_R) (N := 9) hx hb hk fi_R hown hK.1 hP 1 rfl rfl 8 (by decide) (va_Nw.use rfl (hK.2 _ n_549)) (fun _ h9 => h9) rfl d_A_atomValue_36 ?_
    exact W.iret (v := x1_8) hx hb hr (fun t ht hW => ⟨⟨x1_8, (), rfl, trivial, ⟨x0_3, x0_4, by show va_P D classes _ t.heap; rw [ht]; exact hP, hD⟩⟩, hS.F ht⟩) hS.2.2 d_A_atomValue_39
  · by_cases c2 : x1_6 = (2 : Int32)
    · refine lv_tableIn (off := 38) (tgt := 45) hx hb d_A_atomValue_7 (by rw [c2]; decide) (by rw [c2]; decide) (by rw [c2]; rfl) (by decide) ?_
      refine lv_goto (tgt := 54) hx hb d_A_atomValue_45 (by decide) ?_
      refine lv_aload_n hx hb d_A_atomValue_54 rfl (lv_at hl 0 rfl) ?_
      refine va_get (D := D) (ci := 3) (v := .ref p1) (C := "SignMachine$Assembler") (T := F_A) (N := 15) hx hb hk fi_A hown hK.1 hP 0 rfl rfl 0 (by decide) (hk _ k_631) (fun _ h9 => h9) rfl d_A_atomValue_55 ?_
      refine va_getN (D := D) (ci := 4) (v := .long x1_7) (C := "SignMachine$Source") (T := F_R) (N := 9) hx hb hk fi_R hown hK.1 hP 1 rfl rfl 7 (by decide) (va_Nw.use rfl (hK.2 _ n_546)) (fun _ h9 => h9) rfl d_A_atomValue_58 ?_
      refine lv_iconst (v := 2) hx hb d_A_atomValue_61 (by decide) ?_
      refine cs_i (W.runS (As := [.long x1_7, .int (2 : Int32)]) (rest := []) ⟨hx, hb, hml, hown, hk⟩ (c_N_localDigit l x1_7 (2 : Int32)) (s_N_localDigit hk k_771 ⟨Nat.le_of_ble_eq_true rfl, Nat.le_of_ble_eq_true rfl⟩) ⟨fun a U g mk q => q, fun U hU hW => ⟨rfl, trivial⟩⟩ rfl rfl hl.1 rfl (lv_room (Nat.le_of_ble_eq_true rfl)) d_A_atomValue_62 ⟨Nat.le_of_ble_eq_true rfl, Nat.le_of_ble_eq_true rfl⟩) ?_
      refine lv_topi (fun v3 hv3 => ?_)
      refine lv_istore_n (lv' := [(1, .int v3), (0, .ref p0)]) hx hb d_A_atomValue_65 rfl hl (by decide) rfl (fun ls hl => ?_)
      refine lv_iload_n hx hb d_A_atomValue_66 rfl (lv_at hl 0 rfl) ?_
      refine lv_if_lt (tgt := 98) hx hb d_A_atomValue_67 (by decide) (fun c4 => ?_) (fun c4 => ?_)
      · refine lv_aload_n hx hb d_A_atomValue_98 rfl (lv_at hl 1 rfl) ?_
        refine va_get (D := D) (ci := 3) (v := .ref p3) (C := "SignMachine$Assembler") (T := F_A) (N := 15) hx hb hk fi_A hown hK.1 hP 0 rfl rfl 1 (by decide) (hk _ k_633) (fun _ h9 => h9) rfl d_A_atomValue_99 ?_
        refine lv_aload_n hx hb d_A_atomValue_102 rfl (lv_at hl 1 rfl) ?_
        refine va_get (D := D) (ci := 3) (v := .ref p1) (C := "SignMachine$Assembler") (T := F_A) (N := 15) hx hb hk fi_A hown hK.1 hP 0 rfl rfl 0 (by decide) (hk _ k_631) (fun _ h9 => h9) rfl d_A_atomValue_103 ?_
        refine va_getN (D := D) (ci := 4) (v := .long x1_7) (C := "SignMachine$Source") (T := F_R) (N := 9) hx hb hk fi_R hown hK.1 hP 1 rfl rfl 7 (by decide) (va_Nw.use rfl (hK.2 _ n_546)) (fun _ h9 => h9) rfl d_A_atomValue_106 ?_
        refine sn_i (va_runV (C := "SignMachine$Names") (As := [.long x1_7]) (rest := []) ⟨hx, hb, hml, hown, hk⟩ (c_N_find_s1 l K D cI cJ cZ cB p0 p1 p2 p3 p4 p5 p6 p7 p8 p9 p10 p11 p12 p13 p14 p15 s.heap.size x0_3 x0_4 x0_5 x0_6 x0_7 x0_8 x0_9 x0_10 x0_11 x0_12 x0_13 x0_14 x1_1 x1_2 x1_3 x1_4 x1_5 x1_6 x1_7 x1_8 y2 x3_5 x3_6 y4 y5 y6 y7 y8 x9_6 y10 y11 y12 y13 y14 y15  x1_7 ) (v_N_find_s1 hk k_924 ⟨Nat.le_of_ble_eq_true rfl, Nat.le_of_ble_eq_true rfl⟩) (pMC_v hK hP hD hC hS hA (ci := 5) (q0 := 3) rfl rfl rfl) rfl rfl hl.1 rfl (lv_room (Nat.le_of_ble_eq_true rfl)) d_A_atomValue_109 ⟨by decide, by decide⟩) hS hA hD (fun rz5 u t H locs hr0 ht hB hFr hS => ?_)
        obtain ⟨hP, hD⟩ := hB
        rw [ht] at hP
        have hD := dwk hD hFr
        clear ht hFr
        have hP : va_P D classes (wS52 K cI cJ cZ cB p0 p1 p2 p3 p4 p5 p6 p7 p8 p9 p10 p11 p12 p13 p14 p15 x0_3 x0_4 x0_5 x0_6 x0_7 x0_8 x0_9 x0_10 x0_11 x0_12 x0_13 x0_14 x1_1 x1_2 x1_3 x1_4 x1_5 x1_6 x1_7 x1_8 y2 x3_5 x3_6 y4 y5 y6 y7 y8 x9_6 y10 y11 y12 y13 y14 y15) H := hP
        have hD : va_D A (wS52 K cI cJ cZ cB p0 p1 p2 p3 p4 p5 p6 p7 p8 p9 p10 p11 p12 p13 p14 p15 x0_3 x0_4 x0_5 x0_6 x0_7 x0_8 x0_9 x0_10 x0_11 x0_12 x0_13 x0_14 x1_1 x1_2 x1_3 x1_4 x1_5 x1_6 x1_7 x1_8 y2 x3_5 x3_6 y4 y5 y6 y7 y8 x9_6 y10 y11 y12 y13 y14 y15) := hD
        refine lv_istore_n (lv' := [(2, .int rz5), (1, .int v3), (0, .ref p0)]) hx hb d_A_atomValue_112 rfl hl (by decide) rfl (fun ls hl => ?_)
        refine lv_aload_n hx hb d_A_atomValue_113 rfl (lv_at hl 2 rfl) ?_
        refine va_get (D := D) (ci := 3) (v := .ref p3) (C := "SignMachine$Assembler") (T := F_A) (N := 15) hx hb hk fi_A hown hK.1 hP 0 rfl rfl 1 (by decide) (hk _ k_633) (fun _ h9 => h9) rfl d_A_atomValue_114 ?_
        refine lv_iload_n hx hb d_A_atomValue_117 rfl (lv_at hl 0 rfl) ?_
        refine sn_i (va_runV (C := "SignMachine$Names") (As := [.int rz5]) (rest := []) ⟨hx, hb, hml, hown, hk⟩ (c_N_isTold_s1 l K D cI cJ cZ cB p0 p1 p2 p3 p4 p5 p6 p7 p8 p9 p10 p11 p12 p13 p14 p15 H.size x0_3 x0_4 x0_5 x0_6 x0_7 x0_8 x0_9 x0_10 x0_11 x0_12 x0_13 x0_14 x1_1 x1_2 x1_3 x1_4 x1_5 x1_6 x1_7 x1_8 y2 x3_5 x3_6 y4 y5 y6 y7 y8 x9_6 y10 y11 y12 y13 y14 y15  rz5 ) (v_N_isTold_s1 hk k_928 ⟨Nat.le_of_ble_eq_true rfl, Nat.le_of_ble_eq_true rfl⟩) (pMC_v hK hP hD hC hS hA (ci := 5) (q0 := 3) rfl rfl rfl) rfl rfl hl.1 rfl (lv_room (Nat.le_of_ble_eq_true rfl)) d_A_atomValue_118 ⟨by decide, by decide⟩) hS hA hD (fun rz6 u t H locs hr0 ht hB hFr hS => ?_)
        obtain ⟨z6, hz6⟩ := hr0
        subst hz6
        obtain ⟨hP, hD⟩ := hB
        rw [ht] at hP
        have hD := dwk hD hFr
        clear ht hFr
        have hP : va_P D classes (wS52 K cI cJ cZ cB p0 p1 p2 p3 p4 p5 p6 p7 p8 p9 p10 p11 p12 p13 p14 p15 x0_3 x0_4 x0_5 x0_6 x0_7 x0_8 x0_9 x0_10 x0_11 x0_12 x0_13 x0_14 x1_1 x1_2 x1_3 x1_4 x1_5 x1_6 x1_7 x1_8 y2 x3_5 x3_6 y4 y5 y6 y7 y8 x9_6 y10 y11 y12 y13 y14 y15) H := hP
        have hD : va_D A (wS52 K cI cJ cZ cB p0 p1 p2 p3 p4 p5 p6 p7 p8 p9 p10 p11 p12 p13 p14 p15 x0_3 x0_4 x0_5 x0_6 x0_7 x0_8 x0_9 x0_10 x0_11 x0_12 x0_13 x0_14 x1_1 x1_2 x1_3 x1_4 x1_5 x1_6 x1_7 x1_8 y2 x3_5 x3_6 y4 y5 y6 y7 y8 x9_6 y10 y11 y12 y13 y14 y15) := hD
        refine lv_if_eq (tgt := 135) hx hb d_A_atomValue_121 (by decide) (fun c7 => ?_) (fun c7 => ?_)
        · refine lv_aload_n hx hb d_A_atomValue_135 rfl (lv_at hl 2 rfl) ?_
          refine lv_iconst (v := 3) hx hb d_A_atomValue_136 (by decide) ?_
          refine sn_i (va_runV (C := "SignMachine$Assembler") (As := [.int (3 : Int32)]) (rest := []) ⟨hx, hb, hml, hown, hk⟩ (c_A_fail_s1 l K D cI cJ cZ cB p0 p1 p2 p3 p4 p5 p6 p7 p8 p9 p10 p11 p12 p13 p14 p15 H.size x0_3 x0_4 x0_5 x0_6 x0_7 x0_8 x0_9 x0_10 x0_11 x0_12 x0_13 x0_14 x1_1 x1_2 x1_3 x1_4 x1_5 x1_6 x1_7 x1_8 y2 x3_5 x3_6 y4 y5 y6 y7 y8 x9_6 y10 y11 y12 y13 y14 y15  (3 : Int32) ) (v_A_fail_s1 hk k_767 ⟨Nat.le_of_ble_eq_true rfl, Nat.le_of_ble_eq_true rfl⟩) (pMC_v hK hP hD hC hS hA (ci := 3) (q0 := 0) rfl rfl rfl) rfl rfl hl.1 rfl (lv_room (Nat.le_of_ble_eq_true rfl)) d_A_atomValue_137 ⟨by decide, by decide⟩) hS hA hD (fun rz8 u t H locs hr0 ht hB hFr hS => ?_)
          obtain ⟨x0_3z8, x0_4z8, hP, hD⟩ := hB
          rw [ht] at hP
          have hD := dwk hD hFr
          clear ht hFr
          have hP : va_P D classes (wS52 K cI cJ cZ cB p0 p1 p2 p3 p4 p5 p6 p7 p8 p9 p10 p11 p12 p13 p14 p15 x0_3z8 x0_4z8 x0_5 x0_6 x0_7 x0_8 x0_9 x0_10 x0_11 x0_12 x0_13 x0_14 x1_1 x1_2 x1_3 x1_4 x1_5 x1_6 x1_7 x1_8 y2 x3_5 x3_6 y4 y5 y6 y7 y8 x9_6 y10 y11 y12 y13 y14 y15) H := hP
          have hD : va_D A (wS52 K cI cJ cZ cB p0 p1 p2 p3 p4 p5 p6 p7 p8 p9 p10 p11 p12 p13 p14 p15 x0_3z8 x0_4z8 x0_5 x0_6 x0_7 x0_8 x0_9 x0_10 x0_11 x0_12 x0_13 x0_14 x1_1 x1_2 x1_3 x1_4 x1_5 x1_6 x1_7 x1_8 y2 x3_5 x3_6 y4 y5 y6 y7 y8 x9_6 y10 y11 y12 y13 y14 y15) := hD
          exact W.iret (v := rz8) hx hb hr (fun t ht hW => ⟨⟨rz8, (), rfl, trivial, ⟨x0_3z8, x0_4z8, by show va_P D classes _ t.heap; rw [ht]; exact hP, hD⟩⟩, hS.F ht⟩) hS.2.2 d_A_atomValue_140
        · refine lv_aload_n hx hb d_A_atomValue_124 rfl (lv_at hl 2 rfl) ?_
          refine va_get (D := D) (ci := 3) (v := .ref p3) (C := "SignMachine$Assembler") (T := F_A) (N := 15) hx hb hk fi_A hown hK.1 hP 0 rfl rfl 1 (by decide) (hk _ k_633) (fun _ h9 => h9) rfl d_A_atomValue_125 ?_
          refine lv_iload_n hx hb d_A_atomValue_128 rfl (lv_at hl 0 rfl) ?_
          refine sn_i (va_runV (C := "SignMachine$Names") (As := [.int rz5]) (rest := []) ⟨hx, hb, hml, hown, hk⟩ (c_N_valueOf_s1 l K D cI cJ cZ cB p0 p1 p2 p3 p4 p5 p6 p7 p8 p9 p10 p11 p12 p13 p14 p15 H.size x0_3 x0_4 x0_5 x0_6 x0_7 x0_8 x0_9 x0_10 x0_11 x0_12 x0_13 x0_14 x1_1 x1_2 x1_3 x1_4 x1_5 x1_6 x1_7 x1_8 y2 x3_5 x3_6 y4 y5 y6 y7 y8 x9_6 y10 y11 y12 y13 y14 y15  rz5 ) (v_N_valueOf_s1 hk k_1005 ⟨Nat.le_of_ble_eq_true rfl, Nat.le_of_ble_eq_true rfl⟩) (pMC_v hK hP hD hC hS hA (ci := 5) (q0 := 3) rfl rfl rfl) rfl rfl hl.1 rfl (lv_room (Nat.le_of_ble_eq_true rfl)) d_A_atomValue_129 ⟨by decide, by decide⟩) hS hA hD (fun rz9 u t H locs hr0 ht hB hFr hS => ?_)
          obtain ⟨hP, hD⟩ := hB
          rw [ht] at hP
          have hD := dwk hD hFr
          clear ht hFr
          have hP : va_P D classes (wS52 K cI cJ cZ cB p0 p1 p2 p3 p4 p5 p6 p7 p8 p9 p10 p11 p12 p13 p14 p15 x0_3 x0_4 x0_5 x0_6 x0_7 x0_8 x0_9 x0_10 x0_11 x0_12 x0_13 x0_14 x1_1 x1_2 x1_3 x1_4 x1_5 x1_6 x1_7 x1_8 y2 x3_5 x3_6 y4 y5 y6 y7 y8 x9_6 y10 y11 y12 y13 y14 y15) H := hP
          have hD : va_D A (wS52 K cI cJ cZ cB p0 p1 p2 p3 p4 p5 p6 p7 p8 p9 p10 p11 p12 p13 p14 p15 x0_3 x0_4 x0_5 x0_6 x0_7 x0_8 x0_9 x0_10 x0_11 x0_12 x0_13 x0_14 x1_1 x1_2 x1_3 x1_4 x1_5 x1_6 x1_7 x1_8 y2 x3_5 x3_6 y4 y5 y6 y7 y8 x9_6 y10 y11 y12 y13 y14 y15) := hD
          refine lv_goto (tgt := 140) hx hb d_A_atomValue_132 (by decide) ?_
          exact W.iret (v := rz9) hx hb hr (fun t ht hW => ⟨⟨rz9, (), rfl, trivial, ⟨x0_3, x0_4, by show va_P D classes _ t.heap; rw [ht]; exact hP, hD⟩⟩, hS.F ht⟩) hS.2.2 d_A_atomValue_140
      · refine lv_aload_n hx hb d_A_atomValue_70 rfl (lv_at hl 1 rfl) ?_
        refine va_get (D := D) (ci := 3) (v := .ref p3) (C := "SignMachine$Assembler") (T := F_A) (N := 15) hx hb hk fi_A hown hK.1 hP 0 rfl rfl 1 (by decide) (hk _ k_633) (fun _ h9 => h9) rfl d_A_atomValue_71 ?_
        refine lv_iload_n hx hb d_A_atomValue_74 rfl (lv_at hl 0 rfl) ?_
        refine sn_i (va_runV (C := "SignMachine$Names") (As := [.int v3]) (rest := []) ⟨hx, hb, hml, hown, hk⟩ (c_N_isLocalTold_s1 l K D cI cJ cZ cB p0 p1 p2 p3 p4 p5 p6 p7 p8 p9 p10 p11 p12 p13 p14 p15 s.heap.size x0_3 x0_4 x0_5 x0_6 x0_7 x0_8 x0_9 x0_10 x0_11 x0_12 x0_13 x0_14 x1_1 x1_2 x1_3 x1_4 x1_5 x1_6 x1_7 x1_8 y2 x3_5 x3_6 y4 y5 y6 y7 y8 x9_6 y10 y11 y12 y13 y14 y15  v3 ) (v_N_isLocalTold_s1 hk k_997 ⟨Nat.le_of_ble_eq_true rfl, Nat.le_of_ble_eq_true rfl⟩) (pMC_v hK hP hD hC hS hA (ci := 5) (q0 := 3) rfl rfl rfl) rfl rfl hl.1 rfl (lv_room (Nat.le_of_ble_eq_true rfl)) d_A_atomValue_75 ⟨by decide, by decide⟩) hS hA hD (fun rz10 u t H locs hr0 ht hB hFr hS => ?_)
        obtain ⟨z10, hz10⟩ := hr0
        subst hz10
        obtain ⟨hP, hD⟩ := hB
        rw [ht] at hP
        have hD := dwk hD hFr
        clear ht hFr
        have hP : va_P D classes (wS52 K cI cJ cZ cB p0 p1 p2 p3 p4 p5 p6 p7 p8 p9 p10 p11 p12 p13 p14 p15 x0_3 x0_4 x0_5 x0_6 x0_7 x0_8 x0_9 x0_10 x0_11 x0_12 x0_13 x0_14 x1_1 x1_2 x1_3 x1_4 x1_5 x1_6 x1_7 x1_8 y2 x3_5 x3_6 y4 y5 y6 y7 y8 x9_6 y10 y11 y12 y13 y14 y15) H := hP
        have hD : va_D A (wS52 K cI cJ cZ cB p0 p1 p2 p3 p4 p5 p6 p7 p8 p9 p10 p11 p12 p13 p14 p15 x0_3 x0_4 x0_5 x0_6 x0_7 x0_8 x0_9 x0_10 x0_11 x0_12 x0_13 x0_14 x1_1 x1_2 x1_3 x1_4 x1_5 x1_6 x1_7 x1_8 y2 x3_5 x3_6 y4 y5 y6 y7 y8 x9_6 y10 y11 y12 y13 y14 y15) := hD
        refine lv_if_eq (tgt := 92) hx hb d_A_atomValue_78 (by decide) (fun c11 => ?_) (fun c11 => ?_)
        · refine lv_aload_n hx hb d_A_atomValue_92 rfl (lv_at hl 1 rfl) ?_
          refine lv_iconst (v := 3) hx hb d_A_atomValue_93 (by decide) ?_
          refine sn_i (va_runV (C := "SignMachine$Assembler") (As := [.int (3 : Int32)]) (rest := []) ⟨hx, hb, hml, hown, hk⟩ (c_A_fail_s1 l K D cI cJ cZ cB p0 p1 p2 p3 p4 p5 p6 p7 p8 p9 p10 p11 p12 p13 p14 p15 H.size x0_3 x0_4 x0_5 x0_6 x0_7 x0_8 x0_9 x0_10 x0_11 x0_12 x0_13 x0_14 x1_1 x1_2 x1_3 x1_4 x1_5 x1_6 x1_7 x1_8 y2 x3_5 x3_6 y4 y5 y6 y7 y8 x9_6 y10 y11 y12 y13 y14 y15  (3 : Int32) ) (v_A_fail_s1 hk k_767 ⟨Nat.le_of_ble_eq_true rfl, Nat.le_of_ble_eq_true rfl⟩) (pMC_v hK hP hD hC hS hA (ci := 3) (q0 := 0) rfl rfl rfl) rfl rfl hl.1 rfl (lv_room (Nat.le_of_ble_eq_true rfl)) d_A_atomValue_94 ⟨by decide, by decide⟩) hS hA hD (fun rz12 u t H locs hr0 ht hB hFr hS => ?_)
          obtain ⟨x0_3z12, x0_4z12, hP, hD⟩ := hB
          rw [ht] at hP
          have hD := dwk hD hFr
          clear ht hFr
          have hP : va_P D classes (wS52 K cI cJ cZ cB p0 p1 p2 p3 p4 p5 p6 p7 p8 p9 p10 p11 p12 p13 p14 p15 x0_3z12 x0_4z12 x0_5 x0_6 x0_7 x0_8 x0_9 x0_10 x0_11 x0_12 x0_13 x0_14 x1_1 x1_2 x1_3 x1_4 x1_5 x1_6 x1_7 x1_8 y2 x3_5 x3_6 y4 y5 y6 y7 y8 x9_6 y10 y11 y12 y13 y14 y15) H := hP
          have hD : va_D A (wS52 K cI cJ cZ cB p0 p1 p2 p3 p4 p5 p6 p7 p8 p9 p10 p11 p12 p13 p14 p15 x0_3z12 x0_4z12 x0_5 x0_6 x0_7 x0_8 x0_9 x0_10 x0_11 x0_12 x0_13 x0_14 x1_1 x1_2 x1_3 x1_4 x1_5 x1_6 x1_7 x1_8 y2 x3_5 x3_6 y4 y5 y6 y7 y8 x9_6 y10 y11 y12 y13 y14 y15) := hD
          exact W.iret (v := rz12) hx hb hr (fun t ht hW => ⟨⟨rz12, (), rfl, trivial, ⟨x0_3z12, x0_4z12, by show va_P D classes _ t.heap; rw [ht]; exact hP, hD⟩⟩, hS.F ht⟩) hS.2.2 d_A_atomValue_97
        · refine lv_aload_n hx hb d_A_atomValue_81 rfl (lv_at hl 1 rfl) ?_
          refine va_get (D := D) (ci := 3) (v := .ref p3) (C := "SignMachine$Assembler") (T := F_A) (N := 15) hx hb hk fi_A hown hK.1 hP 0 rfl rfl 1 (by decide) (hk _ k_633) (fun _ h9 => h9) rfl d_A_atomValue_82 ?_
          refine lv_iload_n hx hb d_A_atomValue_85 rfl (lv_at hl 0 rfl) ?_
          refine sn_i (va_runV (C := "SignMachine$Names") (As := [.int v3]) (rest := []) ⟨hx, hb, hml, hown, hk⟩ (c_N_localValue_s1 l K D cI cJ cZ cB p0 p1 p2 p3 p4 p5 p6 p7 p8 p9 p10 p11 p12 p13 p14 p15 H.size x0_3 x0_4 x0_5 x0_6 x0_7 x0_8 x0_9 x0_10 x0_11 x0_12 x0_13 x0_14 x1_1 x1_2 x1_3 x1_4 x1_5 x1_6 x1_7 x1_8 y2 x3_5 x3_6 y4 y5 y6 y7 y8 x9_6 y10 y11 y12 y13 y14 y15  v3 ) (v_N_localValue_s1 hk k_1001 ⟨Nat.le_of_ble_eq_true rfl, Nat.le_of_ble_eq_true rfl⟩) (pMC_v hK hP hD hC hS hA (ci := 5) (q0 := 3) rfl rfl rfl) rfl rfl hl.1 rfl (lv_room (Nat.le_of_ble_eq_true rfl)) d_A_atomValue_86 ⟨by decide, by decide⟩) hS hA hD (fun rz13 u t H locs hr0 ht hB hFr hS => ?_)
          obtain ⟨hP, hD⟩ := hB
          rw [ht] at hP
          have hD := dwk hD hFr
          clear ht hFr
          have hP : va_P D classes (wS52 K cI cJ cZ cB p0 p1 p2 p3 p4 p5 p6 p7 p8 p9 p10 p11 p12 p13 p14 p15 x0_3 x0_4 x0_5 x0_6 x0_7 x0_8 x0_9 x0_10 x0_11 x0_12 x0_13 x0_14 x1_1 x1_2 x1_3 x1_4 x1_5 x1_6 x1_7 x1_8 y2 x3_5 x3_6 y4 y5 y6 y7 y8 x9_6 y10 y11 y12 y13 y14 y15) H := hP
          have hD : va_D A (wS52 K cI cJ cZ cB p0 p1 p2 p3 p4 p5 p6 p7 p8 p9 p10 p11 p12 p13 p14 p15 x0_3 x0_4 x0_5 x0_6 x0_7 x0_8 x0_9 x0_10 x0_11 x0_12 x0_13 x0_14 x1_1 x1_2 x1_3 x1_4 x1_5 x1_6 x1_7 x1_8 y2 x3_5 x3_6 y4 y5 y6 y7 y8 x9_6 y10 y11 y12 y13 y14 y15) := hD
          refine lv_goto (tgt := 97) hx hb d_A_atomValue_89 (by decide) ?_
          exact W.iret (v := rz13) hx hb hr (fun t ht hW => ⟨⟨rz13, (), rfl, trivial, ⟨x0_3, x0_4, by show va_P D classes _ t.heap; rw [ht]; exact hP, hD⟩⟩, hS.F ht⟩) hS.2.2 d_A_atomValue_97
    · by_cases c14 : x1_6 = (3 : Int32)
      · refine lv_tableIn (off := 33) (tgt := 40) hx hb d_A_atomValue_7 (by rw [c14]; decide) (by rw [c14]; decide) (by rw [c14]; rfl) (by decide) ?_
        refine lv_aload_n hx hb d_A_atomValue_40 rfl (lv_at hl 0 rfl) ?_
        refine va_get (D := D) (ci := 3) (v := .int x0_7) (C := "SignMachine$Assembler") (T := F_A) (N := 15) hx hb hk fi_A hown hK.1 hP 0 rfl rfl 7 (by decide) (hk _ k_644) (fun _ h9 => h9) rfl d_A_atomValue_41 ?_
        exact W.iret (v := x0_7) hx hb hr (fun t ht hW => ⟨⟨x0_7, (), rfl, trivial, ⟨x0_3, x0_4, by show va_P D classes _ t.heap; rw [ht]; exact hP, hD⟩⟩, hS.F ht⟩) hS.2.2 d_A_atomValue_44
      · refine lv_tableOut (tgt := 48) hx hb d_A_atomValue_7 (by have e0 := lv_neT c1 (a := 1) rfl; have e1 := lv_neT c2 (a := 2) rfl; have e2 := lv_neT c14 (a := 3) rfl; omega) (by decide) ?_
        refine lv_aload_n hx hb d_A_atomValue_48 rfl (lv_at hl 0 rfl) ?_
        refine lv_iconst (v := 1) hx hb d_A_atomValue_49 (by decide) ?_
        refine sn_i (va_runV (C := "SignMachine$Assembler") (As := [.int (1 : Int32)]) (rest := []) ⟨hx, hb, hml, hown, hk⟩ (c_A_fail_s1 l K D cI cJ cZ cB p0 p1 p2 p3 p4 p5 p6 p7 p8 p9 p10 p11 p12 p13 p14 p15 s.heap.size x0_3 x0_4 x0_5 x0_6 x0_7 x0_8 x0_9 x0_10 x0_11 x0_12 x0_13 x0_14 x1_1 x1_2 x1_3 x1_4 x1_5 x1_6 x1_7 x1_8 y2 x3_5 x3_6 y4 y5 y6 y7 y8 x9_6 y10 y11 y12 y13 y14 y15  (1 : Int32) ) (v_A_fail_s1 hk k_767 ⟨Nat.le_of_ble_eq_true rfl, Nat.le_of_ble_eq_true rfl⟩) (pMC_v hK hP hD hC hS hA (ci := 3) (q0 := 0) rfl rfl rfl) rfl rfl hl.1 rfl (lv_room (Nat.le_of_ble_eq_true rfl)) d_A_atomValue_50 ⟨by decide, by decide⟩) hS hA hD (fun rz15 u t H locs hr0 ht hB hFr hS => ?_)
        obtain ⟨x0_3z15, x0_4z15, hP, hD⟩ := hB
        rw [ht] at hP
        have hD := dwk hD hFr
        clear ht hFr
        have hP : va_P D classes (wS52 K cI cJ cZ cB p0 p1 p2 p3 p4 p5 p6 p7 p8 p9 p10 p11 p12 p13 p14 p15 x0_3z15 x0_4z15 x0_5 x0_6 x0_7 x0_8 x0_9 x0_10 x0_11 x0_12 x0_13 x0_14 x1_1 x1_2 x1_3 x1_4 x1_5 x1_6 x1_7 x1_8 y2 x3_5 x3_6 y4 y5 y6 y7 y8 x9_6 y10 y11 y12 y13 y14 y15) H := hP
        have hD : va_D A (wS52 K cI cJ cZ cB p0 p1 p2 p3 p4 p5 p6 p7 p8 p9 p10 p11 p12 p13 p14 p15 x0_3z15 x0_4z15 x0_5 x0_6 x0_7 x0_8 x0_9 x0_10 x0_11 x0_12 x0_13 x0_14 x1_1 x1_2 x1_3 x1_4 x1_5 x1_6 x1_7 x1_8 y2 x3_5 x3_6 y4 y5 y6 y7 y8 x9_6 y10 y11 y12 y13 y14 y15) := hD
        exact W.iret (v := rz15) hx hb hr (fun t ht hW => ⟨⟨rz15, (), rfl, trivial, ⟨x0_3z15, x0_4z15, by show va_P D classes _ t.heap; rw [ht]; exact hP, hD⟩⟩, hS.F ht⟩) hS.2.2 d_A_atomValue_53
theorem v_A_atomValue_s1 {R : Room} {s : State} {args : Array Value} {own : String} {index : Nat} (hk : ∀ w ∈ tb, w.before args s = true) (hl : Cond.methodLink own index y_A_atomValue ∈ tb) (hR : 1 + 1 ≤ R.frames ∧ 8 + (3 + 11) + 25 ≤ R.locals) : CallW R s args own "SignMachine$Assembler" index y_A_atomValue b_A_atomValue 3 (some .int) (.code y_A_atomValue b_A_atomValue 3 (some .int) :: tb) ({ frames := 1, cells := 0, slots := 0, locals := 25 }) 0 0 0 := mk_v 0 hk k_996 hl k_995 k_49 k_123 rfl rfl h_A_atomValue hR
set_option maxHeartbeats 4000000 in
set_option maxRecDepth 100000 in
theorem c_A_reckon_s1 (l : Launch) (K : CK) (D : va_G) (cI cJ cZ cB : ClassId) (p0 p1 p2 p3 p4 p5 p6 p7 p8 p9 p10 p11 p12 p13 p14 p15 : Nat) (sz : Nat) (x0_3 : Int32) (x0_4 : Int32) (x0_5 : Int32) (x0_6 : Int32) (x0_7 : Int32) (x0_8 : Bool) (x0_9 : Int64) (x0_10 : Int32) (x0_11 : Option (Fin 51)) (x0_12 : Int32) (x0_13 : Int32) (x0_14 : Int32) (x1_1 : Int32) (x1_2 : Int32) (x1_3 : Int32) (x1_4 : Int32) (x1_5 : Int32) (x1_6 : Int32) (x1_7 : Int64) (x1_8 : Int32) (y2 : Nat → Int32) (x3_5 : Int32) (x3_6 : Int32) (y4 : Nat → Int64) (y5 : Nat → Int32) (y6 : Nat → Int32) (y7 : Nat → Int32) (y8 : Nat → Int32) (x9_6 : Int32) (y10 : Nat → Int32) (y11 : Nat → Int32) (y12 : Nat → Int32) (y13 : Nat → Int32) (y14 : Nat → Int32) (y15 : Nat → Int32)  (a1 : Int64) (a2 : Int32) (a3 : Int64) : Met l y_A_reckon (.code y_A_reckon b_A_reckon 8 (some .long) :: tb) ({ frames := 1, cells := 0, slots := 0, locals := 21 }) (pMC K D cI cJ cZ cB (wS52 K cI cJ cZ cB p0 p1 p2 p3 p4 p5 p6 p7 p8 p9 p10 p11 p12 p13 p14 p15 x0_3 x0_4 x0_5 x0_6 x0_7 x0_8 x0_9 x0_10 x0_11 x0_12 x0_13 x0_14 x1_1 x1_2 x1_3 x1_4 x1_5 x1_6 x1_7 x1_8 y2 x3_5 x3_6 y4 y5 y6 y7 y8 x9_6 y10 y11 y12 y13 y14 y15) sz [.ref p0, .long a1, .int a2, .long a3]) (va_Ql (fun r (_ : Unit) => True) (fun _ t => (∃ u_x0_3 : Int32, ∃ u_x0_4 : Int32, va_P D classes (wS52 K cI cJ cZ cB p0 p1 p2 p3 p4 p5 p6 p7 p8 p9 p10 p11 p12 p13 p14 p15 u_x0_3 u_x0_4 x0_5 x0_6 x0_7 x0_8 x0_9 x0_10 x0_11 x0_12 x0_13 x0_14 x1_1 x1_2 x1_3 x1_4 x1_5 x1_6 x1_7 x1_8 y2 x3_5 x3_6 y4 y5 y6 y7 y8 x9_6 y10 y11 y12 y13 y14 y15) t.heap ∧ va_D (va_A (wS52 K cI cJ cZ cB p0 p1 p2 p3 p4 p5 p6 p7 p8 p9 p10 p11 p12 p13 p14 p15 x0_3 x0_4 x0_5 x0_6 x0_7 x0_8 x0_9 x0_10 x0_11 x0_12 x0_13 x0_14 x1_1 x1_2 x1_3 x1_4 x1_5 x1_6 x1_7 x1_8 y2 x3_5 x3_6 y4 y5 y6 y7 y8 x9_6 y10 y11 y12 y13 y14 y15) sz) (wS52 K cI cJ cZ cB p0 p1 p2 p3 p4 p5 p6 p7 p8 p9 p10 p11 p12 p13 p14 p15 u_x0_3 u_x0_4 x0_5 x0_6 x0_7 x0_8 x0_9 x0_10 x0_11 x0_12 x0_13 x0_14 x1_1 x1_2 x1_3 x1_4 x1_5 x1_6 x1_7 x1_8 y2 x3_5 x3_6 y4 y5 y6 y7 y8 x9_6 y10 y11 y12 y13 y14 y15))) (va_A (wS52 K cI cJ cZ cB p0 p1 p2 p3 p4 p5 p6 p7 p8 p9 p10 p11 p12 p13 p14 p15 x0_3 x0_4 x0_5 x0_6 x0_7 x0_8 x0_9 x0_10 x0_11 x0_12 x0_13 x0_14 x1_1 x1_2 x1_3 x1_4 x1_5 x1_6 x1_7 x1_8 y2 x3_5 x3_6 y4 y5 y6 y7 y8 x9_6 y10 y11 y12 y13 y14 y15) sz)) 0 0 (va_A (wS52 K cI cJ cZ cB p0 p1 p2 p3 p4 p5 p6 p7 p8 p9 p10 p11 p12 p13 p14 p15 x0_3 x0_4 x0_5 x0_6 x0_7 x0_8 x0_9 x0_10 x0_11 x0_12 x0_13 x0_14 x1_1 x1_2 x1_3 x1_4 x1_5 x1_6 x1_7 x1_8 y2 x3_5 x3_6 y4 y5 y6 y7 y8 x9_6 y10 y11 y12 y13 y14 y15) sz) := by
  refine Met.ofW (cc := b_A_reckon) (maxL := 8) (ret := (some .long)) (by decide) rfl ?_
  intro p e s m args below meth c s₁ B hml hv
  obtain ⟨rfl, hsz, hK, hP, hD0, hC⟩ := hv
  subst hsz
  have hD := hD0.self (sz := s.heap.size)
  generalize hAe : va_A (wS52 K cI cJ cZ cB p0 p1 p2 p3 p4 p5 p6 p7 p8 p9 p10 p11 p12 p13 p14 p15 x0_3 x0_4 x0_5 x0_6 x0_7 x0_8 x0_9 x0_10 x0_11 x0_12 x0_13 x0_14 x1_1 x1_2 x1_3 x1_4 x1_5 x1_6 x1_7 x1_8 y2 x3_5 x3_6 y4 y5 y6 y7 y8 x9_6 y10 y11 y12 y13 y14 y15) s.heap.size = A at hD hC ⊢
  have hA : ∀ q : Nat, s.heap.size ≤ q → A q := fun q h => by rw [← hAe]; exact Or.inr h
  clear hAe hD0
  have hS : va_S A s.heap s.heap [] := va_S.rf
  have hx := B.exec
  have hb := B.bytes
  have hr := B.returns
  have hts := atoms_spec (ws := .code y_A_reckon b_A_reckon 8 (some .long) :: tb) B.pre
  have hk : ∀ w ∈ tb, w.before [.ref p0, .long a1, .int a2, .long a3].toArray s = true := fun w h => hts w (List.mem_cons_of_mem _ h)
  have hown : s.vm.findClass "SignMachine$Assembler" = some m.cls := findClass_of_methodNamed B.named
  have hlocks := B.notSynchronized
  have hl := lv_entry ([.ref p0, .long a1, .int a2, .long a3]) (n := 8) (Nat.le_of_ble_eq_true rfl)
  rw [lg_entry_eq]
  generalize (lg_sl ([.ref p0, .long a1, .int a2, .long a3]) ++ List.replicate (8 - (lg_sl ([.ref p0, .long a1, .int a2, .long a3])).length) Slot.unset).toArray = ls at hl ⊢
  have hl : lv_has ls 8 [(0, .ref p0), (1, .long a1), (3, .int a2), (4, .long a3)] := hl
  refine lv_iload_n hx hb d_A_reckon_0 rfl (lv_at hl 2 rfl) ?_
  by_cases c1 : a2 = (42 : Int32)
  · refine lv_lookup (off := 61) (tgt := 62) hx hb d_A_reckon_1 (by decide) (by rw [c1]; rfl) (by decide) ?_
    refine lv_lload_n hx hb d_A_reckon_62 rfl (lv_at hl 1 rfl) ?_
    refine lv_lload hx hb d_A_reckon_63 (lv_at hl 3 rfl) ?_
    refine lv_lmul hx hb d_A_reckon_65 ?_
    refine lv_topl (fun v2 hv2 => ?_)
    refine lv_lstore (lv' := [(6, .long v2), (0, .ref p0), (1, .long a1), (3, .int a2), (4, .long a3)]) hx hb d_A_reckon_66 hl (by decide) rfl (fun ls hl => ?_)
    refine lv_goto (tgt := 104) hx hb d_A_reckon_68 (by decide) ?_
    refine lv_lload hx hb d_A_reckon_104 (lv_at hl 0 rfl) ?_
    refine va_mabs_long hx hb (hml.trans hl.1.symm) hown (hk _ k_1014) (hk _ k_1015) (hk _ k_121) (hk _ k_abslc) (Nat.le_of_ble_eq_true rfl) (Nat.le_of_ble_eq_true rfl) (Nat.zero_le _) (Nat.zero_le _) d_A_reckon_106 ?_
    refine lv_topl (fun v3 hv3 => ?_)
    refine lv_ldc2 (v := 1073741823) hx hb hown (hk _ k_1017) d_A_reckon_109 ?_
    refine W.lcmp hx hb d_A_reckon_112 ?_
    refine lv_topi (fun v4 hv4 => ?_)
    refine lv_if_le (tgt := 125) hx hb d_A_reckon_113 (by decide) (fun c5 => ?_) (fun c5 => ?_)
    · refine lv_lload hx hb d_A_reckon_125 (lv_at hl 0 rfl) ?_
      exact W.lret (v := v2) hx hb hr (fun t ht hW => ⟨⟨v2, (), rfl, trivial, ⟨x0_3, x0_4, by show va_P D classes _ t.heap; rw [ht]; exact hP, hD⟩⟩, hS.F ht⟩) hS.2.2 d_A_reckon_127
    · refine lv_aload_n hx hb d_A_reckon_116 rfl (lv_at hl 1 rfl) ?_
      refine lv_iconst (v := 4) hx hb d_A_reckon_117 (by decide) ?_
      refine sn_i (va_runV (C := "SignMachine$Assembler") (As := [.int (4 : Int32)]) (rest := []) ⟨hx, hb, hml, hown, hk⟩ (c_A_fail_s1 l K D cI cJ cZ cB p0 p1 p2 p3 p4 p5 p6 p7 p8 p9 p10 p11 p12 p13 p14 p15 s.heap.size x0_3 x0_4 x0_5 x0_6 x0_7 x0_8 x0_9 x0_10 x0_11 x0_12 x0_13 x0_14 x1_1 x1_2 x1_3 x1_4 x1_5 x1_6 x1_7 x1_8 y2 x3_5 x3_6 y4 y5 y6 y7 y8 x9_6 y10 y11 y12 y13 y14 y15  (4 : Int32) ) (v_A_fail_s1 hk k_767 ⟨Nat.le_of_ble_eq_true rfl, Nat.le_of_ble_eq_true rfl⟩) (pMC_v hK hP hD hC hS hA (ci := 3) (q0 := 0) rfl rfl rfl) rfl rfl hl.1 rfl (lv_room (Nat.le_of_ble_eq_true rfl)) d_A_reckon_118 ⟨by decide, by decide⟩) hS hA hD (fun rz6 u t H locs hr0 ht hB hFr hS => ?_)
      obtain ⟨x0_3z6, x0_4z6, hP, hD⟩ := hB
      rw [ht] at hP
      have hD := dwk hD hFr
      clear ht hFr
      have hP : va_P D classes (wS52 K cI cJ cZ cB p0 p1 p2 p3 p4 p5 p6 p7 p8 p9 p10 p11 p12 p13 p14 p15 x0_3z6 x0_4z6 x0_5 x0_6 x0_7 x0_8 x0_9 x0_10 x0_11 x0_12 x0_13 x0_14 x1_1 x1_2 x1_3 x1_4 x1_5 x1_6 x1_7 x1_8 y2 x3_5 x3_6 y4 y5 y6 y7 y8 x9_6 y10 y11 y12 y13 y14 y15) H := hP
      have hD : va_D A (wS52 K cI cJ cZ cB p0 p1 p2 p3 p4 p5 p6 p7 p8 p9 p10 p11 p12 p13 p14 p15 x0_3z6 x0_4z6 x0_5 x0_6 x0_7 x0_8 x0_9 x0_10 x0_11 x0_12 x0_13 x0_14 x1_1 x1_2 x1_3 x1_4 x1_5 x1_6 x1_7 x1_8 y2 x3_5 x3_6 y4 y5 y6 y7 y8 x9_6 y10 y11 y12 y13 y14 y15) := hD
      refine lv_i2l (v := (rz6 : Int32).toInt64) hx hb d_A_reckon_121 rfl ?_
      refine lv_topl (fun v7 hv7 => ?_)
      refine lv_goto (tgt := 127) hx hb d_A_reckon_122 (by decide) ?_
      exact W.lret (v := v7) hx hb hr (fun t ht hW => ⟨⟨v7, (), rfl, trivial, ⟨x0_3z6, x0_4z6, by show va_P D classes _ t.heap; rw [ht]; exact hP, hD⟩⟩, hS.F ht⟩) hS.2.2 d_A_reckon_127
  · by_cases c8 : a2 = (43 : Int32)
    · refine lv_lookup (off := 43) (tgt := 44) hx hb d_A_reckon_1 (by decide) (by rw [c8]; rfl) (by decide) ?_
      refine lv_lload_n hx hb d_A_reckon_44 rfl (lv_at hl 1 rfl) ?_
      refine lv_lload hx hb d_A_reckon_45 (lv_at hl 3 rfl) ?_
      refine lv_ladd hx hb d_A_reckon_47 ?_
      refine lv_topl (fun v9 hv9 => ?_)
      refine lv_lstore (lv' := [(6, .long v9), (0, .ref p0), (1, .long a1), (3, .int a2), (4, .long a3)]) hx hb d_A_reckon_48 hl (by decide) rfl (fun ls hl => ?_)
      refine lv_goto (tgt := 104) hx hb d_A_reckon_50 (by decide) ?_
      refine lv_lload hx hb d_A_reckon_104 (lv_at hl 0 rfl) ?_
      refine va_mabs_long hx hb (hml.trans hl.1.symm) hown (hk _ k_1014) (hk _ k_1015) (hk _ k_121) (hk _ k_abslc) (Nat.le_of_ble_eq_true rfl) (Nat.le_of_ble_eq_true rfl) (Nat.zero_le _) (Nat.zero_le _) d_A_reckon_106 ?_
      refine lv_topl (fun v10 hv10 => ?_)
      refine lv_ldc2 (v := 1073741823) hx hb hown (hk _ k_1017) d_A_reckon_109 ?_
      refine W.lcmp hx hb d_A_reckon_112 ?_
      refine lv_topi (fun v11 hv11 => ?_)
      refine lv_if_le (tgt := 125) hx hb d_A_reckon_113 (by decide) (fun c12 => ?_) (fun c12 => ?_)
      · refine lv_lload hx hb d_A_reckon_125 (lv_at hl 0 rfl) ?_
        exact W.lret (v := v9) hx hb hr (fun t ht hW => ⟨⟨v9, (), rfl, trivial, ⟨x0_3, x0_4, by show va_P D classes _ t.heap; rw [ht]; exact hP, hD⟩⟩, hS.F ht⟩) hS.2.2 d_A_reckon_127
      · refine lv_aload_n hx hb d_A_reckon_116 rfl (lv_at hl 1 rfl) ?_
        refine lv_iconst (v := 4) hx hb d_A_reckon_117 (by decide) ?_
        refine sn_i (va_runV (C := "SignMachine$Assembler") (As := [.int (4 : Int32)]) (rest := []) ⟨hx, hb, hml, hown, hk⟩ (c_A_fail_s1 l K D cI cJ cZ cB p0 p1 p2 p3 p4 p5 p6 p7 p8 p9 p10 p11 p12 p13 p14 p15 s.heap.size x0_3 x0_4 x0_5 x0_6 x0_7 x0_8 x0_9 x0_10 x0_11 x0_12 x0_13 x0_14 x1_1 x1_2 x1_3 x1_4 x1_5 x1_6 x1_7 x1_8 y2 x3_5 x3_6 y4 y5 y6 y7 y8 x9_6 y10 y11 y12 y13 y14 y15  (4 : Int32) ) (v_A_fail_s1 hk k_767 ⟨Nat.le_of_ble_eq_true rfl, Nat.le_of_ble_eq_true rfl⟩) (pMC_v hK hP hD hC hS hA (ci := 3) (q0 := 0) rfl rfl rfl) rfl rfl hl.1 rfl (lv_room (Nat.le_of_ble_eq_true rfl)) d_A_reckon_118 ⟨by decide, by decide⟩) hS hA hD (fun rz13 u t H locs hr0 ht hB hFr hS => ?_)
        obtain ⟨x0_3z13, x0_4z13, hP, hD⟩ := hB
        rw [ht] at hP
        have hD := dwk hD hFr
        clear ht hFr
        have hP : va_P D classes (wS52 K cI cJ cZ cB p0 p1 p2 p3 p4 p5 p6 p7 p8 p9 p10 p11 p12 p13 p14 p15 x0_3z13 x0_4z13 x0_5 x0_6 x0_7 x0_8 x0_9 x0_10 x0_11 x0_12 x0_13 x0_14 x1_1 x1_2 x1_3 x1_4 x1_5 x1_6 x1_7 x1_8 y2 x3_5 x3_6 y4 y5 y6 y7 y8 x9_6 y10 y11 y12 y13 y14 y15) H := hP
        have hD : va_D A (wS52 K cI cJ cZ cB p0 p1 p2 p3 p4 p5 p6 p7 p8 p9 p10 p11 p12 p13 p14 p15 x0_3z13 x0_4z13 x0_5 x0_6 x0_7 x0_8 x0_9 x0_10 x0_11 x0_12 x0_13 x0_14 x1_1 x1_2 x1_3 x1_4 x1_5 x1_6 x1_7 x1_8 y2 x3_5 x3_6 y4 y5 y6 y7 y8 x9_6 y10 y11 y12 y13 y14 y15) := hD
        refine lv_i2l (v := (rz13 : Int32).toInt64) hx hb d_A_reckon_121 rfl ?_
        refine lv_topl (fun v14 hv14 => ?_)
        refine lv_goto (tgt := 127) hx hb d_A_reckon_122 (by decide) ?_
        exact W.lret (v := v14) hx hb hr (fun t ht hW => ⟨⟨v14, (), rfl, trivial, ⟨x0_3z13, x0_4z13, by show va_P D classes _ t.heap; rw [ht]; exact hP, hD⟩⟩, hS.F ht⟩) hS.2.2 d_A_reckon_127
    · by_cases c15 : a2 = (45 : Int32)
      · refine lv_lookup (off := 52) (tgt := 53) hx hb d_A_reckon_1 (by decide) (by rw [c15]; rfl) (by decide) ?_
        refine lv_lload_n hx hb d_A_reckon_53 rfl (lv_at hl 1 rfl) ?_
        refine lv_lload hx hb d_A_reckon_54 (lv_at hl 3 rfl) ?_
        refine lv_lsub hx hb d_A_reckon_56 ?_
        refine lv_topl (fun v16 hv16 => ?_)
        refine lv_lstore (lv' := [(6, .long v16), (0, .ref p0), (1, .long a1), (3, .int a2), (4, .long a3)]) hx hb d_A_reckon_57 hl (by decide) rfl (fun ls hl => ?_)
        refine lv_goto (tgt := 104) hx hb d_A_reckon_59 (by decide) ?_
        refine lv_lload hx hb d_A_reckon_104 (lv_at hl 0 rfl) ?_
        refine va_mabs_long hx hb (hml.trans hl.1.symm) hown (hk _ k_1014) (hk _ k_1015) (hk _ k_121) (hk _ k_abslc) (Nat.le_of_ble_eq_true rfl) (Nat.le_of_ble_eq_true rfl) (Nat.zero_le _) (Nat.zero_le _) d_A_reckon_106 ?_
        refine lv_topl (fun v17 hv17 => ?_)
        refine lv_ldc2 (v := 1073741823) hx hb hown (hk _ k_1017) d_A_reckon_109 ?_
        refine W.lcmp hx hb d_A_reckon_112 ?_
        refine lv_topi (fun v18 hv18 => ?_)
        refine lv_if_le (tgt := 125) hx hb d_A_reckon_113 (by decide) (fun c19 => ?_) (fun c19 => ?_)
        · refine lv_lload hx hb d_A_reckon_125 (lv_at hl 0 rfl) ?_
          exact W.lret (v := v16) hx hb hr (fun t ht hW => ⟨⟨v16, (), rfl, trivial, ⟨x0_3, x0_4, by show va_P D classes _ t.heap; rw [ht]; exact hP, hD⟩⟩, hS.F ht⟩) hS.2.2 d_A_reckon_127
        · refine lv_aload_n hx hb d_A_reckon_116 rfl (lv_at hl 1 rfl) ?_
          refine lv_iconst (v := 4) hx hb d_A_reckon_117 (by decide) ?_
          refine sn_i (va_runV (C := "SignMachine$Assembler") (As := [.int (4 : Int32)]) (rest := []) ⟨hx, hb, hml, hown, hk⟩ (c_A_fail_s1 l K D cI cJ cZ cB p0 p1 p2 p3 p4 p5 p6 p7 p8 p9 p10 p11 p12 p13 p14 p15 s.heap.size x0_3 x0_4 x0_5 x0_6 x0_7 x0_8 x0_9 x0_10 x0_11 x0_12 x0_13 x0_14 x1_1 x1_2 x1_3 x1_4 x1_5 x1_6 x1_7 x1_8 y2 x3_5 x3_6 y4 y5 y6 y7 y8 x9_6 y10 y11 y12 y13 y14 y15  (4 : Int32) ) (v_A_fail_s1 hk k_767 ⟨Nat.le_of_ble_eq_true rfl, Nat.le_of_ble_eq_true rfl⟩) (pMC_v hK hP hD hC hS hA (ci := 3) (q0 := 0) rfl rfl rfl) rfl rfl hl.1 rfl (lv_room (Nat.le_of_ble_eq_true rfl)) d_A_reckon_118 ⟨by decide, by decide⟩) hS hA hD (fun rz20 u t H locs hr0 ht hB hFr hS => ?_)
          obtain ⟨x0_3z20, x0_4z20, hP, hD⟩ := hB
          rw [ht] at hP
          have hD := dwk hD hFr
          clear ht hFr
          have hP : va_P D classes (wS52 K cI cJ cZ cB p0 p1 p2 p3 p4 p5 p6 p7 p8 p9 p10 p11 p12 p13 p14 p15 x0_3z20 x0_4z20 x0_5 x0_6 x0_7 x0_8 x0_9 x0_10 x0_11 x0_12 x0_13 x0_14 x1_1 x1_2 x1_3 x1_4 x1_5 x1_6 x1_7 x1_8 y2 x3_5 x3_6 y4 y5 y6 y7 y8 x9_6 y10 y11 y12 y13 y14 y15) H := hP
          have hD : va_D A (wS52 K cI cJ cZ cB p0 p1 p2 p3 p4 p5 p6 p7 p8 p9 p10 p11 p12 p13 p14 p15 x0_3z20 x0_4z20 x0_5 x0_6 x0_7 x0_8 x0_9 x0_10 x0_11 x0_12 x0_13 x0_14 x1_1 x1_2 x1_3 x1_4 x1_5 x1_6 x1_7 x1_8 y2 x3_5 x3_6 y4 y5 y6 y7 y8 x9_6 y10 y11 y12 y13 y14 y15) := hD
          refine lv_i2l (v := (rz20 : Int32).toInt64) hx hb d_A_reckon_121 rfl ?_
          refine lv_topl (fun v21 hv21 => ?_)
          refine lv_goto (tgt := 127) hx hb d_A_reckon_122 (by decide) ?_
          exact W.lret (v := v21) hx hb hr (fun t ht hW => ⟨⟨v21, (), rfl, trivial, ⟨x0_3z20, x0_4z20, by show va_P D classes _ t.heap; rw [ht]; exact hP, hD⟩⟩, hS.F ht⟩) hS.2.2 d_A_reckon_127
      · by_cases c22 : a2 = (58 : Int32)
        · refine lv_lookup (off := 70) (tgt := 71) hx hb d_A_reckon_1 (by decide) (by rw [c22]; rfl) (by decide) ?_
          refine lv_ldc2 (v := 8) hx hb hown (hk _ k_1013) d_A_reckon_71 ?_
          refine lv_lload_n hx hb d_A_reckon_74 rfl (lv_at hl 1 rfl) ?_
          refine lv_lmul hx hb d_A_reckon_75 ?_
          refine lv_topl (fun v23 hv23 => ?_)
          refine lv_lload hx hb d_A_reckon_76 (lv_at hl 3 rfl) ?_
          refine lv_ladd hx hb d_A_reckon_78 ?_
          refine lv_topl (fun v24 hv24 => ?_)
          refine lv_lstore (lv' := [(6, .long v24), (0, .ref p0), (1, .long a1), (3, .int a2), (4, .long a3)]) hx hb d_A_reckon_79 hl (by decide) rfl (fun ls hl => ?_)
          refine lv_goto (tgt := 104) hx hb d_A_reckon_81 (by decide) ?_
          refine lv_lload hx hb d_A_reckon_104 (lv_at hl 0 rfl) ?_
          refine va_mabs_long hx hb (hml.trans hl.1.symm) hown (hk _ k_1014) (hk _ k_1015) (hk _ k_121) (hk _ k_abslc) (Nat.le_of_ble_eq_true rfl) (Nat.le_of_ble_eq_true rfl) (Nat.zero_le _) (Nat.zero_le _) d_A_reckon_106 ?_
          refine lv_topl (fun v25 hv25 => ?_)
          refine lv_ldc2 (v := 1073741823) hx hb hown (hk _ k_1017) d_A_reckon_109 ?_
          refine W.lcmp hx hb d_A_reckon_112 ?_
          refine lv_topi (fun v26 hv26 => ?_)
          refine lv_if_le (tgt := 125) hx hb d_A_reckon_113 (by decide) (fun c27 => ?_) (fun c27 => ?_)
          · refine lv_lload hx hb d_A_reckon_125 (lv_at hl 0 rfl) ?_
            exact W.lret (v := v24) hx hb hr (fun t ht hW => ⟨⟨v24, (), rfl, trivial, ⟨x0_3, x0_4, by show va_P D classes _ t.heap; rw [ht]; exact hP, hD⟩⟩, hS.F ht⟩) hS.2.2 d_A_reckon_127
          · refine lv_aload_n hx hb d_A_reckon_116 rfl (lv_at hl 1 rfl) ?_
            refine lv_iconst (v := 4) hx hb d_A_reckon_117 (by decide) ?_
            refine sn_i (va_runV (C := "SignMachine$Assembler") (As := [.int (4 : Int32)]) (rest := []) ⟨hx, hb, hml, hown, hk⟩ (c_A_fail_s1 l K D cI cJ cZ cB p0 p1 p2 p3 p4 p5 p6 p7 p8 p9 p10 p11 p12 p13 p14 p15 s.heap.size x0_3 x0_4 x0_5 x0_6 x0_7 x0_8 x0_9 x0_10 x0_11 x0_12 x0_13 x0_14 x1_1 x1_2 x1_3 x1_4 x1_5 x1_6 x1_7 x1_8 y2 x3_5 x3_6 y4 y5 y6 y7 y8 x9_6 y10 y11 y12 y13 y14 y15  (4 : Int32) ) (v_A_fail_s1 hk k_767 ⟨Nat.le_of_ble_eq_true rfl, Nat.le_of_ble_eq_true rfl⟩) (pMC_v hK hP hD hC hS hA (ci := 3) (q0 := 0) rfl rfl rfl) rfl rfl hl.1 rfl (lv_room (Nat.le_of_ble_eq_true rfl)) d_A_reckon_118 ⟨by decide, by decide⟩) hS hA hD (fun rz28 u t H locs hr0 ht hB hFr hS => ?_)
            obtain ⟨x0_3z28, x0_4z28, hP, hD⟩ := hB
            rw [ht] at hP
            have hD := dwk hD hFr
            clear ht hFr
            have hP : va_P D classes (wS52 K cI cJ cZ cB p0 p1 p2 p3 p4 p5 p6 p7 p8 p9 p10 p11 p12 p13 p14 p15 x0_3z28 x0_4z28 x0_5 x0_6 x0_7 x0_8 x0_9 x0_10 x0_11 x0_12 x0_13 x0_14 x1_1 x1_2 x1_3 x1_4 x1_5 x1_6 x1_7 x1_8 y2 x3_5 x3_6 y4 y5 y6 y7 y8 x9_6 y10 y11 y12 y13 y14 y15) H := hP
            have hD : va_D A (wS52 K cI cJ cZ cB p0 p1 p2 p3 p4 p5 p6 p7 p8 p9 p10 p11 p12 p13 p14 p15 x0_3z28 x0_4z28 x0_5 x0_6 x0_7 x0_8 x0_9 x0_10 x0_11 x0_12 x0_13 x0_14 x1_1 x1_2 x1_3 x1_4 x1_5 x1_6 x1_7 x1_8 y2 x3_5 x3_6 y4 y5 y6 y7 y8 x9_6 y10 y11 y12 y13 y14 y15) := hD
            refine lv_i2l (v := (rz28 : Int32).toInt64) hx hb d_A_reckon_121 rfl ?_
            refine lv_topl (fun v29 hv29 => ?_)
            refine lv_goto (tgt := 127) hx hb d_A_reckon_122 (by decide) ?_
            exact W.lret (v := v29) hx hb hr (fun t ht hW => ⟨⟨v29, (), rfl, trivial, ⟨x0_3z28, x0_4z28, by show va_P D classes _ t.heap; rw [ht]; exact hP, hD⟩⟩, hS.F ht⟩) hS.2.2 d_A_reckon_127
        · refine lv_lookup (off := 83) (tgt := 84) hx hb d_A_reckon_1 (by decide) (by show Op.lookupswitch.offset [(42, 61), (43, 43), (45, 52), (58, 70)] 83 _ = _; rw [lv_osw c1 (a := 42) rfl, lv_osw c8 (a := 43) rfl, lv_osw c15 (a := 45) rfl, lv_osw c22 (a := 58) rfl]; rfl) (by decide) ?_
          refine lv_lload hx hb d_A_reckon_84 (lv_at hl 3 rfl) ?_
          refine lv_lconst (v := 0) hx hb d_A_reckon_86 (by decide) ?_
          refine W.lcmp hx hb d_A_reckon_87 ?_
          refine lv_topi (fun v30 hv30 => ?_)
          refine lv_if_ne (tgt := 98) hx hb d_A_reckon_88 (by decide) (fun c31 => ?_) (fun c31 => ?_)
          · refine lv_lload_n hx hb d_A_reckon_98 rfl (lv_at hl 1 rfl) ?_
            refine lv_lload hx hb d_A_reckon_99 (lv_at hl 3 rfl) ?_
            refine lv_ldiv hx hb d_A_reckon_101 (lc_ne (by rw [← hv30]; exact c31)) ?_
            refine lv_topl (fun v32 hv32 => ?_)
            refine lv_lstore (lv' := [(6, .long v32), (0, .ref p0), (1, .long a1), (3, .int a2), (4, .long a3)]) hx hb d_A_reckon_102 hl (by decide) rfl (fun ls hl => ?_)
            refine lv_lload hx hb d_A_reckon_104 (lv_at hl 0 rfl) ?_
            refine va_mabs_long hx hb (hml.trans hl.1.symm) hown (hk _ k_1014) (hk _ k_1015) (hk _ k_121) (hk _ k_abslc) (Nat.le_of_ble_eq_true rfl) (Nat.le_of_ble_eq_true rfl) (Nat.zero_le _) (Nat.zero_le _) d_A_reckon_106 ?_
            refine lv_topl (fun v33 hv33 => ?_)
            refine lv_ldc2 (v := 1073741823) hx hb hown (hk _ k_1017) d_A_reckon_109 ?_
            refine W.lcmp hx hb d_A_reckon_112 ?_
            refine lv_topi (fun v34 hv34 => ?_)
            refine lv_if_le (tgt := 125) hx hb d_A_reckon_113 (by decide) (fun c35 => ?_) (fun c35 => ?_)
            · refine lv_lload hx hb d_A_reckon_125 (lv_at hl 0 rfl) ?_
              exact W.lret (v := v32) hx hb hr (fun t ht hW => ⟨⟨v32, (), rfl, trivial, ⟨x0_3, x0_4, by show va_P D classes _ t.heap; rw [ht]; exact hP, hD⟩⟩, hS.F ht⟩) hS.2.2 d_A_reckon_127
            · refine lv_aload_n hx hb d_A_reckon_116 rfl (lv_at hl 1 rfl) ?_
              refine lv_iconst (v := 4) hx hb d_A_reckon_117 (by decide) ?_
              refine sn_i (va_runV (C := "SignMachine$Assembler") (As := [.int (4 : Int32)]) (rest := []) ⟨hx, hb, hml, hown, hk⟩ (c_A_fail_s1 l K D cI cJ cZ cB p0 p1 p2 p3 p4 p5 p6 p7 p8 p9 p10 p11 p12 p13 p14 p15 s.heap.size x0_3 x0_4 x0_5 x0_6 x0_7 x0_8 x0_9 x0_10 x0_11 x0_12 x0_13 x0_14 x1_1 x1_2 x1_3 x1_4 x1_5 x1_6 x1_7 x1_8 y2 x3_5 x3_6 y4 y5 y6 y7 y8 x9_6 y10 y11 y12 y13 y14 y15  (4 : Int32) ) (v_A_fail_s1 hk k_767 ⟨Nat.le_of_ble_eq_true rfl, Nat.le_of_ble_eq_true rfl⟩) (pMC_v hK hP hD hC hS hA (ci := 3) (q0 := 0) rfl rfl rfl) rfl rfl hl.1 rfl (lv_room (Nat.le_of_ble_eq_true rfl)) d_A_reckon_118 ⟨by decide, by decide⟩) hS hA hD (fun rz36 u t H locs hr0 ht hB hFr hS => ?_)
              obtain ⟨x0_3z36, x0_4z36, hP, hD⟩ := hB
              rw [ht] at hP
              have hD := dwk hD hFr
              clear ht hFr
              have hP : va_P D classes (wS52 K cI cJ cZ cB p0 p1 p2 p3 p4 p5 p6 p7 p8 p9 p10 p11 p12 p13 p14 p15 x0_3z36 x0_4z36 x0_5 x0_6 x0_7 x0_8 x0_9 x0_10 x0_11 x0_12 x0_13 x0_14 x1_1 x1_2 x1_3 x1_4 x1_5 x1_6 x1_7 x1_8 y2 x3_5 x3_6 y4 y5 y6 y7 y8 x9_6 y10 y11 y12 y13 y14 y15) H := hP
              have hD : va_D A (wS52 K cI cJ cZ cB p0 p1 p2 p3 p4 p5 p6 p7 p8 p9 p10 p11 p12 p13 p14 p15 x0_3z36 x0_4z36 x0_5 x0_6 x0_7 x0_8 x0_9 x0_10 x0_11 x0_12 x0_13 x0_14 x1_1 x1_2 x1_3 x1_4 x1_5 x1_6 x1_7 x1_8 y2 x3_5 x3_6 y4 y5 y6 y7 y8 x9_6 y10 y11 y12 y13 y14 y15) := hD
              refine lv_i2l (v := (rz36 : Int32).toInt64) hx hb d_A_reckon_121 rfl ?_
              refine lv_topl (fun v37 hv37 => ?_)
              refine lv_goto (tgt := 127) hx hb d_A_reckon_122 (by decide) ?_
              exact W.lret (v := v37) hx hb hr (fun t ht hW => ⟨⟨v37, (), rfl, trivial, ⟨x0_3z36, x0_4z36, by show va_P D classes _ t.heap; rw [ht]; exact hP, hD⟩⟩, hS.F ht⟩) hS.2.2 d_A_reckon_127
          · refine lv_aload_n hx hb d_A_reckon_91 rfl (lv_at hl 0 rfl) ?_
            refine lv_iconst (v := 4) hx hb d_A_reckon_92 (by decide) ?_
            refine sn_i (va_runV (C := "SignMachine$Assembler") (As := [.int (4 : Int32)]) (rest := []) ⟨hx, hb, hml, hown, hk⟩ (c_A_fail_s1 l K D cI cJ cZ cB p0 p1 p2 p3 p4 p5 p6 p7 p8 p9 p10 p11 p12 p13 p14 p15 s.heap.size x0_3 x0_4 x0_5 x0_6 x0_7 x0_8 x0_9 x0_10 x0_11 x0_12 x0_13 x0_14 x1_1 x1_2 x1_3 x1_4 x1_5 x1_6 x1_7 x1_8 y2 x3_5 x3_6 y4 y5 y6 y7 y8 x9_6 y10 y11 y12 y13 y14 y15  (4 : Int32) ) (v_A_fail_s1 hk k_767 ⟨Nat.le_of_ble_eq_true rfl, Nat.le_of_ble_eq_true rfl⟩) (pMC_v hK hP hD hC hS hA (ci := 3) (q0 := 0) rfl rfl rfl) rfl rfl hl.1 rfl (lv_room (Nat.le_of_ble_eq_true rfl)) d_A_reckon_93 ⟨by decide, by decide⟩) hS hA hD (fun rz38 u t H locs hr0 ht hB hFr hS => ?_)
            obtain ⟨x0_3z38, x0_4z38, hP, hD⟩ := hB
            rw [ht] at hP
            have hD := dwk hD hFr
            clear ht hFr
            have hP : va_P D classes (wS52 K cI cJ cZ cB p0 p1 p2 p3 p4 p5 p6 p7 p8 p9 p10 p11 p12 p13 p14 p15 x0_3z38 x0_4z38 x0_5 x0_6 x0_7 x0_8 x0_9 x0_10 x0_11 x0_12 x0_13 x0_14 x1_1 x1_2 x1_3 x1_4 x1_5 x1_6 x1_7 x1_8 y2 x3_5 x3_6 y4 y5 y6 y7 y8 x9_6 y10 y11 y12 y13 y14 y15) H := hP
            have hD : va_D A (wS52 K cI cJ cZ cB p0 p1 p2 p3 p4 p5 p6 p7 p8 p9 p10 p11 p12 p13 p14 p15 x0_3z38 x0_4z38 x0_5 x0_6 x0_7 x0_8 x0_9 x0_10 x0_11 x0_12 x0_13 x0_14 x1_1 x1_2 x1_3 x1_4 x1_5 x1_6 x1_7 x1_8 y2 x3_5 x3_6 y4 y5 y6 y7 y8 x9_6 y10 y11 y12 y13 y14 y15) := hD
            refine lv_i2l (v := (rz38 : Int32).toInt64) hx hb d_A_reckon_96 rfl ?_
            refine lv_topl (fun v39 hv39 => ?_)
            exact W.lret (v := v39) hx hb hr (fun t ht hW => ⟨⟨v39, (), rfl, trivial, ⟨x0_3z38, x0_4z38, by show va_P D classes _ t.heap; rw [ht]; exact hP, hD⟩⟩, hS.F ht⟩) hS.2.2 d_A_reckon_97
theorem v_A_reckon_s1 {R : Room} {s : State} {args : Array Value} {own : String} {index : Nat} (hk : ∀ w ∈ tb, w.before args s = true) (hl : Cond.methodLink own index y_A_reckon ∈ tb) (hR : 1 + 1 ≤ R.frames ∧ 8 + (8 + 11) + 21 ≤ R.locals) : CallW R s args own "SignMachine$Assembler" index y_A_reckon b_A_reckon 8 (some .long) (.code y_A_reckon b_A_reckon 8 (some .long) :: tb) ({ frames := 1, cells := 0, slots := 0, locals := 21 }) 0 0 3 := mk_v 3 hk k_1012 hl k_1011 k_50 k_123 rfl rfl h_A_reckon hR
set_option maxHeartbeats 4000000 in
set_option maxRecDepth 100000 in
theorem c_A_readExp_s1 (l : Launch) (K : CK) (D : va_G) (cI cJ cZ cB : ClassId) (p0 p1 p2 p3 p4 p5 p6 p7 p8 p9 p10 p11 p12 p13 p14 p15 : Nat) (sz : Nat) (x0_3 : Int32) (x0_4 : Int32) (x0_5 : Int32) (x0_6 : Int32) (x0_7 : Int32) (x0_8 : Bool) (x0_9 : Int64) (x0_10 : Int32) (x0_11 : Option (Fin 51)) (x0_12 : Int32) (x0_13 : Int32) (x0_14 : Int32) (x1_1 : Int32) (x1_2 : Int32) (x1_3 : Int32) (x1_4 : Int32) (x1_5 : Int32) (x1_6 : Int32) (x1_7 : Int64) (x1_8 : Int32) (y2 : Nat → Int32) (x3_5 : Int32) (x3_6 : Int32) (y4 : Nat → Int64) (y5 : Nat → Int32) (y6 : Nat → Int32) (y7 : Nat → Int32) (y8 : Nat → Int32) (x9_6 : Int32) (y10 : Nat → Int32) (y11 : Nat → Int32) (y12 : Nat → Int32) (y13 : Nat → Int32) (y14 : Nat → Int32) (y15 : Nat → Int32)   : Met l y_A_readExp (.code y_A_readExp b_A_readExp 7 (some .int) :: tb) ({ frames := 2, cells := 0, slots := 0, locals := 48 }) (pMC K D cI cJ cZ cB (wS52 K cI cJ cZ cB p0 p1 p2 p3 p4 p5 p6 p7 p8 p9 p10 p11 p12 p13 p14 p15 x0_3 x0_4 x0_5 x0_6 x0_7 x0_8 x0_9 x0_10 x0_11 x0_12 x0_13 x0_14 x1_1 x1_2 x1_3 x1_4 x1_5 x1_6 x1_7 x1_8 y2 x3_5 x3_6 y4 y5 y6 y7 y8 x9_6 y10 y11 y12 y13 y14 y15) sz [.ref p0]) (va_Qi (fun r (_ : Unit) => True) (fun _ t => (∃ u_x0_3 : Int32, ∃ u_x0_4 : Int32, ∃ u_x1_3 : Int32, ∃ u_x1_6 : Int32, ∃ u_x1_7 : Int64, ∃ u_x1_8 : Int32, va_P D classes (wS52 K cI cJ cZ cB p0 p1 p2 p3 p4 p5 p6 p7 p8 p9 p10 p11 p12 p13 p14 p15 u_x0_3 u_x0_4 x0_5 x0_6 x0_7 x0_8 x0_9 x0_10 x0_11 x0_12 x0_13 x0_14 x1_1 x1_2 u_x1_3 x1_4 x1_5 u_x1_6 u_x1_7 u_x1_8 y2 x3_5 x3_6 y4 y5 y6 y7 y8 x9_6 y10 y11 y12 y13 y14 y15) t.heap ∧ va_D (va_A (wS52 K cI cJ cZ cB p0 p1 p2 p3 p4 p5 p6 p7 p8 p9 p10 p11 p12 p13 p14 p15 x0_3 x0_4 x0_5 x0_6 x0_7 x0_8 x0_9 x0_10 x0_11 x0_12 x0_13 x0_14 x1_1 x1_2 x1_3 x1_4 x1_5 x1_6 x1_7 x1_8 y2 x3_5 x3_6 y4 y5 y6 y7 y8 x9_6 y10 y11 y12 y13 y14 y15) sz) (wS52 K cI cJ cZ cB p0 p1 p2 p3 p4 p5 p6 p7 p8 p9 p10 p11 p12 p13 p14 p15 u_x0_3 u_x0_4 x0_5 x0_6 x0_7 x0_8 x0_9 x0_10 x0_11 x0_12 x0_13 x0_14 x1_1 x1_2 u_x1_3 x1_4 x1_5 u_x1_6 u_x1_7 u_x1_8 y2 x3_5 x3_6 y4 y5 y6 y7 y8 x9_6 y10 y11 y12 y13 y14 y15))) (va_A (wS52 K cI cJ cZ cB p0 p1 p2 p3 p4 p5 p6 p7 p8 p9 p10 p11 p12 p13 p14 p15 x0_3 x0_4 x0_5 x0_6 x0_7 x0_8 x0_9 x0_10 x0_11 x0_12 x0_13 x0_14 x1_1 x1_2 x1_3 x1_4 x1_5 x1_6 x1_7 x1_8 y2 x3_5 x3_6 y4 y5 y6 y7 y8 x9_6 y10 y11 y12 y13 y14 y15) sz)) 0 0 (va_A (wS52 K cI cJ cZ cB p0 p1 p2 p3 p4 p5 p6 p7 p8 p9 p10 p11 p12 p13 p14 p15 x0_3 x0_4 x0_5 x0_6 x0_7 x0_8 x0_9 x0_10 x0_11 x0_12 x0_13 x0_14 x1_1 x1_2 x1_3 x1_4 x1_5 x1_6 x1_7 x1_8 y2 x3_5 x3_6 y4 y5 y6 y7 y8 x9_6 y10 y11 y12 y13 y14 y15) sz) := by
  refine Met.ofW (cc := b_A_readExp) (maxL := 7) (ret := (some .int)) (by decide) rfl ?_
  intro p e s m args below meth c s₁ B hml hv
  obtain ⟨rfl, hsz, hK, hP, hD0, hC⟩ := hv
  subst hsz
  have hD := hD0.self (sz := s.heap.size)
  generalize hAe : va_A (wS52 K cI cJ cZ cB p0 p1 p2 p3 p4 p5 p6 p7 p8 p9 p10 p11 p12 p13 p14 p15 x0_3 x0_4 x0_5 x0_6 x0_7 x0_8 x0_9 x0_10 x0_11 x0_12 x0_13 x0_14 x1_1 x1_2 x1_3 x1_4 x1_5 x1_6 x1_7 x1_8 y2 x3_5 x3_6 y4 y5 y6 y7 y8 x9_6 y10 y11 y12 y13 y14 y15) s.heap.size = A at hD hC ⊢
  have hA : ∀ q : Nat, s.heap.size ≤ q → A q := fun q h => by rw [← hAe]; exact Or.inr h
  clear hAe hD0
  have hS : va_S A s.heap s.heap [] := va_S.rf
  have hx := B.exec
  have hb := B.bytes
  have hr := B.returns
  have hts := atoms_spec (ws := .code y_A_readExp b_A_readExp 7 (some .int) :: tb) B.pre
  have hk : ∀ w ∈ tb, w.before [.ref p0].toArray s = true := fun w h => hts w (List.mem_cons_of_mem _ h)
  have hown : s.vm.findClass "SignMachine$Assembler" = some m.cls := findClass_of_methodNamed B.named
  have hlocks := B.notSynchronized
  have hl := lv_entry ([.ref p0]) (n := 7) (Nat.le_of_ble_eq_true rfl)
  rw [lg_entry_eq]
  generalize (lg_sl ([.ref p0]) ++ List.replicate (7 - (lg_sl ([.ref p0])).length) Slot.unset).toArray = ls at hl ⊢
  have hl : lv_has ls 7 [(0, .ref p0)] := hl
  refine lv_lconst (v := 0) hx hb d_A_readExp_0 (by decide) ?_
  refine lv_lstore_n (lv' := [(1, .long (0 : Int64)), (0, .ref p0)]) hx hb d_A_readExp_1 rfl hl (by decide) rfl (fun ls hl => ?_)
  refine lv_bipush (v := 43) hx hb d_A_readExp_2 (by decide) ?_
  refine lv_istore_n (lv' := [(3, .int (43 : Int32)), (1, .long (0 : Int64)), (0, .ref p0)]) hx hb d_A_readExp_4 rfl hl (by decide) rfl (fun ls hl => ?_)
  refine lv_aload_n hx hb d_A_readExp_5 rfl (lv_at hl 2 rfl) ?_
  refine va_get (D := D) (ci := 3) (v := .ref p1) (C := "SignMachine$Assembler") (T := F_A) (N := 15) hx hb hk fi_A hown hK.1 hP 0 rfl rfl 0 (by decide) (hk _ k_631) (fun _ h9 => h9) rfl d_A_readExp_6 ?_
  refine sn_i (va_runV (C := "SignMachine$Source") (As := []) (rest := []) ⟨hx, hb, hml, hown, hk⟩ (c_R_peek_s1 l K D cI cJ cZ cB p0 p1 p2 p3 p4 p5 p6 p7 p8 p9 p10 p11 p12 p13 p14 p15 s.heap.size x0_3 x0_4 x0_5 x0_6 x0_7 x0_8 x0_9 x0_10 x0_11 x0_12 x0_13 x0_14 x1_1 x1_2 x1_3 x1_4 x1_5 x1_6 x1_7 x1_8 y2 x3_5 x3_6 y4 y5 y6 y7 y8 x9_6 y10 y11 y12 y13 y14 y15   ) (v_R_peek_s1 hk k_739 ⟨Nat.le_of_ble_eq_true rfl, Nat.le_of_ble_eq_true rfl⟩) (pMC_v hK hP hD hC hS hA (ci := 4) (q0 := 1) rfl rfl rfl) rfl rfl hl.1 rfl (lv_room (Nat.le_of_ble_eq_true rfl)) d_A_readExp_9 ⟨by decide, by decide⟩) hS hA hD (fun rz1 u t H locs hr0 ht hB hFr hS => ?_)
  obtain ⟨hP, hD⟩ := hB
  rw [ht] at hP
  have hD := dwk hD hFr
  clear ht hFr
  have hP : va_P D classes (wS52 K cI cJ cZ cB p0 p1 p2 p3 p4 p5 p6 p7 p8 p9 p10 p11 p12 p13 p14 p15 x0_3 x0_4 x0_5 x0_6 x0_7 x0_8 x0_9 x0_10 x0_11 x0_12 x0_13 x0_14 x1_1 x1_2 x1_3 x1_4 x1_5 x1_6 x1_7 x1_8 y2 x3_5 x3_6 y4 y5 y6 y7 y8 x9_6 y10 y11 y12 y13 y14 y15) H := hP
  have hD : va_D A (wS52 K cI cJ cZ cB p0 p1 p2 p3 p4 p5 p6 p7 p8 p9 p10 p11 p12 p13 p14 p15 x0_3 x0_4 x0_5 x0_6 x0_7 x0_8 x0_9 x0_10 x0_11 x0_12 x0_13 x0_14 x1_1 x1_2 x1_3 x1_4 x1_5 x1_6 x1_7 x1_8 y2 x3_5 x3_6 y4 y5 y6 y7 y8 x9_6 y10 y11 y12 y13 y14 y15) := hD
  refine lv_bipush (v := 43) hx hb d_A_readExp_12 (by decide) ?_
  refine lv_icmp_eq (tgt := 29) hx hb d_A_readExp_14 (by decide) (fun c2 => ?_) (fun c2 => ?_)
  · refine lv_aload_n hx hb d_A_readExp_29 rfl (lv_at hl 2 rfl) ?_
    refine va_get (D := D) (ci := 3) (v := .ref p1) (C := "SignMachine$Assembler") (T := F_A) (N := 15) hx hb hk fi_A hown hK.1 hP 0 rfl rfl 0 (by decide) (hk _ k_631) (fun _ h9 => h9) rfl d_A_readExp_30 ?_
    refine sn_i (va_runV (C := "SignMachine$Source") (As := []) (rest := []) ⟨hx, hb, hml, hown, hk⟩ (c_R_peek_s1 l K D cI cJ cZ cB p0 p1 p2 p3 p4 p5 p6 p7 p8 p9 p10 p11 p12 p13 p14 p15 H.size x0_3 x0_4 x0_5 x0_6 x0_7 x0_8 x0_9 x0_10 x0_11 x0_12 x0_13 x0_14 x1_1 x1_2 x1_3 x1_4 x1_5 x1_6 x1_7 x1_8 y2 x3_5 x3_6 y4 y5 y6 y7 y8 x9_6 y10 y11 y12 y13 y14 y15   ) (v_R_peek_s1 hk k_739 ⟨Nat.le_of_ble_eq_true rfl, Nat.le_of_ble_eq_true rfl⟩) (pMC_v hK hP hD hC hS hA (ci := 4) (q0 := 1) rfl rfl rfl) rfl rfl hl.1 rfl (lv_room (Nat.le_of_ble_eq_true rfl)) d_A_readExp_33 ⟨by decide, by decide⟩) hS hA hD (fun rz3 u t H locs hr0 ht hB hFr hS => ?_)
    obtain ⟨hP, hD⟩ := hB
    rw [ht] at hP
    have hD := dwk hD hFr
    clear ht hFr
    have hP : va_P D classes (wS52 K cI cJ cZ cB p0 p1 p2 p3 p4 p5 p6 p7 p8 p9 p10 p11 p12 p13 p14 p15 x0_3 x0_4 x0_5 x0_6 x0_7 x0_8 x0_9 x0_10 x0_11 x0_12 x0_13 x0_14 x1_1 x1_2 x1_3 x1_4 x1_5 x1_6 x1_7 x1_8 y2 x3_5 x3_6 y4 y5 y6 y7 y8 x9_6 y10 y11 y12 y13 y14 y15) H := hP
    have hD : va_D A (wS52 K cI cJ cZ cB p0 p1 p2 p3 p4 p5 p6 p7 p8 p9 p10 p11 p12 p13 p14 p15 x0_3 x0_4 x0_5 x0_6 x0_7 x0_8 x0_9 x0_10 x0_11 x0_12 x0_13 x0_14 x1_1 x1_2 x1_3 x1_4 x1_5 x1_6 x1_7 x1_8 y2 x3_5 x3_6 y4 y5 y6 y7 y8 x9_6 y10 y11 y12 y13 y14 y15) := hD
    refine lv_istore_n (lv' := [(3, .int rz3), (1, .long (0 : Int64)), (0, .ref p0)]) hx hb d_A_readExp_36 rfl hl (by decide) rfl (fun ls hl => ?_)
    refine lv_aload_n hx hb d_A_readExp_37 rfl (lv_at hl 2 rfl) ?_
    refine va_get (D := D) (ci := 3) (v := .ref p1) (C := "SignMachine$Assembler") (T := F_A) (N := 15) hx hb hk fi_A hown hK.1 hP 0 rfl rfl 0 (by decide) (hk _ k_631) (fun _ h9 => h9) rfl d_A_readExp_38 ?_
    refine kn_v (va_runV (C := "SignMachine$Source") (As := []) (rest := []) ⟨hx, hb, hml, hown, hk⟩ (c_R_skip_s1 l K D cI cJ cZ cB p0 p1 p2 p3 p4 p5 p6 p7 p8 p9 p10 p11 p12 p13 p14 p15 H.size x0_3 x0_4 x0_5 x0_6 x0_7 x0_8 x0_9 x0_10 x0_11 x0_12 x0_13 x0_14 x1_1 x1_2 x1_3 x1_4 x1_5 x1_6 x1_7 x1_8 y2 x3_5 x3_6 y4 y5 y6 y7 y8 x9_6 y10 y11 y12 y13 y14 y15   ) (v_R_skip_s1 hk k_960 ⟨Nat.le_of_ble_eq_true rfl, Nat.le_of_ble_eq_true rfl⟩) (pMC_v hK hP hD hC hS hA (ci := 4) (q0 := 1) rfl rfl rfl) rfl rfl hl.1 rfl (lv_room (Nat.le_of_ble_eq_true rfl)) d_A_readExp_41 ⟨by decide, by decide⟩) hS hA hD (fun u t H locs ht hB hFr hS => ?_)
    obtain ⟨x1_3z4, hP, hD⟩ := hB
    rw [ht] at hP
    have hD := dwk hD hFr
    clear ht hFr
    have hP : va_P D classes (wS52 K cI cJ cZ cB p0 p1 p2 p3 p4 p5 p6 p7 p8 p9 p10 p11 p12 p13 p14 p15 x0_3 x0_4 x0_5 x0_6 x0_7 x0_8 x0_9 x0_10 x0_11 x0_12 x0_13 x0_14 x1_1 x1_2 x1_3z4 x1_4 x1_5 x1_6 x1_7 x1_8 y2 x3_5 x3_6 y4 y5 y6 y7 y8 x9_6 y10 y11 y12 y13 y14 y15) H := hP
    have hD : va_D A (wS52 K cI cJ cZ cB p0 p1 p2 p3 p4 p5 p6 p7 p8 p9 p10 p11 p12 p13 p14 p15 x0_3 x0_4 x0_5 x0_6 x0_7 x0_8 x0_9 x0_10 x0_11 x0_12 x0_13 x0_14 x1_1 x1_2 x1_3z4 x1_4 x1_5 x1_6 x1_7 x1_8 y2 x3_5 x3_6 y4 y5 y6 y7 y8 x9_6 y10 y11 y12 y13 y14 y15) := hD
    refine lv_iconst (v := 0) hx hb d_A_readExp_44 (by decide) ?_
    refine lv_istore (lv' := [(4, .int (0 : Int32)), (3, .int rz3), (1, .long (0 : Int64)), (0, .ref p0)]) hx hb d_A_readExp_45 hl (by decide) rfl (fun ls hl => ?_)
    have LP47_52 : ∀ (n : Nat) (l4 : Int32) (l3 : Int32) (l1 : Int64) (x0_3 : Int32) (x0_4 : Int32) (x1_3 : Int32) (x1_6 : Int32) (x1_7 : Int64) (x1_8 : Int32) (H : Heap) (locs : List Loc) (ls : Array Slot), (((4000 : Int32)).toInt - (l4).toInt).toNat < n → ¬ l4 < (0 : Int32) → va_P D classes (wS52 K cI cJ cZ cB p0 p1 p2 p3 p4 p5 p6 p7 p8 p9 p10 p11 p12 p13 p14 p15 x0_3 x0_4 x0_5 x0_6 x0_7 x0_8 x0_9 x0_10 x0_11 x0_12 x0_13 x0_14 x1_1 x1_2 x1_3 x1_4 x1_5 x1_6 x1_7 x1_8 y2 x3_5 x3_6 y4 y5 y6 y7 y8 x9_6 y10 y11 y12 y13 y14 y15) H → va_D A (wS52 K cI cJ cZ cB p0 p1 p2 p3 p4 p5 p6 p7 p8 p9 p10 p11 p12 p13 p14 p15 x0_3 x0_4 x0_5 x0_6 x0_7 x0_8 x0_9 x0_10 x0_11 x0_12 x0_13 x0_14 x1_1 x1_2 x1_3 x1_4 x1_5 x1_6 x1_7 x1_8 y2 x3_5 x3_6 y4 y5 y6 y7 y8 x9_6 y10 y11 y12 y13 y14 y15) → va_S A s.heap H locs → lv_has ls 7 [(4, .int l4), (3, .int l3), (1, .long l1), (0, .ref p0)] → W p l e ({ frames := 2, cells := 0, slots := 0, locals := 48 }) s m [.ref p0].toArray below meth c H locs 0 0 (MQ below (va_Qi (fun r (_ : Unit) => True) (fun _ t => (∃ u_x0_3 : Int32, ∃ u_x0_4 : Int32, ∃ u_x1_3 : Int32, ∃ u_x1_6 : Int32, ∃ u_x1_7 : Int64, ∃ u_x1_8 : Int32, va_P D classes (wS52 K cI cJ cZ cB p0 p1 p2 p3 p4 p5 p6 p7 p8 p9 p10 p11 p12 p13 p14 p15 u_x0_3 u_x0_4 x0_5 x0_6 x0_7 x0_8 x0_9 x0_10 x0_11 x0_12 x0_13 x0_14 x1_1 x1_2 u_x1_3 x1_4 x1_5 u_x1_6 u_x1_7 u_x1_8 y2 x3_5 x3_6 y4 y5 y6 y7 y8 x9_6 y10 y11 y12 y13 y14 y15) t.heap ∧ va_D A (wS52 K cI cJ cZ cB p0 p1 p2 p3 p4 p5 p6 p7 p8 p9 p10 p11 p12 p13 p14 p15 u_x0_3 u_x0_4 x0_5 x0_6 x0_7 x0_8 x0_9 x0_10 x0_11 x0_12 x0_13 x0_14 x1_1 x1_2 u_x1_3 x1_4 x1_5 u_x1_6 u_x1_7 u_x1_8 y2 x3_5 x3_6 y4 y5 y6 y7 y8 x9_6 y10 y11 y12 y13 y14 y15))) A) [.ref p0].toArray s 0 0 A) (F0 m 47 ls []) := by
      intro n
      induction n with
      | zero => intro l4 l3 l1 x0_3 x0_4 x1_3 x1_6 x1_7 x1_8 H locs ls hn; exact absurd hn (Nat.not_lt_zero _)
      | succ n ih =>
        intro l4 l3 l1 x0_3 x0_4 x1_3 x1_6 x1_7 x1_8 H locs ls hn47_52 hc47_52 hP hD hS hl
        refine lv_iload hx hb d_A_readExp_47 (lv_at hl 0 rfl) ?_
        refine lv_sipush (v := 4000) hx hb d_A_readExp_49 (by decide) ?_
        refine lv_icmp_ge (tgt := 123) hx hb d_A_readExp_52 (by decide) (fun c5 => ?_) (fun c5 => ?_)
        · refine lv_lload_n hx hb d_A_readExp_123 rfl (lv_at hl 2 rfl) ?_
          refine lv_l2i (v := (l1 : Int64).toInt32) hx hb d_A_readExp_124 rfl ?_
          refine lv_topi (fun v6 hv6 => ?_)
          exact W.iret (v := v6) hx hb hr (fun t ht hW => ⟨⟨v6, (), rfl, trivial, ⟨x0_3, x0_4, x1_3, x1_6, x1_7, x1_8, by show va_P D classes _ t.heap; rw [ht]; exact hP, hD⟩⟩, hS.F ht⟩) hS.2.2 d_A_readExp_125
        · refine lv_aload_n hx hb d_A_readExp_55 rfl (lv_at hl 3 rfl) ?_
          refine va_get (D := D) (ci := 3) (v := .ref p1) (C := "SignMachine$Assembler") (T := F_A) (N := 15) hx hb hk fi_A hown hK.1 hP 0 rfl rfl 0 (by decide) (hk _ k_631) (fun _ h9 => h9) rfl d_A_readExp_56 ?_
          refine kn_v (va_runV (C := "SignMachine$Source") (As := []) (rest := []) ⟨hx, hb, hml, hown, hk⟩ (c_R_readToken_s1 l K D cI cJ cZ cB p0 p1 p2 p3 p4 p5 p6 p7 p8 p9 p10 p11 p12 p13 p14 p15 H.size x0_3 x0_4 x0_5 x0_6 x0_7 x0_8 x0_9 x0_10 x0_11 x0_12 x0_13 x0_14 x1_1 x1_2 x1_3 x1_4 x1_5 x1_6 x1_7 x1_8 y2 x3_5 x3_6 y4 y5 y6 y7 y8 x9_6 y10 y11 y12 y13 y14 y15   ) (v_R_readToken_s1 hk k_752 ⟨Nat.le_of_ble_eq_true rfl, Nat.le_of_ble_eq_true rfl⟩) (pMC_v hK hP hD hC hS hA (ci := 4) (q0 := 1) rfl rfl rfl) rfl rfl hl.1 rfl (lv_room (Nat.le_of_ble_eq_true rfl)) d_A_readExp_59 ⟨by decide, by decide⟩) hS hA hD (fun u t H locs ht hB hFr hS => ?_)
          obtain ⟨x1_3z7, x1_6z7, x1_7z7, x1_8z7, hP, hD⟩ := hB
          rw [ht] at hP
          have hD := dwk hD hFr
          clear ht hFr
          have hP : va_P D classes (wS52 K cI cJ cZ cB p0 p1 p2 p3 p4 p5 p6 p7 p8 p9 p10 p11 p12 p13 p14 p15 x0_3 x0_4 x0_5 x0_6 x0_7 x0_8 x0_9 x0_10 x0_11 x0_12 x0_13 x0_14 x1_1 x1_2 x1_3z7 x1_4 x1_5 x1_6z7 x1_7z7 x1_8z7 y2 x3_5 x3_6 y4 y5 y6 y7 y8 x9_6 y10 y11 y12 y13 y14 y15) H := hP
          have hD : va_D A (wS52 K cI cJ cZ cB p0 p1 p2 p3 p4 p5 p6 p7 p8 p9 p10 p11 p12 p13 p14 p15 x0_3 x0_4 x0_5 x0_6 x0_7 x0_8 x0_9 x0_10 x0_11 x0_12 x0_13 x0_14 x1_1 x1_2 x1_3z7 x1_4 x1_5 x1_6z7 x1_7z7 x1_8z7 y2 x3_5 x3_6 y4 y5 y6 y7 y8 x9_6 y10 y11 y12 y13 y14 y15) := hD
          refine lv_aload_n hx hb d_A_readExp_62 rfl (lv_at hl 3 rfl) ?_
          refine sn_i (va_runV (C := "SignMachine$Assembler") (As := []) (rest := []) ⟨hx, hb, hml, hown, hk⟩ (c_A_atomValue_s1 l K D cI cJ cZ cB p0 p1 p2 p3 p4 p5 p6 p7 p8 p9 p10 p11 p12 p13 p14 p15 H.size x0_3 x0_4 x0_5 x0_6 x0_7 x0_8 x0_9 x0_10 x0_11 x0_12 x0_13 x0_14 x1_1 x1_2 x1_3z7 x1_4 x1_5 x1_6z7 x1_7z7 x1_8z7 y2 x3_5 x3_6 y4 y5 y6 y7 y8 x9_6 y10 y11 y12 y13 y14 y15   ) (v_A_atomValue_s1 hk k_993 ⟨Nat.le_of_ble_eq_true rfl, Nat.le_of_ble_eq_true rfl⟩) (pMC_v hK hP hD hC hS hA (ci := 3) (q0 := 0) rfl rfl rfl) rfl rfl hl.1 rfl (lv_room (Nat.le_of_ble_eq_true rfl)) d_A_readExp_63 ⟨by decide, by decide⟩) hS hA hD (fun rz8 u t H locs hr0 ht hB hFr hS => ?_)
          obtain ⟨x0_3z8, x0_4z8, hP, hD⟩ := hB
          rw [ht] at hP
          have hD := dwk hD hFr
          clear ht hFr
          have hP : va_P D classes (wS52 K cI cJ cZ cB p0 p1 p2 p3 p4 p5 p6 p7 p8 p9 p10 p11 p12 p13 p14 p15 x0_3z8 x0_4z8 x0_5 x0_6 x0_7 x0_8 x0_9 x0_10 x0_11 x0_12 x0_13 x0_14 x1_1 x1_2 x1_3z7 x1_4 x1_5 x1_6z7 x1_7z7 x1_8z7 y2 x3_5 x3_6 y4 y5 y6 y7 y8 x9_6 y10 y11 y12 y13 y14 y15) H := hP
          have hD : va_D A (wS52 K cI cJ cZ cB p0 p1 p2 p3 p4 p5 p6 p7 p8 p9 p10 p11 p12 p13 p14 p15 x0_3z8 x0_4z8 x0_5 x0_6 x0_7 x0_8 x0_9 x0_10 x0_11 x0_12 x0_13 x0_14 x1_1 x1_2 x1_3z7 x1_4 x1_5 x1_6z7 x1_7z7 x1_8z7 y2 x3_5 x3_6 y4 y5 y6 y7 y8 x9_6 y10 y11 y12 y13 y14 y15) := hD
          refine lv_i2l (v := (rz8 : Int32).toInt64) hx hb d_A_readExp_66 rfl ?_
          refine lv_topl (fun v9 hv9 => ?_)
          refine lv_lstore (lv' := [(5, .long v9), (4, .int l4), (3, .int l3), (1, .long l1), (0, .ref p0)]) hx hb d_A_readExp_67 hl (by decide) rfl (fun ls hl => ?_)
          refine lv_aload_n hx hb d_A_readExp_69 rfl (lv_at hl 4 rfl) ?_
          refine va_get (D := D) (ci := 3) (v := .int x0_3z8) (C := "SignMachine$Assembler") (T := F_A) (N := 15) hx hb hk fi_A hown hK.1 hP 0 rfl rfl 3 (by decide) (hk _ k_636) (fun _ h9 => h9) rfl d_A_readExp_70 ?_
          refine lv_if_ne (tgt := 85) hx hb d_A_readExp_73 (by decide) (fun c10 => ?_) (fun c10 => ?_)
          · refine lv_aload_n hx hb d_A_readExp_85 rfl (lv_at hl 4 rfl) ?_
            refine va_get (D := D) (ci := 3) (v := .ref p1) (C := "SignMachine$Assembler") (T := F_A) (N := 15) hx hb hk fi_A hown hK.1 hP 0 rfl rfl 0 (by decide) (hk _ k_631) (fun _ h9 => h9) rfl d_A_readExp_86 ?_
            refine sn_i (va_runV (C := "SignMachine$Source") (As := []) (rest := []) ⟨hx, hb, hml, hown, hk⟩ (c_R_peek_s1 l K D cI cJ cZ cB p0 p1 p2 p3 p4 p5 p6 p7 p8 p9 p10 p11 p12 p13 p14 p15 H.size x0_3z8 x0_4z8 x0_5 x0_6 x0_7 x0_8 x0_9 x0_10 x0_11 x0_12 x0_13 x0_14 x1_1 x1_2 x1_3z7 x1_4 x1_5 x1_6z7 x1_7z7 x1_8z7 y2 x3_5 x3_6 y4 y5 y6 y7 y8 x9_6 y10 y11 y12 y13 y14 y15   ) (v_R_peek_s1 hk k_739 ⟨Nat.le_of_ble_eq_true rfl, Nat.le_of_ble_eq_true rfl⟩) (pMC_v hK hP hD hC hS hA (ci := 4) (q0 := 1) rfl rfl rfl) rfl rfl hl.1 rfl (lv_room (Nat.le_of_ble_eq_true rfl)) d_A_readExp_89 ⟨by decide, by decide⟩) hS hA hD (fun rz11 u t H locs hr0 ht hB hFr hS => ?_)
            obtain ⟨hP, hD⟩ := hB
            rw [ht] at hP
            have hD := dwk hD hFr
            clear ht hFr
            have hP : va_P D classes (wS52 K cI cJ cZ cB p0 p1 p2 p3 p4 p5 p6 p7 p8 p9 p10 p11 p12 p13 p14 p15 x0_3z8 x0_4z8 x0_5 x0_6 x0_7 x0_8 x0_9 x0_10 x0_11 x0_12 x0_13 x0_14 x1_1 x1_2 x1_3z7 x1_4 x1_5 x1_6z7 x1_7z7 x1_8z7 y2 x3_5 x3_6 y4 y5 y6 y7 y8 x9_6 y10 y11 y12 y13 y14 y15) H := hP
            have hD : va_D A (wS52 K cI cJ cZ cB p0 p1 p2 p3 p4 p5 p6 p7 p8 p9 p10 p11 p12 p13 p14 p15 x0_3z8 x0_4z8 x0_5 x0_6 x0_7 x0_8 x0_9 x0_10 x0_11 x0_12 x0_13 x0_14 x1_1 x1_2 x1_3z7 x1_4 x1_5 x1_6z7 x1_7z7 x1_8z7 y2 x3_5 x3_6 y4 y5 y6 y7 y8 x9_6 y10 y11 y12 y13 y14 y15) := hD
            refine lv_istore_n (lv' := [(3, .int rz11), (5, .long v9), (4, .int l4), (1, .long l1), (0, .ref p0)]) hx hb d_A_readExp_92 rfl hl (by decide) rfl (fun ls hl => ?_)
            refine lv_aload_n hx hb d_A_readExp_93 rfl (lv_at hl 4 rfl) ?_
            refine va_get (D := D) (ci := 3) (v := .int x0_3z8) (C := "SignMachine$Assembler") (T := F_A) (N := 15) hx hb hk fi_A hown hK.1 hP 0 rfl rfl 3 (by decide) (hk _ k_636) (fun _ h9 => h9) rfl d_A_readExp_94 ?_
            refine lv_if_ne (tgt := 107) hx hb d_A_readExp_97 (by decide) (fun c12 => ?_) (fun c12 => absurd c12 (show ¬ x0_3z8 = (0 : Int32) from c10))
            refine lv_lload_n hx hb d_A_readExp_107 rfl (lv_at hl 3 rfl) ?_
            refine lv_l2i (v := (l1 : Int64).toInt32) hx hb d_A_readExp_108 rfl ?_
            refine lv_topi (fun v13 hv13 => ?_)
            exact W.iret (v := v13) hx hb hr (fun t ht hW => ⟨⟨v13, (), rfl, trivial, ⟨x0_3z8, x0_4z8, x1_3z7, x1_6z7, x1_7z7, x1_8z7, by show va_P D classes _ t.heap; rw [ht]; exact hP, hD⟩⟩, hS.F ht⟩) hS.2.2 d_A_readExp_109
          · refine lv_aload_n hx hb d_A_readExp_76 rfl (lv_at hl 4 rfl) ?_
            refine lv_lload_n hx hb d_A_readExp_77 rfl (lv_at hl 3 rfl) ?_
            refine lv_iload_n hx hb d_A_readExp_78 rfl (lv_at hl 2 rfl) ?_
            refine lv_lload hx hb d_A_readExp_79 (lv_at hl 0 rfl) ?_
            refine sn_l (va_runV (C := "SignMachine$Assembler") (As := [.long l1, .int l3, .long v9]) (rest := []) ⟨hx, hb, hml, hown, hk⟩ (c_A_reckon_s1 l K D cI cJ cZ cB p0 p1 p2 p3 p4 p5 p6 p7 p8 p9 p10 p11 p12 p13 p14 p15 H.size x0_3z8 x0_4z8 x0_5 x0_6 x0_7 x0_8 x0_9 x0_10 x0_11 x0_12 x0_13 x0_14 x1_1 x1_2 x1_3z7 x1_4 x1_5 x1_6z7 x1_7z7 x1_8z7 y2 x3_5 x3_6 y4 y5 y6 y7 y8 x9_6 y10 y11 y12 y13 y14 y15  l1 l3 v9 ) (v_A_reckon_s1 hk k_1009 ⟨Nat.le_of_ble_eq_true rfl, Nat.le_of_ble_eq_true rfl⟩) (pMC_v hK hP hD hC hS hA (ci := 3) (q0 := 0) rfl rfl rfl) rfl rfl hl.1 rfl (lv_room (Nat.le_of_ble_eq_true rfl)) d_A_readExp_81 ⟨by decide, by decide⟩) hS hA hD (fun rz14 u t H locs hr0 ht hB hFr hS => ?_)
            obtain ⟨x0_3z14, x0_4z14, hP, hD⟩ := hB
            rw [ht] at hP
            have hD := dwk hD hFr
            clear ht hFr
            have hP : va_P D classes (wS52 K cI cJ cZ cB p0 p1 p2 p3 p4 p5 p6 p7 p8 p9 p10 p11 p12 p13 p14 p15 x0_3z14 x0_4z14 x0_5 x0_6 x0_7 x0_8 x0_9 x0_10 x0_11 x0_12 x0_13 x0_14 x1_1 x1_2 x1_3z7 x1_4 x1_5 x1_6z7 x1_7z7 x1_8z7 y2 x3_5 x3_6 y4 y5 y6 y7 y8 x9_6 y10 y11 y12 y13 y14 y15) H := hP
            have hD : va_D A (wS52 K cI cJ cZ cB p0 p1 p2 p3 p4 p5 p6 p7 p8 p9 p10 p11 p12 p13 p14 p15 x0_3z14 x0_4z14 x0_5 x0_6 x0_7 x0_8 x0_9 x0_10 x0_11 x0_12 x0_13 x0_14 x1_1 x1_2 x1_3z7 x1_4 x1_5 x1_6z7 x1_7z7 x1_8z7 y2 x3_5 x3_6 y4 y5 y6 y7 y8 x9_6 y10 y11 y12 y13 y14 y15) := hD
            refine lv_lstore_n (lv' := [(1, .long rz14), (5, .long v9), (4, .int l4), (3, .int l3), (0, .ref p0)]) hx hb d_A_readExp_84 rfl hl (by decide) rfl (fun ls hl => ?_)
            refine lv_aload_n hx hb d_A_readExp_85 rfl (lv_at hl 4 rfl) ?_
            refine va_get (D := D) (ci := 3) (v := .ref p1) (C := "SignMachine$Assembler") (T := F_A) (N := 15) hx hb hk fi_A hown hK.1 hP 0 rfl rfl 0 (by decide) (hk _ k_631) (fun _ h9 => h9) rfl d_A_readExp_86 ?_
            refine sn_i (va_runV (C := "SignMachine$Source") (As := []) (rest := []) ⟨hx, hb, hml, hown, hk⟩ (c_R_peek_s1 l K D cI cJ cZ cB p0 p1 p2 p3 p4 p5 p6 p7 p8 p9 p10 p11 p12 p13 p14 p15 H.size x0_3z14 x0_4z14 x0_5 x0_6 x0_7 x0_8 x0_9 x0_10 x0_11 x0_12 x0_13 x0_14 x1_1 x1_2 x1_3z7 x1_4 x1_5 x1_6z7 x1_7z7 x1_8z7 y2 x3_5 x3_6 y4 y5 y6 y7 y8 x9_6 y10 y11 y12 y13 y14 y15   ) (v_R_peek_s1 hk k_739 ⟨Nat.le_of_ble_eq_true rfl, Nat.le_of_ble_eq_true rfl⟩) (pMC_v hK hP hD hC hS hA (ci := 4) (q0 := 1) rfl rfl rfl) rfl rfl hl.1 rfl (lv_room (Nat.le_of_ble_eq_true rfl)) d_A_readExp_89 ⟨by decide, by decide⟩) hS hA hD (fun rz15 u t H locs hr0 ht hB hFr hS => ?_)
            obtain ⟨hP, hD⟩ := hB
            rw [ht] at hP
            have hD := dwk hD hFr
            clear ht hFr
            have hP : va_P D classes (wS52 K cI cJ cZ cB p0 p1 p2 p3 p4 p5 p6 p7 p8 p9 p10 p11 p12 p13 p14 p15 x0_3z14 x0_4z14 x0_5 x0_6 x0_7 x0_8 x0_9 x0_10 x0_11 x0_12 x0_13 x0_14 x1_1 x1_2 x1_3z7 x1_4 x1_5 x1_6z7 x1_7z7 x1_8z7 y2 x3_5 x3_6 y4 y5 y6 y7 y8 x9_6 y10 y11 y12 y13 y14 y15) H := hP
            have hD : va_D A (wS52 K cI cJ cZ cB p0 p1 p2 p3 p4 p5 p6 p7 p8 p9 p10 p11 p12 p13 p14 p15 x0_3z14 x0_4z14 x0_5 x0_6 x0_7 x0_8 x0_9 x0_10 x0_11 x0_12 x0_13 x0_14 x1_1 x1_2 x1_3z7 x1_4 x1_5 x1_6z7 x1_7z7 x1_8z7 y2 x3_5 x3_6 y4 y5 y6 y7 y8 x9_6 y10 y11 y12 y13 y14 y15) := hD
            refine lv_istore_n (lv' := [(3, .int rz15), (1, .long rz14), (5, .long v9), (4, .int l4), (0, .ref p0)]) hx hb d_A_readExp_92 rfl hl (by decide) rfl (fun ls hl => ?_)
            refine lv_aload_n hx hb d_A_readExp_93 rfl (lv_at hl 4 rfl) ?_
            refine va_get (D := D) (ci := 3) (v := .int x0_3z14) (C := "SignMachine$Assembler") (T := F_A) (N := 15) hx hb hk fi_A hown hK.1 hP 0 rfl rfl 3 (by decide) (hk _ k_636) (fun _ h9 => h9) rfl d_A_readExp_94 ?_
            refine lv_if_ne (tgt := 107) hx hb d_A_readExp_97 (by decide) (fun c16 => ?_) (fun c16 => ?_)
            · refine lv_lload_n hx hb d_A_readExp_107 rfl (lv_at hl 1 rfl) ?_
              refine lv_l2i (v := (rz14 : Int64).toInt32) hx hb d_A_readExp_108 rfl ?_
              refine lv_topi (fun v17 hv17 => ?_)
              exact W.iret (v := v17) hx hb hr (fun t ht hW => ⟨⟨v17, (), rfl, trivial, ⟨x0_3z14, x0_4z14, x1_3z7, x1_6z7, x1_7z7, x1_8z7, by show va_P D classes _ t.heap; rw [ht]; exact hP, hD⟩⟩, hS.F ht⟩) hS.2.2 d_A_readExp_109
            · refine lv_iload_n hx hb d_A_readExp_100 rfl (lv_at hl 0 rfl) ?_
              refine cs_i (W.runS (As := [.int rz15]) (rest := []) ⟨hx, hb, hml, hown, hk⟩ (c_A_isOperator l rz15) (s_A_isOperator hk k_1018 ⟨Nat.le_of_ble_eq_true rfl, Nat.le_of_ble_eq_true rfl⟩) ⟨fun a U g mk q => q, fun U hU hW => ⟨rfl, trivial⟩⟩ rfl rfl hl.1 rfl (lv_room (Nat.le_of_ble_eq_true rfl)) d_A_readExp_101 ⟨Nat.le_of_ble_eq_true rfl, Nat.le_of_ble_eq_true rfl⟩) ?_
              obtain ⟨z18, hz18⟩ : ∃ y : Bool, y = (f_A_isOperator rz15) := ⟨_, rfl⟩
              rw [← hz18]
              refine lv_if_ne (tgt := 110) hx hb d_A_readExp_104 (by decide) (fun c19 => ?_) (fun c19 => ?_)
              · refine lv_aload_n hx hb d_A_readExp_110 rfl (lv_at hl 4 rfl) ?_
                refine va_get (D := D) (ci := 3) (v := .ref p1) (C := "SignMachine$Assembler") (T := F_A) (N := 15) hx hb hk fi_A hown hK.1 hP 0 rfl rfl 0 (by decide) (hk _ k_631) (fun _ h9 => h9) rfl d_A_readExp_111 ?_
                refine kn_v (va_runV (C := "SignMachine$Source") (As := []) (rest := []) ⟨hx, hb, hml, hown, hk⟩ (c_R_skip_s1 l K D cI cJ cZ cB p0 p1 p2 p3 p4 p5 p6 p7 p8 p9 p10 p11 p12 p13 p14 p15 H.size x0_3z14 x0_4z14 x0_5 x0_6 x0_7 x0_8 x0_9 x0_10 x0_11 x0_12 x0_13 x0_14 x1_1 x1_2 x1_3z7 x1_4 x1_5 x1_6z7 x1_7z7 x1_8z7 y2 x3_5 x3_6 y4 y5 y6 y7 y8 x9_6 y10 y11 y12 y13 y14 y15   ) (v_R_skip_s1 hk k_960 ⟨Nat.le_of_ble_eq_true rfl, Nat.le_of_ble_eq_true rfl⟩) (pMC_v hK hP hD hC hS hA (ci := 4) (q0 := 1) rfl rfl rfl) rfl rfl hl.1 rfl (lv_room (Nat.le_of_ble_eq_true rfl)) d_A_readExp_114 ⟨by decide, by decide⟩) hS hA hD (fun u t H locs ht hB hFr hS => ?_)
                obtain ⟨x1_3z20, hP, hD⟩ := hB
                rw [ht] at hP
                have hD := dwk hD hFr
                clear ht hFr
                have hP : va_P D classes (wS52 K cI cJ cZ cB p0 p1 p2 p3 p4 p5 p6 p7 p8 p9 p10 p11 p12 p13 p14 p15 x0_3z14 x0_4z14 x0_5 x0_6 x0_7 x0_8 x0_9 x0_10 x0_11 x0_12 x0_13 x0_14 x1_1 x1_2 x1_3z20 x1_4 x1_5 x1_6z7 x1_7z7 x1_8z7 y2 x3_5 x3_6 y4 y5 y6 y7 y8 x9_6 y10 y11 y12 y13 y14 y15) H := hP
                have hD : va_D A (wS52 K cI cJ cZ cB p0 p1 p2 p3 p4 p5 p6 p7 p8 p9 p10 p11 p12 p13 p14 p15 x0_3z14 x0_4z14 x0_5 x0_6 x0_7 x0_8 x0_9 x0_10 x0_11 x0_12 x0_13 x0_14 x1_1 x1_2 x1_3z20 x1_4 x1_5 x1_6z7 x1_7z7 x1_8z7 y2 x3_5 x3_6 y4 y5 y6 y7 y8 x9_6 y10 y11 y12 y13 y14 y15) := hD
                obtain ⟨v21, hv21⟩ : ∃ y : Int32, y = (l4 + (1 : Int32)) := ⟨_, rfl⟩
                refine lv_iinc (v := v21) (lv' := [(4, .int v21), (3, .int rz15), (1, .long rz14), (5, .long v9), (0, .ref p0)]) hx hb d_A_readExp_117 hl (k := 3) rfl (by rw [hv21]; rfl) (by decide) rfl (fun ls hl => ?_)
                refine lv_goto (tgt := 47) hx hb d_A_readExp_120 (by decide) ?_
                exact ih v21 rz15 rz14 x0_3z14 x0_4z14 x1_3z20 x1_6z7 x1_7z7 x1_8z7 H _ ls (lpu c5 hv21 hn47_52) (lpn hc47_52 c5 hv21) hP hD hS (lv_sub hl [0, 1, 2, 4] rfl)
              · refine lv_lload_n hx hb d_A_readExp_107 rfl (lv_at hl 1 rfl) ?_
                refine lv_l2i (v := (rz14 : Int64).toInt32) hx hb d_A_readExp_108 rfl ?_
                refine lv_topi (fun v22 hv22 => ?_)
                exact W.iret (v := v22) hx hb hr (fun t ht hW => ⟨⟨v22, (), rfl, trivial, ⟨x0_3z14, x0_4z14, x1_3z7, x1_6z7, x1_7z7, x1_8z7, by show va_P D classes _ t.heap; rw [ht]; exact hP, hD⟩⟩, hS.F ht⟩) hS.2.2 d_A_readExp_109
    exact LP47_52 _ (0 : Int32) rz3 (0 : Int64) x0_3 x0_4 x1_3z4 x1_6 x1_7 x1_8 H _ ls (Nat.lt_succ_self _) (by decide) hP hD hS hl
  · refine lv_aload_n hx hb d_A_readExp_17 rfl (lv_at hl 2 rfl) ?_
    refine va_get (D := D) (ci := 3) (v := .ref p1) (C := "SignMachine$Assembler") (T := F_A) (N := 15) hx hb hk fi_A hown hK.1 hP 0 rfl rfl 0 (by decide) (hk _ k_631) (fun _ h9 => h9) rfl d_A_readExp_18 ?_
    refine sn_i (va_runV (C := "SignMachine$Source") (As := []) (rest := []) ⟨hx, hb, hml, hown, hk⟩ (c_R_peek_s1 l K D cI cJ cZ cB p0 p1 p2 p3 p4 p5 p6 p7 p8 p9 p10 p11 p12 p13 p14 p15 H.size x0_3 x0_4 x0_5 x0_6 x0_7 x0_8 x0_9 x0_10 x0_11 x0_12 x0_13 x0_14 x1_1 x1_2 x1_3 x1_4 x1_5 x1_6 x1_7 x1_8 y2 x3_5 x3_6 y4 y5 y6 y7 y8 x9_6 y10 y11 y12 y13 y14 y15   ) (v_R_peek_s1 hk k_739 ⟨Nat.le_of_ble_eq_true rfl, Nat.le_of_ble_eq_true rfl⟩) (pMC_v hK hP hD hC hS hA (ci := 4) (q0 := 1) rfl rfl rfl) rfl rfl hl.1 rfl (lv_room (Nat.le_of_ble_eq_true rfl)) d_A_readExp_21 ⟨by decide, by decide⟩) hS hA hD (fun rz23 u t H locs hr0 ht hB hFr hS => ?_)
    obtain ⟨hP, hD⟩ := hB
    rw [ht] at hP
    have hD := dwk hD hFr
    clear ht hFr
    have hP : va_P D classes (wS52 K cI cJ cZ cB p0 p1 p2 p3 p4 p5 p6 p7 p8 p9 p10 p11 p12 p13 p14 p15 x0_3 x0_4 x0_5 x0_6 x0_7 x0_8 x0_9 x0_10 x0_11 x0_12 x0_13 x0_14 x1_1 x1_2 x1_3 x1_4 x1_5 x1_6 x1_7 x1_8 y2 x3_5 x3_6 y4 y5 y6 y7 y8 x9_6 y10 y11 y12 y13 y14 y15) H := hP
    have hD : va_D A (wS52 K cI cJ cZ cB p0 p1 p2 p3 p4 p5 p6 p7 p8 p9 p10 p11 p12 p13 p14 p15 x0_3 x0_4 x0_5 x0_6 x0_7 x0_8 x0_9 x0_10 x0_11 x0_12 x0_13 x0_14 x1_1 x1_2 x1_3 x1_4 x1_5 x1_6 x1_7 x1_8 y2 x3_5 x3_6 y4 y5 y6 y7 y8 x9_6 y10 y11 y12 y13 y14 y15) := hD
    refine lv_bipush (v := 45) hx hb d_A_readExp_24 (by decide) ?_
    refine lv_icmp_ne (tgt := 44) hx hb d_A_readExp_26 (by decide) (fun c24 => ?_) (fun c24 => ?_)
    · refine lv_iconst (v := 0) hx hb d_A_readExp_44 (by decide) ?_
      refine lv_istore (lv' := [(4, .int (0 : Int32)), (3, .int (43 : Int32)), (1, .long (0 : Int64)), (0, .ref p0)]) hx hb d_A_readExp_45 hl (by decide) rfl (fun ls hl => ?_)
      have LP47_52 : ∀ (n : Nat) (l4 : Int32) (l3 : Int32) (l1 : Int64) (x0_3 : Int32) (x0_4 : Int32) (x1_3 : Int32) (x1_6 : Int32) (x1_7 : Int64) (x1_8 : Int32) (H : Heap) (locs : List Loc) (ls : Array Slot), (((4000 : Int32)).toInt - (l4).toInt).toNat < n → ¬ l4 < (0 : Int32) → va_P D classes (wS52 K cI cJ cZ cB p0 p1 p2 p3 p4 p5 p6 p7 p8 p9 p10 p11 p12 p13 p14 p15 x0_3 x0_4 x0_5 x0_6 x0_7 x0_8 x0_9 x0_10 x0_11 x0_12 x0_13 x0_14 x1_1 x1_2 x1_3 x1_4 x1_5 x1_6 x1_7 x1_8 y2 x3_5 x3_6 y4 y5 y6 y7 y8 x9_6 y10 y11 y12 y13 y14 y15) H → va_D A (wS52 K cI cJ cZ cB p0 p1 p2 p3 p4 p5 p6 p7 p8 p9 p10 p11 p12 p13 p14 p15 x0_3 x0_4 x0_5 x0_6 x0_7 x0_8 x0_9 x0_10 x0_11 x0_12 x0_13 x0_14 x1_1 x1_2 x1_3 x1_4 x1_5 x1_6 x1_7 x1_8 y2 x3_5 x3_6 y4 y5 y6 y7 y8 x9_6 y10 y11 y12 y13 y14 y15) → va_S A s.heap H locs → lv_has ls 7 [(4, .int l4), (3, .int l3), (1, .long l1), (0, .ref p0)] → W p l e ({ frames := 2, cells := 0, slots := 0, locals := 48 }) s m [.ref p0].toArray below meth c H locs 0 0 (MQ below (va_Qi (fun r (_ : Unit) => True) (fun _ t => (∃ u_x0_3 : Int32, ∃ u_x0_4 : Int32, ∃ u_x1_3 : Int32, ∃ u_x1_6 : Int32, ∃ u_x1_7 : Int64, ∃ u_x1_8 : Int32, va_P D classes (wS52 K cI cJ cZ cB p0 p1 p2 p3 p4 p5 p6 p7 p8 p9 p10 p11 p12 p13 p14 p15 u_x0_3 u_x0_4 x0_5 x0_6 x0_7 x0_8 x0_9 x0_10 x0_11 x0_12 x0_13 x0_14 x1_1 x1_2 u_x1_3 x1_4 x1_5 u_x1_6 u_x1_7 u_x1_8 y2 x3_5 x3_6 y4 y5 y6 y7 y8 x9_6 y10 y11 y12 y13 y14 y15) t.heap ∧ va_D A (wS52 K cI cJ cZ cB p0 p1 p2 p3 p4 p5 p6 p7 p8 p9 p10 p11 p12 p13 p14 p15 u_x0_3 u_x0_4 x0_5 x0_6 x0_7 x0_8 x0_9 x0_10 x0_11 x0_12 x0_13 x0_14 x1_1 x1_2 u_x1_3 x1_4 x1_5 u_x1_6 u_x1_7 u_x1_8 y2 x3_5 x3_6 y4 y5 y6 y7 y8 x9_6 y10 y11 y12 y13 y14 y15))) A) [.ref p0].toArray s 0 0 A) (F0 m 47 ls []) := by
        intro n
        induction n with
        | zero => intro l4 l3 l1 x0_3 x0_4 x1_3 x1_6 x1_7 x1_8 H locs ls hn; exact absurd hn (Nat.not_lt_zero _)
        | succ n ih =>
          intro l4 l3 l1 x0_3 x0_4 x1_3 x1_6 x1_7 x1_8 H locs ls hn47_52 hc47_52 hP hD hS hl
          refine lv_iload hx hb d_A_readExp_47 (lv_at hl 0 rfl) ?_
          refine lv_sipush (v := 4000) hx hb d_A_readExp_49 (by decide) ?_
          refine lv_icmp_ge (tgt := 123) hx hb d_A_readExp_52 (by decide) (fun c25 => ?_) (fun c25 => ?_)
          · refine lv_lload_n hx hb d_A_readExp_123 rfl (lv_at hl 2 rfl) ?_
            refine lv_l2i (v := (l1 : Int64).toInt32) hx hb d_A_readExp_124 rfl ?_
            refine lv_topi (fun v26 hv26 => ?_)
            exact W.iret (v := v26) hx hb hr (fun t ht hW => ⟨⟨v26, (), rfl, trivial, ⟨x0_3, x0_4, x1_3, x1_6, x1_7, x1_8, by show va_P D classes _ t.heap; rw [ht]; exact hP, hD⟩⟩, hS.F ht⟩) hS.2.2 d_A_readExp_125
          · refine lv_aload_n hx hb d_A_readExp_55 rfl (lv_at hl 3 rfl) ?_
            refine va_get (D := D) (ci := 3) (v := .ref p1) (C := "SignMachine$Assembler") (T := F_A) (N := 15) hx hb hk fi_A hown hK.1 hP 0 rfl rfl 0 (by decide) (hk _ k_631) (fun _ h9 => h9) rfl d_A_readExp_56 ?_
            refine kn_v (va_runV (C := "SignMachine$Source") (As := []) (rest := []) ⟨hx, hb, hml, hown, hk⟩ (c_R_readToken_s1 l K D cI cJ cZ cB p0 p1 p2 p3 p4 p5 p6 p7 p8 p9 p10 p11 p12 p13 p14 p15 H.size x0_3 x0_4 x0_5 x0_6 x0_7 x0_8 x0_9 x0_10 x0_11 x0_12 x0_13 x0_14 x1_1 x1_2 x1_3 x1_4 x1_5 x1_6 x1_7 x1_8 y2 x3_5 x3_6 y4 y5 y6 y7 y8 x9_6 y10 y11 y12 y13 y14 y15   ) (v_R_readToken_s1 hk k_752 ⟨Nat.le_of_ble_eq_true rfl, Nat.le_of_ble_eq_true rfl⟩) (pMC_v hK hP hD hC hS hA (ci := 4) (q0 := 1) rfl rfl rfl) rfl rfl hl.1 rfl (lv_room (Nat.le_of_ble_eq_true rfl)) d_A_readExp_59 ⟨by decide, by decide⟩) hS hA hD (fun u t H locs ht hB hFr hS => ?_)
            obtain ⟨x1_3z27, x1_6z27, x1_7z27, x1_8z27, hP, hD⟩ := hB
            rw [ht] at hP
            have hD := dwk hD hFr
            clear ht hFr
            have hP : va_P D classes (wS52 K cI cJ cZ cB p0 p1 p2 p3 p4 p5 p6 p7 p8 p9 p10 p11 p12 p13 p14 p15 x0_3 x0_4 x0_5 x0_6 x0_7 x0_8 x0_9 x0_10 x0_11 x0_12 x0_13 x0_14 x1_1 x1_2 x1_3z27 x1_4 x1_5 x1_6z27 x1_7z27 x1_8z27 y2 x3_5 x3_6 y4 y5 y6 y7 y8 x9_6 y10 y11 y12 y13 y14 y15) H := hP
            have hD : va_D A (wS52 K cI cJ cZ cB p0 p1 p2 p3 p4 p5 p6 p7 p8 p9 p10 p11 p12 p13 p14 p15 x0_3 x0_4 x0_5 x0_6 x0_7 x0_8 x0_9 x0_10 x0_11 x0_12 x0_13 x0_14 x1_1 x1_2 x1_3z27 x1_4 x1_5 x1_6z27 x1_7z27 x1_8z27 y2 x3_5 x3_6 y4 y5 y6 y7 y8 x9_6 y10 y11 y12 y13 y14 y15) := hD
            refine lv_aload_n hx hb d_A_readExp_62 rfl (lv_at hl 3 rfl) ?_
            refine sn_i (va_runV (C := "SignMachine$Assembler") (As := []) (rest := []) ⟨hx, hb, hml, hown, hk⟩ (c_A_atomValue_s1 l K D cI cJ cZ cB p0 p1 p2 p3 p4 p5 p6 p7 p8 p9 p10 p11 p12 p13 p14 p15 H.size x0_3 x0_4 x0_5 x0_6 x0_7 x0_8 x0_9 x0_10 x0_11 x0_12 x0_13 x0_14 x1_1 x1_2 x1_3z27 x1_4 x1_5 x1_6z27 x1_7z27 x1_8z27 y2 x3_5 x3_6 y4 y5 y6 y7 y8 x9_6 y10 y11 y12 y13 y14 y15   ) (v_A_atomValue_s1 hk k_993 ⟨Nat.le_of_ble_eq_true rfl, Nat.le_of_ble_eq_true rfl⟩) (pMC_v hK hP hD hC hS hA (ci := 3) (q0 := 0) rfl rfl rfl) rfl rfl hl.1 rfl (lv_room (Nat.le_of_ble_eq_true rfl)) d_A_readExp_63 ⟨by decide, by decide⟩) hS hA hD (fun rz28 u t H locs hr0 ht hB hFr hS => ?_)
            obtain ⟨x0_3z28, x0_4z28, hP, hD⟩ := hB
            rw [ht] at hP
            have hD := dwk hD hFr
            clear ht hFr
            have hP : va_P D classes (wS52 K cI cJ cZ cB p0 p1 p2 p3 p4 p5 p6 p7 p8 p9 p10 p11 p12 p13 p14 p15 x0_3z28 x0_4z28 x0_5 x0_6 x0_7 x0_8 x0_9 x0_10 x0_11 x0_12 x0_13 x0_14 x1_1 x1_2 x1_3z27 x1_4 x1_5 x1_6z27 x1_7z27 x1_8z27 y2 x3_5 x3_6 y4 y5 y6 y7 y8 x9_6 y10 y11 y12 y13 y14 y15) H := hP
            have hD : va_D A (wS52 K cI cJ cZ cB p0 p1 p2 p3 p4 p5 p6 p7 p8 p9 p10 p11 p12 p13 p14 p15 x0_3z28 x0_4z28 x0_5 x0_6 x0_7 x0_8 x0_9 x0_10 x0_11 x0_12 x0_13 x0_14 x1_1 x1_2 x1_3z27 x1_4 x1_5 x1_6z27 x1_7z27 x1_8z27 y2 x3_5 x3_6 y4 y5 y6 y7 y8 x9_6 y10 y11 y12 y13 y14 y15) := hD
            refine lv_i2l (v := (rz28 : Int32).toInt64) hx hb d_A_readExp_66 rfl ?_
            refine lv_topl (fun v29 hv29 => ?_)
            refine lv_lstore (lv' := [(5, .long v29), (4, .int l4), (3, .int l3), (1, .long l1), (0, .ref p0)]) hx hb d_A_readExp_67 hl (by decide) rfl (fun ls hl => ?_)
            refine lv_aload_n hx hb d_A_readExp_69 rfl (lv_at hl 4 rfl) ?_
            refine va_get (D := D) (ci := 3) (v := .int x0_3z28) (C := "SignMachine$Assembler") (T := F_A) (N := 15) hx hb hk fi_A hown hK.1 hP 0 rfl rfl 3 (by decide) (hk _ k_636) (fun _ h9 => h9) rfl d_A_readExp_70 ?_
            refine lv_if_ne (tgt := 85) hx hb d_A_readExp_73 (by decide) (fun c30 => ?_) (fun c30 => ?_)
            · refine lv_aload_n hx hb d_A_readExp_85 rfl (lv_at hl 4 rfl) ?_
              refine va_get (D := D) (ci := 3) (v := .ref p1) (C := "SignMachine$Assembler") (T := F_A) (N := 15) hx hb hk fi_A hown hK.1 hP 0 rfl rfl 0 (by decide) (hk _ k_631) (fun _ h9 => h9) rfl d_A_readExp_86 ?_
              refine sn_i (va_runV (C := "SignMachine$Source") (As := []) (rest := []) ⟨hx, hb, hml, hown, hk⟩ (c_R_peek_s1 l K D cI cJ cZ cB p0 p1 p2 p3 p4 p5 p6 p7 p8 p9 p10 p11 p12 p13 p14 p15 H.size x0_3z28 x0_4z28 x0_5 x0_6 x0_7 x0_8 x0_9 x0_10 x0_11 x0_12 x0_13 x0_14 x1_1 x1_2 x1_3z27 x1_4 x1_5 x1_6z27 x1_7z27 x1_8z27 y2 x3_5 x3_6 y4 y5 y6 y7 y8 x9_6 y10 y11 y12 y13 y14 y15   ) (v_R_peek_s1 hk k_739 ⟨Nat.le_of_ble_eq_true rfl, Nat.le_of_ble_eq_true rfl⟩) (pMC_v hK hP hD hC hS hA (ci := 4) (q0 := 1) rfl rfl rfl) rfl rfl hl.1 rfl (lv_room (Nat.le_of_ble_eq_true rfl)) d_A_readExp_89 ⟨by decide, by decide⟩) hS hA hD (fun rz31 u t H locs hr0 ht hB hFr hS => ?_)
              obtain ⟨hP, hD⟩ := hB
              rw [ht] at hP
              have hD := dwk hD hFr
              clear ht hFr
              have hP : va_P D classes (wS52 K cI cJ cZ cB p0 p1 p2 p3 p4 p5 p6 p7 p8 p9 p10 p11 p12 p13 p14 p15 x0_3z28 x0_4z28 x0_5 x0_6 x0_7 x0_8 x0_9 x0_10 x0_11 x0_12 x0_13 x0_14 x1_1 x1_2 x1_3z27 x1_4 x1_5 x1_6z27 x1_7z27 x1_8z27 y2 x3_5 x3_6 y4 y5 y6 y7 y8 x9_6 y10 y11 y12 y13 y14 y15) H := hP
              have hD : va_D A (wS52 K cI cJ cZ cB p0 p1 p2 p3 p4 p5 p6 p7 p8 p9 p10 p11 p12 p13 p14 p15 x0_3z28 x0_4z28 x0_5 x0_6 x0_7 x0_8 x0_9 x0_10 x0_11 x0_12 x0_13 x0_14 x1_1 x1_2 x1_3z27 x1_4 x1_5 x1_6z27 x1_7z27 x1_8z27 y2 x3_5 x3_6 y4 y5 y6 y7 y8 x9_6 y10 y11 y12 y13 y14 y15) := hD
              refine lv_istore_n (lv' := [(3, .int rz31), (5, .long v29), (4, .int l4), (1, .long l1), (0, .ref p0)]) hx hb d_A_readExp_92 rfl hl (by decide) rfl (fun ls hl => ?_)
              refine lv_aload_n hx hb d_A_readExp_93 rfl (lv_at hl 4 rfl) ?_
              refine va_get (D := D) (ci := 3) (v := .int x0_3z28) (C := "SignMachine$Assembler") (T := F_A) (N := 15) hx hb hk fi_A hown hK.1 hP 0 rfl rfl 3 (by decide) (hk _ k_636) (fun _ h9 => h9) rfl d_A_readExp_94 ?_
              refine lv_if_ne (tgt := 107) hx hb d_A_readExp_97 (by decide) (fun c32 => ?_) (fun c32 => absurd c32 (show ¬ x0_3z28 = (0 : Int32) from c30))
              refine lv_lload_n hx hb d_A_readExp_107 rfl (lv_at hl 3 rfl) ?_
              refine lv_l2i (v := (l1 : Int64).toInt32) hx hb d_A_readExp_108 rfl ?_
              refine lv_topi (fun v33 hv33 => ?_)
              exact W.iret (v := v33) hx hb hr (fun t ht hW => ⟨⟨v33, (), rfl, trivial, ⟨x0_3z28, x0_4z28, x1_3z27, x1_6z27, x1_7z27, x1_8z27, by show va_P D classes _ t.heap; rw [ht]; exact hP, hD⟩⟩, hS.F ht⟩) hS.2.2 d_A_readExp_109
            · refine lv_aload_n hx hb d_A_readExp_76 rfl (lv_at hl 4 rfl) ?_
              refine lv_lload_n hx hb d_A_readExp_77 rfl (lv_at hl 3 rfl) ?_
              refine lv_iload_n hx hb d_A_readExp_78 rfl (lv_at hl 2 rfl) ?_
              refine lv_lload hx hb d_A_readExp_79 (lv_at hl 0 rfl) ?_
              refine sn_l (va_runV (C := "SignMachine$Assembler") (As := [.long l1, .int l3, .long v29]) (rest := []) ⟨hx, hb, hml, hown, hk⟩ (c_A_reckon_s1 l K D cI cJ cZ cB p0 p1 p2 p3 p4 p5 p6 p7 p8 p9 p10 p11 p12 p13 p14 p15 H.size x0_3z28 x0_4z28 x0_5 x0_6 x0_7 x0_8 x0_9 x0_10 x0_11 x0_12 x0_13 x0_14 x1_1 x1_2 x1_3z27 x1_4 x1_5 x1_6z27 x1_7z27 x1_8z27 y2 x3_5 x3_6 y4 y5 y6 y7 y8 x9_6 y10 y11 y12 y13 y14 y15  l1 l3 v29 ) (v_A_reckon_s1 hk k_1009 ⟨Nat.le_of_ble_eq_true rfl, Nat.le_of_ble_eq_true rfl⟩) (pMC_v hK hP hD hC hS hA (ci := 3) (q0 := 0) rfl rfl rfl) rfl rfl hl.1 rfl (lv_room (Nat.le_of_ble_eq_true rfl)) d_A_readExp_81 ⟨by decide, by decide⟩) hS hA hD (fun rz34 u t H locs hr0 ht hB hFr hS => ?_)
              obtain ⟨x0_3z34, x0_4z34, hP, hD⟩ := hB
              rw [ht] at hP
              have hD := dwk hD hFr
              clear ht hFr
              have hP : va_P D classes (wS52 K cI cJ cZ cB p0 p1 p2 p3 p4 p5 p6 p7 p8 p9 p10 p11 p12 p13 p14 p15 x0_3z34 x0_4z34 x0_5 x0_6 x0_7 x0_8 x0_9 x0_10 x0_11 x0_12 x0_13 x0_14 x1_1 x1_2 x1_3z27 x1_4 x1_5 x1_6z27 x1_7z27 x1_8z27 y2 x3_5 x3_6 y4 y5 y6 y7 y8 x9_6 y10 y11 y12 y13 y14 y15) H := hP
              have hD : va_D A (wS52 K cI cJ cZ cB p0 p1 p2 p3 p4 p5 p6 p7 p8 p9 p10 p11 p12 p13 p14 p15 x0_3z34 x0_4z34 x0_5 x0_6 x0_7 x0_8 x0_9 x0_10 x0_11 x0_12 x0_13 x0_14 x1_1 x1_2 x1_3z27 x1_4 x1_5 x1_6z27 x1_7z27 x1_8z27 y2 x3_5 x3_6 y4 y5 y6 y7 y8 x9_6 y10 y11 y12 y13 y14 y15) := hD
              refine lv_lstore_n (lv' := [(1, .long rz34), (5, .long v29), (4, .int l4), (3, .int l3), (0, .ref p0)]) hx hb d_A_readExp_84 rfl hl (by decide) rfl (fun ls hl => ?_)
              refine lv_aload_n hx hb d_A_readExp_85 rfl (lv_at hl 4 rfl) ?_
              refine va_get (D := D) (ci := 3) (v := .ref p1) (C := "SignMachine$Assembler") (T := F_A) (N := 15) hx hb hk fi_A hown hK.1 hP 0 rfl rfl 0 (by decide) (hk _ k_631) (fun _ h9 => h9) rfl d_A_readExp_86 ?_
              refine sn_i (va_runV (C := "SignMachine$Source") (As := []) (rest := []) ⟨hx, hb, hml, hown, hk⟩ (c_R_peek_s1 l K D cI cJ cZ cB p0 p1 p2 p3 p4 p5 p6 p7 p8 p9 p10 p11 p12 p13 p14 p15 H.size x0_3z34 x0_4z34 x0_5 x0_6 x0_7 x0_8 x0_9 x0_10 x0_11 x0_12 x0_13 x0_14 x1_1 x1_2 x1_3z27 x1_4 x1_5 x1_6z27 x1_7z27 x1_8z27 y2 x3_5 x3_6 y4 y5 y6 y7 y8 x9_6 y10 y11 y12 y13 y14 y15   ) (v_R_peek_s1 hk k_739 ⟨Nat.le_of_ble_eq_true rfl, Nat.le_of_ble_eq_true rfl⟩) (pMC_v hK hP hD hC hS hA (ci := 4) (q0 := 1) rfl rfl rfl) rfl rfl hl.1 rfl (lv_room (Nat.le_of_ble_eq_true rfl)) d_A_readExp_89 ⟨by decide, by decide⟩) hS hA hD (fun rz35 u t H locs hr0 ht hB hFr hS => ?_)
              obtain ⟨hP, hD⟩ := hB
              rw [ht] at hP
              have hD := dwk hD hFr
              clear ht hFr
              have hP : va_P D classes (wS52 K cI cJ cZ cB p0 p1 p2 p3 p4 p5 p6 p7 p8 p9 p10 p11 p12 p13 p14 p15 x0_3z34 x0_4z34 x0_5 x0_6 x0_7 x0_8 x0_9 x0_10 x0_11 x0_12 x0_13 x0_14 x1_1 x1_2 x1_3z27 x1_4 x1_5 x1_6z27 x1_7z27 x1_8z27 y2 x3_5 x3_6 y4 y5 y6 y7 y8 x9_6 y10 y11 y12 y13 y14 y15) H := hP
              have hD : va_D A (wS52 K cI cJ cZ cB p0 p1 p2 p3 p4 p5 p6 p7 p8 p9 p10 p11 p12 p13 p14 p15 x0_3z34 x0_4z34 x0_5 x0_6 x0_7 x0_8 x0_9 x0_10 x0_11 x0_12 x0_13 x0_14 x1_1 x1_2 x1_3z27 x1_4 x1_5 x1_6z27 x1_7z27 x1_8z27 y2 x3_5 x3_6 y4 y5 y6 y7 y8 x9_6 y10 y11 y12 y13 y14 y15) := hD
              refine lv_istore_n (lv' := [(3, .int rz35), (1, .long rz34), (5, .long v29), (4, .int l4), (0, .ref p0)]) hx hb d_A_readExp_92 rfl hl (by decide) rfl (fun ls hl => ?_)
              refine lv_aload_n hx hb d_A_readExp_93 rfl (lv_at hl 4 rfl) ?_
              refine va_get (D := D) (ci := 3) (v := .int x0_3z34) (C := "SignMachine$Assembler") (T := F_A) (N := 15) hx hb hk fi_A hown hK.1 hP 0 rfl rfl 3 (by decide) (hk _ k_636) (fun _ h9 => h9) rfl d_A_readExp_94 ?_
              refine lv_if_ne (tgt := 107) hx hb d_A_readExp_97 (by decide) (fun c36 => ?_) (fun c36 => ?_)
              · refine lv_lload_n hx hb d_A_readExp_107 rfl (lv_at hl 1 rfl) ?_
                refine lv_l2i (v := (rz34 : Int64).toInt32) hx hb d_A_readExp_108 rfl ?_
                refine lv_topi (fun v37 hv37 => ?_)
                exact W.iret (v := v37) hx hb hr (fun t ht hW => ⟨⟨v37, (), rfl, trivial, ⟨x0_3z34, x0_4z34, x1_3z27, x1_6z27, x1_7z27, x1_8z27, by show va_P D classes _ t.heap; rw [ht]; exact hP, hD⟩⟩, hS.F ht⟩) hS.2.2 d_A_readExp_109
              · refine lv_iload_n hx hb d_A_readExp_100 rfl (lv_at hl 0 rfl) ?_
                refine cs_i (W.runS (As := [.int rz35]) (rest := []) ⟨hx, hb, hml, hown, hk⟩ (c_A_isOperator l rz35) (s_A_isOperator hk k_1018 ⟨Nat.le_of_ble_eq_true rfl, Nat.le_of_ble_eq_true rfl⟩) ⟨fun a U g mk q => q, fun U hU hW => ⟨rfl, trivial⟩⟩ rfl rfl hl.1 rfl (lv_room (Nat.le_of_ble_eq_true rfl)) d_A_readExp_101 ⟨Nat.le_of_ble_eq_true rfl, Nat.le_of_ble_eq_true rfl⟩) ?_
                obtain ⟨z38, hz38⟩ : ∃ y : Bool, y = (f_A_isOperator rz35) := ⟨_, rfl⟩
                rw [← hz38]
                refine lv_if_ne (tgt := 110) hx hb d_A_readExp_104 (by decide) (fun c39 => ?_) (fun c39 => ?_)
                · refine lv_aload_n hx hb d_A_readExp_110 rfl (lv_at hl 4 rfl) ?_
                  refine va_get (D := D) (ci := 3) (v := .ref p1) (C := "SignMachine$Assembler") (T := F_A) (N := 15) hx hb hk fi_A hown hK.1 hP 0 rfl rfl 0 (by decide) (hk _ k_631) (fun _ h9 => h9) rfl d_A_readExp_111 ?_
                  refine kn_v (va_runV (C := "SignMachine$Source") (As := []) (rest := []) ⟨hx, hb, hml, hown, hk⟩ (c_R_skip_s1 l K D cI cJ cZ cB p0 p1 p2 p3 p4 p5 p6 p7 p8 p9 p10 p11 p12 p13 p14 p15 H.size x0_3z34 x0_4z34 x0_5 x0_6 x0_7 x0_8 x0_9 x0_10 x0_11 x0_12 x0_13 x0_14 x1_1 x1_2 x1_3z27 x1_4 x1_5 x1_6z27 x1_7z27 x1_8z27 y2 x3_5 x3_6 y4 y5 y6 y7 y8 x9_6 y10 y11 y12 y13 y14 y15   ) (v_R_skip_s1 hk k_960 ⟨Nat.le_of_ble_eq_true rfl, Nat.le_of_ble_eq_true rfl⟩) (pMC_v hK hP hD hC hS hA (ci := 4) (q0 := 1) rfl rfl rfl) rfl rfl hl.1 rfl (lv_room (Nat.le_of_ble_eq_true rfl)) d_A_readExp_114 ⟨by decide, by decide⟩) hS hA hD (fun u t H locs ht hB hFr hS => ?_)
                  obtain ⟨x1_3z40, hP, hD⟩ := hB
                  rw [ht] at hP
                  have hD := dwk hD hFr
                  clear ht hFr
                  have hP : va_P D classes (wS52 K cI cJ cZ cB p0 p1 p2 p3 p4 p5 p6 p7 p8 p9 p10 p11 p12 p13 p14 p15 x0_3z34 x0_4z34 x0_5 x0_6 x0_7 x0_8 x0_9 x0_10 x0_11 x0_12 x0_13 x0_14 x1_1 x1_2 x1_3z40 x1_4 x1_5 x1_6z27 x1_7z27 x1_8z27 y2 x3_5 x3_6 y4 y5 y6 y7 y8 x9_6 y10 y11 y12 y13 y14 y15) H := hP
                  have hD : va_D A (wS52 K cI cJ cZ cB p0 p1 p2 p3 p4 p5 p6 p7 p8 p9 p10 p11 p12 p13 p14 p15 x0_3z34 x0_4z34 x0_5 x0_6 x0_7 x0_8 x0_9 x0_10 x0_11 x0_12 x0_13 x0_14 x1_1 x1_2 x1_3z40 x1_4 x1_5 x1_6z27 x1_7z27 x1_8z27 y2 x3_5 x3_6 y4 y5 y6 y7 y8 x9_6 y10 y11 y12 y13 y14 y15) := hD
                  obtain ⟨v41, hv41⟩ : ∃ y : Int32, y = (l4 + (1 : Int32)) := ⟨_, rfl⟩
                  refine lv_iinc (v := v41) (lv' := [(4, .int v41), (3, .int rz35), (1, .long rz34), (5, .long v29), (0, .ref p0)]) hx hb d_A_readExp_117 hl (k := 3) rfl (by rw [hv41]; rfl) (by decide) rfl (fun ls hl => ?_)
                  refine lv_goto (tgt := 47) hx hb d_A_readExp_120 (by decide) ?_
                  exact ih v41 rz35 rz34 x0_3z34 x0_4z34 x1_3z40 x1_6z27 x1_7z27 x1_8z27 H _ ls (lpu c25 hv41 hn47_52) (lpn hc47_52 c25 hv41) hP hD hS (lv_sub hl [0, 1, 2, 4] rfl)
                · refine lv_lload_n hx hb d_A_readExp_107 rfl (lv_at hl 1 rfl) ?_
                  refine lv_l2i (v := (rz34 : Int64).toInt32) hx hb d_A_readExp_108 rfl ?_
                  refine lv_topi (fun v42 hv42 => ?_)
                  exact W.iret (v := v42) hx hb hr (fun t ht hW => ⟨⟨v42, (), rfl, trivial, ⟨x0_3z34, x0_4z34, x1_3z27, x1_6z27, x1_7z27, x1_8z27, by show va_P D classes _ t.heap; rw [ht]; exact hP, hD⟩⟩, hS.F ht⟩) hS.2.2 d_A_readExp_109
      exact LP47_52 _ (0 : Int32) (43 : Int32) (0 : Int64) x0_3 x0_4 x1_3 x1_6 x1_7 x1_8 H _ ls (Nat.lt_succ_self _) (by decide) hP hD hS hl
    · refine lv_aload_n hx hb d_A_readExp_29 rfl (lv_at hl 2 rfl) ?_
      refine va_get (D := D) (ci := 3) (v := .ref p1) (C := "SignMachine$Assembler") (T := F_A) (N := 15) hx hb hk fi_A hown hK.1 hP 0 rfl rfl 0 (by decide) (hk _ k_631) (fun _ h9 => h9) rfl d_A_readExp_30 ?_
      refine sn_i (va_runV (C := "SignMachine$Source") (As := []) (rest := []) ⟨hx, hb, hml, hown, hk⟩ (c_R_peek_s1 l K D cI cJ cZ cB p0 p1 p2 p3 p4 p5 p6 p7 p8 p9 p10 p11 p12 p13 p14 p15 H.size x0_3 x0_4 x0_5 x0_6 x0_7 x0_8 x0_9 x0_10 x0_11 x0_12 x0_13 x0_14 x1_1 x1_2 x1_3 x1_4 x1_5 x1_6 x1_7 x1_8 y2 x3_5 x3_6 y4 y5 y6 y7 y8 x9_6 y10 y11 y12 y13 y14 y15   ) (v_R_peek_s1 hk k_739 ⟨Nat.le_of_ble_eq_true rfl, Nat.le_of_ble_eq_true rfl⟩) (pMC_v hK hP hD hC hS hA (ci := 4) (q0 := 1) rfl rfl rfl) rfl rfl hl.1 rfl (lv_room (Nat.le_of_ble_eq_true rfl)) d_A_readExp_33 ⟨by decide, by decide⟩) hS hA hD (fun rz43 u t H locs hr0 ht hB hFr hS => ?_)
      obtain ⟨hP, hD⟩ := hB
      rw [ht] at hP
      have hD := dwk hD hFr
      clear ht hFr
      have hP : va_P D classes (wS52 K cI cJ cZ cB p0 p1 p2 p3 p4 p5 p6 p7 p8 p9 p10 p11 p12 p13 p14 p15 x0_3 x0_4 x0_5 x0_6 x0_7 x0_8 x0_9 x0_10 x0_11 x0_12 x0_13 x0_14 x1_1 x1_2 x1_3 x1_4 x1_5 x1_6 x1_7 x1_8 y2 x3_5 x3_6 y4 y5 y6 y7 y8 x9_6 y10 y11 y12 y13 y14 y15) H := hP
      have hD : va_D A (wS52 K cI cJ cZ cB p0 p1 p2 p3 p4 p5 p6 p7 p8 p9 p10 p11 p12 p13 p14 p15 x0_3 x0_4 x0_5 x0_6 x0_7 x0_8 x0_9 x0_10 x0_11 x0_12 x0_13 x0_14 x1_1 x1_2 x1_3 x1_4 x1_5 x1_6 x1_7 x1_8 y2 x3_5 x3_6 y4 y5 y6 y7 y8 x9_6 y10 y11 y12 y13 y14 y15) := hD
      refine lv_istore_n (lv' := [(3, .int rz43), (1, .long (0 : Int64)), (0, .ref p0)]) hx hb d_A_readExp_36 rfl hl (by decide) rfl (fun ls hl => ?_)
      refine lv_aload_n hx hb d_A_readExp_37 rfl (lv_at hl 2 rfl) ?_
      refine va_get (D := D) (ci := 3) (v := .ref p1) (C := "SignMachine$Assembler") (T := F_A) (N := 15) hx hb hk fi_A hown hK.1 hP 0 rfl rfl 0 (by decide) (hk _ k_631) (fun _ h9 => h9) rfl d_A_readExp_38 ?_
      refine kn_v (va_runV (C := "SignMachine$Source") (As := []) (rest := []) ⟨hx, hb, hml, hown, hk⟩ (c_R_skip_s1 l K D cI cJ cZ cB p0 p1 p2 p3 p4 p5 p6 p7 p8 p9 p10 p11 p12 p13 p14 p15 H.size x0_3 x0_4 x0_5 x0_6 x0_7 x0_8 x0_9 x0_10 x0_11 x0_12 x0_13 x0_14 x1_1 x1_2 x1_3 x1_4 x1_5 x1_6 x1_7 x1_8 y2 x3_5 x3_6 y4 y5 y6 y7 y8 x9_6 y10 y11 y12 y13 y14 y15   ) (v_R_skip_s1 hk k_960 ⟨Nat.le_of_ble_eq_true rfl, Nat.le_of_ble_eq_true rfl⟩) (pMC_v hK hP hD hC hS hA (ci := 4) (q0 := 1) rfl rfl rfl) rfl rfl hl.1 rfl (lv_room (Nat.le_of_ble_eq_true rfl)) d_A_readExp_41 ⟨by decide, by decide⟩) hS hA hD (fun u t H locs ht hB hFr hS => ?_)
      obtain ⟨x1_3z44, hP, hD⟩ := hB
      rw [ht] at hP
      have hD := dwk hD hFr
      clear ht hFr
      have hP : va_P D classes (wS52 K cI cJ cZ cB p0 p1 p2 p3 p4 p5 p6 p7 p8 p9 p10 p11 p12 p13 p14 p15 x0_3 x0_4 x0_5 x0_6 x0_7 x0_8 x0_9 x0_10 x0_11 x0_12 x0_13 x0_14 x1_1 x1_2 x1_3z44 x1_4 x1_5 x1_6 x1_7 x1_8 y2 x3_5 x3_6 y4 y5 y6 y7 y8 x9_6 y10 y11 y12 y13 y14 y15) H := hP
      have hD : va_D A (wS52 K cI cJ cZ cB p0 p1 p2 p3 p4 p5 p6 p7 p8 p9 p10 p11 p12 p13 p14 p15 x0_3 x0_4 x0_5 x0_6 x0_7 x0_8 x0_9 x0_10 x0_11 x0_12 x0_13 x0_14 x1_1 x1_2 x1_3z44 x1_4 x1_5 x1_6 x1_7 x1_8 y2 x3_5 x3_6 y4 y5 y6 y7 y8 x9_6 y10 y11 y12 y13 y14 y15) := hD
      refine lv_iconst (v := 0) hx hb d_A_readExp_44 (by decide) ?_
      refine lv_istore (lv' := [(4, .int (0 : Int32)), (3, .int rz43), (1, .long (0 : Int64)), (0, .ref p0)]) hx hb d_A_readExp_45 hl (by decide) rfl (fun ls hl => ?_)
      have LP47_52 : ∀ (n : Nat) (l4 : Int32) (l3 : Int32) (l1 : Int64) (x0_3 : Int32) (x0_4 : Int32) (x1_3 : Int32) (x1_6 : Int32) (x1_7 : Int64) (x1_8 : Int32) (H : Heap) (locs : List Loc) (ls : Array Slot), (((4000 : Int32)).toInt - (l4).toInt).toNat < n → ¬ l4 < (0 : Int32) → va_P D classes (wS52 K cI cJ cZ cB p0 p1 p2 p3 p4 p5 p6 p7 p8 p9 p10 p11 p12 p13 p14 p15 x0_3 x0_4 x0_5 x0_6 x0_7 x0_8 x0_9 x0_10 x0_11 x0_12 x0_13 x0_14 x1_1 x1_2 x1_3 x1_4 x1_5 x1_6 x1_7 x1_8 y2 x3_5 x3_6 y4 y5 y6 y7 y8 x9_6 y10 y11 y12 y13 y14 y15) H → va_D A (wS52 K cI cJ cZ cB p0 p1 p2 p3 p4 p5 p6 p7 p8 p9 p10 p11 p12 p13 p14 p15 x0_3 x0_4 x0_5 x0_6 x0_7 x0_8 x0_9 x0_10 x0_11 x0_12 x0_13 x0_14 x1_1 x1_2 x1_3 x1_4 x1_5 x1_6 x1_7 x1_8 y2 x3_5 x3_6 y4 y5 y6 y7 y8 x9_6 y10 y11 y12 y13 y14 y15) → va_S A s.heap H locs → lv_has ls 7 [(4, .int l4), (3, .int l3), (1, .long l1), (0, .ref p0)] → W p l e ({ frames := 2, cells := 0, slots := 0, locals := 48 }) s m [.ref p0].toArray below meth c H locs 0 0 (MQ below (va_Qi (fun r (_ : Unit) => True) (fun _ t => (∃ u_x0_3 : Int32, ∃ u_x0_4 : Int32, ∃ u_x1_3 : Int32, ∃ u_x1_6 : Int32, ∃ u_x1_7 : Int64, ∃ u_x1_8 : Int32, va_P D classes (wS52 K cI cJ cZ cB p0 p1 p2 p3 p4 p5 p6 p7 p8 p9 p10 p11 p12 p13 p14 p15 u_x0_3 u_x0_4 x0_5 x0_6 x0_7 x0_8 x0_9 x0_10 x0_11 x0_12 x0_13 x0_14 x1_1 x1_2 u_x1_3 x1_4 x1_5 u_x1_6 u_x1_7 u_x1_8 y2 x3_5 x3_6 y4 y5 y6 y7 y8 x9_6 y10 y11 y12 y13 y14 y15) t.heap ∧ va_D A (wS52 K cI cJ cZ cB p0 p1 p2 p3 p4 p5 p6 p7 p8 p9 p10 p11 p12 p13 p14 p15 u_x0_3 u_x0_4 x0_5 x0_6 x0_7 x0_8 x0_9 x0_10 x0_11 x0_12 x0_13 x0_14 x1_1 x1_2 u_x1_3 x1_4 x1_5 u_x1_6 u_x1_7 u_x1_8 y2 x3_5 x3_6 y4 y5 y6 y7 y8 x9_6 y10 y11 y12 y13 y14 y15))) A) [.ref p0].toArray s 0 0 A) (F0 m 47 ls []) := by
        intro n
        induction n with
        | zero => intro l4 l3 l1 x0_3 x0_4 x1_3 x1_6 x1_7 x1_8 H locs ls hn; exact absurd hn (Nat.not_lt_zero _)
        | succ n ih =>
          intro l4 l3 l1 x0_3 x0_4 x1_3 x1_6 x1_7 x1_8 H locs ls hn47_52 hc47_52 hP hD hS hl
          refine lv_iload hx hb d_A_readExp_47 (lv_at hl 0 rfl) ?_
          refine lv_sipush (v := 4000) hx hb d_A_readExp_49 (by decide) ?_
          refine lv_icmp_ge (tgt := 123) hx hb d_A_readExp_52 (by decide) (fun c45 => ?_) (fun c45 => ?_)
          · refine lv_lload_n hx hb d_A_readExp_123 rfl (lv_at hl 2 rfl) ?_
            refine lv_l2i (v := (l1 : Int64).toInt32) hx hb d_A_readExp_124 rfl ?_
            refine lv_topi (fun v46 hv46 => ?_)
            exact W.iret (v := v46) hx hb hr (fun t ht hW => ⟨⟨v46, (), rfl, trivial, ⟨x0_3, x0_4, x1_3, x1_6, x1_7, x1_8, by show va_P D classes _ t.heap; rw [ht]; exact hP, hD⟩⟩, hS.F ht⟩) hS.2.2 d_A_readExp_125
          · refine lv_aload_n hx hb d_A_readExp_55 rfl (lv_at hl 3 rfl) ?_
            refine va_get (D := D) (ci := 3) (v := .ref p1) (C := "SignMachine$Assembler") (T := F_A) (N := 15) hx hb hk fi_A hown hK.1 hP 0 rfl rfl 0 (by decide) (hk _ k_631) (fun _ h9 => h9) rfl d_A_readExp_56 ?_
            refine kn_v (va_runV (C := "SignMachine$Source") (As := []) (rest := []) ⟨hx, hb, hml, hown, hk⟩ (c_R_readToken_s1 l K D cI cJ cZ cB p0 p1 p2 p3 p4 p5 p6 p7 p8 p9 p10 p11 p12 p13 p14 p15 H.size x0_3 x0_4 x0_5 x0_6 x0_7 x0_8 x0_9 x0_10 x0_11 x0_12 x0_13 x0_14 x1_1 x1_2 x1_3 x1_4 x1_5 x1_6 x1_7 x1_8 y2 x3_5 x3_6 y4 y5 y6 y7 y8 x9_6 y10 y11 y12 y13 y14 y15   ) (v_R_readToken_s1 hk k_752 ⟨Nat.le_of_ble_eq_true rfl, Nat.le_of_ble_eq_true rfl⟩) (pMC_v hK hP hD hC hS hA (ci := 4) (q0 := 1) rfl rfl rfl) rfl rfl hl.1 rfl (lv_room (Nat.le_of_ble_eq_true rfl)) d_A_readExp_59 ⟨by decide, by decide⟩) hS hA hD (fun u t H locs ht hB hFr hS => ?_)
            obtain ⟨x1_3z47, x1_6z47, x1_7z47, x1_8z47, hP, hD⟩ := hB
            rw [ht] at hP
            have hD := dwk hD hFr
            clear ht hFr
            have hP : va_P D classes (wS52 K cI cJ cZ cB p0 p1 p2 p3 p4 p5 p6 p7 p8 p9 p10 p11 p12 p13 p14 p15 x0_3 x0_4 x0_5 x0_6 x0_7 x0_8 x0_9 x0_10 x0_11 x0_12 x0_13 x0_14 x1_1 x1_2 x1_3z47 x1_4 x1_5 x1_6z47 x1_7z47 x1_8z47 y2 x3_5 x3_6 y4 y5 y6 y7 y8 x9_6 y10 y11 y12 y13 y14 y15) H := hP
            have hD : va_D A (wS52 K cI cJ cZ cB p0 p1 p2 p3 p4 p5 p6 p7 p8 p9 p10 p11 p12 p13 p14 p15 x0_3 x0_4 x0_5 x0_6 x0_7 x0_8 x0_9 x0_10 x0_11 x0_12 x0_13 x0_14 x1_1 x1_2 x1_3z47 x1_4 x1_5 x1_6z47 x1_7z47 x1_8z47 y2 x3_5 x3_6 y4 y5 y6 y7 y8 x9_6 y10 y11 y12 y13 y14 y15) := hD
            refine lv_aload_n hx hb d_A_readExp_62 rfl (lv_at hl 3 rfl) ?_
            refine sn_i (va_runV (C := "SignMachine$Assembler") (As := []) (rest := []) ⟨hx, hb, hml, hown, hk⟩ (c_A_atomValue_s1 l K D cI cJ cZ cB p0 p1 p2 p3 p4 p5 p6 p7 p8 p9 p10 p11 p12 p13 p14 p15 H.size x0_3 x0_4 x0_5 x0_6 x0_7 x0_8 x0_9 x0_10 x0_11 x0_12 x0_13 x0_14 x1_1 x1_2 x1_3z47 x1_4 x1_5 x1_6z47 x1_7z47 x1_8z47 y2 x3_5 x3_6 y4 y5 y6 y7 y8 x9_6 y10 y11 y12 y13 y14 y15   ) (v_A_atomValue_s1 hk k_993 ⟨Nat.le_of_ble_eq_true rfl, Nat.le_of_ble_eq_true rfl⟩) (pMC_v hK hP hD hC hS hA (ci := 3) (q0 := 0) rfl rfl rfl) rfl rfl hl.1 rfl (lv_room (Nat.le_of_ble_eq_true rfl)) d_A_readExp_63 ⟨by decide, by decide⟩) hS hA hD (fun rz48 u t H locs hr0 ht hB hFr hS => ?_)
            obtain ⟨x0_3z48, x0_4z48, hP, hD⟩ := hB
            rw [ht] at hP
            have hD := dwk hD hFr
            clear ht hFr
            have hP : va_P D classes (wS52 K cI cJ cZ cB p0 p1 p2 p3 p4 p5 p6 p7 p8 p9 p10 p11 p12 p13 p14 p15 x0_3z48 x0_4z48 x0_5 x0_6 x0_7 x0_8 x0_9 x0_10 x0_11 x0_12 x0_13 x0_14 x1_1 x1_2 x1_3z47 x1_4 x1_5 x1_6z47 x1_7z47 x1_8z47 y2 x3_5 x3_6 y4 y5 y6 y7 y8 x9_6 y10 y11 y12 y13 y14 y15) H := hP
            have hD : va_D A (wS52 K cI cJ cZ cB p0 p1 p2 p3 p4 p5 p6 p7 p8 p9 p10 p11 p12 p13 p14 p15 x0_3z48 x0_4z48 x0_5 x0_6 x0_7 x0_8 x0_9 x0_10 x0_11 x0_12 x0_13 x0_14 x1_1 x1_2 x1_3z47 x1_4 x1_5 x1_6z47 x1_7z47 x1_8z47 y2 x3_5 x3_6 y4 y5 y6 y7 y8 x9_6 y10 y11 y12 y13 y14 y15) := hD
            refine lv_i2l (v := (rz48 : Int32).toInt64) hx hb d_A_readExp_66 rfl ?_
            refine lv_topl (fun v49 hv49 => ?_)
            refine lv_lstore (lv' := [(5, .long v49), (4, .int l4), (3, .int l3), (1, .long l1), (0, .ref p0)]) hx hb d_A_readExp_67 hl (by decide) rfl (fun ls hl => ?_)
            refine lv_aload_n hx hb d_A_readExp_69 rfl (lv_at hl 4 rfl) ?_
            refine va_get (D := D) (ci := 3) (v := .int x0_3z48) (C := "SignMachine$Assembler") (T := F_A) (N := 15) hx hb hk fi_A hown hK.1 hP 0 rfl rfl 3 (by decide) (hk _ k_636) (fun _ h9 => h9) rfl d_A_readExp_70 ?_
            refine lv_if_ne (tgt := 85) hx hb d_A_readExp_73 (by decide) (fun c50 => ?_) (fun c50 => ?_)
            · refine lv_aload_n hx hb d_A_readExp_85 rfl (lv_at hl 4 rfl) ?_
              refine va_get (D := D) (ci := 3) (v := .ref p1) (C := "SignMachine$Assembler") (T := F_A) (N := 15) hx hb hk fi_A hown hK.1 hP 0 rfl rfl 0 (by decide) (hk _ k_631) (fun _ h9 => h9) rfl d_A_readExp_86 ?_
              refine sn_i (va_runV (C := "SignMachine$Source") (As := []) (rest := []) ⟨hx, hb, hml, hown, hk⟩ (c_R_peek_s1 l K D cI cJ cZ cB p0 p1 p2 p3 p4 p5 p6 p7 p8 p9 p10 p11 p12 p13 p14 p15 H.size x0_3z48 x0_4z48 x0_5 x0_6 x0_7 x0_8 x0_9 x0_10 x0_11 x0_12 x0_13 x0_14 x1_1 x1_2 x1_3z47 x1_4 x1_5 x1_6z47 x1_7z47 x1_8z47 y2 x3_5 x3_6 y4 y5 y6 y7 y8 x9_6 y10 y11 y12 y13 y14 y15   ) (v_R_peek_s1 hk k_739 ⟨Nat.le_of_ble_eq_true rfl, Nat.le_of_ble_eq_true rfl⟩) (pMC_v hK hP hD hC hS hA (ci := 4) (q0 := 1) rfl rfl rfl) rfl rfl hl.1 rfl (lv_room (Nat.le_of_ble_eq_true rfl)) d_A_readExp_89 ⟨by decide, by decide⟩) hS hA hD (fun rz51 u t H locs hr0 ht hB hFr hS => ?_)
              obtain ⟨hP, hD⟩ := hB
              rw [ht] at hP
              have hD := dwk hD hFr
              clear ht hFr
              have hP : va_P D classes (wS52 K cI cJ cZ cB p0 p1 p2 p3 p4 p5 p6 p7 p8 p9 p10 p11 p12 p13 p14 p15 x0_3z48 x0_4z48 x0_5 x0_6 x0_7 x0_8 x0_9 x0_10 x0_11 x0_12 x0_13 x0_14 x1_1 x1_2 x1_3z47 x1_4 x1_5 x1_6z47 x1_7z47 x1_8z47 y2 x3_5 x3_6 y4 y5 y6 y7 y8 x9_6 y10 y11 y12 y13 y14 y15) H := hP
              have hD : va_D A (wS52 K cI cJ cZ cB p0 p1 p2 p3 p4 p5 p6 p7 p8 p9 p10 p11 p12 p13 p14 p15 x0_3z48 x0_4z48 x0_5 x0_6 x0_7 x0_8 x0_9 x0_10 x0_11 x0_12 x0_13 x0_14 x1_1 x1_2 x1_3z47 x1_4 x1_5 x1_6z47 x1_7z47 x1_8z47 y2 x3_5 x3_6 y4 y5 y6 y7 y8 x9_6 y10 y11 y12 y13 y14 y15) := hD
              refine lv_istore_n (lv' := [(3, .int rz51), (5, .long v49), (4, .int l4), (1, .long l1), (0, .ref p0)]) hx hb d_A_readExp_92 rfl hl (by decide) rfl (fun ls hl => ?_)
              refine lv_aload_n hx hb d_A_readExp_93 rfl (lv_at hl 4 rfl) ?_
              refine va_get (D := D) (ci := 3) (v := .int x0_3z48) (C := "SignMachine$Assembler") (T := F_A) (N := 15) hx hb hk fi_A hown hK.1 hP 0 rfl rfl 3 (by decide) (hk _ k_636) (fun _ h9 => h9) rfl d_A_readExp_94 ?_
              refine lv_if_ne (tgt := 107) hx hb d_A_readExp_97 (by decide) (fun c52 => ?_) (fun c52 => absurd c52 (show ¬ x0_3z48 = (0 : Int32) from c50))
              refine lv_lload_n hx hb d_A_readExp_107 rfl (lv_at hl 3 rfl) ?_
              refine lv_l2i (v := (l1 : Int64).toInt32) hx hb d_A_readExp_108 rfl ?_
              refine lv_topi (fun v53 hv53 => ?_)
              exact W.iret (v := v53) hx hb hr (fun t ht hW => ⟨⟨v53, (), rfl, trivial, ⟨x0_3z48, x0_4z48, x1_3z47, x1_6z47, x1_7z47, x1_8z47, by show va_P D classes _ t.heap; rw [ht]; exact hP, hD⟩⟩, hS.F ht⟩) hS.2.2 d_A_readExp_109
            · refine lv_aload_n hx hb d_A_readExp_76 rfl (lv_at hl 4 rfl) ?_
              refine lv_lload_n hx hb d_A_readExp_77 rfl (lv_at hl 3 rfl) ?_
              refine lv_iload_n hx hb d_A_readExp_78 rfl (lv_at hl 2 rfl) ?_
              refine lv_lload hx hb d_A_readExp_79 (lv_at hl 0 rfl) ?_
              refine sn_l (va_runV (C := "SignMachine$Assembler") (As := [.long l1, .int l3, .long v49]) (rest := []) ⟨hx, hb, hml, hown, hk⟩ (c_A_reckon_s1 l K D cI cJ cZ cB p0 p1 p2 p3 p4 p5 p6 p7 p8 p9 p10 p11 p12 p13 p14 p15 H.size x0_3z48 x0_4z48 x0_5 x0_6 x0_7 x0_8 x0_9 x0_10 x0_11 x0_12 x0_13 x0_14 x1_1 x1_2 x1_3z47 x1_4 x1_5 x1_6z47 x1_7z47 x1_8z47 y2 x3_5 x3_6 y4 y5 y6 y7 y8 x9_6 y10 y11 y12 y13 y14 y15  l1 l3 v49 ) (v_A_reckon_s1 hk k_1009 ⟨Nat.le_of_ble_eq_true rfl, Nat.le_of_ble_eq_true rfl⟩) (pMC_v hK hP hD hC hS hA (ci := 3) (q0 := 0) rfl rfl rfl) rfl rfl hl.1 rfl (lv_room (Nat.le_of_ble_eq_true rfl)) d_A_readExp_81 ⟨by decide, by decide⟩) hS hA hD (fun rz54 u t H locs hr0 ht hB hFr hS => ?_)
              obtain ⟨x0_3z54, x0_4z54, hP, hD⟩ := hB
              rw [ht] at hP
              have hD := dwk hD hFr
              clear ht hFr
              have hP : va_P D classes (wS52 K cI cJ cZ cB p0 p1 p2 p3 p4 p5 p6 p7 p8 p9 p10 p11 p12 p13 p14 p15 x0_3z54 x0_4z54 x0_5 x0_6 x0_7 x0_8 x0_9 x0_10 x0_11 x0_12 x0_13 x0_14 x1_1 x1_2 x1_3z47 x1_4 x1_5 x1_6z47 x1_7z47 x1_8z47 y2 x3_5 x3_6 y4 y5 y6 y7 y8 x9_6 y10 y11 y12 y13 y14 y15) H := hP
              have hD : va_D A (wS52 K cI cJ cZ cB p0 p1 p2 p3 p4 p5 p6 p7 p8 p9 p10 p11 p12 p13 p14 p15 x0_3z54 x0_4z54 x0_5 x0_6 x0_7 x0_8 x0_9 x0_10 x0_11 x0_12 x0_13 x0_14 x1_1 x1_2 x1_3z47 x1_4 x1_5 x1_6z47 x1_7z47 x1_8z47 y2 x3_5 x3_6 y4 y5 y6 y7 y8 x9_6 y10 y11 y12 y13 y14 y15) := hD
              refine lv_lstore_n (lv' := [(1, .long rz54), (5, .long v49), (4, .int l4), (3, .int l3), (0, .ref p0)]) hx hb d_A_readExp_84 rfl hl (by decide) rfl (fun ls hl => ?_)
              refine lv_aload_n hx hb d_A_readExp_85 rfl (lv_at hl 4 rfl) ?_
              refine va_get (D := D) (ci := 3) (v := .ref p1) (C := "SignMachine$Assembler") (T := F_A) (N := 15) hx hb hk fi_A hown hK.1 hP 0 rfl rfl 0 (by decide) (hk _ k_631) (fun _ h9 => h9) rfl d_A_readExp_86 ?_
              refine sn_i (va_runV (C := "SignMachine$Source") (As := []) (rest := []) ⟨hx, hb, hml, hown, hk⟩ (c_R_peek_s1 l K D cI cJ cZ cB p0 p1 p2 p3 p4 p5 p6 p7 p8 p9 p10 p11 p12 p13 p14 p15 H.size x0_3z54 x0_4z54 x0_5 x0_6 x0_7 x0_8 x0_9 x0_10 x0_11 x0_12 x0_13 x0_14 x1_1 x1_2 x1_3z47 x1_4 x1_5 x1_6z47 x1_7z47 x1_8z47 y2 x3_5 x3_6 y4 y5 y6 y7 y8 x9_6 y10 y11 y12 y13 y14 y15   ) (v_R_peek_s1 hk k_739 ⟨Nat.le_of_ble_eq_true rfl, Nat.le_of_ble_eq_true rfl⟩) (pMC_v hK hP hD hC hS hA (ci := 4) (q0 := 1) rfl rfl rfl) rfl rfl hl.1 rfl (lv_room (Nat.le_of_ble_eq_true rfl)) d_A_readExp_89 ⟨by decide, by decide⟩) hS hA hD (fun rz55 u t H locs hr0 ht hB hFr hS => ?_)
              obtain ⟨hP, hD⟩ := hB
              rw [ht] at hP
              have hD := dwk hD hFr
              clear ht hFr
              have hP : va_P D classes (wS52 K cI cJ cZ cB p0 p1 p2 p3 p4 p5 p6 p7 p8 p9 p10 p11 p12 p13 p14 p15 x0_3z54 x0_4z54 x0_5 x0_6 x0_7 x0_8 x0_9 x0_10 x0_11 x0_12 x0_13 x0_14 x1_1 x1_2 x1_3z47 x1_4 x1_5 x1_6z47 x1_7z47 x1_8z47 y2 x3_5 x3_6 y4 y5 y6 y7 y8 x9_6 y10 y11 y12 y13 y14 y15) H := hP
              have hD : va_D A (wS52 K cI cJ cZ cB p0 p1 p2 p3 p4 p5 p6 p7 p8 p9 p10 p11 p12 p13 p14 p15 x0_3z54 x0_4z54 x0_5 x0_6 x0_7 x0_8 x0_9 x0_10 x0_11 x0_12 x0_13 x0_14 x1_1 x1_2 x1_3z47 x1_4 x1_5 x1_6z47 x1_7z47 x1_8z47 y2 x3_5 x3_6 y4 y5 y6 y7 y8 x9_6 y10 y11 y12 y13 y14 y15) := hD
              refine lv_istore_n (lv' := [(3, .int rz55), (1, .long rz54), (5, .long v49), (4, .int l4), (0, .ref p0)]) hx hb d_A_readExp_92 rfl hl (by decide) rfl (fun ls hl => ?_)
              refine lv_aload_n hx hb d_A_readExp_93 rfl (lv_at hl 4 rfl) ?_
              refine va_get (D := D) (ci := 3) (v := .int x0_3z54) (C := "SignMachine$Assembler") (T := F_A) (N := 15) hx hb hk fi_A hown hK.1 hP 0 rfl rfl 3 (by decide) (hk _ k_636) (fun _ h9 => h9) rfl d_A_readExp_94 ?_
              refine lv_if_ne (tgt := 107) hx hb d_A_readExp_97 (by decide) (fun c56 => ?_) (fun c56 => ?_)
              · refine lv_lload_n hx hb d_A_readExp_107 rfl (lv_at hl 1 rfl) ?_
                refine lv_l2i (v := (rz54 : Int64).toInt32) hx hb d_A_readExp_108 rfl ?_
                refine lv_topi (fun v57 hv57 => ?_)
                exact W.iret (v := v57) hx hb hr (fun t ht hW => ⟨⟨v57, (), rfl, trivial, ⟨x0_3z54, x0_4z54, x1_3z47, x1_6z47, x1_7z47, x1_8z47, by show va_P D classes _ t.heap; rw [ht]; exact hP, hD⟩⟩, hS.F ht⟩) hS.2.2 d_A_readExp_109
              · refine lv_iload_n hx hb d_A_readExp_100 rfl (lv_at hl 0 rfl) ?_
                refine cs_i (W.runS (As := [.int rz55]) (rest := []) ⟨hx, hb, hml, hown, hk⟩ (c_A_isOperator l rz55) (s_A_isOperator hk k_1018 ⟨Nat.le_of_ble_eq_true rfl, Nat.le_of_ble_eq_true rfl⟩) ⟨fun a U g mk q => q, fun U hU hW => ⟨rfl, trivial⟩⟩ rfl rfl hl.1 rfl (lv_room (Nat.le_of_ble_eq_true rfl)) d_A_readExp_101 ⟨Nat.le_of_ble_eq_true rfl, Nat.le_of_ble_eq_true rfl⟩) ?_
                obtain ⟨z58, hz58⟩ : ∃ y : Bool, y = (f_A_isOperator rz55) := ⟨_, rfl⟩
                rw [← hz58]
                refine lv_if_ne (tgt := 110) hx hb d_A_readExp_104 (by decide) (fun c59 => ?_) (fun c59 => ?_)
                · refine lv_aload_n hx hb d_A_readExp_110 rfl (lv_at hl 4 rfl) ?_
                  refine va_get (D := D) (ci := 3) (v := .ref p1) (C := "SignMachine$Assembler") (T := F_A) (N := 15) hx hb hk fi_A hown hK.1 hP 0 rfl rfl 0 (by decide) (hk _ k_631) (fun _ h9 => h9) rfl d_A_readExp_111 ?_
                  refine kn_v (va_runV (C := "SignMachine$Source") (As := []) (rest := []) ⟨hx, hb, hml, hown, hk⟩ (c_R_skip_s1 l K D cI cJ cZ cB p0 p1 p2 p3 p4 p5 p6 p7 p8 p9 p10 p11 p12 p13 p14 p15 H.size x0_3z54 x0_4z54 x0_5 x0_6 x0_7 x0_8 x0_9 x0_10 x0_11 x0_12 x0_13 x0_14 x1_1 x1_2 x1_3z47 x1_4 x1_5 x1_6z47 x1_7z47 x1_8z47 y2 x3_5 x3_6 y4 y5 y6 y7 y8 x9_6 y10 y11 y12 y13 y14 y15   ) (v_R_skip_s1 hk k_960 ⟨Nat.le_of_ble_eq_true rfl, Nat.le_of_ble_eq_true rfl⟩) (pMC_v hK hP hD hC hS hA (ci := 4) (q0 := 1) rfl rfl rfl) rfl rfl hl.1 rfl (lv_room (Nat.le_of_ble_eq_true rfl)) d_A_readExp_114 ⟨by decide, by decide⟩) hS hA hD (fun u t H locs ht hB hFr hS => ?_)
                  obtain ⟨x1_3z60, hP, hD⟩ := hB
                  rw [ht] at hP
                  have hD := dwk hD hFr
                  clear ht hFr
                  have hP : va_P D classes (wS52 K cI cJ cZ cB p0 p1 p2 p3 p4 p5 p6 p7 p8 p9 p10 p11 p12 p13 p14 p15 x0_3z54 x0_4z54 x0_5 x0_6 x0_7 x0_8 x0_9 x0_10 x0_11 x0_12 x0_13 x0_14 x1_1 x1_2 x1_3z60 x1_4 x1_5 x1_6z47 x1_7z47 x1_8z47 y2 x3_5 x3_6 y4 y5 y6 y7 y8 x9_6 y10 y11 y12 y13 y14 y15) H := hP
                  have hD : va_D A (wS52 K cI cJ cZ cB p0 p1 p2 p3 p4 p5 p6 p7 p8 p9 p10 p11 p12 p13 p14 p15 x0_3z54 x0_4z54 x0_5 x0_6 x0_7 x0_8 x0_9 x0_10 x0_11 x0_12 x0_13 x0_14 x1_1 x1_2 x1_3z60 x1_4 x1_5 x1_6z47 x1_7z47 x1_8z47 y2 x3_5 x3_6 y4 y5 y6 y7 y8 x9_6 y10 y11 y12 y13 y14 y15) := hD
                  obtain ⟨v61, hv61⟩ : ∃ y : Int32, y = (l4 + (1 : Int32)) := ⟨_, rfl⟩
                  refine lv_iinc (v := v61) (lv' := [(4, .int v61), (3, .int rz55), (1, .long rz54), (5, .long v49), (0, .ref p0)]) hx hb d_A_readExp_117 hl (k := 3) rfl (by rw [hv61]; rfl) (by decide) rfl (fun ls hl => ?_)
                  refine lv_goto (tgt := 47) hx hb d_A_readExp_120 (by decide) ?_
                  exact ih v61 rz55 rz54 x0_3z54 x0_4z54 x1_3z60 x1_6z47 x1_7z47 x1_8z47 H _ ls (lpu c45 hv61 hn47_52) (lpn hc47_52 c45 hv61) hP hD hS (lv_sub hl [0, 1, 2, 4] rfl)
                · refine lv_lload_n hx hb d_A_readExp_107 rfl (lv_at hl 1 rfl) ?_
                  refine lv_l2i (v := (rz54 : Int64).toInt32) hx hb d_A_readExp_108 rfl ?_
                  refine lv_topi (fun v62 hv62 => ?_)
                  exact W.iret (v := v62) hx hb hr (fun t ht hW => ⟨⟨v62, (), rfl, trivial, ⟨x0_3z54, x0_4z54, x1_3z47, x1_6z47, x1_7z47, x1_8z47, by show va_P D classes _ t.heap; rw [ht]; exact hP, hD⟩⟩, hS.F ht⟩) hS.2.2 d_A_readExp_109
      exact LP47_52 _ (0 : Int32) rz43 (0 : Int64) x0_3 x0_4 x1_3z44 x1_6 x1_7 x1_8 H _ ls (Nat.lt_succ_self _) (by decide) hP hD hS hl
theorem v_A_readExp_s1 {R : Room} {s : State} {args : Array Value} {own : String} {index : Nat} (hk : ∀ w ∈ tb, w.before args s = true) (hl : Cond.methodLink own index y_A_readExp ∈ tb) (hR : 2 + 1 ≤ R.frames ∧ 8 + (7 + 11) + 48 ≤ R.locals) : CallW R s args own "SignMachine$Assembler" index y_A_readExp b_A_readExp 7 (some .int) (.code y_A_readExp b_A_readExp 7 (some .int) :: tb) ({ frames := 2, cells := 0, slots := 0, locals := 48 }) 0 0 0 := mk_v 0 hk k_992 hl k_991 k_48 k_123 rfl rfl h_A_readExp hR

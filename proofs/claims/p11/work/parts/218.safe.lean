set_option maxHeartbeats 4000000 in
set_option maxRecDepth 100000 in
theorem c_M_canMove_s3 (l : Launch) (K : CK) (D : va_G) (cI cJ cZ cB : ClassId) (p0 p1 p2 p3 p4 p5 p6 : Nat) (sz : Nat) (x0_4 : Bool) (x0_5 : Int32) (x0_6 : Int32) (x0_7 : Int32) (x0_8 : Int32) (x0_9 : Int32) (x0_10 : Int32) (x0_11 : Int32) (x0_12 : Int32) (x0_13 : Int32) (y1 : Nat → Int32) (y2 : Nat → Int32) (x3_0 : Int32) (x4_0 : Int32) (y5 : Nat → Int32) (y6 : Nat → Int32)   : Met l y_M_canMove (.code y_M_canMove b_M_canMove 1 (some .boolean) :: tb) ({ frames := 1, cells := 0, slots := 0, locals := 21 }) (pMC K D cI cJ cZ cB (wS60 cI cJ cZ cB p0 p1 p2 p3 p4 p5 p6 x0_4 x0_5 x0_6 x0_7 x0_8 x0_9 x0_10 x0_11 x0_12 x0_13 y1 y2 x3_0 x4_0 y5 y6) sz [.ref p0]) (va_Qi (fun r (_ : Unit) => ∃ z : Bool, r = bI z) (fun _ t => (va_P D classes (wS60 cI cJ cZ cB p0 p1 p2 p3 p4 p5 p6 x0_4 x0_5 x0_6 x0_7 x0_8 x0_9 x0_10 x0_11 x0_12 x0_13 y1 y2 x3_0 x4_0 y5 y6) t.heap ∧ va_D (va_A (wS60 cI cJ cZ cB p0 p1 p2 p3 p4 p5 p6 x0_4 x0_5 x0_6 x0_7 x0_8 x0_9 x0_10 x0_11 x0_12 x0_13 y1 y2 x3_0 x4_0 y5 y6) sz) (wS60 cI cJ cZ cB p0 p1 p2 p3 p4 p5 p6 x0_4 x0_5 x0_6 x0_7 x0_8 x0_9 x0_10 x0_11 x0_12 x0_13 y1 y2 x3_0 x4_0 y5 y6))) (va_A (wS60 cI cJ cZ cB p0 p1 p2 p3 p4 p5 p6 x0_4 x0_5 x0_6 x0_7 x0_8 x0_9 x0_10 x0_11 x0_12 x0_13 y1 y2 x3_0 x4_0 y5 y6) sz)) 0 0 (va_A (wS60 cI cJ cZ cB p0 p1 p2 p3 p4 p5 p6 x0_4 x0_5 x0_6 x0_7 x0_8 x0_9 x0_10 x0_11 x0_12 x0_13 y1 y2 x3_0 x4_0 y5 y6) sz) := by
  refine Met.ofW (cc := b_M_canMove) (maxL := 1) (ret := (some .boolean)) (by decide) rfl ?_
  intro p e s m args below meth c s₁ B hml hv
  obtain ⟨rfl, hsz, hK, hP, hD0, hC⟩ := hv
  subst hsz
  have hD := hD0.self (sz := s.heap.size)
  generalize hAe : va_A (wS60 cI cJ cZ cB p0 p1 p2 p3 p4 p5 p6 x0_4 x0_5 x0_6 x0_7 x0_8 x0_9 x0_10 x0_11 x0_12 x0_13 y1 y2 x3_0 x4_0 y5 y6) s.heap.size = A at hD hC ⊢
  have hA : ∀ q : Nat, s.heap.size ≤ q → A q := fun q h => by rw [← hAe]; exact Or.inr h
  clear hAe hD0
  have hS : va_S A s.heap s.heap [] := va_S.rf
  have hx := B.exec
  have hb := B.bytes
  have hr := B.returns
  have hts := atoms_spec (ws := .code y_M_canMove b_M_canMove 1 (some .boolean) :: tb) B.pre
  have hk : ∀ w ∈ tb, w.before [.ref p0].toArray s = true := fun w h => hts w (List.mem_cons_of_mem _ h)
  have hown : s.vm.findClass "SignMachine$Machine" = some m.cls := findClass_of_methodNamed B.named
  have hlocks := B.notSynchronized
  have hl := lv_entry ([.ref p0]) (n := 1) (Nat.le_of_ble_eq_true rfl)
  rw [lg_entry_eq]
  generalize (lg_sl ([.ref p0]) ++ List.replicate (1 - (lg_sl ([.ref p0])).length) Slot.unset).toArray = ls at hl ⊢
  have hl : lv_has ls 1 [(0, .ref p0)] := hl
  refine lv_aload_n hx hb d_M_canMove_0 rfl (lv_at hl 0 rfl) ?_
  refine va_get (D := D) (ci := 1) (v := .int x0_10) (C := "SignMachine$Machine") (T := F_M) (N := 14) hx hb hk fi_M hown hK.1 hP 0 rfl rfl 10 (by decide) (hk _ k_177) (fun _ h9 => h9) rfl d_M_canMove_1 ?_
  refine lv_if_eq (tgt := 39) hx hb d_M_canMove_4 (by decide) (fun c1 => ?_) (fun c1 => ?_)
  · refine lv_iconst (v := 1) hx hb d_M_canMove_39 (by decide) ?_
    refine lv_goto (tgt := 44) hx hb d_M_canMove_40 (by decide) ?_
    exact W.zret (v := (1 : Int32)) hx hb hr rfl (fun t ht hW => ⟨⟨(1 : Int32), (), rfl, ⟨true, rfl⟩, ⟨by show va_P D classes _ t.heap; rw [ht]; exact hP, hD⟩⟩, hS.F ht⟩) hS.2.2 d_M_canMove_44
  · refine lv_aload_n hx hb d_M_canMove_7 rfl (lv_at hl 0 rfl) ?_
    refine va_get (D := D) (ci := 1) (v := .int x0_12) (C := "SignMachine$Machine") (T := F_M) (N := 14) hx hb hk fi_M hown hK.1 hP 0 rfl rfl 12 (by decide) (hk _ k_179) (fun _ h9 => h9) rfl d_M_canMove_8 ?_
    refine lv_aload_n hx hb d_M_canMove_11 rfl (lv_at hl 0 rfl) ?_
    refine va_get (D := D) (ci := 1) (v := .int x0_10) (C := "SignMachine$Machine") (T := F_M) (N := 14) hx hb hk fi_M hown hK.1 hP 0 rfl rfl 10 (by decide) (hk _ k_177) (fun _ h9 => h9) rfl d_M_canMove_12 ?_
    refine cs_i (W.runS (As := [.int x0_12, .int x0_10]) (rest := []) ⟨hx, hb, hml, hown, hk⟩ (c_M_hasWords l x0_12 x0_10) (s_M_hasWords hk k_303 ⟨Nat.le_of_ble_eq_true rfl, Nat.le_of_ble_eq_true rfl⟩) ⟨fun a U g mk q => q, fun U hU hW => ⟨rfl, trivial⟩⟩ rfl rfl hl.1 rfl (lv_room (Nat.le_of_ble_eq_true rfl)) d_M_canMove_15 ⟨Nat.le_of_ble_eq_true rfl, Nat.le_of_ble_eq_true rfl⟩) ?_
    obtain ⟨z2, hz2⟩ : ∃ y : Bool, y = (f_M_hasWords x0_12 x0_10) := ⟨_, rfl⟩
    rw [← hz2]
    refine lv_if_eq (tgt := 43) hx hb d_M_canMove_18 (by decide) (fun c3 => ?_) (fun c3 => ?_)
    · refine lv_iconst (v := 0) hx hb d_M_canMove_43 (by decide) ?_
      exact W.zret (v := (0 : Int32)) hx hb hr rfl (fun t ht hW => ⟨⟨(0 : Int32), (), rfl, ⟨false, rfl⟩, ⟨by show va_P D classes _ t.heap; rw [ht]; exact hP, hD⟩⟩, hS.F ht⟩) hS.2.2 d_M_canMove_44
    · refine lv_aload_n hx hb d_M_canMove_21 rfl (lv_at hl 0 rfl) ?_
      refine lv_iconst (v := 1) hx hb d_M_canMove_22 (by decide) ?_
      refine sn_i (va_runV (C := "SignMachine$Machine") (As := [.int (1 : Int32)]) (rest := []) ⟨hx, hb, hml, hown, hk⟩ (c_M_register_s3 l K D cI cJ cZ cB p0 p1 p2 p3 p4 p5 p6 s.heap.size x0_4 x0_5 x0_6 x0_7 x0_8 x0_9 x0_10 x0_11 x0_12 x0_13 y1 y2 x3_0 x4_0 y5 y6  (1 : Int32) ) (v_M_register_s3 hk k_273 ⟨Nat.le_of_ble_eq_true rfl, Nat.le_of_ble_eq_true rfl⟩) (pMC_v hK hP hD hC hS hA (ci := 1) (q0 := 0) rfl rfl rfl) rfl rfl hl.1 rfl (lv_room (Nat.le_of_ble_eq_true rfl)) d_M_canMove_23 ⟨by decide, by decide⟩) hS hA hD (fun rz4 u t H locs hr0 ht hB hFr hS => ?_)
      obtain ⟨hP, hD⟩ := hB
      rw [ht] at hP
      have hD := dwk hD hFr
      clear ht hFr
      have hP : va_P D classes (wS60 cI cJ cZ cB p0 p1 p2 p3 p4 p5 p6 x0_4 x0_5 x0_6 x0_7 x0_8 x0_9 x0_10 x0_11 x0_12 x0_13 y1 y2 x3_0 x4_0 y5 y6) H := hP
      have hD : va_D A (wS60 cI cJ cZ cB p0 p1 p2 p3 p4 p5 p6 x0_4 x0_5 x0_6 x0_7 x0_8 x0_9 x0_10 x0_11 x0_12 x0_13 y1 y2 x3_0 x4_0 y5 y6) := hD
      refine cs_i (W.runS (As := [.int rz4]) (rest := []) ⟨hx, hb, hml, hown, hk⟩ (c_W_number l rz4) (s_W_number hk k_277 ⟨Nat.le_of_ble_eq_true rfl, Nat.le_of_ble_eq_true rfl⟩) ⟨fun a U g mk q => q, fun U hU hW => ⟨rfl, trivial⟩⟩ rfl rfl hl.1 rfl (lv_room (Nat.le_of_ble_eq_true rfl)) d_M_canMove_26 ⟨Nat.le_of_ble_eq_true rfl, Nat.le_of_ble_eq_true rfl⟩) ?_
      refine lv_topi (fun v5 hv5 => ?_)
      refine lv_aload_n hx hb d_M_canMove_29 rfl (lv_at hl 0 rfl) ?_
      refine va_get (D := D) (ci := 1) (v := .int x0_10) (C := "SignMachine$Machine") (T := F_M) (N := 14) hx hb hk fi_M hown hK.1 hP 0 rfl rfl 10 (by decide) (hk _ k_177) (fun _ h9 => h9) rfl d_M_canMove_30 ?_
      refine cs_i (W.runS (As := [.int v5, .int x0_10]) (rest := []) ⟨hx, hb, hml, hown, hk⟩ (c_M_hasWords l v5 x0_10) (s_M_hasWords hk k_303 ⟨Nat.le_of_ble_eq_true rfl, Nat.le_of_ble_eq_true rfl⟩) ⟨fun a U g mk q => q, fun U hU hW => ⟨rfl, trivial⟩⟩ rfl rfl hl.1 rfl (lv_room (Nat.le_of_ble_eq_true rfl)) d_M_canMove_33 ⟨Nat.le_of_ble_eq_true rfl, Nat.le_of_ble_eq_true rfl⟩) ?_
      obtain ⟨z6, hz6⟩ : ∃ y : Bool, y = (f_M_hasWords v5 x0_10) := ⟨_, rfl⟩
      rw [← hz6]
      refine lv_if_eq (tgt := 43) hx hb d_M_canMove_36 (by decide) (fun c7 => ?_) (fun c7 => ?_)
      · refine lv_iconst (v := 0) hx hb d_M_canMove_43 (by decide) ?_
        exact W.zret (v := (0 : Int32)) hx hb hr rfl (fun t ht hW => ⟨⟨(0 : Int32), (), rfl, ⟨false, rfl⟩, ⟨by show va_P D classes _ t.heap; rw [ht]; exact hP, hD⟩⟩, hS.F ht⟩) hS.2.2 d_M_canMove_44
      · refine lv_iconst (v := 1) hx hb d_M_canMove_39 (by decide) ?_
        refine lv_goto (tgt := 44) hx hb d_M_canMove_40 (by decide) ?_
        exact W.zret (v := (1 : Int32)) hx hb hr rfl (fun t ht hW => ⟨⟨(1 : Int32), (), rfl, ⟨true, rfl⟩, ⟨by show va_P D classes _ t.heap; rw [ht]; exact hP, hD⟩⟩, hS.F ht⟩) hS.2.2 d_M_canMove_44
theorem v_M_canMove_s3 {R : Room} {s : State} {args : Array Value} {own : String} {index : Nat} (hk : ∀ w ∈ tb, w.before args s = true) (hl : Cond.methodLink own index y_M_canMove ∈ tb) (hR : 1 + 1 ≤ R.frames ∧ 8 + (1 + 11) + 21 ≤ R.locals) : CallW R s args own "SignMachine$Machine" index y_M_canMove b_M_canMove 1 (some .boolean) (.code y_M_canMove b_M_canMove 1 (some .boolean) :: tb) ({ frames := 1, cells := 0, slots := 0, locals := 21 }) 0 0 0 := mk_v 0 hk k_302 hl k_301 k_5 k_117 rfl rfl h_M_canMove hR
set_option maxHeartbeats 4000000 in
set_option maxRecDepth 100000 in
theorem c_M_addressCanBe_s3 (l : Launch) (K : CK) (D : va_G) (cI cJ cZ cB : ClassId) (p0 p1 p2 p3 p4 p5 p6 : Nat) (sz : Nat) (x0_4 : Bool) (x0_5 : Int32) (x0_6 : Int32) (x0_7 : Int32) (x0_8 : Int32) (x0_9 : Int32) (x0_10 : Int32) (x0_11 : Int32) (x0_12 : Int32) (x0_13 : Int32) (y1 : Nat → Int32) (y2 : Nat → Int32) (x3_0 : Int32) (x4_0 : Int32) (y5 : Nat → Int32) (y6 : Nat → Int32)   : Met l y_M_addressCanBe (.code y_M_addressCanBe b_M_addressCanBe 1 (some .boolean) :: tb) ({ frames := 2, cells := 0, slots := 0, locals := 41 }) (pMC K D cI cJ cZ cB (wS60 cI cJ cZ cB p0 p1 p2 p3 p4 p5 p6 x0_4 x0_5 x0_6 x0_7 x0_8 x0_9 x0_10 x0_11 x0_12 x0_13 y1 y2 x3_0 x4_0 y5 y6) sz [.ref p0]) (va_Qi (fun r (_ : Unit) => ∃ z : Bool, r = bI z) (fun _ t => (va_P D classes (wS60 cI cJ cZ cB p0 p1 p2 p3 p4 p5 p6 x0_4 x0_5 x0_6 x0_7 x0_8 x0_9 x0_10 x0_11 x0_12 x0_13 y1 y2 x3_0 x4_0 y5 y6) t.heap ∧ va_D (va_A (wS60 cI cJ cZ cB p0 p1 p2 p3 p4 p5 p6 x0_4 x0_5 x0_6 x0_7 x0_8 x0_9 x0_10 x0_11 x0_12 x0_13 y1 y2 x3_0 x4_0 y5 y6) sz) (wS60 cI cJ cZ cB p0 p1 p2 p3 p4 p5 p6 x0_4 x0_5 x0_6 x0_7 x0_8 x0_9 x0_10 x0_11 x0_12 x0_13 y1 y2 x3_0 x4_0 y5 y6))) (va_A (wS60 cI cJ cZ cB p0 p1 p2 p3 p4 p5 p6 x0_4 x0_5 x0_6 x0_7 x0_8 x0_9 x0_10 x0_11 x0_12 x0_13 y1 y2 x3_0 x4_0 y5 y6) sz)) 0 0 (va_A (wS60 cI cJ cZ cB p0 p1 p2 p3 p4 p5 p6 x0_4 x0_5 x0_6 x0_7 x0_8 x0_9 x0_10 x0_11 x0_12 x0_13 y1 y2 x3_0 x4_0 y5 y6) sz) := by
  refine Met.ofW (cc := b_M_addressCanBe) (maxL := 1) (ret := (some .boolean)) (by decide) rfl ?_
  intro p e s m args below meth c s₁ B hml hv
  obtain ⟨rfl, hsz, hK, hP, hD0, hC⟩ := hv
  subst hsz
  have hD := hD0.self (sz := s.heap.size)
  generalize hAe : va_A (wS60 cI cJ cZ cB p0 p1 p2 p3 p4 p5 p6 x0_4 x0_5 x0_6 x0_7 x0_8 x0_9 x0_10 x0_11 x0_12 x0_13 y1 y2 x3_0 x4_0 y5 y6) s.heap.size = A at hD hC ⊢
  have hA : ∀ q : Nat, s.heap.size ≤ q → A q := fun q h => by rw [← hAe]; exact Or.inr h
  clear hAe hD0
  have hS : va_S A s.heap s.heap [] := va_S.rf
  have hx := B.exec
  have hb := B.bytes
  have hr := B.returns
  have hts := atoms_spec (ws := .code y_M_addressCanBe b_M_addressCanBe 1 (some .boolean) :: tb) B.pre
  have hk : ∀ w ∈ tb, w.before [.ref p0].toArray s = true := fun w h => hts w (List.mem_cons_of_mem _ h)
  have hown : s.vm.findClass "SignMachine$Machine" = some m.cls := findClass_of_methodNamed B.named
  have hlocks := B.notSynchronized
  have hl := lv_entry ([.ref p0]) (n := 1) (Nat.le_of_ble_eq_true rfl)
  rw [lg_entry_eq]
  generalize (lg_sl ([.ref p0]) ++ List.replicate (1 - (lg_sl ([.ref p0])).length) Slot.unset).toArray = ls at hl ⊢
  have hl : lv_has ls 1 [(0, .ref p0)] := hl
  refine lv_aload_n hx hb d_M_addressCanBe_0 rfl (lv_at hl 0 rfl) ?_
  refine sn_i (va_runV (C := "SignMachine$Machine") (As := []) (rest := []) ⟨hx, hb, hml, hown, hk⟩ (c_M_hasFieldOfWord_s3 l K D cI cJ cZ cB p0 p1 p2 p3 p4 p5 p6 s.heap.size x0_4 x0_5 x0_6 x0_7 x0_8 x0_9 x0_10 x0_11 x0_12 x0_13 y1 y2 x3_0 x4_0 y5 y6   ) (v_M_hasFieldOfWord_s3 hk k_288 ⟨Nat.le_of_ble_eq_true rfl, Nat.le_of_ble_eq_true rfl⟩) (pMC_v hK hP hD hC hS hA (ci := 1) (q0 := 0) rfl rfl rfl) rfl rfl hl.1 rfl (lv_room (Nat.le_of_ble_eq_true rfl)) d_M_addressCanBe_1 ⟨by decide, by decide⟩) hS hA hD (fun rz1 u t H locs hr0 ht hB hFr hS => ?_)
  obtain ⟨z1, hz1⟩ := hr0
  subst hz1
  obtain ⟨hP, hD⟩ := hB
  rw [ht] at hP
  have hD := dwk hD hFr
  clear ht hFr
  have hP : va_P D classes (wS60 cI cJ cZ cB p0 p1 p2 p3 p4 p5 p6 x0_4 x0_5 x0_6 x0_7 x0_8 x0_9 x0_10 x0_11 x0_12 x0_13 y1 y2 x3_0 x4_0 y5 y6) H := hP
  have hD : va_D A (wS60 cI cJ cZ cB p0 p1 p2 p3 p4 p5 p6 x0_4 x0_5 x0_6 x0_7 x0_8 x0_9 x0_10 x0_11 x0_12 x0_13 y1 y2 x3_0 x4_0 y5 y6) := hD
  refine lv_if_eq (tgt := 15) hx hb d_M_addressCanBe_4 (by decide) (fun c2 => ?_) (fun c2 => ?_)
  · refine lv_aload_n hx hb d_M_addressCanBe_15 rfl (lv_at hl 0 rfl) ?_
    refine va_get (D := D) (ci := 1) (v := .int x0_9) (C := "SignMachine$Machine") (T := F_M) (N := 14) hx hb hk fi_M hown hK.1 hP 0 rfl rfl 9 (by decide) (hk _ k_176) (fun _ h9 => h9) rfl d_M_addressCanBe_16 ?_
    by_cases c3 : x0_9 = (0 : Int32)
    · refine lv_lookup (off := 65) (tgt := 84) hx hb d_M_addressCanBe_19 (by decide) (by rw [c3]; rfl) (by decide) ?_
      refine lv_iconst (v := 1) hx hb d_M_addressCanBe_84 (by decide) ?_
      exact W.zret (v := (1 : Int32)) hx hb hr rfl (fun t ht hW => ⟨⟨(1 : Int32), (), rfl, ⟨true, rfl⟩, ⟨by show va_P D classes _ t.heap; rw [ht]; exact hP, hD⟩⟩, hS.F ht⟩) hS.2.2 d_M_addressCanBe_85
    · by_cases c4 : x0_9 = (5 : Int32)
      · refine lv_lookup (off := 65) (tgt := 84) hx hb d_M_addressCanBe_19 (by decide) (by rw [c4]; rfl) (by decide) ?_
        refine lv_iconst (v := 1) hx hb d_M_addressCanBe_84 (by decide) ?_
        exact W.zret (v := (1 : Int32)) hx hb hr rfl (fun t ht hW => ⟨⟨(1 : Int32), (), rfl, ⟨true, rfl⟩, ⟨by show va_P D classes _ t.heap; rw [ht]; exact hP, hD⟩⟩, hS.F ht⟩) hS.2.2 d_M_addressCanBe_85
      · by_cases c5 : x0_9 = (6 : Int32)
        · refine lv_lookup (off := 67) (tgt := 86) hx hb d_M_addressCanBe_19 (by decide) (by rw [c5]; rfl) (by decide) ?_
          refine lv_aload_n hx hb d_M_addressCanBe_86 rfl (lv_at hl 0 rfl) ?_
          refine va_get (D := D) (ci := 1) (v := .int x0_12) (C := "SignMachine$Machine") (T := F_M) (N := 14) hx hb hk fi_M hown hK.1 hP 0 rfl rfl 12 (by decide) (hk _ k_179) (fun _ h9 => h9) rfl d_M_addressCanBe_87 ?_
          refine lv_if_lt (tgt := 97) hx hb d_M_addressCanBe_90 (by decide) (fun c6 => ?_) (fun c6 => ?_)
          · refine lv_iconst (v := 0) hx hb d_M_addressCanBe_97 (by decide) ?_
            exact W.zret (v := (0 : Int32)) hx hb hr rfl (fun t ht hW => ⟨⟨(0 : Int32), (), rfl, ⟨false, rfl⟩, ⟨by show va_P D classes _ t.heap; rw [ht]; exact hP, hD⟩⟩, hS.F ht⟩) hS.2.2 d_M_addressCanBe_98
          · refine lv_iconst (v := 1) hx hb d_M_addressCanBe_93 (by decide) ?_
            refine lv_goto (tgt := 98) hx hb d_M_addressCanBe_94 (by decide) ?_
            exact W.zret (v := (1 : Int32)) hx hb hr rfl (fun t ht hW => ⟨⟨(1 : Int32), (), rfl, ⟨true, rfl⟩, ⟨by show va_P D classes _ t.heap; rw [ht]; exact hP, hD⟩⟩, hS.F ht⟩) hS.2.2 d_M_addressCanBe_98
        · by_cases c7 : x0_9 = (7 : Int32)
          · refine lv_lookup (off := 80) (tgt := 99) hx hb d_M_addressCanBe_19 (by decide) (by rw [c7]; rfl) (by decide) ?_
            refine lv_aload_n hx hb d_M_addressCanBe_99 rfl (lv_at hl 0 rfl) ?_
            refine sn_i (va_runV (C := "SignMachine$Machine") (As := []) (rest := []) ⟨hx, hb, hml, hown, hk⟩ (c_M_canMove_s3 l K D cI cJ cZ cB p0 p1 p2 p3 p4 p5 p6 H.size x0_4 x0_5 x0_6 x0_7 x0_8 x0_9 x0_10 x0_11 x0_12 x0_13 y1 y2 x3_0 x4_0 y5 y6   ) (v_M_canMove_s3 hk k_299 ⟨Nat.le_of_ble_eq_true rfl, Nat.le_of_ble_eq_true rfl⟩) (pMC_v hK hP hD hC hS hA (ci := 1) (q0 := 0) rfl rfl rfl) rfl rfl hl.1 rfl (lv_room (Nat.le_of_ble_eq_true rfl)) d_M_addressCanBe_100 ⟨by decide, by decide⟩) hS hA hD (fun rz8 u t H locs hr0 ht hB hFr hS => ?_)
            obtain ⟨z8, hz8⟩ := hr0
            subst hz8
            obtain ⟨hP, hD⟩ := hB
            rw [ht] at hP
            have hD := dwk hD hFr
            clear ht hFr
            have hP : va_P D classes (wS60 cI cJ cZ cB p0 p1 p2 p3 p4 p5 p6 x0_4 x0_5 x0_6 x0_7 x0_8 x0_9 x0_10 x0_11 x0_12 x0_13 y1 y2 x3_0 x4_0 y5 y6) H := hP
            have hD : va_D A (wS60 cI cJ cZ cB p0 p1 p2 p3 p4 p5 p6 x0_4 x0_5 x0_6 x0_7 x0_8 x0_9 x0_10 x0_11 x0_12 x0_13 y1 y2 x3_0 x4_0 y5 y6) := hD
            exact W.zret (v := (bI z8)) hx hb hr (nar_bI z8) (fun t ht hW => ⟨⟨(bI z8), (), rfl, ⟨z8, rfl⟩, ⟨by show va_P D classes _ t.heap; rw [ht]; exact hP, hD⟩⟩, hS.F ht⟩) hS.2.2 d_M_addressCanBe_103
          · by_cases c9 : x0_9 = (35 : Int32)
            · refine lv_lookup (off := 65) (tgt := 84) hx hb d_M_addressCanBe_19 (by decide) (by rw [c9]; rfl) (by decide) ?_
              refine lv_iconst (v := 1) hx hb d_M_addressCanBe_84 (by decide) ?_
              exact W.zret (v := (1 : Int32)) hx hb hr rfl (fun t ht hW => ⟨⟨(1 : Int32), (), rfl, ⟨true, rfl⟩, ⟨by show va_P D classes _ t.heap; rw [ht]; exact hP, hD⟩⟩, hS.F ht⟩) hS.2.2 d_M_addressCanBe_85
            · by_cases c10 : x0_9 = (36 : Int32)
              · refine lv_lookup (off := 85) (tgt := 104) hx hb d_M_addressCanBe_19 (by decide) (by rw [c10]; rfl) (by decide) ?_
                refine lv_aload_n hx hb d_M_addressCanBe_104 rfl (lv_at hl 0 rfl) ?_
                refine va_get (D := D) (ci := 1) (v := .int x0_12) (C := "SignMachine$Machine") (T := F_M) (N := 14) hx hb hk fi_M hown hK.1 hP 0 rfl rfl 12 (by decide) (hk _ k_179) (fun _ h9 => h9) rfl d_M_addressCanBe_105 ?_
                refine lv_bipush (v := 100) hx hb d_M_addressCanBe_108 (by decide) ?_
                refine cs_i (W.runS (As := [.int x0_12, .int (100 : Int32)]) (rest := []) ⟨hx, hb, hml, hown, hk⟩ (c_M_hasWords l x0_12 (100 : Int32)) (s_M_hasWords hk k_303 ⟨Nat.le_of_ble_eq_true rfl, Nat.le_of_ble_eq_true rfl⟩) ⟨fun a U g mk q => q, fun U hU hW => ⟨rfl, trivial⟩⟩ rfl rfl hl.1 rfl (lv_room (Nat.le_of_ble_eq_true rfl)) d_M_addressCanBe_110 ⟨Nat.le_of_ble_eq_true rfl, Nat.le_of_ble_eq_true rfl⟩) ?_
                obtain ⟨z11, hz11⟩ : ∃ y : Bool, y = (f_M_hasWords x0_12 (100 : Int32)) := ⟨_, rfl⟩
                rw [← hz11]
                exact W.zret (v := (bI z11)) hx hb hr (nar_bI z11) (fun t ht hW => ⟨⟨(bI z11), (), rfl, ⟨z11, rfl⟩, ⟨by show va_P D classes _ t.heap; rw [ht]; exact hP, hD⟩⟩, hS.F ht⟩) hS.2.2 d_M_addressCanBe_113
              · by_cases c12 : x0_9 = (37 : Int32)
                · refine lv_lookup (off := 85) (tgt := 104) hx hb d_M_addressCanBe_19 (by decide) (by rw [c12]; rfl) (by decide) ?_
                  refine lv_aload_n hx hb d_M_addressCanBe_104 rfl (lv_at hl 0 rfl) ?_
                  refine va_get (D := D) (ci := 1) (v := .int x0_12) (C := "SignMachine$Machine") (T := F_M) (N := 14) hx hb hk fi_M hown hK.1 hP 0 rfl rfl 12 (by decide) (hk _ k_179) (fun _ h9 => h9) rfl d_M_addressCanBe_105 ?_
                  refine lv_bipush (v := 100) hx hb d_M_addressCanBe_108 (by decide) ?_
                  refine cs_i (W.runS (As := [.int x0_12, .int (100 : Int32)]) (rest := []) ⟨hx, hb, hml, hown, hk⟩ (c_M_hasWords l x0_12 (100 : Int32)) (s_M_hasWords hk k_303 ⟨Nat.le_of_ble_eq_true rfl, Nat.le_of_ble_eq_true rfl⟩) ⟨fun a U g mk q => q, fun U hU hW => ⟨rfl, trivial⟩⟩ rfl rfl hl.1 rfl (lv_room (Nat.le_of_ble_eq_true rfl)) d_M_addressCanBe_110 ⟨Nat.le_of_ble_eq_true rfl, Nat.le_of_ble_eq_true rfl⟩) ?_
                  obtain ⟨z13, hz13⟩ : ∃ y : Bool, y = (f_M_hasWords x0_12 (100 : Int32)) := ⟨_, rfl⟩
                  rw [← hz13]
                  exact W.zret (v := (bI z13)) hx hb hr (nar_bI z13) (fun t ht hW => ⟨⟨(bI z13), (), rfl, ⟨z13, rfl⟩, ⟨by show va_P D classes _ t.heap; rw [ht]; exact hP, hD⟩⟩, hS.F ht⟩) hS.2.2 d_M_addressCanBe_113
                · refine lv_lookup (off := 95) (tgt := 114) hx hb d_M_addressCanBe_19 (by decide) (by show Op.lookupswitch.offset [(0, 65), (5, 65), (6, 67), (7, 80), (35, 65), (36, 85), (37, 85)] 95 _ = _; rw [lv_osw c3 (a := 0) rfl, lv_osw c4 (a := 5) rfl, lv_osw c5 (a := 6) rfl, lv_osw c7 (a := 7) rfl, lv_osw c9 (a := 35) rfl, lv_osw c10 (a := 36) rfl, lv_osw c12 (a := 37) rfl]; rfl) (by decide) ?_
                  refine lv_aload_n hx hb d_M_addressCanBe_114 rfl (lv_at hl 0 rfl) ?_
                  refine va_get (D := D) (ci := 1) (v := .int x0_9) (C := "SignMachine$Machine") (T := F_M) (N := 14) hx hb hk fi_M hown hK.1 hP 0 rfl rfl 9 (by decide) (hk _ k_176) (fun _ h9 => h9) rfl d_M_addressCanBe_115 ?_
                  refine lv_bipush (v := 48) hx hb d_M_addressCanBe_118 (by decide) ?_
                  refine lv_icmp_ge (tgt := 133) hx hb d_M_addressCanBe_120 (by decide) (fun c14 => ?_) (fun c14 => ?_)
                  · refine lv_iconst (v := 1) hx hb d_M_addressCanBe_133 (by decide) ?_
                    refine lv_goto (tgt := 138) hx hb d_M_addressCanBe_134 (by decide) ?_
                    exact W.zret (v := (1 : Int32)) hx hb hr rfl (fun t ht hW => ⟨⟨(1 : Int32), (), rfl, ⟨true, rfl⟩, ⟨by show va_P D classes _ t.heap; rw [ht]; exact hP, hD⟩⟩, hS.F ht⟩) hS.2.2 d_M_addressCanBe_138
                  · refine lv_aload_n hx hb d_M_addressCanBe_123 rfl (lv_at hl 0 rfl) ?_
                    refine va_get (D := D) (ci := 1) (v := .int x0_12) (C := "SignMachine$Machine") (T := F_M) (N := 14) hx hb hk fi_M hown hK.1 hP 0 rfl rfl 12 (by decide) (hk _ k_179) (fun _ h9 => h9) rfl d_M_addressCanBe_124 ?_
                    refine cs_i (W.runS (As := [.int x0_12]) (rest := []) ⟨hx, hb, hml, hown, hk⟩ (c_M_isAddress l x0_12) (s_M_isAddress hk k_262 ⟨Nat.le_of_ble_eq_true rfl, Nat.le_of_ble_eq_true rfl⟩) ⟨fun a U g mk q => q, fun U hU hW => ⟨rfl, trivial⟩⟩ rfl rfl hl.1 rfl (lv_room (Nat.le_of_ble_eq_true rfl)) d_M_addressCanBe_127 ⟨Nat.le_of_ble_eq_true rfl, Nat.le_of_ble_eq_true rfl⟩) ?_
                    obtain ⟨z15, hz15⟩ : ∃ y : Bool, y = (f_M_isAddress x0_12) := ⟨_, rfl⟩
                    rw [← hz15]
                    refine lv_if_eq (tgt := 137) hx hb d_M_addressCanBe_130 (by decide) (fun c16 => ?_) (fun c16 => ?_)
                    · refine lv_iconst (v := 0) hx hb d_M_addressCanBe_137 (by decide) ?_
                      exact W.zret (v := (0 : Int32)) hx hb hr rfl (fun t ht hW => ⟨⟨(0 : Int32), (), rfl, ⟨false, rfl⟩, ⟨by show va_P D classes _ t.heap; rw [ht]; exact hP, hD⟩⟩, hS.F ht⟩) hS.2.2 d_M_addressCanBe_138
                    · refine lv_iconst (v := 1) hx hb d_M_addressCanBe_133 (by decide) ?_
                      refine lv_goto (tgt := 138) hx hb d_M_addressCanBe_134 (by decide) ?_
                      exact W.zret (v := (1 : Int32)) hx hb hr rfl (fun t ht hW => ⟨⟨(1 : Int32), (), rfl, ⟨true, rfl⟩, ⟨by show va_P D classes _ t.heap; rw [ht]; exact hP, hD⟩⟩, hS.F ht⟩) hS.2.2 d_M_addressCanBe_138
  · refine lv_aload_n hx hb d_M_addressCanBe_7 rfl (lv_at hl 0 rfl) ?_
    refine va_get (D := D) (ci := 1) (v := .int x0_12) (C := "SignMachine$Machine") (T := F_M) (N := 14) hx hb hk fi_M hown hK.1 hP 0 rfl rfl 12 (by decide) (hk _ k_179) (fun _ h9 => h9) rfl d_M_addressCanBe_8 ?_
    refine cs_i (W.runS (As := [.int x0_12]) (rest := []) ⟨hx, hb, hml, hown, hk⟩ (c_M_isAddress l x0_12) (s_M_isAddress hk k_262 ⟨Nat.le_of_ble_eq_true rfl, Nat.le_of_ble_eq_true rfl⟩) ⟨fun a U g mk q => q, fun U hU hW => ⟨rfl, trivial⟩⟩ rfl rfl hl.1 rfl (lv_room (Nat.le_of_ble_eq_true rfl)) d_M_addressCanBe_11 ⟨Nat.le_of_ble_eq_true rfl, Nat.le_of_ble_eq_true rfl⟩) ?_
    obtain ⟨z17, hz17⟩ : ∃ y : Bool, y = (f_M_isAddress x0_12) := ⟨_, rfl⟩
    rw [← hz17]
    exact W.zret (v := (bI z17)) hx hb hr (nar_bI z17) (fun t ht hW => ⟨⟨(bI z17), (), rfl, ⟨z17, rfl⟩, ⟨by show va_P D classes _ t.heap; rw [ht]; exact hP, hD⟩⟩, hS.F ht⟩) hS.2.2 d_M_addressCanBe_14
theorem v_M_addressCanBe_s3 {R : Room} {s : State} {args : Array Value} {own : String} {index : Nat} (hk : ∀ w ∈ tb, w.before args s = true) (hl : Cond.methodLink own index y_M_addressCanBe ∈ tb) (hR : 2 + 1 ≤ R.frames ∧ 8 + (1 + 11) + 41 ≤ R.locals) : CallW R s args own "SignMachine$Machine" index y_M_addressCanBe b_M_addressCanBe 1 (some .boolean) (.code y_M_addressCanBe b_M_addressCanBe 1 (some .boolean) :: tb) ({ frames := 2, cells := 0, slots := 0, locals := 41 }) 0 0 0 := mk_v 0 hk k_298 hl k_297 k_4 k_117 rfl rfl h_M_addressCanBe hR
set_option maxHeartbeats 4000000 in
set_option maxRecDepth 100000 in
theorem c_M_value_s3 (l : Launch) (K : CK) (D : va_G) (cI cJ cZ cB : ClassId) (p0 p1 p2 p3 p4 p5 p6 : Nat) (sz : Nat) (x0_4 : Bool) (x0_5 : Int32) (x0_6 : Int32) (x0_7 : Int32) (x0_8 : Int32) (x0_9 : Int32) (x0_10 : Int32) (x0_11 : Int32) (x0_12 : Int32) (x0_13 : Int32) (y1 : Nat → Int32) (y2 : Nat → Int32) (x3_0 : Int32) (x4_0 : Int32) (y5 : Nat → Int32) (y6 : Nat → Int32)   : Met l y_M_value (.code y_M_value b_M_value 1 (some .int) :: tb) ({ frames := 2, cells := 0, slots := 0, locals := 45 }) (pMC K D cI cJ cZ cB (wS60 cI cJ cZ cB p0 p1 p2 p3 p4 p5 p6 x0_4 x0_5 x0_6 x0_7 x0_8 x0_9 x0_10 x0_11 x0_12 x0_13 y1 y2 x3_0 x4_0 y5 y6) sz [.ref p0]) (va_Qi (fun r (_ : Unit) => True) (fun _ t => (va_P D classes (wS60 cI cJ cZ cB p0 p1 p2 p3 p4 p5 p6 x0_4 x0_5 x0_6 x0_7 x0_8 x0_9 x0_10 x0_11 x0_12 x0_13 y1 y2 x3_0 x4_0 y5 y6) t.heap ∧ va_D (va_A (wS60 cI cJ cZ cB p0 p1 p2 p3 p4 p5 p6 x0_4 x0_5 x0_6 x0_7 x0_8 x0_9 x0_10 x0_11 x0_12 x0_13 y1 y2 x3_0 x4_0 y5 y6) sz) (wS60 cI cJ cZ cB p0 p1 p2 p3 p4 p5 p6 x0_4 x0_5 x0_6 x0_7 x0_8 x0_9 x0_10 x0_11 x0_12 x0_13 y1 y2 x3_0 x4_0 y5 y6))) (va_A (wS60 cI cJ cZ cB p0 p1 p2 p3 p4 p5 p6 x0_4 x0_5 x0_6 x0_7 x0_8 x0_9 x0_10 x0_11 x0_12 x0_13 y1 y2 x3_0 x4_0 y5 y6) sz)) 0 0 (va_A (wS60 cI cJ cZ cB p0 p1 p2 p3 p4 p5 p6 x0_4 x0_5 x0_6 x0_7 x0_8 x0_9 x0_10 x0_11 x0_12 x0_13 y1 y2 x3_0 x4_0 y5 y6) sz) := by
  refine Met.ofW (cc := b_M_value) (maxL := 1) (ret := (some .int)) (by decide) rfl ?_
  intro p e s m args below meth c s₁ B hml hv
  obtain ⟨rfl, hsz, hK, hP, hD0, hC⟩ := hv
  subst hsz
  have hD := hD0.self (sz := s.heap.size)
  generalize hAe : va_A (wS60 cI cJ cZ cB p0 p1 p2 p3 p4 p5 p6 x0_4 x0_5 x0_6 x0_7 x0_8 x0_9 x0_10 x0_11 x0_12 x0_13 y1 y2 x3_0 x4_0 y5 y6) s.heap.size = A at hD hC ⊢
  have hA : ∀ q : Nat, s.heap.size ≤ q → A q := fun q h => by rw [← hAe]; exact Or.inr h
  clear hAe hD0
  have hS : va_S A s.heap s.heap [] := va_S.rf
  have hx := B.exec
  have hb := B.bytes
  have hr := B.returns
  have hts := atoms_spec (ws := .code y_M_value b_M_value 1 (some .int) :: tb) B.pre
  have hk : ∀ w ∈ tb, w.before [.ref p0].toArray s = true := fun w h => hts w (List.mem_cons_of_mem _ h)
  have hown : s.vm.findClass "SignMachine$Machine" = some m.cls := findClass_of_methodNamed B.named
  have hlocks := B.notSynchronized
  have hl := lv_entry ([.ref p0]) (n := 1) (Nat.le_of_ble_eq_true rfl)
  rw [lg_entry_eq]
  generalize (lg_sl ([.ref p0]) ++ List.replicate (1 - (lg_sl ([.ref p0])).length) Slot.unset).toArray = ls at hl ⊢
  have hl : lv_has ls 1 [(0, .ref p0)] := hl
  refine lv_aload_n hx hb d_M_value_0 rfl (lv_at hl 0 rfl) ?_
  refine lv_aload_n hx hb d_M_value_1 rfl (lv_at hl 0 rfl) ?_
  refine va_get (D := D) (ci := 1) (v := .int x0_12) (C := "SignMachine$Machine") (T := F_M) (N := 14) hx hb hk fi_M hown hK.1 hP 0 rfl rfl 12 (by decide) (hk _ k_179) (fun _ h9 => h9) rfl d_M_value_2 ?_
  refine sn_i (va_runV (C := "SignMachine$Machine") (As := [.int x0_12]) (rest := []) ⟨hx, hb, hml, hown, hk⟩ (c_M_wordAt_s4 l K D cI cJ cZ cB p0 p1 p2 p3 p4 p5 p6 s.heap.size x0_4 x0_5 x0_6 x0_7 x0_8 x0_9 x0_10 x0_11 x0_12 x0_13 y1 y2 x3_0 x4_0 y5 y6  x0_12 ) (v_M_wordAt_s4 hk k_263 ⟨Nat.le_of_ble_eq_true rfl, Nat.le_of_ble_eq_true rfl⟩) (pMC_v hK hP hD hC hS hA (ci := 1) (q0 := 0) rfl rfl rfl) rfl rfl hl.1 rfl (lv_room (Nat.le_of_ble_eq_true rfl)) d_M_value_5 ⟨by decide, by decide⟩) hS hA hD (fun rz1 u t H locs hr0 ht hB hFr hS => ?_)
  have hrz1 := hr0
  obtain ⟨hP, hD⟩ := hB
  rw [ht] at hP
  have hD := dwk hD hFr
  clear ht hFr
  have hP : va_P D classes (wS60 cI cJ cZ cB p0 p1 p2 p3 p4 p5 p6 x0_4 x0_5 x0_6 x0_7 x0_8 x0_9 x0_10 x0_11 x0_12 x0_13 y1 y2 x3_0 x4_0 y5 y6) H := hP
  have hD : va_D A (wS60 cI cJ cZ cB p0 p1 p2 p3 p4 p5 p6 x0_4 x0_5 x0_6 x0_7 x0_8 x0_9 x0_10 x0_11 x0_12 x0_13 y1 y2 x3_0 x4_0 y5 y6) := hD
  refine lv_aload_n hx hb d_M_value_8 rfl (lv_at hl 0 rfl) ?_
  refine va_get (D := D) (ci := 1) (v := .int x0_10) (C := "SignMachine$Machine") (T := F_M) (N := 14) hx hb hk fi_M hown hK.1 hP 0 rfl rfl 10 (by decide) (hk _ k_177) (fun _ h9 => h9) rfl d_M_value_9 ?_
  refine cs_i (W.runS (As := [.int rz1, .int x0_10]) (rest := []) ⟨hx, hb, hml, hown, hk⟩ (c_W_field l rz1 x0_10) (s_W_field hk k_314 ⟨Nat.le_of_ble_eq_true rfl, Nat.le_of_ble_eq_true rfl⟩) ⟨fun a U g mk q => q, fun U hU hW => ⟨rfl, trivial⟩⟩ rfl rfl hl.1 rfl (lv_room (Nat.le_of_ble_eq_true rfl)) d_M_value_12 ⟨Nat.le_of_ble_eq_true rfl, Nat.le_of_ble_eq_true rfl⟩) ?_
  refine lv_topi (fun v2 hv2 => ?_)
  exact W.iret (v := v2) hx hb hr (fun t ht hW => ⟨⟨v2, (), rfl, trivial, ⟨by show va_P D classes _ t.heap; rw [ht]; exact hP, hD⟩⟩, hS.F ht⟩) hS.2.2 d_M_value_15
theorem v_M_value_s3 {R : Room} {s : State} {args : Array Value} {own : String} {index : Nat} (hk : ∀ w ∈ tb, w.before args s = true) (hl : Cond.methodLink own index y_M_value ∈ tb) (hR : 2 + 1 ≤ R.frames ∧ 8 + (1 + 11) + 45 ≤ R.locals) : CallW R s args own "SignMachine$Machine" index y_M_value b_M_value 1 (some .int) (.code y_M_value b_M_value 1 (some .int) :: tb) ({ frames := 2, cells := 0, slots := 0, locals := 45 }) 0 0 0 := mk_v 0 hk k_313 hl k_312 k_7 k_117 rfl rfl h_M_value hR
set_option maxHeartbeats 4000000 in
set_option maxRecDepth 100000 in
theorem c_M_numberByAddress_s3 (l : Launch) (K : CK) (D : va_G) (cI cJ cZ cB : ClassId) (p0 p1 p2 p3 p4 p5 p6 : Nat) (sz : Nat) (x0_4 : Bool) (x0_5 : Int32) (x0_6 : Int32) (x0_7 : Int32) (x0_8 : Int32) (x0_9 : Int32) (x0_10 : Int32) (x0_11 : Int32) (x0_12 : Int32) (x0_13 : Int32) (y1 : Nat → Int32) (y2 : Nat → Int32) (x3_0 : Int32) (x4_0 : Int32) (y5 : Nat → Int32) (y6 : Nat → Int32)   : Met l y_M_numberByAddress (.code y_M_numberByAddress b_M_numberByAddress 2 (some .int) :: tb) ({ frames := 1, cells := 0, slots := 0, locals := 21 }) (pMC K D cI cJ cZ cB (wS60 cI cJ cZ cB p0 p1 p2 p3 p4 p5 p6 x0_4 x0_5 x0_6 x0_7 x0_8 x0_9 x0_10 x0_11 x0_12 x0_13 y1 y2 x3_0 x4_0 y5 y6) sz [.ref p0]) (va_Qi (fun r (_ : Unit) => True) (fun _ t => (va_P D classes (wS60 cI cJ cZ cB p0 p1 p2 p3 p4 p5 p6 x0_4 x0_5 x0_6 x0_7 x0_8 x0_9 x0_10 x0_11 x0_12 x0_13 y1 y2 x3_0 x4_0 y5 y6) t.heap ∧ va_D (va_A (wS60 cI cJ cZ cB p0 p1 p2 p3 p4 p5 p6 x0_4 x0_5 x0_6 x0_7 x0_8 x0_9 x0_10 x0_11 x0_12 x0_13 y1 y2 x3_0 x4_0 y5 y6) sz) (wS60 cI cJ cZ cB p0 p1 p2 p3 p4 p5 p6 x0_4 x0_5 x0_6 x0_7 x0_8 x0_9 x0_10 x0_11 x0_12 x0_13 y1 y2 x3_0 x4_0 y5 y6))) (va_A (wS60 cI cJ cZ cB p0 p1 p2 p3 p4 p5 p6 x0_4 x0_5 x0_6 x0_7 x0_8 x0_9 x0_10 x0_11 x0_12 x0_13 y1 y2 x3_0 x4_0 y5 y6) sz)) 0 0 (va_A (wS60 cI cJ cZ cB p0 p1 p2 p3 p4 p5 p6 x0_4 x0_5 x0_6 x0_7 x0_8 x0_9 x0_10 x0_11 x0_12 x0_13 y1 y2 x3_0 x4_0 y5 y6) sz) := by
  refine Met.ofW (cc := b_M_numberByAddress) (maxL := 2) (ret := (some .int)) (by decide) rfl ?_
  intro p e s m args below meth c s₁ B hml hv
  obtain ⟨rfl, hsz, hK, hP, hD0, hC⟩ := hv
  subst hsz
  have hD := hD0.self (sz := s.heap.size)
  generalize hAe : va_A (wS60 cI cJ cZ cB p0 p1 p2 p3 p4 p5 p6 x0_4 x0_5 x0_6 x0_7 x0_8 x0_9 x0_10 x0_11 x0_12 x0_13 y1 y2 x3_0 x4_0 y5 y6) s.heap.size = A at hD hC ⊢
  have hA : ∀ q : Nat, s.heap.size ≤ q → A q := fun q h => by rw [← hAe]; exact Or.inr h
  clear hAe hD0
  have hS : va_S A s.heap s.heap [] := va_S.rf
  have hx := B.exec
  have hb := B.bytes
  have hr := B.returns
  have hts := atoms_spec (ws := .code y_M_numberByAddress b_M_numberByAddress 2 (some .int) :: tb) B.pre
  have hk : ∀ w ∈ tb, w.before [.ref p0].toArray s = true := fun w h => hts w (List.mem_cons_of_mem _ h)
  have hown : s.vm.findClass "SignMachine$Machine" = some m.cls := findClass_of_methodNamed B.named
  have hlocks := B.notSynchronized
  have hl := lv_entry ([.ref p0]) (n := 2) (Nat.le_of_ble_eq_true rfl)
  rw [lg_entry_eq]
  generalize (lg_sl ([.ref p0]) ++ List.replicate (2 - (lg_sl ([.ref p0])).length) Slot.unset).toArray = ls at hl ⊢
  have hl : lv_has ls 2 [(0, .ref p0)] := hl
  refine lv_aload_n hx hb d_M_numberByAddress_0 rfl (lv_at hl 0 rfl) ?_
  refine lv_aload_n hx hb d_M_numberByAddress_1 rfl (lv_at hl 0 rfl) ?_
  refine va_get (D := D) (ci := 1) (v := .int x0_9) (C := "SignMachine$Machine") (T := F_M) (N := 14) hx hb hk fi_M hown hK.1 hP 0 rfl rfl 9 (by decide) (hk _ k_176) (fun _ h9 => h9) rfl d_M_numberByAddress_2 ?_
  refine lv_bipush (v := 7) hx hb d_M_numberByAddress_5 (by decide) ?_
  refine lv_iand hx hb d_M_numberByAddress_7 ?_
  refine lv_topi (fun v1 hv1 => ?_)
  refine sn_i (va_runV (C := "SignMachine$Machine") (As := [.int v1]) (rest := []) ⟨hx, hb, hml, hown, hk⟩ (c_M_register_s3 l K D cI cJ cZ cB p0 p1 p2 p3 p4 p5 p6 s.heap.size x0_4 x0_5 x0_6 x0_7 x0_8 x0_9 x0_10 x0_11 x0_12 x0_13 y1 y2 x3_0 x4_0 y5 y6  v1 ) (v_M_register_s3 hk k_273 ⟨Nat.le_of_ble_eq_true rfl, Nat.le_of_ble_eq_true rfl⟩) (pMC_v hK hP hD hC hS hA (ci := 1) (q0 := 0) rfl rfl rfl) rfl rfl hl.1 rfl (lv_room (Nat.le_of_ble_eq_true rfl)) d_M_numberByAddress_8 ⟨by decide, by decide⟩) hS hA hD (fun rz2 u t H locs hr0 ht hB hFr hS => ?_)
  obtain ⟨hP, hD⟩ := hB
  rw [ht] at hP
  have hD := dwk hD hFr
  clear ht hFr
  have hP : va_P D classes (wS60 cI cJ cZ cB p0 p1 p2 p3 p4 p5 p6 x0_4 x0_5 x0_6 x0_7 x0_8 x0_9 x0_10 x0_11 x0_12 x0_13 y1 y2 x3_0 x4_0 y5 y6) H := hP
  have hD : va_D A (wS60 cI cJ cZ cB p0 p1 p2 p3 p4 p5 p6 x0_4 x0_5 x0_6 x0_7 x0_8 x0_9 x0_10 x0_11 x0_12 x0_13 y1 y2 x3_0 x4_0 y5 y6) := hD
  refine cs_i (W.runS (As := [.int rz2]) (rest := []) ⟨hx, hb, hml, hown, hk⟩ (c_W_number l rz2) (s_W_number hk k_277 ⟨Nat.le_of_ble_eq_true rfl, Nat.le_of_ble_eq_true rfl⟩) ⟨fun a U g mk q => q, fun U hU hW => ⟨rfl, trivial⟩⟩ rfl rfl hl.1 rfl (lv_room (Nat.le_of_ble_eq_true rfl)) d_M_numberByAddress_11 ⟨Nat.le_of_ble_eq_true rfl, Nat.le_of_ble_eq_true rfl⟩) ?_
  refine lv_topi (fun v3 hv3 => ?_)
  refine lv_istore_n (lv' := [(1, .int v3), (0, .ref p0)]) hx hb d_M_numberByAddress_14 rfl hl (by decide) rfl (fun ls hl => ?_)
  refine lv_aload_n hx hb d_M_numberByAddress_15 rfl (lv_at hl 1 rfl) ?_
  refine va_get (D := D) (ci := 1) (v := .int x0_10) (C := "SignMachine$Machine") (T := F_M) (N := 14) hx hb hk fi_M hown hK.1 hP 0 rfl rfl 10 (by decide) (hk _ k_177) (fun _ h9 => h9) rfl d_M_numberByAddress_16 ?_
  by_cases c4 : x0_10 = (0 : Int32)
  · refine lv_tableIn (off := 25) (tgt := 44) hx hb d_M_numberByAddress_19 (by rw [c4]; decide) (by rw [c4]; decide) (by rw [c4]; rfl) (by decide) ?_
    refine lv_iload_n hx hb d_M_numberByAddress_44 rfl (lv_at hl 0 rfl) ?_
    refine lv_aload_n hx hb d_M_numberByAddress_45 rfl (lv_at hl 1 rfl) ?_
    refine va_get (D := D) (ci := 1) (v := .int x0_12) (C := "SignMachine$Machine") (T := F_M) (N := 14) hx hb hk fi_M hown hK.1 hP 0 rfl rfl 12 (by decide) (hk _ k_179) (fun _ h9 => h9) rfl d_M_numberByAddress_46 ?_
    refine lv_iadd hx hb d_M_numberByAddress_49 ?_
    refine lv_topi (fun v5 hv5 => ?_)
    exact W.iret (v := v5) hx hb hr (fun t ht hW => ⟨⟨v5, (), rfl, trivial, ⟨by show va_P D classes _ t.heap; rw [ht]; exact hP, hD⟩⟩, hS.F ht⟩) hS.2.2 d_M_numberByAddress_50
  · by_cases c6 : x0_10 = (1 : Int32)
    · refine lv_tableIn (off := 32) (tgt := 51) hx hb d_M_numberByAddress_19 (by rw [c6]; decide) (by rw [c6]; decide) (by rw [c6]; rfl) (by decide) ?_
      refine lv_iload_n hx hb d_M_numberByAddress_51 rfl (lv_at hl 0 rfl) ?_
      refine lv_aload_n hx hb d_M_numberByAddress_52 rfl (lv_at hl 1 rfl) ?_
      refine va_get (D := D) (ci := 1) (v := .int x0_12) (C := "SignMachine$Machine") (T := F_M) (N := 14) hx hb hk fi_M hown hK.1 hP 0 rfl rfl 12 (by decide) (hk _ k_179) (fun _ h9 => h9) rfl d_M_numberByAddress_53 ?_
      refine lv_isub hx hb d_M_numberByAddress_56 ?_
      refine lv_topi (fun v7 hv7 => ?_)
      exact W.iret (v := v7) hx hb hr (fun t ht hW => ⟨⟨v7, (), rfl, trivial, ⟨by show va_P D classes _ t.heap; rw [ht]; exact hP, hD⟩⟩, hS.F ht⟩) hS.2.2 d_M_numberByAddress_57
    · by_cases c8 : x0_10 = (2 : Int32)
      · refine lv_tableIn (off := 39) (tgt := 58) hx hb d_M_numberByAddress_19 (by rw [c8]; decide) (by rw [c8]; decide) (by rw [c8]; rfl) (by decide) ?_
        refine lv_aload_n hx hb d_M_numberByAddress_58 rfl (lv_at hl 1 rfl) ?_
        refine va_get (D := D) (ci := 1) (v := .int x0_12) (C := "SignMachine$Machine") (T := F_M) (N := 14) hx hb hk fi_M hown hK.1 hP 0 rfl rfl 12 (by decide) (hk _ k_179) (fun _ h9 => h9) rfl d_M_numberByAddress_59 ?_
        exact W.iret (v := x0_12) hx hb hr (fun t ht hW => ⟨⟨x0_12, (), rfl, trivial, ⟨by show va_P D classes _ t.heap; rw [ht]; exact hP, hD⟩⟩, hS.F ht⟩) hS.2.2 d_M_numberByAddress_62
      · refine lv_tableOut (tgt := 63) hx hb d_M_numberByAddress_19 (by have e0 := lv_neT c4 (a := 0) rfl; have e1 := lv_neT c6 (a := 1) rfl; have e2 := lv_neT c8 (a := 2) rfl; omega) (by decide) ?_
        refine lv_aload_n hx hb d_M_numberByAddress_63 rfl (lv_at hl 1 rfl) ?_
        refine va_get (D := D) (ci := 1) (v := .int x0_12) (C := "SignMachine$Machine") (T := F_M) (N := 14) hx hb hk fi_M hown hK.1 hP 0 rfl rfl 12 (by decide) (hk _ k_179) (fun _ h9 => h9) rfl d_M_numberByAddress_64 ?_
        refine lv_ineg hx hb d_M_numberByAddress_67 ?_
        refine lv_topi (fun v9 hv9 => ?_)
        exact W.iret (v := v9) hx hb hr (fun t ht hW => ⟨⟨v9, (), rfl, trivial, ⟨by show va_P D classes _ t.heap; rw [ht]; exact hP, hD⟩⟩, hS.F ht⟩) hS.2.2 d_M_numberByAddress_68
theorem v_M_numberByAddress_s3 {R : Room} {s : State} {args : Array Value} {own : String} {index : Nat} (hk : ∀ w ∈ tb, w.before args s = true) (hl : Cond.methodLink own index y_M_numberByAddress ∈ tb) (hR : 1 + 1 ≤ R.frames ∧ 8 + (2 + 11) + 21 ≤ R.locals) : CallW R s args own "SignMachine$Machine" index y_M_numberByAddress b_M_numberByAddress 2 (some .int) (.code y_M_numberByAddress b_M_numberByAddress 2 (some .int) :: tb) ({ frames := 1, cells := 0, slots := 0, locals := 21 }) 0 0 0 := mk_v 0 hk k_329 hl k_328 k_8 k_117 rfl rfl h_M_numberByAddress hR
set_option maxHeartbeats 4000000 in
set_option maxRecDepth 100000 in
theorem c_M_indexCanBe_s3 (l : Launch) (K : CK) (D : va_G) (cI cJ cZ cB : ClassId) (p0 p1 p2 p3 p4 p5 p6 : Nat) (sz : Nat) (x0_4 : Bool) (x0_5 : Int32) (x0_6 : Int32) (x0_7 : Int32) (x0_8 : Int32) (x0_9 : Int32) (x0_10 : Int32) (x0_11 : Int32) (x0_12 : Int32) (x0_13 : Int32) (y1 : Nat → Int32) (y2 : Nat → Int32) (x3_0 : Int32) (x4_0 : Int32) (y5 : Nat → Int32) (y6 : Nat → Int32)   : Met l y_M_indexCanBe (.code y_M_indexCanBe b_M_indexCanBe 1 (some .boolean) :: tb) ({ frames := 3, cells := 0, slots := 0, locals := 65 }) (pMC K D cI cJ cZ cB (wS60 cI cJ cZ cB p0 p1 p2 p3 p4 p5 p6 x0_4 x0_5 x0_6 x0_7 x0_8 x0_9 x0_10 x0_11 x0_12 x0_13 y1 y2 x3_0 x4_0 y5 y6) sz [.ref p0]) (va_Qi (fun r (_ : Unit) => ∃ z : Bool, r = bI z) (fun _ t => (va_P D classes (wS60 cI cJ cZ cB p0 p1 p2 p3 p4 p5 p6 x0_4 x0_5 x0_6 x0_7 x0_8 x0_9 x0_10 x0_11 x0_12 x0_13 y1 y2 x3_0 x4_0 y5 y6) t.heap ∧ va_D (va_A (wS60 cI cJ cZ cB p0 p1 p2 p3 p4 p5 p6 x0_4 x0_5 x0_6 x0_7 x0_8 x0_9 x0_10 x0_11 x0_12 x0_13 y1 y2 x3_0 x4_0 y5 y6) sz) (wS60 cI cJ cZ cB p0 p1 p2 p3 p4 p5 p6 x0_4 x0_5 x0_6 x0_7 x0_8 x0_9 x0_10 x0_11 x0_12 x0_13 y1 y2 x3_0 x4_0 y5 y6))) (va_A (wS60 cI cJ cZ cB p0 p1 p2 p3 p4 p5 p6 x0_4 x0_5 x0_6 x0_7 x0_8 x0_9 x0_10 x0_11 x0_12 x0_13 y1 y2 x3_0 x4_0 y5 y6) sz)) 0 0 (va_A (wS60 cI cJ cZ cB p0 p1 p2 p3 p4 p5 p6 x0_4 x0_5 x0_6 x0_7 x0_8 x0_9 x0_10 x0_11 x0_12 x0_13 y1 y2 x3_0 x4_0 y5 y6) sz) := by
  refine Met.ofW (cc := b_M_indexCanBe) (maxL := 1) (ret := (some .boolean)) (by decide) rfl ?_
  intro p e s m args below meth c s₁ B hml hv
  obtain ⟨rfl, hsz, hK, hP, hD0, hC⟩ := hv
  subst hsz
  have hD := hD0.self (sz := s.heap.size)
  generalize hAe : va_A (wS60 cI cJ cZ cB p0 p1 p2 p3 p4 p5 p6 x0_4 x0_5 x0_6 x0_7 x0_8 x0_9 x0_10 x0_11 x0_12 x0_13 y1 y2 x3_0 x4_0 y5 y6) s.heap.size = A at hD hC ⊢
  have hA : ∀ q : Nat, s.heap.size ≤ q → A q := fun q h => by rw [← hAe]; exact Or.inr h
  clear hAe hD0
  have hS : va_S A s.heap s.heap [] := va_S.rf
  have hx := B.exec
  have hb := B.bytes
  have hr := B.returns
  have hts := atoms_spec (ws := .code y_M_indexCanBe b_M_indexCanBe 1 (some .boolean) :: tb) B.pre
  have hk : ∀ w ∈ tb, w.before [.ref p0].toArray s = true := fun w h => hts w (List.mem_cons_of_mem _ h)
  have hown : s.vm.findClass "SignMachine$Machine" = some m.cls := findClass_of_methodNamed B.named
  have hlocks := B.notSynchronized
  have hl := lv_entry ([.ref p0]) (n := 1) (Nat.le_of_ble_eq_true rfl)
  rw [lg_entry_eq]
  generalize (lg_sl ([.ref p0]) ++ List.replicate (1 - (lg_sl ([.ref p0])).length) Slot.unset).toArray = ls at hl ⊢
  have hl : lv_has ls 1 [(0, .ref p0)] := hl
  refine lv_aload_n hx hb d_M_indexCanBe_0 rfl (lv_at hl 0 rfl) ?_
  refine va_get (D := D) (ci := 1) (v := .int x0_9) (C := "SignMachine$Machine") (T := F_M) (N := 14) hx hb hk fi_M hown hK.1 hP 0 rfl rfl 9 (by decide) (hk _ k_176) (fun _ h9 => h9) rfl d_M_indexCanBe_1 ?_
  refine lv_bipush (v := 7) hx hb d_M_indexCanBe_4 (by decide) ?_
  refine lv_iand hx hb d_M_indexCanBe_6 ?_
  refine lv_topi (fun v1 hv1 => ?_)
  refine cs_i (W.runS (As := [.int v1]) (rest := []) ⟨hx, hb, hml, hown, hk⟩ (c_M_isIndex l v1) (s_M_isIndex hk k_270 ⟨Nat.le_of_ble_eq_true rfl, Nat.le_of_ble_eq_true rfl⟩) ⟨fun a U g mk q => q, fun U hU hW => ⟨rfl, trivial⟩⟩ rfl rfl hl.1 rfl (lv_room (Nat.le_of_ble_eq_true rfl)) d_M_indexCanBe_7 ⟨Nat.le_of_ble_eq_true rfl, Nat.le_of_ble_eq_true rfl⟩) ?_
  obtain ⟨z2, hz2⟩ : ∃ y : Bool, y = (f_M_isIndex v1) := ⟨_, rfl⟩
  rw [← hz2]
  refine lv_if_ne (tgt := 15) hx hb d_M_indexCanBe_10 (by decide) (fun c3 => ?_) (fun c3 => ?_)
  · refine lv_aload_n hx hb d_M_indexCanBe_15 rfl (lv_at hl 0 rfl) ?_
    refine va_get (D := D) (ci := 1) (v := .int x0_9) (C := "SignMachine$Machine") (T := F_M) (N := 14) hx hb hk fi_M hown hK.1 hP 0 rfl rfl 9 (by decide) (hk _ k_176) (fun _ h9 => h9) rfl d_M_indexCanBe_16 ?_
    refine lv_iconst (v := 3) hx hb d_M_indexCanBe_19 (by decide) ?_
    refine lv_ishr hx hb d_M_indexCanBe_20 ?_
    refine lv_topi (fun v4 hv4 => ?_)
    by_cases c5 : v4 = (1 : Int32)
    · refine lv_lookup (off := 35) (tgt := 56) hx hb d_M_indexCanBe_21 (by decide) (by rw [c5]; rfl) (by decide) ?_
      refine lv_aload_n hx hb d_M_indexCanBe_56 rfl (lv_at hl 0 rfl) ?_
      refine sn_i (va_runV (C := "SignMachine$Machine") (As := []) (rest := []) ⟨hx, hb, hml, hown, hk⟩ (c_M_value_s3 l K D cI cJ cZ cB p0 p1 p2 p3 p4 p5 p6 s.heap.size x0_4 x0_5 x0_6 x0_7 x0_8 x0_9 x0_10 x0_11 x0_12 x0_13 y1 y2 x3_0 x4_0 y5 y6   ) (v_M_value_s3 hk k_310 ⟨Nat.le_of_ble_eq_true rfl, Nat.le_of_ble_eq_true rfl⟩) (pMC_v hK hP hD hC hS hA (ci := 1) (q0 := 0) rfl rfl rfl) rfl rfl hl.1 rfl (lv_room (Nat.le_of_ble_eq_true rfl)) d_M_indexCanBe_57 ⟨by decide, by decide⟩) hS hA hD (fun rz6 u t H locs hr0 ht hB hFr hS => ?_)
      obtain ⟨hP, hD⟩ := hB
      rw [ht] at hP
      have hD := dwk hD hFr
      clear ht hFr
      have hP : va_P D classes (wS60 cI cJ cZ cB p0 p1 p2 p3 p4 p5 p6 x0_4 x0_5 x0_6 x0_7 x0_8 x0_9 x0_10 x0_11 x0_12 x0_13 y1 y2 x3_0 x4_0 y5 y6) H := hP
      have hD : va_D A (wS60 cI cJ cZ cB p0 p1 p2 p3 p4 p5 p6 x0_4 x0_5 x0_6 x0_7 x0_8 x0_9 x0_10 x0_11 x0_12 x0_13 y1 y2 x3_0 x4_0 y5 y6) := hD
      refine cs_i (W.runS (As := [.int rz6]) (rest := []) ⟨hx, hb, hml, hown, hk⟩ (c_W_size l rz6) (s_W_size hk k_268 ⟨Nat.le_of_ble_eq_true rfl, Nat.le_of_ble_eq_true rfl⟩) ⟨fun a U g mk q => q, fun U hU hW => ⟨rfl, trivial⟩⟩ rfl rfl hl.1 rfl (lv_room (Nat.le_of_ble_eq_true rfl)) d_M_indexCanBe_60 ⟨Nat.le_of_ble_eq_true rfl, Nat.le_of_ble_eq_true rfl⟩) ?_
      refine lv_topi (fun v7 hv7 => ?_)
      refine lv_sipush (v := 4095) hx hb d_M_indexCanBe_63 (by decide) ?_
      refine lv_icmp_gt (tgt := 73) hx hb d_M_indexCanBe_66 (by decide) (fun c8 => ?_) (fun c8 => ?_)
      · refine lv_iconst (v := 0) hx hb d_M_indexCanBe_73 (by decide) ?_
        exact W.zret (v := (0 : Int32)) hx hb hr rfl (fun t ht hW => ⟨⟨(0 : Int32), (), rfl, ⟨false, rfl⟩, ⟨by show va_P D classes _ t.heap; rw [ht]; exact hP, hD⟩⟩, hS.F ht⟩) hS.2.2 d_M_indexCanBe_74
      · refine lv_iconst (v := 1) hx hb d_M_indexCanBe_69 (by decide) ?_
        refine lv_goto (tgt := 74) hx hb d_M_indexCanBe_70 (by decide) ?_
        exact W.zret (v := (1 : Int32)) hx hb hr rfl (fun t ht hW => ⟨⟨(1 : Int32), (), rfl, ⟨true, rfl⟩, ⟨by show va_P D classes _ t.heap; rw [ht]; exact hP, hD⟩⟩, hS.F ht⟩) hS.2.2 d_M_indexCanBe_74
    · by_cases c9 : v4 = (2 : Int32)
      · refine lv_lookup (off := 35) (tgt := 56) hx hb d_M_indexCanBe_21 (by decide) (by rw [c9]; rfl) (by decide) ?_
        refine lv_aload_n hx hb d_M_indexCanBe_56 rfl (lv_at hl 0 rfl) ?_
        refine sn_i (va_runV (C := "SignMachine$Machine") (As := []) (rest := []) ⟨hx, hb, hml, hown, hk⟩ (c_M_value_s3 l K D cI cJ cZ cB p0 p1 p2 p3 p4 p5 p6 s.heap.size x0_4 x0_5 x0_6 x0_7 x0_8 x0_9 x0_10 x0_11 x0_12 x0_13 y1 y2 x3_0 x4_0 y5 y6   ) (v_M_value_s3 hk k_310 ⟨Nat.le_of_ble_eq_true rfl, Nat.le_of_ble_eq_true rfl⟩) (pMC_v hK hP hD hC hS hA (ci := 1) (q0 := 0) rfl rfl rfl) rfl rfl hl.1 rfl (lv_room (Nat.le_of_ble_eq_true rfl)) d_M_indexCanBe_57 ⟨by decide, by decide⟩) hS hA hD (fun rz10 u t H locs hr0 ht hB hFr hS => ?_)
        obtain ⟨hP, hD⟩ := hB
        rw [ht] at hP
        have hD := dwk hD hFr
        clear ht hFr
        have hP : va_P D classes (wS60 cI cJ cZ cB p0 p1 p2 p3 p4 p5 p6 x0_4 x0_5 x0_6 x0_7 x0_8 x0_9 x0_10 x0_11 x0_12 x0_13 y1 y2 x3_0 x4_0 y5 y6) H := hP
        have hD : va_D A (wS60 cI cJ cZ cB p0 p1 p2 p3 p4 p5 p6 x0_4 x0_5 x0_6 x0_7 x0_8 x0_9 x0_10 x0_11 x0_12 x0_13 y1 y2 x3_0 x4_0 y5 y6) := hD
        refine cs_i (W.runS (As := [.int rz10]) (rest := []) ⟨hx, hb, hml, hown, hk⟩ (c_W_size l rz10) (s_W_size hk k_268 ⟨Nat.le_of_ble_eq_true rfl, Nat.le_of_ble_eq_true rfl⟩) ⟨fun a U g mk q => q, fun U hU hW => ⟨rfl, trivial⟩⟩ rfl rfl hl.1 rfl (lv_room (Nat.le_of_ble_eq_true rfl)) d_M_indexCanBe_60 ⟨Nat.le_of_ble_eq_true rfl, Nat.le_of_ble_eq_true rfl⟩) ?_
        refine lv_topi (fun v11 hv11 => ?_)
        refine lv_sipush (v := 4095) hx hb d_M_indexCanBe_63 (by decide) ?_
        refine lv_icmp_gt (tgt := 73) hx hb d_M_indexCanBe_66 (by decide) (fun c12 => ?_) (fun c12 => ?_)
        · refine lv_iconst (v := 0) hx hb d_M_indexCanBe_73 (by decide) ?_
          exact W.zret (v := (0 : Int32)) hx hb hr rfl (fun t ht hW => ⟨⟨(0 : Int32), (), rfl, ⟨false, rfl⟩, ⟨by show va_P D classes _ t.heap; rw [ht]; exact hP, hD⟩⟩, hS.F ht⟩) hS.2.2 d_M_indexCanBe_74
        · refine lv_iconst (v := 1) hx hb d_M_indexCanBe_69 (by decide) ?_
          refine lv_goto (tgt := 74) hx hb d_M_indexCanBe_70 (by decide) ?_
          exact W.zret (v := (1 : Int32)) hx hb hr rfl (fun t ht hW => ⟨⟨(1 : Int32), (), rfl, ⟨true, rfl⟩, ⟨by show va_P D classes _ t.heap; rw [ht]; exact hP, hD⟩⟩, hS.F ht⟩) hS.2.2 d_M_indexCanBe_74
      · by_cases c13 : v4 = (6 : Int32)
        · refine lv_lookup (off := 54) (tgt := 75) hx hb d_M_indexCanBe_21 (by decide) (by rw [c13]; rfl) (by decide) ?_
          refine lv_aload_n hx hb d_M_indexCanBe_75 rfl (lv_at hl 0 rfl) ?_
          refine sn_i (va_runV (C := "SignMachine$Machine") (As := []) (rest := []) ⟨hx, hb, hml, hown, hk⟩ (c_M_numberByAddress_s3 l K D cI cJ cZ cB p0 p1 p2 p3 p4 p5 p6 s.heap.size x0_4 x0_5 x0_6 x0_7 x0_8 x0_9 x0_10 x0_11 x0_12 x0_13 y1 y2 x3_0 x4_0 y5 y6   ) (v_M_numberByAddress_s3 hk k_326 ⟨Nat.le_of_ble_eq_true rfl, Nat.le_of_ble_eq_true rfl⟩) (pMC_v hK hP hD hC hS hA (ci := 1) (q0 := 0) rfl rfl rfl) rfl rfl hl.1 rfl (lv_room (Nat.le_of_ble_eq_true rfl)) d_M_indexCanBe_76 ⟨by decide, by decide⟩) hS hA hD (fun rz14 u t H locs hr0 ht hB hFr hS => ?_)
          obtain ⟨hP, hD⟩ := hB
          rw [ht] at hP
          have hD := dwk hD hFr
          clear ht hFr
          have hP : va_P D classes (wS60 cI cJ cZ cB p0 p1 p2 p3 p4 p5 p6 x0_4 x0_5 x0_6 x0_7 x0_8 x0_9 x0_10 x0_11 x0_12 x0_13 y1 y2 x3_0 x4_0 y5 y6) H := hP
          have hD : va_D A (wS60 cI cJ cZ cB p0 p1 p2 p3 p4 p5 p6 x0_4 x0_5 x0_6 x0_7 x0_8 x0_9 x0_10 x0_11 x0_12 x0_13 y1 y2 x3_0 x4_0 y5 y6) := hD
          refine va_mabs hx hb (hml.trans hl.1.symm) hown (hk _ k_330) (hk _ k_331) (hk _ k_121) (hk _ k_absc) (Nat.le_of_ble_eq_true rfl) (Nat.le_of_ble_eq_true rfl) (Nat.zero_le _) (Nat.zero_le _) d_M_indexCanBe_79 ?_
          refine lv_topi (fun v15 hv15 => ?_)
          refine lv_sipush (v := 4095) hx hb d_M_indexCanBe_82 (by decide) ?_
          refine lv_icmp_gt (tgt := 92) hx hb d_M_indexCanBe_85 (by decide) (fun c16 => ?_) (fun c16 => ?_)
          · refine lv_iconst (v := 0) hx hb d_M_indexCanBe_92 (by decide) ?_
            exact W.zret (v := (0 : Int32)) hx hb hr rfl (fun t ht hW => ⟨⟨(0 : Int32), (), rfl, ⟨false, rfl⟩, ⟨by show va_P D classes _ t.heap; rw [ht]; exact hP, hD⟩⟩, hS.F ht⟩) hS.2.2 d_M_indexCanBe_93
          · refine lv_iconst (v := 1) hx hb d_M_indexCanBe_88 (by decide) ?_
            refine lv_goto (tgt := 93) hx hb d_M_indexCanBe_89 (by decide) ?_
            exact W.zret (v := (1 : Int32)) hx hb hr rfl (fun t ht hW => ⟨⟨(1 : Int32), (), rfl, ⟨true, rfl⟩, ⟨by show va_P D classes _ t.heap; rw [ht]; exact hP, hD⟩⟩, hS.F ht⟩) hS.2.2 d_M_indexCanBe_93
        · refine lv_lookup (off := 73) (tgt := 94) hx hb d_M_indexCanBe_21 (by decide) (by show Op.lookupswitch.offset [(1, 35), (2, 35), (6, 54)] 73 _ = _; rw [lv_osw c5 (a := 1) rfl, lv_osw c9 (a := 2) rfl, lv_osw c13 (a := 6) rfl]; rfl) (by decide) ?_
          refine lv_iconst (v := 1) hx hb d_M_indexCanBe_94 (by decide) ?_
          exact W.zret (v := (1 : Int32)) hx hb hr rfl (fun t ht hW => ⟨⟨(1 : Int32), (), rfl, ⟨true, rfl⟩, ⟨by show va_P D classes _ t.heap; rw [ht]; exact hP, hD⟩⟩, hS.F ht⟩) hS.2.2 d_M_indexCanBe_95
  · refine lv_iconst (v := 1) hx hb d_M_indexCanBe_13 (by decide) ?_
    exact W.zret (v := (1 : Int32)) hx hb hr rfl (fun t ht hW => ⟨⟨(1 : Int32), (), rfl, ⟨true, rfl⟩, ⟨by show va_P D classes _ t.heap; rw [ht]; exact hP, hD⟩⟩, hS.F ht⟩) hS.2.2 d_M_indexCanBe_14
theorem v_M_indexCanBe_s3 {R : Room} {s : State} {args : Array Value} {own : String} {index : Nat} (hk : ∀ w ∈ tb, w.before args s = true) (hl : Cond.methodLink own index y_M_indexCanBe ∈ tb) (hR : 3 + 1 ≤ R.frames ∧ 8 + (1 + 11) + 65 ≤ R.locals) : CallW R s args own "SignMachine$Machine" index y_M_indexCanBe b_M_indexCanBe 1 (some .boolean) (.code y_M_indexCanBe b_M_indexCanBe 1 (some .boolean) :: tb) ({ frames := 3, cells := 0, slots := 0, locals := 65 }) 0 0 0 := mk_v 0 hk k_309 hl k_308 k_6 k_117 rfl rfl h_M_indexCanBe hR
set_option maxHeartbeats 4000000 in
set_option maxRecDepth 100000 in
theorem c_M_unit_s7 (l : Launch) (K : CK) (D : va_G) (cI cJ cZ cB : ClassId) (p0 p1 p2 p3 p4 p5 p6 : Nat) (sz : Nat) (x0_4 : Bool) (x0_5 : Int32) (x0_6 : Int32) (x0_7 : Int32) (x0_8 : Int32) (x0_9 : Int32) (x0_10 : Int32) (x0_11 : Int32) (x0_12 : Int32) (x0_13 : Int32) (y1 : Nat → Int32) (y2 : Nat → Int32) (x3_0 : Int32) (x4_0 : Int32) (y5 : Nat → Int32) (y6 : Nat → Int32)  (a1 : Int32) : Met l y_M_unit (.code y_M_unit b_M_unit 2 (some (.object "SignMachine$Tape")) :: tb) ({ frames := 0, cells := 0, slots := 0, locals := 0 }) (pMC K D cI cJ cZ cB (wS60 cI cJ cZ cB p0 p1 p2 p3 p4 p5 p6 x0_4 x0_5 x0_6 x0_7 x0_8 x0_9 x0_10 x0_11 x0_12 x0_13 y1 y2 x3_0 x4_0 y5 y6) sz [.ref p0, .int a1]) (va_Qq (fun r (_ : Unit) => r = some p3 ∨ r = some p4) (fun _ t => (va_P D classes (wS60 cI cJ cZ cB p0 p1 p2 p3 p4 p5 p6 x0_4 x0_5 x0_6 x0_7 x0_8 x0_9 x0_10 x0_11 x0_12 x0_13 y1 y2 x3_0 x4_0 y5 y6) t.heap ∧ va_D (va_A (wS60 cI cJ cZ cB p0 p1 p2 p3 p4 p5 p6 x0_4 x0_5 x0_6 x0_7 x0_8 x0_9 x0_10 x0_11 x0_12 x0_13 y1 y2 x3_0 x4_0 y5 y6) sz) (wS60 cI cJ cZ cB p0 p1 p2 p3 p4 p5 p6 x0_4 x0_5 x0_6 x0_7 x0_8 x0_9 x0_10 x0_11 x0_12 x0_13 y1 y2 x3_0 x4_0 y5 y6))) (va_A (wS60 cI cJ cZ cB p0 p1 p2 p3 p4 p5 p6 x0_4 x0_5 x0_6 x0_7 x0_8 x0_9 x0_10 x0_11 x0_12 x0_13 y1 y2 x3_0 x4_0 y5 y6) sz)) 0 0 (va_A (wS60 cI cJ cZ cB p0 p1 p2 p3 p4 p5 p6 x0_4 x0_5 x0_6 x0_7 x0_8 x0_9 x0_10 x0_11 x0_12 x0_13 y1 y2 x3_0 x4_0 y5 y6) sz) := by
  refine Met.ofW (cc := b_M_unit) (maxL := 2) (ret := (some (.object "SignMachine$Tape"))) (by decide) rfl ?_
  intro p e s m args below meth c s₁ B hml hv
  obtain ⟨rfl, hsz, hK, hP, hD0, hC⟩ := hv
  subst hsz
  have hD := hD0.self (sz := s.heap.size)
  generalize hAe : va_A (wS60 cI cJ cZ cB p0 p1 p2 p3 p4 p5 p6 x0_4 x0_5 x0_6 x0_7 x0_8 x0_9 x0_10 x0_11 x0_12 x0_13 y1 y2 x3_0 x4_0 y5 y6) s.heap.size = A at hD hC ⊢
  have hA : ∀ q : Nat, s.heap.size ≤ q → A q := fun q h => by rw [← hAe]; exact Or.inr h
  clear hAe hD0
  have hS : va_S A s.heap s.heap [] := va_S.rf
  have hx := B.exec
  have hb := B.bytes
  have hr := B.returns
  have hts := atoms_spec (ws := .code y_M_unit b_M_unit 2 (some (.object "SignMachine$Tape")) :: tb) B.pre
  have hk : ∀ w ∈ tb, w.before [.ref p0, .int a1].toArray s = true := fun w h => hts w (List.mem_cons_of_mem _ h)
  have hown : s.vm.findClass "SignMachine$Machine" = some m.cls := findClass_of_methodNamed B.named
  have hlocks := B.notSynchronized
  have hl := lv_entry ([.ref p0, .int a1]) (n := 2) (Nat.le_of_ble_eq_true rfl)
  rw [lg_entry_eq]
  generalize (lg_sl ([.ref p0, .int a1]) ++ List.replicate (2 - (lg_sl ([.ref p0, .int a1])).length) Slot.unset).toArray = ls at hl ⊢
  have hl : lv_has ls 2 [(0, .ref p0), (1, .int a1)] := hl
  refine lv_iload_n hx hb d_M_unit_0 rfl (lv_at hl 1 rfl) ?_
  refine lv_if_ne (tgt := 11) hx hb d_M_unit_1 (by decide) (fun c1 => ?_) (fun c1 => ?_)
  · refine lv_aload_n hx hb d_M_unit_11 rfl (lv_at hl 0 rfl) ?_
    refine va_get (D := D) (ci := 1) (v := .ref p4) (C := "SignMachine$Machine") (T := F_M) (N := 14) hx hb hk fi_M hown hK.1 hP 0 rfl rfl 3 (by decide) (hk _ k_166) (fun _ h9 => h9) rfl d_M_unit_12 ?_
    exact W.aret (v := .ref p4) hx hb hr (Or.inl ⟨_, rfl⟩) (Or.inr ⟨_, rfl⟩) (fun t ht hW => ⟨⟨(some p4), (), rfl, Or.inr (rfl), ⟨by show va_P D classes _ t.heap; rw [ht]; exact hP, hD⟩⟩, hS.F ht⟩) hS.2.2 d_M_unit_15
  · refine lv_aload_n hx hb d_M_unit_4 rfl (lv_at hl 0 rfl) ?_
    refine va_get (D := D) (ci := 1) (v := .ref p3) (C := "SignMachine$Machine") (T := F_M) (N := 14) hx hb hk fi_M hown hK.1 hP 0 rfl rfl 2 (by decide) (hk _ k_165) (fun _ h9 => h9) rfl d_M_unit_5 ?_
    refine lv_goto (tgt := 15) hx hb d_M_unit_8 (by decide) ?_
    exact W.aret (v := .ref p3) hx hb hr (Or.inl ⟨_, rfl⟩) (Or.inr ⟨_, rfl⟩) (fun t ht hW => ⟨⟨(some p3), (), rfl, Or.inl rfl, ⟨by show va_P D classes _ t.heap; rw [ht]; exact hP, hD⟩⟩, hS.F ht⟩) hS.2.2 d_M_unit_15
theorem v_M_unit_s7 {R : Room} {s : State} {args : Array Value} {own : String} {index : Nat} (hk : ∀ w ∈ tb, w.before args s = true) (hl : Cond.methodLink own index y_M_unit ∈ tb) (hR : 0 + 1 ≤ R.frames ∧ 8 + (2 + 11) + 0 ≤ R.locals) : CallW R s args own "SignMachine$Machine" index y_M_unit b_M_unit 2 (some (.object "SignMachine$Tape")) (.code y_M_unit b_M_unit 2 (some (.object "SignMachine$Tape")) :: tb) ({ frames := 0, cells := 0, slots := 0, locals := 0 }) 0 0 1 := mk_v 1 hk k_340 hl k_338 k_339 k_117 rfl rfl h_M_unit hR
set_option maxHeartbeats 4000000 in
set_option maxRecDepth 100000 in
theorem c_M_blockCanBe_s3 (l : Launch) (K : CK) (D : va_G) (cI cJ cZ cB : ClassId) (p0 p1 p2 p3 p4 p5 p6 : Nat) (sz : Nat) (x0_4 : Bool) (x0_5 : Int32) (x0_6 : Int32) (x0_7 : Int32) (x0_8 : Int32) (x0_9 : Int32) (x0_10 : Int32) (x0_11 : Int32) (x0_12 : Int32) (x0_13 : Int32) (y1 : Nat → Int32) (y2 : Nat → Int32) (x3_0 : Int32) (x4_0 : Int32) (y5 : Nat → Int32) (y6 : Nat → Int32)   : Met l y_M_blockCanBe (.code y_M_blockCanBe b_M_blockCanBe 2 (some .boolean) :: tb) ({ frames := 1, cells := 0, slots := 0, locals := 21 }) (pMC K D cI cJ cZ cB (wS60 cI cJ cZ cB p0 p1 p2 p3 p4 p5 p6 x0_4 x0_5 x0_6 x0_7 x0_8 x0_9 x0_10 x0_11 x0_12 x0_13 y1 y2 x3_0 x4_0 y5 y6) sz [.ref p0]) (va_Qi (fun r (_ : Unit) => ∃ z : Bool, r = bI z) (fun _ t => (va_P D classes (wS60 cI cJ cZ cB p0 p1 p2 p3 p4 p5 p6 x0_4 x0_5 x0_6 x0_7 x0_8 x0_9 x0_10 x0_11 x0_12 x0_13 y1 y2 x3_0 x4_0 y5 y6) t.heap ∧ va_D (va_A (wS60 cI cJ cZ cB p0 p1 p2 p3 p4 p5 p6 x0_4 x0_5 x0_6 x0_7 x0_8 x0_9 x0_10 x0_11 x0_12 x0_13 y1 y2 x3_0 x4_0 y5 y6) sz) (wS60 cI cJ cZ cB p0 p1 p2 p3 p4 p5 p6 x0_4 x0_5 x0_6 x0_7 x0_8 x0_9 x0_10 x0_11 x0_12 x0_13 y1 y2 x3_0 x4_0 y5 y6))) (va_A (wS60 cI cJ cZ cB p0 p1 p2 p3 p4 p5 p6 x0_4 x0_5 x0_6 x0_7 x0_8 x0_9 x0_10 x0_11 x0_12 x0_13 y1 y2 x3_0 x4_0 y5 y6) sz)) 0 0 (va_A (wS60 cI cJ cZ cB p0 p1 p2 p3 p4 p5 p6 x0_4 x0_5 x0_6 x0_7 x0_8 x0_9 x0_10 x0_11 x0_12 x0_13 y1 y2 x3_0 x4_0 y5 y6) sz) := by
  refine Met.ofW (cc := b_M_blockCanBe) (maxL := 2) (ret := (some .boolean)) (by decide) rfl ?_
  intro p e s m args below meth c s₁ B hml hv
  obtain ⟨rfl, hsz, hK, hP, hD0, hC⟩ := hv
  subst hsz
  have hD := hD0.self (sz := s.heap.size)
  generalize hAe : va_A (wS60 cI cJ cZ cB p0 p1 p2 p3 p4 p5 p6 x0_4 x0_5 x0_6 x0_7 x0_8 x0_9 x0_10 x0_11 x0_12 x0_13 y1 y2 x3_0 x4_0 y5 y6) s.heap.size = A at hD hC ⊢
  have hA : ∀ q : Nat, s.heap.size ≤ q → A q := fun q h => by rw [← hAe]; exact Or.inr h
  clear hAe hD0
  have hS : va_S A s.heap s.heap [] := va_S.rf
  have hx := B.exec
  have hb := B.bytes
  have hr := B.returns
  have hts := atoms_spec (ws := .code y_M_blockCanBe b_M_blockCanBe 2 (some .boolean) :: tb) B.pre
  have hk : ∀ w ∈ tb, w.before [.ref p0].toArray s = true := fun w h => hts w (List.mem_cons_of_mem _ h)
  have hown : s.vm.findClass "SignMachine$Machine" = some m.cls := findClass_of_methodNamed B.named
  have hlocks := B.notSynchronized
  have hl := lv_entry ([.ref p0]) (n := 2) (Nat.le_of_ble_eq_true rfl)
  rw [lg_entry_eq]
  generalize (lg_sl ([.ref p0]) ++ List.replicate (2 - (lg_sl ([.ref p0])).length) Slot.unset).toArray = ls at hl ⊢
  have hl : lv_has ls 2 [(0, .ref p0)] := hl
  refine lv_aload_n hx hb d_M_blockCanBe_0 rfl (lv_at hl 0 rfl) ?_
  refine va_get (D := D) (ci := 1) (v := .int x0_9) (C := "SignMachine$Machine") (T := F_M) (N := 14) hx hb hk fi_M hown hK.1 hP 0 rfl rfl 9 (by decide) (hk _ k_176) (fun _ h9 => h9) rfl d_M_blockCanBe_1 ?_
  refine lv_bipush (v := 35) hx hb d_M_blockCanBe_4 (by decide) ?_
  refine lv_icmp_lt (tgt := 18) hx hb d_M_blockCanBe_6 (by decide) (fun c1 => ?_) (fun c1 => ?_)
  · refine lv_iconst (v := 1) hx hb d_M_blockCanBe_18 (by decide) ?_
    exact W.zret (v := (1 : Int32)) hx hb hr rfl (fun t ht hW => ⟨⟨(1 : Int32), (), rfl, ⟨true, rfl⟩, ⟨by show va_P D classes _ t.heap; rw [ht]; exact hP, hD⟩⟩, hS.F ht⟩) hS.2.2 d_M_blockCanBe_19
  · refine lv_aload_n hx hb d_M_blockCanBe_9 rfl (lv_at hl 0 rfl) ?_
    refine va_get (D := D) (ci := 1) (v := .int x0_9) (C := "SignMachine$Machine") (T := F_M) (N := 14) hx hb hk fi_M hown hK.1 hP 0 rfl rfl 9 (by decide) (hk _ k_176) (fun _ h9 => h9) rfl d_M_blockCanBe_10 ?_
    refine lv_bipush (v := 37) hx hb d_M_blockCanBe_13 (by decide) ?_
    refine lv_icmp_le (tgt := 20) hx hb d_M_blockCanBe_15 (by decide) (fun c2 => ?_) (fun c2 => ?_)
    · refine lv_aload_n hx hb d_M_blockCanBe_20 rfl (lv_at hl 0 rfl) ?_
      refine lv_aload_n hx hb d_M_blockCanBe_21 rfl (lv_at hl 0 rfl) ?_
      refine va_get (D := D) (ci := 1) (v := .int x0_10) (C := "SignMachine$Machine") (T := F_M) (N := 14) hx hb hk fi_M hown hK.1 hP 0 rfl rfl 10 (by decide) (hk _ k_177) (fun _ h9 => h9) rfl d_M_blockCanBe_22 ?_
      refine sn_q (va_runV (C := "SignMachine$Machine") (As := [.int x0_10]) (rest := []) ⟨hx, hb, hml, hown, hk⟩ (c_M_unit_s7 l K D cI cJ cZ cB p0 p1 p2 p3 p4 p5 p6 s.heap.size x0_4 x0_5 x0_6 x0_7 x0_8 x0_9 x0_10 x0_11 x0_12 x0_13 y1 y2 x3_0 x4_0 y5 y6  x0_10 ) (v_M_unit_s7 hk k_337 ⟨Nat.le_of_ble_eq_true rfl, Nat.le_of_ble_eq_true rfl⟩) (pMC_v hK hP hD hC hS hA (ci := 1) (q0 := 0) rfl rfl rfl) rfl rfl hl.1 rfl (lv_room (Nat.le_of_ble_eq_true rfl)) d_M_blockCanBe_25 ⟨by decide, by decide⟩) hS hA hD (fun rz3 u t H locs hr0 ht hB hFr hS => ?_)
      obtain ⟨hP, hD⟩ := hB
      rw [ht] at hP
      have hD := dwk hD hFr
      clear ht hFr
      have hP : va_P D classes (wS60 cI cJ cZ cB p0 p1 p2 p3 p4 p5 p6 x0_4 x0_5 x0_6 x0_7 x0_8 x0_9 x0_10 x0_11 x0_12 x0_13 y1 y2 x3_0 x4_0 y5 y6) H := hP
      have hD : va_D A (wS60 cI cJ cZ cB p0 p1 p2 p3 p4 p5 p6 x0_4 x0_5 x0_6 x0_7 x0_8 x0_9 x0_10 x0_11 x0_12 x0_13 y1 y2 x3_0 x4_0 y5 y6) := hD
      rcases hr0 with hr0 | hr0
      · subst hr0
        refine W.eq (g2 := F0 m 28 ls [.ref p3]) rfl ?_
        refine va_getN (D := D) (ci := 2) (v := .int x3_0) (C := "SignMachine$Tape") (T := F_T) (N := 2) hx hb hk fi_T hown hK.1 hP 3 rfl rfl 0 (by decide) (va_Nw.use rfl (hK.2 _ n_155)) (fun _ h9 => h9) rfl d_M_blockCanBe_28 ?_
        refine lv_istore_n (lv' := [(1, .int x3_0), (0, .ref p0)]) hx hb d_M_blockCanBe_31 rfl hl (by decide) rfl (fun ls hl => ?_)
        refine lv_aload_n hx hb d_M_blockCanBe_32 rfl (lv_at hl 1 rfl) ?_
        refine va_get (D := D) (ci := 1) (v := .int x0_9) (C := "SignMachine$Machine") (T := F_M) (N := 14) hx hb hk fi_M hown hK.1 hP 0 rfl rfl 9 (by decide) (hk _ k_176) (fun _ h9 => h9) rfl d_M_blockCanBe_33 ?_
        refine lv_bipush (v := 35) hx hb d_M_blockCanBe_36 (by decide) ?_
        refine lv_icmp_eq (tgt := 53) hx hb d_M_blockCanBe_38 (by decide) (fun c4 => ?_) (fun c4 => ?_)
        · refine lv_aload_n hx hb d_M_blockCanBe_53 rfl (lv_at hl 1 rfl) ?_
          refine va_get (D := D) (ci := 1) (v := .int x0_12) (C := "SignMachine$Machine") (T := F_M) (N := 14) hx hb hk fi_M hown hK.1 hP 0 rfl rfl 12 (by decide) (hk _ k_179) (fun _ h9 => h9) rfl d_M_blockCanBe_54 ?_
          refine lv_if_eq (tgt := 80) hx hb d_M_blockCanBe_57 (by decide) (fun c5 => ?_) (fun c5 => ?_)
          · refine lv_iconst (v := 1) hx hb d_M_blockCanBe_80 (by decide) ?_
            refine lv_goto (tgt := 85) hx hb d_M_blockCanBe_81 (by decide) ?_
            exact W.zret (v := (1 : Int32)) hx hb hr rfl (fun t ht hW => ⟨⟨(1 : Int32), (), rfl, ⟨true, rfl⟩, ⟨by show va_P D classes _ t.heap; rw [ht]; exact hP, hD⟩⟩, hS.F ht⟩) hS.2.2 d_M_blockCanBe_85
          · refine lv_iload_n hx hb d_M_blockCanBe_60 rfl (lv_at hl 0 rfl) ?_
            refine lv_aload_n hx hb d_M_blockCanBe_61 rfl (lv_at hl 1 rfl) ?_
            refine va_get (D := D) (ci := 1) (v := .int x0_12) (C := "SignMachine$Machine") (T := F_M) (N := 14) hx hb hk fi_M hown hK.1 hP 0 rfl rfl 12 (by decide) (hk _ k_179) (fun _ h9 => h9) rfl d_M_blockCanBe_62 ?_
            refine lv_iadd hx hb d_M_blockCanBe_65 ?_
            refine lv_topi (fun v6 hv6 => ?_)
            refine lv_if_lt (tgt := 84) hx hb d_M_blockCanBe_66 (by decide) (fun c7 => ?_) (fun c7 => ?_)
            · refine lv_iconst (v := 0) hx hb d_M_blockCanBe_84 (by decide) ?_
              exact W.zret (v := (0 : Int32)) hx hb hr rfl (fun t ht hW => ⟨⟨(0 : Int32), (), rfl, ⟨false, rfl⟩, ⟨by show va_P D classes _ t.heap; rw [ht]; exact hP, hD⟩⟩, hS.F ht⟩) hS.2.2 d_M_blockCanBe_85
            · refine lv_iload_n hx hb d_M_blockCanBe_69 rfl (lv_at hl 0 rfl) ?_
              refine lv_aload_n hx hb d_M_blockCanBe_70 rfl (lv_at hl 1 rfl) ?_
              refine va_get (D := D) (ci := 1) (v := .int x0_12) (C := "SignMachine$Machine") (T := F_M) (N := 14) hx hb hk fi_M hown hK.1 hP 0 rfl rfl 12 (by decide) (hk _ k_179) (fun _ h9 => h9) rfl d_M_blockCanBe_71 ?_
              refine lv_iadd hx hb d_M_blockCanBe_74 ?_
              refine lv_topi (fun v8 hv8 => ?_)
              refine lv_bipush (v := 40) hx hb d_M_blockCanBe_75 (by decide) ?_
              refine lv_icmp_gt (tgt := 84) hx hb d_M_blockCanBe_77 (by decide) (fun c9 => ?_) (fun c9 => ?_)
              · refine lv_iconst (v := 0) hx hb d_M_blockCanBe_84 (by decide) ?_
                exact W.zret (v := (0 : Int32)) hx hb hr rfl (fun t ht hW => ⟨⟨(0 : Int32), (), rfl, ⟨false, rfl⟩, ⟨by show va_P D classes _ t.heap; rw [ht]; exact hP, hD⟩⟩, hS.F ht⟩) hS.2.2 d_M_blockCanBe_85
              · refine lv_iconst (v := 1) hx hb d_M_blockCanBe_80 (by decide) ?_
                refine lv_goto (tgt := 85) hx hb d_M_blockCanBe_81 (by decide) ?_
                exact W.zret (v := (1 : Int32)) hx hb hr rfl (fun t ht hW => ⟨⟨(1 : Int32), (), rfl, ⟨true, rfl⟩, ⟨by show va_P D classes _ t.heap; rw [ht]; exact hP, hD⟩⟩, hS.F ht⟩) hS.2.2 d_M_blockCanBe_85
        · refine lv_iload_n hx hb d_M_blockCanBe_41 rfl (lv_at hl 0 rfl) ?_
          refine lv_bipush (v := 40) hx hb d_M_blockCanBe_42 (by decide) ?_
          refine lv_icmp_ge (tgt := 51) hx hb d_M_blockCanBe_44 (by decide) (fun c10 => ?_) (fun c10 => ?_)
          · refine lv_iconst (v := 0) hx hb d_M_blockCanBe_51 (by decide) ?_
            exact W.zret (v := (0 : Int32)) hx hb hr rfl (fun t ht hW => ⟨⟨(0 : Int32), (), rfl, ⟨false, rfl⟩, ⟨by show va_P D classes _ t.heap; rw [ht]; exact hP, hD⟩⟩, hS.F ht⟩) hS.2.2 d_M_blockCanBe_52
          · refine lv_iconst (v := 1) hx hb d_M_blockCanBe_47 (by decide) ?_
            refine lv_goto (tgt := 52) hx hb d_M_blockCanBe_48 (by decide) ?_
            exact W.zret (v := (1 : Int32)) hx hb hr rfl (fun t ht hW => ⟨⟨(1 : Int32), (), rfl, ⟨true, rfl⟩, ⟨by show va_P D classes _ t.heap; rw [ht]; exact hP, hD⟩⟩, hS.F ht⟩) hS.2.2 d_M_blockCanBe_52
      · subst hr0
        refine W.eq (g2 := F0 m 28 ls [.ref p4]) rfl ?_
        refine va_getN (D := D) (ci := 2) (v := .int x4_0) (C := "SignMachine$Tape") (T := F_T) (N := 2) hx hb hk fi_T hown hK.1 hP 4 rfl rfl 0 (by decide) (va_Nw.use rfl (hK.2 _ n_155)) (fun _ h9 => h9) rfl d_M_blockCanBe_28 ?_
        refine lv_istore_n (lv' := [(1, .int x4_0), (0, .ref p0)]) hx hb d_M_blockCanBe_31 rfl hl (by decide) rfl (fun ls hl => ?_)
        refine lv_aload_n hx hb d_M_blockCanBe_32 rfl (lv_at hl 1 rfl) ?_
        refine va_get (D := D) (ci := 1) (v := .int x0_9) (C := "SignMachine$Machine") (T := F_M) (N := 14) hx hb hk fi_M hown hK.1 hP 0 rfl rfl 9 (by decide) (hk _ k_176) (fun _ h9 => h9) rfl d_M_blockCanBe_33 ?_
        refine lv_bipush (v := 35) hx hb d_M_blockCanBe_36 (by decide) ?_
        refine lv_icmp_eq (tgt := 53) hx hb d_M_blockCanBe_38 (by decide) (fun c11 => ?_) (fun c11 => ?_)
        · refine lv_aload_n hx hb d_M_blockCanBe_53 rfl (lv_at hl 1 rfl) ?_
          refine va_get (D := D) (ci := 1) (v := .int x0_12) (C := "SignMachine$Machine") (T := F_M) (N := 14) hx hb hk fi_M hown hK.1 hP 0 rfl rfl 12 (by decide) (hk _ k_179) (fun _ h9 => h9) rfl d_M_blockCanBe_54 ?_
          refine lv_if_eq (tgt := 80) hx hb d_M_blockCanBe_57 (by decide) (fun c12 => ?_) (fun c12 => ?_)
          · refine lv_iconst (v := 1) hx hb d_M_blockCanBe_80 (by decide) ?_
            refine lv_goto (tgt := 85) hx hb d_M_blockCanBe_81 (by decide) ?_
            exact W.zret (v := (1 : Int32)) hx hb hr rfl (fun t ht hW => ⟨⟨(1 : Int32), (), rfl, ⟨true, rfl⟩, ⟨by show va_P D classes _ t.heap; rw [ht]; exact hP, hD⟩⟩, hS.F ht⟩) hS.2.2 d_M_blockCanBe_85
          · refine lv_iload_n hx hb d_M_blockCanBe_60 rfl (lv_at hl 0 rfl) ?_
            refine lv_aload_n hx hb d_M_blockCanBe_61 rfl (lv_at hl 1 rfl) ?_
            refine va_get (D := D) (ci := 1) (v := .int x0_12) (C := "SignMachine$Machine") (T := F_M) (N := 14) hx hb hk fi_M hown hK.1 hP 0 rfl rfl 12 (by decide) (hk _ k_179) (fun _ h9 => h9) rfl d_M_blockCanBe_62 ?_
            refine lv_iadd hx hb d_M_blockCanBe_65 ?_
            refine lv_topi (fun v13 hv13 => ?_)
            refine lv_if_lt (tgt := 84) hx hb d_M_blockCanBe_66 (by decide) (fun c14 => ?_) (fun c14 => ?_)
            · refine lv_iconst (v := 0) hx hb d_M_blockCanBe_84 (by decide) ?_
              exact W.zret (v := (0 : Int32)) hx hb hr rfl (fun t ht hW => ⟨⟨(0 : Int32), (), rfl, ⟨false, rfl⟩, ⟨by show va_P D classes _ t.heap; rw [ht]; exact hP, hD⟩⟩, hS.F ht⟩) hS.2.2 d_M_blockCanBe_85
            · refine lv_iload_n hx hb d_M_blockCanBe_69 rfl (lv_at hl 0 rfl) ?_
              refine lv_aload_n hx hb d_M_blockCanBe_70 rfl (lv_at hl 1 rfl) ?_
              refine va_get (D := D) (ci := 1) (v := .int x0_12) (C := "SignMachine$Machine") (T := F_M) (N := 14) hx hb hk fi_M hown hK.1 hP 0 rfl rfl 12 (by decide) (hk _ k_179) (fun _ h9 => h9) rfl d_M_blockCanBe_71 ?_
              refine lv_iadd hx hb d_M_blockCanBe_74 ?_
              refine lv_topi (fun v15 hv15 => ?_)
              refine lv_bipush (v := 40) hx hb d_M_blockCanBe_75 (by decide) ?_
              refine lv_icmp_gt (tgt := 84) hx hb d_M_blockCanBe_77 (by decide) (fun c16 => ?_) (fun c16 => ?_)
              · refine lv_iconst (v := 0) hx hb d_M_blockCanBe_84 (by decide) ?_
                exact W.zret (v := (0 : Int32)) hx hb hr rfl (fun t ht hW => ⟨⟨(0 : Int32), (), rfl, ⟨false, rfl⟩, ⟨by show va_P D classes _ t.heap; rw [ht]; exact hP, hD⟩⟩, hS.F ht⟩) hS.2.2 d_M_blockCanBe_85
              · refine lv_iconst (v := 1) hx hb d_M_blockCanBe_80 (by decide) ?_
                refine lv_goto (tgt := 85) hx hb d_M_blockCanBe_81 (by decide) ?_
                exact W.zret (v := (1 : Int32)) hx hb hr rfl (fun t ht hW => ⟨⟨(1 : Int32), (), rfl, ⟨true, rfl⟩, ⟨by show va_P D classes _ t.heap; rw [ht]; exact hP, hD⟩⟩, hS.F ht⟩) hS.2.2 d_M_blockCanBe_85
        · refine lv_iload_n hx hb d_M_blockCanBe_41 rfl (lv_at hl 0 rfl) ?_
          refine lv_bipush (v := 40) hx hb d_M_blockCanBe_42 (by decide) ?_
          refine lv_icmp_ge (tgt := 51) hx hb d_M_blockCanBe_44 (by decide) (fun c17 => ?_) (fun c17 => ?_)
          · refine lv_iconst (v := 0) hx hb d_M_blockCanBe_51 (by decide) ?_
            exact W.zret (v := (0 : Int32)) hx hb hr rfl (fun t ht hW => ⟨⟨(0 : Int32), (), rfl, ⟨false, rfl⟩, ⟨by show va_P D classes _ t.heap; rw [ht]; exact hP, hD⟩⟩, hS.F ht⟩) hS.2.2 d_M_blockCanBe_52
          · refine lv_iconst (v := 1) hx hb d_M_blockCanBe_47 (by decide) ?_
            refine lv_goto (tgt := 52) hx hb d_M_blockCanBe_48 (by decide) ?_
            exact W.zret (v := (1 : Int32)) hx hb hr rfl (fun t ht hW => ⟨⟨(1 : Int32), (), rfl, ⟨true, rfl⟩, ⟨by show va_P D classes _ t.heap; rw [ht]; exact hP, hD⟩⟩, hS.F ht⟩) hS.2.2 d_M_blockCanBe_52
    · refine lv_iconst (v := 1) hx hb d_M_blockCanBe_18 (by decide) ?_
      exact W.zret (v := (1 : Int32)) hx hb hr rfl (fun t ht hW => ⟨⟨(1 : Int32), (), rfl, ⟨true, rfl⟩, ⟨by show va_P D classes _ t.heap; rw [ht]; exact hP, hD⟩⟩, hS.F ht⟩) hS.2.2 d_M_blockCanBe_19
theorem v_M_blockCanBe_s3 {R : Room} {s : State} {args : Array Value} {own : String} {index : Nat} (hk : ∀ w ∈ tb, w.before args s = true) (hl : Cond.methodLink own index y_M_blockCanBe ∈ tb) (hR : 1 + 1 ≤ R.frames ∧ 8 + (2 + 11) + 21 ≤ R.locals) : CallW R s args own "SignMachine$Machine" index y_M_blockCanBe b_M_blockCanBe 2 (some .boolean) (.code y_M_blockCanBe b_M_blockCanBe 2 (some .boolean) :: tb) ({ frames := 1, cells := 0, slots := 0, locals := 21 }) 0 0 0 := mk_v 0 hk k_336 hl k_335 k_9 k_117 rfl rfl h_M_blockCanBe hR
set_option maxHeartbeats 4000000 in
set_option maxRecDepth 100000 in
theorem c_M_reasonAgainst_s3 (l : Launch) (K : CK) (D : va_G) (cI cJ cZ cB : ClassId) (p0 p1 p2 p3 p4 p5 p6 : Nat) (sz : Nat) (x0_4 : Bool) (x0_5 : Int32) (x0_6 : Int32) (x0_7 : Int32) (x0_8 : Int32) (x0_9 : Int32) (x0_10 : Int32) (x0_11 : Int32) (x0_12 : Int32) (x0_13 : Int32) (y1 : Nat → Int32) (y2 : Nat → Int32) (x3_0 : Int32) (x4_0 : Int32) (y5 : Nat → Int32) (y6 : Nat → Int32)   : Met l y_M_reasonAgainst (.code y_M_reasonAgainst b_M_reasonAgainst 1 (some .int) :: tb) ({ frames := 4, cells := 0, slots := 0, locals := 85 }) (pMC K D cI cJ cZ cB (wS60 cI cJ cZ cB p0 p1 p2 p3 p4 p5 p6 x0_4 x0_5 x0_6 x0_7 x0_8 x0_9 x0_10 x0_11 x0_12 x0_13 y1 y2 x3_0 x4_0 y5 y6) sz [.ref p0]) (va_Qi (fun r (_ : Unit) => True) (fun _ t => (va_P D classes (wS60 cI cJ cZ cB p0 p1 p2 p3 p4 p5 p6 x0_4 x0_5 x0_6 x0_7 x0_8 x0_9 x0_10 x0_11 x0_12 x0_13 y1 y2 x3_0 x4_0 y5 y6) t.heap ∧ va_D (va_A (wS60 cI cJ cZ cB p0 p1 p2 p3 p4 p5 p6 x0_4 x0_5 x0_6 x0_7 x0_8 x0_9 x0_10 x0_11 x0_12 x0_13 y1 y2 x3_0 x4_0 y5 y6) sz) (wS60 cI cJ cZ cB p0 p1 p2 p3 p4 p5 p6 x0_4 x0_5 x0_6 x0_7 x0_8 x0_9 x0_10 x0_11 x0_12 x0_13 y1 y2 x3_0 x4_0 y5 y6))) (va_A (wS60 cI cJ cZ cB p0 p1 p2 p3 p4 p5 p6 x0_4 x0_5 x0_6 x0_7 x0_8 x0_9 x0_10 x0_11 x0_12 x0_13 y1 y2 x3_0 x4_0 y5 y6) sz)) 0 0 (va_A (wS60 cI cJ cZ cB p0 p1 p2 p3 p4 p5 p6 x0_4 x0_5 x0_6 x0_7 x0_8 x0_9 x0_10 x0_11 x0_12 x0_13 y1 y2 x3_0 x4_0 y5 y6) sz) := by
  refine Met.ofW (cc := b_M_reasonAgainst) (maxL := 1) (ret := (some .int)) (by decide) rfl ?_
  intro p e s m args below meth c s₁ B hml hv
  obtain ⟨rfl, hsz, hK, hP, hD0, hC⟩ := hv
  subst hsz
  have hD := hD0.self (sz := s.heap.size)
  generalize hAe : va_A (wS60 cI cJ cZ cB p0 p1 p2 p3 p4 p5 p6 x0_4 x0_5 x0_6 x0_7 x0_8 x0_9 x0_10 x0_11 x0_12 x0_13 y1 y2 x3_0 x4_0 y5 y6) s.heap.size = A at hD hC ⊢
  have hA : ∀ q : Nat, s.heap.size ≤ q → A q := fun q h => by rw [← hAe]; exact Or.inr h
  clear hAe hD0
  have hS : va_S A s.heap s.heap [] := va_S.rf
  have hx := B.exec
  have hb := B.bytes
  have hr := B.returns
  have hts := atoms_spec (ws := .code y_M_reasonAgainst b_M_reasonAgainst 1 (some .int) :: tb) B.pre
  have hk : ∀ w ∈ tb, w.before [.ref p0].toArray s = true := fun w h => hts w (List.mem_cons_of_mem _ h)
  have hown : s.vm.findClass "SignMachine$Machine" = some m.cls := findClass_of_methodNamed B.named
  have hlocks := B.notSynchronized
  have hl := lv_entry ([.ref p0]) (n := 1) (Nat.le_of_ble_eq_true rfl)
  rw [lg_entry_eq]
  generalize (lg_sl ([.ref p0]) ++ List.replicate (1 - (lg_sl ([.ref p0])).length) Slot.unset).toArray = ls at hl ⊢
  have hl : lv_has ls 1 [(0, .ref p0)] := hl
  refine lv_aload_n hx hb d_M_reasonAgainst_0 rfl (lv_at hl 0 rfl) ?_
  refine sn_i (va_runV (C := "SignMachine$Machine") (As := []) (rest := []) ⟨hx, hb, hml, hown, hk⟩ (c_M_shapeCanBe_s3 l K D cI cJ cZ cB p0 p1 p2 p3 p4 p5 p6 s.heap.size x0_4 x0_5 x0_6 x0_7 x0_8 x0_9 x0_10 x0_11 x0_12 x0_13 y1 y2 x3_0 x4_0 y5 y6   ) (v_M_shapeCanBe_s3 hk k_284 ⟨Nat.le_of_ble_eq_true rfl, Nat.le_of_ble_eq_true rfl⟩) (pMC_v hK hP hD hC hS hA (ci := 1) (q0 := 0) rfl rfl rfl) rfl rfl hl.1 rfl (lv_room (Nat.le_of_ble_eq_true rfl)) d_M_reasonAgainst_1 ⟨by decide, by decide⟩) hS hA hD (fun rz1 u t H locs hr0 ht hB hFr hS => ?_)
  obtain ⟨z1, hz1⟩ := hr0
  subst hz1
  obtain ⟨hP, hD⟩ := hB
  rw [ht] at hP
  have hD := dwk hD hFr
  clear ht hFr
  have hP : va_P D classes (wS60 cI cJ cZ cB p0 p1 p2 p3 p4 p5 p6 x0_4 x0_5 x0_6 x0_7 x0_8 x0_9 x0_10 x0_11 x0_12 x0_13 y1 y2 x3_0 x4_0 y5 y6) H := hP
  have hD : va_D A (wS60 cI cJ cZ cB p0 p1 p2 p3 p4 p5 p6 x0_4 x0_5 x0_6 x0_7 x0_8 x0_9 x0_10 x0_11 x0_12 x0_13 y1 y2 x3_0 x4_0 y5 y6) := hD
  refine lv_if_ne (tgt := 9) hx hb d_M_reasonAgainst_4 (by decide) (fun c2 => ?_) (fun c2 => ?_)
  · refine lv_aload_n hx hb d_M_reasonAgainst_9 rfl (lv_at hl 0 rfl) ?_
    refine sn_i (va_runV (C := "SignMachine$Machine") (As := []) (rest := []) ⟨hx, hb, hml, hown, hk⟩ (c_M_addressCanBe_s3 l K D cI cJ cZ cB p0 p1 p2 p3 p4 p5 p6 H.size x0_4 x0_5 x0_6 x0_7 x0_8 x0_9 x0_10 x0_11 x0_12 x0_13 y1 y2 x3_0 x4_0 y5 y6   ) (v_M_addressCanBe_s3 hk k_295 ⟨Nat.le_of_ble_eq_true rfl, Nat.le_of_ble_eq_true rfl⟩) (pMC_v hK hP hD hC hS hA (ci := 1) (q0 := 0) rfl rfl rfl) rfl rfl hl.1 rfl (lv_room (Nat.le_of_ble_eq_true rfl)) d_M_reasonAgainst_10 ⟨by decide, by decide⟩) hS hA hD (fun rz3 u t H locs hr0 ht hB hFr hS => ?_)
    obtain ⟨z3, hz3⟩ := hr0
    subst hz3
    obtain ⟨hP, hD⟩ := hB
    rw [ht] at hP
    have hD := dwk hD hFr
    clear ht hFr
    have hP : va_P D classes (wS60 cI cJ cZ cB p0 p1 p2 p3 p4 p5 p6 x0_4 x0_5 x0_6 x0_7 x0_8 x0_9 x0_10 x0_11 x0_12 x0_13 y1 y2 x3_0 x4_0 y5 y6) H := hP
    have hD : va_D A (wS60 cI cJ cZ cB p0 p1 p2 p3 p4 p5 p6 x0_4 x0_5 x0_6 x0_7 x0_8 x0_9 x0_10 x0_11 x0_12 x0_13 y1 y2 x3_0 x4_0 y5 y6) := hD
    refine lv_if_ne (tgt := 18) hx hb d_M_reasonAgainst_13 (by decide) (fun c4 => ?_) (fun c4 => ?_)
    · refine lv_aload_n hx hb d_M_reasonAgainst_18 rfl (lv_at hl 0 rfl) ?_
      refine sn_i (va_runV (C := "SignMachine$Machine") (As := []) (rest := []) ⟨hx, hb, hml, hown, hk⟩ (c_M_indexCanBe_s3 l K D cI cJ cZ cB p0 p1 p2 p3 p4 p5 p6 H.size x0_4 x0_5 x0_6 x0_7 x0_8 x0_9 x0_10 x0_11 x0_12 x0_13 y1 y2 x3_0 x4_0 y5 y6   ) (v_M_indexCanBe_s3 hk k_306 ⟨Nat.le_of_ble_eq_true rfl, Nat.le_of_ble_eq_true rfl⟩) (pMC_v hK hP hD hC hS hA (ci := 1) (q0 := 0) rfl rfl rfl) rfl rfl hl.1 rfl (lv_room (Nat.le_of_ble_eq_true rfl)) d_M_reasonAgainst_19 ⟨by decide, by decide⟩) hS hA hD (fun rz5 u t H locs hr0 ht hB hFr hS => ?_)
      obtain ⟨z5, hz5⟩ := hr0
      subst hz5
      obtain ⟨hP, hD⟩ := hB
      rw [ht] at hP
      have hD := dwk hD hFr
      clear ht hFr
      have hP : va_P D classes (wS60 cI cJ cZ cB p0 p1 p2 p3 p4 p5 p6 x0_4 x0_5 x0_6 x0_7 x0_8 x0_9 x0_10 x0_11 x0_12 x0_13 y1 y2 x3_0 x4_0 y5 y6) H := hP
      have hD : va_D A (wS60 cI cJ cZ cB p0 p1 p2 p3 p4 p5 p6 x0_4 x0_5 x0_6 x0_7 x0_8 x0_9 x0_10 x0_11 x0_12 x0_13 y1 y2 x3_0 x4_0 y5 y6) := hD
      refine lv_if_ne (tgt := 27) hx hb d_M_reasonAgainst_22 (by decide) (fun c6 => ?_) (fun c6 => ?_)
      · refine lv_aload_n hx hb d_M_reasonAgainst_27 rfl (lv_at hl 0 rfl) ?_
        refine sn_i (va_runV (C := "SignMachine$Machine") (As := []) (rest := []) ⟨hx, hb, hml, hown, hk⟩ (c_M_blockCanBe_s3 l K D cI cJ cZ cB p0 p1 p2 p3 p4 p5 p6 H.size x0_4 x0_5 x0_6 x0_7 x0_8 x0_9 x0_10 x0_11 x0_12 x0_13 y1 y2 x3_0 x4_0 y5 y6   ) (v_M_blockCanBe_s3 hk k_333 ⟨Nat.le_of_ble_eq_true rfl, Nat.le_of_ble_eq_true rfl⟩) (pMC_v hK hP hD hC hS hA (ci := 1) (q0 := 0) rfl rfl rfl) rfl rfl hl.1 rfl (lv_room (Nat.le_of_ble_eq_true rfl)) d_M_reasonAgainst_28 ⟨by decide, by decide⟩) hS hA hD (fun rz7 u t H locs hr0 ht hB hFr hS => ?_)
        obtain ⟨z7, hz7⟩ := hr0
        subst hz7
        obtain ⟨hP, hD⟩ := hB
        rw [ht] at hP
        have hD := dwk hD hFr
        clear ht hFr
        have hP : va_P D classes (wS60 cI cJ cZ cB p0 p1 p2 p3 p4 p5 p6 x0_4 x0_5 x0_6 x0_7 x0_8 x0_9 x0_10 x0_11 x0_12 x0_13 y1 y2 x3_0 x4_0 y5 y6) H := hP
        have hD : va_D A (wS60 cI cJ cZ cB p0 p1 p2 p3 p4 p5 p6 x0_4 x0_5 x0_6 x0_7 x0_8 x0_9 x0_10 x0_11 x0_12 x0_13 y1 y2 x3_0 x4_0 y5 y6) := hD
        refine lv_if_eq (tgt := 38) hx hb d_M_reasonAgainst_31 (by decide) (fun c8 => ?_) (fun c8 => ?_)
        · refine lv_iconst (v := 5) hx hb d_M_reasonAgainst_38 (by decide) ?_
          exact W.iret (v := (5 : Int32)) hx hb hr (fun t ht hW => ⟨⟨(5 : Int32), (), rfl, trivial, ⟨by show va_P D classes _ t.heap; rw [ht]; exact hP, hD⟩⟩, hS.F ht⟩) hS.2.2 d_M_reasonAgainst_39
        · refine lv_iconst (v := 0) hx hb d_M_reasonAgainst_34 (by decide) ?_
          refine lv_goto (tgt := 39) hx hb d_M_reasonAgainst_35 (by decide) ?_
          exact W.iret (v := (0 : Int32)) hx hb hr (fun t ht hW => ⟨⟨(0 : Int32), (), rfl, trivial, ⟨by show va_P D classes _ t.heap; rw [ht]; exact hP, hD⟩⟩, hS.F ht⟩) hS.2.2 d_M_reasonAgainst_39
      · refine lv_iconst (v := 4) hx hb d_M_reasonAgainst_25 (by decide) ?_
        exact W.iret (v := (4 : Int32)) hx hb hr (fun t ht hW => ⟨⟨(4 : Int32), (), rfl, trivial, ⟨by show va_P D classes _ t.heap; rw [ht]; exact hP, hD⟩⟩, hS.F ht⟩) hS.2.2 d_M_reasonAgainst_26
    · refine lv_iconst (v := 3) hx hb d_M_reasonAgainst_16 (by decide) ?_
      exact W.iret (v := (3 : Int32)) hx hb hr (fun t ht hW => ⟨⟨(3 : Int32), (), rfl, trivial, ⟨by show va_P D classes _ t.heap; rw [ht]; exact hP, hD⟩⟩, hS.F ht⟩) hS.2.2 d_M_reasonAgainst_17
  · refine lv_iconst (v := 2) hx hb d_M_reasonAgainst_7 (by decide) ?_
    exact W.iret (v := (2 : Int32)) hx hb hr (fun t ht hW => ⟨⟨(2 : Int32), (), rfl, trivial, ⟨by show va_P D classes _ t.heap; rw [ht]; exact hP, hD⟩⟩, hS.F ht⟩) hS.2.2 d_M_reasonAgainst_8
theorem v_M_reasonAgainst_s3 {R : Room} {s : State} {args : Array Value} {own : String} {index : Nat} (hk : ∀ w ∈ tb, w.before args s = true) (hl : Cond.methodLink own index y_M_reasonAgainst ∈ tb) (hR : 4 + 1 ≤ R.frames ∧ 8 + (1 + 11) + 85 ≤ R.locals) : CallW R s args own "SignMachine$Machine" index y_M_reasonAgainst b_M_reasonAgainst 1 (some .int) (.code y_M_reasonAgainst b_M_reasonAgainst 1 (some .int) :: tb) ({ frames := 4, cells := 0, slots := 0, locals := 85 }) 0 0 0 := mk_v 0 hk k_283 hl k_282 k_1 k_117 rfl rfl h_M_reasonAgainst hR
set_option maxHeartbeats 4000000 in
set_option maxRecDepth 100000 in
theorem c_M_duration_s3 (l : Launch) (K : CK) (D : va_G) (cI cJ cZ cB : ClassId) (p0 p1 p2 p3 p4 p5 p6 : Nat) (sz : Nat) (x0_4 : Bool) (x0_5 : Int32) (x0_6 : Int32) (x0_7 : Int32) (x0_8 : Int32) (x0_9 : Int32) (x0_10 : Int32) (x0_11 : Int32) (x0_12 : Int32) (x0_13 : Int32) (y1 : Nat → Int32) (y2 : Nat → Int32) (x3_0 : Int32) (x4_0 : Int32) (y5 : Nat → Int32) (y6 : Nat → Int32)   : Met l y_M_duration (.code y_M_duration b_M_duration 1 (some .int) :: tb) ({ frames := 1, cells := 0, slots := 0, locals := 20 }) (pMC K D cI cJ cZ cB (wS60 cI cJ cZ cB p0 p1 p2 p3 p4 p5 p6 x0_4 x0_5 x0_6 x0_7 x0_8 x0_9 x0_10 x0_11 x0_12 x0_13 y1 y2 x3_0 x4_0 y5 y6) sz [.ref p0]) (va_Qi (fun r (_ : Unit) => True) (fun _ t => (va_P D classes (wS60 cI cJ cZ cB p0 p1 p2 p3 p4 p5 p6 x0_4 x0_5 x0_6 x0_7 x0_8 x0_9 x0_10 x0_11 x0_12 x0_13 y1 y2 x3_0 x4_0 y5 y6) t.heap ∧ va_D (va_A (wS60 cI cJ cZ cB p0 p1 p2 p3 p4 p5 p6 x0_4 x0_5 x0_6 x0_7 x0_8 x0_9 x0_10 x0_11 x0_12 x0_13 y1 y2 x3_0 x4_0 y5 y6) sz) (wS60 cI cJ cZ cB p0 p1 p2 p3 p4 p5 p6 x0_4 x0_5 x0_6 x0_7 x0_8 x0_9 x0_10 x0_11 x0_12 x0_13 y1 y2 x3_0 x4_0 y5 y6))) (va_A (wS60 cI cJ cZ cB p0 p1 p2 p3 p4 p5 p6 x0_4 x0_5 x0_6 x0_7 x0_8 x0_9 x0_10 x0_11 x0_12 x0_13 y1 y2 x3_0 x4_0 y5 y6) sz)) 0 0 (va_A (wS60 cI cJ cZ cB p0 p1 p2 p3 p4 p5 p6 x0_4 x0_5 x0_6 x0_7 x0_8 x0_9 x0_10 x0_11 x0_12 x0_13 y1 y2 x3_0 x4_0 y5 y6) sz) := by
  refine Met.ofW (cc := b_M_duration) (maxL := 1) (ret := (some .int)) (by decide) rfl ?_
  intro p e s m args below meth c s₁ B hml hv
  obtain ⟨rfl, hsz, hK, hP, hD0, hC⟩ := hv
  subst hsz
  have hD := hD0.self (sz := s.heap.size)
  generalize hAe : va_A (wS60 cI cJ cZ cB p0 p1 p2 p3 p4 p5 p6 x0_4 x0_5 x0_6 x0_7 x0_8 x0_9 x0_10 x0_11 x0_12 x0_13 y1 y2 x3_0 x4_0 y5 y6) s.heap.size = A at hD hC ⊢
  have hA : ∀ q : Nat, s.heap.size ≤ q → A q := fun q h => by rw [← hAe]; exact Or.inr h
  clear hAe hD0
  have hS : va_S A s.heap s.heap [] := va_S.rf
  have hx := B.exec
  have hb := B.bytes
  have hr := B.returns
  have hts := atoms_spec (ws := .code y_M_duration b_M_duration 1 (some .int) :: tb) B.pre
  have hk : ∀ w ∈ tb, w.before [.ref p0].toArray s = true := fun w h => hts w (List.mem_cons_of_mem _ h)
  have hown : s.vm.findClass "SignMachine$Machine" = some m.cls := findClass_of_methodNamed B.named
  have hlocks := B.notSynchronized
  have hl := lv_entry ([.ref p0]) (n := 1) (Nat.le_of_ble_eq_true rfl)
  rw [lg_entry_eq]
  generalize (lg_sl ([.ref p0]) ++ List.replicate (1 - (lg_sl ([.ref p0])).length) Slot.unset).toArray = ls at hl ⊢
  have hl : lv_has ls 1 [(0, .ref p0)] := hl
  refine lv_aload_n hx hb d_M_duration_0 rfl (lv_at hl 0 rfl) ?_
  refine sn_i (va_runV (C := "SignMachine$Machine") (As := []) (rest := []) ⟨hx, hb, hml, hown, hk⟩ (c_M_hasFieldOfWord_s3 l K D cI cJ cZ cB p0 p1 p2 p3 p4 p5 p6 s.heap.size x0_4 x0_5 x0_6 x0_7 x0_8 x0_9 x0_10 x0_11 x0_12 x0_13 y1 y2 x3_0 x4_0 y5 y6   ) (v_M_hasFieldOfWord_s3 hk k_288 ⟨Nat.le_of_ble_eq_true rfl, Nat.le_of_ble_eq_true rfl⟩) (pMC_v hK hP hD hC hS hA (ci := 1) (q0 := 0) rfl rfl rfl) rfl rfl hl.1 rfl (lv_room (Nat.le_of_ble_eq_true rfl)) d_M_duration_1 ⟨by decide, by decide⟩) hS hA hD (fun rz1 u t H locs hr0 ht hB hFr hS => ?_)
  obtain ⟨z1, hz1⟩ := hr0
  subst hz1
  obtain ⟨hP, hD⟩ := hB
  rw [ht] at hP
  have hD := dwk hD hFr
  clear ht hFr
  have hP : va_P D classes (wS60 cI cJ cZ cB p0 p1 p2 p3 p4 p5 p6 x0_4 x0_5 x0_6 x0_7 x0_8 x0_9 x0_10 x0_11 x0_12 x0_13 y1 y2 x3_0 x4_0 y5 y6) H := hP
  have hD : va_D A (wS60 cI cJ cZ cB p0 p1 p2 p3 p4 p5 p6 x0_4 x0_5 x0_6 x0_7 x0_8 x0_9 x0_10 x0_11 x0_12 x0_13 y1 y2 x3_0 x4_0 y5 y6) := hD
  refine lv_if_eq (tgt := 35) hx hb d_M_duration_4 (by decide) (fun c2 => ?_) (fun c2 => ?_)
  · refine lv_aload_n hx hb d_M_duration_35 rfl (lv_at hl 0 rfl) ?_
    refine va_get (D := D) (ci := 1) (v := .int x0_9) (C := "SignMachine$Machine") (T := F_M) (N := 14) hx hb hk fi_M hown hK.1 hP 0 rfl rfl 9 (by decide) (hk _ k_176) (fun _ h9 => h9) rfl d_M_duration_36 ?_
    by_cases c3 : x0_9 = (5 : Int32)
    · refine lv_tableIn (off := 25) (tgt := 64) hx hb d_M_duration_39 (by rw [c3]; decide) (by rw [c3]; decide) (by rw [c3]; rfl) (by decide) ?_
      refine lv_bipush (v := 10) hx hb d_M_duration_64 (by decide) ?_
      exact W.iret (v := (10 : Int32)) hx hb hr (fun t ht hW => ⟨⟨(10 : Int32), (), rfl, trivial, ⟨by show va_P D classes _ t.heap; rw [ht]; exact hP, hD⟩⟩, hS.F ht⟩) hS.2.2 d_M_duration_66
    · by_cases c4 : x0_9 = (6 : Int32)
      · refine lv_tableIn (off := 28) (tgt := 67) hx hb d_M_duration_39 (by rw [c4]; decide) (by rw [c4]; decide) (by rw [c4]; rfl) (by decide) ?_
        refine lv_iconst (v := 2) hx hb d_M_duration_67 (by decide) ?_
        exact W.iret (v := (2 : Int32)) hx hb hr (fun t ht hW => ⟨⟨(2 : Int32), (), rfl, trivial, ⟨by show va_P D classes _ t.heap; rw [ht]; exact hP, hD⟩⟩, hS.F ht⟩) hS.2.2 d_M_duration_68
      · by_cases c5 : x0_9 = (7 : Int32)
        · refine lv_tableIn (off := 30) (tgt := 69) hx hb d_M_duration_39 (by rw [c5]; decide) (by rw [c5]; decide) (by rw [c5]; rfl) (by decide) ?_
          refine lv_iconst (v := 1) hx hb d_M_duration_69 (by decide) ?_
          refine lv_iconst (v := 2) hx hb d_M_duration_70 (by decide) ?_
          refine lv_aload_n hx hb d_M_duration_71 rfl (lv_at hl 0 rfl) ?_
          refine va_get (D := D) (ci := 1) (v := .int x0_10) (C := "SignMachine$Machine") (T := F_M) (N := 14) hx hb hk fi_M hown hK.1 hP 0 rfl rfl 10 (by decide) (hk _ k_177) (fun _ h9 => h9) rfl d_M_duration_72 ?_
          refine lv_imul hx hb d_M_duration_75 ?_
          refine lv_topi (fun v6 hv6 => ?_)
          refine lv_iadd hx hb d_M_duration_76 ?_
          refine lv_topi (fun v7 hv7 => ?_)
          exact W.iret (v := v7) hx hb hr (fun t ht hW => ⟨⟨v7, (), rfl, trivial, ⟨by show va_P D classes _ t.heap; rw [ht]; exact hP, hD⟩⟩, hS.F ht⟩) hS.2.2 d_M_duration_77
        · refine lv_tableOut (tgt := 78) hx hb d_M_duration_39 (by have e0 := lv_neT c3 (a := 5) rfl; have e1 := lv_neT c4 (a := 6) rfl; have e2 := lv_neT c5 (a := 7) rfl; omega) (by decide) ?_
          refine lv_iconst (v := 1) hx hb d_M_duration_78 (by decide) ?_
          exact W.iret (v := (1 : Int32)) hx hb hr (fun t ht hW => ⟨⟨(1 : Int32), (), rfl, trivial, ⟨by show va_P D classes _ t.heap; rw [ht]; exact hP, hD⟩⟩, hS.F ht⟩) hS.2.2 d_M_duration_79
  · refine lv_aload_n hx hb d_M_duration_7 rfl (lv_at hl 0 rfl) ?_
    refine va_get (D := D) (ci := 1) (v := .int x0_9) (C := "SignMachine$Machine") (T := F_M) (N := 14) hx hb hk fi_M hown hK.1 hP 0 rfl rfl 9 (by decide) (hk _ k_176) (fun _ h9 => h9) rfl d_M_duration_8 ?_
    refine lv_iconst (v := 3) hx hb d_M_duration_11 (by decide) ?_
    refine lv_icmp_ne (tgt := 20) hx hb d_M_duration_12 (by decide) (fun c8 => ?_) (fun c8 => ?_)
    · refine lv_aload_n hx hb d_M_duration_20 rfl (lv_at hl 0 rfl) ?_
      refine va_get (D := D) (ci := 1) (v := .int x0_9) (C := "SignMachine$Machine") (T := F_M) (N := 14) hx hb hk fi_M hown hK.1 hP 0 rfl rfl 9 (by decide) (hk _ k_176) (fun _ h9 => h9) rfl d_M_duration_21 ?_
      refine lv_iconst (v := 4) hx hb d_M_duration_24 (by decide) ?_
      refine lv_icmp_ne (tgt := 33) hx hb d_M_duration_25 (by decide) (fun c9 => ?_) (fun c9 => ?_)
      · refine lv_iconst (v := 2) hx hb d_M_duration_33 (by decide) ?_
        exact W.iret (v := (2 : Int32)) hx hb hr (fun t ht hW => ⟨⟨(2 : Int32), (), rfl, trivial, ⟨by show va_P D classes _ t.heap; rw [ht]; exact hP, hD⟩⟩, hS.F ht⟩) hS.2.2 d_M_duration_34
      · refine lv_bipush (v := 12) hx hb d_M_duration_28 (by decide) ?_
        refine lv_goto (tgt := 34) hx hb d_M_duration_30 (by decide) ?_
        exact W.iret (v := (12 : Int32)) hx hb hr (fun t ht hW => ⟨⟨(12 : Int32), (), rfl, trivial, ⟨by show va_P D classes _ t.heap; rw [ht]; exact hP, hD⟩⟩, hS.F ht⟩) hS.2.2 d_M_duration_34
    · refine lv_bipush (v := 10) hx hb d_M_duration_15 (by decide) ?_
      refine lv_goto (tgt := 34) hx hb d_M_duration_17 (by decide) ?_
      exact W.iret (v := (10 : Int32)) hx hb hr (fun t ht hW => ⟨⟨(10 : Int32), (), rfl, trivial, ⟨by show va_P D classes _ t.heap; rw [ht]; exact hP, hD⟩⟩, hS.F ht⟩) hS.2.2 d_M_duration_34
theorem v_M_duration_s3 {R : Room} {s : State} {args : Array Value} {own : String} {index : Nat} (hk : ∀ w ∈ tb, w.before args s = true) (hl : Cond.methodLink own index y_M_duration ∈ tb) (hR : 1 + 1 ≤ R.frames ∧ 8 + (1 + 11) + 20 ≤ R.locals) : CallW R s args own "SignMachine$Machine" index y_M_duration b_M_duration 1 (some .int) (.code y_M_duration b_M_duration 1 (some .int) :: tb) ({ frames := 1, cells := 0, slots := 0, locals := 20 }) 0 0 0 := mk_v 0 hk k_344 hl k_343 k_10 k_117 rfl rfl h_M_duration hR
set_option maxHeartbeats 4000000 in
set_option maxRecDepth 100000 in
theorem c_M_putRegister_s2 (l : Launch) (K : CK) (D : va_G) (cI cJ cZ cB : ClassId) (p0 p1 p2 p3 p4 p5 p6 : Nat) (sz : Nat) (x0_4 : Bool) (x0_5 : Int32) (x0_6 : Int32) (x0_7 : Int32) (x0_8 : Int32) (x0_9 : Int32) (x0_10 : Int32) (x0_11 : Int32) (x0_12 : Int32) (x0_13 : Int32) (y1 : Nat → Int32) (y2 : Nat → Int32) (x3_0 : Int32) (x4_0 : Int32) (y5 : Nat → Int32) (y6 : Nat → Int32)  (a1 : Int32) (a2 : Int32) : Met l y_M_putRegister (.code y_M_putRegister b_M_putRegister 3 none :: tb) ({ frames := 0, cells := 0, slots := 0, locals := 0 }) (pMC K D cI cJ cZ cB (wS60 cI cJ cZ cB p0 p1 p2 p3 p4 p5 p6 x0_4 x0_5 x0_6 x0_7 x0_8 x0_9 x0_10 x0_11 x0_12 x0_13 y1 y2 x3_0 x4_0 y5 y6) sz [.ref p0, .int a1, .int a2]) (va_Qv (fun (_ : Unit) => True) (fun _ t => (∃ u_y2 : Nat → Int32, va_P D classes (wS60 cI cJ cZ cB p0 p1 p2 p3 p4 p5 p6 x0_4 x0_5 x0_6 x0_7 x0_8 x0_9 x0_10 x0_11 x0_12 x0_13 y1 u_y2 x3_0 x4_0 y5 y6) t.heap ∧ va_D (va_A (wS60 cI cJ cZ cB p0 p1 p2 p3 p4 p5 p6 x0_4 x0_5 x0_6 x0_7 x0_8 x0_9 x0_10 x0_11 x0_12 x0_13 y1 y2 x3_0 x4_0 y5 y6) sz) (wS60 cI cJ cZ cB p0 p1 p2 p3 p4 p5 p6 x0_4 x0_5 x0_6 x0_7 x0_8 x0_9 x0_10 x0_11 x0_12 x0_13 y1 u_y2 x3_0 x4_0 y5 y6))) (va_A (wS60 cI cJ cZ cB p0 p1 p2 p3 p4 p5 p6 x0_4 x0_5 x0_6 x0_7 x0_8 x0_9 x0_10 x0_11 x0_12 x0_13 y1 y2 x3_0 x4_0 y5 y6) sz)) 0 0 (va_A (wS60 cI cJ cZ cB p0 p1 p2 p3 p4 p5 p6 x0_4 x0_5 x0_6 x0_7 x0_8 x0_9 x0_10 x0_11 x0_12 x0_13 y1 y2 x3_0 x4_0 y5 y6) sz) := by
  refine Met.ofW (cc := b_M_putRegister) (maxL := 3) (ret := none) (by decide) rfl ?_
  intro p e s m args below meth c s₁ B hml hv
  obtain ⟨rfl, hsz, hK, hP, hD0, hC⟩ := hv
  subst hsz
  have hD := hD0.self (sz := s.heap.size)
  generalize hAe : va_A (wS60 cI cJ cZ cB p0 p1 p2 p3 p4 p5 p6 x0_4 x0_5 x0_6 x0_7 x0_8 x0_9 x0_10 x0_11 x0_12 x0_13 y1 y2 x3_0 x4_0 y5 y6) s.heap.size = A at hD hC ⊢
  have hA : ∀ q : Nat, s.heap.size ≤ q → A q := fun q h => by rw [← hAe]; exact Or.inr h
  clear hAe hD0
  have hS : va_S A s.heap s.heap [] := va_S.rf
  have hx := B.exec
  have hb := B.bytes
  have hr := B.returns
  have hts := atoms_spec (ws := .code y_M_putRegister b_M_putRegister 3 none :: tb) B.pre
  have hk : ∀ w ∈ tb, w.before [.ref p0, .int a1, .int a2].toArray s = true := fun w h => hts w (List.mem_cons_of_mem _ h)
  have hown : s.vm.findClass "SignMachine$Machine" = some m.cls := findClass_of_methodNamed B.named
  have hlocks := B.notSynchronized
  have hl := lv_entry ([.ref p0, .int a1, .int a2]) (n := 3) (Nat.le_of_ble_eq_true rfl)
  rw [lg_entry_eq]
  generalize (lg_sl ([.ref p0, .int a1, .int a2]) ++ List.replicate (3 - (lg_sl ([.ref p0, .int a1, .int a2])).length) Slot.unset).toArray = ls at hl ⊢
  have hl : lv_has ls 3 [(0, .ref p0), (1, .int a1), (2, .int a2)] := hl
  refine lv_iload_n hx hb d_M_putRegister_0 rfl (lv_at hl 1 rfl) ?_
  refine lv_if_lt (tgt := 17) hx hb d_M_putRegister_1 (by decide) (fun c1 => ?_) (fun c1 => ?_)
  · exact W.vret hx hb hr (fun t ht hW => ⟨⟨(), rfl, trivial, ⟨y2, by show va_P D classes _ t.heap; rw [ht]; exact hP, hD⟩⟩, hS.F ht⟩) hS.2.2 d_M_putRegister_17
  · refine lv_iload_n hx hb d_M_putRegister_4 rfl (lv_at hl 1 rfl) ?_
    refine lv_bipush (v := 9) hx hb d_M_putRegister_5 (by decide) ?_
    refine lv_icmp_ge (tgt := 17) hx hb d_M_putRegister_7 (by decide) (fun c2 => ?_) (fun c2 => ?_)
    · exact W.vret hx hb hr (fun t ht hW => ⟨⟨(), rfl, trivial, ⟨y2, by show va_P D classes _ t.heap; rw [ht]; exact hP, hD⟩⟩, hS.F ht⟩) hS.2.2 d_M_putRegister_17
    · refine lv_aload_n hx hb d_M_putRegister_10 rfl (lv_at hl 0 rfl) ?_
      refine va_get (D := D) (ci := 1) (v := .ref p2) (C := "SignMachine$Machine") (T := F_M) (N := 14) hx hb hk fi_M hown hK.1 hP 0 rfl rfl 1 (by decide) (hk _ k_164) (fun _ h9 => h9) rfl d_M_putRegister_11 ?_
      refine lv_iload_n hx hb d_M_putRegister_14 rfl (lv_at hl 1 rfl) ?_
      refine lv_iload_n hx hb d_M_putRegister_15 rfl (lv_at hl 2 rfl) ?_
      refine va_iast hx hb hK.1 hP hD hS 2 0 rfl rfl (vpin c1 c2 rfl) d_M_putRegister_16 (fun H locs hP hD hS => ?_)
      have hP : va_P D classes (wS60 cI cJ cZ cB p0 p1 p2 p3 p4 p5 p6 x0_4 x0_5 x0_6 x0_7 x0_8 x0_9 x0_10 x0_11 x0_12 x0_13 y1 (upd y2 (a1).toNatClampNeg a2) x3_0 x4_0 y5 y6) H := hP
      have hD : va_D A (wS60 cI cJ cZ cB p0 p1 p2 p3 p4 p5 p6 x0_4 x0_5 x0_6 x0_7 x0_8 x0_9 x0_10 x0_11 x0_12 x0_13 y1 (upd y2 (a1).toNatClampNeg a2) x3_0 x4_0 y5 y6) := hD
      obtain ⟨v3, hv3⟩ : ∃ y : Nat → Int32, y = (upd y2 (a1).toNatClampNeg a2) := ⟨_, rfl⟩
      rw [← hv3] at hP hD
      clear hv3
      exact W.vret hx hb hr (fun t ht hW => ⟨⟨(), rfl, trivial, ⟨v3, by show va_P D classes _ t.heap; rw [ht]; exact hP, hD⟩⟩, hS.F ht⟩) hS.2.2 d_M_putRegister_17
theorem v_M_putRegister_s2 {R : Room} {s : State} {args : Array Value} {own : String} {index : Nat} (hk : ∀ w ∈ tb, w.before args s = true) (hl : Cond.methodLink own index y_M_putRegister ∈ tb) (hR : 0 + 1 ≤ R.frames ∧ 8 + (3 + 11) + 0 ≤ R.locals) : CallW R s args own "SignMachine$Machine" index y_M_putRegister b_M_putRegister 3 none (.code y_M_putRegister b_M_putRegister 3 none :: tb) ({ frames := 0, cells := 0, slots := 0, locals := 0 }) 0 0 2 := mk_v 2 hk k_365 hl k_363 k_364 k_117 rfl rfl h_M_putRegister hR
set_option maxHeartbeats 4000000 in
set_option maxRecDepth 100000 in
theorem c_M_addTo_s2 (l : Launch) (K : CK) (D : va_G) (cI cJ cZ cB : ClassId) (p0 p1 p2 p3 p4 p5 p6 : Nat) (sz : Nat) (x0_4 : Bool) (x0_5 : Int32) (x0_6 : Int32) (x0_7 : Int32) (x0_8 : Int32) (x0_9 : Int32) (x0_10 : Int32) (x0_11 : Int32) (x0_12 : Int32) (x0_13 : Int32) (y1 : Nat → Int32) (y2 : Nat → Int32) (x3_0 : Int32) (x4_0 : Int32) (y5 : Nat → Int32) (y6 : Nat → Int32)  (a1 : Int32) (a2 : Int32) : Met l y_M_addTo (.code y_M_addTo b_M_addTo 5 none :: tb) ({ frames := 2, cells := 0, slots := 0, locals := 42 }) (pMC K D cI cJ cZ cB (wS60 cI cJ cZ cB p0 p1 p2 p3 p4 p5 p6 x0_4 x0_5 x0_6 x0_7 x0_8 x0_9 x0_10 x0_11 x0_12 x0_13 y1 y2 x3_0 x4_0 y5 y6) sz [.ref p0, .int a1, .int a2]) (va_Qv (fun (_ : Unit) => True) (fun _ t => (∃ u_x0_4 : Bool, ∃ u_y2 : Nat → Int32, va_P D classes (wS60 cI cJ cZ cB p0 p1 p2 p3 p4 p5 p6 u_x0_4 x0_5 x0_6 x0_7 x0_8 x0_9 x0_10 x0_11 x0_12 x0_13 y1 u_y2 x3_0 x4_0 y5 y6) t.heap ∧ va_D (va_A (wS60 cI cJ cZ cB p0 p1 p2 p3 p4 p5 p6 x0_4 x0_5 x0_6 x0_7 x0_8 x0_9 x0_10 x0_11 x0_12 x0_13 y1 y2 x3_0 x4_0 y5 y6) sz) (wS60 cI cJ cZ cB p0 p1 p2 p3 p4 p5 p6 u_x0_4 x0_5 x0_6 x0_7 x0_8 x0_9 x0_10 x0_11 x0_12 x0_13 y1 u_y2 x3_0 x4_0 y5 y6))) (va_A (wS60 cI cJ cZ cB p0 p1 p2 p3 p4 p5 p6 x0_4 x0_5 x0_6 x0_7 x0_8 x0_9 x0_10 x0_11 x0_12 x0_13 y1 y2 x3_0 x4_0 y5 y6) sz)) 0 0 (va_A (wS60 cI cJ cZ cB p0 p1 p2 p3 p4 p5 p6 x0_4 x0_5 x0_6 x0_7 x0_8 x0_9 x0_10 x0_11 x0_12 x0_13 y1 y2 x3_0 x4_0 y5 y6) sz) := by
  refine Met.ofW (cc := b_M_addTo) (maxL := 5) (ret := none) (by decide) rfl ?_
  intro p e s m args below meth c s₁ B hml hv
  obtain ⟨rfl, hsz, hK, hP, hD0, hC⟩ := hv
  subst hsz
  have hD := hD0.self (sz := s.heap.size)
  generalize hAe : va_A (wS60 cI cJ cZ cB p0 p1 p2 p3 p4 p5 p6 x0_4 x0_5 x0_6 x0_7 x0_8 x0_9 x0_10 x0_11 x0_12 x0_13 y1 y2 x3_0 x4_0 y5 y6) s.heap.size = A at hD hC ⊢
  have hA : ∀ q : Nat, s.heap.size ≤ q → A q := fun q h => by rw [← hAe]; exact Or.inr h
  clear hAe hD0
  have hS : va_S A s.heap s.heap [] := va_S.rf
  have hx := B.exec
  have hb := B.bytes
  have hr := B.returns
  have hts := atoms_spec (ws := .code y_M_addTo b_M_addTo 5 none :: tb) B.pre
  have hk : ∀ w ∈ tb, w.before [.ref p0, .int a1, .int a2].toArray s = true := fun w h => hts w (List.mem_cons_of_mem _ h)
  have hown : s.vm.findClass "SignMachine$Machine" = some m.cls := findClass_of_methodNamed B.named
  have hlocks := B.notSynchronized
  have hl := lv_entry ([.ref p0, .int a1, .int a2]) (n := 5) (Nat.le_of_ble_eq_true rfl)
  rw [lg_entry_eq]
  generalize (lg_sl ([.ref p0, .int a1, .int a2]) ++ List.replicate (5 - (lg_sl ([.ref p0, .int a1, .int a2])).length) Slot.unset).toArray = ls at hl ⊢
  have hl : lv_has ls 5 [(0, .ref p0), (1, .int a1), (2, .int a2)] := hl
  refine lv_aload_n hx hb d_M_addTo_0 rfl (lv_at hl 0 rfl) ?_
  refine lv_iload_n hx hb d_M_addTo_1 rfl (lv_at hl 1 rfl) ?_
  refine sn_i (va_runV (C := "SignMachine$Machine") (As := [.int a1]) (rest := []) ⟨hx, hb, hml, hown, hk⟩ (c_M_register_s3 l K D cI cJ cZ cB p0 p1 p2 p3 p4 p5 p6 s.heap.size x0_4 x0_5 x0_6 x0_7 x0_8 x0_9 x0_10 x0_11 x0_12 x0_13 y1 y2 x3_0 x4_0 y5 y6  a1 ) (v_M_register_s3 hk k_273 ⟨Nat.le_of_ble_eq_true rfl, Nat.le_of_ble_eq_true rfl⟩) (pMC_v hK hP hD hC hS hA (ci := 1) (q0 := 0) rfl rfl rfl) rfl rfl hl.1 rfl (lv_room (Nat.le_of_ble_eq_true rfl)) d_M_addTo_2 ⟨by decide, by decide⟩) hS hA hD (fun rz1 u t H locs hr0 ht hB hFr hS => ?_)
  obtain ⟨hP, hD⟩ := hB
  rw [ht] at hP
  have hD := dwk hD hFr
  clear ht hFr
  have hP : va_P D classes (wS60 cI cJ cZ cB p0 p1 p2 p3 p4 p5 p6 x0_4 x0_5 x0_6 x0_7 x0_8 x0_9 x0_10 x0_11 x0_12 x0_13 y1 y2 x3_0 x4_0 y5 y6) H := hP
  have hD : va_D A (wS60 cI cJ cZ cB p0 p1 p2 p3 p4 p5 p6 x0_4 x0_5 x0_6 x0_7 x0_8 x0_9 x0_10 x0_11 x0_12 x0_13 y1 y2 x3_0 x4_0 y5 y6) := hD
  refine lv_istore_n (lv' := [(3, .int rz1), (0, .ref p0), (1, .int a1), (2, .int a2)]) hx hb d_M_addTo_5 rfl hl (by decide) rfl (fun ls hl => ?_)
  refine lv_iload_n hx hb d_M_addTo_6 rfl (lv_at hl 0 rfl) ?_
  refine cs_i (W.runS (As := [.int rz1]) (rest := []) ⟨hx, hb, hml, hown, hk⟩ (c_W_number l rz1) (s_W_number hk k_277 ⟨Nat.le_of_ble_eq_true rfl, Nat.le_of_ble_eq_true rfl⟩) ⟨fun a U g mk q => q, fun U hU hW => ⟨rfl, trivial⟩⟩ rfl rfl hl.1 rfl (lv_room (Nat.le_of_ble_eq_true rfl)) d_M_addTo_7 ⟨Nat.le_of_ble_eq_true rfl, Nat.le_of_ble_eq_true rfl⟩) ?_
  refine lv_topi (fun v2 hv2 => ?_)
  refine lv_iload_n hx hb d_M_addTo_10 rfl (lv_at hl 3 rfl) ?_
  refine lv_iadd hx hb d_M_addTo_11 ?_
  refine lv_topi (fun v3 hv3 => ?_)
  refine lv_istore (lv' := [(4, .int v3), (3, .int rz1), (0, .ref p0), (1, .int a1), (2, .int a2)]) hx hb d_M_addTo_12 hl (by decide) rfl (fun ls hl => ?_)
  refine lv_iload hx hb d_M_addTo_14 (lv_at hl 0 rfl) ?_
  refine va_mabs hx hb (hml.trans hl.1.symm) hown (hk _ k_330) (hk _ k_331) (hk _ k_121) (hk _ k_absc) (Nat.le_of_ble_eq_true rfl) (Nat.le_of_ble_eq_true rfl) (Nat.zero_le _) (Nat.zero_le _) d_M_addTo_16 ?_
  refine lv_topi (fun v4 hv4 => ?_)
  refine lv_ldc (v := 1073741823) hx hb hown (hk _ k_345) d_M_addTo_19 ?_
  refine lv_icmp_le (tgt := 49) hx hb d_M_addTo_21 (by decide) (fun c5 => ?_) (fun c5 => ?_)
  · refine lv_aload_n hx hb d_M_addTo_49 rfl (lv_at hl 2 rfl) ?_
    refine lv_iload_n hx hb d_M_addTo_50 rfl (lv_at hl 3 rfl) ?_
    refine lv_iload hx hb d_M_addTo_51 (lv_at hl 0 rfl) ?_
    refine lv_iload_n hx hb d_M_addTo_53 rfl (lv_at hl 1 rfl) ?_
    refine cs_i (W.runS (As := [.int rz1]) (rest := [.int v3, .int a1, .ref p0]) ⟨hx, hb, hml, hown, hk⟩ (c_W_sign l rz1) (s_W_sign hk k_269 ⟨Nat.le_of_ble_eq_true rfl, Nat.le_of_ble_eq_true rfl⟩) ⟨fun a U g mk q => q, fun U hU hW => ⟨rfl, trivial⟩⟩ rfl rfl hl.1 rfl (lv_room (Nat.le_of_ble_eq_true rfl)) d_M_addTo_54 ⟨Nat.le_of_ble_eq_true rfl, Nat.le_of_ble_eq_true rfl⟩) ?_
    refine lv_topi (fun v6 hv6 => ?_)
    refine cs_i (W.runS (As := [.int v3, .int v6]) (rest := [.int a1, .ref p0]) ⟨hx, hb, hml, hown, hk⟩ (c_W_of l v3 v6) (s_W_of hk k_359 ⟨Nat.le_of_ble_eq_true rfl, Nat.le_of_ble_eq_true rfl⟩) ⟨fun a U g mk q => q, fun U hU hW => ⟨rfl, trivial⟩⟩ rfl rfl hl.1 rfl (lv_room (Nat.le_of_ble_eq_true rfl)) d_M_addTo_57 ⟨Nat.le_of_ble_eq_true rfl, Nat.le_of_ble_eq_true rfl⟩) ?_
    refine lv_topi (fun v7 hv7 => ?_)
    refine kn_v (va_runV (C := "SignMachine$Machine") (As := [.int a1, .int v7]) (rest := []) ⟨hx, hb, hml, hown, hk⟩ (c_M_putRegister_s2 l K D cI cJ cZ cB p0 p1 p2 p3 p4 p5 p6 H.size x0_4 x0_5 x0_6 x0_7 x0_8 x0_9 x0_10 x0_11 x0_12 x0_13 y1 y2 x3_0 x4_0 y5 y6  a1 v7 ) (v_M_putRegister_s2 hk k_362 ⟨Nat.le_of_ble_eq_true rfl, Nat.le_of_ble_eq_true rfl⟩) (pMC_v hK hP hD hC hS hA (ci := 1) (q0 := 0) rfl rfl rfl) rfl rfl hl.1 rfl (lv_room (Nat.le_of_ble_eq_true rfl)) d_M_addTo_60 ⟨by decide, by decide⟩) hS hA hD (fun u t H locs ht hB hFr hS => ?_)
    obtain ⟨y2z8, hP, hD⟩ := hB
    rw [ht] at hP
    have hD := dwk hD hFr
    clear ht hFr
    have hP : va_P D classes (wS60 cI cJ cZ cB p0 p1 p2 p3 p4 p5 p6 x0_4 x0_5 x0_6 x0_7 x0_8 x0_9 x0_10 x0_11 x0_12 x0_13 y1 y2z8 x3_0 x4_0 y5 y6) H := hP
    have hD : va_D A (wS60 cI cJ cZ cB p0 p1 p2 p3 p4 p5 p6 x0_4 x0_5 x0_6 x0_7 x0_8 x0_9 x0_10 x0_11 x0_12 x0_13 y1 y2z8 x3_0 x4_0 y5 y6) := hD
    exact W.vret hx hb hr (fun t ht hW => ⟨⟨(), rfl, trivial, ⟨x0_4, y2z8, by show va_P D classes _ t.heap; rw [ht]; exact hP, hD⟩⟩, hS.F ht⟩) hS.2.2 d_M_addTo_63
  · refine lv_aload_n hx hb d_M_addTo_24 rfl (lv_at hl 2 rfl) ?_
    refine lv_iconst (v := 1) hx hb d_M_addTo_25 (by decide) ?_
    refine va_put (D := D) (ci := 1) (v := .int (1 : Int32)) (ty := .boolean) (C := "SignMachine$Machine") (T := F_M) (N := 14) hx hb hk fi_M ft_M ft_M_ok fn_M hown hK.1 hP hD hS 0 rfl rfl 4 (by decide) (hk _ k_168) (fun _ h9 => h9) rfl (by decide +kernel) rfl rfl (Nat.le_of_ble_eq_true rfl) d_M_addTo_26 (fun H locs hP hD hS => ?_)
    have hP : va_P D classes (wS60 cI cJ cZ cB p0 p1 p2 p3 p4 p5 p6 true x0_5 x0_6 x0_7 x0_8 x0_9 x0_10 x0_11 x0_12 x0_13 y1 y2 x3_0 x4_0 y5 y6) H := hP
    have hD : va_D A (wS60 cI cJ cZ cB p0 p1 p2 p3 p4 p5 p6 true x0_5 x0_6 x0_7 x0_8 x0_9 x0_10 x0_11 x0_12 x0_13 y1 y2 x3_0 x4_0 y5 y6) := hD
    refine lv_iload hx hb d_M_addTo_29 (lv_at hl 0 rfl) ?_
    refine lv_if_le (tgt := 42) hx hb d_M_addTo_31 (by decide) (fun c9 => ?_) (fun c9 => ?_)
    · refine lv_iload hx hb d_M_addTo_42 (lv_at hl 0 rfl) ?_
      refine lv_ldc (v := 1073741824) hx hb hown (hk _ k_358) d_M_addTo_44 ?_
      refine lv_iadd hx hb d_M_addTo_46 ?_
      refine lv_topi (fun v10 hv10 => ?_)
      refine lv_istore (lv' := [(4, .int v10), (3, .int rz1), (0, .ref p0), (1, .int a1), (2, .int a2)]) hx hb d_M_addTo_47 hl (by decide) rfl (fun ls hl => ?_)
      refine lv_aload_n hx hb d_M_addTo_49 rfl (lv_at hl 2 rfl) ?_
      refine lv_iload_n hx hb d_M_addTo_50 rfl (lv_at hl 3 rfl) ?_
      refine lv_iload hx hb d_M_addTo_51 (lv_at hl 0 rfl) ?_
      refine lv_iload_n hx hb d_M_addTo_53 rfl (lv_at hl 1 rfl) ?_
      refine cs_i (W.runS (As := [.int rz1]) (rest := [.int v10, .int a1, .ref p0]) ⟨hx, hb, hml, hown, hk⟩ (c_W_sign l rz1) (s_W_sign hk k_269 ⟨Nat.le_of_ble_eq_true rfl, Nat.le_of_ble_eq_true rfl⟩) ⟨fun a U g mk q => q, fun U hU hW => ⟨rfl, trivial⟩⟩ rfl rfl hl.1 rfl (lv_room (Nat.le_of_ble_eq_true rfl)) d_M_addTo_54 ⟨Nat.le_of_ble_eq_true rfl, Nat.le_of_ble_eq_true rfl⟩) ?_
      refine lv_topi (fun v11 hv11 => ?_)
      refine cs_i (W.runS (As := [.int v10, .int v11]) (rest := [.int a1, .ref p0]) ⟨hx, hb, hml, hown, hk⟩ (c_W_of l v10 v11) (s_W_of hk k_359 ⟨Nat.le_of_ble_eq_true rfl, Nat.le_of_ble_eq_true rfl⟩) ⟨fun a U g mk q => q, fun U hU hW => ⟨rfl, trivial⟩⟩ rfl rfl hl.1 rfl (lv_room (Nat.le_of_ble_eq_true rfl)) d_M_addTo_57 ⟨Nat.le_of_ble_eq_true rfl, Nat.le_of_ble_eq_true rfl⟩) ?_
      refine lv_topi (fun v12 hv12 => ?_)
      refine kn_v (va_runV (C := "SignMachine$Machine") (As := [.int a1, .int v12]) (rest := []) ⟨hx, hb, hml, hown, hk⟩ (c_M_putRegister_s2 l K D cI cJ cZ cB p0 p1 p2 p3 p4 p5 p6 H.size true x0_5 x0_6 x0_7 x0_8 x0_9 x0_10 x0_11 x0_12 x0_13 y1 y2 x3_0 x4_0 y5 y6  a1 v12 ) (v_M_putRegister_s2 hk k_362 ⟨Nat.le_of_ble_eq_true rfl, Nat.le_of_ble_eq_true rfl⟩) (pMC_v hK hP hD hC hS hA (ci := 1) (q0 := 0) rfl rfl rfl) rfl rfl hl.1 rfl (lv_room (Nat.le_of_ble_eq_true rfl)) d_M_addTo_60 ⟨by decide, by decide⟩) hS hA hD (fun u t H locs ht hB hFr hS => ?_)
      obtain ⟨y2z13, hP, hD⟩ := hB
      rw [ht] at hP
      have hD := dwk hD hFr
      clear ht hFr
      have hP : va_P D classes (wS60 cI cJ cZ cB p0 p1 p2 p3 p4 p5 p6 true x0_5 x0_6 x0_7 x0_8 x0_9 x0_10 x0_11 x0_12 x0_13 y1 y2z13 x3_0 x4_0 y5 y6) H := hP
      have hD : va_D A (wS60 cI cJ cZ cB p0 p1 p2 p3 p4 p5 p6 true x0_5 x0_6 x0_7 x0_8 x0_9 x0_10 x0_11 x0_12 x0_13 y1 y2z13 x3_0 x4_0 y5 y6) := hD
      exact W.vret hx hb hr (fun t ht hW => ⟨⟨(), rfl, trivial, ⟨true, y2z13, by show va_P D classes _ t.heap; rw [ht]; exact hP, hD⟩⟩, hS.F ht⟩) hS.2.2 d_M_addTo_63
    · refine lv_iload hx hb d_M_addTo_34 (lv_at hl 0 rfl) ?_
      refine lv_ldc (v := 1073741824) hx hb hown (hk _ k_358) d_M_addTo_36 ?_
      refine lv_isub hx hb d_M_addTo_38 ?_
      refine lv_topi (fun v14 hv14 => ?_)
      refine lv_goto (tgt := 47) hx hb d_M_addTo_39 (by decide) ?_
      refine lv_istore (lv' := [(4, .int v14), (3, .int rz1), (0, .ref p0), (1, .int a1), (2, .int a2)]) hx hb d_M_addTo_47 hl (by decide) rfl (fun ls hl => ?_)
      refine lv_aload_n hx hb d_M_addTo_49 rfl (lv_at hl 2 rfl) ?_
      refine lv_iload_n hx hb d_M_addTo_50 rfl (lv_at hl 3 rfl) ?_
      refine lv_iload hx hb d_M_addTo_51 (lv_at hl 0 rfl) ?_
      refine lv_iload_n hx hb d_M_addTo_53 rfl (lv_at hl 1 rfl) ?_
      refine cs_i (W.runS (As := [.int rz1]) (rest := [.int v14, .int a1, .ref p0]) ⟨hx, hb, hml, hown, hk⟩ (c_W_sign l rz1) (s_W_sign hk k_269 ⟨Nat.le_of_ble_eq_true rfl, Nat.le_of_ble_eq_true rfl⟩) ⟨fun a U g mk q => q, fun U hU hW => ⟨rfl, trivial⟩⟩ rfl rfl hl.1 rfl (lv_room (Nat.le_of_ble_eq_true rfl)) d_M_addTo_54 ⟨Nat.le_of_ble_eq_true rfl, Nat.le_of_ble_eq_true rfl⟩) ?_
      refine lv_topi (fun v15 hv15 => ?_)
      refine cs_i (W.runS (As := [.int v14, .int v15]) (rest := [.int a1, .ref p0]) ⟨hx, hb, hml, hown, hk⟩ (c_W_of l v14 v15) (s_W_of hk k_359 ⟨Nat.le_of_ble_eq_true rfl, Nat.le_of_ble_eq_true rfl⟩) ⟨fun a U g mk q => q, fun U hU hW => ⟨rfl, trivial⟩⟩ rfl rfl hl.1 rfl (lv_room (Nat.le_of_ble_eq_true rfl)) d_M_addTo_57 ⟨Nat.le_of_ble_eq_true rfl, Nat.le_of_ble_eq_true rfl⟩) ?_
      refine lv_topi (fun v16 hv16 => ?_)
      refine kn_v (va_runV (C := "SignMachine$Machine") (As := [.int a1, .int v16]) (rest := []) ⟨hx, hb, hml, hown, hk⟩ (c_M_putRegister_s2 l K D cI cJ cZ cB p0 p1 p2 p3 p4 p5 p6 H.size true x0_5 x0_6 x0_7 x0_8 x0_9 x0_10 x0_11 x0_12 x0_13 y1 y2 x3_0 x4_0 y5 y6  a1 v16 ) (v_M_putRegister_s2 hk k_362 ⟨Nat.le_of_ble_eq_true rfl, Nat.le_of_ble_eq_true rfl⟩) (pMC_v hK hP hD hC hS hA (ci := 1) (q0 := 0) rfl rfl rfl) rfl rfl hl.1 rfl (lv_room (Nat.le_of_ble_eq_true rfl)) d_M_addTo_60 ⟨by decide, by decide⟩) hS hA hD (fun u t H locs ht hB hFr hS => ?_)
      obtain ⟨y2z17, hP, hD⟩ := hB
      rw [ht] at hP
      have hD := dwk hD hFr
      clear ht hFr
      have hP : va_P D classes (wS60 cI cJ cZ cB p0 p1 p2 p3 p4 p5 p6 true x0_5 x0_6 x0_7 x0_8 x0_9 x0_10 x0_11 x0_12 x0_13 y1 y2z17 x3_0 x4_0 y5 y6) H := hP
      have hD : va_D A (wS60 cI cJ cZ cB p0 p1 p2 p3 p4 p5 p6 true x0_5 x0_6 x0_7 x0_8 x0_9 x0_10 x0_11 x0_12 x0_13 y1 y2z17 x3_0 x4_0 y5 y6) := hD
      exact W.vret hx hb hr (fun t ht hW => ⟨⟨(), rfl, trivial, ⟨true, y2z17, by show va_P D classes _ t.heap; rw [ht]; exact hP, hD⟩⟩, hS.F ht⟩) hS.2.2 d_M_addTo_63
theorem v_M_addTo_s2 {R : Room} {s : State} {args : Array Value} {own : String} {index : Nat} (hk : ∀ w ∈ tb, w.before args s = true) (hl : Cond.methodLink own index y_M_addTo ∈ tb) (hR : 2 + 1 ≤ R.frames ∧ 8 + (5 + 11) + 42 ≤ R.locals) : CallW R s args own "SignMachine$Machine" index y_M_addTo b_M_addTo 5 none (.code y_M_addTo b_M_addTo 5 none :: tb) ({ frames := 2, cells := 0, slots := 0, locals := 42 }) 0 0 2 := mk_v 2 hk k_357 hl k_356 k_13 k_117 rfl rfl h_M_addTo hR
set_option maxHeartbeats 4000000 in
set_option maxRecDepth 100000 in
theorem c_M_multiply_s2 (l : Launch) (K : CK) (D : va_G) (cI cJ cZ cB : ClassId) (p0 p1 p2 p3 p4 p5 p6 : Nat) (sz : Nat) (x0_4 : Bool) (x0_5 : Int32) (x0_6 : Int32) (x0_7 : Int32) (x0_8 : Int32) (x0_9 : Int32) (x0_10 : Int32) (x0_11 : Int32) (x0_12 : Int32) (x0_13 : Int32) (y1 : Nat → Int32) (y2 : Nat → Int32) (x3_0 : Int32) (x4_0 : Int32) (y5 : Nat → Int32) (y6 : Nat → Int32)  (a1 : Int32) : Met l y_M_multiply (.code y_M_multiply b_M_multiply 6 none :: tb) ({ frames := 1, cells := 0, slots := 0, locals := 22 }) (pMC K D cI cJ cZ cB (wS60 cI cJ cZ cB p0 p1 p2 p3 p4 p5 p6 x0_4 x0_5 x0_6 x0_7 x0_8 x0_9 x0_10 x0_11 x0_12 x0_13 y1 y2 x3_0 x4_0 y5 y6) sz [.ref p0, .int a1]) (va_Qv (fun (_ : Unit) => True) (fun _ t => (∃ u_y2 : Nat → Int32, va_P D classes (wS60 cI cJ cZ cB p0 p1 p2 p3 p4 p5 p6 x0_4 x0_5 x0_6 x0_7 x0_8 x0_9 x0_10 x0_11 x0_12 x0_13 y1 u_y2 x3_0 x4_0 y5 y6) t.heap ∧ va_D (va_A (wS60 cI cJ cZ cB p0 p1 p2 p3 p4 p5 p6 x0_4 x0_5 x0_6 x0_7 x0_8 x0_9 x0_10 x0_11 x0_12 x0_13 y1 y2 x3_0 x4_0 y5 y6) sz) (wS60 cI cJ cZ cB p0 p1 p2 p3 p4 p5 p6 x0_4 x0_5 x0_6 x0_7 x0_8 x0_9 x0_10 x0_11 x0_12 x0_13 y1 u_y2 x3_0 x4_0 y5 y6))) (va_A (wS60 cI cJ cZ cB p0 p1 p2 p3 p4 p5 p6 x0_4 x0_5 x0_6 x0_7 x0_8 x0_9 x0_10 x0_11 x0_12 x0_13 y1 y2 x3_0 x4_0 y5 y6) sz)) 0 0 (va_A (wS60 cI cJ cZ cB p0 p1 p2 p3 p4 p5 p6 x0_4 x0_5 x0_6 x0_7 x0_8 x0_9 x0_10 x0_11 x0_12 x0_13 y1 y2 x3_0 x4_0 y5 y6) sz) := by
  refine Met.ofW (cc := b_M_multiply) (maxL := 6) (ret := none) (by decide) rfl ?_
  intro p e s m args below meth c s₁ B hml hv
  obtain ⟨rfl, hsz, hK, hP, hD0, hC⟩ := hv
  subst hsz
  have hD := hD0.self (sz := s.heap.size)
  generalize hAe : va_A (wS60 cI cJ cZ cB p0 p1 p2 p3 p4 p5 p6 x0_4 x0_5 x0_6 x0_7 x0_8 x0_9 x0_10 x0_11 x0_12 x0_13 y1 y2 x3_0 x4_0 y5 y6) s.heap.size = A at hD hC ⊢
  have hA : ∀ q : Nat, s.heap.size ≤ q → A q := fun q h => by rw [← hAe]; exact Or.inr h
  clear hAe hD0
  have hS : va_S A s.heap s.heap [] := va_S.rf
  have hx := B.exec
  have hb := B.bytes
  have hr := B.returns
  have hts := atoms_spec (ws := .code y_M_multiply b_M_multiply 6 none :: tb) B.pre
  have hk : ∀ w ∈ tb, w.before [.ref p0, .int a1].toArray s = true := fun w h => hts w (List.mem_cons_of_mem _ h)
  have hown : s.vm.findClass "SignMachine$Machine" = some m.cls := findClass_of_methodNamed B.named
  have hlocks := B.notSynchronized
  have hl := lv_entry ([.ref p0, .int a1]) (n := 6) (Nat.le_of_ble_eq_true rfl)
  rw [lg_entry_eq]
  generalize (lg_sl ([.ref p0, .int a1]) ++ List.replicate (6 - (lg_sl ([.ref p0, .int a1])).length) Slot.unset).toArray = ls at hl ⊢
  have hl : lv_has ls 6 [(0, .ref p0), (1, .int a1)] := hl
  refine lv_aload_n hx hb d_M_multiply_0 rfl (lv_at hl 0 rfl) ?_
  refine lv_iconst (v := 0) hx hb d_M_multiply_1 (by decide) ?_
  refine sn_i (va_runV (C := "SignMachine$Machine") (As := [.int (0 : Int32)]) (rest := []) ⟨hx, hb, hml, hown, hk⟩ (c_M_register_s3 l K D cI cJ cZ cB p0 p1 p2 p3 p4 p5 p6 s.heap.size x0_4 x0_5 x0_6 x0_7 x0_8 x0_9 x0_10 x0_11 x0_12 x0_13 y1 y2 x3_0 x4_0 y5 y6  (0 : Int32) ) (v_M_register_s3 hk k_273 ⟨Nat.le_of_ble_eq_true rfl, Nat.le_of_ble_eq_true rfl⟩) (pMC_v hK hP hD hC hS hA (ci := 1) (q0 := 0) rfl rfl rfl) rfl rfl hl.1 rfl (lv_room (Nat.le_of_ble_eq_true rfl)) d_M_multiply_2 ⟨by decide, by decide⟩) hS hA hD (fun rz1 u t H locs hr0 ht hB hFr hS => ?_)
  obtain ⟨hP, hD⟩ := hB
  rw [ht] at hP
  have hD := dwk hD hFr
  clear ht hFr
  have hP : va_P D classes (wS60 cI cJ cZ cB p0 p1 p2 p3 p4 p5 p6 x0_4 x0_5 x0_6 x0_7 x0_8 x0_9 x0_10 x0_11 x0_12 x0_13 y1 y2 x3_0 x4_0 y5 y6) H := hP
  have hD : va_D A (wS60 cI cJ cZ cB p0 p1 p2 p3 p4 p5 p6 x0_4 x0_5 x0_6 x0_7 x0_8 x0_9 x0_10 x0_11 x0_12 x0_13 y1 y2 x3_0 x4_0 y5 y6) := hD
  refine lv_istore_n (lv' := [(2, .int rz1), (0, .ref p0), (1, .int a1)]) hx hb d_M_multiply_5 rfl hl (by decide) rfl (fun ls hl => ?_)
  refine lv_iload_n hx hb d_M_multiply_6 rfl (lv_at hl 0 rfl) ?_
  refine cs_i (W.runS (As := [.int rz1]) (rest := []) ⟨hx, hb, hml, hown, hk⟩ (c_W_size l rz1) (s_W_size hk k_268 ⟨Nat.le_of_ble_eq_true rfl, Nat.le_of_ble_eq_true rfl⟩) ⟨fun a U g mk q => q, fun U hU hW => ⟨rfl, trivial⟩⟩ rfl rfl hl.1 rfl (lv_room (Nat.le_of_ble_eq_true rfl)) d_M_multiply_7 ⟨Nat.le_of_ble_eq_true rfl, Nat.le_of_ble_eq_true rfl⟩) ?_
  refine lv_topi (fun v2 hv2 => ?_)
  refine lv_i2l (v := (v2 : Int32).toInt64) hx hb d_M_multiply_10 rfl ?_
  refine lv_topl (fun v3 hv3 => ?_)
  refine lv_iload_n hx hb d_M_multiply_11 rfl (lv_at hl 2 rfl) ?_
  refine cs_i (W.runS (As := [.int a1]) (rest := [.long v3]) ⟨hx, hb, hml, hown, hk⟩ (c_W_size l a1) (s_W_size hk k_268 ⟨Nat.le_of_ble_eq_true rfl, Nat.le_of_ble_eq_true rfl⟩) ⟨fun a U g mk q => q, fun U hU hW => ⟨rfl, trivial⟩⟩ rfl rfl hl.1 rfl (lv_room (Nat.le_of_ble_eq_true rfl)) d_M_multiply_12 ⟨Nat.le_of_ble_eq_true rfl, Nat.le_of_ble_eq_true rfl⟩) ?_
  refine lv_topi (fun v4 hv4 => ?_)
  refine lv_i2l (v := (v4 : Int32).toInt64) hx hb d_M_multiply_15 rfl ?_
  refine lv_topl (fun v5 hv5 => ?_)
  refine lv_lmul hx hb d_M_multiply_16 ?_
  refine lv_topl (fun v6 hv6 => ?_)
  refine lv_lstore_n (lv' := [(3, .long v6), (2, .int rz1), (0, .ref p0), (1, .int a1)]) hx hb d_M_multiply_17 rfl hl (by decide) rfl (fun ls hl => ?_)
  refine lv_iload_n hx hb d_M_multiply_18 rfl (lv_at hl 1 rfl) ?_
  refine cs_i (W.runS (As := [.int rz1]) (rest := []) ⟨hx, hb, hml, hown, hk⟩ (c_W_sign l rz1) (s_W_sign hk k_269 ⟨Nat.le_of_ble_eq_true rfl, Nat.le_of_ble_eq_true rfl⟩) ⟨fun a U g mk q => q, fun U hU hW => ⟨rfl, trivial⟩⟩ rfl rfl hl.1 rfl (lv_room (Nat.le_of_ble_eq_true rfl)) d_M_multiply_19 ⟨Nat.le_of_ble_eq_true rfl, Nat.le_of_ble_eq_true rfl⟩) ?_
  refine lv_topi (fun v7 hv7 => ?_)
  refine lv_iload_n hx hb d_M_multiply_22 rfl (lv_at hl 3 rfl) ?_
  refine cs_i (W.runS (As := [.int a1]) (rest := [.int v7]) ⟨hx, hb, hml, hown, hk⟩ (c_W_sign l a1) (s_W_sign hk k_269 ⟨Nat.le_of_ble_eq_true rfl, Nat.le_of_ble_eq_true rfl⟩) ⟨fun a U g mk q => q, fun U hU hW => ⟨rfl, trivial⟩⟩ rfl rfl hl.1 rfl (lv_room (Nat.le_of_ble_eq_true rfl)) d_M_multiply_23 ⟨Nat.le_of_ble_eq_true rfl, Nat.le_of_ble_eq_true rfl⟩) ?_
  refine lv_topi (fun v8 hv8 => ?_)
  refine lv_ixor hx hb d_M_multiply_26 ?_
  refine lv_topi (fun v9 hv9 => ?_)
  refine lv_istore (lv' := [(5, .int v9), (3, .long v6), (2, .int rz1), (0, .ref p0), (1, .int a1)]) hx hb d_M_multiply_27 hl (by decide) rfl (fun ls hl => ?_)
  refine lv_aload_n hx hb d_M_multiply_29 rfl (lv_at hl 3 rfl) ?_
  refine lv_iconst (v := 0) hx hb d_M_multiply_30 (by decide) ?_
  refine lv_iload hx hb d_M_multiply_31 (lv_at hl 0 rfl) ?_
  refine lv_lload_n hx hb d_M_multiply_33 rfl (lv_at hl 1 rfl) ?_
  refine lv_bipush (v := 30) hx hb d_M_multiply_34 (by decide) ?_
  refine lv_lshr (v := (v6 >>> (((30 : Int32) : Int32).toInt64 &&& 63))) hx hb d_M_multiply_36 rfl ?_
  refine lv_topl (fun v10 hv10 => ?_)
  refine lv_l2i (v := (v10 : Int64).toInt32) hx hb d_M_multiply_37 rfl ?_
  refine lv_topi (fun v11 hv11 => ?_)
  refine cs_i (W.runS (As := [.int v9, .int v11]) (rest := [.int (0 : Int32), .ref p0]) ⟨hx, hb, hml, hown, hk⟩ (c_W_make l v9 v11) (s_W_make hk k_370 ⟨Nat.le_of_ble_eq_true rfl, Nat.le_of_ble_eq_true rfl⟩) ⟨fun a U g mk q => q, fun U hU hW => ⟨rfl, trivial⟩⟩ rfl rfl hl.1 rfl (lv_room (Nat.le_of_ble_eq_true rfl)) d_M_multiply_38 ⟨Nat.le_of_ble_eq_true rfl, Nat.le_of_ble_eq_true rfl⟩) ?_
  refine lv_topi (fun v12 hv12 => ?_)
  refine kn_v (va_runV (C := "SignMachine$Machine") (As := [.int (0 : Int32), .int v12]) (rest := []) ⟨hx, hb, hml, hown, hk⟩ (c_M_putRegister_s2 l K D cI cJ cZ cB p0 p1 p2 p3 p4 p5 p6 H.size x0_4 x0_5 x0_6 x0_7 x0_8 x0_9 x0_10 x0_11 x0_12 x0_13 y1 y2 x3_0 x4_0 y5 y6  (0 : Int32) v12 ) (v_M_putRegister_s2 hk k_362 ⟨Nat.le_of_ble_eq_true rfl, Nat.le_of_ble_eq_true rfl⟩) (pMC_v hK hP hD hC hS hA (ci := 1) (q0 := 0) rfl rfl rfl) rfl rfl hl.1 rfl (lv_room (Nat.le_of_ble_eq_true rfl)) d_M_multiply_41 ⟨by decide, by decide⟩) hS hA hD (fun u t H locs ht hB hFr hS => ?_)
  obtain ⟨y2z13, hP, hD⟩ := hB
  rw [ht] at hP
  have hD := dwk hD hFr
  clear ht hFr
  have hP : va_P D classes (wS60 cI cJ cZ cB p0 p1 p2 p3 p4 p5 p6 x0_4 x0_5 x0_6 x0_7 x0_8 x0_9 x0_10 x0_11 x0_12 x0_13 y1 y2z13 x3_0 x4_0 y5 y6) H := hP
  have hD : va_D A (wS60 cI cJ cZ cB p0 p1 p2 p3 p4 p5 p6 x0_4 x0_5 x0_6 x0_7 x0_8 x0_9 x0_10 x0_11 x0_12 x0_13 y1 y2z13 x3_0 x4_0 y5 y6) := hD
  refine lv_aload_n hx hb d_M_multiply_44 rfl (lv_at hl 3 rfl) ?_
  refine lv_bipush (v := 7) hx hb d_M_multiply_45 (by decide) ?_
  refine lv_iload hx hb d_M_multiply_47 (lv_at hl 0 rfl) ?_
  refine lv_lload_n hx hb d_M_multiply_49 rfl (lv_at hl 1 rfl) ?_
  refine lv_l2i (v := (v6 : Int64).toInt32) hx hb d_M_multiply_50 rfl ?_
  refine lv_topi (fun v14 hv14 => ?_)
  refine lv_ldc (v := 1073741823) hx hb hown (hk _ k_345) d_M_multiply_51 ?_
  refine lv_iand hx hb d_M_multiply_53 ?_
  refine lv_topi (fun v15 hv15 => ?_)
  refine cs_i (W.runS (As := [.int v9, .int v15]) (rest := [.int (7 : Int32), .ref p0]) ⟨hx, hb, hml, hown, hk⟩ (c_W_make l v9 v15) (s_W_make hk k_370 ⟨Nat.le_of_ble_eq_true rfl, Nat.le_of_ble_eq_true rfl⟩) ⟨fun a U g mk q => q, fun U hU hW => ⟨rfl, trivial⟩⟩ rfl rfl hl.1 rfl (lv_room (Nat.le_of_ble_eq_true rfl)) d_M_multiply_54 ⟨Nat.le_of_ble_eq_true rfl, Nat.le_of_ble_eq_true rfl⟩) ?_
  refine lv_topi (fun v16 hv16 => ?_)
  refine kn_v (va_runV (C := "SignMachine$Machine") (As := [.int (7 : Int32), .int v16]) (rest := []) ⟨hx, hb, hml, hown, hk⟩ (c_M_putRegister_s2 l K D cI cJ cZ cB p0 p1 p2 p3 p4 p5 p6 H.size x0_4 x0_5 x0_6 x0_7 x0_8 x0_9 x0_10 x0_11 x0_12 x0_13 y1 y2z13 x3_0 x4_0 y5 y6  (7 : Int32) v16 ) (v_M_putRegister_s2 hk k_362 ⟨Nat.le_of_ble_eq_true rfl, Nat.le_of_ble_eq_true rfl⟩) (pMC_v hK hP hD hC hS hA (ci := 1) (q0 := 0) rfl rfl rfl) rfl rfl hl.1 rfl (lv_room (Nat.le_of_ble_eq_true rfl)) d_M_multiply_57 ⟨by decide, by decide⟩) hS hA hD (fun u t H locs ht hB hFr hS => ?_)
  obtain ⟨y2z17, hP, hD⟩ := hB
  rw [ht] at hP
  have hD := dwk hD hFr
  clear ht hFr
  have hP : va_P D classes (wS60 cI cJ cZ cB p0 p1 p2 p3 p4 p5 p6 x0_4 x0_5 x0_6 x0_7 x0_8 x0_9 x0_10 x0_11 x0_12 x0_13 y1 y2z17 x3_0 x4_0 y5 y6) H := hP
  have hD : va_D A (wS60 cI cJ cZ cB p0 p1 p2 p3 p4 p5 p6 x0_4 x0_5 x0_6 x0_7 x0_8 x0_9 x0_10 x0_11 x0_12 x0_13 y1 y2z17 x3_0 x4_0 y5 y6) := hD
  exact W.vret hx hb hr (fun t ht hW => ⟨⟨(), rfl, trivial, ⟨y2z17, by show va_P D classes _ t.heap; rw [ht]; exact hP, hD⟩⟩, hS.F ht⟩) hS.2.2 d_M_multiply_60
theorem v_M_multiply_s2 {R : Room} {s : State} {args : Array Value} {own : String} {index : Nat} (hk : ∀ w ∈ tb, w.before args s = true) (hl : Cond.methodLink own index y_M_multiply ∈ tb) (hR : 1 + 1 ≤ R.frames ∧ 8 + (6 + 11) + 22 ≤ R.locals) : CallW R s args own "SignMachine$Machine" index y_M_multiply b_M_multiply 6 none (.code y_M_multiply b_M_multiply 6 none :: tb) ({ frames := 1, cells := 0, slots := 0, locals := 22 }) 0 0 1 := mk_v 1 hk k_369 hl k_368 k_14 k_117 rfl rfl h_M_multiply hR
set_option maxHeartbeats 4000000 in
set_option maxRecDepth 100000 in
theorem c_M_sizeOfAX_s2 (l : Launch) (K : CK) (D : va_G) (cI cJ cZ cB : ClassId) (p0 p1 p2 p3 p4 p5 p6 : Nat) (sz : Nat) (x0_4 : Bool) (x0_5 : Int32) (x0_6 : Int32) (x0_7 : Int32) (x0_8 : Int32) (x0_9 : Int32) (x0_10 : Int32) (x0_11 : Int32) (x0_12 : Int32) (x0_13 : Int32) (y1 : Nat → Int32) (y2 : Nat → Int32) (x3_0 : Int32) (x4_0 : Int32) (y5 : Nat → Int32) (y6 : Nat → Int32)   : Met l y_M_sizeOfAX (.code y_M_sizeOfAX b_M_sizeOfAX 1 (some .long) :: tb) ({ frames := 1, cells := 0, slots := 0, locals := 21 }) (pMC K D cI cJ cZ cB (wS60 cI cJ cZ cB p0 p1 p2 p3 p4 p5 p6 x0_4 x0_5 x0_6 x0_7 x0_8 x0_9 x0_10 x0_11 x0_12 x0_13 y1 y2 x3_0 x4_0 y5 y6) sz [.ref p0]) (va_Ql (fun r (_ : Unit) => True) (fun _ t => (va_P D classes (wS60 cI cJ cZ cB p0 p1 p2 p3 p4 p5 p6 x0_4 x0_5 x0_6 x0_7 x0_8 x0_9 x0_10 x0_11 x0_12 x0_13 y1 y2 x3_0 x4_0 y5 y6) t.heap ∧ va_D (va_A (wS60 cI cJ cZ cB p0 p1 p2 p3 p4 p5 p6 x0_4 x0_5 x0_6 x0_7 x0_8 x0_9 x0_10 x0_11 x0_12 x0_13 y1 y2 x3_0 x4_0 y5 y6) sz) (wS60 cI cJ cZ cB p0 p1 p2 p3 p4 p5 p6 x0_4 x0_5 x0_6 x0_7 x0_8 x0_9 x0_10 x0_11 x0_12 x0_13 y1 y2 x3_0 x4_0 y5 y6))) (va_A (wS60 cI cJ cZ cB p0 p1 p2 p3 p4 p5 p6 x0_4 x0_5 x0_6 x0_7 x0_8 x0_9 x0_10 x0_11 x0_12 x0_13 y1 y2 x3_0 x4_0 y5 y6) sz)) 0 0 (va_A (wS60 cI cJ cZ cB p0 p1 p2 p3 p4 p5 p6 x0_4 x0_5 x0_6 x0_7 x0_8 x0_9 x0_10 x0_11 x0_12 x0_13 y1 y2 x3_0 x4_0 y5 y6) sz) := by
  refine Met.ofW (cc := b_M_sizeOfAX) (maxL := 1) (ret := (some .long)) (by decide) rfl ?_
  intro p e s m args below meth c s₁ B hml hv
  obtain ⟨rfl, hsz, hK, hP, hD0, hC⟩ := hv
  subst hsz
  have hD := hD0.self (sz := s.heap.size)
  generalize hAe : va_A (wS60 cI cJ cZ cB p0 p1 p2 p3 p4 p5 p6 x0_4 x0_5 x0_6 x0_7 x0_8 x0_9 x0_10 x0_11 x0_12 x0_13 y1 y2 x3_0 x4_0 y5 y6) s.heap.size = A at hD hC ⊢
  have hA : ∀ q : Nat, s.heap.size ≤ q → A q := fun q h => by rw [← hAe]; exact Or.inr h
  clear hAe hD0
  have hS : va_S A s.heap s.heap [] := va_S.rf
  have hx := B.exec
  have hb := B.bytes
  have hr := B.returns
  have hts := atoms_spec (ws := .code y_M_sizeOfAX b_M_sizeOfAX 1 (some .long) :: tb) B.pre
  have hk : ∀ w ∈ tb, w.before [.ref p0].toArray s = true := fun w h => hts w (List.mem_cons_of_mem _ h)
  have hown : s.vm.findClass "SignMachine$Machine" = some m.cls := findClass_of_methodNamed B.named
  have hlocks := B.notSynchronized
  have hl := lv_entry ([.ref p0]) (n := 1) (Nat.le_of_ble_eq_true rfl)
  rw [lg_entry_eq]
  generalize (lg_sl ([.ref p0]) ++ List.replicate (1 - (lg_sl ([.ref p0])).length) Slot.unset).toArray = ls at hl ⊢
  have hl : lv_has ls 1 [(0, .ref p0)] := hl
  refine lv_aload_n hx hb d_M_sizeOfAX_0 rfl (lv_at hl 0 rfl) ?_
  refine lv_iconst (v := 0) hx hb d_M_sizeOfAX_1 (by decide) ?_
  refine sn_i (va_runV (C := "SignMachine$Machine") (As := [.int (0 : Int32)]) (rest := []) ⟨hx, hb, hml, hown, hk⟩ (c_M_register_s3 l K D cI cJ cZ cB p0 p1 p2 p3 p4 p5 p6 s.heap.size x0_4 x0_5 x0_6 x0_7 x0_8 x0_9 x0_10 x0_11 x0_12 x0_13 y1 y2 x3_0 x4_0 y5 y6  (0 : Int32) ) (v_M_register_s3 hk k_273 ⟨Nat.le_of_ble_eq_true rfl, Nat.le_of_ble_eq_true rfl⟩) (pMC_v hK hP hD hC hS hA (ci := 1) (q0 := 0) rfl rfl rfl) rfl rfl hl.1 rfl (lv_room (Nat.le_of_ble_eq_true rfl)) d_M_sizeOfAX_2 ⟨by decide, by decide⟩) hS hA hD (fun rz1 u t H locs hr0 ht hB hFr hS => ?_)
  obtain ⟨hP, hD⟩ := hB
  rw [ht] at hP
  have hD := dwk hD hFr
  clear ht hFr
  have hP : va_P D classes (wS60 cI cJ cZ cB p0 p1 p2 p3 p4 p5 p6 x0_4 x0_5 x0_6 x0_7 x0_8 x0_9 x0_10 x0_11 x0_12 x0_13 y1 y2 x3_0 x4_0 y5 y6) H := hP
  have hD : va_D A (wS60 cI cJ cZ cB p0 p1 p2 p3 p4 p5 p6 x0_4 x0_5 x0_6 x0_7 x0_8 x0_9 x0_10 x0_11 x0_12 x0_13 y1 y2 x3_0 x4_0 y5 y6) := hD
  refine cs_i (W.runS (As := [.int rz1]) (rest := []) ⟨hx, hb, hml, hown, hk⟩ (c_W_size l rz1) (s_W_size hk k_268 ⟨Nat.le_of_ble_eq_true rfl, Nat.le_of_ble_eq_true rfl⟩) ⟨fun a U g mk q => q, fun U hU hW => ⟨rfl, trivial⟩⟩ rfl rfl hl.1 rfl (lv_room (Nat.le_of_ble_eq_true rfl)) d_M_sizeOfAX_5 ⟨Nat.le_of_ble_eq_true rfl, Nat.le_of_ble_eq_true rfl⟩) ?_
  refine lv_topi (fun v2 hv2 => ?_)
  refine lv_i2l (v := (v2 : Int32).toInt64) hx hb d_M_sizeOfAX_8 rfl ?_
  refine lv_topl (fun v3 hv3 => ?_)
  refine lv_bipush (v := 30) hx hb d_M_sizeOfAX_9 (by decide) ?_
  refine lv_lshl (v := (v3 <<< (((30 : Int32) : Int32).toInt64 &&& 63))) hx hb d_M_sizeOfAX_11 rfl ?_
  refine lv_topl (fun v4 hv4 => ?_)
  refine lv_aload_n hx hb d_M_sizeOfAX_12 rfl (lv_at hl 0 rfl) ?_
  refine lv_bipush (v := 7) hx hb d_M_sizeOfAX_13 (by decide) ?_
  refine sn_i (va_runV (C := "SignMachine$Machine") (As := [.int (7 : Int32)]) (rest := [.long v4]) ⟨hx, hb, hml, hown, hk⟩ (c_M_register_s3 l K D cI cJ cZ cB p0 p1 p2 p3 p4 p5 p6 H.size x0_4 x0_5 x0_6 x0_7 x0_8 x0_9 x0_10 x0_11 x0_12 x0_13 y1 y2 x3_0 x4_0 y5 y6  (7 : Int32) ) (v_M_register_s3 hk k_273 ⟨Nat.le_of_ble_eq_true rfl, Nat.le_of_ble_eq_true rfl⟩) (pMC_v hK hP hD hC hS hA (ci := 1) (q0 := 0) rfl rfl rfl) rfl rfl hl.1 rfl (lv_room (Nat.le_of_ble_eq_true rfl)) d_M_sizeOfAX_15 ⟨by decide, by decide⟩) hS hA hD (fun rz5 u t H locs hr0 ht hB hFr hS => ?_)
  obtain ⟨hP, hD⟩ := hB
  rw [ht] at hP
  have hD := dwk hD hFr
  clear ht hFr
  have hP : va_P D classes (wS60 cI cJ cZ cB p0 p1 p2 p3 p4 p5 p6 x0_4 x0_5 x0_6 x0_7 x0_8 x0_9 x0_10 x0_11 x0_12 x0_13 y1 y2 x3_0 x4_0 y5 y6) H := hP
  have hD : va_D A (wS60 cI cJ cZ cB p0 p1 p2 p3 p4 p5 p6 x0_4 x0_5 x0_6 x0_7 x0_8 x0_9 x0_10 x0_11 x0_12 x0_13 y1 y2 x3_0 x4_0 y5 y6) := hD
  refine cs_i (W.runS (As := [.int rz5]) (rest := [.long v4]) ⟨hx, hb, hml, hown, hk⟩ (c_W_size l rz5) (s_W_size hk k_268 ⟨Nat.le_of_ble_eq_true rfl, Nat.le_of_ble_eq_true rfl⟩) ⟨fun a U g mk q => q, fun U hU hW => ⟨rfl, trivial⟩⟩ rfl rfl hl.1 rfl (lv_room (Nat.le_of_ble_eq_true rfl)) d_M_sizeOfAX_18 ⟨Nat.le_of_ble_eq_true rfl, Nat.le_of_ble_eq_true rfl⟩) ?_
  refine lv_topi (fun v6 hv6 => ?_)
  refine lv_i2l (v := (v6 : Int32).toInt64) hx hb d_M_sizeOfAX_21 rfl ?_
  refine lv_topl (fun v7 hv7 => ?_)
  refine lv_lor hx hb d_M_sizeOfAX_22 ?_
  refine lv_topl (fun v8 hv8 => ?_)
  exact W.lret (v := v8) hx hb hr (fun t ht hW => ⟨⟨v8, (), rfl, trivial, ⟨by show va_P D classes _ t.heap; rw [ht]; exact hP, hD⟩⟩, hS.F ht⟩) hS.2.2 d_M_sizeOfAX_23
theorem v_M_sizeOfAX_s2 {R : Room} {s : State} {args : Array Value} {own : String} {index : Nat} (hk : ∀ w ∈ tb, w.before args s = true) (hl : Cond.methodLink own index y_M_sizeOfAX ∈ tb) (hR : 1 + 1 ≤ R.frames ∧ 8 + (1 + 11) + 21 ≤ R.locals) : CallW R s args own "SignMachine$Machine" index y_M_sizeOfAX b_M_sizeOfAX 1 (some .long) (.code y_M_sizeOfAX b_M_sizeOfAX 1 (some .long) :: tb) ({ frames := 1, cells := 0, slots := 0, locals := 21 }) 0 0 0 := mk_v 0 hk k_378 hl k_377 k_16 k_117 rfl rfl h_M_sizeOfAX hR

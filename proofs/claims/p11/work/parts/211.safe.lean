set_option maxHeartbeats 4000000 in
set_option maxRecDepth 100000 in
theorem c_M_canMove_s1 (l : Launch) (K : CK) (D : va_G) (cI cJ cZ cB : ClassId) (p0 p1 p2 p3 p4 : Nat) (sz : Nat) (x0_4 : Bool) (x0_5 : Int32) (x0_6 : Int32) (x0_7 : Int32) (x0_8 : Int32) (x0_9 : Int32) (x0_10 : Int32) (x0_11 : Int32) (x0_12 : Int32) (x0_13 : Int32) (y1 : Nat → Int32) (y2 : Nat → Int32) (x3_0 : Int32) (x4_0 : Int32)   : Met l y_M_canMove (.code y_M_canMove b_M_canMove 1 (some .boolean) :: tb) ({ frames := 1, cells := 0, slots := 0, locals := 21 }) (pMC K D cI cJ cZ cB (wS51 cI cJ cZ cB p0 p1 p2 p3 p4 x0_4 x0_5 x0_6 x0_7 x0_8 x0_9 x0_10 x0_11 x0_12 x0_13 y1 y2 x3_0 x4_0) sz [.ref p0]) (va_Qi (fun r (_ : Unit) => ∃ z : Bool, r = bI z) (fun _ t => (va_P D classes (wS51 cI cJ cZ cB p0 p1 p2 p3 p4 x0_4 x0_5 x0_6 x0_7 x0_8 x0_9 x0_10 x0_11 x0_12 x0_13 y1 y2 x3_0 x4_0) t.heap ∧ va_D (va_A (wS51 cI cJ cZ cB p0 p1 p2 p3 p4 x0_4 x0_5 x0_6 x0_7 x0_8 x0_9 x0_10 x0_11 x0_12 x0_13 y1 y2 x3_0 x4_0) sz) (wS51 cI cJ cZ cB p0 p1 p2 p3 p4 x0_4 x0_5 x0_6 x0_7 x0_8 x0_9 x0_10 x0_11 x0_12 x0_13 y1 y2 x3_0 x4_0))) (va_A (wS51 cI cJ cZ cB p0 p1 p2 p3 p4 x0_4 x0_5 x0_6 x0_7 x0_8 x0_9 x0_10 x0_11 x0_12 x0_13 y1 y2 x3_0 x4_0) sz)) 0 0 (va_A (wS51 cI cJ cZ cB p0 p1 p2 p3 p4 x0_4 x0_5 x0_6 x0_7 x0_8 x0_9 x0_10 x0_11 x0_12 x0_13 y1 y2 x3_0 x4_0) sz) := by
  refine Met.ofW (cc := b_M_canMove) (maxL := 1) (ret := (some .boolean)) (by decide) rfl ?_
  intro p e s m args below meth c s₁ B hml hv
  obtain ⟨rfl, hsz, hK, hP, hD0, hC⟩ := hv
  subst hsz
  have hD := hD0.self (sz := s.heap.size)
  generalize hAe : va_A (wS51 cI cJ cZ cB p0 p1 p2 p3 p4 x0_4 x0_5 x0_6 x0_7 x0_8 x0_9 x0_10 x0_11 x0_12 x0_13 y1 y2 x3_0 x4_0) s.heap.size = A at hD hC ⊢
  have hA : ∀ q : Nat, s.heap.size ≤ q → A q := fun q h => by rw [← hAe]; exact Or.inr h
  clear hAe hD0
  have hS : va_S A s.heap s.heap [] := va_S.rf
  have hx := B.exec
  have hb := B.bytes
  have hr := B.returns
  have hts := atoms_spec (ws := .code y_M_canMove b_M_canMove 1 (some .boolean) :: tb) B.pre
  have hk : ∀ w ∈ tb, w.before [.ref p0].toArray s = true := fun w h => hts w (List.mem_cons_of_mem _ h)
  have hown : s.vm.findClass "SignMachine$Machine" = some m.cls := findClass_of_methodNamed B.named
  have hlocks := B.notSynchronized
  have hl := lv_entry ([.ref p0]) (n := 1) (Nat.le_of_ble_eq_true rfl)
  rw [lg_entry_eq]
  generalize (lg_sl ([.ref p0]) ++ List.replicate (1 - (lg_sl ([.ref p0])).length) Slot.unset).toArray = ls at hl ⊢
  have hl : lv_has ls 1 [(0, .ref p0)] := hl
  refine lv_aload_n hx hb d_M_canMove_0 rfl (lv_at hl 0 rfl) ?_
  refine va_get (D := D) (ci := 1) (v := .int x0_10) (C := "SignMachine$Machine") (T := F_M) (N := 14) hx hb hk fi_M hown hK.1 hP 0 rfl rfl 10 (by decide) (hk _ k_177) (fun _ h9 => h9) rfl d_M_canMove_1 ?_
  refine lv_if_eq (tgt := 39) hx hb d_M_canMove_4 (by decide) (fun c1 => ?_) (fun c1 => ?_)
  · refine lv_iconst (v := 1) hx hb d_M_canMove_39 (by decide) ?_
    refine lv_goto (tgt := 44) hx hb d_M_canMove_40 (by decide) ?_
    exact W.zret (v := (1 : Int32)) hx hb hr rfl (fun t ht hW => ⟨⟨(1 : Int32), (), rfl, ⟨true, rfl⟩, ⟨by show va_P D classes _ t.heap; rw [ht]; exact hP, hD⟩⟩, hS.F ht⟩) hS.2.2 d_M_canMove_44
  · refine lv_aload_n hx hb d_M_canMove_7 rfl (lv_at hl 0 rfl) ?_
    refine va_get (D := D) (ci := 1) (v := .int x0_12) (C := "SignMachine$Machine") (T := F_M) (N := 14) hx hb hk fi_M hown hK.1 hP 0 rfl rfl 12 (by decide) (hk _ k_179) (fun _ h9 => h9) rfl d_M_canMove_8 ?_
    refine lv_aload_n hx hb d_M_canMove_11 rfl (lv_at hl 0 rfl) ?_
    refine va_get (D := D) (ci := 1) (v := .int x0_10) (C := "SignMachine$Machine") (T := F_M) (N := 14) hx hb hk fi_M hown hK.1 hP 0 rfl rfl 10 (by decide) (hk _ k_177) (fun _ h9 => h9) rfl d_M_canMove_12 ?_
    refine cs_i (W.runS (As := [.int x0_12, .int x0_10]) (rest := []) ⟨hx, hb, hml, hown, hk⟩ (c_M_hasWords l x0_12 x0_10) (s_M_hasWords hk k_303 ⟨Nat.le_of_ble_eq_true rfl, Nat.le_of_ble_eq_true rfl⟩) ⟨fun a U g mk q => q, fun U hU hW => ⟨rfl, trivial⟩⟩ rfl rfl hl.1 rfl (lv_room (Nat.le_of_ble_eq_true rfl)) d_M_canMove_15 ⟨Nat.le_of_ble_eq_true rfl, Nat.le_of_ble_eq_true rfl⟩) ?_
    obtain ⟨z2, hz2⟩ : ∃ y : Bool, y = (f_M_hasWords x0_12 x0_10) := ⟨_, rfl⟩
    rw [← hz2]
    refine lv_if_eq (tgt := 43) hx hb d_M_canMove_18 (by decide) (fun c3 => ?_) (fun c3 => ?_)
    · refine lv_iconst (v := 0) hx hb d_M_canMove_43 (by decide) ?_
      exact W.zret (v := (0 : Int32)) hx hb hr rfl (fun t ht hW => ⟨⟨(0 : Int32), (), rfl, ⟨false, rfl⟩, ⟨by show va_P D classes _ t.heap; rw [ht]; exact hP, hD⟩⟩, hS.F ht⟩) hS.2.2 d_M_canMove_44
    · refine lv_aload_n hx hb d_M_canMove_21 rfl (lv_at hl 0 rfl) ?_
      refine lv_iconst (v := 1) hx hb d_M_canMove_22 (by decide) ?_
      refine sn_i (va_runV (C := "SignMachine$Machine") (As := [.int (1 : Int32)]) (rest := []) ⟨hx, hb, hml, hown, hk⟩ (c_M_register_s1 l K D cI cJ cZ cB p0 p1 p2 p3 p4 s.heap.size x0_4 x0_5 x0_6 x0_7 x0_8 x0_9 x0_10 x0_11 x0_12 x0_13 y1 y2 x3_0 x4_0  (1 : Int32) ) (v_M_register_s1 hk k_273 ⟨Nat.le_of_ble_eq_true rfl, Nat.le_of_ble_eq_true rfl⟩) (pMC_v hK hP hD hC hS hA (ci := 1) (q0 := 0) rfl rfl rfl) rfl rfl hl.1 rfl (lv_room (Nat.le_of_ble_eq_true rfl)) d_M_canMove_23 ⟨by decide, by decide⟩) hS hA hD (fun rz4 u t H locs hr0 ht hB hFr hS => ?_)
      obtain ⟨hP, hD⟩ := hB
      rw [ht] at hP
      have hD := dwk hD hFr
      clear ht hFr
      have hP : va_P D classes (wS51 cI cJ cZ cB p0 p1 p2 p3 p4 x0_4 x0_5 x0_6 x0_7 x0_8 x0_9 x0_10 x0_11 x0_12 x0_13 y1 y2 x3_0 x4_0) H := hP
      have hD : va_D A (wS51 cI cJ cZ cB p0 p1 p2 p3 p4 x0_4 x0_5 x0_6 x0_7 x0_8 x0_9 x0_10 x0_11 x0_12 x0_13 y1 y2 x3_0 x4_0) := hD
      refine cs_i (W.runS (As := [.int rz4]) (rest := []) ⟨hx, hb, hml, hown, hk⟩ (c_W_number l rz4) (s_W_number hk k_277 ⟨Nat.le_of_ble_eq_true rfl, Nat.le_of_ble_eq_true rfl⟩) ⟨fun a U g mk q => q, fun U hU hW => ⟨rfl, trivial⟩⟩ rfl rfl hl.1 rfl (lv_room (Nat.le_of_ble_eq_true rfl)) d_M_canMove_26 ⟨Nat.le_of_ble_eq_true rfl, Nat.le_of_ble_eq_true rfl⟩) ?_
      refine lv_topi (fun v5 hv5 => ?_)
      refine lv_aload_n hx hb d_M_canMove_29 rfl (lv_at hl 0 rfl) ?_
      refine va_get (D := D) (ci := 1) (v := .int x0_10) (C := "SignMachine$Machine") (T := F_M) (N := 14) hx hb hk fi_M hown hK.1 hP 0 rfl rfl 10 (by decide) (hk _ k_177) (fun _ h9 => h9) rfl d_M_canMove_30 ?_
      refine cs_i (W.runS (As := [.int v5, .int x0_10]) (rest := []) ⟨hx, hb, hml, hown, hk⟩ (c_M_hasWords l v5 x0_10) (s_M_hasWords hk k_303 ⟨Nat.le_of_ble_eq_true rfl, Nat.le_of_ble_eq_true rfl⟩) ⟨fun a U g mk q => q, fun U hU hW => ⟨rfl, trivial⟩⟩ rfl rfl hl.1 rfl (lv_room (Nat.le_of_ble_eq_true rfl)) d_M_canMove_33 ⟨Nat.le_of_ble_eq_true rfl, Nat.le_of_ble_eq_true rfl⟩) ?_
      obtain ⟨z6, hz6⟩ : ∃ y : Bool, y = (f_M_hasWords v5 x0_10) := ⟨_, rfl⟩
      rw [← hz6]
      refine lv_if_eq (tgt := 43) hx hb d_M_canMove_36 (by decide) (fun c7 => ?_) (fun c7 => ?_)
      · refine lv_iconst (v := 0) hx hb d_M_canMove_43 (by decide) ?_
        exact W.zret (v := (0 : Int32)) hx hb hr rfl (fun t ht hW => ⟨⟨(0 : Int32), (), rfl, ⟨false, rfl⟩, ⟨by show va_P D classes _ t.heap; rw [ht]; exact hP, hD⟩⟩, hS.F ht⟩) hS.2.2 d_M_canMove_44
      · refine lv_iconst (v := 1) hx hb d_M_canMove_39 (by decide) ?_
        refine lv_goto (tgt := 44) hx hb d_M_canMove_40 (by decide) ?_
        exact W.zret (v := (1 : Int32)) hx hb hr rfl (fun t ht hW => ⟨⟨(1 : Int32), (), rfl, ⟨true, rfl⟩, ⟨by show va_P D classes _ t.heap; rw [ht]; exact hP, hD⟩⟩, hS.F ht⟩) hS.2.2 d_M_canMove_44
theorem v_M_canMove_s1 {R : Room} {s : State} {args : Array Value} {own : String} {index : Nat} (hk : ∀ w ∈ tb, w.before args s = true) (hl : Cond.methodLink own index y_M_canMove ∈ tb) (hR : 1 + 1 ≤ R.frames ∧ 8 + (1 + 11) + 21 ≤ R.locals) : CallW R s args own "SignMachine$Machine" index y_M_canMove b_M_canMove 1 (some .boolean) (.code y_M_canMove b_M_canMove 1 (some .boolean) :: tb) ({ frames := 1, cells := 0, slots := 0, locals := 21 }) 0 0 0 := mk_v 0 hk k_302 hl k_301 k_5 k_117 rfl rfl h_M_canMove hR
set_option maxHeartbeats 4000000 in
set_option maxRecDepth 100000 in
theorem c_M_addressCanBe_s1 (l : Launch) (K : CK) (D : va_G) (cI cJ cZ cB : ClassId) (p0 p1 p2 p3 p4 : Nat) (sz : Nat) (x0_4 : Bool) (x0_5 : Int32) (x0_6 : Int32) (x0_7 : Int32) (x0_8 : Int32) (x0_9 : Int32) (x0_10 : Int32) (x0_11 : Int32) (x0_12 : Int32) (x0_13 : Int32) (y1 : Nat → Int32) (y2 : Nat → Int32) (x3_0 : Int32) (x4_0 : Int32)   : Met l y_M_addressCanBe (.code y_M_addressCanBe b_M_addressCanBe 1 (some .boolean) :: tb) ({ frames := 2, cells := 0, slots := 0, locals := 41 }) (pMC K D cI cJ cZ cB (wS51 cI cJ cZ cB p0 p1 p2 p3 p4 x0_4 x0_5 x0_6 x0_7 x0_8 x0_9 x0_10 x0_11 x0_12 x0_13 y1 y2 x3_0 x4_0) sz [.ref p0]) (va_Qi (fun r (_ : Unit) => ∃ z : Bool, r = bI z) (fun _ t => (va_P D classes (wS51 cI cJ cZ cB p0 p1 p2 p3 p4 x0_4 x0_5 x0_6 x0_7 x0_8 x0_9 x0_10 x0_11 x0_12 x0_13 y1 y2 x3_0 x4_0) t.heap ∧ va_D (va_A (wS51 cI cJ cZ cB p0 p1 p2 p3 p4 x0_4 x0_5 x0_6 x0_7 x0_8 x0_9 x0_10 x0_11 x0_12 x0_13 y1 y2 x3_0 x4_0) sz) (wS51 cI cJ cZ cB p0 p1 p2 p3 p4 x0_4 x0_5 x0_6 x0_7 x0_8 x0_9 x0_10 x0_11 x0_12 x0_13 y1 y2 x3_0 x4_0))) (va_A (wS51 cI cJ cZ cB p0 p1 p2 p3 p4 x0_4 x0_5 x0_6 x0_7 x0_8 x0_9 x0_10 x0_11 x0_12 x0_13 y1 y2 x3_0 x4_0) sz)) 0 0 (va_A (wS51 cI cJ cZ cB p0 p1 p2 p3 p4 x0_4 x0_5 x0_6 x0_7 x0_8 x0_9 x0_10 x0_11 x0_12 x0_13 y1 y2 x3_0 x4_0) sz) := by
  refine Met.ofW (cc := b_M_addressCanBe) (maxL := 1) (ret := (some .boolean)) (by decide) rfl ?_
  intro p e s m args below meth c s₁ B hml hv
  obtain ⟨rfl, hsz, hK, hP, hD0, hC⟩ := hv
  subst hsz
  have hD := hD0.self (sz := s.heap.size)
  generalize hAe : va_A (wS51 cI cJ cZ cB p0 p1 p2 p3 p4 x0_4 x0_5 x0_6 x0_7 x0_8 x0_9 x0_10 x0_11 x0_12 x0_13 y1 y2 x3_0 x4_0) s.heap.size = A at hD hC ⊢
  have hA : ∀ q : Nat, s.heap.size ≤ q → A q := fun q h => by rw [← hAe]; exact Or.inr h
  clear hAe hD0
  have hS : va_S A s.heap s.heap [] := va_S.rf
  have hx := B.exec
  have hb := B.bytes
  have hr := B.returns
  have hts := atoms_spec (ws := .code y_M_addressCanBe b_M_addressCanBe 1 (some .boolean) :: tb) B.pre
  have hk : ∀ w ∈ tb, w.before [.ref p0].toArray s = true := fun w h => hts w (List.mem_cons_of_mem _ h)
  have hown : s.vm.findClass "SignMachine$Machine" = some m.cls := findClass_of_methodNamed B.named
  have hlocks := B.notSynchronized
  have hl := lv_entry ([.ref p0]) (n := 1) (Nat.le_of_ble_eq_true rfl)
  rw [lg_entry_eq]
  generalize (lg_sl ([.ref p0]) ++ List.replicate (1 - (lg_sl ([.ref p0])).length) Slot.unset).toArray = ls at hl ⊢
  have hl : lv_has ls 1 [(0, .ref p0)] := hl
  refine lv_aload_n hx hb d_M_addressCanBe_0 rfl (lv_at hl 0 rfl) ?_
  refine sn_i (va_runV (C := "SignMachine$Machine") (As := []) (rest := []) ⟨hx, hb, hml, hown, hk⟩ (c_M_hasFieldOfWord_s1 l K D cI cJ cZ cB p0 p1 p2 p3 p4 s.heap.size x0_4 x0_5 x0_6 x0_7 x0_8 x0_9 x0_10 x0_11 x0_12 x0_13 y1 y2 x3_0 x4_0   ) (v_M_hasFieldOfWord_s1 hk k_288 ⟨Nat.le_of_ble_eq_true rfl, Nat.le_of_ble_eq_true rfl⟩) (pMC_v hK hP hD hC hS hA (ci := 1) (q0 := 0) rfl rfl rfl) rfl rfl hl.1 rfl (lv_room (Nat.le_of_ble_eq_true rfl)) d_M_addressCanBe_1 ⟨by decide, by decide⟩) hS hA hD (fun rz1 u t H locs hr0 ht hB hFr hS => ?_)
  obtain ⟨z1, hz1⟩ := hr0
  subst hz1
  obtain ⟨hP, hD⟩ := hB
  rw [ht] at hP
  have hD := dwk hD hFr
  clear ht hFr
  have hP : va_P D classes (wS51 cI cJ cZ cB p0 p1 p2 p3 p4 x0_4 x0_5 x0_6 x0_7 x0_8 x0_9 x0_10 x0_11 x0_12 x0_13 y1 y2 x3_0 x4_0) H := hP
  have hD : va_D A (wS51 cI cJ cZ cB p0 p1 p2 p3 p4 x0_4 x0_5 x0_6 x0_7 x0_8 x0_9 x0_10 x0_11 x0_12 x0_13 y1 y2 x3_0 x4_0) := hD
  refine lv_if_eq (tgt := 15) hx hb d_M_addressCanBe_4 (by decide) (fun c2 => ?_) (fun c2 => ?_)
  · refine lv_aload_n hx hb d_M_addressCanBe_15 rfl (lv_at hl 0 rfl) ?_
    refine va_get (D := D) (ci := 1) (v := .int x0_9) (C := "SignMachine$Machine") (T := F_M) (N := 14) hx hb hk fi_M hown hK.1 hP 0 rfl rfl 9 (by decide) (hk _ k_176) (fun _ h9 => h9) rfl d_M_addressCanBe_16 ?_
    by_cases c3 : x0_9 = (0 : Int32)
    · refine lv_lookup (off := 65) (tgt := 84) hx hb d_M_addressCanBe_19 (by decide) (by rw [c3]; rfl) (by decide) ?_
      refine lv_iconst (v := 1) hx hb d_M_addressCanBe_84 (by decide) ?_
      exact W.zret (v := (1 : Int32)) hx hb hr rfl (fun t ht hW => ⟨⟨(1 : Int32), (), rfl, ⟨true, rfl⟩, ⟨by show va_P D classes _ t.heap; rw [ht]; exact hP, hD⟩⟩, hS.F ht⟩) hS.2.2 d_M_addressCanBe_85
    · by_cases c4 : x0_9 = (5 : Int32)
      · refine lv_lookup (off := 65) (tgt := 84) hx hb d_M_addressCanBe_19 (by decide) (by rw [c4]; rfl) (by decide) ?_
        refine lv_iconst (v := 1) hx hb d_M_addressCanBe_84 (by decide) ?_
        exact W.zret (v := (1 : Int32)) hx hb hr rfl (fun t ht hW => ⟨⟨(1 : Int32), (), rfl, ⟨true, rfl⟩, ⟨by show va_P D classes _ t.heap; rw [ht]; exact hP, hD⟩⟩, hS.F ht⟩) hS.2.2 d_M_addressCanBe_85
      · by_cases c5 : x0_9 = (6 : Int32)
        · refine lv_lookup (off := 67) (tgt := 86) hx hb d_M_addressCanBe_19 (by decide) (by rw [c5]; rfl) (by decide) ?_
          refine lv_aload_n hx hb d_M_addressCanBe_86 rfl (lv_at hl 0 rfl) ?_
          refine va_get (D := D) (ci := 1) (v := .int x0_12) (C := "SignMachine$Machine") (T := F_M) (N := 14) hx hb hk fi_M hown hK.1 hP 0 rfl rfl 12 (by decide) (hk _ k_179) (fun _ h9 => h9) rfl d_M_addressCanBe_87 ?_
          refine lv_if_lt (tgt := 97) hx hb d_M_addressCanBe_90 (by decide) (fun c6 => ?_) (fun c6 => ?_)
          · refine lv_iconst (v := 0) hx hb d_M_addressCanBe_97 (by decide) ?_
            exact W.zret (v := (0 : Int32)) hx hb hr rfl (fun t ht hW => ⟨⟨(0 : Int32), (), rfl, ⟨false, rfl⟩, ⟨by show va_P D classes _ t.heap; rw [ht]; exact hP, hD⟩⟩, hS.F ht⟩) hS.2.2 d_M_addressCanBe_98
          · refine lv_iconst (v := 1) hx hb d_M_addressCanBe_93 (by decide) ?_
            refine lv_goto (tgt := 98) hx hb d_M_addressCanBe_94 (by decide) ?_
            exact W.zret (v := (1 : Int32)) hx hb hr rfl (fun t ht hW => ⟨⟨(1 : Int32), (), rfl, ⟨true, rfl⟩, ⟨by show va_P D classes _ t.heap; rw [ht]; exact hP, hD⟩⟩, hS.F ht⟩) hS.2.2 d_M_addressCanBe_98
        · by_cases c7 : x0_9 = (7 : Int32)
          · refine lv_lookup (off := 80) (tgt := 99) hx hb d_M_addressCanBe_19 (by decide) (by rw [c7]; rfl) (by decide) ?_
            refine lv_aload_n hx hb d_M_addressCanBe_99 rfl (lv_at hl 0 rfl) ?_
            refine sn_i (va_runV (C := "SignMachine$Machine") (As := []) (rest := []) ⟨hx, hb, hml, hown, hk⟩ (c_M_canMove_s1 l K D cI cJ cZ cB p0 p1 p2 p3 p4 H.size x0_4 x0_5 x0_6 x0_7 x0_8 x0_9 x0_10 x0_11 x0_12 x0_13 y1 y2 x3_0 x4_0   ) (v_M_canMove_s1 hk k_299 ⟨Nat.le_of_ble_eq_true rfl, Nat.le_of_ble_eq_true rfl⟩) (pMC_v hK hP hD hC hS hA (ci := 1) (q0 := 0) rfl rfl rfl) rfl rfl hl.1 rfl (lv_room (Nat.le_of_ble_eq_true rfl)) d_M_addressCanBe_100 ⟨by decide, by decide⟩) hS hA hD (fun rz8 u t H locs hr0 ht hB hFr hS => ?_)
            obtain ⟨z8, hz8⟩ := hr0
            subst hz8
            obtain ⟨hP, hD⟩ := hB
            rw [ht] at hP
            have hD := dwk hD hFr
            clear ht hFr
            have hP : va_P D classes (wS51 cI cJ cZ cB p0 p1 p2 p3 p4 x0_4 x0_5 x0_6 x0_7 x0_8 x0_9 x0_10 x0_11 x0_12 x0_13 y1 y2 x3_0 x4_0) H := hP
            have hD : va_D A (wS51 cI cJ cZ cB p0 p1 p2 p3 p4 x0_4 x0_5 x0_6 x0_7 x0_8 x0_9 x0_10 x0_11 x0_12 x0_13 y1 y2 x3_0 x4_0) := hD
            exact W.zret (v := (bI z8)) hx hb hr (nar_bI z8) (fun t ht hW => ⟨⟨(bI z8), (), rfl, ⟨z8, rfl⟩, ⟨by show va_P D classes _ t.heap; rw [ht]; exact hP, hD⟩⟩, hS.F ht⟩) hS.2.2 d_M_addressCanBe_103
          · by_cases c9 : x0_9 = (35 : Int32)
            · refine lv_lookup (off := 65) (tgt := 84) hx hb d_M_addressCanBe_19 (by decide) (by rw [c9]; rfl) (by decide) ?_
              refine lv_iconst (v := 1) hx hb d_M_addressCanBe_84 (by decide) ?_
              exact W.zret (v := (1 : Int32)) hx hb hr rfl (fun t ht hW => ⟨⟨(1 : Int32), (), rfl, ⟨true, rfl⟩, ⟨by show va_P D classes _ t.heap; rw [ht]; exact hP, hD⟩⟩, hS.F ht⟩) hS.2.2 d_M_addressCanBe_85
            · by_cases c10 : x0_9 = (36 : Int32)
              · refine lv_lookup (off := 85) (tgt := 104) hx hb d_M_addressCanBe_19 (by decide) (by rw [c10]; rfl) (by decide) ?_
                refine lv_aload_n hx hb d_M_addressCanBe_104 rfl (lv_at hl 0 rfl) ?_
                refine va_get (D := D) (ci := 1) (v := .int x0_12) (C := "SignMachine$Machine") (T := F_M) (N := 14) hx hb hk fi_M hown hK.1 hP 0 rfl rfl 12 (by decide) (hk _ k_179) (fun _ h9 => h9) rfl d_M_addressCanBe_105 ?_
                refine lv_bipush (v := 100) hx hb d_M_addressCanBe_108 (by decide) ?_
                refine cs_i (W.runS (As := [.int x0_12, .int (100 : Int32)]) (rest := []) ⟨hx, hb, hml, hown, hk⟩ (c_M_hasWords l x0_12 (100 : Int32)) (s_M_hasWords hk k_303 ⟨Nat.le_of_ble_eq_true rfl, Nat.le_of_ble_eq_true rfl⟩) ⟨fun a U g mk q => q, fun U hU hW => ⟨rfl, trivial⟩⟩ rfl rfl hl.1 rfl (lv_room (Nat.le_of_ble_eq_true rfl)) d_M_addressCanBe_110 ⟨Nat.le_of_ble_eq_true rfl, Nat.le_of_ble_eq_true rfl⟩) ?_
                obtain ⟨z11, hz11⟩ : ∃ y : Bool, y = (f_M_hasWords x0_12 (100 : Int32)) := ⟨_, rfl⟩
                rw [← hz11]
                exact W.zret (v := (bI z11)) hx hb hr (nar_bI z11) (fun t ht hW => ⟨⟨(bI z11), (), rfl, ⟨z11, rfl⟩, ⟨by show va_P D classes _ t.heap; rw [ht]; exact hP, hD⟩⟩, hS.F ht⟩) hS.2.2 d_M_addressCanBe_113
              · by_cases c12 : x0_9 = (37 : Int32)
                · refine lv_lookup (off := 85) (tgt := 104) hx hb d_M_addressCanBe_19 (by decide) (by rw [c12]; rfl) (by decide) ?_
                  refine lv_aload_n hx hb d_M_addressCanBe_104 rfl (lv_at hl 0 rfl) ?_
                  refine va_get (D := D) (ci := 1) (v := .int x0_12) (C := "SignMachine$Machine") (T := F_M) (N := 14) hx hb hk fi_M hown hK.1 hP 0 rfl rfl 12 (by decide) (hk _ k_179) (fun _ h9 => h9) rfl d_M_addressCanBe_105 ?_
                  refine lv_bipush (v := 100) hx hb d_M_addressCanBe_108 (by decide) ?_
                  refine cs_i (W.runS (As := [.int x0_12, .int (100 : Int32)]) (rest := []) ⟨hx, hb, hml, hown, hk⟩ (c_M_hasWords l x0_12 (100 : Int32)) (s_M_hasWords hk k_303 ⟨Nat.le_of_ble_eq_true rfl, Nat.le_of_ble_eq_true rfl⟩) ⟨fun a U g mk q => q, fun U hU hW => ⟨rfl, trivial⟩⟩ rfl rfl hl.1 rfl (lv_room (Nat.le_of_ble_eq_true rfl)) d_M_addressCanBe_110 ⟨Nat.le_of_ble_eq_true rfl, Nat.le_of_ble_eq_true rfl⟩) ?_
                  obtain ⟨z13, hz13⟩ : ∃ y : Bool, y = (f_M_hasWords x0_12 (100 : Int32)) := ⟨_, rfl⟩
                  rw [← hz13]
                  exact W.zret (v := (bI z13)) hx hb hr (nar_bI z13) (fun t ht hW => ⟨⟨(bI z13), (), rfl, ⟨z13, rfl⟩, ⟨by show va_P D classes _ t.heap; rw [ht]; exact hP, hD⟩⟩, hS.F ht⟩) hS.2.2 d_M_addressCanBe_113
                · refine lv_lookup (off := 95) (tgt := 114) hx hb d_M_addressCanBe_19 (by decide) (by show Op.lookupswitch.offset [(0, 65), (5, 65), (6, 67), (7, 80), (35, 65), (36, 85), (37, 85)] 95 _ = _; rw [lv_osw c3 (a := 0) rfl, lv_osw c4 (a := 5) rfl, lv_osw c5 (a := 6) rfl, lv_osw c7 (a := 7) rfl, lv_osw c9 (a := 35) rfl, lv_osw c10 (a := 36) rfl, lv_osw c12 (a := 37) rfl]; rfl) (by decide) ?_
                  refine lv_aload_n hx hb d_M_addressCanBe_114 rfl (lv_at hl 0 rfl) ?_
                  refine va_get (D := D) (ci := 1) (v := .int x0_9) (C := "SignMachine$Machine") (T := F_M) (N := 14) hx hb hk fi_M hown hK.1 hP 0 rfl rfl 9 (by decide) (hk _ k_176) (fun _ h9 => h9) rfl d_M_addressCanBe_115 ?_
                  refine lv_bipush (v := 48) hx hb d_M_addressCanBe_118 (by decide) ?_
                  refine lv_icmp_ge (tgt := 133) hx hb d_M_addressCanBe_120 (by decide) (fun c14 => ?_) (fun c14 => ?_)
                  · refine lv_iconst (v := 1) hx hb d_M_addressCanBe_133 (by decide) ?_
                    refine lv_goto (tgt := 138) hx hb d_M_addressCanBe_134 (by decide) ?_
                    exact W.zret (v := (1 : Int32)) hx hb hr rfl (fun t ht hW => ⟨⟨(1 : Int32), (), rfl, ⟨true, rfl⟩, ⟨by show va_P D classes _ t.heap; rw [ht]; exact hP, hD⟩⟩, hS.F ht⟩) hS.2.2 d_M_addressCanBe_138
                  · refine lv_aload_n hx hb d_M_addressCanBe_123 rfl (lv_at hl 0 rfl) ?_
                    refine va_get (D := D) (ci := 1) (v := .int x0_12) (C := "SignMachine$Machine") (T := F_M) (N := 14) hx hb hk fi_M hown hK.1 hP 0 rfl rfl 12 (by decide) (hk _ k_179) (fun _ h9 => h9) rfl d_M_addressCanBe_124 ?_
                    refine cs_i (W.runS (As := [.int x0_12]) (rest := []) ⟨hx, hb, hml, hown, hk⟩ (c_M_isAddress l x0_12) (s_M_isAddress hk k_262 ⟨Nat.le_of_ble_eq_true rfl, Nat.le_of_ble_eq_true rfl⟩) ⟨fun a U g mk q => q, fun U hU hW => ⟨rfl, trivial⟩⟩ rfl rfl hl.1 rfl (lv_room (Nat.le_of_ble_eq_true rfl)) d_M_addressCanBe_127 ⟨Nat.le_of_ble_eq_true rfl, Nat.le_of_ble_eq_true rfl⟩) ?_
                    obtain ⟨z15, hz15⟩ : ∃ y : Bool, y = (f_M_isAddress x0_12) := ⟨_, rfl⟩
                    rw [← hz15]
                    refine lv_if_eq (tgt := 137) hx hb d_M_addressCanBe_130 (by decide) (fun c16 => ?_) (fun c16 => ?_)
                    · refine lv_iconst (v := 0) hx hb d_M_addressCanBe_137 (by decide) ?_
                      exact W.zret (v := (0 : Int32)) hx hb hr rfl (fun t ht hW => ⟨⟨(0 : Int32), (), rfl, ⟨false, rfl⟩, ⟨by show va_P D classes _ t.heap; rw [ht]; exact hP, hD⟩⟩, hS.F ht⟩) hS.2.2 d_M_addressCanBe_138
                    · refine lv_iconst (v := 1) hx hb d_M_addressCanBe_133 (by decide) ?_
                      refine lv_goto (tgt := 138) hx hb d_M_addressCanBe_134 (by decide) ?_
                      exact W.zret (v := (1 : Int32)) hx hb hr rfl (fun t ht hW => ⟨⟨(1 : Int32), (), rfl, ⟨true, rfl⟩, ⟨by show va_P D classes _ t.heap; rw [ht]; exact hP, hD⟩⟩, hS.F ht⟩) hS.2.2 d_M_addressCanBe_138
  · refine lv_aload_n hx hb d_M_addressCanBe_7 rfl (lv_at hl 0 rfl) ?_
    refine va_get (D := D) (ci := 1) (v := .int x0_12) (C := "SignMachine$Machine") (T := F_M) (N := 14) hx hb hk fi_M hown hK.1 hP 0 rfl rfl 12 (by decide) (hk _ k_179) (fun _ h9 => h9) rfl d_M_addressCanBe_8 ?_
    refine cs_i (W.runS (As := [.int x0_12]) (rest := []) ⟨hx, hb, hml, hown, hk⟩ (c_M_isAddress l x0_12) (s_M_isAddress hk k_262 ⟨Nat.le_of_ble_eq_true rfl, Nat.le_of_ble_eq_true rfl⟩) ⟨fun a U g mk q => q, fun U hU hW => ⟨rfl, trivial⟩⟩ rfl rfl hl.1 rfl (lv_room (Nat.le_of_ble_eq_true rfl)) d_M_addressCanBe_11 ⟨Nat.le_of_ble_eq_true rfl, Nat.le_of_ble_eq_true rfl⟩) ?_
    obtain ⟨z17, hz17⟩ : ∃ y : Bool, y = (f_M_isAddress x0_12) := ⟨_, rfl⟩
    rw [← hz17]
    exact W.zret (v := (bI z17)) hx hb hr (nar_bI z17) (fun t ht hW => ⟨⟨(bI z17), (), rfl, ⟨z17, rfl⟩, ⟨by show va_P D classes _ t.heap; rw [ht]; exact hP, hD⟩⟩, hS.F ht⟩) hS.2.2 d_M_addressCanBe_14
theorem v_M_addressCanBe_s1 {R : Room} {s : State} {args : Array Value} {own : String} {index : Nat} (hk : ∀ w ∈ tb, w.before args s = true) (hl : Cond.methodLink own index y_M_addressCanBe ∈ tb) (hR : 2 + 1 ≤ R.frames ∧ 8 + (1 + 11) + 41 ≤ R.locals) : CallW R s args own "SignMachine$Machine" index y_M_addressCanBe b_M_addressCanBe 1 (some .boolean) (.code y_M_addressCanBe b_M_addressCanBe 1 (some .boolean) :: tb) ({ frames := 2, cells := 0, slots := 0, locals := 41 }) 0 0 0 := mk_v 0 hk k_298 hl k_297 k_4 k_117 rfl rfl h_M_addressCanBe hR
set_option maxHeartbeats 4000000 in
set_option maxRecDepth 100000 in
theorem c_M_value_s1 (l : Launch) (K : CK) (D : va_G) (cI cJ cZ cB : ClassId) (p0 p1 p2 p3 p4 : Nat) (sz : Nat) (x0_4 : Bool) (x0_5 : Int32) (x0_6 : Int32) (x0_7 : Int32) (x0_8 : Int32) (x0_9 : Int32) (x0_10 : Int32) (x0_11 : Int32) (x0_12 : Int32) (x0_13 : Int32) (y1 : Nat → Int32) (y2 : Nat → Int32) (x3_0 : Int32) (x4_0 : Int32)   : Met l y_M_value (.code y_M_value b_M_value 1 (some .int) :: tb) ({ frames := 2, cells := 0, slots := 0, locals := 45 }) (pMC K D cI cJ cZ cB (wS51 cI cJ cZ cB p0 p1 p2 p3 p4 x0_4 x0_5 x0_6 x0_7 x0_8 x0_9 x0_10 x0_11 x0_12 x0_13 y1 y2 x3_0 x4_0) sz [.ref p0]) (va_Qi (fun r (_ : Unit) => True) (fun _ t => (va_P D classes (wS51 cI cJ cZ cB p0 p1 p2 p3 p4 x0_4 x0_5 x0_6 x0_7 x0_8 x0_9 x0_10 x0_11 x0_12 x0_13 y1 y2 x3_0 x4_0) t.heap ∧ va_D (va_A (wS51 cI cJ cZ cB p0 p1 p2 p3 p4 x0_4 x0_5 x0_6 x0_7 x0_8 x0_9 x0_10 x0_11 x0_12 x0_13 y1 y2 x3_0 x4_0) sz) (wS51 cI cJ cZ cB p0 p1 p2 p3 p4 x0_4 x0_5 x0_6 x0_7 x0_8 x0_9 x0_10 x0_11 x0_12 x0_13 y1 y2 x3_0 x4_0))) (va_A (wS51 cI cJ cZ cB p0 p1 p2 p3 p4 x0_4 x0_5 x0_6 x0_7 x0_8 x0_9 x0_10 x0_11 x0_12 x0_13 y1 y2 x3_0 x4_0) sz)) 0 0 (va_A (wS51 cI cJ cZ cB p0 p1 p2 p3 p4 x0_4 x0_5 x0_6 x0_7 x0_8 x0_9 x0_10 x0_11 x0_12 x0_13 y1 y2 x3_0 x4_0) sz) := by
  refine Met.ofW (cc := b_M_value) (maxL := 1) (ret := (some .int)) (by decide) rfl ?_
  intro p e s m args below meth c s₁ B hml hv
  obtain ⟨rfl, hsz, hK, hP, hD0, hC⟩ := hv
  subst hsz
  have hD := hD0.self (sz := s.heap.size)
  generalize hAe : va_A (wS51 cI cJ cZ cB p0 p1 p2 p3 p4 x0_4 x0_5 x0_6 x0_7 x0_8 x0_9 x0_10 x0_11 x0_12 x0_13 y1 y2 x3_0 x4_0) s.heap.size = A at hD hC ⊢
  have hA : ∀ q : Nat, s.heap.size ≤ q → A q := fun q h => by rw [← hAe]; exact Or.inr h
  clear hAe hD0
  have hS : va_S A s.heap s.heap [] := va_S.rf
  have hx := B.exec
  have hb := B.bytes
  have hr := B.returns
  have hts := atoms_spec (ws := .code y_M_value b_M_value 1 (some .int) :: tb) B.pre
  have hk : ∀ w ∈ tb, w.before [.ref p0].toArray s = true := fun w h => hts w (List.mem_cons_of_mem _ h)
  have hown : s.vm.findClass "SignMachine$Machine" = some m.cls := findClass_of_methodNamed B.named
  have hlocks := B.notSynchronized
  have hl := lv_entry ([.ref p0]) (n := 1) (Nat.le_of_ble_eq_true rfl)
  rw [lg_entry_eq]
  generalize (lg_sl ([.ref p0]) ++ List.replicate (1 - (lg_sl ([.ref p0])).length) Slot.unset).toArray = ls at hl ⊢
  have hl : lv_has ls 1 [(0, .ref p0)] := hl
  refine lv_aload_n hx hb d_M_value_0 rfl (lv_at hl 0 rfl) ?_
  refine lv_aload_n hx hb d_M_value_1 rfl (lv_at hl 0 rfl) ?_
  refine va_get (D := D) (ci := 1) (v := .int x0_12) (C := "SignMachine$Machine") (T := F_M) (N := 14) hx hb hk fi_M hown hK.1 hP 0 rfl rfl 12 (by decide) (hk _ k_179) (fun _ h9 => h9) rfl d_M_value_2 ?_
  refine sn_i (va_runV (C := "SignMachine$Machine") (As := [.int x0_12]) (rest := []) ⟨hx, hb, hml, hown, hk⟩ (c_M_wordAt_s1 l K D cI cJ cZ cB p0 p1 p2 p3 p4 s.heap.size x0_4 x0_5 x0_6 x0_7 x0_8 x0_9 x0_10 x0_11 x0_12 x0_13 y1 y2 x3_0 x4_0  x0_12 ) (v_M_wordAt_s1 hk k_263 ⟨Nat.le_of_ble_eq_true rfl, Nat.le_of_ble_eq_true rfl⟩) (pMC_v hK hP hD hC hS hA (ci := 1) (q0 := 0) rfl rfl rfl) rfl rfl hl.1 rfl (lv_room (Nat.le_of_ble_eq_true rfl)) d_M_value_5 ⟨by decide, by decide⟩) hS hA hD (fun rz1 u t H locs hr0 ht hB hFr hS => ?_)
  have hrz1 := hr0
  obtain ⟨hP, hD⟩ := hB
  rw [ht] at hP
  have hD := dwk hD hFr
  clear ht hFr
  have hP : va_P D classes (wS51 cI cJ cZ cB p0 p1 p2 p3 p4 x0_4 x0_5 x0_6 x0_7 x0_8 x0_9 x0_10 x0_11 x0_12 x0_13 y1 y2 x3_0 x4_0) H := hP
  have hD : va_D A (wS51 cI cJ cZ cB p0 p1 p2 p3 p4 x0_4 x0_5 x0_6 x0_7 x0_8 x0_9 x0_10 x0_11 x0_12 x0_13 y1 y2 x3_0 x4_0) := hD
  refine lv_aload_n hx hb d_M_value_8 rfl (lv_at hl 0 rfl) ?_
  refine va_get (D := D) (ci := 1) (v := .int x0_10) (C := "SignMachine$Machine") (T := F_M) (N := 14) hx hb hk fi_M hown hK.1 hP 0 rfl rfl 10 (by decide) (hk _ k_177) (fun _ h9 => h9) rfl d_M_value_9 ?_
  refine cs_i (W.runS (As := [.int rz1, .int x0_10]) (rest := []) ⟨hx, hb, hml, hown, hk⟩ (c_W_field l rz1 x0_10) (s_W_field hk k_314 ⟨Nat.le_of_ble_eq_true rfl, Nat.le_of_ble_eq_true rfl⟩) ⟨fun a U g mk q => q, fun U hU hW => ⟨rfl, trivial⟩⟩ rfl rfl hl.1 rfl (lv_room (Nat.le_of_ble_eq_true rfl)) d_M_value_12 ⟨Nat.le_of_ble_eq_true rfl, Nat.le_of_ble_eq_true rfl⟩) ?_
  refine lv_topi (fun v2 hv2 => ?_)
  exact W.iret (v := v2) hx hb hr (fun t ht hW => ⟨⟨v2, (), rfl, trivial, ⟨by show va_P D classes _ t.heap; rw [ht]; exact hP, hD⟩⟩, hS.F ht⟩) hS.2.2 d_M_value_15
theorem v_M_value_s1 {R : Room} {s : State} {args : Array Value} {own : String} {index : Nat} (hk : ∀ w ∈ tb, w.before args s = true) (hl : Cond.methodLink own index y_M_value ∈ tb) (hR : 2 + 1 ≤ R.frames ∧ 8 + (1 + 11) + 45 ≤ R.locals) : CallW R s args own "SignMachine$Machine" index y_M_value b_M_value 1 (some .int) (.code y_M_value b_M_value 1 (some .int) :: tb) ({ frames := 2, cells := 0, slots := 0, locals := 45 }) 0 0 0 := mk_v 0 hk k_313 hl k_312 k_7 k_117 rfl rfl h_M_value hR
set_option maxHeartbeats 4000000 in
set_option maxRecDepth 100000 in
theorem c_M_numberByAddress_s1 (l : Launch) (K : CK) (D : va_G) (cI cJ cZ cB : ClassId) (p0 p1 p2 p3 p4 : Nat) (sz : Nat) (x0_4 : Bool) (x0_5 : Int32) (x0_6 : Int32) (x0_7 : Int32) (x0_8 : Int32) (x0_9 : Int32) (x0_10 : Int32) (x0_11 : Int32) (x0_12 : Int32) (x0_13 : Int32) (y1 : Nat → Int32) (y2 : Nat → Int32) (x3_0 : Int32) (x4_0 : Int32)   : Met l y_M_numberByAddress (.code y_M_numberByAddress b_M_numberByAddress 2 (some .int) :: tb) ({ frames := 1, cells := 0, slots := 0, locals := 21 }) (pMC K D cI cJ cZ cB (wS51 cI cJ cZ cB p0 p1 p2 p3 p4 x0_4 x0_5 x0_6 x0_7 x0_8 x0_9 x0_10 x0_11 x0_12 x0_13 y1 y2 x3_0 x4_0) sz [.ref p0]) (va_Qi (fun r (_ : Unit) => True) (fun _ t => (va_P D classes (wS51 cI cJ cZ cB p0 p1 p2 p3 p4 x0_4 x0_5 x0_6 x0_7 x0_8 x0_9 x0_10 x0_11 x0_12 x0_13 y1 y2 x3_0 x4_0) t.heap ∧ va_D (va_A (wS51 cI cJ cZ cB p0 p1 p2 p3 p4 x0_4 x0_5 x0_6 x0_7 x0_8 x0_9 x0_10 x0_11 x0_12 x0_13 y1 y2 x3_0 x4_0) sz) (wS51 cI cJ cZ cB p0 p1 p2 p3 p4 x0_4 x0_5 x0_6 x0_7 x0_8 x0_9 x0_10 x0_11 x0_12 x0_13 y1 y2 x3_0 x4_0))) (va_A (wS51 cI cJ cZ cB p0 p1 p2 p3 p4 x0_4 x0_5 x0_6 x0_7 x0_8 x0_9 x0_10 x0_11 x0_12 x0_13 y1 y2 x3_0 x4_0) sz)) 0 0 (va_A (wS51 cI cJ cZ cB p0 p1 p2 p3 p4 x0_4 x0_5 x0_6 x0_7 x0_8 x0_9 x0_10 x0_11 x0_12 x0_13 y1 y2 x3_0 x4_0) sz) := by
  refine Met.ofW (cc := b_M_numberByAddress) (maxL := 2) (ret := (some .int)) (by decide) rfl ?_
  intro p e s m args below meth c s₁ B hml hv
  obtain ⟨rfl, hsz, hK, hP, hD0, hC⟩ := hv
  subst hsz
  have hD := hD0.self (sz := s.heap.size)
  generalize hAe : va_A (wS51 cI cJ cZ cB p0 p1 p2 p3 p4 x0_4 x0_5 x0_6 x0_7 x0_8 x0_9 x0_10 x0_11 x0_12 x0_13 y1 y2 x3_0 x4_0) s.heap.size = A at hD hC ⊢
  have hA : ∀ q : Nat, s.heap.size ≤ q → A q := fun q h => by rw [← hAe]; exact Or.inr h
  clear hAe hD0
  have hS : va_S A s.heap s.heap [] := va_S.rf
  have hx := B.exec
  have hb := B.bytes
  have hr := B.returns
  have hts := atoms_spec (ws := .code y_M_numberByAddress b_M_numberByAddress 2 (some .int) :: tb) B.pre
  have hk : ∀ w ∈ tb, w.before [.ref p0].toArray s = true := fun w h => hts w (List.mem_cons_of_mem _ h)
  have hown : s.vm.findClass "SignMachine$Machine" = some m.cls := findClass_of_methodNamed B.named
  have hlocks := B.notSynchronized
  have hl := lv_entry ([.ref p0]) (n := 2) (Nat.le_of_ble_eq_true rfl)
  rw [lg_entry_eq]
  generalize (lg_sl ([.ref p0]) ++ List.replicate (2 - (lg_sl ([.ref p0])).length) Slot.unset).toArray = ls at hl ⊢
  have hl : lv_has ls 2 [(0, .ref p0)] := hl
  refine lv_aload_n hx hb d_M_numberByAddress_0 rfl (lv_at hl 0 rfl) ?_
  refine lv_aload_n hx hb d_M_numberByAddress_1 rfl (lv_at hl 0 rfl) ?_
  refine va_get (D := D) (ci := 1) (v := .int x0_9) (C := "SignMachine$Machine") (T := F_M) (N := 14) hx hb hk fi_M hown hK.1 hP 0 rfl rfl 9 (by decide) (hk _ k_176) (fun _ h9 => h9) rfl d_M_numberByAddress_2 ?_
  refine lv_bipush (v := 7) hx hb d_M_numberByAddress_5 (by decide) ?_
  refine lv_iand hx hb d_M_numberByAddress_7 ?_
  refine lv_topi (fun v1 hv1 => ?_)
  refine sn_i (va_runV (C := "SignMachine$Machine") (As := [.int v1]) (rest := []) ⟨hx, hb, hml, hown, hk⟩ (c_M_register_s1 l K D cI cJ cZ cB p0 p1 p2 p3 p4 s.heap.size x0_4 x0_5 x0_6 x0_7 x0_8 x0_9 x0_10 x0_11 x0_12 x0_13 y1 y2 x3_0 x4_0  v1 ) (v_M_register_s1 hk k_273 ⟨Nat.le_of_ble_eq_true rfl, Nat.le_of_ble_eq_true rfl⟩) (pMC_v hK hP hD hC hS hA (ci := 1) (q0 := 0) rfl rfl rfl) rfl rfl hl.1 rfl (lv_room (Nat.le_of_ble_eq_true rfl)) d_M_numberByAddress_8 ⟨by decide, by decide⟩) hS hA hD (fun rz2 u t H locs hr0 ht hB hFr hS => ?_)
  obtain ⟨hP, hD⟩ := hB
  rw [ht] at hP
  have hD := dwk hD hFr
  clear ht hFr
  have hP : va_P D classes (wS51 cI cJ cZ cB p0 p1 p2 p3 p4 x0_4 x0_5 x0_6 x0_7 x0_8 x0_9 x0_10 x0_11 x0_12 x0_13 y1 y2 x3_0 x4_0) H := hP
  have hD : va_D A (wS51 cI cJ cZ cB p0 p1 p2 p3 p4 x0_4 x0_5 x0_6 x0_7 x0_8 x0_9 x0_10 x0_11 x0_12 x0_13 y1 y2 x3_0 x4_0) := hD
  refine cs_i (W.runS (As := [.int rz2]) (rest := []) ⟨hx, hb, hml, hown, hk⟩ (c_W_number l rz2) (s_W_number hk k_277 ⟨Nat.le_of_ble_eq_true rfl, Nat.le_of_ble_eq_true rfl⟩) ⟨fun a U g mk q => q, fun U hU hW => ⟨rfl, trivial⟩⟩ rfl rfl hl.1 rfl (lv_room (Nat.le_of_ble_eq_true rfl)) d_M_numberByAddress_11 ⟨Nat.le_of_ble_eq_true rfl, Nat.le_of_ble_eq_true rfl⟩) ?_
  refine lv_topi (fun v3 hv3 => ?_)
  refine lv_istore_n (lv' := [(1, .int v3), (0, .ref p0)]) hx hb d_M_numberByAddress_14 rfl hl (by decide) rfl (fun ls hl => ?_)
  refine lv_aload_n hx hb d_M_numberByAddress_15 rfl (lv_at hl 1 rfl) ?_
  refine va_get (D := D) (ci := 1) (v := .int x0_10) (C := "SignMachine$Machine") (T := F_M) (N := 14) hx hb hk fi_M hown hK.1 hP 0 rfl rfl 10 (by decide) (hk _ k_177) (fun _ h9 => h9) rfl d_M_numberByAddress_16 ?_
  by_cases c4 : x0_10 = (0 : Int32)
  · refine lv_tableIn (off := 25) (tgt := 44) hx hb d_M_numberByAddress_19 (by rw [c4]; decide) (by rw [c4]; decide) (by rw [c4]; rfl) (by decide) ?_
    refine lv_iload_n hx hb d_M_numberByAddress_44 rfl (lv_at hl 0 rfl) ?_
    refine lv_aload_n hx hb d_M_numberByAddress_45 rfl (lv_at hl 1 rfl) ?_
    refine va_get (D := D) (ci := 1) (v := .int x0_12) (C := "SignMachine$Machine") (T := F_M) (N := 14) hx hb hk fi_M hown hK.1 hP 0 rfl rfl 12 (by decide) (hk _ k_179) (fun _ h9 => h9) rfl d_M_numberByAddress_46 ?_
    refine lv_iadd hx hb d_M_numberByAddress_49 ?_
    refine lv_topi (fun v5 hv5 => ?_)
    exact W.iret (v := v5) hx hb hr (fun t ht hW => ⟨⟨v5, (), rfl, trivial, ⟨by show va_P D classes _ t.heap; rw [ht]; exact hP, hD⟩⟩, hS.F ht⟩) hS.2.2 d_M_numberByAddress_50
  · by_cases c6 : x0_10 = (1 : Int32)
    · refine lv_tableIn (off := 32) (tgt := 51) hx hb d_M_numberByAddress_19 (by rw [c6]; decide) (by rw [c6]; decide) (by rw [c6]; rfl) (by decide) ?_
      refine lv_iload_n hx hb d_M_numberByAddress_51 rfl (lv_at hl 0 rfl) ?_
      refine lv_aload_n hx hb d_M_numberByAddress_52 rfl (lv_at hl 1 rfl) ?_
      refine va_get (D := D) (ci := 1) (v := .int x0_12) (C := "SignMachine$Machine") (T := F_M) (N := 14) hx hb hk fi_M hown hK.1 hP 0 rfl rfl 12 (by decide) (hk _ k_179) (fun _ h9 => h9) rfl d_M_numberByAddress_53 ?_
      refine lv_isub hx hb d_M_numberByAddress_56 ?_
      refine lv_topi (fun v7 hv7 => ?_)
      exact W.iret (v := v7) hx hb hr (fun t ht hW => ⟨⟨v7, (), rfl, trivial, ⟨by show va_P D classes _ t.heap; rw [ht]; exact hP, hD⟩⟩, hS.F ht⟩) hS.2.2 d_M_numberByAddress_57
    · by_cases c8 : x0_10 = (2 : Int32)
      · refine lv_tableIn (off := 39) (tgt := 58) hx hb d_M_numberByAddress_19 (by rw [c8]; decide) (by rw [c8]; decide) (by rw [c8]; rfl) (by decide) ?_
        refine lv_aload_n hx hb d_M_numberByAddress_58 rfl (lv_at hl 1 rfl) ?_
        refine va_get (D := D) (ci := 1) (v := .int x0_12) (C := "SignMachine$Machine") (T := F_M) (N := 14) hx hb hk fi_M hown hK.1 hP 0 rfl rfl 12 (by decide) (hk _ k_179) (fun _ h9 => h9) rfl d_M_numberByAddress_59 ?_
        exact W.iret (v := x0_12) hx hb hr (fun t ht hW => ⟨⟨x0_12, (), rfl, trivial, ⟨by show va_P D classes _ t.heap; rw [ht]; exact hP, hD⟩⟩, hS.F ht⟩) hS.2.2 d_M_numberByAddress_62
      · refine lv_tableOut (tgt := 63) hx hb d_M_numberByAddress_19 (by have e0 := lv_neT c4 (a := 0) rfl; have e1 := lv_neT c6 (a := 1) rfl; have e2 := lv_neT c8 (a := 2) rfl; omega) (by decide) ?_
        refine lv_aload_n hx hb d_M_numberByAddress_63 rfl (lv_at hl 1 rfl) ?_
        refine va_get (D := D) (ci := 1) (v := .int x0_12) (C := "SignMachine$Machine") (T := F_M) (N := 14) hx hb hk fi_M hown hK.1 hP 0 rfl rfl 12 (by decide) (hk _ k_179) (fun _ h9 => h9) rfl d_M_numberByAddress_64 ?_
        refine lv_ineg hx hb d_M_numberByAddress_67 ?_
        refine lv_topi (fun v9 hv9 => ?_)
        exact W.iret (v := v9) hx hb hr (fun t ht hW => ⟨⟨v9, (), rfl, trivial, ⟨by show va_P D classes _ t.heap; rw [ht]; exact hP, hD⟩⟩, hS.F ht⟩) hS.2.2 d_M_numberByAddress_68
theorem v_M_numberByAddress_s1 {R : Room} {s : State} {args : Array Value} {own : String} {index : Nat} (hk : ∀ w ∈ tb, w.before args s = true) (hl : Cond.methodLink own index y_M_numberByAddress ∈ tb) (hR : 1 + 1 ≤ R.frames ∧ 8 + (2 + 11) + 21 ≤ R.locals) : CallW R s args own "SignMachine$Machine" index y_M_numberByAddress b_M_numberByAddress 2 (some .int) (.code y_M_numberByAddress b_M_numberByAddress 2 (some .int) :: tb) ({ frames := 1, cells := 0, slots := 0, locals := 21 }) 0 0 0 := mk_v 0 hk k_329 hl k_328 k_8 k_117 rfl rfl h_M_numberByAddress hR
set_option maxHeartbeats 4000000 in
set_option maxRecDepth 100000 in
theorem c_M_indexCanBe_s1 (l : Launch) (K : CK) (D : va_G) (cI cJ cZ cB : ClassId) (p0 p1 p2 p3 p4 : Nat) (sz : Nat) (x0_4 : Bool) (x0_5 : Int32) (x0_6 : Int32) (x0_7 : Int32) (x0_8 : Int32) (x0_9 : Int32) (x0_10 : Int32) (x0_11 : Int32) (x0_12 : Int32) (x0_13 : Int32) (y1 : Nat → Int32) (y2 : Nat → Int32) (x3_0 : Int32) (x4_0 : Int32)   : Met l y_M_indexCanBe (.code y_M_indexCanBe b_M_indexCanBe 1 (some .boolean) :: tb) ({ frames := 3, cells := 0, slots := 0, locals := 65 }) (pMC K D cI cJ cZ cB (wS51 cI cJ cZ cB p0 p1 p2 p3 p4 x0_4 x0_5 x0_6 x0_7 x0_8 x0_9 x0_10 x0_11 x0_12 x0_13 y1 y2 x3_0 x4_0) sz [.ref p0]) (va_Qi (fun r (_ : Unit) => ∃ z : Bool, r = bI z) (fun _ t => (va_P D classes (wS51 cI cJ cZ cB p0 p1 p2 p3 p4 x0_4 x0_5 x0_6 x0_7 x0_8 x0_9 x0_10 x0_11 x0_12 x0_13 y1 y2 x3_0 x4_0) t.heap ∧ va_D (va_A (wS51 cI cJ cZ cB p0 p1 p2 p3 p4 x0_4 x0_5 x0_6 x0_7 x0_8 x0_9 x0_10 x0_11 x0_12 x0_13 y1 y2 x3_0 x4_0) sz) (wS51 cI cJ cZ cB p0 p1 p2 p3 p4 x0_4 x0_5 x0_6 x0_7 x0_8 x0_9 x0_10 x0_11 x0_12 x0_13 y1 y2 x3_0 x4_0))) (va_A (wS51 cI cJ cZ cB p0 p1 p2 p3 p4 x0_4 x0_5 x0_6 x0_7 x0_8 x0_9 x0_10 x0_11 x0_12 x0_13 y1 y2 x3_0 x4_0) sz)) 0 0 (va_A (wS51 cI cJ cZ cB p0 p1 p2 p3 p4 x0_4 x0_5 x0_6 x0_7 x0_8 x0_9 x0_10 x0_11 x0_12 x0_13 y1 y2 x3_0 x4_0) sz) := by
  refine Met.ofW (cc := b_M_indexCanBe) (maxL := 1) (ret := (some .boolean)) (by decide) rfl ?_
  intro p e s m args below meth c s₁ B hml hv
  obtain ⟨rfl, hsz, hK, hP, hD0, hC⟩ := hv
  subst hsz
  have hD := hD0.self (sz := s.heap.size)
  generalize hAe : va_A (wS51 cI cJ cZ cB p0 p1 p2 p3 p4 x0_4 x0_5 x0_6 x0_7 x0_8 x0_9 x0_10 x0_11 x0_12 x0_13 y1 y2 x3_0 x4_0) s.heap.size = A at hD hC ⊢
  have hA : ∀ q : Nat, s.heap.size ≤ q → A q := fun q h => by rw [← hAe]; exact Or.inr h
  clear hAe hD0
  have hS : va_S A s.heap s.heap [] := va_S.rf
  have hx := B.exec
  have hb := B.bytes
  have hr := B.returns
  have hts := atoms_spec (ws := .code y_M_indexCanBe b_M_indexCanBe 1 (some .boolean) :: tb) B.pre
  have hk : ∀ w ∈ tb, w.before [.ref p0].toArray s = true := fun w h => hts w (List.mem_cons_of_mem _ h)
  have hown : s.vm.findClass "SignMachine$Machine" = some m.cls := findClass_of_methodNamed B.named
  have hlocks := B.notSynchronized
  have hl := lv_entry ([.ref p0]) (n := 1) (Nat.le_of_ble_eq_true rfl)
  rw [lg_entry_eq]
  generalize (lg_sl ([.ref p0]) ++ List.replicate (1 - (lg_sl ([.ref p0])).length) Slot.unset).toArray = ls at hl ⊢
  have hl : lv_has ls 1 [(0, .ref p0)] := hl
  refine lv_aload_n hx hb d_M_indexCanBe_0 rfl (lv_at hl 0 rfl) ?_
  refine va_get (D := D) (ci := 1) (v := .int x0_9) (C := "SignMachine$Machine") (T := F_M) (N := 14) hx hb hk fi_M hown hK.1 hP 0 rfl rfl 9 (by decide) (hk _ k_176) (fun _ h9 => h9) rfl d_M_indexCanBe_1 ?_
  refine lv_bipush (v := 7) hx hb d_M_indexCanBe_4 (by decide) ?_
  refine lv_iand hx hb d_M_indexCanBe_6 ?_
  refine lv_topi (fun v1 hv1 => ?_)
  refine cs_i (W.runS (As := [.int v1]) (rest := []) ⟨hx, hb, hml, hown, hk⟩ (c_M_isIndex l v1) (s_M_isIndex hk k_270 ⟨Nat.le_of_ble_eq_true rfl, Nat.le_of_ble_eq_true rfl⟩) ⟨fun a U g mk q => q, fun U hU hW => ⟨rfl, trivial⟩⟩ rfl rfl hl.1 rfl (lv_room (Nat.le_of_ble_eq_true rfl)) d_M_indexCanBe_7 ⟨Nat.le_of_ble_eq_true rfl, Nat.le_of_ble_eq_true rfl⟩) ?_
  obtain ⟨z2, hz2⟩ : ∃ y : Bool, y = (f_M_isIndex v1) := ⟨_, rfl⟩
  rw [← hz2]
  refine lv_if_ne (tgt := 15) hx hb d_M_indexCanBe_10 (by decide) (fun c3 => ?_) (fun c3 => ?_)
  · refine lv_aload_n hx hb d_M_indexCanBe_15 rfl (lv_at hl 0 rfl) ?_
    refine va_get (D := D) (ci := 1) (v := .int x0_9) (C := "SignMachine$Machine") (T := F_M) (N := 14) hx hb hk fi_M hown hK.1 hP 0 rfl rfl 9 (by decide) (hk _ k_176) (fun _ h9 => h9) rfl d_M_indexCanBe_16 ?_
    refine lv_iconst (v := 3) hx hb d_M_indexCanBe_19 (by decide) ?_
    refine lv_ishr hx hb d_M_indexCanBe_20 ?_
    refine lv_topi (fun v4 hv4 => ?_)
    by_cases c5 : v4 = (1 : Int32)
    · refine lv_lookup (off := 35) (tgt := 56) hx hb d_M_indexCanBe_21 (by decide) (by rw [c5]; rfl) (by decide) ?_
      refine lv_aload_n hx hb d_M_indexCanBe_56 rfl (lv_at hl 0 rfl) ?_
      refine sn_i (va_runV (C := "SignMachine$Machine") (As := []) (rest := []) ⟨hx, hb, hml, hown, hk⟩ (c_M_value_s1 l K D cI cJ cZ cB p0 p1 p2 p3 p4 s.heap.size x0_4 x0_5 x0_6 x0_7 x0_8 x0_9 x0_10 x0_11 x0_12 x0_13 y1 y2 x3_0 x4_0   ) (v_M_value_s1 hk k_310 ⟨Nat.le_of_ble_eq_true rfl, Nat.le_of_ble_eq_true rfl⟩) (pMC_v hK hP hD hC hS hA (ci := 1) (q0 := 0) rfl rfl rfl) rfl rfl hl.1 rfl (lv_room (Nat.le_of_ble_eq_true rfl)) d_M_indexCanBe_57 ⟨by decide, by decide⟩) hS hA hD (fun rz6 u t H locs hr0 ht hB hFr hS => ?_)
      obtain ⟨hP, hD⟩ := hB
      rw [ht] at hP
      have hD := dwk hD hFr
      clear ht hFr
      have hP : va_P D classes (wS51 cI cJ cZ cB p0 p1 p2 p3 p4 x0_4 x0_5 x0_6 x0_7 x0_8 x0_9 x0_10 x0_11 x0_12 x0_13 y1 y2 x3_0 x4_0) H := hP
      have hD : va_D A (wS51 cI cJ cZ cB p0 p1 p2 p3 p4 x0_4 x0_5 x0_6 x0_7 x0_8 x0_9 x0_10 x0_11 x0_12 x0_13 y1 y2 x3_0 x4_0) := hD
      refine cs_i (W.runS (As := [.int rz6]) (rest := []) ⟨hx, hb, hml, hown, hk⟩ (c_W_size l rz6) (s_W_size hk k_268 ⟨Nat.le_of_ble_eq_true rfl, Nat.le_of_ble_eq_true rfl⟩) ⟨fun a U g mk q => q, fun U hU hW => ⟨rfl, trivial⟩⟩ rfl rfl hl.1 rfl (lv_room (Nat.le_of_ble_eq_true rfl)) d_M_indexCanBe_60 ⟨Nat.le_of_ble_eq_true rfl, Nat.le_of_ble_eq_true rfl⟩) ?_
      refine lv_topi (fun v7 hv7 => ?_)
      refine lv_sipush (v := 4095) hx hb d_M_indexCanBe_63 (by decide) ?_
      refine lv_icmp_gt (tgt := 73) hx hb d_M_indexCanBe_66 (by decide) (fun c8 => ?_) (fun c8 => ?_)
      · refine lv_iconst (v := 0) hx hb d_M_indexCanBe_73 (by decide) ?_
        exact W.zret (v := (0 : Int32)) hx hb hr rfl (fun t ht hW => ⟨⟨(0 : Int32), (), rfl, ⟨false, rfl⟩, ⟨by show va_P D classes _ t.heap; rw [ht]; exact hP, hD⟩⟩, hS.F ht⟩) hS.2.2 d_M_indexCanBe_74
      · refine lv_iconst (v := 1) hx hb d_M_indexCanBe_69 (by decide) ?_
        refine lv_goto (tgt := 74) hx hb d_M_indexCanBe_70 (by decide) ?_
        exact W.zret (v := (1 : Int32)) hx hb hr rfl (fun t ht hW => ⟨⟨(1 : Int32), (), rfl, ⟨true, rfl⟩, ⟨by show va_P D classes _ t.heap; rw [ht]; exact hP, hD⟩⟩, hS.F ht⟩) hS.2.2 d_M_indexCanBe_74
    · by_cases c9 : v4 = (2 : Int32)
      · refine lv_lookup (off := 35) (tgt := 56) hx hb d_M_indexCanBe_21 (by decide) (by rw [c9]; rfl) (by decide) ?_
        refine lv_aload_n hx hb d_M_indexCanBe_56 rfl (lv_at hl 0 rfl) ?_
        refine sn_i (va_runV (C := "SignMachine$Machine") (As := []) (rest := []) ⟨hx, hb, hml, hown, hk⟩ (c_M_value_s1 l K D cI cJ cZ cB p0 p1 p2 p3 p4 s.heap.size x0_4 x0_5 x0_6 x0_7 x0_8 x0_9 x0_10 x0_11 x0_12 x0_13 y1 y2 x3_0 x4_0   ) (v_M_value_s1 hk k_310 ⟨Nat.le_of_ble_eq_true rfl, Nat.le_of_ble_eq_true rfl⟩) (pMC_v hK hP hD hC hS hA (ci := 1) (q0 := 0) rfl rfl rfl) rfl rfl hl.1 rfl (lv_room (Nat.le_of_ble_eq_true rfl)) d_M_indexCanBe_57 ⟨by decide, by decide⟩) hS hA hD (fun rz10 u t H locs hr0 ht hB hFr hS => ?_)
        obtain ⟨hP, hD⟩ := hB
        rw [ht] at hP
        have hD := dwk hD hFr
        clear ht hFr
        have hP : va_P D classes (wS51 cI cJ cZ cB p0 p1 p2 p3 p4 x0_4 x0_5 x0_6 x0_7 x0_8 x0_9 x0_10 x0_11 x0_12 x0_13 y1 y2 x3_0 x4_0) H := hP
        have hD : va_D A (wS51 cI cJ cZ cB p0 p1 p2 p3 p4 x0_4 x0_5 x0_6 x0_7 x0_8 x0_9 x0_10 x0_11 x0_12 x0_13 y1 y2 x3_0 x4_0) := hD
        refine cs_i (W.runS (As := [.int rz10]) (rest := []) ⟨hx, hb, hml, hown, hk⟩ (c_W_size l rz10) (s_W_size hk k_268 ⟨Nat.le_of_ble_eq_true rfl, Nat.le_of_ble_eq_true rfl⟩) ⟨fun a U g mk q => q, fun U hU hW => ⟨rfl, trivial⟩⟩ rfl rfl hl.1 rfl (lv_room (Nat.le_of_ble_eq_true rfl)) d_M_indexCanBe_60 ⟨Nat.le_of_ble_eq_true rfl, Nat.le_of_ble_eq_true rfl⟩) ?_
        refine lv_topi (fun v11 hv11 => ?_)
        refine lv_sipush (v := 4095) hx hb d_M_indexCanBe_63 (by decide) ?_
        refine lv_icmp_gt (tgt := 73) hx hb d_M_indexCanBe_66 (by decide) (fun c12 => ?_) (fun c12 => ?_)
        · refine lv_iconst (v := 0) hx hb d_M_indexCanBe_73 (by decide) ?_
          exact W.zret (v := (0 : Int32)) hx hb hr rfl (fun t ht hW => ⟨⟨(0 : Int32), (), rfl, ⟨false, rfl⟩, ⟨by show va_P D classes _ t.heap; rw [ht]; exact hP, hD⟩⟩, hS.F ht⟩) hS.2.2 d_M_indexCanBe_74
        · refine lv_iconst (v := 1) hx hb d_M_indexCanBe_69 (by decide) ?_
          refine lv_goto (tgt := 74) hx hb d_M_indexCanBe_70 (by decide) ?_
          exact W.zret (v := (1 : Int32)) hx hb hr rfl (fun t ht hW => ⟨⟨(1 : Int32), (), rfl, ⟨true, rfl⟩, ⟨by show va_P D classes _ t.heap; rw [ht]; exact hP, hD⟩⟩, hS.F ht⟩) hS.2.2 d_M_indexCanBe_74
      · by_cases c13 : v4 = (6 : Int32)
        · refine lv_lookup (off := 54) (tgt := 75) hx hb d_M_indexCanBe_21 (by decide) (by rw [c13]; rfl) (by decide) ?_
          refine lv_aload_n hx hb d_M_indexCanBe_75 rfl (lv_at hl 0 rfl) ?_
          refine sn_i (va_runV (C := "SignMachine$Machine") (As := []) (rest := []) ⟨hx, hb, hml, hown, hk⟩ (c_M_numberByAddress_s1 l K D cI cJ cZ cB p0 p1 p2 p3 p4 s.heap.size x0_4 x0_5 x0_6 x0_7 x0_8 x0_9 x0_10 x0_11 x0_12 x0_13 y1 y2 x3_0 x4_0   ) (v_M_numberByAddress_s1 hk k_326 ⟨Nat.le_of_ble_eq_true rfl, Nat.le_of_ble_eq_true rfl⟩) (pMC_v hK hP hD hC hS hA (ci := 1) (q0 := 0) rfl rfl rfl) rfl rfl hl.1 rfl (lv_room (Nat.le_of_ble_eq_true rfl)) d_M_indexCanBe_76 ⟨by decide, by decide⟩) hS hA hD (fun rz14 u t H locs hr0 ht hB hFr hS => ?_)
          obtain ⟨hP, hD⟩ := hB
          rw [ht] at hP
          have hD := dwk hD hFr
          clear ht hFr
          have hP : va_P D classes (wS51 cI cJ cZ cB p0 p1 p2 p3 p4 x0_4 x0_5 x0_6 x0_7 x0_8 x0_9 x0_10 x0_11 x0_12 x0_13 y1 y2 x3_0 x4_0) H := hP
          have hD : va_D A (wS51 cI cJ cZ cB p0 p1 p2 p3 p4 x0_4 x0_5 x0_6 x0_7 x0_8 x0_9 x0_10 x0_11 x0_12 x0_13 y1 y2 x3_0 x4_0) := hD
          refine va_mabs hx hb (hml.trans hl.1.symm) hown (hk _ k_330) (hk _ k_331) (hk _ k_121) (hk _ k_absc) (Nat.le_of_ble_eq_true rfl) (Nat.le_of_ble_eq_true rfl) (Nat.zero_le _) (Nat.zero_le _) d_M_indexCanBe_79 ?_
          refine lv_topi (fun v15 hv15 => ?_)
          refine lv_sipush (v := 4095) hx hb d_M_indexCanBe_82 (by decide) ?_
          refine lv_icmp_gt (tgt := 92) hx hb d_M_indexCanBe_85 (by decide) (fun c16 => ?_) (fun c16 => ?_)
          · refine lv_iconst (v := 0) hx hb d_M_indexCanBe_92 (by decide) ?_
            exact W.zret (v := (0 : Int32)) hx hb hr rfl (fun t ht hW => ⟨⟨(0 : Int32), (), rfl, ⟨false, rfl⟩, ⟨by show va_P D classes _ t.heap; rw [ht]; exact hP, hD⟩⟩, hS.F ht⟩) hS.2.2 d_M_indexCanBe_93
          · refine lv_iconst (v := 1) hx hb d_M_indexCanBe_88 (by decide) ?_
            refine lv_goto (tgt := 93) hx hb d_M_indexCanBe_89 (by decide) ?_
            exact W.zret (v := (1 : Int32)) hx hb hr rfl (fun t ht hW => ⟨⟨(1 : Int32), (), rfl, ⟨true, rfl⟩, ⟨by show va_P D classes _ t.heap; rw [ht]; exact hP, hD⟩⟩, hS.F ht⟩) hS.2.2 d_M_indexCanBe_93
        · refine lv_lookup (off := 73) (tgt := 94) hx hb d_M_indexCanBe_21 (by decide) (by show Op.lookupswitch.offset [(1, 35), (2, 35), (6, 54)] 73 _ = _; rw [lv_osw c5 (a := 1) rfl, lv_osw c9 (a := 2) rfl, lv_osw c13 (a := 6) rfl]; rfl) (by decide) ?_
          refine lv_iconst (v := 1) hx hb d_M_indexCanBe_94 (by decide) ?_
          exact W.zret (v := (1 : Int32)) hx hb hr rfl (fun t ht hW => ⟨⟨(1 : Int32), (), rfl, ⟨true, rfl⟩, ⟨by show va_P D classes _ t.heap; rw [ht]; exact hP, hD⟩⟩, hS.F ht⟩) hS.2.2 d_M_indexCanBe_95
  · refine lv_iconst (v := 1) hx hb d_M_indexCanBe_13 (by decide) ?_
    exact W.zret (v := (1 : Int32)) hx hb hr rfl (fun t ht hW => ⟨⟨(1 : Int32), (), rfl, ⟨true, rfl⟩, ⟨by show va_P D classes _ t.heap; rw [ht]; exact hP, hD⟩⟩, hS.F ht⟩) hS.2.2 d_M_indexCanBe_14
theorem v_M_indexCanBe_s1 {R : Room} {s : State} {args : Array Value} {own : String} {index : Nat} (hk : ∀ w ∈ tb, w.before args s = true) (hl : Cond.methodLink own index y_M_indexCanBe ∈ tb) (hR : 3 + 1 ≤ R.frames ∧ 8 + (1 + 11) + 65 ≤ R.locals) : CallW R s args own "SignMachine$Machine" index y_M_indexCanBe b_M_indexCanBe 1 (some .boolean) (.code y_M_indexCanBe b_M_indexCanBe 1 (some .boolean) :: tb) ({ frames := 3, cells := 0, slots := 0, locals := 65 }) 0 0 0 := mk_v 0 hk k_309 hl k_308 k_6 k_117 rfl rfl h_M_indexCanBe hR
set_option maxHeartbeats 4000000 in
set_option maxRecDepth 100000 in
theorem c_M_blockCanBe_s1 (l : Launch) (K : CK) (D : va_G) (cI cJ cZ cB : ClassId) (p0 p1 p2 p3 p4 : Nat) (sz : Nat) (x0_4 : Bool) (x0_5 : Int32) (x0_6 : Int32) (x0_7 : Int32) (x0_8 : Int32) (x0_9 : Int32) (x0_10 : Int32) (x0_11 : Int32) (x0_12 : Int32) (x0_13 : Int32) (y1 : Nat → Int32) (y2 : Nat → Int32) (x3_0 : Int32) (x4_0 : Int32)   : Met l y_M_blockCanBe (.code y_M_blockCanBe b_M_blockCanBe 2 (some .boolean) :: tb) ({ frames := 1, cells := 0, slots := 0, locals := 21 }) (pMC K D cI cJ cZ cB (wS51 cI cJ cZ cB p0 p1 p2 p3 p4 x0_4 x0_5 x0_6 x0_7 x0_8 x0_9 x0_10 x0_11 x0_12 x0_13 y1 y2 x3_0 x4_0) sz [.ref p0]) (va_Qi (fun r (_ : Unit) => ∃ z : Bool, r = bI z) (fun _ t => (va_P D classes (wS51 cI cJ cZ cB p0 p1 p2 p3 p4 x0_4 x0_5 x0_6 x0_7 x0_8 x0_9 x0_10 x0_11 x0_12 x0_13 y1 y2 x3_0 x4_0) t.heap ∧ va_D (va_A (wS51 cI cJ cZ cB p0 p1 p2 p3 p4 x0_4 x0_5 x0_6 x0_7 x0_8 x0_9 x0_10 x0_11 x0_12 x0_13 y1 y2 x3_0 x4_0) sz) (wS51 cI cJ cZ cB p0 p1 p2 p3 p4 x0_4 x0_5 x0_6 x0_7 x0_8 x0_9 x0_10 x0_11 x0_12 x0_13 y1 y2 x3_0 x4_0))) (va_A (wS51 cI cJ cZ cB p0 p1 p2 p3 p4 x0_4 x0_5 x0_6 x0_7 x0_8 x0_9 x0_10 x0_11 x0_12 x0_13 y1 y2 x3_0 x4_0) sz)) 0 0 (va_A (wS51 cI cJ cZ cB p0 p1 p2 p3 p4 x0_4 x0_5 x0_6 x0_7 x0_8 x0_9 x0_10 x0_11 x0_12 x0_13 y1 y2 x3_0 x4_0) sz) := by
  refine Met.ofW (cc := b_M_blockCanBe) (maxL := 2) (ret := (some .boolean)) (by decide) rfl ?_
  intro p e s m args below meth c s₁ B hml hv
  obtain ⟨rfl, hsz, hK, hP, hD0, hC⟩ := hv
  subst hsz
  have hD := hD0.self (sz := s.heap.size)
  generalize hAe : va_A (wS51 cI cJ cZ cB p0 p1 p2 p3 p4 x0_4 x0_5 x0_6 x0_7 x0_8 x0_9 x0_10 x0_11 x0_12 x0_13 y1 y2 x3_0 x4_0) s.heap.size = A at hD hC ⊢
  have hA : ∀ q : Nat, s.heap.size ≤ q → A q := fun q h => by rw [← hAe]; exact Or.inr h
  clear hAe hD0
  have hS : va_S A s.heap s.heap [] := va_S.rf
  have hx := B.exec
  have hb := B.bytes
  have hr := B.returns
  have hts := atoms_spec (ws := .code y_M_blockCanBe b_M_blockCanBe 2 (some .boolean) :: tb) B.pre
  have hk : ∀ w ∈ tb, w.before [.ref p0].toArray s = true := fun w h => hts w (List.mem_cons_of_mem _ h)
  have hown : s.vm.findClass "SignMachine$Machine" = some m.cls := findClass_of_methodNamed B.named
  have hlocks := B.notSynchronized
  have hl := lv_entry ([.ref p0]) (n := 2) (Nat.le_of_ble_eq_true rfl)
  rw [lg_entry_eq]
  generalize (lg_sl ([.ref p0]) ++ List.replicate (2 - (lg_sl ([.ref p0])).length) Slot.unset).toArray = ls at hl ⊢
  have hl : lv_has ls 2 [(0, .ref p0)] := hl
  refine lv_aload_n hx hb d_M_blockCanBe_0 rfl (lv_at hl 0 rfl) ?_
  refine va_get (D := D) (ci := 1) (v := .int x0_9) (C := "SignMachine$Machine") (T := F_M) (N := 14) hx hb hk fi_M hown hK.1 hP 0 rfl rfl 9 (by decide) (hk _ k_176) (fun _ h9 => h9) rfl d_M_blockCanBe_1 ?_
  refine lv_bipush (v := 35) hx hb d_M_blockCanBe_4 (by decide) ?_
  refine lv_icmp_lt (tgt := 18) hx hb d_M_blockCanBe_6 (by decide) (fun c1 => ?_) (fun c1 => ?_)
  · refine lv_iconst (v := 1) hx hb d_M_blockCanBe_18 (by decide) ?_
    exact W.zret (v := (1 : Int32)) hx hb hr rfl (fun t ht hW => ⟨⟨(1 : Int32), (), rfl, ⟨true, rfl⟩, ⟨by show va_P D classes _ t.heap; rw [ht]; exact hP, hD⟩⟩, hS.F ht⟩) hS.2.2 d_M_blockCanBe_19
  · refine lv_aload_n hx hb d_M_blockCanBe_9 rfl (lv_at hl 0 rfl) ?_
    refine va_get (D := D) (ci := 1) (v := .int x0_9) (C := "SignMachine$Machine") (T := F_M) (N := 14) hx hb hk fi_M hown hK.1 hP 0 rfl rfl 9 (by decide) (hk _ k_176) (fun _ h9 => h9) rfl d_M_blockCanBe_10 ?_
    refine lv_bipush (v := 37) hx hb d_M_blockCanBe_13 (by decide) ?_
    refine lv_icmp_le (tgt := 20) hx hb d_M_blockCanBe_15 (by decide) (fun c2 => ?_) (fun c2 => ?_)
    · refine lv_aload_n hx hb d_M_blockCanBe_20 rfl (lv_at hl 0 rfl) ?_
      refine lv_aload_n hx hb d_M_blockCanBe_21 rfl (lv_at hl 0 rfl) ?_
      refine va_get (D := D) (ci := 1) (v := .int x0_10) (C := "SignMachine$Machine") (T := F_M) (N := 14) hx hb hk fi_M hown hK.1 hP 0 rfl rfl 10 (by decide) (hk _ k_177) (fun _ h9 => h9) rfl d_M_blockCanBe_22 ?_
      refine sn_q (va_runV (C := "SignMachine$Machine") (As := [.int x0_10]) (rest := []) ⟨hx, hb, hml, hown, hk⟩ (c_M_unit_s1 l K D cI cJ cZ cB p0 p1 p2 p3 p4 s.heap.size x0_4 x0_5 x0_6 x0_7 x0_8 x0_9 x0_10 x0_11 x0_12 x0_13 y1 y2 x3_0 x4_0  x0_10 ) (v_M_unit_s1 hk k_337 ⟨Nat.le_of_ble_eq_true rfl, Nat.le_of_ble_eq_true rfl⟩) (pMC_v hK hP hD hC hS hA (ci := 1) (q0 := 0) rfl rfl rfl) rfl rfl hl.1 rfl (lv_room (Nat.le_of_ble_eq_true rfl)) d_M_blockCanBe_25 ⟨by decide, by decide⟩) hS hA hD (fun rz3 u t H locs hr0 ht hB hFr hS => ?_)
      obtain ⟨hP, hD⟩ := hB
      rw [ht] at hP
      have hD := dwk hD hFr
      clear ht hFr
      have hP : va_P D classes (wS51 cI cJ cZ cB p0 p1 p2 p3 p4 x0_4 x0_5 x0_6 x0_7 x0_8 x0_9 x0_10 x0_11 x0_12 x0_13 y1 y2 x3_0 x4_0) H := hP
      have hD : va_D A (wS51 cI cJ cZ cB p0 p1 p2 p3 p4 x0_4 x0_5 x0_6 x0_7 x0_8 x0_9 x0_10 x0_11 x0_12 x0_13 y1 y2 x3_0 x4_0) := hD
      rcases hr0 with hr0 | hr0
      · subst hr0
        refine W.eq (g2 := F0 m 28 ls [.ref p3]) rfl ?_
        refine va_getN (D := D) (ci := 2) (v := .int x3_0) (C := "SignMachine$Tape") (T := F_T) (N := 2) hx hb hk fi_T hown hK.1 hP 3 rfl rfl 0 (by decide) (va_Nw.use rfl (hK.2 _ n_155)) (fun _ h9 => h9) rfl d_M_blockCanBe_28 ?_
        refine lv_istore_n (lv' := [(1, .int x3_0), (0, .ref p0)]) hx hb d_M_blockCanBe_31 rfl hl (by decide) rfl (fun ls hl => ?_)
        refine lv_aload_n hx hb d_M_blockCanBe_32 rfl (lv_at hl 1 rfl) ?_
        refine va_get (D := D) (ci := 1) (v := .int x0_9) (C := "SignMachine$Machine") (T := F_M) (N := 14) hx hb hk fi_M hown hK.1 hP 0 rfl rfl 9 (by decide) (hk _ k_176) (fun _ h9 => h9) rfl d_M_blockCanBe_33 ?_
        refine lv_bipush (v := 35) hx hb d_M_blockCanBe_36 (by decide) ?_
        refine lv_icmp_eq (tgt := 53) hx hb d_M_blockCanBe_38 (by decide) (fun c4 => ?_) (fun c4 => ?_)
        · refine lv_aload_n hx hb d_M_blockCanBe_53 rfl (lv_at hl 1 rfl) ?_
          refine va_get (D := D) (ci := 1) (v := .int x0_12) (C := "SignMachine$Machine") (T := F_M) (N := 14) hx hb hk fi_M hown hK.1 hP 0 rfl rfl 12 (by decide) (hk _ k_179) (fun _ h9 => h9) rfl d_M_blockCanBe_54 ?_
          refine lv_if_eq (tgt := 80) hx hb d_M_blockCanBe_57 (by decide) (fun c5 => ?_) (fun c5 => ?_)
          · refine lv_iconst (v := 1) hx hb d_M_blockCanBe_80 (by decide) ?_
            refine lv_goto (tgt := 85) hx hb d_M_blockCanBe_81 (by decide) ?_
            exact W.zret (v := (1 : Int32)) hx hb hr rfl (fun t ht hW => ⟨⟨(1 : Int32), (), rfl, ⟨true, rfl⟩, ⟨by show va_P D classes _ t.heap; rw [ht]; exact hP, hD⟩⟩, hS.F ht⟩) hS.2.2 d_M_blockCanBe_85
          · refine lv_iload_n hx hb d_M_blockCanBe_60 rfl (lv_at hl 0 rfl) ?_
            refine lv_aload_n hx hb d_M_blockCanBe_61 rfl (lv_at hl 1 rfl) ?_
            refine va_get (D := D) (ci := 1) (v := .int x0_12) (C := "SignMachine$Machine") (T := F_M) (N := 14) hx hb hk fi_M hown hK.1 hP 0 rfl rfl 12 (by decide) (hk _ k_179) (fun _ h9 => h9) rfl d_M_blockCanBe_62 ?_
            refine lv_iadd hx hb d_M_blockCanBe_65 ?_
            refine lv_topi (fun v6 hv6 => ?_)
            refine lv_if_lt (tgt := 84) hx hb d_M_blockCanBe_66 (by decide) (fun c7 => ?_) (fun c7 => ?_)
            · refine lv_iconst (v := 0) hx hb d_M_blockCanBe_84 (by decide) ?_
              exact W.zret (v := (0 : Int32)) hx hb hr rfl (fun t ht hW => ⟨⟨(0 : Int32), (), rfl, ⟨false, rfl⟩, ⟨by show va_P D classes _ t.heap; rw [ht]; exact hP, hD⟩⟩, hS.F ht⟩) hS.2.2 d_M_blockCanBe_85
            · refine lv_iload_n hx hb d_M_blockCanBe_69 rfl (lv_at hl 0 rfl) ?_
              refine lv_aload_n hx hb d_M_blockCanBe_70 rfl (lv_at hl 1 rfl) ?_
              refine va_get (D := D) (ci := 1) (v := .int x0_12) (C := "SignMachine$Machine") (T := F_M) (N := 14) hx hb hk fi_M hown hK.1 hP 0 rfl rfl 12 (by decide) (hk _ k_179) (fun _ h9 => h9) rfl d_M_blockCanBe_71 ?_
              refine lv_iadd hx hb d_M_blockCanBe_74 ?_
              refine lv_topi (fun v8 hv8 => ?_)
              refine lv_bipush (v := 40) hx hb d_M_blockCanBe_75 (by decide) ?_
              refine lv_icmp_gt (tgt := 84) hx hb d_M_blockCanBe_77 (by decide) (fun c9 => ?_) (fun c9 => ?_)
              · refine lv_iconst (v := 0) hx hb d_M_blockCanBe_84 (by decide) ?_
                exact W.zret (v := (0 : Int32)) hx hb hr rfl (fun t ht hW => ⟨⟨(0 : Int32), (), rfl, ⟨false, rfl⟩, ⟨by show va_P D classes _ t.heap; rw [ht]; exact hP, hD⟩⟩, hS.F ht⟩) hS.2.2 d_M_blockCanBe_85
              · refine lv_iconst (v := 1) hx hb d_M_blockCanBe_80 (by decide) ?_
                refine lv_goto (tgt := 85) hx hb d_M_blockCanBe_81 (by decide) ?_
                exact W.zret (v := (1 : Int32)) hx hb hr rfl (fun t ht hW => ⟨⟨(1 : Int32), (), rfl, ⟨true, rfl⟩, ⟨by show va_P D classes _ t.heap; rw [ht]; exact hP, hD⟩⟩, hS.F ht⟩) hS.2.2 d_M_blockCanBe_85
        · refine lv_iload_n hx hb d_M_blockCanBe_41 rfl (lv_at hl 0 rfl) ?_
          refine lv_bipush (v := 40) hx hb d_M_blockCanBe_42 (by decide) ?_
          refine lv_icmp_ge (tgt := 51) hx hb d_M_blockCanBe_44 (by decide) (fun c10 => ?_) (fun c10 => ?_)
          · refine lv_iconst (v := 0) hx hb d_M_blockCanBe_51 (by decide) ?_
            exact W.zret (v := (0 : Int32)) hx hb hr rfl (fun t ht hW => ⟨⟨(0 : Int32), (), rfl, ⟨false, rfl⟩, ⟨by show va_P D classes _ t.heap; rw [ht]; exact hP, hD⟩⟩, hS.F ht⟩) hS.2.2 d_M_blockCanBe_52
          · refine lv_iconst (v := 1) hx hb d_M_blockCanBe_47 (by decide) ?_
            refine lv_goto (tgt := 52) hx hb d_M_blockCanBe_48 (by decide) ?_
            exact W.zret (v := (1 : Int32)) hx hb hr rfl (fun t ht hW => ⟨⟨(1 : Int32), (), rfl, ⟨true, rfl⟩, ⟨by show va_P D classes _ t.heap; rw [ht]; exact hP, hD⟩⟩, hS.F ht⟩) hS.2.2 d_M_blockCanBe_52
      · subst hr0
        refine W.eq (g2 := F0 m 28 ls [.ref p4]) rfl ?_
        refine va_getN (D := D) (ci := 2) (v := .int x4_0) (C := "SignMachine$Tape") (T := F_T) (N := 2) hx hb hk fi_T hown hK.1 hP 4 rfl rfl 0 (by decide) (va_Nw.use rfl (hK.2 _ n_155)) (fun _ h9 => h9) rfl d_M_blockCanBe_28 ?_
        refine lv_istore_n (lv' := [(1, .int x4_0), (0, .ref p0)]) hx hb d_M_blockCanBe_31 rfl hl (by decide) rfl (fun ls hl => ?_)
        refine lv_aload_n hx hb d_M_blockCanBe_32 rfl (lv_at hl 1 rfl) ?_
        refine va_get (D := D) (ci := 1) (v := .int x0_9) (C := "SignMachine$Machine") (T := F_M) (N := 14) hx hb hk fi_M hown hK.1 hP 0 rfl rfl 9 (by decide) (hk _ k_176) (fun _ h9 => h9) rfl d_M_blockCanBe_33 ?_
        refine lv_bipush (v := 35) hx hb d_M_blockCanBe_36 (by decide) ?_
        refine lv_icmp_eq (tgt := 53) hx hb d_M_blockCanBe_38 (by decide) (fun c11 => ?_) (fun c11 => ?_)
        · refine lv_aload_n hx hb d_M_blockCanBe_53 rfl (lv_at hl 1 rfl) ?_
          refine va_get (D := D) (ci := 1) (v := .int x0_12) (C := "SignMachine$Machine") (T := F_M) (N := 14) hx hb hk fi_M hown hK.1 hP 0 rfl rfl 12 (by decide) (hk _ k_179) (fun _ h9 => h9) rfl d_M_blockCanBe_54 ?_
          refine lv_if_eq (tgt := 80) hx hb d_M_blockCanBe_57 (by decide) (fun c12 => ?_) (fun c12 => ?_)
          · refine lv_iconst (v := 1) hx hb d_M_blockCanBe_80 (by decide) ?_
            refine lv_goto (tgt := 85) hx hb d_M_blockCanBe_81 (by decide) ?_
            exact W.zret (v := (1 : Int32)) hx hb hr rfl (fun t ht hW => ⟨⟨(1 : Int32), (), rfl, ⟨true, rfl⟩, ⟨by show va_P D classes _ t.heap; rw [ht]; exact hP, hD⟩⟩, hS.F ht⟩) hS.2.2 d_M_blockCanBe_85
          · refine lv_iload_n hx hb d_M_blockCanBe_60 rfl (lv_at hl 0 rfl) ?_
            refine lv_aload_n hx hb d_M_blockCanBe_61 rfl (lv_at hl 1 rfl) ?_
            refine va_get (D := D) (ci := 1) (v := .int x0_12) (C := "SignMachine$Machine") (T := F_M) (N := 14) hx hb hk fi_M hown hK.1 hP 0 rfl rfl 12 (by decide) (hk _ k_179) (fun _ h9 => h9) rfl d_M_blockCanBe_62 ?_
            refine lv_iadd hx hb d_M_blockCanBe_65 ?_
            refine lv_topi (fun v13 hv13 => ?_)
            refine lv_if_lt (tgt := 84) hx hb d_M_blockCanBe_66 (by decide) (fun c14 => ?_) (fun c14 => ?_)
            · refine lv_iconst (v := 0) hx hb d_M_blockCanBe_84 (by decide) ?_
              exact W.zret (v := (0 : Int32)) hx hb hr rfl (fun t ht hW => ⟨⟨(0 : Int32), (), rfl, ⟨false, rfl⟩, ⟨by show va_P D classes _ t.heap; rw [ht]; exact hP, hD⟩⟩, hS.F ht⟩) hS.2.2 d_M_blockCanBe_85
            · refine lv_iload_n hx hb d_M_blockCanBe_69 rfl (lv_at hl 0 rfl) ?_
              refine lv_aload_n hx hb d_M_blockCanBe_70 rfl (lv_at hl 1 rfl) ?_
              refine va_get (D := D) (ci := 1) (v := .int x0_12) (C := "SignMachine$Machine") (T := F_M) (N := 14) hx hb hk fi_M hown hK.1 hP 0 rfl rfl 12 (by decide) (hk _ k_179) (fun _ h9 => h9) rfl d_M_blockCanBe_71 ?_
              refine lv_iadd hx hb d_M_blockCanBe_74 ?_
              refine lv_topi (fun v15 hv15 => ?_)
              refine lv_bipush (v := 40) hx hb d_M_blockCanBe_75 (by decide) ?_
              refine lv_icmp_gt (tgt := 84) hx hb d_M_blockCanBe_77 (by decide) (fun c16 => ?_) (fun c16 => ?_)
              · refine lv_iconst (v := 0) hx hb d_M_blockCanBe_84 (by decide) ?_
                exact W.zret (v := (0 : Int32)) hx hb hr rfl (fun t ht hW => ⟨⟨(0 : Int32), (), rfl, ⟨false, rfl⟩, ⟨by show va_P D classes _ t.heap; rw [ht]; exact hP, hD⟩⟩, hS.F ht⟩) hS.2.2 d_M_blockCanBe_85
              · refine lv_iconst (v := 1) hx hb d_M_blockCanBe_80 (by decide) ?_
                refine lv_goto (tgt := 85) hx hb d_M_blockCanBe_81 (by decide) ?_
                exact W.zret (v := (1 : Int32)) hx hb hr rfl (fun t ht hW => ⟨⟨(1 : Int32), (), rfl, ⟨true, rfl⟩, ⟨by show va_P D classes _ t.heap; rw [ht]; exact hP, hD⟩⟩, hS.F ht⟩) hS.2.2 d_M_blockCanBe_85
        · refine lv_iload_n hx hb d_M_blockCanBe_41 rfl (lv_at hl 0 rfl) ?_
          refine lv_bipush (v := 40) hx hb d_M_blockCanBe_42 (by decide) ?_
          refine lv_icmp_ge (tgt := 51) hx hb d_M_blockCanBe_44 (by decide) (fun c17 => ?_) (fun c17 => ?_)
          · refine lv_iconst (v := 0) hx hb d_M_blockCanBe_51 (by decide) ?_
            exact W.zret (v := (0 : Int32)) hx hb hr rfl (fun t ht hW => ⟨⟨(0 : Int32), (), rfl, ⟨false, rfl⟩, ⟨by show va_P D classes _ t.heap; rw [ht]; exact hP, hD⟩⟩, hS.F ht⟩) hS.2.2 d_M_blockCanBe_52
          · refine lv_iconst (v := 1) hx hb d_M_blockCanBe_47 (by decide) ?_
            refine lv_goto (tgt := 52) hx hb d_M_blockCanBe_48 (by decide) ?_
            exact W.zret (v := (1 : Int32)) hx hb hr rfl (fun t ht hW => ⟨⟨(1 : Int32), (), rfl, ⟨true, rfl⟩, ⟨by show va_P D classes _ t.heap; rw [ht]; exact hP, hD⟩⟩, hS.F ht⟩) hS.2.2 d_M_blockCanBe_52
    · refine lv_iconst (v := 1) hx hb d_M_blockCanBe_18 (by decide) ?_
      exact W.zret (v := (1 : Int32)) hx hb hr rfl (fun t ht hW => ⟨⟨(1 : Int32), (), rfl, ⟨true, rfl⟩, ⟨by show va_P D classes _ t.heap; rw [ht]; exact hP, hD⟩⟩, hS.F ht⟩) hS.2.2 d_M_blockCanBe_19
theorem v_M_blockCanBe_s1 {R : Room} {s : State} {args : Array Value} {own : String} {index : Nat} (hk : ∀ w ∈ tb, w.before args s = true) (hl : Cond.methodLink own index y_M_blockCanBe ∈ tb) (hR : 1 + 1 ≤ R.frames ∧ 8 + (2 + 11) + 21 ≤ R.locals) : CallW R s args own "SignMachine$Machine" index y_M_blockCanBe b_M_blockCanBe 2 (some .boolean) (.code y_M_blockCanBe b_M_blockCanBe 2 (some .boolean) :: tb) ({ frames := 1, cells := 0, slots := 0, locals := 21 }) 0 0 0 := mk_v 0 hk k_336 hl k_335 k_9 k_117 rfl rfl h_M_blockCanBe hR
set_option maxHeartbeats 4000000 in
set_option maxRecDepth 100000 in
theorem c_M_reasonAgainst_s1 (l : Launch) (K : CK) (D : va_G) (cI cJ cZ cB : ClassId) (p0 p1 p2 p3 p4 : Nat) (sz : Nat) (x0_4 : Bool) (x0_5 : Int32) (x0_6 : Int32) (x0_7 : Int32) (x0_8 : Int32) (x0_9 : Int32) (x0_10 : Int32) (x0_11 : Int32) (x0_12 : Int32) (x0_13 : Int32) (y1 : Nat → Int32) (y2 : Nat → Int32) (x3_0 : Int32) (x4_0 : Int32)   : Met l y_M_reasonAgainst (.code y_M_reasonAgainst b_M_reasonAgainst 1 (some .int) :: tb) ({ frames := 4, cells := 0, slots := 0, locals := 85 }) (pMC K D cI cJ cZ cB (wS51 cI cJ cZ cB p0 p1 p2 p3 p4 x0_4 x0_5 x0_6 x0_7 x0_8 x0_9 x0_10 x0_11 x0_12 x0_13 y1 y2 x3_0 x4_0) sz [.ref p0]) (va_Qi (fun r (_ : Unit) => True) (fun _ t => (va_P D classes (wS51 cI cJ cZ cB p0 p1 p2 p3 p4 x0_4 x0_5 x0_6 x0_7 x0_8 x0_9 x0_10 x0_11 x0_12 x0_13 y1 y2 x3_0 x4_0) t.heap ∧ va_D (va_A (wS51 cI cJ cZ cB p0 p1 p2 p3 p4 x0_4 x0_5 x0_6 x0_7 x0_8 x0_9 x0_10 x0_11 x0_12 x0_13 y1 y2 x3_0 x4_0) sz) (wS51 cI cJ cZ cB p0 p1 p2 p3 p4 x0_4 x0_5 x0_6 x0_7 x0_8 x0_9 x0_10 x0_11 x0_12 x0_13 y1 y2 x3_0 x4_0))) (va_A (wS51 cI cJ cZ cB p0 p1 p2 p3 p4 x0_4 x0_5 x0_6 x0_7 x0_8 x0_9 x0_10 x0_11 x0_12 x0_13 y1 y2 x3_0 x4_0) sz)) 0 0 (va_A (wS51 cI cJ cZ cB p0 p1 p2 p3 p4 x0_4 x0_5 x0_6 x0_7 x0_8 x0_9 x0_10 x0_11 x0_12 x0_13 y1 y2 x3_0 x4_0) sz) := by
  refine Met.ofW (cc := b_M_reasonAgainst) (maxL := 1) (ret := (some .int)) (by decide) rfl ?_
  intro p e s m args below meth c s₁ B hml hv
  obtain ⟨rfl, hsz, hK, hP, hD0, hC⟩ := hv
  subst hsz
  have hD := hD0.self (sz := s.heap.size)
  generalize hAe : va_A (wS51 cI cJ cZ cB p0 p1 p2 p3 p4 x0_4 x0_5 x0_6 x0_7 x0_8 x0_9 x0_10 x0_11 x0_12 x0_13 y1 y2 x3_0 x4_0) s.heap.size = A at hD hC ⊢
  have hA : ∀ q : Nat, s.heap.size ≤ q → A q := fun q h => by rw [← hAe]; exact Or.inr h
  clear hAe hD0
  have hS : va_S A s.heap s.heap [] := va_S.rf
  have hx := B.exec
  have hb := B.bytes
  have hr := B.returns
  have hts := atoms_spec (ws := .code y_M_reasonAgainst b_M_reasonAgainst 1 (some .int) :: tb) B.pre
  have hk : ∀ w ∈ tb, w.before [.ref p0].toArray s = true := fun w h => hts w (List.mem_cons_of_mem _ h)
  have hown : s.vm.findClass "SignMachine$Machine" = some m.cls := findClass_of_methodNamed B.named
  have hlocks := B.notSynchronized
  have hl := lv_entry ([.ref p0]) (n := 1) (Nat.le_of_ble_eq_true rfl)
  rw [lg_entry_eq]
  generalize (lg_sl ([.ref p0]) ++ List.replicate (1 - (lg_sl ([.ref p0])).length) Slot.unset).toArray = ls at hl ⊢
  have hl : lv_has ls 1 [(0, .ref p0)] := hl
  refine lv_aload_n hx hb d_M_reasonAgainst_0 rfl (lv_at hl 0 rfl) ?_
  refine sn_i (va_runV (C := "SignMachine$Machine") (As := []) (rest := []) ⟨hx, hb, hml, hown, hk⟩ (c_M_shapeCanBe_s1 l K D cI cJ cZ cB p0 p1 p2 p3 p4 s.heap.size x0_4 x0_5 x0_6 x0_7 x0_8 x0_9 x0_10 x0_11 x0_12 x0_13 y1 y2 x3_0 x4_0   ) (v_M_shapeCanBe_s1 hk k_284 ⟨Nat.le_of_ble_eq_true rfl, Nat.le_of_ble_eq_true rfl⟩) (pMC_v hK hP hD hC hS hA (ci := 1) (q0 := 0) rfl rfl rfl) rfl rfl hl.1 rfl (lv_room (Nat.le_of_ble_eq_true rfl)) d_M_reasonAgainst_1 ⟨by decide, by decide⟩) hS hA hD (fun rz1 u t H locs hr0 ht hB hFr hS => ?_)
  obtain ⟨z1, hz1⟩ := hr0
  subst hz1
  obtain ⟨hP, hD⟩ := hB
  rw [ht] at hP
  have hD := dwk hD hFr
  clear ht hFr
  have hP : va_P D classes (wS51 cI cJ cZ cB p0 p1 p2 p3 p4 x0_4 x0_5 x0_6 x0_7 x0_8 x0_9 x0_10 x0_11 x0_12 x0_13 y1 y2 x3_0 x4_0) H := hP
  have hD : va_D A (wS51 cI cJ cZ cB p0 p1 p2 p3 p4 x0_4 x0_5 x0_6 x0_7 x0_8 x0_9 x0_10 x0_11 x0_12 x0_13 y1 y2 x3_0 x4_0) := hD
  refine lv_if_ne (tgt := 9) hx hb d_M_reasonAgainst_4 (by decide) (fun c2 => ?_) (fun c2 => ?_)
  · refine lv_aload_n hx hb d_M_reasonAgainst_9 rfl (lv_at hl 0 rfl) ?_
    refine sn_i (va_runV (C := "SignMachine$Machine") (As := []) (rest := []) ⟨hx, hb, hml, hown, hk⟩ (c_M_addressCanBe_s1 l K D cI cJ cZ cB p0 p1 p2 p3 p4 H.size x0_4 x0_5 x0_6 x0_7 x0_8 x0_9 x0_10 x0_11 x0_12 x0_13 y1 y2 x3_0 x4_0   ) (v_M_addressCanBe_s1 hk k_295 ⟨Nat.le_of_ble_eq_true rfl, Nat.le_of_ble_eq_true rfl⟩) (pMC_v hK hP hD hC hS hA (ci := 1) (q0 := 0) rfl rfl rfl) rfl rfl hl.1 rfl (lv_room (Nat.le_of_ble_eq_true rfl)) d_M_reasonAgainst_10 ⟨by decide, by decide⟩) hS hA hD (fun rz3 u t H locs hr0 ht hB hFr hS => ?_)
    obtain ⟨z3, hz3⟩ := hr0
    subst hz3
    obtain ⟨hP, hD⟩ := hB
    rw [ht] at hP
    have hD := dwk hD hFr
    clear ht hFr
    have hP : va_P D classes (wS51 cI cJ cZ cB p0 p1 p2 p3 p4 x0_4 x0_5 x0_6 x0_7 x0_8 x0_9 x0_10 x0_11 x0_12 x0_13 y1 y2 x3_0 x4_0) H := hP
    have hD : va_D A (wS51 cI cJ cZ cB p0 p1 p2 p3 p4 x0_4 x0_5 x0_6 x0_7 x0_8 x0_9 x0_10 x0_11 x0_12 x0_13 y1 y2 x3_0 x4_0) := hD
    refine lv_if_ne (tgt := 18) hx hb d_M_reasonAgainst_13 (by decide) (fun c4 => ?_) (fun c4 => ?_)
    · refine lv_aload_n hx hb d_M_reasonAgainst_18 rfl (lv_at hl 0 rfl) ?_
      refine sn_i (va_runV (C := "SignMachine$Machine") (As := []) (rest := []) ⟨hx, hb, hml, hown, hk⟩ (c_M_indexCanBe_s1 l K D cI cJ cZ cB p0 p1 p2 p3 p4 H.size x0_4 x0_5 x0_6 x0_7 x0_8 x0_9 x0_10 x0_11 x0_12 x0_13 y1 y2 x3_0 x4_0   ) (v_M_indexCanBe_s1 hk k_306 ⟨Nat.le_of_ble_eq_true rfl, Nat.le_of_ble_eq_true rfl⟩) (pMC_v hK hP hD hC hS hA (ci := 1) (q0 := 0) rfl rfl rfl) rfl rfl hl.1 rfl (lv_room (Nat.le_of_ble_eq_true rfl)) d_M_reasonAgainst_19 ⟨by decide, by decide⟩) hS hA hD (fun rz5 u t H locs hr0 ht hB hFr hS => ?_)
      obtain ⟨z5, hz5⟩ := hr0
      subst hz5
      obtain ⟨hP, hD⟩ := hB
      rw [ht] at hP
      have hD := dwk hD hFr
      clear ht hFr
      have hP : va_P D classes (wS51 cI cJ cZ cB p0 p1 p2 p3 p4 x0_4 x0_5 x0_6 x0_7 x0_8 x0_9 x0_10 x0_11 x0_12 x0_13 y1 y2 x3_0 x4_0) H := hP
      have hD : va_D A (wS51 cI cJ cZ cB p0 p1 p2 p3 p4 x0_4 x0_5 x0_6 x0_7 x0_8 x0_9 x0_10 x0_11 x0_12 x0_13 y1 y2 x3_0 x4_0) := hD
      refine lv_if_ne (tgt := 27) hx hb d_M_reasonAgainst_22 (by decide) (fun c6 => ?_) (fun c6 => ?_)
      · refine lv_aload_n hx hb d_M_reasonAgainst_27 rfl (lv_at hl 0 rfl) ?_
        refine sn_i (va_runV (C := "SignMachine$Machine") (As := []) (rest := []) ⟨hx, hb, hml, hown, hk⟩ (c_M_blockCanBe_s1 l K D cI cJ cZ cB p0 p1 p2 p3 p4 H.size x0_4 x0_5 x0_6 x0_7 x0_8 x0_9 x0_10 x0_11 x0_12 x0_13 y1 y2 x3_0 x4_0   ) (v_M_blockCanBe_s1 hk k_333 ⟨Nat.le_of_ble_eq_true rfl, Nat.le_of_ble_eq_true rfl⟩) (pMC_v hK hP hD hC hS hA (ci := 1) (q0 := 0) rfl rfl rfl) rfl rfl hl.1 rfl (lv_room (Nat.le_of_ble_eq_true rfl)) d_M_reasonAgainst_28 ⟨by decide, by decide⟩) hS hA hD (fun rz7 u t H locs hr0 ht hB hFr hS => ?_)
        obtain ⟨z7, hz7⟩ := hr0
        subst hz7
        obtain ⟨hP, hD⟩ := hB
        rw [ht] at hP
        have hD := dwk hD hFr
        clear ht hFr
        have hP : va_P D classes (wS51 cI cJ cZ cB p0 p1 p2 p3 p4 x0_4 x0_5 x0_6 x0_7 x0_8 x0_9 x0_10 x0_11 x0_12 x0_13 y1 y2 x3_0 x4_0) H := hP
        have hD : va_D A (wS51 cI cJ cZ cB p0 p1 p2 p3 p4 x0_4 x0_5 x0_6 x0_7 x0_8 x0_9 x0_10 x0_11 x0_12 x0_13 y1 y2 x3_0 x4_0) := hD
        refine lv_if_eq (tgt := 38) hx hb d_M_reasonAgainst_31 (by decide) (fun c8 => ?_) (fun c8 => ?_)
        · refine lv_iconst (v := 5) hx hb d_M_reasonAgainst_38 (by decide) ?_
          exact W.iret (v := (5 : Int32)) hx hb hr (fun t ht hW => ⟨⟨(5 : Int32), (), rfl, trivial, ⟨by show va_P D classes _ t.heap; rw [ht]; exact hP, hD⟩⟩, hS.F ht⟩) hS.2.2 d_M_reasonAgainst_39
        · refine lv_iconst (v := 0) hx hb d_M_reasonAgainst_34 (by decide) ?_
          refine lv_goto (tgt := 39) hx hb d_M_reasonAgainst_35 (by decide) ?_
          exact W.iret (v := (0 : Int32)) hx hb hr (fun t ht hW => ⟨⟨(0 : Int32), (), rfl, trivial, ⟨by show va_P D classes _ t.heap; rw [ht]; exact hP, hD⟩⟩, hS.F ht⟩) hS.2.2 d_M_reasonAgainst_39
      · refine lv_iconst (v := 4) hx hb d_M_reasonAgainst_25 (by decide) ?_
        exact W.iret (v := (4 : Int32)) hx hb hr (fun t ht hW => ⟨⟨(4 : Int32), (), rfl, trivial, ⟨by show va_P D classes _ t.heap; rw [ht]; exact hP, hD⟩⟩, hS.F ht⟩) hS.2.2 d_M_reasonAgainst_26
    · refine lv_iconst (v := 3) hx hb d_M_reasonAgainst_16 (by decide) ?_
      exact W.iret (v := (3 : Int32)) hx hb hr (fun t ht hW => ⟨⟨(3 : Int32), (), rfl, trivial, ⟨by show va_P D classes _ t.heap; rw [ht]; exact hP, hD⟩⟩, hS.F ht⟩) hS.2.2 d_M_reasonAgainst_17
  · refine lv_iconst (v := 2) hx hb d_M_reasonAgainst_7 (by decide) ?_
    exact W.iret (v := (2 : Int32)) hx hb hr (fun t ht hW => ⟨⟨(2 : Int32), (), rfl, trivial, ⟨by show va_P D classes _ t.heap; rw [ht]; exact hP, hD⟩⟩, hS.F ht⟩) hS.2.2 d_M_reasonAgainst_8
theorem v_M_reasonAgainst_s1 {R : Room} {s : State} {args : Array Value} {own : String} {index : Nat} (hk : ∀ w ∈ tb, w.before args s = true) (hl : Cond.methodLink own index y_M_reasonAgainst ∈ tb) (hR : 4 + 1 ≤ R.frames ∧ 8 + (1 + 11) + 85 ≤ R.locals) : CallW R s args own "SignMachine$Machine" index y_M_reasonAgainst b_M_reasonAgainst 1 (some .int) (.code y_M_reasonAgainst b_M_reasonAgainst 1 (some .int) :: tb) ({ frames := 4, cells := 0, slots := 0, locals := 85 }) 0 0 0 := mk_v 0 hk k_283 hl k_282 k_1 k_117 rfl rfl h_M_reasonAgainst hR
set_option maxHeartbeats 4000000 in
set_option maxRecDepth 100000 in
theorem c_M_duration_s1 (l : Launch) (K : CK) (D : va_G) (cI cJ cZ cB : ClassId) (p0 p1 p2 p3 p4 : Nat) (sz : Nat) (x0_4 : Bool) (x0_5 : Int32) (x0_6 : Int32) (x0_7 : Int32) (x0_8 : Int32) (x0_9 : Int32) (x0_10 : Int32) (x0_11 : Int32) (x0_12 : Int32) (x0_13 : Int32) (y1 : Nat → Int32) (y2 : Nat → Int32) (x3_0 : Int32) (x4_0 : Int32)   : Met l y_M_duration (.code y_M_duration b_M_duration 1 (some .int) :: tb) ({ frames := 1, cells := 0, slots := 0, locals := 20 }) (pMC K D cI cJ cZ cB (wS51 cI cJ cZ cB p0 p1 p2 p3 p4 x0_4 x0_5 x0_6 x0_7 x0_8 x0_9 x0_10 x0_11 x0_12 x0_13 y1 y2 x3_0 x4_0) sz [.ref p0]) (va_Qi (fun r (_ : Unit) => True) (fun _ t => (va_P D classes (wS51 cI cJ cZ cB p0 p1 p2 p3 p4 x0_4 x0_5 x0_6 x0_7 x0_8 x0_9 x0_10 x0_11 x0_12 x0_13 y1 y2 x3_0 x4_0) t.heap ∧ va_D (va_A (wS51 cI cJ cZ cB p0 p1 p2 p3 p4 x0_4 x0_5 x0_6 x0_7 x0_8 x0_9 x0_10 x0_11 x0_12 x0_13 y1 y2 x3_0 x4_0) sz) (wS51 cI cJ cZ cB p0 p1 p2 p3 p4 x0_4 x0_5 x0_6 x0_7 x0_8 x0_9 x0_10 x0_11 x0_12 x0_13 y1 y2 x3_0 x4_0))) (va_A (wS51 cI cJ cZ cB p0 p1 p2 p3 p4 x0_4 x0_5 x0_6 x0_7 x0_8 x0_9 x0_10 x0_11 x0_12 x0_13 y1 y2 x3_0 x4_0) sz)) 0 0 (va_A (wS51 cI cJ cZ cB p0 p1 p2 p3 p4 x0_4 x0_5 x0_6 x0_7 x0_8 x0_9 x0_10 x0_11 x0_12 x0_13 y1 y2 x3_0 x4_0) sz) := by
  refine Met.ofW (cc := b_M_duration) (maxL := 1) (ret := (some .int)) (by decide) rfl ?_
  intro p e s m args below meth c s₁ B hml hv
  obtain ⟨rfl, hsz, hK, hP, hD0, hC⟩ := hv
  subst hsz
  have hD := hD0.self (sz := s.heap.size)
  generalize hAe : va_A (wS51 cI cJ cZ cB p0 p1 p2 p3 p4 x0_4 x0_5 x0_6 x0_7 x0_8 x0_9 x0_10 x0_11 x0_12 x0_13 y1 y2 x3_0 x4_0) s.heap.size = A at hD hC ⊢
  have hA : ∀ q : Nat, s.heap.size ≤ q → A q := fun q h => by rw [← hAe]; exact Or.inr h
  clear hAe hD0
  have hS : va_S A s.heap s.heap [] := va_S.rf
  have hx := B.exec
  have hb := B.bytes
  have hr := B.returns
  have hts := atoms_spec (ws := .code y_M_duration b_M_duration 1 (some .int) :: tb) B.pre
  have hk : ∀ w ∈ tb, w.before [.ref p0].toArray s = true := fun w h => hts w (List.mem_cons_of_mem _ h)
  have hown : s.vm.findClass "SignMachine$Machine" = some m.cls := findClass_of_methodNamed B.named
  have hlocks := B.notSynchronized
  have hl := lv_entry ([.ref p0]) (n := 1) (Nat.le_of_ble_eq_true rfl)
  rw [lg_entry_eq]
  generalize (lg_sl ([.ref p0]) ++ List.replicate (1 - (lg_sl ([.ref p0])).length) Slot.unset).toArray = ls at hl ⊢
  have hl : lv_has ls 1 [(0, .ref p0)] := hl
  refine lv_aload_n hx hb d_M_duration_0 rfl (lv_at hl 0 rfl) ?_
  refine sn_i (va_runV (C := "SignMachine$Machine") (As := []) (rest := []) ⟨hx, hb, hml, hown, hk⟩ (c_M_hasFieldOfWord_s1 l K D cI cJ cZ cB p0 p1 p2 p3 p4 s.heap.size x0_4 x0_5 x0_6 x0_7 x0_8 x0_9 x0_10 x0_11 x0_12 x0_13 y1 y2 x3_0 x4_0   ) (v_M_hasFieldOfWord_s1 hk k_288 ⟨Nat.le_of_ble_eq_true rfl, Nat.le_of_ble_eq_true rfl⟩) (pMC_v hK hP hD hC hS hA (ci := 1) (q0 := 0) rfl rfl rfl) rfl rfl hl.1 rfl (lv_room (Nat.le_of_ble_eq_true rfl)) d_M_duration_1 ⟨by decide, by decide⟩) hS hA hD (fun rz1 u t H locs hr0 ht hB hFr hS => ?_)
  obtain ⟨z1, hz1⟩ := hr0
  subst hz1
  obtain ⟨hP, hD⟩ := hB
  rw [ht] at hP
  have hD := dwk hD hFr
  clear ht hFr
  have hP : va_P D classes (wS51 cI cJ cZ cB p0 p1 p2 p3 p4 x0_4 x0_5 x0_6 x0_7 x0_8 x0_9 x0_10 x0_11 x0_12 x0_13 y1 y2 x3_0 x4_0) H := hP
  have hD : va_D A (wS51 cI cJ cZ cB p0 p1 p2 p3 p4 x0_4 x0_5 x0_6 x0_7 x0_8 x0_9 x0_10 x0_11 x0_12 x0_13 y1 y2 x3_0 x4_0) := hD
  refine lv_if_eq (tgt := 35) hx hb d_M_duration_4 (by decide) (fun c2 => ?_) (fun c2 => ?_)
  · refine lv_aload_n hx hb d_M_duration_35 rfl (lv_at hl 0 rfl) ?_
    refine va_get (D := D) (ci := 1) (v := .int x0_9) (C := "SignMachine$Machine") (T := F_M) (N := 14) hx hb hk fi_M hown hK.1 hP 0 rfl rfl 9 (by decide) (hk _ k_176) (fun _ h9 => h9) rfl d_M_duration_36 ?_
    by_cases c3 : x0_9 = (5 : Int32)
    · refine lv_tableIn (off := 25) (tgt := 64) hx hb d_M_duration_39 (by rw [c3]; decide) (by rw [c3]; decide) (by rw [c3]; rfl) (by decide) ?_
      refine lv_bipush (v := 10) hx hb d_M_duration_64 (by decide) ?_
      exact W.iret (v := (10 : Int32)) hx hb hr (fun t ht hW => ⟨⟨(10 : Int32), (), rfl, trivial, ⟨by show va_P D classes _ t.heap; rw [ht]; exact hP, hD⟩⟩, hS.F ht⟩) hS.2.2 d_M_duration_66
    · by_cases c4 : x0_9 = (6 : Int32)
      · refine lv_tableIn (off := 28) (tgt := 67) hx hb d_M_duration_39 (by rw [c4]; decide) (by rw [c4]; decide) (by rw [c4]; rfl) (by decide) ?_
        refine lv_iconst (v := 2) hx hb d_M_duration_67 (by decide) ?_
        exact W.iret (v := (2 : Int32)) hx hb hr (fun t ht hW => ⟨⟨(2 : Int32), (), rfl, trivial, ⟨by show va_P D classes _ t.heap; rw [ht]; exact hP, hD⟩⟩, hS.F ht⟩) hS.2.2 d_M_duration_68
      · by_cases c5 : x0_9 = (7 : Int32)
        · refine lv_tableIn (off := 30) (tgt := 69) hx hb d_M_duration_39 (by rw [c5]; decide) (by rw [c5]; decide) (by rw [c5]; rfl) (by decide) ?_
          refine lv_iconst (v := 1) hx hb d_M_duration_69 (by decide) ?_
          refine lv_iconst (v := 2) hx hb d_M_duration_70 (by decide) ?_
          refine lv_aload_n hx hb d_M_duration_71 rfl (lv_at hl 0 rfl) ?_
          refine va_get (D := D) (ci := 1) (v := .int x0_10) (C := "SignMachine$Machine") (T := F_M) (N := 14) hx hb hk fi_M hown hK.1 hP 0 rfl rfl 10 (by decide) (hk _ k_177) (fun _ h9 => h9) rfl d_M_duration_72 ?_
          refine lv_imul hx hb d_M_duration_75 ?_
          refine lv_topi (fun v6 hv6 => ?_)
          refine lv_iadd hx hb d_M_duration_76 ?_
          refine lv_topi (fun v7 hv7 => ?_)
          exact W.iret (v := v7) hx hb hr (fun t ht hW => ⟨⟨v7, (), rfl, trivial, ⟨by show va_P D classes _ t.heap; rw [ht]; exact hP, hD⟩⟩, hS.F ht⟩) hS.2.2 d_M_duration_77
        · refine lv_tableOut (tgt := 78) hx hb d_M_duration_39 (by have e0 := lv_neT c3 (a := 5) rfl; have e1 := lv_neT c4 (a := 6) rfl; have e2 := lv_neT c5 (a := 7) rfl; omega) (by decide) ?_
          refine lv_iconst (v := 1) hx hb d_M_duration_78 (by decide) ?_
          exact W.iret (v := (1 : Int32)) hx hb hr (fun t ht hW => ⟨⟨(1 : Int32), (), rfl, trivial, ⟨by show va_P D classes _ t.heap; rw [ht]; exact hP, hD⟩⟩, hS.F ht⟩) hS.2.2 d_M_duration_79
  · refine lv_aload_n hx hb d_M_duration_7 rfl (lv_at hl 0 rfl) ?_
    refine va_get (D := D) (ci := 1) (v := .int x0_9) (C := "SignMachine$Machine") (T := F_M) (N := 14) hx hb hk fi_M hown hK.1 hP 0 rfl rfl 9 (by decide) (hk _ k_176) (fun _ h9 => h9) rfl d_M_duration_8 ?_
    refine lv_iconst (v := 3) hx hb d_M_duration_11 (by decide) ?_
    refine lv_icmp_ne (tgt := 20) hx hb d_M_duration_12 (by decide) (fun c8 => ?_) (fun c8 => ?_)
    · refine lv_aload_n hx hb d_M_duration_20 rfl (lv_at hl 0 rfl) ?_
      refine va_get (D := D) (ci := 1) (v := .int x0_9) (C := "SignMachine$Machine") (T := F_M) (N := 14) hx hb hk fi_M hown hK.1 hP 0 rfl rfl 9 (by decide) (hk _ k_176) (fun _ h9 => h9) rfl d_M_duration_21 ?_
      refine lv_iconst (v := 4) hx hb d_M_duration_24 (by decide) ?_
      refine lv_icmp_ne (tgt := 33) hx hb d_M_duration_25 (by decide) (fun c9 => ?_) (fun c9 => ?_)
      · refine lv_iconst (v := 2) hx hb d_M_duration_33 (by decide) ?_
        exact W.iret (v := (2 : Int32)) hx hb hr (fun t ht hW => ⟨⟨(2 : Int32), (), rfl, trivial, ⟨by show va_P D classes _ t.heap; rw [ht]; exact hP, hD⟩⟩, hS.F ht⟩) hS.2.2 d_M_duration_34
      · refine lv_bipush (v := 12) hx hb d_M_duration_28 (by decide) ?_
        refine lv_goto (tgt := 34) hx hb d_M_duration_30 (by decide) ?_
        exact W.iret (v := (12 : Int32)) hx hb hr (fun t ht hW => ⟨⟨(12 : Int32), (), rfl, trivial, ⟨by show va_P D classes _ t.heap; rw [ht]; exact hP, hD⟩⟩, hS.F ht⟩) hS.2.2 d_M_duration_34
    · refine lv_bipush (v := 10) hx hb d_M_duration_15 (by decide) ?_
      refine lv_goto (tgt := 34) hx hb d_M_duration_17 (by decide) ?_
      exact W.iret (v := (10 : Int32)) hx hb hr (fun t ht hW => ⟨⟨(10 : Int32), (), rfl, trivial, ⟨by show va_P D classes _ t.heap; rw [ht]; exact hP, hD⟩⟩, hS.F ht⟩) hS.2.2 d_M_duration_34
theorem v_M_duration_s1 {R : Room} {s : State} {args : Array Value} {own : String} {index : Nat} (hk : ∀ w ∈ tb, w.before args s = true) (hl : Cond.methodLink own index y_M_duration ∈ tb) (hR : 1 + 1 ≤ R.frames ∧ 8 + (1 + 11) + 20 ≤ R.locals) : CallW R s args own "SignMachine$Machine" index y_M_duration b_M_duration 1 (some .int) (.code y_M_duration b_M_duration 1 (some .int) :: tb) ({ frames := 1, cells := 0, slots := 0, locals := 20 }) 0 0 0 := mk_v 0 hk k_344 hl k_343 k_10 k_117 rfl rfl h_M_duration hR
set_option maxHeartbeats 4000000 in
set_option maxRecDepth 100000 in
theorem c_M_unit_s2 (l : Launch) (K : CK) (D : va_G) (cI cJ cZ cB : ClassId) (p0 p1 p2 p3 p4 : Nat) (sz : Nat) (x0_4 : Bool) (x0_5 : Int32) (x0_6 : Int32) (x0_7 : Int32) (x0_8 : Int32) (x0_9 : Int32) (x0_10 : Int32) (x0_11 : Int32) (x0_12 : Int32) (x0_13 : Int32) (y1 : Nat → Int32) (y2 : Nat → Int32) (x3_0 : Int32) (x4_0 : Int32)  (a1 : Int32) (hy1 : a1 = (0 : Int32)) : Met l y_M_unit (.code y_M_unit b_M_unit 2 (some (.object "SignMachine$Tape")) :: tb) ({ frames := 0, cells := 0, slots := 0, locals := 0 }) (pMC K D cI cJ cZ cB (wS51 cI cJ cZ cB p0 p1 p2 p3 p4 x0_4 x0_5 x0_6 x0_7 x0_8 x0_9 x0_10 x0_11 x0_12 x0_13 y1 y2 x3_0 x4_0) sz [.ref p0, .int a1]) (va_Qq (fun r (_ : Unit) => r = some p3) (fun _ t => (va_P D classes (wS51 cI cJ cZ cB p0 p1 p2 p3 p4 x0_4 x0_5 x0_6 x0_7 x0_8 x0_9 x0_10 x0_11 x0_12 x0_13 y1 y2 x3_0 x4_0) t.heap ∧ va_D (va_A (wS51 cI cJ cZ cB p0 p1 p2 p3 p4 x0_4 x0_5 x0_6 x0_7 x0_8 x0_9 x0_10 x0_11 x0_12 x0_13 y1 y2 x3_0 x4_0) sz) (wS51 cI cJ cZ cB p0 p1 p2 p3 p4 x0_4 x0_5 x0_6 x0_7 x0_8 x0_9 x0_10 x0_11 x0_12 x0_13 y1 y2 x3_0 x4_0))) (va_A (wS51 cI cJ cZ cB p0 p1 p2 p3 p4 x0_4 x0_5 x0_6 x0_7 x0_8 x0_9 x0_10 x0_11 x0_12 x0_13 y1 y2 x3_0 x4_0) sz)) 0 0 (va_A (wS51 cI cJ cZ cB p0 p1 p2 p3 p4 x0_4 x0_5 x0_6 x0_7 x0_8 x0_9 x0_10 x0_11 x0_12 x0_13 y1 y2 x3_0 x4_0) sz) := by
  refine Met.ofW (cc := b_M_unit) (maxL := 2) (ret := (some (.object "SignMachine$Tape"))) (by decide) rfl ?_
  intro p e s m args below meth c s₁ B hml hv
  obtain ⟨rfl, hsz, hK, hP, hD0, hC⟩ := hv
  subst hsz
  have hD := hD0.self (sz := s.heap.size)
  generalize hAe : va_A (wS51 cI cJ cZ cB p0 p1 p2 p3 p4 x0_4 x0_5 x0_6 x0_7 x0_8 x0_9 x0_10 x0_11 x0_12 x0_13 y1 y2 x3_0 x4_0) s.heap.size = A at hD hC ⊢
  have hA : ∀ q : Nat, s.heap.size ≤ q → A q := fun q h => by rw [← hAe]; exact Or.inr h
  clear hAe hD0
  have hS : va_S A s.heap s.heap [] := va_S.rf
  have hx := B.exec
  have hb := B.bytes
  have hr := B.returns
  have hts := atoms_spec (ws := .code y_M_unit b_M_unit 2 (some (.object "SignMachine$Tape")) :: tb) B.pre
  have hk : ∀ w ∈ tb, w.before [.ref p0, .int a1].toArray s = true := fun w h => hts w (List.mem_cons_of_mem _ h)
  have hown : s.vm.findClass "SignMachine$Machine" = some m.cls := findClass_of_methodNamed B.named
  have hlocks := B.notSynchronized
  have hl := lv_entry ([.ref p0, .int a1]) (n := 2) (Nat.le_of_ble_eq_true rfl)
  rw [lg_entry_eq]
  generalize (lg_sl ([.ref p0, .int a1]) ++ List.replicate (2 - (lg_sl ([.ref p0, .int a1])).length) Slot.unset).toArray = ls at hl ⊢
  have hl : lv_has ls 2 [(0, .ref p0), (1, .int a1)] := hl
  refine lv_iload_n hx hb d_M_unit_0 rfl (lv_at hl 1 rfl) ?_
  refine lv_if_ne (tgt := 11) hx hb d_M_unit_1 (by decide) (fun c1 => absurd (show a1 = (0 : Int32) from hy1) c1) (fun c1 => ?_)
  refine lv_aload_n hx hb d_M_unit_4 rfl (lv_at hl 0 rfl) ?_
  refine va_get (D := D) (ci := 1) (v := .ref p3) (C := "SignMachine$Machine") (T := F_M) (N := 14) hx hb hk fi_M hown hK.1 hP 0 rfl rfl 2 (by decide) (hk _ k_165) (fun _ h9 => h9) rfl d_M_unit_5 ?_
  refine lv_goto (tgt := 15) hx hb d_M_unit_8 (by decide) ?_
  exact W.aret (v := .ref p3) hx hb hr (Or.inl ⟨_, rfl⟩) (Or.inr ⟨_, rfl⟩) (fun t ht hW => ⟨⟨(some p3), (), rfl, rfl, ⟨by show va_P D classes _ t.heap; rw [ht]; exact hP, hD⟩⟩, hS.F ht⟩) hS.2.2 d_M_unit_15
theorem v_M_unit_s2 {R : Room} {s : State} {args : Array Value} {own : String} {index : Nat} (hk : ∀ w ∈ tb, w.before args s = true) (hl : Cond.methodLink own index y_M_unit ∈ tb) (hR : 0 + 1 ≤ R.frames ∧ 8 + (2 + 11) + 0 ≤ R.locals) : CallW R s args own "SignMachine$Machine" index y_M_unit b_M_unit 2 (some (.object "SignMachine$Tape")) (.code y_M_unit b_M_unit 2 (some (.object "SignMachine$Tape")) :: tb) ({ frames := 0, cells := 0, slots := 0, locals := 0 }) 0 0 1 := mk_v 1 hk k_340 hl k_338 k_339 k_117 rfl rfl h_M_unit hR
abbrev wS56 (cI cJ cZ cB : ClassId) (p0 p1 p2 p3 p4 p5 : Nat) (x0_4 : Bool) (x0_5 : Int32) (x0_6 : Int32) (x0_7 : Int32) (x0_8 : Int32) (x0_9 : Int32) (x0_10 : Int32) (x0_11 : Int32) (x0_12 : Int32) (x0_13 : Int32) (y1 : Nat → Int32) (y2 : Nat → Int32) (x3_0 : Int32) (x4_0 : Int32) (y5 : Nat → Int32) : va_W := [(p0, .inr (1, [.ref p1, .ref p2, .ref p3, .ref p4, .int (bI x0_4), .int x0_5, .int x0_6, .int x0_7, .int x0_8, .int x0_9, .int x0_10, .int x0_11, .int x0_12, .int x0_13])), (p1, .inl (cI, 4000, .inl y1)), (p2, .inl (cI, 9, .inl y2)), (p3, .inr (2, [.int x3_0, .null])), (p4, .inr (2, [.int x4_0, .null])), (p5, .inl (cI, 4000, .inl y5))]
abbrev wS57 (cI cJ cZ cB : ClassId) (p0 p1 p2 p3 p4 p5 : Nat) (x0_4 : Bool) (x0_5 : Int32) (x0_6 : Int32) (x0_7 : Int32) (x0_8 : Int32) (x0_9 : Int32) (x0_10 : Int32) (x0_11 : Int32) (x0_12 : Int32) (x0_13 : Int32) (y1 : Nat → Int32) (y2 : Nat → Int32) (x3_0 : Int32) (x4_0 : Int32) (y5 : Nat → Int32) : va_W := [(p0, .inr (1, [.ref p1, .ref p2, .ref p3, .ref p4, .int (bI x0_4), .int x0_5, .int x0_6, .int x0_7, .int x0_8, .int x0_9, .int x0_10, .int x0_11, .int x0_12, .int x0_13])), (p1, .inl (cI, 4000, .inl y1)), (p2, .inl (cI, 9, .inl y2)), (p3, .inr (2, [.int x3_0, .ref p5])), (p4, .inr (2, [.int x4_0, .null])), (p5, .inl (cI, 4000, .inl y5))]
set_option maxHeartbeats 4000000 in
set_option maxRecDepth 100000 in
theorem c_T_putWord_s1 (l : Launch) (K : CK) (D : va_G) (cI cJ cZ cB : ClassId) (p0 p1 p2 p3 p4 : Nat) (sz : Nat) (x0_4 : Bool) (x0_5 : Int32) (x0_6 : Int32) (x0_7 : Int32) (x0_8 : Int32) (x0_9 : Int32) (x0_10 : Int32) (x0_11 : Int32) (x0_12 : Int32) (x0_13 : Int32) (y1 : Nat → Int32) (y2 : Nat → Int32) (x3_0 : Int32) (x4_0 : Int32)  (a1 : Int32) (a2 : Int32) (a3 : Int32) : Met l y_T_putWord (.code y_T_putWord b_T_putWord 4 none :: tb) ({ frames := 1, cells := 1, slots := 4000, locals := 21 }) (pMC K D cI cJ cZ cB (wS51 cI cJ cZ cB p0 p1 p2 p3 p4 x0_4 x0_5 x0_6 x0_7 x0_8 x0_9 x0_10 x0_11 x0_12 x0_13 y1 y2 x3_0 x4_0) sz [.ref p3, .int a1, .int a2, .int a3]) (va_Qv (fun (_ : Unit) => True) (fun _ t => (∃ p5 : Nat, ∃ u_y5 : Nat → Int32, va_P D classes (wS57 cI cJ cZ cB p0 p1 p2 p3 p4 p5 x0_4 x0_5 x0_6 x0_7 x0_8 x0_9 x0_10 x0_11 x0_12 x0_13 y1 y2 x3_0 x4_0 u_y5) t.heap ∧ va_D (va_A (wS51 cI cJ cZ cB p0 p1 p2 p3 p4 x0_4 x0_5 x0_6 x0_7 x0_8 x0_9 x0_10 x0_11 x0_12 x0_13 y1 y2 x3_0 x4_0) sz) (wS57 cI cJ cZ cB p0 p1 p2 p3 p4 p5 x0_4 x0_5 x0_6 x0_7 x0_8 x0_9 x0_10 x0_11 x0_12 x0_13 y1 y2 x3_0 x4_0 u_y5))) (va_A (wS51 cI cJ cZ cB p0 p1 p2 p3 p4 x0_4 x0_5 x0_6 x0_7 x0_8 x0_9 x0_10 x0_11 x0_12 x0_13 y1 y2 x3_0 x4_0) sz)) 1 4000 (va_A (wS51 cI cJ cZ cB p0 p1 p2 p3 p4 x0_4 x0_5 x0_6 x0_7 x0_8 x0_9 x0_10 x0_11 x0_12 x0_13 y1 y2 x3_0 x4_0) sz) := by
  refine Met.ofW (cc := b_T_putWord) (maxL := 4) (ret := none) (by decide) rfl ?_
  intro p e s m args below meth c s₁ B hml hv
  obtain ⟨rfl, hsz, hK, hP, hD0, hC⟩ := hv
  subst hsz
  have hD := hD0.self (sz := s.heap.size)
  generalize hAe : va_A (wS51 cI cJ cZ cB p0 p1 p2 p3 p4 x0_4 x0_5 x0_6 x0_7 x0_8 x0_9 x0_10 x0_11 x0_12 x0_13 y1 y2 x3_0 x4_0) s.heap.size = A at hD hC ⊢
  have hA : ∀ q : Nat, s.heap.size ≤ q → A q := fun q h => by rw [← hAe]; exact Or.inr h
  clear hAe hD0
  have hS : va_S A s.heap s.heap [] := va_S.rf
  have hx := B.exec
  have hb := B.bytes
  have hr := B.returns
  have hts := atoms_spec (ws := .code y_T_putWord b_T_putWord 4 none :: tb) B.pre
  have hk : ∀ w ∈ tb, w.before [.ref p3, .int a1, .int a2, .int a3].toArray s = true := fun w h => hts w (List.mem_cons_of_mem _ h)
  have hown : s.vm.findClass "SignMachine$Tape" = some m.cls := findClass_of_methodNamed B.named
  have hlocks := B.notSynchronized
  have hl := lv_entry ([.ref p3, .int a1, .int a2, .int a3]) (n := 4) (Nat.le_of_ble_eq_true rfl)
  rw [lg_entry_eq]
  generalize (lg_sl ([.ref p3, .int a1, .int a2, .int a3]) ++ List.replicate (4 - (lg_sl ([.ref p3, .int a1, .int a2, .int a3])).length) Slot.unset).toArray = ls at hl ⊢
  have hl : lv_has ls 4 [(0, .ref p3), (1, .int a1), (2, .int a2), (3, .int a3)] := hl
  refine lv_aload_n hx hb d_T_putWord_0 rfl (lv_at hl 0 rfl) ?_
  refine va_get (D := D) (ci := 2) (v := .null) (C := "SignMachine$Tape") (T := F_T) (N := 2) hx hb hk fi_T hown hK.1 hP 3 rfl rfl 1 (by decide) (hk _ k_156) (fun _ h9 => h9) rfl d_T_putWord_1 ?_
  refine lv_ifnonnullN hx hb d_T_putWord_4 ?_
  refine lv_aload_n hx hb d_T_putWord_7 rfl (lv_at hl 0 rfl) ?_
  refine lv_sipush (v := 4000) hx hb d_T_putWord_8 (by decide) ?_
  refine nwa (atype := .int) (ty := .int) (N' := 4000) (a0 := (4000, .inl (fun _ => 0))) hx hb (hk _ k_162) rfl hK.1 0 rfl (fun _ h => h) hP hD hS hA (zr_int 4000) (by decide) (by decide) (by decide) (by decide) (by decide) d_T_putWord_11 (fun p5 H hP hD hS => ?_)
  have hP : va_P D classes (wS56 cI cJ cZ cB p0 p1 p2 p3 p4 p5 x0_4 x0_5 x0_6 x0_7 x0_8 x0_9 x0_10 x0_11 x0_12 x0_13 y1 y2 x3_0 x4_0 (fun _ => 0)) H := hP
  have hD : va_D A (wS56 cI cJ cZ cB p0 p1 p2 p3 p4 p5 x0_4 x0_5 x0_6 x0_7 x0_8 x0_9 x0_10 x0_11 x0_12 x0_13 y1 y2 x3_0 x4_0 (fun _ => 0)) := hD
  refine W.widen (k := 1) (n := 4000) (by decide) (by decide) ?_
  refine va_put (D := D) (ci := 2) (v := .ref p5) (ty := (.array .int)) (C := "SignMachine$Tape") (T := F_T) (N := 2) hx hb hk fi_T ft_T ft_T_ok fn_T hown hK.1 hP hD hS 3 rfl rfl 1 (by decide) (hk _ k_156) (fun _ h9 => h9) rfl (by decide +kernel) rfl rfl (Nat.le_of_ble_eq_true rfl) d_T_putWord_13 (fun H locs hP hD hS => ?_)
  have hP : va_P D classes (wS57 cI cJ cZ cB p0 p1 p2 p3 p4 p5 x0_4 x0_5 x0_6 x0_7 x0_8 x0_9 x0_10 x0_11 x0_12 x0_13 y1 y2 x3_0 x4_0 (fun _ => 0)) H := hP
  have hD : va_D A (wS57 cI cJ cZ cB p0 p1 p2 p3 p4 p5 x0_4 x0_5 x0_6 x0_7 x0_8 x0_9 x0_10 x0_11 x0_12 x0_13 y1 y2 x3_0 x4_0 (fun _ => 0)) := hD
  refine lv_iload_n hx hb d_T_putWord_16 rfl (lv_at hl 1 rfl) ?_
  refine lv_iload_n hx hb d_T_putWord_17 rfl (lv_at hl 2 rfl) ?_
  refine cs_i (W.runS (As := [.int a1, .int a2]) (rest := []) ⟨hx, hb, hml, hown, hk⟩ (c_T_isWord l a1 a2) (s_T_isWord hk k_437 ⟨Nat.le_of_ble_eq_true rfl, Nat.le_of_ble_eq_true rfl⟩) ⟨fun a U g mk q => q, fun U hU hW => ⟨rfl, trivial⟩⟩ rfl rfl hl.1 rfl (lv_room (Nat.le_of_ble_eq_true rfl)) d_T_putWord_18 ⟨Nat.le_of_ble_eq_true rfl, Nat.le_of_ble_eq_true rfl⟩) ?_
  obtain ⟨z1, hz1⟩ : ∃ y : Bool, y = (f_T_isWord a1 a2) := ⟨_, rfl⟩
  rw [← hz1]
  refine lv_if_eq (tgt := 36) hx hb d_T_putWord_21 (by decide) (fun c2 => ?_) (fun c2 => ?_)
  · exact W.vret hx hb hr (fun t ht hW => ⟨⟨(), rfl, trivial, ⟨p5, (fun _ => 0), by show va_P D classes _ t.heap; rw [ht]; exact hP, hD⟩⟩, hS.F ht⟩) hS.2.2 d_T_putWord_36
  · refine lv_aload_n hx hb d_T_putWord_24 rfl (lv_at hl 0 rfl) ?_
    refine va_get (D := D) (ci := 2) (v := .ref p5) (C := "SignMachine$Tape") (T := F_T) (N := 2) hx hb hk fi_T hown hK.1 hP 3 rfl rfl 1 (by decide) (hk _ k_156) (fun _ h9 => h9) rfl d_T_putWord_25 ?_
    refine lv_iload_n hx hb d_T_putWord_28 rfl (lv_at hl 1 rfl) ?_
    refine lv_bipush (v := 100) hx hb d_T_putWord_29 (by decide) ?_
    refine lv_imul hx hb d_T_putWord_31 ?_
    refine lv_topi (fun v3 hv3 => ?_)
    refine lv_iload_n hx hb d_T_putWord_32 rfl (lv_at hl 2 rfl) ?_
    refine lv_iadd hx hb d_T_putWord_33 ?_
    refine lv_topi (fun v4 hv4 => ?_)
    refine lv_iload_n hx hb d_T_putWord_34 rfl (lv_at hl 3 rfl) ?_
    refine va_iast hx hb hK.1 hP hD hS 5 0 rfl rfl (by rw [hv4, hv3]; exact tw_in hz1 c2) d_T_putWord_35 (fun H locs hP hD hS => ?_)
    have hP : va_P D classes (wS57 cI cJ cZ cB p0 p1 p2 p3 p4 p5 x0_4 x0_5 x0_6 x0_7 x0_8 x0_9 x0_10 x0_11 x0_12 x0_13 y1 y2 x3_0 x4_0 (upd (fun _ => 0) (v4).toNatClampNeg a3)) H := hP
    have hD : va_D A (wS57 cI cJ cZ cB p0 p1 p2 p3 p4 p5 x0_4 x0_5 x0_6 x0_7 x0_8 x0_9 x0_10 x0_11 x0_12 x0_13 y1 y2 x3_0 x4_0 (upd (fun _ => 0) (v4).toNatClampNeg a3)) := hD
    obtain ⟨v5, hv5⟩ : ∃ y : Nat → Int32, y = (upd (fun _ => 0) (v4).toNatClampNeg a3) := ⟨_, rfl⟩
    rw [← hv5] at hP hD
    clear hv5
    exact W.vret hx hb hr (fun t ht hW => ⟨⟨(), rfl, trivial, ⟨p5, v5, by show va_P D classes _ t.heap; rw [ht]; exact hP, hD⟩⟩, hS.F ht⟩) hS.2.2 d_T_putWord_36
theorem v_T_putWord_s1 {R : Room} {s : State} {args : Array Value} {own : String} {index : Nat} (hk : ∀ w ∈ tb, w.before args s = true) (hl : Cond.methodLink own index y_T_putWord ∈ tb) (hR : 1 + 1 ≤ R.frames ∧ 8 + (4 + 11) + 21 ≤ R.locals) : CallW R s args own "SignMachine$Tape" index y_T_putWord b_T_putWord 4 none (.code y_T_putWord b_T_putWord 4 none :: tb) ({ frames := 1, cells := 1, slots := 4000, locals := 21 }) 1 4000 3 := mk_v 3 hk k_447 hl k_445 k_446 k_118 rfl rfl h_T_putWord hR
set_option maxHeartbeats 4000000 in
set_option maxRecDepth 100000 in
theorem c_M_wordAt_s2 (l : Launch) (K : CK) (D : va_G) (cI cJ cZ cB : ClassId) (p0 p1 p2 p3 p4 p5 : Nat) (sz : Nat) (x0_4 : Bool) (x0_5 : Int32) (x0_6 : Int32) (x0_7 : Int32) (x0_8 : Int32) (x0_9 : Int32) (x0_10 : Int32) (x0_11 : Int32) (x0_12 : Int32) (x0_13 : Int32) (y1 : Nat → Int32) (y2 : Nat → Int32) (x3_0 : Int32) (x4_0 : Int32) (y5 : Nat → Int32)  (a1 : Int32) : Met l y_M_wordAt (.code y_M_wordAt b_M_wordAt 2 (some .int) :: tb) ({ frames := 0, cells := 0, slots := 0, locals := 0 }) (pMC K D cI cJ cZ cB (wS57 cI cJ cZ cB p0 p1 p2 p3 p4 p5 x0_4 x0_5 x0_6 x0_7 x0_8 x0_9 x0_10 x0_11 x0_12 x0_13 y1 y2 x3_0 x4_0 y5) sz [.ref p0, .int a1]) (va_Qi (fun r (_ : Unit) => r = (f_mw y1 a1)) (fun _ t => (va_P D classes (wS57 cI cJ cZ cB p0 p1 p2 p3 p4 p5 x0_4 x0_5 x0_6 x0_7 x0_8 x0_9 x0_10 x0_11 x0_12 x0_13 y1 y2 x3_0 x4_0 y5) t.heap ∧ va_D (va_A (wS57 cI cJ cZ cB p0 p1 p2 p3 p4 p5 x0_4 x0_5 x0_6 x0_7 x0_8 x0_9 x0_10 x0_11 x0_12 x0_13 y1 y2 x3_0 x4_0 y5) sz) (wS57 cI cJ cZ cB p0 p1 p2 p3 p4 p5 x0_4 x0_5 x0_6 x0_7 x0_8 x0_9 x0_10 x0_11 x0_12 x0_13 y1 y2 x3_0 x4_0 y5))) (va_A (wS57 cI cJ cZ cB p0 p1 p2 p3 p4 p5 x0_4 x0_5 x0_6 x0_7 x0_8 x0_9 x0_10 x0_11 x0_12 x0_13 y1 y2 x3_0 x4_0 y5) sz)) 0 0 (va_A (wS57 cI cJ cZ cB p0 p1 p2 p3 p4 p5 x0_4 x0_5 x0_6 x0_7 x0_8 x0_9 x0_10 x0_11 x0_12 x0_13 y1 y2 x3_0 x4_0 y5) sz) := by
  refine Met.ofW (cc := b_M_wordAt) (maxL := 2) (ret := (some .int)) (by decide) rfl ?_
  intro p e s m args below meth c s₁ B hml hv
  obtain ⟨rfl, hsz, hK, hP, hD0, hC⟩ := hv
  subst hsz
  have hD := hD0.self (sz := s.heap.size)
  generalize hAe : va_A (wS57 cI cJ cZ cB p0 p1 p2 p3 p4 p5 x0_4 x0_5 x0_6 x0_7 x0_8 x0_9 x0_10 x0_11 x0_12 x0_13 y1 y2 x3_0 x4_0 y5) s.heap.size = A at hD hC ⊢
  have hA : ∀ q : Nat, s.heap.size ≤ q → A q := fun q h => by rw [← hAe]; exact Or.inr h
  clear hAe hD0
  have hS : va_S A s.heap s.heap [] := va_S.rf
  have hx := B.exec
  have hb := B.bytes
  have hr := B.returns
  have hts := atoms_spec (ws := .code y_M_wordAt b_M_wordAt 2 (some .int) :: tb) B.pre
  have hk : ∀ w ∈ tb, w.before [.ref p0, .int a1].toArray s = true := fun w h => hts w (List.mem_cons_of_mem _ h)
  have hown : s.vm.findClass "SignMachine$Machine" = some m.cls := findClass_of_methodNamed B.named
  have hlocks := B.notSynchronized
  have hl := lv_entry ([.ref p0, .int a1]) (n := 2) (Nat.le_of_ble_eq_true rfl)
  rw [lg_entry_eq]
  generalize (lg_sl ([.ref p0, .int a1]) ++ List.replicate (2 - (lg_sl ([.ref p0, .int a1])).length) Slot.unset).toArray = ls at hl ⊢
  have hl : lv_has ls 2 [(0, .ref p0), (1, .int a1)] := hl
  refine lv_iload_n hx hb d_M_wordAt_0 rfl (lv_at hl 1 rfl) ?_
  refine lv_if_lt (tgt := 20) hx hb d_M_wordAt_1 (by decide) (fun c1 => ?_) (fun c1 => ?_)
  · refine lv_iconst (v := 0) hx hb d_M_wordAt_20 (by decide) ?_
    exact W.iret (v := (0 : Int32)) hx hb hr (fun t ht hW => ⟨⟨(0 : Int32), (), rfl, by unfold f_mw; rw [if_pos c1], ⟨by show va_P D classes _ t.heap; rw [ht]; exact hP, hD⟩⟩, hS.F ht⟩) hS.2.2 d_M_wordAt_21
  · refine lv_iload_n hx hb d_M_wordAt_4 rfl (lv_at hl 1 rfl) ?_
    refine lv_sipush (v := 4000) hx hb d_M_wordAt_5 (by decide) ?_
    refine lv_icmp_ge (tgt := 20) hx hb d_M_wordAt_8 (by decide) (fun c2 => ?_) (fun c2 => ?_)
    · refine lv_iconst (v := 0) hx hb d_M_wordAt_20 (by decide) ?_
      exact W.iret (v := (0 : Int32)) hx hb hr (fun t ht hW => ⟨⟨(0 : Int32), (), rfl, by unfold f_mw; rw [if_neg c1, if_pos c2], ⟨by show va_P D classes _ t.heap; rw [ht]; exact hP, hD⟩⟩, hS.F ht⟩) hS.2.2 d_M_wordAt_21
    · refine lv_aload_n hx hb d_M_wordAt_11 rfl (lv_at hl 0 rfl) ?_
      refine va_get (D := D) (ci := 1) (v := .ref p1) (C := "SignMachine$Machine") (T := F_M) (N := 14) hx hb hk fi_M hown hK.1 hP 0 rfl rfl 0 (by decide) (hk _ k_163) (fun _ h9 => h9) rfl d_M_wordAt_12 ?_
      refine lv_iload_n hx hb d_M_wordAt_15 rfl (lv_at hl 1 rfl) ?_
      refine va_iald hx hb hK.1 hP 1 0 rfl rfl (vpin c1 c2 rfl) d_M_wordAt_16 ?_
      refine lv_topi (fun v3 hv3 => ?_)
      refine lv_goto (tgt := 21) hx hb d_M_wordAt_17 (by decide) ?_
      exact W.iret (v := v3) hx hb hr (fun t ht hW => ⟨⟨v3, (), rfl, by unfold f_mw; rw [if_neg c1, if_neg c2, hv3], ⟨by show va_P D classes _ t.heap; rw [ht]; exact hP, hD⟩⟩, hS.F ht⟩) hS.2.2 d_M_wordAt_21
theorem v_M_wordAt_s2 {R : Room} {s : State} {args : Array Value} {own : String} {index : Nat} (hk : ∀ w ∈ tb, w.before args s = true) (hl : Cond.methodLink own index y_M_wordAt ∈ tb) (hR : 0 + 1 ≤ R.frames ∧ 8 + (2 + 11) + 0 ≤ R.locals) : CallW R s args own "SignMachine$Machine" index y_M_wordAt b_M_wordAt 2 (some .int) (.code y_M_wordAt b_M_wordAt 2 (some .int) :: tb) ({ frames := 0, cells := 0, slots := 0, locals := 0 }) 0 0 1 := mk_v 1 hk k_243 hl k_241 k_242 k_117 rfl rfl h_M_wordAt hR
set_option maxHeartbeats 4000000 in
set_option maxRecDepth 100000 in
theorem c_T_putWord_s2 (l : Launch) (K : CK) (D : va_G) (cI cJ cZ cB : ClassId) (p0 p1 p2 p3 p4 p5 : Nat) (sz : Nat) (x0_4 : Bool) (x0_5 : Int32) (x0_6 : Int32) (x0_7 : Int32) (x0_8 : Int32) (x0_9 : Int32) (x0_10 : Int32) (x0_11 : Int32) (x0_12 : Int32) (x0_13 : Int32) (y1 : Nat → Int32) (y2 : Nat → Int32) (x3_0 : Int32) (x4_0 : Int32) (y5 : Nat → Int32)  (a1 : Int32) (a2 : Int32) (a3 : Int32) : Met l y_T_putWord (.code y_T_putWord b_T_putWord 4 none :: tb) ({ frames := 1, cells := 0, slots := 0, locals := 21 }) (pMC K D cI cJ cZ cB (wS57 cI cJ cZ cB p0 p1 p2 p3 p4 p5 x0_4 x0_5 x0_6 x0_7 x0_8 x0_9 x0_10 x0_11 x0_12 x0_13 y1 y2 x3_0 x4_0 y5) sz [.ref p3, .int a1, .int a2, .int a3]) (va_Qv (fun (_ : Unit) => True) (fun _ t => (∃ u_y5 : Nat → Int32, va_P D classes (wS57 cI cJ cZ cB p0 p1 p2 p3 p4 p5 x0_4 x0_5 x0_6 x0_7 x0_8 x0_9 x0_10 x0_11 x0_12 x0_13 y1 y2 x3_0 x4_0 u_y5) t.heap ∧ va_D (va_A (wS57 cI cJ cZ cB p0 p1 p2 p3 p4 p5 x0_4 x0_5 x0_6 x0_7 x0_8 x0_9 x0_10 x0_11 x0_12 x0_13 y1 y2 x3_0 x4_0 y5) sz) (wS57 cI cJ cZ cB p0 p1 p2 p3 p4 p5 x0_4 x0_5 x0_6 x0_7 x0_8 x0_9 x0_10 x0_11 x0_12 x0_13 y1 y2 x3_0 x4_0 u_y5))) (va_A (wS57 cI cJ cZ cB p0 p1 p2 p3 p4 p5 x0_4 x0_5 x0_6 x0_7 x0_8 x0_9 x0_10 x0_11 x0_12 x0_13 y1 y2 x3_0 x4_0 y5) sz)) 0 0 (va_A (wS57 cI cJ cZ cB p0 p1 p2 p3 p4 p5 x0_4 x0_5 x0_6 x0_7 x0_8 x0_9 x0_10 x0_11 x0_12 x0_13 y1 y2 x3_0 x4_0 y5) sz) := by
  refine Met.ofW (cc := b_T_putWord) (maxL := 4) (ret := none) (by decide) rfl ?_
  intro p e s m args below meth c s₁ B hml hv
  obtain ⟨rfl, hsz, hK, hP, hD0, hC⟩ := hv
  subst hsz
  have hD := hD0.self (sz := s.heap.size)
  generalize hAe : va_A (wS57 cI cJ cZ cB p0 p1 p2 p3 p4 p5 x0_4 x0_5 x0_6 x0_7 x0_8 x0_9 x0_10 x0_11 x0_12 x0_13 y1 y2 x3_0 x4_0 y5) s.heap.size = A at hD hC ⊢
  have hA : ∀ q : Nat, s.heap.size ≤ q → A q := fun q h => by rw [← hAe]; exact Or.inr h
  clear hAe hD0
  have hS : va_S A s.heap s.heap [] := va_S.rf
  have hx := B.exec
  have hb := B.bytes
  have hr := B.returns
  have hts := atoms_spec (ws := .code y_T_putWord b_T_putWord 4 none :: tb) B.pre
  have hk : ∀ w ∈ tb, w.before [.ref p3, .int a1, .int a2, .int a3].toArray s = true := fun w h => hts w (List.mem_cons_of_mem _ h)
  have hown : s.vm.findClass "SignMachine$Tape" = some m.cls := findClass_of_methodNamed B.named
  have hlocks := B.notSynchronized
  have hl := lv_entry ([.ref p3, .int a1, .int a2, .int a3]) (n := 4) (Nat.le_of_ble_eq_true rfl)
  rw [lg_entry_eq]
  generalize (lg_sl ([.ref p3, .int a1, .int a2, .int a3]) ++ List.replicate (4 - (lg_sl ([.ref p3, .int a1, .int a2, .int a3])).length) Slot.unset).toArray = ls at hl ⊢
  have hl : lv_has ls 4 [(0, .ref p3), (1, .int a1), (2, .int a2), (3, .int a3)] := hl
  refine lv_aload_n hx hb d_T_putWord_0 rfl (lv_at hl 0 rfl) ?_
  refine va_get (D := D) (ci := 2) (v := .ref p5) (C := "SignMachine$Tape") (T := F_T) (N := 2) hx hb hk fi_T hown hK.1 hP 3 rfl rfl 1 (by decide) (hk _ k_156) (fun _ h9 => h9) rfl d_T_putWord_1 ?_
  refine lv_ifnonnull (tgt := 16) hx hb d_T_putWord_4 (by decide) ?_
  refine lv_iload_n hx hb d_T_putWord_16 rfl (lv_at hl 1 rfl) ?_
  refine lv_iload_n hx hb d_T_putWord_17 rfl (lv_at hl 2 rfl) ?_
  refine cs_i (W.runS (As := [.int a1, .int a2]) (rest := []) ⟨hx, hb, hml, hown, hk⟩ (c_T_isWord l a1 a2) (s_T_isWord hk k_437 ⟨Nat.le_of_ble_eq_true rfl, Nat.le_of_ble_eq_true rfl⟩) ⟨fun a U g mk q => q, fun U hU hW => ⟨rfl, trivial⟩⟩ rfl rfl hl.1 rfl (lv_room (Nat.le_of_ble_eq_true rfl)) d_T_putWord_18 ⟨Nat.le_of_ble_eq_true rfl, Nat.le_of_ble_eq_true rfl⟩) ?_
  obtain ⟨z1, hz1⟩ : ∃ y : Bool, y = (f_T_isWord a1 a2) := ⟨_, rfl⟩
  rw [← hz1]
  refine lv_if_eq (tgt := 36) hx hb d_T_putWord_21 (by decide) (fun c2 => ?_) (fun c2 => ?_)
  · exact W.vret hx hb hr (fun t ht hW => ⟨⟨(), rfl, trivial, ⟨y5, by show va_P D classes _ t.heap; rw [ht]; exact hP, hD⟩⟩, hS.F ht⟩) hS.2.2 d_T_putWord_36
  · refine lv_aload_n hx hb d_T_putWord_24 rfl (lv_at hl 0 rfl) ?_
    refine va_get (D := D) (ci := 2) (v := .ref p5) (C := "SignMachine$Tape") (T := F_T) (N := 2) hx hb hk fi_T hown hK.1 hP 3 rfl rfl 1 (by decide) (hk _ k_156) (fun _ h9 => h9) rfl d_T_putWord_25 ?_
    refine lv_iload_n hx hb d_T_putWord_28 rfl (lv_at hl 1 rfl) ?_
    refine lv_bipush (v := 100) hx hb d_T_putWord_29 (by decide) ?_
    refine lv_imul hx hb d_T_putWord_31 ?_
    refine lv_topi (fun v3 hv3 => ?_)
    refine lv_iload_n hx hb d_T_putWord_32 rfl (lv_at hl 2 rfl) ?_
    refine lv_iadd hx hb d_T_putWord_33 ?_
    refine lv_topi (fun v4 hv4 => ?_)
    refine lv_iload_n hx hb d_T_putWord_34 rfl (lv_at hl 3 rfl) ?_
    refine va_iast hx hb hK.1 hP hD hS 5 0 rfl rfl (by rw [hv4, hv3]; exact tw_in hz1 c2) d_T_putWord_35 (fun H locs hP hD hS => ?_)
    have hP : va_P D classes (wS57 cI cJ cZ cB p0 p1 p2 p3 p4 p5 x0_4 x0_5 x0_6 x0_7 x0_8 x0_9 x0_10 x0_11 x0_12 x0_13 y1 y2 x3_0 x4_0 (upd y5 (v4).toNatClampNeg a3)) H := hP
    have hD : va_D A (wS57 cI cJ cZ cB p0 p1 p2 p3 p4 p5 x0_4 x0_5 x0_6 x0_7 x0_8 x0_9 x0_10 x0_11 x0_12 x0_13 y1 y2 x3_0 x4_0 (upd y5 (v4).toNatClampNeg a3)) := hD
    obtain ⟨v5, hv5⟩ : ∃ y : Nat → Int32, y = (upd y5 (v4).toNatClampNeg a3) := ⟨_, rfl⟩
    rw [← hv5] at hP hD
    clear hv5
    exact W.vret hx hb hr (fun t ht hW => ⟨⟨(), rfl, trivial, ⟨v5, by show va_P D classes _ t.heap; rw [ht]; exact hP, hD⟩⟩, hS.F ht⟩) hS.2.2 d_T_putWord_36
theorem v_T_putWord_s2 {R : Room} {s : State} {args : Array Value} {own : String} {index : Nat} (hk : ∀ w ∈ tb, w.before args s = true) (hl : Cond.methodLink own index y_T_putWord ∈ tb) (hR : 1 + 1 ≤ R.frames ∧ 8 + (4 + 11) + 21 ≤ R.locals) : CallW R s args own "SignMachine$Tape" index y_T_putWord b_T_putWord 4 none (.code y_T_putWord b_T_putWord 4 none :: tb) ({ frames := 1, cells := 0, slots := 0, locals := 21 }) 0 0 3 := mk_v 3 hk k_447 hl k_445 k_446 k_118 rfl rfl h_T_putWord hR
set_option maxHeartbeats 4000000 in
set_option maxRecDepth 100000 in
theorem c_M_writeBlock_s1 (l : Launch) (K : CK) (D : va_G) (cI cJ cZ cB : ClassId) (p0 p1 p2 p3 p4 : Nat) (sz : Nat) (x0_4 : Bool) (x0_5 : Int32) (x0_6 : Int32) (x0_7 : Int32) (x0_8 : Int32) (x0_11 : Int32) (x0_12 : Int32) (x0_13 : Int32) (y1 : Nat → Int32) (y2 : Nat → Int32) (x3_0 : Int32) (x4_0 : Int32)   : Met l y_M_writeBlock (.code y_M_writeBlock b_M_writeBlock 3 none :: tb) ({ frames := 2, cells := 1, slots := 4000, locals := 44 }) (pMC K D cI cJ cZ cB (wS51 cI cJ cZ cB p0 p1 p2 p3 p4 x0_4 x0_5 x0_6 x0_7 x0_8 (37 : Int32) (0 : Int32) x0_11 x0_12 x0_13 y1 y2 x3_0 x4_0) sz [.ref p0]) (va_Qv (fun (_ : Unit) => True) (fun _ t => (∃ p5 : Nat, ∃ u_x0_9 : Int32, ∃ u_x0_10 : Int32, ∃ u_x3_0 : Int32, ∃ u_y5 : Nat → Int32, va_P D classes (wS57 cI cJ cZ cB p0 p1 p2 p3 p4 p5 x0_4 x0_5 x0_6 x0_7 x0_8 u_x0_9 u_x0_10 x0_11 x0_12 x0_13 y1 y2 u_x3_0 x4_0 u_y5) t.heap ∧ va_D (va_A (wS51 cI cJ cZ cB p0 p1 p2 p3 p4 x0_4 x0_5 x0_6 x0_7 x0_8 (37 : Int32) (0 : Int32) x0_11 x0_12 x0_13 y1 y2 x3_0 x4_0) sz) (wS57 cI cJ cZ cB p0 p1 p2 p3 p4 p5 x0_4 x0_5 x0_6 x0_7 x0_8 u_x0_9 u_x0_10 x0_11 x0_12 x0_13 y1 y2 u_x3_0 x4_0 u_y5))) (va_A (wS51 cI cJ cZ cB p0 p1 p2 p3 p4 x0_4 x0_5 x0_6 x0_7 x0_8 (37 : Int32) (0 : Int32) x0_11 x0_12 x0_13 y1 y2 x3_0 x4_0) sz)) 1 4000 (va_A (wS51 cI cJ cZ cB p0 p1 p2 p3 p4 x0_4 x0_5 x0_6 x0_7 x0_8 (37 : Int32) (0 : Int32) x0_11 x0_12 x0_13 y1 y2 x3_0 x4_0) sz) := by
  refine Met.ofW (cc := b_M_writeBlock) (maxL := 3) (ret := none) (by decide) rfl ?_
  intro p e s m args below meth c s₁ B hml hv
  obtain ⟨rfl, hsz, hK, hP, hD0, hC⟩ := hv
  subst hsz
  have hD := hD0.self (sz := s.heap.size)
  generalize hAe : va_A (wS51 cI cJ cZ cB p0 p1 p2 p3 p4 x0_4 x0_5 x0_6 x0_7 x0_8 (37 : Int32) (0 : Int32) x0_11 x0_12 x0_13 y1 y2 x3_0 x4_0) s.heap.size = A at hD hC ⊢
  have hA : ∀ q : Nat, s.heap.size ≤ q → A q := fun q h => by rw [← hAe]; exact Or.inr h
  clear hAe hD0
  have hS : va_S A s.heap s.heap [] := va_S.rf
  have hx := B.exec
  have hb := B.bytes
  have hr := B.returns
  have hts := atoms_spec (ws := .code y_M_writeBlock b_M_writeBlock 3 none :: tb) B.pre
  have hk : ∀ w ∈ tb, w.before [.ref p0].toArray s = true := fun w h => hts w (List.mem_cons_of_mem _ h)
  have hown : s.vm.findClass "SignMachine$Machine" = some m.cls := findClass_of_methodNamed B.named
  have hlocks := B.notSynchronized
  have hl := lv_entry ([.ref p0]) (n := 3) (Nat.le_of_ble_eq_true rfl)
  rw [lg_entry_eq]
  generalize (lg_sl ([.ref p0]) ++ List.replicate (3 - (lg_sl ([.ref p0])).length) Slot.unset).toArray = ls at hl ⊢
  have hl : lv_has ls 3 [(0, .ref p0)] := hl
  refine lv_aload_n hx hb d_M_writeBlock_0 rfl (lv_at hl 0 rfl) ?_
  refine lv_aload_n hx hb d_M_writeBlock_1 rfl (lv_at hl 0 rfl) ?_
  refine va_get (D := D) (ci := 1) (v := .int (0 : Int32)) (C := "SignMachine$Machine") (T := F_M) (N := 14) hx hb hk fi_M hown hK.1 hP 0 rfl rfl 10 (by decide) (hk _ k_177) (fun _ h9 => h9) rfl d_M_writeBlock_2 ?_
  refine sn_q (va_runV (C := "SignMachine$Machine") (As := [.int (0 : Int32)]) (rest := []) ⟨hx, hb, hml, hown, hk⟩ (c_M_unit_s2 l K D cI cJ cZ cB p0 p1 p2 p3 p4 s.heap.size x0_4 x0_5 x0_6 x0_7 x0_8 (37 : Int32) (0 : Int32) x0_11 x0_12 x0_13 y1 y2 x3_0 x4_0  (0 : Int32) (by decide)) (v_M_unit_s2 hk k_337 ⟨Nat.le_of_ble_eq_true rfl, Nat.le_of_ble_eq_true rfl⟩) (pMC_v hK hP hD hC hS hA (ci := 1) (q0 := 0) rfl rfl rfl) rfl rfl hl.1 rfl (lv_room (Nat.le_of_ble_eq_true rfl)) d_M_writeBlock_5 ⟨by decide, by decide⟩) hS hA hD (fun rz1 u t H locs hr0 ht hB hFr hS => ?_)
  obtain ⟨hP, hD⟩ := hB
  rw [ht] at hP
  have hD := dwk hD hFr
  clear ht hFr
  have hP : va_P D classes (wS51 cI cJ cZ cB p0 p1 p2 p3 p4 x0_4 x0_5 x0_6 x0_7 x0_8 (37 : Int32) (0 : Int32) x0_11 x0_12 x0_13 y1 y2 x3_0 x4_0) H := hP
  have hD : va_D A (wS51 cI cJ cZ cB p0 p1 p2 p3 p4 x0_4 x0_5 x0_6 x0_7 x0_8 (37 : Int32) (0 : Int32) x0_11 x0_12 x0_13 y1 y2 x3_0 x4_0) := hD
  subst hr0
  refine W.eq (g2 := F0 m 8 ls [.ref p3]) rfl ?_
  refine lv_astore_n (lv' := [(1, .ref p3), (0, .ref p0)]) hx hb d_M_writeBlock_8 rfl hl (by decide) rfl (fun ls hl => ?_)
  refine lv_iconst (v := 0) hx hb d_M_writeBlock_9 (by decide) ?_
  refine lv_istore_n (lv' := [(2, .int (0 : Int32)), (1, .ref p3), (0, .ref p0)]) hx hb d_M_writeBlock_10 rfl hl (by decide) rfl (fun ls hl => ?_)
  refine lv_iload_n hx hb d_M_writeBlock_11 rfl (lv_at hl 0 rfl) ?_
  refine lv_bipush (v := 100) hx hb d_M_writeBlock_12 (by decide) ?_
  refine lv_icmp_ge (tgt := 42) hx hb d_M_writeBlock_14 (by decide) (fun c2 => absurd c2 (show ¬ (100 : Int32) ≤ (0 : Int32) from (by decide))) (fun c2 => ?_)
  refine lv_aload_n hx hb d_M_writeBlock_17 rfl (lv_at hl 1 rfl) ?_
  refine lv_aload_n hx hb d_M_writeBlock_18 rfl (lv_at hl 1 rfl) ?_
  refine va_getN (D := D) (ci := 2) (v := .int x3_0) (C := "SignMachine$Tape") (T := F_T) (N := 2) hx hb hk fi_T hown hK.1 hP 3 rfl rfl 0 (by decide) (va_Nw.use rfl (hK.2 _ n_155)) (fun _ h9 => h9) rfl d_M_writeBlock_19 ?_
  refine lv_iload_n hx hb d_M_writeBlock_22 rfl (lv_at hl 0 rfl) ?_
  refine lv_aload_n hx hb d_M_writeBlock_23 rfl (lv_at hl 2 rfl) ?_
  refine lv_aload_n hx hb d_M_writeBlock_24 rfl (lv_at hl 2 rfl) ?_
  refine va_get (D := D) (ci := 1) (v := .int x0_12) (C := "SignMachine$Machine") (T := F_M) (N := 14) hx hb hk fi_M hown hK.1 hP 0 rfl rfl 12 (by decide) (hk _ k_179) (fun _ h9 => h9) rfl d_M_writeBlock_25 ?_
  refine lv_iload_n hx hb d_M_writeBlock_28 rfl (lv_at hl 0 rfl) ?_
  refine lv_iadd hx hb d_M_writeBlock_29 ?_
  refine lv_topi (fun v3 hv3 => ?_)
  refine sn_i (va_runV (C := "SignMachine$Machine") (As := [.int v3]) (rest := [.int (0 : Int32), .int x3_0, .ref p3]) ⟨hx, hb, hml, hown, hk⟩ (c_M_wordAt_s1 l K D cI cJ cZ cB p0 p1 p2 p3 p4 H.size x0_4 x0_5 x0_6 x0_7 x0_8 (37 : Int32) (0 : Int32) x0_11 x0_12 x0_13 y1 y2 x3_0 x4_0  v3 ) (v_M_wordAt_s1 hk k_263 ⟨Nat.le_of_ble_eq_true rfl, Nat.le_of_ble_eq_true rfl⟩) (pMC_v hK hP hD hC hS hA (ci := 1) (q0 := 0) rfl rfl rfl) rfl rfl hl.1 rfl (lv_room (Nat.le_of_ble_eq_true rfl)) d_M_writeBlock_30 ⟨by decide, by decide⟩) hS hA hD (fun rz4 u t H locs hr0 ht hB hFr hS => ?_)
  have hrz4 := hr0
  obtain ⟨hP, hD⟩ := hB
  rw [ht] at hP
  have hD := dwk hD hFr
  clear ht hFr
  have hP : va_P D classes (wS51 cI cJ cZ cB p0 p1 p2 p3 p4 x0_4 x0_5 x0_6 x0_7 x0_8 (37 : Int32) (0 : Int32) x0_11 x0_12 x0_13 y1 y2 x3_0 x4_0) H := hP
  have hD : va_D A (wS51 cI cJ cZ cB p0 p1 p2 p3 p4 x0_4 x0_5 x0_6 x0_7 x0_8 (37 : Int32) (0 : Int32) x0_11 x0_12 x0_13 y1 y2 x3_0 x4_0) := hD
  refine kn_v (va_runV (C := "SignMachine$Tape") (As := [.int x3_0, .int (0 : Int32), .int rz4]) (rest := []) ⟨hx, hb, hml, hown, hk⟩ (c_T_putWord_s1 l K D cI cJ cZ cB p0 p1 p2 p3 p4 H.size x0_4 x0_5 x0_6 x0_7 x0_8 (37 : Int32) (0 : Int32) x0_11 x0_12 x0_13 y1 y2 x3_0 x4_0  x3_0 (0 : Int32) rz4 ) (v_T_putWord_s1 hk k_444 ⟨Nat.le_of_ble_eq_true rfl, Nat.le_of_ble_eq_true rfl⟩) (pMC_v hK hP hD hC hS hA (ci := 2) (q0 := 3) rfl rfl rfl) rfl rfl hl.1 rfl (lv_room (Nat.le_of_ble_eq_true rfl)) d_M_writeBlock_33 ⟨by decide, by decide⟩) hS hA hD (fun u t H locs ht hB hFr hS => ?_)
  obtain ⟨p5, y5z5, hP, hD⟩ := hB
  rw [ht] at hP
  have hD := dwk hD hFr
  clear ht hFr
  have hP : va_P D classes (wS57 cI cJ cZ cB p0 p1 p2 p3 p4 p5 x0_4 x0_5 x0_6 x0_7 x0_8 (37 : Int32) (0 : Int32) x0_11 x0_12 x0_13 y1 y2 x3_0 x4_0 y5z5) H := hP
  have hD : va_D A (wS57 cI cJ cZ cB p0 p1 p2 p3 p4 p5 x0_4 x0_5 x0_6 x0_7 x0_8 (37 : Int32) (0 : Int32) x0_11 x0_12 x0_13 y1 y2 x3_0 x4_0 y5z5) := hD
  refine W.widen (k := 1) (n := 4000) (by decide) (by decide) ?_
  refine lv_iinc (v := (1 : Int32)) (lv' := [(2, .int (1 : Int32)), (1, .ref p3), (0, .ref p0)]) hx hb d_M_writeBlock_36 hl (k := 0) rfl (by decide) (by decide) rfl (fun ls hl => ?_)
  refine lv_goto (tgt := 11) hx hb d_M_writeBlock_39 (by decide) ?_
  have LP11_57 : ∀ (n : Nat) (l2 : Int32) (x0_9 : Int32) (x0_10 : Int32) (x3_0 : Int32) (y5 : Nat → Int32) (H : Heap) (locs : List Loc) (ls : Array Slot), (((100 : Int32)).toInt - (l2).toInt).toNat < n → ¬ l2 < (0 : Int32) → va_P D classes (wS57 cI cJ cZ cB p0 p1 p2 p3 p4 p5 x0_4 x0_5 x0_6 x0_7 x0_8 x0_9 x0_10 x0_11 x0_12 x0_13 y1 y2 x3_0 x4_0 y5) H → va_D A (wS57 cI cJ cZ cB p0 p1 p2 p3 p4 p5 x0_4 x0_5 x0_6 x0_7 x0_8 x0_9 x0_10 x0_11 x0_12 x0_13 y1 y2 x3_0 x4_0 y5) → va_S A s.heap H locs → lv_has ls 3 [(2, .int l2), (1, .ref p3), (0, .ref p0)] → W p l e ({ frames := 2, cells := 1, slots := 4000, locals := 44 }) s m [.ref p0].toArray below meth c H locs 1 4000 (MQ below (va_Qv (fun (_ : Unit) => True) (fun _ t => (∃ p5 : Nat, ∃ u_x0_9 : Int32, ∃ u_x0_10 : Int32, ∃ u_x3_0 : Int32, ∃ u_y5 : Nat → Int32, va_P D classes (wS57 cI cJ cZ cB p0 p1 p2 p3 p4 p5 x0_4 x0_5 x0_6 x0_7 x0_8 u_x0_9 u_x0_10 x0_11 x0_12 x0_13 y1 y2 u_x3_0 x4_0 u_y5) t.heap ∧ va_D A (wS57 cI cJ cZ cB p0 p1 p2 p3 p4 p5 x0_4 x0_5 x0_6 x0_7 x0_8 u_x0_9 u_x0_10 x0_11 x0_12 x0_13 y1 y2 u_x3_0 x4_0 u_y5))) A) [.ref p0].toArray s 1 4000 A) (F0 m 11 ls []) := by
    intro n
    induction n with
    | zero => intro l2 x0_9 x0_10 x3_0 y5 H locs ls hn; exact absurd hn (Nat.not_lt_zero _)
    | succ n ih =>
      intro l2 x0_9 x0_10 x3_0 y5 H locs ls hn11_57 hc11_57 hP hD hS hl
      refine lv_iload_n hx hb d_M_writeBlock_11 rfl (lv_at hl 0 rfl) ?_
      refine lv_bipush (v := 100) hx hb d_M_writeBlock_12 (by decide) ?_
      refine lv_icmp_ge (tgt := 42) hx hb d_M_writeBlock_14 (by decide) (fun c6 => ?_) (fun c6 => ?_)
      · refine lv_aload_n hx hb d_M_writeBlock_42 rfl (lv_at hl 1 rfl) ?_
        refine lv_dup hx hb d_M_writeBlock_43 rfl ?_
        refine va_getN (D := D) (ci := 2) (v := .int x3_0) (C := "SignMachine$Tape") (T := F_T) (N := 2) hx hb hk fi_T hown hK.1 hP 3 rfl rfl 0 (by decide) (va_Nw.use rfl (hK.2 _ n_155)) (fun _ h9 => h9) rfl d_M_writeBlock_44 ?_
        refine lv_iconst (v := 1) hx hb d_M_writeBlock_47 (by decide) ?_
        refine lv_iadd hx hb d_M_writeBlock_48 ?_
        refine lv_topi (fun v7 hv7 => ?_)
        refine va_putN (D := D) (ci := 2) (v := .int v7) (ty := .int) (C := "SignMachine$Tape") (T := F_T) (N := 2) hx hb hk fi_T ft_T ft_T_ok fn_T hown hK.1 hP hD hS 3 rfl rfl 0 (by decide) (va_Nw.use rfl (hK.2 _ n_155)) (fun _ h9 => h9) rfl (by decide +kernel) rfl rfl (Nat.le_of_ble_eq_true rfl) d_M_writeBlock_49 (fun H locs hP hD hS => ?_)
        have hP : va_P D classes (wS57 cI cJ cZ cB p0 p1 p2 p3 p4 p5 x0_4 x0_5 x0_6 x0_7 x0_8 x0_9 x0_10 x0_11 x0_12 x0_13 y1 y2 v7 x4_0 y5) H := hP
        have hD : va_D A (wS57 cI cJ cZ cB p0 p1 p2 p3 p4 p5 x0_4 x0_5 x0_6 x0_7 x0_8 x0_9 x0_10 x0_11 x0_12 x0_13 y1 y2 v7 x4_0 y5) := hD
        exact W.vret hx hb hr (fun t ht hW => ⟨⟨(), rfl, trivial, ⟨p5, x0_9, x0_10, v7, y5, by show va_P D classes _ t.heap; rw [ht]; exact hP, hD⟩⟩, hS.F ht⟩) hS.2.2 d_M_writeBlock_52
      · refine lv_aload_n hx hb d_M_writeBlock_17 rfl (lv_at hl 1 rfl) ?_
        refine lv_aload_n hx hb d_M_writeBlock_18 rfl (lv_at hl 1 rfl) ?_
        refine va_getN (D := D) (ci := 2) (v := .int x3_0) (C := "SignMachine$Tape") (T := F_T) (N := 2) hx hb hk fi_T hown hK.1 hP 3 rfl rfl 0 (by decide) (va_Nw.use rfl (hK.2 _ n_155)) (fun _ h9 => h9) rfl d_M_writeBlock_19 ?_
        refine lv_iload_n hx hb d_M_writeBlock_22 rfl (lv_at hl 0 rfl) ?_
        refine lv_aload_n hx hb d_M_writeBlock_23 rfl (lv_at hl 2 rfl) ?_
        refine lv_aload_n hx hb d_M_writeBlock_24 rfl (lv_at hl 2 rfl) ?_
        refine va_get (D := D) (ci := 1) (v := .int x0_12) (C := "SignMachine$Machine") (T := F_M) (N := 14) hx hb hk fi_M hown hK.1 hP 0 rfl rfl 12 (by decide) (hk _ k_179) (fun _ h9 => h9) rfl d_M_writeBlock_25 ?_
        refine lv_iload_n hx hb d_M_writeBlock_28 rfl (lv_at hl 0 rfl) ?_
        refine lv_iadd hx hb d_M_writeBlock_29 ?_
        refine lv_topi (fun v8 hv8 => ?_)
        refine sn_i (va_runV (C := "SignMachine$Machine") (As := [.int v8]) (rest := [.int l2, .int x3_0, .ref p3]) ⟨hx, hb, hml, hown, hk⟩ (c_M_wordAt_s2 l K D cI cJ cZ cB p0 p1 p2 p3 p4 p5 H.size x0_4 x0_5 x0_6 x0_7 x0_8 x0_9 x0_10 x0_11 x0_12 x0_13 y1 y2 x3_0 x4_0 y5  v8 ) (v_M_wordAt_s2 hk k_263 ⟨Nat.le_of_ble_eq_true rfl, Nat.le_of_ble_eq_true rfl⟩) (pMC_v hK hP hD hC hS hA (ci := 1) (q0 := 0) rfl rfl rfl) rfl rfl hl.1 rfl (lv_room (Nat.le_of_ble_eq_true rfl)) d_M_writeBlock_30 ⟨by decide, by decide⟩) hS hA hD (fun rz9 u t H locs hr0 ht hB hFr hS => ?_)
        have hrz9 := hr0
        obtain ⟨hP, hD⟩ := hB
        rw [ht] at hP
        have hD := dwk hD hFr
        clear ht hFr
        have hP : va_P D classes (wS57 cI cJ cZ cB p0 p1 p2 p3 p4 p5 x0_4 x0_5 x0_6 x0_7 x0_8 x0_9 x0_10 x0_11 x0_12 x0_13 y1 y2 x3_0 x4_0 y5) H := hP
        have hD : va_D A (wS57 cI cJ cZ cB p0 p1 p2 p3 p4 p5 x0_4 x0_5 x0_6 x0_7 x0_8 x0_9 x0_10 x0_11 x0_12 x0_13 y1 y2 x3_0 x4_0 y5) := hD
        refine kn_v (va_runV (C := "SignMachine$Tape") (As := [.int x3_0, .int l2, .int rz9]) (rest := []) ⟨hx, hb, hml, hown, hk⟩ (c_T_putWord_s2 l K D cI cJ cZ cB p0 p1 p2 p3 p4 p5 H.size x0_4 x0_5 x0_6 x0_7 x0_8 x0_9 x0_10 x0_11 x0_12 x0_13 y1 y2 x3_0 x4_0 y5  x3_0 l2 rz9 ) (v_T_putWord_s2 hk k_444 ⟨Nat.le_of_ble_eq_true rfl, Nat.le_of_ble_eq_true rfl⟩) (pMC_v hK hP hD hC hS hA (ci := 2) (q0 := 3) rfl rfl rfl) rfl rfl hl.1 rfl (lv_room (Nat.le_of_ble_eq_true rfl)) d_M_writeBlock_33 ⟨by decide, by decide⟩) hS hA hD (fun u t H locs ht hB hFr hS => ?_)
        obtain ⟨y5z10, hP, hD⟩ := hB
        rw [ht] at hP
        have hD := dwk hD hFr
        clear ht hFr
        have hP : va_P D classes (wS57 cI cJ cZ cB p0 p1 p2 p3 p4 p5 x0_4 x0_5 x0_6 x0_7 x0_8 x0_9 x0_10 x0_11 x0_12 x0_13 y1 y2 x3_0 x4_0 y5z10) H := hP
        have hD : va_D A (wS57 cI cJ cZ cB p0 p1 p2 p3 p4 p5 x0_4 x0_5 x0_6 x0_7 x0_8 x0_9 x0_10 x0_11 x0_12 x0_13 y1 y2 x3_0 x4_0 y5z10) := hD
        obtain ⟨v11, hv11⟩ : ∃ y : Int32, y = (l2 + (1 : Int32)) := ⟨_, rfl⟩
        refine lv_iinc (v := v11) (lv' := [(2, .int v11), (1, .ref p3), (0, .ref p0)]) hx hb d_M_writeBlock_36 hl (k := 0) rfl (by rw [hv11]; rfl) (by decide) rfl (fun ls hl => ?_)
        refine lv_goto (tgt := 11) hx hb d_M_writeBlock_39 (by decide) ?_
        exact ih v11 x0_9 x0_10 x3_0 y5z10 H _ ls (lpu c6 hv11 hn11_57) (lpn hc11_57 c6 hv11) hP hD hS (lv_sub hl [0, 1, 2] rfl)
  exact LP11_57 _ (1 : Int32) (37 : Int32) (0 : Int32) x3_0 y5z5 H _ ls (Nat.lt_succ_self _) (by decide) hP hD hS hl
theorem v_M_writeBlock_s1 {R : Room} {s : State} {args : Array Value} {own : String} {index : Nat} (hk : ∀ w ∈ tb, w.before args s = true) (hl : Cond.methodLink own index y_M_writeBlock ∈ tb) (hR : 2 + 1 ≤ R.frames ∧ 8 + (3 + 11) + 44 ≤ R.locals) : CallW R s args own "SignMachine$Machine" index y_M_writeBlock b_M_writeBlock 3 none (.code y_M_writeBlock b_M_writeBlock 3 none :: tb) ({ frames := 2, cells := 1, slots := 4000, locals := 44 }) 1 4000 0 := mk_v 0 hk k_443 hl k_442 k_27 k_117 rfl rfl h_M_writeBlock hR
set_option maxHeartbeats 4000000 in
set_option maxRecDepth 100000 in
theorem c_M_performMiddle_s1 (l : Launch) (K : CK) (D : va_G) (cI cJ cZ cB : ClassId) (p0 p1 p2 p3 p4 : Nat) (sz : Nat) (x0_4 : Bool) (x0_5 : Int32) (x0_6 : Int32) (x0_7 : Int32) (x0_8 : Int32) (x0_11 : Int32) (x0_12 : Int32) (x0_13 : Int32) (y1 : Nat → Int32) (y2 : Nat → Int32) (x3_0 : Int32) (x4_0 : Int32)   : Met l y_M_performMiddle (.code y_M_performMiddle b_M_performMiddle 1 none :: tb) ({ frames := 3, cells := 1, slots := 4000, locals := 66 }) (pMC K D cI cJ cZ cB (wS51 cI cJ cZ cB p0 p1 p2 p3 p4 x0_4 x0_5 x0_6 x0_7 x0_8 (37 : Int32) (0 : Int32) x0_11 x0_12 x0_13 y1 y2 x3_0 x4_0) sz [.ref p0]) (va_Qv (fun (_ : Unit) => True) (fun _ t => (∃ p5 : Nat, ∃ u_x0_9 : Int32, ∃ u_x0_10 : Int32, ∃ u_x3_0 : Int32, ∃ u_y5 : Nat → Int32, va_P D classes (wS57 cI cJ cZ cB p0 p1 p2 p3 p4 p5 x0_4 x0_5 x0_6 x0_7 x0_8 u_x0_9 u_x0_10 x0_11 x0_12 x0_13 y1 y2 u_x3_0 x4_0 u_y5) t.heap ∧ va_D (va_A (wS51 cI cJ cZ cB p0 p1 p2 p3 p4 x0_4 x0_5 x0_6 x0_7 x0_8 (37 : Int32) (0 : Int32) x0_11 x0_12 x0_13 y1 y2 x3_0 x4_0) sz) (wS57 cI cJ cZ cB p0 p1 p2 p3 p4 p5 x0_4 x0_5 x0_6 x0_7 x0_8 u_x0_9 u_x0_10 x0_11 x0_12 x0_13 y1 y2 u_x3_0 x4_0 u_y5))) (va_A (wS51 cI cJ cZ cB p0 p1 p2 p3 p4 x0_4 x0_5 x0_6 x0_7 x0_8 (37 : Int32) (0 : Int32) x0_11 x0_12 x0_13 y1 y2 x3_0 x4_0) sz)) 1 4000 (va_A (wS51 cI cJ cZ cB p0 p1 p2 p3 p4 x0_4 x0_5 x0_6 x0_7 x0_8 (37 : Int32) (0 : Int32) x0_11 x0_12 x0_13 y1 y2 x3_0 x4_0) sz) := by
  refine Met.ofW (cc := b_M_performMiddle) (maxL := 1) (ret := none) (by decide) rfl ?_
  intro p e s m args below meth c s₁ B hml hv
  obtain ⟨rfl, hsz, hK, hP, hD0, hC⟩ := hv
  subst hsz
  have hD := hD0.self (sz := s.heap.size)
  generalize hAe : va_A (wS51 cI cJ cZ cB p0 p1 p2 p3 p4 x0_4 x0_5 x0_6 x0_7 x0_8 (37 : Int32) (0 : Int32) x0_11 x0_12 x0_13 y1 y2 x3_0 x4_0) s.heap.size = A at hD hC ⊢
  have hA : ∀ q : Nat, s.heap.size ≤ q → A q := fun q h => by rw [← hAe]; exact Or.inr h
  clear hAe hD0
  have hS : va_S A s.heap s.heap [] := va_S.rf
  have hx := B.exec
  have hb := B.bytes
  have hr := B.returns
  have hts := atoms_spec (ws := .code y_M_performMiddle b_M_performMiddle 1 none :: tb) B.pre
  have hk : ∀ w ∈ tb, w.before [.ref p0].toArray s = true := fun w h => hts w (List.mem_cons_of_mem _ h)
  have hown : s.vm.findClass "SignMachine$Machine" = some m.cls := findClass_of_methodNamed B.named
  have hlocks := B.notSynchronized
  have hl := lv_entry ([.ref p0]) (n := 1) (Nat.le_of_ble_eq_true rfl)
  rw [lg_entry_eq]
  generalize (lg_sl ([.ref p0]) ++ List.replicate (1 - (lg_sl ([.ref p0])).length) Slot.unset).toArray = ls at hl ⊢
  have hl : lv_has ls 1 [(0, .ref p0)] := hl
  refine lv_aload_n hx hb d_M_performMiddle_0 rfl (lv_at hl 0 rfl) ?_
  refine va_get (D := D) (ci := 1) (v := .int (37 : Int32)) (C := "SignMachine$Machine") (T := F_M) (N := 14) hx hb hk fi_M hown hK.1 hP 0 rfl rfl 9 (by decide) (hk _ k_176) (fun _ h9 => h9) rfl d_M_performMiddle_1 ?_
  refine lv_tableIn (off := 83) (tgt := 87) hx hb d_M_performMiddle_4 (by decide) (by decide) rfl (by decide) ?_
  refine lv_aload_n hx hb d_M_performMiddle_87 rfl (lv_at hl 0 rfl) ?_
  refine kn_v (va_runV (C := "SignMachine$Machine") (As := []) (rest := []) ⟨hx, hb, hml, hown, hk⟩ (c_M_writeBlock_s1 l K D cI cJ cZ cB p0 p1 p2 p3 p4 s.heap.size x0_4 x0_5 x0_6 x0_7 x0_8 x0_11 x0_12 x0_13 y1 y2 x3_0 x4_0   ) (v_M_writeBlock_s1 hk k_440 ⟨Nat.le_of_ble_eq_true rfl, Nat.le_of_ble_eq_true rfl⟩) (pMC_v hK hP hD hC hS hA (ci := 1) (q0 := 0) rfl rfl rfl) rfl rfl hl.1 rfl (lv_room (Nat.le_of_ble_eq_true rfl)) d_M_performMiddle_88 ⟨by decide, by decide⟩) hS hA hD (fun u t H locs ht hB hFr hS => ?_)
  obtain ⟨p5, x0_9z1, x0_10z1, x3_0z1, y5z1, hP, hD⟩ := hB
  rw [ht] at hP
  have hD := dwk hD hFr
  clear ht hFr
  have hP : va_P D classes (wS57 cI cJ cZ cB p0 p1 p2 p3 p4 p5 x0_4 x0_5 x0_6 x0_7 x0_8 x0_9z1 x0_10z1 x0_11 x0_12 x0_13 y1 y2 x3_0z1 x4_0 y5z1) H := hP
  have hD : va_D A (wS57 cI cJ cZ cB p0 p1 p2 p3 p4 p5 x0_4 x0_5 x0_6 x0_7 x0_8 x0_9z1 x0_10z1 x0_11 x0_12 x0_13 y1 y2 x3_0z1 x4_0 y5z1) := hD
  refine W.widen (k := 1) (n := 4000) (by decide) (by decide) ?_
  refine lv_goto (tgt := 109) hx hb d_M_performMiddle_91 (by decide) ?_
  exact W.vret hx hb hr (fun t ht hW => ⟨⟨(), rfl, trivial, ⟨p5, x0_9z1, x0_10z1, x3_0z1, y5z1, by show va_P D classes _ t.heap; rw [ht]; exact hP, hD⟩⟩, hS.F ht⟩) hS.2.2 d_M_performMiddle_109
theorem v_M_performMiddle_s1 {R : Room} {s : State} {args : Array Value} {own : String} {index : Nat} (hk : ∀ w ∈ tb, w.before args s = true) (hl : Cond.methodLink own index y_M_performMiddle ∈ tb) (hR : 3 + 1 ≤ R.frames ∧ 8 + (1 + 11) + 66 ≤ R.locals) : CallW R s args own "SignMachine$Machine" index y_M_performMiddle b_M_performMiddle 1 none (.code y_M_performMiddle b_M_performMiddle 1 none :: tb) ({ frames := 3, cells := 1, slots := 4000, locals := 66 }) 1 4000 0 := mk_v 0 hk k_424 hl k_423 k_24 k_117 rfl rfl h_M_performMiddle hR

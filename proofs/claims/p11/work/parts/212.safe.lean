set_option maxHeartbeats 4000000 in
set_option maxRecDepth 100000 in
theorem c_M_perform_s1 (l : Launch) (K : CK) (D : va_G) (cI cJ cZ cB : ClassId) (p0 p1 p2 p3 p4 : Nat) (sz : Nat) (x0_4 : Bool) (x0_5 : Int32) (x0_6 : Int32) (x0_7 : Int32) (x0_8 : Int32) (x0_11 : Int32) (x0_12 : Int32) (x0_13 : Int32) (y1 : Nat → Int32) (y2 : Nat → Int32) (x3_0 : Int32) (x4_0 : Int32)   : Met l y_M_perform (.code y_M_perform b_M_perform 1 none :: tb) ({ frames := 4, cells := 1, slots := 4000, locals := 86 }) (pMC K D cI cJ cZ cB (wS51 cI cJ cZ cB p0 p1 p2 p3 p4 x0_4 x0_5 x0_6 x0_7 x0_8 (37 : Int32) (0 : Int32) x0_11 x0_12 x0_13 y1 y2 x3_0 x4_0) sz [.ref p0]) (va_Qv (fun (_ : Unit) => True) (fun _ t => (∃ p5 : Nat, ∃ u_x0_9 : Int32, ∃ u_x0_10 : Int32, ∃ u_x3_0 : Int32, ∃ u_y5 : Nat → Int32, va_P D classes (wS57 cI cJ cZ cB p0 p1 p2 p3 p4 p5 x0_4 x0_5 x0_6 x0_7 x0_8 u_x0_9 u_x0_10 x0_11 x0_12 x0_13 y1 y2 u_x3_0 x4_0 u_y5) t.heap ∧ va_D (va_A (wS51 cI cJ cZ cB p0 p1 p2 p3 p4 x0_4 x0_5 x0_6 x0_7 x0_8 (37 : Int32) (0 : Int32) x0_11 x0_12 x0_13 y1 y2 x3_0 x4_0) sz) (wS57 cI cJ cZ cB p0 p1 p2 p3 p4 p5 x0_4 x0_5 x0_6 x0_7 x0_8 u_x0_9 u_x0_10 x0_11 x0_12 x0_13 y1 y2 u_x3_0 x4_0 u_y5))) (va_A (wS51 cI cJ cZ cB p0 p1 p2 p3 p4 x0_4 x0_5 x0_6 x0_7 x0_8 (37 : Int32) (0 : Int32) x0_11 x0_12 x0_13 y1 y2 x3_0 x4_0) sz)) 1 4000 (va_A (wS51 cI cJ cZ cB p0 p1 p2 p3 p4 x0_4 x0_5 x0_6 x0_7 x0_8 (37 : Int32) (0 : Int32) x0_11 x0_12 x0_13 y1 y2 x3_0 x4_0) sz) := by
  refine Met.ofW (cc := b_M_perform) (maxL := 1) (ret := none) (by decide) rfl ?_
  intro p e s m args below meth c s₁ B hml hv
  obtain ⟨rfl, hsz, hK, hP, hD0, hC⟩ := hv
  subst hsz
  have hD := hD0.self (sz := s.heap.size)
  generalize hAe : va_A (wS51 cI cJ cZ cB p0 p1 p2 p3 p4 x0_4 x0_5 x0_6 x0_7 x0_8 (37 : Int32) (0 : Int32) x0_11 x0_12 x0_13 y1 y2 x3_0 x4_0) s.heap.size = A at hD hC ⊢
  have hA : ∀ q : Nat, s.heap.size ≤ q → A q := fun q h => by rw [← hAe]; exact Or.inr h
  clear hAe hD0
  have hS : va_S A s.heap s.heap [] := va_S.rf
  have hx := B.exec
  have hb := B.bytes
  have hr := B.returns
  have hts := atoms_spec (ws := .code y_M_perform b_M_perform 1 none :: tb) B.pre
  have hk : ∀ w ∈ tb, w.before [.ref p0].toArray s = true := fun w h => hts w (List.mem_cons_of_mem _ h)
  have hown : s.vm.findClass "SignMachine$Machine" = some m.cls := findClass_of_methodNamed B.named
  have hlocks := B.notSynchronized
  have hl := lv_entry ([.ref p0]) (n := 1) (Nat.le_of_ble_eq_true rfl)
  rw [lg_entry_eq]
  generalize (lg_sl ([.ref p0]) ++ List.replicate (1 - (lg_sl ([.ref p0])).length) Slot.unset).toArray = ls at hl ⊢
  have hl : lv_has ls 1 [(0, .ref p0)] := hl
  refine lv_aload_n hx hb d_M_perform_0 rfl (lv_at hl 0 rfl) ?_
  refine va_get (D := D) (ci := 1) (v := .int (37 : Int32)) (C := "SignMachine$Machine") (T := F_M) (N := 14) hx hb hk fi_M hown hK.1 hP 0 rfl rfl 9 (by decide) (hk _ k_176) (fun _ h9 => h9) rfl d_M_perform_1 ?_
  refine lv_iconst (v := 3) hx hb d_M_perform_4 (by decide) ?_
  refine lv_ishr hx hb d_M_perform_5 ?_
  refine tpi (y := (4 : Int32)) (by decide) ?_
  refine lv_tableIn (off := 106) (tgt := 112) hx hb d_M_perform_6 (by decide) (by decide) rfl (by decide) ?_
  refine lv_aload_n hx hb d_M_perform_112 rfl (lv_at hl 0 rfl) ?_
  refine kn_v (va_runV (C := "SignMachine$Machine") (As := []) (rest := []) ⟨hx, hb, hml, hown, hk⟩ (c_M_performMiddle_s1 l K D cI cJ cZ cB p0 p1 p2 p3 p4 s.heap.size x0_4 x0_5 x0_6 x0_7 x0_8 x0_11 x0_12 x0_13 y1 y2 x3_0 x4_0   ) (v_M_performMiddle_s1 hk k_421 ⟨Nat.le_of_ble_eq_true rfl, Nat.le_of_ble_eq_true rfl⟩) (pMC_v hK hP hD hC hS hA (ci := 1) (q0 := 0) rfl rfl rfl) rfl rfl hl.1 rfl (lv_room (Nat.le_of_ble_eq_true rfl)) d_M_perform_113 ⟨by decide, by decide⟩) hS hA hD (fun u t H locs ht hB hFr hS => ?_)
  obtain ⟨p5, x0_9z1, x0_10z1, x3_0z1, y5z1, hP, hD⟩ := hB
  rw [ht] at hP
  have hD := dwk hD hFr
  clear ht hFr
  have hP : va_P D classes (wS57 cI cJ cZ cB p0 p1 p2 p3 p4 p5 x0_4 x0_5 x0_6 x0_7 x0_8 x0_9z1 x0_10z1 x0_11 x0_12 x0_13 y1 y2 x3_0z1 x4_0 y5z1) H := hP
  have hD : va_D A (wS57 cI cJ cZ cB p0 p1 p2 p3 p4 p5 x0_4 x0_5 x0_6 x0_7 x0_8 x0_9z1 x0_10z1 x0_11 x0_12 x0_13 y1 y2 x3_0z1 x4_0 y5z1) := hD
  refine W.widen (k := 1) (n := 4000) (by decide) (by decide) ?_
  refine lv_goto (tgt := 173) hx hb d_M_perform_116 (by decide) ?_
  exact W.vret hx hb hr (fun t ht hW => ⟨⟨(), rfl, trivial, ⟨p5, x0_9z1, x0_10z1, x3_0z1, y5z1, by show va_P D classes _ t.heap; rw [ht]; exact hP, hD⟩⟩, hS.F ht⟩) hS.2.2 d_M_perform_173
theorem v_M_perform_s1 {R : Room} {s : State} {args : Array Value} {own : String} {index : Nat} (hk : ∀ w ∈ tb, w.before args s = true) (hl : Cond.methodLink own index y_M_perform ∈ tb) (hR : 4 + 1 ≤ R.frames ∧ 8 + (1 + 11) + 86 ≤ R.locals) : CallW R s args own "SignMachine$Machine" index y_M_perform b_M_perform 1 none (.code y_M_perform b_M_perform 1 none :: tb) ({ frames := 4, cells := 1, slots := 4000, locals := 86 }) 1 4000 0 := mk_v 0 hk k_349 hl k_348 k_11 k_117 rfl rfl h_M_perform hR
set_option maxHeartbeats 4000000 in
set_option maxRecDepth 100000 in
theorem c_M_execute_s1 (l : Launch) (K : CK) (D : va_G) (cI cJ cZ cB : ClassId) (p0 p1 p2 p3 p4 : Nat) (sz : Nat) (x0_4 : Bool) (x0_5 : Int32) (x0_6 : Int32) (x0_7 : Int32) (x0_8 : Int32) (x0_9 : Int32) (x0_10 : Int32) (x0_11 : Int32) (x0_12 : Int32) (x0_13 : Int32) (y1 : Nat → Int32) (y2 : Nat → Int32) (x3_0 : Int32) (x4_0 : Int32)   (hy1 : ((f_W_size (f_mw y1 x0_7)) &&& (63 : Int32)) = (37 : Int32)) (hy2 : (((f_W_size (f_mw y1 x0_7)) >>> ((6 : Int32) &&& (31 : Int32))) &&& (63 : Int32)) = (0 : Int32)) : Met l y_M_execute (.code y_M_execute b_M_execute 2 (some .int) :: tb) ({ frames := 5, cells := 1, slots := 4000, locals := 106 }) (pMC K D cI cJ cZ cB (wS51 cI cJ cZ cB p0 p1 p2 p3 p4 x0_4 x0_5 x0_6 x0_7 x0_8 x0_9 x0_10 x0_11 x0_12 x0_13 y1 y2 x3_0 x4_0) sz [.ref p0]) (va_Qi (fun r (u : Int32) => r = u) (fun ur t => (¬ ur = (0 : Int32) ∧ ∃ u_x0_6 : Int32, ∃ u_x0_7 : Int32, ∃ u_x0_9 : Int32, ∃ u_x0_10 : Int32, ∃ u_x0_11 : Int32, ∃ u_x0_12 : Int32, ∃ u_x0_13 : Int32, ∃ u_x3_0 : Int32, va_P D classes (wS51 cI cJ cZ cB p0 p1 p2 p3 p4 x0_4 x0_5 u_x0_6 u_x0_7 x0_8 u_x0_9 u_x0_10 u_x0_11 u_x0_12 u_x0_13 y1 y2 u_x3_0 x4_0) t.heap ∧ va_D (va_A (wS51 cI cJ cZ cB p0 p1 p2 p3 p4 x0_4 x0_5 x0_6 x0_7 x0_8 x0_9 x0_10 x0_11 x0_12 x0_13 y1 y2 x3_0 x4_0) sz) (wS51 cI cJ cZ cB p0 p1 p2 p3 p4 x0_4 x0_5 u_x0_6 u_x0_7 x0_8 u_x0_9 u_x0_10 u_x0_11 u_x0_12 u_x0_13 y1 y2 u_x3_0 x4_0)) ∨ (∃ p5 : Nat, ∃ u_x0_6 : Int32, ∃ u_x0_7 : Int32, ∃ u_x0_9 : Int32, ∃ u_x0_10 : Int32, ∃ u_x0_11 : Int32, ∃ u_x0_12 : Int32, ∃ u_x0_13 : Int32, ∃ u_x3_0 : Int32, ∃ u_y5 : Nat → Int32, va_P D classes (wS57 cI cJ cZ cB p0 p1 p2 p3 p4 p5 x0_4 x0_5 u_x0_6 u_x0_7 x0_8 u_x0_9 u_x0_10 u_x0_11 u_x0_12 u_x0_13 y1 y2 u_x3_0 x4_0 u_y5) t.heap ∧ va_D (va_A (wS51 cI cJ cZ cB p0 p1 p2 p3 p4 x0_4 x0_5 x0_6 x0_7 x0_8 x0_9 x0_10 x0_11 x0_12 x0_13 y1 y2 x3_0 x4_0) sz) (wS57 cI cJ cZ cB p0 p1 p2 p3 p4 p5 x0_4 x0_5 u_x0_6 u_x0_7 x0_8 u_x0_9 u_x0_10 u_x0_11 u_x0_12 u_x0_13 y1 y2 u_x3_0 x4_0 u_y5))) (va_A (wS51 cI cJ cZ cB p0 p1 p2 p3 p4 x0_4 x0_5 x0_6 x0_7 x0_8 x0_9 x0_10 x0_11 x0_12 x0_13 y1 y2 x3_0 x4_0) sz)) 1 4000 (va_A (wS51 cI cJ cZ cB p0 p1 p2 p3 p4 x0_4 x0_5 x0_6 x0_7 x0_8 x0_9 x0_10 x0_11 x0_12 x0_13 y1 y2 x3_0 x4_0) sz) := by
  refine Met.ofW (cc := b_M_execute) (maxL := 2) (ret := (some .int)) (by decide) rfl ?_
  intro p e s m args below meth c s₁ B hml hv
  obtain ⟨rfl, hsz, hK, hP, hD0, hC⟩ := hv
  subst hsz
  have hD := hD0.self (sz := s.heap.size)
  generalize hAe : va_A (wS51 cI cJ cZ cB p0 p1 p2 p3 p4 x0_4 x0_5 x0_6 x0_7 x0_8 x0_9 x0_10 x0_11 x0_12 x0_13 y1 y2 x3_0 x4_0) s.heap.size = A at hD hC ⊢
  have hA : ∀ q : Nat, s.heap.size ≤ q → A q := fun q h => by rw [← hAe]; exact Or.inr h
  clear hAe hD0
  have hS : va_S A s.heap s.heap [] := va_S.rf
  have hx := B.exec
  have hb := B.bytes
  have hr := B.returns
  have hts := atoms_spec (ws := .code y_M_execute b_M_execute 2 (some .int) :: tb) B.pre
  have hk : ∀ w ∈ tb, w.before [.ref p0].toArray s = true := fun w h => hts w (List.mem_cons_of_mem _ h)
  have hown : s.vm.findClass "SignMachine$Machine" = some m.cls := findClass_of_methodNamed B.named
  have hlocks := B.notSynchronized
  have hl := lv_entry ([.ref p0]) (n := 2) (Nat.le_of_ble_eq_true rfl)
  rw [lg_entry_eq]
  generalize (lg_sl ([.ref p0]) ++ List.replicate (2 - (lg_sl ([.ref p0])).length) Slot.unset).toArray = ls at hl ⊢
  have hl : lv_has ls 2 [(0, .ref p0)] := hl
  refine lv_aload_n hx hb d_M_execute_0 rfl (lv_at hl 0 rfl) ?_
  refine va_get (D := D) (ci := 1) (v := .int x0_7) (C := "SignMachine$Machine") (T := F_M) (N := 14) hx hb hk fi_M hown hK.1 hP 0 rfl rfl 7 (by decide) (hk _ k_174) (fun _ h9 => h9) rfl d_M_execute_1 ?_
  refine cs_i (W.runS (As := [.int x0_7]) (rest := []) ⟨hx, hb, hml, hown, hk⟩ (c_M_isAddress l x0_7) (s_M_isAddress hk k_262 ⟨Nat.le_of_ble_eq_true rfl, Nat.le_of_ble_eq_true rfl⟩) ⟨fun a U g mk q => q, fun U hU hW => ⟨rfl, trivial⟩⟩ rfl rfl hl.1 rfl (lv_room (Nat.le_of_ble_eq_true rfl)) d_M_execute_4 ⟨Nat.le_of_ble_eq_true rfl, Nat.le_of_ble_eq_true rfl⟩) ?_
  obtain ⟨z1, hz1⟩ : ∃ y : Bool, y = (f_M_isAddress x0_7) := ⟨_, rfl⟩
  rw [← hz1]
  refine lv_if_ne (tgt := 12) hx hb d_M_execute_7 (by decide) (fun c2 => ?_) (fun c2 => ?_)
  · refine lv_aload_n hx hb d_M_execute_12 rfl (lv_at hl 0 rfl) ?_
    refine lv_aload_n hx hb d_M_execute_13 rfl (lv_at hl 0 rfl) ?_
    refine lv_aload_n hx hb d_M_execute_14 rfl (lv_at hl 0 rfl) ?_
    refine va_get (D := D) (ci := 1) (v := .int x0_7) (C := "SignMachine$Machine") (T := F_M) (N := 14) hx hb hk fi_M hown hK.1 hP 0 rfl rfl 7 (by decide) (hk _ k_174) (fun _ h9 => h9) rfl d_M_execute_15 ?_
    refine sn_i (va_runV (C := "SignMachine$Machine") (As := [.int x0_7]) (rest := [.ref p0]) ⟨hx, hb, hml, hown, hk⟩ (c_M_wordAt_s1 l K D cI cJ cZ cB p0 p1 p2 p3 p4 s.heap.size x0_4 x0_5 x0_6 x0_7 x0_8 x0_9 x0_10 x0_11 x0_12 x0_13 y1 y2 x3_0 x4_0  x0_7 ) (v_M_wordAt_s1 hk k_263 ⟨Nat.le_of_ble_eq_true rfl, Nat.le_of_ble_eq_true rfl⟩) (pMC_v hK hP hD hC hS hA (ci := 1) (q0 := 0) rfl rfl rfl) rfl rfl hl.1 rfl (lv_room (Nat.le_of_ble_eq_true rfl)) d_M_execute_18 ⟨by decide, by decide⟩) hS hA hD (fun rz3 u t H locs hr0 ht hB hFr hS => ?_)
    have hrz3 := hr0
    obtain ⟨hP, hD⟩ := hB
    rw [ht] at hP
    have hD := dwk hD hFr
    clear ht hFr
    have hP : va_P D classes (wS51 cI cJ cZ cB p0 p1 p2 p3 p4 x0_4 x0_5 x0_6 x0_7 x0_8 x0_9 x0_10 x0_11 x0_12 x0_13 y1 y2 x3_0 x4_0) H := hP
    have hD : va_D A (wS51 cI cJ cZ cB p0 p1 p2 p3 p4 x0_4 x0_5 x0_6 x0_7 x0_8 x0_9 x0_10 x0_11 x0_12 x0_13 y1 y2 x3_0 x4_0) := hD
    refine kn_v (va_runV (C := "SignMachine$Machine") (As := [.int rz3]) (rest := []) ⟨hx, hb, hml, hown, hk⟩ (c_M_decode_s1 l K D cI cJ cZ cB p0 p1 p2 p3 p4 H.size x0_4 x0_5 x0_6 x0_7 x0_8 x0_9 x0_10 x0_11 x0_12 x0_13 y1 y2 x3_0 x4_0  rz3 ) (v_M_decode_s1 hk k_264 ⟨Nat.le_of_ble_eq_true rfl, Nat.le_of_ble_eq_true rfl⟩) (pMC_v hK hP hD hC hS hA (ci := 1) (q0 := 0) rfl rfl rfl) rfl rfl hl.1 rfl (lv_room (Nat.le_of_ble_eq_true rfl)) d_M_execute_21 ⟨by decide, by decide⟩) hS hA hD (fun u t H locs ht hB hFr hS => ?_)
    obtain ⟨x0_9z4, x0_10z4, x0_11z4, x0_12z4, x0_13z4, ex0z4, ex1z4, hP, hD⟩ := hB
    rw [hrz3] at ex0z4 ex1z4
    have hc1 : x0_9z4 = (37 : Int32) := by rw [ex0z4]; exact hy1
    have hc2 : x0_10z4 = (0 : Int32) := by rw [ex1z4]; exact hy2
    subst hc2
    subst hc1
    rw [ht] at hP
    have hD := dwk hD hFr
    clear ht hFr
    have hP : va_P D classes (wS51 cI cJ cZ cB p0 p1 p2 p3 p4 x0_4 x0_5 x0_6 x0_7 x0_8 (37 : Int32) (0 : Int32) x0_11z4 x0_12z4 x0_13z4 y1 y2 x3_0 x4_0) H := hP
    have hD : va_D A (wS51 cI cJ cZ cB p0 p1 p2 p3 p4 x0_4 x0_5 x0_6 x0_7 x0_8 (37 : Int32) (0 : Int32) x0_11z4 x0_12z4 x0_13z4 y1 y2 x3_0 x4_0) := hD
    refine lv_aload_n hx hb d_M_execute_24 rfl (lv_at hl 0 rfl) ?_
    refine sn_i (va_runV (C := "SignMachine$Machine") (As := []) (rest := []) ⟨hx, hb, hml, hown, hk⟩ (c_M_reasonAgainst_s1 l K D cI cJ cZ cB p0 p1 p2 p3 p4 H.size x0_4 x0_5 x0_6 x0_7 x0_8 (37 : Int32) (0 : Int32) x0_11z4 x0_12z4 x0_13z4 y1 y2 x3_0 x4_0   ) (v_M_reasonAgainst_s1 hk k_280 ⟨Nat.le_of_ble_eq_true rfl, Nat.le_of_ble_eq_true rfl⟩) (pMC_v hK hP hD hC hS hA (ci := 1) (q0 := 0) rfl rfl rfl) rfl rfl hl.1 rfl (lv_room (Nat.le_of_ble_eq_true rfl)) d_M_execute_25 ⟨by decide, by decide⟩) hS hA hD (fun rz5 u t H locs hr0 ht hB hFr hS => ?_)
    obtain ⟨hP, hD⟩ := hB
    rw [ht] at hP
    have hD := dwk hD hFr
    clear ht hFr
    have hP : va_P D classes (wS51 cI cJ cZ cB p0 p1 p2 p3 p4 x0_4 x0_5 x0_6 x0_7 x0_8 (37 : Int32) (0 : Int32) x0_11z4 x0_12z4 x0_13z4 y1 y2 x3_0 x4_0) H := hP
    have hD : va_D A (wS51 cI cJ cZ cB p0 p1 p2 p3 p4 x0_4 x0_5 x0_6 x0_7 x0_8 (37 : Int32) (0 : Int32) x0_11z4 x0_12z4 x0_13z4 y1 y2 x3_0 x4_0) := hD
    refine lv_istore_n (lv' := [(1, .int rz5), (0, .ref p0)]) hx hb d_M_execute_28 rfl hl (by decide) rfl (fun ls hl => ?_)
    refine lv_iload_n hx hb d_M_execute_29 rfl (lv_at hl 0 rfl) ?_
    refine lv_if_eq (tgt := 35) hx hb d_M_execute_30 (by decide) (fun c6 => ?_) (fun c6 => ?_)
    · refine lv_aload_n hx hb d_M_execute_35 rfl (lv_at hl 1 rfl) ?_
      refine lv_aload_n hx hb d_M_execute_36 rfl (lv_at hl 1 rfl) ?_
      refine va_get (D := D) (ci := 1) (v := .int x0_6) (C := "SignMachine$Machine") (T := F_M) (N := 14) hx hb hk fi_M hown hK.1 hP 0 rfl rfl 6 (by decide) (hk _ k_172) (fun _ h9 => h9) rfl d_M_execute_37 ?_
      refine lv_aload_n hx hb d_M_execute_40 rfl (lv_at hl 1 rfl) ?_
      refine sn_i (va_runV (C := "SignMachine$Machine") (As := []) (rest := [.int x0_6, .ref p0]) ⟨hx, hb, hml, hown, hk⟩ (c_M_duration_s1 l K D cI cJ cZ cB p0 p1 p2 p3 p4 H.size x0_4 x0_5 x0_6 x0_7 x0_8 (37 : Int32) (0 : Int32) x0_11z4 x0_12z4 x0_13z4 y1 y2 x3_0 x4_0   ) (v_M_duration_s1 hk k_341 ⟨Nat.le_of_ble_eq_true rfl, Nat.le_of_ble_eq_true rfl⟩) (pMC_v hK hP hD hC hS hA (ci := 1) (q0 := 0) rfl rfl rfl) rfl rfl hl.1 rfl (lv_room (Nat.le_of_ble_eq_true rfl)) d_M_execute_41 ⟨by decide, by decide⟩) hS hA hD (fun rz7 u t H locs hr0 ht hB hFr hS => ?_)
      obtain ⟨hP, hD⟩ := hB
      rw [ht] at hP
      have hD := dwk hD hFr
      clear ht hFr
      have hP : va_P D classes (wS51 cI cJ cZ cB p0 p1 p2 p3 p4 x0_4 x0_5 x0_6 x0_7 x0_8 (37 : Int32) (0 : Int32) x0_11z4 x0_12z4 x0_13z4 y1 y2 x3_0 x4_0) H := hP
      have hD : va_D A (wS51 cI cJ cZ cB p0 p1 p2 p3 p4 x0_4 x0_5 x0_6 x0_7 x0_8 (37 : Int32) (0 : Int32) x0_11z4 x0_12z4 x0_13z4 y1 y2 x3_0 x4_0) := hD
      refine lv_iadd hx hb d_M_execute_44 ?_
      refine lv_topi (fun v8 hv8 => ?_)
      refine lv_ldc (v := 1073741823) hx hb hown (hk _ k_345) d_M_execute_45 ?_
      refine lv_iand hx hb d_M_execute_47 ?_
      refine lv_topi (fun v9 hv9 => ?_)
      refine va_put (D := D) (ci := 1) (v := .int v9) (ty := .int) (C := "SignMachine$Machine") (T := F_M) (N := 14) hx hb hk fi_M ft_M ft_M_ok fn_M hown hK.1 hP hD hS 0 rfl rfl 6 (by decide) (hk _ k_172) (fun _ h9 => h9) rfl (by decide +kernel) rfl rfl (Nat.le_of_ble_eq_true rfl) d_M_execute_48 (fun H locs hP hD hS => ?_)
      have hP : va_P D classes (wS51 cI cJ cZ cB p0 p1 p2 p3 p4 x0_4 x0_5 v9 x0_7 x0_8 (37 : Int32) (0 : Int32) x0_11z4 x0_12z4 x0_13z4 y1 y2 x3_0 x4_0) H := hP
      have hD : va_D A (wS51 cI cJ cZ cB p0 p1 p2 p3 p4 x0_4 x0_5 v9 x0_7 x0_8 (37 : Int32) (0 : Int32) x0_11z4 x0_12z4 x0_13z4 y1 y2 x3_0 x4_0) := hD
      refine lv_aload_n hx hb d_M_execute_51 rfl (lv_at hl 1 rfl) ?_
      refine lv_dup hx hb d_M_execute_52 rfl ?_
      refine va_get (D := D) (ci := 1) (v := .int x0_7) (C := "SignMachine$Machine") (T := F_M) (N := 14) hx hb hk fi_M hown hK.1 hP 0 rfl rfl 7 (by decide) (hk _ k_174) (fun _ h9 => h9) rfl d_M_execute_53 ?_
      refine lv_iconst (v := 1) hx hb d_M_execute_56 (by decide) ?_
      refine lv_iadd hx hb d_M_execute_57 ?_
      refine lv_topi (fun v10 hv10 => ?_)
      refine va_put (D := D) (ci := 1) (v := .int v10) (ty := .int) (C := "SignMachine$Machine") (T := F_M) (N := 14) hx hb hk fi_M ft_M ft_M_ok fn_M hown hK.1 hP hD hS 0 rfl rfl 7 (by decide) (hk _ k_174) (fun _ h9 => h9) rfl (by decide +kernel) rfl rfl (Nat.le_of_ble_eq_true rfl) d_M_execute_58 (fun H locs hP hD hS => ?_)
      have hP : va_P D classes (wS51 cI cJ cZ cB p0 p1 p2 p3 p4 x0_4 x0_5 v9 v10 x0_8 (37 : Int32) (0 : Int32) x0_11z4 x0_12z4 x0_13z4 y1 y2 x3_0 x4_0) H := hP
      have hD : va_D A (wS51 cI cJ cZ cB p0 p1 p2 p3 p4 x0_4 x0_5 v9 v10 x0_8 (37 : Int32) (0 : Int32) x0_11z4 x0_12z4 x0_13z4 y1 y2 x3_0 x4_0) := hD
      refine lv_aload_n hx hb d_M_execute_61 rfl (lv_at hl 1 rfl) ?_
      refine kn_v (va_runV (C := "SignMachine$Machine") (As := []) (rest := []) ⟨hx, hb, hml, hown, hk⟩ (c_M_perform_s1 l K D cI cJ cZ cB p0 p1 p2 p3 p4 H.size x0_4 x0_5 v9 v10 x0_8 x0_11z4 x0_12z4 x0_13z4 y1 y2 x3_0 x4_0   ) (v_M_perform_s1 hk k_346 ⟨Nat.le_of_ble_eq_true rfl, Nat.le_of_ble_eq_true rfl⟩) (pMC_v hK hP hD hC hS hA (ci := 1) (q0 := 0) rfl rfl rfl) rfl rfl hl.1 rfl (lv_room (Nat.le_of_ble_eq_true rfl)) d_M_execute_62 ⟨by decide, by decide⟩) hS hA hD (fun u t H locs ht hB hFr hS => ?_)
      obtain ⟨p5, x0_9z11, x0_10z11, x3_0z11, y5z11, hP, hD⟩ := hB
      rw [ht] at hP
      have hD := dwk hD hFr
      clear ht hFr
      have hP : va_P D classes (wS57 cI cJ cZ cB p0 p1 p2 p3 p4 p5 x0_4 x0_5 v9 v10 x0_8 x0_9z11 x0_10z11 x0_11z4 x0_12z4 x0_13z4 y1 y2 x3_0z11 x4_0 y5z11) H := hP
      have hD : va_D A (wS57 cI cJ cZ cB p0 p1 p2 p3 p4 p5 x0_4 x0_5 v9 v10 x0_8 x0_9z11 x0_10z11 x0_11z4 x0_12z4 x0_13z4 y1 y2 x3_0z11 x4_0 y5z11) := hD
      refine W.widen (k := 1) (n := 4000) (by decide) (by decide) ?_
      refine lv_aload_n hx hb d_M_execute_65 rfl (lv_at hl 1 rfl) ?_
      refine va_get (D := D) (ci := 1) (v := .int x0_9z11) (C := "SignMachine$Machine") (T := F_M) (N := 14) hx hb hk fi_M hown hK.1 hP 0 rfl rfl 9 (by decide) (hk _ k_176) (fun _ h9 => h9) rfl d_M_execute_66 ?_
      refine lv_iconst (v := 5) hx hb d_M_execute_69 (by decide) ?_
      refine lv_icmp_ne (tgt := 85) hx hb d_M_execute_70 (by decide) (fun c12 => ?_) (fun c12 => ?_)
      · refine lv_iconst (v := 0) hx hb d_M_execute_85 (by decide) ?_
        exact W.iret (v := (0 : Int32)) hx hb hr (fun t ht hW => ⟨⟨(0 : Int32), (0 : Int32), rfl, rfl, Or.inr (⟨p5, v9, v10, x0_9z11, x0_10z11, x0_11z4, x0_12z4, x0_13z4, x3_0z11, y5z11, by show va_P D classes _ t.heap; rw [ht]; exact hP, hD⟩)⟩, hS.F ht⟩) hS.2.2 d_M_execute_86
      · refine lv_aload_n hx hb d_M_execute_73 rfl (lv_at hl 1 rfl) ?_
        refine va_get (D := D) (ci := 1) (v := .int x0_10z11) (C := "SignMachine$Machine") (T := F_M) (N := 14) hx hb hk fi_M hown hK.1 hP 0 rfl rfl 10 (by decide) (hk _ k_177) (fun _ h9 => h9) rfl d_M_execute_74 ?_
        refine lv_iconst (v := 2) hx hb d_M_execute_77 (by decide) ?_
        refine lv_icmp_ne (tgt := 85) hx hb d_M_execute_78 (by decide) (fun c13 => ?_) (fun c13 => ?_)
        · refine lv_iconst (v := 0) hx hb d_M_execute_85 (by decide) ?_
          exact W.iret (v := (0 : Int32)) hx hb hr (fun t ht hW => ⟨⟨(0 : Int32), (0 : Int32), rfl, rfl, Or.inr (⟨p5, v9, v10, x0_9z11, x0_10z11, x0_11z4, x0_12z4, x0_13z4, x3_0z11, y5z11, by show va_P D classes _ t.heap; rw [ht]; exact hP, hD⟩)⟩, hS.F ht⟩) hS.2.2 d_M_execute_86
        · refine lv_iconst (v := 1) hx hb d_M_execute_81 (by decide) ?_
          refine lv_goto (tgt := 86) hx hb d_M_execute_82 (by decide) ?_
          exact W.iret (v := (1 : Int32)) hx hb hr (fun t ht hW => ⟨⟨(1 : Int32), (1 : Int32), rfl, rfl, Or.inr (⟨p5, v9, v10, x0_9z11, x0_10z11, x0_11z4, x0_12z4, x0_13z4, x3_0z11, y5z11, by show va_P D classes _ t.heap; rw [ht]; exact hP, hD⟩)⟩, hS.F ht⟩) hS.2.2 d_M_execute_86
    · refine lv_iload_n hx hb d_M_execute_33 rfl (lv_at hl 0 rfl) ?_
      refine W.widen (k := 1) (n := 4000) (by decide) (by decide) ?_
      exact W.iret (v := rz5) hx hb hr (fun t ht hW => ⟨⟨rz5, rz5, rfl, rfl, Or.inl ⟨c6, x0_6, x0_7, (37 : Int32), (0 : Int32), x0_11z4, x0_12z4, x0_13z4, x3_0, by show va_P D classes _ t.heap; rw [ht]; exact hP, hD⟩⟩, hS.F ht⟩) hS.2.2 d_M_execute_34
  · refine lv_iconst (v := 3) hx hb d_M_execute_10 (by decide) ?_
    refine W.widen (k := 1) (n := 4000) (by decide) (by decide) ?_
    exact W.iret (v := (3 : Int32)) hx hb hr (fun t ht hW => ⟨⟨(3 : Int32), (3 : Int32), rfl, rfl, Or.inl ⟨by decide, x0_6, x0_7, x0_9, x0_10, x0_11, x0_12, x0_13, x3_0, by show va_P D classes _ t.heap; rw [ht]; exact hP, hD⟩⟩, hS.F ht⟩) hS.2.2 d_M_execute_11
theorem v_M_execute_s1 {R : Room} {s : State} {args : Array Value} {own : String} {index : Nat} (hk : ∀ w ∈ tb, w.before args s = true) (hl : Cond.methodLink own index y_M_execute ∈ tb) (hR : 5 + 1 ≤ R.frames ∧ 8 + (2 + 11) + 106 ≤ R.locals) : CallW R s args own "SignMachine$Machine" index y_M_execute b_M_execute 2 (some .int) (.code y_M_execute b_M_execute 2 (some .int) :: tb) ({ frames := 5, cells := 1, slots := 4000, locals := 106 }) 1 4000 0 := mk_v 0 hk k_261 hl k_259 k_260 k_117 rfl rfl h_M_execute hR
set_option maxHeartbeats 4000000 in
set_option maxRecDepth 100000 in
theorem c_M_unit_s3 (l : Launch) (K : CK) (D : va_G) (cI cJ cZ cB : ClassId) (p0 p1 p2 p3 p4 : Nat) (sz : Nat) (x0_4 : Bool) (x0_5 : Int32) (x0_6 : Int32) (x0_7 : Int32) (x0_8 : Int32) (x0_9 : Int32) (x0_10 : Int32) (x0_11 : Int32) (x0_12 : Int32) (x0_13 : Int32) (y1 : Nat → Int32) (y2 : Nat → Int32) (x3_0 : Int32) (x4_0 : Int32)  (a1 : Int32) (hy1 : ¬ a1 = (0 : Int32)) : Met l y_M_unit (.code y_M_unit b_M_unit 2 (some (.object "SignMachine$Tape")) :: tb) ({ frames := 0, cells := 0, slots := 0, locals := 0 }) (pMC K D cI cJ cZ cB (wS51 cI cJ cZ cB p0 p1 p2 p3 p4 x0_4 x0_5 x0_6 x0_7 x0_8 x0_9 x0_10 x0_11 x0_12 x0_13 y1 y2 x3_0 x4_0) sz [.ref p0, .int a1]) (va_Qq (fun r (_ : Unit) => r = some p4) (fun _ t => (va_P D classes (wS51 cI cJ cZ cB p0 p1 p2 p3 p4 x0_4 x0_5 x0_6 x0_7 x0_8 x0_9 x0_10 x0_11 x0_12 x0_13 y1 y2 x3_0 x4_0) t.heap ∧ va_D (va_A (wS51 cI cJ cZ cB p0 p1 p2 p3 p4 x0_4 x0_5 x0_6 x0_7 x0_8 x0_9 x0_10 x0_11 x0_12 x0_13 y1 y2 x3_0 x4_0) sz) (wS51 cI cJ cZ cB p0 p1 p2 p3 p4 x0_4 x0_5 x0_6 x0_7 x0_8 x0_9 x0_10 x0_11 x0_12 x0_13 y1 y2 x3_0 x4_0))) (va_A (wS51 cI cJ cZ cB p0 p1 p2 p3 p4 x0_4 x0_5 x0_6 x0_7 x0_8 x0_9 x0_10 x0_11 x0_12 x0_13 y1 y2 x3_0 x4_0) sz)) 0 0 (va_A (wS51 cI cJ cZ cB p0 p1 p2 p3 p4 x0_4 x0_5 x0_6 x0_7 x0_8 x0_9 x0_10 x0_11 x0_12 x0_13 y1 y2 x3_0 x4_0) sz) := by
  refine Met.ofW (cc := b_M_unit) (maxL := 2) (ret := (some (.object "SignMachine$Tape"))) (by decide) rfl ?_
  intro p e s m args below meth c s₁ B hml hv
  obtain ⟨rfl, hsz, hK, hP, hD0, hC⟩ := hv
  subst hsz
  have hD := hD0.self (sz := s.heap.size)
  generalize hAe : va_A (wS51 cI cJ cZ cB p0 p1 p2 p3 p4 x0_4 x0_5 x0_6 x0_7 x0_8 x0_9 x0_10 x0_11 x0_12 x0_13 y1 y2 x3_0 x4_0) s.heap.size = A at hD hC ⊢
  have hA : ∀ q : Nat, s.heap.size ≤ q → A q := fun q h => by rw [← hAe]; exact Or.inr h
  clear hAe hD0
  have hS : va_S A s.heap s.heap [] := va_S.rf
  have hx := B.exec
  have hb := B.bytes
  have hr := B.returns
  have hts := atoms_spec (ws := .code y_M_unit b_M_unit 2 (some (.object "SignMachine$Tape")) :: tb) B.pre
  have hk : ∀ w ∈ tb, w.before [.ref p0, .int a1].toArray s = true := fun w h => hts w (List.mem_cons_of_mem _ h)
  have hown : s.vm.findClass "SignMachine$Machine" = some m.cls := findClass_of_methodNamed B.named
  have hlocks := B.notSynchronized
  have hl := lv_entry ([.ref p0, .int a1]) (n := 2) (Nat.le_of_ble_eq_true rfl)
  rw [lg_entry_eq]
  generalize (lg_sl ([.ref p0, .int a1]) ++ List.replicate (2 - (lg_sl ([.ref p0, .int a1])).length) Slot.unset).toArray = ls at hl ⊢
  have hl : lv_has ls 2 [(0, .ref p0), (1, .int a1)] := hl
  refine lv_iload_n hx hb d_M_unit_0 rfl (lv_at hl 1 rfl) ?_
  refine lv_if_ne (tgt := 11) hx hb d_M_unit_1 (by decide) (fun c1 => ?_) (fun c1 => absurd c1 (show ¬ a1 = (0 : Int32) from hy1))
  refine lv_aload_n hx hb d_M_unit_11 rfl (lv_at hl 0 rfl) ?_
  refine va_get (D := D) (ci := 1) (v := .ref p4) (C := "SignMachine$Machine") (T := F_M) (N := 14) hx hb hk fi_M hown hK.1 hP 0 rfl rfl 3 (by decide) (hk _ k_166) (fun _ h9 => h9) rfl d_M_unit_12 ?_
  exact W.aret (v := .ref p4) hx hb hr (Or.inl ⟨_, rfl⟩) (Or.inr ⟨_, rfl⟩) (fun t ht hW => ⟨⟨(some p4), (), rfl, rfl, ⟨by show va_P D classes _ t.heap; rw [ht]; exact hP, hD⟩⟩, hS.F ht⟩) hS.2.2 d_M_unit_15
theorem v_M_unit_s3 {R : Room} {s : State} {args : Array Value} {own : String} {index : Nat} (hk : ∀ w ∈ tb, w.before args s = true) (hl : Cond.methodLink own index y_M_unit ∈ tb) (hR : 0 + 1 ≤ R.frames ∧ 8 + (2 + 11) + 0 ≤ R.locals) : CallW R s args own "SignMachine$Machine" index y_M_unit b_M_unit 2 (some (.object "SignMachine$Tape")) (.code y_M_unit b_M_unit 2 (some (.object "SignMachine$Tape")) :: tb) ({ frames := 0, cells := 0, slots := 0, locals := 0 }) 0 0 1 := mk_v 1 hk k_340 hl k_338 k_339 k_117 rfl rfl h_M_unit hR
abbrev wS58 (cI cJ cZ cB : ClassId) (p0 p1 p2 p3 p4 p5 : Nat) (x0_4 : Bool) (x0_5 : Int32) (x0_6 : Int32) (x0_7 : Int32) (x0_8 : Int32) (x0_9 : Int32) (x0_10 : Int32) (x0_11 : Int32) (x0_12 : Int32) (x0_13 : Int32) (y1 : Nat → Int32) (y2 : Nat → Int32) (x3_0 : Int32) (x4_0 : Int32) (y5 : Nat → Int32) : va_W := [(p0, .inr (1, [.ref p1, .ref p2, .ref p3, .ref p4, .int (bI x0_4), .int x0_5, .int x0_6, .int x0_7, .int x0_8, .int x0_9, .int x0_10, .int x0_11, .int x0_12, .int x0_13])), (p1, .inl (cI, 4000, .inl y1)), (p2, .inl (cI, 9, .inl y2)), (p3, .inr (2, [.int x3_0, .null])), (p4, .inr (2, [.int x4_0, .ref p5])), (p5, .inl (cI, 4000, .inl y5))]
set_option maxHeartbeats 4000000 in
set_option maxRecDepth 100000 in
theorem c_T_putWord_s3 (l : Launch) (K : CK) (D : va_G) (cI cJ cZ cB : ClassId) (p0 p1 p2 p3 p4 : Nat) (sz : Nat) (x0_4 : Bool) (x0_5 : Int32) (x0_6 : Int32) (x0_7 : Int32) (x0_8 : Int32) (x0_9 : Int32) (x0_10 : Int32) (x0_11 : Int32) (x0_12 : Int32) (x0_13 : Int32) (y1 : Nat → Int32) (y2 : Nat → Int32) (x3_0 : Int32) (x4_0 : Int32)  (a1 : Int32) (a2 : Int32) (a3 : Int32) : Met l y_T_putWord (.code y_T_putWord b_T_putWord 4 none :: tb) ({ frames := 1, cells := 1, slots := 4000, locals := 21 }) (pMC K D cI cJ cZ cB (wS51 cI cJ cZ cB p0 p1 p2 p3 p4 x0_4 x0_5 x0_6 x0_7 x0_8 x0_9 x0_10 x0_11 x0_12 x0_13 y1 y2 x3_0 x4_0) sz [.ref p4, .int a1, .int a2, .int a3]) (va_Qv (fun (_ : Unit) => True) (fun _ t => (∃ p5 : Nat, ∃ u_y5 : Nat → Int32, va_P D classes (wS58 cI cJ cZ cB p0 p1 p2 p3 p4 p5 x0_4 x0_5 x0_6 x0_7 x0_8 x0_9 x0_10 x0_11 x0_12 x0_13 y1 y2 x3_0 x4_0 u_y5) t.heap ∧ va_D (va_A (wS51 cI cJ cZ cB p0 p1 p2 p3 p4 x0_4 x0_5 x0_6 x0_7 x0_8 x0_9 x0_10 x0_11 x0_12 x0_13 y1 y2 x3_0 x4_0) sz) (wS58 cI cJ cZ cB p0 p1 p2 p3 p4 p5 x0_4 x0_5 x0_6 x0_7 x0_8 x0_9 x0_10 x0_11 x0_12 x0_13 y1 y2 x3_0 x4_0 u_y5))) (va_A (wS51 cI cJ cZ cB p0 p1 p2 p3 p4 x0_4 x0_5 x0_6 x0_7 x0_8 x0_9 x0_10 x0_11 x0_12 x0_13 y1 y2 x3_0 x4_0) sz)) 1 4000 (va_A (wS51 cI cJ cZ cB p0 p1 p2 p3 p4 x0_4 x0_5 x0_6 x0_7 x0_8 x0_9 x0_10 x0_11 x0_12 x0_13 y1 y2 x3_0 x4_0) sz) := by
  refine Met.ofW (cc := b_T_putWord) (maxL := 4) (ret := none) (by decide) rfl ?_
  intro p e s m args below meth c s₁ B hml hv
  obtain ⟨rfl, hsz, hK, hP, hD0, hC⟩ := hv
  subst hsz
  have hD := hD0.self (sz := s.heap.size)
  generalize hAe : va_A (wS51 cI cJ cZ cB p0 p1 p2 p3 p4 x0_4 x0_5 x0_6 x0_7 x0_8 x0_9 x0_10 x0_11 x0_12 x0_13 y1 y2 x3_0 x4_0) s.heap.size = A at hD hC ⊢
  have hA : ∀ q : Nat, s.heap.size ≤ q → A q := fun q h => by rw [← hAe]; exact Or.inr h
  clear hAe hD0
  have hS : va_S A s.heap s.heap [] := va_S.rf
  have hx := B.exec
  have hb := B.bytes
  have hr := B.returns
  have hts := atoms_spec (ws := .code y_T_putWord b_T_putWord 4 none :: tb) B.pre
  have hk : ∀ w ∈ tb, w.before [.ref p4, .int a1, .int a2, .int a3].toArray s = true := fun w h => hts w (List.mem_cons_of_mem _ h)
  have hown : s.vm.findClass "SignMachine$Tape" = some m.cls := findClass_of_methodNamed B.named
  have hlocks := B.notSynchronized
  have hl := lv_entry ([.ref p4, .int a1, .int a2, .int a3]) (n := 4) (Nat.le_of_ble_eq_true rfl)
  rw [lg_entry_eq]
  generalize (lg_sl ([.ref p4, .int a1, .int a2, .int a3]) ++ List.replicate (4 - (lg_sl ([.ref p4, .int a1, .int a2, .int a3])).length) Slot.unset).toArray = ls at hl ⊢
  have hl : lv_has ls 4 [(0, .ref p4), (1, .int a1), (2, .int a2), (3, .int a3)] := hl
  refine lv_aload_n hx hb d_T_putWord_0 rfl (lv_at hl 0 rfl) ?_
  refine va_get (D := D) (ci := 2) (v := .null) (C := "SignMachine$Tape") (T := F_T) (N := 2) hx hb hk fi_T hown hK.1 hP 4 rfl rfl 1 (by decide) (hk _ k_156) (fun _ h9 => h9) rfl d_T_putWord_1 ?_
  refine lv_ifnonnullN hx hb d_T_putWord_4 ?_
  refine lv_aload_n hx hb d_T_putWord_7 rfl (lv_at hl 0 rfl) ?_
  refine lv_sipush (v := 4000) hx hb d_T_putWord_8 (by decide) ?_
  refine nwa (atype := .int) (ty := .int) (N' := 4000) (a0 := (4000, .inl (fun _ => 0))) hx hb (hk _ k_162) rfl hK.1 0 rfl (fun _ h => h) hP hD hS hA (zr_int 4000) (by decide) (by decide) (by decide) (by decide) (by decide) d_T_putWord_11 (fun p5 H hP hD hS => ?_)
  have hP : va_P D classes (wS56 cI cJ cZ cB p0 p1 p2 p3 p4 p5 x0_4 x0_5 x0_6 x0_7 x0_8 x0_9 x0_10 x0_11 x0_12 x0_13 y1 y2 x3_0 x4_0 (fun _ => 0)) H := hP
  have hD : va_D A (wS56 cI cJ cZ cB p0 p1 p2 p3 p4 p5 x0_4 x0_5 x0_6 x0_7 x0_8 x0_9 x0_10 x0_11 x0_12 x0_13 y1 y2 x3_0 x4_0 (fun _ => 0)) := hD
  refine W.widen (k := 1) (n := 4000) (by decide) (by decide) ?_
  refine va_put (D := D) (ci := 2) (v := .ref p5) (ty := (.array .int)) (C := "SignMachine$Tape") (T := F_T) (N := 2) hx hb hk fi_T ft_T ft_T_ok fn_T hown hK.1 hP hD hS 4 rfl rfl 1 (by decide) (hk _ k_156) (fun _ h9 => h9) rfl (by decide +kernel) rfl rfl (Nat.le_of_ble_eq_true rfl) d_T_putWord_13 (fun H locs hP hD hS => ?_)
  have hP : va_P D classes (wS58 cI cJ cZ cB p0 p1 p2 p3 p4 p5 x0_4 x0_5 x0_6 x0_7 x0_8 x0_9 x0_10 x0_11 x0_12 x0_13 y1 y2 x3_0 x4_0 (fun _ => 0)) H := hP
  have hD : va_D A (wS58 cI cJ cZ cB p0 p1 p2 p3 p4 p5 x0_4 x0_5 x0_6 x0_7 x0_8 x0_9 x0_10 x0_11 x0_12 x0_13 y1 y2 x3_0 x4_0 (fun _ => 0)) := hD
  refine lv_iload_n hx hb d_T_putWord_16 rfl (lv_at hl 1 rfl) ?_
  refine lv_iload_n hx hb d_T_putWord_17 rfl (lv_at hl 2 rfl) ?_
  refine cs_i (W.runS (As := [.int a1, .int a2]) (rest := []) ⟨hx, hb, hml, hown, hk⟩ (c_T_isWord l a1 a2) (s_T_isWord hk k_437 ⟨Nat.le_of_ble_eq_true rfl, Nat.le_of_ble_eq_true rfl⟩) ⟨fun a U g mk q => q, fun U hU hW => ⟨rfl, trivial⟩⟩ rfl rfl hl.1 rfl (lv_room (Nat.le_of_ble_eq_true rfl)) d_T_putWord_18 ⟨Nat.le_of_ble_eq_true rfl, Nat.le_of_ble_eq_true rfl⟩) ?_
  obtain ⟨z1, hz1⟩ : ∃ y : Bool, y = (f_T_isWord a1 a2) := ⟨_, rfl⟩
  rw [← hz1]
  refine lv_if_eq (tgt := 36) hx hb d_T_putWord_21 (by decide) (fun c2 => ?_) (fun c2 => ?_)
  · exact W.vret hx hb hr (fun t ht hW => ⟨⟨(), rfl, trivial, ⟨p5, (fun _ => 0), by show va_P D classes _ t.heap; rw [ht]; exact hP, hD⟩⟩, hS.F ht⟩) hS.2.2 d_T_putWord_36
  · refine lv_aload_n hx hb d_T_putWord_24 rfl (lv_at hl 0 rfl) ?_
    refine va_get (D := D) (ci := 2) (v := .ref p5) (C := "SignMachine$Tape") (T := F_T) (N := 2) hx hb hk fi_T hown hK.1 hP 4 rfl rfl 1 (by decide) (hk _ k_156) (fun _ h9 => h9) rfl d_T_putWord_25 ?_
    refine lv_iload_n hx hb d_T_putWord_28 rfl (lv_at hl 1 rfl) ?_
    refine lv_bipush (v := 100) hx hb d_T_putWord_29 (by decide) ?_
    refine lv_imul hx hb d_T_putWord_31 ?_
    refine lv_topi (fun v3 hv3 => ?_)
    refine lv_iload_n hx hb d_T_putWord_32 rfl (lv_at hl 2 rfl) ?_
    refine lv_iadd hx hb d_T_putWord_33 ?_
    refine lv_topi (fun v4 hv4 => ?_)
    refine lv_iload_n hx hb d_T_putWord_34 rfl (lv_at hl 3 rfl) ?_
    refine va_iast hx hb hK.1 hP hD hS 5 0 rfl rfl (by rw [hv4, hv3]; exact tw_in hz1 c2) d_T_putWord_35 (fun H locs hP hD hS => ?_)
    have hP : va_P D classes (wS58 cI cJ cZ cB p0 p1 p2 p3 p4 p5 x0_4 x0_5 x0_6 x0_7 x0_8 x0_9 x0_10 x0_11 x0_12 x0_13 y1 y2 x3_0 x4_0 (upd (fun _ => 0) (v4).toNatClampNeg a3)) H := hP
    have hD : va_D A (wS58 cI cJ cZ cB p0 p1 p2 p3 p4 p5 x0_4 x0_5 x0_6 x0_7 x0_8 x0_9 x0_10 x0_11 x0_12 x0_13 y1 y2 x3_0 x4_0 (upd (fun _ => 0) (v4).toNatClampNeg a3)) := hD
    obtain ⟨v5, hv5⟩ : ∃ y : Nat → Int32, y = (upd (fun _ => 0) (v4).toNatClampNeg a3) := ⟨_, rfl⟩
    rw [← hv5] at hP hD
    clear hv5
    exact W.vret hx hb hr (fun t ht hW => ⟨⟨(), rfl, trivial, ⟨p5, v5, by show va_P D classes _ t.heap; rw [ht]; exact hP, hD⟩⟩, hS.F ht⟩) hS.2.2 d_T_putWord_36
theorem v_T_putWord_s3 {R : Room} {s : State} {args : Array Value} {own : String} {index : Nat} (hk : ∀ w ∈ tb, w.before args s = true) (hl : Cond.methodLink own index y_T_putWord ∈ tb) (hR : 1 + 1 ≤ R.frames ∧ 8 + (4 + 11) + 21 ≤ R.locals) : CallW R s args own "SignMachine$Tape" index y_T_putWord b_T_putWord 4 none (.code y_T_putWord b_T_putWord 4 none :: tb) ({ frames := 1, cells := 1, slots := 4000, locals := 21 }) 1 4000 3 := mk_v 3 hk k_447 hl k_445 k_446 k_118 rfl rfl h_T_putWord hR
set_option maxHeartbeats 4000000 in
set_option maxRecDepth 100000 in
theorem c_M_wordAt_s3 (l : Launch) (K : CK) (D : va_G) (cI cJ cZ cB : ClassId) (p0 p1 p2 p3 p4 p5 : Nat) (sz : Nat) (x0_4 : Bool) (x0_5 : Int32) (x0_6 : Int32) (x0_7 : Int32) (x0_8 : Int32) (x0_9 : Int32) (x0_10 : Int32) (x0_11 : Int32) (x0_12 : Int32) (x0_13 : Int32) (y1 : Nat → Int32) (y2 : Nat → Int32) (x3_0 : Int32) (x4_0 : Int32) (y5 : Nat → Int32)  (a1 : Int32) : Met l y_M_wordAt (.code y_M_wordAt b_M_wordAt 2 (some .int) :: tb) ({ frames := 0, cells := 0, slots := 0, locals := 0 }) (pMC K D cI cJ cZ cB (wS58 cI cJ cZ cB p0 p1 p2 p3 p4 p5 x0_4 x0_5 x0_6 x0_7 x0_8 x0_9 x0_10 x0_11 x0_12 x0_13 y1 y2 x3_0 x4_0 y5) sz [.ref p0, .int a1]) (va_Qi (fun r (_ : Unit) => r = (f_mw y1 a1)) (fun _ t => (va_P D classes (wS58 cI cJ cZ cB p0 p1 p2 p3 p4 p5 x0_4 x0_5 x0_6 x0_7 x0_8 x0_9 x0_10 x0_11 x0_12 x0_13 y1 y2 x3_0 x4_0 y5) t.heap ∧ va_D (va_A (wS58 cI cJ cZ cB p0 p1 p2 p3 p4 p5 x0_4 x0_5 x0_6 x0_7 x0_8 x0_9 x0_10 x0_11 x0_12 x0_13 y1 y2 x3_0 x4_0 y5) sz) (wS58 cI cJ cZ cB p0 p1 p2 p3 p4 p5 x0_4 x0_5 x0_6 x0_7 x0_8 x0_9 x0_10 x0_11 x0_12 x0_13 y1 y2 x3_0 x4_0 y5))) (va_A (wS58 cI cJ cZ cB p0 p1 p2 p3 p4 p5 x0_4 x0_5 x0_6 x0_7 x0_8 x0_9 x0_10 x0_11 x0_12 x0_13 y1 y2 x3_0 x4_0 y5) sz)) 0 0 (va_A (wS58 cI cJ cZ cB p0 p1 p2 p3 p4 p5 x0_4 x0_5 x0_6 x0_7 x0_8 x0_9 x0_10 x0_11 x0_12 x0_13 y1 y2 x3_0 x4_0 y5) sz) := by
  refine Met.ofW (cc := b_M_wordAt) (maxL := 2) (ret := (some .int)) (by decide) rfl ?_
  intro p e s m args below meth c s₁ B hml hv
  obtain ⟨rfl, hsz, hK, hP, hD0, hC⟩ := hv
  subst hsz
  have hD := hD0.self (sz := s.heap.size)
  generalize hAe : va_A (wS58 cI cJ cZ cB p0 p1 p2 p3 p4 p5 x0_4 x0_5 x0_6 x0_7 x0_8 x0_9 x0_10 x0_11 x0_12 x0_13 y1 y2 x3_0 x4_0 y5) s.heap.size = A at hD hC ⊢
  have hA : ∀ q : Nat, s.heap.size ≤ q → A q := fun q h => by rw [← hAe]; exact Or.inr h
  clear hAe hD0
  have hS : va_S A s.heap s.heap [] := va_S.rf
  have hx := B.exec
  have hb := B.bytes
  have hr := B.returns
  have hts := atoms_spec (ws := .code y_M_wordAt b_M_wordAt 2 (some .int) :: tb) B.pre
  have hk : ∀ w ∈ tb, w.before [.ref p0, .int a1].toArray s = true := fun w h => hts w (List.mem_cons_of_mem _ h)
  have hown : s.vm.findClass "SignMachine$Machine" = some m.cls := findClass_of_methodNamed B.named
  have hlocks := B.notSynchronized
  have hl := lv_entry ([.ref p0, .int a1]) (n := 2) (Nat.le_of_ble_eq_true rfl)
  rw [lg_entry_eq]
  generalize (lg_sl ([.ref p0, .int a1]) ++ List.replicate (2 - (lg_sl ([.ref p0, .int a1])).length) Slot.unset).toArray = ls at hl ⊢
  have hl : lv_has ls 2 [(0, .ref p0), (1, .int a1)] := hl
  refine lv_iload_n hx hb d_M_wordAt_0 rfl (lv_at hl 1 rfl) ?_
  refine lv_if_lt (tgt := 20) hx hb d_M_wordAt_1 (by decide) (fun c1 => ?_) (fun c1 => ?_)
  · refine lv_iconst (v := 0) hx hb d_M_wordAt_20 (by decide) ?_
    exact W.iret (v := (0 : Int32)) hx hb hr (fun t ht hW => ⟨⟨(0 : Int32), (), rfl, by unfold f_mw; rw [if_pos c1], ⟨by show va_P D classes _ t.heap; rw [ht]; exact hP, hD⟩⟩, hS.F ht⟩) hS.2.2 d_M_wordAt_21
  · refine lv_iload_n hx hb d_M_wordAt_4 rfl (lv_at hl 1 rfl) ?_
    refine lv_sipush (v := 4000) hx hb d_M_wordAt_5 (by decide) ?_
    refine lv_icmp_ge (tgt := 20) hx hb d_M_wordAt_8 (by decide) (fun c2 => ?_) (fun c2 => ?_)
    · refine lv_iconst (v := 0) hx hb d_M_wordAt_20 (by decide) ?_
      exact W.iret (v := (0 : Int32)) hx hb hr (fun t ht hW => ⟨⟨(0 : Int32), (), rfl, by unfold f_mw; rw [if_neg c1, if_pos c2], ⟨by show va_P D classes _ t.heap; rw [ht]; exact hP, hD⟩⟩, hS.F ht⟩) hS.2.2 d_M_wordAt_21
    · refine lv_aload_n hx hb d_M_wordAt_11 rfl (lv_at hl 0 rfl) ?_
      refine va_get (D := D) (ci := 1) (v := .ref p1) (C := "SignMachine$Machine") (T := F_M) (N := 14) hx hb hk fi_M hown hK.1 hP 0 rfl rfl 0 (by decide) (hk _ k_163) (fun _ h9 => h9) rfl d_M_wordAt_12 ?_
      refine lv_iload_n hx hb d_M_wordAt_15 rfl (lv_at hl 1 rfl) ?_
      refine va_iald hx hb hK.1 hP 1 0 rfl rfl (vpin c1 c2 rfl) d_M_wordAt_16 ?_
      refine lv_topi (fun v3 hv3 => ?_)
      refine lv_goto (tgt := 21) hx hb d_M_wordAt_17 (by decide) ?_
      exact W.iret (v := v3) hx hb hr (fun t ht hW => ⟨⟨v3, (), rfl, by unfold f_mw; rw [if_neg c1, if_neg c2, hv3], ⟨by show va_P D classes _ t.heap; rw [ht]; exact hP, hD⟩⟩, hS.F ht⟩) hS.2.2 d_M_wordAt_21
theorem v_M_wordAt_s3 {R : Room} {s : State} {args : Array Value} {own : String} {index : Nat} (hk : ∀ w ∈ tb, w.before args s = true) (hl : Cond.methodLink own index y_M_wordAt ∈ tb) (hR : 0 + 1 ≤ R.frames ∧ 8 + (2 + 11) + 0 ≤ R.locals) : CallW R s args own "SignMachine$Machine" index y_M_wordAt b_M_wordAt 2 (some .int) (.code y_M_wordAt b_M_wordAt 2 (some .int) :: tb) ({ frames := 0, cells := 0, slots := 0, locals := 0 }) 0 0 1 := mk_v 1 hk k_243 hl k_241 k_242 k_117 rfl rfl h_M_wordAt hR
set_option maxHeartbeats 4000000 in
set_option maxRecDepth 100000 in
theorem c_T_putWord_s4 (l : Launch) (K : CK) (D : va_G) (cI cJ cZ cB : ClassId) (p0 p1 p2 p3 p4 p5 : Nat) (sz : Nat) (x0_4 : Bool) (x0_5 : Int32) (x0_6 : Int32) (x0_7 : Int32) (x0_8 : Int32) (x0_9 : Int32) (x0_10 : Int32) (x0_11 : Int32) (x0_12 : Int32) (x0_13 : Int32) (y1 : Nat → Int32) (y2 : Nat → Int32) (x3_0 : Int32) (x4_0 : Int32) (y5 : Nat → Int32)  (a1 : Int32) (a2 : Int32) (a3 : Int32) : Met l y_T_putWord (.code y_T_putWord b_T_putWord 4 none :: tb) ({ frames := 1, cells := 0, slots := 0, locals := 21 }) (pMC K D cI cJ cZ cB (wS58 cI cJ cZ cB p0 p1 p2 p3 p4 p5 x0_4 x0_5 x0_6 x0_7 x0_8 x0_9 x0_10 x0_11 x0_12 x0_13 y1 y2 x3_0 x4_0 y5) sz [.ref p4, .int a1, .int a2, .int a3]) (va_Qv (fun (_ : Unit) => True) (fun _ t => (∃ u_y5 : Nat → Int32, va_P D classes (wS58 cI cJ cZ cB p0 p1 p2 p3 p4 p5 x0_4 x0_5 x0_6 x0_7 x0_8 x0_9 x0_10 x0_11 x0_12 x0_13 y1 y2 x3_0 x4_0 u_y5) t.heap ∧ va_D (va_A (wS58 cI cJ cZ cB p0 p1 p2 p3 p4 p5 x0_4 x0_5 x0_6 x0_7 x0_8 x0_9 x0_10 x0_11 x0_12 x0_13 y1 y2 x3_0 x4_0 y5) sz) (wS58 cI cJ cZ cB p0 p1 p2 p3 p4 p5 x0_4 x0_5 x0_6 x0_7 x0_8 x0_9 x0_10 x0_11 x0_12 x0_13 y1 y2 x3_0 x4_0 u_y5))) (va_A (wS58 cI cJ cZ cB p0 p1 p2 p3 p4 p5 x0_4 x0_5 x0_6 x0_7 x0_8 x0_9 x0_10 x0_11 x0_12 x0_13 y1 y2 x3_0 x4_0 y5) sz)) 0 0 (va_A (wS58 cI cJ cZ cB p0 p1 p2 p3 p4 p5 x0_4 x0_5 x0_6 x0_7 x0_8 x0_9 x0_10 x0_11 x0_12 x0_13 y1 y2 x3_0 x4_0 y5) sz) := by
  refine Met.ofW (cc := b_T_putWord) (maxL := 4) (ret := none) (by decide) rfl ?_
  intro p e s m args below meth c s₁ B hml hv
  obtain ⟨rfl, hsz, hK, hP, hD0, hC⟩ := hv
  subst hsz
  have hD := hD0.self (sz := s.heap.size)
  generalize hAe : va_A (wS58 cI cJ cZ cB p0 p1 p2 p3 p4 p5 x0_4 x0_5 x0_6 x0_7 x0_8 x0_9 x0_10 x0_11 x0_12 x0_13 y1 y2 x3_0 x4_0 y5) s.heap.size = A at hD hC ⊢
  have hA : ∀ q : Nat, s.heap.size ≤ q → A q := fun q h => by rw [← hAe]; exact Or.inr h
  clear hAe hD0
  have hS : va_S A s.heap s.heap [] := va_S.rf
  have hx := B.exec
  have hb := B.bytes
  have hr := B.returns
  have hts := atoms_spec (ws := .code y_T_putWord b_T_putWord 4 none :: tb) B.pre
  have hk : ∀ w ∈ tb, w.before [.ref p4, .int a1, .int a2, .int a3].toArray s = true := fun w h => hts w (List.mem_cons_of_mem _ h)
  have hown : s.vm.findClass "SignMachine$Tape" = some m.cls := findClass_of_methodNamed B.named
  have hlocks := B.notSynchronized
  have hl := lv_entry ([.ref p4, .int a1, .int a2, .int a3]) (n := 4) (Nat.le_of_ble_eq_true rfl)
  rw [lg_entry_eq]
  generalize (lg_sl ([.ref p4, .int a1, .int a2, .int a3]) ++ List.replicate (4 - (lg_sl ([.ref p4, .int a1, .int a2, .int a3])).length) Slot.unset).toArray = ls at hl ⊢
  have hl : lv_has ls 4 [(0, .ref p4), (1, .int a1), (2, .int a2), (3, .int a3)] := hl
  refine lv_aload_n hx hb d_T_putWord_0 rfl (lv_at hl 0 rfl) ?_
  refine va_get (D := D) (ci := 2) (v := .ref p5) (C := "SignMachine$Tape") (T := F_T) (N := 2) hx hb hk fi_T hown hK.1 hP 4 rfl rfl 1 (by decide) (hk _ k_156) (fun _ h9 => h9) rfl d_T_putWord_1 ?_
  refine lv_ifnonnull (tgt := 16) hx hb d_T_putWord_4 (by decide) ?_
  refine lv_iload_n hx hb d_T_putWord_16 rfl (lv_at hl 1 rfl) ?_
  refine lv_iload_n hx hb d_T_putWord_17 rfl (lv_at hl 2 rfl) ?_
  refine cs_i (W.runS (As := [.int a1, .int a2]) (rest := []) ⟨hx, hb, hml, hown, hk⟩ (c_T_isWord l a1 a2) (s_T_isWord hk k_437 ⟨Nat.le_of_ble_eq_true rfl, Nat.le_of_ble_eq_true rfl⟩) ⟨fun a U g mk q => q, fun U hU hW => ⟨rfl, trivial⟩⟩ rfl rfl hl.1 rfl (lv_room (Nat.le_of_ble_eq_true rfl)) d_T_putWord_18 ⟨Nat.le_of_ble_eq_true rfl, Nat.le_of_ble_eq_true rfl⟩) ?_
  obtain ⟨z1, hz1⟩ : ∃ y : Bool, y = (f_T_isWord a1 a2) := ⟨_, rfl⟩
  rw [← hz1]
  refine lv_if_eq (tgt := 36) hx hb d_T_putWord_21 (by decide) (fun c2 => ?_) (fun c2 => ?_)
  · exact W.vret hx hb hr (fun t ht hW => ⟨⟨(), rfl, trivial, ⟨y5, by show va_P D classes _ t.heap; rw [ht]; exact hP, hD⟩⟩, hS.F ht⟩) hS.2.2 d_T_putWord_36
  · refine lv_aload_n hx hb d_T_putWord_24 rfl (lv_at hl 0 rfl) ?_
    refine va_get (D := D) (ci := 2) (v := .ref p5) (C := "SignMachine$Tape") (T := F_T) (N := 2) hx hb hk fi_T hown hK.1 hP 4 rfl rfl 1 (by decide) (hk _ k_156) (fun _ h9 => h9) rfl d_T_putWord_25 ?_
    refine lv_iload_n hx hb d_T_putWord_28 rfl (lv_at hl 1 rfl) ?_
    refine lv_bipush (v := 100) hx hb d_T_putWord_29 (by decide) ?_
    refine lv_imul hx hb d_T_putWord_31 ?_
    refine lv_topi (fun v3 hv3 => ?_)
    refine lv_iload_n hx hb d_T_putWord_32 rfl (lv_at hl 2 rfl) ?_
    refine lv_iadd hx hb d_T_putWord_33 ?_
    refine lv_topi (fun v4 hv4 => ?_)
    refine lv_iload_n hx hb d_T_putWord_34 rfl (lv_at hl 3 rfl) ?_
    refine va_iast hx hb hK.1 hP hD hS 5 0 rfl rfl (by rw [hv4, hv3]; exact tw_in hz1 c2) d_T_putWord_35 (fun H locs hP hD hS => ?_)
    have hP : va_P D classes (wS58 cI cJ cZ cB p0 p1 p2 p3 p4 p5 x0_4 x0_5 x0_6 x0_7 x0_8 x0_9 x0_10 x0_11 x0_12 x0_13 y1 y2 x3_0 x4_0 (upd y5 (v4).toNatClampNeg a3)) H := hP
    have hD : va_D A (wS58 cI cJ cZ cB p0 p1 p2 p3 p4 p5 x0_4 x0_5 x0_6 x0_7 x0_8 x0_9 x0_10 x0_11 x0_12 x0_13 y1 y2 x3_0 x4_0 (upd y5 (v4).toNatClampNeg a3)) := hD
    obtain ⟨v5, hv5⟩ : ∃ y : Nat → Int32, y = (upd y5 (v4).toNatClampNeg a3) := ⟨_, rfl⟩
    rw [← hv5] at hP hD
    clear hv5
    exact W.vret hx hb hr (fun t ht hW => ⟨⟨(), rfl, trivial, ⟨v5, by show va_P D classes _ t.heap; rw [ht]; exact hP, hD⟩⟩, hS.F ht⟩) hS.2.2 d_T_putWord_36
theorem v_T_putWord_s4 {R : Room} {s : State} {args : Array Value} {own : String} {index : Nat} (hk : ∀ w ∈ tb, w.before args s = true) (hl : Cond.methodLink own index y_T_putWord ∈ tb) (hR : 1 + 1 ≤ R.frames ∧ 8 + (4 + 11) + 21 ≤ R.locals) : CallW R s args own "SignMachine$Tape" index y_T_putWord b_T_putWord 4 none (.code y_T_putWord b_T_putWord 4 none :: tb) ({ frames := 1, cells := 0, slots := 0, locals := 21 }) 0 0 3 := mk_v 3 hk k_447 hl k_445 k_446 k_118 rfl rfl h_T_putWord hR
set_option maxHeartbeats 4000000 in
set_option maxRecDepth 100000 in
theorem c_M_writeBlock_s2 (l : Launch) (K : CK) (D : va_G) (cI cJ cZ cB : ClassId) (p0 p1 p2 p3 p4 : Nat) (sz : Nat) (x0_4 : Bool) (x0_5 : Int32) (x0_6 : Int32) (x0_7 : Int32) (x0_8 : Int32) (x0_10 : Int32) (x0_11 : Int32) (x0_12 : Int32) (x0_13 : Int32) (y1 : Nat → Int32) (y2 : Nat → Int32) (x3_0 : Int32) (x4_0 : Int32)   (hy1 : ¬ x0_10 = (0 : Int32)) : Met l y_M_writeBlock (.code y_M_writeBlock b_M_writeBlock 3 none :: tb) ({ frames := 2, cells := 1, slots := 4000, locals := 44 }) (pMC K D cI cJ cZ cB (wS51 cI cJ cZ cB p0 p1 p2 p3 p4 x0_4 x0_5 x0_6 x0_7 x0_8 (37 : Int32) x0_10 x0_11 x0_12 x0_13 y1 y2 x3_0 x4_0) sz [.ref p0]) (va_Qv (fun (_ : Unit) => True) (fun _ t => (∃ p5 : Nat, ∃ u_x0_9 : Int32, ∃ u_x4_0 : Int32, ∃ u_y5 : Nat → Int32, va_P D classes (wS58 cI cJ cZ cB p0 p1 p2 p3 p4 p5 x0_4 x0_5 x0_6 x0_7 x0_8 u_x0_9 x0_10 x0_11 x0_12 x0_13 y1 y2 x3_0 u_x4_0 u_y5) t.heap ∧ va_D (va_A (wS51 cI cJ cZ cB p0 p1 p2 p3 p4 x0_4 x0_5 x0_6 x0_7 x0_8 (37 : Int32) x0_10 x0_11 x0_12 x0_13 y1 y2 x3_0 x4_0) sz) (wS58 cI cJ cZ cB p0 p1 p2 p3 p4 p5 x0_4 x0_5 x0_6 x0_7 x0_8 u_x0_9 x0_10 x0_11 x0_12 x0_13 y1 y2 x3_0 u_x4_0 u_y5))) (va_A (wS51 cI cJ cZ cB p0 p1 p2 p3 p4 x0_4 x0_5 x0_6 x0_7 x0_8 (37 : Int32) x0_10 x0_11 x0_12 x0_13 y1 y2 x3_0 x4_0) sz)) 1 4000 (va_A (wS51 cI cJ cZ cB p0 p1 p2 p3 p4 x0_4 x0_5 x0_6 x0_7 x0_8 (37 : Int32) x0_10 x0_11 x0_12 x0_13 y1 y2 x3_0 x4_0) sz) := by
  refine Met.ofW (cc := b_M_writeBlock) (maxL := 3) (ret := none) (by decide) rfl ?_
  intro p e s m args below meth c s₁ B hml hv
  obtain ⟨rfl, hsz, hK, hP, hD0, hC⟩ := hv
  subst hsz
  have hD := hD0.self (sz := s.heap.size)
  generalize hAe : va_A (wS51 cI cJ cZ cB p0 p1 p2 p3 p4 x0_4 x0_5 x0_6 x0_7 x0_8 (37 : Int32) x0_10 x0_11 x0_12 x0_13 y1 y2 x3_0 x4_0) s.heap.size = A at hD hC ⊢
  have hA : ∀ q : Nat, s.heap.size ≤ q → A q := fun q h => by rw [← hAe]; exact Or.inr h
  clear hAe hD0
  have hS : va_S A s.heap s.heap [] := va_S.rf
  have hx := B.exec
  have hb := B.bytes
  have hr := B.returns
  have hts := atoms_spec (ws := .code y_M_writeBlock b_M_writeBlock 3 none :: tb) B.pre
  have hk : ∀ w ∈ tb, w.before [.ref p0].toArray s = true := fun w h => hts w (List.mem_cons_of_mem _ h)
  have hown : s.vm.findClass "SignMachine$Machine" = some m.cls := findClass_of_methodNamed B.named
  have hlocks := B.notSynchronized
  have hl := lv_entry ([.ref p0]) (n := 3) (Nat.le_of_ble_eq_true rfl)
  rw [lg_entry_eq]
  generalize (lg_sl ([.ref p0]) ++ List.replicate (3 - (lg_sl ([.ref p0])).length) Slot.unset).toArray = ls at hl ⊢
  have hl : lv_has ls 3 [(0, .ref p0)] := hl
  refine lv_aload_n hx hb d_M_writeBlock_0 rfl (lv_at hl 0 rfl) ?_
  refine lv_aload_n hx hb d_M_writeBlock_1 rfl (lv_at hl 0 rfl) ?_
  refine va_get (D := D) (ci := 1) (v := .int x0_10) (C := "SignMachine$Machine") (T := F_M) (N := 14) hx hb hk fi_M hown hK.1 hP 0 rfl rfl 10 (by decide) (hk _ k_177) (fun _ h9 => h9) rfl d_M_writeBlock_2 ?_
  refine sn_q (va_runV (C := "SignMachine$Machine") (As := [.int x0_10]) (rest := []) ⟨hx, hb, hml, hown, hk⟩ (c_M_unit_s3 l K D cI cJ cZ cB p0 p1 p2 p3 p4 s.heap.size x0_4 x0_5 x0_6 x0_7 x0_8 (37 : Int32) x0_10 x0_11 x0_12 x0_13 y1 y2 x3_0 x4_0  x0_10 hy1) (v_M_unit_s3 hk k_337 ⟨Nat.le_of_ble_eq_true rfl, Nat.le_of_ble_eq_true rfl⟩) (pMC_v hK hP hD hC hS hA (ci := 1) (q0 := 0) rfl rfl rfl) rfl rfl hl.1 rfl (lv_room (Nat.le_of_ble_eq_true rfl)) d_M_writeBlock_5 ⟨by decide, by decide⟩) hS hA hD (fun rz1 u t H locs hr0 ht hB hFr hS => ?_)
  obtain ⟨hP, hD⟩ := hB
  rw [ht] at hP
  have hD := dwk hD hFr
  clear ht hFr
  have hP : va_P D classes (wS51 cI cJ cZ cB p0 p1 p2 p3 p4 x0_4 x0_5 x0_6 x0_7 x0_8 (37 : Int32) x0_10 x0_11 x0_12 x0_13 y1 y2 x3_0 x4_0) H := hP
  have hD : va_D A (wS51 cI cJ cZ cB p0 p1 p2 p3 p4 x0_4 x0_5 x0_6 x0_7 x0_8 (37 : Int32) x0_10 x0_11 x0_12 x0_13 y1 y2 x3_0 x4_0) := hD
  subst hr0
  refine W.eq (g2 := F0 m 8 ls [.ref p4]) rfl ?_
  refine lv_astore_n (lv' := [(1, .ref p4), (0, .ref p0)]) hx hb d_M_writeBlock_8 rfl hl (by decide) rfl (fun ls hl => ?_)
  refine lv_iconst (v := 0) hx hb d_M_writeBlock_9 (by decide) ?_
  refine lv_istore_n (lv' := [(2, .int (0 : Int32)), (1, .ref p4), (0, .ref p0)]) hx hb d_M_writeBlock_10 rfl hl (by decide) rfl (fun ls hl => ?_)
  refine lv_iload_n hx hb d_M_writeBlock_11 rfl (lv_at hl 0 rfl) ?_
  refine lv_bipush (v := 100) hx hb d_M_writeBlock_12 (by decide) ?_
  refine lv_icmp_ge (tgt := 42) hx hb d_M_writeBlock_14 (by decide) (fun c2 => absurd c2 (show ¬ (100 : Int32) ≤ (0 : Int32) from (by decide))) (fun c2 => ?_)
  refine lv_aload_n hx hb d_M_writeBlock_17 rfl (lv_at hl 1 rfl) ?_
  refine lv_aload_n hx hb d_M_writeBlock_18 rfl (lv_at hl 1 rfl) ?_
  refine va_getN (D := D) (ci := 2) (v := .int x4_0) (C := "SignMachine$Tape") (T := F_T) (N := 2) hx hb hk fi_T hown hK.1 hP 4 rfl rfl 0 (by decide) (va_Nw.use rfl (hK.2 _ n_155)) (fun _ h9 => h9) rfl d_M_writeBlock_19 ?_
  refine lv_iload_n hx hb d_M_writeBlock_22 rfl (lv_at hl 0 rfl) ?_
  refine lv_aload_n hx hb d_M_writeBlock_23 rfl (lv_at hl 2 rfl) ?_
  refine lv_aload_n hx hb d_M_writeBlock_24 rfl (lv_at hl 2 rfl) ?_
  refine va_get (D := D) (ci := 1) (v := .int x0_12) (C := "SignMachine$Machine") (T := F_M) (N := 14) hx hb hk fi_M hown hK.1 hP 0 rfl rfl 12 (by decide) (hk _ k_179) (fun _ h9 => h9) rfl d_M_writeBlock_25 ?_
  refine lv_iload_n hx hb d_M_writeBlock_28 rfl (lv_at hl 0 rfl) ?_
  refine lv_iadd hx hb d_M_writeBlock_29 ?_
  refine lv_topi (fun v3 hv3 => ?_)
  refine sn_i (va_runV (C := "SignMachine$Machine") (As := [.int v3]) (rest := [.int (0 : Int32), .int x4_0, .ref p4]) ⟨hx, hb, hml, hown, hk⟩ (c_M_wordAt_s1 l K D cI cJ cZ cB p0 p1 p2 p3 p4 H.size x0_4 x0_5 x0_6 x0_7 x0_8 (37 : Int32) x0_10 x0_11 x0_12 x0_13 y1 y2 x3_0 x4_0  v3 ) (v_M_wordAt_s1 hk k_263 ⟨Nat.le_of_ble_eq_true rfl, Nat.le_of_ble_eq_true rfl⟩) (pMC_v hK hP hD hC hS hA (ci := 1) (q0 := 0) rfl rfl rfl) rfl rfl hl.1 rfl (lv_room (Nat.le_of_ble_eq_true rfl)) d_M_writeBlock_30 ⟨by decide, by decide⟩) hS hA hD (fun rz4 u t H locs hr0 ht hB hFr hS => ?_)
  have hrz4 := hr0
  obtain ⟨hP, hD⟩ := hB
  rw [ht] at hP
  have hD := dwk hD hFr
  clear ht hFr
  have hP : va_P D classes (wS51 cI cJ cZ cB p0 p1 p2 p3 p4 x0_4 x0_5 x0_6 x0_7 x0_8 (37 : Int32) x0_10 x0_11 x0_12 x0_13 y1 y2 x3_0 x4_0) H := hP
  have hD : va_D A (wS51 cI cJ cZ cB p0 p1 p2 p3 p4 x0_4 x0_5 x0_6 x0_7 x0_8 (37 : Int32) x0_10 x0_11 x0_12 x0_13 y1 y2 x3_0 x4_0) := hD
  refine kn_v (va_runV (C := "SignMachine$Tape") (As := [.int x4_0, .int (0 : Int32), .int rz4]) (rest := []) ⟨hx, hb, hml, hown, hk⟩ (c_T_putWord_s3 l K D cI cJ cZ cB p0 p1 p2 p3 p4 H.size x0_4 x0_5 x0_6 x0_7 x0_8 (37 : Int32) x0_10 x0_11 x0_12 x0_13 y1 y2 x3_0 x4_0  x4_0 (0 : Int32) rz4 ) (v_T_putWord_s3 hk k_444 ⟨Nat.le_of_ble_eq_true rfl, Nat.le_of_ble_eq_true rfl⟩) (pMC_v hK hP hD hC hS hA (ci := 2) (q0 := 4) rfl rfl rfl) rfl rfl hl.1 rfl (lv_room (Nat.le_of_ble_eq_true rfl)) d_M_writeBlock_33 ⟨by decide, by decide⟩) hS hA hD (fun u t H locs ht hB hFr hS => ?_)
  obtain ⟨p5, y5z5, hP, hD⟩ := hB
  rw [ht] at hP
  have hD := dwk hD hFr
  clear ht hFr
  have hP : va_P D classes (wS58 cI cJ cZ cB p0 p1 p2 p3 p4 p5 x0_4 x0_5 x0_6 x0_7 x0_8 (37 : Int32) x0_10 x0_11 x0_12 x0_13 y1 y2 x3_0 x4_0 y5z5) H := hP
  have hD : va_D A (wS58 cI cJ cZ cB p0 p1 p2 p3 p4 p5 x0_4 x0_5 x0_6 x0_7 x0_8 (37 : Int32) x0_10 x0_11 x0_12 x0_13 y1 y2 x3_0 x4_0 y5z5) := hD
  refine W.widen (k := 1) (n := 4000) (by decide) (by decide) ?_
  refine lv_iinc (v := (1 : Int32)) (lv' := [(2, .int (1 : Int32)), (1, .ref p4), (0, .ref p0)]) hx hb d_M_writeBlock_36 hl (k := 0) rfl (by decide) (by decide) rfl (fun ls hl => ?_)
  refine lv_goto (tgt := 11) hx hb d_M_writeBlock_39 (by decide) ?_
  have LP11_58 : ∀ (n : Nat) (l2 : Int32) (x0_9 : Int32) (x4_0 : Int32) (y5 : Nat → Int32) (H : Heap) (locs : List Loc) (ls : Array Slot), (((100 : Int32)).toInt - (l2).toInt).toNat < n → ¬ l2 < (0 : Int32) → va_P D classes (wS58 cI cJ cZ cB p0 p1 p2 p3 p4 p5 x0_4 x0_5 x0_6 x0_7 x0_8 x0_9 x0_10 x0_11 x0_12 x0_13 y1 y2 x3_0 x4_0 y5) H → va_D A (wS58 cI cJ cZ cB p0 p1 p2 p3 p4 p5 x0_4 x0_5 x0_6 x0_7 x0_8 x0_9 x0_10 x0_11 x0_12 x0_13 y1 y2 x3_0 x4_0 y5) → va_S A s.heap H locs → lv_has ls 3 [(2, .int l2), (1, .ref p4), (0, .ref p0)] → W p l e ({ frames := 2, cells := 1, slots := 4000, locals := 44 }) s m [.ref p0].toArray below meth c H locs 1 4000 (MQ below (va_Qv (fun (_ : Unit) => True) (fun _ t => (∃ p5 : Nat, ∃ u_x0_9 : Int32, ∃ u_x4_0 : Int32, ∃ u_y5 : Nat → Int32, va_P D classes (wS58 cI cJ cZ cB p0 p1 p2 p3 p4 p5 x0_4 x0_5 x0_6 x0_7 x0_8 u_x0_9 x0_10 x0_11 x0_12 x0_13 y1 y2 x3_0 u_x4_0 u_y5) t.heap ∧ va_D A (wS58 cI cJ cZ cB p0 p1 p2 p3 p4 p5 x0_4 x0_5 x0_6 x0_7 x0_8 u_x0_9 x0_10 x0_11 x0_12 x0_13 y1 y2 x3_0 u_x4_0 u_y5))) A) [.ref p0].toArray s 1 4000 A) (F0 m 11 ls []) := by
    intro n
    induction n with
    | zero => intro l2 x0_9 x4_0 y5 H locs ls hn; exact absurd hn (Nat.not_lt_zero _)
    | succ n ih =>
      intro l2 x0_9 x4_0 y5 H locs ls hn11_58 hc11_58 hP hD hS hl
      refine lv_iload_n hx hb d_M_writeBlock_11 rfl (lv_at hl 0 rfl) ?_
      refine lv_bipush (v := 100) hx hb d_M_writeBlock_12 (by decide) ?_
      refine lv_icmp_ge (tgt := 42) hx hb d_M_writeBlock_14 (by decide) (fun c6 => ?_) (fun c6 => ?_)
      · refine lv_aload_n hx hb d_M_writeBlock_42 rfl (lv_at hl 1 rfl) ?_
        refine lv_dup hx hb d_M_writeBlock_43 rfl ?_
        refine va_getN (D := D) (ci := 2) (v := .int x4_0) (C := "SignMachine$Tape") (T := F_T) (N := 2) hx hb hk fi_T hown hK.1 hP 4 rfl rfl 0 (by decide) (va_Nw.use rfl (hK.2 _ n_155)) (fun _ h9 => h9) rfl d_M_writeBlock_44 ?_
        refine lv_iconst (v := 1) hx hb d_M_writeBlock_47 (by decide) ?_
        refine lv_iadd hx hb d_M_writeBlock_48 ?_
        refine lv_topi (fun v7 hv7 => ?_)
        refine va_putN (D := D) (ci := 2) (v := .int v7) (ty := .int) (C := "SignMachine$Tape") (T := F_T) (N := 2) hx hb hk fi_T ft_T ft_T_ok fn_T hown hK.1 hP hD hS 4 rfl rfl 0 (by decide) (va_Nw.use rfl (hK.2 _ n_155)) (fun _ h9 => h9) rfl (by decide +kernel) rfl rfl (Nat.le_of_ble_eq_true rfl) d_M_writeBlock_49 (fun H locs hP hD hS => ?_)
        have hP : va_P D classes (wS58 cI cJ cZ cB p0 p1 p2 p3 p4 p5 x0_4 x0_5 x0_6 x0_7 x0_8 x0_9 x0_10 x0_11 x0_12 x0_13 y1 y2 x3_0 v7 y5) H := hP
        have hD : va_D A (wS58 cI cJ cZ cB p0 p1 p2 p3 p4 p5 x0_4 x0_5 x0_6 x0_7 x0_8 x0_9 x0_10 x0_11 x0_12 x0_13 y1 y2 x3_0 v7 y5) := hD
        exact W.vret hx hb hr (fun t ht hW => ⟨⟨(), rfl, trivial, ⟨p5, x0_9, v7, y5, by show va_P D classes _ t.heap; rw [ht]; exact hP, hD⟩⟩, hS.F ht⟩) hS.2.2 d_M_writeBlock_52
      · refine lv_aload_n hx hb d_M_writeBlock_17 rfl (lv_at hl 1 rfl) ?_
        refine lv_aload_n hx hb d_M_writeBlock_18 rfl (lv_at hl 1 rfl) ?_
        refine va_getN (D := D) (ci := 2) (v := .int x4_0) (C := "SignMachine$Tape") (T := F_T) (N := 2) hx hb hk fi_T hown hK.1 hP 4 rfl rfl 0 (by decide) (va_Nw.use rfl (hK.2 _ n_155)) (fun _ h9 => h9) rfl d_M_writeBlock_19 ?_
        refine lv_iload_n hx hb d_M_writeBlock_22 rfl (lv_at hl 0 rfl) ?_
        refine lv_aload_n hx hb d_M_writeBlock_23 rfl (lv_at hl 2 rfl) ?_
        refine lv_aload_n hx hb d_M_writeBlock_24 rfl (lv_at hl 2 rfl) ?_
        refine va_get (D := D) (ci := 1) (v := .int x0_12) (C := "SignMachine$Machine") (T := F_M) (N := 14) hx hb hk fi_M hown hK.1 hP 0 rfl rfl 12 (by decide) (hk _ k_179) (fun _ h9 => h9) rfl d_M_writeBlock_25 ?_
        refine lv_iload_n hx hb d_M_writeBlock_28 rfl (lv_at hl 0 rfl) ?_
        refine lv_iadd hx hb d_M_writeBlock_29 ?_
        refine lv_topi (fun v8 hv8 => ?_)
        refine sn_i (va_runV (C := "SignMachine$Machine") (As := [.int v8]) (rest := [.int l2, .int x4_0, .ref p4]) ⟨hx, hb, hml, hown, hk⟩ (c_M_wordAt_s3 l K D cI cJ cZ cB p0 p1 p2 p3 p4 p5 H.size x0_4 x0_5 x0_6 x0_7 x0_8 x0_9 x0_10 x0_11 x0_12 x0_13 y1 y2 x3_0 x4_0 y5  v8 ) (v_M_wordAt_s3 hk k_263 ⟨Nat.le_of_ble_eq_true rfl, Nat.le_of_ble_eq_true rfl⟩) (pMC_v hK hP hD hC hS hA (ci := 1) (q0 := 0) rfl rfl rfl) rfl rfl hl.1 rfl (lv_room (Nat.le_of_ble_eq_true rfl)) d_M_writeBlock_30 ⟨by decide, by decide⟩) hS hA hD (fun rz9 u t H locs hr0 ht hB hFr hS => ?_)
        have hrz9 := hr0
        obtain ⟨hP, hD⟩ := hB
        rw [ht] at hP
        have hD := dwk hD hFr
        clear ht hFr
        have hP : va_P D classes (wS58 cI cJ cZ cB p0 p1 p2 p3 p4 p5 x0_4 x0_5 x0_6 x0_7 x0_8 x0_9 x0_10 x0_11 x0_12 x0_13 y1 y2 x3_0 x4_0 y5) H := hP
        have hD : va_D A (wS58 cI cJ cZ cB p0 p1 p2 p3 p4 p5 x0_4 x0_5 x0_6 x0_7 x0_8 x0_9 x0_10 x0_11 x0_12 x0_13 y1 y2 x3_0 x4_0 y5) := hD
        refine kn_v (va_runV (C := "SignMachine$Tape") (As := [.int x4_0, .int l2, .int rz9]) (rest := []) ⟨hx, hb, hml, hown, hk⟩ (c_T_putWord_s4 l K D cI cJ cZ cB p0 p1 p2 p3 p4 p5 H.size x0_4 x0_5 x0_6 x0_7 x0_8 x0_9 x0_10 x0_11 x0_12 x0_13 y1 y2 x3_0 x4_0 y5  x4_0 l2 rz9 ) (v_T_putWord_s4 hk k_444 ⟨Nat.le_of_ble_eq_true rfl, Nat.le_of_ble_eq_true rfl⟩) (pMC_v hK hP hD hC hS hA (ci := 2) (q0 := 4) rfl rfl rfl) rfl rfl hl.1 rfl (lv_room (Nat.le_of_ble_eq_true rfl)) d_M_writeBlock_33 ⟨by decide, by decide⟩) hS hA hD (fun u t H locs ht hB hFr hS => ?_)
        obtain ⟨y5z10, hP, hD⟩ := hB
        rw [ht] at hP
        have hD := dwk hD hFr
        clear ht hFr
        have hP : va_P D classes (wS58 cI cJ cZ cB p0 p1 p2 p3 p4 p5 x0_4 x0_5 x0_6 x0_7 x0_8 x0_9 x0_10 x0_11 x0_12 x0_13 y1 y2 x3_0 x4_0 y5z10) H := hP
        have hD : va_D A (wS58 cI cJ cZ cB p0 p1 p2 p3 p4 p5 x0_4 x0_5 x0_6 x0_7 x0_8 x0_9 x0_10 x0_11 x0_12 x0_13 y1 y2 x3_0 x4_0 y5z10) := hD
        obtain ⟨v11, hv11⟩ : ∃ y : Int32, y = (l2 + (1 : Int32)) := ⟨_, rfl⟩
        refine lv_iinc (v := v11) (lv' := [(2, .int v11), (1, .ref p4), (0, .ref p0)]) hx hb d_M_writeBlock_36 hl (k := 0) rfl (by rw [hv11]; rfl) (by decide) rfl (fun ls hl => ?_)
        refine lv_goto (tgt := 11) hx hb d_M_writeBlock_39 (by decide) ?_
        exact ih v11 x0_9 x4_0 y5z10 H _ ls (lpu c6 hv11 hn11_58) (lpn hc11_58 c6 hv11) hP hD hS (lv_sub hl [0, 1, 2] rfl)
  exact LP11_58 _ (1 : Int32) (37 : Int32) x4_0 y5z5 H _ ls (Nat.lt_succ_self _) (by decide) hP hD hS hl
theorem v_M_writeBlock_s2 {R : Room} {s : State} {args : Array Value} {own : String} {index : Nat} (hk : ∀ w ∈ tb, w.before args s = true) (hl : Cond.methodLink own index y_M_writeBlock ∈ tb) (hR : 2 + 1 ≤ R.frames ∧ 8 + (3 + 11) + 44 ≤ R.locals) : CallW R s args own "SignMachine$Machine" index y_M_writeBlock b_M_writeBlock 3 none (.code y_M_writeBlock b_M_writeBlock 3 none :: tb) ({ frames := 2, cells := 1, slots := 4000, locals := 44 }) 1 4000 0 := mk_v 0 hk k_443 hl k_442 k_27 k_117 rfl rfl h_M_writeBlock hR
set_option maxHeartbeats 4000000 in
set_option maxRecDepth 100000 in
theorem c_M_performMiddle_s2 (l : Launch) (K : CK) (D : va_G) (cI cJ cZ cB : ClassId) (p0 p1 p2 p3 p4 : Nat) (sz : Nat) (x0_4 : Bool) (x0_5 : Int32) (x0_6 : Int32) (x0_7 : Int32) (x0_8 : Int32) (x0_10 : Int32) (x0_11 : Int32) (x0_12 : Int32) (x0_13 : Int32) (y1 : Nat → Int32) (y2 : Nat → Int32) (x3_0 : Int32) (x4_0 : Int32)   (hy1 : ¬ x0_10 = (0 : Int32)) : Met l y_M_performMiddle (.code y_M_performMiddle b_M_performMiddle 1 none :: tb) ({ frames := 3, cells := 1, slots := 4000, locals := 66 }) (pMC K D cI cJ cZ cB (wS51 cI cJ cZ cB p0 p1 p2 p3 p4 x0_4 x0_5 x0_6 x0_7 x0_8 (37 : Int32) x0_10 x0_11 x0_12 x0_13 y1 y2 x3_0 x4_0) sz [.ref p0]) (va_Qv (fun (_ : Unit) => True) (fun _ t => (∃ p5 : Nat, ∃ u_x0_9 : Int32, ∃ u_x4_0 : Int32, ∃ u_y5 : Nat → Int32, va_P D classes (wS58 cI cJ cZ cB p0 p1 p2 p3 p4 p5 x0_4 x0_5 x0_6 x0_7 x0_8 u_x0_9 x0_10 x0_11 x0_12 x0_13 y1 y2 x3_0 u_x4_0 u_y5) t.heap ∧ va_D (va_A (wS51 cI cJ cZ cB p0 p1 p2 p3 p4 x0_4 x0_5 x0_6 x0_7 x0_8 (37 : Int32) x0_10 x0_11 x0_12 x0_13 y1 y2 x3_0 x4_0) sz) (wS58 cI cJ cZ cB p0 p1 p2 p3 p4 p5 x0_4 x0_5 x0_6 x0_7 x0_8 u_x0_9 x0_10 x0_11 x0_12 x0_13 y1 y2 x3_0 u_x4_0 u_y5))) (va_A (wS51 cI cJ cZ cB p0 p1 p2 p3 p4 x0_4 x0_5 x0_6 x0_7 x0_8 (37 : Int32) x0_10 x0_11 x0_12 x0_13 y1 y2 x3_0 x4_0) sz)) 1 4000 (va_A (wS51 cI cJ cZ cB p0 p1 p2 p3 p4 x0_4 x0_5 x0_6 x0_7 x0_8 (37 : Int32) x0_10 x0_11 x0_12 x0_13 y1 y2 x3_0 x4_0) sz) := by
  refine Met.ofW (cc := b_M_performMiddle) (maxL := 1) (ret := none) (by decide) rfl ?_
  intro p e s m args below meth c s₁ B hml hv
  obtain ⟨rfl, hsz, hK, hP, hD0, hC⟩ := hv
  subst hsz
  have hD := hD0.self (sz := s.heap.size)
  generalize hAe : va_A (wS51 cI cJ cZ cB p0 p1 p2 p3 p4 x0_4 x0_5 x0_6 x0_7 x0_8 (37 : Int32) x0_10 x0_11 x0_12 x0_13 y1 y2 x3_0 x4_0) s.heap.size = A at hD hC ⊢
  have hA : ∀ q : Nat, s.heap.size ≤ q → A q := fun q h => by rw [← hAe]; exact Or.inr h
  clear hAe hD0
  have hS : va_S A s.heap s.heap [] := va_S.rf
  have hx := B.exec
  have hb := B.bytes
  have hr := B.returns
  have hts := atoms_spec (ws := .code y_M_performMiddle b_M_performMiddle 1 none :: tb) B.pre
  have hk : ∀ w ∈ tb, w.before [.ref p0].toArray s = true := fun w h => hts w (List.mem_cons_of_mem _ h)
  have hown : s.vm.findClass "SignMachine$Machine" = some m.cls := findClass_of_methodNamed B.named
  have hlocks := B.notSynchronized
  have hl := lv_entry ([.ref p0]) (n := 1) (Nat.le_of_ble_eq_true rfl)
  rw [lg_entry_eq]
  generalize (lg_sl ([.ref p0]) ++ List.replicate (1 - (lg_sl ([.ref p0])).length) Slot.unset).toArray = ls at hl ⊢
  have hl : lv_has ls 1 [(0, .ref p0)] := hl
  refine lv_aload_n hx hb d_M_performMiddle_0 rfl (lv_at hl 0 rfl) ?_
  refine va_get (D := D) (ci := 1) (v := .int (37 : Int32)) (C := "SignMachine$Machine") (T := F_M) (N := 14) hx hb hk fi_M hown hK.1 hP 0 rfl rfl 9 (by decide) (hk _ k_176) (fun _ h9 => h9) rfl d_M_performMiddle_1 ?_
  refine lv_tableIn (off := 83) (tgt := 87) hx hb d_M_performMiddle_4 (by decide) (by decide) rfl (by decide) ?_
  refine lv_aload_n hx hb d_M_performMiddle_87 rfl (lv_at hl 0 rfl) ?_
  refine kn_v (va_runV (C := "SignMachine$Machine") (As := []) (rest := []) ⟨hx, hb, hml, hown, hk⟩ (c_M_writeBlock_s2 l K D cI cJ cZ cB p0 p1 p2 p3 p4 s.heap.size x0_4 x0_5 x0_6 x0_7 x0_8 x0_10 x0_11 x0_12 x0_13 y1 y2 x3_0 x4_0   hy1) (v_M_writeBlock_s2 hk k_440 ⟨Nat.le_of_ble_eq_true rfl, Nat.le_of_ble_eq_true rfl⟩) (pMC_v hK hP hD hC hS hA (ci := 1) (q0 := 0) rfl rfl rfl) rfl rfl hl.1 rfl (lv_room (Nat.le_of_ble_eq_true rfl)) d_M_performMiddle_88 ⟨by decide, by decide⟩) hS hA hD (fun u t H locs ht hB hFr hS => ?_)
  obtain ⟨p5, x0_9z1, x4_0z1, y5z1, hP, hD⟩ := hB
  rw [ht] at hP
  have hD := dwk hD hFr
  clear ht hFr
  have hP : va_P D classes (wS58 cI cJ cZ cB p0 p1 p2 p3 p4 p5 x0_4 x0_5 x0_6 x0_7 x0_8 x0_9z1 x0_10 x0_11 x0_12 x0_13 y1 y2 x3_0 x4_0z1 y5z1) H := hP
  have hD : va_D A (wS58 cI cJ cZ cB p0 p1 p2 p3 p4 p5 x0_4 x0_5 x0_6 x0_7 x0_8 x0_9z1 x0_10 x0_11 x0_12 x0_13 y1 y2 x3_0 x4_0z1 y5z1) := hD
  refine W.widen (k := 1) (n := 4000) (by decide) (by decide) ?_
  refine lv_goto (tgt := 109) hx hb d_M_performMiddle_91 (by decide) ?_
  exact W.vret hx hb hr (fun t ht hW => ⟨⟨(), rfl, trivial, ⟨p5, x0_9z1, x4_0z1, y5z1, by show va_P D classes _ t.heap; rw [ht]; exact hP, hD⟩⟩, hS.F ht⟩) hS.2.2 d_M_performMiddle_109
theorem v_M_performMiddle_s2 {R : Room} {s : State} {args : Array Value} {own : String} {index : Nat} (hk : ∀ w ∈ tb, w.before args s = true) (hl : Cond.methodLink own index y_M_performMiddle ∈ tb) (hR : 3 + 1 ≤ R.frames ∧ 8 + (1 + 11) + 66 ≤ R.locals) : CallW R s args own "SignMachine$Machine" index y_M_performMiddle b_M_performMiddle 1 none (.code y_M_performMiddle b_M_performMiddle 1 none :: tb) ({ frames := 3, cells := 1, slots := 4000, locals := 66 }) 1 4000 0 := mk_v 0 hk k_424 hl k_423 k_24 k_117 rfl rfl h_M_performMiddle hR
set_option maxHeartbeats 4000000 in
set_option maxRecDepth 100000 in
theorem c_M_perform_s2 (l : Launch) (K : CK) (D : va_G) (cI cJ cZ cB : ClassId) (p0 p1 p2 p3 p4 : Nat) (sz : Nat) (x0_4 : Bool) (x0_5 : Int32) (x0_6 : Int32) (x0_7 : Int32) (x0_8 : Int32) (x0_10 : Int32) (x0_11 : Int32) (x0_12 : Int32) (x0_13 : Int32) (y1 : Nat → Int32) (y2 : Nat → Int32) (x3_0 : Int32) (x4_0 : Int32)   (hy1 : ¬ x0_10 = (0 : Int32)) : Met l y_M_perform (.code y_M_perform b_M_perform 1 none :: tb) ({ frames := 4, cells := 1, slots := 4000, locals := 86 }) (pMC K D cI cJ cZ cB (wS51 cI cJ cZ cB p0 p1 p2 p3 p4 x0_4 x0_5 x0_6 x0_7 x0_8 (37 : Int32) x0_10 x0_11 x0_12 x0_13 y1 y2 x3_0 x4_0) sz [.ref p0]) (va_Qv (fun (_ : Unit) => True) (fun _ t => (∃ p5 : Nat, ∃ u_x0_9 : Int32, ∃ u_x4_0 : Int32, ∃ u_y5 : Nat → Int32, va_P D classes (wS58 cI cJ cZ cB p0 p1 p2 p3 p4 p5 x0_4 x0_5 x0_6 x0_7 x0_8 u_x0_9 x0_10 x0_11 x0_12 x0_13 y1 y2 x3_0 u_x4_0 u_y5) t.heap ∧ va_D (va_A (wS51 cI cJ cZ cB p0 p1 p2 p3 p4 x0_4 x0_5 x0_6 x0_7 x0_8 (37 : Int32) x0_10 x0_11 x0_12 x0_13 y1 y2 x3_0 x4_0) sz) (wS58 cI cJ cZ cB p0 p1 p2 p3 p4 p5 x0_4 x0_5 x0_6 x0_7 x0_8 u_x0_9 x0_10 x0_11 x0_12 x0_13 y1 y2 x3_0 u_x4_0 u_y5))) (va_A (wS51 cI cJ cZ cB p0 p1 p2 p3 p4 x0_4 x0_5 x0_6 x0_7 x0_8 (37 : Int32) x0_10 x0_11 x0_12 x0_13 y1 y2 x3_0 x4_0) sz)) 1 4000 (va_A (wS51 cI cJ cZ cB p0 p1 p2 p3 p4 x0_4 x0_5 x0_6 x0_7 x0_8 (37 : Int32) x0_10 x0_11 x0_12 x0_13 y1 y2 x3_0 x4_0) sz) := by
  refine Met.ofW (cc := b_M_perform) (maxL := 1) (ret := none) (by decide) rfl ?_
  intro p e s m args below meth c s₁ B hml hv
  obtain ⟨rfl, hsz, hK, hP, hD0, hC⟩ := hv
  subst hsz
  have hD := hD0.self (sz := s.heap.size)
  generalize hAe : va_A (wS51 cI cJ cZ cB p0 p1 p2 p3 p4 x0_4 x0_5 x0_6 x0_7 x0_8 (37 : Int32) x0_10 x0_11 x0_12 x0_13 y1 y2 x3_0 x4_0) s.heap.size = A at hD hC ⊢
  have hA : ∀ q : Nat, s.heap.size ≤ q → A q := fun q h => by rw [← hAe]; exact Or.inr h
  clear hAe hD0
  have hS : va_S A s.heap s.heap [] := va_S.rf
  have hx := B.exec
  have hb := B.bytes
  have hr := B.returns
  have hts := atoms_spec (ws := .code y_M_perform b_M_perform 1 none :: tb) B.pre
  have hk : ∀ w ∈ tb, w.before [.ref p0].toArray s = true := fun w h => hts w (List.mem_cons_of_mem _ h)
  have hown : s.vm.findClass "SignMachine$Machine" = some m.cls := findClass_of_methodNamed B.named
  have hlocks := B.notSynchronized
  have hl := lv_entry ([.ref p0]) (n := 1) (Nat.le_of_ble_eq_true rfl)
  rw [lg_entry_eq]
  generalize (lg_sl ([.ref p0]) ++ List.replicate (1 - (lg_sl ([.ref p0])).length) Slot.unset).toArray = ls at hl ⊢
  have hl : lv_has ls 1 [(0, .ref p0)] := hl
  refine lv_aload_n hx hb d_M_perform_0 rfl (lv_at hl 0 rfl) ?_
  refine va_get (D := D) (ci := 1) (v := .int (37 : Int32)) (C := "SignMachine$Machine") (T := F_M) (N := 14) hx hb hk fi_M hown hK.1 hP 0 rfl rfl 9 (by decide) (hk _ k_176) (fun _ h9 => h9) rfl d_M_perform_1 ?_
  refine lv_iconst (v := 3) hx hb d_M_perform_4 (by decide) ?_
  refine lv_ishr hx hb d_M_perform_5 ?_
  refine tpi (y := (4 : Int32)) (by decide) ?_
  refine lv_tableIn (off := 106) (tgt := 112) hx hb d_M_perform_6 (by decide) (by decide) rfl (by decide) ?_
  refine lv_aload_n hx hb d_M_perform_112 rfl (lv_at hl 0 rfl) ?_
  refine kn_v (va_runV (C := "SignMachine$Machine") (As := []) (rest := []) ⟨hx, hb, hml, hown, hk⟩ (c_M_performMiddle_s2 l K D cI cJ cZ cB p0 p1 p2 p3 p4 s.heap.size x0_4 x0_5 x0_6 x0_7 x0_8 x0_10 x0_11 x0_12 x0_13 y1 y2 x3_0 x4_0   hy1) (v_M_performMiddle_s2 hk k_421 ⟨Nat.le_of_ble_eq_true rfl, Nat.le_of_ble_eq_true rfl⟩) (pMC_v hK hP hD hC hS hA (ci := 1) (q0 := 0) rfl rfl rfl) rfl rfl hl.1 rfl (lv_room (Nat.le_of_ble_eq_true rfl)) d_M_perform_113 ⟨by decide, by decide⟩) hS hA hD (fun u t H locs ht hB hFr hS => ?_)
  obtain ⟨p5, x0_9z1, x4_0z1, y5z1, hP, hD⟩ := hB
  rw [ht] at hP
  have hD := dwk hD hFr
  clear ht hFr
  have hP : va_P D classes (wS58 cI cJ cZ cB p0 p1 p2 p3 p4 p5 x0_4 x0_5 x0_6 x0_7 x0_8 x0_9z1 x0_10 x0_11 x0_12 x0_13 y1 y2 x3_0 x4_0z1 y5z1) H := hP
  have hD : va_D A (wS58 cI cJ cZ cB p0 p1 p2 p3 p4 p5 x0_4 x0_5 x0_6 x0_7 x0_8 x0_9z1 x0_10 x0_11 x0_12 x0_13 y1 y2 x3_0 x4_0z1 y5z1) := hD
  refine W.widen (k := 1) (n := 4000) (by decide) (by decide) ?_
  refine lv_goto (tgt := 173) hx hb d_M_perform_116 (by decide) ?_
  exact W.vret hx hb hr (fun t ht hW => ⟨⟨(), rfl, trivial, ⟨p5, x0_9z1, x4_0z1, y5z1, by show va_P D classes _ t.heap; rw [ht]; exact hP, hD⟩⟩, hS.F ht⟩) hS.2.2 d_M_perform_173
theorem v_M_perform_s2 {R : Room} {s : State} {args : Array Value} {own : String} {index : Nat} (hk : ∀ w ∈ tb, w.before args s = true) (hl : Cond.methodLink own index y_M_perform ∈ tb) (hR : 4 + 1 ≤ R.frames ∧ 8 + (1 + 11) + 86 ≤ R.locals) : CallW R s args own "SignMachine$Machine" index y_M_perform b_M_perform 1 none (.code y_M_perform b_M_perform 1 none :: tb) ({ frames := 4, cells := 1, slots := 4000, locals := 86 }) 1 4000 0 := mk_v 0 hk k_349 hl k_348 k_11 k_117 rfl rfl h_M_perform hR
set_option maxHeartbeats 4000000 in
set_option maxRecDepth 100000 in
theorem c_M_execute_s2 (l : Launch) (K : CK) (D : va_G) (cI cJ cZ cB : ClassId) (p0 p1 p2 p3 p4 : Nat) (sz : Nat) (x0_4 : Bool) (x0_5 : Int32) (x0_6 : Int32) (x0_7 : Int32) (x0_8 : Int32) (x0_9 : Int32) (x0_10 : Int32) (x0_11 : Int32) (x0_12 : Int32) (x0_13 : Int32) (y1 : Nat → Int32) (y2 : Nat → Int32) (x3_0 : Int32) (x4_0 : Int32)   (hy1 : ((f_W_size (f_mw y1 x0_7)) &&& (63 : Int32)) = (37 : Int32)) (hy2 : ¬ (((f_W_size (f_mw y1 x0_7)) >>> ((6 : Int32) &&& (31 : Int32))) &&& (63 : Int32)) = (0 : Int32)) : Met l y_M_execute (.code y_M_execute b_M_execute 2 (some .int) :: tb) ({ frames := 5, cells := 1, slots := 4000, locals := 106 }) (pMC K D cI cJ cZ cB (wS51 cI cJ cZ cB p0 p1 p2 p3 p4 x0_4 x0_5 x0_6 x0_7 x0_8 x0_9 x0_10 x0_11 x0_12 x0_13 y1 y2 x3_0 x4_0) sz [.ref p0]) (va_Qi (fun r (u : Int32) => r = u) (fun ur t => (¬ ur = (0 : Int32) ∧ ∃ u_x0_6 : Int32, ∃ u_x0_7 : Int32, ∃ u_x0_9 : Int32, ∃ u_x0_10 : Int32, ∃ u_x0_11 : Int32, ∃ u_x0_12 : Int32, ∃ u_x0_13 : Int32, ∃ u_x4_0 : Int32, va_P D classes (wS51 cI cJ cZ cB p0 p1 p2 p3 p4 x0_4 x0_5 u_x0_6 u_x0_7 x0_8 u_x0_9 u_x0_10 u_x0_11 u_x0_12 u_x0_13 y1 y2 x3_0 u_x4_0) t.heap ∧ va_D (va_A (wS51 cI cJ cZ cB p0 p1 p2 p3 p4 x0_4 x0_5 x0_6 x0_7 x0_8 x0_9 x0_10 x0_11 x0_12 x0_13 y1 y2 x3_0 x4_0) sz) (wS51 cI cJ cZ cB p0 p1 p2 p3 p4 x0_4 x0_5 u_x0_6 u_x0_7 x0_8 u_x0_9 u_x0_10 u_x0_11 u_x0_12 u_x0_13 y1 y2 x3_0 u_x4_0)) ∨ (∃ p5 : Nat, ∃ u_x0_6 : Int32, ∃ u_x0_7 : Int32, ∃ u_x0_9 : Int32, ∃ u_x0_10 : Int32, ∃ u_x0_11 : Int32, ∃ u_x0_12 : Int32, ∃ u_x0_13 : Int32, ∃ u_x4_0 : Int32, ∃ u_y5 : Nat → Int32, va_P D classes (wS58 cI cJ cZ cB p0 p1 p2 p3 p4 p5 x0_4 x0_5 u_x0_6 u_x0_7 x0_8 u_x0_9 u_x0_10 u_x0_11 u_x0_12 u_x0_13 y1 y2 x3_0 u_x4_0 u_y5) t.heap ∧ va_D (va_A (wS51 cI cJ cZ cB p0 p1 p2 p3 p4 x0_4 x0_5 x0_6 x0_7 x0_8 x0_9 x0_10 x0_11 x0_12 x0_13 y1 y2 x3_0 x4_0) sz) (wS58 cI cJ cZ cB p0 p1 p2 p3 p4 p5 x0_4 x0_5 u_x0_6 u_x0_7 x0_8 u_x0_9 u_x0_10 u_x0_11 u_x0_12 u_x0_13 y1 y2 x3_0 u_x4_0 u_y5))) (va_A (wS51 cI cJ cZ cB p0 p1 p2 p3 p4 x0_4 x0_5 x0_6 x0_7 x0_8 x0_9 x0_10 x0_11 x0_12 x0_13 y1 y2 x3_0 x4_0) sz)) 1 4000 (va_A (wS51 cI cJ cZ cB p0 p1 p2 p3 p4 x0_4 x0_5 x0_6 x0_7 x0_8 x0_9 x0_10 x0_11 x0_12 x0_13 y1 y2 x3_0 x4_0) sz) := by
  refine Met.ofW (cc := b_M_execute) (maxL := 2) (ret := (some .int)) (by decide) rfl ?_
  intro p e s m args below meth c s₁ B hml hv
  obtain ⟨rfl, hsz, hK, hP, hD0, hC⟩ := hv
  subst hsz
  have hD := hD0.self (sz := s.heap.size)
  generalize hAe : va_A (wS51 cI cJ cZ cB p0 p1 p2 p3 p4 x0_4 x0_5 x0_6 x0_7 x0_8 x0_9 x0_10 x0_11 x0_12 x0_13 y1 y2 x3_0 x4_0) s.heap.size = A at hD hC ⊢
  have hA : ∀ q : Nat, s.heap.size ≤ q → A q := fun q h => by rw [← hAe]; exact Or.inr h
  clear hAe hD0
  have hS : va_S A s.heap s.heap [] := va_S.rf
  have hx := B.exec
  have hb := B.bytes
  have hr := B.returns
  have hts := atoms_spec (ws := .code y_M_execute b_M_execute 2 (some .int) :: tb) B.pre
  have hk : ∀ w ∈ tb, w.before [.ref p0].toArray s = true := fun w h => hts w (List.mem_cons_of_mem _ h)
  have hown : s.vm.findClass "SignMachine$Machine" = some m.cls := findClass_of_methodNamed B.named
  have hlocks := B.notSynchronized
  have hl := lv_entry ([.ref p0]) (n := 2) (Nat.le_of_ble_eq_true rfl)
  rw [lg_entry_eq]
  generalize (lg_sl ([.ref p0]) ++ List.replicate (2 - (lg_sl ([.ref p0])).length) Slot.unset).toArray = ls at hl ⊢
  have hl : lv_has ls 2 [(0, .ref p0)] := hl
  refine lv_aload_n hx hb d_M_execute_0 rfl (lv_at hl 0 rfl) ?_
  refine va_get (D := D) (ci := 1) (v := .int x0_7) (C := "SignMachine$Machine") (T := F_M) (N := 14) hx hb hk fi_M hown hK.1 hP 0 rfl rfl 7 (by decide) (hk _ k_174) (fun _ h9 => h9) rfl d_M_execute_1 ?_
  refine cs_i (W.runS (As := [.int x0_7]) (rest := []) ⟨hx, hb, hml, hown, hk⟩ (c_M_isAddress l x0_7) (s_M_isAddress hk k_262 ⟨Nat.le_of_ble_eq_true rfl, Nat.le_of_ble_eq_true rfl⟩) ⟨fun a U g mk q => q, fun U hU hW => ⟨rfl, trivial⟩⟩ rfl rfl hl.1 rfl (lv_room (Nat.le_of_ble_eq_true rfl)) d_M_execute_4 ⟨Nat.le_of_ble_eq_true rfl, Nat.le_of_ble_eq_true rfl⟩) ?_
  obtain ⟨z1, hz1⟩ : ∃ y : Bool, y = (f_M_isAddress x0_7) := ⟨_, rfl⟩
  rw [← hz1]
  refine lv_if_ne (tgt := 12) hx hb d_M_execute_7 (by decide) (fun c2 => ?_) (fun c2 => ?_)
  · refine lv_aload_n hx hb d_M_execute_12 rfl (lv_at hl 0 rfl) ?_
    refine lv_aload_n hx hb d_M_execute_13 rfl (lv_at hl 0 rfl) ?_
    refine lv_aload_n hx hb d_M_execute_14 rfl (lv_at hl 0 rfl) ?_
    refine va_get (D := D) (ci := 1) (v := .int x0_7) (C := "SignMachine$Machine") (T := F_M) (N := 14) hx hb hk fi_M hown hK.1 hP 0 rfl rfl 7 (by decide) (hk _ k_174) (fun _ h9 => h9) rfl d_M_execute_15 ?_
    refine sn_i (va_runV (C := "SignMachine$Machine") (As := [.int x0_7]) (rest := [.ref p0]) ⟨hx, hb, hml, hown, hk⟩ (c_M_wordAt_s1 l K D cI cJ cZ cB p0 p1 p2 p3 p4 s.heap.size x0_4 x0_5 x0_6 x0_7 x0_8 x0_9 x0_10 x0_11 x0_12 x0_13 y1 y2 x3_0 x4_0  x0_7 ) (v_M_wordAt_s1 hk k_263 ⟨Nat.le_of_ble_eq_true rfl, Nat.le_of_ble_eq_true rfl⟩) (pMC_v hK hP hD hC hS hA (ci := 1) (q0 := 0) rfl rfl rfl) rfl rfl hl.1 rfl (lv_room (Nat.le_of_ble_eq_true rfl)) d_M_execute_18 ⟨by decide, by decide⟩) hS hA hD (fun rz3 u t H locs hr0 ht hB hFr hS => ?_)
    have hrz3 := hr0
    obtain ⟨hP, hD⟩ := hB
    rw [ht] at hP
    have hD := dwk hD hFr
    clear ht hFr
    have hP : va_P D classes (wS51 cI cJ cZ cB p0 p1 p2 p3 p4 x0_4 x0_5 x0_6 x0_7 x0_8 x0_9 x0_10 x0_11 x0_12 x0_13 y1 y2 x3_0 x4_0) H := hP
    have hD : va_D A (wS51 cI cJ cZ cB p0 p1 p2 p3 p4 x0_4 x0_5 x0_6 x0_7 x0_8 x0_9 x0_10 x0_11 x0_12 x0_13 y1 y2 x3_0 x4_0) := hD
    refine kn_v (va_runV (C := "SignMachine$Machine") (As := [.int rz3]) (rest := []) ⟨hx, hb, hml, hown, hk⟩ (c_M_decode_s1 l K D cI cJ cZ cB p0 p1 p2 p3 p4 H.size x0_4 x0_5 x0_6 x0_7 x0_8 x0_9 x0_10 x0_11 x0_12 x0_13 y1 y2 x3_0 x4_0  rz3 ) (v_M_decode_s1 hk k_264 ⟨Nat.le_of_ble_eq_true rfl, Nat.le_of_ble_eq_true rfl⟩) (pMC_v hK hP hD hC hS hA (ci := 1) (q0 := 0) rfl rfl rfl) rfl rfl hl.1 rfl (lv_room (Nat.le_of_ble_eq_true rfl)) d_M_execute_21 ⟨by decide, by decide⟩) hS hA hD (fun u t H locs ht hB hFr hS => ?_)
    obtain ⟨x0_9z4, x0_10z4, x0_11z4, x0_12z4, x0_13z4, ex0z4, ex1z4, hP, hD⟩ := hB
    rw [hrz3] at ex0z4 ex1z4
    have hc1 : x0_9z4 = (37 : Int32) := by rw [ex0z4]; exact hy1
    have hc2 : ¬ x0_10z4 = (0 : Int32) := by rw [ex1z4]; exact hy2
    subst hc1
    rw [ht] at hP
    have hD := dwk hD hFr
    clear ht hFr
    have hP : va_P D classes (wS51 cI cJ cZ cB p0 p1 p2 p3 p4 x0_4 x0_5 x0_6 x0_7 x0_8 (37 : Int32) x0_10z4 x0_11z4 x0_12z4 x0_13z4 y1 y2 x3_0 x4_0) H := hP
    have hD : va_D A (wS51 cI cJ cZ cB p0 p1 p2 p3 p4 x0_4 x0_5 x0_6 x0_7 x0_8 (37 : Int32) x0_10z4 x0_11z4 x0_12z4 x0_13z4 y1 y2 x3_0 x4_0) := hD
    refine lv_aload_n hx hb d_M_execute_24 rfl (lv_at hl 0 rfl) ?_
    refine sn_i (va_runV (C := "SignMachine$Machine") (As := []) (rest := []) ⟨hx, hb, hml, hown, hk⟩ (c_M_reasonAgainst_s1 l K D cI cJ cZ cB p0 p1 p2 p3 p4 H.size x0_4 x0_5 x0_6 x0_7 x0_8 (37 : Int32) x0_10z4 x0_11z4 x0_12z4 x0_13z4 y1 y2 x3_0 x4_0   ) (v_M_reasonAgainst_s1 hk k_280 ⟨Nat.le_of_ble_eq_true rfl, Nat.le_of_ble_eq_true rfl⟩) (pMC_v hK hP hD hC hS hA (ci := 1) (q0 := 0) rfl rfl rfl) rfl rfl hl.1 rfl (lv_room (Nat.le_of_ble_eq_true rfl)) d_M_execute_25 ⟨by decide, by decide⟩) hS hA hD (fun rz5 u t H locs hr0 ht hB hFr hS => ?_)
    obtain ⟨hP, hD⟩ := hB
    rw [ht] at hP
    have hD := dwk hD hFr
    clear ht hFr
    have hP : va_P D classes (wS51 cI cJ cZ cB p0 p1 p2 p3 p4 x0_4 x0_5 x0_6 x0_7 x0_8 (37 : Int32) x0_10z4 x0_11z4 x0_12z4 x0_13z4 y1 y2 x3_0 x4_0) H := hP
    have hD : va_D A (wS51 cI cJ cZ cB p0 p1 p2 p3 p4 x0_4 x0_5 x0_6 x0_7 x0_8 (37 : Int32) x0_10z4 x0_11z4 x0_12z4 x0_13z4 y1 y2 x3_0 x4_0) := hD
    refine lv_istore_n (lv' := [(1, .int rz5), (0, .ref p0)]) hx hb d_M_execute_28 rfl hl (by decide) rfl (fun ls hl => ?_)
    refine lv_iload_n hx hb d_M_execute_29 rfl (lv_at hl 0 rfl) ?_
    refine lv_if_eq (tgt := 35) hx hb d_M_execute_30 (by decide) (fun c6 => ?_) (fun c6 => ?_)
    · refine lv_aload_n hx hb d_M_execute_35 rfl (lv_at hl 1 rfl) ?_
      refine lv_aload_n hx hb d_M_execute_36 rfl (lv_at hl 1 rfl) ?_
      refine va_get (D := D) (ci := 1) (v := .int x0_6) (C := "SignMachine$Machine") (T := F_M) (N := 14) hx hb hk fi_M hown hK.1 hP 0 rfl rfl 6 (by decide) (hk _ k_172) (fun _ h9 => h9) rfl d_M_execute_37 ?_
      refine lv_aload_n hx hb d_M_execute_40 rfl (lv_at hl 1 rfl) ?_
      refine sn_i (va_runV (C := "SignMachine$Machine") (As := []) (rest := [.int x0_6, .ref p0]) ⟨hx, hb, hml, hown, hk⟩ (c_M_duration_s1 l K D cI cJ cZ cB p0 p1 p2 p3 p4 H.size x0_4 x0_5 x0_6 x0_7 x0_8 (37 : Int32) x0_10z4 x0_11z4 x0_12z4 x0_13z4 y1 y2 x3_0 x4_0   ) (v_M_duration_s1 hk k_341 ⟨Nat.le_of_ble_eq_true rfl, Nat.le_of_ble_eq_true rfl⟩) (pMC_v hK hP hD hC hS hA (ci := 1) (q0 := 0) rfl rfl rfl) rfl rfl hl.1 rfl (lv_room (Nat.le_of_ble_eq_true rfl)) d_M_execute_41 ⟨by decide, by decide⟩) hS hA hD (fun rz7 u t H locs hr0 ht hB hFr hS => ?_)
      obtain ⟨hP, hD⟩ := hB
      rw [ht] at hP
      have hD := dwk hD hFr
      clear ht hFr
      have hP : va_P D classes (wS51 cI cJ cZ cB p0 p1 p2 p3 p4 x0_4 x0_5 x0_6 x0_7 x0_8 (37 : Int32) x0_10z4 x0_11z4 x0_12z4 x0_13z4 y1 y2 x3_0 x4_0) H := hP
      have hD : va_D A (wS51 cI cJ cZ cB p0 p1 p2 p3 p4 x0_4 x0_5 x0_6 x0_7 x0_8 (37 : Int32) x0_10z4 x0_11z4 x0_12z4 x0_13z4 y1 y2 x3_0 x4_0) := hD
      refine lv_iadd hx hb d_M_execute_44 ?_
      refine lv_topi (fun v8 hv8 => ?_)
      refine lv_ldc (v := 1073741823) hx hb hown (hk _ k_345) d_M_execute_45 ?_
      refine lv_iand hx hb d_M_execute_47 ?_
      refine lv_topi (fun v9 hv9 => ?_)
      refine va_put (D := D) (ci := 1) (v := .int v9) (ty := .int) (C := "SignMachine$Machine") (T := F_M) (N := 14) hx hb hk fi_M ft_M ft_M_ok fn_M hown hK.1 hP hD hS 0 rfl rfl 6 (by decide) (hk _ k_172) (fun _ h9 => h9) rfl (by decide +kernel) rfl rfl (Nat.le_of_ble_eq_true rfl) d_M_execute_48 (fun H locs hP hD hS => ?_)
      have hP : va_P D classes (wS51 cI cJ cZ cB p0 p1 p2 p3 p4 x0_4 x0_5 v9 x0_7 x0_8 (37 : Int32) x0_10z4 x0_11z4 x0_12z4 x0_13z4 y1 y2 x3_0 x4_0) H := hP
      have hD : va_D A (wS51 cI cJ cZ cB p0 p1 p2 p3 p4 x0_4 x0_5 v9 x0_7 x0_8 (37 : Int32) x0_10z4 x0_11z4 x0_12z4 x0_13z4 y1 y2 x3_0 x4_0) := hD
      refine lv_aload_n hx hb d_M_execute_51 rfl (lv_at hl 1 rfl) ?_
      refine lv_dup hx hb d_M_execute_52 rfl ?_
      refine va_get (D := D) (ci := 1) (v := .int x0_7) (C := "SignMachine$Machine") (T := F_M) (N := 14) hx hb hk fi_M hown hK.1 hP 0 rfl rfl 7 (by decide) (hk _ k_174) (fun _ h9 => h9) rfl d_M_execute_53 ?_
      refine lv_iconst (v := 1) hx hb d_M_execute_56 (by decide) ?_
      refine lv_iadd hx hb d_M_execute_57 ?_
      refine lv_topi (fun v10 hv10 => ?_)
      refine va_put (D := D) (ci := 1) (v := .int v10) (ty := .int) (C := "SignMachine$Machine") (T := F_M) (N := 14) hx hb hk fi_M ft_M ft_M_ok fn_M hown hK.1 hP hD hS 0 rfl rfl 7 (by decide) (hk _ k_174) (fun _ h9 => h9) rfl (by decide +kernel) rfl rfl (Nat.le_of_ble_eq_true rfl) d_M_execute_58 (fun H locs hP hD hS => ?_)
      have hP : va_P D classes (wS51 cI cJ cZ cB p0 p1 p2 p3 p4 x0_4 x0_5 v9 v10 x0_8 (37 : Int32) x0_10z4 x0_11z4 x0_12z4 x0_13z4 y1 y2 x3_0 x4_0) H := hP
      have hD : va_D A (wS51 cI cJ cZ cB p0 p1 p2 p3 p4 x0_4 x0_5 v9 v10 x0_8 (37 : Int32) x0_10z4 x0_11z4 x0_12z4 x0_13z4 y1 y2 x3_0 x4_0) := hD
      refine lv_aload_n hx hb d_M_execute_61 rfl (lv_at hl 1 rfl) ?_
      refine kn_v (va_runV (C := "SignMachine$Machine") (As := []) (rest := []) ⟨hx, hb, hml, hown, hk⟩ (c_M_perform_s2 l K D cI cJ cZ cB p0 p1 p2 p3 p4 H.size x0_4 x0_5 v9 v10 x0_8 x0_10z4 x0_11z4 x0_12z4 x0_13z4 y1 y2 x3_0 x4_0   hc2) (v_M_perform_s2 hk k_346 ⟨Nat.le_of_ble_eq_true rfl, Nat.le_of_ble_eq_true rfl⟩) (pMC_v hK hP hD hC hS hA (ci := 1) (q0 := 0) rfl rfl rfl) rfl rfl hl.1 rfl (lv_room (Nat.le_of_ble_eq_true rfl)) d_M_execute_62 ⟨by decide, by decide⟩) hS hA hD (fun u t H locs ht hB hFr hS => ?_)
      obtain ⟨p5, x0_9z11, x4_0z11, y5z11, hP, hD⟩ := hB
      rw [ht] at hP
      have hD := dwk hD hFr
      clear ht hFr
      have hP : va_P D classes (wS58 cI cJ cZ cB p0 p1 p2 p3 p4 p5 x0_4 x0_5 v9 v10 x0_8 x0_9z11 x0_10z4 x0_11z4 x0_12z4 x0_13z4 y1 y2 x3_0 x4_0z11 y5z11) H := hP
      have hD : va_D A (wS58 cI cJ cZ cB p0 p1 p2 p3 p4 p5 x0_4 x0_5 v9 v10 x0_8 x0_9z11 x0_10z4 x0_11z4 x0_12z4 x0_13z4 y1 y2 x3_0 x4_0z11 y5z11) := hD
      refine W.widen (k := 1) (n := 4000) (by decide) (by decide) ?_
      refine lv_aload_n hx hb d_M_execute_65 rfl (lv_at hl 1 rfl) ?_
      refine va_get (D := D) (ci := 1) (v := .int x0_9z11) (C := "SignMachine$Machine") (T := F_M) (N := 14) hx hb hk fi_M hown hK.1 hP 0 rfl rfl 9 (by decide) (hk _ k_176) (fun _ h9 => h9) rfl d_M_execute_66 ?_
      refine lv_iconst (v := 5) hx hb d_M_execute_69 (by decide) ?_
      refine lv_icmp_ne (tgt := 85) hx hb d_M_execute_70 (by decide) (fun c12 => ?_) (fun c12 => ?_)
      · refine lv_iconst (v := 0) hx hb d_M_execute_85 (by decide) ?_
        exact W.iret (v := (0 : Int32)) hx hb hr (fun t ht hW => ⟨⟨(0 : Int32), (0 : Int32), rfl, rfl, Or.inr (⟨p5, v9, v10, x0_9z11, x0_10z4, x0_11z4, x0_12z4, x0_13z4, x4_0z11, y5z11, by show va_P D classes _ t.heap; rw [ht]; exact hP, hD⟩)⟩, hS.F ht⟩) hS.2.2 d_M_execute_86
      · refine lv_aload_n hx hb d_M_execute_73 rfl (lv_at hl 1 rfl) ?_
        refine va_get (D := D) (ci := 1) (v := .int x0_10z4) (C := "SignMachine$Machine") (T := F_M) (N := 14) hx hb hk fi_M hown hK.1 hP 0 rfl rfl 10 (by decide) (hk _ k_177) (fun _ h9 => h9) rfl d_M_execute_74 ?_
        refine lv_iconst (v := 2) hx hb d_M_execute_77 (by decide) ?_
        refine lv_icmp_ne (tgt := 85) hx hb d_M_execute_78 (by decide) (fun c13 => ?_) (fun c13 => ?_)
        · refine lv_iconst (v := 0) hx hb d_M_execute_85 (by decide) ?_
          exact W.iret (v := (0 : Int32)) hx hb hr (fun t ht hW => ⟨⟨(0 : Int32), (0 : Int32), rfl, rfl, Or.inr (⟨p5, v9, v10, x0_9z11, x0_10z4, x0_11z4, x0_12z4, x0_13z4, x4_0z11, y5z11, by show va_P D classes _ t.heap; rw [ht]; exact hP, hD⟩)⟩, hS.F ht⟩) hS.2.2 d_M_execute_86
        · refine lv_iconst (v := 1) hx hb d_M_execute_81 (by decide) ?_
          refine lv_goto (tgt := 86) hx hb d_M_execute_82 (by decide) ?_
          exact W.iret (v := (1 : Int32)) hx hb hr (fun t ht hW => ⟨⟨(1 : Int32), (1 : Int32), rfl, rfl, Or.inr (⟨p5, v9, v10, x0_9z11, x0_10z4, x0_11z4, x0_12z4, x0_13z4, x4_0z11, y5z11, by show va_P D classes _ t.heap; rw [ht]; exact hP, hD⟩)⟩, hS.F ht⟩) hS.2.2 d_M_execute_86
    · refine lv_iload_n hx hb d_M_execute_33 rfl (lv_at hl 0 rfl) ?_
      refine W.widen (k := 1) (n := 4000) (by decide) (by decide) ?_
      exact W.iret (v := rz5) hx hb hr (fun t ht hW => ⟨⟨rz5, rz5, rfl, rfl, Or.inl ⟨c6, x0_6, x0_7, (37 : Int32), x0_10z4, x0_11z4, x0_12z4, x0_13z4, x4_0, by show va_P D classes _ t.heap; rw [ht]; exact hP, hD⟩⟩, hS.F ht⟩) hS.2.2 d_M_execute_34
  · refine lv_iconst (v := 3) hx hb d_M_execute_10 (by decide) ?_
    refine W.widen (k := 1) (n := 4000) (by decide) (by decide) ?_
    exact W.iret (v := (3 : Int32)) hx hb hr (fun t ht hW => ⟨⟨(3 : Int32), (3 : Int32), rfl, rfl, Or.inl ⟨by decide, x0_6, x0_7, x0_9, x0_10, x0_11, x0_12, x0_13, x4_0, by show va_P D classes _ t.heap; rw [ht]; exact hP, hD⟩⟩, hS.F ht⟩) hS.2.2 d_M_execute_11
theorem v_M_execute_s2 {R : Room} {s : State} {args : Array Value} {own : String} {index : Nat} (hk : ∀ w ∈ tb, w.before args s = true) (hl : Cond.methodLink own index y_M_execute ∈ tb) (hR : 5 + 1 ≤ R.frames ∧ 8 + (2 + 11) + 106 ≤ R.locals) : CallW R s args own "SignMachine$Machine" index y_M_execute b_M_execute 2 (some .int) (.code y_M_execute b_M_execute 2 (some .int) :: tb) ({ frames := 5, cells := 1, slots := 4000, locals := 106 }) 1 4000 0 := mk_v 0 hk k_261 hl k_259 k_260 k_117 rfl rfl h_M_execute hR
set_option maxHeartbeats 4000000 in
set_option maxRecDepth 100000 in
theorem c_M_addTo_s1 (l : Launch) (K : CK) (D : va_G) (cI cJ cZ cB : ClassId) (p0 p1 p2 p3 p4 : Nat) (sz : Nat) (x0_4 : Bool) (x0_5 : Int32) (x0_6 : Int32) (x0_7 : Int32) (x0_8 : Int32) (x0_9 : Int32) (x0_10 : Int32) (x0_11 : Int32) (x0_12 : Int32) (x0_13 : Int32) (y1 : Nat → Int32) (y2 : Nat → Int32) (x3_0 : Int32) (x4_0 : Int32)  (a1 : Int32) (a2 : Int32) : Met l y_M_addTo (.code y_M_addTo b_M_addTo 5 none :: tb) ({ frames := 2, cells := 0, slots := 0, locals := 42 }) (pMC K D cI cJ cZ cB (wS51 cI cJ cZ cB p0 p1 p2 p3 p4 x0_4 x0_5 x0_6 x0_7 x0_8 x0_9 x0_10 x0_11 x0_12 x0_13 y1 y2 x3_0 x4_0) sz [.ref p0, .int a1, .int a2]) (va_Qv (fun (_ : Unit) => True) (fun _ t => (∃ u_x0_4 : Bool, ∃ u_y2 : Nat → Int32, va_P D classes (wS51 cI cJ cZ cB p0 p1 p2 p3 p4 u_x0_4 x0_5 x0_6 x0_7 x0_8 x0_9 x0_10 x0_11 x0_12 x0_13 y1 u_y2 x3_0 x4_0) t.heap ∧ va_D (va_A (wS51 cI cJ cZ cB p0 p1 p2 p3 p4 x0_4 x0_5 x0_6 x0_7 x0_8 x0_9 x0_10 x0_11 x0_12 x0_13 y1 y2 x3_0 x4_0) sz) (wS51 cI cJ cZ cB p0 p1 p2 p3 p4 u_x0_4 x0_5 x0_6 x0_7 x0_8 x0_9 x0_10 x0_11 x0_12 x0_13 y1 u_y2 x3_0 x4_0))) (va_A (wS51 cI cJ cZ cB p0 p1 p2 p3 p4 x0_4 x0_5 x0_6 x0_7 x0_8 x0_9 x0_10 x0_11 x0_12 x0_13 y1 y2 x3_0 x4_0) sz)) 0 0 (va_A (wS51 cI cJ cZ cB p0 p1 p2 p3 p4 x0_4 x0_5 x0_6 x0_7 x0_8 x0_9 x0_10 x0_11 x0_12 x0_13 y1 y2 x3_0 x4_0) sz) := by
  refine Met.ofW (cc := b_M_addTo) (maxL := 5) (ret := none) (by decide) rfl ?_
  intro p e s m args below meth c s₁ B hml hv
  obtain ⟨rfl, hsz, hK, hP, hD0, hC⟩ := hv
  subst hsz
  have hD := hD0.self (sz := s.heap.size)
  generalize hAe : va_A (wS51 cI cJ cZ cB p0 p1 p2 p3 p4 x0_4 x0_5 x0_6 x0_7 x0_8 x0_9 x0_10 x0_11 x0_12 x0_13 y1 y2 x3_0 x4_0) s.heap.size = A at hD hC ⊢
  have hA : ∀ q : Nat, s.heap.size ≤ q → A q := fun q h => by rw [← hAe]; exact Or.inr h
  clear hAe hD0
  have hS : va_S A s.heap s.heap [] := va_S.rf
  have hx := B.exec
  have hb := B.bytes
  have hr := B.returns
  have hts := atoms_spec (ws := .code y_M_addTo b_M_addTo 5 none :: tb) B.pre
  have hk : ∀ w ∈ tb, w.before [.ref p0, .int a1, .int a2].toArray s = true := fun w h => hts w (List.mem_cons_of_mem _ h)
  have hown : s.vm.findClass "SignMachine$Machine" = some m.cls := findClass_of_methodNamed B.named
  have hlocks := B.notSynchronized
  have hl := lv_entry ([.ref p0, .int a1, .int a2]) (n := 5) (Nat.le_of_ble_eq_true rfl)
  rw [lg_entry_eq]
  generalize (lg_sl ([.ref p0, .int a1, .int a2]) ++ List.replicate (5 - (lg_sl ([.ref p0, .int a1, .int a2])).length) Slot.unset).toArray = ls at hl ⊢
  have hl : lv_has ls 5 [(0, .ref p0), (1, .int a1), (2, .int a2)] := hl
  refine lv_aload_n hx hb d_M_addTo_0 rfl (lv_at hl 0 rfl) ?_
  refine lv_iload_n hx hb d_M_addTo_1 rfl (lv_at hl 1 rfl) ?_
  refine sn_i (va_runV (C := "SignMachine$Machine") (As := [.int a1]) (rest := []) ⟨hx, hb, hml, hown, hk⟩ (c_M_register_s1 l K D cI cJ cZ cB p0 p1 p2 p3 p4 s.heap.size x0_4 x0_5 x0_6 x0_7 x0_8 x0_9 x0_10 x0_11 x0_12 x0_13 y1 y2 x3_0 x4_0  a1 ) (v_M_register_s1 hk k_273 ⟨Nat.le_of_ble_eq_true rfl, Nat.le_of_ble_eq_true rfl⟩) (pMC_v hK hP hD hC hS hA (ci := 1) (q0 := 0) rfl rfl rfl) rfl rfl hl.1 rfl (lv_room (Nat.le_of_ble_eq_true rfl)) d_M_addTo_2 ⟨by decide, by decide⟩) hS hA hD (fun rz1 u t H locs hr0 ht hB hFr hS => ?_)
  obtain ⟨hP, hD⟩ := hB
  rw [ht] at hP
  have hD := dwk hD hFr
  clear ht hFr
  have hP : va_P D classes (wS51 cI cJ cZ cB p0 p1 p2 p3 p4 x0_4 x0_5 x0_6 x0_7 x0_8 x0_9 x0_10 x0_11 x0_12 x0_13 y1 y2 x3_0 x4_0) H := hP
  have hD : va_D A (wS51 cI cJ cZ cB p0 p1 p2 p3 p4 x0_4 x0_5 x0_6 x0_7 x0_8 x0_9 x0_10 x0_11 x0_12 x0_13 y1 y2 x3_0 x4_0) := hD
  refine lv_istore_n (lv' := [(3, .int rz1), (0, .ref p0), (1, .int a1), (2, .int a2)]) hx hb d_M_addTo_5 rfl hl (by decide) rfl (fun ls hl => ?_)
  refine lv_iload_n hx hb d_M_addTo_6 rfl (lv_at hl 0 rfl) ?_
  refine cs_i (W.runS (As := [.int rz1]) (rest := []) ⟨hx, hb, hml, hown, hk⟩ (c_W_number l rz1) (s_W_number hk k_277 ⟨Nat.le_of_ble_eq_true rfl, Nat.le_of_ble_eq_true rfl⟩) ⟨fun a U g mk q => q, fun U hU hW => ⟨rfl, trivial⟩⟩ rfl rfl hl.1 rfl (lv_room (Nat.le_of_ble_eq_true rfl)) d_M_addTo_7 ⟨Nat.le_of_ble_eq_true rfl, Nat.le_of_ble_eq_true rfl⟩) ?_
  refine lv_topi (fun v2 hv2 => ?_)
  refine lv_iload_n hx hb d_M_addTo_10 rfl (lv_at hl 3 rfl) ?_
  refine lv_iadd hx hb d_M_addTo_11 ?_
  refine lv_topi (fun v3 hv3 => ?_)
  refine lv_istore (lv' := [(4, .int v3), (3, .int rz1), (0, .ref p0), (1, .int a1), (2, .int a2)]) hx hb d_M_addTo_12 hl (by decide) rfl (fun ls hl => ?_)
  refine lv_iload hx hb d_M_addTo_14 (lv_at hl 0 rfl) ?_
  refine va_mabs hx hb (hml.trans hl.1.symm) hown (hk _ k_330) (hk _ k_331) (hk _ k_121) (hk _ k_absc) (Nat.le_of_ble_eq_true rfl) (Nat.le_of_ble_eq_true rfl) (Nat.zero_le _) (Nat.zero_le _) d_M_addTo_16 ?_
  refine lv_topi (fun v4 hv4 => ?_)
  refine lv_ldc (v := 1073741823) hx hb hown (hk _ k_345) d_M_addTo_19 ?_
  refine lv_icmp_le (tgt := 49) hx hb d_M_addTo_21 (by decide) (fun c5 => ?_) (fun c5 => ?_)
  · refine lv_aload_n hx hb d_M_addTo_49 rfl (lv_at hl 2 rfl) ?_
    refine lv_iload_n hx hb d_M_addTo_50 rfl (lv_at hl 3 rfl) ?_
    refine lv_iload hx hb d_M_addTo_51 (lv_at hl 0 rfl) ?_
    refine lv_iload_n hx hb d_M_addTo_53 rfl (lv_at hl 1 rfl) ?_
    refine cs_i (W.runS (As := [.int rz1]) (rest := [.int v3, .int a1, .ref p0]) ⟨hx, hb, hml, hown, hk⟩ (c_W_sign l rz1) (s_W_sign hk k_269 ⟨Nat.le_of_ble_eq_true rfl, Nat.le_of_ble_eq_true rfl⟩) ⟨fun a U g mk q => q, fun U hU hW => ⟨rfl, trivial⟩⟩ rfl rfl hl.1 rfl (lv_room (Nat.le_of_ble_eq_true rfl)) d_M_addTo_54 ⟨Nat.le_of_ble_eq_true rfl, Nat.le_of_ble_eq_true rfl⟩) ?_
    refine lv_topi (fun v6 hv6 => ?_)
    refine cs_i (W.runS (As := [.int v3, .int v6]) (rest := [.int a1, .ref p0]) ⟨hx, hb, hml, hown, hk⟩ (c_W_of l v3 v6) (s_W_of hk k_359 ⟨Nat.le_of_ble_eq_true rfl, Nat.le_of_ble_eq_true rfl⟩) ⟨fun a U g mk q => q, fun U hU hW => ⟨rfl, trivial⟩⟩ rfl rfl hl.1 rfl (lv_room (Nat.le_of_ble_eq_true rfl)) d_M_addTo_57 ⟨Nat.le_of_ble_eq_true rfl, Nat.le_of_ble_eq_true rfl⟩) ?_
    refine lv_topi (fun v7 hv7 => ?_)
    refine kn_v (va_runV (C := "SignMachine$Machine") (As := [.int a1, .int v7]) (rest := []) ⟨hx, hb, hml, hown, hk⟩ (c_M_putRegister_s1 l K D cI cJ cZ cB p0 p1 p2 p3 p4 H.size x0_4 x0_5 x0_6 x0_7 x0_8 x0_9 x0_10 x0_11 x0_12 x0_13 y1 y2 x3_0 x4_0  a1 v7 ) (v_M_putRegister_s1 hk k_362 ⟨Nat.le_of_ble_eq_true rfl, Nat.le_of_ble_eq_true rfl⟩) (pMC_v hK hP hD hC hS hA (ci := 1) (q0 := 0) rfl rfl rfl) rfl rfl hl.1 rfl (lv_room (Nat.le_of_ble_eq_true rfl)) d_M_addTo_60 ⟨by decide, by decide⟩) hS hA hD (fun u t H locs ht hB hFr hS => ?_)
    obtain ⟨y2z8, hP, hD⟩ := hB
    rw [ht] at hP
    have hD := dwk hD hFr
    clear ht hFr
    have hP : va_P D classes (wS51 cI cJ cZ cB p0 p1 p2 p3 p4 x0_4 x0_5 x0_6 x0_7 x0_8 x0_9 x0_10 x0_11 x0_12 x0_13 y1 y2z8 x3_0 x4_0) H := hP
    have hD : va_D A (wS51 cI cJ cZ cB p0 p1 p2 p3 p4 x0_4 x0_5 x0_6 x0_7 x0_8 x0_9 x0_10 x0_11 x0_12 x0_13 y1 y2z8 x3_0 x4_0) := hD
    exact W.vret hx hb hr (fun t ht hW => ⟨⟨(), rfl, trivial, ⟨x0_4, y2z8, by show va_P D classes _ t.heap; rw [ht]; exact hP, hD⟩⟩, hS.F ht⟩) hS.2.2 d_M_addTo_63
  · refine lv_aload_n hx hb d_M_addTo_24 rfl (lv_at hl 2 rfl) ?_
    refine lv_iconst (v := 1) hx hb d_M_addTo_25 (by decide) ?_
    refine va_put (D := D) (ci := 1) (v := .int (1 : Int32)) (ty := .boolean) (C := "SignMachine$Machine") (T := F_M) (N := 14) hx hb hk fi_M ft_M ft_M_ok fn_M hown hK.1 hP hD hS 0 rfl rfl 4 (by decide) (hk _ k_168) (fun _ h9 => h9) rfl (by decide +kernel) rfl rfl (Nat.le_of_ble_eq_true rfl) d_M_addTo_26 (fun H locs hP hD hS => ?_)
    have hP : va_P D classes (wS51 cI cJ cZ cB p0 p1 p2 p3 p4 true x0_5 x0_6 x0_7 x0_8 x0_9 x0_10 x0_11 x0_12 x0_13 y1 y2 x3_0 x4_0) H := hP
    have hD : va_D A (wS51 cI cJ cZ cB p0 p1 p2 p3 p4 true x0_5 x0_6 x0_7 x0_8 x0_9 x0_10 x0_11 x0_12 x0_13 y1 y2 x3_0 x4_0) := hD
    refine lv_iload hx hb d_M_addTo_29 (lv_at hl 0 rfl) ?_
    refine lv_if_le (tgt := 42) hx hb d_M_addTo_31 (by decide) (fun c9 => ?_) (fun c9 => ?_)
    · refine lv_iload hx hb d_M_addTo_42 (lv_at hl 0 rfl) ?_
      refine lv_ldc (v := 1073741824) hx hb hown (hk _ k_358) d_M_addTo_44 ?_
      refine lv_iadd hx hb d_M_addTo_46 ?_
      refine lv_topi (fun v10 hv10 => ?_)
      refine lv_istore (lv' := [(4, .int v10), (3, .int rz1), (0, .ref p0), (1, .int a1), (2, .int a2)]) hx hb d_M_addTo_47 hl (by decide) rfl (fun ls hl => ?_)
      refine lv_aload_n hx hb d_M_addTo_49 rfl (lv_at hl 2 rfl) ?_
      refine lv_iload_n hx hb d_M_addTo_50 rfl (lv_at hl 3 rfl) ?_
      refine lv_iload hx hb d_M_addTo_51 (lv_at hl 0 rfl) ?_
      refine lv_iload_n hx hb d_M_addTo_53 rfl (lv_at hl 1 rfl) ?_
      refine cs_i (W.runS (As := [.int rz1]) (rest := [.int v10, .int a1, .ref p0]) ⟨hx, hb, hml, hown, hk⟩ (c_W_sign l rz1) (s_W_sign hk k_269 ⟨Nat.le_of_ble_eq_true rfl, Nat.le_of_ble_eq_true rfl⟩) ⟨fun a U g mk q => q, fun U hU hW => ⟨rfl, trivial⟩⟩ rfl rfl hl.1 rfl (lv_room (Nat.le_of_ble_eq_true rfl)) d_M_addTo_54 ⟨Nat.le_of_ble_eq_true rfl, Nat.le_of_ble_eq_true rfl⟩) ?_
      refine lv_topi (fun v11 hv11 => ?_)
      refine cs_i (W.runS (As := [.int v10, .int v11]) (rest := [.int a1, .ref p0]) ⟨hx, hb, hml, hown, hk⟩ (c_W_of l v10 v11) (s_W_of hk k_359 ⟨Nat.le_of_ble_eq_true rfl, Nat.le_of_ble_eq_true rfl⟩) ⟨fun a U g mk q => q, fun U hU hW => ⟨rfl, trivial⟩⟩ rfl rfl hl.1 rfl (lv_room (Nat.le_of_ble_eq_true rfl)) d_M_addTo_57 ⟨Nat.le_of_ble_eq_true rfl, Nat.le_of_ble_eq_true rfl⟩) ?_
      refine lv_topi (fun v12 hv12 => ?_)
      refine kn_v (va_runV (C := "SignMachine$Machine") (As := [.int a1, .int v12]) (rest := []) ⟨hx, hb, hml, hown, hk⟩ (c_M_putRegister_s1 l K D cI cJ cZ cB p0 p1 p2 p3 p4 H.size true x0_5 x0_6 x0_7 x0_8 x0_9 x0_10 x0_11 x0_12 x0_13 y1 y2 x3_0 x4_0  a1 v12 ) (v_M_putRegister_s1 hk k_362 ⟨Nat.le_of_ble_eq_true rfl, Nat.le_of_ble_eq_true rfl⟩) (pMC_v hK hP hD hC hS hA (ci := 1) (q0 := 0) rfl rfl rfl) rfl rfl hl.1 rfl (lv_room (Nat.le_of_ble_eq_true rfl)) d_M_addTo_60 ⟨by decide, by decide⟩) hS hA hD (fun u t H locs ht hB hFr hS => ?_)
      obtain ⟨y2z13, hP, hD⟩ := hB
      rw [ht] at hP
      have hD := dwk hD hFr
      clear ht hFr
      have hP : va_P D classes (wS51 cI cJ cZ cB p0 p1 p2 p3 p4 true x0_5 x0_6 x0_7 x0_8 x0_9 x0_10 x0_11 x0_12 x0_13 y1 y2z13 x3_0 x4_0) H := hP
      have hD : va_D A (wS51 cI cJ cZ cB p0 p1 p2 p3 p4 true x0_5 x0_6 x0_7 x0_8 x0_9 x0_10 x0_11 x0_12 x0_13 y1 y2z13 x3_0 x4_0) := hD
      exact W.vret hx hb hr (fun t ht hW => ⟨⟨(), rfl, trivial, ⟨true, y2z13, by show va_P D classes _ t.heap; rw [ht]; exact hP, hD⟩⟩, hS.F ht⟩) hS.2.2 d_M_addTo_63
    · refine lv_iload hx hb d_M_addTo_34 (lv_at hl 0 rfl) ?_
      refine lv_ldc (v := 1073741824) hx hb hown (hk _ k_358) d_M_addTo_36 ?_
      refine lv_isub hx hb d_M_addTo_38 ?_
      refine lv_topi (fun v14 hv14 => ?_)
      refine lv_goto (tgt := 47) hx hb d_M_addTo_39 (by decide) ?_
      refine lv_istore (lv' := [(4, .int v14), (3, .int rz1), (0, .ref p0), (1, .int a1), (2, .int a2)]) hx hb d_M_addTo_47 hl (by decide) rfl (fun ls hl => ?_)
      refine lv_aload_n hx hb d_M_addTo_49 rfl (lv_at hl 2 rfl) ?_
      refine lv_iload_n hx hb d_M_addTo_50 rfl (lv_at hl 3 rfl) ?_
      refine lv_iload hx hb d_M_addTo_51 (lv_at hl 0 rfl) ?_
      refine lv_iload_n hx hb d_M_addTo_53 rfl (lv_at hl 1 rfl) ?_
      refine cs_i (W.runS (As := [.int rz1]) (rest := [.int v14, .int a1, .ref p0]) ⟨hx, hb, hml, hown, hk⟩ (c_W_sign l rz1) (s_W_sign hk k_269 ⟨Nat.le_of_ble_eq_true rfl, Nat.le_of_ble_eq_true rfl⟩) ⟨fun a U g mk q => q, fun U hU hW => ⟨rfl, trivial⟩⟩ rfl rfl hl.1 rfl (lv_room (Nat.le_of_ble_eq_true rfl)) d_M_addTo_54 ⟨Nat.le_of_ble_eq_true rfl, Nat.le_of_ble_eq_true rfl⟩) ?_
      refine lv_topi (fun v15 hv15 => ?_)
      refine cs_i (W.runS (As := [.int v14, .int v15]) (rest := [.int a1, .ref p0]) ⟨hx, hb, hml, hown, hk⟩ (c_W_of l v14 v15) (s_W_of hk k_359 ⟨Nat.le_of_ble_eq_true rfl, Nat.le_of_ble_eq_true rfl⟩) ⟨fun a U g mk q => q, fun U hU hW => ⟨rfl, trivial⟩⟩ rfl rfl hl.1 rfl (lv_room (Nat.le_of_ble_eq_true rfl)) d_M_addTo_57 ⟨Nat.le_of_ble_eq_true rfl, Nat.le_of_ble_eq_true rfl⟩) ?_
      refine lv_topi (fun v16 hv16 => ?_)
      refine kn_v (va_runV (C := "SignMachine$Machine") (As := [.int a1, .int v16]) (rest := []) ⟨hx, hb, hml, hown, hk⟩ (c_M_putRegister_s1 l K D cI cJ cZ cB p0 p1 p2 p3 p4 H.size true x0_5 x0_6 x0_7 x0_8 x0_9 x0_10 x0_11 x0_12 x0_13 y1 y2 x3_0 x4_0  a1 v16 ) (v_M_putRegister_s1 hk k_362 ⟨Nat.le_of_ble_eq_true rfl, Nat.le_of_ble_eq_true rfl⟩) (pMC_v hK hP hD hC hS hA (ci := 1) (q0 := 0) rfl rfl rfl) rfl rfl hl.1 rfl (lv_room (Nat.le_of_ble_eq_true rfl)) d_M_addTo_60 ⟨by decide, by decide⟩) hS hA hD (fun u t H locs ht hB hFr hS => ?_)
      obtain ⟨y2z17, hP, hD⟩ := hB
      rw [ht] at hP
      have hD := dwk hD hFr
      clear ht hFr
      have hP : va_P D classes (wS51 cI cJ cZ cB p0 p1 p2 p3 p4 true x0_5 x0_6 x0_7 x0_8 x0_9 x0_10 x0_11 x0_12 x0_13 y1 y2z17 x3_0 x4_0) H := hP
      have hD : va_D A (wS51 cI cJ cZ cB p0 p1 p2 p3 p4 true x0_5 x0_6 x0_7 x0_8 x0_9 x0_10 x0_11 x0_12 x0_13 y1 y2z17 x3_0 x4_0) := hD
      exact W.vret hx hb hr (fun t ht hW => ⟨⟨(), rfl, trivial, ⟨true, y2z17, by show va_P D classes _ t.heap; rw [ht]; exact hP, hD⟩⟩, hS.F ht⟩) hS.2.2 d_M_addTo_63
theorem v_M_addTo_s1 {R : Room} {s : State} {args : Array Value} {own : String} {index : Nat} (hk : ∀ w ∈ tb, w.before args s = true) (hl : Cond.methodLink own index y_M_addTo ∈ tb) (hR : 2 + 1 ≤ R.frames ∧ 8 + (5 + 11) + 42 ≤ R.locals) : CallW R s args own "SignMachine$Machine" index y_M_addTo b_M_addTo 5 none (.code y_M_addTo b_M_addTo 5 none :: tb) ({ frames := 2, cells := 0, slots := 0, locals := 42 }) 0 0 2 := mk_v 2 hk k_357 hl k_356 k_13 k_117 rfl rfl h_M_addTo hR
set_option maxHeartbeats 4000000 in
set_option maxRecDepth 100000 in
theorem c_M_multiply_s1 (l : Launch) (K : CK) (D : va_G) (cI cJ cZ cB : ClassId) (p0 p1 p2 p3 p4 : Nat) (sz : Nat) (x0_4 : Bool) (x0_5 : Int32) (x0_6 : Int32) (x0_7 : Int32) (x0_8 : Int32) (x0_9 : Int32) (x0_10 : Int32) (x0_11 : Int32) (x0_12 : Int32) (x0_13 : Int32) (y1 : Nat → Int32) (y2 : Nat → Int32) (x3_0 : Int32) (x4_0 : Int32)  (a1 : Int32) : Met l y_M_multiply (.code y_M_multiply b_M_multiply 6 none :: tb) ({ frames := 1, cells := 0, slots := 0, locals := 22 }) (pMC K D cI cJ cZ cB (wS51 cI cJ cZ cB p0 p1 p2 p3 p4 x0_4 x0_5 x0_6 x0_7 x0_8 x0_9 x0_10 x0_11 x0_12 x0_13 y1 y2 x3_0 x4_0) sz [.ref p0, .int a1]) (va_Qv (fun (_ : Unit) => True) (fun _ t => (∃ u_y2 : Nat → Int32, va_P D classes (wS51 cI cJ cZ cB p0 p1 p2 p3 p4 x0_4 x0_5 x0_6 x0_7 x0_8 x0_9 x0_10 x0_11 x0_12 x0_13 y1 u_y2 x3_0 x4_0) t.heap ∧ va_D (va_A (wS51 cI cJ cZ cB p0 p1 p2 p3 p4 x0_4 x0_5 x0_6 x0_7 x0_8 x0_9 x0_10 x0_11 x0_12 x0_13 y1 y2 x3_0 x4_0) sz) (wS51 cI cJ cZ cB p0 p1 p2 p3 p4 x0_4 x0_5 x0_6 x0_7 x0_8 x0_9 x0_10 x0_11 x0_12 x0_13 y1 u_y2 x3_0 x4_0))) (va_A (wS51 cI cJ cZ cB p0 p1 p2 p3 p4 x0_4 x0_5 x0_6 x0_7 x0_8 x0_9 x0_10 x0_11 x0_12 x0_13 y1 y2 x3_0 x4_0) sz)) 0 0 (va_A (wS51 cI cJ cZ cB p0 p1 p2 p3 p4 x0_4 x0_5 x0_6 x0_7 x0_8 x0_9 x0_10 x0_11 x0_12 x0_13 y1 y2 x3_0 x4_0) sz) := by
  refine Met.ofW (cc := b_M_multiply) (maxL := 6) (ret := none) (by decide) rfl ?_
  intro p e s m args below meth c s₁ B hml hv
  obtain ⟨rfl, hsz, hK, hP, hD0, hC⟩ := hv
  subst hsz
  have hD := hD0.self (sz := s.heap.size)
  generalize hAe : va_A (wS51 cI cJ cZ cB p0 p1 p2 p3 p4 x0_4 x0_5 x0_6 x0_7 x0_8 x0_9 x0_10 x0_11 x0_12 x0_13 y1 y2 x3_0 x4_0) s.heap.size = A at hD hC ⊢
  have hA : ∀ q : Nat, s.heap.size ≤ q → A q := fun q h => by rw [← hAe]; exact Or.inr h
  clear hAe hD0
  have hS : va_S A s.heap s.heap [] := va_S.rf
  have hx := B.exec
  have hb := B.bytes
  have hr := B.returns
  have hts := atoms_spec (ws := .code y_M_multiply b_M_multiply 6 none :: tb) B.pre
  have hk : ∀ w ∈ tb, w.before [.ref p0, .int a1].toArray s = true := fun w h => hts w (List.mem_cons_of_mem _ h)
  have hown : s.vm.findClass "SignMachine$Machine" = some m.cls := findClass_of_methodNamed B.named
  have hlocks := B.notSynchronized
  have hl := lv_entry ([.ref p0, .int a1]) (n := 6) (Nat.le_of_ble_eq_true rfl)
  rw [lg_entry_eq]
  generalize (lg_sl ([.ref p0, .int a1]) ++ List.replicate (6 - (lg_sl ([.ref p0, .int a1])).length) Slot.unset).toArray = ls at hl ⊢
  have hl : lv_has ls 6 [(0, .ref p0), (1, .int a1)] := hl
  refine lv_aload_n hx hb d_M_multiply_0 rfl (lv_at hl 0 rfl) ?_
  refine lv_iconst (v := 0) hx hb d_M_multiply_1 (by decide) ?_
  refine sn_i (va_runV (C := "SignMachine$Machine") (As := [.int (0 : Int32)]) (rest := []) ⟨hx, hb, hml, hown, hk⟩ (c_M_register_s1 l K D cI cJ cZ cB p0 p1 p2 p3 p4 s.heap.size x0_4 x0_5 x0_6 x0_7 x0_8 x0_9 x0_10 x0_11 x0_12 x0_13 y1 y2 x3_0 x4_0  (0 : Int32) ) (v_M_register_s1 hk k_273 ⟨Nat.le_of_ble_eq_true rfl, Nat.le_of_ble_eq_true rfl⟩) (pMC_v hK hP hD hC hS hA (ci := 1) (q0 := 0) rfl rfl rfl) rfl rfl hl.1 rfl (lv_room (Nat.le_of_ble_eq_true rfl)) d_M_multiply_2 ⟨by decide, by decide⟩) hS hA hD (fun rz1 u t H locs hr0 ht hB hFr hS => ?_)
  obtain ⟨hP, hD⟩ := hB
  rw [ht] at hP
  have hD := dwk hD hFr
  clear ht hFr
  have hP : va_P D classes (wS51 cI cJ cZ cB p0 p1 p2 p3 p4 x0_4 x0_5 x0_6 x0_7 x0_8 x0_9 x0_10 x0_11 x0_12 x0_13 y1 y2 x3_0 x4_0) H := hP
  have hD : va_D A (wS51 cI cJ cZ cB p0 p1 p2 p3 p4 x0_4 x0_5 x0_6 x0_7 x0_8 x0_9 x0_10 x0_11 x0_12 x0_13 y1 y2 x3_0 x4_0) := hD
  refine lv_istore_n (lv' := [(2, .int rz1), (0, .ref p0), (1, .int a1)]) hx hb d_M_multiply_5 rfl hl (by decide) rfl (fun ls hl => ?_)
  refine lv_iload_n hx hb d_M_multiply_6 rfl (lv_at hl 0 rfl) ?_
  refine cs_i (W.runS (As := [.int rz1]) (rest := []) ⟨hx, hb, hml, hown, hk⟩ (c_W_size l rz1) (s_W_size hk k_268 ⟨Nat.le_of_ble_eq_true rfl, Nat.le_of_ble_eq_true rfl⟩) ⟨fun a U g mk q => q, fun U hU hW => ⟨rfl, trivial⟩⟩ rfl rfl hl.1 rfl (lv_room (Nat.le_of_ble_eq_true rfl)) d_M_multiply_7 ⟨Nat.le_of_ble_eq_true rfl, Nat.le_of_ble_eq_true rfl⟩) ?_
  refine lv_topi (fun v2 hv2 => ?_)
  refine lv_i2l (v := (v2 : Int32).toInt64) hx hb d_M_multiply_10 rfl ?_
  refine lv_topl (fun v3 hv3 => ?_)
  refine lv_iload_n hx hb d_M_multiply_11 rfl (lv_at hl 2 rfl) ?_
  refine cs_i (W.runS (As := [.int a1]) (rest := [.long v3]) ⟨hx, hb, hml, hown, hk⟩ (c_W_size l a1) (s_W_size hk k_268 ⟨Nat.le_of_ble_eq_true rfl, Nat.le_of_ble_eq_true rfl⟩) ⟨fun a U g mk q => q, fun U hU hW => ⟨rfl, trivial⟩⟩ rfl rfl hl.1 rfl (lv_room (Nat.le_of_ble_eq_true rfl)) d_M_multiply_12 ⟨Nat.le_of_ble_eq_true rfl, Nat.le_of_ble_eq_true rfl⟩) ?_
  refine lv_topi (fun v4 hv4 => ?_)
  refine lv_i2l (v := (v4 : Int32).toInt64) hx hb d_M_multiply_15 rfl ?_
  refine lv_topl (fun v5 hv5 => ?_)
  refine lv_lmul hx hb d_M_multiply_16 ?_
  refine lv_topl (fun v6 hv6 => ?_)
  refine lv_lstore_n (lv' := [(3, .long v6), (2, .int rz1), (0, .ref p0), (1, .int a1)]) hx hb d_M_multiply_17 rfl hl (by decide) rfl (fun ls hl => ?_)
  refine lv_iload_n hx hb d_M_multiply_18 rfl (lv_at hl 1 rfl) ?_
  refine cs_i (W.runS (As := [.int rz1]) (rest := []) ⟨hx, hb, hml, hown, hk⟩ (c_W_sign l rz1) (s_W_sign hk k_269 ⟨Nat.le_of_ble_eq_true rfl, Nat.le_of_ble_eq_true rfl⟩) ⟨fun a U g mk q => q, fun U hU hW => ⟨rfl, trivial⟩⟩ rfl rfl hl.1 rfl (lv_room (Nat.le_of_ble_eq_true rfl)) d_M_multiply_19 ⟨Nat.le_of_ble_eq_true rfl, Nat.le_of_ble_eq_true rfl⟩) ?_
  refine lv_topi (fun v7 hv7 => ?_)
  refine lv_iload_n hx hb d_M_multiply_22 rfl (lv_at hl 3 rfl) ?_
  refine cs_i (W.runS (As := [.int a1]) (rest := [.int v7]) ⟨hx, hb, hml, hown, hk⟩ (c_W_sign l a1) (s_W_sign hk k_269 ⟨Nat.le_of_ble_eq_true rfl, Nat.le_of_ble_eq_true rfl⟩) ⟨fun a U g mk q => q, fun U hU hW => ⟨rfl, trivial⟩⟩ rfl rfl hl.1 rfl (lv_room (Nat.le_of_ble_eq_true rfl)) d_M_multiply_23 ⟨Nat.le_of_ble_eq_true rfl, Nat.le_of_ble_eq_true rfl⟩) ?_
  refine lv_topi (fun v8 hv8 => ?_)
  refine lv_ixor hx hb d_M_multiply_26 ?_
  refine lv_topi (fun v9 hv9 => ?_)
  refine lv_istore (lv' := [(5, .int v9), (3, .long v6), (2, .int rz1), (0, .ref p0), (1, .int a1)]) hx hb d_M_multiply_27 hl (by decide) rfl (fun ls hl => ?_)
  refine lv_aload_n hx hb d_M_multiply_29 rfl (lv_at hl 3 rfl) ?_
  refine lv_iconst (v := 0) hx hb d_M_multiply_30 (by decide) ?_
  refine lv_iload hx hb d_M_multiply_31 (lv_at hl 0 rfl) ?_
  refine lv_lload_n hx hb d_M_multiply_33 rfl (lv_at hl 1 rfl) ?_
  refine lv_bipush (v := 30) hx hb d_M_multiply_34 (by decide) ?_
  refine lv_lshr (v := (v6 >>> (((30 : Int32) : Int32).toInt64 &&& 63))) hx hb d_M_multiply_36 rfl ?_
  refine lv_topl (fun v10 hv10 => ?_)
  refine lv_l2i (v := (v10 : Int64).toInt32) hx hb d_M_multiply_37 rfl ?_
  refine lv_topi (fun v11 hv11 => ?_)
  refine cs_i (W.runS (As := [.int v9, .int v11]) (rest := [.int (0 : Int32), .ref p0]) ⟨hx, hb, hml, hown, hk⟩ (c_W_make l v9 v11) (s_W_make hk k_370 ⟨Nat.le_of_ble_eq_true rfl, Nat.le_of_ble_eq_true rfl⟩) ⟨fun a U g mk q => q, fun U hU hW => ⟨rfl, trivial⟩⟩ rfl rfl hl.1 rfl (lv_room (Nat.le_of_ble_eq_true rfl)) d_M_multiply_38 ⟨Nat.le_of_ble_eq_true rfl, Nat.le_of_ble_eq_true rfl⟩) ?_
  refine lv_topi (fun v12 hv12 => ?_)
  refine kn_v (va_runV (C := "SignMachine$Machine") (As := [.int (0 : Int32), .int v12]) (rest := []) ⟨hx, hb, hml, hown, hk⟩ (c_M_putRegister_s1 l K D cI cJ cZ cB p0 p1 p2 p3 p4 H.size x0_4 x0_5 x0_6 x0_7 x0_8 x0_9 x0_10 x0_11 x0_12 x0_13 y1 y2 x3_0 x4_0  (0 : Int32) v12 ) (v_M_putRegister_s1 hk k_362 ⟨Nat.le_of_ble_eq_true rfl, Nat.le_of_ble_eq_true rfl⟩) (pMC_v hK hP hD hC hS hA (ci := 1) (q0 := 0) rfl rfl rfl) rfl rfl hl.1 rfl (lv_room (Nat.le_of_ble_eq_true rfl)) d_M_multiply_41 ⟨by decide, by decide⟩) hS hA hD (fun u t H locs ht hB hFr hS => ?_)
  obtain ⟨y2z13, hP, hD⟩ := hB
  rw [ht] at hP
  have hD := dwk hD hFr
  clear ht hFr
  have hP : va_P D classes (wS51 cI cJ cZ cB p0 p1 p2 p3 p4 x0_4 x0_5 x0_6 x0_7 x0_8 x0_9 x0_10 x0_11 x0_12 x0_13 y1 y2z13 x3_0 x4_0) H := hP
  have hD : va_D A (wS51 cI cJ cZ cB p0 p1 p2 p3 p4 x0_4 x0_5 x0_6 x0_7 x0_8 x0_9 x0_10 x0_11 x0_12 x0_13 y1 y2z13 x3_0 x4_0) := hD
  refine lv_aload_n hx hb d_M_multiply_44 rfl (lv_at hl 3 rfl) ?_
  refine lv_bipush (v := 7) hx hb d_M_multiply_45 (by decide) ?_
  refine lv_iload hx hb d_M_multiply_47 (lv_at hl 0 rfl) ?_
  refine lv_lload_n hx hb d_M_multiply_49 rfl (lv_at hl 1 rfl) ?_
  refine lv_l2i (v := (v6 : Int64).toInt32) hx hb d_M_multiply_50 rfl ?_
  refine lv_topi (fun v14 hv14 => ?_)
  refine lv_ldc (v := 1073741823) hx hb hown (hk _ k_345) d_M_multiply_51 ?_
  refine lv_iand hx hb d_M_multiply_53 ?_
  refine lv_topi (fun v15 hv15 => ?_)
  refine cs_i (W.runS (As := [.int v9, .int v15]) (rest := [.int (7 : Int32), .ref p0]) ⟨hx, hb, hml, hown, hk⟩ (c_W_make l v9 v15) (s_W_make hk k_370 ⟨Nat.le_of_ble_eq_true rfl, Nat.le_of_ble_eq_true rfl⟩) ⟨fun a U g mk q => q, fun U hU hW => ⟨rfl, trivial⟩⟩ rfl rfl hl.1 rfl (lv_room (Nat.le_of_ble_eq_true rfl)) d_M_multiply_54 ⟨Nat.le_of_ble_eq_true rfl, Nat.le_of_ble_eq_true rfl⟩) ?_
  refine lv_topi (fun v16 hv16 => ?_)
  refine kn_v (va_runV (C := "SignMachine$Machine") (As := [.int (7 : Int32), .int v16]) (rest := []) ⟨hx, hb, hml, hown, hk⟩ (c_M_putRegister_s1 l K D cI cJ cZ cB p0 p1 p2 p3 p4 H.size x0_4 x0_5 x0_6 x0_7 x0_8 x0_9 x0_10 x0_11 x0_12 x0_13 y1 y2z13 x3_0 x4_0  (7 : Int32) v16 ) (v_M_putRegister_s1 hk k_362 ⟨Nat.le_of_ble_eq_true rfl, Nat.le_of_ble_eq_true rfl⟩) (pMC_v hK hP hD hC hS hA (ci := 1) (q0 := 0) rfl rfl rfl) rfl rfl hl.1 rfl (lv_room (Nat.le_of_ble_eq_true rfl)) d_M_multiply_57 ⟨by decide, by decide⟩) hS hA hD (fun u t H locs ht hB hFr hS => ?_)
  obtain ⟨y2z17, hP, hD⟩ := hB
  rw [ht] at hP
  have hD := dwk hD hFr
  clear ht hFr
  have hP : va_P D classes (wS51 cI cJ cZ cB p0 p1 p2 p3 p4 x0_4 x0_5 x0_6 x0_7 x0_8 x0_9 x0_10 x0_11 x0_12 x0_13 y1 y2z17 x3_0 x4_0) H := hP
  have hD : va_D A (wS51 cI cJ cZ cB p0 p1 p2 p3 p4 x0_4 x0_5 x0_6 x0_7 x0_8 x0_9 x0_10 x0_11 x0_12 x0_13 y1 y2z17 x3_0 x4_0) := hD
  exact W.vret hx hb hr (fun t ht hW => ⟨⟨(), rfl, trivial, ⟨y2z17, by show va_P D classes _ t.heap; rw [ht]; exact hP, hD⟩⟩, hS.F ht⟩) hS.2.2 d_M_multiply_60
theorem v_M_multiply_s1 {R : Room} {s : State} {args : Array Value} {own : String} {index : Nat} (hk : ∀ w ∈ tb, w.before args s = true) (hl : Cond.methodLink own index y_M_multiply ∈ tb) (hR : 1 + 1 ≤ R.frames ∧ 8 + (6 + 11) + 22 ≤ R.locals) : CallW R s args own "SignMachine$Machine" index y_M_multiply b_M_multiply 6 none (.code y_M_multiply b_M_multiply 6 none :: tb) ({ frames := 1, cells := 0, slots := 0, locals := 22 }) 0 0 1 := mk_v 1 hk k_369 hl k_368 k_14 k_117 rfl rfl h_M_multiply hR
set_option maxHeartbeats 4000000 in
set_option maxRecDepth 100000 in
theorem c_M_sizeOfAX_s1 (l : Launch) (K : CK) (D : va_G) (cI cJ cZ cB : ClassId) (p0 p1 p2 p3 p4 : Nat) (sz : Nat) (x0_4 : Bool) (x0_5 : Int32) (x0_6 : Int32) (x0_7 : Int32) (x0_8 : Int32) (x0_9 : Int32) (x0_10 : Int32) (x0_11 : Int32) (x0_12 : Int32) (x0_13 : Int32) (y1 : Nat → Int32) (y2 : Nat → Int32) (x3_0 : Int32) (x4_0 : Int32)   : Met l y_M_sizeOfAX (.code y_M_sizeOfAX b_M_sizeOfAX 1 (some .long) :: tb) ({ frames := 1, cells := 0, slots := 0, locals := 21 }) (pMC K D cI cJ cZ cB (wS51 cI cJ cZ cB p0 p1 p2 p3 p4 x0_4 x0_5 x0_6 x0_7 x0_8 x0_9 x0_10 x0_11 x0_12 x0_13 y1 y2 x3_0 x4_0) sz [.ref p0]) (va_Ql (fun r (_ : Unit) => True) (fun _ t => (va_P D classes (wS51 cI cJ cZ cB p0 p1 p2 p3 p4 x0_4 x0_5 x0_6 x0_7 x0_8 x0_9 x0_10 x0_11 x0_12 x0_13 y1 y2 x3_0 x4_0) t.heap ∧ va_D (va_A (wS51 cI cJ cZ cB p0 p1 p2 p3 p4 x0_4 x0_5 x0_6 x0_7 x0_8 x0_9 x0_10 x0_11 x0_12 x0_13 y1 y2 x3_0 x4_0) sz) (wS51 cI cJ cZ cB p0 p1 p2 p3 p4 x0_4 x0_5 x0_6 x0_7 x0_8 x0_9 x0_10 x0_11 x0_12 x0_13 y1 y2 x3_0 x4_0))) (va_A (wS51 cI cJ cZ cB p0 p1 p2 p3 p4 x0_4 x0_5 x0_6 x0_7 x0_8 x0_9 x0_10 x0_11 x0_12 x0_13 y1 y2 x3_0 x4_0) sz)) 0 0 (va_A (wS51 cI cJ cZ cB p0 p1 p2 p3 p4 x0_4 x0_5 x0_6 x0_7 x0_8 x0_9 x0_10 x0_11 x0_12 x0_13 y1 y2 x3_0 x4_0) sz) := by
  refine Met.ofW (cc := b_M_sizeOfAX) (maxL := 1) (ret := (some .long)) (by decide) rfl ?_
  intro p e s m args below meth c s₁ B hml hv
  obtain ⟨rfl, hsz, hK, hP, hD0, hC⟩ := hv
  subst hsz
  have hD := hD0.self (sz := s.heap.size)
  generalize hAe : va_A (wS51 cI cJ cZ cB p0 p1 p2 p3 p4 x0_4 x0_5 x0_6 x0_7 x0_8 x0_9 x0_10 x0_11 x0_12 x0_13 y1 y2 x3_0 x4_0) s.heap.size = A at hD hC ⊢
  have hA : ∀ q : Nat, s.heap.size ≤ q → A q := fun q h => by rw [← hAe]; exact Or.inr h
  clear hAe hD0
  have hS : va_S A s.heap s.heap [] := va_S.rf
  have hx := B.exec
  have hb := B.bytes
  have hr := B.returns
  have hts := atoms_spec (ws := .code y_M_sizeOfAX b_M_sizeOfAX 1 (some .long) :: tb) B.pre
  have hk : ∀ w ∈ tb, w.before [.ref p0].toArray s = true := fun w h => hts w (List.mem_cons_of_mem _ h)
  have hown : s.vm.findClass "SignMachine$Machine" = some m.cls := findClass_of_methodNamed B.named
  have hlocks := B.notSynchronized
  have hl := lv_entry ([.ref p0]) (n := 1) (Nat.le_of_ble_eq_true rfl)
  rw [lg_entry_eq]
  generalize (lg_sl ([.ref p0]) ++ List.replicate (1 - (lg_sl ([.ref p0])).length) Slot.unset).toArray = ls at hl ⊢
  have hl : lv_has ls 1 [(0, .ref p0)] := hl
  refine lv_aload_n hx hb d_M_sizeOfAX_0 rfl (lv_at hl 0 rfl) ?_
  refine lv_iconst (v := 0) hx hb d_M_sizeOfAX_1 (by decide) ?_
  refine sn_i (va_runV (C := "SignMachine$Machine") (As := [.int (0 : Int32)]) (rest := []) ⟨hx, hb, hml, hown, hk⟩ (c_M_register_s1 l K D cI cJ cZ cB p0 p1 p2 p3 p4 s.heap.size x0_4 x0_5 x0_6 x0_7 x0_8 x0_9 x0_10 x0_11 x0_12 x0_13 y1 y2 x3_0 x4_0  (0 : Int32) ) (v_M_register_s1 hk k_273 ⟨Nat.le_of_ble_eq_true rfl, Nat.le_of_ble_eq_true rfl⟩) (pMC_v hK hP hD hC hS hA (ci := 1) (q0 := 0) rfl rfl rfl) rfl rfl hl.1 rfl (lv_room (Nat.le_of_ble_eq_true rfl)) d_M_sizeOfAX_2 ⟨by decide, by decide⟩) hS hA hD (fun rz1 u t H locs hr0 ht hB hFr hS => ?_)
  obtain ⟨hP, hD⟩ := hB
  rw [ht] at hP
  have hD := dwk hD hFr
  clear ht hFr
  have hP : va_P D classes (wS51 cI cJ cZ cB p0 p1 p2 p3 p4 x0_4 x0_5 x0_6 x0_7 x0_8 x0_9 x0_10 x0_11 x0_12 x0_13 y1 y2 x3_0 x4_0) H := hP
  have hD : va_D A (wS51 cI cJ cZ cB p0 p1 p2 p3 p4 x0_4 x0_5 x0_6 x0_7 x0_8 x0_9 x0_10 x0_11 x0_12 x0_13 y1 y2 x3_0 x4_0) := hD
  refine cs_i (W.runS (As := [.int rz1]) (rest := []) ⟨hx, hb, hml, hown, hk⟩ (c_W_size l rz1) (s_W_size hk k_268 ⟨Nat.le_of_ble_eq_true rfl, Nat.le_of_ble_eq_true rfl⟩) ⟨fun a U g mk q => q, fun U hU hW => ⟨rfl, trivial⟩⟩ rfl rfl hl.1 rfl (lv_room (Nat.le_of_ble_eq_true rfl)) d_M_sizeOfAX_5 ⟨Nat.le_of_ble_eq_true rfl, Nat.le_of_ble_eq_true rfl⟩) ?_
  refine lv_topi (fun v2 hv2 => ?_)
  refine lv_i2l (v := (v2 : Int32).toInt64) hx hb d_M_sizeOfAX_8 rfl ?_
  refine lv_topl (fun v3 hv3 => ?_)
  refine lv_bipush (v := 30) hx hb d_M_sizeOfAX_9 (by decide) ?_
  refine lv_lshl (v := (v3 <<< (((30 : Int32) : Int32).toInt64 &&& 63))) hx hb d_M_sizeOfAX_11 rfl ?_
  refine lv_topl (fun v4 hv4 => ?_)
  refine lv_aload_n hx hb d_M_sizeOfAX_12 rfl (lv_at hl 0 rfl) ?_
  refine lv_bipush (v := 7) hx hb d_M_sizeOfAX_13 (by decide) ?_
  refine sn_i (va_runV (C := "SignMachine$Machine") (As := [.int (7 : Int32)]) (rest := [.long v4]) ⟨hx, hb, hml, hown, hk⟩ (c_M_register_s1 l K D cI cJ cZ cB p0 p1 p2 p3 p4 H.size x0_4 x0_5 x0_6 x0_7 x0_8 x0_9 x0_10 x0_11 x0_12 x0_13 y1 y2 x3_0 x4_0  (7 : Int32) ) (v_M_register_s1 hk k_273 ⟨Nat.le_of_ble_eq_true rfl, Nat.le_of_ble_eq_true rfl⟩) (pMC_v hK hP hD hC hS hA (ci := 1) (q0 := 0) rfl rfl rfl) rfl rfl hl.1 rfl (lv_room (Nat.le_of_ble_eq_true rfl)) d_M_sizeOfAX_15 ⟨by decide, by decide⟩) hS hA hD (fun rz5 u t H locs hr0 ht hB hFr hS => ?_)
  obtain ⟨hP, hD⟩ := hB
  rw [ht] at hP
  have hD := dwk hD hFr
  clear ht hFr
  have hP : va_P D classes (wS51 cI cJ cZ cB p0 p1 p2 p3 p4 x0_4 x0_5 x0_6 x0_7 x0_8 x0_9 x0_10 x0_11 x0_12 x0_13 y1 y2 x3_0 x4_0) H := hP
  have hD : va_D A (wS51 cI cJ cZ cB p0 p1 p2 p3 p4 x0_4 x0_5 x0_6 x0_7 x0_8 x0_9 x0_10 x0_11 x0_12 x0_13 y1 y2 x3_0 x4_0) := hD
  refine cs_i (W.runS (As := [.int rz5]) (rest := [.long v4]) ⟨hx, hb, hml, hown, hk⟩ (c_W_size l rz5) (s_W_size hk k_268 ⟨Nat.le_of_ble_eq_true rfl, Nat.le_of_ble_eq_true rfl⟩) ⟨fun a U g mk q => q, fun U hU hW => ⟨rfl, trivial⟩⟩ rfl rfl hl.1 rfl (lv_room (Nat.le_of_ble_eq_true rfl)) d_M_sizeOfAX_18 ⟨Nat.le_of_ble_eq_true rfl, Nat.le_of_ble_eq_true rfl⟩) ?_
  refine lv_topi (fun v6 hv6 => ?_)
  refine lv_i2l (v := (v6 : Int32).toInt64) hx hb d_M_sizeOfAX_21 rfl ?_
  refine lv_topl (fun v7 hv7 => ?_)
  refine lv_lor hx hb d_M_sizeOfAX_22 ?_
  refine lv_topl (fun v8 hv8 => ?_)
  exact W.lret (v := v8) hx hb hr (fun t ht hW => ⟨⟨v8, (), rfl, trivial, ⟨by show va_P D classes _ t.heap; rw [ht]; exact hP, hD⟩⟩, hS.F ht⟩) hS.2.2 d_M_sizeOfAX_23
theorem v_M_sizeOfAX_s1 {R : Room} {s : State} {args : Array Value} {own : String} {index : Nat} (hk : ∀ w ∈ tb, w.before args s = true) (hl : Cond.methodLink own index y_M_sizeOfAX ∈ tb) (hR : 1 + 1 ≤ R.frames ∧ 8 + (1 + 11) + 21 ≤ R.locals) : CallW R s args own "SignMachine$Machine" index y_M_sizeOfAX b_M_sizeOfAX 1 (some .long) (.code y_M_sizeOfAX b_M_sizeOfAX 1 (some .long) :: tb) ({ frames := 1, cells := 0, slots := 0, locals := 21 }) 0 0 0 := mk_v 0 hk k_378 hl k_377 k_16 k_117 rfl rfl h_M_sizeOfAX hR
set_option maxHeartbeats 4000000 in
set_option maxRecDepth 100000 in
theorem c_M_divide_s1 (l : Launch) (K : CK) (D : va_G) (cI cJ cZ cB : ClassId) (p0 p1 p2 p3 p4 : Nat) (sz : Nat) (x0_4 : Bool) (x0_5 : Int32) (x0_6 : Int32) (x0_7 : Int32) (x0_8 : Int32) (x0_9 : Int32) (x0_10 : Int32) (x0_11 : Int32) (x0_12 : Int32) (x0_13 : Int32) (y1 : Nat → Int32) (y2 : Nat → Int32) (x3_0 : Int32) (x4_0 : Int32)  (a1 : Int32) : Met l y_M_divide (.code y_M_divide b_M_divide 6 none :: tb) ({ frames := 2, cells := 0, slots := 0, locals := 41 }) (pMC K D cI cJ cZ cB (wS51 cI cJ cZ cB p0 p1 p2 p3 p4 x0_4 x0_5 x0_6 x0_7 x0_8 x0_9 x0_10 x0_11 x0_12 x0_13 y1 y2 x3_0 x4_0) sz [.ref p0, .int a1]) (va_Qv (fun (_ : Unit) => True) (fun _ t => (∃ u_x0_4 : Bool, ∃ u_y2 : Nat → Int32, va_P D classes (wS51 cI cJ cZ cB p0 p1 p2 p3 p4 u_x0_4 x0_5 x0_6 x0_7 x0_8 x0_9 x0_10 x0_11 x0_12 x0_13 y1 u_y2 x3_0 x4_0) t.heap ∧ va_D (va_A (wS51 cI cJ cZ cB p0 p1 p2 p3 p4 x0_4 x0_5 x0_6 x0_7 x0_8 x0_9 x0_10 x0_11 x0_12 x0_13 y1 y2 x3_0 x4_0) sz) (wS51 cI cJ cZ cB p0 p1 p2 p3 p4 u_x0_4 x0_5 x0_6 x0_7 x0_8 x0_9 x0_10 x0_11 x0_12 x0_13 y1 u_y2 x3_0 x4_0))) (va_A (wS51 cI cJ cZ cB p0 p1 p2 p3 p4 x0_4 x0_5 x0_6 x0_7 x0_8 x0_9 x0_10 x0_11 x0_12 x0_13 y1 y2 x3_0 x4_0) sz)) 0 0 (va_A (wS51 cI cJ cZ cB p0 p1 p2 p3 p4 x0_4 x0_5 x0_6 x0_7 x0_8 x0_9 x0_10 x0_11 x0_12 x0_13 y1 y2 x3_0 x4_0) sz) := by
  refine Met.ofW (cc := b_M_divide) (maxL := 6) (ret := none) (by decide) rfl ?_
  intro p e s m args below meth c s₁ B hml hv
  obtain ⟨rfl, hsz, hK, hP, hD0, hC⟩ := hv
  subst hsz
  have hD := hD0.self (sz := s.heap.size)
  generalize hAe : va_A (wS51 cI cJ cZ cB p0 p1 p2 p3 p4 x0_4 x0_5 x0_6 x0_7 x0_8 x0_9 x0_10 x0_11 x0_12 x0_13 y1 y2 x3_0 x4_0) s.heap.size = A at hD hC ⊢
  have hA : ∀ q : Nat, s.heap.size ≤ q → A q := fun q h => by rw [← hAe]; exact Or.inr h
  clear hAe hD0
  have hS : va_S A s.heap s.heap [] := va_S.rf
  have hx := B.exec
  have hb := B.bytes
  have hr := B.returns
  have hts := atoms_spec (ws := .code y_M_divide b_M_divide 6 none :: tb) B.pre
  have hk : ∀ w ∈ tb, w.before [.ref p0, .int a1].toArray s = true := fun w h => hts w (List.mem_cons_of_mem _ h)
  have hown : s.vm.findClass "SignMachine$Machine" = some m.cls := findClass_of_methodNamed B.named
  have hlocks := B.notSynchronized
  have hl := lv_entry ([.ref p0, .int a1]) (n := 6) (Nat.le_of_ble_eq_true rfl)
  rw [lg_entry_eq]
  generalize (lg_sl ([.ref p0, .int a1]) ++ List.replicate (6 - (lg_sl ([.ref p0, .int a1])).length) Slot.unset).toArray = ls at hl ⊢
  have hl : lv_has ls 6 [(0, .ref p0), (1, .int a1)] := hl
  refine lv_aload_n hx hb d_M_divide_0 rfl (lv_at hl 0 rfl) ?_
  refine lv_iconst (v := 0) hx hb d_M_divide_1 (by decide) ?_
  refine sn_i (va_runV (C := "SignMachine$Machine") (As := [.int (0 : Int32)]) (rest := []) ⟨hx, hb, hml, hown, hk⟩ (c_M_register_s1 l K D cI cJ cZ cB p0 p1 p2 p3 p4 s.heap.size x0_4 x0_5 x0_6 x0_7 x0_8 x0_9 x0_10 x0_11 x0_12 x0_13 y1 y2 x3_0 x4_0  (0 : Int32) ) (v_M_register_s1 hk k_273 ⟨Nat.le_of_ble_eq_true rfl, Nat.le_of_ble_eq_true rfl⟩) (pMC_v hK hP hD hC hS hA (ci := 1) (q0 := 0) rfl rfl rfl) rfl rfl hl.1 rfl (lv_room (Nat.le_of_ble_eq_true rfl)) d_M_divide_2 ⟨by decide, by decide⟩) hS hA hD (fun rz1 u t H locs hr0 ht hB hFr hS => ?_)
  obtain ⟨hP, hD⟩ := hB
  rw [ht] at hP
  have hD := dwk hD hFr
  clear ht hFr
  have hP : va_P D classes (wS51 cI cJ cZ cB p0 p1 p2 p3 p4 x0_4 x0_5 x0_6 x0_7 x0_8 x0_9 x0_10 x0_11 x0_12 x0_13 y1 y2 x3_0 x4_0) H := hP
  have hD : va_D A (wS51 cI cJ cZ cB p0 p1 p2 p3 p4 x0_4 x0_5 x0_6 x0_7 x0_8 x0_9 x0_10 x0_11 x0_12 x0_13 y1 y2 x3_0 x4_0) := hD
  refine lv_istore_n (lv' := [(2, .int rz1), (0, .ref p0), (1, .int a1)]) hx hb d_M_divide_5 rfl hl (by decide) rfl (fun ls hl => ?_)
  refine lv_iload_n hx hb d_M_divide_6 rfl (lv_at hl 2 rfl) ?_
  refine cs_i (W.runS (As := [.int a1]) (rest := []) ⟨hx, hb, hml, hown, hk⟩ (c_W_size l a1) (s_W_size hk k_268 ⟨Nat.le_of_ble_eq_true rfl, Nat.le_of_ble_eq_true rfl⟩) ⟨fun a U g mk q => q, fun U hU hW => ⟨rfl, trivial⟩⟩ rfl rfl hl.1 rfl (lv_room (Nat.le_of_ble_eq_true rfl)) d_M_divide_7 ⟨Nat.le_of_ble_eq_true rfl, Nat.le_of_ble_eq_true rfl⟩) ?_
  refine lv_topi (fun v2 hv2 => ?_)
  refine lv_istore_n (lv' := [(3, .int v2), (2, .int rz1), (0, .ref p0), (1, .int a1)]) hx hb d_M_divide_10 rfl hl (by decide) rfl (fun ls hl => ?_)
  refine lv_iload_n hx hb d_M_divide_11 rfl (lv_at hl 0 rfl) ?_
  refine lv_if_eq (tgt := 23) hx hb d_M_divide_12 (by decide) (fun c3 => ?_) (fun c3 => ?_)
  · refine lv_aload_n hx hb d_M_divide_23 rfl (lv_at hl 2 rfl) ?_
    refine lv_iconst (v := 1) hx hb d_M_divide_24 (by decide) ?_
    refine va_put (D := D) (ci := 1) (v := .int (1 : Int32)) (ty := .boolean) (C := "SignMachine$Machine") (T := F_M) (N := 14) hx hb hk fi_M ft_M ft_M_ok fn_M hown hK.1 hP hD hS 0 rfl rfl 4 (by decide) (hk _ k_168) (fun _ h9 => h9) rfl (by decide +kernel) rfl rfl (Nat.le_of_ble_eq_true rfl) d_M_divide_25 (fun H locs hP hD hS => ?_)
    have hP : va_P D classes (wS51 cI cJ cZ cB p0 p1 p2 p3 p4 true x0_5 x0_6 x0_7 x0_8 x0_9 x0_10 x0_11 x0_12 x0_13 y1 y2 x3_0 x4_0) H := hP
    have hD : va_D A (wS51 cI cJ cZ cB p0 p1 p2 p3 p4 true x0_5 x0_6 x0_7 x0_8 x0_9 x0_10 x0_11 x0_12 x0_13 y1 y2 x3_0 x4_0) := hD
    exact W.vret hx hb hr (fun t ht hW => ⟨⟨(), rfl, trivial, ⟨true, y2, by show va_P D classes _ t.heap; rw [ht]; exact hP, hD⟩⟩, hS.F ht⟩) hS.2.2 d_M_divide_28
  · refine lv_iload_n hx hb d_M_divide_15 rfl (lv_at hl 1 rfl) ?_
    refine cs_i (W.runS (As := [.int rz1]) (rest := []) ⟨hx, hb, hml, hown, hk⟩ (c_W_size l rz1) (s_W_size hk k_268 ⟨Nat.le_of_ble_eq_true rfl, Nat.le_of_ble_eq_true rfl⟩) ⟨fun a U g mk q => q, fun U hU hW => ⟨rfl, trivial⟩⟩ rfl rfl hl.1 rfl (lv_room (Nat.le_of_ble_eq_true rfl)) d_M_divide_16 ⟨Nat.le_of_ble_eq_true rfl, Nat.le_of_ble_eq_true rfl⟩) ?_
    refine lv_topi (fun v4 hv4 => ?_)
    refine lv_iload_n hx hb d_M_divide_19 rfl (lv_at hl 0 rfl) ?_
    refine lv_icmp_lt (tgt := 29) hx hb d_M_divide_20 (by decide) (fun c5 => ?_) (fun c5 => ?_)
    · refine lv_aload_n hx hb d_M_divide_29 rfl (lv_at hl 2 rfl) ?_
      refine sn_l (va_runV (C := "SignMachine$Machine") (As := []) (rest := []) ⟨hx, hb, hml, hown, hk⟩ (c_M_sizeOfAX_s1 l K D cI cJ cZ cB p0 p1 p2 p3 p4 H.size x0_4 x0_5 x0_6 x0_7 x0_8 x0_9 x0_10 x0_11 x0_12 x0_13 y1 y2 x3_0 x4_0   ) (v_M_sizeOfAX_s1 hk k_375 ⟨Nat.le_of_ble_eq_true rfl, Nat.le_of_ble_eq_true rfl⟩) (pMC_v hK hP hD hC hS hA (ci := 1) (q0 := 0) rfl rfl rfl) rfl rfl hl.1 rfl (lv_room (Nat.le_of_ble_eq_true rfl)) d_M_divide_30 ⟨by decide, by decide⟩) hS hA hD (fun rz6 u t H locs hr0 ht hB hFr hS => ?_)
      obtain ⟨hP, hD⟩ := hB
      rw [ht] at hP
      have hD := dwk hD hFr
      clear ht hFr
      have hP : va_P D classes (wS51 cI cJ cZ cB p0 p1 p2 p3 p4 x0_4 x0_5 x0_6 x0_7 x0_8 x0_9 x0_10 x0_11 x0_12 x0_13 y1 y2 x3_0 x4_0) H := hP
      have hD : va_D A (wS51 cI cJ cZ cB p0 p1 p2 p3 p4 x0_4 x0_5 x0_6 x0_7 x0_8 x0_9 x0_10 x0_11 x0_12 x0_13 y1 y2 x3_0 x4_0) := hD
      refine lv_lstore (lv' := [(4, .long rz6), (3, .int v2), (2, .int rz1), (0, .ref p0), (1, .int a1)]) hx hb d_M_divide_33 hl (by decide) rfl (fun ls hl => ?_)
      refine lv_aload_n hx hb d_M_divide_35 rfl (lv_at hl 3 rfl) ?_
      refine lv_iconst (v := 0) hx hb d_M_divide_36 (by decide) ?_
      refine lv_iload_n hx hb d_M_divide_37 rfl (lv_at hl 2 rfl) ?_
      refine cs_i (W.runS (As := [.int rz1]) (rest := [.int (0 : Int32), .ref p0]) ⟨hx, hb, hml, hown, hk⟩ (c_W_sign l rz1) (s_W_sign hk k_269 ⟨Nat.le_of_ble_eq_true rfl, Nat.le_of_ble_eq_true rfl⟩) ⟨fun a U g mk q => q, fun U hU hW => ⟨rfl, trivial⟩⟩ rfl rfl hl.1 rfl (lv_room (Nat.le_of_ble_eq_true rfl)) d_M_divide_38 ⟨Nat.le_of_ble_eq_true rfl, Nat.le_of_ble_eq_true rfl⟩) ?_
      refine lv_topi (fun v7 hv7 => ?_)
      refine lv_iload_n hx hb d_M_divide_41 rfl (lv_at hl 4 rfl) ?_
      refine cs_i (W.runS (As := [.int a1]) (rest := [.int v7, .int (0 : Int32), .ref p0]) ⟨hx, hb, hml, hown, hk⟩ (c_W_sign l a1) (s_W_sign hk k_269 ⟨Nat.le_of_ble_eq_true rfl, Nat.le_of_ble_eq_true rfl⟩) ⟨fun a U g mk q => q, fun U hU hW => ⟨rfl, trivial⟩⟩ rfl rfl hl.1 rfl (lv_room (Nat.le_of_ble_eq_true rfl)) d_M_divide_42 ⟨Nat.le_of_ble_eq_true rfl, Nat.le_of_ble_eq_true rfl⟩) ?_
      refine lv_topi (fun v8 hv8 => ?_)
      refine lv_ixor hx hb d_M_divide_45 ?_
      refine lv_topi (fun v9 hv9 => ?_)
      refine lv_lload hx hb d_M_divide_46 (lv_at hl 0 rfl) ?_
      refine lv_iload_n hx hb d_M_divide_48 rfl (lv_at hl 1 rfl) ?_
      refine lv_i2l (v := (v2 : Int32).toInt64) hx hb d_M_divide_49 rfl ?_
      refine lv_topl (fun v10 hv10 => ?_)
      refine lv_ldiv hx hb d_M_divide_50 (by rw [hv10]; exact i2l_ne c3) ?_
      refine lv_topl (fun v11 hv11 => ?_)
      refine lv_l2i (v := (v11 : Int64).toInt32) hx hb d_M_divide_51 rfl ?_
      refine lv_topi (fun v12 hv12 => ?_)
      refine cs_i (W.runS (As := [.int v9, .int v12]) (rest := [.int (0 : Int32), .ref p0]) ⟨hx, hb, hml, hown, hk⟩ (c_W_make l v9 v12) (s_W_make hk k_370 ⟨Nat.le_of_ble_eq_true rfl, Nat.le_of_ble_eq_true rfl⟩) ⟨fun a U g mk q => q, fun U hU hW => ⟨rfl, trivial⟩⟩ rfl rfl hl.1 rfl (lv_room (Nat.le_of_ble_eq_true rfl)) d_M_divide_52 ⟨Nat.le_of_ble_eq_true rfl, Nat.le_of_ble_eq_true rfl⟩) ?_
      refine lv_topi (fun v13 hv13 => ?_)
      refine kn_v (va_runV (C := "SignMachine$Machine") (As := [.int (0 : Int32), .int v13]) (rest := []) ⟨hx, hb, hml, hown, hk⟩ (c_M_putRegister_s1 l K D cI cJ cZ cB p0 p1 p2 p3 p4 H.size x0_4 x0_5 x0_6 x0_7 x0_8 x0_9 x0_10 x0_11 x0_12 x0_13 y1 y2 x3_0 x4_0  (0 : Int32) v13 ) (v_M_putRegister_s1 hk k_362 ⟨Nat.le_of_ble_eq_true rfl, Nat.le_of_ble_eq_true rfl⟩) (pMC_v hK hP hD hC hS hA (ci := 1) (q0 := 0) rfl rfl rfl) rfl rfl hl.1 rfl (lv_room (Nat.le_of_ble_eq_true rfl)) d_M_divide_55 ⟨by decide, by decide⟩) hS hA hD (fun u t H locs ht hB hFr hS => ?_)
      obtain ⟨y2z14, hP, hD⟩ := hB
      rw [ht] at hP
      have hD := dwk hD hFr
      clear ht hFr
      have hP : va_P D classes (wS51 cI cJ cZ cB p0 p1 p2 p3 p4 x0_4 x0_5 x0_6 x0_7 x0_8 x0_9 x0_10 x0_11 x0_12 x0_13 y1 y2z14 x3_0 x4_0) H := hP
      have hD : va_D A (wS51 cI cJ cZ cB p0 p1 p2 p3 p4 x0_4 x0_5 x0_6 x0_7 x0_8 x0_9 x0_10 x0_11 x0_12 x0_13 y1 y2z14 x3_0 x4_0) := hD
      refine lv_aload_n hx hb d_M_divide_58 rfl (lv_at hl 3 rfl) ?_
      refine lv_bipush (v := 7) hx hb d_M_divide_59 (by decide) ?_
      refine lv_iload_n hx hb d_M_divide_61 rfl (lv_at hl 2 rfl) ?_
      refine cs_i (W.runS (As := [.int rz1]) (rest := [.int (7 : Int32), .ref p0]) ⟨hx, hb, hml, hown, hk⟩ (c_W_sign l rz1) (s_W_sign hk k_269 ⟨Nat.le_of_ble_eq_true rfl, Nat.le_of_ble_eq_true rfl⟩) ⟨fun a U g mk q => q, fun U hU hW => ⟨rfl, trivial⟩⟩ rfl rfl hl.1 rfl (lv_room (Nat.le_of_ble_eq_true rfl)) d_M_divide_62 ⟨Nat.le_of_ble_eq_true rfl, Nat.le_of_ble_eq_true rfl⟩) ?_
      refine lv_topi (fun v15 hv15 => ?_)
      refine lv_lload hx hb d_M_divide_65 (lv_at hl 0 rfl) ?_
      refine lv_iload_n hx hb d_M_divide_67 rfl (lv_at hl 1 rfl) ?_
      refine lv_i2l (v := (v2 : Int32).toInt64) hx hb d_M_divide_68 rfl ?_
      refine lv_topl (fun v16 hv16 => ?_)
      refine lv_lrem hx hb d_M_divide_69 (by rw [hv16]; exact i2l_ne c3) ?_
      refine lv_topl (fun v17 hv17 => ?_)
      refine lv_l2i (v := (v17 : Int64).toInt32) hx hb d_M_divide_70 rfl ?_
      refine lv_topi (fun v18 hv18 => ?_)
      refine cs_i (W.runS (As := [.int v15, .int v18]) (rest := [.int (7 : Int32), .ref p0]) ⟨hx, hb, hml, hown, hk⟩ (c_W_make l v15 v18) (s_W_make hk k_370 ⟨Nat.le_of_ble_eq_true rfl, Nat.le_of_ble_eq_true rfl⟩) ⟨fun a U g mk q => q, fun U hU hW => ⟨rfl, trivial⟩⟩ rfl rfl hl.1 rfl (lv_room (Nat.le_of_ble_eq_true rfl)) d_M_divide_71 ⟨Nat.le_of_ble_eq_true rfl, Nat.le_of_ble_eq_true rfl⟩) ?_
      refine lv_topi (fun v19 hv19 => ?_)
      refine kn_v (va_runV (C := "SignMachine$Machine") (As := [.int (7 : Int32), .int v19]) (rest := []) ⟨hx, hb, hml, hown, hk⟩ (c_M_putRegister_s1 l K D cI cJ cZ cB p0 p1 p2 p3 p4 H.size x0_4 x0_5 x0_6 x0_7 x0_8 x0_9 x0_10 x0_11 x0_12 x0_13 y1 y2z14 x3_0 x4_0  (7 : Int32) v19 ) (v_M_putRegister_s1 hk k_362 ⟨Nat.le_of_ble_eq_true rfl, Nat.le_of_ble_eq_true rfl⟩) (pMC_v hK hP hD hC hS hA (ci := 1) (q0 := 0) rfl rfl rfl) rfl rfl hl.1 rfl (lv_room (Nat.le_of_ble_eq_true rfl)) d_M_divide_74 ⟨by decide, by decide⟩) hS hA hD (fun u t H locs ht hB hFr hS => ?_)
      obtain ⟨y2z20, hP, hD⟩ := hB
      rw [ht] at hP
      have hD := dwk hD hFr
      clear ht hFr
      have hP : va_P D classes (wS51 cI cJ cZ cB p0 p1 p2 p3 p4 x0_4 x0_5 x0_6 x0_7 x0_8 x0_9 x0_10 x0_11 x0_12 x0_13 y1 y2z20 x3_0 x4_0) H := hP
      have hD : va_D A (wS51 cI cJ cZ cB p0 p1 p2 p3 p4 x0_4 x0_5 x0_6 x0_7 x0_8 x0_9 x0_10 x0_11 x0_12 x0_13 y1 y2z20 x3_0 x4_0) := hD
      exact W.vret hx hb hr (fun t ht hW => ⟨⟨(), rfl, trivial, ⟨x0_4, y2z20, by show va_P D classes _ t.heap; rw [ht]; exact hP, hD⟩⟩, hS.F ht⟩) hS.2.2 d_M_divide_77
    · refine lv_aload_n hx hb d_M_divide_23 rfl (lv_at hl 2 rfl) ?_
      refine lv_iconst (v := 1) hx hb d_M_divide_24 (by decide) ?_
      refine va_put (D := D) (ci := 1) (v := .int (1 : Int32)) (ty := .boolean) (C := "SignMachine$Machine") (T := F_M) (N := 14) hx hb hk fi_M ft_M ft_M_ok fn_M hown hK.1 hP hD hS 0 rfl rfl 4 (by decide) (hk _ k_168) (fun _ h9 => h9) rfl (by decide +kernel) rfl rfl (Nat.le_of_ble_eq_true rfl) d_M_divide_25 (fun H locs hP hD hS => ?_)
      have hP : va_P D classes (wS51 cI cJ cZ cB p0 p1 p2 p3 p4 true x0_5 x0_6 x0_7 x0_8 x0_9 x0_10 x0_11 x0_12 x0_13 y1 y2 x3_0 x4_0) H := hP
      have hD : va_D A (wS51 cI cJ cZ cB p0 p1 p2 p3 p4 true x0_5 x0_6 x0_7 x0_8 x0_9 x0_10 x0_11 x0_12 x0_13 y1 y2 x3_0 x4_0) := hD
      exact W.vret hx hb hr (fun t ht hW => ⟨⟨(), rfl, trivial, ⟨true, y2, by show va_P D classes _ t.heap; rw [ht]; exact hP, hD⟩⟩, hS.F ht⟩) hS.2.2 d_M_divide_28
theorem v_M_divide_s1 {R : Room} {s : State} {args : Array Value} {own : String} {index : Nat} (hk : ∀ w ∈ tb, w.before args s = true) (hl : Cond.methodLink own index y_M_divide ∈ tb) (hR : 2 + 1 ≤ R.frames ∧ 8 + (6 + 11) + 41 ≤ R.locals) : CallW R s args own "SignMachine$Machine" index y_M_divide b_M_divide 6 none (.code y_M_divide b_M_divide 6 none :: tb) ({ frames := 2, cells := 0, slots := 0, locals := 41 }) 0 0 1 := mk_v 1 hk k_374 hl k_373 k_15 k_117 rfl rfl h_M_divide hR

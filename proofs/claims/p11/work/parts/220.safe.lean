set_option maxHeartbeats 4000000 in
set_option maxRecDepth 100000 in
theorem c_M_storeWord_s2 (l : Launch) (K : CK) (D : va_G) (cI cJ cZ cB : ClassId) (p0 p1 p2 p3 p4 p5 p6 : Nat) (sz : Nat) (x0_4 : Bool) (x0_5 : Int32) (x0_6 : Int32) (x0_7 : Int32) (x0_8 : Int32) (x0_9 : Int32) (x0_10 : Int32) (x0_11 : Int32) (x0_12 : Int32) (x0_13 : Int32) (y1 : Nat → Int32) (y2 : Nat → Int32) (x3_0 : Int32) (x4_0 : Int32) (y5 : Nat → Int32) (y6 : Nat → Int32)  (a1 : Int32) : Met l y_M_storeWord (.code y_M_storeWord b_M_storeWord 2 none :: tb) ({ frames := 2, cells := 0, slots := 0, locals := 48 }) (pMC K D cI cJ cZ cB (wS60 cI cJ cZ cB p0 p1 p2 p3 p4 p5 p6 x0_4 x0_5 x0_6 x0_7 x0_8 x0_9 x0_10 x0_11 x0_12 x0_13 y1 y2 x3_0 x4_0 y5 y6) sz [.ref p0, .int a1]) (va_Qv (fun (_ : Unit) => True) (fun _ t => (∃ u_y1 : Nat → Int32, va_P D classes (wS60 cI cJ cZ cB p0 p1 p2 p3 p4 p5 p6 x0_4 x0_5 x0_6 x0_7 x0_8 x0_9 x0_10 x0_11 x0_12 x0_13 u_y1 y2 x3_0 x4_0 y5 y6) t.heap ∧ va_D (va_A (wS60 cI cJ cZ cB p0 p1 p2 p3 p4 p5 p6 x0_4 x0_5 x0_6 x0_7 x0_8 x0_9 x0_10 x0_11 x0_12 x0_13 y1 y2 x3_0 x4_0 y5 y6) sz) (wS60 cI cJ cZ cB p0 p1 p2 p3 p4 p5 p6 x0_4 x0_5 x0_6 x0_7 x0_8 x0_9 x0_10 x0_11 x0_12 x0_13 u_y1 y2 x3_0 x4_0 y5 y6))) (va_A (wS60 cI cJ cZ cB p0 p1 p2 p3 p4 p5 p6 x0_4 x0_5 x0_6 x0_7 x0_8 x0_9 x0_10 x0_11 x0_12 x0_13 y1 y2 x3_0 x4_0 y5 y6) sz)) 0 0 (va_A (wS60 cI cJ cZ cB p0 p1 p2 p3 p4 p5 p6 x0_4 x0_5 x0_6 x0_7 x0_8 x0_9 x0_10 x0_11 x0_12 x0_13 y1 y2 x3_0 x4_0 y5 y6) sz) := by
  refine Met.ofW (cc := b_M_storeWord) (maxL := 2) (ret := none) (by decide) rfl ?_
  intro p e s m args below meth c s₁ B hml hv
  obtain ⟨rfl, hsz, hK, hP, hD0, hC⟩ := hv
  subst hsz
  have hD := hD0.self (sz := s.heap.size)
  generalize hAe : va_A (wS60 cI cJ cZ cB p0 p1 p2 p3 p4 p5 p6 x0_4 x0_5 x0_6 x0_7 x0_8 x0_9 x0_10 x0_11 x0_12 x0_13 y1 y2 x3_0 x4_0 y5 y6) s.heap.size = A at hD hC ⊢
  have hA : ∀ q : Nat, s.heap.size ≤ q → A q := fun q h => by rw [← hAe]; exact Or.inr h
  clear hAe hD0
  have hS : va_S A s.heap s.heap [] := va_S.rf
  have hx := B.exec
  have hb := B.bytes
  have hr := B.returns
  have hts := atoms_spec (ws := .code y_M_storeWord b_M_storeWord 2 none :: tb) B.pre
  have hk : ∀ w ∈ tb, w.before [.ref p0, .int a1].toArray s = true := fun w h => hts w (List.mem_cons_of_mem _ h)
  have hown : s.vm.findClass "SignMachine$Machine" = some m.cls := findClass_of_methodNamed B.named
  have hlocks := B.notSynchronized
  have hl := lv_entry ([.ref p0, .int a1]) (n := 2) (Nat.le_of_ble_eq_true rfl)
  rw [lg_entry_eq]
  generalize (lg_sl ([.ref p0, .int a1]) ++ List.replicate (2 - (lg_sl ([.ref p0, .int a1])).length) Slot.unset).toArray = ls at hl ⊢
  have hl : lv_has ls 2 [(0, .ref p0), (1, .int a1)] := hl
  refine lv_aload_n hx hb d_M_storeWord_0 rfl (lv_at hl 0 rfl) ?_
  refine lv_aload_n hx hb d_M_storeWord_1 rfl (lv_at hl 0 rfl) ?_
  refine va_get (D := D) (ci := 1) (v := .int x0_12) (C := "SignMachine$Machine") (T := F_M) (N := 14) hx hb hk fi_M hown hK.1 hP 0 rfl rfl 12 (by decide) (hk _ k_179) (fun _ h9 => h9) rfl d_M_storeWord_2 ?_
  refine lv_aload_n hx hb d_M_storeWord_5 rfl (lv_at hl 0 rfl) ?_
  refine lv_aload_n hx hb d_M_storeWord_6 rfl (lv_at hl 0 rfl) ?_
  refine va_get (D := D) (ci := 1) (v := .int x0_12) (C := "SignMachine$Machine") (T := F_M) (N := 14) hx hb hk fi_M hown hK.1 hP 0 rfl rfl 12 (by decide) (hk _ k_179) (fun _ h9 => h9) rfl d_M_storeWord_7 ?_
  refine sn_i (va_runV (C := "SignMachine$Machine") (As := [.int x0_12]) (rest := [.int x0_12, .ref p0]) ⟨hx, hb, hml, hown, hk⟩ (c_M_wordAt_s4 l K D cI cJ cZ cB p0 p1 p2 p3 p4 p5 p6 s.heap.size x0_4 x0_5 x0_6 x0_7 x0_8 x0_9 x0_10 x0_11 x0_12 x0_13 y1 y2 x3_0 x4_0 y5 y6  x0_12 ) (v_M_wordAt_s4 hk k_263 ⟨Nat.le_of_ble_eq_true rfl, Nat.le_of_ble_eq_true rfl⟩) (pMC_v hK hP hD hC hS hA (ci := 1) (q0 := 0) rfl rfl rfl) rfl rfl hl.1 rfl (lv_room (Nat.le_of_ble_eq_true rfl)) d_M_storeWord_10 ⟨by decide, by decide⟩) hS hA hD (fun rz1 u t H locs hr0 ht hB hFr hS => ?_)
  have hrz1 := hr0
  obtain ⟨hP, hD⟩ := hB
  rw [ht] at hP
  have hD := dwk hD hFr
  clear ht hFr
  have hP : va_P D classes (wS60 cI cJ cZ cB p0 p1 p2 p3 p4 p5 p6 x0_4 x0_5 x0_6 x0_7 x0_8 x0_9 x0_10 x0_11 x0_12 x0_13 y1 y2 x3_0 x4_0 y5 y6) H := hP
  have hD : va_D A (wS60 cI cJ cZ cB p0 p1 p2 p3 p4 p5 p6 x0_4 x0_5 x0_6 x0_7 x0_8 x0_9 x0_10 x0_11 x0_12 x0_13 y1 y2 x3_0 x4_0 y5 y6) := hD
  refine lv_iload_n hx hb d_M_storeWord_13 rfl (lv_at hl 1 rfl) ?_
  refine lv_aload_n hx hb d_M_storeWord_14 rfl (lv_at hl 0 rfl) ?_
  refine va_get (D := D) (ci := 1) (v := .int x0_10) (C := "SignMachine$Machine") (T := F_M) (N := 14) hx hb hk fi_M hown hK.1 hP 0 rfl rfl 10 (by decide) (hk _ k_177) (fun _ h9 => h9) rfl d_M_storeWord_15 ?_
  refine cs_i (W.runS (As := [.int rz1, .int a1, .int x0_10]) (rest := [.int x0_12, .ref p0]) ⟨hx, hb, hml, hown, hk⟩ (c_W_store l rz1 a1 x0_10) (s_W_store hk k_418 ⟨Nat.le_of_ble_eq_true rfl, Nat.le_of_ble_eq_true rfl⟩) ⟨fun a U g mk q => q, fun U hU hW => ⟨rfl, trivial⟩⟩ rfl rfl hl.1 rfl (lv_room (Nat.le_of_ble_eq_true rfl)) d_M_storeWord_18 ⟨Nat.le_of_ble_eq_true rfl, Nat.le_of_ble_eq_true rfl⟩) ?_
  refine lv_topi (fun v2 hv2 => ?_)
  refine kn_v (va_runV (C := "SignMachine$Machine") (As := [.int x0_12, .int v2]) (rest := []) ⟨hx, hb, hml, hown, hk⟩ (c_M_putWord_s2 l K D cI cJ cZ cB p0 p1 p2 p3 p4 p5 p6 H.size x0_4 x0_5 x0_6 x0_7 x0_8 x0_9 x0_10 x0_11 x0_12 x0_13 y1 y2 x3_0 x4_0 y5 y6  x0_12 v2 ) (v_M_putWord_s2 hk k_410 ⟨Nat.le_of_ble_eq_true rfl, Nat.le_of_ble_eq_true rfl⟩) (pMC_v hK hP hD hC hS hA (ci := 1) (q0 := 0) rfl rfl rfl) rfl rfl hl.1 rfl (lv_room (Nat.le_of_ble_eq_true rfl)) d_M_storeWord_21 ⟨by decide, by decide⟩) hS hA hD (fun u t H locs ht hB hFr hS => ?_)
  obtain ⟨y1z3, hP, hD⟩ := hB
  rw [ht] at hP
  have hD := dwk hD hFr
  clear ht hFr
  have hP : va_P D classes (wS60 cI cJ cZ cB p0 p1 p2 p3 p4 p5 p6 x0_4 x0_5 x0_6 x0_7 x0_8 x0_9 x0_10 x0_11 x0_12 x0_13 y1z3 y2 x3_0 x4_0 y5 y6) H := hP
  have hD : va_D A (wS60 cI cJ cZ cB p0 p1 p2 p3 p4 p5 p6 x0_4 x0_5 x0_6 x0_7 x0_8 x0_9 x0_10 x0_11 x0_12 x0_13 y1z3 y2 x3_0 x4_0 y5 y6) := hD
  exact W.vret hx hb hr (fun t ht hW => ⟨⟨(), rfl, trivial, ⟨y1z3, by show va_P D classes _ t.heap; rw [ht]; exact hP, hD⟩⟩, hS.F ht⟩) hS.2.2 d_M_storeWord_24
theorem v_M_storeWord_s2 {R : Room} {s : State} {args : Array Value} {own : String} {index : Nat} (hk : ∀ w ∈ tb, w.before args s = true) (hl : Cond.methodLink own index y_M_storeWord ∈ tb) (hR : 2 + 1 ≤ R.frames ∧ 8 + (2 + 11) + 48 ≤ R.locals) : CallW R s args own "SignMachine$Machine" index y_M_storeWord b_M_storeWord 2 none (.code y_M_storeWord b_M_storeWord 2 none :: tb) ({ frames := 2, cells := 0, slots := 0, locals := 48 }) 0 0 1 := mk_v 1 hk k_417 hl k_416 k_23 k_117 rfl rfl h_M_storeWord hR
set_option maxHeartbeats 4000000 in
set_option maxRecDepth 100000 in
theorem c_M_wind_s2 (l : Launch) (K : CK) (D : va_G) (cI cJ cZ cB : ClassId) (p0 p1 p2 p3 p4 p5 p6 : Nat) (sz : Nat) (x0_4 : Bool) (x0_5 : Int32) (x0_6 : Int32) (x0_7 : Int32) (x0_8 : Int32) (x0_9 : Int32) (x0_10 : Int32) (x0_11 : Int32) (x0_12 : Int32) (x0_13 : Int32) (y1 : Nat → Int32) (y2 : Nat → Int32) (x3_0 : Int32) (x4_0 : Int32) (y5 : Nat → Int32) (y6 : Nat → Int32)   : Met l y_M_wind (.code y_M_wind b_M_wind 2 none :: tb) ({ frames := 1, cells := 0, slots := 0, locals := 21 }) (pMC K D cI cJ cZ cB (wS60 cI cJ cZ cB p0 p1 p2 p3 p4 p5 p6 x0_4 x0_5 x0_6 x0_7 x0_8 x0_9 x0_10 x0_11 x0_12 x0_13 y1 y2 x3_0 x4_0 y5 y6) sz [.ref p0]) (va_Qv (fun (_ : Unit) => True) (fun _ t => (∃ u_x3_0 : Int32, ∃ u_x4_0 : Int32, va_P D classes (wS60 cI cJ cZ cB p0 p1 p2 p3 p4 p5 p6 x0_4 x0_5 x0_6 x0_7 x0_8 x0_9 x0_10 x0_11 x0_12 x0_13 y1 y2 u_x3_0 u_x4_0 y5 y6) t.heap ∧ va_D (va_A (wS60 cI cJ cZ cB p0 p1 p2 p3 p4 p5 p6 x0_4 x0_5 x0_6 x0_7 x0_8 x0_9 x0_10 x0_11 x0_12 x0_13 y1 y2 x3_0 x4_0 y5 y6) sz) (wS60 cI cJ cZ cB p0 p1 p2 p3 p4 p5 p6 x0_4 x0_5 x0_6 x0_7 x0_8 x0_9 x0_10 x0_11 x0_12 x0_13 y1 y2 u_x3_0 u_x4_0 y5 y6))) (va_A (wS60 cI cJ cZ cB p0 p1 p2 p3 p4 p5 p6 x0_4 x0_5 x0_6 x0_7 x0_8 x0_9 x0_10 x0_11 x0_12 x0_13 y1 y2 x3_0 x4_0 y5 y6) sz)) 0 0 (va_A (wS60 cI cJ cZ cB p0 p1 p2 p3 p4 p5 p6 x0_4 x0_5 x0_6 x0_7 x0_8 x0_9 x0_10 x0_11 x0_12 x0_13 y1 y2 x3_0 x4_0 y5 y6) sz) := by
  refine Met.ofW (cc := b_M_wind) (maxL := 2) (ret := none) (by decide) rfl ?_
  intro p e s m args below meth c s₁ B hml hv
  obtain ⟨rfl, hsz, hK, hP, hD0, hC⟩ := hv
  subst hsz
  have hD := hD0.self (sz := s.heap.size)
  generalize hAe : va_A (wS60 cI cJ cZ cB p0 p1 p2 p3 p4 p5 p6 x0_4 x0_5 x0_6 x0_7 x0_8 x0_9 x0_10 x0_11 x0_12 x0_13 y1 y2 x3_0 x4_0 y5 y6) s.heap.size = A at hD hC ⊢
  have hA : ∀ q : Nat, s.heap.size ≤ q → A q := fun q h => by rw [← hAe]; exact Or.inr h
  clear hAe hD0
  have hS : va_S A s.heap s.heap [] := va_S.rf
  have hx := B.exec
  have hb := B.bytes
  have hr := B.returns
  have hts := atoms_spec (ws := .code y_M_wind b_M_wind 2 none :: tb) B.pre
  have hk : ∀ w ∈ tb, w.before [.ref p0].toArray s = true := fun w h => hts w (List.mem_cons_of_mem _ h)
  have hown : s.vm.findClass "SignMachine$Machine" = some m.cls := findClass_of_methodNamed B.named
  have hlocks := B.notSynchronized
  have hl := lv_entry ([.ref p0]) (n := 2) (Nat.le_of_ble_eq_true rfl)
  rw [lg_entry_eq]
  generalize (lg_sl ([.ref p0]) ++ List.replicate (2 - (lg_sl ([.ref p0])).length) Slot.unset).toArray = ls at hl ⊢
  have hl : lv_has ls 2 [(0, .ref p0)] := hl
  refine lv_aload_n hx hb d_M_wind_0 rfl (lv_at hl 0 rfl) ?_
  refine lv_aload_n hx hb d_M_wind_1 rfl (lv_at hl 0 rfl) ?_
  refine va_get (D := D) (ci := 1) (v := .int x0_10) (C := "SignMachine$Machine") (T := F_M) (N := 14) hx hb hk fi_M hown hK.1 hP 0 rfl rfl 10 (by decide) (hk _ k_177) (fun _ h9 => h9) rfl d_M_wind_2 ?_
  refine sn_q (va_runV (C := "SignMachine$Machine") (As := [.int x0_10]) (rest := []) ⟨hx, hb, hml, hown, hk⟩ (c_M_unit_s7 l K D cI cJ cZ cB p0 p1 p2 p3 p4 p5 p6 s.heap.size x0_4 x0_5 x0_6 x0_7 x0_8 x0_9 x0_10 x0_11 x0_12 x0_13 y1 y2 x3_0 x4_0 y5 y6  x0_10 ) (v_M_unit_s7 hk k_337 ⟨Nat.le_of_ble_eq_true rfl, Nat.le_of_ble_eq_true rfl⟩) (pMC_v hK hP hD hC hS hA (ci := 1) (q0 := 0) rfl rfl rfl) rfl rfl hl.1 rfl (lv_room (Nat.le_of_ble_eq_true rfl)) d_M_wind_5 ⟨by decide, by decide⟩) hS hA hD (fun rz1 u t H locs hr0 ht hB hFr hS => ?_)
  obtain ⟨hP, hD⟩ := hB
  rw [ht] at hP
  have hD := dwk hD hFr
  clear ht hFr
  have hP : va_P D classes (wS60 cI cJ cZ cB p0 p1 p2 p3 p4 p5 p6 x0_4 x0_5 x0_6 x0_7 x0_8 x0_9 x0_10 x0_11 x0_12 x0_13 y1 y2 x3_0 x4_0 y5 y6) H := hP
  have hD : va_D A (wS60 cI cJ cZ cB p0 p1 p2 p3 p4 p5 p6 x0_4 x0_5 x0_6 x0_7 x0_8 x0_9 x0_10 x0_11 x0_12 x0_13 y1 y2 x3_0 x4_0 y5 y6) := hD
  rcases hr0 with hr0 | hr0
  · subst hr0
    refine W.eq (g2 := F0 m 8 ls [.ref p3]) rfl ?_
    refine lv_astore_n (lv' := [(1, .ref p3), (0, .ref p0)]) hx hb d_M_wind_8 rfl hl (by decide) rfl (fun ls hl => ?_)
    refine lv_aload_n hx hb d_M_wind_9 rfl (lv_at hl 0 rfl) ?_
    refine lv_aload_n hx hb d_M_wind_10 rfl (lv_at hl 1 rfl) ?_
    refine va_get (D := D) (ci := 1) (v := .int x0_12) (C := "SignMachine$Machine") (T := F_M) (N := 14) hx hb hk fi_M hown hK.1 hP 0 rfl rfl 12 (by decide) (hk _ k_179) (fun _ h9 => h9) rfl d_M_wind_11 ?_
    refine lv_if_ne (tgt := 21) hx hb d_M_wind_14 (by decide) (fun c2 => ?_) (fun c2 => ?_)
    · refine lv_aload_n hx hb d_M_wind_21 rfl (lv_at hl 0 rfl) ?_
      refine va_getN (D := D) (ci := 2) (v := .int x3_0) (C := "SignMachine$Tape") (T := F_T) (N := 2) hx hb hk fi_T hown hK.1 hP 3 rfl rfl 0 (by decide) (va_Nw.use rfl (hK.2 _ n_155)) (fun _ h9 => h9) rfl d_M_wind_22 ?_
      refine lv_aload_n hx hb d_M_wind_25 rfl (lv_at hl 1 rfl) ?_
      refine va_get (D := D) (ci := 1) (v := .int x0_12) (C := "SignMachine$Machine") (T := F_M) (N := 14) hx hb hk fi_M hown hK.1 hP 0 rfl rfl 12 (by decide) (hk _ k_179) (fun _ h9 => h9) rfl d_M_wind_26 ?_
      refine lv_iadd hx hb d_M_wind_29 ?_
      refine lv_topi (fun v3 hv3 => ?_)
      refine va_putN (D := D) (ci := 2) (v := .int v3) (ty := .int) (C := "SignMachine$Tape") (T := F_T) (N := 2) hx hb hk fi_T ft_T ft_T_ok fn_T hown hK.1 hP hD hS 3 rfl rfl 0 (by decide) (va_Nw.use rfl (hK.2 _ n_155)) (fun _ h9 => h9) rfl (by decide +kernel) rfl rfl (Nat.le_of_ble_eq_true rfl) d_M_wind_30 (fun H locs hP hD hS => ?_)
      have hP : va_P D classes (wS60 cI cJ cZ cB p0 p1 p2 p3 p4 p5 p6 x0_4 x0_5 x0_6 x0_7 x0_8 x0_9 x0_10 x0_11 x0_12 x0_13 y1 y2 v3 x4_0 y5 y6) H := hP
      have hD : va_D A (wS60 cI cJ cZ cB p0 p1 p2 p3 p4 p5 p6 x0_4 x0_5 x0_6 x0_7 x0_8 x0_9 x0_10 x0_11 x0_12 x0_13 y1 y2 v3 x4_0 y5 y6) := hD
      exact W.vret hx hb hr (fun t ht hW => ⟨⟨(), rfl, trivial, ⟨v3, x4_0, by show va_P D classes _ t.heap; rw [ht]; exact hP, hD⟩⟩, hS.F ht⟩) hS.2.2 d_M_wind_33
    · refine lv_iconst (v := 0) hx hb d_M_wind_17 (by decide) ?_
      refine lv_goto (tgt := 30) hx hb d_M_wind_18 (by decide) ?_
      refine va_putN (D := D) (ci := 2) (v := .int (0 : Int32)) (ty := .int) (C := "SignMachine$Tape") (T := F_T) (N := 2) hx hb hk fi_T ft_T ft_T_ok fn_T hown hK.1 hP hD hS 3 rfl rfl 0 (by decide) (va_Nw.use rfl (hK.2 _ n_155)) (fun _ h9 => h9) rfl (by decide +kernel) rfl rfl (Nat.le_of_ble_eq_true rfl) d_M_wind_30 (fun H locs hP hD hS => ?_)
      have hP : va_P D classes (wS60 cI cJ cZ cB p0 p1 p2 p3 p4 p5 p6 x0_4 x0_5 x0_6 x0_7 x0_8 x0_9 x0_10 x0_11 x0_12 x0_13 y1 y2 (0 : Int32) x4_0 y5 y6) H := hP
      have hD : va_D A (wS60 cI cJ cZ cB p0 p1 p2 p3 p4 p5 p6 x0_4 x0_5 x0_6 x0_7 x0_8 x0_9 x0_10 x0_11 x0_12 x0_13 y1 y2 (0 : Int32) x4_0 y5 y6) := hD
      exact W.vret hx hb hr (fun t ht hW => ⟨⟨(), rfl, trivial, ⟨(0 : Int32), x4_0, by show va_P D classes _ t.heap; rw [ht]; exact hP, hD⟩⟩, hS.F ht⟩) hS.2.2 d_M_wind_33
  · subst hr0
    refine W.eq (g2 := F0 m 8 ls [.ref p4]) rfl ?_
    refine lv_astore_n (lv' := [(1, .ref p4), (0, .ref p0)]) hx hb d_M_wind_8 rfl hl (by decide) rfl (fun ls hl => ?_)
    refine lv_aload_n hx hb d_M_wind_9 rfl (lv_at hl 0 rfl) ?_
    refine lv_aload_n hx hb d_M_wind_10 rfl (lv_at hl 1 rfl) ?_
    refine va_get (D := D) (ci := 1) (v := .int x0_12) (C := "SignMachine$Machine") (T := F_M) (N := 14) hx hb hk fi_M hown hK.1 hP 0 rfl rfl 12 (by decide) (hk _ k_179) (fun _ h9 => h9) rfl d_M_wind_11 ?_
    refine lv_if_ne (tgt := 21) hx hb d_M_wind_14 (by decide) (fun c4 => ?_) (fun c4 => ?_)
    · refine lv_aload_n hx hb d_M_wind_21 rfl (lv_at hl 0 rfl) ?_
      refine va_getN (D := D) (ci := 2) (v := .int x4_0) (C := "SignMachine$Tape") (T := F_T) (N := 2) hx hb hk fi_T hown hK.1 hP 4 rfl rfl 0 (by decide) (va_Nw.use rfl (hK.2 _ n_155)) (fun _ h9 => h9) rfl d_M_wind_22 ?_
      refine lv_aload_n hx hb d_M_wind_25 rfl (lv_at hl 1 rfl) ?_
      refine va_get (D := D) (ci := 1) (v := .int x0_12) (C := "SignMachine$Machine") (T := F_M) (N := 14) hx hb hk fi_M hown hK.1 hP 0 rfl rfl 12 (by decide) (hk _ k_179) (fun _ h9 => h9) rfl d_M_wind_26 ?_
      refine lv_iadd hx hb d_M_wind_29 ?_
      refine lv_topi (fun v5 hv5 => ?_)
      refine va_putN (D := D) (ci := 2) (v := .int v5) (ty := .int) (C := "SignMachine$Tape") (T := F_T) (N := 2) hx hb hk fi_T ft_T ft_T_ok fn_T hown hK.1 hP hD hS 4 rfl rfl 0 (by decide) (va_Nw.use rfl (hK.2 _ n_155)) (fun _ h9 => h9) rfl (by decide +kernel) rfl rfl (Nat.le_of_ble_eq_true rfl) d_M_wind_30 (fun H locs hP hD hS => ?_)
      have hP : va_P D classes (wS60 cI cJ cZ cB p0 p1 p2 p3 p4 p5 p6 x0_4 x0_5 x0_6 x0_7 x0_8 x0_9 x0_10 x0_11 x0_12 x0_13 y1 y2 x3_0 v5 y5 y6) H := hP
      have hD : va_D A (wS60 cI cJ cZ cB p0 p1 p2 p3 p4 p5 p6 x0_4 x0_5 x0_6 x0_7 x0_8 x0_9 x0_10 x0_11 x0_12 x0_13 y1 y2 x3_0 v5 y5 y6) := hD
      exact W.vret hx hb hr (fun t ht hW => ⟨⟨(), rfl, trivial, ⟨x3_0, v5, by show va_P D classes _ t.heap; rw [ht]; exact hP, hD⟩⟩, hS.F ht⟩) hS.2.2 d_M_wind_33
    · refine lv_iconst (v := 0) hx hb d_M_wind_17 (by decide) ?_
      refine lv_goto (tgt := 30) hx hb d_M_wind_18 (by decide) ?_
      refine va_putN (D := D) (ci := 2) (v := .int (0 : Int32)) (ty := .int) (C := "SignMachine$Tape") (T := F_T) (N := 2) hx hb hk fi_T ft_T ft_T_ok fn_T hown hK.1 hP hD hS 4 rfl rfl 0 (by decide) (va_Nw.use rfl (hK.2 _ n_155)) (fun _ h9 => h9) rfl (by decide +kernel) rfl rfl (Nat.le_of_ble_eq_true rfl) d_M_wind_30 (fun H locs hP hD hS => ?_)
      have hP : va_P D classes (wS60 cI cJ cZ cB p0 p1 p2 p3 p4 p5 p6 x0_4 x0_5 x0_6 x0_7 x0_8 x0_9 x0_10 x0_11 x0_12 x0_13 y1 y2 x3_0 (0 : Int32) y5 y6) H := hP
      have hD : va_D A (wS60 cI cJ cZ cB p0 p1 p2 p3 p4 p5 p6 x0_4 x0_5 x0_6 x0_7 x0_8 x0_9 x0_10 x0_11 x0_12 x0_13 y1 y2 x3_0 (0 : Int32) y5 y6) := hD
      exact W.vret hx hb hr (fun t ht hW => ⟨⟨(), rfl, trivial, ⟨x3_0, (0 : Int32), by show va_P D classes _ t.heap; rw [ht]; exact hP, hD⟩⟩, hS.F ht⟩) hS.2.2 d_M_wind_33
theorem v_M_wind_s2 {R : Room} {s : State} {args : Array Value} {own : String} {index : Nat} (hk : ∀ w ∈ tb, w.before args s = true) (hl : Cond.methodLink own index y_M_wind ∈ tb) (hR : 1 + 1 ≤ R.frames ∧ 8 + (2 + 11) + 21 ≤ R.locals) : CallW R s args own "SignMachine$Machine" index y_M_wind b_M_wind 2 none (.code y_M_wind b_M_wind 2 none :: tb) ({ frames := 1, cells := 0, slots := 0, locals := 21 }) 0 0 0 := mk_v 0 hk k_428 hl k_427 k_25 k_117 rfl rfl h_M_wind hR
set_option maxHeartbeats 4000000 in
set_option maxRecDepth 100000 in
theorem c_T_wordAt_s3 (l : Launch) (K : CK) (D : va_G) (cI cJ cZ cB : ClassId) (p0 p1 p2 p3 p4 p5 p6 : Nat) (sz : Nat) (x0_4 : Bool) (x0_5 : Int32) (x0_6 : Int32) (x0_7 : Int32) (x0_8 : Int32) (x0_9 : Int32) (x0_10 : Int32) (x0_11 : Int32) (x0_12 : Int32) (x0_13 : Int32) (y1 : Nat → Int32) (y2 : Nat → Int32) (x3_0 : Int32) (x4_0 : Int32) (y5 : Nat → Int32) (y6 : Nat → Int32)  (a1 : Int32) (a2 : Int32) : Met l y_T_wordAt (.code y_T_wordAt b_T_wordAt 3 (some .int) :: tb) ({ frames := 1, cells := 0, slots := 0, locals := 21 }) (pMC K D cI cJ cZ cB (wS60 cI cJ cZ cB p0 p1 p2 p3 p4 p5 p6 x0_4 x0_5 x0_6 x0_7 x0_8 x0_9 x0_10 x0_11 x0_12 x0_13 y1 y2 x3_0 x4_0 y5 y6) sz [.ref p3, .int a1, .int a2]) (va_Qi (fun r (_ : Unit) => True) (fun _ t => (va_P D classes (wS60 cI cJ cZ cB p0 p1 p2 p3 p4 p5 p6 x0_4 x0_5 x0_6 x0_7 x0_8 x0_9 x0_10 x0_11 x0_12 x0_13 y1 y2 x3_0 x4_0 y5 y6) t.heap ∧ va_D (va_A (wS60 cI cJ cZ cB p0 p1 p2 p3 p4 p5 p6 x0_4 x0_5 x0_6 x0_7 x0_8 x0_9 x0_10 x0_11 x0_12 x0_13 y1 y2 x3_0 x4_0 y5 y6) sz) (wS60 cI cJ cZ cB p0 p1 p2 p3 p4 p5 p6 x0_4 x0_5 x0_6 x0_7 x0_8 x0_9 x0_10 x0_11 x0_12 x0_13 y1 y2 x3_0 x4_0 y5 y6))) (va_A (wS60 cI cJ cZ cB p0 p1 p2 p3 p4 p5 p6 x0_4 x0_5 x0_6 x0_7 x0_8 x0_9 x0_10 x0_11 x0_12 x0_13 y1 y2 x3_0 x4_0 y5 y6) sz)) 0 0 (va_A (wS60 cI cJ cZ cB p0 p1 p2 p3 p4 p5 p6 x0_4 x0_5 x0_6 x0_7 x0_8 x0_9 x0_10 x0_11 x0_12 x0_13 y1 y2 x3_0 x4_0 y5 y6) sz) := by
  refine Met.ofW (cc := b_T_wordAt) (maxL := 3) (ret := (some .int)) (by decide) rfl ?_
  intro p e s m args below meth c s₁ B hml hv
  obtain ⟨rfl, hsz, hK, hP, hD0, hC⟩ := hv
  subst hsz
  have hD := hD0.self (sz := s.heap.size)
  generalize hAe : va_A (wS60 cI cJ cZ cB p0 p1 p2 p3 p4 p5 p6 x0_4 x0_5 x0_6 x0_7 x0_8 x0_9 x0_10 x0_11 x0_12 x0_13 y1 y2 x3_0 x4_0 y5 y6) s.heap.size = A at hD hC ⊢
  have hA : ∀ q : Nat, s.heap.size ≤ q → A q := fun q h => by rw [← hAe]; exact Or.inr h
  clear hAe hD0
  have hS : va_S A s.heap s.heap [] := va_S.rf
  have hx := B.exec
  have hb := B.bytes
  have hr := B.returns
  have hts := atoms_spec (ws := .code y_T_wordAt b_T_wordAt 3 (some .int) :: tb) B.pre
  have hk : ∀ w ∈ tb, w.before [.ref p3, .int a1, .int a2].toArray s = true := fun w h => hts w (List.mem_cons_of_mem _ h)
  have hown : s.vm.findClass "SignMachine$Tape" = some m.cls := findClass_of_methodNamed B.named
  have hlocks := B.notSynchronized
  have hl := lv_entry ([.ref p3, .int a1, .int a2]) (n := 3) (Nat.le_of_ble_eq_true rfl)
  rw [lg_entry_eq]
  generalize (lg_sl ([.ref p3, .int a1, .int a2]) ++ List.replicate (3 - (lg_sl ([.ref p3, .int a1, .int a2])).length) Slot.unset).toArray = ls at hl ⊢
  have hl : lv_has ls 3 [(0, .ref p3), (1, .int a1), (2, .int a2)] := hl
  refine lv_aload_n hx hb d_T_wordAt_0 rfl (lv_at hl 0 rfl) ?_
  refine va_get (D := D) (ci := 2) (v := .ref p5) (C := "SignMachine$Tape") (T := F_T) (N := 2) hx hb hk fi_T hown hK.1 hP 3 rfl rfl 1 (by decide) (hk _ k_156) (fun _ h9 => h9) rfl d_T_wordAt_1 ?_
  refine lv_ifnull hx hb d_T_wordAt_4 ?_
  refine lv_iload_n hx hb d_T_wordAt_7 rfl (lv_at hl 1 rfl) ?_
  refine lv_iload_n hx hb d_T_wordAt_8 rfl (lv_at hl 2 rfl) ?_
  refine cs_i (W.runS (As := [.int a1, .int a2]) (rest := []) ⟨hx, hb, hml, hown, hk⟩ (c_T_isWord l a1 a2) (s_T_isWord hk k_437 ⟨Nat.le_of_ble_eq_true rfl, Nat.le_of_ble_eq_true rfl⟩) ⟨fun a U g mk q => q, fun U hU hW => ⟨rfl, trivial⟩⟩ rfl rfl hl.1 rfl (lv_room (Nat.le_of_ble_eq_true rfl)) d_T_wordAt_9 ⟨Nat.le_of_ble_eq_true rfl, Nat.le_of_ble_eq_true rfl⟩) ?_
  obtain ⟨z1, hz1⟩ : ∃ y : Bool, y = (f_T_isWord a1 a2) := ⟨_, rfl⟩
  rw [← hz1]
  refine lv_if_eq (tgt := 29) hx hb d_T_wordAt_12 (by decide) (fun c2 => ?_) (fun c2 => ?_)
  · refine lv_iconst (v := 0) hx hb d_T_wordAt_29 (by decide) ?_
    exact W.iret (v := (0 : Int32)) hx hb hr (fun t ht hW => ⟨⟨(0 : Int32), (), rfl, trivial, ⟨by show va_P D classes _ t.heap; rw [ht]; exact hP, hD⟩⟩, hS.F ht⟩) hS.2.2 d_T_wordAt_30
  · refine lv_aload_n hx hb d_T_wordAt_15 rfl (lv_at hl 0 rfl) ?_
    refine va_get (D := D) (ci := 2) (v := .ref p5) (C := "SignMachine$Tape") (T := F_T) (N := 2) hx hb hk fi_T hown hK.1 hP 3 rfl rfl 1 (by decide) (hk _ k_156) (fun _ h9 => h9) rfl d_T_wordAt_16 ?_
    refine lv_iload_n hx hb d_T_wordAt_19 rfl (lv_at hl 1 rfl) ?_
    refine lv_bipush (v := 100) hx hb d_T_wordAt_20 (by decide) ?_
    refine lv_imul hx hb d_T_wordAt_22 ?_
    refine lv_topi (fun v3 hv3 => ?_)
    refine lv_iload_n hx hb d_T_wordAt_23 rfl (lv_at hl 2 rfl) ?_
    refine lv_iadd hx hb d_T_wordAt_24 ?_
    refine lv_topi (fun v4 hv4 => ?_)
    refine va_iald hx hb hK.1 hP 5 0 rfl rfl (by rw [hv4, hv3]; exact tw_in hz1 c2) d_T_wordAt_25 ?_
    refine lv_topi (fun v5 hv5 => ?_)
    refine lv_goto (tgt := 30) hx hb d_T_wordAt_26 (by decide) ?_
    exact W.iret (v := v5) hx hb hr (fun t ht hW => ⟨⟨v5, (), rfl, trivial, ⟨by show va_P D classes _ t.heap; rw [ht]; exact hP, hD⟩⟩, hS.F ht⟩) hS.2.2 d_T_wordAt_30
theorem v_T_wordAt_s3 {R : Room} {s : State} {args : Array Value} {own : String} {index : Nat} (hk : ∀ w ∈ tb, w.before args s = true) (hl : Cond.methodLink own index y_T_wordAt ∈ tb) (hR : 1 + 1 ≤ R.frames ∧ 8 + (3 + 11) + 21 ≤ R.locals) : CallW R s args own "SignMachine$Tape" index y_T_wordAt b_T_wordAt 3 (some .int) (.code y_T_wordAt b_T_wordAt 3 (some .int) :: tb) ({ frames := 1, cells := 0, slots := 0, locals := 21 }) 0 0 2 := mk_v 2 hk k_436 hl k_434 k_435 k_118 rfl rfl h_T_wordAt hR
set_option maxHeartbeats 4000000 in
set_option maxRecDepth 100000 in
theorem c_T_wordAt_s4 (l : Launch) (K : CK) (D : va_G) (cI cJ cZ cB : ClassId) (p0 p1 p2 p3 p4 p5 p6 : Nat) (sz : Nat) (x0_4 : Bool) (x0_5 : Int32) (x0_6 : Int32) (x0_7 : Int32) (x0_8 : Int32) (x0_9 : Int32) (x0_10 : Int32) (x0_11 : Int32) (x0_12 : Int32) (x0_13 : Int32) (y1 : Nat → Int32) (y2 : Nat → Int32) (x3_0 : Int32) (x4_0 : Int32) (y5 : Nat → Int32) (y6 : Nat → Int32)  (a1 : Int32) (a2 : Int32) : Met l y_T_wordAt (.code y_T_wordAt b_T_wordAt 3 (some .int) :: tb) ({ frames := 1, cells := 0, slots := 0, locals := 21 }) (pMC K D cI cJ cZ cB (wS60 cI cJ cZ cB p0 p1 p2 p3 p4 p5 p6 x0_4 x0_5 x0_6 x0_7 x0_8 x0_9 x0_10 x0_11 x0_12 x0_13 y1 y2 x3_0 x4_0 y5 y6) sz [.ref p4, .int a1, .int a2]) (va_Qi (fun r (_ : Unit) => True) (fun _ t => (va_P D classes (wS60 cI cJ cZ cB p0 p1 p2 p3 p4 p5 p6 x0_4 x0_5 x0_6 x0_7 x0_8 x0_9 x0_10 x0_11 x0_12 x0_13 y1 y2 x3_0 x4_0 y5 y6) t.heap ∧ va_D (va_A (wS60 cI cJ cZ cB p0 p1 p2 p3 p4 p5 p6 x0_4 x0_5 x0_6 x0_7 x0_8 x0_9 x0_10 x0_11 x0_12 x0_13 y1 y2 x3_0 x4_0 y5 y6) sz) (wS60 cI cJ cZ cB p0 p1 p2 p3 p4 p5 p6 x0_4 x0_5 x0_6 x0_7 x0_8 x0_9 x0_10 x0_11 x0_12 x0_13 y1 y2 x3_0 x4_0 y5 y6))) (va_A (wS60 cI cJ cZ cB p0 p1 p2 p3 p4 p5 p6 x0_4 x0_5 x0_6 x0_7 x0_8 x0_9 x0_10 x0_11 x0_12 x0_13 y1 y2 x3_0 x4_0 y5 y6) sz)) 0 0 (va_A (wS60 cI cJ cZ cB p0 p1 p2 p3 p4 p5 p6 x0_4 x0_5 x0_6 x0_7 x0_8 x0_9 x0_10 x0_11 x0_12 x0_13 y1 y2 x3_0 x4_0 y5 y6) sz) := by
  refine Met.ofW (cc := b_T_wordAt) (maxL := 3) (ret := (some .int)) (by decide) rfl ?_
  intro p e s m args below meth c s₁ B hml hv
  obtain ⟨rfl, hsz, hK, hP, hD0, hC⟩ := hv
  subst hsz
  have hD := hD0.self (sz := s.heap.size)
  generalize hAe : va_A (wS60 cI cJ cZ cB p0 p1 p2 p3 p4 p5 p6 x0_4 x0_5 x0_6 x0_7 x0_8 x0_9 x0_10 x0_11 x0_12 x0_13 y1 y2 x3_0 x4_0 y5 y6) s.heap.size = A at hD hC ⊢
  have hA : ∀ q : Nat, s.heap.size ≤ q → A q := fun q h => by rw [← hAe]; exact Or.inr h
  clear hAe hD0
  have hS : va_S A s.heap s.heap [] := va_S.rf
  have hx := B.exec
  have hb := B.bytes
  have hr := B.returns
  have hts := atoms_spec (ws := .code y_T_wordAt b_T_wordAt 3 (some .int) :: tb) B.pre
  have hk : ∀ w ∈ tb, w.before [.ref p4, .int a1, .int a2].toArray s = true := fun w h => hts w (List.mem_cons_of_mem _ h)
  have hown : s.vm.findClass "SignMachine$Tape" = some m.cls := findClass_of_methodNamed B.named
  have hlocks := B.notSynchronized
  have hl := lv_entry ([.ref p4, .int a1, .int a2]) (n := 3) (Nat.le_of_ble_eq_true rfl)
  rw [lg_entry_eq]
  generalize (lg_sl ([.ref p4, .int a1, .int a2]) ++ List.replicate (3 - (lg_sl ([.ref p4, .int a1, .int a2])).length) Slot.unset).toArray = ls at hl ⊢
  have hl : lv_has ls 3 [(0, .ref p4), (1, .int a1), (2, .int a2)] := hl
  refine lv_aload_n hx hb d_T_wordAt_0 rfl (lv_at hl 0 rfl) ?_
  refine va_get (D := D) (ci := 2) (v := .ref p6) (C := "SignMachine$Tape") (T := F_T) (N := 2) hx hb hk fi_T hown hK.1 hP 4 rfl rfl 1 (by decide) (hk _ k_156) (fun _ h9 => h9) rfl d_T_wordAt_1 ?_
  refine lv_ifnull hx hb d_T_wordAt_4 ?_
  refine lv_iload_n hx hb d_T_wordAt_7 rfl (lv_at hl 1 rfl) ?_
  refine lv_iload_n hx hb d_T_wordAt_8 rfl (lv_at hl 2 rfl) ?_
  refine cs_i (W.runS (As := [.int a1, .int a2]) (rest := []) ⟨hx, hb, hml, hown, hk⟩ (c_T_isWord l a1 a2) (s_T_isWord hk k_437 ⟨Nat.le_of_ble_eq_true rfl, Nat.le_of_ble_eq_true rfl⟩) ⟨fun a U g mk q => q, fun U hU hW => ⟨rfl, trivial⟩⟩ rfl rfl hl.1 rfl (lv_room (Nat.le_of_ble_eq_true rfl)) d_T_wordAt_9 ⟨Nat.le_of_ble_eq_true rfl, Nat.le_of_ble_eq_true rfl⟩) ?_
  obtain ⟨z1, hz1⟩ : ∃ y : Bool, y = (f_T_isWord a1 a2) := ⟨_, rfl⟩
  rw [← hz1]
  refine lv_if_eq (tgt := 29) hx hb d_T_wordAt_12 (by decide) (fun c2 => ?_) (fun c2 => ?_)
  · refine lv_iconst (v := 0) hx hb d_T_wordAt_29 (by decide) ?_
    exact W.iret (v := (0 : Int32)) hx hb hr (fun t ht hW => ⟨⟨(0 : Int32), (), rfl, trivial, ⟨by show va_P D classes _ t.heap; rw [ht]; exact hP, hD⟩⟩, hS.F ht⟩) hS.2.2 d_T_wordAt_30
  · refine lv_aload_n hx hb d_T_wordAt_15 rfl (lv_at hl 0 rfl) ?_
    refine va_get (D := D) (ci := 2) (v := .ref p6) (C := "SignMachine$Tape") (T := F_T) (N := 2) hx hb hk fi_T hown hK.1 hP 4 rfl rfl 1 (by decide) (hk _ k_156) (fun _ h9 => h9) rfl d_T_wordAt_16 ?_
    refine lv_iload_n hx hb d_T_wordAt_19 rfl (lv_at hl 1 rfl) ?_
    refine lv_bipush (v := 100) hx hb d_T_wordAt_20 (by decide) ?_
    refine lv_imul hx hb d_T_wordAt_22 ?_
    refine lv_topi (fun v3 hv3 => ?_)
    refine lv_iload_n hx hb d_T_wordAt_23 rfl (lv_at hl 2 rfl) ?_
    refine lv_iadd hx hb d_T_wordAt_24 ?_
    refine lv_topi (fun v4 hv4 => ?_)
    refine va_iald hx hb hK.1 hP 6 0 rfl rfl (by rw [hv4, hv3]; exact tw_in hz1 c2) d_T_wordAt_25 ?_
    refine lv_topi (fun v5 hv5 => ?_)
    refine lv_goto (tgt := 30) hx hb d_T_wordAt_26 (by decide) ?_
    exact W.iret (v := v5) hx hb hr (fun t ht hW => ⟨⟨v5, (), rfl, trivial, ⟨by show va_P D classes _ t.heap; rw [ht]; exact hP, hD⟩⟩, hS.F ht⟩) hS.2.2 d_T_wordAt_30
theorem v_T_wordAt_s4 {R : Room} {s : State} {args : Array Value} {own : String} {index : Nat} (hk : ∀ w ∈ tb, w.before args s = true) (hl : Cond.methodLink own index y_T_wordAt ∈ tb) (hR : 1 + 1 ≤ R.frames ∧ 8 + (3 + 11) + 21 ≤ R.locals) : CallW R s args own "SignMachine$Tape" index y_T_wordAt b_T_wordAt 3 (some .int) (.code y_T_wordAt b_T_wordAt 3 (some .int) :: tb) ({ frames := 1, cells := 0, slots := 0, locals := 21 }) 0 0 2 := mk_v 2 hk k_436 hl k_434 k_435 k_118 rfl rfl h_T_wordAt hR
set_option maxHeartbeats 4000000 in
set_option maxRecDepth 100000 in
theorem c_M_readBlock_s2 (l : Launch) (K : CK) (D : va_G) (cI cJ cZ cB : ClassId) (p0 p1 p2 p3 p4 p5 p6 : Nat) (sz : Nat) (x0_4 : Bool) (x0_5 : Int32) (x0_6 : Int32) (x0_7 : Int32) (x0_8 : Int32) (x0_9 : Int32) (x0_10 : Int32) (x0_11 : Int32) (x0_12 : Int32) (x0_13 : Int32) (y1 : Nat → Int32) (y2 : Nat → Int32) (x3_0 : Int32) (x4_0 : Int32) (y5 : Nat → Int32) (y6 : Nat → Int32)   : Met l y_M_readBlock (.code y_M_readBlock b_M_readBlock 3 none :: tb) ({ frames := 2, cells := 0, slots := 0, locals := 43 }) (pMC K D cI cJ cZ cB (wS60 cI cJ cZ cB p0 p1 p2 p3 p4 p5 p6 x0_4 x0_5 x0_6 x0_7 x0_8 x0_9 x0_10 x0_11 x0_12 x0_13 y1 y2 x3_0 x4_0 y5 y6) sz [.ref p0]) (va_Qv (fun (_ : Unit) => True) (fun _ t => (∃ u_y1 : Nat → Int32, ∃ u_x3_0 : Int32, ∃ u_x4_0 : Int32, va_P D classes (wS60 cI cJ cZ cB p0 p1 p2 p3 p4 p5 p6 x0_4 x0_5 x0_6 x0_7 x0_8 x0_9 x0_10 x0_11 x0_12 x0_13 u_y1 y2 u_x3_0 u_x4_0 y5 y6) t.heap ∧ va_D (va_A (wS60 cI cJ cZ cB p0 p1 p2 p3 p4 p5 p6 x0_4 x0_5 x0_6 x0_7 x0_8 x0_9 x0_10 x0_11 x0_12 x0_13 y1 y2 x3_0 x4_0 y5 y6) sz) (wS60 cI cJ cZ cB p0 p1 p2 p3 p4 p5 p6 x0_4 x0_5 x0_6 x0_7 x0_8 x0_9 x0_10 x0_11 x0_12 x0_13 u_y1 y2 u_x3_0 u_x4_0 y5 y6))) (va_A (wS60 cI cJ cZ cB p0 p1 p2 p3 p4 p5 p6 x0_4 x0_5 x0_6 x0_7 x0_8 x0_9 x0_10 x0_11 x0_12 x0_13 y1 y2 x3_0 x4_0 y5 y6) sz)) 0 0 (va_A (wS60 cI cJ cZ cB p0 p1 p2 p3 p4 p5 p6 x0_4 x0_5 x0_6 x0_7 x0_8 x0_9 x0_10 x0_11 x0_12 x0_13 y1 y2 x3_0 x4_0 y5 y6) sz) := by
  refine Met.ofW (cc := b_M_readBlock) (maxL := 3) (ret := none) (by decide) rfl ?_
  intro p e s m args below meth c s₁ B hml hv
  obtain ⟨rfl, hsz, hK, hP, hD0, hC⟩ := hv
  subst hsz
  have hD := hD0.self (sz := s.heap.size)
  generalize hAe : va_A (wS60 cI cJ cZ cB p0 p1 p2 p3 p4 p5 p6 x0_4 x0_5 x0_6 x0_7 x0_8 x0_9 x0_10 x0_11 x0_12 x0_13 y1 y2 x3_0 x4_0 y5 y6) s.heap.size = A at hD hC ⊢
  have hA : ∀ q : Nat, s.heap.size ≤ q → A q := fun q h => by rw [← hAe]; exact Or.inr h
  clear hAe hD0
  have hS : va_S A s.heap s.heap [] := va_S.rf
  have hx := B.exec
  have hb := B.bytes
  have hr := B.returns
  have hts := atoms_spec (ws := .code y_M_readBlock b_M_readBlock 3 none :: tb) B.pre
  have hk : ∀ w ∈ tb, w.before [.ref p0].toArray s = true := fun w h => hts w (List.mem_cons_of_mem _ h)
  have hown : s.vm.findClass "SignMachine$Machine" = some m.cls := findClass_of_methodNamed B.named
  have hlocks := B.notSynchronized
  have hl := lv_entry ([.ref p0]) (n := 3) (Nat.le_of_ble_eq_true rfl)
  rw [lg_entry_eq]
  generalize (lg_sl ([.ref p0]) ++ List.replicate (3 - (lg_sl ([.ref p0])).length) Slot.unset).toArray = ls at hl ⊢
  have hl : lv_has ls 3 [(0, .ref p0)] := hl
  refine lv_aload_n hx hb d_M_readBlock_0 rfl (lv_at hl 0 rfl) ?_
  refine lv_aload_n hx hb d_M_readBlock_1 rfl (lv_at hl 0 rfl) ?_
  refine va_get (D := D) (ci := 1) (v := .int x0_10) (C := "SignMachine$Machine") (T := F_M) (N := 14) hx hb hk fi_M hown hK.1 hP 0 rfl rfl 10 (by decide) (hk _ k_177) (fun _ h9 => h9) rfl d_M_readBlock_2 ?_
  refine sn_q (va_runV (C := "SignMachine$Machine") (As := [.int x0_10]) (rest := []) ⟨hx, hb, hml, hown, hk⟩ (c_M_unit_s7 l K D cI cJ cZ cB p0 p1 p2 p3 p4 p5 p6 s.heap.size x0_4 x0_5 x0_6 x0_7 x0_8 x0_9 x0_10 x0_11 x0_12 x0_13 y1 y2 x3_0 x4_0 y5 y6  x0_10 ) (v_M_unit_s7 hk k_337 ⟨Nat.le_of_ble_eq_true rfl, Nat.le_of_ble_eq_true rfl⟩) (pMC_v hK hP hD hC hS hA (ci := 1) (q0 := 0) rfl rfl rfl) rfl rfl hl.1 rfl (lv_room (Nat.le_of_ble_eq_true rfl)) d_M_readBlock_5 ⟨by decide, by decide⟩) hS hA hD (fun rz1 u t H locs hr0 ht hB hFr hS => ?_)
  obtain ⟨hP, hD⟩ := hB
  rw [ht] at hP
  have hD := dwk hD hFr
  clear ht hFr
  have hP : va_P D classes (wS60 cI cJ cZ cB p0 p1 p2 p3 p4 p5 p6 x0_4 x0_5 x0_6 x0_7 x0_8 x0_9 x0_10 x0_11 x0_12 x0_13 y1 y2 x3_0 x4_0 y5 y6) H := hP
  have hD : va_D A (wS60 cI cJ cZ cB p0 p1 p2 p3 p4 p5 p6 x0_4 x0_5 x0_6 x0_7 x0_8 x0_9 x0_10 x0_11 x0_12 x0_13 y1 y2 x3_0 x4_0 y5 y6) := hD
  rcases hr0 with hr0 | hr0
  · subst hr0
    refine W.eq (g2 := F0 m 8 ls [.ref p3]) rfl ?_
    refine lv_astore_n (lv' := [(1, .ref p3), (0, .ref p0)]) hx hb d_M_readBlock_8 rfl hl (by decide) rfl (fun ls hl => ?_)
    refine lv_iconst (v := 0) hx hb d_M_readBlock_9 (by decide) ?_
    refine lv_istore_n (lv' := [(2, .int (0 : Int32)), (1, .ref p3), (0, .ref p0)]) hx hb d_M_readBlock_10 rfl hl (by decide) rfl (fun ls hl => ?_)
    have LP11_60 : ∀ (n : Nat) (l2 : Int32) (y1 : Nat → Int32) (x3_0 : Int32) (x4_0 : Int32) (H : Heap) (locs : List Loc) (ls : Array Slot), (((100 : Int32)).toInt - (l2).toInt).toNat < n → ¬ l2 < (0 : Int32) → va_P D classes (wS60 cI cJ cZ cB p0 p1 p2 p3 p4 p5 p6 x0_4 x0_5 x0_6 x0_7 x0_8 x0_9 x0_10 x0_11 x0_12 x0_13 y1 y2 x3_0 x4_0 y5 y6) H → va_D A (wS60 cI cJ cZ cB p0 p1 p2 p3 p4 p5 p6 x0_4 x0_5 x0_6 x0_7 x0_8 x0_9 x0_10 x0_11 x0_12 x0_13 y1 y2 x3_0 x4_0 y5 y6) → va_S A s.heap H locs → lv_has ls 3 [(2, .int l2), (1, .ref p3), (0, .ref p0)] → W p l e ({ frames := 2, cells := 0, slots := 0, locals := 43 }) s m [.ref p0].toArray below meth c H locs 0 0 (MQ below (va_Qv (fun (_ : Unit) => True) (fun _ t => (∃ u_y1 : Nat → Int32, ∃ u_x3_0 : Int32, ∃ u_x4_0 : Int32, va_P D classes (wS60 cI cJ cZ cB p0 p1 p2 p3 p4 p5 p6 x0_4 x0_5 x0_6 x0_7 x0_8 x0_9 x0_10 x0_11 x0_12 x0_13 u_y1 y2 u_x3_0 u_x4_0 y5 y6) t.heap ∧ va_D A (wS60 cI cJ cZ cB p0 p1 p2 p3 p4 p5 p6 x0_4 x0_5 x0_6 x0_7 x0_8 x0_9 x0_10 x0_11 x0_12 x0_13 u_y1 y2 u_x3_0 u_x4_0 y5 y6))) A) [.ref p0].toArray s 0 0 A) (F0 m 11 ls []) := by
      intro n
      induction n with
      | zero => intro l2 y1 x3_0 x4_0 H locs ls hn; exact absurd hn (Nat.not_lt_zero _)
      | succ n ih =>
        intro l2 y1 x3_0 x4_0 H locs ls hn11_60 hc11_60 hP hD hS hl
        refine lv_iload_n hx hb d_M_readBlock_11 rfl (lv_at hl 0 rfl) ?_
        refine lv_bipush (v := 100) hx hb d_M_readBlock_12 (by decide) ?_
        refine lv_icmp_ge (tgt := 42) hx hb d_M_readBlock_14 (by decide) (fun c2 => ?_) (fun c2 => ?_)
        · refine lv_aload_n hx hb d_M_readBlock_42 rfl (lv_at hl 1 rfl) ?_
          refine lv_dup hx hb d_M_readBlock_43 rfl ?_
          refine va_getN (D := D) (ci := 2) (v := .int x3_0) (C := "SignMachine$Tape") (T := F_T) (N := 2) hx hb hk fi_T hown hK.1 hP 3 rfl rfl 0 (by decide) (va_Nw.use rfl (hK.2 _ n_155)) (fun _ h9 => h9) rfl d_M_readBlock_44 ?_
          refine lv_iconst (v := 1) hx hb d_M_readBlock_47 (by decide) ?_
          refine lv_iadd hx hb d_M_readBlock_48 ?_
          refine lv_topi (fun v3 hv3 => ?_)
          refine va_putN (D := D) (ci := 2) (v := .int v3) (ty := .int) (C := "SignMachine$Tape") (T := F_T) (N := 2) hx hb hk fi_T ft_T ft_T_ok fn_T hown hK.1 hP hD hS 3 rfl rfl 0 (by decide) (va_Nw.use rfl (hK.2 _ n_155)) (fun _ h9 => h9) rfl (by decide +kernel) rfl rfl (Nat.le_of_ble_eq_true rfl) d_M_readBlock_49 (fun H locs hP hD hS => ?_)
          have hP : va_P D classes (wS60 cI cJ cZ cB p0 p1 p2 p3 p4 p5 p6 x0_4 x0_5 x0_6 x0_7 x0_8 x0_9 x0_10 x0_11 x0_12 x0_13 y1 y2 v3 x4_0 y5 y6) H := hP
          have hD : va_D A (wS60 cI cJ cZ cB p0 p1 p2 p3 p4 p5 p6 x0_4 x0_5 x0_6 x0_7 x0_8 x0_9 x0_10 x0_11 x0_12 x0_13 y1 y2 v3 x4_0 y5 y6) := hD
          exact W.vret hx hb hr (fun t ht hW => ⟨⟨(), rfl, trivial, ⟨y1, v3, x4_0, by show va_P D classes _ t.heap; rw [ht]; exact hP, hD⟩⟩, hS.F ht⟩) hS.2.2 d_M_readBlock_52
        · refine lv_aload_n hx hb d_M_readBlock_17 rfl (lv_at hl 2 rfl) ?_
          refine lv_aload_n hx hb d_M_readBlock_18 rfl (lv_at hl 2 rfl) ?_
          refine va_get (D := D) (ci := 1) (v := .int x0_12) (C := "SignMachine$Machine") (T := F_M) (N := 14) hx hb hk fi_M hown hK.1 hP 0 rfl rfl 12 (by decide) (hk _ k_179) (fun _ h9 => h9) rfl d_M_readBlock_19 ?_
          refine lv_iload_n hx hb d_M_readBlock_22 rfl (lv_at hl 0 rfl) ?_
          refine lv_iadd hx hb d_M_readBlock_23 ?_
          refine lv_topi (fun v4 hv4 => ?_)
          refine lv_aload_n hx hb d_M_readBlock_24 rfl (lv_at hl 1 rfl) ?_
          refine lv_aload_n hx hb d_M_readBlock_25 rfl (lv_at hl 1 rfl) ?_
          refine va_getN (D := D) (ci := 2) (v := .int x3_0) (C := "SignMachine$Tape") (T := F_T) (N := 2) hx hb hk fi_T hown hK.1 hP 3 rfl rfl 0 (by decide) (va_Nw.use rfl (hK.2 _ n_155)) (fun _ h9 => h9) rfl d_M_readBlock_26 ?_
          refine lv_iload_n hx hb d_M_readBlock_29 rfl (lv_at hl 0 rfl) ?_
          refine sn_i (va_runV (C := "SignMachine$Tape") (As := [.int x3_0, .int l2]) (rest := [.int v4, .ref p0]) ⟨hx, hb, hml, hown, hk⟩ (c_T_wordAt_s3 l K D cI cJ cZ cB p0 p1 p2 p3 p4 p5 p6 H.size x0_4 x0_5 x0_6 x0_7 x0_8 x0_9 x0_10 x0_11 x0_12 x0_13 y1 y2 x3_0 x4_0 y5 y6  x3_0 l2 ) (v_T_wordAt_s3 hk k_433 ⟨Nat.le_of_ble_eq_true rfl, Nat.le_of_ble_eq_true rfl⟩) (pMC_v hK hP hD hC hS hA (ci := 2) (q0 := 3) rfl rfl rfl) rfl rfl hl.1 rfl (lv_room (Nat.le_of_ble_eq_true rfl)) d_M_readBlock_30 ⟨by decide, by decide⟩) hS hA hD (fun rz5 u t H locs hr0 ht hB hFr hS => ?_)
          obtain ⟨hP, hD⟩ := hB
          rw [ht] at hP
          have hD := dwk hD hFr
          clear ht hFr
          have hP : va_P D classes (wS60 cI cJ cZ cB p0 p1 p2 p3 p4 p5 p6 x0_4 x0_5 x0_6 x0_7 x0_8 x0_9 x0_10 x0_11 x0_12 x0_13 y1 y2 x3_0 x4_0 y5 y6) H := hP
          have hD : va_D A (wS60 cI cJ cZ cB p0 p1 p2 p3 p4 p5 p6 x0_4 x0_5 x0_6 x0_7 x0_8 x0_9 x0_10 x0_11 x0_12 x0_13 y1 y2 x3_0 x4_0 y5 y6) := hD
          refine kn_v (va_runV (C := "SignMachine$Machine") (As := [.int v4, .int rz5]) (rest := []) ⟨hx, hb, hml, hown, hk⟩ (c_M_putWord_s2 l K D cI cJ cZ cB p0 p1 p2 p3 p4 p5 p6 H.size x0_4 x0_5 x0_6 x0_7 x0_8 x0_9 x0_10 x0_11 x0_12 x0_13 y1 y2 x3_0 x4_0 y5 y6  v4 rz5 ) (v_M_putWord_s2 hk k_410 ⟨Nat.le_of_ble_eq_true rfl, Nat.le_of_ble_eq_true rfl⟩) (pMC_v hK hP hD hC hS hA (ci := 1) (q0 := 0) rfl rfl rfl) rfl rfl hl.1 rfl (lv_room (Nat.le_of_ble_eq_true rfl)) d_M_readBlock_33 ⟨by decide, by decide⟩) hS hA hD (fun u t H locs ht hB hFr hS => ?_)
          obtain ⟨y1z6, hP, hD⟩ := hB
          rw [ht] at hP
          have hD := dwk hD hFr
          clear ht hFr
          have hP : va_P D classes (wS60 cI cJ cZ cB p0 p1 p2 p3 p4 p5 p6 x0_4 x0_5 x0_6 x0_7 x0_8 x0_9 x0_10 x0_11 x0_12 x0_13 y1z6 y2 x3_0 x4_0 y5 y6) H := hP
          have hD : va_D A (wS60 cI cJ cZ cB p0 p1 p2 p3 p4 p5 p6 x0_4 x0_5 x0_6 x0_7 x0_8 x0_9 x0_10 x0_11 x0_12 x0_13 y1z6 y2 x3_0 x4_0 y5 y6) := hD
          obtain ⟨v7, hv7⟩ : ∃ y : Int32, y = (l2 + (1 : Int32)) := ⟨_, rfl⟩
          refine lv_iinc (v := v7) (lv' := [(2, .int v7), (1, .ref p3), (0, .ref p0)]) hx hb d_M_readBlock_36 hl (k := 0) rfl (by rw [hv7]; rfl) (by decide) rfl (fun ls hl => ?_)
          refine lv_goto (tgt := 11) hx hb d_M_readBlock_39 (by decide) ?_
          exact ih v7 y1z6 x3_0 x4_0 H _ ls (lpu c2 hv7 hn11_60) (lpn hc11_60 c2 hv7) hP hD hS (lv_sub hl [0, 1, 2] rfl)
    exact LP11_60 _ (0 : Int32) y1 x3_0 x4_0 H _ ls (Nat.lt_succ_self _) (by decide) hP hD hS hl
  · subst hr0
    refine W.eq (g2 := F0 m 8 ls [.ref p4]) rfl ?_
    refine lv_astore_n (lv' := [(1, .ref p4), (0, .ref p0)]) hx hb d_M_readBlock_8 rfl hl (by decide) rfl (fun ls hl => ?_)
    refine lv_iconst (v := 0) hx hb d_M_readBlock_9 (by decide) ?_
    refine lv_istore_n (lv' := [(2, .int (0 : Int32)), (1, .ref p4), (0, .ref p0)]) hx hb d_M_readBlock_10 rfl hl (by decide) rfl (fun ls hl => ?_)
    have LP11_60 : ∀ (n : Nat) (l2 : Int32) (y1 : Nat → Int32) (x3_0 : Int32) (x4_0 : Int32) (H : Heap) (locs : List Loc) (ls : Array Slot), (((100 : Int32)).toInt - (l2).toInt).toNat < n → ¬ l2 < (0 : Int32) → va_P D classes (wS60 cI cJ cZ cB p0 p1 p2 p3 p4 p5 p6 x0_4 x0_5 x0_6 x0_7 x0_8 x0_9 x0_10 x0_11 x0_12 x0_13 y1 y2 x3_0 x4_0 y5 y6) H → va_D A (wS60 cI cJ cZ cB p0 p1 p2 p3 p4 p5 p6 x0_4 x0_5 x0_6 x0_7 x0_8 x0_9 x0_10 x0_11 x0_12 x0_13 y1 y2 x3_0 x4_0 y5 y6) → va_S A s.heap H locs → lv_has ls 3 [(2, .int l2), (1, .ref p4), (0, .ref p0)] → W p l e ({ frames := 2, cells := 0, slots := 0, locals := 43 }) s m [.ref p0].toArray below meth c H locs 0 0 (MQ below (va_Qv (fun (_ : Unit) => True) (fun _ t => (∃ u_y1 : Nat → Int32, ∃ u_x3_0 : Int32, ∃ u_x4_0 : Int32, va_P D classes (wS60 cI cJ cZ cB p0 p1 p2 p3 p4 p5 p6 x0_4 x0_5 x0_6 x0_7 x0_8 x0_9 x0_10 x0_11 x0_12 x0_13 u_y1 y2 u_x3_0 u_x4_0 y5 y6) t.heap ∧ va_D A (wS60 cI cJ cZ cB p0 p1 p2 p3 p4 p5 p6 x0_4 x0_5 x0_6 x0_7 x0_8 x0_9 x0_10 x0_11 x0_12 x0_13 u_y1 y2 u_x3_0 u_x4_0 y5 y6))) A) [.ref p0].toArray s 0 0 A) (F0 m 11 ls []) := by
      intro n
      induction n with
      | zero => intro l2 y1 x3_0 x4_0 H locs ls hn; exact absurd hn (Nat.not_lt_zero _)
      | succ n ih =>
        intro l2 y1 x3_0 x4_0 H locs ls hn11_60 hc11_60 hP hD hS hl
        refine lv_iload_n hx hb d_M_readBlock_11 rfl (lv_at hl 0 rfl) ?_
        refine lv_bipush (v := 100) hx hb d_M_readBlock_12 (by decide) ?_
        refine lv_icmp_ge (tgt := 42) hx hb d_M_readBlock_14 (by decide) (fun c8 => ?_) (fun c8 => ?_)
        · refine lv_aload_n hx hb d_M_readBlock_42 rfl (lv_at hl 1 rfl) ?_
          refine lv_dup hx hb d_M_readBlock_43 rfl ?_
          refine va_getN (D := D) (ci := 2) (v := .int x4_0) (C := "SignMachine$Tape") (T := F_T) (N := 2) hx hb hk fi_T hown hK.1 hP 4 rfl rfl 0 (by decide) (va_Nw.use rfl (hK.2 _ n_155)) (fun _ h9 => h9) rfl d_M_readBlock_44 ?_
          refine lv_iconst (v := 1) hx hb d_M_readBlock_47 (by decide) ?_
          refine lv_iadd hx hb d_M_readBlock_48 ?_
          refine lv_topi (fun v9 hv9 => ?_)
          refine va_putN (D := D) (ci := 2) (v := .int v9) (ty := .int) (C := "SignMachine$Tape") (T := F_T) (N := 2) hx hb hk fi_T ft_T ft_T_ok fn_T hown hK.1 hP hD hS 4 rfl rfl 0 (by decide) (va_Nw.use rfl (hK.2 _ n_155)) (fun _ h9 => h9) rfl (by decide +kernel) rfl rfl (Nat.le_of_ble_eq_true rfl) d_M_readBlock_49 (fun H locs hP hD hS => ?_)
          have hP : va_P D classes (wS60 cI cJ cZ cB p0 p1 p2 p3 p4 p5 p6 x0_4 x0_5 x0_6 x0_7 x0_8 x0_9 x0_10 x0_11 x0_12 x0_13 y1 y2 x3_0 v9 y5 y6) H := hP
          have hD : va_D A (wS60 cI cJ cZ cB p0 p1 p2 p3 p4 p5 p6 x0_4 x0_5 x0_6 x0_7 x0_8 x0_9 x0_10 x0_11 x0_12 x0_13 y1 y2 x3_0 v9 y5 y6) := hD
          exact W.vret hx hb hr (fun t ht hW => ⟨⟨(), rfl, trivial, ⟨y1, x3_0, v9, by show va_P D classes _ t.heap; rw [ht]; exact hP, hD⟩⟩, hS.F ht⟩) hS.2.2 d_M_readBlock_52
        · refine lv_aload_n hx hb d_M_readBlock_17 rfl (lv_at hl 2 rfl) ?_
          refine lv_aload_n hx hb d_M_readBlock_18 rfl (lv_at hl 2 rfl) ?_
          refine va_get (D := D) (ci := 1) (v := .int x0_12) (C := "SignMachine$Machine") (T := F_M) (N := 14) hx hb hk fi_M hown hK.1 hP 0 rfl rfl 12 (by decide) (hk _ k_179) (fun _ h9 => h9) rfl d_M_readBlock_19 ?_
          refine lv_iload_n hx hb d_M_readBlock_22 rfl (lv_at hl 0 rfl) ?_
          refine lv_iadd hx hb d_M_readBlock_23 ?_
          refine lv_topi (fun v10 hv10 => ?_)
          refine lv_aload_n hx hb d_M_readBlock_24 rfl (lv_at hl 1 rfl) ?_
          refine lv_aload_n hx hb d_M_readBlock_25 rfl (lv_at hl 1 rfl) ?_
          refine va_getN (D := D) (ci := 2) (v := .int x4_0) (C := "SignMachine$Tape") (T := F_T) (N := 2) hx hb hk fi_T hown hK.1 hP 4 rfl rfl 0 (by decide) (va_Nw.use rfl (hK.2 _ n_155)) (fun _ h9 => h9) rfl d_M_readBlock_26 ?_
          refine lv_iload_n hx hb d_M_readBlock_29 rfl (lv_at hl 0 rfl) ?_
          refine sn_i (va_runV (C := "SignMachine$Tape") (As := [.int x4_0, .int l2]) (rest := [.int v10, .ref p0]) ⟨hx, hb, hml, hown, hk⟩ (c_T_wordAt_s4 l K D cI cJ cZ cB p0 p1 p2 p3 p4 p5 p6 H.size x0_4 x0_5 x0_6 x0_7 x0_8 x0_9 x0_10 x0_11 x0_12 x0_13 y1 y2 x3_0 x4_0 y5 y6  x4_0 l2 ) (v_T_wordAt_s4 hk k_433 ⟨Nat.le_of_ble_eq_true rfl, Nat.le_of_ble_eq_true rfl⟩) (pMC_v hK hP hD hC hS hA (ci := 2) (q0 := 4) rfl rfl rfl) rfl rfl hl.1 rfl (lv_room (Nat.le_of_ble_eq_true rfl)) d_M_readBlock_30 ⟨by decide, by decide⟩) hS hA hD (fun rz11 u t H locs hr0 ht hB hFr hS => ?_)
          obtain ⟨hP, hD⟩ := hB
          rw [ht] at hP
          have hD := dwk hD hFr
          clear ht hFr
          have hP : va_P D classes (wS60 cI cJ cZ cB p0 p1 p2 p3 p4 p5 p6 x0_4 x0_5 x0_6 x0_7 x0_8 x0_9 x0_10 x0_11 x0_12 x0_13 y1 y2 x3_0 x4_0 y5 y6) H := hP
          have hD : va_D A (wS60 cI cJ cZ cB p0 p1 p2 p3 p4 p5 p6 x0_4 x0_5 x0_6 x0_7 x0_8 x0_9 x0_10 x0_11 x0_12 x0_13 y1 y2 x3_0 x4_0 y5 y6) := hD
          refine kn_v (va_runV (C := "SignMachine$Machine") (As := [.int v10, .int rz11]) (rest := []) ⟨hx, hb, hml, hown, hk⟩ (c_M_putWord_s2 l K D cI cJ cZ cB p0 p1 p2 p3 p4 p5 p6 H.size x0_4 x0_5 x0_6 x0_7 x0_8 x0_9 x0_10 x0_11 x0_12 x0_13 y1 y2 x3_0 x4_0 y5 y6  v10 rz11 ) (v_M_putWord_s2 hk k_410 ⟨Nat.le_of_ble_eq_true rfl, Nat.le_of_ble_eq_true rfl⟩) (pMC_v hK hP hD hC hS hA (ci := 1) (q0 := 0) rfl rfl rfl) rfl rfl hl.1 rfl (lv_room (Nat.le_of_ble_eq_true rfl)) d_M_readBlock_33 ⟨by decide, by decide⟩) hS hA hD (fun u t H locs ht hB hFr hS => ?_)
          obtain ⟨y1z12, hP, hD⟩ := hB
          rw [ht] at hP
          have hD := dwk hD hFr
          clear ht hFr
          have hP : va_P D classes (wS60 cI cJ cZ cB p0 p1 p2 p3 p4 p5 p6 x0_4 x0_5 x0_6 x0_7 x0_8 x0_9 x0_10 x0_11 x0_12 x0_13 y1z12 y2 x3_0 x4_0 y5 y6) H := hP
          have hD : va_D A (wS60 cI cJ cZ cB p0 p1 p2 p3 p4 p5 p6 x0_4 x0_5 x0_6 x0_7 x0_8 x0_9 x0_10 x0_11 x0_12 x0_13 y1z12 y2 x3_0 x4_0 y5 y6) := hD
          obtain ⟨v13, hv13⟩ : ∃ y : Int32, y = (l2 + (1 : Int32)) := ⟨_, rfl⟩
          refine lv_iinc (v := v13) (lv' := [(2, .int v13), (1, .ref p4), (0, .ref p0)]) hx hb d_M_readBlock_36 hl (k := 0) rfl (by rw [hv13]; rfl) (by decide) rfl (fun ls hl => ?_)
          refine lv_goto (tgt := 11) hx hb d_M_readBlock_39 (by decide) ?_
          exact ih v13 y1z12 x3_0 x4_0 H _ ls (lpu c8 hv13 hn11_60) (lpn hc11_60 c8 hv13) hP hD hS (lv_sub hl [0, 1, 2] rfl)
    exact LP11_60 _ (0 : Int32) y1 x3_0 x4_0 H _ ls (Nat.lt_succ_self _) (by decide) hP hD hS hl
theorem v_M_readBlock_s2 {R : Room} {s : State} {args : Array Value} {own : String} {index : Nat} (hk : ∀ w ∈ tb, w.before args s = true) (hl : Cond.methodLink own index y_M_readBlock ∈ tb) (hR : 2 + 1 ≤ R.frames ∧ 8 + (3 + 11) + 43 ≤ R.locals) : CallW R s args own "SignMachine$Machine" index y_M_readBlock b_M_readBlock 3 none (.code y_M_readBlock b_M_readBlock 3 none :: tb) ({ frames := 2, cells := 0, slots := 0, locals := 43 }) 0 0 0 := mk_v 0 hk k_432 hl k_431 k_26 k_117 rfl rfl h_M_readBlock hR
set_option maxHeartbeats 4000000 in
set_option maxRecDepth 100000 in
theorem c_T_putWord_s7 (l : Launch) (K : CK) (D : va_G) (cI cJ cZ cB : ClassId) (p0 p1 p2 p3 p4 p5 p6 : Nat) (sz : Nat) (x0_4 : Bool) (x0_5 : Int32) (x0_6 : Int32) (x0_7 : Int32) (x0_8 : Int32) (x0_9 : Int32) (x0_10 : Int32) (x0_11 : Int32) (x0_12 : Int32) (x0_13 : Int32) (y1 : Nat → Int32) (y2 : Nat → Int32) (x3_0 : Int32) (x4_0 : Int32) (y5 : Nat → Int32) (y6 : Nat → Int32)  (a1 : Int32) (a2 : Int32) (a3 : Int32) : Met l y_T_putWord (.code y_T_putWord b_T_putWord 4 none :: tb) ({ frames := 1, cells := 0, slots := 0, locals := 21 }) (pMC K D cI cJ cZ cB (wS60 cI cJ cZ cB p0 p1 p2 p3 p4 p5 p6 x0_4 x0_5 x0_6 x0_7 x0_8 x0_9 x0_10 x0_11 x0_12 x0_13 y1 y2 x3_0 x4_0 y5 y6) sz [.ref p3, .int a1, .int a2, .int a3]) (va_Qv (fun (_ : Unit) => True) (fun _ t => (∃ u_y5 : Nat → Int32, va_P D classes (wS60 cI cJ cZ cB p0 p1 p2 p3 p4 p5 p6 x0_4 x0_5 x0_6 x0_7 x0_8 x0_9 x0_10 x0_11 x0_12 x0_13 y1 y2 x3_0 x4_0 u_y5 y6) t.heap ∧ va_D (va_A (wS60 cI cJ cZ cB p0 p1 p2 p3 p4 p5 p6 x0_4 x0_5 x0_6 x0_7 x0_8 x0_9 x0_10 x0_11 x0_12 x0_13 y1 y2 x3_0 x4_0 y5 y6) sz) (wS60 cI cJ cZ cB p0 p1 p2 p3 p4 p5 p6 x0_4 x0_5 x0_6 x0_7 x0_8 x0_9 x0_10 x0_11 x0_12 x0_13 y1 y2 x3_0 x4_0 u_y5 y6))) (va_A (wS60 cI cJ cZ cB p0 p1 p2 p3 p4 p5 p6 x0_4 x0_5 x0_6 x0_7 x0_8 x0_9 x0_10 x0_11 x0_12 x0_13 y1 y2 x3_0 x4_0 y5 y6) sz)) 0 0 (va_A (wS60 cI cJ cZ cB p0 p1 p2 p3 p4 p5 p6 x0_4 x0_5 x0_6 x0_7 x0_8 x0_9 x0_10 x0_11 x0_12 x0_13 y1 y2 x3_0 x4_0 y5 y6) sz) := by
  refine Met.ofW (cc := b_T_putWord) (maxL := 4) (ret := none) (by decide) rfl ?_
  intro p e s m args below meth c s₁ B hml hv
  obtain ⟨rfl, hsz, hK, hP, hD0, hC⟩ := hv
  subst hsz
  have hD := hD0.self (sz := s.heap.size)
  generalize hAe : va_A (wS60 cI cJ cZ cB p0 p1 p2 p3 p4 p5 p6 x0_4 x0_5 x0_6 x0_7 x0_8 x0_9 x0_10 x0_11 x0_12 x0_13 y1 y2 x3_0 x4_0 y5 y6) s.heap.size = A at hD hC ⊢
  have hA : ∀ q : Nat, s.heap.size ≤ q → A q := fun q h => by rw [← hAe]; exact Or.inr h
  clear hAe hD0
  have hS : va_S A s.heap s.heap [] := va_S.rf
  have hx := B.exec
  have hb := B.bytes
  have hr := B.returns
  have hts := atoms_spec (ws := .code y_T_putWord b_T_putWord 4 none :: tb) B.pre
  have hk : ∀ w ∈ tb, w.before [.ref p3, .int a1, .int a2, .int a3].toArray s = true := fun w h => hts w (List.mem_cons_of_mem _ h)
  have hown : s.vm.findClass "SignMachine$Tape" = some m.cls := findClass_of_methodNamed B.named
  have hlocks := B.notSynchronized
  have hl := lv_entry ([.ref p3, .int a1, .int a2, .int a3]) (n := 4) (Nat.le_of_ble_eq_true rfl)
  rw [lg_entry_eq]
  generalize (lg_sl ([.ref p3, .int a1, .int a2, .int a3]) ++ List.replicate (4 - (lg_sl ([.ref p3, .int a1, .int a2, .int a3])).length) Slot.unset).toArray = ls at hl ⊢
  have hl : lv_has ls 4 [(0, .ref p3), (1, .int a1), (2, .int a2), (3, .int a3)] := hl
  refine lv_aload_n hx hb d_T_putWord_0 rfl (lv_at hl 0 rfl) ?_
  refine va_get (D := D) (ci := 2) (v := .ref p5) (C := "SignMachine$Tape") (T := F_T) (N := 2) hx hb hk fi_T hown hK.1 hP 3 rfl rfl 1 (by decide) (hk _ k_156) (fun _ h9 => h9) rfl d_T_putWord_1 ?_
  refine lv_ifnonnull (tgt := 16) hx hb d_T_putWord_4 (by decide) ?_
  refine lv_iload_n hx hb d_T_putWord_16 rfl (lv_at hl 1 rfl) ?_
  refine lv_iload_n hx hb d_T_putWord_17 rfl (lv_at hl 2 rfl) ?_
  refine cs_i (W.runS (As := [.int a1, .int a2]) (rest := []) ⟨hx, hb, hml, hown, hk⟩ (c_T_isWord l a1 a2) (s_T_isWord hk k_437 ⟨Nat.le_of_ble_eq_true rfl, Nat.le_of_ble_eq_true rfl⟩) ⟨fun a U g mk q => q, fun U hU hW => ⟨rfl, trivial⟩⟩ rfl rfl hl.1 rfl (lv_room (Nat.le_of_ble_eq_true rfl)) d_T_putWord_18 ⟨Nat.le_of_ble_eq_true rfl, Nat.le_of_ble_eq_true rfl⟩) ?_
  obtain ⟨z1, hz1⟩ : ∃ y : Bool, y = (f_T_isWord a1 a2) := ⟨_, rfl⟩
  rw [← hz1]
  refine lv_if_eq (tgt := 36) hx hb d_T_putWord_21 (by decide) (fun c2 => ?_) (fun c2 => ?_)
  · exact W.vret hx hb hr (fun t ht hW => ⟨⟨(), rfl, trivial, ⟨y5, by show va_P D classes _ t.heap; rw [ht]; exact hP, hD⟩⟩, hS.F ht⟩) hS.2.2 d_T_putWord_36
  · refine lv_aload_n hx hb d_T_putWord_24 rfl (lv_at hl 0 rfl) ?_
    refine va_get (D := D) (ci := 2) (v := .ref p5) (C := "SignMachine$Tape") (T := F_T) (N := 2) hx hb hk fi_T hown hK.1 hP 3 rfl rfl 1 (by decide) (hk _ k_156) (fun _ h9 => h9) rfl d_T_putWord_25 ?_
    refine lv_iload_n hx hb d_T_putWord_28 rfl (lv_at hl 1 rfl) ?_
    refine lv_bipush (v := 100) hx hb d_T_putWord_29 (by decide) ?_
    refine lv_imul hx hb d_T_putWord_31 ?_
    refine lv_topi (fun v3 hv3 => ?_)
    refine lv_iload_n hx hb d_T_putWord_32 rfl (lv_at hl 2 rfl) ?_
    refine lv_iadd hx hb d_T_putWord_33 ?_
    refine lv_topi (fun v4 hv4 => ?_)
    refine lv_iload_n hx hb d_T_putWord_34 rfl (lv_at hl 3 rfl) ?_
    refine va_iast hx hb hK.1 hP hD hS 5 0 rfl rfl (by rw [hv4, hv3]; exact tw_in hz1 c2) d_T_putWord_35 (fun H locs hP hD hS => ?_)
    have hP : va_P D classes (wS60 cI cJ cZ cB p0 p1 p2 p3 p4 p5 p6 x0_4 x0_5 x0_6 x0_7 x0_8 x0_9 x0_10 x0_11 x0_12 x0_13 y1 y2 x3_0 x4_0 (upd y5 (v4).toNatClampNeg a3) y6) H := hP
    have hD : va_D A (wS60 cI cJ cZ cB p0 p1 p2 p3 p4 p5 p6 x0_4 x0_5 x0_6 x0_7 x0_8 x0_9 x0_10 x0_11 x0_12 x0_13 y1 y2 x3_0 x4_0 (upd y5 (v4).toNatClampNeg a3) y6) := hD
    obtain ⟨v5, hv5⟩ : ∃ y : Nat → Int32, y = (upd y5 (v4).toNatClampNeg a3) := ⟨_, rfl⟩
    rw [← hv5] at hP hD
    clear hv5
    exact W.vret hx hb hr (fun t ht hW => ⟨⟨(), rfl, trivial, ⟨v5, by show va_P D classes _ t.heap; rw [ht]; exact hP, hD⟩⟩, hS.F ht⟩) hS.2.2 d_T_putWord_36
theorem v_T_putWord_s7 {R : Room} {s : State} {args : Array Value} {own : String} {index : Nat} (hk : ∀ w ∈ tb, w.before args s = true) (hl : Cond.methodLink own index y_T_putWord ∈ tb) (hR : 1 + 1 ≤ R.frames ∧ 8 + (4 + 11) + 21 ≤ R.locals) : CallW R s args own "SignMachine$Tape" index y_T_putWord b_T_putWord 4 none (.code y_T_putWord b_T_putWord 4 none :: tb) ({ frames := 1, cells := 0, slots := 0, locals := 21 }) 0 0 3 := mk_v 3 hk k_447 hl k_445 k_446 k_118 rfl rfl h_T_putWord hR
set_option maxHeartbeats 4000000 in
set_option maxRecDepth 100000 in
theorem c_M_writeBlock_s5 (l : Launch) (K : CK) (D : va_G) (cI cJ cZ cB : ClassId) (p0 p1 p2 p3 p4 p5 p6 : Nat) (sz : Nat) (x0_4 : Bool) (x0_5 : Int32) (x0_6 : Int32) (x0_7 : Int32) (x0_8 : Int32) (x0_9 : Int32) (x0_10 : Int32) (x0_11 : Int32) (x0_12 : Int32) (x0_13 : Int32) (y1 : Nat → Int32) (y2 : Nat → Int32) (x3_0 : Int32) (x4_0 : Int32) (y5 : Nat → Int32) (y6 : Nat → Int32)   : Met l y_M_writeBlock (.code y_M_writeBlock b_M_writeBlock 3 none :: tb) ({ frames := 2, cells := 0, slots := 0, locals := 44 }) (pMC K D cI cJ cZ cB (wS60 cI cJ cZ cB p0 p1 p2 p3 p4 p5 p6 x0_4 x0_5 x0_6 x0_7 x0_8 x0_9 x0_10 x0_11 x0_12 x0_13 y1 y2 x3_0 x4_0 y5 y6) sz [.ref p0]) (va_Qv (fun (_ : Unit) => True) (fun _ t => (∃ u_x3_0 : Int32, ∃ u_x4_0 : Int32, ∃ u_y5 : Nat → Int32, ∃ u_y6 : Nat → Int32, va_P D classes (wS60 cI cJ cZ cB p0 p1 p2 p3 p4 p5 p6 x0_4 x0_5 x0_6 x0_7 x0_8 x0_9 x0_10 x0_11 x0_12 x0_13 y1 y2 u_x3_0 u_x4_0 u_y5 u_y6) t.heap ∧ va_D (va_A (wS60 cI cJ cZ cB p0 p1 p2 p3 p4 p5 p6 x0_4 x0_5 x0_6 x0_7 x0_8 x0_9 x0_10 x0_11 x0_12 x0_13 y1 y2 x3_0 x4_0 y5 y6) sz) (wS60 cI cJ cZ cB p0 p1 p2 p3 p4 p5 p6 x0_4 x0_5 x0_6 x0_7 x0_8 x0_9 x0_10 x0_11 x0_12 x0_13 y1 y2 u_x3_0 u_x4_0 u_y5 u_y6))) (va_A (wS60 cI cJ cZ cB p0 p1 p2 p3 p4 p5 p6 x0_4 x0_5 x0_6 x0_7 x0_8 x0_9 x0_10 x0_11 x0_12 x0_13 y1 y2 x3_0 x4_0 y5 y6) sz)) 0 0 (va_A (wS60 cI cJ cZ cB p0 p1 p2 p3 p4 p5 p6 x0_4 x0_5 x0_6 x0_7 x0_8 x0_9 x0_10 x0_11 x0_12 x0_13 y1 y2 x3_0 x4_0 y5 y6) sz) := by
  refine Met.ofW (cc := b_M_writeBlock) (maxL := 3) (ret := none) (by decide) rfl ?_
  intro p e s m args below meth c s₁ B hml hv
  obtain ⟨rfl, hsz, hK, hP, hD0, hC⟩ := hv
  subst hsz
  have hD := hD0.self (sz := s.heap.size)
  generalize hAe : va_A (wS60 cI cJ cZ cB p0 p1 p2 p3 p4 p5 p6 x0_4 x0_5 x0_6 x0_7 x0_8 x0_9 x0_10 x0_11 x0_12 x0_13 y1 y2 x3_0 x4_0 y5 y6) s.heap.size = A at hD hC ⊢
  have hA : ∀ q : Nat, s.heap.size ≤ q → A q := fun q h => by rw [← hAe]; exact Or.inr h
  clear hAe hD0
  have hS : va_S A s.heap s.heap [] := va_S.rf
  have hx := B.exec
  have hb := B.bytes
  have hr := B.returns
  have hts := atoms_spec (ws := .code y_M_writeBlock b_M_writeBlock 3 none :: tb) B.pre
  have hk : ∀ w ∈ tb, w.before [.ref p0].toArray s = true := fun w h => hts w (List.mem_cons_of_mem _ h)
  have hown : s.vm.findClass "SignMachine$Machine" = some m.cls := findClass_of_methodNamed B.named
  have hlocks := B.notSynchronized
  have hl := lv_entry ([.ref p0]) (n := 3) (Nat.le_of_ble_eq_true rfl)
  rw [lg_entry_eq]
  generalize (lg_sl ([.ref p0]) ++ List.replicate (3 - (lg_sl ([.ref p0])).length) Slot.unset).toArray = ls at hl ⊢
  have hl : lv_has ls 3 [(0, .ref p0)] := hl
  refine lv_aload_n hx hb d_M_writeBlock_0 rfl (lv_at hl 0 rfl) ?_
  refine lv_aload_n hx hb d_M_writeBlock_1 rfl (lv_at hl 0 rfl) ?_
  refine va_get (D := D) (ci := 1) (v := .int x0_10) (C := "SignMachine$Machine") (T := F_M) (N := 14) hx hb hk fi_M hown hK.1 hP 0 rfl rfl 10 (by decide) (hk _ k_177) (fun _ h9 => h9) rfl d_M_writeBlock_2 ?_
  refine sn_q (va_runV (C := "SignMachine$Machine") (As := [.int x0_10]) (rest := []) ⟨hx, hb, hml, hown, hk⟩ (c_M_unit_s7 l K D cI cJ cZ cB p0 p1 p2 p3 p4 p5 p6 s.heap.size x0_4 x0_5 x0_6 x0_7 x0_8 x0_9 x0_10 x0_11 x0_12 x0_13 y1 y2 x3_0 x4_0 y5 y6  x0_10 ) (v_M_unit_s7 hk k_337 ⟨Nat.le_of_ble_eq_true rfl, Nat.le_of_ble_eq_true rfl⟩) (pMC_v hK hP hD hC hS hA (ci := 1) (q0 := 0) rfl rfl rfl) rfl rfl hl.1 rfl (lv_room (Nat.le_of_ble_eq_true rfl)) d_M_writeBlock_5 ⟨by decide, by decide⟩) hS hA hD (fun rz1 u t H locs hr0 ht hB hFr hS => ?_)
  obtain ⟨hP, hD⟩ := hB
  rw [ht] at hP
  have hD := dwk hD hFr
  clear ht hFr
  have hP : va_P D classes (wS60 cI cJ cZ cB p0 p1 p2 p3 p4 p5 p6 x0_4 x0_5 x0_6 x0_7 x0_8 x0_9 x0_10 x0_11 x0_12 x0_13 y1 y2 x3_0 x4_0 y5 y6) H := hP
  have hD : va_D A (wS60 cI cJ cZ cB p0 p1 p2 p3 p4 p5 p6 x0_4 x0_5 x0_6 x0_7 x0_8 x0_9 x0_10 x0_11 x0_12 x0_13 y1 y2 x3_0 x4_0 y5 y6) := hD
  rcases hr0 with hr0 | hr0
  · subst hr0
    refine W.eq (g2 := F0 m 8 ls [.ref p3]) rfl ?_
    refine lv_astore_n (lv' := [(1, .ref p3), (0, .ref p0)]) hx hb d_M_writeBlock_8 rfl hl (by decide) rfl (fun ls hl => ?_)
    refine lv_iconst (v := 0) hx hb d_M_writeBlock_9 (by decide) ?_
    refine lv_istore_n (lv' := [(2, .int (0 : Int32)), (1, .ref p3), (0, .ref p0)]) hx hb d_M_writeBlock_10 rfl hl (by decide) rfl (fun ls hl => ?_)
    have LP11_60 : ∀ (n : Nat) (l2 : Int32) (x3_0 : Int32) (x4_0 : Int32) (y5 : Nat → Int32) (y6 : Nat → Int32) (H : Heap) (locs : List Loc) (ls : Array Slot), (((100 : Int32)).toInt - (l2).toInt).toNat < n → ¬ l2 < (0 : Int32) → va_P D classes (wS60 cI cJ cZ cB p0 p1 p2 p3 p4 p5 p6 x0_4 x0_5 x0_6 x0_7 x0_8 x0_9 x0_10 x0_11 x0_12 x0_13 y1 y2 x3_0 x4_0 y5 y6) H → va_D A (wS60 cI cJ cZ cB p0 p1 p2 p3 p4 p5 p6 x0_4 x0_5 x0_6 x0_7 x0_8 x0_9 x0_10 x0_11 x0_12 x0_13 y1 y2 x3_0 x4_0 y5 y6) → va_S A s.heap H locs → lv_has ls 3 [(2, .int l2), (1, .ref p3), (0, .ref p0)] → W p l e ({ frames := 2, cells := 0, slots := 0, locals := 44 }) s m [.ref p0].toArray below meth c H locs 0 0 (MQ below (va_Qv (fun (_ : Unit) => True) (fun _ t => (∃ u_x3_0 : Int32, ∃ u_x4_0 : Int32, ∃ u_y5 : Nat → Int32, ∃ u_y6 : Nat → Int32, va_P D classes (wS60 cI cJ cZ cB p0 p1 p2 p3 p4 p5 p6 x0_4 x0_5 x0_6 x0_7 x0_8 x0_9 x0_10 x0_11 x0_12 x0_13 y1 y2 u_x3_0 u_x4_0 u_y5 u_y6) t.heap ∧ va_D A (wS60 cI cJ cZ cB p0 p1 p2 p3 p4 p5 p6 x0_4 x0_5 x0_6 x0_7 x0_8 x0_9 x0_10 x0_11 x0_12 x0_13 y1 y2 u_x3_0 u_x4_0 u_y5 u_y6))) A) [.ref p0].toArray s 0 0 A) (F0 m 11 ls []) := by
      intro n
      induction n with
      | zero => intro l2 x3_0 x4_0 y5 y6 H locs ls hn; exact absurd hn (Nat.not_lt_zero _)
      | succ n ih =>
        intro l2 x3_0 x4_0 y5 y6 H locs ls hn11_60 hc11_60 hP hD hS hl
        refine lv_iload_n hx hb d_M_writeBlock_11 rfl (lv_at hl 0 rfl) ?_
        refine lv_bipush (v := 100) hx hb d_M_writeBlock_12 (by decide) ?_
        refine lv_icmp_ge (tgt := 42) hx hb d_M_writeBlock_14 (by decide) (fun c2 => ?_) (fun c2 => ?_)
        · refine lv_aload_n hx hb d_M_writeBlock_42 rfl (lv_at hl 1 rfl) ?_
          refine lv_dup hx hb d_M_writeBlock_43 rfl ?_
          refine va_getN (D := D) (ci := 2) (v := .int x3_0) (C := "SignMachine$Tape") (T := F_T) (N := 2) hx hb hk fi_T hown hK.1 hP 3 rfl rfl 0 (by decide) (va_Nw.use rfl (hK.2 _ n_155)) (fun _ h9 => h9) rfl d_M_writeBlock_44 ?_
          refine lv_iconst (v := 1) hx hb d_M_writeBlock_47 (by decide) ?_
          refine lv_iadd hx hb d_M_writeBlock_48 ?_
          refine lv_topi (fun v3 hv3 => ?_)
          refine va_putN (D := D) (ci := 2) (v := .int v3) (ty := .int) (C := "SignMachine$Tape") (T := F_T) (N := 2) hx hb hk fi_T ft_T ft_T_ok fn_T hown hK.1 hP hD hS 3 rfl rfl 0 (by decide) (va_Nw.use rfl (hK.2 _ n_155)) (fun _ h9 => h9) rfl (by decide +kernel) rfl rfl (Nat.le_of_ble_eq_true rfl) d_M_writeBlock_49 (fun H locs hP hD hS => ?_)
          have hP : va_P D classes (wS60 cI cJ cZ cB p0 p1 p2 p3 p4 p5 p6 x0_4 x0_5 x0_6 x0_7 x0_8 x0_9 x0_10 x0_11 x0_12 x0_13 y1 y2 v3 x4_0 y5 y6) H := hP
          have hD : va_D A (wS60 cI cJ cZ cB p0 p1 p2 p3 p4 p5 p6 x0_4 x0_5 x0_6 x0_7 x0_8 x0_9 x0_10 x0_11 x0_12 x0_13 y1 y2 v3 x4_0 y5 y6) := hD
          exact W.vret hx hb hr (fun t ht hW => ⟨⟨(), rfl, trivial, ⟨v3, x4_0, y5, y6, by show va_P D classes _ t.heap; rw [ht]; exact hP, hD⟩⟩, hS.F ht⟩) hS.2.2 d_M_writeBlock_52
        · refine lv_aload_n hx hb d_M_writeBlock_17 rfl (lv_at hl 1 rfl) ?_
          refine lv_aload_n hx hb d_M_writeBlock_18 rfl (lv_at hl 1 rfl) ?_
          refine va_getN (D := D) (ci := 2) (v := .int x3_0) (C := "SignMachine$Tape") (T := F_T) (N := 2) hx hb hk fi_T hown hK.1 hP 3 rfl rfl 0 (by decide) (va_Nw.use rfl (hK.2 _ n_155)) (fun _ h9 => h9) rfl d_M_writeBlock_19 ?_
          refine lv_iload_n hx hb d_M_writeBlock_22 rfl (lv_at hl 0 rfl) ?_
          refine lv_aload_n hx hb d_M_writeBlock_23 rfl (lv_at hl 2 rfl) ?_
          refine lv_aload_n hx hb d_M_writeBlock_24 rfl (lv_at hl 2 rfl) ?_
          refine va_get (D := D) (ci := 1) (v := .int x0_12) (C := "SignMachine$Machine") (T := F_M) (N := 14) hx hb hk fi_M hown hK.1 hP 0 rfl rfl 12 (by decide) (hk _ k_179) (fun _ h9 => h9) rfl d_M_writeBlock_25 ?_
          refine lv_iload_n hx hb d_M_writeBlock_28 rfl (lv_at hl 0 rfl) ?_
          refine lv_iadd hx hb d_M_writeBlock_29 ?_
          refine lv_topi (fun v4 hv4 => ?_)
          refine sn_i (va_runV (C := "SignMachine$Machine") (As := [.int v4]) (rest := [.int l2, .int x3_0, .ref p3]) ⟨hx, hb, hml, hown, hk⟩ (c_M_wordAt_s4 l K D cI cJ cZ cB p0 p1 p2 p3 p4 p5 p6 H.size x0_4 x0_5 x0_6 x0_7 x0_8 x0_9 x0_10 x0_11 x0_12 x0_13 y1 y2 x3_0 x4_0 y5 y6  v4 ) (v_M_wordAt_s4 hk k_263 ⟨Nat.le_of_ble_eq_true rfl, Nat.le_of_ble_eq_true rfl⟩) (pMC_v hK hP hD hC hS hA (ci := 1) (q0 := 0) rfl rfl rfl) rfl rfl hl.1 rfl (lv_room (Nat.le_of_ble_eq_true rfl)) d_M_writeBlock_30 ⟨by decide, by decide⟩) hS hA hD (fun rz5 u t H locs hr0 ht hB hFr hS => ?_)
          have hrz5 := hr0
          obtain ⟨hP, hD⟩ := hB
          rw [ht] at hP
          have hD := dwk hD hFr
          clear ht hFr
          have hP : va_P D classes (wS60 cI cJ cZ cB p0 p1 p2 p3 p4 p5 p6 x0_4 x0_5 x0_6 x0_7 x0_8 x0_9 x0_10 x0_11 x0_12 x0_13 y1 y2 x3_0 x4_0 y5 y6) H := hP
          have hD : va_D A (wS60 cI cJ cZ cB p0 p1 p2 p3 p4 p5 p6 x0_4 x0_5 x0_6 x0_7 x0_8 x0_9 x0_10 x0_11 x0_12 x0_13 y1 y2 x3_0 x4_0 y5 y6) := hD
          refine kn_v (va_runV (C := "SignMachine$Tape") (As := [.int x3_0, .int l2, .int rz5]) (rest := []) ⟨hx, hb, hml, hown, hk⟩ (c_T_putWord_s7 l K D cI cJ cZ cB p0 p1 p2 p3 p4 p5 p6 H.size x0_4 x0_5 x0_6 x0_7 x0_8 x0_9 x0_10 x0_11 x0_12 x0_13 y1 y2 x3_0 x4_0 y5 y6  x3_0 l2 rz5 ) (v_T_putWord_s7 hk k_444 ⟨Nat.le_of_ble_eq_true rfl, Nat.le_of_ble_eq_true rfl⟩) (pMC_v hK hP hD hC hS hA (ci := 2) (q0 := 3) rfl rfl rfl) rfl rfl hl.1 rfl (lv_room (Nat.le_of_ble_eq_true rfl)) d_M_writeBlock_33 ⟨by decide, by decide⟩) hS hA hD (fun u t H locs ht hB hFr hS => ?_)
          obtain ⟨y5z6, hP, hD⟩ := hB
          rw [ht] at hP
          have hD := dwk hD hFr
          clear ht hFr
          have hP : va_P D classes (wS60 cI cJ cZ cB p0 p1 p2 p3 p4 p5 p6 x0_4 x0_5 x0_6 x0_7 x0_8 x0_9 x0_10 x0_11 x0_12 x0_13 y1 y2 x3_0 x4_0 y5z6 y6) H := hP
          have hD : va_D A (wS60 cI cJ cZ cB p0 p1 p2 p3 p4 p5 p6 x0_4 x0_5 x0_6 x0_7 x0_8 x0_9 x0_10 x0_11 x0_12 x0_13 y1 y2 x3_0 x4_0 y5z6 y6) := hD
          obtain ⟨v7, hv7⟩ : ∃ y : Int32, y = (l2 + (1 : Int32)) := ⟨_, rfl⟩
          refine lv_iinc (v := v7) (lv' := [(2, .int v7), (1, .ref p3), (0, .ref p0)]) hx hb d_M_writeBlock_36 hl (k := 0) rfl (by rw [hv7]; rfl) (by decide) rfl (fun ls hl => ?_)
          refine lv_goto (tgt := 11) hx hb d_M_writeBlock_39 (by decide) ?_
          exact ih v7 x3_0 x4_0 y5z6 y6 H _ ls (lpu c2 hv7 hn11_60) (lpn hc11_60 c2 hv7) hP hD hS (lv_sub hl [0, 1, 2] rfl)
    exact LP11_60 _ (0 : Int32) x3_0 x4_0 y5 y6 H _ ls (Nat.lt_succ_self _) (by decide) hP hD hS hl
  · subst hr0
    refine W.eq (g2 := F0 m 8 ls [.ref p4]) rfl ?_
    refine lv_astore_n (lv' := [(1, .ref p4), (0, .ref p0)]) hx hb d_M_writeBlock_8 rfl hl (by decide) rfl (fun ls hl => ?_)
    refine lv_iconst (v := 0) hx hb d_M_writeBlock_9 (by decide) ?_
    refine lv_istore_n (lv' := [(2, .int (0 : Int32)), (1, .ref p4), (0, .ref p0)]) hx hb d_M_writeBlock_10 rfl hl (by decide) rfl (fun ls hl => ?_)
    have LP11_60 : ∀ (n : Nat) (l2 : Int32) (x3_0 : Int32) (x4_0 : Int32) (y5 : Nat → Int32) (y6 : Nat → Int32) (H : Heap) (locs : List Loc) (ls : Array Slot), (((100 : Int32)).toInt - (l2).toInt).toNat < n → ¬ l2 < (0 : Int32) → va_P D classes (wS60 cI cJ cZ cB p0 p1 p2 p3 p4 p5 p6 x0_4 x0_5 x0_6 x0_7 x0_8 x0_9 x0_10 x0_11 x0_12 x0_13 y1 y2 x3_0 x4_0 y5 y6) H → va_D A (wS60 cI cJ cZ cB p0 p1 p2 p3 p4 p5 p6 x0_4 x0_5 x0_6 x0_7 x0_8 x0_9 x0_10 x0_11 x0_12 x0_13 y1 y2 x3_0 x4_0 y5 y6) → va_S A s.heap H locs → lv_has ls 3 [(2, .int l2), (1, .ref p4), (0, .ref p0)] → W p l e ({ frames := 2, cells := 0, slots := 0, locals := 44 }) s m [.ref p0].toArray below meth c H locs 0 0 (MQ below (va_Qv (fun (_ : Unit) => True) (fun _ t => (∃ u_x3_0 : Int32, ∃ u_x4_0 : Int32, ∃ u_y5 : Nat → Int32, ∃ u_y6 : Nat → Int32, va_P D classes (wS60 cI cJ cZ cB p0 p1 p2 p3 p4 p5 p6 x0_4 x0_5 x0_6 x0_7 x0_8 x0_9 x0_10 x0_11 x0_12 x0_13 y1 y2 u_x3_0 u_x4_0 u_y5 u_y6) t.heap ∧ va_D A (wS60 cI cJ cZ cB p0 p1 p2 p3 p4 p5 p6 x0_4 x0_5 x0_6 x0_7 x0_8 x0_9 x0_10 x0_11 x0_12 x0_13 y1 y2 u_x3_0 u_x4_0 u_y5 u_y6))) A) [.ref p0].toArray s 0 0 A) (F0 m 11 ls []) := by
      intro n
      induction n with
      | zero => intro l2 x3_0 x4_0 y5 y6 H locs ls hn; exact absurd hn (Nat.not_lt_zero _)
      | succ n ih =>
        intro l2 x3_0 x4_0 y5 y6 H locs ls hn11_60 hc11_60 hP hD hS hl
        refine lv_iload_n hx hb d_M_writeBlock_11 rfl (lv_at hl 0 rfl) ?_
        refine lv_bipush (v := 100) hx hb d_M_writeBlock_12 (by decide) ?_
        refine lv_icmp_ge (tgt := 42) hx hb d_M_writeBlock_14 (by decide) (fun c8 => ?_) (fun c8 => ?_)
        · refine lv_aload_n hx hb d_M_writeBlock_42 rfl (lv_at hl 1 rfl) ?_
          refine lv_dup hx hb d_M_writeBlock_43 rfl ?_
          refine va_getN (D := D) (ci := 2) (v := .int x4_0) (C := "SignMachine$Tape") (T := F_T) (N := 2) hx hb hk fi_T hown hK.1 hP 4 rfl rfl 0 (by decide) (va_Nw.use rfl (hK.2 _ n_155)) (fun _ h9 => h9) rfl d_M_writeBlock_44 ?_
          refine lv_iconst (v := 1) hx hb d_M_writeBlock_47 (by decide) ?_
          refine lv_iadd hx hb d_M_writeBlock_48 ?_
          refine lv_topi (fun v9 hv9 => ?_)
          refine va_putN (D := D) (ci := 2) (v := .int v9) (ty := .int) (C := "SignMachine$Tape") (T := F_T) (N := 2) hx hb hk fi_T ft_T ft_T_ok fn_T hown hK.1 hP hD hS 4 rfl rfl 0 (by decide) (va_Nw.use rfl (hK.2 _ n_155)) (fun _ h9 => h9) rfl (by decide +kernel) rfl rfl (Nat.le_of_ble_eq_true rfl) d_M_writeBlock_49 (fun H locs hP hD hS => ?_)
          have hP : va_P D classes (wS60 cI cJ cZ cB p0 p1 p2 p3 p4 p5 p6 x0_4 x0_5 x0_6 x0_7 x0_8 x0_9 x0_10 x0_11 x0_12 x0_13 y1 y2 x3_0 v9 y5 y6) H := hP
          have hD : va_D A (wS60 cI cJ cZ cB p0 p1 p2 p3 p4 p5 p6 x0_4 x0_5 x0_6 x0_7 x0_8 x0_9 x0_10 x0_11 x0_12 x0_13 y1 y2 x3_0 v9 y5 y6) := hD
          exact W.vret hx hb hr (fun t ht hW => ⟨⟨(), rfl, trivial, ⟨x3_0, v9, y5, y6, by show va_P D classes _ t.heap; rw [ht]; exact hP, hD⟩⟩, hS.F ht⟩) hS.2.2 d_M_writeBlock_52
        · refine lv_aload_n hx hb d_M_writeBlock_17 rfl (lv_at hl 1 rfl) ?_
          refine lv_aload_n hx hb d_M_writeBlock_18 rfl (lv_at hl 1 rfl) ?_
          refine va_getN (D := D) (ci := 2) (v := .int x4_0) (C := "SignMachine$Tape") (T := F_T) (N := 2) hx hb hk fi_T hown hK.1 hP 4 rfl rfl 0 (by decide) (va_Nw.use rfl (hK.2 _ n_155)) (fun _ h9 => h9) rfl d_M_writeBlock_19 ?_
          refine lv_iload_n hx hb d_M_writeBlock_22 rfl (lv_at hl 0 rfl) ?_
          refine lv_aload_n hx hb d_M_writeBlock_23 rfl (lv_at hl 2 rfl) ?_
          refine lv_aload_n hx hb d_M_writeBlock_24 rfl (lv_at hl 2 rfl) ?_
          refine va_get (D := D) (ci := 1) (v := .int x0_12) (C := "SignMachine$Machine") (T := F_M) (N := 14) hx hb hk fi_M hown hK.1 hP 0 rfl rfl 12 (by decide) (hk _ k_179) (fun _ h9 => h9) rfl d_M_writeBlock_25 ?_
          refine lv_iload_n hx hb d_M_writeBlock_28 rfl (lv_at hl 0 rfl) ?_
          refine lv_iadd hx hb d_M_writeBlock_29 ?_
          refine lv_topi (fun v10 hv10 => ?_)
          refine sn_i (va_runV (C := "SignMachine$Machine") (As := [.int v10]) (rest := [.int l2, .int x4_0, .ref p4]) ⟨hx, hb, hml, hown, hk⟩ (c_M_wordAt_s4 l K D cI cJ cZ cB p0 p1 p2 p3 p4 p5 p6 H.size x0_4 x0_5 x0_6 x0_7 x0_8 x0_9 x0_10 x0_11 x0_12 x0_13 y1 y2 x3_0 x4_0 y5 y6  v10 ) (v_M_wordAt_s4 hk k_263 ⟨Nat.le_of_ble_eq_true rfl, Nat.le_of_ble_eq_true rfl⟩) (pMC_v hK hP hD hC hS hA (ci := 1) (q0 := 0) rfl rfl rfl) rfl rfl hl.1 rfl (lv_room (Nat.le_of_ble_eq_true rfl)) d_M_writeBlock_30 ⟨by decide, by decide⟩) hS hA hD (fun rz11 u t H locs hr0 ht hB hFr hS => ?_)
          have hrz11 := hr0
          obtain ⟨hP, hD⟩ := hB
          rw [ht] at hP
          have hD := dwk hD hFr
          clear ht hFr
          have hP : va_P D classes (wS60 cI cJ cZ cB p0 p1 p2 p3 p4 p5 p6 x0_4 x0_5 x0_6 x0_7 x0_8 x0_9 x0_10 x0_11 x0_12 x0_13 y1 y2 x3_0 x4_0 y5 y6) H := hP
          have hD : va_D A (wS60 cI cJ cZ cB p0 p1 p2 p3 p4 p5 p6 x0_4 x0_5 x0_6 x0_7 x0_8 x0_9 x0_10 x0_11 x0_12 x0_13 y1 y2 x3_0 x4_0 y5 y6) := hD
          refine kn_v (va_runV (C := "SignMachine$Tape") (As := [.int x4_0, .int l2, .int rz11]) (rest := []) ⟨hx, hb, hml, hown, hk⟩ (c_T_putWord_s6 l K D cI cJ cZ cB p0 p1 p2 p3 p4 p5 p6 H.size x0_4 x0_5 x0_6 x0_7 x0_8 x0_9 x0_10 x0_11 x0_12 x0_13 y1 y2 x3_0 x4_0 y5 y6  x4_0 l2 rz11 ) (v_T_putWord_s6 hk k_444 ⟨Nat.le_of_ble_eq_true rfl, Nat.le_of_ble_eq_true rfl⟩) (pMC_v hK hP hD hC hS hA (ci := 2) (q0 := 4) rfl rfl rfl) rfl rfl hl.1 rfl (lv_room (Nat.le_of_ble_eq_true rfl)) d_M_writeBlock_33 ⟨by decide, by decide⟩) hS hA hD (fun u t H locs ht hB hFr hS => ?_)
          obtain ⟨y6z12, hP, hD⟩ := hB
          rw [ht] at hP
          have hD := dwk hD hFr
          clear ht hFr
          have hP : va_P D classes (wS60 cI cJ cZ cB p0 p1 p2 p3 p4 p5 p6 x0_4 x0_5 x0_6 x0_7 x0_8 x0_9 x0_10 x0_11 x0_12 x0_13 y1 y2 x3_0 x4_0 y5 y6z12) H := hP
          have hD : va_D A (wS60 cI cJ cZ cB p0 p1 p2 p3 p4 p5 p6 x0_4 x0_5 x0_6 x0_7 x0_8 x0_9 x0_10 x0_11 x0_12 x0_13 y1 y2 x3_0 x4_0 y5 y6z12) := hD
          obtain ⟨v13, hv13⟩ : ∃ y : Int32, y = (l2 + (1 : Int32)) := ⟨_, rfl⟩
          refine lv_iinc (v := v13) (lv' := [(2, .int v13), (1, .ref p4), (0, .ref p0)]) hx hb d_M_writeBlock_36 hl (k := 0) rfl (by rw [hv13]; rfl) (by decide) rfl (fun ls hl => ?_)
          refine lv_goto (tgt := 11) hx hb d_M_writeBlock_39 (by decide) ?_
          exact ih v13 x3_0 x4_0 y5 y6z12 H _ ls (lpu c8 hv13 hn11_60) (lpn hc11_60 c8 hv13) hP hD hS (lv_sub hl [0, 1, 2] rfl)
    exact LP11_60 _ (0 : Int32) x3_0 x4_0 y5 y6 H _ ls (Nat.lt_succ_self _) (by decide) hP hD hS hl
theorem v_M_writeBlock_s5 {R : Room} {s : State} {args : Array Value} {own : String} {index : Nat} (hk : ∀ w ∈ tb, w.before args s = true) (hl : Cond.methodLink own index y_M_writeBlock ∈ tb) (hR : 2 + 1 ≤ R.frames ∧ 8 + (3 + 11) + 44 ≤ R.locals) : CallW R s args own "SignMachine$Machine" index y_M_writeBlock b_M_writeBlock 3 none (.code y_M_writeBlock b_M_writeBlock 3 none :: tb) ({ frames := 2, cells := 0, slots := 0, locals := 44 }) 0 0 0 := mk_v 0 hk k_443 hl k_442 k_27 k_117 rfl rfl h_M_writeBlock hR
set_option maxHeartbeats 4000000 in
set_option maxRecDepth 100000 in
theorem c_M_goIf_s2 (l : Launch) (K : CK) (D : va_G) (cI cJ cZ cB : ClassId) (p0 p1 p2 p3 p4 p5 p6 : Nat) (sz : Nat) (x0_4 : Bool) (x0_5 : Int32) (x0_6 : Int32) (x0_7 : Int32) (x0_8 : Int32) (x0_9 : Int32) (x0_10 : Int32) (x0_11 : Int32) (x0_12 : Int32) (x0_13 : Int32) (y1 : Nat → Int32) (y2 : Nat → Int32) (x3_0 : Int32) (x4_0 : Int32) (y5 : Nat → Int32) (y6 : Nat → Int32)  (a1 : Bool) : Met l y_M_goIf (.code y_M_goIf b_M_goIf 2 none :: tb) ({ frames := 1, cells := 0, slots := 0, locals := 22 }) (pMC K D cI cJ cZ cB (wS60 cI cJ cZ cB p0 p1 p2 p3 p4 p5 p6 x0_4 x0_5 x0_6 x0_7 x0_8 x0_9 x0_10 x0_11 x0_12 x0_13 y1 y2 x3_0 x4_0 y5 y6) sz [.ref p0, .int (bI a1)]) (va_Qv (fun (_ : Unit) => True) (fun _ t => (∃ u_x0_7 : Int32, ∃ u_y2 : Nat → Int32, va_P D classes (wS60 cI cJ cZ cB p0 p1 p2 p3 p4 p5 p6 x0_4 x0_5 x0_6 u_x0_7 x0_8 x0_9 x0_10 x0_11 x0_12 x0_13 y1 u_y2 x3_0 x4_0 y5 y6) t.heap ∧ va_D (va_A (wS60 cI cJ cZ cB p0 p1 p2 p3 p4 p5 p6 x0_4 x0_5 x0_6 x0_7 x0_8 x0_9 x0_10 x0_11 x0_12 x0_13 y1 y2 x3_0 x4_0 y5 y6) sz) (wS60 cI cJ cZ cB p0 p1 p2 p3 p4 p5 p6 x0_4 x0_5 x0_6 u_x0_7 x0_8 x0_9 x0_10 x0_11 x0_12 x0_13 y1 u_y2 x3_0 x4_0 y5 y6))) (va_A (wS60 cI cJ cZ cB p0 p1 p2 p3 p4 p5 p6 x0_4 x0_5 x0_6 x0_7 x0_8 x0_9 x0_10 x0_11 x0_12 x0_13 y1 y2 x3_0 x4_0 y5 y6) sz)) 0 0 (va_A (wS60 cI cJ cZ cB p0 p1 p2 p3 p4 p5 p6 x0_4 x0_5 x0_6 x0_7 x0_8 x0_9 x0_10 x0_11 x0_12 x0_13 y1 y2 x3_0 x4_0 y5 y6) sz) := by
  refine Met.ofW (cc := b_M_goIf) (maxL := 2) (ret := none) (by decide) rfl ?_
  intro p e s m args below meth c s₁ B hml hv
  obtain ⟨rfl, hsz, hK, hP, hD0, hC⟩ := hv
  subst hsz
  have hD := hD0.self (sz := s.heap.size)
  generalize hAe : va_A (wS60 cI cJ cZ cB p0 p1 p2 p3 p4 p5 p6 x0_4 x0_5 x0_6 x0_7 x0_8 x0_9 x0_10 x0_11 x0_12 x0_13 y1 y2 x3_0 x4_0 y5 y6) s.heap.size = A at hD hC ⊢
  have hA : ∀ q : Nat, s.heap.size ≤ q → A q := fun q h => by rw [← hAe]; exact Or.inr h
  clear hAe hD0
  have hS : va_S A s.heap s.heap [] := va_S.rf
  have hx := B.exec
  have hb := B.bytes
  have hr := B.returns
  have hts := atoms_spec (ws := .code y_M_goIf b_M_goIf 2 none :: tb) B.pre
  have hk : ∀ w ∈ tb, w.before [.ref p0, .int (bI a1)].toArray s = true := fun w h => hts w (List.mem_cons_of_mem _ h)
  have hown : s.vm.findClass "SignMachine$Machine" = some m.cls := findClass_of_methodNamed B.named
  have hlocks := B.notSynchronized
  have hl := lv_entry ([.ref p0, .int (bI a1)]) (n := 2) (Nat.le_of_ble_eq_true rfl)
  rw [lg_entry_eq]
  generalize (lg_sl ([.ref p0, .int (bI a1)]) ++ List.replicate (2 - (lg_sl ([.ref p0, .int (bI a1)])).length) Slot.unset).toArray = ls at hl ⊢
  have hl : lv_has ls 2 [(0, .ref p0), (1, .int (bI a1))] := hl
  refine lv_iload_n hx hb d_M_goIf_0 rfl (lv_at hl 1 rfl) ?_
  refine lv_if_eq (tgt := 22) hx hb d_M_goIf_1 (by decide) (fun c1 => ?_) (fun c1 => ?_)
  · exact W.vret hx hb hr (fun t ht hW => ⟨⟨(), rfl, trivial, ⟨x0_7, y2, by show va_P D classes _ t.heap; rw [ht]; exact hP, hD⟩⟩, hS.F ht⟩) hS.2.2 d_M_goIf_22
  · refine lv_aload_n hx hb d_M_goIf_4 rfl (lv_at hl 0 rfl) ?_
    refine lv_bipush (v := 8) hx hb d_M_goIf_5 (by decide) ?_
    refine lv_aload_n hx hb d_M_goIf_7 rfl (lv_at hl 0 rfl) ?_
    refine va_get (D := D) (ci := 1) (v := .int x0_7) (C := "SignMachine$Machine") (T := F_M) (N := 14) hx hb hk fi_M hown hK.1 hP 0 rfl rfl 7 (by decide) (hk _ k_174) (fun _ h9 => h9) rfl d_M_goIf_8 ?_
    refine kn_v (va_runV (C := "SignMachine$Machine") (As := [.int (8 : Int32), .int x0_7]) (rest := []) ⟨hx, hb, hml, hown, hk⟩ (c_M_putRegister_s2 l K D cI cJ cZ cB p0 p1 p2 p3 p4 p5 p6 s.heap.size x0_4 x0_5 x0_6 x0_7 x0_8 x0_9 x0_10 x0_11 x0_12 x0_13 y1 y2 x3_0 x4_0 y5 y6  (8 : Int32) x0_7 ) (v_M_putRegister_s2 hk k_362 ⟨Nat.le_of_ble_eq_true rfl, Nat.le_of_ble_eq_true rfl⟩) (pMC_v hK hP hD hC hS hA (ci := 1) (q0 := 0) rfl rfl rfl) rfl rfl hl.1 rfl (lv_room (Nat.le_of_ble_eq_true rfl)) d_M_goIf_11 ⟨by decide, by decide⟩) hS hA hD (fun u t H locs ht hB hFr hS => ?_)
    obtain ⟨y2z2, hP, hD⟩ := hB
    rw [ht] at hP
    have hD := dwk hD hFr
    clear ht hFr
    have hP : va_P D classes (wS60 cI cJ cZ cB p0 p1 p2 p3 p4 p5 p6 x0_4 x0_5 x0_6 x0_7 x0_8 x0_9 x0_10 x0_11 x0_12 x0_13 y1 y2z2 x3_0 x4_0 y5 y6) H := hP
    have hD : va_D A (wS60 cI cJ cZ cB p0 p1 p2 p3 p4 p5 p6 x0_4 x0_5 x0_6 x0_7 x0_8 x0_9 x0_10 x0_11 x0_12 x0_13 y1 y2z2 x3_0 x4_0 y5 y6) := hD
    refine lv_aload_n hx hb d_M_goIf_14 rfl (lv_at hl 0 rfl) ?_
    refine lv_aload_n hx hb d_M_goIf_15 rfl (lv_at hl 0 rfl) ?_
    refine va_get (D := D) (ci := 1) (v := .int x0_12) (C := "SignMachine$Machine") (T := F_M) (N := 14) hx hb hk fi_M hown hK.1 hP 0 rfl rfl 12 (by decide) (hk _ k_179) (fun _ h9 => h9) rfl d_M_goIf_16 ?_
    refine va_put (D := D) (ci := 1) (v := .int x0_12) (ty := .int) (C := "SignMachine$Machine") (T := F_M) (N := 14) hx hb hk fi_M ft_M ft_M_ok fn_M hown hK.1 hP hD hS 0 rfl rfl 7 (by decide) (hk _ k_174) (fun _ h9 => h9) rfl (by decide +kernel) rfl rfl (Nat.le_of_ble_eq_true rfl) d_M_goIf_19 (fun H locs hP hD hS => ?_)
    have hP : va_P D classes (wS60 cI cJ cZ cB p0 p1 p2 p3 p4 p5 p6 x0_4 x0_5 x0_6 x0_12 x0_8 x0_9 x0_10 x0_11 x0_12 x0_13 y1 y2z2 x3_0 x4_0 y5 y6) H := hP
    have hD : va_D A (wS60 cI cJ cZ cB p0 p1 p2 p3 p4 p5 p6 x0_4 x0_5 x0_6 x0_12 x0_8 x0_9 x0_10 x0_11 x0_12 x0_13 y1 y2z2 x3_0 x4_0 y5 y6) := hD
    exact W.vret hx hb hr (fun t ht hW => ⟨⟨(), rfl, trivial, ⟨x0_12, y2z2, by show va_P D classes _ t.heap; rw [ht]; exact hP, hD⟩⟩, hS.F ht⟩) hS.2.2 d_M_goIf_22
theorem v_M_goIf_s2 {R : Room} {s : State} {args : Array Value} {own : String} {index : Nat} (hk : ∀ w ∈ tb, w.before args s = true) (hl : Cond.methodLink own index y_M_goIf ∈ tb) (hR : 1 + 1 ≤ R.frames ∧ 8 + (2 + 11) + 22 ≤ R.locals) : CallW R s args own "SignMachine$Machine" index y_M_goIf b_M_goIf 2 none (.code y_M_goIf b_M_goIf 2 none :: tb) ({ frames := 1, cells := 0, slots := 0, locals := 22 }) 0 0 1 := mk_v 1 hk k_451 hl k_450 k_28 k_117 rfl rfl h_M_goIf hR
set_option maxHeartbeats 4000000 in
set_option maxRecDepth 100000 in
theorem c_M_goByState_s2 (l : Launch) (K : CK) (D : va_G) (cI cJ cZ cB : ClassId) (p0 p1 p2 p3 p4 p5 p6 : Nat) (sz : Nat) (x0_4 : Bool) (x0_5 : Int32) (x0_6 : Int32) (x0_7 : Int32) (x0_8 : Int32) (x0_9 : Int32) (x0_10 : Int32) (x0_11 : Int32) (x0_12 : Int32) (x0_13 : Int32) (y1 : Nat → Int32) (y2 : Nat → Int32) (x3_0 : Int32) (x4_0 : Int32) (y5 : Nat → Int32) (y6 : Nat → Int32)   : Met l y_M_goByState (.code y_M_goByState b_M_goByState 2 none :: tb) ({ frames := 2, cells := 0, slots := 0, locals := 43 }) (pMC K D cI cJ cZ cB (wS60 cI cJ cZ cB p0 p1 p2 p3 p4 p5 p6 x0_4 x0_5 x0_6 x0_7 x0_8 x0_9 x0_10 x0_11 x0_12 x0_13 y1 y2 x3_0 x4_0 y5 y6) sz [.ref p0]) (va_Qv (fun (_ : Unit) => True) (fun _ t => (∃ u_x0_4 : Bool, ∃ u_x0_7 : Int32, ∃ u_y2 : Nat → Int32, va_P D classes (wS60 cI cJ cZ cB p0 p1 p2 p3 p4 p5 p6 u_x0_4 x0_5 x0_6 u_x0_7 x0_8 x0_9 x0_10 x0_11 x0_12 x0_13 y1 u_y2 x3_0 x4_0 y5 y6) t.heap ∧ va_D (va_A (wS60 cI cJ cZ cB p0 p1 p2 p3 p4 p5 p6 x0_4 x0_5 x0_6 x0_7 x0_8 x0_9 x0_10 x0_11 x0_12 x0_13 y1 y2 x3_0 x4_0 y5 y6) sz) (wS60 cI cJ cZ cB p0 p1 p2 p3 p4 p5 p6 u_x0_4 x0_5 x0_6 u_x0_7 x0_8 x0_9 x0_10 x0_11 x0_12 x0_13 y1 u_y2 x3_0 x4_0 y5 y6))) (va_A (wS60 cI cJ cZ cB p0 p1 p2 p3 p4 p5 p6 x0_4 x0_5 x0_6 x0_7 x0_8 x0_9 x0_10 x0_11 x0_12 x0_13 y1 y2 x3_0 x4_0 y5 y6) sz)) 0 0 (va_A (wS60 cI cJ cZ cB p0 p1 p2 p3 p4 p5 p6 x0_4 x0_5 x0_6 x0_7 x0_8 x0_9 x0_10 x0_11 x0_12 x0_13 y1 y2 x3_0 x4_0 y5 y6) sz) := by
  refine Met.ofW (cc := b_M_goByState) (maxL := 2) (ret := none) (by decide) rfl ?_
  intro p e s m args below meth c s₁ B hml hv
  obtain ⟨rfl, hsz, hK, hP, hD0, hC⟩ := hv
  subst hsz
  have hD := hD0.self (sz := s.heap.size)
  generalize hAe : va_A (wS60 cI cJ cZ cB p0 p1 p2 p3 p4 p5 p6 x0_4 x0_5 x0_6 x0_7 x0_8 x0_9 x0_10 x0_11 x0_12 x0_13 y1 y2 x3_0 x4_0 y5 y6) s.heap.size = A at hD hC ⊢
  have hA : ∀ q : Nat, s.heap.size ≤ q → A q := fun q h => by rw [← hAe]; exact Or.inr h
  clear hAe hD0
  have hS : va_S A s.heap s.heap [] := va_S.rf
  have hx := B.exec
  have hb := B.bytes
  have hr := B.returns
  have hts := atoms_spec (ws := .code y_M_goByState b_M_goByState 2 none :: tb) B.pre
  have hk : ∀ w ∈ tb, w.before [.ref p0].toArray s = true := fun w h => hts w (List.mem_cons_of_mem _ h)
  have hown : s.vm.findClass "SignMachine$Machine" = some m.cls := findClass_of_methodNamed B.named
  have hlocks := B.notSynchronized
  have hl := lv_entry ([.ref p0]) (n := 2) (Nat.le_of_ble_eq_true rfl)
  rw [lg_entry_eq]
  generalize (lg_sl ([.ref p0]) ++ List.replicate (2 - (lg_sl ([.ref p0])).length) Slot.unset).toArray = ls at hl ⊢
  have hl : lv_has ls 2 [(0, .ref p0)] := hl
  refine lv_aload_n hx hb d_M_goByState_0 rfl (lv_at hl 0 rfl) ?_
  refine va_get (D := D) (ci := 1) (v := .int (bI x0_4)) (C := "SignMachine$Machine") (T := F_M) (N := 14) hx hb hk fi_M hown hK.1 hP 0 rfl rfl 4 (by decide) (hk _ k_168) (fun _ h9 => h9) rfl d_M_goByState_1 ?_
  refine lv_istore_n (lv' := [(1, .int (bI x0_4)), (0, .ref p0)]) hx hb d_M_goByState_4 rfl hl (by decide) rfl (fun ls hl => ?_)
  refine lv_aload_n hx hb d_M_goByState_5 rfl (lv_at hl 1 rfl) ?_
  refine va_get (D := D) (ci := 1) (v := .int x0_10) (C := "SignMachine$Machine") (T := F_M) (N := 14) hx hb hk fi_M hown hK.1 hP 0 rfl rfl 10 (by decide) (hk _ k_177) (fun _ h9 => h9) rfl d_M_goByState_6 ?_
  by_cases c1 : x0_10 = (0 : Int32)
  · refine lv_tableIn (off := 51) (tgt := 60) hx hb d_M_goByState_9 (by rw [c1]; decide) (by rw [c1]; decide) (by rw [c1]; rfl) (by decide) ?_
    refine lv_aload_n hx hb d_M_goByState_60 rfl (lv_at hl 1 rfl) ?_
    refine lv_iconst (v := 1) hx hb d_M_goByState_61 (by decide) ?_
    refine kn_v (va_runV (C := "SignMachine$Machine") (As := [.int (bI true)]) (rest := []) ⟨hx, hb, hml, hown, hk⟩ (c_M_goIf_s2 l K D cI cJ cZ cB p0 p1 p2 p3 p4 p5 p6 s.heap.size x0_4 x0_5 x0_6 x0_7 x0_8 x0_9 x0_10 x0_11 x0_12 x0_13 y1 y2 x3_0 x4_0 y5 y6  true ) (v_M_goIf_s2 hk k_448 ⟨Nat.le_of_ble_eq_true rfl, Nat.le_of_ble_eq_true rfl⟩) (pMC_v hK hP hD hC hS hA (ci := 1) (q0 := 0) rfl rfl rfl) rfl rfl hl.1 rfl (lv_room (Nat.le_of_ble_eq_true rfl)) d_M_goByState_62 ⟨by decide, by decide⟩) hS hA hD (fun u t H locs ht hB hFr hS => ?_)
    obtain ⟨x0_7z2, y2z2, hP, hD⟩ := hB
    rw [ht] at hP
    have hD := dwk hD hFr
    clear ht hFr
    have hP : va_P D classes (wS60 cI cJ cZ cB p0 p1 p2 p3 p4 p5 p6 x0_4 x0_5 x0_6 x0_7z2 x0_8 x0_9 x0_10 x0_11 x0_12 x0_13 y1 y2z2 x3_0 x4_0 y5 y6) H := hP
    have hD : va_D A (wS60 cI cJ cZ cB p0 p1 p2 p3 p4 p5 p6 x0_4 x0_5 x0_6 x0_7z2 x0_8 x0_9 x0_10 x0_11 x0_12 x0_13 y1 y2z2 x3_0 x4_0 y5 y6) := hD
    refine lv_goto (tgt := 224) hx hb d_M_goByState_65 (by decide) ?_
    exact W.vret hx hb hr (fun t ht hW => ⟨⟨(), rfl, trivial, ⟨x0_4, x0_7z2, y2z2, by show va_P D classes _ t.heap; rw [ht]; exact hP, hD⟩⟩, hS.F ht⟩) hS.2.2 d_M_goByState_224
  · by_cases c3 : x0_10 = (1 : Int32)
    · refine lv_tableIn (off := 59) (tgt := 68) hx hb d_M_goByState_9 (by rw [c3]; decide) (by rw [c3]; decide) (by rw [c3]; rfl) (by decide) ?_
      refine lv_aload_n hx hb d_M_goByState_68 rfl (lv_at hl 1 rfl) ?_
      refine lv_aload_n hx hb d_M_goByState_69 rfl (lv_at hl 1 rfl) ?_
      refine va_get (D := D) (ci := 1) (v := .int x0_12) (C := "SignMachine$Machine") (T := F_M) (N := 14) hx hb hk fi_M hown hK.1 hP 0 rfl rfl 12 (by decide) (hk _ k_179) (fun _ h9 => h9) rfl d_M_goByState_70 ?_
      refine va_put (D := D) (ci := 1) (v := .int x0_12) (ty := .int) (C := "SignMachine$Machine") (T := F_M) (N := 14) hx hb hk fi_M ft_M ft_M_ok fn_M hown hK.1 hP hD hS 0 rfl rfl 7 (by decide) (hk _ k_174) (fun _ h9 => h9) rfl (by decide +kernel) rfl rfl (Nat.le_of_ble_eq_true rfl) d_M_goByState_73 (fun H locs hP hD hS => ?_)
      have hP : va_P D classes (wS60 cI cJ cZ cB p0 p1 p2 p3 p4 p5 p6 x0_4 x0_5 x0_6 x0_12 x0_8 x0_9 x0_10 x0_11 x0_12 x0_13 y1 y2 x3_0 x4_0 y5 y6) H := hP
      have hD : va_D A (wS60 cI cJ cZ cB p0 p1 p2 p3 p4 p5 p6 x0_4 x0_5 x0_6 x0_12 x0_8 x0_9 x0_10 x0_11 x0_12 x0_13 y1 y2 x3_0 x4_0 y5 y6) := hD
      refine lv_goto (tgt := 224) hx hb d_M_goByState_76 (by decide) ?_
      exact W.vret hx hb hr (fun t ht hW => ⟨⟨(), rfl, trivial, ⟨x0_4, x0_12, y2, by show va_P D classes _ t.heap; rw [ht]; exact hP, hD⟩⟩, hS.F ht⟩) hS.2.2 d_M_goByState_224
    · by_cases c4 : x0_10 = (2 : Int32)
      · refine lv_tableIn (off := 70) (tgt := 79) hx hb d_M_goByState_9 (by rw [c4]; decide) (by rw [c4]; decide) (by rw [c4]; rfl) (by decide) ?_
        refine lv_aload_n hx hb d_M_goByState_79 rfl (lv_at hl 1 rfl) ?_
        refine lv_iconst (v := 0) hx hb d_M_goByState_80 (by decide) ?_
        refine va_put (D := D) (ci := 1) (v := .int (0 : Int32)) (ty := .boolean) (C := "SignMachine$Machine") (T := F_M) (N := 14) hx hb hk fi_M ft_M ft_M_ok fn_M hown hK.1 hP hD hS 0 rfl rfl 4 (by decide) (hk _ k_168) (fun _ h9 => h9) rfl (by decide +kernel) rfl rfl (Nat.le_of_ble_eq_true rfl) d_M_goByState_81 (fun H locs hP hD hS => ?_)
        have hP : va_P D classes (wS60 cI cJ cZ cB p0 p1 p2 p3 p4 p5 p6 false x0_5 x0_6 x0_7 x0_8 x0_9 x0_10 x0_11 x0_12 x0_13 y1 y2 x3_0 x4_0 y5 y6) H := hP
        have hD : va_D A (wS60 cI cJ cZ cB p0 p1 p2 p3 p4 p5 p6 false x0_5 x0_6 x0_7 x0_8 x0_9 x0_10 x0_11 x0_12 x0_13 y1 y2 x3_0 x4_0 y5 y6) := hD
        refine lv_aload_n hx hb d_M_goByState_84 rfl (lv_at hl 1 rfl) ?_
        refine lv_iload_n hx hb d_M_goByState_85 rfl (lv_at hl 0 rfl) ?_
        refine kn_v (va_runV (C := "SignMachine$Machine") (As := [.int (bI x0_4)]) (rest := []) ⟨hx, hb, hml, hown, hk⟩ (c_M_goIf_s2 l K D cI cJ cZ cB p0 p1 p2 p3 p4 p5 p6 H.size false x0_5 x0_6 x0_7 x0_8 x0_9 x0_10 x0_11 x0_12 x0_13 y1 y2 x3_0 x4_0 y5 y6  x0_4 ) (v_M_goIf_s2 hk k_448 ⟨Nat.le_of_ble_eq_true rfl, Nat.le_of_ble_eq_true rfl⟩) (pMC_v hK hP hD hC hS hA (ci := 1) (q0 := 0) rfl rfl rfl) rfl rfl hl.1 rfl (lv_room (Nat.le_of_ble_eq_true rfl)) d_M_goByState_86 ⟨by decide, by decide⟩) hS hA hD (fun u t H locs ht hB hFr hS => ?_)
        obtain ⟨x0_7z5, y2z5, hP, hD⟩ := hB
        rw [ht] at hP
        have hD := dwk hD hFr
        clear ht hFr
        have hP : va_P D classes (wS60 cI cJ cZ cB p0 p1 p2 p3 p4 p5 p6 false x0_5 x0_6 x0_7z5 x0_8 x0_9 x0_10 x0_11 x0_12 x0_13 y1 y2z5 x3_0 x4_0 y5 y6) H := hP
        have hD : va_D A (wS60 cI cJ cZ cB p0 p1 p2 p3 p4 p5 p6 false x0_5 x0_6 x0_7z5 x0_8 x0_9 x0_10 x0_11 x0_12 x0_13 y1 y2z5 x3_0 x4_0 y5 y6) := hD
        refine lv_goto (tgt := 224) hx hb d_M_goByState_89 (by decide) ?_
        exact W.vret hx hb hr (fun t ht hW => ⟨⟨(), rfl, trivial, ⟨false, x0_7z5, y2z5, by show va_P D classes _ t.heap; rw [ht]; exact hP, hD⟩⟩, hS.F ht⟩) hS.2.2 d_M_goByState_224
      · by_cases c6 : x0_10 = (3 : Int32)
        · refine lv_tableIn (off := 83) (tgt := 92) hx hb d_M_goByState_9 (by rw [c6]; decide) (by rw [c6]; decide) (by rw [c6]; rfl) (by decide) ?_
          refine lv_aload_n hx hb d_M_goByState_92 rfl (lv_at hl 1 rfl) ?_
          refine lv_iconst (v := 0) hx hb d_M_goByState_93 (by decide) ?_
          refine va_put (D := D) (ci := 1) (v := .int (0 : Int32)) (ty := .boolean) (C := "SignMachine$Machine") (T := F_M) (N := 14) hx hb hk fi_M ft_M ft_M_ok fn_M hown hK.1 hP hD hS 0 rfl rfl 4 (by decide) (hk _ k_168) (fun _ h9 => h9) rfl (by decide +kernel) rfl rfl (Nat.le_of_ble_eq_true rfl) d_M_goByState_94 (fun H locs hP hD hS => ?_)
          have hP : va_P D classes (wS60 cI cJ cZ cB p0 p1 p2 p3 p4 p5 p6 false x0_5 x0_6 x0_7 x0_8 x0_9 x0_10 x0_11 x0_12 x0_13 y1 y2 x3_0 x4_0 y5 y6) H := hP
          have hD : va_D A (wS60 cI cJ cZ cB p0 p1 p2 p3 p4 p5 p6 false x0_5 x0_6 x0_7 x0_8 x0_9 x0_10 x0_11 x0_12 x0_13 y1 y2 x3_0 x4_0 y5 y6) := hD
          refine lv_aload_n hx hb d_M_goByState_97 rfl (lv_at hl 1 rfl) ?_
          refine lv_iload_n hx hb d_M_goByState_98 rfl (lv_at hl 0 rfl) ?_
          refine lv_if_ne (tgt := 106) hx hb d_M_goByState_99 (by decide) (fun c7 => ?_) (fun c7 => ?_)
          · refine lv_iconst (v := 0) hx hb d_M_goByState_106 (by decide) ?_
            refine kn_v (va_runV (C := "SignMachine$Machine") (As := [.int (bI false)]) (rest := []) ⟨hx, hb, hml, hown, hk⟩ (c_M_goIf_s2 l K D cI cJ cZ cB p0 p1 p2 p3 p4 p5 p6 H.size false x0_5 x0_6 x0_7 x0_8 x0_9 x0_10 x0_11 x0_12 x0_13 y1 y2 x3_0 x4_0 y5 y6  false ) (v_M_goIf_s2 hk k_448 ⟨Nat.le_of_ble_eq_true rfl, Nat.le_of_ble_eq_true rfl⟩) (pMC_v hK hP hD hC hS hA (ci := 1) (q0 := 0) rfl rfl rfl) rfl rfl hl.1 rfl (lv_room (Nat.le_of_ble_eq_true rfl)) d_M_goByState_107 ⟨by decide, by decide⟩) hS hA hD (fun u t H locs ht hB hFr hS => ?_)
            obtain ⟨x0_7z8, y2z8, hP, hD⟩ := hB
            rw [ht] at hP
            have hD := dwk hD hFr
            clear ht hFr
            have hP : va_P D classes (wS60 cI cJ cZ cB p0 p1 p2 p3 p4 p5 p6 false x0_5 x0_6 x0_7z8 x0_8 x0_9 x0_10 x0_11 x0_12 x0_13 y1 y2z8 x3_0 x4_0 y5 y6) H := hP
            have hD : va_D A (wS60 cI cJ cZ cB p0 p1 p2 p3 p4 p5 p6 false x0_5 x0_6 x0_7z8 x0_8 x0_9 x0_10 x0_11 x0_12 x0_13 y1 y2z8 x3_0 x4_0 y5 y6) := hD
            refine lv_goto (tgt := 224) hx hb d_M_goByState_110 (by decide) ?_
            exact W.vret hx hb hr (fun t ht hW => ⟨⟨(), rfl, trivial, ⟨false, x0_7z8, y2z8, by show va_P D classes _ t.heap; rw [ht]; exact hP, hD⟩⟩, hS.F ht⟩) hS.2.2 d_M_goByState_224
          · refine lv_iconst (v := 1) hx hb d_M_goByState_102 (by decide) ?_
            refine lv_goto (tgt := 107) hx hb d_M_goByState_103 (by decide) ?_
            refine kn_v (va_runV (C := "SignMachine$Machine") (As := [.int (bI true)]) (rest := []) ⟨hx, hb, hml, hown, hk⟩ (c_M_goIf_s2 l K D cI cJ cZ cB p0 p1 p2 p3 p4 p5 p6 H.size false x0_5 x0_6 x0_7 x0_8 x0_9 x0_10 x0_11 x0_12 x0_13 y1 y2 x3_0 x4_0 y5 y6  true ) (v_M_goIf_s2 hk k_448 ⟨Nat.le_of_ble_eq_true rfl, Nat.le_of_ble_eq_true rfl⟩) (pMC_v hK hP hD hC hS hA (ci := 1) (q0 := 0) rfl rfl rfl) rfl rfl hl.1 rfl (lv_room (Nat.le_of_ble_eq_true rfl)) d_M_goByState_107 ⟨by decide, by decide⟩) hS hA hD (fun u t H locs ht hB hFr hS => ?_)
            obtain ⟨x0_7z9, y2z9, hP, hD⟩ := hB
            rw [ht] at hP
            have hD := dwk hD hFr
            clear ht hFr
            have hP : va_P D classes (wS60 cI cJ cZ cB p0 p1 p2 p3 p4 p5 p6 false x0_5 x0_6 x0_7z9 x0_8 x0_9 x0_10 x0_11 x0_12 x0_13 y1 y2z9 x3_0 x4_0 y5 y6) H := hP
            have hD : va_D A (wS60 cI cJ cZ cB p0 p1 p2 p3 p4 p5 p6 false x0_5 x0_6 x0_7z9 x0_8 x0_9 x0_10 x0_11 x0_12 x0_13 y1 y2z9 x3_0 x4_0 y5 y6) := hD
            refine lv_goto (tgt := 224) hx hb d_M_goByState_110 (by decide) ?_
            exact W.vret hx hb hr (fun t ht hW => ⟨⟨(), rfl, trivial, ⟨false, x0_7z9, y2z9, by show va_P D classes _ t.heap; rw [ht]; exact hP, hD⟩⟩, hS.F ht⟩) hS.2.2 d_M_goByState_224
        · by_cases c10 : x0_10 = (4 : Int32)
          · refine lv_tableIn (off := 104) (tgt := 113) hx hb d_M_goByState_9 (by rw [c10]; decide) (by rw [c10]; decide) (by rw [c10]; rfl) (by decide) ?_
            refine lv_aload_n hx hb d_M_goByState_113 rfl (lv_at hl 1 rfl) ?_
            refine lv_aload_n hx hb d_M_goByState_114 rfl (lv_at hl 1 rfl) ?_
            refine va_get (D := D) (ci := 1) (v := .int x0_5) (C := "SignMachine$Machine") (T := F_M) (N := 14) hx hb hk fi_M hown hK.1 hP 0 rfl rfl 5 (by decide) (hk _ k_170) (fun _ h9 => h9) rfl d_M_goByState_115 ?_
            refine lv_if_ge (tgt := 125) hx hb d_M_goByState_118 (by decide) (fun c11 => ?_) (fun c11 => ?_)
            · refine lv_iconst (v := 0) hx hb d_M_goByState_125 (by decide) ?_
              refine kn_v (va_runV (C := "SignMachine$Machine") (As := [.int (bI false)]) (rest := []) ⟨hx, hb, hml, hown, hk⟩ (c_M_goIf_s2 l K D cI cJ cZ cB p0 p1 p2 p3 p4 p5 p6 s.heap.size x0_4 x0_5 x0_6 x0_7 x0_8 x0_9 x0_10 x0_11 x0_12 x0_13 y1 y2 x3_0 x4_0 y5 y6  false ) (v_M_goIf_s2 hk k_448 ⟨Nat.le_of_ble_eq_true rfl, Nat.le_of_ble_eq_true rfl⟩) (pMC_v hK hP hD hC hS hA (ci := 1) (q0 := 0) rfl rfl rfl) rfl rfl hl.1 rfl (lv_room (Nat.le_of_ble_eq_true rfl)) d_M_goByState_126 ⟨by decide, by decide⟩) hS hA hD (fun u t H locs ht hB hFr hS => ?_)
              obtain ⟨x0_7z12, y2z12, hP, hD⟩ := hB
              rw [ht] at hP
              have hD := dwk hD hFr
              clear ht hFr
              have hP : va_P D classes (wS60 cI cJ cZ cB p0 p1 p2 p3 p4 p5 p6 x0_4 x0_5 x0_6 x0_7z12 x0_8 x0_9 x0_10 x0_11 x0_12 x0_13 y1 y2z12 x3_0 x4_0 y5 y6) H := hP
              have hD : va_D A (wS60 cI cJ cZ cB p0 p1 p2 p3 p4 p5 p6 x0_4 x0_5 x0_6 x0_7z12 x0_8 x0_9 x0_10 x0_11 x0_12 x0_13 y1 y2z12 x3_0 x4_0 y5 y6) := hD
              refine lv_goto (tgt := 224) hx hb d_M_goByState_129 (by decide) ?_
              exact W.vret hx hb hr (fun t ht hW => ⟨⟨(), rfl, trivial, ⟨x0_4, x0_7z12, y2z12, by show va_P D classes _ t.heap; rw [ht]; exact hP, hD⟩⟩, hS.F ht⟩) hS.2.2 d_M_goByState_224
            · refine lv_iconst (v := 1) hx hb d_M_goByState_121 (by decide) ?_
              refine lv_goto (tgt := 126) hx hb d_M_goByState_122 (by decide) ?_
              refine kn_v (va_runV (C := "SignMachine$Machine") (As := [.int (bI true)]) (rest := []) ⟨hx, hb, hml, hown, hk⟩ (c_M_goIf_s2 l K D cI cJ cZ cB p0 p1 p2 p3 p4 p5 p6 s.heap.size x0_4 x0_5 x0_6 x0_7 x0_8 x0_9 x0_10 x0_11 x0_12 x0_13 y1 y2 x3_0 x4_0 y5 y6  true ) (v_M_goIf_s2 hk k_448 ⟨Nat.le_of_ble_eq_true rfl, Nat.le_of_ble_eq_true rfl⟩) (pMC_v hK hP hD hC hS hA (ci := 1) (q0 := 0) rfl rfl rfl) rfl rfl hl.1 rfl (lv_room (Nat.le_of_ble_eq_true rfl)) d_M_goByState_126 ⟨by decide, by decide⟩) hS hA hD (fun u t H locs ht hB hFr hS => ?_)
              obtain ⟨x0_7z13, y2z13, hP, hD⟩ := hB
              rw [ht] at hP
              have hD := dwk hD hFr
              clear ht hFr
              have hP : va_P D classes (wS60 cI cJ cZ cB p0 p1 p2 p3 p4 p5 p6 x0_4 x0_5 x0_6 x0_7z13 x0_8 x0_9 x0_10 x0_11 x0_12 x0_13 y1 y2z13 x3_0 x4_0 y5 y6) H := hP
              have hD : va_D A (wS60 cI cJ cZ cB p0 p1 p2 p3 p4 p5 p6 x0_4 x0_5 x0_6 x0_7z13 x0_8 x0_9 x0_10 x0_11 x0_12 x0_13 y1 y2z13 x3_0 x4_0 y5 y6) := hD
              refine lv_goto (tgt := 224) hx hb d_M_goByState_129 (by decide) ?_
              exact W.vret hx hb hr (fun t ht hW => ⟨⟨(), rfl, trivial, ⟨x0_4, x0_7z13, y2z13, by show va_P D classes _ t.heap; rw [ht]; exact hP, hD⟩⟩, hS.F ht⟩) hS.2.2 d_M_goByState_224
          · by_cases c14 : x0_10 = (5 : Int32)
            · refine lv_tableIn (off := 123) (tgt := 132) hx hb d_M_goByState_9 (by rw [c14]; decide) (by rw [c14]; decide) (by rw [c14]; rfl) (by decide) ?_
              refine lv_aload_n hx hb d_M_goByState_132 rfl (lv_at hl 1 rfl) ?_
              refine lv_aload_n hx hb d_M_goByState_133 rfl (lv_at hl 1 rfl) ?_
              refine va_get (D := D) (ci := 1) (v := .int x0_5) (C := "SignMachine$Machine") (T := F_M) (N := 14) hx hb hk fi_M hown hK.1 hP 0 rfl rfl 5 (by decide) (hk _ k_170) (fun _ h9 => h9) rfl d_M_goByState_134 ?_
              refine lv_if_ne (tgt := 144) hx hb d_M_goByState_137 (by decide) (fun c15 => ?_) (fun c15 => ?_)
              · refine lv_iconst (v := 0) hx hb d_M_goByState_144 (by decide) ?_
                refine kn_v (va_runV (C := "SignMachine$Machine") (As := [.int (bI false)]) (rest := []) ⟨hx, hb, hml, hown, hk⟩ (c_M_goIf_s2 l K D cI cJ cZ cB p0 p1 p2 p3 p4 p5 p6 s.heap.size x0_4 x0_5 x0_6 x0_7 x0_8 x0_9 x0_10 x0_11 x0_12 x0_13 y1 y2 x3_0 x4_0 y5 y6  false ) (v_M_goIf_s2 hk k_448 ⟨Nat.le_of_ble_eq_true rfl, Nat.le_of_ble_eq_true rfl⟩) (pMC_v hK hP hD hC hS hA (ci := 1) (q0 := 0) rfl rfl rfl) rfl rfl hl.1 rfl (lv_room (Nat.le_of_ble_eq_true rfl)) d_M_goByState_145 ⟨by decide, by decide⟩) hS hA hD (fun u t H locs ht hB hFr hS => ?_)
                obtain ⟨x0_7z16, y2z16, hP, hD⟩ := hB
                rw [ht] at hP
                have hD := dwk hD hFr
                clear ht hFr
                have hP : va_P D classes (wS60 cI cJ cZ cB p0 p1 p2 p3 p4 p5 p6 x0_4 x0_5 x0_6 x0_7z16 x0_8 x0_9 x0_10 x0_11 x0_12 x0_13 y1 y2z16 x3_0 x4_0 y5 y6) H := hP
                have hD : va_D A (wS60 cI cJ cZ cB p0 p1 p2 p3 p4 p5 p6 x0_4 x0_5 x0_6 x0_7z16 x0_8 x0_9 x0_10 x0_11 x0_12 x0_13 y1 y2z16 x3_0 x4_0 y5 y6) := hD
                refine lv_goto (tgt := 224) hx hb d_M_goByState_148 (by decide) ?_
                exact W.vret hx hb hr (fun t ht hW => ⟨⟨(), rfl, trivial, ⟨x0_4, x0_7z16, y2z16, by show va_P D classes _ t.heap; rw [ht]; exact hP, hD⟩⟩, hS.F ht⟩) hS.2.2 d_M_goByState_224
              · refine lv_iconst (v := 1) hx hb d_M_goByState_140 (by decide) ?_
                refine lv_goto (tgt := 145) hx hb d_M_goByState_141 (by decide) ?_
                refine kn_v (va_runV (C := "SignMachine$Machine") (As := [.int (bI true)]) (rest := []) ⟨hx, hb, hml, hown, hk⟩ (c_M_goIf_s2 l K D cI cJ cZ cB p0 p1 p2 p3 p4 p5 p6 s.heap.size x0_4 x0_5 x0_6 x0_7 x0_8 x0_9 x0_10 x0_11 x0_12 x0_13 y1 y2 x3_0 x4_0 y5 y6  true ) (v_M_goIf_s2 hk k_448 ⟨Nat.le_of_ble_eq_true rfl, Nat.le_of_ble_eq_true rfl⟩) (pMC_v hK hP hD hC hS hA (ci := 1) (q0 := 0) rfl rfl rfl) rfl rfl hl.1 rfl (lv_room (Nat.le_of_ble_eq_true rfl)) d_M_goByState_145 ⟨by decide, by decide⟩) hS hA hD (fun u t H locs ht hB hFr hS => ?_)
                obtain ⟨x0_7z17, y2z17, hP, hD⟩ := hB
                rw [ht] at hP
                have hD := dwk hD hFr
                clear ht hFr
                have hP : va_P D classes (wS60 cI cJ cZ cB p0 p1 p2 p3 p4 p5 p6 x0_4 x0_5 x0_6 x0_7z17 x0_8 x0_9 x0_10 x0_11 x0_12 x0_13 y1 y2z17 x3_0 x4_0 y5 y6) H := hP
                have hD : va_D A (wS60 cI cJ cZ cB p0 p1 p2 p3 p4 p5 p6 x0_4 x0_5 x0_6 x0_7z17 x0_8 x0_9 x0_10 x0_11 x0_12 x0_13 y1 y2z17 x3_0 x4_0 y5 y6) := hD
                refine lv_goto (tgt := 224) hx hb d_M_goByState_148 (by decide) ?_
                exact W.vret hx hb hr (fun t ht hW => ⟨⟨(), rfl, trivial, ⟨x0_4, x0_7z17, y2z17, by show va_P D classes _ t.heap; rw [ht]; exact hP, hD⟩⟩, hS.F ht⟩) hS.2.2 d_M_goByState_224
            · by_cases c18 : x0_10 = (6 : Int32)
              · refine lv_tableIn (off := 142) (tgt := 151) hx hb d_M_goByState_9 (by rw [c18]; decide) (by rw [c18]; decide) (by rw [c18]; rfl) (by decide) ?_
                refine lv_aload_n hx hb d_M_goByState_151 rfl (lv_at hl 1 rfl) ?_
                refine lv_aload_n hx hb d_M_goByState_152 rfl (lv_at hl 1 rfl) ?_
                refine va_get (D := D) (ci := 1) (v := .int x0_5) (C := "SignMachine$Machine") (T := F_M) (N := 14) hx hb hk fi_M hown hK.1 hP 0 rfl rfl 5 (by decide) (hk _ k_170) (fun _ h9 => h9) rfl d_M_goByState_153 ?_
                refine lv_if_le (tgt := 163) hx hb d_M_goByState_156 (by decide) (fun c19 => ?_) (fun c19 => ?_)
                · refine lv_iconst (v := 0) hx hb d_M_goByState_163 (by decide) ?_
                  refine kn_v (va_runV (C := "SignMachine$Machine") (As := [.int (bI false)]) (rest := []) ⟨hx, hb, hml, hown, hk⟩ (c_M_goIf_s2 l K D cI cJ cZ cB p0 p1 p2 p3 p4 p5 p6 s.heap.size x0_4 x0_5 x0_6 x0_7 x0_8 x0_9 x0_10 x0_11 x0_12 x0_13 y1 y2 x3_0 x4_0 y5 y6  false ) (v_M_goIf_s2 hk k_448 ⟨Nat.le_of_ble_eq_true rfl, Nat.le_of_ble_eq_true rfl⟩) (pMC_v hK hP hD hC hS hA (ci := 1) (q0 := 0) rfl rfl rfl) rfl rfl hl.1 rfl (lv_room (Nat.le_of_ble_eq_true rfl)) d_M_goByState_164 ⟨by decide, by decide⟩) hS hA hD (fun u t H locs ht hB hFr hS => ?_)
                  obtain ⟨x0_7z20, y2z20, hP, hD⟩ := hB
                  rw [ht] at hP
                  have hD := dwk hD hFr
                  clear ht hFr
                  have hP : va_P D classes (wS60 cI cJ cZ cB p0 p1 p2 p3 p4 p5 p6 x0_4 x0_5 x0_6 x0_7z20 x0_8 x0_9 x0_10 x0_11 x0_12 x0_13 y1 y2z20 x3_0 x4_0 y5 y6) H := hP
                  have hD : va_D A (wS60 cI cJ cZ cB p0 p1 p2 p3 p4 p5 p6 x0_4 x0_5 x0_6 x0_7z20 x0_8 x0_9 x0_10 x0_11 x0_12 x0_13 y1 y2z20 x3_0 x4_0 y5 y6) := hD
                  refine lv_goto (tgt := 224) hx hb d_M_goByState_167 (by decide) ?_
                  exact W.vret hx hb hr (fun t ht hW => ⟨⟨(), rfl, trivial, ⟨x0_4, x0_7z20, y2z20, by show va_P D classes _ t.heap; rw [ht]; exact hP, hD⟩⟩, hS.F ht⟩) hS.2.2 d_M_goByState_224
                · refine lv_iconst (v := 1) hx hb d_M_goByState_159 (by decide) ?_
                  refine lv_goto (tgt := 164) hx hb d_M_goByState_160 (by decide) ?_
                  refine kn_v (va_runV (C := "SignMachine$Machine") (As := [.int (bI true)]) (rest := []) ⟨hx, hb, hml, hown, hk⟩ (c_M_goIf_s2 l K D cI cJ cZ cB p0 p1 p2 p3 p4 p5 p6 s.heap.size x0_4 x0_5 x0_6 x0_7 x0_8 x0_9 x0_10 x0_11 x0_12 x0_13 y1 y2 x3_0 x4_0 y5 y6  true ) (v_M_goIf_s2 hk k_448 ⟨Nat.le_of_ble_eq_true rfl, Nat.le_of_ble_eq_true rfl⟩) (pMC_v hK hP hD hC hS hA (ci := 1) (q0 := 0) rfl rfl rfl) rfl rfl hl.1 rfl (lv_room (Nat.le_of_ble_eq_true rfl)) d_M_goByState_164 ⟨by decide, by decide⟩) hS hA hD (fun u t H locs ht hB hFr hS => ?_)
                  obtain ⟨x0_7z21, y2z21, hP, hD⟩ := hB
                  rw [ht] at hP
                  have hD := dwk hD hFr
                  clear ht hFr
                  have hP : va_P D classes (wS60 cI cJ cZ cB p0 p1 p2 p3 p4 p5 p6 x0_4 x0_5 x0_6 x0_7z21 x0_8 x0_9 x0_10 x0_11 x0_12 x0_13 y1 y2z21 x3_0 x4_0 y5 y6) H := hP
                  have hD : va_D A (wS60 cI cJ cZ cB p0 p1 p2 p3 p4 p5 p6 x0_4 x0_5 x0_6 x0_7z21 x0_8 x0_9 x0_10 x0_11 x0_12 x0_13 y1 y2z21 x3_0 x4_0 y5 y6) := hD
                  refine lv_goto (tgt := 224) hx hb d_M_goByState_167 (by decide) ?_
                  exact W.vret hx hb hr (fun t ht hW => ⟨⟨(), rfl, trivial, ⟨x0_4, x0_7z21, y2z21, by show va_P D classes _ t.heap; rw [ht]; exact hP, hD⟩⟩, hS.F ht⟩) hS.2.2 d_M_goByState_224
              · by_cases c22 : x0_10 = (7 : Int32)
                · refine lv_tableIn (off := 161) (tgt := 170) hx hb d_M_goByState_9 (by rw [c22]; decide) (by rw [c22]; decide) (by rw [c22]; rfl) (by decide) ?_
                  refine lv_aload_n hx hb d_M_goByState_170 rfl (lv_at hl 1 rfl) ?_
                  refine lv_aload_n hx hb d_M_goByState_171 rfl (lv_at hl 1 rfl) ?_
                  refine va_get (D := D) (ci := 1) (v := .int x0_5) (C := "SignMachine$Machine") (T := F_M) (N := 14) hx hb hk fi_M hown hK.1 hP 0 rfl rfl 5 (by decide) (hk _ k_170) (fun _ h9 => h9) rfl d_M_goByState_172 ?_
                  refine lv_if_lt (tgt := 182) hx hb d_M_goByState_175 (by decide) (fun c23 => ?_) (fun c23 => ?_)
                  · refine lv_iconst (v := 0) hx hb d_M_goByState_182 (by decide) ?_
                    refine kn_v (va_runV (C := "SignMachine$Machine") (As := [.int (bI false)]) (rest := []) ⟨hx, hb, hml, hown, hk⟩ (c_M_goIf_s2 l K D cI cJ cZ cB p0 p1 p2 p3 p4 p5 p6 s.heap.size x0_4 x0_5 x0_6 x0_7 x0_8 x0_9 x0_10 x0_11 x0_12 x0_13 y1 y2 x3_0 x4_0 y5 y6  false ) (v_M_goIf_s2 hk k_448 ⟨Nat.le_of_ble_eq_true rfl, Nat.le_of_ble_eq_true rfl⟩) (pMC_v hK hP hD hC hS hA (ci := 1) (q0 := 0) rfl rfl rfl) rfl rfl hl.1 rfl (lv_room (Nat.le_of_ble_eq_true rfl)) d_M_goByState_183 ⟨by decide, by decide⟩) hS hA hD (fun u t H locs ht hB hFr hS => ?_)
                    obtain ⟨x0_7z24, y2z24, hP, hD⟩ := hB
                    rw [ht] at hP
                    have hD := dwk hD hFr
                    clear ht hFr
                    have hP : va_P D classes (wS60 cI cJ cZ cB p0 p1 p2 p3 p4 p5 p6 x0_4 x0_5 x0_6 x0_7z24 x0_8 x0_9 x0_10 x0_11 x0_12 x0_13 y1 y2z24 x3_0 x4_0 y5 y6) H := hP
                    have hD : va_D A (wS60 cI cJ cZ cB p0 p1 p2 p3 p4 p5 p6 x0_4 x0_5 x0_6 x0_7z24 x0_8 x0_9 x0_10 x0_11 x0_12 x0_13 y1 y2z24 x3_0 x4_0 y5 y6) := hD
                    refine lv_goto (tgt := 224) hx hb d_M_goByState_186 (by decide) ?_
                    exact W.vret hx hb hr (fun t ht hW => ⟨⟨(), rfl, trivial, ⟨x0_4, x0_7z24, y2z24, by show va_P D classes _ t.heap; rw [ht]; exact hP, hD⟩⟩, hS.F ht⟩) hS.2.2 d_M_goByState_224
                  · refine lv_iconst (v := 1) hx hb d_M_goByState_178 (by decide) ?_
                    refine lv_goto (tgt := 183) hx hb d_M_goByState_179 (by decide) ?_
                    refine kn_v (va_runV (C := "SignMachine$Machine") (As := [.int (bI true)]) (rest := []) ⟨hx, hb, hml, hown, hk⟩ (c_M_goIf_s2 l K D cI cJ cZ cB p0 p1 p2 p3 p4 p5 p6 s.heap.size x0_4 x0_5 x0_6 x0_7 x0_8 x0_9 x0_10 x0_11 x0_12 x0_13 y1 y2 x3_0 x4_0 y5 y6  true ) (v_M_goIf_s2 hk k_448 ⟨Nat.le_of_ble_eq_true rfl, Nat.le_of_ble_eq_true rfl⟩) (pMC_v hK hP hD hC hS hA (ci := 1) (q0 := 0) rfl rfl rfl) rfl rfl hl.1 rfl (lv_room (Nat.le_of_ble_eq_true rfl)) d_M_goByState_183 ⟨by decide, by decide⟩) hS hA hD (fun u t H locs ht hB hFr hS => ?_)
                    obtain ⟨x0_7z25, y2z25, hP, hD⟩ := hB
                    rw [ht] at hP
                    have hD := dwk hD hFr
                    clear ht hFr
                    have hP : va_P D classes (wS60 cI cJ cZ cB p0 p1 p2 p3 p4 p5 p6 x0_4 x0_5 x0_6 x0_7z25 x0_8 x0_9 x0_10 x0_11 x0_12 x0_13 y1 y2z25 x3_0 x4_0 y5 y6) H := hP
                    have hD : va_D A (wS60 cI cJ cZ cB p0 p1 p2 p3 p4 p5 p6 x0_4 x0_5 x0_6 x0_7z25 x0_8 x0_9 x0_10 x0_11 x0_12 x0_13 y1 y2z25 x3_0 x4_0 y5 y6) := hD
                    refine lv_goto (tgt := 224) hx hb d_M_goByState_186 (by decide) ?_
                    exact W.vret hx hb hr (fun t ht hW => ⟨⟨(), rfl, trivial, ⟨x0_4, x0_7z25, y2z25, by show va_P D classes _ t.heap; rw [ht]; exact hP, hD⟩⟩, hS.F ht⟩) hS.2.2 d_M_goByState_224
                · by_cases c26 : x0_10 = (8 : Int32)
                  · refine lv_tableIn (off := 180) (tgt := 189) hx hb d_M_goByState_9 (by rw [c26]; decide) (by rw [c26]; decide) (by rw [c26]; rfl) (by decide) ?_
                    refine lv_aload_n hx hb d_M_goByState_189 rfl (lv_at hl 1 rfl) ?_
                    refine lv_aload_n hx hb d_M_goByState_190 rfl (lv_at hl 1 rfl) ?_
                    refine va_get (D := D) (ci := 1) (v := .int x0_5) (C := "SignMachine$Machine") (T := F_M) (N := 14) hx hb hk fi_M hown hK.1 hP 0 rfl rfl 5 (by decide) (hk _ k_170) (fun _ h9 => h9) rfl d_M_goByState_191 ?_
                    refine lv_if_eq (tgt := 201) hx hb d_M_goByState_194 (by decide) (fun c27 => ?_) (fun c27 => ?_)
                    · refine lv_iconst (v := 0) hx hb d_M_goByState_201 (by decide) ?_
                      refine kn_v (va_runV (C := "SignMachine$Machine") (As := [.int (bI false)]) (rest := []) ⟨hx, hb, hml, hown, hk⟩ (c_M_goIf_s2 l K D cI cJ cZ cB p0 p1 p2 p3 p4 p5 p6 s.heap.size x0_4 x0_5 x0_6 x0_7 x0_8 x0_9 x0_10 x0_11 x0_12 x0_13 y1 y2 x3_0 x4_0 y5 y6  false ) (v_M_goIf_s2 hk k_448 ⟨Nat.le_of_ble_eq_true rfl, Nat.le_of_ble_eq_true rfl⟩) (pMC_v hK hP hD hC hS hA (ci := 1) (q0 := 0) rfl rfl rfl) rfl rfl hl.1 rfl (lv_room (Nat.le_of_ble_eq_true rfl)) d_M_goByState_202 ⟨by decide, by decide⟩) hS hA hD (fun u t H locs ht hB hFr hS => ?_)
                      obtain ⟨x0_7z28, y2z28, hP, hD⟩ := hB
                      rw [ht] at hP
                      have hD := dwk hD hFr
                      clear ht hFr
                      have hP : va_P D classes (wS60 cI cJ cZ cB p0 p1 p2 p3 p4 p5 p6 x0_4 x0_5 x0_6 x0_7z28 x0_8 x0_9 x0_10 x0_11 x0_12 x0_13 y1 y2z28 x3_0 x4_0 y5 y6) H := hP
                      have hD : va_D A (wS60 cI cJ cZ cB p0 p1 p2 p3 p4 p5 p6 x0_4 x0_5 x0_6 x0_7z28 x0_8 x0_9 x0_10 x0_11 x0_12 x0_13 y1 y2z28 x3_0 x4_0 y5 y6) := hD
                      refine lv_goto (tgt := 224) hx hb d_M_goByState_205 (by decide) ?_
                      exact W.vret hx hb hr (fun t ht hW => ⟨⟨(), rfl, trivial, ⟨x0_4, x0_7z28, y2z28, by show va_P D classes _ t.heap; rw [ht]; exact hP, hD⟩⟩, hS.F ht⟩) hS.2.2 d_M_goByState_224
                    · refine lv_iconst (v := 1) hx hb d_M_goByState_197 (by decide) ?_
                      refine lv_goto (tgt := 202) hx hb d_M_goByState_198 (by decide) ?_
                      refine kn_v (va_runV (C := "SignMachine$Machine") (As := [.int (bI true)]) (rest := []) ⟨hx, hb, hml, hown, hk⟩ (c_M_goIf_s2 l K D cI cJ cZ cB p0 p1 p2 p3 p4 p5 p6 s.heap.size x0_4 x0_5 x0_6 x0_7 x0_8 x0_9 x0_10 x0_11 x0_12 x0_13 y1 y2 x3_0 x4_0 y5 y6  true ) (v_M_goIf_s2 hk k_448 ⟨Nat.le_of_ble_eq_true rfl, Nat.le_of_ble_eq_true rfl⟩) (pMC_v hK hP hD hC hS hA (ci := 1) (q0 := 0) rfl rfl rfl) rfl rfl hl.1 rfl (lv_room (Nat.le_of_ble_eq_true rfl)) d_M_goByState_202 ⟨by decide, by decide⟩) hS hA hD (fun u t H locs ht hB hFr hS => ?_)
                      obtain ⟨x0_7z29, y2z29, hP, hD⟩ := hB
                      rw [ht] at hP
                      have hD := dwk hD hFr
                      clear ht hFr
                      have hP : va_P D classes (wS60 cI cJ cZ cB p0 p1 p2 p3 p4 p5 p6 x0_4 x0_5 x0_6 x0_7z29 x0_8 x0_9 x0_10 x0_11 x0_12 x0_13 y1 y2z29 x3_0 x4_0 y5 y6) H := hP
                      have hD : va_D A (wS60 cI cJ cZ cB p0 p1 p2 p3 p4 p5 p6 x0_4 x0_5 x0_6 x0_7z29 x0_8 x0_9 x0_10 x0_11 x0_12 x0_13 y1 y2z29 x3_0 x4_0 y5 y6) := hD
                      refine lv_goto (tgt := 224) hx hb d_M_goByState_205 (by decide) ?_
                      exact W.vret hx hb hr (fun t ht hW => ⟨⟨(), rfl, trivial, ⟨x0_4, x0_7z29, y2z29, by show va_P D classes _ t.heap; rw [ht]; exact hP, hD⟩⟩, hS.F ht⟩) hS.2.2 d_M_goByState_224
                  · refine lv_tableOut (tgt := 208) hx hb d_M_goByState_9 (by have e0 := lv_neT c1 (a := 0) rfl; have e1 := lv_neT c3 (a := 1) rfl; have e2 := lv_neT c4 (a := 2) rfl; have e3 := lv_neT c6 (a := 3) rfl; have e4 := lv_neT c10 (a := 4) rfl; have e5 := lv_neT c14 (a := 5) rfl; have e6 := lv_neT c18 (a := 6) rfl; have e7 := lv_neT c22 (a := 7) rfl; have e8 := lv_neT c26 (a := 8) rfl; omega) (by decide) ?_
                    refine lv_aload_n hx hb d_M_goByState_208 rfl (lv_at hl 1 rfl) ?_
                    refine lv_aload_n hx hb d_M_goByState_209 rfl (lv_at hl 1 rfl) ?_
                    refine va_get (D := D) (ci := 1) (v := .int x0_5) (C := "SignMachine$Machine") (T := F_M) (N := 14) hx hb hk fi_M hown hK.1 hP 0 rfl rfl 5 (by decide) (hk _ k_170) (fun _ h9 => h9) rfl d_M_goByState_210 ?_
                    refine lv_if_gt (tgt := 220) hx hb d_M_goByState_213 (by decide) (fun c30 => ?_) (fun c30 => ?_)
                    · refine lv_iconst (v := 0) hx hb d_M_goByState_220 (by decide) ?_
                      refine kn_v (va_runV (C := "SignMachine$Machine") (As := [.int (bI false)]) (rest := []) ⟨hx, hb, hml, hown, hk⟩ (c_M_goIf_s2 l K D cI cJ cZ cB p0 p1 p2 p3 p4 p5 p6 s.heap.size x0_4 x0_5 x0_6 x0_7 x0_8 x0_9 x0_10 x0_11 x0_12 x0_13 y1 y2 x3_0 x4_0 y5 y6  false ) (v_M_goIf_s2 hk k_448 ⟨Nat.le_of_ble_eq_true rfl, Nat.le_of_ble_eq_true rfl⟩) (pMC_v hK hP hD hC hS hA (ci := 1) (q0 := 0) rfl rfl rfl) rfl rfl hl.1 rfl (lv_room (Nat.le_of_ble_eq_true rfl)) d_M_goByState_221 ⟨by decide, by decide⟩) hS hA hD (fun u t H locs ht hB hFr hS => ?_)
                      obtain ⟨x0_7z31, y2z31, hP, hD⟩ := hB
                      rw [ht] at hP
                      have hD := dwk hD hFr
                      clear ht hFr
                      have hP : va_P D classes (wS60 cI cJ cZ cB p0 p1 p2 p3 p4 p5 p6 x0_4 x0_5 x0_6 x0_7z31 x0_8 x0_9 x0_10 x0_11 x0_12 x0_13 y1 y2z31 x3_0 x4_0 y5 y6) H := hP
                      have hD : va_D A (wS60 cI cJ cZ cB p0 p1 p2 p3 p4 p5 p6 x0_4 x0_5 x0_6 x0_7z31 x0_8 x0_9 x0_10 x0_11 x0_12 x0_13 y1 y2z31 x3_0 x4_0 y5 y6) := hD
                      exact W.vret hx hb hr (fun t ht hW => ⟨⟨(), rfl, trivial, ⟨x0_4, x0_7z31, y2z31, by show va_P D classes _ t.heap; rw [ht]; exact hP, hD⟩⟩, hS.F ht⟩) hS.2.2 d_M_goByState_224
                    · refine lv_iconst (v := 1) hx hb d_M_goByState_216 (by decide) ?_
                      refine lv_goto (tgt := 221) hx hb d_M_goByState_217 (by decide) ?_
                      refine kn_v (va_runV (C := "SignMachine$Machine") (As := [.int (bI true)]) (rest := []) ⟨hx, hb, hml, hown, hk⟩ (c_M_goIf_s2 l K D cI cJ cZ cB p0 p1 p2 p3 p4 p5 p6 s.heap.size x0_4 x0_5 x0_6 x0_7 x0_8 x0_9 x0_10 x0_11 x0_12 x0_13 y1 y2 x3_0 x4_0 y5 y6  true ) (v_M_goIf_s2 hk k_448 ⟨Nat.le_of_ble_eq_true rfl, Nat.le_of_ble_eq_true rfl⟩) (pMC_v hK hP hD hC hS hA (ci := 1) (q0 := 0) rfl rfl rfl) rfl rfl hl.1 rfl (lv_room (Nat.le_of_ble_eq_true rfl)) d_M_goByState_221 ⟨by decide, by decide⟩) hS hA hD (fun u t H locs ht hB hFr hS => ?_)
                      obtain ⟨x0_7z32, y2z32, hP, hD⟩ := hB
                      rw [ht] at hP
                      have hD := dwk hD hFr
                      clear ht hFr
                      have hP : va_P D classes (wS60 cI cJ cZ cB p0 p1 p2 p3 p4 p5 p6 x0_4 x0_5 x0_6 x0_7z32 x0_8 x0_9 x0_10 x0_11 x0_12 x0_13 y1 y2z32 x3_0 x4_0 y5 y6) H := hP
                      have hD : va_D A (wS60 cI cJ cZ cB p0 p1 p2 p3 p4 p5 p6 x0_4 x0_5 x0_6 x0_7z32 x0_8 x0_9 x0_10 x0_11 x0_12 x0_13 y1 y2z32 x3_0 x4_0 y5 y6) := hD
                      exact W.vret hx hb hr (fun t ht hW => ⟨⟨(), rfl, trivial, ⟨x0_4, x0_7z32, y2z32, by show va_P D classes _ t.heap; rw [ht]; exact hP, hD⟩⟩, hS.F ht⟩) hS.2.2 d_M_goByState_224
theorem v_M_goByState_s2 {R : Room} {s : State} {args : Array Value} {own : String} {index : Nat} (hk : ∀ w ∈ tb, w.before args s = true) (hl : Cond.methodLink own index y_M_goByState ∈ tb) (hR : 2 + 1 ≤ R.frames ∧ 8 + (2 + 11) + 43 ≤ R.locals) : CallW R s args own "SignMachine$Machine" index y_M_goByState b_M_goByState 2 none (.code y_M_goByState b_M_goByState 2 none :: tb) ({ frames := 2, cells := 0, slots := 0, locals := 43 }) 0 0 0 := mk_v 0 hk k_455 hl k_454 k_29 k_117 rfl rfl h_M_goByState hR
set_option maxHeartbeats 4000000 in
set_option maxRecDepth 100000 in
theorem c_M_performMiddle_s6 (l : Launch) (K : CK) (D : va_G) (cI cJ cZ cB : ClassId) (p0 p1 p2 p3 p4 p5 p6 : Nat) (sz : Nat) (x0_4 : Bool) (x0_5 : Int32) (x0_6 : Int32) (x0_7 : Int32) (x0_8 : Int32) (x0_9 : Int32) (x0_10 : Int32) (x0_11 : Int32) (x0_12 : Int32) (x0_13 : Int32) (y1 : Nat → Int32) (y2 : Nat → Int32) (x3_0 : Int32) (x4_0 : Int32) (y5 : Nat → Int32) (y6 : Nat → Int32)   : Met l y_M_performMiddle (.code y_M_performMiddle b_M_performMiddle 1 none :: tb) ({ frames := 3, cells := 0, slots := 0, locals := 69 }) (pMC K D cI cJ cZ cB (wS60 cI cJ cZ cB p0 p1 p2 p3 p4 p5 p6 x0_4 x0_5 x0_6 x0_7 x0_8 x0_9 x0_10 x0_11 x0_12 x0_13 y1 y2 x3_0 x4_0 y5 y6) sz [.ref p0]) (va_Qv (fun (_ : Unit) => True) (fun _ t => (∃ u_x0_4 : Bool, ∃ u_x0_7 : Int32, ∃ u_y1 : Nat → Int32, ∃ u_y2 : Nat → Int32, ∃ u_x3_0 : Int32, ∃ u_x4_0 : Int32, ∃ u_y5 : Nat → Int32, ∃ u_y6 : Nat → Int32, va_P D classes (wS60 cI cJ cZ cB p0 p1 p2 p3 p4 p5 p6 u_x0_4 x0_5 x0_6 u_x0_7 x0_8 x0_9 x0_10 x0_11 x0_12 x0_13 u_y1 u_y2 u_x3_0 u_x4_0 u_y5 u_y6) t.heap ∧ va_D (va_A (wS60 cI cJ cZ cB p0 p1 p2 p3 p4 p5 p6 x0_4 x0_5 x0_6 x0_7 x0_8 x0_9 x0_10 x0_11 x0_12 x0_13 y1 y2 x3_0 x4_0 y5 y6) sz) (wS60 cI cJ cZ cB p0 p1 p2 p3 p4 p5 p6 u_x0_4 x0_5 x0_6 u_x0_7 x0_8 x0_9 x0_10 x0_11 x0_12 x0_13 u_y1 u_y2 u_x3_0 u_x4_0 u_y5 u_y6))) (va_A (wS60 cI cJ cZ cB p0 p1 p2 p3 p4 p5 p6 x0_4 x0_5 x0_6 x0_7 x0_8 x0_9 x0_10 x0_11 x0_12 x0_13 y1 y2 x3_0 x4_0 y5 y6) sz)) 0 0 (va_A (wS60 cI cJ cZ cB p0 p1 p2 p3 p4 p5 p6 x0_4 x0_5 x0_6 x0_7 x0_8 x0_9 x0_10 x0_11 x0_12 x0_13 y1 y2 x3_0 x4_0 y5 y6) sz) := by
  refine Met.ofW (cc := b_M_performMiddle) (maxL := 1) (ret := none) (by decide) rfl ?_
  intro p e s m args below meth c s₁ B hml hv
  obtain ⟨rfl, hsz, hK, hP, hD0, hC⟩ := hv
  subst hsz
  have hD := hD0.self (sz := s.heap.size)
  generalize hAe : va_A (wS60 cI cJ cZ cB p0 p1 p2 p3 p4 p5 p6 x0_4 x0_5 x0_6 x0_7 x0_8 x0_9 x0_10 x0_11 x0_12 x0_13 y1 y2 x3_0 x4_0 y5 y6) s.heap.size = A at hD hC ⊢
  have hA : ∀ q : Nat, s.heap.size ≤ q → A q := fun q h => by rw [← hAe]; exact Or.inr h
  clear hAe hD0
  have hS : va_S A s.heap s.heap [] := va_S.rf
  have hx := B.exec
  have hb := B.bytes
  have hr := B.returns
  have hts := atoms_spec (ws := .code y_M_performMiddle b_M_performMiddle 1 none :: tb) B.pre
  have hk : ∀ w ∈ tb, w.before [.ref p0].toArray s = true := fun w h => hts w (List.mem_cons_of_mem _ h)
  have hown : s.vm.findClass "SignMachine$Machine" = some m.cls := findClass_of_methodNamed B.named
  have hlocks := B.notSynchronized
  have hl := lv_entry ([.ref p0]) (n := 1) (Nat.le_of_ble_eq_true rfl)
  rw [lg_entry_eq]
  generalize (lg_sl ([.ref p0]) ++ List.replicate (1 - (lg_sl ([.ref p0])).length) Slot.unset).toArray = ls at hl ⊢
  have hl : lv_has ls 1 [(0, .ref p0)] := hl
  refine lv_aload_n hx hb d_M_performMiddle_0 rfl (lv_at hl 0 rfl) ?_
  refine va_get (D := D) (ci := 1) (v := .int x0_9) (C := "SignMachine$Machine") (T := F_M) (N := 14) hx hb hk fi_M hown hK.1 hP 0 rfl rfl 9 (by decide) (hk _ k_176) (fun _ h9 => h9) rfl d_M_performMiddle_1 ?_
  by_cases c1 : x0_9 = (32 : Int32)
  · refine lv_tableIn (off := 48) (tgt := 52) hx hb d_M_performMiddle_4 (by rw [c1]; decide) (by rw [c1]; decide) (by rw [c1]; rfl) (by decide) ?_
    refine lv_aload_n hx hb d_M_performMiddle_52 rfl (lv_at hl 0 rfl) ?_
    refine lv_aload_n hx hb d_M_performMiddle_53 rfl (lv_at hl 0 rfl) ?_
    refine lv_bipush (v := 8) hx hb d_M_performMiddle_54 (by decide) ?_
    refine sn_i (va_runV (C := "SignMachine$Machine") (As := [.int (8 : Int32)]) (rest := [.ref p0]) ⟨hx, hb, hml, hown, hk⟩ (c_M_register_s3 l K D cI cJ cZ cB p0 p1 p2 p3 p4 p5 p6 s.heap.size x0_4 x0_5 x0_6 x0_7 x0_8 x0_9 x0_10 x0_11 x0_12 x0_13 y1 y2 x3_0 x4_0 y5 y6  (8 : Int32) ) (v_M_register_s3 hk k_273 ⟨Nat.le_of_ble_eq_true rfl, Nat.le_of_ble_eq_true rfl⟩) (pMC_v hK hP hD hC hS hA (ci := 1) (q0 := 0) rfl rfl rfl) rfl rfl hl.1 rfl (lv_room (Nat.le_of_ble_eq_true rfl)) d_M_performMiddle_56 ⟨by decide, by decide⟩) hS hA hD (fun rz2 u t H locs hr0 ht hB hFr hS => ?_)
    obtain ⟨hP, hD⟩ := hB
    rw [ht] at hP
    have hD := dwk hD hFr
    clear ht hFr
    have hP : va_P D classes (wS60 cI cJ cZ cB p0 p1 p2 p3 p4 p5 p6 x0_4 x0_5 x0_6 x0_7 x0_8 x0_9 x0_10 x0_11 x0_12 x0_13 y1 y2 x3_0 x4_0 y5 y6) H := hP
    have hD : va_D A (wS60 cI cJ cZ cB p0 p1 p2 p3 p4 p5 p6 x0_4 x0_5 x0_6 x0_7 x0_8 x0_9 x0_10 x0_11 x0_12 x0_13 y1 y2 x3_0 x4_0 y5 y6) := hD
    refine kn_v (va_runV (C := "SignMachine$Machine") (As := [.int rz2]) (rest := []) ⟨hx, hb, hml, hown, hk⟩ (c_M_storeWord_s2 l K D cI cJ cZ cB p0 p1 p2 p3 p4 p5 p6 H.size x0_4 x0_5 x0_6 x0_7 x0_8 x0_9 x0_10 x0_11 x0_12 x0_13 y1 y2 x3_0 x4_0 y5 y6  rz2 ) (v_M_storeWord_s2 hk k_414 ⟨Nat.le_of_ble_eq_true rfl, Nat.le_of_ble_eq_true rfl⟩) (pMC_v hK hP hD hC hS hA (ci := 1) (q0 := 0) rfl rfl rfl) rfl rfl hl.1 rfl (lv_room (Nat.le_of_ble_eq_true rfl)) d_M_performMiddle_59 ⟨by decide, by decide⟩) hS hA hD (fun u t H locs ht hB hFr hS => ?_)
    obtain ⟨y1z3, hP, hD⟩ := hB
    rw [ht] at hP
    have hD := dwk hD hFr
    clear ht hFr
    have hP : va_P D classes (wS60 cI cJ cZ cB p0 p1 p2 p3 p4 p5 p6 x0_4 x0_5 x0_6 x0_7 x0_8 x0_9 x0_10 x0_11 x0_12 x0_13 y1z3 y2 x3_0 x4_0 y5 y6) H := hP
    have hD : va_D A (wS60 cI cJ cZ cB p0 p1 p2 p3 p4 p5 p6 x0_4 x0_5 x0_6 x0_7 x0_8 x0_9 x0_10 x0_11 x0_12 x0_13 y1z3 y2 x3_0 x4_0 y5 y6) := hD
    refine lv_goto (tgt := 109) hx hb d_M_performMiddle_62 (by decide) ?_
    exact W.vret hx hb hr (fun t ht hW => ⟨⟨(), rfl, trivial, ⟨x0_4, x0_7, y1z3, y2, x3_0, x4_0, y5, y6, by show va_P D classes _ t.heap; rw [ht]; exact hP, hD⟩⟩, hS.F ht⟩) hS.2.2 d_M_performMiddle_109
  · by_cases c4 : x0_9 = (33 : Int32)
    · refine lv_tableIn (off := 61) (tgt := 65) hx hb d_M_performMiddle_4 (by rw [c4]; decide) (by rw [c4]; decide) (by rw [c4]; rfl) (by decide) ?_
      refine lv_aload_n hx hb d_M_performMiddle_65 rfl (lv_at hl 0 rfl) ?_
      refine lv_iconst (v := 0) hx hb d_M_performMiddle_66 (by decide) ?_
      refine kn_v (va_runV (C := "SignMachine$Machine") (As := [.int (0 : Int32)]) (rest := []) ⟨hx, hb, hml, hown, hk⟩ (c_M_storeWord_s2 l K D cI cJ cZ cB p0 p1 p2 p3 p4 p5 p6 s.heap.size x0_4 x0_5 x0_6 x0_7 x0_8 x0_9 x0_10 x0_11 x0_12 x0_13 y1 y2 x3_0 x4_0 y5 y6  (0 : Int32) ) (v_M_storeWord_s2 hk k_414 ⟨Nat.le_of_ble_eq_true rfl, Nat.le_of_ble_eq_true rfl⟩) (pMC_v hK hP hD hC hS hA (ci := 1) (q0 := 0) rfl rfl rfl) rfl rfl hl.1 rfl (lv_room (Nat.le_of_ble_eq_true rfl)) d_M_performMiddle_67 ⟨by decide, by decide⟩) hS hA hD (fun u t H locs ht hB hFr hS => ?_)
      obtain ⟨y1z5, hP, hD⟩ := hB
      rw [ht] at hP
      have hD := dwk hD hFr
      clear ht hFr
      have hP : va_P D classes (wS60 cI cJ cZ cB p0 p1 p2 p3 p4 p5 p6 x0_4 x0_5 x0_6 x0_7 x0_8 x0_9 x0_10 x0_11 x0_12 x0_13 y1z5 y2 x3_0 x4_0 y5 y6) H := hP
      have hD : va_D A (wS60 cI cJ cZ cB p0 p1 p2 p3 p4 p5 p6 x0_4 x0_5 x0_6 x0_7 x0_8 x0_9 x0_10 x0_11 x0_12 x0_13 y1z5 y2 x3_0 x4_0 y5 y6) := hD
      refine lv_goto (tgt := 109) hx hb d_M_performMiddle_70 (by decide) ?_
      exact W.vret hx hb hr (fun t ht hW => ⟨⟨(), rfl, trivial, ⟨x0_4, x0_7, y1z5, y2, x3_0, x4_0, y5, y6, by show va_P D classes _ t.heap; rw [ht]; exact hP, hD⟩⟩, hS.F ht⟩) hS.2.2 d_M_performMiddle_109
    · by_cases c6 : x0_9 = (34 : Int32)
      · refine lv_tableIn (off := 105) (tgt := 109) hx hb d_M_performMiddle_4 (by rw [c6]; decide) (by rw [c6]; decide) (by rw [c6]; rfl) (by decide) ?_
        exact W.vret hx hb hr (fun t ht hW => ⟨⟨(), rfl, trivial, ⟨x0_4, x0_7, y1, y2, x3_0, x4_0, y5, y6, by show va_P D classes _ t.heap; rw [ht]; exact hP, hD⟩⟩, hS.F ht⟩) hS.2.2 d_M_performMiddle_109
      · by_cases c7 : x0_9 = (35 : Int32)
        · refine lv_tableIn (off := 69) (tgt := 73) hx hb d_M_performMiddle_4 (by rw [c7]; decide) (by rw [c7]; decide) (by rw [c7]; rfl) (by decide) ?_
          refine lv_aload_n hx hb d_M_performMiddle_73 rfl (lv_at hl 0 rfl) ?_
          refine kn_v (va_runV (C := "SignMachine$Machine") (As := []) (rest := []) ⟨hx, hb, hml, hown, hk⟩ (c_M_wind_s2 l K D cI cJ cZ cB p0 p1 p2 p3 p4 p5 p6 s.heap.size x0_4 x0_5 x0_6 x0_7 x0_8 x0_9 x0_10 x0_11 x0_12 x0_13 y1 y2 x3_0 x4_0 y5 y6   ) (v_M_wind_s2 hk k_425 ⟨Nat.le_of_ble_eq_true rfl, Nat.le_of_ble_eq_true rfl⟩) (pMC_v hK hP hD hC hS hA (ci := 1) (q0 := 0) rfl rfl rfl) rfl rfl hl.1 rfl (lv_room (Nat.le_of_ble_eq_true rfl)) d_M_performMiddle_74 ⟨by decide, by decide⟩) hS hA hD (fun u t H locs ht hB hFr hS => ?_)
          obtain ⟨x3_0z8, x4_0z8, hP, hD⟩ := hB
          rw [ht] at hP
          have hD := dwk hD hFr
          clear ht hFr
          have hP : va_P D classes (wS60 cI cJ cZ cB p0 p1 p2 p3 p4 p5 p6 x0_4 x0_5 x0_6 x0_7 x0_8 x0_9 x0_10 x0_11 x0_12 x0_13 y1 y2 x3_0z8 x4_0z8 y5 y6) H := hP
          have hD : va_D A (wS60 cI cJ cZ cB p0 p1 p2 p3 p4 p5 p6 x0_4 x0_5 x0_6 x0_7 x0_8 x0_9 x0_10 x0_11 x0_12 x0_13 y1 y2 x3_0z8 x4_0z8 y5 y6) := hD
          refine lv_goto (tgt := 109) hx hb d_M_performMiddle_77 (by decide) ?_
          exact W.vret hx hb hr (fun t ht hW => ⟨⟨(), rfl, trivial, ⟨x0_4, x0_7, y1, y2, x3_0z8, x4_0z8, y5, y6, by show va_P D classes _ t.heap; rw [ht]; exact hP, hD⟩⟩, hS.F ht⟩) hS.2.2 d_M_performMiddle_109
        · by_cases c9 : x0_9 = (36 : Int32)
          · refine lv_tableIn (off := 76) (tgt := 80) hx hb d_M_performMiddle_4 (by rw [c9]; decide) (by rw [c9]; decide) (by rw [c9]; rfl) (by decide) ?_
            refine lv_aload_n hx hb d_M_performMiddle_80 rfl (lv_at hl 0 rfl) ?_
            refine kn_v (va_runV (C := "SignMachine$Machine") (As := []) (rest := []) ⟨hx, hb, hml, hown, hk⟩ (c_M_readBlock_s2 l K D cI cJ cZ cB p0 p1 p2 p3 p4 p5 p6 s.heap.size x0_4 x0_5 x0_6 x0_7 x0_8 x0_9 x0_10 x0_11 x0_12 x0_13 y1 y2 x3_0 x4_0 y5 y6   ) (v_M_readBlock_s2 hk k_429 ⟨Nat.le_of_ble_eq_true rfl, Nat.le_of_ble_eq_true rfl⟩) (pMC_v hK hP hD hC hS hA (ci := 1) (q0 := 0) rfl rfl rfl) rfl rfl hl.1 rfl (lv_room (Nat.le_of_ble_eq_true rfl)) d_M_performMiddle_81 ⟨by decide, by decide⟩) hS hA hD (fun u t H locs ht hB hFr hS => ?_)
            obtain ⟨y1z10, x3_0z10, x4_0z10, hP, hD⟩ := hB
            rw [ht] at hP
            have hD := dwk hD hFr
            clear ht hFr
            have hP : va_P D classes (wS60 cI cJ cZ cB p0 p1 p2 p3 p4 p5 p6 x0_4 x0_5 x0_6 x0_7 x0_8 x0_9 x0_10 x0_11 x0_12 x0_13 y1z10 y2 x3_0z10 x4_0z10 y5 y6) H := hP
            have hD : va_D A (wS60 cI cJ cZ cB p0 p1 p2 p3 p4 p5 p6 x0_4 x0_5 x0_6 x0_7 x0_8 x0_9 x0_10 x0_11 x0_12 x0_13 y1z10 y2 x3_0z10 x4_0z10 y5 y6) := hD
            refine lv_goto (tgt := 109) hx hb d_M_performMiddle_84 (by decide) ?_
            exact W.vret hx hb hr (fun t ht hW => ⟨⟨(), rfl, trivial, ⟨x0_4, x0_7, y1z10, y2, x3_0z10, x4_0z10, y5, y6, by show va_P D classes _ t.heap; rw [ht]; exact hP, hD⟩⟩, hS.F ht⟩) hS.2.2 d_M_performMiddle_109
          · by_cases c11 : x0_9 = (37 : Int32)
            · refine lv_tableIn (off := 83) (tgt := 87) hx hb d_M_performMiddle_4 (by rw [c11]; decide) (by rw [c11]; decide) (by rw [c11]; rfl) (by decide) ?_
              refine lv_aload_n hx hb d_M_performMiddle_87 rfl (lv_at hl 0 rfl) ?_
              refine kn_v (va_runV (C := "SignMachine$Machine") (As := []) (rest := []) ⟨hx, hb, hml, hown, hk⟩ (c_M_writeBlock_s5 l K D cI cJ cZ cB p0 p1 p2 p3 p4 p5 p6 s.heap.size x0_4 x0_5 x0_6 x0_7 x0_8 x0_9 x0_10 x0_11 x0_12 x0_13 y1 y2 x3_0 x4_0 y5 y6   ) (v_M_writeBlock_s5 hk k_440 ⟨Nat.le_of_ble_eq_true rfl, Nat.le_of_ble_eq_true rfl⟩) (pMC_v hK hP hD hC hS hA (ci := 1) (q0 := 0) rfl rfl rfl) rfl rfl hl.1 rfl (lv_room (Nat.le_of_ble_eq_true rfl)) d_M_performMiddle_88 ⟨by decide, by decide⟩) hS hA hD (fun u t H locs ht hB hFr hS => ?_)
              obtain ⟨x3_0z12, x4_0z12, y5z12, y6z12, hP, hD⟩ := hB
              rw [ht] at hP
              have hD := dwk hD hFr
              clear ht hFr
              have hP : va_P D classes (wS60 cI cJ cZ cB p0 p1 p2 p3 p4 p5 p6 x0_4 x0_5 x0_6 x0_7 x0_8 x0_9 x0_10 x0_11 x0_12 x0_13 y1 y2 x3_0z12 x4_0z12 y5z12 y6z12) H := hP
              have hD : va_D A (wS60 cI cJ cZ cB p0 p1 p2 p3 p4 p5 p6 x0_4 x0_5 x0_6 x0_7 x0_8 x0_9 x0_10 x0_11 x0_12 x0_13 y1 y2 x3_0z12 x4_0z12 y5z12 y6z12) := hD
              refine lv_goto (tgt := 109) hx hb d_M_performMiddle_91 (by decide) ?_
              exact W.vret hx hb hr (fun t ht hW => ⟨⟨(), rfl, trivial, ⟨x0_4, x0_7, y1, y2, x3_0z12, x4_0z12, y5z12, y6z12, by show va_P D classes _ t.heap; rw [ht]; exact hP, hD⟩⟩, hS.F ht⟩) hS.2.2 d_M_performMiddle_109
            · by_cases c13 : x0_9 = (38 : Int32)
              · refine lv_tableIn (off := 90) (tgt := 94) hx hb d_M_performMiddle_4 (by rw [c13]; decide) (by rw [c13]; decide) (by rw [c13]; rfl) (by decide) ?_
                refine lv_aload_n hx hb d_M_performMiddle_94 rfl (lv_at hl 0 rfl) ?_
                refine lv_iconst (v := 1) hx hb d_M_performMiddle_95 (by decide) ?_
                refine kn_v (va_runV (C := "SignMachine$Machine") (As := [.int (bI true)]) (rest := []) ⟨hx, hb, hml, hown, hk⟩ (c_M_goIf_s2 l K D cI cJ cZ cB p0 p1 p2 p3 p4 p5 p6 s.heap.size x0_4 x0_5 x0_6 x0_7 x0_8 x0_9 x0_10 x0_11 x0_12 x0_13 y1 y2 x3_0 x4_0 y5 y6  true ) (v_M_goIf_s2 hk k_448 ⟨Nat.le_of_ble_eq_true rfl, Nat.le_of_ble_eq_true rfl⟩) (pMC_v hK hP hD hC hS hA (ci := 1) (q0 := 0) rfl rfl rfl) rfl rfl hl.1 rfl (lv_room (Nat.le_of_ble_eq_true rfl)) d_M_performMiddle_96 ⟨by decide, by decide⟩) hS hA hD (fun u t H locs ht hB hFr hS => ?_)
                obtain ⟨x0_7z14, y2z14, hP, hD⟩ := hB
                rw [ht] at hP
                have hD := dwk hD hFr
                clear ht hFr
                have hP : va_P D classes (wS60 cI cJ cZ cB p0 p1 p2 p3 p4 p5 p6 x0_4 x0_5 x0_6 x0_7z14 x0_8 x0_9 x0_10 x0_11 x0_12 x0_13 y1 y2z14 x3_0 x4_0 y5 y6) H := hP
                have hD : va_D A (wS60 cI cJ cZ cB p0 p1 p2 p3 p4 p5 p6 x0_4 x0_5 x0_6 x0_7z14 x0_8 x0_9 x0_10 x0_11 x0_12 x0_13 y1 y2z14 x3_0 x4_0 y5 y6) := hD
                refine lv_goto (tgt := 109) hx hb d_M_performMiddle_99 (by decide) ?_
                exact W.vret hx hb hr (fun t ht hW => ⟨⟨(), rfl, trivial, ⟨x0_4, x0_7z14, y1, y2z14, x3_0, x4_0, y5, y6, by show va_P D classes _ t.heap; rw [ht]; exact hP, hD⟩⟩, hS.F ht⟩) hS.2.2 d_M_performMiddle_109
              · by_cases c15 : x0_9 = (39 : Int32)
                · refine lv_tableIn (off := 98) (tgt := 102) hx hb d_M_performMiddle_4 (by rw [c15]; decide) (by rw [c15]; decide) (by rw [c15]; rfl) (by decide) ?_
                  refine lv_aload_n hx hb d_M_performMiddle_102 rfl (lv_at hl 0 rfl) ?_
                  refine kn_v (va_runV (C := "SignMachine$Machine") (As := []) (rest := []) ⟨hx, hb, hml, hown, hk⟩ (c_M_goByState_s2 l K D cI cJ cZ cB p0 p1 p2 p3 p4 p5 p6 s.heap.size x0_4 x0_5 x0_6 x0_7 x0_8 x0_9 x0_10 x0_11 x0_12 x0_13 y1 y2 x3_0 x4_0 y5 y6   ) (v_M_goByState_s2 hk k_452 ⟨Nat.le_of_ble_eq_true rfl, Nat.le_of_ble_eq_true rfl⟩) (pMC_v hK hP hD hC hS hA (ci := 1) (q0 := 0) rfl rfl rfl) rfl rfl hl.1 rfl (lv_room (Nat.le_of_ble_eq_true rfl)) d_M_performMiddle_103 ⟨by decide, by decide⟩) hS hA hD (fun u t H locs ht hB hFr hS => ?_)
                  obtain ⟨x0_4z16, x0_7z16, y2z16, hP, hD⟩ := hB
                  rw [ht] at hP
                  have hD := dwk hD hFr
                  clear ht hFr
                  have hP : va_P D classes (wS60 cI cJ cZ cB p0 p1 p2 p3 p4 p5 p6 x0_4z16 x0_5 x0_6 x0_7z16 x0_8 x0_9 x0_10 x0_11 x0_12 x0_13 y1 y2z16 x3_0 x4_0 y5 y6) H := hP
                  have hD : va_D A (wS60 cI cJ cZ cB p0 p1 p2 p3 p4 p5 p6 x0_4z16 x0_5 x0_6 x0_7z16 x0_8 x0_9 x0_10 x0_11 x0_12 x0_13 y1 y2z16 x3_0 x4_0 y5 y6) := hD
                  refine lv_goto (tgt := 109) hx hb d_M_performMiddle_106 (by decide) ?_
                  exact W.vret hx hb hr (fun t ht hW => ⟨⟨(), rfl, trivial, ⟨x0_4z16, x0_7z16, y1, y2z16, x3_0, x4_0, y5, y6, by show va_P D classes _ t.heap; rw [ht]; exact hP, hD⟩⟩, hS.F ht⟩) hS.2.2 d_M_performMiddle_109
                · refine lv_tableOut (tgt := 109) hx hb d_M_performMiddle_4 (by have e0 := lv_neT c1 (a := 32) rfl; have e1 := lv_neT c4 (a := 33) rfl; have e2 := lv_neT c6 (a := 34) rfl; have e3 := lv_neT c7 (a := 35) rfl; have e4 := lv_neT c9 (a := 36) rfl; have e5 := lv_neT c11 (a := 37) rfl; have e6 := lv_neT c13 (a := 38) rfl; have e7 := lv_neT c15 (a := 39) rfl; omega) (by decide) ?_
                  exact W.vret hx hb hr (fun t ht hW => ⟨⟨(), rfl, trivial, ⟨x0_4, x0_7, y1, y2, x3_0, x4_0, y5, y6, by show va_P D classes _ t.heap; rw [ht]; exact hP, hD⟩⟩, hS.F ht⟩) hS.2.2 d_M_performMiddle_109
theorem v_M_performMiddle_s6 {R : Room} {s : State} {args : Array Value} {own : String} {index : Nat} (hk : ∀ w ∈ tb, w.before args s = true) (hl : Cond.methodLink own index y_M_performMiddle ∈ tb) (hR : 3 + 1 ≤ R.frames ∧ 8 + (1 + 11) + 69 ≤ R.locals) : CallW R s args own "SignMachine$Machine" index y_M_performMiddle b_M_performMiddle 1 none (.code y_M_performMiddle b_M_performMiddle 1 none :: tb) ({ frames := 3, cells := 0, slots := 0, locals := 69 }) 0 0 0 := mk_v 0 hk k_424 hl k_423 k_24 k_117 rfl rfl h_M_performMiddle hR

set_option maxHeartbeats 4000000 in
set_option maxRecDepth 100000 in
theorem c_A_fail_s1 (l : Launch) (K : CK) (D : va_G) (cI cJ cZ cB : ClassId) (p0 p1 p2 p3 p4 p5 p6 p7 p8 p9 p10 p11 p12 p13 p14 p15 : Nat) (sz : Nat) (x0_3 : Int32) (x0_4 : Int32) (x0_5 : Int32) (x0_6 : Int32) (x0_7 : Int32) (x0_8 : Bool) (x0_9 : Int64) (x0_10 : Int32) (x0_11 : Option (Fin 51)) (x0_12 : Int32) (x0_13 : Int32) (x0_14 : Int32) (x1_1 : Int32) (x1_2 : Int32) (x1_3 : Int32) (x1_4 : Int32) (x1_5 : Int32) (x1_6 : Int32) (x1_7 : Int64) (x1_8 : Int32) (y2 : Nat → Int32) (x3_5 : Int32) (x3_6 : Int32) (y4 : Nat → Int64) (y5 : Nat → Int32) (y6 : Nat → Int32) (y7 : Nat → Int32) (y8 : Nat → Int32) (x9_6 : Int32) (y10 : Nat → Int32) (y11 : Nat → Int32) (y12 : Nat → Int32) (y13 : Nat → Int32) (y14 : Nat → Int32) (y15 : Nat → Int32)  (a1 : Int32) : Met l y_A_fail (.code y_A_fail b_A_fail 2 (some .int) :: tb) ({ frames := 0, cells := 0, slots := 0, locals := 0 }) (pMC K D cI cJ cZ cB (wS52 K cI cJ cZ cB p0 p1 p2 p3 p4 p5 p6 p7 p8 p9 p10 p11 p12 p13 p14 p15 x0_3 x0_4 x0_5 x0_6 x0_7 x0_8 x0_9 x0_10 x0_11 x0_12 x0_13 x0_14 x1_1 x1_2 x1_3 x1_4 x1_5 x1_6 x1_7 x1_8 y2 x3_5 x3_6 y4 y5 y6 y7 y8 x9_6 y10 y11 y12 y13 y14 y15) sz [.ref p0, .int a1]) (va_Qi (fun r (_ : Unit) => True) (fun _ t => (∃ u_x0_3 : Int32, ∃ u_x0_4 : Int32, va_P D classes (wS52 K cI cJ cZ cB p0 p1 p2 p3 p4 p5 p6 p7 p8 p9 p10 p11 p12 p13 p14 p15 u_x0_3 u_x0_4 x0_5 x0_6 x0_7 x0_8 x0_9 x0_10 x0_11 x0_12 x0_13 x0_14 x1_1 x1_2 x1_3 x1_4 x1_5 x1_6 x1_7 x1_8 y2 x3_5 x3_6 y4 y5 y6 y7 y8 x9_6 y10 y11 y12 y13 y14 y15) t.heap ∧ va_D (va_A (wS52 K cI cJ cZ cB p0 p1 p2 p3 p4 p5 p6 p7 p8 p9 p10 p11 p12 p13 p14 p15 x0_3 x0_4 x0_5 x0_6 x0_7 x0_8 x0_9 x0_10 x0_11 x0_12 x0_13 x0_14 x1_1 x1_2 x1_3 x1_4 x1_5 x1_6 x1_7 x1_8 y2 x3_5 x3_6 y4 y5 y6 y7 y8 x9_6 y10 y11 y12 y13 y14 y15) sz) (wS52 K cI cJ cZ cB p0 p1 p2 p3 p4 p5 p6 p7 p8 p9 p10 p11 p12 p13 p14 p15 u_x0_3 u_x0_4 x0_5 x0_6 x0_7 x0_8 x0_9 x0_10 x0_11 x0_12 x0_13 x0_14 x1_1 x1_2 x1_3 x1_4 x1_5 x1_6 x1_7 x1_8 y2 x3_5 x3_6 y4 y5 y6 y7 y8 x9_6 y10 y11 y12 y13 y14 y15))) (va_A (wS52 K cI cJ cZ cB p0 p1 p2 p3 p4 p5 p6 p7 p8 p9 p10 p11 p12 p13 p14 p15 x0_3 x0_4 x0_5 x0_6 x0_7 x0_8 x0_9 x0_10 x0_11 x0_12 x0_13 x0_14 x1_1 x1_2 x1_3 x1_4 x1_5 x1_6 x1_7 x1_8 y2 x3_5 x3_6 y4 y5 y6 y7 y8 x9_6 y10 y11 y12 y13 y14 y15) sz)) 0 0 (va_A (wS52 K cI cJ cZ cB p0 p1 p2 p3 p4 p5 p6 p7 p8 p9 p10 p11 p12 p13 p14 p15 x0_3 x0_4 x0_5 x0_6 x0_7 x0_8 x0_9 x0_10 x0_11 x0_12 x0_13 x0_14 x1_1 x1_2 x1_3 x1_4 x1_5 x1_6 x1_7 x1_8 y2 x3_5 x3_6 y4 y5 y6 y7 y8 x9_6 y10 y11 y12 y13 y14 y15) sz) := by
  refine Met.ofW (cc := b_A_fail) (maxL := 2) (ret := (some .int)) (by decide) rfl ?_
  intro p e s m args below meth c s₁ B hml hv
  obtain ⟨rfl, hsz, hK, hP, hD0, hC⟩ := hv
  subst hsz
  have hD := hD0.self (sz := s.heap.size)
  generalize hAe : va_A (wS52 K cI cJ cZ cB p0 p1 p2 p3 p4 p5 p6 p7 p8 p9 p10 p11 p12 p13 p14 p15 x0_3 x0_4 x0_5 x0_6 x0_7 x0_8 x0_9 x0_10 x0_11 x0_12 x0_13 x0_14 x1_1 x1_2 x1_3 x1_4 x1_5 x1_6 x1_7 x1_8 y2 x3_5 x3_6 y4 y5 y6 y7 y8 x9_6 y10 y11 y12 y13 y14 y15) s.heap.size = A at hD hC ⊢
  have hA : ∀ q : Nat, s.heap.size ≤ q → A q := fun q h => by rw [← hAe]; exact Or.inr h
  clear hAe hD0
  have hS : va_S A s.heap s.heap [] := va_S.rf
  have hx := B.exec
  have hb := B.bytes
  have hr := B.returns
  have hts := atoms_spec (ws := .code y_A_fail b_A_fail 2 (some .int) :: tb) B.pre
  have hk : ∀ w ∈ tb, w.before [.ref p0, .int a1].toArray s = true := fun w h => hts w (List.mem_cons_of_mem _ h)
  have hown : s.vm.findClass "SignMachine$Assembler" = some m.cls := findClass_of_methodNamed B.named
  have hlocks := B.notSynchronized
  have hl := lv_entry ([.ref p0, .int a1]) (n := 2) (Nat.le_of_ble_eq_true rfl)
  rw [lg_entry_eq]
  generalize (lg_sl ([.ref p0, .int a1]) ++ List.replicate (2 - (lg_sl ([.ref p0, .int a1])).length) Slot.unset).toArray = ls at hl ⊢
  have hl : lv_has ls 2 [(0, .ref p0), (1, .int a1)] := hl
  refine lv_aload_n hx hb d_A_fail_0 rfl (lv_at hl 0 rfl) ?_
  refine va_get (D := D) (ci := 3) (v := .int x0_3) (C := "SignMachine$Assembler") (T := F_A) (N := 15) hx hb hk fi_A hown hK.1 hP 0 rfl rfl 3 (by decide) (hk _ k_636) (fun _ h9 => h9) rfl d_A_fail_1 ?_
  refine lv_if_ne (tgt := 23) hx hb d_A_fail_4 (by decide) (fun c1 => ?_) (fun c1 => ?_)
  · refine lv_iconst (v := 0) hx hb d_A_fail_23 (by decide) ?_
    exact W.iret (v := (0 : Int32)) hx hb hr (fun t ht hW => ⟨⟨(0 : Int32), (), rfl, trivial, ⟨x0_3, x0_4, by show va_P D classes _ t.heap; rw [ht]; exact hP, hD⟩⟩, hS.F ht⟩) hS.2.2 d_A_fail_24
  · refine lv_aload_n hx hb d_A_fail_7 rfl (lv_at hl 0 rfl) ?_
    refine lv_iload_n hx hb d_A_fail_8 rfl (lv_at hl 1 rfl) ?_
    refine va_put (D := D) (ci := 3) (v := .int a1) (ty := .int) (C := "SignMachine$Assembler") (T := F_A) (N := 15) hx hb hk fi_A ft_A ft_A_ok fn_A hown hK.1 hP hD hS 0 rfl rfl 3 (by decide) (hk _ k_636) (fun _ h9 => h9) rfl (by decide +kernel) rfl rfl (Nat.le_of_ble_eq_true rfl) d_A_fail_9 (fun H locs hP hD hS => ?_)
    have hP : va_P D classes (wS52 K cI cJ cZ cB p0 p1 p2 p3 p4 p5 p6 p7 p8 p9 p10 p11 p12 p13 p14 p15 a1 x0_4 x0_5 x0_6 x0_7 x0_8 x0_9 x0_10 x0_11 x0_12 x0_13 x0_14 x1_1 x1_2 x1_3 x1_4 x1_5 x1_6 x1_7 x1_8 y2 x3_5 x3_6 y4 y5 y6 y7 y8 x9_6 y10 y11 y12 y13 y14 y15) H := hP
    have hD : va_D A (wS52 K cI cJ cZ cB p0 p1 p2 p3 p4 p5 p6 p7 p8 p9 p10 p11 p12 p13 p14 p15 a1 x0_4 x0_5 x0_6 x0_7 x0_8 x0_9 x0_10 x0_11 x0_12 x0_13 x0_14 x1_1 x1_2 x1_3 x1_4 x1_5 x1_6 x1_7 x1_8 y2 x3_5 x3_6 y4 y5 y6 y7 y8 x9_6 y10 y11 y12 y13 y14 y15) := hD
    refine lv_aload_n hx hb d_A_fail_12 rfl (lv_at hl 0 rfl) ?_
    refine lv_aload_n hx hb d_A_fail_13 rfl (lv_at hl 0 rfl) ?_
    refine va_get (D := D) (ci := 3) (v := .ref p1) (C := "SignMachine$Assembler") (T := F_A) (N := 15) hx hb hk fi_A hown hK.1 hP 0 rfl rfl 0 (by decide) (hk _ k_631) (fun _ h9 => h9) rfl d_A_fail_14 ?_
    refine va_getN (D := D) (ci := 4) (v := .int x1_2) (C := "SignMachine$Source") (T := F_R) (N := 9) hx hb hk fi_R hown hK.1 hP 1 rfl rfl 2 (by decide) (va_Nw.use rfl (hK.2 _ n_539)) (fun _ h9 => h9) rfl d_A_fail_17 ?_
    refine va_put (D := D) (ci := 3) (v := .int x1_2) (ty := .int) (C := "SignMachine$Assembler") (T := F_A) (N := 15) hx hb hk fi_A ft_A ft_A_ok fn_A hown hK.1 hP hD hS 0 rfl rfl 4 (by decide) (hk _ k_638) (fun _ h9 => h9) rfl (by decide +kernel) rfl rfl (Nat.le_of_ble_eq_true rfl) d_A_fail_20 (fun H locs hP hD hS => ?_)
    have hP : va_P D classes (wS52 K cI cJ cZ cB p0 p1 p2 p3 p4 p5 p6 p7 p8 p9 p10 p11 p12 p13 p14 p15 a1 x1_2 x0_5 x0_6 x0_7 x0_8 x0_9 x0_10 x0_11 x0_12 x0_13 x0_14 x1_1 x1_2 x1_3 x1_4 x1_5 x1_6 x1_7 x1_8 y2 x3_5 x3_6 y4 y5 y6 y7 y8 x9_6 y10 y11 y12 y13 y14 y15) H := hP
    have hD : va_D A (wS52 K cI cJ cZ cB p0 p1 p2 p3 p4 p5 p6 p7 p8 p9 p10 p11 p12 p13 p14 p15 a1 x1_2 x0_5 x0_6 x0_7 x0_8 x0_9 x0_10 x0_11 x0_12 x0_13 x0_14 x1_1 x1_2 x1_3 x1_4 x1_5 x1_6 x1_7 x1_8 y2 x3_5 x3_6 y4 y5 y6 y7 y8 x9_6 y10 y11 y12 y13 y14 y15) := hD
    refine lv_iconst (v := 0) hx hb d_A_fail_23 (by decide) ?_
    exact W.iret (v := (0 : Int32)) hx hb hr (fun t ht hW => ⟨⟨(0 : Int32), (), rfl, trivial, ⟨a1, x1_2, by show va_P D classes _ t.heap; rw [ht]; exact hP, hD⟩⟩, hS.F ht⟩) hS.2.2 d_A_fail_24
theorem v_A_fail_s1 {R : Room} {s : State} {args : Array Value} {own : String} {index : Nat} (hk : ∀ w ∈ tb, w.before args s = true) (hl : Cond.methodLink own index y_A_fail ∈ tb) (hR : 0 + 1 ≤ R.frames ∧ 8 + (2 + 11) + 0 ≤ R.locals) : CallW R s args own "SignMachine$Assembler" index y_A_fail b_A_fail 2 (some .int) (.code y_A_fail b_A_fail 2 (some .int) :: tb) ({ frames := 0, cells := 0, slots := 0, locals := 0 }) 0 0 1 := mk_v 1 hk k_770 hl k_769 k_36 k_123 rfl rfl h_A_fail hR
set_option maxHeartbeats 4000000 in
set_option maxRecDepth 100000 in
theorem c_A_finish_s1 (l : Launch) (K : CK) (D : va_G) (cI cJ cZ cB : ClassId) (p0 p1 p2 p3 p4 p5 p6 p7 p8 p9 p10 p11 p12 p13 p14 p15 : Nat) (sz : Nat) (x0_3 : Int32) (x0_4 : Int32) (x0_5 : Int32) (x0_6 : Int32) (x0_7 : Int32) (x0_8 : Bool) (x0_9 : Int64) (x0_10 : Int32) (x0_11 : Option (Fin 51)) (x0_12 : Int32) (x0_13 : Int32) (x0_14 : Int32) (x1_1 : Int32) (x1_2 : Int32) (x1_3 : Int32) (x1_4 : Int32) (x1_5 : Int32) (x1_6 : Int32) (x1_7 : Int64) (x1_8 : Int32) (y2 : Nat → Int32) (x3_5 : Int32) (x3_6 : Int32) (y4 : Nat → Int64) (y5 : Nat → Int32) (y6 : Nat → Int32) (y7 : Nat → Int32) (y8 : Nat → Int32) (x9_6 : Int32) (y10 : Nat → Int32) (y11 : Nat → Int32) (y12 : Nat → Int32) (y13 : Nat → Int32) (y14 : Nat → Int32) (y15 : Nat → Int32)   : Met l y_A_finish (.code y_A_finish b_A_finish 2 none :: tb) ({ frames := 4, cells := 0, slots := 0, locals := 86 }) (pMC K D cI cJ cZ cB (wS52 K cI cJ cZ cB p0 p1 p2 p3 p4 p5 p6 p7 p8 p9 p10 p11 p12 p13 p14 p15 x0_3 x0_4 x0_5 x0_6 x0_7 x0_8 x0_9 x0_10 x0_11 x0_12 x0_13 x0_14 x1_1 x1_2 x1_3 x1_4 x1_5 x1_6 x1_7 x1_8 y2 x3_5 x3_6 y4 y5 y6 y7 y8 x9_6 y10 y11 y12 y13 y14 y15) sz [.ref p0]) (va_Qv (fun (_ : Unit) => True) (fun _ t => (∃ u_x0_3 : Int32, ∃ u_x0_4 : Int32, ∃ u_x0_5 : Int32, ∃ u_x1_1 : Int32, ∃ u_y11 : Nat → Int32, (u_x1_1 = (0 : Int32)) ∧ va_P D classes (wS52 K cI cJ cZ cB p0 p1 p2 p3 p4 p5 p6 p7 p8 p9 p10 p11 p12 p13 p14 p15 u_x0_3 u_x0_4 u_x0_5 x0_6 x0_7 x0_8 x0_9 x0_10 x0_11 x0_12 x0_13 x0_14 u_x1_1 x1_2 x1_3 x1_4 x1_5 x1_6 x1_7 x1_8 y2 x3_5 x3_6 y4 y5 y6 y7 y8 x9_6 y10 u_y11 y12 y13 y14 y15) t.heap ∧ va_D (va_A (wS52 K cI cJ cZ cB p0 p1 p2 p3 p4 p5 p6 p7 p8 p9 p10 p11 p12 p13 p14 p15 x0_3 x0_4 x0_5 x0_6 x0_7 x0_8 x0_9 x0_10 x0_11 x0_12 x0_13 x0_14 x1_1 x1_2 x1_3 x1_4 x1_5 x1_6 x1_7 x1_8 y2 x3_5 x3_6 y4 y5 y6 y7 y8 x9_6 y10 y11 y12 y13 y14 y15) sz) (wS52 K cI cJ cZ cB p0 p1 p2 p3 p4 p5 p6 p7 p8 p9 p10 p11 p12 p13 p14 p15 u_x0_3 u_x0_4 u_x0_5 x0_6 x0_7 x0_8 x0_9 x0_10 x0_11 x0_12 x0_13 x0_14 u_x1_1 x1_2 x1_3 x1_4 x1_5 x1_6 x1_7 x1_8 y2 x3_5 x3_6 y4 y5 y6 y7 y8 x9_6 y10 u_y11 y12 y13 y14 y15))) (va_A (wS52 K cI cJ cZ cB p0 p1 p2 p3 p4 p5 p6 p7 p8 p9 p10 p11 p12 p13 p14 p15 x0_3 x0_4 x0_5 x0_6 x0_7 x0_8 x0_9 x0_10 x0_11 x0_12 x0_13 x0_14 x1_1 x1_2 x1_3 x1_4 x1_5 x1_6 x1_7 x1_8 y2 x3_5 x3_6 y4 y5 y6 y7 y8 x9_6 y10 y11 y12 y13 y14 y15) sz)) 0 0 (va_A (wS52 K cI cJ cZ cB p0 p1 p2 p3 p4 p5 p6 p7 p8 p9 p10 p11 p12 p13 p14 p15 x0_3 x0_4 x0_5 x0_6 x0_7 x0_8 x0_9 x0_10 x0_11 x0_12 x0_13 x0_14 x1_1 x1_2 x1_3 x1_4 x1_5 x1_6 x1_7 x1_8 y2 x3_5 x3_6 y4 y5 y6 y7 y8 x9_6 y10 y11 y12 y13 y14 y15) sz) := by
  refine Met.ofW (cc := b_A_finish) (maxL := 2) (ret := none) (by decide) rfl ?_
  intro p e s m args below meth c s₁ B hml hv
  obtain ⟨rfl, hsz, hK, hP, hD0, hC⟩ := hv
  subst hsz
  have hD := hD0.self (sz := s.heap.size)
  generalize hAe : va_A (wS52 K cI cJ cZ cB p0 p1 p2 p3 p4 p5 p6 p7 p8 p9 p10 p11 p12 p13 p14 p15 x0_3 x0_4 x0_5 x0_6 x0_7 x0_8 x0_9 x0_10 x0_11 x0_12 x0_13 x0_14 x1_1 x1_2 x1_3 x1_4 x1_5 x1_6 x1_7 x1_8 y2 x3_5 x3_6 y4 y5 y6 y7 y8 x9_6 y10 y11 y12 y13 y14 y15) s.heap.size = A at hD hC ⊢
  have hA : ∀ q : Nat, s.heap.size ≤ q → A q := fun q h => by rw [← hAe]; exact Or.inr h
  clear hAe hD0
  have hS : va_S A s.heap s.heap [] := va_S.rf
  have hx := B.exec
  have hb := B.bytes
  have hr := B.returns
  have hts := atoms_spec (ws := .code y_A_finish b_A_finish 2 none :: tb) B.pre
  have hk : ∀ w ∈ tb, w.before [.ref p0].toArray s = true := fun w h => hts w (List.mem_cons_of_mem _ h)
  have hown : s.vm.findClass "SignMachine$Assembler" = some m.cls := findClass_of_methodNamed B.named
  have hlocks := B.notSynchronized
  have hl := lv_entry ([.ref p0]) (n := 2) (Nat.le_of_ble_eq_true rfl)
  rw [lg_entry_eq]
  generalize (lg_sl ([.ref p0]) ++ List.replicate (2 - (lg_sl ([.ref p0])).length) Slot.unset).toArray = ls at hl ⊢
  have hl : lv_has ls 2 [(0, .ref p0)] := hl
  refine lv_aload_n hx hb d_A_finish_0 rfl (lv_at hl 0 rfl) ?_
  refine va_get (D := D) (ci := 3) (v := .ref p1) (C := "SignMachine$Assembler") (T := F_A) (N := 15) hx hb hk fi_A hown hK.1 hP 0 rfl rfl 0 (by decide) (hk _ k_631) (fun _ h9 => h9) rfl d_A_finish_1 ?_
  refine lv_iconst (v := 0) hx hb d_A_finish_4 (by decide) ?_
  refine va_putN (D := D) (ci := 4) (v := .int (0 : Int32)) (ty := .int) (C := "SignMachine$Source") (T := F_R) (N := 9) hx hb hk fi_R ft_R ft_R_ok fn_R hown hK.1 hP hD hS 1 rfl rfl 1 (by decide) (va_Nw.use rfl (hK.2 _ n_536)) (fun _ h9 => h9) rfl (by decide +kernel) rfl rfl (Nat.le_of_ble_eq_true rfl) d_A_finish_5 (fun H locs hP hD hS => ?_)
  have hP : va_P D classes (wS52 K cI cJ cZ cB p0 p1 p2 p3 p4 p5 p6 p7 p8 p9 p10 p11 p12 p13 p14 p15 x0_3 x0_4 x0_5 x0_6 x0_7 x0_8 x0_9 x0_10 x0_11 x0_12 x0_13 x0_14 (0 : Int32) x1_2 x1_3 x1_4 x1_5 x1_6 x1_7 x1_8 y2 x3_5 x3_6 y4 y5 y6 y7 y8 x9_6 y10 y11 y12 y13 y14 y15) H := hP
  have hD : va_D A (wS52 K cI cJ cZ cB p0 p1 p2 p3 p4 p5 p6 p7 p8 p9 p10 p11 p12 p13 p14 p15 x0_3 x0_4 x0_5 x0_6 x0_7 x0_8 x0_9 x0_10 x0_11 x0_12 x0_13 x0_14 (0 : Int32) x1_2 x1_3 x1_4 x1_5 x1_6 x1_7 x1_8 y2 x3_5 x3_6 y4 y5 y6 y7 y8 x9_6 y10 y11 y12 y13 y14 y15) := hD
  refine lv_aload_n hx hb d_A_finish_8 rfl (lv_at hl 0 rfl) ?_
  refine va_get (D := D) (ci := 3) (v := .int x0_3) (C := "SignMachine$Assembler") (T := F_A) (N := 15) hx hb hk fi_A hown hK.1 hP 0 rfl rfl 3 (by decide) (hk _ k_636) (fun _ h9 => h9) rfl d_A_finish_9 ?_
  refine lv_if_ne (tgt := 29) hx hb d_A_finish_12 (by decide) (fun c1 => ?_) (fun c1 => ?_)
  · refine lv_iconst (v := 0) hx hb d_A_finish_29 (by decide) ?_
    refine lv_istore_n (lv' := [(1, .int (0 : Int32)), (0, .ref p0)]) hx hb d_A_finish_30 rfl hl (by decide) rfl (fun ls hl => ?_)
    have LP31_52 : ∀ (n : Nat) (l1 : Int32) (x0_3 : Int32) (x0_4 : Int32) (x0_5 : Int32) (y11 : Nat → Int32) (H : Heap) (locs : List Loc) (ls : Array Slot), ((x9_6).toInt - (l1).toInt).toNat < n → ¬ l1 < (0 : Int32) → va_P D classes (wS52 K cI cJ cZ cB p0 p1 p2 p3 p4 p5 p6 p7 p8 p9 p10 p11 p12 p13 p14 p15 x0_3 x0_4 x0_5 x0_6 x0_7 x0_8 x0_9 x0_10 x0_11 x0_12 x0_13 x0_14 (0 : Int32) x1_2 x1_3 x1_4 x1_5 x1_6 x1_7 x1_8 y2 x3_5 x3_6 y4 y5 y6 y7 y8 x9_6 y10 y11 y12 y13 y14 y15) H → va_D A (wS52 K cI cJ cZ cB p0 p1 p2 p3 p4 p5 p6 p7 p8 p9 p10 p11 p12 p13 p14 p15 x0_3 x0_4 x0_5 x0_6 x0_7 x0_8 x0_9 x0_10 x0_11 x0_12 x0_13 x0_14 (0 : Int32) x1_2 x1_3 x1_4 x1_5 x1_6 x1_7 x1_8 y2 x3_5 x3_6 y4 y5 y6 y7 y8 x9_6 y10 y11 y12 y13 y14 y15) → va_S A s.heap H locs → lv_has ls 2 [(1, .int l1), (0, .ref p0)] → W p l e ({ frames := 4, cells := 0, slots := 0, locals := 86 }) s m [.ref p0].toArray below meth c H locs 0 0 (MQ below (va_Qv (fun (_ : Unit) => True) (fun _ t => (∃ u_x0_3 : Int32, ∃ u_x0_4 : Int32, ∃ u_x0_5 : Int32, ∃ u_x1_1 : Int32, ∃ u_y11 : Nat → Int32, (u_x1_1 = (0 : Int32)) ∧ va_P D classes (wS52 K cI cJ cZ cB p0 p1 p2 p3 p4 p5 p6 p7 p8 p9 p10 p11 p12 p13 p14 p15 u_x0_3 u_x0_4 u_x0_5 x0_6 x0_7 x0_8 x0_9 x0_10 x0_11 x0_12 x0_13 x0_14 u_x1_1 x1_2 x1_3 x1_4 x1_5 x1_6 x1_7 x1_8 y2 x3_5 x3_6 y4 y5 y6 y7 y8 x9_6 y10 u_y11 y12 y13 y14 y15) t.heap ∧ va_D A (wS52 K cI cJ cZ cB p0 p1 p2 p3 p4 p5 p6 p7 p8 p9 p10 p11 p12 p13 p14 p15 u_x0_3 u_x0_4 u_x0_5 x0_6 x0_7 x0_8 x0_9 x0_10 x0_11 x0_12 x0_13 x0_14 u_x1_1 x1_2 x1_3 x1_4 x1_5 x1_6 x1_7 x1_8 y2 x3_5 x3_6 y4 y5 y6 y7 y8 x9_6 y10 u_y11 y12 y13 y14 y15))) A) [.ref p0].toArray s 0 0 A) (F0 m 31 ls []) := by
      intro n
      induction n with
      | zero => intro l1 x0_3 x0_4 x0_5 y11 H locs ls hn; exact absurd hn (Nat.not_lt_zero _)
      | succ n ih =>
        intro l1 x0_3 x0_4 x0_5 y11 H locs ls hn31_52 hc31_52 hP hD hS hl
        refine lv_iload_n hx hb d_A_finish_31 rfl (lv_at hl 0 rfl) ?_
        refine lv_aload_n hx hb d_A_finish_32 rfl (lv_at hl 1 rfl) ?_
        refine va_get (D := D) (ci := 3) (v := .ref p9) (C := "SignMachine$Assembler") (T := F_A) (N := 15) hx hb hk fi_A hown hK.1 hP 0 rfl rfl 2 (by decide) (hk _ k_634) (fun _ h9 => h9) rfl d_A_finish_33 ?_
        refine va_getN (D := D) (ci := 6) (v := .int x9_6) (C := "SignMachine$Output") (T := F_O) (N := 7) hx hb hk fi_O hown hK.1 hP 9 rfl rfl 6 (by decide) (va_Nw.use rfl (hK.2 _ n_614)) (fun _ h9 => h9) rfl d_A_finish_36 ?_
        refine lv_icmp_ge (tgt := 60) hx hb d_A_finish_39 (by decide) (fun c2 => ?_) (fun c2 => ?_)
        · refine lv_aload_n hx hb d_A_finish_60 rfl (lv_at hl 1 rfl) ?_
          refine va_get (D := D) (ci := 3) (v := .int x0_3) (C := "SignMachine$Assembler") (T := F_A) (N := 15) hx hb hk fi_A hown hK.1 hP 0 rfl rfl 3 (by decide) (hk _ k_636) (fun _ h9 => h9) rfl d_A_finish_61 ?_
          refine lv_if_eq (tgt := 72) hx hb d_A_finish_64 (by decide) (fun c3 => ?_) (fun c3 => ?_)
          · exact W.vret hx hb hr (fun t ht hW => ⟨⟨(), rfl, trivial, ⟨x0_3, x0_4, x0_5, (0 : Int32), y11, rfl, by show va_P D classes _ t.heap; rw [ht]; exact hP, hD⟩⟩, hS.F ht⟩) hS.2.2 d_A_finish_72
          · refine lv_aload_n hx hb d_A_finish_67 rfl (lv_at hl 1 rfl) ?_
            refine lv_iconst (v := (-1)) hx hb d_A_finish_68 (by decide) ?_
            refine va_put (D := D) (ci := 3) (v := .int (-1 : Int32)) (ty := .int) (C := "SignMachine$Assembler") (T := F_A) (N := 15) hx hb hk fi_A ft_A ft_A_ok fn_A hown hK.1 hP hD hS 0 rfl rfl 5 (by decide) (hk _ k_640) (fun _ h9 => h9) rfl (by decide +kernel) rfl rfl (Nat.le_of_ble_eq_true rfl) d_A_finish_69 (fun H locs hP hD hS => ?_)
            have hP : va_P D classes (wS52 K cI cJ cZ cB p0 p1 p2 p3 p4 p5 p6 p7 p8 p9 p10 p11 p12 p13 p14 p15 x0_3 x0_4 (-1 : Int32) x0_6 x0_7 x0_8 x0_9 x0_10 x0_11 x0_12 x0_13 x0_14 (0 : Int32) x1_2 x1_3 x1_4 x1_5 x1_6 x1_7 x1_8 y2 x3_5 x3_6 y4 y5 y6 y7 y8 x9_6 y10 y11 y12 y13 y14 y15) H := hP
            have hD : va_D A (wS52 K cI cJ cZ cB p0 p1 p2 p3 p4 p5 p6 p7 p8 p9 p10 p11 p12 p13 p14 p15 x0_3 x0_4 (-1 : Int32) x0_6 x0_7 x0_8 x0_9 x0_10 x0_11 x0_12 x0_13 x0_14 (0 : Int32) x1_2 x1_3 x1_4 x1_5 x1_6 x1_7 x1_8 y2 x3_5 x3_6 y4 y5 y6 y7 y8 x9_6 y10 y11 y12 y13 y14 y15) := hD
            exact W.vret hx hb hr (fun t ht hW => ⟨⟨(), rfl, trivial, ⟨x0_3, x0_4, (-1 : Int32), (0 : Int32), y11, rfl, by show va_P D classes _ t.heap; rw [ht]; exact hP, hD⟩⟩, hS.F ht⟩) hS.2.2 d_A_finish_72
        · refine lv_aload_n hx hb d_A_finish_42 rfl (lv_at hl 1 rfl) ?_
          refine va_get (D := D) (ci := 3) (v := .int x0_3) (C := "SignMachine$Assembler") (T := F_A) (N := 15) hx hb hk fi_A hown hK.1 hP 0 rfl rfl 3 (by decide) (hk _ k_636) (fun _ h9 => h9) rfl d_A_finish_43 ?_
          refine lv_if_ne (tgt := 60) hx hb d_A_finish_46 (by decide) (fun c4 => ?_) (fun c4 => ?_)
          · refine lv_aload_n hx hb d_A_finish_60 rfl (lv_at hl 1 rfl) ?_
            refine va_get (D := D) (ci := 3) (v := .int x0_3) (C := "SignMachine$Assembler") (T := F_A) (N := 15) hx hb hk fi_A hown hK.1 hP 0 rfl rfl 3 (by decide) (hk _ k_636) (fun _ h9 => h9) rfl d_A_finish_61 ?_
            refine lv_if_eq (tgt := 72) hx hb d_A_finish_64 (by decide) (fun c5 => absurd c5 (show ¬ x0_3 = (0 : Int32) from c4)) (fun c5 => ?_)
            refine lv_aload_n hx hb d_A_finish_67 rfl (lv_at hl 1 rfl) ?_
            refine lv_iconst (v := (-1)) hx hb d_A_finish_68 (by decide) ?_
            refine va_put (D := D) (ci := 3) (v := .int (-1 : Int32)) (ty := .int) (C := "SignMachine$Assembler") (T := F_A) (N := 15) hx hb hk fi_A ft_A ft_A_ok fn_A hown hK.1 hP hD hS 0 rfl rfl 5 (by decide) (hk _ k_640) (fun _ h9 => h9) rfl (by decide +kernel) rfl rfl (Nat.le_of_ble_eq_true rfl) d_A_finish_69 (fun H locs hP hD hS => ?_)
            have hP : va_P D classes (wS52 K cI cJ cZ cB p0 p1 p2 p3 p4 p5 p6 p7 p8 p9 p10 p11 p12 p13 p14 p15 x0_3 x0_4 (-1 : Int32) x0_6 x0_7 x0_8 x0_9 x0_10 x0_11 x0_12 x0_13 x0_14 (0 : Int32) x1_2 x1_3 x1_4 x1_5 x1_6 x1_7 x1_8 y2 x3_5 x3_6 y4 y5 y6 y7 y8 x9_6 y10 y11 y12 y13 y14 y15) H := hP
            have hD : va_D A (wS52 K cI cJ cZ cB p0 p1 p2 p3 p4 p5 p6 p7 p8 p9 p10 p11 p12 p13 p14 p15 x0_3 x0_4 (-1 : Int32) x0_6 x0_7 x0_8 x0_9 x0_10 x0_11 x0_12 x0_13 x0_14 (0 : Int32) x1_2 x1_3 x1_4 x1_5 x1_6 x1_7 x1_8 y2 x3_5 x3_6 y4 y5 y6 y7 y8 x9_6 y10 y11 y12 y13 y14 y15) := hD
            exact W.vret hx hb hr (fun t ht hW => ⟨⟨(), rfl, trivial, ⟨x0_3, x0_4, (-1 : Int32), (0 : Int32), y11, rfl, by show va_P D classes _ t.heap; rw [ht]; exact hP, hD⟩⟩, hS.F ht⟩) hS.2.2 d_A_finish_72
          · refine lv_aload_n hx hb d_A_finish_49 rfl (lv_at hl 1 rfl) ?_
            refine lv_iload_n hx hb d_A_finish_50 rfl (lv_at hl 0 rfl) ?_
            refine kn_v (va_runV (C := "SignMachine$Assembler") (As := [.int l1]) (rest := []) ⟨hx, hb, hml, hown, hk⟩ (c_A_close_s1 l K D cI cJ cZ cB p0 p1 p2 p3 p4 p5 p6 p7 p8 p9 p10 p11 p12 p13 p14 p15 H.size x0_3 x0_4 x0_5 x0_6 x0_7 x0_8 x0_9 x0_10 x0_11 x0_12 x0_13 x0_14 (0 : Int32) x1_2 x1_3 x1_4 x1_5 x1_6 x1_7 x1_8 y2 x3_5 x3_6 y4 y5 y6 y7 y8 x9_6 y10 y11 y12 y13 y14 y15  l1 ) (v_A_close_s1 hk k_1078 ⟨Nat.le_of_ble_eq_true rfl, Nat.le_of_ble_eq_true rfl⟩) (pMC_v hK hP hD hC hS hA (ci := 3) (q0 := 0) rfl rfl rfl) rfl rfl hl.1 rfl (lv_room (Nat.le_of_ble_eq_true rfl)) d_A_finish_51 ⟨by decide, by decide⟩) hS hA hD (fun u t H locs ht hB hFr hS => ?_)
            obtain ⟨x0_3z6, x0_4z6, y11z6, hP, hD⟩ := hB
            rw [ht] at hP
            have hD := dwk hD hFr
            clear ht hFr
            have hP : va_P D classes (wS52 K cI cJ cZ cB p0 p1 p2 p3 p4 p5 p6 p7 p8 p9 p10 p11 p12 p13 p14 p15 x0_3z6 x0_4z6 x0_5 x0_6 x0_7 x0_8 x0_9 x0_10 x0_11 x0_12 x0_13 x0_14 (0 : Int32) x1_2 x1_3 x1_4 x1_5 x1_6 x1_7 x1_8 y2 x3_5 x3_6 y4 y5 y6 y7 y8 x9_6 y10 y11z6 y12 y13 y14 y15) H := hP
            have hD : va_D A (wS52 K cI cJ cZ cB p0 p1 p2 p3 p4 p5 p6 p7 p8 p9 p10 p11 p12 p13 p14 p15 x0_3z6 x0_4z6 x0_5 x0_6 x0_7 x0_8 x0_9 x0_10 x0_11 x0_12 x0_13 x0_14 (0 : Int32) x1_2 x1_3 x1_4 x1_5 x1_6 x1_7 x1_8 y2 x3_5 x3_6 y4 y5 y6 y7 y8 x9_6 y10 y11z6 y12 y13 y14 y15) := hD
            obtain ⟨v7, hv7⟩ : ∃ y : Int32, y = (l1 + (1 : Int32)) := ⟨_, rfl⟩
            refine lv_iinc (v := v7) (lv' := [(1, .int v7), (0, .ref p0)]) hx hb d_A_finish_54 hl (k := 0) rfl (by rw [hv7]; rfl) (by decide) rfl (fun ls hl => ?_)
            refine lv_goto (tgt := 31) hx hb d_A_finish_57 (by decide) ?_
            exact ih v7 x0_3z6 x0_4z6 x0_5 y11z6 H _ ls (lpu c2 hv7 hn31_52) (lpn hc31_52 c2 hv7) hP hD hS (lv_sub hl [0, 1] rfl)
    exact LP31_52 _ (0 : Int32) x0_3 x0_4 x0_5 y11 H _ ls (Nat.lt_succ_self _) (by decide) hP hD hS hl
  · refine lv_aload_n hx hb d_A_finish_15 rfl (lv_at hl 0 rfl) ?_
    refine va_get (D := D) (ci := 3) (v := .int (bI x0_8)) (C := "SignMachine$Assembler") (T := F_A) (N := 15) hx hb hk fi_A hown hK.1 hP 0 rfl rfl 8 (by decide) (hk _ k_645) (fun _ h9 => h9) rfl d_A_finish_16 ?_
    refine lv_if_ne (tgt := 29) hx hb d_A_finish_19 (by decide) (fun c8 => ?_) (fun c8 => ?_)
    · refine lv_iconst (v := 0) hx hb d_A_finish_29 (by decide) ?_
      refine lv_istore_n (lv' := [(1, .int (0 : Int32)), (0, .ref p0)]) hx hb d_A_finish_30 rfl hl (by decide) rfl (fun ls hl => ?_)
      have LP31_52 : ∀ (n : Nat) (l1 : Int32) (x0_3 : Int32) (x0_4 : Int32) (x0_5 : Int32) (y11 : Nat → Int32) (H : Heap) (locs : List Loc) (ls : Array Slot), ((x9_6).toInt - (l1).toInt).toNat < n → ¬ l1 < (0 : Int32) → va_P D classes (wS52 K cI cJ cZ cB p0 p1 p2 p3 p4 p5 p6 p7 p8 p9 p10 p11 p12 p13 p14 p15 x0_3 x0_4 x0_5 x0_6 x0_7 x0_8 x0_9 x0_10 x0_11 x0_12 x0_13 x0_14 (0 : Int32) x1_2 x1_3 x1_4 x1_5 x1_6 x1_7 x1_8 y2 x3_5 x3_6 y4 y5 y6 y7 y8 x9_6 y10 y11 y12 y13 y14 y15) H → va_D A (wS52 K cI cJ cZ cB p0 p1 p2 p3 p4 p5 p6 p7 p8 p9 p10 p11 p12 p13 p14 p15 x0_3 x0_4 x0_5 x0_6 x0_7 x0_8 x0_9 x0_10 x0_11 x0_12 x0_13 x0_14 (0 : Int32) x1_2 x1_3 x1_4 x1_5 x1_6 x1_7 x1_8 y2 x3_5 x3_6 y4 y5 y6 y7 y8 x9_6 y10 y11 y12 y13 y14 y15) → va_S A s.heap H locs → lv_has ls 2 [(1, .int l1), (0, .ref p0)] → W p l e ({ frames := 4, cells := 0, slots := 0, locals := 86 }) s m [.ref p0].toArray below meth c H locs 0 0 (MQ below (va_Qv (fun (_ : Unit) => True) (fun _ t => (∃ u_x0_3 : Int32, ∃ u_x0_4 : Int32, ∃ u_x0_5 : Int32, ∃ u_x1_1 : Int32, ∃ u_y11 : Nat → Int32, (u_x1_1 = (0 : Int32)) ∧ va_P D classes (wS52 K cI cJ cZ cB p0 p1 p2 p3 p4 p5 p6 p7 p8 p9 p10 p11 p12 p13 p14 p15 u_x0_3 u_x0_4 u_x0_5 x0_6 x0_7 x0_8 x0_9 x0_10 x0_11 x0_12 x0_13 x0_14 u_x1_1 x1_2 x1_3 x1_4 x1_5 x1_6 x1_7 x1_8 y2 x3_5 x3_6 y4 y5 y6 y7 y8 x9_6 y10 u_y11 y12 y13 y14 y15) t.heap ∧ va_D A (wS52 K cI cJ cZ cB p0 p1 p2 p3 p4 p5 p6 p7 p8 p9 p10 p11 p12 p13 p14 p15 u_x0_3 u_x0_4 u_x0_5 x0_6 x0_7 x0_8 x0_9 x0_10 x0_11 x0_12 x0_13 x0_14 u_x1_1 x1_2 x1_3 x1_4 x1_5 x1_6 x1_7 x1_8 y2 x3_5 x3_6 y4 y5 y6 y7 y8 x9_6 y10 u_y11 y12 y13 y14 y15))) A) [.ref p0].toArray s 0 0 A) (F0 m 31 ls []) := by
        intro n
        induction n with
        | zero => intro l1 x0_3 x0_4 x0_5 y11 H locs ls hn; exact absurd hn (Nat.not_lt_zero _)
        | succ n ih =>
          intro l1 x0_3 x0_4 x0_5 y11 H locs ls hn31_52 hc31_52 hP hD hS hl
          refine lv_iload_n hx hb d_A_finish_31 rfl (lv_at hl 0 rfl) ?_
          refine lv_aload_n hx hb d_A_finish_32 rfl (lv_at hl 1 rfl) ?_
          refine va_get (D := D) (ci := 3) (v := .ref p9) (C := "SignMachine$Assembler") (T := F_A) (N := 15) hx hb hk fi_A hown hK.1 hP 0 rfl rfl 2 (by decide) (hk _ k_634) (fun _ h9 => h9) rfl d_A_finish_33 ?_
          refine va_getN (D := D) (ci := 6) (v := .int x9_6) (C := "SignMachine$Output") (T := F_O) (N := 7) hx hb hk fi_O hown hK.1 hP 9 rfl rfl 6 (by decide) (va_Nw.use rfl (hK.2 _ n_614)) (fun _ h9 => h9) rfl d_A_finish_36 ?_
          refine lv_icmp_ge (tgt := 60) hx hb d_A_finish_39 (by decide) (fun c9 => ?_) (fun c9 => ?_)
          · refine lv_aload_n hx hb d_A_finish_60 rfl (lv_at hl 1 rfl) ?_
            refine va_get (D := D) (ci := 3) (v := .int x0_3) (C := "SignMachine$Assembler") (T := F_A) (N := 15) hx hb hk fi_A hown hK.1 hP 0 rfl rfl 3 (by decide) (hk _ k_636) (fun _ h9 => h9) rfl d_A_finish_61 ?_
            refine lv_if_eq (tgt := 72) hx hb d_A_finish_64 (by decide) (fun c10 => ?_) (fun c10 => ?_)
            · exact W.vret hx hb hr (fun t ht hW => ⟨⟨(), rfl, trivial, ⟨x0_3, x0_4, x0_5, (0 : Int32), y11, rfl, by show va_P D classes _ t.heap; rw [ht]; exact hP, hD⟩⟩, hS.F ht⟩) hS.2.2 d_A_finish_72
            · refine lv_aload_n hx hb d_A_finish_67 rfl (lv_at hl 1 rfl) ?_
              refine lv_iconst (v := (-1)) hx hb d_A_finish_68 (by decide) ?_
              refine va_put (D := D) (ci := 3) (v := .int (-1 : Int32)) (ty := .int) (C := "SignMachine$Assembler") (T := F_A) (N := 15) hx hb hk fi_A ft_A ft_A_ok fn_A hown hK.1 hP hD hS 0 rfl rfl 5 (by decide) (hk _ k_640) (fun _ h9 => h9) rfl (by decide +kernel) rfl rfl (Nat.le_of_ble_eq_true rfl) d_A_finish_69 (fun H locs hP hD hS => ?_)
              have hP : va_P D classes (wS52 K cI cJ cZ cB p0 p1 p2 p3 p4 p5 p6 p7 p8 p9 p10 p11 p12 p13 p14 p15 x0_3 x0_4 (-1 : Int32) x0_6 x0_7 x0_8 x0_9 x0_10 x0_11 x0_12 x0_13 x0_14 (0 : Int32) x1_2 x1_3 x1_4 x1_5 x1_6 x1_7 x1_8 y2 x3_5 x3_6 y4 y5 y6 y7 y8 x9_6 y10 y11 y12 y13 y14 y15) H := hP
              have hD : va_D A (wS52 K cI cJ cZ cB p0 p1 p2 p3 p4 p5 p6 p7 p8 p9 p10 p11 p12 p13 p14 p15 x0_3 x0_4 (-1 : Int32) x0_6 x0_7 x0_8 x0_9 x0_10 x0_11 x0_12 x0_13 x0_14 (0 : Int32) x1_2 x1_3 x1_4 x1_5 x1_6 x1_7 x1_8 y2 x3_5 x3_6 y4 y5 y6 y7 y8 x9_6 y10 y11 y12 y13 y14 y15) := hD
              exact W.vret hx hb hr (fun t ht hW => ⟨⟨(), rfl, trivial, ⟨x0_3, x0_4, (-1 : Int32), (0 : Int32), y11, rfl, by show va_P D classes _ t.heap; rw [ht]; exact hP, hD⟩⟩, hS.F ht⟩) hS.2.2 d_A_finish_72
          · refine lv_aload_n hx hb d_A_finish_42 rfl (lv_at hl 1 rfl) ?_
            refine va_get (D := D) (ci := 3) (v := .int x0_3) (C := "SignMachine$Assembler") (T := F_A) (N := 15) hx hb hk fi_A hown hK.1 hP 0 rfl rfl 3 (by decide) (hk _ k_636) (fun _ h9 => h9) rfl d_A_finish_43 ?_
            refine lv_if_ne (tgt := 60) hx hb d_A_finish_46 (by decide) (fun c11 => ?_) (fun c11 => ?_)
            · refine lv_aload_n hx hb d_A_finish_60 rfl (lv_at hl 1 rfl) ?_
              refine va_get (D := D) (ci := 3) (v := .int x0_3) (C := "SignMachine$Assembler") (T := F_A) (N := 15) hx hb hk fi_A hown hK.1 hP 0 rfl rfl 3 (by decide) (hk _ k_636) (fun _ h9 => h9) rfl d_A_finish_61 ?_
              refine lv_if_eq (tgt := 72) hx hb d_A_finish_64 (by decide) (fun c12 => absurd c12 (show ¬ x0_3 = (0 : Int32) from c11)) (fun c12 => ?_)
              refine lv_aload_n hx hb d_A_finish_67 rfl (lv_at hl 1 rfl) ?_
              refine lv_iconst (v := (-1)) hx hb d_A_finish_68 (by decide) ?_
              refine va_put (D := D) (ci := 3) (v := .int (-1 : Int32)) (ty := .int) (C := "SignMachine$Assembler") (T := F_A) (N := 15) hx hb hk fi_A ft_A ft_A_ok fn_A hown hK.1 hP hD hS 0 rfl rfl 5 (by decide) (hk _ k_640) (fun _ h9 => h9) rfl (by decide +kernel) rfl rfl (Nat.le_of_ble_eq_true rfl) d_A_finish_69 (fun H locs hP hD hS => ?_)
              have hP : va_P D classes (wS52 K cI cJ cZ cB p0 p1 p2 p3 p4 p5 p6 p7 p8 p9 p10 p11 p12 p13 p14 p15 x0_3 x0_4 (-1 : Int32) x0_6 x0_7 x0_8 x0_9 x0_10 x0_11 x0_12 x0_13 x0_14 (0 : Int32) x1_2 x1_3 x1_4 x1_5 x1_6 x1_7 x1_8 y2 x3_5 x3_6 y4 y5 y6 y7 y8 x9_6 y10 y11 y12 y13 y14 y15) H := hP
              have hD : va_D A (wS52 K cI cJ cZ cB p0 p1 p2 p3 p4 p5 p6 p7 p8 p9 p10 p11 p12 p13 p14 p15 x0_3 x0_4 (-1 : Int32) x0_6 x0_7 x0_8 x0_9 x0_10 x0_11 x0_12 x0_13 x0_14 (0 : Int32) x1_2 x1_3 x1_4 x1_5 x1_6 x1_7 x1_8 y2 x3_5 x3_6 y4 y5 y6 y7 y8 x9_6 y10 y11 y12 y13 y14 y15) := hD
              exact W.vret hx hb hr (fun t ht hW => ⟨⟨(), rfl, trivial, ⟨x0_3, x0_4, (-1 : Int32), (0 : Int32), y11, rfl, by show va_P D classes _ t.heap; rw [ht]; exact hP, hD⟩⟩, hS.F ht⟩) hS.2.2 d_A_finish_72
            · refine lv_aload_n hx hb d_A_finish_49 rfl (lv_at hl 1 rfl) ?_
              refine lv_iload_n hx hb d_A_finish_50 rfl (lv_at hl 0 rfl) ?_
              refine kn_v (va_runV (C := "SignMachine$Assembler") (As := [.int l1]) (rest := []) ⟨hx, hb, hml, hown, hk⟩ (c_A_close_s1 l K D cI cJ cZ cB p0 p1 p2 p3 p4 p5 p6 p7 p8 p9 p10 p11 p12 p13 p14 p15 H.size x0_3 x0_4 x0_5 x0_6 x0_7 x0_8 x0_9 x0_10 x0_11 x0_12 x0_13 x0_14 (0 : Int32) x1_2 x1_3 x1_4 x1_5 x1_6 x1_7 x1_8 y2 x3_5 x3_6 y4 y5 y6 y7 y8 x9_6 y10 y11 y12 y13 y14 y15  l1 ) (v_A_close_s1 hk k_1078 ⟨Nat.le_of_ble_eq_true rfl, Nat.le_of_ble_eq_true rfl⟩) (pMC_v hK hP hD hC hS hA (ci := 3) (q0 := 0) rfl rfl rfl) rfl rfl hl.1 rfl (lv_room (Nat.le_of_ble_eq_true rfl)) d_A_finish_51 ⟨by decide, by decide⟩) hS hA hD (fun u t H locs ht hB hFr hS => ?_)
              obtain ⟨x0_3z13, x0_4z13, y11z13, hP, hD⟩ := hB
              rw [ht] at hP
              have hD := dwk hD hFr
              clear ht hFr
              have hP : va_P D classes (wS52 K cI cJ cZ cB p0 p1 p2 p3 p4 p5 p6 p7 p8 p9 p10 p11 p12 p13 p14 p15 x0_3z13 x0_4z13 x0_5 x0_6 x0_7 x0_8 x0_9 x0_10 x0_11 x0_12 x0_13 x0_14 (0 : Int32) x1_2 x1_3 x1_4 x1_5 x1_6 x1_7 x1_8 y2 x3_5 x3_6 y4 y5 y6 y7 y8 x9_6 y10 y11z13 y12 y13 y14 y15) H := hP
              have hD : va_D A (wS52 K cI cJ cZ cB p0 p1 p2 p3 p4 p5 p6 p7 p8 p9 p10 p11 p12 p13 p14 p15 x0_3z13 x0_4z13 x0_5 x0_6 x0_7 x0_8 x0_9 x0_10 x0_11 x0_12 x0_13 x0_14 (0 : Int32) x1_2 x1_3 x1_4 x1_5 x1_6 x1_7 x1_8 y2 x3_5 x3_6 y4 y5 y6 y7 y8 x9_6 y10 y11z13 y12 y13 y14 y15) := hD
              obtain ⟨v14, hv14⟩ : ∃ y : Int32, y = (l1 + (1 : Int32)) := ⟨_, rfl⟩
              refine lv_iinc (v := v14) (lv' := [(1, .int v14), (0, .ref p0)]) hx hb d_A_finish_54 hl (k := 0) rfl (by rw [hv14]; rfl) (by decide) rfl (fun ls hl => ?_)
              refine lv_goto (tgt := 31) hx hb d_A_finish_57 (by decide) ?_
              exact ih v14 x0_3z13 x0_4z13 x0_5 y11z13 H _ ls (lpu c9 hv14 hn31_52) (lpn hc31_52 c9 hv14) hP hD hS (lv_sub hl [0, 1] rfl)
      exact LP31_52 _ (0 : Int32) x0_3 x0_4 x0_5 y11 H _ ls (Nat.lt_succ_self _) (by decide) hP hD hS hl
    · refine lv_aload_n hx hb d_A_finish_22 rfl (lv_at hl 0 rfl) ?_
      refine lv_bipush (v := 6) hx hb d_A_finish_23 (by decide) ?_
      refine sn_i (va_runV (C := "SignMachine$Assembler") (As := [.int (6 : Int32)]) (rest := []) ⟨hx, hb, hml, hown, hk⟩ (c_A_fail_s1 l K D cI cJ cZ cB p0 p1 p2 p3 p4 p5 p6 p7 p8 p9 p10 p11 p12 p13 p14 p15 H.size x0_3 x0_4 x0_5 x0_6 x0_7 x0_8 x0_9 x0_10 x0_11 x0_12 x0_13 x0_14 (0 : Int32) x1_2 x1_3 x1_4 x1_5 x1_6 x1_7 x1_8 y2 x3_5 x3_6 y4 y5 y6 y7 y8 x9_6 y10 y11 y12 y13 y14 y15  (6 : Int32) ) (v_A_fail_s1 hk k_767 ⟨Nat.le_of_ble_eq_true rfl, Nat.le_of_ble_eq_true rfl⟩) (pMC_v hK hP hD hC hS hA (ci := 3) (q0 := 0) rfl rfl rfl) rfl rfl hl.1 rfl (lv_room (Nat.le_of_ble_eq_true rfl)) d_A_finish_25 ⟨by decide, by decide⟩) hS hA hD (fun rz15 u t H locs hr0 ht hB hFr hS => ?_)
      obtain ⟨x0_3z15, x0_4z15, hP, hD⟩ := hB
      rw [ht] at hP
      have hD := dwk hD hFr
      clear ht hFr
      have hP : va_P D classes (wS52 K cI cJ cZ cB p0 p1 p2 p3 p4 p5 p6 p7 p8 p9 p10 p11 p12 p13 p14 p15 x0_3z15 x0_4z15 x0_5 x0_6 x0_7 x0_8 x0_9 x0_10 x0_11 x0_12 x0_13 x0_14 (0 : Int32) x1_2 x1_3 x1_4 x1_5 x1_6 x1_7 x1_8 y2 x3_5 x3_6 y4 y5 y6 y7 y8 x9_6 y10 y11 y12 y13 y14 y15) H := hP
      have hD : va_D A (wS52 K cI cJ cZ cB p0 p1 p2 p3 p4 p5 p6 p7 p8 p9 p10 p11 p12 p13 p14 p15 x0_3z15 x0_4z15 x0_5 x0_6 x0_7 x0_8 x0_9 x0_10 x0_11 x0_12 x0_13 x0_14 (0 : Int32) x1_2 x1_3 x1_4 x1_5 x1_6 x1_7 x1_8 y2 x3_5 x3_6 y4 y5 y6 y7 y8 x9_6 y10 y11 y12 y13 y14 y15) := hD
      refine lv_pop hx hb d_A_finish_28 rfl ?_
      refine lv_iconst (v := 0) hx hb d_A_finish_29 (by decide) ?_
      refine lv_istore_n (lv' := [(1, .int (0 : Int32)), (0, .ref p0)]) hx hb d_A_finish_30 rfl hl (by decide) rfl (fun ls hl => ?_)
      have LP31_52 : ∀ (n : Nat) (l1 : Int32) (x0_3 : Int32) (x0_4 : Int32) (x0_5 : Int32) (y11 : Nat → Int32) (H : Heap) (locs : List Loc) (ls : Array Slot), ((x9_6).toInt - (l1).toInt).toNat < n → ¬ l1 < (0 : Int32) → va_P D classes (wS52 K cI cJ cZ cB p0 p1 p2 p3 p4 p5 p6 p7 p8 p9 p10 p11 p12 p13 p14 p15 x0_3 x0_4 x0_5 x0_6 x0_7 x0_8 x0_9 x0_10 x0_11 x0_12 x0_13 x0_14 (0 : Int32) x1_2 x1_3 x1_4 x1_5 x1_6 x1_7 x1_8 y2 x3_5 x3_6 y4 y5 y6 y7 y8 x9_6 y10 y11 y12 y13 y14 y15) H → va_D A (wS52 K cI cJ cZ cB p0 p1 p2 p3 p4 p5 p6 p7 p8 p9 p10 p11 p12 p13 p14 p15 x0_3 x0_4 x0_5 x0_6 x0_7 x0_8 x0_9 x0_10 x0_11 x0_12 x0_13 x0_14 (0 : Int32) x1_2 x1_3 x1_4 x1_5 x1_6 x1_7 x1_8 y2 x3_5 x3_6 y4 y5 y6 y7 y8 x9_6 y10 y11 y12 y13 y14 y15) → va_S A s.heap H locs → lv_has ls 2 [(1, .int l1), (0, .ref p0)] → W p l e ({ frames := 4, cells := 0, slots := 0, locals := 86 }) s m [.ref p0].toArray below meth c H locs 0 0 (MQ below (va_Qv (fun (_ : Unit) => True) (fun _ t => (∃ u_x0_3 : Int32, ∃ u_x0_4 : Int32, ∃ u_x0_5 : Int32, ∃ u_x1_1 : Int32, ∃ u_y11 : Nat → Int32, (u_x1_1 = (0 : Int32)) ∧ va_P D classes (wS52 K cI cJ cZ cB p0 p1 p2 p3 p4 p5 p6 p7 p8 p9 p10 p11 p12 p13 p14 p15 u_x0_3 u_x0_4 u_x0_5 x0_6 x0_7 x0_8 x0_9 x0_10 x0_11 x0_12 x0_13 x0_14 u_x1_1 x1_2 x1_3 x1_4 x1_5 x1_6 x1_7 x1_8 y2 x3_5 x3_6 y4 y5 y6 y7 y8 x9_6 y10 u_y11 y12 y13 y14 y15) t.heap ∧ va_D A (wS52 K cI cJ cZ cB p0 p1 p2 p3 p4 p5 p6 p7 p8 p9 p10 p11 p12 p13 p14 p15 u_x0_3 u_x0_4 u_x0_5 x0_6 x0_7 x0_8 x0_9 x0_10 x0_11 x0_12 x0_13 x0_14 u_x1_1 x1_2 x1_3 x1_4 x1_5 x1_6 x1_7 x1_8 y2 x3_5 x3_6 y4 y5 y6 y7 y8 x9_6 y10 u_y11 y12 y13 y14 y15))) A) [.ref p0].toArray s 0 0 A) (F0 m 31 ls []) := by
        intro n
        induction n with
        | zero => intro l1 x0_3 x0_4 x0_5 y11 H locs ls hn; exact absurd hn (Nat.not_lt_zero _)
        | succ n ih =>
          intro l1 x0_3 x0_4 x0_5 y11 H locs ls hn31_52 hc31_52 hP hD hS hl
          refine lv_iload_n hx hb d_A_finish_31 rfl (lv_at hl 0 rfl) ?_
          refine lv_aload_n hx hb d_A_finish_32 rfl (lv_at hl 1 rfl) ?_
          refine va_get (D := D) (ci := 3) (v := .ref p9) (C := "SignMachine$Assembler") (T := F_A) (N := 15) hx hb hk fi_A hown hK.1 hP 0 rfl rfl 2 (by decide) (hk _ k_634) (fun _ h9 => h9) rfl d_A_finish_33 ?_
          refine va_getN (D := D) (ci := 6) (v := .int x9_6) (C := "SignMachine$Output") (T := F_O) (N := 7) hx hb hk fi_O hown hK.1 hP 9 rfl rfl 6 (by decide) (va_Nw.use rfl (hK.2 _ n_614)) (fun _ h9 => h9) rfl d_A_finish_36 ?_
          refine lv_icmp_ge (tgt := 60) hx hb d_A_finish_39 (by decide) (fun c16 => ?_) (fun c16 => ?_)
          · refine lv_aload_n hx hb d_A_finish_60 rfl (lv_at hl 1 rfl) ?_
            refine va_get (D := D) (ci := 3) (v := .int x0_3) (C := "SignMachine$Assembler") (T := F_A) (N := 15) hx hb hk fi_A hown hK.1 hP 0 rfl rfl 3 (by decide) (hk _ k_636) (fun _ h9 => h9) rfl d_A_finish_61 ?_
            refine lv_if_eq (tgt := 72) hx hb d_A_finish_64 (by decide) (fun c17 => ?_) (fun c17 => ?_)
            · exact W.vret hx hb hr (fun t ht hW => ⟨⟨(), rfl, trivial, ⟨x0_3, x0_4, x0_5, (0 : Int32), y11, rfl, by show va_P D classes _ t.heap; rw [ht]; exact hP, hD⟩⟩, hS.F ht⟩) hS.2.2 d_A_finish_72
            · refine lv_aload_n hx hb d_A_finish_67 rfl (lv_at hl 1 rfl) ?_
              refine lv_iconst (v := (-1)) hx hb d_A_finish_68 (by decide) ?_
              refine va_put (D := D) (ci := 3) (v := .int (-1 : Int32)) (ty := .int) (C := "SignMachine$Assembler") (T := F_A) (N := 15) hx hb hk fi_A ft_A ft_A_ok fn_A hown hK.1 hP hD hS 0 rfl rfl 5 (by decide) (hk _ k_640) (fun _ h9 => h9) rfl (by decide +kernel) rfl rfl (Nat.le_of_ble_eq_true rfl) d_A_finish_69 (fun H locs hP hD hS => ?_)
              have hP : va_P D classes (wS52 K cI cJ cZ cB p0 p1 p2 p3 p4 p5 p6 p7 p8 p9 p10 p11 p12 p13 p14 p15 x0_3 x0_4 (-1 : Int32) x0_6 x0_7 x0_8 x0_9 x0_10 x0_11 x0_12 x0_13 x0_14 (0 : Int32) x1_2 x1_3 x1_4 x1_5 x1_6 x1_7 x1_8 y2 x3_5 x3_6 y4 y5 y6 y7 y8 x9_6 y10 y11 y12 y13 y14 y15) H := hP
              have hD : va_D A (wS52 K cI cJ cZ cB p0 p1 p2 p3 p4 p5 p6 p7 p8 p9 p10 p11 p12 p13 p14 p15 x0_3 x0_4 (-1 : Int32) x0_6 x0_7 x0_8 x0_9 x0_10 x0_11 x0_12 x0_13 x0_14 (0 : Int32) x1_2 x1_3 x1_4 x1_5 x1_6 x1_7 x1_8 y2 x3_5 x3_6 y4 y5 y6 y7 y8 x9_6 y10 y11 y12 y13 y14 y15) := hD
              exact W.vret hx hb hr (fun t ht hW => ⟨⟨(), rfl, trivial, ⟨x0_3, x0_4, (-1 : Int32), (0 : Int32), y11, rfl, by show va_P D classes _ t.heap; rw [ht]; exact hP, hD⟩⟩, hS.F ht⟩) hS.2.2 d_A_finish_72
          · refine lv_aload_n hx hb d_A_finish_42 rfl (lv_at hl 1 rfl) ?_
            refine va_get (D := D) (ci := 3) (v := .int x0_3) (C := "SignMachine$Assembler") (T := F_A) (N := 15) hx hb hk fi_A hown hK.1 hP 0 rfl rfl 3 (by decide) (hk _ k_636) (fun _ h9 => h9) rfl d_A_finish_43 ?_
            refine lv_if_ne (tgt := 60) hx hb d_A_finish_46 (by decide) (fun c18 => ?_) (fun c18 => ?_)
            · refine lv_aload_n hx hb d_A_finish_60 rfl (lv_at hl 1 rfl) ?_
              refine va_get (D := D) (ci := 3) (v := .int x0_3) (C := "SignMachine$Assembler") (T := F_A) (N := 15) hx hb hk fi_A hown hK.1 hP 0 rfl rfl 3 (by decide) (hk _ k_636) (fun _ h9 => h9) rfl d_A_finish_61 ?_
              refine lv_if_eq (tgt := 72) hx hb d_A_finish_64 (by decide) (fun c19 => absurd c19 (show ¬ x0_3 = (0 : Int32) from c18)) (fun c19 => ?_)
              refine lv_aload_n hx hb d_A_finish_67 rfl (lv_at hl 1 rfl) ?_
              refine lv_iconst (v := (-1)) hx hb d_A_finish_68 (by decide) ?_
              refine va_put (D := D) (ci := 3) (v := .int (-1 : Int32)) (ty := .int) (C := "SignMachine$Assembler") (T := F_A) (N := 15) hx hb hk fi_A ft_A ft_A_ok fn_A hown hK.1 hP hD hS 0 rfl rfl 5 (by decide) (hk _ k_640) (fun _ h9 => h9) rfl (by decide +kernel) rfl rfl (Nat.le_of_ble_eq_true rfl) d_A_finish_69 (fun H locs hP hD hS => ?_)
              have hP : va_P D classes (wS52 K cI cJ cZ cB p0 p1 p2 p3 p4 p5 p6 p7 p8 p9 p10 p11 p12 p13 p14 p15 x0_3 x0_4 (-1 : Int32) x0_6 x0_7 x0_8 x0_9 x0_10 x0_11 x0_12 x0_13 x0_14 (0 : Int32) x1_2 x1_3 x1_4 x1_5 x1_6 x1_7 x1_8 y2 x3_5 x3_6 y4 y5 y6 y7 y8 x9_6 y10 y11 y12 y13 y14 y15) H := hP
              have hD : va_D A (wS52 K cI cJ cZ cB p0 p1 p2 p3 p4 p5 p6 p7 p8 p9 p10 p11 p12 p13 p14 p15 x0_3 x0_4 (-1 : Int32) x0_6 x0_7 x0_8 x0_9 x0_10 x0_11 x0_12 x0_13 x0_14 (0 : Int32) x1_2 x1_3 x1_4 x1_5 x1_6 x1_7 x1_8 y2 x3_5 x3_6 y4 y5 y6 y7 y8 x9_6 y10 y11 y12 y13 y14 y15) := hD
              exact W.vret hx hb hr (fun t ht hW => ⟨⟨(), rfl, trivial, ⟨x0_3, x0_4, (-1 : Int32), (0 : Int32), y11, rfl, by show va_P D classes _ t.heap; rw [ht]; exact hP, hD⟩⟩, hS.F ht⟩) hS.2.2 d_A_finish_72
            · refine lv_aload_n hx hb d_A_finish_49 rfl (lv_at hl 1 rfl) ?_
              refine lv_iload_n hx hb d_A_finish_50 rfl (lv_at hl 0 rfl) ?_
              refine kn_v (va_runV (C := "SignMachine$Assembler") (As := [.int l1]) (rest := []) ⟨hx, hb, hml, hown, hk⟩ (c_A_close_s1 l K D cI cJ cZ cB p0 p1 p2 p3 p4 p5 p6 p7 p8 p9 p10 p11 p12 p13 p14 p15 H.size x0_3 x0_4 x0_5 x0_6 x0_7 x0_8 x0_9 x0_10 x0_11 x0_12 x0_13 x0_14 (0 : Int32) x1_2 x1_3 x1_4 x1_5 x1_6 x1_7 x1_8 y2 x3_5 x3_6 y4 y5 y6 y7 y8 x9_6 y10 y11 y12 y13 y14 y15  l1 ) (v_A_close_s1 hk k_1078 ⟨Nat.le_of_ble_eq_true rfl, Nat.le_of_ble_eq_true rfl⟩) (pMC_v hK hP hD hC hS hA (ci := 3) (q0 := 0) rfl rfl rfl) rfl rfl hl.1 rfl (lv_room (Nat.le_of_ble_eq_true rfl)) d_A_finish_51 ⟨by decide, by decide⟩) hS hA hD (fun u t H locs ht hB hFr hS => ?_)
              obtain ⟨x0_3z20, x0_4z20, y11z20, hP, hD⟩ := hB
              rw [ht] at hP
              have hD := dwk hD hFr
              clear ht hFr
              have hP : va_P D classes (wS52 K cI cJ cZ cB p0 p1 p2 p3 p4 p5 p6 p7 p8 p9 p10 p11 p12 p13 p14 p15 x0_3z20 x0_4z20 x0_5 x0_6 x0_7 x0_8 x0_9 x0_10 x0_11 x0_12 x0_13 x0_14 (0 : Int32) x1_2 x1_3 x1_4 x1_5 x1_6 x1_7 x1_8 y2 x3_5 x3_6 y4 y5 y6 y7 y8 x9_6 y10 y11z20 y12 y13 y14 y15) H := hP
              have hD : va_D A (wS52 K cI cJ cZ cB p0 p1 p2 p3 p4 p5 p6 p7 p8 p9 p10 p11 p12 p13 p14 p15 x0_3z20 x0_4z20 x0_5 x0_6 x0_7 x0_8 x0_9 x0_10 x0_11 x0_12 x0_13 x0_14 (0 : Int32) x1_2 x1_3 x1_4 x1_5 x1_6 x1_7 x1_8 y2 x3_5 x3_6 y4 y5 y6 y7 y8 x9_6 y10 y11z20 y12 y13 y14 y15) := hD
              obtain ⟨v21, hv21⟩ : ∃ y : Int32, y = (l1 + (1 : Int32)) := ⟨_, rfl⟩
              refine lv_iinc (v := v21) (lv' := [(1, .int v21), (0, .ref p0)]) hx hb d_A_finish_54 hl (k := 0) rfl (by rw [hv21]; rfl) (by decide) rfl (fun ls hl => ?_)
              refine lv_goto (tgt := 31) hx hb d_A_finish_57 (by decide) ?_
              exact ih v21 x0_3z20 x0_4z20 x0_5 y11z20 H _ ls (lpu c16 hv21 hn31_52) (lpn hc31_52 c16 hv21) hP hD hS (lv_sub hl [0, 1] rfl)
      exact LP31_52 _ (0 : Int32) x0_3z15 x0_4z15 x0_5 y11 H _ ls (Nat.lt_succ_self _) (by decide) hP hD hS hl
theorem v_A_finish_s1 {R : Room} {s : State} {args : Array Value} {own : String} {index : Nat} (hk : ∀ w ∈ tb, w.before args s = true) (hl : Cond.methodLink own index y_A_finish ∈ tb) (hR : 4 + 1 ≤ R.frames ∧ 8 + (2 + 11) + 86 ≤ R.locals) : CallW R s args own "SignMachine$Assembler" index y_A_finish b_A_finish 2 none (.code y_A_finish b_A_finish 2 none :: tb) ({ frames := 4, cells := 0, slots := 0, locals := 86 }) 0 0 0 := mk_v 0 hk k_1077 hl k_1075 k_1076 k_123 rfl rfl h_A_finish hR
set_option maxHeartbeats 4000000 in
set_option maxRecDepth 100000 in
theorem c_O_placeOf_s1 (l : Launch) (K : CK) (D : va_G) (cI cJ cZ cB : ClassId) (p0 p1 p2 p3 p4 p5 p6 p7 p8 p9 p10 p11 p12 p13 p14 p15 : Nat) (sz : Nat) (x0_3 : Int32) (x0_4 : Int32) (x0_5 : Int32) (x0_6 : Int32) (x0_7 : Int32) (x0_8 : Bool) (x0_9 : Int64) (x0_10 : Int32) (x0_11 : Option (Fin 51)) (x0_12 : Int32) (x0_13 : Int32) (x0_14 : Int32) (x1_1 : Int32) (x1_2 : Int32) (x1_3 : Int32) (x1_4 : Int32) (x1_5 : Int32) (x1_6 : Int32) (x1_7 : Int64) (x1_8 : Int32) (y2 : Nat → Int32) (x3_5 : Int32) (x3_6 : Int32) (y4 : Nat → Int64) (y5 : Nat → Int32) (y6 : Nat → Int32) (y7 : Nat → Int32) (y8 : Nat → Int32) (x9_6 : Int32) (y10 : Nat → Int32) (y11 : Nat → Int32) (y12 : Nat → Int32) (y13 : Nat → Int32) (y14 : Nat → Int32) (y15 : Nat → Int32)  (a1 : Int32) : Met l y_O_placeOf (.code y_O_placeOf b_O_placeOf 2 (some .int) :: tb) ({ frames := 1, cells := 0, slots := 0, locals := 20 }) (pMC K D cI cJ cZ cB (wS52 K cI cJ cZ cB p0 p1 p2 p3 p4 p5 p6 p7 p8 p9 p10 p11 p12 p13 p14 p15 x0_3 x0_4 x0_5 x0_6 x0_7 x0_8 x0_9 x0_10 x0_11 x0_12 x0_13 x0_14 x1_1 x1_2 x1_3 x1_4 x1_5 x1_6 x1_7 x1_8 y2 x3_5 x3_6 y4 y5 y6 y7 y8 x9_6 y10 y11 y12 y13 y14 y15) sz [.ref p9, .int a1]) (va_Qi (fun r (_ : Unit) => True) (fun _ t => (va_P D classes (wS52 K cI cJ cZ cB p0 p1 p2 p3 p4 p5 p6 p7 p8 p9 p10 p11 p12 p13 p14 p15 x0_3 x0_4 x0_5 x0_6 x0_7 x0_8 x0_9 x0_10 x0_11 x0_12 x0_13 x0_14 x1_1 x1_2 x1_3 x1_4 x1_5 x1_6 x1_7 x1_8 y2 x3_5 x3_6 y4 y5 y6 y7 y8 x9_6 y10 y11 y12 y13 y14 y15) t.heap ∧ va_D (va_A (wS52 K cI cJ cZ cB p0 p1 p2 p3 p4 p5 p6 p7 p8 p9 p10 p11 p12 p13 p14 p15 x0_3 x0_4 x0_5 x0_6 x0_7 x0_8 x0_9 x0_10 x0_11 x0_12 x0_13 x0_14 x1_1 x1_2 x1_3 x1_4 x1_5 x1_6 x1_7 x1_8 y2 x3_5 x3_6 y4 y5 y6 y7 y8 x9_6 y10 y11 y12 y13 y14 y15) sz) (wS52 K cI cJ cZ cB p0 p1 p2 p3 p4 p5 p6 p7 p8 p9 p10 p11 p12 p13 p14 p15 x0_3 x0_4 x0_5 x0_6 x0_7 x0_8 x0_9 x0_10 x0_11 x0_12 x0_13 x0_14 x1_1 x1_2 x1_3 x1_4 x1_5 x1_6 x1_7 x1_8 y2 x3_5 x3_6 y4 y5 y6 y7 y8 x9_6 y10 y11 y12 y13 y14 y15))) (va_A (wS52 K cI cJ cZ cB p0 p1 p2 p3 p4 p5 p6 p7 p8 p9 p10 p11 p12 p13 p14 p15 x0_3 x0_4 x0_5 x0_6 x0_7 x0_8 x0_9 x0_10 x0_11 x0_12 x0_13 x0_14 x1_1 x1_2 x1_3 x1_4 x1_5 x1_6 x1_7 x1_8 y2 x3_5 x3_6 y4 y5 y6 y7 y8 x9_6 y10 y11 y12 y13 y14 y15) sz)) 0 0 (va_A (wS52 K cI cJ cZ cB p0 p1 p2 p3 p4 p5 p6 p7 p8 p9 p10 p11 p12 p13 p14 p15 x0_3 x0_4 x0_5 x0_6 x0_7 x0_8 x0_9 x0_10 x0_11 x0_12 x0_13 x0_14 x1_1 x1_2 x1_3 x1_4 x1_5 x1_6 x1_7 x1_8 y2 x3_5 x3_6 y4 y5 y6 y7 y8 x9_6 y10 y11 y12 y13 y14 y15) sz) := by
  refine Met.ofW (cc := b_O_placeOf) (maxL := 2) (ret := (some .int)) (by decide) rfl ?_
  intro p e s m args below meth c s₁ B hml hv
  obtain ⟨rfl, hsz, hK, hP, hD0, hC⟩ := hv
  subst hsz
  have hD := hD0.self (sz := s.heap.size)
  generalize hAe : va_A (wS52 K cI cJ cZ cB p0 p1 p2 p3 p4 p5 p6 p7 p8 p9 p10 p11 p12 p13 p14 p15 x0_3 x0_4 x0_5 x0_6 x0_7 x0_8 x0_9 x0_10 x0_11 x0_12 x0_13 x0_14 x1_1 x1_2 x1_3 x1_4 x1_5 x1_6 x1_7 x1_8 y2 x3_5 x3_6 y4 y5 y6 y7 y8 x9_6 y10 y11 y12 y13 y14 y15) s.heap.size = A at hD hC ⊢
  have hA : ∀ q : Nat, s.heap.size ≤ q → A q := fun q h => by rw [← hAe]; exact Or.inr h
  clear hAe hD0
  have hS : va_S A s.heap s.heap [] := va_S.rf
  have hx := B.exec
  have hb := B.bytes
  have hr := B.returns
  have hts := atoms_spec (ws := .code y_O_placeOf b_O_placeOf 2 (some .int) :: tb) B.pre
  have hk : ∀ w ∈ tb, w.before [.ref p9, .int a1].toArray s = true := fun w h => hts w (List.mem_cons_of_mem _ h)
  have hown : s.vm.findClass "SignMachine$Output" = some m.cls := findClass_of_methodNamed B.named
  have hlocks := B.notSynchronized
  have hl := lv_entry ([.ref p9, .int a1]) (n := 2) (Nat.le_of_ble_eq_true rfl)
  rw [lg_entry_eq]
  generalize (lg_sl ([.ref p9, .int a1]) ++ List.replicate (2 - (lg_sl ([.ref p9, .int a1])).length) Slot.unset).toArray = ls at hl ⊢
  have hl : lv_has ls 2 [(0, .ref p9), (1, .int a1)] := hl
  refine lv_iload_n hx hb d_O_placeOf_0 rfl (lv_at hl 1 rfl) ?_
  refine cs_i (W.runS (As := [.int a1]) (rest := []) ⟨hx, hb, hml, hown, hk⟩ (c_O_isWord l a1) (s_O_isWord hk k_917 ⟨Nat.le_of_ble_eq_true rfl, Nat.le_of_ble_eq_true rfl⟩) ⟨fun a U g mk q => q, fun U hU hW => ⟨rfl, trivial⟩⟩ rfl rfl hl.1 rfl (lv_room (Nat.le_of_ble_eq_true rfl)) d_O_placeOf_1 ⟨Nat.le_of_ble_eq_true rfl, Nat.le_of_ble_eq_true rfl⟩) ?_
  obtain ⟨z1, hz1⟩ : ∃ y : Bool, y = (f_O_isWord a1) := ⟨_, rfl⟩
  rw [← hz1]
  refine lv_if_eq (tgt := 16) hx hb d_O_placeOf_4 (by decide) (fun c2 => ?_) (fun c2 => ?_)
  · refine lv_bipush (v := (-2)) hx hb d_O_placeOf_16 (by decide) ?_
    exact W.iret (v := (-2 : Int32)) hx hb hr (fun t ht hW => ⟨⟨(-2 : Int32), (), rfl, trivial, ⟨by show va_P D classes _ t.heap; rw [ht]; exact hP, hD⟩⟩, hS.F ht⟩) hS.2.2 d_O_placeOf_18
  · refine lv_aload_n hx hb d_O_placeOf_7 rfl (lv_at hl 0 rfl) ?_
    refine va_get (D := D) (ci := 6) (v := .ref p10) (C := "SignMachine$Output") (T := F_O) (N := 7) hx hb hk fi_O hown hK.1 hP 9 rfl rfl 0 (by decide) (hk _ k_607) (fun _ h9 => h9) rfl d_O_placeOf_8 ?_
    refine lv_iload_n hx hb d_O_placeOf_11 rfl (lv_at hl 1 rfl) ?_
    refine va_iald hx hb hK.1 hP 10 0 rfl rfl (o_inz hz1 c2) d_O_placeOf_12 ?_
    refine lv_topi (fun v3 hv3 => ?_)
    refine lv_goto (tgt := 18) hx hb d_O_placeOf_13 (by decide) ?_
    exact W.iret (v := v3) hx hb hr (fun t ht hW => ⟨⟨v3, (), rfl, trivial, ⟨by show va_P D classes _ t.heap; rw [ht]; exact hP, hD⟩⟩, hS.F ht⟩) hS.2.2 d_O_placeOf_18
theorem v_O_placeOf_s1 {R : Room} {s : State} {args : Array Value} {own : String} {index : Nat} (hk : ∀ w ∈ tb, w.before args s = true) (hl : Cond.methodLink own index y_O_placeOf ∈ tb) (hR : 1 + 1 ≤ R.frames ∧ 8 + (2 + 11) + 20 ≤ R.locals) : CallW R s args own "SignMachine$Output" index y_O_placeOf b_O_placeOf 2 (some .int) (.code y_O_placeOf b_O_placeOf 2 (some .int) :: tb) ({ frames := 1, cells := 0, slots := 0, locals := 20 }) 0 0 1 := mk_v 1 hk k_1106 hl k_1104 k_1105 k_126 rfl rfl h_O_placeOf hR
set_option maxHeartbeats 4000000 in
set_option maxRecDepth 100000 in
theorem c_O_wordOf_s1 (l : Launch) (K : CK) (D : va_G) (cI cJ cZ cB : ClassId) (p0 p1 p2 p3 p4 p5 p6 p7 p8 p9 p10 p11 p12 p13 p14 p15 : Nat) (sz : Nat) (x0_3 : Int32) (x0_4 : Int32) (x0_5 : Int32) (x0_6 : Int32) (x0_7 : Int32) (x0_8 : Bool) (x0_9 : Int64) (x0_10 : Int32) (x0_11 : Option (Fin 51)) (x0_12 : Int32) (x0_13 : Int32) (x0_14 : Int32) (x1_1 : Int32) (x1_2 : Int32) (x1_3 : Int32) (x1_4 : Int32) (x1_5 : Int32) (x1_6 : Int32) (x1_7 : Int64) (x1_8 : Int32) (y2 : Nat → Int32) (x3_5 : Int32) (x3_6 : Int32) (y4 : Nat → Int64) (y5 : Nat → Int32) (y6 : Nat → Int32) (y7 : Nat → Int32) (y8 : Nat → Int32) (x9_6 : Int32) (y10 : Nat → Int32) (y11 : Nat → Int32) (y12 : Nat → Int32) (y13 : Nat → Int32) (y14 : Nat → Int32) (y15 : Nat → Int32)  (a1 : Int32) : Met l y_O_wordOf (.code y_O_wordOf b_O_wordOf 2 (some .int) :: tb) ({ frames := 1, cells := 0, slots := 0, locals := 20 }) (pMC K D cI cJ cZ cB (wS52 K cI cJ cZ cB p0 p1 p2 p3 p4 p5 p6 p7 p8 p9 p10 p11 p12 p13 p14 p15 x0_3 x0_4 x0_5 x0_6 x0_7 x0_8 x0_9 x0_10 x0_11 x0_12 x0_13 x0_14 x1_1 x1_2 x1_3 x1_4 x1_5 x1_6 x1_7 x1_8 y2 x3_5 x3_6 y4 y5 y6 y7 y8 x9_6 y10 y11 y12 y13 y14 y15) sz [.ref p9, .int a1]) (va_Qi (fun r (_ : Unit) => True) (fun _ t => (va_P D classes (wS52 K cI cJ cZ cB p0 p1 p2 p3 p4 p5 p6 p7 p8 p9 p10 p11 p12 p13 p14 p15 x0_3 x0_4 x0_5 x0_6 x0_7 x0_8 x0_9 x0_10 x0_11 x0_12 x0_13 x0_14 x1_1 x1_2 x1_3 x1_4 x1_5 x1_6 x1_7 x1_8 y2 x3_5 x3_6 y4 y5 y6 y7 y8 x9_6 y10 y11 y12 y13 y14 y15) t.heap ∧ va_D (va_A (wS52 K cI cJ cZ cB p0 p1 p2 p3 p4 p5 p6 p7 p8 p9 p10 p11 p12 p13 p14 p15 x0_3 x0_4 x0_5 x0_6 x0_7 x0_8 x0_9 x0_10 x0_11 x0_12 x0_13 x0_14 x1_1 x1_2 x1_3 x1_4 x1_5 x1_6 x1_7 x1_8 y2 x3_5 x3_6 y4 y5 y6 y7 y8 x9_6 y10 y11 y12 y13 y14 y15) sz) (wS52 K cI cJ cZ cB p0 p1 p2 p3 p4 p5 p6 p7 p8 p9 p10 p11 p12 p13 p14 p15 x0_3 x0_4 x0_5 x0_6 x0_7 x0_8 x0_9 x0_10 x0_11 x0_12 x0_13 x0_14 x1_1 x1_2 x1_3 x1_4 x1_5 x1_6 x1_7 x1_8 y2 x3_5 x3_6 y4 y5 y6 y7 y8 x9_6 y10 y11 y12 y13 y14 y15))) (va_A (wS52 K cI cJ cZ cB p0 p1 p2 p3 p4 p5 p6 p7 p8 p9 p10 p11 p12 p13 p14 p15 x0_3 x0_4 x0_5 x0_6 x0_7 x0_8 x0_9 x0_10 x0_11 x0_12 x0_13 x0_14 x1_1 x1_2 x1_3 x1_4 x1_5 x1_6 x1_7 x1_8 y2 x3_5 x3_6 y4 y5 y6 y7 y8 x9_6 y10 y11 y12 y13 y14 y15) sz)) 0 0 (va_A (wS52 K cI cJ cZ cB p0 p1 p2 p3 p4 p5 p6 p7 p8 p9 p10 p11 p12 p13 p14 p15 x0_3 x0_4 x0_5 x0_6 x0_7 x0_8 x0_9 x0_10 x0_11 x0_12 x0_13 x0_14 x1_1 x1_2 x1_3 x1_4 x1_5 x1_6 x1_7 x1_8 y2 x3_5 x3_6 y4 y5 y6 y7 y8 x9_6 y10 y11 y12 y13 y14 y15) sz) := by
  refine Met.ofW (cc := b_O_wordOf) (maxL := 2) (ret := (some .int)) (by decide) rfl ?_
  intro p e s m args below meth c s₁ B hml hv
  obtain ⟨rfl, hsz, hK, hP, hD0, hC⟩ := hv
  subst hsz
  have hD := hD0.self (sz := s.heap.size)
  generalize hAe : va_A (wS52 K cI cJ cZ cB p0 p1 p2 p3 p4 p5 p6 p7 p8 p9 p10 p11 p12 p13 p14 p15 x0_3 x0_4 x0_5 x0_6 x0_7 x0_8 x0_9 x0_10 x0_11 x0_12 x0_13 x0_14 x1_1 x1_2 x1_3 x1_4 x1_5 x1_6 x1_7 x1_8 y2 x3_5 x3_6 y4 y5 y6 y7 y8 x9_6 y10 y11 y12 y13 y14 y15) s.heap.size = A at hD hC ⊢
  have hA : ∀ q : Nat, s.heap.size ≤ q → A q := fun q h => by rw [← hAe]; exact Or.inr h
  clear hAe hD0
  have hS : va_S A s.heap s.heap [] := va_S.rf
  have hx := B.exec
  have hb := B.bytes
  have hr := B.returns
  have hts := atoms_spec (ws := .code y_O_wordOf b_O_wordOf 2 (some .int) :: tb) B.pre
  have hk : ∀ w ∈ tb, w.before [.ref p9, .int a1].toArray s = true := fun w h => hts w (List.mem_cons_of_mem _ h)
  have hown : s.vm.findClass "SignMachine$Output" = some m.cls := findClass_of_methodNamed B.named
  have hlocks := B.notSynchronized
  have hl := lv_entry ([.ref p9, .int a1]) (n := 2) (Nat.le_of_ble_eq_true rfl)
  rw [lg_entry_eq]
  generalize (lg_sl ([.ref p9, .int a1]) ++ List.replicate (2 - (lg_sl ([.ref p9, .int a1])).length) Slot.unset).toArray = ls at hl ⊢
  have hl : lv_has ls 2 [(0, .ref p9), (1, .int a1)] := hl
  refine lv_iload_n hx hb d_O_wordOf_0 rfl (lv_at hl 1 rfl) ?_
  refine cs_i (W.runS (As := [.int a1]) (rest := []) ⟨hx, hb, hml, hown, hk⟩ (c_O_isWord l a1) (s_O_isWord hk k_917 ⟨Nat.le_of_ble_eq_true rfl, Nat.le_of_ble_eq_true rfl⟩) ⟨fun a U g mk q => q, fun U hU hW => ⟨rfl, trivial⟩⟩ rfl rfl hl.1 rfl (lv_room (Nat.le_of_ble_eq_true rfl)) d_O_wordOf_1 ⟨Nat.le_of_ble_eq_true rfl, Nat.le_of_ble_eq_true rfl⟩) ?_
  obtain ⟨z1, hz1⟩ : ∃ y : Bool, y = (f_O_isWord a1) := ⟨_, rfl⟩
  rw [← hz1]
  refine lv_if_eq (tgt := 16) hx hb d_O_wordOf_4 (by decide) (fun c2 => ?_) (fun c2 => ?_)
  · refine lv_iconst (v := 0) hx hb d_O_wordOf_16 (by decide) ?_
    exact W.iret (v := (0 : Int32)) hx hb hr (fun t ht hW => ⟨⟨(0 : Int32), (), rfl, trivial, ⟨by show va_P D classes _ t.heap; rw [ht]; exact hP, hD⟩⟩, hS.F ht⟩) hS.2.2 d_O_wordOf_17
  · refine lv_aload_n hx hb d_O_wordOf_7 rfl (lv_at hl 0 rfl) ?_
    refine va_get (D := D) (ci := 6) (v := .ref p11) (C := "SignMachine$Output") (T := F_O) (N := 7) hx hb hk fi_O hown hK.1 hP 9 rfl rfl 1 (by decide) (hk _ k_608) (fun _ h9 => h9) rfl d_O_wordOf_8 ?_
    refine lv_iload_n hx hb d_O_wordOf_11 rfl (lv_at hl 1 rfl) ?_
    refine va_iald hx hb hK.1 hP 11 0 rfl rfl (o_inz hz1 c2) d_O_wordOf_12 ?_
    refine lv_topi (fun v3 hv3 => ?_)
    refine lv_goto (tgt := 17) hx hb d_O_wordOf_13 (by decide) ?_
    exact W.iret (v := v3) hx hb hr (fun t ht hW => ⟨⟨v3, (), rfl, trivial, ⟨by show va_P D classes _ t.heap; rw [ht]; exact hP, hD⟩⟩, hS.F ht⟩) hS.2.2 d_O_wordOf_17
theorem v_O_wordOf_s1 {R : Room} {s : State} {args : Array Value} {own : String} {index : Nat} (hk : ∀ w ∈ tb, w.before args s = true) (hl : Cond.methodLink own index y_O_wordOf ∈ tb) (hR : 1 + 1 ≤ R.frames ∧ 8 + (2 + 11) + 20 ≤ R.locals) : CallW R s args own "SignMachine$Output" index y_O_wordOf b_O_wordOf 2 (some .int) (.code y_O_wordOf b_O_wordOf 2 (some .int) :: tb) ({ frames := 1, cells := 0, slots := 0, locals := 20 }) 0 0 1 := mk_v 1 hk k_1110 hl k_1108 k_1109 k_126 rfl rfl h_O_wordOf hR
set_option maxHeartbeats 4000000 in
set_option maxRecDepth 100000 in
theorem c_S_load_b1 (l : Launch) (K : CK) (D : va_G) (cI cJ cZ cB : ClassId) (p0 m0 m1 m2 m3 m4 g0 g1 g2 g3 g4 g5 g6 g7 g8 g9 g10 g11 g12 g13 g14 g15 : Nat) (sz : Nat) (Mx0_4 : Bool) (Mx0_5 : Int32) (Mx0_6 : Int32) (Mx0_7 : Int32) (Mx0_8 : Int32) (Mx0_9 : Int32) (Mx0_10 : Int32) (Mx0_11 : Int32) (Mx0_12 : Int32) (Mx0_13 : Int32) (My1 : Nat → Int32) (My2 : Nat → Int32) (Mx3_0 : Int32) (Mx4_0 : Int32) (Ax0_3 : Int32) (Ax0_4 : Int32) (Ax0_5 : Int32) (Ax0_6 : Int32) (Ax0_7 : Int32) (Ax0_8 : Bool) (Ax0_9 : Int64) (Ax0_10 : Int32) (Ax0_11 : Option (Fin 51)) (Ax0_12 : Int32) (Ax0_13 : Int32) (Ax0_14 : Int32) (Ax1_1 : Int32) (Ax1_2 : Int32) (Ax1_3 : Int32) (Ax1_4 : Int32) (Ax1_5 : Int32) (Ax1_6 : Int32) (Ax1_7 : Int64) (Ax1_8 : Int32) (Ay2 : Nat → Int32) (Ax3_5 : Int32) (Ax3_6 : Int32) (Ay4 : Nat → Int64) (Ay5 : Nat → Int32) (Ay6 : Nat → Int32) (Ay7 : Nat → Int32) (Ay8 : Nat → Int32) (Ax9_6 : Int32) (Ay10 : Nat → Int32) (Ay11 : Nat → Int32) (Ay12 : Nat → Int32) (Ay13 : Nat → Int32) (Ay14 : Nat → Int32) (Ay15 : Nat → Int32)   : Met l y_S_load (.code y_S_load b_S_load 3 none :: tb) ({ frames := 2, cells := 0, slots := 0, locals := 41 }) (pMC K D cI cJ cZ cB ((wS55 cI cJ cZ cB p0 m0 g0) ++ (wS51 cI cJ cZ cB m0 m1 m2 m3 m4 Mx0_4 Mx0_5 Mx0_6 Mx0_7 Mx0_8 Mx0_9 Mx0_10 Mx0_11 Mx0_12 Mx0_13 My1 My2 Mx3_0 Mx4_0) ++ (wS52 K cI cJ cZ cB g0 g1 g2 g3 g4 g5 g6 g7 g8 g9 g10 g11 g12 g13 g14 g15 Ax0_3 Ax0_4 Ax0_5 Ax0_6 Ax0_7 Ax0_8 Ax0_9 Ax0_10 Ax0_11 Ax0_12 Ax0_13 Ax0_14 Ax1_1 Ax1_2 Ax1_3 Ax1_4 Ax1_5 Ax1_6 Ax1_7 Ax1_8 Ay2 Ax3_5 Ax3_6 Ay4 Ay5 Ay6 Ay7 Ay8 Ax9_6 Ay10 Ay11 Ay12 Ay13 Ay14 Ay15)) sz [.ref p0, .ref g9]) (va_Qv (fun (_ : Unit) => True) (fun _ t => (∃ u_My1 : Nat → Int32, va_P D classes ((wS55 cI cJ cZ cB p0 m0 g0) ++ (wS51 cI cJ cZ cB m0 m1 m2 m3 m4 Mx0_4 Mx0_5 Mx0_6 Mx0_7 Mx0_8 Mx0_9 Mx0_10 Mx0_11 Mx0_12 Mx0_13 u_My1 My2 Mx3_0 Mx4_0) ++ (wS52 K cI cJ cZ cB g0 g1 g2 g3 g4 g5 g6 g7 g8 g9 g10 g11 g12 g13 g14 g15 Ax0_3 Ax0_4 Ax0_5 Ax0_6 Ax0_7 Ax0_8 Ax0_9 Ax0_10 Ax0_11 Ax0_12 Ax0_13 Ax0_14 Ax1_1 Ax1_2 Ax1_3 Ax1_4 Ax1_5 Ax1_6 Ax1_7 Ax1_8 Ay2 Ax3_5 Ax3_6 Ay4 Ay5 Ay6 Ay7 Ay8 Ax9_6 Ay10 Ay11 Ay12 Ay13 Ay14 Ay15)) t.heap ∧ va_D (va_A ((wS55 cI cJ cZ cB p0 m0 g0) ++ (wS51 cI cJ cZ cB m0 m1 m2 m3 m4 Mx0_4 Mx0_5 Mx0_6 Mx0_7 Mx0_8 Mx0_9 Mx0_10 Mx0_11 Mx0_12 Mx0_13 My1 My2 Mx3_0 Mx4_0) ++ (wS52 K cI cJ cZ cB g0 g1 g2 g3 g4 g5 g6 g7 g8 g9 g10 g11 g12 g13 g14 g15 Ax0_3 Ax0_4 Ax0_5 Ax0_6 Ax0_7 Ax0_8 Ax0_9 Ax0_10 Ax0_11 Ax0_12 Ax0_13 Ax0_14 Ax1_1 Ax1_2 Ax1_3 Ax1_4 Ax1_5 Ax1_6 Ax1_7 Ax1_8 Ay2 Ax3_5 Ax3_6 Ay4 Ay5 Ay6 Ay7 Ay8 Ax9_6 Ay10 Ay11 Ay12 Ay13 Ay14 Ay15)) sz) ((wS55 cI cJ cZ cB p0 m0 g0) ++ (wS51 cI cJ cZ cB m0 m1 m2 m3 m4 Mx0_4 Mx0_5 Mx0_6 Mx0_7 Mx0_8 Mx0_9 Mx0_10 Mx0_11 Mx0_12 Mx0_13 u_My1 My2 Mx3_0 Mx4_0) ++ (wS52 K cI cJ cZ cB g0 g1 g2 g3 g4 g5 g6 g7 g8 g9 g10 g11 g12 g13 g14 g15 Ax0_3 Ax0_4 Ax0_5 Ax0_6 Ax0_7 Ax0_8 Ax0_9 Ax0_10 Ax0_11 Ax0_12 Ax0_13 Ax0_14 Ax1_1 Ax1_2 Ax1_3 Ax1_4 Ax1_5 Ax1_6 Ax1_7 Ax1_8 Ay2 Ax3_5 Ax3_6 Ay4 Ay5 Ay6 Ay7 Ay8 Ax9_6 Ay10 Ay11 Ay12 Ay13 Ay14 Ay15)))) (va_A ((wS55 cI cJ cZ cB p0 m0 g0) ++ (wS51 cI cJ cZ cB m0 m1 m2 m3 m4 Mx0_4 Mx0_5 Mx0_6 Mx0_7 Mx0_8 Mx0_9 Mx0_10 Mx0_11 Mx0_12 Mx0_13 My1 My2 Mx3_0 Mx4_0) ++ (wS52 K cI cJ cZ cB g0 g1 g2 g3 g4 g5 g6 g7 g8 g9 g10 g11 g12 g13 g14 g15 Ax0_3 Ax0_4 Ax0_5 Ax0_6 Ax0_7 Ax0_8 Ax0_9 Ax0_10 Ax0_11 Ax0_12 Ax0_13 Ax0_14 Ax1_1 Ax1_2 Ax1_3 Ax1_4 Ax1_5 Ax1_6 Ax1_7 Ax1_8 Ay2 Ax3_5 Ax3_6 Ay4 Ay5 Ay6 Ay7 Ay8 Ax9_6 Ay10 Ay11 Ay12 Ay13 Ay14 Ay15)) sz)) 0 0 (va_A ((wS55 cI cJ cZ cB p0 m0 g0) ++ (wS51 cI cJ cZ cB m0 m1 m2 m3 m4 Mx0_4 Mx0_5 Mx0_6 Mx0_7 Mx0_8 Mx0_9 Mx0_10 Mx0_11 Mx0_12 Mx0_13 My1 My2 Mx3_0 Mx4_0) ++ (wS52 K cI cJ cZ cB g0 g1 g2 g3 g4 g5 g6 g7 g8 g9 g10 g11 g12 g13 g14 g15 Ax0_3 Ax0_4 Ax0_5 Ax0_6 Ax0_7 Ax0_8 Ax0_9 Ax0_10 Ax0_11 Ax0_12 Ax0_13 Ax0_14 Ax1_1 Ax1_2 Ax1_3 Ax1_4 Ax1_5 Ax1_6 Ax1_7 Ax1_8 Ay2 Ax3_5 Ax3_6 Ay4 Ay5 Ay6 Ay7 Ay8 Ax9_6 Ay10 Ay11 Ay12 Ay13 Ay14 Ay15)) sz) := by
  refine Met.ofW (cc := b_S_load) (maxL := 3) (ret := none) (by decide) rfl ?_
  intro p e s m args below meth c s₁ B hml hv
  obtain ⟨rfl, hsz, hK, hP, hD0, hC⟩ := hv
  subst hsz
  have hD := hD0.self (sz := s.heap.size)
  generalize hAe : va_A ((wS55 cI cJ cZ cB p0 m0 g0) ++ (wS51 cI cJ cZ cB m0 m1 m2 m3 m4 Mx0_4 Mx0_5 Mx0_6 Mx0_7 Mx0_8 Mx0_9 Mx0_10 Mx0_11 Mx0_12 Mx0_13 My1 My2 Mx3_0 Mx4_0) ++ (wS52 K cI cJ cZ cB g0 g1 g2 g3 g4 g5 g6 g7 g8 g9 g10 g11 g12 g13 g14 g15 Ax0_3 Ax0_4 Ax0_5 Ax0_6 Ax0_7 Ax0_8 Ax0_9 Ax0_10 Ax0_11 Ax0_12 Ax0_13 Ax0_14 Ax1_1 Ax1_2 Ax1_3 Ax1_4 Ax1_5 Ax1_6 Ax1_7 Ax1_8 Ay2 Ax3_5 Ax3_6 Ay4 Ay5 Ay6 Ay7 Ay8 Ax9_6 Ay10 Ay11 Ay12 Ay13 Ay14 Ay15)) s.heap.size = A at hD hC ⊢
  have hA : ∀ q : Nat, s.heap.size ≤ q → A q := fun q h => by rw [← hAe]; exact Or.inr h
  clear hAe hD0
  have hS : va_S A s.heap s.heap [] := va_S.rf
  have hx := B.exec
  have hb := B.bytes
  have hr := B.returns
  have hts := atoms_spec (ws := .code y_S_load b_S_load 3 none :: tb) B.pre
  have hk : ∀ w ∈ tb, w.before [.ref p0, .ref g9].toArray s = true := fun w h => hts w (List.mem_cons_of_mem _ h)
  have hown : s.vm.findClass "SignMachine" = some m.cls := findClass_of_methodNamed B.named
  have hlocks := B.notSynchronized
  have hl := lv_entry ([.ref p0, .ref g9]) (n := 3) (Nat.le_of_ble_eq_true rfl)
  rw [lg_entry_eq]
  generalize (lg_sl ([.ref p0, .ref g9]) ++ List.replicate (3 - (lg_sl ([.ref p0, .ref g9])).length) Slot.unset).toArray = ls at hl ⊢
  have hl : lv_has ls 3 [(0, .ref p0), (1, .ref g9)] := hl
  refine lv_iconst (v := 0) hx hb d_S_load_0 (by decide) ?_
  refine lv_istore_n (lv' := [(2, .int (0 : Int32)), (0, .ref p0), (1, .ref g9)]) hx hb d_S_load_1 rfl hl (by decide) rfl (fun ls hl => ?_)
  have LP2_x7 : ∀ (n : Nat) (l2 : Int32) (My1 : Nat → Int32) (H : Heap) (locs : List Loc) (ls : Array Slot), ((Ax9_6).toInt - (l2).toInt).toNat < n → ¬ l2 < (0 : Int32) → va_P D classes ((wS55 cI cJ cZ cB p0 m0 g0) ++ (wS51 cI cJ cZ cB m0 m1 m2 m3 m4 Mx0_4 Mx0_5 Mx0_6 Mx0_7 Mx0_8 Mx0_9 Mx0_10 Mx0_11 Mx0_12 Mx0_13 My1 My2 Mx3_0 Mx4_0) ++ (wS52 K cI cJ cZ cB g0 g1 g2 g3 g4 g5 g6 g7 g8 g9 g10 g11 g12 g13 g14 g15 Ax0_3 Ax0_4 Ax0_5 Ax0_6 Ax0_7 Ax0_8 Ax0_9 Ax0_10 Ax0_11 Ax0_12 Ax0_13 Ax0_14 Ax1_1 Ax1_2 Ax1_3 Ax1_4 Ax1_5 Ax1_6 Ax1_7 Ax1_8 Ay2 Ax3_5 Ax3_6 Ay4 Ay5 Ay6 Ay7 Ay8 Ax9_6 Ay10 Ay11 Ay12 Ay13 Ay14 Ay15)) H → va_D A ((wS55 cI cJ cZ cB p0 m0 g0) ++ (wS51 cI cJ cZ cB m0 m1 m2 m3 m4 Mx0_4 Mx0_5 Mx0_6 Mx0_7 Mx0_8 Mx0_9 Mx0_10 Mx0_11 Mx0_12 Mx0_13 My1 My2 Mx3_0 Mx4_0) ++ (wS52 K cI cJ cZ cB g0 g1 g2 g3 g4 g5 g6 g7 g8 g9 g10 g11 g12 g13 g14 g15 Ax0_3 Ax0_4 Ax0_5 Ax0_6 Ax0_7 Ax0_8 Ax0_9 Ax0_10 Ax0_11 Ax0_12 Ax0_13 Ax0_14 Ax1_1 Ax1_2 Ax1_3 Ax1_4 Ax1_5 Ax1_6 Ax1_7 Ax1_8 Ay2 Ax3_5 Ax3_6 Ay4 Ay5 Ay6 Ay7 Ay8 Ax9_6 Ay10 Ay11 Ay12 Ay13 Ay14 Ay15)) → va_S A s.heap H locs → lv_has ls 3 [(2, .int l2), (0, .ref p0), (1, .ref g9)] → W p l e ({ frames := 2, cells := 0, slots := 0, locals := 41 }) s m [.ref p0, .ref g9].toArray below meth c H locs 0 0 (MQ below (va_Qv (fun (_ : Unit) => True) (fun _ t => (∃ u_My1 : Nat → Int32, va_P D classes ((wS55 cI cJ cZ cB p0 m0 g0) ++ (wS51 cI cJ cZ cB m0 m1 m2 m3 m4 Mx0_4 Mx0_5 Mx0_6 Mx0_7 Mx0_8 Mx0_9 Mx0_10 Mx0_11 Mx0_12 Mx0_13 u_My1 My2 Mx3_0 Mx4_0) ++ (wS52 K cI cJ cZ cB g0 g1 g2 g3 g4 g5 g6 g7 g8 g9 g10 g11 g12 g13 g14 g15 Ax0_3 Ax0_4 Ax0_5 Ax0_6 Ax0_7 Ax0_8 Ax0_9 Ax0_10 Ax0_11 Ax0_12 Ax0_13 Ax0_14 Ax1_1 Ax1_2 Ax1_3 Ax1_4 Ax1_5 Ax1_6 Ax1_7 Ax1_8 Ay2 Ax3_5 Ax3_6 Ay4 Ay5 Ay6 Ay7 Ay8 Ax9_6 Ay10 Ay11 Ay12 Ay13 Ay14 Ay15)) t.heap ∧ va_D A ((wS55 cI cJ cZ cB p0 m0 g0) ++ (wS51 cI cJ cZ cB m0 m1 m2 m3 m4 Mx0_4 Mx0_5 Mx0_6 Mx0_7 Mx0_8 Mx0_9 Mx0_10 Mx0_11 Mx0_12 Mx0_13 u_My1 My2 Mx3_0 Mx4_0) ++ (wS52 K cI cJ cZ cB g0 g1 g2 g3 g4 g5 g6 g7 g8 g9 g10 g11 g12 g13 g14 g15 Ax0_3 Ax0_4 Ax0_5 Ax0_6 Ax0_7 Ax0_8 Ax0_9 Ax0_10 Ax0_11 Ax0_12 Ax0_13 Ax0_14 Ax1_1 Ax1_2 Ax1_3 Ax1_4 Ax1_5 Ax1_6 Ax1_7 Ax1_8 Ay2 Ax3_5 Ax3_6 Ay4 Ay5 Ay6 Ay7 Ay8 Ax9_6 Ay10 Ay11 Ay12 Ay13 Ay14 Ay15)))) A) [.ref p0, .ref g9].toArray s 0 0 A) (F0 m 2 ls []) := by
    intro n
    induction n with
    | zero => intro l2 My1 H locs ls hn; exact absurd hn (Nat.not_lt_zero _)
    | succ n ih =>
      intro l2 My1 H locs ls hn2_x7 hc2_x7 hP hD hS hl
      refine lv_iload_n hx hb d_S_load_2 rfl (lv_at hl 0 rfl) ?_
      refine lv_aload_n hx hb d_S_load_3 rfl (lv_at hl 2 rfl) ?_
      refine va_getN (D := D) (ci := 6) (v := .int Ax9_6) (C := "SignMachine$Output") (T := F_O) (N := 7) hx hb hk fi_O hown hK.1 hP 15 rfl rfl 6 (by decide) (va_Nw.use rfl (hK.2 _ n_615)) (fun _ h9 => h9) rfl d_S_load_4 ?_
      refine lv_icmp_ge (tgt := 33) hx hb d_S_load_7 (by decide) (fun c1 => ?_) (fun c1 => ?_)
      · exact W.vret hx hb hr (fun t ht hW => ⟨⟨(), rfl, trivial, ⟨My1, by show va_P D classes _ t.heap; rw [ht]; exact hP, hD⟩⟩, hS.F ht⟩) hS.2.2 d_S_load_33
      · refine lv_aload_n hx hb d_S_load_10 rfl (lv_at hl 1 rfl) ?_
        refine va_get (D := D) (ci := 0) (v := .ref m0) (C := "SignMachine") (T := F_S) (N := 2) hx hb hk fi_S hown hK.1 hP 0 rfl rfl 0 (by decide) (hk _ k_210) (fun _ h9 => h9) rfl d_S_load_11 ?_
        refine lv_aload_n hx hb d_S_load_14 rfl (lv_at hl 2 rfl) ?_
        refine lv_iload_n hx hb d_S_load_15 rfl (lv_at hl 0 rfl) ?_
        have hPc := hP.sub (ws' := (wS52 K cI cJ cZ cB g0 g1 g2 g3 g4 g5 g6 g7 g8 g9 g10 g11 g12 g13 g14 g15 Ax0_3 Ax0_4 Ax0_5 Ax0_6 Ax0_7 Ax0_8 Ax0_9 Ax0_10 Ax0_11 Ax0_12 Ax0_13 Ax0_14 Ax1_1 Ax1_2 Ax1_3 Ax1_4 Ax1_5 Ax1_6 Ax1_7 Ax1_8 Ay2 Ax3_5 Ax3_6 Ay4 Ay5 Ay6 Ay7 Ay8 Ax9_6 Ay10 Ay11 Ay12 Ay13 Ay14 Ay15)) [6, 7, 8, 9, 10, 11, 12, 13, 14, 15, 16, 17, 18, 19, 20, 21] rfl
        have hDc := hD.sub (ws' := (wS52 K cI cJ cZ cB g0 g1 g2 g3 g4 g5 g6 g7 g8 g9 g10 g11 g12 g13 g14 g15 Ax0_3 Ax0_4 Ax0_5 Ax0_6 Ax0_7 Ax0_8 Ax0_9 Ax0_10 Ax0_11 Ax0_12 Ax0_13 Ax0_14 Ax1_1 Ax1_2 Ax1_3 Ax1_4 Ax1_5 Ax1_6 Ax1_7 Ax1_8 Ay2 Ax3_5 Ax3_6 Ay4 Ay5 Ay6 Ay7 Ay8 Ax9_6 Ay10 Ay11 Ay12 Ay13 Ay14 Ay15)) [6, 7, 8, 9, 10, 11, 12, 13, 14, 15, 16, 17, 18, 19, 20, 21] (by decide) rfl
        have hFc := va_free (wc := (wS52 K cI cJ cZ cB g0 g1 g2 g3 g4 g5 g6 g7 g8 g9 g10 g11 g12 g13 g14 g15 Ax0_3 Ax0_4 Ax0_5 Ax0_6 Ax0_7 Ax0_8 Ax0_9 Ax0_10 Ax0_11 Ax0_12 Ax0_13 Ax0_14 Ax1_1 Ax1_2 Ax1_3 Ax1_4 Ax1_5 Ax1_6 Ax1_7 Ax1_8 Ay2 Ax3_5 Ax3_6 Ay4 Ay5 Ay6 Ay7 Ay8 Ax9_6 Ay10 Ay11 Ay12 Ay13 Ay14 Ay15)) hD hS hA [6, 7, 8, 9, 10, 11, 12, 13, 14, 15, 16, 17, 18, 19, 20, 21] rfl
        refine va_calli (va_runV (C := "SignMachine$Output") (As := [.int l2]) (rest := [.ref m0]) ⟨hx, hb, hml, hown, hk⟩ (c_O_placeOf_s1 l K D cI cJ cZ cB g0 g1 g2 g3 g4 g5 g6 g7 g8 g9 g10 g11 g12 g13 g14 g15 H.size Ax0_3 Ax0_4 Ax0_5 Ax0_6 Ax0_7 Ax0_8 Ax0_9 Ax0_10 Ax0_11 Ax0_12 Ax0_13 Ax0_14 Ax1_1 Ax1_2 Ax1_3 Ax1_4 Ax1_5 Ax1_6 Ax1_7 Ax1_8 Ay2 Ax3_5 Ax3_6 Ay4 Ay5 Ay6 Ay7 Ay8 Ax9_6 Ay10 Ay11 Ay12 Ay13 Ay14 Ay15 l2 ) (v_O_placeOf_s1 hk k_1103 ⟨Nat.le_of_ble_eq_true rfl, Nat.le_of_ble_eq_true rfl⟩) (pMC_v hK hPc hDc hC hS hA (ci := 6) (q0 := 9) rfl rfl rfl) rfl rfl hl.1 rfl (lv_room (Nat.le_of_ble_eq_true rfl)) d_S_load_16 ⟨by decide, by decide⟩) hS (fun q _ h => hFc q h) hFc (fun rz2 u t H locs ht hvm hr0 hB hzq hkq hS => ?_)
        obtain ⟨hP1, hD1⟩ := hB
        rw [ht] at hP1
        obtain ⟨hP, hD⟩ := va_join (wr := (wS55 cI cJ cZ cB p0 m0 g0) ++ (wS51 cI cJ cZ cB m0 m1 m2 m3 m4 Mx0_4 Mx0_5 Mx0_6 Mx0_7 Mx0_8 Mx0_9 Mx0_10 Mx0_11 Mx0_12 Mx0_13 My1 My2 Mx3_0 Mx4_0)) (w1 := (wS52 K cI cJ cZ cB g0 g1 g2 g3 g4 g5 g6 g7 g8 g9 g10 g11 g12 g13 g14 g15 Ax0_3 Ax0_4 Ax0_5 Ax0_6 Ax0_7 Ax0_8 Ax0_9 Ax0_10 Ax0_11 Ax0_12 Ax0_13 Ax0_14 Ax1_1 Ax1_2 Ax1_3 Ax1_4 Ax1_5 Ax1_6 Ax1_7 Ax1_8 Ay2 Ax3_5 Ax3_6 Ay4 Ay5 Ay6 Ay7 Ay8 Ax9_6 Ay10 Ay11 Ay12 Ay13 Ay14 Ay15)) hP hD [6, 7, 8, 9, 10, 11, 12, 13, 14, 15, 16, 17, 18, 19, 20, 21] [0, 1, 2, 3, 4, 5] rfl rfl (by decide) (by decide) hkq hFc hP1 hD1
        have hP := hP.sub (ws' := ((wS55 cI cJ cZ cB p0 m0 g0) ++ (wS51 cI cJ cZ cB m0 m1 m2 m3 m4 Mx0_4 Mx0_5 Mx0_6 Mx0_7 Mx0_8 Mx0_9 Mx0_10 Mx0_11 Mx0_12 Mx0_13 My1 My2 Mx3_0 Mx4_0) ++ (wS52 K cI cJ cZ cB g0 g1 g2 g3 g4 g5 g6 g7 g8 g9 g10 g11 g12 g13 g14 g15 Ax0_3 Ax0_4 Ax0_5 Ax0_6 Ax0_7 Ax0_8 Ax0_9 Ax0_10 Ax0_11 Ax0_12 Ax0_13 Ax0_14 Ax1_1 Ax1_2 Ax1_3 Ax1_4 Ax1_5 Ax1_6 Ax1_7 Ax1_8 Ay2 Ax3_5 Ax3_6 Ay4 Ay5 Ay6 Ay7 Ay8 Ax9_6 Ay10 Ay11 Ay12 Ay13 Ay14 Ay15))) [0, 1, 2, 3, 4, 5, 6, 7, 8, 9, 10, 11, 12, 13, 14, 15, 16, 17, 18, 19, 20, 21] rfl
        have hD := hD.sub (ws' := ((wS55 cI cJ cZ cB p0 m0 g0) ++ (wS51 cI cJ cZ cB m0 m1 m2 m3 m4 Mx0_4 Mx0_5 Mx0_6 Mx0_7 Mx0_8 Mx0_9 Mx0_10 Mx0_11 Mx0_12 Mx0_13 My1 My2 Mx3_0 Mx4_0) ++ (wS52 K cI cJ cZ cB g0 g1 g2 g3 g4 g5 g6 g7 g8 g9 g10 g11 g12 g13 g14 g15 Ax0_3 Ax0_4 Ax0_5 Ax0_6 Ax0_7 Ax0_8 Ax0_9 Ax0_10 Ax0_11 Ax0_12 Ax0_13 Ax0_14 Ax1_1 Ax1_2 Ax1_3 Ax1_4 Ax1_5 Ax1_6 Ax1_7 Ax1_8 Ay2 Ax3_5 Ax3_6 Ay4 Ay5 Ay6 Ay7 Ay8 Ax9_6 Ay10 Ay11 Ay12 Ay13 Ay14 Ay15))) [0, 1, 2, 3, 4, 5, 6, 7, 8, 9, 10, 11, 12, 13, 14, 15, 16, 17, 18, 19, 20, 21] (by decide) rfl
        have hP : va_P D classes ((wS55 cI cJ cZ cB p0 m0 g0) ++ (wS51 cI cJ cZ cB m0 m1 m2 m3 m4 Mx0_4 Mx0_5 Mx0_6 Mx0_7 Mx0_8 Mx0_9 Mx0_10 Mx0_11 Mx0_12 Mx0_13 My1 My2 Mx3_0 Mx4_0) ++ (wS52 K cI cJ cZ cB g0 g1 g2 g3 g4 g5 g6 g7 g8 g9 g10 g11 g12 g13 g14 g15 Ax0_3 Ax0_4 Ax0_5 Ax0_6 Ax0_7 Ax0_8 Ax0_9 Ax0_10 Ax0_11 Ax0_12 Ax0_13 Ax0_14 Ax1_1 Ax1_2 Ax1_3 Ax1_4 Ax1_5 Ax1_6 Ax1_7 Ax1_8 Ay2 Ax3_5 Ax3_6 Ay4 Ay5 Ay6 Ay7 Ay8 Ax9_6 Ay10 Ay11 Ay12 Ay13 Ay14 Ay15)) H := hP
        have hD : va_D A ((wS55 cI cJ cZ cB p0 m0 g0) ++ (wS51 cI cJ cZ cB m0 m1 m2 m3 m4 Mx0_4 Mx0_5 Mx0_6 Mx0_7 Mx0_8 Mx0_9 Mx0_10 Mx0_11 Mx0_12 Mx0_13 My1 My2 Mx3_0 Mx4_0) ++ (wS52 K cI cJ cZ cB g0 g1 g2 g3 g4 g5 g6 g7 g8 g9 g10 g11 g12 g13 g14 g15 Ax0_3 Ax0_4 Ax0_5 Ax0_6 Ax0_7 Ax0_8 Ax0_9 Ax0_10 Ax0_11 Ax0_12 Ax0_13 Ax0_14 Ax1_1 Ax1_2 Ax1_3 Ax1_4 Ax1_5 Ax1_6 Ax1_7 Ax1_8 Ay2 Ax3_5 Ax3_6 Ay4 Ay5 Ay6 Ay7 Ay8 Ax9_6 Ay10 Ay11 Ay12 Ay13 Ay14 Ay15)) := hD
        clear hPc hDc hFc
        refine lv_aload_n hx hb d_S_load_19 rfl (lv_at hl 2 rfl) ?_
        refine lv_iload_n hx hb d_S_load_20 rfl (lv_at hl 0 rfl) ?_
        have hPc := hP.sub (ws' := (wS52 K cI cJ cZ cB g0 g1 g2 g3 g4 g5 g6 g7 g8 g9 g10 g11 g12 g13 g14 g15 Ax0_3 Ax0_4 Ax0_5 Ax0_6 Ax0_7 Ax0_8 Ax0_9 Ax0_10 Ax0_11 Ax0_12 Ax0_13 Ax0_14 Ax1_1 Ax1_2 Ax1_3 Ax1_4 Ax1_5 Ax1_6 Ax1_7 Ax1_8 Ay2 Ax3_5 Ax3_6 Ay4 Ay5 Ay6 Ay7 Ay8 Ax9_6 Ay10 Ay11 Ay12 Ay13 Ay14 Ay15)) [6, 7, 8, 9, 10, 11, 12, 13, 14, 15, 16, 17, 18, 19, 20, 21] rfl
        have hDc := hD.sub (ws' := (wS52 K cI cJ cZ cB g0 g1 g2 g3 g4 g5 g6 g7 g8 g9 g10 g11 g12 g13 g14 g15 Ax0_3 Ax0_4 Ax0_5 Ax0_6 Ax0_7 Ax0_8 Ax0_9 Ax0_10 Ax0_11 Ax0_12 Ax0_13 Ax0_14 Ax1_1 Ax1_2 Ax1_3 Ax1_4 Ax1_5 Ax1_6 Ax1_7 Ax1_8 Ay2 Ax3_5 Ax3_6 Ay4 Ay5 Ay6 Ay7 Ay8 Ax9_6 Ay10 Ay11 Ay12 Ay13 Ay14 Ay15)) [6, 7, 8, 9, 10, 11, 12, 13, 14, 15, 16, 17, 18, 19, 20, 21] (by decide) rfl
        have hFc := va_free (wc := (wS52 K cI cJ cZ cB g0 g1 g2 g3 g4 g5 g6 g7 g8 g9 g10 g11 g12 g13 g14 g15 Ax0_3 Ax0_4 Ax0_5 Ax0_6 Ax0_7 Ax0_8 Ax0_9 Ax0_10 Ax0_11 Ax0_12 Ax0_13 Ax0_14 Ax1_1 Ax1_2 Ax1_3 Ax1_4 Ax1_5 Ax1_6 Ax1_7 Ax1_8 Ay2 Ax3_5 Ax3_6 Ay4 Ay5 Ay6 Ay7 Ay8 Ax9_6 Ay10 Ay11 Ay12 Ay13 Ay14 Ay15)) hD hS hA [6, 7, 8, 9, 10, 11, 12, 13, 14, 15, 16, 17, 18, 19, 20, 21] rfl
        refine va_calli (va_runV (C := "SignMachine$Output") (As := [.int l2]) (rest := [.int rz2, .ref m0]) ⟨hx, hb, hml, hown, hk⟩ (c_O_wordOf_s1 l K D cI cJ cZ cB g0 g1 g2 g3 g4 g5 g6 g7 g8 g9 g10 g11 g12 g13 g14 g15 H.size Ax0_3 Ax0_4 Ax0_5 Ax0_6 Ax0_7 Ax0_8 Ax0_9 Ax0_10 Ax0_11 Ax0_12 Ax0_13 Ax0_14 Ax1_1 Ax1_2 Ax1_3 Ax1_4 Ax1_5 Ax1_6 Ax1_7 Ax1_8 Ay2 Ax3_5 Ax3_6 Ay4 Ay5 Ay6 Ay7 Ay8 Ax9_6 Ay10 Ay11 Ay12 Ay13 Ay14 Ay15 l2 ) (v_O_wordOf_s1 hk k_1107 ⟨Nat.le_of_ble_eq_true rfl, Nat.le_of_ble_eq_true rfl⟩) (pMC_v hK hPc hDc hC hS hA (ci := 6) (q0 := 9) rfl rfl rfl) rfl rfl hl.1 rfl (lv_room (Nat.le_of_ble_eq_true rfl)) d_S_load_21 ⟨by decide, by decide⟩) hS (fun q _ h => hFc q h) hFc (fun rz3 u t H locs ht hvm hr0 hB hzq hkq hS => ?_)
        obtain ⟨hP1, hD1⟩ := hB
        rw [ht] at hP1
        obtain ⟨hP, hD⟩ := va_join (wr := (wS55 cI cJ cZ cB p0 m0 g0) ++ (wS51 cI cJ cZ cB m0 m1 m2 m3 m4 Mx0_4 Mx0_5 Mx0_6 Mx0_7 Mx0_8 Mx0_9 Mx0_10 Mx0_11 Mx0_12 Mx0_13 My1 My2 Mx3_0 Mx4_0)) (w1 := (wS52 K cI cJ cZ cB g0 g1 g2 g3 g4 g5 g6 g7 g8 g9 g10 g11 g12 g13 g14 g15 Ax0_3 Ax0_4 Ax0_5 Ax0_6 Ax0_7 Ax0_8 Ax0_9 Ax0_10 Ax0_11 Ax0_12 Ax0_13 Ax0_14 Ax1_1 Ax1_2 Ax1_3 Ax1_4 Ax1_5 Ax1_6 Ax1_7 Ax1_8 Ay2 Ax3_5 Ax3_6 Ay4 Ay5 Ay6 Ay7 Ay8 Ax9_6 Ay10 Ay11 Ay12 Ay13 Ay14 Ay15)) hP hD [6, 7, 8, 9, 10, 11, 12, 13, 14, 15, 16, 17, 18, 19, 20, 21] [0, 1, 2, 3, 4, 5] rfl rfl (by decide) (by decide) hkq hFc hP1 hD1
        have hP := hP.sub (ws' := ((wS55 cI cJ cZ cB p0 m0 g0) ++ (wS51 cI cJ cZ cB m0 m1 m2 m3 m4 Mx0_4 Mx0_5 Mx0_6 Mx0_7 Mx0_8 Mx0_9 Mx0_10 Mx0_11 Mx0_12 Mx0_13 My1 My2 Mx3_0 Mx4_0) ++ (wS52 K cI cJ cZ cB g0 g1 g2 g3 g4 g5 g6 g7 g8 g9 g10 g11 g12 g13 g14 g15 Ax0_3 Ax0_4 Ax0_5 Ax0_6 Ax0_7 Ax0_8 Ax0_9 Ax0_10 Ax0_11 Ax0_12 Ax0_13 Ax0_14 Ax1_1 Ax1_2 Ax1_3 Ax1_4 Ax1_5 Ax1_6 Ax1_7 Ax1_8 Ay2 Ax3_5 Ax3_6 Ay4 Ay5 Ay6 Ay7 Ay8 Ax9_6 Ay10 Ay11 Ay12 Ay13 Ay14 Ay15))) [0, 1, 2, 3, 4, 5, 6, 7, 8, 9, 10, 11, 12, 13, 14, 15, 16, 17, 18, 19, 20, 21] rfl
        have hD := hD.sub (ws' := ((wS55 cI cJ cZ cB p0 m0 g0) ++ (wS51 cI cJ cZ cB m0 m1 m2 m3 m4 Mx0_4 Mx0_5 Mx0_6 Mx0_7 Mx0_8 Mx0_9 Mx0_10 Mx0_11 Mx0_12 Mx0_13 My1 My2 Mx3_0 Mx4_0) ++ (wS52 K cI cJ cZ cB g0 g1 g2 g3 g4 g5 g6 g7 g8 g9 g10 g11 g12 g13 g14 g15 Ax0_3 Ax0_4 Ax0_5 Ax0_6 Ax0_7 Ax0_8 Ax0_9 Ax0_10 Ax0_11 Ax0_12 Ax0_13 Ax0_14 Ax1_1 Ax1_2 Ax1_3 Ax1_4 Ax1_5 Ax1_6 Ax1_7 Ax1_8 Ay2 Ax3_5 Ax3_6 Ay4 Ay5 Ay6 Ay7 Ay8 Ax9_6 Ay10 Ay11 Ay12 Ay13 Ay14 Ay15))) [0, 1, 2, 3, 4, 5, 6, 7, 8, 9, 10, 11, 12, 13, 14, 15, 16, 17, 18, 19, 20, 21] (by decide) rfl
        have hP : va_P D classes ((wS55 cI cJ cZ cB p0 m0 g0) ++ (wS51 cI cJ cZ cB m0 m1 m2 m3 m4 Mx0_4 Mx0_5 Mx0_6 Mx0_7 Mx0_8 Mx0_9 Mx0_10 Mx0_11 Mx0_12 Mx0_13 My1 My2 Mx3_0 Mx4_0) ++ (wS52 K cI cJ cZ cB g0 g1 g2 g3 g4 g5 g6 g7 g8 g9 g10 g11 g12 g13 g14 g15 Ax0_3 Ax0_4 Ax0_5 Ax0_6 Ax0_7 Ax0_8 Ax0_9 Ax0_10 Ax0_11 Ax0_12 Ax0_13 Ax0_14 Ax1_1 Ax1_2 Ax1_3 Ax1_4 Ax1_5 Ax1_6 Ax1_7 Ax1_8 Ay2 Ax3_5 Ax3_6 Ay4 Ay5 Ay6 Ay7 Ay8 Ax9_6 Ay10 Ay11 Ay12 Ay13 Ay14 Ay15)) H := hP
        have hD : va_D A ((wS55 cI cJ cZ cB p0 m0 g0) ++ (wS51 cI cJ cZ cB m0 m1 m2 m3 m4 Mx0_4 Mx0_5 Mx0_6 Mx0_7 Mx0_8 Mx0_9 Mx0_10 Mx0_11 Mx0_12 Mx0_13 My1 My2 Mx3_0 Mx4_0) ++ (wS52 K cI cJ cZ cB g0 g1 g2 g3 g4 g5 g6 g7 g8 g9 g10 g11 g12 g13 g14 g15 Ax0_3 Ax0_4 Ax0_5 Ax0_6 Ax0_7 Ax0_8 Ax0_9 Ax0_10 Ax0_11 Ax0_12 Ax0_13 Ax0_14 Ax1_1 Ax1_2 Ax1_3 Ax1_4 Ax1_5 Ax1_6 Ax1_7 Ax1_8 Ay2 Ax3_5 Ax3_6 Ay4 Ay5 Ay6 Ay7 Ay8 Ax9_6 Ay10 Ay11 Ay12 Ay13 Ay14 Ay15)) := hD
        clear hPc hDc hFc
        have hPc := hP.sub (ws' := (wS51 cI cJ cZ cB m0 m1 m2 m3 m4 Mx0_4 Mx0_5 Mx0_6 Mx0_7 Mx0_8 Mx0_9 Mx0_10 Mx0_11 Mx0_12 Mx0_13 My1 My2 Mx3_0 Mx4_0)) [1, 2, 3, 4, 5] rfl
        have hDc := hD.sub (ws' := (wS51 cI cJ cZ cB m0 m1 m2 m3 m4 Mx0_4 Mx0_5 Mx0_6 Mx0_7 Mx0_8 Mx0_9 Mx0_10 Mx0_11 Mx0_12 Mx0_13 My1 My2 Mx3_0 Mx4_0)) [1, 2, 3, 4, 5] (by decide) rfl
        have hFc := va_free (wc := (wS51 cI cJ cZ cB m0 m1 m2 m3 m4 Mx0_4 Mx0_5 Mx0_6 Mx0_7 Mx0_8 Mx0_9 Mx0_10 Mx0_11 Mx0_12 Mx0_13 My1 My2 Mx3_0 Mx4_0)) hD hS hA [1, 2, 3, 4, 5] rfl
        refine va_callv (va_runV (C := "SignMachine$Machine") (As := [.int rz2, .int rz3]) (rest := []) ⟨hx, hb, hml, hown, hk⟩ (c_M_putWord_s1 l K D cI cJ cZ cB m0 m1 m2 m3 m4 H.size Mx0_4 Mx0_5 Mx0_6 Mx0_7 Mx0_8 Mx0_9 Mx0_10 Mx0_11 Mx0_12 Mx0_13 My1 My2 Mx3_0 Mx4_0 rz2 rz3 ) (v_M_putWord_s1 hk k_232 ⟨Nat.le_of_ble_eq_true rfl, Nat.le_of_ble_eq_true rfl⟩) (pMC_v hK hPc hDc hC hS hA (ci := 1) (q0 := 0) rfl rfl rfl) rfl rfl hl.1 rfl (lv_room (Nat.le_of_ble_eq_true rfl)) d_S_load_24 ⟨by decide, by decide⟩) hS (fun q _ h => hFc q h) hFc (fun u t H locs ht hvm hr0 hB hzq hkq hS => ?_)
        obtain ⟨My1z4, hP1, hD1⟩ := hB
        rw [ht] at hP1
        obtain ⟨hP, hD⟩ := va_join (wr := (wS55 cI cJ cZ cB p0 m0 g0) ++ (wS52 K cI cJ cZ cB g0 g1 g2 g3 g4 g5 g6 g7 g8 g9 g10 g11 g12 g13 g14 g15 Ax0_3 Ax0_4 Ax0_5 Ax0_6 Ax0_7 Ax0_8 Ax0_9 Ax0_10 Ax0_11 Ax0_12 Ax0_13 Ax0_14 Ax1_1 Ax1_2 Ax1_3 Ax1_4 Ax1_5 Ax1_6 Ax1_7 Ax1_8 Ay2 Ax3_5 Ax3_6 Ay4 Ay5 Ay6 Ay7 Ay8 Ax9_6 Ay10 Ay11 Ay12 Ay13 Ay14 Ay15)) (w1 := (wS51 cI cJ cZ cB m0 m1 m2 m3 m4 Mx0_4 Mx0_5 Mx0_6 Mx0_7 Mx0_8 Mx0_9 Mx0_10 Mx0_11 Mx0_12 Mx0_13 My1z4 My2 Mx3_0 Mx4_0)) hP hD [1, 2, 3, 4, 5] [0, 6, 7, 8, 9, 10, 11, 12, 13, 14, 15, 16, 17, 18, 19, 20, 21] rfl rfl (by decide) (by decide) hkq hFc hP1 hD1
        have hP := hP.sub (ws' := ((wS55 cI cJ cZ cB p0 m0 g0) ++ (wS51 cI cJ cZ cB m0 m1 m2 m3 m4 Mx0_4 Mx0_5 Mx0_6 Mx0_7 Mx0_8 Mx0_9 Mx0_10 Mx0_11 Mx0_12 Mx0_13 My1z4 My2 Mx3_0 Mx4_0) ++ (wS52 K cI cJ cZ cB g0 g1 g2 g3 g4 g5 g6 g7 g8 g9 g10 g11 g12 g13 g14 g15 Ax0_3 Ax0_4 Ax0_5 Ax0_6 Ax0_7 Ax0_8 Ax0_9 Ax0_10 Ax0_11 Ax0_12 Ax0_13 Ax0_14 Ax1_1 Ax1_2 Ax1_3 Ax1_4 Ax1_5 Ax1_6 Ax1_7 Ax1_8 Ay2 Ax3_5 Ax3_6 Ay4 Ay5 Ay6 Ay7 Ay8 Ax9_6 Ay10 Ay11 Ay12 Ay13 Ay14 Ay15))) [0, 17, 18, 19, 20, 21, 1, 2, 3, 4, 5, 6, 7, 8, 9, 10, 11, 12, 13, 14, 15, 16] rfl
        have hD := hD.sub (ws' := ((wS55 cI cJ cZ cB p0 m0 g0) ++ (wS51 cI cJ cZ cB m0 m1 m2 m3 m4 Mx0_4 Mx0_5 Mx0_6 Mx0_7 Mx0_8 Mx0_9 Mx0_10 Mx0_11 Mx0_12 Mx0_13 My1z4 My2 Mx3_0 Mx4_0) ++ (wS52 K cI cJ cZ cB g0 g1 g2 g3 g4 g5 g6 g7 g8 g9 g10 g11 g12 g13 g14 g15 Ax0_3 Ax0_4 Ax0_5 Ax0_6 Ax0_7 Ax0_8 Ax0_9 Ax0_10 Ax0_11 Ax0_12 Ax0_13 Ax0_14 Ax1_1 Ax1_2 Ax1_3 Ax1_4 Ax1_5 Ax1_6 Ax1_7 Ax1_8 Ay2 Ax3_5 Ax3_6 Ay4 Ay5 Ay6 Ay7 Ay8 Ax9_6 Ay10 Ay11 Ay12 Ay13 Ay14 Ay15))) [0, 17, 18, 19, 20, 21, 1, 2, 3, 4, 5, 6, 7, 8, 9, 10, 11, 12, 13, 14, 15, 16] (by decide) rfl
        have hP : va_P D classes ((wS55 cI cJ cZ cB p0 m0 g0) ++ (wS51 cI cJ cZ cB m0 m1 m2 m3 m4 Mx0_4 Mx0_5 Mx0_6 Mx0_7 Mx0_8 Mx0_9 Mx0_10 Mx0_11 Mx0_12 Mx0_13 My1z4 My2 Mx3_0 Mx4_0) ++ (wS52 K cI cJ cZ cB g0 g1 g2 g3 g4 g5 g6 g7 g8 g9 g10 g11 g12 g13 g14 g15 Ax0_3 Ax0_4 Ax0_5 Ax0_6 Ax0_7 Ax0_8 Ax0_9 Ax0_10 Ax0_11 Ax0_12 Ax0_13 Ax0_14 Ax1_1 Ax1_2 Ax1_3 Ax1_4 Ax1_5 Ax1_6 Ax1_7 Ax1_8 Ay2 Ax3_5 Ax3_6 Ay4 Ay5 Ay6 Ay7 Ay8 Ax9_6 Ay10 Ay11 Ay12 Ay13 Ay14 Ay15)) H := hP
        have hD : va_D A ((wS55 cI cJ cZ cB p0 m0 g0) ++ (wS51 cI cJ cZ cB m0 m1 m2 m3 m4 Mx0_4 Mx0_5 Mx0_6 Mx0_7 Mx0_8 Mx0_9 Mx0_10 Mx0_11 Mx0_12 Mx0_13 My1z4 My2 Mx3_0 Mx4_0) ++ (wS52 K cI cJ cZ cB g0 g1 g2 g3 g4 g5 g6 g7 g8 g9 g10 g11 g12 g13 g14 g15 Ax0_3 Ax0_4 Ax0_5 Ax0_6 Ax0_7 Ax0_8 Ax0_9 Ax0_10 Ax0_11 Ax0_12 Ax0_13 Ax0_14 Ax1_1 Ax1_2 Ax1_3 Ax1_4 Ax1_5 Ax1_6 Ax1_7 Ax1_8 Ay2 Ax3_5 Ax3_6 Ay4 Ay5 Ay6 Ay7 Ay8 Ax9_6 Ay10 Ay11 Ay12 Ay13 Ay14 Ay15)) := hD
        clear hPc hDc hFc
        obtain ⟨v5, hv5⟩ : ∃ y : Int32, y = (l2 + (1 : Int32)) := ⟨_, rfl⟩
        refine lv_iinc (v := v5) (lv' := [(2, .int v5), (0, .ref p0), (1, .ref g9)]) hx hb d_S_load_27 hl (k := 0) rfl (by rw [hv5]; rfl) (by decide) rfl (fun ls hl => ?_)
        refine lv_goto (tgt := 2) hx hb d_S_load_30 (by decide) ?_
        exact ih v5 My1z4 H _ ls (lpu c1 hv5 hn2_x7) (lpn hc2_x7 c1 hv5) hP hD hS (lv_sub hl [0, 1, 2] rfl)
  exact LP2_x7 _ (0 : Int32) My1 s.heap _ ls (Nat.lt_succ_self _) (by decide) hP hD hS hl
theorem v_S_load_b1 {R : Room} {s : State} {args : Array Value} {own : String} {index : Nat} (hk : ∀ w ∈ tb, w.before args s = true) (hl : Cond.methodLink own index y_S_load ∈ tb) (hR : 2 + 1 ≤ R.frames ∧ 8 + (3 + 11) + 41 ≤ R.locals) : CallW R s args own "SignMachine" index y_S_load b_S_load 3 none (.code y_S_load b_S_load 3 none :: tb) ({ frames := 2, cells := 0, slots := 0, locals := 41 }) 0 0 1 := mk_v 1 hk k_1102 hl k_1101 k_59 k_116 rfl rfl h_S_load hR
set_option maxHeartbeats 4000000 in
set_option maxRecDepth 100000 in
theorem c_R_hasLine_s1 (l : Launch) (K : CK) (D : va_G) (cI cJ cZ cB : ClassId) (p0 p1 p2 p3 p4 p5 p6 p7 p8 p9 p10 p11 p12 p13 p14 p15 : Nat) (sz : Nat) (x0_3 : Int32) (x0_4 : Int32) (x0_5 : Int32) (x0_6 : Int32) (x0_7 : Int32) (x0_8 : Bool) (x0_9 : Int64) (x0_10 : Int32) (x0_11 : Option (Fin 51)) (x0_12 : Int32) (x0_13 : Int32) (x0_14 : Int32) (x1_1 : Int32) (x1_2 : Int32) (x1_3 : Int32) (x1_4 : Int32) (x1_5 : Int32) (x1_6 : Int32) (x1_7 : Int64) (x1_8 : Int32) (y2 : Nat → Int32) (x3_5 : Int32) (x3_6 : Int32) (y4 : Nat → Int64) (y5 : Nat → Int32) (y6 : Nat → Int32) (y7 : Nat → Int32) (y8 : Nat → Int32) (x9_6 : Int32) (y10 : Nat → Int32) (y11 : Nat → Int32) (y12 : Nat → Int32) (y13 : Nat → Int32) (y14 : Nat → Int32) (y15 : Nat → Int32)   : Met l y_R_hasLine (.code y_R_hasLine b_R_hasLine 1 (some .boolean) :: tb) ({ frames := 0, cells := 0, slots := 0, locals := 0 }) (pMC K D cI cJ cZ cB (wS52 K cI cJ cZ cB p0 p1 p2 p3 p4 p5 p6 p7 p8 p9 p10 p11 p12 p13 p14 p15 x0_3 x0_4 x0_5 x0_6 x0_7 x0_8 x0_9 x0_10 x0_11 x0_12 x0_13 x0_14 x1_1 x1_2 x1_3 x1_4 x1_5 x1_6 x1_7 x1_8 y2 x3_5 x3_6 y4 y5 y6 y7 y8 x9_6 y10 y11 y12 y13 y14 y15) sz [.ref p1]) (va_Qi (fun r (_ : Unit) => ∃ z : Bool, r = bI z) (fun _ t => (va_P D classes (wS52 K cI cJ cZ cB p0 p1 p2 p3 p4 p5 p6 p7 p8 p9 p10 p11 p12 p13 p14 p15 x0_3 x0_4 x0_5 x0_6 x0_7 x0_8 x0_9 x0_10 x0_11 x0_12 x0_13 x0_14 x1_1 x1_2 x1_3 x1_4 x1_5 x1_6 x1_7 x1_8 y2 x3_5 x3_6 y4 y5 y6 y7 y8 x9_6 y10 y11 y12 y13 y14 y15) t.heap ∧ va_D (va_A (wS52 K cI cJ cZ cB p0 p1 p2 p3 p4 p5 p6 p7 p8 p9 p10 p11 p12 p13 p14 p15 x0_3 x0_4 x0_5 x0_6 x0_7 x0_8 x0_9 x0_10 x0_11 x0_12 x0_13 x0_14 x1_1 x1_2 x1_3 x1_4 x1_5 x1_6 x1_7 x1_8 y2 x3_5 x3_6 y4 y5 y6 y7 y8 x9_6 y10 y11 y12 y13 y14 y15) sz) (wS52 K cI cJ cZ cB p0 p1 p2 p3 p4 p5 p6 p7 p8 p9 p10 p11 p12 p13 p14 p15 x0_3 x0_4 x0_5 x0_6 x0_7 x0_8 x0_9 x0_10 x0_11 x0_12 x0_13 x0_14 x1_1 x1_2 x1_3 x1_4 x1_5 x1_6 x1_7 x1_8 y2 x3_5 x3_6 y4 y5 y6 y7 y8 x9_6 y10 y11 y12 y13 y14 y15))) (va_A (wS52 K cI cJ cZ cB p0 p1 p2 p3 p4 p5 p6 p7 p8 p9 p10 p11 p12 p13 p14 p15 x0_3 x0_4 x0_5 x0_6 x0_7 x0_8 x0_9 x0_10 x0_11 x0_12 x0_13 x0_14 x1_1 x1_2 x1_3 x1_4 x1_5 x1_6 x1_7 x1_8 y2 x3_5 x3_6 y4 y5 y6 y7 y8 x9_6 y10 y11 y12 y13 y14 y15) sz)) 0 0 (va_A (wS52 K cI cJ cZ cB p0 p1 p2 p3 p4 p5 p6 p7 p8 p9 p10 p11 p12 p13 p14 p15 x0_3 x0_4 x0_5 x0_6 x0_7 x0_8 x0_9 x0_10 x0_11 x0_12 x0_13 x0_14 x1_1 x1_2 x1_3 x1_4 x1_5 x1_6 x1_7 x1_8 y2 x3_5 x3_6 y4 y5 y6 y7 y8 x9_6 y10 y11 y12 y13 y14 y15) sz) := by
  refine Met.ofW (cc := b_R_hasLine) (maxL := 1) (ret := (some .boolean)) (by decide) rfl ?_
  intro p e s m args below meth c s₁ B hml hv
  obtain ⟨rfl, hsz, hK, hP, hD0, hC⟩ := hv
  subst hsz
  have hD := hD0.self (sz := s.heap.size)
  generalize hAe : va_A (wS52 K cI cJ cZ cB p0 p1 p2 p3 p4 p5 p6 p7 p8 p9 p10 p11 p12 p13 p14 p15 x0_3 x0_4 x0_5 x0_6 x0_7 x0_8 x0_9 x0_10 x0_11 x0_12 x0_13 x0_14 x1_1 x1_2 x1_3 x1_4 x1_5 x1_6 x1_7 x1_8 y2 x3_5 x3_6 y4 y5 y6 y7 y8 x9_6 y10 y11 y12 y13 y14 y15) s.heap.size = A at hD hC ⊢
  have hA : ∀ q : Nat, s.heap.size ≤ q → A q := fun q h => by rw [← hAe]; exact Or.inr h
  clear hAe hD0
  have hS : va_S A s.heap s.heap [] := va_S.rf
  have hx := B.exec
  have hb := B.bytes
  have hr := B.returns
  have hts := atoms_spec (ws := .code y_R_hasLine b_R_hasLine 1 (some .boolean) :: tb) B.pre
  have hk : ∀ w ∈ tb, w.before [.ref p1].toArray s = true := fun w h => hts w (List.mem_cons_of_mem _ h)
  have hown : s.vm.findClass "SignMachine$Source" = some m.cls := findClass_of_methodNamed B.named
  have hlocks := B.notSynchronized
  have hl := lv_entry ([.ref p1]) (n := 1) (Nat.le_of_ble_eq_true rfl)
  rw [lg_entry_eq]
  generalize (lg_sl ([.ref p1]) ++ List.replicate (1 - (lg_sl ([.ref p1])).length) Slot.unset).toArray = ls at hl ⊢
  have hl : lv_has ls 1 [(0, .ref p1)] := hl
  refine lv_aload_n hx hb d_R_hasLine_0 rfl (lv_at hl 0 rfl) ?_
  refine va_get (D := D) (ci := 4) (v := .int x1_5) (C := "SignMachine$Source") (T := F_R) (N := 9) hx hb hk fi_R hown hK.1 hP 1 rfl rfl 5 (by decide) (hk _ k_543) (fun _ h9 => h9) rfl d_R_hasLine_1 ?_
  refine lv_aload_n hx hb d_R_hasLine_4 rfl (lv_at hl 0 rfl) ?_
  refine va_get (D := D) (ci := 4) (v := .int x1_1) (C := "SignMachine$Source") (T := F_R) (N := 9) hx hb hk fi_R hown hK.1 hP 1 rfl rfl 1 (by decide) (hk _ k_535) (fun _ h9 => h9) rfl d_R_hasLine_5 ?_
  refine lv_icmp_ge (tgt := 15) hx hb d_R_hasLine_8 (by decide) (fun c1 => ?_) (fun c1 => ?_)
  · refine lv_iconst (v := 0) hx hb d_R_hasLine_15 (by decide) ?_
    exact W.zret (v := (0 : Int32)) hx hb hr rfl (fun t ht hW => ⟨⟨(0 : Int32), (), rfl, ⟨false, rfl⟩, ⟨by show va_P D classes _ t.heap; rw [ht]; exact hP, hD⟩⟩, hS.F ht⟩) hS.2.2 d_R_hasLine_16
  · refine lv_iconst (v := 1) hx hb d_R_hasLine_11 (by decide) ?_
    refine lv_goto (tgt := 16) hx hb d_R_hasLine_12 (by decide) ?_
    exact W.zret (v := (1 : Int32)) hx hb hr rfl (fun t ht hW => ⟨⟨(1 : Int32), (), rfl, ⟨true, rfl⟩, ⟨by show va_P D classes _ t.heap; rw [ht]; exact hP, hD⟩⟩, hS.F ht⟩) hS.2.2 d_R_hasLine_16
theorem v_R_hasLine_s1 {R : Room} {s : State} {args : Array Value} {own : String} {index : Nat} (hk : ∀ w ∈ tb, w.before args s = true) (hl : Cond.methodLink own index y_R_hasLine ∈ tb) (hR : 0 + 1 ≤ R.frames ∧ 8 + (1 + 11) + 0 ≤ R.locals) : CallW R s args own "SignMachine$Source" index y_R_hasLine b_R_hasLine 1 (some .boolean) (.code y_R_hasLine b_R_hasLine 1 (some .boolean) :: tb) ({ frames := 0, cells := 0, slots := 0, locals := 0 }) 0 0 0 := mk_v 0 hk k_722 hl k_720 k_721 k_124 rfl rfl h_R_hasLine hR
set_option maxHeartbeats 4000000 in
set_option maxRecDepth 100000 in
theorem c_A_hasLine_s1 (l : Launch) (K : CK) (D : va_G) (cI cJ cZ cB : ClassId) (p0 p1 p2 p3 p4 p5 p6 p7 p8 p9 p10 p11 p12 p13 p14 p15 : Nat) (sz : Nat) (x0_3 : Int32) (x0_4 : Int32) (x0_5 : Int32) (x0_6 : Int32) (x0_7 : Int32) (x0_8 : Bool) (x0_9 : Int64) (x0_10 : Int32) (x0_11 : Option (Fin 51)) (x0_12 : Int32) (x0_13 : Int32) (x0_14 : Int32) (x1_1 : Int32) (x1_2 : Int32) (x1_3 : Int32) (x1_4 : Int32) (x1_5 : Int32) (x1_6 : Int32) (x1_7 : Int64) (x1_8 : Int32) (y2 : Nat → Int32) (x3_5 : Int32) (x3_6 : Int32) (y4 : Nat → Int64) (y5 : Nat → Int32) (y6 : Nat → Int32) (y7 : Nat → Int32) (y8 : Nat → Int32) (x9_6 : Int32) (y10 : Nat → Int32) (y11 : Nat → Int32) (y12 : Nat → Int32) (y13 : Nat → Int32) (y14 : Nat → Int32) (y15 : Nat → Int32)   : Met l y_A_hasLine (.code y_A_hasLine b_A_hasLine 1 (some .boolean) :: tb) ({ frames := 1, cells := 0, slots := 0, locals := 20 }) (pMC K D cI cJ cZ cB (wS52 K cI cJ cZ cB p0 p1 p2 p3 p4 p5 p6 p7 p8 p9 p10 p11 p12 p13 p14 p15 x0_3 x0_4 x0_5 x0_6 x0_7 x0_8 x0_9 x0_10 x0_11 x0_12 x0_13 x0_14 x1_1 x1_2 x1_3 x1_4 x1_5 x1_6 x1_7 x1_8 y2 x3_5 x3_6 y4 y5 y6 y7 y8 x9_6 y10 y11 y12 y13 y14 y15) sz [.ref p0]) (va_Qi (fun r (_ : Unit) => ∃ z : Bool, r = bI z) (fun _ t => (va_P D classes (wS52 K cI cJ cZ cB p0 p1 p2 p3 p4 p5 p6 p7 p8 p9 p10 p11 p12 p13 p14 p15 x0_3 x0_4 x0_5 x0_6 x0_7 x0_8 x0_9 x0_10 x0_11 x0_12 x0_13 x0_14 x1_1 x1_2 x1_3 x1_4 x1_5 x1_6 x1_7 x1_8 y2 x3_5 x3_6 y4 y5 y6 y7 y8 x9_6 y10 y11 y12 y13 y14 y15) t.heap ∧ va_D (va_A (wS52 K cI cJ cZ cB p0 p1 p2 p3 p4 p5 p6 p7 p8 p9 p10 p11 p12 p13 p14 p15 x0_3 x0_4 x0_5 x0_6 x0_7 x0_8 x0_9 x0_10 x0_11 x0_12 x0_13 x0_14 x1_1 x1_2 x1_3 x1_4 x1_5 x1_6 x1_7 x1_8 y2 x3_5 x3_6 y4 y5 y6 y7 y8 x9_6 y10 y11 y12 y13 y14 y15) sz) (wS52 K cI cJ cZ cB p0 p1 p2 p3 p4 p5 p6 p7 p8 p9 p10 p11 p12 p13 p14 p15 x0_3 x0_4 x0_5 x0_6 x0_7 x0_8 x0_9 x0_10 x0_11 x0_12 x0_13 x0_14 x1_1 x1_2 x1_3 x1_4 x1_5 x1_6 x1_7 x1_8 y2 x3_5 x3_6 y4 y5 y6 y7 y8 x9_6 y10 y11 y12 y13 y14 y15))) (va_A (wS52 K cI cJ cZ cB p0 p1 p2 p3 p4 p5 p6 p7 p8 p9 p10 p11 p12 p13 p14 p15 x0_3 x0_4 x0_5 x0_6 x0_7 x0_8 x0_9 x0_10 x0_11 x0_12 x0_13 x0_14 x1_1 x1_2 x1_3 x1_4 x1_5 x1_6 x1_7 x1_8 y2 x3_5 x3_6 y4 y5 y6 y7 y8 x9_6 y10 y11 y12 y13 y14 y15) sz)) 0 0 (va_A (wS52 K cI cJ cZ cB p0 p1 p2 p3 p4 p5 p6 p7 p8 p9 p10 p11 p12 p13 p14 p15 x0_3 x0_4 x0_5 x0_6 x0_7 x0_8 x0_9 x0_10 x0_11 x0_12 x0_13 x0_14 x1_1 x1_2 x1_3 x1_4 x1_5 x1_6 x1_7 x1_8 y2 x3_5 x3_6 y4 y5 y6 y7 y8 x9_6 y10 y11 y12 y13 y14 y15) sz) := by
  refine Met.ofW (cc := b_A_hasLine) (maxL := 1) (ret := (some .boolean)) (by decide) rfl ?_
  intro p e s m args below meth c s₁ B hml hv
  obtain ⟨rfl, hsz, hK, hP, hD0, hC⟩ := hv
  subst hsz
  have hD := hD0.self (sz := s.heap.size)
  generalize hAe : va_A (wS52 K cI cJ cZ cB p0 p1 p2 p3 p4 p5 p6 p7 p8 p9 p10 p11 p12 p13 p14 p15 x0_3 x0_4 x0_5 x0_6 x0_7 x0_8 x0_9 x0_10 x0_11 x0_12 x0_13 x0_14 x1_1 x1_2 x1_3 x1_4 x1_5 x1_6 x1_7 x1_8 y2 x3_5 x3_6 y4 y5 y6 y7 y8 x9_6 y10 y11 y12 y13 y14 y15) s.heap.size = A at hD hC ⊢
  have hA : ∀ q : Nat, s.heap.size ≤ q → A q := fun q h => by rw [← hAe]; exact Or.inr h
  clear hAe hD0
  have hS : va_S A s.heap s.heap [] := va_S.rf
  have hx := B.exec
  have hb := B.bytes
  have hr := B.returns
  have hts := atoms_spec (ws := .code y_A_hasLine b_A_hasLine 1 (some .boolean) :: tb) B.pre
  have hk : ∀ w ∈ tb, w.before [.ref p0].toArray s = true := fun w h => hts w (List.mem_cons_of_mem _ h)
  have hown : s.vm.findClass "SignMachine$Assembler" = some m.cls := findClass_of_methodNamed B.named
  have hlocks := B.notSynchronized
  have hl := lv_entry ([.ref p0]) (n := 1) (Nat.le_of_ble_eq_true rfl)
  rw [lg_entry_eq]
  generalize (lg_sl ([.ref p0]) ++ List.replicate (1 - (lg_sl ([.ref p0])).length) Slot.unset).toArray = ls at hl ⊢
  have hl : lv_has ls 1 [(0, .ref p0)] := hl
  refine lv_aload_n hx hb d_A_hasLine_0 rfl (lv_at hl 0 rfl) ?_
  refine va_get (D := D) (ci := 3) (v := .int x0_3) (C := "SignMachine$Assembler") (T := F_A) (N := 15) hx hb hk fi_A hown hK.1 hP 0 rfl rfl 3 (by decide) (hk _ k_636) (fun _ h9 => h9) rfl d_A_hasLine_1 ?_
  refine lv_if_ne (tgt := 28) hx hb d_A_hasLine_4 (by decide) (fun c1 => ?_) (fun c1 => ?_)
  · refine lv_iconst (v := 0) hx hb d_A_hasLine_28 (by decide) ?_
    exact W.zret (v := (0 : Int32)) hx hb hr rfl (fun t ht hW => ⟨⟨(0 : Int32), (), rfl, ⟨false, rfl⟩, ⟨by show va_P D classes _ t.heap; rw [ht]; exact hP, hD⟩⟩, hS.F ht⟩) hS.2.2 d_A_hasLine_29
  · refine lv_aload_n hx hb d_A_hasLine_7 rfl (lv_at hl 0 rfl) ?_
    refine va_get (D := D) (ci := 3) (v := .int (bI x0_8)) (C := "SignMachine$Assembler") (T := F_A) (N := 15) hx hb hk fi_A hown hK.1 hP 0 rfl rfl 8 (by decide) (hk _ k_645) (fun _ h9 => h9) rfl d_A_hasLine_8 ?_
    refine lv_if_ne (tgt := 28) hx hb d_A_hasLine_11 (by decide) (fun c2 => ?_) (fun c2 => ?_)
    · refine lv_iconst (v := 0) hx hb d_A_hasLine_28 (by decide) ?_
      exact W.zret (v := (0 : Int32)) hx hb hr rfl (fun t ht hW => ⟨⟨(0 : Int32), (), rfl, ⟨false, rfl⟩, ⟨by show va_P D classes _ t.heap; rw [ht]; exact hP, hD⟩⟩, hS.F ht⟩) hS.2.2 d_A_hasLine_29
    · refine lv_aload_n hx hb d_A_hasLine_14 rfl (lv_at hl 0 rfl) ?_
      refine va_get (D := D) (ci := 3) (v := .ref p1) (C := "SignMachine$Assembler") (T := F_A) (N := 15) hx hb hk fi_A hown hK.1 hP 0 rfl rfl 0 (by decide) (hk _ k_631) (fun _ h9 => h9) rfl d_A_hasLine_15 ?_
      refine sn_i (va_runV (C := "SignMachine$Source") (As := []) (rest := []) ⟨hx, hb, hml, hown, hk⟩ (c_R_hasLine_s1 l K D cI cJ cZ cB p0 p1 p2 p3 p4 p5 p6 p7 p8 p9 p10 p11 p12 p13 p14 p15 s.heap.size x0_3 x0_4 x0_5 x0_6 x0_7 x0_8 x0_9 x0_10 x0_11 x0_12 x0_13 x0_14 x1_1 x1_2 x1_3 x1_4 x1_5 x1_6 x1_7 x1_8 y2 x3_5 x3_6 y4 y5 y6 y7 y8 x9_6 y10 y11 y12 y13 y14 y15   ) (v_R_hasLine_s1 hk k_719 ⟨Nat.le_of_ble_eq_true rfl, Nat.le_of_ble_eq_true rfl⟩) (pMC_v hK hP hD hC hS hA (ci := 4) (q0 := 1) rfl rfl rfl) rfl rfl hl.1 rfl (lv_room (Nat.le_of_ble_eq_true rfl)) d_A_hasLine_18 ⟨by decide, by decide⟩) hS hA hD (fun rz3 u t H locs hr0 ht hB hFr hS => ?_)
      obtain ⟨z3, hz3⟩ := hr0
      subst hz3
      obtain ⟨hP, hD⟩ := hB
      rw [ht] at hP
      have hD := dwk hD hFr
      clear ht hFr
      have hP : va_P D classes (wS52 K cI cJ cZ cB p0 p1 p2 p3 p4 p5 p6 p7 p8 p9 p10 p11 p12 p13 p14 p15 x0_3 x0_4 x0_5 x0_6 x0_7 x0_8 x0_9 x0_10 x0_11 x0_12 x0_13 x0_14 x1_1 x1_2 x1_3 x1_4 x1_5 x1_6 x1_7 x1_8 y2 x3_5 x3_6 y4 y5 y6 y7 y8 x9_6 y10 y11 y12 y13 y14 y15) H := hP
      have hD : va_D A (wS52 K cI cJ cZ cB p0 p1 p2 p3 p4 p5 p6 p7 p8 p9 p10 p11 p12 p13 p14 p15 x0_3 x0_4 x0_5 x0_6 x0_7 x0_8 x0_9 x0_10 x0_11 x0_12 x0_13 x0_14 x1_1 x1_2 x1_3 x1_4 x1_5 x1_6 x1_7 x1_8 y2 x3_5 x3_6 y4 y5 y6 y7 y8 x9_6 y10 y11 y12 y13 y14 y15) := hD
      refine lv_if_eq (tgt := 28) hx hb d_A_hasLine_21 (by decide) (fun c4 => ?_) (fun c4 => ?_)
      · refine lv_iconst (v := 0) hx hb d_A_hasLine_28 (by decide) ?_
        exact W.zret (v := (0 : Int32)) hx hb hr rfl (fun t ht hW => ⟨⟨(0 : Int32), (), rfl, ⟨false, rfl⟩, ⟨by show va_P D classes _ t.heap; rw [ht]; exact hP, hD⟩⟩, hS.F ht⟩) hS.2.2 d_A_hasLine_29
      · refine lv_iconst (v := 1) hx hb d_A_hasLine_24 (by decide) ?_
        refine lv_goto (tgt := 29) hx hb d_A_hasLine_25 (by decide) ?_
        exact W.zret (v := (1 : Int32)) hx hb hr rfl (fun t ht hW => ⟨⟨(1 : Int32), (), rfl, ⟨true, rfl⟩, ⟨by show va_P D classes _ t.heap; rw [ht]; exact hP, hD⟩⟩, hS.F ht⟩) hS.2.2 d_A_hasLine_29
theorem v_A_hasLine_s1 {R : Room} {s : State} {args : Array Value} {own : String} {index : Nat} (hk : ∀ w ∈ tb, w.before args s = true) (hl : Cond.methodLink own index y_A_hasLine ∈ tb) (hR : 1 + 1 ≤ R.frames ∧ 8 + (1 + 11) + 20 ≤ R.locals) : CallW R s args own "SignMachine$Assembler" index y_A_hasLine b_A_hasLine 1 (some .boolean) (.code y_A_hasLine b_A_hasLine 1 (some .boolean) :: tb) ({ frames := 1, cells := 0, slots := 0, locals := 20 }) 0 0 0 := mk_v 0 hk k_718 hl k_716 k_717 k_123 rfl rfl h_A_hasLine hR
set_option maxHeartbeats 4000000 in
set_option maxRecDepth 100000 in
theorem c_R_byteAt_s1 (l : Launch) (K : CK) (D : va_G) (cI cJ cZ cB : ClassId) (p0 p1 p2 p3 p4 p5 p6 p7 p8 p9 p10 p11 p12 p13 p14 p15 : Nat) (sz : Nat) (x0_3 : Int32) (x0_4 : Int32) (x0_5 : Int32) (x0_6 : Int32) (x0_7 : Int32) (x0_8 : Bool) (x0_9 : Int64) (x0_10 : Int32) (x0_11 : Option (Fin 51)) (x0_12 : Int32) (x0_13 : Int32) (x0_14 : Int32) (x1_1 : Int32) (x1_2 : Int32) (x1_3 : Int32) (x1_4 : Int32) (x1_5 : Int32) (x1_6 : Int32) (x1_7 : Int64) (x1_8 : Int32) (y2 : Nat → Int32) (x3_5 : Int32) (x3_6 : Int32) (y4 : Nat → Int64) (y5 : Nat → Int32) (y6 : Nat → Int32) (y7 : Nat → Int32) (y8 : Nat → Int32) (x9_6 : Int32) (y10 : Nat → Int32) (y11 : Nat → Int32) (y12 : Nat → Int32) (y13 : Nat → Int32) (y14 : Nat → Int32) (y15 : Nat → Int32)  (a1 : Int32) : Met l y_R_byteAt (.code y_R_byteAt b_R_byteAt 2 (some .int) :: tb) ({ frames := 0, cells := 0, slots := 0, locals := 0 }) (pMC K D cI cJ cZ cB (wS52 K cI cJ cZ cB p0 p1 p2 p3 p4 p5 p6 p7 p8 p9 p10 p11 p12 p13 p14 p15 x0_3 x0_4 x0_5 x0_6 x0_7 x0_8 x0_9 x0_10 x0_11 x0_12 x0_13 x0_14 x1_1 x1_2 x1_3 x1_4 x1_5 x1_6 x1_7 x1_8 y2 x3_5 x3_6 y4 y5 y6 y7 y8 x9_6 y10 y11 y12 y13 y14 y15) sz [.ref p1, .int a1]) (va_Qi (fun r (_ : Unit) => True) (fun _ t => (va_P D classes (wS52 K cI cJ cZ cB p0 p1 p2 p3 p4 p5 p6 p7 p8 p9 p10 p11 p12 p13 p14 p15 x0_3 x0_4 x0_5 x0_6 x0_7 x0_8 x0_9 x0_10 x0_11 x0_12 x0_13 x0_14 x1_1 x1_2 x1_3 x1_4 x1_5 x1_6 x1_7 x1_8 y2 x3_5 x3_6 y4 y5 y6 y7 y8 x9_6 y10 y11 y12 y13 y14 y15) t.heap ∧ va_D (va_A (wS52 K cI cJ cZ cB p0 p1 p2 p3 p4 p5 p6 p7 p8 p9 p10 p11 p12 p13 p14 p15 x0_3 x0_4 x0_5 x0_6 x0_7 x0_8 x0_9 x0_10 x0_11 x0_12 x0_13 x0_14 x1_1 x1_2 x1_3 x1_4 x1_5 x1_6 x1_7 x1_8 y2 x3_5 x3_6 y4 y5 y6 y7 y8 x9_6 y10 y11 y12 y13 y14 y15) sz) (wS52 K cI cJ cZ cB p0 p1 p2 p3 p4 p5 p6 p7 p8 p9 p10 p11 p12 p13 p14 p15 x0_3 x0_4 x0_5 x0_6 x0_7 x0_8 x0_9 x0_10 x0_11 x0_12 x0_13 x0_14 x1_1 x1_2 x1_3 x1_4 x1_5 x1_6 x1_7 x1_8 y2 x3_5 x3_6 y4 y5 y6 y7 y8 x9_6 y10 y11 y12 y13 y14 y15))) (va_A (wS52 K cI cJ cZ cB p0 p1 p2 p3 p4 p5 p6 p7 p8 p9 p10 p11 p12 p13 p14 p15 x0_3 x0_4 x0_5 x0_6 x0_7 x0_8 x0_9 x0_10 x0_11 x0_12 x0_13 x0_14 x1_1 x1_2 x1_3 x1_4 x1_5 x1_6 x1_7 x1_8 y2 x3_5 x3_6 y4 y5 y6 y7 y8 x9_6 y10 y11 y12 y13 y14 y15) sz)) 0 0 (va_A (wS52 K cI cJ cZ cB p0 p1 p2 p3 p4 p5 p6 p7 p8 p9 p10 p11 p12 p13 p14 p15 x0_3 x0_4 x0_5 x0_6 x0_7 x0_8 x0_9 x0_10 x0_11 x0_12 x0_13 x0_14 x1_1 x1_2 x1_3 x1_4 x1_5 x1_6 x1_7 x1_8 y2 x3_5 x3_6 y4 y5 y6 y7 y8 x9_6 y10 y11 y12 y13 y14 y15) sz) := by
  refine Met.ofW (cc := b_R_byteAt) (maxL := 2) (ret := (some .int)) (by decide) rfl ?_
  intro p e s m args below meth c s₁ B hml hv
  obtain ⟨rfl, hsz, hK, hP, hD0, hC⟩ := hv
  subst hsz
  have hD := hD0.self (sz := s.heap.size)
  generalize hAe : va_A (wS52 K cI cJ cZ cB p0 p1 p2 p3 p4 p5 p6 p7 p8 p9 p10 p11 p12 p13 p14 p15 x0_3 x0_4 x0_5 x0_6 x0_7 x0_8 x0_9 x0_10 x0_11 x0_12 x0_13 x0_14 x1_1 x1_2 x1_3 x1_4 x1_5 x1_6 x1_7 x1_8 y2 x3_5 x3_6 y4 y5 y6 y7 y8 x9_6 y10 y11 y12 y13 y14 y15) s.heap.size = A at hD hC ⊢
  have hA : ∀ q : Nat, s.heap.size ≤ q → A q := fun q h => by rw [← hAe]; exact Or.inr h
  clear hAe hD0
  have hS : va_S A s.heap s.heap [] := va_S.rf
  have hx := B.exec
  have hb := B.bytes
  have hr := B.returns
  have hts := atoms_spec (ws := .code y_R_byteAt b_R_byteAt 2 (some .int) :: tb) B.pre
  have hk : ∀ w ∈ tb, w.before [.ref p1, .int a1].toArray s = true := fun w h => hts w (List.mem_cons_of_mem _ h)
  have hown : s.vm.findClass "SignMachine$Source" = some m.cls := findClass_of_methodNamed B.named
  have hlocks := B.notSynchronized
  have hl := lv_entry ([.ref p1, .int a1]) (n := 2) (Nat.le_of_ble_eq_true rfl)
  rw [lg_entry_eq]
  generalize (lg_sl ([.ref p1, .int a1]) ++ List.replicate (2 - (lg_sl ([.ref p1, .int a1])).length) Slot.unset).toArray = ls at hl ⊢
  have hl : lv_has ls 2 [(0, .ref p1), (1, .int a1)] := hl
  refine lv_iload_n hx hb d_R_byteAt_0 rfl (lv_at hl 1 rfl) ?_
  refine lv_if_lt (tgt := 24) hx hb d_R_byteAt_1 (by decide) (fun c1 => ?_) (fun c1 => ?_)
  · refine lv_iconst (v := 0) hx hb d_R_byteAt_24 (by decide) ?_
    exact W.iret (v := (0 : Int32)) hx hb hr (fun t ht hW => ⟨⟨(0 : Int32), (), rfl, trivial, ⟨by show va_P D classes _ t.heap; rw [ht]; exact hP, hD⟩⟩, hS.F ht⟩) hS.2.2 d_R_byteAt_25
  · refine lv_iload_n hx hb d_R_byteAt_4 rfl (lv_at hl 1 rfl) ?_
    refine lv_sipush (v := 4000) hx hb d_R_byteAt_5 (by decide) ?_
    refine lv_icmp_ge (tgt := 24) hx hb d_R_byteAt_8 (by decide) (fun c2 => ?_) (fun c2 => ?_)
    · refine lv_iconst (v := 0) hx hb d_R_byteAt_24 (by decide) ?_
      exact W.iret (v := (0 : Int32)) hx hb hr (fun t ht hW => ⟨⟨(0 : Int32), (), rfl, trivial, ⟨by show va_P D classes _ t.heap; rw [ht]; exact hP, hD⟩⟩, hS.F ht⟩) hS.2.2 d_R_byteAt_25
    · refine lv_aload_n hx hb d_R_byteAt_11 rfl (lv_at hl 0 rfl) ?_
      refine va_get (D := D) (ci := 4) (v := .ref p2) (C := "SignMachine$Source") (T := F_R) (N := 9) hx hb hk fi_R hown hK.1 hP 1 rfl rfl 0 (by decide) (hk _ k_534) (fun _ h9 => h9) rfl d_R_byteAt_12 ?_
      refine lv_iload_n hx hb d_R_byteAt_15 rfl (lv_at hl 1 rfl) ?_
      refine va_bald hx hb hK.1 hP 2 3 rfl rfl (vpin c1 c2 rfl) d_R_byteAt_16 ?_
      refine lv_topi (fun v3 hv3 => ?_)
      refine lv_sipush (v := 255) hx hb d_R_byteAt_17 (by decide) ?_
      refine lv_iand hx hb d_R_byteAt_20 ?_
      refine lv_topi (fun v4 hv4 => ?_)
      refine lv_goto (tgt := 25) hx hb d_R_byteAt_21 (by decide) ?_
      exact W.iret (v := v4) hx hb hr (fun t ht hW => ⟨⟨v4, (), rfl, trivial, ⟨by show va_P D classes _ t.heap; rw [ht]; exact hP, hD⟩⟩, hS.F ht⟩) hS.2.2 d_R_byteAt_25
theorem v_R_byteAt_s1 {R : Room} {s : State} {args : Array Value} {own : String} {index : Nat} (hk : ∀ w ∈ tb, w.before args s = true) (hl : Cond.methodLink own index y_R_byteAt ∈ tb) (hR : 0 + 1 ≤ R.frames ∧ 8 + (2 + 11) + 0 ≤ R.locals) : CallW R s args own "SignMachine$Source" index y_R_byteAt b_R_byteAt 2 (some .int) (.code y_R_byteAt b_R_byteAt 2 (some .int) :: tb) ({ frames := 0, cells := 0, slots := 0, locals := 0 }) 0 0 1 := mk_v 1 hk k_734 hl k_732 k_733 k_124 rfl rfl h_R_byteAt hR
set_option maxHeartbeats 4000000 in
set_option maxRecDepth 100000 in
theorem c_R_nextLine_s1 (l : Launch) (K : CK) (D : va_G) (cI cJ cZ cB : ClassId) (p0 p1 p2 p3 p4 p5 p6 p7 p8 p9 p10 p11 p12 p13 p14 p15 : Nat) (sz : Nat) (x0_3 : Int32) (x0_4 : Int32) (x0_5 : Int32) (x0_6 : Int32) (x0_7 : Int32) (x0_8 : Bool) (x0_9 : Int64) (x0_10 : Int32) (x0_11 : Option (Fin 51)) (x0_12 : Int32) (x0_13 : Int32) (x0_14 : Int32) (x1_1 : Int32) (x1_2 : Int32) (x1_3 : Int32) (x1_4 : Int32) (x1_5 : Int32) (x1_6 : Int32) (x1_7 : Int64) (x1_8 : Int32) (y2 : Nat → Int32) (x3_5 : Int32) (x3_6 : Int32) (y4 : Nat → Int64) (y5 : Nat → Int32) (y6 : Nat → Int32) (y7 : Nat → Int32) (y8 : Nat → Int32) (x9_6 : Int32) (y10 : Nat → Int32) (y11 : Nat → Int32) (y12 : Nat → Int32) (y13 : Nat → Int32) (y14 : Nat → Int32) (y15 : Nat → Int32)   : Met l y_R_nextLine (.code y_R_nextLine b_R_nextLine 2 none :: tb) ({ frames := 1, cells := 0, slots := 0, locals := 21 }) (pMC K D cI cJ cZ cB (wS52 K cI cJ cZ cB p0 p1 p2 p3 p4 p5 p6 p7 p8 p9 p10 p11 p12 p13 p14 p15 x0_3 x0_4 x0_5 x0_6 x0_7 x0_8 x0_9 x0_10 x0_11 x0_12 x0_13 x0_14 x1_1 x1_2 x1_3 x1_4 x1_5 x1_6 x1_7 x1_8 y2 x3_5 x3_6 y4 y5 y6 y7 y8 x9_6 y10 y11 y12 y13 y14 y15) sz [.ref p1]) (va_Qv (fun (_ : Unit) => True) (fun _ t => (∃ u_x1_2 : Int32, ∃ u_x1_3 : Int32, ∃ u_x1_4 : Int32, ∃ u_x1_5 : Int32, va_P D classes (wS52 K cI cJ cZ cB p0 p1 p2 p3 p4 p5 p6 p7 p8 p9 p10 p11 p12 p13 p14 p15 x0_3 x0_4 x0_5 x0_6 x0_7 x0_8 x0_9 x0_10 x0_11 x0_12 x0_13 x0_14 x1_1 u_x1_2 u_x1_3 u_x1_4 u_x1_5 x1_6 x1_7 x1_8 y2 x3_5 x3_6 y4 y5 y6 y7 y8 x9_6 y10 y11 y12 y13 y14 y15) t.heap ∧ va_D (va_A (wS52 K cI cJ cZ cB p0 p1 p2 p3 p4 p5 p6 p7 p8 p9 p10 p11 p12 p13 p14 p15 x0_3 x0_4 x0_5 x0_6 x0_7 x0_8 x0_9 x0_10 x0_11 x0_12 x0_13 x0_14 x1_1 x1_2 x1_3 x1_4 x1_5 x1_6 x1_7 x1_8 y2 x3_5 x3_6 y4 y5 y6 y7 y8 x9_6 y10 y11 y12 y13 y14 y15) sz) (wS52 K cI cJ cZ cB p0 p1 p2 p3 p4 p5 p6 p7 p8 p9 p10 p11 p12 p13 p14 p15 x0_3 x0_4 x0_5 x0_6 x0_7 x0_8 x0_9 x0_10 x0_11 x0_12 x0_13 x0_14 x1_1 u_x1_2 u_x1_3 u_x1_4 u_x1_5 x1_6 x1_7 x1_8 y2 x3_5 x3_6 y4 y5 y6 y7 y8 x9_6 y10 y11 y12 y13 y14 y15))) (va_A (wS52 K cI cJ cZ cB p0 p1 p2 p3 p4 p5 p6 p7 p8 p9 p10 p11 p12 p13 p14 p15 x0_3 x0_4 x0_5 x0_6 x0_7 x0_8 x0_9 x0_10 x0_11 x0_12 x0_13 x0_14 x1_1 x1_2 x1_3 x1_4 x1_5 x1_6 x1_7 x1_8 y2 x3_5 x3_6 y4 y5 y6 y7 y8 x9_6 y10 y11 y12 y13 y14 y15) sz)) 0 0 (va_A (wS52 K cI cJ cZ cB p0 p1 p2 p3 p4 p5 p6 p7 p8 p9 p10 p11 p12 p13 p14 p15 x0_3 x0_4 x0_5 x0_6 x0_7 x0_8 x0_9 x0_10 x0_11 x0_12 x0_13 x0_14 x1_1 x1_2 x1_3 x1_4 x1_5 x1_6 x1_7 x1_8 y2 x3_5 x3_6 y4 y5 y6 y7 y8 x9_6 y10 y11 y12 y13 y14 y15) sz) := by
  refine Met.ofW (cc := b_R_nextLine) (maxL := 2) (ret := none) (by decide) rfl ?_
  intro p e s m args below meth c s₁ B hml hv
  obtain ⟨rfl, hsz, hK, hP, hD0, hC⟩ := hv
  subst hsz
  have hD := hD0.self (sz := s.heap.size)
  generalize hAe : va_A (wS52 K cI cJ cZ cB p0 p1 p2 p3 p4 p5 p6 p7 p8 p9 p10 p11 p12 p13 p14 p15 x0_3 x0_4 x0_5 x0_6 x0_7 x0_8 x0_9 x0_10 x0_11 x0_12 x0_13 x0_14 x1_1 x1_2 x1_3 x1_4 x1_5 x1_6 x1_7 x1_8 y2 x3_5 x3_6 y4 y5 y6 y7 y8 x9_6 y10 y11 y12 y13 y14 y15) s.heap.size = A at hD hC ⊢
  have hA : ∀ q : Nat, s.heap.size ≤ q → A q := fun q h => by rw [← hAe]; exact Or.inr h
  clear hAe hD0
  have hS : va_S A s.heap s.heap [] := va_S.rf
  have hx := B.exec
  have hb := B.bytes
  have hr := B.returns
  have hts := atoms_spec (ws := .code y_R_nextLine b_R_nextLine 2 none :: tb) B.pre
  have hk : ∀ w ∈ tb, w.before [.ref p1].toArray s = true := fun w h => hts w (List.mem_cons_of_mem _ h)
  have hown : s.vm.findClass "SignMachine$Source" = some m.cls := findClass_of_methodNamed B.named
  have hlocks := B.notSynchronized
  have hl := lv_entry ([.ref p1]) (n := 2) (Nat.le_of_ble_eq_true rfl)
  rw [lg_entry_eq]
  generalize (lg_sl ([.ref p1]) ++ List.replicate (2 - (lg_sl ([.ref p1])).length) Slot.unset).toArray = ls at hl ⊢
  have hl : lv_has ls 2 [(0, .ref p1)] := hl
  refine lv_aload_n hx hb d_R_nextLine_0 rfl (lv_at hl 0 rfl) ?_
  refine lv_dup hx hb d_R_nextLine_1 rfl ?_
  refine va_get (D := D) (ci := 4) (v := .int x1_2) (C := "SignMachine$Source") (T := F_R) (N := 9) hx hb hk fi_R hown hK.1 hP 1 rfl rfl 2 (by decide) (hk _ k_538) (fun _ h9 => h9) rfl d_R_nextLine_2 ?_
  refine lv_iconst (v := 1) hx hb d_R_nextLine_5 (by decide) ?_
  refine lv_iadd hx hb d_R_nextLine_6 ?_
  refine lv_topi (fun v1 hv1 => ?_)
  refine va_put (D := D) (ci := 4) (v := .int v1) (ty := .int) (C := "SignMachine$Source") (T := F_R) (N := 9) hx hb hk fi_R ft_R ft_R_ok fn_R hown hK.1 hP hD hS 1 rfl rfl 2 (by decide) (hk _ k_538) (fun _ h9 => h9) rfl (by decide +kernel) rfl rfl (Nat.le_of_ble_eq_true rfl) d_R_nextLine_7 (fun H locs hP hD hS => ?_)
  have hP : va_P D classes (wS52 K cI cJ cZ cB p0 p1 p2 p3 p4 p5 p6 p7 p8 p9 p10 p11 p12 p13 p14 p15 x0_3 x0_4 x0_5 x0_6 x0_7 x0_8 x0_9 x0_10 x0_11 x0_12 x0_13 x0_14 x1_1 v1 x1_3 x1_4 x1_5 x1_6 x1_7 x1_8 y2 x3_5 x3_6 y4 y5 y6 y7 y8 x9_6 y10 y11 y12 y13 y14 y15) H := hP
  have hD : va_D A (wS52 K cI cJ cZ cB p0 p1 p2 p3 p4 p5 p6 p7 p8 p9 p10 p11 p12 p13 p14 p15 x0_3 x0_4 x0_5 x0_6 x0_7 x0_8 x0_9 x0_10 x0_11 x0_12 x0_13 x0_14 x1_1 v1 x1_3 x1_4 x1_5 x1_6 x1_7 x1_8 y2 x3_5 x3_6 y4 y5 y6 y7 y8 x9_6 y10 y11 y12 y13 y14 y15) := hD
  refine lv_aload_n hx hb d_R_nextLine_10 rfl (lv_at hl 0 rfl) ?_
  refine lv_aload_n hx hb d_R_nextLine_11 rfl (lv_at hl 0 rfl) ?_
  refine va_get (D := D) (ci := 4) (v := .int x1_5) (C := "SignMachine$Source") (T := F_R) (N := 9) hx hb hk fi_R hown hK.1 hP 1 rfl rfl 5 (by decide) (hk _ k_543) (fun _ h9 => h9) rfl d_R_nextLine_12 ?_
  refine va_put (D := D) (ci := 4) (v := .int x1_5) (ty := .int) (C := "SignMachine$Source") (T := F_R) (N := 9) hx hb hk fi_R ft_R ft_R_ok fn_R hown hK.1 hP hD hS 1 rfl rfl 3 (by decide) (hk _ k_540) (fun _ h9 => h9) rfl (by decide +kernel) rfl rfl (Nat.le_of_ble_eq_true rfl) d_R_nextLine_15 (fun H locs hP hD hS => ?_)
  have hP : va_P D classes (wS52 K cI cJ cZ cB p0 p1 p2 p3 p4 p5 p6 p7 p8 p9 p10 p11 p12 p13 p14 p15 x0_3 x0_4 x0_5 x0_6 x0_7 x0_8 x0_9 x0_10 x0_11 x0_12 x0_13 x0_14 x1_1 v1 x1_5 x1_4 x1_5 x1_6 x1_7 x1_8 y2 x3_5 x3_6 y4 y5 y6 y7 y8 x9_6 y10 y11 y12 y13 y14 y15) H := hP
  have hD : va_D A (wS52 K cI cJ cZ cB p0 p1 p2 p3 p4 p5 p6 p7 p8 p9 p10 p11 p12 p13 p14 p15 x0_3 x0_4 x0_5 x0_6 x0_7 x0_8 x0_9 x0_10 x0_11 x0_12 x0_13 x0_14 x1_1 v1 x1_5 x1_4 x1_5 x1_6 x1_7 x1_8 y2 x3_5 x3_6 y4 y5 y6 y7 y8 x9_6 y10 y11 y12 y13 y14 y15) := hD
  refine lv_aload_n hx hb d_R_nextLine_18 rfl (lv_at hl 0 rfl) ?_
  refine lv_aload_n hx hb d_R_nextLine_19 rfl (lv_at hl 0 rfl) ?_
  refine va_get (D := D) (ci := 4) (v := .int x1_5) (C := "SignMachine$Source") (T := F_R) (N := 9) hx hb hk fi_R hown hK.1 hP 1 rfl rfl 3 (by decide) (hk _ k_540) (fun _ h9 => h9) rfl d_R_nextLine_20 ?_
  refine va_put (D := D) (ci := 4) (v := .int x1_5) (ty := .int) (C := "SignMachine$Source") (T := F_R) (N := 9) hx hb hk fi_R ft_R ft_R_ok fn_R hown hK.1 hP hD hS 1 rfl rfl 4 (by decide) (hk _ k_542) (fun _ h9 => h9) rfl (by decide +kernel) rfl rfl (Nat.le_of_ble_eq_true rfl) d_R_nextLine_23 (fun H locs hP hD hS => ?_)
  have hP : va_P D classes (wS52 K cI cJ cZ cB p0 p1 p2 p3 p4 p5 p6 p7 p8 p9 p10 p11 p12 p13 p14 p15 x0_3 x0_4 x0_5 x0_6 x0_7 x0_8 x0_9 x0_10 x0_11 x0_12 x0_13 x0_14 x1_1 v1 x1_5 x1_5 x1_5 x1_6 x1_7 x1_8 y2 x3_5 x3_6 y4 y5 y6 y7 y8 x9_6 y10 y11 y12 y13 y14 y15) H := hP
  have hD : va_D A (wS52 K cI cJ cZ cB p0 p1 p2 p3 p4 p5 p6 p7 p8 p9 p10 p11 p12 p13 p14 p15 x0_3 x0_4 x0_5 x0_6 x0_7 x0_8 x0_9 x0_10 x0_11 x0_12 x0_13 x0_14 x1_1 v1 x1_5 x1_5 x1_5 x1_6 x1_7 x1_8 y2 x3_5 x3_6 y4 y5 y6 y7 y8 x9_6 y10 y11 y12 y13 y14 y15) := hD
  refine lv_iconst (v := 0) hx hb d_R_nextLine_26 (by decide) ?_
  refine lv_istore_n (lv' := [(1, .int (0 : Int32)), (0, .ref p1)]) hx hb d_R_nextLine_27 rfl hl (by decide) rfl (fun ls hl => ?_)
  have LP28_52 : ∀ (n : Nat) (l1 : Int32) (x1_2 : Int32) (x1_3 : Int32) (x1_4 : Int32) (x1_5 : Int32) (H : Heap) (locs : List Loc) (ls : Array Slot), (((4000 : Int32)).toInt - (l1).toInt).toNat < n → ¬ l1 < (0 : Int32) → va_P D classes (wS52 K cI cJ cZ cB p0 p1 p2 p3 p4 p5 p6 p7 p8 p9 p10 p11 p12 p13 p14 p15 x0_3 x0_4 x0_5 x0_6 x0_7 x0_8 x0_9 x0_10 x0_11 x0_12 x0_13 x0_14 x1_1 x1_2 x1_3 x1_4 x1_5 x1_6 x1_7 x1_8 y2 x3_5 x3_6 y4 y5 y6 y7 y8 x9_6 y10 y11 y12 y13 y14 y15) H → va_D A (wS52 K cI cJ cZ cB p0 p1 p2 p3 p4 p5 p6 p7 p8 p9 p10 p11 p12 p13 p14 p15 x0_3 x0_4 x0_5 x0_6 x0_7 x0_8 x0_9 x0_10 x0_11 x0_12 x0_13 x0_14 x1_1 x1_2 x1_3 x1_4 x1_5 x1_6 x1_7 x1_8 y2 x3_5 x3_6 y4 y5 y6 y7 y8 x9_6 y10 y11 y12 y13 y14 y15) → va_S A s.heap H locs → lv_has ls 2 [(1, .int l1), (0, .ref p1)] → W p l e ({ frames := 1, cells := 0, slots := 0, locals := 21 }) s m [.ref p1].toArray below meth c H locs 0 0 (MQ below (va_Qv (fun (_ : Unit) => True) (fun _ t => (∃ u_x1_2 : Int32, ∃ u_x1_3 : Int32, ∃ u_x1_4 : Int32, ∃ u_x1_5 : Int32, va_P D classes (wS52 K cI cJ cZ cB p0 p1 p2 p3 p4 p5 p6 p7 p8 p9 p10 p11 p12 p13 p14 p15 x0_3 x0_4 x0_5 x0_6 x0_7 x0_8 x0_9 x0_10 x0_11 x0_12 x0_13 x0_14 x1_1 u_x1_2 u_x1_3 u_x1_4 u_x1_5 x1_6 x1_7 x1_8 y2 x3_5 x3_6 y4 y5 y6 y7 y8 x9_6 y10 y11 y12 y13 y14 y15) t.heap ∧ va_D A (wS52 K cI cJ cZ cB p0 p1 p2 p3 p4 p5 p6 p7 p8 p9 p10 p11 p12 p13 p14 p15 x0_3 x0_4 x0_5 x0_6 x0_7 x0_8 x0_9 x0_10 x0_11 x0_12 x0_13 x0_14 x1_1 u_x1_2 u_x1_3 u_x1_4 u_x1_5 x1_6 x1_7 x1_8 y2 x3_5 x3_6 y4 y5 y6 y7 y8 x9_6 y10 y11 y12 y13 y14 y15))) A) [.ref p1].toArray s 0 0 A) (F0 m 28 ls []) := by
    intro n
    induction n with
    | zero => intro l1 x1_2 x1_3 x1_4 x1_5 H locs ls hn; exact absurd hn (Nat.not_lt_zero _)
    | succ n ih =>
      intro l1 x1_2 x1_3 x1_4 x1_5 H locs ls hn28_52 hc28_52 hP hD hS hl
      refine lv_iload_n hx hb d_R_nextLine_28 rfl (lv_at hl 0 rfl) ?_
      refine lv_sipush (v := 4000) hx hb d_R_nextLine_29 (by decide) ?_
      refine lv_icmp_ge (tgt := 75) hx hb d_R_nextLine_32 (by decide) (fun c2 => ?_) (fun c2 => ?_)
      · refine lv_aload_n hx hb d_R_nextLine_75 rfl (lv_at hl 1 rfl) ?_
        refine lv_aload_n hx hb d_R_nextLine_76 rfl (lv_at hl 1 rfl) ?_
        refine va_get (D := D) (ci := 4) (v := .int x1_4) (C := "SignMachine$Source") (T := F_R) (N := 9) hx hb hk fi_R hown hK.1 hP 1 rfl rfl 4 (by decide) (hk _ k_542) (fun _ h9 => h9) rfl d_R_nextLine_77 ?_
        refine lv_iconst (v := 1) hx hb d_R_nextLine_80 (by decide) ?_
        refine lv_iadd hx hb d_R_nextLine_81 ?_
        refine lv_topi (fun v3 hv3 => ?_)
        refine va_put (D := D) (ci := 4) (v := .int v3) (ty := .int) (C := "SignMachine$Source") (T := F_R) (N := 9) hx hb hk fi_R ft_R ft_R_ok fn_R hown hK.1 hP hD hS 1 rfl rfl 5 (by decide) (hk _ k_543) (fun _ h9 => h9) rfl (by decide +kernel) rfl rfl (Nat.le_of_ble_eq_true rfl) d_R_nextLine_82 (fun H locs hP hD hS => ?_)
        have hP : va_P D classes (wS52 K cI cJ cZ cB p0 p1 p2 p3 p4 p5 p6 p7 p8 p9 p10 p11 p12 p13 p14 p15 x0_3 x0_4 x0_5 x0_6 x0_7 x0_8 x0_9 x0_10 x0_11 x0_12 x0_13 x0_14 x1_1 x1_2 x1_3 x1_4 v3 x1_6 x1_7 x1_8 y2 x3_5 x3_6 y4 y5 y6 y7 y8 x9_6 y10 y11 y12 y13 y14 y15) H := hP
        have hD : va_D A (wS52 K cI cJ cZ cB p0 p1 p2 p3 p4 p5 p6 p7 p8 p9 p10 p11 p12 p13 p14 p15 x0_3 x0_4 x0_5 x0_6 x0_7 x0_8 x0_9 x0_10 x0_11 x0_12 x0_13 x0_14 x1_1 x1_2 x1_3 x1_4 v3 x1_6 x1_7 x1_8 y2 x3_5 x3_6 y4 y5 y6 y7 y8 x9_6 y10 y11 y12 y13 y14 y15) := hD
        exact W.vret hx hb hr (fun t ht hW => ⟨⟨(), rfl, trivial, ⟨x1_2, x1_3, x1_4, v3, by show va_P D classes _ t.heap; rw [ht]; exact hP, hD⟩⟩, hS.F ht⟩) hS.2.2 d_R_nextLine_85
      · refine lv_aload_n hx hb d_R_nextLine_35 rfl (lv_at hl 1 rfl) ?_
        refine va_get (D := D) (ci := 4) (v := .int x1_4) (C := "SignMachine$Source") (T := F_R) (N := 9) hx hb hk fi_R hown hK.1 hP 1 rfl rfl 4 (by decide) (hk _ k_542) (fun _ h9 => h9) rfl d_R_nextLine_36 ?_
        refine lv_aload_n hx hb d_R_nextLine_39 rfl (lv_at hl 1 rfl) ?_
        refine va_get (D := D) (ci := 4) (v := .int x1_1) (C := "SignMachine$Source") (T := F_R) (N := 9) hx hb hk fi_R hown hK.1 hP 1 rfl rfl 1 (by decide) (hk _ k_535) (fun _ h9 => h9) rfl d_R_nextLine_40 ?_
        refine lv_icmp_ge (tgt := 75) hx hb d_R_nextLine_43 (by decide) (fun c4 => ?_) (fun c4 => ?_)
        · refine lv_aload_n hx hb d_R_nextLine_75 rfl (lv_at hl 1 rfl) ?_
          refine lv_aload_n hx hb d_R_nextLine_76 rfl (lv_at hl 1 rfl) ?_
          refine va_get (D := D) (ci := 4) (v := .int x1_4) (C := "SignMachine$Source") (T := F_R) (N := 9) hx hb hk fi_R hown hK.1 hP 1 rfl rfl 4 (by decide) (hk _ k_542) (fun _ h9 => h9) rfl d_R_nextLine_77 ?_
          refine lv_iconst (v := 1) hx hb d_R_nextLine_80 (by decide) ?_
          refine lv_iadd hx hb d_R_nextLine_81 ?_
          refine lv_topi (fun v5 hv5 => ?_)
          refine va_put (D := D) (ci := 4) (v := .int v5) (ty := .int) (C := "SignMachine$Source") (T := F_R) (N := 9) hx hb hk fi_R ft_R ft_R_ok fn_R hown hK.1 hP hD hS 1 rfl rfl 5 (by decide) (hk _ k_543) (fun _ h9 => h9) rfl (by decide +kernel) rfl rfl (Nat.le_of_ble_eq_true rfl) d_R_nextLine_82 (fun H locs hP hD hS => ?_)
          have hP : va_P D classes (wS52 K cI cJ cZ cB p0 p1 p2 p3 p4 p5 p6 p7 p8 p9 p10 p11 p12 p13 p14 p15 x0_3 x0_4 x0_5 x0_6 x0_7 x0_8 x0_9 x0_10 x0_11 x0_12 x0_13 x0_14 x1_1 x1_2 x1_3 x1_4 v5 x1_6 x1_7 x1_8 y2 x3_5 x3_6 y4 y5 y6 y7 y8 x9_6 y10 y11 y12 y13 y14 y15) H := hP
          have hD : va_D A (wS52 K cI cJ cZ cB p0 p1 p2 p3 p4 p5 p6 p7 p8 p9 p10 p11 p12 p13 p14 p15 x0_3 x0_4 x0_5 x0_6 x0_7 x0_8 x0_9 x0_10 x0_11 x0_12 x0_13 x0_14 x1_1 x1_2 x1_3 x1_4 v5 x1_6 x1_7 x1_8 y2 x3_5 x3_6 y4 y5 y6 y7 y8 x9_6 y10 y11 y12 y13 y14 y15) := hD
          exact W.vret hx hb hr (fun t ht hW => ⟨⟨(), rfl, trivial, ⟨x1_2, x1_3, x1_4, v5, by show va_P D classes _ t.heap; rw [ht]; exact hP, hD⟩⟩, hS.F ht⟩) hS.2.2 d_R_nextLine_85
        · refine lv_aload_n hx hb d_R_nextLine_46 rfl (lv_at hl 1 rfl) ?_
          refine lv_aload_n hx hb d_R_nextLine_47 rfl (lv_at hl 1 rfl) ?_
          refine va_get (D := D) (ci := 4) (v := .int x1_4) (C := "SignMachine$Source") (T := F_R) (N := 9) hx hb hk fi_R hown hK.1 hP 1 rfl rfl 4 (by decide) (hk _ k_542) (fun _ h9 => h9) rfl d_R_nextLine_48 ?_
          refine sn_i (va_runV (C := "SignMachine$Source") (As := [.int x1_4]) (rest := []) ⟨hx, hb, hml, hown, hk⟩ (c_R_byteAt_s1 l K D cI cJ cZ cB p0 p1 p2 p3 p4 p5 p6 p7 p8 p9 p10 p11 p12 p13 p14 p15 H.size x0_3 x0_4 x0_5 x0_6 x0_7 x0_8 x0_9 x0_10 x0_11 x0_12 x0_13 x0_14 x1_1 x1_2 x1_3 x1_4 x1_5 x1_6 x1_7 x1_8 y2 x3_5 x3_6 y4 y5 y6 y7 y8 x9_6 y10 y11 y12 y13 y14 y15  x1_4 ) (v_R_byteAt_s1 hk k_731 ⟨Nat.le_of_ble_eq_true rfl, Nat.le_of_ble_eq_true rfl⟩) (pMC_v hK hP hD hC hS hA (ci := 4) (q0 := 1) rfl rfl rfl) rfl rfl hl.1 rfl (lv_room (Nat.le_of_ble_eq_true rfl)) d_R_nextLine_51 ⟨by decide, by decide⟩) hS hA hD (fun rz6 u t H locs hr0 ht hB hFr hS => ?_)
          obtain ⟨hP, hD⟩ := hB
          rw [ht] at hP
          have hD := dwk hD hFr
          clear ht hFr
          have hP : va_P D classes (wS52 K cI cJ cZ cB p0 p1 p2 p3 p4 p5 p6 p7 p8 p9 p10 p11 p12 p13 p14 p15 x0_3 x0_4 x0_5 x0_6 x0_7 x0_8 x0_9 x0_10 x0_11 x0_12 x0_13 x0_14 x1_1 x1_2 x1_3 x1_4 x1_5 x1_6 x1_7 x1_8 y2 x3_5 x3_6 y4 y5 y6 y7 y8 x9_6 y10 y11 y12 y13 y14 y15) H := hP
          have hD : va_D A (wS52 K cI cJ cZ cB p0 p1 p2 p3 p4 p5 p6 p7 p8 p9 p10 p11 p12 p13 p14 p15 x0_3 x0_4 x0_5 x0_6 x0_7 x0_8 x0_9 x0_10 x0_11 x0_12 x0_13 x0_14 x1_1 x1_2 x1_3 x1_4 x1_5 x1_6 x1_7 x1_8 y2 x3_5 x3_6 y4 y5 y6 y7 y8 x9_6 y10 y11 y12 y13 y14 y15) := hD
          refine lv_bipush (v := 10) hx hb d_R_nextLine_54 (by decide) ?_
          refine lv_icmp_eq (tgt := 75) hx hb d_R_nextLine_56 (by decide) (fun c7 => ?_) (fun c7 => ?_)
          · refine lv_aload_n hx hb d_R_nextLine_75 rfl (lv_at hl 1 rfl) ?_
            refine lv_aload_n hx hb d_R_nextLine_76 rfl (lv_at hl 1 rfl) ?_
            refine va_get (D := D) (ci := 4) (v := .int x1_4) (C := "SignMachine$Source") (T := F_R) (N := 9) hx hb hk fi_R hown hK.1 hP 1 rfl rfl 4 (by decide) (hk _ k_542) (fun _ h9 => h9) rfl d_R_nextLine_77 ?_
            refine lv_iconst (v := 1) hx hb d_R_nextLine_80 (by decide) ?_
            refine lv_iadd hx hb d_R_nextLine_81 ?_
            refine lv_topi (fun v8 hv8 => ?_)
            refine va_put (D := D) (ci := 4) (v := .int v8) (ty := .int) (C := "SignMachine$Source") (T := F_R) (N := 9) hx hb hk fi_R ft_R ft_R_ok fn_R hown hK.1 hP hD hS 1 rfl rfl 5 (by decide) (hk _ k_543) (fun _ h9 => h9) rfl (by decide +kernel) rfl rfl (Nat.le_of_ble_eq_true rfl) d_R_nextLine_82 (fun H locs hP hD hS => ?_)
            have hP : va_P D classes (wS52 K cI cJ cZ cB p0 p1 p2 p3 p4 p5 p6 p7 p8 p9 p10 p11 p12 p13 p14 p15 x0_3 x0_4 x0_5 x0_6 x0_7 x0_8 x0_9 x0_10 x0_11 x0_12 x0_13 x0_14 x1_1 x1_2 x1_3 x1_4 v8 x1_6 x1_7 x1_8 y2 x3_5 x3_6 y4 y5 y6 y7 y8 x9_6 y10 y11 y12 y13 y14 y15) H := hP
            have hD : va_D A (wS52 K cI cJ cZ cB p0 p1 p2 p3 p4 p5 p6 p7 p8 p9 p10 p11 p12 p13 p14 p15 x0_3 x0_4 x0_5 x0_6 x0_7 x0_8 x0_9 x0_10 x0_11 x0_12 x0_13 x0_14 x1_1 x1_2 x1_3 x1_4 v8 x1_6 x1_7 x1_8 y2 x3_5 x3_6 y4 y5 y6 y7 y8 x9_6 y10 y11 y12 y13 y14 y15) := hD
            exact W.vret hx hb hr (fun t ht hW => ⟨⟨(), rfl, trivial, ⟨x1_2, x1_3, x1_4, v8, by show va_P D classes _ t.heap; rw [ht]; exact hP, hD⟩⟩, hS.F ht⟩) hS.2.2 d_R_nextLine_85
          · refine lv_aload_n hx hb d_R_nextLine_59 rfl (lv_at hl 1 rfl) ?_
            refine lv_dup hx hb d_R_nextLine_60 rfl ?_
            refine va_get (D := D) (ci := 4) (v := .int x1_4) (C := "SignMachine$Source") (T := F_R) (N := 9) hx hb hk fi_R hown hK.1 hP 1 rfl rfl 4 (by decide) (hk _ k_542) (fun _ h9 => h9) rfl d_R_nextLine_61 ?_
            refine lv_iconst (v := 1) hx hb d_R_nextLine_64 (by decide) ?_
            refine lv_iadd hx hb d_R_nextLine_65 ?_
            refine lv_topi (fun v9 hv9 => ?_)
            refine va_put (D := D) (ci := 4) (v := .int v9) (ty := .int) (C := "SignMachine$Source") (T := F_R) (N := 9) hx hb hk fi_R ft_R ft_R_ok fn_R hown hK.1 hP hD hS 1 rfl rfl 4 (by decide) (hk _ k_542) (fun _ h9 => h9) rfl (by decide +kernel) rfl rfl (Nat.le_of_ble_eq_true rfl) d_R_nextLine_66 (fun H locs hP hD hS => ?_)
            have hP : va_P D classes (wS52 K cI cJ cZ cB p0 p1 p2 p3 p4 p5 p6 p7 p8 p9 p10 p11 p12 p13 p14 p15 x0_3 x0_4 x0_5 x0_6 x0_7 x0_8 x0_9 x0_10 x0_11 x0_12 x0_13 x0_14 x1_1 x1_2 x1_3 v9 x1_5 x1_6 x1_7 x1_8 y2 x3_5 x3_6 y4 y5 y6 y7 y8 x9_6 y10 y11 y12 y13 y14 y15) H := hP
            have hD : va_D A (wS52 K cI cJ cZ cB p0 p1 p2 p3 p4 p5 p6 p7 p8 p9 p10 p11 p12 p13 p14 p15 x0_3 x0_4 x0_5 x0_6 x0_7 x0_8 x0_9 x0_10 x0_11 x0_12 x0_13 x0_14 x1_1 x1_2 x1_3 v9 x1_5 x1_6 x1_7 x1_8 y2 x3_5 x3_6 y4 y5 y6 y7 y8 x9_6 y10 y11 y12 y13 y14 y15) := hD
            obtain ⟨v10, hv10⟩ : ∃ y : Int32, y = (l1 + (1 : Int32)) := ⟨_, rfl⟩
            refine lv_iinc (v := v10) (lv' := [(1, .int v10), (0, .ref p1)]) hx hb d_R_nextLine_69 hl (k := 0) rfl (by rw [hv10]; rfl) (by decide) rfl (fun ls hl => ?_)
            refine lv_goto (tgt := 28) hx hb d_R_nextLine_72 (by decide) ?_
            exact ih v10 x1_2 x1_3 v9 x1_5 H _ ls (lpu c2 hv10 hn28_52) (lpn hc28_52 c2 hv10) hP hD hS (lv_sub hl [0, 1] rfl)
  exact LP28_52 _ (0 : Int32) v1 x1_5 x1_5 x1_5 H _ ls (Nat.lt_succ_self _) (by decide) hP hD hS hl
theorem v_R_nextLine_s1 {R : Room} {s : State} {args : Array Value} {own : String} {index : Nat} (hk : ∀ w ∈ tb, w.before args s = true) (hl : Cond.methodLink own index y_R_nextLine ∈ tb) (hR : 1 + 1 ≤ R.frames ∧ 8 + (2 + 11) + 21 ≤ R.locals) : CallW R s args own "SignMachine$Source" index y_R_nextLine b_R_nextLine 2 none (.code y_R_nextLine b_R_nextLine 2 none :: tb) ({ frames := 1, cells := 0, slots := 0, locals := 21 }) 0 0 0 := mk_v 0 hk k_730 hl k_728 k_729 k_124 rfl rfl h_R_nextLine hR
set_option maxHeartbeats 4000000 in
set_option maxRecDepth 100000 in
theorem c_R_peek_s1 (l : Launch) (K : CK) (D : va_G) (cI cJ cZ cB : ClassId) (p0 p1 p2 p3 p4 p5 p6 p7 p8 p9 p10 p11 p12 p13 p14 p15 : Nat) (sz : Nat) (x0_3 : Int32) (x0_4 : Int32) (x0_5 : Int32) (x0_6 : Int32) (x0_7 : Int32) (x0_8 : Bool) (x0_9 : Int64) (x0_10 : Int32) (x0_11 : Option (Fin 51)) (x0_12 : Int32) (x0_13 : Int32) (x0_14 : Int32) (x1_1 : Int32) (x1_2 : Int32) (x1_3 : Int32) (x1_4 : Int32) (x1_5 : Int32) (x1_6 : Int32) (x1_7 : Int64) (x1_8 : Int32) (y2 : Nat → Int32) (x3_5 : Int32) (x3_6 : Int32) (y4 : Nat → Int64) (y5 : Nat → Int32) (y6 : Nat → Int32) (y7 : Nat → Int32) (y8 : Nat → Int32) (x9_6 : Int32) (y10 : Nat → Int32) (y11 : Nat → Int32) (y12 : Nat → Int32) (y13 : Nat → Int32) (y14 : Nat → Int32) (y15 : Nat → Int32)   : Met l y_R_peek (.code y_R_peek b_R_peek 1 (some .int) :: tb) ({ frames := 0, cells := 0, slots := 0, locals := 0 }) (pMC K D cI cJ cZ cB (wS52 K cI cJ cZ cB p0 p1 p2 p3 p4 p5 p6 p7 p8 p9 p10 p11 p12 p13 p14 p15 x0_3 x0_4 x0_5 x0_6 x0_7 x0_8 x0_9 x0_10 x0_11 x0_12 x0_13 x0_14 x1_1 x1_2 x1_3 x1_4 x1_5 x1_6 x1_7 x1_8 y2 x3_5 x3_6 y4 y5 y6 y7 y8 x9_6 y10 y11 y12 y13 y14 y15) sz [.ref p1]) (va_Qi (fun r (_ : Unit) => True) (fun _ t => (va_P D classes (wS52 K cI cJ cZ cB p0 p1 p2 p3 p4 p5 p6 p7 p8 p9 p10 p11 p12 p13 p14 p15 x0_3 x0_4 x0_5 x0_6 x0_7 x0_8 x0_9 x0_10 x0_11 x0_12 x0_13 x0_14 x1_1 x1_2 x1_3 x1_4 x1_5 x1_6 x1_7 x1_8 y2 x3_5 x3_6 y4 y5 y6 y7 y8 x9_6 y10 y11 y12 y13 y14 y15) t.heap ∧ va_D (va_A (wS52 K cI cJ cZ cB p0 p1 p2 p3 p4 p5 p6 p7 p8 p9 p10 p11 p12 p13 p14 p15 x0_3 x0_4 x0_5 x0_6 x0_7 x0_8 x0_9 x0_10 x0_11 x0_12 x0_13 x0_14 x1_1 x1_2 x1_3 x1_4 x1_5 x1_6 x1_7 x1_8 y2 x3_5 x3_6 y4 y5 y6 y7 y8 x9_6 y10 y11 y12 y13 y14 y15) sz) (wS52 K cI cJ cZ cB p0 p1 p2 p3 p4 p5 p6 p7 p8 p9 p10 p11 p12 p13 p14 p15 x0_3 x0_4 x0_5 x0_6 x0_7 x0_8 x0_9 x0_10 x0_11 x0_12 x0_13 x0_14 x1_1 x1_2 x1_3 x1_4 x1_5 x1_6 x1_7 x1_8 y2 x3_5 x3_6 y4 y5 y6 y7 y8 x9_6 y10 y11 y12 y13 y14 y15))) (va_A (wS52 K cI cJ cZ cB p0 p1 p2 p3 p4 p5 p6 p7 p8 p9 p10 p11 p12 p13 p14 p15 x0_3 x0_4 x0_5 x0_6 x0_7 x0_8 x0_9 x0_10 x0_11 x0_12 x0_13 x0_14 x1_1 x1_2 x1_3 x1_4 x1_5 x1_6 x1_7 x1_8 y2 x3_5 x3_6 y4 y5 y6 y7 y8 x9_6 y10 y11 y12 y13 y14 y15) sz)) 0 0 (va_A (wS52 K cI cJ cZ cB p0 p1 p2 p3 p4 p5 p6 p7 p8 p9 p10 p11 p12 p13 p14 p15 x0_3 x0_4 x0_5 x0_6 x0_7 x0_8 x0_9 x0_10 x0_11 x0_12 x0_13 x0_14 x1_1 x1_2 x1_3 x1_4 x1_5 x1_6 x1_7 x1_8 y2 x3_5 x3_6 y4 y5 y6 y7 y8 x9_6 y10 y11 y12 y13 y14 y15) sz) := by
  refine Met.ofW (cc := b_R_peek) (maxL := 1) (ret := (some .int)) (by decide) rfl ?_
  intro p e s m args below meth c s₁ B hml hv
  obtain ⟨rfl, hsz, hK, hP, hD0, hC⟩ := hv
  subst hsz
  have hD := hD0.self (sz := s.heap.size)
  generalize hAe : va_A (wS52 K cI cJ cZ cB p0 p1 p2 p3 p4 p5 p6 p7 p8 p9 p10 p11 p12 p13 p14 p15 x0_3 x0_4 x0_5 x0_6 x0_7 x0_8 x0_9 x0_10 x0_11 x0_12 x0_13 x0_14 x1_1 x1_2 x1_3 x1_4 x1_5 x1_6 x1_7 x1_8 y2 x3_5 x3_6 y4 y5 y6 y7 y8 x9_6 y10 y11 y12 y13 y14 y15) s.heap.size = A at hD hC ⊢
  have hA : ∀ q : Nat, s.heap.size ≤ q → A q := fun q h => by rw [← hAe]; exact Or.inr h
  clear hAe hD0
  have hS : va_S A s.heap s.heap [] := va_S.rf
  have hx := B.exec
  have hb := B.bytes
  have hr := B.returns
  have hts := atoms_spec (ws := .code y_R_peek b_R_peek 1 (some .int) :: tb) B.pre
  have hk : ∀ w ∈ tb, w.before [.ref p1].toArray s = true := fun w h => hts w (List.mem_cons_of_mem _ h)
  have hown : s.vm.findClass "SignMachine$Source" = some m.cls := findClass_of_methodNamed B.named
  have hlocks := B.notSynchronized
  have hl := lv_entry ([.ref p1]) (n := 1) (Nat.le_of_ble_eq_true rfl)
  rw [lg_entry_eq]
  generalize (lg_sl ([.ref p1]) ++ List.replicate (1 - (lg_sl ([.ref p1])).length) Slot.unset).toArray = ls at hl ⊢
  have hl : lv_has ls 1 [(0, .ref p1)] := hl
  refine lv_aload_n hx hb d_R_peek_0 rfl (lv_at hl 0 rfl) ?_
  refine va_get (D := D) (ci := 4) (v := .int x1_3) (C := "SignMachine$Source") (T := F_R) (N := 9) hx hb hk fi_R hown hK.1 hP 1 rfl rfl 3 (by decide) (hk _ k_540) (fun _ h9 => h9) rfl d_R_peek_1 ?_
  refine lv_if_lt (tgt := 44) hx hb d_R_peek_4 (by decide) (fun c1 => ?_) (fun c1 => ?_)
  · refine lv_iconst (v := (-1)) hx hb d_R_peek_44 (by decide) ?_
    exact W.iret (v := (-1 : Int32)) hx hb hr (fun t ht hW => ⟨⟨(-1 : Int32), (), rfl, trivial, ⟨by show va_P D classes _ t.heap; rw [ht]; exact hP, hD⟩⟩, hS.F ht⟩) hS.2.2 d_R_peek_45
  · refine lv_aload_n hx hb d_R_peek_7 rfl (lv_at hl 0 rfl) ?_
    refine va_get (D := D) (ci := 4) (v := .int x1_3) (C := "SignMachine$Source") (T := F_R) (N := 9) hx hb hk fi_R hown hK.1 hP 1 rfl rfl 3 (by decide) (hk _ k_540) (fun _ h9 => h9) rfl d_R_peek_8 ?_
    refine lv_aload_n hx hb d_R_peek_11 rfl (lv_at hl 0 rfl) ?_
    refine va_get (D := D) (ci := 4) (v := .int x1_4) (C := "SignMachine$Source") (T := F_R) (N := 9) hx hb hk fi_R hown hK.1 hP 1 rfl rfl 4 (by decide) (hk _ k_542) (fun _ h9 => h9) rfl d_R_peek_12 ?_
    refine lv_icmp_ge (tgt := 44) hx hb d_R_peek_15 (by decide) (fun c2 => ?_) (fun c2 => ?_)
    · refine lv_iconst (v := (-1)) hx hb d_R_peek_44 (by decide) ?_
      exact W.iret (v := (-1 : Int32)) hx hb hr (fun t ht hW => ⟨⟨(-1 : Int32), (), rfl, trivial, ⟨by show va_P D classes _ t.heap; rw [ht]; exact hP, hD⟩⟩, hS.F ht⟩) hS.2.2 d_R_peek_45
    · refine lv_aload_n hx hb d_R_peek_18 rfl (lv_at hl 0 rfl) ?_
      refine va_get (D := D) (ci := 4) (v := .int x1_3) (C := "SignMachine$Source") (T := F_R) (N := 9) hx hb hk fi_R hown hK.1 hP 1 rfl rfl 3 (by decide) (hk _ k_540) (fun _ h9 => h9) rfl d_R_peek_19 ?_
      refine lv_sipush (v := 4000) hx hb d_R_peek_22 (by decide) ?_
      refine lv_icmp_ge (tgt := 44) hx hb d_R_peek_25 (by decide) (fun c3 => ?_) (fun c3 => ?_)
      · refine lv_iconst (v := (-1)) hx hb d_R_peek_44 (by decide) ?_
        exact W.iret (v := (-1 : Int32)) hx hb hr (fun t ht hW => ⟨⟨(-1 : Int32), (), rfl, trivial, ⟨by show va_P D classes _ t.heap; rw [ht]; exact hP, hD⟩⟩, hS.F ht⟩) hS.2.2 d_R_peek_45
      · refine lv_aload_n hx hb d_R_peek_28 rfl (lv_at hl 0 rfl) ?_
        refine va_get (D := D) (ci := 4) (v := .ref p2) (C := "SignMachine$Source") (T := F_R) (N := 9) hx hb hk fi_R hown hK.1 hP 1 rfl rfl 0 (by decide) (hk _ k_534) (fun _ h9 => h9) rfl d_R_peek_29 ?_
        refine lv_aload_n hx hb d_R_peek_32 rfl (lv_at hl 0 rfl) ?_
        refine va_get (D := D) (ci := 4) (v := .int x1_3) (C := "SignMachine$Source") (T := F_R) (N := 9) hx hb hk fi_R hown hK.1 hP 1 rfl rfl 3 (by decide) (hk _ k_540) (fun _ h9 => h9) rfl d_R_peek_33 ?_
        refine va_bald hx hb hK.1 hP 2 3 rfl rfl (vpin c1 c3 rfl) d_R_peek_36 ?_
        refine lv_topi (fun v4 hv4 => ?_)
        refine lv_sipush (v := 255) hx hb d_R_peek_37 (by decide) ?_
        refine lv_iand hx hb d_R_peek_40 ?_
        refine lv_topi (fun v5 hv5 => ?_)
        refine lv_goto (tgt := 45) hx hb d_R_peek_41 (by decide) ?_
        exact W.iret (v := v5) hx hb hr (fun t ht hW => ⟨⟨v5, (), rfl, trivial, ⟨by show va_P D classes _ t.heap; rw [ht]; exact hP, hD⟩⟩, hS.F ht⟩) hS.2.2 d_R_peek_45
theorem v_R_peek_s1 {R : Room} {s : State} {args : Array Value} {own : String} {index : Nat} (hk : ∀ w ∈ tb, w.before args s = true) (hl : Cond.methodLink own index y_R_peek ∈ tb) (hR : 0 + 1 ≤ R.frames ∧ 8 + (1 + 11) + 0 ≤ R.locals) : CallW R s args own "SignMachine$Source" index y_R_peek b_R_peek 1 (some .int) (.code y_R_peek b_R_peek 1 (some .int) :: tb) ({ frames := 0, cells := 0, slots := 0, locals := 0 }) 0 0 0 := mk_v 0 hk k_742 hl k_740 k_741 k_124 rfl rfl h_R_peek hR

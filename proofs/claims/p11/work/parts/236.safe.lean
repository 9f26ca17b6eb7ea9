set_option maxHeartbeats 4000000 in
set_option maxRecDepth 100000 in
theorem c_R_skipBlanks_s1 (l : Launch) (K : CK) (D : va_G) (cI cJ cZ cB : ClassId) (p0 p1 p2 p3 p4 p5 p6 p7 p8 p9 p10 p11 p12 p13 p14 p15 : Nat) (sz : Nat) (x0_3 : Int32) (x0_4 : Int32) (x0_5 : Int32) (x0_6 : Int32) (x0_7 : Int32) (x0_8 : Bool) (x0_9 : Int64) (x0_10 : Int32) (x0_11 : Option (Fin 51)) (x0_12 : Int32) (x0_13 : Int32) (x0_14 : Int32) (x1_1 : Int32) (x1_2 : Int32) (x1_3 : Int32) (x1_4 : Int32) (x1_5 : Int32) (x1_6 : Int32) (x1_7 : Int64) (x1_8 : Int32) (y2 : Nat → Int32) (x3_5 : Int32) (x3_6 : Int32) (y4 : Nat → Int64) (y5 : Nat → Int32) (y6 : Nat → Int32) (y7 : Nat → Int32) (y8 : Nat → Int32) (x9_6 : Int32) (y10 : Nat → Int32) (y11 : Nat → Int32) (y12 : Nat → Int32) (y13 : Nat → Int32) (y14 : Nat → Int32) (y15 : Nat → Int32)   : Met l y_R_skipBlanks (.code y_R_skipBlanks b_R_skipBlanks 2 none :: tb) ({ frames := 1, cells := 0, slots := 0, locals := 20 }) (pMC K D cI cJ cZ cB (wS52 K cI cJ cZ cB p0 p1 p2 p3 p4 p5 p6 p7 p8 p9 p10 p11 p12 p13 p14 p15 x0_3 x0_4 x0_5 x0_6 x0_7 x0_8 x0_9 x0_10 x0_11 x0_12 x0_13 x0_14 x1_1 x1_2 x1_3 x1_4 x1_5 x1_6 x1_7 x1_8 y2 x3_5 x3_6 y4 y5 y6 y7 y8 x9_6 y10 y11 y12 y13 y14 y15) sz [.ref p1]) (va_Qv (fun (_ : Unit) => True) (fun _ t => (∃ u_x1_3 : Int32, va_P D classes (wS52 K cI cJ cZ cB p0 p1 p2 p3 p4 p5 p6 p7 p8 p9 p10 p11 p12 p13 p14 p15 x0_3 x0_4 x0_5 x0_6 x0_7 x0_8 x0_9 x0_10 x0_11 x0_12 x0_13 x0_14 x1_1 x1_2 u_x1_3 x1_4 x1_5 x1_6 x1_7 x1_8 y2 x3_5 x3_6 y4 y5 y6 y7 y8 x9_6 y10 y11 y12 y13 y14 y15) t.heap ∧ va_D (va_A (wS52 K cI cJ cZ cB p0 p1 p2 p3 p4 p5 p6 p7 p8 p9 p10 p11 p12 p13 p14 p15 x0_3 x0_4 x0_5 x0_6 x0_7 x0_8 x0_9 x0_10 x0_11 x0_12 x0_13 x0_14 x1_1 x1_2 x1_3 x1_4 x1_5 x1_6 x1_7 x1_8 y2 x3_5 x3_6 y4 y5 y6 y7 y8 x9_6 y10 y11 y12 y13 y14 y15) sz) (wS52 K cI cJ cZ cB p0 p1 p2 p3 p4 p5 p6 p7 p8 p9 p10 p11 p12 p13 p14 p15 x0_3 x0_4 x0_5 x0_6 x0_7 x0_8 x0_9 x0_10 x0_11 x0_12 x0_13 x0_14 x1_1 x1_2 u_x1_3 x1_4 x1_5 x1_6 x1_7 x1_8 y2 x3_5 x3_6 y4 y5 y6 y7 y8 x9_6 y10 y11 y12 y13 y14 y15))) (va_A (wS52 K cI cJ cZ cB p0 p1 p2 p3 p4 p5 p6 p7 p8 p9 p10 p11 p12 p13 p14 p15 x0_3 x0_4 x0_5 x0_6 x0_7 x0_8 x0_9 x0_10 x0_11 x0_12 x0_13 x0_14 x1_1 x1_2 x1_3 x1_4 x1_5 x1_6 x1_7 x1_8 y2 x3_5 x3_6 y4 y5 y6 y7 y8 x9_6 y10 y11 y12 y13 y14 y15) sz)) 0 0 (va_A (wS52 K cI cJ cZ cB p0 p1 p2 p3 p4 p5 p6 p7 p8 p9 p10 p11 p12 p13 p14 p15 x0_3 x0_4 x0_5 x0_6 x0_7 x0_8 x0_9 x0_10 x0_11 x0_12 x0_13 x0_14 x1_1 x1_2 x1_3 x1_4 x1_5 x1_6 x1_7 x1_8 y2 x3_5 x3_6 y4 y5 y6 y7 y8 x9_6 y10 y11 y12 y13 y14 y15) sz) := by
  refine Met.ofW (cc := b_R_skipBlanks) (maxL := 2) (ret := none) (by decide) rfl ?_
  intro p e s m args below meth c s₁ B hml hv
  obtain ⟨rfl, hsz, hK, hP, hD0, hC⟩ := hv
  subst hsz
  have hD := hD0.self (sz := s.heap.size)
  generalize hAe : va_A (wS52 K cI cJ cZ cB p0 p1 p2 p3 p4 p5 p6 p7 p8 p9 p10 p11 p12 p13 p14 p15 x0_3 x0_4 x0_5 x0_6 x0_7 x0_8 x0_9 x0_10 x0_11 x0_12 x0_13 x0_14 x1_1 x1_2 x1_3 x1_4 x1_5 x1_6 x1_7 x1_8 y2 x3_5 x3_6 y4 y5 y6 y7 y8 x9_6 y10 y11 y12 y13 y14 y15) s.heap.size = A at hD hC ⊢
  have hA : ∀ q : Nat, s.heap.size ≤ q → A q := fun q h => by rw [← hAe]; exact Or.inr h
  clear hAe hD0
  have hS : va_S A s.heap s.heap [] := va_S.rf
  have hx := B.exec
  have hb := B.bytes
  have hr := B.returns
  have hts := atoms_spec (ws := .code y_R_skipBlanks b_R_skipBlanks 2 none :: tb) B.pre
  have hk : ∀ w ∈ tb, w.before [.ref p1].toArray s = true := fun w h => hts w (List.mem_cons_of_mem _ h)
  have hown : s.vm.findClass "SignMachine$Source" = some m.cls := findClass_of_methodNamed B.named
  have hlocks := B.notSynchronized
  have hl := lv_entry ([.ref p1]) (n := 2) (Nat.le_of_ble_eq_true rfl)
  rw [lg_entry_eq]
  generalize (lg_sl ([.ref p1]) ++ List.replicate (2 - (lg_sl ([.ref p1])).length) Slot.unset).toArray = ls at hl ⊢
  have hl : lv_has ls 2 [(0, .ref p1)] := hl
  refine lv_iconst (v := 0) hx hb d_R_skipBlanks_0 (by decide) ?_
  refine lv_istore_n (lv' := [(1, .int (0 : Int32)), (0, .ref p1)]) hx hb d_R_skipBlanks_1 rfl hl (by decide) rfl (fun ls hl => ?_)
  have LP2_52 : ∀ (n : Nat) (l1 : Int32) (x1_3 : Int32) (H : Heap) (locs : List Loc) (ls : Array Slot), (((4000 : Int32)).toInt - (l1).toInt).toNat < n → ¬ l1 < (0 : Int32) → va_P D classes (wS52 K cI cJ cZ cB p0 p1 p2 p3 p4 p5 p6 p7 p8 p9 p10 p11 p12 p13 p14 p15 x0_3 x0_4 x0_5 x0_6 x0_7 x0_8 x0_9 x0_10 x0_11 x0_12 x0_13 x0_14 x1_1 x1_2 x1_3 x1_4 x1_5 x1_6 x1_7 x1_8 y2 x3_5 x3_6 y4 y5 y6 y7 y8 x9_6 y10 y11 y12 y13 y14 y15) H → va_D A (wS52 K cI cJ cZ cB p0 p1 p2 p3 p4 p5 p6 p7 p8 p9 p10 p11 p12 p13 p14 p15 x0_3 x0_4 x0_5 x0_6 x0_7 x0_8 x0_9 x0_10 x0_11 x0_12 x0_13 x0_14 x1_1 x1_2 x1_3 x1_4 x1_5 x1_6 x1_7 x1_8 y2 x3_5 x3_6 y4 y5 y6 y7 y8 x9_6 y10 y11 y12 y13 y14 y15) → va_S A s.heap H locs → lv_has ls 2 [(1, .int l1), (0, .ref p1)] → W p l e ({ frames := 1, cells := 0, slots := 0, locals := 20 }) s m [.ref p1].toArray below meth c H locs 0 0 (MQ below (va_Qv (fun (_ : Unit) => True) (fun _ t => (∃ u_x1_3 : Int32, va_P D classes (wS52 K cI cJ cZ cB p0 p1 p2 p3 p4 p5 p6 p7 p8 p9 p10 p11 p12 p13 p14 p15 x0_3 x0_4 x0_5 x0_6 x0_7 x0_8 x0_9 x0_10 x0_11 x0_12 x0_13 x0_14 x1_1 x1_2 u_x1_3 x1_4 x1_5 x1_6 x1_7 x1_8 y2 x3_5 x3_6 y4 y5 y6 y7 y8 x9_6 y10 y11 y12 y13 y14 y15) t.heap ∧ va_D A (wS52 K cI cJ cZ cB p0 p1 p2 p3 p4 p5 p6 p7 p8 p9 p10 p11 p12 p13 p14 p15 x0_3 x0_4 x0_5 x0_6 x0_7 x0_8 x0_9 x0_10 x0_11 x0_12 x0_13 x0_14 x1_1 x1_2 u_x1_3 x1_4 x1_5 x1_6 x1_7 x1_8 y2 x3_5 x3_6 y4 y5 y6 y7 y8 x9_6 y10 y11 y12 y13 y14 y15))) A) [.ref p1].toArray s 0 0 A) (F0 m 2 ls []) := by
    intro n
    induction n with
    | zero => intro l1 x1_3 H locs ls hn; exact absurd hn (Nat.not_lt_zero _)
    | succ n ih =>
      intro l1 x1_3 H locs ls hn2_52 hc2_52 hP hD hS hl
      refine lv_iload_n hx hb d_R_skipBlanks_2 rfl (lv_at hl 0 rfl) ?_
      refine lv_sipush (v := 4000) hx hb d_R_skipBlanks_3 (by decide) ?_
      refine lv_icmp_ge (tgt := 34) hx hb d_R_skipBlanks_6 (by decide) (fun c1 => ?_) (fun c1 => ?_)
      · exact W.vret hx hb hr (fun t ht hW => ⟨⟨(), rfl, trivial, ⟨x1_3, by show va_P D classes _ t.heap; rw [ht]; exact hP, hD⟩⟩, hS.F ht⟩) hS.2.2 d_R_skipBlanks_34
      · refine lv_aload_n hx hb d_R_skipBlanks_9 rfl (lv_at hl 1 rfl) ?_
        refine sn_i (va_runV (C := "SignMachine$Source") (As := []) (rest := []) ⟨hx, hb, hml, hown, hk⟩ (c_R_peek_s1 l K D cI cJ cZ cB p0 p1 p2 p3 p4 p5 p6 p7 p8 p9 p10 p11 p12 p13 p14 p15 H.size x0_3 x0_4 x0_5 x0_6 x0_7 x0_8 x0_9 x0_10 x0_11 x0_12 x0_13 x0_14 x1_1 x1_2 x1_3 x1_4 x1_5 x1_6 x1_7 x1_8 y2 x3_5 x3_6 y4 y5 y6 y7 y8 x9_6 y10 y11 y12 y13 y14 y15   ) (v_R_peek_s1 hk k_747 ⟨Nat.le_of_ble_eq_true rfl, Nat.le_of_ble_eq_true rfl⟩) (pMC_v hK hP hD hC hS hA (ci := 4) (q0 := 1) rfl rfl rfl) rfl rfl hl.1 rfl (lv_room (Nat.le_of_ble_eq_true rfl)) d_R_skipBlanks_10 ⟨by decide, by decide⟩) hS hA hD (fun rz2 u t H locs hr0 ht hB hFr hS => ?_)
        obtain ⟨hP, hD⟩ := hB
        rw [ht] at hP
        have hD := dwk hD hFr
        clear ht hFr
        have hP : va_P D classes (wS52 K cI cJ cZ cB p0 p1 p2 p3 p4 p5 p6 p7 p8 p9 p10 p11 p12 p13 p14 p15 x0_3 x0_4 x0_5 x0_6 x0_7 x0_8 x0_9 x0_10 x0_11 x0_12 x0_13 x0_14 x1_1 x1_2 x1_3 x1_4 x1_5 x1_6 x1_7 x1_8 y2 x3_5 x3_6 y4 y5 y6 y7 y8 x9_6 y10 y11 y12 y13 y14 y15) H := hP
        have hD : va_D A (wS52 K cI cJ cZ cB p0 p1 p2 p3 p4 p5 p6 p7 p8 p9 p10 p11 p12 p13 p14 p15 x0_3 x0_4 x0_5 x0_6 x0_7 x0_8 x0_9 x0_10 x0_11 x0_12 x0_13 x0_14 x1_1 x1_2 x1_3 x1_4 x1_5 x1_6 x1_7 x1_8 y2 x3_5 x3_6 y4 y5 y6 y7 y8 x9_6 y10 y11 y12 y13 y14 y15) := hD
        refine lv_bipush (v := 32) hx hb d_R_skipBlanks_13 (by decide) ?_
        refine lv_icmp_ne (tgt := 34) hx hb d_R_skipBlanks_15 (by decide) (fun c3 => ?_) (fun c3 => ?_)
        · exact W.vret hx hb hr (fun t ht hW => ⟨⟨(), rfl, trivial, ⟨x1_3, by show va_P D classes _ t.heap; rw [ht]; exact hP, hD⟩⟩, hS.F ht⟩) hS.2.2 d_R_skipBlanks_34
        · refine lv_aload_n hx hb d_R_skipBlanks_18 rfl (lv_at hl 1 rfl) ?_
          refine lv_dup hx hb d_R_skipBlanks_19 rfl ?_
          refine va_get (D := D) (ci := 4) (v := .int x1_3) (C := "SignMachine$Source") (T := F_R) (N := 9) hx hb hk fi_R hown hK.1 hP 1 rfl rfl 3 (by decide) (hk _ k_540) (fun _ h9 => h9) rfl d_R_skipBlanks_20 ?_
          refine lv_iconst (v := 1) hx hb d_R_skipBlanks_23 (by decide) ?_
          refine lv_iadd hx hb d_R_skipBlanks_24 ?_
          refine lv_topi (fun v4 hv4 => ?_)
          refine va_put (D := D) (ci := 4) (v := .int v4) (ty := .int) (C := "SignMachine$Source") (T := F_R) (N := 9) hx hb hk fi_R ft_R ft_R_ok fn_R hown hK.1 hP hD hS 1 rfl rfl 3 (by decide) (hk _ k_540) (fun _ h9 => h9) rfl (by decide +kernel) rfl rfl (Nat.le_of_ble_eq_true rfl) d_R_skipBlanks_25 (fun H locs hP hD hS => ?_)
          have hP : va_P D classes (wS52 K cI cJ cZ cB p0 p1 p2 p3 p4 p5 p6 p7 p8 p9 p10 p11 p12 p13 p14 p15 x0_3 x0_4 x0_5 x0_6 x0_7 x0_8 x0_9 x0_10 x0_11 x0_12 x0_13 x0_14 x1_1 x1_2 v4 x1_4 x1_5 x1_6 x1_7 x1_8 y2 x3_5 x3_6 y4 y5 y6 y7 y8 x9_6 y10 y11 y12 y13 y14 y15) H := hP
          have hD : va_D A (wS52 K cI cJ cZ cB p0 p1 p2 p3 p4 p5 p6 p7 p8 p9 p10 p11 p12 p13 p14 p15 x0_3 x0_4 x0_5 x0_6 x0_7 x0_8 x0_9 x0_10 x0_11 x0_12 x0_13 x0_14 x1_1 x1_2 v4 x1_4 x1_5 x1_6 x1_7 x1_8 y2 x3_5 x3_6 y4 y5 y6 y7 y8 x9_6 y10 y11 y12 y13 y14 y15) := hD
          obtain ⟨v5, hv5⟩ : ∃ y : Int32, y = (l1 + (1 : Int32)) := ⟨_, rfl⟩
          refine lv_iinc (v := v5) (lv' := [(1, .int v5), (0, .ref p1)]) hx hb d_R_skipBlanks_28 hl (k := 0) rfl (by rw [hv5]; rfl) (by decide) rfl (fun ls hl => ?_)
          refine lv_goto (tgt := 2) hx hb d_R_skipBlanks_31 (by decide) ?_
          exact ih v5 v4 H _ ls (lpu c1 hv5 hn2_52) (lpn hc2_52 c1 hv5) hP hD hS (lv_sub hl [0, 1] rfl)
  exact LP2_52 _ (0 : Int32) x1_3 s.heap _ ls (Nat.lt_succ_self _) (by decide) hP hD hS hl
theorem v_R_skipBlanks_s1 {R : Room} {s : State} {args : Array Value} {own : String} {index : Nat} (hk : ∀ w ∈ tb, w.before args s = true) (hl : Cond.methodLink own index y_R_skipBlanks ∈ tb) (hR : 1 + 1 ≤ R.frames ∧ 8 + (2 + 11) + 20 ≤ R.locals) : CallW R s args own "SignMachine$Source" index y_R_skipBlanks b_R_skipBlanks 2 none (.code y_R_skipBlanks b_R_skipBlanks 2 none :: tb) ({ frames := 1, cells := 0, slots := 0, locals := 20 }) 0 0 0 := mk_v 0 hk k_746 hl k_744 k_745 k_124 rfl rfl h_R_skipBlanks hR
set_option maxHeartbeats 4000000 in
set_option maxRecDepth 100000 in
theorem c_A_isNothing_s1 (l : Launch) (K : CK) (D : va_G) (cI cJ cZ cB : ClassId) (p0 p1 p2 p3 p4 p5 p6 p7 p8 p9 p10 p11 p12 p13 p14 p15 : Nat) (sz : Nat) (x0_3 : Int32) (x0_4 : Int32) (x0_5 : Int32) (x0_6 : Int32) (x0_7 : Int32) (x0_8 : Bool) (x0_9 : Int64) (x0_10 : Int32) (x0_11 : Option (Fin 51)) (x0_12 : Int32) (x0_13 : Int32) (x0_14 : Int32) (x1_1 : Int32) (x1_2 : Int32) (x1_3 : Int32) (x1_4 : Int32) (x1_5 : Int32) (x1_6 : Int32) (x1_7 : Int64) (x1_8 : Int32) (y2 : Nat → Int32) (x3_5 : Int32) (x3_6 : Int32) (y4 : Nat → Int64) (y5 : Nat → Int32) (y6 : Nat → Int32) (y7 : Nat → Int32) (y8 : Nat → Int32) (x9_6 : Int32) (y10 : Nat → Int32) (y11 : Nat → Int32) (y12 : Nat → Int32) (y13 : Nat → Int32) (y14 : Nat → Int32) (y15 : Nat → Int32)   : Met l y_A_isNothing (.code y_A_isNothing b_A_isNothing 3 (some .boolean) :: tb) ({ frames := 2, cells := 0, slots := 0, locals := 41 }) (pMC K D cI cJ cZ cB (wS52 K cI cJ cZ cB p0 p1 p2 p3 p4 p5 p6 p7 p8 p9 p10 p11 p12 p13 p14 p15 x0_3 x0_4 x0_5 x0_6 x0_7 x0_8 x0_9 x0_10 x0_11 x0_12 x0_13 x0_14 x1_1 x1_2 x1_3 x1_4 x1_5 x1_6 x1_7 x1_8 y2 x3_5 x3_6 y4 y5 y6 y7 y8 x9_6 y10 y11 y12 y13 y14 y15) sz [.ref p0]) (va_Qi (fun r (_ : Unit) => ∃ z : Bool, r = bI z) (fun _ t => (∃ u_x1_3 : Int32, va_P D classes (wS52 K cI cJ cZ cB p0 p1 p2 p3 p4 p5 p6 p7 p8 p9 p10 p11 p12 p13 p14 p15 x0_3 x0_4 x0_5 x0_6 x0_7 x0_8 x0_9 x0_10 x0_11 x0_12 x0_13 x0_14 x1_1 x1_2 u_x1_3 x1_4 x1_5 x1_6 x1_7 x1_8 y2 x3_5 x3_6 y4 y5 y6 y7 y8 x9_6 y10 y11 y12 y13 y14 y15) t.heap ∧ va_D (va_A (wS52 K cI cJ cZ cB p0 p1 p2 p3 p4 p5 p6 p7 p8 p9 p10 p11 p12 p13 p14 p15 x0_3 x0_4 x0_5 x0_6 x0_7 x0_8 x0_9 x0_10 x0_11 x0_12 x0_13 x0_14 x1_1 x1_2 x1_3 x1_4 x1_5 x1_6 x1_7 x1_8 y2 x3_5 x3_6 y4 y5 y6 y7 y8 x9_6 y10 y11 y12 y13 y14 y15) sz) (wS52 K cI cJ cZ cB p0 p1 p2 p3 p4 p5 p6 p7 p8 p9 p10 p11 p12 p13 p14 p15 x0_3 x0_4 x0_5 x0_6 x0_7 x0_8 x0_9 x0_10 x0_11 x0_12 x0_13 x0_14 x1_1 x1_2 u_x1_3 x1_4 x1_5 x1_6 x1_7 x1_8 y2 x3_5 x3_6 y4 y5 y6 y7 y8 x9_6 y10 y11 y12 y13 y14 y15))) (va_A (wS52 K cI cJ cZ cB p0 p1 p2 p3 p4 p5 p6 p7 p8 p9 p10 p11 p12 p13 p14 p15 x0_3 x0_4 x0_5 x0_6 x0_7 x0_8 x0_9 x0_10 x0_11 x0_12 x0_13 x0_14 x1_1 x1_2 x1_3 x1_4 x1_5 x1_6 x1_7 x1_8 y2 x3_5 x3_6 y4 y5 y6 y7 y8 x9_6 y10 y11 y12 y13 y14 y15) sz)) 0 0 (va_A (wS52 K cI cJ cZ cB p0 p1 p2 p3 p4 p5 p6 p7 p8 p9 p10 p11 p12 p13 p14 p15 x0_3 x0_4 x0_5 x0_6 x0_7 x0_8 x0_9 x0_10 x0_11 x0_12 x0_13 x0_14 x1_1 x1_2 x1_3 x1_4 x1_5 x1_6 x1_7 x1_8 y2 x3_5 x3_6 y4 y5 y6 y7 y8 x9_6 y10 y11 y12 y13 y14 y15) sz) := by
  refine Met.ofW (cc := b_A_isNothing) (maxL := 3) (ret := (some .boolean)) (by decide) rfl ?_
  intro p e s m args below meth c s₁ B hml hv
  obtain ⟨rfl, hsz, hK, hP, hD0, hC⟩ := hv
  subst hsz
  have hD := hD0.self (sz := s.heap.size)
  generalize hAe : va_A (wS52 K cI cJ cZ cB p0 p1 p2 p3 p4 p5 p6 p7 p8 p9 p10 p11 p12 p13 p14 p15 x0_3 x0_4 x0_5 x0_6 x0_7 x0_8 x0_9 x0_10 x0_11 x0_12 x0_13 x0_14 x1_1 x1_2 x1_3 x1_4 x1_5 x1_6 x1_7 x1_8 y2 x3_5 x3_6 y4 y5 y6 y7 y8 x9_6 y10 y11 y12 y13 y14 y15) s.heap.size = A at hD hC ⊢
  have hA : ∀ q : Nat, s.heap.size ≤ q → A q := fun q h => by rw [← hAe]; exact Or.inr h
  clear hAe hD0
  have hS : va_S A s.heap s.heap [] := va_S.rf
  have hx := B.exec
  have hb := B.bytes
  have hr := B.returns
  have hts := atoms_spec (ws := .code y_A_isNothing b_A_isNothing 3 (some .boolean) :: tb) B.pre
  have hk : ∀ w ∈ tb, w.before [.ref p0].toArray s = true := fun w h => hts w (List.mem_cons_of_mem _ h)
  have hown : s.vm.findClass "SignMachine$Assembler" = some m.cls := findClass_of_methodNamed B.named
  have hlocks := B.notSynchronized
  have hl := lv_entry ([.ref p0]) (n := 3) (Nat.le_of_ble_eq_true rfl)
  rw [lg_entry_eq]
  generalize (lg_sl ([.ref p0]) ++ List.replicate (3 - (lg_sl ([.ref p0])).length) Slot.unset).toArray = ls at hl ⊢
  have hl : lv_has ls 3 [(0, .ref p0)] := hl
  refine lv_aload_n hx hb d_A_isNothing_0 rfl (lv_at hl 0 rfl) ?_
  refine va_get (D := D) (ci := 3) (v := .ref p1) (C := "SignMachine$Assembler") (T := F_A) (N := 15) hx hb hk fi_A hown hK.1 hP 0 rfl rfl 0 (by decide) (hk _ k_631) (fun _ h9 => h9) rfl d_A_isNothing_1 ?_
  refine sn_i (va_runV (C := "SignMachine$Source") (As := []) (rest := []) ⟨hx, hb, hml, hown, hk⟩ (c_R_peek_s1 l K D cI cJ cZ cB p0 p1 p2 p3 p4 p5 p6 p7 p8 p9 p10 p11 p12 p13 p14 p15 s.heap.size x0_3 x0_4 x0_5 x0_6 x0_7 x0_8 x0_9 x0_10 x0_11 x0_12 x0_13 x0_14 x1_1 x1_2 x1_3 x1_4 x1_5 x1_6 x1_7 x1_8 y2 x3_5 x3_6 y4 y5 y6 y7 y8 x9_6 y10 y11 y12 y13 y14 y15   ) (v_R_peek_s1 hk k_739 ⟨Nat.le_of_ble_eq_true rfl, Nat.le_of_ble_eq_true rfl⟩) (pMC_v hK hP hD hC hS hA (ci := 4) (q0 := 1) rfl rfl rfl) rfl rfl hl.1 rfl (lv_room (Nat.le_of_ble_eq_true rfl)) d_A_isNothing_4 ⟨by decide, by decide⟩) hS hA hD (fun rz1 u t H locs hr0 ht hB hFr hS => ?_)
  obtain ⟨hP, hD⟩ := hB
  rw [ht] at hP
  have hD := dwk hD hFr
  clear ht hFr
  have hP : va_P D classes (wS52 K cI cJ cZ cB p0 p1 p2 p3 p4 p5 p6 p7 p8 p9 p10 p11 p12 p13 p14 p15 x0_3 x0_4 x0_5 x0_6 x0_7 x0_8 x0_9 x0_10 x0_11 x0_12 x0_13 x0_14 x1_1 x1_2 x1_3 x1_4 x1_5 x1_6 x1_7 x1_8 y2 x3_5 x3_6 y4 y5 y6 y7 y8 x9_6 y10 y11 y12 y13 y14 y15) H := hP
  have hD : va_D A (wS52 K cI cJ cZ cB p0 p1 p2 p3 p4 p5 p6 p7 p8 p9 p10 p11 p12 p13 p14 p15 x0_3 x0_4 x0_5 x0_6 x0_7 x0_8 x0_9 x0_10 x0_11 x0_12 x0_13 x0_14 x1_1 x1_2 x1_3 x1_4 x1_5 x1_6 x1_7 x1_8 y2 x3_5 x3_6 y4 y5 y6 y7 y8 x9_6 y10 y11 y12 y13 y14 y15) := hD
  refine lv_bipush (v := 59) hx hb d_A_isNothing_7 (by decide) ?_
  refine lv_icmp_ne (tgt := 14) hx hb d_A_isNothing_9 (by decide) (fun c2 => ?_) (fun c2 => ?_)
  · refine lv_aload_n hx hb d_A_isNothing_14 rfl (lv_at hl 0 rfl) ?_
    refine va_get (D := D) (ci := 3) (v := .ref p1) (C := "SignMachine$Assembler") (T := F_A) (N := 15) hx hb hk fi_A hown hK.1 hP 0 rfl rfl 0 (by decide) (hk _ k_631) (fun _ h9 => h9) rfl d_A_isNothing_15 ?_
    refine va_getN (D := D) (ci := 4) (v := .int x1_3) (C := "SignMachine$Source") (T := F_R) (N := 9) hx hb hk fi_R hown hK.1 hP 1 rfl rfl 3 (by decide) (va_Nw.use rfl (hK.2 _ n_541)) (fun _ h9 => h9) rfl d_A_isNothing_18 ?_
    refine lv_istore_n (lv' := [(1, .int x1_3), (0, .ref p0)]) hx hb d_A_isNothing_21 rfl hl (by decide) rfl (fun ls hl => ?_)
    refine lv_aload_n hx hb d_A_isNothing_22 rfl (lv_at hl 1 rfl) ?_
    refine va_get (D := D) (ci := 3) (v := .ref p1) (C := "SignMachine$Assembler") (T := F_A) (N := 15) hx hb hk fi_A hown hK.1 hP 0 rfl rfl 0 (by decide) (hk _ k_631) (fun _ h9 => h9) rfl d_A_isNothing_23 ?_
    refine kn_v (va_runV (C := "SignMachine$Source") (As := []) (rest := []) ⟨hx, hb, hml, hown, hk⟩ (c_R_skipBlanks_s1 l K D cI cJ cZ cB p0 p1 p2 p3 p4 p5 p6 p7 p8 p9 p10 p11 p12 p13 p14 p15 H.size x0_3 x0_4 x0_5 x0_6 x0_7 x0_8 x0_9 x0_10 x0_11 x0_12 x0_13 x0_14 x1_1 x1_2 x1_3 x1_4 x1_5 x1_6 x1_7 x1_8 y2 x3_5 x3_6 y4 y5 y6 y7 y8 x9_6 y10 y11 y12 y13 y14 y15   ) (v_R_skipBlanks_s1 hk k_743 ⟨Nat.le_of_ble_eq_true rfl, Nat.le_of_ble_eq_true rfl⟩) (pMC_v hK hP hD hC hS hA (ci := 4) (q0 := 1) rfl rfl rfl) rfl rfl hl.1 rfl (lv_room (Nat.le_of_ble_eq_true rfl)) d_A_isNothing_26 ⟨by decide, by decide⟩) hS hA hD (fun u t H locs ht hB hFr hS => ?_)
    obtain ⟨x1_3z3, hP, hD⟩ := hB
    rw [ht] at hP
    have hD := dwk hD hFr
    clear ht hFr
    have hP : va_P D classes (wS52 K cI cJ cZ cB p0 p1 p2 p3 p4 p5 p6 p7 p8 p9 p10 p11 p12 p13 p14 p15 x0_3 x0_4 x0_5 x0_6 x0_7 x0_8 x0_9 x0_10 x0_11 x0_12 x0_13 x0_14 x1_1 x1_2 x1_3z3 x1_4 x1_5 x1_6 x1_7 x1_8 y2 x3_5 x3_6 y4 y5 y6 y7 y8 x9_6 y10 y11 y12 y13 y14 y15) H := hP
    have hD : va_D A (wS52 K cI cJ cZ cB p0 p1 p2 p3 p4 p5 p6 p7 p8 p9 p10 p11 p12 p13 p14 p15 x0_3 x0_4 x0_5 x0_6 x0_7 x0_8 x0_9 x0_10 x0_11 x0_12 x0_13 x0_14 x1_1 x1_2 x1_3z3 x1_4 x1_5 x1_6 x1_7 x1_8 y2 x3_5 x3_6 y4 y5 y6 y7 y8 x9_6 y10 y11 y12 y13 y14 y15) := hD
    refine lv_aload_n hx hb d_A_isNothing_29 rfl (lv_at hl 1 rfl) ?_
    refine va_get (D := D) (ci := 3) (v := .ref p1) (C := "SignMachine$Assembler") (T := F_A) (N := 15) hx hb hk fi_A hown hK.1 hP 0 rfl rfl 0 (by decide) (hk _ k_631) (fun _ h9 => h9) rfl d_A_isNothing_30 ?_
    refine sn_i (va_runV (C := "SignMachine$Source") (As := []) (rest := []) ⟨hx, hb, hml, hown, hk⟩ (c_R_peek_s1 l K D cI cJ cZ cB p0 p1 p2 p3 p4 p5 p6 p7 p8 p9 p10 p11 p12 p13 p14 p15 H.size x0_3 x0_4 x0_5 x0_6 x0_7 x0_8 x0_9 x0_10 x0_11 x0_12 x0_13 x0_14 x1_1 x1_2 x1_3z3 x1_4 x1_5 x1_6 x1_7 x1_8 y2 x3_5 x3_6 y4 y5 y6 y7 y8 x9_6 y10 y11 y12 y13 y14 y15   ) (v_R_peek_s1 hk k_739 ⟨Nat.le_of_ble_eq_true rfl, Nat.le_of_ble_eq_true rfl⟩) (pMC_v hK hP hD hC hS hA (ci := 4) (q0 := 1) rfl rfl rfl) rfl rfl hl.1 rfl (lv_room (Nat.le_of_ble_eq_true rfl)) d_A_isNothing_33 ⟨by decide, by decide⟩) hS hA hD (fun rz4 u t H locs hr0 ht hB hFr hS => ?_)
    obtain ⟨hP, hD⟩ := hB
    rw [ht] at hP
    have hD := dwk hD hFr
    clear ht hFr
    have hP : va_P D classes (wS52 K cI cJ cZ cB p0 p1 p2 p3 p4 p5 p6 p7 p8 p9 p10 p11 p12 p13 p14 p15 x0_3 x0_4 x0_5 x0_6 x0_7 x0_8 x0_9 x0_10 x0_11 x0_12 x0_13 x0_14 x1_1 x1_2 x1_3z3 x1_4 x1_5 x1_6 x1_7 x1_8 y2 x3_5 x3_6 y4 y5 y6 y7 y8 x9_6 y10 y11 y12 y13 y14 y15) H := hP
    have hD : va_D A (wS52 K cI cJ cZ cB p0 p1 p2 p3 p4 p5 p6 p7 p8 p9 p10 p11 p12 p13 p14 p15 x0_3 x0_4 x0_5 x0_6 x0_7 x0_8 x0_9 x0_10 x0_11 x0_12 x0_13 x0_14 x1_1 x1_2 x1_3z3 x1_4 x1_5 x1_6 x1_7 x1_8 y2 x3_5 x3_6 y4 y5 y6 y7 y8 x9_6 y10 y11 y12 y13 y14 y15) := hD
    refine lv_iconst (v := (-1)) hx hb d_A_isNothing_36 (by decide) ?_
    refine lv_icmp_ne (tgt := 44) hx hb d_A_isNothing_37 (by decide) (fun c5 => ?_) (fun c5 => ?_)
    · refine lv_iconst (v := 0) hx hb d_A_isNothing_44 (by decide) ?_
      refine lv_istore_n (lv' := [(2, .int (0 : Int32)), (1, .int x1_3), (0, .ref p0)]) hx hb d_A_isNothing_45 rfl hl (by decide) rfl (fun ls hl => ?_)
      refine lv_aload_n hx hb d_A_isNothing_46 rfl (lv_at hl 2 rfl) ?_
      refine va_get (D := D) (ci := 3) (v := .ref p1) (C := "SignMachine$Assembler") (T := F_A) (N := 15) hx hb hk fi_A hown hK.1 hP 0 rfl rfl 0 (by decide) (hk _ k_631) (fun _ h9 => h9) rfl d_A_isNothing_47 ?_
      refine lv_iload_n hx hb d_A_isNothing_50 rfl (lv_at hl 1 rfl) ?_
      refine va_putN (D := D) (ci := 4) (v := .int x1_3) (ty := .int) (C := "SignMachine$Source") (T := F_R) (N := 9) hx hb hk fi_R ft_R ft_R_ok fn_R hown hK.1 hP hD hS 1 rfl rfl 3 (by decide) (va_Nw.use rfl (hK.2 _ n_541)) (fun _ h9 => h9) rfl (by decide +kernel) rfl rfl (Nat.le_of_ble_eq_true rfl) d_A_isNothing_51 (fun H locs hP hD hS => ?_)
      have hP : va_P D classes (wS52 K cI cJ cZ cB p0 p1 p2 p3 p4 p5 p6 p7 p8 p9 p10 p11 p12 p13 p14 p15 x0_3 x0_4 x0_5 x0_6 x0_7 x0_8 x0_9 x0_10 x0_11 x0_12 x0_13 x0_14 x1_1 x1_2 x1_3 x1_4 x1_5 x1_6 x1_7 x1_8 y2 x3_5 x3_6 y4 y5 y6 y7 y8 x9_6 y10 y11 y12 y13 y14 y15) H := hP
      have hD : va_D A (wS52 K cI cJ cZ cB p0 p1 p2 p3 p4 p5 p6 p7 p8 p9 p10 p11 p12 p13 p14 p15 x0_3 x0_4 x0_5 x0_6 x0_7 x0_8 x0_9 x0_10 x0_11 x0_12 x0_13 x0_14 x1_1 x1_2 x1_3 x1_4 x1_5 x1_6 x1_7 x1_8 y2 x3_5 x3_6 y4 y5 y6 y7 y8 x9_6 y10 y11 y12 y13 y14 y15) := hD
      refine lv_iload_n hx hb d_A_isNothing_54 rfl (lv_at hl 0 rfl) ?_
      exact W.zret (v := (0 : Int32)) hx hb hr rfl (fun t ht hW => ⟨⟨(0 : Int32), (), rfl, ⟨false, rfl⟩, ⟨x1_3, by show va_P D classes _ t.heap; rw [ht]; exact hP, hD⟩⟩, hS.F ht⟩) hS.2.2 d_A_isNothing_55
    · refine lv_iconst (v := 1) hx hb d_A_isNothing_40 (by decide) ?_
      refine lv_goto (tgt := 45) hx hb d_A_isNothing_41 (by decide) ?_
      refine lv_istore_n (lv' := [(2, .int (1 : Int32)), (1, .int x1_3), (0, .ref p0)]) hx hb d_A_isNothing_45 rfl hl (by decide) rfl (fun ls hl => ?_)
      refine lv_aload_n hx hb d_A_isNothing_46 rfl (lv_at hl 2 rfl) ?_
      refine va_get (D := D) (ci := 3) (v := .ref p1) (C := "SignMachine$Assembler") (T := F_A) (N := 15) hx hb hk fi_A hown hK.1 hP 0 rfl rfl 0 (by decide) (hk _ k_631) (fun _ h9 => h9) rfl d_A_isNothing_47 ?_
      refine lv_iload_n hx hb d_A_isNothing_50 rfl (lv_at hl 1 rfl) ?_
      refine va_putN (D := D) (ci := 4) (v := .int x1_3) (ty := .int) (C := "SignMachine$Source") (T := F_R) (N := 9) hx hb hk fi_R ft_R ft_R_ok fn_R hown hK.1 hP hD hS 1 rfl rfl 3 (by decide) (va_Nw.use rfl (hK.2 _ n_541)) (fun _ h9 => h9) rfl (by decide +kernel) rfl rfl (Nat.le_of_ble_eq_true rfl) d_A_isNothing_51 (fun H locs hP hD hS => ?_)
      have hP : va_P D classes (wS52 K cI cJ cZ cB p0 p1 p2 p3 p4 p5 p6 p7 p8 p9 p10 p11 p12 p13 p14 p15 x0_3 x0_4 x0_5 x0_6 x0_7 x0_8 x0_9 x0_10 x0_11 x0_12 x0_13 x0_14 x1_1 x1_2 x1_3 x1_4 x1_5 x1_6 x1_7 x1_8 y2 x3_5 x3_6 y4 y5 y6 y7 y8 x9_6 y10 y11 y12 y13 y14 y15) H := hP
      have hD : va_D A (wS52 K cI cJ cZ cB p0 p1 p2 p3 p4 p5 p6 p7 p8 p9 p10 p11 p12 p13 p14 p15 x0_3 x0_4 x0_5 x0_6 x0_7 x0_8 x0_9 x0_10 x0_11 x0_12 x0_13 x0_14 x1_1 x1_2 x1_3 x1_4 x1_5 x1_6 x1_7 x1_8 y2 x3_5 x3_6 y4 y5 y6 y7 y8 x9_6 y10 y11 y12 y13 y14 y15) := hD
      refine lv_iload_n hx hb d_A_isNothing_54 rfl (lv_at hl 0 rfl) ?_
      exact W.zret (v := (1 : Int32)) hx hb hr rfl (fun t ht hW => ⟨⟨(1 : Int32), (), rfl, ⟨true, rfl⟩, ⟨x1_3, by show va_P D classes _ t.heap; rw [ht]; exact hP, hD⟩⟩, hS.F ht⟩) hS.2.2 d_A_isNothing_55
  · refine lv_iconst (v := 1) hx hb d_A_isNothing_12 (by decide) ?_
    exact W.zret (v := (1 : Int32)) hx hb hr rfl (fun t ht hW => ⟨⟨(1 : Int32), (), rfl, ⟨true, rfl⟩, ⟨x1_3, by show va_P D classes _ t.heap; rw [ht]; exact hP, hD⟩⟩, hS.F ht⟩) hS.2.2 d_A_isNothing_13
theorem v_A_isNothing_s1 {R : Room} {s : State} {args : Array Value} {own : String} {index : Nat} (hk : ∀ w ∈ tb, w.before args s = true) (hl : Cond.methodLink own index y_A_isNothing ∈ tb) (hR : 2 + 1 ≤ R.frames ∧ 8 + (3 + 11) + 41 ≤ R.locals) : CallW R s args own "SignMachine$Assembler" index y_A_isNothing b_A_isNothing 3 (some .boolean) (.code y_A_isNothing b_A_isNothing 3 (some .boolean) :: tb) ({ frames := 2, cells := 0, slots := 0, locals := 41 }) 0 0 0 := mk_v 0 hk k_738 hl k_737 k_34 k_123 rfl rfl h_A_isNothing hR
set_option maxHeartbeats 4000000 in
set_option maxRecDepth 100000 in
theorem c_R_readToken_s1 (l : Launch) (K : CK) (D : va_G) (cI cJ cZ cB : ClassId) (p0 p1 p2 p3 p4 p5 p6 p7 p8 p9 p10 p11 p12 p13 p14 p15 : Nat) (sz : Nat) (x0_3 : Int32) (x0_4 : Int32) (x0_5 : Int32) (x0_6 : Int32) (x0_7 : Int32) (x0_8 : Bool) (x0_9 : Int64) (x0_10 : Int32) (x0_11 : Option (Fin 51)) (x0_12 : Int32) (x0_13 : Int32) (x0_14 : Int32) (x1_1 : Int32) (x1_2 : Int32) (x1_3 : Int32) (x1_4 : Int32) (x1_5 : Int32) (x1_6 : Int32) (x1_7 : Int64) (x1_8 : Int32) (y2 : Nat → Int32) (x3_5 : Int32) (x3_6 : Int32) (y4 : Nat → Int64) (y5 : Nat → Int32) (y6 : Nat → Int32) (y7 : Nat → Int32) (y8 : Nat → Int32) (x9_6 : Int32) (y10 : Nat → Int32) (y11 : Nat → Int32) (y12 : Nat → Int32) (y13 : Nat → Int32) (y14 : Nat → Int32) (y15 : Nat → Int32)   : Met l y_R_readToken (.code y_R_readToken b_R_readToken 9 none :: tb) ({ frames := 1, cells := 0, slots := 0, locals := 20 }) (pMC K D cI cJ cZ cB (wS52 K cI cJ cZ cB p0 p1 p2 p3 p4 p5 p6 p7 p8 p9 p10 p11 p12 p13 p14 p15 x0_3 x0_4 x0_5 x0_6 x0_7 x0_8 x0_9 x0_10 x0_11 x0_12 x0_13 x0_14 x1_1 x1_2 x1_3 x1_4 x1_5 x1_6 x1_7 x1_8 y2 x3_5 x3_6 y4 y5 y6 y7 y8 x9_6 y10 y11 y12 y13 y14 y15) sz [.ref p1]) (va_Qv (fun (_ : Unit) => True) (fun _ t => (∃ u_x1_3 : Int32, ∃ u_x1_6 : Int32, ∃ u_x1_7 : Int64, ∃ u_x1_8 : Int32, va_P D classes (wS52 K cI cJ cZ cB p0 p1 p2 p3 p4 p5 p6 p7 p8 p9 p10 p11 p12 p13 p14 p15 x0_3 x0_4 x0_5 x0_6 x0_7 x0_8 x0_9 x0_10 x0_11 x0_12 x0_13 x0_14 x1_1 x1_2 u_x1_3 x1_4 x1_5 u_x1_6 u_x1_7 u_x1_8 y2 x3_5 x3_6 y4 y5 y6 y7 y8 x9_6 y10 y11 y12 y13 y14 y15) t.heap ∧ va_D (va_A (wS52 K cI cJ cZ cB p0 p1 p2 p3 p4 p5 p6 p7 p8 p9 p10 p11 p12 p13 p14 p15 x0_3 x0_4 x0_5 x0_6 x0_7 x0_8 x0_9 x0_10 x0_11 x0_12 x0_13 x0_14 x1_1 x1_2 x1_3 x1_4 x1_5 x1_6 x1_7 x1_8 y2 x3_5 x3_6 y4 y5 y6 y7 y8 x9_6 y10 y11 y12 y13 y14 y15) sz) (wS52 K cI cJ cZ cB p0 p1 p2 p3 p4 p5 p6 p7 p8 p9 p10 p11 p12 p13 p14 p15 x0_3 x0_4 x0_5 x0_6 x0_7 x0_8 x0_9 x0_10 x0_11 x0_12 x0_13 x0_14 x1_1 x1_2 u_x1_3 x1_4 x1_5 u_x1_6 u_x1_7 u_x1_8 y2 x3_5 x3_6 y4 y5 y6 y7 y8 x9_6 y10 y11 y12 y13 y14 y15))) (va_A (wS52 K cI cJ cZ cB p0 p1 p2 p3 p4 p5 p6 p7 p8 p9 p10 p11 p12 p13 p14 p15 x0_3 x0_4 x0_5 x0_6 x0_7 x0_8 x0_9 x0_10 x0_11 x0_12 x0_13 x0_14 x1_1 x1_2 x1_3 x1_4 x1_5 x1_6 x1_7 x1_8 y2 x3_5 x3_6 y4 y5 y6 y7 y8 x9_6 y10 y11 y12 y13 y14 y15) sz)) 0 0 (va_A (wS52 K cI cJ cZ cB p0 p1 p2 p3 p4 p5 p6 p7 p8 p9 p10 p11 p12 p13 p14 p15 x0_3 x0_4 x0_5 x0_6 x0_7 x0_8 x0_9 x0_10 x0_11 x0_12 x0_13 x0_14 x1_1 x1_2 x1_3 x1_4 x1_5 x1_6 x1_7 x1_8 y2 x3_5 x3_6 y4 y5 y6 y7 y8 x9_6 y10 y11 y12 y13 y14 y15) sz) := by
  refine Met.ofW (cc := b_R_readToken) (maxL := 9) (ret := none) (by decide) rfl ?_
  intro p e s m args below meth c s₁ B hml hv
  obtain ⟨rfl, hsz, hK, hP, hD0, hC⟩ := hv
  subst hsz
  have hD := hD0.self (sz := s.heap.size)
  generalize hAe : va_A (wS52 K cI cJ cZ cB p0 p1 p2 p3 p4 p5 p6 p7 p8 p9 p10 p11 p12 p13 p14 p15 x0_3 x0_4 x0_5 x0_6 x0_7 x0_8 x0_9 x0_10 x0_11 x0_12 x0_13 x0_14 x1_1 x1_2 x1_3 x1_4 x1_5 x1_6 x1_7 x1_8 y2 x3_5 x3_6 y4 y5 y6 y7 y8 x9_6 y10 y11 y12 y13 y14 y15) s.heap.size = A at hD hC ⊢
  have hA : ∀ q : Nat, s.heap.size ≤ q → A q := fun q h => by rw [← hAe]; exact Or.inr h
  clear hAe hD0
  have hS : va_S A s.heap s.heap [] := va_S.rf
  have hx := B.exec
  have hb := B.bytes
  have hr := B.returns
  have hts := atoms_spec (ws := .code y_R_readToken b_R_readToken 9 none :: tb) B.pre
  have hk : ∀ w ∈ tb, w.before [.ref p1].toArray s = true := fun w h => hts w (List.mem_cons_of_mem _ h)
  have hown : s.vm.findClass "SignMachine$Source" = some m.cls := findClass_of_methodNamed B.named
  have hlocks := B.notSynchronized
  have hl := lv_entry ([.ref p1]) (n := 9) (Nat.le_of_ble_eq_true rfl)
  rw [lg_entry_eq]
  generalize (lg_sl ([.ref p1]) ++ List.replicate (9 - (lg_sl ([.ref p1])).length) Slot.unset).toArray = ls at hl ⊢
  have hl : lv_has ls 9 [(0, .ref p1)] := hl
  refine lv_aload_n hx hb d_R_readToken_0 rfl (lv_at hl 0 rfl) ?_
  refine sn_i (va_runV (C := "SignMachine$Source") (As := []) (rest := []) ⟨hx, hb, hml, hown, hk⟩ (c_R_peek_s1 l K D cI cJ cZ cB p0 p1 p2 p3 p4 p5 p6 p7 p8 p9 p10 p11 p12 p13 p14 p15 s.heap.size x0_3 x0_4 x0_5 x0_6 x0_7 x0_8 x0_9 x0_10 x0_11 x0_12 x0_13 x0_14 x1_1 x1_2 x1_3 x1_4 x1_5 x1_6 x1_7 x1_8 y2 x3_5 x3_6 y4 y5 y6 y7 y8 x9_6 y10 y11 y12 y13 y14 y15   ) (v_R_peek_s1 hk k_747 ⟨Nat.le_of_ble_eq_true rfl, Nat.le_of_ble_eq_true rfl⟩) (pMC_v hK hP hD hC hS hA (ci := 4) (q0 := 1) rfl rfl rfl) rfl rfl hl.1 rfl (lv_room (Nat.le_of_ble_eq_true rfl)) d_R_readToken_1 ⟨by decide, by decide⟩) hS hA hD (fun rz1 u t H locs hr0 ht hB hFr hS => ?_)
  obtain ⟨hP, hD⟩ := hB
  rw [ht] at hP
  have hD := dwk hD hFr
  clear ht hFr
  have hP : va_P D classes (wS52 K cI cJ cZ cB p0 p1 p2 p3 p4 p5 p6 p7 p8 p9 p10 p11 p12 p13 p14 p15 x0_3 x0_4 x0_5 x0_6 x0_7 x0_8 x0_9 x0_10 x0_11 x0_12 x0_13 x0_14 x1_1 x1_2 x1_3 x1_4 x1_5 x1_6 x1_7 x1_8 y2 x3_5 x3_6 y4 y5 y6 y7 y8 x9_6 y10 y11 y12 y13 y14 y15) H := hP
  have hD : va_D A (wS52 K cI cJ cZ cB p0 p1 p2 p3 p4 p5 p6 p7 p8 p9 p10 p11 p12 p13 p14 p15 x0_3 x0_4 x0_5 x0_6 x0_7 x0_8 x0_9 x0_10 x0_11 x0_12 x0_13 x0_14 x1_1 x1_2 x1_3 x1_4 x1_5 x1_6 x1_7 x1_8 y2 x3_5 x3_6 y4 y5 y6 y7 y8 x9_6 y10 y11 y12 y13 y14 y15) := hD
  refine lv_bipush (v := 42) hx hb d_R_readToken_4 (by decide) ?_
  refine lv_icmp_ne (tgt := 25) hx hb d_R_readToken_6 (by decide) (fun c2 => ?_) (fun c2 => ?_)
  · refine lv_iconst (v := 0) hx hb d_R_readToken_25 (by decide) ?_
    refine lv_istore_n (lv' := [(1, .int (0 : Int32)), (0, .ref p1)]) hx hb d_R_readToken_26 rfl hl (by decide) rfl (fun ls hl => ?_)
    refine lv_lconst (v := 0) hx hb d_R_readToken_27 (by decide) ?_
    refine lv_lstore_n (lv' := [(2, .long (0 : Int64)), (1, .int (0 : Int32)), (0, .ref p1)]) hx hb d_R_readToken_28 rfl hl (by decide) rfl (fun ls hl => ?_)
    refine lv_lconst (v := 0) hx hb d_R_readToken_29 (by decide) ?_
    refine lv_lstore (lv' := [(4, .long (0 : Int64)), (2, .long (0 : Int64)), (1, .int (0 : Int32)), (0, .ref p1)]) hx hb d_R_readToken_30 hl (by decide) rfl (fun ls hl => ?_)
    refine lv_iconst (v := 0) hx hb d_R_readToken_32 (by decide) ?_
    refine lv_istore (lv' := [(6, .int (0 : Int32)), (4, .long (0 : Int64)), (2, .long (0 : Int64)), (1, .int (0 : Int32)), (0, .ref p1)]) hx hb d_R_readToken_33 hl (by decide) rfl (fun ls hl => ?_)
    refine lv_aload_n hx hb d_R_readToken_35 rfl (lv_at hl 4 rfl) ?_
    refine sn_i (va_runV (C := "SignMachine$Source") (As := []) (rest := []) ⟨hx, hb, hml, hown, hk⟩ (c_R_peek_s1 l K D cI cJ cZ cB p0 p1 p2 p3 p4 p5 p6 p7 p8 p9 p10 p11 p12 p13 p14 p15 H.size x0_3 x0_4 x0_5 x0_6 x0_7 x0_8 x0_9 x0_10 x0_11 x0_12 x0_13 x0_14 x1_1 x1_2 x1_3 x1_4 x1_5 x1_6 x1_7 x1_8 y2 x3_5 x3_6 y4 y5 y6 y7 y8 x9_6 y10 y11 y12 y13 y14 y15   ) (v_R_peek_s1 hk k_747 ⟨Nat.le_of_ble_eq_true rfl, Nat.le_of_ble_eq_true rfl⟩) (pMC_v hK hP hD hC hS hA (ci := 4) (q0 := 1) rfl rfl rfl) rfl rfl hl.1 rfl (lv_room (Nat.le_of_ble_eq_true rfl)) d_R_readToken_36 ⟨by decide, by decide⟩) hS hA hD (fun rz3 u t H locs hr0 ht hB hFr hS => ?_)
    obtain ⟨hP, hD⟩ := hB
    rw [ht] at hP
    have hD := dwk hD hFr
    clear ht hFr
    have hP : va_P D classes (wS52 K cI cJ cZ cB p0 p1 p2 p3 p4 p5 p6 p7 p8 p9 p10 p11 p12 p13 p14 p15 x0_3 x0_4 x0_5 x0_6 x0_7 x0_8 x0_9 x0_10 x0_11 x0_12 x0_13 x0_14 x1_1 x1_2 x1_3 x1_4 x1_5 x1_6 x1_7 x1_8 y2 x3_5 x3_6 y4 y5 y6 y7 y8 x9_6 y10 y11 y12 y13 y14 y15) H := hP
    have hD : va_D A (wS52 K cI cJ cZ cB p0 p1 p2 p3 p4 p5 p6 p7 p8 p9 p10 p11 p12 p13 p14 p15 x0_3 x0_4 x0_5 x0_6 x0_7 x0_8 x0_9 x0_10 x0_11 x0_12 x0_13 x0_14 x1_1 x1_2 x1_3 x1_4 x1_5 x1_6 x1_7 x1_8 y2 x3_5 x3_6 y4 y5 y6 y7 y8 x9_6 y10 y11 y12 y13 y14 y15) := hD
    refine cs_i (W.runS (As := [.int rz3]) (rest := []) ⟨hx, hb, hml, hown, hk⟩ (c_N_codeOf l rz3) (s_N_codeOf hk k_756 ⟨Nat.le_of_ble_eq_true rfl, Nat.le_of_ble_eq_true rfl⟩) ⟨fun a U g mk q => q, fun U hU hW => ⟨rfl, trivial⟩⟩ rfl rfl hl.1 rfl (lv_room (Nat.le_of_ble_eq_true rfl)) d_R_readToken_39 ⟨Nat.le_of_ble_eq_true rfl, Nat.le_of_ble_eq_true rfl⟩) ?_
    refine lv_topi (fun v4 hv4 => ?_)
    refine lv_istore (lv' := [(7, .int v4), (6, .int (0 : Int32)), (4, .long (0 : Int64)), (2, .long (0 : Int64)), (1, .int (0 : Int32)), (0, .ref p1)]) hx hb d_R_readToken_42 hl (by decide) rfl (fun ls hl => ?_)
    refine lv_iconst (v := 0) hx hb d_R_readToken_44 (by decide) ?_
    refine lv_istore (lv' := [(8, .int (0 : Int32)), (7, .int v4), (6, .int (0 : Int32)), (4, .long (0 : Int64)), (2, .long (0 : Int64)), (1, .int (0 : Int32)), (0, .ref p1)]) hx hb d_R_readToken_45 hl (by decide) rfl (fun ls hl => ?_)
    have LP47_52 : ∀ (n : Nat) (l8 : Int32) (l7 : Int32) (l6 : Int32) (l4 : Int64) (l2 : Int64) (l1 : Int32) (x1_3 : Int32) (x1_6 : Int32) (x1_7 : Int64) (x1_8 : Int32) (H : Heap) (locs : List Loc) (ls : Array Slot), (((10 : Int32)).toInt + 1 - (l8).toInt).toNat < n → ¬ l8 < (0 : Int32) → va_P D classes (wS52 K cI cJ cZ cB p0 p1 p2 p3 p4 p5 p6 p7 p8 p9 p10 p11 p12 p13 p14 p15 x0_3 x0_4 x0_5 x0_6 x0_7 x0_8 x0_9 x0_10 x0_11 x0_12 x0_13 x0_14 x1_1 x1_2 x1_3 x1_4 x1_5 x1_6 x1_7 x1_8 y2 x3_5 x3_6 y4 y5 y6 y7 y8 x9_6 y10 y11 y12 y13 y14 y15) H → va_D A (wS52 K cI cJ cZ cB p0 p1 p2 p3 p4 p5 p6 p7 p8 p9 p10 p11 p12 p13 p14 p15 x0_3 x0_4 x0_5 x0_6 x0_7 x0_8 x0_9 x0_10 x0_11 x0_12 x0_13 x0_14 x1_1 x1_2 x1_3 x1_4 x1_5 x1_6 x1_7 x1_8 y2 x3_5 x3_6 y4 y5 y6 y7 y8 x9_6 y10 y11 y12 y13 y14 y15) → va_S A s.heap H locs → lv_has ls 9 [(8, .int l8), (7, .int l7), (6, .int l6), (4, .long l4), (2, .long l2), (1, .int l1), (0, .ref p1)] → W p l e ({ frames := 1, cells := 0, slots := 0, locals := 20 }) s m [.ref p1].toArray below meth c H locs 0 0 (MQ below (va_Qv (fun (_ : Unit) => True) (fun _ t => (∃ u_x1_3 : Int32, ∃ u_x1_6 : Int32, ∃ u_x1_7 : Int64, ∃ u_x1_8 : Int32, va_P D classes (wS52 K cI cJ cZ cB p0 p1 p2 p3 p4 p5 p6 p7 p8 p9 p10 p11 p12 p13 p14 p15 x0_3 x0_4 x0_5 x0_6 x0_7 x0_8 x0_9 x0_10 x0_11 x0_12 x0_13 x0_14 x1_1 x1_2 u_x1_3 x1_4 x1_5 u_x1_6 u_x1_7 u_x1_8 y2 x3_5 x3_6 y4 y5 y6 y7 y8 x9_6 y10 y11 y12 y13 y14 y15) t.heap ∧ va_D A (wS52 K cI cJ cZ cB p0 p1 p2 p3 p4 p5 p6 p7 p8 p9 p10 p11 p12 p13 p14 p15 x0_3 x0_4 x0_5 x0_6 x0_7 x0_8 x0_9 x0_10 x0_11 x0_12 x0_13 x0_14 x1_1 x1_2 u_x1_3 x1_4 x1_5 u_x1_6 u_x1_7 u_x1_8 y2 x3_5 x3_6 y4 y5 y6 y7 y8 x9_6 y10 y11 y12 y13 y14 y15))) A) [.ref p1].toArray s 0 0 A) (F0 m 47 ls []) := by
      intro n
      induction n with
      | zero => intro l8 l7 l6 l4 l2 l1 x1_3 x1_6 x1_7 x1_8 H locs ls hn; exact absurd hn (Nat.not_lt_zero _)
      | succ n ih =>
        intro l8 l7 l6 l4 l2 l1 x1_3 x1_6 x1_7 x1_8 H locs ls hn47_52 hc47_52 hP hD hS hl
        refine lv_iload hx hb d_R_readToken_47 (lv_at hl 0 rfl) ?_
        refine lv_bipush (v := 10) hx hb d_R_readToken_49 (by decide) ?_
        refine lv_icmp_gt (tgt := 143) hx hb d_R_readToken_51 (by decide) (fun c5 => ?_) (fun c5 => ?_)
        · refine lv_aload_n hx hb d_R_readToken_143 rfl (lv_at hl 6 rfl) ?_
          refine lv_iload_n hx hb d_R_readToken_144 rfl (lv_at hl 5 rfl) ?_
          refine lv_if_ne (tgt := 152) hx hb d_R_readToken_145 (by decide) (fun c6 => ?_) (fun c6 => ?_)
          · refine lv_iload hx hb d_R_readToken_152 (lv_at hl 2 rfl) ?_
            refine lv_if_eq (tgt := 161) hx hb d_R_readToken_154 (by decide) (fun c7 => ?_) (fun c7 => ?_)
            · refine lv_iconst (v := 1) hx hb d_R_readToken_161 (by decide) ?_
              refine va_put (D := D) (ci := 4) (v := .int (1 : Int32)) (ty := .int) (C := "SignMachine$Source") (T := F_R) (N := 9) hx hb hk fi_R ft_R ft_R_ok fn_R hown hK.1 hP hD hS 1 rfl rfl 6 (by decide) (hk _ k_545) (fun _ h9 => h9) rfl (by decide +kernel) rfl rfl (Nat.le_of_ble_eq_true rfl) d_R_readToken_162 (fun H locs hP hD hS => ?_)
              have hP : va_P D classes (wS52 K cI cJ cZ cB p0 p1 p2 p3 p4 p5 p6 p7 p8 p9 p10 p11 p12 p13 p14 p15 x0_3 x0_4 x0_5 x0_6 x0_7 x0_8 x0_9 x0_10 x0_11 x0_12 x0_13 x0_14 x1_1 x1_2 x1_3 x1_4 x1_5 (1 : Int32) x1_7 x1_8 y2 x3_5 x3_6 y4 y5 y6 y7 y8 x9_6 y10 y11 y12 y13 y14 y15) H := hP
              have hD : va_D A (wS52 K cI cJ cZ cB p0 p1 p2 p3 p4 p5 p6 p7 p8 p9 p10 p11 p12 p13 p14 p15 x0_3 x0_4 x0_5 x0_6 x0_7 x0_8 x0_9 x0_10 x0_11 x0_12 x0_13 x0_14 x1_1 x1_2 x1_3 x1_4 x1_5 (1 : Int32) x1_7 x1_8 y2 x3_5 x3_6 y4 y5 y6 y7 y8 x9_6 y10 y11 y12 y13 y14 y15) := hD
              refine lv_iload_n hx hb d_R_readToken_165 rfl (lv_at hl 5 rfl) ?_
              refine lv_iload hx hb d_R_readToken_166 (lv_at hl 2 rfl) ?_
              refine lv_if_eq (tgt := 176) hx hb d_R_readToken_168 (by decide) (fun c8 => ?_) (fun c8 => absurd (show l6 = (0 : Int32) from c7) c8)
              refine lv_bipush (v := 10) hx hb d_R_readToken_176 (by decide) ?_
              refine lv_icmp_le (tgt := 186) hx hb d_R_readToken_178 (by decide) (fun c9 => ?_) (fun c9 => ?_)
              · refine lv_aload_n hx hb d_R_readToken_186 rfl (lv_at hl 6 rfl) ?_
                refine lv_lload_n hx hb d_R_readToken_187 rfl (lv_at hl 4 rfl) ?_
                refine va_put (D := D) (ci := 4) (v := .long l2) (ty := .long) (C := "SignMachine$Source") (T := F_R) (N := 9) hx hb hk fi_R ft_R ft_R_ok fn_R hown hK.1 hP hD hS 1 rfl rfl 7 (by decide) (hk _ k_547) (fun _ h9 => h9) rfl (by decide +kernel) rfl rfl (Nat.le_of_ble_eq_true rfl) d_R_readToken_188 (fun H locs hP hD hS => ?_)
                have hP : va_P D classes (wS52 K cI cJ cZ cB p0 p1 p2 p3 p4 p5 p6 p7 p8 p9 p10 p11 p12 p13 p14 p15 x0_3 x0_4 x0_5 x0_6 x0_7 x0_8 x0_9 x0_10 x0_11 x0_12 x0_13 x0_14 x1_1 x1_2 x1_3 x1_4 x1_5 (1 : Int32) l2 x1_8 y2 x3_5 x3_6 y4 y5 y6 y7 y8 x9_6 y10 y11 y12 y13 y14 y15) H := hP
                have hD : va_D A (wS52 K cI cJ cZ cB p0 p1 p2 p3 p4 p5 p6 p7 p8 p9 p10 p11 p12 p13 p14 p15 x0_3 x0_4 x0_5 x0_6 x0_7 x0_8 x0_9 x0_10 x0_11 x0_12 x0_13 x0_14 x1_1 x1_2 x1_3 x1_4 x1_5 (1 : Int32) l2 x1_8 y2 x3_5 x3_6 y4 y5 y6 y7 y8 x9_6 y10 y11 y12 y13 y14 y15) := hD
                refine lv_aload_n hx hb d_R_readToken_191 rfl (lv_at hl 6 rfl) ?_
                refine lv_lload hx hb d_R_readToken_192 (lv_at hl 3 rfl) ?_
                refine lv_ldc2 (v := 1073741823) hx hb hown (hk _ k_766) d_R_readToken_194 ?_
                refine lv_land hx hb d_R_readToken_197 ?_
                refine lv_topl (fun v10 hv10 => ?_)
                refine lv_l2i (v := (v10 : Int64).toInt32) hx hb d_R_readToken_198 rfl ?_
                refine lv_topi (fun v11 hv11 => ?_)
                refine va_put (D := D) (ci := 4) (v := .int v11) (ty := .int) (C := "SignMachine$Source") (T := F_R) (N := 9) hx hb hk fi_R ft_R ft_R_ok fn_R hown hK.1 hP hD hS 1 rfl rfl 8 (by decide) (hk _ k_548) (fun _ h9 => h9) rfl (by decide +kernel) rfl rfl (Nat.le_of_ble_eq_true rfl) d_R_readToken_199 (fun H locs hP hD hS => ?_)
                have hP : va_P D classes (wS52 K cI cJ cZ cB p0 p1 p2 p3 p4 p5 p6 p7 p8 p9 p10 p11 p12 p13 p14 p15 x0_3 x0_4 x0_5 x0_6 x0_7 x0_8 x0_9 x0_10 x0_11 x0_12 x0_13 x0_14 x1_1 x1_2 x1_3 x1_4 x1_5 (1 : Int32) l2 v11 y2 x3_5 x3_6 y4 y5 y6 y7 y8 x9_6 y10 y11 y12 y13 y14 y15) H := hP
                have hD : va_D A (wS52 K cI cJ cZ cB p0 p1 p2 p3 p4 p5 p6 p7 p8 p9 p10 p11 p12 p13 p14 p15 x0_3 x0_4 x0_5 x0_6 x0_7 x0_8 x0_9 x0_10 x0_11 x0_12 x0_13 x0_14 x1_1 x1_2 x1_3 x1_4 x1_5 (1 : Int32) l2 v11 y2 x3_5 x3_6 y4 y5 y6 y7 y8 x9_6 y10 y11 y12 y13 y14 y15) := hD
                exact W.vret hx hb hr (fun t ht hW => ⟨⟨(), rfl, trivial, ⟨x1_3, (1 : Int32), l2, v11, by show va_P D classes _ t.heap; rw [ht]; exact hP, hD⟩⟩, hS.F ht⟩) hS.2.2 d_R_readToken_202
              · refine lv_aload_n hx hb d_R_readToken_181 rfl (lv_at hl 6 rfl) ?_
                refine lv_iconst (v := 4) hx hb d_R_readToken_182 (by decide) ?_
                refine va_put (D := D) (ci := 4) (v := .int (4 : Int32)) (ty := .int) (C := "SignMachine$Source") (T := F_R) (N := 9) hx hb hk fi_R ft_R ft_R_ok fn_R hown hK.1 hP hD hS 1 rfl rfl 6 (by decide) (hk _ k_545) (fun _ h9 => h9) rfl (by decide +kernel) rfl rfl (Nat.le_of_ble_eq_true rfl) d_R_readToken_183 (fun H locs hP hD hS => ?_)
                have hP : va_P D classes (wS52 K cI cJ cZ cB p0 p1 p2 p3 p4 p5 p6 p7 p8 p9 p10 p11 p12 p13 p14 p15 x0_3 x0_4 x0_5 x0_6 x0_7 x0_8 x0_9 x0_10 x0_11 x0_12 x0_13 x0_14 x1_1 x1_2 x1_3 x1_4 x1_5 (4 : Int32) x1_7 x1_8 y2 x3_5 x3_6 y4 y5 y6 y7 y8 x9_6 y10 y11 y12 y13 y14 y15) H := hP
                have hD : va_D A (wS52 K cI cJ cZ cB p0 p1 p2 p3 p4 p5 p6 p7 p8 p9 p10 p11 p12 p13 p14 p15 x0_3 x0_4 x0_5 x0_6 x0_7 x0_8 x0_9 x0_10 x0_11 x0_12 x0_13 x0_14 x1_1 x1_2 x1_3 x1_4 x1_5 (4 : Int32) x1_7 x1_8 y2 x3_5 x3_6 y4 y5 y6 y7 y8 x9_6 y10 y11 y12 y13 y14 y15) := hD
                refine lv_aload_n hx hb d_R_readToken_186 rfl (lv_at hl 6 rfl) ?_
                refine lv_lload_n hx hb d_R_readToken_187 rfl (lv_at hl 4 rfl) ?_
                refine va_put (D := D) (ci := 4) (v := .long l2) (ty := .long) (C := "SignMachine$Source") (T := F_R) (N := 9) hx hb hk fi_R ft_R ft_R_ok fn_R hown hK.1 hP hD hS 1 rfl rfl 7 (by decide) (hk _ k_547) (fun _ h9 => h9) rfl (by decide +kernel) rfl rfl (Nat.le_of_ble_eq_true rfl) d_R_readToken_188 (fun H locs hP hD hS => ?_)
                have hP : va_P D classes (wS52 K cI cJ cZ cB p0 p1 p2 p3 p4 p5 p6 p7 p8 p9 p10 p11 p12 p13 p14 p15 x0_3 x0_4 x0_5 x0_6 x0_7 x0_8 x0_9 x0_10 x0_11 x0_12 x0_13 x0_14 x1_1 x1_2 x1_3 x1_4 x1_5 (4 : Int32) l2 x1_8 y2 x3_5 x3_6 y4 y5 y6 y7 y8 x9_6 y10 y11 y12 y13 y14 y15) H := hP
                have hD : va_D A (wS52 K cI cJ cZ cB p0 p1 p2 p3 p4 p5 p6 p7 p8 p9 p10 p11 p12 p13 p14 p15 x0_3 x0_4 x0_5 x0_6 x0_7 x0_8 x0_9 x0_10 x0_11 x0_12 x0_13 x0_14 x1_1 x1_2 x1_3 x1_4 x1_5 (4 : Int32) l2 x1_8 y2 x3_5 x3_6 y4 y5 y6 y7 y8 x9_6 y10 y11 y12 y13 y14 y15) := hD
                refine lv_aload_n hx hb d_R_readToken_191 rfl (lv_at hl 6 rfl) ?_
                refine lv_lload hx hb d_R_readToken_192 (lv_at hl 3 rfl) ?_
                refine lv_ldc2 (v := 1073741823) hx hb hown (hk _ k_766) d_R_readToken_194 ?_
                refine lv_land hx hb d_R_readToken_197 ?_
                refine lv_topl (fun v12 hv12 => ?_)
                refine lv_l2i (v := (v12 : Int64).toInt32) hx hb d_R_readToken_198 rfl ?_
                refine lv_topi (fun v13 hv13 => ?_)
                refine va_put (D := D) (ci := 4) (v := .int v13) (ty := .int) (C := "SignMachine$Source") (T := F_R) (N := 9) hx hb hk fi_R ft_R ft_R_ok fn_R hown hK.1 hP hD hS 1 rfl rfl 8 (by decide) (hk _ k_548) (fun _ h9 => h9) rfl (by decide +kernel) rfl rfl (Nat.le_of_ble_eq_true rfl) d_R_readToken_199 (fun H locs hP hD hS => ?_)
                have hP : va_P D classes (wS52 K cI cJ cZ cB p0 p1 p2 p3 p4 p5 p6 p7 p8 p9 p10 p11 p12 p13 p14 p15 x0_3 x0_4 x0_5 x0_6 x0_7 x0_8 x0_9 x0_10 x0_11 x0_12 x0_13 x0_14 x1_1 x1_2 x1_3 x1_4 x1_5 (4 : Int32) l2 v13 y2 x3_5 x3_6 y4 y5 y6 y7 y8 x9_6 y10 y11 y12 y13 y14 y15) H := hP
                have hD : va_D A (wS52 K cI cJ cZ cB p0 p1 p2 p3 p4 p5 p6 p7 p8 p9 p10 p11 p12 p13 p14 p15 x0_3 x0_4 x0_5 x0_6 x0_7 x0_8 x0_9 x0_10 x0_11 x0_12 x0_13 x0_14 x1_1 x1_2 x1_3 x1_4 x1_5 (4 : Int32) l2 v13 y2 x3_5 x3_6 y4 y5 y6 y7 y8 x9_6 y10 y11 y12 y13 y14 y15) := hD
                exact W.vret hx hb hr (fun t ht hW => ⟨⟨(), rfl, trivial, ⟨x1_3, (4 : Int32), l2, v13, by show va_P D classes _ t.heap; rw [ht]; exact hP, hD⟩⟩, hS.F ht⟩) hS.2.2 d_R_readToken_202
            · refine lv_iconst (v := 2) hx hb d_R_readToken_157 (by decide) ?_
              refine lv_goto (tgt := 162) hx hb d_R_readToken_158 (by decide) ?_
              refine va_put (D := D) (ci := 4) (v := .int (2 : Int32)) (ty := .int) (C := "SignMachine$Source") (T := F_R) (N := 9) hx hb hk fi_R ft_R ft_R_ok fn_R hown hK.1 hP hD hS 1 rfl rfl 6 (by decide) (hk _ k_545) (fun _ h9 => h9) rfl (by decide +kernel) rfl rfl (Nat.le_of_ble_eq_true rfl) d_R_readToken_162 (fun H locs hP hD hS => ?_)
              have hP : va_P D classes (wS52 K cI cJ cZ cB p0 p1 p2 p3 p4 p5 p6 p7 p8 p9 p10 p11 p12 p13 p14 p15 x0_3 x0_4 x0_5 x0_6 x0_7 x0_8 x0_9 x0_10 x0_11 x0_12 x0_13 x0_14 x1_1 x1_2 x1_3 x1_4 x1_5 (2 : Int32) x1_7 x1_8 y2 x3_5 x3_6 y4 y5 y6 y7 y8 x9_6 y10 y11 y12 y13 y14 y15) H := hP
              have hD : va_D A (wS52 K cI cJ cZ cB p0 p1 p2 p3 p4 p5 p6 p7 p8 p9 p10 p11 p12 p13 p14 p15 x0_3 x0_4 x0_5 x0_6 x0_7 x0_8 x0_9 x0_10 x0_11 x0_12 x0_13 x0_14 x1_1 x1_2 x1_3 x1_4 x1_5 (2 : Int32) x1_7 x1_8 y2 x3_5 x3_6 y4 y5 y6 y7 y8 x9_6 y10 y11 y12 y13 y14 y15) := hD
              refine lv_iload_n hx hb d_R_readToken_165 rfl (lv_at hl 5 rfl) ?_
              refine lv_iload hx hb d_R_readToken_166 (lv_at hl 2 rfl) ?_
              refine lv_if_eq (tgt := 176) hx hb d_R_readToken_168 (by decide) (fun c14 => absurd c14 (show ¬ l6 = (0 : Int32) from c7)) (fun c14 => ?_)
              refine lv_bipush (v := 8) hx hb d_R_readToken_171 (by decide) ?_
              refine lv_goto (tgt := 178) hx hb d_R_readToken_173 (by decide) ?_
              refine lv_icmp_le (tgt := 186) hx hb d_R_readToken_178 (by decide) (fun c15 => ?_) (fun c15 => ?_)
              · refine lv_aload_n hx hb d_R_readToken_186 rfl (lv_at hl 6 rfl) ?_
                refine lv_lload_n hx hb d_R_readToken_187 rfl (lv_at hl 4 rfl) ?_
                refine va_put (D := D) (ci := 4) (v := .long l2) (ty := .long) (C := "SignMachine$Source") (T := F_R) (N := 9) hx hb hk fi_R ft_R ft_R_ok fn_R hown hK.1 hP hD hS 1 rfl rfl 7 (by decide) (hk _ k_547) (fun _ h9 => h9) rfl (by decide +kernel) rfl rfl (Nat.le_of_ble_eq_true rfl) d_R_readToken_188 (fun H locs hP hD hS => ?_)
                have hP : va_P D classes (wS52 K cI cJ cZ cB p0 p1 p2 p3 p4 p5 p6 p7 p8 p9 p10 p11 p12 p13 p14 p15 x0_3 x0_4 x0_5 x0_6 x0_7 x0_8 x0_9 x0_10 x0_11 x0_12 x0_13 x0_14 x1_1 x1_2 x1_3 x1_4 x1_5 (2 : Int32) l2 x1_8 y2 x3_5 x3_6 y4 y5 y6 y7 y8 x9_6 y10 y11 y12 y13 y14 y15) H := hP
                have hD : va_D A (wS52 K cI cJ cZ cB p0 p1 p2 p3 p4 p5 p6 p7 p8 p9 p10 p11 p12 p13 p14 p15 x0_3 x0_4 x0_5 x0_6 x0_7 x0_8 x0_9 x0_10 x0_11 x0_12 x0_13 x0_14 x1_1 x1_2 x1_3 x1_4 x1_5 (2 : Int32) l2 x1_8 y2 x3_5 x3_6 y4 y5 y6 y7 y8 x9_6 y10 y11 y12 y13 y14 y15) := hD
                refine lv_aload_n hx hb d_R_readToken_191 rfl (lv_at hl 6 rfl) ?_
                refine lv_lload hx hb d_R_readToken_192 (lv_at hl 3 rfl) ?_
                refine lv_ldc2 (v := 1073741823) hx hb hown (hk _ k_766) d_R_readToken_194 ?_
                refine lv_land hx hb d_R_readToken_197 ?_
                refine lv_topl (fun v16 hv16 => ?_)
                refine lv_l2i (v := (v16 : Int64).toInt32) hx hb d_R_readToken_198 rfl ?_
                refine lv_topi (fun v17 hv17 => ?_)
                refine va_put (D := D) (ci := 4) (v := .int v17) (ty := .int) (C := "SignMachine$Source") (T := F_R) (N := 9) hx hb hk fi_R ft_R ft_R_ok fn_R hown hK.1 hP hD hS 1 rfl rfl 8 (by decide) (hk _ k_548) (fun _ h9 => h9) rfl (by decide +kernel) rfl rfl (Nat.le_of_ble_eq_true rfl) d_R_readToken_199 (fun H locs hP hD hS => ?_)
                have hP : va_P D classes (wS52 K cI cJ cZ cB p0 p1 p2 p3 p4 p5 p6 p7 p8 p9 p10 p11 p12 p13 p14 p15 x0_3 x0_4 x0_5 x0_6 x0_7 x0_8 x0_9 x0_10 x0_11 x0_12 x0_13 x0_14 x1_1 x1_2 x1_3 x1_4 x1_5 (2 : Int32) l2 v17 y2 x3_5 x3_6 y4 y5 y6 y7 y8 x9_6 y10 y11 y12 y13 y14 y15) H := hP
                have hD : va_D A (wS52 K cI cJ cZ cB p0 p1 p2 p3 p4 p5 p6 p7 p8 p9 p10 p11 p12 p13 p14 p15 x0_3 x0_4 x0_5 x0_6 x0_7 x0_8 x0_9 x0_10 x0_11 x0_12 x0_13 x0_14 x1_1 x1_2 x1_3 x1_4 x1_5 (2 : Int32) l2 v17 y2 x3_5 x3_6 y4 y5 y6 y7 y8 x9_6 y10 y11 y12 y13 y14 y15) := hD
                exact W.vret hx hb hr (fun t ht hW => ⟨⟨(), rfl, trivial, ⟨x1_3, (2 : Int32), l2, v17, by show va_P D classes _ t.heap; rw [ht]; exact hP, hD⟩⟩, hS.F ht⟩) hS.2.2 d_R_readToken_202
              · refine lv_aload_n hx hb d_R_readToken_181 rfl (lv_at hl 6 rfl) ?_
                refine lv_iconst (v := 4) hx hb d_R_readToken_182 (by decide) ?_
                refine va_put (D := D) (ci := 4) (v := .int (4 : Int32)) (ty := .int) (C := "SignMachine$Source") (T := F_R) (N := 9) hx hb hk fi_R ft_R ft_R_ok fn_R hown hK.1 hP hD hS 1 rfl rfl 6 (by decide) (hk _ k_545) (fun _ h9 => h9) rfl (by decide +kernel) rfl rfl (Nat.le_of_ble_eq_true rfl) d_R_readToken_183 (fun H locs hP hD hS => ?_)
                have hP : va_P D classes (wS52 K cI cJ cZ cB p0 p1 p2 p3 p4 p5 p6 p7 p8 p9 p10 p11 p12 p13 p14 p15 x0_3 x0_4 x0_5 x0_6 x0_7 x0_8 x0_9 x0_10 x0_11 x0_12 x0_13 x0_14 x1_1 x1_2 x1_3 x1_4 x1_5 (4 : Int32) x1_7 x1_8 y2 x3_5 x3_6 y4 y5 y6 y7 y8 x9_6 y10 y11 y12 y13 y14 y15) H := hP
                have hD : va_D A (wS52 K cI cJ cZ cB p0 p1 p2 p3 p4 p5 p6 p7 p8 p9 p10 p11 p12 p13 p14 p15 x0_3 x0_4 x0_5 x0_6 x0_7 x0_8 x0_9 x0_10 x0_11 x0_12 x0_13 x0_14 x1_1 x1_2 x1_3 x1_4 x1_5 (4 : Int32) x1_7 x1_8 y2 x3_5 x3_6 y4 y5 y6 y7 y8 x9_6 y10 y11 y12 y13 y14 y15) := hD
                refine lv_aload_n hx hb d_R_readToken_186 rfl (lv_at hl 6 rfl) ?_
                refine lv_lload_n hx hb d_R_readToken_187 rfl (lv_at hl 4 rfl) ?_
                refine va_put (D := D) (ci := 4) (v := .long l2) (ty := .long) (C := "SignMachine$Source") (T := F_R) (N := 9) hx hb hk fi_R ft_R ft_R_ok fn_R hown hK.1 hP hD hS 1 rfl rfl 7 (by decide) (hk _ k_547) (fun _ h9 => h9) rfl (by decide +kernel) rfl rfl (Nat.le_of_ble_eq_true rfl) d_R_readToken_188 (fun H locs hP hD hS => ?_)
                have hP : va_P D classes (wS52 K cI cJ cZ cB p0 p1 p2 p3 p4 p5 p6 p7 p8 p9 p10 p11 p12 p13 p14 p15 x0_3 x0_4 x0_5 x0_6 x0_7 x0_8 x0_9 x0_10 x0_11 x0_12 x0_13 x0_14 x1_1 x1_2 x1_3 x1_4 x1_5 (4 : Int32) l2 x1_8 y2 x3_5 x3_6 y4 y5 y6 y7 y8 x9_6 y10 y11 y12 y13 y14 y15) H := hP
                have hD : va_D A (wS52 K cI cJ cZ cB p0 p1 p2 p3 p4 p5 p6 p7 p8 p9 p10 p11 p12 p13 p14 p15 x0_3 x0_4 x0_5 x0_6 x0_7 x0_8 x0_9 x0_10 x0_11 x0_12 x0_13 x0_14 x1_1 x1_2 x1_3 x1_4 x1_5 (4 : Int32) l2 x1_8 y2 x3_5 x3_6 y4 y5 y6 y7 y8 x9_6 y10 y11 y12 y13 y14 y15) := hD
                refine lv_aload_n hx hb d_R_readToken_191 rfl (lv_at hl 6 rfl) ?_
                refine lv_lload hx hb d_R_readToken_192 (lv_at hl 3 rfl) ?_
                refine lv_ldc2 (v := 1073741823) hx hb hown (hk _ k_766) d_R_readToken_194 ?_
                refine lv_land hx hb d_R_readToken_197 ?_
                refine lv_topl (fun v18 hv18 => ?_)
                refine lv_l2i (v := (v18 : Int64).toInt32) hx hb d_R_readToken_198 rfl ?_
                refine lv_topi (fun v19 hv19 => ?_)
                refine va_put (D := D) (ci := 4) (v := .int v19) (ty := .int) (C := "SignMachine$Source") (T := F_R) (N := 9) hx hb hk fi_R ft_R ft_R_ok fn_R hown hK.1 hP hD hS 1 rfl rfl 8 (by decide) (hk _ k_548) (fun _ h9 => h9) rfl (by decide +kernel) rfl rfl (Nat.le_of_ble_eq_true rfl) d_R_readToken_199 (fun H locs hP hD hS => ?_)
                have hP : va_P D classes (wS52 K cI cJ cZ cB p0 p1 p2 p3 p4 p5 p6 p7 p8 p9 p10 p11 p12 p13 p14 p15 x0_3 x0_4 x0_5 x0_6 x0_7 x0_8 x0_9 x0_10 x0_11 x0_12 x0_13 x0_14 x1_1 x1_2 x1_3 x1_4 x1_5 (4 : Int32) l2 v19 y2 x3_5 x3_6 y4 y5 y6 y7 y8 x9_6 y10 y11 y12 y13 y14 y15) H := hP
                have hD : va_D A (wS52 K cI cJ cZ cB p0 p1 p2 p3 p4 p5 p6 p7 p8 p9 p10 p11 p12 p13 p14 p15 x0_3 x0_4 x0_5 x0_6 x0_7 x0_8 x0_9 x0_10 x0_11 x0_12 x0_13 x0_14 x1_1 x1_2 x1_3 x1_4 x1_5 (4 : Int32) l2 v19 y2 x3_5 x3_6 y4 y5 y6 y7 y8 x9_6 y10 y11 y12 y13 y14 y15) := hD
                exact W.vret hx hb hr (fun t ht hW => ⟨⟨(), rfl, trivial, ⟨x1_3, (4 : Int32), l2, v19, by show va_P D classes _ t.heap; rw [ht]; exact hP, hD⟩⟩, hS.F ht⟩) hS.2.2 d_R_readToken_202
          · refine lv_iconst (v := 0) hx hb d_R_readToken_148 (by decide) ?_
            refine lv_goto (tgt := 162) hx hb d_R_readToken_149 (by decide) ?_
            refine va_put (D := D) (ci := 4) (v := .int (0 : Int32)) (ty := .int) (C := "SignMachine$Source") (T := F_R) (N := 9) hx hb hk fi_R ft_R ft_R_ok fn_R hown hK.1 hP hD hS 1 rfl rfl 6 (by decide) (hk _ k_545) (fun _ h9 => h9) rfl (by decide +kernel) rfl rfl (Nat.le_of_ble_eq_true rfl) d_R_readToken_162 (fun H locs hP hD hS => ?_)
            have hP : va_P D classes (wS52 K cI cJ cZ cB p0 p1 p2 p3 p4 p5 p6 p7 p8 p9 p10 p11 p12 p13 p14 p15 x0_3 x0_4 x0_5 x0_6 x0_7 x0_8 x0_9 x0_10 x0_11 x0_12 x0_13 x0_14 x1_1 x1_2 x1_3 x1_4 x1_5 (0 : Int32) x1_7 x1_8 y2 x3_5 x3_6 y4 y5 y6 y7 y8 x9_6 y10 y11 y12 y13 y14 y15) H := hP
            have hD : va_D A (wS52 K cI cJ cZ cB p0 p1 p2 p3 p4 p5 p6 p7 p8 p9 p10 p11 p12 p13 p14 p15 x0_3 x0_4 x0_5 x0_6 x0_7 x0_8 x0_9 x0_10 x0_11 x0_12 x0_13 x0_14 x1_1 x1_2 x1_3 x1_4 x1_5 (0 : Int32) x1_7 x1_8 y2 x3_5 x3_6 y4 y5 y6 y7 y8 x9_6 y10 y11 y12 y13 y14 y15) := hD
            refine lv_iload_n hx hb d_R_readToken_165 rfl (lv_at hl 5 rfl) ?_
            refine lv_iload hx hb d_R_readToken_166 (lv_at hl 2 rfl) ?_
            refine lv_if_eq (tgt := 176) hx hb d_R_readToken_168 (by decide) (fun c20 => ?_) (fun c20 => ?_)
            · refine lv_bipush (v := 10) hx hb d_R_readToken_176 (by decide) ?_
              refine lv_icmp_le (tgt := 186) hx hb d_R_readToken_178 (by decide) (fun c21 => ?_) (fun c21 => ?_)
              · refine lv_aload_n hx hb d_R_readToken_186 rfl (lv_at hl 6 rfl) ?_
                refine lv_lload_n hx hb d_R_readToken_187 rfl (lv_at hl 4 rfl) ?_
                refine va_put (D := D) (ci := 4) (v := .long l2) (ty := .long) (C := "SignMachine$Source") (T := F_R) (N := 9) hx hb hk fi_R ft_R ft_R_ok fn_R hown hK.1 hP hD hS 1 rfl rfl 7 (by decide) (hk _ k_547) (fun _ h9 => h9) rfl (by decide +kernel) rfl rfl (Nat.le_of_ble_eq_true rfl) d_R_readToken_188 (fun H locs hP hD hS => ?_)
                have hP : va_P D classes (wS52 K cI cJ cZ cB p0 p1 p2 p3 p4 p5 p6 p7 p8 p9 p10 p11 p12 p13 p14 p15 x0_3 x0_4 x0_5 x0_6 x0_7 x0_8 x0_9 x0_10 x0_11 x0_12 x0_13 x0_14 x1_1 x1_2 x1_3 x1_4 x1_5 (0 : Int32) l2 x1_8 y2 x3_5 x3_6 y4 y5 y6 y7 y8 x9_6 y10 y11 y12 y13 y14 y15) H := hP
                have hD : va_D A (wS52 K cI cJ cZ cB p0 p1 p2 p3 p4 p5 p6 p7 p8 p9 p10 p11 p12 p13 p14 p15 x0_3 x0_4 x0_5 x0_6 x0_7 x0_8 x0_9 x0_10 x0_11 x0_12 x0_13 x0_14 x1_1 x1_2 x1_3 x1_4 x1_5 (0 : Int32) l2 x1_8 y2 x3_5 x3_6 y4 y5 y6 y7 y8 x9_6 y10 y11 y12 y13 y14 y15) := hD
                refine lv_aload_n hx hb d_R_readToken_191 rfl (lv_at hl 6 rfl) ?_
                refine lv_lload hx hb d_R_readToken_192 (lv_at hl 3 rfl) ?_
                refine lv_ldc2 (v := 1073741823) hx hb hown (hk _ k_766) d_R_readToken_194 ?_
                refine lv_land hx hb d_R_readToken_197 ?_
                refine lv_topl (fun v22 hv22 => ?_)
                refine lv_l2i (v := (v22 : Int64).toInt32) hx hb d_R_readToken_198 rfl ?_
                refine lv_topi (fun v23 hv23 => ?_)
                refine va_put (D := D) (ci := 4) (v := .int v23) (ty := .int) (C := "SignMachine$Source") (T := F_R) (N := 9) hx hb hk fi_R ft_R ft_R_ok fn_R hown hK.1 hP hD hS 1 rfl rfl 8 (by decide) (hk _ k_548) (fun _ h9 => h9) rfl (by decide +kernel) rfl rfl (Nat.le_of_ble_eq_true rfl) d_R_readToken_199 (fun H locs hP hD hS => ?_)
                have hP : va_P D classes (wS52 K cI cJ cZ cB p0 p1 p2 p3 p4 p5 p6 p7 p8 p9 p10 p11 p12 p13 p14 p15 x0_3 x0_4 x0_5 x0_6 x0_7 x0_8 x0_9 x0_10 x0_11 x0_12 x0_13 x0_14 x1_1 x1_2 x1_3 x1_4 x1_5 (0 : Int32) l2 v23 y2 x3_5 x3_6 y4 y5 y6 y7 y8 x9_6 y10 y11 y12 y13 y14 y15) H := hP
                have hD : va_D A (wS52 K cI cJ cZ cB p0 p1 p2 p3 p4 p5 p6 p7 p8 p9 p10 p11 p12 p13 p14 p15 x0_3 x0_4 x0_5 x0_6 x0_7 x0_8 x0_9 x0_10 x0_11 x0_12 x0_13 x0_14 x1_1 x1_2 x1_3 x1_4 x1_5 (0 : Int32) l2 v23 y2 x3_5 x3_6 y4 y5 y6 y7 y8 x9_6 y10 y11 y12 y13 y14 y15) := hD
                exact W.vret hx hb hr (fun t ht hW => ⟨⟨(), rfl, trivial, ⟨x1_3, (0 : Int32), l2, v23, by show va_P D classes _ t.heap; rw [ht]; exact hP, hD⟩⟩, hS.F ht⟩) hS.2.2 d_R_readToken_202
              · refine lv_aload_n hx hb d_R_readToken_181 rfl (lv_at hl 6 rfl) ?_
                refine lv_iconst (v := 4) hx hb d_R_readToken_182 (by decide) ?_
                refine va_put (D := D) (ci := 4) (v := .int (4 : Int32)) (ty := .int) (C := "SignMachine$Source") (T := F_R) (N := 9) hx hb hk fi_R ft_R ft_R_ok fn_R hown hK.1 hP hD hS 1 rfl rfl 6 (by decide) (hk _ k_545) (fun _ h9 => h9) rfl (by decide +kernel) rfl rfl (Nat.le_of_ble_eq_true rfl) d_R_readToken_183 (fun H locs hP hD hS => ?_)
                have hP : va_P D classes (wS52 K cI cJ cZ cB p0 p1 p2 p3 p4 p5 p6 p7 p8 p9 p10 p11 p12 p13 p14 p15 x0_3 x0_4 x0_5 x0_6 x0_7 x0_8 x0_9 x0_10 x0_11 x0_12 x0_13 x0_14 x1_1 x1_2 x1_3 x1_4 x1_5 (4 : Int32) x1_7 x1_8 y2 x3_5 x3_6 y4 y5 y6 y7 y8 x9_6 y10 y11 y12 y13 y14 y15) H := hP
                have hD : va_D A (wS52 K cI cJ cZ cB p0 p1 p2 p3 p4 p5 p6 p7 p8 p9 p10 p11 p12 p13 p14 p15 x0_3 x0_4 x0_5 x0_6 x0_7 x0_8 x0_9 x0_10 x0_11 x0_12 x0_13 x0_14 x1_1 x1_2 x1_3 x1_4 x1_5 (4 : Int32) x1_7 x1_8 y2 x3_5 x3_6 y4 y5 y6 y7 y8 x9_6 y10 y11 y12 y13 y14 y15) := hD
                refine lv_aload_n hx hb d_R_readToken_186 rfl (lv_at hl 6 rfl) ?_
                refine lv_lload_n hx hb d_R_readToken_187 rfl (lv_at hl 4 rfl) ?_
                refine va_put (D := D) (ci := 4) (v := .long l2) (ty := .long) (C := "SignMachine$Source") (T := F_R) (N := 9) hx hb hk fi_R ft_R ft_R_ok fn_R hown hK.1 hP hD hS 1 rfl rfl 7 (by decide) (hk _ k_547) (fun _ h9 => h9) rfl (by decide +kernel) rfl rfl (Nat.le_of_ble_eq_true rfl) d_R_readToken_188 (fun H locs hP hD hS => ?_)
                have hP : va_P D classes (wS52 K cI cJ cZ cB p0 p1 p2 p3 p4 p5 p6 p7 p8 p9 p10 p11 p12 p13 p14 p15 x0_3 x0_4 x0_5 x0_6 x0_7 x0_8 x0_9 x0_10 x0_11 x0_12 x0_13 x0_14 x1_1 x1_2 x1_3 x1_4 x1_5 (4 : Int32) l2 x1_8 y2 x3_5 x3_6 y4 y5 y6 y7 y8 x9_6 y10 y11 y12 y13 y14 y15) H := hP
                have hD : va_D A (wS52 K cI cJ cZ cB p0 p1 p2 p3 p4 p5 p6 p7 p8 p9 p10 p11 p12 p13 p14 p15 x0_3 x0_4 x0_5 x0_6 x0_7 x0_8 x0_9 x0_10 x0_11 x0_12 x0_13 x0_14 x1_1 x1_2 x1_3 x1_4 x1_5 (4 : Int32) l2 x1_8 y2 x3_5 x3_6 y4 y5 y6 y7 y8 x9_6 y10 y11 y12 y13 y14 y15) := hD
                refine lv_aload_n hx hb d_R_readToken_191 rfl (lv_at hl 6 rfl) ?_
                refine lv_lload hx hb d_R_readToken_192 (lv_at hl 3 rfl) ?_
                refine lv_ldc2 (v := 1073741823) hx hb hown (hk _ k_766) d_R_readToken_194 ?_
                refine lv_land hx hb d_R_readToken_197 ?_
                refine lv_topl (fun v24 hv24 => ?_)
                refine lv_l2i (v := (v24 : Int64).toInt32) hx hb d_R_readToken_198 rfl ?_
                refine lv_topi (fun v25 hv25 => ?_)
                refine va_put (D := D) (ci := 4) (v := .int v25) (ty := .int) (C := "SignMachine$Source") (T := F_R) (N := 9) hx hb hk fi_R ft_R ft_R_ok fn_R hown hK.1 hP hD hS 1 rfl rfl 8 (by decide) (hk _ k_548) (fun _ h9 => h9) rfl (by decide +kernel) rfl rfl (Nat.le_of_ble_eq_true rfl) d_R_readToken_199 (fun H locs hP hD hS => ?_)
                have hP : va_P D classes (wS52 K cI cJ cZ cB p0 p1 p2 p3 p4 p5 p6 p7 p8 p9 p10 p11 p12 p13 p14 p15 x0_3 x0_4 x0_5 x0_6 x0_7 x0_8 x0_9 x0_10 x0_11 x0_12 x0_13 x0_14 x1_1 x1_2 x1_3 x1_4 x1_5 (4 : Int32) l2 v25 y2 x3_5 x3_6 y4 y5 y6 y7 y8 x9_6 y10 y11 y12 y13 y14 y15) H := hP
                have hD : va_D A (wS52 K cI cJ cZ cB p0 p1 p2 p3 p4 p5 p6 p7 p8 p9 p10 p11 p12 p13 p14 p15 x0_3 x0_4 x0_5 x0_6 x0_7 x0_8 x0_9 x0_10 x0_11 x0_12 x0_13 x0_14 x1_1 x1_2 x1_3 x1_4 x1_5 (4 : Int32) l2 v25 y2 x3_5 x3_6 y4 y5 y6 y7 y8 x9_6 y10 y11 y12 y13 y14 y15) := hD
                exact W.vret hx hb hr (fun t ht hW => ⟨⟨(), rfl, trivial, ⟨x1_3, (4 : Int32), l2, v25, by show va_P D classes _ t.heap; rw [ht]; exact hP, hD⟩⟩, hS.F ht⟩) hS.2.2 d_R_readToken_202
            · refine lv_bipush (v := 8) hx hb d_R_readToken_171 (by decide) ?_
              refine lv_goto (tgt := 178) hx hb d_R_readToken_173 (by decide) ?_
              refine lv_icmp_le (tgt := 186) hx hb d_R_readToken_178 (by decide) (fun c26 => ?_) (fun c26 => ?_)
              · refine lv_aload_n hx hb d_R_readToken_186 rfl (lv_at hl 6 rfl) ?_
                refine lv_lload_n hx hb d_R_readToken_187 rfl (lv_at hl 4 rfl) ?_
                refine va_put (D := D) (ci := 4) (v := .long l2) (ty := .long) (C := "SignMachine$Source") (T := F_R) (N := 9) hx hb hk fi_R ft_R ft_R_ok fn_R hown hK.1 hP hD hS 1 rfl rfl 7 (by decide) (hk _ k_547) (fun _ h9 => h9) rfl (by decide +kernel) rfl rfl (Nat.le_of_ble_eq_true rfl) d_R_readToken_188 (fun H locs hP hD hS => ?_)
                have hP : va_P D classes (wS52 K cI cJ cZ cB p0 p1 p2 p3 p4 p5 p6 p7 p8 p9 p10 p11 p12 p13 p14 p15 x0_3 x0_4 x0_5 x0_6 x0_7 x0_8 x0_9 x0_10 x0_11 x0_12 x0_13 x0_14 x1_1 x1_2 x1_3 x1_4 x1_5 (0 : Int32) l2 x1_8 y2 x3_5 x3_6 y4 y5 y6 y7 y8 x9_6 y10 y11 y12 y13 y14 y15) H := hP
                have hD : va_D A (wS52 K cI cJ cZ cB p0 p1 p2 p3 p4 p5 p6 p7 p8 p9 p10 p11 p12 p13 p14 p15 x0_3 x0_4 x0_5 x0_6 x0_7 x0_8 x0_9 x0_10 x0_11 x0_12 x0_13 x0_14 x1_1 x1_2 x1_3 x1_4 x1_5 (0 : Int32) l2 x1_8 y2 x3_5 x3_6 y4 y5 y6 y7 y8 x9_6 y10 y11 y12 y13 y14 y15) := hD
                refine lv_aload_n hx hb d_R_readToken_191 rfl (lv_at hl 6 rfl) ?_
                refine lv_lload hx hb d_R_readToken_192 (lv_at hl 3 rfl) ?_
                refine lv_ldc2 (v := 1073741823) hx hb hown (hk _ k_766) d_R_readToken_194 ?_
                refine lv_land hx hb d_R_readToken_197 ?_
                refine lv_topl (fun v27 hv27 => ?_)
                refine lv_l2i (v := (v27 : Int64).toInt32) hx hb d_R_readToken_198 rfl ?_
                refine lv_topi (fun v28 hv28 => ?_)
                refine va_put (D := D) (ci := 4) (v := .int v28) (ty := .int) (C := "SignMachine$Source") (T := F_R) (N := 9) hx hb hk fi_R ft_R ft_R_ok fn_R hown hK.1 hP hD hS 1 rfl rfl 8 (by decide) (hk _ k_548) (fun _ h9 => h9) rfl (by decide +kernel) rfl rfl (Nat.le_of_ble_eq_true rfl) d_R_readToken_199 (fun H locs hP hD hS => ?_)
                have hP : va_P D classes (wS52 K cI cJ cZ cB p0 p1 p2 p3 p4 p5 p6 p7 p8 p9 p10 p11 p12 p13 p14 p15 x0_3 x0_4 x0_5 x0_6 x0_7 x0_8 x0_9 x0_10 x0_11 x0_12 x0_13 x0_14 x1_1 x1_2 x1_3 x1_4 x1_5 (0 : Int32) l2 v28 y2 x3_5 x3_6 y4 y5 y6 y7 y8 x9_6 y10 y11 y12 y13 y14 y15) H := hP
                have hD : va_D A (wS52 K cI cJ cZ cB p0 p1 p2 p3 p4 p5 p6 p7 p8 p9 p10 p11 p12 p13 p14 p15 x0_3 x0_4 x0_5 x0_6 x0_7 x0_8 x0_9 x0_10 x0_11 x0_12 x0_13 x0_14 x1_1 x1_2 x1_3 x1_4 x1_5 (0 : Int32) l2 v28 y2 x3_5 x3_6 y4 y5 y6 y7 y8 x9_6 y10 y11 y12 y13 y14 y15) := hD
                exact W.vret hx hb hr (fun t ht hW => ⟨⟨(), rfl, trivial, ⟨x1_3, (0 : Int32), l2, v28, by show va_P D classes _ t.heap; rw [ht]; exact hP, hD⟩⟩, hS.F ht⟩) hS.2.2 d_R_readToken_202
              · refine lv_aload_n hx hb d_R_readToken_181 rfl (lv_at hl 6 rfl) ?_
                refine lv_iconst (v := 4) hx hb d_R_readToken_182 (by decide) ?_
                refine va_put (D := D) (ci := 4) (v := .int (4 : Int32)) (ty := .int) (C := "SignMachine$Source") (T := F_R) (N := 9) hx hb hk fi_R ft_R ft_R_ok fn_R hown hK.1 hP hD hS 1 rfl rfl 6 (by decide) (hk _ k_545) (fun _ h9 => h9) rfl (by decide +kernel) rfl rfl (Nat.le_of_ble_eq_true rfl) d_R_readToken_183 (fun H locs hP hD hS => ?_)
                have hP : va_P D classes (wS52 K cI cJ cZ cB p0 p1 p2 p3 p4 p5 p6 p7 p8 p9 p10 p11 p12 p13 p14 p15 x0_3 x0_4 x0_5 x0_6 x0_7 x0_8 x0_9 x0_10 x0_11 x0_12 x0_13 x0_14 x1_1 x1_2 x1_3 x1_4 x1_5 (4 : Int32) x1_7 x1_8 y2 x3_5 x3_6 y4 y5 y6 y7 y8 x9_6 y10 y11 y12 y13 y14 y15) H := hP
                have hD : va_D A (wS52 K cI cJ cZ cB p0 p1 p2 p3 p4 p5 p6 p7 p8 p9 p10 p11 p12 p13 p14 p15 x0_3 x0_4 x0_5 x0_6 x0_7 x0_8 x0_9 x0_10 x0_11 x0_12 x0_13 x0_14 x1_1 x1_2 x1_3 x1_4 x1_5 (4 : Int32) x1_7 x1_8 y2 x3_5 x3_6 y4 y5 y6 y7 y8 x9_6 y10 y11 y12 y13 y14 y15) := hD
                refine lv_aload_n hx hb d_R_readToken_186 rfl (lv_at hl 6 rfl) ?_
                refine lv_lload_n hx hb d_R_readToken_187 rfl (lv_at hl 4 rfl) ?_
                refine va_put (D := D) (ci := 4) (v := .long l2) (ty := .long) (C := "SignMachine$Source") (T := F_R) (N := 9) hx hb hk fi_R ft_R ft_R_ok fn_R hown hK.1 hP hD hS 1 rfl rfl 7 (by decide) (hk _ k_547) (fun _ h9 => h9) rfl (by decide +kernel) rfl rfl (Nat.le_of_ble_eq_true rfl) d_R_readToken_188 (fun H locs hP hD hS => ?_)
                have hP : va_P D classes (wS52 K cI cJ cZ cB p0 p1 p2 p3 p4 p5 p6 p7 p8 p9 p10 p11 p12 p13 p14 p15 x0_3 x0_4 x0_5 x0_6 x0_7 x0_8 x0_9 x0_10 x0_11 x0_12 x0_13 x0_14 x1_1 x1_2 x1_3 x1_4 x1_5 (4 : Int32) l2 x1_8 y2 x3_5 x3_6 y4 y5 y6 y7 y8 x9_6 y10 y11 y12 y13 y14 y15) H := hP
                have hD : va_D A (wS52 K cI cJ cZ cB p0 p1 p2 p3 p4 p5 p6 p7 p8 p9 p10 p11 p12 p13 p14 p15 x0_3 x0_4 x0_5 x0_6 x0_7 x0_8 x0_9 x0_10 x0_11 x0_12 x0_13 x0_14 x1_1 x1_2 x1_3 x1_4 x1_5 (4 : Int32) l2 x1_8 y2 x3_5 x3_6 y4 y5 y6 y7 y8 x9_6 y10 y11 y12 y13 y14 y15) := hD
                refine lv_aload_n hx hb d_R_readToken_191 rfl (lv_at hl 6 rfl) ?_
                refine lv_lload hx hb d_R_readToken_192 (lv_at hl 3 rfl) ?_
                refine lv_ldc2 (v := 1073741823) hx hb hown (hk _ k_766) d_R_readToken_194 ?_
                refine lv_land hx hb d_R_readToken_197 ?_
                refine lv_topl (fun v29 hv29 => ?_)
                refine lv_l2i (v := (v29 : Int64).toInt32) hx hb d_R_readToken_198 rfl ?_
                refine lv_topi (fun v30 hv30 => ?_)
                refine va_put (D := D) (ci := 4) (v := .int v30) (ty := .int) (C := "SignMachine$Source") (T := F_R) (N := 9) hx hb hk fi_R ft_R ft_R_ok fn_R hown hK.1 hP hD hS 1 rfl rfl 8 (by decide) (hk _ k_548) (fun _ h9 => h9) rfl (by decide +kernel) rfl rfl (Nat.le_of_ble_eq_true rfl) d_R_readToken_199 (fun H locs hP hD hS => ?_)
                have hP : va_P D classes (wS52 K cI cJ cZ cB p0 p1 p2 p3 p4 p5 p6 p7 p8 p9 p10 p11 p12 p13 p14 p15 x0_3 x0_4 x0_5 x0_6 x0_7 x0_8 x0_9 x0_10 x0_11 x0_12 x0_13 x0_14 x1_1 x1_2 x1_3 x1_4 x1_5 (4 : Int32) l2 v30 y2 x3_5 x3_6 y4 y5 y6 y7 y8 x9_6 y10 y11 y12 y13 y14 y15) H := hP
                have hD : va_D A (wS52 K cI cJ cZ cB p0 p1 p2 p3 p4 p5 p6 p7 p8 p9 p10 p11 p12 p13 p14 p15 x0_3 x0_4 x0_5 x0_6 x0_7 x0_8 x0_9 x0_10 x0_11 x0_12 x0_13 x0_14 x1_1 x1_2 x1_3 x1_4 x1_5 (4 : Int32) l2 v30 y2 x3_5 x3_6 y4 y5 y6 y7 y8 x9_6 y10 y11 y12 y13 y14 y15) := hD
                exact W.vret hx hb hr (fun t ht hW => ⟨⟨(), rfl, trivial, ⟨x1_3, (4 : Int32), l2, v30, by show va_P D classes _ t.heap; rw [ht]; exact hP, hD⟩⟩, hS.F ht⟩) hS.2.2 d_R_readToken_202
        · refine lv_iload hx hb d_R_readToken_54 (lv_at hl 1 rfl) ?_
          refine lv_if_eq (tgt := 143) hx hb d_R_readToken_56 (by decide) (fun c31 => ?_) (fun c31 => ?_)
          · refine lv_aload_n hx hb d_R_readToken_143 rfl (lv_at hl 6 rfl) ?_
            refine lv_iload_n hx hb d_R_readToken_144 rfl (lv_at hl 5 rfl) ?_
            refine lv_if_ne (tgt := 152) hx hb d_R_readToken_145 (by decide) (fun c32 => ?_) (fun c32 => ?_)
            · refine lv_iload hx hb d_R_readToken_152 (lv_at hl 2 rfl) ?_
              refine lv_if_eq (tgt := 161) hx hb d_R_readToken_154 (by decide) (fun c33 => ?_) (fun c33 => ?_)
              · refine lv_iconst (v := 1) hx hb d_R_readToken_161 (by decide) ?_
                refine va_put (D := D) (ci := 4) (v := .int (1 : Int32)) (ty := .int) (C := "SignMachine$Source") (T := F_R) (N := 9) hx hb hk fi_R ft_R ft_R_ok fn_R hown hK.1 hP hD hS 1 rfl rfl 6 (by decide) (hk _ k_545) (fun _ h9 => h9) rfl (by decide +kernel) rfl rfl (Nat.le_of_ble_eq_true rfl) d_R_readToken_162 (fun H locs hP hD hS => ?_)
                have hP : va_P D classes (wS52 K cI cJ cZ cB p0 p1 p2 p3 p4 p5 p6 p7 p8 p9 p10 p11 p12 p13 p14 p15 x0_3 x0_4 x0_5 x0_6 x0_7 x0_8 x0_9 x0_10 x0_11 x0_12 x0_13 x0_14 x1_1 x1_2 x1_3 x1_4 x1_5 (1 : Int32) x1_7 x1_8 y2 x3_5 x3_6 y4 y5 y6 y7 y8 x9_6 y10 y11 y12 y13 y14 y15) H := hP
                have hD : va_D A (wS52 K cI cJ cZ cB p0 p1 p2 p3 p4 p5 p6 p7 p8 p9 p10 p11 p12 p13 p14 p15 x0_3 x0_4 x0_5 x0_6 x0_7 x0_8 x0_9 x0_10 x0_11 x0_12 x0_13 x0_14 x1_1 x1_2 x1_3 x1_4 x1_5 (1 : Int32) x1_7 x1_8 y2 x3_5 x3_6 y4 y5 y6 y7 y8 x9_6 y10 y11 y12 y13 y14 y15) := hD
                refine lv_iload_n hx hb d_R_readToken_165 rfl (lv_at hl 5 rfl) ?_
                refine lv_iload hx hb d_R_readToken_166 (lv_at hl 2 rfl) ?_
                refine lv_if_eq (tgt := 176) hx hb d_R_readToken_168 (by decide) (fun c34 => ?_) (fun c34 => absurd (show l6 = (0 : Int32) from c33) c34)
                refine lv_bipush (v := 10) hx hb d_R_readToken_176 (by decide) ?_
                refine lv_icmp_le (tgt := 186) hx hb d_R_readToken_178 (by decide) (fun c35 => ?_) (fun c35 => ?_)
                · refine lv_aload_n hx hb d_R_readToken_186 rfl (lv_at hl 6 rfl) ?_
                  refine lv_lload_n hx hb d_R_readToken_187 rfl (lv_at hl 4 rfl) ?_
                  refine va_put (D := D) (ci := 4) (v := .long l2) (ty := .long) (C := "SignMachine$Source") (T := F_R) (N := 9) hx hb hk fi_R ft_R ft_R_ok fn_R hown hK.1 hP hD hS 1 rfl rfl 7 (by decide) (hk _ k_547) (fun _ h9 => h9) rfl (by decide +kernel) rfl rfl (Nat.le_of_ble_eq_true rfl) d_R_readToken_188 (fun H locs hP hD hS => ?_)
                  have hP : va_P D classes (wS52 K cI cJ cZ cB p0 p1 p2 p3 p4 p5 p6 p7 p8 p9 p10 p11 p12 p13 p14 p15 x0_3 x0_4 x0_5 x0_6 x0_7 x0_8 x0_9 x0_10 x0_11 x0_12 x0_13 x0_14 x1_1 x1_2 x1_3 x1_4 x1_5 (1 : Int32) l2 x1_8 y2 x3_5 x3_6 y4 y5 y6 y7 y8 x9_6 y10 y11 y12 y13 y14 y15) H := hP
                  have hD : va_D A (wS52 K cI cJ cZ cB p0 p1 p2 p3 p4 p5 p6 p7 p8 p9 p10 p11 p12 p13 p14 p15 x0_3 x0_4 x0_5 x0_6 x0_7 x0_8 x0_9 x0_10 x0_11 x0_12 x0_13 x0_14 x1_1 x1_2 x1_3 x1_4 x1_5 (1 : Int32) l2 x1_8 y2 x3_5 x3_6 y4 y5 y6 y7 y8 x9_6 y10 y11 y12 y13 y14 y15) := hD
                  refine lv_aload_n hx hb d_R_readToken_191 rfl (lv_at hl 6 rfl) ?_
                  refine lv_lload hx hb d_R_readToken_192 (lv_at hl 3 rfl) ?_
                  refine lv_ldc2 (v := 1073741823) hx hb hown (hk _ k_766) d_R_readToken_194 ?_
                  refine lv_land hx hb d_R_readToken_197 ?_
                  refine lv_topl (fun v36 hv36 => ?_)
                  refine lv_l2i (v := (v36 : Int64).toInt32) hx hb d_R_readToken_198 rfl ?_
                  refine lv_topi (fun v37 hv37 => ?_)
                  refine va_put (D := D) (ci := 4) (v := .int v37) (ty := .int) (C := "SignMachine$Source") (T := F_R) (N := 9) hx hb hk fi_R ft_R ft_R_ok fn_R hown hK.1 hP hD hS 1 rfl rfl 8 (by decide) (hk _ k_548) (fun _ h9 => h9) rfl (by decide +kernel) rfl rfl (Nat.le_of_ble_eq_true rfl) d_R_readToken_199 (fun H locs hP hD hS => ?_)
                  have hP : va_P D classes (wS52 K cI cJ cZ cB p0 p1 p2 p3 p4 p5 p6 p7 p8 p9 p10 p11 p12 p13 p14 p15 x0_3 x0_4 x0_5 x0_6 x0_7 x0_8 x0_9 x0_10 x0_11 x0_12 x0_13 x0_14 x1_1 x1_2 x1_3 x1_4 x1_5 (1 : Int32) l2 v37 y2 x3_5 x3_6 y4 y5 y6 y7 y8 x9_6 y10 y11 y12 y13 y14 y15) H := hP
                  have hD : va_D A (wS52 K cI cJ cZ cB p0 p1 p2 p3 p4 p5 p6 p7 p8 p9 p10 p11 p12 p13 p14 p15 x0_3 x0_4 x0_5 x0_6 x0_7 x0_8 x0_9 x0_10 x0_11 x0_12 x0_13 x0_14 x1_1 x1_2 x1_3 x1_4 x1_5 (1 : Int32) l2 v37 y2 x3_5 x3_6 y4 y5 y6 y7 y8 x9_6 y10 y11 y12 y13 y14 y15) := hD
                  exact W.vret hx hb hr (fun t ht hW => ⟨⟨(), rfl, trivial, ⟨x1_3, (1 : Int32), l2, v37, by show va_P D classes _ t.heap; rw [ht]; exact hP, hD⟩⟩, hS.F ht⟩) hS.2.2 d_R_readToken_202
                · refine lv_aload_n hx hb d_R_readToken_181 rfl (lv_at hl 6 rfl) ?_
                  refine lv_iconst (v := 4) hx hb d_R_readToken_182 (by decide) ?_
                  refine va_put (D := D) (ci := 4) (v := .int (4 : Int32)) (ty := .int) (C := "SignMachine$Source") (T := F_R) (N := 9) hx hb hk fi_R ft_R ft_R_ok fn_R hown hK.1 hP hD hS 1 rfl rfl 6 (by decide) (hk _ k_545) (fun _ h9 => h9) rfl (by decide +kernel) rfl rfl (Nat.le_of_ble_eq_true rfl) d_R_readToken_183 (fun H locs hP hD hS => ?_)
                  have hP : va_P D classes (wS52 K cI cJ cZ cB p0 p1 p2 p3 p4 p5 p6 p7 p8 p9 p10 p11 p12 p13 p14 p15 x0_3 x0_4 x0_5 x0_6 x0_7 x0_8 x0_9 x0_10 x0_11 x0_12 x0_13 x0_14 x1_1 x1_2 x1_3 x1_4 x1_5 (4 : Int32) x1_7 x1_8 y2 x3_5 x3_6 y4 y5 y6 y7 y8 x9_6 y10 y11 y12 y13 y14 y15) H := hP
                  have hD : va_D A (wS52 K cI cJ cZ cB p0 p1 p2 p3 p4 p5 p6 p7 p8 p9 p10 p11 p12 p13 p14 p15 x0_3 x0_4 x0_5 x0_6 x0_7 x0_8 x0_9 x0_10 x0_11 x0_12 x0_13 x0_14 x1_1 x1_2 x1_3 x1_4 x1_5 (4 : Int32) x1_7 x1_8 y2 x3_5 x3_6 y4 y5 y6 y7 y8 x9_6 y10 y11 y12 y13 y14 y15) := hD
                  refine lv_aload_n hx hb d_R_readToken_186 rfl (lv_at hl 6 rfl) ?_
                  refine lv_lload_n hx hb d_R_readToken_187 rfl (lv_at hl 4 rfl) ?_
                  refine va_put (D := D) (ci := 4) (v := .long l2) (ty := .long) (C := "SignMachine$Source") (T := F_R) (N := 9) hx hb hk fi_R ft_R ft_R_ok fn_R hown hK.1 hP hD hS 1 rfl rfl 7 (by decide) (hk _ k_547) (fun _ h9 => h9) rfl (by decide +kernel) rfl rfl (Nat.le_of_ble_eq_true rfl) d_R_readToken_188 (fun H locs hP hD hS => ?_)
                  have hP : va_P D classes (wS52 K cI cJ cZ cB p0 p1 p2 p3 p4 p5 p6 p7 p8 p9 p10 p11 p12 p13 p14 p15 x0_3 x0_4 x0_5 x0_6 x0_7 x0_8 x0_9 x0_10 x0_11 x0_12 x0_13 x0_14 x1_1 x1_2 x1_3 x1_4 x1_5 (4 : Int32) l2 x1_8 y2 x3_5 x3_6 y4 y5 y6 y7 y8 x9_6 y10 y11 y12 y13 y14 y15) H := hP
                  have hD : va_D A (wS52 K cI cJ cZ cB p0 p1 p2 p3 p4 p5 p6 p7 p8 p9 p10 p11 p12 p13 p14 p15 x0_3 x0_4 x0_5 x0_6 x0_7 x0_8 x0_9 x0_10 x0_11 x0_12 x0_13 x0_14 x1_1 x1_2 x1_3 x1_4 x1_5 (4 : Int32) l2 x1_8 y2 x3_5 x3_6 y4 y5 y6 y7 y8 x9_6 y10 y11 y12 y13 y14 y15) := hD
                  refine lv_aload_n hx hb d_R_readToken_191 rfl (lv_at hl 6 rfl) ?_
                  refine lv_lload hx hb d_R_readToken_192 (lv_at hl 3 rfl) ?_
                  refine lv_ldc2 (v := 1073741823) hx hb hown (hk _ k_766) d_R_readToken_194 ?_
                  refine lv_land hx hb d_R_readToken_197 ?_
                  refine lv_topl (fun v38 hv38 => ?_)
                  refine lv_l2i (v := (v38 : Int64).toInt32) hx hb d_R_readToken_198 rfl ?_
                  refine lv_topi (fun v39 hv39 => ?_)
                  refine va_put (D := D) (ci := 4) (v := .int v39) (ty := .int) (C := "SignMachine$Source") (T := F_R) (N := 9) hx hb hk fi_R ft_R ft_R_ok fn_R hown hK.1 hP hD hS 1 rfl rfl 8 (by decide) (hk _ k_548) (fun _ h9 => h9) rfl (by decide +kernel) rfl rfl (Nat.le_of_ble_eq_true rfl) d_R_readToken_199 (fun H locs hP hD hS => ?_)
                  have hP : va_P D classes (wS52 K cI cJ cZ cB p0 p1 p2 p3 p4 p5 p6 p7 p8 p9 p10 p11 p12 p13 p14 p15 x0_3 x0_4 x0_5 x0_6 x0_7 x0_8 x0_9 x0_10 x0_11 x0_12 x0_13 x0_14 x1_1 x1_2 x1_3 x1_4 x1_5 (4 : Int32) l2 v39 y2 x3_5 x3_6 y4 y5 y6 y7 y8 x9_6 y10 y11 y12 y13 y14 y15) H := hP
                  have hD : va_D A (wS52 K cI cJ cZ cB p0 p1 p2 p3 p4 p5 p6 p7 p8 p9 p10 p11 p12 p13 p14 p15 x0_3 x0_4 x0_5 x0_6 x0_7 x0_8 x0_9 x0_10 x0_11 x0_12 x0_13 x0_14 x1_1 x1_2 x1_3 x1_4 x1_5 (4 : Int32) l2 v39 y2 x3_5 x3_6 y4 y5 y6 y7 y8 x9_6 y10 y11 y12 y13 y14 y15) := hD
                  exact W.vret hx hb hr (fun t ht hW => ⟨⟨(), rfl, trivial, ⟨x1_3, (4 : Int32), l2, v39, by show va_P D classes _ t.heap; rw [ht]; exact hP, hD⟩⟩, hS.F ht⟩) hS.2.2 d_R_readToken_202
              · refine lv_iconst (v := 2) hx hb d_R_readToken_157 (by decide) ?_
                refine lv_goto (tgt := 162) hx hb d_R_readToken_158 (by decide) ?_
                refine va_put (D := D) (ci := 4) (v := .int (2 : Int32)) (ty := .int) (C := "SignMachine$Source") (T := F_R) (N := 9) hx hb hk fi_R ft_R ft_R_ok fn_R hown hK.1 hP hD hS 1 rfl rfl 6 (by decide) (hk _ k_545) (fun _ h9 => h9) rfl (by decide +kernel) rfl rfl (Nat.le_of_ble_eq_true rfl) d_R_readToken_162 (fun H locs hP hD hS => ?_)
                have hP : va_P D classes (wS52 K cI cJ cZ cB p0 p1 p2 p3 p4 p5 p6 p7 p8 p9 p10 p11 p12 p13 p14 p15 x0_3 x0_4 x0_5 x0_6 x0_7 x0_8 x0_9 x0_10 x0_11 x0_12 x0_13 x0_14 x1_1 x1_2 x1_3 x1_4 x1_5 (2 : Int32) x1_7 x1_8 y2 x3_5 x3_6 y4 y5 y6 y7 y8 x9_6 y10 y11 y12 y13 y14 y15) H := hP
                have hD : va_D A (wS52 K cI cJ cZ cB p0 p1 p2 p3 p4 p5 p6 p7 p8 p9 p10 p11 p12 p13 p14 p15 x0_3 x0_4 x0_5 x0_6 x0_7 x0_8 x0_9 x0_10 x0_11 x0_12 x0_13 x0_14 x1_1 x1_2 x1_3 x1_4 x1_5 (2 : Int32) x1_7 x1_8 y2 x3_5 x3_6 y4 y5 y6 y7 y8 x9_6 y10 y11 y12 y13 y14 y15) := hD
                refine lv_iload_n hx hb d_R_readToken_165 rfl (lv_at hl 5 rfl) ?_
                refine lv_iload hx hb d_R_readToken_166 (lv_at hl 2 rfl) ?_
                refine lv_if_eq (tgt := 176) hx hb d_R_readToken_168 (by decide) (fun c40 => absurd c40 (show ¬ l6 = (0 : Int32) from c33)) (fun c40 => ?_)
                refine lv_bipush (v := 8) hx hb d_R_readToken_171 (by decide) ?_
                refine lv_goto (tgt := 178) hx hb d_R_readToken_173 (by decide) ?_
                refine lv_icmp_le (tgt := 186) hx hb d_R_readToken_178 (by decide) (fun c41 => ?_) (fun c41 => ?_)
                · refine lv_aload_n hx hb d_R_readToken_186 rfl (lv_at hl 6 rfl) ?_
                  refine lv_lload_n hx hb d_R_readToken_187 rfl (lv_at hl 4 rfl) ?_
                  refine va_put (D := D) (ci := 4) (v := .long l2) (ty := .long) (C := "SignMachine$Source") (T := F_R) (N := 9) hx hb hk fi_R ft_R ft_R_ok fn_R hown hK.1 hP hD hS 1 rfl rfl 7 (by decide) (hk _ k_547) (fun _ h9 => h9) rfl (by decide +kernel) rfl rfl (Nat.le_of_ble_eq_true rfl) d_R_readToken_188 (fun H locs hP hD hS => ?_)
                  have hP : va_P D classes (wS52 K cI cJ cZ cB p0 p1 p2 p3 p4 p5 p6 p7 p8 p9 p10 p11 p12 p13 p14 p15 x0_3 x0_4 x0_5 x0_6 x0_7 x0_8 x0_9 x0_10 x0_11 x0_12 x0_13 x0_14 x1_1 x1_2 x1_3 x1_4 x1_5 (2 : Int32) l2 x1_8 y2 x3_5 x3_6 y4 y5 y6 y7 y8 x9_6 y10 y11 y12 y13 y14 y15) H := hP
                  have hD : va_D A (wS52 K cI cJ cZ cB p0 p1 p2 p3 p4 p5 p6 p7 p8 p9 p10 p11 p12 p13 p14 p15 x0_3 x0_4 x0_5 x0_6 x0_7 x0_8 x0_9 x0_10 x0_11 x0_12 x0_13 x0_14 x1_1 x1_2 x1_3 x1_4 x1_5 (2 : Int32) l2 x1_8 y2 x3_5 x3_6 y4 y5 y6 y7 y8 x9_6 y10 y11 y12 y13 y14 y15) := hD
                  refine lv_aload_n hx hb d_R_readToken_191 rfl (lv_at hl 6 rfl) ?_
                  refine lv_lload hx hb d_R_readToken_192 (lv_at hl 3 rfl) ?_
                  refine lv_ldc2 (v := 1073741823) hx hb hown (hk _ k_766) d_R_readToken_194 ?_
                  refine lv_land hx hb d_R_readToken_197 ?_
                  refine lv_topl (fun v42 hv42 => ?_)
                  refine lv_l2i (v := (v42 : Int64).toInt32) hx hb d_R_readToken_198 rfl ?_
                  refine lv_topi (fun v43 hv43 => ?_)
                  refine va_put (D := D) (ci := 4) (v := .int v43) (ty := .int) (C := "SignMachine$Source") (T := F_R) (N := 9) hx hb hk fi_R ft_R ft_R_ok fn_R hown hK.1 hP hD hS 1 rfl rfl 8 (by decide) (hk _ k_548) (fun _ h9 => h9) rfl (by decide +kernel) rfl rfl (Nat.le_of_ble_eq_true rfl) d_R_readToken_199 (fun H locs hP hD hS => ?_)
                  have hP : va_P D classes (wS52 K cI cJ cZ cB p0 p1 p2 p3 p4 p5 p6 p7 p8 p9 p10 p11 p12 p13 p14 p15 x0_3 x0_4 x0_5 x0_6 x0_7 x0_8 x0_9 x0_10 x0_11 x0_12 x0_13 x0_14 x1_1 x1_2 x1_3 x1_4 x1_5 (2 : Int32) l2 v43 y2 x3_5 x3_6 y4 y5 y6 y7 y8 x9_6 y10 y11 y12 y13 y14 y15) H := hP
                  have hD : va_D A (wS52 K cI cJ cZ cB p0 p1 p2 p3 p4 p5 p6 p7 p8 p9 p10 p11 p12 p13 p14 p15 x0_3 x0_4 x0_5 x0_6 x0_7 x0_8 x0_9 x0_10 x0_11 x0_12 x0_13 x0_14 x1_1 x1_2 x1_3 x1_4 x1_5 (2 : Int32) l2 v43 y2 x3_5 x3_6 y4 y5 y6 y7 y8 x9_6 y10 y11 y12 y13 y14 y15) := hD
                  exact W.vret hx hb hr (fun t ht hW => ⟨⟨(), rfl, trivial, ⟨x1_3, (2 : Int32), l2, v43, by show va_P D classes _ t.heap; rw [ht]; exact hP, hD⟩⟩, hS.F ht⟩) hS.2.2 d_R_readToken_202
                · refine lv_aload_n hx hb d_R_readToken_181 rfl (lv_at hl 6 rfl) ?_
                  refine lv_iconst (v := 4) hx hb d_R_readToken_182 (by decide) ?_
                  refine va_put (D := D) (ci := 4) (v := .int (4 : Int32)) (ty := .int) (C := "SignMachine$Source") (T := F_R) (N := 9) hx hb hk fi_R ft_R ft_R_ok fn_R hown hK.1 hP hD hS 1 rfl rfl 6 (by decide) (hk _ k_545) (fun _ h9 => h9) rfl (by decide +kernel) rfl rfl (Nat.le_of_ble_eq_true rfl) d_R_readToken_183 (fun H locs hP hD hS => ?_)
                  have hP : va_P D classes (wS52 K cI cJ cZ cB p0 p1 p2 p3 p4 p5 p6 p7 p8 p9 p10 p11 p12 p13 p14 p15 x0_3 x0_4 x0_5 x0_6 x0_7 x0_8 x0_9 x0_10 x0_11 x0_12 x0_13 x0_14 x1_1 x1_2 x1_3 x1_4 x1_5 (4 : Int32) x1_7 x1_8 y2 x3_5 x3_6 y4 y5 y6 y7 y8 x9_6 y10 y11 y12 y13 y14 y15) H := hP
                  have hD : va_D A (wS52 K cI cJ cZ cB p0 p1 p2 p3 p4 p5 p6 p7 p8 p9 p10 p11 p12 p13 p14 p15 x0_3 x0_4 x0_5 x0_6 x0_7 x0_8 x0_9 x0_10 x0_11 x0_12 x0_13 x0_14 x1_1 x1_2 x1_3 x1_4 x1_5 (4 : Int32) x1_7 x1_8 y2 x3_5 x3_6 y4 y5 y6 y7 y8 x9_6 y10 y11 y12 y13 y14 y15) := hD
                  refine lv_aload_n hx hb d_R_readToken_186 rfl (lv_at hl 6 rfl) ?_
                  refine lv_lload_n hx hb d_R_readToken_187 rfl (lv_at hl 4 rfl) ?_
                  refine va_put (D := D) (ci := 4) (v := .long l2) (ty := .long) (C := "SignMachine$Source") (T := F_R) (N := 9) hx hb hk fi_R ft_R ft_R_ok fn_R hown hK.1 hP hD hS 1 rfl rfl 7 (by decide) (hk _ k_547) (fun _ h9 => h9) rfl (by decide +kernel) rfl rfl (Nat.le_of_ble_eq_true rfl) d_R_readToken_188 (fun H locs hP hD hS => ?_)
                  have hP : va_P D classes (wS52 K cI cJ cZ cB p0 p1 p2 p3 p4 p5 p6 p7 p8 p9 p10 p11 p12 p13 p14 p15 x0_3 x0_4 x0_5 x0_6 x0_7 x0_8 x0_9 x0_10 x0_11 x0_12 x0_13 x0_14 x1_1 x1_2 x1_3 x1_4 x1_5 (4 : Int32) l2 x1_8 y2 x3_5 x3_6 y4 y5 y6 y7 y8 x9_6 y10 y11 y12 y13 y14 y15) H := hP
                  have hD : va_D A (wS52 K cI cJ cZ cB p0 p1 p2 p3 p4 p5 p6 p7 p8 p9 p10 p11 p12 p13 p14 p15 x0_3 x0_4 x0_5 x0_6 x0_7 x0_8 x0_9 x0_10 x0_11 x0_12 x0_13 x0_14 x1_1 x1_2 x1_3 x1_4 x1_5 (4 : Int32) l2 x1_8 y2 x3_5 x3_6 y4 y5 y6 y7 y8 x9_6 y10 y11 y12 y13 y14 y15) := hD
                  refine lv_aload_n hx hb d_R_readToken_191 rfl (lv_at hl 6 rfl) ?_
                  refine lv_lload hx hb d_R_readToken_192 (lv_at hl 3 rfl) ?_
                  refine lv_ldc2 (v := 1073741823) hx hb hown (hk _ k_766) d_R_readToken_194 ?_
                  refine lv_land hx hb d_R_readToken_197 ?_
                  refine lv_topl (fun v44 hv44 => ?_)
                  refine lv_l2i (v := (v44 : Int64).toInt32) hx hb d_R_readToken_198 rfl ?_
                  refine lv_topi (fun v45 hv45 => ?_)
                  refine va_put (D := D) (ci := 4) (v := .int v45) (ty := .int) (C := "SignMachine$Source") (T := F_R) (N := 9) hx hb hk fi_R ft_R ft_R_ok fn_R hown hK.1 hP hD hS 1 rfl rfl 8 (by decide) (hk _ k_548) (fun _ h9 => h9) rfl (by decide +kernel) rfl rfl (Nat.le_of_ble_eq_true rfl) d_R_readToken_199 (fun H locs hP hD hS => ?_)
                  have hP : va_P D classes (wS52 K cI cJ cZ cB p0 p1 p2 p3 p4 p5 p6 p7 p8 p9 p10 p11 p12 p13 p14 p15 x0_3 x0_4 x0_5 x0_6 x0_7 x0_8 x0_9 x0_10 x0_11 x0_12 x0_13 x0_14 x1_1 x1_2 x1_3 x1_4 x1_5 (4 : Int32) l2 v45 y2 x3_5 x3_6 y4 y5 y6 y7 y8 x9_6 y10 y11 y12 y13 y14 y15) H := hP
                  have hD : va_D A (wS52 K cI cJ cZ cB p0 p1 p2 p3 p4 p5 p6 p7 p8 p9 p10 p11 p12 p13 p14 p15 x0_3 x0_4 x0_5 x0_6 x0_7 x0_8 x0_9 x0_10 x0_11 x0_12 x0_13 x0_14 x1_1 x1_2 x1_3 x1_4 x1_5 (4 : Int32) l2 v45 y2 x3_5 x3_6 y4 y5 y6 y7 y8 x9_6 y10 y11 y12 y13 y14 y15) := hD
                  exact W.vret hx hb hr (fun t ht hW => ⟨⟨(), rfl, trivial, ⟨x1_3, (4 : Int32), l2, v45, by show va_P D classes _ t.heap; rw [ht]; exact hP, hD⟩⟩, hS.F ht⟩) hS.2.2 d_R_readToken_202
            · refine lv_iconst (v := 0) hx hb d_R_readToken_148 (by decide) ?_
              refine lv_goto (tgt := 162) hx hb d_R_readToken_149 (by decide) ?_
              refine va_put (D := D) (ci := 4) (v := .int (0 : Int32)) (ty := .int) (C := "SignMachine$Source") (T := F_R) (N := 9) hx hb hk fi_R ft_R ft_R_ok fn_R hown hK.1 hP hD hS 1 rfl rfl 6 (by decide) (hk _ k_545) (fun _ h9 => h9) rfl (by decide +kernel) rfl rfl (Nat.le_of_ble_eq_true rfl) d_R_readToken_162 (fun H locs hP hD hS => ?_)
              have hP : va_P D classes (wS52 K cI cJ cZ cB p0 p1 p2 p3 p4 p5 p6 p7 p8 p9 p10 p11 p12 p13 p14 p15 x0_3 x0_4 x0_5 x0_6 x0_7 x0_8 x0_9 x0_10 x0_11 x0_12 x0_13 x0_14 x1_1 x1_2 x1_3 x1_4 x1_5 (0 : Int32) x1_7 x1_8 y2 x3_5 x3_6 y4 y5 y6 y7 y8 x9_6 y10 y11 y12 y13 y14 y15) H := hP
              have hD : va_D A (wS52 K cI cJ cZ cB p0 p1 p2 p3 p4 p5 p6 p7 p8 p9 p10 p11 p12 p13 p14 p15 x0_3 x0_4 x0_5 x0_6 x0_7 x0_8 x0_9 x0_10 x0_11 x0_12 x0_13 x0_14 x1_1 x1_2 x1_3 x1_4 x1_5 (0 : Int32) x1_7 x1_8 y2 x3_5 x3_6 y4 y5 y6 y7 y8 x9_6 y10 y11 y12 y13 y14 y15) := hD
              refine lv_iload_n hx hb d_R_readToken_165 rfl (lv_at hl 5 rfl) ?_
              refine lv_iload hx hb d_R_readToken_166 (lv_at hl 2 rfl) ?_
              refine lv_if_eq (tgt := 176) hx hb d_R_readToken_168 (by decide) (fun c46 => ?_) (fun c46 => ?_)
              · refine lv_bipush (v := 10) hx hb d_R_readToken_176 (by decide) ?_
                refine lv_icmp_le (tgt := 186) hx hb d_R_readToken_178 (by decide) (fun c47 => ?_) (fun c47 => ?_)
                · refine lv_aload_n hx hb d_R_readToken_186 rfl (lv_at hl 6 rfl) ?_
                  refine lv_lload_n hx hb d_R_readToken_187 rfl (lv_at hl 4 rfl) ?_
                  refine va_put (D := D) (ci := 4) (v := .long l2) (ty := .long) (C := "SignMachine$Source") (T := F_R) (N := 9) hx hb hk fi_R ft_R ft_R_ok fn_R hown hK.1 hP hD hS 1 rfl rfl 7 (by decide) (hk _ k_547) (fun _ h9 => h9) rfl (by decide +kernel) rfl rfl (Nat.le_of_ble_eq_true rfl) d_R_readToken_188 (fun H locs hP hD hS => ?_)
                  have hP : va_P D classes (wS52 K cI cJ cZ cB p0 p1 p2 p3 p4 p5 p6 p7 p8 p9 p10 p11 p12 p13 p14 p15 x0_3 x0_4 x0_5 x0_6 x0_7 x0_8 x0_9 x0_10 x0_11 x0_12 x0_13 x0_14 x1_1 x1_2 x1_3 x1_4 x1_5 (0 : Int32) l2 x1_8 y2 x3_5 x3_6 y4 y5 y6 y7 y8 x9_6 y10 y11 y12 y13 y14 y15) H := hP
                  have hD : va_D A (wS52 K cI cJ cZ cB p0 p1 p2 p3 p4 p5 p6 p7 p8 p9 p10 p11 p12 p13 p14 p15 x0_3 x0_4 x0_5 x0_6 x0_7 x0_8 x0_9 x0_10 x0_11 x0_12 x0_13 x0_14 x1_1 x1_2 x1_3 x1_4 x1_5 (0 : Int32) l2 x1_8 y2 x3_5 x3_6 y4 y5 y6 y7 y8 x9_6 y10 y11 y12 y13 y14 y15) := hD
                  refine lv_aload_n hx hb d_R_readToken_191 rfl (lv_at hl 6 rfl) ?_
                  refine lv_lload hx hb d_R_readToken_192 (lv_at hl 3 rfl) ?_
                  refine lv_ldc2 (v := 1073741823) hx hb hown (hk _ k_766) d_R_readToken_194 ?_
                  refine lv_land hx hb d_R_readToken_197 ?_
                  refine lv_topl (fun v48 hv48 => ?_)
                  refine lv_l2i (v := (v48 : Int64).toInt32) hx hb d_R_readToken_198 rfl ?_
                  refine lv_topi (fun v49 hv49 => ?_)
                  refine va_put (D := D) (ci := 4) (v := .int v49) (ty := .int) (C := "SignMachine$Source") (T := F_R) (N := 9) hx hb hk fi_R ft_R ft_R_ok fn_R hown hK.1 hP hD hS 1 rfl rfl 8 (by decide) (hk _ k_548) (fun _ h9 => h9) rfl (by decide +kernel) rfl rfl (Nat.le_of_ble_eq_true rfl) d_R_readToken_199 (fun H locs hP hD hS => ?_)
                  have hP : va_P D classes (wS52 K cI cJ cZ cB p0 p1 p2 p3 p4 p5 p6 p7 p8 p9 p10 p11 p12 p13 p14 p15 x0_3 x0_4 x0_5 x0_6 x0_7 x0_8 x0_9 x0_10 x0_11 x0_12 x0_13 x0_14 x1_1 x1_2 x1_3 x1_4 x1_5 (0 : Int32) l2 v49 y2 x3_5 x3_6 y4 y5 y6 y7 y8 x9_6 y10 y11 y12 y13 y14 y15) H := hP
                  have hD : va_D A (wS52 K cI cJ cZ cB p0 p1 p2 p3 p4 p5 p6 p7 p8 p9 p10 p11 p12 p13 p14 p15 x0_3 x0_4 x0_5 x0_6 x0_7 x0_8 x0_9 x0_10 x0_11 x0_12 x0_13 x0_14 x1_1 x1_2 x1_3 x1_4 x1_5 (0 : Int32) l2 v49 y2 x3_5 x3_6 y4 y5 y6 y7 y8 x9_6 y10 y11 y12 y13 y14 y15) := hD
                  exact W.vret hx hb hr (fun t ht hW => ⟨⟨(), rfl, trivial, ⟨x1_3, (0 : Int32), l2, v49, by show va_P D classes _ t.heap; rw [ht]; exact hP, hD⟩⟩, hS.F ht⟩) hS.2.2 d_R_readToken_202
                · refine lv_aload_n hx hb d_R_readToken_181 rfl (lv_at hl 6 rfl) ?_
                  refine lv_iconst (v := 4) hx hb d_R_readToken_182 (by decide) ?_
                  refine va_put (D := D) (ci := 4) (v := .int (4 : Int32)) (ty := .int) (C := "SignMachine$Source") (T := F_R) (N := 9) hx hb hk fi_R ft_R ft_R_ok fn_R hown hK.1 hP hD hS 1 rfl rfl 6 (by decide) (hk _ k_545) (fun _ h9 => h9) rfl (by decide +kernel) rfl rfl (Nat.le_of_ble_eq_true rfl) d_R_readToken_183 (fun H locs hP hD hS => ?_)
                  have hP : va_P D classes (wS52 K cI cJ cZ cB p0 p1 p2 p3 p4 p5 p6 p7 p8 p9 p10 p11 p12 p13 p14 p15 x0_3 x0_4 x0_5 x0_6 x0_7 x0_8 x0_9 x0_10 x0_11 x0_12 x0_13 x0_14 x1_1 x1_2 x1_3 x1_4 x1_5 (4 : Int32) x1_7 x1_8 y2 x3_5 x3_6 y4 y5 y6 y7 y8 x9_6 y10 y11 y12 y13 y14 y15) H := hP
                  have hD : va_D A (wS52 K cI cJ cZ cB p0 p1 p2 p3 p4 p5 p6 p7 p8 p9 p10 p11 p12 p13 p14 p15 x0_3 x0_4 x0_5 x0_6 x0_7 x0_8 x0_9 x0_10 x0_11 x0_12 x0_13 x0_14 x1_1 x1_2 x1_3 x1_4 x1_5 (4 : Int32) x1_7 x1_8 y2 x3_5 x3_6 y4 y5 y6 y7 y8 x9_6 y10 y11 y12 y13 y14 y15) := hD
                  refine lv_aload_n hx hb d_R_readToken_186 rfl (lv_at hl 6 rfl) ?_
                  refine lv_lload_n hx hb d_R_readToken_187 rfl (lv_at hl 4 rfl) ?_
                  refine va_put (D := D) (ci := 4) (v := .long l2) (ty := .long) (C := "SignMachine$Source") (T := F_R) (N := 9) hx hb hk fi_R ft_R ft_R_ok fn_R hown hK.1 hP hD hS 1 rfl rfl 7 (by decide) (hk _ k_547) (fun _ h9 => h9) rfl (by decide +kernel) rfl rfl (Nat.le_of_ble_eq_true rfl) d_R_readToken_188 (fun H locs hP hD hS => ?_)
                  have hP : va_P D classes (wS52 K cI cJ cZ cB p0 p1 p2 p3 p4 p5 p6 p7 p8 p9 p10 p11 p12 p13 p14 p15 x0_3 x0_4 x0_5 x0_6 x0_7 x0_8 x0_9 x0_10 x0_11 x0_12 x0_13 x0_14 x1_1 x1_2 x1_3 x1_4 x1_5 (4 : Int32) l2 x1_8 y2 x3_5 x3_6 y4 y5 y6 y7 y8 x9_6 y10 y11 y12 y13 y14 y15) H := hP
                  have hD : va_D A (wS52 K cI cJ cZ cB p0 p1 p2 p3 p4 p5 p6 p7 p8 p9 p10 p11 p12 p13 p14 p15 x0_3 x0_4 x0_5 x0_6 x0_7 x0_8 x0_9 x0_10 x0_11 x0_12 x0_13 x0_14 x1_1 x1_2 x1_3 x1_4 x1_5 (4 : Int32) l2 x1_8 y2 x3_5 x3_6 y4 y5 y6 y7 y8 x9_6 y10 y11 y12 y13 y14 y15) := hD
                  refine lv_aload_n hx hb d_R_readToken_191 rfl (lv_at hl 6 rfl) ?_
                  refine lv_lload hx hb d_R_readToken_192 (lv_at hl 3 rfl) ?_
                  refine lv_ldc2 (v := 1073741823) hx hb hown (hk _ k_766) d_R_readToken_194 ?_
                  refine lv_land hx hb d_R_readToken_197 ?_
                  refine lv_topl (fun v50 hv50 => ?_)
                  refine lv_l2i (v := (v50 : Int64).toInt32) hx hb d_R_readToken_198 rfl ?_
                  refine lv_topi (fun v51 hv51 => ?_)
                  refine va_put (D := D) (ci := 4) (v := .int v51) (ty := .int) (C := "SignMachine$Source") (T := F_R) (N := 9) hx hb hk fi_R ft_R ft_R_ok fn_R hown hK.1 hP hD hS 1 rfl rfl 8 (by decide) (hk _ k_548) (fun _ h9 => h9) rfl (by decide +kernel) rfl rfl (Nat.le_of_ble_eq_true rfl) d_R_readToken_199 (fun H locs hP hD hS => ?_)
                  have hP : va_P D classes (wS52 K cI cJ cZ cB p0 p1 p2 p3 p4 p5 p6 p7 p8 p9 p10 p11 p12 p13 p14 p15 x0_3 x0_4 x0_5 x0_6 x0_7 x0_8 x0_9 x0_10 x0_11 x0_12 x0_13 x0_14 x1_1 x1_2 x1_3 x1_4 x1_5 (4 : Int32) l2 v51 y2 x3_5 x3_6 y4 y5 y6 y7 y8 x9_6 y10 y11 y12 y13 y14 y15) H := hP
                  have hD : va_D A (wS52 K cI cJ cZ cB p0 p1 p2 p3 p4 p5 p6 p7 p8 p9 p10 p11 p12 p13 p14 p15 x0_3 x0_4 x0_5 x0_6 x0_7 x0_8 x0_9 x0_10 x0_11 x0_12 x0_13 x0_14 x1_1 x1_2 x1_3 x1_4 x1_5 (4 : Int32) l2 v51 y2 x3_5 x3_6 y4 y5 y6 y7 y8 x9_6 y10 y11 y12 y13 y14 y15) := hD
                  exact W.vret hx hb hr (fun t ht hW => ⟨⟨(), rfl, trivial, ⟨x1_3, (4 : Int32), l2, v51, by show va_P D classes _ t.heap; rw [ht]; exact hP, hD⟩⟩, hS.F ht⟩) hS.2.2 d_R_readToken_202
              · refine lv_bipush (v := 8) hx hb d_R_readToken_171 (by decide) ?_
                refine lv_goto (tgt := 178) hx hb d_R_readToken_173 (by decide) ?_
                refine lv_icmp_le (tgt := 186) hx hb d_R_readToken_178 (by decide) (fun c52 => ?_) (fun c52 => ?_)
                · refine lv_aload_n hx hb d_R_readToken_186 rfl (lv_at hl 6 rfl) ?_
                  refine lv_lload_n hx hb d_R_readToken_187 rfl (lv_at hl 4 rfl) ?_
                  refine va_put (D := D) (ci := 4) (v := .long l2) (ty := .long) (C := "SignMachine$Source") (T := F_R) (N := 9) hx hb hk fi_R ft_R ft_R_ok fn_R hown hK.1 hP hD hS 1 rfl rfl 7 (by decide) (hk _ k_547) (fun _ h9 => h9) rfl (by decide +kernel) rfl rfl (Nat.le_of_ble_eq_true rfl) d_R_readToken_188 (fun H locs hP hD hS => ?_)
                  have hP : va_P D classes (wS52 K cI cJ cZ cB p0 p1 p2 p3 p4 p5 p6 p7 p8 p9 p10 p11 p12 p13 p14 p15 x0_3 x0_4 x0_5 x0_6 x0_7 x0_8 x0_9 x0_10 x0_11 x0_12 x0_13 x0_14 x1_1 x1_2 x1_3 x1_4 x1_5 (0 : Int32) l2 x1_8 y2 x3_5 x3_6 y4 y5 y6 y7 y8 x9_6 y10 y11 y12 y13 y14 y15) H := hP
                  have hD : va_D A (wS52 K cI cJ cZ cB p0 p1 p2 p3 p4 p5 p6 p7 p8 p9 p10 p11 p12 p13 p14 p15 x0_3 x0_4 x0_5 x0_6 x0_7 x0_8 x0_9 x0_10 x0_11 x0_12 x0_13 x0_14 x1_1 x1_2 x1_3 x1_4 x1_5 (0 : Int32) l2 x1_8 y2 x3_5 x3_6 y4 y5 y6 y7 y8 x9_6 y10 y11 y12 y13 y14 y15) := hD
                  refine lv_aload_n hx hb d_R_readToken_191 rfl (lv_at hl 6 rfl) ?_
                  refine lv_lload hx hb d_R_readToken_192 (lv_at hl 3 rfl) ?_
                  refine lv_ldc2 (v := 1073741823) hx hb hown (hk _ k_766) d_R_readToken_194 ?_
                  refine lv_land hx hb d_R_readToken_197 ?_
                  refine lv_topl (fun v53 hv53 => ?_)
                  refine lv_l2i (v := (v53 : Int64).toInt32) hx hb d_R_readToken_198 rfl ?_
                  refine lv_topi (fun v54 hv54 => ?_)
                  refine va_put (D := D) (ci := 4) (v := .int v54) (ty := .int) (C := "SignMachine$Source") (T := F_R) (N := 9) hx hb hk fi_R ft_R ft_R_ok fn_R hown hK.1 hP hD hS 1 rfl rfl 8 (by decide) (hk _ k_548) (fun _ h9 => h9) rfl (by decide +kernel) rfl rfl (Nat.le_of_ble_eq_true rfl) d_R_readToken_199 (fun H locs hP hD hS => ?_)
                  have hP : va_P D classes (wS52 K cI cJ cZ cB p0 p1 p2 p3 p4 p5 p6 p7 p8 p9 p10 p11 p12 p13 p14 p15 x0_3 x0_4 x0_5 x0_6 x0_7 x0_8 x0_9 x0_10 x0_11 x0_12 x0_13 x0_14 x1_1 x1_2 x1_3 x1_4 x1_5 (0 : Int32) l2 v54 y2 x3_5 x3_6 y4 y5 y6 y7 y8 x9_6 y10 y11 y12 y13 y14 y15) H := hP
                  have hD : va_D A (wS52 K cI cJ cZ cB p0 p1 p2 p3 p4 p5 p6 p7 p8 p9 p10 p11 p12 p13 p14 p15 x0_3 x0_4 x0_5 x0_6 x0_7 x0_8 x0_9 x0_10 x0_11 x0_12 x0_13 x0_14 x1_1 x1_2 x1_3 x1_4 x1_5 (0 : Int32) l2 v54 y2 x3_5 x3_6 y4 y5 y6 y7 y8 x9_6 y10 y11 y12 y13 y14 y15) := hD
                  exact W.vret hx hb hr (fun t ht hW => ⟨⟨(), rfl, trivial, ⟨x1_3, (0 : Int32), l2, v54, by show va_P D classes _ t.heap; rw [ht]; exact hP, hD⟩⟩, hS.F ht⟩) hS.2.2 d_R_readToken_202
                · refine lv_aload_n hx hb d_R_readToken_181 rfl (lv_at hl 6 rfl) ?_
                  refine lv_iconst (v := 4) hx hb d_R_readToken_182 (by decide) ?_
                  refine va_put (D := D) (ci := 4) (v := .int (4 : Int32)) (ty := .int) (C := "SignMachine$Source") (T := F_R) (N := 9) hx hb hk fi_R ft_R ft_R_ok fn_R hown hK.1 hP hD hS 1 rfl rfl 6 (by decide) (hk _ k_545) (fun _ h9 => h9) rfl (by decide +kernel) rfl rfl (Nat.le_of_ble_eq_true rfl) d_R_readToken_183 (fun H locs hP hD hS => ?_)
                  have hP : va_P D classes (wS52 K cI cJ cZ cB p0 p1 p2 p3 p4 p5 p6 p7 p8 p9 p10 p11 p12 p13 p14 p15 x0_3 x0_4 x0_5 x0_6 x0_7 x0_8 x0_9 x0_10 x0_11 x0_12 x0_13 x0_14 x1_1 x1_2 x1_3 x1_4 x1_5 (4 : Int32) x1_7 x1_8 y2 x3_5 x3_6 y4 y5 y6 y7 y8 x9_6 y10 y11 y12 y13 y14 y15) H := hP
                  have hD : va_D A (wS52 K cI cJ cZ cB p0 p1 p2 p3 p4 p5 p6 p7 p8 p9 p10 p11 p12 p13 p14 p15 x0_3 x0_4 x0_5 x0_6 x0_7 x0_8 x0_9 x0_10 x0_11 x0_12 x0_13 x0_14 x1_1 x1_2 x1_3 x1_4 x1_5 (4 : Int32) x1_7 x1_8 y2 x3_5 x3_6 y4 y5 y6 y7 y8 x9_6 y10 y11 y12 y13 y14 y15) := hD
                  refine lv_aload_n hx hb d_R_readToken_186 rfl (lv_at hl 6 rfl) ?_
                  refine lv_lload_n hx hb d_R_readToken_187 rfl (lv_at hl 4 rfl) ?_
                  refine va_put (D := D) (ci := 4) (v := .long l2) (ty := .long) (C := "SignMachine$Source") (T := F_R) (N := 9) hx hb hk fi_R ft_R ft_R_ok fn_R hown hK.1 hP hD hS 1 rfl rfl 7 (by decide) (hk _ k_547) (fun _ h9 => h9) rfl (by decide +kernel) rfl rfl (Nat.le_of_ble_eq_true rfl) d_R_readToken_188 (fun H locs hP hD hS => ?_)
                  have hP : va_P D classes (wS52 K cI cJ cZ cB p0 p1 p2 p3 p4 p5 p6 p7 p8 p9 p10 p11 p12 p13 p14 p15 x0_3 x0_4 x0_5 x0_6 x0_7 x0_8 x0_9 x0_10 x0_11 x0_12 x0_13 x0_14 x1_1 x1_2 x1_3 x1_4 x1_5 (4 : Int32) l2 x1_8 y2 x3_5 x3_6 y4 y5 y6 y7 y8 x9_6 y10 y11 y12 y13 y14 y15) H := hP
                  have hD : va_D A (wS52 K cI cJ cZ cB p0 p1 p2 p3 p4 p5 p6 p7 p8 p9 p10 p11 p12 p13 p14 p15 x0_3 x0_4 x0_5 x0_6 x0_7 x0_8 x0_9 x0_10 x0_11 x0_12 x0_13 x0_14 x1_1 x1_2 x1_3 x1_4 x1_5 (4 : Int32) l2 x1_8 y2 x3_5 x3_6 y4 y5 y6 y7 y8 x9_6 y10 y11 y12 y13 y14 y15) := hD
                  refine lv_aload_n hx hb d_R_readToken_191 rfl (lv_at hl 6 rfl) ?_
                  refine lv_lload hx hb d_R_readToken_192 (lv_at hl 3 rfl) ?_
                  refine lv_ldc2 (v := 1073741823) hx hb hown (hk _ k_766) d_R_readToken_194 ?_
                  refine lv_land hx hb d_R_readToken_197 ?_
                  refine lv_topl (fun v55 hv55 => ?_)
                  refine lv_l2i (v := (v55 : Int64).toInt32) hx hb d_R_readToken_198 rfl ?_
                  refine lv_topi (fun v56 hv56 => ?_)
                  refine va_put (D := D) (ci := 4) (v := .int v56) (ty := .int) (C := "SignMachine$Source") (T := F_R) (N := 9) hx hb hk fi_R ft_R ft_R_ok fn_R hown hK.1 hP hD hS 1 rfl rfl 8 (by decide) (hk _ k_548) (fun _ h9 => h9) rfl (by decide +kernel) rfl rfl (Nat.le_of_ble_eq_true rfl) d_R_readToken_199 (fun H locs hP hD hS => ?_)
                  have hP : va_P D classes (wS52 K cI cJ cZ cB p0 p1 p2 p3 p4 p5 p6 p7 p8 p9 p10 p11 p12 p13 p14 p15 x0_3 x0_4 x0_5 x0_6 x0_7 x0_8 x0_9 x0_10 x0_11 x0_12 x0_13 x0_14 x1_1 x1_2 x1_3 x1_4 x1_5 (4 : Int32) l2 v56 y2 x3_5 x3_6 y4 y5 y6 y7 y8 x9_6 y10 y11 y12 y13 y14 y15) H := hP
                  have hD : va_D A (wS52 K cI cJ cZ cB p0 p1 p2 p3 p4 p5 p6 p7 p8 p9 p10 p11 p12 p13 p14 p15 x0_3 x0_4 x0_5 x0_6 x0_7 x0_8 x0_9 x0_10 x0_11 x0_12 x0_13 x0_14 x1_1 x1_2 x1_3 x1_4 x1_5 (4 : Int32) l2 v56 y2 x3_5 x3_6 y4 y5 y6 y7 y8 x9_6 y10 y11 y12 y13 y14 y15) := hD
                  exact W.vret hx hb hr (fun t ht hW => ⟨⟨(), rfl, trivial, ⟨x1_3, (4 : Int32), l2, v56, by show va_P D classes _ t.heap; rw [ht]; exact hP, hD⟩⟩, hS.F ht⟩) hS.2.2 d_R_readToken_202
          · obtain ⟨v57, hv57⟩ : ∃ y : Int32, y = (l1 + (1 : Int32)) := ⟨_, rfl⟩
            refine lv_iinc (v := v57) (lv' := [(1, .int v57), (8, .int l8), (7, .int l7), (6, .int l6), (4, .long l4), (2, .long l2), (0, .ref p1)]) hx hb d_R_readToken_59 hl (k := 5) rfl (by rw [hv57]; rfl) (by decide) rfl (fun ls hl => ?_)
            refine lv_lload_n hx hb d_R_readToken_62 rfl (lv_at hl 5 rfl) ?_
            refine lv_bipush (v := 6) hx hb d_R_readToken_63 (by decide) ?_
            refine lv_lshl (v := (l2 <<< (((6 : Int32) : Int32).toInt64 &&& 63))) hx hb d_R_readToken_65 rfl ?_
            refine lv_topl (fun v58 hv58 => ?_)
            refine lv_iload hx hb d_R_readToken_66 (lv_at hl 2 rfl) ?_
            refine lv_i2l (v := (l7 : Int32).toInt64) hx hb d_R_readToken_68 rfl ?_
            refine lv_topl (fun v59 hv59 => ?_)
            refine lv_lor hx hb d_R_readToken_69 ?_
            refine lv_topl (fun v60 hv60 => ?_)
            refine lv_lstore_n (lv' := [(2, .long v60), (1, .int v57), (8, .int l8), (7, .int l7), (6, .int l6), (4, .long l4), (0, .ref p1)]) hx hb d_R_readToken_70 rfl hl (by decide) rfl (fun ls hl => ?_)
            refine lv_iload hx hb d_R_readToken_71 (lv_at hl 4 rfl) ?_
            refine lv_if_ne (tgt := 84) hx hb d_R_readToken_73 (by decide) (fun c61 => ?_) (fun c61 => ?_)
            · refine lv_iconst (v := 1) hx hb d_R_readToken_84 (by decide) ?_
              refine lv_goto (tgt := 89) hx hb d_R_readToken_85 (by decide) ?_
              refine lv_istore (lv' := [(6, .int (1 : Int32)), (2, .long v60), (1, .int v57), (8, .int l8), (7, .int l7), (4, .long l4), (0, .ref p1)]) hx hb d_R_readToken_89 hl (by decide) rfl (fun ls hl => ?_)
              refine lv_lload hx hb d_R_readToken_91 (lv_at hl 5 rfl) ?_
              refine lv_ldc2 (v := 10) hx hb hown (hk _ k_762) d_R_readToken_93 ?_
              refine lv_lmul hx hb d_R_readToken_96 ?_
              refine lv_topl (fun v62 hv62 => ?_)
              refine lv_iload hx hb d_R_readToken_97 (lv_at hl 4 rfl) ?_
              refine cs_i (W.runS (As := [.int l7]) (rest := [.long v62]) ⟨hx, hb, hml, hown, hk⟩ (c_N_isLetter l l7) (s_N_isLetter hk k_759 ⟨Nat.le_of_ble_eq_true rfl, Nat.le_of_ble_eq_true rfl⟩) ⟨fun a U g mk q => q, fun U hU hW => ⟨rfl, trivial⟩⟩ rfl rfl hl.1 rfl (lv_room (Nat.le_of_ble_eq_true rfl)) d_R_readToken_99 ⟨Nat.le_of_ble_eq_true rfl, Nat.le_of_ble_eq_true rfl⟩) ?_
              obtain ⟨z63, hz63⟩ : ∃ y : Bool, y = (f_N_isLetter l7) := ⟨_, rfl⟩
              rw [← hz63]
              refine lv_if_eq (tgt := 109) hx hb d_R_readToken_102 (by decide) (fun c64 => ?_) (fun c64 => ?_)
              · refine lv_iload hx hb d_R_readToken_109 (lv_at hl 4 rfl) ?_
                refine cs_i (W.runS (As := [.int l7]) (rest := [.long v62]) ⟨hx, hb, hml, hown, hk⟩ (c_N_digitOf l l7) (s_N_digitOf hk k_763 ⟨Nat.le_of_ble_eq_true rfl, Nat.le_of_ble_eq_true rfl⟩) ⟨fun a U g mk q => q, fun U hU hW => ⟨rfl, trivial⟩⟩ rfl rfl hl.1 rfl (lv_room (Nat.le_of_ble_eq_true rfl)) d_R_readToken_111 ⟨Nat.le_of_ble_eq_true rfl, Nat.le_of_ble_eq_true rfl⟩) ?_
                refine lv_topi (fun v65 hv65 => ?_)
                refine lv_i2l (v := (v65 : Int32).toInt64) hx hb d_R_readToken_114 rfl ?_
                refine lv_topl (fun v66 hv66 => ?_)
                refine lv_ladd hx hb d_R_readToken_115 ?_
                refine lv_topl (fun v67 hv67 => ?_)
                refine lv_lstore (lv' := [(4, .long v67), (6, .int (1 : Int32)), (2, .long v60), (1, .int v57), (8, .int l8), (7, .int l7), (0, .ref p1)]) hx hb d_R_readToken_116 hl (by decide) rfl (fun ls hl => ?_)
                refine lv_aload_n hx hb d_R_readToken_118 rfl (lv_at hl 6 rfl) ?_
                refine lv_dup hx hb d_R_readToken_119 rfl ?_
                refine va_get (D := D) (ci := 4) (v := .int x1_3) (C := "SignMachine$Source") (T := F_R) (N := 9) hx hb hk fi_R hown hK.1 hP 1 rfl rfl 3 (by decide) (hk _ k_540) (fun _ h9 => h9) rfl d_R_readToken_120 ?_
                refine lv_iconst (v := 1) hx hb d_R_readToken_123 (by decide) ?_
                refine lv_iadd hx hb d_R_readToken_124 ?_
                refine lv_topi (fun v68 hv68 => ?_)
                refine va_put (D := D) (ci := 4) (v := .int v68) (ty := .int) (C := "SignMachine$Source") (T := F_R) (N := 9) hx hb hk fi_R ft_R ft_R_ok fn_R hown hK.1 hP hD hS 1 rfl rfl 3 (by decide) (hk _ k_540) (fun _ h9 => h9) rfl (by decide +kernel) rfl rfl (Nat.le_of_ble_eq_true rfl) d_R_readToken_125 (fun H locs hP hD hS => ?_)
                have hP : va_P D classes (wS52 K cI cJ cZ cB p0 p1 p2 p3 p4 p5 p6 p7 p8 p9 p10 p11 p12 p13 p14 p15 x0_3 x0_4 x0_5 x0_6 x0_7 x0_8 x0_9 x0_10 x0_11 x0_12 x0_13 x0_14 x1_1 x1_2 v68 x1_4 x1_5 x1_6 x1_7 x1_8 y2 x3_5 x3_6 y4 y5 y6 y7 y8 x9_6 y10 y11 y12 y13 y14 y15) H := hP
                have hD : va_D A (wS52 K cI cJ cZ cB p0 p1 p2 p3 p4 p5 p6 p7 p8 p9 p10 p11 p12 p13 p14 p15 x0_3 x0_4 x0_5 x0_6 x0_7 x0_8 x0_9 x0_10 x0_11 x0_12 x0_13 x0_14 x1_1 x1_2 v68 x1_4 x1_5 x1_6 x1_7 x1_8 y2 x3_5 x3_6 y4 y5 y6 y7 y8 x9_6 y10 y11 y12 y13 y14 y15) := hD
                refine lv_aload_n hx hb d_R_readToken_128 rfl (lv_at hl 6 rfl) ?_
                refine sn_i (va_runV (C := "SignMachine$Source") (As := []) (rest := []) ⟨hx, hb, hml, hown, hk⟩ (c_R_peek_s1 l K D cI cJ cZ cB p0 p1 p2 p3 p4 p5 p6 p7 p8 p9 p10 p11 p12 p13 p14 p15 H.size x0_3 x0_4 x0_5 x0_6 x0_7 x0_8 x0_9 x0_10 x0_11 x0_12 x0_13 x0_14 x1_1 x1_2 v68 x1_4 x1_5 x1_6 x1_7 x1_8 y2 x3_5 x3_6 y4 y5 y6 y7 y8 x9_6 y10 y11 y12 y13 y14 y15   ) (v_R_peek_s1 hk k_747 ⟨Nat.le_of_ble_eq_true rfl, Nat.le_of_ble_eq_true rfl⟩) (pMC_v hK hP hD hC hS hA (ci := 4) (q0 := 1) rfl rfl rfl) rfl rfl hl.1 rfl (lv_room (Nat.le_of_ble_eq_true rfl)) d_R_readToken_129 ⟨by decide, by decide⟩) hS hA hD (fun rz69 u t H locs hr0 ht hB hFr hS => ?_)
                obtain ⟨hP, hD⟩ := hB
                rw [ht] at hP
                have hD := dwk hD hFr
                clear ht hFr
                have hP : va_P D classes (wS52 K cI cJ cZ cB p0 p1 p2 p3 p4 p5 p6 p7 p8 p9 p10 p11 p12 p13 p14 p15 x0_3 x0_4 x0_5 x0_6 x0_7 x0_8 x0_9 x0_10 x0_11 x0_12 x0_13 x0_14 x1_1 x1_2 v68 x1_4 x1_5 x1_6 x1_7 x1_8 y2 x3_5 x3_6 y4 y5 y6 y7 y8 x9_6 y10 y11 y12 y13 y14 y15) H := hP
                have hD : va_D A (wS52 K cI cJ cZ cB p0 p1 p2 p3 p4 p5 p6 p7 p8 p9 p10 p11 p12 p13 p14 p15 x0_3 x0_4 x0_5 x0_6 x0_7 x0_8 x0_9 x0_10 x0_11 x0_12 x0_13 x0_14 x1_1 x1_2 v68 x1_4 x1_5 x1_6 x1_7 x1_8 y2 x3_5 x3_6 y4 y5 y6 y7 y8 x9_6 y10 y11 y12 y13 y14 y15) := hD
                refine cs_i (W.runS (As := [.int rz69]) (rest := []) ⟨hx, hb, hml, hown, hk⟩ (c_N_codeOf l rz69) (s_N_codeOf hk k_756 ⟨Nat.le_of_ble_eq_true rfl, Nat.le_of_ble_eq_true rfl⟩) ⟨fun a U g mk q => q, fun U hU hW => ⟨rfl, trivial⟩⟩ rfl rfl hl.1 rfl (lv_room (Nat.le_of_ble_eq_true rfl)) d_R_readToken_132 ⟨Nat.le_of_ble_eq_true rfl, Nat.le_of_ble_eq_true rfl⟩) ?_
                refine lv_topi (fun v70 hv70 => ?_)
                refine lv_istore (lv' := [(7, .int v70), (4, .long v67), (6, .int (1 : Int32)), (2, .long v60), (1, .int v57), (8, .int l8), (0, .ref p1)]) hx hb d_R_readToken_135 hl (by decide) rfl (fun ls hl => ?_)
                obtain ⟨v71, hv71⟩ : ∃ y : Int32, y = (l8 + (1 : Int32)) := ⟨_, rfl⟩
                refine lv_iinc (v := v71) (lv' := [(8, .int v71), (7, .int v70), (4, .long v67), (6, .int (1 : Int32)), (2, .long v60), (1, .int v57), (0, .ref p1)]) hx hb d_R_readToken_137 hl (k := 5) rfl (by rw [hv71]; rfl) (by decide) rfl (fun ls hl => ?_)
                refine lv_goto (tgt := 47) hx hb d_R_readToken_140 (by decide) ?_
                exact ih v71 v70 (1 : Int32) v67 v60 v57 v68 x1_6 x1_7 x1_8 H _ ls (lpg c5 hv71 (by decide) hn47_52) (lpm hc47_52 c5 hv71 (by decide)) hP hD hS (lv_sub hl [0, 1, 3, 2, 4, 5, 6] rfl)
              · refine lv_iconst (v := 0) hx hb d_R_readToken_105 (by decide) ?_
                refine lv_goto (tgt := 114) hx hb d_R_readToken_106 (by decide) ?_
                refine lv_i2l (v := ((0 : Int32) : Int32).toInt64) hx hb d_R_readToken_114 rfl ?_
                refine tpl (y := (0 : Int64)) (by decide) ?_
                refine lv_ladd hx hb d_R_readToken_115 ?_
                refine lv_topl (fun v72 hv72 => ?_)
                refine lv_lstore (lv' := [(4, .long v72), (6, .int (1 : Int32)), (2, .long v60), (1, .int v57), (8, .int l8), (7, .int l7), (0, .ref p1)]) hx hb d_R_readToken_116 hl (by decide) rfl (fun ls hl => ?_)
                refine lv_aload_n hx hb d_R_readToken_118 rfl (lv_at hl 6 rfl) ?_
                refine lv_dup hx hb d_R_readToken_119 rfl ?_
                refine va_get (D := D) (ci := 4) (v := .int x1_3) (C := "SignMachine$Source") (T := F_R) (N := 9) hx hb hk fi_R hown hK.1 hP 1 rfl rfl 3 (by decide) (hk _ k_540) (fun _ h9 => h9) rfl d_R_readToken_120 ?_
                refine lv_iconst (v := 1) hx hb d_R_readToken_123 (by decide) ?_
                refine lv_iadd hx hb d_R_readToken_124 ?_
                refine lv_topi (fun v73 hv73 => ?_)
                refine va_put (D := D) (ci := 4) (v := .int v73) (ty := .int) (C := "SignMachine$Source") (T := F_R) (N := 9) hx hb hk fi_R ft_R ft_R_ok fn_R hown hK.1 hP hD hS 1 rfl rfl 3 (by decide) (hk _ k_540) (fun _ h9 => h9) rfl (by decide +kernel) rfl rfl (Nat.le_of_ble_eq_true rfl) d_R_readToken_125 (fun H locs hP hD hS => ?_)
                have hP : va_P D classes (wS52 K cI cJ cZ cB p0 p1 p2 p3 p4 p5 p6 p7 p8 p9 p10 p11 p12 p13 p14 p15 x0_3 x0_4 x0_5 x0_6 x0_7 x0_8 x0_9 x0_10 x0_11 x0_12 x0_13 x0_14 x1_1 x1_2 v73 x1_4 x1_5 x1_6 x1_7 x1_8 y2 x3_5 x3_6 y4 y5 y6 y7 y8 x9_6 y10 y11 y12 y13 y14 y15) H := hP
                have hD : va_D A (wS52 K cI cJ cZ cB p0 p1 p2 p3 p4 p5 p6 p7 p8 p9 p10 p11 p12 p13 p14 p15 x0_3 x0_4 x0_5 x0_6 x0_7 x0_8 x0_9 x0_10 x0_11 x0_12 x0_13 x0_14 x1_1 x1_2 v73 x1_4 x1_5 x1_6 x1_7 x1_8 y2 x3_5 x3_6 y4 y5 y6 y7 y8 x9_6 y10 y11 y12 y13 y14 y15) := hD
                refine lv_aload_n hx hb d_R_readToken_128 rfl (lv_at hl 6 rfl) ?_
                refine sn_i (va_runV (C := "SignMachine$Source") (As := []) (rest := []) ⟨hx, hb, hml, hown, hk⟩ (c_R_peek_s1 l K D cI cJ cZ cB p0 p1 p2 p3 p4 p5 p6 p7 p8 p9 p10 p11 p12 p13 p14 p15 H.size x0_3 x0_4 x0_5 x0_6 x0_7 x0_8 x0_9 x0_10 x0_11 x0_12 x0_13 x0_14 x1_1 x1_2 v73 x1_4 x1_5 x1_6 x1_7 x1_8 y2 x3_5 x3_6 y4 y5 y6 y7 y8 x9_6 y10 y11 y12 y13 y14 y15   ) (v_R_peek_s1 hk k_747 ⟨Nat.le_of_ble_eq_true rfl, Nat.le_of_ble_eq_true rfl⟩) (pMC_v hK hP hD hC hS hA (ci := 4) (q0 := 1) rfl rfl rfl) rfl rfl hl.1 rfl (lv_room (Nat.le_of_ble_eq_true rfl)) d_R_readToken_129 ⟨by decide, by decide⟩) hS hA hD (fun rz74 u t H locs hr0 ht hB hFr hS => ?_)
                obtain ⟨hP, hD⟩ := hB
                rw [ht] at hP
                have hD := dwk hD hFr
                clear ht hFr
                have hP : va_P D classes (wS52 K cI cJ cZ cB p0 p1 p2 p3 p4 p5 p6 p7 p8 p9 p10 p11 p12 p13 p14 p15 x0_3 x0_4 x0_5 x0_6 x0_7 x0_8 x0_9 x0_10 x0_11 x0_12 x0_13 x0_14 x1_1 x1_2 v73 x1_4 x1_5 x1_6 x1_7 x1_8 y2 x3_5 x3_6 y4 y5 y6 y7 y8 x9_6 y10 y11 y12 y13 y14 y15) H := hP
                have hD : va_D A (wS52 K cI cJ cZ cB p0 p1 p2 p3 p4 p5 p6 p7 p8 p9 p10 p11 p12 p13 p14 p15 x0_3 x0_4 x0_5 x0_6 x0_7 x0_8 x0_9 x0_10 x0_11 x0_12 x0_13 x0_14 x1_1 x1_2 v73 x1_4 x1_5 x1_6 x1_7 x1_8 y2 x3_5 x3_6 y4 y5 y6 y7 y8 x9_6 y10 y11 y12 y13 y14 y15) := hD
                refine cs_i (W.runS (As := [.int rz74]) (rest := []) ⟨hx, hb, hml, hown, hk⟩ (c_N_codeOf l rz74) (s_N_codeOf hk k_756 ⟨Nat.le_of_ble_eq_true rfl, Nat.le_of_ble_eq_true rfl⟩) ⟨fun a U g mk q => q, fun U hU hW => ⟨rfl, trivial⟩⟩ rfl rfl hl.1 rfl (lv_room (Nat.le_of_ble_eq_true rfl)) d_R_readToken_132 ⟨Nat.le_of_ble_eq_true rfl, Nat.le_of_ble_eq_true rfl⟩) ?_
                refine lv_topi (fun v75 hv75 => ?_)
                refine lv_istore (lv' := [(7, .int v75), (4, .long v72), (6, .int (1 : Int32)), (2, .long v60), (1, .int v57), (8, .int l8), (0, .ref p1)]) hx hb d_R_readToken_135 hl (by decide) rfl (fun ls hl => ?_)
                obtain ⟨v76, hv76⟩ : ∃ y : Int32, y = (l8 + (1 : Int32)) := ⟨_, rfl⟩
                refine lv_iinc (v := v76) (lv' := [(8, .int v76), (7, .int v75), (4, .long v72), (6, .int (1 : Int32)), (2, .long v60), (1, .int v57), (0, .ref p1)]) hx hb d_R_readToken_137 hl (k := 5) rfl (by rw [hv76]; rfl) (by decide) rfl (fun ls hl => ?_)
                refine lv_goto (tgt := 47) hx hb d_R_readToken_140 (by decide) ?_
                exact ih v76 v75 (1 : Int32) v72 v60 v57 v73 x1_6 x1_7 x1_8 H _ ls (lpg c5 hv76 (by decide) hn47_52) (lpm hc47_52 c5 hv76 (by decide)) hP hD hS (lv_sub hl [0, 1, 3, 2, 4, 5, 6] rfl)
            · refine lv_iload hx hb d_R_readToken_76 (lv_at hl 3 rfl) ?_
              refine cs_i (W.runS (As := [.int l7]) (rest := []) ⟨hx, hb, hml, hown, hk⟩ (c_N_isLetter l l7) (s_N_isLetter hk k_759 ⟨Nat.le_of_ble_eq_true rfl, Nat.le_of_ble_eq_true rfl⟩) ⟨fun a U g mk q => q, fun U hU hW => ⟨rfl, trivial⟩⟩ rfl rfl hl.1 rfl (lv_room (Nat.le_of_ble_eq_true rfl)) d_R_readToken_78 ⟨Nat.le_of_ble_eq_true rfl, Nat.le_of_ble_eq_true rfl⟩) ?_
              obtain ⟨z77, hz77⟩ : ∃ y : Bool, y = (f_N_isLetter l7) := ⟨_, rfl⟩
              rw [← hz77]
              refine lv_if_eq (tgt := 88) hx hb d_R_readToken_81 (by decide) (fun c78 => ?_) (fun c78 => ?_)
              · refine lv_iconst (v := 0) hx hb d_R_readToken_88 (by decide) ?_
                refine lv_istore (lv' := [(6, .int (0 : Int32)), (2, .long v60), (1, .int v57), (8, .int l8), (7, .int l7), (4, .long l4), (0, .ref p1)]) hx hb d_R_readToken_89 hl (by decide) rfl (fun ls hl => ?_)
                refine lv_lload hx hb d_R_readToken_91 (lv_at hl 5 rfl) ?_
                refine lv_ldc2 (v := 10) hx hb hown (hk _ k_762) d_R_readToken_93 ?_
                refine lv_lmul hx hb d_R_readToken_96 ?_
                refine lv_topl (fun v79 hv79 => ?_)
                refine lv_iload hx hb d_R_readToken_97 (lv_at hl 4 rfl) ?_
                refine cs_i (W.runS (As := [.int l7]) (rest := [.long v79]) ⟨hx, hb, hml, hown, hk⟩ (c_N_isLetter l l7) (s_N_isLetter hk k_759 ⟨Nat.le_of_ble_eq_true rfl, Nat.le_of_ble_eq_true rfl⟩) ⟨fun a U g mk q => q, fun U hU hW => ⟨rfl, trivial⟩⟩ rfl rfl hl.1 rfl (lv_room (Nat.le_of_ble_eq_true rfl)) d_R_readToken_99 ⟨Nat.le_of_ble_eq_true rfl, Nat.le_of_ble_eq_true rfl⟩) ?_
                obtain ⟨z80, hz80⟩ : ∃ y : Bool, y = (f_N_isLetter l7) := ⟨_, rfl⟩
                rw [← hz80]
                refine lv_if_eq (tgt := 109) hx hb d_R_readToken_102 (by decide) (fun c81 => ?_) (fun c81 => ?_)
                · refine lv_iload hx hb d_R_readToken_109 (lv_at hl 4 rfl) ?_
                  refine cs_i (W.runS (As := [.int l7]) (rest := [.long v79]) ⟨hx, hb, hml, hown, hk⟩ (c_N_digitOf l l7) (s_N_digitOf hk k_763 ⟨Nat.le_of_ble_eq_true rfl, Nat.le_of_ble_eq_true rfl⟩) ⟨fun a U g mk q => q, fun U hU hW => ⟨rfl, trivial⟩⟩ rfl rfl hl.1 rfl (lv_room (Nat.le_of_ble_eq_true rfl)) d_R_readToken_111 ⟨Nat.le_of_ble_eq_true rfl, Nat.le_of_ble_eq_true rfl⟩) ?_
                  refine lv_topi (fun v82 hv82 => ?_)
                  refine lv_i2l (v := (v82 : Int32).toInt64) hx hb d_R_readToken_114 rfl ?_
                  refine lv_topl (fun v83 hv83 => ?_)
                  refine lv_ladd hx hb d_R_readToken_115 ?_
                  refine lv_topl (fun v84 hv84 => ?_)
                  refine lv_lstore (lv' := [(4, .long v84), (6, .int (0 : Int32)), (2, .long v60), (1, .int v57), (8, .int l8), (7, .int l7), (0, .ref p1)]) hx hb d_R_readToken_116 hl (by decide) rfl (fun ls hl => ?_)
                  refine lv_aload_n hx hb d_R_readToken_118 rfl (lv_at hl 6 rfl) ?_
                  refine lv_dup hx hb d_R_readToken_119 rfl ?_
                  refine va_get (D := D) (ci := 4) (v := .int x1_3) (C := "SignMachine$Source") (T := F_R) (N := 9) hx hb hk fi_R hown hK.1 hP 1 rfl rfl 3 (by decide) (hk _ k_540) (fun _ h9 => h9) rfl d_R_readToken_120 ?_
                  refine lv_iconst (v := 1) hx hb d_R_readToken_123 (by decide) ?_
                  refine lv_iadd hx hb d_R_readToken_124 ?_
                  refine lv_topi (fun v85 hv85 => ?_)
                  refine va_put (D := D) (ci := 4) (v := .int v85) (ty := .int) (C := "SignMachine$Source") (T := F_R) (N := 9) hx hb hk fi_R ft_R ft_R_ok fn_R hown hK.1 hP hD hS 1 rfl rfl 3 (by decide) (hk _ k_540) (fun _ h9 => h9) rfl (by decide +kernel) rfl rfl (Nat.le_of_ble_eq_true rfl) d_R_readToken_125 (fun H locs hP hD hS => ?_)
                  have hP : va_P D classes (wS52 K cI cJ cZ cB p0 p1 p2 p3 p4 p5 p6 p7 p8 p9 p10 p11 p12 p13 p14 p15 x0_3 x0_4 x0_5 x0_6 x0_7 x0_8 x0_9 x0_10 x0_11 x0_12 x0_13 x0_14 x1_1 x1_2 v85 x1_4 x1_5 x1_6 x1_7 x1_8 y2 x3_5 x3_6 y4 y5 y6 y7 y8 x9_6 y10 y11 y12 y13 y14 y15) H := hP
                  have hD : va_D A (wS52 K cI cJ cZ cB p0 p1 p2 p3 p4 p5 p6 p7 p8 p9 p10 p11 p12 p13 p14 p15 x0_3 x0_4 x0_5 x0_6 x0_7 x0_8 x0_9 x0_10 x0_11 x0_12 x0_13 x0_14 x1_1 x1_2 v85 x1_4 x1_5 x1_6 x1_7 x1_8 y2 x3_5 x3_6 y4 y5 y6 y7 y8 x9_6 y10 y11 y12 y13 y14 y15) := hD
                  refine lv_aload_n hx hb d_R_readToken_128 rfl (lv_at hl 6 rfl) ?_
                  refine sn_i (va_runV (C := "SignMachine$Source") (As := []) (rest := []) ⟨hx, hb, hml, hown, hk⟩ (c_R_peek_s1 l K D cI cJ cZ cB p0 p1 p2 p3 p4 p5 p6 p7 p8 p9 p10 p11 p12 p13 p14 p15 H.size x0_3 x0_4 x0_5 x0_6 x0_7 x0_8 x0_9 x0_10 x0_11 x0_12 x0_13 x0_14 x1_1 x1_2 v85 x1_4 x1_5 x1_6 x1_7 x1_8 y2 x3_5 x3_6 y4 y5 y6 y7 y8 x9_6 y10 y11 y12 y13 y14 y15   ) (v_R_peek_s1 hk k_747 ⟨Nat.le_of_ble_eq_true rfl, Nat.le_of_ble_eq_true rfl⟩) (pMC_v hK hP hD hC hS hA (ci := 4) (q0 := 1) rfl rfl rfl) rfl rfl hl.1 rfl (lv_room (Nat.le_of_ble_eq_true rfl)) d_R_readToken_129 ⟨by decide, by decide⟩) hS hA hD (fun rz86 u t H locs hr0 ht hB hFr hS => ?_)
                  obtain ⟨hP, hD⟩ := hB
                  rw [ht] at hP
                  have hD := dwk hD hFr
                  clear ht hFr
                  have hP : va_P D classes (wS52 K cI cJ cZ cB p0 p1 p2 p3 p4 p5 p6 p7 p8 p9 p10 p11 p12 p13 p14 p15 x0_3 x0_4 x0_5 x0_6 x0_7 x0_8 x0_9 x0_10 x0_11 x0_12 x0_13 x0_14 x1_1 x1_2 v85 x1_4 x1_5 x1_6 x1_7 x1_8 y2 x3_5 x3_6 y4 y5 y6 y7 y8 x9_6 y10 y11 y12 y13 y14 y15) H := hP
                  have hD : va_D A (wS52 K cI cJ cZ cB p0 p1 p2 p3 p4 p5 p6 p7 p8 p9 p10 p11 p12 p13 p14 p15 x0_3 x0_4 x0_5 x0_6 x0_7 x0_8 x0_9 x0_10 x0_11 x0_12 x0_13 x0_14 x1_1 x1_2 v85 x1_4 x1_5 x1_6 x1_7 x1_8 y2 x3_5 x3_6 y4 y5 y6 y7 y8 x9_6 y10 y11 y12 y13 y14 y15) := hD
                  refine cs_i (W.runS (As := [.int rz86]) (rest := []) ⟨hx, hb, hml, hown, hk⟩ (c_N_codeOf l rz86) (s_N_codeOf hk k_756 ⟨Nat.le_of_ble_eq_true rfl, Nat.le_of_ble_eq_true rfl⟩) ⟨fun a U g mk q => q, fun U hU hW => ⟨rfl, trivial⟩⟩ rfl rfl hl.1 rfl (lv_room (Nat.le_of_ble_eq_true rfl)) d_R_readToken_132 ⟨Nat.le_of_ble_eq_true rfl, Nat.le_of_ble_eq_true rfl⟩) ?_
                  refine lv_topi (fun v87 hv87 => ?_)
                  refine lv_istore (lv' := [(7, .int v87), (4, .long v84), (6, .int (0 : Int32)), (2, .long v60), (1, .int v57), (8, .int l8), (0, .ref p1)]) hx hb d_R_readToken_135 hl (by decide) rfl (fun ls hl => ?_)
                  obtain ⟨v88, hv88⟩ : ∃ y : Int32, y = (l8 + (1 : Int32)) := ⟨_, rfl⟩
                  refine lv_iinc (v := v88) (lv' := [(8, .int v88), (7, .int v87), (4, .long v84), (6, .int (0 : Int32)), (2, .long v60), (1, .int v57), (0, .ref p1)]) hx hb d_R_readToken_137 hl (k := 5) rfl (by rw [hv88]; rfl) (by decide) rfl (fun ls hl => ?_)
                  refine lv_goto (tgt := 47) hx hb d_R_readToken_140 (by decide) ?_
                  exact ih v88 v87 (0 : Int32) v84 v60 v57 v85 x1_6 x1_7 x1_8 H _ ls (lpg c5 hv88 (by decide) hn47_52) (lpm hc47_52 c5 hv88 (by decide)) hP hD hS (lv_sub hl [0, 1, 3, 2, 4, 5, 6] rfl)
                · refine lv_iconst (v := 0) hx hb d_R_readToken_105 (by decide) ?_
                  refine lv_goto (tgt := 114) hx hb d_R_readToken_106 (by decide) ?_
                  refine lv_i2l (v := ((0 : Int32) : Int32).toInt64) hx hb d_R_readToken_114 rfl ?_
                  refine tpl (y := (0 : Int64)) (by decide) ?_
                  refine lv_ladd hx hb d_R_readToken_115 ?_
                  refine lv_topl (fun v89 hv89 => ?_)
                  refine lv_lstore (lv' := [(4, .long v89), (6, .int (0 : Int32)), (2, .long v60), (1, .int v57), (8, .int l8), (7, .int l7), (0, .ref p1)]) hx hb d_R_readToken_116 hl (by decide) rfl (fun ls hl => ?_)
                  refine lv_aload_n hx hb d_R_readToken_118 rfl (lv_at hl 6 rfl) ?_
                  refine lv_dup hx hb d_R_readToken_119 rfl ?_
                  refine va_get (D := D) (ci := 4) (v := .int x1_3) (C := "SignMachine$Source") (T := F_R) (N := 9) hx hb hk fi_R hown hK.1 hP 1 rfl rfl 3 (by decide) (hk _ k_540) (fun _ h9 => h9) rfl d_R_readToken_120 ?_
                  refine lv_iconst (v := 1) hx hb d_R_readToken_123 (by decide) ?_
                  refine lv_iadd hx hb d_R_readToken_124 ?_
                  refine lv_topi (fun v90 hv90 => ?_)
                  refine va_put (D := D) (ci := 4) (v := .int v90) (ty := .int) (C := "SignMachine$Source") (T := F_R) (N := 9) hx hb hk fi_R ft_R ft_R_ok fn_R hown hK.1 hP hD hS 1 rfl rfl 3 (by decide) (hk _ k_540) (fun _ h9 => h9) rfl (by decide +kernel) rfl rfl (Nat.le_of_ble_eq_true rfl) d_R_readToken_125 (fun H locs hP hD hS => ?_)
                  have hP : va_P D classes (wS52 K cI cJ cZ cB p0 p1 p2 p3 p4 p5 p6 p7 p8 p9 p10 p11 p12 p13 p14 p15 x0_3 x0_4 x0_5 x0_6 x0_7 x0_8 x0_9 x0_10 x0_11 x0_12 x0_13 x0_14 x1_1 x1_2 v90 x1_4 x1_5 x1_6 x1_7 x1_8 y2 x3_5 x3_6 y4 y5 y6 y7 y8 x9_6 y10 y11 y12 y13 y14 y15) H := hP
                  have hD : va_D A (wS52 K cI cJ cZ cB p0 p1 p2 p3 p4 p5 p6 p7 p8 p9 p10 p11 p12 p13 p14 p15 x0_3 x0_4 x0_5 x0_6 x0_7 x0_8 x0_9 x0_10 x0_11 x0_12 x0_13 x0_14 x1_1 x1_2 v90 x1_4 x1_5 x1_6 x1_7 x1_8 y2 x3_5 x3_6 y4 y5 y6 y7 y8 x9_6 y10 y11 y12 y13 y14 y15) := hD
                  refine lv_aload_n hx hb d_R_readToken_128 rfl (lv_at hl 6 rfl) ?_
                  refine sn_i (va_runV (C := "SignMachine$Source") (As := []) (rest := []) ⟨hx, hb, hml, hown, hk⟩ (c_R_peek_s1 l K D cI cJ cZ cB p0 p1 p2 p3 p4 p5 p6 p7 p8 p9 p10 p11 p12 p13 p14 p15 H.size x0_3 x0_4 x0_5 x0_6 x0_7 x0_8 x0_9 x0_10 x0_11 x0_12 x0_13 x0_14 x1_1 x1_2 v90 x1_4 x1_5 x1_6 x1_7 x1_8 y2 x3_5 x3_6 y4 y5 y6 y7 y8 x9_6 y10 y11 y12 y13 y14 y15   ) (v_R_peek_s1 hk k_747 ⟨Nat.le_of_ble_eq_true rfl, Nat.le_of_ble_eq_true rfl⟩) (pMC_v hK hP hD hC hS hA (ci := 4) (q0 := 1) rfl rfl rfl) rfl rfl hl.1 rfl (lv_room (Nat.le_of_ble_eq_true rfl)) d_R_readToken_129 ⟨by decide, by decide⟩) hS hA hD (fun rz91 u t H locs hr0 ht hB hFr hS => ?_)
                  obtain ⟨hP, hD⟩ := hB
                  rw [ht] at hP
                  have hD := dwk hD hFr
                  clear ht hFr
                  have hP : va_P D classes (wS52 K cI cJ cZ cB p0 p1 p2 p3 p4 p5 p6 p7 p8 p9 p10 p11 p12 p13 p14 p15 x0_3 x0_4 x0_5 x0_6 x0_7 x0_8 x0_9 x0_10 x0_11 x0_12 x0_13 x0_14 x1_1 x1_2 v90 x1_4 x1_5 x1_6 x1_7 x1_8 y2 x3_5 x3_6 y4 y5 y6 y7 y8 x9_6 y10 y11 y12 y13 y14 y15) H := hP
                  have hD : va_D A (wS52 K cI cJ cZ cB p0 p1 p2 p3 p4 p5 p6 p7 p8 p9 p10 p11 p12 p13 p14 p15 x0_3 x0_4 x0_5 x0_6 x0_7 x0_8 x0_9 x0_10 x0_11 x0_12 x0_13 x0_14 x1_1 x1_2 v90 x1_4 x1_5 x1_6 x1_7 x1_8 y2 x3_5 x3_6 y4 y5 y6 y7 y8 x9_6 y10 y11 y12 y13 y14 y15) := hD
                  refine cs_i (W.runS (As := [.int rz91]) (rest := []) ⟨hx, hb, hml, hown, hk⟩ (c_N_codeOf l rz91) (s_N_codeOf hk k_756 ⟨Nat.le_of_ble_eq_true rfl, Nat.le_of_ble_eq_true rfl⟩) ⟨fun a U g mk q => q, fun U hU hW => ⟨rfl, trivial⟩⟩ rfl rfl hl.1 rfl (lv_room (Nat.le_of_ble_eq_true rfl)) d_R_readToken_132 ⟨Nat.le_of_ble_eq_true rfl, Nat.le_of_ble_eq_true rfl⟩) ?_
                  refine lv_topi (fun v92 hv92 => ?_)
                  refine lv_istore (lv' := [(7, .int v92), (4, .long v89), (6, .int (0 : Int32)), (2, .long v60), (1, .int v57), (8, .int l8), (0, .ref p1)]) hx hb d_R_readToken_135 hl (by decide) rfl (fun ls hl => ?_)
                  obtain ⟨v93, hv93⟩ : ∃ y : Int32, y = (l8 + (1 : Int32)) := ⟨_, rfl⟩
                  refine lv_iinc (v := v93) (lv' := [(8, .int v93), (7, .int v92), (4, .long v89), (6, .int (0 : Int32)), (2, .long v60), (1, .int v57), (0, .ref p1)]) hx hb d_R_readToken_137 hl (k := 5) rfl (by rw [hv93]; rfl) (by decide) rfl (fun ls hl => ?_)
                  refine lv_goto (tgt := 47) hx hb d_R_readToken_140 (by decide) ?_
                  exact ih v93 v92 (0 : Int32) v89 v60 v57 v90 x1_6 x1_7 x1_8 H _ ls (lpg c5 hv93 (by decide) hn47_52) (lpm hc47_52 c5 hv93 (by decide)) hP hD hS (lv_sub hl [0, 1, 3, 2, 4, 5, 6] rfl)
              · refine lv_iconst (v := 1) hx hb d_R_readToken_84 (by decide) ?_
                refine lv_goto (tgt := 89) hx hb d_R_readToken_85 (by decide) ?_
                refine lv_istore (lv' := [(6, .int (1 : Int32)), (2, .long v60), (1, .int v57), (8, .int l8), (7, .int l7), (4, .long l4), (0, .ref p1)]) hx hb d_R_readToken_89 hl (by decide) rfl (fun ls hl => ?_)
                refine lv_lload hx hb d_R_readToken_91 (lv_at hl 5 rfl) ?_
                refine lv_ldc2 (v := 10) hx hb hown (hk _ k_762) d_R_readToken_93 ?_
                refine lv_lmul hx hb d_R_readToken_96 ?_
                refine lv_topl (fun v94 hv94 => ?_)
                refine lv_iload hx hb d_R_readToken_97 (lv_at hl 4 rfl) ?_
                refine cs_i (W.runS (As := [.int l7]) (rest := [.long v94]) ⟨hx, hb, hml, hown, hk⟩ (c_N_isLetter l l7) (s_N_isLetter hk k_759 ⟨Nat.le_of_ble_eq_true rfl, Nat.le_of_ble_eq_true rfl⟩) ⟨fun a U g mk q => q, fun U hU hW => ⟨rfl, trivial⟩⟩ rfl rfl hl.1 rfl (lv_room (Nat.le_of_ble_eq_true rfl)) d_R_readToken_99 ⟨Nat.le_of_ble_eq_true rfl, Nat.le_of_ble_eq_true rfl⟩) ?_
                obtain ⟨z95, hz95⟩ : ∃ y : Bool, y = (f_N_isLetter l7) := ⟨_, rfl⟩
                rw [← hz95]
                refine lv_if_eq (tgt := 109) hx hb d_R_readToken_102 (by decide) (fun c96 => ?_) (fun c96 => ?_)
                · refine lv_iload hx hb d_R_readToken_109 (lv_at hl 4 rfl) ?_
                  refine cs_i (W.runS (As := [.int l7]) (rest := [.long v94]) ⟨hx, hb, hml, hown, hk⟩ (c_N_digitOf l l7) (s_N_digitOf hk k_763 ⟨Nat.le_of_ble_eq_true rfl, Nat.le_of_ble_eq_true rfl⟩) ⟨fun a U g mk q => q, fun U hU hW => ⟨rfl, trivial⟩⟩ rfl rfl hl.1 rfl (lv_room (Nat.le_of_ble_eq_true rfl)) d_R_readToken_111 ⟨Nat.le_of_ble_eq_true rfl, Nat.le_of_ble_eq_true rfl⟩) ?_
                  refine lv_topi (fun v97 hv97 => ?_)
                  refine lv_i2l (v := (v97 : Int32).toInt64) hx hb d_R_readToken_114 rfl ?_
                  refine lv_topl (fun v98 hv98 => ?_)
                  refine lv_ladd hx hb d_R_readToken_115 ?_
                  refine lv_topl (fun v99 hv99 => ?_)
                  refine lv_lstore (lv' := [(4, .long v99), (6, .int (1 : Int32)), (2, .long v60), (1, .int v57), (8, .int l8), (7, .int l7), (0, .ref p1)]) hx hb d_R_readToken_116 hl (by decide) rfl (fun ls hl => ?_)
                  refine lv_aload_n hx hb d_R_readToken_118 rfl (lv_at hl 6 rfl) ?_
                  refine lv_dup hx hb d_R_readToken_119 rfl ?_
                  refine va_get (D := D) (ci := 4) (v := .int x1_3) (C := "SignMachine$Source") (T := F_R) (N := 9) hx hb hk fi_R hown hK.1 hP 1 rfl rfl 3 (by decide) (hk _ k_540) (fun _ h9 => h9) rfl d_R_readToken_120 ?_
                  refine lv_iconst (v := 1) hx hb d_R_readToken_123 (by decide) ?_
                  refine lv_iadd hx hb d_R_readToken_124 ?_
                  refine lv_topi (fun v100 hv100 => ?_)
                  refine va_put (D := D) (ci := 4) (v := .int v100) (ty := .int) (C := "SignMachine$Source") (T := F_R) (N := 9) hx hb hk fi_R ft_R ft_R_ok fn_R hown hK.1 hP hD hS 1 rfl rfl 3 (by decide) (hk _ k_540) (fun _ h9 => h9) rfl (by decide +kernel) rfl rfl (Nat.le_of_ble_eq_true rfl) d_R_readToken_125 (fun H locs hP hD hS => ?_)
                  have hP : va_P D classes (wS52 K cI cJ cZ cB p0 p1 p2 p3 p4 p5 p6 p7 p8 p9 p10 p11 p12 p13 p14 p15 x0_3 x0_4 x0_5 x0_6 x0_7 x0_8 x0_9 x0_10 x0_11 x0_12 x0_13 x0_14 x1_1 x1_2 v100 x1_4 x1_5 x1_6 x1_7 x1_8 y2 x3_5 x3_6 y4 y5 y6 y7 y8 x9_6 y10 y11 y12 y13 y14 y15) H := hP
                  have hD : va_D A (wS52 K cI cJ cZ cB p0 p1 p2 p3 p4 p5 p6 p7 p8 p9 p10 p11 p12 p13 p14 p15 x0_3 x0_4 x0_5 x0_6 x0_7 x0_8 x0_9 x0_10 x0_11 x0_12 x0_13 x0_14 x1_1 x1_2 v100 x1_4 x1_5 x1_6 x1_7 x1_8 y2 x3_5 x3_6 y4 y5 y6 y7 y8 x9_6 y10 y11 y12 y13 y14 y15) := hD
                  refine lv_aload_n hx hb d_R_readToken_128 rfl (lv_at hl 6 rfl) ?_
                  refine sn_i (va_runV (C := "SignMachine$Source") (As := []) (rest := []) ⟨hx, hb, hml, hown, hk⟩ (c_R_peek_s1 l K D cI cJ cZ cB p0 p1 p2 p3 p4 p5 p6 p7 p8 p9 p10 p11 p12 p13 p14 p15 H.size x0_3 x0_4 x0_5 x0_6 x0_7 x0_8 x0_9 x0_10 x0_11 x0_12 x0_13 x0_14 x1_1 x1_2 v100 x1_4 x1_5 x1_6 x1_7 x1_8 y2 x3_5 x3_6 y4 y5 y6 y7 y8 x9_6 y10 y11 y12 y13 y14 y15   ) (v_R_peek_s1 hk k_747 ⟨Nat.le_of_ble_eq_true rfl, Nat.le_of_ble_eq_true rfl⟩) (pMC_v hK hP hD hC hS hA (ci := 4) (q0 := 1) rfl rfl rfl) rfl rfl hl.1 rfl (lv_room (Nat.le_of_ble_eq_true rfl)) d_R_readToken_129 ⟨by decide, by decide⟩) hS hA hD (fun rz101 u t H locs hr0 ht hB hFr hS => ?_)
                  obtain ⟨hP, hD⟩ := hB
                  rw [ht] at hP
                  have hD := dwk hD hFr
                  clear ht hFr
                  have hP : va_P D classes (wS52 K cI cJ cZ cB p0 p1 p2 p3 p4 p5 p6 p7 p8 p9 p10 p11 p12 p13 p14 p15 x0_3 x0_4 x0_5 x0_6 x0_7 x0_8 x0_9 x0_10 x0_11 x0_12 x0_13 x0_14 x1_1 x1_2 v100 x1_4 x1_5 x1_6 x1_7 x1_8 y2 x3_5 x3_6 y4 y5 y6 y7 y8 x9_6 y10 y11 y12 y13 y14 y15) H := hP
                  have hD : va_D A (wS52 K cI cJ cZ cB p0 p1 p2 p3 p4 p5 p6 p7 p8 p9 p10 p11 p12 p13 p14 p15 x0_3 x0_4 x0_5 x0_6 x0_7 x0_8 x0_9 x0_10 x0_11 x0_12 x0_13 x0_14 x1_1 x1_2 v100 x1_4 x1_5 x1_6 x1_7 x1_8 y2 x3_5 x3_6 y4 y5 y6 y7 y8 x9_6 y10 y11 y12 y13 y14 y15) := hD
                  refine cs_i (W.runS (As := [.int rz101]) (rest := []) ⟨hx, hb, hml, hown, hk⟩ (c_N_codeOf l rz101) (s_N_codeOf hk k_756 ⟨Nat.le_of_ble_eq_true rfl, Nat.le_of_ble_eq_true rfl⟩) ⟨fun a U g mk q => q, fun U hU hW => ⟨rfl, trivial⟩⟩ rfl rfl hl.1 rfl (lv_room (Nat.le_of_ble_eq_true rfl)) d_R_readToken_132 ⟨Nat.le_of_ble_eq_true rfl, Nat.le_of_ble_eq_true rfl⟩) ?_
                  refine lv_topi (fun v102 hv102 => ?_)
                  refine lv_istore (lv' := [(7, .int v102), (4, .long v99), (6, .int (1 : Int32)), (2, .long v60), (1, .int v57), (8, .int l8), (0, .ref p1)]) hx hb d_R_readToken_135 hl (by decide) rfl (fun ls hl => ?_)
                  obtain ⟨v103, hv103⟩ : ∃ y : Int32, y = (l8 + (1 : Int32)) := ⟨_, rfl⟩
                  refine lv_iinc (v := v103) (lv' := [(8, .int v103), (7, .int v102), (4, .long v99), (6, .int (1 : Int32)), (2, .long v60), (1, .int v57), (0, .ref p1)]) hx hb d_R_readToken_137 hl (k := 5) rfl (by rw [hv103]; rfl) (by decide) rfl (fun ls hl => ?_)
                  refine lv_goto (tgt := 47) hx hb d_R_readToken_140 (by decide) ?_
                  exact ih v103 v102 (1 : Int32) v99 v60 v57 v100 x1_6 x1_7 x1_8 H _ ls (lpg c5 hv103 (by decide) hn47_52) (lpm hc47_52 c5 hv103 (by decide)) hP hD hS (lv_sub hl [0, 1, 3, 2, 4, 5, 6] rfl)
                · refine lv_iconst (v := 0) hx hb d_R_readToken_105 (by decide) ?_
                  refine lv_goto (tgt := 114) hx hb d_R_readToken_106 (by decide) ?_
                  refine lv_i2l (v := ((0 : Int32) : Int32).toInt64) hx hb d_R_readToken_114 rfl ?_
                  refine tpl (y := (0 : Int64)) (by decide) ?_
                  refine lv_ladd hx hb d_R_readToken_115 ?_
                  refine lv_topl (fun v104 hv104 => ?_)
                  refine lv_lstore (lv' := [(4, .long v104), (6, .int (1 : Int32)), (2, .long v60), (1, .int v57), (8, .int l8), (7, .int l7), (0, .ref p1)]) hx hb d_R_readToken_116 hl (by decide) rfl (fun ls hl => ?_)
                  refine lv_aload_n hx hb d_R_readToken_118 rfl (lv_at hl 6 rfl) ?_
                  refine lv_dup hx hb d_R_readToken_119 rfl ?_
                  refine va_get (D := D) (ci := 4) (v := .int x1_3) (C := "SignMachine$Source") (T := F_R) (N := 9) hx hb hk fi_R hown hK.1 hP 1 rfl rfl 3 (by decide) (hk _ k_540) (fun _ h9 => h9) rfl d_R_readToken_120 ?_
                  refine lv_iconst (v := 1) hx hb d_R_readToken_123 (by decide) ?_
                  refine lv_iadd hx hb d_R_readToken_124 ?_
                  refine lv_topi (fun v105 hv105 => ?_)
                  refine va_put (D := D) (ci := 4) (v := .int v105) (ty := .int) (C := "SignMachine$Source") (T := F_R) (N := 9) hx hb hk fi_R ft_R ft_R_ok fn_R hown hK.1 hP hD hS 1 rfl rfl 3 (by decide) (hk _ k_540) (fun _ h9 => h9) rfl (by decide +kernel) rfl rfl (Nat.le_of_ble_eq_true rfl) d_R_readToken_125 (fun H locs hP hD hS => ?_)
                  have hP : va_P D classes (wS52 K cI cJ cZ cB p0 p1 p2 p3 p4 p5 p6 p7 p8 p9 p10 p11 p12 p13 p14 p15 x0_3 x0_4 x0_5 x0_6 x0_7 x0_8 x0_9 x0_10 x0_11 x0_12 x0_13 x0_14 x1_1 x1_2 v105 x1_4 x1_5 x1_6 x1_7 x1_8 y2 x3_5 x3_6 y4 y5 y6 y7 y8 x9_6 y10 y11 y12 y13 y14 y15) H := hP
                  have hD : va_D A (wS52 K cI cJ cZ cB p0 p1 p2 p3 p4 p5 p6 p7 p8 p9 p10 p11 p12 p13 p14 p15 x0_3 x0_4 x0_5 x0_6 x0_7 x0_8 x0_9 x0_10 x0_11 x0_12 x0_13 x0_14 x1_1 x1_2 v105 x1_4 x1_5 x1_6 x1_7 x1_8 y2 x3_5 x3_6 y4 y5 y6 y7 y8 x9_6 y10 y11 y12 y13 y14 y15) := hD
                  refine lv_aload_n hx hb d_R_readToken_128 rfl (lv_at hl 6 rfl) ?_
                  refine sn_i (va_runV (C := "SignMachine$Source") (As := []) (rest := []) ⟨hx, hb, hml, hown, hk⟩ (c_R_peek_s1 l K D cI cJ cZ cB p0 p1 p2 p3 p4 p5 p6 p7 p8 p9 p10 p11 p12 p13 p14 p15 H.size x0_3 x0_4 x0_5 x0_6 x0_7 x0_8 x0_9 x0_10 x0_11 x0_12 x0_13 x0_14 x1_1 x1_2 v105 x1_4 x1_5 x1_6 x1_7 x1_8 y2 x3_5 x3_6 y4 y5 y6 y7 y8 x9_6 y10 y11 y12 y13 y14 y15   ) (v_R_peek_s1 hk k_747 ⟨Nat.le_of_ble_eq_true rfl, Nat.le_of_ble_eq_true rfl⟩) (pMC_v hK hP hD hC hS hA (ci := 4) (q0 := 1) rfl rfl rfl) rfl rfl hl.1 rfl (lv_room (Nat.le_of_ble_eq_true rfl)) d_R_readToken_129 ⟨by decide, by decide⟩) hS hA hD (fun rz106 u t H locs hr0 ht hB hFr hS => ?_)
                  obtain ⟨hP, hD⟩ := hB
                  rw [ht] at hP
                  have hD := dwk hD hFr
                  clear ht hFr
                  have hP : va_P D classes (wS52 K cI cJ cZ cB p0 p1 p2 p3 p4 p5 p6 p7 p8 p9 p10 p11 p12 p13 p14 p15 x0_3 x0_4 x0_5 x0_6 x0_7 x0_8 x0_9 x0_10 x0_11 x0_12 x0_13 x0_14 x1_1 x1_2 v105 x1_4 x1_5 x1_6 x1_7 x1_8 y2 x3_5 x3_6 y4 y5 y6 y7 y8 x9_6 y10 y11 y12 y13 y14 y15) H := hP
                  have hD : va_D A (wS52 K cI cJ cZ cB p0 p1 p2 p3 p4 p5 p6 p7 p8 p9 p10 p11 p12 p13 p14 p15 x0_3 x0_4 x0_5 x0_6 x0_7 x0_8 x0_9 x0_10 x0_11 x0_12 x0_13 x0_14 x1_1 x1_2 v105 x1_4 x1_5 x1_6 x1_7 x1_8 y2 x3_5 x3_6 y4 y5 y6 y7 y8 x9_6 y10 y11 y12 y13 y14 y15) := hD
                  refine cs_i (W.runS (As := [.int rz106]) (rest := []) ⟨hx, hb, hml, hown, hk⟩ (c_N_codeOf l rz106) (s_N_codeOf hk k_756 ⟨Nat.le_of_ble_eq_true rfl, Nat.le_of_ble_eq_true rfl⟩) ⟨fun a U g mk q => q, fun U hU hW => ⟨rfl, trivial⟩⟩ rfl rfl hl.1 rfl (lv_room (Nat.le_of_ble_eq_true rfl)) d_R_readToken_132 ⟨Nat.le_of_ble_eq_true rfl, Nat.le_of_ble_eq_true rfl⟩) ?_
                  refine lv_topi (fun v107 hv107 => ?_)
                  refine lv_istore (lv' := [(7, .int v107), (4, .long v104), (6, .int (1 : Int32)), (2, .long v60), (1, .int v57), (8, .int l8), (0, .ref p1)]) hx hb d_R_readToken_135 hl (by decide) rfl (fun ls hl => ?_)
                  obtain ⟨v108, hv108⟩ : ∃ y : Int32, y = (l8 + (1 : Int32)) := ⟨_, rfl⟩
                  refine lv_iinc (v := v108) (lv' := [(8, .int v108), (7, .int v107), (4, .long v104), (6, .int (1 : Int32)), (2, .long v60), (1, .int v57), (0, .ref p1)]) hx hb d_R_readToken_137 hl (k := 5) rfl (by rw [hv108]; rfl) (by decide) rfl (fun ls hl => ?_)
                  refine lv_goto (tgt := 47) hx hb d_R_readToken_140 (by decide) ?_
                  exact ih v108 v107 (1 : Int32) v104 v60 v57 v105 x1_6 x1_7 x1_8 H _ ls (lpg c5 hv108 (by decide) hn47_52) (lpm hc47_52 c5 hv108 (by decide)) hP hD hS (lv_sub hl [0, 1, 3, 2, 4, 5, 6] rfl)
    exact LP47_52 _ (0 : Int32) v4 (0 : Int32) (0 : Int64) (0 : Int64) (0 : Int32) x1_3 x1_6 x1_7 x1_8 H _ ls (Nat.lt_succ_self _) (by decide) hP hD hS hl
  · refine lv_aload_n hx hb d_R_readToken_9 rfl (lv_at hl 0 rfl) ?_
    refine lv_dup hx hb d_R_readToken_10 rfl ?_
    refine va_get (D := D) (ci := 4) (v := .int x1_3) (C := "SignMachine$Source") (T := F_R) (N := 9) hx hb hk fi_R hown hK.1 hP 1 rfl rfl 3 (by decide) (hk _ k_540) (fun _ h9 => h9) rfl d_R_readToken_11 ?_
    refine lv_iconst (v := 1) hx hb d_R_readToken_14 (by decide) ?_
    refine lv_iadd hx hb d_R_readToken_15 ?_
    refine lv_topi (fun v109 hv109 => ?_)
    refine va_put (D := D) (ci := 4) (v := .int v109) (ty := .int) (C := "SignMachine$Source") (T := F_R) (N := 9) hx hb hk fi_R ft_R ft_R_ok fn_R hown hK.1 hP hD hS 1 rfl rfl 3 (by decide) (hk _ k_540) (fun _ h9 => h9) rfl (by decide +kernel) rfl rfl (Nat.le_of_ble_eq_true rfl) d_R_readToken_16 (fun H locs hP hD hS => ?_)
    have hP : va_P D classes (wS52 K cI cJ cZ cB p0 p1 p2 p3 p4 p5 p6 p7 p8 p9 p10 p11 p12 p13 p14 p15 x0_3 x0_4 x0_5 x0_6 x0_7 x0_8 x0_9 x0_10 x0_11 x0_12 x0_13 x0_14 x1_1 x1_2 v109 x1_4 x1_5 x1_6 x1_7 x1_8 y2 x3_5 x3_6 y4 y5 y6 y7 y8 x9_6 y10 y11 y12 y13 y14 y15) H := hP
    have hD : va_D A (wS52 K cI cJ cZ cB p0 p1 p2 p3 p4 p5 p6 p7 p8 p9 p10 p11 p12 p13 p14 p15 x0_3 x0_4 x0_5 x0_6 x0_7 x0_8 x0_9 x0_10 x0_11 x0_12 x0_13 x0_14 x1_1 x1_2 v109 x1_4 x1_5 x1_6 x1_7 x1_8 y2 x3_5 x3_6 y4 y5 y6 y7 y8 x9_6 y10 y11 y12 y13 y14 y15) := hD
    refine lv_aload_n hx hb d_R_readToken_19 rfl (lv_at hl 0 rfl) ?_
    refine lv_iconst (v := 3) hx hb d_R_readToken_20 (by decide) ?_
    refine va_put (D := D) (ci := 4) (v := .int (3 : Int32)) (ty := .int) (C := "SignMachine$Source") (T := F_R) (N := 9) hx hb hk fi_R ft_R ft_R_ok fn_R hown hK.1 hP hD hS 1 rfl rfl 6 (by decide) (hk _ k_545) (fun _ h9 => h9) rfl (by decide +kernel) rfl rfl (Nat.le_of_ble_eq_true rfl) d_R_readToken_21 (fun H locs hP hD hS => ?_)
    have hP : va_P D classes (wS52 K cI cJ cZ cB p0 p1 p2 p3 p4 p5 p6 p7 p8 p9 p10 p11 p12 p13 p14 p15 x0_3 x0_4 x0_5 x0_6 x0_7 x0_8 x0_9 x0_10 x0_11 x0_12 x0_13 x0_14 x1_1 x1_2 v109 x1_4 x1_5 (3 : Int32) x1_7 x1_8 y2 x3_5 x3_6 y4 y5 y6 y7 y8 x9_6 y10 y11 y12 y13 y14 y15) H := hP
    have hD : va_D A (wS52 K cI cJ cZ cB p0 p1 p2 p3 p4 p5 p6 p7 p8 p9 p10 p11 p12 p13 p14 p15 x0_3 x0_4 x0_5 x0_6 x0_7 x0_8 x0_9 x0_10 x0_11 x0_12 x0_13 x0_14 x1_1 x1_2 v109 x1_4 x1_5 (3 : Int32) x1_7 x1_8 y2 x3_5 x3_6 y4 y5 y6 y7 y8 x9_6 y10 y11 y12 y13 y14 y15) := hD
    exact W.vret hx hb hr (fun t ht hW => ⟨⟨(), rfl, trivial, ⟨v109, (3 : Int32), x1_7, x1_8, by show va_P D classes _ t.heap; rw [ht]; exact hP, hD⟩⟩, hS.F ht⟩) hS.2.2 d_R_readToken_24
theorem v_R_readToken_s1 {R : Room} {s : State} {args : Array Value} {own : String} {index : Nat} (hk : ∀ w ∈ tb, w.before args s = true) (hl : Cond.methodLink own index y_R_readToken ∈ tb) (hR : 1 + 1 ≤ R.frames ∧ 8 + (9 + 11) + 20 ≤ R.locals) : CallW R s args own "SignMachine$Source" index y_R_readToken b_R_readToken 9 none (.code y_R_readToken b_R_readToken 9 none :: tb) ({ frames := 1, cells := 0, slots := 0, locals := 20 }) 0 0 0 := mk_v 0 hk k_755 hl k_753 k_754 k_124 rfl rfl h_R_readToken hR

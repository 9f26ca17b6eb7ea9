set_option maxHeartbeats 4000000 in
set_option maxRecDepth 100000 in
theorem c_M_registerIs_s4 (l : Launch) (K : CK) (D : va_G) (cI cJ cZ cB : ClassId) (p0 p1 p2 p3 p4 p5 p6 : Nat) (sz : Nat) (x0_4 : Bool) (x0_5 : Int32) (x0_6 : Int32) (x0_7 : Int32) (x0_8 : Int32) (x0_9 : Int32) (x0_10 : Int32) (x0_11 : Int32) (x0_12 : Int32) (x0_13 : Int32) (y1 : Nat → Int32) (y2 : Nat → Int32) (x3_0 : Int32) (x4_0 : Int32) (y5 : Nat → Int32) (y6 : Nat → Int32)  (a1 : Int32) : Met l y_M_registerIs (.code y_M_registerIs b_M_registerIs 2 (some .boolean) :: tb) ({ frames := 0, cells := 0, slots := 0, locals := 0 }) (pMC K D cI cJ cZ cB (wS62 cI cJ cZ cB p0 p1 p2 p3 p4 p5 p6 x0_4 x0_5 x0_6 x0_7 x0_8 x0_9 x0_10 x0_11 x0_12 x0_13 y1 y2 x3_0 x4_0 y5 y6) sz [.ref p0, .int a1]) (va_Qi (fun r (_ : Unit) => ∃ z : Bool, r = bI z) (fun _ t => (va_P D classes (wS62 cI cJ cZ cB p0 p1 p2 p3 p4 p5 p6 x0_4 x0_5 x0_6 x0_7 x0_8 x0_9 x0_10 x0_11 x0_12 x0_13 y1 y2 x3_0 x4_0 y5 y6) t.heap ∧ va_D (va_A (wS62 cI cJ cZ cB p0 p1 p2 p3 p4 p5 p6 x0_4 x0_5 x0_6 x0_7 x0_8 x0_9 x0_10 x0_11 x0_12 x0_13 y1 y2 x3_0 x4_0 y5 y6) sz) (wS62 cI cJ cZ cB p0 p1 p2 p3 p4 p5 p6 x0_4 x0_5 x0_6 x0_7 x0_8 x0_9 x0_10 x0_11 x0_12 x0_13 y1 y2 x3_0 x4_0 y5 y6))) (va_A (wS62 cI cJ cZ cB p0 p1 p2 p3 p4 p5 p6 x0_4 x0_5 x0_6 x0_7 x0_8 x0_9 x0_10 x0_11 x0_12 x0_13 y1 y2 x3_0 x4_0 y5 y6) sz)) 0 0 (va_A (wS62 cI cJ cZ cB p0 p1 p2 p3 p4 p5 p6 x0_4 x0_5 x0_6 x0_7 x0_8 x0_9 x0_10 x0_11 x0_12 x0_13 y1 y2 x3_0 x4_0 y5 y6) sz) := by
  refine Met.ofW (cc := b_M_registerIs) (maxL := 2) (ret := (some .boolean)) (by decide) rfl ?_
  intro p e s m args below meth c s₁ B hml hv
  obtain ⟨rfl, hsz, hK, hP, hD0, hC⟩ := hv
  subst hsz
  have hD := hD0.self (sz := s.heap.size)
  generalize hAe : va_A (wS62 cI cJ cZ cB p0 p1 p2 p3 p4 p5 p6 x0_4 x0_5 x0_6 x0_7 x0_8 x0_9 x0_10 x0_11 x0_12 x0_13 y1 y2 x3_0 x4_0 y5 y6) s.heap.size = A at hD hC ⊢
  have hA : ∀ q : Nat, s.heap.size ≤ q → A q := fun q h => by rw [← hAe]; exact Or.inr h
  clear hAe hD0
  have hS : va_S A s.heap s.heap [] := va_S.rf
  have hx := B.exec
  have hb := B.bytes
  have hr := B.returns
  have hts := atoms_spec (ws := .code y_M_registerIs b_M_registerIs 2 (some .boolean) :: tb) B.pre
  have hk : ∀ w ∈ tb, w.before [.ref p0, .int a1].toArray s = true := fun w h => hts w (List.mem_cons_of_mem _ h)
  have hown : s.vm.findClass "SignMachine$Machine" = some m.cls := findClass_of_methodNamed B.named
  have hlocks := B.notSynchronized
  have hl := lv_entry ([.ref p0, .int a1]) (n := 2) (Nat.le_of_ble_eq_true rfl)
  rw [lg_entry_eq]
  generalize (lg_sl ([.ref p0, .int a1]) ++ List.replicate (2 - (lg_sl ([.ref p0, .int a1])).length) Slot.unset).toArray = ls at hl ⊢
  have hl : lv_has ls 2 [(0, .ref p0), (1, .int a1)] := hl
  refine lv_aload_n hx hb d_M_registerIs_0 rfl (lv_at hl 0 rfl) ?_
  refine va_get (D := D) (ci := 1) (v := .int x0_10) (C := "SignMachine$Machine") (T := F_M) (N := 14) hx hb hk fi_M hown hK.1 hP 0 rfl rfl 10 (by decide) (hk _ k_177) (fun _ h9 => h9) rfl d_M_registerIs_1 ?_
  by_cases c1 : x0_10 = (0 : Int32)
  · refine lv_tableIn (off := 36) (tgt := 40) hx hb d_M_registerIs_4 (by rw [c1]; decide) (by rw [c1]; decide) (by rw [c1]; rfl) (by decide) ?_
    refine lv_iload_n hx hb d_M_registerIs_40 rfl (lv_at hl 1 rfl) ?_
    refine lv_if_ge (tgt := 48) hx hb d_M_registerIs_41 (by decide) (fun c2 => ?_) (fun c2 => ?_)
    · refine lv_iconst (v := 0) hx hb d_M_registerIs_48 (by decide) ?_
      exact W.zret (v := (0 : Int32)) hx hb hr rfl (fun t ht hW => ⟨⟨(0 : Int32), (), rfl, ⟨false, rfl⟩, ⟨by show va_P D classes _ t.heap; rw [ht]; exact hP, hD⟩⟩, hS.F ht⟩) hS.2.2 d_M_registerIs_49
    · refine lv_iconst (v := 1) hx hb d_M_registerIs_44 (by decide) ?_
      refine lv_goto (tgt := 49) hx hb d_M_registerIs_45 (by decide) ?_
      exact W.zret (v := (1 : Int32)) hx hb hr rfl (fun t ht hW => ⟨⟨(1 : Int32), (), rfl, ⟨true, rfl⟩, ⟨by show va_P D classes _ t.heap; rw [ht]; exact hP, hD⟩⟩, hS.F ht⟩) hS.2.2 d_M_registerIs_49
  · by_cases c3 : x0_10 = (1 : Int32)
    · refine lv_tableIn (off := 46) (tgt := 50) hx hb d_M_registerIs_4 (by rw [c3]; decide) (by rw [c3]; decide) (by rw [c3]; rfl) (by decide) ?_
      refine lv_iload_n hx hb d_M_registerIs_50 rfl (lv_at hl 1 rfl) ?_
      refine lv_if_ne (tgt := 58) hx hb d_M_registerIs_51 (by decide) (fun c4 => ?_) (fun c4 => ?_)
      · refine lv_iconst (v := 0) hx hb d_M_registerIs_58 (by decide) ?_
        exact W.zret (v := (0 : Int32)) hx hb hr rfl (fun t ht hW => ⟨⟨(0 : Int32), (), rfl, ⟨false, rfl⟩, ⟨by show va_P D classes _ t.heap; rw [ht]; exact hP, hD⟩⟩, hS.F ht⟩) hS.2.2 d_M_registerIs_59
      · refine lv_iconst (v := 1) hx hb d_M_registerIs_54 (by decide) ?_
        refine lv_goto (tgt := 59) hx hb d_M_registerIs_55 (by decide) ?_
        exact W.zret (v := (1 : Int32)) hx hb hr rfl (fun t ht hW => ⟨⟨(1 : Int32), (), rfl, ⟨true, rfl⟩, ⟨by show va_P D classes _ t.heap; rw [ht]; exact hP, hD⟩⟩, hS.F ht⟩) hS.2.2 d_M_registerIs_59
    · by_cases c5 : x0_10 = (2 : Int32)
      · refine lv_tableIn (off := 56) (tgt := 60) hx hb d_M_registerIs_4 (by rw [c5]; decide) (by rw [c5]; decide) (by rw [c5]; rfl) (by decide) ?_
        refine lv_iload_n hx hb d_M_registerIs_60 rfl (lv_at hl 1 rfl) ?_
        refine lv_if_le (tgt := 68) hx hb d_M_registerIs_61 (by decide) (fun c6 => ?_) (fun c6 => ?_)
        · refine lv_iconst (v := 0) hx hb d_M_registerIs_68 (by decide) ?_
          exact W.zret (v := (0 : Int32)) hx hb hr rfl (fun t ht hW => ⟨⟨(0 : Int32), (), rfl, ⟨false, rfl⟩, ⟨by show va_P D classes _ t.heap; rw [ht]; exact hP, hD⟩⟩, hS.F ht⟩) hS.2.2 d_M_registerIs_69
        · refine lv_iconst (v := 1) hx hb d_M_registerIs_64 (by decide) ?_
          refine lv_goto (tgt := 69) hx hb d_M_registerIs_65 (by decide) ?_
          exact W.zret (v := (1 : Int32)) hx hb hr rfl (fun t ht hW => ⟨⟨(1 : Int32), (), rfl, ⟨true, rfl⟩, ⟨by show va_P D classes _ t.heap; rw [ht]; exact hP, hD⟩⟩, hS.F ht⟩) hS.2.2 d_M_registerIs_69
      · by_cases c7 : x0_10 = (3 : Int32)
        · refine lv_tableIn (off := 66) (tgt := 70) hx hb d_M_registerIs_4 (by rw [c7]; decide) (by rw [c7]; decide) (by rw [c7]; rfl) (by decide) ?_
          refine lv_iload_n hx hb d_M_registerIs_70 rfl (lv_at hl 1 rfl) ?_
          refine lv_if_lt (tgt := 78) hx hb d_M_registerIs_71 (by decide) (fun c8 => ?_) (fun c8 => ?_)
          · refine lv_iconst (v := 0) hx hb d_M_registerIs_78 (by decide) ?_
            exact W.zret (v := (0 : Int32)) hx hb hr rfl (fun t ht hW => ⟨⟨(0 : Int32), (), rfl, ⟨false, rfl⟩, ⟨by show va_P D classes _ t.heap; rw [ht]; exact hP, hD⟩⟩, hS.F ht⟩) hS.2.2 d_M_registerIs_79
          · refine lv_iconst (v := 1) hx hb d_M_registerIs_74 (by decide) ?_
            refine lv_goto (tgt := 79) hx hb d_M_registerIs_75 (by decide) ?_
            exact W.zret (v := (1 : Int32)) hx hb hr rfl (fun t ht hW => ⟨⟨(1 : Int32), (), rfl, ⟨true, rfl⟩, ⟨by show va_P D classes _ t.heap; rw [ht]; exact hP, hD⟩⟩, hS.F ht⟩) hS.2.2 d_M_registerIs_79
        · by_cases c9 : x0_10 = (4 : Int32)
          · refine lv_tableIn (off := 76) (tgt := 80) hx hb d_M_registerIs_4 (by rw [c9]; decide) (by rw [c9]; decide) (by rw [c9]; rfl) (by decide) ?_
            refine lv_iload_n hx hb d_M_registerIs_80 rfl (lv_at hl 1 rfl) ?_
            refine lv_if_eq (tgt := 88) hx hb d_M_registerIs_81 (by decide) (fun c10 => ?_) (fun c10 => ?_)
            · refine lv_iconst (v := 0) hx hb d_M_registerIs_88 (by decide) ?_
              exact W.zret (v := (0 : Int32)) hx hb hr rfl (fun t ht hW => ⟨⟨(0 : Int32), (), rfl, ⟨false, rfl⟩, ⟨by show va_P D classes _ t.heap; rw [ht]; exact hP, hD⟩⟩, hS.F ht⟩) hS.2.2 d_M_registerIs_89
            · refine lv_iconst (v := 1) hx hb d_M_registerIs_84 (by decide) ?_
              refine lv_goto (tgt := 89) hx hb d_M_registerIs_85 (by decide) ?_
              exact W.zret (v := (1 : Int32)) hx hb hr rfl (fun t ht hW => ⟨⟨(1 : Int32), (), rfl, ⟨true, rfl⟩, ⟨by show va_P D classes _ t.heap; rw [ht]; exact hP, hD⟩⟩, hS.F ht⟩) hS.2.2 d_M_registerIs_89
          · refine lv_tableOut (tgt := 90) hx hb d_M_registerIs_4 (by have e0 := lv_neT c1 (a := 0) rfl; have e1 := lv_neT c3 (a := 1) rfl; have e2 := lv_neT c5 (a := 2) rfl; have e3 := lv_neT c7 (a := 3) rfl; have e4 := lv_neT c9 (a := 4) rfl; omega) (by decide) ?_
            refine lv_iload_n hx hb d_M_registerIs_90 rfl (lv_at hl 1 rfl) ?_
            refine lv_if_gt (tgt := 98) hx hb d_M_registerIs_91 (by decide) (fun c11 => ?_) (fun c11 => ?_)
            · refine lv_iconst (v := 0) hx hb d_M_registerIs_98 (by decide) ?_
              exact W.zret (v := (0 : Int32)) hx hb hr rfl (fun t ht hW => ⟨⟨(0 : Int32), (), rfl, ⟨false, rfl⟩, ⟨by show va_P D classes _ t.heap; rw [ht]; exact hP, hD⟩⟩, hS.F ht⟩) hS.2.2 d_M_registerIs_99
            · refine lv_iconst (v := 1) hx hb d_M_registerIs_94 (by decide) ?_
              refine lv_goto (tgt := 99) hx hb d_M_registerIs_95 (by decide) ?_
              exact W.zret (v := (1 : Int32)) hx hb hr rfl (fun t ht hW => ⟨⟨(1 : Int32), (), rfl, ⟨true, rfl⟩, ⟨by show va_P D classes _ t.heap; rw [ht]; exact hP, hD⟩⟩, hS.F ht⟩) hS.2.2 d_M_registerIs_99
theorem v_M_registerIs_s4 {R : Room} {s : State} {args : Array Value} {own : String} {index : Nat} (hk : ∀ w ∈ tb, w.before args s = true) (hl : Cond.methodLink own index y_M_registerIs ∈ tb) (hR : 0 + 1 ≤ R.frames ∧ 8 + (2 + 11) + 0 ≤ R.locals) : CallW R s args own "SignMachine$Machine" index y_M_registerIs b_M_registerIs 2 (some .boolean) (.code y_M_registerIs b_M_registerIs 2 (some .boolean) :: tb) ({ frames := 0, cells := 0, slots := 0, locals := 0 }) 0 0 1 := mk_v 1 hk k_459 hl k_458 k_30 k_117 rfl rfl h_M_registerIs hR
set_option maxHeartbeats 4000000 in
set_option maxRecDepth 100000 in
theorem c_M_changeByAddress_s4 (l : Launch) (K : CK) (D : va_G) (cI cJ cZ cB : ClassId) (p0 p1 p2 p3 p4 p5 p6 : Nat) (sz : Nat) (x0_4 : Bool) (x0_5 : Int32) (x0_6 : Int32) (x0_7 : Int32) (x0_8 : Int32) (x0_9 : Int32) (x0_10 : Int32) (x0_11 : Int32) (x0_12 : Int32) (x0_13 : Int32) (y1 : Nat → Int32) (y2 : Nat → Int32) (x3_0 : Int32) (x4_0 : Int32) (y5 : Nat → Int32) (y6 : Nat → Int32)  (a1 : Int32) : Met l y_M_changeByAddress (.code y_M_changeByAddress b_M_changeByAddress 2 none :: tb) ({ frames := 3, cells := 0, slots := 0, locals := 66 }) (pMC K D cI cJ cZ cB (wS62 cI cJ cZ cB p0 p1 p2 p3 p4 p5 p6 x0_4 x0_5 x0_6 x0_7 x0_8 x0_9 x0_10 x0_11 x0_12 x0_13 y1 y2 x3_0 x4_0 y5 y6) sz [.ref p0, .int a1]) (va_Qv (fun (_ : Unit) => True) (fun _ t => (∃ u_x0_4 : Bool, ∃ u_y2 : Nat → Int32, va_P D classes (wS62 cI cJ cZ cB p0 p1 p2 p3 p4 p5 p6 u_x0_4 x0_5 x0_6 x0_7 x0_8 x0_9 x0_10 x0_11 x0_12 x0_13 y1 u_y2 x3_0 x4_0 y5 y6) t.heap ∧ va_D (va_A (wS62 cI cJ cZ cB p0 p1 p2 p3 p4 p5 p6 x0_4 x0_5 x0_6 x0_7 x0_8 x0_9 x0_10 x0_11 x0_12 x0_13 y1 y2 x3_0 x4_0 y5 y6) sz) (wS62 cI cJ cZ cB p0 p1 p2 p3 p4 p5 p6 u_x0_4 x0_5 x0_6 x0_7 x0_8 x0_9 x0_10 x0_11 x0_12 x0_13 y1 u_y2 x3_0 x4_0 y5 y6))) (va_A (wS62 cI cJ cZ cB p0 p1 p2 p3 p4 p5 p6 x0_4 x0_5 x0_6 x0_7 x0_8 x0_9 x0_10 x0_11 x0_12 x0_13 y1 y2 x3_0 x4_0 y5 y6) sz)) 0 0 (va_A (wS62 cI cJ cZ cB p0 p1 p2 p3 p4 p5 p6 x0_4 x0_5 x0_6 x0_7 x0_8 x0_9 x0_10 x0_11 x0_12 x0_13 y1 y2 x3_0 x4_0 y5 y6) sz) := by
  refine Met.ofW (cc := b_M_changeByAddress) (maxL := 2) (ret := none) (by decide) rfl ?_
  intro p e s m args below meth c s₁ B hml hv
  obtain ⟨rfl, hsz, hK, hP, hD0, hC⟩ := hv
  subst hsz
  have hD := hD0.self (sz := s.heap.size)
  generalize hAe : va_A (wS62 cI cJ cZ cB p0 p1 p2 p3 p4 p5 p6 x0_4 x0_5 x0_6 x0_7 x0_8 x0_9 x0_10 x0_11 x0_12 x0_13 y1 y2 x3_0 x4_0 y5 y6) s.heap.size = A at hD hC ⊢
  have hA : ∀ q : Nat, s.heap.size ≤ q → A q := fun q h => by rw [← hAe]; exact Or.inr h
  clear hAe hD0
  have hS : va_S A s.heap s.heap [] := va_S.rf
  have hx := B.exec
  have hb := B.bytes
  have hr := B.returns
  have hts := atoms_spec (ws := .code y_M_changeByAddress b_M_changeByAddress 2 none :: tb) B.pre
  have hk : ∀ w ∈ tb, w.before [.ref p0, .int a1].toArray s = true := fun w h => hts w (List.mem_cons_of_mem _ h)
  have hown : s.vm.findClass "SignMachine$Machine" = some m.cls := findClass_of_methodNamed B.named
  have hlocks := B.notSynchronized
  have hl := lv_entry ([.ref p0, .int a1]) (n := 2) (Nat.le_of_ble_eq_true rfl)
  rw [lg_entry_eq]
  generalize (lg_sl ([.ref p0, .int a1]) ++ List.replicate (2 - (lg_sl ([.ref p0, .int a1])).length) Slot.unset).toArray = ls at hl ⊢
  have hl : lv_has ls 2 [(0, .ref p0), (1, .int a1)] := hl
  refine lv_aload_n hx hb d_M_changeByAddress_0 rfl (lv_at hl 0 rfl) ?_
  refine va_get (D := D) (ci := 1) (v := .int x0_10) (C := "SignMachine$Machine") (T := F_M) (N := 14) hx hb hk fi_M hown hK.1 hP 0 rfl rfl 10 (by decide) (hk _ k_177) (fun _ h9 => h9) rfl d_M_changeByAddress_1 ?_
  by_cases c1 : x0_10 = (0 : Int32)
  · refine lv_tableIn (off := 28) (tgt := 32) hx hb d_M_changeByAddress_4 (by rw [c1]; decide) (by rw [c1]; decide) (by rw [c1]; rfl) (by decide) ?_
    refine lv_aload_n hx hb d_M_changeByAddress_32 rfl (lv_at hl 0 rfl) ?_
    refine lv_iload_n hx hb d_M_changeByAddress_33 rfl (lv_at hl 1 rfl) ?_
    refine lv_aload_n hx hb d_M_changeByAddress_34 rfl (lv_at hl 0 rfl) ?_
    refine va_get (D := D) (ci := 1) (v := .int x0_12) (C := "SignMachine$Machine") (T := F_M) (N := 14) hx hb hk fi_M hown hK.1 hP 0 rfl rfl 12 (by decide) (hk _ k_179) (fun _ h9 => h9) rfl d_M_changeByAddress_35 ?_
    refine kn_v (va_runV (C := "SignMachine$Machine") (As := [.int a1, .int x0_12]) (rest := []) ⟨hx, hb, hml, hown, hk⟩ (c_M_addTo_s4 l K D cI cJ cZ cB p0 p1 p2 p3 p4 p5 p6 s.heap.size x0_4 x0_5 x0_6 x0_7 x0_8 x0_9 x0_10 x0_11 x0_12 x0_13 y1 y2 x3_0 x4_0 y5 y6  a1 x0_12 ) (v_M_addTo_s4 hk k_354 ⟨Nat.le_of_ble_eq_true rfl, Nat.le_of_ble_eq_true rfl⟩) (pMC_v hK hP hD hC hS hA (ci := 1) (q0 := 0) rfl rfl rfl) rfl rfl hl.1 rfl (lv_room (Nat.le_of_ble_eq_true rfl)) d_M_changeByAddress_38 ⟨by decide, by decide⟩) hS hA hD (fun u t H locs ht hB hFr hS => ?_)
    obtain ⟨x0_4z2, y2z2, hP, hD⟩ := hB
    rw [ht] at hP
    have hD := dwk hD hFr
    clear ht hFr
    have hP : va_P D classes (wS62 cI cJ cZ cB p0 p1 p2 p3 p4 p5 p6 x0_4z2 x0_5 x0_6 x0_7 x0_8 x0_9 x0_10 x0_11 x0_12 x0_13 y1 y2z2 x3_0 x4_0 y5 y6) H := hP
    have hD : va_D A (wS62 cI cJ cZ cB p0 p1 p2 p3 p4 p5 p6 x0_4z2 x0_5 x0_6 x0_7 x0_8 x0_9 x0_10 x0_11 x0_12 x0_13 y1 y2z2 x3_0 x4_0 y5 y6) := hD
    refine lv_goto (tgt := 95) hx hb d_M_changeByAddress_41 (by decide) ?_
    exact W.vret hx hb hr (fun t ht hW => ⟨⟨(), rfl, trivial, ⟨x0_4z2, y2z2, by show va_P D classes _ t.heap; rw [ht]; exact hP, hD⟩⟩, hS.F ht⟩) hS.2.2 d_M_changeByAddress_95
  · by_cases c3 : x0_10 = (1 : Int32)
    · refine lv_tableIn (off := 40) (tgt := 44) hx hb d_M_changeByAddress_4 (by rw [c3]; decide) (by rw [c3]; decide) (by rw [c3]; rfl) (by decide) ?_
      refine lv_aload_n hx hb d_M_changeByAddress_44 rfl (lv_at hl 0 rfl) ?_
      refine lv_iload_n hx hb d_M_changeByAddress_45 rfl (lv_at hl 1 rfl) ?_
      refine lv_aload_n hx hb d_M_changeByAddress_46 rfl (lv_at hl 0 rfl) ?_
      refine va_get (D := D) (ci := 1) (v := .int x0_12) (C := "SignMachine$Machine") (T := F_M) (N := 14) hx hb hk fi_M hown hK.1 hP 0 rfl rfl 12 (by decide) (hk _ k_179) (fun _ h9 => h9) rfl d_M_changeByAddress_47 ?_
      refine lv_ineg hx hb d_M_changeByAddress_50 ?_
      refine lv_topi (fun v4 hv4 => ?_)
      refine kn_v (va_runV (C := "SignMachine$Machine") (As := [.int a1, .int v4]) (rest := []) ⟨hx, hb, hml, hown, hk⟩ (c_M_addTo_s4 l K D cI cJ cZ cB p0 p1 p2 p3 p4 p5 p6 s.heap.size x0_4 x0_5 x0_6 x0_7 x0_8 x0_9 x0_10 x0_11 x0_12 x0_13 y1 y2 x3_0 x4_0 y5 y6  a1 v4 ) (v_M_addTo_s4 hk k_354 ⟨Nat.le_of_ble_eq_true rfl, Nat.le_of_ble_eq_true rfl⟩) (pMC_v hK hP hD hC hS hA (ci := 1) (q0 := 0) rfl rfl rfl) rfl rfl hl.1 rfl (lv_room (Nat.le_of_ble_eq_true rfl)) d_M_changeByAddress_51 ⟨by decide, by decide⟩) hS hA hD (fun u t H locs ht hB hFr hS => ?_)
      obtain ⟨x0_4z5, y2z5, hP, hD⟩ := hB
      rw [ht] at hP
      have hD := dwk hD hFr
      clear ht hFr
      have hP : va_P D classes (wS62 cI cJ cZ cB p0 p1 p2 p3 p4 p5 p6 x0_4z5 x0_5 x0_6 x0_7 x0_8 x0_9 x0_10 x0_11 x0_12 x0_13 y1 y2z5 x3_0 x4_0 y5 y6) H := hP
      have hD : va_D A (wS62 cI cJ cZ cB p0 p1 p2 p3 p4 p5 p6 x0_4z5 x0_5 x0_6 x0_7 x0_8 x0_9 x0_10 x0_11 x0_12 x0_13 y1 y2z5 x3_0 x4_0 y5 y6) := hD
      refine lv_goto (tgt := 95) hx hb d_M_changeByAddress_54 (by decide) ?_
      exact W.vret hx hb hr (fun t ht hW => ⟨⟨(), rfl, trivial, ⟨x0_4z5, y2z5, by show va_P D classes _ t.heap; rw [ht]; exact hP, hD⟩⟩, hS.F ht⟩) hS.2.2 d_M_changeByAddress_95
    · by_cases c6 : x0_10 = (2 : Int32)
      · refine lv_tableIn (off := 53) (tgt := 57) hx hb d_M_changeByAddress_4 (by rw [c6]; decide) (by rw [c6]; decide) (by rw [c6]; rfl) (by decide) ?_
        refine lv_aload_n hx hb d_M_changeByAddress_57 rfl (lv_at hl 0 rfl) ?_
        refine lv_iload_n hx hb d_M_changeByAddress_58 rfl (lv_at hl 1 rfl) ?_
        refine lv_aload_n hx hb d_M_changeByAddress_59 rfl (lv_at hl 0 rfl) ?_
        refine va_get (D := D) (ci := 1) (v := .int x0_12) (C := "SignMachine$Machine") (T := F_M) (N := 14) hx hb hk fi_M hown hK.1 hP 0 rfl rfl 12 (by decide) (hk _ k_179) (fun _ h9 => h9) rfl d_M_changeByAddress_60 ?_
        refine lv_aload_n hx hb d_M_changeByAddress_63 rfl (lv_at hl 0 rfl) ?_
        refine va_get (D := D) (ci := 1) (v := .int x0_13) (C := "SignMachine$Machine") (T := F_M) (N := 14) hx hb hk fi_M hown hK.1 hP 0 rfl rfl 13 (by decide) (hk _ k_180) (fun _ h9 => h9) rfl d_M_changeByAddress_64 ?_
        refine cs_i (W.runS (As := [.int x0_12, .int x0_13]) (rest := [.int a1, .ref p0]) ⟨hx, hb, hml, hown, hk⟩ (c_W_of l x0_12 x0_13) (s_W_of hk k_359 ⟨Nat.le_of_ble_eq_true rfl, Nat.le_of_ble_eq_true rfl⟩) ⟨fun a U g mk q => q, fun U hU hW => ⟨rfl, trivial⟩⟩ rfl rfl hl.1 rfl (lv_room (Nat.le_of_ble_eq_true rfl)) d_M_changeByAddress_67 ⟨Nat.le_of_ble_eq_true rfl, Nat.le_of_ble_eq_true rfl⟩) ?_
        refine lv_topi (fun v7 hv7 => ?_)
        refine kn_v (va_runV (C := "SignMachine$Machine") (As := [.int a1, .int v7]) (rest := []) ⟨hx, hb, hml, hown, hk⟩ (c_M_putRegister_s4 l K D cI cJ cZ cB p0 p1 p2 p3 p4 p5 p6 s.heap.size x0_4 x0_5 x0_6 x0_7 x0_8 x0_9 x0_10 x0_11 x0_12 x0_13 y1 y2 x3_0 x4_0 y5 y6  a1 v7 ) (v_M_putRegister_s4 hk k_362 ⟨Nat.le_of_ble_eq_true rfl, Nat.le_of_ble_eq_true rfl⟩) (pMC_v hK hP hD hC hS hA (ci := 1) (q0 := 0) rfl rfl rfl) rfl rfl hl.1 rfl (lv_room (Nat.le_of_ble_eq_true rfl)) d_M_changeByAddress_70 ⟨by decide, by decide⟩) hS hA hD (fun u t H locs ht hB hFr hS => ?_)
        obtain ⟨y2z8, hP, hD⟩ := hB
        rw [ht] at hP
        have hD := dwk hD hFr
        clear ht hFr
        have hP : va_P D classes (wS62 cI cJ cZ cB p0 p1 p2 p3 p4 p5 p6 x0_4 x0_5 x0_6 x0_7 x0_8 x0_9 x0_10 x0_11 x0_12 x0_13 y1 y2z8 x3_0 x4_0 y5 y6) H := hP
        have hD : va_D A (wS62 cI cJ cZ cB p0 p1 p2 p3 p4 p5 p6 x0_4 x0_5 x0_6 x0_7 x0_8 x0_9 x0_10 x0_11 x0_12 x0_13 y1 y2z8 x3_0 x4_0 y5 y6) := hD
        refine lv_goto (tgt := 95) hx hb d_M_changeByAddress_73 (by decide) ?_
        exact W.vret hx hb hr (fun t ht hW => ⟨⟨(), rfl, trivial, ⟨x0_4, y2z8, by show va_P D classes _ t.heap; rw [ht]; exact hP, hD⟩⟩, hS.F ht⟩) hS.2.2 d_M_changeByAddress_95
      · refine lv_tableOut (tgt := 76) hx hb d_M_changeByAddress_4 (by have e0 := lv_neT c1 (a := 0) rfl; have e1 := lv_neT c3 (a := 1) rfl; have e2 := lv_neT c6 (a := 2) rfl; omega) (by decide) ?_
        refine lv_aload_n hx hb d_M_changeByAddress_76 rfl (lv_at hl 0 rfl) ?_
        refine lv_iload_n hx hb d_M_changeByAddress_77 rfl (lv_at hl 1 rfl) ?_
        refine lv_aload_n hx hb d_M_changeByAddress_78 rfl (lv_at hl 0 rfl) ?_
        refine va_get (D := D) (ci := 1) (v := .int x0_12) (C := "SignMachine$Machine") (T := F_M) (N := 14) hx hb hk fi_M hown hK.1 hP 0 rfl rfl 12 (by decide) (hk _ k_179) (fun _ h9 => h9) rfl d_M_changeByAddress_79 ?_
        refine lv_aload_n hx hb d_M_changeByAddress_82 rfl (lv_at hl 0 rfl) ?_
        refine va_get (D := D) (ci := 1) (v := .int x0_13) (C := "SignMachine$Machine") (T := F_M) (N := 14) hx hb hk fi_M hown hK.1 hP 0 rfl rfl 13 (by decide) (hk _ k_180) (fun _ h9 => h9) rfl d_M_changeByAddress_83 ?_
        refine cs_i (W.runS (As := [.int x0_12, .int x0_13]) (rest := [.int a1, .ref p0]) ⟨hx, hb, hml, hown, hk⟩ (c_W_of l x0_12 x0_13) (s_W_of hk k_359 ⟨Nat.le_of_ble_eq_true rfl, Nat.le_of_ble_eq_true rfl⟩) ⟨fun a U g mk q => q, fun U hU hW => ⟨rfl, trivial⟩⟩ rfl rfl hl.1 rfl (lv_room (Nat.le_of_ble_eq_true rfl)) d_M_changeByAddress_86 ⟨Nat.le_of_ble_eq_true rfl, Nat.le_of_ble_eq_true rfl⟩) ?_
        refine lv_topi (fun v9 hv9 => ?_)
        refine cs_i (W.runS (As := [.int v9]) (rest := [.int a1, .ref p0]) ⟨hx, hb, hml, hown, hk⟩ (c_W_opposite l v9) (s_W_opposite hk k_411 ⟨Nat.le_of_ble_eq_true rfl, Nat.le_of_ble_eq_true rfl⟩) ⟨fun a U g mk q => q, fun U hU hW => ⟨rfl, trivial⟩⟩ rfl rfl hl.1 rfl (lv_room (Nat.le_of_ble_eq_true rfl)) d_M_changeByAddress_89 ⟨Nat.le_of_ble_eq_true rfl, Nat.le_of_ble_eq_true rfl⟩) ?_
        refine lv_topi (fun v10 hv10 => ?_)
        refine kn_v (va_runV (C := "SignMachine$Machine") (As := [.int a1, .int v10]) (rest := []) ⟨hx, hb, hml, hown, hk⟩ (c_M_putRegister_s4 l K D cI cJ cZ cB p0 p1 p2 p3 p4 p5 p6 s.heap.size x0_4 x0_5 x0_6 x0_7 x0_8 x0_9 x0_10 x0_11 x0_12 x0_13 y1 y2 x3_0 x4_0 y5 y6  a1 v10 ) (v_M_putRegister_s4 hk k_362 ⟨Nat.le_of_ble_eq_true rfl, Nat.le_of_ble_eq_true rfl⟩) (pMC_v hK hP hD hC hS hA (ci := 1) (q0 := 0) rfl rfl rfl) rfl rfl hl.1 rfl (lv_room (Nat.le_of_ble_eq_true rfl)) d_M_changeByAddress_92 ⟨by decide, by decide⟩) hS hA hD (fun u t H locs ht hB hFr hS => ?_)
        obtain ⟨y2z11, hP, hD⟩ := hB
        rw [ht] at hP
        have hD := dwk hD hFr
        clear ht hFr
        have hP : va_P D classes (wS62 cI cJ cZ cB p0 p1 p2 p3 p4 p5 p6 x0_4 x0_5 x0_6 x0_7 x0_8 x0_9 x0_10 x0_11 x0_12 x0_13 y1 y2z11 x3_0 x4_0 y5 y6) H := hP
        have hD : va_D A (wS62 cI cJ cZ cB p0 p1 p2 p3 p4 p5 p6 x0_4 x0_5 x0_6 x0_7 x0_8 x0_9 x0_10 x0_11 x0_12 x0_13 y1 y2z11 x3_0 x4_0 y5 y6) := hD
        exact W.vret hx hb hr (fun t ht hW => ⟨⟨(), rfl, trivial, ⟨x0_4, y2z11, by show va_P D classes _ t.heap; rw [ht]; exact hP, hD⟩⟩, hS.F ht⟩) hS.2.2 d_M_changeByAddress_95
theorem v_M_changeByAddress_s4 {R : Room} {s : State} {args : Array Value} {own : String} {index : Nat} (hk : ∀ w ∈ tb, w.before args s = true) (hl : Cond.methodLink own index y_M_changeByAddress ∈ tb) (hR : 3 + 1 ≤ R.frames ∧ 8 + (2 + 11) + 66 ≤ R.locals) : CallW R s args own "SignMachine$Machine" index y_M_changeByAddress b_M_changeByAddress 2 none (.code y_M_changeByAddress b_M_changeByAddress 2 none :: tb) ({ frames := 3, cells := 0, slots := 0, locals := 66 }) 0 0 1 := mk_v 1 hk k_463 hl k_462 k_31 k_117 rfl rfl h_M_changeByAddress hR
set_option maxHeartbeats 4000000 in
set_option maxRecDepth 100000 in
theorem c_M_compareField_s4 (l : Launch) (K : CK) (D : va_G) (cI cJ cZ cB : ClassId) (p0 p1 p2 p3 p4 p5 p6 : Nat) (sz : Nat) (x0_4 : Bool) (x0_5 : Int32) (x0_6 : Int32) (x0_7 : Int32) (x0_8 : Int32) (x0_9 : Int32) (x0_10 : Int32) (x0_11 : Int32) (x0_12 : Int32) (x0_13 : Int32) (y1 : Nat → Int32) (y2 : Nat → Int32) (x3_0 : Int32) (x4_0 : Int32) (y5 : Nat → Int32) (y6 : Nat → Int32)  (a1 : Int32) : Met l y_M_compareField (.code y_M_compareField b_M_compareField 2 none :: tb) ({ frames := 3, cells := 0, slots := 0, locals := 65 }) (pMC K D cI cJ cZ cB (wS62 cI cJ cZ cB p0 p1 p2 p3 p4 p5 p6 x0_4 x0_5 x0_6 x0_7 x0_8 x0_9 x0_10 x0_11 x0_12 x0_13 y1 y2 x3_0 x4_0 y5 y6) sz [.ref p0, .int a1]) (va_Qv (fun (_ : Unit) => True) (fun _ t => (∃ u_x0_5 : Int32, va_P D classes (wS62 cI cJ cZ cB p0 p1 p2 p3 p4 p5 p6 x0_4 u_x0_5 x0_6 x0_7 x0_8 x0_9 x0_10 x0_11 x0_12 x0_13 y1 y2 x3_0 x4_0 y5 y6) t.heap ∧ va_D (va_A (wS62 cI cJ cZ cB p0 p1 p2 p3 p4 p5 p6 x0_4 x0_5 x0_6 x0_7 x0_8 x0_9 x0_10 x0_11 x0_12 x0_13 y1 y2 x3_0 x4_0 y5 y6) sz) (wS62 cI cJ cZ cB p0 p1 p2 p3 p4 p5 p6 x0_4 u_x0_5 x0_6 x0_7 x0_8 x0_9 x0_10 x0_11 x0_12 x0_13 y1 y2 x3_0 x4_0 y5 y6))) (va_A (wS62 cI cJ cZ cB p0 p1 p2 p3 p4 p5 p6 x0_4 x0_5 x0_6 x0_7 x0_8 x0_9 x0_10 x0_11 x0_12 x0_13 y1 y2 x3_0 x4_0 y5 y6) sz)) 0 0 (va_A (wS62 cI cJ cZ cB p0 p1 p2 p3 p4 p5 p6 x0_4 x0_5 x0_6 x0_7 x0_8 x0_9 x0_10 x0_11 x0_12 x0_13 y1 y2 x3_0 x4_0 y5 y6) sz) := by
  refine Met.ofW (cc := b_M_compareField) (maxL := 2) (ret := none) (by decide) rfl ?_
  intro p e s m args below meth c s₁ B hml hv
  obtain ⟨rfl, hsz, hK, hP, hD0, hC⟩ := hv
  subst hsz
  have hD := hD0.self (sz := s.heap.size)
  generalize hAe : va_A (wS62 cI cJ cZ cB p0 p1 p2 p3 p4 p5 p6 x0_4 x0_5 x0_6 x0_7 x0_8 x0_9 x0_10 x0_11 x0_12 x0_13 y1 y2 x3_0 x4_0 y5 y6) s.heap.size = A at hD hC ⊢
  have hA : ∀ q : Nat, s.heap.size ≤ q → A q := fun q h => by rw [← hAe]; exact Or.inr h
  clear hAe hD0
  have hS : va_S A s.heap s.heap [] := va_S.rf
  have hx := B.exec
  have hb := B.bytes
  have hr := B.returns
  have hts := atoms_spec (ws := .code y_M_compareField b_M_compareField 2 none :: tb) B.pre
  have hk : ∀ w ∈ tb, w.before [.ref p0, .int a1].toArray s = true := fun w h => hts w (List.mem_cons_of_mem _ h)
  have hown : s.vm.findClass "SignMachine$Machine" = some m.cls := findClass_of_methodNamed B.named
  have hlocks := B.notSynchronized
  have hl := lv_entry ([.ref p0, .int a1]) (n := 2) (Nat.le_of_ble_eq_true rfl)
  rw [lg_entry_eq]
  generalize (lg_sl ([.ref p0, .int a1]) ++ List.replicate (2 - (lg_sl ([.ref p0, .int a1])).length) Slot.unset).toArray = ls at hl ⊢
  have hl : lv_has ls 2 [(0, .ref p0), (1, .int a1)] := hl
  refine lv_aload_n hx hb d_M_compareField_0 rfl (lv_at hl 0 rfl) ?_
  refine lv_iload_n hx hb d_M_compareField_1 rfl (lv_at hl 1 rfl) ?_
  refine lv_aload_n hx hb d_M_compareField_2 rfl (lv_at hl 0 rfl) ?_
  refine va_get (D := D) (ci := 1) (v := .int x0_10) (C := "SignMachine$Machine") (T := F_M) (N := 14) hx hb hk fi_M hown hK.1 hP 0 rfl rfl 10 (by decide) (hk _ k_177) (fun _ h9 => h9) rfl d_M_compareField_3 ?_
  refine cs_i (W.runS (As := [.int a1, .int x0_10]) (rest := [.ref p0]) ⟨hx, hb, hml, hown, hk⟩ (c_W_field l a1 x0_10) (s_W_field hk k_314 ⟨Nat.le_of_ble_eq_true rfl, Nat.le_of_ble_eq_true rfl⟩) ⟨fun a U g mk q => q, fun U hU hW => ⟨rfl, trivial⟩⟩ rfl rfl hl.1 rfl (lv_room (Nat.le_of_ble_eq_true rfl)) d_M_compareField_6 ⟨Nat.le_of_ble_eq_true rfl, Nat.le_of_ble_eq_true rfl⟩) ?_
  refine lv_topi (fun v1 hv1 => ?_)
  refine cs_i (W.runS (As := [.int v1]) (rest := [.ref p0]) ⟨hx, hb, hml, hown, hk⟩ (c_W_number l v1) (s_W_number hk k_277 ⟨Nat.le_of_ble_eq_true rfl, Nat.le_of_ble_eq_true rfl⟩) ⟨fun a U g mk q => q, fun U hU hW => ⟨rfl, trivial⟩⟩ rfl rfl hl.1 rfl (lv_room (Nat.le_of_ble_eq_true rfl)) d_M_compareField_9 ⟨Nat.le_of_ble_eq_true rfl, Nat.le_of_ble_eq_true rfl⟩) ?_
  refine lv_topi (fun v2 hv2 => ?_)
  refine lv_aload_n hx hb d_M_compareField_12 rfl (lv_at hl 0 rfl) ?_
  refine sn_i (va_runV (C := "SignMachine$Machine") (As := []) (rest := [.int v2, .ref p0]) ⟨hx, hb, hml, hown, hk⟩ (c_M_value_s5 l K D cI cJ cZ cB p0 p1 p2 p3 p4 p5 p6 s.heap.size x0_4 x0_5 x0_6 x0_7 x0_8 x0_9 x0_10 x0_11 x0_12 x0_13 y1 y2 x3_0 x4_0 y5 y6   ) (v_M_value_s5 hk k_310 ⟨Nat.le_of_ble_eq_true rfl, Nat.le_of_ble_eq_true rfl⟩) (pMC_v hK hP hD hC hS hA (ci := 1) (q0 := 0) rfl rfl rfl) rfl rfl hl.1 rfl (lv_room (Nat.le_of_ble_eq_true rfl)) d_M_compareField_13 ⟨by decide, by decide⟩) hS hA hD (fun rz3 u t H locs hr0 ht hB hFr hS => ?_)
  obtain ⟨hP, hD⟩ := hB
  rw [ht] at hP
  have hD := dwk hD hFr
  clear ht hFr
  have hP : va_P D classes (wS62 cI cJ cZ cB p0 p1 p2 p3 p4 p5 p6 x0_4 x0_5 x0_6 x0_7 x0_8 x0_9 x0_10 x0_11 x0_12 x0_13 y1 y2 x3_0 x4_0 y5 y6) H := hP
  have hD : va_D A (wS62 cI cJ cZ cB p0 p1 p2 p3 p4 p5 p6 x0_4 x0_5 x0_6 x0_7 x0_8 x0_9 x0_10 x0_11 x0_12 x0_13 y1 y2 x3_0 x4_0 y5 y6) := hD
  refine cs_i (W.runS (As := [.int rz3]) (rest := [.int v2, .ref p0]) ⟨hx, hb, hml, hown, hk⟩ (c_W_number l rz3) (s_W_number hk k_277 ⟨Nat.le_of_ble_eq_true rfl, Nat.le_of_ble_eq_true rfl⟩) ⟨fun a U g mk q => q, fun U hU hW => ⟨rfl, trivial⟩⟩ rfl rfl hl.1 rfl (lv_room (Nat.le_of_ble_eq_true rfl)) d_M_compareField_16 ⟨Nat.le_of_ble_eq_true rfl, Nat.le_of_ble_eq_true rfl⟩) ?_
  refine lv_topi (fun v4 hv4 => ?_)
  refine cs_i (W.runS (As := [.int v2, .int v4]) (rest := [.ref p0]) ⟨hx, hb, hml, hown, hk⟩ (c_I_compare l v2 v4) (s_I_compare hk k_468 ⟨Nat.le_of_ble_eq_true rfl, Nat.le_of_ble_eq_true rfl⟩) ⟨fun a U g mk q => q, fun U hU hW => ⟨rfl, trivial⟩⟩ rfl rfl hl.1 rfl (lv_room (Nat.le_of_ble_eq_true rfl)) d_M_compareField_19 ⟨Nat.le_of_ble_eq_true rfl, Nat.le_of_ble_eq_true rfl⟩) ?_
  refine lv_topi (fun v5 hv5 => ?_)
  refine va_put (D := D) (ci := 1) (v := .int v5) (ty := .int) (C := "SignMachine$Machine") (T := F_M) (N := 14) hx hb hk fi_M ft_M ft_M_ok fn_M hown hK.1 hP hD hS 0 rfl rfl 5 (by decide) (hk _ k_170) (fun _ h9 => h9) rfl (by decide +kernel) rfl rfl (Nat.le_of_ble_eq_true rfl) d_M_compareField_22 (fun H locs hP hD hS => ?_)
  have hP : va_P D classes (wS62 cI cJ cZ cB p0 p1 p2 p3 p4 p5 p6 x0_4 v5 x0_6 x0_7 x0_8 x0_9 x0_10 x0_11 x0_12 x0_13 y1 y2 x3_0 x4_0 y5 y6) H := hP
  have hD : va_D A (wS62 cI cJ cZ cB p0 p1 p2 p3 p4 p5 p6 x0_4 v5 x0_6 x0_7 x0_8 x0_9 x0_10 x0_11 x0_12 x0_13 y1 y2 x3_0 x4_0 y5 y6) := hD
  exact W.vret hx hb hr (fun t ht hW => ⟨⟨(), rfl, trivial, ⟨v5, by show va_P D classes _ t.heap; rw [ht]; exact hP, hD⟩⟩, hS.F ht⟩) hS.2.2 d_M_compareField_25
theorem v_M_compareField_s4 {R : Room} {s : State} {args : Array Value} {own : String} {index : Nat} (hk : ∀ w ∈ tb, w.before args s = true) (hl : Cond.methodLink own index y_M_compareField ∈ tb) (hR : 3 + 1 ≤ R.frames ∧ 8 + (2 + 11) + 65 ≤ R.locals) : CallW R s args own "SignMachine$Machine" index y_M_compareField b_M_compareField 2 none (.code y_M_compareField b_M_compareField 2 none :: tb) ({ frames := 3, cells := 0, slots := 0, locals := 65 }) 0 0 1 := mk_v 1 hk k_467 hl k_466 k_32 k_117 rfl rfl h_M_compareField hR
set_option maxHeartbeats 4000000 in
set_option maxRecDepth 100000 in
theorem c_M_perform_s9 (l : Launch) (K : CK) (D : va_G) (cI cJ cZ cB : ClassId) (p0 p1 p2 p3 p4 p5 p6 : Nat) (sz : Nat) (x0_4 : Bool) (x0_5 : Int32) (x0_6 : Int32) (x0_7 : Int32) (x0_8 : Int32) (x0_9 : Int32) (x0_10 : Int32) (x0_11 : Int32) (x0_12 : Int32) (x0_13 : Int32) (y1 : Nat → Int32) (y2 : Nat → Int32) (x3_0 : Int32) (x4_0 : Int32) (y5 : Nat → Int32) (y6 : Nat → Int32)   : Met l y_M_perform (.code y_M_perform b_M_perform 1 none :: tb) ({ frames := 5, cells := 0, slots := 0, locals := 110 }) (pMC K D cI cJ cZ cB (wS62 cI cJ cZ cB p0 p1 p2 p3 p4 p5 p6 x0_4 x0_5 x0_6 x0_7 x0_8 x0_9 x0_10 x0_11 x0_12 x0_13 y1 y2 x3_0 x4_0 y5 y6) sz [.ref p0]) (va_Qv (fun (_ : Unit) => True) (fun _ t => (∃ u_x0_4 : Bool, ∃ u_x0_5 : Int32, ∃ u_x0_7 : Int32, ∃ u_y1 : Nat → Int32, ∃ u_y2 : Nat → Int32, ∃ u_x3_0 : Int32, ∃ u_x4_0 : Int32, ∃ u_y5 : Nat → Int32, ∃ u_y6 : Nat → Int32, va_P D classes (wS62 cI cJ cZ cB p0 p1 p2 p3 p4 p5 p6 u_x0_4 u_x0_5 x0_6 u_x0_7 x0_8 x0_9 x0_10 x0_11 x0_12 x0_13 u_y1 u_y2 u_x3_0 u_x4_0 u_y5 u_y6) t.heap ∧ va_D (va_A (wS62 cI cJ cZ cB p0 p1 p2 p3 p4 p5 p6 x0_4 x0_5 x0_6 x0_7 x0_8 x0_9 x0_10 x0_11 x0_12 x0_13 y1 y2 x3_0 x4_0 y5 y6) sz) (wS62 cI cJ cZ cB p0 p1 p2 p3 p4 p5 p6 u_x0_4 u_x0_5 x0_6 u_x0_7 x0_8 x0_9 x0_10 x0_11 x0_12 x0_13 u_y1 u_y2 u_x3_0 u_x4_0 u_y5 u_y6))) (va_A (wS62 cI cJ cZ cB p0 p1 p2 p3 p4 p5 p6 x0_4 x0_5 x0_6 x0_7 x0_8 x0_9 x0_10 x0_11 x0_12 x0_13 y1 y2 x3_0 x4_0 y5 y6) sz)) 0 0 (va_A (wS62 cI cJ cZ cB p0 p1 p2 p3 p4 p5 p6 x0_4 x0_5 x0_6 x0_7 x0_8 x0_9 x0_10 x0_11 x0_12 x0_13 y1 y2 x3_0 x4_0 y5 y6) sz) := by
  refine Met.ofW (cc := b_M_perform) (maxL := 1) (ret := none) (by decide) rfl ?_
  intro p e s m args below meth c s₁ B hml hv
  obtain ⟨rfl, hsz, hK, hP, hD0, hC⟩ := hv
  subst hsz
  have hD := hD0.self (sz := s.heap.size)
  generalize hAe : va_A (wS62 cI cJ cZ cB p0 p1 p2 p3 p4 p5 p6 x0_4 x0_5 x0_6 x0_7 x0_8 x0_9 x0_10 x0_11 x0_12 x0_13 y1 y2 x3_0 x4_0 y5 y6) s.heap.size = A at hD hC ⊢
  have hA : ∀ q : Nat, s.heap.size ≤ q → A q := fun q h => by rw [← hAe]; exact Or.inr h
  clear hAe hD0
  have hS : va_S A s.heap s.heap [] := va_S.rf
  have hx := B.exec
  have hb := B.bytes
  have hr := B.returns
  have hts := atoms_spec (ws := .code y_M_perform b_M_perform 1 none :: tb) B.pre
  have hk : ∀ w ∈ tb, w.before [.ref p0].toArray s = true := fun w h => hts w (List.mem_cons_of_mem _ h)
  have hown : s.vm.findClass "SignMachine$Machine" = some m.cls := findClass_of_methodNamed B.named
  have hlocks := B.notSynchronized
  have hl := lv_entry ([.ref p0]) (n := 1) (Nat.le_of_ble_eq_true rfl)
  rw [lg_entry_eq]
  generalize (lg_sl ([.ref p0]) ++ List.replicate (1 - (lg_sl ([.ref p0])).length) Slot.unset).toArray = ls at hl ⊢
  have hl : lv_has ls 1 [(0, .ref p0)] := hl
  refine lv_aload_n hx hb d_M_perform_0 rfl (lv_at hl 0 rfl) ?_
  refine va_get (D := D) (ci := 1) (v := .int x0_9) (C := "SignMachine$Machine") (T := F_M) (N := 14) hx hb hk fi_M hown hK.1 hP 0 rfl rfl 9 (by decide) (hk _ k_176) (fun _ h9 => h9) rfl d_M_perform_1 ?_
  refine lv_iconst (v := 3) hx hb d_M_perform_4 (by decide) ?_
  refine lv_ishr hx hb d_M_perform_5 ?_
  refine lv_topi (fun v1 hv1 => ?_)
  by_cases c2 : v1 = (0 : Int32)
  · refine lv_tableIn (off := 42) (tgt := 48) hx hb d_M_perform_6 (by rw [c2]; decide) (by rw [c2]; decide) (by rw [c2]; rfl) (by decide) ?_
    refine lv_aload_n hx hb d_M_perform_48 rfl (lv_at hl 0 rfl) ?_
    refine kn_v (va_runV (C := "SignMachine$Machine") (As := []) (rest := []) ⟨hx, hb, hml, hown, hk⟩ (c_M_performLow_s4 l K D cI cJ cZ cB p0 p1 p2 p3 p4 p5 p6 s.heap.size x0_4 x0_5 x0_6 x0_7 x0_8 x0_9 x0_10 x0_11 x0_12 x0_13 y1 y2 x3_0 x4_0 y5 y6   ) (v_M_performLow_s4 hk k_350 ⟨Nat.le_of_ble_eq_true rfl, Nat.le_of_ble_eq_true rfl⟩) (pMC_v hK hP hD hC hS hA (ci := 1) (q0 := 0) rfl rfl rfl) rfl rfl hl.1 rfl (lv_room (Nat.le_of_ble_eq_true rfl)) d_M_perform_49 ⟨by decide, by decide⟩) hS hA hD (fun u t H locs ht hB hFr hS => ?_)
    obtain ⟨x0_4z3, y1z3, y2z3, hP, hD⟩ := hB
    rw [ht] at hP
    have hD := dwk hD hFr
    clear ht hFr
    have hP : va_P D classes (wS62 cI cJ cZ cB p0 p1 p2 p3 p4 p5 p6 x0_4z3 x0_5 x0_6 x0_7 x0_8 x0_9 x0_10 x0_11 x0_12 x0_13 y1z3 y2z3 x3_0 x4_0 y5 y6) H := hP
    have hD : va_D A (wS62 cI cJ cZ cB p0 p1 p2 p3 p4 p5 p6 x0_4z3 x0_5 x0_6 x0_7 x0_8 x0_9 x0_10 x0_11 x0_12 x0_13 y1z3 y2z3 x3_0 x4_0 y5 y6) := hD
    refine lv_goto (tgt := 173) hx hb d_M_perform_52 (by decide) ?_
    exact W.vret hx hb hr (fun t ht hW => ⟨⟨(), rfl, trivial, ⟨x0_4z3, x0_5, x0_7, y1z3, y2z3, x3_0, x4_0, y5, y6, by show va_P D classes _ t.heap; rw [ht]; exact hP, hD⟩⟩, hS.F ht⟩) hS.2.2 d_M_perform_173
  · by_cases c4 : v1 = (1 : Int32)
    · refine lv_tableIn (off := 49) (tgt := 55) hx hb d_M_perform_6 (by rw [c4]; decide) (by rw [c4]; decide) (by rw [c4]; rfl) (by decide) ?_
      refine lv_aload_n hx hb d_M_perform_55 rfl (lv_at hl 0 rfl) ?_
      refine lv_aload_n hx hb d_M_perform_56 rfl (lv_at hl 0 rfl) ?_
      refine va_get (D := D) (ci := 1) (v := .int x0_9) (C := "SignMachine$Machine") (T := F_M) (N := 14) hx hb hk fi_M hown hK.1 hP 0 rfl rfl 9 (by decide) (hk _ k_176) (fun _ h9 => h9) rfl d_M_perform_57 ?_
      refine lv_bipush (v := 7) hx hb d_M_perform_60 (by decide) ?_
      refine lv_iand hx hb d_M_perform_62 ?_
      refine lv_topi (fun v5 hv5 => ?_)
      refine lv_aload_n hx hb d_M_perform_63 rfl (lv_at hl 0 rfl) ?_
      refine sn_i (va_runV (C := "SignMachine$Machine") (As := []) (rest := [.int v5, .ref p0]) ⟨hx, hb, hml, hown, hk⟩ (c_M_value_s5 l K D cI cJ cZ cB p0 p1 p2 p3 p4 p5 p6 s.heap.size x0_4 x0_5 x0_6 x0_7 x0_8 x0_9 x0_10 x0_11 x0_12 x0_13 y1 y2 x3_0 x4_0 y5 y6   ) (v_M_value_s5 hk k_310 ⟨Nat.le_of_ble_eq_true rfl, Nat.le_of_ble_eq_true rfl⟩) (pMC_v hK hP hD hC hS hA (ci := 1) (q0 := 0) rfl rfl rfl) rfl rfl hl.1 rfl (lv_room (Nat.le_of_ble_eq_true rfl)) d_M_perform_64 ⟨by decide, by decide⟩) hS hA hD (fun rz6 u t H locs hr0 ht hB hFr hS => ?_)
      obtain ⟨hP, hD⟩ := hB
      rw [ht] at hP
      have hD := dwk hD hFr
      clear ht hFr
      have hP : va_P D classes (wS62 cI cJ cZ cB p0 p1 p2 p3 p4 p5 p6 x0_4 x0_5 x0_6 x0_7 x0_8 x0_9 x0_10 x0_11 x0_12 x0_13 y1 y2 x3_0 x4_0 y5 y6) H := hP
      have hD : va_D A (wS62 cI cJ cZ cB p0 p1 p2 p3 p4 p5 p6 x0_4 x0_5 x0_6 x0_7 x0_8 x0_9 x0_10 x0_11 x0_12 x0_13 y1 y2 x3_0 x4_0 y5 y6) := hD
      refine kn_v (va_runV (C := "SignMachine$Machine") (As := [.int v5, .int rz6]) (rest := []) ⟨hx, hb, hml, hown, hk⟩ (c_M_putRegister_s4 l K D cI cJ cZ cB p0 p1 p2 p3 p4 p5 p6 H.size x0_4 x0_5 x0_6 x0_7 x0_8 x0_9 x0_10 x0_11 x0_12 x0_13 y1 y2 x3_0 x4_0 y5 y6  v5 rz6 ) (v_M_putRegister_s4 hk k_362 ⟨Nat.le_of_ble_eq_true rfl, Nat.le_of_ble_eq_true rfl⟩) (pMC_v hK hP hD hC hS hA (ci := 1) (q0 := 0) rfl rfl rfl) rfl rfl hl.1 rfl (lv_room (Nat.le_of_ble_eq_true rfl)) d_M_perform_67 ⟨by decide, by decide⟩) hS hA hD (fun u t H locs ht hB hFr hS => ?_)
      obtain ⟨y2z7, hP, hD⟩ := hB
      rw [ht] at hP
      have hD := dwk hD hFr
      clear ht hFr
      have hP : va_P D classes (wS62 cI cJ cZ cB p0 p1 p2 p3 p4 p5 p6 x0_4 x0_5 x0_6 x0_7 x0_8 x0_9 x0_10 x0_11 x0_12 x0_13 y1 y2z7 x3_0 x4_0 y5 y6) H := hP
      have hD : va_D A (wS62 cI cJ cZ cB p0 p1 p2 p3 p4 p5 p6 x0_4 x0_5 x0_6 x0_7 x0_8 x0_9 x0_10 x0_11 x0_12 x0_13 y1 y2z7 x3_0 x4_0 y5 y6) := hD
      refine lv_goto (tgt := 173) hx hb d_M_perform_70 (by decide) ?_
      exact W.vret hx hb hr (fun t ht hW => ⟨⟨(), rfl, trivial, ⟨x0_4, x0_5, x0_7, y1, y2z7, x3_0, x4_0, y5, y6, by show va_P D classes _ t.heap; rw [ht]; exact hP, hD⟩⟩, hS.F ht⟩) hS.2.2 d_M_perform_173
    · by_cases c8 : v1 = (2 : Int32)
      · refine lv_tableIn (off := 67) (tgt := 73) hx hb d_M_perform_6 (by rw [c8]; decide) (by rw [c8]; decide) (by rw [c8]; rfl) (by decide) ?_
        refine lv_aload_n hx hb d_M_perform_73 rfl (lv_at hl 0 rfl) ?_
        refine lv_aload_n hx hb d_M_perform_74 rfl (lv_at hl 0 rfl) ?_
        refine va_get (D := D) (ci := 1) (v := .int x0_9) (C := "SignMachine$Machine") (T := F_M) (N := 14) hx hb hk fi_M hown hK.1 hP 0 rfl rfl 9 (by decide) (hk _ k_176) (fun _ h9 => h9) rfl d_M_perform_75 ?_
        refine lv_bipush (v := 7) hx hb d_M_perform_78 (by decide) ?_
        refine lv_iand hx hb d_M_perform_80 ?_
        refine lv_topi (fun v9 hv9 => ?_)
        refine lv_aload_n hx hb d_M_perform_81 rfl (lv_at hl 0 rfl) ?_
        refine sn_i (va_runV (C := "SignMachine$Machine") (As := []) (rest := [.int v9, .ref p0]) ⟨hx, hb, hml, hown, hk⟩ (c_M_value_s5 l K D cI cJ cZ cB p0 p1 p2 p3 p4 p5 p6 s.heap.size x0_4 x0_5 x0_6 x0_7 x0_8 x0_9 x0_10 x0_11 x0_12 x0_13 y1 y2 x3_0 x4_0 y5 y6   ) (v_M_value_s5 hk k_310 ⟨Nat.le_of_ble_eq_true rfl, Nat.le_of_ble_eq_true rfl⟩) (pMC_v hK hP hD hC hS hA (ci := 1) (q0 := 0) rfl rfl rfl) rfl rfl hl.1 rfl (lv_room (Nat.le_of_ble_eq_true rfl)) d_M_perform_82 ⟨by decide, by decide⟩) hS hA hD (fun rz10 u t H locs hr0 ht hB hFr hS => ?_)
        obtain ⟨hP, hD⟩ := hB
        rw [ht] at hP
        have hD := dwk hD hFr
        clear ht hFr
        have hP : va_P D classes (wS62 cI cJ cZ cB p0 p1 p2 p3 p4 p5 p6 x0_4 x0_5 x0_6 x0_7 x0_8 x0_9 x0_10 x0_11 x0_12 x0_13 y1 y2 x3_0 x4_0 y5 y6) H := hP
        have hD : va_D A (wS62 cI cJ cZ cB p0 p1 p2 p3 p4 p5 p6 x0_4 x0_5 x0_6 x0_7 x0_8 x0_9 x0_10 x0_11 x0_12 x0_13 y1 y2 x3_0 x4_0 y5 y6) := hD
        refine cs_i (W.runS (As := [.int rz10]) (rest := [.int v9, .ref p0]) ⟨hx, hb, hml, hown, hk⟩ (c_W_opposite l rz10) (s_W_opposite hk k_411 ⟨Nat.le_of_ble_eq_true rfl, Nat.le_of_ble_eq_true rfl⟩) ⟨fun a U g mk q => q, fun U hU hW => ⟨rfl, trivial⟩⟩ rfl rfl hl.1 rfl (lv_room (Nat.le_of_ble_eq_true rfl)) d_M_perform_85 ⟨Nat.le_of_ble_eq_true rfl, Nat.le_of_ble_eq_true rfl⟩) ?_
        refine lv_topi (fun v11 hv11 => ?_)
        refine kn_v (va_runV (C := "SignMachine$Machine") (As := [.int v9, .int v11]) (rest := []) ⟨hx, hb, hml, hown, hk⟩ (c_M_putRegister_s4 l K D cI cJ cZ cB p0 p1 p2 p3 p4 p5 p6 H.size x0_4 x0_5 x0_6 x0_7 x0_8 x0_9 x0_10 x0_11 x0_12 x0_13 y1 y2 x3_0 x4_0 y5 y6  v9 v11 ) (v_M_putRegister_s4 hk k_362 ⟨Nat.le_of_ble_eq_true rfl, Nat.le_of_ble_eq_true rfl⟩) (pMC_v hK hP hD hC hS hA (ci := 1) (q0 := 0) rfl rfl rfl) rfl rfl hl.1 rfl (lv_room (Nat.le_of_ble_eq_true rfl)) d_M_perform_88 ⟨by decide, by decide⟩) hS hA hD (fun u t H locs ht hB hFr hS => ?_)
        obtain ⟨y2z12, hP, hD⟩ := hB
        rw [ht] at hP
        have hD := dwk hD hFr
        clear ht hFr
        have hP : va_P D classes (wS62 cI cJ cZ cB p0 p1 p2 p3 p4 p5 p6 x0_4 x0_5 x0_6 x0_7 x0_8 x0_9 x0_10 x0_11 x0_12 x0_13 y1 y2z12 x3_0 x4_0 y5 y6) H := hP
        have hD : va_D A (wS62 cI cJ cZ cB p0 p1 p2 p3 p4 p5 p6 x0_4 x0_5 x0_6 x0_7 x0_8 x0_9 x0_10 x0_11 x0_12 x0_13 y1 y2z12 x3_0 x4_0 y5 y6) := hD
        refine lv_goto (tgt := 173) hx hb d_M_perform_91 (by decide) ?_
        exact W.vret hx hb hr (fun t ht hW => ⟨⟨(), rfl, trivial, ⟨x0_4, x0_5, x0_7, y1, y2z12, x3_0, x4_0, y5, y6, by show va_P D classes _ t.heap; rw [ht]; exact hP, hD⟩⟩, hS.F ht⟩) hS.2.2 d_M_perform_173
      · by_cases c13 : v1 = (3 : Int32)
        · refine lv_tableIn (off := 88) (tgt := 94) hx hb d_M_perform_6 (by rw [c13]; decide) (by rw [c13]; decide) (by rw [c13]; rfl) (by decide) ?_
          refine lv_aload_n hx hb d_M_perform_94 rfl (lv_at hl 0 rfl) ?_
          refine lv_aload_n hx hb d_M_perform_95 rfl (lv_at hl 0 rfl) ?_
          refine lv_aload_n hx hb d_M_perform_96 rfl (lv_at hl 0 rfl) ?_
          refine va_get (D := D) (ci := 1) (v := .int x0_9) (C := "SignMachine$Machine") (T := F_M) (N := 14) hx hb hk fi_M hown hK.1 hP 0 rfl rfl 9 (by decide) (hk _ k_176) (fun _ h9 => h9) rfl d_M_perform_97 ?_
          refine lv_bipush (v := 7) hx hb d_M_perform_100 (by decide) ?_
          refine lv_iand hx hb d_M_perform_102 ?_
          refine lv_topi (fun v14 hv14 => ?_)
          refine sn_i (va_runV (C := "SignMachine$Machine") (As := [.int v14]) (rest := [.ref p0]) ⟨hx, hb, hml, hown, hk⟩ (c_M_register_s5 l K D cI cJ cZ cB p0 p1 p2 p3 p4 p5 p6 s.heap.size x0_4 x0_5 x0_6 x0_7 x0_8 x0_9 x0_10 x0_11 x0_12 x0_13 y1 y2 x3_0 x4_0 y5 y6  v14 ) (v_M_register_s5 hk k_273 ⟨Nat.le_of_ble_eq_true rfl, Nat.le_of_ble_eq_true rfl⟩) (pMC_v hK hP hD hC hS hA (ci := 1) (q0 := 0) rfl rfl rfl) rfl rfl hl.1 rfl (lv_room (Nat.le_of_ble_eq_true rfl)) d_M_perform_103 ⟨by decide, by decide⟩) hS hA hD (fun rz15 u t H locs hr0 ht hB hFr hS => ?_)
          obtain ⟨hP, hD⟩ := hB
          rw [ht] at hP
          have hD := dwk hD hFr
          clear ht hFr
          have hP : va_P D classes (wS62 cI cJ cZ cB p0 p1 p2 p3 p4 p5 p6 x0_4 x0_5 x0_6 x0_7 x0_8 x0_9 x0_10 x0_11 x0_12 x0_13 y1 y2 x3_0 x4_0 y5 y6) H := hP
          have hD : va_D A (wS62 cI cJ cZ cB p0 p1 p2 p3 p4 p5 p6 x0_4 x0_5 x0_6 x0_7 x0_8 x0_9 x0_10 x0_11 x0_12 x0_13 y1 y2 x3_0 x4_0 y5 y6) := hD
          refine kn_v (va_runV (C := "SignMachine$Machine") (As := [.int rz15]) (rest := []) ⟨hx, hb, hml, hown, hk⟩ (c_M_storeWord_s4 l K D cI cJ cZ cB p0 p1 p2 p3 p4 p5 p6 H.size x0_4 x0_5 x0_6 x0_7 x0_8 x0_9 x0_10 x0_11 x0_12 x0_13 y1 y2 x3_0 x4_0 y5 y6  rz15 ) (v_M_storeWord_s4 hk k_414 ⟨Nat.le_of_ble_eq_true rfl, Nat.le_of_ble_eq_true rfl⟩) (pMC_v hK hP hD hC hS hA (ci := 1) (q0 := 0) rfl rfl rfl) rfl rfl hl.1 rfl (lv_room (Nat.le_of_ble_eq_true rfl)) d_M_perform_106 ⟨by decide, by decide⟩) hS hA hD (fun u t H locs ht hB hFr hS => ?_)
          obtain ⟨y1z16, hP, hD⟩ := hB
          rw [ht] at hP
          have hD := dwk hD hFr
          clear ht hFr
          have hP : va_P D classes (wS62 cI cJ cZ cB p0 p1 p2 p3 p4 p5 p6 x0_4 x0_5 x0_6 x0_7 x0_8 x0_9 x0_10 x0_11 x0_12 x0_13 y1z16 y2 x3_0 x4_0 y5 y6) H := hP
          have hD : va_D A (wS62 cI cJ cZ cB p0 p1 p2 p3 p4 p5 p6 x0_4 x0_5 x0_6 x0_7 x0_8 x0_9 x0_10 x0_11 x0_12 x0_13 y1z16 y2 x3_0 x4_0 y5 y6) := hD
          refine lv_goto (tgt := 173) hx hb d_M_perform_109 (by decide) ?_
          exact W.vret hx hb hr (fun t ht hW => ⟨⟨(), rfl, trivial, ⟨x0_4, x0_5, x0_7, y1z16, y2, x3_0, x4_0, y5, y6, by show va_P D classes _ t.heap; rw [ht]; exact hP, hD⟩⟩, hS.F ht⟩) hS.2.2 d_M_perform_173
        · by_cases c17 : v1 = (4 : Int32)
          · refine lv_tableIn (off := 106) (tgt := 112) hx hb d_M_perform_6 (by rw [c17]; decide) (by rw [c17]; decide) (by rw [c17]; rfl) (by decide) ?_
            refine lv_aload_n hx hb d_M_perform_112 rfl (lv_at hl 0 rfl) ?_
            refine kn_v (va_runV (C := "SignMachine$Machine") (As := []) (rest := []) ⟨hx, hb, hml, hown, hk⟩ (c_M_performMiddle_s9 l K D cI cJ cZ cB p0 p1 p2 p3 p4 p5 p6 s.heap.size x0_4 x0_5 x0_6 x0_7 x0_8 x0_9 x0_10 x0_11 x0_12 x0_13 y1 y2 x3_0 x4_0 y5 y6   ) (v_M_performMiddle_s9 hk k_421 ⟨Nat.le_of_ble_eq_true rfl, Nat.le_of_ble_eq_true rfl⟩) (pMC_v hK hP hD hC hS hA (ci := 1) (q0 := 0) rfl rfl rfl) rfl rfl hl.1 rfl (lv_room (Nat.le_of_ble_eq_true rfl)) d_M_perform_113 ⟨by decide, by decide⟩) hS hA hD (fun u t H locs ht hB hFr hS => ?_)
            obtain ⟨x0_4z18, x0_7z18, y1z18, y2z18, x3_0z18, x4_0z18, y5z18, y6z18, hP, hD⟩ := hB
            rw [ht] at hP
            have hD := dwk hD hFr
            clear ht hFr
            have hP : va_P D classes (wS62 cI cJ cZ cB p0 p1 p2 p3 p4 p5 p6 x0_4z18 x0_5 x0_6 x0_7z18 x0_8 x0_9 x0_10 x0_11 x0_12 x0_13 y1z18 y2z18 x3_0z18 x4_0z18 y5z18 y6z18) H := hP
            have hD : va_D A (wS62 cI cJ cZ cB p0 p1 p2 p3 p4 p5 p6 x0_4z18 x0_5 x0_6 x0_7z18 x0_8 x0_9 x0_10 x0_11 x0_12 x0_13 y1z18 y2z18 x3_0z18 x4_0z18 y5z18 y6z18) := hD
            refine lv_goto (tgt := 173) hx hb d_M_perform_116 (by decide) ?_
            exact W.vret hx hb hr (fun t ht hW => ⟨⟨(), rfl, trivial, ⟨x0_4z18, x0_5, x0_7z18, y1z18, y2z18, x3_0z18, x4_0z18, y5z18, y6z18, by show va_P D classes _ t.heap; rw [ht]; exact hP, hD⟩⟩, hS.F ht⟩) hS.2.2 d_M_perform_173
          · by_cases c19 : v1 = (5 : Int32)
            · refine lv_tableIn (off := 113) (tgt := 119) hx hb d_M_perform_6 (by rw [c19]; decide) (by rw [c19]; decide) (by rw [c19]; rfl) (by decide) ?_
              refine lv_aload_n hx hb d_M_perform_119 rfl (lv_at hl 0 rfl) ?_
              refine lv_aload_n hx hb d_M_perform_120 rfl (lv_at hl 0 rfl) ?_
              refine lv_aload_n hx hb d_M_perform_121 rfl (lv_at hl 0 rfl) ?_
              refine lv_aload_n hx hb d_M_perform_122 rfl (lv_at hl 0 rfl) ?_
              refine va_get (D := D) (ci := 1) (v := .int x0_9) (C := "SignMachine$Machine") (T := F_M) (N := 14) hx hb hk fi_M hown hK.1 hP 0 rfl rfl 9 (by decide) (hk _ k_176) (fun _ h9 => h9) rfl d_M_perform_123 ?_
              refine lv_bipush (v := 7) hx hb d_M_perform_126 (by decide) ?_
              refine lv_iand hx hb d_M_perform_128 ?_
              refine lv_topi (fun v20 hv20 => ?_)
              refine sn_i (va_runV (C := "SignMachine$Machine") (As := [.int v20]) (rest := [.ref p0, .ref p0]) ⟨hx, hb, hml, hown, hk⟩ (c_M_register_s5 l K D cI cJ cZ cB p0 p1 p2 p3 p4 p5 p6 s.heap.size x0_4 x0_5 x0_6 x0_7 x0_8 x0_9 x0_10 x0_11 x0_12 x0_13 y1 y2 x3_0 x4_0 y5 y6  v20 ) (v_M_register_s5 hk k_273 ⟨Nat.le_of_ble_eq_true rfl, Nat.le_of_ble_eq_true rfl⟩) (pMC_v hK hP hD hC hS hA (ci := 1) (q0 := 0) rfl rfl rfl) rfl rfl hl.1 rfl (lv_room (Nat.le_of_ble_eq_true rfl)) d_M_perform_129 ⟨by decide, by decide⟩) hS hA hD (fun rz21 u t H locs hr0 ht hB hFr hS => ?_)
              obtain ⟨hP, hD⟩ := hB
              rw [ht] at hP
              have hD := dwk hD hFr
              clear ht hFr
              have hP : va_P D classes (wS62 cI cJ cZ cB p0 p1 p2 p3 p4 p5 p6 x0_4 x0_5 x0_6 x0_7 x0_8 x0_9 x0_10 x0_11 x0_12 x0_13 y1 y2 x3_0 x4_0 y5 y6) H := hP
              have hD : va_D A (wS62 cI cJ cZ cB p0 p1 p2 p3 p4 p5 p6 x0_4 x0_5 x0_6 x0_7 x0_8 x0_9 x0_10 x0_11 x0_12 x0_13 y1 y2 x3_0 x4_0 y5 y6) := hD
              refine cs_i (W.runS (As := [.int rz21]) (rest := [.ref p0, .ref p0]) ⟨hx, hb, hml, hown, hk⟩ (c_W_number l rz21) (s_W_number hk k_277 ⟨Nat.le_of_ble_eq_true rfl, Nat.le_of_ble_eq_true rfl⟩) ⟨fun a U g mk q => q, fun U hU hW => ⟨rfl, trivial⟩⟩ rfl rfl hl.1 rfl (lv_room (Nat.le_of_ble_eq_true rfl)) d_M_perform_132 ⟨Nat.le_of_ble_eq_true rfl, Nat.le_of_ble_eq_true rfl⟩) ?_
              refine lv_topi (fun v22 hv22 => ?_)
              refine sn_i (va_runV (C := "SignMachine$Machine") (As := [.int v22]) (rest := [.ref p0]) ⟨hx, hb, hml, hown, hk⟩ (c_M_registerIs_s4 l K D cI cJ cZ cB p0 p1 p2 p3 p4 p5 p6 H.size x0_4 x0_5 x0_6 x0_7 x0_8 x0_9 x0_10 x0_11 x0_12 x0_13 y1 y2 x3_0 x4_0 y5 y6  v22 ) (v_M_registerIs_s4 hk k_456 ⟨Nat.le_of_ble_eq_true rfl, Nat.le_of_ble_eq_true rfl⟩) (pMC_v hK hP hD hC hS hA (ci := 1) (q0 := 0) rfl rfl rfl) rfl rfl hl.1 rfl (lv_room (Nat.le_of_ble_eq_true rfl)) d_M_perform_135 ⟨by decide, by decide⟩) hS hA hD (fun rz23 u t H locs hr0 ht hB hFr hS => ?_)
              obtain ⟨z23, hz23⟩ := hr0
              subst hz23
              obtain ⟨hP, hD⟩ := hB
              rw [ht] at hP
              have hD := dwk hD hFr
              clear ht hFr
              have hP : va_P D classes (wS62 cI cJ cZ cB p0 p1 p2 p3 p4 p5 p6 x0_4 x0_5 x0_6 x0_7 x0_8 x0_9 x0_10 x0_11 x0_12 x0_13 y1 y2 x3_0 x4_0 y5 y6) H := hP
              have hD : va_D A (wS62 cI cJ cZ cB p0 p1 p2 p3 p4 p5 p6 x0_4 x0_5 x0_6 x0_7 x0_8 x0_9 x0_10 x0_11 x0_12 x0_13 y1 y2 x3_0 x4_0 y5 y6) := hD
              refine kn_v (va_runV (C := "SignMachine$Machine") (As := [.int (bI z23)]) (rest := []) ⟨hx, hb, hml, hown, hk⟩ (c_M_goIf_s4 l K D cI cJ cZ cB p0 p1 p2 p3 p4 p5 p6 H.size x0_4 x0_5 x0_6 x0_7 x0_8 x0_9 x0_10 x0_11 x0_12 x0_13 y1 y2 x3_0 x4_0 y5 y6  z23 ) (v_M_goIf_s4 hk k_448 ⟨Nat.le_of_ble_eq_true rfl, Nat.le_of_ble_eq_true rfl⟩) (pMC_v hK hP hD hC hS hA (ci := 1) (q0 := 0) rfl rfl rfl) rfl rfl hl.1 rfl (lv_room (Nat.le_of_ble_eq_true rfl)) d_M_perform_138 ⟨by decide, by decide⟩) hS hA hD (fun u t H locs ht hB hFr hS => ?_)
              obtain ⟨x0_7z24, y2z24, hP, hD⟩ := hB
              rw [ht] at hP
              have hD := dwk hD hFr
              clear ht hFr
              have hP : va_P D classes (wS62 cI cJ cZ cB p0 p1 p2 p3 p4 p5 p6 x0_4 x0_5 x0_6 x0_7z24 x0_8 x0_9 x0_10 x0_11 x0_12 x0_13 y1 y2z24 x3_0 x4_0 y5 y6) H := hP
              have hD : va_D A (wS62 cI cJ cZ cB p0 p1 p2 p3 p4 p5 p6 x0_4 x0_5 x0_6 x0_7z24 x0_8 x0_9 x0_10 x0_11 x0_12 x0_13 y1 y2z24 x3_0 x4_0 y5 y6) := hD
              refine lv_goto (tgt := 173) hx hb d_M_perform_141 (by decide) ?_
              exact W.vret hx hb hr (fun t ht hW => ⟨⟨(), rfl, trivial, ⟨x0_4, x0_5, x0_7z24, y1, y2z24, x3_0, x4_0, y5, y6, by show va_P D classes _ t.heap; rw [ht]; exact hP, hD⟩⟩, hS.F ht⟩) hS.2.2 d_M_perform_173
            · by_cases c25 : v1 = (6 : Int32)
              · refine lv_tableIn (off := 138) (tgt := 144) hx hb d_M_perform_6 (by rw [c25]; decide) (by rw [c25]; decide) (by rw [c25]; rfl) (by decide) ?_
                refine lv_aload_n hx hb d_M_perform_144 rfl (lv_at hl 0 rfl) ?_
                refine lv_aload_n hx hb d_M_perform_145 rfl (lv_at hl 0 rfl) ?_
                refine va_get (D := D) (ci := 1) (v := .int x0_9) (C := "SignMachine$Machine") (T := F_M) (N := 14) hx hb hk fi_M hown hK.1 hP 0 rfl rfl 9 (by decide) (hk _ k_176) (fun _ h9 => h9) rfl d_M_perform_146 ?_
                refine lv_bipush (v := 7) hx hb d_M_perform_149 (by decide) ?_
                refine lv_iand hx hb d_M_perform_151 ?_
                refine lv_topi (fun v26 hv26 => ?_)
                refine kn_v (va_runV (C := "SignMachine$Machine") (As := [.int v26]) (rest := []) ⟨hx, hb, hml, hown, hk⟩ (c_M_changeByAddress_s4 l K D cI cJ cZ cB p0 p1 p2 p3 p4 p5 p6 s.heap.size x0_4 x0_5 x0_6 x0_7 x0_8 x0_9 x0_10 x0_11 x0_12 x0_13 y1 y2 x3_0 x4_0 y5 y6  v26 ) (v_M_changeByAddress_s4 hk k_460 ⟨Nat.le_of_ble_eq_true rfl, Nat.le_of_ble_eq_true rfl⟩) (pMC_v hK hP hD hC hS hA (ci := 1) (q0 := 0) rfl rfl rfl) rfl rfl hl.1 rfl (lv_room (Nat.le_of_ble_eq_true rfl)) d_M_perform_152 ⟨by decide, by decide⟩) hS hA hD (fun u t H locs ht hB hFr hS => ?_)
                obtain ⟨x0_4z27, y2z27, hP, hD⟩ := hB
                rw [ht] at hP
                have hD := dwk hD hFr
                clear ht hFr
                have hP : va_P D classes (wS62 cI cJ cZ cB p0 p1 p2 p3 p4 p5 p6 x0_4z27 x0_5 x0_6 x0_7 x0_8 x0_9 x0_10 x0_11 x0_12 x0_13 y1 y2z27 x3_0 x4_0 y5 y6) H := hP
                have hD : va_D A (wS62 cI cJ cZ cB p0 p1 p2 p3 p4 p5 p6 x0_4z27 x0_5 x0_6 x0_7 x0_8 x0_9 x0_10 x0_11 x0_12 x0_13 y1 y2z27 x3_0 x4_0 y5 y6) := hD
                refine lv_goto (tgt := 173) hx hb d_M_perform_155 (by decide) ?_
                exact W.vret hx hb hr (fun t ht hW => ⟨⟨(), rfl, trivial, ⟨x0_4z27, x0_5, x0_7, y1, y2z27, x3_0, x4_0, y5, y6, by show va_P D classes _ t.heap; rw [ht]; exact hP, hD⟩⟩, hS.F ht⟩) hS.2.2 d_M_perform_173
              · refine lv_tableOut (tgt := 158) hx hb d_M_perform_6 (by have e0 := lv_neT c2 (a := 0) rfl; have e1 := lv_neT c4 (a := 1) rfl; have e2 := lv_neT c8 (a := 2) rfl; have e3 := lv_neT c13 (a := 3) rfl; have e4 := lv_neT c17 (a := 4) rfl; have e5 := lv_neT c19 (a := 5) rfl; have e6 := lv_neT c25 (a := 6) rfl; omega) (by decide) ?_
                refine lv_aload_n hx hb d_M_perform_158 rfl (lv_at hl 0 rfl) ?_
                refine lv_aload_n hx hb d_M_perform_159 rfl (lv_at hl 0 rfl) ?_
                refine lv_aload_n hx hb d_M_perform_160 rfl (lv_at hl 0 rfl) ?_
                refine va_get (D := D) (ci := 1) (v := .int x0_9) (C := "SignMachine$Machine") (T := F_M) (N := 14) hx hb hk fi_M hown hK.1 hP 0 rfl rfl 9 (by decide) (hk _ k_176) (fun _ h9 => h9) rfl d_M_perform_161 ?_
                refine lv_bipush (v := 7) hx hb d_M_perform_164 (by decide) ?_
                refine lv_iand hx hb d_M_perform_166 ?_
                refine lv_topi (fun v28 hv28 => ?_)
                refine sn_i (va_runV (C := "SignMachine$Machine") (As := [.int v28]) (rest := [.ref p0]) ⟨hx, hb, hml, hown, hk⟩ (c_M_register_s5 l K D cI cJ cZ cB p0 p1 p2 p3 p4 p5 p6 s.heap.size x0_4 x0_5 x0_6 x0_7 x0_8 x0_9 x0_10 x0_11 x0_12 x0_13 y1 y2 x3_0 x4_0 y5 y6  v28 ) (v_M_register_s5 hk k_273 ⟨Nat.le_of_ble_eq_true rfl, Nat.le_of_ble_eq_true rfl⟩) (pMC_v hK hP hD hC hS hA (ci := 1) (q0 := 0) rfl rfl rfl) rfl rfl hl.1 rfl (lv_room (Nat.le_of_ble_eq_true rfl)) d_M_perform_167 ⟨by decide, by decide⟩) hS hA hD (fun rz29 u t H locs hr0 ht hB hFr hS => ?_)
                obtain ⟨hP, hD⟩ := hB
                rw [ht] at hP
                have hD := dwk hD hFr
                clear ht hFr
                have hP : va_P D classes (wS62 cI cJ cZ cB p0 p1 p2 p3 p4 p5 p6 x0_4 x0_5 x0_6 x0_7 x0_8 x0_9 x0_10 x0_11 x0_12 x0_13 y1 y2 x3_0 x4_0 y5 y6) H := hP
                have hD : va_D A (wS62 cI cJ cZ cB p0 p1 p2 p3 p4 p5 p6 x0_4 x0_5 x0_6 x0_7 x0_8 x0_9 x0_10 x0_11 x0_12 x0_13 y1 y2 x3_0 x4_0 y5 y6) := hD
                refine kn_v (va_runV (C := "SignMachine$Machine") (As := [.int rz29]) (rest := []) ⟨hx, hb, hml, hown, hk⟩ (c_M_compareField_s4 l K D cI cJ cZ cB p0 p1 p2 p3 p4 p5 p6 H.size x0_4 x0_5 x0_6 x0_7 x0_8 x0_9 x0_10 x0_11 x0_12 x0_13 y1 y2 x3_0 x4_0 y5 y6  rz29 ) (v_M_compareField_s4 hk k_464 ⟨Nat.le_of_ble_eq_true rfl, Nat.le_of_ble_eq_true rfl⟩) (pMC_v hK hP hD hC hS hA (ci := 1) (q0 := 0) rfl rfl rfl) rfl rfl hl.1 rfl (lv_room (Nat.le_of_ble_eq_true rfl)) d_M_perform_170 ⟨by decide, by decide⟩) hS hA hD (fun u t H locs ht hB hFr hS => ?_)
                obtain ⟨x0_5z30, hP, hD⟩ := hB
                rw [ht] at hP
                have hD := dwk hD hFr
                clear ht hFr
                have hP : va_P D classes (wS62 cI cJ cZ cB p0 p1 p2 p3 p4 p5 p6 x0_4 x0_5z30 x0_6 x0_7 x0_8 x0_9 x0_10 x0_11 x0_12 x0_13 y1 y2 x3_0 x4_0 y5 y6) H := hP
                have hD : va_D A (wS62 cI cJ cZ cB p0 p1 p2 p3 p4 p5 p6 x0_4 x0_5z30 x0_6 x0_7 x0_8 x0_9 x0_10 x0_11 x0_12 x0_13 y1 y2 x3_0 x4_0 y5 y6) := hD
                exact W.vret hx hb hr (fun t ht hW => ⟨⟨(), rfl, trivial, ⟨x0_4, x0_5z30, x0_7, y1, y2, x3_0, x4_0, y5, y6, by show va_P D classes _ t.heap; rw [ht]; exact hP, hD⟩⟩, hS.F ht⟩) hS.2.2 d_M_perform_173
theorem v_M_perform_s9 {R : Room} {s : State} {args : Array Value} {own : String} {index : Nat} (hk : ∀ w ∈ tb, w.before args s = true) (hl : Cond.methodLink own index y_M_perform ∈ tb) (hR : 5 + 1 ≤ R.frames ∧ 8 + (1 + 11) + 110 ≤ R.locals) : CallW R s args own "SignMachine$Machine" index y_M_perform b_M_perform 1 none (.code y_M_perform b_M_perform 1 none :: tb) ({ frames := 5, cells := 0, slots := 0, locals := 110 }) 0 0 0 := mk_v 0 hk k_349 hl k_348 k_11 k_117 rfl rfl h_M_perform hR
set_option maxHeartbeats 4000000 in
set_option maxRecDepth 100000 in
theorem c_M_execute_s9 (l : Launch) (K : CK) (D : va_G) (cI cJ cZ cB : ClassId) (p0 p1 p2 p3 p4 p5 p6 : Nat) (sz : Nat) (x0_4 : Bool) (x0_5 : Int32) (x0_6 : Int32) (x0_7 : Int32) (x0_8 : Int32) (x0_9 : Int32) (x0_10 : Int32) (x0_11 : Int32) (x0_12 : Int32) (x0_13 : Int32) (y1 : Nat → Int32) (y2 : Nat → Int32) (x3_0 : Int32) (x4_0 : Int32) (y5 : Nat → Int32) (y6 : Nat → Int32)   : Met l y_M_execute (.code y_M_execute b_M_execute 2 (some .int) :: tb) ({ frames := 6, cells := 0, slots := 0, locals := 130 }) (pMC K D cI cJ cZ cB (wS62 cI cJ cZ cB p0 p1 p2 p3 p4 p5 p6 x0_4 x0_5 x0_6 x0_7 x0_8 x0_9 x0_10 x0_11 x0_12 x0_13 y1 y2 x3_0 x4_0 y5 y6) sz [.ref p0]) (va_Qi (fun r (_ : Unit) => True) (fun _ t => (∃ u_x0_4 : Bool, ∃ u_x0_5 : Int32, ∃ u_x0_6 : Int32, ∃ u_x0_7 : Int32, ∃ u_x0_9 : Int32, ∃ u_x0_10 : Int32, ∃ u_x0_11 : Int32, ∃ u_x0_12 : Int32, ∃ u_x0_13 : Int32, ∃ u_y1 : Nat → Int32, ∃ u_y2 : Nat → Int32, ∃ u_x3_0 : Int32, ∃ u_x4_0 : Int32, ∃ u_y5 : Nat → Int32, ∃ u_y6 : Nat → Int32, va_P D classes (wS62 cI cJ cZ cB p0 p1 p2 p3 p4 p5 p6 u_x0_4 u_x0_5 u_x0_6 u_x0_7 x0_8 u_x0_9 u_x0_10 u_x0_11 u_x0_12 u_x0_13 u_y1 u_y2 u_x3_0 u_x4_0 u_y5 u_y6) t.heap ∧ va_D (va_A (wS62 cI cJ cZ cB p0 p1 p2 p3 p4 p5 p6 x0_4 x0_5 x0_6 x0_7 x0_8 x0_9 x0_10 x0_11 x0_12 x0_13 y1 y2 x3_0 x4_0 y5 y6) sz) (wS62 cI cJ cZ cB p0 p1 p2 p3 p4 p5 p6 u_x0_4 u_x0_5 u_x0_6 u_x0_7 x0_8 u_x0_9 u_x0_10 u_x0_11 u_x0_12 u_x0_13 u_y1 u_y2 u_x3_0 u_x4_0 u_y5 u_y6))) (va_A (wS62 cI cJ cZ cB p0 p1 p2 p3 p4 p5 p6 x0_4 x0_5 x0_6 x0_7 x0_8 x0_9 x0_10 x0_11 x0_12 x0_13 y1 y2 x3_0 x4_0 y5 y6) sz)) 0 0 (va_A (wS62 cI cJ cZ cB p0 p1 p2 p3 p4 p5 p6 x0_4 x0_5 x0_6 x0_7 x0_8 x0_9 x0_10 x0_11 x0_12 x0_13 y1 y2 x3_0 x4_0 y5 y6) sz) := by
  refine Met.ofW (cc := b_M_execute) (maxL := 2) (ret := (some .int)) (by decide) rfl ?_
  intro p e s m args below meth c s₁ B hml hv
  obtain ⟨rfl, hsz, hK, hP, hD0, hC⟩ := hv
  subst hsz
  have hD := hD0.self (sz := s.heap.size)
  generalize hAe : va_A (wS62 cI cJ cZ cB p0 p1 p2 p3 p4 p5 p6 x0_4 x0_5 x0_6 x0_7 x0_8 x0_9 x0_10 x0_11 x0_12 x0_13 y1 y2 x3_0 x4_0 y5 y6) s.heap.size = A at hD hC ⊢
  have hA : ∀ q : Nat, s.heap.size ≤ q → A q := fun q h => by rw [← hAe]; exact Or.inr h
  clear hAe hD0
  have hS : va_S A s.heap s.heap [] := va_S.rf
  have hx := B.exec
  have hb := B.bytes
  have hr := B.returns
  have hts := atoms_spec (ws := .code y_M_execute b_M_execute 2 (some .int) :: tb) B.pre
  have hk : ∀ w ∈ tb, w.before [.ref p0].toArray s = true := fun w h => hts w (List.mem_cons_of_mem _ h)
  have hown : s.vm.findClass "SignMachine$Machine" = some m.cls := findClass_of_methodNamed B.named
  have hlocks := B.notSynchronized
  have hl := lv_entry ([.ref p0]) (n := 2) (Nat.le_of_ble_eq_true rfl)
  rw [lg_entry_eq]
  generalize (lg_sl ([.ref p0]) ++ List.replicate (2 - (lg_sl ([.ref p0])).length) Slot.unset).toArray = ls at hl ⊢
  have hl : lv_has ls 2 [(0, .ref p0)] := hl
  refine lv_aload_n hx hb d_M_execute_0 rfl (lv_at hl 0 rfl) ?_
  refine va_get (D := D) (ci := 1) (v := .int x0_7) (C := "SignMachine$Machine") (T := F_M) (N := 14) hx hb hk fi_M hown hK.1 hP 0 rfl rfl 7 (by decide) (hk _ k_174) (fun _ h9 => h9) rfl d_M_execute_1 ?_
  refine cs_i (W.runS (As := [.int x0_7]) (rest := []) ⟨hx, hb, hml, hown, hk⟩ (c_M_isAddress l x0_7) (s_M_isAddress hk k_262 ⟨Nat.le_of_ble_eq_true rfl, Nat.le_of_ble_eq_true rfl⟩) ⟨fun a U g mk q => q, fun U hU hW => ⟨rfl, trivial⟩⟩ rfl rfl hl.1 rfl (lv_room (Nat.le_of_ble_eq_true rfl)) d_M_execute_4 ⟨Nat.le_of_ble_eq_true rfl, Nat.le_of_ble_eq_true rfl⟩) ?_
  obtain ⟨z1, hz1⟩ : ∃ y : Bool, y = (f_M_isAddress x0_7) := ⟨_, rfl⟩
  rw [← hz1]
  refine lv_if_ne (tgt := 12) hx hb d_M_execute_7 (by decide) (fun c2 => ?_) (fun c2 => ?_)
  · refine lv_aload_n hx hb d_M_execute_12 rfl (lv_at hl 0 rfl) ?_
    refine lv_aload_n hx hb d_M_execute_13 rfl (lv_at hl 0 rfl) ?_
    refine lv_aload_n hx hb d_M_execute_14 rfl (lv_at hl 0 rfl) ?_
    refine va_get (D := D) (ci := 1) (v := .int x0_7) (C := "SignMachine$Machine") (T := F_M) (N := 14) hx hb hk fi_M hown hK.1 hP 0 rfl rfl 7 (by decide) (hk _ k_174) (fun _ h9 => h9) rfl d_M_execute_15 ?_
    refine sn_i (va_runV (C := "SignMachine$Machine") (As := [.int x0_7]) (rest := [.ref p0]) ⟨hx, hb, hml, hown, hk⟩ (c_M_wordAt_s5 l K D cI cJ cZ cB p0 p1 p2 p3 p4 p5 p6 s.heap.size x0_4 x0_5 x0_6 x0_7 x0_8 x0_9 x0_10 x0_11 x0_12 x0_13 y1 y2 x3_0 x4_0 y5 y6  x0_7 ) (v_M_wordAt_s5 hk k_263 ⟨Nat.le_of_ble_eq_true rfl, Nat.le_of_ble_eq_true rfl⟩) (pMC_v hK hP hD hC hS hA (ci := 1) (q0 := 0) rfl rfl rfl) rfl rfl hl.1 rfl (lv_room (Nat.le_of_ble_eq_true rfl)) d_M_execute_18 ⟨by decide, by decide⟩) hS hA hD (fun rz3 u t H locs hr0 ht hB hFr hS => ?_)
    have hrz3 := hr0
    obtain ⟨hP, hD⟩ := hB
    rw [ht] at hP
    have hD := dwk hD hFr
    clear ht hFr
    have hP : va_P D classes (wS62 cI cJ cZ cB p0 p1 p2 p3 p4 p5 p6 x0_4 x0_5 x0_6 x0_7 x0_8 x0_9 x0_10 x0_11 x0_12 x0_13 y1 y2 x3_0 x4_0 y5 y6) H := hP
    have hD : va_D A (wS62 cI cJ cZ cB p0 p1 p2 p3 p4 p5 p6 x0_4 x0_5 x0_6 x0_7 x0_8 x0_9 x0_10 x0_11 x0_12 x0_13 y1 y2 x3_0 x4_0 y5 y6) := hD
    refine kn_v (va_runV (C := "SignMachine$Machine") (As := [.int rz3]) (rest := []) ⟨hx, hb, hml, hown, hk⟩ (c_M_decode_s5 l K D cI cJ cZ cB p0 p1 p2 p3 p4 p5 p6 H.size x0_4 x0_5 x0_6 x0_7 x0_8 x0_9 x0_10 x0_11 x0_12 x0_13 y1 y2 x3_0 x4_0 y5 y6  rz3 ) (v_M_decode_s5 hk k_264 ⟨Nat.le_of_ble_eq_true rfl, Nat.le_of_ble_eq_true rfl⟩) (pMC_v hK hP hD hC hS hA (ci := 1) (q0 := 0) rfl rfl rfl) rfl rfl hl.1 rfl (lv_room (Nat.le_of_ble_eq_true rfl)) d_M_execute_21 ⟨by decide, by decide⟩) hS hA hD (fun u t H locs ht hB hFr hS => ?_)
    obtain ⟨x0_9z4, x0_10z4, x0_11z4, x0_12z4, x0_13z4, ex0z4, ex1z4, hP, hD⟩ := hB
    rw [ht] at hP
    have hD := dwk hD hFr
    clear ht hFr
    have hP : va_P D classes (wS62 cI cJ cZ cB p0 p1 p2 p3 p4 p5 p6 x0_4 x0_5 x0_6 x0_7 x0_8 x0_9z4 x0_10z4 x0_11z4 x0_12z4 x0_13z4 y1 y2 x3_0 x4_0 y5 y6) H := hP
    have hD : va_D A (wS62 cI cJ cZ cB p0 p1 p2 p3 p4 p5 p6 x0_4 x0_5 x0_6 x0_7 x0_8 x0_9z4 x0_10z4 x0_11z4 x0_12z4 x0_13z4 y1 y2 x3_0 x4_0 y5 y6) := hD
    refine lv_aload_n hx hb d_M_execute_24 rfl (lv_at hl 0 rfl) ?_
    refine sn_i (va_runV (C := "SignMachine$Machine") (As := []) (rest := []) ⟨hx, hb, hml, hown, hk⟩ (c_M_reasonAgainst_s5 l K D cI cJ cZ cB p0 p1 p2 p3 p4 p5 p6 H.size x0_4 x0_5 x0_6 x0_7 x0_8 x0_9z4 x0_10z4 x0_11z4 x0_12z4 x0_13z4 y1 y2 x3_0 x4_0 y5 y6   ) (v_M_reasonAgainst_s5 hk k_280 ⟨Nat.le_of_ble_eq_true rfl, Nat.le_of_ble_eq_true rfl⟩) (pMC_v hK hP hD hC hS hA (ci := 1) (q0 := 0) rfl rfl rfl) rfl rfl hl.1 rfl (lv_room (Nat.le_of_ble_eq_true rfl)) d_M_execute_25 ⟨by decide, by decide⟩) hS hA hD (fun rz5 u t H locs hr0 ht hB hFr hS => ?_)
    obtain ⟨hP, hD⟩ := hB
    rw [ht] at hP
    have hD := dwk hD hFr
    clear ht hFr
    have hP : va_P D classes (wS62 cI cJ cZ cB p0 p1 p2 p3 p4 p5 p6 x0_4 x0_5 x0_6 x0_7 x0_8 x0_9z4 x0_10z4 x0_11z4 x0_12z4 x0_13z4 y1 y2 x3_0 x4_0 y5 y6) H := hP
    have hD : va_D A (wS62 cI cJ cZ cB p0 p1 p2 p3 p4 p5 p6 x0_4 x0_5 x0_6 x0_7 x0_8 x0_9z4 x0_10z4 x0_11z4 x0_12z4 x0_13z4 y1 y2 x3_0 x4_0 y5 y6) := hD
    refine lv_istore_n (lv' := [(1, .int rz5), (0, .ref p0)]) hx hb d_M_execute_28 rfl hl (by decide) rfl (fun ls hl => ?_)
    refine lv_iload_n hx hb d_M_execute_29 rfl (lv_at hl 0 rfl) ?_
    refine lv_if_eq (tgt := 35) hx hb d_M_execute_30 (by decide) (fun c6 => ?_) (fun c6 => ?_)
    · refine lv_aload_n hx hb d_M_execute_35 rfl (lv_at hl 1 rfl) ?_
      refine lv_aload_n hx hb d_M_execute_36 rfl (lv_at hl 1 rfl) ?_
      refine va_get (D := D) (ci := 1) (v := .int x0_6) (C := "SignMachine$Machine") (T := F_M) (N := 14) hx hb hk fi_M hown hK.1 hP 0 rfl rfl 6 (by decide) (hk _ k_172) (fun _ h9 => h9) rfl d_M_execute_37 ?_
      refine lv_aload_n hx hb d_M_execute_40 rfl (lv_at hl 1 rfl) ?_
      refine sn_i (va_runV (C := "SignMachine$Machine") (As := []) (rest := [.int x0_6, .ref p0]) ⟨hx, hb, hml, hown, hk⟩ (c_M_duration_s5 l K D cI cJ cZ cB p0 p1 p2 p3 p4 p5 p6 H.size x0_4 x0_5 x0_6 x0_7 x0_8 x0_9z4 x0_10z4 x0_11z4 x0_12z4 x0_13z4 y1 y2 x3_0 x4_0 y5 y6   ) (v_M_duration_s5 hk k_341 ⟨Nat.le_of_ble_eq_true rfl, Nat.le_of_ble_eq_true rfl⟩) (pMC_v hK hP hD hC hS hA (ci := 1) (q0 := 0) rfl rfl rfl) rfl rfl hl.1 rfl (lv_room (Nat.le_of_ble_eq_true rfl)) d_M_execute_41 ⟨by decide, by decide⟩) hS hA hD (fun rz7 u t H locs hr0 ht hB hFr hS => ?_)
      obtain ⟨hP, hD⟩ := hB
      rw [ht] at hP
      have hD := dwk hD hFr
      clear ht hFr
      have hP : va_P D classes (wS62 cI cJ cZ cB p0 p1 p2 p3 p4 p5 p6 x0_4 x0_5 x0_6 x0_7 x0_8 x0_9z4 x0_10z4 x0_11z4 x0_12z4 x0_13z4 y1 y2 x3_0 x4_0 y5 y6) H := hP
      have hD : va_D A (wS62 cI cJ cZ cB p0 p1 p2 p3 p4 p5 p6 x0_4 x0_5 x0_6 x0_7 x0_8 x0_9z4 x0_10z4 x0_11z4 x0_12z4 x0_13z4 y1 y2 x3_0 x4_0 y5 y6) := hD
      refine lv_iadd hx hb d_M_execute_44 ?_
      refine lv_topi (fun v8 hv8 => ?_)
      refine lv_ldc (v := 1073741823) hx hb hown (hk _ k_345) d_M_execute_45 ?_
      refine lv_iand hx hb d_M_execute_47 ?_
      refine lv_topi (fun v9 hv9 => ?_)
      refine va_put (D := D) (ci := 1) (v := .int v9) (ty := .int) (C := "SignMachine$Machine") (T := F_M) (N := 14) hx hb hk fi_M ft_M ft_M_ok fn_M hown hK.1 hP hD hS 0 rfl rfl 6 (by decide) (hk _ k_172) (fun _ h9 => h9) rfl (by decide +kernel) rfl rfl (Nat.le_of_ble_eq_true rfl) d_M_execute_48 (fun H locs hP hD hS => ?_)
      have hP : va_P D classes (wS62 cI cJ cZ cB p0 p1 p2 p3 p4 p5 p6 x0_4 x0_5 v9 x0_7 x0_8 x0_9z4 x0_10z4 x0_11z4 x0_12z4 x0_13z4 y1 y2 x3_0 x4_0 y5 y6) H := hP
      have hD : va_D A (wS62 cI cJ cZ cB p0 p1 p2 p3 p4 p5 p6 x0_4 x0_5 v9 x0_7 x0_8 x0_9z4 x0_10z4 x0_11z4 x0_12z4 x0_13z4 y1 y2 x3_0 x4_0 y5 y6) := hD
      refine lv_aload_n hx hb d_M_execute_51 rfl (lv_at hl 1 rfl) ?_
      refine lv_dup hx hb d_M_execute_52 rfl ?_
      refine va_get (D := D) (ci := 1) (v := .int x0_7) (C := "SignMachine$Machine") (T := F_M) (N := 14) hx hb hk fi_M hown hK.1 hP 0 rfl rfl 7 (by decide) (hk _ k_174) (fun _ h9 => h9) rfl d_M_execute_53 ?_
      refine lv_iconst (v := 1) hx hb d_M_execute_56 (by decide) ?_
      refine lv_iadd hx hb d_M_execute_57 ?_
      refine lv_topi (fun v10 hv10 => ?_)
      refine va_put (D := D) (ci := 1) (v := .int v10) (ty := .int) (C := "SignMachine$Machine") (T := F_M) (N := 14) hx hb hk fi_M ft_M ft_M_ok fn_M hown hK.1 hP hD hS 0 rfl rfl 7 (by decide) (hk _ k_174) (fun _ h9 => h9) rfl (by decide +kernel) rfl rfl (Nat.le_of_ble_eq_true rfl) d_M_execute_58 (fun H locs hP hD hS => ?_)
      have hP : va_P D classes (wS62 cI cJ cZ cB p0 p1 p2 p3 p4 p5 p6 x0_4 x0_5 v9 v10 x0_8 x0_9z4 x0_10z4 x0_11z4 x0_12z4 x0_13z4 y1 y2 x3_0 x4_0 y5 y6) H := hP
      have hD : va_D A (wS62 cI cJ cZ cB p0 p1 p2 p3 p4 p5 p6 x0_4 x0_5 v9 v10 x0_8 x0_9z4 x0_10z4 x0_11z4 x0_12z4 x0_13z4 y1 y2 x3_0 x4_0 y5 y6) := hD
      refine lv_aload_n hx hb d_M_execute_61 rfl (lv_at hl 1 rfl) ?_
      refine kn_v (va_runV (C := "SignMachine$Machine") (As := []) (rest := []) ⟨hx, hb, hml, hown, hk⟩ (c_M_perform_s9 l K D cI cJ cZ cB p0 p1 p2 p3 p4 p5 p6 H.size x0_4 x0_5 v9 v10 x0_8 x0_9z4 x0_10z4 x0_11z4 x0_12z4 x0_13z4 y1 y2 x3_0 x4_0 y5 y6   ) (v_M_perform_s9 hk k_346 ⟨Nat.le_of_ble_eq_true rfl, Nat.le_of_ble_eq_true rfl⟩) (pMC_v hK hP hD hC hS hA (ci := 1) (q0 := 0) rfl rfl rfl) rfl rfl hl.1 rfl (lv_room (Nat.le_of_ble_eq_true rfl)) d_M_execute_62 ⟨by decide, by decide⟩) hS hA hD (fun u t H locs ht hB hFr hS => ?_)
      obtain ⟨x0_4z11, x0_5z11, x0_7z11, y1z11, y2z11, x3_0z11, x4_0z11, y5z11, y6z11, hP, hD⟩ := hB
      rw [ht] at hP
      have hD := dwk hD hFr
      clear ht hFr
      have hP : va_P D classes (wS62 cI cJ cZ cB p0 p1 p2 p3 p4 p5 p6 x0_4z11 x0_5z11 v9 x0_7z11 x0_8 x0_9z4 x0_10z4 x0_11z4 x0_12z4 x0_13z4 y1z11 y2z11 x3_0z11 x4_0z11 y5z11 y6z11) H := hP
      have hD : va_D A (wS62 cI cJ cZ cB p0 p1 p2 p3 p4 p5 p6 x0_4z11 x0_5z11 v9 x0_7z11 x0_8 x0_9z4 x0_10z4 x0_11z4 x0_12z4 x0_13z4 y1z11 y2z11 x3_0z11 x4_0z11 y5z11 y6z11) := hD
      refine lv_aload_n hx hb d_M_execute_65 rfl (lv_at hl 1 rfl) ?_
      refine va_get (D := D) (ci := 1) (v := .int x0_9z4) (C := "SignMachine$Machine") (T := F_M) (N := 14) hx hb hk fi_M hown hK.1 hP 0 rfl rfl 9 (by decide) (hk _ k_176) (fun _ h9 => h9) rfl d_M_execute_66 ?_
      refine lv_iconst (v := 5) hx hb d_M_execute_69 (by decide) ?_
      refine lv_icmp_ne (tgt := 85) hx hb d_M_execute_70 (by decide) (fun c12 => ?_) (fun c12 => ?_)
      · refine lv_iconst (v := 0) hx hb d_M_execute_85 (by decide) ?_
        exact W.iret (v := (0 : Int32)) hx hb hr (fun t ht hW => ⟨⟨(0 : Int32), (), rfl, trivial, ⟨x0_4z11, x0_5z11, v9, x0_7z11, x0_9z4, x0_10z4, x0_11z4, x0_12z4, x0_13z4, y1z11, y2z11, x3_0z11, x4_0z11, y5z11, y6z11, by show va_P D classes _ t.heap; rw [ht]; exact hP, hD⟩⟩, hS.F ht⟩) hS.2.2 d_M_execute_86
      · refine lv_aload_n hx hb d_M_execute_73 rfl (lv_at hl 1 rfl) ?_
        refine va_get (D := D) (ci := 1) (v := .int x0_10z4) (C := "SignMachine$Machine") (T := F_M) (N := 14) hx hb hk fi_M hown hK.1 hP 0 rfl rfl 10 (by decide) (hk _ k_177) (fun _ h9 => h9) rfl d_M_execute_74 ?_
        refine lv_iconst (v := 2) hx hb d_M_execute_77 (by decide) ?_
        refine lv_icmp_ne (tgt := 85) hx hb d_M_execute_78 (by decide) (fun c13 => ?_) (fun c13 => ?_)
        · refine lv_iconst (v := 0) hx hb d_M_execute_85 (by decide) ?_
          exact W.iret (v := (0 : Int32)) hx hb hr (fun t ht hW => ⟨⟨(0 : Int32), (), rfl, trivial, ⟨x0_4z11, x0_5z11, v9, x0_7z11, x0_9z4, x0_10z4, x0_11z4, x0_12z4, x0_13z4, y1z11, y2z11, x3_0z11, x4_0z11, y5z11, y6z11, by show va_P D classes _ t.heap; rw [ht]; exact hP, hD⟩⟩, hS.F ht⟩) hS.2.2 d_M_execute_86
        · refine lv_iconst (v := 1) hx hb d_M_execute_81 (by decide) ?_
          refine lv_goto (tgt := 86) hx hb d_M_execute_82 (by decide) ?_
          exact W.iret (v := (1 : Int32)) hx hb hr (fun t ht hW => ⟨⟨(1 : Int32), (), rfl, trivial, ⟨x0_4z11, x0_5z11, v9, x0_7z11, x0_9z4, x0_10z4, x0_11z4, x0_12z4, x0_13z4, y1z11, y2z11, x3_0z11, x4_0z11, y5z11, y6z11, by show va_P D classes _ t.heap; rw [ht]; exact hP, hD⟩⟩, hS.F ht⟩) hS.2.2 d_M_execute_86
    · refine lv_iload_n hx hb d_M_execute_33 rfl (lv_at hl 0 rfl) ?_
      exact W.iret (v := rz5) hx hb hr (fun t ht hW => ⟨⟨rz5, (), rfl, trivial, ⟨x0_4, x0_5, x0_6, x0_7, x0_9z4, x0_10z4, x0_11z4, x0_12z4, x0_13z4, y1, y2, x3_0, x4_0, y5, y6, by show va_P D classes _ t.heap; rw [ht]; exact hP, hD⟩⟩, hS.F ht⟩) hS.2.2 d_M_execute_34
  · refine lv_iconst (v := 3) hx hb d_M_execute_10 (by decide) ?_
    exact W.iret (v := (3 : Int32)) hx hb hr (fun t ht hW => ⟨⟨(3 : Int32), (), rfl, trivial, ⟨x0_4, x0_5, x0_6, x0_7, x0_9, x0_10, x0_11, x0_12, x0_13, y1, y2, x3_0, x4_0, y5, y6, by show va_P D classes _ t.heap; rw [ht]; exact hP, hD⟩⟩, hS.F ht⟩) hS.2.2 d_M_execute_11
theorem v_M_execute_s9 {R : Room} {s : State} {args : Array Value} {own : String} {index : Nat} (hk : ∀ w ∈ tb, w.before args s = true) (hl : Cond.methodLink own index y_M_execute ∈ tb) (hR : 6 + 1 ≤ R.frames ∧ 8 + (2 + 11) + 130 ≤ R.locals) : CallW R s args own "SignMachine$Machine" index y_M_execute b_M_execute 2 (some .int) (.code y_M_execute b_M_execute 2 (some .int) :: tb) ({ frames := 6, cells := 0, slots := 0, locals := 130 }) 0 0 0 := mk_v 0 hk k_261 hl k_259 k_260 k_117 rfl rfl h_M_execute hR
set_option maxHeartbeats 4000000 in
set_option maxRecDepth 100000 in
theorem c_M_unit_s11 (l : Launch) (K : CK) (D : va_G) (cI cJ cZ cB : ClassId) (p0 p1 p2 p3 p4 p5 : Nat) (sz : Nat) (x0_4 : Bool) (x0_5 : Int32) (x0_6 : Int32) (x0_7 : Int32) (x0_8 : Int32) (x0_9 : Int32) (x0_10 : Int32) (x0_11 : Int32) (x0_12 : Int32) (x0_13 : Int32) (y1 : Nat → Int32) (y2 : Nat → Int32) (x3_0 : Int32) (x4_0 : Int32) (y5 : Nat → Int32)  (a1 : Int32) (hy1 : ¬ a1 = (0 : Int32)) : Met l y_M_unit (.code y_M_unit b_M_unit 2 (some (.object "SignMachine$Tape")) :: tb) ({ frames := 0, cells := 0, slots := 0, locals := 0 }) (pMC K D cI cJ cZ cB (wS58 cI cJ cZ cB p0 p1 p2 p3 p4 p5 x0_4 x0_5 x0_6 x0_7 x0_8 x0_9 x0_10 x0_11 x0_12 x0_13 y1 y2 x3_0 x4_0 y5) sz [.ref p0, .int a1]) (va_Qq (fun r (_ : Unit) => r = some p4) (fun _ t => (va_P D classes (wS58 cI cJ cZ cB p0 p1 p2 p3 p4 p5 x0_4 x0_5 x0_6 x0_7 x0_8 x0_9 x0_10 x0_11 x0_12 x0_13 y1 y2 x3_0 x4_0 y5) t.heap ∧ va_D (va_A (wS58 cI cJ cZ cB p0 p1 p2 p3 p4 p5 x0_4 x0_5 x0_6 x0_7 x0_8 x0_9 x0_10 x0_11 x0_12 x0_13 y1 y2 x3_0 x4_0 y5) sz) (wS58 cI cJ cZ cB p0 p1 p2 p3 p4 p5 x0_4 x0_5 x0_6 x0_7 x0_8 x0_9 x0_10 x0_11 x0_12 x0_13 y1 y2 x3_0 x4_0 y5))) (va_A (wS58 cI cJ cZ cB p0 p1 p2 p3 p4 p5 x0_4 x0_5 x0_6 x0_7 x0_8 x0_9 x0_10 x0_11 x0_12 x0_13 y1 y2 x3_0 x4_0 y5) sz)) 0 0 (va_A (wS58 cI cJ cZ cB p0 p1 p2 p3 p4 p5 x0_4 x0_5 x0_6 x0_7 x0_8 x0_9 x0_10 x0_11 x0_12 x0_13 y1 y2 x3_0 x4_0 y5) sz) := by
  refine Met.ofW (cc := b_M_unit) (maxL := 2) (ret := (some (.object "SignMachine$Tape"))) (by decide) rfl ?_
  intro p e s m args below meth c s₁ B hml hv
  obtain ⟨rfl, hsz, hK, hP, hD0, hC⟩ := hv
  subst hsz
  have hD := hD0.self (sz := s.heap.size)
  generalize hAe : va_A (wS58 cI cJ cZ cB p0 p1 p2 p3 p4 p5 x0_4 x0_5 x0_6 x0_7 x0_8 x0_9 x0_10 x0_11 x0_12 x0_13 y1 y2 x3_0 x4_0 y5) s.heap.size = A at hD hC ⊢
  have hA : ∀ q : Nat, s.heap.size ≤ q → A q := fun q h => by rw [← hAe]; exact Or.inr h
  clear hAe hD0
  have hS : va_S A s.heap s.heap [] := va_S.rf
  have hx := B.exec
  have hb := B.bytes
  have hr := B.returns
  have hts := atoms_spec (ws := .code y_M_unit b_M_unit 2 (some (.object "SignMachine$Tape")) :: tb) B.pre
  have hk : ∀ w ∈ tb, w.before [.ref p0, .int a1].toArray s = true := fun w h => hts w (List.mem_cons_of_mem _ h)
  have hown : s.vm.findClass "SignMachine$Machine" = some m.cls := findClass_of_methodNamed B.named
  have hlocks := B.notSynchronized
  have hl := lv_entry ([.ref p0, .int a1]) (n := 2) (Nat.le_of_ble_eq_true rfl)
  rw [lg_entry_eq]
  generalize (lg_sl ([.ref p0, .int a1]) ++ List.replicate (2 - (lg_sl ([.ref p0, .int a1])).length) Slot.unset).toArray = ls at hl ⊢
  have hl : lv_has ls 2 [(0, .ref p0), (1, .int a1)] := hl
  refine lv_iload_n hx hb d_M_unit_0 rfl (lv_at hl 1 rfl) ?_
  refine lv_if_ne (tgt := 11) hx hb d_M_unit_1 (by decide) (fun c1 => ?_) (fun c1 => absurd c1 (show ¬ a1 = (0 : Int32) from hy1))
  refine lv_aload_n hx hb d_M_unit_11 rfl (lv_at hl 0 rfl) ?_
  refine va_get (D := D) (ci := 1) (v := .ref p4) (C := "SignMachine$Machine") (T := F_M) (N := 14) hx hb hk fi_M hown hK.1 hP 0 rfl rfl 3 (by decide) (hk _ k_166) (fun _ h9 => h9) rfl d_M_unit_12 ?_
  exact W.aret (v := .ref p4) hx hb hr (Or.inl ⟨_, rfl⟩) (Or.inr ⟨_, rfl⟩) (fun t ht hW => ⟨⟨(some p4), (), rfl, rfl, ⟨by show va_P D classes _ t.heap; rw [ht]; exact hP, hD⟩⟩, hS.F ht⟩) hS.2.2 d_M_unit_15
theorem v_M_unit_s11 {R : Room} {s : State} {args : Array Value} {own : String} {index : Nat} (hk : ∀ w ∈ tb, w.before args s = true) (hl : Cond.methodLink own index y_M_unit ∈ tb) (hR : 0 + 1 ≤ R.frames ∧ 8 + (2 + 11) + 0 ≤ R.locals) : CallW R s args own "SignMachine$Machine" index y_M_unit b_M_unit 2 (some (.object "SignMachine$Tape")) (.code y_M_unit b_M_unit 2 (some (.object "SignMachine$Tape")) :: tb) ({ frames := 0, cells := 0, slots := 0, locals := 0 }) 0 0 1 := mk_v 1 hk k_340 hl k_338 k_339 k_117 rfl rfl h_M_unit hR
set_option maxHeartbeats 4000000 in
set_option maxRecDepth 100000 in
theorem c_M_writeBlock_s8 (l : Launch) (K : CK) (D : va_G) (cI cJ cZ cB : ClassId) (p0 p1 p2 p3 p4 p5 : Nat) (sz : Nat) (x0_4 : Bool) (x0_5 : Int32) (x0_6 : Int32) (x0_7 : Int32) (x0_8 : Int32) (x0_10 : Int32) (x0_11 : Int32) (x0_12 : Int32) (x0_13 : Int32) (y1 : Nat → Int32) (y2 : Nat → Int32) (x3_0 : Int32) (x4_0 : Int32) (y5 : Nat → Int32)   (hy1 : ¬ x0_10 = (0 : Int32)) : Met l y_M_writeBlock (.code y_M_writeBlock b_M_writeBlock 3 none :: tb) ({ frames := 2, cells := 0, slots := 0, locals := 44 }) (pMC K D cI cJ cZ cB (wS58 cI cJ cZ cB p0 p1 p2 p3 p4 p5 x0_4 x0_5 x0_6 x0_7 x0_8 (37 : Int32) x0_10 x0_11 x0_12 x0_13 y1 y2 x3_0 x4_0 y5) sz [.ref p0]) (va_Qv (fun (_ : Unit) => True) (fun _ t => (∃ u_x0_9 : Int32, ∃ u_x4_0 : Int32, ∃ u_y5 : Nat → Int32, va_P D classes (wS58 cI cJ cZ cB p0 p1 p2 p3 p4 p5 x0_4 x0_5 x0_6 x0_7 x0_8 u_x0_9 x0_10 x0_11 x0_12 x0_13 y1 y2 x3_0 u_x4_0 u_y5) t.heap ∧ va_D (va_A (wS58 cI cJ cZ cB p0 p1 p2 p3 p4 p5 x0_4 x0_5 x0_6 x0_7 x0_8 (37 : Int32) x0_10 x0_11 x0_12 x0_13 y1 y2 x3_0 x4_0 y5) sz) (wS58 cI cJ cZ cB p0 p1 p2 p3 p4 p5 x0_4 x0_5 x0_6 x0_7 x0_8 u_x0_9 x0_10 x0_11 x0_12 x0_13 y1 y2 x3_0 u_x4_0 u_y5))) (va_A (wS58 cI cJ cZ cB p0 p1 p2 p3 p4 p5 x0_4 x0_5 x0_6 x0_7 x0_8 (37 : Int32) x0_10 x0_11 x0_12 x0_13 y1 y2 x3_0 x4_0 y5) sz)) 0 0 (va_A (wS58 cI cJ cZ cB p0 p1 p2 p3 p4 p5 x0_4 x0_5 x0_6 x0_7 x0_8 (37 : Int32) x0_10 x0_11 x0_12 x0_13 y1 y2 x3_0 x4_0 y5) sz) := by
  refine Met.ofW (cc := b_M_writeBlock) (maxL := 3) (ret := none) (by decide) rfl ?_
  intro p e s m args below meth c s₁ B hml hv
  obtain ⟨rfl, hsz, hK, hP, hD0, hC⟩ := hv
  subst hsz
  have hD := hD0.self (sz := s.heap.size)
  generalize hAe : va_A (wS58 cI cJ cZ cB p0 p1 p2 p3 p4 p5 x0_4 x0_5 x0_6 x0_7 x0_8 (37 : Int32) x0_10 x0_11 x0_12 x0_13 y1 y2 x3_0 x4_0 y5) s.heap.size = A at hD hC ⊢
  have hA : ∀ q : Nat, s.heap.size ≤ q → A q := fun q h => by rw [← hAe]; exact Or.inr h
  clear hAe hD0
  have hS : va_S A s.heap s.heap [] := va_S.rf
  have hx := B.exec
  have hb := B.bytes
  have hr := B.returns
  have hts := atoms_spec (ws := .code y_M_writeBlock b_M_writeBlock 3 none :: tb) B.pre
  have hk : ∀ w ∈ tb, w.before [.ref p0].toArray s = true := fun w h => hts w (List.mem_cons_of_mem _ h)
  have hown : s.vm.findClass "SignMachine$Machine" = some m.cls := findClass_of_methodNamed B.named
  have hlocks := B.notSynchronized
  have hl := lv_entry ([.ref p0]) (n := 3) (Nat.le_of_ble_eq_true rfl)
  rw [lg_entry_eq]
  generalize (lg_sl ([.ref p0]) ++ List.replicate (3 - (lg_sl ([.ref p0])).length) Slot.unset).toArray = ls at hl ⊢
  have hl : lv_has ls 3 [(0, .ref p0)] := hl
  refine lv_aload_n hx hb d_M_writeBlock_0 rfl (lv_at hl 0 rfl) ?_
  refine lv_aload_n hx hb d_M_writeBlock_1 rfl (lv_at hl 0 rfl) ?_
  refine va_get (D := D) (ci := 1) (v := .int x0_10) (C := "SignMachine$Machine") (T := F_M) (N := 14) hx hb hk fi_M hown hK.1 hP 0 rfl rfl 10 (by decide) (hk _ k_177) (fun _ h9 => h9) rfl d_M_writeBlock_2 ?_
  refine sn_q (va_runV (C := "SignMachine$Machine") (As := [.int x0_10]) (rest := []) ⟨hx, hb, hml, hown, hk⟩ (c_M_unit_s11 l K D cI cJ cZ cB p0 p1 p2 p3 p4 p5 s.heap.size x0_4 x0_5 x0_6 x0_7 x0_8 (37 : Int32) x0_10 x0_11 x0_12 x0_13 y1 y2 x3_0 x4_0 y5  x0_10 hy1) (v_M_unit_s11 hk k_337 ⟨Nat.le_of_ble_eq_true rfl, Nat.le_of_ble_eq_true rfl⟩) (pMC_v hK hP hD hC hS hA (ci := 1) (q0 := 0) rfl rfl rfl) rfl rfl hl.1 rfl (lv_room (Nat.le_of_ble_eq_true rfl)) d_M_writeBlock_5 ⟨by decide, by decide⟩) hS hA hD (fun rz1 u t H locs hr0 ht hB hFr hS => ?_)
  obtain ⟨hP, hD⟩ := hB
  rw [ht] at hP
  have hD := dwk hD hFr
  clear ht hFr
  have hP : va_P D classes (wS58 cI cJ cZ cB p0 p1 p2 p3 p4 p5 x0_4 x0_5 x0_6 x0_7 x0_8 (37 : Int32) x0_10 x0_11 x0_12 x0_13 y1 y2 x3_0 x4_0 y5) H := hP
  have hD : va_D A (wS58 cI cJ cZ cB p0 p1 p2 p3 p4 p5 x0_4 x0_5 x0_6 x0_7 x0_8 (37 : Int32) x0_10 x0_11 x0_12 x0_13 y1 y2 x3_0 x4_0 y5) := hD
  subst hr0
  refine W.eq (g2 := F0 m 8 ls [.ref p4]) rfl ?_
  refine lv_astore_n (lv' := [(1, .ref p4), (0, .ref p0)]) hx hb d_M_writeBlock_8 rfl hl (by decide) rfl (fun ls hl => ?_)
  refine lv_iconst (v := 0) hx hb d_M_writeBlock_9 (by decide) ?_
  refine lv_istore_n (lv' := [(2, .int (0 : Int32)), (1, .ref p4), (0, .ref p0)]) hx hb d_M_writeBlock_10 rfl hl (by decide) rfl (fun ls hl => ?_)
  refine lv_iload_n hx hb d_M_writeBlock_11 rfl (lv_at hl 0 rfl) ?_
  refine lv_bipush (v := 100) hx hb d_M_writeBlock_12 (by decide) ?_
  refine lv_icmp_ge (tgt := 42) hx hb d_M_writeBlock_14 (by decide) (fun c2 => absurd c2 (show ¬ (100 : Int32) ≤ (0 : Int32) from (by decide))) (fun c2 => ?_)
  refine lv_aload_n hx hb d_M_writeBlock_17 rfl (lv_at hl 1 rfl) ?_
  refine lv_aload_n hx hb d_M_writeBlock_18 rfl (lv_at hl 1 rfl) ?_
  refine va_getN (D := D) (ci := 2) (v := .int x4_0) (C := "SignMachine$Tape") (T := F_T) (N := 2) hx hb hk fi_T hown hK.1 hP 4 rfl rfl 0 (by decide) (va_Nw.use rfl (hK.2 _ n_155)) (fun _ h9 => h9) rfl d_M_writeBlock_19 ?_
  refine lv_iload_n hx hb d_M_writeBlock_22 rfl (lv_at hl 0 rfl) ?_
  refine lv_aload_n hx hb d_M_writeBlock_23 rfl (lv_at hl 2 rfl) ?_
  refine lv_aload_n hx hb d_M_writeBlock_24 rfl (lv_at hl 2 rfl) ?_
  refine va_get (D := D) (ci := 1) (v := .int x0_12) (C := "SignMachine$Machine") (T := F_M) (N := 14) hx hb hk fi_M hown hK.1 hP 0 rfl rfl 12 (by decide) (hk _ k_179) (fun _ h9 => h9) rfl d_M_writeBlock_25 ?_
  refine lv_iload_n hx hb d_M_writeBlock_28 rfl (lv_at hl 0 rfl) ?_
  refine lv_iadd hx hb d_M_writeBlock_29 ?_
  refine lv_topi (fun v3 hv3 => ?_)
  refine sn_i (va_runV (C := "SignMachine$Machine") (As := [.int v3]) (rest := [.int (0 : Int32), .int x4_0, .ref p4]) ⟨hx, hb, hml, hown, hk⟩ (c_M_wordAt_s3 l K D cI cJ cZ cB p0 p1 p2 p3 p4 p5 H.size x0_4 x0_5 x0_6 x0_7 x0_8 (37 : Int32) x0_10 x0_11 x0_12 x0_13 y1 y2 x3_0 x4_0 y5  v3 ) (v_M_wordAt_s3 hk k_263 ⟨Nat.le_of_ble_eq_true rfl, Nat.le_of_ble_eq_true rfl⟩) (pMC_v hK hP hD hC hS hA (ci := 1) (q0 := 0) rfl rfl rfl) rfl rfl hl.1 rfl (lv_room (Nat.le_of_ble_eq_true rfl)) d_M_writeBlock_30 ⟨by decide, by decide⟩) hS hA hD (fun rz4 u t H locs hr0 ht hB hFr hS => ?_)
  have hrz4 := hr0
  obtain ⟨hP, hD⟩ := hB
  rw [ht] at hP
  have hD := dwk hD hFr
  clear ht hFr
  have hP : va_P D classes (wS58 cI cJ cZ cB p0 p1 p2 p3 p4 p5 x0_4 x0_5 x0_6 x0_7 x0_8 (37 : Int32) x0_10 x0_11 x0_12 x0_13 y1 y2 x3_0 x4_0 y5) H := hP
  have hD : va_D A (wS58 cI cJ cZ cB p0 p1 p2 p3 p4 p5 x0_4 x0_5 x0_6 x0_7 x0_8 (37 : Int32) x0_10 x0_11 x0_12 x0_13 y1 y2 x3_0 x4_0 y5) := hD
  refine kn_v (va_runV (C := "SignMachine$Tape") (As := [.int x4_0, .int (0 : Int32), .int rz4]) (rest := []) ⟨hx, hb, hml, hown, hk⟩ (c_T_putWord_s4 l K D cI cJ cZ cB p0 p1 p2 p3 p4 p5 H.size x0_4 x0_5 x0_6 x0_7 x0_8 (37 : Int32) x0_10 x0_11 x0_12 x0_13 y1 y2 x3_0 x4_0 y5  x4_0 (0 : Int32) rz4 ) (v_T_putWord_s4 hk k_444 ⟨Nat.le_of_ble_eq_true rfl, Nat.le_of_ble_eq_true rfl⟩) (pMC_v hK hP hD hC hS hA (ci := 2) (q0 := 4) rfl rfl rfl) rfl rfl hl.1 rfl (lv_room (Nat.le_of_ble_eq_true rfl)) d_M_writeBlock_33 ⟨by decide, by decide⟩) hS hA hD (fun u t H locs ht hB hFr hS => ?_)
  obtain ⟨y5z5, hP, hD⟩ := hB
  rw [ht] at hP
  have hD := dwk hD hFr
  clear ht hFr
  have hP : va_P D classes (wS58 cI cJ cZ cB p0 p1 p2 p3 p4 p5 x0_4 x0_5 x0_6 x0_7 x0_8 (37 : Int32) x0_10 x0_11 x0_12 x0_13 y1 y2 x3_0 x4_0 y5z5) H := hP
  have hD : va_D A (wS58 cI cJ cZ cB p0 p1 p2 p3 p4 p5 x0_4 x0_5 x0_6 x0_7 x0_8 (37 : Int32) x0_10 x0_11 x0_12 x0_13 y1 y2 x3_0 x4_0 y5z5) := hD
  refine lv_iinc (v := (1 : Int32)) (lv' := [(2, .int (1 : Int32)), (1, .ref p4), (0, .ref p0)]) hx hb d_M_writeBlock_36 hl (k := 0) rfl (by decide) (by decide) rfl (fun ls hl => ?_)
  refine lv_goto (tgt := 11) hx hb d_M_writeBlock_39 (by decide) ?_
  have LP11_58 : ∀ (n : Nat) (l2 : Int32) (x0_9 : Int32) (x4_0 : Int32) (y5 : Nat → Int32) (H : Heap) (locs : List Loc) (ls : Array Slot), (((100 : Int32)).toInt - (l2).toInt).toNat < n → ¬ l2 < (0 : Int32) → va_P D classes (wS58 cI cJ cZ cB p0 p1 p2 p3 p4 p5 x0_4 x0_5 x0_6 x0_7 x0_8 x0_9 x0_10 x0_11 x0_12 x0_13 y1 y2 x3_0 x4_0 y5) H → va_D A (wS58 cI cJ cZ cB p0 p1 p2 p3 p4 p5 x0_4 x0_5 x0_6 x0_7 x0_8 x0_9 x0_10 x0_11 x0_12 x0_13 y1 y2 x3_0 x4_0 y5) → va_S A s.heap H locs → lv_has ls 3 [(2, .int l2), (1, .ref p4), (0, .ref p0)] → W p l e ({ frames := 2, cells := 0, slots := 0, locals := 44 }) s m [.ref p0].toArray below meth c H locs 0 0 (MQ below (va_Qv (fun (_ : Unit) => True) (fun _ t => (∃ u_x0_9 : Int32, ∃ u_x4_0 : Int32, ∃ u_y5 : Nat → Int32, va_P D classes (wS58 cI cJ cZ cB p0 p1 p2 p3 p4 p5 x0_4 x0_5 x0_6 x0_7 x0_8 u_x0_9 x0_10 x0_11 x0_12 x0_13 y1 y2 x3_0 u_x4_0 u_y5) t.heap ∧ va_D A (wS58 cI cJ cZ cB p0 p1 p2 p3 p4 p5 x0_4 x0_5 x0_6 x0_7 x0_8 u_x0_9 x0_10 x0_11 x0_12 x0_13 y1 y2 x3_0 u_x4_0 u_y5))) A) [.ref p0].toArray s 0 0 A) (F0 m 11 ls []) := by
    intro n
    induction n with
    | zero => intro l2 x0_9 x4_0 y5 H locs ls hn; exact absurd hn (Nat.not_lt_zero _)
    | succ n ih =>
      intro l2 x0_9 x4_0 y5 H locs ls hn11_58 hc11_58 hP hD hS hl
      refine lv_iload_n hx hb d_M_writeBlock_11 rfl (lv_at hl 0 rfl) ?_
      refine lv_bipush (v := 100) hx hb d_M_writeBlock_12 (by decide) ?_
      refine lv_icmp_ge (tgt := 42) hx hb d_M_writeBlock_14 (by decide) (fun c6 => ?_) (fun c6 => ?_)
      · refine lv_aload_n hx hb d_M_writeBlock_42 rfl (lv_at hl 1 rfl) ?_
        refine lv_dup hx hb d_M_writeBlock_43 rfl ?_
        refine va_getN (D := D) (ci := 2) (v := .int x4_0) (C := "SignMachine$Tape") (T := F_T) (N := 2) hx hb hk fi_T hown hK.1 hP 4 rfl rfl 0 (by decide) (va_Nw.use rfl (hK.2 _ n_155)) (fun _ h9 => h9) rfl d_M_writeBlock_44 ?_
        refine lv_iconst (v := 1) hx hb d_M_writeBlock_47 (by decide) ?_
        refine lv_iadd hx hb d_M_writeBlock_48 ?_
        refine lv_topi (fun v7 hv7 => ?_)
        refine va_putN (D := D) (ci := 2) (v := .int v7) (ty := .int) (C := "SignMachine$Tape") (T := F_T) (N := 2) hx hb hk fi_T ft_T ft_T_ok fn_T hown hK.1 hP hD hS 4 rfl rfl 0 (by decide) (va_Nw.use rfl (hK.2 _ n_155)) (fun _ h9 => h9) rfl (by decide +kernel) rfl rfl (Nat.le_of_ble_eq_true rfl) d_M_writeBlock_49 (fun H locs hP hD hS => ?_)
        have hP : va_P D classes (wS58 cI cJ cZ cB p0 p1 p2 p3 p4 p5 x0_4 x0_5 x0_6 x0_7 x0_8 x0_9 x0_10 x0_11 x0_12 x0_13 y1 y2 x3_0 v7 y5) H := hP
        have hD : va_D A (wS58 cI cJ cZ cB p0 p1 p2 p3 p4 p5 x0_4 x0_5 x0_6 x0_7 x0_8 x0_9 x0_10 x0_11 x0_12 x0_13 y1 y2 x3_0 v7 y5) := hD
        exact W.vret hx hb hr (fun t ht hW => ⟨⟨(), rfl, trivial, ⟨x0_9, v7, y5, by show va_P D classes _ t.heap; rw [ht]; exact hP, hD⟩⟩, hS.F ht⟩) hS.2.2 d_M_writeBlock_52
      · refine lv_aload_n hx hb d_M_writeBlock_17 rfl (lv_at hl 1 rfl) ?_
        refine lv_aload_n hx hb d_M_writeBlock_18 rfl (lv_at hl 1 rfl) ?_
        refine va_getN (D := D) (ci := 2) (v := .int x4_0) (C := "SignMachine$Tape") (T := F_T) (N := 2) hx hb hk fi_T hown hK.1 hP 4 rfl rfl 0 (by decide) (va_Nw.use rfl (hK.2 _ n_155)) (fun _ h9 => h9) rfl d_M_writeBlock_19 ?_
        refine lv_iload_n hx hb d_M_writeBlock_22 rfl (lv_at hl 0 rfl) ?_
        refine lv_aload_n hx hb d_M_writeBlock_23 rfl (lv_at hl 2 rfl) ?_
        refine lv_aload_n hx hb d_M_writeBlock_24 rfl (lv_at hl 2 rfl) ?_
        refine va_get (D := D) (ci := 1) (v := .int x0_12) (C := "SignMachine$Machine") (T := F_M) (N := 14) hx hb hk fi_M hown hK.1 hP 0 rfl rfl 12 (by decide) (hk _ k_179) (fun _ h9 => h9) rfl d_M_writeBlock_25 ?_
        refine lv_iload_n hx hb d_M_writeBlock_28 rfl (lv_at hl 0 rfl) ?_
        refine lv_iadd hx hb d_M_writeBlock_29 ?_
        refine lv_topi (fun v8 hv8 => ?_)
        refine sn_i (va_runV (C := "SignMachine$Machine") (As := [.int v8]) (rest := [.int l2, .int x4_0, .ref p4]) ⟨hx, hb, hml, hown, hk⟩ (c_M_wordAt_s3 l K D cI cJ cZ cB p0 p1 p2 p3 p4 p5 H.size x0_4 x0_5 x0_6 x0_7 x0_8 x0_9 x0_10 x0_11 x0_12 x0_13 y1 y2 x3_0 x4_0 y5  v8 ) (v_M_wordAt_s3 hk k_263 ⟨Nat.le_of_ble_eq_true rfl, Nat.le_of_ble_eq_true rfl⟩) (pMC_v hK hP hD hC hS hA (ci := 1) (q0 := 0) rfl rfl rfl) rfl rfl hl.1 rfl (lv_room (Nat.le_of_ble_eq_true rfl)) d_M_writeBlock_30 ⟨by decide, by decide⟩) hS hA hD (fun rz9 u t H locs hr0 ht hB hFr hS => ?_)
        have hrz9 := hr0
        obtain ⟨hP, hD⟩ := hB
        rw [ht] at hP
        have hD := dwk hD hFr
        clear ht hFr
        have hP : va_P D classes (wS58 cI cJ cZ cB p0 p1 p2 p3 p4 p5 x0_4 x0_5 x0_6 x0_7 x0_8 x0_9 x0_10 x0_11 x0_12 x0_13 y1 y2 x3_0 x4_0 y5) H := hP
        have hD : va_D A (wS58 cI cJ cZ cB p0 p1 p2 p3 p4 p5 x0_4 x0_5 x0_6 x0_7 x0_8 x0_9 x0_10 x0_11 x0_12 x0_13 y1 y2 x3_0 x4_0 y5) := hD
        refine kn_v (va_runV (C := "SignMachine$Tape") (As := [.int x4_0, .int l2, .int rz9]) (rest := []) ⟨hx, hb, hml, hown, hk⟩ (c_T_putWord_s4 l K D cI cJ cZ cB p0 p1 p2 p3 p4 p5 H.size x0_4 x0_5 x0_6 x0_7 x0_8 x0_9 x0_10 x0_11 x0_12 x0_13 y1 y2 x3_0 x4_0 y5  x4_0 l2 rz9 ) (v_T_putWord_s4 hk k_444 ⟨Nat.le_of_ble_eq_true rfl, Nat.le_of_ble_eq_true rfl⟩) (pMC_v hK hP hD hC hS hA (ci := 2) (q0 := 4) rfl rfl rfl) rfl rfl hl.1 rfl (lv_room (Nat.le_of_ble_eq_true rfl)) d_M_writeBlock_33 ⟨by decide, by decide⟩) hS hA hD (fun u t H locs ht hB hFr hS => ?_)
        obtain ⟨y5z10, hP, hD⟩ := hB
        rw [ht] at hP
        have hD := dwk hD hFr
        clear ht hFr
        have hP : va_P D classes (wS58 cI cJ cZ cB p0 p1 p2 p3 p4 p5 x0_4 x0_5 x0_6 x0_7 x0_8 x0_9 x0_10 x0_11 x0_12 x0_13 y1 y2 x3_0 x4_0 y5z10) H := hP
        have hD : va_D A (wS58 cI cJ cZ cB p0 p1 p2 p3 p4 p5 x0_4 x0_5 x0_6 x0_7 x0_8 x0_9 x0_10 x0_11 x0_12 x0_13 y1 y2 x3_0 x4_0 y5z10) := hD
        obtain ⟨v11, hv11⟩ : ∃ y : Int32, y = (l2 + (1 : Int32)) := ⟨_, rfl⟩
        refine lv_iinc (v := v11) (lv' := [(2, .int v11), (1, .ref p4), (0, .ref p0)]) hx hb d_M_writeBlock_36 hl (k := 0) rfl (by rw [hv11]; rfl) (by decide) rfl (fun ls hl => ?_)
        refine lv_goto (tgt := 11) hx hb d_M_writeBlock_39 (by decide) ?_
        exact ih v11 x0_9 x4_0 y5z10 H _ ls (lpu c6 hv11 hn11_58) (lpn hc11_58 c6 hv11) hP hD hS (lv_sub hl [0, 1, 2] rfl)
  exact LP11_58 _ (1 : Int32) (37 : Int32) x4_0 y5z5 H _ ls (Nat.lt_succ_self _) (by decide) hP hD hS hl
theorem v_M_writeBlock_s8 {R : Room} {s : State} {args : Array Value} {own : String} {index : Nat} (hk : ∀ w ∈ tb, w.before args s = true) (hl : Cond.methodLink own index y_M_writeBlock ∈ tb) (hR : 2 + 1 ≤ R.frames ∧ 8 + (3 + 11) + 44 ≤ R.locals) : CallW R s args own "SignMachine$Machine" index y_M_writeBlock b_M_writeBlock 3 none (.code y_M_writeBlock b_M_writeBlock 3 none :: tb) ({ frames := 2, cells := 0, slots := 0, locals := 44 }) 0 0 0 := mk_v 0 hk k_443 hl k_442 k_27 k_117 rfl rfl h_M_writeBlock hR
set_option maxHeartbeats 4000000 in
set_option maxRecDepth 100000 in
theorem c_M_performMiddle_s10 (l : Launch) (K : CK) (D : va_G) (cI cJ cZ cB : ClassId) (p0 p1 p2 p3 p4 p5 : Nat) (sz : Nat) (x0_4 : Bool) (x0_5 : Int32) (x0_6 : Int32) (x0_7 : Int32) (x0_8 : Int32) (x0_10 : Int32) (x0_11 : Int32) (x0_12 : Int32) (x0_13 : Int32) (y1 : Nat → Int32) (y2 : Nat → Int32) (x3_0 : Int32) (x4_0 : Int32) (y5 : Nat → Int32)   (hy1 : ¬ x0_10 = (0 : Int32)) : Met l y_M_performMiddle (.code y_M_performMiddle b_M_performMiddle 1 none :: tb) ({ frames := 3, cells := 0, slots := 0, locals := 66 }) (pMC K D cI cJ cZ cB (wS58 cI cJ cZ cB p0 p1 p2 p3 p4 p5 x0_4 x0_5 x0_6 x0_7 x0_8 (37 : Int32) x0_10 x0_11 x0_12 x0_13 y1 y2 x3_0 x4_0 y5) sz [.ref p0]) (va_Qv (fun (_ : Unit) => True) (fun _ t => (∃ u_x0_9 : Int32, ∃ u_x4_0 : Int32, ∃ u_y5 : Nat → Int32, va_P D classes (wS58 cI cJ cZ cB p0 p1 p2 p3 p4 p5 x0_4 x0_5 x0_6 x0_7 x0_8 u_x0_9 x0_10 x0_11 x0_12 x0_13 y1 y2 x3_0 u_x4_0 u_y5) t.heap ∧ va_D (va_A (wS58 cI cJ cZ cB p0 p1 p2 p3 p4 p5 x0_4 x0_5 x0_6 x0_7 x0_8 (37 : Int32) x0_10 x0_11 x0_12 x0_13 y1 y2 x3_0 x4_0 y5) sz) (wS58 cI cJ cZ cB p0 p1 p2 p3 p4 p5 x0_4 x0_5 x0_6 x0_7 x0_8 u_x0_9 x0_10 x0_11 x0_12 x0_13 y1 y2 x3_0 u_x4_0 u_y5))) (va_A (wS58 cI cJ cZ cB p0 p1 p2 p3 p4 p5 x0_4 x0_5 x0_6 x0_7 x0_8 (37 : Int32) x0_10 x0_11 x0_12 x0_13 y1 y2 x3_0 x4_0 y5) sz)) 0 0 (va_A (wS58 cI cJ cZ cB p0 p1 p2 p3 p4 p5 x0_4 x0_5 x0_6 x0_7 x0_8 (37 : Int32) x0_10 x0_11 x0_12 x0_13 y1 y2 x3_0 x4_0 y5) sz) := by
  refine Met.ofW (cc := b_M_performMiddle) (maxL := 1) (ret := none) (by decide) rfl ?_
  intro p e s m args below meth c s₁ B hml hv
  obtain ⟨rfl, hsz, hK, hP, hD0, hC⟩ := hv
  subst hsz
  have hD := hD0.self (sz := s.heap.size)
  generalize hAe : va_A (wS58 cI cJ cZ cB p0 p1 p2 p3 p4 p5 x0_4 x0_5 x0_6 x0_7 x0_8 (37 : Int32) x0_10 x0_11 x0_12 x0_13 y1 y2 x3_0 x4_0 y5) s.heap.size = A at hD hC ⊢
  have hA : ∀ q : Nat, s.heap.size ≤ q → A q := fun q h => by rw [← hAe]; exact Or.inr h
  clear hAe hD0
  have hS : va_S A s.heap s.heap [] := va_S.rf
  have hx := B.exec
  have hb := B.bytes
  have hr := B.returns
  have hts := atoms_spec (ws := .code y_M_performMiddle b_M_performMiddle 1 none :: tb) B.pre
  have hk : ∀ w ∈ tb, w.before [.ref p0].toArray s = true := fun w h => hts w (List.mem_cons_of_mem _ h)
  have hown : s.vm.findClass "SignMachine$Machine" = some m.cls := findClass_of_methodNamed B.named
  have hlocks := B.notSynchronized
  have hl := lv_entry ([.ref p0]) (n := 1) (Nat.le_of_ble_eq_true rfl)
  rw [lg_entry_eq]
  generalize (lg_sl ([.ref p0]) ++ List.replicate (1 - (lg_sl ([.ref p0])).length) Slot.unset).toArray = ls at hl ⊢
  have hl : lv_has ls 1 [(0, .ref p0)] := hl
  refine lv_aload_n hx hb d_M_performMiddle_0 rfl (lv_at hl 0 rfl) ?_
  refine va_get (D := D) (ci := 1) (v := .int (37 : Int32)) (C := "SignMachine$Machine") (T := F_M) (N := 14) hx hb hk fi_M hown hK.1 hP 0 rfl rfl 9 (by decide) (hk _ k_176) (fun _ h9 => h9) rfl d_M_performMiddle_1 ?_
  refine lv_tableIn (off := 83) (tgt := 87) hx hb d_M_performMiddle_4 (by decide) (by decide) rfl (by decide) ?_
  refine lv_aload_n hx hb d_M_performMiddle_87 rfl (lv_at hl 0 rfl) ?_
  refine kn_v (va_runV (C := "SignMachine$Machine") (As := []) (rest := []) ⟨hx, hb, hml, hown, hk⟩ (c_M_writeBlock_s8 l K D cI cJ cZ cB p0 p1 p2 p3 p4 p5 s.heap.size x0_4 x0_5 x0_6 x0_7 x0_8 x0_10 x0_11 x0_12 x0_13 y1 y2 x3_0 x4_0 y5   hy1) (v_M_writeBlock_s8 hk k_440 ⟨Nat.le_of_ble_eq_true rfl, Nat.le_of_ble_eq_true rfl⟩) (pMC_v hK hP hD hC hS hA (ci := 1) (q0 := 0) rfl rfl rfl) rfl rfl hl.1 rfl (lv_room (Nat.le_of_ble_eq_true rfl)) d_M_performMiddle_88 ⟨by decide, by decide⟩) hS hA hD (fun u t H locs ht hB hFr hS => ?_)
  obtain ⟨x0_9z1, x4_0z1, y5z1, hP, hD⟩ := hB
  rw [ht] at hP
  have hD := dwk hD hFr
  clear ht hFr
  have hP : va_P D classes (wS58 cI cJ cZ cB p0 p1 p2 p3 p4 p5 x0_4 x0_5 x0_6 x0_7 x0_8 x0_9z1 x0_10 x0_11 x0_12 x0_13 y1 y2 x3_0 x4_0z1 y5z1) H := hP
  have hD : va_D A (wS58 cI cJ cZ cB p0 p1 p2 p3 p4 p5 x0_4 x0_5 x0_6 x0_7 x0_8 x0_9z1 x0_10 x0_11 x0_12 x0_13 y1 y2 x3_0 x4_0z1 y5z1) := hD
  refine lv_goto (tgt := 109) hx hb d_M_performMiddle_91 (by decide) ?_
  exact W.vret hx hb hr (fun t ht hW => ⟨⟨(), rfl, trivial, ⟨x0_9z1, x4_0z1, y5z1, by show va_P D classes _ t.heap; rw [ht]; exact hP, hD⟩⟩, hS.F ht⟩) hS.2.2 d_M_performMiddle_109
theorem v_M_performMiddle_s10 {R : Room} {s : State} {args : Array Value} {own : String} {index : Nat} (hk : ∀ w ∈ tb, w.before args s = true) (hl : Cond.methodLink own index y_M_performMiddle ∈ tb) (hR : 3 + 1 ≤ R.frames ∧ 8 + (1 + 11) + 66 ≤ R.locals) : CallW R s args own "SignMachine$Machine" index y_M_performMiddle b_M_performMiddle 1 none (.code y_M_performMiddle b_M_performMiddle 1 none :: tb) ({ frames := 3, cells := 0, slots := 0, locals := 66 }) 0 0 0 := mk_v 0 hk k_424 hl k_423 k_24 k_117 rfl rfl h_M_performMiddle hR
set_option maxHeartbeats 4000000 in
set_option maxRecDepth 100000 in
theorem c_M_perform_s10 (l : Launch) (K : CK) (D : va_G) (cI cJ cZ cB : ClassId) (p0 p1 p2 p3 p4 p5 : Nat) (sz : Nat) (x0_4 : Bool) (x0_5 : Int32) (x0_6 : Int32) (x0_7 : Int32) (x0_8 : Int32) (x0_10 : Int32) (x0_11 : Int32) (x0_12 : Int32) (x0_13 : Int32) (y1 : Nat → Int32) (y2 : Nat → Int32) (x3_0 : Int32) (x4_0 : Int32) (y5 : Nat → Int32)   (hy1 : ¬ x0_10 = (0 : Int32)) : Met l y_M_perform (.code y_M_perform b_M_perform 1 none :: tb) ({ frames := 4, cells := 0, slots := 0, locals := 86 }) (pMC K D cI cJ cZ cB (wS58 cI cJ cZ cB p0 p1 p2 p3 p4 p5 x0_4 x0_5 x0_6 x0_7 x0_8 (37 : Int32) x0_10 x0_11 x0_12 x0_13 y1 y2 x3_0 x4_0 y5) sz [.ref p0]) (va_Qv (fun (_ : Unit) => True) (fun _ t => (∃ u_x0_9 : Int32, ∃ u_x4_0 : Int32, ∃ u_y5 : Nat → Int32, va_P D classes (wS58 cI cJ cZ cB p0 p1 p2 p3 p4 p5 x0_4 x0_5 x0_6 x0_7 x0_8 u_x0_9 x0_10 x0_11 x0_12 x0_13 y1 y2 x3_0 u_x4_0 u_y5) t.heap ∧ va_D (va_A (wS58 cI cJ cZ cB p0 p1 p2 p3 p4 p5 x0_4 x0_5 x0_6 x0_7 x0_8 (37 : Int32) x0_10 x0_11 x0_12 x0_13 y1 y2 x3_0 x4_0 y5) sz) (wS58 cI cJ cZ cB p0 p1 p2 p3 p4 p5 x0_4 x0_5 x0_6 x0_7 x0_8 u_x0_9 x0_10 x0_11 x0_12 x0_13 y1 y2 x3_0 u_x4_0 u_y5))) (va_A (wS58 cI cJ cZ cB p0 p1 p2 p3 p4 p5 x0_4 x0_5 x0_6 x0_7 x0_8 (37 : Int32) x0_10 x0_11 x0_12 x0_13 y1 y2 x3_0 x4_0 y5) sz)) 0 0 (va_A (wS58 cI cJ cZ cB p0 p1 p2 p3 p4 p5 x0_4 x0_5 x0_6 x0_7 x0_8 (37 : Int32) x0_10 x0_11 x0_12 x0_13 y1 y2 x3_0 x4_0 y5) sz) := by
  refine Met.ofW (cc := b_M_perform) (maxL := 1) (ret := none) (by decide) rfl ?_
  intro p e s m args below meth c s₁ B hml hv
  obtain ⟨rfl, hsz, hK, hP, hD0, hC⟩ := hv
  subst hsz
  have hD := hD0.self (sz := s.heap.size)
  generalize hAe : va_A (wS58 cI cJ cZ cB p0 p1 p2 p3 p4 p5 x0_4 x0_5 x0_6 x0_7 x0_8 (37 : Int32) x0_10 x0_11 x0_12 x0_13 y1 y2 x3_0 x4_0 y5) s.heap.size = A at hD hC ⊢
  have hA : ∀ q : Nat, s.heap.size ≤ q → A q := fun q h => by rw [← hAe]; exact Or.inr h
  clear hAe hD0
  have hS : va_S A s.heap s.heap [] := va_S.rf
  have hx := B.exec
  have hb := B.bytes
  have hr := B.returns
  have hts := atoms_spec (ws := .code y_M_perform b_M_perform 1 none :: tb) B.pre
  have hk : ∀ w ∈ tb, w.before [.ref p0].toArray s = true := fun w h => hts w (List.mem_cons_of_mem _ h)
  have hown : s.vm.findClass "SignMachine$Machine" = some m.cls := findClass_of_methodNamed B.named
  have hlocks := B.notSynchronized
  have hl := lv_entry ([.ref p0]) (n := 1) (Nat.le_of_ble_eq_true rfl)
  rw [lg_entry_eq]
  generalize (lg_sl ([.ref p0]) ++ List.replicate (1 - (lg_sl ([.ref p0])).length) Slot.unset).toArray = ls at hl ⊢
  have hl : lv_has ls 1 [(0, .ref p0)] := hl
  refine lv_aload_n hx hb d_M_perform_0 rfl (lv_at hl 0 rfl) ?_
  refine va_get (D := D) (ci := 1) (v := .int (37 : Int32)) (C := "SignMachine$Machine") (T := F_M) (N := 14) hx hb hk fi_M hown hK.1 hP 0 rfl rfl 9 (by decide) (hk _ k_176) (fun _ h9 => h9) rfl d_M_perform_1 ?_
  refine lv_iconst (v := 3) hx hb d_M_perform_4 (by decide) ?_
  refine lv_ishr hx hb d_M_perform_5 ?_
  refine tpi (y := (4 : Int32)) (by decide) ?_
  refine lv_tableIn (off := 106) (tgt := 112) hx hb d_M_perform_6 (by decide) (by decide) rfl (by decide) ?_
  refine lv_aload_n hx hb d_M_perform_112 rfl (lv_at hl 0 rfl) ?_
  refine kn_v (va_runV (C := "SignMachine$Machine") (As := []) (rest := []) ⟨hx, hb, hml, hown, hk⟩ (c_M_performMiddle_s10 l K D cI cJ cZ cB p0 p1 p2 p3 p4 p5 s.heap.size x0_4 x0_5 x0_6 x0_7 x0_8 x0_10 x0_11 x0_12 x0_13 y1 y2 x3_0 x4_0 y5   hy1) (v_M_performMiddle_s10 hk k_421 ⟨Nat.le_of_ble_eq_true rfl, Nat.le_of_ble_eq_true rfl⟩) (pMC_v hK hP hD hC hS hA (ci := 1) (q0 := 0) rfl rfl rfl) rfl rfl hl.1 rfl (lv_room (Nat.le_of_ble_eq_true rfl)) d_M_perform_113 ⟨by decide, by decide⟩) hS hA hD (fun u t H locs ht hB hFr hS => ?_)
  obtain ⟨x0_9z1, x4_0z1, y5z1, hP, hD⟩ := hB
  rw [ht] at hP
  have hD := dwk hD hFr
  clear ht hFr
  have hP : va_P D classes (wS58 cI cJ cZ cB p0 p1 p2 p3 p4 p5 x0_4 x0_5 x0_6 x0_7 x0_8 x0_9z1 x0_10 x0_11 x0_12 x0_13 y1 y2 x3_0 x4_0z1 y5z1) H := hP
  have hD : va_D A (wS58 cI cJ cZ cB p0 p1 p2 p3 p4 p5 x0_4 x0_5 x0_6 x0_7 x0_8 x0_9z1 x0_10 x0_11 x0_12 x0_13 y1 y2 x3_0 x4_0z1 y5z1) := hD
  refine lv_goto (tgt := 173) hx hb d_M_perform_116 (by decide) ?_
  exact W.vret hx hb hr (fun t ht hW => ⟨⟨(), rfl, trivial, ⟨x0_9z1, x4_0z1, y5z1, by show va_P D classes _ t.heap; rw [ht]; exact hP, hD⟩⟩, hS.F ht⟩) hS.2.2 d_M_perform_173
theorem v_M_perform_s10 {R : Room} {s : State} {args : Array Value} {own : String} {index : Nat} (hk : ∀ w ∈ tb, w.before args s = true) (hl : Cond.methodLink own index y_M_perform ∈ tb) (hR : 4 + 1 ≤ R.frames ∧ 8 + (1 + 11) + 86 ≤ R.locals) : CallW R s args own "SignMachine$Machine" index y_M_perform b_M_perform 1 none (.code y_M_perform b_M_perform 1 none :: tb) ({ frames := 4, cells := 0, slots := 0, locals := 86 }) 0 0 0 := mk_v 0 hk k_349 hl k_348 k_11 k_117 rfl rfl h_M_perform hR
set_option maxHeartbeats 4000000 in
set_option maxRecDepth 100000 in
theorem c_M_execute_s10 (l : Launch) (K : CK) (D : va_G) (cI cJ cZ cB : ClassId) (p0 p1 p2 p3 p4 p5 : Nat) (sz : Nat) (x0_4 : Bool) (x0_5 : Int32) (x0_6 : Int32) (x0_7 : Int32) (x0_8 : Int32) (x0_9 : Int32) (x0_10 : Int32) (x0_11 : Int32) (x0_12 : Int32) (x0_13 : Int32) (y1 : Nat → Int32) (y2 : Nat → Int32) (x3_0 : Int32) (x4_0 : Int32) (y5 : Nat → Int32)   (hy1 : ((f_W_size (f_mw y1 x0_7)) &&& (63 : Int32)) = (37 : Int32)) (hy2 : ¬ (((f_W_size (f_mw y1 x0_7)) >>> ((6 : Int32) &&& (31 : Int32))) &&& (63 : Int32)) = (0 : Int32)) : Met l y_M_execute (.code y_M_execute b_M_execute 2 (some .int) :: tb) ({ frames := 5, cells := 0, slots := 0, locals := 106 }) (pMC K D cI cJ cZ cB (wS58 cI cJ cZ cB p0 p1 p2 p3 p4 p5 x0_4 x0_5 x0_6 x0_7 x0_8 x0_9 x0_10 x0_11 x0_12 x0_13 y1 y2 x3_0 x4_0 y5) sz [.ref p0]) (va_Qi (fun r (_ : Unit) => True) (fun _ t => (∃ u_x0_6 : Int32, ∃ u_x0_7 : Int32, ∃ u_x0_9 : Int32, ∃ u_x0_10 : Int32, ∃ u_x0_11 : Int32, ∃ u_x0_12 : Int32, ∃ u_x0_13 : Int32, ∃ u_x4_0 : Int32, ∃ u_y5 : Nat → Int32, va_P D classes (wS58 cI cJ cZ cB p0 p1 p2 p3 p4 p5 x0_4 x0_5 u_x0_6 u_x0_7 x0_8 u_x0_9 u_x0_10 u_x0_11 u_x0_12 u_x0_13 y1 y2 x3_0 u_x4_0 u_y5) t.heap ∧ va_D (va_A (wS58 cI cJ cZ cB p0 p1 p2 p3 p4 p5 x0_4 x0_5 x0_6 x0_7 x0_8 x0_9 x0_10 x0_11 x0_12 x0_13 y1 y2 x3_0 x4_0 y5) sz) (wS58 cI cJ cZ cB p0 p1 p2 p3 p4 p5 x0_4 x0_5 u_x0_6 u_x0_7 x0_8 u_x0_9 u_x0_10 u_x0_11 u_x0_12 u_x0_13 y1 y2 x3_0 u_x4_0 u_y5))) (va_A (wS58 cI cJ cZ cB p0 p1 p2 p3 p4 p5 x0_4 x0_5 x0_6 x0_7 x0_8 x0_9 x0_10 x0_11 x0_12 x0_13 y1 y2 x3_0 x4_0 y5) sz)) 0 0 (va_A (wS58 cI cJ cZ cB p0 p1 p2 p3 p4 p5 x0_4 x0_5 x0_6 x0_7 x0_8 x0_9 x0_10 x0_11 x0_12 x0_13 y1 y2 x3_0 x4_0 y5) sz) := by
  refine Met.ofW (cc := b_M_execute) (maxL := 2) (ret := (some .int)) (by decide) rfl ?_
  intro p e s m args below meth c s₁ B hml hv
  obtain ⟨rfl, hsz, hK, hP, hD0, hC⟩ := hv
  subst hsz
  have hD := hD0.self (sz := s.heap.size)
  generalize hAe : va_A (wS58 cI cJ cZ cB p0 p1 p2 p3 p4 p5 x0_4 x0_5 x0_6 x0_7 x0_8 x0_9 x0_10 x0_11 x0_12 x0_13 y1 y2 x3_0 x4_0 y5) s.heap.size = A at hD hC ⊢
  have hA : ∀ q : Nat, s.heap.size ≤ q → A q := fun q h => by rw [← hAe]; exact Or.inr h
  clear hAe hD0
  have hS : va_S A s.heap s.heap [] := va_S.rf
  have hx := B.exec
  have hb := B.bytes
  have hr := B.returns
  have hts := atoms_spec (ws := .code y_M_execute b_M_execute 2 (some .int) :: tb) B.pre
  have hk : ∀ w ∈ tb, w.before [.ref p0].toArray s = true := fun w h => hts w (List.mem_cons_of_mem _ h)
  have hown : s.vm.findClass "SignMachine$Machine" = some m.cls := findClass_of_methodNamed B.named
  have hlocks := B.notSynchronized
  have hl := lv_entry ([.ref p0]) (n := 2) (Nat.le_of_ble_eq_true rfl)
  rw [lg_entry_eq]
  generalize (lg_sl ([.ref p0]) ++ List.replicate (2 - (lg_sl ([.ref p0])).length) Slot.unset).toArray = ls at hl ⊢
  have hl : lv_has ls 2 [(0, .ref p0)] := hl
  refine lv_aload_n hx hb d_M_execute_0 rfl (lv_at hl 0 rfl) ?_
  refine va_get (D := D) (ci := 1) (v := .int x0_7) (C := "SignMachine$Machine") (T := F_M) (N := 14) hx hb hk fi_M hown hK.1 hP 0 rfl rfl 7 (by decide) (hk _ k_174) (fun _ h9 => h9) rfl d_M_execute_1 ?_
  refine cs_i (W.runS (As := [.int x0_7]) (rest := []) ⟨hx, hb, hml, hown, hk⟩ (c_M_isAddress l x0_7) (s_M_isAddress hk k_262 ⟨Nat.le_of_ble_eq_true rfl, Nat.le_of_ble_eq_true rfl⟩) ⟨fun a U g mk q => q, fun U hU hW => ⟨rfl, trivial⟩⟩ rfl rfl hl.1 rfl (lv_room (Nat.le_of_ble_eq_true rfl)) d_M_execute_4 ⟨Nat.le_of_ble_eq_true rfl, Nat.le_of_ble_eq_true rfl⟩) ?_
  obtain ⟨z1, hz1⟩ : ∃ y : Bool, y = (f_M_isAddress x0_7) := ⟨_, rfl⟩
  rw [← hz1]
  refine lv_if_ne (tgt := 12) hx hb d_M_execute_7 (by decide) (fun c2 => ?_) (fun c2 => ?_)
  · refine lv_aload_n hx hb d_M_execute_12 rfl (lv_at hl 0 rfl) ?_
    refine lv_aload_n hx hb d_M_execute_13 rfl (lv_at hl 0 rfl) ?_
    refine lv_aload_n hx hb d_M_execute_14 rfl (lv_at hl 0 rfl) ?_
    refine va_get (D := D) (ci := 1) (v := .int x0_7) (C := "SignMachine$Machine") (T := F_M) (N := 14) hx hb hk fi_M hown hK.1 hP 0 rfl rfl 7 (by decide) (hk _ k_174) (fun _ h9 => h9) rfl d_M_execute_15 ?_
    refine sn_i (va_runV (C := "SignMachine$Machine") (As := [.int x0_7]) (rest := [.ref p0]) ⟨hx, hb, hml, hown, hk⟩ (c_M_wordAt_s3 l K D cI cJ cZ cB p0 p1 p2 p3 p4 p5 s.heap.size x0_4 x0_5 x0_6 x0_7 x0_8 x0_9 x0_10 x0_11 x0_12 x0_13 y1 y2 x3_0 x4_0 y5  x0_7 ) (v_M_wordAt_s3 hk k_263 ⟨Nat.le_of_ble_eq_true rfl, Nat.le_of_ble_eq_true rfl⟩) (pMC_v hK hP hD hC hS hA (ci := 1) (q0 := 0) rfl rfl rfl) rfl rfl hl.1 rfl (lv_room (Nat.le_of_ble_eq_true rfl)) d_M_execute_18 ⟨by decide, by decide⟩) hS hA hD (fun rz3 u t H locs hr0 ht hB hFr hS => ?_)
    have hrz3 := hr0
    obtain ⟨hP, hD⟩ := hB
    rw [ht] at hP
    have hD := dwk hD hFr
    clear ht hFr
    have hP : va_P D classes (wS58 cI cJ cZ cB p0 p1 p2 p3 p4 p5 x0_4 x0_5 x0_6 x0_7 x0_8 x0_9 x0_10 x0_11 x0_12 x0_13 y1 y2 x3_0 x4_0 y5) H := hP
    have hD : va_D A (wS58 cI cJ cZ cB p0 p1 p2 p3 p4 p5 x0_4 x0_5 x0_6 x0_7 x0_8 x0_9 x0_10 x0_11 x0_12 x0_13 y1 y2 x3_0 x4_0 y5) := hD
    refine kn_v (va_runV (C := "SignMachine$Machine") (As := [.int rz3]) (rest := []) ⟨hx, hb, hml, hown, hk⟩ (c_M_decode_s4 l K D cI cJ cZ cB p0 p1 p2 p3 p4 p5 H.size x0_4 x0_5 x0_6 x0_7 x0_8 x0_9 x0_10 x0_11 x0_12 x0_13 y1 y2 x3_0 x4_0 y5  rz3 ) (v_M_decode_s4 hk k_264 ⟨Nat.le_of_ble_eq_true rfl, Nat.le_of_ble_eq_true rfl⟩) (pMC_v hK hP hD hC hS hA (ci := 1) (q0 := 0) rfl rfl rfl) rfl rfl hl.1 rfl (lv_room (Nat.le_of_ble_eq_true rfl)) d_M_execute_21 ⟨by decide, by decide⟩) hS hA hD (fun u t H locs ht hB hFr hS => ?_)
    obtain ⟨x0_9z4, x0_10z4, x0_11z4, x0_12z4, x0_13z4, ex0z4, ex1z4, hP, hD⟩ := hB
    rw [hrz3] at ex0z4 ex1z4
    have hc1 : x0_9z4 = (37 : Int32) := by rw [ex0z4]; exact hy1
    have hc2 : ¬ x0_10z4 = (0 : Int32) := by rw [ex1z4]; exact hy2
    subst hc1
    rw [ht] at hP
    have hD := dwk hD hFr
    clear ht hFr
    have hP : va_P D classes (wS58 cI cJ cZ cB p0 p1 p2 p3 p4 p5 x0_4 x0_5 x0_6 x0_7 x0_8 (37 : Int32) x0_10z4 x0_11z4 x0_12z4 x0_13z4 y1 y2 x3_0 x4_0 y5) H := hP
    have hD : va_D A (wS58 cI cJ cZ cB p0 p1 p2 p3 p4 p5 x0_4 x0_5 x0_6 x0_7 x0_8 (37 : Int32) x0_10z4 x0_11z4 x0_12z4 x0_13z4 y1 y2 x3_0 x4_0 y5) := hD
    refine lv_aload_n hx hb d_M_execute_24 rfl (lv_at hl 0 rfl) ?_
    refine sn_i (va_runV (C := "SignMachine$Machine") (As := []) (rest := []) ⟨hx, hb, hml, hown, hk⟩ (c_M_reasonAgainst_s4 l K D cI cJ cZ cB p0 p1 p2 p3 p4 p5 H.size x0_4 x0_5 x0_6 x0_7 x0_8 (37 : Int32) x0_10z4 x0_11z4 x0_12z4 x0_13z4 y1 y2 x3_0 x4_0 y5   ) (v_M_reasonAgainst_s4 hk k_280 ⟨Nat.le_of_ble_eq_true rfl, Nat.le_of_ble_eq_true rfl⟩) (pMC_v hK hP hD hC hS hA (ci := 1) (q0 := 0) rfl rfl rfl) rfl rfl hl.1 rfl (lv_room (Nat.le_of_ble_eq_true rfl)) d_M_execute_25 ⟨by decide, by decide⟩) hS hA hD (fun rz5 u t H locs hr0 ht hB hFr hS => ?_)
    obtain ⟨hP, hD⟩ := hB
    rw [ht] at hP
    have hD := dwk hD hFr
    clear ht hFr
    have hP : va_P D classes (wS58 cI cJ cZ cB p0 p1 p2 p3 p4 p5 x0_4 x0_5 x0_6 x0_7 x0_8 (37 : Int32) x0_10z4 x0_11z4 x0_12z4 x0_13z4 y1 y2 x3_0 x4_0 y5) H := hP
    have hD : va_D A (wS58 cI cJ cZ cB p0 p1 p2 p3 p4 p5 x0_4 x0_5 x0_6 x0_7 x0_8 (37 : Int32) x0_10z4 x0_11z4 x0_12z4 x0_13z4 y1 y2 x3_0 x4_0 y5) := hD
    refine lv_istore_n (lv' := [(1, .int rz5), (0, .ref p0)]) hx hb d_M_execute_28 rfl hl (by decide) rfl (fun ls hl => ?_)
    refine lv_iload_n hx hb d_M_execute_29 rfl (lv_at hl 0 rfl) ?_
    refine lv_if_eq (tgt := 35) hx hb d_M_execute_30 (by decide) (fun c6 => ?_) (fun c6 => ?_)
    · refine lv_aload_n hx hb d_M_execute_35 rfl (lv_at hl 1 rfl) ?_
      refine lv_aload_n hx hb d_M_execute_36 rfl (lv_at hl 1 rfl) ?_
      refine va_get (D := D) (ci := 1) (v := .int x0_6) (C := "SignMachine$Machine") (T := F_M) (N := 14) hx hb hk fi_M hown hK.1 hP 0 rfl rfl 6 (by decide) (hk _ k_172) (fun _ h9 => h9) rfl d_M_execute_37 ?_
      refine lv_aload_n hx hb d_M_execute_40 rfl (lv_at hl 1 rfl) ?_
      refine sn_i (va_runV (C := "SignMachine$Machine") (As := []) (rest := [.int x0_6, .ref p0]) ⟨hx, hb, hml, hown, hk⟩ (c_M_duration_s4 l K D cI cJ cZ cB p0 p1 p2 p3 p4 p5 H.size x0_4 x0_5 x0_6 x0_7 x0_8 (37 : Int32) x0_10z4 x0_11z4 x0_12z4 x0_13z4 y1 y2 x3_0 x4_0 y5   ) (v_M_duration_s4 hk k_341 ⟨Nat.le_of_ble_eq_true rfl, Nat.le_of_ble_eq_true rfl⟩) (pMC_v hK hP hD hC hS hA (ci := 1) (q0 := 0) rfl rfl rfl) rfl rfl hl.1 rfl (lv_room (Nat.le_of_ble_eq_true rfl)) d_M_execute_41 ⟨by decide, by decide⟩) hS hA hD (fun rz7 u t H locs hr0 ht hB hFr hS => ?_)
      obtain ⟨hP, hD⟩ := hB
      rw [ht] at hP
      have hD := dwk hD hFr
      clear ht hFr
      have hP : va_P D classes (wS58 cI cJ cZ cB p0 p1 p2 p3 p4 p5 x0_4 x0_5 x0_6 x0_7 x0_8 (37 : Int32) x0_10z4 x0_11z4 x0_12z4 x0_13z4 y1 y2 x3_0 x4_0 y5) H := hP
      have hD : va_D A (wS58 cI cJ cZ cB p0 p1 p2 p3 p4 p5 x0_4 x0_5 x0_6 x0_7 x0_8 (37 : Int32) x0_10z4 x0_11z4 x0_12z4 x0_13z4 y1 y2 x3_0 x4_0 y5) := hD
      refine lv_iadd hx hb d_M_execute_44 ?_
      refine lv_topi (fun v8 hv8 => ?_)
      refine lv_ldc (v := 1073741823) hx hb hown (hk _ k_345) d_M_execute_45 ?_
      refine lv_iand hx hb d_M_execute_47 ?_
      refine lv_topi (fun v9 hv9 => ?_)
      refine va_put (D := D) (ci := 1) (v := .int v9) (ty := .int) (C := "SignMachine$Machine") (T := F_M) (N := 14) hx hb hk fi_M ft_M ft_M_ok fn_M hown hK.1 hP hD hS 0 rfl rfl 6 (by decide) (hk _ k_172) (fun _ h9 => h9) rfl (by decide +kernel) rfl rfl (Nat.le_of_ble_eq_true rfl) d_M_execute_48 (fun H locs hP hD hS => ?_)
      have hP : va_P D classes (wS58 cI cJ cZ cB p0 p1 p2 p3 p4 p5 x0_4 x0_5 v9 x0_7 x0_8 (37 : Int32) x0_10z4 x0_11z4 x0_12z4 x0_13z4 y1 y2 x3_0 x4_0 y5) H := hP
      have hD : va_D A (wS58 cI cJ cZ cB p0 p1 p2 p3 p4 p5 x0_4 x0_5 v9 x0_7 x0_8 (37 : Int32) x0_10z4 x0_11z4 x0_12z4 x0_13z4 y1 y2 x3_0 x4_0 y5) := hD
      refine lv_aload_n hx hb d_M_execute_51 rfl (lv_at hl 1 rfl) ?_
      refine lv_dup hx hb d_M_execute_52 rfl ?_
      refine va_get (D := D) (ci := 1) (v := .int x0_7) (C := "SignMachine$Machine") (T := F_M) (N := 14) hx hb hk fi_M hown hK.1 hP 0 rfl rfl 7 (by decide) (hk _ k_174) (fun _ h9 => h9) rfl d_M_execute_53 ?_
      refine lv_iconst (v := 1) hx hb d_M_execute_56 (by decide) ?_
      refine lv_iadd hx hb d_M_execute_57 ?_
      refine lv_topi (fun v10 hv10 => ?_)
      refine va_put (D := D) (ci := 1) (v := .int v10) (ty := .int) (C := "SignMachine$Machine") (T := F_M) (N := 14) hx hb hk fi_M ft_M ft_M_ok fn_M hown hK.1 hP hD hS 0 rfl rfl 7 (by decide) (hk _ k_174) (fun _ h9 => h9) rfl (by decide +kernel) rfl rfl (Nat.le_of_ble_eq_true rfl) d_M_execute_58 (fun H locs hP hD hS => ?_)
      have hP : va_P D classes (wS58 cI cJ cZ cB p0 p1 p2 p3 p4 p5 x0_4 x0_5 v9 v10 x0_8 (37 : Int32) x0_10z4 x0_11z4 x0_12z4 x0_13z4 y1 y2 x3_0 x4_0 y5) H := hP
      have hD : va_D A (wS58 cI cJ cZ cB p0 p1 p2 p3 p4 p5 x0_4 x0_5 v9 v10 x0_8 (37 : Int32) x0_10z4 x0_11z4 x0_12z4 x0_13z4 y1 y2 x3_0 x4_0 y5) := hD
      refine lv_aload_n hx hb d_M_execute_61 rfl (lv_at hl 1 rfl) ?_
      refine kn_v (va_runV (C := "SignMachine$Machine") (As := []) (rest := []) ⟨hx, hb, hml, hown, hk⟩ (c_M_perform_s10 l K D cI cJ cZ cB p0 p1 p2 p3 p4 p5 H.size x0_4 x0_5 v9 v10 x0_8 x0_10z4 x0_11z4 x0_12z4 x0_13z4 y1 y2 x3_0 x4_0 y5   hc2) (v_M_perform_s10 hk k_346 ⟨Nat.le_of_ble_eq_true rfl, Nat.le_of_ble_eq_true rfl⟩) (pMC_v hK hP hD hC hS hA (ci := 1) (q0 := 0) rfl rfl rfl) rfl rfl hl.1 rfl (lv_room (Nat.le_of_ble_eq_true rfl)) d_M_execute_62 ⟨by decide, by decide⟩) hS hA hD (fun u t H locs ht hB hFr hS => ?_)
      obtain ⟨x0_9z11, x4_0z11, y5z11, hP, hD⟩ := hB
      rw [ht] at hP
      have hD := dwk hD hFr
      clear ht hFr
      have hP : va_P D classes (wS58 cI cJ cZ cB p0 p1 p2 p3 p4 p5 x0_4 x0_5 v9 v10 x0_8 x0_9z11 x0_10z4 x0_11z4 x0_12z4 x0_13z4 y1 y2 x3_0 x4_0z11 y5z11) H := hP
      have hD : va_D A (wS58 cI cJ cZ cB p0 p1 p2 p3 p4 p5 x0_4 x0_5 v9 v10 x0_8 x0_9z11 x0_10z4 x0_11z4 x0_12z4 x0_13z4 y1 y2 x3_0 x4_0z11 y5z11) := hD
      refine lv_aload_n hx hb d_M_execute_65 rfl (lv_at hl 1 rfl) ?_
      refine va_get (D := D) (ci := 1) (v := .int x0_9z11) (C := "SignMachine$Machine") (T := F_M) (N := 14) hx hb hk fi_M hown hK.1 hP 0 rfl rfl 9 (by decide) (hk _ k_176) (fun _ h9 => h9) rfl d_M_execute_66 ?_
      refine lv_iconst (v := 5) hx hb d_M_execute_69 (by decide) ?_
      refine lv_icmp_ne (tgt := 85) hx hb d_M_execute_70 (by decide) (fun c12 => ?_) (fun c12 => ?_)
      · refine lv_iconst (v := 0) hx hb d_M_execute_85 (by decide) ?_
        exact W.iret (v := (0 : Int32)) hx hb hr (fun t ht hW => ⟨⟨(0 : Int32), (), rfl, trivial, ⟨v9, v10, x0_9z11, x0_10z4, x0_11z4, x0_12z4, x0_13z4, x4_0z11, y5z11, by show va_P D classes _ t.heap; rw [ht]; exact hP, hD⟩⟩, hS.F ht⟩) hS.2.2 d_M_execute_86
      · refine lv_aload_n hx hb d_M_execute_73 rfl (lv_at hl 1 rfl) ?_
        refine va_get (D := D) (ci := 1) (v := .int x0_10z4) (C := "SignMachine$Machine") (T := F_M) (N := 14) hx hb hk fi_M hown hK.1 hP 0 rfl rfl 10 (by decide) (hk _ k_177) (fun _ h9 => h9) rfl d_M_execute_74 ?_
        refine lv_iconst (v := 2) hx hb d_M_execute_77 (by decide) ?_
        refine lv_icmp_ne (tgt := 85) hx hb d_M_execute_78 (by decide) (fun c13 => ?_) (fun c13 => ?_)
        · refine lv_iconst (v := 0) hx hb d_M_execute_85 (by decide) ?_
          exact W.iret (v := (0 : Int32)) hx hb hr (fun t ht hW => ⟨⟨(0 : Int32), (), rfl, trivial, ⟨v9, v10, x0_9z11, x0_10z4, x0_11z4, x0_12z4, x0_13z4, x4_0z11, y5z11, by show va_P D classes _ t.heap; rw [ht]; exact hP, hD⟩⟩, hS.F ht⟩) hS.2.2 d_M_execute_86
        · refine lv_iconst (v := 1) hx hb d_M_execute_81 (by decide) ?_
          refine lv_goto (tgt := 86) hx hb d_M_execute_82 (by decide) ?_
          exact W.iret (v := (1 : Int32)) hx hb hr (fun t ht hW => ⟨⟨(1 : Int32), (), rfl, trivial, ⟨v9, v10, x0_9z11, x0_10z4, x0_11z4, x0_12z4, x0_13z4, x4_0z11, y5z11, by show va_P D classes _ t.heap; rw [ht]; exact hP, hD⟩⟩, hS.F ht⟩) hS.2.2 d_M_execute_86
    · refine lv_iload_n hx hb d_M_execute_33 rfl (lv_at hl 0 rfl) ?_
      exact W.iret (v := rz5) hx hb hr (fun t ht hW => ⟨⟨rz5, (), rfl, trivial, ⟨x0_6, x0_7, (37 : Int32), x0_10z4, x0_11z4, x0_12z4, x0_13z4, x4_0, y5, by show va_P D classes _ t.heap; rw [ht]; exact hP, hD⟩⟩, hS.F ht⟩) hS.2.2 d_M_execute_34
  · refine lv_iconst (v := 3) hx hb d_M_execute_10 (by decide) ?_
    exact W.iret (v := (3 : Int32)) hx hb hr (fun t ht hW => ⟨⟨(3 : Int32), (), rfl, trivial, ⟨x0_6, x0_7, x0_9, x0_10, x0_11, x0_12, x0_13, x4_0, y5, by show va_P D classes _ t.heap; rw [ht]; exact hP, hD⟩⟩, hS.F ht⟩) hS.2.2 d_M_execute_11
theorem v_M_execute_s10 {R : Room} {s : State} {args : Array Value} {own : String} {index : Nat} (hk : ∀ w ∈ tb, w.before args s = true) (hl : Cond.methodLink own index y_M_execute ∈ tb) (hR : 5 + 1 ≤ R.frames ∧ 8 + (2 + 11) + 106 ≤ R.locals) : CallW R s args own "SignMachine$Machine" index y_M_execute b_M_execute 2 (some .int) (.code y_M_execute b_M_execute 2 (some .int) :: tb) ({ frames := 5, cells := 0, slots := 0, locals := 106 }) 0 0 0 := mk_v 0 hk k_261 hl k_259 k_260 k_117 rfl rfl h_M_execute hR
set_option maxHeartbeats 4000000 in
set_option maxRecDepth 100000 in
theorem c_M_putRegister_s5 (l : Launch) (K : CK) (D : va_G) (cI cJ cZ cB : ClassId) (p0 p1 p2 p3 p4 p5 : Nat) (sz : Nat) (x0_4 : Bool) (x0_5 : Int32) (x0_6 : Int32) (x0_7 : Int32) (x0_8 : Int32) (x0_9 : Int32) (x0_10 : Int32) (x0_11 : Int32) (x0_12 : Int32) (x0_13 : Int32) (y1 : Nat → Int32) (y2 : Nat → Int32) (x3_0 : Int32) (x4_0 : Int32) (y5 : Nat → Int32)  (a1 : Int32) (a2 : Int32) : Met l y_M_putRegister (.code y_M_putRegister b_M_putRegister 3 none :: tb) ({ frames := 0, cells := 0, slots := 0, locals := 0 }) (pMC K D cI cJ cZ cB (wS58 cI cJ cZ cB p0 p1 p2 p3 p4 p5 x0_4 x0_5 x0_6 x0_7 x0_8 x0_9 x0_10 x0_11 x0_12 x0_13 y1 y2 x3_0 x4_0 y5) sz [.ref p0, .int a1, .int a2]) (va_Qv (fun (_ : Unit) => True) (fun _ t => (∃ u_y2 : Nat → Int32, va_P D classes (wS58 cI cJ cZ cB p0 p1 p2 p3 p4 p5 x0_4 x0_5 x0_6 x0_7 x0_8 x0_9 x0_10 x0_11 x0_12 x0_13 y1 u_y2 x3_0 x4_0 y5) t.heap ∧ va_D (va_A (wS58 cI cJ cZ cB p0 p1 p2 p3 p4 p5 x0_4 x0_5 x0_6 x0_7 x0_8 x0_9 x0_10 x0_11 x0_12 x0_13 y1 y2 x3_0 x4_0 y5) sz) (wS58 cI cJ cZ cB p0 p1 p2 p3 p4 p5 x0_4 x0_5 x0_6 x0_7 x0_8 x0_9 x0_10 x0_11 x0_12 x0_13 y1 u_y2 x3_0 x4_0 y5))) (va_A (wS58 cI cJ cZ cB p0 p1 p2 p3 p4 p5 x0_4 x0_5 x0_6 x0_7 x0_8 x0_9 x0_10 x0_11 x0_12 x0_13 y1 y2 x3_0 x4_0 y5) sz)) 0 0 (va_A (wS58 cI cJ cZ cB p0 p1 p2 p3 p4 p5 x0_4 x0_5 x0_6 x0_7 x0_8 x0_9 x0_10 x0_11 x0_12 x0_13 y1 y2 x3_0 x4_0 y5) sz) := by
  refine Met.ofW (cc := b_M_putRegister) (maxL := 3) (ret := none) (by decide) rfl ?_
  intro p e s m args below meth c s₁ B hml hv
  obtain ⟨rfl, hsz, hK, hP, hD0, hC⟩ := hv
  subst hsz
  have hD := hD0.self (sz := s.heap.size)
  generalize hAe : va_A (wS58 cI cJ cZ cB p0 p1 p2 p3 p4 p5 x0_4 x0_5 x0_6 x0_7 x0_8 x0_9 x0_10 x0_11 x0_12 x0_13 y1 y2 x3_0 x4_0 y5) s.heap.size = A at hD hC ⊢
  have hA : ∀ q : Nat, s.heap.size ≤ q → A q := fun q h => by rw [← hAe]; exact Or.inr h
  clear hAe hD0
  have hS : va_S A s.heap s.heap [] := va_S.rf
  have hx := B.exec
  have hb := B.bytes
  have hr := B.returns
  have hts := atoms_spec (ws := .code y_M_putRegister b_M_putRegister 3 none :: tb) B.pre
  have hk : ∀ w ∈ tb, w.before [.ref p0, .int a1, .int a2].toArray s = true := fun w h => hts w (List.mem_cons_of_mem _ h)
  have hown : s.vm.findClass "SignMachine$Machine" = some m.cls := findClass_of_methodNamed B.named
  have hlocks := B.notSynchronized
  have hl := lv_entry ([.ref p0, .int a1, .int a2]) (n := 3) (Nat.le_of_ble_eq_true rfl)
  rw [lg_entry_eq]
  generalize (lg_sl ([.ref p0, .int a1, .int a2]) ++ List.replicate (3 - (lg_sl ([.ref p0, .int a1, .int a2])).length) Slot.unset).toArray = ls at hl ⊢
  have hl : lv_has ls 3 [(0, .ref p0), (1, .int a1), (2, .int a2)] := hl
  refine lv_iload_n hx hb d_M_putRegister_0 rfl (lv_at hl 1 rfl) ?_
  refine lv_if_lt (tgt := 17) hx hb d_M_putRegister_1 (by decide) (fun c1 => ?_) (fun c1 => ?_)
  · exact W.vret hx hb hr (fun t ht hW => ⟨⟨(), rfl, trivial, ⟨y2, by show va_P D classes _ t.heap; rw [ht]; exact hP, hD⟩⟩, hS.F ht⟩) hS.2.2 d_M_putRegister_17
  · refine lv_iload_n hx hb d_M_putRegister_4 rfl (lv_at hl 1 rfl) ?_
    refine lv_bipush (v := 9) hx hb d_M_putRegister_5 (by decide) ?_
    refine lv_icmp_ge (tgt := 17) hx hb d_M_putRegister_7 (by decide) (fun c2 => ?_) (fun c2 => ?_)
    · exact W.vret hx hb hr (fun t ht hW => ⟨⟨(), rfl, trivial, ⟨y2, by show va_P D classes _ t.heap; rw [ht]; exact hP, hD⟩⟩, hS.F ht⟩) hS.2.2 d_M_putRegister_17
    · refine lv_aload_n hx hb d_M_putRegister_10 rfl (lv_at hl 0 rfl) ?_
      refine va_get (D := D) (ci := 1) (v := .ref p2) (C := "SignMachine$Machine") (T := F_M) (N := 14) hx hb hk fi_M hown hK.1 hP 0 rfl rfl 1 (by decide) (hk _ k_164) (fun _ h9 => h9) rfl d_M_putRegister_11 ?_
      refine lv_iload_n hx hb d_M_putRegister_14 rfl (lv_at hl 1 rfl) ?_
      refine lv_iload_n hx hb d_M_putRegister_15 rfl (lv_at hl 2 rfl) ?_
      refine va_iast hx hb hK.1 hP hD hS 2 0 rfl rfl (vpin c1 c2 rfl) d_M_putRegister_16 (fun H locs hP hD hS => ?_)
      have hP : va_P D classes (wS58 cI cJ cZ cB p0 p1 p2 p3 p4 p5 x0_4 x0_5 x0_6 x0_7 x0_8 x0_9 x0_10 x0_11 x0_12 x0_13 y1 (upd y2 (a1).toNatClampNeg a2) x3_0 x4_0 y5) H := hP
      have hD : va_D A (wS58 cI cJ cZ cB p0 p1 p2 p3 p4 p5 x0_4 x0_5 x0_6 x0_7 x0_8 x0_9 x0_10 x0_11 x0_12 x0_13 y1 (upd y2 (a1).toNatClampNeg a2) x3_0 x4_0 y5) := hD
      obtain ⟨v3, hv3⟩ : ∃ y : Nat → Int32, y = (upd y2 (a1).toNatClampNeg a2) := ⟨_, rfl⟩
      rw [← hv3] at hP hD
      clear hv3
      exact W.vret hx hb hr (fun t ht hW => ⟨⟨(), rfl, trivial, ⟨v3, by show va_P D classes _ t.heap; rw [ht]; exact hP, hD⟩⟩, hS.F ht⟩) hS.2.2 d_M_putRegister_17
theorem v_M_putRegister_s5 {R : Room} {s : State} {args : Array Value} {own : String} {index : Nat} (hk : ∀ w ∈ tb, w.before args s = true) (hl : Cond.methodLink own index y_M_putRegister ∈ tb) (hR : 0 + 1 ≤ R.frames ∧ 8 + (3 + 11) + 0 ≤ R.locals) : CallW R s args own "SignMachine$Machine" index y_M_putRegister b_M_putRegister 3 none (.code y_M_putRegister b_M_putRegister 3 none :: tb) ({ frames := 0, cells := 0, slots := 0, locals := 0 }) 0 0 2 := mk_v 2 hk k_365 hl k_363 k_364 k_117 rfl rfl h_M_putRegister hR
set_option maxHeartbeats 4000000 in
set_option maxRecDepth 100000 in
theorem c_M_addTo_s5 (l : Launch) (K : CK) (D : va_G) (cI cJ cZ cB : ClassId) (p0 p1 p2 p3 p4 p5 : Nat) (sz : Nat) (x0_4 : Bool) (x0_5 : Int32) (x0_6 : Int32) (x0_7 : Int32) (x0_8 : Int32) (x0_9 : Int32) (x0_10 : Int32) (x0_11 : Int32) (x0_12 : Int32) (x0_13 : Int32) (y1 : Nat → Int32) (y2 : Nat → Int32) (x3_0 : Int32) (x4_0 : Int32) (y5 : Nat → Int32)  (a1 : Int32) (a2 : Int32) : Met l y_M_addTo (.code y_M_addTo b_M_addTo 5 none :: tb) ({ frames := 2, cells := 0, slots := 0, locals := 42 }) (pMC K D cI cJ cZ cB (wS58 cI cJ cZ cB p0 p1 p2 p3 p4 p5 x0_4 x0_5 x0_6 x0_7 x0_8 x0_9 x0_10 x0_11 x0_12 x0_13 y1 y2 x3_0 x4_0 y5) sz [.ref p0, .int a1, .int a2]) (va_Qv (fun (_ : Unit) => True) (fun _ t => (∃ u_x0_4 : Bool, ∃ u_y2 : Nat → Int32, va_P D classes (wS58 cI cJ cZ cB p0 p1 p2 p3 p4 p5 u_x0_4 x0_5 x0_6 x0_7 x0_8 x0_9 x0_10 x0_11 x0_12 x0_13 y1 u_y2 x3_0 x4_0 y5) t.heap ∧ va_D (va_A (wS58 cI cJ cZ cB p0 p1 p2 p3 p4 p5 x0_4 x0_5 x0_6 x0_7 x0_8 x0_9 x0_10 x0_11 x0_12 x0_13 y1 y2 x3_0 x4_0 y5) sz) (wS58 cI cJ cZ cB p0 p1 p2 p3 p4 p5 u_x0_4 x0_5 x0_6 x0_7 x0_8 x0_9 x0_10 x0_11 x0_12 x0_13 y1 u_y2 x3_0 x4_0 y5))) (va_A (wS58 cI cJ cZ cB p0 p1 p2 p3 p4 p5 x0_4 x0_5 x0_6 x0_7 x0_8 x0_9 x0_10 x0_11 x0_12 x0_13 y1 y2 x3_0 x4_0 y5) sz)) 0 0 (va_A (wS58 cI cJ cZ cB p0 p1 p2 p3 p4 p5 x0_4 x0_5 x0_6 x0_7 x0_8 x0_9 x0_10 x0_11 x0_12 x0_13 y1 y2 x3_0 x4_0 y5) sz) := by
  refine Met.ofW (cc := b_M_addTo) (maxL := 5) (ret := none) (by decide) rfl ?_
  intro p e s m args below meth c s₁ B hml hv
  obtain ⟨rfl, hsz, hK, hP, hD0, hC⟩ := hv
  subst hsz
  have hD := hD0.self (sz := s.heap.size)
  generalize hAe : va_A (wS58 cI cJ cZ cB p0 p1 p2 p3 p4 p5 x0_4 x0_5 x0_6 x0_7 x0_8 x0_9 x0_10 x0_11 x0_12 x0_13 y1 y2 x3_0 x4_0 y5) s.heap.size = A at hD hC ⊢
  have hA : ∀ q : Nat, s.heap.size ≤ q → A q := fun q h => by rw [← hAe]; exact Or.inr h
  clear hAe hD0
  have hS : va_S A s.heap s.heap [] := va_S.rf
  have hx := B.exec
  have hb := B.bytes
  have hr := B.returns
  have hts := atoms_spec (ws := .code y_M_addTo b_M_addTo 5 none :: tb) B.pre
  have hk : ∀ w ∈ tb, w.before [.ref p0, .int a1, .int a2].toArray s = true := fun w h => hts w (List.mem_cons_of_mem _ h)
  have hown : s.vm.findClass "SignMachine$Machine" = some m.cls := findClass_of_methodNamed B.named
  have hlocks := B.notSynchronized
  have hl := lv_entry ([.ref p0, .int a1, .int a2]) (n := 5) (Nat.le_of_ble_eq_true rfl)
  rw [lg_entry_eq]
  generalize (lg_sl ([.ref p0, .int a1, .int a2]) ++ List.replicate (5 - (lg_sl ([.ref p0, .int a1, .int a2])).length) Slot.unset).toArray = ls at hl ⊢
  have hl : lv_has ls 5 [(0, .ref p0), (1, .int a1), (2, .int a2)] := hl
  refine lv_aload_n hx hb d_M_addTo_0 rfl (lv_at hl 0 rfl) ?_
  refine lv_iload_n hx hb d_M_addTo_1 rfl (lv_at hl 1 rfl) ?_
  refine sn_i (va_runV (C := "SignMachine$Machine") (As := [.int a1]) (rest := []) ⟨hx, hb, hml, hown, hk⟩ (c_M_register_s4 l K D cI cJ cZ cB p0 p1 p2 p3 p4 p5 s.heap.size x0_4 x0_5 x0_6 x0_7 x0_8 x0_9 x0_10 x0_11 x0_12 x0_13 y1 y2 x3_0 x4_0 y5  a1 ) (v_M_register_s4 hk k_273 ⟨Nat.le_of_ble_eq_true rfl, Nat.le_of_ble_eq_true rfl⟩) (pMC_v hK hP hD hC hS hA (ci := 1) (q0 := 0) rfl rfl rfl) rfl rfl hl.1 rfl (lv_room (Nat.le_of_ble_eq_true rfl)) d_M_addTo_2 ⟨by decide, by decide⟩) hS hA hD (fun rz1 u t H locs hr0 ht hB hFr hS => ?_)
  obtain ⟨hP, hD⟩ := hB
  rw [ht] at hP
  have hD := dwk hD hFr
  clear ht hFr
  have hP : va_P D classes (wS58 cI cJ cZ cB p0 p1 p2 p3 p4 p5 x0_4 x0_5 x0_6 x0_7 x0_8 x0_9 x0_10 x0_11 x0_12 x0_13 y1 y2 x3_0 x4_0 y5) H := hP
  have hD : va_D A (wS58 cI cJ cZ cB p0 p1 p2 p3 p4 p5 x0_4 x0_5 x0_6 x0_7 x0_8 x0_9 x0_10 x0_11 x0_12 x0_13 y1 y2 x3_0 x4_0 y5) := hD
  refine lv_istore_n (lv' := [(3, .int rz1), (0, .ref p0), (1, .int a1), (2, .int a2)]) hx hb d_M_addTo_5 rfl hl (by decide) rfl (fun ls hl => ?_)
  refine lv_iload_n hx hb d_M_addTo_6 rfl (lv_at hl 0 rfl) ?_
  refine cs_i (W.runS (As := [.int rz1]) (rest := []) ⟨hx, hb, hml, hown, hk⟩ (c_W_number l rz1) (s_W_number hk k_277 ⟨Nat.le_of_ble_eq_true rfl, Nat.le_of_ble_eq_true rfl⟩) ⟨fun a U g mk q => q, fun U hU hW => ⟨rfl, trivial⟩⟩ rfl rfl hl.1 rfl (lv_room (Nat.le_of_ble_eq_true rfl)) d_M_addTo_7 ⟨Nat.le_of_ble_eq_true rfl, Nat.le_of_ble_eq_true rfl⟩) ?_
  refine lv_topi (fun v2 hv2 => ?_)
  refine lv_iload_n hx hb d_M_addTo_10 rfl (lv_at hl 3 rfl) ?_
  refine lv_iadd hx hb d_M_addTo_11 ?_
  refine lv_topi (fun v3 hv3 => ?_)
  refine lv_istore (lv' := [(4, .int v3), (3, .int rz1), (0, .ref p0), (1, .int a1), (2, .int a2)]) hx hb d_M_addTo_12 hl (by decide) rfl (fun ls hl => ?_)
  refine lv_iload hx hb d_M_addTo_14 (lv_at hl 0 rfl) ?_
  refine va_mabs hx hb (hml.trans hl.1.symm) hown (hk _ k_330) (hk _ k_331) (hk _ k_121) (hk _ k_absc) (Nat.le_of_ble_eq_true rfl) (Nat.le_of_ble_eq_true rfl) (Nat.zero_le _) (Nat.zero_le _) d_M_addTo_16 ?_
  refine lv_topi (fun v4 hv4 => ?_)
  refine lv_ldc (v := 1073741823) hx hb hown (hk _ k_345) d_M_addTo_19 ?_
  refine lv_icmp_le (tgt := 49) hx hb d_M_addTo_21 (by decide) (fun c5 => ?_) (fun c5 => ?_)
  · refine lv_aload_n hx hb d_M_addTo_49 rfl (lv_at hl 2 rfl) ?_
    refine lv_iload_n hx hb d_M_addTo_50 rfl (lv_at hl 3 rfl) ?_
    refine lv_iload hx hb d_M_addTo_51 (lv_at hl 0 rfl) ?_
    refine lv_iload_n hx hb d_M_addTo_53 rfl (lv_at hl 1 rfl) ?_
    refine cs_i (W.runS (As := [.int rz1]) (rest := [.int v3, .int a1, .ref p0]) ⟨hx, hb, hml, hown, hk⟩ (c_W_sign l rz1) (s_W_sign hk k_269 ⟨Nat.le_of_ble_eq_true rfl, Nat.le_of_ble_eq_true rfl⟩) ⟨fun a U g mk q => q, fun U hU hW => ⟨rfl, trivial⟩⟩ rfl rfl hl.1 rfl (lv_room (Nat.le_of_ble_eq_true rfl)) d_M_addTo_54 ⟨Nat.le_of_ble_eq_true rfl, Nat.le_of_ble_eq_true rfl⟩) ?_
    refine lv_topi (fun v6 hv6 => ?_)
    refine cs_i (W.runS (As := [.int v3, .int v6]) (rest := [.int a1, .ref p0]) ⟨hx, hb, hml, hown, hk⟩ (c_W_of l v3 v6) (s_W_of hk k_359 ⟨Nat.le_of_ble_eq_true rfl, Nat.le_of_ble_eq_true rfl⟩) ⟨fun a U g mk q => q, fun U hU hW => ⟨rfl, trivial⟩⟩ rfl rfl hl.1 rfl (lv_room (Nat.le_of_ble_eq_true rfl)) d_M_addTo_57 ⟨Nat.le_of_ble_eq_true rfl, Nat.le_of_ble_eq_true rfl⟩) ?_
    refine lv_topi (fun v7 hv7 => ?_)
    refine kn_v (va_runV (C := "SignMachine$Machine") (As := [.int a1, .int v7]) (rest := []) ⟨hx, hb, hml, hown, hk⟩ (c_M_putRegister_s5 l K D cI cJ cZ cB p0 p1 p2 p3 p4 p5 H.size x0_4 x0_5 x0_6 x0_7 x0_8 x0_9 x0_10 x0_11 x0_12 x0_13 y1 y2 x3_0 x4_0 y5  a1 v7 ) (v_M_putRegister_s5 hk k_362 ⟨Nat.le_of_ble_eq_true rfl, Nat.le_of_ble_eq_true rfl⟩) (pMC_v hK hP hD hC hS hA (ci := 1) (q0 := 0) rfl rfl rfl) rfl rfl hl.1 rfl (lv_room (Nat.le_of_ble_eq_true rfl)) d_M_addTo_60 ⟨by decide, by decide⟩) hS hA hD (fun u t H locs ht hB hFr hS => ?_)
    obtain ⟨y2z8, hP, hD⟩ := hB
    rw [ht] at hP
    have hD := dwk hD hFr
    clear ht hFr
    have hP : va_P D classes (wS58 cI cJ cZ cB p0 p1 p2 p3 p4 p5 x0_4 x0_5 x0_6 x0_7 x0_8 x0_9 x0_10 x0_11 x0_12 x0_13 y1 y2z8 x3_0 x4_0 y5) H := hP
    have hD : va_D A (wS58 cI cJ cZ cB p0 p1 p2 p3 p4 p5 x0_4 x0_5 x0_6 x0_7 x0_8 x0_9 x0_10 x0_11 x0_12 x0_13 y1 y2z8 x3_0 x4_0 y5) := hD
    exact W.vret hx hb hr (fun t ht hW => ⟨⟨(), rfl, trivial, ⟨x0_4, y2z8, by show va_P D classes _ t.heap; rw [ht]; exact hP, hD⟩⟩, hS.F ht⟩) hS.2.2 d_M_addTo_63
  · refine lv_aload_n hx hb d_M_addTo_24 rfl (lv_at hl 2 rfl) ?_
    refine lv_iconst (v := 1) hx hb d_M_addTo_25 (by decide) ?_
    refine va_put (D := D) (ci := 1) (v := .int (1 : Int32)) (ty := .boolean) (C := "SignMachine$Machine") (T := F_M) (N := 14) hx hb hk fi_M ft_M ft_M_ok fn_M hown hK.1 hP hD hS 0 rfl rfl 4 (by decide) (hk _ k_168) (fun _ h9 => h9) rfl (by decide +kernel) rfl rfl (Nat.le_of_ble_eq_true rfl) d_M_addTo_26 (fun H locs hP hD hS => ?_)
    have hP : va_P D classes (wS58 cI cJ cZ cB p0 p1 p2 p3 p4 p5 true x0_5 x0_6 x0_7 x0_8 x0_9 x0_10 x0_11 x0_12 x0_13 y1 y2 x3_0 x4_0 y5) H := hP
    have hD : va_D A (wS58 cI cJ cZ cB p0 p1 p2 p3 p4 p5 true x0_5 x0_6 x0_7 x0_8 x0_9 x0_10 x0_11 x0_12 x0_13 y1 y2 x3_0 x4_0 y5) := hD
    refine lv_iload hx hb d_M_addTo_29 (lv_at hl 0 rfl) ?_
    refine lv_if_le (tgt := 42) hx hb d_M_addTo_31 (by decide) (fun c9 => ?_) (fun c9 => ?_)
    · refine lv_iload hx hb d_M_addTo_42 (lv_at hl 0 rfl) ?_
      refine lv_ldc (v := 1073741824) hx hb hown (hk _ k_358) d_M_addTo_44 ?_
      refine lv_iadd hx hb d_M_addTo_46 ?_
      refine lv_topi (fun v10 hv10 => ?_)
      refine lv_istore (lv' := [(4, .int v10), (3, .int rz1), (0, .ref p0), (1, .int a1), (2, .int a2)]) hx hb d_M_addTo_47 hl (by decide) rfl (fun ls hl => ?_)
      refine lv_aload_n hx hb d_M_addTo_49 rfl (lv_at hl 2 rfl) ?_
      refine lv_iload_n hx hb d_M_addTo_50 rfl (lv_at hl 3 rfl) ?_
      refine lv_iload hx hb d_M_addTo_51 (lv_at hl 0 rfl) ?_
      refine lv_iload_n hx hb d_M_addTo_53 rfl (lv_at hl 1 rfl) ?_
      refine cs_i (W.runS (As := [.int rz1]) (rest := [.int v10, .int a1, .ref p0]) ⟨hx, hb, hml, hown, hk⟩ (c_W_sign l rz1) (s_W_sign hk k_269 ⟨Nat.le_of_ble_eq_true rfl, Nat.le_of_ble_eq_true rfl⟩) ⟨fun a U g mk q => q, fun U hU hW => ⟨rfl, trivial⟩⟩ rfl rfl hl.1 rfl (lv_room (Nat.le_of_ble_eq_true rfl)) d_M_addTo_54 ⟨Nat.le_of_ble_eq_true rfl, Nat.le_of_ble_eq_true rfl⟩) ?_
      refine lv_topi (fun v11 hv11 => ?_)
      refine cs_i (W.runS (As := [.int v10, .int v11]) (rest := [.int a1, .ref p0]) ⟨hx, hb, hml, hown, hk⟩ (c_W_of l v10 v11) (s_W_of hk k_359 ⟨Nat.le_of_ble_eq_true rfl, Nat.le_of_ble_eq_true rfl⟩) ⟨fun a U g mk q => q, fun U hU hW => ⟨rfl, trivial⟩⟩ rfl rfl hl.1 rfl (lv_room (Nat.le_of_ble_eq_true rfl)) d_M_addTo_57 ⟨Nat.le_of_ble_eq_true rfl, Nat.le_of_ble_eq_true rfl⟩) ?_
      refine lv_topi (fun v12 hv12 => ?_)
      refine kn_v (va_runV (C := "SignMachine$Machine") (As := [.int a1, .int v12]) (rest := []) ⟨hx, hb, hml, hown, hk⟩ (c_M_putRegister_s5 l K D cI cJ cZ cB p0 p1 p2 p3 p4 p5 H.size true x0_5 x0_6 x0_7 x0_8 x0_9 x0_10 x0_11 x0_12 x0_13 y1 y2 x3_0 x4_0 y5  a1 v12 ) (v_M_putRegister_s5 hk k_362 ⟨Nat.le_of_ble_eq_true rfl, Nat.le_of_ble_eq_true rfl⟩) (pMC_v hK hP hD hC hS hA (ci := 1) (q0 := 0) rfl rfl rfl) rfl rfl hl.1 rfl (lv_room (Nat.le_of_ble_eq_true rfl)) d_M_addTo_60 ⟨by decide, by decide⟩) hS hA hD (fun u t H locs ht hB hFr hS => ?_)
      obtain ⟨y2z13, hP, hD⟩ := hB
      rw [ht] at hP
      have hD := dwk hD hFr
      clear ht hFr
      have hP : va_P D classes (wS58 cI cJ cZ cB p0 p1 p2 p3 p4 p5 true x0_5 x0_6 x0_7 x0_8 x0_9 x0_10 x0_11 x0_12 x0_13 y1 y2z13 x3_0 x4_0 y5) H := hP
      have hD : va_D A (wS58 cI cJ cZ cB p0 p1 p2 p3 p4 p5 true x0_5 x0_6 x0_7 x0_8 x0_9 x0_10 x0_11 x0_12 x0_13 y1 y2z13 x3_0 x4_0 y5) := hD
      exact W.vret hx hb hr (fun t ht hW => ⟨⟨(), rfl, trivial, ⟨true, y2z13, by show va_P D classes _ t.heap; rw [ht]; exact hP, hD⟩⟩, hS.F ht⟩) hS.2.2 d_M_addTo_63
    · refine lv_iload hx hb d_M_addTo_34 (lv_at hl 0 rfl) ?_
      refine lv_ldc (v := 1073741824) hx hb hown (hk _ k_358) d_M_addTo_36 ?_
      refine lv_isub hx hb d_M_addTo_38 ?_
      refine lv_topi (fun v14 hv14 => ?_)
      refine lv_goto (tgt := 47) hx hb d_M_addTo_39 (by decide) ?_
      refine lv_istore (lv' := [(4, .int v14), (3, .int rz1), (0, .ref p0), (1, .int a1), (2, .int a2)]) hx hb d_M_addTo_47 hl (by decide) rfl (fun ls hl => ?_)
      refine lv_aload_n hx hb d_M_addTo_49 rfl (lv_at hl 2 rfl) ?_
      refine lv_iload_n hx hb d_M_addTo_50 rfl (lv_at hl 3 rfl) ?_
      refine lv_iload hx hb d_M_addTo_51 (lv_at hl 0 rfl) ?_
      refine lv_iload_n hx hb d_M_addTo_53 rfl (lv_at hl 1 rfl) ?_
      refine cs_i (W.runS (As := [.int rz1]) (rest := [.int v14, .int a1, .ref p0]) ⟨hx, hb, hml, hown, hk⟩ (c_W_sign l rz1) (s_W_sign hk k_269 ⟨Nat.le_of_ble_eq_true rfl, Nat.le_of_ble_eq_true rfl⟩) ⟨fun a U g mk q => q, fun U hU hW => ⟨rfl, trivial⟩⟩ rfl rfl hl.1 rfl (lv_room (Nat.le_of_ble_eq_true rfl)) d_M_addTo_54 ⟨Nat.le_of_ble_eq_true rfl, Nat.le_of_ble_eq_true rfl⟩) ?_
      refine lv_topi (fun v15 hv15 => ?_)
      refine cs_i (W.runS (As := [.int v14, .int v15]) (rest := [.int a1, .ref p0]) ⟨hx, hb, hml, hown, hk⟩ (c_W_of l v14 v15) (s_W_of hk k_359 ⟨Nat.le_of_ble_eq_true rfl, Nat.le_of_ble_eq_true rfl⟩) ⟨fun a U g mk q => q, fun U hU hW => ⟨rfl, trivial⟩⟩ rfl rfl hl.1 rfl (lv_room (Nat.le_of_ble_eq_true rfl)) d_M_addTo_57 ⟨Nat.le_of_ble_eq_true rfl, Nat.le_of_ble_eq_true rfl⟩) ?_
      refine lv_topi (fun v16 hv16 => ?_)
      refine kn_v (va_runV (C := "SignMachine$Machine") (As := [.int a1, .int v16]) (rest := []) ⟨hx, hb, hml, hown, hk⟩ (c_M_putRegister_s5 l K D cI cJ cZ cB p0 p1 p2 p3 p4 p5 H.size true x0_5 x0_6 x0_7 x0_8 x0_9 x0_10 x0_11 x0_12 x0_13 y1 y2 x3_0 x4_0 y5  a1 v16 ) (v_M_putRegister_s5 hk k_362 ⟨Nat.le_of_ble_eq_true rfl, Nat.le_of_ble_eq_true rfl⟩) (pMC_v hK hP hD hC hS hA (ci := 1) (q0 := 0) rfl rfl rfl) rfl rfl hl.1 rfl (lv_room (Nat.le_of_ble_eq_true rfl)) d_M_addTo_60 ⟨by decide, by decide⟩) hS hA hD (fun u t H locs ht hB hFr hS => ?_)
      obtain ⟨y2z17, hP, hD⟩ := hB
      rw [ht] at hP
      have hD := dwk hD hFr
      clear ht hFr
      have hP : va_P D classes (wS58 cI cJ cZ cB p0 p1 p2 p3 p4 p5 true x0_5 x0_6 x0_7 x0_8 x0_9 x0_10 x0_11 x0_12 x0_13 y1 y2z17 x3_0 x4_0 y5) H := hP
      have hD : va_D A (wS58 cI cJ cZ cB p0 p1 p2 p3 p4 p5 true x0_5 x0_6 x0_7 x0_8 x0_9 x0_10 x0_11 x0_12 x0_13 y1 y2z17 x3_0 x4_0 y5) := hD
      exact W.vret hx hb hr (fun t ht hW => ⟨⟨(), rfl, trivial, ⟨true, y2z17, by show va_P D classes _ t.heap; rw [ht]; exact hP, hD⟩⟩, hS.F ht⟩) hS.2.2 d_M_addTo_63
theorem v_M_addTo_s5 {R : Room} {s : State} {args : Array Value} {own : String} {index : Nat} (hk : ∀ w ∈ tb, w.before args s = true) (hl : Cond.methodLink own index y_M_addTo ∈ tb) (hR : 2 + 1 ≤ R.frames ∧ 8 + (5 + 11) + 42 ≤ R.locals) : CallW R s args own "SignMachine$Machine" index y_M_addTo b_M_addTo 5 none (.code y_M_addTo b_M_addTo 5 none :: tb) ({ frames := 2, cells := 0, slots := 0, locals := 42 }) 0 0 2 := mk_v 2 hk k_357 hl k_356 k_13 k_117 rfl rfl h_M_addTo hR

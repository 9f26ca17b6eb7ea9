def f_M_wordAt (mem : Nat → Int32) (a1 : Int32) : Int32 := (if a1 < (0 : Int32) then (0 : Int32) else (if (4000 : Int32) ≤ a1 then (0 : Int32) else (mem (a1).toNatClampNeg)))
set_option maxHeartbeats 4000000 in
set_option maxRecDepth 100000 in
theorem c_M_wordAt (l : Launch) (D : va_G) (cI cJ cZ cB : ClassId) (h0 h1 h2 h3 h4 : Nat) (tog : Int32) (ind : Int32) (tim : Int32) (nxt : Int32) (enD : Int32) (cod : Int32) (fld : Int32) (idx : Int32) (mm : Int32) (soz : Int32) (mem : Nat → Int32) (reg : Nat → Int32) (p1 : Int32) (w1 : Option Nat) (p2 : Int32) (w2 : Option Nat) (TL : va_W) (a1 : Int32)  : Met l y_M_wordAt (.code y_M_wordAt b_M_wordAt 2 (some .int) :: tb) ({ frames := 0, cells := 0, slots := 0, locals := 0 }) (pR D cI cJ cZ cB (mW cI cJ cZ cB h0 h1 h2 h3 h4 tog ind tim nxt enD cod fld idx mm soz mem reg p1 w1 p2 w2 TL) [.ref h0, .int a1]) (vp_Si (fun r => r = f_M_wordAt mem a1)) 0 0 (fun _ => False) := by
  refine Met.ofW (cc := b_M_wordAt) (maxL := 2) (ret := (some .int)) (by decide) rfl ?_
  intro p e s m args below meth c s₁ B hml hv
  obtain ⟨rfl, hK, hP⟩ := hv
  have hx := B.exec
  have hb := B.bytes
  have hr := B.returns
  have hts := atoms_spec (ws := .code y_M_wordAt b_M_wordAt 2 (some .int) :: tb) B.pre
  have hk : ∀ w ∈ tb, w.before [.ref h0, .int a1].toArray s = true := fun w h => hts w (List.mem_cons_of_mem _ h)
  have hown : s.vm.findClass "SignMachine$Machine" = some m.cls := findClass_of_methodNamed B.named
  have hlocks := B.notSynchronized
  have hl := lv_entry ([.ref h0, .int a1]) (n := 2) (Nat.le_of_ble_eq_true rfl)
  rw [lg_entry_eq]
  generalize (lg_sl ([.ref h0, .int a1]) ++ List.replicate (2 - (lg_sl ([.ref h0, .int a1])).length) Slot.unset).toArray = ls at hl ⊢
  have hl : lv_has ls 2 [(0, .ref h0), (1, .int a1)] := hl
  refine lv_iload_n hx hb d_M_wordAt_0 rfl (lv_at hl 1 rfl) ?_
  refine lv_if_lt (tgt := 20) hx hb d_M_wordAt_1 (by decide) (fun c1 => ?_) (fun c1 => ?_)
  · refine lv_iconst (v := 0) hx hb d_M_wordAt_20 (by decide) ?_
    exact W.iret (v := (0 : Int32)) hx hb hr (fun t ht hW => ⟨(0 : Int32), rfl, by simp only [f_M_wordAt, if_pos c1], ht⟩) (fun q h => absurd h List.not_mem_nil) d_M_wordAt_21
  · refine lv_iload_n hx hb d_M_wordAt_4 rfl (lv_at hl 1 rfl) ?_
    refine lv_sipush (v := 4000) hx hb d_M_wordAt_5 (by decide) ?_
    refine lv_icmp_ge (tgt := 20) hx hb d_M_wordAt_8 (by decide) (fun c2 => ?_) (fun c2 => ?_)
    · refine lv_iconst (v := 0) hx hb d_M_wordAt_20 (by decide) ?_
      exact W.iret (v := (0 : Int32)) hx hb hr (fun t ht hW => ⟨(0 : Int32), rfl, by simp only [f_M_wordAt, if_neg c1, if_pos c2], ht⟩) (fun q h => absurd h List.not_mem_nil) d_M_wordAt_21
    · refine lv_aload_n hx hb d_M_wordAt_11 rfl (lv_at hl 0 rfl) ?_
      refine va_get (D := D) (ci := 1) (v := .ref h1) (C := "SignMachine$Machine") (T := F_M) (N := 14) hx hb hk fi_M hown hK.1 hP 0 rfl rfl 0 (by decide) (hk _ k_163) (fun _ h9 => h9) rfl d_M_wordAt_12 ?_
      refine lv_iload_n hx hb d_M_wordAt_15 rfl (lv_at hl 1 rfl) ?_
      refine va_iald hx hb hK.1 hP 1 0 rfl rfl (vpin c1 c2 rfl) d_M_wordAt_16 ?_
      refine lv_goto (tgt := 21) hx hb d_M_wordAt_17 (by decide) ?_
      exact W.iret (v := (mem (a1).toNatClampNeg)) hx hb hr (fun t ht hW => ⟨(mem (a1).toNatClampNeg), rfl, by simp only [f_M_wordAt, if_neg c1, if_neg c2], ht⟩) (fun q h => absurd h List.not_mem_nil) d_M_wordAt_21
theorem v_M_wordAt {R : Room} {s : State} {args : Array Value} {own : String} {index : Nat} (hk : ∀ w ∈ tb, w.before args s = true) (hl : Cond.methodLink own index y_M_wordAt ∈ tb) (hR : 0 + 1 ≤ R.frames ∧ 8 + (2 + 11) + 0 ≤ R.locals) : CallW R s args own "SignMachine$Machine" index y_M_wordAt b_M_wordAt 2 (some .int) (.code y_M_wordAt b_M_wordAt 2 (some .int) :: tb) ({ frames := 0, cells := 0, slots := 0, locals := 0 }) 0 0 1 := mk_v 1 hk k_243 hl k_241 k_242 k_117 rfl rfl h_M_wordAt hR

def f_R_hasRoom (len : Int32)  : Bool := (if (4000 : Int32) < (len + (20 : Int32)) then false else true)
set_option maxHeartbeats 4000000 in
set_option maxRecDepth 100000 in
theorem c_R_hasRoom (l : Launch) (D : va_G) (cI cJ cZ cB : ClassId) (g0 g1 g2 g3 g4 g5 g6 g7 g8 g9 g10 g11 g12 g13 g14 g15 : Nat) (flt : Int32) (fln : Int32) (ffr : Int32) (sta : Int32) (plc : Int32) (edd : Int32) (lab : Int64) (lbv : Int32) (opr : Option Nat) (acd : Int32) (akd : Int32) (agl : Int32) (len : Int32) (lin : Int32) (att : Int32) (stp : Int32) (fol : Int32) (skd : Int32) (snm : Int64) (snu : Int32) (byt : Nat → Int32) (ncn : Int32) (nsy : Int32) (nns : Nat → Int64) (nvs : Nat → Int32) (ntd : Nat → Int32) (lvs : Nat → Int32) (ltd : Nat → Int32) (ocn : Int32) (opl : Nat → Int32) (owd : Nat → Int32) (oln : Nat → Int32) (okd : Nat → Int32) (ogl : Nat → Int32) (olo : Nat → Int32) (TL : va_W)   : Met l y_R_hasRoom (.code y_R_hasRoom b_R_hasRoom 1 (some .boolean) :: tb) ({ frames := 0, cells := 0, slots := 0, locals := 0 }) (pR D cI cJ cZ cB (aW cI cJ cZ cB g0 g1 g2 g3 g4 g5 g6 g7 g8 g9 g10 g11 g12 g13 g14 g15 flt fln ffr sta plc edd lab lbv opr acd akd agl len lin att stp fol skd snm snu byt ncn nsy nns nvs ntd lvs ltd ocn opl owd oln okd ogl olo TL) [.ref g1]) (vp_Si (fun r => r = bI (f_R_hasRoom len))) 0 0 (fun _ => False) := by
  refine Met.ofW (cc := b_R_hasRoom) (maxL := 1) (ret := (some .boolean)) (by decide) rfl ?_
  intro p e s m args below meth c s₁ B hml hv
  obtain ⟨rfl, hK, hP⟩ := hv
  have hx := B.exec
  have hb := B.bytes
  have hr := B.returns
  have hts := atoms_spec (ws := .code y_R_hasRoom b_R_hasRoom 1 (some .boolean) :: tb) B.pre
  have hk : ∀ w ∈ tb, w.before [.ref g1].toArray s = true := fun w h => hts w (List.mem_cons_of_mem _ h)
  have hown : s.vm.findClass "SignMachine$Source" = some m.cls := findClass_of_methodNamed B.named
  have hlocks := B.notSynchronized
  have hl := lv_entry ([.ref g1]) (n := 1) (Nat.le_of_ble_eq_true rfl)
  rw [lg_entry_eq]
  generalize (lg_sl ([.ref g1]) ++ List.replicate (1 - (lg_sl ([.ref g1])).length) Slot.unset).toArray = ls at hl ⊢
  have hl : lv_has ls 1 [(0, .ref g1)] := hl
  refine lv_aload_n hx hb d_R_hasRoom_0 rfl (lv_at hl 0 rfl) ?_
  refine va_get (D := D) (ci := 4) (v := .int len) (C := "SignMachine$Source") (T := F_R) (N := 9) hx hb hk fi_R hown hK.1 hP 1 rfl rfl 1 (by decide) (hk _ k_535) (fun _ h9 => h9) rfl d_R_hasRoom_1 ?_
  refine lv_bipush (v := 20) hx hb d_R_hasRoom_4 (by decide) ?_
  refine lv_iadd hx hb d_R_hasRoom_6 ?_
  refine lv_sipush (v := 4000) hx hb d_R_hasRoom_7 (by decide) ?_
  refine lv_icmp_gt (tgt := 17) hx hb d_R_hasRoom_10 (by decide) (fun c1 => ?_) (fun c1 => ?_)
  · refine lv_iconst (v := 0) hx hb d_R_hasRoom_17 (by decide) ?_
    exact W.zret (v := (0 : Int32)) hx hb hr rfl (fun t ht hW => ⟨(0 : Int32), rfl, by simp only [f_R_hasRoom, if_pos c1]; rfl, ht⟩) (fun q h => absurd h List.not_mem_nil) d_R_hasRoom_18
  · refine lv_iconst (v := 1) hx hb d_R_hasRoom_13 (by decide) ?_
    refine lv_goto (tgt := 18) hx hb d_R_hasRoom_14 (by decide) ?_
    exact W.zret (v := (1 : Int32)) hx hb hr rfl (fun t ht hW => ⟨(1 : Int32), rfl, by simp only [f_R_hasRoom, if_neg c1]; rfl, ht⟩) (fun q h => absurd h List.not_mem_nil) d_R_hasRoom_18
theorem v_R_hasRoom {R : Room} {s : State} {args : Array Value} {own : String} {index : Nat} (hk : ∀ w ∈ tb, w.before args s = true) (hl : Cond.methodLink own index y_R_hasRoom ∈ tb) (hR : 0 + 1 ≤ R.frames ∧ 8 + (1 + 11) + 0 ≤ R.locals) : CallW R s args own "SignMachine$Source" index y_R_hasRoom b_R_hasRoom 1 (some .boolean) (.code y_R_hasRoom b_R_hasRoom 1 (some .boolean) :: tb) ({ frames := 0, cells := 0, slots := 0, locals := 0 }) 0 0 0 := mk_v 0 hk k_686 hl k_684 k_685 k_124 rfl rfl h_R_hasRoom hR
def f_R_begin   : (Int32) × (Int32) := ((0 : Int32), (0 : Int32))
set_option maxHeartbeats 4000000 in
set_option maxRecDepth 100000 in
theorem c_R_begin (l : Launch) (D : va_G) (cI cJ cZ cB : ClassId) (g0 g1 g2 g3 g4 g5 g6 g7 g8 g9 g10 g11 g12 g13 g14 g15 : Nat) (sz : Nat) (flt : Int32) (fln : Int32) (ffr : Int32) (sta : Int32) (plc : Int32) (edd : Int32) (lab : Int64) (lbv : Int32) (opr : Option Nat) (acd : Int32) (akd : Int32) (agl : Int32) (len : Int32) (lin : Int32) (att : Int32) (stp : Int32) (fol : Int32) (skd : Int32) (snm : Int64) (snu : Int32) (byt : Nat → Int32) (ncn : Int32) (nsy : Int32) (nns : Nat → Int64) (nvs : Nat → Int32) (ntd : Nat → Int32) (lvs : Nat → Int32) (ltd : Nat → Int32) (ocn : Int32) (opl : Nat → Int32) (owd : Nat → Int32) (oln : Nat → Int32) (okd : Nat → Int32) (ogl : Nat → Int32) (olo : Nat → Int32) (TL : va_W)  : Met l y_R_begin (.code y_R_begin b_R_begin 1 none :: tb) ({ frames := 0, cells := 0, slots := 0, locals := 0 }) (pM D cI cJ cZ cB (aW cI cJ cZ cB g0 g1 g2 g3 g4 g5 g6 g7 g8 g9 g10 g11 g12 g13 g14 g15 flt fln ffr sta plc edd lab lbv opr acd akd agl len lin att stp fol skd snm snu byt ncn nsy nns nvs ntd lvs ltd ocn opl owd oln okd ogl olo TL) sz [.ref g1]) (qV D (fun u => u = f_R_begin) (fun (u : (Int32) × (Int32)) => match u with | (u_lin, u_fol) => (aW cI cJ cZ cB g0 g1 g2 g3 g4 g5 g6 g7 g8 g9 g10 g11 g12 g13 g14 g15 flt fln ffr sta plc edd lab lbv opr acd akd agl len u_lin att stp u_fol skd snm snu byt ncn nsy nns nvs ntd lvs ltd ocn opl owd oln okd ogl olo TL)) (va_A (aW cI cJ cZ cB g0 g1 g2 g3 g4 g5 g6 g7 g8 g9 g10 g11 g12 g13 g14 g15 flt fln ffr sta plc edd lab lbv opr acd akd agl len lin att stp fol skd snm snu byt ncn nsy nns nvs ntd lvs ltd ocn opl owd oln okd ogl olo TL) sz)) 0 0 (va_A (aW cI cJ cZ cB g0 g1 g2 g3 g4 g5 g6 g7 g8 g9 g10 g11 g12 g13 g14 g15 flt fln ffr sta plc edd lab lbv opr acd akd agl len lin att stp fol skd snm snu byt ncn nsy nns nvs ntd lvs ltd ocn opl owd oln okd ogl olo TL) sz) := by
  refine Met.ofW (cc := b_R_begin) (maxL := 1) (ret := none) (by decide) rfl ?_
  intro p e s m args below meth c s₁ B hml hv
  obtain ⟨rfl, hsz, hK, hP, hD0⟩ := hv
  subst hsz
  have hD := hD0.self (sz := s.heap.size)
  generalize hAe : va_A (aW cI cJ cZ cB g0 g1 g2 g3 g4 g5 g6 g7 g8 g9 g10 g11 g12 g13 g14 g15 flt fln ffr sta plc edd lab lbv opr acd akd agl len lin att stp fol skd snm snu byt ncn nsy nns nvs ntd lvs ltd ocn opl owd oln okd ogl olo TL) s.heap.size = A at hD ⊢
  have hA : ∀ q : Nat, s.heap.size ≤ q → A q := fun q h => by rw [← hAe]; exact Or.inr h
  have hS : va_S A s.heap s.heap [] := va_S.rf
  have hx := B.exec
  have hb := B.bytes
  have hr := B.returns
  have hts := atoms_spec (ws := .code y_R_begin b_R_begin 1 none :: tb) B.pre
  have hk : ∀ w ∈ tb, w.before [.ref g1].toArray s = true := fun w h => hts w (List.mem_cons_of_mem _ h)
  have hown : s.vm.findClass "SignMachine$Source" = some m.cls := findClass_of_methodNamed B.named
  have hlocks := B.notSynchronized
  have hl := lv_entry ([.ref g1]) (n := 1) (Nat.le_of_ble_eq_true rfl)
  rw [lg_entry_eq]
  generalize (lg_sl ([.ref g1]) ++ List.replicate (1 - (lg_sl ([.ref g1])).length) Slot.unset).toArray = ls at hl ⊢
  have hl : lv_has ls 1 [(0, .ref g1)] := hl
  refine lv_aload_n hx hb d_R_begin_0 rfl (lv_at hl 0 rfl) ?_
  refine lv_iconst (v := 0) hx hb d_R_begin_1 (by decide) ?_
  refine va_put (D := D) (ci := 4) (v := .int (0 : Int32)) (ty := .int) (C := "SignMachine$Source") (T := F_R) (N := 9) hx hb hk fi_R ft_R ft_R_ok fn_R hown hK.1 hP hD hS 1 rfl rfl 2 (by decide) (hk _ k_538) (fun _ h9 => h9) rfl (by decide +kernel) rfl rfl (Nat.le_of_ble_eq_true rfl) d_R_begin_2 (fun H locs hP hD hS => ?_)
  have hP : va_P D classes (aW cI cJ cZ cB g0 g1 g2 g3 g4 g5 g6 g7 g8 g9 g10 g11 g12 g13 g14 g15 flt fln ffr sta plc edd lab lbv opr acd akd agl len (0 : Int32) att stp fol skd snm snu byt ncn nsy nns nvs ntd lvs ltd ocn opl owd oln okd ogl olo TL) H := hP
  have hD : va_D A (aW cI cJ cZ cB g0 g1 g2 g3 g4 g5 g6 g7 g8 g9 g10 g11 g12 g13 g14 g15 flt fln ffr sta plc edd lab lbv opr acd akd agl len (0 : Int32) att stp fol skd snm snu byt ncn nsy nns nvs ntd lvs ltd ocn opl owd oln okd ogl olo TL) := hD
  refine lv_aload_n hx hb d_R_begin_5 rfl (lv_at hl 0 rfl) ?_
  refine lv_iconst (v := 0) hx hb d_R_begin_6 (by decide) ?_
  refine va_put (D := D) (ci := 4) (v := .int (0 : Int32)) (ty := .int) (C := "SignMachine$Source") (T := F_R) (N := 9) hx hb hk fi_R ft_R ft_R_ok fn_R hown hK.1 hP hD hS 1 rfl rfl 5 (by decide) (hk _ k_543) (fun _ h9 => h9) rfl (by decide +kernel) rfl rfl (Nat.le_of_ble_eq_true rfl) d_R_begin_7 (fun H locs hP hD hS => ?_)
  have hP : va_P D classes (aW cI cJ cZ cB g0 g1 g2 g3 g4 g5 g6 g7 g8 g9 g10 g11 g12 g13 g14 g15 flt fln ffr sta plc edd lab lbv opr acd akd agl len (0 : Int32) att stp (0 : Int32) skd snm snu byt ncn nsy nns nvs ntd lvs ltd ocn opl owd oln okd ogl olo TL) H := hP
  have hD : va_D A (aW cI cJ cZ cB g0 g1 g2 g3 g4 g5 g6 g7 g8 g9 g10 g11 g12 g13 g14 g15 flt fln ffr sta plc edd lab lbv opr acd akd agl len (0 : Int32) att stp (0 : Int32) skd snm snu byt ncn nsy nns nvs ntd lvs ltd ocn opl owd oln okd ogl olo TL) := hD
  exact W.vret hx hb hr (fun t ht hW => ⟨⟨((0 : Int32), (0 : Int32)), rfl, by simp only [f_R_begin], by show va_P D classes _ t.heap; rw [ht]; exact hP⟩, hS.F ht⟩) hS.2.2 d_R_begin_10
theorem v_R_begin {R : Room} {s : State} {args : Array Value} {own : String} {index : Nat} (hk : ∀ w ∈ tb, w.before args s = true) (hl : Cond.methodLink own index y_R_begin ∈ tb) (hR : 0 + 1 ≤ R.frames ∧ 8 + (1 + 11) + 0 ≤ R.locals) : CallW R s args own "SignMachine$Source" index y_R_begin b_R_begin 1 none (.code y_R_begin b_R_begin 1 none :: tb) ({ frames := 0, cells := 0, slots := 0, locals := 0 }) 0 0 0 := mk_v 0 hk k_706 hl k_704 k_705 k_124 rfl rfl h_R_begin hR
def f_R_hasLine (len : Int32) (fol : Int32)  : Bool := (if len ≤ fol then false else true)
set_option maxHeartbeats 4000000 in
set_option maxRecDepth 100000 in
theorem c_R_hasLine (l : Launch) (D : va_G) (cI cJ cZ cB : ClassId) (g0 g1 g2 g3 g4 g5 g6 g7 g8 g9 g10 g11 g12 g13 g14 g15 : Nat) (flt : Int32) (fln : Int32) (ffr : Int32) (sta : Int32) (plc : Int32) (edd : Int32) (lab : Int64) (lbv : Int32) (opr : Option Nat) (acd : Int32) (akd : Int32) (agl : Int32) (len : Int32) (lin : Int32) (att : Int32) (stp : Int32) (fol : Int32) (skd : Int32) (snm : Int64) (snu : Int32) (byt : Nat → Int32) (ncn : Int32) (nsy : Int32) (nns : Nat → Int64) (nvs : Nat → Int32) (ntd : Nat → Int32) (lvs : Nat → Int32) (ltd : Nat → Int32) (ocn : Int32) (opl : Nat → Int32) (owd : Nat → Int32) (oln : Nat → Int32) (okd : Nat → Int32) (ogl : Nat → Int32) (olo : Nat → Int32) (TL : va_W)   : Met l y_R_hasLine (.code y_R_hasLine b_R_hasLine 1 (some .boolean) :: tb) ({ frames := 0, cells := 0, slots := 0, locals := 0 }) (pR D cI cJ cZ cB (aW cI cJ cZ cB g0 g1 g2 g3 g4 g5 g6 g7 g8 g9 g10 g11 g12 g13 g14 g15 flt fln ffr sta plc edd lab lbv opr acd akd agl len lin att stp fol skd snm snu byt ncn nsy nns nvs ntd lvs ltd ocn opl owd oln okd ogl olo TL) [.ref g1]) (vp_Si (fun r => r = bI (f_R_hasLine len fol))) 0 0 (fun _ => False) := by
  refine Met.ofW (cc := b_R_hasLine) (maxL := 1) (ret := (some .boolean)) (by decide) rfl ?_
  intro p e s m args below meth c s₁ B hml hv
  obtain ⟨rfl, hK, hP⟩ := hv
  have hx := B.exec
  have hb := B.bytes
  have hr := B.returns
  have hts := atoms_spec (ws := .code y_R_hasLine b_R_hasLine 1 (some .boolean) :: tb) B.pre
  have hk : ∀ w ∈ tb, w.before [.ref g1].toArray s = true := fun w h => hts w (List.mem_cons_of_mem _ h)
  have hown : s.vm.findClass "SignMachine$Source" = some m.cls := findClass_of_methodNamed B.named
  have hlocks := B.notSynchronized
  have hl := lv_entry ([.ref g1]) (n := 1) (Nat.le_of_ble_eq_true rfl)
  rw [lg_entry_eq]
  generalize (lg_sl ([.ref g1]) ++ List.replicate (1 - (lg_sl ([.ref g1])).length) Slot.unset).toArray = ls at hl ⊢
  have hl : lv_has ls 1 [(0, .ref g1)] := hl
  refine lv_aload_n hx hb d_R_hasLine_0 rfl (lv_at hl 0 rfl) ?_
  refine va_get (D := D) (ci := 4) (v := .int fol) (C := "SignMachine$Source") (T := F_R) (N := 9) hx hb hk fi_R hown hK.1 hP 1 rfl rfl 5 (by decide) (hk _ k_543) (fun _ h9 => h9) rfl d_R_hasLine_1 ?_
  refine lv_aload_n hx hb d_R_hasLine_4 rfl (lv_at hl 0 rfl) ?_
  refine va_get (D := D) (ci := 4) (v := .int len) (C := "SignMachine$Source") (T := F_R) (N := 9) hx hb hk fi_R hown hK.1 hP 1 rfl rfl 1 (by decide) (hk _ k_535) (fun _ h9 => h9) rfl d_R_hasLine_5 ?_
  refine lv_icmp_ge (tgt := 15) hx hb d_R_hasLine_8 (by decide) (fun c1 => ?_) (fun c1 => ?_)
  · refine lv_iconst (v := 0) hx hb d_R_hasLine_15 (by decide) ?_
    exact W.zret (v := (0 : Int32)) hx hb hr rfl (fun t ht hW => ⟨(0 : Int32), rfl, by simp only [f_R_hasLine, if_pos c1]; rfl, ht⟩) (fun q h => absurd h List.not_mem_nil) d_R_hasLine_16
  · refine lv_iconst (v := 1) hx hb d_R_hasLine_11 (by decide) ?_
    refine lv_goto (tgt := 16) hx hb d_R_hasLine_12 (by decide) ?_
    exact W.zret (v := (1 : Int32)) hx hb hr rfl (fun t ht hW => ⟨(1 : Int32), rfl, by simp only [f_R_hasLine, if_neg c1]; rfl, ht⟩) (fun q h => absurd h List.not_mem_nil) d_R_hasLine_16
theorem v_R_hasLine {R : Room} {s : State} {args : Array Value} {own : String} {index : Nat} (hk : ∀ w ∈ tb, w.before args s = true) (hl : Cond.methodLink own index y_R_hasLine ∈ tb) (hR : 0 + 1 ≤ R.frames ∧ 8 + (1 + 11) + 0 ≤ R.locals) : CallW R s args own "SignMachine$Source" index y_R_hasLine b_R_hasLine 1 (some .boolean) (.code y_R_hasLine b_R_hasLine 1 (some .boolean) :: tb) ({ frames := 0, cells := 0, slots := 0, locals := 0 }) 0 0 0 := mk_v 0 hk k_722 hl k_720 k_721 k_124 rfl rfl h_R_hasLine hR
def f_R_byteAt (byt : Nat → Int32) (a1 : Int32) : Int32 := (if a1 < (0 : Int32) then (0 : Int32) else (if (4000 : Int32) ≤ a1 then (0 : Int32) else ((byt (a1).toNatClampNeg) &&& (255 : Int32))))
set_option maxHeartbeats 4000000 in
set_option maxRecDepth 100000 in
theorem c_R_byteAt (l : Launch) (D : va_G) (cI cJ cZ cB : ClassId) (g0 g1 g2 g3 g4 g5 g6 g7 g8 g9 g10 g11 g12 g13 g14 g15 : Nat) (flt : Int32) (fln : Int32) (ffr : Int32) (sta : Int32) (plc : Int32) (edd : Int32) (lab : Int64) (lbv : Int32) (opr : Option Nat) (acd : Int32) (akd : Int32) (agl : Int32) (len : Int32) (lin : Int32) (att : Int32) (stp : Int32) (fol : Int32) (skd : Int32) (snm : Int64) (snu : Int32) (byt : Nat → Int32) (ncn : Int32) (nsy : Int32) (nns : Nat → Int64) (nvs : Nat → Int32) (ntd : Nat → Int32) (lvs : Nat → Int32) (ltd : Nat → Int32) (ocn : Int32) (opl : Nat → Int32) (owd : Nat → Int32) (oln : Nat → Int32) (okd : Nat → Int32) (ogl : Nat → Int32) (olo : Nat → Int32) (TL : va_W) (a1 : Int32)  : Met l y_R_byteAt (.code y_R_byteAt b_R_byteAt 2 (some .int) :: tb) ({ frames := 0, cells := 0, slots := 0, locals := 0 }) (pR D cI cJ cZ cB (aW cI cJ cZ cB g0 g1 g2 g3 g4 g5 g6 g7 g8 g9 g10 g11 g12 g13 g14 g15 flt fln ffr sta plc edd lab lbv opr acd akd agl len lin att stp fol skd snm snu byt ncn nsy nns nvs ntd lvs ltd ocn opl owd oln okd ogl olo TL) [.ref g1, .int a1]) (vp_Si (fun r => r = f_R_byteAt byt a1)) 0 0 (fun _ => False) := by
  refine Met.ofW (cc := b_R_byteAt) (maxL := 2) (ret := (some .int)) (by decide) rfl ?_
  intro p e s m args below meth c s₁ B hml hv
  obtain ⟨rfl, hK, hP⟩ := hv
  have hx := B.exec
  have hb := B.bytes
  have hr := B.returns
  have hts := atoms_spec (ws := .code y_R_byteAt b_R_byteAt 2 (some .int) :: tb) B.pre
  have hk : ∀ w ∈ tb, w.before [.ref g1, .int a1].toArray s = true := fun w h => hts w (List.mem_cons_of_mem _ h)
  have hown : s.vm.findClass "SignMachine$Source" = some m.cls := findClass_of_methodNamed B.named
  have hlocks := B.notSynchronized
  have hl := lv_entry ([.ref g1, .int a1]) (n := 2) (Nat.le_of_ble_eq_true rfl)
  rw [lg_entry_eq]
  generalize (lg_sl ([.ref g1, .int a1]) ++ List.replicate (2 - (lg_sl ([.ref g1, .int a1])).length) Slot.unset).toArray = ls at hl ⊢
  have hl : lv_has ls 2 [(0, .ref g1), (1, .int a1)] := hl
  refine lv_iload_n hx hb d_R_byteAt_0 rfl (lv_at hl 1 rfl) ?_
  refine lv_if_lt (tgt := 24) hx hb d_R_byteAt_1 (by decide) (fun c1 => ?_) (fun c1 => ?_)
  · refine lv_iconst (v := 0) hx hb d_R_byteAt_24 (by decide) ?_
    exact W.iret (v := (0 : Int32)) hx hb hr (fun t ht hW => ⟨(0 : Int32), rfl, by simp only [f_R_byteAt, if_pos c1], ht⟩) (fun q h => absurd h List.not_mem_nil) d_R_byteAt_25
  · refine lv_iload_n hx hb d_R_byteAt_4 rfl (lv_at hl 1 rfl) ?_
    refine lv_sipush (v := 4000) hx hb d_R_byteAt_5 (by decide) ?_
    refine lv_icmp_ge (tgt := 24) hx hb d_R_byteAt_8 (by decide) (fun c2 => ?_) (fun c2 => ?_)
    · refine lv_iconst (v := 0) hx hb d_R_byteAt_24 (by decide) ?_
      exact W.iret (v := (0 : Int32)) hx hb hr (fun t ht hW => ⟨(0 : Int32), rfl, by simp only [f_R_byteAt, if_neg c1, if_pos c2], ht⟩) (fun q h => absurd h List.not_mem_nil) d_R_byteAt_25
    · refine lv_aload_n hx hb d_R_byteAt_11 rfl (lv_at hl 0 rfl) ?_
      refine va_get (D := D) (ci := 4) (v := .ref g2) (C := "SignMachine$Source") (T := F_R) (N := 9) hx hb hk fi_R hown hK.1 hP 1 rfl rfl 0 (by decide) (hk _ k_534) (fun _ h9 => h9) rfl d_R_byteAt_12 ?_
      refine lv_iload_n hx hb d_R_byteAt_15 rfl (lv_at hl 1 rfl) ?_
      refine va_bald hx hb hK.1 hP 2 3 rfl rfl (vpin c1 c2 rfl) d_R_byteAt_16 ?_
      refine lv_sipush (v := 255) hx hb d_R_byteAt_17 (by decide) ?_
      refine lv_iand hx hb d_R_byteAt_20 ?_
      refine lv_goto (tgt := 25) hx hb d_R_byteAt_21 (by decide) ?_
      exact W.iret (v := ((byt (a1).toNatClampNeg) &&& (255 : Int32))) hx hb hr (fun t ht hW => ⟨((byt (a1).toNatClampNeg) &&& (255 : Int32)), rfl, by simp only [f_R_byteAt, if_neg c1, if_neg c2], ht⟩) (fun q h => absurd h List.not_mem_nil) d_R_byteAt_25
theorem v_R_byteAt {R : Room} {s : State} {args : Array Value} {own : String} {index : Nat} (hk : ∀ w ∈ tb, w.before args s = true) (hl : Cond.methodLink own index y_R_byteAt ∈ tb) (hR : 0 + 1 ≤ R.frames ∧ 8 + (2 + 11) + 0 ≤ R.locals) : CallW R s args own "SignMachine$Source" index y_R_byteAt b_R_byteAt 2 (some .int) (.code y_R_byteAt b_R_byteAt 2 (some .int) :: tb) ({ frames := 0, cells := 0, slots := 0, locals := 0 }) 0 0 1 := mk_v 1 hk k_734 hl k_732 k_733 k_124 rfl rfl h_R_byteAt hR
def f_R_peek (att : Int32) (stp : Int32) (byt : Nat → Int32)  : Int32 := (if att < (0 : Int32) then (-1 : Int32) else (if stp ≤ att then (-1 : Int32) else (if (4000 : Int32) ≤ att then (-1 : Int32) else ((byt (att).toNatClampNeg) &&& (255 : Int32)))))
set_option maxHeartbeats 4000000 in
set_option maxRecDepth 100000 in
theorem c_R_peek (l : Launch) (D : va_G) (cI cJ cZ cB : ClassId) (g0 g1 g2 g3 g4 g5 g6 g7 g8 g9 g10 g11 g12 g13 g14 g15 : Nat) (flt : Int32) (fln : Int32) (ffr : Int32) (sta : Int32) (plc : Int32) (edd : Int32) (lab : Int64) (lbv : Int32) (opr : Option Nat) (acd : Int32) (akd : Int32) (agl : Int32) (len : Int32) (lin : Int32) (att : Int32) (stp : Int32) (fol : Int32) (skd : Int32) (snm : Int64) (snu : Int32) (byt : Nat → Int32) (ncn : Int32) (nsy : Int32) (nns : Nat → Int64) (nvs : Nat → Int32) (ntd : Nat → Int32) (lvs : Nat → Int32) (ltd : Nat → Int32) (ocn : Int32) (opl : Nat → Int32) (owd : Nat → Int32) (oln : Nat → Int32) (okd : Nat → Int32) (ogl : Nat → Int32) (olo : Nat → Int32) (TL : va_W)   : Met l y_R_peek (.code y_R_peek b_R_peek 1 (some .int) :: tb) ({ frames := 0, cells := 0, slots := 0, locals := 0 }) (pR D cI cJ cZ cB (aW cI cJ cZ cB g0 g1 g2 g3 g4 g5 g6 g7 g8 g9 g10 g11 g12 g13 g14 g15 flt fln ffr sta plc edd lab lbv opr acd akd agl len lin att stp fol skd snm snu byt ncn nsy nns nvs ntd lvs ltd ocn opl owd oln okd ogl olo TL) [.ref g1]) (vp_Si (fun r => r = f_R_peek att stp byt)) 0 0 (fun _ => False) := by
  refine Met.ofW (cc := b_R_peek) (maxL := 1) (ret := (some .int)) (by decide) rfl ?_
  intro p e s m args below meth c s₁ B hml hv
  obtain ⟨rfl, hK, hP⟩ := hv
  have hx := B.exec
  have hb := B.bytes
  have hr := B.returns
  have hts := atoms_spec (ws := .code y_R_peek b_R_peek 1 (some .int) :: tb) B.pre
  have hk : ∀ w ∈ tb, w.before [.ref g1].toArray s = true := fun w h => hts w (List.mem_cons_of_mem _ h)
  have hown : s.vm.findClass "SignMachine$Source" = some m.cls := findClass_of_methodNamed B.named
  have hlocks := B.notSynchronized
  have hl := lv_entry ([.ref g1]) (n := 1) (Nat.le_of_ble_eq_true rfl)
  rw [lg_entry_eq]
  generalize (lg_sl ([.ref g1]) ++ List.replicate (1 - (lg_sl ([.ref g1])).length) Slot.unset).toArray = ls at hl ⊢
  have hl : lv_has ls 1 [(0, .ref g1)] := hl
  refine lv_aload_n hx hb d_R_peek_0 rfl (lv_at hl 0 rfl) ?_
  refine va_get (D := D) (ci := 4) (v := .int att) (C := "SignMachine$Source") (T := F_R) (N := 9) hx hb hk fi_R hown hK.1 hP 1 rfl rfl 3 (by decide) (hk _ k_540) (fun _ h9 => h9) rfl d_R_peek_1 ?_
  refine lv_if_lt (tgt := 44) hx hb d_R_peek_4 (by decide) (fun c1 => ?_) (fun c1 => ?_)
  · refine lv_iconst (v := (-1)) hx hb d_R_peek_44 (by decide) ?_
    exact W.iret (v := (-1 : Int32)) hx hb hr (fun t ht hW => ⟨(-1 : Int32), rfl, by simp only [f_R_peek, if_pos c1], ht⟩) (fun q h => absurd h List.not_mem_nil) d_R_peek_45
  · refine lv_aload_n hx hb d_R_peek_7 rfl (lv_at hl 0 rfl) ?_
    refine va_get (D := D) (ci := 4) (v := .int att) (C := "SignMachine$Source") (T := F_R) (N := 9) hx hb hk fi_R hown hK.1 hP 1 rfl rfl 3 (by decide) (hk _ k_540) (fun _ h9 => h9) rfl d_R_peek_8 ?_
    refine lv_aload_n hx hb d_R_peek_11 rfl (lv_at hl 0 rfl) ?_
    refine va_get (D := D) (ci := 4) (v := .int stp) (C := "SignMachine$Source") (T := F_R) (N := 9) hx hb hk fi_R hown hK.1 hP 1 rfl rfl 4 (by decide) (hk _ k_542) (fun _ h9 => h9) rfl d_R_peek_12 ?_
    refine lv_icmp_ge (tgt := 44) hx hb d_R_peek_15 (by decide) (fun c2 => ?_) (fun c2 => ?_)
    · refine lv_iconst (v := (-1)) hx hb d_R_peek_44 (by decide) ?_
      exact W.iret (v := (-1 : Int32)) hx hb hr (fun t ht hW => ⟨(-1 : Int32), rfl, by simp only [f_R_peek, if_neg c1, if_pos c2], ht⟩) (fun q h => absurd h List.not_mem_nil) d_R_peek_45
    · refine lv_aload_n hx hb d_R_peek_18 rfl (lv_at hl 0 rfl) ?_
      refine va_get (D := D) (ci := 4) (v := .int att) (C := "SignMachine$Source") (T := F_R) (N := 9) hx hb hk fi_R hown hK.1 hP 1 rfl rfl 3 (by decide) (hk _ k_540) (fun _ h9 => h9) rfl d_R_peek_19 ?_
      refine lv_sipush (v := 4000) hx hb d_R_peek_22 (by decide) ?_
      refine lv_icmp_ge (tgt := 44) hx hb d_R_peek_25 (by decide) (fun c3 => ?_) (fun c3 => ?_)
      · refine lv_iconst (v := (-1)) hx hb d_R_peek_44 (by decide) ?_
        exact W.iret (v := (-1 : Int32)) hx hb hr (fun t ht hW => ⟨(-1 : Int32), rfl, by simp only [f_R_peek, if_neg c1, if_neg c2, if_pos c3], ht⟩) (fun q h => absurd h List.not_mem_nil) d_R_peek_45
      · refine lv_aload_n hx hb d_R_peek_28 rfl (lv_at hl 0 rfl) ?_
        refine va_get (D := D) (ci := 4) (v := .ref g2) (C := "SignMachine$Source") (T := F_R) (N := 9) hx hb hk fi_R hown hK.1 hP 1 rfl rfl 0 (by decide) (hk _ k_534) (fun _ h9 => h9) rfl d_R_peek_29 ?_
        refine lv_aload_n hx hb d_R_peek_32 rfl (lv_at hl 0 rfl) ?_
        refine va_get (D := D) (ci := 4) (v := .int att) (C := "SignMachine$Source") (T := F_R) (N := 9) hx hb hk fi_R hown hK.1 hP 1 rfl rfl 3 (by decide) (hk _ k_540) (fun _ h9 => h9) rfl d_R_peek_33 ?_
        refine va_bald hx hb hK.1 hP 2 3 rfl rfl (vpin c1 c3 rfl) d_R_peek_36 ?_
        refine lv_sipush (v := 255) hx hb d_R_peek_37 (by decide) ?_
        refine lv_iand hx hb d_R_peek_40 ?_
        refine lv_goto (tgt := 45) hx hb d_R_peek_41 (by decide) ?_
        exact W.iret (v := ((byt (att).toNatClampNeg) &&& (255 : Int32))) hx hb hr (fun t ht hW => ⟨((byt (att).toNatClampNeg) &&& (255 : Int32)), rfl, by simp only [f_R_peek, if_neg c1, if_neg c2, if_neg c3], ht⟩) (fun q h => absurd h List.not_mem_nil) d_R_peek_45
theorem v_R_peek {R : Room} {s : State} {args : Array Value} {own : String} {index : Nat} (hk : ∀ w ∈ tb, w.before args s = true) (hl : Cond.methodLink own index y_R_peek ∈ tb) (hR : 0 + 1 ≤ R.frames ∧ 8 + (1 + 11) + 0 ≤ R.locals) : CallW R s args own "SignMachine$Source" index y_R_peek b_R_peek 1 (some .int) (.code y_R_peek b_R_peek 1 (some .int) :: tb) ({ frames := 0, cells := 0, slots := 0, locals := 0 }) 0 0 0 := mk_v 0 hk k_742 hl k_740 k_741 k_124 rfl rfl h_R_peek hR
def f_R_skip (att : Int32)  : (Int32) := ((att + (1 : Int32)))
set_option maxHeartbeats 4000000 in
set_option maxRecDepth 100000 in
theorem c_R_skip (l : Launch) (D : va_G) (cI cJ cZ cB : ClassId) (g0 g1 g2 g3 g4 g5 g6 g7 g8 g9 g10 g11 g12 g13 g14 g15 : Nat) (sz : Nat) (flt : Int32) (fln : Int32) (ffr : Int32) (sta : Int32) (plc : Int32) (edd : Int32) (lab : Int64) (lbv : Int32) (opr : Option Nat) (acd : Int32) (akd : Int32) (agl : Int32) (len : Int32) (lin : Int32) (att : Int32) (stp : Int32) (fol : Int32) (skd : Int32) (snm : Int64) (snu : Int32) (byt : Nat → Int32) (ncn : Int32) (nsy : Int32) (nns : Nat → Int64) (nvs : Nat → Int32) (ntd : Nat → Int32) (lvs : Nat → Int32) (ltd : Nat → Int32) (ocn : Int32) (opl : Nat → Int32) (owd : Nat → Int32) (oln : Nat → Int32) (okd : Nat → Int32) (ogl : Nat → Int32) (olo : Nat → Int32) (TL : va_W)  : Met l y_R_skip (.code y_R_skip b_R_skip 1 none :: tb) ({ frames := 0, cells := 0, slots := 0, locals := 0 }) (pM D cI cJ cZ cB (aW cI cJ cZ cB g0 g1 g2 g3 g4 g5 g6 g7 g8 g9 g10 g11 g12 g13 g14 g15 flt fln ffr sta plc edd lab lbv opr acd akd agl len lin att stp fol skd snm snu byt ncn nsy nns nvs ntd lvs ltd ocn opl owd oln okd ogl olo TL) sz [.ref g1]) (qV D (fun u => u = f_R_skip att) (fun (u : (Int32)) => match u with | u_att => (aW cI cJ cZ cB g0 g1 g2 g3 g4 g5 g6 g7 g8 g9 g10 g11 g12 g13 g14 g15 flt fln ffr sta plc edd lab lbv opr acd akd agl len lin u_att stp fol skd snm snu byt ncn nsy nns nvs ntd lvs ltd ocn opl owd oln okd ogl olo TL)) (va_A (aW cI cJ cZ cB g0 g1 g2 g3 g4 g5 g6 g7 g8 g9 g10 g11 g12 g13 g14 g15 flt fln ffr sta plc edd lab lbv opr acd akd agl len lin att stp fol skd snm snu byt ncn nsy nns nvs ntd lvs ltd ocn opl owd oln okd ogl olo TL) sz)) 0 0 (va_A (aW cI cJ cZ cB g0 g1 g2 g3 g4 g5 g6 g7 g8 g9 g10 g11 g12 g13 g14 g15 flt fln ffr sta plc edd lab lbv opr acd akd agl len lin att stp fol skd snm snu byt ncn nsy nns nvs ntd lvs ltd ocn opl owd oln okd ogl olo TL) sz) := by
  refine Met.ofW (cc := b_R_skip) (maxL := 1) (ret := none) (by decide) rfl ?_
  intro p e s m args below meth c s₁ B hml hv
  obtain ⟨rfl, hsz, hK, hP, hD0⟩ := hv
  subst hsz
  have hD := hD0.self (sz := s.heap.size)
  generalize hAe : va_A (aW cI cJ cZ cB g0 g1 g2 g3 g4 g5 g6 g7 g8 g9 g10 g11 g12 g13 g14 g15 flt fln ffr sta plc edd lab lbv opr acd akd agl len lin att stp fol skd snm snu byt ncn nsy nns nvs ntd lvs ltd ocn opl owd oln okd ogl olo TL) s.heap.size = A at hD ⊢
  have hA : ∀ q : Nat, s.heap.size ≤ q → A q := fun q h => by rw [← hAe]; exact Or.inr h
  have hS : va_S A s.heap s.heap [] := va_S.rf
  have hx := B.exec
  have hb := B.bytes
  have hr := B.returns
  have hts := atoms_spec (ws := .code y_R_skip b_R_skip 1 none :: tb) B.pre
  have hk : ∀ w ∈ tb, w.before [.ref g1].toArray s = true := fun w h => hts w (List.mem_cons_of_mem _ h)
  have hown : s.vm.findClass "SignMachine$Source" = some m.cls := findClass_of_methodNamed B.named
  have hlocks := B.notSynchronized
  have hl := lv_entry ([.ref g1]) (n := 1) (Nat.le_of_ble_eq_true rfl)
  rw [lg_entry_eq]
  generalize (lg_sl ([.ref g1]) ++ List.replicate (1 - (lg_sl ([.ref g1])).length) Slot.unset).toArray = ls at hl ⊢
  have hl : lv_has ls 1 [(0, .ref g1)] := hl
  refine lv_aload_n hx hb d_R_skip_0 rfl (lv_at hl 0 rfl) ?_
  refine lv_dup hx hb d_R_skip_1 rfl ?_
  refine va_get (D := D) (ci := 4) (v := .int att) (C := "SignMachine$Source") (T := F_R) (N := 9) hx hb hk fi_R hown hK.1 hP 1 rfl rfl 3 (by decide) (hk _ k_540) (fun _ h9 => h9) rfl d_R_skip_2 ?_
  refine lv_iconst (v := 1) hx hb d_R_skip_5 (by decide) ?_
  refine lv_iadd hx hb d_R_skip_6 ?_
  refine va_put (D := D) (ci := 4) (v := .int (att + (1 : Int32))) (ty := .int) (C := "SignMachine$Source") (T := F_R) (N := 9) hx hb hk fi_R ft_R ft_R_ok fn_R hown hK.1 hP hD hS 1 rfl rfl 3 (by decide) (hk _ k_540) (fun _ h9 => h9) rfl (by decide +kernel) rfl rfl (Nat.le_of_ble_eq_true rfl) d_R_skip_7 (fun H locs hP hD hS => ?_)
  have hP : va_P D classes (aW cI cJ cZ cB g0 g1 g2 g3 g4 g5 g6 g7 g8 g9 g10 g11 g12 g13 g14 g15 flt fln ffr sta plc edd lab lbv opr acd akd agl len lin (att + (1 : Int32)) stp fol skd snm snu byt ncn nsy nns nvs ntd lvs ltd ocn opl owd oln okd ogl olo TL) H := hP
  have hD : va_D A (aW cI cJ cZ cB g0 g1 g2 g3 g4 g5 g6 g7 g8 g9 g10 g11 g12 g13 g14 g15 flt fln ffr sta plc edd lab lbv opr acd akd agl len lin (att + (1 : Int32)) stp fol skd snm snu byt ncn nsy nns nvs ntd lvs ltd ocn opl owd oln okd ogl olo TL) := hD
  exact W.vret hx hb hr (fun t ht hW => ⟨⟨((att + (1 : Int32))), rfl, by simp only [f_R_skip], by show va_P D classes _ t.heap; rw [ht]; exact hP⟩, hS.F ht⟩) hS.2.2 d_R_skip_10
theorem v_R_skip {R : Room} {s : State} {args : Array Value} {own : String} {index : Nat} (hk : ∀ w ∈ tb, w.before args s = true) (hl : Cond.methodLink own index y_R_skip ∈ tb) (hR : 0 + 1 ≤ R.frames ∧ 8 + (1 + 11) + 0 ≤ R.locals) : CallW R s args own "SignMachine$Source" index y_R_skip b_R_skip 1 none (.code y_R_skip b_R_skip 1 none :: tb) ({ frames := 0, cells := 0, slots := 0, locals := 0 }) 0 0 0 := mk_v 0 hk k_963 hl k_961 k_962 k_124 rfl rfl h_R_skip hR
def f_R_takes (att : Int32) (stp : Int32) (byt : Nat → Int32) (a1 : Int32) : Int32 × (Int32) := (if (f_R_peek att stp byt ) = a1 then ((1 : Int32), (att + (1 : Int32))) else ((0 : Int32), att))
set_option maxHeartbeats 4000000 in
set_option maxRecDepth 100000 in
theorem c_R_takes (l : Launch) (D : va_G) (cI cJ cZ cB : ClassId) (g0 g1 g2 g3 g4 g5 g6 g7 g8 g9 g10 g11 g12 g13 g14 g15 : Nat) (sz : Nat) (flt : Int32) (fln : Int32) (ffr : Int32) (sta : Int32) (plc : Int32) (edd : Int32) (lab : Int64) (lbv : Int32) (opr : Option Nat) (acd : Int32) (akd : Int32) (agl : Int32) (len : Int32) (lin : Int32) (att : Int32) (stp : Int32) (fol : Int32) (skd : Int32) (snm : Int64) (snu : Int32) (byt : Nat → Int32) (ncn : Int32) (nsy : Int32) (nns : Nat → Int64) (nvs : Nat → Int32) (ntd : Nat → Int32) (lvs : Nat → Int32) (ltd : Nat → Int32) (ocn : Int32) (opl : Nat → Int32) (owd : Nat → Int32) (oln : Nat → Int32) (okd : Nat → Int32) (ogl : Nat → Int32) (olo : Nat → Int32) (TL : va_W) (a1 : Int32) : Met l y_R_takes (.code y_R_takes b_R_takes 2 (some .boolean) :: tb) ({ frames := 1, cells := 0, slots := 0, locals := 20 }) (pM D cI cJ cZ cB (aW cI cJ cZ cB g0 g1 g2 g3 g4 g5 g6 g7 g8 g9 g10 g11 g12 g13 g14 g15 flt fln ffr sta plc edd lab lbv opr acd akd agl len lin att stp fol skd snm snu byt ncn nsy nns nvs ntd lvs ltd ocn opl owd oln okd ogl olo TL) sz [.ref g1, .int a1]) (qI D (fun r u => (r, u) = f_R_takes att stp byt a1) (fun (u : (Int32)) => match u with | u_att => (aW cI cJ cZ cB g0 g1 g2 g3 g4 g5 g6 g7 g8 g9 g10 g11 g12 g13 g14 g15 flt fln ffr sta plc edd lab lbv opr acd akd agl len lin u_att stp fol skd snm snu byt ncn nsy nns nvs ntd lvs ltd ocn opl owd oln okd ogl olo TL)) (va_A (aW cI cJ cZ cB g0 g1 g2 g3 g4 g5 g6 g7 g8 g9 g10 g11 g12 g13 g14 g15 flt fln ffr sta plc edd lab lbv opr acd akd agl len lin att stp fol skd snm snu byt ncn nsy nns nvs ntd lvs ltd ocn opl owd oln okd ogl olo TL) sz)) 0 0 (va_A (aW cI cJ cZ cB g0 g1 g2 g3 g4 g5 g6 g7 g8 g9 g10 g11 g12 g13 g14 g15 flt fln ffr sta plc edd lab lbv opr acd akd agl len lin att stp fol skd snm snu byt ncn nsy nns nvs ntd lvs ltd ocn opl owd oln okd ogl olo TL) sz) := by
  refine Met.ofW (cc := b_R_takes) (maxL := 2) (ret := (some .boolean)) (by decide) rfl ?_
  intro p e s m args below meth c s₁ B hml hv
  obtain ⟨rfl, hsz, hK, hP, hD0⟩ := hv
  subst hsz
  have hD := hD0.self (sz := s.heap.size)
  generalize hAe : va_A (aW cI cJ cZ cB g0 g1 g2 g3 g4 g5 g6 g7 g8 g9 g10 g11 g12 g13 g14 g15 flt fln ffr sta plc edd lab lbv opr acd akd agl len lin att stp fol skd snm snu byt ncn nsy nns nvs ntd lvs ltd ocn opl owd oln okd ogl olo TL) s.heap.size = A at hD ⊢
  have hA : ∀ q : Nat, s.heap.size ≤ q → A q := fun q h => by rw [← hAe]; exact Or.inr h
  have hS : va_S A s.heap s.heap [] := va_S.rf
  have hx := B.exec
  have hb := B.bytes
  have hr := B.returns
  have hts := atoms_spec (ws := .code y_R_takes b_R_takes 2 (some .boolean) :: tb) B.pre
  have hk : ∀ w ∈ tb, w.before [.ref g1, .int a1].toArray s = true := fun w h => hts w (List.mem_cons_of_mem _ h)
  have hown : s.vm.findClass "SignMachine$Source" = some m.cls := findClass_of_methodNamed B.named
  have hlocks := B.notSynchronized
  have hl := lv_entry ([.ref g1, .int a1]) (n := 2) (Nat.le_of_ble_eq_true rfl)
  rw [lg_entry_eq]
  generalize (lg_sl ([.ref g1, .int a1]) ++ List.replicate (2 - (lg_sl ([.ref g1, .int a1])).length) Slot.unset).toArray = ls at hl ⊢
  have hl : lv_has ls 2 [(0, .ref g1), (1, .int a1)] := hl
  refine lv_aload_n hx hb d_R_takes_0 rfl (lv_at hl 0 rfl) ?_
  refine cs_i (W.runV (C := "SignMachine$Source") (As := []) (rest := []) ⟨hx, hb, hml, hown, hk⟩ (c_R_peek l D cI cJ cZ cB g0 g1 g2 g3 g4 g5 g6 g7 g8 g9 g10 g11 g12 g13 g14 g15 flt fln ffr sta plc edd lab lbv opr acd akd agl len lin att stp fol skd snm snu byt ncn nsy nns nvs ntd lvs ltd ocn opl owd oln okd ogl olo TL ) (v_R_peek hk k_747 ⟨Nat.le_of_ble_eq_true rfl, Nat.le_of_ble_eq_true rfl⟩) (pR_v hK hP (ci := 4) (q0 := 1) rfl rfl rfl) rfl rfl hl.1 rfl (lv_room (Nat.le_of_ble_eq_true rfl)) d_R_takes_1 ⟨Nat.le_of_ble_eq_true rfl, Nat.le_of_ble_eq_true rfl⟩) ?_
  refine lv_iload_n hx hb d_R_takes_4 rfl (lv_at hl 1 rfl) ?_
  refine lv_icmp_eq (tgt := 10) hx hb d_R_takes_5 (by decide) (fun c1 => ?_) (fun c1 => ?_)
  · refine lv_aload_n hx hb d_R_takes_10 rfl (lv_at hl 0 rfl) ?_
    refine lv_dup hx hb d_R_takes_11 rfl ?_
    refine va_get (D := D) (ci := 4) (v := .int att) (C := "SignMachine$Source") (T := F_R) (N := 9) hx hb hk fi_R hown hK.1 hP 1 rfl rfl 3 (by decide) (hk _ k_540) (fun _ h9 => h9) rfl d_R_takes_12 ?_
    refine lv_iconst (v := 1) hx hb d_R_takes_15 (by decide) ?_
    refine lv_iadd hx hb d_R_takes_16 ?_
    refine va_put (D := D) (ci := 4) (v := .int (att + (1 : Int32))) (ty := .int) (C := "SignMachine$Source") (T := F_R) (N := 9) hx hb hk fi_R ft_R ft_R_ok fn_R hown hK.1 hP hD hS 1 rfl rfl 3 (by decide) (hk _ k_540) (fun _ h9 => h9) rfl (by decide +kernel) rfl rfl (Nat.le_of_ble_eq_true rfl) d_R_takes_17 (fun H locs hP hD hS => ?_)
    have hP : va_P D classes (aW cI cJ cZ cB g0 g1 g2 g3 g4 g5 g6 g7 g8 g9 g10 g11 g12 g13 g14 g15 flt fln ffr sta plc edd lab lbv opr acd akd agl len lin (att + (1 : Int32)) stp fol skd snm snu byt ncn nsy nns nvs ntd lvs ltd ocn opl owd oln okd ogl olo TL) H := hP
    have hD : va_D A (aW cI cJ cZ cB g0 g1 g2 g3 g4 g5 g6 g7 g8 g9 g10 g11 g12 g13 g14 g15 flt fln ffr sta plc edd lab lbv opr acd akd agl len lin (att + (1 : Int32)) stp fol skd snm snu byt ncn nsy nns nvs ntd lvs ltd ocn opl owd oln okd ogl olo TL) := hD
    refine lv_iconst (v := 1) hx hb d_R_takes_20 (by decide) ?_
    exact W.zret (v := (1 : Int32)) hx hb hr rfl (fun t ht hW => ⟨⟨(1 : Int32), ((att + (1 : Int32))), rfl, by simp only [f_R_takes, if_pos c1], by show va_P D classes _ t.heap; rw [ht]; exact hP⟩, hS.F ht⟩) hS.2.2 d_R_takes_21
  · refine lv_iconst (v := 0) hx hb d_R_takes_8 (by decide) ?_
    exact W.zret (v := (0 : Int32)) hx hb hr rfl (fun t ht hW => ⟨⟨(0 : Int32), (att), rfl, by simp only [f_R_takes, if_neg c1], by show va_P D classes _ t.heap; rw [ht]; exact hP⟩, hS.F ht⟩) hS.2.2 d_R_takes_9
theorem v_R_takes {R : Room} {s : State} {args : Array Value} {own : String} {index : Nat} (hk : ∀ w ∈ tb, w.before args s = true) (hl : Cond.methodLink own index y_R_takes ∈ tb) (hR : 1 + 1 ≤ R.frames ∧ 8 + (2 + 11) + 20 ≤ R.locals) : CallW R s args own "SignMachine$Source" index y_R_takes b_R_takes 2 (some .boolean) (.code y_R_takes b_R_takes 2 (some .boolean) :: tb) ({ frames := 1, cells := 0, slots := 0, locals := 20 }) 0 0 1 := mk_v 1 hk k_957 hl k_955 k_956 k_124 rfl rfl h_R_takes hR
def f_N_valueOf (nvs : Nat → Int32) (a1 : Int32) : Int32 := (if a1 < (0 : Int32) then (0 : Int32) else (if (100 : Int32) ≤ a1 then (0 : Int32) else (nvs (a1).toNatClampNeg)))
set_option maxHeartbeats 4000000 in
set_option maxRecDepth 100000 in
theorem c_N_valueOf (l : Launch) (D : va_G) (cI cJ cZ cB : ClassId) (g0 g1 g2 g3 g4 g5 g6 g7 g8 g9 g10 g11 g12 g13 g14 g15 : Nat) (flt : Int32) (fln : Int32) (ffr : Int32) (sta : Int32) (plc : Int32) (edd : Int32) (lab : Int64) (lbv : Int32) (opr : Option Nat) (acd : Int32) (akd : Int32) (agl : Int32) (len : Int32) (lin : Int32) (att : Int32) (stp : Int32) (fol : Int32) (skd : Int32) (snm : Int64) (snu : Int32) (byt : Nat → Int32) (ncn : Int32) (nsy : Int32) (nns : Nat → Int64) (nvs : Nat → Int32) (ntd : Nat → Int32) (lvs : Nat → Int32) (ltd : Nat → Int32) (ocn : Int32) (opl : Nat → Int32) (owd : Nat → Int32) (oln : Nat → Int32) (okd : Nat → Int32) (ogl : Nat → Int32) (olo : Nat → Int32) (TL : va_W) (a1 : Int32)  : Met l y_N_valueOf (.code y_N_valueOf b_N_valueOf 2 (some .int) :: tb) ({ frames := 0, cells := 0, slots := 0, locals := 0 }) (pR D cI cJ cZ cB (aW cI cJ cZ cB g0 g1 g2 g3 g4 g5 g6 g7 g8 g9 g10 g11 g12 g13 g14 g15 flt fln ffr sta plc edd lab lbv opr acd akd agl len lin att stp fol skd snm snu byt ncn nsy nns nvs ntd lvs ltd ocn opl owd oln okd ogl olo TL) [.ref g3, .int a1]) (vp_Si (fun r => r = f_N_valueOf nvs a1)) 0 0 (fun _ => False) := by
  refine Met.ofW (cc := b_N_valueOf) (maxL := 2) (ret := (some .int)) (by decide) rfl ?_
  intro p e s m args below meth c s₁ B hml hv
  obtain ⟨rfl, hK, hP⟩ := hv
  have hx := B.exec
  have hb := B.bytes
  have hr := B.returns
  have hts := atoms_spec (ws := .code y_N_valueOf b_N_valueOf 2 (some .int) :: tb) B.pre
  have hk : ∀ w ∈ tb, w.before [.ref g3, .int a1].toArray s = true := fun w h => hts w (List.mem_cons_of_mem _ h)
  have hown : s.vm.findClass "SignMachine$Names" = some m.cls := findClass_of_methodNamed B.named
  have hlocks := B.notSynchronized
  have hl := lv_entry ([.ref g3, .int a1]) (n := 2) (Nat.le_of_ble_eq_true rfl)
  rw [lg_entry_eq]
  generalize (lg_sl ([.ref g3, .int a1]) ++ List.replicate (2 - (lg_sl ([.ref g3, .int a1])).length) Slot.unset).toArray = ls at hl ⊢
  have hl : lv_has ls 2 [(0, .ref g3), (1, .int a1)] := hl
  refine lv_iload_n hx hb d_N_valueOf_0 rfl (lv_at hl 1 rfl) ?_
  refine lv_if_lt (tgt := 19) hx hb d_N_valueOf_1 (by decide) (fun c1 => ?_) (fun c1 => ?_)
  · refine lv_iconst (v := 0) hx hb d_N_valueOf_19 (by decide) ?_
    exact W.iret (v := (0 : Int32)) hx hb hr (fun t ht hW => ⟨(0 : Int32), rfl, by simp only [f_N_valueOf, if_pos c1], ht⟩) (fun q h => absurd h List.not_mem_nil) d_N_valueOf_20
  · refine lv_iload_n hx hb d_N_valueOf_4 rfl (lv_at hl 1 rfl) ?_
    refine lv_bipush (v := 100) hx hb d_N_valueOf_5 (by decide) ?_
    refine lv_icmp_ge (tgt := 19) hx hb d_N_valueOf_7 (by decide) (fun c2 => ?_) (fun c2 => ?_)
    · refine lv_iconst (v := 0) hx hb d_N_valueOf_19 (by decide) ?_
      exact W.iret (v := (0 : Int32)) hx hb hr (fun t ht hW => ⟨(0 : Int32), rfl, by simp only [f_N_valueOf, if_neg c1, if_pos c2], ht⟩) (fun q h => absurd h List.not_mem_nil) d_N_valueOf_20
    · refine lv_aload_n hx hb d_N_valueOf_10 rfl (lv_at hl 0 rfl) ?_
      refine va_get (D := D) (ci := 5) (v := .ref g5) (C := "SignMachine$Names") (T := F_N) (N := 7) hx hb hk fi_N hown hK.1 hP 3 rfl rfl 1 (by decide) (hk _ k_577) (fun _ h9 => h9) rfl d_N_valueOf_11 ?_
      refine lv_iload_n hx hb d_N_valueOf_14 rfl (lv_at hl 1 rfl) ?_
      refine va_iald hx hb hK.1 hP 5 0 rfl rfl (vpin c1 c2 rfl) d_N_valueOf_15 ?_
      refine lv_goto (tgt := 20) hx hb d_N_valueOf_16 (by decide) ?_
      exact W.iret (v := (nvs (a1).toNatClampNeg)) hx hb hr (fun t ht hW => ⟨(nvs (a1).toNatClampNeg), rfl, by simp only [f_N_valueOf, if_neg c1, if_neg c2], ht⟩) (fun q h => absurd h List.not_mem_nil) d_N_valueOf_20
theorem v_N_valueOf {R : Room} {s : State} {args : Array Value} {own : String} {index : Nat} (hk : ∀ w ∈ tb, w.before args s = true) (hl : Cond.methodLink own index y_N_valueOf ∈ tb) (hR : 0 + 1 ≤ R.frames ∧ 8 + (2 + 11) + 0 ≤ R.locals) : CallW R s args own "SignMachine$Names" index y_N_valueOf b_N_valueOf 2 (some .int) (.code y_N_valueOf b_N_valueOf 2 (some .int) :: tb) ({ frames := 0, cells := 0, slots := 0, locals := 0 }) 0 0 1 := mk_v 1 hk k_1008 hl k_1006 k_1007 k_125 rfl rfl h_N_valueOf hR
def f_N_isTold (ntd : Nat → Int32) (a1 : Int32) : Bool := (if a1 < (0 : Int32) then false else (if (100 : Int32) ≤ a1 then false else (if (ntd (a1).toNatClampNeg) = (0 : Int32) then false else true)))
set_option maxHeartbeats 4000000 in
set_option maxRecDepth 100000 in
theorem c_N_isTold (l : Launch) (D : va_G) (cI cJ cZ cB : ClassId) (g0 g1 g2 g3 g4 g5 g6 g7 g8 g9 g10 g11 g12 g13 g14 g15 : Nat) (flt : Int32) (fln : Int32) (ffr : Int32) (sta : Int32) (plc : Int32) (edd : Int32) (lab : Int64) (lbv : Int32) (opr : Option Nat) (acd : Int32) (akd : Int32) (agl : Int32) (len : Int32) (lin : Int32) (att : Int32) (stp : Int32) (fol : Int32) (skd : Int32) (snm : Int64) (snu : Int32) (byt : Nat → Int32) (ncn : Int32) (nsy : Int32) (nns : Nat → Int64) (nvs : Nat → Int32) (ntd : Nat → Int32) (lvs : Nat → Int32) (ltd : Nat → Int32) (ocn : Int32) (opl : Nat → Int32) (owd : Nat → Int32) (oln : Nat → Int32) (okd : Nat → Int32) (ogl : Nat → Int32) (olo : Nat → Int32) (TL : va_W) (a1 : Int32)  : Met l y_N_isTold (.code y_N_isTold b_N_isTold 2 (some .boolean) :: tb) ({ frames := 0, cells := 0, slots := 0, locals := 0 }) (pR D cI cJ cZ cB (aW cI cJ cZ cB g0 g1 g2 g3 g4 g5 g6 g7 g8 g9 g10 g11 g12 g13 g14 g15 flt fln ffr sta plc edd lab lbv opr acd akd agl len lin att stp fol skd snm snu byt ncn nsy nns nvs ntd lvs ltd ocn opl owd oln okd ogl olo TL) [.ref g3, .int a1]) (vp_Si (fun r => r = bI (f_N_isTold ntd a1))) 0 0 (fun _ => False) := by
  refine Met.ofW (cc := b_N_isTold) (maxL := 2) (ret := (some .boolean)) (by decide) rfl ?_
  intro p e s m args below meth c s₁ B hml hv
  obtain ⟨rfl, hK, hP⟩ := hv
  have hx := B.exec
  have hb := B.bytes
  have hr := B.returns
  have hts := atoms_spec (ws := .code y_N_isTold b_N_isTold 2 (some .boolean) :: tb) B.pre
  have hk : ∀ w ∈ tb, w.before [.ref g3, .int a1].toArray s = true := fun w h => hts w (List.mem_cons_of_mem _ h)
  have hown : s.vm.findClass "SignMachine$Names" = some m.cls := findClass_of_methodNamed B.named
  have hlocks := B.notSynchronized
  have hl := lv_entry ([.ref g3, .int a1]) (n := 2) (Nat.le_of_ble_eq_true rfl)
  rw [lg_entry_eq]
  generalize (lg_sl ([.ref g3, .int a1]) ++ List.replicate (2 - (lg_sl ([.ref g3, .int a1])).length) Slot.unset).toArray = ls at hl ⊢
  have hl : lv_has ls 2 [(0, .ref g3), (1, .int a1)] := hl
  refine lv_iload_n hx hb d_N_isTold_0 rfl (lv_at hl 1 rfl) ?_
  refine lv_if_lt (tgt := 23) hx hb d_N_isTold_1 (by decide) (fun c1 => ?_) (fun c1 => ?_)
  · refine lv_iconst (v := 0) hx hb d_N_isTold_23 (by decide) ?_
    exact W.zret (v := (0 : Int32)) hx hb hr rfl (fun t ht hW => ⟨(0 : Int32), rfl, by simp only [f_N_isTold, if_pos c1]; rfl, ht⟩) (fun q h => absurd h List.not_mem_nil) d_N_isTold_24
  · refine lv_iload_n hx hb d_N_isTold_4 rfl (lv_at hl 1 rfl) ?_
    refine lv_bipush (v := 100) hx hb d_N_isTold_5 (by decide) ?_
    refine lv_icmp_ge (tgt := 23) hx hb d_N_isTold_7 (by decide) (fun c2 => ?_) (fun c2 => ?_)
    · refine lv_iconst (v := 0) hx hb d_N_isTold_23 (by decide) ?_
      exact W.zret (v := (0 : Int32)) hx hb hr rfl (fun t ht hW => ⟨(0 : Int32), rfl, by simp only [f_N_isTold, if_neg c1, if_pos c2]; rfl, ht⟩) (fun q h => absurd h List.not_mem_nil) d_N_isTold_24
    · refine lv_aload_n hx hb d_N_isTold_10 rfl (lv_at hl 0 rfl) ?_
      refine va_get (D := D) (ci := 5) (v := .ref g6) (C := "SignMachine$Names") (T := F_N) (N := 7) hx hb hk fi_N hown hK.1 hP 3 rfl rfl 2 (by decide) (hk _ k_578) (fun _ h9 => h9) rfl d_N_isTold_11 ?_
      refine lv_iload_n hx hb d_N_isTold_14 rfl (lv_at hl 1 rfl) ?_
      refine va_zald hx hb hK.1 hP 6 2 rfl rfl (vpin c1 c2 rfl) d_N_isTold_15 ?_
      refine lv_if_eq (tgt := 23) hx hb d_N_isTold_16 (by decide) (fun c3 => ?_) (fun c3 => ?_)
      · refine lv_iconst (v := 0) hx hb d_N_isTold_23 (by decide) ?_
        exact W.zret (v := (0 : Int32)) hx hb hr rfl (fun t ht hW => ⟨(0 : Int32), rfl, by simp only [f_N_isTold, if_neg c1, if_neg c2, if_pos c3]; rfl, ht⟩) (fun q h => absurd h List.not_mem_nil) d_N_isTold_24
      · refine lv_iconst (v := 1) hx hb d_N_isTold_19 (by decide) ?_
        refine lv_goto (tgt := 24) hx hb d_N_isTold_20 (by decide) ?_
        exact W.zret (v := (1 : Int32)) hx hb hr rfl (fun t ht hW => ⟨(1 : Int32), rfl, by simp only [f_N_isTold, if_neg c1, if_neg c2, if_neg c3]; rfl, ht⟩) (fun q h => absurd h List.not_mem_nil) d_N_isTold_24
theorem v_N_isTold {R : Room} {s : State} {args : Array Value} {own : String} {index : Nat} (hk : ∀ w ∈ tb, w.before args s = true) (hl : Cond.methodLink own index y_N_isTold ∈ tb) (hR : 0 + 1 ≤ R.frames ∧ 8 + (2 + 11) + 0 ≤ R.locals) : CallW R s args own "SignMachine$Names" index y_N_isTold b_N_isTold 2 (some .boolean) (.code y_N_isTold b_N_isTold 2 (some .boolean) :: tb) ({ frames := 0, cells := 0, slots := 0, locals := 0 }) 0 0 1 := mk_v 1 hk k_931 hl k_929 k_930 k_125 rfl rfl h_N_isTold hR
def f_N_tell (nvs : Nat → Int32) (ntd : Nat → Int32) (a1 : Int32) (a2 : Int32) : (Nat → Int32) × (Nat → Int32) := (if a1 < (0 : Int32) then (nvs, ntd) else (if (100 : Int32) ≤ a1 then (nvs, ntd) else ((upd nvs (a1).toNatClampNeg a2), (upd ntd (a1).toNatClampNeg (vp_nar .boolean (1 : Int32))))))
set_option maxHeartbeats 4000000 in
set_option maxRecDepth 100000 in
theorem c_N_tell (l : Launch) (D : va_G) (cI cJ cZ cB : ClassId) (g0 g1 g2 g3 g4 g5 g6 g7 g8 g9 g10 g11 g12 g13 g14 g15 : Nat) (sz : Nat) (flt : Int32) (fln : Int32) (ffr : Int32) (sta : Int32) (plc : Int32) (edd : Int32) (lab : Int64) (lbv : Int32) (opr : Option Nat) (acd : Int32) (akd : Int32) (agl : Int32) (len : Int32) (lin : Int32) (att : Int32) (stp : Int32) (fol : Int32) (skd : Int32) (snm : Int64) (snu : Int32) (byt : Nat → Int32) (ncn : Int32) (nsy : Int32) (nns : Nat → Int64) (nvs : Nat → Int32) (ntd : Nat → Int32) (lvs : Nat → Int32) (ltd : Nat → Int32) (ocn : Int32) (opl : Nat → Int32) (owd : Nat → Int32) (oln : Nat → Int32) (okd : Nat → Int32) (ogl : Nat → Int32) (olo : Nat → Int32) (TL : va_W) (a1 : Int32) (a2 : Int32) : Met l y_N_tell (.code y_N_tell b_N_tell 3 none :: tb) ({ frames := 0, cells := 0, slots := 0, locals := 0 }) (pM D cI cJ cZ cB (aW cI cJ cZ cB g0 g1 g2 g3 g4 g5 g6 g7 g8 g9 g10 g11 g12 g13 g14 g15 flt fln ffr sta plc edd lab lbv opr acd akd agl len lin att stp fol skd snm snu byt ncn nsy nns nvs ntd lvs ltd ocn opl owd oln okd ogl olo TL) sz [.ref g3, .int a1, .int a2]) (qV D (fun u => u = f_N_tell nvs ntd a1 a2) (fun (u : (Nat → Int32) × (Nat → Int32)) => match u with | (u_nvs, u_ntd) => (aW cI cJ cZ cB g0 g1 g2 g3 g4 g5 g6 g7 g8 g9 g10 g11 g12 g13 g14 g15 flt fln ffr sta plc edd lab lbv opr acd akd agl len lin att stp fol skd snm snu byt ncn nsy nns u_nvs u_ntd lvs ltd ocn opl owd oln okd ogl olo TL)) (va_A (aW cI cJ cZ cB g0 g1 g2 g3 g4 g5 g6 g7 g8 g9 g10 g11 g12 g13 g14 g15 flt fln ffr sta plc edd lab lbv opr acd akd agl len lin att stp fol skd snm snu byt ncn nsy nns nvs ntd lvs ltd ocn opl owd oln okd ogl olo TL) sz)) 0 0 (va_A (aW cI cJ cZ cB g0 g1 g2 g3 g4 g5 g6 g7 g8 g9 g10 g11 g12 g13 g14 g15 flt fln ffr sta plc edd lab lbv opr acd akd agl len lin att stp fol skd snm snu byt ncn nsy nns nvs ntd lvs ltd ocn opl owd oln okd ogl olo TL) sz) := by
  refine Met.ofW (cc := b_N_tell) (maxL := 3) (ret := none) (by decide) rfl ?_
  intro p e s m args below meth c s₁ B hml hv
  obtain ⟨rfl, hsz, hK, hP, hD0⟩ := hv
  subst hsz
  have hD := hD0.self (sz := s.heap.size)
  generalize hAe : va_A (aW cI cJ cZ cB g0 g1 g2 g3 g4 g5 g6 g7 g8 g9 g10 g11 g12 g13 g14 g15 flt fln ffr sta plc edd lab lbv opr acd akd agl len lin att stp fol skd snm snu byt ncn nsy nns nvs ntd lvs ltd ocn opl owd oln okd ogl olo TL) s.heap.size = A at hD ⊢
  have hA : ∀ q : Nat, s.heap.size ≤ q → A q := fun q h => by rw [← hAe]; exact Or.inr h
  have hS : va_S A s.heap s.heap [] := va_S.rf
  have hx := B.exec
  have hb := B.bytes
  have hr := B.returns
  have hts := atoms_spec (ws := .code y_N_tell b_N_tell 3 none :: tb) B.pre
  have hk : ∀ w ∈ tb, w.before [.ref g3, .int a1, .int a2].toArray s = true := fun w h => hts w (List.mem_cons_of_mem _ h)
  have hown : s.vm.findClass "SignMachine$Names" = some m.cls := findClass_of_methodNamed B.named
  have hlocks := B.notSynchronized
  have hl := lv_entry ([.ref g3, .int a1, .int a2]) (n := 3) (Nat.le_of_ble_eq_true rfl)
  rw [lg_entry_eq]
  generalize (lg_sl ([.ref g3, .int a1, .int a2]) ++ List.replicate (3 - (lg_sl ([.ref g3, .int a1, .int a2])).length) Slot.unset).toArray = ls at hl ⊢
  have hl : lv_has ls 3 [(0, .ref g3), (1, .int a1), (2, .int a2)] := hl
  refine lv_iload_n hx hb d_N_tell_0 rfl (lv_at hl 1 rfl) ?_
  refine lv_if_lt (tgt := 24) hx hb d_N_tell_1 (by decide) (fun c1 => ?_) (fun c1 => ?_)
  · exact W.vret hx hb hr (fun t ht hW => ⟨⟨(nvs, ntd), rfl, by simp only [f_N_tell, if_pos c1], by show va_P D classes _ t.heap; rw [ht]; exact hP⟩, hS.F ht⟩) hS.2.2 d_N_tell_24
  · refine lv_iload_n hx hb d_N_tell_4 rfl (lv_at hl 1 rfl) ?_
    refine lv_bipush (v := 100) hx hb d_N_tell_5 (by decide) ?_
    refine lv_icmp_ge (tgt := 24) hx hb d_N_tell_7 (by decide) (fun c2 => ?_) (fun c2 => ?_)
    · exact W.vret hx hb hr (fun t ht hW => ⟨⟨(nvs, ntd), rfl, by simp only [f_N_tell, if_neg c1, if_pos c2], by show va_P D classes _ t.heap; rw [ht]; exact hP⟩, hS.F ht⟩) hS.2.2 d_N_tell_24
    · refine lv_aload_n hx hb d_N_tell_10 rfl (lv_at hl 0 rfl) ?_
      refine va_get (D := D) (ci := 5) (v := .ref g5) (C := "SignMachine$Names") (T := F_N) (N := 7) hx hb hk fi_N hown hK.1 hP 3 rfl rfl 1 (by decide) (hk _ k_577) (fun _ h9 => h9) rfl d_N_tell_11 ?_
      refine lv_iload_n hx hb d_N_tell_14 rfl (lv_at hl 1 rfl) ?_
      refine lv_iload_n hx hb d_N_tell_15 rfl (lv_at hl 2 rfl) ?_
      refine va_iast hx hb hK.1 hP hD hS 5 0 rfl rfl (vpin c1 c2 rfl) d_N_tell_16 (fun H locs hP hD hS => ?_)
      have hP : va_P D classes (aW cI cJ cZ cB g0 g1 g2 g3 g4 g5 g6 g7 g8 g9 g10 g11 g12 g13 g14 g15 flt fln ffr sta plc edd lab lbv opr acd akd agl len lin att stp fol skd snm snu byt ncn nsy nns (upd nvs (a1).toNatClampNeg a2) ntd lvs ltd ocn opl owd oln okd ogl olo TL) H := hP
      have hD : va_D A (aW cI cJ cZ cB g0 g1 g2 g3 g4 g5 g6 g7 g8 g9 g10 g11 g12 g13 g14 g15 flt fln ffr sta plc edd lab lbv opr acd akd agl len lin att stp fol skd snm snu byt ncn nsy nns (upd nvs (a1).toNatClampNeg a2) ntd lvs ltd ocn opl owd oln okd ogl olo TL) := hD
      refine lv_aload_n hx hb d_N_tell_17 rfl (lv_at hl 0 rfl) ?_
      refine va_get (D := D) (ci := 5) (v := .ref g6) (C := "SignMachine$Names") (T := F_N) (N := 7) hx hb hk fi_N hown hK.1 hP 3 rfl rfl 2 (by decide) (hk _ k_578) (fun _ h9 => h9) rfl d_N_tell_18 ?_
      refine lv_iload_n hx hb d_N_tell_21 rfl (lv_at hl 1 rfl) ?_
      refine lv_iconst (v := 1) hx hb d_N_tell_22 (by decide) ?_
      refine va_zast hx hb hK.1 hP hD hS 6 2 rfl rfl (vpin c1 c2 rfl) d_N_tell_23 (fun H locs hP hD hS => ?_)
      have hP : va_P D classes (aW cI cJ cZ cB g0 g1 g2 g3 g4 g5 g6 g7 g8 g9 g10 g11 g12 g13 g14 g15 flt fln ffr sta plc edd lab lbv opr acd akd agl len lin att stp fol skd snm snu byt ncn nsy nns (upd nvs (a1).toNatClampNeg a2) (upd ntd (a1).toNatClampNeg (vp_nar .boolean (1 : Int32))) lvs ltd ocn opl owd oln okd ogl olo TL) H := hP
      have hD : va_D A (aW cI cJ cZ cB g0 g1 g2 g3 g4 g5 g6 g7 g8 g9 g10 g11 g12 g13 g14 g15 flt fln ffr sta plc edd lab lbv opr acd akd agl len lin att stp fol skd snm snu byt ncn nsy nns (upd nvs (a1).toNatClampNeg a2) (upd ntd (a1).toNatClampNeg (vp_nar .boolean (1 : Int32))) lvs ltd ocn opl owd oln okd ogl olo TL) := hD
      exact W.vret hx hb hr (fun t ht hW => ⟨⟨((upd nvs (a1).toNatClampNeg a2), (upd ntd (a1).toNatClampNeg (vp_nar .boolean (1 : Int32)))), rfl, by simp only [f_N_tell, if_neg c1, if_neg c2], by show va_P D classes _ t.heap; rw [ht]; exact hP⟩, hS.F ht⟩) hS.2.2 d_N_tell_24
theorem v_N_tell {R : Room} {s : State} {args : Array Value} {own : String} {index : Nat} (hk : ∀ w ∈ tb, w.before args s = true) (hl : Cond.methodLink own index y_N_tell ∈ tb) (hR : 0 + 1 ≤ R.frames ∧ 8 + (3 + 11) + 0 ≤ R.locals) : CallW R s args own "SignMachine$Names" index y_N_tell b_N_tell 3 none (.code y_N_tell b_N_tell 3 none :: tb) ({ frames := 0, cells := 0, slots := 0, locals := 0 }) 0 0 2 := mk_v 2 hk k_943 hl k_941 k_942 k_125 rfl rfl h_N_tell hR
def f_N_isLocalTold (ltd : Nat → Int32) (a1 : Int32) : Bool := (if a1 < (0 : Int32) then false else (if (10 : Int32) ≤ a1 then false else (if (ltd (a1).toNatClampNeg) = (0 : Int32) then false else true)))
set_option maxHeartbeats 4000000 in
set_option maxRecDepth 100000 in
theorem c_N_isLocalTold (l : Launch) (D : va_G) (cI cJ cZ cB : ClassId) (g0 g1 g2 g3 g4 g5 g6 g7 g8 g9 g10 g11 g12 g13 g14 g15 : Nat) (flt : Int32) (fln : Int32) (ffr : Int32) (sta : Int32) (plc : Int32) (edd : Int32) (lab : Int64) (lbv : Int32) (opr : Option Nat) (acd : Int32) (akd : Int32) (agl : Int32) (len : Int32) (lin : Int32) (att : Int32) (stp : Int32) (fol : Int32) (skd : Int32) (snm : Int64) (snu : Int32) (byt : Nat → Int32) (ncn : Int32) (nsy : Int32) (nns : Nat → Int64) (nvs : Nat → Int32) (ntd : Nat → Int32) (lvs : Nat → Int32) (ltd : Nat → Int32) (ocn : Int32) (opl : Nat → Int32) (owd : Nat → Int32) (oln : Nat → Int32) (okd : Nat → Int32) (ogl : Nat → Int32) (olo : Nat → Int32) (TL : va_W) (a1 : Int32)  : Met l y_N_isLocalTold (.code y_N_isLocalTold b_N_isLocalTold 2 (some .boolean) :: tb) ({ frames := 0, cells := 0, slots := 0, locals := 0 }) (pR D cI cJ cZ cB (aW cI cJ cZ cB g0 g1 g2 g3 g4 g5 g6 g7 g8 g9 g10 g11 g12 g13 g14 g15 flt fln ffr sta plc edd lab lbv opr acd akd agl len lin att stp fol skd snm snu byt ncn nsy nns nvs ntd lvs ltd ocn opl owd oln okd ogl olo TL) [.ref g3, .int a1]) (vp_Si (fun r => r = bI (f_N_isLocalTold ltd a1))) 0 0 (fun _ => False) := by
  refine Met.ofW (cc := b_N_isLocalTold) (maxL := 2) (ret := (some .boolean)) (by decide) rfl ?_
  intro p e s m args below meth c s₁ B hml hv
  obtain ⟨rfl, hK, hP⟩ := hv
  have hx := B.exec
  have hb := B.bytes
  have hr := B.returns
  have hts := atoms_spec (ws := .code y_N_isLocalTold b_N_isLocalTold 2 (some .boolean) :: tb) B.pre
  have hk : ∀ w ∈ tb, w.before [.ref g3, .int a1].toArray s = true := fun w h => hts w (List.mem_cons_of_mem _ h)
  have hown : s.vm.findClass "SignMachine$Names" = some m.cls := findClass_of_methodNamed B.named
  have hlocks := B.notSynchronized
  have hl := lv_entry ([.ref g3, .int a1]) (n := 2) (Nat.le_of_ble_eq_true rfl)
  rw [lg_entry_eq]
  generalize (lg_sl ([.ref g3, .int a1]) ++ List.replicate (2 - (lg_sl ([.ref g3, .int a1])).length) Slot.unset).toArray = ls at hl ⊢
  have hl : lv_has ls 2 [(0, .ref g3), (1, .int a1)] := hl
  refine lv_iload_n hx hb d_N_isLocalTold_0 rfl (lv_at hl 1 rfl) ?_
  refine lv_if_lt (tgt := 23) hx hb d_N_isLocalTold_1 (by decide) (fun c1 => ?_) (fun c1 => ?_)
  · refine lv_iconst (v := 0) hx hb d_N_isLocalTold_23 (by decide) ?_
    exact W.zret (v := (0 : Int32)) hx hb hr rfl (fun t ht hW => ⟨(0 : Int32), rfl, by simp only [f_N_isLocalTold, if_pos c1]; rfl, ht⟩) (fun q h => absurd h List.not_mem_nil) d_N_isLocalTold_24
  · refine lv_iload_n hx hb d_N_isLocalTold_4 rfl (lv_at hl 1 rfl) ?_
    refine lv_bipush (v := 10) hx hb d_N_isLocalTold_5 (by decide) ?_
    refine lv_icmp_ge (tgt := 23) hx hb d_N_isLocalTold_7 (by decide) (fun c2 => ?_) (fun c2 => ?_)
    · refine lv_iconst (v := 0) hx hb d_N_isLocalTold_23 (by decide) ?_
      exact W.zret (v := (0 : Int32)) hx hb hr rfl (fun t ht hW => ⟨(0 : Int32), rfl, by simp only [f_N_isLocalTold, if_neg c1, if_pos c2]; rfl, ht⟩) (fun q h => absurd h List.not_mem_nil) d_N_isLocalTold_24
    · refine lv_aload_n hx hb d_N_isLocalTold_10 rfl (lv_at hl 0 rfl) ?_
      refine va_get (D := D) (ci := 5) (v := .ref g8) (C := "SignMachine$Names") (T := F_N) (N := 7) hx hb hk fi_N hown hK.1 hP 3 rfl rfl 4 (by decide) (hk _ k_580) (fun _ h9 => h9) rfl d_N_isLocalTold_11 ?_
      refine lv_iload_n hx hb d_N_isLocalTold_14 rfl (lv_at hl 1 rfl) ?_
      refine va_zald hx hb hK.1 hP 8 2 rfl rfl (vpin c1 c2 rfl) d_N_isLocalTold_15 ?_
      refine lv_if_eq (tgt := 23) hx hb d_N_isLocalTold_16 (by decide) (fun c3 => ?_) (fun c3 => ?_)
      · refine lv_iconst (v := 0) hx hb d_N_isLocalTold_23 (by decide) ?_
        exact W.zret (v := (0 : Int32)) hx hb hr rfl (fun t ht hW => ⟨(0 : Int32), rfl, by simp only [f_N_isLocalTold, if_neg c1, if_neg c2, if_pos c3]; rfl, ht⟩) (fun q h => absurd h List.not_mem_nil) d_N_isLocalTold_24
      · refine lv_iconst (v := 1) hx hb d_N_isLocalTold_19 (by decide) ?_
        refine lv_goto (tgt := 24) hx hb d_N_isLocalTold_20 (by decide) ?_
        exact W.zret (v := (1 : Int32)) hx hb hr rfl (fun t ht hW => ⟨(1 : Int32), rfl, by simp only [f_N_isLocalTold, if_neg c1, if_neg c2, if_neg c3]; rfl, ht⟩) (fun q h => absurd h List.not_mem_nil) d_N_isLocalTold_24
theorem v_N_isLocalTold {R : Room} {s : State} {args : Array Value} {own : String} {index : Nat} (hk : ∀ w ∈ tb, w.before args s = true) (hl : Cond.methodLink own index y_N_isLocalTold ∈ tb) (hR : 0 + 1 ≤ R.frames ∧ 8 + (2 + 11) + 0 ≤ R.locals) : CallW R s args own "SignMachine$Names" index y_N_isLocalTold b_N_isLocalTold 2 (some .boolean) (.code y_N_isLocalTold b_N_isLocalTold 2 (some .boolean) :: tb) ({ frames := 0, cells := 0, slots := 0, locals := 0 }) 0 0 1 := mk_v 1 hk k_1000 hl k_998 k_999 k_125 rfl rfl h_N_isLocalTold hR
def f_N_localValue (lvs : Nat → Int32) (a1 : Int32) : Int32 := (if a1 < (0 : Int32) then (0 : Int32) else (if (10 : Int32) ≤ a1 then (0 : Int32) else (lvs (a1).toNatClampNeg)))
set_option maxHeartbeats 4000000 in
set_option maxRecDepth 100000 in
theorem c_N_localValue (l : Launch) (D : va_G) (cI cJ cZ cB : ClassId) (g0 g1 g2 g3 g4 g5 g6 g7 g8 g9 g10 g11 g12 g13 g14 g15 : Nat) (flt : Int32) (fln : Int32) (ffr : Int32) (sta : Int32) (plc : Int32) (edd : Int32) (lab : Int64) (lbv : Int32) (opr : Option Nat) (acd : Int32) (akd : Int32) (agl : Int32) (len : Int32) (lin : Int32) (att : Int32) (stp : Int32) (fol : Int32) (skd : Int32) (snm : Int64) (snu : Int32) (byt : Nat → Int32) (ncn : Int32) (nsy : Int32) (nns : Nat → Int64) (nvs : Nat → Int32) (ntd : Nat → Int32) (lvs : Nat → Int32) (ltd : Nat → Int32) (ocn : Int32) (opl : Nat → Int32) (owd : Nat → Int32) (oln : Nat → Int32) (okd : Nat → Int32) (ogl : Nat → Int32) (olo : Nat → Int32) (TL : va_W) (a1 : Int32)  : Met l y_N_localValue (.code y_N_localValue b_N_localValue 2 (some .int) :: tb) ({ frames := 0, cells := 0, slots := 0, locals := 0 }) (pR D cI cJ cZ cB (aW cI cJ cZ cB g0 g1 g2 g3 g4 g5 g6 g7 g8 g9 g10 g11 g12 g13 g14 g15 flt fln ffr sta plc edd lab lbv opr acd akd agl len lin att stp fol skd snm snu byt ncn nsy nns nvs ntd lvs ltd ocn opl owd oln okd ogl olo TL) [.ref g3, .int a1]) (vp_Si (fun r => r = f_N_localValue lvs a1)) 0 0 (fun _ => False) := by
  refine Met.ofW (cc := b_N_localValue) (maxL := 2) (ret := (some .int)) (by decide) rfl ?_
  intro p e s m args below meth c s₁ B hml hv
  obtain ⟨rfl, hK, hP⟩ := hv
  have hx := B.exec
  have hb := B.bytes
  have hr := B.returns
  have hts := atoms_spec (ws := .code y_N_localValue b_N_localValue 2 (some .int) :: tb) B.pre
  have hk : ∀ w ∈ tb, w.before [.ref g3, .int a1].toArray s = true := fun w h => hts w (List.mem_cons_of_mem _ h)
  have hown : s.vm.findClass "SignMachine$Names" = some m.cls := findClass_of_methodNamed B.named
  have hlocks := B.notSynchronized
  have hl := lv_entry ([.ref g3, .int a1]) (n := 2) (Nat.le_of_ble_eq_true rfl)
  rw [lg_entry_eq]
  generalize (lg_sl ([.ref g3, .int a1]) ++ List.replicate (2 - (lg_sl ([.ref g3, .int a1])).length) Slot.unset).toArray = ls at hl ⊢
  have hl : lv_has ls 2 [(0, .ref g3), (1, .int a1)] := hl
  refine lv_iload_n hx hb d_N_localValue_0 rfl (lv_at hl 1 rfl) ?_
  refine lv_if_lt (tgt := 19) hx hb d_N_localValue_1 (by decide) (fun c1 => ?_) (fun c1 => ?_)
  · refine lv_iconst (v := 0) hx hb d_N_localValue_19 (by decide) ?_
    exact W.iret (v := (0 : Int32)) hx hb hr (fun t ht hW => ⟨(0 : Int32), rfl, by simp only [f_N_localValue, if_pos c1], ht⟩) (fun q h => absurd h List.not_mem_nil) d_N_localValue_20
  · refine lv_iload_n hx hb d_N_localValue_4 rfl (lv_at hl 1 rfl) ?_
    refine lv_bipush (v := 10) hx hb d_N_localValue_5 (by decide) ?_
    refine lv_icmp_ge (tgt := 19) hx hb d_N_localValue_7 (by decide) (fun c2 => ?_) (fun c2 => ?_)
    · refine lv_iconst (v := 0) hx hb d_N_localValue_19 (by decide) ?_
      exact W.iret (v := (0 : Int32)) hx hb hr (fun t ht hW => ⟨(0 : Int32), rfl, by simp only [f_N_localValue, if_neg c1, if_pos c2], ht⟩) (fun q h => absurd h List.not_mem_nil) d_N_localValue_20
    · refine lv_aload_n hx hb d_N_localValue_10 rfl (lv_at hl 0 rfl) ?_
      refine va_get (D := D) (ci := 5) (v := .ref g7) (C := "SignMachine$Names") (T := F_N) (N := 7) hx hb hk fi_N hown hK.1 hP 3 rfl rfl 3 (by decide) (hk _ k_579) (fun _ h9 => h9) rfl d_N_localValue_11 ?_
      refine lv_iload_n hx hb d_N_localValue_14 rfl (lv_at hl 1 rfl) ?_
      refine va_iald hx hb hK.1 hP 7 0 rfl rfl (vpin c1 c2 rfl) d_N_localValue_15 ?_
      refine lv_goto (tgt := 20) hx hb d_N_localValue_16 (by decide) ?_
      exact W.iret (v := (lvs (a1).toNatClampNeg)) hx hb hr (fun t ht hW => ⟨(lvs (a1).toNatClampNeg), rfl, by simp only [f_N_localValue, if_neg c1, if_neg c2], ht⟩) (fun q h => absurd h List.not_mem_nil) d_N_localValue_20
theorem v_N_localValue {R : Room} {s : State} {args : Array Value} {own : String} {index : Nat} (hk : ∀ w ∈ tb, w.before args s = true) (hl : Cond.methodLink own index y_N_localValue ∈ tb) (hR : 0 + 1 ≤ R.frames ∧ 8 + (2 + 11) + 0 ≤ R.locals) : CallW R s args own "SignMachine$Names" index y_N_localValue b_N_localValue 2 (some .int) (.code y_N_localValue b_N_localValue 2 (some .int) :: tb) ({ frames := 0, cells := 0, slots := 0, locals := 0 }) 0 0 1 := mk_v 1 hk k_1004 hl k_1002 k_1003 k_125 rfl rfl h_N_localValue hR
def f_N_tellLocal (lvs : Nat → Int32) (ltd : Nat → Int32) (a1 : Int32) (a2 : Int32) : (Nat → Int32) × (Nat → Int32) := (if a1 < (0 : Int32) then (lvs, ltd) else (if (10 : Int32) ≤ a1 then (lvs, ltd) else ((upd lvs (a1).toNatClampNeg a2), (upd ltd (a1).toNatClampNeg (vp_nar .boolean (1 : Int32))))))
set_option maxHeartbeats 4000000 in
set_option maxRecDepth 100000 in
theorem c_N_tellLocal (l : Launch) (D : va_G) (cI cJ cZ cB : ClassId) (g0 g1 g2 g3 g4 g5 g6 g7 g8 g9 g10 g11 g12 g13 g14 g15 : Nat) (sz : Nat) (flt : Int32) (fln : Int32) (ffr : Int32) (sta : Int32) (plc : Int32) (edd : Int32) (lab : Int64) (lbv : Int32) (opr : Option Nat) (acd : Int32) (akd : Int32) (agl : Int32) (len : Int32) (lin : Int32) (att : Int32) (stp : Int32) (fol : Int32) (skd : Int32) (snm : Int64) (snu : Int32) (byt : Nat → Int32) (ncn : Int32) (nsy : Int32) (nns : Nat → Int64) (nvs : Nat → Int32) (ntd : Nat → Int32) (lvs : Nat → Int32) (ltd : Nat → Int32) (ocn : Int32) (opl : Nat → Int32) (owd : Nat → Int32) (oln : Nat → Int32) (okd : Nat → Int32) (ogl : Nat → Int32) (olo : Nat → Int32) (TL : va_W) (a1 : Int32) (a2 : Int32) : Met l y_N_tellLocal (.code y_N_tellLocal b_N_tellLocal 3 none :: tb) ({ frames := 0, cells := 0, slots := 0, locals := 0 }) (pM D cI cJ cZ cB (aW cI cJ cZ cB g0 g1 g2 g3 g4 g5 g6 g7 g8 g9 g10 g11 g12 g13 g14 g15 flt fln ffr sta plc edd lab lbv opr acd akd agl len lin att stp fol skd snm snu byt ncn nsy nns nvs ntd lvs ltd ocn opl owd oln okd ogl olo TL) sz [.ref g3, .int a1, .int a2]) (qV D (fun u => u = f_N_tellLocal lvs ltd a1 a2) (fun (u : (Nat → Int32) × (Nat → Int32)) => match u with | (u_lvs, u_ltd) => (aW cI cJ cZ cB g0 g1 g2 g3 g4 g5 g6 g7 g8 g9 g10 g11 g12 g13 g14 g15 flt fln ffr sta plc edd lab lbv opr acd akd agl len lin att stp fol skd snm snu byt ncn nsy nns nvs ntd u_lvs u_ltd ocn opl owd oln okd ogl olo TL)) (va_A (aW cI cJ cZ cB g0 g1 g2 g3 g4 g5 g6 g7 g8 g9 g10 g11 g12 g13 g14 g15 flt fln ffr sta plc edd lab lbv opr acd akd agl len lin att stp fol skd snm snu byt ncn nsy nns nvs ntd lvs ltd ocn opl owd oln okd ogl olo TL) sz)) 0 0 (va_A (aW cI cJ cZ cB g0 g1 g2 g3 g4 g5 g6 g7 g8 g9 g10 g11 g12 g13 g14 g15 flt fln ffr sta plc edd lab lbv opr acd akd agl len lin att stp fol skd snm snu byt ncn nsy nns nvs ntd lvs ltd ocn opl owd oln okd ogl olo TL) sz) := by
  refine Met.ofW (cc := b_N_tellLocal) (maxL := 3) (ret := none) (by decide) rfl ?_
  intro p e s m args below meth c s₁ B hml hv
  obtain ⟨rfl, hsz, hK, hP, hD0⟩ := hv
  subst hsz
  have hD := hD0.self (sz := s.heap.size)
  generalize hAe : va_A (aW cI cJ cZ cB g0 g1 g2 g3 g4 g5 g6 g7 g8 g9 g10 g11 g12 g13 g14 g15 flt fln ffr sta plc edd lab lbv opr acd akd agl len lin att stp fol skd snm snu byt ncn nsy nns nvs ntd lvs ltd ocn opl owd oln okd ogl olo TL) s.heap.size = A at hD ⊢
  have hA : ∀ q : Nat, s.heap.size ≤ q → A q := fun q h => by rw [← hAe]; exact Or.inr h
  have hS : va_S A s.heap s.heap [] := va_S.rf
  have hx := B.exec
  have hb := B.bytes
  have hr := B.returns
  have hts := atoms_spec (ws := .code y_N_tellLocal b_N_tellLocal 3 none :: tb) B.pre
  have hk : ∀ w ∈ tb, w.before [.ref g3, .int a1, .int a2].toArray s = true := fun w h => hts w (List.mem_cons_of_mem _ h)
  have hown : s.vm.findClass "SignMachine$Names" = some m.cls := findClass_of_methodNamed B.named
  have hlocks := B.notSynchronized
  have hl := lv_entry ([.ref g3, .int a1, .int a2]) (n := 3) (Nat.le_of_ble_eq_true rfl)
  rw [lg_entry_eq]
  generalize (lg_sl ([.ref g3, .int a1, .int a2]) ++ List.replicate (3 - (lg_sl ([.ref g3, .int a1, .int a2])).length) Slot.unset).toArray = ls at hl ⊢
  have hl : lv_has ls 3 [(0, .ref g3), (1, .int a1), (2, .int a2)] := hl
  refine lv_iload_n hx hb d_N_tellLocal_0 rfl (lv_at hl 1 rfl) ?_
  refine lv_if_lt (tgt := 24) hx hb d_N_tellLocal_1 (by decide) (fun c1 => ?_) (fun c1 => ?_)
  · exact W.vret hx hb hr (fun t ht hW => ⟨⟨(lvs, ltd), rfl, by simp only [f_N_tellLocal, if_pos c1], by show va_P D classes _ t.heap; rw [ht]; exact hP⟩, hS.F ht⟩) hS.2.2 d_N_tellLocal_24
  · refine lv_iload_n hx hb d_N_tellLocal_4 rfl (lv_at hl 1 rfl) ?_
    refine lv_bipush (v := 10) hx hb d_N_tellLocal_5 (by decide) ?_
    refine lv_icmp_ge (tgt := 24) hx hb d_N_tellLocal_7 (by decide) (fun c2 => ?_) (fun c2 => ?_)
    · exact W.vret hx hb hr (fun t ht hW => ⟨⟨(lvs, ltd), rfl, by simp only [f_N_tellLocal, if_neg c1, if_pos c2], by show va_P D classes _ t.heap; rw [ht]; exact hP⟩, hS.F ht⟩) hS.2.2 d_N_tellLocal_24
    · refine lv_aload_n hx hb d_N_tellLocal_10 rfl (lv_at hl 0 rfl) ?_
      refine va_get (D := D) (ci := 5) (v := .ref g7) (C := "SignMachine$Names") (T := F_N) (N := 7) hx hb hk fi_N hown hK.1 hP 3 rfl rfl 3 (by decide) (hk _ k_579) (fun _ h9 => h9) rfl d_N_tellLocal_11 ?_
      refine lv_iload_n hx hb d_N_tellLocal_14 rfl (lv_at hl 1 rfl) ?_
      refine lv_iload_n hx hb d_N_tellLocal_15 rfl (lv_at hl 2 rfl) ?_
      refine va_iast hx hb hK.1 hP hD hS 7 0 rfl rfl (vpin c1 c2 rfl) d_N_tellLocal_16 (fun H locs hP hD hS => ?_)
      have hP : va_P D classes (aW cI cJ cZ cB g0 g1 g2 g3 g4 g5 g6 g7 g8 g9 g10 g11 g12 g13 g14 g15 flt fln ffr sta plc edd lab lbv opr acd akd agl len lin att stp fol skd snm snu byt ncn nsy nns nvs ntd (upd lvs (a1).toNatClampNeg a2) ltd ocn opl owd oln okd ogl olo TL) H := hP
      have hD : va_D A (aW cI cJ cZ cB g0 g1 g2 g3 g4 g5 g6 g7 g8 g9 g10 g11 g12 g13 g14 g15 flt fln ffr sta plc edd lab lbv opr acd akd agl len lin att stp fol skd snm snu byt ncn nsy nns nvs ntd (upd lvs (a1).toNatClampNeg a2) ltd ocn opl owd oln okd ogl olo TL) := hD
      refine lv_aload_n hx hb d_N_tellLocal_17 rfl (lv_at hl 0 rfl) ?_
      refine va_get (D := D) (ci := 5) (v := .ref g8) (C := "SignMachine$Names") (T := F_N) (N := 7) hx hb hk fi_N hown hK.1 hP 3 rfl rfl 4 (by decide) (hk _ k_580) (fun _ h9 => h9) rfl d_N_tellLocal_18 ?_
      refine lv_iload_n hx hb d_N_tellLocal_21 rfl (lv_at hl 1 rfl) ?_
      refine lv_iconst (v := 1) hx hb d_N_tellLocal_22 (by decide) ?_
      refine va_zast hx hb hK.1 hP hD hS 8 2 rfl rfl (vpin c1 c2 rfl) d_N_tellLocal_23 (fun H locs hP hD hS => ?_)
      have hP : va_P D classes (aW cI cJ cZ cB g0 g1 g2 g3 g4 g5 g6 g7 g8 g9 g10 g11 g12 g13 g14 g15 flt fln ffr sta plc edd lab lbv opr acd akd agl len lin att stp fol skd snm snu byt ncn nsy nns nvs ntd (upd lvs (a1).toNatClampNeg a2) (upd ltd (a1).toNatClampNeg (vp_nar .boolean (1 : Int32))) ocn opl owd oln okd ogl olo TL) H := hP
      have hD : va_D A (aW cI cJ cZ cB g0 g1 g2 g3 g4 g5 g6 g7 g8 g9 g10 g11 g12 g13 g14 g15 flt fln ffr sta plc edd lab lbv opr acd akd agl len lin att stp fol skd snm snu byt ncn nsy nns nvs ntd (upd lvs (a1).toNatClampNeg a2) (upd ltd (a1).toNatClampNeg (vp_nar .boolean (1 : Int32))) ocn opl owd oln okd ogl olo TL) := hD
      exact W.vret hx hb hr (fun t ht hW => ⟨⟨((upd lvs (a1).toNatClampNeg a2), (upd ltd (a1).toNatClampNeg (vp_nar .boolean (1 : Int32)))), rfl, by simp only [f_N_tellLocal, if_neg c1, if_neg c2], by show va_P D classes _ t.heap; rw [ht]; exact hP⟩, hS.F ht⟩) hS.2.2 d_N_tellLocal_24
theorem v_N_tellLocal {R : Room} {s : State} {args : Array Value} {own : String} {index : Nat} (hk : ∀ w ∈ tb, w.before args s = true) (hl : Cond.methodLink own index y_N_tellLocal ∈ tb) (hR : 0 + 1 ≤ R.frames ∧ 8 + (3 + 11) + 0 ≤ R.locals) : CallW R s args own "SignMachine$Names" index y_N_tellLocal b_N_tellLocal 3 none (.code y_N_tellLocal b_N_tellLocal 3 none :: tb) ({ frames := 0, cells := 0, slots := 0, locals := 0 }) 0 0 2 := mk_v 2 hk k_1073 hl k_1071 k_1072 k_125 rfl rfl h_N_tellLocal hR
def f_N_add (ncn : Int32) (nns : Nat → Int64) (nvs : Nat → Int32) (ntd : Nat → Int32) (a1 : Int64) (a2 : Int32) : Int32 × (Int32) × (Nat → Int64) × (Nat → Int32) × (Nat → Int32) := (if ncn < (0 : Int32) then ((-2 : Int32), ncn, nns, nvs, ntd) else (if ncn < (100 : Int32) then (((ncn + (1 : Int32)) - (1 : Int32)), (ncn + (1 : Int32)), (vp_updL nns (ncn).toNatClampNeg a1), (upd nvs (ncn).toNatClampNeg a2), (upd ntd (ncn).toNatClampNeg (vp_nar .boolean (0 : Int32)))) else ((-2 : Int32), ncn, nns, nvs, ntd)))
set_option maxHeartbeats 4000000 in
set_option maxRecDepth 100000 in
theorem c_N_add (l : Launch) (D : va_G) (cI cJ cZ cB : ClassId) (g0 g1 g2 g3 g4 g5 g6 g7 g8 g9 g10 g11 g12 g13 g14 g15 : Nat) (sz : Nat) (flt : Int32) (fln : Int32) (ffr : Int32) (sta : Int32) (plc : Int32) (edd : Int32) (lab : Int64) (lbv : Int32) (opr : Option Nat) (acd : Int32) (akd : Int32) (agl : Int32) (len : Int32) (lin : Int32) (att : Int32) (stp : Int32) (fol : Int32) (skd : Int32) (snm : Int64) (snu : Int32) (byt : Nat → Int32) (ncn : Int32) (nsy : Int32) (nns : Nat → Int64) (nvs : Nat → Int32) (ntd : Nat → Int32) (lvs : Nat → Int32) (ltd : Nat → Int32) (ocn : Int32) (opl : Nat → Int32) (owd : Nat → Int32) (oln : Nat → Int32) (okd : Nat → Int32) (ogl : Nat → Int32) (olo : Nat → Int32) (TL : va_W) (a1 : Int64) (a2 : Int32) : Met l y_N_add (.code y_N_add b_N_add 4 (some .int) :: tb) ({ frames := 0, cells := 0, slots := 0, locals := 0 }) (pM D cI cJ cZ cB (aW cI cJ cZ cB g0 g1 g2 g3 g4 g5 g6 g7 g8 g9 g10 g11 g12 g13 g14 g15 flt fln ffr sta plc edd lab lbv opr acd akd agl len lin att stp fol skd snm snu byt ncn nsy nns nvs ntd lvs ltd ocn opl owd oln okd ogl olo TL) sz [.ref g3, .long a1, .int a2]) (qI D (fun r u => (r, u) = f_N_add ncn nns nvs ntd a1 a2) (fun (u : (Int32) × (Nat → Int64) × (Nat → Int32) × (Nat → Int32)) => match u with | (u_ncn, u_nns, u_nvs, u_ntd) => (aW cI cJ cZ cB g0 g1 g2 g3 g4 g5 g6 g7 g8 g9 g10 g11 g12 g13 g14 g15 flt fln ffr sta plc edd lab lbv opr acd akd agl len lin att stp fol skd snm snu byt u_ncn nsy u_nns u_nvs u_ntd lvs ltd ocn opl owd oln okd ogl olo TL)) (va_A (aW cI cJ cZ cB g0 g1 g2 g3 g4 g5 g6 g7 g8 g9 g10 g11 g12 g13 g14 g15 flt fln ffr sta plc edd lab lbv opr acd akd agl len lin att stp fol skd snm snu byt ncn nsy nns nvs ntd lvs ltd ocn opl owd oln okd ogl olo TL) sz)) 0 0 (va_A (aW cI cJ cZ cB g0 g1 g2 g3 g4 g5 g6 g7 g8 g9 g10 g11 g12 g13 g14 g15 flt fln ffr sta plc edd lab lbv opr acd akd agl len lin att stp fol skd snm snu byt ncn nsy nns nvs ntd lvs ltd ocn opl owd oln okd ogl olo TL) sz) := by
  refine Met.ofW (cc := b_N_add) (maxL := 4) (ret := (some .int)) (by decide) rfl ?_
  intro p e s m args below meth c s₁ B hml hv
  obtain ⟨rfl, hsz, hK, hP, hD0⟩ := hv
  subst hsz
  have hD := hD0.self (sz := s.heap.size)
  generalize hAe : va_A (aW cI cJ cZ cB g0 g1 g2 g3 g4 g5 g6 g7 g8 g9 g10 g11 g12 g13 g14 g15 flt fln ffr sta plc edd lab lbv opr acd akd agl len lin att stp fol skd snm snu byt ncn nsy nns nvs ntd lvs ltd ocn opl owd oln okd ogl olo TL) s.heap.size = A at hD ⊢
  have hA : ∀ q : Nat, s.heap.size ≤ q → A q := fun q h => by rw [← hAe]; exact Or.inr h
  have hS : va_S A s.heap s.heap [] := va_S.rf
  have hx := B.exec
  have hb := B.bytes
  have hr := B.returns
  have hts := atoms_spec (ws := .code y_N_add b_N_add 4 (some .int) :: tb) B.pre
  have hk : ∀ w ∈ tb, w.before [.ref g3, .long a1, .int a2].toArray s = true := fun w h => hts w (List.mem_cons_of_mem _ h)
  have hown : s.vm.findClass "SignMachine$Names" = some m.cls := findClass_of_methodNamed B.named
  have hlocks := B.notSynchronized
  have hl := lv_entry ([.ref g3, .long a1, .int a2]) (n := 4) (Nat.le_of_ble_eq_true rfl)
  rw [lg_entry_eq]
  generalize (lg_sl ([.ref g3, .long a1, .int a2]) ++ List.replicate (4 - (lg_sl ([.ref g3, .long a1, .int a2])).length) Slot.unset).toArray = ls at hl ⊢
  have hl : lv_has ls 4 [(0, .ref g3), (1, .long a1), (3, .int a2)] := hl
  refine lv_aload_n hx hb d_N_add_0 rfl (lv_at hl 0 rfl) ?_
  refine va_get (D := D) (ci := 5) (v := .int ncn) (C := "SignMachine$Names") (T := F_N) (N := 7) hx hb hk fi_N hown hK.1 hP 3 rfl rfl 5 (by decide) (hk _ k_581) (fun _ h9 => h9) rfl d_N_add_1 ?_
  refine lv_if_lt (tgt := 16) hx hb d_N_add_4 (by decide) (fun c1 => ?_) (fun c1 => ?_)
  · refine lv_bipush (v := (-2)) hx hb d_N_add_16 (by decide) ?_
    exact W.iret (v := (-2 : Int32)) hx hb hr (fun t ht hW => ⟨⟨(-2 : Int32), (ncn, nns, nvs, ntd), rfl, by simp only [f_N_add, if_pos c1], by show va_P D classes _ t.heap; rw [ht]; exact hP⟩, hS.F ht⟩) hS.2.2 d_N_add_18
  · refine lv_aload_n hx hb d_N_add_7 rfl (lv_at hl 0 rfl) ?_
    refine va_get (D := D) (ci := 5) (v := .int ncn) (C := "SignMachine$Names") (T := F_N) (N := 7) hx hb hk fi_N hown hK.1 hP 3 rfl rfl 5 (by decide) (hk _ k_581) (fun _ h9 => h9) rfl d_N_add_8 ?_
    refine lv_bipush (v := 100) hx hb d_N_add_11 (by decide) ?_
    refine lv_icmp_lt (tgt := 19) hx hb d_N_add_13 (by decide) (fun c2 => ?_) (fun c2 => ?_)
    · refine lv_aload_n hx hb d_N_add_19 rfl (lv_at hl 0 rfl) ?_
      refine va_get (D := D) (ci := 5) (v := .ref g4) (C := "SignMachine$Names") (T := F_N) (N := 7) hx hb hk fi_N hown hK.1 hP 3 rfl rfl 0 (by decide) (hk _ k_576) (fun _ h9 => h9) rfl d_N_add_20 ?_
      refine lv_aload_n hx hb d_N_add_23 rfl (lv_at hl 0 rfl) ?_
      refine va_get (D := D) (ci := 5) (v := .int ncn) (C := "SignMachine$Names") (T := F_N) (N := 7) hx hb hk fi_N hown hK.1 hP 3 rfl rfl 5 (by decide) (hk _ k_581) (fun _ h9 => h9) rfl d_N_add_24 ?_
      refine lv_lload_n hx hb d_N_add_27 rfl (lv_at hl 1 rfl) ?_
      refine va_last hx hb hK.1 hP hD hS 4 1 rfl rfl (vpin2 c1 c2 rfl) d_N_add_28 (fun H locs hP hD hS => ?_)
      have hP : va_P D classes (aW cI cJ cZ cB g0 g1 g2 g3 g4 g5 g6 g7 g8 g9 g10 g11 g12 g13 g14 g15 flt fln ffr sta plc edd lab lbv opr acd akd agl len lin att stp fol skd snm snu byt ncn nsy (vp_updL nns (ncn).toNatClampNeg a1) nvs ntd lvs ltd ocn opl owd oln okd ogl olo TL) H := hP
      have hD : va_D A (aW cI cJ cZ cB g0 g1 g2 g3 g4 g5 g6 g7 g8 g9 g10 g11 g12 g13 g14 g15 flt fln ffr sta plc edd lab lbv opr acd akd agl len lin att stp fol skd snm snu byt ncn nsy (vp_updL nns (ncn).toNatClampNeg a1) nvs ntd lvs ltd ocn opl owd oln okd ogl olo TL) := hD
      refine lv_aload_n hx hb d_N_add_29 rfl (lv_at hl 0 rfl) ?_
      refine va_get (D := D) (ci := 5) (v := .ref g5) (C := "SignMachine$Names") (T := F_N) (N := 7) hx hb hk fi_N hown hK.1 hP 3 rfl rfl 1 (by decide) (hk _ k_577) (fun _ h9 => h9) rfl d_N_add_30 ?_
      refine lv_aload_n hx hb d_N_add_33 rfl (lv_at hl 0 rfl) ?_
      refine va_get (D := D) (ci := 5) (v := .int ncn) (C := "SignMachine$Names") (T := F_N) (N := 7) hx hb hk fi_N hown hK.1 hP 3 rfl rfl 5 (by decide) (hk _ k_581) (fun _ h9 => h9) rfl d_N_add_34 ?_
      refine lv_iload_n hx hb d_N_add_37 rfl (lv_at hl 2 rfl) ?_
      refine va_iast hx hb hK.1 hP hD hS 5 0 rfl rfl (vpin2 c1 c2 rfl) d_N_add_38 (fun H locs hP hD hS => ?_)
      have hP : va_P D classes (aW cI cJ cZ cB g0 g1 g2 g3 g4 g5 g6 g7 g8 g9 g10 g11 g12 g13 g14 g15 flt fln ffr sta plc edd lab lbv opr acd akd agl len lin att stp fol skd snm snu byt ncn nsy (vp_updL nns (ncn).toNatClampNeg a1) (upd nvs (ncn).toNatClampNeg a2) ntd lvs ltd ocn opl owd oln okd ogl olo TL) H := hP
      have hD : va_D A (aW cI cJ cZ cB g0 g1 g2 g3 g4 g5 g6 g7 g8 g9 g10 g11 g12 g13 g14 g15 flt fln ffr sta plc edd lab lbv opr acd akd agl len lin att stp fol skd snm snu byt ncn nsy (vp_updL nns (ncn).toNatClampNeg a1) (upd nvs (ncn).toNatClampNeg a2) ntd lvs ltd ocn opl owd oln okd ogl olo TL) := hD
      refine lv_aload_n hx hb d_N_add_39 rfl (lv_at hl 0 rfl) ?_
      refine va_get (D := D) (ci := 5) (v := .ref g6) (C := "SignMachine$Names") (T := F_N) (N := 7) hx hb hk fi_N hown hK.1 hP 3 rfl rfl 2 (by decide) (hk _ k_578) (fun _ h9 => h9) rfl d_N_add_40 ?_
      refine lv_aload_n hx hb d_N_add_43 rfl (lv_at hl 0 rfl) ?_
      refine va_get (D := D) (ci := 5) (v := .int ncn) (C := "SignMachine$Names") (T := F_N) (N := 7) hx hb hk fi_N hown hK.1 hP 3 rfl rfl 5 (by decide) (hk _ k_581) (fun _ h9 => h9) rfl d_N_add_44 ?_
      refine lv_iconst (v := 0) hx hb d_N_add_47 (by decide) ?_
      refine va_zast hx hb hK.1 hP hD hS 6 2 rfl rfl (vpin2 c1 c2 rfl) d_N_add_48 (fun H locs hP hD hS => ?_)
      have hP : va_P D classes (aW cI cJ cZ cB g0 g1 g2 g3 g4 g5 g6 g7 g8 g9 g10 g11 g12 g13 g14 g15 flt fln ffr sta plc edd lab lbv opr acd akd agl len lin att stp fol skd snm snu byt ncn nsy (vp_updL nns (ncn).toNatClampNeg a1) (upd nvs (ncn).toNatClampNeg a2) (upd ntd (ncn).toNatClampNeg (vp_nar .boolean (0 : Int32))) lvs ltd ocn opl owd oln okd ogl olo TL) H := hP
      have hD : va_D A (aW cI cJ cZ cB g0 g1 g2 g3 g4 g5 g6 g7 g8 g9 g10 g11 g12 g13 g14 g15 flt fln ffr sta plc edd lab lbv opr acd akd agl len lin att stp fol skd snm snu byt ncn nsy (vp_updL nns (ncn).toNatClampNeg a1) (upd nvs (ncn).toNatClampNeg a2) (upd ntd (ncn).toNatClampNeg (vp_nar .boolean (0 : Int32))) lvs ltd ocn opl owd oln okd ogl olo TL) := hD
      refine lv_aload_n hx hb d_N_add_49 rfl (lv_at hl 0 rfl) ?_
      refine lv_dup hx hb d_N_add_50 rfl ?_
      refine va_get (D := D) (ci := 5) (v := .int ncn) (C := "SignMachine$Names") (T := F_N) (N := 7) hx hb hk fi_N hown hK.1 hP 3 rfl rfl 5 (by decide) (hk _ k_581) (fun _ h9 => h9) rfl d_N_add_51 ?_
      refine lv_iconst (v := 1) hx hb d_N_add_54 (by decide) ?_
      refine lv_iadd hx hb d_N_add_55 ?_
      refine va_put (D := D) (ci := 5) (v := .int (ncn + (1 : Int32))) (ty := .int) (C := "SignMachine$Names") (T := F_N) (N := 7) hx hb hk fi_N ft_N ft_N_ok fn_N hown hK.1 hP hD hS 3 rfl rfl 5 (by decide) (hk _ k_581) (fun _ h9 => h9) rfl (by decide +kernel) rfl rfl (Nat.le_of_ble_eq_true rfl) d_N_add_56 (fun H locs hP hD hS => ?_)
      have hP : va_P D classes (aW cI cJ cZ cB g0 g1 g2 g3 g4 g5 g6 g7 g8 g9 g10 g11 g12 g13 g14 g15 flt fln ffr sta plc edd lab lbv opr acd akd agl len lin att stp fol skd snm snu byt (ncn + (1 : Int32)) nsy (vp_updL nns (ncn).toNatClampNeg a1) (upd nvs (ncn).toNatClampNeg a2) (upd ntd (ncn).toNatClampNeg (vp_nar .boolean (0 : Int32))) lvs ltd ocn opl owd oln okd ogl olo TL) H := hP
      have hD : va_D A (aW cI cJ cZ cB g0 g1 g2 g3 g4 g5 g6 g7 g8 g9 g10 g11 g12 g13 g14 g15 flt fln ffr sta plc edd lab lbv opr acd akd agl len lin att stp fol skd snm snu byt (ncn + (1 : Int32)) nsy (vp_updL nns (ncn).toNatClampNeg a1) (upd nvs (ncn).toNatClampNeg a2) (upd ntd (ncn).toNatClampNeg (vp_nar .boolean (0 : Int32))) lvs ltd ocn opl owd oln okd ogl olo TL) := hD
      refine lv_aload_n hx hb d_N_add_59 rfl (lv_at hl 0 rfl) ?_
      refine va_get (D := D) (ci := 5) (v := .int (ncn + (1 : Int32))) (C := "SignMachine$Names") (T := F_N) (N := 7) hx hb hk fi_N hown hK.1 hP 3 rfl rfl 5 (by decide) (hk _ k_581) (fun _ h9 => h9) rfl d_N_add_60 ?_
      refine lv_iconst (v := 1) hx hb d_N_add_63 (by decide) ?_
      refine lv_isub hx hb d_N_add_64 ?_
      exact W.iret (v := ((ncn + (1 : Int32)) - (1 : Int32))) hx hb hr (fun t ht hW => ⟨⟨((ncn + (1 : Int32)) - (1 : Int32)), ((ncn + (1 : Int32)), (vp_updL nns (ncn).toNatClampNeg a1), (upd nvs (ncn).toNatClampNeg a2), (upd ntd (ncn).toNatClampNeg (vp_nar .boolean (0 : Int32)))), rfl, by simp only [f_N_add, if_neg c1, if_pos c2], by show va_P D classes _ t.heap; rw [ht]; exact hP⟩, hS.F ht⟩) hS.2.2 d_N_add_65
    · refine lv_bipush (v := (-2)) hx hb d_N_add_16 (by decide) ?_
      exact W.iret (v := (-2 : Int32)) hx hb hr (fun t ht hW => ⟨⟨(-2 : Int32), (ncn, nns, nvs, ntd), rfl, by simp only [f_N_add, if_neg c1, if_neg c2], by show va_P D classes _ t.heap; rw [ht]; exact hP⟩, hS.F ht⟩) hS.2.2 d_N_add_18
theorem v_N_add {R : Room} {s : State} {args : Array Value} {own : String} {index : Nat} (hk : ∀ w ∈ tb, w.before args s = true) (hl : Cond.methodLink own index y_N_add ∈ tb) (hR : 0 + 1 ≤ R.frames ∧ 8 + (4 + 11) + 0 ≤ R.locals) : CallW R s args own "SignMachine$Names" index y_N_add b_N_add 4 (some .int) (.code y_N_add b_N_add 4 (some .int) :: tb) ({ frames := 0, cells := 0, slots := 0, locals := 0 }) 0 0 2 := mk_v 2 hk k_939 hl k_938 k_41 k_125 rfl rfl h_N_add hR
def f_N_addSymbol (ncn : Int32) (nsy : Int32) (nns : Nat → Int64) (nvs : Nat → Int32) (ntd : Nat → Int32) (a1 : Int64) : Int32 × (Int32) × (Int32) × (Nat → Int64) × (Nat → Int32) × (Nat → Int32) := (if nsy < (60 : Int32) then (match (f_N_add ncn nns nvs ntd a1 (0 : Int32)) with | (rz2, ncnz2, nnsz2, nvsz2, ntdz2) => (rz2, ncnz2, (nsy + (1 : Int32)), nnsz2, nvsz2, ntdz2)) else ((-2 : Int32), ncn, nsy, nns, nvs, ntd))
set_option maxHeartbeats 4000000 in
set_option maxRecDepth 100000 in
theorem c_N_addSymbol (l : Launch) (D : va_G) (cI cJ cZ cB : ClassId) (g0 g1 g2 g3 g4 g5 g6 g7 g8 g9 g10 g11 g12 g13 g14 g15 : Nat) (sz : Nat) (flt : Int32) (fln : Int32) (ffr : Int32) (sta : Int32) (plc : Int32) (edd : Int32) (lab : Int64) (lbv : Int32) (opr : Option Nat) (acd : Int32) (akd : Int32) (agl : Int32) (len : Int32) (lin : Int32) (att : Int32) (stp : Int32) (fol : Int32) (skd : Int32) (snm : Int64) (snu : Int32) (byt : Nat → Int32) (ncn : Int32) (nsy : Int32) (nns : Nat → Int64) (nvs : Nat → Int32) (ntd : Nat → Int32) (lvs : Nat → Int32) (ltd : Nat → Int32) (ocn : Int32) (opl : Nat → Int32) (owd : Nat → Int32) (oln : Nat → Int32) (okd : Nat → Int32) (ogl : Nat → Int32) (olo : Nat → Int32) (TL : va_W) (a1 : Int64) : Met l y_N_addSymbol (.code y_N_addSymbol b_N_addSymbol 3 (some .int) :: tb) ({ frames := 1, cells := 0, slots := 0, locals := 23 }) (pM D cI cJ cZ cB (aW cI cJ cZ cB g0 g1 g2 g3 g4 g5 g6 g7 g8 g9 g10 g11 g12 g13 g14 g15 flt fln ffr sta plc edd lab lbv opr acd akd agl len lin att stp fol skd snm snu byt ncn nsy nns nvs ntd lvs ltd ocn opl owd oln okd ogl olo TL) sz [.ref g3, .long a1]) (qI D (fun r u => (r, u) = f_N_addSymbol ncn nsy nns nvs ntd a1) (fun (u : (Int32) × (Int32) × (Nat → Int64) × (Nat → Int32) × (Nat → Int32)) => match u with | (u_ncn, u_nsy, u_nns, u_nvs, u_ntd) => (aW cI cJ cZ cB g0 g1 g2 g3 g4 g5 g6 g7 g8 g9 g10 g11 g12 g13 g14 g15 flt fln ffr sta plc edd lab lbv opr acd akd agl len lin att stp fol skd snm snu byt u_ncn u_nsy u_nns u_nvs u_ntd lvs ltd ocn opl owd oln okd ogl olo TL)) (va_A (aW cI cJ cZ cB g0 g1 g2 g3 g4 g5 g6 g7 g8 g9 g10 g11 g12 g13 g14 g15 flt fln ffr sta plc edd lab lbv opr acd akd agl len lin att stp fol skd snm snu byt ncn nsy nns nvs ntd lvs ltd ocn opl owd oln okd ogl olo TL) sz)) 0 0 (va_A (aW cI cJ cZ cB g0 g1 g2 g3 g4 g5 g6 g7 g8 g9 g10 g11 g12 g13 g14 g15 flt fln ffr sta plc edd lab lbv opr acd akd agl len lin att stp fol skd snm snu byt ncn nsy nns nvs ntd lvs ltd ocn opl owd oln okd ogl olo TL) sz) := by
  refine Met.ofW (cc := b_N_addSymbol) (maxL := 3) (ret := (some .int)) (by decide) rfl ?_
  intro p e s m args below meth c s₁ B hml hv
  obtain ⟨rfl, hsz, hK, hP, hD0⟩ := hv
  subst hsz
  have hD := hD0.self (sz := s.heap.size)
  generalize hAe : va_A (aW cI cJ cZ cB g0 g1 g2 g3 g4 g5 g6 g7 g8 g9 g10 g11 g12 g13 g14 g15 flt fln ffr sta plc edd lab lbv opr acd akd agl len lin att stp fol skd snm snu byt ncn nsy nns nvs ntd lvs ltd ocn opl owd oln okd ogl olo TL) s.heap.size = A at hD ⊢
  have hA : ∀ q : Nat, s.heap.size ≤ q → A q := fun q h => by rw [← hAe]; exact Or.inr h
  have hS : va_S A s.heap s.heap [] := va_S.rf
  have hx := B.exec
  have hb := B.bytes
  have hr := B.returns
  have hts := atoms_spec (ws := .code y_N_addSymbol b_N_addSymbol 3 (some .int) :: tb) B.pre
  have hk : ∀ w ∈ tb, w.before [.ref g3, .long a1].toArray s = true := fun w h => hts w (List.mem_cons_of_mem _ h)
  have hown : s.vm.findClass "SignMachine$Names" = some m.cls := findClass_of_methodNamed B.named
  have hlocks := B.notSynchronized
  have hl := lv_entry ([.ref g3, .long a1]) (n := 3) (Nat.le_of_ble_eq_true rfl)
  rw [lg_entry_eq]
  generalize (lg_sl ([.ref g3, .long a1]) ++ List.replicate (3 - (lg_sl ([.ref g3, .long a1])).length) Slot.unset).toArray = ls at hl ⊢
  have hl : lv_has ls 3 [(0, .ref g3), (1, .long a1)] := hl
  refine lv_aload_n hx hb d_N_addSymbol_0 rfl (lv_at hl 0 rfl) ?_
  refine va_get (D := D) (ci := 5) (v := .int nsy) (C := "SignMachine$Names") (T := F_N) (N := 7) hx hb hk fi_N hown hK.1 hP 3 rfl rfl 6 (by decide) (hk _ k_583) (fun _ h9 => h9) rfl d_N_addSymbol_1 ?_
  refine lv_bipush (v := 60) hx hb d_N_addSymbol_4 (by decide) ?_
  refine lv_icmp_lt (tgt := 12) hx hb d_N_addSymbol_6 (by decide) (fun c1 => ?_) (fun c1 => ?_)
  · refine lv_aload_n hx hb d_N_addSymbol_12 rfl (lv_at hl 0 rfl) ?_
    refine lv_dup hx hb d_N_addSymbol_13 rfl ?_
    refine va_get (D := D) (ci := 5) (v := .int nsy) (C := "SignMachine$Names") (T := F_N) (N := 7) hx hb hk fi_N hown hK.1 hP 3 rfl rfl 6 (by decide) (hk _ k_583) (fun _ h9 => h9) rfl d_N_addSymbol_14 ?_
    refine lv_iconst (v := 1) hx hb d_N_addSymbol_17 (by decide) ?_
    refine lv_iadd hx hb d_N_addSymbol_18 ?_
    refine va_put (D := D) (ci := 5) (v := .int (nsy + (1 : Int32))) (ty := .int) (C := "SignMachine$Names") (T := F_N) (N := 7) hx hb hk fi_N ft_N ft_N_ok fn_N hown hK.1 hP hD hS 3 rfl rfl 6 (by decide) (hk _ k_583) (fun _ h9 => h9) rfl (by decide +kernel) rfl rfl (Nat.le_of_ble_eq_true rfl) d_N_addSymbol_19 (fun H locs hP hD hS => ?_)
    have hP : va_P D classes (aW cI cJ cZ cB g0 g1 g2 g3 g4 g5 g6 g7 g8 g9 g10 g11 g12 g13 g14 g15 flt fln ffr sta plc edd lab lbv opr acd akd agl len lin att stp fol skd snm snu byt ncn (nsy + (1 : Int32)) nns nvs ntd lvs ltd ocn opl owd oln okd ogl olo TL) H := hP
    have hD : va_D A (aW cI cJ cZ cB g0 g1 g2 g3 g4 g5 g6 g7 g8 g9 g10 g11 g12 g13 g14 g15 flt fln ffr sta plc edd lab lbv opr acd akd agl len lin att stp fol skd snm snu byt ncn (nsy + (1 : Int32)) nns nvs ntd lvs ltd ocn opl owd oln okd ogl olo TL) := hD
    refine lv_aload_n hx hb d_N_addSymbol_22 rfl (lv_at hl 0 rfl) ?_
    refine lv_lload_n hx hb d_N_addSymbol_23 rfl (lv_at hl 1 rfl) ?_
    refine lv_iconst (v := 0) hx hb d_N_addSymbol_24 (by decide) ?_
    refine ca_i (va_runV (C := "SignMachine$Names") (As := [.long a1, .int (0 : Int32)]) (rest := []) ⟨hx, hb, hml, hown, hk⟩ (c_N_add l D cI cJ cZ cB g0 g1 g2 g3 g4 g5 g6 g7 g8 g9 g10 g11 g12 g13 g14 g15 H.size flt fln ffr sta plc edd lab lbv opr acd akd agl len lin att stp fol skd snm snu byt ncn (nsy + (1 : Int32)) nns nvs ntd lvs ltd ocn opl owd oln okd ogl olo TL a1 (0 : Int32)) (v_N_add hk k_936 ⟨Nat.le_of_ble_eq_true rfl, Nat.le_of_ble_eq_true rfl⟩) (pM_v hK hP hD (ci := 5) (q0 := 3) rfl rfl rfl) rfl rfl hl.1 rfl (lv_room (Nat.le_of_ble_eq_true rfl)) d_N_addSymbol_25 ⟨Nat.le_of_ble_eq_true rfl, Nat.le_of_ble_eq_true rfl⟩) hS hA hD (fun rz2 u H locs hz2 hP hS => ?_)
    obtain ⟨ncnz2, nnsz2, nvsz2, ntdz2⟩ := u
    have hP : va_P D classes (aW cI cJ cZ cB g0 g1 g2 g3 g4 g5 g6 g7 g8 g9 g10 g11 g12 g13 g14 g15 flt fln ffr sta plc edd lab lbv opr acd akd agl len lin att stp fol skd snm snu byt ncnz2 (nsy + (1 : Int32)) nnsz2 nvsz2 ntdz2 lvs ltd ocn opl owd oln okd ogl olo TL) H := hP
    have hD : va_D A (aW cI cJ cZ cB g0 g1 g2 g3 g4 g5 g6 g7 g8 g9 g10 g11 g12 g13 g14 g15 flt fln ffr sta plc edd lab lbv opr acd akd agl len lin att stp fol skd snm snu byt ncnz2 (nsy + (1 : Int32)) nnsz2 nvsz2 ntdz2 lvs ltd ocn opl owd oln okd ogl olo TL) := dsame hD rfl
    try dsimp only at hz2
    exact W.iret (v := rz2) hx hb hr (fun t ht hW => ⟨⟨rz2, (ncnz2, (nsy + (1 : Int32)), nnsz2, nvsz2, ntdz2), rfl, by simp only [f_N_addSymbol, if_pos c1, ← hz2], by show va_P D classes _ t.heap; rw [ht]; exact hP⟩, hS.F ht⟩) hS.2.2 d_N_addSymbol_28
  · refine lv_bipush (v := (-2)) hx hb d_N_addSymbol_9 (by decide) ?_
    exact W.iret (v := (-2 : Int32)) hx hb hr (fun t ht hW => ⟨⟨(-2 : Int32), (ncn, nsy, nns, nvs, ntd), rfl, by simp only [f_N_addSymbol, if_neg c1], by show va_P D classes _ t.heap; rw [ht]; exact hP⟩, hS.F ht⟩) hS.2.2 d_N_addSymbol_11
theorem v_N_addSymbol {R : Room} {s : State} {args : Array Value} {own : String} {index : Nat} (hk : ∀ w ∈ tb, w.before args s = true) (hl : Cond.methodLink own index y_N_addSymbol ∈ tb) (hR : 1 + 1 ≤ R.frames ∧ 8 + (3 + 11) + 23 ≤ R.locals) : CallW R s args own "SignMachine$Names" index y_N_addSymbol b_N_addSymbol 3 (some .int) (.code y_N_addSymbol b_N_addSymbol 3 (some .int) :: tb) ({ frames := 1, cells := 0, slots := 0, locals := 23 }) 0 0 1 := mk_v 1 hk k_935 hl k_933 k_934 k_125 rfl rfl h_N_addSymbol hR
def f_N_addLiteral (ncn : Int32) (nsy : Int32) (nns : Nat → Int64) (nvs : Nat → Int32) (ntd : Nat → Int32) (a1 : Int32) : Int32 × (Int32) × (Nat → Int64) × (Nat → Int32) × (Nat → Int32) := (if (ncn - nsy) < (40 : Int32) then (match (f_N_add ncn nns nvs ntd (0 : Int64) a1) with | (rz2, ncnz2, nnsz2, nvsz2, ntdz2) => (rz2, ncnz2, nnsz2, nvsz2, ntdz2)) else ((-2 : Int32), ncn, nns, nvs, ntd))
set_option maxHeartbeats 4000000 in
set_option maxRecDepth 100000 in
theorem c_N_addLiteral (l : Launch) (D : va_G) (cI cJ cZ cB : ClassId) (g0 g1 g2 g3 g4 g5 g6 g7 g8 g9 g10 g11 g12 g13 g14 g15 : Nat) (sz : Nat) (flt : Int32) (fln : Int32) (ffr : Int32) (sta : Int32) (plc : Int32) (edd : Int32) (lab : Int64) (lbv : Int32) (opr : Option Nat) (acd : Int32) (akd : Int32) (agl : Int32) (len : Int32) (lin : Int32) (att : Int32) (stp : Int32) (fol : Int32) (skd : Int32) (snm : Int64) (snu : Int32) (byt : Nat → Int32) (ncn : Int32) (nsy : Int32) (nns : Nat → Int64) (nvs : Nat → Int32) (ntd : Nat → Int32) (lvs : Nat → Int32) (ltd : Nat → Int32) (ocn : Int32) (opl : Nat → Int32) (owd : Nat → Int32) (oln : Nat → Int32) (okd : Nat → Int32) (ogl : Nat → Int32) (olo : Nat → Int32) (TL : va_W) (a1 : Int32) : Met l y_N_addLiteral (.code y_N_addLiteral b_N_addLiteral 2 (some .int) :: tb) ({ frames := 1, cells := 0, slots := 0, locals := 23 }) (pM D cI cJ cZ cB (aW cI cJ cZ cB g0 g1 g2 g3 g4 g5 g6 g7 g8 g9 g10 g11 g12 g13 g14 g15 flt fln ffr sta plc edd lab lbv opr acd akd agl len lin att stp fol skd snm snu byt ncn nsy nns nvs ntd lvs ltd ocn opl owd oln okd ogl olo TL) sz [.ref g3, .int a1]) (qI D (fun r u => (r, u) = f_N_addLiteral ncn nsy nns nvs ntd a1) (fun (u : (Int32) × (Nat → Int64) × (Nat → Int32) × (Nat → Int32)) => match u with | (u_ncn, u_nns, u_nvs, u_ntd) => (aW cI cJ cZ cB g0 g1 g2 g3 g4 g5 g6 g7 g8 g9 g10 g11 g12 g13 g14 g15 flt fln ffr sta plc edd lab lbv opr acd akd agl len lin att stp fol skd snm snu byt u_ncn nsy u_nns u_nvs u_ntd lvs ltd ocn opl owd oln okd ogl olo TL)) (va_A (aW cI cJ cZ cB g0 g1 g2 g3 g4 g5 g6 g7 g8 g9 g10 g11 g12 g13 g14 g15 flt fln ffr sta plc edd lab lbv opr acd akd agl len lin att stp fol skd snm snu byt ncn nsy nns nvs ntd lvs ltd ocn opl owd oln okd ogl olo TL) sz)) 0 0 (va_A (aW cI cJ cZ cB g0 g1 g2 g3 g4 g5 g6 g7 g8 g9 g10 g11 g12 g13 g14 g15 flt fln ffr sta plc edd lab lbv opr acd akd agl len lin att stp fol skd snm snu byt ncn nsy nns nvs ntd lvs ltd ocn opl owd oln okd ogl olo TL) sz) := by
  refine Met.ofW (cc := b_N_addLiteral) (maxL := 2) (ret := (some .int)) (by decide) rfl ?_
  intro p e s m args below meth c s₁ B hml hv
  obtain ⟨rfl, hsz, hK, hP, hD0⟩ := hv
  subst hsz
  have hD := hD0.self (sz := s.heap.size)
  generalize hAe : va_A (aW cI cJ cZ cB g0 g1 g2 g3 g4 g5 g6 g7 g8 g9 g10 g11 g12 g13 g14 g15 flt fln ffr sta plc edd lab lbv opr acd akd agl len lin att stp fol skd snm snu byt ncn nsy nns nvs ntd lvs ltd ocn opl owd oln okd ogl olo TL) s.heap.size = A at hD ⊢
  have hA : ∀ q : Nat, s.heap.size ≤ q → A q := fun q h => by rw [← hAe]; exact Or.inr h
  have hS : va_S A s.heap s.heap [] := va_S.rf
  have hx := B.exec
  have hb := B.bytes
  have hr := B.returns
  have hts := atoms_spec (ws := .code y_N_addLiteral b_N_addLiteral 2 (some .int) :: tb) B.pre
  have hk : ∀ w ∈ tb, w.before [.ref g3, .int a1].toArray s = true := fun w h => hts w (List.mem_cons_of_mem _ h)
  have hown : s.vm.findClass "SignMachine$Names" = some m.cls := findClass_of_methodNamed B.named
  have hlocks := B.notSynchronized
  have hl := lv_entry ([.ref g3, .int a1]) (n := 2) (Nat.le_of_ble_eq_true rfl)
  rw [lg_entry_eq]
  generalize (lg_sl ([.ref g3, .int a1]) ++ List.replicate (2 - (lg_sl ([.ref g3, .int a1])).length) Slot.unset).toArray = ls at hl ⊢
  have hl : lv_has ls 2 [(0, .ref g3), (1, .int a1)] := hl
  refine lv_aload_n hx hb d_N_addLiteral_0 rfl (lv_at hl 0 rfl) ?_
  refine va_get (D := D) (ci := 5) (v := .int ncn) (C := "SignMachine$Names") (T := F_N) (N := 7) hx hb hk fi_N hown hK.1 hP 3 rfl rfl 5 (by decide) (hk _ k_581) (fun _ h9 => h9) rfl d_N_addLiteral_1 ?_
  refine lv_aload_n hx hb d_N_addLiteral_4 rfl (lv_at hl 0 rfl) ?_
  refine va_get (D := D) (ci := 5) (v := .int nsy) (C := "SignMachine$Names") (T := F_N) (N := 7) hx hb hk fi_N hown hK.1 hP 3 rfl rfl 6 (by decide) (hk _ k_583) (fun _ h9 => h9) rfl d_N_addLiteral_5 ?_
  refine lv_isub hx hb d_N_addLiteral_8 ?_
  refine lv_bipush (v := 40) hx hb d_N_addLiteral_9 (by decide) ?_
  refine lv_icmp_lt (tgt := 19) hx hb d_N_addLiteral_11 (by decide) (fun c1 => ?_) (fun c1 => ?_)
  · refine lv_aload_n hx hb d_N_addLiteral_19 rfl (lv_at hl 0 rfl) ?_
    refine lv_lconst (v := 0) hx hb d_N_addLiteral_20 (by decide) ?_
    refine lv_iload_n hx hb d_N_addLiteral_21 rfl (lv_at hl 1 rfl) ?_
    refine ca_i (va_runV (C := "SignMachine$Names") (As := [.long (0 : Int64), .int a1]) (rest := []) ⟨hx, hb, hml, hown, hk⟩ (c_N_add l D cI cJ cZ cB g0 g1 g2 g3 g4 g5 g6 g7 g8 g9 g10 g11 g12 g13 g14 g15 s.heap.size flt fln ffr sta plc edd lab lbv opr acd akd agl len lin att stp fol skd snm snu byt ncn nsy nns nvs ntd lvs ltd ocn opl owd oln okd ogl olo TL (0 : Int64) a1) (v_N_add hk k_936 ⟨Nat.le_of_ble_eq_true rfl, Nat.le_of_ble_eq_true rfl⟩) (pM_v hK hP hD (ci := 5) (q0 := 3) rfl rfl rfl) rfl rfl hl.1 rfl (lv_room (Nat.le_of_ble_eq_true rfl)) d_N_addLiteral_22 ⟨Nat.le_of_ble_eq_true rfl, Nat.le_of_ble_eq_true rfl⟩) hS hA hD (fun rz2 u H locs hz2 hP hS => ?_)
    obtain ⟨ncnz2, nnsz2, nvsz2, ntdz2⟩ := u
    have hP : va_P D classes (aW cI cJ cZ cB g0 g1 g2 g3 g4 g5 g6 g7 g8 g9 g10 g11 g12 g13 g14 g15 flt fln ffr sta plc edd lab lbv opr acd akd agl len lin att stp fol skd snm snu byt ncnz2 nsy nnsz2 nvsz2 ntdz2 lvs ltd ocn opl owd oln okd ogl olo TL) H := hP
    have hD : va_D A (aW cI cJ cZ cB g0 g1 g2 g3 g4 g5 g6 g7 g8 g9 g10 g11 g12 g13 g14 g15 flt fln ffr sta plc edd lab lbv opr acd akd agl len lin att stp fol skd snm snu byt ncnz2 nsy nnsz2 nvsz2 ntdz2 lvs ltd ocn opl owd oln okd ogl olo TL) := dsame hD rfl
    try dsimp only at hz2
    exact W.iret (v := rz2) hx hb hr (fun t ht hW => ⟨⟨rz2, (ncnz2, nnsz2, nvsz2, ntdz2), rfl, by simp only [f_N_addLiteral, if_pos c1, ← hz2], by show va_P D classes _ t.heap; rw [ht]; exact hP⟩, hS.F ht⟩) hS.2.2 d_N_addLiteral_25
  · refine lv_bipush (v := (-2)) hx hb d_N_addLiteral_14 (by decide) ?_
    refine lv_goto (tgt := 25) hx hb d_N_addLiteral_16 (by decide) ?_
    exact W.iret (v := (-2 : Int32)) hx hb hr (fun t ht hW => ⟨⟨(-2 : Int32), (ncn, nns, nvs, ntd), rfl, by simp only [f_N_addLiteral, if_neg c1], by show va_P D classes _ t.heap; rw [ht]; exact hP⟩, hS.F ht⟩) hS.2.2 d_N_addLiteral_25
theorem v_N_addLiteral {R : Room} {s : State} {args : Array Value} {own : String} {index : Nat} (hk : ∀ w ∈ tb, w.before args s = true) (hl : Cond.methodLink own index y_N_addLiteral ∈ tb) (hR : 1 + 1 ≤ R.frames ∧ 8 + (2 + 11) + 23 ≤ R.locals) : CallW R s args own "SignMachine$Names" index y_N_addLiteral b_N_addLiteral 2 (some .int) (.code y_N_addLiteral b_N_addLiteral 2 (some .int) :: tb) ({ frames := 1, cells := 0, slots := 0, locals := 23 }) 0 0 1 := mk_v 1 hk k_1035 hl k_1033 k_1034 k_125 rfl rfl h_N_addLiteral hR
def f_O_placeOf (opl : Nat → Int32) (a1 : Int32) : Int32 := (if (bI (f_O_isWord a1)) = (0 : Int32) then (-2 : Int32) else (opl (a1).toNatClampNeg))
set_option maxHeartbeats 4000000 in
set_option maxRecDepth 100000 in
theorem c_O_placeOf (l : Launch) (D : va_G) (cI cJ cZ cB : ClassId) (g0 g1 g2 g3 g4 g5 g6 g7 g8 g9 g10 g11 g12 g13 g14 g15 : Nat) (flt : Int32) (fln : Int32) (ffr : Int32) (sta : Int32) (plc : Int32) (edd : Int32) (lab : Int64) (lbv : Int32) (opr : Option Nat) (acd : Int32) (akd : Int32) (agl : Int32) (len : Int32) (lin : Int32) (att : Int32) (stp : Int32) (fol : Int32) (skd : Int32) (snm : Int64) (snu : Int32) (byt : Nat → Int32) (ncn : Int32) (nsy : Int32) (nns : Nat → Int64) (nvs : Nat → Int32) (ntd : Nat → Int32) (lvs : Nat → Int32) (ltd : Nat → Int32) (ocn : Int32) (opl : Nat → Int32) (owd : Nat → Int32) (oln : Nat → Int32) (okd : Nat → Int32) (ogl : Nat → Int32) (olo : Nat → Int32) (TL : va_W) (a1 : Int32)  : Met l y_O_placeOf (.code y_O_placeOf b_O_placeOf 2 (some .int) :: tb) ({ frames := 1, cells := 0, slots := 0, locals := 20 }) (pR D cI cJ cZ cB (aW cI cJ cZ cB g0 g1 g2 g3 g4 g5 g6 g7 g8 g9 g10 g11 g12 g13 g14 g15 flt fln ffr sta plc edd lab lbv opr acd akd agl len lin att stp fol skd snm snu byt ncn nsy nns nvs ntd lvs ltd ocn opl owd oln okd ogl olo TL) [.ref g9, .int a1]) (vp_Si (fun r => r = f_O_placeOf opl a1)) 0 0 (fun _ => False) := by
  refine Met.ofW (cc := b_O_placeOf) (maxL := 2) (ret := (some .int)) (by decide) rfl ?_
  intro p e s m args below meth c s₁ B hml hv
  obtain ⟨rfl, hK, hP⟩ := hv
  have hx := B.exec
  have hb := B.bytes
  have hr := B.returns
  have hts := atoms_spec (ws := .code y_O_placeOf b_O_placeOf 2 (some .int) :: tb) B.pre
  have hk : ∀ w ∈ tb, w.before [.ref g9, .int a1].toArray s = true := fun w h => hts w (List.mem_cons_of_mem _ h)
  have hown : s.vm.findClass "SignMachine$Output" = some m.cls := findClass_of_methodNamed B.named
  have hlocks := B.notSynchronized
  have hl := lv_entry ([.ref g9, .int a1]) (n := 2) (Nat.le_of_ble_eq_true rfl)
  rw [lg_entry_eq]
  generalize (lg_sl ([.ref g9, .int a1]) ++ List.replicate (2 - (lg_sl ([.ref g9, .int a1])).length) Slot.unset).toArray = ls at hl ⊢
  have hl : lv_has ls 2 [(0, .ref g9), (1, .int a1)] := hl
  refine lv_iload_n hx hb d_O_placeOf_0 rfl (lv_at hl 1 rfl) ?_
  refine cs_i (W.runS (As := [.int a1]) (rest := []) ⟨hx, hb, hml, hown, hk⟩ (c_O_isWord l a1) (s_O_isWord hk k_917 ⟨Nat.le_of_ble_eq_true rfl, Nat.le_of_ble_eq_true rfl⟩) ⟨fun a U g mk q => q, fun U hU hW => ⟨rfl, trivial⟩⟩ rfl rfl hl.1 rfl (lv_room (Nat.le_of_ble_eq_true rfl)) d_O_placeOf_1 ⟨Nat.le_of_ble_eq_true rfl, Nat.le_of_ble_eq_true rfl⟩) ?_
  refine lv_if_eq (tgt := 16) hx hb d_O_placeOf_4 (by decide) (fun c1 => ?_) (fun c1 => ?_)
  · refine lv_bipush (v := (-2)) hx hb d_O_placeOf_16 (by decide) ?_
    exact W.iret (v := (-2 : Int32)) hx hb hr (fun t ht hW => ⟨(-2 : Int32), rfl, by simp only [f_O_placeOf, if_pos c1], ht⟩) (fun q h => absurd h List.not_mem_nil) d_O_placeOf_18
  · refine lv_aload_n hx hb d_O_placeOf_7 rfl (lv_at hl 0 rfl) ?_
    refine va_get (D := D) (ci := 6) (v := .ref g10) (C := "SignMachine$Output") (T := F_O) (N := 7) hx hb hk fi_O hown hK.1 hP 9 rfl rfl 0 (by decide) (hk _ k_607) (fun _ h9 => h9) rfl d_O_placeOf_8 ?_
    refine lv_iload_n hx hb d_O_placeOf_11 rfl (lv_at hl 1 rfl) ?_
    refine va_iald hx hb hK.1 hP 10 0 rfl rfl (o_in c1) d_O_placeOf_12 ?_
    refine lv_goto (tgt := 18) hx hb d_O_placeOf_13 (by decide) ?_
    exact W.iret (v := (opl (a1).toNatClampNeg)) hx hb hr (fun t ht hW => ⟨(opl (a1).toNatClampNeg), rfl, by simp only [f_O_placeOf, if_neg c1], ht⟩) (fun q h => absurd h List.not_mem_nil) d_O_placeOf_18
theorem v_O_placeOf {R : Room} {s : State} {args : Array Value} {own : String} {index : Nat} (hk : ∀ w ∈ tb, w.before args s = true) (hl : Cond.methodLink own index y_O_placeOf ∈ tb) (hR : 1 + 1 ≤ R.frames ∧ 8 + (2 + 11) + 20 ≤ R.locals) : CallW R s args own "SignMachine$Output" index y_O_placeOf b_O_placeOf 2 (some .int) (.code y_O_placeOf b_O_placeOf 2 (some .int) :: tb) ({ frames := 1, cells := 0, slots := 0, locals := 20 }) 0 0 1 := mk_v 1 hk k_1106 hl k_1104 k_1105 k_126 rfl rfl h_O_placeOf hR
def f_O_wordOf (owd : Nat → Int32) (a1 : Int32) : Int32 := (if (bI (f_O_isWord a1)) = (0 : Int32) then (0 : Int32) else (owd (a1).toNatClampNeg))
set_option maxHeartbeats 4000000 in
set_option maxRecDepth 100000 in
theorem c_O_wordOf (l : Launch) (D : va_G) (cI cJ cZ cB : ClassId) (g0 g1 g2 g3 g4 g5 g6 g7 g8 g9 g10 g11 g12 g13 g14 g15 : Nat) (flt : Int32) (fln : Int32) (ffr : Int32) (sta : Int32) (plc : Int32) (edd : Int32) (lab : Int64) (lbv : Int32) (opr : Option Nat) (acd : Int32) (akd : Int32) (agl : Int32) (len : Int32) (lin : Int32) (att : Int32) (stp : Int32) (fol : Int32) (skd : Int32) (snm : Int64) (snu : Int32) (byt : Nat → Int32) (ncn : Int32) (nsy : Int32) (nns : Nat → Int64) (nvs : Nat → Int32) (ntd : Nat → Int32) (lvs : Nat → Int32) (ltd : Nat → Int32) (ocn : Int32) (opl : Nat → Int32) (owd : Nat → Int32) (oln : Nat → Int32) (okd : Nat → Int32) (ogl : Nat → Int32) (olo : Nat → Int32) (TL : va_W) (a1 : Int32)  : Met l y_O_wordOf (.code y_O_wordOf b_O_wordOf 2 (some .int) :: tb) ({ frames := 1, cells := 0, slots := 0, locals := 20 }) (pR D cI cJ cZ cB (aW cI cJ cZ cB g0 g1 g2 g3 g4 g5 g6 g7 g8 g9 g10 g11 g12 g13 g14 g15 flt fln ffr sta plc edd lab lbv opr acd akd agl len lin att stp fol skd snm snu byt ncn nsy nns nvs ntd lvs ltd ocn opl owd oln okd ogl olo TL) [.ref g9, .int a1]) (vp_Si (fun r => r = f_O_wordOf owd a1)) 0 0 (fun _ => False) := by
  refine Met.ofW (cc := b_O_wordOf) (maxL := 2) (ret := (some .int)) (by decide) rfl ?_
  intro p e s m args below meth c s₁ B hml hv
  obtain ⟨rfl, hK, hP⟩ := hv
  have hx := B.exec
  have hb := B.bytes
  have hr := B.returns
  have hts := atoms_spec (ws := .code y_O_wordOf b_O_wordOf 2 (some .int) :: tb) B.pre
  have hk : ∀ w ∈ tb, w.before [.ref g9, .int a1].toArray s = true := fun w h => hts w (List.mem_cons_of_mem _ h)
  have hown : s.vm.findClass "SignMachine$Output" = some m.cls := findClass_of_methodNamed B.named
  have hlocks := B.notSynchronized
  have hl := lv_entry ([.ref g9, .int a1]) (n := 2) (Nat.le_of_ble_eq_true rfl)
  rw [lg_entry_eq]
  generalize (lg_sl ([.ref g9, .int a1]) ++ List.replicate (2 - (lg_sl ([.ref g9, .int a1])).length) Slot.unset).toArray = ls at hl ⊢
  have hl : lv_has ls 2 [(0, .ref g9), (1, .int a1)] := hl
  refine lv_iload_n hx hb d_O_wordOf_0 rfl (lv_at hl 1 rfl) ?_
  refine cs_i (W.runS (As := [.int a1]) (rest := []) ⟨hx, hb, hml, hown, hk⟩ (c_O_isWord l a1) (s_O_isWord hk k_917 ⟨Nat.le_of_ble_eq_true rfl, Nat.le_of_ble_eq_true rfl⟩) ⟨fun a U g mk q => q, fun U hU hW => ⟨rfl, trivial⟩⟩ rfl rfl hl.1 rfl (lv_room (Nat.le_of_ble_eq_true rfl)) d_O_wordOf_1 ⟨Nat.le_of_ble_eq_true rfl, Nat.le_of_ble_eq_true rfl⟩) ?_
  refine lv_if_eq (tgt := 16) hx hb d_O_wordOf_4 (by decide) (fun c1 => ?_) (fun c1 => ?_)
  · refine lv_iconst (v := 0) hx hb d_O_wordOf_16 (by decide) ?_
    exact W.iret (v := (0 : Int32)) hx hb hr (fun t ht hW => ⟨(0 : Int32), rfl, by simp only [f_O_wordOf, if_pos c1], ht⟩) (fun q h => absurd h List.not_mem_nil) d_O_wordOf_17
  · refine lv_aload_n hx hb d_O_wordOf_7 rfl (lv_at hl 0 rfl) ?_
    refine va_get (D := D) (ci := 6) (v := .ref g11) (C := "SignMachine$Output") (T := F_O) (N := 7) hx hb hk fi_O hown hK.1 hP 9 rfl rfl 1 (by decide) (hk _ k_608) (fun _ h9 => h9) rfl d_O_wordOf_8 ?_
    refine lv_iload_n hx hb d_O_wordOf_11 rfl (lv_at hl 1 rfl) ?_
    refine va_iald hx hb hK.1 hP 11 0 rfl rfl (o_in c1) d_O_wordOf_12 ?_
    refine lv_goto (tgt := 17) hx hb d_O_wordOf_13 (by decide) ?_
    exact W.iret (v := (owd (a1).toNatClampNeg)) hx hb hr (fun t ht hW => ⟨(owd (a1).toNatClampNeg), rfl, by simp only [f_O_wordOf, if_neg c1], ht⟩) (fun q h => absurd h List.not_mem_nil) d_O_wordOf_17
theorem v_O_wordOf {R : Room} {s : State} {args : Array Value} {own : String} {index : Nat} (hk : ∀ w ∈ tb, w.before args s = true) (hl : Cond.methodLink own index y_O_wordOf ∈ tb) (hR : 1 + 1 ≤ R.frames ∧ 8 + (2 + 11) + 20 ≤ R.locals) : CallW R s args own "SignMachine$Output" index y_O_wordOf b_O_wordOf 2 (some .int) (.code y_O_wordOf b_O_wordOf 2 (some .int) :: tb) ({ frames := 1, cells := 0, slots := 0, locals := 20 }) 0 0 1 := mk_v 1 hk k_1110 hl k_1108 k_1109 k_126 rfl rfl h_O_wordOf hR
def f_O_lineOf (oln : Nat → Int32) (a1 : Int32) : Int32 := (if (bI (f_O_isWord a1)) = (0 : Int32) then (0 : Int32) else (oln (a1).toNatClampNeg))
set_option maxHeartbeats 4000000 in
set_option maxRecDepth 100000 in
theorem c_O_lineOf (l : Launch) (D : va_G) (cI cJ cZ cB : ClassId) (g0 g1 g2 g3 g4 g5 g6 g7 g8 g9 g10 g11 g12 g13 g14 g15 : Nat) (flt : Int32) (fln : Int32) (ffr : Int32) (sta : Int32) (plc : Int32) (edd : Int32) (lab : Int64) (lbv : Int32) (opr : Option Nat) (acd : Int32) (akd : Int32) (agl : Int32) (len : Int32) (lin : Int32) (att : Int32) (stp : Int32) (fol : Int32) (skd : Int32) (snm : Int64) (snu : Int32) (byt : Nat → Int32) (ncn : Int32) (nsy : Int32) (nns : Nat → Int64) (nvs : Nat → Int32) (ntd : Nat → Int32) (lvs : Nat → Int32) (ltd : Nat → Int32) (ocn : Int32) (opl : Nat → Int32) (owd : Nat → Int32) (oln : Nat → Int32) (okd : Nat → Int32) (ogl : Nat → Int32) (olo : Nat → Int32) (TL : va_W) (a1 : Int32)  : Met l y_O_lineOf (.code y_O_lineOf b_O_lineOf 2 (some .int) :: tb) ({ frames := 1, cells := 0, slots := 0, locals := 20 }) (pR D cI cJ cZ cB (aW cI cJ cZ cB g0 g1 g2 g3 g4 g5 g6 g7 g8 g9 g10 g11 g12 g13 g14 g15 flt fln ffr sta plc edd lab lbv opr acd akd agl len lin att stp fol skd snm snu byt ncn nsy nns nvs ntd lvs ltd ocn opl owd oln okd ogl olo TL) [.ref g9, .int a1]) (vp_Si (fun r => r = f_O_lineOf oln a1)) 0 0 (fun _ => False) := by
  refine Met.ofW (cc := b_O_lineOf) (maxL := 2) (ret := (some .int)) (by decide) rfl ?_
  intro p e s m args below meth c s₁ B hml hv
  obtain ⟨rfl, hK, hP⟩ := hv
  have hx := B.exec
  have hb := B.bytes
  have hr := B.returns
  have hts := atoms_spec (ws := .code y_O_lineOf b_O_lineOf 2 (some .int) :: tb) B.pre
  have hk : ∀ w ∈ tb, w.before [.ref g9, .int a1].toArray s = true := fun w h => hts w (List.mem_cons_of_mem _ h)
  have hown : s.vm.findClass "SignMachine$Output" = some m.cls := findClass_of_methodNamed B.named
  have hlocks := B.notSynchronized
  have hl := lv_entry ([.ref g9, .int a1]) (n := 2) (Nat.le_of_ble_eq_true rfl)
  rw [lg_entry_eq]
  generalize (lg_sl ([.ref g9, .int a1]) ++ List.replicate (2 - (lg_sl ([.ref g9, .int a1])).length) Slot.unset).toArray = ls at hl ⊢
  have hl : lv_has ls 2 [(0, .ref g9), (1, .int a1)] := hl
  refine lv_iload_n hx hb d_O_lineOf_0 rfl (lv_at hl 1 rfl) ?_
  refine cs_i (W.runS (As := [.int a1]) (rest := []) ⟨hx, hb, hml, hown, hk⟩ (c_O_isWord l a1) (s_O_isWord hk k_917 ⟨Nat.le_of_ble_eq_true rfl, Nat.le_of_ble_eq_true rfl⟩) ⟨fun a U g mk q => q, fun U hU hW => ⟨rfl, trivial⟩⟩ rfl rfl hl.1 rfl (lv_room (Nat.le_of_ble_eq_true rfl)) d_O_lineOf_1 ⟨Nat.le_of_ble_eq_true rfl, Nat.le_of_ble_eq_true rfl⟩) ?_
  refine lv_if_eq (tgt := 16) hx hb d_O_lineOf_4 (by decide) (fun c1 => ?_) (fun c1 => ?_)
  · refine lv_iconst (v := 0) hx hb d_O_lineOf_16 (by decide) ?_
    exact W.iret (v := (0 : Int32)) hx hb hr (fun t ht hW => ⟨(0 : Int32), rfl, by simp only [f_O_lineOf, if_pos c1], ht⟩) (fun q h => absurd h List.not_mem_nil) d_O_lineOf_17
  · refine lv_aload_n hx hb d_O_lineOf_7 rfl (lv_at hl 0 rfl) ?_
    refine va_get (D := D) (ci := 6) (v := .ref g12) (C := "SignMachine$Output") (T := F_O) (N := 7) hx hb hk fi_O hown hK.1 hP 9 rfl rfl 2 (by decide) (hk _ k_609) (fun _ h9 => h9) rfl d_O_lineOf_8 ?_
    refine lv_iload_n hx hb d_O_lineOf_11 rfl (lv_at hl 1 rfl) ?_
    refine va_iald hx hb hK.1 hP 12 0 rfl rfl (o_in c1) d_O_lineOf_12 ?_
    refine lv_goto (tgt := 17) hx hb d_O_lineOf_13 (by decide) ?_
    exact W.iret (v := (oln (a1).toNatClampNeg)) hx hb hr (fun t ht hW => ⟨(oln (a1).toNatClampNeg), rfl, by simp only [f_O_lineOf, if_neg c1], ht⟩) (fun q h => absurd h List.not_mem_nil) d_O_lineOf_17
theorem v_O_lineOf {R : Room} {s : State} {args : Array Value} {own : String} {index : Nat} (hk : ∀ w ∈ tb, w.before args s = true) (hl : Cond.methodLink own index y_O_lineOf ∈ tb) (hR : 1 + 1 ≤ R.frames ∧ 8 + (2 + 11) + 20 ≤ R.locals) : CallW R s args own "SignMachine$Output" index y_O_lineOf b_O_lineOf 2 (some .int) (.code y_O_lineOf b_O_lineOf 2 (some .int) :: tb) ({ frames := 1, cells := 0, slots := 0, locals := 20 }) 0 0 1 := mk_v 1 hk k_1093 hl k_1091 k_1092 k_126 rfl rfl h_O_lineOf hR
def f_O_kindOf (okd : Nat → Int32) (a1 : Int32) : Int32 := (if (bI (f_O_isWord a1)) = (0 : Int32) then (0 : Int32) else (okd (a1).toNatClampNeg))
set_option maxHeartbeats 4000000 in
set_option maxRecDepth 100000 in
theorem c_O_kindOf (l : Launch) (D : va_G) (cI cJ cZ cB : ClassId) (g0 g1 g2 g3 g4 g5 g6 g7 g8 g9 g10 g11 g12 g13 g14 g15 : Nat) (flt : Int32) (fln : Int32) (ffr : Int32) (sta : Int32) (plc : Int32) (edd : Int32) (lab : Int64) (lbv : Int32) (opr : Option Nat) (acd : Int32) (akd : Int32) (agl : Int32) (len : Int32) (lin : Int32) (att : Int32) (stp : Int32) (fol : Int32) (skd : Int32) (snm : Int64) (snu : Int32) (byt : Nat → Int32) (ncn : Int32) (nsy : Int32) (nns : Nat → Int64) (nvs : Nat → Int32) (ntd : Nat → Int32) (lvs : Nat → Int32) (ltd : Nat → Int32) (ocn : Int32) (opl : Nat → Int32) (owd : Nat → Int32) (oln : Nat → Int32) (okd : Nat → Int32) (ogl : Nat → Int32) (olo : Nat → Int32) (TL : va_W) (a1 : Int32)  : Met l y_O_kindOf (.code y_O_kindOf b_O_kindOf 2 (some .int) :: tb) ({ frames := 1, cells := 0, slots := 0, locals := 20 }) (pR D cI cJ cZ cB (aW cI cJ cZ cB g0 g1 g2 g3 g4 g5 g6 g7 g8 g9 g10 g11 g12 g13 g14 g15 flt fln ffr sta plc edd lab lbv opr acd akd agl len lin att stp fol skd snm snu byt ncn nsy nns nvs ntd lvs ltd ocn opl owd oln okd ogl olo TL) [.ref g9, .int a1]) (vp_Si (fun r => r = f_O_kindOf okd a1)) 0 0 (fun _ => False) := by
  refine Met.ofW (cc := b_O_kindOf) (maxL := 2) (ret := (some .int)) (by decide) rfl ?_
  intro p e s m args below meth c s₁ B hml hv
  obtain ⟨rfl, hK, hP⟩ := hv
  have hx := B.exec
  have hb := B.bytes
  have hr := B.returns
  have hts := atoms_spec (ws := .code y_O_kindOf b_O_kindOf 2 (some .int) :: tb) B.pre
  have hk : ∀ w ∈ tb, w.before [.ref g9, .int a1].toArray s = true := fun w h => hts w (List.mem_cons_of_mem _ h)
  have hown : s.vm.findClass "SignMachine$Output" = some m.cls := findClass_of_methodNamed B.named
  have hlocks := B.notSynchronized
  have hl := lv_entry ([.ref g9, .int a1]) (n := 2) (Nat.le_of_ble_eq_true rfl)
  rw [lg_entry_eq]
  generalize (lg_sl ([.ref g9, .int a1]) ++ List.replicate (2 - (lg_sl ([.ref g9, .int a1])).length) Slot.unset).toArray = ls at hl ⊢
  have hl : lv_has ls 2 [(0, .ref g9), (1, .int a1)] := hl
  refine lv_iload_n hx hb d_O_kindOf_0 rfl (lv_at hl 1 rfl) ?_
  refine cs_i (W.runS (As := [.int a1]) (rest := []) ⟨hx, hb, hml, hown, hk⟩ (c_O_isWord l a1) (s_O_isWord hk k_917 ⟨Nat.le_of_ble_eq_true rfl, Nat.le_of_ble_eq_true rfl⟩) ⟨fun a U g mk q => q, fun U hU hW => ⟨rfl, trivial⟩⟩ rfl rfl hl.1 rfl (lv_room (Nat.le_of_ble_eq_true rfl)) d_O_kindOf_1 ⟨Nat.le_of_ble_eq_true rfl, Nat.le_of_ble_eq_true rfl⟩) ?_
  refine lv_if_eq (tgt := 16) hx hb d_O_kindOf_4 (by decide) (fun c1 => ?_) (fun c1 => ?_)
  · refine lv_iconst (v := 0) hx hb d_O_kindOf_16 (by decide) ?_
    exact W.iret (v := (0 : Int32)) hx hb hr (fun t ht hW => ⟨(0 : Int32), rfl, by simp only [f_O_kindOf, if_pos c1], ht⟩) (fun q h => absurd h List.not_mem_nil) d_O_kindOf_17
  · refine lv_aload_n hx hb d_O_kindOf_7 rfl (lv_at hl 0 rfl) ?_
    refine va_get (D := D) (ci := 6) (v := .ref g13) (C := "SignMachine$Output") (T := F_O) (N := 7) hx hb hk fi_O hown hK.1 hP 9 rfl rfl 3 (by decide) (hk _ k_610) (fun _ h9 => h9) rfl d_O_kindOf_8 ?_
    refine lv_iload_n hx hb d_O_kindOf_11 rfl (lv_at hl 1 rfl) ?_
    refine va_bald hx hb hK.1 hP 13 3 rfl rfl (o_in c1) d_O_kindOf_12 ?_
    refine lv_goto (tgt := 17) hx hb d_O_kindOf_13 (by decide) ?_
    exact W.iret (v := (okd (a1).toNatClampNeg)) hx hb hr (fun t ht hW => ⟨(okd (a1).toNatClampNeg), rfl, by simp only [f_O_kindOf, if_neg c1], ht⟩) (fun q h => absurd h List.not_mem_nil) d_O_kindOf_17
theorem v_O_kindOf {R : Room} {s : State} {args : Array Value} {own : String} {index : Nat} (hk : ∀ w ∈ tb, w.before args s = true) (hl : Cond.methodLink own index y_O_kindOf ∈ tb) (hR : 1 + 1 ≤ R.frames ∧ 8 + (2 + 11) + 20 ≤ R.locals) : CallW R s args own "SignMachine$Output" index y_O_kindOf b_O_kindOf 2 (some .int) (.code y_O_kindOf b_O_kindOf 2 (some .int) :: tb) ({ frames := 1, cells := 0, slots := 0, locals := 20 }) 0 0 1 := mk_v 1 hk k_1085 hl k_1083 k_1084 k_126 rfl rfl h_O_kindOf hR
def f_O_goalOf (ogl : Nat → Int32) (a1 : Int32) : Int32 := (if (bI (f_O_isWord a1)) = (0 : Int32) then (-2 : Int32) else (ogl (a1).toNatClampNeg))
set_option maxHeartbeats 4000000 in
set_option maxRecDepth 100000 in
theorem c_O_goalOf (l : Launch) (D : va_G) (cI cJ cZ cB : ClassId) (g0 g1 g2 g3 g4 g5 g6 g7 g8 g9 g10 g11 g12 g13 g14 g15 : Nat) (flt : Int32) (fln : Int32) (ffr : Int32) (sta : Int32) (plc : Int32) (edd : Int32) (lab : Int64) (lbv : Int32) (opr : Option Nat) (acd : Int32) (akd : Int32) (agl : Int32) (len : Int32) (lin : Int32) (att : Int32) (stp : Int32) (fol : Int32) (skd : Int32) (snm : Int64) (snu : Int32) (byt : Nat → Int32) (ncn : Int32) (nsy : Int32) (nns : Nat → Int64) (nvs : Nat → Int32) (ntd : Nat → Int32) (lvs : Nat → Int32) (ltd : Nat → Int32) (ocn : Int32) (opl : Nat → Int32) (owd : Nat → Int32) (oln : Nat → Int32) (okd : Nat → Int32) (ogl : Nat → Int32) (olo : Nat → Int32) (TL : va_W) (a1 : Int32)  : Met l y_O_goalOf (.code y_O_goalOf b_O_goalOf 2 (some .int) :: tb) ({ frames := 1, cells := 0, slots := 0, locals := 20 }) (pR D cI cJ cZ cB (aW cI cJ cZ cB g0 g1 g2 g3 g4 g5 g6 g7 g8 g9 g10 g11 g12 g13 g14 g15 flt fln ffr sta plc edd lab lbv opr acd akd agl len lin att stp fol skd snm snu byt ncn nsy nns nvs ntd lvs ltd ocn opl owd oln okd ogl olo TL) [.ref g9, .int a1]) (vp_Si (fun r => r = f_O_goalOf ogl a1)) 0 0 (fun _ => False) := by
  refine Met.ofW (cc := b_O_goalOf) (maxL := 2) (ret := (some .int)) (by decide) rfl ?_
  intro p e s m args below meth c s₁ B hml hv
  obtain ⟨rfl, hK, hP⟩ := hv
  have hx := B.exec
  have hb := B.bytes
  have hr := B.returns
  have hts := atoms_spec (ws := .code y_O_goalOf b_O_goalOf 2 (some .int) :: tb) B.pre
  have hk : ∀ w ∈ tb, w.before [.ref g9, .int a1].toArray s = true := fun w h => hts w (List.mem_cons_of_mem _ h)
  have hown : s.vm.findClass "SignMachine$Output" = some m.cls := findClass_of_methodNamed B.named
  have hlocks := B.notSynchronized
  have hl := lv_entry ([.ref g9, .int a1]) (n := 2) (Nat.le_of_ble_eq_true rfl)
  rw [lg_entry_eq]
  generalize (lg_sl ([.ref g9, .int a1]) ++ List.replicate (2 - (lg_sl ([.ref g9, .int a1])).length) Slot.unset).toArray = ls at hl ⊢
  have hl : lv_has ls 2 [(0, .ref g9), (1, .int a1)] := hl
  refine lv_iload_n hx hb d_O_goalOf_0 rfl (lv_at hl 1 rfl) ?_
  refine cs_i (W.runS (As := [.int a1]) (rest := []) ⟨hx, hb, hml, hown, hk⟩ (c_O_isWord l a1) (s_O_isWord hk k_917 ⟨Nat.le_of_ble_eq_true rfl, Nat.le_of_ble_eq_true rfl⟩) ⟨fun a U g mk q => q, fun U hU hW => ⟨rfl, trivial⟩⟩ rfl rfl hl.1 rfl (lv_room (Nat.le_of_ble_eq_true rfl)) d_O_goalOf_1 ⟨Nat.le_of_ble_eq_true rfl, Nat.le_of_ble_eq_true rfl⟩) ?_
  refine lv_if_eq (tgt := 16) hx hb d_O_goalOf_4 (by decide) (fun c1 => ?_) (fun c1 => ?_)
  · refine lv_bipush (v := (-2)) hx hb d_O_goalOf_16 (by decide) ?_
    exact W.iret (v := (-2 : Int32)) hx hb hr (fun t ht hW => ⟨(-2 : Int32), rfl, by simp only [f_O_goalOf, if_pos c1], ht⟩) (fun q h => absurd h List.not_mem_nil) d_O_goalOf_18
  · refine lv_aload_n hx hb d_O_goalOf_7 rfl (lv_at hl 0 rfl) ?_
    refine va_get (D := D) (ci := 6) (v := .ref g14) (C := "SignMachine$Output") (T := F_O) (N := 7) hx hb hk fi_O hown hK.1 hP 9 rfl rfl 4 (by decide) (hk _ k_611) (fun _ h9 => h9) rfl d_O_goalOf_8 ?_
    refine lv_iload_n hx hb d_O_goalOf_11 rfl (lv_at hl 1 rfl) ?_
    refine va_iald hx hb hK.1 hP 14 0 rfl rfl (o_in c1) d_O_goalOf_12 ?_
    refine lv_goto (tgt := 18) hx hb d_O_goalOf_13 (by decide) ?_
    exact W.iret (v := (ogl (a1).toNatClampNeg)) hx hb hr (fun t ht hW => ⟨(ogl (a1).toNatClampNeg), rfl, by simp only [f_O_goalOf, if_neg c1], ht⟩) (fun q h => absurd h List.not_mem_nil) d_O_goalOf_18
theorem v_O_goalOf {R : Room} {s : State} {args : Array Value} {own : String} {index : Nat} (hk : ∀ w ∈ tb, w.before args s = true) (hl : Cond.methodLink own index y_O_goalOf ∈ tb) (hR : 1 + 1 ≤ R.frames ∧ 8 + (2 + 11) + 20 ≤ R.locals) : CallW R s args own "SignMachine$Output" index y_O_goalOf b_O_goalOf 2 (some .int) (.code y_O_goalOf b_O_goalOf 2 (some .int) :: tb) ({ frames := 1, cells := 0, slots := 0, locals := 20 }) 0 0 1 := mk_v 1 hk k_1089 hl k_1087 k_1088 k_126 rfl rfl h_O_goalOf hR
def f_O_putAddress (owd : Nat → Int32) (a1 : Int32) (a2 : Int32) : (Nat → Int32) := (if (bI (f_O_isWord a1)) = (0 : Int32) then (owd) else ((upd owd (a1).toNatClampNeg ((owd (a1).toNatClampNeg) ||| (f_A_addressPart a2)))))
set_option maxHeartbeats 4000000 in
set_option maxRecDepth 100000 in
theorem c_O_putAddress (l : Launch) (D : va_G) (cI cJ cZ cB : ClassId) (g0 g1 g2 g3 g4 g5 g6 g7 g8 g9 g10 g11 g12 g13 g14 g15 : Nat) (sz : Nat) (flt : Int32) (fln : Int32) (ffr : Int32) (sta : Int32) (plc : Int32) (edd : Int32) (lab : Int64) (lbv : Int32) (opr : Option Nat) (acd : Int32) (akd : Int32) (agl : Int32) (len : Int32) (lin : Int32) (att : Int32) (stp : Int32) (fol : Int32) (skd : Int32) (snm : Int64) (snu : Int32) (byt : Nat → Int32) (ncn : Int32) (nsy : Int32) (nns : Nat → Int64) (nvs : Nat → Int32) (ntd : Nat → Int32) (lvs : Nat → Int32) (ltd : Nat → Int32) (ocn : Int32) (opl : Nat → Int32) (owd : Nat → Int32) (oln : Nat → Int32) (okd : Nat → Int32) (ogl : Nat → Int32) (olo : Nat → Int32) (TL : va_W) (a1 : Int32) (a2 : Int32) : Met l y_O_putAddress (.code y_O_putAddress b_O_putAddress 3 none :: tb) ({ frames := 2, cells := 0, slots := 0, locals := 41 }) (pM D cI cJ cZ cB (aW cI cJ cZ cB g0 g1 g2 g3 g4 g5 g6 g7 g8 g9 g10 g11 g12 g13 g14 g15 flt fln ffr sta plc edd lab lbv opr acd akd agl len lin att stp fol skd snm snu byt ncn nsy nns nvs ntd lvs ltd ocn opl owd oln okd ogl olo TL) sz [.ref g9, .int a1, .int a2]) (qV D (fun u => u = f_O_putAddress owd a1 a2) (fun (u : (Nat → Int32)) => match u with | u_owd => (aW cI cJ cZ cB g0 g1 g2 g3 g4 g5 g6 g7 g8 g9 g10 g11 g12 g13 g14 g15 flt fln ffr sta plc edd lab lbv opr acd akd agl len lin att stp fol skd snm snu byt ncn nsy nns nvs ntd lvs ltd ocn opl u_owd oln okd ogl olo TL)) (va_A (aW cI cJ cZ cB g0 g1 g2 g3 g4 g5 g6 g7 g8 g9 g10 g11 g12 g13 g14 g15 flt fln ffr sta plc edd lab lbv opr acd akd agl len lin att stp fol skd snm snu byt ncn nsy nns nvs ntd lvs ltd ocn opl owd oln okd ogl olo TL) sz)) 0 0 (va_A (aW cI cJ cZ cB g0 g1 g2 g3 g4 g5 g6 g7 g8 g9 g10 g11 g12 g13 g14 g15 flt fln ffr sta plc edd lab lbv opr acd akd agl len lin att stp fol skd snm snu byt ncn nsy nns nvs ntd lvs ltd ocn opl owd oln okd ogl olo TL) sz) := by
  refine Met.ofW (cc := b_O_putAddress) (maxL := 3) (ret := none) (by decide) rfl ?_
  intro p e s m args below meth c s₁ B hml hv
  obtain ⟨rfl, hsz, hK, hP, hD0⟩ := hv
  subst hsz
  have hD := hD0.self (sz := s.heap.size)
  generalize hAe : va_A (aW cI cJ cZ cB g0 g1 g2 g3 g4 g5 g6 g7 g8 g9 g10 g11 g12 g13 g14 g15 flt fln ffr sta plc edd lab lbv opr acd akd agl len lin att stp fol skd snm snu byt ncn nsy nns nvs ntd lvs ltd ocn opl owd oln okd ogl olo TL) s.heap.size = A at hD ⊢
  have hA : ∀ q : Nat, s.heap.size ≤ q → A q := fun q h => by rw [← hAe]; exact Or.inr h
  have hS : va_S A s.heap s.heap [] := va_S.rf
  have hx := B.exec
  have hb := B.bytes
  have hr := B.returns
  have hts := atoms_spec (ws := .code y_O_putAddress b_O_putAddress 3 none :: tb) B.pre
  have hk : ∀ w ∈ tb, w.before [.ref g9, .int a1, .int a2].toArray s = true := fun w h => hts w (List.mem_cons_of_mem _ h)
  have hown : s.vm.findClass "SignMachine$Output" = some m.cls := findClass_of_methodNamed B.named
  have hlocks := B.notSynchronized
  have hl := lv_entry ([.ref g9, .int a1, .int a2]) (n := 3) (Nat.le_of_ble_eq_true rfl)
  rw [lg_entry_eq]
  generalize (lg_sl ([.ref g9, .int a1, .int a2]) ++ List.replicate (3 - (lg_sl ([.ref g9, .int a1, .int a2])).length) Slot.unset).toArray = ls at hl ⊢
  have hl : lv_has ls 3 [(0, .ref g9), (1, .int a1), (2, .int a2)] := hl
  refine lv_iload_n hx hb d_O_putAddress_0 rfl (lv_at hl 1 rfl) ?_
  refine cs_i (W.runS (As := [.int a1]) (rest := []) ⟨hx, hb, hml, hown, hk⟩ (c_O_isWord l a1) (s_O_isWord hk k_917 ⟨Nat.le_of_ble_eq_true rfl, Nat.le_of_ble_eq_true rfl⟩) ⟨fun a U g mk q => q, fun U hU hW => ⟨rfl, trivial⟩⟩ rfl rfl hl.1 rfl (lv_room (Nat.le_of_ble_eq_true rfl)) d_O_putAddress_1 ⟨Nat.le_of_ble_eq_true rfl, Nat.le_of_ble_eq_true rfl⟩) ?_
  refine lv_if_eq (tgt := 20) hx hb d_O_putAddress_4 (by decide) (fun c1 => ?_) (fun c1 => ?_)
  · exact W.vret hx hb hr (fun t ht hW => ⟨⟨(owd), rfl, by simp only [f_O_putAddress, if_pos c1], by show va_P D classes _ t.heap; rw [ht]; exact hP⟩, hS.F ht⟩) hS.2.2 d_O_putAddress_20
  · refine lv_aload_n hx hb d_O_putAddress_7 rfl (lv_at hl 0 rfl) ?_
    refine va_get (D := D) (ci := 6) (v := .ref g11) (C := "SignMachine$Output") (T := F_O) (N := 7) hx hb hk fi_O hown hK.1 hP 9 rfl rfl 1 (by decide) (hk _ k_608) (fun _ h9 => h9) rfl d_O_putAddress_8 ?_
    refine lv_iload_n hx hb d_O_putAddress_11 rfl (lv_at hl 1 rfl) ?_
    refine lv_dup2_11 hx hb d_O_putAddress_12 rfl rfl ?_
    refine va_iald hx hb hK.1 hP 11 0 rfl rfl (o_in c1) d_O_putAddress_13 ?_
    refine lv_iload_n hx hb d_O_putAddress_14 rfl (lv_at hl 2 rfl) ?_
    refine cs_i (W.runS (As := [.int a2]) (rest := [.int (owd (a1).toNatClampNeg), .int a1, .ref g11]) ⟨hx, hb, hml, hown, hk⟩ (c_A_addressPart l a2) (s_A_addressPart hk k_1098 ⟨Nat.le_of_ble_eq_true rfl, Nat.le_of_ble_eq_true rfl⟩) ⟨fun a U g mk q => q, fun U hU hW => ⟨rfl, trivial⟩⟩ rfl rfl hl.1 rfl (lv_room (Nat.le_of_ble_eq_true rfl)) d_O_putAddress_15 ⟨Nat.le_of_ble_eq_true rfl, Nat.le_of_ble_eq_true rfl⟩) ?_
    refine lv_ior hx hb d_O_putAddress_18 ?_
    refine va_iast hx hb hK.1 hP hD hS 11 0 rfl rfl (o_in c1) d_O_putAddress_19 (fun H locs hP hD hS => ?_)
    have hP : va_P D classes (aW cI cJ cZ cB g0 g1 g2 g3 g4 g5 g6 g7 g8 g9 g10 g11 g12 g13 g14 g15 flt fln ffr sta plc edd lab lbv opr acd akd agl len lin att stp fol skd snm snu byt ncn nsy nns nvs ntd lvs ltd ocn opl (upd owd (a1).toNatClampNeg ((owd (a1).toNatClampNeg) ||| (f_A_addressPart a2))) oln okd ogl olo TL) H := hP
    have hD : va_D A (aW cI cJ cZ cB g0 g1 g2 g3 g4 g5 g6 g7 g8 g9 g10 g11 g12 g13 g14 g15 flt fln ffr sta plc edd lab lbv opr acd akd agl len lin att stp fol skd snm snu byt ncn nsy nns nvs ntd lvs ltd ocn opl (upd owd (a1).toNatClampNeg ((owd (a1).toNatClampNeg) ||| (f_A_addressPart a2))) oln okd ogl olo TL) := hD
    exact W.vret hx hb hr (fun t ht hW => ⟨⟨((upd owd (a1).toNatClampNeg ((owd (a1).toNatClampNeg) ||| (f_A_addressPart a2)))), rfl, by simp only [f_O_putAddress, if_neg c1], by show va_P D classes _ t.heap; rw [ht]; exact hP⟩, hS.F ht⟩) hS.2.2 d_O_putAddress_20
theorem v_O_putAddress {R : Room} {s : State} {args : Array Value} {own : String} {index : Nat} (hk : ∀ w ∈ tb, w.before args s = true) (hl : Cond.methodLink own index y_O_putAddress ∈ tb) (hR : 2 + 1 ≤ R.frames ∧ 8 + (3 + 11) + 41 ≤ R.locals) : CallW R s args own "SignMachine$Output" index y_O_putAddress b_O_putAddress 3 none (.code y_O_putAddress b_O_putAddress 3 none :: tb) ({ frames := 2, cells := 0, slots := 0, locals := 41 }) 0 0 2 := mk_v 2 hk k_1097 hl k_1095 k_1096 k_126 rfl rfl h_O_putAddress hR
def f_O_add (ocn : Int32) (opl : Nat → Int32) (owd : Nat → Int32) (oln : Nat → Int32) (okd : Nat → Int32) (ogl : Nat → Int32) (olo : Nat → Int32) (a1 : Int32) (a2 : Int32) (a3 : Int32) (a4 : Int32) (a5 : Int32) : (Int32) × (Nat → Int32) × (Nat → Int32) × (Nat → Int32) × (Nat → Int32) × (Nat → Int32) × (Nat → Int32) := (if ocn < (0 : Int32) then (ocn, opl, owd, oln, okd, ogl, olo) else (if ocn < (1101 : Int32) then (if a4 = (2 : Int32) then (if a5 < (0 : Int32) then ((ocn + (1 : Int32)), (upd opl (ocn).toNatClampNeg a1), (upd owd (ocn).toNatClampNeg a2), (upd oln (ocn).toNatClampNeg a3), (upd okd (ocn).toNatClampNeg (vp_nar .byte (a4 : Int32).toInt8.toInt32)), (upd ogl (ocn).toNatClampNeg a5), olo) else (if (10 : Int32) ≤ a5 then ((ocn + (1 : Int32)), (upd opl (ocn).toNatClampNeg a1), (upd owd (ocn).toNatClampNeg a2), (upd oln (ocn).toNatClampNeg a3), (upd okd (ocn).toNatClampNeg (vp_nar .byte (a4 : Int32).toInt8.toInt32)), (upd ogl (ocn).toNatClampNeg a5), olo) else ((ocn + (1 : Int32)), (upd opl (ocn).toNatClampNeg a1), (upd owd (ocn).toNatClampNeg a2), (upd oln (ocn).toNatClampNeg a3), (upd okd (ocn).toNatClampNeg (vp_nar .byte (a4 : Int32).toInt8.toInt32)), (upd (upd ogl (ocn).toNatClampNeg a5) (ocn).toNatClampNeg (olo (a5).toNatClampNeg)), (upd olo (a5).toNatClampNeg ocn)))) else ((ocn + (1 : Int32)), (upd opl (ocn).toNatClampNeg a1), (upd owd (ocn).toNatClampNeg a2), (upd oln (ocn).toNatClampNeg a3), (upd okd (ocn).toNatClampNeg (vp_nar .byte (a4 : Int32).toInt8.toInt32)), (upd ogl (ocn).toNatClampNeg a5), olo)) else (ocn, opl, owd, oln, okd, ogl, olo)))
set_option maxHeartbeats 4000000 in
set_option maxRecDepth 100000 in
theorem c_O_add (l : Launch) (D : va_G) (cI cJ cZ cB : ClassId) (g0 g1 g2 g3 g4 g5 g6 g7 g8 g9 g10 g11 g12 g13 g14 g15 : Nat) (sz : Nat) (flt : Int32) (fln : Int32) (ffr : Int32) (sta : Int32) (plc : Int32) (edd : Int32) (lab : Int64) (lbv : Int32) (opr : Option Nat) (acd : Int32) (akd : Int32) (agl : Int32) (len : Int32) (lin : Int32) (att : Int32) (stp : Int32) (fol : Int32) (skd : Int32) (snm : Int64) (snu : Int32) (byt : Nat → Int32) (ncn : Int32) (nsy : Int32) (nns : Nat → Int64) (nvs : Nat → Int32) (ntd : Nat → Int32) (lvs : Nat → Int32) (ltd : Nat → Int32) (ocn : Int32) (opl : Nat → Int32) (owd : Nat → Int32) (oln : Nat → Int32) (okd : Nat → Int32) (ogl : Nat → Int32) (olo : Nat → Int32) (TL : va_W) (a1 : Int32) (a2 : Int32) (a3 : Int32) (a4 : Int32) (a5 : Int32) : Met l y_O_add (.code y_O_add b_O_add 6 none :: tb) ({ frames := 0, cells := 0, slots := 0, locals := 0 }) (pM D cI cJ cZ cB (aW cI cJ cZ cB g0 g1 g2 g3 g4 g5 g6 g7 g8 g9 g10 g11 g12 g13 g14 g15 flt fln ffr sta plc edd lab lbv opr acd akd agl len lin att stp fol skd snm snu byt ncn nsy nns nvs ntd lvs ltd ocn opl owd oln okd ogl olo TL) sz [.ref g9, .int a1, .int a2, .int a3, .int a4, .int a5]) (qV D (fun u => u = f_O_add ocn opl owd oln okd ogl olo a1 a2 a3 a4 a5) (fun (u : (Int32) × (Nat → Int32) × (Nat → Int32) × (Nat → Int32) × (Nat → Int32) × (Nat → Int32) × (Nat → Int32)) => match u with | (u_ocn, u_opl, u_owd, u_oln, u_okd, u_ogl, u_olo) => (aW cI cJ cZ cB g0 g1 g2 g3 g4 g5 g6 g7 g8 g9 g10 g11 g12 g13 g14 g15 flt fln ffr sta plc edd lab lbv opr acd akd agl len lin att stp fol skd snm snu byt ncn nsy nns nvs ntd lvs ltd u_ocn u_opl u_owd u_oln u_okd u_ogl u_olo TL)) (va_A (aW cI cJ cZ cB g0 g1 g2 g3 g4 g5 g6 g7 g8 g9 g10 g11 g12 g13 g14 g15 flt fln ffr sta plc edd lab lbv opr acd akd agl len lin att stp fol skd snm snu byt ncn nsy nns nvs ntd lvs ltd ocn opl owd oln okd ogl olo TL) sz)) 0 0 (va_A (aW cI cJ cZ cB g0 g1 g2 g3 g4 g5 g6 g7 g8 g9 g10 g11 g12 g13 g14 g15 flt fln ffr sta plc edd lab lbv opr acd akd agl len lin att stp fol skd snm snu byt ncn nsy nns nvs ntd lvs ltd ocn opl owd oln okd ogl olo TL) sz) := by
  refine Met.ofW (cc := b_O_add) (maxL := 6) (ret := none) (by decide) rfl ?_
  intro p e s m args below meth c s₁ B hml hv
  obtain ⟨rfl, hsz, hK, hP, hD0⟩ := hv
  subst hsz
  have hD := hD0.self (sz := s.heap.size)
  generalize hAe : va_A (aW cI cJ cZ cB g0 g1 g2 g3 g4 g5 g6 g7 g8 g9 g10 g11 g12 g13 g14 g15 flt fln ffr sta plc edd lab lbv opr acd akd agl len lin att stp fol skd snm snu byt ncn nsy nns nvs ntd lvs ltd ocn opl owd oln okd ogl olo TL) s.heap.size = A at hD ⊢
  have hA : ∀ q : Nat, s.heap.size ≤ q → A q := fun q h => by rw [← hAe]; exact Or.inr h
  have hS : va_S A s.heap s.heap [] := va_S.rf
  have hx := B.exec
  have hb := B.bytes
  have hr := B.returns
  have hts := atoms_spec (ws := .code y_O_add b_O_add 6 none :: tb) B.pre
  have hk : ∀ w ∈ tb, w.before [.ref g9, .int a1, .int a2, .int a3, .int a4, .int a5].toArray s = true := fun w h => hts w (List.mem_cons_of_mem _ h)
  have hown : s.vm.findClass "SignMachine$Output" = some m.cls := findClass_of_methodNamed B.named
  have hlocks := B.notSynchronized
  have hl := lv_entry ([.ref g9, .int a1, .int a2, .int a3, .int a4, .int a5]) (n := 6) (Nat.le_of_ble_eq_true rfl)
  rw [lg_entry_eq]
  generalize (lg_sl ([.ref g9, .int a1, .int a2, .int a3, .int a4, .int a5]) ++ List.replicate (6 - (lg_sl ([.ref g9, .int a1, .int a2, .int a3, .int a4, .int a5])).length) Slot.unset).toArray = ls at hl ⊢
  have hl : lv_has ls 6 [(0, .ref g9), (1, .int a1), (2, .int a2), (3, .int a3), (4, .int a4), (5, .int a5)] := hl
  refine lv_aload_n hx hb d_O_add_0 rfl (lv_at hl 0 rfl) ?_
  refine va_get (D := D) (ci := 6) (v := .int ocn) (C := "SignMachine$Output") (T := F_O) (N := 7) hx hb hk fi_O hown hK.1 hP 9 rfl rfl 6 (by decide) (hk _ k_613) (fun _ h9 => h9) rfl d_O_add_1 ?_
  refine lv_if_lt (tgt := 17) hx hb d_O_add_4 (by decide) (fun c1 => ?_) (fun c1 => ?_)
  · exact W.vret hx hb hr (fun t ht hW => ⟨⟨(ocn, opl, owd, oln, okd, ogl, olo), rfl, by simp only [f_O_add, if_pos c1], by show va_P D classes _ t.heap; rw [ht]; exact hP⟩, hS.F ht⟩) hS.2.2 d_O_add_17
  · refine lv_aload_n hx hb d_O_add_7 rfl (lv_at hl 0 rfl) ?_
    refine va_get (D := D) (ci := 6) (v := .int ocn) (C := "SignMachine$Output") (T := F_O) (N := 7) hx hb hk fi_O hown hK.1 hP 9 rfl rfl 6 (by decide) (hk _ k_613) (fun _ h9 => h9) rfl d_O_add_8 ?_
    refine lv_sipush (v := 1101) hx hb d_O_add_11 (by decide) ?_
    refine lv_icmp_lt (tgt := 18) hx hb d_O_add_14 (by decide) (fun c2 => ?_) (fun c2 => ?_)
    · refine lv_aload_n hx hb d_O_add_18 rfl (lv_at hl 0 rfl) ?_
      refine va_get (D := D) (ci := 6) (v := .ref g10) (C := "SignMachine$Output") (T := F_O) (N := 7) hx hb hk fi_O hown hK.1 hP 9 rfl rfl 0 (by decide) (hk _ k_607) (fun _ h9 => h9) rfl d_O_add_19 ?_
      refine lv_aload_n hx hb d_O_add_22 rfl (lv_at hl 0 rfl) ?_
      refine va_get (D := D) (ci := 6) (v := .int ocn) (C := "SignMachine$Output") (T := F_O) (N := 7) hx hb hk fi_O hown hK.1 hP 9 rfl rfl 6 (by decide) (hk _ k_613) (fun _ h9 => h9) rfl d_O_add_23 ?_
      refine lv_iload_n hx hb d_O_add_26 rfl (lv_at hl 1 rfl) ?_
      refine va_iast hx hb hK.1 hP hD hS 10 0 rfl rfl (vpin2 c1 c2 rfl) d_O_add_27 (fun H locs hP hD hS => ?_)
      have hP : va_P D classes (aW cI cJ cZ cB g0 g1 g2 g3 g4 g5 g6 g7 g8 g9 g10 g11 g12 g13 g14 g15 flt fln ffr sta plc edd lab lbv opr acd akd agl len lin att stp fol skd snm snu byt ncn nsy nns nvs ntd lvs ltd ocn (upd opl (ocn).toNatClampNeg a1) owd oln okd ogl olo TL) H := hP
      have hD : va_D A (aW cI cJ cZ cB g0 g1 g2 g3 g4 g5 g6 g7 g8 g9 g10 g11 g12 g13 g14 g15 flt fln ffr sta plc edd lab lbv opr acd akd agl len lin att stp fol skd snm snu byt ncn nsy nns nvs ntd lvs ltd ocn (upd opl (ocn).toNatClampNeg a1) owd oln okd ogl olo TL) := hD
      refine lv_aload_n hx hb d_O_add_28 rfl (lv_at hl 0 rfl) ?_
      refine va_get (D := D) (ci := 6) (v := .ref g11) (C := "SignMachine$Output") (T := F_O) (N := 7) hx hb hk fi_O hown hK.1 hP 9 rfl rfl 1 (by decide) (hk _ k_608) (fun _ h9 => h9) rfl d_O_add_29 ?_
      refine lv_aload_n hx hb d_O_add_32 rfl (lv_at hl 0 rfl) ?_
      refine va_get (D := D) (ci := 6) (v := .int ocn) (C := "SignMachine$Output") (T := F_O) (N := 7) hx hb hk fi_O hown hK.1 hP 9 rfl rfl 6 (by decide) (hk _ k_613) (fun _ h9 => h9) rfl d_O_add_33 ?_
      refine lv_iload_n hx hb d_O_add_36 rfl (lv_at hl 2 rfl) ?_
      refine va_iast hx hb hK.1 hP hD hS 11 0 rfl rfl (vpin2 c1 c2 rfl) d_O_add_37 (fun H locs hP hD hS => ?_)
      have hP : va_P D classes (aW cI cJ cZ cB g0 g1 g2 g3 g4 g5 g6 g7 g8 g9 g10 g11 g12 g13 g14 g15 flt fln ffr sta plc edd lab lbv opr acd akd agl len lin att stp fol skd snm snu byt ncn nsy nns nvs ntd lvs ltd ocn (upd opl (ocn).toNatClampNeg a1) (upd owd (ocn).toNatClampNeg a2) oln okd ogl olo TL) H := hP
      have hD : va_D A (aW cI cJ cZ cB g0 g1 g2 g3 g4 g5 g6 g7 g8 g9 g10 g11 g12 g13 g14 g15 flt fln ffr sta plc edd lab lbv opr acd akd agl len lin att stp fol skd snm snu byt ncn nsy nns nvs ntd lvs ltd ocn (upd opl (ocn).toNatClampNeg a1) (upd owd (ocn).toNatClampNeg a2) oln okd ogl olo TL) := hD
      refine lv_aload_n hx hb d_O_add_38 rfl (lv_at hl 0 rfl) ?_
      refine va_get (D := D) (ci := 6) (v := .ref g12) (C := "SignMachine$Output") (T := F_O) (N := 7) hx hb hk fi_O hown hK.1 hP 9 rfl rfl 2 (by decide) (hk _ k_609) (fun _ h9 => h9) rfl d_O_add_39 ?_
      refine lv_aload_n hx hb d_O_add_42 rfl (lv_at hl 0 rfl) ?_
      refine va_get (D := D) (ci := 6) (v := .int ocn) (C := "SignMachine$Output") (T := F_O) (N := 7) hx hb hk fi_O hown hK.1 hP 9 rfl rfl 6 (by decide) (hk _ k_613) (fun _ h9 => h9) rfl d_O_add_43 ?_
      refine lv_iload_n hx hb d_O_add_46 rfl (lv_at hl 3 rfl) ?_
      refine va_iast hx hb hK.1 hP hD hS 12 0 rfl rfl (vpin2 c1 c2 rfl) d_O_add_47 (fun H locs hP hD hS => ?_)
      have hP : va_P D classes (aW cI cJ cZ cB g0 g1 g2 g3 g4 g5 g6 g7 g8 g9 g10 g11 g12 g13 g14 g15 flt fln ffr sta plc edd lab lbv opr acd akd agl len lin att stp fol skd snm snu byt ncn nsy nns nvs ntd lvs ltd ocn (upd opl (ocn).toNatClampNeg a1) (upd owd (ocn).toNatClampNeg a2) (upd oln (ocn).toNatClampNeg a3) okd ogl olo TL) H := hP
      have hD : va_D A (aW cI cJ cZ cB g0 g1 g2 g3 g4 g5 g6 g7 g8 g9 g10 g11 g12 g13 g14 g15 flt fln ffr sta plc edd lab lbv opr acd akd agl len lin att stp fol skd snm snu byt ncn nsy nns nvs ntd lvs ltd ocn (upd opl (ocn).toNatClampNeg a1) (upd owd (ocn).toNatClampNeg a2) (upd oln (ocn).toNatClampNeg a3) okd ogl olo TL) := hD
      refine lv_aload_n hx hb d_O_add_48 rfl (lv_at hl 0 rfl) ?_
      refine va_get (D := D) (ci := 6) (v := .ref g13) (C := "SignMachine$Output") (T := F_O) (N := 7) hx hb hk fi_O hown hK.1 hP 9 rfl rfl 3 (by decide) (hk _ k_610) (fun _ h9 => h9) rfl d_O_add_49 ?_
      refine lv_aload_n hx hb d_O_add_52 rfl (lv_at hl 0 rfl) ?_
      refine va_get (D := D) (ci := 6) (v := .int ocn) (C := "SignMachine$Output") (T := F_O) (N := 7) hx hb hk fi_O hown hK.1 hP 9 rfl rfl 6 (by decide) (hk _ k_613) (fun _ h9 => h9) rfl d_O_add_53 ?_
      refine lv_iload hx hb d_O_add_56 (lv_at hl 4 rfl) ?_
      refine lv_i2b (v := (a4 : Int32).toInt8.toInt32) hx hb d_O_add_58 rfl ?_
      refine va_bast hx hb hK.1 hP hD hS 13 3 rfl rfl (vpin2 c1 c2 rfl) d_O_add_59 (fun H locs hP hD hS => ?_)
      have hP : va_P D classes (aW cI cJ cZ cB g0 g1 g2 g3 g4 g5 g6 g7 g8 g9 g10 g11 g12 g13 g14 g15 flt fln ffr sta plc edd lab lbv opr acd akd agl len lin att stp fol skd snm snu byt ncn nsy nns nvs ntd lvs ltd ocn (upd opl (ocn).toNatClampNeg a1) (upd owd (ocn).toNatClampNeg a2) (upd oln (ocn).toNatClampNeg a3) (upd okd (ocn).toNatClampNeg (vp_nar .byte (a4 : Int32).toInt8.toInt32)) ogl olo TL) H := hP
      have hD : va_D A (aW cI cJ cZ cB g0 g1 g2 g3 g4 g5 g6 g7 g8 g9 g10 g11 g12 g13 g14 g15 flt fln ffr sta plc edd lab lbv opr acd akd agl len lin att stp fol skd snm snu byt ncn nsy nns nvs ntd lvs ltd ocn (upd opl (ocn).toNatClampNeg a1) (upd owd (ocn).toNatClampNeg a2) (upd oln (ocn).toNatClampNeg a3) (upd okd (ocn).toNatClampNeg (vp_nar .byte (a4 : Int32).toInt8.toInt32)) ogl olo TL) := hD
      refine lv_aload_n hx hb d_O_add_60 rfl (lv_at hl 0 rfl) ?_
      refine va_get (D := D) (ci := 6) (v := .ref g14) (C := "SignMachine$Output") (T := F_O) (N := 7) hx hb hk fi_O hown hK.1 hP 9 rfl rfl 4 (by decide) (hk _ k_611) (fun _ h9 => h9) rfl d_O_add_61 ?_
      refine lv_aload_n hx hb d_O_add_64 rfl (lv_at hl 0 rfl) ?_
      refine va_get (D := D) (ci := 6) (v := .int ocn) (C := "SignMachine$Output") (T := F_O) (N := 7) hx hb hk fi_O hown hK.1 hP 9 rfl rfl 6 (by decide) (hk _ k_613) (fun _ h9 => h9) rfl d_O_add_65 ?_
      refine lv_iload hx hb d_O_add_68 (lv_at hl 5 rfl) ?_
      refine va_iast hx hb hK.1 hP hD hS 14 0 rfl rfl (vpin2 c1 c2 rfl) d_O_add_70 (fun H locs hP hD hS => ?_)
      have hP : va_P D classes (aW cI cJ cZ cB g0 g1 g2 g3 g4 g5 g6 g7 g8 g9 g10 g11 g12 g13 g14 g15 flt fln ffr sta plc edd lab lbv opr acd akd agl len lin att stp fol skd snm snu byt ncn nsy nns nvs ntd lvs ltd ocn (upd opl (ocn).toNatClampNeg a1) (upd owd (ocn).toNatClampNeg a2) (upd oln (ocn).toNatClampNeg a3) (upd okd (ocn).toNatClampNeg (vp_nar .byte (a4 : Int32).toInt8.toInt32)) (upd ogl (ocn).toNatClampNeg a5) olo TL) H := hP
      have hD : va_D A (aW cI cJ cZ cB g0 g1 g2 g3 g4 g5 g6 g7 g8 g9 g10 g11 g12 g13 g14 g15 flt fln ffr sta plc edd lab lbv opr acd akd agl len lin att stp fol skd snm snu byt ncn nsy nns nvs ntd lvs ltd ocn (upd opl (ocn).toNatClampNeg a1) (upd owd (ocn).toNatClampNeg a2) (upd oln (ocn).toNatClampNeg a3) (upd okd (ocn).toNatClampNeg (vp_nar .byte (a4 : Int32).toInt8.toInt32)) (upd ogl (ocn).toNatClampNeg a5) olo TL) := hD
      refine lv_iload hx hb d_O_add_71 (lv_at hl 4 rfl) ?_
      refine lv_iconst (v := 2) hx hb d_O_add_73 (by decide) ?_
      refine lv_icmp_ne (tgt := 119) hx hb d_O_add_74 (by decide) (fun c3 => ?_) (fun c3 => ?_)
      · refine lv_aload_n hx hb d_O_add_119 rfl (lv_at hl 0 rfl) ?_
        refine lv_dup hx hb d_O_add_120 rfl ?_
        refine va_get (D := D) (ci := 6) (v := .int ocn) (C := "SignMachine$Output") (T := F_O) (N := 7) hx hb hk fi_O hown hK.1 hP 9 rfl rfl 6 (by decide) (hk _ k_613) (fun _ h9 => h9) rfl d_O_add_121 ?_
        refine lv_iconst (v := 1) hx hb d_O_add_124 (by decide) ?_
        refine lv_iadd hx hb d_O_add_125 ?_
        refine va_put (D := D) (ci := 6) (v := .int (ocn + (1 : Int32))) (ty := .int) (C := "SignMachine$Output") (T := F_O) (N := 7) hx hb hk fi_O ft_O ft_O_ok fn_O hown hK.1 hP hD hS 9 rfl rfl 6 (by decide) (hk _ k_613) (fun _ h9 => h9) rfl (by decide +kernel) rfl rfl (Nat.le_of_ble_eq_true rfl) d_O_add_126 (fun H locs hP hD hS => ?_)
        have hP : va_P D classes (aW cI cJ cZ cB g0 g1 g2 g3 g4 g5 g6 g7 g8 g9 g10 g11 g12 g13 g14 g15 flt fln ffr sta plc edd lab lbv opr acd akd agl len lin att stp fol skd snm snu byt ncn nsy nns nvs ntd lvs ltd (ocn + (1 : Int32)) (upd opl (ocn).toNatClampNeg a1) (upd owd (ocn).toNatClampNeg a2) (upd oln (ocn).toNatClampNeg a3) (upd okd (ocn).toNatClampNeg (vp_nar .byte (a4 : Int32).toInt8.toInt32)) (upd ogl (ocn).toNatClampNeg a5) olo TL) H := hP
        have hD : va_D A (aW cI cJ cZ cB g0 g1 g2 g3 g4 g5 g6 g7 g8 g9 g10 g11 g12 g13 g14 g15 flt fln ffr sta plc edd lab lbv opr acd akd agl len lin att stp fol skd snm snu byt ncn nsy nns nvs ntd lvs ltd (ocn + (1 : Int32)) (upd opl (ocn).toNatClampNeg a1) (upd owd (ocn).toNatClampNeg a2) (upd oln (ocn).toNatClampNeg a3) (upd okd (ocn).toNatClampNeg (vp_nar .byte (a4 : Int32).toInt8.toInt32)) (upd ogl (ocn).toNatClampNeg a5) olo TL) := hD
        exact W.vret hx hb hr (fun t ht hW => ⟨⟨((ocn + (1 : Int32)), (upd opl (ocn).toNatClampNeg a1), (upd owd (ocn).toNatClampNeg a2), (upd oln (ocn).toNatClampNeg a3), (upd okd (ocn).toNatClampNeg (vp_nar .byte (a4 : Int32).toInt8.toInt32)), (upd ogl (ocn).toNatClampNeg a5), olo), rfl, by simp only [f_O_add, if_neg c1, if_pos c2, if_neg c3], by show va_P D classes _ t.heap; rw [ht]; exact hP⟩, hS.F ht⟩) hS.2.2 d_O_add_129
      · refine lv_iload hx hb d_O_add_77 (lv_at hl 5 rfl) ?_
        refine lv_if_lt (tgt := 119) hx hb d_O_add_79 (by decide) (fun c4 => ?_) (fun c4 => ?_)
        · refine lv_aload_n hx hb d_O_add_119 rfl (lv_at hl 0 rfl) ?_
          refine lv_dup hx hb d_O_add_120 rfl ?_
          refine va_get (D := D) (ci := 6) (v := .int ocn) (C := "SignMachine$Output") (T := F_O) (N := 7) hx hb hk fi_O hown hK.1 hP 9 rfl rfl 6 (by decide) (hk _ k_613) (fun _ h9 => h9) rfl d_O_add_121 ?_
          refine lv_iconst (v := 1) hx hb d_O_add_124 (by decide) ?_
          refine lv_iadd hx hb d_O_add_125 ?_
          refine va_put (D := D) (ci := 6) (v := .int (ocn + (1 : Int32))) (ty := .int) (C := "SignMachine$Output") (T := F_O) (N := 7) hx hb hk fi_O ft_O ft_O_ok fn_O hown hK.1 hP hD hS 9 rfl rfl 6 (by decide) (hk _ k_613) (fun _ h9 => h9) rfl (by decide +kernel) rfl rfl (Nat.le_of_ble_eq_true rfl) d_O_add_126 (fun H locs hP hD hS => ?_)
          have hP : va_P D classes (aW cI cJ cZ cB g0 g1 g2 g3 g4 g5 g6 g7 g8 g9 g10 g11 g12 g13 g14 g15 flt fln ffr sta plc edd lab lbv opr acd akd agl len lin att stp fol skd snm snu byt ncn nsy nns nvs ntd lvs ltd (ocn + (1 : Int32)) (upd opl (ocn).toNatClampNeg a1) (upd owd (ocn).toNatClampNeg a2) (upd oln (ocn).toNatClampNeg a3) (upd okd (ocn).toNatClampNeg (vp_nar .byte (a4 : Int32).toInt8.toInt32)) (upd ogl (ocn).toNatClampNeg a5) olo TL) H := hP
          have hD : va_D A (aW cI cJ cZ cB g0 g1 g2 g3 g4 g5 g6 g7 g8 g9 g10 g11 g12 g13 g14 g15 flt fln ffr sta plc edd lab lbv opr acd akd agl len lin att stp fol skd snm snu byt ncn nsy nns nvs ntd lvs ltd (ocn + (1 : Int32)) (upd opl (ocn).toNatClampNeg a1) (upd owd (ocn).toNatClampNeg a2) (upd oln (ocn).toNatClampNeg a3) (upd okd (ocn).toNatClampNeg (vp_nar .byte (a4 : Int32).toInt8.toInt32)) (upd ogl (ocn).toNatClampNeg a5) olo TL) := hD
          exact W.vret hx hb hr (fun t ht hW => ⟨⟨((ocn + (1 : Int32)), (upd opl (ocn).toNatClampNeg a1), (upd owd (ocn).toNatClampNeg a2), (upd oln (ocn).toNatClampNeg a3), (upd okd (ocn).toNatClampNeg (vp_nar .byte (a4 : Int32).toInt8.toInt32)), (upd ogl (ocn).toNatClampNeg a5), olo), rfl, by simp only [f_O_add, if_neg c1, if_pos c2, if_pos c3, if_pos c4], by show va_P D classes _ t.heap; rw [ht]; exact hP⟩, hS.F ht⟩) hS.2.2 d_O_add_129
        · refine lv_iload hx hb d_O_add_82 (lv_at hl 5 rfl) ?_
          refine lv_aload_n hx hb d_O_add_84 rfl (lv_at hl 0 rfl) ?_
          refine va_get (D := D) (ci := 6) (v := .ref g15) (C := "SignMachine$Output") (T := F_O) (N := 7) hx hb hk fi_O hown hK.1 hP 9 rfl rfl 5 (by decide) (hk _ k_612) (fun _ h9 => h9) rfl d_O_add_85 ?_
          refine va_alen (v := 10) hx hb hK.1 hP 15 0 rfl rfl rfl d_O_add_88 ?_
          refine lv_icmp_ge (tgt := 119) hx hb d_O_add_89 (by decide) (fun c5 => ?_) (fun c5 => ?_)
          · refine lv_aload_n hx hb d_O_add_119 rfl (lv_at hl 0 rfl) ?_
            refine lv_dup hx hb d_O_add_120 rfl ?_
            refine va_get (D := D) (ci := 6) (v := .int ocn) (C := "SignMachine$Output") (T := F_O) (N := 7) hx hb hk fi_O hown hK.1 hP 9 rfl rfl 6 (by decide) (hk _ k_613) (fun _ h9 => h9) rfl d_O_add_121 ?_
            refine lv_iconst (v := 1) hx hb d_O_add_124 (by decide) ?_
            refine lv_iadd hx hb d_O_add_125 ?_
            refine va_put (D := D) (ci := 6) (v := .int (ocn + (1 : Int32))) (ty := .int) (C := "SignMachine$Output") (T := F_O) (N := 7) hx hb hk fi_O ft_O ft_O_ok fn_O hown hK.1 hP hD hS 9 rfl rfl 6 (by decide) (hk _ k_613) (fun _ h9 => h9) rfl (by decide +kernel) rfl rfl (Nat.le_of_ble_eq_true rfl) d_O_add_126 (fun H locs hP hD hS => ?_)
            have hP : va_P D classes (aW cI cJ cZ cB g0 g1 g2 g3 g4 g5 g6 g7 g8 g9 g10 g11 g12 g13 g14 g15 flt fln ffr sta plc edd lab lbv opr acd akd agl len lin att stp fol skd snm snu byt ncn nsy nns nvs ntd lvs ltd (ocn + (1 : Int32)) (upd opl (ocn).toNatClampNeg a1) (upd owd (ocn).toNatClampNeg a2) (upd oln (ocn).toNatClampNeg a3) (upd okd (ocn).toNatClampNeg (vp_nar .byte (a4 : Int32).toInt8.toInt32)) (upd ogl (ocn).toNatClampNeg a5) olo TL) H := hP
            have hD : va_D A (aW cI cJ cZ cB g0 g1 g2 g3 g4 g5 g6 g7 g8 g9 g10 g11 g12 g13 g14 g15 flt fln ffr sta plc edd lab lbv opr acd akd agl len lin att stp fol skd snm snu byt ncn nsy nns nvs ntd lvs ltd (ocn + (1 : Int32)) (upd opl (ocn).toNatClampNeg a1) (upd owd (ocn).toNatClampNeg a2) (upd oln (ocn).toNatClampNeg a3) (upd okd (ocn).toNatClampNeg (vp_nar .byte (a4 : Int32).toInt8.toInt32)) (upd ogl (ocn).toNatClampNeg a5) olo TL) := hD
            exact W.vret hx hb hr (fun t ht hW => ⟨⟨((ocn + (1 : Int32)), (upd opl (ocn).toNatClampNeg a1), (upd owd (ocn).toNatClampNeg a2), (upd oln (ocn).toNatClampNeg a3), (upd okd (ocn).toNatClampNeg (vp_nar .byte (a4 : Int32).toInt8.toInt32)), (upd ogl (ocn).toNatClampNeg a5), olo), rfl, by simp only [f_O_add, if_neg c1, if_pos c2, if_pos c3, if_neg c4, if_pos c5], by show va_P D classes _ t.heap; rw [ht]; exact hP⟩, hS.F ht⟩) hS.2.2 d_O_add_129
          · refine lv_aload_n hx hb d_O_add_92 rfl (lv_at hl 0 rfl) ?_
            refine va_get (D := D) (ci := 6) (v := .ref g14) (C := "SignMachine$Output") (T := F_O) (N := 7) hx hb hk fi_O hown hK.1 hP 9 rfl rfl 4 (by decide) (hk _ k_611) (fun _ h9 => h9) rfl d_O_add_93 ?_
            refine lv_aload_n hx hb d_O_add_96 rfl (lv_at hl 0 rfl) ?_
            refine va_get (D := D) (ci := 6) (v := .int ocn) (C := "SignMachine$Output") (T := F_O) (N := 7) hx hb hk fi_O hown hK.1 hP 9 rfl rfl 6 (by decide) (hk _ k_613) (fun _ h9 => h9) rfl d_O_add_97 ?_
            refine lv_aload_n hx hb d_O_add_100 rfl (lv_at hl 0 rfl) ?_
            refine va_get (D := D) (ci := 6) (v := .ref g15) (C := "SignMachine$Output") (T := F_O) (N := 7) hx hb hk fi_O hown hK.1 hP 9 rfl rfl 5 (by decide) (hk _ k_612) (fun _ h9 => h9) rfl d_O_add_101 ?_
            refine lv_iload hx hb d_O_add_104 (lv_at hl 5 rfl) ?_
            refine va_iald hx hb hK.1 hP 15 0 rfl rfl (vpin c4 c5 rfl) d_O_add_106 ?_
            refine va_iast hx hb hK.1 hP hD hS 14 0 rfl rfl (vpin2 c1 c2 rfl) d_O_add_107 (fun H locs hP hD hS => ?_)
            have hP : va_P D classes (aW cI cJ cZ cB g0 g1 g2 g3 g4 g5 g6 g7 g8 g9 g10 g11 g12 g13 g14 g15 flt fln ffr sta plc edd lab lbv opr acd akd agl len lin att stp fol skd snm snu byt ncn nsy nns nvs ntd lvs ltd ocn (upd opl (ocn).toNatClampNeg a1) (upd owd (ocn).toNatClampNeg a2) (upd oln (ocn).toNatClampNeg a3) (upd okd (ocn).toNatClampNeg (vp_nar .byte (a4 : Int32).toInt8.toInt32)) (upd (upd ogl (ocn).toNatClampNeg a5) (ocn).toNatClampNeg (olo (a5).toNatClampNeg)) olo TL) H := hP
            have hD : va_D A (aW cI cJ cZ cB g0 g1 g2 g3 g4 g5 g6 g7 g8 g9 g10 g11 g12 g13 g14 g15 flt fln ffr sta plc edd lab lbv opr acd akd agl len lin att stp fol skd snm snu byt ncn nsy nns nvs ntd lvs ltd ocn (upd opl (ocn).toNatClampNeg a1) (upd owd (ocn).toNatClampNeg a2) (upd oln (ocn).toNatClampNeg a3) (upd okd (ocn).toNatClampNeg (vp_nar .byte (a4 : Int32).toInt8.toInt32)) (upd (upd ogl (ocn).toNatClampNeg a5) (ocn).toNatClampNeg (olo (a5).toNatClampNeg)) olo TL) := hD
            refine lv_aload_n hx hb d_O_add_108 rfl (lv_at hl 0 rfl) ?_
            refine va_get (D := D) (ci := 6) (v := .ref g15) (C := "SignMachine$Output") (T := F_O) (N := 7) hx hb hk fi_O hown hK.1 hP 9 rfl rfl 5 (by decide) (hk _ k_612) (fun _ h9 => h9) rfl d_O_add_109 ?_
            refine lv_iload hx hb d_O_add_112 (lv_at hl 5 rfl) ?_
            refine lv_aload_n hx hb d_O_add_114 rfl (lv_at hl 0 rfl) ?_
            refine va_get (D := D) (ci := 6) (v := .int ocn) (C := "SignMachine$Output") (T := F_O) (N := 7) hx hb hk fi_O hown hK.1 hP 9 rfl rfl 6 (by decide) (hk _ k_613) (fun _ h9 => h9) rfl d_O_add_115 ?_
            refine va_iast hx hb hK.1 hP hD hS 15 0 rfl rfl (vpin c4 c5 rfl) d_O_add_118 (fun H locs hP hD hS => ?_)
            have hP : va_P D classes (aW cI cJ cZ cB g0 g1 g2 g3 g4 g5 g6 g7 g8 g9 g10 g11 g12 g13 g14 g15 flt fln ffr sta plc edd lab lbv opr acd akd agl len lin att stp fol skd snm snu byt ncn nsy nns nvs ntd lvs ltd ocn (upd opl (ocn).toNatClampNeg a1) (upd owd (ocn).toNatClampNeg a2) (upd oln (ocn).toNatClampNeg a3) (upd okd (ocn).toNatClampNeg (vp_nar .byte (a4 : Int32).toInt8.toInt32)) (upd (upd ogl (ocn).toNatClampNeg a5) (ocn).toNatClampNeg (olo (a5).toNatClampNeg)) (upd olo (a5).toNatClampNeg ocn) TL) H := hP
            have hD : va_D A (aW cI cJ cZ cB g0 g1 g2 g3 g4 g5 g6 g7 g8 g9 g10 g11 g12 g13 g14 g15 flt fln ffr sta plc edd lab lbv opr acd akd agl len lin att stp fol skd snm snu byt ncn nsy nns nvs ntd lvs ltd ocn (upd opl (ocn).toNatClampNeg a1) (upd owd (ocn).toNatClampNeg a2) (upd oln (ocn).toNatClampNeg a3) (upd okd (ocn).toNatClampNeg (vp_nar .byte (a4 : Int32).toInt8.toInt32)) (upd (upd ogl (ocn).toNatClampNeg a5) (ocn).toNatClampNeg (olo (a5).toNatClampNeg)) (upd olo (a5).toNatClampNeg ocn) TL) := hD
            refine lv_aload_n hx hb d_O_add_119 rfl (lv_at hl 0 rfl) ?_
            refine lv_dup hx hb d_O_add_120 rfl ?_
            refine va_get (D := D) (ci := 6) (v := .int ocn) (C := "SignMachine$Output") (T := F_O) (N := 7) hx hb hk fi_O hown hK.1 hP 9 rfl rfl 6 (by decide) (hk _ k_613) (fun _ h9 => h9) rfl d_O_add_121 ?_
            refine lv_iconst (v := 1) hx hb d_O_add_124 (by decide) ?_
            refine lv_iadd hx hb d_O_add_125 ?_
            refine va_put (D := D) (ci := 6) (v := .int (ocn + (1 : Int32))) (ty := .int) (C := "SignMachine$Output") (T := F_O) (N := 7) hx hb hk fi_O ft_O ft_O_ok fn_O hown hK.1 hP hD hS 9 rfl rfl 6 (by decide) (hk _ k_613) (fun _ h9 => h9) rfl (by decide +kernel) rfl rfl (Nat.le_of_ble_eq_true rfl) d_O_add_126 (fun H locs hP hD hS => ?_)
            have hP : va_P D classes (aW cI cJ cZ cB g0 g1 g2 g3 g4 g5 g6 g7 g8 g9 g10 g11 g12 g13 g14 g15 flt fln ffr sta plc edd lab lbv opr acd akd agl len lin att stp fol skd snm snu byt ncn nsy nns nvs ntd lvs ltd (ocn + (1 : Int32)) (upd opl (ocn).toNatClampNeg a1) (upd owd (ocn).toNatClampNeg a2) (upd oln (ocn).toNatClampNeg a3) (upd okd (ocn).toNatClampNeg (vp_nar .byte (a4 : Int32).toInt8.toInt32)) (upd (upd ogl (ocn).toNatClampNeg a5) (ocn).toNatClampNeg (olo (a5).toNatClampNeg)) (upd olo (a5).toNatClampNeg ocn) TL) H := hP
            have hD : va_D A (aW cI cJ cZ cB g0 g1 g2 g3 g4 g5 g6 g7 g8 g9 g10 g11 g12 g13 g14 g15 flt fln ffr sta plc edd lab lbv opr acd akd agl len lin att stp fol skd snm snu byt ncn nsy nns nvs ntd lvs ltd (ocn + (1 : Int32)) (upd opl (ocn).toNatClampNeg a1) (upd owd (ocn).toNatClampNeg a2) (upd oln (ocn).toNatClampNeg a3) (upd okd (ocn).toNatClampNeg (vp_nar .byte (a4 : Int32).toInt8.toInt32)) (upd (upd ogl (ocn).toNatClampNeg a5) (ocn).toNatClampNeg (olo (a5).toNatClampNeg)) (upd olo (a5).toNatClampNeg ocn) TL) := hD
            exact W.vret hx hb hr (fun t ht hW => ⟨⟨((ocn + (1 : Int32)), (upd opl (ocn).toNatClampNeg a1), (upd owd (ocn).toNatClampNeg a2), (upd oln (ocn).toNatClampNeg a3), (upd okd (ocn).toNatClampNeg (vp_nar .byte (a4 : Int32).toInt8.toInt32)), (upd (upd ogl (ocn).toNatClampNeg a5) (ocn).toNatClampNeg (olo (a5).toNatClampNeg)), (upd olo (a5).toNatClampNeg ocn)), rfl, by simp only [f_O_add, if_neg c1, if_pos c2, if_pos c3, if_neg c4, if_neg c5], by show va_P D classes _ t.heap; rw [ht]; exact hP⟩, hS.F ht⟩) hS.2.2 d_O_add_129
    · exact W.vret hx hb hr (fun t ht hW => ⟨⟨(ocn, opl, owd, oln, okd, ogl, olo), rfl, by simp only [f_O_add, if_neg c1, if_neg c2], by show va_P D classes _ t.heap; rw [ht]; exact hP⟩, hS.F ht⟩) hS.2.2 d_O_add_17
theorem v_O_add {R : Room} {s : State} {args : Array Value} {own : String} {index : Nat} (hk : ∀ w ∈ tb, w.before args s = true) (hl : Cond.methodLink own index y_O_add ∈ tb) (hR : 0 + 1 ≤ R.frames ∧ 8 + (6 + 11) + 0 ≤ R.locals) : CallW R s args own "SignMachine$Output" index y_O_add b_O_add 6 none (.code y_O_add b_O_add 6 none :: tb) ({ frames := 0, cells := 0, slots := 0, locals := 0 }) 0 0 5 := mk_v 5 hk k_976 hl k_974 k_975 k_126 rfl rfl h_O_add hR
def f_N_clear (ltd : Nat → Int32)  : (Int32) × (Int32) × (Nat → Int32) := ((0 : Int32), (0 : Int32), (upd (upd (upd (upd (upd (upd (upd (upd (upd (upd ltd ((0 : Int32)).toNatClampNeg (vp_nar .boolean (0 : Int32))) ((1 : Int32)).toNatClampNeg (vp_nar .boolean (0 : Int32))) ((2 : Int32)).toNatClampNeg (vp_nar .boolean (0 : Int32))) ((3 : Int32)).toNatClampNeg (vp_nar .boolean (0 : Int32))) ((4 : Int32)).toNatClampNeg (vp_nar .boolean (0 : Int32))) ((5 : Int32)).toNatClampNeg (vp_nar .boolean (0 : Int32))) ((6 : Int32)).toNatClampNeg (vp_nar .boolean (0 : Int32))) ((7 : Int32)).toNatClampNeg (vp_nar .boolean (0 : Int32))) ((8 : Int32)).toNatClampNeg (vp_nar .boolean (0 : Int32))) ((9 : Int32)).toNatClampNeg (vp_nar .boolean (0 : Int32))))
set_option maxHeartbeats 4000000 in
set_option maxRecDepth 100000 in
theorem c_N_clear (l : Launch) (D : va_G) (cI cJ cZ cB : ClassId) (g0 g1 g2 g3 g4 g5 g6 g7 g8 g9 g10 g11 g12 g13 g14 g15 : Nat) (sz : Nat) (flt : Int32) (fln : Int32) (ffr : Int32) (sta : Int32) (plc : Int32) (edd : Int32) (lab : Int64) (lbv : Int32) (opr : Option Nat) (acd : Int32) (akd : Int32) (agl : Int32) (len : Int32) (lin : Int32) (att : Int32) (stp : Int32) (fol : Int32) (skd : Int32) (snm : Int64) (snu : Int32) (byt : Nat → Int32) (ncn : Int32) (nsy : Int32) (nns : Nat → Int64) (nvs : Nat → Int32) (ntd : Nat → Int32) (lvs : Nat → Int32) (ltd : Nat → Int32) (ocn : Int32) (opl : Nat → Int32) (owd : Nat → Int32) (oln : Nat → Int32) (okd : Nat → Int32) (ogl : Nat → Int32) (olo : Nat → Int32) (TL : va_W)  : Met l y_N_clear (.code y_N_clear b_N_clear 2 none :: tb) ({ frames := 0, cells := 0, slots := 0, locals := 0 }) (pM D cI cJ cZ cB (aW cI cJ cZ cB g0 g1 g2 g3 g4 g5 g6 g7 g8 g9 g10 g11 g12 g13 g14 g15 flt fln ffr sta plc edd lab lbv opr acd akd agl len lin att stp fol skd snm snu byt ncn nsy nns nvs ntd lvs ltd ocn opl owd oln okd ogl olo TL) sz [.ref g3]) (qV D (fun u => u = f_N_clear ltd) (fun (u : (Int32) × (Int32) × (Nat → Int32)) => match u with | (u_ncn, u_nsy, u_ltd) => (aW cI cJ cZ cB g0 g1 g2 g3 g4 g5 g6 g7 g8 g9 g10 g11 g12 g13 g14 g15 flt fln ffr sta plc edd lab lbv opr acd akd agl len lin att stp fol skd snm snu byt u_ncn u_nsy nns nvs ntd lvs u_ltd ocn opl owd oln okd ogl olo TL)) (va_A (aW cI cJ cZ cB g0 g1 g2 g3 g4 g5 g6 g7 g8 g9 g10 g11 g12 g13 g14 g15 flt fln ffr sta plc edd lab lbv opr acd akd agl len lin att stp fol skd snm snu byt ncn nsy nns nvs ntd lvs ltd ocn opl owd oln okd ogl olo TL) sz)) 0 0 (va_A (aW cI cJ cZ cB g0 g1 g2 g3 g4 g5 g6 g7 g8 g9 g10 g11 g12 g13 g14 g15 flt fln ffr sta plc edd lab lbv opr acd akd agl len lin att stp fol skd snm snu byt ncn nsy nns nvs ntd lvs ltd ocn opl owd oln okd ogl olo TL) sz) := by
  refine Met.ofW (cc := b_N_clear) (maxL := 2) (ret := none) (by decide) rfl ?_
  intro p e s m args below meth c s₁ B hml hv
  obtain ⟨rfl, hsz, hK, hP, hD0⟩ := hv
  subst hsz
  have hD := hD0.self (sz := s.heap.size)
  generalize hAe : va_A (aW cI cJ cZ cB g0 g1 g2 g3 g4 g5 g6 g7 g8 g9 g10 g11 g12 g13 g14 g15 flt fln ffr sta plc edd lab lbv opr acd akd agl len lin att stp fol skd snm snu byt ncn nsy nns nvs ntd lvs ltd ocn opl owd oln okd ogl olo TL) s.heap.size = A at hD ⊢
  have hA : ∀ q : Nat, s.heap.size ≤ q → A q := fun q h => by rw [← hAe]; exact Or.inr h
  have hS : va_S A s.heap s.heap [] := va_S.rf
  have hx := B.exec
  have hb := B.bytes
  have hr := B.returns
  have hts := atoms_spec (ws := .code y_N_clear b_N_clear 2 none :: tb) B.pre
  have hk : ∀ w ∈ tb, w.before [.ref g3].toArray s = true := fun w h => hts w (List.mem_cons_of_mem _ h)
  have hown : s.vm.findClass "SignMachine$Names" = some m.cls := findClass_of_methodNamed B.named
  have hlocks := B.notSynchronized
  have hl := lv_entry ([.ref g3]) (n := 2) (Nat.le_of_ble_eq_true rfl)
  rw [lg_entry_eq]
  generalize (lg_sl ([.ref g3]) ++ List.replicate (2 - (lg_sl ([.ref g3])).length) Slot.unset).toArray = ls at hl ⊢
  have hl : lv_has ls 2 [(0, .ref g3)] := hl
  refine lv_aload_n hx hb d_N_clear_0 rfl (lv_at hl 0 rfl) ?_
  refine lv_iconst (v := 0) hx hb d_N_clear_1 (by decide) ?_
  refine va_put (D := D) (ci := 5) (v := .int (0 : Int32)) (ty := .int) (C := "SignMachine$Names") (T := F_N) (N := 7) hx hb hk fi_N ft_N ft_N_ok fn_N hown hK.1 hP hD hS 3 rfl rfl 5 (by decide) (hk _ k_581) (fun _ h9 => h9) rfl (by decide +kernel) rfl rfl (Nat.le_of_ble_eq_true rfl) d_N_clear_2 (fun H locs hP hD hS => ?_)
  have hP : va_P D classes (aW cI cJ cZ cB g0 g1 g2 g3 g4 g5 g6 g7 g8 g9 g10 g11 g12 g13 g14 g15 flt fln ffr sta plc edd lab lbv opr acd akd agl len lin att stp fol skd snm snu byt (0 : Int32) nsy nns nvs ntd lvs ltd ocn opl owd oln okd ogl olo TL) H := hP
  have hD : va_D A (aW cI cJ cZ cB g0 g1 g2 g3 g4 g5 g6 g7 g8 g9 g10 g11 g12 g13 g14 g15 flt fln ffr sta plc edd lab lbv opr acd akd agl len lin att stp fol skd snm snu byt (0 : Int32) nsy nns nvs ntd lvs ltd ocn opl owd oln okd ogl olo TL) := hD
  refine lv_aload_n hx hb d_N_clear_5 rfl (lv_at hl 0 rfl) ?_
  refine lv_iconst (v := 0) hx hb d_N_clear_6 (by decide) ?_
  refine va_put (D := D) (ci := 5) (v := .int (0 : Int32)) (ty := .int) (C := "SignMachine$Names") (T := F_N) (N := 7) hx hb hk fi_N ft_N ft_N_ok fn_N hown hK.1 hP hD hS 3 rfl rfl 6 (by decide) (hk _ k_583) (fun _ h9 => h9) rfl (by decide +kernel) rfl rfl (Nat.le_of_ble_eq_true rfl) d_N_clear_7 (fun H locs hP hD hS => ?_)
  have hP : va_P D classes (aW cI cJ cZ cB g0 g1 g2 g3 g4 g5 g6 g7 g8 g9 g10 g11 g12 g13 g14 g15 flt fln ffr sta plc edd lab lbv opr acd akd agl len lin att stp fol skd snm snu byt (0 : Int32) (0 : Int32) nns nvs ntd lvs ltd ocn opl owd oln okd ogl olo TL) H := hP
  have hD : va_D A (aW cI cJ cZ cB g0 g1 g2 g3 g4 g5 g6 g7 g8 g9 g10 g11 g12 g13 g14 g15 flt fln ffr sta plc edd lab lbv opr acd akd agl len lin att stp fol skd snm snu byt (0 : Int32) (0 : Int32) nns nvs ntd lvs ltd ocn opl owd oln okd ogl olo TL) := hD
  refine lv_iconst (v := 0) hx hb d_N_clear_10 (by decide) ?_
  refine lv_istore_n (lv' := [(1, .int (0 : Int32)), (0, .ref g3)]) hx hb d_N_clear_11 rfl hl (by decide) rfl (fun ls hl => ?_)
  refine lv_iload_n hx hb d_N_clear_12 rfl (lv_at hl 0 rfl) ?_
  refine lv_bipush (v := 10) hx hb d_N_clear_13 (by decide) ?_
  refine lv_icmp_ge (tgt := 31) hx hb d_N_clear_15 (by decide) (fun c1 => absurd c1 (by decide)) (fun c1 => ?_)
  refine lv_aload_n hx hb d_N_clear_18 rfl (lv_at hl 1 rfl) ?_
  refine va_get (D := D) (ci := 5) (v := .ref g8) (C := "SignMachine$Names") (T := F_N) (N := 7) hx hb hk fi_N hown hK.1 hP 3 rfl rfl 4 (by decide) (hk _ k_580) (fun _ h9 => h9) rfl d_N_clear_19 ?_
  refine lv_iload_n hx hb d_N_clear_22 rfl (lv_at hl 0 rfl) ?_
  refine lv_iconst (v := 0) hx hb d_N_clear_23 (by decide) ?_
  refine va_zast hx hb hK.1 hP hD hS 8 2 rfl rfl (by unfold vp_in; decide) d_N_clear_24 (fun H locs hP hD hS => ?_)
  have hP : va_P D classes (aW cI cJ cZ cB g0 g1 g2 g3 g4 g5 g6 g7 g8 g9 g10 g11 g12 g13 g14 g15 flt fln ffr sta plc edd lab lbv opr acd akd agl len lin att stp fol skd snm snu byt (0 : Int32) (0 : Int32) nns nvs ntd lvs (upd ltd ((0 : Int32)).toNatClampNeg (vp_nar .boolean (0 : Int32))) ocn opl owd oln okd ogl olo TL) H := hP
  have hD : va_D A (aW cI cJ cZ cB g0 g1 g2 g3 g4 g5 g6 g7 g8 g9 g10 g11 g12 g13 g14 g15 flt fln ffr sta plc edd lab lbv opr acd akd agl len lin att stp fol skd snm snu byt (0 : Int32) (0 : Int32) nns nvs ntd lvs (upd ltd ((0 : Int32)).toNatClampNeg (vp_nar .boolean (0 : Int32))) ocn opl owd oln okd ogl olo TL) := hD
  refine lv_iinc (v := (1 : Int32)) (lv' := [(1, .int (1 : Int32)), (0, .ref g3)]) hx hb d_N_clear_25 hl (k := 0) rfl (by decide) (by decide) rfl (fun ls hl => ?_)
  refine lv_goto (tgt := 12) hx hb d_N_clear_28 (by decide) ?_
  refine lv_iload_n hx hb d_N_clear_12 rfl (lv_at hl 0 rfl) ?_
  refine lv_bipush (v := 10) hx hb d_N_clear_13 (by decide) ?_
  refine lv_icmp_ge (tgt := 31) hx hb d_N_clear_15 (by decide) (fun c2 => absurd c2 (by decide)) (fun c2 => ?_)
  refine lv_aload_n hx hb d_N_clear_18 rfl (lv_at hl 1 rfl) ?_
  refine va_get (D := D) (ci := 5) (v := .ref g8) (C := "SignMachine$Names") (T := F_N) (N := 7) hx hb hk fi_N hown hK.1 hP 3 rfl rfl 4 (by decide) (hk _ k_580) (fun _ h9 => h9) rfl d_N_clear_19 ?_
  refine lv_iload_n hx hb d_N_clear_22 rfl (lv_at hl 0 rfl) ?_
  refine lv_iconst (v := 0) hx hb d_N_clear_23 (by decide) ?_
  refine va_zast hx hb hK.1 hP hD hS 8 2 rfl rfl (by unfold vp_in; decide) d_N_clear_24 (fun H locs hP hD hS => ?_)
  have hP : va_P D classes (aW cI cJ cZ cB g0 g1 g2 g3 g4 g5 g6 g7 g8 g9 g10 g11 g12 g13 g14 g15 flt fln ffr sta plc edd lab lbv opr acd akd agl len lin att stp fol skd snm snu byt (0 : Int32) (0 : Int32) nns nvs ntd lvs (upd (upd ltd ((0 : Int32)).toNatClampNeg (vp_nar .boolean (0 : Int32))) ((1 : Int32)).toNatClampNeg (vp_nar .boolean (0 : Int32))) ocn opl owd oln okd ogl olo TL) H := hP
  have hD : va_D A (aW cI cJ cZ cB g0 g1 g2 g3 g4 g5 g6 g7 g8 g9 g10 g11 g12 g13 g14 g15 flt fln ffr sta plc edd lab lbv opr acd akd agl len lin att stp fol skd snm snu byt (0 : Int32) (0 : Int32) nns nvs ntd lvs (upd (upd ltd ((0 : Int32)).toNatClampNeg (vp_nar .boolean (0 : Int32))) ((1 : Int32)).toNatClampNeg (vp_nar .boolean (0 : Int32))) ocn opl owd oln okd ogl olo TL) := hD
  refine lv_iinc (v := (2 : Int32)) (lv' := [(1, .int (2 : Int32)), (0, .ref g3)]) hx hb d_N_clear_25 hl (k := 0) rfl (by decide) (by decide) rfl (fun ls hl => ?_)
  refine lv_goto (tgt := 12) hx hb d_N_clear_28 (by decide) ?_
  refine lv_iload_n hx hb d_N_clear_12 rfl (lv_at hl 0 rfl) ?_
  refine lv_bipush (v := 10) hx hb d_N_clear_13 (by decide) ?_
  refine lv_icmp_ge (tgt := 31) hx hb d_N_clear_15 (by decide) (fun c3 => absurd c3 (by decide)) (fun c3 => ?_)
  refine lv_aload_n hx hb d_N_clear_18 rfl (lv_at hl 1 rfl) ?_
  refine va_get (D := D) (ci := 5) (v := .ref g8) (C := "SignMachine$Names") (T := F_N) (N := 7) hx hb hk fi_N hown hK.1 hP 3 rfl rfl 4 (by decide) (hk _ k_580) (fun _ h9 => h9) rfl d_N_clear_19 ?_
  refine lv_iload_n hx hb d_N_clear_22 rfl (lv_at hl 0 rfl) ?_
  refine lv_iconst (v := 0) hx hb d_N_clear_23 (by decide) ?_
  refine va_zast hx hb hK.1 hP hD hS 8 2 rfl rfl (by unfold vp_in; decide) d_N_clear_24 (fun H locs hP hD hS => ?_)
  have hP : va_P D classes (aW cI cJ cZ cB g0 g1 g2 g3 g4 g5 g6 g7 g8 g9 g10 g11 g12 g13 g14 g15 flt fln ffr sta plc edd lab lbv opr acd akd agl len lin att stp fol skd snm snu byt (0 : Int32) (0 : Int32) nns nvs ntd lvs (upd (upd (upd ltd ((0 : Int32)).toNatClampNeg (vp_nar .boolean (0 : Int32))) ((1 : Int32)).toNatClampNeg (vp_nar .boolean (0 : Int32))) ((2 : Int32)).toNatClampNeg (vp_nar .boolean (0 : Int32))) ocn opl owd oln okd ogl olo TL) H := hP
  have hD : va_D A (aW cI cJ cZ cB g0 g1 g2 g3 g4 g5 g6 g7 g8 g9 g10 g11 g12 g13 g14 g15 flt fln ffr sta plc edd lab lbv opr acd akd agl len lin att stp fol skd snm snu byt (0 : Int32) (0 : Int32) nns nvs ntd lvs (upd (upd (upd ltd ((0 : Int32)).toNatClampNeg (vp_nar .boolean (0 : Int32))) ((1 : Int32)).toNatClampNeg (vp_nar .boolean (0 : Int32))) ((2 : Int32)).toNatClampNeg (vp_nar .boolean (0 : Int32))) ocn opl owd oln okd ogl olo TL) := hD
  refine lv_iinc (v := (3 : Int32)) (lv' := [(1, .int (3 : Int32)), (0, .ref g3)]) hx hb d_N_clear_25 hl (k := 0) rfl (by decide) (by decide) rfl (fun ls hl => ?_)
  refine lv_goto (tgt := 12) hx hb d_N_clear_28 (by decide) ?_
  refine lv_iload_n hx hb d_N_clear_12 rfl (lv_at hl 0 rfl) ?_
  refine lv_bipush (v := 10) hx hb d_N_clear_13 (by decide) ?_
  refine lv_icmp_ge (tgt := 31) hx hb d_N_clear_15 (by decide) (fun c4 => absurd c4 (by decide)) (fun c4 => ?_)
  refine lv_aload_n hx hb d_N_clear_18 rfl (lv_at hl 1 rfl) ?_
  refine va_get (D := D) (ci := 5) (v := .ref g8) (C := "SignMachine$Names") (T := F_N) (N := 7) hx hb hk fi_N hown hK.1 hP 3 rfl rfl 4 (by decide) (hk _ k_580) (fun _ h9 => h9) rfl d_N_clear_19 ?_
  refine lv_iload_n hx hb d_N_clear_22 rfl (lv_at hl 0 rfl) ?_
  refine lv_iconst (v := 0) hx hb d_N_clear_23 (by decide) ?_
  refine va_zast hx hb hK.1 hP hD hS 8 2 rfl rfl (by unfold vp_in; decide) d_N_clear_24 (fun H locs hP hD hS => ?_)
  have hP : va_P D classes (aW cI cJ cZ cB g0 g1 g2 g3 g4 g5 g6 g7 g8 g9 g10 g11 g12 g13 g14 g15 flt fln ffr sta plc edd lab lbv opr acd akd agl len lin att stp fol skd snm snu byt (0 : Int32) (0 : Int32) nns nvs ntd lvs (upd (upd (upd (upd ltd ((0 : Int32)).toNatClampNeg (vp_nar .boolean (0 : Int32))) ((1 : Int32)).toNatClampNeg (vp_nar .boolean (0 : Int32))) ((2 : Int32)).toNatClampNeg (vp_nar .boolean (0 : Int32))) ((3 : Int32)).toNatClampNeg (vp_nar .boolean (0 : Int32))) ocn opl owd oln okd ogl olo TL) H := hP
  have hD : va_D A (aW cI cJ cZ cB g0 g1 g2 g3 g4 g5 g6 g7 g8 g9 g10 g11 g12 g13 g14 g15 flt fln ffr sta plc edd lab lbv opr acd akd agl len lin att stp fol skd snm snu byt (0 : Int32) (0 : Int32) nns nvs ntd lvs (upd (upd (upd (upd ltd ((0 : Int32)).toNatClampNeg (vp_nar .boolean (0 : Int32))) ((1 : Int32)).toNatClampNeg (vp_nar .boolean (0 : Int32))) ((2 : Int32)).toNatClampNeg (vp_nar .boolean (0 : Int32))) ((3 : Int32)).toNatClampNeg (vp_nar .boolean (0 : Int32))) ocn opl owd oln okd ogl olo TL) := hD
  refine lv_iinc (v := (4 : Int32)) (lv' := [(1, .int (4 : Int32)), (0, .ref g3)]) hx hb d_N_clear_25 hl (k := 0) rfl (by decide) (by decide) rfl (fun ls hl => ?_)
  refine lv_goto (tgt := 12) hx hb d_N_clear_28 (by decide) ?_
  refine lv_iload_n hx hb d_N_clear_12 rfl (lv_at hl 0 rfl) ?_
  refine lv_bipush (v := 10) hx hb d_N_clear_13 (by decide) ?_
  refine lv_icmp_ge (tgt := 31) hx hb d_N_clear_15 (by decide) (fun c5 => absurd c5 (by decide)) (fun c5 => ?_)
  refine lv_aload_n hx hb d_N_clear_18 rfl (lv_at hl 1 rfl) ?_
  refine va_get (D := D) (ci := 5) (v := .ref g8) (C := "SignMachine$Names") (T := F_N) (N := 7) hx hb hk fi_N hown hK.1 hP 3 rfl rfl 4 (by decide) (hk _ k_580) (fun _ h9 => h9) rfl d_N_clear_19 ?_
  refine lv_iload_n hx hb d_N_clear_22 rfl (lv_at hl 0 rfl) ?_
  refine lv_iconst (v := 0) hx hb d_N_clear_23 (by decide) ?_
  refine va_zast hx hb hK.1 hP hD hS 8 2 rfl rfl (by unfold vp_in; decide) d_N_clear_24 (fun H locs hP hD hS => ?_)
  have hP : va_P D classes (aW cI cJ cZ cB g0 g1 g2 g3 g4 g5 g6 g7 g8 g9 g10 g11 g12 g13 g14 g15 flt fln ffr sta plc edd lab lbv opr acd akd agl len lin att stp fol skd snm snu byt (0 : Int32) (0 : Int32) nns nvs ntd lvs (upd (upd (upd (upd (upd ltd ((0 : Int32)).toNatClampNeg (vp_nar .boolean (0 : Int32))) ((1 : Int32)).toNatClampNeg (vp_nar .boolean (0 : Int32))) ((2 : Int32)).toNatClampNeg (vp_nar .boolean (0 : Int32))) ((3 : Int32)).toNatClampNeg (vp_nar .boolean (0 : Int32))) ((4 : Int32)).toNatClampNeg (vp_nar .boolean (0 : Int32))) ocn opl owd oln okd ogl olo TL) H := hP
  have hD : va_D A (aW cI cJ cZ cB g0 g1 g2 g3 g4 g5 g6 g7 g8 g9 g10 g11 g12 g13 g14 g15 flt fln ffr sta plc edd lab lbv opr acd akd agl len lin att stp fol skd snm snu byt (0 : Int32) (0 : Int32) nns nvs ntd lvs (upd (upd (upd (upd (upd ltd ((0 : Int32)).toNatClampNeg (vp_nar .boolean (0 : Int32))) ((1 : Int32)).toNatClampNeg (vp_nar .boolean (0 : Int32))) ((2 : Int32)).toNatClampNeg (vp_nar .boolean (0 : Int32))) ((3 : Int32)).toNatClampNeg (vp_nar .boolean (0 : Int32))) ((4 : Int32)).toNatClampNeg (vp_nar .boolean (0 : Int32))) ocn opl owd oln okd ogl olo TL) := hD
  refine lv_iinc (v := (5 : Int32)) (lv' := [(1, .int (5 : Int32)), (0, .ref g3)]) hx hb d_N_clear_25 hl (k := 0) rfl (by decide) (by decide) rfl (fun ls hl => ?_)
  refine lv_goto (tgt := 12) hx hb d_N_clear_28 (by decide) ?_
  refine lv_iload_n hx hb d_N_clear_12 rfl (lv_at hl 0 rfl) ?_
  refine lv_bipush (v := 10) hx hb d_N_clear_13 (by decide) ?_
  refine lv_icmp_ge (tgt := 31) hx hb d_N_clear_15 (by decide) (fun c6 => absurd c6 (by decide)) (fun c6 => ?_)
  refine lv_aload_n hx hb d_N_clear_18 rfl (lv_at hl 1 rfl) ?_
  refine va_get (D := D) (ci := 5) (v := .ref g8) (C := "SignMachine$Names") (T := F_N) (N := 7) hx hb hk fi_N hown hK.1 hP 3 rfl rfl 4 (by decide) (hk _ k_580) (fun _ h9 => h9) rfl d_N_clear_19 ?_
  refine lv_iload_n hx hb d_N_clear_22 rfl (lv_at hl 0 rfl) ?_
  refine lv_iconst (v := 0) hx hb d_N_clear_23 (by decide) ?_
  refine va_zast hx hb hK.1 hP hD hS 8 2 rfl rfl (by unfold vp_in; decide) d_N_clear_24 (fun H locs hP hD hS => ?_)
  have hP : va_P D classes (aW cI cJ cZ cB g0 g1 g2 g3 g4 g5 g6 g7 g8 g9 g10 g11 g12 g13 g14 g15 flt fln ffr sta plc edd lab lbv opr acd akd agl len lin att stp fol skd snm snu byt (0 : Int32) (0 : Int32) nns nvs ntd lvs (upd (upd (upd (upd (upd (upd ltd ((0 : Int32)).toNatClampNeg (vp_nar .boolean (0 : Int32))) ((1 : Int32)).toNatClampNeg (vp_nar .boolean (0 : Int32))) ((2 : Int32)).toNatClampNeg (vp_nar .boolean (0 : Int32))) ((3 : Int32)).toNatClampNeg (vp_nar .boolean (0 : Int32))) ((4 : Int32)).toNatClampNeg (vp_nar .boolean (0 : Int32))) ((5 : Int32)).toNatClampNeg (vp_nar .boolean (0 : Int32))) ocn opl owd oln okd ogl olo TL) H := hP
  have hD : va_D A (aW cI cJ cZ cB g0 g1 g2 g3 g4 g5 g6 g7 g8 g9 g10 g11 g12 g13 g14 g15 flt fln ffr sta plc edd lab lbv opr acd akd agl len lin att stp fol skd snm snu byt (0 : Int32) (0 : Int32) nns nvs ntd lvs (upd (upd (upd (upd (upd (upd ltd ((0 : Int32)).toNatClampNeg (vp_nar .boolean (0 : Int32))) ((1 : Int32)).toNatClampNeg (vp_nar .boolean (0 : Int32))) ((2 : Int32)).toNatClampNeg (vp_nar .boolean (0 : Int32))) ((3 : Int32)).toNatClampNeg (vp_nar .boolean (0 : Int32))) ((4 : Int32)).toNatClampNeg (vp_nar .boolean (0 : Int32))) ((5 : Int32)).toNatClampNeg (vp_nar .boolean (0 : Int32))) ocn opl owd oln okd ogl olo TL) := hD
  refine lv_iinc (v := (6 : Int32)) (lv' := [(1, .int (6 : Int32)), (0, .ref g3)]) hx hb d_N_clear_25 hl (k := 0) rfl (by decide) (by decide) rfl (fun ls hl => ?_)
  refine lv_goto (tgt := 12) hx hb d_N_clear_28 (by decide) ?_
  refine lv_iload_n hx hb d_N_clear_12 rfl (lv_at hl 0 rfl) ?_
  refine lv_bipush (v := 10) hx hb d_N_clear_13 (by decide) ?_
  refine lv_icmp_ge (tgt := 31) hx hb d_N_clear_15 (by decide) (fun c7 => absurd c7 (by decide)) (fun c7 => ?_)
  refine lv_aload_n hx hb d_N_clear_18 rfl (lv_at hl 1 rfl) ?_
  refine va_get (D := D) (ci := 5) (v := .ref g8) (C := "SignMachine$Names") (T := F_N) (N := 7) hx hb hk fi_N hown hK.1 hP 3 rfl rfl 4 (by decide) (hk _ k_580) (fun _ h9 => h9) rfl d_N_clear_19 ?_
  refine lv_iload_n hx hb d_N_clear_22 rfl (lv_at hl 0 rfl) ?_
  refine lv_iconst (v := 0) hx hb d_N_clear_23 (by decide) ?_
  refine va_zast hx hb hK.1 hP hD hS 8 2 rfl rfl (by unfold vp_in; decide) d_N_clear_24 (fun H locs hP hD hS => ?_)
  have hP : va_P D classes (aW cI cJ cZ cB g0 g1 g2 g3 g4 g5 g6 g7 g8 g9 g10 g11 g12 g13 g14 g15 flt fln ffr sta plc edd lab lbv opr acd akd agl len lin att stp fol skd snm snu byt (0 : Int32) (0 : Int32) nns nvs ntd lvs (upd (upd (upd (upd (upd (upd (upd ltd ((0 : Int32)).toNatClampNeg (vp_nar .boolean (0 : Int32))) ((1 : Int32)).toNatClampNeg (vp_nar .boolean (0 : Int32))) ((2 : Int32)).toNatClampNeg (vp_nar .boolean (0 : Int32))) ((3 : Int32)).toNatClampNeg (vp_nar .boolean (0 : Int32))) ((4 : Int32)).toNatClampNeg (vp_nar .boolean (0 : Int32))) ((5 : Int32)).toNatClampNeg (vp_nar .boolean (0 : Int32))) ((6 : Int32)).toNatClampNeg (vp_nar .boolean (0 : Int32))) ocn opl owd oln okd ogl olo TL) H := hP
  have hD : va_D A (aW cI cJ cZ cB g0 g1 g2 g3 g4 g5 g6 g7 g8 g9 g10 g11 g12 g13 g14 g15 flt fln ffr sta plc edd lab lbv opr acd akd agl len lin att stp fol skd snm snu byt (0 : Int32) (0 : Int32) nns nvs ntd lvs (upd (upd (upd (upd (upd (upd (upd ltd ((0 : Int32)).toNatClampNeg (vp_nar .boolean (0 : Int32))) ((1 : Int32)).toNatClampNeg (vp_nar .boolean (0 : Int32))) ((2 : Int32)).toNatClampNeg (vp_nar .boolean (0 : Int32))) ((3 : Int32)).toNatClampNeg (vp_nar .boolean (0 : Int32))) ((4 : Int32)).toNatClampNeg (vp_nar .boolean (0 : Int32))) ((5 : Int32)).toNatClampNeg (vp_nar .boolean (0 : Int32))) ((6 : Int32)).toNatClampNeg (vp_nar .boolean (0 : Int32))) ocn opl owd oln okd ogl olo TL) := hD
  refine lv_iinc (v := (7 : Int32)) (lv' := [(1, .int (7 : Int32)), (0, .ref g3)]) hx hb d_N_clear_25 hl (k := 0) rfl (by decide) (by decide) rfl (fun ls hl => ?_)
  refine lv_goto (tgt := 12) hx hb d_N_clear_28 (by decide) ?_
  refine lv_iload_n hx hb d_N_clear_12 rfl (lv_at hl 0 rfl) ?_
  refine lv_bipush (v := 10) hx hb d_N_clear_13 (by decide) ?_
  refine lv_icmp_ge (tgt := 31) hx hb d_N_clear_15 (by decide) (fun c8 => absurd c8 (by decide)) (fun c8 => ?_)
  refine lv_aload_n hx hb d_N_clear_18 rfl (lv_at hl 1 rfl) ?_
  refine va_get (D := D) (ci := 5) (v := .ref g8) (C := "SignMachine$Names") (T := F_N) (N := 7) hx hb hk fi_N hown hK.1 hP 3 rfl rfl 4 (by decide) (hk _ k_580) (fun _ h9 => h9) rfl d_N_clear_19 ?_
  refine lv_iload_n hx hb d_N_clear_22 rfl (lv_at hl 0 rfl) ?_
  refine lv_iconst (v := 0) hx hb d_N_clear_23 (by decide) ?_
  refine va_zast hx hb hK.1 hP hD hS 8 2 rfl rfl (by unfold vp_in; decide) d_N_clear_24 (fun H locs hP hD hS => ?_)
  have hP : va_P D classes (aW cI cJ cZ cB g0 g1 g2 g3 g4 g5 g6 g7 g8 g9 g10 g11 g12 g13 g14 g15 flt fln ffr sta plc edd lab lbv opr acd akd agl len lin att stp fol skd snm snu byt (0 : Int32) (0 : Int32) nns nvs ntd lvs (upd (upd (upd (upd (upd (upd (upd (upd ltd ((0 : Int32)).toNatClampNeg (vp_nar .boolean (0 : Int32))) ((1 : Int32)).toNatClampNeg (vp_nar .boolean (0 : Int32))) ((2 : Int32)).toNatClampNeg (vp_nar .boolean (0 : Int32))) ((3 : Int32)).toNatClampNeg (vp_nar .boolean (0 : Int32))) ((4 : Int32)).toNatClampNeg (vp_nar .boolean (0 : Int32))) ((5 : Int32)).toNatClampNeg (vp_nar .boolean (0 : Int32))) ((6 : Int32)).toNatClampNeg (vp_nar .boolean (0 : Int32))) ((7 : Int32)).toNatClampNeg (vp_nar .boolean (0 : Int32))) ocn opl owd oln okd ogl olo TL) H := hP
  have hD : va_D A (aW cI cJ cZ cB g0 g1 g2 g3 g4 g5 g6 g7 g8 g9 g10 g11 g12 g13 g14 g15 flt fln ffr sta plc edd lab lbv opr acd akd agl len lin att stp fol skd snm snu byt (0 : Int32) (0 : Int32) nns nvs ntd lvs (upd (upd (upd (upd (upd (upd (upd (upd ltd ((0 : Int32)).toNatClampNeg (vp_nar .boolean (0 : Int32))) ((1 : Int32)).toNatClampNeg (vp_nar .boolean (0 : Int32))) ((2 : Int32)).toNatClampNeg (vp_nar .boolean (0 : Int32))) ((3 : Int32)).toNatClampNeg (vp_nar .boolean (0 : Int32))) ((4 : Int32)).toNatClampNeg (vp_nar .boolean (0 : Int32))) ((5 : Int32)).toNatClampNeg (vp_nar .boolean (0 : Int32))) ((6 : Int32)).toNatClampNeg (vp_nar .boolean (0 : Int32))) ((7 : Int32)).toNatClampNeg (vp_nar .boolean (0 : Int32))) ocn opl owd oln okd ogl olo TL) := hD
  refine lv_iinc (v := (8 : Int32)) (lv' := [(1, .int (8 : Int32)), (0, .ref g3)]) hx hb d_N_clear_25 hl (k := 0) rfl (by decide) (by decide) rfl (fun ls hl => ?_)
  refine lv_goto (tgt := 12) hx hb d_N_clear_28 (by decide) ?_
  refine lv_iload_n hx hb d_N_clear_12 rfl (lv_at hl 0 rfl) ?_
  refine lv_bipush (v := 10) hx hb d_N_clear_13 (by decide) ?_
  refine lv_icmp_ge (tgt := 31) hx hb d_N_clear_15 (by decide) (fun c9 => absurd c9 (by decide)) (fun c9 => ?_)
  refine lv_aload_n hx hb d_N_clear_18 rfl (lv_at hl 1 rfl) ?_
  refine va_get (D := D) (ci := 5) (v := .ref g8) (C := "SignMachine$Names") (T := F_N) (N := 7) hx hb hk fi_N hown hK.1 hP 3 rfl rfl 4 (by decide) (hk _ k_580) (fun _ h9 => h9) rfl d_N_clear_19 ?_
  refine lv_iload_n hx hb d_N_clear_22 rfl (lv_at hl 0 rfl) ?_
  refine lv_iconst (v := 0) hx hb d_N_clear_23 (by decide) ?_
  refine va_zast hx hb hK.1 hP hD hS 8 2 rfl rfl (by unfold vp_in; decide) d_N_clear_24 (fun H locs hP hD hS => ?_)
  have hP : va_P D classes (aW cI cJ cZ cB g0 g1 g2 g3 g4 g5 g6 g7 g8 g9 g10 g11 g12 g13 g14 g15 flt fln ffr sta plc edd lab lbv opr acd akd agl len lin att stp fol skd snm snu byt (0 : Int32) (0 : Int32) nns nvs ntd lvs (upd (upd (upd (upd (upd (upd (upd (upd (upd ltd ((0 : Int32)).toNatClampNeg (vp_nar .boolean (0 : Int32))) ((1 : Int32)).toNatClampNeg (vp_nar .boolean (0 : Int32))) ((2 : Int32)).toNatClampNeg (vp_nar .boolean (0 : Int32))) ((3 : Int32)).toNatClampNeg (vp_nar .boolean (0 : Int32))) ((4 : Int32)).toNatClampNeg (vp_nar .boolean (0 : Int32))) ((5 : Int32)).toNatClampNeg (vp_nar .boolean (0 : Int32))) ((6 : Int32)).toNatClampNeg (vp_nar .boolean (0 : Int32))) ((7 : Int32)).toNatClampNeg (vp_nar .boolean (0 : Int32))) ((8 : Int32)).toNatClampNeg (vp_nar .boolean (0 : Int32))) ocn opl owd oln okd ogl olo TL) H := hP
  have hD : va_D A (aW cI cJ cZ cB g0 g1 g2 g3 g4 g5 g6 g7 g8 g9 g10 g11 g12 g13 g14 g15 flt fln ffr sta plc edd lab lbv opr acd akd agl len lin att stp fol skd snm snu byt (0 : Int32) (0 : Int32) nns nvs ntd lvs (upd (upd (upd (upd (upd (upd (upd (upd (upd ltd ((0 : Int32)).toNatClampNeg (vp_nar .boolean (0 : Int32))) ((1 : Int32)).toNatClampNeg (vp_nar .boolean (0 : Int32))) ((2 : Int32)).toNatClampNeg (vp_nar .boolean (0 : Int32))) ((3 : Int32)).toNatClampNeg (vp_nar .boolean (0 : Int32))) ((4 : Int32)).toNatClampNeg (vp_nar .boolean (0 : Int32))) ((5 : Int32)).toNatClampNeg (vp_nar .boolean (0 : Int32))) ((6 : Int32)).toNatClampNeg (vp_nar .boolean (0 : Int32))) ((7 : Int32)).toNatClampNeg (vp_nar .boolean (0 : Int32))) ((8 : Int32)).toNatClampNeg (vp_nar .boolean (0 : Int32))) ocn opl owd oln okd ogl olo TL) := hD
  refine lv_iinc (v := (9 : Int32)) (lv' := [(1, .int (9 : Int32)), (0, .ref g3)]) hx hb d_N_clear_25 hl (k := 0) rfl (by decide) (by decide) rfl (fun ls hl => ?_)
  refine lv_goto (tgt := 12) hx hb d_N_clear_28 (by decide) ?_
  refine lv_iload_n hx hb d_N_clear_12 rfl (lv_at hl 0 rfl) ?_
  refine lv_bipush (v := 10) hx hb d_N_clear_13 (by decide) ?_
  refine lv_icmp_ge (tgt := 31) hx hb d_N_clear_15 (by decide) (fun c10 => absurd c10 (by decide)) (fun c10 => ?_)
  refine lv_aload_n hx hb d_N_clear_18 rfl (lv_at hl 1 rfl) ?_
  refine va_get (D := D) (ci := 5) (v := .ref g8) (C := "SignMachine$Names") (T := F_N) (N := 7) hx hb hk fi_N hown hK.1 hP 3 rfl rfl 4 (by decide) (hk _ k_580) (fun _ h9 => h9) rfl d_N_clear_19 ?_
  refine lv_iload_n hx hb d_N_clear_22 rfl (lv_at hl 0 rfl) ?_
  refine lv_iconst (v := 0) hx hb d_N_clear_23 (by decide) ?_
  refine va_zast hx hb hK.1 hP hD hS 8 2 rfl rfl (by unfold vp_in; decide) d_N_clear_24 (fun H locs hP hD hS => ?_)
  have hP : va_P D classes (aW cI cJ cZ cB g0 g1 g2 g3 g4 g5 g6 g7 g8 g9 g10 g11 g12 g13 g14 g15 flt fln ffr sta plc edd lab lbv opr acd akd agl len lin att stp fol skd snm snu byt (0 : Int32) (0 : Int32) nns nvs ntd lvs (upd (upd (upd (upd (upd (upd (upd (upd (upd (upd ltd ((0 : Int32)).toNatClampNeg (vp_nar .boolean (0 : Int32))) ((1 : Int32)).toNatClampNeg (vp_nar .boolean (0 : Int32))) ((2 : Int32)).toNatClampNeg (vp_nar .boolean (0 : Int32))) ((3 : Int32)).toNatClampNeg (vp_nar .boolean (0 : Int32))) ((4 : Int32)).toNatClampNeg (vp_nar .boolean (0 : Int32))) ((5 : Int32)).toNatClampNeg (vp_nar .boolean (0 : Int32))) ((6 : Int32)).toNatClampNeg (vp_nar .boolean (0 : Int32))) ((7 : Int32)).toNatClampNeg (vp_nar .boolean (0 : Int32))) ((8 : Int32)).toNatClampNeg (vp_nar .boolean (0 : Int32))) ((9 : Int32)).toNatClampNeg (vp_nar .boolean (0 : Int32))) ocn opl owd oln okd ogl olo TL) H := hP
  have hD : va_D A (aW cI cJ cZ cB g0 g1 g2 g3 g4 g5 g6 g7 g8 g9 g10 g11 g12 g13 g14 g15 flt fln ffr sta plc edd lab lbv opr acd akd agl len lin att stp fol skd snm snu byt (0 : Int32) (0 : Int32) nns nvs ntd lvs (upd (upd (upd (upd (upd (upd (upd (upd (upd (upd ltd ((0 : Int32)).toNatClampNeg (vp_nar .boolean (0 : Int32))) ((1 : Int32)).toNatClampNeg (vp_nar .boolean (0 : Int32))) ((2 : Int32)).toNatClampNeg (vp_nar .boolean (0 : Int32))) ((3 : Int32)).toNatClampNeg (vp_nar .boolean (0 : Int32))) ((4 : Int32)).toNatClampNeg (vp_nar .boolean (0 : Int32))) ((5 : Int32)).toNatClampNeg (vp_nar .boolean (0 : Int32))) ((6 : Int32)).toNatClampNeg (vp_nar .boolean (0 : Int32))) ((7 : Int32)).toNatClampNeg (vp_nar .boolean (0 : Int32))) ((8 : Int32)).toNatClampNeg (vp_nar .boolean (0 : Int32))) ((9 : Int32)).toNatClampNeg (vp_nar .boolean (0 : Int32))) ocn opl owd oln okd ogl olo TL) := hD
  refine lv_iinc (v := (10 : Int32)) (lv' := [(1, .int (10 : Int32)), (0, .ref g3)]) hx hb d_N_clear_25 hl (k := 0) rfl (by decide) (by decide) rfl (fun ls hl => ?_)
  refine lv_goto (tgt := 12) hx hb d_N_clear_28 (by decide) ?_
  refine lv_iload_n hx hb d_N_clear_12 rfl (lv_at hl 0 rfl) ?_
  refine lv_bipush (v := 10) hx hb d_N_clear_13 (by decide) ?_
  refine lv_icmp_ge (tgt := 31) hx hb d_N_clear_15 (by decide) (fun c11 => ?_) (fun c11 => absurd (by decide) c11)
  exact W.vret hx hb hr (fun t ht hW => ⟨⟨((0 : Int32), (0 : Int32), (upd (upd (upd (upd (upd (upd (upd (upd (upd (upd ltd ((0 : Int32)).toNatClampNeg (vp_nar .boolean (0 : Int32))) ((1 : Int32)).toNatClampNeg (vp_nar .boolean (0 : Int32))) ((2 : Int32)).toNatClampNeg (vp_nar .boolean (0 : Int32))) ((3 : Int32)).toNatClampNeg (vp_nar .boolean (0 : Int32))) ((4 : Int32)).toNatClampNeg (vp_nar .boolean (0 : Int32))) ((5 : Int32)).toNatClampNeg (vp_nar .boolean (0 : Int32))) ((6 : Int32)).toNatClampNeg (vp_nar .boolean (0 : Int32))) ((7 : Int32)).toNatClampNeg (vp_nar .boolean (0 : Int32))) ((8 : Int32)).toNatClampNeg (vp_nar .boolean (0 : Int32))) ((9 : Int32)).toNatClampNeg (vp_nar .boolean (0 : Int32)))), rfl, by simp only [f_N_clear], by show va_P D classes _ t.heap; rw [ht]; exact hP⟩, hS.F ht⟩) hS.2.2 d_N_clear_31
theorem v_N_clear {R : Room} {s : State} {args : Array Value} {own : String} {index : Nat} (hk : ∀ w ∈ tb, w.before args s = true) (hl : Cond.methodLink own index y_N_clear ∈ tb) (hR : 0 + 1 ≤ R.frames ∧ 8 + (2 + 11) + 0 ≤ R.locals) : CallW R s args own "SignMachine$Names" index y_N_clear b_N_clear 2 none (.code y_N_clear b_N_clear 2 none :: tb) ({ frames := 0, cells := 0, slots := 0, locals := 0 }) 0 0 0 := mk_v 0 hk k_710 hl k_708 k_709 k_125 rfl rfl h_N_clear hR
def f_O_clear (olo : Nat → Int32)  : (Int32) × (Nat → Int32) := ((0 : Int32), (upd (upd (upd (upd (upd (upd (upd (upd (upd (upd olo ((0 : Int32)).toNatClampNeg (-2 : Int32)) ((1 : Int32)).toNatClampNeg (-2 : Int32)) ((2 : Int32)).toNatClampNeg (-2 : Int32)) ((3 : Int32)).toNatClampNeg (-2 : Int32)) ((4 : Int32)).toNatClampNeg (-2 : Int32)) ((5 : Int32)).toNatClampNeg (-2 : Int32)) ((6 : Int32)).toNatClampNeg (-2 : Int32)) ((7 : Int32)).toNatClampNeg (-2 : Int32)) ((8 : Int32)).toNatClampNeg (-2 : Int32)) ((9 : Int32)).toNatClampNeg (-2 : Int32)))
set_option maxHeartbeats 4000000 in
set_option maxRecDepth 100000 in
theorem c_O_clear (l : Launch) (D : va_G) (cI cJ cZ cB : ClassId) (g0 g1 g2 g3 g4 g5 g6 g7 g8 g9 g10 g11 g12 g13 g14 g15 : Nat) (sz : Nat) (flt : Int32) (fln : Int32) (ffr : Int32) (sta : Int32) (plc : Int32) (edd : Int32) (lab : Int64) (lbv : Int32) (opr : Option Nat) (acd : Int32) (akd : Int32) (agl : Int32) (len : Int32) (lin : Int32) (att : Int32) (stp : Int32) (fol : Int32) (skd : Int32) (snm : Int64) (snu : Int32) (byt : Nat → Int32) (ncn : Int32) (nsy : Int32) (nns : Nat → Int64) (nvs : Nat → Int32) (ntd : Nat → Int32) (lvs : Nat → Int32) (ltd : Nat → Int32) (ocn : Int32) (opl : Nat → Int32) (owd : Nat → Int32) (oln : Nat → Int32) (okd : Nat → Int32) (ogl : Nat → Int32) (olo : Nat → Int32) (TL : va_W)  : Met l y_O_clear (.code y_O_clear b_O_clear 2 none :: tb) ({ frames := 0, cells := 0, slots := 0, locals := 0 }) (pM D cI cJ cZ cB (aW cI cJ cZ cB g0 g1 g2 g3 g4 g5 g6 g7 g8 g9 g10 g11 g12 g13 g14 g15 flt fln ffr sta plc edd lab lbv opr acd akd agl len lin att stp fol skd snm snu byt ncn nsy nns nvs ntd lvs ltd ocn opl owd oln okd ogl olo TL) sz [.ref g9]) (qV D (fun u => u = f_O_clear olo) (fun (u : (Int32) × (Nat → Int32)) => match u with | (u_ocn, u_olo) => (aW cI cJ cZ cB g0 g1 g2 g3 g4 g5 g6 g7 g8 g9 g10 g11 g12 g13 g14 g15 flt fln ffr sta plc edd lab lbv opr acd akd agl len lin att stp fol skd snm snu byt ncn nsy nns nvs ntd lvs ltd u_ocn opl owd oln okd ogl u_olo TL)) (va_A (aW cI cJ cZ cB g0 g1 g2 g3 g4 g5 g6 g7 g8 g9 g10 g11 g12 g13 g14 g15 flt fln ffr sta plc edd lab lbv opr acd akd agl len lin att stp fol skd snm snu byt ncn nsy nns nvs ntd lvs ltd ocn opl owd oln okd ogl olo TL) sz)) 0 0 (va_A (aW cI cJ cZ cB g0 g1 g2 g3 g4 g5 g6 g7 g8 g9 g10 g11 g12 g13 g14 g15 flt fln ffr sta plc edd lab lbv opr acd akd agl len lin att stp fol skd snm snu byt ncn nsy nns nvs ntd lvs ltd ocn opl owd oln okd ogl olo TL) sz) := by
  refine Met.ofW (cc := b_O_clear) (maxL := 2) (ret := none) (by decide) rfl ?_
  intro p e s m args below meth c s₁ B hml hv
  obtain ⟨rfl, hsz, hK, hP, hD0⟩ := hv
  subst hsz
  have hD := hD0.self (sz := s.heap.size)
  generalize hAe : va_A (aW cI cJ cZ cB g0 g1 g2 g3 g4 g5 g6 g7 g8 g9 g10 g11 g12 g13 g14 g15 flt fln ffr sta plc edd lab lbv opr acd akd agl len lin att stp fol skd snm snu byt ncn nsy nns nvs ntd lvs ltd ocn opl owd oln okd ogl olo TL) s.heap.size = A at hD ⊢
  have hA : ∀ q : Nat, s.heap.size ≤ q → A q := fun q h => by rw [← hAe]; exact Or.inr h
  have hS : va_S A s.heap s.heap [] := va_S.rf
  have hx := B.exec
  have hb := B.bytes
  have hr := B.returns
  have hts := atoms_spec (ws := .code y_O_clear b_O_clear 2 none :: tb) B.pre
  have hk : ∀ w ∈ tb, w.before [.ref g9].toArray s = true := fun w h => hts w (List.mem_cons_of_mem _ h)
  have hown : s.vm.findClass "SignMachine$Output" = some m.cls := findClass_of_methodNamed B.named
  have hlocks := B.notSynchronized
  have hl := lv_entry ([.ref g9]) (n := 2) (Nat.le_of_ble_eq_true rfl)
  rw [lg_entry_eq]
  generalize (lg_sl ([.ref g9]) ++ List.replicate (2 - (lg_sl ([.ref g9])).length) Slot.unset).toArray = ls at hl ⊢
  have hl : lv_has ls 2 [(0, .ref g9)] := hl
  refine lv_aload_n hx hb d_O_clear_0 rfl (lv_at hl 0 rfl) ?_
  refine lv_iconst (v := 0) hx hb d_O_clear_1 (by decide) ?_
  refine va_put (D := D) (ci := 6) (v := .int (0 : Int32)) (ty := .int) (C := "SignMachine$Output") (T := F_O) (N := 7) hx hb hk fi_O ft_O ft_O_ok fn_O hown hK.1 hP hD hS 9 rfl rfl 6 (by decide) (hk _ k_613) (fun _ h9 => h9) rfl (by decide +kernel) rfl rfl (Nat.le_of_ble_eq_true rfl) d_O_clear_2 (fun H locs hP hD hS => ?_)
  have hP : va_P D classes (aW cI cJ cZ cB g0 g1 g2 g3 g4 g5 g6 g7 g8 g9 g10 g11 g12 g13 g14 g15 flt fln ffr sta plc edd lab lbv opr acd akd agl len lin att stp fol skd snm snu byt ncn nsy nns nvs ntd lvs ltd (0 : Int32) opl owd oln okd ogl olo TL) H := hP
  have hD : va_D A (aW cI cJ cZ cB g0 g1 g2 g3 g4 g5 g6 g7 g8 g9 g10 g11 g12 g13 g14 g15 flt fln ffr sta plc edd lab lbv opr acd akd agl len lin att stp fol skd snm snu byt ncn nsy nns nvs ntd lvs ltd (0 : Int32) opl owd oln okd ogl olo TL) := hD
  refine lv_iconst (v := 0) hx hb d_O_clear_5 (by decide) ?_
  refine lv_istore_n (lv' := [(1, .int (0 : Int32)), (0, .ref g9)]) hx hb d_O_clear_6 rfl hl (by decide) rfl (fun ls hl => ?_)
  refine lv_iload_n hx hb d_O_clear_7 rfl (lv_at hl 0 rfl) ?_
  refine lv_aload_n hx hb d_O_clear_8 rfl (lv_at hl 1 rfl) ?_
  refine va_get (D := D) (ci := 6) (v := .ref g15) (C := "SignMachine$Output") (T := F_O) (N := 7) hx hb hk fi_O hown hK.1 hP 9 rfl rfl 5 (by decide) (hk _ k_612) (fun _ h9 => h9) rfl d_O_clear_9 ?_
  refine va_alen (v := 10) hx hb hK.1 hP 15 0 rfl rfl rfl d_O_clear_12 ?_
  refine lv_icmp_ge (tgt := 30) hx hb d_O_clear_13 (by decide) (fun c1 => absurd c1 (by decide)) (fun c1 => ?_)
  refine lv_aload_n hx hb d_O_clear_16 rfl (lv_at hl 1 rfl) ?_
  refine va_get (D := D) (ci := 6) (v := .ref g15) (C := "SignMachine$Output") (T := F_O) (N := 7) hx hb hk fi_O hown hK.1 hP 9 rfl rfl 5 (by decide) (hk _ k_612) (fun _ h9 => h9) rfl d_O_clear_17 ?_
  refine lv_iload_n hx hb d_O_clear_20 rfl (lv_at hl 0 rfl) ?_
  refine lv_bipush (v := (-2)) hx hb d_O_clear_21 (by decide) ?_
  refine va_iast hx hb hK.1 hP hD hS 15 0 rfl rfl (by unfold vp_in; decide) d_O_clear_23 (fun H locs hP hD hS => ?_)
  have hP : va_P D classes (aW cI cJ cZ cB g0 g1 g2 g3 g4 g5 g6 g7 g8 g9 g10 g11 g12 g13 g14 g15 flt fln ffr sta plc edd lab lbv opr acd akd agl len lin att stp fol skd snm snu byt ncn nsy nns nvs ntd lvs ltd (0 : Int32) opl owd oln okd ogl (upd olo ((0 : Int32)).toNatClampNeg (-2 : Int32)) TL) H := hP
  have hD : va_D A (aW cI cJ cZ cB g0 g1 g2 g3 g4 g5 g6 g7 g8 g9 g10 g11 g12 g13 g14 g15 flt fln ffr sta plc edd lab lbv opr acd akd agl len lin att stp fol skd snm snu byt ncn nsy nns nvs ntd lvs ltd (0 : Int32) opl owd oln okd ogl (upd olo ((0 : Int32)).toNatClampNeg (-2 : Int32)) TL) := hD
  refine lv_iinc (v := (1 : Int32)) (lv' := [(1, .int (1 : Int32)), (0, .ref g9)]) hx hb d_O_clear_24 hl (k := 0) rfl (by decide) (by decide) rfl (fun ls hl => ?_)
  refine lv_goto (tgt := 7) hx hb d_O_clear_27 (by decide) ?_
  refine lv_iload_n hx hb d_O_clear_7 rfl (lv_at hl 0 rfl) ?_
  refine lv_aload_n hx hb d_O_clear_8 rfl (lv_at hl 1 rfl) ?_
  refine va_get (D := D) (ci := 6) (v := .ref g15) (C := "SignMachine$Output") (T := F_O) (N := 7) hx hb hk fi_O hown hK.1 hP 9 rfl rfl 5 (by decide) (hk _ k_612) (fun _ h9 => h9) rfl d_O_clear_9 ?_
  refine va_alen (v := 10) hx hb hK.1 hP 15 0 rfl rfl rfl d_O_clear_12 ?_
  refine lv_icmp_ge (tgt := 30) hx hb d_O_clear_13 (by decide) (fun c2 => absurd c2 (by decide)) (fun c2 => ?_)
  refine lv_aload_n hx hb d_O_clear_16 rfl (lv_at hl 1 rfl) ?_
  refine va_get (D := D) (ci := 6) (v := .ref g15) (C := "SignMachine$Output") (T := F_O) (N := 7) hx hb hk fi_O hown hK.1 hP 9 rfl rfl 5 (by decide) (hk _ k_612) (fun _ h9 => h9) rfl d_O_clear_17 ?_
  refine lv_iload_n hx hb d_O_clear_20 rfl (lv_at hl 0 rfl) ?_
  refine lv_bipush (v := (-2)) hx hb d_O_clear_21 (by decide) ?_
  refine va_iast hx hb hK.1 hP hD hS 15 0 rfl rfl (by unfold vp_in; decide) d_O_clear_23 (fun H locs hP hD hS => ?_)
  have hP : va_P D classes (aW cI cJ cZ cB g0 g1 g2 g3 g4 g5 g6 g7 g8 g9 g10 g11 g12 g13 g14 g15 flt fln ffr sta plc edd lab lbv opr acd akd agl len lin att stp fol skd snm snu byt ncn nsy nns nvs ntd lvs ltd (0 : Int32) opl owd oln okd ogl (upd (upd olo ((0 : Int32)).toNatClampNeg (-2 : Int32)) ((1 : Int32)).toNatClampNeg (-2 : Int32)) TL) H := hP
  have hD : va_D A (aW cI cJ cZ cB g0 g1 g2 g3 g4 g5 g6 g7 g8 g9 g10 g11 g12 g13 g14 g15 flt fln ffr sta plc edd lab lbv opr acd akd agl len lin att stp fol skd snm snu byt ncn nsy nns nvs ntd lvs ltd (0 : Int32) opl owd oln okd ogl (upd (upd olo ((0 : Int32)).toNatClampNeg (-2 : Int32)) ((1 : Int32)).toNatClampNeg (-2 : Int32)) TL) := hD
  refine lv_iinc (v := (2 : Int32)) (lv' := [(1, .int (2 : Int32)), (0, .ref g9)]) hx hb d_O_clear_24 hl (k := 0) rfl (by decide) (by decide) rfl (fun ls hl => ?_)
  refine lv_goto (tgt := 7) hx hb d_O_clear_27 (by decide) ?_
  refine lv_iload_n hx hb d_O_clear_7 rfl (lv_at hl 0 rfl) ?_
  refine lv_aload_n hx hb d_O_clear_8 rfl (lv_at hl 1 rfl) ?_
  refine va_get (D := D) (ci := 6) (v := .ref g15) (C := "SignMachine$Output") (T := F_O) (N := 7) hx hb hk fi_O hown hK.1 hP 9 rfl rfl 5 (by decide) (hk _ k_612) (fun _ h9 => h9) rfl d_O_clear_9 ?_
  refine va_alen (v := 10) hx hb hK.1 hP 15 0 rfl rfl rfl d_O_clear_12 ?_
  refine lv_icmp_ge (tgt := 30) hx hb d_O_clear_13 (by decide) (fun c3 => absurd c3 (by decide)) (fun c3 => ?_)
  refine lv_aload_n hx hb d_O_clear_16 rfl (lv_at hl 1 rfl) ?_
  refine va_get (D := D) (ci := 6) (v := .ref g15) (C := "SignMachine$Output") (T := F_O) (N := 7) hx hb hk fi_O hown hK.1 hP 9 rfl rfl 5 (by decide) (hk _ k_612) (fun _ h9 => h9) rfl d_O_clear_17 ?_
  refine lv_iload_n hx hb d_O_clear_20 rfl (lv_at hl 0 rfl) ?_
  refine lv_bipush (v := (-2)) hx hb d_O_clear_21 (by decide) ?_
  refine va_iast hx hb hK.1 hP hD hS 15 0 rfl rfl (by unfold vp_in; decide) d_O_clear_23 (fun H locs hP hD hS => ?_)
  have hP : va_P D classes (aW cI cJ cZ cB g0 g1 g2 g3 g4 g5 g6 g7 g8 g9 g10 g11 g12 g13 g14 g15 flt fln ffr sta plc edd lab lbv opr acd akd agl len lin att stp fol skd snm snu byt ncn nsy nns nvs ntd lvs ltd (0 : Int32) opl owd oln okd ogl (upd (upd (upd olo ((0 : Int32)).toNatClampNeg (-2 : Int32)) ((1 : Int32)).toNatClampNeg (-2 : Int32)) ((2 : Int32)).toNatClampNeg (-2 : Int32)) TL) H := hP
  have hD : va_D A (aW cI cJ cZ cB g0 g1 g2 g3 g4 g5 g6 g7 g8 g9 g10 g11 g12 g13 g14 g15 flt fln ffr sta plc edd lab lbv opr acd akd agl len lin att stp fol skd snm snu byt ncn nsy nns nvs ntd lvs ltd (0 : Int32) opl owd oln okd ogl (upd (upd (upd olo ((0 : Int32)).toNatClampNeg (-2 : Int32)) ((1 : Int32)).toNatClampNeg (-2 : Int32)) ((2 : Int32)).toNatClampNeg (-2 : Int32)) TL) := hD
  refine lv_iinc (v := (3 : Int32)) (lv' := [(1, .int (3 : Int32)), (0, .ref g9)]) hx hb d_O_clear_24 hl (k := 0) rfl (by decide) (by decide) rfl (fun ls hl => ?_)
  refine lv_goto (tgt := 7) hx hb d_O_clear_27 (by decide) ?_
  refine lv_iload_n hx hb d_O_clear_7 rfl (lv_at hl 0 rfl) ?_
  refine lv_aload_n hx hb d_O_clear_8 rfl (lv_at hl 1 rfl) ?_
  refine va_get (D := D) (ci := 6) (v := .ref g15) (C := "SignMachine$Output") (T := F_O) (N := 7) hx hb hk fi_O hown hK.1 hP 9 rfl rfl 5 (by decide) (hk _ k_612) (fun _ h9 => h9) rfl d_O_clear_9 ?_
  refine va_alen (v := 10) hx hb hK.1 hP 15 0 rfl rfl rfl d_O_clear_12 ?_
  refine lv_icmp_ge (tgt := 30) hx hb d_O_clear_13 (by decide) (fun c4 => absurd c4 (by decide)) (fun c4 => ?_)
  refine lv_aload_n hx hb d_O_clear_16 rfl (lv_at hl 1 rfl) ?_
  refine va_get (D := D) (ci := 6) (v := .ref g15) (C := "SignMachine$Output") (T := F_O) (N := 7) hx hb hk fi_O hown hK.1 hP 9 rfl rfl 5 (by decide) (hk _ k_612) (fun _ h9 => h9) rfl d_O_clear_17 ?_
  refine lv_iload_n hx hb d_O_clear_20 rfl (lv_at hl 0 rfl) ?_
  refine lv_bipush (v := (-2)) hx hb d_O_clear_21 (by decide) ?_
  refine va_iast hx hb hK.1 hP hD hS 15 0 rfl rfl (by unfold vp_in; decide) d_O_clear_23 (fun H locs hP hD hS => ?_)
  have hP : va_P D classes (aW cI cJ cZ cB g0 g1 g2 g3 g4 g5 g6 g7 g8 g9 g10 g11 g12 g13 g14 g15 flt fln ffr sta plc edd lab lbv opr acd akd agl len lin att stp fol skd snm snu byt ncn nsy nns nvs ntd lvs ltd (0 : Int32) opl owd oln okd ogl (upd (upd (upd (upd olo ((0 : Int32)).toNatClampNeg (-2 : Int32)) ((1 : Int32)).toNatClampNeg (-2 : Int32)) ((2 : Int32)).toNatClampNeg (-2 : Int32)) ((3 : Int32)).toNatClampNeg (-2 : Int32)) TL) H := hP
  have hD : va_D A (aW cI cJ cZ cB g0 g1 g2 g3 g4 g5 g6 g7 g8 g9 g10 g11 g12 g13 g14 g15 flt fln ffr sta plc edd lab lbv opr acd akd agl len lin att stp fol skd snm snu byt ncn nsy nns nvs ntd lvs ltd (0 : Int32) opl owd oln okd ogl (upd (upd (upd (upd olo ((0 : Int32)).toNatClampNeg (-2 : Int32)) ((1 : Int32)).toNatClampNeg (-2 : Int32)) ((2 : Int32)).toNatClampNeg (-2 : Int32)) ((3 : Int32)).toNatClampNeg (-2 : Int32)) TL) := hD
  refine lv_iinc (v := (4 : Int32)) (lv' := [(1, .int (4 : Int32)), (0, .ref g9)]) hx hb d_O_clear_24 hl (k := 0) rfl (by decide) (by decide) rfl (fun ls hl => ?_)
  refine lv_goto (tgt := 7) hx hb d_O_clear_27 (by decide) ?_
  refine lv_iload_n hx hb d_O_clear_7 rfl (lv_at hl 0 rfl) ?_
  refine lv_aload_n hx hb d_O_clear_8 rfl (lv_at hl 1 rfl) ?_
  refine va_get (D := D) (ci := 6) (v := .ref g15) (C := "SignMachine$Output") (T := F_O) (N := 7) hx hb hk fi_O hown hK.1 hP 9 rfl rfl 5 (by decide) (hk _ k_612) (fun _ h9 => h9) rfl d_O_clear_9 ?_
  refine va_alen (v := 10) hx hb hK.1 hP 15 0 rfl rfl rfl d_O_clear_12 ?_
  refine lv_icmp_ge (tgt := 30) hx hb d_O_clear_13 (by decide) (fun c5 => absurd c5 (by decide)) (fun c5 => ?_)
  refine lv_aload_n hx hb d_O_clear_16 rfl (lv_at hl 1 rfl) ?_
  refine va_get (D := D) (ci := 6) (v := .ref g15) (C := "SignMachine$Output") (T := F_O) (N := 7) hx hb hk fi_O hown hK.1 hP 9 rfl rfl 5 (by decide) (hk _ k_612) (fun _ h9 => h9) rfl d_O_clear_17 ?_
  refine lv_iload_n hx hb d_O_clear_20 rfl (lv_at hl 0 rfl) ?_
  refine lv_bipush (v := (-2)) hx hb d_O_clear_21 (by decide) ?_
  refine va_iast hx hb hK.1 hP hD hS 15 0 rfl rfl (by unfold vp_in; decide) d_O_clear_23 (fun H locs hP hD hS => ?_)
  have hP : va_P D classes (aW cI cJ cZ cB g0 g1 g2 g3 g4 g5 g6 g7 g8 g9 g10 g11 g12 g13 g14 g15 flt fln ffr sta plc edd lab lbv opr acd akd agl len lin att stp fol skd snm snu byt ncn nsy nns nvs ntd lvs ltd (0 : Int32) opl owd oln okd ogl (upd (upd (upd (upd (upd olo ((0 : Int32)).toNatClampNeg (-2 : Int32)) ((1 : Int32)).toNatClampNeg (-2 : Int32)) ((2 : Int32)).toNatClampNeg (-2 : Int32)) ((3 : Int32)).toNatClampNeg (-2 : Int32)) ((4 : Int32)).toNatClampNeg (-2 : Int32)) TL) H := hP
  have hD : va_D A (aW cI cJ cZ cB g0 g1 g2 g3 g4 g5 g6 g7 g8 g9 g10 g11 g12 g13 g14 g15 flt fln ffr sta plc edd lab lbv opr acd akd agl len lin att stp fol skd snm snu byt ncn nsy nns nvs ntd lvs ltd (0 : Int32) opl owd oln okd ogl (upd (upd (upd (upd (upd olo ((0 : Int32)).toNatClampNeg (-2 : Int32)) ((1 : Int32)).toNatClampNeg (-2 : Int32)) ((2 : Int32)).toNatClampNeg (-2 : Int32)) ((3 : Int32)).toNatClampNeg (-2 : Int32)) ((4 : Int32)).toNatClampNeg (-2 : Int32)) TL) := hD
  refine lv_iinc (v := (5 : Int32)) (lv' := [(1, .int (5 : Int32)), (0, .ref g9)]) hx hb d_O_clear_24 hl (k := 0) rfl (by decide) (by decide) rfl (fun ls hl => ?_)
  refine lv_goto (tgt := 7) hx hb d_O_clear_27 (by decide) ?_
  refine lv_iload_n hx hb d_O_clear_7 rfl (lv_at hl 0 rfl) ?_
  refine lv_aload_n hx hb d_O_clear_8 rfl (lv_at hl 1 rfl) ?_
  refine va_get (D := D) (ci := 6) (v := .ref g15) (C := "SignMachine$Output") (T := F_O) (N := 7) hx hb hk fi_O hown hK.1 hP 9 rfl rfl 5 (by decide) (hk _ k_612) (fun _ h9 => h9) rfl d_O_clear_9 ?_
  refine va_alen (v := 10) hx hb hK.1 hP 15 0 rfl rfl rfl d_O_clear_12 ?_
  refine lv_icmp_ge (tgt := 30) hx hb d_O_clear_13 (by decide) (fun c6 => absurd c6 (by decide)) (fun c6 => ?_)
  refine lv_aload_n hx hb d_O_clear_16 rfl (lv_at hl 1 rfl) ?_
  refine va_get (D := D) (ci := 6) (v := .ref g15) (C := "SignMachine$Output") (T := F_O) (N := 7) hx hb hk fi_O hown hK.1 hP 9 rfl rfl 5 (by decide) (hk _ k_612) (fun _ h9 => h9) rfl d_O_clear_17 ?_
  refine lv_iload_n hx hb d_O_clear_20 rfl (lv_at hl 0 rfl) ?_
  refine lv_bipush (v := (-2)) hx hb d_O_clear_21 (by decide) ?_
  refine va_iast hx hb hK.1 hP hD hS 15 0 rfl rfl (by unfold vp_in; decide) d_O_clear_23 (fun H locs hP hD hS => ?_)
  have hP : va_P D classes (aW cI cJ cZ cB g0 g1 g2 g3 g4 g5 g6 g7 g8 g9 g10 g11 g12 g13 g14 g15 flt fln ffr sta plc edd lab lbv opr acd akd agl len lin att stp fol skd snm snu byt ncn nsy nns nvs ntd lvs ltd (0 : Int32) opl owd oln okd ogl (upd (upd (upd (upd (upd (upd olo ((0 : Int32)).toNatClampNeg (-2 : Int32)) ((1 : Int32)).toNatClampNeg (-2 : Int32)) ((2 : Int32)).toNatClampNeg (-2 : Int32)) ((3 : Int32)).toNatClampNeg (-2 : Int32)) ((4 : Int32)).toNatClampNeg (-2 : Int32)) ((5 : Int32)).toNatClampNeg (-2 : Int32)) TL) H := hP
  have hD : va_D A (aW cI cJ cZ cB g0 g1 g2 g3 g4 g5 g6 g7 g8 g9 g10 g11 g12 g13 g14 g15 flt fln ffr sta plc edd lab lbv opr acd akd agl len lin att stp fol skd snm snu byt ncn nsy nns nvs ntd lvs ltd (0 : Int32) opl owd oln okd ogl (upd (upd (upd (upd (upd (upd olo ((0 : Int32)).toNatClampNeg (-2 : Int32)) ((1 : Int32)).toNatClampNeg (-2 : Int32)) ((2 : Int32)).toNatClampNeg (-2 : Int32)) ((3 : Int32)).toNatClampNeg (-2 : Int32)) ((4 : Int32)).toNatClampNeg (-2 : Int32)) ((5 : Int32)).toNatClampNeg (-2 : Int32)) TL) := hD
  refine lv_iinc (v := (6 : Int32)) (lv' := [(1, .int (6 : Int32)), (0, .ref g9)]) hx hb d_O_clear_24 hl (k := 0) rfl (by decide) (by decide) rfl (fun ls hl => ?_)
  refine lv_goto (tgt := 7) hx hb d_O_clear_27 (by decide) ?_
  refine lv_iload_n hx hb d_O_clear_7 rfl (lv_at hl 0 rfl) ?_
  refine lv_aload_n hx hb d_O_clear_8 rfl (lv_at hl 1 rfl) ?_
  refine va_get (D := D) (ci := 6) (v := .ref g15) (C := "SignMachine$Output") (T := F_O) (N := 7) hx hb hk fi_O hown hK.1 hP 9 rfl rfl 5 (by decide) (hk _ k_612) (fun _ h9 => h9) rfl d_O_clear_9 ?_
  refine va_alen (v := 10) hx hb hK.1 hP 15 0 rfl rfl rfl d_O_clear_12 ?_
  refine lv_icmp_ge (tgt := 30) hx hb d_O_clear_13 (by decide) (fun c7 => absurd c7 (by decide)) (fun c7 => ?_)
  refine lv_aload_n hx hb d_O_clear_16 rfl (lv_at hl 1 rfl) ?_
  refine va_get (D := D) (ci := 6) (v := .ref g15) (C := "SignMachine$Output") (T := F_O) (N := 7) hx hb hk fi_O hown hK.1 hP 9 rfl rfl 5 (by decide) (hk _ k_612) (fun _ h9 => h9) rfl d_O_clear_17 ?_
  refine lv_iload_n hx hb d_O_clear_20 rfl (lv_at hl 0 rfl) ?_
  refine lv_bipush (v := (-2)) hx hb d_O_clear_21 (by decide) ?_
  refine va_iast hx hb hK.1 hP hD hS 15 0 rfl rfl (by unfold vp_in; decide) d_O_clear_23 (fun H locs hP hD hS => ?_)
  have hP : va_P D classes (aW cI cJ cZ cB g0 g1 g2 g3 g4 g5 g6 g7 g8 g9 g10 g11 g12 g13 g14 g15 flt fln ffr sta plc edd lab lbv opr acd akd agl len lin att stp fol skd snm snu byt ncn nsy nns nvs ntd lvs ltd (0 : Int32) opl owd oln okd ogl (upd (upd (upd (upd (upd (upd (upd olo ((0 : Int32)).toNatClampNeg (-2 : Int32)) ((1 : Int32)).toNatClampNeg (-2 : Int32)) ((2 : Int32)).toNatClampNeg (-2 : Int32)) ((3 : Int32)).toNatClampNeg (-2 : Int32)) ((4 : Int32)).toNatClampNeg (-2 : Int32)) ((5 : Int32)).toNatClampNeg (-2 : Int32)) ((6 : Int32)).toNatClampNeg (-2 : Int32)) TL) H := hP
  have hD : va_D A (aW cI cJ cZ cB g0 g1 g2 g3 g4 g5 g6 g7 g8 g9 g10 g11 g12 g13 g14 g15 flt fln ffr sta plc edd lab lbv opr acd akd agl len lin att stp fol skd snm snu byt ncn nsy nns nvs ntd lvs ltd (0 : Int32) opl owd oln okd ogl (upd (upd (upd (upd (upd (upd (upd olo ((0 : Int32)).toNatClampNeg (-2 : Int32)) ((1 : Int32)).toNatClampNeg (-2 : Int32)) ((2 : Int32)).toNatClampNeg (-2 : Int32)) ((3 : Int32)).toNatClampNeg (-2 : Int32)) ((4 : Int32)).toNatClampNeg (-2 : Int32)) ((5 : Int32)).toNatClampNeg (-2 : Int32)) ((6 : Int32)).toNatClampNeg (-2 : Int32)) TL) := hD
  refine lv_iinc (v := (7 : Int32)) (lv' := [(1, .int (7 : Int32)), (0, .ref g9)]) hx hb d_O_clear_24 hl (k := 0) rfl (by decide) (by decide) rfl (fun ls hl => ?_)
  refine lv_goto (tgt := 7) hx hb d_O_clear_27 (by decide) ?_
  refine lv_iload_n hx hb d_O_clear_7 rfl (lv_at hl 0 rfl) ?_
  refine lv_aload_n hx hb d_O_clear_8 rfl (lv_at hl 1 rfl) ?_
  refine va_get (D := D) (ci := 6) (v := .ref g15) (C := "SignMachine$Output") (T := F_O) (N := 7) hx hb hk fi_O hown hK.1 hP 9 rfl rfl 5 (by decide) (hk _ k_612) (fun _ h9 => h9) rfl d_O_clear_9 ?_
  refine va_alen (v := 10) hx hb hK.1 hP 15 0 rfl rfl rfl d_O_clear_12 ?_
  refine lv_icmp_ge (tgt := 30) hx hb d_O_clear_13 (by decide) (fun c8 => absurd c8 (by decide)) (fun c8 => ?_)
  refine lv_aload_n hx hb d_O_clear_16 rfl (lv_at hl 1 rfl) ?_
  refine va_get (D := D) (ci := 6) (v := .ref g15) (C := "SignMachine$Output") (T := F_O) (N := 7) hx hb hk fi_O hown hK.1 hP 9 rfl rfl 5 (by decide) (hk _ k_612) (fun _ h9 => h9) rfl d_O_clear_17 ?_
  refine lv_iload_n hx hb d_O_clear_20 rfl (lv_at hl 0 rfl) ?_
  refine lv_bipush (v := (-2)) hx hb d_O_clear_21 (by decide) ?_
  refine va_iast hx hb hK.1 hP hD hS 15 0 rfl rfl (by unfold vp_in; decide) d_O_clear_23 (fun H locs hP hD hS => ?_)
  have hP : va_P D classes (aW cI cJ cZ cB g0 g1 g2 g3 g4 g5 g6 g7 g8 g9 g10 g11 g12 g13 g14 g15 flt fln ffr sta plc edd lab lbv opr acd akd agl len lin att stp fol skd snm snu byt ncn nsy nns nvs ntd lvs ltd (0 : Int32) opl owd oln okd ogl (upd (upd (upd (upd (upd (upd (upd (upd olo ((0 : Int32)).toNatClampNeg (-2 : Int32)) ((1 : Int32)).toNatClampNeg (-2 : Int32)) ((2 : Int32)).toNatClampNeg (-2 : Int32)) ((3 : Int32)).toNatClampNeg (-2 : Int32)) ((4 : Int32)).toNatClampNeg (-2 : Int32)) ((5 : Int32)).toNatClampNeg (-2 : Int32)) ((6 : Int32)).toNatClampNeg (-2 : Int32)) ((7 : Int32)).toNatClampNeg (-2 : Int32)) TL) H := hP
  have hD : va_D A (aW cI cJ cZ cB g0 g1 g2 g3 g4 g5 g6 g7 g8 g9 g10 g11 g12 g13 g14 g15 flt fln ffr sta plc edd lab lbv opr acd akd agl len lin att stp fol skd snm snu byt ncn nsy nns nvs ntd lvs ltd (0 : Int32) opl owd oln okd ogl (upd (upd (upd (upd (upd (upd (upd (upd olo ((0 : Int32)).toNatClampNeg (-2 : Int32)) ((1 : Int32)).toNatClampNeg (-2 : Int32)) ((2 : Int32)).toNatClampNeg (-2 : Int32)) ((3 : Int32)).toNatClampNeg (-2 : Int32)) ((4 : Int32)).toNatClampNeg (-2 : Int32)) ((5 : Int32)).toNatClampNeg (-2 : Int32)) ((6 : Int32)).toNatClampNeg (-2 : Int32)) ((7 : Int32)).toNatClampNeg (-2 : Int32)) TL) := hD
  refine lv_iinc (v := (8 : Int32)) (lv' := [(1, .int (8 : Int32)), (0, .ref g9)]) hx hb d_O_clear_24 hl (k := 0) rfl (by decide) (by decide) rfl (fun ls hl => ?_)
  refine lv_goto (tgt := 7) hx hb d_O_clear_27 (by decide) ?_
  refine lv_iload_n hx hb d_O_clear_7 rfl (lv_at hl 0 rfl) ?_
  refine lv_aload_n hx hb d_O_clear_8 rfl (lv_at hl 1 rfl) ?_
  refine va_get (D := D) (ci := 6) (v := .ref g15) (C := "SignMachine$Output") (T := F_O) (N := 7) hx hb hk fi_O hown hK.1 hP 9 rfl rfl 5 (by decide) (hk _ k_612) (fun _ h9 => h9) rfl d_O_clear_9 ?_
  refine va_alen (v := 10) hx hb hK.1 hP 15 0 rfl rfl rfl d_O_clear_12 ?_
  refine lv_icmp_ge (tgt := 30) hx hb d_O_clear_13 (by decide) (fun c9 => absurd c9 (by decide)) (fun c9 => ?_)
  refine lv_aload_n hx hb d_O_clear_16 rfl (lv_at hl 1 rfl) ?_
  refine va_get (D := D) (ci := 6) (v := .ref g15) (C := "SignMachine$Output") (T := F_O) (N := 7) hx hb hk fi_O hown hK.1 hP 9 rfl rfl 5 (by decide) (hk _ k_612) (fun _ h9 => h9) rfl d_O_clear_17 ?_
  refine lv_iload_n hx hb d_O_clear_20 rfl (lv_at hl 0 rfl) ?_
  refine lv_bipush (v := (-2)) hx hb d_O_clear_21 (by decide) ?_
  refine va_iast hx hb hK.1 hP hD hS 15 0 rfl rfl (by unfold vp_in; decide) d_O_clear_23 (fun H locs hP hD hS => ?_)
  have hP : va_P D classes (aW cI cJ cZ cB g0 g1 g2 g3 g4 g5 g6 g7 g8 g9 g10 g11 g12 g13 g14 g15 flt fln ffr sta plc edd lab lbv opr acd akd agl len lin att stp fol skd snm snu byt ncn nsy nns nvs ntd lvs ltd (0 : Int32) opl owd oln okd ogl (upd (upd (upd (upd (upd (upd (upd (upd (upd olo ((0 : Int32)).toNatClampNeg (-2 : Int32)) ((1 : Int32)).toNatClampNeg (-2 : Int32)) ((2 : Int32)).toNatClampNeg (-2 : Int32)) ((3 : Int32)).toNatClampNeg (-2 : Int32)) ((4 : Int32)).toNatClampNeg (-2 : Int32)) ((5 : Int32)).toNatClampNeg (-2 : Int32)) ((6 : Int32)).toNatClampNeg (-2 : Int32)) ((7 : Int32)).toNatClampNeg (-2 : Int32)) ((8 : Int32)).toNatClampNeg (-2 : Int32)) TL) H := hP
  have hD : va_D A (aW cI cJ cZ cB g0 g1 g2 g3 g4 g5 g6 g7 g8 g9 g10 g11 g12 g13 g14 g15 flt fln ffr sta plc edd lab lbv opr acd akd agl len lin att stp fol skd snm snu byt ncn nsy nns nvs ntd lvs ltd (0 : Int32) opl owd oln okd ogl (upd (upd (upd (upd (upd (upd (upd (upd (upd olo ((0 : Int32)).toNatClampNeg (-2 : Int32)) ((1 : Int32)).toNatClampNeg (-2 : Int32)) ((2 : Int32)).toNatClampNeg (-2 : Int32)) ((3 : Int32)).toNatClampNeg (-2 : Int32)) ((4 : Int32)).toNatClampNeg (-2 : Int32)) ((5 : Int32)).toNatClampNeg (-2 : Int32)) ((6 : Int32)).toNatClampNeg (-2 : Int32)) ((7 : Int32)).toNatClampNeg (-2 : Int32)) ((8 : Int32)).toNatClampNeg (-2 : Int32)) TL) := hD
  refine lv_iinc (v := (9 : Int32)) (lv' := [(1, .int (9 : Int32)), (0, .ref g9)]) hx hb d_O_clear_24 hl (k := 0) rfl (by decide) (by decide) rfl (fun ls hl => ?_)
  refine lv_goto (tgt := 7) hx hb d_O_clear_27 (by decide) ?_
  refine lv_iload_n hx hb d_O_clear_7 rfl (lv_at hl 0 rfl) ?_
  refine lv_aload_n hx hb d_O_clear_8 rfl (lv_at hl 1 rfl) ?_
  refine va_get (D := D) (ci := 6) (v := .ref g15) (C := "SignMachine$Output") (T := F_O) (N := 7) hx hb hk fi_O hown hK.1 hP 9 rfl rfl 5 (by decide) (hk _ k_612) (fun _ h9 => h9) rfl d_O_clear_9 ?_
  refine va_alen (v := 10) hx hb hK.1 hP 15 0 rfl rfl rfl d_O_clear_12 ?_
  refine lv_icmp_ge (tgt := 30) hx hb d_O_clear_13 (by decide) (fun c10 => absurd c10 (by decide)) (fun c10 => ?_)
  refine lv_aload_n hx hb d_O_clear_16 rfl (lv_at hl 1 rfl) ?_
  refine va_get (D := D) (ci := 6) (v := .ref g15) (C := "SignMachine$Output") (T := F_O) (N := 7) hx hb hk fi_O hown hK.1 hP 9 rfl rfl 5 (by decide) (hk _ k_612) (fun _ h9 => h9) rfl d_O_clear_17 ?_
  refine lv_iload_n hx hb d_O_clear_20 rfl (lv_at hl 0 rfl) ?_
  refine lv_bipush (v := (-2)) hx hb d_O_clear_21 (by decide) ?_
  refine va_iast hx hb hK.1 hP hD hS 15 0 rfl rfl (by unfold vp_in; decide) d_O_clear_23 (fun H locs hP hD hS => ?_)
  have hP : va_P D classes (aW cI cJ cZ cB g0 g1 g2 g3 g4 g5 g6 g7 g8 g9 g10 g11 g12 g13 g14 g15 flt fln ffr sta plc edd lab lbv opr acd akd agl len lin att stp fol skd snm snu byt ncn nsy nns nvs ntd lvs ltd (0 : Int32) opl owd oln okd ogl (upd (upd (upd (upd (upd (upd (upd (upd (upd (upd olo ((0 : Int32)).toNatClampNeg (-2 : Int32)) ((1 : Int32)).toNatClampNeg (-2 : Int32)) ((2 : Int32)).toNatClampNeg (-2 : Int32)) ((3 : Int32)).toNatClampNeg (-2 : Int32)) ((4 : Int32)).toNatClampNeg (-2 : Int32)) ((5 : Int32)).toNatClampNeg (-2 : Int32)) ((6 : Int32)).toNatClampNeg (-2 : Int32)) ((7 : Int32)).toNatClampNeg (-2 : Int32)) ((8 : Int32)).toNatClampNeg (-2 : Int32)) ((9 : Int32)).toNatClampNeg (-2 : Int32)) TL) H := hP
  have hD : va_D A (aW cI cJ cZ cB g0 g1 g2 g3 g4 g5 g6 g7 g8 g9 g10 g11 g12 g13 g14 g15 flt fln ffr sta plc edd lab lbv opr acd akd agl len lin att stp fol skd snm snu byt ncn nsy nns nvs ntd lvs ltd (0 : Int32) opl owd oln okd ogl (upd (upd (upd (upd (upd (upd (upd (upd (upd (upd olo ((0 : Int32)).toNatClampNeg (-2 : Int32)) ((1 : Int32)).toNatClampNeg (-2 : Int32)) ((2 : Int32)).toNatClampNeg (-2 : Int32)) ((3 : Int32)).toNatClampNeg (-2 : Int32)) ((4 : Int32)).toNatClampNeg (-2 : Int32)) ((5 : Int32)).toNatClampNeg (-2 : Int32)) ((6 : Int32)).toNatClampNeg (-2 : Int32)) ((7 : Int32)).toNatClampNeg (-2 : Int32)) ((8 : Int32)).toNatClampNeg (-2 : Int32)) ((9 : Int32)).toNatClampNeg (-2 : Int32)) TL) := hD
  refine lv_iinc (v := (10 : Int32)) (lv' := [(1, .int (10 : Int32)), (0, .ref g9)]) hx hb d_O_clear_24 hl (k := 0) rfl (by decide) (by decide) rfl (fun ls hl => ?_)
  refine lv_goto (tgt := 7) hx hb d_O_clear_27 (by decide) ?_
  refine lv_iload_n hx hb d_O_clear_7 rfl (lv_at hl 0 rfl) ?_
  refine lv_aload_n hx hb d_O_clear_8 rfl (lv_at hl 1 rfl) ?_
  refine va_get (D := D) (ci := 6) (v := .ref g15) (C := "SignMachine$Output") (T := F_O) (N := 7) hx hb hk fi_O hown hK.1 hP 9 rfl rfl 5 (by decide) (hk _ k_612) (fun _ h9 => h9) rfl d_O_clear_9 ?_
  refine va_alen (v := 10) hx hb hK.1 hP 15 0 rfl rfl rfl d_O_clear_12 ?_
  refine lv_icmp_ge (tgt := 30) hx hb d_O_clear_13 (by decide) (fun c11 => ?_) (fun c11 => absurd (by decide) c11)
  exact W.vret hx hb hr (fun t ht hW => ⟨⟨((0 : Int32), (upd (upd (upd (upd (upd (upd (upd (upd (upd (upd olo ((0 : Int32)).toNatClampNeg (-2 : Int32)) ((1 : Int32)).toNatClampNeg (-2 : Int32)) ((2 : Int32)).toNatClampNeg (-2 : Int32)) ((3 : Int32)).toNatClampNeg (-2 : Int32)) ((4 : Int32)).toNatClampNeg (-2 : Int32)) ((5 : Int32)).toNatClampNeg (-2 : Int32)) ((6 : Int32)).toNatClampNeg (-2 : Int32)) ((7 : Int32)).toNatClampNeg (-2 : Int32)) ((8 : Int32)).toNatClampNeg (-2 : Int32)) ((9 : Int32)).toNatClampNeg (-2 : Int32))), rfl, by simp only [f_O_clear], by show va_P D classes _ t.heap; rw [ht]; exact hP⟩, hS.F ht⟩) hS.2.2 d_O_clear_30
theorem v_O_clear {R : Room} {s : State} {args : Array Value} {own : String} {index : Nat} (hk : ∀ w ∈ tb, w.before args s = true) (hl : Cond.methodLink own index y_O_clear ∈ tb) (hR : 0 + 1 ≤ R.frames ∧ 8 + (2 + 11) + 0 ≤ R.locals) : CallW R s args own "SignMachine$Output" index y_O_clear b_O_clear 2 none (.code y_O_clear b_O_clear 2 none :: tb) ({ frames := 0, cells := 0, slots := 0, locals := 0 }) 0 0 0 := mk_v 0 hk k_714 hl k_712 k_713 k_126 rfl rfl h_O_clear hR
def g_N_find (ncn : Int32) (nns : Nat → Int64) (a1 : Int64) : Nat → Nat → Int32
  | 0, _ => (0)
  | n + 1, k => (if ncn ≤ (nI k) then (-2 : Int32) else (if (100 : Int32) ≤ (nI k) then (-2 : Int32) else (if (lg_cmp (nns ((nI k)).toNatClampNeg) a1) = (0 : Int32) then (nI k) else (g_N_find ncn nns a1 n (k + 1) ))))
def f_N_find (ncn : Int32) (nns : Nat → Int64) (a1 : Int64) : Int32 := (g_N_find ncn nns a1 ((ncn).toInt.toNat + 1) 0 )
set_option maxHeartbeats 4000000 in
set_option maxRecDepth 100000 in
theorem c_N_find (l : Launch) (D : va_G) (cI cJ cZ cB : ClassId) (g0 g1 g2 g3 g4 g5 g6 g7 g8 g9 g10 g11 g12 g13 g14 g15 : Nat) (flt : Int32) (fln : Int32) (ffr : Int32) (sta : Int32) (plc : Int32) (edd : Int32) (lab : Int64) (lbv : Int32) (opr : Option Nat) (acd : Int32) (akd : Int32) (agl : Int32) (len : Int32) (lin : Int32) (att : Int32) (stp : Int32) (fol : Int32) (skd : Int32) (snm : Int64) (snu : Int32) (byt : Nat → Int32) (ncn : Int32) (nsy : Int32) (nns : Nat → Int64) (nvs : Nat → Int32) (ntd : Nat → Int32) (lvs : Nat → Int32) (ltd : Nat → Int32) (ocn : Int32) (opl : Nat → Int32) (owd : Nat → Int32) (oln : Nat → Int32) (okd : Nat → Int32) (ogl : Nat → Int32) (olo : Nat → Int32) (TL : va_W) (a1 : Int64)  : Met l y_N_find (.code y_N_find b_N_find 4 (some .int) :: tb) ({ frames := 0, cells := 0, slots := 0, locals := 0 }) (pR D cI cJ cZ cB (aW cI cJ cZ cB g0 g1 g2 g3 g4 g5 g6 g7 g8 g9 g10 g11 g12 g13 g14 g15 flt fln ffr sta plc edd lab lbv opr acd akd agl len lin att stp fol skd snm snu byt ncn nsy nns nvs ntd lvs ltd ocn opl owd oln okd ogl olo TL) [.ref g3, .long a1]) (vp_Si (fun r => r = f_N_find ncn nns a1)) 0 0 (fun _ => False) := by
  refine Met.ofW (cc := b_N_find) (maxL := 4) (ret := (some .int)) (by decide) rfl ?_
  intro p e s m args below meth c s₁ B hml hv
  obtain ⟨rfl, hK, hP⟩ := hv
  have hx := B.exec
  have hb := B.bytes
  have hr := B.returns
  have hts := atoms_spec (ws := .code y_N_find b_N_find 4 (some .int) :: tb) B.pre
  have hk : ∀ w ∈ tb, w.before [.ref g3, .long a1].toArray s = true := fun w h => hts w (List.mem_cons_of_mem _ h)
  have hown : s.vm.findClass "SignMachine$Names" = some m.cls := findClass_of_methodNamed B.named
  have hlocks := B.notSynchronized
  have hl := lv_entry ([.ref g3, .long a1]) (n := 4) (Nat.le_of_ble_eq_true rfl)
  rw [lg_entry_eq]
  generalize (lg_sl ([.ref g3, .long a1]) ++ List.replicate (4 - (lg_sl ([.ref g3, .long a1])).length) Slot.unset).toArray = ls at hl ⊢
  have hl : lv_has ls 4 [(0, .ref g3), (1, .long a1)] := hl
  generalize hXe : f_N_find ncn nns a1 = X
  refine lv_iconst (v := 0) hx hb d_N_find_0 (by decide) ?_
  refine lv_istore_n (lv' := [(3, .int (0 : Int32)), (0, .ref g3), (1, .long a1)]) hx hb d_N_find_1 rfl hl (by decide) rfl (fun ls hl => ?_)
  have LP : ∀ (n k : Nat)   (ls : Array Slot), k ≤ (ncn).toInt.toNat → (ncn).toInt.toNat - k < n → X = g_N_find ncn nns a1 n k  → lv_has ls 4 [(3, .int (nI k)), (0, .ref g3), (1, .long a1)] → W p l e ({ frames := 0, cells := 0, slots := 0, locals := 0 }) s m [.ref g3, .long a1].toArray below meth c s.heap [] 0 0 (MQ below (vp_Si (fun r => r = X)) [.ref g3, .long a1].toArray s 0 0 (fun _ => False)) (F0 m 2 ls []) := by
    intro n
    induction n with
    | zero => intro k  ls hk1 hn1; exact absurd hn1 (Nat.not_lt_zero _)
    | succ n ih =>
      intro k  ls hk1 hn1 hX hl
      refine lv_iload_n hx hb d_N_find_2 rfl (lv_at hl 0 rfl) ?_
      refine lv_aload_n hx hb d_N_find_3 rfl (lv_at hl 1 rfl) ?_
      refine va_get (D := D) (ci := 5) (v := .int ncn) (C := "SignMachine$Names") (T := F_N) (N := 7) hx hb hk fi_N hown hK.1 hP 3 rfl rfl 5 (by decide) (hk _ k_581) (fun _ h9 => h9) rfl d_N_find_4 ?_
      refine lv_icmp_ge (tgt := 35) hx hb d_N_find_7 (by decide) (fun c1 => ?_) (fun c1 => ?_)
      · refine lv_bipush (v := (-2)) hx hb d_N_find_35 (by decide) ?_
        exact W.iret (v := (-2 : Int32)) hx hb hr (fun t ht hW => ⟨(-2 : Int32), rfl, by rw [hX]; simp only [g_N_find, if_pos c1], ht⟩) (fun q h => absurd h List.not_mem_nil) d_N_find_37
      · refine lv_iload_n hx hb d_N_find_10 rfl (lv_at hl 0 rfl) ?_
        refine lv_bipush (v := 100) hx hb d_N_find_11 (by decide) ?_
        refine lv_icmp_ge (tgt := 35) hx hb d_N_find_13 (by decide) (fun c2 => ?_) (fun c2 => ?_)
        · refine lv_bipush (v := (-2)) hx hb d_N_find_35 (by decide) ?_
          exact W.iret (v := (-2 : Int32)) hx hb hr (fun t ht hW => ⟨(-2 : Int32), rfl, by rw [hX]; simp only [g_N_find, if_neg c1, if_pos c2], ht⟩) (fun q h => absurd h List.not_mem_nil) d_N_find_37
        · refine lv_aload_n hx hb d_N_find_16 rfl (lv_at hl 1 rfl) ?_
          refine va_get (D := D) (ci := 5) (v := .ref g4) (C := "SignMachine$Names") (T := F_N) (N := 7) hx hb hk fi_N hown hK.1 hP 3 rfl rfl 0 (by decide) (hk _ k_576) (fun _ h9 => h9) rfl d_N_find_17 ?_
          refine lv_iload_n hx hb d_N_find_20 rfl (lv_at hl 0 rfl) ?_
          refine va_lald hx hb hK.1 hP 4 1 rfl rfl (vpinK hk1 c2 rfl) d_N_find_21 ?_
          refine lv_lload_n hx hb d_N_find_22 rfl (lv_at hl 2 rfl) ?_
          refine W.lcmp hx hb d_N_find_23 ?_
          refine lv_if_ne (tgt := 29) hx hb d_N_find_24 (by decide) (fun c3 => ?_) (fun c3 => ?_)
          · refine lv_iinc (v := (nI (k + 1))) (lv' := [(3, .int (nI (k + 1))), (0, .ref g3), (1, .long a1)]) hx hb d_N_find_29 hl (k := 0) rfl (nI_1 k) (by decide) rfl (fun ls hl => ?_)
            refine lv_goto (tgt := 2) hx hb d_N_find_32 (by decide) ?_
            exact ih (k + 1)  ls (lp_step hn1 hk1 c1).2 (lp_step hn1 hk1 c1).1 (by rw [hX]; simp only [g_N_find, if_neg c1, if_neg c2, if_neg c3]) (lv_sub hl [0, 1, 2] rfl)
          · refine lv_iload_n hx hb d_N_find_27 rfl (lv_at hl 0 rfl) ?_
            exact W.iret (v := (nI k)) hx hb hr (fun t ht hW => ⟨(nI k), rfl, by rw [hX]; simp only [g_N_find, if_neg c1, if_neg c2, if_pos c3], ht⟩) (fun q h => absurd h List.not_mem_nil) d_N_find_28
  exact LP ((ncn).toInt.toNat + 1) 0  ls (Nat.zero_le _) (by omega) (by rw [← hXe]; simp only [f_N_find]) (lv_sub hl [0, 1, 2] rfl)
theorem v_N_find {R : Room} {s : State} {args : Array Value} {own : String} {index : Nat} (hk : ∀ w ∈ tb, w.before args s = true) (hl : Cond.methodLink own index y_N_find ∈ tb) (hR : 0 + 1 ≤ R.frames ∧ 8 + (4 + 11) + 0 ≤ R.locals) : CallW R s args own "SignMachine$Names" index y_N_find b_N_find 4 (some .int) (.code y_N_find b_N_find 4 (some .int) :: tb) ({ frames := 0, cells := 0, slots := 0, locals := 0 }) 0 0 1 := mk_v 1 hk k_927 hl k_925 k_926 k_125 rfl rfl h_N_find hR
def g_R_skipBlanks (stp : Int32) (byt : Nat → Int32) : Nat → Nat → (Int32) → (Int32)
  | 0, _, att => (att)
  | n + 1, k, att => (if (4000 : Int32) ≤ (nI k) then (att) else (if (f_R_peek att stp byt ) = (32 : Int32) then (g_R_skipBlanks stp byt n (k + 1) (att + (1 : Int32))) else (att)))
def f_R_skipBlanks (att : Int32) (stp : Int32) (byt : Nat → Int32)  : (Int32) := (g_R_skipBlanks stp byt (((4000 : Int32)).toInt.toNat + 1) 0 att)
set_option maxHeartbeats 4000000 in
set_option maxRecDepth 100000 in
theorem c_R_skipBlanks (l : Launch) (D : va_G) (cI cJ cZ cB : ClassId) (g0 g1 g2 g3 g4 g5 g6 g7 g8 g9 g10 g11 g12 g13 g14 g15 : Nat) (sz : Nat) (flt : Int32) (fln : Int32) (ffr : Int32) (sta : Int32) (plc : Int32) (edd : Int32) (lab : Int64) (lbv : Int32) (opr : Option Nat) (acd : Int32) (akd : Int32) (agl : Int32) (len : Int32) (lin : Int32) (att : Int32) (stp : Int32) (fol : Int32) (skd : Int32) (snm : Int64) (snu : Int32) (byt : Nat → Int32) (ncn : Int32) (nsy : Int32) (nns : Nat → Int64) (nvs : Nat → Int32) (ntd : Nat → Int32) (lvs : Nat → Int32) (ltd : Nat → Int32) (ocn : Int32) (opl : Nat → Int32) (owd : Nat → Int32) (oln : Nat → Int32) (okd : Nat → Int32) (ogl : Nat → Int32) (olo : Nat → Int32) (TL : va_W)  : Met l y_R_skipBlanks (.code y_R_skipBlanks b_R_skipBlanks 2 none :: tb) ({ frames := 1, cells := 0, slots := 0, locals := 20 }) (pM D cI cJ cZ cB (aW cI cJ cZ cB g0 g1 g2 g3 g4 g5 g6 g7 g8 g9 g10 g11 g12 g13 g14 g15 flt fln ffr sta plc edd lab lbv opr acd akd agl len lin att stp fol skd snm snu byt ncn nsy nns nvs ntd lvs ltd ocn opl owd oln okd ogl olo TL) sz [.ref g1]) (qV D (fun u => u = f_R_skipBlanks att stp byt) (fun (u : (Int32)) => match u with | u_att => (aW cI cJ cZ cB g0 g1 g2 g3 g4 g5 g6 g7 g8 g9 g10 g11 g12 g13 g14 g15 flt fln ffr sta plc edd lab lbv opr acd akd agl len lin u_att stp fol skd snm snu byt ncn nsy nns nvs ntd lvs ltd ocn opl owd oln okd ogl olo TL)) (va_A (aW cI cJ cZ cB g0 g1 g2 g3 g4 g5 g6 g7 g8 g9 g10 g11 g12 g13 g14 g15 flt fln ffr sta plc edd lab lbv opr acd akd agl len lin att stp fol skd snm snu byt ncn nsy nns nvs ntd lvs ltd ocn opl owd oln okd ogl olo TL) sz)) 0 0 (va_A (aW cI cJ cZ cB g0 g1 g2 g3 g4 g5 g6 g7 g8 g9 g10 g11 g12 g13 g14 g15 flt fln ffr sta plc edd lab lbv opr acd akd agl len lin att stp fol skd snm snu byt ncn nsy nns nvs ntd lvs ltd ocn opl owd oln okd ogl olo TL) sz) := by
  refine Met.ofW (cc := b_R_skipBlanks) (maxL := 2) (ret := none) (by decide) rfl ?_
  intro p e s m args below meth c s₁ B hml hv
  obtain ⟨rfl, hsz, hK, hP, hD0⟩ := hv
  subst hsz
  have hD := hD0.self (sz := s.heap.size)
  generalize hAe : va_A (aW cI cJ cZ cB g0 g1 g2 g3 g4 g5 g6 g7 g8 g9 g10 g11 g12 g13 g14 g15 flt fln ffr sta plc edd lab lbv opr acd akd agl len lin att stp fol skd snm snu byt ncn nsy nns nvs ntd lvs ltd ocn opl owd oln okd ogl olo TL) s.heap.size = A at hD ⊢
  have hA : ∀ q : Nat, s.heap.size ≤ q → A q := fun q h => by rw [← hAe]; exact Or.inr h
  have hS : va_S A s.heap s.heap [] := va_S.rf
  have hx := B.exec
  have hb := B.bytes
  have hr := B.returns
  have hts := atoms_spec (ws := .code y_R_skipBlanks b_R_skipBlanks 2 none :: tb) B.pre
  have hk : ∀ w ∈ tb, w.before [.ref g1].toArray s = true := fun w h => hts w (List.mem_cons_of_mem _ h)
  have hown : s.vm.findClass "SignMachine$Source" = some m.cls := findClass_of_methodNamed B.named
  have hlocks := B.notSynchronized
  have hl := lv_entry ([.ref g1]) (n := 2) (Nat.le_of_ble_eq_true rfl)
  rw [lg_entry_eq]
  generalize (lg_sl ([.ref g1]) ++ List.replicate (2 - (lg_sl ([.ref g1])).length) Slot.unset).toArray = ls at hl ⊢
  have hl : lv_has ls 2 [(0, .ref g1)] := hl
  generalize hXe : f_R_skipBlanks att stp byt = X
  refine lv_iconst (v := 0) hx hb d_R_skipBlanks_0 (by decide) ?_
  refine lv_istore_n (lv' := [(1, .int (0 : Int32)), (0, .ref g1)]) hx hb d_R_skipBlanks_1 rfl hl (by decide) rfl (fun ls hl => ?_)
  have LP : ∀ (n k : Nat)  (att : Int32) (H : Heap) (locs : List Loc) (ls : Array Slot), k ≤ ((4000 : Int32)).toInt.toNat → ((4000 : Int32)).toInt.toNat - k < n → X = g_R_skipBlanks stp byt n k att → va_P D classes (aW cI cJ cZ cB g0 g1 g2 g3 g4 g5 g6 g7 g8 g9 g10 g11 g12 g13 g14 g15 flt fln ffr sta plc edd lab lbv opr acd akd agl len lin att stp fol skd snm snu byt ncn nsy nns nvs ntd lvs ltd ocn opl owd oln okd ogl olo TL) H → va_D A (aW cI cJ cZ cB g0 g1 g2 g3 g4 g5 g6 g7 g8 g9 g10 g11 g12 g13 g14 g15 flt fln ffr sta plc edd lab lbv opr acd akd agl len lin att stp fol skd snm snu byt ncn nsy nns nvs ntd lvs ltd ocn opl owd oln okd ogl olo TL) → va_S A s.heap H locs → lv_has ls 2 [(1, .int (nI k)), (0, .ref g1)] → W p l e ({ frames := 1, cells := 0, slots := 0, locals := 20 }) s m [.ref g1].toArray below meth c H locs 0 0 (MQ below (qV D (fun u => u = X) (fun (u : (Int32)) => match u with | u_att => (aW cI cJ cZ cB g0 g1 g2 g3 g4 g5 g6 g7 g8 g9 g10 g11 g12 g13 g14 g15 flt fln ffr sta plc edd lab lbv opr acd akd agl len lin u_att stp fol skd snm snu byt ncn nsy nns nvs ntd lvs ltd ocn opl owd oln okd ogl olo TL)) A) [.ref g1].toArray s 0 0 A) (F0 m 2 ls []) := by
    intro n
    induction n with
    | zero => intro k att H locs ls hk1 hn1; exact absurd hn1 (Nat.not_lt_zero _)
    | succ n ih =>
      intro k att H locs ls hk1 hn1 hX hP hD hS hl
      refine lv_iload_n hx hb d_R_skipBlanks_2 rfl (lv_at hl 0 rfl) ?_
      refine lv_sipush (v := 4000) hx hb d_R_skipBlanks_3 (by decide) ?_
      refine lv_icmp_ge (tgt := 34) hx hb d_R_skipBlanks_6 (by decide) (fun c1 => ?_) (fun c1 => ?_)
      · exact W.vret hx hb hr (fun t ht hW => ⟨⟨(att), rfl, by rw [hX]; simp only [g_R_skipBlanks, if_pos c1], by show va_P D classes _ t.heap; rw [ht]; exact hP⟩, hS.F ht⟩) hS.2.2 d_R_skipBlanks_34
      · refine lv_aload_n hx hb d_R_skipBlanks_9 rfl (lv_at hl 1 rfl) ?_
        refine cs_i (W.runV (C := "SignMachine$Source") (As := []) (rest := []) ⟨hx, hb, hml, hown, hk⟩ (c_R_peek l D cI cJ cZ cB g0 g1 g2 g3 g4 g5 g6 g7 g8 g9 g10 g11 g12 g13 g14 g15 flt fln ffr sta plc edd lab lbv opr acd akd agl len lin att stp fol skd snm snu byt ncn nsy nns nvs ntd lvs ltd ocn opl owd oln okd ogl olo TL ) (v_R_peek hk k_747 ⟨Nat.le_of_ble_eq_true rfl, Nat.le_of_ble_eq_true rfl⟩) (pR_v hK hP (ci := 4) (q0 := 1) rfl rfl rfl) rfl rfl hl.1 rfl (lv_room (Nat.le_of_ble_eq_true rfl)) d_R_skipBlanks_10 ⟨Nat.le_of_ble_eq_true rfl, Nat.le_of_ble_eq_true rfl⟩) ?_
        refine lv_bipush (v := 32) hx hb d_R_skipBlanks_13 (by decide) ?_
        refine lv_icmp_ne (tgt := 34) hx hb d_R_skipBlanks_15 (by decide) (fun c2 => ?_) (fun c2 => ?_)
        · exact W.vret hx hb hr (fun t ht hW => ⟨⟨(att), rfl, by rw [hX]; simp only [g_R_skipBlanks, if_neg c1, if_neg c2], by show va_P D classes _ t.heap; rw [ht]; exact hP⟩, hS.F ht⟩) hS.2.2 d_R_skipBlanks_34
        · refine lv_aload_n hx hb d_R_skipBlanks_18 rfl (lv_at hl 1 rfl) ?_
          refine lv_dup hx hb d_R_skipBlanks_19 rfl ?_
          refine va_get (D := D) (ci := 4) (v := .int att) (C := "SignMachine$Source") (T := F_R) (N := 9) hx hb hk fi_R hown hK.1 hP 1 rfl rfl 3 (by decide) (hk _ k_540) (fun _ h9 => h9) rfl d_R_skipBlanks_20 ?_
          refine lv_iconst (v := 1) hx hb d_R_skipBlanks_23 (by decide) ?_
          refine lv_iadd hx hb d_R_skipBlanks_24 ?_
          refine va_put (D := D) (ci := 4) (v := .int (att + (1 : Int32))) (ty := .int) (C := "SignMachine$Source") (T := F_R) (N := 9) hx hb hk fi_R ft_R ft_R_ok fn_R hown hK.1 hP hD hS 1 rfl rfl 3 (by decide) (hk _ k_540) (fun _ h9 => h9) rfl (by decide +kernel) rfl rfl (Nat.le_of_ble_eq_true rfl) d_R_skipBlanks_25 (fun H locs hP hD hS => ?_)
          have hP : va_P D classes (aW cI cJ cZ cB g0 g1 g2 g3 g4 g5 g6 g7 g8 g9 g10 g11 g12 g13 g14 g15 flt fln ffr sta plc edd lab lbv opr acd akd agl len lin (att + (1 : Int32)) stp fol skd snm snu byt ncn nsy nns nvs ntd lvs ltd ocn opl owd oln okd ogl olo TL) H := hP
          have hD : va_D A (aW cI cJ cZ cB g0 g1 g2 g3 g4 g5 g6 g7 g8 g9 g10 g11 g12 g13 g14 g15 flt fln ffr sta plc edd lab lbv opr acd akd agl len lin (att + (1 : Int32)) stp fol skd snm snu byt ncn nsy nns nvs ntd lvs ltd ocn opl owd oln okd ogl olo TL) := hD
          refine lv_iinc (v := (nI (k + 1))) (lv' := [(1, .int (nI (k + 1))), (0, .ref g1)]) hx hb d_R_skipBlanks_28 hl (k := 0) rfl (nI_1 k) (by decide) rfl (fun ls hl => ?_)
          refine lv_goto (tgt := 2) hx hb d_R_skipBlanks_31 (by decide) ?_
          exact ih (k + 1) (att + (1 : Int32)) H _ ls (lp_step hn1 hk1 c1).2 (lp_step hn1 hk1 c1).1 (by rw [hX]; simp only [g_R_skipBlanks, if_neg c1, if_pos c2]) hP hD hS (lv_sub hl [0, 1] rfl)
  exact LP (((4000 : Int32)).toInt.toNat + 1) 0 att s.heap _ ls (Nat.zero_le _) (by omega) (by rw [← hXe]; simp only [f_R_skipBlanks]) hP hD hS (lv_sub hl [0, 1] rfl)
theorem v_R_skipBlanks {R : Room} {s : State} {args : Array Value} {own : String} {index : Nat} (hk : ∀ w ∈ tb, w.before args s = true) (hl : Cond.methodLink own index y_R_skipBlanks ∈ tb) (hR : 1 + 1 ≤ R.frames ∧ 8 + (2 + 11) + 20 ≤ R.locals) : CallW R s args own "SignMachine$Source" index y_R_skipBlanks b_R_skipBlanks 2 none (.code y_R_skipBlanks b_R_skipBlanks 2 none :: tb) ({ frames := 1, cells := 0, slots := 0, locals := 20 }) 0 0 0 := mk_v 0 hk k_746 hl k_744 k_745 k_124 rfl rfl h_R_skipBlanks hR
def g_R_skipToBlank (stp : Int32) (byt : Nat → Int32) : Nat → Nat → (Int32) → (Int32)
  | 0, _, att => (att)
  | n + 1, k, att => (if (4000 : Int32) ≤ (nI k) then (att) else (if (f_R_peek att stp byt ) = (32 : Int32) then (att) else (if (f_R_peek att stp byt ) = (-1 : Int32) then (att) else (g_R_skipToBlank stp byt n (k + 1) (att + (1 : Int32))))))
def f_R_skipToBlank (att : Int32) (stp : Int32) (byt : Nat → Int32)  : (Int32) := (g_R_skipToBlank stp byt (((4000 : Int32)).toInt.toNat + 1) 0 att)
set_option maxHeartbeats 4000000 in
set_option maxRecDepth 100000 in
theorem c_R_skipToBlank (l : Launch) (D : va_G) (cI cJ cZ cB : ClassId) (g0 g1 g2 g3 g4 g5 g6 g7 g8 g9 g10 g11 g12 g13 g14 g15 : Nat) (sz : Nat) (flt : Int32) (fln : Int32) (ffr : Int32) (sta : Int32) (plc : Int32) (edd : Int32) (lab : Int64) (lbv : Int32) (opr : Option Nat) (acd : Int32) (akd : Int32) (agl : Int32) (len : Int32) (lin : Int32) (att : Int32) (stp : Int32) (fol : Int32) (skd : Int32) (snm : Int64) (snu : Int32) (byt : Nat → Int32) (ncn : Int32) (nsy : Int32) (nns : Nat → Int64) (nvs : Nat → Int32) (ntd : Nat → Int32) (lvs : Nat → Int32) (ltd : Nat → Int32) (ocn : Int32) (opl : Nat → Int32) (owd : Nat → Int32) (oln : Nat → Int32) (okd : Nat → Int32) (ogl : Nat → Int32) (olo : Nat → Int32) (TL : va_W)  : Met l y_R_skipToBlank (.code y_R_skipToBlank b_R_skipToBlank 2 none :: tb) ({ frames := 1, cells := 0, slots := 0, locals := 20 }) (pM D cI cJ cZ cB (aW cI cJ cZ cB g0 g1 g2 g3 g4 g5 g6 g7 g8 g9 g10 g11 g12 g13 g14 g15 flt fln ffr sta plc edd lab lbv opr acd akd agl len lin att stp fol skd snm snu byt ncn nsy nns nvs ntd lvs ltd ocn opl owd oln okd ogl olo TL) sz [.ref g1]) (qV D (fun u => u = f_R_skipToBlank att stp byt) (fun (u : (Int32)) => match u with | u_att => (aW cI cJ cZ cB g0 g1 g2 g3 g4 g5 g6 g7 g8 g9 g10 g11 g12 g13 g14 g15 flt fln ffr sta plc edd lab lbv opr acd akd agl len lin u_att stp fol skd snm snu byt ncn nsy nns nvs ntd lvs ltd ocn opl owd oln okd ogl olo TL)) (va_A (aW cI cJ cZ cB g0 g1 g2 g3 g4 g5 g6 g7 g8 g9 g10 g11 g12 g13 g14 g15 flt fln ffr sta plc edd lab lbv opr acd akd agl len lin att stp fol skd snm snu byt ncn nsy nns nvs ntd lvs ltd ocn opl owd oln okd ogl olo TL) sz)) 0 0 (va_A (aW cI cJ cZ cB g0 g1 g2 g3 g4 g5 g6 g7 g8 g9 g10 g11 g12 g13 g14 g15 flt fln ffr sta plc edd lab lbv opr acd akd agl len lin att stp fol skd snm snu byt ncn nsy nns nvs ntd lvs ltd ocn opl owd oln okd ogl olo TL) sz) := by
  refine Met.ofW (cc := b_R_skipToBlank) (maxL := 2) (ret := none) (by decide) rfl ?_
  intro p e s m args below meth c s₁ B hml hv
  obtain ⟨rfl, hsz, hK, hP, hD0⟩ := hv
  subst hsz
  have hD := hD0.self (sz := s.heap.size)
  generalize hAe : va_A (aW cI cJ cZ cB g0 g1 g2 g3 g4 g5 g6 g7 g8 g9 g10 g11 g12 g13 g14 g15 flt fln ffr sta plc edd lab lbv opr acd akd agl len lin att stp fol skd snm snu byt ncn nsy nns nvs ntd lvs ltd ocn opl owd oln okd ogl olo TL) s.heap.size = A at hD ⊢
  have hA : ∀ q : Nat, s.heap.size ≤ q → A q := fun q h => by rw [← hAe]; exact Or.inr h
  have hS : va_S A s.heap s.heap [] := va_S.rf
  have hx := B.exec
  have hb := B.bytes
  have hr := B.returns
  have hts := atoms_spec (ws := .code y_R_skipToBlank b_R_skipToBlank 2 none :: tb) B.pre
  have hk : ∀ w ∈ tb, w.before [.ref g1].toArray s = true := fun w h => hts w (List.mem_cons_of_mem _ h)
  have hown : s.vm.findClass "SignMachine$Source" = some m.cls := findClass_of_methodNamed B.named
  have hlocks := B.notSynchronized
  have hl := lv_entry ([.ref g1]) (n := 2) (Nat.le_of_ble_eq_true rfl)
  rw [lg_entry_eq]
  generalize (lg_sl ([.ref g1]) ++ List.replicate (2 - (lg_sl ([.ref g1])).length) Slot.unset).toArray = ls at hl ⊢
  have hl : lv_has ls 2 [(0, .ref g1)] := hl
  generalize hXe : f_R_skipToBlank att stp byt = X
  refine lv_iconst (v := 0) hx hb d_R_skipToBlank_0 (by decide) ?_
  refine lv_istore_n (lv' := [(1, .int (0 : Int32)), (0, .ref g1)]) hx hb d_R_skipToBlank_1 rfl hl (by decide) rfl (fun ls hl => ?_)
  have LP : ∀ (n k : Nat)  (att : Int32) (H : Heap) (locs : List Loc) (ls : Array Slot), k ≤ ((4000 : Int32)).toInt.toNat → ((4000 : Int32)).toInt.toNat - k < n → X = g_R_skipToBlank stp byt n k att → va_P D classes (aW cI cJ cZ cB g0 g1 g2 g3 g4 g5 g6 g7 g8 g9 g10 g11 g12 g13 g14 g15 flt fln ffr sta plc edd lab lbv opr acd akd agl len lin att stp fol skd snm snu byt ncn nsy nns nvs ntd lvs ltd ocn opl owd oln okd ogl olo TL) H → va_D A (aW cI cJ cZ cB g0 g1 g2 g3 g4 g5 g6 g7 g8 g9 g10 g11 g12 g13 g14 g15 flt fln ffr sta plc edd lab lbv opr acd akd agl len lin att stp fol skd snm snu byt ncn nsy nns nvs ntd lvs ltd ocn opl owd oln okd ogl olo TL) → va_S A s.heap H locs → lv_has ls 2 [(1, .int (nI k)), (0, .ref g1)] → W p l e ({ frames := 1, cells := 0, slots := 0, locals := 20 }) s m [.ref g1].toArray below meth c H locs 0 0 (MQ below (qV D (fun u => u = X) (fun (u : (Int32)) => match u with | u_att => (aW cI cJ cZ cB g0 g1 g2 g3 g4 g5 g6 g7 g8 g9 g10 g11 g12 g13 g14 g15 flt fln ffr sta plc edd lab lbv opr acd akd agl len lin u_att stp fol skd snm snu byt ncn nsy nns nvs ntd lvs ltd ocn opl owd oln okd ogl olo TL)) A) [.ref g1].toArray s 0 0 A) (F0 m 2 ls []) := by
    intro n
    induction n with
    | zero => intro k att H locs ls hk1 hn1; exact absurd hn1 (Nat.not_lt_zero _)
    | succ n ih =>
      intro k att H locs ls hk1 hn1 hX hP hD hS hl
      refine lv_iload_n hx hb d_R_skipToBlank_2 rfl (lv_at hl 0 rfl) ?_
      refine lv_sipush (v := 4000) hx hb d_R_skipToBlank_3 (by decide) ?_
      refine lv_icmp_ge (tgt := 42) hx hb d_R_skipToBlank_6 (by decide) (fun c1 => ?_) (fun c1 => ?_)
      · exact W.vret hx hb hr (fun t ht hW => ⟨⟨(att), rfl, by rw [hX]; simp only [g_R_skipToBlank, if_pos c1], by show va_P D classes _ t.heap; rw [ht]; exact hP⟩, hS.F ht⟩) hS.2.2 d_R_skipToBlank_42
      · refine lv_aload_n hx hb d_R_skipToBlank_9 rfl (lv_at hl 1 rfl) ?_
        refine cs_i (W.runV (C := "SignMachine$Source") (As := []) (rest := []) ⟨hx, hb, hml, hown, hk⟩ (c_R_peek l D cI cJ cZ cB g0 g1 g2 g3 g4 g5 g6 g7 g8 g9 g10 g11 g12 g13 g14 g15 flt fln ffr sta plc edd lab lbv opr acd akd agl len lin att stp fol skd snm snu byt ncn nsy nns nvs ntd lvs ltd ocn opl owd oln okd ogl olo TL ) (v_R_peek hk k_747 ⟨Nat.le_of_ble_eq_true rfl, Nat.le_of_ble_eq_true rfl⟩) (pR_v hK hP (ci := 4) (q0 := 1) rfl rfl rfl) rfl rfl hl.1 rfl (lv_room (Nat.le_of_ble_eq_true rfl)) d_R_skipToBlank_10 ⟨Nat.le_of_ble_eq_true rfl, Nat.le_of_ble_eq_true rfl⟩) ?_
        refine lv_bipush (v := 32) hx hb d_R_skipToBlank_13 (by decide) ?_
        refine lv_icmp_eq (tgt := 42) hx hb d_R_skipToBlank_15 (by decide) (fun c2 => ?_) (fun c2 => ?_)
        · exact W.vret hx hb hr (fun t ht hW => ⟨⟨(att), rfl, by rw [hX]; simp only [g_R_skipToBlank, if_neg c1, if_pos c2], by show va_P D classes _ t.heap; rw [ht]; exact hP⟩, hS.F ht⟩) hS.2.2 d_R_skipToBlank_42
        · refine lv_aload_n hx hb d_R_skipToBlank_18 rfl (lv_at hl 1 rfl) ?_
          refine cs_i (W.runV (C := "SignMachine$Source") (As := []) (rest := []) ⟨hx, hb, hml, hown, hk⟩ (c_R_peek l D cI cJ cZ cB g0 g1 g2 g3 g4 g5 g6 g7 g8 g9 g10 g11 g12 g13 g14 g15 flt fln ffr sta plc edd lab lbv opr acd akd agl len lin att stp fol skd snm snu byt ncn nsy nns nvs ntd lvs ltd ocn opl owd oln okd ogl olo TL ) (v_R_peek hk k_747 ⟨Nat.le_of_ble_eq_true rfl, Nat.le_of_ble_eq_true rfl⟩) (pR_v hK hP (ci := 4) (q0 := 1) rfl rfl rfl) rfl rfl hl.1 rfl (lv_room (Nat.le_of_ble_eq_true rfl)) d_R_skipToBlank_19 ⟨Nat.le_of_ble_eq_true rfl, Nat.le_of_ble_eq_true rfl⟩) ?_
          refine lv_iconst (v := (-1)) hx hb d_R_skipToBlank_22 (by decide) ?_
          refine lv_icmp_eq (tgt := 42) hx hb d_R_skipToBlank_23 (by decide) (fun c3 => ?_) (fun c3 => ?_)
          · exact W.vret hx hb hr (fun t ht hW => ⟨⟨(att), rfl, by rw [hX]; simp only [g_R_skipToBlank, if_neg c1, if_neg c2, if_pos c3], by show va_P D classes _ t.heap; rw [ht]; exact hP⟩, hS.F ht⟩) hS.2.2 d_R_skipToBlank_42
          · refine lv_aload_n hx hb d_R_skipToBlank_26 rfl (lv_at hl 1 rfl) ?_
            refine lv_dup hx hb d_R_skipToBlank_27 rfl ?_
            refine va_get (D := D) (ci := 4) (v := .int att) (C := "SignMachine$Source") (T := F_R) (N := 9) hx hb hk fi_R hown hK.1 hP 1 rfl rfl 3 (by decide) (hk _ k_540) (fun _ h9 => h9) rfl d_R_skipToBlank_28 ?_
            refine lv_iconst (v := 1) hx hb d_R_skipToBlank_31 (by decide) ?_
            refine lv_iadd hx hb d_R_skipToBlank_32 ?_
            refine va_put (D := D) (ci := 4) (v := .int (att + (1 : Int32))) (ty := .int) (C := "SignMachine$Source") (T := F_R) (N := 9) hx hb hk fi_R ft_R ft_R_ok fn_R hown hK.1 hP hD hS 1 rfl rfl 3 (by decide) (hk _ k_540) (fun _ h9 => h9) rfl (by decide +kernel) rfl rfl (Nat.le_of_ble_eq_true rfl) d_R_skipToBlank_33 (fun H locs hP hD hS => ?_)
            have hP : va_P D classes (aW cI cJ cZ cB g0 g1 g2 g3 g4 g5 g6 g7 g8 g9 g10 g11 g12 g13 g14 g15 flt fln ffr sta plc edd lab lbv opr acd akd agl len lin (att + (1 : Int32)) stp fol skd snm snu byt ncn nsy nns nvs ntd lvs ltd ocn opl owd oln okd ogl olo TL) H := hP
            have hD : va_D A (aW cI cJ cZ cB g0 g1 g2 g3 g4 g5 g6 g7 g8 g9 g10 g11 g12 g13 g14 g15 flt fln ffr sta plc edd lab lbv opr acd akd agl len lin (att + (1 : Int32)) stp fol skd snm snu byt ncn nsy nns nvs ntd lvs ltd ocn opl owd oln okd ogl olo TL) := hD
            refine lv_iinc (v := (nI (k + 1))) (lv' := [(1, .int (nI (k + 1))), (0, .ref g1)]) hx hb d_R_skipToBlank_36 hl (k := 0) rfl (nI_1 k) (by decide) rfl (fun ls hl => ?_)
            refine lv_goto (tgt := 2) hx hb d_R_skipToBlank_39 (by decide) ?_
            exact ih (k + 1) (att + (1 : Int32)) H _ ls (lp_step hn1 hk1 c1).2 (lp_step hn1 hk1 c1).1 (by rw [hX]; simp only [g_R_skipToBlank, if_neg c1, if_neg c2, if_neg c3]) hP hD hS (lv_sub hl [0, 1] rfl)
  exact LP (((4000 : Int32)).toInt.toNat + 1) 0 att s.heap _ ls (Nat.zero_le _) (by omega) (by rw [← hXe]; simp only [f_R_skipToBlank]) hP hD hS (lv_sub hl [0, 1] rfl)
theorem v_R_skipToBlank {R : Room} {s : State} {args : Array Value} {own : String} {index : Nat} (hk : ∀ w ∈ tb, w.before args s = true) (hl : Cond.methodLink own index y_R_skipToBlank ∈ tb) (hR : 1 + 1 ≤ R.frames ∧ 8 + (2 + 11) + 20 ≤ R.locals) : CallW R s args own "SignMachine$Source" index y_R_skipToBlank b_R_skipToBlank 2 none (.code y_R_skipToBlank b_R_skipToBlank 2 none :: tb) ({ frames := 1, cells := 0, slots := 0, locals := 20 }) 0 0 0 := mk_v 0 hk k_784 hl k_782 k_783 k_124 rfl rfl h_R_skipToBlank hR
def g_R_nextLine (len : Int32) (byt : Nat → Int32) : Nat → Nat → (Int32) → (Int32) → (Int32) → (Int32) → (Int32) × (Int32) × (Int32) × (Int32)
  | 0, _, lin, att, stp, fol => (lin, att, stp, fol)
  | n + 1, k, lin, att, stp, fol => (if (4000 : Int32) ≤ (nI k) then (lin, att, stp, (stp + (1 : Int32))) else (if len ≤ stp then (lin, att, stp, (stp + (1 : Int32))) else (if (f_R_byteAt byt stp) = (10 : Int32) then (lin, att, stp, (stp + (1 : Int32))) else (g_R_nextLine len byt n (k + 1) lin att (stp + (1 : Int32)) fol))))
def f_R_nextLine (len : Int32) (lin : Int32) (att : Int32) (stp : Int32) (fol : Int32) (byt : Nat → Int32)  : (Int32) × (Int32) × (Int32) × (Int32) := (g_R_nextLine len byt (((4000 : Int32)).toInt.toNat + 1) 0 (lin + (1 : Int32)) fol fol fol)
set_option maxHeartbeats 4000000 in
set_option maxRecDepth 100000 in
theorem c_R_nextLine (l : Launch) (D : va_G) (cI cJ cZ cB : ClassId) (g0 g1 g2 g3 g4 g5 g6 g7 g8 g9 g10 g11 g12 g13 g14 g15 : Nat) (sz : Nat) (flt : Int32) (fln : Int32) (ffr : Int32) (sta : Int32) (plc : Int32) (edd : Int32) (lab : Int64) (lbv : Int32) (opr : Option Nat) (acd : Int32) (akd : Int32) (agl : Int32) (len : Int32) (lin : Int32) (att : Int32) (stp : Int32) (fol : Int32) (skd : Int32) (snm : Int64) (snu : Int32) (byt : Nat → Int32) (ncn : Int32) (nsy : Int32) (nns : Nat → Int64) (nvs : Nat → Int32) (ntd : Nat → Int32) (lvs : Nat → Int32) (ltd : Nat → Int32) (ocn : Int32) (opl : Nat → Int32) (owd : Nat → Int32) (oln : Nat → Int32) (okd : Nat → Int32) (ogl : Nat → Int32) (olo : Nat → Int32) (TL : va_W)  : Met l y_R_nextLine (.code y_R_nextLine b_R_nextLine 2 none :: tb) ({ frames := 1, cells := 0, slots := 0, locals := 21 }) (pM D cI cJ cZ cB (aW cI cJ cZ cB g0 g1 g2 g3 g4 g5 g6 g7 g8 g9 g10 g11 g12 g13 g14 g15 flt fln ffr sta plc edd lab lbv opr acd akd agl len lin att stp fol skd snm snu byt ncn nsy nns nvs ntd lvs ltd ocn opl owd oln okd ogl olo TL) sz [.ref g1]) (qV D (fun u => u = f_R_nextLine len lin att stp fol byt) (fun (u : (Int32) × (Int32) × (Int32) × (Int32)) => match u with | (u_lin, u_att, u_stp, u_fol) => (aW cI cJ cZ cB g0 g1 g2 g3 g4 g5 g6 g7 g8 g9 g10 g11 g12 g13 g14 g15 flt fln ffr sta plc edd lab lbv opr acd akd agl len u_lin u_att u_stp u_fol skd snm snu byt ncn nsy nns nvs ntd lvs ltd ocn opl owd oln okd ogl olo TL)) (va_A (aW cI cJ cZ cB g0 g1 g2 g3 g4 g5 g6 g7 g8 g9 g10 g11 g12 g13 g14 g15 flt fln ffr sta plc edd lab lbv opr acd akd agl len lin att stp fol skd snm snu byt ncn nsy nns nvs ntd lvs ltd ocn opl owd oln okd ogl olo TL) sz)) 0 0 (va_A (aW cI cJ cZ cB g0 g1 g2 g3 g4 g5 g6 g7 g8 g9 g10 g11 g12 g13 g14 g15 flt fln ffr sta plc edd lab lbv opr acd akd agl len lin att stp fol skd snm snu byt ncn nsy nns nvs ntd lvs ltd ocn opl owd oln okd ogl olo TL) sz) := by
  refine Met.ofW (cc := b_R_nextLine) (maxL := 2) (ret := none) (by decide) rfl ?_
  intro p e s m args below meth c s₁ B hml hv
  obtain ⟨rfl, hsz, hK, hP, hD0⟩ := hv
  subst hsz
  have hD := hD0.self (sz := s.heap.size)
  generalize hAe : va_A (aW cI cJ cZ cB g0 g1 g2 g3 g4 g5 g6 g7 g8 g9 g10 g11 g12 g13 g14 g15 flt fln ffr sta plc edd lab lbv opr acd akd agl len lin att stp fol skd snm snu byt ncn nsy nns nvs ntd lvs ltd ocn opl owd oln okd ogl olo TL) s.heap.size = A at hD ⊢
  have hA : ∀ q : Nat, s.heap.size ≤ q → A q := fun q h => by rw [← hAe]; exact Or.inr h
  have hS : va_S A s.heap s.heap [] := va_S.rf
  have hx := B.exec
  have hb := B.bytes
  have hr := B.returns
  have hts := atoms_spec (ws := .code y_R_nextLine b_R_nextLine 2 none :: tb) B.pre
  have hk : ∀ w ∈ tb, w.before [.ref g1].toArray s = true := fun w h => hts w (List.mem_cons_of_mem _ h)
  have hown : s.vm.findClass "SignMachine$Source" = some m.cls := findClass_of_methodNamed B.named
  have hlocks := B.notSynchronized
  have hl := lv_entry ([.ref g1]) (n := 2) (Nat.le_of_ble_eq_true rfl)
  rw [lg_entry_eq]
  generalize (lg_sl ([.ref g1]) ++ List.replicate (2 - (lg_sl ([.ref g1])).length) Slot.unset).toArray = ls at hl ⊢
  have hl : lv_has ls 2 [(0, .ref g1)] := hl
  generalize hXe : f_R_nextLine len lin att stp fol byt = X
  refine lv_aload_n hx hb d_R_nextLine_0 rfl (lv_at hl 0 rfl) ?_
  refine lv_dup hx hb d_R_nextLine_1 rfl ?_
  refine va_get (D := D) (ci := 4) (v := .int lin) (C := "SignMachine$Source") (T := F_R) (N := 9) hx hb hk fi_R hown hK.1 hP 1 rfl rfl 2 (by decide) (hk _ k_538) (fun _ h9 => h9) rfl d_R_nextLine_2 ?_
  refine lv_iconst (v := 1) hx hb d_R_nextLine_5 (by decide) ?_
  refine lv_iadd hx hb d_R_nextLine_6 ?_
  refine va_put (D := D) (ci := 4) (v := .int (lin + (1 : Int32))) (ty := .int) (C := "SignMachine$Source") (T := F_R) (N := 9) hx hb hk fi_R ft_R ft_R_ok fn_R hown hK.1 hP hD hS 1 rfl rfl 2 (by decide) (hk _ k_538) (fun _ h9 => h9) rfl (by decide +kernel) rfl rfl (Nat.le_of_ble_eq_true rfl) d_R_nextLine_7 (fun H locs hP hD hS => ?_)
  have hP : va_P D classes (aW cI cJ cZ cB g0 g1 g2 g3 g4 g5 g6 g7 g8 g9 g10 g11 g12 g13 g14 g15 flt fln ffr sta plc edd lab lbv opr acd akd agl len (lin + (1 : Int32)) att stp fol skd snm snu byt ncn nsy nns nvs ntd lvs ltd ocn opl owd oln okd ogl olo TL) H := hP
  have hD : va_D A (aW cI cJ cZ cB g0 g1 g2 g3 g4 g5 g6 g7 g8 g9 g10 g11 g12 g13 g14 g15 flt fln ffr sta plc edd lab lbv opr acd akd agl len (lin + (1 : Int32)) att stp fol skd snm snu byt ncn nsy nns nvs ntd lvs ltd ocn opl owd oln okd ogl olo TL) := hD
  refine lv_aload_n hx hb d_R_nextLine_10 rfl (lv_at hl 0 rfl) ?_
  refine lv_aload_n hx hb d_R_nextLine_11 rfl (lv_at hl 0 rfl) ?_
  refine va_get (D := D) (ci := 4) (v := .int fol) (C := "SignMachine$Source") (T := F_R) (N := 9) hx hb hk fi_R hown hK.1 hP 1 rfl rfl 5 (by decide) (hk _ k_543) (fun _ h9 => h9) rfl d_R_nextLine_12 ?_
  refine va_put (D := D) (ci := 4) (v := .int fol) (ty := .int) (C := "SignMachine$Source") (T := F_R) (N := 9) hx hb hk fi_R ft_R ft_R_ok fn_R hown hK.1 hP hD hS 1 rfl rfl 3 (by decide) (hk _ k_540) (fun _ h9 => h9) rfl (by decide +kernel) rfl rfl (Nat.le_of_ble_eq_true rfl) d_R_nextLine_15 (fun H locs hP hD hS => ?_)
  have hP : va_P D classes (aW cI cJ cZ cB g0 g1 g2 g3 g4 g5 g6 g7 g8 g9 g10 g11 g12 g13 g14 g15 flt fln ffr sta plc edd lab lbv opr acd akd agl len (lin + (1 : Int32)) fol stp fol skd snm snu byt ncn nsy nns nvs ntd lvs ltd ocn opl owd oln okd ogl olo TL) H := hP
  have hD : va_D A (aW cI cJ cZ cB g0 g1 g2 g3 g4 g5 g6 g7 g8 g9 g10 g11 g12 g13 g14 g15 flt fln ffr sta plc edd lab lbv opr acd akd agl len (lin + (1 : Int32)) fol stp fol skd snm snu byt ncn nsy nns nvs ntd lvs ltd ocn opl owd oln okd ogl olo TL) := hD
  refine lv_aload_n hx hb d_R_nextLine_18 rfl (lv_at hl 0 rfl) ?_
  refine lv_aload_n hx hb d_R_nextLine_19 rfl (lv_at hl 0 rfl) ?_
  refine va_get (D := D) (ci := 4) (v := .int fol) (C := "SignMachine$Source") (T := F_R) (N := 9) hx hb hk fi_R hown hK.1 hP 1 rfl rfl 3 (by decide) (hk _ k_540) (fun _ h9 => h9) rfl d_R_nextLine_20 ?_
  refine va_put (D := D) (ci := 4) (v := .int fol) (ty := .int) (C := "SignMachine$Source") (T := F_R) (N := 9) hx hb hk fi_R ft_R ft_R_ok fn_R hown hK.1 hP hD hS 1 rfl rfl 4 (by decide) (hk _ k_542) (fun _ h9 => h9) rfl (by decide +kernel) rfl rfl (Nat.le_of_ble_eq_true rfl) d_R_nextLine_23 (fun H locs hP hD hS => ?_)
  have hP : va_P D classes (aW cI cJ cZ cB g0 g1 g2 g3 g4 g5 g6 g7 g8 g9 g10 g11 g12 g13 g14 g15 flt fln ffr sta plc edd lab lbv opr acd akd agl len (lin + (1 : Int32)) fol fol fol skd snm snu byt ncn nsy nns nvs ntd lvs ltd ocn opl owd oln okd ogl olo TL) H := hP
  have hD : va_D A (aW cI cJ cZ cB g0 g1 g2 g3 g4 g5 g6 g7 g8 g9 g10 g11 g12 g13 g14 g15 flt fln ffr sta plc edd lab lbv opr acd akd agl len (lin + (1 : Int32)) fol fol fol skd snm snu byt ncn nsy nns nvs ntd lvs ltd ocn opl owd oln okd ogl olo TL) := hD
  refine lv_iconst (v := 0) hx hb d_R_nextLine_26 (by decide) ?_
  refine lv_istore_n (lv' := [(1, .int (0 : Int32)), (0, .ref g1)]) hx hb d_R_nextLine_27 rfl hl (by decide) rfl (fun ls hl => ?_)
  have LP : ∀ (n k : Nat)  (lin : Int32) (att : Int32) (stp : Int32) (fol : Int32) (H : Heap) (locs : List Loc) (ls : Array Slot), k ≤ ((4000 : Int32)).toInt.toNat → ((4000 : Int32)).toInt.toNat - k < n → X = g_R_nextLine len byt n k lin att stp fol → va_P D classes (aW cI cJ cZ cB g0 g1 g2 g3 g4 g5 g6 g7 g8 g9 g10 g11 g12 g13 g14 g15 flt fln ffr sta plc edd lab lbv opr acd akd agl len lin att stp fol skd snm snu byt ncn nsy nns nvs ntd lvs ltd ocn opl owd oln okd ogl olo TL) H → va_D A (aW cI cJ cZ cB g0 g1 g2 g3 g4 g5 g6 g7 g8 g9 g10 g11 g12 g13 g14 g15 flt fln ffr sta plc edd lab lbv opr acd akd agl len lin att stp fol skd snm snu byt ncn nsy nns nvs ntd lvs ltd ocn opl owd oln okd ogl olo TL) → va_S A s.heap H locs → lv_has ls 2 [(1, .int (nI k)), (0, .ref g1)] → W p l e ({ frames := 1, cells := 0, slots := 0, locals := 21 }) s m [.ref g1].toArray below meth c H locs 0 0 (MQ below (qV D (fun u => u = X) (fun (u : (Int32) × (Int32) × (Int32) × (Int32)) => match u with | (u_lin, u_att, u_stp, u_fol) => (aW cI cJ cZ cB g0 g1 g2 g3 g4 g5 g6 g7 g8 g9 g10 g11 g12 g13 g14 g15 flt fln ffr sta plc edd lab lbv opr acd akd agl len u_lin u_att u_stp u_fol skd snm snu byt ncn nsy nns nvs ntd lvs ltd ocn opl owd oln okd ogl olo TL)) A) [.ref g1].toArray s 0 0 A) (F0 m 28 ls []) := by
    intro n
    induction n with
    | zero => intro k lin att stp fol H locs ls hk1 hn1; exact absurd hn1 (Nat.not_lt_zero _)
    | succ n ih =>
      intro k lin att stp fol H locs ls hk1 hn1 hX hP hD hS hl
      refine lv_iload_n hx hb d_R_nextLine_28 rfl (lv_at hl 0 rfl) ?_
      refine lv_sipush (v := 4000) hx hb d_R_nextLine_29 (by decide) ?_
      refine lv_icmp_ge (tgt := 75) hx hb d_R_nextLine_32 (by decide) (fun c1 => ?_) (fun c1 => ?_)
      · refine lv_aload_n hx hb d_R_nextLine_75 rfl (lv_at hl 1 rfl) ?_
        refine lv_aload_n hx hb d_R_nextLine_76 rfl (lv_at hl 1 rfl) ?_
        refine va_get (D := D) (ci := 4) (v := .int stp) (C := "SignMachine$Source") (T := F_R) (N := 9) hx hb hk fi_R hown hK.1 hP 1 rfl rfl 4 (by decide) (hk _ k_542) (fun _ h9 => h9) rfl d_R_nextLine_77 ?_
        refine lv_iconst (v := 1) hx hb d_R_nextLine_80 (by decide) ?_
        refine lv_iadd hx hb d_R_nextLine_81 ?_
        refine va_put (D := D) (ci := 4) (v := .int (stp + (1 : Int32))) (ty := .int) (C := "SignMachine$Source") (T := F_R) (N := 9) hx hb hk fi_R ft_R ft_R_ok fn_R hown hK.1 hP hD hS 1 rfl rfl 5 (by decide) (hk _ k_543) (fun _ h9 => h9) rfl (by decide +kernel) rfl rfl (Nat.le_of_ble_eq_true rfl) d_R_nextLine_82 (fun H locs hP hD hS => ?_)
        have hP : va_P D classes (aW cI cJ cZ cB g0 g1 g2 g3 g4 g5 g6 g7 g8 g9 g10 g11 g12 g13 g14 g15 flt fln ffr sta plc edd lab lbv opr acd akd agl len lin att stp (stp + (1 : Int32)) skd snm snu byt ncn nsy nns nvs ntd lvs ltd ocn opl owd oln okd ogl olo TL) H := hP
        have hD : va_D A (aW cI cJ cZ cB g0 g1 g2 g3 g4 g5 g6 g7 g8 g9 g10 g11 g12 g13 g14 g15 flt fln ffr sta plc edd lab lbv opr acd akd agl len lin att stp (stp + (1 : Int32)) skd snm snu byt ncn nsy nns nvs ntd lvs ltd ocn opl owd oln okd ogl olo TL) := hD
        exact W.vret hx hb hr (fun t ht hW => ⟨⟨(lin, att, stp, (stp + (1 : Int32))), rfl, by rw [hX]; simp only [g_R_nextLine, if_pos c1], by show va_P D classes _ t.heap; rw [ht]; exact hP⟩, hS.F ht⟩) hS.2.2 d_R_nextLine_85
      · refine lv_aload_n hx hb d_R_nextLine_35 rfl (lv_at hl 1 rfl) ?_
        refine va_get (D := D) (ci := 4) (v := .int stp) (C := "SignMachine$Source") (T := F_R) (N := 9) hx hb hk fi_R hown hK.1 hP 1 rfl rfl 4 (by decide) (hk _ k_542) (fun _ h9 => h9) rfl d_R_nextLine_36 ?_
        refine lv_aload_n hx hb d_R_nextLine_39 rfl (lv_at hl 1 rfl) ?_
        refine va_get (D := D) (ci := 4) (v := .int len) (C := "SignMachine$Source") (T := F_R) (N := 9) hx hb hk fi_R hown hK.1 hP 1 rfl rfl 1 (by decide) (hk _ k_535) (fun _ h9 => h9) rfl d_R_nextLine_40 ?_
        refine lv_icmp_ge (tgt := 75) hx hb d_R_nextLine_43 (by decide) (fun c2 => ?_) (fun c2 => ?_)
        · refine lv_aload_n hx hb d_R_nextLine_75 rfl (lv_at hl 1 rfl) ?_
          refine lv_aload_n hx hb d_R_nextLine_76 rfl (lv_at hl 1 rfl) ?_
          refine va_get (D := D) (ci := 4) (v := .int stp) (C := "SignMachine$Source") (T := F_R) (N := 9) hx hb hk fi_R hown hK.1 hP 1 rfl rfl 4 (by decide) (hk _ k_542) (fun _ h9 => h9) rfl d_R_nextLine_77 ?_
          refine lv_iconst (v := 1) hx hb d_R_nextLine_80 (by decide) ?_
          refine lv_iadd hx hb d_R_nextLine_81 ?_
          refine va_put (D := D) (ci := 4) (v := .int (stp + (1 : Int32))) (ty := .int) (C := "SignMachine$Source") (T := F_R) (N := 9) hx hb hk fi_R ft_R ft_R_ok fn_R hown hK.1 hP hD hS 1 rfl rfl 5 (by decide) (hk _ k_543) (fun _ h9 => h9) rfl (by decide +kernel) rfl rfl (Nat.le_of_ble_eq_true rfl) d_R_nextLine_82 (fun H locs hP hD hS => ?_)
          have hP : va_P D classes (aW cI cJ cZ cB g0 g1 g2 g3 g4 g5 g6 g7 g8 g9 g10 g11 g12 g13 g14 g15 flt fln ffr sta plc edd lab lbv opr acd akd agl len lin att stp (stp + (1 : Int32)) skd snm snu byt ncn nsy nns nvs ntd lvs ltd ocn opl owd oln okd ogl olo TL) H := hP
          have hD : va_D A (aW cI cJ cZ cB g0 g1 g2 g3 g4 g5 g6 g7 g8 g9 g10 g11 g12 g13 g14 g15 flt fln ffr sta plc edd lab lbv opr acd akd agl len lin att stp (stp + (1 : Int32)) skd snm snu byt ncn nsy nns nvs ntd lvs ltd ocn opl owd oln okd ogl olo TL) := hD
          exact W.vret hx hb hr (fun t ht hW => ⟨⟨(lin, att, stp, (stp + (1 : Int32))), rfl, by rw [hX]; simp only [g_R_nextLine, if_neg c1, if_pos c2], by show va_P D classes _ t.heap; rw [ht]; exact hP⟩, hS.F ht⟩) hS.2.2 d_R_nextLine_85
        · refine lv_aload_n hx hb d_R_nextLine_46 rfl (lv_at hl 1 rfl) ?_
          refine lv_aload_n hx hb d_R_nextLine_47 rfl (lv_at hl 1 rfl) ?_
          refine va_get (D := D) (ci := 4) (v := .int stp) (C := "SignMachine$Source") (T := F_R) (N := 9) hx hb hk fi_R hown hK.1 hP 1 rfl rfl 4 (by decide) (hk _ k_542) (fun _ h9 => h9) rfl d_R_nextLine_48 ?_
          refine cs_i (W.runV (C := "SignMachine$Source") (As := [.int stp]) (rest := []) ⟨hx, hb, hml, hown, hk⟩ (c_R_byteAt l D cI cJ cZ cB g0 g1 g2 g3 g4 g5 g6 g7 g8 g9 g10 g11 g12 g13 g14 g15 flt fln ffr sta plc edd lab lbv opr acd akd agl len lin att stp fol skd snm snu byt ncn nsy nns nvs ntd lvs ltd ocn opl owd oln okd ogl olo TL stp) (v_R_byteAt hk k_731 ⟨Nat.le_of_ble_eq_true rfl, Nat.le_of_ble_eq_true rfl⟩) (pR_v hK hP (ci := 4) (q0 := 1) rfl rfl rfl) rfl rfl hl.1 rfl (lv_room (Nat.le_of_ble_eq_true rfl)) d_R_nextLine_51 ⟨Nat.le_of_ble_eq_true rfl, Nat.le_of_ble_eq_true rfl⟩) ?_
          refine lv_bipush (v := 10) hx hb d_R_nextLine_54 (by decide) ?_
          refine lv_icmp_eq (tgt := 75) hx hb d_R_nextLine_56 (by decide) (fun c3 => ?_) (fun c3 => ?_)
          · refine lv_aload_n hx hb d_R_nextLine_75 rfl (lv_at hl 1 rfl) ?_
            refine lv_aload_n hx hb d_R_nextLine_76 rfl (lv_at hl 1 rfl) ?_
            refine va_get (D := D) (ci := 4) (v := .int stp) (C := "SignMachine$Source") (T := F_R) (N := 9) hx hb hk fi_R hown hK.1 hP 1 rfl rfl 4 (by decide) (hk _ k_542) (fun _ h9 => h9) rfl d_R_nextLine_77 ?_
            refine lv_iconst (v := 1) hx hb d_R_nextLine_80 (by decide) ?_
            refine lv_iadd hx hb d_R_nextLine_81 ?_
            refine va_put (D := D) (ci := 4) (v := .int (stp + (1 : Int32))) (ty := .int) (C := "SignMachine$Source") (T := F_R) (N := 9) hx hb hk fi_R ft_R ft_R_ok fn_R hown hK.1 hP hD hS 1 rfl rfl 5 (by decide) (hk _ k_543) (fun _ h9 => h9) rfl (by decide +kernel) rfl rfl (Nat.le_of_ble_eq_true rfl) d_R_nextLine_82 (fun H locs hP hD hS => ?_)
            have hP : va_P D classes (aW cI cJ cZ cB g0 g1 g2 g3 g4 g5 g6 g7 g8 g9 g10 g11 g12 g13 g14 g15 flt fln ffr sta plc edd lab lbv opr acd akd agl len lin att stp (stp + (1 : Int32)) skd snm snu byt ncn nsy nns nvs ntd lvs ltd ocn opl owd oln okd ogl olo TL) H := hP
            have hD : va_D A (aW cI cJ cZ cB g0 g1 g2 g3 g4 g5 g6 g7 g8 g9 g10 g11 g12 g13 g14 g15 flt fln ffr sta plc edd lab lbv opr acd akd agl len lin att stp (stp + (1 : Int32)) skd snm snu byt ncn nsy nns nvs ntd lvs ltd ocn opl owd oln okd ogl olo TL) := hD
            exact W.vret hx hb hr (fun t ht hW => ⟨⟨(lin, att, stp, (stp + (1 : Int32))), rfl, by rw [hX]; simp only [g_R_nextLine, if_neg c1, if_neg c2, if_pos c3], by show va_P D classes _ t.heap; rw [ht]; exact hP⟩, hS.F ht⟩) hS.2.2 d_R_nextLine_85
          · refine lv_aload_n hx hb d_R_nextLine_59 rfl (lv_at hl 1 rfl) ?_
            refine lv_dup hx hb d_R_nextLine_60 rfl ?_
            refine va_get (D := D) (ci := 4) (v := .int stp) (C := "SignMachine$Source") (T := F_R) (N := 9) hx hb hk fi_R hown hK.1 hP 1 rfl rfl 4 (by decide) (hk _ k_542) (fun _ h9 => h9) rfl d_R_nextLine_61 ?_
            refine lv_iconst (v := 1) hx hb d_R_nextLine_64 (by decide) ?_
            refine lv_iadd hx hb d_R_nextLine_65 ?_
            refine va_put (D := D) (ci := 4) (v := .int (stp + (1 : Int32))) (ty := .int) (C := "SignMachine$Source") (T := F_R) (N := 9) hx hb hk fi_R ft_R ft_R_ok fn_R hown hK.1 hP hD hS 1 rfl rfl 4 (by decide) (hk _ k_542) (fun _ h9 => h9) rfl (by decide +kernel) rfl rfl (Nat.le_of_ble_eq_true rfl) d_R_nextLine_66 (fun H locs hP hD hS => ?_)
            have hP : va_P D classes (aW cI cJ cZ cB g0 g1 g2 g3 g4 g5 g6 g7 g8 g9 g10 g11 g12 g13 g14 g15 flt fln ffr sta plc edd lab lbv opr acd akd agl len lin att (stp + (1 : Int32)) fol skd snm snu byt ncn nsy nns nvs ntd lvs ltd ocn opl owd oln okd ogl olo TL) H := hP
            have hD : va_D A (aW cI cJ cZ cB g0 g1 g2 g3 g4 g5 g6 g7 g8 g9 g10 g11 g12 g13 g14 g15 flt fln ffr sta plc edd lab lbv opr acd akd agl len lin att (stp + (1 : Int32)) fol skd snm snu byt ncn nsy nns nvs ntd lvs ltd ocn opl owd oln okd ogl olo TL) := hD
            refine lv_iinc (v := (nI (k + 1))) (lv' := [(1, .int (nI (k + 1))), (0, .ref g1)]) hx hb d_R_nextLine_69 hl (k := 0) rfl (nI_1 k) (by decide) rfl (fun ls hl => ?_)
            refine lv_goto (tgt := 28) hx hb d_R_nextLine_72 (by decide) ?_
            exact ih (k + 1) lin att (stp + (1 : Int32)) fol H _ ls (lp_step hn1 hk1 c1).2 (lp_step hn1 hk1 c1).1 (by rw [hX]; simp only [g_R_nextLine, if_neg c1, if_neg c2, if_neg c3]) hP hD hS (lv_sub hl [0, 1] rfl)
  exact LP (((4000 : Int32)).toInt.toNat + 1) 0 (lin + (1 : Int32)) fol fol fol H _ ls (Nat.zero_le _) (by omega) (by rw [← hXe]; simp only [f_R_nextLine]) hP hD hS (lv_sub hl [0, 1] rfl)
theorem v_R_nextLine {R : Room} {s : State} {args : Array Value} {own : String} {index : Nat} (hk : ∀ w ∈ tb, w.before args s = true) (hl : Cond.methodLink own index y_R_nextLine ∈ tb) (hR : 1 + 1 ≤ R.frames ∧ 8 + (2 + 11) + 21 ≤ R.locals) : CallW R s args own "SignMachine$Source" index y_R_nextLine b_R_nextLine 2 none (.code y_R_nextLine b_R_nextLine 2 none :: tb) ({ frames := 1, cells := 0, slots := 0, locals := 21 }) 0 0 0 := mk_v 0 hk k_730 hl k_728 k_729 k_124 rfl rfl h_R_nextLine hR
def g_O_closeLocal (a1 : Int32) (a2 : Int32) : Nat → Nat → Int32 → (Nat → Int32) → (Nat → Int32) → (Nat → Int32) → (Nat → Int32) × (Nat → Int32) × (Nat → Int32)
  | 0, _, _, okd, ogl, olo => (okd, ogl, olo)
  | n + 1, k, x3, okd, ogl, olo => (if (1101 : Int32) ≤ (nI k) then (okd, ogl, (upd olo (a1).toNatClampNeg (-2 : Int32))) else (if (bI (f_O_isWord x3)) = (0 : Int32) then (okd, ogl, (upd olo (a1).toNatClampNeg (-2 : Int32))) else (g_O_closeLocal a1 a2 n (k + 1) (ogl (x3).toNatClampNeg) (upd okd (x3).toNatClampNeg (vp_nar .byte (3 : Int32))) (upd ogl (x3).toNatClampNeg a2) olo)))
def f_O_closeLocal (okd : Nat → Int32) (ogl : Nat → Int32) (olo : Nat → Int32) (a1 : Int32) (a2 : Int32) : (Nat → Int32) × (Nat → Int32) × (Nat → Int32) := (if a1 < (0 : Int32) then (okd, ogl, olo) else (if a1 < (10 : Int32) then (g_O_closeLocal a1 a2 (((1101 : Int32)).toInt.toNat + 1) 0 (olo (a1).toNatClampNeg) okd ogl olo) else (okd, ogl, olo)))
set_option maxHeartbeats 4000000 in
set_option maxRecDepth 100000 in
theorem c_O_closeLocal (l : Launch) (D : va_G) (cI cJ cZ cB : ClassId) (g0 g1 g2 g3 g4 g5 g6 g7 g8 g9 g10 g11 g12 g13 g14 g15 : Nat) (sz : Nat) (flt : Int32) (fln : Int32) (ffr : Int32) (sta : Int32) (plc : Int32) (edd : Int32) (lab : Int64) (lbv : Int32) (opr : Option Nat) (acd : Int32) (akd : Int32) (agl : Int32) (len : Int32) (lin : Int32) (att : Int32) (stp : Int32) (fol : Int32) (skd : Int32) (snm : Int64) (snu : Int32) (byt : Nat → Int32) (ncn : Int32) (nsy : Int32) (nns : Nat → Int64) (nvs : Nat → Int32) (ntd : Nat → Int32) (lvs : Nat → Int32) (ltd : Nat → Int32) (ocn : Int32) (opl : Nat → Int32) (owd : Nat → Int32) (oln : Nat → Int32) (okd : Nat → Int32) (ogl : Nat → Int32) (olo : Nat → Int32) (TL : va_W) (a1 : Int32) (a2 : Int32) : Met l y_O_closeLocal (.code y_O_closeLocal b_O_closeLocal 6 none :: tb) ({ frames := 1, cells := 0, slots := 0, locals := 20 }) (pM D cI cJ cZ cB (aW cI cJ cZ cB g0 g1 g2 g3 g4 g5 g6 g7 g8 g9 g10 g11 g12 g13 g14 g15 flt fln ffr sta plc edd lab lbv opr acd akd agl len lin att stp fol skd snm snu byt ncn nsy nns nvs ntd lvs ltd ocn opl owd oln okd ogl olo TL) sz [.ref g9, .int a1, .int a2]) (qV D (fun u => u = f_O_closeLocal okd ogl olo a1 a2) (fun (u : (Nat → Int32) × (Nat → Int32) × (Nat → Int32)) => match u with | (u_okd, u_ogl, u_olo) => (aW cI cJ cZ cB g0 g1 g2 g3 g4 g5 g6 g7 g8 g9 g10 g11 g12 g13 g14 g15 flt fln ffr sta plc edd lab lbv opr acd akd agl len lin att stp fol skd snm snu byt ncn nsy nns nvs ntd lvs ltd ocn opl owd oln u_okd u_ogl u_olo TL)) (va_A (aW cI cJ cZ cB g0 g1 g2 g3 g4 g5 g6 g7 g8 g9 g10 g11 g12 g13 g14 g15 flt fln ffr sta plc edd lab lbv opr acd akd agl len lin att stp fol skd snm snu byt ncn nsy nns nvs ntd lvs ltd ocn opl owd oln okd ogl olo TL) sz)) 0 0 (va_A (aW cI cJ cZ cB g0 g1 g2 g3 g4 g5 g6 g7 g8 g9 g10 g11 g12 g13 g14 g15 flt fln ffr sta plc edd lab lbv opr acd akd agl len lin att stp fol skd snm snu byt ncn nsy nns nvs ntd lvs ltd ocn opl owd oln okd ogl olo TL) sz) := by
  refine Met.ofW (cc := b_O_closeLocal) (maxL := 6) (ret := none) (by decide) rfl ?_
  intro p e s m args below meth c s₁ B hml hv
  obtain ⟨rfl, hsz, hK, hP, hD0⟩ := hv
  subst hsz
  have hD := hD0.self (sz := s.heap.size)
  generalize hAe : va_A (aW cI cJ cZ cB g0 g1 g2 g3 g4 g5 g6 g7 g8 g9 g10 g11 g12 g13 g14 g15 flt fln ffr sta plc edd lab lbv opr acd akd agl len lin att stp fol skd snm snu byt ncn nsy nns nvs ntd lvs ltd ocn opl owd oln okd ogl olo TL) s.heap.size = A at hD ⊢
  have hA : ∀ q : Nat, s.heap.size ≤ q → A q := fun q h => by rw [← hAe]; exact Or.inr h
  have hS : va_S A s.heap s.heap [] := va_S.rf
  have hx := B.exec
  have hb := B.bytes
  have hr := B.returns
  have hts := atoms_spec (ws := .code y_O_closeLocal b_O_closeLocal 6 none :: tb) B.pre
  have hk : ∀ w ∈ tb, w.before [.ref g9, .int a1, .int a2].toArray s = true := fun w h => hts w (List.mem_cons_of_mem _ h)
  have hown : s.vm.findClass "SignMachine$Output" = some m.cls := findClass_of_methodNamed B.named
  have hlocks := B.notSynchronized
  have hl := lv_entry ([.ref g9, .int a1, .int a2]) (n := 6) (Nat.le_of_ble_eq_true rfl)
  rw [lg_entry_eq]
  generalize (lg_sl ([.ref g9, .int a1, .int a2]) ++ List.replicate (6 - (lg_sl ([.ref g9, .int a1, .int a2])).length) Slot.unset).toArray = ls at hl ⊢
  have hl : lv_has ls 6 [(0, .ref g9), (1, .int a1), (2, .int a2)] := hl
  generalize hXe : f_O_closeLocal okd ogl olo a1 a2 = X
  refine lv_iload_n hx hb d_O_closeLocal_0 rfl (lv_at hl 1 rfl) ?_
  refine lv_if_lt (tgt := 13) hx hb d_O_closeLocal_1 (by decide) (fun c1 => ?_) (fun c1 => ?_)
  · exact W.vret hx hb hr (fun t ht hW => ⟨⟨(okd, ogl, olo), rfl, by rw [← hXe]; simp only [f_O_closeLocal, if_pos c1], by show va_P D classes _ t.heap; rw [ht]; exact hP⟩, hS.F ht⟩) hS.2.2 d_O_closeLocal_13
  · refine lv_iload_n hx hb d_O_closeLocal_4 rfl (lv_at hl 1 rfl) ?_
    refine lv_aload_n hx hb d_O_closeLocal_5 rfl (lv_at hl 0 rfl) ?_
    refine va_get (D := D) (ci := 6) (v := .ref g15) (C := "SignMachine$Output") (T := F_O) (N := 7) hx hb hk fi_O hown hK.1 hP 9 rfl rfl 5 (by decide) (hk _ k_612) (fun _ h9 => h9) rfl d_O_closeLocal_6 ?_
    refine va_alen (v := 10) hx hb hK.1 hP 15 0 rfl rfl rfl d_O_closeLocal_9 ?_
    refine lv_icmp_lt (tgt := 14) hx hb d_O_closeLocal_10 (by decide) (fun c2 => ?_) (fun c2 => ?_)
    · refine lv_aload_n hx hb d_O_closeLocal_14 rfl (lv_at hl 0 rfl) ?_
      refine va_get (D := D) (ci := 6) (v := .ref g15) (C := "SignMachine$Output") (T := F_O) (N := 7) hx hb hk fi_O hown hK.1 hP 9 rfl rfl 5 (by decide) (hk _ k_612) (fun _ h9 => h9) rfl d_O_closeLocal_15 ?_
      refine lv_iload_n hx hb d_O_closeLocal_18 rfl (lv_at hl 1 rfl) ?_
      refine va_iald hx hb hK.1 hP 15 0 rfl rfl (vpin2 c1 c2 rfl) d_O_closeLocal_19 ?_
      refine lv_istore_n (lv' := [(3, .int (olo (a1).toNatClampNeg)), (0, .ref g9), (1, .int a1), (2, .int a2)]) hx hb d_O_closeLocal_20 rfl hl (by decide) rfl (fun ls hl => ?_)
      refine lv_iconst (v := 0) hx hb d_O_closeLocal_21 (by decide) ?_
      refine lv_istore (lv' := [(4, .int (0 : Int32)), (3, .int (olo (a1).toNatClampNeg)), (0, .ref g9), (1, .int a1), (2, .int a2)]) hx hb d_O_closeLocal_22 hl (by decide) rfl (fun ls hl => ?_)
      have LP : ∀ (n k : Nat) (x3 : Int32) (okd : Nat → Int32) (ogl : Nat → Int32) (olo : Nat → Int32) (H : Heap) (locs : List Loc) (ls : Array Slot), k ≤ ((1101 : Int32)).toInt.toNat → ((1101 : Int32)).toInt.toNat - k < n → X = g_O_closeLocal a1 a2 n k x3 okd ogl olo → va_P D classes (aW cI cJ cZ cB g0 g1 g2 g3 g4 g5 g6 g7 g8 g9 g10 g11 g12 g13 g14 g15 flt fln ffr sta plc edd lab lbv opr acd akd agl len lin att stp fol skd snm snu byt ncn nsy nns nvs ntd lvs ltd ocn opl owd oln okd ogl olo TL) H → va_D A (aW cI cJ cZ cB g0 g1 g2 g3 g4 g5 g6 g7 g8 g9 g10 g11 g12 g13 g14 g15 flt fln ffr sta plc edd lab lbv opr acd akd agl len lin att stp fol skd snm snu byt ncn nsy nns nvs ntd lvs ltd ocn opl owd oln okd ogl olo TL) → va_S A s.heap H locs → lv_has ls 6 [(4, .int (nI k)), (3, .int x3), (0, .ref g9), (1, .int a1), (2, .int a2)] → W p l e ({ frames := 1, cells := 0, slots := 0, locals := 20 }) s m [.ref g9, .int a1, .int a2].toArray below meth c H locs 0 0 (MQ below (qV D (fun u => u = X) (fun (u : (Nat → Int32) × (Nat → Int32) × (Nat → Int32)) => match u with | (u_okd, u_ogl, u_olo) => (aW cI cJ cZ cB g0 g1 g2 g3 g4 g5 g6 g7 g8 g9 g10 g11 g12 g13 g14 g15 flt fln ffr sta plc edd lab lbv opr acd akd agl len lin att stp fol skd snm snu byt ncn nsy nns nvs ntd lvs ltd ocn opl owd oln u_okd u_ogl u_olo TL)) A) [.ref g9, .int a1, .int a2].toArray s 0 0 A) (F0 m 24 ls []) := by
        intro n
        induction n with
        | zero => intro k x3 okd ogl olo H locs ls hk1 hn1; exact absurd hn1 (Nat.not_lt_zero _)
        | succ n ih =>
          intro k x3 okd ogl olo H locs ls hk1 hn1 hX hP hD hS hl
          refine lv_iload hx hb d_O_closeLocal_24 (lv_at hl 0 rfl) ?_
          refine lv_sipush (v := 1101) hx hb d_O_closeLocal_26 (by decide) ?_
          refine lv_icmp_ge (tgt := 70) hx hb d_O_closeLocal_29 (by decide) (fun c3 => ?_) (fun c3 => ?_)
          · refine lv_aload_n hx hb d_O_closeLocal_70 rfl (lv_at hl 2 rfl) ?_
            refine va_get (D := D) (ci := 6) (v := .ref g15) (C := "SignMachine$Output") (T := F_O) (N := 7) hx hb hk fi_O hown hK.1 hP 9 rfl rfl 5 (by decide) (hk _ k_612) (fun _ h9 => h9) rfl d_O_closeLocal_71 ?_
            refine lv_iload_n hx hb d_O_closeLocal_74 rfl (lv_at hl 3 rfl) ?_
            refine lv_bipush (v := (-2)) hx hb d_O_closeLocal_75 (by decide) ?_
            refine va_iast hx hb hK.1 hP hD hS 15 0 rfl rfl (vpin2 c1 c2 rfl) d_O_closeLocal_77 (fun H locs hP hD hS => ?_)
            have hP : va_P D classes (aW cI cJ cZ cB g0 g1 g2 g3 g4 g5 g6 g7 g8 g9 g10 g11 g12 g13 g14 g15 flt fln ffr sta plc edd lab lbv opr acd akd agl len lin att stp fol skd snm snu byt ncn nsy nns nvs ntd lvs ltd ocn opl owd oln okd ogl (upd olo (a1).toNatClampNeg (-2 : Int32)) TL) H := hP
            have hD : va_D A (aW cI cJ cZ cB g0 g1 g2 g3 g4 g5 g6 g7 g8 g9 g10 g11 g12 g13 g14 g15 flt fln ffr sta plc edd lab lbv opr acd akd agl len lin att stp fol skd snm snu byt ncn nsy nns nvs ntd lvs ltd ocn opl owd oln okd ogl (upd olo (a1).toNatClampNeg (-2 : Int32)) TL) := hD
            exact W.vret hx hb hr (fun t ht hW => ⟨⟨(okd, ogl, (upd olo (a1).toNatClampNeg (-2 : Int32))), rfl, by rw [hX]; simp only [g_O_closeLocal, if_pos c3], by show va_P D classes _ t.heap; rw [ht]; exact hP⟩, hS.F ht⟩) hS.2.2 d_O_closeLocal_78
          · refine lv_iload_n hx hb d_O_closeLocal_32 rfl (lv_at hl 1 rfl) ?_
            refine cs_i (W.runS (As := [.int x3]) (rest := []) ⟨hx, hb, hml, hown, hk⟩ (c_O_isWord l x3) (s_O_isWord hk k_917 ⟨Nat.le_of_ble_eq_true rfl, Nat.le_of_ble_eq_true rfl⟩) ⟨fun a U g mk q => q, fun U hU hW => ⟨rfl, trivial⟩⟩ rfl rfl hl.1 rfl (lv_room (Nat.le_of_ble_eq_true rfl)) d_O_closeLocal_33 ⟨Nat.le_of_ble_eq_true rfl, Nat.le_of_ble_eq_true rfl⟩) ?_
            refine lv_if_eq (tgt := 70) hx hb d_O_closeLocal_36 (by decide) (fun c4 => ?_) (fun c4 => ?_)
            · refine lv_aload_n hx hb d_O_closeLocal_70 rfl (lv_at hl 2 rfl) ?_
              refine va_get (D := D) (ci := 6) (v := .ref g15) (C := "SignMachine$Output") (T := F_O) (N := 7) hx hb hk fi_O hown hK.1 hP 9 rfl rfl 5 (by decide) (hk _ k_612) (fun _ h9 => h9) rfl d_O_closeLocal_71 ?_
              refine lv_iload_n hx hb d_O_closeLocal_74 rfl (lv_at hl 3 rfl) ?_
              refine lv_bipush (v := (-2)) hx hb d_O_closeLocal_75 (by decide) ?_
              refine va_iast hx hb hK.1 hP hD hS 15 0 rfl rfl (vpin2 c1 c2 rfl) d_O_closeLocal_77 (fun H locs hP hD hS => ?_)
              have hP : va_P D classes (aW cI cJ cZ cB g0 g1 g2 g3 g4 g5 g6 g7 g8 g9 g10 g11 g12 g13 g14 g15 flt fln ffr sta plc edd lab lbv opr acd akd agl len lin att stp fol skd snm snu byt ncn nsy nns nvs ntd lvs ltd ocn opl owd oln okd ogl (upd olo (a1).toNatClampNeg (-2 : Int32)) TL) H := hP
              have hD : va_D A (aW cI cJ cZ cB g0 g1 g2 g3 g4 g5 g6 g7 g8 g9 g10 g11 g12 g13 g14 g15 flt fln ffr sta plc edd lab lbv opr acd akd agl len lin att stp fol skd snm snu byt ncn nsy nns nvs ntd lvs ltd ocn opl owd oln okd ogl (upd olo (a1).toNatClampNeg (-2 : Int32)) TL) := hD
              exact W.vret hx hb hr (fun t ht hW => ⟨⟨(okd, ogl, (upd olo (a1).toNatClampNeg (-2 : Int32))), rfl, by rw [hX]; simp only [g_O_closeLocal, if_neg c3, if_pos c4], by show va_P D classes _ t.heap; rw [ht]; exact hP⟩, hS.F ht⟩) hS.2.2 d_O_closeLocal_78
            · refine lv_aload_n hx hb d_O_closeLocal_39 rfl (lv_at hl 2 rfl) ?_
              refine va_get (D := D) (ci := 6) (v := .ref g14) (C := "SignMachine$Output") (T := F_O) (N := 7) hx hb hk fi_O hown hK.1 hP 9 rfl rfl 4 (by decide) (hk _ k_611) (fun _ h9 => h9) rfl d_O_closeLocal_40 ?_
              refine lv_iload_n hx hb d_O_closeLocal_43 rfl (lv_at hl 1 rfl) ?_
              refine va_iald hx hb hK.1 hP 14 0 rfl rfl (o_in c4) d_O_closeLocal_44 ?_
              refine lv_istore (lv' := [(5, .int (ogl (x3).toNatClampNeg)), (4, .int (nI k)), (3, .int x3), (0, .ref g9), (1, .int a1), (2, .int a2)]) hx hb d_O_closeLocal_45 hl (by decide) rfl (fun ls hl => ?_)
              refine lv_aload_n hx hb d_O_closeLocal_47 rfl (lv_at hl 3 rfl) ?_
              refine va_get (D := D) (ci := 6) (v := .ref g13) (C := "SignMachine$Output") (T := F_O) (N := 7) hx hb hk fi_O hown hK.1 hP 9 rfl rfl 3 (by decide) (hk _ k_610) (fun _ h9 => h9) rfl d_O_closeLocal_48 ?_
              refine lv_iload_n hx hb d_O_closeLocal_51 rfl (lv_at hl 2 rfl) ?_
              refine lv_iconst (v := 3) hx hb d_O_closeLocal_52 (by decide) ?_
              refine va_bast hx hb hK.1 hP hD hS 13 3 rfl rfl (o_in c4) d_O_closeLocal_53 (fun H locs hP hD hS => ?_)
              have hP : va_P D classes (aW cI cJ cZ cB g0 g1 g2 g3 g4 g5 g6 g7 g8 g9 g10 g11 g12 g13 g14 g15 flt fln ffr sta plc edd lab lbv opr acd akd agl len lin att stp fol skd snm snu byt ncn nsy nns nvs ntd lvs ltd ocn opl owd oln (upd okd (x3).toNatClampNeg (vp_nar .byte (3 : Int32))) ogl olo TL) H := hP
              have hD : va_D A (aW cI cJ cZ cB g0 g1 g2 g3 g4 g5 g6 g7 g8 g9 g10 g11 g12 g13 g14 g15 flt fln ffr sta plc edd lab lbv opr acd akd agl len lin att stp fol skd snm snu byt ncn nsy nns nvs ntd lvs ltd ocn opl owd oln (upd okd (x3).toNatClampNeg (vp_nar .byte (3 : Int32))) ogl olo TL) := hD
              refine lv_aload_n hx hb d_O_closeLocal_54 rfl (lv_at hl 3 rfl) ?_
              refine va_get (D := D) (ci := 6) (v := .ref g14) (C := "SignMachine$Output") (T := F_O) (N := 7) hx hb hk fi_O hown hK.1 hP 9 rfl rfl 4 (by decide) (hk _ k_611) (fun _ h9 => h9) rfl d_O_closeLocal_55 ?_
              refine lv_iload_n hx hb d_O_closeLocal_58 rfl (lv_at hl 2 rfl) ?_
              refine lv_iload_n hx hb d_O_closeLocal_59 rfl (lv_at hl 5 rfl) ?_
              refine va_iast hx hb hK.1 hP hD hS 14 0 rfl rfl (o_in c4) d_O_closeLocal_60 (fun H locs hP hD hS => ?_)
              have hP : va_P D classes (aW cI cJ cZ cB g0 g1 g2 g3 g4 g5 g6 g7 g8 g9 g10 g11 g12 g13 g14 g15 flt fln ffr sta plc edd lab lbv opr acd akd agl len lin att stp fol skd snm snu byt ncn nsy nns nvs ntd lvs ltd ocn opl owd oln (upd okd (x3).toNatClampNeg (vp_nar .byte (3 : Int32))) (upd ogl (x3).toNatClampNeg a2) olo TL) H := hP
              have hD : va_D A (aW cI cJ cZ cB g0 g1 g2 g3 g4 g5 g6 g7 g8 g9 g10 g11 g12 g13 g14 g15 flt fln ffr sta plc edd lab lbv opr acd akd agl len lin att stp fol skd snm snu byt ncn nsy nns nvs ntd lvs ltd ocn opl owd oln (upd okd (x3).toNatClampNeg (vp_nar .byte (3 : Int32))) (upd ogl (x3).toNatClampNeg a2) olo TL) := hD
              refine lv_iload hx hb d_O_closeLocal_61 (lv_at hl 0 rfl) ?_
              refine lv_istore_n (lv' := [(3, .int (ogl (x3).toNatClampNeg)), (5, .int (ogl (x3).toNatClampNeg)), (4, .int (nI k)), (0, .ref g9), (1, .int a1), (2, .int a2)]) hx hb d_O_closeLocal_63 rfl hl (by decide) rfl (fun ls hl => ?_)
              refine lv_iinc (v := (nI (k + 1))) (lv' := [(4, .int (nI (k + 1))), (3, .int (ogl (x3).toNatClampNeg)), (5, .int (ogl (x3).toNatClampNeg)), (0, .ref g9), (1, .int a1), (2, .int a2)]) hx hb d_O_closeLocal_64 hl (k := 2) rfl (nI_1 k) (by decide) rfl (fun ls hl => ?_)
              refine lv_goto (tgt := 24) hx hb d_O_closeLocal_67 (by decide) ?_
              exact ih (k + 1) (ogl (x3).toNatClampNeg) (upd okd (x3).toNatClampNeg (vp_nar .byte (3 : Int32))) (upd ogl (x3).toNatClampNeg a2) olo H _ ls (lp_step hn1 hk1 c3).2 (lp_step hn1 hk1 c3).1 (by rw [hX]; simp only [g_O_closeLocal, if_neg c3, if_neg c4]) hP hD hS (lv_sub hl [0, 1, 3, 4, 5] rfl)
      exact LP (((1101 : Int32)).toInt.toNat + 1) 0 (olo (a1).toNatClampNeg) okd ogl olo s.heap _ ls (Nat.zero_le _) (by omega) (by rw [← hXe]; simp only [f_O_closeLocal, if_neg c1, if_pos c2]) hP hD hS (lv_sub hl [0, 1, 2, 3, 4] rfl)
    · exact W.vret hx hb hr (fun t ht hW => ⟨⟨(okd, ogl, olo), rfl, by rw [← hXe]; simp only [f_O_closeLocal, if_neg c1, if_neg c2], by show va_P D classes _ t.heap; rw [ht]; exact hP⟩, hS.F ht⟩) hS.2.2 d_O_closeLocal_13
theorem v_O_closeLocal {R : Room} {s : State} {args : Array Value} {own : String} {index : Nat} (hk : ∀ w ∈ tb, w.before args s = true) (hl : Cond.methodLink own index y_O_closeLocal ∈ tb) (hR : 1 + 1 ≤ R.frames ∧ 8 + (6 + 11) + 20 ≤ R.locals) : CallW R s args own "SignMachine$Output" index y_O_closeLocal b_O_closeLocal 6 none (.code y_O_closeLocal b_O_closeLocal 6 none :: tb) ({ frames := 1, cells := 0, slots := 0, locals := 20 }) 0 0 2 := mk_v 2 hk k_916 hl k_914 k_915 k_126 rfl rfl h_O_closeLocal hR
def g_R_readToken (stp : Int32) (byt : Nat → Int32) : Nat → Nat → Int32 → Int64 → Int64 → Int32 → Int32 → (Int32) → (Int32) → (Int64) → (Int32) → (Int32) × (Int32) × (Int64) × (Int32)
  | 0, _, _, _, _, _, _, att, skd, snm, snu => (att, skd, snm, snu)
  | n + 1, k, x1, x2, x4, x6, x7, att, skd, snm, snu => (if (10 : Int32) < (nI k) then (if x1 = (0 : Int32) then (if x6 = (0 : Int32) then (if x1 ≤ (10 : Int32) then (att, (0 : Int32), x2, ((x4 &&& (1073741823 : Int64)) : Int64).toInt32) else (att, (4 : Int32), x2, ((x4 &&& (1073741823 : Int64)) : Int64).toInt32)) else (if x1 ≤ (8 : Int32) then (att, (0 : Int32), x2, ((x4 &&& (1073741823 : Int64)) : Int64).toInt32) else (att, (4 : Int32), x2, ((x4 &&& (1073741823 : Int64)) : Int64).toInt32))) else (if x6 = (0 : Int32) then (if x1 ≤ (10 : Int32) then (att, (1 : Int32), x2, ((x4 &&& (1073741823 : Int64)) : Int64).toInt32) else (att, (4 : Int32), x2, ((x4 &&& (1073741823 : Int64)) : Int64).toInt32)) else (if x1 ≤ (8 : Int32) then (att, (2 : Int32), x2, ((x4 &&& (1073741823 : Int64)) : Int64).toInt32) else (att, (4 : Int32), x2, ((x4 &&& (1073741823 : Int64)) : Int64).toInt32)))) else (if x7 = (0 : Int32) then (if x1 = (0 : Int32) then (if x6 = (0 : Int32) then (if x1 ≤ (10 : Int32) then (att, (0 : Int32), x2, ((x4 &&& (1073741823 : Int64)) : Int64).toInt32) else (att, (4 : Int32), x2, ((x4 &&& (1073741823 : Int64)) : Int64).toInt32)) else (if x1 ≤ (8 : Int32) then (att, (0 : Int32), x2, ((x4 &&& (1073741823 : Int64)) : Int64).toInt32) else (att, (4 : Int32), x2, ((x4 &&& (1073741823 : Int64)) : Int64).toInt32))) else (if x6 = (0 : Int32) then (if x1 ≤ (10 : Int32) then (att, (1 : Int32), x2, ((x4 &&& (1073741823 : Int64)) : Int64).toInt32) else (att, (4 : Int32), x2, ((x4 &&& (1073741823 : Int64)) : Int64).toInt32)) else (if x1 ≤ (8 : Int32) then (att, (2 : Int32), x2, ((x4 &&& (1073741823 : Int64)) : Int64).toInt32) else (att, (4 : Int32), x2, ((x4 &&& (1073741823 : Int64)) : Int64).toInt32)))) else (if x6 = (0 : Int32) then (if (bI (f_N_isLetter x7)) = (0 : Int32) then (g_R_readToken stp byt n (k + 1) (x1 + (1 : Int32)) ((x2 <<< (((6 : Int32) : Int32).toInt64 &&& 63)) ||| (x7 : Int32).toInt64) ((x4 * (10 : Int64)) + ((f_N_digitOf x7) : Int32).toInt64) (0 : Int32) (f_N_codeOf (f_R_peek (att + (1 : Int32)) stp byt )) (att + (1 : Int32)) skd snm snu) else (g_R_readToken stp byt n (k + 1) (x1 + (1 : Int32)) ((x2 <<< (((6 : Int32) : Int32).toInt64 &&& 63)) ||| (x7 : Int32).toInt64) ((x4 * (10 : Int64)) + ((0 : Int32) : Int32).toInt64) (1 : Int32) (f_N_codeOf (f_R_peek (att + (1 : Int32)) stp byt )) (att + (1 : Int32)) skd snm snu)) else (if (bI (f_N_isLetter x7)) = (0 : Int32) then (g_R_readToken stp byt n (k + 1) (x1 + (1 : Int32)) ((x2 <<< (((6 : Int32) : Int32).toInt64 &&& 63)) ||| (x7 : Int32).toInt64) ((x4 * (10 : Int64)) + ((f_N_digitOf x7) : Int32).toInt64) (1 : Int32) (f_N_codeOf (f_R_peek (att + (1 : Int32)) stp byt )) (att + (1 : Int32)) skd snm snu) else (g_R_readToken stp byt n (k + 1) (x1 + (1 : Int32)) ((x2 <<< (((6 : Int32) : Int32).toInt64 &&& 63)) ||| (x7 : Int32).toInt64) ((x4 * (10 : Int64)) + ((0 : Int32) : Int32).toInt64) (1 : Int32) (f_N_codeOf (f_R_peek (att + (1 : Int32)) stp byt )) (att + (1 : Int32)) skd snm snu)))))
def f_R_readToken (att : Int32) (stp : Int32) (skd : Int32) (snm : Int64) (snu : Int32) (byt : Nat → Int32)  : (Int32) × (Int32) × (Int64) × (Int32) := (if (f_R_peek att stp byt ) = (42 : Int32) then ((att + (1 : Int32)), (3 : Int32), snm, snu) else (g_R_readToken stp byt (((11 : Int32)).toInt.toNat + 1) 0 (0 : Int32) (0 : Int64) (0 : Int64) (0 : Int32) (f_N_codeOf (f_R_peek att stp byt )) att skd snm snu))
set_option maxHeartbeats 4000000 in
set_option maxRecDepth 100000 in
theorem c_R_readToken (l : Launch) (D : va_G) (cI cJ cZ cB : ClassId) (g0 g1 g2 g3 g4 g5 g6 g7 g8 g9 g10 g11 g12 g13 g14 g15 : Nat) (sz : Nat) (flt : Int32) (fln : Int32) (ffr : Int32) (sta : Int32) (plc : Int32) (edd : Int32) (lab : Int64) (lbv : Int32) (opr : Option Nat) (acd : Int32) (akd : Int32) (agl : Int32) (len : Int32) (lin : Int32) (att : Int32) (stp : Int32) (fol : Int32) (skd : Int32) (snm : Int64) (snu : Int32) (byt : Nat → Int32) (ncn : Int32) (nsy : Int32) (nns : Nat → Int64) (nvs : Nat → Int32) (ntd : Nat → Int32) (lvs : Nat → Int32) (ltd : Nat → Int32) (ocn : Int32) (opl : Nat → Int32) (owd : Nat → Int32) (oln : Nat → Int32) (okd : Nat → Int32) (ogl : Nat → Int32) (olo : Nat → Int32) (TL : va_W)  : Met l y_R_readToken (.code y_R_readToken b_R_readToken 9 none :: tb) ({ frames := 1, cells := 0, slots := 0, locals := 20 }) (pM D cI cJ cZ cB (aW cI cJ cZ cB g0 g1 g2 g3 g4 g5 g6 g7 g8 g9 g10 g11 g12 g13 g14 g15 flt fln ffr sta plc edd lab lbv opr acd akd agl len lin att stp fol skd snm snu byt ncn nsy nns nvs ntd lvs ltd ocn opl owd oln okd ogl olo TL) sz [.ref g1]) (qV D (fun u => u = f_R_readToken att stp skd snm snu byt) (fun (u : (Int32) × (Int32) × (Int64) × (Int32)) => match u with | (u_att, u_skd, u_snm, u_snu) => (aW cI cJ cZ cB g0 g1 g2 g3 g4 g5 g6 g7 g8 g9 g10 g11 g12 g13 g14 g15 flt fln ffr sta plc edd lab lbv opr acd akd agl len lin u_att stp fol u_skd u_snm u_snu byt ncn nsy nns nvs ntd lvs ltd ocn opl owd oln okd ogl olo TL)) (va_A (aW cI cJ cZ cB g0 g1 g2 g3 g4 g5 g6 g7 g8 g9 g10 g11 g12 g13 g14 g15 flt fln ffr sta plc edd lab lbv opr acd akd agl len lin att stp fol skd snm snu byt ncn nsy nns nvs ntd lvs ltd ocn opl owd oln okd ogl olo TL) sz)) 0 0 (va_A (aW cI cJ cZ cB g0 g1 g2 g3 g4 g5 g6 g7 g8 g9 g10 g11 g12 g13 g14 g15 flt fln ffr sta plc edd lab lbv opr acd akd agl len lin att stp fol skd snm snu byt ncn nsy nns nvs ntd lvs ltd ocn opl owd oln okd ogl olo TL) sz) := by
  refine Met.ofW (cc := b_R_readToken) (maxL := 9) (ret := none) (by decide) rfl ?_
  intro p e s m args below meth c s₁ B hml hv
  obtain ⟨rfl, hsz, hK, hP, hD0⟩ := hv
  subst hsz
  have hD := hD0.self (sz := s.heap.size)
  generalize hAe : va_A (aW cI cJ cZ cB g0 g1 g2 g3 g4 g5 g6 g7 g8 g9 g10 g11 g12 g13 g14 g15 flt fln ffr sta plc edd lab lbv opr acd akd agl len lin att stp fol skd snm snu byt ncn nsy nns nvs ntd lvs ltd ocn opl owd oln okd ogl olo TL) s.heap.size = A at hD ⊢
  have hA : ∀ q : Nat, s.heap.size ≤ q → A q := fun q h => by rw [← hAe]; exact Or.inr h
  have hS : va_S A s.heap s.heap [] := va_S.rf
  have hx := B.exec
  have hb := B.bytes
  have hr := B.returns
  have hts := atoms_spec (ws := .code y_R_readToken b_R_readToken 9 none :: tb) B.pre
  have hk : ∀ w ∈ tb, w.before [.ref g1].toArray s = true := fun w h => hts w (List.mem_cons_of_mem _ h)
  have hown : s.vm.findClass "SignMachine$Source" = some m.cls := findClass_of_methodNamed B.named
  have hlocks := B.notSynchronized
  have hl := lv_entry ([.ref g1]) (n := 9) (Nat.le_of_ble_eq_true rfl)
  rw [lg_entry_eq]
  generalize (lg_sl ([.ref g1]) ++ List.replicate (9 - (lg_sl ([.ref g1])).length) Slot.unset).toArray = ls at hl ⊢
  have hl : lv_has ls 9 [(0, .ref g1)] := hl
  generalize hXe : f_R_readToken att stp skd snm snu byt = X
  refine lv_aload_n hx hb d_R_readToken_0 rfl (lv_at hl 0 rfl) ?_
  refine cs_i (W.runV (C := "SignMachine$Source") (As := []) (rest := []) ⟨hx, hb, hml, hown, hk⟩ (c_R_peek l D cI cJ cZ cB g0 g1 g2 g3 g4 g5 g6 g7 g8 g9 g10 g11 g12 g13 g14 g15 flt fln ffr sta plc edd lab lbv opr acd akd agl len lin att stp fol skd snm snu byt ncn nsy nns nvs ntd lvs ltd ocn opl owd oln okd ogl olo TL ) (v_R_peek hk k_747 ⟨Nat.le_of_ble_eq_true rfl, Nat.le_of_ble_eq_true rfl⟩) (pR_v hK hP (ci := 4) (q0 := 1) rfl rfl rfl) rfl rfl hl.1 rfl (lv_room (Nat.le_of_ble_eq_true rfl)) d_R_readToken_1 ⟨Nat.le_of_ble_eq_true rfl, Nat.le_of_ble_eq_true rfl⟩) ?_
  refine lv_bipush (v := 42) hx hb d_R_readToken_4 (by decide) ?_
  refine lv_icmp_ne (tgt := 25) hx hb d_R_readToken_6 (by decide) (fun c1 => ?_) (fun c1 => ?_)
  · refine lv_iconst (v := 0) hx hb d_R_readToken_25 (by decide) ?_
    refine lv_istore_n (lv' := [(1, .int (0 : Int32)), (0, .ref g1)]) hx hb d_R_readToken_26 rfl hl (by decide) rfl (fun ls hl => ?_)
    refine lv_lconst (v := 0) hx hb d_R_readToken_27 (by decide) ?_
    refine lv_lstore_n (lv' := [(2, .long (0 : Int64)), (1, .int (0 : Int32)), (0, .ref g1)]) hx hb d_R_readToken_28 rfl hl (by decide) rfl (fun ls hl => ?_)
    refine lv_lconst (v := 0) hx hb d_R_readToken_29 (by decide) ?_
    refine lv_lstore (lv' := [(4, .long (0 : Int64)), (2, .long (0 : Int64)), (1, .int (0 : Int32)), (0, .ref g1)]) hx hb d_R_readToken_30 hl (by decide) rfl (fun ls hl => ?_)
    refine lv_iconst (v := 0) hx hb d_R_readToken_32 (by decide) ?_
    refine lv_istore (lv' := [(6, .int (0 : Int32)), (4, .long (0 : Int64)), (2, .long (0 : Int64)), (1, .int (0 : Int32)), (0, .ref g1)]) hx hb d_R_readToken_33 hl (by decide) rfl (fun ls hl => ?_)
    refine lv_aload_n hx hb d_R_readToken_35 rfl (lv_at hl 4 rfl) ?_
    refine cs_i (W.runV (C := "SignMachine$Source") (As := []) (rest := []) ⟨hx, hb, hml, hown, hk⟩ (c_R_peek l D cI cJ cZ cB g0 g1 g2 g3 g4 g5 g6 g7 g8 g9 g10 g11 g12 g13 g14 g15 flt fln ffr sta plc edd lab lbv opr acd akd agl len lin att stp fol skd snm snu byt ncn nsy nns nvs ntd lvs ltd ocn opl owd oln okd ogl olo TL ) (v_R_peek hk k_747 ⟨Nat.le_of_ble_eq_true rfl, Nat.le_of_ble_eq_true rfl⟩) (pR_v hK hP (ci := 4) (q0 := 1) rfl rfl rfl) rfl rfl hl.1 rfl (lv_room (Nat.le_of_ble_eq_true rfl)) d_R_readToken_36 ⟨Nat.le_of_ble_eq_true rfl, Nat.le_of_ble_eq_true rfl⟩) ?_
    refine cs_i (W.runS (As := [.int (f_R_peek att stp byt )]) (rest := []) ⟨hx, hb, hml, hown, hk⟩ (c_N_codeOf l (f_R_peek att stp byt )) (s_N_codeOf hk k_756 ⟨Nat.le_of_ble_eq_true rfl, Nat.le_of_ble_eq_true rfl⟩) ⟨fun a U g mk q => q, fun U hU hW => ⟨rfl, trivial⟩⟩ rfl rfl hl.1 rfl (lv_room (Nat.le_of_ble_eq_true rfl)) d_R_readToken_39 ⟨Nat.le_of_ble_eq_true rfl, Nat.le_of_ble_eq_true rfl⟩) ?_
    refine lv_istore (lv' := [(7, .int (f_N_codeOf (f_R_peek att stp byt ))), (6, .int (0 : Int32)), (4, .long (0 : Int64)), (2, .long (0 : Int64)), (1, .int (0 : Int32)), (0, .ref g1)]) hx hb d_R_readToken_42 hl (by decide) rfl (fun ls hl => ?_)
    refine lv_iconst (v := 0) hx hb d_R_readToken_44 (by decide) ?_
    refine lv_istore (lv' := [(8, .int (0 : Int32)), (7, .int (f_N_codeOf (f_R_peek att stp byt ))), (6, .int (0 : Int32)), (4, .long (0 : Int64)), (2, .long (0 : Int64)), (1, .int (0 : Int32)), (0, .ref g1)]) hx hb d_R_readToken_45 hl (by decide) rfl (fun ls hl => ?_)
    have LP : ∀ (n k : Nat) (x1 : Int32) (x2 : Int64) (x4 : Int64) (x6 : Int32) (x7 : Int32) (att : Int32) (skd : Int32) (snm : Int64) (snu : Int32) (H : Heap) (locs : List Loc) (ls : Array Slot), k ≤ ((11 : Int32)).toInt.toNat → ((11 : Int32)).toInt.toNat - k < n → X = g_R_readToken stp byt n k x1 x2 x4 x6 x7 att skd snm snu → va_P D classes (aW cI cJ cZ cB g0 g1 g2 g3 g4 g5 g6 g7 g8 g9 g10 g11 g12 g13 g14 g15 flt fln ffr sta plc edd lab lbv opr acd akd agl len lin att stp fol skd snm snu byt ncn nsy nns nvs ntd lvs ltd ocn opl owd oln okd ogl olo TL) H → va_D A (aW cI cJ cZ cB g0 g1 g2 g3 g4 g5 g6 g7 g8 g9 g10 g11 g12 g13 g14 g15 flt fln ffr sta plc edd lab lbv opr acd akd agl len lin att stp fol skd snm snu byt ncn nsy nns nvs ntd lvs ltd ocn opl owd oln okd ogl olo TL) → va_S A s.heap H locs → lv_has ls 9 [(8, .int (nI k)), (7, .int x7), (6, .int x6), (4, .long x4), (2, .long x2), (1, .int x1), (0, .ref g1)] → W p l e ({ frames := 1, cells := 0, slots := 0, locals := 20 }) s m [.ref g1].toArray below meth c H locs 0 0 (MQ below (qV D (fun u => u = X) (fun (u : (Int32) × (Int32) × (Int64) × (Int32)) => match u with | (u_att, u_skd, u_snm, u_snu) => (aW cI cJ cZ cB g0 g1 g2 g3 g4 g5 g6 g7 g8 g9 g10 g11 g12 g13 g14 g15 flt fln ffr sta plc edd lab lbv opr acd akd agl len lin u_att stp fol u_skd u_snm u_snu byt ncn nsy nns nvs ntd lvs ltd ocn opl owd oln okd ogl olo TL)) A) [.ref g1].toArray s 0 0 A) (F0 m 47 ls []) := by
      intro n
      induction n with
      | zero => intro k x1 x2 x4 x6 x7 att skd snm snu H locs ls hk1 hn1; exact absurd hn1 (Nat.not_lt_zero _)
      | succ n ih =>
        intro k x1 x2 x4 x6 x7 att skd snm snu H locs ls hk1 hn1 hX hP hD hS hl
        refine lv_iload hx hb d_R_readToken_47 (lv_at hl 0 rfl) ?_
        refine lv_bipush (v := 10) hx hb d_R_readToken_49 (by decide) ?_
        refine lv_icmp_gt (tgt := 143) hx hb d_R_readToken_51 (by decide) (fun c2 => ?_) (fun c2 => ?_)
        · refine lv_aload_n hx hb d_R_readToken_143 rfl (lv_at hl 6 rfl) ?_
          refine lv_iload_n hx hb d_R_readToken_144 rfl (lv_at hl 5 rfl) ?_
          refine lv_if_ne (tgt := 152) hx hb d_R_readToken_145 (by decide) (fun c3 => ?_) (fun c3 => ?_)
          · refine lv_iload hx hb d_R_readToken_152 (lv_at hl 2 rfl) ?_
            refine lv_if_eq (tgt := 161) hx hb d_R_readToken_154 (by decide) (fun c4 => ?_) (fun c4 => ?_)
            · refine lv_iconst (v := 1) hx hb d_R_readToken_161 (by decide) ?_
              refine va_put (D := D) (ci := 4) (v := .int (1 : Int32)) (ty := .int) (C := "SignMachine$Source") (T := F_R) (N := 9) hx hb hk fi_R ft_R ft_R_ok fn_R hown hK.1 hP hD hS 1 rfl rfl 6 (by decide) (hk _ k_545) (fun _ h9 => h9) rfl (by decide +kernel) rfl rfl (Nat.le_of_ble_eq_true rfl) d_R_readToken_162 (fun H locs hP hD hS => ?_)
              have hP : va_P D classes (aW cI cJ cZ cB g0 g1 g2 g3 g4 g5 g6 g7 g8 g9 g10 g11 g12 g13 g14 g15 flt fln ffr sta plc edd lab lbv opr acd akd agl len lin att stp fol (1 : Int32) snm snu byt ncn nsy nns nvs ntd lvs ltd ocn opl owd oln okd ogl olo TL) H := hP
              have hD : va_D A (aW cI cJ cZ cB g0 g1 g2 g3 g4 g5 g6 g7 g8 g9 g10 g11 g12 g13 g14 g15 flt fln ffr sta plc edd lab lbv opr acd akd agl len lin att stp fol (1 : Int32) snm snu byt ncn nsy nns nvs ntd lvs ltd ocn opl owd oln okd ogl olo TL) := hD
              refine lv_iload_n hx hb d_R_readToken_165 rfl (lv_at hl 5 rfl) ?_
              refine lv_iload hx hb d_R_readToken_166 (lv_at hl 2 rfl) ?_
              refine lv_if_eq (tgt := 176) hx hb d_R_readToken_168 (by decide) (fun c5 => ?_) (fun c5 => absurd c4 c5)
              refine lv_bipush (v := 10) hx hb d_R_readToken_176 (by decide) ?_
              refine lv_icmp_le (tgt := 186) hx hb d_R_readToken_178 (by decide) (fun c6 => ?_) (fun c6 => ?_)
              · refine lv_aload_n hx hb d_R_readToken_186 rfl (lv_at hl 6 rfl) ?_
                refine lv_lload_n hx hb d_R_readToken_187 rfl (lv_at hl 4 rfl) ?_
                refine va_put (D := D) (ci := 4) (v := .long x2) (ty := .long) (C := "SignMachine$Source") (T := F_R) (N := 9) hx hb hk fi_R ft_R ft_R_ok fn_R hown hK.1 hP hD hS 1 rfl rfl 7 (by decide) (hk _ k_547) (fun _ h9 => h9) rfl (by decide +kernel) rfl rfl (Nat.le_of_ble_eq_true rfl) d_R_readToken_188 (fun H locs hP hD hS => ?_)
                have hP : va_P D classes (aW cI cJ cZ cB g0 g1 g2 g3 g4 g5 g6 g7 g8 g9 g10 g11 g12 g13 g14 g15 flt fln ffr sta plc edd lab lbv opr acd akd agl len lin att stp fol (1 : Int32) x2 snu byt ncn nsy nns nvs ntd lvs ltd ocn opl owd oln okd ogl olo TL) H := hP
                have hD : va_D A (aW cI cJ cZ cB g0 g1 g2 g3 g4 g5 g6 g7 g8 g9 g10 g11 g12 g13 g14 g15 flt fln ffr sta plc edd lab lbv opr acd akd agl len lin att stp fol (1 : Int32) x2 snu byt ncn nsy nns nvs ntd lvs ltd ocn opl owd oln okd ogl olo TL) := hD
                refine lv_aload_n hx hb d_R_readToken_191 rfl (lv_at hl 6 rfl) ?_
                refine lv_lload hx hb d_R_readToken_192 (lv_at hl 3 rfl) ?_
                refine lv_ldc2 (v := 1073741823) hx hb hown (hk _ k_766) d_R_readToken_194 ?_
                refine lv_land hx hb d_R_readToken_197 ?_
                refine lv_l2i (v := ((x4 &&& (1073741823 : Int64)) : Int64).toInt32) hx hb d_R_readToken_198 rfl ?_
                refine va_put (D := D) (ci := 4) (v := .int ((x4 &&& (1073741823 : Int64)) : Int64).toInt32) (ty := .int) (C := "SignMachine$Source") (T := F_R) (N := 9) hx hb hk fi_R ft_R ft_R_ok fn_R hown hK.1 hP hD hS 1 rfl rfl 8 (by decide) (hk _ k_548) (fun _ h9 => h9) rfl (by decide +kernel) rfl rfl (Nat.le_of_ble_eq_true rfl) d_R_readToken_199 (fun H locs hP hD hS => ?_)
                have hP : va_P D classes (aW cI cJ cZ cB g0 g1 g2 g3 g4 g5 g6 g7 g8 g9 g10 g11 g12 g13 g14 g15 flt fln ffr sta plc edd lab lbv opr acd akd agl len lin att stp fol (1 : Int32) x2 ((x4 &&& (1073741823 : Int64)) : Int64).toInt32 byt ncn nsy nns nvs ntd lvs ltd ocn opl owd oln okd ogl olo TL) H := hP
                have hD : va_D A (aW cI cJ cZ cB g0 g1 g2 g3 g4 g5 g6 g7 g8 g9 g10 g11 g12 g13 g14 g15 flt fln ffr sta plc edd lab lbv opr acd akd agl len lin att stp fol (1 : Int32) x2 ((x4 &&& (1073741823 : Int64)) : Int64).toInt32 byt ncn nsy nns nvs ntd lvs ltd ocn opl owd oln okd ogl olo TL) := hD
                exact W.vret hx hb hr (fun t ht hW => ⟨⟨(att, (1 : Int32), x2, ((x4 &&& (1073741823 : Int64)) : Int64).toInt32), rfl, by rw [hX]; simp only [g_R_readToken, if_pos c2, if_neg c3, if_pos c4, if_pos c6], by show va_P D classes _ t.heap; rw [ht]; exact hP⟩, hS.F ht⟩) hS.2.2 d_R_readToken_202
              · refine lv_aload_n hx hb d_R_readToken_181 rfl (lv_at hl 6 rfl) ?_
                refine lv_iconst (v := 4) hx hb d_R_readToken_182 (by decide) ?_
                refine va_put (D := D) (ci := 4) (v := .int (4 : Int32)) (ty := .int) (C := "SignMachine$Source") (T := F_R) (N := 9) hx hb hk fi_R ft_R ft_R_ok fn_R hown hK.1 hP hD hS 1 rfl rfl 6 (by decide) (hk _ k_545) (fun _ h9 => h9) rfl (by decide +kernel) rfl rfl (Nat.le_of_ble_eq_true rfl) d_R_readToken_183 (fun H locs hP hD hS => ?_)
                have hP : va_P D classes (aW cI cJ cZ cB g0 g1 g2 g3 g4 g5 g6 g7 g8 g9 g10 g11 g12 g13 g14 g15 flt fln ffr sta plc edd lab lbv opr acd akd agl len lin att stp fol (4 : Int32) snm snu byt ncn nsy nns nvs ntd lvs ltd ocn opl owd oln okd ogl olo TL) H := hP
                have hD : va_D A (aW cI cJ cZ cB g0 g1 g2 g3 g4 g5 g6 g7 g8 g9 g10 g11 g12 g13 g14 g15 flt fln ffr sta plc edd lab lbv opr acd akd agl len lin att stp fol (4 : Int32) snm snu byt ncn nsy nns nvs ntd lvs ltd ocn opl owd oln okd ogl olo TL) := hD
                refine lv_aload_n hx hb d_R_readToken_186 rfl (lv_at hl 6 rfl) ?_
                refine lv_lload_n hx hb d_R_readToken_187 rfl (lv_at hl 4 rfl) ?_
                refine va_put (D := D) (ci := 4) (v := .long x2) (ty := .long) (C := "SignMachine$Source") (T := F_R) (N := 9) hx hb hk fi_R ft_R ft_R_ok fn_R hown hK.1 hP hD hS 1 rfl rfl 7 (by decide) (hk _ k_547) (fun _ h9 => h9) rfl (by decide +kernel) rfl rfl (Nat.le_of_ble_eq_true rfl) d_R_readToken_188 (fun H locs hP hD hS => ?_)
                have hP : va_P D classes (aW cI cJ cZ cB g0 g1 g2 g3 g4 g5 g6 g7 g8 g9 g10 g11 g12 g13 g14 g15 flt fln ffr sta plc edd lab lbv opr acd akd agl len lin att stp fol (4 : Int32) x2 snu byt ncn nsy nns nvs ntd lvs ltd ocn opl owd oln okd ogl olo TL) H := hP
                have hD : va_D A (aW cI cJ cZ cB g0 g1 g2 g3 g4 g5 g6 g7 g8 g9 g10 g11 g12 g13 g14 g15 flt fln ffr sta plc edd lab lbv opr acd akd agl len lin att stp fol (4 : Int32) x2 snu byt ncn nsy nns nvs ntd lvs ltd ocn opl owd oln okd ogl olo TL) := hD
                refine lv_aload_n hx hb d_R_readToken_191 rfl (lv_at hl 6 rfl) ?_
                refine lv_lload hx hb d_R_readToken_192 (lv_at hl 3 rfl) ?_
                refine lv_ldc2 (v := 1073741823) hx hb hown (hk _ k_766) d_R_readToken_194 ?_
                refine lv_land hx hb d_R_readToken_197 ?_
                refine lv_l2i (v := ((x4 &&& (1073741823 : Int64)) : Int64).toInt32) hx hb d_R_readToken_198 rfl ?_
                refine va_put (D := D) (ci := 4) (v := .int ((x4 &&& (1073741823 : Int64)) : Int64).toInt32) (ty := .int) (C := "SignMachine$Source") (T := F_R) (N := 9) hx hb hk fi_R ft_R ft_R_ok fn_R hown hK.1 hP hD hS 1 rfl rfl 8 (by decide) (hk _ k_548) (fun _ h9 => h9) rfl (by decide +kernel) rfl rfl (Nat.le_of_ble_eq_true rfl) d_R_readToken_199 (fun H locs hP hD hS => ?_)
                have hP : va_P D classes (aW cI cJ cZ cB g0 g1 g2 g3 g4 g5 g6 g7 g8 g9 g10 g11 g12 g13 g14 g15 flt fln ffr sta plc edd lab lbv opr acd akd agl len lin att stp fol (4 : Int32) x2 ((x4 &&& (1073741823 : Int64)) : Int64).toInt32 byt ncn nsy nns nvs ntd lvs ltd ocn opl owd oln okd ogl olo TL) H := hP
                have hD : va_D A (aW cI cJ cZ cB g0 g1 g2 g3 g4 g5 g6 g7 g8 g9 g10 g11 g12 g13 g14 g15 flt fln ffr sta plc edd lab lbv opr acd akd agl len lin att stp fol (4 : Int32) x2 ((x4 &&& (1073741823 : Int64)) : Int64).toInt32 byt ncn nsy nns nvs ntd lvs ltd ocn opl owd oln okd ogl olo TL) := hD
                exact W.vret hx hb hr (fun t ht hW => ⟨⟨(att, (4 : Int32), x2, ((x4 &&& (1073741823 : Int64)) : Int64).toInt32), rfl, by rw [hX]; simp only [g_R_readToken, if_pos c2, if_neg c3, if_pos c4, if_neg c6], by show va_P D classes _ t.heap; rw [ht]; exact hP⟩, hS.F ht⟩) hS.2.2 d_R_readToken_202
            · refine lv_iconst (v := 2) hx hb d_R_readToken_157 (by decide) ?_
              refine lv_goto (tgt := 162) hx hb d_R_readToken_158 (by decide) ?_
              refine va_put (D := D) (ci := 4) (v := .int (2 : Int32)) (ty := .int) (C := "SignMachine$Source") (T := F_R) (N := 9) hx hb hk fi_R ft_R ft_R_ok fn_R hown hK.1 hP hD hS 1 rfl rfl 6 (by decide) (hk _ k_545) (fun _ h9 => h9) rfl (by decide +kernel) rfl rfl (Nat.le_of_ble_eq_true rfl) d_R_readToken_162 (fun H locs hP hD hS => ?_)
              have hP : va_P D classes (aW cI cJ cZ cB g0 g1 g2 g3 g4 g5 g6 g7 g8 g9 g10 g11 g12 g13 g14 g15 flt fln ffr sta plc edd lab lbv opr acd akd agl len lin att stp fol (2 : Int32) snm snu byt ncn nsy nns nvs ntd lvs ltd ocn opl owd oln okd ogl olo TL) H := hP
              have hD : va_D A (aW cI cJ cZ cB g0 g1 g2 g3 g4 g5 g6 g7 g8 g9 g10 g11 g12 g13 g14 g15 flt fln ffr sta plc edd lab lbv opr acd akd agl len lin att stp fol (2 : Int32) snm snu byt ncn nsy nns nvs ntd lvs ltd ocn opl owd oln okd ogl olo TL) := hD
              refine lv_iload_n hx hb d_R_readToken_165 rfl (lv_at hl 5 rfl) ?_
              refine lv_iload hx hb d_R_readToken_166 (lv_at hl 2 rfl) ?_
              refine lv_if_eq (tgt := 176) hx hb d_R_readToken_168 (by decide) (fun c7 => absurd c7 c4) (fun c7 => ?_)
              refine lv_bipush (v := 8) hx hb d_R_readToken_171 (by decide) ?_
              refine lv_goto (tgt := 178) hx hb d_R_readToken_173 (by decide) ?_
              refine lv_icmp_le (tgt := 186) hx hb d_R_readToken_178 (by decide) (fun c8 => ?_) (fun c8 => ?_)
              · refine lv_aload_n hx hb d_R_readToken_186 rfl (lv_at hl 6 rfl) ?_
                refine lv_lload_n hx hb d_R_readToken_187 rfl (lv_at hl 4 rfl) ?_
                refine va_put (D := D) (ci := 4) (v := .long x2) (ty := .long) (C := "SignMachine$Source") (T := F_R) (N := 9) hx hb hk fi_R ft_R ft_R_ok fn_R hown hK.1 hP hD hS 1 rfl rfl 7 (by decide) (hk _ k_547) (fun _ h9 => h9) rfl (by decide +kernel) rfl rfl (Nat.le_of_ble_eq_true rfl) d_R_readToken_188 (fun H locs hP hD hS => ?_)
                have hP : va_P D classes (aW cI cJ cZ cB g0 g1 g2 g3 g4 g5 g6 g7 g8 g9 g10 g11 g12 g13 g14 g15 flt fln ffr sta plc edd lab lbv opr acd akd agl len lin att stp fol (2 : Int32) x2 snu byt ncn nsy nns nvs ntd lvs ltd ocn opl owd oln okd ogl olo TL) H := hP
                have hD : va_D A (aW cI cJ cZ cB g0 g1 g2 g3 g4 g5 g6 g7 g8 g9 g10 g11 g12 g13 g14 g15 flt fln ffr sta plc edd lab lbv opr acd akd agl len lin att stp fol (2 : Int32) x2 snu byt ncn nsy nns nvs ntd lvs ltd ocn opl owd oln okd ogl olo TL) := hD
                refine lv_aload_n hx hb d_R_readToken_191 rfl (lv_at hl 6 rfl) ?_
                refine lv_lload hx hb d_R_readToken_192 (lv_at hl 3 rfl) ?_
                refine lv_ldc2 (v := 1073741823) hx hb hown (hk _ k_766) d_R_readToken_194 ?_
                refine lv_land hx hb d_R_readToken_197 ?_
                refine lv_l2i (v := ((x4 &&& (1073741823 : Int64)) : Int64).toInt32) hx hb d_R_readToken_198 rfl ?_
                refine va_put (D := D) (ci := 4) (v := .int ((x4 &&& (1073741823 : Int64)) : Int64).toInt32) (ty := .int) (C := "SignMachine$Source") (T := F_R) (N := 9) hx hb hk fi_R ft_R ft_R_ok fn_R hown hK.1 hP hD hS 1 rfl rfl 8 (by decide) (hk _ k_548) (fun _ h9 => h9) rfl (by decide +kernel) rfl rfl (Nat.le_of_ble_eq_true rfl) d_R_readToken_199 (fun H locs hP hD hS => ?_)
                have hP : va_P D classes (aW cI cJ cZ cB g0 g1 g2 g3 g4 g5 g6 g7 g8 g9 g10 g11 g12 g13 g14 g15 flt fln ffr sta plc edd lab lbv opr acd akd agl len lin att stp fol (2 : Int32) x2 ((x4 &&& (1073741823 : Int64)) : Int64).toInt32 byt ncn nsy nns nvs ntd lvs ltd ocn opl owd oln okd ogl olo TL) H := hP
                have hD : va_D A (aW cI cJ cZ cB g0 g1 g2 g3 g4 g5 g6 g7 g8 g9 g10 g11 g12 g13 g14 g15 flt fln ffr sta plc edd lab lbv opr acd akd agl len lin att stp fol (2 : Int32) x2 ((x4 &&& (1073741823 : Int64)) : Int64).toInt32 byt ncn nsy nns nvs ntd lvs ltd ocn opl owd oln okd ogl olo TL) := hD
                exact W.vret hx hb hr (fun t ht hW => ⟨⟨(att, (2 : Int32), x2, ((x4 &&& (1073741823 : Int64)) : Int64).toInt32), rfl, by rw [hX]; simp only [g_R_readToken, if_pos c2, if_neg c3, if_neg c4, if_pos c8], by show va_P D classes _ t.heap; rw [ht]; exact hP⟩, hS.F ht⟩) hS.2.2 d_R_readToken_202
              · refine lv_aload_n hx hb d_R_readToken_181 rfl (lv_at hl 6 rfl) ?_
                refine lv_iconst (v := 4) hx hb d_R_readToken_182 (by decide) ?_
                refine va_put (D := D) (ci := 4) (v := .int (4 : Int32)) (ty := .int) (C := "SignMachine$Source") (T := F_R) (N := 9) hx hb hk fi_R ft_R ft_R_ok fn_R hown hK.1 hP hD hS 1 rfl rfl 6 (by decide) (hk _ k_545) (fun _ h9 => h9) rfl (by decide +kernel) rfl rfl (Nat.le_of_ble_eq_true rfl) d_R_readToken_183 (fun H locs hP hD hS => ?_)
                have hP : va_P D classes (aW cI cJ cZ cB g0 g1 g2 g3 g4 g5 g6 g7 g8 g9 g10 g11 g12 g13 g14 g15 flt fln ffr sta plc edd lab lbv opr acd akd agl len lin att stp fol (4 : Int32) snm snu byt ncn nsy nns nvs ntd lvs ltd ocn opl owd oln okd ogl olo TL) H := hP
                have hD : va_D A (aW cI cJ cZ cB g0 g1 g2 g3 g4 g5 g6 g7 g8 g9 g10 g11 g12 g13 g14 g15 flt fln ffr sta plc edd lab lbv opr acd akd agl len lin att stp fol (4 : Int32) snm snu byt ncn nsy nns nvs ntd lvs ltd ocn opl owd oln okd ogl olo TL) := hD
                refine lv_aload_n hx hb d_R_readToken_186 rfl (lv_at hl 6 rfl) ?_
                refine lv_lload_n hx hb d_R_readToken_187 rfl (lv_at hl 4 rfl) ?_
                refine va_put (D := D) (ci := 4) (v := .long x2) (ty := .long) (C := "SignMachine$Source") (T := F_R) (N := 9) hx hb hk fi_R ft_R ft_R_ok fn_R hown hK.1 hP hD hS 1 rfl rfl 7 (by decide) (hk _ k_547) (fun _ h9 => h9) rfl (by decide +kernel) rfl rfl (Nat.le_of_ble_eq_true rfl) d_R_readToken_188 (fun H locs hP hD hS => ?_)
                have hP : va_P D classes (aW cI cJ cZ cB g0 g1 g2 g3 g4 g5 g6 g7 g8 g9 g10 g11 g12 g13 g14 g15 flt fln ffr sta plc edd lab lbv opr acd akd agl len lin att stp fol (4 : Int32) x2 snu byt ncn nsy nns nvs ntd lvs ltd ocn opl owd oln okd ogl olo TL) H := hP
                have hD : va_D A (aW cI cJ cZ cB g0 g1 g2 g3 g4 g5 g6 g7 g8 g9 g10 g11 g12 g13 g14 g15 flt fln ffr sta plc edd lab lbv opr acd akd agl len lin att stp fol (4 : Int32) x2 snu byt ncn nsy nns nvs ntd lvs ltd ocn opl owd oln okd ogl olo TL) := hD
                refine lv_aload_n hx hb d_R_readToken_191 rfl (lv_at hl 6 rfl) ?_
                refine lv_lload hx hb d_R_readToken_192 (lv_at hl 3 rfl) ?_
                refine lv_ldc2 (v := 1073741823) hx hb hown (hk _ k_766) d_R_readToken_194 ?_
                refine lv_land hx hb d_R_readToken_197 ?_
                refine lv_l2i (v := ((x4 &&& (1073741823 : Int64)) : Int64).toInt32) hx hb d_R_readToken_198 rfl ?_
                refine va_put (D := D) (ci := 4) (v := .int ((x4 &&& (1073741823 : Int64)) : Int64).toInt32) (ty := .int) (C := "SignMachine$Source") (T := F_R) (N := 9) hx hb hk fi_R ft_R ft_R_ok fn_R hown hK.1 hP hD hS 1 rfl rfl 8 (by decide) (hk _ k_548) (fun _ h9 => h9) rfl (by decide +kernel) rfl rfl (Nat.le_of_ble_eq_true rfl) d_R_readToken_199 (fun H locs hP hD hS => ?_)
                have hP : va_P D classes (aW cI cJ cZ cB g0 g1 g2 g3 g4 g5 g6 g7 g8 g9 g10 g11 g12 g13 g14 g15 flt fln ffr sta plc edd lab lbv opr acd akd agl len lin att stp fol (4 : Int32) x2 ((x4 &&& (1073741823 : Int64)) : Int64).toInt32 byt ncn nsy nns nvs ntd lvs ltd ocn opl owd oln okd ogl olo TL) H := hP
                have hD : va_D A (aW cI cJ cZ cB g0 g1 g2 g3 g4 g5 g6 g7 g8 g9 g10 g11 g12 g13 g14 g15 flt fln ffr sta plc edd lab lbv opr acd akd agl len lin att stp fol (4 : Int32) x2 ((x4 &&& (1073741823 : Int64)) : Int64).toInt32 byt ncn nsy nns nvs ntd lvs ltd ocn opl owd oln okd ogl olo TL) := hD
                exact W.vret hx hb hr (fun t ht hW => ⟨⟨(att, (4 : Int32), x2, ((x4 &&& (1073741823 : Int64)) : Int64).toInt32), rfl, by rw [hX]; simp only [g_R_readToken, if_pos c2, if_neg c3, if_neg c4, if_neg c8], by show va_P D classes _ t.heap; rw [ht]; exact hP⟩, hS.F ht⟩) hS.2.2 d_R_readToken_202
          · refine lv_iconst (v := 0) hx hb d_R_readToken_148 (by decide) ?_
            refine lv_goto (tgt := 162) hx hb d_R_readToken_149 (by decide) ?_
            refine va_put (D := D) (ci := 4) (v := .int (0 : Int32)) (ty := .int) (C := "SignMachine$Source") (T := F_R) (N := 9) hx hb hk fi_R ft_R ft_R_ok fn_R hown hK.1 hP hD hS 1 rfl rfl 6 (by decide) (hk _ k_545) (fun _ h9 => h9) rfl (by decide +kernel) rfl rfl (Nat.le_of_ble_eq_true rfl) d_R_readToken_162 (fun H locs hP hD hS => ?_)
            have hP : va_P D classes (aW cI cJ cZ cB g0 g1 g2 g3 g4 g5 g6 g7 g8 g9 g10 g11 g12 g13 g14 g15 flt fln ffr sta plc edd lab lbv opr acd akd agl len lin att stp fol (0 : Int32) snm snu byt ncn nsy nns nvs ntd lvs ltd ocn opl owd oln okd ogl olo TL) H := hP
            have hD : va_D A (aW cI cJ cZ cB g0 g1 g2 g3 g4 g5 g6 g7 g8 g9 g10 g11 g12 g13 g14 g15 flt fln ffr sta plc edd lab lbv opr acd akd agl len lin att stp fol (0 : Int32) snm snu byt ncn nsy nns nvs ntd lvs ltd ocn opl owd oln okd ogl olo TL) := hD
            refine lv_iload_n hx hb d_R_readToken_165 rfl (lv_at hl 5 rfl) ?_
            refine lv_iload hx hb d_R_readToken_166 (lv_at hl 2 rfl) ?_
            refine lv_if_eq (tgt := 176) hx hb d_R_readToken_168 (by decide) (fun c9 => ?_) (fun c9 => ?_)
            · refine lv_bipush (v := 10) hx hb d_R_readToken_176 (by decide) ?_
              refine lv_icmp_le (tgt := 186) hx hb d_R_readToken_178 (by decide) (fun c10 => ?_) (fun c10 => ?_)
              · refine lv_aload_n hx hb d_R_readToken_186 rfl (lv_at hl 6 rfl) ?_
                refine lv_lload_n hx hb d_R_readToken_187 rfl (lv_at hl 4 rfl) ?_
                refine va_put (D := D) (ci := 4) (v := .long x2) (ty := .long) (C := "SignMachine$Source") (T := F_R) (N := 9) hx hb hk fi_R ft_R ft_R_ok fn_R hown hK.1 hP hD hS 1 rfl rfl 7 (by decide) (hk _ k_547) (fun _ h9 => h9) rfl (by decide +kernel) rfl rfl (Nat.le_of_ble_eq_true rfl) d_R_readToken_188 (fun H locs hP hD hS => ?_)
                have hP : va_P D classes (aW cI cJ cZ cB g0 g1 g2 g3 g4 g5 g6 g7 g8 g9 g10 g11 g12 g13 g14 g15 flt fln ffr sta plc edd lab lbv opr acd akd agl len lin att stp fol (0 : Int32) x2 snu byt ncn nsy nns nvs ntd lvs ltd ocn opl owd oln okd ogl olo TL) H := hP
                have hD : va_D A (aW cI cJ cZ cB g0 g1 g2 g3 g4 g5 g6 g7 g8 g9 g10 g11 g12 g13 g14 g15 flt fln ffr sta plc edd lab lbv opr acd akd agl len lin att stp fol (0 : Int32) x2 snu byt ncn nsy nns nvs ntd lvs ltd ocn opl owd oln okd ogl olo TL) := hD
                refine lv_aload_n hx hb d_R_readToken_191 rfl (lv_at hl 6 rfl) ?_
                refine lv_lload hx hb d_R_readToken_192 (lv_at hl 3 rfl) ?_
                refine lv_ldc2 (v := 1073741823) hx hb hown (hk _ k_766) d_R_readToken_194 ?_
                refine lv_land hx hb d_R_readToken_197 ?_
                refine lv_l2i (v := ((x4 &&& (1073741823 : Int64)) : Int64).toInt32) hx hb d_R_readToken_198 rfl ?_
                refine va_put (D := D) (ci := 4) (v := .int ((x4 &&& (1073741823 : Int64)) : Int64).toInt32) (ty := .int) (C := "SignMachine$Source") (T := F_R) (N := 9) hx hb hk fi_R ft_R ft_R_ok fn_R hown hK.1 hP hD hS 1 rfl rfl 8 (by decide) (hk _ k_548) (fun _ h9 => h9) rfl (by decide +kernel) rfl rfl (Nat.le_of_ble_eq_true rfl) d_R_readToken_199 (fun H locs hP hD hS => ?_)
                have hP : va_P D classes (aW cI cJ cZ cB g0 g1 g2 g3 g4 g5 g6 g7 g8 g9 g10 g11 g12 g13 g14 g15 flt fln ffr sta plc edd lab lbv opr acd akd agl len lin att stp fol (0 : Int32) x2 ((x4 &&& (1073741823 : Int64)) : Int64).toInt32 byt ncn nsy nns nvs ntd lvs ltd ocn opl owd oln okd ogl olo TL) H := hP
                have hD : va_D A (aW cI cJ cZ cB g0 g1 g2 g3 g4 g5 g6 g7 g8 g9 g10 g11 g12 g13 g14 g15 flt fln ffr sta plc edd lab lbv opr acd akd agl len lin att stp fol (0 : Int32) x2 ((x4 &&& (1073741823 : Int64)) : Int64).toInt32 byt ncn nsy nns nvs ntd lvs ltd ocn opl owd oln okd ogl olo TL) := hD
                exact W.vret hx hb hr (fun t ht hW => ⟨⟨(att, (0 : Int32), x2, ((x4 &&& (1073741823 : Int64)) : Int64).toInt32), rfl, by rw [hX]; simp only [g_R_readToken, if_pos c2, if_pos c3, if_pos c9, if_pos c10], by show va_P D classes _ t.heap; rw [ht]; exact hP⟩, hS.F ht⟩) hS.2.2 d_R_readToken_202
              · refine lv_aload_n hx hb d_R_readToken_181 rfl (lv_at hl 6 rfl) ?_
                refine lv_iconst (v := 4) hx hb d_R_readToken_182 (by decide) ?_
                refine va_put (D := D) (ci := 4) (v := .int (4 : Int32)) (ty := .int) (C := "SignMachine$Source") (T := F_R) (N := 9) hx hb hk fi_R ft_R ft_R_ok fn_R hown hK.1 hP hD hS 1 rfl rfl 6 (by decide) (hk _ k_545) (fun _ h9 => h9) rfl (by decide +kernel) rfl rfl (Nat.le_of_ble_eq_true rfl) d_R_readToken_183 (fun H locs hP hD hS => ?_)
                have hP : va_P D classes (aW cI cJ cZ cB g0 g1 g2 g3 g4 g5 g6 g7 g8 g9 g10 g11 g12 g13 g14 g15 flt fln ffr sta plc edd lab lbv opr acd akd agl len lin att stp fol (4 : Int32) snm snu byt ncn nsy nns nvs ntd lvs ltd ocn opl owd oln okd ogl olo TL) H := hP
                have hD : va_D A (aW cI cJ cZ cB g0 g1 g2 g3 g4 g5 g6 g7 g8 g9 g10 g11 g12 g13 g14 g15 flt fln ffr sta plc edd lab lbv opr acd akd agl len lin att stp fol (4 : Int32) snm snu byt ncn nsy nns nvs ntd lvs ltd ocn opl owd oln okd ogl olo TL) := hD
                refine lv_aload_n hx hb d_R_readToken_186 rfl (lv_at hl 6 rfl) ?_
                refine lv_lload_n hx hb d_R_readToken_187 rfl (lv_at hl 4 rfl) ?_
                refine va_put (D := D) (ci := 4) (v := .long x2) (ty := .long) (C := "SignMachine$Source") (T := F_R) (N := 9) hx hb hk fi_R ft_R ft_R_ok fn_R hown hK.1 hP hD hS 1 rfl rfl 7 (by decide) (hk _ k_547) (fun _ h9 => h9) rfl (by decide +kernel) rfl rfl (Nat.le_of_ble_eq_true rfl) d_R_readToken_188 (fun H locs hP hD hS => ?_)
                have hP : va_P D classes (aW cI cJ cZ cB g0 g1 g2 g3 g4 g5 g6 g7 g8 g9 g10 g11 g12 g13 g14 g15 flt fln ffr sta plc edd lab lbv opr acd akd agl len lin att stp fol (4 : Int32) x2 snu byt ncn nsy nns nvs ntd lvs ltd ocn opl owd oln okd ogl olo TL) H := hP
                have hD : va_D A (aW cI cJ cZ cB g0 g1 g2 g3 g4 g5 g6 g7 g8 g9 g10 g11 g12 g13 g14 g15 flt fln ffr sta plc edd lab lbv opr acd akd agl len lin att stp fol (4 : Int32) x2 snu byt ncn nsy nns nvs ntd lvs ltd ocn opl owd oln okd ogl olo TL) := hD
                refine lv_aload_n hx hb d_R_readToken_191 rfl (lv_at hl 6 rfl) ?_
                refine lv_lload hx hb d_R_readToken_192 (lv_at hl 3 rfl) ?_
                refine lv_ldc2 (v := 1073741823) hx hb hown (hk _ k_766) d_R_readToken_194 ?_
                refine lv_land hx hb d_R_readToken_197 ?_
                refine lv_l2i (v := ((x4 &&& (1073741823 : Int64)) : Int64).toInt32) hx hb d_R_readToken_198 rfl ?_
                refine va_put (D := D) (ci := 4) (v := .int ((x4 &&& (1073741823 : Int64)) : Int64).toInt32) (ty := .int) (C := "SignMachine$Source") (T := F_R) (N := 9) hx hb hk fi_R ft_R ft_R_ok fn_R hown hK.1 hP hD hS 1 rfl rfl 8 (by decide) (hk _ k_548) (fun _ h9 => h9) rfl (by decide +kernel) rfl rfl (Nat.le_of_ble_eq_true rfl) d_R_readToken_199 (fun H locs hP hD hS => ?_)
                have hP : va_P D classes (aW cI cJ cZ cB g0 g1 g2 g3 g4 g5 g6 g7 g8 g9 g10 g11 g12 g13 g14 g15 flt fln ffr sta plc edd lab lbv opr acd akd agl len lin att stp fol (4 : Int32) x2 ((x4 &&& (1073741823 : Int64)) : Int64).toInt32 byt ncn nsy nns nvs ntd lvs ltd ocn opl owd oln okd ogl olo TL) H := hP
                have hD : va_D A (aW cI cJ cZ cB g0 g1 g2 g3 g4 g5 g6 g7 g8 g9 g10 g11 g12 g13 g14 g15 flt fln ffr sta plc edd lab lbv opr acd akd agl len lin att stp fol (4 : Int32) x2 ((x4 &&& (1073741823 : Int64)) : Int64).toInt32 byt ncn nsy nns nvs ntd lvs ltd ocn opl owd oln okd ogl olo TL) := hD
                exact W.vret hx hb hr (fun t ht hW => ⟨⟨(att, (4 : Int32), x2, ((x4 &&& (1073741823 : Int64)) : Int64).toInt32), rfl, by rw [hX]; simp only [g_R_readToken, if_pos c2, if_pos c3, if_pos c9, if_neg c10], by show va_P D classes _ t.heap; rw [ht]; exact hP⟩, hS.F ht⟩) hS.2.2 d_R_readToken_202
            · refine lv_bipush (v := 8) hx hb d_R_readToken_171 (by decide) ?_
              refine lv_goto (tgt := 178) hx hb d_R_readToken_173 (by decide) ?_
              refine lv_icmp_le (tgt := 186) hx hb d_R_readToken_178 (by decide) (fun c11 => ?_) (fun c11 => ?_)
              · refine lv_aload_n hx hb d_R_readToken_186 rfl (lv_at hl 6 rfl) ?_
                refine lv_lload_n hx hb d_R_readToken_187 rfl (lv_at hl 4 rfl) ?_
                refine va_put (D := D) (ci := 4) (v := .long x2) (ty := .long) (C := "SignMachine$Source") (T := F_R) (N := 9) hx hb hk fi_R ft_R ft_R_ok fn_R hown hK.1 hP hD hS 1 rfl rfl 7 (by decide) (hk _ k_547) (fun _ h9 => h9) rfl (by decide +kernel) rfl rfl (Nat.le_of_ble_eq_true rfl) d_R_readToken_188 (fun H locs hP hD hS => ?_)
                have hP : va_P D classes (aW cI cJ cZ cB g0 g1 g2 g3 g4 g5 g6 g7 g8 g9 g10 g11 g12 g13 g14 g15 flt fln ffr sta plc edd lab lbv opr acd akd agl len lin att stp fol (0 : Int32) x2 snu byt ncn nsy nns nvs ntd lvs ltd ocn opl owd oln okd ogl olo TL) H := hP
                have hD : va_D A (aW cI cJ cZ cB g0 g1 g2 g3 g4 g5 g6 g7 g8 g9 g10 g11 g12 g13 g14 g15 flt fln ffr sta plc edd lab lbv opr acd akd agl len lin att stp fol (0 : Int32) x2 snu byt ncn nsy nns nvs ntd lvs ltd ocn opl owd oln okd ogl olo TL) := hD
                refine lv_aload_n hx hb d_R_readToken_191 rfl (lv_at hl 6 rfl) ?_
                refine lv_lload hx hb d_R_readToken_192 (lv_at hl 3 rfl) ?_
                refine lv_ldc2 (v := 1073741823) hx hb hown (hk _ k_766) d_R_readToken_194 ?_
                refine lv_land hx hb d_R_readToken_197 ?_
                refine lv_l2i (v := ((x4 &&& (1073741823 : Int64)) : Int64).toInt32) hx hb d_R_readToken_198 rfl ?_
                refine va_put (D := D) (ci := 4) (v := .int ((x4 &&& (1073741823 : Int64)) : Int64).toInt32) (ty := .int) (C := "SignMachine$Source") (T := F_R) (N := 9) hx hb hk fi_R ft_R ft_R_ok fn_R hown hK.1 hP hD hS 1 rfl rfl 8 (by decide) (hk _ k_548) (fun _ h9 => h9) rfl (by decide +kernel) rfl rfl (Nat.le_of_ble_eq_true rfl) d_R_readToken_199 (fun H locs hP hD hS => ?_)
                have hP : va_P D classes (aW cI cJ cZ cB g0 g1 g2 g3 g4 g5 g6 g7 g8 g9 g10 g11 g12 g13 g14 g15 flt fln ffr sta plc edd lab lbv opr acd akd agl len lin att stp fol (0 : Int32) x2 ((x4 &&& (1073741823 : Int64)) : Int64).toInt32 byt ncn nsy nns nvs ntd lvs ltd ocn opl owd oln okd ogl olo TL) H := hP
                have hD : va_D A (aW cI cJ cZ cB g0 g1 g2 g3 g4 g5 g6 g7 g8 g9 g10 g11 g12 g13 g14 g15 flt fln ffr sta plc edd lab lbv opr acd akd agl len lin att stp fol (0 : Int32) x2 ((x4 &&& (1073741823 : Int64)) : Int64).toInt32 byt ncn nsy nns nvs ntd lvs ltd ocn opl owd oln okd ogl olo TL) := hD
                exact W.vret hx hb hr (fun t ht hW => ⟨⟨(att, (0 : Int32), x2, ((x4 &&& (1073741823 : Int64)) : Int64).toInt32), rfl, by rw [hX]; simp only [g_R_readToken, if_pos c2, if_pos c3, if_neg c9, if_pos c11], by show va_P D classes _ t.heap; rw [ht]; exact hP⟩, hS.F ht⟩) hS.2.2 d_R_readToken_202
              · refine lv_aload_n hx hb d_R_readToken_181 rfl (lv_at hl 6 rfl) ?_
                refine lv_iconst (v := 4) hx hb d_R_readToken_182 (by decide) ?_
                refine va_put (D := D) (ci := 4) (v := .int (4 : Int32)) (ty := .int) (C := "SignMachine$Source") (T := F_R) (N := 9) hx hb hk fi_R ft_R ft_R_ok fn_R hown hK.1 hP hD hS 1 rfl rfl 6 (by decide) (hk _ k_545) (fun _ h9 => h9) rfl (by decide +kernel) rfl rfl (Nat.le_of_ble_eq_true rfl) d_R_readToken_183 (fun H locs hP hD hS => ?_)
                have hP : va_P D classes (aW cI cJ cZ cB g0 g1 g2 g3 g4 g5 g6 g7 g8 g9 g10 g11 g12 g13 g14 g15 flt fln ffr sta plc edd lab lbv opr acd akd agl len lin att stp fol (4 : Int32) snm snu byt ncn nsy nns nvs ntd lvs ltd ocn opl owd oln okd ogl olo TL) H := hP
                have hD : va_D A (aW cI cJ cZ cB g0 g1 g2 g3 g4 g5 g6 g7 g8 g9 g10 g11 g12 g13 g14 g15 flt fln ffr sta plc edd lab lbv opr acd akd agl len lin att stp fol (4 : Int32) snm snu byt ncn nsy nns nvs ntd lvs ltd ocn opl owd oln okd ogl olo TL) := hD
                refine lv_aload_n hx hb d_R_readToken_186 rfl (lv_at hl 6 rfl) ?_
                refine lv_lload_n hx hb d_R_readToken_187 rfl (lv_at hl 4 rfl) ?_
                refine va_put (D := D) (ci := 4) (v := .long x2) (ty := .long) (C := "SignMachine$Source") (T := F_R) (N := 9) hx hb hk fi_R ft_R ft_R_ok fn_R hown hK.1 hP hD hS 1 rfl rfl 7 (by decide) (hk _ k_547) (fun _ h9 => h9) rfl (by decide +kernel) rfl rfl (Nat.le_of_ble_eq_true rfl) d_R_readToken_188 (fun H locs hP hD hS => ?_)
                have hP : va_P D classes (aW cI cJ cZ cB g0 g1 g2 g3 g4 g5 g6 g7 g8 g9 g10 g11 g12 g13 g14 g15 flt fln ffr sta plc edd lab lbv opr acd akd agl len lin att stp fol (4 : Int32) x2 snu byt ncn nsy nns nvs ntd lvs ltd ocn opl owd oln okd ogl olo TL) H := hP
                have hD : va_D A (aW cI cJ cZ cB g0 g1 g2 g3 g4 g5 g6 g7 g8 g9 g10 g11 g12 g13 g14 g15 flt fln ffr sta plc edd lab lbv opr acd akd agl len lin att stp fol (4 : Int32) x2 snu byt ncn nsy nns nvs ntd lvs ltd ocn opl owd oln okd ogl olo TL) := hD
                refine lv_aload_n hx hb d_R_readToken_191 rfl (lv_at hl 6 rfl) ?_
                refine lv_lload hx hb d_R_readToken_192 (lv_at hl 3 rfl) ?_
                refine lv_ldc2 (v := 1073741823) hx hb hown (hk _ k_766) d_R_readToken_194 ?_
                refine lv_land hx hb d_R_readToken_197 ?_
                refine lv_l2i (v := ((x4 &&& (1073741823 : Int64)) : Int64).toInt32) hx hb d_R_readToken_198 rfl ?_
                refine va_put (D := D) (ci := 4) (v := .int ((x4 &&& (1073741823 : Int64)) : Int64).toInt32) (ty := .int) (C := "SignMachine$Source") (T := F_R) (N := 9) hx hb hk fi_R ft_R ft_R_ok fn_R hown hK.1 hP hD hS 1 rfl rfl 8 (by decide) (hk _ k_548) (fun _ h9 => h9) rfl (by decide +kernel) rfl rfl (Nat.le_of_ble_eq_true rfl) d_R_readToken_199 (fun H locs hP hD hS => ?_)
                have hP : va_P D classes (aW cI cJ cZ cB g0 g1 g2 g3 g4 g5 g6 g7 g8 g9 g10 g11 g12 g13 g14 g15 flt fln ffr sta plc edd lab lbv opr acd akd agl len lin att stp fol (4 : Int32) x2 ((x4 &&& (1073741823 : Int64)) : Int64).toInt32 byt ncn nsy nns nvs ntd lvs ltd ocn opl owd oln okd ogl olo TL) H := hP
                have hD : va_D A (aW cI cJ cZ cB g0 g1 g2 g3 g4 g5 g6 g7 g8 g9 g10 g11 g12 g13 g14 g15 flt fln ffr sta plc edd lab lbv opr acd akd agl len lin att stp fol (4 : Int32) x2 ((x4 &&& (1073741823 : Int64)) : Int64).toInt32 byt ncn nsy nns nvs ntd lvs ltd ocn opl owd oln okd ogl olo TL) := hD
                exact W.vret hx hb hr (fun t ht hW => ⟨⟨(att, (4 : Int32), x2, ((x4 &&& (1073741823 : Int64)) : Int64).toInt32), rfl, by rw [hX]; simp only [g_R_readToken, if_pos c2, if_pos c3, if_neg c9, if_neg c11], by show va_P D classes _ t.heap; rw [ht]; exact hP⟩, hS.F ht⟩) hS.2.2 d_R_readToken_202
        · refine lv_iload hx hb d_R_readToken_54 (lv_at hl 1 rfl) ?_
          refine lv_if_eq (tgt := 143) hx hb d_R_readToken_56 (by decide) (fun c12 => ?_) (fun c12 => ?_)
          · refine lv_aload_n hx hb d_R_readToken_143 rfl (lv_at hl 6 rfl) ?_
            refine lv_iload_n hx hb d_R_readToken_144 rfl (lv_at hl 5 rfl) ?_
            refine lv_if_ne (tgt := 152) hx hb d_R_readToken_145 (by decide) (fun c13 => ?_) (fun c13 => ?_)
            · refine lv_iload hx hb d_R_readToken_152 (lv_at hl 2 rfl) ?_
              refine lv_if_eq (tgt := 161) hx hb d_R_readToken_154 (by decide) (fun c14 => ?_) (fun c14 => ?_)
              · refine lv_iconst (v := 1) hx hb d_R_readToken_161 (by decide) ?_
                refine va_put (D := D) (ci := 4) (v := .int (1 : Int32)) (ty := .int) (C := "SignMachine$Source") (T := F_R) (N := 9) hx hb hk fi_R ft_R ft_R_ok fn_R hown hK.1 hP hD hS 1 rfl rfl 6 (by decide) (hk _ k_545) (fun _ h9 => h9) rfl (by decide +kernel) rfl rfl (Nat.le_of_ble_eq_true rfl) d_R_readToken_162 (fun H locs hP hD hS => ?_)
                have hP : va_P D classes (aW cI cJ cZ cB g0 g1 g2 g3 g4 g5 g6 g7 g8 g9 g10 g11 g12 g13 g14 g15 flt fln ffr sta plc edd lab lbv opr acd akd agl len lin att stp fol (1 : Int32) snm snu byt ncn nsy nns nvs ntd lvs ltd ocn opl owd oln okd ogl olo TL) H := hP
                have hD : va_D A (aW cI cJ cZ cB g0 g1 g2 g3 g4 g5 g6 g7 g8 g9 g10 g11 g12 g13 g14 g15 flt fln ffr sta plc edd lab lbv opr acd akd agl len lin att stp fol (1 : Int32) snm snu byt ncn nsy nns nvs ntd lvs ltd ocn opl owd oln okd ogl olo TL) := hD
                refine lv_iload_n hx hb d_R_readToken_165 rfl (lv_at hl 5 rfl) ?_
                refine lv_iload hx hb d_R_readToken_166 (lv_at hl 2 rfl) ?_
                refine lv_if_eq (tgt := 176) hx hb d_R_readToken_168 (by decide) (fun c15 => ?_) (fun c15 => absurd c14 c15)
                refine lv_bipush (v := 10) hx hb d_R_readToken_176 (by decide) ?_
                refine lv_icmp_le (tgt := 186) hx hb d_R_readToken_178 (by decide) (fun c16 => ?_) (fun c16 => ?_)
                · refine lv_aload_n hx hb d_R_readToken_186 rfl (lv_at hl 6 rfl) ?_
                  refine lv_lload_n hx hb d_R_readToken_187 rfl (lv_at hl 4 rfl) ?_
                  refine va_put (D := D) (ci := 4) (v := .long x2) (ty := .long) (C := "SignMachine$Source") (T := F_R) (N := 9) hx hb hk fi_R ft_R ft_R_ok fn_R hown hK.1 hP hD hS 1 rfl rfl 7 (by decide) (hk _ k_547) (fun _ h9 => h9) rfl (by decide +kernel) rfl rfl (Nat.le_of_ble_eq_true rfl) d_R_readToken_188 (fun H locs hP hD hS => ?_)
                  have hP : va_P D classes (aW cI cJ cZ cB g0 g1 g2 g3 g4 g5 g6 g7 g8 g9 g10 g11 g12 g13 g14 g15 flt fln ffr sta plc edd lab lbv opr acd akd agl len lin att stp fol (1 : Int32) x2 snu byt ncn nsy nns nvs ntd lvs ltd ocn opl owd oln okd ogl olo TL) H := hP
                  have hD : va_D A (aW cI cJ cZ cB g0 g1 g2 g3 g4 g5 g6 g7 g8 g9 g10 g11 g12 g13 g14 g15 flt fln ffr sta plc edd lab lbv opr acd akd agl len lin att stp fol (1 : Int32) x2 snu byt ncn nsy nns nvs ntd lvs ltd ocn opl owd oln okd ogl olo TL) := hD
                  refine lv_aload_n hx hb d_R_readToken_191 rfl (lv_at hl 6 rfl) ?_
                  refine lv_lload hx hb d_R_readToken_192 (lv_at hl 3 rfl) ?_
                  refine lv_ldc2 (v := 1073741823) hx hb hown (hk _ k_766) d_R_readToken_194 ?_
                  refine lv_land hx hb d_R_readToken_197 ?_
                  refine lv_l2i (v := ((x4 &&& (1073741823 : Int64)) : Int64).toInt32) hx hb d_R_readToken_198 rfl ?_
                  refine va_put (D := D) (ci := 4) (v := .int ((x4 &&& (1073741823 : Int64)) : Int64).toInt32) (ty := .int) (C := "SignMachine$Source") (T := F_R) (N := 9) hx hb hk fi_R ft_R ft_R_ok fn_R hown hK.1 hP hD hS 1 rfl rfl 8 (by decide) (hk _ k_548) (fun _ h9 => h9) rfl (by decide +kernel) rfl rfl (Nat.le_of_ble_eq_true rfl) d_R_readToken_199 (fun H locs hP hD hS => ?_)
                  have hP : va_P D classes (aW cI cJ cZ cB g0 g1 g2 g3 g4 g5 g6 g7 g8 g9 g10 g11 g12 g13 g14 g15 flt fln ffr sta plc edd lab lbv opr acd akd agl len lin att stp fol (1 : Int32) x2 ((x4 &&& (1073741823 : Int64)) : Int64).toInt32 byt ncn nsy nns nvs ntd lvs ltd ocn opl owd oln okd ogl olo TL) H := hP
                  have hD : va_D A (aW cI cJ cZ cB g0 g1 g2 g3 g4 g5 g6 g7 g8 g9 g10 g11 g12 g13 g14 g15 flt fln ffr sta plc edd lab lbv opr acd akd agl len lin att stp fol (1 : Int32) x2 ((x4 &&& (1073741823 : Int64)) : Int64).toInt32 byt ncn nsy nns nvs ntd lvs ltd ocn opl owd oln okd ogl olo TL) := hD
                  exact W.vret hx hb hr (fun t ht hW => ⟨⟨(att, (1 : Int32), x2, ((x4 &&& (1073741823 : Int64)) : Int64).toInt32), rfl, by rw [hX]; simp only [g_R_readToken, if_neg c2, if_pos c12, if_neg c13, if_pos c14, if_pos c16], by show va_P D classes _ t.heap; rw [ht]; exact hP⟩, hS.F ht⟩) hS.2.2 d_R_readToken_202
                · refine lv_aload_n hx hb d_R_readToken_181 rfl (lv_at hl 6 rfl) ?_
                  refine lv_iconst (v := 4) hx hb d_R_readToken_182 (by decide) ?_
                  refine va_put (D := D) (ci := 4) (v := .int (4 : Int32)) (ty := .int) (C := "SignMachine$Source") (T := F_R) (N := 9) hx hb hk fi_R ft_R ft_R_ok fn_R hown hK.1 hP hD hS 1 rfl rfl 6 (by decide) (hk _ k_545) (fun _ h9 => h9) rfl (by decide +kernel) rfl rfl (Nat.le_of_ble_eq_true rfl) d_R_readToken_183 (fun H locs hP hD hS => ?_)
                  have hP : va_P D classes (aW cI cJ cZ cB g0 g1 g2 g3 g4 g5 g6 g7 g8 g9 g10 g11 g12 g13 g14 g15 flt fln ffr sta plc edd lab lbv opr acd akd agl len lin att stp fol (4 : Int32) snm snu byt ncn nsy nns nvs ntd lvs ltd ocn opl owd oln okd ogl olo TL) H := hP
                  have hD : va_D A (aW cI cJ cZ cB g0 g1 g2 g3 g4 g5 g6 g7 g8 g9 g10 g11 g12 g13 g14 g15 flt fln ffr sta plc edd lab lbv opr acd akd agl len lin att stp fol (4 : Int32) snm snu byt ncn nsy nns nvs ntd lvs ltd ocn opl owd oln okd ogl olo TL) := hD
                  refine lv_aload_n hx hb d_R_readToken_186 rfl (lv_at hl 6 rfl) ?_
                  refine lv_lload_n hx hb d_R_readToken_187 rfl (lv_at hl 4 rfl) ?_
                  refine va_put (D := D) (ci := 4) (v := .long x2) (ty := .long) (C := "SignMachine$Source") (T := F_R) (N := 9) hx hb hk fi_R ft_R ft_R_ok fn_R hown hK.1 hP hD hS 1 rfl rfl 7 (by decide) (hk _ k_547) (fun _ h9 => h9) rfl (by decide +kernel) rfl rfl (Nat.le_of_ble_eq_true rfl) d_R_readToken_188 (fun H locs hP hD hS => ?_)
                  have hP : va_P D classes (aW cI cJ cZ cB g0 g1 g2 g3 g4 g5 g6 g7 g8 g9 g10 g11 g12 g13 g14 g15 flt fln ffr sta plc edd lab lbv opr acd akd agl len lin att stp fol (4 : Int32) x2 snu byt ncn nsy nns nvs ntd lvs ltd ocn opl owd oln okd ogl olo TL) H := hP
                  have hD : va_D A (aW cI cJ cZ cB g0 g1 g2 g3 g4 g5 g6 g7 g8 g9 g10 g11 g12 g13 g14 g15 flt fln ffr sta plc edd lab lbv opr acd akd agl len lin att stp fol (4 : Int32) x2 snu byt ncn nsy nns nvs ntd lvs ltd ocn opl owd oln okd ogl olo TL) := hD
                  refine lv_aload_n hx hb d_R_readToken_191 rfl (lv_at hl 6 rfl) ?_
                  refine lv_lload hx hb d_R_readToken_192 (lv_at hl 3 rfl) ?_
                  refine lv_ldc2 (v := 1073741823) hx hb hown (hk _ k_766) d_R_readToken_194 ?_
                  refine lv_land hx hb d_R_readToken_197 ?_
                  refine lv_l2i (v := ((x4 &&& (1073741823 : Int64)) : Int64).toInt32) hx hb d_R_readToken_198 rfl ?_
                  refine va_put (D := D) (ci := 4) (v := .int ((x4 &&& (1073741823 : Int64)) : Int64).toInt32) (ty := .int) (C := "SignMachine$Source") (T := F_R) (N := 9) hx hb hk fi_R ft_R ft_R_ok fn_R hown hK.1 hP hD hS 1 rfl rfl 8 (by decide) (hk _ k_548) (fun _ h9 => h9) rfl (by decide +kernel) rfl rfl (Nat.le_of_ble_eq_true rfl) d_R_readToken_199 (fun H locs hP hD hS => ?_)
                  have hP : va_P D classes (aW cI cJ cZ cB g0 g1 g2 g3 g4 g5 g6 g7 g8 g9 g10 g11 g12 g13 g14 g15 flt fln ffr sta plc edd lab lbv opr acd akd agl len lin att stp fol (4 : Int32) x2 ((x4 &&& (1073741823 : Int64)) : Int64).toInt32 byt ncn nsy nns nvs ntd lvs ltd ocn opl owd oln okd ogl olo TL) H := hP
                  have hD : va_D A (aW cI cJ cZ cB g0 g1 g2 g3 g4 g5 g6 g7 g8 g9 g10 g11 g12 g13 g14 g15 flt fln ffr sta plc edd lab lbv opr acd akd agl len lin att stp fol (4 : Int32) x2 ((x4 &&& (1073741823 : Int64)) : Int64).toInt32 byt ncn nsy nns nvs ntd lvs ltd ocn opl owd oln okd ogl olo TL) := hD
                  exact W.vret hx hb hr (fun t ht hW => ⟨⟨(att, (4 : Int32), x2, ((x4 &&& (1073741823 : Int64)) : Int64).toInt32), rfl, by rw [hX]; simp only [g_R_readToken, if_neg c2, if_pos c12, if_neg c13, if_pos c14, if_neg c16], by show va_P D classes _ t.heap; rw [ht]; exact hP⟩, hS.F ht⟩) hS.2.2 d_R_readToken_202
              · refine lv_iconst (v := 2) hx hb d_R_readToken_157 (by decide) ?_
                refine lv_goto (tgt := 162) hx hb d_R_readToken_158 (by decide) ?_
                refine va_put (D := D) (ci := 4) (v := .int (2 : Int32)) (ty := .int) (C := "SignMachine$Source") (T := F_R) (N := 9) hx hb hk fi_R ft_R ft_R_ok fn_R hown hK.1 hP hD hS 1 rfl rfl 6 (by decide) (hk _ k_545) (fun _ h9 => h9) rfl (by decide +kernel) rfl rfl (Nat.le_of_ble_eq_true rfl) d_R_readToken_162 (fun H locs hP hD hS => ?_)
                have hP : va_P D classes (aW cI cJ cZ cB g0 g1 g2 g3 g4 g5 g6 g7 g8 g9 g10 g11 g12 g13 g14 g15 flt fln ffr sta plc edd lab lbv opr acd akd agl len lin att stp fol (2 : Int32) snm snu byt ncn nsy nns nvs ntd lvs ltd ocn opl owd oln okd ogl olo TL) H := hP
                have hD : va_D A (aW cI cJ cZ cB g0 g1 g2 g3 g4 g5 g6 g7 g8 g9 g10 g11 g12 g13 g14 g15 flt fln ffr sta plc edd lab lbv opr acd akd agl len lin att stp fol (2 : Int32) snm snu byt ncn nsy nns nvs ntd lvs ltd ocn opl owd oln okd ogl olo TL) := hD
                refine lv_iload_n hx hb d_R_readToken_165 rfl (lv_at hl 5 rfl) ?_
                refine lv_iload hx hb d_R_readToken_166 (lv_at hl 2 rfl) ?_
                refine lv_if_eq (tgt := 176) hx hb d_R_readToken_168 (by decide) (fun c17 => absurd c17 c14) (fun c17 => ?_)
                refine lv_bipush (v := 8) hx hb d_R_readToken_171 (by decide) ?_
                refine lv_goto (tgt := 178) hx hb d_R_readToken_173 (by decide) ?_
                refine lv_icmp_le (tgt := 186) hx hb d_R_readToken_178 (by decide) (fun c18 => ?_) (fun c18 => ?_)
                · refine lv_aload_n hx hb d_R_readToken_186 rfl (lv_at hl 6 rfl) ?_
                  refine lv_lload_n hx hb d_R_readToken_187 rfl (lv_at hl 4 rfl) ?_
                  refine va_put (D := D) (ci := 4) (v := .long x2) (ty := .long) (C := "SignMachine$Source") (T := F_R) (N := 9) hx hb hk fi_R ft_R ft_R_ok fn_R hown hK.1 hP hD hS 1 rfl rfl 7 (by decide) (hk _ k_547) (fun _ h9 => h9) rfl (by decide +kernel) rfl rfl (Nat.le_of_ble_eq_true rfl) d_R_readToken_188 (fun H locs hP hD hS => ?_)
                  have hP : va_P D classes (aW cI cJ cZ cB g0 g1 g2 g3 g4 g5 g6 g7 g8 g9 g10 g11 g12 g13 g14 g15 flt fln ffr sta plc edd lab lbv opr acd akd agl len lin att stp fol (2 : Int32) x2 snu byt ncn nsy nns nvs ntd lvs ltd ocn opl owd oln okd ogl olo TL) H := hP
                  have hD : va_D A (aW cI cJ cZ cB g0 g1 g2 g3 g4 g5 g6 g7 g8 g9 g10 g11 g12 g13 g14 g15 flt fln ffr sta plc edd lab lbv opr acd akd agl len lin att stp fol (2 : Int32) x2 snu byt ncn nsy nns nvs ntd lvs ltd ocn opl owd oln okd ogl olo TL) := hD
                  refine lv_aload_n hx hb d_R_readToken_191 rfl (lv_at hl 6 rfl) ?_
                  refine lv_lload hx hb d_R_readToken_192 (lv_at hl 3 rfl) ?_
                  refine lv_ldc2 (v := 1073741823) hx hb hown (hk _ k_766) d_R_readToken_194 ?_
                  refine lv_land hx hb d_R_readToken_197 ?_
                  refine lv_l2i (v := ((x4 &&& (1073741823 : Int64)) : Int64).toInt32) hx hb d_R_readToken_198 rfl ?_
                  refine va_put (D := D) (ci := 4) (v := .int ((x4 &&& (1073741823 : Int64)) : Int64).toInt32) (ty := .int) (C := "SignMachine$Source") (T := F_R) (N := 9) hx hb hk fi_R ft_R ft_R_ok fn_R hown hK.1 hP hD hS 1 rfl rfl 8 (by decide) (hk _ k_548) (fun _ h9 => h9) rfl (by decide +kernel) rfl rfl (Nat.le_of_ble_eq_true rfl) d_R_readToken_199 (fun H locs hP hD hS => ?_)
                  have hP : va_P D classes (aW cI cJ cZ cB g0 g1 g2 g3 g4 g5 g6 g7 g8 g9 g10 g11 g12 g13 g14 g15 flt fln ffr sta plc edd lab lbv opr acd akd agl len lin att stp fol (2 : Int32) x2 ((x4 &&& (1073741823 : Int64)) : Int64).toInt32 byt ncn nsy nns nvs ntd lvs ltd ocn opl owd oln okd ogl olo TL) H := hP
                  have hD : va_D A (aW cI cJ cZ cB g0 g1 g2 g3 g4 g5 g6 g7 g8 g9 g10 g11 g12 g13 g14 g15 flt fln ffr sta plc edd lab lbv opr acd akd agl len lin att stp fol (2 : Int32) x2 ((x4 &&& (1073741823 : Int64)) : Int64).toInt32 byt ncn nsy nns nvs ntd lvs ltd ocn opl owd oln okd ogl olo TL) := hD
                  exact W.vret hx hb hr (fun t ht hW => ⟨⟨(att, (2 : Int32), x2, ((x4 &&& (1073741823 : Int64)) : Int64).toInt32), rfl, by rw [hX]; simp only [g_R_readToken, if_neg c2, if_pos c12, if_neg c13, if_neg c14, if_pos c18], by show va_P D classes _ t.heap; rw [ht]; exact hP⟩, hS.F ht⟩) hS.2.2 d_R_readToken_202
                · refine lv_aload_n hx hb d_R_readToken_181 rfl (lv_at hl 6 rfl) ?_
                  refine lv_iconst (v := 4) hx hb d_R_readToken_182 (by decide) ?_
                  refine va_put (D := D) (ci := 4) (v := .int (4 : Int32)) (ty := .int) (C := "SignMachine$Source") (T := F_R) (N := 9) hx hb hk fi_R ft_R ft_R_ok fn_R hown hK.1 hP hD hS 1 rfl rfl 6 (by decide) (hk _ k_545) (fun _ h9 => h9) rfl (by decide +kernel) rfl rfl (Nat.le_of_ble_eq_true rfl) d_R_readToken_183 (fun H locs hP hD hS => ?_)
                  have hP : va_P D classes (aW cI cJ cZ cB g0 g1 g2 g3 g4 g5 g6 g7 g8 g9 g10 g11 g12 g13 g14 g15 flt fln ffr sta plc edd lab lbv opr acd akd agl len lin att stp fol (4 : Int32) snm snu byt ncn nsy nns nvs ntd lvs ltd ocn opl owd oln okd ogl olo TL) H := hP
                  have hD : va_D A (aW cI cJ cZ cB g0 g1 g2 g3 g4 g5 g6 g7 g8 g9 g10 g11 g12 g13 g14 g15 flt fln ffr sta plc edd lab lbv opr acd akd agl len lin att stp fol (4 : Int32) snm snu byt ncn nsy nns nvs ntd lvs ltd ocn opl owd oln okd ogl olo TL) := hD
                  refine lv_aload_n hx hb d_R_readToken_186 rfl (lv_at hl 6 rfl) ?_
                  refine lv_lload_n hx hb d_R_readToken_187 rfl (lv_at hl 4 rfl) ?_
                  refine va_put (D := D) (ci := 4) (v := .long x2) (ty := .long) (C := "SignMachine$Source") (T := F_R) (N := 9) hx hb hk fi_R ft_R ft_R_ok fn_R hown hK.1 hP hD hS 1 rfl rfl 7 (by decide) (hk _ k_547) (fun _ h9 => h9) rfl (by decide +kernel) rfl rfl (Nat.le_of_ble_eq_true rfl) d_R_readToken_188 (fun H locs hP hD hS => ?_)
                  have hP : va_P D classes (aW cI cJ cZ cB g0 g1 g2 g3 g4 g5 g6 g7 g8 g9 g10 g11 g12 g13 g14 g15 flt fln ffr sta plc edd lab lbv opr acd akd agl len lin att stp fol (4 : Int32) x2 snu byt ncn nsy nns nvs ntd lvs ltd ocn opl owd oln okd ogl olo TL) H := hP
                  have hD : va_D A (aW cI cJ cZ cB g0 g1 g2 g3 g4 g5 g6 g7 g8 g9 g10 g11 g12 g13 g14 g15 flt fln ffr sta plc edd lab lbv opr acd akd agl len lin att stp fol (4 : Int32) x2 snu byt ncn nsy nns nvs ntd lvs ltd ocn opl owd oln okd ogl olo TL) := hD
                  refine lv_aload_n hx hb d_R_readToken_191 rfl (lv_at hl 6 rfl) ?_
                  refine lv_lload hx hb d_R_readToken_192 (lv_at hl 3 rfl) ?_
                  refine lv_ldc2 (v := 1073741823) hx hb hown (hk _ k_766) d_R_readToken_194 ?_
                  refine lv_land hx hb d_R_readToken_197 ?_
                  refine lv_l2i (v := ((x4 &&& (1073741823 : Int64)) : Int64).toInt32) hx hb d_R_readToken_198 rfl ?_
                  refine va_put (D := D) (ci := 4) (v := .int ((x4 &&& (1073741823 : Int64)) : Int64).toInt32) (ty := .int) (C := "SignMachine$Source") (T := F_R) (N := 9) hx hb hk fi_R ft_R ft_R_ok fn_R hown hK.1 hP hD hS 1 rfl rfl 8 (by decide) (hk _ k_548) (fun _ h9 => h9) rfl (by decide +kernel) rfl rfl (Nat.le_of_ble_eq_true rfl) d_R_readToken_199 (fun H locs hP hD hS => ?_)
                  have hP : va_P D classes (aW cI cJ cZ cB g0 g1 g2 g3 g4 g5 g6 g7 g8 g9 g10 g11 g12 g13 g14 g15 flt fln ffr sta plc edd lab lbv opr acd akd agl len lin att stp fol (4 : Int32) x2 ((x4 &&& (1073741823 : Int64)) : Int64).toInt32 byt ncn nsy nns nvs ntd lvs ltd ocn opl owd oln okd ogl olo TL) H := hP
                  have hD : va_D A (aW cI cJ cZ cB g0 g1 g2 g3 g4 g5 g6 g7 g8 g9 g10 g11 g12 g13 g14 g15 flt fln ffr sta plc edd lab lbv opr acd akd agl len lin att stp fol (4 : Int32) x2 ((x4 &&& (1073741823 : Int64)) : Int64).toInt32 byt ncn nsy nns nvs ntd lvs ltd ocn opl owd oln okd ogl olo TL) := hD
                  exact W.vret hx hb hr (fun t ht hW => ⟨⟨(att, (4 : Int32), x2, ((x4 &&& (1073741823 : Int64)) : Int64).toInt32), rfl, by rw [hX]; simp only [g_R_readToken, if_neg c2, if_pos c12, if_neg c13, if_neg c14, if_neg c18], by show va_P D classes _ t.heap; rw [ht]; exact hP⟩, hS.F ht⟩) hS.2.2 d_R_readToken_202
            · refine lv_iconst (v := 0) hx hb d_R_readToken_148 (by decide) ?_
              refine lv_goto (tgt := 162) hx hb d_R_readToken_149 (by decide) ?_
              refine va_put (D := D) (ci := 4) (v := .int (0 : Int32)) (ty := .int) (C := "SignMachine$Source") (T := F_R) (N := 9) hx hb hk fi_R ft_R ft_R_ok fn_R hown hK.1 hP hD hS 1 rfl rfl 6 (by decide) (hk _ k_545) (fun _ h9 => h9) rfl (by decide +kernel) rfl rfl (Nat.le_of_ble_eq_true rfl) d_R_readToken_162 (fun H locs hP hD hS => ?_)
              have hP : va_P D classes (aW cI cJ cZ cB g0 g1 g2 g3 g4 g5 g6 g7 g8 g9 g10 g11 g12 g13 g14 g15 flt fln ffr sta plc edd lab lbv opr acd akd agl len lin att stp fol (0 : Int32) snm snu byt ncn nsy nns nvs ntd lvs ltd ocn opl owd oln okd ogl olo TL) H := hP
              have hD : va_D A (aW cI cJ cZ cB g0 g1 g2 g3 g4 g5 g6 g7 g8 g9 g10 g11 g12 g13 g14 g15 flt fln ffr sta plc edd lab lbv opr acd akd agl len lin att stp fol (0 : Int32) snm snu byt ncn nsy nns nvs ntd lvs ltd ocn opl owd oln okd ogl olo TL) := hD
              refine lv_iload_n hx hb d_R_readToken_165 rfl (lv_at hl 5 rfl) ?_
              refine lv_iload hx hb d_R_readToken_166 (lv_at hl 2 rfl) ?_
              refine lv_if_eq (tgt := 176) hx hb d_R_readToken_168 (by decide) (fun c19 => ?_) (fun c19 => ?_)
              · refine lv_bipush (v := 10) hx hb d_R_readToken_176 (by decide) ?_
                refine lv_icmp_le (tgt := 186) hx hb d_R_readToken_178 (by decide) (fun c20 => ?_) (fun c20 => ?_)
                · refine lv_aload_n hx hb d_R_readToken_186 rfl (lv_at hl 6 rfl) ?_
                  refine lv_lload_n hx hb d_R_readToken_187 rfl (lv_at hl 4 rfl) ?_
                  refine va_put (D := D) (ci := 4) (v := .long x2) (ty := .long) (C := "SignMachine$Source") (T := F_R) (N := 9) hx hb hk fi_R ft_R ft_R_ok fn_R hown hK.1 hP hD hS 1 rfl rfl 7 (by decide) (hk _ k_547) (fun _ h9 => h9) rfl (by decide +kernel) rfl rfl (Nat.le_of_ble_eq_true rfl) d_R_readToken_188 (fun H locs hP hD hS => ?_)
                  have hP : va_P D classes (aW cI cJ cZ cB g0 g1 g2 g3 g4 g5 g6 g7 g8 g9 g10 g11 g12 g13 g14 g15 flt fln ffr sta plc edd lab lbv opr acd akd agl len lin att stp fol (0 : Int32) x2 snu byt ncn nsy nns nvs ntd lvs ltd ocn opl owd oln okd ogl olo TL) H := hP
                  have hD : va_D A (aW cI cJ cZ cB g0 g1 g2 g3 g4 g5 g6 g7 g8 g9 g10 g11 g12 g13 g14 g15 flt fln ffr sta plc edd lab lbv opr acd akd agl len lin att stp fol (0 : Int32) x2 snu byt ncn nsy nns nvs ntd lvs ltd ocn opl owd oln okd ogl olo TL) := hD
                  refine lv_aload_n hx hb d_R_readToken_191 rfl (lv_at hl 6 rfl) ?_
                  refine lv_lload hx hb d_R_readToken_192 (lv_at hl 3 rfl) ?_
                  refine lv_ldc2 (v := 1073741823) hx hb hown (hk _ k_766) d_R_readToken_194 ?_
                  refine lv_land hx hb d_R_readToken_197 ?_
                  refine lv_l2i (v := ((x4 &&& (1073741823 : Int64)) : Int64).toInt32) hx hb d_R_readToken_198 rfl ?_
                  refine va_put (D := D) (ci := 4) (v := .int ((x4 &&& (1073741823 : Int64)) : Int64).toInt32) (ty := .int) (C := "SignMachine$Source") (T := F_R) (N := 9) hx hb hk fi_R ft_R ft_R_ok fn_R hown hK.1 hP hD hS 1 rfl rfl 8 (by decide) (hk _ k_548) (fun _ h9 => h9) rfl (by decide +kernel) rfl rfl (Nat.le_of_ble_eq_true rfl) d_R_readToken_199 (fun H locs hP hD hS => ?_)
                  have hP : va_P D classes (aW cI cJ cZ cB g0 g1 g2 g3 g4 g5 g6 g7 g8 g9 g10 g11 g12 g13 g14 g15 flt fln ffr sta plc edd lab lbv opr acd akd agl len lin att stp fol (0 : Int32) x2 ((x4 &&& (1073741823 : Int64)) : Int64).toInt32 byt ncn nsy nns nvs ntd lvs ltd ocn opl owd oln okd ogl olo TL) H := hP
                  have hD : va_D A (aW cI cJ cZ cB g0 g1 g2 g3 g4 g5 g6 g7 g8 g9 g10 g11 g12 g13 g14 g15 flt fln ffr sta plc edd lab lbv opr acd akd agl len lin att stp fol (0 : Int32) x2 ((x4 &&& (1073741823 : Int64)) : Int64).toInt32 byt ncn nsy nns nvs ntd lvs ltd ocn opl owd oln okd ogl olo TL) := hD
                  exact W.vret hx hb hr (fun t ht hW => ⟨⟨(att, (0 : Int32), x2, ((x4 &&& (1073741823 : Int64)) : Int64).toInt32), rfl, by rw [hX]; simp only [g_R_readToken, if_neg c2, if_pos c12, if_pos c13, if_pos c19, if_pos c20], by show va_P D classes _ t.heap; rw [ht]; exact hP⟩, hS.F ht⟩) hS.2.2 d_R_readToken_202
                · refine lv_aload_n hx hb d_R_readToken_181 rfl (lv_at hl 6 rfl) ?_
                  refine lv_iconst (v := 4) hx hb d_R_readToken_182 (by decide) ?_
                  refine va_put (D := D) (ci := 4) (v := .int (4 : Int32)) (ty := .int) (C := "SignMachine$Source") (T := F_R) (N := 9) hx hb hk fi_R ft_R ft_R_ok fn_R hown hK.1 hP hD hS 1 rfl rfl 6 (by decide) (hk _ k_545) (fun _ h9 => h9) rfl (by decide +kernel) rfl rfl (Nat.le_of_ble_eq_true rfl) d_R_readToken_183 (fun H locs hP hD hS => ?_)
                  have hP : va_P D classes (aW cI cJ cZ cB g0 g1 g2 g3 g4 g5 g6 g7 g8 g9 g10 g11 g12 g13 g14 g15 flt fln ffr sta plc edd lab lbv opr acd akd agl len lin att stp fol (4 : Int32) snm snu byt ncn nsy nns nvs ntd lvs ltd ocn opl owd oln okd ogl olo TL) H := hP
                  have hD : va_D A (aW cI cJ cZ cB g0 g1 g2 g3 g4 g5 g6 g7 g8 g9 g10 g11 g12 g13 g14 g15 flt fln ffr sta plc edd lab lbv opr acd akd agl len lin att stp fol (4 : Int32) snm snu byt ncn nsy nns nvs ntd lvs ltd ocn opl owd oln okd ogl olo TL) := hD
                  refine lv_aload_n hx hb d_R_readToken_186 rfl (lv_at hl 6 rfl) ?_
                  refine lv_lload_n hx hb d_R_readToken_187 rfl (lv_at hl 4 rfl) ?_
                  refine va_put (D := D) (ci := 4) (v := .long x2) (ty := .long) (C := "SignMachine$Source") (T := F_R) (N := 9) hx hb hk fi_R ft_R ft_R_ok fn_R hown hK.1 hP hD hS 1 rfl rfl 7 (by decide) (hk _ k_547) (fun _ h9 => h9) rfl (by decide +kernel) rfl rfl (Nat.le_of_ble_eq_true rfl) d_R_readToken_188 (fun H locs hP hD hS => ?_)
                  have hP : va_P D classes (aW cI cJ cZ cB g0 g1 g2 g3 g4 g5 g6 g7 g8 g9 g10 g11 g12 g13 g14 g15 flt fln ffr sta plc edd lab lbv opr acd akd agl len lin att stp fol (4 : Int32) x2 snu byt ncn nsy nns nvs ntd lvs ltd ocn opl owd oln okd ogl olo TL) H := hP
                  have hD : va_D A (aW cI cJ cZ cB g0 g1 g2 g3 g4 g5 g6 g7 g8 g9 g10 g11 g12 g13 g14 g15 flt fln ffr sta plc edd lab lbv opr acd akd agl len lin att stp fol (4 : Int32) x2 snu byt ncn nsy nns nvs ntd lvs ltd ocn opl owd oln okd ogl olo TL) := hD
                  refine lv_aload_n hx hb d_R_readToken_191 rfl (lv_at hl 6 rfl) ?_
                  refine lv_lload hx hb d_R_readToken_192 (lv_at hl 3 rfl) ?_
                  refine lv_ldc2 (v := 1073741823) hx hb hown (hk _ k_766) d_R_readToken_194 ?_
                  refine lv_land hx hb d_R_readToken_197 ?_
                  refine lv_l2i (v := ((x4 &&& (1073741823 : Int64)) : Int64).toInt32) hx hb d_R_readToken_198 rfl ?_
                  refine va_put (D := D) (ci := 4) (v := .int ((x4 &&& (1073741823 : Int64)) : Int64).toInt32) (ty := .int) (C := "SignMachine$Source") (T := F_R) (N := 9) hx hb hk fi_R ft_R ft_R_ok fn_R hown hK.1 hP hD hS 1 rfl rfl 8 (by decide) (hk _ k_548) (fun _ h9 => h9) rfl (by decide +kernel) rfl rfl (Nat.le_of_ble_eq_true rfl) d_R_readToken_199 (fun H locs hP hD hS => ?_)
                  have hP : va_P D classes (aW cI cJ cZ cB g0 g1 g2 g3 g4 g5 g6 g7 g8 g9 g10 g11 g12 g13 g14 g15 flt fln ffr sta plc edd lab lbv opr acd akd agl len lin att stp fol (4 : Int32) x2 ((x4 &&& (1073741823 : Int64)) : Int64).toInt32 byt ncn nsy nns nvs ntd lvs ltd ocn opl owd oln okd ogl olo TL) H := hP
                  have hD : va_D A (aW cI cJ cZ cB g0 g1 g2 g3 g4 g5 g6 g7 g8 g9 g10 g11 g12 g13 g14 g15 flt fln ffr sta plc edd lab lbv opr acd akd agl len lin att stp fol (4 : Int32) x2 ((x4 &&& (1073741823 : Int64)) : Int64).toInt32 byt ncn nsy nns nvs ntd lvs ltd ocn opl owd oln okd ogl olo TL) := hD
                  exact W.vret hx hb hr (fun t ht hW => ⟨⟨(att, (4 : Int32), x2, ((x4 &&& (1073741823 : Int64)) : Int64).toInt32), rfl, by rw [hX]; simp only [g_R_readToken, if_neg c2, if_pos c12, if_pos c13, if_pos c19, if_neg c20], by show va_P D classes _ t.heap; rw [ht]; exact hP⟩, hS.F ht⟩) hS.2.2 d_R_readToken_202
              · refine lv_bipush (v := 8) hx hb d_R_readToken_171 (by decide) ?_
                refine lv_goto (tgt := 178) hx hb d_R_readToken_173 (by decide) ?_
                refine lv_icmp_le (tgt := 186) hx hb d_R_readToken_178 (by decide) (fun c21 => ?_) (fun c21 => ?_)
                · refine lv_aload_n hx hb d_R_readToken_186 rfl (lv_at hl 6 rfl) ?_
                  refine lv_lload_n hx hb d_R_readToken_187 rfl (lv_at hl 4 rfl) ?_
                  refine va_put (D := D) (ci := 4) (v := .long x2) (ty := .long) (C := "SignMachine$Source") (T := F_R) (N := 9) hx hb hk fi_R ft_R ft_R_ok fn_R hown hK.1 hP hD hS 1 rfl rfl 7 (by decide) (hk _ k_547) (fun _ h9 => h9) rfl (by decide +kernel) rfl rfl (Nat.le_of_ble_eq_true rfl) d_R_readToken_188 (fun H locs hP hD hS => ?_)
                  have hP : va_P D classes (aW cI cJ cZ cB g0 g1 g2 g3 g4 g5 g6 g7 g8 g9 g10 g11 g12 g13 g14 g15 flt fln ffr sta plc edd lab lbv opr acd akd agl len lin att stp fol (0 : Int32) x2 snu byt ncn nsy nns nvs ntd lvs ltd ocn opl owd oln okd ogl olo TL) H := hP
                  have hD : va_D A (aW cI cJ cZ cB g0 g1 g2 g3 g4 g5 g6 g7 g8 g9 g10 g11 g12 g13 g14 g15 flt fln ffr sta plc edd lab lbv opr acd akd agl len lin att stp fol (0 : Int32) x2 snu byt ncn nsy nns nvs ntd lvs ltd ocn opl owd oln okd ogl olo TL) := hD
                  refine lv_aload_n hx hb d_R_readToken_191 rfl (lv_at hl 6 rfl) ?_
                  refine lv_lload hx hb d_R_readToken_192 (lv_at hl 3 rfl) ?_
                  refine lv_ldc2 (v := 1073741823) hx hb hown (hk _ k_766) d_R_readToken_194 ?_
                  refine lv_land hx hb d_R_readToken_197 ?_
                  refine lv_l2i (v := ((x4 &&& (1073741823 : Int64)) : Int64).toInt32) hx hb d_R_readToken_198 rfl ?_
                  refine va_put (D := D) (ci := 4) (v := .int ((x4 &&& (1073741823 : Int64)) : Int64).toInt32) (ty := .int) (C := "SignMachine$Source") (T := F_R) (N := 9) hx hb hk fi_R ft_R ft_R_ok fn_R hown hK.1 hP hD hS 1 rfl rfl 8 (by decide) (hk _ k_548) (fun _ h9 => h9) rfl (by decide +kernel) rfl rfl (Nat.le_of_ble_eq_true rfl) d_R_readToken_199 (fun H locs hP hD hS => ?_)
                  have hP : va_P D classes (aW cI cJ cZ cB g0 g1 g2 g3 g4 g5 g6 g7 g8 g9 g10 g11 g12 g13 g14 g15 flt fln ffr sta plc edd lab lbv opr acd akd agl len lin att stp fol (0 : Int32) x2 ((x4 &&& (1073741823 : Int64)) : Int64).toInt32 byt ncn nsy nns nvs ntd lvs ltd ocn opl owd oln okd ogl olo TL) H := hP
                  have hD : va_D A (aW cI cJ cZ cB g0 g1 g2 g3 g4 g5 g6 g7 g8 g9 g10 g11 g12 g13 g14 g15 flt fln ffr sta plc edd lab lbv opr acd akd agl len lin att stp fol (0 : Int32) x2 ((x4 &&& (1073741823 : Int64)) : Int64).toInt32 byt ncn nsy nns nvs ntd lvs ltd ocn opl owd oln okd ogl olo TL) := hD
                  exact W.vret hx hb hr (fun t ht hW => ⟨⟨(att, (0 : Int32), x2, ((x4 &&& (1073741823 : Int64)) : Int64).toInt32), rfl, by rw [hX]; simp only [g_R_readToken, if_neg c2, if_pos c12, if_pos c13, if_neg c19, if_pos c21], by show va_P D classes _ t.heap; rw [ht]; exact hP⟩, hS.F ht⟩) hS.2.2 d_R_readToken_202
                · refine lv_aload_n hx hb d_R_readToken_181 rfl (lv_at hl 6 rfl) ?_
                  refine lv_iconst (v := 4) hx hb d_R_readToken_182 (by decide) ?_
                  refine va_put (D := D) (ci := 4) (v := .int (4 : Int32)) (ty := .int) (C := "SignMachine$Source") (T := F_R) (N := 9) hx hb hk fi_R ft_R ft_R_ok fn_R hown hK.1 hP hD hS 1 rfl rfl 6 (by decide) (hk _ k_545) (fun _ h9 => h9) rfl (by decide +kernel) rfl rfl (Nat.le_of_ble_eq_true rfl) d_R_readToken_183 (fun H locs hP hD hS => ?_)
                  have hP : va_P D classes (aW cI cJ cZ cB g0 g1 g2 g3 g4 g5 g6 g7 g8 g9 g10 g11 g12 g13 g14 g15 flt fln ffr sta plc edd lab lbv opr acd akd agl len lin att stp fol (4 : Int32) snm snu byt ncn nsy nns nvs ntd lvs ltd ocn opl owd oln okd ogl olo TL) H := hP
                  have hD : va_D A (aW cI cJ cZ cB g0 g1 g2 g3 g4 g5 g6 g7 g8 g9 g10 g11 g12 g13 g14 g15 flt fln ffr sta plc edd lab lbv opr acd akd agl len lin att stp fol (4 : Int32) snm snu byt ncn nsy nns nvs ntd lvs ltd ocn opl owd oln okd ogl olo TL) := hD
                  refine lv_aload_n hx hb d_R_readToken_186 rfl (lv_at hl 6 rfl) ?_
                  refine lv_lload_n hx hb d_R_readToken_187 rfl (lv_at hl 4 rfl) ?_
                  refine va_put (D := D) (ci := 4) (v := .long x2) (ty := .long) (C := "SignMachine$Source") (T := F_R) (N := 9) hx hb hk fi_R ft_R ft_R_ok fn_R hown hK.1 hP hD hS 1 rfl rfl 7 (by decide) (hk _ k_547) (fun _ h9 => h9) rfl (by decide +kernel) rfl rfl (Nat.le_of_ble_eq_true rfl) d_R_readToken_188 (fun H locs hP hD hS => ?_)
                  have hP : va_P D classes (aW cI cJ cZ cB g0 g1 g2 g3 g4 g5 g6 g7 g8 g9 g10 g11 g12 g13 g14 g15 flt fln ffr sta plc edd lab lbv opr acd akd agl len lin att stp fol (4 : Int32) x2 snu byt ncn nsy nns nvs ntd lvs ltd ocn opl owd oln okd ogl olo TL) H := hP
                  have hD : va_D A (aW cI cJ cZ cB g0 g1 g2 g3 g4 g5 g6 g7 g8 g9 g10 g11 g12 g13 g14 g15 flt fln ffr sta plc edd lab lbv opr acd akd agl len lin att stp fol (4 : Int32) x2 snu byt ncn nsy nns nvs ntd lvs ltd ocn opl owd oln okd ogl olo TL) := hD
                  refine lv_aload_n hx hb d_R_readToken_191 rfl (lv_at hl 6 rfl) ?_
                  refine lv_lload hx hb d_R_readToken_192 (lv_at hl 3 rfl) ?_
                  refine lv_ldc2 (v := 1073741823) hx hb hown (hk _ k_766) d_R_readToken_194 ?_
                  refine lv_land hx hb d_R_readToken_197 ?_
                  refine lv_l2i (v := ((x4 &&& (1073741823 : Int64)) : Int64).toInt32) hx hb d_R_readToken_198 rfl ?_
                  refine va_put (D := D) (ci := 4) (v := .int ((x4 &&& (1073741823 : Int64)) : Int64).toInt32) (ty := .int) (C := "SignMachine$Source") (T := F_R) (N := 9) hx hb hk fi_R ft_R ft_R_ok fn_R hown hK.1 hP hD hS 1 rfl rfl 8 (by decide) (hk _ k_548) (fun _ h9 => h9) rfl (by decide +kernel) rfl rfl (Nat.le_of_ble_eq_true rfl) d_R_readToken_199 (fun H locs hP hD hS => ?_)
                  have hP : va_P D classes (aW cI cJ cZ cB g0 g1 g2 g3 g4 g5 g6 g7 g8 g9 g10 g11 g12 g13 g14 g15 flt fln ffr sta plc edd lab lbv opr acd akd agl len lin att stp fol (4 : Int32) x2 ((x4 &&& (1073741823 : Int64)) : Int64).toInt32 byt ncn nsy nns nvs ntd lvs ltd ocn opl owd oln okd ogl olo TL) H := hP
                  have hD : va_D A (aW cI cJ cZ cB g0 g1 g2 g3 g4 g5 g6 g7 g8 g9 g10 g11 g12 g13 g14 g15 flt fln ffr sta plc edd lab lbv opr acd akd agl len lin att stp fol (4 : Int32) x2 ((x4 &&& (1073741823 : Int64)) : Int64).toInt32 byt ncn nsy nns nvs ntd lvs ltd ocn opl owd oln okd ogl olo TL) := hD
                  exact W.vret hx hb hr (fun t ht hW => ⟨⟨(att, (4 : Int32), x2, ((x4 &&& (1073741823 : Int64)) : Int64).toInt32), rfl, by rw [hX]; simp only [g_R_readToken, if_neg c2, if_pos c12, if_pos c13, if_neg c19, if_neg c21], by show va_P D classes _ t.heap; rw [ht]; exact hP⟩, hS.F ht⟩) hS.2.2 d_R_readToken_202
          · refine lv_iinc (v := (x1 + (1 : Int32))) (lv' := [(1, .int (x1 + (1 : Int32))), (8, .int (nI k)), (7, .int x7), (6, .int x6), (4, .long x4), (2, .long x2), (0, .ref g1)]) hx hb d_R_readToken_59 hl (k := 5) rfl rfl (by decide) rfl (fun ls hl => ?_)
            refine lv_lload_n hx hb d_R_readToken_62 rfl (lv_at hl 5 rfl) ?_
            refine lv_bipush (v := 6) hx hb d_R_readToken_63 (by decide) ?_
            refine lv_lshl (v := (x2 <<< (((6 : Int32) : Int32).toInt64 &&& 63))) hx hb d_R_readToken_65 rfl ?_
            refine lv_iload hx hb d_R_readToken_66 (lv_at hl 2 rfl) ?_
            refine lv_i2l (v := (x7 : Int32).toInt64) hx hb d_R_readToken_68 rfl ?_
            refine lv_lor hx hb d_R_readToken_69 ?_
            refine lv_lstore_n (lv' := [(2, .long ((x2 <<< (((6 : Int32) : Int32).toInt64 &&& 63)) ||| (x7 : Int32).toInt64)), (1, .int (x1 + (1 : Int32))), (8, .int (nI k)), (7, .int x7), (6, .int x6), (4, .long x4), (0, .ref g1)]) hx hb d_R_readToken_70 rfl hl (by decide) rfl (fun ls hl => ?_)
            refine lv_iload hx hb d_R_readToken_71 (lv_at hl 4 rfl) ?_
            refine lv_if_ne (tgt := 84) hx hb d_R_readToken_73 (by decide) (fun c22 => ?_) (fun c22 => ?_)
            · refine lv_iconst (v := 1) hx hb d_R_readToken_84 (by decide) ?_
              refine lv_goto (tgt := 89) hx hb d_R_readToken_85 (by decide) ?_
              refine lv_istore (lv' := [(6, .int (1 : Int32)), (2, .long ((x2 <<< (((6 : Int32) : Int32).toInt64 &&& 63)) ||| (x7 : Int32).toInt64)), (1, .int (x1 + (1 : Int32))), (8, .int (nI k)), (7, .int x7), (4, .long x4), (0, .ref g1)]) hx hb d_R_readToken_89 hl (by decide) rfl (fun ls hl => ?_)
              refine lv_lload hx hb d_R_readToken_91 (lv_at hl 5 rfl) ?_
              refine lv_ldc2 (v := 10) hx hb hown (hk _ k_762) d_R_readToken_93 ?_
              refine lv_lmul hx hb d_R_readToken_96 ?_
              refine lv_iload hx hb d_R_readToken_97 (lv_at hl 4 rfl) ?_
              refine cs_i (W.runS (As := [.int x7]) (rest := [.long (x4 * (10 : Int64))]) ⟨hx, hb, hml, hown, hk⟩ (c_N_isLetter l x7) (s_N_isLetter hk k_759 ⟨Nat.le_of_ble_eq_true rfl, Nat.le_of_ble_eq_true rfl⟩) ⟨fun a U g mk q => q, fun U hU hW => ⟨rfl, trivial⟩⟩ rfl rfl hl.1 rfl (lv_room (Nat.le_of_ble_eq_true rfl)) d_R_readToken_99 ⟨Nat.le_of_ble_eq_true rfl, Nat.le_of_ble_eq_true rfl⟩) ?_
              refine lv_if_eq (tgt := 109) hx hb d_R_readToken_102 (by decide) (fun c23 => ?_) (fun c23 => ?_)
              · refine lv_iload hx hb d_R_readToken_109 (lv_at hl 4 rfl) ?_
                refine cs_i (W.runS (As := [.int x7]) (rest := [.long (x4 * (10 : Int64))]) ⟨hx, hb, hml, hown, hk⟩ (c_N_digitOf l x7) (s_N_digitOf hk k_763 ⟨Nat.le_of_ble_eq_true rfl, Nat.le_of_ble_eq_true rfl⟩) ⟨fun a U g mk q => q, fun U hU hW => ⟨rfl, trivial⟩⟩ rfl rfl hl.1 rfl (lv_room (Nat.le_of_ble_eq_true rfl)) d_R_readToken_111 ⟨Nat.le_of_ble_eq_true rfl, Nat.le_of_ble_eq_true rfl⟩) ?_
                refine lv_i2l (v := ((f_N_digitOf x7) : Int32).toInt64) hx hb d_R_readToken_114 rfl ?_
                refine lv_ladd hx hb d_R_readToken_115 ?_
                refine lv_lstore (lv' := [(4, .long ((x4 * (10 : Int64)) + ((f_N_digitOf x7) : Int32).toInt64)), (6, .int (1 : Int32)), (2, .long ((x2 <<< (((6 : Int32) : Int32).toInt64 &&& 63)) ||| (x7 : Int32).toInt64)), (1, .int (x1 + (1 : Int32))), (8, .int (nI k)), (7, .int x7), (0, .ref g1)]) hx hb d_R_readToken_116 hl (by decide) rfl (fun ls hl => ?_)
                refine lv_aload_n hx hb d_R_readToken_118 rfl (lv_at hl 6 rfl) ?_
                refine lv_dup hx hb d_R_readToken_119 rfl ?_
                refine va_get (D := D) (ci := 4) (v := .int att) (C := "SignMachine$Source") (T := F_R) (N := 9) hx hb hk fi_R hown hK.1 hP 1 rfl rfl 3 (by decide) (hk _ k_540) (fun _ h9 => h9) rfl d_R_readToken_120 ?_
                refine lv_iconst (v := 1) hx hb d_R_readToken_123 (by decide) ?_
                refine lv_iadd hx hb d_R_readToken_124 ?_
                refine va_put (D := D) (ci := 4) (v := .int (att + (1 : Int32))) (ty := .int) (C := "SignMachine$Source") (T := F_R) (N := 9) hx hb hk fi_R ft_R ft_R_ok fn_R hown hK.1 hP hD hS 1 rfl rfl 3 (by decide) (hk _ k_540) (fun _ h9 => h9) rfl (by decide +kernel) rfl rfl (Nat.le_of_ble_eq_true rfl) d_R_readToken_125 (fun H locs hP hD hS => ?_)
                have hP : va_P D classes (aW cI cJ cZ cB g0 g1 g2 g3 g4 g5 g6 g7 g8 g9 g10 g11 g12 g13 g14 g15 flt fln ffr sta plc edd lab lbv opr acd akd agl len lin (att + (1 : Int32)) stp fol skd snm snu byt ncn nsy nns nvs ntd lvs ltd ocn opl owd oln okd ogl olo TL) H := hP
                have hD : va_D A (aW cI cJ cZ cB g0 g1 g2 g3 g4 g5 g6 g7 g8 g9 g10 g11 g12 g13 g14 g15 flt fln ffr sta plc edd lab lbv opr acd akd agl len lin (att + (1 : Int32)) stp fol skd snm snu byt ncn nsy nns nvs ntd lvs ltd ocn opl owd oln okd ogl olo TL) := hD
                refine lv_aload_n hx hb d_R_readToken_128 rfl (lv_at hl 6 rfl) ?_
                refine cs_i (W.runV (C := "SignMachine$Source") (As := []) (rest := []) ⟨hx, hb, hml, hown, hk⟩ (c_R_peek l D cI cJ cZ cB g0 g1 g2 g3 g4 g5 g6 g7 g8 g9 g10 g11 g12 g13 g14 g15 flt fln ffr sta plc edd lab lbv opr acd akd agl len lin (att + (1 : Int32)) stp fol skd snm snu byt ncn nsy nns nvs ntd lvs ltd ocn opl owd oln okd ogl olo TL ) (v_R_peek hk k_747 ⟨Nat.le_of_ble_eq_true rfl, Nat.le_of_ble_eq_true rfl⟩) (pR_v hK hP (ci := 4) (q0 := 1) rfl rfl rfl) rfl rfl hl.1 rfl (lv_room (Nat.le_of_ble_eq_true rfl)) d_R_readToken_129 ⟨Nat.le_of_ble_eq_true rfl, Nat.le_of_ble_eq_true rfl⟩) ?_
                refine cs_i (W.runS (As := [.int (f_R_peek (att + (1 : Int32)) stp byt )]) (rest := []) ⟨hx, hb, hml, hown, hk⟩ (c_N_codeOf l (f_R_peek (att + (1 : Int32)) stp byt )) (s_N_codeOf hk k_756 ⟨Nat.le_of_ble_eq_true rfl, Nat.le_of_ble_eq_true rfl⟩) ⟨fun a U g mk q => q, fun U hU hW => ⟨rfl, trivial⟩⟩ rfl rfl hl.1 rfl (lv_room (Nat.le_of_ble_eq_true rfl)) d_R_readToken_132 ⟨Nat.le_of_ble_eq_true rfl, Nat.le_of_ble_eq_true rfl⟩) ?_
                refine lv_istore (lv' := [(7, .int (f_N_codeOf (f_R_peek (att + (1 : Int32)) stp byt ))), (4, .long ((x4 * (10 : Int64)) + ((f_N_digitOf x7) : Int32).toInt64)), (6, .int (1 : Int32)), (2, .long ((x2 <<< (((6 : Int32) : Int32).toInt64 &&& 63)) ||| (x7 : Int32).toInt64)), (1, .int (x1 + (1 : Int32))), (8, .int (nI k)), (0, .ref g1)]) hx hb d_R_readToken_135 hl (by decide) rfl (fun ls hl => ?_)
                refine lv_iinc (v := (nI (k + 1))) (lv' := [(8, .int (nI (k + 1))), (7, .int (f_N_codeOf (f_R_peek (att + (1 : Int32)) stp byt ))), (4, .long ((x4 * (10 : Int64)) + ((f_N_digitOf x7) : Int32).toInt64)), (6, .int (1 : Int32)), (2, .long ((x2 <<< (((6 : Int32) : Int32).toInt64 &&& 63)) ||| (x7 : Int32).toInt64)), (1, .int (x1 + (1 : Int32))), (0, .ref g1)]) hx hb d_R_readToken_137 hl (k := 5) rfl (nI_1 k) (by decide) rfl (fun ls hl => ?_)
                refine lv_goto (tgt := 47) hx hb d_R_readToken_140 (by decide) ?_
                exact ih (k + 1) (x1 + (1 : Int32)) ((x2 <<< (((6 : Int32) : Int32).toInt64 &&& 63)) ||| (x7 : Int32).toInt64) ((x4 * (10 : Int64)) + ((f_N_digitOf x7) : Int32).toInt64) (1 : Int32) (f_N_codeOf (f_R_peek (att + (1 : Int32)) stp byt )) (att + (1 : Int32)) skd snm snu H _ ls (lp_step hn1 hk1 (lp_gt10 hk1 c2)).2 (lp_step hn1 hk1 (lp_gt10 hk1 c2)).1 (by rw [hX]; simp only [g_R_readToken, if_neg c2, if_neg c12, if_neg c22, if_pos c23]) hP hD hS (lv_sub hl [0, 1, 3, 2, 4, 5, 6] rfl)
              · refine lv_iconst (v := 0) hx hb d_R_readToken_105 (by decide) ?_
                refine lv_goto (tgt := 114) hx hb d_R_readToken_106 (by decide) ?_
                refine lv_i2l (v := ((0 : Int32) : Int32).toInt64) hx hb d_R_readToken_114 rfl ?_
                refine lv_ladd hx hb d_R_readToken_115 ?_
                refine lv_lstore (lv' := [(4, .long ((x4 * (10 : Int64)) + ((0 : Int32) : Int32).toInt64)), (6, .int (1 : Int32)), (2, .long ((x2 <<< (((6 : Int32) : Int32).toInt64 &&& 63)) ||| (x7 : Int32).toInt64)), (1, .int (x1 + (1 : Int32))), (8, .int (nI k)), (7, .int x7), (0, .ref g1)]) hx hb d_R_readToken_116 hl (by decide) rfl (fun ls hl => ?_)
                refine lv_aload_n hx hb d_R_readToken_118 rfl (lv_at hl 6 rfl) ?_
                refine lv_dup hx hb d_R_readToken_119 rfl ?_
                refine va_get (D := D) (ci := 4) (v := .int att) (C := "SignMachine$Source") (T := F_R) (N := 9) hx hb hk fi_R hown hK.1 hP 1 rfl rfl 3 (by decide) (hk _ k_540) (fun _ h9 => h9) rfl d_R_readToken_120 ?_
                refine lv_iconst (v := 1) hx hb d_R_readToken_123 (by decide) ?_
                refine lv_iadd hx hb d_R_readToken_124 ?_
                refine va_put (D := D) (ci := 4) (v := .int (att + (1 : Int32))) (ty := .int) (C := "SignMachine$Source") (T := F_R) (N := 9) hx hb hk fi_R ft_R ft_R_ok fn_R hown hK.1 hP hD hS 1 rfl rfl 3 (by decide) (hk _ k_540) (fun _ h9 => h9) rfl (by decide +kernel) rfl rfl (Nat.le_of_ble_eq_true rfl) d_R_readToken_125 (fun H locs hP hD hS => ?_)
                have hP : va_P D classes (aW cI cJ cZ cB g0 g1 g2 g3 g4 g5 g6 g7 g8 g9 g10 g11 g12 g13 g14 g15 flt fln ffr sta plc edd lab lbv opr acd akd agl len lin (att + (1 : Int32)) stp fol skd snm snu byt ncn nsy nns nvs ntd lvs ltd ocn opl owd oln okd ogl olo TL) H := hP
                have hD : va_D A (aW cI cJ cZ cB g0 g1 g2 g3 g4 g5 g6 g7 g8 g9 g10 g11 g12 g13 g14 g15 flt fln ffr sta plc edd lab lbv opr acd akd agl len lin (att + (1 : Int32)) stp fol skd snm snu byt ncn nsy nns nvs ntd lvs ltd ocn opl owd oln okd ogl olo TL) := hD
                refine lv_aload_n hx hb d_R_readToken_128 rfl (lv_at hl 6 rfl) ?_
                refine cs_i (W.runV (C := "SignMachine$Source") (As := []) (rest := []) ⟨hx, hb, hml, hown, hk⟩ (c_R_peek l D cI cJ cZ cB g0 g1 g2 g3 g4 g5 g6 g7 g8 g9 g10 g11 g12 g13 g14 g15 flt fln ffr sta plc edd lab lbv opr acd akd agl len lin (att + (1 : Int32)) stp fol skd snm snu byt ncn nsy nns nvs ntd lvs ltd ocn opl owd oln okd ogl olo TL ) (v_R_peek hk k_747 ⟨Nat.le_of_ble_eq_true rfl, Nat.le_of_ble_eq_true rfl⟩) (pR_v hK hP (ci := 4) (q0 := 1) rfl rfl rfl) rfl rfl hl.1 rfl (lv_room (Nat.le_of_ble_eq_true rfl)) d_R_readToken_129 ⟨Nat.le_of_ble_eq_true rfl, Nat.le_of_ble_eq_true rfl⟩) ?_
                refine cs_i (W.runS (As := [.int (f_R_peek (att + (1 : Int32)) stp byt )]) (rest := []) ⟨hx, hb, hml, hown, hk⟩ (c_N_codeOf l (f_R_peek (att + (1 : Int32)) stp byt )) (s_N_codeOf hk k_756 ⟨Nat.le_of_ble_eq_true rfl, Nat.le_of_ble_eq_true rfl⟩) ⟨fun a U g mk q => q, fun U hU hW => ⟨rfl, trivial⟩⟩ rfl rfl hl.1 rfl (lv_room (Nat.le_of_ble_eq_true rfl)) d_R_readToken_132 ⟨Nat.le_of_ble_eq_true rfl, Nat.le_of_ble_eq_true rfl⟩) ?_
                refine lv_istore (lv' := [(7, .int (f_N_codeOf (f_R_peek (att + (1 : Int32)) stp byt ))), (4, .long ((x4 * (10 : Int64)) + ((0 : Int32) : Int32).toInt64)), (6, .int (1 : Int32)), (2, .long ((x2 <<< (((6 : Int32) : Int32).toInt64 &&& 63)) ||| (x7 : Int32).toInt64)), (1, .int (x1 + (1 : Int32))), (8, .int (nI k)), (0, .ref g1)]) hx hb d_R_readToken_135 hl (by decide) rfl (fun ls hl => ?_)
                refine lv_iinc (v := (nI (k + 1))) (lv' := [(8, .int (nI (k + 1))), (7, .int (f_N_codeOf (f_R_peek (att + (1 : Int32)) stp byt ))), (4, .long ((x4 * (10 : Int64)) + ((0 : Int32) : Int32).toInt64)), (6, .int (1 : Int32)), (2, .long ((x2 <<< (((6 : Int32) : Int32).toInt64 &&& 63)) ||| (x7 : Int32).toInt64)), (1, .int (x1 + (1 : Int32))), (0, .ref g1)]) hx hb d_R_readToken_137 hl (k := 5) rfl (nI_1 k) (by decide) rfl (fun ls hl => ?_)
                refine lv_goto (tgt := 47) hx hb d_R_readToken_140 (by decide) ?_
                exact ih (k + 1) (x1 + (1 : Int32)) ((x2 <<< (((6 : Int32) : Int32).toInt64 &&& 63)) ||| (x7 : Int32).toInt64) ((x4 * (10 : Int64)) + ((0 : Int32) : Int32).toInt64) (1 : Int32) (f_N_codeOf (f_R_peek (att + (1 : Int32)) stp byt )) (att + (1 : Int32)) skd snm snu H _ ls (lp_step hn1 hk1 (lp_gt10 hk1 c2)).2 (lp_step hn1 hk1 (lp_gt10 hk1 c2)).1 (by rw [hX]; simp only [g_R_readToken, if_neg c2, if_neg c12, if_neg c22, if_neg c23]) hP hD hS (lv_sub hl [0, 1, 3, 2, 4, 5, 6] rfl)
            · refine lv_iload hx hb d_R_readToken_76 (lv_at hl 3 rfl) ?_
              refine cs_i (W.runS (As := [.int x7]) (rest := []) ⟨hx, hb, hml, hown, hk⟩ (c_N_isLetter l x7) (s_N_isLetter hk k_759 ⟨Nat.le_of_ble_eq_true rfl, Nat.le_of_ble_eq_true rfl⟩) ⟨fun a U g mk q => q, fun U hU hW => ⟨rfl, trivial⟩⟩ rfl rfl hl.1 rfl (lv_room (Nat.le_of_ble_eq_true rfl)) d_R_readToken_78 ⟨Nat.le_of_ble_eq_true rfl, Nat.le_of_ble_eq_true rfl⟩) ?_
              refine lv_if_eq (tgt := 88) hx hb d_R_readToken_81 (by decide) (fun c24 => ?_) (fun c24 => ?_)
              · refine lv_iconst (v := 0) hx hb d_R_readToken_88 (by decide) ?_
                refine lv_istore (lv' := [(6, .int (0 : Int32)), (2, .long ((x2 <<< (((6 : Int32) : Int32).toInt64 &&& 63)) ||| (x7 : Int32).toInt64)), (1, .int (x1 + (1 : Int32))), (8, .int (nI k)), (7, .int x7), (4, .long x4), (0, .ref g1)]) hx hb d_R_readToken_89 hl (by decide) rfl (fun ls hl => ?_)
                refine lv_lload hx hb d_R_readToken_91 (lv_at hl 5 rfl) ?_
                refine lv_ldc2 (v := 10) hx hb hown (hk _ k_762) d_R_readToken_93 ?_
                refine lv_lmul hx hb d_R_readToken_96 ?_
                refine lv_iload hx hb d_R_readToken_97 (lv_at hl 4 rfl) ?_
                refine cs_i (W.runS (As := [.int x7]) (rest := [.long (x4 * (10 : Int64))]) ⟨hx, hb, hml, hown, hk⟩ (c_N_isLetter l x7) (s_N_isLetter hk k_759 ⟨Nat.le_of_ble_eq_true rfl, Nat.le_of_ble_eq_true rfl⟩) ⟨fun a U g mk q => q, fun U hU hW => ⟨rfl, trivial⟩⟩ rfl rfl hl.1 rfl (lv_room (Nat.le_of_ble_eq_true rfl)) d_R_readToken_99 ⟨Nat.le_of_ble_eq_true rfl, Nat.le_of_ble_eq_true rfl⟩) ?_
                refine lv_if_eq (tgt := 109) hx hb d_R_readToken_102 (by decide) (fun c25 => ?_) (fun c25 => absurd c24 c25)
                refine lv_iload hx hb d_R_readToken_109 (lv_at hl 4 rfl) ?_
                refine cs_i (W.runS (As := [.int x7]) (rest := [.long (x4 * (10 : Int64))]) ⟨hx, hb, hml, hown, hk⟩ (c_N_digitOf l x7) (s_N_digitOf hk k_763 ⟨Nat.le_of_ble_eq_true rfl, Nat.le_of_ble_eq_true rfl⟩) ⟨fun a U g mk q => q, fun U hU hW => ⟨rfl, trivial⟩⟩ rfl rfl hl.1 rfl (lv_room (Nat.le_of_ble_eq_true rfl)) d_R_readToken_111 ⟨Nat.le_of_ble_eq_true rfl, Nat.le_of_ble_eq_true rfl⟩) ?_
                refine lv_i2l (v := ((f_N_digitOf x7) : Int32).toInt64) hx hb d_R_readToken_114 rfl ?_
                refine lv_ladd hx hb d_R_readToken_115 ?_
                refine lv_lstore (lv' := [(4, .long ((x4 * (10 : Int64)) + ((f_N_digitOf x7) : Int32).toInt64)), (6, .int (0 : Int32)), (2, .long ((x2 <<< (((6 : Int32) : Int32).toInt64 &&& 63)) ||| (x7 : Int32).toInt64)), (1, .int (x1 + (1 : Int32))), (8, .int (nI k)), (7, .int x7), (0, .ref g1)]) hx hb d_R_readToken_116 hl (by decide) rfl (fun ls hl => ?_)
                refine lv_aload_n hx hb d_R_readToken_118 rfl (lv_at hl 6 rfl) ?_
                refine lv_dup hx hb d_R_readToken_119 rfl ?_
                refine va_get (D := D) (ci := 4) (v := .int att) (C := "SignMachine$Source") (T := F_R) (N := 9) hx hb hk fi_R hown hK.1 hP 1 rfl rfl 3 (by decide) (hk _ k_540) (fun _ h9 => h9) rfl d_R_readToken_120 ?_
                refine lv_iconst (v := 1) hx hb d_R_readToken_123 (by decide) ?_
                refine lv_iadd hx hb d_R_readToken_124 ?_
                refine va_put (D := D) (ci := 4) (v := .int (att + (1 : Int32))) (ty := .int) (C := "SignMachine$Source") (T := F_R) (N := 9) hx hb hk fi_R ft_R ft_R_ok fn_R hown hK.1 hP hD hS 1 rfl rfl 3 (by decide) (hk _ k_540) (fun _ h9 => h9) rfl (by decide +kernel) rfl rfl (Nat.le_of_ble_eq_true rfl) d_R_readToken_125 (fun H locs hP hD hS => ?_)
                have hP : va_P D classes (aW cI cJ cZ cB g0 g1 g2 g3 g4 g5 g6 g7 g8 g9 g10 g11 g12 g13 g14 g15 flt fln ffr sta plc edd lab lbv opr acd akd agl len lin (att + (1 : Int32)) stp fol skd snm snu byt ncn nsy nns nvs ntd lvs ltd ocn opl owd oln okd ogl olo TL) H := hP
                have hD : va_D A (aW cI cJ cZ cB g0 g1 g2 g3 g4 g5 g6 g7 g8 g9 g10 g11 g12 g13 g14 g15 flt fln ffr sta plc edd lab lbv opr acd akd agl len lin (att + (1 : Int32)) stp fol skd snm snu byt ncn nsy nns nvs ntd lvs ltd ocn opl owd oln okd ogl olo TL) := hD
                refine lv_aload_n hx hb d_R_readToken_128 rfl (lv_at hl 6 rfl) ?_
                refine cs_i (W.runV (C := "SignMachine$Source") (As := []) (rest := []) ⟨hx, hb, hml, hown, hk⟩ (c_R_peek l D cI cJ cZ cB g0 g1 g2 g3 g4 g5 g6 g7 g8 g9 g10 g11 g12 g13 g14 g15 flt fln ffr sta plc edd lab lbv opr acd akd agl len lin (att + (1 : Int32)) stp fol skd snm snu byt ncn nsy nns nvs ntd lvs ltd ocn opl owd oln okd ogl olo TL ) (v_R_peek hk k_747 ⟨Nat.le_of_ble_eq_true rfl, Nat.le_of_ble_eq_true rfl⟩) (pR_v hK hP (ci := 4) (q0 := 1) rfl rfl rfl) rfl rfl hl.1 rfl (lv_room (Nat.le_of_ble_eq_true rfl)) d_R_readToken_129 ⟨Nat.le_of_ble_eq_true rfl, Nat.le_of_ble_eq_true rfl⟩) ?_
                refine cs_i (W.runS (As := [.int (f_R_peek (att + (1 : Int32)) stp byt )]) (rest := []) ⟨hx, hb, hml, hown, hk⟩ (c_N_codeOf l (f_R_peek (att + (1 : Int32)) stp byt )) (s_N_codeOf hk k_756 ⟨Nat.le_of_ble_eq_true rfl, Nat.le_of_ble_eq_true rfl⟩) ⟨fun a U g mk q => q, fun U hU hW => ⟨rfl, trivial⟩⟩ rfl rfl hl.1 rfl (lv_room (Nat.le_of_ble_eq_true rfl)) d_R_readToken_132 ⟨Nat.le_of_ble_eq_true rfl, Nat.le_of_ble_eq_true rfl⟩) ?_
                refine lv_istore (lv' := [(7, .int (f_N_codeOf (f_R_peek (att + (1 : Int32)) stp byt ))), (4, .long ((x4 * (10 : Int64)) + ((f_N_digitOf x7) : Int32).toInt64)), (6, .int (0 : Int32)), (2, .long ((x2 <<< (((6 : Int32) : Int32).toInt64 &&& 63)) ||| (x7 : Int32).toInt64)), (1, .int (x1 + (1 : Int32))), (8, .int (nI k)), (0, .ref g1)]) hx hb d_R_readToken_135 hl (by decide) rfl (fun ls hl => ?_)
                refine lv_iinc (v := (nI (k + 1))) (lv' := [(8, .int (nI (k + 1))), (7, .int (f_N_codeOf (f_R_peek (att + (1 : Int32)) stp byt ))), (4, .long ((x4 * (10 : Int64)) + ((f_N_digitOf x7) : Int32).toInt64)), (6, .int (0 : Int32)), (2, .long ((x2 <<< (((6 : Int32) : Int32).toInt64 &&& 63)) ||| (x7 : Int32).toInt64)), (1, .int (x1 + (1 : Int32))), (0, .ref g1)]) hx hb d_R_readToken_137 hl (k := 5) rfl (nI_1 k) (by decide) rfl (fun ls hl => ?_)
                refine lv_goto (tgt := 47) hx hb d_R_readToken_140 (by decide) ?_
                exact ih (k + 1) (x1 + (1 : Int32)) ((x2 <<< (((6 : Int32) : Int32).toInt64 &&& 63)) ||| (x7 : Int32).toInt64) ((x4 * (10 : Int64)) + ((f_N_digitOf x7) : Int32).toInt64) (0 : Int32) (f_N_codeOf (f_R_peek (att + (1 : Int32)) stp byt )) (att + (1 : Int32)) skd snm snu H _ ls (lp_step hn1 hk1 (lp_gt10 hk1 c2)).2 (lp_step hn1 hk1 (lp_gt10 hk1 c2)).1 (by rw [hX]; simp only [g_R_readToken, if_neg c2, if_neg c12, if_pos c22, if_pos c24]) hP hD hS (lv_sub hl [0, 1, 3, 2, 4, 5, 6] rfl)
              · refine lv_iconst (v := 1) hx hb d_R_readToken_84 (by decide) ?_
                refine lv_goto (tgt := 89) hx hb d_R_readToken_85 (by decide) ?_
                refine lv_istore (lv' := [(6, .int (1 : Int32)), (2, .long ((x2 <<< (((6 : Int32) : Int32).toInt64 &&& 63)) ||| (x7 : Int32).toInt64)), (1, .int (x1 + (1 : Int32))), (8, .int (nI k)), (7, .int x7), (4, .long x4), (0, .ref g1)]) hx hb d_R_readToken_89 hl (by decide) rfl (fun ls hl => ?_)
                refine lv_lload hx hb d_R_readToken_91 (lv_at hl 5 rfl) ?_
                refine lv_ldc2 (v := 10) hx hb hown (hk _ k_762) d_R_readToken_93 ?_
                refine lv_lmul hx hb d_R_readToken_96 ?_
                refine lv_iload hx hb d_R_readToken_97 (lv_at hl 4 rfl) ?_
                refine cs_i (W.runS (As := [.int x7]) (rest := [.long (x4 * (10 : Int64))]) ⟨hx, hb, hml, hown, hk⟩ (c_N_isLetter l x7) (s_N_isLetter hk k_759 ⟨Nat.le_of_ble_eq_true rfl, Nat.le_of_ble_eq_true rfl⟩) ⟨fun a U g mk q => q, fun U hU hW => ⟨rfl, trivial⟩⟩ rfl rfl hl.1 rfl (lv_room (Nat.le_of_ble_eq_true rfl)) d_R_readToken_99 ⟨Nat.le_of_ble_eq_true rfl, Nat.le_of_ble_eq_true rfl⟩) ?_
                refine lv_if_eq (tgt := 109) hx hb d_R_readToken_102 (by decide) (fun c26 => absurd c26 c24) (fun c26 => ?_)
                refine lv_iconst (v := 0) hx hb d_R_readToken_105 (by decide) ?_
                refine lv_goto (tgt := 114) hx hb d_R_readToken_106 (by decide) ?_
                refine lv_i2l (v := ((0 : Int32) : Int32).toInt64) hx hb d_R_readToken_114 rfl ?_
                refine lv_ladd hx hb d_R_readToken_115 ?_
                refine lv_lstore (lv' := [(4, .long ((x4 * (10 : Int64)) + ((0 : Int32) : Int32).toInt64)), (6, .int (1 : Int32)), (2, .long ((x2 <<< (((6 : Int32) : Int32).toInt64 &&& 63)) ||| (x7 : Int32).toInt64)), (1, .int (x1 + (1 : Int32))), (8, .int (nI k)), (7, .int x7), (0, .ref g1)]) hx hb d_R_readToken_116 hl (by decide) rfl (fun ls hl => ?_)
                refine lv_aload_n hx hb d_R_readToken_118 rfl (lv_at hl 6 rfl) ?_
                refine lv_dup hx hb d_R_readToken_119 rfl ?_
                refine va_get (D := D) (ci := 4) (v := .int att) (C := "SignMachine$Source") (T := F_R) (N := 9) hx hb hk fi_R hown hK.1 hP 1 rfl rfl 3 (by decide) (hk _ k_540) (fun _ h9 => h9) rfl d_R_readToken_120 ?_
                refine lv_iconst (v := 1) hx hb d_R_readToken_123 (by decide) ?_
                refine lv_iadd hx hb d_R_readToken_124 ?_
                refine va_put (D := D) (ci := 4) (v := .int (att + (1 : Int32))) (ty := .int) (C := "SignMachine$Source") (T := F_R) (N := 9) hx hb hk fi_R ft_R ft_R_ok fn_R hown hK.1 hP hD hS 1 rfl rfl 3 (by decide) (hk _ k_540) (fun _ h9 => h9) rfl (by decide +kernel) rfl rfl (Nat.le_of_ble_eq_true rfl) d_R_readToken_125 (fun H locs hP hD hS => ?_)
                have hP : va_P D classes (aW cI cJ cZ cB g0 g1 g2 g3 g4 g5 g6 g7 g8 g9 g10 g11 g12 g13 g14 g15 flt fln ffr sta plc edd lab lbv opr acd akd agl len lin (att + (1 : Int32)) stp fol skd snm snu byt ncn nsy nns nvs ntd lvs ltd ocn opl owd oln okd ogl olo TL) H := hP
                have hD : va_D A (aW cI cJ cZ cB g0 g1 g2 g3 g4 g5 g6 g7 g8 g9 g10 g11 g12 g13 g14 g15 flt fln ffr sta plc edd lab lbv opr acd akd agl len lin (att + (1 : Int32)) stp fol skd snm snu byt ncn nsy nns nvs ntd lvs ltd ocn opl owd oln okd ogl olo TL) := hD
                refine lv_aload_n hx hb d_R_readToken_128 rfl (lv_at hl 6 rfl) ?_
                refine cs_i (W.runV (C := "SignMachine$Source") (As := []) (rest := []) ⟨hx, hb, hml, hown, hk⟩ (c_R_peek l D cI cJ cZ cB g0 g1 g2 g3 g4 g5 g6 g7 g8 g9 g10 g11 g12 g13 g14 g15 flt fln ffr sta plc edd lab lbv opr acd akd agl len lin (att + (1 : Int32)) stp fol skd snm snu byt ncn nsy nns nvs ntd lvs ltd ocn opl owd oln okd ogl olo TL ) (v_R_peek hk k_747 ⟨Nat.le_of_ble_eq_true rfl, Nat.le_of_ble_eq_true rfl⟩) (pR_v hK hP (ci := 4) (q0 := 1) rfl rfl rfl) rfl rfl hl.1 rfl (lv_room (Nat.le_of_ble_eq_true rfl)) d_R_readToken_129 ⟨Nat.le_of_ble_eq_true rfl, Nat.le_of_ble_eq_true rfl⟩) ?_
                refine cs_i (W.runS (As := [.int (f_R_peek (att + (1 : Int32)) stp byt )]) (rest := []) ⟨hx, hb, hml, hown, hk⟩ (c_N_codeOf l (f_R_peek (att + (1 : Int32)) stp byt )) (s_N_codeOf hk k_756 ⟨Nat.le_of_ble_eq_true rfl, Nat.le_of_ble_eq_true rfl⟩) ⟨fun a U g mk q => q, fun U hU hW => ⟨rfl, trivial⟩⟩ rfl rfl hl.1 rfl (lv_room (Nat.le_of_ble_eq_true rfl)) d_R_readToken_132 ⟨Nat.le_of_ble_eq_true rfl, Nat.le_of_ble_eq_true rfl⟩) ?_
                refine lv_istore (lv' := [(7, .int (f_N_codeOf (f_R_peek (att + (1 : Int32)) stp byt ))), (4, .long ((x4 * (10 : Int64)) + ((0 : Int32) : Int32).toInt64)), (6, .int (1 : Int32)), (2, .long ((x2 <<< (((6 : Int32) : Int32).toInt64 &&& 63)) ||| (x7 : Int32).toInt64)), (1, .int (x1 + (1 : Int32))), (8, .int (nI k)), (0, .ref g1)]) hx hb d_R_readToken_135 hl (by decide) rfl (fun ls hl => ?_)
                refine lv_iinc (v := (nI (k + 1))) (lv' := [(8, .int (nI (k + 1))), (7, .int (f_N_codeOf (f_R_peek (att + (1 : Int32)) stp byt ))), (4, .long ((x4 * (10 : Int64)) + ((0 : Int32) : Int32).toInt64)), (6, .int (1 : Int32)), (2, .long ((x2 <<< (((6 : Int32) : Int32).toInt64 &&& 63)) ||| (x7 : Int32).toInt64)), (1, .int (x1 + (1 : Int32))), (0, .ref g1)]) hx hb d_R_readToken_137 hl (k := 5) rfl (nI_1 k) (by decide) rfl (fun ls hl => ?_)
                refine lv_goto (tgt := 47) hx hb d_R_readToken_140 (by decide) ?_
                exact ih (k + 1) (x1 + (1 : Int32)) ((x2 <<< (((6 : Int32) : Int32).toInt64 &&& 63)) ||| (x7 : Int32).toInt64) ((x4 * (10 : Int64)) + ((0 : Int32) : Int32).toInt64) (1 : Int32) (f_N_codeOf (f_R_peek (att + (1 : Int32)) stp byt )) (att + (1 : Int32)) skd snm snu H _ ls (lp_step hn1 hk1 (lp_gt10 hk1 c2)).2 (lp_step hn1 hk1 (lp_gt10 hk1 c2)).1 (by rw [hX]; simp only [g_R_readToken, if_neg c2, if_neg c12, if_pos c22, if_neg c24]) hP hD hS (lv_sub hl [0, 1, 3, 2, 4, 5, 6] rfl)
    exact LP (((11 : Int32)).toInt.toNat + 1) 0 (0 : Int32) (0 : Int64) (0 : Int64) (0 : Int32) (f_N_codeOf (f_R_peek att stp byt )) att skd snm snu s.heap _ ls (Nat.zero_le _) (by omega) (by rw [← hXe]; simp only [f_R_readToken, if_neg c1]) hP hD hS (lv_sub hl [0, 1, 2, 3, 4, 5, 6] rfl)
  · refine lv_aload_n hx hb d_R_readToken_9 rfl (lv_at hl 0 rfl) ?_
    refine lv_dup hx hb d_R_readToken_10 rfl ?_
    refine va_get (D := D) (ci := 4) (v := .int att) (C := "SignMachine$Source") (T := F_R) (N := 9) hx hb hk fi_R hown hK.1 hP 1 rfl rfl 3 (by decide) (hk _ k_540) (fun _ h9 => h9) rfl d_R_readToken_11 ?_
    refine lv_iconst (v := 1) hx hb d_R_readToken_14 (by decide) ?_
    refine lv_iadd hx hb d_R_readToken_15 ?_
    refine va_put (D := D) (ci := 4) (v := .int (att + (1 : Int32))) (ty := .int) (C := "SignMachine$Source") (T := F_R) (N := 9) hx hb hk fi_R ft_R ft_R_ok fn_R hown hK.1 hP hD hS 1 rfl rfl 3 (by decide) (hk _ k_540) (fun _ h9 => h9) rfl (by decide +kernel) rfl rfl (Nat.le_of_ble_eq_true rfl) d_R_readToken_16 (fun H locs hP hD hS => ?_)
    have hP : va_P D classes (aW cI cJ cZ cB g0 g1 g2 g3 g4 g5 g6 g7 g8 g9 g10 g11 g12 g13 g14 g15 flt fln ffr sta plc edd lab lbv opr acd akd agl len lin (att + (1 : Int32)) stp fol skd snm snu byt ncn nsy nns nvs ntd lvs ltd ocn opl owd oln okd ogl olo TL) H := hP
    have hD : va_D A (aW cI cJ cZ cB g0 g1 g2 g3 g4 g5 g6 g7 g8 g9 g10 g11 g12 g13 g14 g15 flt fln ffr sta plc edd lab lbv opr acd akd agl len lin (att + (1 : Int32)) stp fol skd snm snu byt ncn nsy nns nvs ntd lvs ltd ocn opl owd oln okd ogl olo TL) := hD
    refine lv_aload_n hx hb d_R_readToken_19 rfl (lv_at hl 0 rfl) ?_
    refine lv_iconst (v := 3) hx hb d_R_readToken_20 (by decide) ?_
    refine va_put (D := D) (ci := 4) (v := .int (3 : Int32)) (ty := .int) (C := "SignMachine$Source") (T := F_R) (N := 9) hx hb hk fi_R ft_R ft_R_ok fn_R hown hK.1 hP hD hS 1 rfl rfl 6 (by decide) (hk _ k_545) (fun _ h9 => h9) rfl (by decide +kernel) rfl rfl (Nat.le_of_ble_eq_true rfl) d_R_readToken_21 (fun H locs hP hD hS => ?_)
    have hP : va_P D classes (aW cI cJ cZ cB g0 g1 g2 g3 g4 g5 g6 g7 g8 g9 g10 g11 g12 g13 g14 g15 flt fln ffr sta plc edd lab lbv opr acd akd agl len lin (att + (1 : Int32)) stp fol (3 : Int32) snm snu byt ncn nsy nns nvs ntd lvs ltd ocn opl owd oln okd ogl olo TL) H := hP
    have hD : va_D A (aW cI cJ cZ cB g0 g1 g2 g3 g4 g5 g6 g7 g8 g9 g10 g11 g12 g13 g14 g15 flt fln ffr sta plc edd lab lbv opr acd akd agl len lin (att + (1 : Int32)) stp fol (3 : Int32) snm snu byt ncn nsy nns nvs ntd lvs ltd ocn opl owd oln okd ogl olo TL) := hD
    exact W.vret hx hb hr (fun t ht hW => ⟨⟨((att + (1 : Int32)), (3 : Int32), snm, snu), rfl, by rw [← hXe]; simp only [f_R_readToken, if_pos c1], by show va_P D classes _ t.heap; rw [ht]; exact hP⟩, hS.F ht⟩) hS.2.2 d_R_readToken_24
theorem v_R_readToken {R : Room} {s : State} {args : Array Value} {own : String} {index : Nat} (hk : ∀ w ∈ tb, w.before args s = true) (hl : Cond.methodLink own index y_R_readToken ∈ tb) (hR : 1 + 1 ≤ R.frames ∧ 8 + (9 + 11) + 20 ≤ R.locals) : CallW R s args own "SignMachine$Source" index y_R_readToken b_R_readToken 9 none (.code y_R_readToken b_R_readToken 9 none :: tb) ({ frames := 1, cells := 0, slots := 0, locals := 20 }) 0 0 0 := mk_v 0 hk k_755 hl k_753 k_754 k_124 rfl rfl h_R_readToken hR

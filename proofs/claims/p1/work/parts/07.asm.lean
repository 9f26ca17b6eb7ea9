def f_A_begin (ltd : Nat → Int32) (olo : Nat → Int32)  : (Int32) × (Int32) × (Int32) × (Int32) × (Int32) × (Int32) × (Int32) × (Int32) × (Nat → Int32) × (Int32) × (Nat → Int32) := (match f_R_begin with | (linz1, folz1) => (match (f_N_clear ltd ) with | (ncnz2, nsyz2, ltdz2) => (match (f_O_clear olo ) with | (ocnz3, oloz3) => ((0 : Int32), (0 : Int32), (0 : Int32), (0 : Int32), linz1, folz1, ncnz2, nsyz2, ltdz2, ocnz3, oloz3))))
set_option maxHeartbeats 4000000 in
set_option maxRecDepth 100000 in
theorem c_A_begin (l : Launch) (D : va_G) (cI cJ cZ cB : ClassId) (g0 g1 g2 g3 g4 g5 g6 g7 g8 g9 g10 g11 g12 g13 g14 g15 : Nat) (sz : Nat) (flt : Int32) (fln : Int32) (ffr : Int32) (sta : Int32) (plc : Int32) (edd : Int32) (lab : Int64) (lbv : Int32) (opr : Option Nat) (acd : Int32) (akd : Int32) (agl : Int32) (len : Int32) (lin : Int32) (att : Int32) (stp : Int32) (fol : Int32) (skd : Int32) (snm : Int64) (snu : Int32) (byt : Nat → Int32) (ncn : Int32) (nsy : Int32) (nns : Nat → Int64) (nvs : Nat → Int32) (ntd : Nat → Int32) (lvs : Nat → Int32) (ltd : Nat → Int32) (ocn : Int32) (opl : Nat → Int32) (owd : Nat → Int32) (oln : Nat → Int32) (okd : Nat → Int32) (ogl : Nat → Int32) (olo : Nat → Int32) (TL : va_W)  : Met l y_A_begin (.code y_A_begin b_A_begin 1 none :: tb) ({ frames := 1, cells := 0, slots := 0, locals := 21 }) (pM D cI cJ cZ cB (aW cI cJ cZ cB g0 g1 g2 g3 g4 g5 g6 g7 g8 g9 g10 g11 g12 g13 g14 g15 flt fln ffr sta plc edd lab lbv opr acd akd agl len lin att stp fol skd snm snu byt ncn nsy nns nvs ntd lvs ltd ocn opl owd oln okd ogl olo TL) sz [.ref g0]) (qV D (fun u => u = f_A_begin ltd olo) (fun (u : (Int32) × (Int32) × (Int32) × (Int32) × (Int32) × (Int32) × (Int32) × (Int32) × (Nat → Int32) × (Int32) × (Nat → Int32)) => match u with | (u_flt, u_fln, u_plc, u_edd, u_lin, u_fol, u_ncn, u_nsy, u_ltd, u_ocn, u_olo) => (aW cI cJ cZ cB g0 g1 g2 g3 g4 g5 g6 g7 g8 g9 g10 g11 g12 g13 g14 g15 u_flt u_fln ffr sta u_plc u_edd lab lbv opr acd akd agl len u_lin att stp u_fol skd snm snu byt u_ncn u_nsy nns nvs ntd lvs u_ltd u_ocn opl owd oln okd ogl u_olo TL)) (va_A (aW cI cJ cZ cB g0 g1 g2 g3 g4 g5 g6 g7 g8 g9 g10 g11 g12 g13 g14 g15 flt fln ffr sta plc edd lab lbv opr acd akd agl len lin att stp fol skd snm snu byt ncn nsy nns nvs ntd lvs ltd ocn opl owd oln okd ogl olo TL) sz)) 0 0 (va_A (aW cI cJ cZ cB g0 g1 g2 g3 g4 g5 g6 g7 g8 g9 g10 g11 g12 g13 g14 g15 flt fln ffr sta plc edd lab lbv opr acd akd agl len lin att stp fol skd snm snu byt ncn nsy nns nvs ntd lvs ltd ocn opl owd oln okd ogl olo TL) sz) := by
  refine Met.ofW (cc := b_A_begin) (maxL := 1) (ret := none) (by decide) rfl ?_
  intro p e s m args below meth c s₁ B hml hv
  obtain ⟨rfl, hsz, hK, hP, hD0⟩ := hv
  subst hsz
  have hD := hD0.self (sz := s.heap.size)
  generalize hAe : va_A (aW cI cJ cZ cB g0 g1 g2 g3 g4 g5 g6 g7 g8 g9 g10 g11 g12 g13 g14 g15 flt fln ffr sta plc edd lab lbv opr acd akd agl len lin att stp fol skd snm snu byt ncn nsy nns nvs ntd lvs ltd ocn opl owd oln okd ogl olo TL) s.heap.size = A at hD ⊢
  have hA : ∀ q : Nat, s.heap.size ≤ q → A q := fun q h => by rw [← hAe]; exact Or.inr h
  have hS : va_S A s.heap s.heap [] := va_S.rf
  have hx := B.exec
  have hb := B.bytes
  have hr := B.returns
  have hts := atoms_spec (ws := .code y_A_begin b_A_begin 1 none :: tb) B.pre
  have hk : ∀ w ∈ tb, w.before [.ref g0].toArray s = true := fun w h => hts w (List.mem_cons_of_mem _ h)
  have hown : s.vm.findClass "SignMachine$Assembler" = some m.cls := findClass_of_methodNamed B.named
  have hlocks := B.notSynchronized
  have hl := lv_entry ([.ref g0]) (n := 1) (Nat.le_of_ble_eq_true rfl)
  rw [lg_entry_eq]
  generalize (lg_sl ([.ref g0]) ++ List.replicate (1 - (lg_sl ([.ref g0])).length) Slot.unset).toArray = ls at hl ⊢
  have hl : lv_has ls 1 [(0, .ref g0)] := hl
  refine lv_aload_n hx hb d_A_begin_0 rfl (lv_at hl 0 rfl) ?_
  refine va_get (D := D) (ci := 3) (v := .ref g1) (C := "SignMachine$Assembler") (T := F_A) (N := 15) hx hb hk fi_A hown hK.1 hP 0 rfl rfl 0 (by decide) (hk _ k_631) (fun _ h9 => h9) rfl d_A_begin_1 ?_
  refine ca_v (va_runV (C := "SignMachine$Source") (As := []) (rest := []) ⟨hx, hb, hml, hown, hk⟩ (c_R_begin l D cI cJ cZ cB g0 g1 g2 g3 g4 g5 g6 g7 g8 g9 g10 g11 g12 g13 g14 g15 s.heap.size flt fln ffr sta plc edd lab lbv opr acd akd agl len lin att stp fol skd snm snu byt ncn nsy nns nvs ntd lvs ltd ocn opl owd oln okd ogl olo TL ) (v_R_begin hk k_703 ⟨Nat.le_of_ble_eq_true rfl, Nat.le_of_ble_eq_true rfl⟩) (pM_v hK hP hD (ci := 4) (q0 := 1) rfl rfl rfl) rfl rfl hl.1 rfl (lv_room (Nat.le_of_ble_eq_true rfl)) d_A_begin_4 ⟨Nat.le_of_ble_eq_true rfl, Nat.le_of_ble_eq_true rfl⟩) hS hA hD (fun u H locs hz1 hP hS => ?_)
  obtain ⟨linz1, folz1⟩ := u
  have hP : va_P D classes (aW cI cJ cZ cB g0 g1 g2 g3 g4 g5 g6 g7 g8 g9 g10 g11 g12 g13 g14 g15 flt fln ffr sta plc edd lab lbv opr acd akd agl len linz1 att stp folz1 skd snm snu byt ncn nsy nns nvs ntd lvs ltd ocn opl owd oln okd ogl olo TL) H := hP
  have hD : va_D A (aW cI cJ cZ cB g0 g1 g2 g3 g4 g5 g6 g7 g8 g9 g10 g11 g12 g13 g14 g15 flt fln ffr sta plc edd lab lbv opr acd akd agl len linz1 att stp folz1 skd snm snu byt ncn nsy nns nvs ntd lvs ltd ocn opl owd oln okd ogl olo TL) := dsame hD rfl
  try dsimp only at hz1
  refine lv_aload_n hx hb d_A_begin_7 rfl (lv_at hl 0 rfl) ?_
  refine va_get (D := D) (ci := 3) (v := .ref g3) (C := "SignMachine$Assembler") (T := F_A) (N := 15) hx hb hk fi_A hown hK.1 hP 0 rfl rfl 1 (by decide) (hk _ k_633) (fun _ h9 => h9) rfl d_A_begin_8 ?_
  refine ca_v (va_runV (C := "SignMachine$Names") (As := []) (rest := []) ⟨hx, hb, hml, hown, hk⟩ (c_N_clear l D cI cJ cZ cB g0 g1 g2 g3 g4 g5 g6 g7 g8 g9 g10 g11 g12 g13 g14 g15 H.size flt fln ffr sta plc edd lab lbv opr acd akd agl len linz1 att stp folz1 skd snm snu byt ncn nsy nns nvs ntd lvs ltd ocn opl owd oln okd ogl olo TL ) (v_N_clear hk k_707 ⟨Nat.le_of_ble_eq_true rfl, Nat.le_of_ble_eq_true rfl⟩) (pM_v hK hP hD (ci := 5) (q0 := 3) rfl rfl rfl) rfl rfl hl.1 rfl (lv_room (Nat.le_of_ble_eq_true rfl)) d_A_begin_11 ⟨Nat.le_of_ble_eq_true rfl, Nat.le_of_ble_eq_true rfl⟩) hS hA hD (fun u H locs hz2 hP hS => ?_)
  obtain ⟨ncnz2, nsyz2, ltdz2⟩ := u
  have hP : va_P D classes (aW cI cJ cZ cB g0 g1 g2 g3 g4 g5 g6 g7 g8 g9 g10 g11 g12 g13 g14 g15 flt fln ffr sta plc edd lab lbv opr acd akd agl len linz1 att stp folz1 skd snm snu byt ncnz2 nsyz2 nns nvs ntd lvs ltdz2 ocn opl owd oln okd ogl olo TL) H := hP
  have hD : va_D A (aW cI cJ cZ cB g0 g1 g2 g3 g4 g5 g6 g7 g8 g9 g10 g11 g12 g13 g14 g15 flt fln ffr sta plc edd lab lbv opr acd akd agl len linz1 att stp folz1 skd snm snu byt ncnz2 nsyz2 nns nvs ntd lvs ltdz2 ocn opl owd oln okd ogl olo TL) := dsame hD rfl
  try dsimp only at hz2
  refine lv_aload_n hx hb d_A_begin_14 rfl (lv_at hl 0 rfl) ?_
  refine va_get (D := D) (ci := 3) (v := .ref g9) (C := "SignMachine$Assembler") (T := F_A) (N := 15) hx hb hk fi_A hown hK.1 hP 0 rfl rfl 2 (by decide) (hk _ k_634) (fun _ h9 => h9) rfl d_A_begin_15 ?_
  refine ca_v (va_runV (C := "SignMachine$Output") (As := []) (rest := []) ⟨hx, hb, hml, hown, hk⟩ (c_O_clear l D cI cJ cZ cB g0 g1 g2 g3 g4 g5 g6 g7 g8 g9 g10 g11 g12 g13 g14 g15 H.size flt fln ffr sta plc edd lab lbv opr acd akd agl len linz1 att stp folz1 skd snm snu byt ncnz2 nsyz2 nns nvs ntd lvs ltdz2 ocn opl owd oln okd ogl olo TL ) (v_O_clear hk k_711 ⟨Nat.le_of_ble_eq_true rfl, Nat.le_of_ble_eq_true rfl⟩) (pM_v hK hP hD (ci := 6) (q0 := 9) rfl rfl rfl) rfl rfl hl.1 rfl (lv_room (Nat.le_of_ble_eq_true rfl)) d_A_begin_18 ⟨Nat.le_of_ble_eq_true rfl, Nat.le_of_ble_eq_true rfl⟩) hS hA hD (fun u H locs hz3 hP hS => ?_)
  obtain ⟨ocnz3, oloz3⟩ := u
  have hP : va_P D classes (aW cI cJ cZ cB g0 g1 g2 g3 g4 g5 g6 g7 g8 g9 g10 g11 g12 g13 g14 g15 flt fln ffr sta plc edd lab lbv opr acd akd agl len linz1 att stp folz1 skd snm snu byt ncnz2 nsyz2 nns nvs ntd lvs ltdz2 ocnz3 opl owd oln okd ogl oloz3 TL) H := hP
  have hD : va_D A (aW cI cJ cZ cB g0 g1 g2 g3 g4 g5 g6 g7 g8 g9 g10 g11 g12 g13 g14 g15 flt fln ffr sta plc edd lab lbv opr acd akd agl len linz1 att stp folz1 skd snm snu byt ncnz2 nsyz2 nns nvs ntd lvs ltdz2 ocnz3 opl owd oln okd ogl oloz3 TL) := dsame hD rfl
  try dsimp only at hz3
  refine lv_aload_n hx hb d_A_begin_21 rfl (lv_at hl 0 rfl) ?_
  refine lv_iconst (v := 0) hx hb d_A_begin_22 (by decide) ?_
  refine va_put (D := D) (ci := 3) (v := .int (0 : Int32)) (ty := .int) (C := "SignMachine$Assembler") (T := F_A) (N := 15) hx hb hk fi_A ft_A ft_A_ok fn_A hown hK.1 hP hD hS 0 rfl rfl 3 (by decide) (hk _ k_636) (fun _ h9 => h9) rfl (by decide +kernel) rfl rfl (Nat.le_of_ble_eq_true rfl) d_A_begin_23 (fun H locs hP hD hS => ?_)
  have hP : va_P D classes (aW cI cJ cZ cB g0 g1 g2 g3 g4 g5 g6 g7 g8 g9 g10 g11 g12 g13 g14 g15 (0 : Int32) fln ffr sta plc edd lab lbv opr acd akd agl len linz1 att stp folz1 skd snm snu byt ncnz2 nsyz2 nns nvs ntd lvs ltdz2 ocnz3 opl owd oln okd ogl oloz3 TL) H := hP
  have hD : va_D A (aW cI cJ cZ cB g0 g1 g2 g3 g4 g5 g6 g7 g8 g9 g10 g11 g12 g13 g14 g15 (0 : Int32) fln ffr sta plc edd lab lbv opr acd akd agl len linz1 att stp folz1 skd snm snu byt ncnz2 nsyz2 nns nvs ntd lvs ltdz2 ocnz3 opl owd oln okd ogl oloz3 TL) := hD
  refine lv_aload_n hx hb d_A_begin_26 rfl (lv_at hl 0 rfl) ?_
  refine lv_iconst (v := 0) hx hb d_A_begin_27 (by decide) ?_
  refine va_put (D := D) (ci := 3) (v := .int (0 : Int32)) (ty := .int) (C := "SignMachine$Assembler") (T := F_A) (N := 15) hx hb hk fi_A ft_A ft_A_ok fn_A hown hK.1 hP hD hS 0 rfl rfl 4 (by decide) (hk _ k_638) (fun _ h9 => h9) rfl (by decide +kernel) rfl rfl (Nat.le_of_ble_eq_true rfl) d_A_begin_28 (fun H locs hP hD hS => ?_)
  have hP : va_P D classes (aW cI cJ cZ cB g0 g1 g2 g3 g4 g5 g6 g7 g8 g9 g10 g11 g12 g13 g14 g15 (0 : Int32) (0 : Int32) ffr sta plc edd lab lbv opr acd akd agl len linz1 att stp folz1 skd snm snu byt ncnz2 nsyz2 nns nvs ntd lvs ltdz2 ocnz3 opl owd oln okd ogl oloz3 TL) H := hP
  have hD : va_D A (aW cI cJ cZ cB g0 g1 g2 g3 g4 g5 g6 g7 g8 g9 g10 g11 g12 g13 g14 g15 (0 : Int32) (0 : Int32) ffr sta plc edd lab lbv opr acd akd agl len linz1 att stp folz1 skd snm snu byt ncnz2 nsyz2 nns nvs ntd lvs ltdz2 ocnz3 opl owd oln okd ogl oloz3 TL) := hD
  refine lv_aload_n hx hb d_A_begin_31 rfl (lv_at hl 0 rfl) ?_
  refine lv_iconst (v := 0) hx hb d_A_begin_32 (by decide) ?_
  refine va_put (D := D) (ci := 3) (v := .int (0 : Int32)) (ty := .int) (C := "SignMachine$Assembler") (T := F_A) (N := 15) hx hb hk fi_A ft_A ft_A_ok fn_A hown hK.1 hP hD hS 0 rfl rfl 7 (by decide) (hk _ k_644) (fun _ h9 => h9) rfl (by decide +kernel) rfl rfl (Nat.le_of_ble_eq_true rfl) d_A_begin_33 (fun H locs hP hD hS => ?_)
  have hP : va_P D classes (aW cI cJ cZ cB g0 g1 g2 g3 g4 g5 g6 g7 g8 g9 g10 g11 g12 g13 g14 g15 (0 : Int32) (0 : Int32) ffr sta (0 : Int32) edd lab lbv opr acd akd agl len linz1 att stp folz1 skd snm snu byt ncnz2 nsyz2 nns nvs ntd lvs ltdz2 ocnz3 opl owd oln okd ogl oloz3 TL) H := hP
  have hD : va_D A (aW cI cJ cZ cB g0 g1 g2 g3 g4 g5 g6 g7 g8 g9 g10 g11 g12 g13 g14 g15 (0 : Int32) (0 : Int32) ffr sta (0 : Int32) edd lab lbv opr acd akd agl len linz1 att stp folz1 skd snm snu byt ncnz2 nsyz2 nns nvs ntd lvs ltdz2 ocnz3 opl owd oln okd ogl oloz3 TL) := hD
  refine lv_aload_n hx hb d_A_begin_36 rfl (lv_at hl 0 rfl) ?_
  refine lv_iconst (v := 0) hx hb d_A_begin_37 (by decide) ?_
  refine va_put (D := D) (ci := 3) (v := .int (0 : Int32)) (ty := .boolean) (C := "SignMachine$Assembler") (T := F_A) (N := 15) hx hb hk fi_A ft_A ft_A_ok fn_A hown hK.1 hP hD hS 0 rfl rfl 8 (by decide) (hk _ k_645) (fun _ h9 => h9) rfl (by decide +kernel) rfl rfl (Nat.le_of_ble_eq_true rfl) d_A_begin_38 (fun H locs hP hD hS => ?_)
  have hP : va_P D classes (aW cI cJ cZ cB g0 g1 g2 g3 g4 g5 g6 g7 g8 g9 g10 g11 g12 g13 g14 g15 (0 : Int32) (0 : Int32) ffr sta (0 : Int32) (0 : Int32) lab lbv opr acd akd agl len linz1 att stp folz1 skd snm snu byt ncnz2 nsyz2 nns nvs ntd lvs ltdz2 ocnz3 opl owd oln okd ogl oloz3 TL) H := hP
  have hD : va_D A (aW cI cJ cZ cB g0 g1 g2 g3 g4 g5 g6 g7 g8 g9 g10 g11 g12 g13 g14 g15 (0 : Int32) (0 : Int32) ffr sta (0 : Int32) (0 : Int32) lab lbv opr acd akd agl len linz1 att stp folz1 skd snm snu byt ncnz2 nsyz2 nns nvs ntd lvs ltdz2 ocnz3 opl owd oln okd ogl oloz3 TL) := hD
  exact W.vret hx hb hr (fun t ht hW => ⟨⟨((0 : Int32), (0 : Int32), (0 : Int32), (0 : Int32), linz1, folz1, ncnz2, nsyz2, ltdz2, ocnz3, oloz3), rfl, by simp only [f_A_begin, ← hz1, ← hz2, ← hz3], by show va_P D classes _ t.heap; rw [ht]; exact hP⟩, hS.F ht⟩) hS.2.2 d_A_begin_41
theorem v_A_begin {R : Room} {s : State} {args : Array Value} {own : String} {index : Nat} (hk : ∀ w ∈ tb, w.before args s = true) (hl : Cond.methodLink own index y_A_begin ∈ tb) (hR : 1 + 1 ≤ R.frames ∧ 8 + (1 + 11) + 21 ≤ R.locals) : CallW R s args own "SignMachine$Assembler" index y_A_begin b_A_begin 1 none (.code y_A_begin b_A_begin 1 none :: tb) ({ frames := 1, cells := 0, slots := 0, locals := 21 }) 0 0 0 := mk_v 0 hk k_702 hl k_700 k_701 k_123 rfl rfl h_A_begin hR
def f_A_hasLine (flt : Int32) (edd : Int32) (len : Int32) (fol : Int32)  : Bool := (if flt = (0 : Int32) then (if edd = (0 : Int32) then (if (bI (f_R_hasLine len fol )) = (0 : Int32) then false else true) else false) else false)
set_option maxHeartbeats 4000000 in
set_option maxRecDepth 100000 in
theorem c_A_hasLine (l : Launch) (D : va_G) (cI cJ cZ cB : ClassId) (g0 g1 g2 g3 g4 g5 g6 g7 g8 g9 g10 g11 g12 g13 g14 g15 : Nat) (flt : Int32) (fln : Int32) (ffr : Int32) (sta : Int32) (plc : Int32) (edd : Int32) (lab : Int64) (lbv : Int32) (opr : Option Nat) (acd : Int32) (akd : Int32) (agl : Int32) (len : Int32) (lin : Int32) (att : Int32) (stp : Int32) (fol : Int32) (skd : Int32) (snm : Int64) (snu : Int32) (byt : Nat → Int32) (ncn : Int32) (nsy : Int32) (nns : Nat → Int64) (nvs : Nat → Int32) (ntd : Nat → Int32) (lvs : Nat → Int32) (ltd : Nat → Int32) (ocn : Int32) (opl : Nat → Int32) (owd : Nat → Int32) (oln : Nat → Int32) (okd : Nat → Int32) (ogl : Nat → Int32) (olo : Nat → Int32) (TL : va_W)   : Met l y_A_hasLine (.code y_A_hasLine b_A_hasLine 1 (some .boolean) :: tb) ({ frames := 1, cells := 0, slots := 0, locals := 20 }) (pR D cI cJ cZ cB (aW cI cJ cZ cB g0 g1 g2 g3 g4 g5 g6 g7 g8 g9 g10 g11 g12 g13 g14 g15 flt fln ffr sta plc edd lab lbv opr acd akd agl len lin att stp fol skd snm snu byt ncn nsy nns nvs ntd lvs ltd ocn opl owd oln okd ogl olo TL) [.ref g0]) (vp_Si (fun r => r = bI (f_A_hasLine flt edd len fol))) 0 0 (fun _ => False) := by
  refine Met.ofW (cc := b_A_hasLine) (maxL := 1) (ret := (some .boolean)) (by decide) rfl ?_
  intro p e s m args below meth c s₁ B hml hv
  obtain ⟨rfl, hK, hP⟩ := hv
  have hx := B.exec
  have hb := B.bytes
  have hr := B.returns
  have hts := atoms_spec (ws := .code y_A_hasLine b_A_hasLine 1 (some .boolean) :: tb) B.pre
  have hk : ∀ w ∈ tb, w.before [.ref g0].toArray s = true := fun w h => hts w (List.mem_cons_of_mem _ h)
  have hown : s.vm.findClass "SignMachine$Assembler" = some m.cls := findClass_of_methodNamed B.named
  have hlocks := B.notSynchronized
  have hl := lv_entry ([.ref g0]) (n := 1) (Nat.le_of_ble_eq_true rfl)
  rw [lg_entry_eq]
  generalize (lg_sl ([.ref g0]) ++ List.replicate (1 - (lg_sl ([.ref g0])).length) Slot.unset).toArray = ls at hl ⊢
  have hl : lv_has ls 1 [(0, .ref g0)] := hl
  refine lv_aload_n hx hb d_A_hasLine_0 rfl (lv_at hl 0 rfl) ?_
  refine va_get (D := D) (ci := 3) (v := .int flt) (C := "SignMachine$Assembler") (T := F_A) (N := 15) hx hb hk fi_A hown hK.1 hP 0 rfl rfl 3 (by decide) (hk _ k_636) (fun _ h9 => h9) rfl d_A_hasLine_1 ?_
  refine lv_if_ne (tgt := 28) hx hb d_A_hasLine_4 (by decide) (fun c1 => ?_) (fun c1 => ?_)
  · refine lv_iconst (v := 0) hx hb d_A_hasLine_28 (by decide) ?_
    exact W.zret (v := (0 : Int32)) hx hb hr rfl (fun t ht hW => ⟨(0 : Int32), rfl, by simp only [f_A_hasLine, if_neg c1]; rfl, ht⟩) (fun q h => absurd h List.not_mem_nil) d_A_hasLine_29
  · refine lv_aload_n hx hb d_A_hasLine_7 rfl (lv_at hl 0 rfl) ?_
    refine va_get (D := D) (ci := 3) (v := .int edd) (C := "SignMachine$Assembler") (T := F_A) (N := 15) hx hb hk fi_A hown hK.1 hP 0 rfl rfl 8 (by decide) (hk _ k_645) (fun _ h9 => h9) rfl d_A_hasLine_8 ?_
    refine lv_if_ne (tgt := 28) hx hb d_A_hasLine_11 (by decide) (fun c2 => ?_) (fun c2 => ?_)
    · refine lv_iconst (v := 0) hx hb d_A_hasLine_28 (by decide) ?_
      exact W.zret (v := (0 : Int32)) hx hb hr rfl (fun t ht hW => ⟨(0 : Int32), rfl, by simp only [f_A_hasLine, if_pos c1, if_neg c2]; rfl, ht⟩) (fun q h => absurd h List.not_mem_nil) d_A_hasLine_29
    · refine lv_aload_n hx hb d_A_hasLine_14 rfl (lv_at hl 0 rfl) ?_
      refine va_get (D := D) (ci := 3) (v := .ref g1) (C := "SignMachine$Assembler") (T := F_A) (N := 15) hx hb hk fi_A hown hK.1 hP 0 rfl rfl 0 (by decide) (hk _ k_631) (fun _ h9 => h9) rfl d_A_hasLine_15 ?_
      refine cs_i (W.runV (C := "SignMachine$Source") (As := []) (rest := []) ⟨hx, hb, hml, hown, hk⟩ (c_R_hasLine l D cI cJ cZ cB g0 g1 g2 g3 g4 g5 g6 g7 g8 g9 g10 g11 g12 g13 g14 g15 flt fln ffr sta plc edd lab lbv opr acd akd agl len lin att stp fol skd snm snu byt ncn nsy nns nvs ntd lvs ltd ocn opl owd oln okd ogl olo TL ) (v_R_hasLine hk k_719 ⟨Nat.le_of_ble_eq_true rfl, Nat.le_of_ble_eq_true rfl⟩) (pR_v hK hP (ci := 4) (q0 := 1) rfl rfl rfl) rfl rfl hl.1 rfl (lv_room (Nat.le_of_ble_eq_true rfl)) d_A_hasLine_18 ⟨Nat.le_of_ble_eq_true rfl, Nat.le_of_ble_eq_true rfl⟩) ?_
      refine lv_if_eq (tgt := 28) hx hb d_A_hasLine_21 (by decide) (fun c3 => ?_) (fun c3 => ?_)
      · refine lv_iconst (v := 0) hx hb d_A_hasLine_28 (by decide) ?_
        exact W.zret (v := (0 : Int32)) hx hb hr rfl (fun t ht hW => ⟨(0 : Int32), rfl, by simp only [f_A_hasLine, if_pos c1, if_pos c2, if_pos c3]; rfl, ht⟩) (fun q h => absurd h List.not_mem_nil) d_A_hasLine_29
      · refine lv_iconst (v := 1) hx hb d_A_hasLine_24 (by decide) ?_
        refine lv_goto (tgt := 29) hx hb d_A_hasLine_25 (by decide) ?_
        exact W.zret (v := (1 : Int32)) hx hb hr rfl (fun t ht hW => ⟨(1 : Int32), rfl, by simp only [f_A_hasLine, if_pos c1, if_pos c2, if_neg c3]; rfl, ht⟩) (fun q h => absurd h List.not_mem_nil) d_A_hasLine_29
theorem v_A_hasLine {R : Room} {s : State} {args : Array Value} {own : String} {index : Nat} (hk : ∀ w ∈ tb, w.before args s = true) (hl : Cond.methodLink own index y_A_hasLine ∈ tb) (hR : 1 + 1 ≤ R.frames ∧ 8 + (1 + 11) + 20 ≤ R.locals) : CallW R s args own "SignMachine$Assembler" index y_A_hasLine b_A_hasLine 1 (some .boolean) (.code y_A_hasLine b_A_hasLine 1 (some .boolean) :: tb) ({ frames := 1, cells := 0, slots := 0, locals := 20 }) 0 0 0 := mk_v 0 hk k_718 hl k_716 k_717 k_123 rfl rfl h_A_hasLine hR
def f_A_fail (flt : Int32) (fln : Int32) (lin : Int32) (a1 : Int32) : Int32 × (Int32) × (Int32) := (if flt = (0 : Int32) then ((0 : Int32), a1, lin) else ((0 : Int32), flt, fln))
set_option maxHeartbeats 4000000 in
set_option maxRecDepth 100000 in
theorem c_A_fail (l : Launch) (D : va_G) (cI cJ cZ cB : ClassId) (g0 g1 g2 g3 g4 g5 g6 g7 g8 g9 g10 g11 g12 g13 g14 g15 : Nat) (sz : Nat) (flt : Int32) (fln : Int32) (ffr : Int32) (sta : Int32) (plc : Int32) (edd : Int32) (lab : Int64) (lbv : Int32) (opr : Option Nat) (acd : Int32) (akd : Int32) (agl : Int32) (len : Int32) (lin : Int32) (att : Int32) (stp : Int32) (fol : Int32) (skd : Int32) (snm : Int64) (snu : Int32) (byt : Nat → Int32) (ncn : Int32) (nsy : Int32) (nns : Nat → Int64) (nvs : Nat → Int32) (ntd : Nat → Int32) (lvs : Nat → Int32) (ltd : Nat → Int32) (ocn : Int32) (opl : Nat → Int32) (owd : Nat → Int32) (oln : Nat → Int32) (okd : Nat → Int32) (ogl : Nat → Int32) (olo : Nat → Int32) (TL : va_W) (a1 : Int32) : Met l y_A_fail (.code y_A_fail b_A_fail 2 (some .int) :: tb) ({ frames := 0, cells := 0, slots := 0, locals := 0 }) (pM D cI cJ cZ cB (aW cI cJ cZ cB g0 g1 g2 g3 g4 g5 g6 g7 g8 g9 g10 g11 g12 g13 g14 g15 flt fln ffr sta plc edd lab lbv opr acd akd agl len lin att stp fol skd snm snu byt ncn nsy nns nvs ntd lvs ltd ocn opl owd oln okd ogl olo TL) sz [.ref g0, .int a1]) (qI D (fun r u => (r, u) = f_A_fail flt fln lin a1) (fun (u : (Int32) × (Int32)) => match u with | (u_flt, u_fln) => (aW cI cJ cZ cB g0 g1 g2 g3 g4 g5 g6 g7 g8 g9 g10 g11 g12 g13 g14 g15 u_flt u_fln ffr sta plc edd lab lbv opr acd akd agl len lin att stp fol skd snm snu byt ncn nsy nns nvs ntd lvs ltd ocn opl owd oln okd ogl olo TL)) (va_A (aW cI cJ cZ cB g0 g1 g2 g3 g4 g5 g6 g7 g8 g9 g10 g11 g12 g13 g14 g15 flt fln ffr sta plc edd lab lbv opr acd akd agl len lin att stp fol skd snm snu byt ncn nsy nns nvs ntd lvs ltd ocn opl owd oln okd ogl olo TL) sz)) 0 0 (va_A (aW cI cJ cZ cB g0 g1 g2 g3 g4 g5 g6 g7 g8 g9 g10 g11 g12 g13 g14 g15 flt fln ffr sta plc edd lab lbv opr acd akd agl len lin att stp fol skd snm snu byt ncn nsy nns nvs ntd lvs ltd ocn opl owd oln okd ogl olo TL) sz) := by
  refine Met.ofW (cc := b_A_fail) (maxL := 2) (ret := (some .int)) (by decide) rfl ?_
  intro p e s m args below meth c s₁ B hml hv
  obtain ⟨rfl, hsz, hK, hP, hD0⟩ := hv
  subst hsz
  have hD := hD0.self (sz := s.heap.size)
  generalize hAe : va_A (aW cI cJ cZ cB g0 g1 g2 g3 g4 g5 g6 g7 g8 g9 g10 g11 g12 g13 g14 g15 flt fln ffr sta plc edd lab lbv opr acd akd agl len lin att stp fol skd snm snu byt ncn nsy nns nvs ntd lvs ltd ocn opl owd oln okd ogl olo TL) s.heap.size = A at hD ⊢
  have hA : ∀ q : Nat, s.heap.size ≤ q → A q := fun q h => by rw [← hAe]; exact Or.inr h
  have hS : va_S A s.heap s.heap [] := va_S.rf
  have hx := B.exec
  have hb := B.bytes
  have hr := B.returns
  have hts := atoms_spec (ws := .code y_A_fail b_A_fail 2 (some .int) :: tb) B.pre
  have hk : ∀ w ∈ tb, w.before [.ref g0, .int a1].toArray s = true := fun w h => hts w (List.mem_cons_of_mem _ h)
  have hown : s.vm.findClass "SignMachine$Assembler" = some m.cls := findClass_of_methodNamed B.named
  have hlocks := B.notSynchronized
  have hl := lv_entry ([.ref g0, .int a1]) (n := 2) (Nat.le_of_ble_eq_true rfl)
  rw [lg_entry_eq]
  generalize (lg_sl ([.ref g0, .int a1]) ++ List.replicate (2 - (lg_sl ([.ref g0, .int a1])).length) Slot.unset).toArray = ls at hl ⊢
  have hl : lv_has ls 2 [(0, .ref g0), (1, .int a1)] := hl
  refine lv_aload_n hx hb d_A_fail_0 rfl (lv_at hl 0 rfl) ?_
  refine va_get (D := D) (ci := 3) (v := .int flt) (C := "SignMachine$Assembler") (T := F_A) (N := 15) hx hb hk fi_A hown hK.1 hP 0 rfl rfl 3 (by decide) (hk _ k_636) (fun _ h9 => h9) rfl d_A_fail_1 ?_
  refine lv_if_ne (tgt := 23) hx hb d_A_fail_4 (by decide) (fun c1 => ?_) (fun c1 => ?_)
  · refine lv_iconst (v := 0) hx hb d_A_fail_23 (by decide) ?_
    exact W.iret (v := (0 : Int32)) hx hb hr (fun t ht hW => ⟨⟨(0 : Int32), (flt, fln), rfl, by simp only [f_A_fail, if_neg c1], by show va_P D classes _ t.heap; rw [ht]; exact hP⟩, hS.F ht⟩) hS.2.2 d_A_fail_24
  · refine lv_aload_n hx hb d_A_fail_7 rfl (lv_at hl 0 rfl) ?_
    refine lv_iload_n hx hb d_A_fail_8 rfl (lv_at hl 1 rfl) ?_
    refine va_put (D := D) (ci := 3) (v := .int a1) (ty := .int) (C := "SignMachine$Assembler") (T := F_A) (N := 15) hx hb hk fi_A ft_A ft_A_ok fn_A hown hK.1 hP hD hS 0 rfl rfl 3 (by decide) (hk _ k_636) (fun _ h9 => h9) rfl (by decide +kernel) rfl rfl (Nat.le_of_ble_eq_true rfl) d_A_fail_9 (fun H locs hP hD hS => ?_)
    have hP : va_P D classes (aW cI cJ cZ cB g0 g1 g2 g3 g4 g5 g6 g7 g8 g9 g10 g11 g12 g13 g14 g15 a1 fln ffr sta plc edd lab lbv opr acd akd agl len lin att stp fol skd snm snu byt ncn nsy nns nvs ntd lvs ltd ocn opl owd oln okd ogl olo TL) H := hP
    have hD : va_D A (aW cI cJ cZ cB g0 g1 g2 g3 g4 g5 g6 g7 g8 g9 g10 g11 g12 g13 g14 g15 a1 fln ffr sta plc edd lab lbv opr acd akd agl len lin att stp fol skd snm snu byt ncn nsy nns nvs ntd lvs ltd ocn opl owd oln okd ogl olo TL) := hD
    refine lv_aload_n hx hb d_A_fail_12 rfl (lv_at hl 0 rfl) ?_
    refine lv_aload_n hx hb d_A_fail_13 rfl (lv_at hl 0 rfl) ?_
    refine va_get (D := D) (ci := 3) (v := .ref g1) (C := "SignMachine$Assembler") (T := F_A) (N := 15) hx hb hk fi_A hown hK.1 hP 0 rfl rfl 0 (by decide) (hk _ k_631) (fun _ h9 => h9) rfl d_A_fail_14 ?_
    refine va_getN (D := D) (ci := 4) (v := .int lin) (C := "SignMachine$Source") (T := F_R) (N := 9) hx hb hk fi_R hown hK.1 hP 1 rfl rfl 2 (by decide) (va_Nw.use rfl (hK.2 _ n_539)) (fun _ h9 => h9) rfl d_A_fail_17 ?_
    refine va_put (D := D) (ci := 3) (v := .int lin) (ty := .int) (C := "SignMachine$Assembler") (T := F_A) (N := 15) hx hb hk fi_A ft_A ft_A_ok fn_A hown hK.1 hP hD hS 0 rfl rfl 4 (by decide) (hk _ k_638) (fun _ h9 => h9) rfl (by decide +kernel) rfl rfl (Nat.le_of_ble_eq_true rfl) d_A_fail_20 (fun H locs hP hD hS => ?_)
    have hP : va_P D classes (aW cI cJ cZ cB g0 g1 g2 g3 g4 g5 g6 g7 g8 g9 g10 g11 g12 g13 g14 g15 a1 lin ffr sta plc edd lab lbv opr acd akd agl len lin att stp fol skd snm snu byt ncn nsy nns nvs ntd lvs ltd ocn opl owd oln okd ogl olo TL) H := hP
    have hD : va_D A (aW cI cJ cZ cB g0 g1 g2 g3 g4 g5 g6 g7 g8 g9 g10 g11 g12 g13 g14 g15 a1 lin ffr sta plc edd lab lbv opr acd akd agl len lin att stp fol skd snm snu byt ncn nsy nns nvs ntd lvs ltd ocn opl owd oln okd ogl olo TL) := hD
    refine lv_iconst (v := 0) hx hb d_A_fail_23 (by decide) ?_
    exact W.iret (v := (0 : Int32)) hx hb hr (fun t ht hW => ⟨⟨(0 : Int32), (a1, lin), rfl, by simp only [f_A_fail, if_pos c1], by show va_P D classes _ t.heap; rw [ht]; exact hP⟩, hS.F ht⟩) hS.2.2 d_A_fail_24
theorem v_A_fail {R : Room} {s : State} {args : Array Value} {own : String} {index : Nat} (hk : ∀ w ∈ tb, w.before args s = true) (hl : Cond.methodLink own index y_A_fail ∈ tb) (hR : 0 + 1 ≤ R.frames ∧ 8 + (2 + 11) + 0 ≤ R.locals) : CallW R s args own "SignMachine$Assembler" index y_A_fail b_A_fail 2 (some .int) (.code y_A_fail b_A_fail 2 (some .int) :: tb) ({ frames := 0, cells := 0, slots := 0, locals := 0 }) 0 0 1 := mk_v 1 hk k_770 hl k_769 k_36 k_123 rfl rfl h_A_fail hR
def f_A_expectEnd (flt : Int32) (fln : Int32) (lin : Int32) (att : Int32) (stp : Int32) (byt : Nat → Int32)  : (Int32) × (Int32) := (if (f_R_peek att stp byt ) = (-1 : Int32) then (flt, fln) else (if (f_R_peek att stp byt ) = (32 : Int32) then (flt, fln) else (match (f_A_fail flt fln lin (1 : Int32)) with | (rz3, fltz3, flnz3) => (fltz3, flnz3))))
set_option maxHeartbeats 4000000 in
set_option maxRecDepth 100000 in
theorem c_A_expectEnd (l : Launch) (D : va_G) (cI cJ cZ cB : ClassId) (g0 g1 g2 g3 g4 g5 g6 g7 g8 g9 g10 g11 g12 g13 g14 g15 : Nat) (sz : Nat) (flt : Int32) (fln : Int32) (ffr : Int32) (sta : Int32) (plc : Int32) (edd : Int32) (lab : Int64) (lbv : Int32) (opr : Option Nat) (acd : Int32) (akd : Int32) (agl : Int32) (len : Int32) (lin : Int32) (att : Int32) (stp : Int32) (fol : Int32) (skd : Int32) (snm : Int64) (snu : Int32) (byt : Nat → Int32) (ncn : Int32) (nsy : Int32) (nns : Nat → Int64) (nvs : Nat → Int32) (ntd : Nat → Int32) (lvs : Nat → Int32) (ltd : Nat → Int32) (ocn : Int32) (opl : Nat → Int32) (owd : Nat → Int32) (oln : Nat → Int32) (okd : Nat → Int32) (ogl : Nat → Int32) (olo : Nat → Int32) (TL : va_W)  : Met l y_A_expectEnd (.code y_A_expectEnd b_A_expectEnd 2 none :: tb) ({ frames := 1, cells := 0, slots := 0, locals := 21 }) (pM D cI cJ cZ cB (aW cI cJ cZ cB g0 g1 g2 g3 g4 g5 g6 g7 g8 g9 g10 g11 g12 g13 g14 g15 flt fln ffr sta plc edd lab lbv opr acd akd agl len lin att stp fol skd snm snu byt ncn nsy nns nvs ntd lvs ltd ocn opl owd oln okd ogl olo TL) sz [.ref g0]) (qV D (fun u => u = f_A_expectEnd flt fln lin att stp byt) (fun (u : (Int32) × (Int32)) => match u with | (u_flt, u_fln) => (aW cI cJ cZ cB g0 g1 g2 g3 g4 g5 g6 g7 g8 g9 g10 g11 g12 g13 g14 g15 u_flt u_fln ffr sta plc edd lab lbv opr acd akd agl len lin att stp fol skd snm snu byt ncn nsy nns nvs ntd lvs ltd ocn opl owd oln okd ogl olo TL)) (va_A (aW cI cJ cZ cB g0 g1 g2 g3 g4 g5 g6 g7 g8 g9 g10 g11 g12 g13 g14 g15 flt fln ffr sta plc edd lab lbv opr acd akd agl len lin att stp fol skd snm snu byt ncn nsy nns nvs ntd lvs ltd ocn opl owd oln okd ogl olo TL) sz)) 0 0 (va_A (aW cI cJ cZ cB g0 g1 g2 g3 g4 g5 g6 g7 g8 g9 g10 g11 g12 g13 g14 g15 flt fln ffr sta plc edd lab lbv opr acd akd agl len lin att stp fol skd snm snu byt ncn nsy nns nvs ntd lvs ltd ocn opl owd oln okd ogl olo TL) sz) := by
  refine Met.ofW (cc := b_A_expectEnd) (maxL := 2) (ret := none) (by decide) rfl ?_
  intro p e s m args below meth c s₁ B hml hv
  obtain ⟨rfl, hsz, hK, hP, hD0⟩ := hv
  subst hsz
  have hD := hD0.self (sz := s.heap.size)
  generalize hAe : va_A (aW cI cJ cZ cB g0 g1 g2 g3 g4 g5 g6 g7 g8 g9 g10 g11 g12 g13 g14 g15 flt fln ffr sta plc edd lab lbv opr acd akd agl len lin att stp fol skd snm snu byt ncn nsy nns nvs ntd lvs ltd ocn opl owd oln okd ogl olo TL) s.heap.size = A at hD ⊢
  have hA : ∀ q : Nat, s.heap.size ≤ q → A q := fun q h => by rw [← hAe]; exact Or.inr h
  have hS : va_S A s.heap s.heap [] := va_S.rf
  have hx := B.exec
  have hb := B.bytes
  have hr := B.returns
  have hts := atoms_spec (ws := .code y_A_expectEnd b_A_expectEnd 2 none :: tb) B.pre
  have hk : ∀ w ∈ tb, w.before [.ref g0].toArray s = true := fun w h => hts w (List.mem_cons_of_mem _ h)
  have hown : s.vm.findClass "SignMachine$Assembler" = some m.cls := findClass_of_methodNamed B.named
  have hlocks := B.notSynchronized
  have hl := lv_entry ([.ref g0]) (n := 2) (Nat.le_of_ble_eq_true rfl)
  rw [lg_entry_eq]
  generalize (lg_sl ([.ref g0]) ++ List.replicate (2 - (lg_sl ([.ref g0])).length) Slot.unset).toArray = ls at hl ⊢
  have hl : lv_has ls 2 [(0, .ref g0)] := hl
  refine lv_aload_n hx hb d_A_expectEnd_0 rfl (lv_at hl 0 rfl) ?_
  refine va_get (D := D) (ci := 3) (v := .ref g1) (C := "SignMachine$Assembler") (T := F_A) (N := 15) hx hb hk fi_A hown hK.1 hP 0 rfl rfl 0 (by decide) (hk _ k_631) (fun _ h9 => h9) rfl d_A_expectEnd_1 ?_
  refine cs_i (W.runV (C := "SignMachine$Source") (As := []) (rest := []) ⟨hx, hb, hml, hown, hk⟩ (c_R_peek l D cI cJ cZ cB g0 g1 g2 g3 g4 g5 g6 g7 g8 g9 g10 g11 g12 g13 g14 g15 flt fln ffr sta plc edd lab lbv opr acd akd agl len lin att stp fol skd snm snu byt ncn nsy nns nvs ntd lvs ltd ocn opl owd oln okd ogl olo TL ) (v_R_peek hk k_739 ⟨Nat.le_of_ble_eq_true rfl, Nat.le_of_ble_eq_true rfl⟩) (pR_v hK hP (ci := 4) (q0 := 1) rfl rfl rfl) rfl rfl hl.1 rfl (lv_room (Nat.le_of_ble_eq_true rfl)) d_A_expectEnd_4 ⟨Nat.le_of_ble_eq_true rfl, Nat.le_of_ble_eq_true rfl⟩) ?_
  refine lv_istore_n (lv' := [(1, .int (f_R_peek att stp byt )), (0, .ref g0)]) hx hb d_A_expectEnd_7 rfl hl (by decide) rfl (fun ls hl => ?_)
  refine lv_iload_n hx hb d_A_expectEnd_8 rfl (lv_at hl 0 rfl) ?_
  refine lv_iconst (v := (-1)) hx hb d_A_expectEnd_9 (by decide) ?_
  refine lv_icmp_eq (tgt := 25) hx hb d_A_expectEnd_10 (by decide) (fun c1 => ?_) (fun c1 => ?_)
  · exact W.vret hx hb hr (fun t ht hW => ⟨⟨(flt, fln), rfl, by simp only [f_A_expectEnd, if_pos c1], by show va_P D classes _ t.heap; rw [ht]; exact hP⟩, hS.F ht⟩) hS.2.2 d_A_expectEnd_25
  · refine lv_iload_n hx hb d_A_expectEnd_13 rfl (lv_at hl 0 rfl) ?_
    refine lv_bipush (v := 32) hx hb d_A_expectEnd_14 (by decide) ?_
    refine lv_icmp_eq (tgt := 25) hx hb d_A_expectEnd_16 (by decide) (fun c2 => ?_) (fun c2 => ?_)
    · exact W.vret hx hb hr (fun t ht hW => ⟨⟨(flt, fln), rfl, by simp only [f_A_expectEnd, if_neg c1, if_pos c2], by show va_P D classes _ t.heap; rw [ht]; exact hP⟩, hS.F ht⟩) hS.2.2 d_A_expectEnd_25
    · refine lv_aload_n hx hb d_A_expectEnd_19 rfl (lv_at hl 1 rfl) ?_
      refine lv_iconst (v := 1) hx hb d_A_expectEnd_20 (by decide) ?_
      refine ca_i (va_runV (C := "SignMachine$Assembler") (As := [.int (1 : Int32)]) (rest := []) ⟨hx, hb, hml, hown, hk⟩ (c_A_fail l D cI cJ cZ cB g0 g1 g2 g3 g4 g5 g6 g7 g8 g9 g10 g11 g12 g13 g14 g15 s.heap.size flt fln ffr sta plc edd lab lbv opr acd akd agl len lin att stp fol skd snm snu byt ncn nsy nns nvs ntd lvs ltd ocn opl owd oln okd ogl olo TL (1 : Int32)) (v_A_fail hk k_767 ⟨Nat.le_of_ble_eq_true rfl, Nat.le_of_ble_eq_true rfl⟩) (pM_v hK hP hD (ci := 3) (q0 := 0) rfl rfl rfl) rfl rfl hl.1 rfl (lv_room (Nat.le_of_ble_eq_true rfl)) d_A_expectEnd_21 ⟨Nat.le_of_ble_eq_true rfl, Nat.le_of_ble_eq_true rfl⟩) hS hA hD (fun rz3 u H locs hz3 hP hS => ?_)
      obtain ⟨fltz3, flnz3⟩ := u
      have hP : va_P D classes (aW cI cJ cZ cB g0 g1 g2 g3 g4 g5 g6 g7 g8 g9 g10 g11 g12 g13 g14 g15 fltz3 flnz3 ffr sta plc edd lab lbv opr acd akd agl len lin att stp fol skd snm snu byt ncn nsy nns nvs ntd lvs ltd ocn opl owd oln okd ogl olo TL) H := hP
      have hD : va_D A (aW cI cJ cZ cB g0 g1 g2 g3 g4 g5 g6 g7 g8 g9 g10 g11 g12 g13 g14 g15 fltz3 flnz3 ffr sta plc edd lab lbv opr acd akd agl len lin att stp fol skd snm snu byt ncn nsy nns nvs ntd lvs ltd ocn opl owd oln okd ogl olo TL) := dsame hD rfl
      try dsimp only at hz3
      refine lv_pop hx hb d_A_expectEnd_24 rfl ?_
      exact W.vret hx hb hr (fun t ht hW => ⟨⟨(fltz3, flnz3), rfl, by simp only [f_A_expectEnd, if_neg c1, if_neg c2, ← hz3], by show va_P D classes _ t.heap; rw [ht]; exact hP⟩, hS.F ht⟩) hS.2.2 d_A_expectEnd_25
theorem v_A_expectEnd {R : Room} {s : State} {args : Array Value} {own : String} {index : Nat} (hk : ∀ w ∈ tb, w.before args s = true) (hl : Cond.methodLink own index y_A_expectEnd ∈ tb) (hR : 1 + 1 ≤ R.frames ∧ 8 + (2 + 11) + 21 ≤ R.locals) : CallW R s args own "SignMachine$Assembler" index y_A_expectEnd b_A_expectEnd 2 none (.code y_A_expectEnd b_A_expectEnd 2 none :: tb) ({ frames := 1, cells := 0, slots := 0, locals := 21 }) 0 0 0 := mk_v 0 hk k_1047 hl k_1046 k_55 k_123 rfl rfl h_A_expectEnd hR
def f_A_expectBracket (flt : Int32) (fln : Int32) (lin : Int32) (att : Int32) (stp : Int32) (byt : Nat → Int32)  : (Int32) × (Int32) × (Int32) := (match (f_R_takes att stp byt (41 : Int32)) with | (rz1, attz1) => (if rz1 = (0 : Int32) then (match (f_A_fail flt fln lin (1 : Int32)) with | (rz3, fltz3, flnz3) => (fltz3, flnz3, attz1)) else (flt, fln, attz1)))
set_option maxHeartbeats 4000000 in
set_option maxRecDepth 100000 in
theorem c_A_expectBracket (l : Launch) (D : va_G) (cI cJ cZ cB : ClassId) (g0 g1 g2 g3 g4 g5 g6 g7 g8 g9 g10 g11 g12 g13 g14 g15 : Nat) (sz : Nat) (flt : Int32) (fln : Int32) (ffr : Int32) (sta : Int32) (plc : Int32) (edd : Int32) (lab : Int64) (lbv : Int32) (opr : Option Nat) (acd : Int32) (akd : Int32) (agl : Int32) (len : Int32) (lin : Int32) (att : Int32) (stp : Int32) (fol : Int32) (skd : Int32) (snm : Int64) (snu : Int32) (byt : Nat → Int32) (ncn : Int32) (nsy : Int32) (nns : Nat → Int64) (nvs : Nat → Int32) (ntd : Nat → Int32) (lvs : Nat → Int32) (ltd : Nat → Int32) (ocn : Int32) (opl : Nat → Int32) (owd : Nat → Int32) (oln : Nat → Int32) (okd : Nat → Int32) (ogl : Nat → Int32) (olo : Nat → Int32) (TL : va_W)  : Met l y_A_expectBracket (.code y_A_expectBracket b_A_expectBracket 1 none :: tb) ({ frames := 2, cells := 0, slots := 0, locals := 41 }) (pM D cI cJ cZ cB (aW cI cJ cZ cB g0 g1 g2 g3 g4 g5 g6 g7 g8 g9 g10 g11 g12 g13 g14 g15 flt fln ffr sta plc edd lab lbv opr acd akd agl len lin att stp fol skd snm snu byt ncn nsy nns nvs ntd lvs ltd ocn opl owd oln okd ogl olo TL) sz [.ref g0]) (qV D (fun u => u = f_A_expectBracket flt fln lin att stp byt) (fun (u : (Int32) × (Int32) × (Int32)) => match u with | (u_flt, u_fln, u_att) => (aW cI cJ cZ cB g0 g1 g2 g3 g4 g5 g6 g7 g8 g9 g10 g11 g12 g13 g14 g15 u_flt u_fln ffr sta plc edd lab lbv opr acd akd agl len lin u_att stp fol skd snm snu byt ncn nsy nns nvs ntd lvs ltd ocn opl owd oln okd ogl olo TL)) (va_A (aW cI cJ cZ cB g0 g1 g2 g3 g4 g5 g6 g7 g8 g9 g10 g11 g12 g13 g14 g15 flt fln ffr sta plc edd lab lbv opr acd akd agl len lin att stp fol skd snm snu byt ncn nsy nns nvs ntd lvs ltd ocn opl owd oln okd ogl olo TL) sz)) 0 0 (va_A (aW cI cJ cZ cB g0 g1 g2 g3 g4 g5 g6 g7 g8 g9 g10 g11 g12 g13 g14 g15 flt fln ffr sta plc edd lab lbv opr acd akd agl len lin att stp fol skd snm snu byt ncn nsy nns nvs ntd lvs ltd ocn opl owd oln okd ogl olo TL) sz) := by
  refine Met.ofW (cc := b_A_expectBracket) (maxL := 1) (ret := none) (by decide) rfl ?_
  intro p e s m args below meth c s₁ B hml hv
  obtain ⟨rfl, hsz, hK, hP, hD0⟩ := hv
  subst hsz
  have hD := hD0.self (sz := s.heap.size)
  generalize hAe : va_A (aW cI cJ cZ cB g0 g1 g2 g3 g4 g5 g6 g7 g8 g9 g10 g11 g12 g13 g14 g15 flt fln ffr sta plc edd lab lbv opr acd akd agl len lin att stp fol skd snm snu byt ncn nsy nns nvs ntd lvs ltd ocn opl owd oln okd ogl olo TL) s.heap.size = A at hD ⊢
  have hA : ∀ q : Nat, s.heap.size ≤ q → A q := fun q h => by rw [← hAe]; exact Or.inr h
  have hS : va_S A s.heap s.heap [] := va_S.rf
  have hx := B.exec
  have hb := B.bytes
  have hr := B.returns
  have hts := atoms_spec (ws := .code y_A_expectBracket b_A_expectBracket 1 none :: tb) B.pre
  have hk : ∀ w ∈ tb, w.before [.ref g0].toArray s = true := fun w h => hts w (List.mem_cons_of_mem _ h)
  have hown : s.vm.findClass "SignMachine$Assembler" = some m.cls := findClass_of_methodNamed B.named
  have hlocks := B.notSynchronized
  have hl := lv_entry ([.ref g0]) (n := 1) (Nat.le_of_ble_eq_true rfl)
  rw [lg_entry_eq]
  generalize (lg_sl ([.ref g0]) ++ List.replicate (1 - (lg_sl ([.ref g0])).length) Slot.unset).toArray = ls at hl ⊢
  have hl : lv_has ls 1 [(0, .ref g0)] := hl
  refine lv_aload_n hx hb d_A_expectBracket_0 rfl (lv_at hl 0 rfl) ?_
  refine va_get (D := D) (ci := 3) (v := .ref g1) (C := "SignMachine$Assembler") (T := F_A) (N := 15) hx hb hk fi_A hown hK.1 hP 0 rfl rfl 0 (by decide) (hk _ k_631) (fun _ h9 => h9) rfl d_A_expectBracket_1 ?_
  refine lv_bipush (v := 41) hx hb d_A_expectBracket_4 (by decide) ?_
  refine ca_i (va_runV (C := "SignMachine$Source") (As := [.int (41 : Int32)]) (rest := []) ⟨hx, hb, hml, hown, hk⟩ (c_R_takes l D cI cJ cZ cB g0 g1 g2 g3 g4 g5 g6 g7 g8 g9 g10 g11 g12 g13 g14 g15 s.heap.size flt fln ffr sta plc edd lab lbv opr acd akd agl len lin att stp fol skd snm snu byt ncn nsy nns nvs ntd lvs ltd ocn opl owd oln okd ogl olo TL (41 : Int32)) (v_R_takes hk k_954 ⟨Nat.le_of_ble_eq_true rfl, Nat.le_of_ble_eq_true rfl⟩) (pM_v hK hP hD (ci := 4) (q0 := 1) rfl rfl rfl) rfl rfl hl.1 rfl (lv_room (Nat.le_of_ble_eq_true rfl)) d_A_expectBracket_6 ⟨Nat.le_of_ble_eq_true rfl, Nat.le_of_ble_eq_true rfl⟩) hS hA hD (fun rz1 u H locs hz1 hP hS => ?_)
  obtain ⟨attz1, hu⟩ : ∃ y, y = u := ⟨_, rfl⟩
  subst hu
  have hP : va_P D classes (aW cI cJ cZ cB g0 g1 g2 g3 g4 g5 g6 g7 g8 g9 g10 g11 g12 g13 g14 g15 flt fln ffr sta plc edd lab lbv opr acd akd agl len lin attz1 stp fol skd snm snu byt ncn nsy nns nvs ntd lvs ltd ocn opl owd oln okd ogl olo TL) H := hP
  have hD : va_D A (aW cI cJ cZ cB g0 g1 g2 g3 g4 g5 g6 g7 g8 g9 g10 g11 g12 g13 g14 g15 flt fln ffr sta plc edd lab lbv opr acd akd agl len lin attz1 stp fol skd snm snu byt ncn nsy nns nvs ntd lvs ltd ocn opl owd oln okd ogl olo TL) := dsame hD rfl
  try dsimp only at hz1
  refine lv_if_ne (tgt := 18) hx hb d_A_expectBracket_9 (by decide) (fun c2 => ?_) (fun c2 => ?_)
  · exact W.vret hx hb hr (fun t ht hW => ⟨⟨(flt, fln, attz1), rfl, by simp only [f_A_expectBracket, ← hz1, if_neg c2], by show va_P D classes _ t.heap; rw [ht]; exact hP⟩, hS.F ht⟩) hS.2.2 d_A_expectBracket_18
  · refine lv_aload_n hx hb d_A_expectBracket_12 rfl (lv_at hl 0 rfl) ?_
    refine lv_iconst (v := 1) hx hb d_A_expectBracket_13 (by decide) ?_
    refine ca_i (va_runV (C := "SignMachine$Assembler") (As := [.int (1 : Int32)]) (rest := []) ⟨hx, hb, hml, hown, hk⟩ (c_A_fail l D cI cJ cZ cB g0 g1 g2 g3 g4 g5 g6 g7 g8 g9 g10 g11 g12 g13 g14 g15 H.size flt fln ffr sta plc edd lab lbv opr acd akd agl len lin attz1 stp fol skd snm snu byt ncn nsy nns nvs ntd lvs ltd ocn opl owd oln okd ogl olo TL (1 : Int32)) (v_A_fail hk k_767 ⟨Nat.le_of_ble_eq_true rfl, Nat.le_of_ble_eq_true rfl⟩) (pM_v hK hP hD (ci := 3) (q0 := 0) rfl rfl rfl) rfl rfl hl.1 rfl (lv_room (Nat.le_of_ble_eq_true rfl)) d_A_expectBracket_14 ⟨Nat.le_of_ble_eq_true rfl, Nat.le_of_ble_eq_true rfl⟩) hS hA hD (fun rz3 u H locs hz3 hP hS => ?_)
    obtain ⟨fltz3, flnz3⟩ := u
    have hP : va_P D classes (aW cI cJ cZ cB g0 g1 g2 g3 g4 g5 g6 g7 g8 g9 g10 g11 g12 g13 g14 g15 fltz3 flnz3 ffr sta plc edd lab lbv opr acd akd agl len lin attz1 stp fol skd snm snu byt ncn nsy nns nvs ntd lvs ltd ocn opl owd oln okd ogl olo TL) H := hP
    have hD : va_D A (aW cI cJ cZ cB g0 g1 g2 g3 g4 g5 g6 g7 g8 g9 g10 g11 g12 g13 g14 g15 fltz3 flnz3 ffr sta plc edd lab lbv opr acd akd agl len lin attz1 stp fol skd snm snu byt ncn nsy nns nvs ntd lvs ltd ocn opl owd oln okd ogl olo TL) := dsame hD rfl
    try dsimp only at hz3
    refine lv_pop hx hb d_A_expectBracket_17 rfl ?_
    exact W.vret hx hb hr (fun t ht hW => ⟨⟨(fltz3, flnz3, attz1), rfl, by simp only [f_A_expectBracket, ← hz1, if_pos c2, ← hz3], by show va_P D classes _ t.heap; rw [ht]; exact hP⟩, hS.F ht⟩) hS.2.2 d_A_expectBracket_18
theorem v_A_expectBracket {R : Room} {s : State} {args : Array Value} {own : String} {index : Nat} (hk : ∀ w ∈ tb, w.before args s = true) (hl : Cond.methodLink own index y_A_expectBracket ∈ tb) (hR : 2 + 1 ≤ R.frames ∧ 8 + (1 + 11) + 41 ≤ R.locals) : CallW R s args own "SignMachine$Assembler" index y_A_expectBracket b_A_expectBracket 1 none (.code y_A_expectBracket b_A_expectBracket 1 none :: tb) ({ frames := 2, cells := 0, slots := 0, locals := 41 }) 0 0 0 := mk_v 0 hk k_1024 hl k_1023 k_51 k_123 rfl rfl h_A_expectBracket hR
def f_A_isNothing (att : Int32) (stp : Int32) (byt : Nat → Int32)  : Int32 × (Int32) := (if (f_R_peek att stp byt ) = (59 : Int32) then ((1 : Int32), att) else (match (f_R_skipBlanks att stp byt ) with | (attz2) => (if (f_R_peek attz2 stp byt ) = (-1 : Int32) then ((1 : Int32), att) else ((0 : Int32), att))))
set_option maxHeartbeats 4000000 in
set_option maxRecDepth 100000 in
theorem c_A_isNothing (l : Launch) (D : va_G) (cI cJ cZ cB : ClassId) (g0 g1 g2 g3 g4 g5 g6 g7 g8 g9 g10 g11 g12 g13 g14 g15 : Nat) (sz : Nat) (flt : Int32) (fln : Int32) (ffr : Int32) (sta : Int32) (plc : Int32) (edd : Int32) (lab : Int64) (lbv : Int32) (opr : Option Nat) (acd : Int32) (akd : Int32) (agl : Int32) (len : Int32) (lin : Int32) (att : Int32) (stp : Int32) (fol : Int32) (skd : Int32) (snm : Int64) (snu : Int32) (byt : Nat → Int32) (ncn : Int32) (nsy : Int32) (nns : Nat → Int64) (nvs : Nat → Int32) (ntd : Nat → Int32) (lvs : Nat → Int32) (ltd : Nat → Int32) (ocn : Int32) (opl : Nat → Int32) (owd : Nat → Int32) (oln : Nat → Int32) (okd : Nat → Int32) (ogl : Nat → Int32) (olo : Nat → Int32) (TL : va_W)  : Met l y_A_isNothing (.code y_A_isNothing b_A_isNothing 3 (some .boolean) :: tb) ({ frames := 2, cells := 0, slots := 0, locals := 41 }) (pM D cI cJ cZ cB (aW cI cJ cZ cB g0 g1 g2 g3 g4 g5 g6 g7 g8 g9 g10 g11 g12 g13 g14 g15 flt fln ffr sta plc edd lab lbv opr acd akd agl len lin att stp fol skd snm snu byt ncn nsy nns nvs ntd lvs ltd ocn opl owd oln okd ogl olo TL) sz [.ref g0]) (qI D (fun r u => (r, u) = f_A_isNothing att stp byt) (fun (u : (Int32)) => match u with | u_att => (aW cI cJ cZ cB g0 g1 g2 g3 g4 g5 g6 g7 g8 g9 g10 g11 g12 g13 g14 g15 flt fln ffr sta plc edd lab lbv opr acd akd agl len lin u_att stp fol skd snm snu byt ncn nsy nns nvs ntd lvs ltd ocn opl owd oln okd ogl olo TL)) (va_A (aW cI cJ cZ cB g0 g1 g2 g3 g4 g5 g6 g7 g8 g9 g10 g11 g12 g13 g14 g15 flt fln ffr sta plc edd lab lbv opr acd akd agl len lin att stp fol skd snm snu byt ncn nsy nns nvs ntd lvs ltd ocn opl owd oln okd ogl olo TL) sz)) 0 0 (va_A (aW cI cJ cZ cB g0 g1 g2 g3 g4 g5 g6 g7 g8 g9 g10 g11 g12 g13 g14 g15 flt fln ffr sta plc edd lab lbv opr acd akd agl len lin att stp fol skd snm snu byt ncn nsy nns nvs ntd lvs ltd ocn opl owd oln okd ogl olo TL) sz) := by
  refine Met.ofW (cc := b_A_isNothing) (maxL := 3) (ret := (some .boolean)) (by decide) rfl ?_
  intro p e s m args below meth c s₁ B hml hv
  obtain ⟨rfl, hsz, hK, hP, hD0⟩ := hv
  subst hsz
  have hD := hD0.self (sz := s.heap.size)
  generalize hAe : va_A (aW cI cJ cZ cB g0 g1 g2 g3 g4 g5 g6 g7 g8 g9 g10 g11 g12 g13 g14 g15 flt fln ffr sta plc edd lab lbv opr acd akd agl len lin att stp fol skd snm snu byt ncn nsy nns nvs ntd lvs ltd ocn opl owd oln okd ogl olo TL) s.heap.size = A at hD ⊢
  have hA : ∀ q : Nat, s.heap.size ≤ q → A q := fun q h => by rw [← hAe]; exact Or.inr h
  have hS : va_S A s.heap s.heap [] := va_S.rf
  have hx := B.exec
  have hb := B.bytes
  have hr := B.returns
  have hts := atoms_spec (ws := .code y_A_isNothing b_A_isNothing 3 (some .boolean) :: tb) B.pre
  have hk : ∀ w ∈ tb, w.before [.ref g0].toArray s = true := fun w h => hts w (List.mem_cons_of_mem _ h)
  have hown : s.vm.findClass "SignMachine$Assembler" = some m.cls := findClass_of_methodNamed B.named
  have hlocks := B.notSynchronized
  have hl := lv_entry ([.ref g0]) (n := 3) (Nat.le_of_ble_eq_true rfl)
  rw [lg_entry_eq]
  generalize (lg_sl ([.ref g0]) ++ List.replicate (3 - (lg_sl ([.ref g0])).length) Slot.unset).toArray = ls at hl ⊢
  have hl : lv_has ls 3 [(0, .ref g0)] := hl
  refine lv_aload_n hx hb d_A_isNothing_0 rfl (lv_at hl 0 rfl) ?_
  refine va_get (D := D) (ci := 3) (v := .ref g1) (C := "SignMachine$Assembler") (T := F_A) (N := 15) hx hb hk fi_A hown hK.1 hP 0 rfl rfl 0 (by decide) (hk _ k_631) (fun _ h9 => h9) rfl d_A_isNothing_1 ?_
  refine cs_i (W.runV (C := "SignMachine$Source") (As := []) (rest := []) ⟨hx, hb, hml, hown, hk⟩ (c_R_peek l D cI cJ cZ cB g0 g1 g2 g3 g4 g5 g6 g7 g8 g9 g10 g11 g12 g13 g14 g15 flt fln ffr sta plc edd lab lbv opr acd akd agl len lin att stp fol skd snm snu byt ncn nsy nns nvs ntd lvs ltd ocn opl owd oln okd ogl olo TL ) (v_R_peek hk k_739 ⟨Nat.le_of_ble_eq_true rfl, Nat.le_of_ble_eq_true rfl⟩) (pR_v hK hP (ci := 4) (q0 := 1) rfl rfl rfl) rfl rfl hl.1 rfl (lv_room (Nat.le_of_ble_eq_true rfl)) d_A_isNothing_4 ⟨Nat.le_of_ble_eq_true rfl, Nat.le_of_ble_eq_true rfl⟩) ?_
  refine lv_bipush (v := 59) hx hb d_A_isNothing_7 (by decide) ?_
  refine lv_icmp_ne (tgt := 14) hx hb d_A_isNothing_9 (by decide) (fun c1 => ?_) (fun c1 => ?_)
  · refine lv_aload_n hx hb d_A_isNothing_14 rfl (lv_at hl 0 rfl) ?_
    refine va_get (D := D) (ci := 3) (v := .ref g1) (C := "SignMachine$Assembler") (T := F_A) (N := 15) hx hb hk fi_A hown hK.1 hP 0 rfl rfl 0 (by decide) (hk _ k_631) (fun _ h9 => h9) rfl d_A_isNothing_15 ?_
    refine va_getN (D := D) (ci := 4) (v := .int att) (C := "SignMachine$Source") (T := F_R) (N := 9) hx hb hk fi_R hown hK.1 hP 1 rfl rfl 3 (by decide) (va_Nw.use rfl (hK.2 _ n_541)) (fun _ h9 => h9) rfl d_A_isNothing_18 ?_
    refine lv_istore_n (lv' := [(1, .int att), (0, .ref g0)]) hx hb d_A_isNothing_21 rfl hl (by decide) rfl (fun ls hl => ?_)
    refine lv_aload_n hx hb d_A_isNothing_22 rfl (lv_at hl 1 rfl) ?_
    refine va_get (D := D) (ci := 3) (v := .ref g1) (C := "SignMachine$Assembler") (T := F_A) (N := 15) hx hb hk fi_A hown hK.1 hP 0 rfl rfl 0 (by decide) (hk _ k_631) (fun _ h9 => h9) rfl d_A_isNothing_23 ?_
    refine ca_v (va_runV (C := "SignMachine$Source") (As := []) (rest := []) ⟨hx, hb, hml, hown, hk⟩ (c_R_skipBlanks l D cI cJ cZ cB g0 g1 g2 g3 g4 g5 g6 g7 g8 g9 g10 g11 g12 g13 g14 g15 s.heap.size flt fln ffr sta plc edd lab lbv opr acd akd agl len lin att stp fol skd snm snu byt ncn nsy nns nvs ntd lvs ltd ocn opl owd oln okd ogl olo TL ) (v_R_skipBlanks hk k_743 ⟨Nat.le_of_ble_eq_true rfl, Nat.le_of_ble_eq_true rfl⟩) (pM_v hK hP hD (ci := 4) (q0 := 1) rfl rfl rfl) rfl rfl hl.1 rfl (lv_room (Nat.le_of_ble_eq_true rfl)) d_A_isNothing_26 ⟨Nat.le_of_ble_eq_true rfl, Nat.le_of_ble_eq_true rfl⟩) hS hA hD (fun u H locs hz2 hP hS => ?_)
    obtain ⟨attz2, hu⟩ : ∃ y, y = u := ⟨_, rfl⟩
    subst hu
    have hP : va_P D classes (aW cI cJ cZ cB g0 g1 g2 g3 g4 g5 g6 g7 g8 g9 g10 g11 g12 g13 g14 g15 flt fln ffr sta plc edd lab lbv opr acd akd agl len lin attz2 stp fol skd snm snu byt ncn nsy nns nvs ntd lvs ltd ocn opl owd oln okd ogl olo TL) H := hP
    have hD : va_D A (aW cI cJ cZ cB g0 g1 g2 g3 g4 g5 g6 g7 g8 g9 g10 g11 g12 g13 g14 g15 flt fln ffr sta plc edd lab lbv opr acd akd agl len lin attz2 stp fol skd snm snu byt ncn nsy nns nvs ntd lvs ltd ocn opl owd oln okd ogl olo TL) := dsame hD rfl
    try dsimp only at hz2
    refine lv_aload_n hx hb d_A_isNothing_29 rfl (lv_at hl 1 rfl) ?_
    refine va_get (D := D) (ci := 3) (v := .ref g1) (C := "SignMachine$Assembler") (T := F_A) (N := 15) hx hb hk fi_A hown hK.1 hP 0 rfl rfl 0 (by decide) (hk _ k_631) (fun _ h9 => h9) rfl d_A_isNothing_30 ?_
    refine cs_i (W.runV (C := "SignMachine$Source") (As := []) (rest := []) ⟨hx, hb, hml, hown, hk⟩ (c_R_peek l D cI cJ cZ cB g0 g1 g2 g3 g4 g5 g6 g7 g8 g9 g10 g11 g12 g13 g14 g15 flt fln ffr sta plc edd lab lbv opr acd akd agl len lin attz2 stp fol skd snm snu byt ncn nsy nns nvs ntd lvs ltd ocn opl owd oln okd ogl olo TL ) (v_R_peek hk k_739 ⟨Nat.le_of_ble_eq_true rfl, Nat.le_of_ble_eq_true rfl⟩) (pR_v hK hP (ci := 4) (q0 := 1) rfl rfl rfl) rfl rfl hl.1 rfl (lv_room (Nat.le_of_ble_eq_true rfl)) d_A_isNothing_33 ⟨Nat.le_of_ble_eq_true rfl, Nat.le_of_ble_eq_true rfl⟩) ?_
    refine lv_iconst (v := (-1)) hx hb d_A_isNothing_36 (by decide) ?_
    refine lv_icmp_ne (tgt := 44) hx hb d_A_isNothing_37 (by decide) (fun c3 => ?_) (fun c3 => ?_)
    · refine lv_iconst (v := 0) hx hb d_A_isNothing_44 (by decide) ?_
      refine lv_istore_n (lv' := [(2, .int (0 : Int32)), (1, .int att), (0, .ref g0)]) hx hb d_A_isNothing_45 rfl hl (by decide) rfl (fun ls hl => ?_)
      refine lv_aload_n hx hb d_A_isNothing_46 rfl (lv_at hl 2 rfl) ?_
      refine va_get (D := D) (ci := 3) (v := .ref g1) (C := "SignMachine$Assembler") (T := F_A) (N := 15) hx hb hk fi_A hown hK.1 hP 0 rfl rfl 0 (by decide) (hk _ k_631) (fun _ h9 => h9) rfl d_A_isNothing_47 ?_
      refine lv_iload_n hx hb d_A_isNothing_50 rfl (lv_at hl 1 rfl) ?_
      refine va_putN (D := D) (ci := 4) (v := .int att) (ty := .int) (C := "SignMachine$Source") (T := F_R) (N := 9) hx hb hk fi_R ft_R ft_R_ok fn_R hown hK.1 hP hD hS 1 rfl rfl 3 (by decide) (va_Nw.use rfl (hK.2 _ n_541)) (fun _ h9 => h9) rfl (by decide +kernel) rfl rfl (Nat.le_of_ble_eq_true rfl) d_A_isNothing_51 (fun H locs hP hD hS => ?_)
      have hP : va_P D classes (aW cI cJ cZ cB g0 g1 g2 g3 g4 g5 g6 g7 g8 g9 g10 g11 g12 g13 g14 g15 flt fln ffr sta plc edd lab lbv opr acd akd agl len lin att stp fol skd snm snu byt ncn nsy nns nvs ntd lvs ltd ocn opl owd oln okd ogl olo TL) H := hP
      have hD : va_D A (aW cI cJ cZ cB g0 g1 g2 g3 g4 g5 g6 g7 g8 g9 g10 g11 g12 g13 g14 g15 flt fln ffr sta plc edd lab lbv opr acd akd agl len lin att stp fol skd snm snu byt ncn nsy nns nvs ntd lvs ltd ocn opl owd oln okd ogl olo TL) := hD
      refine lv_iload_n hx hb d_A_isNothing_54 rfl (lv_at hl 0 rfl) ?_
      exact W.zret (v := (0 : Int32)) hx hb hr rfl (fun t ht hW => ⟨⟨(0 : Int32), (att), rfl, by simp only [f_A_isNothing, if_neg c1, ← hz2, if_neg c3], by show va_P D classes _ t.heap; rw [ht]; exact hP⟩, hS.F ht⟩) hS.2.2 d_A_isNothing_55
    · refine lv_iconst (v := 1) hx hb d_A_isNothing_40 (by decide) ?_
      refine lv_goto (tgt := 45) hx hb d_A_isNothing_41 (by decide) ?_
      refine lv_istore_n (lv' := [(2, .int (1 : Int32)), (1, .int att), (0, .ref g0)]) hx hb d_A_isNothing_45 rfl hl (by decide) rfl (fun ls hl => ?_)
      refine lv_aload_n hx hb d_A_isNothing_46 rfl (lv_at hl 2 rfl) ?_
      refine va_get (D := D) (ci := 3) (v := .ref g1) (C := "SignMachine$Assembler") (T := F_A) (N := 15) hx hb hk fi_A hown hK.1 hP 0 rfl rfl 0 (by decide) (hk _ k_631) (fun _ h9 => h9) rfl d_A_isNothing_47 ?_
      refine lv_iload_n hx hb d_A_isNothing_50 rfl (lv_at hl 1 rfl) ?_
      refine va_putN (D := D) (ci := 4) (v := .int att) (ty := .int) (C := "SignMachine$Source") (T := F_R) (N := 9) hx hb hk fi_R ft_R ft_R_ok fn_R hown hK.1 hP hD hS 1 rfl rfl 3 (by decide) (va_Nw.use rfl (hK.2 _ n_541)) (fun _ h9 => h9) rfl (by decide +kernel) rfl rfl (Nat.le_of_ble_eq_true rfl) d_A_isNothing_51 (fun H locs hP hD hS => ?_)
      have hP : va_P D classes (aW cI cJ cZ cB g0 g1 g2 g3 g4 g5 g6 g7 g8 g9 g10 g11 g12 g13 g14 g15 flt fln ffr sta plc edd lab lbv opr acd akd agl len lin att stp fol skd snm snu byt ncn nsy nns nvs ntd lvs ltd ocn opl owd oln okd ogl olo TL) H := hP
      have hD : va_D A (aW cI cJ cZ cB g0 g1 g2 g3 g4 g5 g6 g7 g8 g9 g10 g11 g12 g13 g14 g15 flt fln ffr sta plc edd lab lbv opr acd akd agl len lin att stp fol skd snm snu byt ncn nsy nns nvs ntd lvs ltd ocn opl owd oln okd ogl olo TL) := hD
      refine lv_iload_n hx hb d_A_isNothing_54 rfl (lv_at hl 0 rfl) ?_
      exact W.zret (v := (1 : Int32)) hx hb hr rfl (fun t ht hW => ⟨⟨(1 : Int32), (att), rfl, by simp only [f_A_isNothing, if_neg c1, ← hz2, if_pos c3], by show va_P D classes _ t.heap; rw [ht]; exact hP⟩, hS.F ht⟩) hS.2.2 d_A_isNothing_55
  · refine lv_iconst (v := 1) hx hb d_A_isNothing_12 (by decide) ?_
    exact W.zret (v := (1 : Int32)) hx hb hr rfl (fun t ht hW => ⟨⟨(1 : Int32), (att), rfl, by simp only [f_A_isNothing, if_pos c1], by show va_P D classes _ t.heap; rw [ht]; exact hP⟩, hS.F ht⟩) hS.2.2 d_A_isNothing_13
theorem v_A_isNothing {R : Room} {s : State} {args : Array Value} {own : String} {index : Nat} (hk : ∀ w ∈ tb, w.before args s = true) (hl : Cond.methodLink own index y_A_isNothing ∈ tb) (hR : 2 + 1 ≤ R.frames ∧ 8 + (3 + 11) + 41 ≤ R.locals) : CallW R s args own "SignMachine$Assembler" index y_A_isNothing b_A_isNothing 3 (some .boolean) (.code y_A_isNothing b_A_isNothing 3 (some .boolean) :: tb) ({ frames := 2, cells := 0, slots := 0, locals := 41 }) 0 0 0 := mk_v 0 hk k_738 hl k_737 k_34 k_123 rfl rfl h_A_isNothing hR
def f_A_readLabel (flt : Int32) (fln : Int32) (lab : Int64) (lin : Int32) (att : Int32) (stp : Int32) (skd : Int32) (snm : Int64) (snu : Int32) (byt : Nat → Int32)  : (Int32) × (Int32) × (Int64) × (Int32) × (Int32) × (Int64) × (Int32) := (if (f_R_peek att stp byt ) = (32 : Int32) then (flt, fln, lab, att, skd, snm, snu) else (match (f_R_readToken att stp skd snm snu byt ) with | (attz2, skdz2, snmz2, snuz2) => (if skdz2 = (2 : Int32) then (if (f_R_peek attz2 stp byt ) = (32 : Int32) then (if (0 : Int32) ≤ (f_N_localDigit snmz2 (2 : Int32)) then (match (f_A_fail flt fln lin (3 : Int32)) with | (rz7, fltz7, flnz7) => (fltz7, flnz7, snmz2, attz2, skdz2, snmz2, snuz2)) else (if (f_N_localDigit snmz2 (6 : Int32)) < (0 : Int32) then (flt, fln, snmz2, attz2, skdz2, snmz2, snuz2) else (match (f_A_fail flt fln lin (3 : Int32)) with | (rz9, fltz9, flnz9) => (fltz9, flnz9, snmz2, attz2, skdz2, snmz2, snuz2)))) else (match (f_A_fail flt fln lin (1 : Int32)) with | (rz10, fltz10, flnz10) => (fltz10, flnz10, lab, attz2, skdz2, snmz2, snuz2))) else (match (f_A_fail flt fln lin (1 : Int32)) with | (rz4, fltz4, flnz4) => (fltz4, flnz4, lab, attz2, skdz2, snmz2, snuz2)))))
set_option maxHeartbeats 4000000 in
set_option maxRecDepth 100000 in
theorem c_A_readLabel (l : Launch) (D : va_G) (cI cJ cZ cB : ClassId) (g0 g1 g2 g3 g4 g5 g6 g7 g8 g9 g10 g11 g12 g13 g14 g15 : Nat) (sz : Nat) (flt : Int32) (fln : Int32) (ffr : Int32) (sta : Int32) (plc : Int32) (edd : Int32) (lab : Int64) (lbv : Int32) (opr : Option Nat) (acd : Int32) (akd : Int32) (agl : Int32) (len : Int32) (lin : Int32) (att : Int32) (stp : Int32) (fol : Int32) (skd : Int32) (snm : Int64) (snu : Int32) (byt : Nat → Int32) (ncn : Int32) (nsy : Int32) (nns : Nat → Int64) (nvs : Nat → Int32) (ntd : Nat → Int32) (lvs : Nat → Int32) (ltd : Nat → Int32) (ocn : Int32) (opl : Nat → Int32) (owd : Nat → Int32) (oln : Nat → Int32) (okd : Nat → Int32) (ogl : Nat → Int32) (olo : Nat → Int32) (TL : va_W)  : Met l y_A_readLabel (.code y_A_readLabel b_A_readLabel 1 none :: tb) ({ frames := 2, cells := 0, slots := 0, locals := 48 }) (pM D cI cJ cZ cB (aW cI cJ cZ cB g0 g1 g2 g3 g4 g5 g6 g7 g8 g9 g10 g11 g12 g13 g14 g15 flt fln ffr sta plc edd lab lbv opr acd akd agl len lin att stp fol skd snm snu byt ncn nsy nns nvs ntd lvs ltd ocn opl owd oln okd ogl olo TL) sz [.ref g0]) (qV D (fun u => u = f_A_readLabel flt fln lab lin att stp skd snm snu byt) (fun (u : (Int32) × (Int32) × (Int64) × (Int32) × (Int32) × (Int64) × (Int32)) => match u with | (u_flt, u_fln, u_lab, u_att, u_skd, u_snm, u_snu) => (aW cI cJ cZ cB g0 g1 g2 g3 g4 g5 g6 g7 g8 g9 g10 g11 g12 g13 g14 g15 u_flt u_fln ffr sta plc edd u_lab lbv opr acd akd agl len lin u_att stp fol u_skd u_snm u_snu byt ncn nsy nns nvs ntd lvs ltd ocn opl owd oln okd ogl olo TL)) (va_A (aW cI cJ cZ cB g0 g1 g2 g3 g4 g5 g6 g7 g8 g9 g10 g11 g12 g13 g14 g15 flt fln ffr sta plc edd lab lbv opr acd akd agl len lin att stp fol skd snm snu byt ncn nsy nns nvs ntd lvs ltd ocn opl owd oln okd ogl olo TL) sz)) 0 0 (va_A (aW cI cJ cZ cB g0 g1 g2 g3 g4 g5 g6 g7 g8 g9 g10 g11 g12 g13 g14 g15 flt fln ffr sta plc edd lab lbv opr acd akd agl len lin att stp fol skd snm snu byt ncn nsy nns nvs ntd lvs ltd ocn opl owd oln okd ogl olo TL) sz) := by
  refine Met.ofW (cc := b_A_readLabel) (maxL := 1) (ret := none) (by decide) rfl ?_
  intro p e s m args below meth c s₁ B hml hv
  obtain ⟨rfl, hsz, hK, hP, hD0⟩ := hv
  subst hsz
  have hD := hD0.self (sz := s.heap.size)
  generalize hAe : va_A (aW cI cJ cZ cB g0 g1 g2 g3 g4 g5 g6 g7 g8 g9 g10 g11 g12 g13 g14 g15 flt fln ffr sta plc edd lab lbv opr acd akd agl len lin att stp fol skd snm snu byt ncn nsy nns nvs ntd lvs ltd ocn opl owd oln okd ogl olo TL) s.heap.size = A at hD ⊢
  have hA : ∀ q : Nat, s.heap.size ≤ q → A q := fun q h => by rw [← hAe]; exact Or.inr h
  have hS : va_S A s.heap s.heap [] := va_S.rf
  have hx := B.exec
  have hb := B.bytes
  have hr := B.returns
  have hts := atoms_spec (ws := .code y_A_readLabel b_A_readLabel 1 none :: tb) B.pre
  have hk : ∀ w ∈ tb, w.before [.ref g0].toArray s = true := fun w h => hts w (List.mem_cons_of_mem _ h)
  have hown : s.vm.findClass "SignMachine$Assembler" = some m.cls := findClass_of_methodNamed B.named
  have hlocks := B.notSynchronized
  have hl := lv_entry ([.ref g0]) (n := 1) (Nat.le_of_ble_eq_true rfl)
  rw [lg_entry_eq]
  generalize (lg_sl ([.ref g0]) ++ List.replicate (1 - (lg_sl ([.ref g0])).length) Slot.unset).toArray = ls at hl ⊢
  have hl : lv_has ls 1 [(0, .ref g0)] := hl
  refine lv_aload_n hx hb d_A_readLabel_0 rfl (lv_at hl 0 rfl) ?_
  refine va_get (D := D) (ci := 3) (v := .ref g1) (C := "SignMachine$Assembler") (T := F_A) (N := 15) hx hb hk fi_A hown hK.1 hP 0 rfl rfl 0 (by decide) (hk _ k_631) (fun _ h9 => h9) rfl d_A_readLabel_1 ?_
  refine cs_i (W.runV (C := "SignMachine$Source") (As := []) (rest := []) ⟨hx, hb, hml, hown, hk⟩ (c_R_peek l D cI cJ cZ cB g0 g1 g2 g3 g4 g5 g6 g7 g8 g9 g10 g11 g12 g13 g14 g15 flt fln ffr sta plc edd lab lbv opr acd akd agl len lin att stp fol skd snm snu byt ncn nsy nns nvs ntd lvs ltd ocn opl owd oln okd ogl olo TL ) (v_R_peek hk k_739 ⟨Nat.le_of_ble_eq_true rfl, Nat.le_of_ble_eq_true rfl⟩) (pR_v hK hP (ci := 4) (q0 := 1) rfl rfl rfl) rfl rfl hl.1 rfl (lv_room (Nat.le_of_ble_eq_true rfl)) d_A_readLabel_4 ⟨Nat.le_of_ble_eq_true rfl, Nat.le_of_ble_eq_true rfl⟩) ?_
  refine lv_bipush (v := 32) hx hb d_A_readLabel_7 (by decide) ?_
  refine lv_icmp_ne (tgt := 13) hx hb d_A_readLabel_9 (by decide) (fun c1 => ?_) (fun c1 => ?_)
  · refine lv_aload_n hx hb d_A_readLabel_13 rfl (lv_at hl 0 rfl) ?_
    refine va_get (D := D) (ci := 3) (v := .ref g1) (C := "SignMachine$Assembler") (T := F_A) (N := 15) hx hb hk fi_A hown hK.1 hP 0 rfl rfl 0 (by decide) (hk _ k_631) (fun _ h9 => h9) rfl d_A_readLabel_14 ?_
    refine ca_v (va_runV (C := "SignMachine$Source") (As := []) (rest := []) ⟨hx, hb, hml, hown, hk⟩ (c_R_readToken l D cI cJ cZ cB g0 g1 g2 g3 g4 g5 g6 g7 g8 g9 g10 g11 g12 g13 g14 g15 s.heap.size flt fln ffr sta plc edd lab lbv opr acd akd agl len lin att stp fol skd snm snu byt ncn nsy nns nvs ntd lvs ltd ocn opl owd oln okd ogl olo TL ) (v_R_readToken hk k_752 ⟨Nat.le_of_ble_eq_true rfl, Nat.le_of_ble_eq_true rfl⟩) (pM_v hK hP hD (ci := 4) (q0 := 1) rfl rfl rfl) rfl rfl hl.1 rfl (lv_room (Nat.le_of_ble_eq_true rfl)) d_A_readLabel_17 ⟨Nat.le_of_ble_eq_true rfl, Nat.le_of_ble_eq_true rfl⟩) hS hA hD (fun u H locs hz2 hP hS => ?_)
    obtain ⟨attz2, skdz2, snmz2, snuz2⟩ := u
    have hP : va_P D classes (aW cI cJ cZ cB g0 g1 g2 g3 g4 g5 g6 g7 g8 g9 g10 g11 g12 g13 g14 g15 flt fln ffr sta plc edd lab lbv opr acd akd agl len lin attz2 stp fol skdz2 snmz2 snuz2 byt ncn nsy nns nvs ntd lvs ltd ocn opl owd oln okd ogl olo TL) H := hP
    have hD : va_D A (aW cI cJ cZ cB g0 g1 g2 g3 g4 g5 g6 g7 g8 g9 g10 g11 g12 g13 g14 g15 flt fln ffr sta plc edd lab lbv opr acd akd agl len lin attz2 stp fol skdz2 snmz2 snuz2 byt ncn nsy nns nvs ntd lvs ltd ocn opl owd oln okd ogl olo TL) := dsame hD rfl
    try dsimp only at hz2
    refine lv_aload_n hx hb d_A_readLabel_20 rfl (lv_at hl 0 rfl) ?_
    refine va_get (D := D) (ci := 3) (v := .ref g1) (C := "SignMachine$Assembler") (T := F_A) (N := 15) hx hb hk fi_A hown hK.1 hP 0 rfl rfl 0 (by decide) (hk _ k_631) (fun _ h9 => h9) rfl d_A_readLabel_21 ?_
    refine va_getN (D := D) (ci := 4) (v := .int skdz2) (C := "SignMachine$Source") (T := F_R) (N := 9) hx hb hk fi_R hown hK.1 hP 1 rfl rfl 6 (by decide) (va_Nw.use rfl (hK.2 _ n_544)) (fun _ h9 => h9) rfl d_A_readLabel_24 ?_
    refine lv_iconst (v := 2) hx hb d_A_readLabel_27 (by decide) ?_
    refine lv_icmp_ne (tgt := 43) hx hb d_A_readLabel_28 (by decide) (fun c3 => ?_) (fun c3 => ?_)
    · refine lv_aload_n hx hb d_A_readLabel_43 rfl (lv_at hl 0 rfl) ?_
      refine lv_iconst (v := 1) hx hb d_A_readLabel_44 (by decide) ?_
      refine ca_i (va_runV (C := "SignMachine$Assembler") (As := [.int (1 : Int32)]) (rest := []) ⟨hx, hb, hml, hown, hk⟩ (c_A_fail l D cI cJ cZ cB g0 g1 g2 g3 g4 g5 g6 g7 g8 g9 g10 g11 g12 g13 g14 g15 H.size flt fln ffr sta plc edd lab lbv opr acd akd agl len lin attz2 stp fol skdz2 snmz2 snuz2 byt ncn nsy nns nvs ntd lvs ltd ocn opl owd oln okd ogl olo TL (1 : Int32)) (v_A_fail hk k_767 ⟨Nat.le_of_ble_eq_true rfl, Nat.le_of_ble_eq_true rfl⟩) (pM_v hK hP hD (ci := 3) (q0 := 0) rfl rfl rfl) rfl rfl hl.1 rfl (lv_room (Nat.le_of_ble_eq_true rfl)) d_A_readLabel_45 ⟨Nat.le_of_ble_eq_true rfl, Nat.le_of_ble_eq_true rfl⟩) hS hA hD (fun rz4 u H locs hz4 hP hS => ?_)
      obtain ⟨fltz4, flnz4⟩ := u
      have hP : va_P D classes (aW cI cJ cZ cB g0 g1 g2 g3 g4 g5 g6 g7 g8 g9 g10 g11 g12 g13 g14 g15 fltz4 flnz4 ffr sta plc edd lab lbv opr acd akd agl len lin attz2 stp fol skdz2 snmz2 snuz2 byt ncn nsy nns nvs ntd lvs ltd ocn opl owd oln okd ogl olo TL) H := hP
      have hD : va_D A (aW cI cJ cZ cB g0 g1 g2 g3 g4 g5 g6 g7 g8 g9 g10 g11 g12 g13 g14 g15 fltz4 flnz4 ffr sta plc edd lab lbv opr acd akd agl len lin attz2 stp fol skdz2 snmz2 snuz2 byt ncn nsy nns nvs ntd lvs ltd ocn opl owd oln okd ogl olo TL) := dsame hD rfl
      try dsimp only at hz4
      refine lv_pop hx hb d_A_readLabel_48 rfl ?_
      exact W.vret hx hb hr (fun t ht hW => ⟨⟨(fltz4, flnz4, lab, attz2, skdz2, snmz2, snuz2), rfl, by simp only [f_A_readLabel, if_neg c1, ← hz2, if_neg c3, ← hz4], by show va_P D classes _ t.heap; rw [ht]; exact hP⟩, hS.F ht⟩) hS.2.2 d_A_readLabel_49
    · refine lv_aload_n hx hb d_A_readLabel_31 rfl (lv_at hl 0 rfl) ?_
      refine va_get (D := D) (ci := 3) (v := .ref g1) (C := "SignMachine$Assembler") (T := F_A) (N := 15) hx hb hk fi_A hown hK.1 hP 0 rfl rfl 0 (by decide) (hk _ k_631) (fun _ h9 => h9) rfl d_A_readLabel_32 ?_
      refine cs_i (W.runV (C := "SignMachine$Source") (As := []) (rest := []) ⟨hx, hb, hml, hown, hk⟩ (c_R_peek l D cI cJ cZ cB g0 g1 g2 g3 g4 g5 g6 g7 g8 g9 g10 g11 g12 g13 g14 g15 flt fln ffr sta plc edd lab lbv opr acd akd agl len lin attz2 stp fol skdz2 snmz2 snuz2 byt ncn nsy nns nvs ntd lvs ltd ocn opl owd oln okd ogl olo TL ) (v_R_peek hk k_739 ⟨Nat.le_of_ble_eq_true rfl, Nat.le_of_ble_eq_true rfl⟩) (pR_v hK hP (ci := 4) (q0 := 1) rfl rfl rfl) rfl rfl hl.1 rfl (lv_room (Nat.le_of_ble_eq_true rfl)) d_A_readLabel_35 ⟨Nat.le_of_ble_eq_true rfl, Nat.le_of_ble_eq_true rfl⟩) ?_
      refine lv_bipush (v := 32) hx hb d_A_readLabel_38 (by decide) ?_
      refine lv_icmp_eq (tgt := 50) hx hb d_A_readLabel_40 (by decide) (fun c5 => ?_) (fun c5 => ?_)
      · refine lv_aload_n hx hb d_A_readLabel_50 rfl (lv_at hl 0 rfl) ?_
        refine lv_aload_n hx hb d_A_readLabel_51 rfl (lv_at hl 0 rfl) ?_
        refine va_get (D := D) (ci := 3) (v := .ref g1) (C := "SignMachine$Assembler") (T := F_A) (N := 15) hx hb hk fi_A hown hK.1 hP 0 rfl rfl 0 (by decide) (hk _ k_631) (fun _ h9 => h9) rfl d_A_readLabel_52 ?_
        refine va_getN (D := D) (ci := 4) (v := .long snmz2) (C := "SignMachine$Source") (T := F_R) (N := 9) hx hb hk fi_R hown hK.1 hP 1 rfl rfl 7 (by decide) (va_Nw.use rfl (hK.2 _ n_546)) (fun _ h9 => h9) rfl d_A_readLabel_55 ?_
        refine va_put (D := D) (ci := 3) (v := .long snmz2) (ty := .long) (C := "SignMachine$Assembler") (T := F_A) (N := 15) hx hb hk fi_A ft_A ft_A_ok fn_A hown hK.1 hP hD hS 0 rfl rfl 9 (by decide) (hk _ k_646) (fun _ h9 => h9) rfl (by decide +kernel) rfl rfl (Nat.le_of_ble_eq_true rfl) d_A_readLabel_58 (fun H locs hP hD hS => ?_)
        have hP : va_P D classes (aW cI cJ cZ cB g0 g1 g2 g3 g4 g5 g6 g7 g8 g9 g10 g11 g12 g13 g14 g15 flt fln ffr sta plc edd snmz2 lbv opr acd akd agl len lin attz2 stp fol skdz2 snmz2 snuz2 byt ncn nsy nns nvs ntd lvs ltd ocn opl owd oln okd ogl olo TL) H := hP
        have hD : va_D A (aW cI cJ cZ cB g0 g1 g2 g3 g4 g5 g6 g7 g8 g9 g10 g11 g12 g13 g14 g15 flt fln ffr sta plc edd snmz2 lbv opr acd akd agl len lin attz2 stp fol skdz2 snmz2 snuz2 byt ncn nsy nns nvs ntd lvs ltd ocn opl owd oln okd ogl olo TL) := hD
        refine lv_aload_n hx hb d_A_readLabel_61 rfl (lv_at hl 0 rfl) ?_
        refine va_get (D := D) (ci := 3) (v := .long snmz2) (C := "SignMachine$Assembler") (T := F_A) (N := 15) hx hb hk fi_A hown hK.1 hP 0 rfl rfl 9 (by decide) (hk _ k_646) (fun _ h9 => h9) rfl d_A_readLabel_62 ?_
        refine lv_iconst (v := 2) hx hb d_A_readLabel_65 (by decide) ?_
        refine cs_i (W.runS (As := [.long snmz2, .int (2 : Int32)]) (rest := []) ⟨hx, hb, hml, hown, hk⟩ (c_N_localDigit l snmz2 (2 : Int32)) (s_N_localDigit hk k_771 ⟨Nat.le_of_ble_eq_true rfl, Nat.le_of_ble_eq_true rfl⟩) ⟨fun a U g mk q => q, fun U hU hW => ⟨rfl, trivial⟩⟩ rfl rfl hl.1 rfl (lv_room (Nat.le_of_ble_eq_true rfl)) d_A_readLabel_66 ⟨Nat.le_of_ble_eq_true rfl, Nat.le_of_ble_eq_true rfl⟩) ?_
        refine lv_if_ge (tgt := 84) hx hb d_A_readLabel_69 (by decide) (fun c6 => ?_) (fun c6 => ?_)
        · refine lv_aload_n hx hb d_A_readLabel_84 rfl (lv_at hl 0 rfl) ?_
          refine lv_iconst (v := 3) hx hb d_A_readLabel_85 (by decide) ?_
          refine ca_i (va_runV (C := "SignMachine$Assembler") (As := [.int (3 : Int32)]) (rest := []) ⟨hx, hb, hml, hown, hk⟩ (c_A_fail l D cI cJ cZ cB g0 g1 g2 g3 g4 g5 g6 g7 g8 g9 g10 g11 g12 g13 g14 g15 H.size flt fln ffr sta plc edd snmz2 lbv opr acd akd agl len lin attz2 stp fol skdz2 snmz2 snuz2 byt ncn nsy nns nvs ntd lvs ltd ocn opl owd oln okd ogl olo TL (3 : Int32)) (v_A_fail hk k_767 ⟨Nat.le_of_ble_eq_true rfl, Nat.le_of_ble_eq_true rfl⟩) (pM_v hK hP hD (ci := 3) (q0 := 0) rfl rfl rfl) rfl rfl hl.1 rfl (lv_room (Nat.le_of_ble_eq_true rfl)) d_A_readLabel_86 ⟨Nat.le_of_ble_eq_true rfl, Nat.le_of_ble_eq_true rfl⟩) hS hA hD (fun rz7 u H locs hz7 hP hS => ?_)
          obtain ⟨fltz7, flnz7⟩ := u
          have hP : va_P D classes (aW cI cJ cZ cB g0 g1 g2 g3 g4 g5 g6 g7 g8 g9 g10 g11 g12 g13 g14 g15 fltz7 flnz7 ffr sta plc edd snmz2 lbv opr acd akd agl len lin attz2 stp fol skdz2 snmz2 snuz2 byt ncn nsy nns nvs ntd lvs ltd ocn opl owd oln okd ogl olo TL) H := hP
          have hD : va_D A (aW cI cJ cZ cB g0 g1 g2 g3 g4 g5 g6 g7 g8 g9 g10 g11 g12 g13 g14 g15 fltz7 flnz7 ffr sta plc edd snmz2 lbv opr acd akd agl len lin attz2 stp fol skdz2 snmz2 snuz2 byt ncn nsy nns nvs ntd lvs ltd ocn opl owd oln okd ogl olo TL) := dsame hD rfl
          try dsimp only at hz7
          refine lv_pop hx hb d_A_readLabel_89 rfl ?_
          exact W.vret hx hb hr (fun t ht hW => ⟨⟨(fltz7, flnz7, snmz2, attz2, skdz2, snmz2, snuz2), rfl, by simp only [f_A_readLabel, if_neg c1, ← hz2, if_pos c3, if_pos c5, if_pos c6, ← hz7], by show va_P D classes _ t.heap; rw [ht]; exact hP⟩, hS.F ht⟩) hS.2.2 d_A_readLabel_90
        · refine lv_aload_n hx hb d_A_readLabel_72 rfl (lv_at hl 0 rfl) ?_
          refine va_get (D := D) (ci := 3) (v := .long snmz2) (C := "SignMachine$Assembler") (T := F_A) (N := 15) hx hb hk fi_A hown hK.1 hP 0 rfl rfl 9 (by decide) (hk _ k_646) (fun _ h9 => h9) rfl d_A_readLabel_73 ?_
          refine lv_bipush (v := 6) hx hb d_A_readLabel_76 (by decide) ?_
          refine cs_i (W.runS (As := [.long snmz2, .int (6 : Int32)]) (rest := []) ⟨hx, hb, hml, hown, hk⟩ (c_N_localDigit l snmz2 (6 : Int32)) (s_N_localDigit hk k_771 ⟨Nat.le_of_ble_eq_true rfl, Nat.le_of_ble_eq_true rfl⟩) ⟨fun a U g mk q => q, fun U hU hW => ⟨rfl, trivial⟩⟩ rfl rfl hl.1 rfl (lv_room (Nat.le_of_ble_eq_true rfl)) d_A_readLabel_78 ⟨Nat.le_of_ble_eq_true rfl, Nat.le_of_ble_eq_true rfl⟩) ?_
          refine lv_if_lt (tgt := 90) hx hb d_A_readLabel_81 (by decide) (fun c8 => ?_) (fun c8 => ?_)
          · exact W.vret hx hb hr (fun t ht hW => ⟨⟨(flt, fln, snmz2, attz2, skdz2, snmz2, snuz2), rfl, by simp only [f_A_readLabel, if_neg c1, ← hz2, if_pos c3, if_pos c5, if_neg c6, if_pos c8], by show va_P D classes _ t.heap; rw [ht]; exact hP⟩, hS.F ht⟩) hS.2.2 d_A_readLabel_90
          · refine lv_aload_n hx hb d_A_readLabel_84 rfl (lv_at hl 0 rfl) ?_
            refine lv_iconst (v := 3) hx hb d_A_readLabel_85 (by decide) ?_
            refine ca_i (va_runV (C := "SignMachine$Assembler") (As := [.int (3 : Int32)]) (rest := []) ⟨hx, hb, hml, hown, hk⟩ (c_A_fail l D cI cJ cZ cB g0 g1 g2 g3 g4 g5 g6 g7 g8 g9 g10 g11 g12 g13 g14 g15 H.size flt fln ffr sta plc edd snmz2 lbv opr acd akd agl len lin attz2 stp fol skdz2 snmz2 snuz2 byt ncn nsy nns nvs ntd lvs ltd ocn opl owd oln okd ogl olo TL (3 : Int32)) (v_A_fail hk k_767 ⟨Nat.le_of_ble_eq_true rfl, Nat.le_of_ble_eq_true rfl⟩) (pM_v hK hP hD (ci := 3) (q0 := 0) rfl rfl rfl) rfl rfl hl.1 rfl (lv_room (Nat.le_of_ble_eq_true rfl)) d_A_readLabel_86 ⟨Nat.le_of_ble_eq_true rfl, Nat.le_of_ble_eq_true rfl⟩) hS hA hD (fun rz9 u H locs hz9 hP hS => ?_)
            obtain ⟨fltz9, flnz9⟩ := u
            have hP : va_P D classes (aW cI cJ cZ cB g0 g1 g2 g3 g4 g5 g6 g7 g8 g9 g10 g11 g12 g13 g14 g15 fltz9 flnz9 ffr sta plc edd snmz2 lbv opr acd akd agl len lin attz2 stp fol skdz2 snmz2 snuz2 byt ncn nsy nns nvs ntd lvs ltd ocn opl owd oln okd ogl olo TL) H := hP
            have hD : va_D A (aW cI cJ cZ cB g0 g1 g2 g3 g4 g5 g6 g7 g8 g9 g10 g11 g12 g13 g14 g15 fltz9 flnz9 ffr sta plc edd snmz2 lbv opr acd akd agl len lin attz2 stp fol skdz2 snmz2 snuz2 byt ncn nsy nns nvs ntd lvs ltd ocn opl owd oln okd ogl olo TL) := dsame hD rfl
            try dsimp only at hz9
            refine lv_pop hx hb d_A_readLabel_89 rfl ?_
            exact W.vret hx hb hr (fun t ht hW => ⟨⟨(fltz9, flnz9, snmz2, attz2, skdz2, snmz2, snuz2), rfl, by simp only [f_A_readLabel, if_neg c1, ← hz2, if_pos c3, if_pos c5, if_neg c6, if_neg c8, ← hz9], by show va_P D classes _ t.heap; rw [ht]; exact hP⟩, hS.F ht⟩) hS.2.2 d_A_readLabel_90
      · refine lv_aload_n hx hb d_A_readLabel_43 rfl (lv_at hl 0 rfl) ?_
        refine lv_iconst (v := 1) hx hb d_A_readLabel_44 (by decide) ?_
        refine ca_i (va_runV (C := "SignMachine$Assembler") (As := [.int (1 : Int32)]) (rest := []) ⟨hx, hb, hml, hown, hk⟩ (c_A_fail l D cI cJ cZ cB g0 g1 g2 g3 g4 g5 g6 g7 g8 g9 g10 g11 g12 g13 g14 g15 H.size flt fln ffr sta plc edd lab lbv opr acd akd agl len lin attz2 stp fol skdz2 snmz2 snuz2 byt ncn nsy nns nvs ntd lvs ltd ocn opl owd oln okd ogl olo TL (1 : Int32)) (v_A_fail hk k_767 ⟨Nat.le_of_ble_eq_true rfl, Nat.le_of_ble_eq_true rfl⟩) (pM_v hK hP hD (ci := 3) (q0 := 0) rfl rfl rfl) rfl rfl hl.1 rfl (lv_room (Nat.le_of_ble_eq_true rfl)) d_A_readLabel_45 ⟨Nat.le_of_ble_eq_true rfl, Nat.le_of_ble_eq_true rfl⟩) hS hA hD (fun rz10 u H locs hz10 hP hS => ?_)
        obtain ⟨fltz10, flnz10⟩ := u
        have hP : va_P D classes (aW cI cJ cZ cB g0 g1 g2 g3 g4 g5 g6 g7 g8 g9 g10 g11 g12 g13 g14 g15 fltz10 flnz10 ffr sta plc edd lab lbv opr acd akd agl len lin attz2 stp fol skdz2 snmz2 snuz2 byt ncn nsy nns nvs ntd lvs ltd ocn opl owd oln okd ogl olo TL) H := hP
        have hD : va_D A (aW cI cJ cZ cB g0 g1 g2 g3 g4 g5 g6 g7 g8 g9 g10 g11 g12 g13 g14 g15 fltz10 flnz10 ffr sta plc edd lab lbv opr acd akd agl len lin attz2 stp fol skdz2 snmz2 snuz2 byt ncn nsy nns nvs ntd lvs ltd ocn opl owd oln okd ogl olo TL) := dsame hD rfl
        try dsimp only at hz10
        refine lv_pop hx hb d_A_readLabel_48 rfl ?_
        exact W.vret hx hb hr (fun t ht hW => ⟨⟨(fltz10, flnz10, lab, attz2, skdz2, snmz2, snuz2), rfl, by simp only [f_A_readLabel, if_neg c1, ← hz2, if_pos c3, if_neg c5, ← hz10], by show va_P D classes _ t.heap; rw [ht]; exact hP⟩, hS.F ht⟩) hS.2.2 d_A_readLabel_49
  · exact W.vret hx hb hr (fun t ht hW => ⟨⟨(flt, fln, lab, att, skd, snm, snu), rfl, by simp only [f_A_readLabel, if_pos c1], by show va_P D classes _ t.heap; rw [ht]; exact hP⟩, hS.F ht⟩) hS.2.2 d_A_readLabel_12
theorem v_A_readLabel {R : Room} {s : State} {args : Array Value} {own : String} {index : Nat} (hk : ∀ w ∈ tb, w.before args s = true) (hl : Cond.methodLink own index y_A_readLabel ∈ tb) (hR : 2 + 1 ≤ R.frames ∧ 8 + (1 + 11) + 48 ≤ R.locals) : CallW R s args own "SignMachine$Assembler" index y_A_readLabel b_A_readLabel 1 none (.code y_A_readLabel b_A_readLabel 1 none :: tb) ({ frames := 2, cells := 0, slots := 0, locals := 48 }) 0 0 0 := mk_v 0 hk k_751 hl k_750 k_35 k_123 rfl rfl h_A_readLabel hR
def f_A_putInstruction (flt : Int32) (fln : Int32) (plc : Int32) (akd : Int32) (agl : Int32) (lin : Int32) (ocn : Int32) (opl : Nat → Int32) (owd : Nat → Int32) (oln : Nat → Int32) (okd : Nat → Int32) (ogl : Nat → Int32) (olo : Nat → Int32) (a1 : Int32) : (Int32) × (Int32) × (Int32) × (Int32) × (Nat → Int32) × (Nat → Int32) × (Nat → Int32) × (Nat → Int32) × (Nat → Int32) × (Nat → Int32) := (if (bI (f_M_isAddress plc)) = (0 : Int32) then (match (f_A_fail flt fln lin (4 : Int32)) with | (rz3, fltz3, flnz3) => (fltz3, flnz3, plc, ocn, opl, owd, oln, okd, ogl, olo)) else (match (f_O_add ocn opl owd oln okd ogl olo plc a1 lin akd agl) with | (ocnz2, oplz2, owdz2, olnz2, okdz2, oglz2, oloz2) => (flt, fln, (plc + (1 : Int32)), ocnz2, oplz2, owdz2, olnz2, okdz2, oglz2, oloz2)))
set_option maxHeartbeats 4000000 in
set_option maxRecDepth 100000 in
theorem c_A_putInstruction (l : Launch) (D : va_G) (cI cJ cZ cB : ClassId) (g0 g1 g2 g3 g4 g5 g6 g7 g8 g9 g10 g11 g12 g13 g14 g15 : Nat) (sz : Nat) (flt : Int32) (fln : Int32) (ffr : Int32) (sta : Int32) (plc : Int32) (edd : Int32) (lab : Int64) (lbv : Int32) (opr : Option Nat) (acd : Int32) (akd : Int32) (agl : Int32) (len : Int32) (lin : Int32) (att : Int32) (stp : Int32) (fol : Int32) (skd : Int32) (snm : Int64) (snu : Int32) (byt : Nat → Int32) (ncn : Int32) (nsy : Int32) (nns : Nat → Int64) (nvs : Nat → Int32) (ntd : Nat → Int32) (lvs : Nat → Int32) (ltd : Nat → Int32) (ocn : Int32) (opl : Nat → Int32) (owd : Nat → Int32) (oln : Nat → Int32) (okd : Nat → Int32) (ogl : Nat → Int32) (olo : Nat → Int32) (TL : va_W) (a1 : Int32) : Met l y_A_putInstruction (.code y_A_putInstruction b_A_putInstruction 2 none :: tb) ({ frames := 1, cells := 0, slots := 0, locals := 25 }) (pM D cI cJ cZ cB (aW cI cJ cZ cB g0 g1 g2 g3 g4 g5 g6 g7 g8 g9 g10 g11 g12 g13 g14 g15 flt fln ffr sta plc edd lab lbv opr acd akd agl len lin att stp fol skd snm snu byt ncn nsy nns nvs ntd lvs ltd ocn opl owd oln okd ogl olo TL) sz [.ref g0, .int a1]) (qV D (fun u => u = f_A_putInstruction flt fln plc akd agl lin ocn opl owd oln okd ogl olo a1) (fun (u : (Int32) × (Int32) × (Int32) × (Int32) × (Nat → Int32) × (Nat → Int32) × (Nat → Int32) × (Nat → Int32) × (Nat → Int32) × (Nat → Int32)) => match u with | (u_flt, u_fln, u_plc, u_ocn, u_opl, u_owd, u_oln, u_okd, u_ogl, u_olo) => (aW cI cJ cZ cB g0 g1 g2 g3 g4 g5 g6 g7 g8 g9 g10 g11 g12 g13 g14 g15 u_flt u_fln ffr sta u_plc edd lab lbv opr acd akd agl len lin att stp fol skd snm snu byt ncn nsy nns nvs ntd lvs ltd u_ocn u_opl u_owd u_oln u_okd u_ogl u_olo TL)) (va_A (aW cI cJ cZ cB g0 g1 g2 g3 g4 g5 g6 g7 g8 g9 g10 g11 g12 g13 g14 g15 flt fln ffr sta plc edd lab lbv opr acd akd agl len lin att stp fol skd snm snu byt ncn nsy nns nvs ntd lvs ltd ocn opl owd oln okd ogl olo TL) sz)) 0 0 (va_A (aW cI cJ cZ cB g0 g1 g2 g3 g4 g5 g6 g7 g8 g9 g10 g11 g12 g13 g14 g15 flt fln ffr sta plc edd lab lbv opr acd akd agl len lin att stp fol skd snm snu byt ncn nsy nns nvs ntd lvs ltd ocn opl owd oln okd ogl olo TL) sz) := by
  refine Met.ofW (cc := b_A_putInstruction) (maxL := 2) (ret := none) (by decide) rfl ?_
  intro p e s m args below meth c s₁ B hml hv
  obtain ⟨rfl, hsz, hK, hP, hD0⟩ := hv
  subst hsz
  have hD := hD0.self (sz := s.heap.size)
  generalize hAe : va_A (aW cI cJ cZ cB g0 g1 g2 g3 g4 g5 g6 g7 g8 g9 g10 g11 g12 g13 g14 g15 flt fln ffr sta plc edd lab lbv opr acd akd agl len lin att stp fol skd snm snu byt ncn nsy nns nvs ntd lvs ltd ocn opl owd oln okd ogl olo TL) s.heap.size = A at hD ⊢
  have hA : ∀ q : Nat, s.heap.size ≤ q → A q := fun q h => by rw [← hAe]; exact Or.inr h
  have hS : va_S A s.heap s.heap [] := va_S.rf
  have hx := B.exec
  have hb := B.bytes
  have hr := B.returns
  have hts := atoms_spec (ws := .code y_A_putInstruction b_A_putInstruction 2 none :: tb) B.pre
  have hk : ∀ w ∈ tb, w.before [.ref g0, .int a1].toArray s = true := fun w h => hts w (List.mem_cons_of_mem _ h)
  have hown : s.vm.findClass "SignMachine$Assembler" = some m.cls := findClass_of_methodNamed B.named
  have hlocks := B.notSynchronized
  have hl := lv_entry ([.ref g0, .int a1]) (n := 2) (Nat.le_of_ble_eq_true rfl)
  rw [lg_entry_eq]
  generalize (lg_sl ([.ref g0, .int a1]) ++ List.replicate (2 - (lg_sl ([.ref g0, .int a1])).length) Slot.unset).toArray = ls at hl ⊢
  have hl : lv_has ls 2 [(0, .ref g0), (1, .int a1)] := hl
  refine lv_aload_n hx hb d_A_putInstruction_0 rfl (lv_at hl 0 rfl) ?_
  refine va_get (D := D) (ci := 3) (v := .int plc) (C := "SignMachine$Assembler") (T := F_A) (N := 15) hx hb hk fi_A hown hK.1 hP 0 rfl rfl 7 (by decide) (hk _ k_644) (fun _ h9 => h9) rfl d_A_putInstruction_1 ?_
  refine cs_i (W.runS (As := [.int plc]) (rest := []) ⟨hx, hb, hml, hown, hk⟩ (c_M_isAddress l plc) (s_M_isAddress hk k_972 ⟨Nat.le_of_ble_eq_true rfl, Nat.le_of_ble_eq_true rfl⟩) ⟨fun a U g mk q => q, fun U hU hW => ⟨rfl, trivial⟩⟩ rfl rfl hl.1 rfl (lv_room (Nat.le_of_ble_eq_true rfl)) d_A_putInstruction_4 ⟨Nat.le_of_ble_eq_true rfl, Nat.le_of_ble_eq_true rfl⟩) ?_
  refine lv_if_ne (tgt := 17) hx hb d_A_putInstruction_7 (by decide) (fun c1 => ?_) (fun c1 => ?_)
  · refine lv_aload_n hx hb d_A_putInstruction_17 rfl (lv_at hl 0 rfl) ?_
    refine va_get (D := D) (ci := 3) (v := .ref g9) (C := "SignMachine$Assembler") (T := F_A) (N := 15) hx hb hk fi_A hown hK.1 hP 0 rfl rfl 2 (by decide) (hk _ k_634) (fun _ h9 => h9) rfl d_A_putInstruction_18 ?_
    refine lv_aload_n hx hb d_A_putInstruction_21 rfl (lv_at hl 0 rfl) ?_
    refine va_get (D := D) (ci := 3) (v := .int plc) (C := "SignMachine$Assembler") (T := F_A) (N := 15) hx hb hk fi_A hown hK.1 hP 0 rfl rfl 7 (by decide) (hk _ k_644) (fun _ h9 => h9) rfl d_A_putInstruction_22 ?_
    refine lv_iload_n hx hb d_A_putInstruction_25 rfl (lv_at hl 1 rfl) ?_
    refine lv_aload_n hx hb d_A_putInstruction_26 rfl (lv_at hl 0 rfl) ?_
    refine va_get (D := D) (ci := 3) (v := .ref g1) (C := "SignMachine$Assembler") (T := F_A) (N := 15) hx hb hk fi_A hown hK.1 hP 0 rfl rfl 0 (by decide) (hk _ k_631) (fun _ h9 => h9) rfl d_A_putInstruction_27 ?_
    refine va_getN (D := D) (ci := 4) (v := .int lin) (C := "SignMachine$Source") (T := F_R) (N := 9) hx hb hk fi_R hown hK.1 hP 1 rfl rfl 2 (by decide) (va_Nw.use rfl (hK.2 _ n_539)) (fun _ h9 => h9) rfl d_A_putInstruction_30 ?_
    refine lv_aload_n hx hb d_A_putInstruction_33 rfl (lv_at hl 0 rfl) ?_
    refine va_get (D := D) (ci := 3) (v := .int akd) (C := "SignMachine$Assembler") (T := F_A) (N := 15) hx hb hk fi_A hown hK.1 hP 0 rfl rfl 13 (by decide) (hk _ k_650) (fun _ h9 => h9) rfl d_A_putInstruction_34 ?_
    refine lv_aload_n hx hb d_A_putInstruction_37 rfl (lv_at hl 0 rfl) ?_
    refine va_get (D := D) (ci := 3) (v := .int agl) (C := "SignMachine$Assembler") (T := F_A) (N := 15) hx hb hk fi_A hown hK.1 hP 0 rfl rfl 14 (by decide) (hk _ k_651) (fun _ h9 => h9) rfl d_A_putInstruction_38 ?_
    refine ca_v (va_runV (C := "SignMachine$Output") (As := [.int plc, .int a1, .int lin, .int akd, .int agl]) (rest := []) ⟨hx, hb, hml, hown, hk⟩ (c_O_add l D cI cJ cZ cB g0 g1 g2 g3 g4 g5 g6 g7 g8 g9 g10 g11 g12 g13 g14 g15 s.heap.size flt fln ffr sta plc edd lab lbv opr acd akd agl len lin att stp fol skd snm snu byt ncn nsy nns nvs ntd lvs ltd ocn opl owd oln okd ogl olo TL plc a1 lin akd agl) (v_O_add hk k_973 ⟨Nat.le_of_ble_eq_true rfl, Nat.le_of_ble_eq_true rfl⟩) (pM_v hK hP hD (ci := 6) (q0 := 9) rfl rfl rfl) rfl rfl hl.1 rfl (lv_room (Nat.le_of_ble_eq_true rfl)) d_A_putInstruction_41 ⟨Nat.le_of_ble_eq_true rfl, Nat.le_of_ble_eq_true rfl⟩) hS hA hD (fun u H locs hz2 hP hS => ?_)
    obtain ⟨ocnz2, oplz2, owdz2, olnz2, okdz2, oglz2, oloz2⟩ := u
    have hP : va_P D classes (aW cI cJ cZ cB g0 g1 g2 g3 g4 g5 g6 g7 g8 g9 g10 g11 g12 g13 g14 g15 flt fln ffr sta plc edd lab lbv opr acd akd agl len lin att stp fol skd snm snu byt ncn nsy nns nvs ntd lvs ltd ocnz2 oplz2 owdz2 olnz2 okdz2 oglz2 oloz2 TL) H := hP
    have hD : va_D A (aW cI cJ cZ cB g0 g1 g2 g3 g4 g5 g6 g7 g8 g9 g10 g11 g12 g13 g14 g15 flt fln ffr sta plc edd lab lbv opr acd akd agl len lin att stp fol skd snm snu byt ncn nsy nns nvs ntd lvs ltd ocnz2 oplz2 owdz2 olnz2 okdz2 oglz2 oloz2 TL) := dsame hD rfl
    try dsimp only at hz2
    refine lv_aload_n hx hb d_A_putInstruction_44 rfl (lv_at hl 0 rfl) ?_
    refine lv_dup hx hb d_A_putInstruction_45 rfl ?_
    refine va_get (D := D) (ci := 3) (v := .int plc) (C := "SignMachine$Assembler") (T := F_A) (N := 15) hx hb hk fi_A hown hK.1 hP 0 rfl rfl 7 (by decide) (hk _ k_644) (fun _ h9 => h9) rfl d_A_putInstruction_46 ?_
    refine lv_iconst (v := 1) hx hb d_A_putInstruction_49 (by decide) ?_
    refine lv_iadd hx hb d_A_putInstruction_50 ?_
    refine va_put (D := D) (ci := 3) (v := .int (plc + (1 : Int32))) (ty := .int) (C := "SignMachine$Assembler") (T := F_A) (N := 15) hx hb hk fi_A ft_A ft_A_ok fn_A hown hK.1 hP hD hS 0 rfl rfl 7 (by decide) (hk _ k_644) (fun _ h9 => h9) rfl (by decide +kernel) rfl rfl (Nat.le_of_ble_eq_true rfl) d_A_putInstruction_51 (fun H locs hP hD hS => ?_)
    have hP : va_P D classes (aW cI cJ cZ cB g0 g1 g2 g3 g4 g5 g6 g7 g8 g9 g10 g11 g12 g13 g14 g15 flt fln ffr sta (plc + (1 : Int32)) edd lab lbv opr acd akd agl len lin att stp fol skd snm snu byt ncn nsy nns nvs ntd lvs ltd ocnz2 oplz2 owdz2 olnz2 okdz2 oglz2 oloz2 TL) H := hP
    have hD : va_D A (aW cI cJ cZ cB g0 g1 g2 g3 g4 g5 g6 g7 g8 g9 g10 g11 g12 g13 g14 g15 flt fln ffr sta (plc + (1 : Int32)) edd lab lbv opr acd akd agl len lin att stp fol skd snm snu byt ncn nsy nns nvs ntd lvs ltd ocnz2 oplz2 owdz2 olnz2 okdz2 oglz2 oloz2 TL) := hD
    exact W.vret hx hb hr (fun t ht hW => ⟨⟨(flt, fln, (plc + (1 : Int32)), ocnz2, oplz2, owdz2, olnz2, okdz2, oglz2, oloz2), rfl, by simp only [f_A_putInstruction, if_neg c1, ← hz2], by show va_P D classes _ t.heap; rw [ht]; exact hP⟩, hS.F ht⟩) hS.2.2 d_A_putInstruction_54
  · refine lv_aload_n hx hb d_A_putInstruction_10 rfl (lv_at hl 0 rfl) ?_
    refine lv_iconst (v := 4) hx hb d_A_putInstruction_11 (by decide) ?_
    refine ca_i (va_runV (C := "SignMachine$Assembler") (As := [.int (4 : Int32)]) (rest := []) ⟨hx, hb, hml, hown, hk⟩ (c_A_fail l D cI cJ cZ cB g0 g1 g2 g3 g4 g5 g6 g7 g8 g9 g10 g11 g12 g13 g14 g15 s.heap.size flt fln ffr sta plc edd lab lbv opr acd akd agl len lin att stp fol skd snm snu byt ncn nsy nns nvs ntd lvs ltd ocn opl owd oln okd ogl olo TL (4 : Int32)) (v_A_fail hk k_767 ⟨Nat.le_of_ble_eq_true rfl, Nat.le_of_ble_eq_true rfl⟩) (pM_v hK hP hD (ci := 3) (q0 := 0) rfl rfl rfl) rfl rfl hl.1 rfl (lv_room (Nat.le_of_ble_eq_true rfl)) d_A_putInstruction_12 ⟨Nat.le_of_ble_eq_true rfl, Nat.le_of_ble_eq_true rfl⟩) hS hA hD (fun rz3 u H locs hz3 hP hS => ?_)
    obtain ⟨fltz3, flnz3⟩ := u
    have hP : va_P D classes (aW cI cJ cZ cB g0 g1 g2 g3 g4 g5 g6 g7 g8 g9 g10 g11 g12 g13 g14 g15 fltz3 flnz3 ffr sta plc edd lab lbv opr acd akd agl len lin att stp fol skd snm snu byt ncn nsy nns nvs ntd lvs ltd ocn opl owd oln okd ogl olo TL) H := hP
    have hD : va_D A (aW cI cJ cZ cB g0 g1 g2 g3 g4 g5 g6 g7 g8 g9 g10 g11 g12 g13 g14 g15 fltz3 flnz3 ffr sta plc edd lab lbv opr acd akd agl len lin att stp fol skd snm snu byt ncn nsy nns nvs ntd lvs ltd ocn opl owd oln okd ogl olo TL) := dsame hD rfl
    try dsimp only at hz3
    refine lv_pop hx hb d_A_putInstruction_15 rfl ?_
    exact W.vret hx hb hr (fun t ht hW => ⟨⟨(fltz3, flnz3, plc, ocn, opl, owd, oln, okd, ogl, olo), rfl, by simp only [f_A_putInstruction, if_pos c1, ← hz3], by show va_P D classes _ t.heap; rw [ht]; exact hP⟩, hS.F ht⟩) hS.2.2 d_A_putInstruction_16
theorem v_A_putInstruction {R : Room} {s : State} {args : Array Value} {own : String} {index : Nat} (hk : ∀ w ∈ tb, w.before args s = true) (hl : Cond.methodLink own index y_A_putInstruction ∈ tb) (hR : 1 + 1 ≤ R.frames ∧ 8 + (2 + 11) + 25 ≤ R.locals) : CallW R s args own "SignMachine$Assembler" index y_A_putInstruction b_A_putInstruction 2 none (.code y_A_putInstruction b_A_putInstruction 2 none :: tb) ({ frames := 1, cells := 0, slots := 0, locals := 25 }) 0 0 1 := mk_v 1 hk k_971 hl k_970 k_44 k_123 rfl rfl h_A_putInstruction hR
def f_A_putWord (flt : Int32) (fln : Int32) (plc : Int32) (agl : Int32) (lin : Int32) (ocn : Int32) (opl : Nat → Int32) (owd : Nat → Int32) (oln : Nat → Int32) (okd : Nat → Int32) (ogl : Nat → Int32) (olo : Nat → Int32) (a1 : Int32) : (Int32) × (Int32) × (Int32) × (Int32) × (Int32) × (Nat → Int32) × (Nat → Int32) × (Nat → Int32) × (Nat → Int32) × (Nat → Int32) × (Nat → Int32) := (match (f_A_putInstruction flt fln plc (0 : Int32) agl lin ocn opl owd oln okd ogl olo a1) with | (fltz1, flnz1, plcz1, ocnz1, oplz1, owdz1, olnz1, okdz1, oglz1, oloz1) => (fltz1, flnz1, plcz1, (0 : Int32), ocnz1, oplz1, owdz1, olnz1, okdz1, oglz1, oloz1))
set_option maxHeartbeats 4000000 in
set_option maxRecDepth 100000 in
theorem c_A_putWord (l : Launch) (D : va_G) (cI cJ cZ cB : ClassId) (g0 g1 g2 g3 g4 g5 g6 g7 g8 g9 g10 g11 g12 g13 g14 g15 : Nat) (sz : Nat) (flt : Int32) (fln : Int32) (ffr : Int32) (sta : Int32) (plc : Int32) (edd : Int32) (lab : Int64) (lbv : Int32) (opr : Option Nat) (acd : Int32) (akd : Int32) (agl : Int32) (len : Int32) (lin : Int32) (att : Int32) (stp : Int32) (fol : Int32) (skd : Int32) (snm : Int64) (snu : Int32) (byt : Nat → Int32) (ncn : Int32) (nsy : Int32) (nns : Nat → Int64) (nvs : Nat → Int32) (ntd : Nat → Int32) (lvs : Nat → Int32) (ltd : Nat → Int32) (ocn : Int32) (opl : Nat → Int32) (owd : Nat → Int32) (oln : Nat → Int32) (okd : Nat → Int32) (ogl : Nat → Int32) (olo : Nat → Int32) (TL : va_W) (a1 : Int32) : Met l y_A_putWord (.code y_A_putWord b_A_putWord 2 none :: tb) ({ frames := 2, cells := 0, slots := 0, locals := 46 }) (pM D cI cJ cZ cB (aW cI cJ cZ cB g0 g1 g2 g3 g4 g5 g6 g7 g8 g9 g10 g11 g12 g13 g14 g15 flt fln ffr sta plc edd lab lbv opr acd akd agl len lin att stp fol skd snm snu byt ncn nsy nns nvs ntd lvs ltd ocn opl owd oln okd ogl olo TL) sz [.ref g0, .int a1]) (qV D (fun u => u = f_A_putWord flt fln plc agl lin ocn opl owd oln okd ogl olo a1) (fun (u : (Int32) × (Int32) × (Int32) × (Int32) × (Int32) × (Nat → Int32) × (Nat → Int32) × (Nat → Int32) × (Nat → Int32) × (Nat → Int32) × (Nat → Int32)) => match u with | (u_flt, u_fln, u_plc, u_akd, u_ocn, u_opl, u_owd, u_oln, u_okd, u_ogl, u_olo) => (aW cI cJ cZ cB g0 g1 g2 g3 g4 g5 g6 g7 g8 g9 g10 g11 g12 g13 g14 g15 u_flt u_fln ffr sta u_plc edd lab lbv opr acd u_akd agl len lin att stp fol skd snm snu byt ncn nsy nns nvs ntd lvs ltd u_ocn u_opl u_owd u_oln u_okd u_ogl u_olo TL)) (va_A (aW cI cJ cZ cB g0 g1 g2 g3 g4 g5 g6 g7 g8 g9 g10 g11 g12 g13 g14 g15 flt fln ffr sta plc edd lab lbv opr acd akd agl len lin att stp fol skd snm snu byt ncn nsy nns nvs ntd lvs ltd ocn opl owd oln okd ogl olo TL) sz)) 0 0 (va_A (aW cI cJ cZ cB g0 g1 g2 g3 g4 g5 g6 g7 g8 g9 g10 g11 g12 g13 g14 g15 flt fln ffr sta plc edd lab lbv opr acd akd agl len lin att stp fol skd snm snu byt ncn nsy nns nvs ntd lvs ltd ocn opl owd oln okd ogl olo TL) sz) := by
  refine Met.ofW (cc := b_A_putWord) (maxL := 2) (ret := none) (by decide) rfl ?_
  intro p e s m args below meth c s₁ B hml hv
  obtain ⟨rfl, hsz, hK, hP, hD0⟩ := hv
  subst hsz
  have hD := hD0.self (sz := s.heap.size)
  generalize hAe : va_A (aW cI cJ cZ cB g0 g1 g2 g3 g4 g5 g6 g7 g8 g9 g10 g11 g12 g13 g14 g15 flt fln ffr sta plc edd lab lbv opr acd akd agl len lin att stp fol skd snm snu byt ncn nsy nns nvs ntd lvs ltd ocn opl owd oln okd ogl olo TL) s.heap.size = A at hD ⊢
  have hA : ∀ q : Nat, s.heap.size ≤ q → A q := fun q h => by rw [← hAe]; exact Or.inr h
  have hS : va_S A s.heap s.heap [] := va_S.rf
  have hx := B.exec
  have hb := B.bytes
  have hr := B.returns
  have hts := atoms_spec (ws := .code y_A_putWord b_A_putWord 2 none :: tb) B.pre
  have hk : ∀ w ∈ tb, w.before [.ref g0, .int a1].toArray s = true := fun w h => hts w (List.mem_cons_of_mem _ h)
  have hown : s.vm.findClass "SignMachine$Assembler" = some m.cls := findClass_of_methodNamed B.named
  have hlocks := B.notSynchronized
  have hl := lv_entry ([.ref g0, .int a1]) (n := 2) (Nat.le_of_ble_eq_true rfl)
  rw [lg_entry_eq]
  generalize (lg_sl ([.ref g0, .int a1]) ++ List.replicate (2 - (lg_sl ([.ref g0, .int a1])).length) Slot.unset).toArray = ls at hl ⊢
  have hl : lv_has ls 2 [(0, .ref g0), (1, .int a1)] := hl
  refine lv_aload_n hx hb d_A_putWord_0 rfl (lv_at hl 0 rfl) ?_
  refine lv_iconst (v := 0) hx hb d_A_putWord_1 (by decide) ?_
  refine va_put (D := D) (ci := 3) (v := .int (0 : Int32)) (ty := .int) (C := "SignMachine$Assembler") (T := F_A) (N := 15) hx hb hk fi_A ft_A ft_A_ok fn_A hown hK.1 hP hD hS 0 rfl rfl 13 (by decide) (hk _ k_650) (fun _ h9 => h9) rfl (by decide +kernel) rfl rfl (Nat.le_of_ble_eq_true rfl) d_A_putWord_2 (fun H locs hP hD hS => ?_)
  have hP : va_P D classes (aW cI cJ cZ cB g0 g1 g2 g3 g4 g5 g6 g7 g8 g9 g10 g11 g12 g13 g14 g15 flt fln ffr sta plc edd lab lbv opr acd (0 : Int32) agl len lin att stp fol skd snm snu byt ncn nsy nns nvs ntd lvs ltd ocn opl owd oln okd ogl olo TL) H := hP
  have hD : va_D A (aW cI cJ cZ cB g0 g1 g2 g3 g4 g5 g6 g7 g8 g9 g10 g11 g12 g13 g14 g15 flt fln ffr sta plc edd lab lbv opr acd (0 : Int32) agl len lin att stp fol skd snm snu byt ncn nsy nns nvs ntd lvs ltd ocn opl owd oln okd ogl olo TL) := hD
  refine lv_aload_n hx hb d_A_putWord_5 rfl (lv_at hl 0 rfl) ?_
  refine lv_iload_n hx hb d_A_putWord_6 rfl (lv_at hl 1 rfl) ?_
  refine ca_v (va_runV (C := "SignMachine$Assembler") (As := [.int a1]) (rest := []) ⟨hx, hb, hml, hown, hk⟩ (c_A_putInstruction l D cI cJ cZ cB g0 g1 g2 g3 g4 g5 g6 g7 g8 g9 g10 g11 g12 g13 g14 g15 H.size flt fln ffr sta plc edd lab lbv opr acd (0 : Int32) agl len lin att stp fol skd snm snu byt ncn nsy nns nvs ntd lvs ltd ocn opl owd oln okd ogl olo TL a1) (v_A_putInstruction hk k_968 ⟨Nat.le_of_ble_eq_true rfl, Nat.le_of_ble_eq_true rfl⟩) (pM_v hK hP hD (ci := 3) (q0 := 0) rfl rfl rfl) rfl rfl hl.1 rfl (lv_room (Nat.le_of_ble_eq_true rfl)) d_A_putWord_7 ⟨Nat.le_of_ble_eq_true rfl, Nat.le_of_ble_eq_true rfl⟩) hS hA hD (fun u H locs hz1 hP hS => ?_)
  obtain ⟨fltz1, flnz1, plcz1, ocnz1, oplz1, owdz1, olnz1, okdz1, oglz1, oloz1⟩ := u
  have hP : va_P D classes (aW cI cJ cZ cB g0 g1 g2 g3 g4 g5 g6 g7 g8 g9 g10 g11 g12 g13 g14 g15 fltz1 flnz1 ffr sta plcz1 edd lab lbv opr acd (0 : Int32) agl len lin att stp fol skd snm snu byt ncn nsy nns nvs ntd lvs ltd ocnz1 oplz1 owdz1 olnz1 okdz1 oglz1 oloz1 TL) H := hP
  have hD : va_D A (aW cI cJ cZ cB g0 g1 g2 g3 g4 g5 g6 g7 g8 g9 g10 g11 g12 g13 g14 g15 fltz1 flnz1 ffr sta plcz1 edd lab lbv opr acd (0 : Int32) agl len lin att stp fol skd snm snu byt ncn nsy nns nvs ntd lvs ltd ocnz1 oplz1 owdz1 olnz1 okdz1 oglz1 oloz1 TL) := dsame hD rfl
  try dsimp only at hz1
  exact W.vret hx hb hr (fun t ht hW => ⟨⟨(fltz1, flnz1, plcz1, (0 : Int32), ocnz1, oplz1, owdz1, olnz1, okdz1, oglz1, oloz1), rfl, by simp only [f_A_putWord, ← hz1], by show va_P D classes _ t.heap; rw [ht]; exact hP⟩, hS.F ht⟩) hS.2.2 d_A_putWord_10
theorem v_A_putWord {R : Room} {s : State} {args : Array Value} {own : String} {index : Nat} (hk : ∀ w ∈ tb, w.before args s = true) (hl : Cond.methodLink own index y_A_putWord ∈ tb) (hR : 2 + 1 ≤ R.frames ∧ 8 + (2 + 11) + 46 ≤ R.locals) : CallW R s args own "SignMachine$Assembler" index y_A_putWord b_A_putWord 2 none (.code y_A_putWord b_A_putWord 2 none :: tb) ({ frames := 2, cells := 0, slots := 0, locals := 46 }) 0 0 1 := mk_v 1 hk k_967 hl k_966 k_43 k_123 rfl rfl h_A_putWord hR
def f_A_tellSymbol (flt : Int32) (fln : Int32) (lab : Int64) (lin : Int32) (ncn : Int32) (nsy : Int32) (nns : Nat → Int64) (nvs : Nat → Int32) (ntd : Nat → Int32) (a1 : Int32) : (Int32) × (Int32) × (Int32) × (Int32) × (Nat → Int64) × (Nat → Int32) × (Nat → Int32) := (if (bI (f_N_isTold ntd (f_N_find ncn nns lab))) = (0 : Int32) then (if (0 : Int32) ≤ (f_N_find ncn nns lab) then (match (f_N_tell nvs ntd (f_N_find ncn nns lab) a1) with | (nvsz4, ntdz4) => (flt, fln, ncn, nsy, nns, nvsz4, ntdz4)) else (match (f_N_addSymbol ncn nsy nns nvs ntd lab) with | (rz5, ncnz5, nsyz5, nnsz5, nvsz5, ntdz5) => (if (0 : Int32) ≤ rz5 then (match (f_N_tell nvsz5 ntdz5 rz5 a1) with | (nvsz7, ntdz7) => (flt, fln, ncnz5, nsyz5, nnsz5, nvsz7, ntdz7)) else (match (f_A_fail flt fln lin (5 : Int32)) with | (rz8, fltz8, flnz8) => (fltz8, flnz8, ncnz5, nsyz5, nnsz5, nvsz5, ntdz5))))) else (match (f_A_fail flt fln lin (3 : Int32)) with | (rz9, fltz9, flnz9) => (fltz9, flnz9, ncn, nsy, nns, nvs, ntd)))
set_option maxHeartbeats 4000000 in
set_option maxRecDepth 100000 in
theorem c_A_tellSymbol (l : Launch) (D : va_G) (cI cJ cZ cB : ClassId) (g0 g1 g2 g3 g4 g5 g6 g7 g8 g9 g10 g11 g12 g13 g14 g15 : Nat) (sz : Nat) (flt : Int32) (fln : Int32) (ffr : Int32) (sta : Int32) (plc : Int32) (edd : Int32) (lab : Int64) (lbv : Int32) (opr : Option Nat) (acd : Int32) (akd : Int32) (agl : Int32) (len : Int32) (lin : Int32) (att : Int32) (stp : Int32) (fol : Int32) (skd : Int32) (snm : Int64) (snu : Int32) (byt : Nat → Int32) (ncn : Int32) (nsy : Int32) (nns : Nat → Int64) (nvs : Nat → Int32) (ntd : Nat → Int32) (lvs : Nat → Int32) (ltd : Nat → Int32) (ocn : Int32) (opl : Nat → Int32) (owd : Nat → Int32) (oln : Nat → Int32) (okd : Nat → Int32) (ogl : Nat → Int32) (olo : Nat → Int32) (TL : va_W) (a1 : Int32) : Met l y_A_tellSymbol (.code y_A_tellSymbol b_A_tellSymbol 3 none :: tb) ({ frames := 2, cells := 0, slots := 0, locals := 45 }) (pM D cI cJ cZ cB (aW cI cJ cZ cB g0 g1 g2 g3 g4 g5 g6 g7 g8 g9 g10 g11 g12 g13 g14 g15 flt fln ffr sta plc edd lab lbv opr acd akd agl len lin att stp fol skd snm snu byt ncn nsy nns nvs ntd lvs ltd ocn opl owd oln okd ogl olo TL) sz [.ref g0, .int a1]) (qV D (fun u => u = f_A_tellSymbol flt fln lab lin ncn nsy nns nvs ntd a1) (fun (u : (Int32) × (Int32) × (Int32) × (Int32) × (Nat → Int64) × (Nat → Int32) × (Nat → Int32)) => match u with | (u_flt, u_fln, u_ncn, u_nsy, u_nns, u_nvs, u_ntd) => (aW cI cJ cZ cB g0 g1 g2 g3 g4 g5 g6 g7 g8 g9 g10 g11 g12 g13 g14 g15 u_flt u_fln ffr sta plc edd lab lbv opr acd akd agl len lin att stp fol skd snm snu byt u_ncn u_nsy u_nns u_nvs u_ntd lvs ltd ocn opl owd oln okd ogl olo TL)) (va_A (aW cI cJ cZ cB g0 g1 g2 g3 g4 g5 g6 g7 g8 g9 g10 g11 g12 g13 g14 g15 flt fln ffr sta plc edd lab lbv opr acd akd agl len lin att stp fol skd snm snu byt ncn nsy nns nvs ntd lvs ltd ocn opl owd oln okd ogl olo TL) sz)) 0 0 (va_A (aW cI cJ cZ cB g0 g1 g2 g3 g4 g5 g6 g7 g8 g9 g10 g11 g12 g13 g14 g15 flt fln ffr sta plc edd lab lbv opr acd akd agl len lin att stp fol skd snm snu byt ncn nsy nns nvs ntd lvs ltd ocn opl owd oln okd ogl olo TL) sz) := by
  refine Met.ofW (cc := b_A_tellSymbol) (maxL := 3) (ret := none) (by decide) rfl ?_
  intro p e s m args below meth c s₁ B hml hv
  obtain ⟨rfl, hsz, hK, hP, hD0⟩ := hv
  subst hsz
  have hD := hD0.self (sz := s.heap.size)
  generalize hAe : va_A (aW cI cJ cZ cB g0 g1 g2 g3 g4 g5 g6 g7 g8 g9 g10 g11 g12 g13 g14 g15 flt fln ffr sta plc edd lab lbv opr acd akd agl len lin att stp fol skd snm snu byt ncn nsy nns nvs ntd lvs ltd ocn opl owd oln okd ogl olo TL) s.heap.size = A at hD ⊢
  have hA : ∀ q : Nat, s.heap.size ≤ q → A q := fun q h => by rw [← hAe]; exact Or.inr h
  have hS : va_S A s.heap s.heap [] := va_S.rf
  have hx := B.exec
  have hb := B.bytes
  have hr := B.returns
  have hts := atoms_spec (ws := .code y_A_tellSymbol b_A_tellSymbol 3 none :: tb) B.pre
  have hk : ∀ w ∈ tb, w.before [.ref g0, .int a1].toArray s = true := fun w h => hts w (List.mem_cons_of_mem _ h)
  have hown : s.vm.findClass "SignMachine$Assembler" = some m.cls := findClass_of_methodNamed B.named
  have hlocks := B.notSynchronized
  have hl := lv_entry ([.ref g0, .int a1]) (n := 3) (Nat.le_of_ble_eq_true rfl)
  rw [lg_entry_eq]
  generalize (lg_sl ([.ref g0, .int a1]) ++ List.replicate (3 - (lg_sl ([.ref g0, .int a1])).length) Slot.unset).toArray = ls at hl ⊢
  have hl : lv_has ls 3 [(0, .ref g0), (1, .int a1)] := hl
  refine lv_aload_n hx hb d_A_tellSymbol_0 rfl (lv_at hl 0 rfl) ?_
  refine va_get (D := D) (ci := 3) (v := .ref g3) (C := "SignMachine$Assembler") (T := F_A) (N := 15) hx hb hk fi_A hown hK.1 hP 0 rfl rfl 1 (by decide) (hk _ k_633) (fun _ h9 => h9) rfl d_A_tellSymbol_1 ?_
  refine lv_aload_n hx hb d_A_tellSymbol_4 rfl (lv_at hl 0 rfl) ?_
  refine va_get (D := D) (ci := 3) (v := .long lab) (C := "SignMachine$Assembler") (T := F_A) (N := 15) hx hb hk fi_A hown hK.1 hP 0 rfl rfl 9 (by decide) (hk _ k_646) (fun _ h9 => h9) rfl d_A_tellSymbol_5 ?_
  refine cs_i (W.runV (C := "SignMachine$Names") (As := [.long lab]) (rest := []) ⟨hx, hb, hml, hown, hk⟩ (c_N_find l D cI cJ cZ cB g0 g1 g2 g3 g4 g5 g6 g7 g8 g9 g10 g11 g12 g13 g14 g15 flt fln ffr sta plc edd lab lbv opr acd akd agl len lin att stp fol skd snm snu byt ncn nsy nns nvs ntd lvs ltd ocn opl owd oln okd ogl olo TL lab) (v_N_find hk k_924 ⟨Nat.le_of_ble_eq_true rfl, Nat.le_of_ble_eq_true rfl⟩) (pR_v hK hP (ci := 5) (q0 := 3) rfl rfl rfl) rfl rfl hl.1 rfl (lv_room (Nat.le_of_ble_eq_true rfl)) d_A_tellSymbol_8 ⟨Nat.le_of_ble_eq_true rfl, Nat.le_of_ble_eq_true rfl⟩) ?_
  refine lv_istore_n (lv' := [(2, .int (f_N_find ncn nns lab)), (0, .ref g0), (1, .int a1)]) hx hb d_A_tellSymbol_11 rfl hl (by decide) rfl (fun ls hl => ?_)
  refine lv_aload_n hx hb d_A_tellSymbol_12 rfl (lv_at hl 1 rfl) ?_
  refine va_get (D := D) (ci := 3) (v := .ref g3) (C := "SignMachine$Assembler") (T := F_A) (N := 15) hx hb hk fi_A hown hK.1 hP 0 rfl rfl 1 (by decide) (hk _ k_633) (fun _ h9 => h9) rfl d_A_tellSymbol_13 ?_
  refine lv_iload_n hx hb d_A_tellSymbol_16 rfl (lv_at hl 0 rfl) ?_
  refine cs_i (W.runV (C := "SignMachine$Names") (As := [.int (f_N_find ncn nns lab)]) (rest := []) ⟨hx, hb, hml, hown, hk⟩ (c_N_isTold l D cI cJ cZ cB g0 g1 g2 g3 g4 g5 g6 g7 g8 g9 g10 g11 g12 g13 g14 g15 flt fln ffr sta plc edd lab lbv opr acd akd agl len lin att stp fol skd snm snu byt ncn nsy nns nvs ntd lvs ltd ocn opl owd oln okd ogl olo TL (f_N_find ncn nns lab)) (v_N_isTold hk k_928 ⟨Nat.le_of_ble_eq_true rfl, Nat.le_of_ble_eq_true rfl⟩) (pR_v hK hP (ci := 5) (q0 := 3) rfl rfl rfl) rfl rfl hl.1 rfl (lv_room (Nat.le_of_ble_eq_true rfl)) d_A_tellSymbol_17 ⟨Nat.le_of_ble_eq_true rfl, Nat.le_of_ble_eq_true rfl⟩) ?_
  refine lv_if_eq (tgt := 30) hx hb d_A_tellSymbol_20 (by decide) (fun c1 => ?_) (fun c1 => ?_)
  · refine lv_iload_n hx hb d_A_tellSymbol_30 rfl (lv_at hl 0 rfl) ?_
    refine lv_if_ge (tgt := 46) hx hb d_A_tellSymbol_31 (by decide) (fun c2 => ?_) (fun c2 => ?_)
    · refine lv_iload_n hx hb d_A_tellSymbol_46 rfl (lv_at hl 0 rfl) ?_
      refine lv_if_ge (tgt := 57) hx hb d_A_tellSymbol_47 (by decide) (fun c3 => ?_) (fun c3 => absurd c2 c3)
      refine lv_aload_n hx hb d_A_tellSymbol_57 rfl (lv_at hl 1 rfl) ?_
      refine va_get (D := D) (ci := 3) (v := .ref g3) (C := "SignMachine$Assembler") (T := F_A) (N := 15) hx hb hk fi_A hown hK.1 hP 0 rfl rfl 1 (by decide) (hk _ k_633) (fun _ h9 => h9) rfl d_A_tellSymbol_58 ?_
      refine lv_iload_n hx hb d_A_tellSymbol_61 rfl (lv_at hl 0 rfl) ?_
      refine lv_iload_n hx hb d_A_tellSymbol_62 rfl (lv_at hl 2 rfl) ?_
      refine ca_v (va_runV (C := "SignMachine$Names") (As := [.int (f_N_find ncn nns lab), .int a1]) (rest := []) ⟨hx, hb, hml, hown, hk⟩ (c_N_tell l D cI cJ cZ cB g0 g1 g2 g3 g4 g5 g6 g7 g8 g9 g10 g11 g12 g13 g14 g15 s.heap.size flt fln ffr sta plc edd lab lbv opr acd akd agl len lin att stp fol skd snm snu byt ncn nsy nns nvs ntd lvs ltd ocn opl owd oln okd ogl olo TL (f_N_find ncn nns lab) a1) (v_N_tell hk k_940 ⟨Nat.le_of_ble_eq_true rfl, Nat.le_of_ble_eq_true rfl⟩) (pM_v hK hP hD (ci := 5) (q0 := 3) rfl rfl rfl) rfl rfl hl.1 rfl (lv_room (Nat.le_of_ble_eq_true rfl)) d_A_tellSymbol_63 ⟨Nat.le_of_ble_eq_true rfl, Nat.le_of_ble_eq_true rfl⟩) hS hA hD (fun u H locs hz4 hP hS => ?_)
      obtain ⟨nvsz4, ntdz4⟩ := u
      have hP : va_P D classes (aW cI cJ cZ cB g0 g1 g2 g3 g4 g5 g6 g7 g8 g9 g10 g11 g12 g13 g14 g15 flt fln ffr sta plc edd lab lbv opr acd akd agl len lin att stp fol skd snm snu byt ncn nsy nns nvsz4 ntdz4 lvs ltd ocn opl owd oln okd ogl olo TL) H := hP
      have hD : va_D A (aW cI cJ cZ cB g0 g1 g2 g3 g4 g5 g6 g7 g8 g9 g10 g11 g12 g13 g14 g15 flt fln ffr sta plc edd lab lbv opr acd akd agl len lin att stp fol skd snm snu byt ncn nsy nns nvsz4 ntdz4 lvs ltd ocn opl owd oln okd ogl olo TL) := dsame hD rfl
      try dsimp only at hz4
      exact W.vret hx hb hr (fun t ht hW => ⟨⟨(flt, fln, ncn, nsy, nns, nvsz4, ntdz4), rfl, by simp only [f_A_tellSymbol, if_pos c1, if_pos c2, ← hz4], by show va_P D classes _ t.heap; rw [ht]; exact hP⟩, hS.F ht⟩) hS.2.2 d_A_tellSymbol_66
    · refine lv_aload_n hx hb d_A_tellSymbol_34 rfl (lv_at hl 1 rfl) ?_
      refine va_get (D := D) (ci := 3) (v := .ref g3) (C := "SignMachine$Assembler") (T := F_A) (N := 15) hx hb hk fi_A hown hK.1 hP 0 rfl rfl 1 (by decide) (hk _ k_633) (fun _ h9 => h9) rfl d_A_tellSymbol_35 ?_
      refine lv_aload_n hx hb d_A_tellSymbol_38 rfl (lv_at hl 1 rfl) ?_
      refine va_get (D := D) (ci := 3) (v := .long lab) (C := "SignMachine$Assembler") (T := F_A) (N := 15) hx hb hk fi_A hown hK.1 hP 0 rfl rfl 9 (by decide) (hk _ k_646) (fun _ h9 => h9) rfl d_A_tellSymbol_39 ?_
      refine ca_i (va_runV (C := "SignMachine$Names") (As := [.long lab]) (rest := []) ⟨hx, hb, hml, hown, hk⟩ (c_N_addSymbol l D cI cJ cZ cB g0 g1 g2 g3 g4 g5 g6 g7 g8 g9 g10 g11 g12 g13 g14 g15 s.heap.size flt fln ffr sta plc edd lab lbv opr acd akd agl len lin att stp fol skd snm snu byt ncn nsy nns nvs ntd lvs ltd ocn opl owd oln okd ogl olo TL lab) (v_N_addSymbol hk k_932 ⟨Nat.le_of_ble_eq_true rfl, Nat.le_of_ble_eq_true rfl⟩) (pM_v hK hP hD (ci := 5) (q0 := 3) rfl rfl rfl) rfl rfl hl.1 rfl (lv_room (Nat.le_of_ble_eq_true rfl)) d_A_tellSymbol_42 ⟨Nat.le_of_ble_eq_true rfl, Nat.le_of_ble_eq_true rfl⟩) hS hA hD (fun rz5 u H locs hz5 hP hS => ?_)
      obtain ⟨ncnz5, nsyz5, nnsz5, nvsz5, ntdz5⟩ := u
      have hP : va_P D classes (aW cI cJ cZ cB g0 g1 g2 g3 g4 g5 g6 g7 g8 g9 g10 g11 g12 g13 g14 g15 flt fln ffr sta plc edd lab lbv opr acd akd agl len lin att stp fol skd snm snu byt ncnz5 nsyz5 nnsz5 nvsz5 ntdz5 lvs ltd ocn opl owd oln okd ogl olo TL) H := hP
      have hD : va_D A (aW cI cJ cZ cB g0 g1 g2 g3 g4 g5 g6 g7 g8 g9 g10 g11 g12 g13 g14 g15 flt fln ffr sta plc edd lab lbv opr acd akd agl len lin att stp fol skd snm snu byt ncnz5 nsyz5 nnsz5 nvsz5 ntdz5 lvs ltd ocn opl owd oln okd ogl olo TL) := dsame hD rfl
      try dsimp only at hz5
      refine lv_istore_n (lv' := [(2, .int rz5), (0, .ref g0), (1, .int a1)]) hx hb d_A_tellSymbol_45 rfl hl (by decide) rfl (fun ls hl => ?_)
      refine lv_iload_n hx hb d_A_tellSymbol_46 rfl (lv_at hl 0 rfl) ?_
      refine lv_if_ge (tgt := 57) hx hb d_A_tellSymbol_47 (by decide) (fun c6 => ?_) (fun c6 => ?_)
      · refine lv_aload_n hx hb d_A_tellSymbol_57 rfl (lv_at hl 1 rfl) ?_
        refine va_get (D := D) (ci := 3) (v := .ref g3) (C := "SignMachine$Assembler") (T := F_A) (N := 15) hx hb hk fi_A hown hK.1 hP 0 rfl rfl 1 (by decide) (hk _ k_633) (fun _ h9 => h9) rfl d_A_tellSymbol_58 ?_
        refine lv_iload_n hx hb d_A_tellSymbol_61 rfl (lv_at hl 0 rfl) ?_
        refine lv_iload_n hx hb d_A_tellSymbol_62 rfl (lv_at hl 2 rfl) ?_
        refine ca_v (va_runV (C := "SignMachine$Names") (As := [.int rz5, .int a1]) (rest := []) ⟨hx, hb, hml, hown, hk⟩ (c_N_tell l D cI cJ cZ cB g0 g1 g2 g3 g4 g5 g6 g7 g8 g9 g10 g11 g12 g13 g14 g15 H.size flt fln ffr sta plc edd lab lbv opr acd akd agl len lin att stp fol skd snm snu byt ncnz5 nsyz5 nnsz5 nvsz5 ntdz5 lvs ltd ocn opl owd oln okd ogl olo TL rz5 a1) (v_N_tell hk k_940 ⟨Nat.le_of_ble_eq_true rfl, Nat.le_of_ble_eq_true rfl⟩) (pM_v hK hP hD (ci := 5) (q0 := 3) rfl rfl rfl) rfl rfl hl.1 rfl (lv_room (Nat.le_of_ble_eq_true rfl)) d_A_tellSymbol_63 ⟨Nat.le_of_ble_eq_true rfl, Nat.le_of_ble_eq_true rfl⟩) hS hA hD (fun u H locs hz7 hP hS => ?_)
        obtain ⟨nvsz7, ntdz7⟩ := u
        have hP : va_P D classes (aW cI cJ cZ cB g0 g1 g2 g3 g4 g5 g6 g7 g8 g9 g10 g11 g12 g13 g14 g15 flt fln ffr sta plc edd lab lbv opr acd akd agl len lin att stp fol skd snm snu byt ncnz5 nsyz5 nnsz5 nvsz7 ntdz7 lvs ltd ocn opl owd oln okd ogl olo TL) H := hP
        have hD : va_D A (aW cI cJ cZ cB g0 g1 g2 g3 g4 g5 g6 g7 g8 g9 g10 g11 g12 g13 g14 g15 flt fln ffr sta plc edd lab lbv opr acd akd agl len lin att stp fol skd snm snu byt ncnz5 nsyz5 nnsz5 nvsz7 ntdz7 lvs ltd ocn opl owd oln okd ogl olo TL) := dsame hD rfl
        try dsimp only at hz7
        exact W.vret hx hb hr (fun t ht hW => ⟨⟨(flt, fln, ncnz5, nsyz5, nnsz5, nvsz7, ntdz7), rfl, by simp only [f_A_tellSymbol, if_pos c1, if_neg c2, ← hz5, if_pos c6, ← hz7], by show va_P D classes _ t.heap; rw [ht]; exact hP⟩, hS.F ht⟩) hS.2.2 d_A_tellSymbol_66
      · refine lv_aload_n hx hb d_A_tellSymbol_50 rfl (lv_at hl 1 rfl) ?_
        refine lv_iconst (v := 5) hx hb d_A_tellSymbol_51 (by decide) ?_
        refine ca_i (va_runV (C := "SignMachine$Assembler") (As := [.int (5 : Int32)]) (rest := []) ⟨hx, hb, hml, hown, hk⟩ (c_A_fail l D cI cJ cZ cB g0 g1 g2 g3 g4 g5 g6 g7 g8 g9 g10 g11 g12 g13 g14 g15 H.size flt fln ffr sta plc edd lab lbv opr acd akd agl len lin att stp fol skd snm snu byt ncnz5 nsyz5 nnsz5 nvsz5 ntdz5 lvs ltd ocn opl owd oln okd ogl olo TL (5 : Int32)) (v_A_fail hk k_767 ⟨Nat.le_of_ble_eq_true rfl, Nat.le_of_ble_eq_true rfl⟩) (pM_v hK hP hD (ci := 3) (q0 := 0) rfl rfl rfl) rfl rfl hl.1 rfl (lv_room (Nat.le_of_ble_eq_true rfl)) d_A_tellSymbol_52 ⟨Nat.le_of_ble_eq_true rfl, Nat.le_of_ble_eq_true rfl⟩) hS hA hD (fun rz8 u H locs hz8 hP hS => ?_)
        obtain ⟨fltz8, flnz8⟩ := u
        have hP : va_P D classes (aW cI cJ cZ cB g0 g1 g2 g3 g4 g5 g6 g7 g8 g9 g10 g11 g12 g13 g14 g15 fltz8 flnz8 ffr sta plc edd lab lbv opr acd akd agl len lin att stp fol skd snm snu byt ncnz5 nsyz5 nnsz5 nvsz5 ntdz5 lvs ltd ocn opl owd oln okd ogl olo TL) H := hP
        have hD : va_D A (aW cI cJ cZ cB g0 g1 g2 g3 g4 g5 g6 g7 g8 g9 g10 g11 g12 g13 g14 g15 fltz8 flnz8 ffr sta plc edd lab lbv opr acd akd agl len lin att stp fol skd snm snu byt ncnz5 nsyz5 nnsz5 nvsz5 ntdz5 lvs ltd ocn opl owd oln okd ogl olo TL) := dsame hD rfl
        try dsimp only at hz8
        refine lv_pop hx hb d_A_tellSymbol_55 rfl ?_
        exact W.vret hx hb hr (fun t ht hW => ⟨⟨(fltz8, flnz8, ncnz5, nsyz5, nnsz5, nvsz5, ntdz5), rfl, by simp only [f_A_tellSymbol, if_pos c1, if_neg c2, ← hz5, if_neg c6, ← hz8], by show va_P D classes _ t.heap; rw [ht]; exact hP⟩, hS.F ht⟩) hS.2.2 d_A_tellSymbol_56
  · refine lv_aload_n hx hb d_A_tellSymbol_23 rfl (lv_at hl 1 rfl) ?_
    refine lv_iconst (v := 3) hx hb d_A_tellSymbol_24 (by decide) ?_
    refine ca_i (va_runV (C := "SignMachine$Assembler") (As := [.int (3 : Int32)]) (rest := []) ⟨hx, hb, hml, hown, hk⟩ (c_A_fail l D cI cJ cZ cB g0 g1 g2 g3 g4 g5 g6 g7 g8 g9 g10 g11 g12 g13 g14 g15 s.heap.size flt fln ffr sta plc edd lab lbv opr acd akd agl len lin att stp fol skd snm snu byt ncn nsy nns nvs ntd lvs ltd ocn opl owd oln okd ogl olo TL (3 : Int32)) (v_A_fail hk k_767 ⟨Nat.le_of_ble_eq_true rfl, Nat.le_of_ble_eq_true rfl⟩) (pM_v hK hP hD (ci := 3) (q0 := 0) rfl rfl rfl) rfl rfl hl.1 rfl (lv_room (Nat.le_of_ble_eq_true rfl)) d_A_tellSymbol_25 ⟨Nat.le_of_ble_eq_true rfl, Nat.le_of_ble_eq_true rfl⟩) hS hA hD (fun rz9 u H locs hz9 hP hS => ?_)
    obtain ⟨fltz9, flnz9⟩ := u
    have hP : va_P D classes (aW cI cJ cZ cB g0 g1 g2 g3 g4 g5 g6 g7 g8 g9 g10 g11 g12 g13 g14 g15 fltz9 flnz9 ffr sta plc edd lab lbv opr acd akd agl len lin att stp fol skd snm snu byt ncn nsy nns nvs ntd lvs ltd ocn opl owd oln okd ogl olo TL) H := hP
    have hD : va_D A (aW cI cJ cZ cB g0 g1 g2 g3 g4 g5 g6 g7 g8 g9 g10 g11 g12 g13 g14 g15 fltz9 flnz9 ffr sta plc edd lab lbv opr acd akd agl len lin att stp fol skd snm snu byt ncn nsy nns nvs ntd lvs ltd ocn opl owd oln okd ogl olo TL) := dsame hD rfl
    try dsimp only at hz9
    refine lv_pop hx hb d_A_tellSymbol_28 rfl ?_
    exact W.vret hx hb hr (fun t ht hW => ⟨⟨(fltz9, flnz9, ncn, nsy, nns, nvs, ntd), rfl, by simp only [f_A_tellSymbol, if_neg c1, ← hz9], by show va_P D classes _ t.heap; rw [ht]; exact hP⟩, hS.F ht⟩) hS.2.2 d_A_tellSymbol_29
theorem v_A_tellSymbol {R : Room} {s : State} {args : Array Value} {own : String} {index : Nat} (hk : ∀ w ∈ tb, w.before args s = true) (hl : Cond.methodLink own index y_A_tellSymbol ∈ tb) (hR : 2 + 1 ≤ R.frames ∧ 8 + (3 + 11) + 45 ≤ R.locals) : CallW R s args own "SignMachine$Assembler" index y_A_tellSymbol b_A_tellSymbol 3 none (.code y_A_tellSymbol b_A_tellSymbol 3 none :: tb) ({ frames := 2, cells := 0, slots := 0, locals := 45 }) 0 0 1 := mk_v 1 hk k_923 hl k_922 k_40 k_123 rfl rfl h_A_tellSymbol hR
def f_A_tellLabel (flt : Int32) (fln : Int32) (lab : Int64) (lin : Int32) (ncn : Int32) (nsy : Int32) (nns : Nat → Int64) (nvs : Nat → Int32) (ntd : Nat → Int32) (okd : Nat → Int32) (ogl : Nat → Int32) (olo : Nat → Int32) (a1 : Int32) : (Int32) × (Int32) × (Int32) × (Int32) × (Int32) × (Nat → Int64) × (Nat → Int32) × (Nat → Int32) × (Nat → Int32) × (Nat → Int32) × (Nat → Int32) := (if (f_N_localDigit lab (8 : Int32)) < (0 : Int32) then (if (lg_cmp lab (0 : Int64)) = (0 : Int32) then (flt, fln, a1, ncn, nsy, nns, nvs, ntd, okd, ogl, olo) else (match (f_A_tellSymbol flt fln lab lin ncn nsy nns nvs ntd a1) with | (fltz3, flnz3, ncnz3, nsyz3, nnsz3, nvsz3, ntdz3) => (fltz3, flnz3, a1, ncnz3, nsyz3, nnsz3, nvsz3, ntdz3, okd, ogl, olo))) else (match (f_O_closeLocal okd ogl olo (f_N_localDigit lab (8 : Int32)) a1) with | (okdz4, oglz4, oloz4) => (flt, fln, a1, ncn, nsy, nns, nvs, ntd, okdz4, oglz4, oloz4)))
set_option maxHeartbeats 4000000 in
set_option maxRecDepth 100000 in
theorem c_A_tellLabel (l : Launch) (D : va_G) (cI cJ cZ cB : ClassId) (g0 g1 g2 g3 g4 g5 g6 g7 g8 g9 g10 g11 g12 g13 g14 g15 : Nat) (sz : Nat) (flt : Int32) (fln : Int32) (ffr : Int32) (sta : Int32) (plc : Int32) (edd : Int32) (lab : Int64) (lbv : Int32) (opr : Option Nat) (acd : Int32) (akd : Int32) (agl : Int32) (len : Int32) (lin : Int32) (att : Int32) (stp : Int32) (fol : Int32) (skd : Int32) (snm : Int64) (snu : Int32) (byt : Nat → Int32) (ncn : Int32) (nsy : Int32) (nns : Nat → Int64) (nvs : Nat → Int32) (ntd : Nat → Int32) (lvs : Nat → Int32) (ltd : Nat → Int32) (ocn : Int32) (opl : Nat → Int32) (owd : Nat → Int32) (oln : Nat → Int32) (okd : Nat → Int32) (ogl : Nat → Int32) (olo : Nat → Int32) (TL : va_W) (a1 : Int32) : Met l y_A_tellLabel (.code y_A_tellLabel b_A_tellLabel 3 none :: tb) ({ frames := 3, cells := 0, slots := 0, locals := 67 }) (pM D cI cJ cZ cB (aW cI cJ cZ cB g0 g1 g2 g3 g4 g5 g6 g7 g8 g9 g10 g11 g12 g13 g14 g15 flt fln ffr sta plc edd lab lbv opr acd akd agl len lin att stp fol skd snm snu byt ncn nsy nns nvs ntd lvs ltd ocn opl owd oln okd ogl olo TL) sz [.ref g0, .int a1]) (qV D (fun u => u = f_A_tellLabel flt fln lab lin ncn nsy nns nvs ntd okd ogl olo a1) (fun (u : (Int32) × (Int32) × (Int32) × (Int32) × (Int32) × (Nat → Int64) × (Nat → Int32) × (Nat → Int32) × (Nat → Int32) × (Nat → Int32) × (Nat → Int32)) => match u with | (u_flt, u_fln, u_lbv, u_ncn, u_nsy, u_nns, u_nvs, u_ntd, u_okd, u_ogl, u_olo) => (aW cI cJ cZ cB g0 g1 g2 g3 g4 g5 g6 g7 g8 g9 g10 g11 g12 g13 g14 g15 u_flt u_fln ffr sta plc edd lab u_lbv opr acd akd agl len lin att stp fol skd snm snu byt u_ncn u_nsy u_nns u_nvs u_ntd lvs ltd ocn opl owd oln u_okd u_ogl u_olo TL)) (va_A (aW cI cJ cZ cB g0 g1 g2 g3 g4 g5 g6 g7 g8 g9 g10 g11 g12 g13 g14 g15 flt fln ffr sta plc edd lab lbv opr acd akd agl len lin att stp fol skd snm snu byt ncn nsy nns nvs ntd lvs ltd ocn opl owd oln okd ogl olo TL) sz)) 0 0 (va_A (aW cI cJ cZ cB g0 g1 g2 g3 g4 g5 g6 g7 g8 g9 g10 g11 g12 g13 g14 g15 flt fln ffr sta plc edd lab lbv opr acd akd agl len lin att stp fol skd snm snu byt ncn nsy nns nvs ntd lvs ltd ocn opl owd oln okd ogl olo TL) sz) := by
  refine Met.ofW (cc := b_A_tellLabel) (maxL := 3) (ret := none) (by decide) rfl ?_
  intro p e s m args below meth c s₁ B hml hv
  obtain ⟨rfl, hsz, hK, hP, hD0⟩ := hv
  subst hsz
  have hD := hD0.self (sz := s.heap.size)
  generalize hAe : va_A (aW cI cJ cZ cB g0 g1 g2 g3 g4 g5 g6 g7 g8 g9 g10 g11 g12 g13 g14 g15 flt fln ffr sta plc edd lab lbv opr acd akd agl len lin att stp fol skd snm snu byt ncn nsy nns nvs ntd lvs ltd ocn opl owd oln okd ogl olo TL) s.heap.size = A at hD ⊢
  have hA : ∀ q : Nat, s.heap.size ≤ q → A q := fun q h => by rw [← hAe]; exact Or.inr h
  have hS : va_S A s.heap s.heap [] := va_S.rf
  have hx := B.exec
  have hb := B.bytes
  have hr := B.returns
  have hts := atoms_spec (ws := .code y_A_tellLabel b_A_tellLabel 3 none :: tb) B.pre
  have hk : ∀ w ∈ tb, w.before [.ref g0, .int a1].toArray s = true := fun w h => hts w (List.mem_cons_of_mem _ h)
  have hown : s.vm.findClass "SignMachine$Assembler" = some m.cls := findClass_of_methodNamed B.named
  have hlocks := B.notSynchronized
  have hl := lv_entry ([.ref g0, .int a1]) (n := 3) (Nat.le_of_ble_eq_true rfl)
  rw [lg_entry_eq]
  generalize (lg_sl ([.ref g0, .int a1]) ++ List.replicate (3 - (lg_sl ([.ref g0, .int a1])).length) Slot.unset).toArray = ls at hl ⊢
  have hl : lv_has ls 3 [(0, .ref g0), (1, .int a1)] := hl
  refine lv_aload_n hx hb d_A_tellLabel_0 rfl (lv_at hl 0 rfl) ?_
  refine lv_iload_n hx hb d_A_tellLabel_1 rfl (lv_at hl 1 rfl) ?_
  refine va_put (D := D) (ci := 3) (v := .int a1) (ty := .int) (C := "SignMachine$Assembler") (T := F_A) (N := 15) hx hb hk fi_A ft_A ft_A_ok fn_A hown hK.1 hP hD hS 0 rfl rfl 10 (by decide) (hk _ k_647) (fun _ h9 => h9) rfl (by decide +kernel) rfl rfl (Nat.le_of_ble_eq_true rfl) d_A_tellLabel_2 (fun H locs hP hD hS => ?_)
  have hP : va_P D classes (aW cI cJ cZ cB g0 g1 g2 g3 g4 g5 g6 g7 g8 g9 g10 g11 g12 g13 g14 g15 flt fln ffr sta plc edd lab a1 opr acd akd agl len lin att stp fol skd snm snu byt ncn nsy nns nvs ntd lvs ltd ocn opl owd oln okd ogl olo TL) H := hP
  have hD : va_D A (aW cI cJ cZ cB g0 g1 g2 g3 g4 g5 g6 g7 g8 g9 g10 g11 g12 g13 g14 g15 flt fln ffr sta plc edd lab a1 opr acd akd agl len lin att stp fol skd snm snu byt ncn nsy nns nvs ntd lvs ltd ocn opl owd oln okd ogl olo TL) := hD
  refine lv_aload_n hx hb d_A_tellLabel_5 rfl (lv_at hl 0 rfl) ?_
  refine va_get (D := D) (ci := 3) (v := .long lab) (C := "SignMachine$Assembler") (T := F_A) (N := 15) hx hb hk fi_A hown hK.1 hP 0 rfl rfl 9 (by decide) (hk _ k_646) (fun _ h9 => h9) rfl d_A_tellLabel_6 ?_
  refine lv_bipush (v := 8) hx hb d_A_tellLabel_9 (by decide) ?_
  refine cs_i (W.runS (As := [.long lab, .int (8 : Int32)]) (rest := []) ⟨hx, hb, hml, hown, hk⟩ (c_N_localDigit l lab (8 : Int32)) (s_N_localDigit hk k_771 ⟨Nat.le_of_ble_eq_true rfl, Nat.le_of_ble_eq_true rfl⟩) ⟨fun a U g mk q => q, fun U hU hW => ⟨rfl, trivial⟩⟩ rfl rfl hl.1 rfl (lv_room (Nat.le_of_ble_eq_true rfl)) d_A_tellLabel_11 ⟨Nat.le_of_ble_eq_true rfl, Nat.le_of_ble_eq_true rfl⟩) ?_
  refine lv_istore_n (lv' := [(2, .int (f_N_localDigit lab (8 : Int32))), (0, .ref g0), (1, .int a1)]) hx hb d_A_tellLabel_14 rfl hl (by decide) rfl (fun ls hl => ?_)
  refine lv_iload_n hx hb d_A_tellLabel_15 rfl (lv_at hl 0 rfl) ?_
  refine lv_if_lt (tgt := 31) hx hb d_A_tellLabel_16 (by decide) (fun c1 => ?_) (fun c1 => ?_)
  · refine lv_aload_n hx hb d_A_tellLabel_31 rfl (lv_at hl 1 rfl) ?_
    refine va_get (D := D) (ci := 3) (v := .long lab) (C := "SignMachine$Assembler") (T := F_A) (N := 15) hx hb hk fi_A hown hK.1 hP 0 rfl rfl 9 (by decide) (hk _ k_646) (fun _ h9 => h9) rfl d_A_tellLabel_32 ?_
    refine lv_lconst (v := 0) hx hb d_A_tellLabel_35 (by decide) ?_
    refine W.lcmp hx hb d_A_tellLabel_36 ?_
    refine lv_if_eq (tgt := 45) hx hb d_A_tellLabel_37 (by decide) (fun c2 => ?_) (fun c2 => ?_)
    · exact W.vret hx hb hr (fun t ht hW => ⟨⟨(flt, fln, a1, ncn, nsy, nns, nvs, ntd, okd, ogl, olo), rfl, by simp only [f_A_tellLabel, if_pos c1, if_pos c2], by show va_P D classes _ t.heap; rw [ht]; exact hP⟩, hS.F ht⟩) hS.2.2 d_A_tellLabel_45
    · refine lv_aload_n hx hb d_A_tellLabel_40 rfl (lv_at hl 1 rfl) ?_
      refine lv_iload_n hx hb d_A_tellLabel_41 rfl (lv_at hl 2 rfl) ?_
      refine ca_v (va_runV (C := "SignMachine$Assembler") (As := [.int a1]) (rest := []) ⟨hx, hb, hml, hown, hk⟩ (c_A_tellSymbol l D cI cJ cZ cB g0 g1 g2 g3 g4 g5 g6 g7 g8 g9 g10 g11 g12 g13 g14 g15 H.size flt fln ffr sta plc edd lab a1 opr acd akd agl len lin att stp fol skd snm snu byt ncn nsy nns nvs ntd lvs ltd ocn opl owd oln okd ogl olo TL a1) (v_A_tellSymbol hk k_920 ⟨Nat.le_of_ble_eq_true rfl, Nat.le_of_ble_eq_true rfl⟩) (pM_v hK hP hD (ci := 3) (q0 := 0) rfl rfl rfl) rfl rfl hl.1 rfl (lv_room (Nat.le_of_ble_eq_true rfl)) d_A_tellLabel_42 ⟨Nat.le_of_ble_eq_true rfl, Nat.le_of_ble_eq_true rfl⟩) hS hA hD (fun u H locs hz3 hP hS => ?_)
      obtain ⟨fltz3, flnz3, ncnz3, nsyz3, nnsz3, nvsz3, ntdz3⟩ := u
      have hP : va_P D classes (aW cI cJ cZ cB g0 g1 g2 g3 g4 g5 g6 g7 g8 g9 g10 g11 g12 g13 g14 g15 fltz3 flnz3 ffr sta plc edd lab a1 opr acd akd agl len lin att stp fol skd snm snu byt ncnz3 nsyz3 nnsz3 nvsz3 ntdz3 lvs ltd ocn opl owd oln okd ogl olo TL) H := hP
      have hD : va_D A (aW cI cJ cZ cB g0 g1 g2 g3 g4 g5 g6 g7 g8 g9 g10 g11 g12 g13 g14 g15 fltz3 flnz3 ffr sta plc edd lab a1 opr acd akd agl len lin att stp fol skd snm snu byt ncnz3 nsyz3 nnsz3 nvsz3 ntdz3 lvs ltd ocn opl owd oln okd ogl olo TL) := dsame hD rfl
      try dsimp only at hz3
      exact W.vret hx hb hr (fun t ht hW => ⟨⟨(fltz3, flnz3, a1, ncnz3, nsyz3, nnsz3, nvsz3, ntdz3, okd, ogl, olo), rfl, by simp only [f_A_tellLabel, if_pos c1, if_neg c2, ← hz3], by show va_P D classes _ t.heap; rw [ht]; exact hP⟩, hS.F ht⟩) hS.2.2 d_A_tellLabel_45
  · refine lv_aload_n hx hb d_A_tellLabel_19 rfl (lv_at hl 1 rfl) ?_
    refine va_get (D := D) (ci := 3) (v := .ref g9) (C := "SignMachine$Assembler") (T := F_A) (N := 15) hx hb hk fi_A hown hK.1 hP 0 rfl rfl 2 (by decide) (hk _ k_634) (fun _ h9 => h9) rfl d_A_tellLabel_20 ?_
    refine lv_iload_n hx hb d_A_tellLabel_23 rfl (lv_at hl 0 rfl) ?_
    refine lv_iload_n hx hb d_A_tellLabel_24 rfl (lv_at hl 2 rfl) ?_
    refine ca_v (va_runV (C := "SignMachine$Output") (As := [.int (f_N_localDigit lab (8 : Int32)), .int a1]) (rest := []) ⟨hx, hb, hml, hown, hk⟩ (c_O_closeLocal l D cI cJ cZ cB g0 g1 g2 g3 g4 g5 g6 g7 g8 g9 g10 g11 g12 g13 g14 g15 H.size flt fln ffr sta plc edd lab a1 opr acd akd agl len lin att stp fol skd snm snu byt ncn nsy nns nvs ntd lvs ltd ocn opl owd oln okd ogl olo TL (f_N_localDigit lab (8 : Int32)) a1) (v_O_closeLocal hk k_913 ⟨Nat.le_of_ble_eq_true rfl, Nat.le_of_ble_eq_true rfl⟩) (pM_v hK hP hD (ci := 6) (q0 := 9) rfl rfl rfl) rfl rfl hl.1 rfl (lv_room (Nat.le_of_ble_eq_true rfl)) d_A_tellLabel_25 ⟨Nat.le_of_ble_eq_true rfl, Nat.le_of_ble_eq_true rfl⟩) hS hA hD (fun u H locs hz4 hP hS => ?_)
    obtain ⟨okdz4, oglz4, oloz4⟩ := u
    have hP : va_P D classes (aW cI cJ cZ cB g0 g1 g2 g3 g4 g5 g6 g7 g8 g9 g10 g11 g12 g13 g14 g15 flt fln ffr sta plc edd lab a1 opr acd akd agl len lin att stp fol skd snm snu byt ncn nsy nns nvs ntd lvs ltd ocn opl owd oln okdz4 oglz4 oloz4 TL) H := hP
    have hD : va_D A (aW cI cJ cZ cB g0 g1 g2 g3 g4 g5 g6 g7 g8 g9 g10 g11 g12 g13 g14 g15 flt fln ffr sta plc edd lab a1 opr acd akd agl len lin att stp fol skd snm snu byt ncn nsy nns nvs ntd lvs ltd ocn opl owd oln okdz4 oglz4 oloz4 TL) := dsame hD rfl
    try dsimp only at hz4
    refine lv_goto (tgt := 45) hx hb d_A_tellLabel_28 (by decide) ?_
    exact W.vret hx hb hr (fun t ht hW => ⟨⟨(flt, fln, a1, ncn, nsy, nns, nvs, ntd, okdz4, oglz4, oloz4), rfl, by simp only [f_A_tellLabel, if_neg c1, ← hz4], by show va_P D classes _ t.heap; rw [ht]; exact hP⟩, hS.F ht⟩) hS.2.2 d_A_tellLabel_45
theorem v_A_tellLabel {R : Room} {s : State} {args : Array Value} {own : String} {index : Nat} (hk : ∀ w ∈ tb, w.before args s = true) (hl : Cond.methodLink own index y_A_tellLabel ∈ tb) (hR : 3 + 1 ≤ R.frames ∧ 8 + (3 + 11) + 67 ≤ R.locals) : CallW R s args own "SignMachine$Assembler" index y_A_tellLabel b_A_tellLabel 3 none (.code y_A_tellLabel b_A_tellLabel 3 none :: tb) ({ frames := 3, cells := 0, slots := 0, locals := 67 }) 0 0 1 := mk_v 1 hk k_912 hl k_911 k_39 k_123 rfl rfl h_A_tellLabel hR
def f_A_leaveLine (lab : Int64) (lbv : Int32) (lvs : Nat → Int32) (ltd : Nat → Int32)  : (Nat → Int32) × (Nat → Int32) := (match (f_N_tellLocal lvs ltd (f_N_localDigit lab (8 : Int32)) lbv) with | (lvsz1, ltdz1) => (lvsz1, ltdz1))
set_option maxHeartbeats 4000000 in
set_option maxRecDepth 100000 in
theorem c_A_leaveLine (l : Launch) (D : va_G) (cI cJ cZ cB : ClassId) (g0 g1 g2 g3 g4 g5 g6 g7 g8 g9 g10 g11 g12 g13 g14 g15 : Nat) (sz : Nat) (flt : Int32) (fln : Int32) (ffr : Int32) (sta : Int32) (plc : Int32) (edd : Int32) (lab : Int64) (lbv : Int32) (opr : Option Nat) (acd : Int32) (akd : Int32) (agl : Int32) (len : Int32) (lin : Int32) (att : Int32) (stp : Int32) (fol : Int32) (skd : Int32) (snm : Int64) (snu : Int32) (byt : Nat → Int32) (ncn : Int32) (nsy : Int32) (nns : Nat → Int64) (nvs : Nat → Int32) (ntd : Nat → Int32) (lvs : Nat → Int32) (ltd : Nat → Int32) (ocn : Int32) (opl : Nat → Int32) (owd : Nat → Int32) (oln : Nat → Int32) (okd : Nat → Int32) (ogl : Nat → Int32) (olo : Nat → Int32) (TL : va_W)  : Met l y_A_leaveLine (.code y_A_leaveLine b_A_leaveLine 1 none :: tb) ({ frames := 1, cells := 0, slots := 0, locals := 25 }) (pM D cI cJ cZ cB (aW cI cJ cZ cB g0 g1 g2 g3 g4 g5 g6 g7 g8 g9 g10 g11 g12 g13 g14 g15 flt fln ffr sta plc edd lab lbv opr acd akd agl len lin att stp fol skd snm snu byt ncn nsy nns nvs ntd lvs ltd ocn opl owd oln okd ogl olo TL) sz [.ref g0]) (qV D (fun u => u = f_A_leaveLine lab lbv lvs ltd) (fun (u : (Nat → Int32) × (Nat → Int32)) => match u with | (u_lvs, u_ltd) => (aW cI cJ cZ cB g0 g1 g2 g3 g4 g5 g6 g7 g8 g9 g10 g11 g12 g13 g14 g15 flt fln ffr sta plc edd lab lbv opr acd akd agl len lin att stp fol skd snm snu byt ncn nsy nns nvs ntd u_lvs u_ltd ocn opl owd oln okd ogl olo TL)) (va_A (aW cI cJ cZ cB g0 g1 g2 g3 g4 g5 g6 g7 g8 g9 g10 g11 g12 g13 g14 g15 flt fln ffr sta plc edd lab lbv opr acd akd agl len lin att stp fol skd snm snu byt ncn nsy nns nvs ntd lvs ltd ocn opl owd oln okd ogl olo TL) sz)) 0 0 (va_A (aW cI cJ cZ cB g0 g1 g2 g3 g4 g5 g6 g7 g8 g9 g10 g11 g12 g13 g14 g15 flt fln ffr sta plc edd lab lbv opr acd akd agl len lin att stp fol skd snm snu byt ncn nsy nns nvs ntd lvs ltd ocn opl owd oln okd ogl olo TL) sz) := by
  refine Met.ofW (cc := b_A_leaveLine) (maxL := 1) (ret := none) (by decide) rfl ?_
  intro p e s m args below meth c s₁ B hml hv
  obtain ⟨rfl, hsz, hK, hP, hD0⟩ := hv
  subst hsz
  have hD := hD0.self (sz := s.heap.size)
  generalize hAe : va_A (aW cI cJ cZ cB g0 g1 g2 g3 g4 g5 g6 g7 g8 g9 g10 g11 g12 g13 g14 g15 flt fln ffr sta plc edd lab lbv opr acd akd agl len lin att stp fol skd snm snu byt ncn nsy nns nvs ntd lvs ltd ocn opl owd oln okd ogl olo TL) s.heap.size = A at hD ⊢
  have hA : ∀ q : Nat, s.heap.size ≤ q → A q := fun q h => by rw [← hAe]; exact Or.inr h
  have hS : va_S A s.heap s.heap [] := va_S.rf
  have hx := B.exec
  have hb := B.bytes
  have hr := B.returns
  have hts := atoms_spec (ws := .code y_A_leaveLine b_A_leaveLine 1 none :: tb) B.pre
  have hk : ∀ w ∈ tb, w.before [.ref g0].toArray s = true := fun w h => hts w (List.mem_cons_of_mem _ h)
  have hown : s.vm.findClass "SignMachine$Assembler" = some m.cls := findClass_of_methodNamed B.named
  have hlocks := B.notSynchronized
  have hl := lv_entry ([.ref g0]) (n := 1) (Nat.le_of_ble_eq_true rfl)
  rw [lg_entry_eq]
  generalize (lg_sl ([.ref g0]) ++ List.replicate (1 - (lg_sl ([.ref g0])).length) Slot.unset).toArray = ls at hl ⊢
  have hl : lv_has ls 1 [(0, .ref g0)] := hl
  refine lv_aload_n hx hb d_A_leaveLine_0 rfl (lv_at hl 0 rfl) ?_
  refine va_get (D := D) (ci := 3) (v := .ref g3) (C := "SignMachine$Assembler") (T := F_A) (N := 15) hx hb hk fi_A hown hK.1 hP 0 rfl rfl 1 (by decide) (hk _ k_633) (fun _ h9 => h9) rfl d_A_leaveLine_1 ?_
  refine lv_aload_n hx hb d_A_leaveLine_4 rfl (lv_at hl 0 rfl) ?_
  refine va_get (D := D) (ci := 3) (v := .long lab) (C := "SignMachine$Assembler") (T := F_A) (N := 15) hx hb hk fi_A hown hK.1 hP 0 rfl rfl 9 (by decide) (hk _ k_646) (fun _ h9 => h9) rfl d_A_leaveLine_5 ?_
  refine lv_bipush (v := 8) hx hb d_A_leaveLine_8 (by decide) ?_
  refine cs_i (W.runS (As := [.long lab, .int (8 : Int32)]) (rest := [.ref g3]) ⟨hx, hb, hml, hown, hk⟩ (c_N_localDigit l lab (8 : Int32)) (s_N_localDigit hk k_771 ⟨Nat.le_of_ble_eq_true rfl, Nat.le_of_ble_eq_true rfl⟩) ⟨fun a U g mk q => q, fun U hU hW => ⟨rfl, trivial⟩⟩ rfl rfl hl.1 rfl (lv_room (Nat.le_of_ble_eq_true rfl)) d_A_leaveLine_10 ⟨Nat.le_of_ble_eq_true rfl, Nat.le_of_ble_eq_true rfl⟩) ?_
  refine lv_aload_n hx hb d_A_leaveLine_13 rfl (lv_at hl 0 rfl) ?_
  refine va_get (D := D) (ci := 3) (v := .int lbv) (C := "SignMachine$Assembler") (T := F_A) (N := 15) hx hb hk fi_A hown hK.1 hP 0 rfl rfl 10 (by decide) (hk _ k_647) (fun _ h9 => h9) rfl d_A_leaveLine_14 ?_
  refine ca_v (va_runV (C := "SignMachine$Names") (As := [.int (f_N_localDigit lab (8 : Int32)), .int lbv]) (rest := []) ⟨hx, hb, hml, hown, hk⟩ (c_N_tellLocal l D cI cJ cZ cB g0 g1 g2 g3 g4 g5 g6 g7 g8 g9 g10 g11 g12 g13 g14 g15 s.heap.size flt fln ffr sta plc edd lab lbv opr acd akd agl len lin att stp fol skd snm snu byt ncn nsy nns nvs ntd lvs ltd ocn opl owd oln okd ogl olo TL (f_N_localDigit lab (8 : Int32)) lbv) (v_N_tellLocal hk k_1070 ⟨Nat.le_of_ble_eq_true rfl, Nat.le_of_ble_eq_true rfl⟩) (pM_v hK hP hD (ci := 5) (q0 := 3) rfl rfl rfl) rfl rfl hl.1 rfl (lv_room (Nat.le_of_ble_eq_true rfl)) d_A_leaveLine_17 ⟨Nat.le_of_ble_eq_true rfl, Nat.le_of_ble_eq_true rfl⟩) hS hA hD (fun u H locs hz1 hP hS => ?_)
  obtain ⟨lvsz1, ltdz1⟩ := u
  have hP : va_P D classes (aW cI cJ cZ cB g0 g1 g2 g3 g4 g5 g6 g7 g8 g9 g10 g11 g12 g13 g14 g15 flt fln ffr sta plc edd lab lbv opr acd akd agl len lin att stp fol skd snm snu byt ncn nsy nns nvs ntd lvsz1 ltdz1 ocn opl owd oln okd ogl olo TL) H := hP
  have hD : va_D A (aW cI cJ cZ cB g0 g1 g2 g3 g4 g5 g6 g7 g8 g9 g10 g11 g12 g13 g14 g15 flt fln ffr sta plc edd lab lbv opr acd akd agl len lin att stp fol skd snm snu byt ncn nsy nns nvs ntd lvsz1 ltdz1 ocn opl owd oln okd ogl olo TL) := dsame hD rfl
  try dsimp only at hz1
  exact W.vret hx hb hr (fun t ht hW => ⟨⟨(lvsz1, ltdz1), rfl, by simp only [f_A_leaveLine, ← hz1], by show va_P D classes _ t.heap; rw [ht]; exact hP⟩, hS.F ht⟩) hS.2.2 d_A_leaveLine_20
theorem v_A_leaveLine {R : Room} {s : State} {args : Array Value} {own : String} {index : Nat} (hk : ∀ w ∈ tb, w.before args s = true) (hl : Cond.methodLink own index y_A_leaveLine ∈ tb) (hR : 1 + 1 ≤ R.frames ∧ 8 + (1 + 11) + 25 ≤ R.locals) : CallW R s args own "SignMachine$Assembler" index y_A_leaveLine b_A_leaveLine 1 none (.code y_A_leaveLine b_A_leaveLine 1 none :: tb) ({ frames := 1, cells := 0, slots := 0, locals := 25 }) 0 0 0 := mk_v 0 hk k_1069 hl k_1067 k_1068 k_123 rfl rfl h_A_leaveLine hR
def f_A_takeLiteral (flt : Int32) (fln : Int32) (akd : Int32) (agl : Int32) (lin : Int32) (att : Int32) (stp : Int32) (byt : Nat → Int32) (ncn : Int32) (nsy : Int32) (nns : Nat → Int64) (nvs : Nat → Int32) (ntd : Nat → Int32) (a1 : Int32) : (Int32) × (Int32) × (Int32) × (Int32) × (Int32) × (Int32) × (Nat → Int64) × (Nat → Int32) × (Nat → Int32) := (match (f_R_takes att stp byt (61 : Int32)) with | (rz1, attz1) => (if rz1 = (0 : Int32) then (match (f_A_fail flt fln lin (1 : Int32)) with | (rz7, fltz7, flnz7) => (if fltz7 = (0 : Int32) then (match (f_N_addLiteral ncn nsy nns nvs ntd a1) with | (rz9, ncnz9, nnsz9, nvsz9, ntdz9) => (if (0 : Int32) ≤ rz9 then (fltz7, flnz7, (1 : Int32), rz9, attz1, ncnz9, nnsz9, nvsz9, ntdz9) else (match (f_A_fail fltz7 flnz7 lin (5 : Int32)) with | (rz11, fltz11, flnz11) => (fltz11, flnz11, (1 : Int32), rz9, attz1, ncnz9, nnsz9, nvsz9, ntdz9)))) else (fltz7, flnz7, akd, agl, attz1, ncn, nns, nvs, ntd))) else (if flt = (0 : Int32) then (match (f_N_addLiteral ncn nsy nns nvs ntd a1) with | (rz4, ncnz4, nnsz4, nvsz4, ntdz4) => (if (0 : Int32) ≤ rz4 then (flt, fln, (1 : Int32), rz4, attz1, ncnz4, nnsz4, nvsz4, ntdz4) else (match (f_A_fail flt fln lin (5 : Int32)) with | (rz6, fltz6, flnz6) => (fltz6, flnz6, (1 : Int32), rz4, attz1, ncnz4, nnsz4, nvsz4, ntdz4)))) else (flt, fln, akd, agl, attz1, ncn, nns, nvs, ntd))))
set_option maxHeartbeats 4000000 in
set_option maxRecDepth 100000 in
theorem c_A_takeLiteral (l : Launch) (D : va_G) (cI cJ cZ cB : ClassId) (g0 g1 g2 g3 g4 g5 g6 g7 g8 g9 g10 g11 g12 g13 g14 g15 : Nat) (sz : Nat) (flt : Int32) (fln : Int32) (ffr : Int32) (sta : Int32) (plc : Int32) (edd : Int32) (lab : Int64) (lbv : Int32) (opr : Option Nat) (acd : Int32) (akd : Int32) (agl : Int32) (len : Int32) (lin : Int32) (att : Int32) (stp : Int32) (fol : Int32) (skd : Int32) (snm : Int64) (snu : Int32) (byt : Nat → Int32) (ncn : Int32) (nsy : Int32) (nns : Nat → Int64) (nvs : Nat → Int32) (ntd : Nat → Int32) (lvs : Nat → Int32) (ltd : Nat → Int32) (ocn : Int32) (opl : Nat → Int32) (owd : Nat → Int32) (oln : Nat → Int32) (okd : Nat → Int32) (ogl : Nat → Int32) (olo : Nat → Int32) (TL : va_W) (a1 : Int32) : Met l y_A_takeLiteral (.code y_A_takeLiteral b_A_takeLiteral 2 none :: tb) ({ frames := 2, cells := 0, slots := 0, locals := 44 }) (pM D cI cJ cZ cB (aW cI cJ cZ cB g0 g1 g2 g3 g4 g5 g6 g7 g8 g9 g10 g11 g12 g13 g14 g15 flt fln ffr sta plc edd lab lbv opr acd akd agl len lin att stp fol skd snm snu byt ncn nsy nns nvs ntd lvs ltd ocn opl owd oln okd ogl olo TL) sz [.ref g0, .int a1]) (qV D (fun u => u = f_A_takeLiteral flt fln akd agl lin att stp byt ncn nsy nns nvs ntd a1) (fun (u : (Int32) × (Int32) × (Int32) × (Int32) × (Int32) × (Int32) × (Nat → Int64) × (Nat → Int32) × (Nat → Int32)) => match u with | (u_flt, u_fln, u_akd, u_agl, u_att, u_ncn, u_nns, u_nvs, u_ntd) => (aW cI cJ cZ cB g0 g1 g2 g3 g4 g5 g6 g7 g8 g9 g10 g11 g12 g13 g14 g15 u_flt u_fln ffr sta plc edd lab lbv opr acd u_akd u_agl len lin u_att stp fol skd snm snu byt u_ncn nsy u_nns u_nvs u_ntd lvs ltd ocn opl owd oln okd ogl olo TL)) (va_A (aW cI cJ cZ cB g0 g1 g2 g3 g4 g5 g6 g7 g8 g9 g10 g11 g12 g13 g14 g15 flt fln ffr sta plc edd lab lbv opr acd akd agl len lin att stp fol skd snm snu byt ncn nsy nns nvs ntd lvs ltd ocn opl owd oln okd ogl olo TL) sz)) 0 0 (va_A (aW cI cJ cZ cB g0 g1 g2 g3 g4 g5 g6 g7 g8 g9 g10 g11 g12 g13 g14 g15 flt fln ffr sta plc edd lab lbv opr acd akd agl len lin att stp fol skd snm snu byt ncn nsy nns nvs ntd lvs ltd ocn opl owd oln okd ogl olo TL) sz) := by
  refine Met.ofW (cc := b_A_takeLiteral) (maxL := 2) (ret := none) (by decide) rfl ?_
  intro p e s m args below meth c s₁ B hml hv
  obtain ⟨rfl, hsz, hK, hP, hD0⟩ := hv
  subst hsz
  have hD := hD0.self (sz := s.heap.size)
  generalize hAe : va_A (aW cI cJ cZ cB g0 g1 g2 g3 g4 g5 g6 g7 g8 g9 g10 g11 g12 g13 g14 g15 flt fln ffr sta plc edd lab lbv opr acd akd agl len lin att stp fol skd snm snu byt ncn nsy nns nvs ntd lvs ltd ocn opl owd oln okd ogl olo TL) s.heap.size = A at hD ⊢
  have hA : ∀ q : Nat, s.heap.size ≤ q → A q := fun q h => by rw [← hAe]; exact Or.inr h
  have hS : va_S A s.heap s.heap [] := va_S.rf
  have hx := B.exec
  have hb := B.bytes
  have hr := B.returns
  have hts := atoms_spec (ws := .code y_A_takeLiteral b_A_takeLiteral 2 none :: tb) B.pre
  have hk : ∀ w ∈ tb, w.before [.ref g0, .int a1].toArray s = true := fun w h => hts w (List.mem_cons_of_mem _ h)
  have hown : s.vm.findClass "SignMachine$Assembler" = some m.cls := findClass_of_methodNamed B.named
  have hlocks := B.notSynchronized
  have hl := lv_entry ([.ref g0, .int a1]) (n := 2) (Nat.le_of_ble_eq_true rfl)
  rw [lg_entry_eq]
  generalize (lg_sl ([.ref g0, .int a1]) ++ List.replicate (2 - (lg_sl ([.ref g0, .int a1])).length) Slot.unset).toArray = ls at hl ⊢
  have hl : lv_has ls 2 [(0, .ref g0), (1, .int a1)] := hl
  refine lv_aload_n hx hb d_A_takeLiteral_0 rfl (lv_at hl 0 rfl) ?_
  refine va_get (D := D) (ci := 3) (v := .ref g1) (C := "SignMachine$Assembler") (T := F_A) (N := 15) hx hb hk fi_A hown hK.1 hP 0 rfl rfl 0 (by decide) (hk _ k_631) (fun _ h9 => h9) rfl d_A_takeLiteral_1 ?_
  refine lv_bipush (v := 61) hx hb d_A_takeLiteral_4 (by decide) ?_
  refine ca_i (va_runV (C := "SignMachine$Source") (As := [.int (61 : Int32)]) (rest := []) ⟨hx, hb, hml, hown, hk⟩ (c_R_takes l D cI cJ cZ cB g0 g1 g2 g3 g4 g5 g6 g7 g8 g9 g10 g11 g12 g13 g14 g15 s.heap.size flt fln ffr sta plc edd lab lbv opr acd akd agl len lin att stp fol skd snm snu byt ncn nsy nns nvs ntd lvs ltd ocn opl owd oln okd ogl olo TL (61 : Int32)) (v_R_takes hk k_954 ⟨Nat.le_of_ble_eq_true rfl, Nat.le_of_ble_eq_true rfl⟩) (pM_v hK hP hD (ci := 4) (q0 := 1) rfl rfl rfl) rfl rfl hl.1 rfl (lv_room (Nat.le_of_ble_eq_true rfl)) d_A_takeLiteral_6 ⟨Nat.le_of_ble_eq_true rfl, Nat.le_of_ble_eq_true rfl⟩) hS hA hD (fun rz1 u H locs hz1 hP hS => ?_)
  obtain ⟨attz1, hu⟩ : ∃ y, y = u := ⟨_, rfl⟩
  subst hu
  have hP : va_P D classes (aW cI cJ cZ cB g0 g1 g2 g3 g4 g5 g6 g7 g8 g9 g10 g11 g12 g13 g14 g15 flt fln ffr sta plc edd lab lbv opr acd akd agl len lin attz1 stp fol skd snm snu byt ncn nsy nns nvs ntd lvs ltd ocn opl owd oln okd ogl olo TL) H := hP
  have hD : va_D A (aW cI cJ cZ cB g0 g1 g2 g3 g4 g5 g6 g7 g8 g9 g10 g11 g12 g13 g14 g15 flt fln ffr sta plc edd lab lbv opr acd akd agl len lin attz1 stp fol skd snm snu byt ncn nsy nns nvs ntd lvs ltd ocn opl owd oln okd ogl olo TL) := dsame hD rfl
  try dsimp only at hz1
  refine lv_if_ne (tgt := 18) hx hb d_A_takeLiteral_9 (by decide) (fun c2 => ?_) (fun c2 => ?_)
  · refine lv_aload_n hx hb d_A_takeLiteral_18 rfl (lv_at hl 0 rfl) ?_
    refine va_get (D := D) (ci := 3) (v := .int flt) (C := "SignMachine$Assembler") (T := F_A) (N := 15) hx hb hk fi_A hown hK.1 hP 0 rfl rfl 3 (by decide) (hk _ k_636) (fun _ h9 => h9) rfl d_A_takeLiteral_19 ?_
    refine lv_if_eq (tgt := 26) hx hb d_A_takeLiteral_22 (by decide) (fun c3 => ?_) (fun c3 => ?_)
    · refine lv_aload_n hx hb d_A_takeLiteral_26 rfl (lv_at hl 0 rfl) ?_
      refine lv_iconst (v := 1) hx hb d_A_takeLiteral_27 (by decide) ?_
      refine va_put (D := D) (ci := 3) (v := .int (1 : Int32)) (ty := .int) (C := "SignMachine$Assembler") (T := F_A) (N := 15) hx hb hk fi_A ft_A ft_A_ok fn_A hown hK.1 hP hD hS 0 rfl rfl 13 (by decide) (hk _ k_650) (fun _ h9 => h9) rfl (by decide +kernel) rfl rfl (Nat.le_of_ble_eq_true rfl) d_A_takeLiteral_28 (fun H locs hP hD hS => ?_)
      have hP : va_P D classes (aW cI cJ cZ cB g0 g1 g2 g3 g4 g5 g6 g7 g8 g9 g10 g11 g12 g13 g14 g15 flt fln ffr sta plc edd lab lbv opr acd (1 : Int32) agl len lin attz1 stp fol skd snm snu byt ncn nsy nns nvs ntd lvs ltd ocn opl owd oln okd ogl olo TL) H := hP
      have hD : va_D A (aW cI cJ cZ cB g0 g1 g2 g3 g4 g5 g6 g7 g8 g9 g10 g11 g12 g13 g14 g15 flt fln ffr sta plc edd lab lbv opr acd (1 : Int32) agl len lin attz1 stp fol skd snm snu byt ncn nsy nns nvs ntd lvs ltd ocn opl owd oln okd ogl olo TL) := hD
      refine lv_aload_n hx hb d_A_takeLiteral_31 rfl (lv_at hl 0 rfl) ?_
      refine lv_aload_n hx hb d_A_takeLiteral_32 rfl (lv_at hl 0 rfl) ?_
      refine va_get (D := D) (ci := 3) (v := .ref g3) (C := "SignMachine$Assembler") (T := F_A) (N := 15) hx hb hk fi_A hown hK.1 hP 0 rfl rfl 1 (by decide) (hk _ k_633) (fun _ h9 => h9) rfl d_A_takeLiteral_33 ?_
      refine lv_iload_n hx hb d_A_takeLiteral_36 rfl (lv_at hl 1 rfl) ?_
      refine ca_i (va_runV (C := "SignMachine$Names") (As := [.int a1]) (rest := [.ref g0]) ⟨hx, hb, hml, hown, hk⟩ (c_N_addLiteral l D cI cJ cZ cB g0 g1 g2 g3 g4 g5 g6 g7 g8 g9 g10 g11 g12 g13 g14 g15 H.size flt fln ffr sta plc edd lab lbv opr acd (1 : Int32) agl len lin attz1 stp fol skd snm snu byt ncn nsy nns nvs ntd lvs ltd ocn opl owd oln okd ogl olo TL a1) (v_N_addLiteral hk k_1032 ⟨Nat.le_of_ble_eq_true rfl, Nat.le_of_ble_eq_true rfl⟩) (pM_v hK hP hD (ci := 5) (q0 := 3) rfl rfl rfl) rfl rfl hl.1 rfl (lv_room (Nat.le_of_ble_eq_true rfl)) d_A_takeLiteral_37 ⟨Nat.le_of_ble_eq_true rfl, Nat.le_of_ble_eq_true rfl⟩) hS hA hD (fun rz4 u H locs hz4 hP hS => ?_)
      obtain ⟨ncnz4, nnsz4, nvsz4, ntdz4⟩ := u
      have hP : va_P D classes (aW cI cJ cZ cB g0 g1 g2 g3 g4 g5 g6 g7 g8 g9 g10 g11 g12 g13 g14 g15 flt fln ffr sta plc edd lab lbv opr acd (1 : Int32) agl len lin attz1 stp fol skd snm snu byt ncnz4 nsy nnsz4 nvsz4 ntdz4 lvs ltd ocn opl owd oln okd ogl olo TL) H := hP
      have hD : va_D A (aW cI cJ cZ cB g0 g1 g2 g3 g4 g5 g6 g7 g8 g9 g10 g11 g12 g13 g14 g15 flt fln ffr sta plc edd lab lbv opr acd (1 : Int32) agl len lin attz1 stp fol skd snm snu byt ncnz4 nsy nnsz4 nvsz4 ntdz4 lvs ltd ocn opl owd oln okd ogl olo TL) := dsame hD rfl
      try dsimp only at hz4
      refine va_put (D := D) (ci := 3) (v := .int rz4) (ty := .int) (C := "SignMachine$Assembler") (T := F_A) (N := 15) hx hb hk fi_A ft_A ft_A_ok fn_A hown hK.1 hP hD hS 0 rfl rfl 14 (by decide) (hk _ k_651) (fun _ h9 => h9) rfl (by decide +kernel) rfl rfl (Nat.le_of_ble_eq_true rfl) d_A_takeLiteral_40 (fun H locs hP hD hS => ?_)
      have hP : va_P D classes (aW cI cJ cZ cB g0 g1 g2 g3 g4 g5 g6 g7 g8 g9 g10 g11 g12 g13 g14 g15 flt fln ffr sta plc edd lab lbv opr acd (1 : Int32) rz4 len lin attz1 stp fol skd snm snu byt ncnz4 nsy nnsz4 nvsz4 ntdz4 lvs ltd ocn opl owd oln okd ogl olo TL) H := hP
      have hD : va_D A (aW cI cJ cZ cB g0 g1 g2 g3 g4 g5 g6 g7 g8 g9 g10 g11 g12 g13 g14 g15 flt fln ffr sta plc edd lab lbv opr acd (1 : Int32) rz4 len lin attz1 stp fol skd snm snu byt ncnz4 nsy nnsz4 nvsz4 ntdz4 lvs ltd ocn opl owd oln okd ogl olo TL) := hD
      refine lv_aload_n hx hb d_A_takeLiteral_43 rfl (lv_at hl 0 rfl) ?_
      refine va_get (D := D) (ci := 3) (v := .int rz4) (C := "SignMachine$Assembler") (T := F_A) (N := 15) hx hb hk fi_A hown hK.1 hP 0 rfl rfl 14 (by decide) (hk _ k_651) (fun _ h9 => h9) rfl d_A_takeLiteral_44 ?_
      refine lv_if_ge (tgt := 56) hx hb d_A_takeLiteral_47 (by decide) (fun c5 => ?_) (fun c5 => ?_)
      · exact W.vret hx hb hr (fun t ht hW => ⟨⟨(flt, fln, (1 : Int32), rz4, attz1, ncnz4, nnsz4, nvsz4, ntdz4), rfl, by simp only [f_A_takeLiteral, ← hz1, if_neg c2, if_pos c3, ← hz4, if_pos c5], by show va_P D classes _ t.heap; rw [ht]; exact hP⟩, hS.F ht⟩) hS.2.2 d_A_takeLiteral_56
      · refine lv_aload_n hx hb d_A_takeLiteral_50 rfl (lv_at hl 0 rfl) ?_
        refine lv_iconst (v := 5) hx hb d_A_takeLiteral_51 (by decide) ?_
        refine ca_i (va_runV (C := "SignMachine$Assembler") (As := [.int (5 : Int32)]) (rest := []) ⟨hx, hb, hml, hown, hk⟩ (c_A_fail l D cI cJ cZ cB g0 g1 g2 g3 g4 g5 g6 g7 g8 g9 g10 g11 g12 g13 g14 g15 H.size flt fln ffr sta plc edd lab lbv opr acd (1 : Int32) rz4 len lin attz1 stp fol skd snm snu byt ncnz4 nsy nnsz4 nvsz4 ntdz4 lvs ltd ocn opl owd oln okd ogl olo TL (5 : Int32)) (v_A_fail hk k_767 ⟨Nat.le_of_ble_eq_true rfl, Nat.le_of_ble_eq_true rfl⟩) (pM_v hK hP hD (ci := 3) (q0 := 0) rfl rfl rfl) rfl rfl hl.1 rfl (lv_room (Nat.le_of_ble_eq_true rfl)) d_A_takeLiteral_52 ⟨Nat.le_of_ble_eq_true rfl, Nat.le_of_ble_eq_true rfl⟩) hS hA hD (fun rz6 u H locs hz6 hP hS => ?_)
        obtain ⟨fltz6, flnz6⟩ := u
        have hP : va_P D classes (aW cI cJ cZ cB g0 g1 g2 g3 g4 g5 g6 g7 g8 g9 g10 g11 g12 g13 g14 g15 fltz6 flnz6 ffr sta plc edd lab lbv opr acd (1 : Int32) rz4 len lin attz1 stp fol skd snm snu byt ncnz4 nsy nnsz4 nvsz4 ntdz4 lvs ltd ocn opl owd oln okd ogl olo TL) H := hP
        have hD : va_D A (aW cI cJ cZ cB g0 g1 g2 g3 g4 g5 g6 g7 g8 g9 g10 g11 g12 g13 g14 g15 fltz6 flnz6 ffr sta plc edd lab lbv opr acd (1 : Int32) rz4 len lin attz1 stp fol skd snm snu byt ncnz4 nsy nnsz4 nvsz4 ntdz4 lvs ltd ocn opl owd oln okd ogl olo TL) := dsame hD rfl
        try dsimp only at hz6
        refine lv_pop hx hb d_A_takeLiteral_55 rfl ?_
        exact W.vret hx hb hr (fun t ht hW => ⟨⟨(fltz6, flnz6, (1 : Int32), rz4, attz1, ncnz4, nnsz4, nvsz4, ntdz4), rfl, by simp only [f_A_takeLiteral, ← hz1, if_neg c2, if_pos c3, ← hz4, if_neg c5, ← hz6], by show va_P D classes _ t.heap; rw [ht]; exact hP⟩, hS.F ht⟩) hS.2.2 d_A_takeLiteral_56
    · exact W.vret hx hb hr (fun t ht hW => ⟨⟨(flt, fln, akd, agl, attz1, ncn, nns, nvs, ntd), rfl, by simp only [f_A_takeLiteral, ← hz1, if_neg c2, if_neg c3], by show va_P D classes _ t.heap; rw [ht]; exact hP⟩, hS.F ht⟩) hS.2.2 d_A_takeLiteral_25
  · refine lv_aload_n hx hb d_A_takeLiteral_12 rfl (lv_at hl 0 rfl) ?_
    refine lv_iconst (v := 1) hx hb d_A_takeLiteral_13 (by decide) ?_
    refine ca_i (va_runV (C := "SignMachine$Assembler") (As := [.int (1 : Int32)]) (rest := []) ⟨hx, hb, hml, hown, hk⟩ (c_A_fail l D cI cJ cZ cB g0 g1 g2 g3 g4 g5 g6 g7 g8 g9 g10 g11 g12 g13 g14 g15 H.size flt fln ffr sta plc edd lab lbv opr acd akd agl len lin attz1 stp fol skd snm snu byt ncn nsy nns nvs ntd lvs ltd ocn opl owd oln okd ogl olo TL (1 : Int32)) (v_A_fail hk k_767 ⟨Nat.le_of_ble_eq_true rfl, Nat.le_of_ble_eq_true rfl⟩) (pM_v hK hP hD (ci := 3) (q0 := 0) rfl rfl rfl) rfl rfl hl.1 rfl (lv_room (Nat.le_of_ble_eq_true rfl)) d_A_takeLiteral_14 ⟨Nat.le_of_ble_eq_true rfl, Nat.le_of_ble_eq_true rfl⟩) hS hA hD (fun rz7 u H locs hz7 hP hS => ?_)
    obtain ⟨fltz7, flnz7⟩ := u
    have hP : va_P D classes (aW cI cJ cZ cB g0 g1 g2 g3 g4 g5 g6 g7 g8 g9 g10 g11 g12 g13 g14 g15 fltz7 flnz7 ffr sta plc edd lab lbv opr acd akd agl len lin attz1 stp fol skd snm snu byt ncn nsy nns nvs ntd lvs ltd ocn opl owd oln okd ogl olo TL) H := hP
    have hD : va_D A (aW cI cJ cZ cB g0 g1 g2 g3 g4 g5 g6 g7 g8 g9 g10 g11 g12 g13 g14 g15 fltz7 flnz7 ffr sta plc edd lab lbv opr acd akd agl len lin attz1 stp fol skd snm snu byt ncn nsy nns nvs ntd lvs ltd ocn opl owd oln okd ogl olo TL) := dsame hD rfl
    try dsimp only at hz7
    refine lv_pop hx hb d_A_takeLiteral_17 rfl ?_
    refine lv_aload_n hx hb d_A_takeLiteral_18 rfl (lv_at hl 0 rfl) ?_
    refine va_get (D := D) (ci := 3) (v := .int fltz7) (C := "SignMachine$Assembler") (T := F_A) (N := 15) hx hb hk fi_A hown hK.1 hP 0 rfl rfl 3 (by decide) (hk _ k_636) (fun _ h9 => h9) rfl d_A_takeLiteral_19 ?_
    refine lv_if_eq (tgt := 26) hx hb d_A_takeLiteral_22 (by decide) (fun c8 => ?_) (fun c8 => ?_)
    · refine lv_aload_n hx hb d_A_takeLiteral_26 rfl (lv_at hl 0 rfl) ?_
      refine lv_iconst (v := 1) hx hb d_A_takeLiteral_27 (by decide) ?_
      refine va_put (D := D) (ci := 3) (v := .int (1 : Int32)) (ty := .int) (C := "SignMachine$Assembler") (T := F_A) (N := 15) hx hb hk fi_A ft_A ft_A_ok fn_A hown hK.1 hP hD hS 0 rfl rfl 13 (by decide) (hk _ k_650) (fun _ h9 => h9) rfl (by decide +kernel) rfl rfl (Nat.le_of_ble_eq_true rfl) d_A_takeLiteral_28 (fun H locs hP hD hS => ?_)
      have hP : va_P D classes (aW cI cJ cZ cB g0 g1 g2 g3 g4 g5 g6 g7 g8 g9 g10 g11 g12 g13 g14 g15 fltz7 flnz7 ffr sta plc edd lab lbv opr acd (1 : Int32) agl len lin attz1 stp fol skd snm snu byt ncn nsy nns nvs ntd lvs ltd ocn opl owd oln okd ogl olo TL) H := hP
      have hD : va_D A (aW cI cJ cZ cB g0 g1 g2 g3 g4 g5 g6 g7 g8 g9 g10 g11 g12 g13 g14 g15 fltz7 flnz7 ffr sta plc edd lab lbv opr acd (1 : Int32) agl len lin attz1 stp fol skd snm snu byt ncn nsy nns nvs ntd lvs ltd ocn opl owd oln okd ogl olo TL) := hD
      refine lv_aload_n hx hb d_A_takeLiteral_31 rfl (lv_at hl 0 rfl) ?_
      refine lv_aload_n hx hb d_A_takeLiteral_32 rfl (lv_at hl 0 rfl) ?_
      refine va_get (D := D) (ci := 3) (v := .ref g3) (C := "SignMachine$Assembler") (T := F_A) (N := 15) hx hb hk fi_A hown hK.1 hP 0 rfl rfl 1 (by decide) (hk _ k_633) (fun _ h9 => h9) rfl d_A_takeLiteral_33 ?_
      refine lv_iload_n hx hb d_A_takeLiteral_36 rfl (lv_at hl 1 rfl) ?_
      refine ca_i (va_runV (C := "SignMachine$Names") (As := [.int a1]) (rest := [.ref g0]) ⟨hx, hb, hml, hown, hk⟩ (c_N_addLiteral l D cI cJ cZ cB g0 g1 g2 g3 g4 g5 g6 g7 g8 g9 g10 g11 g12 g13 g14 g15 H.size fltz7 flnz7 ffr sta plc edd lab lbv opr acd (1 : Int32) agl len lin attz1 stp fol skd snm snu byt ncn nsy nns nvs ntd lvs ltd ocn opl owd oln okd ogl olo TL a1) (v_N_addLiteral hk k_1032 ⟨Nat.le_of_ble_eq_true rfl, Nat.le_of_ble_eq_true rfl⟩) (pM_v hK hP hD (ci := 5) (q0 := 3) rfl rfl rfl) rfl rfl hl.1 rfl (lv_room (Nat.le_of_ble_eq_true rfl)) d_A_takeLiteral_37 ⟨Nat.le_of_ble_eq_true rfl, Nat.le_of_ble_eq_true rfl⟩) hS hA hD (fun rz9 u H locs hz9 hP hS => ?_)
      obtain ⟨ncnz9, nnsz9, nvsz9, ntdz9⟩ := u
      have hP : va_P D classes (aW cI cJ cZ cB g0 g1 g2 g3 g4 g5 g6 g7 g8 g9 g10 g11 g12 g13 g14 g15 fltz7 flnz7 ffr sta plc edd lab lbv opr acd (1 : Int32) agl len lin attz1 stp fol skd snm snu byt ncnz9 nsy nnsz9 nvsz9 ntdz9 lvs ltd ocn opl owd oln okd ogl olo TL) H := hP
      have hD : va_D A (aW cI cJ cZ cB g0 g1 g2 g3 g4 g5 g6 g7 g8 g9 g10 g11 g12 g13 g14 g15 fltz7 flnz7 ffr sta plc edd lab lbv opr acd (1 : Int32) agl len lin attz1 stp fol skd snm snu byt ncnz9 nsy nnsz9 nvsz9 ntdz9 lvs ltd ocn opl owd oln okd ogl olo TL) := dsame hD rfl
      try dsimp only at hz9
      refine va_put (D := D) (ci := 3) (v := .int rz9) (ty := .int) (C := "SignMachine$Assembler") (T := F_A) (N := 15) hx hb hk fi_A ft_A ft_A_ok fn_A hown hK.1 hP hD hS 0 rfl rfl 14 (by decide) (hk _ k_651) (fun _ h9 => h9) rfl (by decide +kernel) rfl rfl (Nat.le_of_ble_eq_true rfl) d_A_takeLiteral_40 (fun H locs hP hD hS => ?_)
      have hP : va_P D classes (aW cI cJ cZ cB g0 g1 g2 g3 g4 g5 g6 g7 g8 g9 g10 g11 g12 g13 g14 g15 fltz7 flnz7 ffr sta plc edd lab lbv opr acd (1 : Int32) rz9 len lin attz1 stp fol skd snm snu byt ncnz9 nsy nnsz9 nvsz9 ntdz9 lvs ltd ocn opl owd oln okd ogl olo TL) H := hP
      have hD : va_D A (aW cI cJ cZ cB g0 g1 g2 g3 g4 g5 g6 g7 g8 g9 g10 g11 g12 g13 g14 g15 fltz7 flnz7 ffr sta plc edd lab lbv opr acd (1 : Int32) rz9 len lin attz1 stp fol skd snm snu byt ncnz9 nsy nnsz9 nvsz9 ntdz9 lvs ltd ocn opl owd oln okd ogl olo TL) := hD
      refine lv_aload_n hx hb d_A_takeLiteral_43 rfl (lv_at hl 0 rfl) ?_
      refine va_get (D := D) (ci := 3) (v := .int rz9) (C := "SignMachine$Assembler") (T := F_A) (N := 15) hx hb hk fi_A hown hK.1 hP 0 rfl rfl 14 (by decide) (hk _ k_651) (fun _ h9 => h9) rfl d_A_takeLiteral_44 ?_
      refine lv_if_ge (tgt := 56) hx hb d_A_takeLiteral_47 (by decide) (fun c10 => ?_) (fun c10 => ?_)
      · exact W.vret hx hb hr (fun t ht hW => ⟨⟨(fltz7, flnz7, (1 : Int32), rz9, attz1, ncnz9, nnsz9, nvsz9, ntdz9), rfl, by simp only [f_A_takeLiteral, ← hz1, if_pos c2, ← hz7, if_pos c8, ← hz9, if_pos c10], by show va_P D classes _ t.heap; rw [ht]; exact hP⟩, hS.F ht⟩) hS.2.2 d_A_takeLiteral_56
      · refine lv_aload_n hx hb d_A_takeLiteral_50 rfl (lv_at hl 0 rfl) ?_
        refine lv_iconst (v := 5) hx hb d_A_takeLiteral_51 (by decide) ?_
        refine ca_i (va_runV (C := "SignMachine$Assembler") (As := [.int (5 : Int32)]) (rest := []) ⟨hx, hb, hml, hown, hk⟩ (c_A_fail l D cI cJ cZ cB g0 g1 g2 g3 g4 g5 g6 g7 g8 g9 g10 g11 g12 g13 g14 g15 H.size fltz7 flnz7 ffr sta plc edd lab lbv opr acd (1 : Int32) rz9 len lin attz1 stp fol skd snm snu byt ncnz9 nsy nnsz9 nvsz9 ntdz9 lvs ltd ocn opl owd oln okd ogl olo TL (5 : Int32)) (v_A_fail hk k_767 ⟨Nat.le_of_ble_eq_true rfl, Nat.le_of_ble_eq_true rfl⟩) (pM_v hK hP hD (ci := 3) (q0 := 0) rfl rfl rfl) rfl rfl hl.1 rfl (lv_room (Nat.le_of_ble_eq_true rfl)) d_A_takeLiteral_52 ⟨Nat.le_of_ble_eq_true rfl, Nat.le_of_ble_eq_true rfl⟩) hS hA hD (fun rz11 u H locs hz11 hP hS => ?_)
        obtain ⟨fltz11, flnz11⟩ := u
        have hP : va_P D classes (aW cI cJ cZ cB g0 g1 g2 g3 g4 g5 g6 g7 g8 g9 g10 g11 g12 g13 g14 g15 fltz11 flnz11 ffr sta plc edd lab lbv opr acd (1 : Int32) rz9 len lin attz1 stp fol skd snm snu byt ncnz9 nsy nnsz9 nvsz9 ntdz9 lvs ltd ocn opl owd oln okd ogl olo TL) H := hP
        have hD : va_D A (aW cI cJ cZ cB g0 g1 g2 g3 g4 g5 g6 g7 g8 g9 g10 g11 g12 g13 g14 g15 fltz11 flnz11 ffr sta plc edd lab lbv opr acd (1 : Int32) rz9 len lin attz1 stp fol skd snm snu byt ncnz9 nsy nnsz9 nvsz9 ntdz9 lvs ltd ocn opl owd oln okd ogl olo TL) := dsame hD rfl
        try dsimp only at hz11
        refine lv_pop hx hb d_A_takeLiteral_55 rfl ?_
        exact W.vret hx hb hr (fun t ht hW => ⟨⟨(fltz11, flnz11, (1 : Int32), rz9, attz1, ncnz9, nnsz9, nvsz9, ntdz9), rfl, by simp only [f_A_takeLiteral, ← hz1, if_pos c2, ← hz7, if_pos c8, ← hz9, if_neg c10, ← hz11], by show va_P D classes _ t.heap; rw [ht]; exact hP⟩, hS.F ht⟩) hS.2.2 d_A_takeLiteral_56
    · exact W.vret hx hb hr (fun t ht hW => ⟨⟨(fltz7, flnz7, akd, agl, attz1, ncn, nns, nvs, ntd), rfl, by simp only [f_A_takeLiteral, ← hz1, if_pos c2, ← hz7, if_neg c8], by show va_P D classes _ t.heap; rw [ht]; exact hP⟩, hS.F ht⟩) hS.2.2 d_A_takeLiteral_25
theorem v_A_takeLiteral {R : Room} {s : State} {args : Array Value} {own : String} {index : Nat} (hk : ∀ w ∈ tb, w.before args s = true) (hl : Cond.methodLink own index y_A_takeLiteral ∈ tb) (hR : 2 + 1 ≤ R.frames ∧ 8 + (2 + 11) + 44 ≤ R.locals) : CallW R s args own "SignMachine$Assembler" index y_A_takeLiteral b_A_takeLiteral 2 none (.code y_A_takeLiteral b_A_takeLiteral 2 none :: tb) ({ frames := 2, cells := 0, slots := 0, locals := 44 }) 0 0 1 := mk_v 1 hk k_1031 hl k_1030 k_52 k_123 rfl rfl h_A_takeLiteral hR
def f_A_isLaterSymbol (flt : Int32) (fln : Int32) (agl : Int32) (lin : Int32) (ncn : Int32) (nsy : Int32) (nns : Nat → Int64) (nvs : Nat → Int32) (ntd : Nat → Int32) (a1 : Int64) : Int32 × (Int32) × (Int32) × (Int32) × (Int32) × (Int32) × (Nat → Int64) × (Nat → Int32) × (Nat → Int32) := (if (0 : Int32) ≤ (f_N_localDigit a1 (2 : Int32)) then ((0 : Int32), flt, fln, agl, ncn, nsy, nns, nvs, ntd) else (if (f_N_localDigit a1 (8 : Int32)) < (0 : Int32) then (if (bI (f_N_isTold ntd (f_N_find ncn nns a1))) = (0 : Int32) then (if (0 : Int32) ≤ (f_N_find ncn nns a1) then ((1 : Int32), flt, fln, (f_N_find ncn nns a1), ncn, nsy, nns, nvs, ntd) else (match (f_N_addSymbol ncn nsy nns nvs ntd a1) with | (rz6, ncnz6, nsyz6, nnsz6, nvsz6, ntdz6) => (if (0 : Int32) ≤ rz6 then ((1 : Int32), flt, fln, rz6, ncnz6, nsyz6, nnsz6, nvsz6, ntdz6) else (match (f_A_fail flt fln lin (5 : Int32)) with | (rz8, fltz8, flnz8) => ((1 : Int32), fltz8, flnz8, rz6, ncnz6, nsyz6, nnsz6, nvsz6, ntdz6))))) else ((0 : Int32), flt, fln, (f_N_find ncn nns a1), ncn, nsy, nns, nvs, ntd)) else ((0 : Int32), flt, fln, agl, ncn, nsy, nns, nvs, ntd)))
set_option maxHeartbeats 4000000 in
set_option maxRecDepth 100000 in
theorem c_A_isLaterSymbol (l : Launch) (D : va_G) (cI cJ cZ cB : ClassId) (g0 g1 g2 g3 g4 g5 g6 g7 g8 g9 g10 g11 g12 g13 g14 g15 : Nat) (sz : Nat) (flt : Int32) (fln : Int32) (ffr : Int32) (sta : Int32) (plc : Int32) (edd : Int32) (lab : Int64) (lbv : Int32) (opr : Option Nat) (acd : Int32) (akd : Int32) (agl : Int32) (len : Int32) (lin : Int32) (att : Int32) (stp : Int32) (fol : Int32) (skd : Int32) (snm : Int64) (snu : Int32) (byt : Nat → Int32) (ncn : Int32) (nsy : Int32) (nns : Nat → Int64) (nvs : Nat → Int32) (ntd : Nat → Int32) (lvs : Nat → Int32) (ltd : Nat → Int32) (ocn : Int32) (opl : Nat → Int32) (owd : Nat → Int32) (oln : Nat → Int32) (okd : Nat → Int32) (ogl : Nat → Int32) (olo : Nat → Int32) (TL : va_W) (a1 : Int64) : Met l y_A_isLaterSymbol (.code y_A_isLaterSymbol b_A_isLaterSymbol 3 (some .boolean) :: tb) ({ frames := 2, cells := 0, slots := 0, locals := 45 }) (pM D cI cJ cZ cB (aW cI cJ cZ cB g0 g1 g2 g3 g4 g5 g6 g7 g8 g9 g10 g11 g12 g13 g14 g15 flt fln ffr sta plc edd lab lbv opr acd akd agl len lin att stp fol skd snm snu byt ncn nsy nns nvs ntd lvs ltd ocn opl owd oln okd ogl olo TL) sz [.ref g0, .long a1]) (qI D (fun r u => (r, u) = f_A_isLaterSymbol flt fln agl lin ncn nsy nns nvs ntd a1) (fun (u : (Int32) × (Int32) × (Int32) × (Int32) × (Int32) × (Nat → Int64) × (Nat → Int32) × (Nat → Int32)) => match u with | (u_flt, u_fln, u_agl, u_ncn, u_nsy, u_nns, u_nvs, u_ntd) => (aW cI cJ cZ cB g0 g1 g2 g3 g4 g5 g6 g7 g8 g9 g10 g11 g12 g13 g14 g15 u_flt u_fln ffr sta plc edd lab lbv opr acd akd u_agl len lin att stp fol skd snm snu byt u_ncn u_nsy u_nns u_nvs u_ntd lvs ltd ocn opl owd oln okd ogl olo TL)) (va_A (aW cI cJ cZ cB g0 g1 g2 g3 g4 g5 g6 g7 g8 g9 g10 g11 g12 g13 g14 g15 flt fln ffr sta plc edd lab lbv opr acd akd agl len lin att stp fol skd snm snu byt ncn nsy nns nvs ntd lvs ltd ocn opl owd oln okd ogl olo TL) sz)) 0 0 (va_A (aW cI cJ cZ cB g0 g1 g2 g3 g4 g5 g6 g7 g8 g9 g10 g11 g12 g13 g14 g15 flt fln ffr sta plc edd lab lbv opr acd akd agl len lin att stp fol skd snm snu byt ncn nsy nns nvs ntd lvs ltd ocn opl owd oln okd ogl olo TL) sz) := by
  refine Met.ofW (cc := b_A_isLaterSymbol) (maxL := 3) (ret := (some .boolean)) (by decide) rfl ?_
  intro p e s m args below meth c s₁ B hml hv
  obtain ⟨rfl, hsz, hK, hP, hD0⟩ := hv
  subst hsz
  have hD := hD0.self (sz := s.heap.size)
  generalize hAe : va_A (aW cI cJ cZ cB g0 g1 g2 g3 g4 g5 g6 g7 g8 g9 g10 g11 g12 g13 g14 g15 flt fln ffr sta plc edd lab lbv opr acd akd agl len lin att stp fol skd snm snu byt ncn nsy nns nvs ntd lvs ltd ocn opl owd oln okd ogl olo TL) s.heap.size = A at hD ⊢
  have hA : ∀ q : Nat, s.heap.size ≤ q → A q := fun q h => by rw [← hAe]; exact Or.inr h
  have hS : va_S A s.heap s.heap [] := va_S.rf
  have hx := B.exec
  have hb := B.bytes
  have hr := B.returns
  have hts := atoms_spec (ws := .code y_A_isLaterSymbol b_A_isLaterSymbol 3 (some .boolean) :: tb) B.pre
  have hk : ∀ w ∈ tb, w.before [.ref g0, .long a1].toArray s = true := fun w h => hts w (List.mem_cons_of_mem _ h)
  have hown : s.vm.findClass "SignMachine$Assembler" = some m.cls := findClass_of_methodNamed B.named
  have hlocks := B.notSynchronized
  have hl := lv_entry ([.ref g0, .long a1]) (n := 3) (Nat.le_of_ble_eq_true rfl)
  rw [lg_entry_eq]
  generalize (lg_sl ([.ref g0, .long a1]) ++ List.replicate (3 - (lg_sl ([.ref g0, .long a1])).length) Slot.unset).toArray = ls at hl ⊢
  have hl : lv_has ls 3 [(0, .ref g0), (1, .long a1)] := hl
  refine lv_lload_n hx hb d_A_isLaterSymbol_0 rfl (lv_at hl 1 rfl) ?_
  refine lv_iconst (v := 2) hx hb d_A_isLaterSymbol_1 (by decide) ?_
  refine cs_i (W.runS (As := [.long a1, .int (2 : Int32)]) (rest := []) ⟨hx, hb, hml, hown, hk⟩ (c_N_localDigit l a1 (2 : Int32)) (s_N_localDigit hk k_771 ⟨Nat.le_of_ble_eq_true rfl, Nat.le_of_ble_eq_true rfl⟩) ⟨fun a U g mk q => q, fun U hU hW => ⟨rfl, trivial⟩⟩ rfl rfl hl.1 rfl (lv_room (Nat.le_of_ble_eq_true rfl)) d_A_isLaterSymbol_2 ⟨Nat.le_of_ble_eq_true rfl, Nat.le_of_ble_eq_true rfl⟩) ?_
  refine lv_if_ge (tgt := 17) hx hb d_A_isLaterSymbol_5 (by decide) (fun c1 => ?_) (fun c1 => ?_)
  · refine lv_iconst (v := 0) hx hb d_A_isLaterSymbol_17 (by decide) ?_
    exact W.zret (v := (0 : Int32)) hx hb hr rfl (fun t ht hW => ⟨⟨(0 : Int32), (flt, fln, agl, ncn, nsy, nns, nvs, ntd), rfl, by simp only [f_A_isLaterSymbol, if_pos c1], by show va_P D classes _ t.heap; rw [ht]; exact hP⟩, hS.F ht⟩) hS.2.2 d_A_isLaterSymbol_18
  · refine lv_lload_n hx hb d_A_isLaterSymbol_8 rfl (lv_at hl 1 rfl) ?_
    refine lv_bipush (v := 8) hx hb d_A_isLaterSymbol_9 (by decide) ?_
    refine cs_i (W.runS (As := [.long a1, .int (8 : Int32)]) (rest := []) ⟨hx, hb, hml, hown, hk⟩ (c_N_localDigit l a1 (8 : Int32)) (s_N_localDigit hk k_771 ⟨Nat.le_of_ble_eq_true rfl, Nat.le_of_ble_eq_true rfl⟩) ⟨fun a U g mk q => q, fun U hU hW => ⟨rfl, trivial⟩⟩ rfl rfl hl.1 rfl (lv_room (Nat.le_of_ble_eq_true rfl)) d_A_isLaterSymbol_11 ⟨Nat.le_of_ble_eq_true rfl, Nat.le_of_ble_eq_true rfl⟩) ?_
    refine lv_if_lt (tgt := 19) hx hb d_A_isLaterSymbol_14 (by decide) (fun c2 => ?_) (fun c2 => ?_)
    · refine lv_aload_n hx hb d_A_isLaterSymbol_19 rfl (lv_at hl 0 rfl) ?_
      refine lv_aload_n hx hb d_A_isLaterSymbol_20 rfl (lv_at hl 0 rfl) ?_
      refine va_get (D := D) (ci := 3) (v := .ref g3) (C := "SignMachine$Assembler") (T := F_A) (N := 15) hx hb hk fi_A hown hK.1 hP 0 rfl rfl 1 (by decide) (hk _ k_633) (fun _ h9 => h9) rfl d_A_isLaterSymbol_21 ?_
      refine lv_lload_n hx hb d_A_isLaterSymbol_24 rfl (lv_at hl 1 rfl) ?_
      refine cs_i (W.runV (C := "SignMachine$Names") (As := [.long a1]) (rest := [.ref g0]) ⟨hx, hb, hml, hown, hk⟩ (c_N_find l D cI cJ cZ cB g0 g1 g2 g3 g4 g5 g6 g7 g8 g9 g10 g11 g12 g13 g14 g15 flt fln ffr sta plc edd lab lbv opr acd akd agl len lin att stp fol skd snm snu byt ncn nsy nns nvs ntd lvs ltd ocn opl owd oln okd ogl olo TL a1) (v_N_find hk k_924 ⟨Nat.le_of_ble_eq_true rfl, Nat.le_of_ble_eq_true rfl⟩) (pR_v hK hP (ci := 5) (q0 := 3) rfl rfl rfl) rfl rfl hl.1 rfl (lv_room (Nat.le_of_ble_eq_true rfl)) d_A_isLaterSymbol_25 ⟨Nat.le_of_ble_eq_true rfl, Nat.le_of_ble_eq_true rfl⟩) ?_
      refine va_put (D := D) (ci := 3) (v := .int (f_N_find ncn nns a1)) (ty := .int) (C := "SignMachine$Assembler") (T := F_A) (N := 15) hx hb hk fi_A ft_A ft_A_ok fn_A hown hK.1 hP hD hS 0 rfl rfl 14 (by decide) (hk _ k_651) (fun _ h9 => h9) rfl (by decide +kernel) rfl rfl (Nat.le_of_ble_eq_true rfl) d_A_isLaterSymbol_28 (fun H locs hP hD hS => ?_)
      have hP : va_P D classes (aW cI cJ cZ cB g0 g1 g2 g3 g4 g5 g6 g7 g8 g9 g10 g11 g12 g13 g14 g15 flt fln ffr sta plc edd lab lbv opr acd akd (f_N_find ncn nns a1) len lin att stp fol skd snm snu byt ncn nsy nns nvs ntd lvs ltd ocn opl owd oln okd ogl olo TL) H := hP
      have hD : va_D A (aW cI cJ cZ cB g0 g1 g2 g3 g4 g5 g6 g7 g8 g9 g10 g11 g12 g13 g14 g15 flt fln ffr sta plc edd lab lbv opr acd akd (f_N_find ncn nns a1) len lin att stp fol skd snm snu byt ncn nsy nns nvs ntd lvs ltd ocn opl owd oln okd ogl olo TL) := hD
      refine lv_aload_n hx hb d_A_isLaterSymbol_31 rfl (lv_at hl 0 rfl) ?_
      refine va_get (D := D) (ci := 3) (v := .ref g3) (C := "SignMachine$Assembler") (T := F_A) (N := 15) hx hb hk fi_A hown hK.1 hP 0 rfl rfl 1 (by decide) (hk _ k_633) (fun _ h9 => h9) rfl d_A_isLaterSymbol_32 ?_
      refine lv_aload_n hx hb d_A_isLaterSymbol_35 rfl (lv_at hl 0 rfl) ?_
      refine va_get (D := D) (ci := 3) (v := .int (f_N_find ncn nns a1)) (C := "SignMachine$Assembler") (T := F_A) (N := 15) hx hb hk fi_A hown hK.1 hP 0 rfl rfl 14 (by decide) (hk _ k_651) (fun _ h9 => h9) rfl d_A_isLaterSymbol_36 ?_
      refine cs_i (W.runV (C := "SignMachine$Names") (As := [.int (f_N_find ncn nns a1)]) (rest := []) ⟨hx, hb, hml, hown, hk⟩ (c_N_isTold l D cI cJ cZ cB g0 g1 g2 g3 g4 g5 g6 g7 g8 g9 g10 g11 g12 g13 g14 g15 flt fln ffr sta plc edd lab lbv opr acd akd (f_N_find ncn nns a1) len lin att stp fol skd snm snu byt ncn nsy nns nvs ntd lvs ltd ocn opl owd oln okd ogl olo TL (f_N_find ncn nns a1)) (v_N_isTold hk k_928 ⟨Nat.le_of_ble_eq_true rfl, Nat.le_of_ble_eq_true rfl⟩) (pR_v hK hP (ci := 5) (q0 := 3) rfl rfl rfl) rfl rfl hl.1 rfl (lv_room (Nat.le_of_ble_eq_true rfl)) d_A_isLaterSymbol_39 ⟨Nat.le_of_ble_eq_true rfl, Nat.le_of_ble_eq_true rfl⟩) ?_
      refine lv_if_eq (tgt := 47) hx hb d_A_isLaterSymbol_42 (by decide) (fun c3 => ?_) (fun c3 => ?_)
      · refine lv_aload_n hx hb d_A_isLaterSymbol_47 rfl (lv_at hl 0 rfl) ?_
        refine va_get (D := D) (ci := 3) (v := .int (f_N_find ncn nns a1)) (C := "SignMachine$Assembler") (T := F_A) (N := 15) hx hb hk fi_A hown hK.1 hP 0 rfl rfl 14 (by decide) (hk _ k_651) (fun _ h9 => h9) rfl d_A_isLaterSymbol_48 ?_
        refine lv_if_ge (tgt := 66) hx hb d_A_isLaterSymbol_51 (by decide) (fun c4 => ?_) (fun c4 => ?_)
        · refine lv_aload_n hx hb d_A_isLaterSymbol_66 rfl (lv_at hl 0 rfl) ?_
          refine va_get (D := D) (ci := 3) (v := .int (f_N_find ncn nns a1)) (C := "SignMachine$Assembler") (T := F_A) (N := 15) hx hb hk fi_A hown hK.1 hP 0 rfl rfl 14 (by decide) (hk _ k_651) (fun _ h9 => h9) rfl d_A_isLaterSymbol_67 ?_
          refine lv_if_ge (tgt := 79) hx hb d_A_isLaterSymbol_70 (by decide) (fun c5 => ?_) (fun c5 => absurd c4 c5)
          refine lv_iconst (v := 1) hx hb d_A_isLaterSymbol_79 (by decide) ?_
          exact W.zret (v := (1 : Int32)) hx hb hr rfl (fun t ht hW => ⟨⟨(1 : Int32), (flt, fln, (f_N_find ncn nns a1), ncn, nsy, nns, nvs, ntd), rfl, by simp only [f_A_isLaterSymbol, if_neg c1, if_pos c2, if_pos c3, if_pos c4], by show va_P D classes _ t.heap; rw [ht]; exact hP⟩, hS.F ht⟩) hS.2.2 d_A_isLaterSymbol_80
        · refine lv_aload_n hx hb d_A_isLaterSymbol_54 rfl (lv_at hl 0 rfl) ?_
          refine lv_aload_n hx hb d_A_isLaterSymbol_55 rfl (lv_at hl 0 rfl) ?_
          refine va_get (D := D) (ci := 3) (v := .ref g3) (C := "SignMachine$Assembler") (T := F_A) (N := 15) hx hb hk fi_A hown hK.1 hP 0 rfl rfl 1 (by decide) (hk _ k_633) (fun _ h9 => h9) rfl d_A_isLaterSymbol_56 ?_
          refine lv_lload_n hx hb d_A_isLaterSymbol_59 rfl (lv_at hl 1 rfl) ?_
          refine ca_i (va_runV (C := "SignMachine$Names") (As := [.long a1]) (rest := [.ref g0]) ⟨hx, hb, hml, hown, hk⟩ (c_N_addSymbol l D cI cJ cZ cB g0 g1 g2 g3 g4 g5 g6 g7 g8 g9 g10 g11 g12 g13 g14 g15 H.size flt fln ffr sta plc edd lab lbv opr acd akd (f_N_find ncn nns a1) len lin att stp fol skd snm snu byt ncn nsy nns nvs ntd lvs ltd ocn opl owd oln okd ogl olo TL a1) (v_N_addSymbol hk k_932 ⟨Nat.le_of_ble_eq_true rfl, Nat.le_of_ble_eq_true rfl⟩) (pM_v hK hP hD (ci := 5) (q0 := 3) rfl rfl rfl) rfl rfl hl.1 rfl (lv_room (Nat.le_of_ble_eq_true rfl)) d_A_isLaterSymbol_60 ⟨Nat.le_of_ble_eq_true rfl, Nat.le_of_ble_eq_true rfl⟩) hS hA hD (fun rz6 u H locs hz6 hP hS => ?_)
          obtain ⟨ncnz6, nsyz6, nnsz6, nvsz6, ntdz6⟩ := u
          have hP : va_P D classes (aW cI cJ cZ cB g0 g1 g2 g3 g4 g5 g6 g7 g8 g9 g10 g11 g12 g13 g14 g15 flt fln ffr sta plc edd lab lbv opr acd akd (f_N_find ncn nns a1) len lin att stp fol skd snm snu byt ncnz6 nsyz6 nnsz6 nvsz6 ntdz6 lvs ltd ocn opl owd oln okd ogl olo TL) H := hP
          have hD : va_D A (aW cI cJ cZ cB g0 g1 g2 g3 g4 g5 g6 g7 g8 g9 g10 g11 g12 g13 g14 g15 flt fln ffr sta plc edd lab lbv opr acd akd (f_N_find ncn nns a1) len lin att stp fol skd snm snu byt ncnz6 nsyz6 nnsz6 nvsz6 ntdz6 lvs ltd ocn opl owd oln okd ogl olo TL) := dsame hD rfl
          try dsimp only at hz6
          refine va_put (D := D) (ci := 3) (v := .int rz6) (ty := .int) (C := "SignMachine$Assembler") (T := F_A) (N := 15) hx hb hk fi_A ft_A ft_A_ok fn_A hown hK.1 hP hD hS 0 rfl rfl 14 (by decide) (hk _ k_651) (fun _ h9 => h9) rfl (by decide +kernel) rfl rfl (Nat.le_of_ble_eq_true rfl) d_A_isLaterSymbol_63 (fun H locs hP hD hS => ?_)
          have hP : va_P D classes (aW cI cJ cZ cB g0 g1 g2 g3 g4 g5 g6 g7 g8 g9 g10 g11 g12 g13 g14 g15 flt fln ffr sta plc edd lab lbv opr acd akd rz6 len lin att stp fol skd snm snu byt ncnz6 nsyz6 nnsz6 nvsz6 ntdz6 lvs ltd ocn opl owd oln okd ogl olo TL) H := hP
          have hD : va_D A (aW cI cJ cZ cB g0 g1 g2 g3 g4 g5 g6 g7 g8 g9 g10 g11 g12 g13 g14 g15 flt fln ffr sta plc edd lab lbv opr acd akd rz6 len lin att stp fol skd snm snu byt ncnz6 nsyz6 nnsz6 nvsz6 ntdz6 lvs ltd ocn opl owd oln okd ogl olo TL) := hD
          refine lv_aload_n hx hb d_A_isLaterSymbol_66 rfl (lv_at hl 0 rfl) ?_
          refine va_get (D := D) (ci := 3) (v := .int rz6) (C := "SignMachine$Assembler") (T := F_A) (N := 15) hx hb hk fi_A hown hK.1 hP 0 rfl rfl 14 (by decide) (hk _ k_651) (fun _ h9 => h9) rfl d_A_isLaterSymbol_67 ?_
          refine lv_if_ge (tgt := 79) hx hb d_A_isLaterSymbol_70 (by decide) (fun c7 => ?_) (fun c7 => ?_)
          · refine lv_iconst (v := 1) hx hb d_A_isLaterSymbol_79 (by decide) ?_
            exact W.zret (v := (1 : Int32)) hx hb hr rfl (fun t ht hW => ⟨⟨(1 : Int32), (flt, fln, rz6, ncnz6, nsyz6, nnsz6, nvsz6, ntdz6), rfl, by simp only [f_A_isLaterSymbol, if_neg c1, if_pos c2, if_pos c3, if_neg c4, ← hz6, if_pos c7], by show va_P D classes _ t.heap; rw [ht]; exact hP⟩, hS.F ht⟩) hS.2.2 d_A_isLaterSymbol_80
          · refine lv_aload_n hx hb d_A_isLaterSymbol_73 rfl (lv_at hl 0 rfl) ?_
            refine lv_iconst (v := 5) hx hb d_A_isLaterSymbol_74 (by decide) ?_
            refine ca_i (va_runV (C := "SignMachine$Assembler") (As := [.int (5 : Int32)]) (rest := []) ⟨hx, hb, hml, hown, hk⟩ (c_A_fail l D cI cJ cZ cB g0 g1 g2 g3 g4 g5 g6 g7 g8 g9 g10 g11 g12 g13 g14 g15 H.size flt fln ffr sta plc edd lab lbv opr acd akd rz6 len lin att stp fol skd snm snu byt ncnz6 nsyz6 nnsz6 nvsz6 ntdz6 lvs ltd ocn opl owd oln okd ogl olo TL (5 : Int32)) (v_A_fail hk k_767 ⟨Nat.le_of_ble_eq_true rfl, Nat.le_of_ble_eq_true rfl⟩) (pM_v hK hP hD (ci := 3) (q0 := 0) rfl rfl rfl) rfl rfl hl.1 rfl (lv_room (Nat.le_of_ble_eq_true rfl)) d_A_isLaterSymbol_75 ⟨Nat.le_of_ble_eq_true rfl, Nat.le_of_ble_eq_true rfl⟩) hS hA hD (fun rz8 u H locs hz8 hP hS => ?_)
            obtain ⟨fltz8, flnz8⟩ := u
            have hP : va_P D classes (aW cI cJ cZ cB g0 g1 g2 g3 g4 g5 g6 g7 g8 g9 g10 g11 g12 g13 g14 g15 fltz8 flnz8 ffr sta plc edd lab lbv opr acd akd rz6 len lin att stp fol skd snm snu byt ncnz6 nsyz6 nnsz6 nvsz6 ntdz6 lvs ltd ocn opl owd oln okd ogl olo TL) H := hP
            have hD : va_D A (aW cI cJ cZ cB g0 g1 g2 g3 g4 g5 g6 g7 g8 g9 g10 g11 g12 g13 g14 g15 fltz8 flnz8 ffr sta plc edd lab lbv opr acd akd rz6 len lin att stp fol skd snm snu byt ncnz6 nsyz6 nnsz6 nvsz6 ntdz6 lvs ltd ocn opl owd oln okd ogl olo TL) := dsame hD rfl
            try dsimp only at hz8
            refine lv_pop hx hb d_A_isLaterSymbol_78 rfl ?_
            refine lv_iconst (v := 1) hx hb d_A_isLaterSymbol_79 (by decide) ?_
            exact W.zret (v := (1 : Int32)) hx hb hr rfl (fun t ht hW => ⟨⟨(1 : Int32), (fltz8, flnz8, rz6, ncnz6, nsyz6, nnsz6, nvsz6, ntdz6), rfl, by simp only [f_A_isLaterSymbol, if_neg c1, if_pos c2, if_pos c3, if_neg c4, ← hz6, if_neg c7, ← hz8], by show va_P D classes _ t.heap; rw [ht]; exact hP⟩, hS.F ht⟩) hS.2.2 d_A_isLaterSymbol_80
      · refine lv_iconst (v := 0) hx hb d_A_isLaterSymbol_45 (by decide) ?_
        exact W.zret (v := (0 : Int32)) hx hb hr rfl (fun t ht hW => ⟨⟨(0 : Int32), (flt, fln, (f_N_find ncn nns a1), ncn, nsy, nns, nvs, ntd), rfl, by simp only [f_A_isLaterSymbol, if_neg c1, if_pos c2, if_neg c3], by show va_P D classes _ t.heap; rw [ht]; exact hP⟩, hS.F ht⟩) hS.2.2 d_A_isLaterSymbol_46
    · refine lv_iconst (v := 0) hx hb d_A_isLaterSymbol_17 (by decide) ?_
      exact W.zret (v := (0 : Int32)) hx hb hr rfl (fun t ht hW => ⟨⟨(0 : Int32), (flt, fln, agl, ncn, nsy, nns, nvs, ntd), rfl, by simp only [f_A_isLaterSymbol, if_neg c1, if_neg c2], by show va_P D classes _ t.heap; rw [ht]; exact hP⟩, hS.F ht⟩) hS.2.2 d_A_isLaterSymbol_18
theorem v_A_isLaterSymbol {R : Room} {s : State} {args : Array Value} {own : String} {index : Nat} (hk : ∀ w ∈ tb, w.before args s = true) (hl : Cond.methodLink own index y_A_isLaterSymbol ∈ tb) (hR : 2 + 1 ≤ R.frames ∧ 8 + (3 + 11) + 45 ≤ R.locals) : CallW R s args own "SignMachine$Assembler" index y_A_isLaterSymbol b_A_isLaterSymbol 3 (some .boolean) (.code y_A_isLaterSymbol b_A_isLaterSymbol 3 (some .boolean) :: tb) ({ frames := 2, cells := 0, slots := 0, locals := 45 }) 0 0 1 := mk_v 1 hk k_1043 hl k_1042 k_54 k_123 rfl rfl h_A_isLaterSymbol hR
def f_A_readLaterName (flt : Int32) (fln : Int32) (akd : Int32) (agl : Int32) (lin : Int32) (att : Int32) (stp : Int32) (skd : Int32) (snm : Int64) (snu : Int32) (byt : Nat → Int32) (ncn : Int32) (nsy : Int32) (nns : Nat → Int64) (nvs : Nat → Int32) (ntd : Nat → Int32)  : Int32 × (Int32) × (Int32) × (Int32) × (Int32) × (Int32) × (Int32) × (Int64) × (Int32) × (Int32) × (Int32) × (Nat → Int64) × (Nat → Int32) × (Nat → Int32) := (match (f_R_readToken att stp skd snm snu byt ) with | (attz1, skdz1, snmz1, snuz1) => (if skdz1 = (2 : Int32) then (if (bI (f_A_isOperator (f_R_peek attz1 stp byt ))) = (0 : Int32) then (if (f_N_localDigit snmz1 (6 : Int32)) < (0 : Int32) then (match (f_A_isLaterSymbol flt fln agl lin ncn nsy nns nvs ntd snmz1) with | (rz5, fltz5, flnz5, aglz5, ncnz5, nsyz5, nnsz5, nvsz5, ntdz5) => (if rz5 = (0 : Int32) then ((0 : Int32), fltz5, flnz5, akd, aglz5, att, skdz1, snmz1, snuz1, ncnz5, nsyz5, nnsz5, nvsz5, ntdz5) else ((1 : Int32), fltz5, flnz5, (1 : Int32), aglz5, attz1, skdz1, snmz1, snuz1, ncnz5, nsyz5, nnsz5, nvsz5, ntdz5))) else ((1 : Int32), flt, fln, (2 : Int32), (f_N_localDigit snmz1 (6 : Int32)), attz1, skdz1, snmz1, snuz1, ncn, nsy, nns, nvs, ntd)) else ((0 : Int32), flt, fln, akd, agl, att, skdz1, snmz1, snuz1, ncn, nsy, nns, nvs, ntd)) else ((0 : Int32), flt, fln, akd, agl, att, skdz1, snmz1, snuz1, ncn, nsy, nns, nvs, ntd)))
set_option maxHeartbeats 4000000 in
set_option maxRecDepth 100000 in
theorem c_A_readLaterName (l : Launch) (D : va_G) (cI cJ cZ cB : ClassId) (g0 g1 g2 g3 g4 g5 g6 g7 g8 g9 g10 g11 g12 g13 g14 g15 : Nat) (sz : Nat) (flt : Int32) (fln : Int32) (ffr : Int32) (sta : Int32) (plc : Int32) (edd : Int32) (lab : Int64) (lbv : Int32) (opr : Option Nat) (acd : Int32) (akd : Int32) (agl : Int32) (len : Int32) (lin : Int32) (att : Int32) (stp : Int32) (fol : Int32) (skd : Int32) (snm : Int64) (snu : Int32) (byt : Nat → Int32) (ncn : Int32) (nsy : Int32) (nns : Nat → Int64) (nvs : Nat → Int32) (ntd : Nat → Int32) (lvs : Nat → Int32) (ltd : Nat → Int32) (ocn : Int32) (opl : Nat → Int32) (owd : Nat → Int32) (oln : Nat → Int32) (okd : Nat → Int32) (ogl : Nat → Int32) (olo : Nat → Int32) (TL : va_W)  : Met l y_A_readLaterName (.code y_A_readLaterName b_A_readLaterName 3 (some .boolean) :: tb) ({ frames := 3, cells := 0, slots := 0, locals := 67 }) (pM D cI cJ cZ cB (aW cI cJ cZ cB g0 g1 g2 g3 g4 g5 g6 g7 g8 g9 g10 g11 g12 g13 g14 g15 flt fln ffr sta plc edd lab lbv opr acd akd agl len lin att stp fol skd snm snu byt ncn nsy nns nvs ntd lvs ltd ocn opl owd oln okd ogl olo TL) sz [.ref g0]) (qI D (fun r u => (r, u) = f_A_readLaterName flt fln akd agl lin att stp skd snm snu byt ncn nsy nns nvs ntd) (fun (u : (Int32) × (Int32) × (Int32) × (Int32) × (Int32) × (Int32) × (Int64) × (Int32) × (Int32) × (Int32) × (Nat → Int64) × (Nat → Int32) × (Nat → Int32)) => match u with | (u_flt, u_fln, u_akd, u_agl, u_att, u_skd, u_snm, u_snu, u_ncn, u_nsy, u_nns, u_nvs, u_ntd) => (aW cI cJ cZ cB g0 g1 g2 g3 g4 g5 g6 g7 g8 g9 g10 g11 g12 g13 g14 g15 u_flt u_fln ffr sta plc edd lab lbv opr acd u_akd u_agl len lin u_att stp fol u_skd u_snm u_snu byt u_ncn u_nsy u_nns u_nvs u_ntd lvs ltd ocn opl owd oln okd ogl olo TL)) (va_A (aW cI cJ cZ cB g0 g1 g2 g3 g4 g5 g6 g7 g8 g9 g10 g11 g12 g13 g14 g15 flt fln ffr sta plc edd lab lbv opr acd akd agl len lin att stp fol skd snm snu byt ncn nsy nns nvs ntd lvs ltd ocn opl owd oln okd ogl olo TL) sz)) 0 0 (va_A (aW cI cJ cZ cB g0 g1 g2 g3 g4 g5 g6 g7 g8 g9 g10 g11 g12 g13 g14 g15 flt fln ffr sta plc edd lab lbv opr acd akd agl len lin att stp fol skd snm snu byt ncn nsy nns nvs ntd lvs ltd ocn opl owd oln okd ogl olo TL) sz) := by
  refine Met.ofW (cc := b_A_readLaterName) (maxL := 3) (ret := (some .boolean)) (by decide) rfl ?_
  intro p e s m args below meth c s₁ B hml hv
  obtain ⟨rfl, hsz, hK, hP, hD0⟩ := hv
  subst hsz
  have hD := hD0.self (sz := s.heap.size)
  generalize hAe : va_A (aW cI cJ cZ cB g0 g1 g2 g3 g4 g5 g6 g7 g8 g9 g10 g11 g12 g13 g14 g15 flt fln ffr sta plc edd lab lbv opr acd akd agl len lin att stp fol skd snm snu byt ncn nsy nns nvs ntd lvs ltd ocn opl owd oln okd ogl olo TL) s.heap.size = A at hD ⊢
  have hA : ∀ q : Nat, s.heap.size ≤ q → A q := fun q h => by rw [← hAe]; exact Or.inr h
  have hS : va_S A s.heap s.heap [] := va_S.rf
  have hx := B.exec
  have hb := B.bytes
  have hr := B.returns
  have hts := atoms_spec (ws := .code y_A_readLaterName b_A_readLaterName 3 (some .boolean) :: tb) B.pre
  have hk : ∀ w ∈ tb, w.before [.ref g0].toArray s = true := fun w h => hts w (List.mem_cons_of_mem _ h)
  have hown : s.vm.findClass "SignMachine$Assembler" = some m.cls := findClass_of_methodNamed B.named
  have hlocks := B.notSynchronized
  have hl := lv_entry ([.ref g0]) (n := 3) (Nat.le_of_ble_eq_true rfl)
  rw [lg_entry_eq]
  generalize (lg_sl ([.ref g0]) ++ List.replicate (3 - (lg_sl ([.ref g0])).length) Slot.unset).toArray = ls at hl ⊢
  have hl : lv_has ls 3 [(0, .ref g0)] := hl
  refine lv_aload_n hx hb d_A_readLaterName_0 rfl (lv_at hl 0 rfl) ?_
  refine va_get (D := D) (ci := 3) (v := .ref g1) (C := "SignMachine$Assembler") (T := F_A) (N := 15) hx hb hk fi_A hown hK.1 hP 0 rfl rfl 0 (by decide) (hk _ k_631) (fun _ h9 => h9) rfl d_A_readLaterName_1 ?_
  refine va_getN (D := D) (ci := 4) (v := .int att) (C := "SignMachine$Source") (T := F_R) (N := 9) hx hb hk fi_R hown hK.1 hP 1 rfl rfl 3 (by decide) (va_Nw.use rfl (hK.2 _ n_541)) (fun _ h9 => h9) rfl d_A_readLaterName_4 ?_
  refine lv_istore_n (lv' := [(1, .int att), (0, .ref g0)]) hx hb d_A_readLaterName_7 rfl hl (by decide) rfl (fun ls hl => ?_)
  refine lv_aload_n hx hb d_A_readLaterName_8 rfl (lv_at hl 1 rfl) ?_
  refine va_get (D := D) (ci := 3) (v := .ref g1) (C := "SignMachine$Assembler") (T := F_A) (N := 15) hx hb hk fi_A hown hK.1 hP 0 rfl rfl 0 (by decide) (hk _ k_631) (fun _ h9 => h9) rfl d_A_readLaterName_9 ?_
  refine ca_v (va_runV (C := "SignMachine$Source") (As := []) (rest := []) ⟨hx, hb, hml, hown, hk⟩ (c_R_readToken l D cI cJ cZ cB g0 g1 g2 g3 g4 g5 g6 g7 g8 g9 g10 g11 g12 g13 g14 g15 s.heap.size flt fln ffr sta plc edd lab lbv opr acd akd agl len lin att stp fol skd snm snu byt ncn nsy nns nvs ntd lvs ltd ocn opl owd oln okd ogl olo TL ) (v_R_readToken hk k_752 ⟨Nat.le_of_ble_eq_true rfl, Nat.le_of_ble_eq_true rfl⟩) (pM_v hK hP hD (ci := 4) (q0 := 1) rfl rfl rfl) rfl rfl hl.1 rfl (lv_room (Nat.le_of_ble_eq_true rfl)) d_A_readLaterName_12 ⟨Nat.le_of_ble_eq_true rfl, Nat.le_of_ble_eq_true rfl⟩) hS hA hD (fun u H locs hz1 hP hS => ?_)
  obtain ⟨attz1, skdz1, snmz1, snuz1⟩ := u
  have hP : va_P D classes (aW cI cJ cZ cB g0 g1 g2 g3 g4 g5 g6 g7 g8 g9 g10 g11 g12 g13 g14 g15 flt fln ffr sta plc edd lab lbv opr acd akd agl len lin attz1 stp fol skdz1 snmz1 snuz1 byt ncn nsy nns nvs ntd lvs ltd ocn opl owd oln okd ogl olo TL) H := hP
  have hD : va_D A (aW cI cJ cZ cB g0 g1 g2 g3 g4 g5 g6 g7 g8 g9 g10 g11 g12 g13 g14 g15 flt fln ffr sta plc edd lab lbv opr acd akd agl len lin attz1 stp fol skdz1 snmz1 snuz1 byt ncn nsy nns nvs ntd lvs ltd ocn opl owd oln okd ogl olo TL) := dsame hD rfl
  try dsimp only at hz1
  refine lv_aload_n hx hb d_A_readLaterName_15 rfl (lv_at hl 1 rfl) ?_
  refine va_get (D := D) (ci := 3) (v := .ref g1) (C := "SignMachine$Assembler") (T := F_A) (N := 15) hx hb hk fi_A hown hK.1 hP 0 rfl rfl 0 (by decide) (hk _ k_631) (fun _ h9 => h9) rfl d_A_readLaterName_16 ?_
  refine va_getN (D := D) (ci := 4) (v := .int skdz1) (C := "SignMachine$Source") (T := F_R) (N := 9) hx hb hk fi_R hown hK.1 hP 1 rfl rfl 6 (by decide) (va_Nw.use rfl (hK.2 _ n_544)) (fun _ h9 => h9) rfl d_A_readLaterName_19 ?_
  refine lv_iconst (v := 2) hx hb d_A_readLaterName_22 (by decide) ?_
  refine lv_icmp_ne (tgt := 89) hx hb d_A_readLaterName_23 (by decide) (fun c2 => ?_) (fun c2 => ?_)
  · refine lv_aload_n hx hb d_A_readLaterName_89 rfl (lv_at hl 1 rfl) ?_
    refine va_get (D := D) (ci := 3) (v := .ref g1) (C := "SignMachine$Assembler") (T := F_A) (N := 15) hx hb hk fi_A hown hK.1 hP 0 rfl rfl 0 (by decide) (hk _ k_631) (fun _ h9 => h9) rfl d_A_readLaterName_90 ?_
    refine lv_iload_n hx hb d_A_readLaterName_93 rfl (lv_at hl 0 rfl) ?_
    refine va_putN (D := D) (ci := 4) (v := .int att) (ty := .int) (C := "SignMachine$Source") (T := F_R) (N := 9) hx hb hk fi_R ft_R ft_R_ok fn_R hown hK.1 hP hD hS 1 rfl rfl 3 (by decide) (va_Nw.use rfl (hK.2 _ n_541)) (fun _ h9 => h9) rfl (by decide +kernel) rfl rfl (Nat.le_of_ble_eq_true rfl) d_A_readLaterName_94 (fun H locs hP hD hS => ?_)
    have hP : va_P D classes (aW cI cJ cZ cB g0 g1 g2 g3 g4 g5 g6 g7 g8 g9 g10 g11 g12 g13 g14 g15 flt fln ffr sta plc edd lab lbv opr acd akd agl len lin att stp fol skdz1 snmz1 snuz1 byt ncn nsy nns nvs ntd lvs ltd ocn opl owd oln okd ogl olo TL) H := hP
    have hD : va_D A (aW cI cJ cZ cB g0 g1 g2 g3 g4 g5 g6 g7 g8 g9 g10 g11 g12 g13 g14 g15 flt fln ffr sta plc edd lab lbv opr acd akd agl len lin att stp fol skdz1 snmz1 snuz1 byt ncn nsy nns nvs ntd lvs ltd ocn opl owd oln okd ogl olo TL) := hD
    refine lv_iconst (v := 0) hx hb d_A_readLaterName_97 (by decide) ?_
    exact W.zret (v := (0 : Int32)) hx hb hr rfl (fun t ht hW => ⟨⟨(0 : Int32), (flt, fln, akd, agl, att, skdz1, snmz1, snuz1, ncn, nsy, nns, nvs, ntd), rfl, by simp only [f_A_readLaterName, ← hz1, if_neg c2], by show va_P D classes _ t.heap; rw [ht]; exact hP⟩, hS.F ht⟩) hS.2.2 d_A_readLaterName_98
  · refine lv_aload_n hx hb d_A_readLaterName_26 rfl (lv_at hl 1 rfl) ?_
    refine va_get (D := D) (ci := 3) (v := .ref g1) (C := "SignMachine$Assembler") (T := F_A) (N := 15) hx hb hk fi_A hown hK.1 hP 0 rfl rfl 0 (by decide) (hk _ k_631) (fun _ h9 => h9) rfl d_A_readLaterName_27 ?_
    refine cs_i (W.runV (C := "SignMachine$Source") (As := []) (rest := []) ⟨hx, hb, hml, hown, hk⟩ (c_R_peek l D cI cJ cZ cB g0 g1 g2 g3 g4 g5 g6 g7 g8 g9 g10 g11 g12 g13 g14 g15 flt fln ffr sta plc edd lab lbv opr acd akd agl len lin attz1 stp fol skdz1 snmz1 snuz1 byt ncn nsy nns nvs ntd lvs ltd ocn opl owd oln okd ogl olo TL ) (v_R_peek hk k_739 ⟨Nat.le_of_ble_eq_true rfl, Nat.le_of_ble_eq_true rfl⟩) (pR_v hK hP (ci := 4) (q0 := 1) rfl rfl rfl) rfl rfl hl.1 rfl (lv_room (Nat.le_of_ble_eq_true rfl)) d_A_readLaterName_30 ⟨Nat.le_of_ble_eq_true rfl, Nat.le_of_ble_eq_true rfl⟩) ?_
    refine cs_i (W.runS (As := [.int (f_R_peek attz1 stp byt )]) (rest := []) ⟨hx, hb, hml, hown, hk⟩ (c_A_isOperator l (f_R_peek attz1 stp byt )) (s_A_isOperator hk k_1018 ⟨Nat.le_of_ble_eq_true rfl, Nat.le_of_ble_eq_true rfl⟩) ⟨fun a U g mk q => q, fun U hU hW => ⟨rfl, trivial⟩⟩ rfl rfl hl.1 rfl (lv_room (Nat.le_of_ble_eq_true rfl)) d_A_readLaterName_33 ⟨Nat.le_of_ble_eq_true rfl, Nat.le_of_ble_eq_true rfl⟩) ?_
    refine lv_if_ne (tgt := 89) hx hb d_A_readLaterName_36 (by decide) (fun c3 => ?_) (fun c3 => ?_)
    · refine lv_aload_n hx hb d_A_readLaterName_89 rfl (lv_at hl 1 rfl) ?_
      refine va_get (D := D) (ci := 3) (v := .ref g1) (C := "SignMachine$Assembler") (T := F_A) (N := 15) hx hb hk fi_A hown hK.1 hP 0 rfl rfl 0 (by decide) (hk _ k_631) (fun _ h9 => h9) rfl d_A_readLaterName_90 ?_
      refine lv_iload_n hx hb d_A_readLaterName_93 rfl (lv_at hl 0 rfl) ?_
      refine va_putN (D := D) (ci := 4) (v := .int att) (ty := .int) (C := "SignMachine$Source") (T := F_R) (N := 9) hx hb hk fi_R ft_R ft_R_ok fn_R hown hK.1 hP hD hS 1 rfl rfl 3 (by decide) (va_Nw.use rfl (hK.2 _ n_541)) (fun _ h9 => h9) rfl (by decide +kernel) rfl rfl (Nat.le_of_ble_eq_true rfl) d_A_readLaterName_94 (fun H locs hP hD hS => ?_)
      have hP : va_P D classes (aW cI cJ cZ cB g0 g1 g2 g3 g4 g5 g6 g7 g8 g9 g10 g11 g12 g13 g14 g15 flt fln ffr sta plc edd lab lbv opr acd akd agl len lin att stp fol skdz1 snmz1 snuz1 byt ncn nsy nns nvs ntd lvs ltd ocn opl owd oln okd ogl olo TL) H := hP
      have hD : va_D A (aW cI cJ cZ cB g0 g1 g2 g3 g4 g5 g6 g7 g8 g9 g10 g11 g12 g13 g14 g15 flt fln ffr sta plc edd lab lbv opr acd akd agl len lin att stp fol skdz1 snmz1 snuz1 byt ncn nsy nns nvs ntd lvs ltd ocn opl owd oln okd ogl olo TL) := hD
      refine lv_iconst (v := 0) hx hb d_A_readLaterName_97 (by decide) ?_
      exact W.zret (v := (0 : Int32)) hx hb hr rfl (fun t ht hW => ⟨⟨(0 : Int32), (flt, fln, akd, agl, att, skdz1, snmz1, snuz1, ncn, nsy, nns, nvs, ntd), rfl, by simp only [f_A_readLaterName, ← hz1, if_pos c2, if_neg c3], by show va_P D classes _ t.heap; rw [ht]; exact hP⟩, hS.F ht⟩) hS.2.2 d_A_readLaterName_98
    · refine lv_aload_n hx hb d_A_readLaterName_39 rfl (lv_at hl 1 rfl) ?_
      refine va_get (D := D) (ci := 3) (v := .ref g1) (C := "SignMachine$Assembler") (T := F_A) (N := 15) hx hb hk fi_A hown hK.1 hP 0 rfl rfl 0 (by decide) (hk _ k_631) (fun _ h9 => h9) rfl d_A_readLaterName_40 ?_
      refine va_getN (D := D) (ci := 4) (v := .long snmz1) (C := "SignMachine$Source") (T := F_R) (N := 9) hx hb hk fi_R hown hK.1 hP 1 rfl rfl 7 (by decide) (va_Nw.use rfl (hK.2 _ n_546)) (fun _ h9 => h9) rfl d_A_readLaterName_43 ?_
      refine lv_bipush (v := 6) hx hb d_A_readLaterName_46 (by decide) ?_
      refine cs_i (W.runS (As := [.long snmz1, .int (6 : Int32)]) (rest := []) ⟨hx, hb, hml, hown, hk⟩ (c_N_localDigit l snmz1 (6 : Int32)) (s_N_localDigit hk k_771 ⟨Nat.le_of_ble_eq_true rfl, Nat.le_of_ble_eq_true rfl⟩) ⟨fun a U g mk q => q, fun U hU hW => ⟨rfl, trivial⟩⟩ rfl rfl hl.1 rfl (lv_room (Nat.le_of_ble_eq_true rfl)) d_A_readLaterName_48 ⟨Nat.le_of_ble_eq_true rfl, Nat.le_of_ble_eq_true rfl⟩) ?_
      refine lv_istore_n (lv' := [(2, .int (f_N_localDigit snmz1 (6 : Int32))), (1, .int att), (0, .ref g0)]) hx hb d_A_readLaterName_51 rfl hl (by decide) rfl (fun ls hl => ?_)
      refine lv_iload_n hx hb d_A_readLaterName_52 rfl (lv_at hl 0 rfl) ?_
      refine lv_if_lt (tgt := 68) hx hb d_A_readLaterName_53 (by decide) (fun c4 => ?_) (fun c4 => ?_)
      · refine lv_aload_n hx hb d_A_readLaterName_68 rfl (lv_at hl 2 rfl) ?_
        refine lv_aload_n hx hb d_A_readLaterName_69 rfl (lv_at hl 2 rfl) ?_
        refine va_get (D := D) (ci := 3) (v := .ref g1) (C := "SignMachine$Assembler") (T := F_A) (N := 15) hx hb hk fi_A hown hK.1 hP 0 rfl rfl 0 (by decide) (hk _ k_631) (fun _ h9 => h9) rfl d_A_readLaterName_70 ?_
        refine va_getN (D := D) (ci := 4) (v := .long snmz1) (C := "SignMachine$Source") (T := F_R) (N := 9) hx hb hk fi_R hown hK.1 hP 1 rfl rfl 7 (by decide) (va_Nw.use rfl (hK.2 _ n_546)) (fun _ h9 => h9) rfl d_A_readLaterName_73 ?_
        refine ca_i (va_runV (C := "SignMachine$Assembler") (As := [.long snmz1]) (rest := []) ⟨hx, hb, hml, hown, hk⟩ (c_A_isLaterSymbol l D cI cJ cZ cB g0 g1 g2 g3 g4 g5 g6 g7 g8 g9 g10 g11 g12 g13 g14 g15 H.size flt fln ffr sta plc edd lab lbv opr acd akd agl len lin attz1 stp fol skdz1 snmz1 snuz1 byt ncn nsy nns nvs ntd lvs ltd ocn opl owd oln okd ogl olo TL snmz1) (v_A_isLaterSymbol hk k_1040 ⟨Nat.le_of_ble_eq_true rfl, Nat.le_of_ble_eq_true rfl⟩) (pM_v hK hP hD (ci := 3) (q0 := 0) rfl rfl rfl) rfl rfl hl.1 rfl (lv_room (Nat.le_of_ble_eq_true rfl)) d_A_readLaterName_76 ⟨Nat.le_of_ble_eq_true rfl, Nat.le_of_ble_eq_true rfl⟩) hS hA hD (fun rz5 u H locs hz5 hP hS => ?_)
        obtain ⟨fltz5, flnz5, aglz5, ncnz5, nsyz5, nnsz5, nvsz5, ntdz5⟩ := u
        have hP : va_P D classes (aW cI cJ cZ cB g0 g1 g2 g3 g4 g5 g6 g7 g8 g9 g10 g11 g12 g13 g14 g15 fltz5 flnz5 ffr sta plc edd lab lbv opr acd akd aglz5 len lin attz1 stp fol skdz1 snmz1 snuz1 byt ncnz5 nsyz5 nnsz5 nvsz5 ntdz5 lvs ltd ocn opl owd oln okd ogl olo TL) H := hP
        have hD : va_D A (aW cI cJ cZ cB g0 g1 g2 g3 g4 g5 g6 g7 g8 g9 g10 g11 g12 g13 g14 g15 fltz5 flnz5 ffr sta plc edd lab lbv opr acd akd aglz5 len lin attz1 stp fol skdz1 snmz1 snuz1 byt ncnz5 nsyz5 nnsz5 nvsz5 ntdz5 lvs ltd ocn opl owd oln okd ogl olo TL) := dsame hD rfl
        try dsimp only at hz5
        refine lv_if_eq (tgt := 89) hx hb d_A_readLaterName_79 (by decide) (fun c6 => ?_) (fun c6 => ?_)
        · refine lv_aload_n hx hb d_A_readLaterName_89 rfl (lv_at hl 2 rfl) ?_
          refine va_get (D := D) (ci := 3) (v := .ref g1) (C := "SignMachine$Assembler") (T := F_A) (N := 15) hx hb hk fi_A hown hK.1 hP 0 rfl rfl 0 (by decide) (hk _ k_631) (fun _ h9 => h9) rfl d_A_readLaterName_90 ?_
          refine lv_iload_n hx hb d_A_readLaterName_93 rfl (lv_at hl 1 rfl) ?_
          refine va_putN (D := D) (ci := 4) (v := .int att) (ty := .int) (C := "SignMachine$Source") (T := F_R) (N := 9) hx hb hk fi_R ft_R ft_R_ok fn_R hown hK.1 hP hD hS 1 rfl rfl 3 (by decide) (va_Nw.use rfl (hK.2 _ n_541)) (fun _ h9 => h9) rfl (by decide +kernel) rfl rfl (Nat.le_of_ble_eq_true rfl) d_A_readLaterName_94 (fun H locs hP hD hS => ?_)
          have hP : va_P D classes (aW cI cJ cZ cB g0 g1 g2 g3 g4 g5 g6 g7 g8 g9 g10 g11 g12 g13 g14 g15 fltz5 flnz5 ffr sta plc edd lab lbv opr acd akd aglz5 len lin att stp fol skdz1 snmz1 snuz1 byt ncnz5 nsyz5 nnsz5 nvsz5 ntdz5 lvs ltd ocn opl owd oln okd ogl olo TL) H := hP
          have hD : va_D A (aW cI cJ cZ cB g0 g1 g2 g3 g4 g5 g6 g7 g8 g9 g10 g11 g12 g13 g14 g15 fltz5 flnz5 ffr sta plc edd lab lbv opr acd akd aglz5 len lin att stp fol skdz1 snmz1 snuz1 byt ncnz5 nsyz5 nnsz5 nvsz5 ntdz5 lvs ltd ocn opl owd oln okd ogl olo TL) := hD
          refine lv_iconst (v := 0) hx hb d_A_readLaterName_97 (by decide) ?_
          exact W.zret (v := (0 : Int32)) hx hb hr rfl (fun t ht hW => ⟨⟨(0 : Int32), (fltz5, flnz5, akd, aglz5, att, skdz1, snmz1, snuz1, ncnz5, nsyz5, nnsz5, nvsz5, ntdz5), rfl, by simp only [f_A_readLaterName, ← hz1, if_pos c2, if_pos c3, if_pos c4, ← hz5, if_pos c6], by show va_P D classes _ t.heap; rw [ht]; exact hP⟩, hS.F ht⟩) hS.2.2 d_A_readLaterName_98
        · refine lv_aload_n hx hb d_A_readLaterName_82 rfl (lv_at hl 2 rfl) ?_
          refine lv_iconst (v := 1) hx hb d_A_readLaterName_83 (by decide) ?_
          refine va_put (D := D) (ci := 3) (v := .int (1 : Int32)) (ty := .int) (C := "SignMachine$Assembler") (T := F_A) (N := 15) hx hb hk fi_A ft_A ft_A_ok fn_A hown hK.1 hP hD hS 0 rfl rfl 13 (by decide) (hk _ k_650) (fun _ h9 => h9) rfl (by decide +kernel) rfl rfl (Nat.le_of_ble_eq_true rfl) d_A_readLaterName_84 (fun H locs hP hD hS => ?_)
          have hP : va_P D classes (aW cI cJ cZ cB g0 g1 g2 g3 g4 g5 g6 g7 g8 g9 g10 g11 g12 g13 g14 g15 fltz5 flnz5 ffr sta plc edd lab lbv opr acd (1 : Int32) aglz5 len lin attz1 stp fol skdz1 snmz1 snuz1 byt ncnz5 nsyz5 nnsz5 nvsz5 ntdz5 lvs ltd ocn opl owd oln okd ogl olo TL) H := hP
          have hD : va_D A (aW cI cJ cZ cB g0 g1 g2 g3 g4 g5 g6 g7 g8 g9 g10 g11 g12 g13 g14 g15 fltz5 flnz5 ffr sta plc edd lab lbv opr acd (1 : Int32) aglz5 len lin attz1 stp fol skdz1 snmz1 snuz1 byt ncnz5 nsyz5 nnsz5 nvsz5 ntdz5 lvs ltd ocn opl owd oln okd ogl olo TL) := hD
          refine lv_iconst (v := 1) hx hb d_A_readLaterName_87 (by decide) ?_
          exact W.zret (v := (1 : Int32)) hx hb hr rfl (fun t ht hW => ⟨⟨(1 : Int32), (fltz5, flnz5, (1 : Int32), aglz5, attz1, skdz1, snmz1, snuz1, ncnz5, nsyz5, nnsz5, nvsz5, ntdz5), rfl, by simp only [f_A_readLaterName, ← hz1, if_pos c2, if_pos c3, if_pos c4, ← hz5, if_neg c6], by show va_P D classes _ t.heap; rw [ht]; exact hP⟩, hS.F ht⟩) hS.2.2 d_A_readLaterName_88
      · refine lv_aload_n hx hb d_A_readLaterName_56 rfl (lv_at hl 2 rfl) ?_
        refine lv_iconst (v := 2) hx hb d_A_readLaterName_57 (by decide) ?_
        refine va_put (D := D) (ci := 3) (v := .int (2 : Int32)) (ty := .int) (C := "SignMachine$Assembler") (T := F_A) (N := 15) hx hb hk fi_A ft_A ft_A_ok fn_A hown hK.1 hP hD hS 0 rfl rfl 13 (by decide) (hk _ k_650) (fun _ h9 => h9) rfl (by decide +kernel) rfl rfl (Nat.le_of_ble_eq_true rfl) d_A_readLaterName_58 (fun H locs hP hD hS => ?_)
        have hP : va_P D classes (aW cI cJ cZ cB g0 g1 g2 g3 g4 g5 g6 g7 g8 g9 g10 g11 g12 g13 g14 g15 flt fln ffr sta plc edd lab lbv opr acd (2 : Int32) agl len lin attz1 stp fol skdz1 snmz1 snuz1 byt ncn nsy nns nvs ntd lvs ltd ocn opl owd oln okd ogl olo TL) H := hP
        have hD : va_D A (aW cI cJ cZ cB g0 g1 g2 g3 g4 g5 g6 g7 g8 g9 g10 g11 g12 g13 g14 g15 flt fln ffr sta plc edd lab lbv opr acd (2 : Int32) agl len lin attz1 stp fol skdz1 snmz1 snuz1 byt ncn nsy nns nvs ntd lvs ltd ocn opl owd oln okd ogl olo TL) := hD
        refine lv_aload_n hx hb d_A_readLaterName_61 rfl (lv_at hl 2 rfl) ?_
        refine lv_iload_n hx hb d_A_readLaterName_62 rfl (lv_at hl 0 rfl) ?_
        refine va_put (D := D) (ci := 3) (v := .int (f_N_localDigit snmz1 (6 : Int32))) (ty := .int) (C := "SignMachine$Assembler") (T := F_A) (N := 15) hx hb hk fi_A ft_A ft_A_ok fn_A hown hK.1 hP hD hS 0 rfl rfl 14 (by decide) (hk _ k_651) (fun _ h9 => h9) rfl (by decide +kernel) rfl rfl (Nat.le_of_ble_eq_true rfl) d_A_readLaterName_63 (fun H locs hP hD hS => ?_)
        have hP : va_P D classes (aW cI cJ cZ cB g0 g1 g2 g3 g4 g5 g6 g7 g8 g9 g10 g11 g12 g13 g14 g15 flt fln ffr sta plc edd lab lbv opr acd (2 : Int32) (f_N_localDigit snmz1 (6 : Int32)) len lin attz1 stp fol skdz1 snmz1 snuz1 byt ncn nsy nns nvs ntd lvs ltd ocn opl owd oln okd ogl olo TL) H := hP
        have hD : va_D A (aW cI cJ cZ cB g0 g1 g2 g3 g4 g5 g6 g7 g8 g9 g10 g11 g12 g13 g14 g15 flt fln ffr sta plc edd lab lbv opr acd (2 : Int32) (f_N_localDigit snmz1 (6 : Int32)) len lin attz1 stp fol skdz1 snmz1 snuz1 byt ncn nsy nns nvs ntd lvs ltd ocn opl owd oln okd ogl olo TL) := hD
        refine lv_iconst (v := 1) hx hb d_A_readLaterName_66 (by decide) ?_
        exact W.zret (v := (1 : Int32)) hx hb hr rfl (fun t ht hW => ⟨⟨(1 : Int32), (flt, fln, (2 : Int32), (f_N_localDigit snmz1 (6 : Int32)), attz1, skdz1, snmz1, snuz1, ncn, nsy, nns, nvs, ntd), rfl, by simp only [f_A_readLaterName, ← hz1, if_pos c2, if_pos c3, if_neg c4], by show va_P D classes _ t.heap; rw [ht]; exact hP⟩, hS.F ht⟩) hS.2.2 d_A_readLaterName_67
theorem v_A_readLaterName {R : Room} {s : State} {args : Array Value} {own : String} {index : Nat} (hk : ∀ w ∈ tb, w.before args s = true) (hl : Cond.methodLink own index y_A_readLaterName ∈ tb) (hR : 3 + 1 ≤ R.frames ∧ 8 + (3 + 11) + 67 ≤ R.locals) : CallW R s args own "SignMachine$Assembler" index y_A_readLaterName b_A_readLaterName 3 (some .boolean) (.code y_A_readLaterName b_A_readLaterName 3 (some .boolean) :: tb) ({ frames := 3, cells := 0, slots := 0, locals := 67 }) 0 0 0 := mk_v 0 hk k_1039 hl k_1038 k_53 k_123 rfl rfl h_A_readLaterName hR
def f_A_close (flt : Int32) (fln : Int32) (nvs : Nat → Int32) (owd : Nat → Int32) (oln : Nat → Int32) (okd : Nat → Int32) (ogl : Nat → Int32) (a1 : Int32) : (Int32) × (Int32) × (Nat → Int32) := (if (f_O_kindOf okd a1) = (0 : Int32) then (flt, fln, owd) else (if (f_O_kindOf okd a1) = (1 : Int32) then (if (f_O_kindOf okd a1) = (2 : Int32) then ((3 : Int32), (f_O_lineOf oln a1), owd) else (if (if 0 ≤ (f_N_valueOf nvs (f_O_goalOf ogl a1)) then (f_N_valueOf nvs (f_O_goalOf ogl a1)) else 0 - (f_N_valueOf nvs (f_O_goalOf ogl a1))) ≤ (4095 : Int32) then (match (f_O_putAddress owd a1 (f_N_valueOf nvs (f_O_goalOf ogl a1))) with | (owdz8) => (flt, fln, owdz8)) else ((4 : Int32), (f_O_lineOf oln a1), owd))) else (if (f_O_kindOf okd a1) = (2 : Int32) then ((3 : Int32), (f_O_lineOf oln a1), owd) else (if (if 0 ≤ (f_O_goalOf ogl a1) then (f_O_goalOf ogl a1) else 0 - (f_O_goalOf ogl a1)) ≤ (4095 : Int32) then (match (f_O_putAddress owd a1 (f_O_goalOf ogl a1)) with | (owdz5) => (flt, fln, owdz5)) else ((4 : Int32), (f_O_lineOf oln a1), owd)))))
set_option maxHeartbeats 4000000 in
set_option maxRecDepth 100000 in
theorem c_A_close (l : Launch) (D : va_G) (cI cJ cZ cB : ClassId) (g0 g1 g2 g3 g4 g5 g6 g7 g8 g9 g10 g11 g12 g13 g14 g15 : Nat) (sz : Nat) (flt : Int32) (fln : Int32) (ffr : Int32) (sta : Int32) (plc : Int32) (edd : Int32) (lab : Int64) (lbv : Int32) (opr : Option Nat) (acd : Int32) (akd : Int32) (agl : Int32) (len : Int32) (lin : Int32) (att : Int32) (stp : Int32) (fol : Int32) (skd : Int32) (snm : Int64) (snu : Int32) (byt : Nat → Int32) (ncn : Int32) (nsy : Int32) (nns : Nat → Int64) (nvs : Nat → Int32) (ntd : Nat → Int32) (lvs : Nat → Int32) (ltd : Nat → Int32) (ocn : Int32) (opl : Nat → Int32) (owd : Nat → Int32) (oln : Nat → Int32) (okd : Nat → Int32) (ogl : Nat → Int32) (olo : Nat → Int32) (TL : va_W) (a1 : Int32) : Met l y_A_close (.code y_A_close b_A_close 4 none :: tb) ({ frames := 3, cells := 0, slots := 0, locals := 63 }) (pM D cI cJ cZ cB (aW cI cJ cZ cB g0 g1 g2 g3 g4 g5 g6 g7 g8 g9 g10 g11 g12 g13 g14 g15 flt fln ffr sta plc edd lab lbv opr acd akd agl len lin att stp fol skd snm snu byt ncn nsy nns nvs ntd lvs ltd ocn opl owd oln okd ogl olo TL) sz [.ref g0, .int a1]) (qV D (fun u => u = f_A_close flt fln nvs owd oln okd ogl a1) (fun (u : (Int32) × (Int32) × (Nat → Int32)) => match u with | (u_flt, u_fln, u_owd) => (aW cI cJ cZ cB g0 g1 g2 g3 g4 g5 g6 g7 g8 g9 g10 g11 g12 g13 g14 g15 u_flt u_fln ffr sta plc edd lab lbv opr acd akd agl len lin att stp fol skd snm snu byt ncn nsy nns nvs ntd lvs ltd ocn opl u_owd oln okd ogl olo TL)) (va_A (aW cI cJ cZ cB g0 g1 g2 g3 g4 g5 g6 g7 g8 g9 g10 g11 g12 g13 g14 g15 flt fln ffr sta plc edd lab lbv opr acd akd agl len lin att stp fol skd snm snu byt ncn nsy nns nvs ntd lvs ltd ocn opl owd oln okd ogl olo TL) sz)) 0 0 (va_A (aW cI cJ cZ cB g0 g1 g2 g3 g4 g5 g6 g7 g8 g9 g10 g11 g12 g13 g14 g15 flt fln ffr sta plc edd lab lbv opr acd akd agl len lin att stp fol skd snm snu byt ncn nsy nns nvs ntd lvs ltd ocn opl owd oln okd ogl olo TL) sz) := by
  refine Met.ofW (cc := b_A_close) (maxL := 4) (ret := none) (by decide) rfl ?_
  intro p e s m args below meth c s₁ B hml hv
  obtain ⟨rfl, hsz, hK, hP, hD0⟩ := hv
  subst hsz
  have hD := hD0.self (sz := s.heap.size)
  generalize hAe : va_A (aW cI cJ cZ cB g0 g1 g2 g3 g4 g5 g6 g7 g8 g9 g10 g11 g12 g13 g14 g15 flt fln ffr sta plc edd lab lbv opr acd akd agl len lin att stp fol skd snm snu byt ncn nsy nns nvs ntd lvs ltd ocn opl owd oln okd ogl olo TL) s.heap.size = A at hD ⊢
  have hA : ∀ q : Nat, s.heap.size ≤ q → A q := fun q h => by rw [← hAe]; exact Or.inr h
  have hS : va_S A s.heap s.heap [] := va_S.rf
  have hx := B.exec
  have hb := B.bytes
  have hr := B.returns
  have hts := atoms_spec (ws := .code y_A_close b_A_close 4 none :: tb) B.pre
  have hk : ∀ w ∈ tb, w.before [.ref g0, .int a1].toArray s = true := fun w h => hts w (List.mem_cons_of_mem _ h)
  have hown : s.vm.findClass "SignMachine$Assembler" = some m.cls := findClass_of_methodNamed B.named
  have hlocks := B.notSynchronized
  have hl := lv_entry ([.ref g0, .int a1]) (n := 4) (Nat.le_of_ble_eq_true rfl)
  rw [lg_entry_eq]
  generalize (lg_sl ([.ref g0, .int a1]) ++ List.replicate (4 - (lg_sl ([.ref g0, .int a1])).length) Slot.unset).toArray = ls at hl ⊢
  have hl : lv_has ls 4 [(0, .ref g0), (1, .int a1)] := hl
  refine lv_aload_n hx hb d_A_close_0 rfl (lv_at hl 0 rfl) ?_
  refine va_get (D := D) (ci := 3) (v := .ref g9) (C := "SignMachine$Assembler") (T := F_A) (N := 15) hx hb hk fi_A hown hK.1 hP 0 rfl rfl 2 (by decide) (hk _ k_634) (fun _ h9 => h9) rfl d_A_close_1 ?_
  refine lv_iload_n hx hb d_A_close_4 rfl (lv_at hl 1 rfl) ?_
  refine cs_i (W.runV (C := "SignMachine$Output") (As := [.int a1]) (rest := []) ⟨hx, hb, hml, hown, hk⟩ (c_O_kindOf l D cI cJ cZ cB g0 g1 g2 g3 g4 g5 g6 g7 g8 g9 g10 g11 g12 g13 g14 g15 flt fln ffr sta plc edd lab lbv opr acd akd agl len lin att stp fol skd snm snu byt ncn nsy nns nvs ntd lvs ltd ocn opl owd oln okd ogl olo TL a1) (v_O_kindOf hk k_1082 ⟨Nat.le_of_ble_eq_true rfl, Nat.le_of_ble_eq_true rfl⟩) (pR_v hK hP (ci := 6) (q0 := 9) rfl rfl rfl) rfl rfl hl.1 rfl (lv_room (Nat.le_of_ble_eq_true rfl)) d_A_close_5 ⟨Nat.le_of_ble_eq_true rfl, Nat.le_of_ble_eq_true rfl⟩) ?_
  refine lv_istore_n (lv' := [(2, .int (f_O_kindOf okd a1)), (0, .ref g0), (1, .int a1)]) hx hb d_A_close_8 rfl hl (by decide) rfl (fun ls hl => ?_)
  refine lv_iload_n hx hb d_A_close_9 rfl (lv_at hl 0 rfl) ?_
  refine lv_if_ne (tgt := 14) hx hb d_A_close_10 (by decide) (fun c1 => ?_) (fun c1 => ?_)
  · refine lv_aload_n hx hb d_A_close_14 rfl (lv_at hl 1 rfl) ?_
    refine va_get (D := D) (ci := 3) (v := .ref g9) (C := "SignMachine$Assembler") (T := F_A) (N := 15) hx hb hk fi_A hown hK.1 hP 0 rfl rfl 2 (by decide) (hk _ k_634) (fun _ h9 => h9) rfl d_A_close_15 ?_
    refine lv_iload_n hx hb d_A_close_18 rfl (lv_at hl 2 rfl) ?_
    refine cs_i (W.runV (C := "SignMachine$Output") (As := [.int a1]) (rest := []) ⟨hx, hb, hml, hown, hk⟩ (c_O_goalOf l D cI cJ cZ cB g0 g1 g2 g3 g4 g5 g6 g7 g8 g9 g10 g11 g12 g13 g14 g15 flt fln ffr sta plc edd lab lbv opr acd akd agl len lin att stp fol skd snm snu byt ncn nsy nns nvs ntd lvs ltd ocn opl owd oln okd ogl olo TL a1) (v_O_goalOf hk k_1086 ⟨Nat.le_of_ble_eq_true rfl, Nat.le_of_ble_eq_true rfl⟩) (pR_v hK hP (ci := 6) (q0 := 9) rfl rfl rfl) rfl rfl hl.1 rfl (lv_room (Nat.le_of_ble_eq_true rfl)) d_A_close_19 ⟨Nat.le_of_ble_eq_true rfl, Nat.le_of_ble_eq_true rfl⟩) ?_
    refine lv_istore_n (lv' := [(3, .int (f_O_goalOf ogl a1)), (2, .int (f_O_kindOf okd a1)), (0, .ref g0), (1, .int a1)]) hx hb d_A_close_22 rfl hl (by decide) rfl (fun ls hl => ?_)
    refine lv_iload_n hx hb d_A_close_23 rfl (lv_at hl 1 rfl) ?_
    refine lv_iconst (v := 1) hx hb d_A_close_24 (by decide) ?_
    refine lv_icmp_ne (tgt := 37) hx hb d_A_close_25 (by decide) (fun c2 => ?_) (fun c2 => ?_)
    · refine lv_iload_n hx hb d_A_close_37 rfl (lv_at hl 1 rfl) ?_
      refine lv_iconst (v := 2) hx hb d_A_close_38 (by decide) ?_
      refine lv_icmp_ne (tgt := 62) hx hb d_A_close_39 (by decide) (fun c3 => ?_) (fun c3 => ?_)
      · refine lv_iload_n hx hb d_A_close_62 rfl (lv_at hl 0 rfl) ?_
        refine va_mabs hx hb (hml.trans hl.1.symm) hown (hk _ k_1048) (hk _ k_331) (hk _ k_121) (hk _ k_absc) (Nat.le_of_ble_eq_true rfl) (Nat.le_of_ble_eq_true rfl) (Nat.zero_le _) (Nat.zero_le _) d_A_close_63 ?_
        refine lv_sipush (v := 4095) hx hb d_A_close_66 (by decide) ?_
        refine lv_icmp_le (tgt := 92) hx hb d_A_close_69 (by decide) (fun c4 => ?_) (fun c4 => ?_)
        · refine lv_aload_n hx hb d_A_close_92 rfl (lv_at hl 2 rfl) ?_
          refine va_get (D := D) (ci := 3) (v := .ref g9) (C := "SignMachine$Assembler") (T := F_A) (N := 15) hx hb hk fi_A hown hK.1 hP 0 rfl rfl 2 (by decide) (hk _ k_634) (fun _ h9 => h9) rfl d_A_close_93 ?_
          refine lv_iload_n hx hb d_A_close_96 rfl (lv_at hl 3 rfl) ?_
          refine lv_iload_n hx hb d_A_close_97 rfl (lv_at hl 0 rfl) ?_
          refine ca_v (va_runV (C := "SignMachine$Output") (As := [.int a1, .int (f_O_goalOf ogl a1)]) (rest := []) ⟨hx, hb, hml, hown, hk⟩ (c_O_putAddress l D cI cJ cZ cB g0 g1 g2 g3 g4 g5 g6 g7 g8 g9 g10 g11 g12 g13 g14 g15 s.heap.size flt fln ffr sta plc edd lab lbv opr acd akd agl len lin att stp fol skd snm snu byt ncn nsy nns nvs ntd lvs ltd ocn opl owd oln okd ogl olo TL a1 (f_O_goalOf ogl a1)) (v_O_putAddress hk k_1094 ⟨Nat.le_of_ble_eq_true rfl, Nat.le_of_ble_eq_true rfl⟩) (pM_v hK hP hD (ci := 6) (q0 := 9) rfl rfl rfl) rfl rfl hl.1 rfl (lv_room (Nat.le_of_ble_eq_true rfl)) d_A_close_98 ⟨Nat.le_of_ble_eq_true rfl, Nat.le_of_ble_eq_true rfl⟩) hS hA hD (fun u H locs hz5 hP hS => ?_)
          obtain ⟨owdz5, hu⟩ : ∃ y, y = u := ⟨_, rfl⟩
          subst hu
          have hP : va_P D classes (aW cI cJ cZ cB g0 g1 g2 g3 g4 g5 g6 g7 g8 g9 g10 g11 g12 g13 g14 g15 flt fln ffr sta plc edd lab lbv opr acd akd agl len lin att stp fol skd snm snu byt ncn nsy nns nvs ntd lvs ltd ocn opl owdz5 oln okd ogl olo TL) H := hP
          have hD : va_D A (aW cI cJ cZ cB g0 g1 g2 g3 g4 g5 g6 g7 g8 g9 g10 g11 g12 g13 g14 g15 flt fln ffr sta plc edd lab lbv opr acd akd agl len lin att stp fol skd snm snu byt ncn nsy nns nvs ntd lvs ltd ocn opl owdz5 oln okd ogl olo TL) := dsame hD rfl
          try dsimp only at hz5
          exact W.vret hx hb hr (fun t ht hW => ⟨⟨(flt, fln, owdz5), rfl, by simp only [f_A_close, if_neg c1, if_neg c2, if_neg c3, if_pos c4, ← hz5], by show va_P D classes _ t.heap; rw [ht]; exact hP⟩, hS.F ht⟩) hS.2.2 d_A_close_101
        · refine lv_aload_n hx hb d_A_close_72 rfl (lv_at hl 2 rfl) ?_
          refine lv_iconst (v := 4) hx hb d_A_close_73 (by decide) ?_
          refine va_put (D := D) (ci := 3) (v := .int (4 : Int32)) (ty := .int) (C := "SignMachine$Assembler") (T := F_A) (N := 15) hx hb hk fi_A ft_A ft_A_ok fn_A hown hK.1 hP hD hS 0 rfl rfl 3 (by decide) (hk _ k_636) (fun _ h9 => h9) rfl (by decide +kernel) rfl rfl (Nat.le_of_ble_eq_true rfl) d_A_close_74 (fun H locs hP hD hS => ?_)
          have hP : va_P D classes (aW cI cJ cZ cB g0 g1 g2 g3 g4 g5 g6 g7 g8 g9 g10 g11 g12 g13 g14 g15 (4 : Int32) fln ffr sta plc edd lab lbv opr acd akd agl len lin att stp fol skd snm snu byt ncn nsy nns nvs ntd lvs ltd ocn opl owd oln okd ogl olo TL) H := hP
          have hD : va_D A (aW cI cJ cZ cB g0 g1 g2 g3 g4 g5 g6 g7 g8 g9 g10 g11 g12 g13 g14 g15 (4 : Int32) fln ffr sta plc edd lab lbv opr acd akd agl len lin att stp fol skd snm snu byt ncn nsy nns nvs ntd lvs ltd ocn opl owd oln okd ogl olo TL) := hD
          refine lv_aload_n hx hb d_A_close_77 rfl (lv_at hl 2 rfl) ?_
          refine lv_aload_n hx hb d_A_close_78 rfl (lv_at hl 2 rfl) ?_
          refine va_get (D := D) (ci := 3) (v := .ref g9) (C := "SignMachine$Assembler") (T := F_A) (N := 15) hx hb hk fi_A hown hK.1 hP 0 rfl rfl 2 (by decide) (hk _ k_634) (fun _ h9 => h9) rfl d_A_close_79 ?_
          refine lv_iload_n hx hb d_A_close_82 rfl (lv_at hl 3 rfl) ?_
          refine cs_i (W.runV (C := "SignMachine$Output") (As := [.int a1]) (rest := [.ref g0]) ⟨hx, hb, hml, hown, hk⟩ (c_O_lineOf l D cI cJ cZ cB g0 g1 g2 g3 g4 g5 g6 g7 g8 g9 g10 g11 g12 g13 g14 g15 (4 : Int32) fln ffr sta plc edd lab lbv opr acd akd agl len lin att stp fol skd snm snu byt ncn nsy nns nvs ntd lvs ltd ocn opl owd oln okd ogl olo TL a1) (v_O_lineOf hk k_1090 ⟨Nat.le_of_ble_eq_true rfl, Nat.le_of_ble_eq_true rfl⟩) (pR_v hK hP (ci := 6) (q0 := 9) rfl rfl rfl) rfl rfl hl.1 rfl (lv_room (Nat.le_of_ble_eq_true rfl)) d_A_close_83 ⟨Nat.le_of_ble_eq_true rfl, Nat.le_of_ble_eq_true rfl⟩) ?_
          refine va_put (D := D) (ci := 3) (v := .int (f_O_lineOf oln a1)) (ty := .int) (C := "SignMachine$Assembler") (T := F_A) (N := 15) hx hb hk fi_A ft_A ft_A_ok fn_A hown hK.1 hP hD hS 0 rfl rfl 4 (by decide) (hk _ k_638) (fun _ h9 => h9) rfl (by decide +kernel) rfl rfl (Nat.le_of_ble_eq_true rfl) d_A_close_86 (fun H locs hP hD hS => ?_)
          have hP : va_P D classes (aW cI cJ cZ cB g0 g1 g2 g3 g4 g5 g6 g7 g8 g9 g10 g11 g12 g13 g14 g15 (4 : Int32) (f_O_lineOf oln a1) ffr sta plc edd lab lbv opr acd akd agl len lin att stp fol skd snm snu byt ncn nsy nns nvs ntd lvs ltd ocn opl owd oln okd ogl olo TL) H := hP
          have hD : va_D A (aW cI cJ cZ cB g0 g1 g2 g3 g4 g5 g6 g7 g8 g9 g10 g11 g12 g13 g14 g15 (4 : Int32) (f_O_lineOf oln a1) ffr sta plc edd lab lbv opr acd akd agl len lin att stp fol skd snm snu byt ncn nsy nns nvs ntd lvs ltd ocn opl owd oln okd ogl olo TL) := hD
          refine lv_goto (tgt := 101) hx hb d_A_close_89 (by decide) ?_
          exact W.vret hx hb hr (fun t ht hW => ⟨⟨((4 : Int32), (f_O_lineOf oln a1), owd), rfl, by simp only [f_A_close, if_neg c1, if_neg c2, if_neg c3, if_neg c4], by show va_P D classes _ t.heap; rw [ht]; exact hP⟩, hS.F ht⟩) hS.2.2 d_A_close_101
      · refine lv_aload_n hx hb d_A_close_42 rfl (lv_at hl 2 rfl) ?_
        refine lv_iconst (v := 3) hx hb d_A_close_43 (by decide) ?_
        refine va_put (D := D) (ci := 3) (v := .int (3 : Int32)) (ty := .int) (C := "SignMachine$Assembler") (T := F_A) (N := 15) hx hb hk fi_A ft_A ft_A_ok fn_A hown hK.1 hP hD hS 0 rfl rfl 3 (by decide) (hk _ k_636) (fun _ h9 => h9) rfl (by decide +kernel) rfl rfl (Nat.le_of_ble_eq_true rfl) d_A_close_44 (fun H locs hP hD hS => ?_)
        have hP : va_P D classes (aW cI cJ cZ cB g0 g1 g2 g3 g4 g5 g6 g7 g8 g9 g10 g11 g12 g13 g14 g15 (3 : Int32) fln ffr sta plc edd lab lbv opr acd akd agl len lin att stp fol skd snm snu byt ncn nsy nns nvs ntd lvs ltd ocn opl owd oln okd ogl olo TL) H := hP
        have hD : va_D A (aW cI cJ cZ cB g0 g1 g2 g3 g4 g5 g6 g7 g8 g9 g10 g11 g12 g13 g14 g15 (3 : Int32) fln ffr sta plc edd lab lbv opr acd akd agl len lin att stp fol skd snm snu byt ncn nsy nns nvs ntd lvs ltd ocn opl owd oln okd ogl olo TL) := hD
        refine lv_aload_n hx hb d_A_close_47 rfl (lv_at hl 2 rfl) ?_
        refine lv_aload_n hx hb d_A_close_48 rfl (lv_at hl 2 rfl) ?_
        refine va_get (D := D) (ci := 3) (v := .ref g9) (C := "SignMachine$Assembler") (T := F_A) (N := 15) hx hb hk fi_A hown hK.1 hP 0 rfl rfl 2 (by decide) (hk _ k_634) (fun _ h9 => h9) rfl d_A_close_49 ?_
        refine lv_iload_n hx hb d_A_close_52 rfl (lv_at hl 3 rfl) ?_
        refine cs_i (W.runV (C := "SignMachine$Output") (As := [.int a1]) (rest := [.ref g0]) ⟨hx, hb, hml, hown, hk⟩ (c_O_lineOf l D cI cJ cZ cB g0 g1 g2 g3 g4 g5 g6 g7 g8 g9 g10 g11 g12 g13 g14 g15 (3 : Int32) fln ffr sta plc edd lab lbv opr acd akd agl len lin att stp fol skd snm snu byt ncn nsy nns nvs ntd lvs ltd ocn opl owd oln okd ogl olo TL a1) (v_O_lineOf hk k_1090 ⟨Nat.le_of_ble_eq_true rfl, Nat.le_of_ble_eq_true rfl⟩) (pR_v hK hP (ci := 6) (q0 := 9) rfl rfl rfl) rfl rfl hl.1 rfl (lv_room (Nat.le_of_ble_eq_true rfl)) d_A_close_53 ⟨Nat.le_of_ble_eq_true rfl, Nat.le_of_ble_eq_true rfl⟩) ?_
        refine va_put (D := D) (ci := 3) (v := .int (f_O_lineOf oln a1)) (ty := .int) (C := "SignMachine$Assembler") (T := F_A) (N := 15) hx hb hk fi_A ft_A ft_A_ok fn_A hown hK.1 hP hD hS 0 rfl rfl 4 (by decide) (hk _ k_638) (fun _ h9 => h9) rfl (by decide +kernel) rfl rfl (Nat.le_of_ble_eq_true rfl) d_A_close_56 (fun H locs hP hD hS => ?_)
        have hP : va_P D classes (aW cI cJ cZ cB g0 g1 g2 g3 g4 g5 g6 g7 g8 g9 g10 g11 g12 g13 g14 g15 (3 : Int32) (f_O_lineOf oln a1) ffr sta plc edd lab lbv opr acd akd agl len lin att stp fol skd snm snu byt ncn nsy nns nvs ntd lvs ltd ocn opl owd oln okd ogl olo TL) H := hP
        have hD : va_D A (aW cI cJ cZ cB g0 g1 g2 g3 g4 g5 g6 g7 g8 g9 g10 g11 g12 g13 g14 g15 (3 : Int32) (f_O_lineOf oln a1) ffr sta plc edd lab lbv opr acd akd agl len lin att stp fol skd snm snu byt ncn nsy nns nvs ntd lvs ltd ocn opl owd oln okd ogl olo TL) := hD
        refine lv_goto (tgt := 101) hx hb d_A_close_59 (by decide) ?_
        exact W.vret hx hb hr (fun t ht hW => ⟨⟨((3 : Int32), (f_O_lineOf oln a1), owd), rfl, by simp only [f_A_close, if_neg c1, if_neg c2, if_pos c3], by show va_P D classes _ t.heap; rw [ht]; exact hP⟩, hS.F ht⟩) hS.2.2 d_A_close_101
    · refine lv_aload_n hx hb d_A_close_28 rfl (lv_at hl 2 rfl) ?_
      refine va_get (D := D) (ci := 3) (v := .ref g3) (C := "SignMachine$Assembler") (T := F_A) (N := 15) hx hb hk fi_A hown hK.1 hP 0 rfl rfl 1 (by decide) (hk _ k_633) (fun _ h9 => h9) rfl d_A_close_29 ?_
      refine lv_iload_n hx hb d_A_close_32 rfl (lv_at hl 0 rfl) ?_
      refine cs_i (W.runV (C := "SignMachine$Names") (As := [.int (f_O_goalOf ogl a1)]) (rest := []) ⟨hx, hb, hml, hown, hk⟩ (c_N_valueOf l D cI cJ cZ cB g0 g1 g2 g3 g4 g5 g6 g7 g8 g9 g10 g11 g12 g13 g14 g15 flt fln ffr sta plc edd lab lbv opr acd akd agl len lin att stp fol skd snm snu byt ncn nsy nns nvs ntd lvs ltd ocn opl owd oln okd ogl olo TL (f_O_goalOf ogl a1)) (v_N_valueOf hk k_1005 ⟨Nat.le_of_ble_eq_true rfl, Nat.le_of_ble_eq_true rfl⟩) (pR_v hK hP (ci := 5) (q0 := 3) rfl rfl rfl) rfl rfl hl.1 rfl (lv_room (Nat.le_of_ble_eq_true rfl)) d_A_close_33 ⟨Nat.le_of_ble_eq_true rfl, Nat.le_of_ble_eq_true rfl⟩) ?_
      refine lv_istore_n (lv' := [(3, .int (f_N_valueOf nvs (f_O_goalOf ogl a1))), (2, .int (f_O_kindOf okd a1)), (0, .ref g0), (1, .int a1)]) hx hb d_A_close_36 rfl hl (by decide) rfl (fun ls hl => ?_)
      refine lv_iload_n hx hb d_A_close_37 rfl (lv_at hl 1 rfl) ?_
      refine lv_iconst (v := 2) hx hb d_A_close_38 (by decide) ?_
      refine lv_icmp_ne (tgt := 62) hx hb d_A_close_39 (by decide) (fun c6 => ?_) (fun c6 => ?_)
      · refine lv_iload_n hx hb d_A_close_62 rfl (lv_at hl 0 rfl) ?_
        refine va_mabs hx hb (hml.trans hl.1.symm) hown (hk _ k_1048) (hk _ k_331) (hk _ k_121) (hk _ k_absc) (Nat.le_of_ble_eq_true rfl) (Nat.le_of_ble_eq_true rfl) (Nat.zero_le _) (Nat.zero_le _) d_A_close_63 ?_
        refine lv_sipush (v := 4095) hx hb d_A_close_66 (by decide) ?_
        refine lv_icmp_le (tgt := 92) hx hb d_A_close_69 (by decide) (fun c7 => ?_) (fun c7 => ?_)
        · refine lv_aload_n hx hb d_A_close_92 rfl (lv_at hl 2 rfl) ?_
          refine va_get (D := D) (ci := 3) (v := .ref g9) (C := "SignMachine$Assembler") (T := F_A) (N := 15) hx hb hk fi_A hown hK.1 hP 0 rfl rfl 2 (by decide) (hk _ k_634) (fun _ h9 => h9) rfl d_A_close_93 ?_
          refine lv_iload_n hx hb d_A_close_96 rfl (lv_at hl 3 rfl) ?_
          refine lv_iload_n hx hb d_A_close_97 rfl (lv_at hl 0 rfl) ?_
          refine ca_v (va_runV (C := "SignMachine$Output") (As := [.int a1, .int (f_N_valueOf nvs (f_O_goalOf ogl a1))]) (rest := []) ⟨hx, hb, hml, hown, hk⟩ (c_O_putAddress l D cI cJ cZ cB g0 g1 g2 g3 g4 g5 g6 g7 g8 g9 g10 g11 g12 g13 g14 g15 s.heap.size flt fln ffr sta plc edd lab lbv opr acd akd agl len lin att stp fol skd snm snu byt ncn nsy nns nvs ntd lvs ltd ocn opl owd oln okd ogl olo TL a1 (f_N_valueOf nvs (f_O_goalOf ogl a1))) (v_O_putAddress hk k_1094 ⟨Nat.le_of_ble_eq_true rfl, Nat.le_of_ble_eq_true rfl⟩) (pM_v hK hP hD (ci := 6) (q0 := 9) rfl rfl rfl) rfl rfl hl.1 rfl (lv_room (Nat.le_of_ble_eq_true rfl)) d_A_close_98 ⟨Nat.le_of_ble_eq_true rfl, Nat.le_of_ble_eq_true rfl⟩) hS hA hD (fun u H locs hz8 hP hS => ?_)
          obtain ⟨owdz8, hu⟩ : ∃ y, y = u := ⟨_, rfl⟩
          subst hu
          have hP : va_P D classes (aW cI cJ cZ cB g0 g1 g2 g3 g4 g5 g6 g7 g8 g9 g10 g11 g12 g13 g14 g15 flt fln ffr sta plc edd lab lbv opr acd akd agl len lin att stp fol skd snm snu byt ncn nsy nns nvs ntd lvs ltd ocn opl owdz8 oln okd ogl olo TL) H := hP
          have hD : va_D A (aW cI cJ cZ cB g0 g1 g2 g3 g4 g5 g6 g7 g8 g9 g10 g11 g12 g13 g14 g15 flt fln ffr sta plc edd lab lbv opr acd akd agl len lin att stp fol skd snm snu byt ncn nsy nns nvs ntd lvs ltd ocn opl owdz8 oln okd ogl olo TL) := dsame hD rfl
          try dsimp only at hz8
          exact W.vret hx hb hr (fun t ht hW => ⟨⟨(flt, fln, owdz8), rfl, by simp only [f_A_close, if_neg c1, if_pos c2, if_neg c6, if_pos c7, ← hz8], by show va_P D classes _ t.heap; rw [ht]; exact hP⟩, hS.F ht⟩) hS.2.2 d_A_close_101
        · refine lv_aload_n hx hb d_A_close_72 rfl (lv_at hl 2 rfl) ?_
          refine lv_iconst (v := 4) hx hb d_A_close_73 (by decide) ?_
          refine va_put (D := D) (ci := 3) (v := .int (4 : Int32)) (ty := .int) (C := "SignMachine$Assembler") (T := F_A) (N := 15) hx hb hk fi_A ft_A ft_A_ok fn_A hown hK.1 hP hD hS 0 rfl rfl 3 (by decide) (hk _ k_636) (fun _ h9 => h9) rfl (by decide +kernel) rfl rfl (Nat.le_of_ble_eq_true rfl) d_A_close_74 (fun H locs hP hD hS => ?_)
          have hP : va_P D classes (aW cI cJ cZ cB g0 g1 g2 g3 g4 g5 g6 g7 g8 g9 g10 g11 g12 g13 g14 g15 (4 : Int32) fln ffr sta plc edd lab lbv opr acd akd agl len lin att stp fol skd snm snu byt ncn nsy nns nvs ntd lvs ltd ocn opl owd oln okd ogl olo TL) H := hP
          have hD : va_D A (aW cI cJ cZ cB g0 g1 g2 g3 g4 g5 g6 g7 g8 g9 g10 g11 g12 g13 g14 g15 (4 : Int32) fln ffr sta plc edd lab lbv opr acd akd agl len lin att stp fol skd snm snu byt ncn nsy nns nvs ntd lvs ltd ocn opl owd oln okd ogl olo TL) := hD
          refine lv_aload_n hx hb d_A_close_77 rfl (lv_at hl 2 rfl) ?_
          refine lv_aload_n hx hb d_A_close_78 rfl (lv_at hl 2 rfl) ?_
          refine va_get (D := D) (ci := 3) (v := .ref g9) (C := "SignMachine$Assembler") (T := F_A) (N := 15) hx hb hk fi_A hown hK.1 hP 0 rfl rfl 2 (by decide) (hk _ k_634) (fun _ h9 => h9) rfl d_A_close_79 ?_
          refine lv_iload_n hx hb d_A_close_82 rfl (lv_at hl 3 rfl) ?_
          refine cs_i (W.runV (C := "SignMachine$Output") (As := [.int a1]) (rest := [.ref g0]) ⟨hx, hb, hml, hown, hk⟩ (c_O_lineOf l D cI cJ cZ cB g0 g1 g2 g3 g4 g5 g6 g7 g8 g9 g10 g11 g12 g13 g14 g15 (4 : Int32) fln ffr sta plc edd lab lbv opr acd akd agl len lin att stp fol skd snm snu byt ncn nsy nns nvs ntd lvs ltd ocn opl owd oln okd ogl olo TL a1) (v_O_lineOf hk k_1090 ⟨Nat.le_of_ble_eq_true rfl, Nat.le_of_ble_eq_true rfl⟩) (pR_v hK hP (ci := 6) (q0 := 9) rfl rfl rfl) rfl rfl hl.1 rfl (lv_room (Nat.le_of_ble_eq_true rfl)) d_A_close_83 ⟨Nat.le_of_ble_eq_true rfl, Nat.le_of_ble_eq_true rfl⟩) ?_
          refine va_put (D := D) (ci := 3) (v := .int (f_O_lineOf oln a1)) (ty := .int) (C := "SignMachine$Assembler") (T := F_A) (N := 15) hx hb hk fi_A ft_A ft_A_ok fn_A hown hK.1 hP hD hS 0 rfl rfl 4 (by decide) (hk _ k_638) (fun _ h9 => h9) rfl (by decide +kernel) rfl rfl (Nat.le_of_ble_eq_true rfl) d_A_close_86 (fun H locs hP hD hS => ?_)
          have hP : va_P D classes (aW cI cJ cZ cB g0 g1 g2 g3 g4 g5 g6 g7 g8 g9 g10 g11 g12 g13 g14 g15 (4 : Int32) (f_O_lineOf oln a1) ffr sta plc edd lab lbv opr acd akd agl len lin att stp fol skd snm snu byt ncn nsy nns nvs ntd lvs ltd ocn opl owd oln okd ogl olo TL) H := hP
          have hD : va_D A (aW cI cJ cZ cB g0 g1 g2 g3 g4 g5 g6 g7 g8 g9 g10 g11 g12 g13 g14 g15 (4 : Int32) (f_O_lineOf oln a1) ffr sta plc edd lab lbv opr acd akd agl len lin att stp fol skd snm snu byt ncn nsy nns nvs ntd lvs ltd ocn opl owd oln okd ogl olo TL) := hD
          refine lv_goto (tgt := 101) hx hb d_A_close_89 (by decide) ?_
          exact W.vret hx hb hr (fun t ht hW => ⟨⟨((4 : Int32), (f_O_lineOf oln a1), owd), rfl, by simp only [f_A_close, if_neg c1, if_pos c2, if_neg c6, if_neg c7], by show va_P D classes _ t.heap; rw [ht]; exact hP⟩, hS.F ht⟩) hS.2.2 d_A_close_101
      · refine lv_aload_n hx hb d_A_close_42 rfl (lv_at hl 2 rfl) ?_
        refine lv_iconst (v := 3) hx hb d_A_close_43 (by decide) ?_
        refine va_put (D := D) (ci := 3) (v := .int (3 : Int32)) (ty := .int) (C := "SignMachine$Assembler") (T := F_A) (N := 15) hx hb hk fi_A ft_A ft_A_ok fn_A hown hK.1 hP hD hS 0 rfl rfl 3 (by decide) (hk _ k_636) (fun _ h9 => h9) rfl (by decide +kernel) rfl rfl (Nat.le_of_ble_eq_true rfl) d_A_close_44 (fun H locs hP hD hS => ?_)
        have hP : va_P D classes (aW cI cJ cZ cB g0 g1 g2 g3 g4 g5 g6 g7 g8 g9 g10 g11 g12 g13 g14 g15 (3 : Int32) fln ffr sta plc edd lab lbv opr acd akd agl len lin att stp fol skd snm snu byt ncn nsy nns nvs ntd lvs ltd ocn opl owd oln okd ogl olo TL) H := hP
        have hD : va_D A (aW cI cJ cZ cB g0 g1 g2 g3 g4 g5 g6 g7 g8 g9 g10 g11 g12 g13 g14 g15 (3 : Int32) fln ffr sta plc edd lab lbv opr acd akd agl len lin att stp fol skd snm snu byt ncn nsy nns nvs ntd lvs ltd ocn opl owd oln okd ogl olo TL) := hD
        refine lv_aload_n hx hb d_A_close_47 rfl (lv_at hl 2 rfl) ?_
        refine lv_aload_n hx hb d_A_close_48 rfl (lv_at hl 2 rfl) ?_
        refine va_get (D := D) (ci := 3) (v := .ref g9) (C := "SignMachine$Assembler") (T := F_A) (N := 15) hx hb hk fi_A hown hK.1 hP 0 rfl rfl 2 (by decide) (hk _ k_634) (fun _ h9 => h9) rfl d_A_close_49 ?_
        refine lv_iload_n hx hb d_A_close_52 rfl (lv_at hl 3 rfl) ?_
        refine cs_i (W.runV (C := "SignMachine$Output") (As := [.int a1]) (rest := [.ref g0]) ⟨hx, hb, hml, hown, hk⟩ (c_O_lineOf l D cI cJ cZ cB g0 g1 g2 g3 g4 g5 g6 g7 g8 g9 g10 g11 g12 g13 g14 g15 (3 : Int32) fln ffr sta plc edd lab lbv opr acd akd agl len lin att stp fol skd snm snu byt ncn nsy nns nvs ntd lvs ltd ocn opl owd oln okd ogl olo TL a1) (v_O_lineOf hk k_1090 ⟨Nat.le_of_ble_eq_true rfl, Nat.le_of_ble_eq_true rfl⟩) (pR_v hK hP (ci := 6) (q0 := 9) rfl rfl rfl) rfl rfl hl.1 rfl (lv_room (Nat.le_of_ble_eq_true rfl)) d_A_close_53 ⟨Nat.le_of_ble_eq_true rfl, Nat.le_of_ble_eq_true rfl⟩) ?_
        refine va_put (D := D) (ci := 3) (v := .int (f_O_lineOf oln a1)) (ty := .int) (C := "SignMachine$Assembler") (T := F_A) (N := 15) hx hb hk fi_A ft_A ft_A_ok fn_A hown hK.1 hP hD hS 0 rfl rfl 4 (by decide) (hk _ k_638) (fun _ h9 => h9) rfl (by decide +kernel) rfl rfl (Nat.le_of_ble_eq_true rfl) d_A_close_56 (fun H locs hP hD hS => ?_)
        have hP : va_P D classes (aW cI cJ cZ cB g0 g1 g2 g3 g4 g5 g6 g7 g8 g9 g10 g11 g12 g13 g14 g15 (3 : Int32) (f_O_lineOf oln a1) ffr sta plc edd lab lbv opr acd akd agl len lin att stp fol skd snm snu byt ncn nsy nns nvs ntd lvs ltd ocn opl owd oln okd ogl olo TL) H := hP
        have hD : va_D A (aW cI cJ cZ cB g0 g1 g2 g3 g4 g5 g6 g7 g8 g9 g10 g11 g12 g13 g14 g15 (3 : Int32) (f_O_lineOf oln a1) ffr sta plc edd lab lbv opr acd akd agl len lin att stp fol skd snm snu byt ncn nsy nns nvs ntd lvs ltd ocn opl owd oln okd ogl olo TL) := hD
        refine lv_goto (tgt := 101) hx hb d_A_close_59 (by decide) ?_
        exact W.vret hx hb hr (fun t ht hW => ⟨⟨((3 : Int32), (f_O_lineOf oln a1), owd), rfl, by simp only [f_A_close, if_neg c1, if_pos c2, if_pos c6], by show va_P D classes _ t.heap; rw [ht]; exact hP⟩, hS.F ht⟩) hS.2.2 d_A_close_101
  · exact W.vret hx hb hr (fun t ht hW => ⟨⟨(flt, fln, owd), rfl, by simp only [f_A_close, if_pos c1], by show va_P D classes _ t.heap; rw [ht]; exact hP⟩, hS.F ht⟩) hS.2.2 d_A_close_13
theorem v_A_close {R : Room} {s : State} {args : Array Value} {own : String} {index : Nat} (hk : ∀ w ∈ tb, w.before args s = true) (hl : Cond.methodLink own index y_A_close ∈ tb) (hR : 3 + 1 ≤ R.frames ∧ 8 + (4 + 11) + 63 ≤ R.locals) : CallW R s args own "SignMachine$Assembler" index y_A_close b_A_close 4 none (.code y_A_close b_A_close 4 none :: tb) ({ frames := 3, cells := 0, slots := 0, locals := 63 }) 0 0 1 := mk_v 1 hk k_1081 hl k_1080 k_58 k_123 rfl rfl h_A_close hR
def f_A_atomValue (flt : Int32) (fln : Int32) (plc : Int32) (lin : Int32) (skd : Int32) (snm : Int64) (snu : Int32) (ncn : Int32) (nns : Nat → Int64) (nvs : Nat → Int32) (ntd : Nat → Int32) (lvs : Nat → Int32) (ltd : Nat → Int32)  : Int32 × (Int32) × (Int32) := (if skd = (1 : Int32) then (snu, flt, fln) else (if skd = (2 : Int32) then (if (f_N_localDigit snm (2 : Int32)) < (0 : Int32) then (if (bI (f_N_isTold ntd (f_N_find ncn nns snm))) = (0 : Int32) then (match (f_A_fail flt fln lin (3 : Int32)) with | (rz5, fltz5, flnz5) => (rz5, fltz5, flnz5)) else ((f_N_valueOf nvs (f_N_find ncn nns snm)), flt, fln)) else (if (bI (f_N_isLocalTold ltd (f_N_localDigit snm (2 : Int32)))) = (0 : Int32) then (match (f_A_fail flt fln lin (3 : Int32)) with | (rz7, fltz7, flnz7) => (rz7, fltz7, flnz7)) else ((f_N_localValue lvs (f_N_localDigit snm (2 : Int32))), flt, fln))) else (if skd = (3 : Int32) then (plc, flt, fln) else (match (f_A_fail flt fln lin (1 : Int32)) with | (rz9, fltz9, flnz9) => (rz9, fltz9, flnz9)))))
set_option maxHeartbeats 4000000 in
set_option maxRecDepth 100000 in
theorem c_A_atomValue (l : Launch) (D : va_G) (cI cJ cZ cB : ClassId) (g0 g1 g2 g3 g4 g5 g6 g7 g8 g9 g10 g11 g12 g13 g14 g15 : Nat) (sz : Nat) (flt : Int32) (fln : Int32) (ffr : Int32) (sta : Int32) (plc : Int32) (edd : Int32) (lab : Int64) (lbv : Int32) (opr : Option Nat) (acd : Int32) (akd : Int32) (agl : Int32) (len : Int32) (lin : Int32) (att : Int32) (stp : Int32) (fol : Int32) (skd : Int32) (snm : Int64) (snu : Int32) (byt : Nat → Int32) (ncn : Int32) (nsy : Int32) (nns : Nat → Int64) (nvs : Nat → Int32) (ntd : Nat → Int32) (lvs : Nat → Int32) (ltd : Nat → Int32) (ocn : Int32) (opl : Nat → Int32) (owd : Nat → Int32) (oln : Nat → Int32) (okd : Nat → Int32) (ogl : Nat → Int32) (olo : Nat → Int32) (TL : va_W)  : Met l y_A_atomValue (.code y_A_atomValue b_A_atomValue 3 (some .int) :: tb) ({ frames := 1, cells := 0, slots := 0, locals := 25 }) (pM D cI cJ cZ cB (aW cI cJ cZ cB g0 g1 g2 g3 g4 g5 g6 g7 g8 g9 g10 g11 g12 g13 g14 g15 flt fln ffr sta plc edd lab lbv opr acd akd agl len lin att stp fol skd snm snu byt ncn nsy nns nvs ntd lvs ltd ocn opl owd oln okd ogl olo TL) sz [.ref g0]) (qI D (fun r u => (r, u) = f_A_atomValue flt fln plc lin skd snm snu ncn nns nvs ntd lvs ltd) (fun (u : (Int32) × (Int32)) => match u with | (u_flt, u_fln) => (aW cI cJ cZ cB g0 g1 g2 g3 g4 g5 g6 g7 g8 g9 g10 g11 g12 g13 g14 g15 u_flt u_fln ffr sta plc edd lab lbv opr acd akd agl len lin att stp fol skd snm snu byt ncn nsy nns nvs ntd lvs ltd ocn opl owd oln okd ogl olo TL)) (va_A (aW cI cJ cZ cB g0 g1 g2 g3 g4 g5 g6 g7 g8 g9 g10 g11 g12 g13 g14 g15 flt fln ffr sta plc edd lab lbv opr acd akd agl len lin att stp fol skd snm snu byt ncn nsy nns nvs ntd lvs ltd ocn opl owd oln okd ogl olo TL) sz)) 0 0 (va_A (aW cI cJ cZ cB g0 g1 g2 g3 g4 g5 g6 g7 g8 g9 g10 g11 g12 g13 g14 g15 flt fln ffr sta plc edd lab lbv opr acd akd agl len lin att stp fol skd snm snu byt ncn nsy nns nvs ntd lvs ltd ocn opl owd oln okd ogl olo TL) sz) := by
  refine Met.ofW (cc := b_A_atomValue) (maxL := 3) (ret := (some .int)) (by decide) rfl ?_
  intro p e s m args below meth c s₁ B hml hv
  obtain ⟨rfl, hsz, hK, hP, hD0⟩ := hv
  subst hsz
  have hD := hD0.self (sz := s.heap.size)
  generalize hAe : va_A (aW cI cJ cZ cB g0 g1 g2 g3 g4 g5 g6 g7 g8 g9 g10 g11 g12 g13 g14 g15 flt fln ffr sta plc edd lab lbv opr acd akd agl len lin att stp fol skd snm snu byt ncn nsy nns nvs ntd lvs ltd ocn opl owd oln okd ogl olo TL) s.heap.size = A at hD ⊢
  have hA : ∀ q : Nat, s.heap.size ≤ q → A q := fun q h => by rw [← hAe]; exact Or.inr h
  have hS : va_S A s.heap s.heap [] := va_S.rf
  have hx := B.exec
  have hb := B.bytes
  have hr := B.returns
  have hts := atoms_spec (ws := .code y_A_atomValue b_A_atomValue 3 (some .int) :: tb) B.pre
  have hk : ∀ w ∈ tb, w.before [.ref g0].toArray s = true := fun w h => hts w (List.mem_cons_of_mem _ h)
  have hown : s.vm.findClass "SignMachine$Assembler" = some m.cls := findClass_of_methodNamed B.named
  have hlocks := B.notSynchronized
  have hl := lv_entry ([.ref g0]) (n := 3) (Nat.le_of_ble_eq_true rfl)
  rw [lg_entry_eq]
  generalize (lg_sl ([.ref g0]) ++ List.replicate (3 - (lg_sl ([.ref g0])).length) Slot.unset).toArray = ls at hl ⊢
  have hl : lv_has ls 3 [(0, .ref g0)] := hl
  refine lv_aload_n hx hb d_A_atomValue_0 rfl (lv_at hl 0 rfl) ?_
  refine va_get (D := D) (ci := 3) (v := .ref g1) (C := "SignMachine$Assembler") (T := F_A) (N := 15) hx hb hk fi_A hown hK.1 hP 0 rfl rfl 0 (by decide) (hk _ k_631) (fun _ h9 => h9) rfl d_A_atomValue_1 ?_
  refine va_getN (D := D) (ci := 4) (v := .int skd) (C := "SignMachine$Source") (T := F_R) (N := 9) hx hb hk fi_R hown hK.1 hP 1 rfl rfl 6 (by decide) (va_Nw.use rfl (hK.2 _ n_544)) (fun _ h9 => h9) rfl d_A_atomValue_4 ?_
  by_cases c1 : skd = (1 : Int32)
  · refine lv_tableIn (off := 25) (tgt := 32) hx hb d_A_atomValue_7 (by rw [c1]; decide) (by rw [c1]; decide) (by rw [c1]; rfl) (by decide) ?_
    refine lv_aload_n hx hb d_A_atomValue_32 rfl (lv_at hl 0 rfl) ?_
    refine va_get (D := D) (ci := 3) (v := .ref g1) (C := "SignMachine$Assembler") (T := F_A) (N := 15) hx hb hk fi_A hown hK.1 hP 0 rfl rfl 0 (by decide) (hk _ k_631) (fun _ h9 => h9) rfl d_A_atomValue_33 ?_
    refine va_getN (D := D) (ci := 4) (v := .int snu) (C := "SignMachine$Source") (T := F_R) (N := 9) hx hb hk fi_R hown hK.1 hP 1 rfl rfl 8 (by decide) (va_Nw.use rfl (hK.2 _ n_549)) (fun _ h9 => h9) rfl d_A_atomValue_36 ?_
    exact W.iret (v := snu) hx hb hr (fun t ht hW => ⟨⟨snu, (flt, fln), rfl, by simp only [f_A_atomValue, if_pos c1], by show va_P D classes _ t.heap; rw [ht]; exact hP⟩, hS.F ht⟩) hS.2.2 d_A_atomValue_39
  · by_cases c2 : skd = (2 : Int32)
    · refine lv_tableIn (off := 38) (tgt := 45) hx hb d_A_atomValue_7 (by rw [c2]; decide) (by rw [c2]; decide) (by rw [c2]; rfl) (by decide) ?_
      refine lv_goto (tgt := 54) hx hb d_A_atomValue_45 (by decide) ?_
      refine lv_aload_n hx hb d_A_atomValue_54 rfl (lv_at hl 0 rfl) ?_
      refine va_get (D := D) (ci := 3) (v := .ref g1) (C := "SignMachine$Assembler") (T := F_A) (N := 15) hx hb hk fi_A hown hK.1 hP 0 rfl rfl 0 (by decide) (hk _ k_631) (fun _ h9 => h9) rfl d_A_atomValue_55 ?_
      refine va_getN (D := D) (ci := 4) (v := .long snm) (C := "SignMachine$Source") (T := F_R) (N := 9) hx hb hk fi_R hown hK.1 hP 1 rfl rfl 7 (by decide) (va_Nw.use rfl (hK.2 _ n_546)) (fun _ h9 => h9) rfl d_A_atomValue_58 ?_
      refine lv_iconst (v := 2) hx hb d_A_atomValue_61 (by decide) ?_
      refine cs_i (W.runS (As := [.long snm, .int (2 : Int32)]) (rest := []) ⟨hx, hb, hml, hown, hk⟩ (c_N_localDigit l snm (2 : Int32)) (s_N_localDigit hk k_771 ⟨Nat.le_of_ble_eq_true rfl, Nat.le_of_ble_eq_true rfl⟩) ⟨fun a U g mk q => q, fun U hU hW => ⟨rfl, trivial⟩⟩ rfl rfl hl.1 rfl (lv_room (Nat.le_of_ble_eq_true rfl)) d_A_atomValue_62 ⟨Nat.le_of_ble_eq_true rfl, Nat.le_of_ble_eq_true rfl⟩) ?_
      refine lv_istore_n (lv' := [(1, .int (f_N_localDigit snm (2 : Int32))), (0, .ref g0)]) hx hb d_A_atomValue_65 rfl hl (by decide) rfl (fun ls hl => ?_)
      refine lv_iload_n hx hb d_A_atomValue_66 rfl (lv_at hl 0 rfl) ?_
      refine lv_if_lt (tgt := 98) hx hb d_A_atomValue_67 (by decide) (fun c3 => ?_) (fun c3 => ?_)
      · refine lv_aload_n hx hb d_A_atomValue_98 rfl (lv_at hl 1 rfl) ?_
        refine va_get (D := D) (ci := 3) (v := .ref g3) (C := "SignMachine$Assembler") (T := F_A) (N := 15) hx hb hk fi_A hown hK.1 hP 0 rfl rfl 1 (by decide) (hk _ k_633) (fun _ h9 => h9) rfl d_A_atomValue_99 ?_
        refine lv_aload_n hx hb d_A_atomValue_102 rfl (lv_at hl 1 rfl) ?_
        refine va_get (D := D) (ci := 3) (v := .ref g1) (C := "SignMachine$Assembler") (T := F_A) (N := 15) hx hb hk fi_A hown hK.1 hP 0 rfl rfl 0 (by decide) (hk _ k_631) (fun _ h9 => h9) rfl d_A_atomValue_103 ?_
        refine va_getN (D := D) (ci := 4) (v := .long snm) (C := "SignMachine$Source") (T := F_R) (N := 9) hx hb hk fi_R hown hK.1 hP 1 rfl rfl 7 (by decide) (va_Nw.use rfl (hK.2 _ n_546)) (fun _ h9 => h9) rfl d_A_atomValue_106 ?_
        refine cs_i (W.runV (C := "SignMachine$Names") (As := [.long snm]) (rest := []) ⟨hx, hb, hml, hown, hk⟩ (c_N_find l D cI cJ cZ cB g0 g1 g2 g3 g4 g5 g6 g7 g8 g9 g10 g11 g12 g13 g14 g15 flt fln ffr sta plc edd lab lbv opr acd akd agl len lin att stp fol skd snm snu byt ncn nsy nns nvs ntd lvs ltd ocn opl owd oln okd ogl olo TL snm) (v_N_find hk k_924 ⟨Nat.le_of_ble_eq_true rfl, Nat.le_of_ble_eq_true rfl⟩) (pR_v hK hP (ci := 5) (q0 := 3) rfl rfl rfl) rfl rfl hl.1 rfl (lv_room (Nat.le_of_ble_eq_true rfl)) d_A_atomValue_109 ⟨Nat.le_of_ble_eq_true rfl, Nat.le_of_ble_eq_true rfl⟩) ?_
        refine lv_istore_n (lv' := [(2, .int (f_N_find ncn nns snm)), (1, .int (f_N_localDigit snm (2 : Int32))), (0, .ref g0)]) hx hb d_A_atomValue_112 rfl hl (by decide) rfl (fun ls hl => ?_)
        refine lv_aload_n hx hb d_A_atomValue_113 rfl (lv_at hl 2 rfl) ?_
        refine va_get (D := D) (ci := 3) (v := .ref g3) (C := "SignMachine$Assembler") (T := F_A) (N := 15) hx hb hk fi_A hown hK.1 hP 0 rfl rfl 1 (by decide) (hk _ k_633) (fun _ h9 => h9) rfl d_A_atomValue_114 ?_
        refine lv_iload_n hx hb d_A_atomValue_117 rfl (lv_at hl 0 rfl) ?_
        refine cs_i (W.runV (C := "SignMachine$Names") (As := [.int (f_N_find ncn nns snm)]) (rest := []) ⟨hx, hb, hml, hown, hk⟩ (c_N_isTold l D cI cJ cZ cB g0 g1 g2 g3 g4 g5 g6 g7 g8 g9 g10 g11 g12 g13 g14 g15 flt fln ffr sta plc edd lab lbv opr acd akd agl len lin att stp fol skd snm snu byt ncn nsy nns nvs ntd lvs ltd ocn opl owd oln okd ogl olo TL (f_N_find ncn nns snm)) (v_N_isTold hk k_928 ⟨Nat.le_of_ble_eq_true rfl, Nat.le_of_ble_eq_true rfl⟩) (pR_v hK hP (ci := 5) (q0 := 3) rfl rfl rfl) rfl rfl hl.1 rfl (lv_room (Nat.le_of_ble_eq_true rfl)) d_A_atomValue_118 ⟨Nat.le_of_ble_eq_true rfl, Nat.le_of_ble_eq_true rfl⟩) ?_
        refine lv_if_eq (tgt := 135) hx hb d_A_atomValue_121 (by decide) (fun c4 => ?_) (fun c4 => ?_)
        · refine lv_aload_n hx hb d_A_atomValue_135 rfl (lv_at hl 2 rfl) ?_
          refine lv_iconst (v := 3) hx hb d_A_atomValue_136 (by decide) ?_
          refine ca_i (va_runV (C := "SignMachine$Assembler") (As := [.int (3 : Int32)]) (rest := []) ⟨hx, hb, hml, hown, hk⟩ (c_A_fail l D cI cJ cZ cB g0 g1 g2 g3 g4 g5 g6 g7 g8 g9 g10 g11 g12 g13 g14 g15 s.heap.size flt fln ffr sta plc edd lab lbv opr acd akd agl len lin att stp fol skd snm snu byt ncn nsy nns nvs ntd lvs ltd ocn opl owd oln okd ogl olo TL (3 : Int32)) (v_A_fail hk k_767 ⟨Nat.le_of_ble_eq_true rfl, Nat.le_of_ble_eq_true rfl⟩) (pM_v hK hP hD (ci := 3) (q0 := 0) rfl rfl rfl) rfl rfl hl.1 rfl (lv_room (Nat.le_of_ble_eq_true rfl)) d_A_atomValue_137 ⟨Nat.le_of_ble_eq_true rfl, Nat.le_of_ble_eq_true rfl⟩) hS hA hD (fun rz5 u H locs hz5 hP hS => ?_)
          obtain ⟨fltz5, flnz5⟩ := u
          have hP : va_P D classes (aW cI cJ cZ cB g0 g1 g2 g3 g4 g5 g6 g7 g8 g9 g10 g11 g12 g13 g14 g15 fltz5 flnz5 ffr sta plc edd lab lbv opr acd akd agl len lin att stp fol skd snm snu byt ncn nsy nns nvs ntd lvs ltd ocn opl owd oln okd ogl olo TL) H := hP
          have hD : va_D A (aW cI cJ cZ cB g0 g1 g2 g3 g4 g5 g6 g7 g8 g9 g10 g11 g12 g13 g14 g15 fltz5 flnz5 ffr sta plc edd lab lbv opr acd akd agl len lin att stp fol skd snm snu byt ncn nsy nns nvs ntd lvs ltd ocn opl owd oln okd ogl olo TL) := dsame hD rfl
          try dsimp only at hz5
          exact W.iret (v := rz5) hx hb hr (fun t ht hW => ⟨⟨rz5, (fltz5, flnz5), rfl, by simp only [f_A_atomValue, if_neg c1, if_pos c2, if_pos c3, if_pos c4, ← hz5], by show va_P D classes _ t.heap; rw [ht]; exact hP⟩, hS.F ht⟩) hS.2.2 d_A_atomValue_140
        · refine lv_aload_n hx hb d_A_atomValue_124 rfl (lv_at hl 2 rfl) ?_
          refine va_get (D := D) (ci := 3) (v := .ref g3) (C := "SignMachine$Assembler") (T := F_A) (N := 15) hx hb hk fi_A hown hK.1 hP 0 rfl rfl 1 (by decide) (hk _ k_633) (fun _ h9 => h9) rfl d_A_atomValue_125 ?_
          refine lv_iload_n hx hb d_A_atomValue_128 rfl (lv_at hl 0 rfl) ?_
          refine cs_i (W.runV (C := "SignMachine$Names") (As := [.int (f_N_find ncn nns snm)]) (rest := []) ⟨hx, hb, hml, hown, hk⟩ (c_N_valueOf l D cI cJ cZ cB g0 g1 g2 g3 g4 g5 g6 g7 g8 g9 g10 g11 g12 g13 g14 g15 flt fln ffr sta plc edd lab lbv opr acd akd agl len lin att stp fol skd snm snu byt ncn nsy nns nvs ntd lvs ltd ocn opl owd oln okd ogl olo TL (f_N_find ncn nns snm)) (v_N_valueOf hk k_1005 ⟨Nat.le_of_ble_eq_true rfl, Nat.le_of_ble_eq_true rfl⟩) (pR_v hK hP (ci := 5) (q0 := 3) rfl rfl rfl) rfl rfl hl.1 rfl (lv_room (Nat.le_of_ble_eq_true rfl)) d_A_atomValue_129 ⟨Nat.le_of_ble_eq_true rfl, Nat.le_of_ble_eq_true rfl⟩) ?_
          refine lv_goto (tgt := 140) hx hb d_A_atomValue_132 (by decide) ?_
          exact W.iret (v := (f_N_valueOf nvs (f_N_find ncn nns snm))) hx hb hr (fun t ht hW => ⟨⟨(f_N_valueOf nvs (f_N_find ncn nns snm)), (flt, fln), rfl, by simp only [f_A_atomValue, if_neg c1, if_pos c2, if_pos c3, if_neg c4], by show va_P D classes _ t.heap; rw [ht]; exact hP⟩, hS.F ht⟩) hS.2.2 d_A_atomValue_140
      · refine lv_aload_n hx hb d_A_atomValue_70 rfl (lv_at hl 1 rfl) ?_
        refine va_get (D := D) (ci := 3) (v := .ref g3) (C := "SignMachine$Assembler") (T := F_A) (N := 15) hx hb hk fi_A hown hK.1 hP 0 rfl rfl 1 (by decide) (hk _ k_633) (fun _ h9 => h9) rfl d_A_atomValue_71 ?_
        refine lv_iload_n hx hb d_A_atomValue_74 rfl (lv_at hl 0 rfl) ?_
        refine cs_i (W.runV (C := "SignMachine$Names") (As := [.int (f_N_localDigit snm (2 : Int32))]) (rest := []) ⟨hx, hb, hml, hown, hk⟩ (c_N_isLocalTold l D cI cJ cZ cB g0 g1 g2 g3 g4 g5 g6 g7 g8 g9 g10 g11 g12 g13 g14 g15 flt fln ffr sta plc edd lab lbv opr acd akd agl len lin att stp fol skd snm snu byt ncn nsy nns nvs ntd lvs ltd ocn opl owd oln okd ogl olo TL (f_N_localDigit snm (2 : Int32))) (v_N_isLocalTold hk k_997 ⟨Nat.le_of_ble_eq_true rfl, Nat.le_of_ble_eq_true rfl⟩) (pR_v hK hP (ci := 5) (q0 := 3) rfl rfl rfl) rfl rfl hl.1 rfl (lv_room (Nat.le_of_ble_eq_true rfl)) d_A_atomValue_75 ⟨Nat.le_of_ble_eq_true rfl, Nat.le_of_ble_eq_true rfl⟩) ?_
        refine lv_if_eq (tgt := 92) hx hb d_A_atomValue_78 (by decide) (fun c6 => ?_) (fun c6 => ?_)
        · refine lv_aload_n hx hb d_A_atomValue_92 rfl (lv_at hl 1 rfl) ?_
          refine lv_iconst (v := 3) hx hb d_A_atomValue_93 (by decide) ?_
          refine ca_i (va_runV (C := "SignMachine$Assembler") (As := [.int (3 : Int32)]) (rest := []) ⟨hx, hb, hml, hown, hk⟩ (c_A_fail l D cI cJ cZ cB g0 g1 g2 g3 g4 g5 g6 g7 g8 g9 g10 g11 g12 g13 g14 g15 s.heap.size flt fln ffr sta plc edd lab lbv opr acd akd agl len lin att stp fol skd snm snu byt ncn nsy nns nvs ntd lvs ltd ocn opl owd oln okd ogl olo TL (3 : Int32)) (v_A_fail hk k_767 ⟨Nat.le_of_ble_eq_true rfl, Nat.le_of_ble_eq_true rfl⟩) (pM_v hK hP hD (ci := 3) (q0 := 0) rfl rfl rfl) rfl rfl hl.1 rfl (lv_room (Nat.le_of_ble_eq_true rfl)) d_A_atomValue_94 ⟨Nat.le_of_ble_eq_true rfl, Nat.le_of_ble_eq_true rfl⟩) hS hA hD (fun rz7 u H locs hz7 hP hS => ?_)
          obtain ⟨fltz7, flnz7⟩ := u
          have hP : va_P D classes (aW cI cJ cZ cB g0 g1 g2 g3 g4 g5 g6 g7 g8 g9 g10 g11 g12 g13 g14 g15 fltz7 flnz7 ffr sta plc edd lab lbv opr acd akd agl len lin att stp fol skd snm snu byt ncn nsy nns nvs ntd lvs ltd ocn opl owd oln okd ogl olo TL) H := hP
          have hD : va_D A (aW cI cJ cZ cB g0 g1 g2 g3 g4 g5 g6 g7 g8 g9 g10 g11 g12 g13 g14 g15 fltz7 flnz7 ffr sta plc edd lab lbv opr acd akd agl len lin att stp fol skd snm snu byt ncn nsy nns nvs ntd lvs ltd ocn opl owd oln okd ogl olo TL) := dsame hD rfl
          try dsimp only at hz7
          exact W.iret (v := rz7) hx hb hr (fun t ht hW => ⟨⟨rz7, (fltz7, flnz7), rfl, by simp only [f_A_atomValue, if_neg c1, if_pos c2, if_neg c3, if_pos c6, ← hz7], by show va_P D classes _ t.heap; rw [ht]; exact hP⟩, hS.F ht⟩) hS.2.2 d_A_atomValue_97
        · refine lv_aload_n hx hb d_A_atomValue_81 rfl (lv_at hl 1 rfl) ?_
          refine va_get (D := D) (ci := 3) (v := .ref g3) (C := "SignMachine$Assembler") (T := F_A) (N := 15) hx hb hk fi_A hown hK.1 hP 0 rfl rfl 1 (by decide) (hk _ k_633) (fun _ h9 => h9) rfl d_A_atomValue_82 ?_
          refine lv_iload_n hx hb d_A_atomValue_85 rfl (lv_at hl 0 rfl) ?_
          refine cs_i (W.runV (C := "SignMachine$Names") (As := [.int (f_N_localDigit snm (2 : Int32))]) (rest := []) ⟨hx, hb, hml, hown, hk⟩ (c_N_localValue l D cI cJ cZ cB g0 g1 g2 g3 g4 g5 g6 g7 g8 g9 g10 g11 g12 g13 g14 g15 flt fln ffr sta plc edd lab lbv opr acd akd agl len lin att stp fol skd snm snu byt ncn nsy nns nvs ntd lvs ltd ocn opl owd oln okd ogl olo TL (f_N_localDigit snm (2 : Int32))) (v_N_localValue hk k_1001 ⟨Nat.le_of_ble_eq_true rfl, Nat.le_of_ble_eq_true rfl⟩) (pR_v hK hP (ci := 5) (q0 := 3) rfl rfl rfl) rfl rfl hl.1 rfl (lv_room (Nat.le_of_ble_eq_true rfl)) d_A_atomValue_86 ⟨Nat.le_of_ble_eq_true rfl, Nat.le_of_ble_eq_true rfl⟩) ?_
          refine lv_goto (tgt := 97) hx hb d_A_atomValue_89 (by decide) ?_
          exact W.iret (v := (f_N_localValue lvs (f_N_localDigit snm (2 : Int32)))) hx hb hr (fun t ht hW => ⟨⟨(f_N_localValue lvs (f_N_localDigit snm (2 : Int32))), (flt, fln), rfl, by simp only [f_A_atomValue, if_neg c1, if_pos c2, if_neg c3, if_neg c6], by show va_P D classes _ t.heap; rw [ht]; exact hP⟩, hS.F ht⟩) hS.2.2 d_A_atomValue_97
    · by_cases c8 : skd = (3 : Int32)
      · refine lv_tableIn (off := 33) (tgt := 40) hx hb d_A_atomValue_7 (by rw [c8]; decide) (by rw [c8]; decide) (by rw [c8]; rfl) (by decide) ?_
        refine lv_aload_n hx hb d_A_atomValue_40 rfl (lv_at hl 0 rfl) ?_
        refine va_get (D := D) (ci := 3) (v := .int plc) (C := "SignMachine$Assembler") (T := F_A) (N := 15) hx hb hk fi_A hown hK.1 hP 0 rfl rfl 7 (by decide) (hk _ k_644) (fun _ h9 => h9) rfl d_A_atomValue_41 ?_
        exact W.iret (v := plc) hx hb hr (fun t ht hW => ⟨⟨plc, (flt, fln), rfl, by simp only [f_A_atomValue, if_neg c1, if_neg c2, if_pos c8], by show va_P D classes _ t.heap; rw [ht]; exact hP⟩, hS.F ht⟩) hS.2.2 d_A_atomValue_44
      · refine lv_tableOut (tgt := 48) hx hb d_A_atomValue_7 (by have e0 := lv_neT c1 (a := 1) rfl; have e1 := lv_neT c2 (a := 2) rfl; have e2 := lv_neT c8 (a := 3) rfl; omega) (by decide) ?_
        refine lv_aload_n hx hb d_A_atomValue_48 rfl (lv_at hl 0 rfl) ?_
        refine lv_iconst (v := 1) hx hb d_A_atomValue_49 (by decide) ?_
        refine ca_i (va_runV (C := "SignMachine$Assembler") (As := [.int (1 : Int32)]) (rest := []) ⟨hx, hb, hml, hown, hk⟩ (c_A_fail l D cI cJ cZ cB g0 g1 g2 g3 g4 g5 g6 g7 g8 g9 g10 g11 g12 g13 g14 g15 s.heap.size flt fln ffr sta plc edd lab lbv opr acd akd agl len lin att stp fol skd snm snu byt ncn nsy nns nvs ntd lvs ltd ocn opl owd oln okd ogl olo TL (1 : Int32)) (v_A_fail hk k_767 ⟨Nat.le_of_ble_eq_true rfl, Nat.le_of_ble_eq_true rfl⟩) (pM_v hK hP hD (ci := 3) (q0 := 0) rfl rfl rfl) rfl rfl hl.1 rfl (lv_room (Nat.le_of_ble_eq_true rfl)) d_A_atomValue_50 ⟨Nat.le_of_ble_eq_true rfl, Nat.le_of_ble_eq_true rfl⟩) hS hA hD (fun rz9 u H locs hz9 hP hS => ?_)
        obtain ⟨fltz9, flnz9⟩ := u
        have hP : va_P D classes (aW cI cJ cZ cB g0 g1 g2 g3 g4 g5 g6 g7 g8 g9 g10 g11 g12 g13 g14 g15 fltz9 flnz9 ffr sta plc edd lab lbv opr acd akd agl len lin att stp fol skd snm snu byt ncn nsy nns nvs ntd lvs ltd ocn opl owd oln okd ogl olo TL) H := hP
        have hD : va_D A (aW cI cJ cZ cB g0 g1 g2 g3 g4 g5 g6 g7 g8 g9 g10 g11 g12 g13 g14 g15 fltz9 flnz9 ffr sta plc edd lab lbv opr acd akd agl len lin att stp fol skd snm snu byt ncn nsy nns nvs ntd lvs ltd ocn opl owd oln okd ogl olo TL) := dsame hD rfl
        try dsimp only at hz9
        exact W.iret (v := rz9) hx hb hr (fun t ht hW => ⟨⟨rz9, (fltz9, flnz9), rfl, by simp only [f_A_atomValue, if_neg c1, if_neg c2, if_neg c8, ← hz9], by show va_P D classes _ t.heap; rw [ht]; exact hP⟩, hS.F ht⟩) hS.2.2 d_A_atomValue_53
theorem v_A_atomValue {R : Room} {s : State} {args : Array Value} {own : String} {index : Nat} (hk : ∀ w ∈ tb, w.before args s = true) (hl : Cond.methodLink own index y_A_atomValue ∈ tb) (hR : 1 + 1 ≤ R.frames ∧ 8 + (3 + 11) + 25 ≤ R.locals) : CallW R s args own "SignMachine$Assembler" index y_A_atomValue b_A_atomValue 3 (some .int) (.code y_A_atomValue b_A_atomValue 3 (some .int) :: tb) ({ frames := 1, cells := 0, slots := 0, locals := 25 }) 0 0 0 := mk_v 0 hk k_996 hl k_995 k_49 k_123 rfl rfl h_A_atomValue hR
def f_A_reckon (flt : Int32) (fln : Int32) (lin : Int32) (a1 : Int64) (a2 : Int32) (a3 : Int64) : Int64 × (Int32) × (Int32) := (if a2 = (42 : Int32) then (if (lg_cmp (if 0 < (a1 * a3) then (a1 * a3) else -(a1 * a3)) (1073741823 : Int64)) ≤ (0 : Int32) then ((a1 * a3), flt, fln) else (match (f_A_fail flt fln lin (4 : Int32)) with | (rz3, fltz3, flnz3) => ((rz3 : Int32).toInt64, fltz3, flnz3))) else (if a2 = (43 : Int32) then (if (lg_cmp (if 0 < (a1 + a3) then (a1 + a3) else -(a1 + a3)) (1073741823 : Int64)) ≤ (0 : Int32) then ((a1 + a3), flt, fln) else (match (f_A_fail flt fln lin (4 : Int32)) with | (rz6, fltz6, flnz6) => ((rz6 : Int32).toInt64, fltz6, flnz6))) else (if a2 = (45 : Int32) then (if (lg_cmp (if 0 < (a1 - a3) then (a1 - a3) else -(a1 - a3)) (1073741823 : Int64)) ≤ (0 : Int32) then ((a1 - a3), flt, fln) else (match (f_A_fail flt fln lin (4 : Int32)) with | (rz9, fltz9, flnz9) => ((rz9 : Int32).toInt64, fltz9, flnz9))) else (if a2 = (58 : Int32) then (if (lg_cmp (if 0 < (((8 : Int64) * a1) + a3) then (((8 : Int64) * a1) + a3) else -(((8 : Int64) * a1) + a3)) (1073741823 : Int64)) ≤ (0 : Int32) then ((((8 : Int64) * a1) + a3), flt, fln) else (match (f_A_fail flt fln lin (4 : Int32)) with | (rz12, fltz12, flnz12) => ((rz12 : Int32).toInt64, fltz12, flnz12))) else (if (lg_cmp a3 (0 : Int64)) = (0 : Int32) then (match (f_A_fail flt fln lin (4 : Int32)) with | (rz16, fltz16, flnz16) => ((rz16 : Int32).toInt64, fltz16, flnz16)) else (if (lg_cmp (if 0 < (a1 / a3) then (a1 / a3) else -(a1 / a3)) (1073741823 : Int64)) ≤ (0 : Int32) then ((a1 / a3), flt, fln) else (match (f_A_fail flt fln lin (4 : Int32)) with | (rz15, fltz15, flnz15) => ((rz15 : Int32).toInt64, fltz15, flnz15))))))))
set_option maxHeartbeats 4000000 in
set_option maxRecDepth 100000 in
theorem c_A_reckon (l : Launch) (D : va_G) (cI cJ cZ cB : ClassId) (g0 g1 g2 g3 g4 g5 g6 g7 g8 g9 g10 g11 g12 g13 g14 g15 : Nat) (sz : Nat) (flt : Int32) (fln : Int32) (ffr : Int32) (sta : Int32) (plc : Int32) (edd : Int32) (lab : Int64) (lbv : Int32) (opr : Option Nat) (acd : Int32) (akd : Int32) (agl : Int32) (len : Int32) (lin : Int32) (att : Int32) (stp : Int32) (fol : Int32) (skd : Int32) (snm : Int64) (snu : Int32) (byt : Nat → Int32) (ncn : Int32) (nsy : Int32) (nns : Nat → Int64) (nvs : Nat → Int32) (ntd : Nat → Int32) (lvs : Nat → Int32) (ltd : Nat → Int32) (ocn : Int32) (opl : Nat → Int32) (owd : Nat → Int32) (oln : Nat → Int32) (okd : Nat → Int32) (ogl : Nat → Int32) (olo : Nat → Int32) (TL : va_W) (a1 : Int64) (a2 : Int32) (a3 : Int64) : Met l y_A_reckon (.code y_A_reckon b_A_reckon 8 (some .long) :: tb) ({ frames := 1, cells := 0, slots := 0, locals := 21 }) (pM D cI cJ cZ cB (aW cI cJ cZ cB g0 g1 g2 g3 g4 g5 g6 g7 g8 g9 g10 g11 g12 g13 g14 g15 flt fln ffr sta plc edd lab lbv opr acd akd agl len lin att stp fol skd snm snu byt ncn nsy nns nvs ntd lvs ltd ocn opl owd oln okd ogl olo TL) sz [.ref g0, .long a1, .int a2, .long a3]) (qL D (fun r u => (r, u) = f_A_reckon flt fln lin a1 a2 a3) (fun (u : (Int32) × (Int32)) => match u with | (u_flt, u_fln) => (aW cI cJ cZ cB g0 g1 g2 g3 g4 g5 g6 g7 g8 g9 g10 g11 g12 g13 g14 g15 u_flt u_fln ffr sta plc edd lab lbv opr acd akd agl len lin att stp fol skd snm snu byt ncn nsy nns nvs ntd lvs ltd ocn opl owd oln okd ogl olo TL)) (va_A (aW cI cJ cZ cB g0 g1 g2 g3 g4 g5 g6 g7 g8 g9 g10 g11 g12 g13 g14 g15 flt fln ffr sta plc edd lab lbv opr acd akd agl len lin att stp fol skd snm snu byt ncn nsy nns nvs ntd lvs ltd ocn opl owd oln okd ogl olo TL) sz)) 0 0 (va_A (aW cI cJ cZ cB g0 g1 g2 g3 g4 g5 g6 g7 g8 g9 g10 g11 g12 g13 g14 g15 flt fln ffr sta plc edd lab lbv opr acd akd agl len lin att stp fol skd snm snu byt ncn nsy nns nvs ntd lvs ltd ocn opl owd oln okd ogl olo TL) sz) := by
  refine Met.ofW (cc := b_A_reckon) (maxL := 8) (ret := (some .long)) (by decide) rfl ?_
  intro p e s m args below meth c s₁ B hml hv
  obtain ⟨rfl, hsz, hK, hP, hD0⟩ := hv
  subst hsz
  have hD := hD0.self (sz := s.heap.size)
  generalize hAe : va_A (aW cI cJ cZ cB g0 g1 g2 g3 g4 g5 g6 g7 g8 g9 g10 g11 g12 g13 g14 g15 flt fln ffr sta plc edd lab lbv opr acd akd agl len lin att stp fol skd snm snu byt ncn nsy nns nvs ntd lvs ltd ocn opl owd oln okd ogl olo TL) s.heap.size = A at hD ⊢
  have hA : ∀ q : Nat, s.heap.size ≤ q → A q := fun q h => by rw [← hAe]; exact Or.inr h
  have hS : va_S A s.heap s.heap [] := va_S.rf
  have hx := B.exec
  have hb := B.bytes
  have hr := B.returns
  have hts := atoms_spec (ws := .code y_A_reckon b_A_reckon 8 (some .long) :: tb) B.pre
  have hk : ∀ w ∈ tb, w.before [.ref g0, .long a1, .int a2, .long a3].toArray s = true := fun w h => hts w (List.mem_cons_of_mem _ h)
  have hown : s.vm.findClass "SignMachine$Assembler" = some m.cls := findClass_of_methodNamed B.named
  have hlocks := B.notSynchronized
  have hl := lv_entry ([.ref g0, .long a1, .int a2, .long a3]) (n := 8) (Nat.le_of_ble_eq_true rfl)
  rw [lg_entry_eq]
  generalize (lg_sl ([.ref g0, .long a1, .int a2, .long a3]) ++ List.replicate (8 - (lg_sl ([.ref g0, .long a1, .int a2, .long a3])).length) Slot.unset).toArray = ls at hl ⊢
  have hl : lv_has ls 8 [(0, .ref g0), (1, .long a1), (3, .int a2), (4, .long a3)] := hl
  refine lv_iload_n hx hb d_A_reckon_0 rfl (lv_at hl 2 rfl) ?_
  by_cases c1 : a2 = (42 : Int32)
  · refine lv_lookup (off := 61) (tgt := 62) hx hb d_A_reckon_1 (by decide) (by rw [c1]; rfl) (by decide) ?_
    refine lv_lload_n hx hb d_A_reckon_62 rfl (lv_at hl 1 rfl) ?_
    refine lv_lload hx hb d_A_reckon_63 (lv_at hl 3 rfl) ?_
    refine lv_lmul hx hb d_A_reckon_65 ?_
    refine lv_lstore (lv' := [(6, .long (a1 * a3)), (0, .ref g0), (1, .long a1), (3, .int a2), (4, .long a3)]) hx hb d_A_reckon_66 hl (by decide) rfl (fun ls hl => ?_)
    refine lv_goto (tgt := 104) hx hb d_A_reckon_68 (by decide) ?_
    refine lv_lload hx hb d_A_reckon_104 (lv_at hl 0 rfl) ?_
    refine va_mabs_long hx hb (hml.trans hl.1.symm) hown (hk _ k_1014) (hk _ k_1015) (hk _ k_121) (hk _ k_abslc) (Nat.le_of_ble_eq_true rfl) (Nat.le_of_ble_eq_true rfl) (Nat.zero_le _) (Nat.zero_le _) d_A_reckon_106 ?_
    refine lv_ldc2 (v := 1073741823) hx hb hown (hk _ k_1017) d_A_reckon_109 ?_
    refine W.lcmp hx hb d_A_reckon_112 ?_
    refine lv_if_le (tgt := 125) hx hb d_A_reckon_113 (by decide) (fun c2 => ?_) (fun c2 => ?_)
    · refine lv_lload hx hb d_A_reckon_125 (lv_at hl 0 rfl) ?_
      exact W.lret (v := (a1 * a3)) hx hb hr (fun t ht hW => ⟨⟨(a1 * a3), (flt, fln), rfl, by simp only [f_A_reckon, if_pos c1, if_pos c2], by show va_P D classes _ t.heap; rw [ht]; exact hP⟩, hS.F ht⟩) hS.2.2 d_A_reckon_127
    · refine lv_aload_n hx hb d_A_reckon_116 rfl (lv_at hl 1 rfl) ?_
      refine lv_iconst (v := 4) hx hb d_A_reckon_117 (by decide) ?_
      refine ca_i (va_runV (C := "SignMachine$Assembler") (As := [.int (4 : Int32)]) (rest := []) ⟨hx, hb, hml, hown, hk⟩ (c_A_fail l D cI cJ cZ cB g0 g1 g2 g3 g4 g5 g6 g7 g8 g9 g10 g11 g12 g13 g14 g15 s.heap.size flt fln ffr sta plc edd lab lbv opr acd akd agl len lin att stp fol skd snm snu byt ncn nsy nns nvs ntd lvs ltd ocn opl owd oln okd ogl olo TL (4 : Int32)) (v_A_fail hk k_767 ⟨Nat.le_of_ble_eq_true rfl, Nat.le_of_ble_eq_true rfl⟩) (pM_v hK hP hD (ci := 3) (q0 := 0) rfl rfl rfl) rfl rfl hl.1 rfl (lv_room (Nat.le_of_ble_eq_true rfl)) d_A_reckon_118 ⟨Nat.le_of_ble_eq_true rfl, Nat.le_of_ble_eq_true rfl⟩) hS hA hD (fun rz3 u H locs hz3 hP hS => ?_)
      obtain ⟨fltz3, flnz3⟩ := u
      have hP : va_P D classes (aW cI cJ cZ cB g0 g1 g2 g3 g4 g5 g6 g7 g8 g9 g10 g11 g12 g13 g14 g15 fltz3 flnz3 ffr sta plc edd lab lbv opr acd akd agl len lin att stp fol skd snm snu byt ncn nsy nns nvs ntd lvs ltd ocn opl owd oln okd ogl olo TL) H := hP
      have hD : va_D A (aW cI cJ cZ cB g0 g1 g2 g3 g4 g5 g6 g7 g8 g9 g10 g11 g12 g13 g14 g15 fltz3 flnz3 ffr sta plc edd lab lbv opr acd akd agl len lin att stp fol skd snm snu byt ncn nsy nns nvs ntd lvs ltd ocn opl owd oln okd ogl olo TL) := dsame hD rfl
      try dsimp only at hz3
      refine lv_i2l (v := (rz3 : Int32).toInt64) hx hb d_A_reckon_121 rfl ?_
      refine lv_goto (tgt := 127) hx hb d_A_reckon_122 (by decide) ?_
      exact W.lret (v := (rz3 : Int32).toInt64) hx hb hr (fun t ht hW => ⟨⟨(rz3 : Int32).toInt64, (fltz3, flnz3), rfl, by simp only [f_A_reckon, if_pos c1, if_neg c2, ← hz3], by show va_P D classes _ t.heap; rw [ht]; exact hP⟩, hS.F ht⟩) hS.2.2 d_A_reckon_127
  · by_cases c4 : a2 = (43 : Int32)
    · refine lv_lookup (off := 43) (tgt := 44) hx hb d_A_reckon_1 (by decide) (by rw [c4]; rfl) (by decide) ?_
      refine lv_lload_n hx hb d_A_reckon_44 rfl (lv_at hl 1 rfl) ?_
      refine lv_lload hx hb d_A_reckon_45 (lv_at hl 3 rfl) ?_
      refine lv_ladd hx hb d_A_reckon_47 ?_
      refine lv_lstore (lv' := [(6, .long (a1 + a3)), (0, .ref g0), (1, .long a1), (3, .int a2), (4, .long a3)]) hx hb d_A_reckon_48 hl (by decide) rfl (fun ls hl => ?_)
      refine lv_goto (tgt := 104) hx hb d_A_reckon_50 (by decide) ?_
      refine lv_lload hx hb d_A_reckon_104 (lv_at hl 0 rfl) ?_
      refine va_mabs_long hx hb (hml.trans hl.1.symm) hown (hk _ k_1014) (hk _ k_1015) (hk _ k_121) (hk _ k_abslc) (Nat.le_of_ble_eq_true rfl) (Nat.le_of_ble_eq_true rfl) (Nat.zero_le _) (Nat.zero_le _) d_A_reckon_106 ?_
      refine lv_ldc2 (v := 1073741823) hx hb hown (hk _ k_1017) d_A_reckon_109 ?_
      refine W.lcmp hx hb d_A_reckon_112 ?_
      refine lv_if_le (tgt := 125) hx hb d_A_reckon_113 (by decide) (fun c5 => ?_) (fun c5 => ?_)
      · refine lv_lload hx hb d_A_reckon_125 (lv_at hl 0 rfl) ?_
        exact W.lret (v := (a1 + a3)) hx hb hr (fun t ht hW => ⟨⟨(a1 + a3), (flt, fln), rfl, by simp only [f_A_reckon, if_neg c1, if_pos c4, if_pos c5], by show va_P D classes _ t.heap; rw [ht]; exact hP⟩, hS.F ht⟩) hS.2.2 d_A_reckon_127
      · refine lv_aload_n hx hb d_A_reckon_116 rfl (lv_at hl 1 rfl) ?_
        refine lv_iconst (v := 4) hx hb d_A_reckon_117 (by decide) ?_
        refine ca_i (va_runV (C := "SignMachine$Assembler") (As := [.int (4 : Int32)]) (rest := []) ⟨hx, hb, hml, hown, hk⟩ (c_A_fail l D cI cJ cZ cB g0 g1 g2 g3 g4 g5 g6 g7 g8 g9 g10 g11 g12 g13 g14 g15 s.heap.size flt fln ffr sta plc edd lab lbv opr acd akd agl len lin att stp fol skd snm snu byt ncn nsy nns nvs ntd lvs ltd ocn opl owd oln okd ogl olo TL (4 : Int32)) (v_A_fail hk k_767 ⟨Nat.le_of_ble_eq_true rfl, Nat.le_of_ble_eq_true rfl⟩) (pM_v hK hP hD (ci := 3) (q0 := 0) rfl rfl rfl) rfl rfl hl.1 rfl (lv_room (Nat.le_of_ble_eq_true rfl)) d_A_reckon_118 ⟨Nat.le_of_ble_eq_true rfl, Nat.le_of_ble_eq_true rfl⟩) hS hA hD (fun rz6 u H locs hz6 hP hS => ?_)
        obtain ⟨fltz6, flnz6⟩ := u
        have hP : va_P D classes (aW cI cJ cZ cB g0 g1 g2 g3 g4 g5 g6 g7 g8 g9 g10 g11 g12 g13 g14 g15 fltz6 flnz6 ffr sta plc edd lab lbv opr acd akd agl len lin att stp fol skd snm snu byt ncn nsy nns nvs ntd lvs ltd ocn opl owd oln okd ogl olo TL) H := hP
        have hD : va_D A (aW cI cJ cZ cB g0 g1 g2 g3 g4 g5 g6 g7 g8 g9 g10 g11 g12 g13 g14 g15 fltz6 flnz6 ffr sta plc edd lab lbv opr acd akd agl len lin att stp fol skd snm snu byt ncn nsy nns nvs ntd lvs ltd ocn opl owd oln okd ogl olo TL) := dsame hD rfl
        try dsimp only at hz6
        refine lv_i2l (v := (rz6 : Int32).toInt64) hx hb d_A_reckon_121 rfl ?_
        refine lv_goto (tgt := 127) hx hb d_A_reckon_122 (by decide) ?_
        exact W.lret (v := (rz6 : Int32).toInt64) hx hb hr (fun t ht hW => ⟨⟨(rz6 : Int32).toInt64, (fltz6, flnz6), rfl, by simp only [f_A_reckon, if_neg c1, if_pos c4, if_neg c5, ← hz6], by show va_P D classes _ t.heap; rw [ht]; exact hP⟩, hS.F ht⟩) hS.2.2 d_A_reckon_127
    · by_cases c7 : a2 = (45 : Int32)
      · refine lv_lookup (off := 52) (tgt := 53) hx hb d_A_reckon_1 (by decide) (by rw [c7]; rfl) (by decide) ?_
        refine lv_lload_n hx hb d_A_reckon_53 rfl (lv_at hl 1 rfl) ?_
        refine lv_lload hx hb d_A_reckon_54 (lv_at hl 3 rfl) ?_
        refine lv_lsub hx hb d_A_reckon_56 ?_
        refine lv_lstore (lv' := [(6, .long (a1 - a3)), (0, .ref g0), (1, .long a1), (3, .int a2), (4, .long a3)]) hx hb d_A_reckon_57 hl (by decide) rfl (fun ls hl => ?_)
        refine lv_goto (tgt := 104) hx hb d_A_reckon_59 (by decide) ?_
        refine lv_lload hx hb d_A_reckon_104 (lv_at hl 0 rfl) ?_
        refine va_mabs_long hx hb (hml.trans hl.1.symm) hown (hk _ k_1014) (hk _ k_1015) (hk _ k_121) (hk _ k_abslc) (Nat.le_of_ble_eq_true rfl) (Nat.le_of_ble_eq_true rfl) (Nat.zero_le _) (Nat.zero_le _) d_A_reckon_106 ?_
        refine lv_ldc2 (v := 1073741823) hx hb hown (hk _ k_1017) d_A_reckon_109 ?_
        refine W.lcmp hx hb d_A_reckon_112 ?_
        refine lv_if_le (tgt := 125) hx hb d_A_reckon_113 (by decide) (fun c8 => ?_) (fun c8 => ?_)
        · refine lv_lload hx hb d_A_reckon_125 (lv_at hl 0 rfl) ?_
          exact W.lret (v := (a1 - a3)) hx hb hr (fun t ht hW => ⟨⟨(a1 - a3), (flt, fln), rfl, by simp only [f_A_reckon, if_neg c1, if_neg c4, if_pos c7, if_pos c8], by show va_P D classes _ t.heap; rw [ht]; exact hP⟩, hS.F ht⟩) hS.2.2 d_A_reckon_127
        · refine lv_aload_n hx hb d_A_reckon_116 rfl (lv_at hl 1 rfl) ?_
          refine lv_iconst (v := 4) hx hb d_A_reckon_117 (by decide) ?_
          refine ca_i (va_runV (C := "SignMachine$Assembler") (As := [.int (4 : Int32)]) (rest := []) ⟨hx, hb, hml, hown, hk⟩ (c_A_fail l D cI cJ cZ cB g0 g1 g2 g3 g4 g5 g6 g7 g8 g9 g10 g11 g12 g13 g14 g15 s.heap.size flt fln ffr sta plc edd lab lbv opr acd akd agl len lin att stp fol skd snm snu byt ncn nsy nns nvs ntd lvs ltd ocn opl owd oln okd ogl olo TL (4 : Int32)) (v_A_fail hk k_767 ⟨Nat.le_of_ble_eq_true rfl, Nat.le_of_ble_eq_true rfl⟩) (pM_v hK hP hD (ci := 3) (q0 := 0) rfl rfl rfl) rfl rfl hl.1 rfl (lv_room (Nat.le_of_ble_eq_true rfl)) d_A_reckon_118 ⟨Nat.le_of_ble_eq_true rfl, Nat.le_of_ble_eq_true rfl⟩) hS hA hD (fun rz9 u H locs hz9 hP hS => ?_)
          obtain ⟨fltz9, flnz9⟩ := u
          have hP : va_P D classes (aW cI cJ cZ cB g0 g1 g2 g3 g4 g5 g6 g7 g8 g9 g10 g11 g12 g13 g14 g15 fltz9 flnz9 ffr sta plc edd lab lbv opr acd akd agl len lin att stp fol skd snm snu byt ncn nsy nns nvs ntd lvs ltd ocn opl owd oln okd ogl olo TL) H := hP
          have hD : va_D A (aW cI cJ cZ cB g0 g1 g2 g3 g4 g5 g6 g7 g8 g9 g10 g11 g12 g13 g14 g15 fltz9 flnz9 ffr sta plc edd lab lbv opr acd akd agl len lin att stp fol skd snm snu byt ncn nsy nns nvs ntd lvs ltd ocn opl owd oln okd ogl olo TL) := dsame hD rfl
          try dsimp only at hz9
          refine lv_i2l (v := (rz9 : Int32).toInt64) hx hb d_A_reckon_121 rfl ?_
          refine lv_goto (tgt := 127) hx hb d_A_reckon_122 (by decide) ?_
          exact W.lret (v := (rz9 : Int32).toInt64) hx hb hr (fun t ht hW => ⟨⟨(rz9 : Int32).toInt64, (fltz9, flnz9), rfl, by simp only [f_A_reckon, if_neg c1, if_neg c4, if_pos c7, if_neg c8, ← hz9], by show va_P D classes _ t.heap; rw [ht]; exact hP⟩, hS.F ht⟩) hS.2.2 d_A_reckon_127
      · by_cases c10 : a2 = (58 : Int32)
        · refine lv_lookup (off := 70) (tgt := 71) hx hb d_A_reckon_1 (by decide) (by rw [c10]; rfl) (by decide) ?_
          refine lv_ldc2 (v := 8) hx hb hown (hk _ k_1013) d_A_reckon_71 ?_
          refine lv_lload_n hx hb d_A_reckon_74 rfl (lv_at hl 1 rfl) ?_
          refine lv_lmul hx hb d_A_reckon_75 ?_
          refine lv_lload hx hb d_A_reckon_76 (lv_at hl 3 rfl) ?_
          refine lv_ladd hx hb d_A_reckon_78 ?_
          refine lv_lstore (lv' := [(6, .long (((8 : Int64) * a1) + a3)), (0, .ref g0), (1, .long a1), (3, .int a2), (4, .long a3)]) hx hb d_A_reckon_79 hl (by decide) rfl (fun ls hl => ?_)
          refine lv_goto (tgt := 104) hx hb d_A_reckon_81 (by decide) ?_
          refine lv_lload hx hb d_A_reckon_104 (lv_at hl 0 rfl) ?_
          refine va_mabs_long hx hb (hml.trans hl.1.symm) hown (hk _ k_1014) (hk _ k_1015) (hk _ k_121) (hk _ k_abslc) (Nat.le_of_ble_eq_true rfl) (Nat.le_of_ble_eq_true rfl) (Nat.zero_le _) (Nat.zero_le _) d_A_reckon_106 ?_
          refine lv_ldc2 (v := 1073741823) hx hb hown (hk _ k_1017) d_A_reckon_109 ?_
          refine W.lcmp hx hb d_A_reckon_112 ?_
          refine lv_if_le (tgt := 125) hx hb d_A_reckon_113 (by decide) (fun c11 => ?_) (fun c11 => ?_)
          · refine lv_lload hx hb d_A_reckon_125 (lv_at hl 0 rfl) ?_
            exact W.lret (v := (((8 : Int64) * a1) + a3)) hx hb hr (fun t ht hW => ⟨⟨(((8 : Int64) * a1) + a3), (flt, fln), rfl, by simp only [f_A_reckon, if_neg c1, if_neg c4, if_neg c7, if_pos c10, if_pos c11], by show va_P D classes _ t.heap; rw [ht]; exact hP⟩, hS.F ht⟩) hS.2.2 d_A_reckon_127
          · refine lv_aload_n hx hb d_A_reckon_116 rfl (lv_at hl 1 rfl) ?_
            refine lv_iconst (v := 4) hx hb d_A_reckon_117 (by decide) ?_
            refine ca_i (va_runV (C := "SignMachine$Assembler") (As := [.int (4 : Int32)]) (rest := []) ⟨hx, hb, hml, hown, hk⟩ (c_A_fail l D cI cJ cZ cB g0 g1 g2 g3 g4 g5 g6 g7 g8 g9 g10 g11 g12 g13 g14 g15 s.heap.size flt fln ffr sta plc edd lab lbv opr acd akd agl len lin att stp fol skd snm snu byt ncn nsy nns nvs ntd lvs ltd ocn opl owd oln okd ogl olo TL (4 : Int32)) (v_A_fail hk k_767 ⟨Nat.le_of_ble_eq_true rfl, Nat.le_of_ble_eq_true rfl⟩) (pM_v hK hP hD (ci := 3) (q0 := 0) rfl rfl rfl) rfl rfl hl.1 rfl (lv_room (Nat.le_of_ble_eq_true rfl)) d_A_reckon_118 ⟨Nat.le_of_ble_eq_true rfl, Nat.le_of_ble_eq_true rfl⟩) hS hA hD (fun rz12 u H locs hz12 hP hS => ?_)
            obtain ⟨fltz12, flnz12⟩ := u
            have hP : va_P D classes (aW cI cJ cZ cB g0 g1 g2 g3 g4 g5 g6 g7 g8 g9 g10 g11 g12 g13 g14 g15 fltz12 flnz12 ffr sta plc edd lab lbv opr acd akd agl len lin att stp fol skd snm snu byt ncn nsy nns nvs ntd lvs ltd ocn opl owd oln okd ogl olo TL) H := hP
            have hD : va_D A (aW cI cJ cZ cB g0 g1 g2 g3 g4 g5 g6 g7 g8 g9 g10 g11 g12 g13 g14 g15 fltz12 flnz12 ffr sta plc edd lab lbv opr acd akd agl len lin att stp fol skd snm snu byt ncn nsy nns nvs ntd lvs ltd ocn opl owd oln okd ogl olo TL) := dsame hD rfl
            try dsimp only at hz12
            refine lv_i2l (v := (rz12 : Int32).toInt64) hx hb d_A_reckon_121 rfl ?_
            refine lv_goto (tgt := 127) hx hb d_A_reckon_122 (by decide) ?_
            exact W.lret (v := (rz12 : Int32).toInt64) hx hb hr (fun t ht hW => ⟨⟨(rz12 : Int32).toInt64, (fltz12, flnz12), rfl, by simp only [f_A_reckon, if_neg c1, if_neg c4, if_neg c7, if_pos c10, if_neg c11, ← hz12], by show va_P D classes _ t.heap; rw [ht]; exact hP⟩, hS.F ht⟩) hS.2.2 d_A_reckon_127
        · refine lv_lookup (off := 83) (tgt := 84) hx hb d_A_reckon_1 (by decide) (by show Op.lookupswitch.offset [(42, 61), (43, 43), (45, 52), (58, 70)] 83 _ = _; rw [lv_osw c1 (a := 42) rfl, lv_osw c4 (a := 43) rfl, lv_osw c7 (a := 45) rfl, lv_osw c10 (a := 58) rfl]; rfl) (by decide) ?_
          refine lv_lload hx hb d_A_reckon_84 (lv_at hl 3 rfl) ?_
          refine lv_lconst (v := 0) hx hb d_A_reckon_86 (by decide) ?_
          refine W.lcmp hx hb d_A_reckon_87 ?_
          refine lv_if_ne (tgt := 98) hx hb d_A_reckon_88 (by decide) (fun c13 => ?_) (fun c13 => ?_)
          · refine lv_lload_n hx hb d_A_reckon_98 rfl (lv_at hl 1 rfl) ?_
            refine lv_lload hx hb d_A_reckon_99 (lv_at hl 3 rfl) ?_
            refine lv_ldiv hx hb d_A_reckon_101 (lc_ne c13) ?_
            refine lv_lstore (lv' := [(6, .long (a1 / a3)), (0, .ref g0), (1, .long a1), (3, .int a2), (4, .long a3)]) hx hb d_A_reckon_102 hl (by decide) rfl (fun ls hl => ?_)
            refine lv_lload hx hb d_A_reckon_104 (lv_at hl 0 rfl) ?_
            refine va_mabs_long hx hb (hml.trans hl.1.symm) hown (hk _ k_1014) (hk _ k_1015) (hk _ k_121) (hk _ k_abslc) (Nat.le_of_ble_eq_true rfl) (Nat.le_of_ble_eq_true rfl) (Nat.zero_le _) (Nat.zero_le _) d_A_reckon_106 ?_
            refine lv_ldc2 (v := 1073741823) hx hb hown (hk _ k_1017) d_A_reckon_109 ?_
            refine W.lcmp hx hb d_A_reckon_112 ?_
            refine lv_if_le (tgt := 125) hx hb d_A_reckon_113 (by decide) (fun c14 => ?_) (fun c14 => ?_)
            · refine lv_lload hx hb d_A_reckon_125 (lv_at hl 0 rfl) ?_
              exact W.lret (v := (a1 / a3)) hx hb hr (fun t ht hW => ⟨⟨(a1 / a3), (flt, fln), rfl, by simp only [f_A_reckon, if_neg c1, if_neg c4, if_neg c7, if_neg c10, if_neg c13, if_pos c14], by show va_P D classes _ t.heap; rw [ht]; exact hP⟩, hS.F ht⟩) hS.2.2 d_A_reckon_127
            · refine lv_aload_n hx hb d_A_reckon_116 rfl (lv_at hl 1 rfl) ?_
              refine lv_iconst (v := 4) hx hb d_A_reckon_117 (by decide) ?_
              refine ca_i (va_runV (C := "SignMachine$Assembler") (As := [.int (4 : Int32)]) (rest := []) ⟨hx, hb, hml, hown, hk⟩ (c_A_fail l D cI cJ cZ cB g0 g1 g2 g3 g4 g5 g6 g7 g8 g9 g10 g11 g12 g13 g14 g15 s.heap.size flt fln ffr sta plc edd lab lbv opr acd akd agl len lin att stp fol skd snm snu byt ncn nsy nns nvs ntd lvs ltd ocn opl owd oln okd ogl olo TL (4 : Int32)) (v_A_fail hk k_767 ⟨Nat.le_of_ble_eq_true rfl, Nat.le_of_ble_eq_true rfl⟩) (pM_v hK hP hD (ci := 3) (q0 := 0) rfl rfl rfl) rfl rfl hl.1 rfl (lv_room (Nat.le_of_ble_eq_true rfl)) d_A_reckon_118 ⟨Nat.le_of_ble_eq_true rfl, Nat.le_of_ble_eq_true rfl⟩) hS hA hD (fun rz15 u H locs hz15 hP hS => ?_)
              obtain ⟨fltz15, flnz15⟩ := u
              have hP : va_P D classes (aW cI cJ cZ cB g0 g1 g2 g3 g4 g5 g6 g7 g8 g9 g10 g11 g12 g13 g14 g15 fltz15 flnz15 ffr sta plc edd lab lbv opr acd akd agl len lin att stp fol skd snm snu byt ncn nsy nns nvs ntd lvs ltd ocn opl owd oln okd ogl olo TL) H := hP
              have hD : va_D A (aW cI cJ cZ cB g0 g1 g2 g3 g4 g5 g6 g7 g8 g9 g10 g11 g12 g13 g14 g15 fltz15 flnz15 ffr sta plc edd lab lbv opr acd akd agl len lin att stp fol skd snm snu byt ncn nsy nns nvs ntd lvs ltd ocn opl owd oln okd ogl olo TL) := dsame hD rfl
              try dsimp only at hz15
              refine lv_i2l (v := (rz15 : Int32).toInt64) hx hb d_A_reckon_121 rfl ?_
              refine lv_goto (tgt := 127) hx hb d_A_reckon_122 (by decide) ?_
              exact W.lret (v := (rz15 : Int32).toInt64) hx hb hr (fun t ht hW => ⟨⟨(rz15 : Int32).toInt64, (fltz15, flnz15), rfl, by simp only [f_A_reckon, if_neg c1, if_neg c4, if_neg c7, if_neg c10, if_neg c13, if_neg c14, ← hz15], by show va_P D classes _ t.heap; rw [ht]; exact hP⟩, hS.F ht⟩) hS.2.2 d_A_reckon_127
          · refine lv_aload_n hx hb d_A_reckon_91 rfl (lv_at hl 0 rfl) ?_
            refine lv_iconst (v := 4) hx hb d_A_reckon_92 (by decide) ?_
            refine ca_i (va_runV (C := "SignMachine$Assembler") (As := [.int (4 : Int32)]) (rest := []) ⟨hx, hb, hml, hown, hk⟩ (c_A_fail l D cI cJ cZ cB g0 g1 g2 g3 g4 g5 g6 g7 g8 g9 g10 g11 g12 g13 g14 g15 s.heap.size flt fln ffr sta plc edd lab lbv opr acd akd agl len lin att stp fol skd snm snu byt ncn nsy nns nvs ntd lvs ltd ocn opl owd oln okd ogl olo TL (4 : Int32)) (v_A_fail hk k_767 ⟨Nat.le_of_ble_eq_true rfl, Nat.le_of_ble_eq_true rfl⟩) (pM_v hK hP hD (ci := 3) (q0 := 0) rfl rfl rfl) rfl rfl hl.1 rfl (lv_room (Nat.le_of_ble_eq_true rfl)) d_A_reckon_93 ⟨Nat.le_of_ble_eq_true rfl, Nat.le_of_ble_eq_true rfl⟩) hS hA hD (fun rz16 u H locs hz16 hP hS => ?_)
            obtain ⟨fltz16, flnz16⟩ := u
            have hP : va_P D classes (aW cI cJ cZ cB g0 g1 g2 g3 g4 g5 g6 g7 g8 g9 g10 g11 g12 g13 g14 g15 fltz16 flnz16 ffr sta plc edd lab lbv opr acd akd agl len lin att stp fol skd snm snu byt ncn nsy nns nvs ntd lvs ltd ocn opl owd oln okd ogl olo TL) H := hP
            have hD : va_D A (aW cI cJ cZ cB g0 g1 g2 g3 g4 g5 g6 g7 g8 g9 g10 g11 g12 g13 g14 g15 fltz16 flnz16 ffr sta plc edd lab lbv opr acd akd agl len lin att stp fol skd snm snu byt ncn nsy nns nvs ntd lvs ltd ocn opl owd oln okd ogl olo TL) := dsame hD rfl
            try dsimp only at hz16
            refine lv_i2l (v := (rz16 : Int32).toInt64) hx hb d_A_reckon_96 rfl ?_
            exact W.lret (v := (rz16 : Int32).toInt64) hx hb hr (fun t ht hW => ⟨⟨(rz16 : Int32).toInt64, (fltz16, flnz16), rfl, by simp only [f_A_reckon, if_neg c1, if_neg c4, if_neg c7, if_neg c10, if_pos c13, ← hz16], by show va_P D classes _ t.heap; rw [ht]; exact hP⟩, hS.F ht⟩) hS.2.2 d_A_reckon_97
theorem v_A_reckon {R : Room} {s : State} {args : Array Value} {own : String} {index : Nat} (hk : ∀ w ∈ tb, w.before args s = true) (hl : Cond.methodLink own index y_A_reckon ∈ tb) (hR : 1 + 1 ≤ R.frames ∧ 8 + (8 + 11) + 21 ≤ R.locals) : CallW R s args own "SignMachine$Assembler" index y_A_reckon b_A_reckon 8 (some .long) (.code y_A_reckon b_A_reckon 8 (some .long) :: tb) ({ frames := 1, cells := 0, slots := 0, locals := 21 }) 0 0 3 := mk_v 3 hk k_1012 hl k_1011 k_50 k_123 rfl rfl h_A_reckon hR

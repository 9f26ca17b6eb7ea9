abbrev wS94 (cI cJ cZ cB : ClassId) (p0 : Nat)  : va_W := [(p0, .inr (0, [.null, .null]))]
abbrev wS95 (cI cJ cZ cB : ClassId) (p0 p1 : Nat) (x1_4 : Int32) (x1_5 : Int32) (x1_6 : Int32) (x1_7 : Int32) (x1_8 : Int32) (x1_9 : Int32) (x1_10 : Int32) (x1_11 : Int32) (x1_12 : Int32) (x1_13 : Int32) : va_W := [(p0, .inr (0, [.null, .null])), (p1, .inr (1, [.null, .null, .null, .null, .int x1_4, .int x1_5, .int x1_6, .int x1_7, .int x1_8, .int x1_9, .int x1_10, .int x1_11, .int x1_12, .int x1_13]))]
abbrev wS96 (cI cJ cZ cB : ClassId) (p0 p1 p2 : Nat) (x1_4 : Int32) (x1_5 : Int32) (x1_6 : Int32) (x1_7 : Int32) (x1_8 : Int32) (x1_9 : Int32) (x1_10 : Int32) (x1_11 : Int32) (x1_12 : Int32) (x1_13 : Int32) (y2 : Nat → Int32) : va_W := [(p0, .inr (0, [.null, .null])), (p1, .inr (1, [.null, .null, .null, .null, .int x1_4, .int x1_5, .int x1_6, .int x1_7, .int x1_8, .int x1_9, .int x1_10, .int x1_11, .int x1_12, .int x1_13])), (p2, .inl (cI, 4000, .inl y2))]
abbrev wS97 (cI cJ cZ cB : ClassId) (p0 p1 p2 : Nat) (x1_4 : Int32) (x1_5 : Int32) (x1_6 : Int32) (x1_7 : Int32) (x1_8 : Int32) (x1_9 : Int32) (x1_10 : Int32) (x1_11 : Int32) (x1_12 : Int32) (x1_13 : Int32) (y2 : Nat → Int32) : va_W := [(p0, .inr (0, [.null, .null])), (p1, .inr (1, [.ref p2, .null, .null, .null, .int x1_4, .int x1_5, .int x1_6, .int x1_7, .int x1_8, .int x1_9, .int x1_10, .int x1_11, .int x1_12, .int x1_13])), (p2, .inl (cI, 4000, .inl y2))]
abbrev wS98 (cI cJ cZ cB : ClassId) (p0 p1 p2 p3 : Nat) (x1_4 : Int32) (x1_5 : Int32) (x1_6 : Int32) (x1_7 : Int32) (x1_8 : Int32) (x1_9 : Int32) (x1_10 : Int32) (x1_11 : Int32) (x1_12 : Int32) (x1_13 : Int32) (y2 : Nat → Int32) (y3 : Nat → Int32) : va_W := [(p0, .inr (0, [.null, .null])), (p1, .inr (1, [.ref p2, .null, .null, .null, .int x1_4, .int x1_5, .int x1_6, .int x1_7, .int x1_8, .int x1_9, .int x1_10, .int x1_11, .int x1_12, .int x1_13])), (p2, .inl (cI, 4000, .inl y2)), (p3, .inl (cI, 9, .inl y3))]
abbrev wS99 (cI cJ cZ cB : ClassId) (p0 p1 p2 p3 : Nat) (x1_4 : Int32) (x1_5 : Int32) (x1_6 : Int32) (x1_7 : Int32) (x1_8 : Int32) (x1_9 : Int32) (x1_10 : Int32) (x1_11 : Int32) (x1_12 : Int32) (x1_13 : Int32) (y2 : Nat → Int32) (y3 : Nat → Int32) : va_W := [(p0, .inr (0, [.null, .null])), (p1, .inr (1, [.ref p2, .ref p3, .null, .null, .int x1_4, .int x1_5, .int x1_6, .int x1_7, .int x1_8, .int x1_9, .int x1_10, .int x1_11, .int x1_12, .int x1_13])), (p2, .inl (cI, 4000, .inl y2)), (p3, .inl (cI, 9, .inl y3))]
abbrev wS100 (cI cJ cZ cB : ClassId) (p0 p1 p2 p3 p4 : Nat) (x1_4 : Int32) (x1_5 : Int32) (x1_6 : Int32) (x1_7 : Int32) (x1_8 : Int32) (x1_9 : Int32) (x1_10 : Int32) (x1_11 : Int32) (x1_12 : Int32) (x1_13 : Int32) (y2 : Nat → Int32) (y3 : Nat → Int32) (x4_0 : Int32) : va_W := [(p0, .inr (0, [.null, .null])), (p1, .inr (1, [.ref p2, .ref p3, .null, .null, .int x1_4, .int x1_5, .int x1_6, .int x1_7, .int x1_8, .int x1_9, .int x1_10, .int x1_11, .int x1_12, .int x1_13])), (p2, .inl (cI, 4000, .inl y2)), (p3, .inl (cI, 9, .inl y3)), (p4, .inr (2, [.int x4_0, .null]))]
set_option maxHeartbeats 4000000 in
set_option maxRecDepth 100000 in
theorem c_T_init_1 (l : Launch) (D : va_G) (cI cJ cZ cB : ClassId) (p0 p1 p2 p3 p4 : Nat) (sz : Nat)  : Met l y_T_init (.code y_T_init b_T_init 1 none :: tb) ({ frames := 1, cells := 0, slots := 0, locals := 12 }) (pM D cI cJ cZ cB (wS100 cI cJ cZ cB p0 p1 p2 p3 p4 (0 : Int32) (0 : Int32) (0 : Int32) (0 : Int32) (0 : Int32) (0 : Int32) (0 : Int32) (0 : Int32) (0 : Int32) (0 : Int32) (fun _ => 0) (fun _ => 0) (0 : Int32)) sz [.ref p4]) (va_Qv (fun (_ : Unit) => True) (fun u t => match u with | _ => va_P D classes (wS100 cI cJ cZ cB p0 p1 p2 p3 p4 (0 : Int32) (0 : Int32) (0 : Int32) (0 : Int32) (0 : Int32) (0 : Int32) (0 : Int32) (0 : Int32) (0 : Int32) (0 : Int32) (fun _ => 0) (fun _ => 0) (0 : Int32)) t.heap ∧ va_D (va_A (wS100 cI cJ cZ cB p0 p1 p2 p3 p4 (0 : Int32) (0 : Int32) (0 : Int32) (0 : Int32) (0 : Int32) (0 : Int32) (0 : Int32) (0 : Int32) (0 : Int32) (0 : Int32) (fun _ => 0) (fun _ => 0) (0 : Int32)) sz) (wS100 cI cJ cZ cB p0 p1 p2 p3 p4 (0 : Int32) (0 : Int32) (0 : Int32) (0 : Int32) (0 : Int32) (0 : Int32) (0 : Int32) (0 : Int32) (0 : Int32) (0 : Int32) (fun _ => 0) (fun _ => 0) (0 : Int32))) (va_A (wS100 cI cJ cZ cB p0 p1 p2 p3 p4 (0 : Int32) (0 : Int32) (0 : Int32) (0 : Int32) (0 : Int32) (0 : Int32) (0 : Int32) (0 : Int32) (0 : Int32) (0 : Int32) (fun _ => 0) (fun _ => 0) (0 : Int32)) sz)) 0 0 (va_A (wS100 cI cJ cZ cB p0 p1 p2 p3 p4 (0 : Int32) (0 : Int32) (0 : Int32) (0 : Int32) (0 : Int32) (0 : Int32) (0 : Int32) (0 : Int32) (0 : Int32) (0 : Int32) (fun _ => 0) (fun _ => 0) (0 : Int32)) sz) := by
  refine Met.ofW (cc := b_T_init) (maxL := 1) (ret := none) (by decide) rfl ?_
  intro p e s m args below meth c s₁ B hml hv
  obtain ⟨rfl, hsz, hK, hP, hD0⟩ := hv
  subst hsz
  have hD := hD0.self (sz := s.heap.size)
  generalize hAe : va_A (wS100 cI cJ cZ cB p0 p1 p2 p3 p4 (0 : Int32) (0 : Int32) (0 : Int32) (0 : Int32) (0 : Int32) (0 : Int32) (0 : Int32) (0 : Int32) (0 : Int32) (0 : Int32) (fun _ => 0) (fun _ => 0) (0 : Int32)) s.heap.size = A at hD ⊢
  have hA : ∀ q : Nat, s.heap.size ≤ q → A q := fun q h => by rw [← hAe]; exact Or.inr h
  have hS : va_S A s.heap s.heap [] := va_S.rf
  have hx := B.exec
  have hb := B.bytes
  have hr := B.returns
  have hts := atoms_spec (ws := .code y_T_init b_T_init 1 none :: tb) B.pre
  have hk : ∀ w ∈ tb, w.before [.ref p4].toArray s = true := fun w h => hts w (List.mem_cons_of_mem _ h)
  have hown : s.vm.findClass "SignMachine$Tape" = some m.cls := findClass_of_methodNamed B.named
  have hlocks := B.notSynchronized
  have hin : meth.name = "<init>" := (name_of_methodNamed B.named B.method).1
  have hl := lv_entry ([.ref p4]) (n := 1) (Nat.le_of_ble_eq_true rfl)
  rw [lg_entry_eq]
  generalize (lg_sl ([.ref p4]) ++ List.replicate (1 - (lg_sl ([.ref p4])).length) Slot.unset).toArray = ls at hl ⊢
  have hl : lv_has ls 1 [(0, .ref p4)] := hl
  refine lv_aload_n hx hb d_T_init_0 rfl (lv_at hl 0 rfl) ?_
  refine W.objInit hx hb hown (hk _ k_153) (hk _ k_140) (hk _ k_obj) rfl (by rw [hml]; exact hl.1) rfl d_T_init_1 (Nat.le_of_ble_eq_true rfl) (Nat.le_of_ble_eq_true rfl) ?_
  refine W.eq (g2 := F0 m 4 ls []) rfl ?_
  exact W.vret hx hb hr (fun t ht hW => ⟨⟨(), rfl, trivial, by show va_P D classes _ t.heap; rw [ht]; exact hP, hD⟩, hS.F ht⟩) hS.2.2 d_T_init_4
theorem iN_T_init_1 {R : Room} {s : State} {args : Array Value} {own host : String} {index : Nat} (hk : ∀ w ∈ tb, w.before args s = true) (hl : va_Nw (.methodLinkNest own index y_T_init host) s) (hR : 1 + 1 ≤ R.frames ∧ 8 + (1 + 11) + 12 ≤ R.locals) : va_CN R s args own index y_T_init host b_T_init 1 none (.code y_T_init b_T_init 1 none :: tb) ({ frames := 1, cells := 0, slots := 0, locals := 12 }) 0 0 0 ∧ (y_T_init).name = "<init>" ∧ (Cond.instanceMethod y_T_init).before args s = true := ⟨va_cnB 0 hk (gi_t k_152) rfl rfl rfl hl (hk _ k_118) h_T_init hR, rfl, hk _ k_151⟩
theorem iP_T_init_1 {R : Room} {s : State} {args : Array Value} {own : String} {index : Nat} (hk : ∀ w ∈ tb, w.before args s = true) (hl : Cond.methodLink own index y_T_init ∈ tb) (hR : 1 + 1 ≤ R.frames ∧ 8 + (1 + 11) + 12 ≤ R.locals) : CallB R s args own index y_T_init b_T_init 1 none (.code y_T_init b_T_init 1 none :: tb) ({ frames := 1, cells := 0, slots := 0, locals := 12 }) 0 0 0 ∧ (y_T_init).name = "<init>" ∧ (Cond.instanceMethod y_T_init).before args s = true := ⟨callB_of 0 hk (gi_t k_152) rfl rfl rfl (hk _ k_118) (hk _ hl) h_T_init hR, rfl, hk _ k_151⟩
abbrev wS101 (cI cJ cZ cB : ClassId) (p0 p1 p2 p3 p4 : Nat) (x1_4 : Int32) (x1_5 : Int32) (x1_6 : Int32) (x1_7 : Int32) (x1_8 : Int32) (x1_9 : Int32) (x1_10 : Int32) (x1_11 : Int32) (x1_12 : Int32) (x1_13 : Int32) (y2 : Nat → Int32) (y3 : Nat → Int32) (x4_0 : Int32) : va_W := [(p0, .inr (0, [.null, .null])), (p1, .inr (1, [.ref p2, .ref p3, .ref p4, .null, .int x1_4, .int x1_5, .int x1_6, .int x1_7, .int x1_8, .int x1_9, .int x1_10, .int x1_11, .int x1_12, .int x1_13])), (p2, .inl (cI, 4000, .inl y2)), (p3, .inl (cI, 9, .inl y3)), (p4, .inr (2, [.int x4_0, .null]))]
abbrev wS102 (cI cJ cZ cB : ClassId) (p0 p1 p2 p3 p4 p5 : Nat) (x1_4 : Int32) (x1_5 : Int32) (x1_6 : Int32) (x1_7 : Int32) (x1_8 : Int32) (x1_9 : Int32) (x1_10 : Int32) (x1_11 : Int32) (x1_12 : Int32) (x1_13 : Int32) (y2 : Nat → Int32) (y3 : Nat → Int32) (x4_0 : Int32) (x5_0 : Int32) : va_W := [(p0, .inr (0, [.null, .null])), (p1, .inr (1, [.ref p2, .ref p3, .ref p4, .null, .int x1_4, .int x1_5, .int x1_6, .int x1_7, .int x1_8, .int x1_9, .int x1_10, .int x1_11, .int x1_12, .int x1_13])), (p2, .inl (cI, 4000, .inl y2)), (p3, .inl (cI, 9, .inl y3)), (p4, .inr (2, [.int x4_0, .null])), (p5, .inr (2, [.int x5_0, .null]))]
set_option maxHeartbeats 4000000 in
set_option maxRecDepth 100000 in
theorem c_T_init_2 (l : Launch) (D : va_G) (cI cJ cZ cB : ClassId) (p0 p1 p2 p3 p4 p5 : Nat) (sz : Nat)  : Met l y_T_init (.code y_T_init b_T_init 1 none :: tb) ({ frames := 1, cells := 0, slots := 0, locals := 12 }) (pM D cI cJ cZ cB (wS102 cI cJ cZ cB p0 p1 p2 p3 p4 p5 (0 : Int32) (0 : Int32) (0 : Int32) (0 : Int32) (0 : Int32) (0 : Int32) (0 : Int32) (0 : Int32) (0 : Int32) (0 : Int32) (fun _ => 0) (fun _ => 0) (0 : Int32) (0 : Int32)) sz [.ref p5]) (va_Qv (fun (_ : Unit) => True) (fun u t => match u with | _ => va_P D classes (wS102 cI cJ cZ cB p0 p1 p2 p3 p4 p5 (0 : Int32) (0 : Int32) (0 : Int32) (0 : Int32) (0 : Int32) (0 : Int32) (0 : Int32) (0 : Int32) (0 : Int32) (0 : Int32) (fun _ => 0) (fun _ => 0) (0 : Int32) (0 : Int32)) t.heap ∧ va_D (va_A (wS102 cI cJ cZ cB p0 p1 p2 p3 p4 p5 (0 : Int32) (0 : Int32) (0 : Int32) (0 : Int32) (0 : Int32) (0 : Int32) (0 : Int32) (0 : Int32) (0 : Int32) (0 : Int32) (fun _ => 0) (fun _ => 0) (0 : Int32) (0 : Int32)) sz) (wS102 cI cJ cZ cB p0 p1 p2 p3 p4 p5 (0 : Int32) (0 : Int32) (0 : Int32) (0 : Int32) (0 : Int32) (0 : Int32) (0 : Int32) (0 : Int32) (0 : Int32) (0 : Int32) (fun _ => 0) (fun _ => 0) (0 : Int32) (0 : Int32))) (va_A (wS102 cI cJ cZ cB p0 p1 p2 p3 p4 p5 (0 : Int32) (0 : Int32) (0 : Int32) (0 : Int32) (0 : Int32) (0 : Int32) (0 : Int32) (0 : Int32) (0 : Int32) (0 : Int32) (fun _ => 0) (fun _ => 0) (0 : Int32) (0 : Int32)) sz)) 0 0 (va_A (wS102 cI cJ cZ cB p0 p1 p2 p3 p4 p5 (0 : Int32) (0 : Int32) (0 : Int32) (0 : Int32) (0 : Int32) (0 : Int32) (0 : Int32) (0 : Int32) (0 : Int32) (0 : Int32) (fun _ => 0) (fun _ => 0) (0 : Int32) (0 : Int32)) sz) := by
  refine Met.ofW (cc := b_T_init) (maxL := 1) (ret := none) (by decide) rfl ?_
  intro p e s m args below meth c s₁ B hml hv
  obtain ⟨rfl, hsz, hK, hP, hD0⟩ := hv
  subst hsz
  have hD := hD0.self (sz := s.heap.size)
  generalize hAe : va_A (wS102 cI cJ cZ cB p0 p1 p2 p3 p4 p5 (0 : Int32) (0 : Int32) (0 : Int32) (0 : Int32) (0 : Int32) (0 : Int32) (0 : Int32) (0 : Int32) (0 : Int32) (0 : Int32) (fun _ => 0) (fun _ => 0) (0 : Int32) (0 : Int32)) s.heap.size = A at hD ⊢
  have hA : ∀ q : Nat, s.heap.size ≤ q → A q := fun q h => by rw [← hAe]; exact Or.inr h
  have hS : va_S A s.heap s.heap [] := va_S.rf
  have hx := B.exec
  have hb := B.bytes
  have hr := B.returns
  have hts := atoms_spec (ws := .code y_T_init b_T_init 1 none :: tb) B.pre
  have hk : ∀ w ∈ tb, w.before [.ref p5].toArray s = true := fun w h => hts w (List.mem_cons_of_mem _ h)
  have hown : s.vm.findClass "SignMachine$Tape" = some m.cls := findClass_of_methodNamed B.named
  have hlocks := B.notSynchronized
  have hin : meth.name = "<init>" := (name_of_methodNamed B.named B.method).1
  have hl := lv_entry ([.ref p5]) (n := 1) (Nat.le_of_ble_eq_true rfl)
  rw [lg_entry_eq]
  generalize (lg_sl ([.ref p5]) ++ List.replicate (1 - (lg_sl ([.ref p5])).length) Slot.unset).toArray = ls at hl ⊢
  have hl : lv_has ls 1 [(0, .ref p5)] := hl
  refine lv_aload_n hx hb d_T_init_0 rfl (lv_at hl 0 rfl) ?_
  refine W.objInit hx hb hown (hk _ k_153) (hk _ k_140) (hk _ k_obj) rfl (by rw [hml]; exact hl.1) rfl d_T_init_1 (Nat.le_of_ble_eq_true rfl) (Nat.le_of_ble_eq_true rfl) ?_
  refine W.eq (g2 := F0 m 4 ls []) rfl ?_
  exact W.vret hx hb hr (fun t ht hW => ⟨⟨(), rfl, trivial, by show va_P D classes _ t.heap; rw [ht]; exact hP, hD⟩, hS.F ht⟩) hS.2.2 d_T_init_4
theorem iN_T_init_2 {R : Room} {s : State} {args : Array Value} {own host : String} {index : Nat} (hk : ∀ w ∈ tb, w.before args s = true) (hl : va_Nw (.methodLinkNest own index y_T_init host) s) (hR : 1 + 1 ≤ R.frames ∧ 8 + (1 + 11) + 12 ≤ R.locals) : va_CN R s args own index y_T_init host b_T_init 1 none (.code y_T_init b_T_init 1 none :: tb) ({ frames := 1, cells := 0, slots := 0, locals := 12 }) 0 0 0 ∧ (y_T_init).name = "<init>" ∧ (Cond.instanceMethod y_T_init).before args s = true := ⟨va_cnB 0 hk (gi_t k_152) rfl rfl rfl hl (hk _ k_118) h_T_init hR, rfl, hk _ k_151⟩
theorem iP_T_init_2 {R : Room} {s : State} {args : Array Value} {own : String} {index : Nat} (hk : ∀ w ∈ tb, w.before args s = true) (hl : Cond.methodLink own index y_T_init ∈ tb) (hR : 1 + 1 ≤ R.frames ∧ 8 + (1 + 11) + 12 ≤ R.locals) : CallB R s args own index y_T_init b_T_init 1 none (.code y_T_init b_T_init 1 none :: tb) ({ frames := 1, cells := 0, slots := 0, locals := 12 }) 0 0 0 ∧ (y_T_init).name = "<init>" ∧ (Cond.instanceMethod y_T_init).before args s = true := ⟨callB_of 0 hk (gi_t k_152) rfl rfl rfl (hk _ k_118) (hk _ hl) h_T_init hR, rfl, hk _ k_151⟩
abbrev wS103 (cI cJ cZ cB : ClassId) (p0 p1 p2 p3 p4 p5 : Nat) (x1_4 : Int32) (x1_5 : Int32) (x1_6 : Int32) (x1_7 : Int32) (x1_8 : Int32) (x1_9 : Int32) (x1_10 : Int32) (x1_11 : Int32) (x1_12 : Int32) (x1_13 : Int32) (y2 : Nat → Int32) (y3 : Nat → Int32) (x4_0 : Int32) (x5_0 : Int32) : va_W := [(p0, .inr (0, [.null, .null])), (p1, .inr (1, [.ref p2, .ref p3, .ref p4, .ref p5, .int x1_4, .int x1_5, .int x1_6, .int x1_7, .int x1_8, .int x1_9, .int x1_10, .int x1_11, .int x1_12, .int x1_13])), (p2, .inl (cI, 4000, .inl y2)), (p3, .inl (cI, 9, .inl y3)), (p4, .inr (2, [.int x4_0, .null])), (p5, .inr (2, [.int x5_0, .null]))]
set_option maxHeartbeats 4000000 in
set_option maxRecDepth 100000 in
theorem c_M_init_1 (l : Launch) (D : va_G) (cI cJ cZ cB : ClassId) (p0 p1 : Nat) (sz : Nat)  : Met l y_M_init (.code y_M_init b_M_init 1 none :: tb) ({ frames := 2, cells := 4, slots := 4013, locals := 32 }) (pM D cI cJ cZ cB (wS95 cI cJ cZ cB p0 p1 (0 : Int32) (0 : Int32) (0 : Int32) (0 : Int32) (0 : Int32) (0 : Int32) (0 : Int32) (0 : Int32) (0 : Int32) (0 : Int32)) sz [.ref p1]) (va_Qv (fun (_ : Nat × Nat × Nat × Nat) => True) (fun u t => match u with | (p2, p3, p4, p5) => va_P D classes (wS103 cI cJ cZ cB p0 p1 p2 p3 p4 p5 (0 : Int32) (0 : Int32) (0 : Int32) (0 : Int32) (0 : Int32) (0 : Int32) (0 : Int32) (0 : Int32) (0 : Int32) (0 : Int32) (fun _ => 0) (fun _ => 0) (0 : Int32) (0 : Int32)) t.heap ∧ va_D (va_A (wS95 cI cJ cZ cB p0 p1 (0 : Int32) (0 : Int32) (0 : Int32) (0 : Int32) (0 : Int32) (0 : Int32) (0 : Int32) (0 : Int32) (0 : Int32) (0 : Int32)) sz) (wS103 cI cJ cZ cB p0 p1 p2 p3 p4 p5 (0 : Int32) (0 : Int32) (0 : Int32) (0 : Int32) (0 : Int32) (0 : Int32) (0 : Int32) (0 : Int32) (0 : Int32) (0 : Int32) (fun _ => 0) (fun _ => 0) (0 : Int32) (0 : Int32))) (va_A (wS95 cI cJ cZ cB p0 p1 (0 : Int32) (0 : Int32) (0 : Int32) (0 : Int32) (0 : Int32) (0 : Int32) (0 : Int32) (0 : Int32) (0 : Int32) (0 : Int32)) sz)) 4 4013 (va_A (wS95 cI cJ cZ cB p0 p1 (0 : Int32) (0 : Int32) (0 : Int32) (0 : Int32) (0 : Int32) (0 : Int32) (0 : Int32) (0 : Int32) (0 : Int32) (0 : Int32)) sz) := by
  refine Met.ofW (cc := b_M_init) (maxL := 1) (ret := none) (by decide) rfl ?_
  intro p e s m args below meth c s₁ B hml hv
  obtain ⟨rfl, hsz, hK, hP, hD0⟩ := hv
  subst hsz
  have hD := hD0.self (sz := s.heap.size)
  generalize hAe : va_A (wS95 cI cJ cZ cB p0 p1 (0 : Int32) (0 : Int32) (0 : Int32) (0 : Int32) (0 : Int32) (0 : Int32) (0 : Int32) (0 : Int32) (0 : Int32) (0 : Int32)) s.heap.size = A at hD ⊢
  have hA : ∀ q : Nat, s.heap.size ≤ q → A q := fun q h => by rw [← hAe]; exact Or.inr h
  have hS : va_S A s.heap s.heap [] := va_S.rf
  have hx := B.exec
  have hb := B.bytes
  have hr := B.returns
  have hts := atoms_spec (ws := .code y_M_init b_M_init 1 none :: tb) B.pre
  have hk : ∀ w ∈ tb, w.before [.ref p1].toArray s = true := fun w h => hts w (List.mem_cons_of_mem _ h)
  have hown : s.vm.findClass "SignMachine$Machine" = some m.cls := findClass_of_methodNamed B.named
  have hlocks := B.notSynchronized
  have hin : meth.name = "<init>" := (name_of_methodNamed B.named B.method).1
  have hl := lv_entry ([.ref p1]) (n := 1) (Nat.le_of_ble_eq_true rfl)
  rw [lg_entry_eq]
  generalize (lg_sl ([.ref p1]) ++ List.replicate (1 - (lg_sl ([.ref p1])).length) Slot.unset).toArray = ls at hl ⊢
  have hl : lv_has ls 1 [(0, .ref p1)] := hl
  refine lv_aload_n hx hb d_M_init_0 rfl (lv_at hl 0 rfl) ?_
  refine W.objInit hx hb hown (hk _ k_147) (hk _ k_140) (hk _ k_obj) rfl (by rw [hml]; exact hl.1) rfl d_M_init_1 (Nat.le_of_ble_eq_true rfl) (Nat.le_of_ble_eq_true rfl) ?_
  refine W.eq (g2 := F0 m 4 ls []) rfl ?_
  refine lv_aload_n hx hb d_M_init_4 rfl (lv_at hl 0 rfl) ?_
  refine lv_sipush (v := 4000) hx hb d_M_init_5 (by decide) ?_
  refine nwa (atype := .int) (ty := .int) (N' := 4000) (a0 := (4000, .inl (fun _ => 0))) hx hb (hk _ k_162) rfl hK.1 0 rfl (fun _ h => h) hP hD hS hA (zr_int 4000) (by decide) (by decide) (by decide) (by decide) (by decide) d_M_init_8 (fun p2 H hP hD hS => ?_)
  have hP : va_P D classes (wS96 cI cJ cZ cB p0 p1 p2 (0 : Int32) (0 : Int32) (0 : Int32) (0 : Int32) (0 : Int32) (0 : Int32) (0 : Int32) (0 : Int32) (0 : Int32) (0 : Int32) (fun _ => 0)) H := hP
  have hD : va_D A (wS96 cI cJ cZ cB p0 p1 p2 (0 : Int32) (0 : Int32) (0 : Int32) (0 : Int32) (0 : Int32) (0 : Int32) (0 : Int32) (0 : Int32) (0 : Int32) (0 : Int32) (fun _ => 0)) := hD
  refine W.widen (k := 1) (n := 4000) (by decide) (by decide) ?_
  refine va_putF (D := D) (ci := 1) (v := .ref p2) (ty := (.array .int)) (C := "SignMachine$Machine") (T := F_M) (N := 14) hx hb hk fi_M ft_M ft_M_ok fn_M hown hK.1 hP hD hS 1 rfl rfl 0 (by decide) (hk _ k_163) (fun _ h9 => h9) rfl hin rfl (by decide +kernel) rfl rfl (Nat.le_of_ble_eq_true rfl) d_M_init_10 (fun H locs hP hD hS => ?_)
  have hP : va_P D classes (wS97 cI cJ cZ cB p0 p1 p2 (0 : Int32) (0 : Int32) (0 : Int32) (0 : Int32) (0 : Int32) (0 : Int32) (0 : Int32) (0 : Int32) (0 : Int32) (0 : Int32) (fun _ => 0)) H := hP
  have hD : va_D A (wS97 cI cJ cZ cB p0 p1 p2 (0 : Int32) (0 : Int32) (0 : Int32) (0 : Int32) (0 : Int32) (0 : Int32) (0 : Int32) (0 : Int32) (0 : Int32) (0 : Int32) (fun _ => 0)) := hD
  refine lv_aload_n hx hb d_M_init_13 rfl (lv_at hl 0 rfl) ?_
  refine lv_bipush (v := 9) hx hb d_M_init_14 (by decide) ?_
  refine nwa (atype := .int) (ty := .int) (N' := 9) (a0 := (9, .inl (fun _ => 0))) hx hb (hk _ k_162) rfl hK.1 0 rfl (fun _ h => h) hP hD hS hA (zr_int 9) (by decide) (by decide) (by decide) (by decide) (by decide) d_M_init_16 (fun p3 H hP hD hS => ?_)
  have hP : va_P D classes (wS98 cI cJ cZ cB p0 p1 p2 p3 (0 : Int32) (0 : Int32) (0 : Int32) (0 : Int32) (0 : Int32) (0 : Int32) (0 : Int32) (0 : Int32) (0 : Int32) (0 : Int32) (fun _ => 0) (fun _ => 0)) H := hP
  have hD : va_D A (wS98 cI cJ cZ cB p0 p1 p2 p3 (0 : Int32) (0 : Int32) (0 : Int32) (0 : Int32) (0 : Int32) (0 : Int32) (0 : Int32) (0 : Int32) (0 : Int32) (0 : Int32) (fun _ => 0) (fun _ => 0)) := hD
  refine W.widen (k := 2) (n := 4009) (by decide) (by decide) ?_
  refine va_putF (D := D) (ci := 1) (v := .ref p3) (ty := (.array .int)) (C := "SignMachine$Machine") (T := F_M) (N := 14) hx hb hk fi_M ft_M ft_M_ok fn_M hown hK.1 hP hD hS 1 rfl rfl 1 (by decide) (hk _ k_164) (fun _ h9 => h9) rfl hin rfl (by decide +kernel) rfl rfl (Nat.le_of_ble_eq_true rfl) d_M_init_18 (fun H locs hP hD hS => ?_)
  have hP : va_P D classes (wS99 cI cJ cZ cB p0 p1 p2 p3 (0 : Int32) (0 : Int32) (0 : Int32) (0 : Int32) (0 : Int32) (0 : Int32) (0 : Int32) (0 : Int32) (0 : Int32) (0 : Int32) (fun _ => 0) (fun _ => 0)) H := hP
  have hD : va_D A (wS99 cI cJ cZ cB p0 p1 p2 p3 (0 : Int32) (0 : Int32) (0 : Int32) (0 : Int32) (0 : Int32) (0 : Int32) (0 : Int32) (0 : Int32) (0 : Int32) (0 : Int32) (fun _ => 0) (fun _ => 0)) := hD
  refine lv_aload_n hx hb d_M_init_21 rfl (lv_at hl 0 rfl) ?_
  refine va_new (ci := 2) (fs := [.int 0, .null]) (C := "SignMachine$Tape") (T := F_T) (N := 2) hx hb hk fi_T ft_T ft_T_ok hown (hk _ k_148) (hk _ k_149) (hk _ k_118) hK.1 hP hD hS hA rfl (by decide +kernel) (by decide) (by decide) d_M_init_22 (fun p4 H hP hD hS => ?_)
  have hP : va_P D classes (wS100 cI cJ cZ cB p0 p1 p2 p3 p4 (0 : Int32) (0 : Int32) (0 : Int32) (0 : Int32) (0 : Int32) (0 : Int32) (0 : Int32) (0 : Int32) (0 : Int32) (0 : Int32) (fun _ => 0) (fun _ => 0) (0 : Int32)) H := hP
  have hD : va_D A (wS100 cI cJ cZ cB p0 p1 p2 p3 p4 (0 : Int32) (0 : Int32) (0 : Int32) (0 : Int32) (0 : Int32) (0 : Int32) (0 : Int32) (0 : Int32) (0 : Int32) (0 : Int32) (fun _ => 0) (fun _ => 0) (0 : Int32)) := hD
  refine W.widen (k := 3) (n := 4011) (by decide) (by decide) ?_
  refine lv_dup hx hb d_M_init_25 rfl ?_
  refine kn_v (va_runIN (As := []) (rest := [.ref p4, .ref p1]) ⟨hx, hb, hml, hown, hk⟩ (c_T_init_1 l D cI cJ cZ cB p0 p1 p2 p3 p4 H.size ) (iN_T_init_1 hk (hK.2 _ n_150) ⟨Nat.le_of_ble_eq_true rfl, Nat.le_of_ble_eq_true rfl⟩) (pM_i hK hP hD) rfl rfl hl.1 rfl (lv_room (Nat.le_of_ble_eq_true rfl)) d_M_init_26 ⟨by decide, by decide⟩) hS hA hD (fun u t H locs ht hB hFr hS => ?_)
  obtain ⟨hP, hD⟩ := hB
  rw [ht] at hP
  have hD := dwk hD hFr
  clear ht hFr
  have hP : va_P D classes (wS100 cI cJ cZ cB p0 p1 p2 p3 p4 (0 : Int32) (0 : Int32) (0 : Int32) (0 : Int32) (0 : Int32) (0 : Int32) (0 : Int32) (0 : Int32) (0 : Int32) (0 : Int32) (fun _ => 0) (fun _ => 0) (0 : Int32)) H := hP
  have hD : va_D A (wS100 cI cJ cZ cB p0 p1 p2 p3 p4 (0 : Int32) (0 : Int32) (0 : Int32) (0 : Int32) (0 : Int32) (0 : Int32) (0 : Int32) (0 : Int32) (0 : Int32) (0 : Int32) (fun _ => 0) (fun _ => 0) (0 : Int32)) := hD
  refine va_putF (D := D) (ci := 1) (v := .ref p4) (ty := (.object "SignMachine$Tape")) (C := "SignMachine$Machine") (T := F_M) (N := 14) hx hb hk fi_M ft_M ft_M_ok fn_M hown hK.1 hP hD hS 1 rfl rfl 2 (by decide) (hk _ k_165) (fun _ h9 => h9) rfl hin rfl (by decide +kernel) rfl rfl (Nat.le_of_ble_eq_true rfl) d_M_init_29 (fun H locs hP hD hS => ?_)
  have hP : va_P D classes (wS101 cI cJ cZ cB p0 p1 p2 p3 p4 (0 : Int32) (0 : Int32) (0 : Int32) (0 : Int32) (0 : Int32) (0 : Int32) (0 : Int32) (0 : Int32) (0 : Int32) (0 : Int32) (fun _ => 0) (fun _ => 0) (0 : Int32)) H := hP
  have hD : va_D A (wS101 cI cJ cZ cB p0 p1 p2 p3 p4 (0 : Int32) (0 : Int32) (0 : Int32) (0 : Int32) (0 : Int32) (0 : Int32) (0 : Int32) (0 : Int32) (0 : Int32) (0 : Int32) (fun _ => 0) (fun _ => 0) (0 : Int32)) := hD
  refine lv_aload_n hx hb d_M_init_32 rfl (lv_at hl 0 rfl) ?_
  refine va_new (ci := 2) (fs := [.int 0, .null]) (C := "SignMachine$Tape") (T := F_T) (N := 2) hx hb hk fi_T ft_T ft_T_ok hown (hk _ k_148) (hk _ k_149) (hk _ k_118) hK.1 hP hD hS hA rfl (by decide +kernel) (by decide) (by decide) d_M_init_33 (fun p5 H hP hD hS => ?_)
  have hP : va_P D classes (wS102 cI cJ cZ cB p0 p1 p2 p3 p4 p5 (0 : Int32) (0 : Int32) (0 : Int32) (0 : Int32) (0 : Int32) (0 : Int32) (0 : Int32) (0 : Int32) (0 : Int32) (0 : Int32) (fun _ => 0) (fun _ => 0) (0 : Int32) (0 : Int32)) H := hP
  have hD : va_D A (wS102 cI cJ cZ cB p0 p1 p2 p3 p4 p5 (0 : Int32) (0 : Int32) (0 : Int32) (0 : Int32) (0 : Int32) (0 : Int32) (0 : Int32) (0 : Int32) (0 : Int32) (0 : Int32) (fun _ => 0) (fun _ => 0) (0 : Int32) (0 : Int32)) := hD
  refine W.widen (k := 4) (n := 4013) (by decide) (by decide) ?_
  refine lv_dup hx hb d_M_init_36 rfl ?_
  refine kn_v (va_runIN (As := []) (rest := [.ref p5, .ref p1]) ⟨hx, hb, hml, hown, hk⟩ (c_T_init_2 l D cI cJ cZ cB p0 p1 p2 p3 p4 p5 H.size ) (iN_T_init_2 hk (hK.2 _ n_150) ⟨Nat.le_of_ble_eq_true rfl, Nat.le_of_ble_eq_true rfl⟩) (pM_i hK hP hD) rfl rfl hl.1 rfl (lv_room (Nat.le_of_ble_eq_true rfl)) d_M_init_37 ⟨by decide, by decide⟩) hS hA hD (fun u t H locs ht hB hFr hS => ?_)
  obtain ⟨hP, hD⟩ := hB
  rw [ht] at hP
  have hD := dwk hD hFr
  clear ht hFr
  have hP : va_P D classes (wS102 cI cJ cZ cB p0 p1 p2 p3 p4 p5 (0 : Int32) (0 : Int32) (0 : Int32) (0 : Int32) (0 : Int32) (0 : Int32) (0 : Int32) (0 : Int32) (0 : Int32) (0 : Int32) (fun _ => 0) (fun _ => 0) (0 : Int32) (0 : Int32)) H := hP
  have hD : va_D A (wS102 cI cJ cZ cB p0 p1 p2 p3 p4 p5 (0 : Int32) (0 : Int32) (0 : Int32) (0 : Int32) (0 : Int32) (0 : Int32) (0 : Int32) (0 : Int32) (0 : Int32) (0 : Int32) (fun _ => 0) (fun _ => 0) (0 : Int32) (0 : Int32)) := hD
  refine va_putF (D := D) (ci := 1) (v := .ref p5) (ty := (.object "SignMachine$Tape")) (C := "SignMachine$Machine") (T := F_M) (N := 14) hx hb hk fi_M ft_M ft_M_ok fn_M hown hK.1 hP hD hS 1 rfl rfl 3 (by decide) (hk _ k_166) (fun _ h9 => h9) rfl hin rfl (by decide +kernel) rfl rfl (Nat.le_of_ble_eq_true rfl) d_M_init_40 (fun H locs hP hD hS => ?_)
  have hP : va_P D classes (wS103 cI cJ cZ cB p0 p1 p2 p3 p4 p5 (0 : Int32) (0 : Int32) (0 : Int32) (0 : Int32) (0 : Int32) (0 : Int32) (0 : Int32) (0 : Int32) (0 : Int32) (0 : Int32) (fun _ => 0) (fun _ => 0) (0 : Int32) (0 : Int32)) H := hP
  have hD : va_D A (wS103 cI cJ cZ cB p0 p1 p2 p3 p4 p5 (0 : Int32) (0 : Int32) (0 : Int32) (0 : Int32) (0 : Int32) (0 : Int32) (0 : Int32) (0 : Int32) (0 : Int32) (0 : Int32) (fun _ => 0) (fun _ => 0) (0 : Int32) (0 : Int32)) := hD
  exact W.vret hx hb hr (fun t ht hW => ⟨⟨(p2, p3, p4, p5), rfl, trivial, by show va_P D classes _ t.heap; rw [ht]; exact hP, hD⟩, hS.F ht⟩) hS.2.2 d_M_init_43
theorem iN_M_init_1 {R : Room} {s : State} {args : Array Value} {own host : String} {index : Nat} (hk : ∀ w ∈ tb, w.before args s = true) (hl : va_Nw (.methodLinkNest own index y_M_init host) s) (hR : 2 + 1 ≤ R.frames ∧ 8 + (1 + 11) + 32 ≤ R.locals) : va_CN R s args own index y_M_init host b_M_init 1 none (.code y_M_init b_M_init 1 none :: tb) ({ frames := 2, cells := 4, slots := 4013, locals := 32 }) 4 4013 0 ∧ (y_M_init).name = "<init>" ∧ (Cond.instanceMethod y_M_init).before args s = true := ⟨va_cnB 0 hk (gi_t k_146) rfl rfl rfl hl (hk _ k_117) h_M_init hR, rfl, hk _ k_145⟩
theorem iP_M_init_1 {R : Room} {s : State} {args : Array Value} {own : String} {index : Nat} (hk : ∀ w ∈ tb, w.before args s = true) (hl : Cond.methodLink own index y_M_init ∈ tb) (hR : 2 + 1 ≤ R.frames ∧ 8 + (1 + 11) + 32 ≤ R.locals) : CallB R s args own index y_M_init b_M_init 1 none (.code y_M_init b_M_init 1 none :: tb) ({ frames := 2, cells := 4, slots := 4013, locals := 32 }) 4 4013 0 ∧ (y_M_init).name = "<init>" ∧ (Cond.instanceMethod y_M_init).before args s = true := ⟨callB_of 0 hk (gi_t k_146) rfl rfl rfl (hk _ k_117) (hk _ hl) h_M_init hR, rfl, hk _ k_145⟩
abbrev wS104 (cI cJ cZ cB : ClassId) (p0 p1 p2 p3 p4 p5 : Nat) (x1_4 : Int32) (x1_5 : Int32) (x1_6 : Int32) (x1_7 : Int32) (x1_8 : Int32) (x1_9 : Int32) (x1_10 : Int32) (x1_11 : Int32) (x1_12 : Int32) (x1_13 : Int32) (y2 : Nat → Int32) (y3 : Nat → Int32) (x4_0 : Int32) (x5_0 : Int32) : va_W := [(p0, .inr (0, [.ref p1, .null])), (p1, .inr (1, [.ref p2, .ref p3, .ref p4, .ref p5, .int x1_4, .int x1_5, .int x1_6, .int x1_7, .int x1_8, .int x1_9, .int x1_10, .int x1_11, .int x1_12, .int x1_13])), (p2, .inl (cI, 4000, .inl y2)), (p3, .inl (cI, 9, .inl y3)), (p4, .inr (2, [.int x4_0, .null])), (p5, .inr (2, [.int x5_0, .null]))]
set_option maxHeartbeats 4000000 in
set_option maxRecDepth 100000 in
theorem c_S_init_1 (l : Launch) (D : va_G) (cI cJ cZ cB : ClassId) (p0 : Nat) (sz : Nat)  : Met l y_S_init (.code y_S_init b_S_init 1 none :: tb) ({ frames := 3, cells := 5, slots := 4027, locals := 52 }) (pM D cI cJ cZ cB (wS94 cI cJ cZ cB p0 ) sz [.ref p0]) (va_Qv (fun (_ : Nat × Nat × Nat × Nat × Nat) => True) (fun u t => match u with | (p1, p2, p3, p4, p5) => va_P D classes (wS104 cI cJ cZ cB p0 p1 p2 p3 p4 p5 (0 : Int32) (0 : Int32) (0 : Int32) (0 : Int32) (0 : Int32) (0 : Int32) (0 : Int32) (0 : Int32) (0 : Int32) (0 : Int32) (fun _ => 0) (fun _ => 0) (0 : Int32) (0 : Int32)) t.heap ∧ va_D (va_A (wS94 cI cJ cZ cB p0 ) sz) (wS104 cI cJ cZ cB p0 p1 p2 p3 p4 p5 (0 : Int32) (0 : Int32) (0 : Int32) (0 : Int32) (0 : Int32) (0 : Int32) (0 : Int32) (0 : Int32) (0 : Int32) (0 : Int32) (fun _ => 0) (fun _ => 0) (0 : Int32) (0 : Int32))) (va_A (wS94 cI cJ cZ cB p0 ) sz)) 5 4027 (va_A (wS94 cI cJ cZ cB p0 ) sz) := by
  refine Met.ofW (cc := b_S_init) (maxL := 1) (ret := none) (by decide) rfl ?_
  intro p e s m args below meth c s₁ B hml hv
  obtain ⟨rfl, hsz, hK, hP, hD0⟩ := hv
  subst hsz
  have hD := hD0.self (sz := s.heap.size)
  generalize hAe : va_A (wS94 cI cJ cZ cB p0 ) s.heap.size = A at hD ⊢
  have hA : ∀ q : Nat, s.heap.size ≤ q → A q := fun q h => by rw [← hAe]; exact Or.inr h
  have hS : va_S A s.heap s.heap [] := va_S.rf
  have hx := B.exec
  have hb := B.bytes
  have hr := B.returns
  have hts := atoms_spec (ws := .code y_S_init b_S_init 1 none :: tb) B.pre
  have hk : ∀ w ∈ tb, w.before [.ref p0].toArray s = true := fun w h => hts w (List.mem_cons_of_mem _ h)
  have hown : s.vm.findClass "SignMachine" = some m.cls := findClass_of_methodNamed B.named
  have hlocks := B.notSynchronized
  have hin : meth.name = "<init>" := (name_of_methodNamed B.named B.method).1
  have hl := lv_entry ([.ref p0]) (n := 1) (Nat.le_of_ble_eq_true rfl)
  rw [lg_entry_eq]
  generalize (lg_sl ([.ref p0]) ++ List.replicate (1 - (lg_sl ([.ref p0])).length) Slot.unset).toArray = ls at hl ⊢
  have hl : lv_has ls 1 [(0, .ref p0)] := hl
  refine lv_aload_n hx hb d_S_init_0 rfl (lv_at hl 0 rfl) ?_
  refine W.objInit hx hb hown (hk _ k_139) (hk _ k_140) (hk _ k_obj) rfl (by rw [hml]; exact hl.1) rfl d_S_init_1 (Nat.le_of_ble_eq_true rfl) (Nat.le_of_ble_eq_true rfl) ?_
  refine W.eq (g2 := F0 m 4 ls []) rfl ?_
  refine lv_aload_n hx hb d_S_init_4 rfl (lv_at hl 0 rfl) ?_
  refine va_new (ci := 1) (fs := [.null, .null, .null, .null, .int 0, .int 0, .int 0, .int 0, .int 0, .int 0, .int 0, .int 0, .int 0, .int 0]) (C := "SignMachine$Machine") (T := F_M) (N := 14) hx hb hk fi_M ft_M ft_M_ok hown (hk _ k_142) (hk _ k_143) (hk _ k_117) hK.1 hP hD hS hA rfl (by decide +kernel) (by decide) (by decide) d_S_init_5 (fun p1 H hP hD hS => ?_)
  have hP : va_P D classes (wS95 cI cJ cZ cB p0 p1 (0 : Int32) (0 : Int32) (0 : Int32) (0 : Int32) (0 : Int32) (0 : Int32) (0 : Int32) (0 : Int32) (0 : Int32) (0 : Int32)) H := hP
  have hD : va_D A (wS95 cI cJ cZ cB p0 p1 (0 : Int32) (0 : Int32) (0 : Int32) (0 : Int32) (0 : Int32) (0 : Int32) (0 : Int32) (0 : Int32) (0 : Int32) (0 : Int32)) := hD
  refine W.widen (k := 1) (n := 14) (by decide) (by decide) ?_
  refine lv_dup hx hb d_S_init_8 rfl ?_
  refine kn_v (va_runIN (As := []) (rest := [.ref p1, .ref p0]) ⟨hx, hb, hml, hown, hk⟩ (c_M_init_1 l D cI cJ cZ cB p0 p1 H.size ) (iN_M_init_1 hk (hK.2 _ n_144) ⟨Nat.le_of_ble_eq_true rfl, Nat.le_of_ble_eq_true rfl⟩) (pM_i hK hP hD) rfl rfl hl.1 rfl (lv_room (Nat.le_of_ble_eq_true rfl)) d_S_init_9 ⟨by decide, by decide⟩) hS hA hD (fun u t H locs ht hB hFr hS => ?_)
  obtain ⟨p2, p3, p4, p5⟩ := u
  obtain ⟨hP, hD⟩ := hB
  rw [ht] at hP
  have hD := dwk hD hFr
  clear ht hFr
  have hP : va_P D classes (wS103 cI cJ cZ cB p0 p1 p2 p3 p4 p5 (0 : Int32) (0 : Int32) (0 : Int32) (0 : Int32) (0 : Int32) (0 : Int32) (0 : Int32) (0 : Int32) (0 : Int32) (0 : Int32) (fun _ => 0) (fun _ => 0) (0 : Int32) (0 : Int32)) H := hP
  have hD : va_D A (wS103 cI cJ cZ cB p0 p1 p2 p3 p4 p5 (0 : Int32) (0 : Int32) (0 : Int32) (0 : Int32) (0 : Int32) (0 : Int32) (0 : Int32) (0 : Int32) (0 : Int32) (0 : Int32) (fun _ => 0) (fun _ => 0) (0 : Int32) (0 : Int32)) := hD
  refine W.widen (k := 5) (n := 4027) (by decide) (by decide) ?_
  refine va_putF (D := D) (ci := 0) (v := .ref p1) (ty := (.object "SignMachine$Machine")) (C := "SignMachine") (T := F_S) (N := 2) hx hb hk fi_S ft_S ft_S_ok fn_S hown hK.1 hP hD hS 0 rfl rfl 0 (by decide) (hk _ k_210) (fun _ h9 => h9) rfl hin rfl (by decide +kernel) rfl rfl (Nat.le_of_ble_eq_true rfl) d_S_init_12 (fun H locs hP hD hS => ?_)
  have hP : va_P D classes (wS104 cI cJ cZ cB p0 p1 p2 p3 p4 p5 (0 : Int32) (0 : Int32) (0 : Int32) (0 : Int32) (0 : Int32) (0 : Int32) (0 : Int32) (0 : Int32) (0 : Int32) (0 : Int32) (fun _ => 0) (fun _ => 0) (0 : Int32) (0 : Int32)) H := hP
  have hD : va_D A (wS104 cI cJ cZ cB p0 p1 p2 p3 p4 p5 (0 : Int32) (0 : Int32) (0 : Int32) (0 : Int32) (0 : Int32) (0 : Int32) (0 : Int32) (0 : Int32) (0 : Int32) (0 : Int32) (fun _ => 0) (fun _ => 0) (0 : Int32) (0 : Int32)) := hD
  exact W.vret hx hb hr (fun t ht hW => ⟨⟨(p1, p2, p3, p4, p5), rfl, trivial, by show va_P D classes _ t.heap; rw [ht]; exact hP, hD⟩, hS.F ht⟩) hS.2.2 d_S_init_15
theorem iN_S_init_1 {R : Room} {s : State} {args : Array Value} {own host : String} {index : Nat} (hk : ∀ w ∈ tb, w.before args s = true) (hl : va_Nw (.methodLinkNest own index y_S_init host) s) (hR : 3 + 1 ≤ R.frames ∧ 8 + (1 + 11) + 52 ≤ R.locals) : va_CN R s args own index y_S_init host b_S_init 1 none (.code y_S_init b_S_init 1 none :: tb) ({ frames := 3, cells := 5, slots := 4027, locals := 52 }) 5 4027 0 ∧ (y_S_init).name = "<init>" ∧ (Cond.instanceMethod y_S_init).before args s = true := ⟨va_cnB 0 hk (gi_t k_138) rfl rfl rfl hl (hk _ k_116) h_S_init hR, rfl, hk _ k_137⟩
theorem iP_S_init_1 {R : Room} {s : State} {args : Array Value} {own : String} {index : Nat} (hk : ∀ w ∈ tb, w.before args s = true) (hl : Cond.methodLink own index y_S_init ∈ tb) (hR : 3 + 1 ≤ R.frames ∧ 8 + (1 + 11) + 52 ≤ R.locals) : CallB R s args own index y_S_init b_S_init 1 none (.code y_S_init b_S_init 1 none :: tb) ({ frames := 3, cells := 5, slots := 4027, locals := 52 }) 5 4027 0 ∧ (y_S_init).name = "<init>" ∧ (Cond.instanceMethod y_S_init).before args s = true := ⟨callB_of 0 hk (gi_t k_138) rfl rfl rfl (hk _ k_116) (hk _ hl) h_S_init hR, rfl, hk _ k_137⟩

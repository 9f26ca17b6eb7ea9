abbrev wS0 (cI cJ cZ cB : ClassId) (p0 : Nat)  : va_W := [(p0, .inr (0, [.null, .null]))]
abbrev wS1 (cI cJ cZ cB : ClassId) (p0 p1 : Nat) (x1_4 : Int32) (x1_5 : Int32) (x1_6 : Int32) (x1_7 : Int32) (x1_8 : Int32) (x1_9 : Int32) (x1_10 : Int32) (x1_11 : Int32) (x1_12 : Int32) (x1_13 : Int32) : va_W := [(p0, .inr (0, [.null, .null])), (p1, .inr (1, [.null, .null, .null, .null, .int x1_4, .int x1_5, .int x1_6, .int x1_7, .int x1_8, .int x1_9, .int x1_10, .int x1_11, .int x1_12, .int x1_13]))]
abbrev wS2 (cI cJ cZ cB : ClassId) (p0 p1 p2 : Nat) (x1_4 : Int32) (x1_5 : Int32) (x1_6 : Int32) (x1_7 : Int32) (x1_8 : Int32) (x1_9 : Int32) (x1_10 : Int32) (x1_11 : Int32) (x1_12 : Int32) (x1_13 : Int32) (y2 : Nat → Int32) : va_W := [(p0, .inr (0, [.null, .null])), (p1, .inr (1, [.null, .null, .null, .null, .int x1_4, .int x1_5, .int x1_6, .int x1_7, .int x1_8, .int x1_9, .int x1_10, .int x1_11, .int x1_12, .int x1_13])), (p2, .inl (cI, 4000, .inl y2))]
abbrev wS3 (cI cJ cZ cB : ClassId) (p0 p1 p2 : Nat) (x1_4 : Int32) (x1_5 : Int32) (x1_6 : Int32) (x1_7 : Int32) (x1_8 : Int32) (x1_9 : Int32) (x1_10 : Int32) (x1_11 : Int32) (x1_12 : Int32) (x1_13 : Int32) (y2 : Nat → Int32) : va_W := [(p0, .inr (0, [.null, .null])), (p1, .inr (1, [.ref p2, .null, .null, .null, .int x1_4, .int x1_5, .int x1_6, .int x1_7, .int x1_8, .int x1_9, .int x1_10, .int x1_11, .int x1_12, .int x1_13])), (p2, .inl (cI, 4000, .inl y2))]
abbrev wS4 (cI cJ cZ cB : ClassId) (p0 p1 p2 p3 : Nat) (x1_4 : Int32) (x1_5 : Int32) (x1_6 : Int32) (x1_7 : Int32) (x1_8 : Int32) (x1_9 : Int32) (x1_10 : Int32) (x1_11 : Int32) (x1_12 : Int32) (x1_13 : Int32) (y2 : Nat → Int32) (y3 : Nat → Int32) : va_W := [(p0, .inr (0, [.null, .null])), (p1, .inr (1, [.ref p2, .null, .null, .null, .int x1_4, .int x1_5, .int x1_6, .int x1_7, .int x1_8, .int x1_9, .int x1_10, .int x1_11, .int x1_12, .int x1_13])), (p2, .inl (cI, 4000, .inl y2)), (p3, .inl (cI, 9, .inl y3))]
abbrev wS5 (cI cJ cZ cB : ClassId) (p0 p1 p2 p3 : Nat) (x1_4 : Int32) (x1_5 : Int32) (x1_6 : Int32) (x1_7 : Int32) (x1_8 : Int32) (x1_9 : Int32) (x1_10 : Int32) (x1_11 : Int32) (x1_12 : Int32) (x1_13 : Int32) (y2 : Nat → Int32) (y3 : Nat → Int32) : va_W := [(p0, .inr (0, [.null, .null])), (p1, .inr (1, [.ref p2, .ref p3, .null, .null, .int x1_4, .int x1_5, .int x1_6, .int x1_7, .int x1_8, .int x1_9, .int x1_10, .int x1_11, .int x1_12, .int x1_13])), (p2, .inl (cI, 4000, .inl y2)), (p3, .inl (cI, 9, .inl y3))]
abbrev wS6 (cI cJ cZ cB : ClassId) (p0 p1 p2 p3 p4 : Nat) (x1_4 : Int32) (x1_5 : Int32) (x1_6 : Int32) (x1_7 : Int32) (x1_8 : Int32) (x1_9 : Int32) (x1_10 : Int32) (x1_11 : Int32) (x1_12 : Int32) (x1_13 : Int32) (y2 : Nat → Int32) (y3 : Nat → Int32) (x4_0 : Int32) : va_W := [(p0, .inr (0, [.null, .null])), (p1, .inr (1, [.ref p2, .ref p3, .null, .null, .int x1_4, .int x1_5, .int x1_6, .int x1_7, .int x1_8, .int x1_9, .int x1_10, .int x1_11, .int x1_12, .int x1_13])), (p2, .inl (cI, 4000, .inl y2)), (p3, .inl (cI, 9, .inl y3)), (p4, .inr (2, [.int x4_0, .null]))]
set_option maxHeartbeats 4000000 in
set_option maxRecDepth 100000 in
theorem c_T_init_1 (l : Launch) (D : va_G) (cI cJ cZ cB : ClassId) (p0 p1 p2 p3 p4 : Nat) (sz : Nat)  : Met l y_T_init (.code y_T_init b_T_init 1 none :: tb) ({ frames := 1, cells := 0, slots := 0, locals := 12 }) (pM D cI cJ cZ cB (wS6 cI cJ cZ cB p0 p1 p2 p3 p4 (0 : Int32) (0 : Int32) (0 : Int32) (0 : Int32) (0 : Int32) (0 : Int32) (0 : Int32) (0 : Int32) (0 : Int32) (0 : Int32) (fun _ => 0) (fun _ => 0) (0 : Int32)) sz [.ref p4]) (va_Qv (fun (_ : Unit) => True) (fun u t => match u with | _ => va_P D classes (wS6 cI cJ cZ cB p0 p1 p2 p3 p4 (0 : Int32) (0 : Int32) (0 : Int32) (0 : Int32) (0 : Int32) (0 : Int32) (0 : Int32) (0 : Int32) (0 : Int32) (0 : Int32) (fun _ => 0) (fun _ => 0) (0 : Int32)) t.heap ∧ va_D (va_A (wS6 cI cJ cZ cB p0 p1 p2 p3 p4 (0 : Int32) (0 : Int32) (0 : Int32) (0 : Int32) (0 : Int32) (0 : Int32) (0 : Int32) (0 : Int32) (0 : Int32) (0 : Int32) (fun _ => 0) (fun _ => 0) (0 : Int32)) sz) (wS6 cI cJ cZ cB p0 p1 p2 p3 p4 (0 : Int32) (0 : Int32) (0 : Int32) (0 : Int32) (0 : Int32) (0 : Int32) (0 : Int32) (0 : Int32) (0 : Int32) (0 : Int32) (fun _ => 0) (fun _ => 0) (0 : Int32))) (va_A (wS6 cI cJ cZ cB p0 p1 p2 p3 p4 (0 : Int32) (0 : Int32) (0 : Int32) (0 : Int32) (0 : Int32) (0 : Int32) (0 : Int32) (0 : Int32) (0 : Int32) (0 : Int32) (fun _ => 0) (fun _ => 0) (0 : Int32)) sz)) 0 0 (va_A (wS6 cI cJ cZ cB p0 p1 p2 p3 p4 (0 : Int32) (0 : Int32) (0 : Int32) (0 : Int32) (0 : Int32) (0 : Int32) (0 : Int32) (0 : Int32) (0 : Int32) (0 : Int32) (fun _ => 0) (fun _ => 0) (0 : Int32)) sz) := by
  refine Met.ofW (cc := b_T_init) (maxL := 1) (ret := none) (by decide) rfl ?_
  intro p e s m args below meth c s₁ B hml hv
  obtain ⟨rfl, hsz, hK, hP, hD0⟩ := hv
  subst hsz
  have hD := hD0.self (sz := s.heap.size)
  generalize hAe : va_A (wS6 cI cJ cZ cB p0 p1 p2 p3 p4 (0 : Int32) (0 : Int32) (0 : Int32) (0 : Int32) (0 : Int32) (0 : Int32) (0 : Int32) (0 : Int32) (0 : Int32) (0 : Int32) (fun _ => 0) (fun _ => 0) (0 : Int32)) s.heap.size = A at hD ⊢
  have hA : ∀ q : Nat, s.heap.size ≤ q → A q := fun q h => by rw [← hAe]; exact Or.inr h
  have hS : va_S A s.heap s.heap [] := va_S.rf
  have hx := B.exec
  have hb := B.bytes
  have hr := B.returns
  have hts := atoms_spec (ws := .code y_T_init b_T_init 1 none :: tb) B.pre
  have hk : ∀ w ∈ tb, w.before [.ref p4].toArray s = true := fun w h => hts w (List.mem_cons_of_mem _ h)
  have hown : s.vm.findClass "SignMachine$Tape" = some m.cls := findClass_of_methodNamed B.named
  have hlocks := B.notSynchronized
  have hin : meth.name = "<init>" := (name_of_methodNamed B.named B.method).1
  have hl := lv_entry ([.ref p4]) (n := 1) (Nat.le_of_ble_eq_true rfl)
  rw [lg_entry_eq]
  generalize (lg_sl ([.ref p4]) ++ List.replicate (1 - (lg_sl ([.ref p4])).length) Slot.unset).toArray = ls at hl ⊢
  have hl : lv_has ls 1 [(0, .ref p4)] := hl
  refine lv_aload_n hx hb d_T_init_0 rfl (lv_at hl 0 rfl) ?_
  refine W.objInit hx hb hown (hk _ k_153) (hk _ k_140) (hk _ k_obj) rfl (by rw [hml]; exact hl.1) rfl d_T_init_1 (Nat.le_of_ble_eq_true rfl) (Nat.le_of_ble_eq_true rfl) ?_
  refine W.eq (g2 := F0 m 4 ls []) rfl ?_
  exact W.vret hx hb hr (fun t ht hW => ⟨⟨(), rfl, trivial, by show va_P D classes _ t.heap; rw [ht]; exact hP, hD⟩, hS.F ht⟩) hS.2.2 d_T_init_4
theorem iN_T_init_1 {R : Room} {s : State} {args : Array Value} {own host : String} {index : Nat} (hk : ∀ w ∈ tb, w.before args s = true) (hl : va_Nw (.methodLinkNest own index y_T_init host) s) (hR : 1 + 1 ≤ R.frames ∧ 8 + (1 + 11) + 12 ≤ R.locals) : va_CN R s args own index y_T_init host b_T_init 1 none (.code y_T_init b_T_init 1 none :: tb) ({ frames := 1, cells := 0, slots := 0, locals := 12 }) 0 0 0 ∧ (y_T_init).name = "<init>" ∧ (Cond.instanceMethod y_T_init).before args s = true := ⟨va_cnB 0 hk (gi_t k_152) rfl rfl rfl hl (hk _ k_118) h_T_init hR, rfl, hk _ k_151⟩
theorem iP_T_init_1 {R : Room} {s : State} {args : Array Value} {own : String} {index : Nat} (hk : ∀ w ∈ tb, w.before args s = true) (hl : Cond.methodLink own index y_T_init ∈ tb) (hR : 1 + 1 ≤ R.frames ∧ 8 + (1 + 11) + 12 ≤ R.locals) : CallB R s args own index y_T_init b_T_init 1 none (.code y_T_init b_T_init 1 none :: tb) ({ frames := 1, cells := 0, slots := 0, locals := 12 }) 0 0 0 ∧ (y_T_init).name = "<init>" ∧ (Cond.instanceMethod y_T_init).before args s = true := ⟨callB_of 0 hk (gi_t k_152) rfl rfl rfl (hk _ k_118) (hk _ hl) h_T_init hR, rfl, hk _ k_151⟩
abbrev wS7 (cI cJ cZ cB : ClassId) (p0 p1 p2 p3 p4 : Nat) (x1_4 : Int32) (x1_5 : Int32) (x1_6 : Int32) (x1_7 : Int32) (x1_8 : Int32) (x1_9 : Int32) (x1_10 : Int32) (x1_11 : Int32) (x1_12 : Int32) (x1_13 : Int32) (y2 : Nat → Int32) (y3 : Nat → Int32) (x4_0 : Int32) : va_W := [(p0, .inr (0, [.null, .null])), (p1, .inr (1, [.ref p2, .ref p3, .ref p4, .null, .int x1_4, .int x1_5, .int x1_6, .int x1_7, .int x1_8, .int x1_9, .int x1_10, .int x1_11, .int x1_12, .int x1_13])), (p2, .inl (cI, 4000, .inl y2)), (p3, .inl (cI, 9, .inl y3)), (p4, .inr (2, [.int x4_0, .null]))]
abbrev wS8 (cI cJ cZ cB : ClassId) (p0 p1 p2 p3 p4 p5 : Nat) (x1_4 : Int32) (x1_5 : Int32) (x1_6 : Int32) (x1_7 : Int32) (x1_8 : Int32) (x1_9 : Int32) (x1_10 : Int32) (x1_11 : Int32) (x1_12 : Int32) (x1_13 : Int32) (y2 : Nat → Int32) (y3 : Nat → Int32) (x4_0 : Int32) (x5_0 : Int32) : va_W := [(p0, .inr (0, [.null, .null])), (p1, .inr (1, [.ref p2, .ref p3, .ref p4, .null, .int x1_4, .int x1_5, .int x1_6, .int x1_7, .int x1_8, .int x1_9, .int x1_10, .int x1_11, .int x1_12, .int x1_13])), (p2, .inl (cI, 4000, .inl y2)), (p3, .inl (cI, 9, .inl y3)), (p4, .inr (2, [.int x4_0, .null])), (p5, .inr (2, [.int x5_0, .null]))]
set_option maxHeartbeats 4000000 in
set_option maxRecDepth 100000 in
theorem c_T_init_2 (l : Launch) (D : va_G) (cI cJ cZ cB : ClassId) (p0 p1 p2 p3 p4 p5 : Nat) (sz : Nat)  : Met l y_T_init (.code y_T_init b_T_init 1 none :: tb) ({ frames := 1, cells := 0, slots := 0, locals := 12 }) (pM D cI cJ cZ cB (wS8 cI cJ cZ cB p0 p1 p2 p3 p4 p5 (0 : Int32) (0 : Int32) (0 : Int32) (0 : Int32) (0 : Int32) (0 : Int32) (0 : Int32) (0 : Int32) (0 : Int32) (0 : Int32) (fun _ => 0) (fun _ => 0) (0 : Int32) (0 : Int32)) sz [.ref p5]) (va_Qv (fun (_ : Unit) => True) (fun u t => match u with | _ => va_P D classes (wS8 cI cJ cZ cB p0 p1 p2 p3 p4 p5 (0 : Int32) (0 : Int32) (0 : Int32) (0 : Int32) (0 : Int32) (0 : Int32) (0 : Int32) (0 : Int32) (0 : Int32) (0 : Int32) (fun _ => 0) (fun _ => 0) (0 : Int32) (0 : Int32)) t.heap ∧ va_D (va_A (wS8 cI cJ cZ cB p0 p1 p2 p3 p4 p5 (0 : Int32) (0 : Int32) (0 : Int32) (0 : Int32) (0 : Int32) (0 : Int32) (0 : Int32) (0 : Int32) (0 : Int32) (0 : Int32) (fun _ => 0) (fun _ => 0) (0 : Int32) (0 : Int32)) sz) (wS8 cI cJ cZ cB p0 p1 p2 p3 p4 p5 (0 : Int32) (0 : Int32) (0 : Int32) (0 : Int32) (0 : Int32) (0 : Int32) (0 : Int32) (0 : Int32) (0 : Int32) (0 : Int32) (fun _ => 0) (fun _ => 0) (0 : Int32) (0 : Int32))) (va_A (wS8 cI cJ cZ cB p0 p1 p2 p3 p4 p5 (0 : Int32) (0 : Int32) (0 : Int32) (0 : Int32) (0 : Int32) (0 : Int32) (0 : Int32) (0 : Int32) (0 : Int32) (0 : Int32) (fun _ => 0) (fun _ => 0) (0 : Int32) (0 : Int32)) sz)) 0 0 (va_A (wS8 cI cJ cZ cB p0 p1 p2 p3 p4 p5 (0 : Int32) (0 : Int32) (0 : Int32) (0 : Int32) (0 : Int32) (0 : Int32) (0 : Int32) (0 : Int32) (0 : Int32) (0 : Int32) (fun _ => 0) (fun _ => 0) (0 : Int32) (0 : Int32)) sz) := by
  refine Met.ofW (cc := b_T_init) (maxL := 1) (ret := none) (by decide) rfl ?_
  intro p e s m args below meth c s₁ B hml hv
  obtain ⟨rfl, hsz, hK, hP, hD0⟩ := hv
  subst hsz
  have hD := hD0.self (sz := s.heap.size)
  generalize hAe : va_A (wS8 cI cJ cZ cB p0 p1 p2 p3 p4 p5 (0 : Int32) (0 : Int32) (0 : Int32) (0 : Int32) (0 : Int32) (0 : Int32) (0 : Int32) (0 : Int32) (0 : Int32) (0 : Int32) (fun _ => 0) (fun _ => 0) (0 : Int32) (0 : Int32)) s.heap.size = A at hD ⊢
  have hA : ∀ q : Nat, s.heap.size ≤ q → A q := fun q h => by rw [← hAe]; exact Or.inr h
  have hS : va_S A s.heap s.heap [] := va_S.rf
  have hx := B.exec
  have hb := B.bytes
  have hr := B.returns
  have hts := atoms_spec (ws := .code y_T_init b_T_init 1 none :: tb) B.pre
  have hk : ∀ w ∈ tb, w.before [.ref p5].toArray s = true := fun w h => hts w (List.mem_cons_of_mem _ h)
  have hown : s.vm.findClass "SignMachine$Tape" = some m.cls := findClass_of_methodNamed B.named
  have hlocks := B.notSynchronized
  have hin : meth.name = "<init>" := (name_of_methodNamed B.named B.method).1
  have hl := lv_entry ([.ref p5]) (n := 1) (Nat.le_of_ble_eq_true rfl)
  rw [lg_entry_eq]
  generalize (lg_sl ([.ref p5]) ++ List.replicate (1 - (lg_sl ([.ref p5])).length) Slot.unset).toArray = ls at hl ⊢
  have hl : lv_has ls 1 [(0, .ref p5)] := hl
  refine lv_aload_n hx hb d_T_init_0 rfl (lv_at hl 0 rfl) ?_
  refine W.objInit hx hb hown (hk _ k_153) (hk _ k_140) (hk _ k_obj) rfl (by rw [hml]; exact hl.1) rfl d_T_init_1 (Nat.le_of_ble_eq_true rfl) (Nat.le_of_ble_eq_true rfl) ?_
  refine W.eq (g2 := F0 m 4 ls []) rfl ?_
  exact W.vret hx hb hr (fun t ht hW => ⟨⟨(), rfl, trivial, by show va_P D classes _ t.heap; rw [ht]; exact hP, hD⟩, hS.F ht⟩) hS.2.2 d_T_init_4
theorem iN_T_init_2 {R : Room} {s : State} {args : Array Value} {own host : String} {index : Nat} (hk : ∀ w ∈ tb, w.before args s = true) (hl : va_Nw (.methodLinkNest own index y_T_init host) s) (hR : 1 + 1 ≤ R.frames ∧ 8 + (1 + 11) + 12 ≤ R.locals) : va_CN R s args own index y_T_init host b_T_init 1 none (.code y_T_init b_T_init 1 none :: tb) ({ frames := 1, cells := 0, slots := 0, locals := 12 }) 0 0 0 ∧ (y_T_init).name = "<init>" ∧ (Cond.instanceMethod y_T_init).before args s = true := ⟨va_cnB 0 hk (gi_t k_152) rfl rfl rfl hl (hk _ k_118) h_T_init hR, rfl, hk _ k_151⟩
theorem iP_T_init_2 {R : Room} {s : State} {args : Array Value} {own : String} {index : Nat} (hk : ∀ w ∈ tb, w.before args s = true) (hl : Cond.methodLink own index y_T_init ∈ tb) (hR : 1 + 1 ≤ R.frames ∧ 8 + (1 + 11) + 12 ≤ R.locals) : CallB R s args own index y_T_init b_T_init 1 none (.code y_T_init b_T_init 1 none :: tb) ({ frames := 1, cells := 0, slots := 0, locals := 12 }) 0 0 0 ∧ (y_T_init).name = "<init>" ∧ (Cond.instanceMethod y_T_init).before args s = true := ⟨callB_of 0 hk (gi_t k_152) rfl rfl rfl (hk _ k_118) (hk _ hl) h_T_init hR, rfl, hk _ k_151⟩
abbrev wS9 (cI cJ cZ cB : ClassId) (p0 p1 p2 p3 p4 p5 : Nat) (x1_4 : Int32) (x1_5 : Int32) (x1_6 : Int32) (x1_7 : Int32) (x1_8 : Int32) (x1_9 : Int32) (x1_10 : Int32) (x1_11 : Int32) (x1_12 : Int32) (x1_13 : Int32) (y2 : Nat → Int32) (y3 : Nat → Int32) (x4_0 : Int32) (x5_0 : Int32) : va_W := [(p0, .inr (0, [.null, .null])), (p1, .inr (1, [.ref p2, .ref p3, .ref p4, .ref p5, .int x1_4, .int x1_5, .int x1_6, .int x1_7, .int x1_8, .int x1_9, .int x1_10, .int x1_11, .int x1_12, .int x1_13])), (p2, .inl (cI, 4000, .inl y2)), (p3, .inl (cI, 9, .inl y3)), (p4, .inr (2, [.int x4_0, .null])), (p5, .inr (2, [.int x5_0, .null]))]
set_option maxHeartbeats 4000000 in
set_option maxRecDepth 100000 in
theorem c_M_init_1 (l : Launch) (D : va_G) (cI cJ cZ cB : ClassId) (p0 p1 : Nat) (sz : Nat)  : Met l y_M_init (.code y_M_init b_M_init 1 none :: tb) ({ frames := 2, cells := 4, slots := 4013, locals := 32 }) (pM D cI cJ cZ cB (wS1 cI cJ cZ cB p0 p1 (0 : Int32) (0 : Int32) (0 : Int32) (0 : Int32) (0 : Int32) (0 : Int32) (0 : Int32) (0 : Int32) (0 : Int32) (0 : Int32)) sz [.ref p1]) (va_Qv (fun (_ : Nat × Nat × Nat × Nat) => True) (fun u t => match u with | (p2, p3, p4, p5) => va_P D classes (wS9 cI cJ cZ cB p0 p1 p2 p3 p4 p5 (0 : Int32) (0 : Int32) (0 : Int32) (0 : Int32) (0 : Int32) (0 : Int32) (0 : Int32) (0 : Int32) (0 : Int32) (0 : Int32) (fun _ => 0) (fun _ => 0) (0 : Int32) (0 : Int32)) t.heap ∧ va_D (va_A (wS1 cI cJ cZ cB p0 p1 (0 : Int32) (0 : Int32) (0 : Int32) (0 : Int32) (0 : Int32) (0 : Int32) (0 : Int32) (0 : Int32) (0 : Int32) (0 : Int32)) sz) (wS9 cI cJ cZ cB p0 p1 p2 p3 p4 p5 (0 : Int32) (0 : Int32) (0 : Int32) (0 : Int32) (0 : Int32) (0 : Int32) (0 : Int32) (0 : Int32) (0 : Int32) (0 : Int32) (fun _ => 0) (fun _ => 0) (0 : Int32) (0 : Int32))) (va_A (wS1 cI cJ cZ cB p0 p1 (0 : Int32) (0 : Int32) (0 : Int32) (0 : Int32) (0 : Int32) (0 : Int32) (0 : Int32) (0 : Int32) (0 : Int32) (0 : Int32)) sz)) 4 4013 (va_A (wS1 cI cJ cZ cB p0 p1 (0 : Int32) (0 : Int32) (0 : Int32) (0 : Int32) (0 : Int32) (0 : Int32) (0 : Int32) (0 : Int32) (0 : Int32) (0 : Int32)) sz) := by
  refine Met.ofW (cc := b_M_init) (maxL := 1) (ret := none) (by decide) rfl ?_
  intro p e s m args below meth c s₁ B hml hv
  obtain ⟨rfl, hsz, hK, hP, hD0⟩ := hv
  subst hsz
  have hD := hD0.self (sz := s.heap.size)
  generalize hAe : va_A (wS1 cI cJ cZ cB p0 p1 (0 : Int32) (0 : Int32) (0 : Int32) (0 : Int32) (0 : Int32) (0 : Int32) (0 : Int32) (0 : Int32) (0 : Int32) (0 : Int32)) s.heap.size = A at hD ⊢
  have hA : ∀ q : Nat, s.heap.size ≤ q → A q := fun q h => by rw [← hAe]; exact Or.inr h
  have hS : va_S A s.heap s.heap [] := va_S.rf
  have hx := B.exec
  have hb := B.bytes
  have hr := B.returns
  have hts := atoms_spec (ws := .code y_M_init b_M_init 1 none :: tb) B.pre
  have hk : ∀ w ∈ tb, w.before [.ref p1].toArray s = true := fun w h => hts w (List.mem_cons_of_mem _ h)
  have hown : s.vm.findClass "SignMachine$Machine" = some m.cls := findClass_of_methodNamed B.named
  have hlocks := B.notSynchronized
  have hin : meth.name = "<init>" := (name_of_methodNamed B.named B.method).1
  have hl := lv_entry ([.ref p1]) (n := 1) (Nat.le_of_ble_eq_true rfl)
  rw [lg_entry_eq]
  generalize (lg_sl ([.ref p1]) ++ List.replicate (1 - (lg_sl ([.ref p1])).length) Slot.unset).toArray = ls at hl ⊢
  have hl : lv_has ls 1 [(0, .ref p1)] := hl
  refine lv_aload_n hx hb d_M_init_0 rfl (lv_at hl 0 rfl) ?_
  refine W.objInit hx hb hown (hk _ k_147) (hk _ k_140) (hk _ k_obj) rfl (by rw [hml]; exact hl.1) rfl d_M_init_1 (Nat.le_of_ble_eq_true rfl) (Nat.le_of_ble_eq_true rfl) ?_
  refine W.eq (g2 := F0 m 4 ls []) rfl ?_
  refine lv_aload_n hx hb d_M_init_4 rfl (lv_at hl 0 rfl) ?_
  refine lv_sipush (v := 4000) hx hb d_M_init_5 (by decide) ?_
  refine nwa (atype := .int) (ty := .int) (N' := 4000) (a0 := (4000, .inl (fun _ => 0))) hx hb (hk _ k_162) rfl hK.1 0 rfl (fun _ h => h) hP hD hS hA (zr_int 4000) (by decide) (by decide) (by decide) (by decide) (by decide) d_M_init_8 (fun p2 H hP hD hS => ?_)
  have hP : va_P D classes (wS2 cI cJ cZ cB p0 p1 p2 (0 : Int32) (0 : Int32) (0 : Int32) (0 : Int32) (0 : Int32) (0 : Int32) (0 : Int32) (0 : Int32) (0 : Int32) (0 : Int32) (fun _ => 0)) H := hP
  have hD : va_D A (wS2 cI cJ cZ cB p0 p1 p2 (0 : Int32) (0 : Int32) (0 : Int32) (0 : Int32) (0 : Int32) (0 : Int32) (0 : Int32) (0 : Int32) (0 : Int32) (0 : Int32) (fun _ => 0)) := hD
  refine W.widen (k := 1) (n := 4000) (by decide) (by decide) ?_
  refine va_putF (D := D) (ci := 1) (v := .ref p2) (ty := (.array .int)) (C := "SignMachine$Machine") (T := F_M) (N := 14) hx hb hk fi_M ft_M ft_M_ok fn_M hown hK.1 hP hD hS 1 rfl rfl 0 (by decide) (hk _ k_163) (fun _ h9 => h9) rfl hin rfl (by decide +kernel) rfl rfl (Nat.le_of_ble_eq_true rfl) d_M_init_10 (fun H locs hP hD hS => ?_)
  have hP : va_P D classes (wS3 cI cJ cZ cB p0 p1 p2 (0 : Int32) (0 : Int32) (0 : Int32) (0 : Int32) (0 : Int32) (0 : Int32) (0 : Int32) (0 : Int32) (0 : Int32) (0 : Int32) (fun _ => 0)) H := hP
  have hD : va_D A (wS3 cI cJ cZ cB p0 p1 p2 (0 : Int32) (0 : Int32) (0 : Int32) (0 : Int32) (0 : Int32) (0 : Int32) (0 : Int32) (0 : Int32) (0 : Int32) (0 : Int32) (fun _ => 0)) := hD
  refine lv_aload_n hx hb d_M_init_13 rfl (lv_at hl 0 rfl) ?_
  refine lv_bipush (v := 9) hx hb d_M_init_14 (by decide) ?_
  refine nwa (atype := .int) (ty := .int) (N' := 9) (a0 := (9, .inl (fun _ => 0))) hx hb (hk _ k_162) rfl hK.1 0 rfl (fun _ h => h) hP hD hS hA (zr_int 9) (by decide) (by decide) (by decide) (by decide) (by decide) d_M_init_16 (fun p3 H hP hD hS => ?_)
  have hP : va_P D classes (wS4 cI cJ cZ cB p0 p1 p2 p3 (0 : Int32) (0 : Int32) (0 : Int32) (0 : Int32) (0 : Int32) (0 : Int32) (0 : Int32) (0 : Int32) (0 : Int32) (0 : Int32) (fun _ => 0) (fun _ => 0)) H := hP
  have hD : va_D A (wS4 cI cJ cZ cB p0 p1 p2 p3 (0 : Int32) (0 : Int32) (0 : Int32) (0 : Int32) (0 : Int32) (0 : Int32) (0 : Int32) (0 : Int32) (0 : Int32) (0 : Int32) (fun _ => 0) (fun _ => 0)) := hD
  refine W.widen (k := 2) (n := 4009) (by decide) (by decide) ?_
  refine va_putF (D := D) (ci := 1) (v := .ref p3) (ty := (.array .int)) (C := "SignMachine$Machine") (T := F_M) (N := 14) hx hb hk fi_M ft_M ft_M_ok fn_M hown hK.1 hP hD hS 1 rfl rfl 1 (by decide) (hk _ k_164) (fun _ h9 => h9) rfl hin rfl (by decide +kernel) rfl rfl (Nat.le_of_ble_eq_true rfl) d_M_init_18 (fun H locs hP hD hS => ?_)
  have hP : va_P D classes (wS5 cI cJ cZ cB p0 p1 p2 p3 (0 : Int32) (0 : Int32) (0 : Int32) (0 : Int32) (0 : Int32) (0 : Int32) (0 : Int32) (0 : Int32) (0 : Int32) (0 : Int32) (fun _ => 0) (fun _ => 0)) H := hP
  have hD : va_D A (wS5 cI cJ cZ cB p0 p1 p2 p3 (0 : Int32) (0 : Int32) (0 : Int32) (0 : Int32) (0 : Int32) (0 : Int32) (0 : Int32) (0 : Int32) (0 : Int32) (0 : Int32) (fun _ => 0) (fun _ => 0)) := hD
  refine lv_aload_n hx hb d_M_init_21 rfl (lv_at hl 0 rfl) ?_
  refine va_new (ci := 2) (fs := [.int 0, .null]) (C := "SignMachine$Tape") (T := F_T) (N := 2) hx hb hk fi_T ft_T ft_T_ok hown (hk _ k_148) (hk _ k_149) (hk _ k_118) hK.1 hP hD hS hA rfl (by decide +kernel) (by decide) (by decide) d_M_init_22 (fun p4 H hP hD hS => ?_)
  have hP : va_P D classes (wS6 cI cJ cZ cB p0 p1 p2 p3 p4 (0 : Int32) (0 : Int32) (0 : Int32) (0 : Int32) (0 : Int32) (0 : Int32) (0 : Int32) (0 : Int32) (0 : Int32) (0 : Int32) (fun _ => 0) (fun _ => 0) (0 : Int32)) H := hP
  have hD : va_D A (wS6 cI cJ cZ cB p0 p1 p2 p3 p4 (0 : Int32) (0 : Int32) (0 : Int32) (0 : Int32) (0 : Int32) (0 : Int32) (0 : Int32) (0 : Int32) (0 : Int32) (0 : Int32) (fun _ => 0) (fun _ => 0) (0 : Int32)) := hD
  refine W.widen (k := 3) (n := 4011) (by decide) (by decide) ?_
  refine lv_dup hx hb d_M_init_25 rfl ?_
  refine kn_v (va_runIN (As := []) (rest := [.ref p4, .ref p1]) ⟨hx, hb, hml, hown, hk⟩ (c_T_init_1 l D cI cJ cZ cB p0 p1 p2 p3 p4 H.size ) (iN_T_init_1 hk (hK.2 _ n_150) ⟨Nat.le_of_ble_eq_true rfl, Nat.le_of_ble_eq_true rfl⟩) (pM_i hK hP hD) rfl rfl hl.1 rfl (lv_room (Nat.le_of_ble_eq_true rfl)) d_M_init_26 ⟨by decide, by decide⟩) hS hA hD (fun u t H locs ht hB hFr hS => ?_)
  obtain ⟨hP, hD⟩ := hB
  rw [ht] at hP
  have hD := dwk hD hFr
  clear ht hFr
  have hP : va_P D classes (wS6 cI cJ cZ cB p0 p1 p2 p3 p4 (0 : Int32) (0 : Int32) (0 : Int32) (0 : Int32) (0 : Int32) (0 : Int32) (0 : Int32) (0 : Int32) (0 : Int32) (0 : Int32) (fun _ => 0) (fun _ => 0) (0 : Int32)) H := hP
  have hD : va_D A (wS6 cI cJ cZ cB p0 p1 p2 p3 p4 (0 : Int32) (0 : Int32) (0 : Int32) (0 : Int32) (0 : Int32) (0 : Int32) (0 : Int32) (0 : Int32) (0 : Int32) (0 : Int32) (fun _ => 0) (fun _ => 0) (0 : Int32)) := hD
  refine va_putF (D := D) (ci := 1) (v := .ref p4) (ty := (.object "SignMachine$Tape")) (C := "SignMachine$Machine") (T := F_M) (N := 14) hx hb hk fi_M ft_M ft_M_ok fn_M hown hK.1 hP hD hS 1 rfl rfl 2 (by decide) (hk _ k_165) (fun _ h9 => h9) rfl hin rfl (by decide +kernel) rfl rfl (Nat.le_of_ble_eq_true rfl) d_M_init_29 (fun H locs hP hD hS => ?_)
  have hP : va_P D classes (wS7 cI cJ cZ cB p0 p1 p2 p3 p4 (0 : Int32) (0 : Int32) (0 : Int32) (0 : Int32) (0 : Int32) (0 : Int32) (0 : Int32) (0 : Int32) (0 : Int32) (0 : Int32) (fun _ => 0) (fun _ => 0) (0 : Int32)) H := hP
  have hD : va_D A (wS7 cI cJ cZ cB p0 p1 p2 p3 p4 (0 : Int32) (0 : Int32) (0 : Int32) (0 : Int32) (0 : Int32) (0 : Int32) (0 : Int32) (0 : Int32) (0 : Int32) (0 : Int32) (fun _ => 0) (fun _ => 0) (0 : Int32)) := hD
  refine lv_aload_n hx hb d_M_init_32 rfl (lv_at hl 0 rfl) ?_
  refine va_new (ci := 2) (fs := [.int 0, .null]) (C := "SignMachine$Tape") (T := F_T) (N := 2) hx hb hk fi_T ft_T ft_T_ok hown (hk _ k_148) (hk _ k_149) (hk _ k_118) hK.1 hP hD hS hA rfl (by decide +kernel) (by decide) (by decide) d_M_init_33 (fun p5 H hP hD hS => ?_)
  have hP : va_P D classes (wS8 cI cJ cZ cB p0 p1 p2 p3 p4 p5 (0 : Int32) (0 : Int32) (0 : Int32) (0 : Int32) (0 : Int32) (0 : Int32) (0 : Int32) (0 : Int32) (0 : Int32) (0 : Int32) (fun _ => 0) (fun _ => 0) (0 : Int32) (0 : Int32)) H := hP
  have hD : va_D A (wS8 cI cJ cZ cB p0 p1 p2 p3 p4 p5 (0 : Int32) (0 : Int32) (0 : Int32) (0 : Int32) (0 : Int32) (0 : Int32) (0 : Int32) (0 : Int32) (0 : Int32) (0 : Int32) (fun _ => 0) (fun _ => 0) (0 : Int32) (0 : Int32)) := hD
  refine W.widen (k := 4) (n := 4013) (by decide) (by decide) ?_
  refine lv_dup hx hb d_M_init_36 rfl ?_
  refine kn_v (va_runIN (As := []) (rest := [.ref p5, .ref p1]) ⟨hx, hb, hml, hown, hk⟩ (c_T_init_2 l D cI cJ cZ cB p0 p1 p2 p3 p4 p5 H.size ) (iN_T_init_2 hk (hK.2 _ n_150) ⟨Nat.le_of_ble_eq_true rfl, Nat.le_of_ble_eq_true rfl⟩) (pM_i hK hP hD) rfl rfl hl.1 rfl (lv_room (Nat.le_of_ble_eq_true rfl)) d_M_init_37 ⟨by decide, by decide⟩) hS hA hD (fun u t H locs ht hB hFr hS => ?_)
  obtain ⟨hP, hD⟩ := hB
  rw [ht] at hP
  have hD := dwk hD hFr
  clear ht hFr
  have hP : va_P D classes (wS8 cI cJ cZ cB p0 p1 p2 p3 p4 p5 (0 : Int32) (0 : Int32) (0 : Int32) (0 : Int32) (0 : Int32) (0 : Int32) (0 : Int32) (0 : Int32) (0 : Int32) (0 : Int32) (fun _ => 0) (fun _ => 0) (0 : Int32) (0 : Int32)) H := hP
  have hD : va_D A (wS8 cI cJ cZ cB p0 p1 p2 p3 p4 p5 (0 : Int32) (0 : Int32) (0 : Int32) (0 : Int32) (0 : Int32) (0 : Int32) (0 : Int32) (0 : Int32) (0 : Int32) (0 : Int32) (fun _ => 0) (fun _ => 0) (0 : Int32) (0 : Int32)) := hD
  refine va_putF (D := D) (ci := 1) (v := .ref p5) (ty := (.object "SignMachine$Tape")) (C := "SignMachine$Machine") (T := F_M) (N := 14) hx hb hk fi_M ft_M ft_M_ok fn_M hown hK.1 hP hD hS 1 rfl rfl 3 (by decide) (hk _ k_166) (fun _ h9 => h9) rfl hin rfl (by decide +kernel) rfl rfl (Nat.le_of_ble_eq_true rfl) d_M_init_40 (fun H locs hP hD hS => ?_)
  have hP : va_P D classes (wS9 cI cJ cZ cB p0 p1 p2 p3 p4 p5 (0 : Int32) (0 : Int32) (0 : Int32) (0 : Int32) (0 : Int32) (0 : Int32) (0 : Int32) (0 : Int32) (0 : Int32) (0 : Int32) (fun _ => 0) (fun _ => 0) (0 : Int32) (0 : Int32)) H := hP
  have hD : va_D A (wS9 cI cJ cZ cB p0 p1 p2 p3 p4 p5 (0 : Int32) (0 : Int32) (0 : Int32) (0 : Int32) (0 : Int32) (0 : Int32) (0 : Int32) (0 : Int32) (0 : Int32) (0 : Int32) (fun _ => 0) (fun _ => 0) (0 : Int32) (0 : Int32)) := hD
  exact W.vret hx hb hr (fun t ht hW => ⟨⟨(p2, p3, p4, p5), rfl, trivial, by show va_P D classes _ t.heap; rw [ht]; exact hP, hD⟩, hS.F ht⟩) hS.2.2 d_M_init_43
theorem iN_M_init_1 {R : Room} {s : State} {args : Array Value} {own host : String} {index : Nat} (hk : ∀ w ∈ tb, w.before args s = true) (hl : va_Nw (.methodLinkNest own index y_M_init host) s) (hR : 2 + 1 ≤ R.frames ∧ 8 + (1 + 11) + 32 ≤ R.locals) : va_CN R s args own index y_M_init host b_M_init 1 none (.code y_M_init b_M_init 1 none :: tb) ({ frames := 2, cells := 4, slots := 4013, locals := 32 }) 4 4013 0 ∧ (y_M_init).name = "<init>" ∧ (Cond.instanceMethod y_M_init).before args s = true := ⟨va_cnB 0 hk (gi_t k_146) rfl rfl rfl hl (hk _ k_117) h_M_init hR, rfl, hk _ k_145⟩
theorem iP_M_init_1 {R : Room} {s : State} {args : Array Value} {own : String} {index : Nat} (hk : ∀ w ∈ tb, w.before args s = true) (hl : Cond.methodLink own index y_M_init ∈ tb) (hR : 2 + 1 ≤ R.frames ∧ 8 + (1 + 11) + 32 ≤ R.locals) : CallB R s args own index y_M_init b_M_init 1 none (.code y_M_init b_M_init 1 none :: tb) ({ frames := 2, cells := 4, slots := 4013, locals := 32 }) 4 4013 0 ∧ (y_M_init).name = "<init>" ∧ (Cond.instanceMethod y_M_init).before args s = true := ⟨callB_of 0 hk (gi_t k_146) rfl rfl rfl (hk _ k_117) (hk _ hl) h_M_init hR, rfl, hk _ k_145⟩
abbrev wS10 (cI cJ cZ cB : ClassId) (p0 p1 p2 p3 p4 p5 : Nat) (x1_4 : Int32) (x1_5 : Int32) (x1_6 : Int32) (x1_7 : Int32) (x1_8 : Int32) (x1_9 : Int32) (x1_10 : Int32) (x1_11 : Int32) (x1_12 : Int32) (x1_13 : Int32) (y2 : Nat → Int32) (y3 : Nat → Int32) (x4_0 : Int32) (x5_0 : Int32) : va_W := [(p0, .inr (0, [.ref p1, .null])), (p1, .inr (1, [.ref p2, .ref p3, .ref p4, .ref p5, .int x1_4, .int x1_5, .int x1_6, .int x1_7, .int x1_8, .int x1_9, .int x1_10, .int x1_11, .int x1_12, .int x1_13])), (p2, .inl (cI, 4000, .inl y2)), (p3, .inl (cI, 9, .inl y3)), (p4, .inr (2, [.int x4_0, .null])), (p5, .inr (2, [.int x5_0, .null]))]
set_option maxHeartbeats 4000000 in
set_option maxRecDepth 100000 in
theorem c_S_init_1 (l : Launch) (D : va_G) (cI cJ cZ cB : ClassId) (p0 : Nat) (sz : Nat)  : Met l y_S_init (.code y_S_init b_S_init 1 none :: tb) ({ frames := 3, cells := 5, slots := 4027, locals := 52 }) (pM D cI cJ cZ cB (wS0 cI cJ cZ cB p0 ) sz [.ref p0]) (va_Qv (fun (_ : Nat × Nat × Nat × Nat × Nat) => True) (fun u t => match u with | (p1, p2, p3, p4, p5) => va_P D classes (wS10 cI cJ cZ cB p0 p1 p2 p3 p4 p5 (0 : Int32) (0 : Int32) (0 : Int32) (0 : Int32) (0 : Int32) (0 : Int32) (0 : Int32) (0 : Int32) (0 : Int32) (0 : Int32) (fun _ => 0) (fun _ => 0) (0 : Int32) (0 : Int32)) t.heap ∧ va_D (va_A (wS0 cI cJ cZ cB p0 ) sz) (wS10 cI cJ cZ cB p0 p1 p2 p3 p4 p5 (0 : Int32) (0 : Int32) (0 : Int32) (0 : Int32) (0 : Int32) (0 : Int32) (0 : Int32) (0 : Int32) (0 : Int32) (0 : Int32) (fun _ => 0) (fun _ => 0) (0 : Int32) (0 : Int32))) (va_A (wS0 cI cJ cZ cB p0 ) sz)) 5 4027 (va_A (wS0 cI cJ cZ cB p0 ) sz) := by
  refine Met.ofW (cc := b_S_init) (maxL := 1) (ret := none) (by decide) rfl ?_
  intro p e s m args below meth c s₁ B hml hv
  obtain ⟨rfl, hsz, hK, hP, hD0⟩ := hv
  subst hsz
  have hD := hD0.self (sz := s.heap.size)
  generalize hAe : va_A (wS0 cI cJ cZ cB p0 ) s.heap.size = A at hD ⊢
  have hA : ∀ q : Nat, s.heap.size ≤ q → A q := fun q h => by rw [← hAe]; exact Or.inr h
  have hS : va_S A s.heap s.heap [] := va_S.rf
  have hx := B.exec
  have hb := B.bytes
  have hr := B.returns
  have hts := atoms_spec (ws := .code y_S_init b_S_init 1 none :: tb) B.pre
  have hk : ∀ w ∈ tb, w.before [.ref p0].toArray s = true := fun w h => hts w (List.mem_cons_of_mem _ h)
  have hown : s.vm.findClass "SignMachine" = some m.cls := findClass_of_methodNamed B.named
  have hlocks := B.notSynchronized
  have hin : meth.name = "<init>" := (name_of_methodNamed B.named B.method).1
  have hl := lv_entry ([.ref p0]) (n := 1) (Nat.le_of_ble_eq_true rfl)
  rw [lg_entry_eq]
  generalize (lg_sl ([.ref p0]) ++ List.replicate (1 - (lg_sl ([.ref p0])).length) Slot.unset).toArray = ls at hl ⊢
  have hl : lv_has ls 1 [(0, .ref p0)] := hl
  refine lv_aload_n hx hb d_S_init_0 rfl (lv_at hl 0 rfl) ?_
  refine W.objInit hx hb hown (hk _ k_139) (hk _ k_140) (hk _ k_obj) rfl (by rw [hml]; exact hl.1) rfl d_S_init_1 (Nat.le_of_ble_eq_true rfl) (Nat.le_of_ble_eq_true rfl) ?_
  refine W.eq (g2 := F0 m 4 ls []) rfl ?_
  refine lv_aload_n hx hb d_S_init_4 rfl (lv_at hl 0 rfl) ?_
  refine va_new (ci := 1) (fs := [.null, .null, .null, .null, .int 0, .int 0, .int 0, .int 0, .int 0, .int 0, .int 0, .int 0, .int 0, .int 0]) (C := "SignMachine$Machine") (T := F_M) (N := 14) hx hb hk fi_M ft_M ft_M_ok hown (hk _ k_142) (hk _ k_143) (hk _ k_117) hK.1 hP hD hS hA rfl (by decide +kernel) (by decide) (by decide) d_S_init_5 (fun p1 H hP hD hS => ?_)
  have hP : va_P D classes (wS1 cI cJ cZ cB p0 p1 (0 : Int32) (0 : Int32) (0 : Int32) (0 : Int32) (0 : Int32) (0 : Int32) (0 : Int32) (0 : Int32) (0 : Int32) (0 : Int32)) H := hP
  have hD : va_D A (wS1 cI cJ cZ cB p0 p1 (0 : Int32) (0 : Int32) (0 : Int32) (0 : Int32) (0 : Int32) (0 : Int32) (0 : Int32) (0 : Int32) (0 : Int32) (0 : Int32)) := hD
  refine W.widen (k := 1) (n := 14) (by decide) (by decide) ?_
  refine lv_dup hx hb d_S_init_8 rfl ?_
  refine kn_v (va_runIN (As := []) (rest := [.ref p1, .ref p0]) ⟨hx, hb, hml, hown, hk⟩ (c_M_init_1 l D cI cJ cZ cB p0 p1 H.size ) (iN_M_init_1 hk (hK.2 _ n_144) ⟨Nat.le_of_ble_eq_true rfl, Nat.le_of_ble_eq_true rfl⟩) (pM_i hK hP hD) rfl rfl hl.1 rfl (lv_room (Nat.le_of_ble_eq_true rfl)) d_S_init_9 ⟨by decide, by decide⟩) hS hA hD (fun u t H locs ht hB hFr hS => ?_)
  obtain ⟨p2, p3, p4, p5⟩ := u
  obtain ⟨hP, hD⟩ := hB
  rw [ht] at hP
  have hD := dwk hD hFr
  clear ht hFr
  have hP : va_P D classes (wS9 cI cJ cZ cB p0 p1 p2 p3 p4 p5 (0 : Int32) (0 : Int32) (0 : Int32) (0 : Int32) (0 : Int32) (0 : Int32) (0 : Int32) (0 : Int32) (0 : Int32) (0 : Int32) (fun _ => 0) (fun _ => 0) (0 : Int32) (0 : Int32)) H := hP
  have hD : va_D A (wS9 cI cJ cZ cB p0 p1 p2 p3 p4 p5 (0 : Int32) (0 : Int32) (0 : Int32) (0 : Int32) (0 : Int32) (0 : Int32) (0 : Int32) (0 : Int32) (0 : Int32) (0 : Int32) (fun _ => 0) (fun _ => 0) (0 : Int32) (0 : Int32)) := hD
  refine W.widen (k := 5) (n := 4027) (by decide) (by decide) ?_
  refine va_putF (D := D) (ci := 0) (v := .ref p1) (ty := (.object "SignMachine$Machine")) (C := "SignMachine") (T := F_S) (N := 2) hx hb hk fi_S ft_S ft_S_ok fn_S hown hK.1 hP hD hS 0 rfl rfl 0 (by decide) (hk _ k_210) (fun _ h9 => h9) rfl hin rfl (by decide +kernel) rfl rfl (Nat.le_of_ble_eq_true rfl) d_S_init_12 (fun H locs hP hD hS => ?_)
  have hP : va_P D classes (wS10 cI cJ cZ cB p0 p1 p2 p3 p4 p5 (0 : Int32) (0 : Int32) (0 : Int32) (0 : Int32) (0 : Int32) (0 : Int32) (0 : Int32) (0 : Int32) (0 : Int32) (0 : Int32) (fun _ => 0) (fun _ => 0) (0 : Int32) (0 : Int32)) H := hP
  have hD : va_D A (wS10 cI cJ cZ cB p0 p1 p2 p3 p4 p5 (0 : Int32) (0 : Int32) (0 : Int32) (0 : Int32) (0 : Int32) (0 : Int32) (0 : Int32) (0 : Int32) (0 : Int32) (0 : Int32) (fun _ => 0) (fun _ => 0) (0 : Int32) (0 : Int32)) := hD
  exact W.vret hx hb hr (fun t ht hW => ⟨⟨(p1, p2, p3, p4, p5), rfl, trivial, by show va_P D classes _ t.heap; rw [ht]; exact hP, hD⟩, hS.F ht⟩) hS.2.2 d_S_init_15
theorem iN_S_init_1 {R : Room} {s : State} {args : Array Value} {own host : String} {index : Nat} (hk : ∀ w ∈ tb, w.before args s = true) (hl : va_Nw (.methodLinkNest own index y_S_init host) s) (hR : 3 + 1 ≤ R.frames ∧ 8 + (1 + 11) + 52 ≤ R.locals) : va_CN R s args own index y_S_init host b_S_init 1 none (.code y_S_init b_S_init 1 none :: tb) ({ frames := 3, cells := 5, slots := 4027, locals := 52 }) 5 4027 0 ∧ (y_S_init).name = "<init>" ∧ (Cond.instanceMethod y_S_init).before args s = true := ⟨va_cnB 0 hk (gi_t k_138) rfl rfl rfl hl (hk _ k_116) h_S_init hR, rfl, hk _ k_137⟩
theorem iP_S_init_1 {R : Room} {s : State} {args : Array Value} {own : String} {index : Nat} (hk : ∀ w ∈ tb, w.before args s = true) (hl : Cond.methodLink own index y_S_init ∈ tb) (hR : 3 + 1 ≤ R.frames ∧ 8 + (1 + 11) + 52 ≤ R.locals) : CallB R s args own index y_S_init b_S_init 1 none (.code y_S_init b_S_init 1 none :: tb) ({ frames := 3, cells := 5, slots := 4027, locals := 52 }) 5 4027 0 ∧ (y_S_init).name = "<init>" ∧ (Cond.instanceMethod y_S_init).before args s = true := ⟨callB_of 0 hk (gi_t k_138) rfl rfl rfl (hk _ k_116) (hk _ hl) h_S_init hR, rfl, hk _ k_137⟩
def f_M_putWord_1_y2 (a1 : Int32) (a2 : Int32) : Nat → Int32 := (if a1 < (0 : Int32) then (fun _ => 0) else (if (4000 : Int32) ≤ a1 then (fun _ => 0) else (upd (fun _ => 0) (a1).toNatClampNeg a2)))
set_option maxHeartbeats 4000000 in
set_option maxRecDepth 100000 in
theorem c_M_putWord_1 (l : Launch) (D : va_G) (cI cJ cZ cB : ClassId) (p0 p1 p2 p3 p4 p5 : Nat) (sz : Nat) (a1 : Int32) (a2 : Int32) : Met l y_M_putWord (.code y_M_putWord b_M_putWord 3 none :: tb) ({ frames := 0, cells := 0, slots := 0, locals := 0 }) (pM D cI cJ cZ cB (wS10 cI cJ cZ cB p0 p1 p2 p3 p4 p5 (0 : Int32) (0 : Int32) (0 : Int32) (0 : Int32) (0 : Int32) (0 : Int32) (0 : Int32) (0 : Int32) (0 : Int32) (0 : Int32) (fun _ => 0) (fun _ => 0) (0 : Int32) (0 : Int32)) sz [.ref p1, .int a1, .int a2]) (va_Qv (fun (_ : Unit) => True) (fun _ t => va_P D classes (wS10 cI cJ cZ cB p0 p1 p2 p3 p4 p5 (0 : Int32) (0 : Int32) (0 : Int32) (0 : Int32) (0 : Int32) (0 : Int32) (0 : Int32) (0 : Int32) (0 : Int32) (0 : Int32) (f_M_putWord_1_y2 a1 a2) (fun _ => 0) (0 : Int32) (0 : Int32)) t.heap ∧ va_D (va_A (wS10 cI cJ cZ cB p0 p1 p2 p3 p4 p5 (0 : Int32) (0 : Int32) (0 : Int32) (0 : Int32) (0 : Int32) (0 : Int32) (0 : Int32) (0 : Int32) (0 : Int32) (0 : Int32) (fun _ => 0) (fun _ => 0) (0 : Int32) (0 : Int32)) sz) (wS10 cI cJ cZ cB p0 p1 p2 p3 p4 p5 (0 : Int32) (0 : Int32) (0 : Int32) (0 : Int32) (0 : Int32) (0 : Int32) (0 : Int32) (0 : Int32) (0 : Int32) (0 : Int32) (f_M_putWord_1_y2 a1 a2) (fun _ => 0) (0 : Int32) (0 : Int32))) (va_A (wS10 cI cJ cZ cB p0 p1 p2 p3 p4 p5 (0 : Int32) (0 : Int32) (0 : Int32) (0 : Int32) (0 : Int32) (0 : Int32) (0 : Int32) (0 : Int32) (0 : Int32) (0 : Int32) (fun _ => 0) (fun _ => 0) (0 : Int32) (0 : Int32)) sz)) 0 0 (va_A (wS10 cI cJ cZ cB p0 p1 p2 p3 p4 p5 (0 : Int32) (0 : Int32) (0 : Int32) (0 : Int32) (0 : Int32) (0 : Int32) (0 : Int32) (0 : Int32) (0 : Int32) (0 : Int32) (fun _ => 0) (fun _ => 0) (0 : Int32) (0 : Int32)) sz) := by
  refine Met.ofW (cc := b_M_putWord) (maxL := 3) (ret := none) (by decide) rfl ?_
  intro p e s m args below meth c s₁ B hml hv
  obtain ⟨rfl, hsz, hK, hP, hD0⟩ := hv
  subst hsz
  have hD := hD0.self (sz := s.heap.size)
  generalize hAe : va_A (wS10 cI cJ cZ cB p0 p1 p2 p3 p4 p5 (0 : Int32) (0 : Int32) (0 : Int32) (0 : Int32) (0 : Int32) (0 : Int32) (0 : Int32) (0 : Int32) (0 : Int32) (0 : Int32) (fun _ => 0) (fun _ => 0) (0 : Int32) (0 : Int32)) s.heap.size = A at hD ⊢
  have hA : ∀ q : Nat, s.heap.size ≤ q → A q := fun q h => by rw [← hAe]; exact Or.inr h
  have hS : va_S A s.heap s.heap [] := va_S.rf
  have hx := B.exec
  have hb := B.bytes
  have hr := B.returns
  have hts := atoms_spec (ws := .code y_M_putWord b_M_putWord 3 none :: tb) B.pre
  have hk : ∀ w ∈ tb, w.before [.ref p1, .int a1, .int a2].toArray s = true := fun w h => hts w (List.mem_cons_of_mem _ h)
  have hown : s.vm.findClass "SignMachine$Machine" = some m.cls := findClass_of_methodNamed B.named
  have hlocks := B.notSynchronized
  have hl := lv_entry ([.ref p1, .int a1, .int a2]) (n := 3) (Nat.le_of_ble_eq_true rfl)
  rw [lg_entry_eq]
  generalize (lg_sl ([.ref p1, .int a1, .int a2]) ++ List.replicate (3 - (lg_sl ([.ref p1, .int a1, .int a2])).length) Slot.unset).toArray = ls at hl ⊢
  have hl : lv_has ls 3 [(0, .ref p1), (1, .int a1), (2, .int a2)] := hl
  refine lv_iload_n hx hb d_M_putWord_0 rfl (lv_at hl 1 rfl) ?_
  refine lv_if_lt (tgt := 18) hx hb d_M_putWord_1 (by decide) (fun c1 => ?_) (fun c1 => ?_)
  · exact W.vret hx hb hr (fun t ht hW => ⟨⟨(), rfl, trivial, by show va_P D classes _ t.heap; rw [ht, show f_M_putWord_1_y2 a1 a2 = (fun _ => 0) from by unfold f_M_putWord_1_y2; simp only [if_pos c1]]; exact hP, by rw [show f_M_putWord_1_y2 a1 a2 = (fun _ => 0) from by unfold f_M_putWord_1_y2; simp only [if_pos c1]]; exact hD⟩, hS.F ht⟩) hS.2.2 d_M_putWord_18
  · refine lv_iload_n hx hb d_M_putWord_4 rfl (lv_at hl 1 rfl) ?_
    refine lv_sipush (v := 4000) hx hb d_M_putWord_5 (by decide) ?_
    refine lv_icmp_ge (tgt := 18) hx hb d_M_putWord_8 (by decide) (fun c2 => ?_) (fun c2 => ?_)
    · exact W.vret hx hb hr (fun t ht hW => ⟨⟨(), rfl, trivial, by show va_P D classes _ t.heap; rw [ht, show f_M_putWord_1_y2 a1 a2 = (fun _ => 0) from by unfold f_M_putWord_1_y2; simp only [if_neg c1, if_pos c2]]; exact hP, by rw [show f_M_putWord_1_y2 a1 a2 = (fun _ => 0) from by unfold f_M_putWord_1_y2; simp only [if_neg c1, if_pos c2]]; exact hD⟩, hS.F ht⟩) hS.2.2 d_M_putWord_18
    · refine lv_aload_n hx hb d_M_putWord_11 rfl (lv_at hl 0 rfl) ?_
      refine va_get (D := D) (ci := 1) (v := .ref p2) (C := "SignMachine$Machine") (T := F_M) (N := 14) hx hb hk fi_M hown hK.1 hP 1 rfl rfl 0 (by decide) (hk _ k_163) (fun _ h9 => h9) rfl d_M_putWord_12 ?_
      refine lv_iload_n hx hb d_M_putWord_15 rfl (lv_at hl 1 rfl) ?_
      refine lv_iload_n hx hb d_M_putWord_16 rfl (lv_at hl 2 rfl) ?_
      refine va_iast hx hb hK.1 hP hD hS 2 0 rfl rfl (vpin c1 c2 rfl) d_M_putWord_17 (fun H locs hP hD hS => ?_)
      have hP : va_P D classes (wS10 cI cJ cZ cB p0 p1 p2 p3 p4 p5 (0 : Int32) (0 : Int32) (0 : Int32) (0 : Int32) (0 : Int32) (0 : Int32) (0 : Int32) (0 : Int32) (0 : Int32) (0 : Int32) (upd (fun _ => 0) (a1).toNatClampNeg a2) (fun _ => 0) (0 : Int32) (0 : Int32)) H := hP
      have hD : va_D A (wS10 cI cJ cZ cB p0 p1 p2 p3 p4 p5 (0 : Int32) (0 : Int32) (0 : Int32) (0 : Int32) (0 : Int32) (0 : Int32) (0 : Int32) (0 : Int32) (0 : Int32) (0 : Int32) (upd (fun _ => 0) (a1).toNatClampNeg a2) (fun _ => 0) (0 : Int32) (0 : Int32)) := hD
      exact W.vret hx hb hr (fun t ht hW => ⟨⟨(), rfl, trivial, by show va_P D classes _ t.heap; rw [ht, show f_M_putWord_1_y2 a1 a2 = (upd (fun _ => 0) (a1).toNatClampNeg a2) from by unfold f_M_putWord_1_y2; simp only [if_neg c1, if_neg c2]]; exact hP, by rw [show f_M_putWord_1_y2 a1 a2 = (upd (fun _ => 0) (a1).toNatClampNeg a2) from by unfold f_M_putWord_1_y2; simp only [if_neg c1, if_neg c2]]; exact hD⟩, hS.F ht⟩) hS.2.2 d_M_putWord_18
theorem v_M_putWord_1 {R : Room} {s : State} {args : Array Value} {own : String} {index : Nat} (hk : ∀ w ∈ tb, w.before args s = true) (hl : Cond.methodLink own index y_M_putWord ∈ tb) (hR : 0 + 1 ≤ R.frames ∧ 8 + (3 + 11) + 0 ≤ R.locals) : CallW R s args own "SignMachine$Machine" index y_M_putWord b_M_putWord 3 none (.code y_M_putWord b_M_putWord 3 none :: tb) ({ frames := 0, cells := 0, slots := 0, locals := 0 }) 0 0 2 := mk_v 2 hk k_235 hl k_233 k_234 k_117 rfl rfl h_M_putWord hR
def f_S_poke_1 (a1 : Int32) (a2 : Int32) (a3 : Int32) : Int32 := (if (bI (f_M_isAddress a1)) = (0 : Int32) then (0 : Int32) else (if (bI (f_W_isWord a2 a3)) = (0 : Int32) then (0 : Int32) else (1 : Int32)))
set_option maxHeartbeats 4000000 in
set_option maxRecDepth 100000 in
theorem c_S_poke_1 (l : Launch) (D : va_G) (cI cJ cZ cB : ClassId) (p0 p1 p2 p3 p4 p5 : Nat) (sz : Nat) (a1 : Int32) (a2 : Int32) (a3 : Int32) : Met l y_S_poke (.code y_S_poke b_S_poke 4 (some .boolean) :: tb) ({ frames := 1, cells := 0, slots := 0, locals := 22 }) (pM D cI cJ cZ cB (wS10 cI cJ cZ cB p0 p1 p2 p3 p4 p5 (0 : Int32) (0 : Int32) (0 : Int32) (0 : Int32) (0 : Int32) (0 : Int32) (0 : Int32) (0 : Int32) (0 : Int32) (0 : Int32) (fun _ => 0) (fun _ => 0) (0 : Int32) (0 : Int32)) sz [.ref p0, .int a1, .int a2, .int a3]) (va_Qi (fun r (_ : Unit) => r = (f_S_poke_1 a1 a2 a3)) (fun _ _ => True) (va_A (wS10 cI cJ cZ cB p0 p1 p2 p3 p4 p5 (0 : Int32) (0 : Int32) (0 : Int32) (0 : Int32) (0 : Int32) (0 : Int32) (0 : Int32) (0 : Int32) (0 : Int32) (0 : Int32) (fun _ => 0) (fun _ => 0) (0 : Int32) (0 : Int32)) sz)) 0 0 (va_A (wS10 cI cJ cZ cB p0 p1 p2 p3 p4 p5 (0 : Int32) (0 : Int32) (0 : Int32) (0 : Int32) (0 : Int32) (0 : Int32) (0 : Int32) (0 : Int32) (0 : Int32) (0 : Int32) (fun _ => 0) (fun _ => 0) (0 : Int32) (0 : Int32)) sz) := by
  refine Met.ofW (cc := b_S_poke) (maxL := 4) (ret := (some .boolean)) (by decide) rfl ?_
  intro p e s m args below meth c s₁ B hml hv
  obtain ⟨rfl, hsz, hK, hP, hD0⟩ := hv
  subst hsz
  have hD := hD0.self (sz := s.heap.size)
  generalize hAe : va_A (wS10 cI cJ cZ cB p0 p1 p2 p3 p4 p5 (0 : Int32) (0 : Int32) (0 : Int32) (0 : Int32) (0 : Int32) (0 : Int32) (0 : Int32) (0 : Int32) (0 : Int32) (0 : Int32) (fun _ => 0) (fun _ => 0) (0 : Int32) (0 : Int32)) s.heap.size = A at hD ⊢
  have hA : ∀ q : Nat, s.heap.size ≤ q → A q := fun q h => by rw [← hAe]; exact Or.inr h
  have hS : va_S A s.heap s.heap [] := va_S.rf
  have hx := B.exec
  have hb := B.bytes
  have hr := B.returns
  have hts := atoms_spec (ws := .code y_S_poke b_S_poke 4 (some .boolean) :: tb) B.pre
  have hk : ∀ w ∈ tb, w.before [.ref p0, .int a1, .int a2, .int a3].toArray s = true := fun w h => hts w (List.mem_cons_of_mem _ h)
  have hown : s.vm.findClass "SignMachine" = some m.cls := findClass_of_methodNamed B.named
  have hlocks := B.notSynchronized
  have hl := lv_entry ([.ref p0, .int a1, .int a2, .int a3]) (n := 4) (Nat.le_of_ble_eq_true rfl)
  rw [lg_entry_eq]
  generalize (lg_sl ([.ref p0, .int a1, .int a2, .int a3]) ++ List.replicate (4 - (lg_sl ([.ref p0, .int a1, .int a2, .int a3])).length) Slot.unset).toArray = ls at hl ⊢
  have hl : lv_has ls 4 [(0, .ref p0), (1, .int a1), (2, .int a2), (3, .int a3)] := hl
  refine lv_iload_n hx hb d_S_poke_0 rfl (lv_at hl 1 rfl) ?_
  refine cs_i (W.runS (As := [.int a1]) (rest := []) ⟨hx, hb, hml, hown, hk⟩ (c_M_isAddress l a1) (s_M_isAddress hk k_221 ⟨Nat.le_of_ble_eq_true rfl, Nat.le_of_ble_eq_true rfl⟩) ⟨fun a U g mk q => q, fun U hU hW => ⟨rfl, trivial⟩⟩ rfl rfl hl.1 rfl (lv_room (Nat.le_of_ble_eq_true rfl)) d_S_poke_1 ⟨Nat.le_of_ble_eq_true rfl, Nat.le_of_ble_eq_true rfl⟩) ?_
  refine lv_if_eq (tgt := 15) hx hb d_S_poke_4 (by decide) (fun c1 => ?_) (fun c1 => ?_)
  · refine lv_iconst (v := 0) hx hb d_S_poke_15 (by decide) ?_
    exact W.zret (v := (0 : Int32)) hx hb hr rfl (fun t ht hW => ⟨⟨(0 : Int32), (), rfl, by unfold f_S_poke_1; simp only [if_pos c1], trivial⟩, hS.F ht⟩) hS.2.2 d_S_poke_16
  · refine lv_iload_n hx hb d_S_poke_7 rfl (lv_at hl 2 rfl) ?_
    refine lv_iload_n hx hb d_S_poke_8 rfl (lv_at hl 3 rfl) ?_
    refine cs_i (W.runS (As := [.int a2, .int a3]) (rest := []) ⟨hx, hb, hml, hown, hk⟩ (c_W_isWord l a2 a3) (s_W_isWord hk k_224 ⟨Nat.le_of_ble_eq_true rfl, Nat.le_of_ble_eq_true rfl⟩) ⟨fun a U g mk q => q, fun U hU hW => ⟨rfl, trivial⟩⟩ rfl rfl hl.1 rfl (lv_room (Nat.le_of_ble_eq_true rfl)) d_S_poke_9 ⟨Nat.le_of_ble_eq_true rfl, Nat.le_of_ble_eq_true rfl⟩) ?_
    refine lv_if_ne (tgt := 17) hx hb d_S_poke_12 (by decide) (fun c2 => ?_) (fun c2 => ?_)
    · refine lv_aload_n hx hb d_S_poke_17 rfl (lv_at hl 0 rfl) ?_
      refine va_get (D := D) (ci := 0) (v := .ref p1) (C := "SignMachine") (T := F_S) (N := 2) hx hb hk fi_S hown hK.1 hP 0 rfl rfl 0 (by decide) (hk _ k_210) (fun _ h9 => h9) rfl d_S_poke_18 ?_
      refine lv_iload_n hx hb d_S_poke_21 rfl (lv_at hl 1 rfl) ?_
      refine lv_iload_n hx hb d_S_poke_22 rfl (lv_at hl 2 rfl) ?_
      refine lv_iload_n hx hb d_S_poke_23 rfl (lv_at hl 3 rfl) ?_
      refine cs_i (W.runS (As := [.int a2, .int a3]) (rest := [.int a1, .ref p1]) ⟨hx, hb, hml, hown, hk⟩ (c_W_make l a2 a3) (s_W_make hk k_228 ⟨Nat.le_of_ble_eq_true rfl, Nat.le_of_ble_eq_true rfl⟩) ⟨fun a U g mk q => q, fun U hU hW => ⟨rfl, trivial⟩⟩ rfl rfl hl.1 rfl (lv_room (Nat.le_of_ble_eq_true rfl)) d_S_poke_24 ⟨Nat.le_of_ble_eq_true rfl, Nat.le_of_ble_eq_true rfl⟩) ?_
      refine kn_v (va_runV (C := "SignMachine$Machine") (As := [.int a1, .int (f_W_make a2 a3)]) (rest := []) ⟨hx, hb, hml, hown, hk⟩ (c_M_putWord_1 l D cI cJ cZ cB p0 p1 p2 p3 p4 p5 s.heap.size a1 (f_W_make a2 a3)) (v_M_putWord_1 hk k_232 ⟨Nat.le_of_ble_eq_true rfl, Nat.le_of_ble_eq_true rfl⟩) (pM_v hK hP hD (ci := 1) (q0 := 1) rfl rfl rfl) rfl rfl hl.1 rfl (lv_room (Nat.le_of_ble_eq_true rfl)) d_S_poke_27 ⟨by decide, by decide⟩) hS hA hD (fun u t H locs ht hB hFr hS => ?_)
      obtain ⟨hP, hD⟩ := hB
      rw [ht] at hP
      have hD := dwk hD hFr
      clear ht hFr
      have hP : va_P D classes (wS10 cI cJ cZ cB p0 p1 p2 p3 p4 p5 (0 : Int32) (0 : Int32) (0 : Int32) (0 : Int32) (0 : Int32) (0 : Int32) (0 : Int32) (0 : Int32) (0 : Int32) (0 : Int32) (f_M_putWord_1_y2 a1 (f_W_make a2 a3)) (fun _ => 0) (0 : Int32) (0 : Int32)) H := hP
      have hD : va_D A (wS10 cI cJ cZ cB p0 p1 p2 p3 p4 p5 (0 : Int32) (0 : Int32) (0 : Int32) (0 : Int32) (0 : Int32) (0 : Int32) (0 : Int32) (0 : Int32) (0 : Int32) (0 : Int32) (f_M_putWord_1_y2 a1 (f_W_make a2 a3)) (fun _ => 0) (0 : Int32) (0 : Int32)) := hD
      refine lv_iconst (v := 1) hx hb d_S_poke_30 (by decide) ?_
      exact W.zret (v := (1 : Int32)) hx hb hr rfl (fun t ht hW => ⟨⟨(1 : Int32), (), rfl, by unfold f_S_poke_1; simp only [if_neg c1, if_neg c2], trivial⟩, hS.F ht⟩) hS.2.2 d_S_poke_31
    · refine lv_iconst (v := 0) hx hb d_S_poke_15 (by decide) ?_
      exact W.zret (v := (0 : Int32)) hx hb hr rfl (fun t ht hW => ⟨⟨(0 : Int32), (), rfl, by unfold f_S_poke_1; simp only [if_neg c1, if_pos c2], trivial⟩, hS.F ht⟩) hS.2.2 d_S_poke_16
theorem v_S_poke_1 {R : Room} {s : State} {args : Array Value} {own : String} {index : Nat} (hk : ∀ w ∈ tb, w.before args s = true) (hl : Cond.methodLink own index y_S_poke ∈ tb) (hR : 1 + 1 ≤ R.frames ∧ 8 + (4 + 11) + 22 ≤ R.locals) : CallW R s args own "SignMachine" index y_S_poke b_S_poke 4 (some .boolean) (.code y_S_poke b_S_poke 4 (some .boolean) :: tb) ({ frames := 1, cells := 0, slots := 0, locals := 22 }) 0 0 3 := mk_v 3 hk k_220 hl k_218 k_219 k_116 rfl rfl h_S_poke hR
def f_M_wordAt_1 (a1 : Int32) : Int32 := (if a1 < (0 : Int32) then (0 : Int32) else (if (4000 : Int32) ≤ a1 then (0 : Int32) else (0 : Int32)))
set_option maxHeartbeats 4000000 in
set_option maxRecDepth 100000 in
theorem c_M_wordAt_1 (l : Launch) (D : va_G) (cI cJ cZ cB : ClassId) (p0 p1 p2 p3 p4 p5 : Nat) (sz : Nat) (a1 : Int32) : Met l y_M_wordAt (.code y_M_wordAt b_M_wordAt 2 (some .int) :: tb) ({ frames := 0, cells := 0, slots := 0, locals := 0 }) (pM D cI cJ cZ cB (wS10 cI cJ cZ cB p0 p1 p2 p3 p4 p5 (0 : Int32) (0 : Int32) (0 : Int32) (0 : Int32) (0 : Int32) (0 : Int32) (0 : Int32) (0 : Int32) (0 : Int32) (0 : Int32) (fun _ => 0) (fun _ => 0) (0 : Int32) (0 : Int32)) sz [.ref p1, .int a1]) (va_Qi (fun r (_ : Unit) => r = (f_M_wordAt_1 a1)) (fun _ t => va_P D classes (wS10 cI cJ cZ cB p0 p1 p2 p3 p4 p5 (0 : Int32) (0 : Int32) (0 : Int32) (0 : Int32) (0 : Int32) (0 : Int32) (0 : Int32) (0 : Int32) (0 : Int32) (0 : Int32) (fun _ => 0) (fun _ => 0) (0 : Int32) (0 : Int32)) t.heap ∧ va_D (va_A (wS10 cI cJ cZ cB p0 p1 p2 p3 p4 p5 (0 : Int32) (0 : Int32) (0 : Int32) (0 : Int32) (0 : Int32) (0 : Int32) (0 : Int32) (0 : Int32) (0 : Int32) (0 : Int32) (fun _ => 0) (fun _ => 0) (0 : Int32) (0 : Int32)) sz) (wS10 cI cJ cZ cB p0 p1 p2 p3 p4 p5 (0 : Int32) (0 : Int32) (0 : Int32) (0 : Int32) (0 : Int32) (0 : Int32) (0 : Int32) (0 : Int32) (0 : Int32) (0 : Int32) (fun _ => 0) (fun _ => 0) (0 : Int32) (0 : Int32))) (va_A (wS10 cI cJ cZ cB p0 p1 p2 p3 p4 p5 (0 : Int32) (0 : Int32) (0 : Int32) (0 : Int32) (0 : Int32) (0 : Int32) (0 : Int32) (0 : Int32) (0 : Int32) (0 : Int32) (fun _ => 0) (fun _ => 0) (0 : Int32) (0 : Int32)) sz)) 0 0 (va_A (wS10 cI cJ cZ cB p0 p1 p2 p3 p4 p5 (0 : Int32) (0 : Int32) (0 : Int32) (0 : Int32) (0 : Int32) (0 : Int32) (0 : Int32) (0 : Int32) (0 : Int32) (0 : Int32) (fun _ => 0) (fun _ => 0) (0 : Int32) (0 : Int32)) sz) := by
  refine Met.ofW (cc := b_M_wordAt) (maxL := 2) (ret := (some .int)) (by decide) rfl ?_
  intro p e s m args below meth c s₁ B hml hv
  obtain ⟨rfl, hsz, hK, hP, hD0⟩ := hv
  subst hsz
  have hD := hD0.self (sz := s.heap.size)
  generalize hAe : va_A (wS10 cI cJ cZ cB p0 p1 p2 p3 p4 p5 (0 : Int32) (0 : Int32) (0 : Int32) (0 : Int32) (0 : Int32) (0 : Int32) (0 : Int32) (0 : Int32) (0 : Int32) (0 : Int32) (fun _ => 0) (fun _ => 0) (0 : Int32) (0 : Int32)) s.heap.size = A at hD ⊢
  have hA : ∀ q : Nat, s.heap.size ≤ q → A q := fun q h => by rw [← hAe]; exact Or.inr h
  have hS : va_S A s.heap s.heap [] := va_S.rf
  have hx := B.exec
  have hb := B.bytes
  have hr := B.returns
  have hts := atoms_spec (ws := .code y_M_wordAt b_M_wordAt 2 (some .int) :: tb) B.pre
  have hk : ∀ w ∈ tb, w.before [.ref p1, .int a1].toArray s = true := fun w h => hts w (List.mem_cons_of_mem _ h)
  have hown : s.vm.findClass "SignMachine$Machine" = some m.cls := findClass_of_methodNamed B.named
  have hlocks := B.notSynchronized
  have hl := lv_entry ([.ref p1, .int a1]) (n := 2) (Nat.le_of_ble_eq_true rfl)
  rw [lg_entry_eq]
  generalize (lg_sl ([.ref p1, .int a1]) ++ List.replicate (2 - (lg_sl ([.ref p1, .int a1])).length) Slot.unset).toArray = ls at hl ⊢
  have hl : lv_has ls 2 [(0, .ref p1), (1, .int a1)] := hl
  refine lv_iload_n hx hb d_M_wordAt_0 rfl (lv_at hl 1 rfl) ?_
  refine lv_if_lt (tgt := 20) hx hb d_M_wordAt_1 (by decide) (fun c1 => ?_) (fun c1 => ?_)
  · refine lv_iconst (v := 0) hx hb d_M_wordAt_20 (by decide) ?_
    exact W.iret (v := (0 : Int32)) hx hb hr (fun t ht hW => ⟨⟨(0 : Int32), (), rfl, by unfold f_M_wordAt_1; simp only [if_pos c1], by show va_P D classes _ t.heap; rw [ht]; exact hP, hD⟩, hS.F ht⟩) hS.2.2 d_M_wordAt_21
  · refine lv_iload_n hx hb d_M_wordAt_4 rfl (lv_at hl 1 rfl) ?_
    refine lv_sipush (v := 4000) hx hb d_M_wordAt_5 (by decide) ?_
    refine lv_icmp_ge (tgt := 20) hx hb d_M_wordAt_8 (by decide) (fun c2 => ?_) (fun c2 => ?_)
    · refine lv_iconst (v := 0) hx hb d_M_wordAt_20 (by decide) ?_
      exact W.iret (v := (0 : Int32)) hx hb hr (fun t ht hW => ⟨⟨(0 : Int32), (), rfl, by unfold f_M_wordAt_1; simp only [if_neg c1, if_pos c2], by show va_P D classes _ t.heap; rw [ht]; exact hP, hD⟩, hS.F ht⟩) hS.2.2 d_M_wordAt_21
    · refine lv_aload_n hx hb d_M_wordAt_11 rfl (lv_at hl 0 rfl) ?_
      refine va_get (D := D) (ci := 1) (v := .ref p2) (C := "SignMachine$Machine") (T := F_M) (N := 14) hx hb hk fi_M hown hK.1 hP 1 rfl rfl 0 (by decide) (hk _ k_163) (fun _ h9 => h9) rfl d_M_wordAt_12 ?_
      refine lv_iload_n hx hb d_M_wordAt_15 rfl (lv_at hl 1 rfl) ?_
      refine va_iald hx hb hK.1 hP 2 0 rfl rfl (vpin c1 c2 rfl) d_M_wordAt_16 ?_
      refine tpi (y := (0 : Int32)) rfl ?_
      refine lv_goto (tgt := 21) hx hb d_M_wordAt_17 (by decide) ?_
      exact W.iret (v := (0 : Int32)) hx hb hr (fun t ht hW => ⟨⟨(0 : Int32), (), rfl, by unfold f_M_wordAt_1; simp only [if_neg c1, if_neg c2], by show va_P D classes _ t.heap; rw [ht]; exact hP, hD⟩, hS.F ht⟩) hS.2.2 d_M_wordAt_21
theorem v_M_wordAt_1 {R : Room} {s : State} {args : Array Value} {own : String} {index : Nat} (hk : ∀ w ∈ tb, w.before args s = true) (hl : Cond.methodLink own index y_M_wordAt ∈ tb) (hR : 0 + 1 ≤ R.frames ∧ 8 + (2 + 11) + 0 ≤ R.locals) : CallW R s args own "SignMachine$Machine" index y_M_wordAt b_M_wordAt 2 (some .int) (.code y_M_wordAt b_M_wordAt 2 (some .int) :: tb) ({ frames := 0, cells := 0, slots := 0, locals := 0 }) 0 0 1 := mk_v 1 hk k_243 hl k_241 k_242 k_117 rfl rfl h_M_wordAt hR
def f_S_peekSign_1 (a1 : Int32) : Int32 := (if (bI (f_M_isAddress a1)) = (0 : Int32) then (-1 : Int32) else (f_W_sign (f_M_wordAt_1 a1)))
set_option maxHeartbeats 4000000 in
set_option maxRecDepth 100000 in
theorem c_S_peekSign_1 (l : Launch) (D : va_G) (cI cJ cZ cB : ClassId) (p0 p1 p2 p3 p4 p5 : Nat) (sz : Nat) (a1 : Int32) : Met l y_S_peekSign (.code y_S_peekSign b_S_peekSign 2 (some .int) :: tb) ({ frames := 1, cells := 0, slots := 0, locals := 21 }) (pM D cI cJ cZ cB (wS10 cI cJ cZ cB p0 p1 p2 p3 p4 p5 (0 : Int32) (0 : Int32) (0 : Int32) (0 : Int32) (0 : Int32) (0 : Int32) (0 : Int32) (0 : Int32) (0 : Int32) (0 : Int32) (fun _ => 0) (fun _ => 0) (0 : Int32) (0 : Int32)) sz [.ref p0, .int a1]) (va_Qi (fun r (_ : Unit) => r = (f_S_peekSign_1 a1)) (fun _ _ => True) (va_A (wS10 cI cJ cZ cB p0 p1 p2 p3 p4 p5 (0 : Int32) (0 : Int32) (0 : Int32) (0 : Int32) (0 : Int32) (0 : Int32) (0 : Int32) (0 : Int32) (0 : Int32) (0 : Int32) (fun _ => 0) (fun _ => 0) (0 : Int32) (0 : Int32)) sz)) 0 0 (va_A (wS10 cI cJ cZ cB p0 p1 p2 p3 p4 p5 (0 : Int32) (0 : Int32) (0 : Int32) (0 : Int32) (0 : Int32) (0 : Int32) (0 : Int32) (0 : Int32) (0 : Int32) (0 : Int32) (fun _ => 0) (fun _ => 0) (0 : Int32) (0 : Int32)) sz) := by
  refine Met.ofW (cc := b_S_peekSign) (maxL := 2) (ret := (some .int)) (by decide) rfl ?_
  intro p e s m args below meth c s₁ B hml hv
  obtain ⟨rfl, hsz, hK, hP, hD0⟩ := hv
  subst hsz
  have hD := hD0.self (sz := s.heap.size)
  generalize hAe : va_A (wS10 cI cJ cZ cB p0 p1 p2 p3 p4 p5 (0 : Int32) (0 : Int32) (0 : Int32) (0 : Int32) (0 : Int32) (0 : Int32) (0 : Int32) (0 : Int32) (0 : Int32) (0 : Int32) (fun _ => 0) (fun _ => 0) (0 : Int32) (0 : Int32)) s.heap.size = A at hD ⊢
  have hA : ∀ q : Nat, s.heap.size ≤ q → A q := fun q h => by rw [← hAe]; exact Or.inr h
  have hS : va_S A s.heap s.heap [] := va_S.rf
  have hx := B.exec
  have hb := B.bytes
  have hr := B.returns
  have hts := atoms_spec (ws := .code y_S_peekSign b_S_peekSign 2 (some .int) :: tb) B.pre
  have hk : ∀ w ∈ tb, w.before [.ref p0, .int a1].toArray s = true := fun w h => hts w (List.mem_cons_of_mem _ h)
  have hown : s.vm.findClass "SignMachine" = some m.cls := findClass_of_methodNamed B.named
  have hlocks := B.notSynchronized
  have hl := lv_entry ([.ref p0, .int a1]) (n := 2) (Nat.le_of_ble_eq_true rfl)
  rw [lg_entry_eq]
  generalize (lg_sl ([.ref p0, .int a1]) ++ List.replicate (2 - (lg_sl ([.ref p0, .int a1])).length) Slot.unset).toArray = ls at hl ⊢
  have hl : lv_has ls 2 [(0, .ref p0), (1, .int a1)] := hl
  refine lv_iload_n hx hb d_S_peekSign_0 rfl (lv_at hl 1 rfl) ?_
  refine cs_i (W.runS (As := [.int a1]) (rest := []) ⟨hx, hb, hml, hown, hk⟩ (c_M_isAddress l a1) (s_M_isAddress hk k_221 ⟨Nat.le_of_ble_eq_true rfl, Nat.le_of_ble_eq_true rfl⟩) ⟨fun a U g mk q => q, fun U hU hW => ⟨rfl, trivial⟩⟩ rfl rfl hl.1 rfl (lv_room (Nat.le_of_ble_eq_true rfl)) d_S_peekSign_1 ⟨Nat.le_of_ble_eq_true rfl, Nat.le_of_ble_eq_true rfl⟩) ?_
  refine lv_if_eq (tgt := 21) hx hb d_S_peekSign_4 (by decide) (fun c1 => ?_) (fun c1 => ?_)
  · refine lv_iconst (v := (-1)) hx hb d_S_peekSign_21 (by decide) ?_
    exact W.iret (v := (-1 : Int32)) hx hb hr (fun t ht hW => ⟨⟨(-1 : Int32), (), rfl, by unfold f_S_peekSign_1; simp only [if_pos c1], trivial⟩, hS.F ht⟩) hS.2.2 d_S_peekSign_22
  · refine lv_aload_n hx hb d_S_peekSign_7 rfl (lv_at hl 0 rfl) ?_
    refine va_get (D := D) (ci := 0) (v := .ref p1) (C := "SignMachine") (T := F_S) (N := 2) hx hb hk fi_S hown hK.1 hP 0 rfl rfl 0 (by decide) (hk _ k_210) (fun _ h9 => h9) rfl d_S_peekSign_8 ?_
    refine lv_iload_n hx hb d_S_peekSign_11 rfl (lv_at hl 1 rfl) ?_
    refine kn_i (va_runV (C := "SignMachine$Machine") (As := [.int a1]) (rest := []) ⟨hx, hb, hml, hown, hk⟩ (c_M_wordAt_1 l D cI cJ cZ cB p0 p1 p2 p3 p4 p5 s.heap.size a1) (v_M_wordAt_1 hk k_240 ⟨Nat.le_of_ble_eq_true rfl, Nat.le_of_ble_eq_true rfl⟩) (pM_v hK hP hD (ci := 1) (q0 := 1) rfl rfl rfl) rfl rfl hl.1 rfl (lv_room (Nat.le_of_ble_eq_true rfl)) d_S_peekSign_12 ⟨by decide, by decide⟩) hS hA hD (fun u t H locs ht hB hFr hS => ?_)
    obtain ⟨hP, hD⟩ := hB
    rw [ht] at hP
    have hD := dwk hD hFr
    clear ht hFr
    have hP : va_P D classes (wS10 cI cJ cZ cB p0 p1 p2 p3 p4 p5 (0 : Int32) (0 : Int32) (0 : Int32) (0 : Int32) (0 : Int32) (0 : Int32) (0 : Int32) (0 : Int32) (0 : Int32) (0 : Int32) (fun _ => 0) (fun _ => 0) (0 : Int32) (0 : Int32)) H := hP
    have hD : va_D A (wS10 cI cJ cZ cB p0 p1 p2 p3 p4 p5 (0 : Int32) (0 : Int32) (0 : Int32) (0 : Int32) (0 : Int32) (0 : Int32) (0 : Int32) (0 : Int32) (0 : Int32) (0 : Int32) (fun _ => 0) (fun _ => 0) (0 : Int32) (0 : Int32)) := hD
    refine cs_i (W.runS (As := [.int (f_M_wordAt_1 a1)]) (rest := []) ⟨hx, hb, hml, hown, hk⟩ (c_W_sign l (f_M_wordAt_1 a1)) (s_W_sign hk k_244 ⟨Nat.le_of_ble_eq_true rfl, Nat.le_of_ble_eq_true rfl⟩) ⟨fun a U g mk q => q, fun U hU hW => ⟨rfl, trivial⟩⟩ rfl rfl hl.1 rfl (lv_room (Nat.le_of_ble_eq_true rfl)) d_S_peekSign_15 ⟨Nat.le_of_ble_eq_true rfl, Nat.le_of_ble_eq_true rfl⟩) ?_
    refine lv_goto (tgt := 22) hx hb d_S_peekSign_18 (by decide) ?_
    exact W.iret (v := (f_W_sign (f_M_wordAt_1 a1))) hx hb hr (fun t ht hW => ⟨⟨(f_W_sign (f_M_wordAt_1 a1)), (), rfl, by unfold f_S_peekSign_1; simp only [if_neg c1], trivial⟩, hS.F ht⟩) hS.2.2 d_S_peekSign_22
theorem v_S_peekSign_1 {R : Room} {s : State} {args : Array Value} {own : String} {index : Nat} (hk : ∀ w ∈ tb, w.before args s = true) (hl : Cond.methodLink own index y_S_peekSign ∈ tb) (hR : 1 + 1 ≤ R.frames ∧ 8 + (2 + 11) + 21 ≤ R.locals) : CallW R s args own "SignMachine" index y_S_peekSign b_S_peekSign 2 (some .int) (.code y_S_peekSign b_S_peekSign 2 (some .int) :: tb) ({ frames := 1, cells := 0, slots := 0, locals := 21 }) 0 0 1 := mk_v 1 hk k_239 hl k_237 k_238 k_116 rfl rfl h_S_peekSign hR
def f_S_peekSize_1 (a1 : Int32) : Int32 := (if (bI (f_M_isAddress a1)) = (0 : Int32) then (-1 : Int32) else (f_W_size (f_M_wordAt_1 a1)))
set_option maxHeartbeats 4000000 in
set_option maxRecDepth 100000 in
theorem c_S_peekSize_1 (l : Launch) (D : va_G) (cI cJ cZ cB : ClassId) (p0 p1 p2 p3 p4 p5 : Nat) (sz : Nat) (a1 : Int32) : Met l y_S_peekSize (.code y_S_peekSize b_S_peekSize 2 (some .int) :: tb) ({ frames := 1, cells := 0, slots := 0, locals := 21 }) (pM D cI cJ cZ cB (wS10 cI cJ cZ cB p0 p1 p2 p3 p4 p5 (0 : Int32) (0 : Int32) (0 : Int32) (0 : Int32) (0 : Int32) (0 : Int32) (0 : Int32) (0 : Int32) (0 : Int32) (0 : Int32) (fun _ => 0) (fun _ => 0) (0 : Int32) (0 : Int32)) sz [.ref p0, .int a1]) (va_Qi (fun r (_ : Unit) => r = (f_S_peekSize_1 a1)) (fun _ _ => True) (va_A (wS10 cI cJ cZ cB p0 p1 p2 p3 p4 p5 (0 : Int32) (0 : Int32) (0 : Int32) (0 : Int32) (0 : Int32) (0 : Int32) (0 : Int32) (0 : Int32) (0 : Int32) (0 : Int32) (fun _ => 0) (fun _ => 0) (0 : Int32) (0 : Int32)) sz)) 0 0 (va_A (wS10 cI cJ cZ cB p0 p1 p2 p3 p4 p5 (0 : Int32) (0 : Int32) (0 : Int32) (0 : Int32) (0 : Int32) (0 : Int32) (0 : Int32) (0 : Int32) (0 : Int32) (0 : Int32) (fun _ => 0) (fun _ => 0) (0 : Int32) (0 : Int32)) sz) := by
  refine Met.ofW (cc := b_S_peekSize) (maxL := 2) (ret := (some .int)) (by decide) rfl ?_
  intro p e s m args below meth c s₁ B hml hv
  obtain ⟨rfl, hsz, hK, hP, hD0⟩ := hv
  subst hsz
  have hD := hD0.self (sz := s.heap.size)
  generalize hAe : va_A (wS10 cI cJ cZ cB p0 p1 p2 p3 p4 p5 (0 : Int32) (0 : Int32) (0 : Int32) (0 : Int32) (0 : Int32) (0 : Int32) (0 : Int32) (0 : Int32) (0 : Int32) (0 : Int32) (fun _ => 0) (fun _ => 0) (0 : Int32) (0 : Int32)) s.heap.size = A at hD ⊢
  have hA : ∀ q : Nat, s.heap.size ≤ q → A q := fun q h => by rw [← hAe]; exact Or.inr h
  have hS : va_S A s.heap s.heap [] := va_S.rf
  have hx := B.exec
  have hb := B.bytes
  have hr := B.returns
  have hts := atoms_spec (ws := .code y_S_peekSize b_S_peekSize 2 (some .int) :: tb) B.pre
  have hk : ∀ w ∈ tb, w.before [.ref p0, .int a1].toArray s = true := fun w h => hts w (List.mem_cons_of_mem _ h)
  have hown : s.vm.findClass "SignMachine" = some m.cls := findClass_of_methodNamed B.named
  have hlocks := B.notSynchronized
  have hl := lv_entry ([.ref p0, .int a1]) (n := 2) (Nat.le_of_ble_eq_true rfl)
  rw [lg_entry_eq]
  generalize (lg_sl ([.ref p0, .int a1]) ++ List.replicate (2 - (lg_sl ([.ref p0, .int a1])).length) Slot.unset).toArray = ls at hl ⊢
  have hl : lv_has ls 2 [(0, .ref p0), (1, .int a1)] := hl
  refine lv_iload_n hx hb d_S_peekSize_0 rfl (lv_at hl 1 rfl) ?_
  refine cs_i (W.runS (As := [.int a1]) (rest := []) ⟨hx, hb, hml, hown, hk⟩ (c_M_isAddress l a1) (s_M_isAddress hk k_221 ⟨Nat.le_of_ble_eq_true rfl, Nat.le_of_ble_eq_true rfl⟩) ⟨fun a U g mk q => q, fun U hU hW => ⟨rfl, trivial⟩⟩ rfl rfl hl.1 rfl (lv_room (Nat.le_of_ble_eq_true rfl)) d_S_peekSize_1 ⟨Nat.le_of_ble_eq_true rfl, Nat.le_of_ble_eq_true rfl⟩) ?_
  refine lv_if_eq (tgt := 21) hx hb d_S_peekSize_4 (by decide) (fun c1 => ?_) (fun c1 => ?_)
  · refine lv_iconst (v := (-1)) hx hb d_S_peekSize_21 (by decide) ?_
    exact W.iret (v := (-1 : Int32)) hx hb hr (fun t ht hW => ⟨⟨(-1 : Int32), (), rfl, by unfold f_S_peekSize_1; simp only [if_pos c1], trivial⟩, hS.F ht⟩) hS.2.2 d_S_peekSize_22
  · refine lv_aload_n hx hb d_S_peekSize_7 rfl (lv_at hl 0 rfl) ?_
    refine va_get (D := D) (ci := 0) (v := .ref p1) (C := "SignMachine") (T := F_S) (N := 2) hx hb hk fi_S hown hK.1 hP 0 rfl rfl 0 (by decide) (hk _ k_210) (fun _ h9 => h9) rfl d_S_peekSize_8 ?_
    refine lv_iload_n hx hb d_S_peekSize_11 rfl (lv_at hl 1 rfl) ?_
    refine kn_i (va_runV (C := "SignMachine$Machine") (As := [.int a1]) (rest := []) ⟨hx, hb, hml, hown, hk⟩ (c_M_wordAt_1 l D cI cJ cZ cB p0 p1 p2 p3 p4 p5 s.heap.size a1) (v_M_wordAt_1 hk k_240 ⟨Nat.le_of_ble_eq_true rfl, Nat.le_of_ble_eq_true rfl⟩) (pM_v hK hP hD (ci := 1) (q0 := 1) rfl rfl rfl) rfl rfl hl.1 rfl (lv_room (Nat.le_of_ble_eq_true rfl)) d_S_peekSize_12 ⟨by decide, by decide⟩) hS hA hD (fun u t H locs ht hB hFr hS => ?_)
    obtain ⟨hP, hD⟩ := hB
    rw [ht] at hP
    have hD := dwk hD hFr
    clear ht hFr
    have hP : va_P D classes (wS10 cI cJ cZ cB p0 p1 p2 p3 p4 p5 (0 : Int32) (0 : Int32) (0 : Int32) (0 : Int32) (0 : Int32) (0 : Int32) (0 : Int32) (0 : Int32) (0 : Int32) (0 : Int32) (fun _ => 0) (fun _ => 0) (0 : Int32) (0 : Int32)) H := hP
    have hD : va_D A (wS10 cI cJ cZ cB p0 p1 p2 p3 p4 p5 (0 : Int32) (0 : Int32) (0 : Int32) (0 : Int32) (0 : Int32) (0 : Int32) (0 : Int32) (0 : Int32) (0 : Int32) (0 : Int32) (fun _ => 0) (fun _ => 0) (0 : Int32) (0 : Int32)) := hD
    refine cs_i (W.runS (As := [.int (f_M_wordAt_1 a1)]) (rest := []) ⟨hx, hb, hml, hown, hk⟩ (c_W_size l (f_M_wordAt_1 a1)) (s_W_size hk k_251 ⟨Nat.le_of_ble_eq_true rfl, Nat.le_of_ble_eq_true rfl⟩) ⟨fun a U g mk q => q, fun U hU hW => ⟨rfl, trivial⟩⟩ rfl rfl hl.1 rfl (lv_room (Nat.le_of_ble_eq_true rfl)) d_S_peekSize_15 ⟨Nat.le_of_ble_eq_true rfl, Nat.le_of_ble_eq_true rfl⟩) ?_
    refine lv_goto (tgt := 22) hx hb d_S_peekSize_18 (by decide) ?_
    exact W.iret (v := (f_W_size (f_M_wordAt_1 a1))) hx hb hr (fun t ht hW => ⟨⟨(f_W_size (f_M_wordAt_1 a1)), (), rfl, by unfold f_S_peekSize_1; simp only [if_neg c1], trivial⟩, hS.F ht⟩) hS.2.2 d_S_peekSize_22
theorem v_S_peekSize_1 {R : Room} {s : State} {args : Array Value} {own : String} {index : Nat} (hk : ∀ w ∈ tb, w.before args s = true) (hl : Cond.methodLink own index y_S_peekSize ∈ tb) (hR : 1 + 1 ≤ R.frames ∧ 8 + (2 + 11) + 21 ≤ R.locals) : CallW R s args own "SignMachine" index y_S_peekSize b_S_peekSize 2 (some .int) (.code y_S_peekSize b_S_peekSize 2 (some .int) :: tb) ({ frames := 1, cells := 0, slots := 0, locals := 21 }) 0 0 1 := mk_v 1 hk k_250 hl k_248 k_249 k_116 rfl rfl h_S_peekSize hR
def f_M_register_1 (a1 : Int32) : Int32 := (if a1 < (0 : Int32) then (0 : Int32) else (if (9 : Int32) ≤ a1 then (0 : Int32) else (0 : Int32)))
set_option maxHeartbeats 4000000 in
set_option maxRecDepth 100000 in
theorem c_M_register_1 (l : Launch) (D : va_G) (cI cJ cZ cB : ClassId) (p0 p1 p2 p3 p4 p5 : Nat) (sz : Nat) (a1 : Int32) : Met l y_M_register (.code y_M_register b_M_register 2 (some .int) :: tb) ({ frames := 0, cells := 0, slots := 0, locals := 0 }) (pM D cI cJ cZ cB (wS10 cI cJ cZ cB p0 p1 p2 p3 p4 p5 (0 : Int32) (0 : Int32) (0 : Int32) (0 : Int32) (0 : Int32) (0 : Int32) (0 : Int32) (0 : Int32) (0 : Int32) (0 : Int32) (fun _ => 0) (fun _ => 0) (0 : Int32) (0 : Int32)) sz [.ref p1, .int a1]) (va_Qi (fun r (_ : Unit) => r = (f_M_register_1 a1)) (fun _ t => va_P D classes (wS10 cI cJ cZ cB p0 p1 p2 p3 p4 p5 (0 : Int32) (0 : Int32) (0 : Int32) (0 : Int32) (0 : Int32) (0 : Int32) (0 : Int32) (0 : Int32) (0 : Int32) (0 : Int32) (fun _ => 0) (fun _ => 0) (0 : Int32) (0 : Int32)) t.heap ∧ va_D (va_A (wS10 cI cJ cZ cB p0 p1 p2 p3 p4 p5 (0 : Int32) (0 : Int32) (0 : Int32) (0 : Int32) (0 : Int32) (0 : Int32) (0 : Int32) (0 : Int32) (0 : Int32) (0 : Int32) (fun _ => 0) (fun _ => 0) (0 : Int32) (0 : Int32)) sz) (wS10 cI cJ cZ cB p0 p1 p2 p3 p4 p5 (0 : Int32) (0 : Int32) (0 : Int32) (0 : Int32) (0 : Int32) (0 : Int32) (0 : Int32) (0 : Int32) (0 : Int32) (0 : Int32) (fun _ => 0) (fun _ => 0) (0 : Int32) (0 : Int32))) (va_A (wS10 cI cJ cZ cB p0 p1 p2 p3 p4 p5 (0 : Int32) (0 : Int32) (0 : Int32) (0 : Int32) (0 : Int32) (0 : Int32) (0 : Int32) (0 : Int32) (0 : Int32) (0 : Int32) (fun _ => 0) (fun _ => 0) (0 : Int32) (0 : Int32)) sz)) 0 0 (va_A (wS10 cI cJ cZ cB p0 p1 p2 p3 p4 p5 (0 : Int32) (0 : Int32) (0 : Int32) (0 : Int32) (0 : Int32) (0 : Int32) (0 : Int32) (0 : Int32) (0 : Int32) (0 : Int32) (fun _ => 0) (fun _ => 0) (0 : Int32) (0 : Int32)) sz) := by
  refine Met.ofW (cc := b_M_register) (maxL := 2) (ret := (some .int)) (by decide) rfl ?_
  intro p e s m args below meth c s₁ B hml hv
  obtain ⟨rfl, hsz, hK, hP, hD0⟩ := hv
  subst hsz
  have hD := hD0.self (sz := s.heap.size)
  generalize hAe : va_A (wS10 cI cJ cZ cB p0 p1 p2 p3 p4 p5 (0 : Int32) (0 : Int32) (0 : Int32) (0 : Int32) (0 : Int32) (0 : Int32) (0 : Int32) (0 : Int32) (0 : Int32) (0 : Int32) (fun _ => 0) (fun _ => 0) (0 : Int32) (0 : Int32)) s.heap.size = A at hD ⊢
  have hA : ∀ q : Nat, s.heap.size ≤ q → A q := fun q h => by rw [← hAe]; exact Or.inr h
  have hS : va_S A s.heap s.heap [] := va_S.rf
  have hx := B.exec
  have hb := B.bytes
  have hr := B.returns
  have hts := atoms_spec (ws := .code y_M_register b_M_register 2 (some .int) :: tb) B.pre
  have hk : ∀ w ∈ tb, w.before [.ref p1, .int a1].toArray s = true := fun w h => hts w (List.mem_cons_of_mem _ h)
  have hown : s.vm.findClass "SignMachine$Machine" = some m.cls := findClass_of_methodNamed B.named
  have hlocks := B.notSynchronized
  have hl := lv_entry ([.ref p1, .int a1]) (n := 2) (Nat.le_of_ble_eq_true rfl)
  rw [lg_entry_eq]
  generalize (lg_sl ([.ref p1, .int a1]) ++ List.replicate (2 - (lg_sl ([.ref p1, .int a1])).length) Slot.unset).toArray = ls at hl ⊢
  have hl : lv_has ls 2 [(0, .ref p1), (1, .int a1)] := hl
  refine lv_iload_n hx hb d_M_register_0 rfl (lv_at hl 1 rfl) ?_
  refine lv_if_lt (tgt := 19) hx hb d_M_register_1 (by decide) (fun c1 => ?_) (fun c1 => ?_)
  · refine lv_iconst (v := 0) hx hb d_M_register_19 (by decide) ?_
    exact W.iret (v := (0 : Int32)) hx hb hr (fun t ht hW => ⟨⟨(0 : Int32), (), rfl, by unfold f_M_register_1; simp only [if_pos c1], by show va_P D classes _ t.heap; rw [ht]; exact hP, hD⟩, hS.F ht⟩) hS.2.2 d_M_register_20
  · refine lv_iload_n hx hb d_M_register_4 rfl (lv_at hl 1 rfl) ?_
    refine lv_bipush (v := 9) hx hb d_M_register_5 (by decide) ?_
    refine lv_icmp_ge (tgt := 19) hx hb d_M_register_7 (by decide) (fun c2 => ?_) (fun c2 => ?_)
    · refine lv_iconst (v := 0) hx hb d_M_register_19 (by decide) ?_
      exact W.iret (v := (0 : Int32)) hx hb hr (fun t ht hW => ⟨⟨(0 : Int32), (), rfl, by unfold f_M_register_1; simp only [if_neg c1, if_pos c2], by show va_P D classes _ t.heap; rw [ht]; exact hP, hD⟩, hS.F ht⟩) hS.2.2 d_M_register_20
    · refine lv_aload_n hx hb d_M_register_10 rfl (lv_at hl 0 rfl) ?_
      refine va_get (D := D) (ci := 1) (v := .ref p3) (C := "SignMachine$Machine") (T := F_M) (N := 14) hx hb hk fi_M hown hK.1 hP 1 rfl rfl 1 (by decide) (hk _ k_164) (fun _ h9 => h9) rfl d_M_register_11 ?_
      refine lv_iload_n hx hb d_M_register_14 rfl (lv_at hl 1 rfl) ?_
      refine va_iald hx hb hK.1 hP 3 0 rfl rfl (vpin c1 c2 rfl) d_M_register_15 ?_
      refine tpi (y := (0 : Int32)) rfl ?_
      refine lv_goto (tgt := 20) hx hb d_M_register_16 (by decide) ?_
      exact W.iret (v := (0 : Int32)) hx hb hr (fun t ht hW => ⟨⟨(0 : Int32), (), rfl, by unfold f_M_register_1; simp only [if_neg c1, if_neg c2], by show va_P D classes _ t.heap; rw [ht]; exact hP, hD⟩, hS.F ht⟩) hS.2.2 d_M_register_20
theorem v_M_register_1 {R : Room} {s : State} {args : Array Value} {own : String} {index : Nat} (hk : ∀ w ∈ tb, w.before args s = true) (hl : Cond.methodLink own index y_M_register ∈ tb) (hR : 0 + 1 ≤ R.frames ∧ 8 + (2 + 11) + 0 ≤ R.locals) : CallW R s args own "SignMachine$Machine" index y_M_register b_M_register 2 (some .int) (.code y_M_register b_M_register 2 (some .int) :: tb) ({ frames := 0, cells := 0, slots := 0, locals := 0 }) 0 0 1 := mk_v 1 hk k_276 hl k_274 k_275 k_117 rfl rfl h_M_register hR
def f_S_registerSign_1 (a1 : Int32) : Int32 := (if (bI (f_M_isRegister a1)) = (0 : Int32) then (-1 : Int32) else (f_W_sign (f_M_register_1 a1)))
set_option maxHeartbeats 4000000 in
set_option maxRecDepth 100000 in
theorem c_S_registerSign_1 (l : Launch) (D : va_G) (cI cJ cZ cB : ClassId) (p0 p1 p2 p3 p4 p5 : Nat) (sz : Nat) (a1 : Int32) : Met l y_S_registerSign (.code y_S_registerSign b_S_registerSign 2 (some .int) :: tb) ({ frames := 1, cells := 0, slots := 0, locals := 21 }) (pM D cI cJ cZ cB (wS10 cI cJ cZ cB p0 p1 p2 p3 p4 p5 (0 : Int32) (0 : Int32) (0 : Int32) (0 : Int32) (0 : Int32) (0 : Int32) (0 : Int32) (0 : Int32) (0 : Int32) (0 : Int32) (fun _ => 0) (fun _ => 0) (0 : Int32) (0 : Int32)) sz [.ref p0, .int a1]) (va_Qi (fun r (_ : Unit) => r = (f_S_registerSign_1 a1)) (fun _ _ => True) (va_A (wS10 cI cJ cZ cB p0 p1 p2 p3 p4 p5 (0 : Int32) (0 : Int32) (0 : Int32) (0 : Int32) (0 : Int32) (0 : Int32) (0 : Int32) (0 : Int32) (0 : Int32) (0 : Int32) (fun _ => 0) (fun _ => 0) (0 : Int32) (0 : Int32)) sz)) 0 0 (va_A (wS10 cI cJ cZ cB p0 p1 p2 p3 p4 p5 (0 : Int32) (0 : Int32) (0 : Int32) (0 : Int32) (0 : Int32) (0 : Int32) (0 : Int32) (0 : Int32) (0 : Int32) (0 : Int32) (fun _ => 0) (fun _ => 0) (0 : Int32) (0 : Int32)) sz) := by
  refine Met.ofW (cc := b_S_registerSign) (maxL := 2) (ret := (some .int)) (by decide) rfl ?_
  intro p e s m args below meth c s₁ B hml hv
  obtain ⟨rfl, hsz, hK, hP, hD0⟩ := hv
  subst hsz
  have hD := hD0.self (sz := s.heap.size)
  generalize hAe : va_A (wS10 cI cJ cZ cB p0 p1 p2 p3 p4 p5 (0 : Int32) (0 : Int32) (0 : Int32) (0 : Int32) (0 : Int32) (0 : Int32) (0 : Int32) (0 : Int32) (0 : Int32) (0 : Int32) (fun _ => 0) (fun _ => 0) (0 : Int32) (0 : Int32)) s.heap.size = A at hD ⊢
  have hA : ∀ q : Nat, s.heap.size ≤ q → A q := fun q h => by rw [← hAe]; exact Or.inr h
  have hS : va_S A s.heap s.heap [] := va_S.rf
  have hx := B.exec
  have hb := B.bytes
  have hr := B.returns
  have hts := atoms_spec (ws := .code y_S_registerSign b_S_registerSign 2 (some .int) :: tb) B.pre
  have hk : ∀ w ∈ tb, w.before [.ref p0, .int a1].toArray s = true := fun w h => hts w (List.mem_cons_of_mem _ h)
  have hown : s.vm.findClass "SignMachine" = some m.cls := findClass_of_methodNamed B.named
  have hlocks := B.notSynchronized
  have hl := lv_entry ([.ref p0, .int a1]) (n := 2) (Nat.le_of_ble_eq_true rfl)
  rw [lg_entry_eq]
  generalize (lg_sl ([.ref p0, .int a1]) ++ List.replicate (2 - (lg_sl ([.ref p0, .int a1])).length) Slot.unset).toArray = ls at hl ⊢
  have hl : lv_has ls 2 [(0, .ref p0), (1, .int a1)] := hl
  refine lv_iload_n hx hb d_S_registerSign_0 rfl (lv_at hl 1 rfl) ?_
  refine cs_i (W.runS (As := [.int a1]) (rest := []) ⟨hx, hb, hml, hown, hk⟩ (c_M_isRegister l a1) (s_M_isRegister hk k_479 ⟨Nat.le_of_ble_eq_true rfl, Nat.le_of_ble_eq_true rfl⟩) ⟨fun a U g mk q => q, fun U hU hW => ⟨rfl, trivial⟩⟩ rfl rfl hl.1 rfl (lv_room (Nat.le_of_ble_eq_true rfl)) d_S_registerSign_1 ⟨Nat.le_of_ble_eq_true rfl, Nat.le_of_ble_eq_true rfl⟩) ?_
  refine lv_if_eq (tgt := 21) hx hb d_S_registerSign_4 (by decide) (fun c1 => ?_) (fun c1 => ?_)
  · refine lv_iconst (v := (-1)) hx hb d_S_registerSign_21 (by decide) ?_
    exact W.iret (v := (-1 : Int32)) hx hb hr (fun t ht hW => ⟨⟨(-1 : Int32), (), rfl, by unfold f_S_registerSign_1; simp only [if_pos c1], trivial⟩, hS.F ht⟩) hS.2.2 d_S_registerSign_22
  · refine lv_aload_n hx hb d_S_registerSign_7 rfl (lv_at hl 0 rfl) ?_
    refine va_get (D := D) (ci := 0) (v := .ref p1) (C := "SignMachine") (T := F_S) (N := 2) hx hb hk fi_S hown hK.1 hP 0 rfl rfl 0 (by decide) (hk _ k_210) (fun _ h9 => h9) rfl d_S_registerSign_8 ?_
    refine lv_iload_n hx hb d_S_registerSign_11 rfl (lv_at hl 1 rfl) ?_
    refine kn_i (va_runV (C := "SignMachine$Machine") (As := [.int a1]) (rest := []) ⟨hx, hb, hml, hown, hk⟩ (c_M_register_1 l D cI cJ cZ cB p0 p1 p2 p3 p4 p5 s.heap.size a1) (v_M_register_1 hk k_482 ⟨Nat.le_of_ble_eq_true rfl, Nat.le_of_ble_eq_true rfl⟩) (pM_v hK hP hD (ci := 1) (q0 := 1) rfl rfl rfl) rfl rfl hl.1 rfl (lv_room (Nat.le_of_ble_eq_true rfl)) d_S_registerSign_12 ⟨by decide, by decide⟩) hS hA hD (fun u t H locs ht hB hFr hS => ?_)
    obtain ⟨hP, hD⟩ := hB
    rw [ht] at hP
    have hD := dwk hD hFr
    clear ht hFr
    have hP : va_P D classes (wS10 cI cJ cZ cB p0 p1 p2 p3 p4 p5 (0 : Int32) (0 : Int32) (0 : Int32) (0 : Int32) (0 : Int32) (0 : Int32) (0 : Int32) (0 : Int32) (0 : Int32) (0 : Int32) (fun _ => 0) (fun _ => 0) (0 : Int32) (0 : Int32)) H := hP
    have hD : va_D A (wS10 cI cJ cZ cB p0 p1 p2 p3 p4 p5 (0 : Int32) (0 : Int32) (0 : Int32) (0 : Int32) (0 : Int32) (0 : Int32) (0 : Int32) (0 : Int32) (0 : Int32) (0 : Int32) (fun _ => 0) (fun _ => 0) (0 : Int32) (0 : Int32)) := hD
    refine cs_i (W.runS (As := [.int (f_M_register_1 a1)]) (rest := []) ⟨hx, hb, hml, hown, hk⟩ (c_W_sign l (f_M_register_1 a1)) (s_W_sign hk k_244 ⟨Nat.le_of_ble_eq_true rfl, Nat.le_of_ble_eq_true rfl⟩) ⟨fun a U g mk q => q, fun U hU hW => ⟨rfl, trivial⟩⟩ rfl rfl hl.1 rfl (lv_room (Nat.le_of_ble_eq_true rfl)) d_S_registerSign_15 ⟨Nat.le_of_ble_eq_true rfl, Nat.le_of_ble_eq_true rfl⟩) ?_
    refine lv_goto (tgt := 22) hx hb d_S_registerSign_18 (by decide) ?_
    exact W.iret (v := (f_W_sign (f_M_register_1 a1))) hx hb hr (fun t ht hW => ⟨⟨(f_W_sign (f_M_register_1 a1)), (), rfl, by unfold f_S_registerSign_1; simp only [if_neg c1], trivial⟩, hS.F ht⟩) hS.2.2 d_S_registerSign_22
theorem v_S_registerSign_1 {R : Room} {s : State} {args : Array Value} {own : String} {index : Nat} (hk : ∀ w ∈ tb, w.before args s = true) (hl : Cond.methodLink own index y_S_registerSign ∈ tb) (hR : 1 + 1 ≤ R.frames ∧ 8 + (2 + 11) + 21 ≤ R.locals) : CallW R s args own "SignMachine" index y_S_registerSign b_S_registerSign 2 (some .int) (.code y_S_registerSign b_S_registerSign 2 (some .int) :: tb) ({ frames := 1, cells := 0, slots := 0, locals := 21 }) 0 0 1 := mk_v 1 hk k_478 hl k_476 k_477 k_116 rfl rfl h_S_registerSign hR
def f_S_registerSize_1 (a1 : Int32) : Int32 := (if (bI (f_M_isRegister a1)) = (0 : Int32) then (-1 : Int32) else (f_W_size (f_M_register_1 a1)))
set_option maxHeartbeats 4000000 in
set_option maxRecDepth 100000 in
theorem c_S_registerSize_1 (l : Launch) (D : va_G) (cI cJ cZ cB : ClassId) (p0 p1 p2 p3 p4 p5 : Nat) (sz : Nat) (a1 : Int32) : Met l y_S_registerSize (.code y_S_registerSize b_S_registerSize 2 (some .int) :: tb) ({ frames := 1, cells := 0, slots := 0, locals := 21 }) (pM D cI cJ cZ cB (wS10 cI cJ cZ cB p0 p1 p2 p3 p4 p5 (0 : Int32) (0 : Int32) (0 : Int32) (0 : Int32) (0 : Int32) (0 : Int32) (0 : Int32) (0 : Int32) (0 : Int32) (0 : Int32) (fun _ => 0) (fun _ => 0) (0 : Int32) (0 : Int32)) sz [.ref p0, .int a1]) (va_Qi (fun r (_ : Unit) => r = (f_S_registerSize_1 a1)) (fun _ _ => True) (va_A (wS10 cI cJ cZ cB p0 p1 p2 p3 p4 p5 (0 : Int32) (0 : Int32) (0 : Int32) (0 : Int32) (0 : Int32) (0 : Int32) (0 : Int32) (0 : Int32) (0 : Int32) (0 : Int32) (fun _ => 0) (fun _ => 0) (0 : Int32) (0 : Int32)) sz)) 0 0 (va_A (wS10 cI cJ cZ cB p0 p1 p2 p3 p4 p5 (0 : Int32) (0 : Int32) (0 : Int32) (0 : Int32) (0 : Int32) (0 : Int32) (0 : Int32) (0 : Int32) (0 : Int32) (0 : Int32) (fun _ => 0) (fun _ => 0) (0 : Int32) (0 : Int32)) sz) := by
  refine Met.ofW (cc := b_S_registerSize) (maxL := 2) (ret := (some .int)) (by decide) rfl ?_
  intro p e s m args below meth c s₁ B hml hv
  obtain ⟨rfl, hsz, hK, hP, hD0⟩ := hv
  subst hsz
  have hD := hD0.self (sz := s.heap.size)
  generalize hAe : va_A (wS10 cI cJ cZ cB p0 p1 p2 p3 p4 p5 (0 : Int32) (0 : Int32) (0 : Int32) (0 : Int32) (0 : Int32) (0 : Int32) (0 : Int32) (0 : Int32) (0 : Int32) (0 : Int32) (fun _ => 0) (fun _ => 0) (0 : Int32) (0 : Int32)) s.heap.size = A at hD ⊢
  have hA : ∀ q : Nat, s.heap.size ≤ q → A q := fun q h => by rw [← hAe]; exact Or.inr h
  have hS : va_S A s.heap s.heap [] := va_S.rf
  have hx := B.exec
  have hb := B.bytes
  have hr := B.returns
  have hts := atoms_spec (ws := .code y_S_registerSize b_S_registerSize 2 (some .int) :: tb) B.pre
  have hk : ∀ w ∈ tb, w.before [.ref p0, .int a1].toArray s = true := fun w h => hts w (List.mem_cons_of_mem _ h)
  have hown : s.vm.findClass "SignMachine" = some m.cls := findClass_of_methodNamed B.named
  have hlocks := B.notSynchronized
  have hl := lv_entry ([.ref p0, .int a1]) (n := 2) (Nat.le_of_ble_eq_true rfl)
  rw [lg_entry_eq]
  generalize (lg_sl ([.ref p0, .int a1]) ++ List.replicate (2 - (lg_sl ([.ref p0, .int a1])).length) Slot.unset).toArray = ls at hl ⊢
  have hl : lv_has ls 2 [(0, .ref p0), (1, .int a1)] := hl
  refine lv_iload_n hx hb d_S_registerSize_0 rfl (lv_at hl 1 rfl) ?_
  refine cs_i (W.runS (As := [.int a1]) (rest := []) ⟨hx, hb, hml, hown, hk⟩ (c_M_isRegister l a1) (s_M_isRegister hk k_479 ⟨Nat.le_of_ble_eq_true rfl, Nat.le_of_ble_eq_true rfl⟩) ⟨fun a U g mk q => q, fun U hU hW => ⟨rfl, trivial⟩⟩ rfl rfl hl.1 rfl (lv_room (Nat.le_of_ble_eq_true rfl)) d_S_registerSize_1 ⟨Nat.le_of_ble_eq_true rfl, Nat.le_of_ble_eq_true rfl⟩) ?_
  refine lv_if_eq (tgt := 21) hx hb d_S_registerSize_4 (by decide) (fun c1 => ?_) (fun c1 => ?_)
  · refine lv_iconst (v := (-1)) hx hb d_S_registerSize_21 (by decide) ?_
    exact W.iret (v := (-1 : Int32)) hx hb hr (fun t ht hW => ⟨⟨(-1 : Int32), (), rfl, by unfold f_S_registerSize_1; simp only [if_pos c1], trivial⟩, hS.F ht⟩) hS.2.2 d_S_registerSize_22
  · refine lv_aload_n hx hb d_S_registerSize_7 rfl (lv_at hl 0 rfl) ?_
    refine va_get (D := D) (ci := 0) (v := .ref p1) (C := "SignMachine") (T := F_S) (N := 2) hx hb hk fi_S hown hK.1 hP 0 rfl rfl 0 (by decide) (hk _ k_210) (fun _ h9 => h9) rfl d_S_registerSize_8 ?_
    refine lv_iload_n hx hb d_S_registerSize_11 rfl (lv_at hl 1 rfl) ?_
    refine kn_i (va_runV (C := "SignMachine$Machine") (As := [.int a1]) (rest := []) ⟨hx, hb, hml, hown, hk⟩ (c_M_register_1 l D cI cJ cZ cB p0 p1 p2 p3 p4 p5 s.heap.size a1) (v_M_register_1 hk k_482 ⟨Nat.le_of_ble_eq_true rfl, Nat.le_of_ble_eq_true rfl⟩) (pM_v hK hP hD (ci := 1) (q0 := 1) rfl rfl rfl) rfl rfl hl.1 rfl (lv_room (Nat.le_of_ble_eq_true rfl)) d_S_registerSize_12 ⟨by decide, by decide⟩) hS hA hD (fun u t H locs ht hB hFr hS => ?_)
    obtain ⟨hP, hD⟩ := hB
    rw [ht] at hP
    have hD := dwk hD hFr
    clear ht hFr
    have hP : va_P D classes (wS10 cI cJ cZ cB p0 p1 p2 p3 p4 p5 (0 : Int32) (0 : Int32) (0 : Int32) (0 : Int32) (0 : Int32) (0 : Int32) (0 : Int32) (0 : Int32) (0 : Int32) (0 : Int32) (fun _ => 0) (fun _ => 0) (0 : Int32) (0 : Int32)) H := hP
    have hD : va_D A (wS10 cI cJ cZ cB p0 p1 p2 p3 p4 p5 (0 : Int32) (0 : Int32) (0 : Int32) (0 : Int32) (0 : Int32) (0 : Int32) (0 : Int32) (0 : Int32) (0 : Int32) (0 : Int32) (fun _ => 0) (fun _ => 0) (0 : Int32) (0 : Int32)) := hD
    refine cs_i (W.runS (As := [.int (f_M_register_1 a1)]) (rest := []) ⟨hx, hb, hml, hown, hk⟩ (c_W_size l (f_M_register_1 a1)) (s_W_size hk k_251 ⟨Nat.le_of_ble_eq_true rfl, Nat.le_of_ble_eq_true rfl⟩) ⟨fun a U g mk q => q, fun U hU hW => ⟨rfl, trivial⟩⟩ rfl rfl hl.1 rfl (lv_room (Nat.le_of_ble_eq_true rfl)) d_S_registerSize_15 ⟨Nat.le_of_ble_eq_true rfl, Nat.le_of_ble_eq_true rfl⟩) ?_
    refine lv_goto (tgt := 22) hx hb d_S_registerSize_18 (by decide) ?_
    exact W.iret (v := (f_W_size (f_M_register_1 a1))) hx hb hr (fun t ht hW => ⟨⟨(f_W_size (f_M_register_1 a1)), (), rfl, by unfold f_S_registerSize_1; simp only [if_neg c1], trivial⟩, hS.F ht⟩) hS.2.2 d_S_registerSize_22
theorem v_S_registerSize_1 {R : Room} {s : State} {args : Array Value} {own : String} {index : Nat} (hk : ∀ w ∈ tb, w.before args s = true) (hl : Cond.methodLink own index y_S_registerSize ∈ tb) (hR : 1 + 1 ≤ R.frames ∧ 8 + (2 + 11) + 21 ≤ R.locals) : CallW R s args own "SignMachine" index y_S_registerSize b_S_registerSize 2 (some .int) (.code y_S_registerSize b_S_registerSize 2 (some .int) :: tb) ({ frames := 1, cells := 0, slots := 0, locals := 21 }) 0 0 1 := mk_v 1 hk k_486 hl k_484 k_485 k_116 rfl rfl h_S_registerSize hR
def f_M_putRegister_1_y3 (a1 : Int32) (a2 : Int32) : Nat → Int32 := (if a1 < (0 : Int32) then (fun _ => 0) else (if (9 : Int32) ≤ a1 then (fun _ => 0) else (upd (fun _ => 0) (a1).toNatClampNeg a2)))
set_option maxHeartbeats 4000000 in
set_option maxRecDepth 100000 in
theorem c_M_putRegister_1 (l : Launch) (D : va_G) (cI cJ cZ cB : ClassId) (p0 p1 p2 p3 p4 p5 : Nat) (sz : Nat) (a1 : Int32) (a2 : Int32) : Met l y_M_putRegister (.code y_M_putRegister b_M_putRegister 3 none :: tb) ({ frames := 0, cells := 0, slots := 0, locals := 0 }) (pM D cI cJ cZ cB (wS10 cI cJ cZ cB p0 p1 p2 p3 p4 p5 (0 : Int32) (0 : Int32) (0 : Int32) (0 : Int32) (0 : Int32) (0 : Int32) (0 : Int32) (0 : Int32) (0 : Int32) (0 : Int32) (fun _ => 0) (fun _ => 0) (0 : Int32) (0 : Int32)) sz [.ref p1, .int a1, .int a2]) (va_Qv (fun (_ : Unit) => True) (fun _ t => va_P D classes (wS10 cI cJ cZ cB p0 p1 p2 p3 p4 p5 (0 : Int32) (0 : Int32) (0 : Int32) (0 : Int32) (0 : Int32) (0 : Int32) (0 : Int32) (0 : Int32) (0 : Int32) (0 : Int32) (fun _ => 0) (f_M_putRegister_1_y3 a1 a2) (0 : Int32) (0 : Int32)) t.heap ∧ va_D (va_A (wS10 cI cJ cZ cB p0 p1 p2 p3 p4 p5 (0 : Int32) (0 : Int32) (0 : Int32) (0 : Int32) (0 : Int32) (0 : Int32) (0 : Int32) (0 : Int32) (0 : Int32) (0 : Int32) (fun _ => 0) (fun _ => 0) (0 : Int32) (0 : Int32)) sz) (wS10 cI cJ cZ cB p0 p1 p2 p3 p4 p5 (0 : Int32) (0 : Int32) (0 : Int32) (0 : Int32) (0 : Int32) (0 : Int32) (0 : Int32) (0 : Int32) (0 : Int32) (0 : Int32) (fun _ => 0) (f_M_putRegister_1_y3 a1 a2) (0 : Int32) (0 : Int32))) (va_A (wS10 cI cJ cZ cB p0 p1 p2 p3 p4 p5 (0 : Int32) (0 : Int32) (0 : Int32) (0 : Int32) (0 : Int32) (0 : Int32) (0 : Int32) (0 : Int32) (0 : Int32) (0 : Int32) (fun _ => 0) (fun _ => 0) (0 : Int32) (0 : Int32)) sz)) 0 0 (va_A (wS10 cI cJ cZ cB p0 p1 p2 p3 p4 p5 (0 : Int32) (0 : Int32) (0 : Int32) (0 : Int32) (0 : Int32) (0 : Int32) (0 : Int32) (0 : Int32) (0 : Int32) (0 : Int32) (fun _ => 0) (fun _ => 0) (0 : Int32) (0 : Int32)) sz) := by
  refine Met.ofW (cc := b_M_putRegister) (maxL := 3) (ret := none) (by decide) rfl ?_
  intro p e s m args below meth c s₁ B hml hv
  obtain ⟨rfl, hsz, hK, hP, hD0⟩ := hv
  subst hsz
  have hD := hD0.self (sz := s.heap.size)
  generalize hAe : va_A (wS10 cI cJ cZ cB p0 p1 p2 p3 p4 p5 (0 : Int32) (0 : Int32) (0 : Int32) (0 : Int32) (0 : Int32) (0 : Int32) (0 : Int32) (0 : Int32) (0 : Int32) (0 : Int32) (fun _ => 0) (fun _ => 0) (0 : Int32) (0 : Int32)) s.heap.size = A at hD ⊢
  have hA : ∀ q : Nat, s.heap.size ≤ q → A q := fun q h => by rw [← hAe]; exact Or.inr h
  have hS : va_S A s.heap s.heap [] := va_S.rf
  have hx := B.exec
  have hb := B.bytes
  have hr := B.returns
  have hts := atoms_spec (ws := .code y_M_putRegister b_M_putRegister 3 none :: tb) B.pre
  have hk : ∀ w ∈ tb, w.before [.ref p1, .int a1, .int a2].toArray s = true := fun w h => hts w (List.mem_cons_of_mem _ h)
  have hown : s.vm.findClass "SignMachine$Machine" = some m.cls := findClass_of_methodNamed B.named
  have hlocks := B.notSynchronized
  have hl := lv_entry ([.ref p1, .int a1, .int a2]) (n := 3) (Nat.le_of_ble_eq_true rfl)
  rw [lg_entry_eq]
  generalize (lg_sl ([.ref p1, .int a1, .int a2]) ++ List.replicate (3 - (lg_sl ([.ref p1, .int a1, .int a2])).length) Slot.unset).toArray = ls at hl ⊢
  have hl : lv_has ls 3 [(0, .ref p1), (1, .int a1), (2, .int a2)] := hl
  refine lv_iload_n hx hb d_M_putRegister_0 rfl (lv_at hl 1 rfl) ?_
  refine lv_if_lt (tgt := 17) hx hb d_M_putRegister_1 (by decide) (fun c1 => ?_) (fun c1 => ?_)
  · exact W.vret hx hb hr (fun t ht hW => ⟨⟨(), rfl, trivial, by show va_P D classes _ t.heap; rw [ht, show f_M_putRegister_1_y3 a1 a2 = (fun _ => 0) from by unfold f_M_putRegister_1_y3; simp only [if_pos c1]]; exact hP, by rw [show f_M_putRegister_1_y3 a1 a2 = (fun _ => 0) from by unfold f_M_putRegister_1_y3; simp only [if_pos c1]]; exact hD⟩, hS.F ht⟩) hS.2.2 d_M_putRegister_17
  · refine lv_iload_n hx hb d_M_putRegister_4 rfl (lv_at hl 1 rfl) ?_
    refine lv_bipush (v := 9) hx hb d_M_putRegister_5 (by decide) ?_
    refine lv_icmp_ge (tgt := 17) hx hb d_M_putRegister_7 (by decide) (fun c2 => ?_) (fun c2 => ?_)
    · exact W.vret hx hb hr (fun t ht hW => ⟨⟨(), rfl, trivial, by show va_P D classes _ t.heap; rw [ht, show f_M_putRegister_1_y3 a1 a2 = (fun _ => 0) from by unfold f_M_putRegister_1_y3; simp only [if_neg c1, if_pos c2]]; exact hP, by rw [show f_M_putRegister_1_y3 a1 a2 = (fun _ => 0) from by unfold f_M_putRegister_1_y3; simp only [if_neg c1, if_pos c2]]; exact hD⟩, hS.F ht⟩) hS.2.2 d_M_putRegister_17
    · refine lv_aload_n hx hb d_M_putRegister_10 rfl (lv_at hl 0 rfl) ?_
      refine va_get (D := D) (ci := 1) (v := .ref p3) (C := "SignMachine$Machine") (T := F_M) (N := 14) hx hb hk fi_M hown hK.1 hP 1 rfl rfl 1 (by decide) (hk _ k_164) (fun _ h9 => h9) rfl d_M_putRegister_11 ?_
      refine lv_iload_n hx hb d_M_putRegister_14 rfl (lv_at hl 1 rfl) ?_
      refine lv_iload_n hx hb d_M_putRegister_15 rfl (lv_at hl 2 rfl) ?_
      refine va_iast hx hb hK.1 hP hD hS 3 0 rfl rfl (vpin c1 c2 rfl) d_M_putRegister_16 (fun H locs hP hD hS => ?_)
      have hP : va_P D classes (wS10 cI cJ cZ cB p0 p1 p2 p3 p4 p5 (0 : Int32) (0 : Int32) (0 : Int32) (0 : Int32) (0 : Int32) (0 : Int32) (0 : Int32) (0 : Int32) (0 : Int32) (0 : Int32) (fun _ => 0) (upd (fun _ => 0) (a1).toNatClampNeg a2) (0 : Int32) (0 : Int32)) H := hP
      have hD : va_D A (wS10 cI cJ cZ cB p0 p1 p2 p3 p4 p5 (0 : Int32) (0 : Int32) (0 : Int32) (0 : Int32) (0 : Int32) (0 : Int32) (0 : Int32) (0 : Int32) (0 : Int32) (0 : Int32) (fun _ => 0) (upd (fun _ => 0) (a1).toNatClampNeg a2) (0 : Int32) (0 : Int32)) := hD
      exact W.vret hx hb hr (fun t ht hW => ⟨⟨(), rfl, trivial, by show va_P D classes _ t.heap; rw [ht, show f_M_putRegister_1_y3 a1 a2 = (upd (fun _ => 0) (a1).toNatClampNeg a2) from by unfold f_M_putRegister_1_y3; simp only [if_neg c1, if_neg c2]]; exact hP, by rw [show f_M_putRegister_1_y3 a1 a2 = (upd (fun _ => 0) (a1).toNatClampNeg a2) from by unfold f_M_putRegister_1_y3; simp only [if_neg c1, if_neg c2]]; exact hD⟩, hS.F ht⟩) hS.2.2 d_M_putRegister_17
theorem v_M_putRegister_1 {R : Room} {s : State} {args : Array Value} {own : String} {index : Nat} (hk : ∀ w ∈ tb, w.before args s = true) (hl : Cond.methodLink own index y_M_putRegister ∈ tb) (hR : 0 + 1 ≤ R.frames ∧ 8 + (3 + 11) + 0 ≤ R.locals) : CallW R s args own "SignMachine$Machine" index y_M_putRegister b_M_putRegister 3 none (.code y_M_putRegister b_M_putRegister 3 none :: tb) ({ frames := 0, cells := 0, slots := 0, locals := 0 }) 0 0 2 := mk_v 2 hk k_365 hl k_363 k_364 k_117 rfl rfl h_M_putRegister hR
def f_S_set_1 (a1 : Int32) (a2 : Int32) (a3 : Int32) : Int32 := (if (bI (f_M_isRegister a1)) = (0 : Int32) then (0 : Int32) else (if (bI (f_W_isWord a2 a3)) = (0 : Int32) then (0 : Int32) else (if (bI (f_M_isShort a1)) = (0 : Int32) then (if a1 = (8 : Int32) then (if a2 = (0 : Int32) then (1 : Int32) else (0 : Int32)) else (1 : Int32)) else (if a3 ≤ (4095 : Int32) then (if a1 = (8 : Int32) then (if a2 = (0 : Int32) then (1 : Int32) else (0 : Int32)) else (1 : Int32)) else (0 : Int32)))))
set_option maxHeartbeats 4000000 in
set_option maxRecDepth 100000 in
theorem c_S_set_1 (l : Launch) (D : va_G) (cI cJ cZ cB : ClassId) (p0 p1 p2 p3 p4 p5 : Nat) (sz : Nat) (a1 : Int32) (a2 : Int32) (a3 : Int32) : Met l y_S_set (.code y_S_set b_S_set 4 (some .boolean) :: tb) ({ frames := 2, cells := 0, slots := 0, locals := 40 }) (pM D cI cJ cZ cB (wS10 cI cJ cZ cB p0 p1 p2 p3 p4 p5 (0 : Int32) (0 : Int32) (0 : Int32) (0 : Int32) (0 : Int32) (0 : Int32) (0 : Int32) (0 : Int32) (0 : Int32) (0 : Int32) (fun _ => 0) (fun _ => 0) (0 : Int32) (0 : Int32)) sz [.ref p0, .int a1, .int a2, .int a3]) (va_Qi (fun r (_ : Unit) => r = (f_S_set_1 a1 a2 a3)) (fun _ _ => True) (va_A (wS10 cI cJ cZ cB p0 p1 p2 p3 p4 p5 (0 : Int32) (0 : Int32) (0 : Int32) (0 : Int32) (0 : Int32) (0 : Int32) (0 : Int32) (0 : Int32) (0 : Int32) (0 : Int32) (fun _ => 0) (fun _ => 0) (0 : Int32) (0 : Int32)) sz)) 0 0 (va_A (wS10 cI cJ cZ cB p0 p1 p2 p3 p4 p5 (0 : Int32) (0 : Int32) (0 : Int32) (0 : Int32) (0 : Int32) (0 : Int32) (0 : Int32) (0 : Int32) (0 : Int32) (0 : Int32) (fun _ => 0) (fun _ => 0) (0 : Int32) (0 : Int32)) sz) := by
  refine Met.ofW (cc := b_S_set) (maxL := 4) (ret := (some .boolean)) (by decide) rfl ?_
  intro p e s m args below meth c s₁ B hml hv
  obtain ⟨rfl, hsz, hK, hP, hD0⟩ := hv
  subst hsz
  have hD := hD0.self (sz := s.heap.size)
  generalize hAe : va_A (wS10 cI cJ cZ cB p0 p1 p2 p3 p4 p5 (0 : Int32) (0 : Int32) (0 : Int32) (0 : Int32) (0 : Int32) (0 : Int32) (0 : Int32) (0 : Int32) (0 : Int32) (0 : Int32) (fun _ => 0) (fun _ => 0) (0 : Int32) (0 : Int32)) s.heap.size = A at hD ⊢
  have hA : ∀ q : Nat, s.heap.size ≤ q → A q := fun q h => by rw [← hAe]; exact Or.inr h
  have hS : va_S A s.heap s.heap [] := va_S.rf
  have hx := B.exec
  have hb := B.bytes
  have hr := B.returns
  have hts := atoms_spec (ws := .code y_S_set b_S_set 4 (some .boolean) :: tb) B.pre
  have hk : ∀ w ∈ tb, w.before [.ref p0, .int a1, .int a2, .int a3].toArray s = true := fun w h => hts w (List.mem_cons_of_mem _ h)
  have hown : s.vm.findClass "SignMachine" = some m.cls := findClass_of_methodNamed B.named
  have hlocks := B.notSynchronized
  have hl := lv_entry ([.ref p0, .int a1, .int a2, .int a3]) (n := 4) (Nat.le_of_ble_eq_true rfl)
  rw [lg_entry_eq]
  generalize (lg_sl ([.ref p0, .int a1, .int a2, .int a3]) ++ List.replicate (4 - (lg_sl ([.ref p0, .int a1, .int a2, .int a3])).length) Slot.unset).toArray = ls at hl ⊢
  have hl : lv_has ls 4 [(0, .ref p0), (1, .int a1), (2, .int a2), (3, .int a3)] := hl
  refine lv_iload_n hx hb d_S_set_0 rfl (lv_at hl 1 rfl) ?_
  refine cs_i (W.runS (As := [.int a1]) (rest := []) ⟨hx, hb, hml, hown, hk⟩ (c_M_isRegister l a1) (s_M_isRegister hk k_479 ⟨Nat.le_of_ble_eq_true rfl, Nat.le_of_ble_eq_true rfl⟩) ⟨fun a U g mk q => q, fun U hU hW => ⟨rfl, trivial⟩⟩ rfl rfl hl.1 rfl (lv_room (Nat.le_of_ble_eq_true rfl)) d_S_set_1 ⟨Nat.le_of_ble_eq_true rfl, Nat.le_of_ble_eq_true rfl⟩) ?_
  refine lv_if_eq (tgt := 15) hx hb d_S_set_4 (by decide) (fun c1 => ?_) (fun c1 => ?_)
  · refine lv_iconst (v := 0) hx hb d_S_set_15 (by decide) ?_
    exact W.zret (v := (0 : Int32)) hx hb hr rfl (fun t ht hW => ⟨⟨(0 : Int32), (), rfl, by unfold f_S_set_1; simp only [if_pos c1], trivial⟩, hS.F ht⟩) hS.2.2 d_S_set_16
  · refine lv_iload_n hx hb d_S_set_7 rfl (lv_at hl 2 rfl) ?_
    refine lv_iload_n hx hb d_S_set_8 rfl (lv_at hl 3 rfl) ?_
    refine cs_i (W.runS (As := [.int a2, .int a3]) (rest := []) ⟨hx, hb, hml, hown, hk⟩ (c_W_isWord l a2 a3) (s_W_isWord hk k_224 ⟨Nat.le_of_ble_eq_true rfl, Nat.le_of_ble_eq_true rfl⟩) ⟨fun a U g mk q => q, fun U hU hW => ⟨rfl, trivial⟩⟩ rfl rfl hl.1 rfl (lv_room (Nat.le_of_ble_eq_true rfl)) d_S_set_9 ⟨Nat.le_of_ble_eq_true rfl, Nat.le_of_ble_eq_true rfl⟩) ?_
    refine lv_if_ne (tgt := 17) hx hb d_S_set_12 (by decide) (fun c2 => ?_) (fun c2 => ?_)
    · refine lv_iload_n hx hb d_S_set_17 rfl (lv_at hl 1 rfl) ?_
      refine cs_i (W.runS (As := [.int a1]) (rest := []) ⟨hx, hb, hml, hown, hk⟩ (c_M_isShort l a1) (s_M_isShort hk k_491 ⟨Nat.le_of_ble_eq_true rfl, Nat.le_of_ble_eq_true rfl⟩) ⟨fun a U g mk q => q, fun U hU hW => ⟨rfl, trivial⟩⟩ rfl rfl hl.1 rfl (lv_room (Nat.le_of_ble_eq_true rfl)) d_S_set_18 ⟨Nat.le_of_ble_eq_true rfl, Nat.le_of_ble_eq_true rfl⟩) ?_
      refine lv_if_eq (tgt := 33) hx hb d_S_set_21 (by decide) (fun c3 => ?_) (fun c3 => ?_)
      · refine lv_iload_n hx hb d_S_set_33 rfl (lv_at hl 1 rfl) ?_
        refine lv_bipush (v := 8) hx hb d_S_set_34 (by decide) ?_
        refine lv_icmp_ne (tgt := 45) hx hb d_S_set_36 (by decide) (fun c4 => ?_) (fun c4 => ?_)
        · refine lv_aload_n hx hb d_S_set_45 rfl (lv_at hl 0 rfl) ?_
          refine va_get (D := D) (ci := 0) (v := .ref p1) (C := "SignMachine") (T := F_S) (N := 2) hx hb hk fi_S hown hK.1 hP 0 rfl rfl 0 (by decide) (hk _ k_210) (fun _ h9 => h9) rfl d_S_set_46 ?_
          refine lv_iload_n hx hb d_S_set_49 rfl (lv_at hl 1 rfl) ?_
          refine lv_iload_n hx hb d_S_set_50 rfl (lv_at hl 2 rfl) ?_
          refine lv_iload_n hx hb d_S_set_51 rfl (lv_at hl 3 rfl) ?_
          refine cs_i (W.runS (As := [.int a2, .int a3]) (rest := [.int a1, .ref p1]) ⟨hx, hb, hml, hown, hk⟩ (c_W_make l a2 a3) (s_W_make hk k_228 ⟨Nat.le_of_ble_eq_true rfl, Nat.le_of_ble_eq_true rfl⟩) ⟨fun a U g mk q => q, fun U hU hW => ⟨rfl, trivial⟩⟩ rfl rfl hl.1 rfl (lv_room (Nat.le_of_ble_eq_true rfl)) d_S_set_52 ⟨Nat.le_of_ble_eq_true rfl, Nat.le_of_ble_eq_true rfl⟩) ?_
          refine kn_v (va_runV (C := "SignMachine$Machine") (As := [.int a1, .int (f_W_make a2 a3)]) (rest := []) ⟨hx, hb, hml, hown, hk⟩ (c_M_putRegister_1 l D cI cJ cZ cB p0 p1 p2 p3 p4 p5 s.heap.size a1 (f_W_make a2 a3)) (v_M_putRegister_1 hk k_494 ⟨Nat.le_of_ble_eq_true rfl, Nat.le_of_ble_eq_true rfl⟩) (pM_v hK hP hD (ci := 1) (q0 := 1) rfl rfl rfl) rfl rfl hl.1 rfl (lv_room (Nat.le_of_ble_eq_true rfl)) d_S_set_55 ⟨by decide, by decide⟩) hS hA hD (fun u t H locs ht hB hFr hS => ?_)
          obtain ⟨hP, hD⟩ := hB
          rw [ht] at hP
          have hD := dwk hD hFr
          clear ht hFr
          have hP : va_P D classes (wS10 cI cJ cZ cB p0 p1 p2 p3 p4 p5 (0 : Int32) (0 : Int32) (0 : Int32) (0 : Int32) (0 : Int32) (0 : Int32) (0 : Int32) (0 : Int32) (0 : Int32) (0 : Int32) (fun _ => 0) (f_M_putRegister_1_y3 a1 (f_W_make a2 a3)) (0 : Int32) (0 : Int32)) H := hP
          have hD : va_D A (wS10 cI cJ cZ cB p0 p1 p2 p3 p4 p5 (0 : Int32) (0 : Int32) (0 : Int32) (0 : Int32) (0 : Int32) (0 : Int32) (0 : Int32) (0 : Int32) (0 : Int32) (0 : Int32) (fun _ => 0) (f_M_putRegister_1_y3 a1 (f_W_make a2 a3)) (0 : Int32) (0 : Int32)) := hD
          refine lv_iconst (v := 1) hx hb d_S_set_58 (by decide) ?_
          exact W.zret (v := (1 : Int32)) hx hb hr rfl (fun t ht hW => ⟨⟨(1 : Int32), (), rfl, by unfold f_S_set_1; simp only [if_neg c1, if_neg c2, if_pos c3, if_neg c4], trivial⟩, hS.F ht⟩) hS.2.2 d_S_set_59
        · refine lv_iload_n hx hb d_S_set_39 rfl (lv_at hl 2 rfl) ?_
          refine lv_if_eq (tgt := 45) hx hb d_S_set_40 (by decide) (fun c5 => ?_) (fun c5 => ?_)
          · refine lv_aload_n hx hb d_S_set_45 rfl (lv_at hl 0 rfl) ?_
            refine va_get (D := D) (ci := 0) (v := .ref p1) (C := "SignMachine") (T := F_S) (N := 2) hx hb hk fi_S hown hK.1 hP 0 rfl rfl 0 (by decide) (hk _ k_210) (fun _ h9 => h9) rfl d_S_set_46 ?_
            refine lv_iload_n hx hb d_S_set_49 rfl (lv_at hl 1 rfl) ?_
            refine lv_iload_n hx hb d_S_set_50 rfl (lv_at hl 2 rfl) ?_
            refine lv_iload_n hx hb d_S_set_51 rfl (lv_at hl 3 rfl) ?_
            refine cs_i (W.runS (As := [.int a2, .int a3]) (rest := [.int a1, .ref p1]) ⟨hx, hb, hml, hown, hk⟩ (c_W_make l a2 a3) (s_W_make hk k_228 ⟨Nat.le_of_ble_eq_true rfl, Nat.le_of_ble_eq_true rfl⟩) ⟨fun a U g mk q => q, fun U hU hW => ⟨rfl, trivial⟩⟩ rfl rfl hl.1 rfl (lv_room (Nat.le_of_ble_eq_true rfl)) d_S_set_52 ⟨Nat.le_of_ble_eq_true rfl, Nat.le_of_ble_eq_true rfl⟩) ?_
            refine kn_v (va_runV (C := "SignMachine$Machine") (As := [.int a1, .int (f_W_make a2 a3)]) (rest := []) ⟨hx, hb, hml, hown, hk⟩ (c_M_putRegister_1 l D cI cJ cZ cB p0 p1 p2 p3 p4 p5 s.heap.size a1 (f_W_make a2 a3)) (v_M_putRegister_1 hk k_494 ⟨Nat.le_of_ble_eq_true rfl, Nat.le_of_ble_eq_true rfl⟩) (pM_v hK hP hD (ci := 1) (q0 := 1) rfl rfl rfl) rfl rfl hl.1 rfl (lv_room (Nat.le_of_ble_eq_true rfl)) d_S_set_55 ⟨by decide, by decide⟩) hS hA hD (fun u t H locs ht hB hFr hS => ?_)
            obtain ⟨hP, hD⟩ := hB
            rw [ht] at hP
            have hD := dwk hD hFr
            clear ht hFr
            have hP : va_P D classes (wS10 cI cJ cZ cB p0 p1 p2 p3 p4 p5 (0 : Int32) (0 : Int32) (0 : Int32) (0 : Int32) (0 : Int32) (0 : Int32) (0 : Int32) (0 : Int32) (0 : Int32) (0 : Int32) (fun _ => 0) (f_M_putRegister_1_y3 a1 (f_W_make a2 a3)) (0 : Int32) (0 : Int32)) H := hP
            have hD : va_D A (wS10 cI cJ cZ cB p0 p1 p2 p3 p4 p5 (0 : Int32) (0 : Int32) (0 : Int32) (0 : Int32) (0 : Int32) (0 : Int32) (0 : Int32) (0 : Int32) (0 : Int32) (0 : Int32) (fun _ => 0) (f_M_putRegister_1_y3 a1 (f_W_make a2 a3)) (0 : Int32) (0 : Int32)) := hD
            refine lv_iconst (v := 1) hx hb d_S_set_58 (by decide) ?_
            exact W.zret (v := (1 : Int32)) hx hb hr rfl (fun t ht hW => ⟨⟨(1 : Int32), (), rfl, by unfold f_S_set_1; simp only [if_neg c1, if_neg c2, if_pos c3, if_pos c4, if_pos c5], trivial⟩, hS.F ht⟩) hS.2.2 d_S_set_59
          · refine lv_iconst (v := 0) hx hb d_S_set_43 (by decide) ?_
            exact W.zret (v := (0 : Int32)) hx hb hr rfl (fun t ht hW => ⟨⟨(0 : Int32), (), rfl, by unfold f_S_set_1; simp only [if_neg c1, if_neg c2, if_pos c3, if_pos c4, if_neg c5], trivial⟩, hS.F ht⟩) hS.2.2 d_S_set_44
      · refine lv_iload_n hx hb d_S_set_24 rfl (lv_at hl 3 rfl) ?_
        refine lv_sipush (v := 4095) hx hb d_S_set_25 (by decide) ?_
        refine lv_icmp_le (tgt := 33) hx hb d_S_set_28 (by decide) (fun c6 => ?_) (fun c6 => ?_)
        · refine lv_iload_n hx hb d_S_set_33 rfl (lv_at hl 1 rfl) ?_
          refine lv_bipush (v := 8) hx hb d_S_set_34 (by decide) ?_
          refine lv_icmp_ne (tgt := 45) hx hb d_S_set_36 (by decide) (fun c7 => ?_) (fun c7 => ?_)
          · refine lv_aload_n hx hb d_S_set_45 rfl (lv_at hl 0 rfl) ?_
            refine va_get (D := D) (ci := 0) (v := .ref p1) (C := "SignMachine") (T := F_S) (N := 2) hx hb hk fi_S hown hK.1 hP 0 rfl rfl 0 (by decide) (hk _ k_210) (fun _ h9 => h9) rfl d_S_set_46 ?_
            refine lv_iload_n hx hb d_S_set_49 rfl (lv_at hl 1 rfl) ?_
            refine lv_iload_n hx hb d_S_set_50 rfl (lv_at hl 2 rfl) ?_
            refine lv_iload_n hx hb d_S_set_51 rfl (lv_at hl 3 rfl) ?_
            refine cs_i (W.runS (As := [.int a2, .int a3]) (rest := [.int a1, .ref p1]) ⟨hx, hb, hml, hown, hk⟩ (c_W_make l a2 a3) (s_W_make hk k_228 ⟨Nat.le_of_ble_eq_true rfl, Nat.le_of_ble_eq_true rfl⟩) ⟨fun a U g mk q => q, fun U hU hW => ⟨rfl, trivial⟩⟩ rfl rfl hl.1 rfl (lv_room (Nat.le_of_ble_eq_true rfl)) d_S_set_52 ⟨Nat.le_of_ble_eq_true rfl, Nat.le_of_ble_eq_true rfl⟩) ?_
            refine kn_v (va_runV (C := "SignMachine$Machine") (As := [.int a1, .int (f_W_make a2 a3)]) (rest := []) ⟨hx, hb, hml, hown, hk⟩ (c_M_putRegister_1 l D cI cJ cZ cB p0 p1 p2 p3 p4 p5 s.heap.size a1 (f_W_make a2 a3)) (v_M_putRegister_1 hk k_494 ⟨Nat.le_of_ble_eq_true rfl, Nat.le_of_ble_eq_true rfl⟩) (pM_v hK hP hD (ci := 1) (q0 := 1) rfl rfl rfl) rfl rfl hl.1 rfl (lv_room (Nat.le_of_ble_eq_true rfl)) d_S_set_55 ⟨by decide, by decide⟩) hS hA hD (fun u t H locs ht hB hFr hS => ?_)
            obtain ⟨hP, hD⟩ := hB
            rw [ht] at hP
            have hD := dwk hD hFr
            clear ht hFr
            have hP : va_P D classes (wS10 cI cJ cZ cB p0 p1 p2 p3 p4 p5 (0 : Int32) (0 : Int32) (0 : Int32) (0 : Int32) (0 : Int32) (0 : Int32) (0 : Int32) (0 : Int32) (0 : Int32) (0 : Int32) (fun _ => 0) (f_M_putRegister_1_y3 a1 (f_W_make a2 a3)) (0 : Int32) (0 : Int32)) H := hP
            have hD : va_D A (wS10 cI cJ cZ cB p0 p1 p2 p3 p4 p5 (0 : Int32) (0 : Int32) (0 : Int32) (0 : Int32) (0 : Int32) (0 : Int32) (0 : Int32) (0 : Int32) (0 : Int32) (0 : Int32) (fun _ => 0) (f_M_putRegister_1_y3 a1 (f_W_make a2 a3)) (0 : Int32) (0 : Int32)) := hD
            refine lv_iconst (v := 1) hx hb d_S_set_58 (by decide) ?_
            exact W.zret (v := (1 : Int32)) hx hb hr rfl (fun t ht hW => ⟨⟨(1 : Int32), (), rfl, by unfold f_S_set_1; simp only [if_neg c1, if_neg c2, if_neg c3, if_pos c6, if_neg c7], trivial⟩, hS.F ht⟩) hS.2.2 d_S_set_59
          · refine lv_iload_n hx hb d_S_set_39 rfl (lv_at hl 2 rfl) ?_
            refine lv_if_eq (tgt := 45) hx hb d_S_set_40 (by decide) (fun c8 => ?_) (fun c8 => ?_)
            · refine lv_aload_n hx hb d_S_set_45 rfl (lv_at hl 0 rfl) ?_
              refine va_get (D := D) (ci := 0) (v := .ref p1) (C := "SignMachine") (T := F_S) (N := 2) hx hb hk fi_S hown hK.1 hP 0 rfl rfl 0 (by decide) (hk _ k_210) (fun _ h9 => h9) rfl d_S_set_46 ?_
              refine lv_iload_n hx hb d_S_set_49 rfl (lv_at hl 1 rfl) ?_
              refine lv_iload_n hx hb d_S_set_50 rfl (lv_at hl 2 rfl) ?_
              refine lv_iload_n hx hb d_S_set_51 rfl (lv_at hl 3 rfl) ?_
              refine cs_i (W.runS (As := [.int a2, .int a3]) (rest := [.int a1, .ref p1]) ⟨hx, hb, hml, hown, hk⟩ (c_W_make l a2 a3) (s_W_make hk k_228 ⟨Nat.le_of_ble_eq_true rfl, Nat.le_of_ble_eq_true rfl⟩) ⟨fun a U g mk q => q, fun U hU hW => ⟨rfl, trivial⟩⟩ rfl rfl hl.1 rfl (lv_room (Nat.le_of_ble_eq_true rfl)) d_S_set_52 ⟨Nat.le_of_ble_eq_true rfl, Nat.le_of_ble_eq_true rfl⟩) ?_
              refine kn_v (va_runV (C := "SignMachine$Machine") (As := [.int a1, .int (f_W_make a2 a3)]) (rest := []) ⟨hx, hb, hml, hown, hk⟩ (c_M_putRegister_1 l D cI cJ cZ cB p0 p1 p2 p3 p4 p5 s.heap.size a1 (f_W_make a2 a3)) (v_M_putRegister_1 hk k_494 ⟨Nat.le_of_ble_eq_true rfl, Nat.le_of_ble_eq_true rfl⟩) (pM_v hK hP hD (ci := 1) (q0 := 1) rfl rfl rfl) rfl rfl hl.1 rfl (lv_room (Nat.le_of_ble_eq_true rfl)) d_S_set_55 ⟨by decide, by decide⟩) hS hA hD (fun u t H locs ht hB hFr hS => ?_)
              obtain ⟨hP, hD⟩ := hB
              rw [ht] at hP
              have hD := dwk hD hFr
              clear ht hFr
              have hP : va_P D classes (wS10 cI cJ cZ cB p0 p1 p2 p3 p4 p5 (0 : Int32) (0 : Int32) (0 : Int32) (0 : Int32) (0 : Int32) (0 : Int32) (0 : Int32) (0 : Int32) (0 : Int32) (0 : Int32) (fun _ => 0) (f_M_putRegister_1_y3 a1 (f_W_make a2 a3)) (0 : Int32) (0 : Int32)) H := hP
              have hD : va_D A (wS10 cI cJ cZ cB p0 p1 p2 p3 p4 p5 (0 : Int32) (0 : Int32) (0 : Int32) (0 : Int32) (0 : Int32) (0 : Int32) (0 : Int32) (0 : Int32) (0 : Int32) (0 : Int32) (fun _ => 0) (f_M_putRegister_1_y3 a1 (f_W_make a2 a3)) (0 : Int32) (0 : Int32)) := hD
              refine lv_iconst (v := 1) hx hb d_S_set_58 (by decide) ?_
              exact W.zret (v := (1 : Int32)) hx hb hr rfl (fun t ht hW => ⟨⟨(1 : Int32), (), rfl, by unfold f_S_set_1; simp only [if_neg c1, if_neg c2, if_neg c3, if_pos c6, if_pos c7, if_pos c8], trivial⟩, hS.F ht⟩) hS.2.2 d_S_set_59
            · refine lv_iconst (v := 0) hx hb d_S_set_43 (by decide) ?_
              exact W.zret (v := (0 : Int32)) hx hb hr rfl (fun t ht hW => ⟨⟨(0 : Int32), (), rfl, by unfold f_S_set_1; simp only [if_neg c1, if_neg c2, if_neg c3, if_pos c6, if_pos c7, if_neg c8], trivial⟩, hS.F ht⟩) hS.2.2 d_S_set_44
        · refine lv_iconst (v := 0) hx hb d_S_set_31 (by decide) ?_
          exact W.zret (v := (0 : Int32)) hx hb hr rfl (fun t ht hW => ⟨⟨(0 : Int32), (), rfl, by unfold f_S_set_1; simp only [if_neg c1, if_neg c2, if_neg c3, if_neg c6], trivial⟩, hS.F ht⟩) hS.2.2 d_S_set_32
    · refine lv_iconst (v := 0) hx hb d_S_set_15 (by decide) ?_
      exact W.zret (v := (0 : Int32)) hx hb hr rfl (fun t ht hW => ⟨⟨(0 : Int32), (), rfl, by unfold f_S_set_1; simp only [if_neg c1, if_pos c2], trivial⟩, hS.F ht⟩) hS.2.2 d_S_set_16
theorem v_S_set_1 {R : Room} {s : State} {args : Array Value} {own : String} {index : Nat} (hk : ∀ w ∈ tb, w.before args s = true) (hl : Cond.methodLink own index y_S_set ∈ tb) (hR : 2 + 1 ≤ R.frames ∧ 8 + (4 + 11) + 40 ≤ R.locals) : CallW R s args own "SignMachine" index y_S_set b_S_set 4 (some .boolean) (.code y_S_set b_S_set 4 (some .boolean) :: tb) ({ frames := 2, cells := 0, slots := 0, locals := 40 }) 0 0 3 := mk_v 3 hk k_490 hl k_488 k_489 k_116 rfl rfl h_S_set hR
set_option maxHeartbeats 4000000 in
set_option maxRecDepth 100000 in
theorem c_M_unit_1 (l : Launch) (D : va_G) (cI cJ cZ cB : ClassId) (p0 p1 p2 p3 p4 p5 : Nat) (sz : Nat)  : Met l y_M_unit (.code y_M_unit b_M_unit 2 (some (.object "SignMachine$Tape")) :: tb) ({ frames := 0, cells := 0, slots := 0, locals := 0 }) (pM D cI cJ cZ cB (wS10 cI cJ cZ cB p0 p1 p2 p3 p4 p5 (0 : Int32) (0 : Int32) (0 : Int32) (0 : Int32) (0 : Int32) (0 : Int32) (0 : Int32) (0 : Int32) (0 : Int32) (0 : Int32) (fun _ => 0) (fun _ => 0) (0 : Int32) (0 : Int32)) sz [.ref p1, .int (0 : Int32)]) (va_Qr (fun (_ : Unit) => True) (fun u a t => match u with | _ => a = p4 ∧ va_P D classes (wS10 cI cJ cZ cB p0 p1 p2 p3 p4 p5 (0 : Int32) (0 : Int32) (0 : Int32) (0 : Int32) (0 : Int32) (0 : Int32) (0 : Int32) (0 : Int32) (0 : Int32) (0 : Int32) (fun _ => 0) (fun _ => 0) (0 : Int32) (0 : Int32)) t.heap ∧ va_D (va_A (wS10 cI cJ cZ cB p0 p1 p2 p3 p4 p5 (0 : Int32) (0 : Int32) (0 : Int32) (0 : Int32) (0 : Int32) (0 : Int32) (0 : Int32) (0 : Int32) (0 : Int32) (0 : Int32) (fun _ => 0) (fun _ => 0) (0 : Int32) (0 : Int32)) sz) (wS10 cI cJ cZ cB p0 p1 p2 p3 p4 p5 (0 : Int32) (0 : Int32) (0 : Int32) (0 : Int32) (0 : Int32) (0 : Int32) (0 : Int32) (0 : Int32) (0 : Int32) (0 : Int32) (fun _ => 0) (fun _ => 0) (0 : Int32) (0 : Int32))) (va_A (wS10 cI cJ cZ cB p0 p1 p2 p3 p4 p5 (0 : Int32) (0 : Int32) (0 : Int32) (0 : Int32) (0 : Int32) (0 : Int32) (0 : Int32) (0 : Int32) (0 : Int32) (0 : Int32) (fun _ => 0) (fun _ => 0) (0 : Int32) (0 : Int32)) sz)) 0 0 (va_A (wS10 cI cJ cZ cB p0 p1 p2 p3 p4 p5 (0 : Int32) (0 : Int32) (0 : Int32) (0 : Int32) (0 : Int32) (0 : Int32) (0 : Int32) (0 : Int32) (0 : Int32) (0 : Int32) (fun _ => 0) (fun _ => 0) (0 : Int32) (0 : Int32)) sz) := by
  refine Met.ofW (cc := b_M_unit) (maxL := 2) (ret := (some (.object "SignMachine$Tape"))) (by decide) rfl ?_
  intro p e s m args below meth c s₁ B hml hv
  obtain ⟨rfl, hsz, hK, hP, hD0⟩ := hv
  subst hsz
  have hD := hD0.self (sz := s.heap.size)
  generalize hAe : va_A (wS10 cI cJ cZ cB p0 p1 p2 p3 p4 p5 (0 : Int32) (0 : Int32) (0 : Int32) (0 : Int32) (0 : Int32) (0 : Int32) (0 : Int32) (0 : Int32) (0 : Int32) (0 : Int32) (fun _ => 0) (fun _ => 0) (0 : Int32) (0 : Int32)) s.heap.size = A at hD ⊢
  have hA : ∀ q : Nat, s.heap.size ≤ q → A q := fun q h => by rw [← hAe]; exact Or.inr h
  have hS : va_S A s.heap s.heap [] := va_S.rf
  have hx := B.exec
  have hb := B.bytes
  have hr := B.returns
  have hts := atoms_spec (ws := .code y_M_unit b_M_unit 2 (some (.object "SignMachine$Tape")) :: tb) B.pre
  have hk : ∀ w ∈ tb, w.before [.ref p1, .int (0 : Int32)].toArray s = true := fun w h => hts w (List.mem_cons_of_mem _ h)
  have hown : s.vm.findClass "SignMachine$Machine" = some m.cls := findClass_of_methodNamed B.named
  have hlocks := B.notSynchronized
  have hl := lv_entry ([.ref p1, .int (0 : Int32)]) (n := 2) (Nat.le_of_ble_eq_true rfl)
  rw [lg_entry_eq]
  generalize (lg_sl ([.ref p1, .int (0 : Int32)]) ++ List.replicate (2 - (lg_sl ([.ref p1, .int (0 : Int32)])).length) Slot.unset).toArray = ls at hl ⊢
  have hl : lv_has ls 2 [(0, .ref p1), (1, .int (0 : Int32))] := hl
  refine lv_iload_n hx hb d_M_unit_0 rfl (lv_at hl 1 rfl) ?_
  refine lv_if_ne (tgt := 11) hx hb d_M_unit_1 (by decide) (fun c1 => absurd (show (0 : Int32) = (0 : Int32) from (by decide)) c1) (fun c1 => ?_)
  refine lv_aload_n hx hb d_M_unit_4 rfl (lv_at hl 0 rfl) ?_
  refine va_get (D := D) (ci := 1) (v := .ref p4) (C := "SignMachine$Machine") (T := F_M) (N := 14) hx hb hk fi_M hown hK.1 hP 1 rfl rfl 2 (by decide) (hk _ k_165) (fun _ h9 => h9) rfl d_M_unit_5 ?_
  refine lv_goto (tgt := 15) hx hb d_M_unit_8 (by decide) ?_
  exact W.aret (v := .ref p4) hx hb hr (Or.inl ⟨_, rfl⟩) (Or.inr ⟨_, rfl⟩) (fun t ht hW => ⟨⟨(), p4, rfl, trivial, rfl, by show va_P D classes _ t.heap; rw [ht]; exact hP, hD⟩, hS.F ht⟩) hS.2.2 d_M_unit_15
theorem v_M_unit_1 {R : Room} {s : State} {args : Array Value} {own : String} {index : Nat} (hk : ∀ w ∈ tb, w.before args s = true) (hl : Cond.methodLink own index y_M_unit ∈ tb) (hR : 0 + 1 ≤ R.frames ∧ 8 + (2 + 11) + 0 ≤ R.locals) : CallW R s args own "SignMachine$Machine" index y_M_unit b_M_unit 2 (some (.object "SignMachine$Tape")) (.code y_M_unit b_M_unit 2 (some (.object "SignMachine$Tape")) :: tb) ({ frames := 0, cells := 0, slots := 0, locals := 0 }) 0 0 1 := mk_v 1 hk k_340 hl k_338 k_339 k_117 rfl rfl h_M_unit hR
set_option maxHeartbeats 4000000 in
set_option maxRecDepth 100000 in
theorem c_M_unit_2 (l : Launch) (D : va_G) (cI cJ cZ cB : ClassId) (p0 p1 p2 p3 p4 p5 : Nat) (sz : Nat)  : Met l y_M_unit (.code y_M_unit b_M_unit 2 (some (.object "SignMachine$Tape")) :: tb) ({ frames := 0, cells := 0, slots := 0, locals := 0 }) (pM D cI cJ cZ cB (wS10 cI cJ cZ cB p0 p1 p2 p3 p4 p5 (0 : Int32) (0 : Int32) (0 : Int32) (0 : Int32) (0 : Int32) (0 : Int32) (0 : Int32) (0 : Int32) (0 : Int32) (0 : Int32) (fun _ => 0) (fun _ => 0) (0 : Int32) (0 : Int32)) sz [.ref p1, .int (1 : Int32)]) (va_Qr (fun (_ : Unit) => True) (fun u a t => match u with | _ => a = p5 ∧ va_P D classes (wS10 cI cJ cZ cB p0 p1 p2 p3 p4 p5 (0 : Int32) (0 : Int32) (0 : Int32) (0 : Int32) (0 : Int32) (0 : Int32) (0 : Int32) (0 : Int32) (0 : Int32) (0 : Int32) (fun _ => 0) (fun _ => 0) (0 : Int32) (0 : Int32)) t.heap ∧ va_D (va_A (wS10 cI cJ cZ cB p0 p1 p2 p3 p4 p5 (0 : Int32) (0 : Int32) (0 : Int32) (0 : Int32) (0 : Int32) (0 : Int32) (0 : Int32) (0 : Int32) (0 : Int32) (0 : Int32) (fun _ => 0) (fun _ => 0) (0 : Int32) (0 : Int32)) sz) (wS10 cI cJ cZ cB p0 p1 p2 p3 p4 p5 (0 : Int32) (0 : Int32) (0 : Int32) (0 : Int32) (0 : Int32) (0 : Int32) (0 : Int32) (0 : Int32) (0 : Int32) (0 : Int32) (fun _ => 0) (fun _ => 0) (0 : Int32) (0 : Int32))) (va_A (wS10 cI cJ cZ cB p0 p1 p2 p3 p4 p5 (0 : Int32) (0 : Int32) (0 : Int32) (0 : Int32) (0 : Int32) (0 : Int32) (0 : Int32) (0 : Int32) (0 : Int32) (0 : Int32) (fun _ => 0) (fun _ => 0) (0 : Int32) (0 : Int32)) sz)) 0 0 (va_A (wS10 cI cJ cZ cB p0 p1 p2 p3 p4 p5 (0 : Int32) (0 : Int32) (0 : Int32) (0 : Int32) (0 : Int32) (0 : Int32) (0 : Int32) (0 : Int32) (0 : Int32) (0 : Int32) (fun _ => 0) (fun _ => 0) (0 : Int32) (0 : Int32)) sz) := by
  refine Met.ofW (cc := b_M_unit) (maxL := 2) (ret := (some (.object "SignMachine$Tape"))) (by decide) rfl ?_
  intro p e s m args below meth c s₁ B hml hv
  obtain ⟨rfl, hsz, hK, hP, hD0⟩ := hv
  subst hsz
  have hD := hD0.self (sz := s.heap.size)
  generalize hAe : va_A (wS10 cI cJ cZ cB p0 p1 p2 p3 p4 p5 (0 : Int32) (0 : Int32) (0 : Int32) (0 : Int32) (0 : Int32) (0 : Int32) (0 : Int32) (0 : Int32) (0 : Int32) (0 : Int32) (fun _ => 0) (fun _ => 0) (0 : Int32) (0 : Int32)) s.heap.size = A at hD ⊢
  have hA : ∀ q : Nat, s.heap.size ≤ q → A q := fun q h => by rw [← hAe]; exact Or.inr h
  have hS : va_S A s.heap s.heap [] := va_S.rf
  have hx := B.exec
  have hb := B.bytes
  have hr := B.returns
  have hts := atoms_spec (ws := .code y_M_unit b_M_unit 2 (some (.object "SignMachine$Tape")) :: tb) B.pre
  have hk : ∀ w ∈ tb, w.before [.ref p1, .int (1 : Int32)].toArray s = true := fun w h => hts w (List.mem_cons_of_mem _ h)
  have hown : s.vm.findClass "SignMachine$Machine" = some m.cls := findClass_of_methodNamed B.named
  have hlocks := B.notSynchronized
  have hl := lv_entry ([.ref p1, .int (1 : Int32)]) (n := 2) (Nat.le_of_ble_eq_true rfl)
  rw [lg_entry_eq]
  generalize (lg_sl ([.ref p1, .int (1 : Int32)]) ++ List.replicate (2 - (lg_sl ([.ref p1, .int (1 : Int32)])).length) Slot.unset).toArray = ls at hl ⊢
  have hl : lv_has ls 2 [(0, .ref p1), (1, .int (1 : Int32))] := hl
  refine lv_iload_n hx hb d_M_unit_0 rfl (lv_at hl 1 rfl) ?_
  refine lv_if_ne (tgt := 11) hx hb d_M_unit_1 (by decide) (fun c1 => ?_) (fun c1 => absurd c1 (show ¬ (1 : Int32) = (0 : Int32) from (by decide)))
  refine lv_aload_n hx hb d_M_unit_11 rfl (lv_at hl 0 rfl) ?_
  refine va_get (D := D) (ci := 1) (v := .ref p5) (C := "SignMachine$Machine") (T := F_M) (N := 14) hx hb hk fi_M hown hK.1 hP 1 rfl rfl 3 (by decide) (hk _ k_166) (fun _ h9 => h9) rfl d_M_unit_12 ?_
  exact W.aret (v := .ref p5) hx hb hr (Or.inl ⟨_, rfl⟩) (Or.inr ⟨_, rfl⟩) (fun t ht hW => ⟨⟨(), p5, rfl, trivial, rfl, by show va_P D classes _ t.heap; rw [ht]; exact hP, hD⟩, hS.F ht⟩) hS.2.2 d_M_unit_15
theorem v_M_unit_2 {R : Room} {s : State} {args : Array Value} {own : String} {index : Nat} (hk : ∀ w ∈ tb, w.before args s = true) (hl : Cond.methodLink own index y_M_unit ∈ tb) (hR : 0 + 1 ≤ R.frames ∧ 8 + (2 + 11) + 0 ≤ R.locals) : CallW R s args own "SignMachine$Machine" index y_M_unit b_M_unit 2 (some (.object "SignMachine$Tape")) (.code y_M_unit b_M_unit 2 (some (.object "SignMachine$Tape")) :: tb) ({ frames := 0, cells := 0, slots := 0, locals := 0 }) 0 0 1 := mk_v 1 hk k_340 hl k_338 k_339 k_117 rfl rfl h_M_unit hR
def f_S_state_1 (a1 : Int32) : Int32 := (if a1 = (0 : Int32) then (0 : Int32) else (if a1 = (1 : Int32) then (0 : Int32) else (if a1 = (2 : Int32) then (0 : Int32) else (if a1 = (3 : Int32) then (0 : Int32) else (if a1 = (4 : Int32) then (0 : Int32) else (if a1 = (5 : Int32) then (0 : Int32) else (if a1 = (6 : Int32) then (0 : Int32) else (-2 : Int32))))))))
set_option maxHeartbeats 4000000 in
set_option maxRecDepth 100000 in
theorem c_S_state_1 (l : Launch) (D : va_G) (cI cJ cZ cB : ClassId) (p0 p1 p2 p3 p4 p5 : Nat) (sz : Nat) (a1 : Int32) : Met l y_S_state (.code y_S_state b_S_state 2 (some .int) :: tb) ({ frames := 1, cells := 0, slots := 0, locals := 21 }) (pM D cI cJ cZ cB (wS10 cI cJ cZ cB p0 p1 p2 p3 p4 p5 (0 : Int32) (0 : Int32) (0 : Int32) (0 : Int32) (0 : Int32) (0 : Int32) (0 : Int32) (0 : Int32) (0 : Int32) (0 : Int32) (fun _ => 0) (fun _ => 0) (0 : Int32) (0 : Int32)) sz [.ref p0, .int a1]) (va_Qi (fun r (_ : Unit) => r = (f_S_state_1 a1)) (fun _ _ => True) (va_A (wS10 cI cJ cZ cB p0 p1 p2 p3 p4 p5 (0 : Int32) (0 : Int32) (0 : Int32) (0 : Int32) (0 : Int32) (0 : Int32) (0 : Int32) (0 : Int32) (0 : Int32) (0 : Int32) (fun _ => 0) (fun _ => 0) (0 : Int32) (0 : Int32)) sz)) 0 0 (va_A (wS10 cI cJ cZ cB p0 p1 p2 p3 p4 p5 (0 : Int32) (0 : Int32) (0 : Int32) (0 : Int32) (0 : Int32) (0 : Int32) (0 : Int32) (0 : Int32) (0 : Int32) (0 : Int32) (fun _ => 0) (fun _ => 0) (0 : Int32) (0 : Int32)) sz) := by
  refine Met.ofW (cc := b_S_state) (maxL := 2) (ret := (some .int)) (by decide) rfl ?_
  intro p e s m args below meth c s₁ B hml hv
  obtain ⟨rfl, hsz, hK, hP, hD0⟩ := hv
  subst hsz
  have hD := hD0.self (sz := s.heap.size)
  generalize hAe : va_A (wS10 cI cJ cZ cB p0 p1 p2 p3 p4 p5 (0 : Int32) (0 : Int32) (0 : Int32) (0 : Int32) (0 : Int32) (0 : Int32) (0 : Int32) (0 : Int32) (0 : Int32) (0 : Int32) (fun _ => 0) (fun _ => 0) (0 : Int32) (0 : Int32)) s.heap.size = A at hD ⊢
  have hA : ∀ q : Nat, s.heap.size ≤ q → A q := fun q h => by rw [← hAe]; exact Or.inr h
  have hS : va_S A s.heap s.heap [] := va_S.rf
  have hx := B.exec
  have hb := B.bytes
  have hr := B.returns
  have hts := atoms_spec (ws := .code y_S_state b_S_state 2 (some .int) :: tb) B.pre
  have hk : ∀ w ∈ tb, w.before [.ref p0, .int a1].toArray s = true := fun w h => hts w (List.mem_cons_of_mem _ h)
  have hown : s.vm.findClass "SignMachine" = some m.cls := findClass_of_methodNamed B.named
  have hlocks := B.notSynchronized
  have hl := lv_entry ([.ref p0, .int a1]) (n := 2) (Nat.le_of_ble_eq_true rfl)
  rw [lg_entry_eq]
  generalize (lg_sl ([.ref p0, .int a1]) ++ List.replicate (2 - (lg_sl ([.ref p0, .int a1])).length) Slot.unset).toArray = ls at hl ⊢
  have hl : lv_has ls 2 [(0, .ref p0), (1, .int a1)] := hl
  refine lv_iload_n hx hb d_S_state_0 rfl (lv_at hl 1 rfl) ?_
  by_cases c1 : a1 = (0 : Int32)
  · refine lv_tableIn (off := 43) (tgt := 44) hx hb d_S_state_1 (by rw [c1]; decide) (by rw [c1]; decide) (by rw [c1]; rfl) (by decide) ?_
    refine lv_aload_n hx hb d_S_state_44 rfl (lv_at hl 0 rfl) ?_
    refine va_get (D := D) (ci := 0) (v := .ref p1) (C := "SignMachine") (T := F_S) (N := 2) hx hb hk fi_S hown hK.1 hP 0 rfl rfl 0 (by decide) (hk _ k_210) (fun _ h9 => h9) rfl d_S_state_45 ?_
    refine va_getN (D := D) (ci := 1) (v := .int (0 : Int32)) (C := "SignMachine$Machine") (T := F_M) (N := 14) hx hb hk fi_M hown hK.1 hP 1 rfl rfl 7 (by decide) (va_Nw.use rfl (hK.2 _ n_173)) (fun _ h9 => h9) rfl d_S_state_48 ?_
    exact W.iret (v := (0 : Int32)) hx hb hr (fun t ht hW => ⟨⟨(0 : Int32), (), rfl, by unfold f_S_state_1; simp only [if_pos c1], trivial⟩, hS.F ht⟩) hS.2.2 d_S_state_51
  · by_cases c2 : a1 = (1 : Int32)
    · refine lv_tableIn (off := 51) (tgt := 52) hx hb d_S_state_1 (by rw [c2]; decide) (by rw [c2]; decide) (by rw [c2]; rfl) (by decide) ?_
      refine lv_aload_n hx hb d_S_state_52 rfl (lv_at hl 0 rfl) ?_
      refine va_get (D := D) (ci := 0) (v := .ref p1) (C := "SignMachine") (T := F_S) (N := 2) hx hb hk fi_S hown hK.1 hP 0 rfl rfl 0 (by decide) (hk _ k_210) (fun _ h9 => h9) rfl d_S_state_53 ?_
      refine va_getN (D := D) (ci := 1) (v := .int (0 : Int32)) (C := "SignMachine$Machine") (T := F_M) (N := 14) hx hb hk fi_M hown hK.1 hP 1 rfl rfl 4 (by decide) (va_Nw.use rfl (hK.2 _ n_167)) (fun _ h9 => h9) rfl d_S_state_56 ?_
      refine lv_if_eq (tgt := 66) hx hb d_S_state_59 (by decide) (fun c3 => ?_) (fun c3 => absurd (show (0 : Int32) = (0 : Int32) from (by decide)) c3)
      refine lv_iconst (v := 0) hx hb d_S_state_66 (by decide) ?_
      exact W.iret (v := (0 : Int32)) hx hb hr (fun t ht hW => ⟨⟨(0 : Int32), (), rfl, by unfold f_S_state_1; simp only [if_neg c1, if_pos c2], trivial⟩, hS.F ht⟩) hS.2.2 d_S_state_67
    · by_cases c4 : a1 = (2 : Int32)
      · refine lv_tableIn (off := 67) (tgt := 68) hx hb d_S_state_1 (by rw [c4]; decide) (by rw [c4]; decide) (by rw [c4]; rfl) (by decide) ?_
        refine lv_aload_n hx hb d_S_state_68 rfl (lv_at hl 0 rfl) ?_
        refine va_get (D := D) (ci := 0) (v := .ref p1) (C := "SignMachine") (T := F_S) (N := 2) hx hb hk fi_S hown hK.1 hP 0 rfl rfl 0 (by decide) (hk _ k_210) (fun _ h9 => h9) rfl d_S_state_69 ?_
        refine va_getN (D := D) (ci := 1) (v := .int (0 : Int32)) (C := "SignMachine$Machine") (T := F_M) (N := 14) hx hb hk fi_M hown hK.1 hP 1 rfl rfl 5 (by decide) (va_Nw.use rfl (hK.2 _ n_169)) (fun _ h9 => h9) rfl d_S_state_72 ?_
        exact W.iret (v := (0 : Int32)) hx hb hr (fun t ht hW => ⟨⟨(0 : Int32), (), rfl, by unfold f_S_state_1; simp only [if_neg c1, if_neg c2, if_pos c4], trivial⟩, hS.F ht⟩) hS.2.2 d_S_state_75
      · by_cases c5 : a1 = (3 : Int32)
        · refine lv_tableIn (off := 75) (tgt := 76) hx hb d_S_state_1 (by rw [c5]; decide) (by rw [c5]; decide) (by rw [c5]; rfl) (by decide) ?_
          refine lv_aload_n hx hb d_S_state_76 rfl (lv_at hl 0 rfl) ?_
          refine va_get (D := D) (ci := 0) (v := .ref p1) (C := "SignMachine") (T := F_S) (N := 2) hx hb hk fi_S hown hK.1 hP 0 rfl rfl 0 (by decide) (hk _ k_210) (fun _ h9 => h9) rfl d_S_state_77 ?_
          refine va_getN (D := D) (ci := 1) (v := .int (0 : Int32)) (C := "SignMachine$Machine") (T := F_M) (N := 14) hx hb hk fi_M hown hK.1 hP 1 rfl rfl 6 (by decide) (va_Nw.use rfl (hK.2 _ n_171)) (fun _ h9 => h9) rfl d_S_state_80 ?_
          exact W.iret (v := (0 : Int32)) hx hb hr (fun t ht hW => ⟨⟨(0 : Int32), (), rfl, by unfold f_S_state_1; simp only [if_neg c1, if_neg c2, if_neg c4, if_pos c5], trivial⟩, hS.F ht⟩) hS.2.2 d_S_state_83
        · by_cases c6 : a1 = (4 : Int32)
          · refine lv_tableIn (off := 83) (tgt := 84) hx hb d_S_state_1 (by rw [c6]; decide) (by rw [c6]; decide) (by rw [c6]; rfl) (by decide) ?_
            refine lv_aload_n hx hb d_S_state_84 rfl (lv_at hl 0 rfl) ?_
            refine va_get (D := D) (ci := 0) (v := .ref p1) (C := "SignMachine") (T := F_S) (N := 2) hx hb hk fi_S hown hK.1 hP 0 rfl rfl 0 (by decide) (hk _ k_210) (fun _ h9 => h9) rfl d_S_state_85 ?_
            refine lv_iconst (v := 0) hx hb d_S_state_88 (by decide) ?_
            refine kn_r (va_runV (C := "SignMachine$Machine") (As := [.int (0 : Int32)]) (rest := []) ⟨hx, hb, hml, hown, hk⟩ (c_M_unit_1 l D cI cJ cZ cB p0 p1 p2 p3 p4 p5 s.heap.size ) (v_M_unit_1 hk k_499 ⟨Nat.le_of_ble_eq_true rfl, Nat.le_of_ble_eq_true rfl⟩) (pM_v hK hP hD (ci := 1) (q0 := 1) rfl rfl rfl) rfl rfl hl.1 rfl (lv_room (Nat.le_of_ble_eq_true rfl)) d_S_state_89 ⟨by decide, by decide⟩) hS hA hD (fun u ra t H locs ht hB hFr hS => ?_)
            obtain ⟨hra, hP, hD⟩ := hB
            rw [ht] at hP
            have hD := dwk hD hFr
            clear ht hFr
            rw [hra]
            have hP : va_P D classes (wS10 cI cJ cZ cB p0 p1 p2 p3 p4 p5 (0 : Int32) (0 : Int32) (0 : Int32) (0 : Int32) (0 : Int32) (0 : Int32) (0 : Int32) (0 : Int32) (0 : Int32) (0 : Int32) (fun _ => 0) (fun _ => 0) (0 : Int32) (0 : Int32)) H := hP
            have hD : va_D A (wS10 cI cJ cZ cB p0 p1 p2 p3 p4 p5 (0 : Int32) (0 : Int32) (0 : Int32) (0 : Int32) (0 : Int32) (0 : Int32) (0 : Int32) (0 : Int32) (0 : Int32) (0 : Int32) (fun _ => 0) (fun _ => 0) (0 : Int32) (0 : Int32)) := hD
            refine W.eq (g2 := F0 m 92 ls [.ref p4]) rfl ?_
            refine va_getN (D := D) (ci := 2) (v := .int (0 : Int32)) (C := "SignMachine$Tape") (T := F_T) (N := 2) hx hb hk fi_T hown hK.1 hP 4 rfl rfl 0 (by decide) (va_Nw.use rfl (hK.2 _ n_154)) (fun _ h9 => h9) rfl d_S_state_92 ?_
            exact W.iret (v := (0 : Int32)) hx hb hr (fun t ht hW => ⟨⟨(0 : Int32), (), rfl, by unfold f_S_state_1; simp only [if_neg c1, if_neg c2, if_neg c4, if_neg c5, if_pos c6], trivial⟩, hS.F ht⟩) hS.2.2 d_S_state_95
          · by_cases c7 : a1 = (5 : Int32)
            · refine lv_tableIn (off := 95) (tgt := 96) hx hb d_S_state_1 (by rw [c7]; decide) (by rw [c7]; decide) (by rw [c7]; rfl) (by decide) ?_
              refine lv_aload_n hx hb d_S_state_96 rfl (lv_at hl 0 rfl) ?_
              refine va_get (D := D) (ci := 0) (v := .ref p1) (C := "SignMachine") (T := F_S) (N := 2) hx hb hk fi_S hown hK.1 hP 0 rfl rfl 0 (by decide) (hk _ k_210) (fun _ h9 => h9) rfl d_S_state_97 ?_
              refine lv_iconst (v := 1) hx hb d_S_state_100 (by decide) ?_
              refine kn_r (va_runV (C := "SignMachine$Machine") (As := [.int (1 : Int32)]) (rest := []) ⟨hx, hb, hml, hown, hk⟩ (c_M_unit_2 l D cI cJ cZ cB p0 p1 p2 p3 p4 p5 s.heap.size ) (v_M_unit_2 hk k_499 ⟨Nat.le_of_ble_eq_true rfl, Nat.le_of_ble_eq_true rfl⟩) (pM_v hK hP hD (ci := 1) (q0 := 1) rfl rfl rfl) rfl rfl hl.1 rfl (lv_room (Nat.le_of_ble_eq_true rfl)) d_S_state_101 ⟨by decide, by decide⟩) hS hA hD (fun u ra t H locs ht hB hFr hS => ?_)
              obtain ⟨hra, hP, hD⟩ := hB
              rw [ht] at hP
              have hD := dwk hD hFr
              clear ht hFr
              rw [hra]
              have hP : va_P D classes (wS10 cI cJ cZ cB p0 p1 p2 p3 p4 p5 (0 : Int32) (0 : Int32) (0 : Int32) (0 : Int32) (0 : Int32) (0 : Int32) (0 : Int32) (0 : Int32) (0 : Int32) (0 : Int32) (fun _ => 0) (fun _ => 0) (0 : Int32) (0 : Int32)) H := hP
              have hD : va_D A (wS10 cI cJ cZ cB p0 p1 p2 p3 p4 p5 (0 : Int32) (0 : Int32) (0 : Int32) (0 : Int32) (0 : Int32) (0 : Int32) (0 : Int32) (0 : Int32) (0 : Int32) (0 : Int32) (fun _ => 0) (fun _ => 0) (0 : Int32) (0 : Int32)) := hD
              refine W.eq (g2 := F0 m 104 ls [.ref p5]) rfl ?_
              refine va_getN (D := D) (ci := 2) (v := .int (0 : Int32)) (C := "SignMachine$Tape") (T := F_T) (N := 2) hx hb hk fi_T hown hK.1 hP 5 rfl rfl 0 (by decide) (va_Nw.use rfl (hK.2 _ n_154)) (fun _ h9 => h9) rfl d_S_state_104 ?_
              exact W.iret (v := (0 : Int32)) hx hb hr (fun t ht hW => ⟨⟨(0 : Int32), (), rfl, by unfold f_S_state_1; simp only [if_neg c1, if_neg c2, if_neg c4, if_neg c5, if_neg c6, if_pos c7], trivial⟩, hS.F ht⟩) hS.2.2 d_S_state_107
            · by_cases c8 : a1 = (6 : Int32)
              · refine lv_tableIn (off := 107) (tgt := 108) hx hb d_S_state_1 (by rw [c8]; decide) (by rw [c8]; decide) (by rw [c8]; rfl) (by decide) ?_
                refine lv_aload_n hx hb d_S_state_108 rfl (lv_at hl 0 rfl) ?_
                refine va_get (D := D) (ci := 0) (v := .ref p1) (C := "SignMachine") (T := F_S) (N := 2) hx hb hk fi_S hown hK.1 hP 0 rfl rfl 0 (by decide) (hk _ k_210) (fun _ h9 => h9) rfl d_S_state_109 ?_
                refine va_getN (D := D) (ci := 1) (v := .int (0 : Int32)) (C := "SignMachine$Machine") (T := F_M) (N := 14) hx hb hk fi_M hown hK.1 hP 1 rfl rfl 8 (by decide) (va_Nw.use rfl (hK.2 _ n_175)) (fun _ h9 => h9) rfl d_S_state_112 ?_
                exact W.iret (v := (0 : Int32)) hx hb hr (fun t ht hW => ⟨⟨(0 : Int32), (), rfl, by unfold f_S_state_1; simp only [if_neg c1, if_neg c2, if_neg c4, if_neg c5, if_neg c6, if_neg c7, if_pos c8], trivial⟩, hS.F ht⟩) hS.2.2 d_S_state_115
              · refine lv_tableOut (tgt := 116) hx hb d_S_state_1 (by have e0 := lv_neT c1 (a := 0) rfl; have e1 := lv_neT c2 (a := 1) rfl; have e2 := lv_neT c4 (a := 2) rfl; have e3 := lv_neT c5 (a := 3) rfl; have e4 := lv_neT c6 (a := 4) rfl; have e5 := lv_neT c7 (a := 5) rfl; have e6 := lv_neT c8 (a := 6) rfl; omega) (by decide) ?_
                refine lv_bipush (v := (-2)) hx hb d_S_state_116 (by decide) ?_
                exact W.iret (v := (-2 : Int32)) hx hb hr (fun t ht hW => ⟨⟨(-2 : Int32), (), rfl, by unfold f_S_state_1; simp only [if_neg c1, if_neg c2, if_neg c4, if_neg c5, if_neg c6, if_neg c7, if_neg c8], trivial⟩, hS.F ht⟩) hS.2.2 d_S_state_118
theorem v_S_state_1 {R : Room} {s : State} {args : Array Value} {own : String} {index : Nat} (hk : ∀ w ∈ tb, w.before args s = true) (hl : Cond.methodLink own index y_S_state ∈ tb) (hR : 1 + 1 ≤ R.frames ∧ 8 + (2 + 11) + 21 ≤ R.locals) : CallW R s args own "SignMachine" index y_S_state b_S_state 2 (some .int) (.code y_S_state b_S_state 2 (some .int) :: tb) ({ frames := 1, cells := 0, slots := 0, locals := 21 }) 0 0 1 := mk_v 1 hk k_498 hl k_496 k_497 k_116 rfl rfl h_S_state hR
def f_S_go_1 (a1 : Int32) : Int32 := (if (bI (f_M_isAddress a1)) = (0 : Int32) then (0 : Int32) else (1 : Int32))
set_option maxHeartbeats 4000000 in
set_option maxRecDepth 100000 in
theorem c_S_go_1 (l : Launch) (D : va_G) (cI cJ cZ cB : ClassId) (p0 p1 p2 p3 p4 p5 : Nat) (sz : Nat) (a1 : Int32) : Met l y_S_go (.code y_S_go b_S_go 2 (some .boolean) :: tb) ({ frames := 1, cells := 0, slots := 0, locals := 20 }) (pM D cI cJ cZ cB (wS10 cI cJ cZ cB p0 p1 p2 p3 p4 p5 (0 : Int32) (0 : Int32) (0 : Int32) (0 : Int32) (0 : Int32) (0 : Int32) (0 : Int32) (0 : Int32) (0 : Int32) (0 : Int32) (fun _ => 0) (fun _ => 0) (0 : Int32) (0 : Int32)) sz [.ref p0, .int a1]) (va_Qi (fun r (_ : Unit) => r = (f_S_go_1 a1)) (fun _ _ => True) (va_A (wS10 cI cJ cZ cB p0 p1 p2 p3 p4 p5 (0 : Int32) (0 : Int32) (0 : Int32) (0 : Int32) (0 : Int32) (0 : Int32) (0 : Int32) (0 : Int32) (0 : Int32) (0 : Int32) (fun _ => 0) (fun _ => 0) (0 : Int32) (0 : Int32)) sz)) 0 0 (va_A (wS10 cI cJ cZ cB p0 p1 p2 p3 p4 p5 (0 : Int32) (0 : Int32) (0 : Int32) (0 : Int32) (0 : Int32) (0 : Int32) (0 : Int32) (0 : Int32) (0 : Int32) (0 : Int32) (fun _ => 0) (fun _ => 0) (0 : Int32) (0 : Int32)) sz) := by
  refine Met.ofW (cc := b_S_go) (maxL := 2) (ret := (some .boolean)) (by decide) rfl ?_
  intro p e s m args below meth c s₁ B hml hv
  obtain ⟨rfl, hsz, hK, hP, hD0⟩ := hv
  subst hsz
  have hD := hD0.self (sz := s.heap.size)
  generalize hAe : va_A (wS10 cI cJ cZ cB p0 p1 p2 p3 p4 p5 (0 : Int32) (0 : Int32) (0 : Int32) (0 : Int32) (0 : Int32) (0 : Int32) (0 : Int32) (0 : Int32) (0 : Int32) (0 : Int32) (fun _ => 0) (fun _ => 0) (0 : Int32) (0 : Int32)) s.heap.size = A at hD ⊢
  have hA : ∀ q : Nat, s.heap.size ≤ q → A q := fun q h => by rw [← hAe]; exact Or.inr h
  have hS : va_S A s.heap s.heap [] := va_S.rf
  have hx := B.exec
  have hb := B.bytes
  have hr := B.returns
  have hts := atoms_spec (ws := .code y_S_go b_S_go 2 (some .boolean) :: tb) B.pre
  have hk : ∀ w ∈ tb, w.before [.ref p0, .int a1].toArray s = true := fun w h => hts w (List.mem_cons_of_mem _ h)
  have hown : s.vm.findClass "SignMachine" = some m.cls := findClass_of_methodNamed B.named
  have hlocks := B.notSynchronized
  have hl := lv_entry ([.ref p0, .int a1]) (n := 2) (Nat.le_of_ble_eq_true rfl)
  rw [lg_entry_eq]
  generalize (lg_sl ([.ref p0, .int a1]) ++ List.replicate (2 - (lg_sl ([.ref p0, .int a1])).length) Slot.unset).toArray = ls at hl ⊢
  have hl : lv_has ls 2 [(0, .ref p0), (1, .int a1)] := hl
  refine lv_iload_n hx hb d_S_go_0 rfl (lv_at hl 1 rfl) ?_
  refine cs_i (W.runS (As := [.int a1]) (rest := []) ⟨hx, hb, hml, hown, hk⟩ (c_M_isAddress l a1) (s_M_isAddress hk k_221 ⟨Nat.le_of_ble_eq_true rfl, Nat.le_of_ble_eq_true rfl⟩) ⟨fun a U g mk q => q, fun U hU hW => ⟨rfl, trivial⟩⟩ rfl rfl hl.1 rfl (lv_room (Nat.le_of_ble_eq_true rfl)) d_S_go_1 ⟨Nat.le_of_ble_eq_true rfl, Nat.le_of_ble_eq_true rfl⟩) ?_
  refine lv_if_ne (tgt := 9) hx hb d_S_go_4 (by decide) (fun c1 => ?_) (fun c1 => ?_)
  · refine lv_aload_n hx hb d_S_go_9 rfl (lv_at hl 0 rfl) ?_
    refine va_get (D := D) (ci := 0) (v := .ref p1) (C := "SignMachine") (T := F_S) (N := 2) hx hb hk fi_S hown hK.1 hP 0 rfl rfl 0 (by decide) (hk _ k_210) (fun _ h9 => h9) rfl d_S_go_10 ?_
    refine lv_iload_n hx hb d_S_go_13 rfl (lv_at hl 1 rfl) ?_
    refine va_putN (D := D) (ci := 1) (v := .int a1) (ty := .int) (C := "SignMachine$Machine") (T := F_M) (N := 14) hx hb hk fi_M ft_M ft_M_ok fn_M hown hK.1 hP hD hS 1 rfl rfl 7 (by decide) (va_Nw.use rfl (hK.2 _ n_173)) (fun _ h9 => h9) rfl (by decide +kernel) rfl rfl (Nat.le_of_ble_eq_true rfl) d_S_go_14 (fun H locs hP hD hS => ?_)
    have hP : va_P D classes (wS10 cI cJ cZ cB p0 p1 p2 p3 p4 p5 (0 : Int32) (0 : Int32) (0 : Int32) a1 (0 : Int32) (0 : Int32) (0 : Int32) (0 : Int32) (0 : Int32) (0 : Int32) (fun _ => 0) (fun _ => 0) (0 : Int32) (0 : Int32)) H := hP
    have hD : va_D A (wS10 cI cJ cZ cB p0 p1 p2 p3 p4 p5 (0 : Int32) (0 : Int32) (0 : Int32) a1 (0 : Int32) (0 : Int32) (0 : Int32) (0 : Int32) (0 : Int32) (0 : Int32) (fun _ => 0) (fun _ => 0) (0 : Int32) (0 : Int32)) := hD
    refine lv_iconst (v := 1) hx hb d_S_go_17 (by decide) ?_
    exact W.zret (v := (1 : Int32)) hx hb hr rfl (fun t ht hW => ⟨⟨(1 : Int32), (), rfl, by unfold f_S_go_1; simp only [if_neg c1], trivial⟩, hS.F ht⟩) hS.2.2 d_S_go_18
  · refine lv_iconst (v := 0) hx hb d_S_go_7 (by decide) ?_
    exact W.zret (v := (0 : Int32)) hx hb hr rfl (fun t ht hW => ⟨⟨(0 : Int32), (), rfl, by unfold f_S_go_1; simp only [if_pos c1], trivial⟩, hS.F ht⟩) hS.2.2 d_S_go_8
theorem v_S_go_1 {R : Room} {s : State} {args : Array Value} {own : String} {index : Nat} (hk : ∀ w ∈ tb, w.before args s = true) (hl : Cond.methodLink own index y_S_go ∈ tb) (hR : 1 + 1 ≤ R.frames ∧ 8 + (2 + 11) + 20 ≤ R.locals) : CallW R s args own "SignMachine" index y_S_go b_S_go 2 (some .boolean) (.code y_S_go b_S_go 2 (some .boolean) :: tb) ({ frames := 1, cells := 0, slots := 0, locals := 20 }) 0 0 1 := mk_v 1 hk k_503 hl k_501 k_502 k_116 rfl rfl h_S_go hR
def f_M_unit_3 (p0 p1 p2 p3 p4 p5 : Nat) (a1 : Int32) : Nat := (if a1 = (0 : Int32) then p4 else p5)
set_option maxHeartbeats 4000000 in
set_option maxRecDepth 100000 in
theorem c_M_unit_3 (l : Launch) (D : va_G) (cI cJ cZ cB : ClassId) (p0 p1 p2 p3 p4 p5 : Nat) (sz : Nat) (a1 : Int32) : Met l y_M_unit (.code y_M_unit b_M_unit 2 (some (.object "SignMachine$Tape")) :: tb) ({ frames := 0, cells := 0, slots := 0, locals := 0 }) (pM D cI cJ cZ cB (wS10 cI cJ cZ cB p0 p1 p2 p3 p4 p5 (0 : Int32) (0 : Int32) (0 : Int32) (0 : Int32) (0 : Int32) (0 : Int32) (0 : Int32) (0 : Int32) (0 : Int32) (0 : Int32) (fun _ => 0) (fun _ => 0) (0 : Int32) (0 : Int32)) sz [.ref p1, .int a1]) (va_Qr (fun (_ : Unit) => True) (fun _ a t => a = (f_M_unit_3 p0 p1 p2 p3 p4 p5 a1) ∧ va_P D classes (wS10 cI cJ cZ cB p0 p1 p2 p3 p4 p5 (0 : Int32) (0 : Int32) (0 : Int32) (0 : Int32) (0 : Int32) (0 : Int32) (0 : Int32) (0 : Int32) (0 : Int32) (0 : Int32) (fun _ => 0) (fun _ => 0) (0 : Int32) (0 : Int32)) t.heap ∧ va_D (va_A (wS10 cI cJ cZ cB p0 p1 p2 p3 p4 p5 (0 : Int32) (0 : Int32) (0 : Int32) (0 : Int32) (0 : Int32) (0 : Int32) (0 : Int32) (0 : Int32) (0 : Int32) (0 : Int32) (fun _ => 0) (fun _ => 0) (0 : Int32) (0 : Int32)) sz) (wS10 cI cJ cZ cB p0 p1 p2 p3 p4 p5 (0 : Int32) (0 : Int32) (0 : Int32) (0 : Int32) (0 : Int32) (0 : Int32) (0 : Int32) (0 : Int32) (0 : Int32) (0 : Int32) (fun _ => 0) (fun _ => 0) (0 : Int32) (0 : Int32))) (va_A (wS10 cI cJ cZ cB p0 p1 p2 p3 p4 p5 (0 : Int32) (0 : Int32) (0 : Int32) (0 : Int32) (0 : Int32) (0 : Int32) (0 : Int32) (0 : Int32) (0 : Int32) (0 : Int32) (fun _ => 0) (fun _ => 0) (0 : Int32) (0 : Int32)) sz)) 0 0 (va_A (wS10 cI cJ cZ cB p0 p1 p2 p3 p4 p5 (0 : Int32) (0 : Int32) (0 : Int32) (0 : Int32) (0 : Int32) (0 : Int32) (0 : Int32) (0 : Int32) (0 : Int32) (0 : Int32) (fun _ => 0) (fun _ => 0) (0 : Int32) (0 : Int32)) sz) := by
  refine Met.ofW (cc := b_M_unit) (maxL := 2) (ret := (some (.object "SignMachine$Tape"))) (by decide) rfl ?_
  intro p e s m args below meth c s₁ B hml hv
  obtain ⟨rfl, hsz, hK, hP, hD0⟩ := hv
  subst hsz
  have hD := hD0.self (sz := s.heap.size)
  generalize hAe : va_A (wS10 cI cJ cZ cB p0 p1 p2 p3 p4 p5 (0 : Int32) (0 : Int32) (0 : Int32) (0 : Int32) (0 : Int32) (0 : Int32) (0 : Int32) (0 : Int32) (0 : Int32) (0 : Int32) (fun _ => 0) (fun _ => 0) (0 : Int32) (0 : Int32)) s.heap.size = A at hD ⊢
  have hA : ∀ q : Nat, s.heap.size ≤ q → A q := fun q h => by rw [← hAe]; exact Or.inr h
  have hS : va_S A s.heap s.heap [] := va_S.rf
  have hx := B.exec
  have hb := B.bytes
  have hr := B.returns
  have hts := atoms_spec (ws := .code y_M_unit b_M_unit 2 (some (.object "SignMachine$Tape")) :: tb) B.pre
  have hk : ∀ w ∈ tb, w.before [.ref p1, .int a1].toArray s = true := fun w h => hts w (List.mem_cons_of_mem _ h)
  have hown : s.vm.findClass "SignMachine$Machine" = some m.cls := findClass_of_methodNamed B.named
  have hlocks := B.notSynchronized
  have hl := lv_entry ([.ref p1, .int a1]) (n := 2) (Nat.le_of_ble_eq_true rfl)
  rw [lg_entry_eq]
  generalize (lg_sl ([.ref p1, .int a1]) ++ List.replicate (2 - (lg_sl ([.ref p1, .int a1])).length) Slot.unset).toArray = ls at hl ⊢
  have hl : lv_has ls 2 [(0, .ref p1), (1, .int a1)] := hl
  refine lv_iload_n hx hb d_M_unit_0 rfl (lv_at hl 1 rfl) ?_
  refine lv_if_ne (tgt := 11) hx hb d_M_unit_1 (by decide) (fun c1 => ?_) (fun c1 => ?_)
  · refine lv_aload_n hx hb d_M_unit_11 rfl (lv_at hl 0 rfl) ?_
    refine va_get (D := D) (ci := 1) (v := .ref p5) (C := "SignMachine$Machine") (T := F_M) (N := 14) hx hb hk fi_M hown hK.1 hP 1 rfl rfl 3 (by decide) (hk _ k_166) (fun _ h9 => h9) rfl d_M_unit_12 ?_
    exact W.aret (v := .ref p5) hx hb hr (Or.inl ⟨_, rfl⟩) (Or.inr ⟨_, rfl⟩) (fun t ht hW => ⟨⟨(), p5, rfl, trivial, by unfold f_M_unit_3; simp only [if_neg c1], by show va_P D classes _ t.heap; rw [ht]; exact hP, hD⟩, hS.F ht⟩) hS.2.2 d_M_unit_15
  · refine lv_aload_n hx hb d_M_unit_4 rfl (lv_at hl 0 rfl) ?_
    refine va_get (D := D) (ci := 1) (v := .ref p4) (C := "SignMachine$Machine") (T := F_M) (N := 14) hx hb hk fi_M hown hK.1 hP 1 rfl rfl 2 (by decide) (hk _ k_165) (fun _ h9 => h9) rfl d_M_unit_5 ?_
    refine lv_goto (tgt := 15) hx hb d_M_unit_8 (by decide) ?_
    exact W.aret (v := .ref p4) hx hb hr (Or.inl ⟨_, rfl⟩) (Or.inr ⟨_, rfl⟩) (fun t ht hW => ⟨⟨(), p4, rfl, trivial, by unfold f_M_unit_3; simp only [if_pos c1], by show va_P D classes _ t.heap; rw [ht]; exact hP, hD⟩, hS.F ht⟩) hS.2.2 d_M_unit_15
theorem v_M_unit_3 {R : Room} {s : State} {args : Array Value} {own : String} {index : Nat} (hk : ∀ w ∈ tb, w.before args s = true) (hl : Cond.methodLink own index y_M_unit ∈ tb) (hR : 0 + 1 ≤ R.frames ∧ 8 + (2 + 11) + 0 ≤ R.locals) : CallW R s args own "SignMachine$Machine" index y_M_unit b_M_unit 2 (some (.object "SignMachine$Tape")) (.code y_M_unit b_M_unit 2 (some (.object "SignMachine$Tape")) :: tb) ({ frames := 0, cells := 0, slots := 0, locals := 0 }) 0 0 1 := mk_v 1 hk k_340 hl k_338 k_339 k_117 rfl rfl h_M_unit hR
set_option maxHeartbeats 4000000 in
set_option maxRecDepth 100000 in
theorem c_T_wordAt_1 (l : Launch) (D : va_G) (cI cJ cZ cB : ClassId) (p0 p1 p2 p3 p4 p5 : Nat) (sz : Nat) (a1 : Int32) (a2 : Int32) : Met l y_T_wordAt (.code y_T_wordAt b_T_wordAt 3 (some .int) :: tb) ({ frames := 0, cells := 0, slots := 0, locals := 0 }) (pM D cI cJ cZ cB (wS10 cI cJ cZ cB p0 p1 p2 p3 p4 p5 (0 : Int32) (0 : Int32) (0 : Int32) (0 : Int32) (0 : Int32) (0 : Int32) (0 : Int32) (0 : Int32) (0 : Int32) (0 : Int32) (fun _ => 0) (fun _ => 0) (0 : Int32) (0 : Int32)) sz [.ref p4, .int a1, .int a2]) (va_Qi (fun r (_ : Unit) => r = (0 : Int32)) (fun u t => match u with | _ => va_P D classes (wS10 cI cJ cZ cB p0 p1 p2 p3 p4 p5 (0 : Int32) (0 : Int32) (0 : Int32) (0 : Int32) (0 : Int32) (0 : Int32) (0 : Int32) (0 : Int32) (0 : Int32) (0 : Int32) (fun _ => 0) (fun _ => 0) (0 : Int32) (0 : Int32)) t.heap ∧ va_D (va_A (wS10 cI cJ cZ cB p0 p1 p2 p3 p4 p5 (0 : Int32) (0 : Int32) (0 : Int32) (0 : Int32) (0 : Int32) (0 : Int32) (0 : Int32) (0 : Int32) (0 : Int32) (0 : Int32) (fun _ => 0) (fun _ => 0) (0 : Int32) (0 : Int32)) sz) (wS10 cI cJ cZ cB p0 p1 p2 p3 p4 p5 (0 : Int32) (0 : Int32) (0 : Int32) (0 : Int32) (0 : Int32) (0 : Int32) (0 : Int32) (0 : Int32) (0 : Int32) (0 : Int32) (fun _ => 0) (fun _ => 0) (0 : Int32) (0 : Int32))) (va_A (wS10 cI cJ cZ cB p0 p1 p2 p3 p4 p5 (0 : Int32) (0 : Int32) (0 : Int32) (0 : Int32) (0 : Int32) (0 : Int32) (0 : Int32) (0 : Int32) (0 : Int32) (0 : Int32) (fun _ => 0) (fun _ => 0) (0 : Int32) (0 : Int32)) sz)) 0 0 (va_A (wS10 cI cJ cZ cB p0 p1 p2 p3 p4 p5 (0 : Int32) (0 : Int32) (0 : Int32) (0 : Int32) (0 : Int32) (0 : Int32) (0 : Int32) (0 : Int32) (0 : Int32) (0 : Int32) (fun _ => 0) (fun _ => 0) (0 : Int32) (0 : Int32)) sz) := by
  refine Met.ofW (cc := b_T_wordAt) (maxL := 3) (ret := (some .int)) (by decide) rfl ?_
  intro p e s m args below meth c s₁ B hml hv
  obtain ⟨rfl, hsz, hK, hP, hD0⟩ := hv
  subst hsz
  have hD := hD0.self (sz := s.heap.size)
  generalize hAe : va_A (wS10 cI cJ cZ cB p0 p1 p2 p3 p4 p5 (0 : Int32) (0 : Int32) (0 : Int32) (0 : Int32) (0 : Int32) (0 : Int32) (0 : Int32) (0 : Int32) (0 : Int32) (0 : Int32) (fun _ => 0) (fun _ => 0) (0 : Int32) (0 : Int32)) s.heap.size = A at hD ⊢
  have hA : ∀ q : Nat, s.heap.size ≤ q → A q := fun q h => by rw [← hAe]; exact Or.inr h
  have hS : va_S A s.heap s.heap [] := va_S.rf
  have hx := B.exec
  have hb := B.bytes
  have hr := B.returns
  have hts := atoms_spec (ws := .code y_T_wordAt b_T_wordAt 3 (some .int) :: tb) B.pre
  have hk : ∀ w ∈ tb, w.before [.ref p4, .int a1, .int a2].toArray s = true := fun w h => hts w (List.mem_cons_of_mem _ h)
  have hown : s.vm.findClass "SignMachine$Tape" = some m.cls := findClass_of_methodNamed B.named
  have hlocks := B.notSynchronized
  have hl := lv_entry ([.ref p4, .int a1, .int a2]) (n := 3) (Nat.le_of_ble_eq_true rfl)
  rw [lg_entry_eq]
  generalize (lg_sl ([.ref p4, .int a1, .int a2]) ++ List.replicate (3 - (lg_sl ([.ref p4, .int a1, .int a2])).length) Slot.unset).toArray = ls at hl ⊢
  have hl : lv_has ls 3 [(0, .ref p4), (1, .int a1), (2, .int a2)] := hl
  refine lv_aload_n hx hb d_T_wordAt_0 rfl (lv_at hl 0 rfl) ?_
  refine va_get (D := D) (ci := 2) (v := .null) (C := "SignMachine$Tape") (T := F_T) (N := 2) hx hb hk fi_T hown hK.1 hP 4 rfl rfl 1 (by decide) (hk _ k_156) (fun _ h9 => h9) rfl d_T_wordAt_1 ?_
  refine lv_ifnullN (tgt := 29) hx hb d_T_wordAt_4 (by decide) ?_
  refine lv_iconst (v := 0) hx hb d_T_wordAt_29 (by decide) ?_
  exact W.iret (v := (0 : Int32)) hx hb hr (fun t ht hW => ⟨⟨(0 : Int32), (), rfl, rfl, by show va_P D classes _ t.heap; rw [ht]; exact hP, hD⟩, hS.F ht⟩) hS.2.2 d_T_wordAt_30
theorem v_T_wordAt_1 {R : Room} {s : State} {args : Array Value} {own : String} {index : Nat} (hk : ∀ w ∈ tb, w.before args s = true) (hl : Cond.methodLink own index y_T_wordAt ∈ tb) (hR : 0 + 1 ≤ R.frames ∧ 8 + (3 + 11) + 0 ≤ R.locals) : CallW R s args own "SignMachine$Tape" index y_T_wordAt b_T_wordAt 3 (some .int) (.code y_T_wordAt b_T_wordAt 3 (some .int) :: tb) ({ frames := 0, cells := 0, slots := 0, locals := 0 }) 0 0 2 := mk_v 2 hk k_436 hl k_434 k_435 k_118 rfl rfl h_T_wordAt hR
set_option maxHeartbeats 4000000 in
set_option maxRecDepth 100000 in
theorem c_T_wordAt_2 (l : Launch) (D : va_G) (cI cJ cZ cB : ClassId) (p0 p1 p2 p3 p4 p5 : Nat) (sz : Nat) (a1 : Int32) (a2 : Int32) : Met l y_T_wordAt (.code y_T_wordAt b_T_wordAt 3 (some .int) :: tb) ({ frames := 0, cells := 0, slots := 0, locals := 0 }) (pM D cI cJ cZ cB (wS10 cI cJ cZ cB p0 p1 p2 p3 p4 p5 (0 : Int32) (0 : Int32) (0 : Int32) (0 : Int32) (0 : Int32) (0 : Int32) (0 : Int32) (0 : Int32) (0 : Int32) (0 : Int32) (fun _ => 0) (fun _ => 0) (0 : Int32) (0 : Int32)) sz [.ref p5, .int a1, .int a2]) (va_Qi (fun r (_ : Unit) => r = (0 : Int32)) (fun u t => match u with | _ => va_P D classes (wS10 cI cJ cZ cB p0 p1 p2 p3 p4 p5 (0 : Int32) (0 : Int32) (0 : Int32) (0 : Int32) (0 : Int32) (0 : Int32) (0 : Int32) (0 : Int32) (0 : Int32) (0 : Int32) (fun _ => 0) (fun _ => 0) (0 : Int32) (0 : Int32)) t.heap ∧ va_D (va_A (wS10 cI cJ cZ cB p0 p1 p2 p3 p4 p5 (0 : Int32) (0 : Int32) (0 : Int32) (0 : Int32) (0 : Int32) (0 : Int32) (0 : Int32) (0 : Int32) (0 : Int32) (0 : Int32) (fun _ => 0) (fun _ => 0) (0 : Int32) (0 : Int32)) sz) (wS10 cI cJ cZ cB p0 p1 p2 p3 p4 p5 (0 : Int32) (0 : Int32) (0 : Int32) (0 : Int32) (0 : Int32) (0 : Int32) (0 : Int32) (0 : Int32) (0 : Int32) (0 : Int32) (fun _ => 0) (fun _ => 0) (0 : Int32) (0 : Int32))) (va_A (wS10 cI cJ cZ cB p0 p1 p2 p3 p4 p5 (0 : Int32) (0 : Int32) (0 : Int32) (0 : Int32) (0 : Int32) (0 : Int32) (0 : Int32) (0 : Int32) (0 : Int32) (0 : Int32) (fun _ => 0) (fun _ => 0) (0 : Int32) (0 : Int32)) sz)) 0 0 (va_A (wS10 cI cJ cZ cB p0 p1 p2 p3 p4 p5 (0 : Int32) (0 : Int32) (0 : Int32) (0 : Int32) (0 : Int32) (0 : Int32) (0 : Int32) (0 : Int32) (0 : Int32) (0 : Int32) (fun _ => 0) (fun _ => 0) (0 : Int32) (0 : Int32)) sz) := by
  refine Met.ofW (cc := b_T_wordAt) (maxL := 3) (ret := (some .int)) (by decide) rfl ?_
  intro p e s m args below meth c s₁ B hml hv
  obtain ⟨rfl, hsz, hK, hP, hD0⟩ := hv
  subst hsz
  have hD := hD0.self (sz := s.heap.size)
  generalize hAe : va_A (wS10 cI cJ cZ cB p0 p1 p2 p3 p4 p5 (0 : Int32) (0 : Int32) (0 : Int32) (0 : Int32) (0 : Int32) (0 : Int32) (0 : Int32) (0 : Int32) (0 : Int32) (0 : Int32) (fun _ => 0) (fun _ => 0) (0 : Int32) (0 : Int32)) s.heap.size = A at hD ⊢
  have hA : ∀ q : Nat, s.heap.size ≤ q → A q := fun q h => by rw [← hAe]; exact Or.inr h
  have hS : va_S A s.heap s.heap [] := va_S.rf
  have hx := B.exec
  have hb := B.bytes
  have hr := B.returns
  have hts := atoms_spec (ws := .code y_T_wordAt b_T_wordAt 3 (some .int) :: tb) B.pre
  have hk : ∀ w ∈ tb, w.before [.ref p5, .int a1, .int a2].toArray s = true := fun w h => hts w (List.mem_cons_of_mem _ h)
  have hown : s.vm.findClass "SignMachine$Tape" = some m.cls := findClass_of_methodNamed B.named
  have hlocks := B.notSynchronized
  have hl := lv_entry ([.ref p5, .int a1, .int a2]) (n := 3) (Nat.le_of_ble_eq_true rfl)
  rw [lg_entry_eq]
  generalize (lg_sl ([.ref p5, .int a1, .int a2]) ++ List.replicate (3 - (lg_sl ([.ref p5, .int a1, .int a2])).length) Slot.unset).toArray = ls at hl ⊢
  have hl : lv_has ls 3 [(0, .ref p5), (1, .int a1), (2, .int a2)] := hl
  refine lv_aload_n hx hb d_T_wordAt_0 rfl (lv_at hl 0 rfl) ?_
  refine va_get (D := D) (ci := 2) (v := .null) (C := "SignMachine$Tape") (T := F_T) (N := 2) hx hb hk fi_T hown hK.1 hP 5 rfl rfl 1 (by decide) (hk _ k_156) (fun _ h9 => h9) rfl d_T_wordAt_1 ?_
  refine lv_ifnullN (tgt := 29) hx hb d_T_wordAt_4 (by decide) ?_
  refine lv_iconst (v := 0) hx hb d_T_wordAt_29 (by decide) ?_
  exact W.iret (v := (0 : Int32)) hx hb hr (fun t ht hW => ⟨⟨(0 : Int32), (), rfl, rfl, by show va_P D classes _ t.heap; rw [ht]; exact hP, hD⟩, hS.F ht⟩) hS.2.2 d_T_wordAt_30
theorem v_T_wordAt_2 {R : Room} {s : State} {args : Array Value} {own : String} {index : Nat} (hk : ∀ w ∈ tb, w.before args s = true) (hl : Cond.methodLink own index y_T_wordAt ∈ tb) (hR : 0 + 1 ≤ R.frames ∧ 8 + (3 + 11) + 0 ≤ R.locals) : CallW R s args own "SignMachine$Tape" index y_T_wordAt b_T_wordAt 3 (some .int) (.code y_T_wordAt b_T_wordAt 3 (some .int) :: tb) ({ frames := 0, cells := 0, slots := 0, locals := 0 }) 0 0 2 := mk_v 2 hk k_436 hl k_434 k_435 k_118 rfl rfl h_T_wordAt hR
def f_S_tape_1 (a1 : Int32) (a2 : Int32) (a3 : Int32) : Int32 := (if a1 < (0 : Int32) then (-2000000000 : Int32) else (if (1 : Int32) < a1 then (-2000000000 : Int32) else (if (bI (f_T_isWord a2 a3)) = (0 : Int32) then (-2000000000 : Int32) else (if a1 = (0 : Int32) then (0 : Int32) else (0 : Int32)))))
set_option maxHeartbeats 4000000 in
set_option maxRecDepth 100000 in
theorem c_S_tape_1 (l : Launch) (D : va_G) (cI cJ cZ cB : ClassId) (p0 p1 p2 p3 p4 p5 : Nat) (sz : Nat) (a1 : Int32) (a2 : Int32) (a3 : Int32) : Met l y_S_tape (.code y_S_tape b_S_tape 5 (some .int) :: tb) ({ frames := 1, cells := 0, slots := 0, locals := 22 }) (pM D cI cJ cZ cB (wS10 cI cJ cZ cB p0 p1 p2 p3 p4 p5 (0 : Int32) (0 : Int32) (0 : Int32) (0 : Int32) (0 : Int32) (0 : Int32) (0 : Int32) (0 : Int32) (0 : Int32) (0 : Int32) (fun _ => 0) (fun _ => 0) (0 : Int32) (0 : Int32)) sz [.ref p0, .int a1, .int a2, .int a3]) (va_Qi (fun r (_ : Unit) => r = (f_S_tape_1 a1 a2 a3)) (fun _ _ => True) (va_A (wS10 cI cJ cZ cB p0 p1 p2 p3 p4 p5 (0 : Int32) (0 : Int32) (0 : Int32) (0 : Int32) (0 : Int32) (0 : Int32) (0 : Int32) (0 : Int32) (0 : Int32) (0 : Int32) (fun _ => 0) (fun _ => 0) (0 : Int32) (0 : Int32)) sz)) 0 0 (va_A (wS10 cI cJ cZ cB p0 p1 p2 p3 p4 p5 (0 : Int32) (0 : Int32) (0 : Int32) (0 : Int32) (0 : Int32) (0 : Int32) (0 : Int32) (0 : Int32) (0 : Int32) (0 : Int32) (fun _ => 0) (fun _ => 0) (0 : Int32) (0 : Int32)) sz) := by
  refine Met.ofW (cc := b_S_tape) (maxL := 5) (ret := (some .int)) (by decide) rfl ?_
  intro p e s m args below meth c s₁ B hml hv
  obtain ⟨rfl, hsz, hK, hP, hD0⟩ := hv
  subst hsz
  have hD := hD0.self (sz := s.heap.size)
  generalize hAe : va_A (wS10 cI cJ cZ cB p0 p1 p2 p3 p4 p5 (0 : Int32) (0 : Int32) (0 : Int32) (0 : Int32) (0 : Int32) (0 : Int32) (0 : Int32) (0 : Int32) (0 : Int32) (0 : Int32) (fun _ => 0) (fun _ => 0) (0 : Int32) (0 : Int32)) s.heap.size = A at hD ⊢
  have hA : ∀ q : Nat, s.heap.size ≤ q → A q := fun q h => by rw [← hAe]; exact Or.inr h
  have hS : va_S A s.heap s.heap [] := va_S.rf
  have hx := B.exec
  have hb := B.bytes
  have hr := B.returns
  have hts := atoms_spec (ws := .code y_S_tape b_S_tape 5 (some .int) :: tb) B.pre
  have hk : ∀ w ∈ tb, w.before [.ref p0, .int a1, .int a2, .int a3].toArray s = true := fun w h => hts w (List.mem_cons_of_mem _ h)
  have hown : s.vm.findClass "SignMachine" = some m.cls := findClass_of_methodNamed B.named
  have hlocks := B.notSynchronized
  have hl := lv_entry ([.ref p0, .int a1, .int a2, .int a3]) (n := 5) (Nat.le_of_ble_eq_true rfl)
  rw [lg_entry_eq]
  generalize (lg_sl ([.ref p0, .int a1, .int a2, .int a3]) ++ List.replicate (5 - (lg_sl ([.ref p0, .int a1, .int a2, .int a3])).length) Slot.unset).toArray = ls at hl ⊢
  have hl : lv_has ls 5 [(0, .ref p0), (1, .int a1), (2, .int a2), (3, .int a3)] := hl
  refine lv_iload_n hx hb d_S_tape_0 rfl (lv_at hl 1 rfl) ?_
  refine lv_if_lt (tgt := 17) hx hb d_S_tape_1 (by decide) (fun c1 => ?_) (fun c1 => ?_)
  · refine lv_ldc (v := (-2000000000)) hx hb hown (hk _ k_509) d_S_tape_17 ?_
    exact W.iret (v := (-2000000000 : Int32)) hx hb hr (fun t ht hW => ⟨⟨(-2000000000 : Int32), (), rfl, by unfold f_S_tape_1; simp only [if_pos c1], trivial⟩, hS.F ht⟩) hS.2.2 d_S_tape_19
  · refine lv_iload_n hx hb d_S_tape_4 rfl (lv_at hl 1 rfl) ?_
    refine lv_iconst (v := 1) hx hb d_S_tape_5 (by decide) ?_
    refine lv_icmp_gt (tgt := 17) hx hb d_S_tape_6 (by decide) (fun c2 => ?_) (fun c2 => ?_)
    · refine lv_ldc (v := (-2000000000)) hx hb hown (hk _ k_509) d_S_tape_17 ?_
      exact W.iret (v := (-2000000000 : Int32)) hx hb hr (fun t ht hW => ⟨⟨(-2000000000 : Int32), (), rfl, by unfold f_S_tape_1; simp only [if_neg c1, if_pos c2], trivial⟩, hS.F ht⟩) hS.2.2 d_S_tape_19
    · refine lv_iload_n hx hb d_S_tape_9 rfl (lv_at hl 2 rfl) ?_
      refine lv_iload_n hx hb d_S_tape_10 rfl (lv_at hl 3 rfl) ?_
      refine cs_i (W.runS (As := [.int a2, .int a3]) (rest := []) ⟨hx, hb, hml, hown, hk⟩ (c_T_isWord l a2 a3) (s_T_isWord hk k_508 ⟨Nat.le_of_ble_eq_true rfl, Nat.le_of_ble_eq_true rfl⟩) ⟨fun a U g mk q => q, fun U hU hW => ⟨rfl, trivial⟩⟩ rfl rfl hl.1 rfl (lv_room (Nat.le_of_ble_eq_true rfl)) d_S_tape_11 ⟨Nat.le_of_ble_eq_true rfl, Nat.le_of_ble_eq_true rfl⟩) ?_
      refine lv_if_ne (tgt := 20) hx hb d_S_tape_14 (by decide) (fun c3 => ?_) (fun c3 => ?_)
      · refine lv_aload_n hx hb d_S_tape_20 rfl (lv_at hl 0 rfl) ?_
        refine va_get (D := D) (ci := 0) (v := .ref p1) (C := "SignMachine") (T := F_S) (N := 2) hx hb hk fi_S hown hK.1 hP 0 rfl rfl 0 (by decide) (hk _ k_210) (fun _ h9 => h9) rfl d_S_tape_21 ?_
        refine lv_iload_n hx hb d_S_tape_24 rfl (lv_at hl 1 rfl) ?_
        refine kn_r (va_runV (C := "SignMachine$Machine") (As := [.int a1]) (rest := []) ⟨hx, hb, hml, hown, hk⟩ (c_M_unit_3 l D cI cJ cZ cB p0 p1 p2 p3 p4 p5 s.heap.size a1) (v_M_unit_3 hk k_499 ⟨Nat.le_of_ble_eq_true rfl, Nat.le_of_ble_eq_true rfl⟩) (pM_v hK hP hD (ci := 1) (q0 := 1) rfl rfl rfl) rfl rfl hl.1 rfl (lv_room (Nat.le_of_ble_eq_true rfl)) d_S_tape_25 ⟨by decide, by decide⟩) hS hA hD (fun u ra t H locs ht hB hFr hS => ?_)
        obtain ⟨hra, hP, hD⟩ := hB
        rw [ht] at hP
        have hD := dwk hD hFr
        clear ht hFr
        rw [hra]
        have hP : va_P D classes (wS10 cI cJ cZ cB p0 p1 p2 p3 p4 p5 (0 : Int32) (0 : Int32) (0 : Int32) (0 : Int32) (0 : Int32) (0 : Int32) (0 : Int32) (0 : Int32) (0 : Int32) (0 : Int32) (fun _ => 0) (fun _ => 0) (0 : Int32) (0 : Int32)) H := hP
        have hD : va_D A (wS10 cI cJ cZ cB p0 p1 p2 p3 p4 p5 (0 : Int32) (0 : Int32) (0 : Int32) (0 : Int32) (0 : Int32) (0 : Int32) (0 : Int32) (0 : Int32) (0 : Int32) (0 : Int32) (fun _ => 0) (fun _ => 0) (0 : Int32) (0 : Int32)) := hD
        by_cases c4 : a1 = (0 : Int32)
        · rw [show (f_M_unit_3 p0 p1 p2 p3 p4 p5 a1) = p4 from by unfold f_M_unit_3; simp only [if_pos c4]]
          refine lv_iload_n hx hb d_S_tape_28 rfl (lv_at hl 2 rfl) ?_
          refine lv_iload_n hx hb d_S_tape_29 rfl (lv_at hl 3 rfl) ?_
          refine kn_i (va_runV (C := "SignMachine$Tape") (As := [.int a2, .int a3]) (rest := []) ⟨hx, hb, hml, hown, hk⟩ (c_T_wordAt_1 l D cI cJ cZ cB p0 p1 p2 p3 p4 p5 H.size a2 a3) (v_T_wordAt_1 hk k_510 ⟨Nat.le_of_ble_eq_true rfl, Nat.le_of_ble_eq_true rfl⟩) (pM_v hK hP hD (ci := 2) (q0 := 4) rfl rfl rfl) rfl rfl hl.1 rfl (lv_room (Nat.le_of_ble_eq_true rfl)) d_S_tape_30 ⟨by decide, by decide⟩) hS hA hD (fun u t H locs ht hB hFr hS => ?_)
          obtain ⟨hP, hD⟩ := hB
          rw [ht] at hP
          have hD := dwk hD hFr
          clear ht hFr
          have hP : va_P D classes (wS10 cI cJ cZ cB p0 p1 p2 p3 p4 p5 (0 : Int32) (0 : Int32) (0 : Int32) (0 : Int32) (0 : Int32) (0 : Int32) (0 : Int32) (0 : Int32) (0 : Int32) (0 : Int32) (fun _ => 0) (fun _ => 0) (0 : Int32) (0 : Int32)) H := hP
          have hD : va_D A (wS10 cI cJ cZ cB p0 p1 p2 p3 p4 p5 (0 : Int32) (0 : Int32) (0 : Int32) (0 : Int32) (0 : Int32) (0 : Int32) (0 : Int32) (0 : Int32) (0 : Int32) (0 : Int32) (fun _ => 0) (fun _ => 0) (0 : Int32) (0 : Int32)) := hD
          refine lv_istore (lv' := [(4, .int (0 : Int32)), (0, .ref p0), (1, .int a1), (2, .int a2), (3, .int a3)]) hx hb d_S_tape_33 hl (by decide) rfl (fun ls hl => ?_)
          refine lv_iload hx hb d_S_tape_35 (lv_at hl 0 rfl) ?_
          refine lv_ldc (v := 1073741824) hx hb hown (hk _ k_511) d_S_tape_37 ?_
          refine lv_icmp_ne (tgt := 47) hx hb d_S_tape_39 (by decide) (fun c5 => ?_) (fun c5 => absurd c5 (show ¬ (0 : Int32) = (1073741824 : Int32) from (by decide)))
          refine lv_iload hx hb d_S_tape_47 (lv_at hl 0 rfl) ?_
          refine cs_i (W.runS (As := [.int (0 : Int32)]) (rest := []) ⟨hx, hb, hml, hown, hk⟩ (c_W_number l (0 : Int32)) (s_W_number hk k_513 ⟨Nat.le_of_ble_eq_true rfl, Nat.le_of_ble_eq_true rfl⟩) ⟨fun a U g mk q => q, fun U hU hW => ⟨rfl, trivial⟩⟩ rfl rfl hl.1 rfl (lv_room (Nat.le_of_ble_eq_true rfl)) d_S_tape_49 ⟨Nat.le_of_ble_eq_true rfl, Nat.le_of_ble_eq_true rfl⟩) ?_
          refine tpi (y := (0 : Int32)) (by decide) ?_
          exact W.iret (v := (0 : Int32)) hx hb hr (fun t ht hW => ⟨⟨(0 : Int32), (), rfl, by unfold f_S_tape_1; simp only [if_neg c1, if_neg c2, if_neg c3, if_pos c4], trivial⟩, hS.F ht⟩) hS.2.2 d_S_tape_52
        · rw [show (f_M_unit_3 p0 p1 p2 p3 p4 p5 a1) = p5 from by unfold f_M_unit_3; simp only [if_neg c4]]
          refine lv_iload_n hx hb d_S_tape_28 rfl (lv_at hl 2 rfl) ?_
          refine lv_iload_n hx hb d_S_tape_29 rfl (lv_at hl 3 rfl) ?_
          refine kn_i (va_runV (C := "SignMachine$Tape") (As := [.int a2, .int a3]) (rest := []) ⟨hx, hb, hml, hown, hk⟩ (c_T_wordAt_2 l D cI cJ cZ cB p0 p1 p2 p3 p4 p5 H.size a2 a3) (v_T_wordAt_2 hk k_510 ⟨Nat.le_of_ble_eq_true rfl, Nat.le_of_ble_eq_true rfl⟩) (pM_v hK hP hD (ci := 2) (q0 := 5) rfl rfl rfl) rfl rfl hl.1 rfl (lv_room (Nat.le_of_ble_eq_true rfl)) d_S_tape_30 ⟨by decide, by decide⟩) hS hA hD (fun u t H locs ht hB hFr hS => ?_)
          obtain ⟨hP, hD⟩ := hB
          rw [ht] at hP
          have hD := dwk hD hFr
          clear ht hFr
          have hP : va_P D classes (wS10 cI cJ cZ cB p0 p1 p2 p3 p4 p5 (0 : Int32) (0 : Int32) (0 : Int32) (0 : Int32) (0 : Int32) (0 : Int32) (0 : Int32) (0 : Int32) (0 : Int32) (0 : Int32) (fun _ => 0) (fun _ => 0) (0 : Int32) (0 : Int32)) H := hP
          have hD : va_D A (wS10 cI cJ cZ cB p0 p1 p2 p3 p4 p5 (0 : Int32) (0 : Int32) (0 : Int32) (0 : Int32) (0 : Int32) (0 : Int32) (0 : Int32) (0 : Int32) (0 : Int32) (0 : Int32) (fun _ => 0) (fun _ => 0) (0 : Int32) (0 : Int32)) := hD
          refine lv_istore (lv' := [(4, .int (0 : Int32)), (0, .ref p0), (1, .int a1), (2, .int a2), (3, .int a3)]) hx hb d_S_tape_33 hl (by decide) rfl (fun ls hl => ?_)
          refine lv_iload hx hb d_S_tape_35 (lv_at hl 0 rfl) ?_
          refine lv_ldc (v := 1073741824) hx hb hown (hk _ k_511) d_S_tape_37 ?_
          refine lv_icmp_ne (tgt := 47) hx hb d_S_tape_39 (by decide) (fun c6 => ?_) (fun c6 => absurd c6 (show ¬ (0 : Int32) = (1073741824 : Int32) from (by decide)))
          refine lv_iload hx hb d_S_tape_47 (lv_at hl 0 rfl) ?_
          refine cs_i (W.runS (As := [.int (0 : Int32)]) (rest := []) ⟨hx, hb, hml, hown, hk⟩ (c_W_number l (0 : Int32)) (s_W_number hk k_513 ⟨Nat.le_of_ble_eq_true rfl, Nat.le_of_ble_eq_true rfl⟩) ⟨fun a U g mk q => q, fun U hU hW => ⟨rfl, trivial⟩⟩ rfl rfl hl.1 rfl (lv_room (Nat.le_of_ble_eq_true rfl)) d_S_tape_49 ⟨Nat.le_of_ble_eq_true rfl, Nat.le_of_ble_eq_true rfl⟩) ?_
          refine tpi (y := (0 : Int32)) (by decide) ?_
          exact W.iret (v := (0 : Int32)) hx hb hr (fun t ht hW => ⟨⟨(0 : Int32), (), rfl, by unfold f_S_tape_1; simp only [if_neg c1, if_neg c2, if_neg c3, if_neg c4], trivial⟩, hS.F ht⟩) hS.2.2 d_S_tape_52
      · refine lv_ldc (v := (-2000000000)) hx hb hown (hk _ k_509) d_S_tape_17 ?_
        exact W.iret (v := (-2000000000 : Int32)) hx hb hr (fun t ht hW => ⟨⟨(-2000000000 : Int32), (), rfl, by unfold f_S_tape_1; simp only [if_neg c1, if_neg c2, if_pos c3], trivial⟩, hS.F ht⟩) hS.2.2 d_S_tape_19
theorem v_S_tape_1 {R : Room} {s : State} {args : Array Value} {own : String} {index : Nat} (hk : ∀ w ∈ tb, w.before args s = true) (hl : Cond.methodLink own index y_S_tape ∈ tb) (hR : 1 + 1 ≤ R.frames ∧ 8 + (5 + 11) + 22 ≤ R.locals) : CallW R s args own "SignMachine" index y_S_tape b_S_tape 5 (some .int) (.code y_S_tape b_S_tape 5 (some .int) :: tb) ({ frames := 1, cells := 0, slots := 0, locals := 22 }) 0 0 3 := mk_v 3 hk k_507 hl k_505 k_506 k_116 rfl rfl h_S_tape hR

set_option maxHeartbeats 4000000 in
set_option maxRecDepth 100000 in
theorem c_T_init (l : Launch) (D : va_G) (cI cJ cZ cB : ClassId) (h0 sz : Nat) : Met l y_T_init (.code y_T_init b_T_init 1 none :: tb) ({ frames := 1, cells := 0, slots := 0, locals := 12 }) (pM D cI cJ cZ cB [(h0, .inr (2, [.int 0, .null]))] sz [.ref h0]) (qN D (fun _ => True) (fun (u : Unit) => match u with | _ => [(h0, .inr (2, [.int 0, .null]))]) (va_A [(h0, .inr (2, [.int 0, .null]))] sz)) 0 0 (va_A [(h0, .inr (2, [.int 0, .null]))] sz) := by
  refine Met.ofW (cc := b_T_init) (maxL := 1) (ret := none) (by decide) rfl ?_
  intro p e s m args below meth c s₁ B hml hv
  obtain ⟨rfl, hsz, hK, hP, hD0⟩ := hv
  subst hsz
  have hD := hD0.self (sz := s.heap.size)
  generalize hAe : va_A [(h0, .inr (2, [.int 0, .null]))] s.heap.size = A at hD ⊢
  have hA : ∀ q : Nat, s.heap.size ≤ q → A q := fun q h => by rw [← hAe]; exact Or.inr h
  have hS : va_S A s.heap s.heap [] := va_S.rf
  have hx := B.exec
  have hb := B.bytes
  have hr := B.returns
  have hts := atoms_spec (ws := .code y_T_init b_T_init 1 none :: tb) B.pre
  have hk : ∀ w ∈ tb, w.before [.ref h0].toArray s = true := fun w h => hts w (List.mem_cons_of_mem _ h)
  have hown : s.vm.findClass "SignMachine$Tape" = some m.cls := findClass_of_methodNamed B.named
  have hlocks := B.notSynchronized
  have hin : meth.name = "<init>" := (name_of_methodNamed B.named B.method).1
  have hl := lv_entry ([.ref h0]) (n := 1) (Nat.le_of_ble_eq_true rfl)
  rw [lg_entry_eq]
  generalize (lg_sl ([.ref h0]) ++ List.replicate (1 - (lg_sl ([.ref h0])).length) Slot.unset).toArray = ls at hl ⊢
  have hl : lv_has ls 1 [(0, .ref h0)] := hl
  refine lv_aload_n hx hb d_T_init_0 rfl (lv_at hl 0 rfl) ?_
  refine W.objInit hx hb hown (hk _ k_153) (hk _ k_140) (hk _ k_obj) rfl (by rw [hml]; exact hl.1) rfl d_T_init_1 (Nat.le_of_ble_eq_true rfl) (Nat.le_of_ble_eq_true rfl) ?_
  refine W.eq (g2 := F0 m 4 ls []) rfl ?_
  have hP9 := hP.sub (ws' := [(h0, .inr (2, [.int 0, .null]))]) [0] rfl
  have hD9 := hD.sub (ws' := [(h0, .inr (2, [.int 0, .null]))]) [0] (by decide) rfl
  exact W.vret hx hb hr (fun t ht hW => ⟨⟨(), rfl, trivial, by show va_P D classes _ t.heap; rw [ht]; exact hP9, hD9⟩, hS.F ht⟩) hS.2.2 d_T_init_4
theorem i_T_init {R : Room} {s : State} {args : Array Value} {own host : String} {index : Nat} (hk : ∀ w ∈ tb, w.before args s = true) (hl : va_Nw (.methodLinkNest own index y_T_init host) s) (hR : 1 + 1 ≤ R.frames ∧ 8 + (1 + 11) + 12 ≤ R.locals) : va_CN R s args own index y_T_init host b_T_init 1 none (.code y_T_init b_T_init 1 none :: tb) ({ frames := 1, cells := 0, slots := 0, locals := 12 }) 0 0 0 ∧ (y_T_init).name = "<init>" ∧ (Cond.instanceMethod y_T_init).before args s = true := ⟨va_cnB 0 hk (gi_t k_152) rfl rfl rfl hl (hk _ k_118) h_T_init hR, rfl, hk _ k_151⟩

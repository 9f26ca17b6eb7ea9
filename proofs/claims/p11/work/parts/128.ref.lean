set_option maxHeartbeats 8000000 in
set_option maxRecDepth 100000 in
theorem c_X_codeOf (l : Launch)  (a1 : Int32)  : Met l y_X_codeOf (.code y_X_codeOf b_X_codeOf 3 (some .int) :: tb) ({ frames := 1, cells := 0, slots := 0, locals := 20 }) (va_Pc [.int a1] (fun _ => True)) (vp_Si (fun ur => ((-1) ≤ ur.toInt ∧ ur.toInt ≤ 55))) 0 0 (fun _ => False) := by
  refine Met.ofW (cc := b_X_codeOf) (maxL := 3) (ret := (some .int)) (by decide) rfl ?_
  intro p e s m args below meth c s₁ B hml hv
  obtain ⟨rfl, -⟩ := hv
  have hx := B.exec
  have hb := B.bytes
  have hr := B.returns
  have hts := atoms_spec (ws := .code y_X_codeOf b_X_codeOf 3 (some .int) :: tb) B.pre
  have hk : ∀ w ∈ tb, w.before [.int a1].toArray s = true := fun w h => hts w (List.mem_cons_of_mem _ h)
  have hown : s.vm.findClass "SignMachineModel" = some m.cls := findClass_of_methodNamed B.named
  have hlocks := B.notSynchronized
  have hl := lv_entry ([.int a1]) (n := 3) (Nat.le_of_ble_eq_true rfl)
  rw [lg_entry_eq]
  generalize (lg_sl ([.int a1]) ++ List.replicate (3 - (lg_sl ([.int a1])).length) Slot.unset).toArray = ls at hl ⊢
  have hl : lv_has ls 3 [(0, .int a1)] := hl
  clear hts B
  have CUT284 : ∀ (g284l1 : Int32) (g284l2 : Int32)  (ls : Array Slot), ((-1) ≤ g284l1.toInt ∧ g284l1.toInt ≤ 55) → ((-1) ≤ g284l2.toInt ∧ g284l2.toInt ≤ 55) → lv_has ls 3 [(0, .int a1), (1, .int g284l1), (2, .int g284l2)] → W p l e ({ frames := 1, cells := 0, slots := 0, locals := 20 }) s m [.int a1].toArray below meth c s.heap [] 0 0 (MQ below (vp_Si (fun ur => ((-1) ≤ ur.toInt ∧ ur.toInt ≤ 55))) [.int a1].toArray s 0 0 (fun _ => False)) (F0 m 284 ls []) := by
    intro g284l1 g284l2 ls Rg284l1 Rg284l2 hl
    refine lv_iload_n hx hb d_X_codeOf_284 rfl (lv_at hl 1 rfl) ?_
    refine lv_iconst (v := (-1)) hx hb d_X_codeOf_285 (by decide) ?_
    refine lv_icmp_eq (tgt := 293) hx hb d_X_codeOf_286 (by decide) (fun c1 => ?_) (fun c1 => ?_)
    · have gc1 : g284l1.toInt = (-1 : Int) := c_eq c1
      have R2 : (-1) ≤ g284l1.toInt ∧ g284l1.toInt ≤ (-1) := rf_eqX Rg284l1 (show (-1) ≤ (-1 : Int) ∧ (-1 : Int) ≤ (-1) from by decide) gc1 (by decide) (by decide)
      refine lv_iload_n hx hb d_X_codeOf_293 rfl (lv_at hl 2 rfl) ?_
      exact W.iret (v := g284l2) hx hb hr (fun t ht hW => ⟨g284l2, rfl, Rg284l2, ht⟩) (fun q h => absurd h List.not_mem_nil) d_X_codeOf_294
    · have gc1 : g284l1.toInt ≠ (-1 : Int) := c_ne c1
      have R3 : 0 ≤ g284l1.toInt ∧ g284l1.toInt ≤ 55 := rf_neX Rg284l1 (show (-1) ≤ (-1 : Int) ∧ (-1 : Int) ≤ (-1) from by decide) gc1 (by decide) (by decide)
      refine lv_iload_n hx hb d_X_codeOf_289 rfl (lv_at hl 1 rfl) ?_
      refine lv_goto (tgt := 294) hx hb d_X_codeOf_290 (by decide) ?_
      exact W.iret (v := g284l1) hx hb hr (fun t ht hW => ⟨g284l1, rfl, (rgw R3 (by decide) (by decide)), ht⟩) (fun q h => absurd h List.not_mem_nil) d_X_codeOf_294
  have CUT172 : ∀ (g172l1 : Int32)  (ls : Array Slot), ((-1) ≤ g172l1.toInt ∧ g172l1.toInt ≤ 55) → lv_has ls 3 [(0, .int a1), (1, .int g172l1)] → W p l e ({ frames := 1, cells := 0, slots := 0, locals := 20 }) s m [.int a1].toArray below meth c s.heap [] 0 0 (MQ below (vp_Si (fun ur => ((-1) ≤ ur.toInt ∧ ur.toInt ≤ 55))) [.int a1].toArray s 0 0 (fun _ => False)) (F0 m 172 ls []) := by
    intro g172l1 ls Rg172l1 hl
    refine lv_iload_n hx hb d_X_codeOf_172 rfl (lv_at hl 0 rfl) ?_
    refine lv_bipush (v := 42) hx hb d_X_codeOf_173 (by decide) ?_
    refine lv_icmp_ne (tgt := 183) hx hb d_X_codeOf_175 (by decide) (fun c4 => ?_) (fun c4 => ?_)
    · have gc4 : a1.toInt ≠ (42 : Int) := c_ne c4
      refine lv_iload_n hx hb d_X_codeOf_183 rfl (lv_at hl 0 rfl) ?_
      refine lv_bipush (v := 47) hx hb d_X_codeOf_184 (by decide) ?_
      refine lv_icmp_ne (tgt := 194) hx hb d_X_codeOf_186 (by decide) (fun c5 => ?_) (fun c5 => ?_)
      · have gc5 : a1.toInt ≠ (47 : Int) := c_ne c5
        refine lv_iload_n hx hb d_X_codeOf_194 rfl (lv_at hl 0 rfl) ?_
        refine lv_bipush (v := 61) hx hb d_X_codeOf_195 (by decide) ?_
        refine lv_icmp_ne (tgt := 205) hx hb d_X_codeOf_197 (by decide) (fun c6 => ?_) (fun c6 => ?_)
        · have gc6 : a1.toInt ≠ (61 : Int) := c_ne c6
          refine lv_iload_n hx hb d_X_codeOf_205 rfl (lv_at hl 0 rfl) ?_
          refine lv_bipush (v := 36) hx hb d_X_codeOf_206 (by decide) ?_
          refine lv_icmp_ne (tgt := 216) hx hb d_X_codeOf_208 (by decide) (fun c7 => ?_) (fun c7 => ?_)
          · have gc7 : a1.toInt ≠ (36 : Int) := c_ne c7
            refine lv_iload_n hx hb d_X_codeOf_216 rfl (lv_at hl 0 rfl) ?_
            refine lv_bipush (v := 60) hx hb d_X_codeOf_217 (by decide) ?_
            refine lv_icmp_ne (tgt := 227) hx hb d_X_codeOf_219 (by decide) (fun c8 => ?_) (fun c8 => ?_)
            · have gc8 : a1.toInt ≠ (60 : Int) := c_ne c8
              refine lv_iload_n hx hb d_X_codeOf_227 rfl (lv_at hl 0 rfl) ?_
              refine lv_bipush (v := 62) hx hb d_X_codeOf_228 (by decide) ?_
              refine lv_icmp_ne (tgt := 238) hx hb d_X_codeOf_230 (by decide) (fun c9 => ?_) (fun c9 => ?_)
              · have gc9 : a1.toInt ≠ (62 : Int) := c_ne c9
                refine lv_iload_n hx hb d_X_codeOf_238 rfl (lv_at hl 0 rfl) ?_
                refine lv_bipush (v := 64) hx hb d_X_codeOf_239 (by decide) ?_
                refine lv_icmp_ne (tgt := 249) hx hb d_X_codeOf_241 (by decide) (fun c10 => ?_) (fun c10 => ?_)
                · have gc10 : a1.toInt ≠ (64 : Int) := c_ne c10
                  refine lv_iload_n hx hb d_X_codeOf_249 rfl (lv_at hl 0 rfl) ?_
                  refine lv_bipush (v := 59) hx hb d_X_codeOf_250 (by decide) ?_
                  refine lv_icmp_ne (tgt := 260) hx hb d_X_codeOf_252 (by decide) (fun c11 => ?_) (fun c11 => ?_)
                  · have gc11 : a1.toInt ≠ (59 : Int) := c_ne c11
                    refine lv_iload_n hx hb d_X_codeOf_260 rfl (lv_at hl 0 rfl) ?_
                    refine lv_bipush (v := 58) hx hb d_X_codeOf_261 (by decide) ?_
                    refine lv_icmp_ne (tgt := 271) hx hb d_X_codeOf_263 (by decide) (fun c12 => ?_) (fun c12 => ?_)
                    · have gc12 : a1.toInt ≠ (58 : Int) := c_ne c12
                      refine lv_iload_n hx hb d_X_codeOf_271 rfl (lv_at hl 0 rfl) ?_
                      refine lv_bipush (v := 39) hx hb d_X_codeOf_272 (by decide) ?_
                      refine lv_icmp_ne (tgt := 282) hx hb d_X_codeOf_274 (by decide) (fun c13 => ?_) (fun c13 => ?_)
                      · have gc13 : a1.toInt ≠ (39 : Int) := c_ne c13
                        refine lv_iconst (v := (-1)) hx hb d_X_codeOf_282 (by decide) ?_
                        refine lv_istore_n (lv' := [(2, .int (-1 : Int32)), (0, .int a1), (1, .int g172l1)]) hx hb d_X_codeOf_283 rfl hl (by decide) rfl (fun ls hl => ?_)
                        exact CUT284 g172l1 (-1 : Int32) ls Rg172l1 (by decide) (lv_sub hl [1, 2, 0] rfl)
                      · have gc13 : a1.toInt = (39 : Int) := c_eq c13
                        have R14 : 39 ≤ a1.toInt ∧ a1.toInt ≤ 39 := rf_eqX (fr3 a1) (show 39 ≤ (39 : Int) ∧ (39 : Int) ≤ 39 from by decide) gc13 (by decide) (by decide)
                        refine lv_bipush (v := 55) hx hb d_X_codeOf_277 (by decide) ?_
                        refine lv_goto (tgt := 283) hx hb d_X_codeOf_279 (by decide) ?_
                        refine lv_istore_n (lv' := [(2, .int (55 : Int32)), (0, .int a1), (1, .int g172l1)]) hx hb d_X_codeOf_283 rfl hl (by decide) rfl (fun ls hl => ?_)
                        exact CUT284 g172l1 (55 : Int32) ls Rg172l1 (by decide) (lv_sub hl [1, 2, 0] rfl)
                    · have gc12 : a1.toInt = (58 : Int) := c_eq c12
                      have R15 : 58 ≤ a1.toInt ∧ a1.toInt ≤ 58 := rf_eqX (fr3 a1) (show 58 ≤ (58 : Int) ∧ (58 : Int) ≤ 58 from by decide) gc12 (by decide) (by decide)
                      refine lv_bipush (v := 54) hx hb d_X_codeOf_266 (by decide) ?_
                      refine lv_goto (tgt := 283) hx hb d_X_codeOf_268 (by decide) ?_
                      refine lv_istore_n (lv' := [(2, .int (54 : Int32)), (0, .int a1), (1, .int g172l1)]) hx hb d_X_codeOf_283 rfl hl (by decide) rfl (fun ls hl => ?_)
                      exact CUT284 g172l1 (54 : Int32) ls Rg172l1 (by decide) (lv_sub hl [1, 2, 0] rfl)
                  · have gc11 : a1.toInt = (59 : Int) := c_eq c11
                    have R16 : 59 ≤ a1.toInt ∧ a1.toInt ≤ 59 := rf_eqX (fr3 a1) (show 59 ≤ (59 : Int) ∧ (59 : Int) ≤ 59 from by decide) gc11 (by decide) (by decide)
                    refine lv_bipush (v := 53) hx hb d_X_codeOf_255 (by decide) ?_
                    refine lv_goto (tgt := 283) hx hb d_X_codeOf_257 (by decide) ?_
                    refine lv_istore_n (lv' := [(2, .int (53 : Int32)), (0, .int a1), (1, .int g172l1)]) hx hb d_X_codeOf_283 rfl hl (by decide) rfl (fun ls hl => ?_)
                    exact CUT284 g172l1 (53 : Int32) ls Rg172l1 (by decide) (lv_sub hl [1, 2, 0] rfl)
                · have gc10 : a1.toInt = (64 : Int) := c_eq c10
                  have R17 : 64 ≤ a1.toInt ∧ a1.toInt ≤ 64 := rf_eqX (fr3 a1) (show 64 ≤ (64 : Int) ∧ (64 : Int) ≤ 64 from by decide) gc10 (by decide) (by decide)
                  refine lv_bipush (v := 52) hx hb d_X_codeOf_244 (by decide) ?_
                  refine lv_goto (tgt := 283) hx hb d_X_codeOf_246 (by decide) ?_
                  refine lv_istore_n (lv' := [(2, .int (52 : Int32)), (0, .int a1), (1, .int g172l1)]) hx hb d_X_codeOf_283 rfl hl (by decide) rfl (fun ls hl => ?_)
                  exact CUT284 g172l1 (52 : Int32) ls Rg172l1 (by decide) (lv_sub hl [1, 2, 0] rfl)
              · have gc9 : a1.toInt = (62 : Int) := c_eq c9
                have R18 : 62 ≤ a1.toInt ∧ a1.toInt ≤ 62 := rf_eqX (fr3 a1) (show 62 ≤ (62 : Int) ∧ (62 : Int) ≤ 62 from by decide) gc9 (by decide) (by decide)
                refine lv_bipush (v := 51) hx hb d_X_codeOf_233 (by decide) ?_
                refine lv_goto (tgt := 283) hx hb d_X_codeOf_235 (by decide) ?_
                refine lv_istore_n (lv' := [(2, .int (51 : Int32)), (0, .int a1), (1, .int g172l1)]) hx hb d_X_codeOf_283 rfl hl (by decide) rfl (fun ls hl => ?_)
                exact CUT284 g172l1 (51 : Int32) ls Rg172l1 (by decide) (lv_sub hl [1, 2, 0] rfl)
            · have gc8 : a1.toInt = (60 : Int) := c_eq c8
              have R19 : 60 ≤ a1.toInt ∧ a1.toInt ≤ 60 := rf_eqX (fr3 a1) (show 60 ≤ (60 : Int) ∧ (60 : Int) ≤ 60 from by decide) gc8 (by decide) (by decide)
              refine lv_bipush (v := 50) hx hb d_X_codeOf_222 (by decide) ?_
              refine lv_goto (tgt := 283) hx hb d_X_codeOf_224 (by decide) ?_
              refine lv_istore_n (lv' := [(2, .int (50 : Int32)), (0, .int a1), (1, .int g172l1)]) hx hb d_X_codeOf_283 rfl hl (by decide) rfl (fun ls hl => ?_)
              exact CUT284 g172l1 (50 : Int32) ls Rg172l1 (by decide) (lv_sub hl [1, 2, 0] rfl)
          · have gc7 : a1.toInt = (36 : Int) := c_eq c7
            have R20 : 36 ≤ a1.toInt ∧ a1.toInt ≤ 36 := rf_eqX (fr3 a1) (show 36 ≤ (36 : Int) ∧ (36 : Int) ≤ 36 from by decide) gc7 (by decide) (by decide)
            refine lv_bipush (v := 49) hx hb d_X_codeOf_211 (by decide) ?_
            refine lv_goto (tgt := 283) hx hb d_X_codeOf_213 (by decide) ?_
            refine lv_istore_n (lv' := [(2, .int (49 : Int32)), (0, .int a1), (1, .int g172l1)]) hx hb d_X_codeOf_283 rfl hl (by decide) rfl (fun ls hl => ?_)
            exact CUT284 g172l1 (49 : Int32) ls Rg172l1 (by decide) (lv_sub hl [1, 2, 0] rfl)
        · have gc6 : a1.toInt = (61 : Int) := c_eq c6
          have R21 : 61 ≤ a1.toInt ∧ a1.toInt ≤ 61 := rf_eqX (fr3 a1) (show 61 ≤ (61 : Int) ∧ (61 : Int) ≤ 61 from by decide) gc6 (by decide) (by decide)
          refine lv_bipush (v := 48) hx hb d_X_codeOf_200 (by decide) ?_
          refine lv_goto (tgt := 283) hx hb d_X_codeOf_202 (by decide) ?_
          refine lv_istore_n (lv' := [(2, .int (48 : Int32)), (0, .int a1), (1, .int g172l1)]) hx hb d_X_codeOf_283 rfl hl (by decide) rfl (fun ls hl => ?_)
          exact CUT284 g172l1 (48 : Int32) ls Rg172l1 (by decide) (lv_sub hl [1, 2, 0] rfl)
      · have gc5 : a1.toInt = (47 : Int) := c_eq c5
        have R22 : 47 ≤ a1.toInt ∧ a1.toInt ≤ 47 := rf_eqX (fr3 a1) (show 47 ≤ (47 : Int) ∧ (47 : Int) ≤ 47 from by decide) gc5 (by decide) (by decide)
        refine lv_bipush (v := 47) hx hb d_X_codeOf_189 (by decide) ?_
        refine lv_goto (tgt := 283) hx hb d_X_codeOf_191 (by decide) ?_
        refine lv_istore_n (lv' := [(2, .int (47 : Int32)), (0, .int a1), (1, .int g172l1)]) hx hb d_X_codeOf_283 rfl hl (by decide) rfl (fun ls hl => ?_)
        exact CUT284 g172l1 (47 : Int32) ls Rg172l1 (by decide) (lv_sub hl [1, 2, 0] rfl)
    · have gc4 : a1.toInt = (42 : Int) := c_eq c4
      have R23 : 42 ≤ a1.toInt ∧ a1.toInt ≤ 42 := rf_eqX (fr3 a1) (show 42 ≤ (42 : Int) ∧ (42 : Int) ≤ 42 from by decide) gc4 (by decide) (by decide)
      refine lv_bipush (v := 46) hx hb d_X_codeOf_178 (by decide) ?_
      refine lv_goto (tgt := 283) hx hb d_X_codeOf_180 (by decide) ?_
      refine lv_istore_n (lv' := [(2, .int (46 : Int32)), (0, .int a1), (1, .int g172l1)]) hx hb d_X_codeOf_283 rfl hl (by decide) rfl (fun ls hl => ?_)
      exact CUT284 g172l1 (46 : Int32) ls Rg172l1 (by decide) (lv_sub hl [1, 2, 0] rfl)
  refine lv_iload_n hx hb d_X_codeOf_0 rfl (lv_at hl 0 rfl) ?_
  refine lv_bipush (v := 32) hx hb d_X_codeOf_1 (by decide) ?_
  refine lv_icmp_ne (tgt := 8) hx hb d_X_codeOf_3 (by decide) (fun c24 => ?_) (fun c24 => ?_)
  · have gc24 : a1.toInt ≠ (32 : Int) := c_ne c24
    refine lv_iload_n hx hb d_X_codeOf_8 rfl (lv_at hl 0 rfl) ?_
    refine lv_bipush (v := 65) hx hb d_X_codeOf_9 (by decide) ?_
    refine lv_icmp_lt (tgt := 25) hx hb d_X_codeOf_11 (by decide) (fun c25 => ?_) (fun c25 => ?_)
    · have gc25 : a1.toInt < (65 : Int) := c_lt c25
      have R26 : (-2147483648) ≤ a1.toInt ∧ a1.toInt ≤ 64 := rf_ltX (fr3 a1) (show 65 ≤ (65 : Int) ∧ (65 : Int) ≤ 65 from by decide) gc25 (by decide) (by decide)
      refine lv_iload_n hx hb d_X_codeOf_25 rfl (lv_at hl 0 rfl) ?_
      refine lv_bipush (v := 74) hx hb d_X_codeOf_26 (by decide) ?_
      refine lv_icmp_lt (tgt := 42) hx hb d_X_codeOf_28 (by decide) (fun c27 => ?_) (fun c27 => absurd (show a1 < (74 : Int32) from (Int32.lt_iff_toInt_lt.mpr (klt R26 (show 74 ≤ (74 : Int) ∧ (74 : Int) ≤ 74 from by decide) (by decide)))) c27)
      refine lv_iload_n hx hb d_X_codeOf_42 rfl (lv_at hl 0 rfl) ?_
      refine lv_bipush (v := 83) hx hb d_X_codeOf_43 (by decide) ?_
      refine lv_icmp_lt (tgt := 59) hx hb d_X_codeOf_45 (by decide) (fun c28 => ?_) (fun c28 => absurd (show a1 < (83 : Int32) from (Int32.lt_iff_toInt_lt.mpr (klt R26 (show 83 ≤ (83 : Int) ∧ (83 : Int) ≤ 83 from by decide) (by decide)))) c28)
      refine lv_iload_n hx hb d_X_codeOf_59 rfl (lv_at hl 0 rfl) ?_
      refine vp_callSi (W.runS (As := [.int a1]) (rest := []) ⟨hx, hb, hml, hown, hk⟩ (c_X_isDigit l a1 ) (s_X_isDigit hk k_1548 ⟨Nat.le_of_ble_eq_true rfl, Nat.le_of_ble_eq_true rfl⟩) ⟨fun a U g mk q => q, fun U hU hW => ⟨rfl, trivial⟩⟩ rfl rfl hl.1 rfl (lv_room (Nat.le_of_ble_eq_true rfl)) d_X_codeOf_60 ⟨Nat.le_of_ble_eq_true rfl, Nat.le_of_ble_eq_true rfl⟩) (fun rz29 hrz29 => ?_)
      obtain ⟨F0z29, F1z29⟩ := hrz29
      have F0z29 : 0 ≤ rz29.toInt ∧ rz29.toInt ≤ 1 := F0z29
      have F1z29 : rz29.toInt = 1 → (48 ≤ a1.toInt ∧ a1.toInt ≤ 57) := F1z29
      refine lv_if_eq (tgt := 71) hx hb d_X_codeOf_63 (by decide) (fun c30 => ?_) (fun c30 => ?_)
      · have gc30 : rz29.toInt = (0 : Int) := c_eq c30
        have R31 : 0 ≤ rz29.toInt ∧ rz29.toInt ≤ 0 := rf_eqX F0z29 (show 0 ≤ (0 : Int) ∧ (0 : Int) ≤ 0 from by decide) gc30 (by decide) (by decide)
        refine lv_iload_n hx hb d_X_codeOf_71 rfl (lv_at hl 0 rfl) ?_
        refine lv_bipush (v := 126) hx hb d_X_codeOf_72 (by decide) ?_
        refine lv_icmp_ne (tgt := 82) hx hb d_X_codeOf_74 (by decide) (fun c32 => ?_) (fun c32 => absurd c32 (show ¬ a1 = (126 : Int32) from (fun q9 => (knE R26 (show 126 ≤ (126 : Int) ∧ (126 : Int) ≤ 126 from by decide) (by decide)) (c_eq q9))))
        refine lv_iload_n hx hb d_X_codeOf_82 rfl (lv_at hl 0 rfl) ?_
        refine lv_bipush (v := 91) hx hb d_X_codeOf_83 (by decide) ?_
        refine lv_icmp_ne (tgt := 93) hx hb d_X_codeOf_85 (by decide) (fun c33 => ?_) (fun c33 => absurd c33 (show ¬ a1 = (91 : Int32) from (fun q9 => (knE R26 (show 91 ≤ (91 : Int) ∧ (91 : Int) ≤ 91 from by decide) (by decide)) (c_eq q9))))
        refine lv_iload_n hx hb d_X_codeOf_93 rfl (lv_at hl 0 rfl) ?_
        refine lv_bipush (v := 35) hx hb d_X_codeOf_94 (by decide) ?_
        refine lv_icmp_ne (tgt := 104) hx hb d_X_codeOf_96 (by decide) (fun c34 => ?_) (fun c34 => ?_)
        · have gc34 : a1.toInt ≠ (35 : Int) := c_ne c34
          refine lv_iload_n hx hb d_X_codeOf_104 rfl (lv_at hl 0 rfl) ?_
          refine lv_bipush (v := 46) hx hb d_X_codeOf_105 (by decide) ?_
          refine lv_icmp_ne (tgt := 115) hx hb d_X_codeOf_107 (by decide) (fun c35 => ?_) (fun c35 => ?_)
          · have gc35 : a1.toInt ≠ (46 : Int) := c_ne c35
            refine lv_iload_n hx hb d_X_codeOf_115 rfl (lv_at hl 0 rfl) ?_
            refine lv_bipush (v := 44) hx hb d_X_codeOf_116 (by decide) ?_
            refine lv_icmp_ne (tgt := 126) hx hb d_X_codeOf_118 (by decide) (fun c36 => ?_) (fun c36 => ?_)
            · have gc36 : a1.toInt ≠ (44 : Int) := c_ne c36
              refine lv_iload_n hx hb d_X_codeOf_126 rfl (lv_at hl 0 rfl) ?_
              refine lv_bipush (v := 40) hx hb d_X_codeOf_127 (by decide) ?_
              refine lv_icmp_ne (tgt := 137) hx hb d_X_codeOf_129 (by decide) (fun c37 => ?_) (fun c37 => ?_)
              · have gc37 : a1.toInt ≠ (40 : Int) := c_ne c37
                refine lv_iload_n hx hb d_X_codeOf_137 rfl (lv_at hl 0 rfl) ?_
                refine lv_bipush (v := 41) hx hb d_X_codeOf_138 (by decide) ?_
                refine lv_icmp_ne (tgt := 148) hx hb d_X_codeOf_140 (by decide) (fun c38 => ?_) (fun c38 => ?_)
                · have gc38 : a1.toInt ≠ (41 : Int) := c_ne c38
                  refine lv_iload_n hx hb d_X_codeOf_148 rfl (lv_at hl 0 rfl) ?_
                  refine lv_bipush (v := 43) hx hb d_X_codeOf_149 (by decide) ?_
                  refine lv_icmp_ne (tgt := 159) hx hb d_X_codeOf_151 (by decide) (fun c39 => ?_) (fun c39 => ?_)
                  · have gc39 : a1.toInt ≠ (43 : Int) := c_ne c39
                    refine lv_iload_n hx hb d_X_codeOf_159 rfl (lv_at hl 0 rfl) ?_
                    refine lv_bipush (v := 45) hx hb d_X_codeOf_160 (by decide) ?_
                    refine lv_icmp_ne (tgt := 170) hx hb d_X_codeOf_162 (by decide) (fun c40 => ?_) (fun c40 => ?_)
                    · have gc40 : a1.toInt ≠ (45 : Int) := c_ne c40
                      refine lv_iconst (v := (-1)) hx hb d_X_codeOf_170 (by decide) ?_
                      refine lv_istore_n (lv' := [(1, .int (-1 : Int32)), (0, .int a1)]) hx hb d_X_codeOf_171 rfl hl (by decide) rfl (fun ls hl => ?_)
                      exact CUT172 (-1 : Int32) ls (by decide) (lv_sub hl [1, 0] rfl)
                    · have gc40 : a1.toInt = (45 : Int) := c_eq c40
                      have R41 : 45 ≤ a1.toInt ∧ a1.toInt ≤ 45 := rf_eqX R26 (show 45 ≤ (45 : Int) ∧ (45 : Int) ≤ 45 from by decide) gc40 (by decide) (by decide)
                      refine lv_bipush (v := 45) hx hb d_X_codeOf_165 (by decide) ?_
                      refine lv_goto (tgt := 171) hx hb d_X_codeOf_167 (by decide) ?_
                      refine lv_istore_n (lv' := [(1, .int (45 : Int32)), (0, .int a1)]) hx hb d_X_codeOf_171 rfl hl (by decide) rfl (fun ls hl => ?_)
                      exact CUT172 (45 : Int32) ls (by decide) (lv_sub hl [1, 0] rfl)
                  · have gc39 : a1.toInt = (43 : Int) := c_eq c39
                    have R42 : 43 ≤ a1.toInt ∧ a1.toInt ≤ 43 := rf_eqX R26 (show 43 ≤ (43 : Int) ∧ (43 : Int) ≤ 43 from by decide) gc39 (by decide) (by decide)
                    refine lv_bipush (v := 44) hx hb d_X_codeOf_154 (by decide) ?_
                    refine lv_goto (tgt := 171) hx hb d_X_codeOf_156 (by decide) ?_
                    refine lv_istore_n (lv' := [(1, .int (44 : Int32)), (0, .int a1)]) hx hb d_X_codeOf_171 rfl hl (by decide) rfl (fun ls hl => ?_)
                    exact CUT172 (44 : Int32) ls (by decide) (lv_sub hl [1, 0] rfl)
                · have gc38 : a1.toInt = (41 : Int) := c_eq c38
                  have R43 : 41 ≤ a1.toInt ∧ a1.toInt ≤ 41 := rf_eqX R26 (show 41 ≤ (41 : Int) ∧ (41 : Int) ≤ 41 from by decide) gc38 (by decide) (by decide)
                  refine lv_bipush (v := 43) hx hb d_X_codeOf_143 (by decide) ?_
                  refine lv_goto (tgt := 171) hx hb d_X_codeOf_145 (by decide) ?_
                  refine lv_istore_n (lv' := [(1, .int (43 : Int32)), (0, .int a1)]) hx hb d_X_codeOf_171 rfl hl (by decide) rfl (fun ls hl => ?_)
                  exact CUT172 (43 : Int32) ls (by decide) (lv_sub hl [1, 0] rfl)
              · have gc37 : a1.toInt = (40 : Int) := c_eq c37
                have R44 : 40 ≤ a1.toInt ∧ a1.toInt ≤ 40 := rf_eqX R26 (show 40 ≤ (40 : Int) ∧ (40 : Int) ≤ 40 from by decide) gc37 (by decide) (by decide)
                refine lv_bipush (v := 42) hx hb d_X_codeOf_132 (by decide) ?_
                refine lv_goto (tgt := 171) hx hb d_X_codeOf_134 (by decide) ?_
                refine lv_istore_n (lv' := [(1, .int (42 : Int32)), (0, .int a1)]) hx hb d_X_codeOf_171 rfl hl (by decide) rfl (fun ls hl => ?_)
                exact CUT172 (42 : Int32) ls (by decide) (lv_sub hl [1, 0] rfl)
            · have gc36 : a1.toInt = (44 : Int) := c_eq c36
              have R45 : 44 ≤ a1.toInt ∧ a1.toInt ≤ 44 := rf_eqX R26 (show 44 ≤ (44 : Int) ∧ (44 : Int) ≤ 44 from by decide) gc36 (by decide) (by decide)
              refine lv_bipush (v := 41) hx hb d_X_codeOf_121 (by decide) ?_
              refine lv_goto (tgt := 171) hx hb d_X_codeOf_123 (by decide) ?_
              refine lv_istore_n (lv' := [(1, .int (41 : Int32)), (0, .int a1)]) hx hb d_X_codeOf_171 rfl hl (by decide) rfl (fun ls hl => ?_)
              exact CUT172 (41 : Int32) ls (by decide) (lv_sub hl [1, 0] rfl)
          · have gc35 : a1.toInt = (46 : Int) := c_eq c35
            have R46 : 46 ≤ a1.toInt ∧ a1.toInt ≤ 46 := rf_eqX R26 (show 46 ≤ (46 : Int) ∧ (46 : Int) ≤ 46 from by decide) gc35 (by decide) (by decide)
            refine lv_bipush (v := 40) hx hb d_X_codeOf_110 (by decide) ?_
            refine lv_goto (tgt := 171) hx hb d_X_codeOf_112 (by decide) ?_
            refine lv_istore_n (lv' := [(1, .int (40 : Int32)), (0, .int a1)]) hx hb d_X_codeOf_171 rfl hl (by decide) rfl (fun ls hl => ?_)
            exact CUT172 (40 : Int32) ls (by decide) (lv_sub hl [1, 0] rfl)
        · have gc34 : a1.toInt = (35 : Int) := c_eq c34
          have R47 : 35 ≤ a1.toInt ∧ a1.toInt ≤ 35 := rf_eqX R26 (show 35 ≤ (35 : Int) ∧ (35 : Int) ≤ 35 from by decide) gc34 (by decide) (by decide)
          refine lv_bipush (v := 21) hx hb d_X_codeOf_99 (by decide) ?_
          refine lv_goto (tgt := 171) hx hb d_X_codeOf_101 (by decide) ?_
          refine lv_istore_n (lv' := [(1, .int (21 : Int32)), (0, .int a1)]) hx hb d_X_codeOf_171 rfl hl (by decide) rfl (fun ls hl => ?_)
          exact CUT172 (21 : Int32) ls (by decide) (lv_sub hl [1, 0] rfl)
      · have gc30 : rz29.toInt ≠ (0 : Int) := c_ne c30
        have R48 : 1 ≤ rz29.toInt ∧ rz29.toInt ≤ 1 := rf_neX F0z29 (show 0 ≤ (0 : Int) ∧ (0 : Int) ≤ 0 from by decide) gc30 (by decide) (by decide)
        have R49 : 48 ≤ a1.toInt ∧ a1.toInt ≤ 57 := by omega
        refine lv_iload_n hx hb d_X_codeOf_66 rfl (lv_at hl 0 rfl) ?_
        refine lv_bipush (v := 18) hx hb d_X_codeOf_67 (by decide) ?_
        refine lv_isub hx hb d_X_codeOf_69 ?_
        refine lv_topi (fun v50 hv50 => ?_)
        obtain ⟨ev50, Rv50⟩ : v50.toInt = a1.toInt - (18 : Int) ∧ (30 ≤ v50.toInt ∧ v50.toInt ≤ 39) := sb3 hv50 R49 (show 18 ≤ (18 : Int32).toInt ∧ (18 : Int32).toInt ≤ 18 from by decide) (by decide) (by decide) (by decide) (by decide)
        exact W.iret (v := v50) hx hb hr (fun t ht hW => ⟨v50, rfl, (rgw Rv50 (by decide) (by decide)), ht⟩) (fun q h => absurd h List.not_mem_nil) d_X_codeOf_70
    · have gc25 : (65 : Int) ≤ a1.toInt := c_nlt c25
      have R51 : 65 ≤ a1.toInt ∧ a1.toInt ≤ 2147483647 := rf_geX (fr3 a1) (show 65 ≤ (65 : Int) ∧ (65 : Int) ≤ 65 from by decide) gc25 (by decide) (by decide)
      refine lv_iload_n hx hb d_X_codeOf_14 rfl (lv_at hl 0 rfl) ?_
      refine lv_bipush (v := 73) hx hb d_X_codeOf_15 (by decide) ?_
      refine lv_icmp_gt (tgt := 25) hx hb d_X_codeOf_17 (by decide) (fun c52 => ?_) (fun c52 => ?_)
      · have gc52 : (73 : Int) < a1.toInt := c_lt c52
        have R53 : 74 ≤ a1.toInt ∧ a1.toInt ≤ 2147483647 := rf_gtX R51 (show 73 ≤ (73 : Int) ∧ (73 : Int) ≤ 73 from by decide) gc52 (by decide) (by decide)
        refine lv_iload_n hx hb d_X_codeOf_25 rfl (lv_at hl 0 rfl) ?_
        refine lv_bipush (v := 74) hx hb d_X_codeOf_26 (by decide) ?_
        refine lv_icmp_lt (tgt := 42) hx hb d_X_codeOf_28 (by decide) (fun c54 => absurd c54 (show ¬ a1 < (74 : Int32) from (fun q9 => Int.not_lt.mpr (kle (show 74 ≤ (74 : Int) ∧ (74 : Int) ≤ 74 from by decide) R53 (by decide)) (c_lt q9)))) (fun c54 => ?_)
        refine lv_iload_n hx hb d_X_codeOf_31 rfl (lv_at hl 0 rfl) ?_
        refine lv_bipush (v := 82) hx hb d_X_codeOf_32 (by decide) ?_
        refine lv_icmp_gt (tgt := 42) hx hb d_X_codeOf_34 (by decide) (fun c55 => ?_) (fun c55 => ?_)
        · have gc55 : (82 : Int) < a1.toInt := c_lt c55
          have R56 : 83 ≤ a1.toInt ∧ a1.toInt ≤ 2147483647 := rf_gtX R53 (show 82 ≤ (82 : Int) ∧ (82 : Int) ≤ 82 from by decide) gc55 (by decide) (by decide)
          refine lv_iload_n hx hb d_X_codeOf_42 rfl (lv_at hl 0 rfl) ?_
          refine lv_bipush (v := 83) hx hb d_X_codeOf_43 (by decide) ?_
          refine lv_icmp_lt (tgt := 59) hx hb d_X_codeOf_45 (by decide) (fun c57 => absurd c57 (show ¬ a1 < (83 : Int32) from (fun q9 => Int.not_lt.mpr (kle (show 83 ≤ (83 : Int) ∧ (83 : Int) ≤ 83 from by decide) R56 (by decide)) (c_lt q9)))) (fun c57 => ?_)
          refine lv_iload_n hx hb d_X_codeOf_48 rfl (lv_at hl 0 rfl) ?_
          refine lv_bipush (v := 90) hx hb d_X_codeOf_49 (by decide) ?_
          refine lv_icmp_gt (tgt := 59) hx hb d_X_codeOf_51 (by decide) (fun c58 => ?_) (fun c58 => ?_)
          · have gc58 : (90 : Int) < a1.toInt := c_lt c58
            have R59 : 91 ≤ a1.toInt ∧ a1.toInt ≤ 2147483647 := rf_gtX R56 (show 90 ≤ (90 : Int) ∧ (90 : Int) ≤ 90 from by decide) gc58 (by decide) (by decide)
            refine lv_iload_n hx hb d_X_codeOf_59 rfl (lv_at hl 0 rfl) ?_
            refine vp_callSi (W.runS (As := [.int a1]) (rest := []) ⟨hx, hb, hml, hown, hk⟩ (c_X_isDigit l a1 ) (s_X_isDigit hk k_1548 ⟨Nat.le_of_ble_eq_true rfl, Nat.le_of_ble_eq_true rfl⟩) ⟨fun a U g mk q => q, fun U hU hW => ⟨rfl, trivial⟩⟩ rfl rfl hl.1 rfl (lv_room (Nat.le_of_ble_eq_true rfl)) d_X_codeOf_60 ⟨Nat.le_of_ble_eq_true rfl, Nat.le_of_ble_eq_true rfl⟩) (fun rz60 hrz60 => ?_)
            obtain ⟨F0z60, F1z60⟩ := hrz60
            have F0z60 : 0 ≤ rz60.toInt ∧ rz60.toInt ≤ 1 := F0z60
            have F1z60 : rz60.toInt = 1 → (48 ≤ a1.toInt ∧ a1.toInt ≤ 57) := F1z60
            refine lv_if_eq (tgt := 71) hx hb d_X_codeOf_63 (by decide) (fun c61 => ?_) (fun c61 => ?_)
            · have gc61 : rz60.toInt = (0 : Int) := c_eq c61
              have R62 : 0 ≤ rz60.toInt ∧ rz60.toInt ≤ 0 := rf_eqX F0z60 (show 0 ≤ (0 : Int) ∧ (0 : Int) ≤ 0 from by decide) gc61 (by decide) (by decide)
              refine lv_iload_n hx hb d_X_codeOf_71 rfl (lv_at hl 0 rfl) ?_
              refine lv_bipush (v := 126) hx hb d_X_codeOf_72 (by decide) ?_
              refine lv_icmp_ne (tgt := 82) hx hb d_X_codeOf_74 (by decide) (fun c63 => ?_) (fun c63 => ?_)
              · have gc63 : a1.toInt ≠ (126 : Int) := c_ne c63
                refine lv_iload_n hx hb d_X_codeOf_82 rfl (lv_at hl 0 rfl) ?_
                refine lv_bipush (v := 91) hx hb d_X_codeOf_83 (by decide) ?_
                refine lv_icmp_ne (tgt := 93) hx hb d_X_codeOf_85 (by decide) (fun c64 => ?_) (fun c64 => ?_)
                · have gc64 : a1.toInt ≠ (91 : Int) := c_ne c64
                  have R65 : 92 ≤ a1.toInt ∧ a1.toInt ≤ 2147483647 := rf_neX R59 (show 91 ≤ (91 : Int) ∧ (91 : Int) ≤ 91 from by decide) gc64 (by decide) (by decide)
                  refine lv_iload_n hx hb d_X_codeOf_93 rfl (lv_at hl 0 rfl) ?_
                  refine lv_bipush (v := 35) hx hb d_X_codeOf_94 (by decide) ?_
                  refine lv_icmp_ne (tgt := 104) hx hb d_X_codeOf_96 (by decide) (fun c66 => ?_) (fun c66 => absurd c66 (show ¬ a1 = (35 : Int32) from (fun q9 => (knE R65 (show 35 ≤ (35 : Int) ∧ (35 : Int) ≤ 35 from by decide) (by decide)) (c_eq q9))))
                  refine lv_iload_n hx hb d_X_codeOf_104 rfl (lv_at hl 0 rfl) ?_
                  refine lv_bipush (v := 46) hx hb d_X_codeOf_105 (by decide) ?_
                  refine lv_icmp_ne (tgt := 115) hx hb d_X_codeOf_107 (by decide) (fun c67 => ?_) (fun c67 => absurd c67 (show ¬ a1 = (46 : Int32) from (fun q9 => (knE R65 (show 46 ≤ (46 : Int) ∧ (46 : Int) ≤ 46 from by decide) (by decide)) (c_eq q9))))
                  refine lv_iload_n hx hb d_X_codeOf_115 rfl (lv_at hl 0 rfl) ?_
                  refine lv_bipush (v := 44) hx hb d_X_codeOf_116 (by decide) ?_
                  refine lv_icmp_ne (tgt := 126) hx hb d_X_codeOf_118 (by decide) (fun c68 => ?_) (fun c68 => absurd c68 (show ¬ a1 = (44 : Int32) from (fun q9 => (knE R65 (show 44 ≤ (44 : Int) ∧ (44 : Int) ≤ 44 from by decide) (by decide)) (c_eq q9))))
                  refine lv_iload_n hx hb d_X_codeOf_126 rfl (lv_at hl 0 rfl) ?_
                  refine lv_bipush (v := 40) hx hb d_X_codeOf_127 (by decide) ?_
                  refine lv_icmp_ne (tgt := 137) hx hb d_X_codeOf_129 (by decide) (fun c69 => ?_) (fun c69 => absurd c69 (show ¬ a1 = (40 : Int32) from (fun q9 => (knE R65 (show 40 ≤ (40 : Int) ∧ (40 : Int) ≤ 40 from by decide) (by decide)) (c_eq q9))))
                  refine lv_iload_n hx hb d_X_codeOf_137 rfl (lv_at hl 0 rfl) ?_
                  refine lv_bipush (v := 41) hx hb d_X_codeOf_138 (by decide) ?_
                  refine lv_icmp_ne (tgt := 148) hx hb d_X_codeOf_140 (by decide) (fun c70 => ?_) (fun c70 => absurd c70 (show ¬ a1 = (41 : Int32) from (fun q9 => (knE R65 (show 41 ≤ (41 : Int) ∧ (41 : Int) ≤ 41 from by decide) (by decide)) (c_eq q9))))
                  refine lv_iload_n hx hb d_X_codeOf_148 rfl (lv_at hl 0 rfl) ?_
                  refine lv_bipush (v := 43) hx hb d_X_codeOf_149 (by decide) ?_
                  refine lv_icmp_ne (tgt := 159) hx hb d_X_codeOf_151 (by decide) (fun c71 => ?_) (fun c71 => absurd c71 (show ¬ a1 = (43 : Int32) from (fun q9 => (knE R65 (show 43 ≤ (43 : Int) ∧ (43 : Int) ≤ 43 from by decide) (by decide)) (c_eq q9))))
                  refine lv_iload_n hx hb d_X_codeOf_159 rfl (lv_at hl 0 rfl) ?_
                  refine lv_bipush (v := 45) hx hb d_X_codeOf_160 (by decide) ?_
                  refine lv_icmp_ne (tgt := 170) hx hb d_X_codeOf_162 (by decide) (fun c72 => ?_) (fun c72 => absurd c72 (show ¬ a1 = (45 : Int32) from (fun q9 => (knE R65 (show 45 ≤ (45 : Int) ∧ (45 : Int) ≤ 45 from by decide) (by decide)) (c_eq q9))))
                  refine lv_iconst (v := (-1)) hx hb d_X_codeOf_170 (by decide) ?_
                  refine lv_istore_n (lv' := [(1, .int (-1 : Int32)), (0, .int a1)]) hx hb d_X_codeOf_171 rfl hl (by decide) rfl (fun ls hl => ?_)
                  exact CUT172 (-1 : Int32) ls (by decide) (lv_sub hl [1, 0] rfl)
                · have gc64 : a1.toInt = (91 : Int) := c_eq c64
                  have R73 : 91 ≤ a1.toInt ∧ a1.toInt ≤ 91 := rf_eqX R59 (show 91 ≤ (91 : Int) ∧ (91 : Int) ≤ 91 from by decide) gc64 (by decide) (by decide)
                  refine lv_bipush (v := 20) hx hb d_X_codeOf_88 (by decide) ?_
                  refine lv_goto (tgt := 171) hx hb d_X_codeOf_90 (by decide) ?_
                  refine lv_istore_n (lv' := [(1, .int (20 : Int32)), (0, .int a1)]) hx hb d_X_codeOf_171 rfl hl (by decide) rfl (fun ls hl => ?_)
                  exact CUT172 (20 : Int32) ls (by decide) (lv_sub hl [1, 0] rfl)
              · have gc63 : a1.toInt = (126 : Int) := c_eq c63
                have R74 : 126 ≤ a1.toInt ∧ a1.toInt ≤ 126 := rf_eqX R59 (show 126 ≤ (126 : Int) ∧ (126 : Int) ≤ 126 from by decide) gc63 (by decide) (by decide)
                refine lv_bipush (v := 10) hx hb d_X_codeOf_77 (by decide) ?_
                refine lv_goto (tgt := 171) hx hb d_X_codeOf_79 (by decide) ?_
                refine lv_istore_n (lv' := [(1, .int (10 : Int32)), (0, .int a1)]) hx hb d_X_codeOf_171 rfl hl (by decide) rfl (fun ls hl => ?_)
                exact CUT172 (10 : Int32) ls (by decide) (lv_sub hl [1, 0] rfl)
            · have gc61 : rz60.toInt ≠ (0 : Int) := c_ne c61
              have R75 : 1 ≤ rz60.toInt ∧ rz60.toInt ≤ 1 := rf_neX F0z60 (show 0 ≤ (0 : Int) ∧ (0 : Int) ≤ 0 from by decide) gc61 (by decide) (by decide)
              have R76 : 91 ≤ a1.toInt ∧ a1.toInt ≤ 57 := by omega
              refine lv_iload_n hx hb d_X_codeOf_66 rfl (lv_at hl 0 rfl) ?_
              refine lv_bipush (v := 18) hx hb d_X_codeOf_67 (by decide) ?_
              refine lv_isub hx hb d_X_codeOf_69 ?_
              refine lv_topi (fun v77 hv77 => ?_)
              obtain ⟨ev77, Rv77⟩ : v77.toInt = a1.toInt - (18 : Int) ∧ (73 ≤ v77.toInt ∧ v77.toInt ≤ 39) := sb3 hv77 R76 (show 18 ≤ (18 : Int32).toInt ∧ (18 : Int32).toInt ≤ 18 from by decide) (by decide) (by decide) (by decide) (by decide)
              exact W.iret (v := v77) hx hb hr (fun t ht hW => ⟨v77, rfl, (rgw Rv77 (by decide) (by decide)), ht⟩) (fun q h => absurd h List.not_mem_nil) d_X_codeOf_70
          · have gc58 : a1.toInt ≤ (90 : Int) := c_nlt c58
            have R78 : 83 ≤ a1.toInt ∧ a1.toInt ≤ 90 := rf_leX R56 (show 90 ≤ (90 : Int) ∧ (90 : Int) ≤ 90 from by decide) gc58 (by decide) (by decide)
            refine lv_iload_n hx hb d_X_codeOf_54 rfl (lv_at hl 0 rfl) ?_
            refine lv_bipush (v := 61) hx hb d_X_codeOf_55 (by decide) ?_
            refine lv_isub hx hb d_X_codeOf_57 ?_
            refine lv_topi (fun v79 hv79 => ?_)
            obtain ⟨ev79, Rv79⟩ : v79.toInt = a1.toInt - (61 : Int) ∧ (22 ≤ v79.toInt ∧ v79.toInt ≤ 29) := sb3 hv79 R78 (show 61 ≤ (61 : Int32).toInt ∧ (61 : Int32).toInt ≤ 61 from by decide) (by decide) (by decide) (by decide) (by decide)
            exact W.iret (v := v79) hx hb hr (fun t ht hW => ⟨v79, rfl, (rgw Rv79 (by decide) (by decide)), ht⟩) (fun q h => absurd h List.not_mem_nil) d_X_codeOf_58
        · have gc55 : a1.toInt ≤ (82 : Int) := c_nlt c55
          have R80 : 74 ≤ a1.toInt ∧ a1.toInt ≤ 82 := rf_leX R53 (show 82 ≤ (82 : Int) ∧ (82 : Int) ≤ 82 from by decide) gc55 (by decide) (by decide)
          refine lv_iload_n hx hb d_X_codeOf_37 rfl (lv_at hl 0 rfl) ?_
          refine lv_bipush (v := 63) hx hb d_X_codeOf_38 (by decide) ?_
          refine lv_isub hx hb d_X_codeOf_40 ?_
          refine lv_topi (fun v81 hv81 => ?_)
          obtain ⟨ev81, Rv81⟩ : v81.toInt = a1.toInt - (63 : Int) ∧ (11 ≤ v81.toInt ∧ v81.toInt ≤ 19) := sb3 hv81 R80 (show 63 ≤ (63 : Int32).toInt ∧ (63 : Int32).toInt ≤ 63 from by decide) (by decide) (by decide) (by decide) (by decide)
          exact W.iret (v := v81) hx hb hr (fun t ht hW => ⟨v81, rfl, (rgw Rv81 (by decide) (by decide)), ht⟩) (fun q h => absurd h List.not_mem_nil) d_X_codeOf_41
      · have gc52 : a1.toInt ≤ (73 : Int) := c_nlt c52
        have R82 : 65 ≤ a1.toInt ∧ a1.toInt ≤ 73 := rf_leX R51 (show 73 ≤ (73 : Int) ∧ (73 : Int) ≤ 73 from by decide) gc52 (by decide) (by decide)
        refine lv_iload_n hx hb d_X_codeOf_20 rfl (lv_at hl 0 rfl) ?_
        refine lv_bipush (v := 64) hx hb d_X_codeOf_21 (by decide) ?_
        refine lv_isub hx hb d_X_codeOf_23 ?_
        refine lv_topi (fun v83 hv83 => ?_)
        obtain ⟨ev83, Rv83⟩ : v83.toInt = a1.toInt - (64 : Int) ∧ (1 ≤ v83.toInt ∧ v83.toInt ≤ 9) := sb3 hv83 R82 (show 64 ≤ (64 : Int32).toInt ∧ (64 : Int32).toInt ≤ 64 from by decide) (by decide) (by decide) (by decide) (by decide)
        exact W.iret (v := v83) hx hb hr (fun t ht hW => ⟨v83, rfl, (rgw Rv83 (by decide) (by decide)), ht⟩) (fun q h => absurd h List.not_mem_nil) d_X_codeOf_24
  · have gc24 : a1.toInt = (32 : Int) := c_eq c24
    have R84 : 32 ≤ a1.toInt ∧ a1.toInt ≤ 32 := rf_eqX (fr3 a1) (show 32 ≤ (32 : Int) ∧ (32 : Int) ≤ 32 from by decide) gc24 (by decide) (by decide)
    refine lv_iconst (v := 0) hx hb d_X_codeOf_6 (by decide) ?_
    exact W.iret (v := (0 : Int32)) hx hb hr (fun t ht hW => ⟨(0 : Int32), rfl, (by decide), ht⟩) (fun q h => absurd h List.not_mem_nil) d_X_codeOf_7
theorem s_X_codeOf {R : Room} {s : State} {args : Array Value} {own : String} {index : Nat} (hk : ∀ w ∈ tb, w.before args s = true) (hl : Cond.methodLink own index y_X_codeOf ∈ tb) (hR : 1 + 1 ≤ R.frames ∧ 8 + (3 + 11) + 20 ≤ R.locals) : CallB R s args own index y_X_codeOf b_X_codeOf 3 (some .int) (.code y_X_codeOf b_X_codeOf 3 (some .int) :: tb) ({ frames := 1, cells := 0, slots := 0, locals := 20 }) 0 0 1 ∧ (Cond.static y_X_codeOf).before args s = true := mk_s 1 hk k_1640 hl k_1639 k_119 rfl rfl h_X_codeOf hR
set_option maxHeartbeats 8000000 in
set_option maxRecDepth 100000 in
theorem c_X_readLabel (l : Launch) (D : va_G) (cI cJ cZ cB : ClassId) (p0 p1 p2 p3 p4 p5 p6 p7 p8 p9 p10 p11 p12 p13 p14 p15 p16 p17 p18 p19 p20 p21 p22 p23 p24 p25 : Nat) (sz : Nat) (x0_4 : Int32) (x0_5 : Int32) (x0_6 : Int32) (x0_7 : Int32) (x0_8 : Int32) (x0_12 : Int32) (x0_13 : Int32) (x0_14 : Int32) (x0_15 : Int32) (x0_16 : Int32) (x0_17 : Int32) (x0_18 : Int32) (x0_22 : Int32) (x0_23 : Int32) (x0_24 : Int32) (x0_25 : Int32) (x0_26 : Int32) (x0_27 : Int32) (x0_28 : Int32) (x0_29 : Int32) (x0_30 : Int32) (x0_31 : Int32) (x0_32 : Int32) (x0_36 : Int32) (x0_39 : Int32) (x0_40 : Int64) (x0_44 : Int32) (x0_49 : Int32) (x0_51 : Int32) (x0_53 : Int32) (x0_54 : Int32) (x0_55 : Int64) (x0_56 : Int32) (x0_57 : Int32) (x0_58 : Int32) (x0_59 : Int32) (x0_60 : Int32) (x0_61 : Int32) (x0_62 : Int64) (y1 : Nat → Int32) (y2 : Nat → Int32) (y3 : Nat → Int32) (y4 : Nat → Int32) (y5 : Nat → Int32) (y6 : Nat → Int32) (y7 : Nat → Int32) (y8 : Nat → Int32) (y9 : Nat → Int32) (y10 : Nat → Int32) (y11 : Nat → Int64) (y12 : Nat → Int32) (y13 : Nat → Int64) (y14 : Nat → Int32) (y15 : Nat → Int64) (y16 : Nat → Int32) (y17 : Nat → Int32) (y18 : Nat → Int32) (y19 : Nat → Int32) (y20 : Nat → Int32) (y21 : Nat → Int32) (y22 : Nat → Int32) (y23 : Nat → Int32) (y24 : Nat → Int64) (y25 : Nat → Int64)  (Rx0_24 : 0 ≤ x0_24.toInt ∧ x0_24.toInt ≤ 4000) (Rx0_25 : 0 ≤ x0_25.toInt ∧ x0_25.toInt ≤ 4000) (Rx0_26 : 0 ≤ x0_26.toInt ∧ x0_26.toInt ≤ 6) (Rx0_54 : 0 ≤ x0_54.toInt ∧ x0_54.toInt ≤ 3) (Rx0_61 : 0 ≤ x0_61.toInt ∧ x0_61.toInt ≤ 3) (Q0 : x0_25.toInt ≤ x0_24.toInt) : Met l y_X_readLabel (.code y_X_readLabel b_X_readLabel 2 none :: tb) ({ frames := 2, cells := 0, slots := 0, locals := 49 }) (pM D cI cJ cZ cB (wS50 cI cJ cZ cB p0 p1 p2 p3 p4 p5 p6 p7 p8 p9 p10 p11 p12 p13 p14 p15 p16 p17 p18 p19 p20 p21 p22 p23 p24 p25 x0_4 x0_5 x0_6 x0_7 x0_8 x0_12 x0_13 x0_14 x0_15 x0_16 x0_17 x0_18 x0_22 x0_23 x0_24 x0_25 x0_26 x0_27 x0_28 x0_29 x0_30 x0_31 x0_32 x0_36 x0_39 x0_40 x0_44 x0_49 x0_51 x0_53 x0_54 x0_55 x0_56 x0_57 x0_58 x0_59 x0_60 x0_61 x0_62 y1 y2 y3 y4 y5 y6 y7 y8 y9 y10 y11 y12 y13 y14 y15 y16 y17 y18 y19 y20 y21 y22 y23 y24 y25) sz [.ref p0]) (va_Qv (fun (_ : Unit) => True) (fun _ t => ∃ u_x0_25 : Int32, ∃ u_x0_26 : Int32, ∃ u_x0_54 : Int32, ∃ u_x0_55 : Int64, ∃ u_x0_56 : Int32, ∃ u_x0_61 : Int32, ∃ u_x0_62 : Int64, (0 ≤ u_x0_25.toInt ∧ u_x0_25.toInt ≤ 4000) ∧ (0 ≤ u_x0_26.toInt ∧ u_x0_26.toInt ≤ 6) ∧ (0 ≤ u_x0_54.toInt ∧ u_x0_54.toInt ≤ 3) ∧ (0 ≤ u_x0_61.toInt ∧ u_x0_61.toInt ≤ 3) ∧ (x0_25.toInt ≤ u_x0_25.toInt ∧ u_x0_25.toInt ≤ x0_24.toInt) ∧ (1 ≤ x0_26.toInt → 1 ≤ u_x0_26.toInt) ∧ (u_x0_61.toInt = 3 → (0 ≤ u_x0_62.toInt ∧ u_x0_62.toInt ≤ 9)) ∧ va_P D classes (wS50 cI cJ cZ cB p0 p1 p2 p3 p4 p5 p6 p7 p8 p9 p10 p11 p12 p13 p14 p15 p16 p17 p18 p19 p20 p21 p22 p23 p24 p25 x0_4 x0_5 x0_6 x0_7 x0_8 x0_12 x0_13 x0_14 x0_15 x0_16 x0_17 x0_18 x0_22 x0_23 x0_24 u_x0_25 u_x0_26 x0_27 x0_28 x0_29 x0_30 x0_31 x0_32 x0_36 x0_39 x0_40 x0_44 x0_49 x0_51 x0_53 u_x0_54 u_x0_55 u_x0_56 x0_57 x0_58 x0_59 x0_60 u_x0_61 u_x0_62 y1 y2 y3 y4 y5 y6 y7 y8 y9 y10 y11 y12 y13 y14 y15 y16 y17 y18 y19 y20 y21 y22 y23 y24 y25) t.heap ∧ va_D (va_A (wS50 cI cJ cZ cB p0 p1 p2 p3 p4 p5 p6 p7 p8 p9 p10 p11 p12 p13 p14 p15 p16 p17 p18 p19 p20 p21 p22 p23 p24 p25 x0_4 x0_5 x0_6 x0_7 x0_8 x0_12 x0_13 x0_14 x0_15 x0_16 x0_17 x0_18 x0_22 x0_23 x0_24 x0_25 x0_26 x0_27 x0_28 x0_29 x0_30 x0_31 x0_32 x0_36 x0_39 x0_40 x0_44 x0_49 x0_51 x0_53 x0_54 x0_55 x0_56 x0_57 x0_58 x0_59 x0_60 x0_61 x0_62 y1 y2 y3 y4 y5 y6 y7 y8 y9 y10 y11 y12 y13 y14 y15 y16 y17 y18 y19 y20 y21 y22 y23 y24 y25) sz) (wS50 cI cJ cZ cB p0 p1 p2 p3 p4 p5 p6 p7 p8 p9 p10 p11 p12 p13 p14 p15 p16 p17 p18 p19 p20 p21 p22 p23 p24 p25 x0_4 x0_5 x0_6 x0_7 x0_8 x0_12 x0_13 x0_14 x0_15 x0_16 x0_17 x0_18 x0_22 x0_23 x0_24 u_x0_25 u_x0_26 x0_27 x0_28 x0_29 x0_30 x0_31 x0_32 x0_36 x0_39 x0_40 x0_44 x0_49 x0_51 x0_53 u_x0_54 u_x0_55 u_x0_56 x0_57 x0_58 x0_59 x0_60 u_x0_61 u_x0_62 y1 y2 y3 y4 y5 y6 y7 y8 y9 y10 y11 y12 y13 y14 y15 y16 y17 y18 y19 y20 y21 y22 y23 y24 y25)) (va_A (wS50 cI cJ cZ cB p0 p1 p2 p3 p4 p5 p6 p7 p8 p9 p10 p11 p12 p13 p14 p15 p16 p17 p18 p19 p20 p21 p22 p23 p24 p25 x0_4 x0_5 x0_6 x0_7 x0_8 x0_12 x0_13 x0_14 x0_15 x0_16 x0_17 x0_18 x0_22 x0_23 x0_24 x0_25 x0_26 x0_27 x0_28 x0_29 x0_30 x0_31 x0_32 x0_36 x0_39 x0_40 x0_44 x0_49 x0_51 x0_53 x0_54 x0_55 x0_56 x0_57 x0_58 x0_59 x0_60 x0_61 x0_62 y1 y2 y3 y4 y5 y6 y7 y8 y9 y10 y11 y12 y13 y14 y15 y16 y17 y18 y19 y20 y21 y22 y23 y24 y25) sz)) 0 0 (va_A (wS50 cI cJ cZ cB p0 p1 p2 p3 p4 p5 p6 p7 p8 p9 p10 p11 p12 p13 p14 p15 p16 p17 p18 p19 p20 p21 p22 p23 p24 p25 x0_4 x0_5 x0_6 x0_7 x0_8 x0_12 x0_13 x0_14 x0_15 x0_16 x0_17 x0_18 x0_22 x0_23 x0_24 x0_25 x0_26 x0_27 x0_28 x0_29 x0_30 x0_31 x0_32 x0_36 x0_39 x0_40 x0_44 x0_49 x0_51 x0_53 x0_54 x0_55 x0_56 x0_57 x0_58 x0_59 x0_60 x0_61 x0_62 y1 y2 y3 y4 y5 y6 y7 y8 y9 y10 y11 y12 y13 y14 y15 y16 y17 y18 y19 y20 y21 y22 y23 y24 y25) sz) := by
  refine Met.ofW (cc := b_X_readLabel) (maxL := 2) (ret := none) (by decide) rfl ?_
  intro p e s m args below meth c s₁ B hml hv
  obtain ⟨rfl, hsz, hK, hP, hD0⟩ := hv
  subst hsz
  have hD := hD0.self (sz := s.heap.size)
  generalize hAe : va_A (wS50 cI cJ cZ cB p0 p1 p2 p3 p4 p5 p6 p7 p8 p9 p10 p11 p12 p13 p14 p15 p16 p17 p18 p19 p20 p21 p22 p23 p24 p25 x0_4 x0_5 x0_6 x0_7 x0_8 x0_12 x0_13 x0_14 x0_15 x0_16 x0_17 x0_18 x0_22 x0_23 x0_24 x0_25 x0_26 x0_27 x0_28 x0_29 x0_30 x0_31 x0_32 x0_36 x0_39 x0_40 x0_44 x0_49 x0_51 x0_53 x0_54 x0_55 x0_56 x0_57 x0_58 x0_59 x0_60 x0_61 x0_62 y1 y2 y3 y4 y5 y6 y7 y8 y9 y10 y11 y12 y13 y14 y15 y16 y17 y18 y19 y20 y21 y22 y23 y24 y25) s.heap.size = A at hD ⊢
  have hA : ∀ q : Nat, s.heap.size ≤ q → A q := fun q h => by rw [← hAe]; exact Or.inr h
  clear hAe hD0
  have hS : va_S A s.heap s.heap [] := va_S.rf
  have hx := B.exec
  have hb := B.bytes
  have hr := B.returns
  have hts := atoms_spec (ws := .code y_X_readLabel b_X_readLabel 2 none :: tb) B.pre
  have hk : ∀ w ∈ tb, w.before [.ref p0].toArray s = true := fun w h => hts w (List.mem_cons_of_mem _ h)
  have hown : s.vm.findClass "SignMachineModel" = some m.cls := findClass_of_methodNamed B.named
  have hlocks := B.notSynchronized
  have hl := lv_entry ([.ref p0]) (n := 2) (Nat.le_of_ble_eq_true rfl)
  rw [lg_entry_eq]
  generalize (lg_sl ([.ref p0]) ++ List.replicate (2 - (lg_sl ([.ref p0])).length) Slot.unset).toArray = ls at hl ⊢
  have hl : lv_has ls 2 [(0, .ref p0)] := hl
  clear hts B
  refine lv_aload_n hx hb d_X_readLabel_0 rfl (lv_at hl 0 rfl) ?_
  refine lv_iconst (v := 0) hx hb d_X_readLabel_1 (by decide) ?_
  refine va_put (D := D) (ci := 7) (v := .int (0 : Int32)) (ty := .int) (C := "SignMachineModel") (T := F_X) (N := 64) hx hb hk fi_X ft_X ft_X_ok fn_X hown hK.1 hP hD hS 0 rfl rfl 61 (by decide) (hk _ k_1182) (fun _ h9 => h9) rfl (by decide +kernel) rfl rfl (Nat.le_of_ble_eq_true rfl) d_X_readLabel_2 (fun H locs hP hD hS => ?_)
  have hP : va_P D classes (wS50 cI cJ cZ cB p0 p1 p2 p3 p4 p5 p6 p7 p8 p9 p10 p11 p12 p13 p14 p15 p16 p17 p18 p19 p20 p21 p22 p23 p24 p25 x0_4 x0_5 x0_6 x0_7 x0_8 x0_12 x0_13 x0_14 x0_15 x0_16 x0_17 x0_18 x0_22 x0_23 x0_24 x0_25 x0_26 x0_27 x0_28 x0_29 x0_30 x0_31 x0_32 x0_36 x0_39 x0_40 x0_44 x0_49 x0_51 x0_53 x0_54 x0_55 x0_56 x0_57 x0_58 x0_59 x0_60 (0 : Int32) x0_62 y1 y2 y3 y4 y5 y6 y7 y8 y9 y10 y11 y12 y13 y14 y15 y16 y17 y18 y19 y20 y21 y22 y23 y24 y25) H := hP
  have hD : va_D A (wS50 cI cJ cZ cB p0 p1 p2 p3 p4 p5 p6 p7 p8 p9 p10 p11 p12 p13 p14 p15 p16 p17 p18 p19 p20 p21 p22 p23 p24 p25 x0_4 x0_5 x0_6 x0_7 x0_8 x0_12 x0_13 x0_14 x0_15 x0_16 x0_17 x0_18 x0_22 x0_23 x0_24 x0_25 x0_26 x0_27 x0_28 x0_29 x0_30 x0_31 x0_32 x0_36 x0_39 x0_40 x0_44 x0_49 x0_51 x0_53 x0_54 x0_55 x0_56 x0_57 x0_58 x0_59 x0_60 (0 : Int32) x0_62 y1 y2 y3 y4 y5 y6 y7 y8 y9 y10 y11 y12 y13 y14 y15 y16 y17 y18 y19 y20 y21 y22 y23 y24 y25) := hD
  refine lv_aload_n hx hb d_X_readLabel_5 rfl (lv_at hl 0 rfl) ?_
  refine sn_i (va_runV (C := "SignMachineModel") (As := []) (rest := []) ⟨hx, hb, hml, hown, hk⟩ (c_X_here l D cI cJ cZ cB p0 p1 p2 p3 p4 p5 p6 p7 p8 p9 p10 p11 p12 p13 p14 p15 p16 p17 p18 p19 p20 p21 p22 p23 p24 p25 H.size x0_4 x0_5 x0_6 x0_7 x0_8 x0_12 x0_13 x0_14 x0_15 x0_16 x0_17 x0_18 x0_22 x0_23 x0_24 x0_25 x0_26 x0_27 x0_28 x0_29 x0_30 x0_31 x0_32 x0_36 x0_39 x0_40 x0_44 x0_49 x0_51 x0_53 x0_54 x0_55 x0_56 x0_57 x0_58 x0_59 x0_60 (0 : Int32) x0_62 y1 y2 y3 y4 y5 y6 y7 y8 y9 y10 y11 y12 y13 y14 y15 y16 y17 y18 y19 y20 y21 y22 y23 y24 y25  Rx0_24 Rx0_25) (v_X_here hk k_1537 ⟨Nat.le_of_ble_eq_true rfl, Nat.le_of_ble_eq_true rfl⟩) (pM_v hK hP hD (ci := 7) (q0 := 0) rfl rfl rfl) rfl rfl hl.1 rfl (lv_room (Nat.le_of_ble_eq_true rfl)) d_X_readLabel_6 ⟨Nat.le_of_ble_eq_true rfl, Nat.le_of_ble_eq_true rfl⟩) hS hA hD (fun rz1 u t H locs hr0 ht hB hFr hS => ?_)
  subst hr0
  obtain ⟨F0z1, hP, hD⟩ := hB
  have F0z1 : (x0_25.toInt < x0_24.toInt ∧ rz1.toInt = (y10 (x0_25).toNatClampNeg).toInt) ∨ (x0_24.toInt ≤ x0_25.toInt ∧ rz1.toInt = -1) := F0z1
  rw [ht] at hP
  have hD := dwk hD hFr
  clear ht hFr
  have hP : va_P D classes (wS50 cI cJ cZ cB p0 p1 p2 p3 p4 p5 p6 p7 p8 p9 p10 p11 p12 p13 p14 p15 p16 p17 p18 p19 p20 p21 p22 p23 p24 p25 x0_4 x0_5 x0_6 x0_7 x0_8 x0_12 x0_13 x0_14 x0_15 x0_16 x0_17 x0_18 x0_22 x0_23 x0_24 x0_25 x0_26 x0_27 x0_28 x0_29 x0_30 x0_31 x0_32 x0_36 x0_39 x0_40 x0_44 x0_49 x0_51 x0_53 x0_54 x0_55 x0_56 x0_57 x0_58 x0_59 x0_60 (0 : Int32) x0_62 y1 y2 y3 y4 y5 y6 y7 y8 y9 y10 y11 y12 y13 y14 y15 y16 y17 y18 y19 y20 y21 y22 y23 y24 y25) H := hP
  have hD : va_D A (wS50 cI cJ cZ cB p0 p1 p2 p3 p4 p5 p6 p7 p8 p9 p10 p11 p12 p13 p14 p15 p16 p17 p18 p19 p20 p21 p22 p23 p24 p25 x0_4 x0_5 x0_6 x0_7 x0_8 x0_12 x0_13 x0_14 x0_15 x0_16 x0_17 x0_18 x0_22 x0_23 x0_24 x0_25 x0_26 x0_27 x0_28 x0_29 x0_30 x0_31 x0_32 x0_36 x0_39 x0_40 x0_44 x0_49 x0_51 x0_53 x0_54 x0_55 x0_56 x0_57 x0_58 x0_59 x0_60 (0 : Int32) x0_62 y1 y2 y3 y4 y5 y6 y7 y8 y9 y10 y11 y12 y13 y14 y15 y16 y17 y18 y19 y20 y21 y22 y23 y24 y25) := hD
  refine lv_bipush (v := 32) hx hb d_X_readLabel_9 (by decide) ?_
  refine lv_icmp_ne (tgt := 15) hx hb d_X_readLabel_11 (by decide) (fun c2 => ?_) (fun c2 => ?_)
  · have gc2 : rz1.toInt ≠ (32 : Int) := c_ne c2
    refine lv_aload_n hx hb d_X_readLabel_15 rfl (lv_at hl 0 rfl) ?_
    refine va_get (D := D) (ci := 7) (v := .int x0_25) (C := "SignMachineModel") (T := F_X) (N := 64) hx hb hk fi_X hown hK.1 hP 0 rfl rfl 25 (by decide) (hk _ k_1146) (fun _ h9 => h9) rfl d_X_readLabel_16 ?_
    refine lv_istore_n (lv' := [(1, .int x0_25), (0, .ref p0)]) hx hb d_X_readLabel_19 rfl hl (by decide) rfl (fun ls hl => ?_)
    have CUT20 : ∀ (n : Nat) (g20l1 : Int32)  (H : Heap) (locs : List Loc) (ls : Array Slot), (x0_24.toInt - g20l1.toInt) < (n : Int) → (0 ≤ g20l1.toInt ∧ g20l1.toInt ≤ 4000) → (g20l1.toInt ≤ x0_24.toInt) → va_P D classes (wS50 cI cJ cZ cB p0 p1 p2 p3 p4 p5 p6 p7 p8 p9 p10 p11 p12 p13 p14 p15 p16 p17 p18 p19 p20 p21 p22 p23 p24 p25 x0_4 x0_5 x0_6 x0_7 x0_8 x0_12 x0_13 x0_14 x0_15 x0_16 x0_17 x0_18 x0_22 x0_23 x0_24 x0_25 x0_26 x0_27 x0_28 x0_29 x0_30 x0_31 x0_32 x0_36 x0_39 x0_40 x0_44 x0_49 x0_51 x0_53 x0_54 x0_55 x0_56 x0_57 x0_58 x0_59 x0_60 (0 : Int32) x0_62 y1 y2 y3 y4 y5 y6 y7 y8 y9 y10 y11 y12 y13 y14 y15 y16 y17 y18 y19 y20 y21 y22 y23 y24 y25) H → va_D A (wS50 cI cJ cZ cB p0 p1 p2 p3 p4 p5 p6 p7 p8 p9 p10 p11 p12 p13 p14 p15 p16 p17 p18 p19 p20 p21 p22 p23 p24 p25 x0_4 x0_5 x0_6 x0_7 x0_8 x0_12 x0_13 x0_14 x0_15 x0_16 x0_17 x0_18 x0_22 x0_23 x0_24 x0_25 x0_26 x0_27 x0_28 x0_29 x0_30 x0_31 x0_32 x0_36 x0_39 x0_40 x0_44 x0_49 x0_51 x0_53 x0_54 x0_55 x0_56 x0_57 x0_58 x0_59 x0_60 (0 : Int32) x0_62 y1 y2 y3 y4 y5 y6 y7 y8 y9 y10 y11 y12 y13 y14 y15 y16 y17 y18 y19 y20 y21 y22 y23 y24 y25) → va_S A s.heap H locs → lv_has ls 2 [(1, .int g20l1), (0, .ref p0)] → W p l e ({ frames := 2, cells := 0, slots := 0, locals := 49 }) s m [.ref p0].toArray below meth c H locs 0 0 (MQ below (va_Qv (fun (_ : Unit) => True) (fun _ t => ∃ u_x0_25 : Int32, ∃ u_x0_26 : Int32, ∃ u_x0_54 : Int32, ∃ u_x0_55 : Int64, ∃ u_x0_56 : Int32, ∃ u_x0_61 : Int32, ∃ u_x0_62 : Int64, (0 ≤ u_x0_25.toInt ∧ u_x0_25.toInt ≤ 4000) ∧ (0 ≤ u_x0_26.toInt ∧ u_x0_26.toInt ≤ 6) ∧ (0 ≤ u_x0_54.toInt ∧ u_x0_54.toInt ≤ 3) ∧ (0 ≤ u_x0_61.toInt ∧ u_x0_61.toInt ≤ 3) ∧ (x0_25.toInt ≤ u_x0_25.toInt ∧ u_x0_25.toInt ≤ x0_24.toInt) ∧ (1 ≤ x0_26.toInt → 1 ≤ u_x0_26.toInt) ∧ (u_x0_61.toInt = 3 → (0 ≤ u_x0_62.toInt ∧ u_x0_62.toInt ≤ 9)) ∧ va_P D classes (wS50 cI cJ cZ cB p0 p1 p2 p3 p4 p5 p6 p7 p8 p9 p10 p11 p12 p13 p14 p15 p16 p17 p18 p19 p20 p21 p22 p23 p24 p25 x0_4 x0_5 x0_6 x0_7 x0_8 x0_12 x0_13 x0_14 x0_15 x0_16 x0_17 x0_18 x0_22 x0_23 x0_24 u_x0_25 u_x0_26 x0_27 x0_28 x0_29 x0_30 x0_31 x0_32 x0_36 x0_39 x0_40 x0_44 x0_49 x0_51 x0_53 u_x0_54 u_x0_55 u_x0_56 x0_57 x0_58 x0_59 x0_60 u_x0_61 u_x0_62 y1 y2 y3 y4 y5 y6 y7 y8 y9 y10 y11 y12 y13 y14 y15 y16 y17 y18 y19 y20 y21 y22 y23 y24 y25) t.heap ∧ va_D A (wS50 cI cJ cZ cB p0 p1 p2 p3 p4 p5 p6 p7 p8 p9 p10 p11 p12 p13 p14 p15 p16 p17 p18 p19 p20 p21 p22 p23 p24 p25 x0_4 x0_5 x0_6 x0_7 x0_8 x0_12 x0_13 x0_14 x0_15 x0_16 x0_17 x0_18 x0_22 x0_23 x0_24 u_x0_25 u_x0_26 x0_27 x0_28 x0_29 x0_30 x0_31 x0_32 x0_36 x0_39 x0_40 x0_44 x0_49 x0_51 x0_53 u_x0_54 u_x0_55 u_x0_56 x0_57 x0_58 x0_59 x0_60 u_x0_61 u_x0_62 y1 y2 y3 y4 y5 y6 y7 y8 y9 y10 y11 y12 y13 y14 y15 y16 y17 y18 y19 y20 y21 y22 y23 y24 y25)) A) [.ref p0].toArray s 0 0 A) (F0 m 20 ls []) := by
      intro n
      induction n with
      | zero => intro g20l1 H locs ls hn20 Rg20l1 I20_0 hP hD hS hl; exfalso; omega
      | succ n ih20 =>
        intro g20l1 H locs ls hn20 Rg20l1 I20_0 hP hD hS hl
        refine lv_iload_n hx hb d_X_readLabel_20 rfl (lv_at hl 0 rfl) ?_
        refine lv_aload_n hx hb d_X_readLabel_21 rfl (lv_at hl 1 rfl) ?_
        refine va_get (D := D) (ci := 7) (v := .int x0_24) (C := "SignMachineModel") (T := F_X) (N := 64) hx hb hk fi_X hown hK.1 hP 0 rfl rfl 24 (by decide) (hk _ k_1145) (fun _ h9 => h9) rfl d_X_readLabel_22 ?_
        refine lv_icmp_ge (tgt := 45) hx hb d_X_readLabel_25 (by decide) (fun c3 => ?_) (fun c3 => ?_)
        · have gc3 : x0_24.toInt ≤ g20l1.toInt := c_le c3
          refine lv_aload_n hx hb d_X_readLabel_45 rfl (lv_at hl 1 rfl) ?_
          refine kn_v (va_runV (C := "SignMachineModel") (As := []) (rest := []) ⟨hx, hb, hml, hown, hk⟩ (c_X_readName l D cI cJ cZ cB p0 p1 p2 p3 p4 p5 p6 p7 p8 p9 p10 p11 p12 p13 p14 p15 p16 p17 p18 p19 p20 p21 p22 p23 p24 p25 H.size x0_4 x0_5 x0_6 x0_7 x0_8 x0_12 x0_13 x0_14 x0_15 x0_16 x0_17 x0_18 x0_22 x0_23 x0_24 x0_25 x0_26 x0_27 x0_28 x0_29 x0_30 x0_31 x0_32 x0_36 x0_39 x0_40 x0_44 x0_49 x0_51 x0_53 x0_54 x0_55 x0_56 x0_57 x0_58 x0_59 x0_60 (0 : Int32) x0_62 y1 y2 y3 y4 y5 y6 y7 y8 y9 y10 y11 y12 y13 y14 y15 y16 y17 y18 y19 y20 y21 y22 y23 y24 y25  Rx0_24 Rx0_25 Rx0_26 Rx0_54 (show x0_25.toInt ≤ x0_24.toInt from by omega)) (v_X_readName hk k_1541 ⟨Nat.le_of_ble_eq_true rfl, Nat.le_of_ble_eq_true rfl⟩) (pM_v hK hP hD (ci := 7) (q0 := 0) rfl rfl rfl) rfl rfl hl.1 rfl (lv_room (Nat.le_of_ble_eq_true rfl)) d_X_readLabel_46 ⟨Nat.le_of_ble_eq_true rfl, Nat.le_of_ble_eq_true rfl⟩) hS hA hD (fun u t H locs ht hB hFr hS => ?_)
          obtain ⟨x0_25z4, x0_26z4, x0_54z4, x0_55z4, x0_56z4, Rx0_25z4, Rx0_26z4, Rx0_54z4, F0z4, F1z4, F2z4, F3z4, hP, hD⟩ := hB
          have F0z4 : x0_25.toInt ≤ x0_25z4.toInt ∧ x0_25z4.toInt ≤ x0_24.toInt := F0z4
          have F1z4 : 1 ≤ x0_26.toInt → 1 ≤ x0_26z4.toInt := F1z4
          have F2z4 : x0_54z4.toInt = 1 → (0 ≤ x0_55z4.toInt ∧ x0_55z4.toInt ≤ 1073741823) := F2z4
          have F3z4 : x0_54z4.toInt = 3 → (0 ≤ x0_55z4.toInt ∧ x0_55z4.toInt ≤ 9) := F3z4
          rw [ht] at hP
          have hD := dwk hD hFr
          clear ht hFr
          have hP : va_P D classes (wS50 cI cJ cZ cB p0 p1 p2 p3 p4 p5 p6 p7 p8 p9 p10 p11 p12 p13 p14 p15 p16 p17 p18 p19 p20 p21 p22 p23 p24 p25 x0_4 x0_5 x0_6 x0_7 x0_8 x0_12 x0_13 x0_14 x0_15 x0_16 x0_17 x0_18 x0_22 x0_23 x0_24 x0_25z4 x0_26z4 x0_27 x0_28 x0_29 x0_30 x0_31 x0_32 x0_36 x0_39 x0_40 x0_44 x0_49 x0_51 x0_53 x0_54z4 x0_55z4 x0_56z4 x0_57 x0_58 x0_59 x0_60 (0 : Int32) x0_62 y1 y2 y3 y4 y5 y6 y7 y8 y9 y10 y11 y12 y13 y14 y15 y16 y17 y18 y19 y20 y21 y22 y23 y24 y25) H := hP
          have hD : va_D A (wS50 cI cJ cZ cB p0 p1 p2 p3 p4 p5 p6 p7 p8 p9 p10 p11 p12 p13 p14 p15 p16 p17 p18 p19 p20 p21 p22 p23 p24 p25 x0_4 x0_5 x0_6 x0_7 x0_8 x0_12 x0_13 x0_14 x0_15 x0_16 x0_17 x0_18 x0_22 x0_23 x0_24 x0_25z4 x0_26z4 x0_27 x0_28 x0_29 x0_30 x0_31 x0_32 x0_36 x0_39 x0_40 x0_44 x0_49 x0_51 x0_53 x0_54z4 x0_55z4 x0_56z4 x0_57 x0_58 x0_59 x0_60 (0 : Int32) x0_62 y1 y2 y3 y4 y5 y6 y7 y8 y9 y10 y11 y12 y13 y14 y15 y16 y17 y18 y19 y20 y21 y22 y23 y24 y25) := hD
          refine lv_aload_n hx hb d_X_readLabel_49 rfl (lv_at hl 1 rfl) ?_
          refine va_get (D := D) (ci := 7) (v := .int x0_25z4) (C := "SignMachineModel") (T := F_X) (N := 64) hx hb hk fi_X hown hK.1 hP 0 rfl rfl 25 (by decide) (hk _ k_1146) (fun _ h9 => h9) rfl d_X_readLabel_50 ?_
          refine lv_iload_n hx hb d_X_readLabel_53 rfl (lv_at hl 0 rfl) ?_
          refine lv_icmp_lt (tgt := 65) hx hb d_X_readLabel_54 (by decide) (fun c5 => ?_) (fun c5 => ?_)
          · have gc5 : x0_25z4.toInt < g20l1.toInt := c_lt c5
            have R6 : 0 ≤ x0_25z4.toInt ∧ x0_25z4.toInt ≤ 3999 := rf_ltX Rx0_25z4 Rg20l1 gc5 (by decide) (by decide)
            have R7 : 1 ≤ g20l1.toInt ∧ g20l1.toInt ≤ 4000 := rf_ltY Rx0_25z4 Rg20l1 gc5 (by decide) (by decide)
            refine lv_aload_n hx hb d_X_readLabel_65 rfl (lv_at hl 1 rfl) ?_
            refine lv_iconst (v := 1) hx hb d_X_readLabel_66 (by decide) ?_
            refine kn_v (va_runV (C := "SignMachineModel") (As := [.int (1 : Int32)]) (rest := []) ⟨hx, hb, hml, hown, hk⟩ (c_X_bad l D cI cJ cZ cB p0 p1 p2 p3 p4 p5 p6 p7 p8 p9 p10 p11 p12 p13 p14 p15 p16 p17 p18 p19 p20 p21 p22 p23 p24 p25 H.size x0_4 x0_5 x0_6 x0_7 x0_8 x0_12 x0_13 x0_14 x0_15 x0_16 x0_17 x0_18 x0_22 x0_23 x0_24 x0_25z4 x0_26z4 x0_27 x0_28 x0_29 x0_30 x0_31 x0_32 x0_36 x0_39 x0_40 x0_44 x0_49 x0_51 x0_53 x0_54z4 x0_55z4 x0_56z4 x0_57 x0_58 x0_59 x0_60 (0 : Int32) x0_62 y1 y2 y3 y4 y5 y6 y7 y8 y9 y10 y11 y12 y13 y14 y15 y16 y17 y18 y19 y20 y21 y22 y23 y24 y25 (1 : Int32) Rx0_26z4 (by decide)) (v_X_bad hk k_1552 ⟨Nat.le_of_ble_eq_true rfl, Nat.le_of_ble_eq_true rfl⟩) (pM_v hK hP hD (ci := 7) (q0 := 0) rfl rfl rfl) rfl rfl hl.1 rfl (lv_room (Nat.le_of_ble_eq_true rfl)) d_X_readLabel_67 ⟨Nat.le_of_ble_eq_true rfl, Nat.le_of_ble_eq_true rfl⟩) hS hA hD (fun u t H locs ht hB hFr hS => ?_)
            obtain ⟨x0_26z8, Rx0_26z8, F0z8, hP, hD⟩ := hB
            have F0z8 : 1 ≤ x0_26z8.toInt := F0z8
            rw [ht] at hP
            have hD := dwk hD hFr
            clear ht hFr
            have hP : va_P D classes (wS50 cI cJ cZ cB p0 p1 p2 p3 p4 p5 p6 p7 p8 p9 p10 p11 p12 p13 p14 p15 p16 p17 p18 p19 p20 p21 p22 p23 p24 p25 x0_4 x0_5 x0_6 x0_7 x0_8 x0_12 x0_13 x0_14 x0_15 x0_16 x0_17 x0_18 x0_22 x0_23 x0_24 x0_25z4 x0_26z8 x0_27 x0_28 x0_29 x0_30 x0_31 x0_32 x0_36 x0_39 x0_40 x0_44 x0_49 x0_51 x0_53 x0_54z4 x0_55z4 x0_56z4 x0_57 x0_58 x0_59 x0_60 (0 : Int32) x0_62 y1 y2 y3 y4 y5 y6 y7 y8 y9 y10 y11 y12 y13 y14 y15 y16 y17 y18 y19 y20 y21 y22 y23 y24 y25) H := hP
            have hD : va_D A (wS50 cI cJ cZ cB p0 p1 p2 p3 p4 p5 p6 p7 p8 p9 p10 p11 p12 p13 p14 p15 p16 p17 p18 p19 p20 p21 p22 p23 p24 p25 x0_4 x0_5 x0_6 x0_7 x0_8 x0_12 x0_13 x0_14 x0_15 x0_16 x0_17 x0_18 x0_22 x0_23 x0_24 x0_25z4 x0_26z8 x0_27 x0_28 x0_29 x0_30 x0_31 x0_32 x0_36 x0_39 x0_40 x0_44 x0_49 x0_51 x0_53 x0_54z4 x0_55z4 x0_56z4 x0_57 x0_58 x0_59 x0_60 (0 : Int32) x0_62 y1 y2 y3 y4 y5 y6 y7 y8 y9 y10 y11 y12 y13 y14 y15 y16 y17 y18 y19 y20 y21 y22 y23 y24 y25) := hD
            refine lv_aload_n hx hb d_X_readLabel_70 rfl (lv_at hl 1 rfl) ?_
            refine va_get (D := D) (ci := 7) (v := .int x0_26z8) (C := "SignMachineModel") (T := F_X) (N := 64) hx hb hk fi_X hown hK.1 hP 0 rfl rfl 26 (by decide) (hk _ k_1147) (fun _ h9 => h9) rfl d_X_readLabel_71 ?_
            refine lv_if_ne (tgt := 107) hx hb d_X_readLabel_74 (by decide) (fun c9 => ?_) (fun c9 => ?_)
            · have gc9 : x0_26z8.toInt ≠ (0 : Int) := c_ne c9
              have R10 : 1 ≤ x0_26z8.toInt ∧ x0_26z8.toInt ≤ 6 := rf_neX Rx0_26z8 (show 0 ≤ (0 : Int) ∧ (0 : Int) ≤ 0 from by decide) gc9 (by decide) (by decide)
              refine lv_aload_n hx hb d_X_readLabel_107 rfl (lv_at hl 1 rfl) ?_
              refine va_get (D := D) (ci := 7) (v := .int x0_26z8) (C := "SignMachineModel") (T := F_X) (N := 64) hx hb hk fi_X hown hK.1 hP 0 rfl rfl 26 (by decide) (hk _ k_1147) (fun _ h9 => h9) rfl d_X_readLabel_108 ?_
              refine lv_if_le (tgt := 115) hx hb d_X_readLabel_111 (by decide) (fun c11 => absurd c11 (show ¬ x0_26z8 ≤ (0 : Int32) from (fun q9 => Int.not_le.mpr (klt (show 0 ≤ (0 : Int) ∧ (0 : Int) ≤ 0 from by decide) R10 (by decide)) (c_le q9)))) (fun c11 => ?_)
              exact W.vret hx hb hr (fun t ht hW => ⟨⟨(), rfl, trivial, ⟨x0_25z4, x0_26z8, x0_54z4, x0_55z4, x0_56z4, (0 : Int32), x0_62, (rgw R6 (by decide) (by decide)), (rgw R10 (by decide) (by decide)), Rx0_54z4, (by decide), (show x0_25.toInt ≤ x0_25z4.toInt ∧ x0_25z4.toInt ≤ x0_24.toInt from by omega), (show 1 ≤ x0_26.toInt → 1 ≤ x0_26z8.toInt from by omega), (show (0 : Int) = 3 → (0 ≤ x0_62.toInt ∧ x0_62.toInt ≤ 9) from by omega), by show va_P D classes _ t.heap; rw [ht]; exact hP, hD⟩⟩, hS.F ht⟩) hS.2.2 d_X_readLabel_114
            · have gc9 : x0_26z8.toInt = (0 : Int) := c_eq c9
              have R12 : 0 ≤ x0_26z8.toInt ∧ x0_26z8.toInt ≤ 0 := rf_eqX Rx0_26z8 (show 0 ≤ (0 : Int) ∧ (0 : Int) ≤ 0 from by decide) gc9 (by decide) (by decide)
              refine lv_aload_n hx hb d_X_readLabel_77 rfl (lv_at hl 1 rfl) ?_
              refine va_get (D := D) (ci := 7) (v := .int x0_54z4) (C := "SignMachineModel") (T := F_X) (N := 64) hx hb hk fi_X hown hK.1 hP 0 rfl rfl 54 (by decide) (hk _ k_1175) (fun _ h9 => h9) rfl d_X_readLabel_78 ?_
              refine lv_iconst (v := 3) hx hb d_X_readLabel_81 (by decide) ?_
              refine lv_icmp_ne (tgt := 107) hx hb d_X_readLabel_82 (by decide) (fun c13 => ?_) (fun c13 => ?_)
              · have gc13 : x0_54z4.toInt ≠ (3 : Int) := c_ne c13
                have R14 : 0 ≤ x0_54z4.toInt ∧ x0_54z4.toInt ≤ 2 := rf_neX Rx0_54z4 (show 3 ≤ (3 : Int) ∧ (3 : Int) ≤ 3 from by decide) gc13 (by decide) (by decide)
                refine lv_aload_n hx hb d_X_readLabel_107 rfl (lv_at hl 1 rfl) ?_
                refine va_get (D := D) (ci := 7) (v := .int x0_26z8) (C := "SignMachineModel") (T := F_X) (N := 64) hx hb hk fi_X hown hK.1 hP 0 rfl rfl 26 (by decide) (hk _ k_1147) (fun _ h9 => h9) rfl d_X_readLabel_108 ?_
                refine lv_if_le (tgt := 115) hx hb d_X_readLabel_111 (by decide) (fun c15 => ?_) (fun c15 => absurd (show x0_26z8 ≤ (0 : Int32) from (Int32.le_iff_toInt_le.mpr (kle R12 (show 0 ≤ (0 : Int) ∧ (0 : Int) ≤ 0 from by decide) (by decide)))) c15)
                refine lv_aload_n hx hb d_X_readLabel_115 rfl (lv_at hl 1 rfl) ?_
                refine lv_aload_n hx hb d_X_readLabel_116 rfl (lv_at hl 1 rfl) ?_
                refine va_get (D := D) (ci := 7) (v := .int x0_54z4) (C := "SignMachineModel") (T := F_X) (N := 64) hx hb hk fi_X hown hK.1 hP 0 rfl rfl 54 (by decide) (hk _ k_1175) (fun _ h9 => h9) rfl d_X_readLabel_117 ?_
                refine va_put (D := D) (ci := 7) (v := .int x0_54z4) (ty := .int) (C := "SignMachineModel") (T := F_X) (N := 64) hx hb hk fi_X ft_X ft_X_ok fn_X hown hK.1 hP hD hS 0 rfl rfl 61 (by decide) (hk _ k_1182) (fun _ h9 => h9) rfl (by decide +kernel) rfl rfl (Nat.le_of_ble_eq_true rfl) d_X_readLabel_120 (fun H locs hP hD hS => ?_)
                have hP : va_P D classes (wS50 cI cJ cZ cB p0 p1 p2 p3 p4 p5 p6 p7 p8 p9 p10 p11 p12 p13 p14 p15 p16 p17 p18 p19 p20 p21 p22 p23 p24 p25 x0_4 x0_5 x0_6 x0_7 x0_8 x0_12 x0_13 x0_14 x0_15 x0_16 x0_17 x0_18 x0_22 x0_23 x0_24 x0_25z4 x0_26z8 x0_27 x0_28 x0_29 x0_30 x0_31 x0_32 x0_36 x0_39 x0_40 x0_44 x0_49 x0_51 x0_53 x0_54z4 x0_55z4 x0_56z4 x0_57 x0_58 x0_59 x0_60 x0_54z4 x0_62 y1 y2 y3 y4 y5 y6 y7 y8 y9 y10 y11 y12 y13 y14 y15 y16 y17 y18 y19 y20 y21 y22 y23 y24 y25) H := hP
                have hD : va_D A (wS50 cI cJ cZ cB p0 p1 p2 p3 p4 p5 p6 p7 p8 p9 p10 p11 p12 p13 p14 p15 p16 p17 p18 p19 p20 p21 p22 p23 p24 p25 x0_4 x0_5 x0_6 x0_7 x0_8 x0_12 x0_13 x0_14 x0_15 x0_16 x0_17 x0_18 x0_22 x0_23 x0_24 x0_25z4 x0_26z8 x0_27 x0_28 x0_29 x0_30 x0_31 x0_32 x0_36 x0_39 x0_40 x0_44 x0_49 x0_51 x0_53 x0_54z4 x0_55z4 x0_56z4 x0_57 x0_58 x0_59 x0_60 x0_54z4 x0_62 y1 y2 y3 y4 y5 y6 y7 y8 y9 y10 y11 y12 y13 y14 y15 y16 y17 y18 y19 y20 y21 y22 y23 y24 y25) := hD
                refine lv_aload_n hx hb d_X_readLabel_123 rfl (lv_at hl 1 rfl) ?_
                refine lv_aload_n hx hb d_X_readLabel_124 rfl (lv_at hl 1 rfl) ?_
                refine va_get (D := D) (ci := 7) (v := .long x0_55z4) (C := "SignMachineModel") (T := F_X) (N := 64) hx hb hk fi_X hown hK.1 hP 0 rfl rfl 55 (by decide) (hk _ k_1176) (fun _ h9 => h9) rfl d_X_readLabel_125 ?_
                refine va_put (D := D) (ci := 7) (v := .long x0_55z4) (ty := .long) (C := "SignMachineModel") (T := F_X) (N := 64) hx hb hk fi_X ft_X ft_X_ok fn_X hown hK.1 hP hD hS 0 rfl rfl 62 (by decide) (hk _ k_1183) (fun _ h9 => h9) rfl (by decide +kernel) rfl rfl (Nat.le_of_ble_eq_true rfl) d_X_readLabel_128 (fun H locs hP hD hS => ?_)
                have hP : va_P D classes (wS50 cI cJ cZ cB p0 p1 p2 p3 p4 p5 p6 p7 p8 p9 p10 p11 p12 p13 p14 p15 p16 p17 p18 p19 p20 p21 p22 p23 p24 p25 x0_4 x0_5 x0_6 x0_7 x0_8 x0_12 x0_13 x0_14 x0_15 x0_16 x0_17 x0_18 x0_22 x0_23 x0_24 x0_25z4 x0_26z8 x0_27 x0_28 x0_29 x0_30 x0_31 x0_32 x0_36 x0_39 x0_40 x0_44 x0_49 x0_51 x0_53 x0_54z4 x0_55z4 x0_56z4 x0_57 x0_58 x0_59 x0_60 x0_54z4 x0_55z4 y1 y2 y3 y4 y5 y6 y7 y8 y9 y10 y11 y12 y13 y14 y15 y16 y17 y18 y19 y20 y21 y22 y23 y24 y25) H := hP
                have hD : va_D A (wS50 cI cJ cZ cB p0 p1 p2 p3 p4 p5 p6 p7 p8 p9 p10 p11 p12 p13 p14 p15 p16 p17 p18 p19 p20 p21 p22 p23 p24 p25 x0_4 x0_5 x0_6 x0_7 x0_8 x0_12 x0_13 x0_14 x0_15 x0_16 x0_17 x0_18 x0_22 x0_23 x0_24 x0_25z4 x0_26z8 x0_27 x0_28 x0_29 x0_30 x0_31 x0_32 x0_36 x0_39 x0_40 x0_44 x0_49 x0_51 x0_53 x0_54z4 x0_55z4 x0_56z4 x0_57 x0_58 x0_59 x0_60 x0_54z4 x0_55z4 y1 y2 y3 y4 y5 y6 y7 y8 y9 y10 y11 y12 y13 y14 y15 y16 y17 y18 y19 y20 y21 y22 y23 y24 y25) := hD
                exact W.vret hx hb hr (fun t ht hW => ⟨⟨(), rfl, trivial, ⟨x0_25z4, x0_26z8, x0_54z4, x0_55z4, x0_56z4, x0_54z4, x0_55z4, (rgw R6 (by decide) (by decide)), (rgw R12 (by decide) (by decide)), (rgw R14 (by decide) (by decide)), (rgw R14 (by decide) (by decide)), (show x0_25.toInt ≤ x0_25z4.toInt ∧ x0_25z4.toInt ≤ x0_24.toInt from by omega), (show 1 ≤ x0_26.toInt → 1 ≤ x0_26z8.toInt from by omega), (show x0_54z4.toInt = 3 → (0 ≤ x0_55z4.toInt ∧ x0_55z4.toInt ≤ 9) from by omega), by show va_P D classes _ t.heap; rw [ht]; exact hP, hD⟩⟩, hS.F ht⟩) hS.2.2 d_X_readLabel_131
              · have gc13 : x0_54z4.toInt = (3 : Int) := c_eq c13
                have R16 : 3 ≤ x0_54z4.toInt ∧ x0_54z4.toInt ≤ 3 := rf_eqX Rx0_54z4 (show 3 ≤ (3 : Int) ∧ (3 : Int) ≤ 3 from by decide) gc13 (by decide) (by decide)
                refine lv_aload_n hx hb d_X_readLabel_85 rfl (lv_at hl 1 rfl) ?_
                refine va_get (D := D) (ci := 7) (v := .int x0_56z4) (C := "SignMachineModel") (T := F_X) (N := 64) hx hb hk fi_X hown hK.1 hP 0 rfl rfl 56 (by decide) (hk _ k_1177) (fun _ h9 => h9) rfl d_X_readLabel_86 ?_
                refine lv_bipush (v := 72) hx hb d_X_readLabel_89 (by decide) ?_
                refine lv_icmp_eq (tgt := 107) hx hb d_X_readLabel_91 (by decide) (fun c17 => ?_) (fun c17 => ?_)
                · have gc17 : x0_56z4.toInt = (72 : Int) := c_eq c17
                  have R18 : 72 ≤ x0_56z4.toInt ∧ x0_56z4.toInt ≤ 72 := rf_eqX (fr3 x0_56z4) (show 72 ≤ (72 : Int) ∧ (72 : Int) ≤ 72 from by decide) gc17 (by decide) (by decide)
                  refine lv_aload_n hx hb d_X_readLabel_107 rfl (lv_at hl 1 rfl) ?_
                  refine va_get (D := D) (ci := 7) (v := .int x0_26z8) (C := "SignMachineModel") (T := F_X) (N := 64) hx hb hk fi_X hown hK.1 hP 0 rfl rfl 26 (by decide) (hk _ k_1147) (fun _ h9 => h9) rfl d_X_readLabel_108 ?_
                  refine lv_if_le (tgt := 115) hx hb d_X_readLabel_111 (by decide) (fun c19 => ?_) (fun c19 => absurd (show x0_26z8 ≤ (0 : Int32) from (Int32.le_iff_toInt_le.mpr (kle R12 (show 0 ≤ (0 : Int) ∧ (0 : Int) ≤ 0 from by decide) (by decide)))) c19)
                  refine lv_aload_n hx hb d_X_readLabel_115 rfl (lv_at hl 1 rfl) ?_
                  refine lv_aload_n hx hb d_X_readLabel_116 rfl (lv_at hl 1 rfl) ?_
                  refine va_get (D := D) (ci := 7) (v := .int x0_54z4) (C := "SignMachineModel") (T := F_X) (N := 64) hx hb hk fi_X hown hK.1 hP 0 rfl rfl 54 (by decide) (hk _ k_1175) (fun _ h9 => h9) rfl d_X_readLabel_117 ?_
                  refine va_put (D := D) (ci := 7) (v := .int x0_54z4) (ty := .int) (C := "SignMachineModel") (T := F_X) (N := 64) hx hb hk fi_X ft_X ft_X_ok fn_X hown hK.1 hP hD hS 0 rfl rfl 61 (by decide) (hk _ k_1182) (fun _ h9 => h9) rfl (by decide +kernel) rfl rfl (Nat.le_of_ble_eq_true rfl) d_X_readLabel_120 (fun H locs hP hD hS => ?_)
                  have hP : va_P D classes (wS50 cI cJ cZ cB p0 p1 p2 p3 p4 p5 p6 p7 p8 p9 p10 p11 p12 p13 p14 p15 p16 p17 p18 p19 p20 p21 p22 p23 p24 p25 x0_4 x0_5 x0_6 x0_7 x0_8 x0_12 x0_13 x0_14 x0_15 x0_16 x0_17 x0_18 x0_22 x0_23 x0_24 x0_25z4 x0_26z8 x0_27 x0_28 x0_29 x0_30 x0_31 x0_32 x0_36 x0_39 x0_40 x0_44 x0_49 x0_51 x0_53 x0_54z4 x0_55z4 x0_56z4 x0_57 x0_58 x0_59 x0_60 x0_54z4 x0_62 y1 y2 y3 y4 y5 y6 y7 y8 y9 y10 y11 y12 y13 y14 y15 y16 y17 y18 y19 y20 y21 y22 y23 y24 y25) H := hP
                  have hD : va_D A (wS50 cI cJ cZ cB p0 p1 p2 p3 p4 p5 p6 p7 p8 p9 p10 p11 p12 p13 p14 p15 p16 p17 p18 p19 p20 p21 p22 p23 p24 p25 x0_4 x0_5 x0_6 x0_7 x0_8 x0_12 x0_13 x0_14 x0_15 x0_16 x0_17 x0_18 x0_22 x0_23 x0_24 x0_25z4 x0_26z8 x0_27 x0_28 x0_29 x0_30 x0_31 x0_32 x0_36 x0_39 x0_40 x0_44 x0_49 x0_51 x0_53 x0_54z4 x0_55z4 x0_56z4 x0_57 x0_58 x0_59 x0_60 x0_54z4 x0_62 y1 y2 y3 y4 y5 y6 y7 y8 y9 y10 y11 y12 y13 y14 y15 y16 y17 y18 y19 y20 y21 y22 y23 y24 y25) := hD
                  refine lv_aload_n hx hb d_X_readLabel_123 rfl (lv_at hl 1 rfl) ?_
                  refine lv_aload_n hx hb d_X_readLabel_124 rfl (lv_at hl 1 rfl) ?_
                  refine va_get (D := D) (ci := 7) (v := .long x0_55z4) (C := "SignMachineModel") (T := F_X) (N := 64) hx hb hk fi_X hown hK.1 hP 0 rfl rfl 55 (by decide) (hk _ k_1176) (fun _ h9 => h9) rfl d_X_readLabel_125 ?_
                  refine va_put (D := D) (ci := 7) (v := .long x0_55z4) (ty := .long) (C := "SignMachineModel") (T := F_X) (N := 64) hx hb hk fi_X ft_X ft_X_ok fn_X hown hK.1 hP hD hS 0 rfl rfl 62 (by decide) (hk _ k_1183) (fun _ h9 => h9) rfl (by decide +kernel) rfl rfl (Nat.le_of_ble_eq_true rfl) d_X_readLabel_128 (fun H locs hP hD hS => ?_)
                  have hP : va_P D classes (wS50 cI cJ cZ cB p0 p1 p2 p3 p4 p5 p6 p7 p8 p9 p10 p11 p12 p13 p14 p15 p16 p17 p18 p19 p20 p21 p22 p23 p24 p25 x0_4 x0_5 x0_6 x0_7 x0_8 x0_12 x0_13 x0_14 x0_15 x0_16 x0_17 x0_18 x0_22 x0_23 x0_24 x0_25z4 x0_26z8 x0_27 x0_28 x0_29 x0_30 x0_31 x0_32 x0_36 x0_39 x0_40 x0_44 x0_49 x0_51 x0_53 x0_54z4 x0_55z4 x0_56z4 x0_57 x0_58 x0_59 x0_60 x0_54z4 x0_55z4 y1 y2 y3 y4 y5 y6 y7 y8 y9 y10 y11 y12 y13 y14 y15 y16 y17 y18 y19 y20 y21 y22 y23 y24 y25) H := hP
                  have hD : va_D A (wS50 cI cJ cZ cB p0 p1 p2 p3 p4 p5 p6 p7 p8 p9 p10 p11 p12 p13 p14 p15 p16 p17 p18 p19 p20 p21 p22 p23 p24 p25 x0_4 x0_5 x0_6 x0_7 x0_8 x0_12 x0_13 x0_14 x0_15 x0_16 x0_17 x0_18 x0_22 x0_23 x0_24 x0_25z4 x0_26z8 x0_27 x0_28 x0_29 x0_30 x0_31 x0_32 x0_36 x0_39 x0_40 x0_44 x0_49 x0_51 x0_53 x0_54z4 x0_55z4 x0_56z4 x0_57 x0_58 x0_59 x0_60 x0_54z4 x0_55z4 y1 y2 y3 y4 y5 y6 y7 y8 y9 y10 y11 y12 y13 y14 y15 y16 y17 y18 y19 y20 y21 y22 y23 y24 y25) := hD
                  exact W.vret hx hb hr (fun t ht hW => ⟨⟨(), rfl, trivial, ⟨x0_25z4, x0_26z8, x0_54z4, x0_55z4, x0_56z4, x0_54z4, x0_55z4, (rgw R6 (by decide) (by decide)), (rgw R12 (by decide) (by decide)), (rgw R16 (by decide) (by decide)), (rgw R16 (by decide) (by decide)), (show x0_25.toInt ≤ x0_25z4.toInt ∧ x0_25z4.toInt ≤ x0_24.toInt from by omega), (show 1 ≤ x0_26.toInt → 1 ≤ x0_26z8.toInt from by omega), (show x0_54z4.toInt = 3 → (0 ≤ x0_55z4.toInt ∧ x0_55z4.toInt ≤ 9) from by omega), by show va_P D classes _ t.heap; rw [ht]; exact hP, hD⟩⟩, hS.F ht⟩) hS.2.2 d_X_readLabel_131
                · have gc17 : x0_56z4.toInt ≠ (72 : Int) := c_ne c17
                  refine lv_iload_n hx hb d_X_readLabel_94 rfl (lv_at hl 0 rfl) ?_
                  refine lv_aload_n hx hb d_X_readLabel_95 rfl (lv_at hl 1 rfl) ?_
                  refine va_get (D := D) (ci := 7) (v := .int x0_24) (C := "SignMachineModel") (T := F_X) (N := 64) hx hb hk fi_X hown hK.1 hP 0 rfl rfl 24 (by decide) (hk _ k_1145) (fun _ h9 => h9) rfl d_X_readLabel_96 ?_
                  refine lv_icmp_ge (tgt := 107) hx hb d_X_readLabel_99 (by decide) (fun c20 => ?_) (fun c20 => absurd (show x0_24 ≤ g20l1 from c3) c20)
                  refine lv_aload_n hx hb d_X_readLabel_107 rfl (lv_at hl 1 rfl) ?_
                  refine va_get (D := D) (ci := 7) (v := .int x0_26z8) (C := "SignMachineModel") (T := F_X) (N := 64) hx hb hk fi_X hown hK.1 hP 0 rfl rfl 26 (by decide) (hk _ k_1147) (fun _ h9 => h9) rfl d_X_readLabel_108 ?_
                  refine lv_if_le (tgt := 115) hx hb d_X_readLabel_111 (by decide) (fun c21 => ?_) (fun c21 => absurd (show x0_26z8 ≤ (0 : Int32) from (Int32.le_iff_toInt_le.mpr (kle R12 (show 0 ≤ (0 : Int) ∧ (0 : Int) ≤ 0 from by decide) (by decide)))) c21)
                  refine lv_aload_n hx hb d_X_readLabel_115 rfl (lv_at hl 1 rfl) ?_
                  refine lv_aload_n hx hb d_X_readLabel_116 rfl (lv_at hl 1 rfl) ?_
                  refine va_get (D := D) (ci := 7) (v := .int x0_54z4) (C := "SignMachineModel") (T := F_X) (N := 64) hx hb hk fi_X hown hK.1 hP 0 rfl rfl 54 (by decide) (hk _ k_1175) (fun _ h9 => h9) rfl d_X_readLabel_117 ?_
                  refine va_put (D := D) (ci := 7) (v := .int x0_54z4) (ty := .int) (C := "SignMachineModel") (T := F_X) (N := 64) hx hb hk fi_X ft_X ft_X_ok fn_X hown hK.1 hP hD hS 0 rfl rfl 61 (by decide) (hk _ k_1182) (fun _ h9 => h9) rfl (by decide +kernel) rfl rfl (Nat.le_of_ble_eq_true rfl) d_X_readLabel_120 (fun H locs hP hD hS => ?_)
                  have hP : va_P D classes (wS50 cI cJ cZ cB p0 p1 p2 p3 p4 p5 p6 p7 p8 p9 p10 p11 p12 p13 p14 p15 p16 p17 p18 p19 p20 p21 p22 p23 p24 p25 x0_4 x0_5 x0_6 x0_7 x0_8 x0_12 x0_13 x0_14 x0_15 x0_16 x0_17 x0_18 x0_22 x0_23 x0_24 x0_25z4 x0_26z8 x0_27 x0_28 x0_29 x0_30 x0_31 x0_32 x0_36 x0_39 x0_40 x0_44 x0_49 x0_51 x0_53 x0_54z4 x0_55z4 x0_56z4 x0_57 x0_58 x0_59 x0_60 x0_54z4 x0_62 y1 y2 y3 y4 y5 y6 y7 y8 y9 y10 y11 y12 y13 y14 y15 y16 y17 y18 y19 y20 y21 y22 y23 y24 y25) H := hP
                  have hD : va_D A (wS50 cI cJ cZ cB p0 p1 p2 p3 p4 p5 p6 p7 p8 p9 p10 p11 p12 p13 p14 p15 p16 p17 p18 p19 p20 p21 p22 p23 p24 p25 x0_4 x0_5 x0_6 x0_7 x0_8 x0_12 x0_13 x0_14 x0_15 x0_16 x0_17 x0_18 x0_22 x0_23 x0_24 x0_25z4 x0_26z8 x0_27 x0_28 x0_29 x0_30 x0_31 x0_32 x0_36 x0_39 x0_40 x0_44 x0_49 x0_51 x0_53 x0_54z4 x0_55z4 x0_56z4 x0_57 x0_58 x0_59 x0_60 x0_54z4 x0_62 y1 y2 y3 y4 y5 y6 y7 y8 y9 y10 y11 y12 y13 y14 y15 y16 y17 y18 y19 y20 y21 y22 y23 y24 y25) := hD
                  refine lv_aload_n hx hb d_X_readLabel_123 rfl (lv_at hl 1 rfl) ?_
                  refine lv_aload_n hx hb d_X_readLabel_124 rfl (lv_at hl 1 rfl) ?_
                  refine va_get (D := D) (ci := 7) (v := .long x0_55z4) (C := "SignMachineModel") (T := F_X) (N := 64) hx hb hk fi_X hown hK.1 hP 0 rfl rfl 55 (by decide) (hk _ k_1176) (fun _ h9 => h9) rfl d_X_readLabel_125 ?_
                  refine va_put (D := D) (ci := 7) (v := .long x0_55z4) (ty := .long) (C := "SignMachineModel") (T := F_X) (N := 64) hx hb hk fi_X ft_X ft_X_ok fn_X hown hK.1 hP hD hS 0 rfl rfl 62 (by decide) (hk _ k_1183) (fun _ h9 => h9) rfl (by decide +kernel) rfl rfl (Nat.le_of_ble_eq_true rfl) d_X_readLabel_128 (fun H locs hP hD hS => ?_)
                  have hP : va_P D classes (wS50 cI cJ cZ cB p0 p1 p2 p3 p4 p5 p6 p7 p8 p9 p10 p11 p12 p13 p14 p15 p16 p17 p18 p19 p20 p21 p22 p23 p24 p25 x0_4 x0_5 x0_6 x0_7 x0_8 x0_12 x0_13 x0_14 x0_15 x0_16 x0_17 x0_18 x0_22 x0_23 x0_24 x0_25z4 x0_26z8 x0_27 x0_28 x0_29 x0_30 x0_31 x0_32 x0_36 x0_39 x0_40 x0_44 x0_49 x0_51 x0_53 x0_54z4 x0_55z4 x0_56z4 x0_57 x0_58 x0_59 x0_60 x0_54z4 x0_55z4 y1 y2 y3 y4 y5 y6 y7 y8 y9 y10 y11 y12 y13 y14 y15 y16 y17 y18 y19 y20 y21 y22 y23 y24 y25) H := hP
                  have hD : va_D A (wS50 cI cJ cZ cB p0 p1 p2 p3 p4 p5 p6 p7 p8 p9 p10 p11 p12 p13 p14 p15 p16 p17 p18 p19 p20 p21 p22 p23 p24 p25 x0_4 x0_5 x0_6 x0_7 x0_8 x0_12 x0_13 x0_14 x0_15 x0_16 x0_17 x0_18 x0_22 x0_23 x0_24 x0_25z4 x0_26z8 x0_27 x0_28 x0_29 x0_30 x0_31 x0_32 x0_36 x0_39 x0_40 x0_44 x0_49 x0_51 x0_53 x0_54z4 x0_55z4 x0_56z4 x0_57 x0_58 x0_59 x0_60 x0_54z4 x0_55z4 y1 y2 y3 y4 y5 y6 y7 y8 y9 y10 y11 y12 y13 y14 y15 y16 y17 y18 y19 y20 y21 y22 y23 y24 y25) := hD
                  exact W.vret hx hb hr (fun t ht hW => ⟨⟨(), rfl, trivial, ⟨x0_25z4, x0_26z8, x0_54z4, x0_55z4, x0_56z4, x0_54z4, x0_55z4, (rgw R6 (by decide) (by decide)), (rgw R12 (by decide) (by decide)), (rgw R16 (by decide) (by decide)), (rgw R16 (by decide) (by decide)), (show x0_25.toInt ≤ x0_25z4.toInt ∧ x0_25z4.toInt ≤ x0_24.toInt from by omega), (show 1 ≤ x0_26.toInt → 1 ≤ x0_26z8.toInt from by omega), (show x0_54z4.toInt = 3 → (0 ≤ x0_55z4.toInt ∧ x0_55z4.toInt ≤ 9) from by omega), by show va_P D classes _ t.heap; rw [ht]; exact hP, hD⟩⟩, hS.F ht⟩) hS.2.2 d_X_readLabel_131
          · have gc5 : g20l1.toInt ≤ x0_25z4.toInt := c_nlt c5
            refine lv_aload_n hx hb d_X_readLabel_57 rfl (lv_at hl 1 rfl) ?_
            refine va_get (D := D) (ci := 7) (v := .int x0_54z4) (C := "SignMachineModel") (T := F_X) (N := 64) hx hb hk fi_X hown hK.1 hP 0 rfl rfl 54 (by decide) (hk _ k_1175) (fun _ h9 => h9) rfl d_X_readLabel_58 ?_
            refine lv_iconst (v := 2) hx hb d_X_readLabel_61 (by decide) ?_
            refine lv_icmp_ge (tgt := 70) hx hb d_X_readLabel_62 (by decide) (fun c22 => ?_) (fun c22 => ?_)
            · have gc22 : (2 : Int) ≤ x0_54z4.toInt := c_le c22
              have R23 : 2 ≤ x0_54z4.toInt ∧ x0_54z4.toInt ≤ 3 := rf_geX Rx0_54z4 (show 2 ≤ (2 : Int) ∧ (2 : Int) ≤ 2 from by decide) gc22 (by decide) (by decide)
              refine lv_aload_n hx hb d_X_readLabel_70 rfl (lv_at hl 1 rfl) ?_
              refine va_get (D := D) (ci := 7) (v := .int x0_26z4) (C := "SignMachineModel") (T := F_X) (N := 64) hx hb hk fi_X hown hK.1 hP 0 rfl rfl 26 (by decide) (hk _ k_1147) (fun _ h9 => h9) rfl d_X_readLabel_71 ?_
              refine lv_if_ne (tgt := 107) hx hb d_X_readLabel_74 (by decide) (fun c24 => ?_) (fun c24 => ?_)
              · have gc24 : x0_26z4.toInt ≠ (0 : Int) := c_ne c24
                have R25 : 1 ≤ x0_26z4.toInt ∧ x0_26z4.toInt ≤ 6 := rf_neX Rx0_26z4 (show 0 ≤ (0 : Int) ∧ (0 : Int) ≤ 0 from by decide) gc24 (by decide) (by decide)
                refine lv_aload_n hx hb d_X_readLabel_107 rfl (lv_at hl 1 rfl) ?_
                refine va_get (D := D) (ci := 7) (v := .int x0_26z4) (C := "SignMachineModel") (T := F_X) (N := 64) hx hb hk fi_X hown hK.1 hP 0 rfl rfl 26 (by decide) (hk _ k_1147) (fun _ h9 => h9) rfl d_X_readLabel_108 ?_
                refine lv_if_le (tgt := 115) hx hb d_X_readLabel_111 (by decide) (fun c26 => absurd c26 (show ¬ x0_26z4 ≤ (0 : Int32) from (fun q9 => Int.not_le.mpr (klt (show 0 ≤ (0 : Int) ∧ (0 : Int) ≤ 0 from by decide) R25 (by decide)) (c_le q9)))) (fun c26 => ?_)
                exact W.vret hx hb hr (fun t ht hW => ⟨⟨(), rfl, trivial, ⟨x0_25z4, x0_26z4, x0_54z4, x0_55z4, x0_56z4, (0 : Int32), x0_62, Rx0_25z4, (rgw R25 (by decide) (by decide)), (rgw R23 (by decide) (by decide)), (by decide), (show x0_25.toInt ≤ x0_25z4.toInt ∧ x0_25z4.toInt ≤ x0_24.toInt from by omega), (show 1 ≤ x0_26.toInt → 1 ≤ x0_26z4.toInt from by omega), (show (0 : Int) = 3 → (0 ≤ x0_62.toInt ∧ x0_62.toInt ≤ 9) from by omega), by show va_P D classes _ t.heap; rw [ht]; exact hP, hD⟩⟩, hS.F ht⟩) hS.2.2 d_X_readLabel_114
              · have gc24 : x0_26z4.toInt = (0 : Int) := c_eq c24
                have R27 : 0 ≤ x0_26z4.toInt ∧ x0_26z4.toInt ≤ 0 := rf_eqX Rx0_26z4 (show 0 ≤ (0 : Int) ∧ (0 : Int) ≤ 0 from by decide) gc24 (by decide) (by decide)
                refine lv_aload_n hx hb d_X_readLabel_77 rfl (lv_at hl 1 rfl) ?_
                refine va_get (D := D) (ci := 7) (v := .int x0_54z4) (C := "SignMachineModel") (T := F_X) (N := 64) hx hb hk fi_X hown hK.1 hP 0 rfl rfl 54 (by decide) (hk _ k_1175) (fun _ h9 => h9) rfl d_X_readLabel_78 ?_
                refine lv_iconst (v := 3) hx hb d_X_readLabel_81 (by decide) ?_
                refine lv_icmp_ne (tgt := 107) hx hb d_X_readLabel_82 (by decide) (fun c28 => ?_) (fun c28 => ?_)
                · have gc28 : x0_54z4.toInt ≠ (3 : Int) := c_ne c28
                  have R29 : 2 ≤ x0_54z4.toInt ∧ x0_54z4.toInt ≤ 2 := rf_neX R23 (show 3 ≤ (3 : Int) ∧ (3 : Int) ≤ 3 from by decide) gc28 (by decide) (by decide)
                  refine lv_aload_n hx hb d_X_readLabel_107 rfl (lv_at hl 1 rfl) ?_
                  refine va_get (D := D) (ci := 7) (v := .int x0_26z4) (C := "SignMachineModel") (T := F_X) (N := 64) hx hb hk fi_X hown hK.1 hP 0 rfl rfl 26 (by decide) (hk _ k_1147) (fun _ h9 => h9) rfl d_X_readLabel_108 ?_
                  refine lv_if_le (tgt := 115) hx hb d_X_readLabel_111 (by decide) (fun c30 => ?_) (fun c30 => absurd (show x0_26z4 ≤ (0 : Int32) from (Int32.le_iff_toInt_le.mpr (kle R27 (show 0 ≤ (0 : Int) ∧ (0 : Int) ≤ 0 from by decide) (by decide)))) c30)
                  refine lv_aload_n hx hb d_X_readLabel_115 rfl (lv_at hl 1 rfl) ?_
                  refine lv_aload_n hx hb d_X_readLabel_116 rfl (lv_at hl 1 rfl) ?_
                  refine va_get (D := D) (ci := 7) (v := .int x0_54z4) (C := "SignMachineModel") (T := F_X) (N := 64) hx hb hk fi_X hown hK.1 hP 0 rfl rfl 54 (by decide) (hk _ k_1175) (fun _ h9 => h9) rfl d_X_readLabel_117 ?_
                  refine va_put (D := D) (ci := 7) (v := .int x0_54z4) (ty := .int) (C := "SignMachineModel") (T := F_X) (N := 64) hx hb hk fi_X ft_X ft_X_ok fn_X hown hK.1 hP hD hS 0 rfl rfl 61 (by decide) (hk _ k_1182) (fun _ h9 => h9) rfl (by decide +kernel) rfl rfl (Nat.le_of_ble_eq_true rfl) d_X_readLabel_120 (fun H locs hP hD hS => ?_)
                  have hP : va_P D classes (wS50 cI cJ cZ cB p0 p1 p2 p3 p4 p5 p6 p7 p8 p9 p10 p11 p12 p13 p14 p15 p16 p17 p18 p19 p20 p21 p22 p23 p24 p25 x0_4 x0_5 x0_6 x0_7 x0_8 x0_12 x0_13 x0_14 x0_15 x0_16 x0_17 x0_18 x0_22 x0_23 x0_24 x0_25z4 x0_26z4 x0_27 x0_28 x0_29 x0_30 x0_31 x0_32 x0_36 x0_39 x0_40 x0_44 x0_49 x0_51 x0_53 x0_54z4 x0_55z4 x0_56z4 x0_57 x0_58 x0_59 x0_60 x0_54z4 x0_62 y1 y2 y3 y4 y5 y6 y7 y8 y9 y10 y11 y12 y13 y14 y15 y16 y17 y18 y19 y20 y21 y22 y23 y24 y25) H := hP
                  have hD : va_D A (wS50 cI cJ cZ cB p0 p1 p2 p3 p4 p5 p6 p7 p8 p9 p10 p11 p12 p13 p14 p15 p16 p17 p18 p19 p20 p21 p22 p23 p24 p25 x0_4 x0_5 x0_6 x0_7 x0_8 x0_12 x0_13 x0_14 x0_15 x0_16 x0_17 x0_18 x0_22 x0_23 x0_24 x0_25z4 x0_26z4 x0_27 x0_28 x0_29 x0_30 x0_31 x0_32 x0_36 x0_39 x0_40 x0_44 x0_49 x0_51 x0_53 x0_54z4 x0_55z4 x0_56z4 x0_57 x0_58 x0_59 x0_60 x0_54z4 x0_62 y1 y2 y3 y4 y5 y6 y7 y8 y9 y10 y11 y12 y13 y14 y15 y16 y17 y18 y19 y20 y21 y22 y23 y24 y25) := hD
                  refine lv_aload_n hx hb d_X_readLabel_123 rfl (lv_at hl 1 rfl) ?_
                  refine lv_aload_n hx hb d_X_readLabel_124 rfl (lv_at hl 1 rfl) ?_
                  refine va_get (D := D) (ci := 7) (v := .long x0_55z4) (C := "SignMachineModel") (T := F_X) (N := 64) hx hb hk fi_X hown hK.1 hP 0 rfl rfl 55 (by decide) (hk _ k_1176) (fun _ h9 => h9) rfl d_X_readLabel_125 ?_
                  refine va_put (D := D) (ci := 7) (v := .long x0_55z4) (ty := .long) (C := "SignMachineModel") (T := F_X) (N := 64) hx hb hk fi_X ft_X ft_X_ok fn_X hown hK.1 hP hD hS 0 rfl rfl 62 (by decide) (hk _ k_1183) (fun _ h9 => h9) rfl (by decide +kernel) rfl rfl (Nat.le_of_ble_eq_true rfl) d_X_readLabel_128 (fun H locs hP hD hS => ?_)
                  have hP : va_P D classes (wS50 cI cJ cZ cB p0 p1 p2 p3 p4 p5 p6 p7 p8 p9 p10 p11 p12 p13 p14 p15 p16 p17 p18 p19 p20 p21 p22 p23 p24 p25 x0_4 x0_5 x0_6 x0_7 x0_8 x0_12 x0_13 x0_14 x0_15 x0_16 x0_17 x0_18 x0_22 x0_23 x0_24 x0_25z4 x0_26z4 x0_27 x0_28 x0_29 x0_30 x0_31 x0_32 x0_36 x0_39 x0_40 x0_44 x0_49 x0_51 x0_53 x0_54z4 x0_55z4 x0_56z4 x0_57 x0_58 x0_59 x0_60 x0_54z4 x0_55z4 y1 y2 y3 y4 y5 y6 y7 y8 y9 y10 y11 y12 y13 y14 y15 y16 y17 y18 y19 y20 y21 y22 y23 y24 y25) H := hP
                  have hD : va_D A (wS50 cI cJ cZ cB p0 p1 p2 p3 p4 p5 p6 p7 p8 p9 p10 p11 p12 p13 p14 p15 p16 p17 p18 p19 p20 p21 p22 p23 p24 p25 x0_4 x0_5 x0_6 x0_7 x0_8 x0_12 x0_13 x0_14 x0_15 x0_16 x0_17 x0_18 x0_22 x0_23 x0_24 x0_25z4 x0_26z4 x0_27 x0_28 x0_29 x0_30 x0_31 x0_32 x0_36 x0_39 x0_40 x0_44 x0_49 x0_51 x0_53 x0_54z4 x0_55z4 x0_56z4 x0_57 x0_58 x0_59 x0_60 x0_54z4 x0_55z4 y1 y2 y3 y4 y5 y6 y7 y8 y9 y10 y11 y12 y13 y14 y15 y16 y17 y18 y19 y20 y21 y22 y23 y24 y25) := hD
                  exact W.vret hx hb hr (fun t ht hW => ⟨⟨(), rfl, trivial, ⟨x0_25z4, x0_26z4, x0_54z4, x0_55z4, x0_56z4, x0_54z4, x0_55z4, Rx0_25z4, (rgw R27 (by decide) (by decide)), (rgw R29 (by decide) (by decide)), (rgw R29 (by decide) (by decide)), (show x0_25.toInt ≤ x0_25z4.toInt ∧ x0_25z4.toInt ≤ x0_24.toInt from by omega), (show 1 ≤ x0_26.toInt → 1 ≤ x0_26z4.toInt from by omega), (show x0_54z4.toInt = 3 → (0 ≤ x0_55z4.toInt ∧ x0_55z4.toInt ≤ 9) from by omega), by show va_P D classes _ t.heap; rw [ht]; exact hP, hD⟩⟩, hS.F ht⟩) hS.2.2 d_X_readLabel_131
                · have gc28 : x0_54z4.toInt = (3 : Int) := c_eq c28
                  have R31 : 3 ≤ x0_54z4.toInt ∧ x0_54z4.toInt ≤ 3 := rf_eqX R23 (show 3 ≤ (3 : Int) ∧ (3 : Int) ≤ 3 from by decide) gc28 (by decide) (by decide)
                  refine lv_aload_n hx hb d_X_readLabel_85 rfl (lv_at hl 1 rfl) ?_
                  refine va_get (D := D) (ci := 7) (v := .int x0_56z4) (C := "SignMachineModel") (T := F_X) (N := 64) hx hb hk fi_X hown hK.1 hP 0 rfl rfl 56 (by decide) (hk _ k_1177) (fun _ h9 => h9) rfl d_X_readLabel_86 ?_
                  refine lv_bipush (v := 72) hx hb d_X_readLabel_89 (by decide) ?_
                  refine lv_icmp_eq (tgt := 107) hx hb d_X_readLabel_91 (by decide) (fun c32 => ?_) (fun c32 => ?_)
                  · have gc32 : x0_56z4.toInt = (72 : Int) := c_eq c32
                    have R33 : 72 ≤ x0_56z4.toInt ∧ x0_56z4.toInt ≤ 72 := rf_eqX (fr3 x0_56z4) (show 72 ≤ (72 : Int) ∧ (72 : Int) ≤ 72 from by decide) gc32 (by decide) (by decide)
                    refine lv_aload_n hx hb d_X_readLabel_107 rfl (lv_at hl 1 rfl) ?_
                    refine va_get (D := D) (ci := 7) (v := .int x0_26z4) (C := "SignMachineModel") (T := F_X) (N := 64) hx hb hk fi_X hown hK.1 hP 0 rfl rfl 26 (by decide) (hk _ k_1147) (fun _ h9 => h9) rfl d_X_readLabel_108 ?_
                    refine lv_if_le (tgt := 115) hx hb d_X_readLabel_111 (by decide) (fun c34 => ?_) (fun c34 => absurd (show x0_26z4 ≤ (0 : Int32) from (Int32.le_iff_toInt_le.mpr (kle R27 (show 0 ≤ (0 : Int) ∧ (0 : Int) ≤ 0 from by decide) (by decide)))) c34)
                    refine lv_aload_n hx hb d_X_readLabel_115 rfl (lv_at hl 1 rfl) ?_
                    refine lv_aload_n hx hb d_X_readLabel_116 rfl (lv_at hl 1 rfl) ?_
                    refine va_get (D := D) (ci := 7) (v := .int x0_54z4) (C := "SignMachineModel") (T := F_X) (N := 64) hx hb hk fi_X hown hK.1 hP 0 rfl rfl 54 (by decide) (hk _ k_1175) (fun _ h9 => h9) rfl d_X_readLabel_117 ?_
                    refine va_put (D := D) (ci := 7) (v := .int x0_54z4) (ty := .int) (C := "SignMachineModel") (T := F_X) (N := 64) hx hb hk fi_X ft_X ft_X_ok fn_X hown hK.1 hP hD hS 0 rfl rfl 61 (by decide) (hk _ k_1182) (fun _ h9 => h9) rfl (by decide +kernel) rfl rfl (Nat.le_of_ble_eq_true rfl) d_X_readLabel_120 (fun H locs hP hD hS => ?_)
                    have hP : va_P D classes (wS50 cI cJ cZ cB p0 p1 p2 p3 p4 p5 p6 p7 p8 p9 p10 p11 p12 p13 p14 p15 p16 p17 p18 p19 p20 p21 p22 p23 p24 p25 x0_4 x0_5 x0_6 x0_7 x0_8 x0_12 x0_13 x0_14 x0_15 x0_16 x0_17 x0_18 x0_22 x0_23 x0_24 x0_25z4 x0_26z4 x0_27 x0_28 x0_29 x0_30 x0_31 x0_32 x0_36 x0_39 x0_40 x0_44 x0_49 x0_51 x0_53 x0_54z4 x0_55z4 x0_56z4 x0_57 x0_58 x0_59 x0_60 x0_54z4 x0_62 y1 y2 y3 y4 y5 y6 y7 y8 y9 y10 y11 y12 y13 y14 y15 y16 y17 y18 y19 y20 y21 y22 y23 y24 y25) H := hP
                    have hD : va_D A (wS50 cI cJ cZ cB p0 p1 p2 p3 p4 p5 p6 p7 p8 p9 p10 p11 p12 p13 p14 p15 p16 p17 p18 p19 p20 p21 p22 p23 p24 p25 x0_4 x0_5 x0_6 x0_7 x0_8 x0_12 x0_13 x0_14 x0_15 x0_16 x0_17 x0_18 x0_22 x0_23 x0_24 x0_25z4 x0_26z4 x0_27 x0_28 x0_29 x0_30 x0_31 x0_32 x0_36 x0_39 x0_40 x0_44 x0_49 x0_51 x0_53 x0_54z4 x0_55z4 x0_56z4 x0_57 x0_58 x0_59 x0_60 x0_54z4 x0_62 y1 y2 y3 y4 y5 y6 y7 y8 y9 y10 y11 y12 y13 y14 y15 y16 y17 y18 y19 y20 y21 y22 y23 y24 y25) := hD
                    refine lv_aload_n hx hb d_X_readLabel_123 rfl (lv_at hl 1 rfl) ?_
                    refine lv_aload_n hx hb d_X_readLabel_124 rfl (lv_at hl 1 rfl) ?_
                    refine va_get (D := D) (ci := 7) (v := .long x0_55z4) (C := "SignMachineModel") (T := F_X) (N := 64) hx hb hk fi_X hown hK.1 hP 0 rfl rfl 55 (by decide) (hk _ k_1176) (fun _ h9 => h9) rfl d_X_readLabel_125 ?_
                    refine va_put (D := D) (ci := 7) (v := .long x0_55z4) (ty := .long) (C := "SignMachineModel") (T := F_X) (N := 64) hx hb hk fi_X ft_X ft_X_ok fn_X hown hK.1 hP hD hS 0 rfl rfl 62 (by decide) (hk _ k_1183) (fun _ h9 => h9) rfl (by decide +kernel) rfl rfl (Nat.le_of_ble_eq_true rfl) d_X_readLabel_128 (fun H locs hP hD hS => ?_)
                    have hP : va_P D classes (wS50 cI cJ cZ cB p0 p1 p2 p3 p4 p5 p6 p7 p8 p9 p10 p11 p12 p13 p14 p15 p16 p17 p18 p19 p20 p21 p22 p23 p24 p25 x0_4 x0_5 x0_6 x0_7 x0_8 x0_12 x0_13 x0_14 x0_15 x0_16 x0_17 x0_18 x0_22 x0_23 x0_24 x0_25z4 x0_26z4 x0_27 x0_28 x0_29 x0_30 x0_31 x0_32 x0_36 x0_39 x0_40 x0_44 x0_49 x0_51 x0_53 x0_54z4 x0_55z4 x0_56z4 x0_57 x0_58 x0_59 x0_60 x0_54z4 x0_55z4 y1 y2 y3 y4 y5 y6 y7 y8 y9 y10 y11 y12 y13 y14 y15 y16 y17 y18 y19 y20 y21 y22 y23 y24 y25) H := hP
                    have hD : va_D A (wS50 cI cJ cZ cB p0 p1 p2 p3 p4 p5 p6 p7 p8 p9 p10 p11 p12 p13 p14 p15 p16 p17 p18 p19 p20 p21 p22 p23 p24 p25 x0_4 x0_5 x0_6 x0_7 x0_8 x0_12 x0_13 x0_14 x0_15 x0_16 x0_17 x0_18 x0_22 x0_23 x0_24 x0_25z4 x0_26z4 x0_27 x0_28 x0_29 x0_30 x0_31 x0_32 x0_36 x0_39 x0_40 x0_44 x0_49 x0_51 x0_53 x0_54z4 x0_55z4 x0_56z4 x0_57 x0_58 x0_59 x0_60 x0_54z4 x0_55z4 y1 y2 y3 y4 y5 y6 y7 y8 y9 y10 y11 y12 y13 y14 y15 y16 y17 y18 y19 y20 y21 y22 y23 y24 y25) := hD
                    exact W.vret hx hb hr (fun t ht hW => ⟨⟨(), rfl, trivial, ⟨x0_25z4, x0_26z4, x0_54z4, x0_55z4, x0_56z4, x0_54z4, x0_55z4, Rx0_25z4, (rgw R27 (by decide) (by decide)), (rgw R31 (by decide) (by decide)), (rgw R31 (by decide) (by decide)), (show x0_25.toInt ≤ x0_25z4.toInt ∧ x0_25z4.toInt ≤ x0_24.toInt from by omega), (show 1 ≤ x0_26.toInt → 1 ≤ x0_26z4.toInt from by omega), (show x0_54z4.toInt = 3 → (0 ≤ x0_55z4.toInt ∧ x0_55z4.toInt ≤ 9) from by omega), by show va_P D classes _ t.heap; rw [ht]; exact hP, hD⟩⟩, hS.F ht⟩) hS.2.2 d_X_readLabel_131
                  · have gc32 : x0_56z4.toInt ≠ (72 : Int) := c_ne c32
                    refine lv_iload_n hx hb d_X_readLabel_94 rfl (lv_at hl 0 rfl) ?_
                    refine lv_aload_n hx hb d_X_readLabel_95 rfl (lv_at hl 1 rfl) ?_
                    refine va_get (D := D) (ci := 7) (v := .int x0_24) (C := "SignMachineModel") (T := F_X) (N := 64) hx hb hk fi_X hown hK.1 hP 0 rfl rfl 24 (by decide) (hk _ k_1145) (fun _ h9 => h9) rfl d_X_readLabel_96 ?_
                    refine lv_icmp_ge (tgt := 107) hx hb d_X_readLabel_99 (by decide) (fun c35 => ?_) (fun c35 => absurd (show x0_24 ≤ g20l1 from c3) c35)
                    refine lv_aload_n hx hb d_X_readLabel_107 rfl (lv_at hl 1 rfl) ?_
                    refine va_get (D := D) (ci := 7) (v := .int x0_26z4) (C := "SignMachineModel") (T := F_X) (N := 64) hx hb hk fi_X hown hK.1 hP 0 rfl rfl 26 (by decide) (hk _ k_1147) (fun _ h9 => h9) rfl d_X_readLabel_108 ?_
                    refine lv_if_le (tgt := 115) hx hb d_X_readLabel_111 (by decide) (fun c36 => ?_) (fun c36 => absurd (show x0_26z4 ≤ (0 : Int32) from (Int32.le_iff_toInt_le.mpr (kle R27 (show 0 ≤ (0 : Int) ∧ (0 : Int) ≤ 0 from by decide) (by decide)))) c36)
                    refine lv_aload_n hx hb d_X_readLabel_115 rfl (lv_at hl 1 rfl) ?_
                    refine lv_aload_n hx hb d_X_readLabel_116 rfl (lv_at hl 1 rfl) ?_
                    refine va_get (D := D) (ci := 7) (v := .int x0_54z4) (C := "SignMachineModel") (T := F_X) (N := 64) hx hb hk fi_X hown hK.1 hP 0 rfl rfl 54 (by decide) (hk _ k_1175) (fun _ h9 => h9) rfl d_X_readLabel_117 ?_
                    refine va_put (D := D) (ci := 7) (v := .int x0_54z4) (ty := .int) (C := "SignMachineModel") (T := F_X) (N := 64) hx hb hk fi_X ft_X ft_X_ok fn_X hown hK.1 hP hD hS 0 rfl rfl 61 (by decide) (hk _ k_1182) (fun _ h9 => h9) rfl (by decide +kernel) rfl rfl (Nat.le_of_ble_eq_true rfl) d_X_readLabel_120 (fun H locs hP hD hS => ?_)
                    have hP : va_P D classes (wS50 cI cJ cZ cB p0 p1 p2 p3 p4 p5 p6 p7 p8 p9 p10 p11 p12 p13 p14 p15 p16 p17 p18 p19 p20 p21 p22 p23 p24 p25 x0_4 x0_5 x0_6 x0_7 x0_8 x0_12 x0_13 x0_14 x0_15 x0_16 x0_17 x0_18 x0_22 x0_23 x0_24 x0_25z4 x0_26z4 x0_27 x0_28 x0_29 x0_30 x0_31 x0_32 x0_36 x0_39 x0_40 x0_44 x0_49 x0_51 x0_53 x0_54z4 x0_55z4 x0_56z4 x0_57 x0_58 x0_59 x0_60 x0_54z4 x0_62 y1 y2 y3 y4 y5 y6 y7 y8 y9 y10 y11 y12 y13 y14 y15 y16 y17 y18 y19 y20 y21 y22 y23 y24 y25) H := hP
                    have hD : va_D A (wS50 cI cJ cZ cB p0 p1 p2 p3 p4 p5 p6 p7 p8 p9 p10 p11 p12 p13 p14 p15 p16 p17 p18 p19 p20 p21 p22 p23 p24 p25 x0_4 x0_5 x0_6 x0_7 x0_8 x0_12 x0_13 x0_14 x0_15 x0_16 x0_17 x0_18 x0_22 x0_23 x0_24 x0_25z4 x0_26z4 x0_27 x0_28 x0_29 x0_30 x0_31 x0_32 x0_36 x0_39 x0_40 x0_44 x0_49 x0_51 x0_53 x0_54z4 x0_55z4 x0_56z4 x0_57 x0_58 x0_59 x0_60 x0_54z4 x0_62 y1 y2 y3 y4 y5 y6 y7 y8 y9 y10 y11 y12 y13 y14 y15 y16 y17 y18 y19 y20 y21 y22 y23 y24 y25) := hD
                    refine lv_aload_n hx hb d_X_readLabel_123 rfl (lv_at hl 1 rfl) ?_
                    refine lv_aload_n hx hb d_X_readLabel_124 rfl (lv_at hl 1 rfl) ?_
                    refine va_get (D := D) (ci := 7) (v := .long x0_55z4) (C := "SignMachineModel") (T := F_X) (N := 64) hx hb hk fi_X hown hK.1 hP 0 rfl rfl 55 (by decide) (hk _ k_1176) (fun _ h9 => h9) rfl d_X_readLabel_125 ?_
                    refine va_put (D := D) (ci := 7) (v := .long x0_55z4) (ty := .long) (C := "SignMachineModel") (T := F_X) (N := 64) hx hb hk fi_X ft_X ft_X_ok fn_X hown hK.1 hP hD hS 0 rfl rfl 62 (by decide) (hk _ k_1183) (fun _ h9 => h9) rfl (by decide +kernel) rfl rfl (Nat.le_of_ble_eq_true rfl) d_X_readLabel_128 (fun H locs hP hD hS => ?_)
                    have hP : va_P D classes (wS50 cI cJ cZ cB p0 p1 p2 p3 p4 p5 p6 p7 p8 p9 p10 p11 p12 p13 p14 p15 p16 p17 p18 p19 p20 p21 p22 p23 p24 p25 x0_4 x0_5 x0_6 x0_7 x0_8 x0_12 x0_13 x0_14 x0_15 x0_16 x0_17 x0_18 x0_22 x0_23 x0_24 x0_25z4 x0_26z4 x0_27 x0_28 x0_29 x0_30 x0_31 x0_32 x0_36 x0_39 x0_40 x0_44 x0_49 x0_51 x0_53 x0_54z4 x0_55z4 x0_56z4 x0_57 x0_58 x0_59 x0_60 x0_54z4 x0_55z4 y1 y2 y3 y4 y5 y6 y7 y8 y9 y10 y11 y12 y13 y14 y15 y16 y17 y18 y19 y20 y21 y22 y23 y24 y25) H := hP
                    have hD : va_D A (wS50 cI cJ cZ cB p0 p1 p2 p3 p4 p5 p6 p7 p8 p9 p10 p11 p12 p13 p14 p15 p16 p17 p18 p19 p20 p21 p22 p23 p24 p25 x0_4 x0_5 x0_6 x0_7 x0_8 x0_12 x0_13 x0_14 x0_15 x0_16 x0_17 x0_18 x0_22 x0_23 x0_24 x0_25z4 x0_26z4 x0_27 x0_28 x0_29 x0_30 x0_31 x0_32 x0_36 x0_39 x0_40 x0_44 x0_49 x0_51 x0_53 x0_54z4 x0_55z4 x0_56z4 x0_57 x0_58 x0_59 x0_60 x0_54z4 x0_55z4 y1 y2 y3 y4 y5 y6 y7 y8 y9 y10 y11 y12 y13 y14 y15 y16 y17 y18 y19 y20 y21 y22 y23 y24 y25) := hD
                    exact W.vret hx hb hr (fun t ht hW => ⟨⟨(), rfl, trivial, ⟨x0_25z4, x0_26z4, x0_54z4, x0_55z4, x0_56z4, x0_54z4, x0_55z4, Rx0_25z4, (rgw R27 (by decide) (by decide)), (rgw R31 (by decide) (by decide)), (rgw R31 (by decide) (by decide)), (show x0_25.toInt ≤ x0_25z4.toInt ∧ x0_25z4.toInt ≤ x0_24.toInt from by omega), (show 1 ≤ x0_26.toInt → 1 ≤ x0_26z4.toInt from by omega), (show x0_54z4.toInt = 3 → (0 ≤ x0_55z4.toInt ∧ x0_55z4.toInt ≤ 9) from by omega), by show va_P D classes _ t.heap; rw [ht]; exact hP, hD⟩⟩, hS.F ht⟩) hS.2.2 d_X_readLabel_131
            · have gc22 : x0_54z4.toInt < (2 : Int) := c_nle c22
              have R37 : 0 ≤ x0_54z4.toInt ∧ x0_54z4.toInt ≤ 1 := rf_ltX Rx0_54z4 (show 2 ≤ (2 : Int) ∧ (2 : Int) ≤ 2 from by decide) gc22 (by decide) (by decide)
              refine lv_aload_n hx hb d_X_readLabel_65 rfl (lv_at hl 1 rfl) ?_
              refine lv_iconst (v := 1) hx hb d_X_readLabel_66 (by decide) ?_
              refine kn_v (va_runV (C := "SignMachineModel") (As := [.int (1 : Int32)]) (rest := []) ⟨hx, hb, hml, hown, hk⟩ (c_X_bad l D cI cJ cZ cB p0 p1 p2 p3 p4 p5 p6 p7 p8 p9 p10 p11 p12 p13 p14 p15 p16 p17 p18 p19 p20 p21 p22 p23 p24 p25 H.size x0_4 x0_5 x0_6 x0_7 x0_8 x0_12 x0_13 x0_14 x0_15 x0_16 x0_17 x0_18 x0_22 x0_23 x0_24 x0_25z4 x0_26z4 x0_27 x0_28 x0_29 x0_30 x0_31 x0_32 x0_36 x0_39 x0_40 x0_44 x0_49 x0_51 x0_53 x0_54z4 x0_55z4 x0_56z4 x0_57 x0_58 x0_59 x0_60 (0 : Int32) x0_62 y1 y2 y3 y4 y5 y6 y7 y8 y9 y10 y11 y12 y13 y14 y15 y16 y17 y18 y19 y20 y21 y22 y23 y24 y25 (1 : Int32) Rx0_26z4 (by decide)) (v_X_bad hk k_1552 ⟨Nat.le_of_ble_eq_true rfl, Nat.le_of_ble_eq_true rfl⟩) (pM_v hK hP hD (ci := 7) (q0 := 0) rfl rfl rfl) rfl rfl hl.1 rfl (lv_room (Nat.le_of_ble_eq_true rfl)) d_X_readLabel_67 ⟨Nat.le_of_ble_eq_true rfl, Nat.le_of_ble_eq_true rfl⟩) hS hA hD (fun u t H locs ht hB hFr hS => ?_)
              obtain ⟨x0_26z38, Rx0_26z38, F0z38, hP, hD⟩ := hB
              have F0z38 : 1 ≤ x0_26z38.toInt := F0z38
              rw [ht] at hP
              have hD := dwk hD hFr
              clear ht hFr
              have hP : va_P D classes (wS50 cI cJ cZ cB p0 p1 p2 p3 p4 p5 p6 p7 p8 p9 p10 p11 p12 p13 p14 p15 p16 p17 p18 p19 p20 p21 p22 p23 p24 p25 x0_4 x0_5 x0_6 x0_7 x0_8 x0_12 x0_13 x0_14 x0_15 x0_16 x0_17 x0_18 x0_22 x0_23 x0_24 x0_25z4 x0_26z38 x0_27 x0_28 x0_29 x0_30 x0_31 x0_32 x0_36 x0_39 x0_40 x0_44 x0_49 x0_51 x0_53 x0_54z4 x0_55z4 x0_56z4 x0_57 x0_58 x0_59 x0_60 (0 : Int32) x0_62 y1 y2 y3 y4 y5 y6 y7 y8 y9 y10 y11 y12 y13 y14 y15 y16 y17 y18 y19 y20 y21 y22 y23 y24 y25) H := hP
              have hD : va_D A (wS50 cI cJ cZ cB p0 p1 p2 p3 p4 p5 p6 p7 p8 p9 p10 p11 p12 p13 p14 p15 p16 p17 p18 p19 p20 p21 p22 p23 p24 p25 x0_4 x0_5 x0_6 x0_7 x0_8 x0_12 x0_13 x0_14 x0_15 x0_16 x0_17 x0_18 x0_22 x0_23 x0_24 x0_25z4 x0_26z38 x0_27 x0_28 x0_29 x0_30 x0_31 x0_32 x0_36 x0_39 x0_40 x0_44 x0_49 x0_51 x0_53 x0_54z4 x0_55z4 x0_56z4 x0_57 x0_58 x0_59 x0_60 (0 : Int32) x0_62 y1 y2 y3 y4 y5 y6 y7 y8 y9 y10 y11 y12 y13 y14 y15 y16 y17 y18 y19 y20 y21 y22 y23 y24 y25) := hD
              refine lv_aload_n hx hb d_X_readLabel_70 rfl (lv_at hl 1 rfl) ?_
              refine va_get (D := D) (ci := 7) (v := .int x0_26z38) (C := "SignMachineModel") (T := F_X) (N := 64) hx hb hk fi_X hown hK.1 hP 0 rfl rfl 26 (by decide) (hk _ k_1147) (fun _ h9 => h9) rfl d_X_readLabel_71 ?_
              refine lv_if_ne (tgt := 107) hx hb d_X_readLabel_74 (by decide) (fun c39 => ?_) (fun c39 => ?_)
              · have gc39 : x0_26z38.toInt ≠ (0 : Int) := c_ne c39
                have R40 : 1 ≤ x0_26z38.toInt ∧ x0_26z38.toInt ≤ 6 := rf_neX Rx0_26z38 (show 0 ≤ (0 : Int) ∧ (0 : Int) ≤ 0 from by decide) gc39 (by decide) (by decide)
                refine lv_aload_n hx hb d_X_readLabel_107 rfl (lv_at hl 1 rfl) ?_
                refine va_get (D := D) (ci := 7) (v := .int x0_26z38) (C := "SignMachineModel") (T := F_X) (N := 64) hx hb hk fi_X hown hK.1 hP 0 rfl rfl 26 (by decide) (hk _ k_1147) (fun _ h9 => h9) rfl d_X_readLabel_108 ?_
                refine lv_if_le (tgt := 115) hx hb d_X_readLabel_111 (by decide) (fun c41 => absurd c41 (show ¬ x0_26z38 ≤ (0 : Int32) from (fun q9 => Int.not_le.mpr (klt (show 0 ≤ (0 : Int) ∧ (0 : Int) ≤ 0 from by decide) R40 (by decide)) (c_le q9)))) (fun c41 => ?_)
                exact W.vret hx hb hr (fun t ht hW => ⟨⟨(), rfl, trivial, ⟨x0_25z4, x0_26z38, x0_54z4, x0_55z4, x0_56z4, (0 : Int32), x0_62, Rx0_25z4, (rgw R40 (by decide) (by decide)), (rgw R37 (by decide) (by decide)), (by decide), (show x0_25.toInt ≤ x0_25z4.toInt ∧ x0_25z4.toInt ≤ x0_24.toInt from by omega), (show 1 ≤ x0_26.toInt → 1 ≤ x0_26z38.toInt from by omega), (show (0 : Int) = 3 → (0 ≤ x0_62.toInt ∧ x0_62.toInt ≤ 9) from by omega), by show va_P D classes _ t.heap; rw [ht]; exact hP, hD⟩⟩, hS.F ht⟩) hS.2.2 d_X_readLabel_114
              · have gc39 : x0_26z38.toInt = (0 : Int) := c_eq c39
                have R42 : 0 ≤ x0_26z38.toInt ∧ x0_26z38.toInt ≤ 0 := rf_eqX Rx0_26z38 (show 0 ≤ (0 : Int) ∧ (0 : Int) ≤ 0 from by decide) gc39 (by decide) (by decide)
                refine lv_aload_n hx hb d_X_readLabel_77 rfl (lv_at hl 1 rfl) ?_
                refine va_get (D := D) (ci := 7) (v := .int x0_54z4) (C := "SignMachineModel") (T := F_X) (N := 64) hx hb hk fi_X hown hK.1 hP 0 rfl rfl 54 (by decide) (hk _ k_1175) (fun _ h9 => h9) rfl d_X_readLabel_78 ?_
                refine lv_iconst (v := 3) hx hb d_X_readLabel_81 (by decide) ?_
                refine lv_icmp_ne (tgt := 107) hx hb d_X_readLabel_82 (by decide) (fun c43 => ?_) (fun c43 => absurd c43 (show ¬ x0_54z4 = (3 : Int32) from (fun q9 => (knE R37 (show 3 ≤ (3 : Int) ∧ (3 : Int) ≤ 3 from by decide) (by decide)) (c_eq q9))))
                refine lv_aload_n hx hb d_X_readLabel_107 rfl (lv_at hl 1 rfl) ?_
                refine va_get (D := D) (ci := 7) (v := .int x0_26z38) (C := "SignMachineModel") (T := F_X) (N := 64) hx hb hk fi_X hown hK.1 hP 0 rfl rfl 26 (by decide) (hk _ k_1147) (fun _ h9 => h9) rfl d_X_readLabel_108 ?_
                refine lv_if_le (tgt := 115) hx hb d_X_readLabel_111 (by decide) (fun c44 => ?_) (fun c44 => absurd (show x0_26z38 ≤ (0 : Int32) from (Int32.le_iff_toInt_le.mpr (kle R42 (show 0 ≤ (0 : Int) ∧ (0 : Int) ≤ 0 from by decide) (by decide)))) c44)
                refine lv_aload_n hx hb d_X_readLabel_115 rfl (lv_at hl 1 rfl) ?_
                refine lv_aload_n hx hb d_X_readLabel_116 rfl (lv_at hl 1 rfl) ?_
                refine va_get (D := D) (ci := 7) (v := .int x0_54z4) (C := "SignMachineModel") (T := F_X) (N := 64) hx hb hk fi_X hown hK.1 hP 0 rfl rfl 54 (by decide) (hk _ k_1175) (fun _ h9 => h9) rfl d_X_readLabel_117 ?_
                refine va_put (D := D) (ci := 7) (v := .int x0_54z4) (ty := .int) (C := "SignMachineModel") (T := F_X) (N := 64) hx hb hk fi_X ft_X ft_X_ok fn_X hown hK.1 hP hD hS 0 rfl rfl 61 (by decide) (hk _ k_1182) (fun _ h9 => h9) rfl (by decide +kernel) rfl rfl (Nat.le_of_ble_eq_true rfl) d_X_readLabel_120 (fun H locs hP hD hS => ?_)
                have hP : va_P D classes (wS50 cI cJ cZ cB p0 p1 p2 p3 p4 p5 p6 p7 p8 p9 p10 p11 p12 p13 p14 p15 p16 p17 p18 p19 p20 p21 p22 p23 p24 p25 x0_4 x0_5 x0_6 x0_7 x0_8 x0_12 x0_13 x0_14 x0_15 x0_16 x0_17 x0_18 x0_22 x0_23 x0_24 x0_25z4 x0_26z38 x0_27 x0_28 x0_29 x0_30 x0_31 x0_32 x0_36 x0_39 x0_40 x0_44 x0_49 x0_51 x0_53 x0_54z4 x0_55z4 x0_56z4 x0_57 x0_58 x0_59 x0_60 x0_54z4 x0_62 y1 y2 y3 y4 y5 y6 y7 y8 y9 y10 y11 y12 y13 y14 y15 y16 y17 y18 y19 y20 y21 y22 y23 y24 y25) H := hP
                have hD : va_D A (wS50 cI cJ cZ cB p0 p1 p2 p3 p4 p5 p6 p7 p8 p9 p10 p11 p12 p13 p14 p15 p16 p17 p18 p19 p20 p21 p22 p23 p24 p25 x0_4 x0_5 x0_6 x0_7 x0_8 x0_12 x0_13 x0_14 x0_15 x0_16 x0_17 x0_18 x0_22 x0_23 x0_24 x0_25z4 x0_26z38 x0_27 x0_28 x0_29 x0_30 x0_31 x0_32 x0_36 x0_39 x0_40 x0_44 x0_49 x0_51 x0_53 x0_54z4 x0_55z4 x0_56z4 x0_57 x0_58 x0_59 x0_60 x0_54z4 x0_62 y1 y2 y3 y4 y5 y6 y7 y8 y9 y10 y11 y12 y13 y14 y15 y16 y17 y18 y19 y20 y21 y22 y23 y24 y25) := hD
                refine lv_aload_n hx hb d_X_readLabel_123 rfl (lv_at hl 1 rfl) ?_
                refine lv_aload_n hx hb d_X_readLabel_124 rfl (lv_at hl 1 rfl) ?_
                refine va_get (D := D) (ci := 7) (v := .long x0_55z4) (C := "SignMachineModel") (T := F_X) (N := 64) hx hb hk fi_X hown hK.1 hP 0 rfl rfl 55 (by decide) (hk _ k_1176) (fun _ h9 => h9) rfl d_X_readLabel_125 ?_
                refine va_put (D := D) (ci := 7) (v := .long x0_55z4) (ty := .long) (C := "SignMachineModel") (T := F_X) (N := 64) hx hb hk fi_X ft_X ft_X_ok fn_X hown hK.1 hP hD hS 0 rfl rfl 62 (by decide) (hk _ k_1183) (fun _ h9 => h9) rfl (by decide +kernel) rfl rfl (Nat.le_of_ble_eq_true rfl) d_X_readLabel_128 (fun H locs hP hD hS => ?_)
                have hP : va_P D classes (wS50 cI cJ cZ cB p0 p1 p2 p3 p4 p5 p6 p7 p8 p9 p10 p11 p12 p13 p14 p15 p16 p17 p18 p19 p20 p21 p22 p23 p24 p25 x0_4 x0_5 x0_6 x0_7 x0_8 x0_12 x0_13 x0_14 x0_15 x0_16 x0_17 x0_18 x0_22 x0_23 x0_24 x0_25z4 x0_26z38 x0_27 x0_28 x0_29 x0_30 x0_31 x0_32 x0_36 x0_39 x0_40 x0_44 x0_49 x0_51 x0_53 x0_54z4 x0_55z4 x0_56z4 x0_57 x0_58 x0_59 x0_60 x0_54z4 x0_55z4 y1 y2 y3 y4 y5 y6 y7 y8 y9 y10 y11 y12 y13 y14 y15 y16 y17 y18 y19 y20 y21 y22 y23 y24 y25) H := hP
                have hD : va_D A (wS50 cI cJ cZ cB p0 p1 p2 p3 p4 p5 p6 p7 p8 p9 p10 p11 p12 p13 p14 p15 p16 p17 p18 p19 p20 p21 p22 p23 p24 p25 x0_4 x0_5 x0_6 x0_7 x0_8 x0_12 x0_13 x0_14 x0_15 x0_16 x0_17 x0_18 x0_22 x0_23 x0_24 x0_25z4 x0_26z38 x0_27 x0_28 x0_29 x0_30 x0_31 x0_32 x0_36 x0_39 x0_40 x0_44 x0_49 x0_51 x0_53 x0_54z4 x0_55z4 x0_56z4 x0_57 x0_58 x0_59 x0_60 x0_54z4 x0_55z4 y1 y2 y3 y4 y5 y6 y7 y8 y9 y10 y11 y12 y13 y14 y15 y16 y17 y18 y19 y20 y21 y22 y23 y24 y25) := hD
                exact W.vret hx hb hr (fun t ht hW => ⟨⟨(), rfl, trivial, ⟨x0_25z4, x0_26z38, x0_54z4, x0_55z4, x0_56z4, x0_54z4, x0_55z4, Rx0_25z4, (rgw R42 (by decide) (by decide)), (rgw R37 (by decide) (by decide)), (rgw R37 (by decide) (by decide)), (show x0_25.toInt ≤ x0_25z4.toInt ∧ x0_25z4.toInt ≤ x0_24.toInt from by omega), (show 1 ≤ x0_26.toInt → 1 ≤ x0_26z38.toInt from by omega), (show x0_54z4.toInt = 3 → (0 ≤ x0_55z4.toInt ∧ x0_55z4.toInt ≤ 9) from by omega), by show va_P D classes _ t.heap; rw [ht]; exact hP, hD⟩⟩, hS.F ht⟩) hS.2.2 d_X_readLabel_131
        · have gc3 : g20l1.toInt < x0_24.toInt := c_nle c3
          have R45 : 0 ≤ g20l1.toInt ∧ g20l1.toInt ≤ 3999 := rf_ltX Rg20l1 Rx0_24 gc3 (by decide) (by decide)
          have R46 : 1 ≤ x0_24.toInt ∧ x0_24.toInt ≤ 4000 := rf_ltY Rg20l1 Rx0_24 gc3 (by decide) (by decide)
          refine lv_aload_n hx hb d_X_readLabel_28 rfl (lv_at hl 1 rfl) ?_
          refine va_get (D := D) (ci := 7) (v := .ref p10) (C := "SignMachineModel") (T := F_X) (N := 64) hx hb hk fi_X hown hK.1 hP 0 rfl rfl 21 (by decide) (hk _ k_1142) (fun _ h9 => h9) rfl d_X_readLabel_29 ?_
          refine lv_iload_n hx hb d_X_readLabel_32 rfl (lv_at hl 0 rfl) ?_
          refine va_iald hx hb hK.1 hP 10 0 rfl rfl (vpb R45 (by decide) (by decide)) d_X_readLabel_33 ?_
          refine lv_topi (fun v47 hv47 => ?_)
          refine lv_bipush (v := 32) hx hb d_X_readLabel_34 (by decide) ?_
          refine lv_icmp_eq (tgt := 45) hx hb d_X_readLabel_36 (by decide) (fun c48 => ?_) (fun c48 => ?_)
          · have gc48 : v47.toInt = (32 : Int) := c_eq c48
            have R49 : 32 ≤ v47.toInt ∧ v47.toInt ≤ 32 := rf_eqX (fr3 v47) (show 32 ≤ (32 : Int) ∧ (32 : Int) ≤ 32 from by decide) gc48 (by decide) (by decide)
            refine lv_aload_n hx hb d_X_readLabel_45 rfl (lv_at hl 1 rfl) ?_
            refine kn_v (va_runV (C := "SignMachineModel") (As := []) (rest := []) ⟨hx, hb, hml, hown, hk⟩ (c_X_readName l D cI cJ cZ cB p0 p1 p2 p3 p4 p5 p6 p7 p8 p9 p10 p11 p12 p13 p14 p15 p16 p17 p18 p19 p20 p21 p22 p23 p24 p25 H.size x0_4 x0_5 x0_6 x0_7 x0_8 x0_12 x0_13 x0_14 x0_15 x0_16 x0_17 x0_18 x0_22 x0_23 x0_24 x0_25 x0_26 x0_27 x0_28 x0_29 x0_30 x0_31 x0_32 x0_36 x0_39 x0_40 x0_44 x0_49 x0_51 x0_53 x0_54 x0_55 x0_56 x0_57 x0_58 x0_59 x0_60 (0 : Int32) x0_62 y1 y2 y3 y4 y5 y6 y7 y8 y9 y10 y11 y12 y13 y14 y15 y16 y17 y18 y19 y20 y21 y22 y23 y24 y25  (rgw R46 (by decide) (by decide)) Rx0_25 Rx0_26 Rx0_54 (show x0_25.toInt ≤ x0_24.toInt from by omega)) (v_X_readName hk k_1541 ⟨Nat.le_of_ble_eq_true rfl, Nat.le_of_ble_eq_true rfl⟩) (pM_v hK hP hD (ci := 7) (q0 := 0) rfl rfl rfl) rfl rfl hl.1 rfl (lv_room (Nat.le_of_ble_eq_true rfl)) d_X_readLabel_46 ⟨Nat.le_of_ble_eq_true rfl, Nat.le_of_ble_eq_true rfl⟩) hS hA hD (fun u t H locs ht hB hFr hS => ?_)
            obtain ⟨x0_25z50, x0_26z50, x0_54z50, x0_55z50, x0_56z50, Rx0_25z50, Rx0_26z50, Rx0_54z50, F0z50, F1z50, F2z50, F3z50, hP, hD⟩ := hB
            have F0z50 : x0_25.toInt ≤ x0_25z50.toInt ∧ x0_25z50.toInt ≤ x0_24.toInt := F0z50
            have F1z50 : 1 ≤ x0_26.toInt → 1 ≤ x0_26z50.toInt := F1z50
            have F2z50 : x0_54z50.toInt = 1 → (0 ≤ x0_55z50.toInt ∧ x0_55z50.toInt ≤ 1073741823) := F2z50
            have F3z50 : x0_54z50.toInt = 3 → (0 ≤ x0_55z50.toInt ∧ x0_55z50.toInt ≤ 9) := F3z50
            rw [ht] at hP
            have hD := dwk hD hFr
            clear ht hFr
            have hP : va_P D classes (wS50 cI cJ cZ cB p0 p1 p2 p3 p4 p5 p6 p7 p8 p9 p10 p11 p12 p13 p14 p15 p16 p17 p18 p19 p20 p21 p22 p23 p24 p25 x0_4 x0_5 x0_6 x0_7 x0_8 x0_12 x0_13 x0_14 x0_15 x0_16 x0_17 x0_18 x0_22 x0_23 x0_24 x0_25z50 x0_26z50 x0_27 x0_28 x0_29 x0_30 x0_31 x0_32 x0_36 x0_39 x0_40 x0_44 x0_49 x0_51 x0_53 x0_54z50 x0_55z50 x0_56z50 x0_57 x0_58 x0_59 x0_60 (0 : Int32) x0_62 y1 y2 y3 y4 y5 y6 y7 y8 y9 y10 y11 y12 y13 y14 y15 y16 y17 y18 y19 y20 y21 y22 y23 y24 y25) H := hP
            have hD : va_D A (wS50 cI cJ cZ cB p0 p1 p2 p3 p4 p5 p6 p7 p8 p9 p10 p11 p12 p13 p14 p15 p16 p17 p18 p19 p20 p21 p22 p23 p24 p25 x0_4 x0_5 x0_6 x0_7 x0_8 x0_12 x0_13 x0_14 x0_15 x0_16 x0_17 x0_18 x0_22 x0_23 x0_24 x0_25z50 x0_26z50 x0_27 x0_28 x0_29 x0_30 x0_31 x0_32 x0_36 x0_39 x0_40 x0_44 x0_49 x0_51 x0_53 x0_54z50 x0_55z50 x0_56z50 x0_57 x0_58 x0_59 x0_60 (0 : Int32) x0_62 y1 y2 y3 y4 y5 y6 y7 y8 y9 y10 y11 y12 y13 y14 y15 y16 y17 y18 y19 y20 y21 y22 y23 y24 y25) := hD
            refine lv_aload_n hx hb d_X_readLabel_49 rfl (lv_at hl 1 rfl) ?_
            refine va_get (D := D) (ci := 7) (v := .int x0_25z50) (C := "SignMachineModel") (T := F_X) (N := 64) hx hb hk fi_X hown hK.1 hP 0 rfl rfl 25 (by decide) (hk _ k_1146) (fun _ h9 => h9) rfl d_X_readLabel_50 ?_
            refine lv_iload_n hx hb d_X_readLabel_53 rfl (lv_at hl 0 rfl) ?_
            refine lv_icmp_lt (tgt := 65) hx hb d_X_readLabel_54 (by decide) (fun c51 => ?_) (fun c51 => ?_)
            · have gc51 : x0_25z50.toInt < g20l1.toInt := c_lt c51
              have R52 : 0 ≤ x0_25z50.toInt ∧ x0_25z50.toInt ≤ 3998 := rf_ltX Rx0_25z50 R45 gc51 (by decide) (by decide)
              have R53 : 1 ≤ g20l1.toInt ∧ g20l1.toInt ≤ 3999 := rf_ltY Rx0_25z50 R45 gc51 (by decide) (by decide)
              refine lv_aload_n hx hb d_X_readLabel_65 rfl (lv_at hl 1 rfl) ?_
              refine lv_iconst (v := 1) hx hb d_X_readLabel_66 (by decide) ?_
              refine kn_v (va_runV (C := "SignMachineModel") (As := [.int (1 : Int32)]) (rest := []) ⟨hx, hb, hml, hown, hk⟩ (c_X_bad l D cI cJ cZ cB p0 p1 p2 p3 p4 p5 p6 p7 p8 p9 p10 p11 p12 p13 p14 p15 p16 p17 p18 p19 p20 p21 p22 p23 p24 p25 H.size x0_4 x0_5 x0_6 x0_7 x0_8 x0_12 x0_13 x0_14 x0_15 x0_16 x0_17 x0_18 x0_22 x0_23 x0_24 x0_25z50 x0_26z50 x0_27 x0_28 x0_29 x0_30 x0_31 x0_32 x0_36 x0_39 x0_40 x0_44 x0_49 x0_51 x0_53 x0_54z50 x0_55z50 x0_56z50 x0_57 x0_58 x0_59 x0_60 (0 : Int32) x0_62 y1 y2 y3 y4 y5 y6 y7 y8 y9 y10 y11 y12 y13 y14 y15 y16 y17 y18 y19 y20 y21 y22 y23 y24 y25 (1 : Int32) Rx0_26z50 (by decide)) (v_X_bad hk k_1552 ⟨Nat.le_of_ble_eq_true rfl, Nat.le_of_ble_eq_true rfl⟩) (pM_v hK hP hD (ci := 7) (q0 := 0) rfl rfl rfl) rfl rfl hl.1 rfl (lv_room (Nat.le_of_ble_eq_true rfl)) d_X_readLabel_67 ⟨Nat.le_of_ble_eq_true rfl, Nat.le_of_ble_eq_true rfl⟩) hS hA hD (fun u t H locs ht hB hFr hS => ?_)
              obtain ⟨x0_26z54, Rx0_26z54, F0z54, hP, hD⟩ := hB
              have F0z54 : 1 ≤ x0_26z54.toInt := F0z54
              rw [ht] at hP
              have hD := dwk hD hFr
              clear ht hFr
              have hP : va_P D classes (wS50 cI cJ cZ cB p0 p1 p2 p3 p4 p5 p6 p7 p8 p9 p10 p11 p12 p13 p14 p15 p16 p17 p18 p19 p20 p21 p22 p23 p24 p25 x0_4 x0_5 x0_6 x0_7 x0_8 x0_12 x0_13 x0_14 x0_15 x0_16 x0_17 x0_18 x0_22 x0_23 x0_24 x0_25z50 x0_26z54 x0_27 x0_28 x0_29 x0_30 x0_31 x0_32 x0_36 x0_39 x0_40 x0_44 x0_49 x0_51 x0_53 x0_54z50 x0_55z50 x0_56z50 x0_57 x0_58 x0_59 x0_60 (0 : Int32) x0_62 y1 y2 y3 y4 y5 y6 y7 y8 y9 y10 y11 y12 y13 y14 y15 y16 y17 y18 y19 y20 y21 y22 y23 y24 y25) H := hP
              have hD : va_D A (wS50 cI cJ cZ cB p0 p1 p2 p3 p4 p5 p6 p7 p8 p9 p10 p11 p12 p13 p14 p15 p16 p17 p18 p19 p20 p21 p22 p23 p24 p25 x0_4 x0_5 x0_6 x0_7 x0_8 x0_12 x0_13 x0_14 x0_15 x0_16 x0_17 x0_18 x0_22 x0_23 x0_24 x0_25z50 x0_26z54 x0_27 x0_28 x0_29 x0_30 x0_31 x0_32 x0_36 x0_39 x0_40 x0_44 x0_49 x0_51 x0_53 x0_54z50 x0_55z50 x0_56z50 x0_57 x0_58 x0_59 x0_60 (0 : Int32) x0_62 y1 y2 y3 y4 y5 y6 y7 y8 y9 y10 y11 y12 y13 y14 y15 y16 y17 y18 y19 y20 y21 y22 y23 y24 y25) := hD
              refine lv_aload_n hx hb d_X_readLabel_70 rfl (lv_at hl 1 rfl) ?_
              refine va_get (D := D) (ci := 7) (v := .int x0_26z54) (C := "SignMachineModel") (T := F_X) (N := 64) hx hb hk fi_X hown hK.1 hP 0 rfl rfl 26 (by decide) (hk _ k_1147) (fun _ h9 => h9) rfl d_X_readLabel_71 ?_
              refine lv_if_ne (tgt := 107) hx hb d_X_readLabel_74 (by decide) (fun c55 => ?_) (fun c55 => ?_)
              · have gc55 : x0_26z54.toInt ≠ (0 : Int) := c_ne c55
                have R56 : 1 ≤ x0_26z54.toInt ∧ x0_26z54.toInt ≤ 6 := rf_neX Rx0_26z54 (show 0 ≤ (0 : Int) ∧ (0 : Int) ≤ 0 from by decide) gc55 (by decide) (by decide)
                refine lv_aload_n hx hb d_X_readLabel_107 rfl (lv_at hl 1 rfl) ?_
                refine va_get (D := D) (ci := 7) (v := .int x0_26z54) (C := "SignMachineModel") (T := F_X) (N := 64) hx hb hk fi_X hown hK.1 hP 0 rfl rfl 26 (by decide) (hk _ k_1147) (fun _ h9 => h9) rfl d_X_readLabel_108 ?_
                refine lv_if_le (tgt := 115) hx hb d_X_readLabel_111 (by decide) (fun c57 => absurd c57 (show ¬ x0_26z54 ≤ (0 : Int32) from (fun q9 => Int.not_le.mpr (klt (show 0 ≤ (0 : Int) ∧ (0 : Int) ≤ 0 from by decide) R56 (by decide)) (c_le q9)))) (fun c57 => ?_)
                exact W.vret hx hb hr (fun t ht hW => ⟨⟨(), rfl, trivial, ⟨x0_25z50, x0_26z54, x0_54z50, x0_55z50, x0_56z50, (0 : Int32), x0_62, (rgw R52 (by decide) (by decide)), (rgw R56 (by decide) (by decide)), Rx0_54z50, (by decide), (show x0_25.toInt ≤ x0_25z50.toInt ∧ x0_25z50.toInt ≤ x0_24.toInt from by omega), (show 1 ≤ x0_26.toInt → 1 ≤ x0_26z54.toInt from by omega), (show (0 : Int) = 3 → (0 ≤ x0_62.toInt ∧ x0_62.toInt ≤ 9) from by omega), by show va_P D classes _ t.heap; rw [ht]; exact hP, hD⟩⟩, hS.F ht⟩) hS.2.2 d_X_readLabel_114
              · have gc55 : x0_26z54.toInt = (0 : Int) := c_eq c55
                have R58 : 0 ≤ x0_26z54.toInt ∧ x0_26z54.toInt ≤ 0 := rf_eqX Rx0_26z54 (show 0 ≤ (0 : Int) ∧ (0 : Int) ≤ 0 from by decide) gc55 (by decide) (by decide)
                refine lv_aload_n hx hb d_X_readLabel_77 rfl (lv_at hl 1 rfl) ?_
                refine va_get (D := D) (ci := 7) (v := .int x0_54z50) (C := "SignMachineModel") (T := F_X) (N := 64) hx hb hk fi_X hown hK.1 hP 0 rfl rfl 54 (by decide) (hk _ k_1175) (fun _ h9 => h9) rfl d_X_readLabel_78 ?_
                refine lv_iconst (v := 3) hx hb d_X_readLabel_81 (by decide) ?_
                refine lv_icmp_ne (tgt := 107) hx hb d_X_readLabel_82 (by decide) (fun c59 => ?_) (fun c59 => ?_)
                · have gc59 : x0_54z50.toInt ≠ (3 : Int) := c_ne c59
                  have R60 : 0 ≤ x0_54z50.toInt ∧ x0_54z50.toInt ≤ 2 := rf_neX Rx0_54z50 (show 3 ≤ (3 : Int) ∧ (3 : Int) ≤ 3 from by decide) gc59 (by decide) (by decide)
                  refine lv_aload_n hx hb d_X_readLabel_107 rfl (lv_at hl 1 rfl) ?_
                  refine va_get (D := D) (ci := 7) (v := .int x0_26z54) (C := "SignMachineModel") (T := F_X) (N := 64) hx hb hk fi_X hown hK.1 hP 0 rfl rfl 26 (by decide) (hk _ k_1147) (fun _ h9 => h9) rfl d_X_readLabel_108 ?_
                  refine lv_if_le (tgt := 115) hx hb d_X_readLabel_111 (by decide) (fun c61 => ?_) (fun c61 => absurd (show x0_26z54 ≤ (0 : Int32) from (Int32.le_iff_toInt_le.mpr (kle R58 (show 0 ≤ (0 : Int) ∧ (0 : Int) ≤ 0 from by decide) (by decide)))) c61)
                  refine lv_aload_n hx hb d_X_readLabel_115 rfl (lv_at hl 1 rfl) ?_
                  refine lv_aload_n hx hb d_X_readLabel_116 rfl (lv_at hl 1 rfl) ?_
                  refine va_get (D := D) (ci := 7) (v := .int x0_54z50) (C := "SignMachineModel") (T := F_X) (N := 64) hx hb hk fi_X hown hK.1 hP 0 rfl rfl 54 (by decide) (hk _ k_1175) (fun _ h9 => h9) rfl d_X_readLabel_117 ?_
                  refine va_put (D := D) (ci := 7) (v := .int x0_54z50) (ty := .int) (C := "SignMachineModel") (T := F_X) (N := 64) hx hb hk fi_X ft_X ft_X_ok fn_X hown hK.1 hP hD hS 0 rfl rfl 61 (by decide) (hk _ k_1182) (fun _ h9 => h9) rfl (by decide +kernel) rfl rfl (Nat.le_of_ble_eq_true rfl) d_X_readLabel_120 (fun H locs hP hD hS => ?_)
                  have hP : va_P D classes (wS50 cI cJ cZ cB p0 p1 p2 p3 p4 p5 p6 p7 p8 p9 p10 p11 p12 p13 p14 p15 p16 p17 p18 p19 p20 p21 p22 p23 p24 p25 x0_4 x0_5 x0_6 x0_7 x0_8 x0_12 x0_13 x0_14 x0_15 x0_16 x0_17 x0_18 x0_22 x0_23 x0_24 x0_25z50 x0_26z54 x0_27 x0_28 x0_29 x0_30 x0_31 x0_32 x0_36 x0_39 x0_40 x0_44 x0_49 x0_51 x0_53 x0_54z50 x0_55z50 x0_56z50 x0_57 x0_58 x0_59 x0_60 x0_54z50 x0_62 y1 y2 y3 y4 y5 y6 y7 y8 y9 y10 y11 y12 y13 y14 y15 y16 y17 y18 y19 y20 y21 y22 y23 y24 y25) H := hP
                  have hD : va_D A (wS50 cI cJ cZ cB p0 p1 p2 p3 p4 p5 p6 p7 p8 p9 p10 p11 p12 p13 p14 p15 p16 p17 p18 p19 p20 p21 p22 p23 p24 p25 x0_4 x0_5 x0_6 x0_7 x0_8 x0_12 x0_13 x0_14 x0_15 x0_16 x0_17 x0_18 x0_22 x0_23 x0_24 x0_25z50 x0_26z54 x0_27 x0_28 x0_29 x0_30 x0_31 x0_32 x0_36 x0_39 x0_40 x0_44 x0_49 x0_51 x0_53 x0_54z50 x0_55z50 x0_56z50 x0_57 x0_58 x0_59 x0_60 x0_54z50 x0_62 y1 y2 y3 y4 y5 y6 y7 y8 y9 y10 y11 y12 y13 y14 y15 y16 y17 y18 y19 y20 y21 y22 y23 y24 y25) := hD
                  refine lv_aload_n hx hb d_X_readLabel_123 rfl (lv_at hl 1 rfl) ?_
                  refine lv_aload_n hx hb d_X_readLabel_124 rfl (lv_at hl 1 rfl) ?_
                  refine va_get (D := D) (ci := 7) (v := .long x0_55z50) (C := "SignMachineModel") (T := F_X) (N := 64) hx hb hk fi_X hown hK.1 hP 0 rfl rfl 55 (by decide) (hk _ k_1176) (fun _ h9 => h9) rfl d_X_readLabel_125 ?_
                  refine va_put (D := D) (ci := 7) (v := .long x0_55z50) (ty := .long) (C := "SignMachineModel") (T := F_X) (N := 64) hx hb hk fi_X ft_X ft_X_ok fn_X hown hK.1 hP hD hS 0 rfl rfl 62 (by decide) (hk _ k_1183) (fun _ h9 => h9) rfl (by decide +kernel) rfl rfl (Nat.le_of_ble_eq_true rfl) d_X_readLabel_128 (fun H locs hP hD hS => ?_)
                  have hP : va_P D classes (wS50 cI cJ cZ cB p0 p1 p2 p3 p4 p5 p6 p7 p8 p9 p10 p11 p12 p13 p14 p15 p16 p17 p18 p19 p20 p21 p22 p23 p24 p25 x0_4 x0_5 x0_6 x0_7 x0_8 x0_12 x0_13 x0_14 x0_15 x0_16 x0_17 x0_18 x0_22 x0_23 x0_24 x0_25z50 x0_26z54 x0_27 x0_28 x0_29 x0_30 x0_31 x0_32 x0_36 x0_39 x0_40 x0_44 x0_49 x0_51 x0_53 x0_54z50 x0_55z50 x0_56z50 x0_57 x0_58 x0_59 x0_60 x0_54z50 x0_55z50 y1 y2 y3 y4 y5 y6 y7 y8 y9 y10 y11 y12 y13 y14 y15 y16 y17 y18 y19 y20 y21 y22 y23 y24 y25) H := hP
                  have hD : va_D A (wS50 cI cJ cZ cB p0 p1 p2 p3 p4 p5 p6 p7 p8 p9 p10 p11 p12 p13 p14 p15 p16 p17 p18 p19 p20 p21 p22 p23 p24 p25 x0_4 x0_5 x0_6 x0_7 x0_8 x0_12 x0_13 x0_14 x0_15 x0_16 x0_17 x0_18 x0_22 x0_23 x0_24 x0_25z50 x0_26z54 x0_27 x0_28 x0_29 x0_30 x0_31 x0_32 x0_36 x0_39 x0_40 x0_44 x0_49 x0_51 x0_53 x0_54z50 x0_55z50 x0_56z50 x0_57 x0_58 x0_59 x0_60 x0_54z50 x0_55z50 y1 y2 y3 y4 y5 y6 y7 y8 y9 y10 y11 y12 y13 y14 y15 y16 y17 y18 y19 y20 y21 y22 y23 y24 y25) := hD
                  exact W.vret hx hb hr (fun t ht hW => ⟨⟨(), rfl, trivial, ⟨x0_25z50, x0_26z54, x0_54z50, x0_55z50, x0_56z50, x0_54z50, x0_55z50, (rgw R52 (by decide) (by decide)), (rgw R58 (by decide) (by decide)), (rgw R60 (by decide) (by decide)), (rgw R60 (by decide) (by decide)), (show x0_25.toInt ≤ x0_25z50.toInt ∧ x0_25z50.toInt ≤ x0_24.toInt from by omega), (show 1 ≤ x0_26.toInt → 1 ≤ x0_26z54.toInt from by omega), (show x0_54z50.toInt = 3 → (0 ≤ x0_55z50.toInt ∧ x0_55z50.toInt ≤ 9) from by omega), by show va_P D classes _ t.heap; rw [ht]; exact hP, hD⟩⟩, hS.F ht⟩) hS.2.2 d_X_readLabel_131
                · have gc59 : x0_54z50.toInt = (3 : Int) := c_eq c59
                  have R62 : 3 ≤ x0_54z50.toInt ∧ x0_54z50.toInt ≤ 3 := rf_eqX Rx0_54z50 (show 3 ≤ (3 : Int) ∧ (3 : Int) ≤ 3 from by decide) gc59 (by decide) (by decide)
                  refine lv_aload_n hx hb d_X_readLabel_85 rfl (lv_at hl 1 rfl) ?_
                  refine va_get (D := D) (ci := 7) (v := .int x0_56z50) (C := "SignMachineModel") (T := F_X) (N := 64) hx hb hk fi_X hown hK.1 hP 0 rfl rfl 56 (by decide) (hk _ k_1177) (fun _ h9 => h9) rfl d_X_readLabel_86 ?_
                  refine lv_bipush (v := 72) hx hb d_X_readLabel_89 (by decide) ?_
                  refine lv_icmp_eq (tgt := 107) hx hb d_X_readLabel_91 (by decide) (fun c63 => ?_) (fun c63 => ?_)
                  · have gc63 : x0_56z50.toInt = (72 : Int) := c_eq c63
                    have R64 : 72 ≤ x0_56z50.toInt ∧ x0_56z50.toInt ≤ 72 := rf_eqX (fr3 x0_56z50) (show 72 ≤ (72 : Int) ∧ (72 : Int) ≤ 72 from by decide) gc63 (by decide) (by decide)
                    refine lv_aload_n hx hb d_X_readLabel_107 rfl (lv_at hl 1 rfl) ?_
                    refine va_get (D := D) (ci := 7) (v := .int x0_26z54) (C := "SignMachineModel") (T := F_X) (N := 64) hx hb hk fi_X hown hK.1 hP 0 rfl rfl 26 (by decide) (hk _ k_1147) (fun _ h9 => h9) rfl d_X_readLabel_108 ?_
                    refine lv_if_le (tgt := 115) hx hb d_X_readLabel_111 (by decide) (fun c65 => ?_) (fun c65 => absurd (show x0_26z54 ≤ (0 : Int32) from (Int32.le_iff_toInt_le.mpr (kle R58 (show 0 ≤ (0 : Int) ∧ (0 : Int) ≤ 0 from by decide) (by decide)))) c65)
                    refine lv_aload_n hx hb d_X_readLabel_115 rfl (lv_at hl 1 rfl) ?_
                    refine lv_aload_n hx hb d_X_readLabel_116 rfl (lv_at hl 1 rfl) ?_
                    refine va_get (D := D) (ci := 7) (v := .int x0_54z50) (C := "SignMachineModel") (T := F_X) (N := 64) hx hb hk fi_X hown hK.1 hP 0 rfl rfl 54 (by decide) (hk _ k_1175) (fun _ h9 => h9) rfl d_X_readLabel_117 ?_
                    refine va_put (D := D) (ci := 7) (v := .int x0_54z50) (ty := .int) (C := "SignMachineModel") (T := F_X) (N := 64) hx hb hk fi_X ft_X ft_X_ok fn_X hown hK.1 hP hD hS 0 rfl rfl 61 (by decide) (hk _ k_1182) (fun _ h9 => h9) rfl (by decide +kernel) rfl rfl (Nat.le_of_ble_eq_true rfl) d_X_readLabel_120 (fun H locs hP hD hS => ?_)
                    have hP : va_P D classes (wS50 cI cJ cZ cB p0 p1 p2 p3 p4 p5 p6 p7 p8 p9 p10 p11 p12 p13 p14 p15 p16 p17 p18 p19 p20 p21 p22 p23 p24 p25 x0_4 x0_5 x0_6 x0_7 x0_8 x0_12 x0_13 x0_14 x0_15 x0_16 x0_17 x0_18 x0_22 x0_23 x0_24 x0_25z50 x0_26z54 x0_27 x0_28 x0_29 x0_30 x0_31 x0_32 x0_36 x0_39 x0_40 x0_44 x0_49 x0_51 x0_53 x0_54z50 x0_55z50 x0_56z50 x0_57 x0_58 x0_59 x0_60 x0_54z50 x0_62 y1 y2 y3 y4 y5 y6 y7 y8 y9 y10 y11 y12 y13 y14 y15 y16 y17 y18 y19 y20 y21 y22 y23 y24 y25) H := hP
                    have hD : va_D A (wS50 cI cJ cZ cB p0 p1 p2 p3 p4 p5 p6 p7 p8 p9 p10 p11 p12 p13 p14 p15 p16 p17 p18 p19 p20 p21 p22 p23 p24 p25 x0_4 x0_5 x0_6 x0_7 x0_8 x0_12 x0_13 x0_14 x0_15 x0_16 x0_17 x0_18 x0_22 x0_23 x0_24 x0_25z50 x0_26z54 x0_27 x0_28 x0_29 x0_30 x0_31 x0_32 x0_36 x0_39 x0_40 x0_44 x0_49 x0_51 x0_53 x0_54z50 x0_55z50 x0_56z50 x0_57 x0_58 x0_59 x0_60 x0_54z50 x0_62 y1 y2 y3 y4 y5 y6 y7 y8 y9 y10 y11 y12 y13 y14 y15 y16 y17 y18 y19 y20 y21 y22 y23 y24 y25) := hD
                    refine lv_aload_n hx hb d_X_readLabel_123 rfl (lv_at hl 1 rfl) ?_
                    refine lv_aload_n hx hb d_X_readLabel_124 rfl (lv_at hl 1 rfl) ?_
                    refine va_get (D := D) (ci := 7) (v := .long x0_55z50) (C := "SignMachineModel") (T := F_X) (N := 64) hx hb hk fi_X hown hK.1 hP 0 rfl rfl 55 (by decide) (hk _ k_1176) (fun _ h9 => h9) rfl d_X_readLabel_125 ?_
                    refine va_put (D := D) (ci := 7) (v := .long x0_55z50) (ty := .long) (C := "SignMachineModel") (T := F_X) (N := 64) hx hb hk fi_X ft_X ft_X_ok fn_X hown hK.1 hP hD hS 0 rfl rfl 62 (by decide) (hk _ k_1183) (fun _ h9 => h9) rfl (by decide +kernel) rfl rfl (Nat.le_of_ble_eq_true rfl) d_X_readLabel_128 (fun H locs hP hD hS => ?_)
                    have hP : va_P D classes (wS50 cI cJ cZ cB p0 p1 p2 p3 p4 p5 p6 p7 p8 p9 p10 p11 p12 p13 p14 p15 p16 p17 p18 p19 p20 p21 p22 p23 p24 p25 x0_4 x0_5 x0_6 x0_7 x0_8 x0_12 x0_13 x0_14 x0_15 x0_16 x0_17 x0_18 x0_22 x0_23 x0_24 x0_25z50 x0_26z54 x0_27 x0_28 x0_29 x0_30 x0_31 x0_32 x0_36 x0_39 x0_40 x0_44 x0_49 x0_51 x0_53 x0_54z50 x0_55z50 x0_56z50 x0_57 x0_58 x0_59 x0_60 x0_54z50 x0_55z50 y1 y2 y3 y4 y5 y6 y7 y8 y9 y10 y11 y12 y13 y14 y15 y16 y17 y18 y19 y20 y21 y22 y23 y24 y25) H := hP
                    have hD : va_D A (wS50 cI cJ cZ cB p0 p1 p2 p3 p4 p5 p6 p7 p8 p9 p10 p11 p12 p13 p14 p15 p16 p17 p18 p19 p20 p21 p22 p23 p24 p25 x0_4 x0_5 x0_6 x0_7 x0_8 x0_12 x0_13 x0_14 x0_15 x0_16 x0_17 x0_18 x0_22 x0_23 x0_24 x0_25z50 x0_26z54 x0_27 x0_28 x0_29 x0_30 x0_31 x0_32 x0_36 x0_39 x0_40 x0_44 x0_49 x0_51 x0_53 x0_54z50 x0_55z50 x0_56z50 x0_57 x0_58 x0_59 x0_60 x0_54z50 x0_55z50 y1 y2 y3 y4 y5 y6 y7 y8 y9 y10 y11 y12 y13 y14 y15 y16 y17 y18 y19 y20 y21 y22 y23 y24 y25) := hD
                    exact W.vret hx hb hr (fun t ht hW => ⟨⟨(), rfl, trivial, ⟨x0_25z50, x0_26z54, x0_54z50, x0_55z50, x0_56z50, x0_54z50, x0_55z50, (rgw R52 (by decide) (by decide)), (rgw R58 (by decide) (by decide)), (rgw R62 (by decide) (by decide)), (rgw R62 (by decide) (by decide)), (show x0_25.toInt ≤ x0_25z50.toInt ∧ x0_25z50.toInt ≤ x0_24.toInt from by omega), (show 1 ≤ x0_26.toInt → 1 ≤ x0_26z54.toInt from by omega), (show x0_54z50.toInt = 3 → (0 ≤ x0_55z50.toInt ∧ x0_55z50.toInt ≤ 9) from by omega), by show va_P D classes _ t.heap; rw [ht]; exact hP, hD⟩⟩, hS.F ht⟩) hS.2.2 d_X_readLabel_131
                  · have gc63 : x0_56z50.toInt ≠ (72 : Int) := c_ne c63
                    refine lv_iload_n hx hb d_X_readLabel_94 rfl (lv_at hl 0 rfl) ?_
                    refine lv_aload_n hx hb d_X_readLabel_95 rfl (lv_at hl 1 rfl) ?_
                    refine va_get (D := D) (ci := 7) (v := .int x0_24) (C := "SignMachineModel") (T := F_X) (N := 64) hx hb hk fi_X hown hK.1 hP 0 rfl rfl 24 (by decide) (hk _ k_1145) (fun _ h9 => h9) rfl d_X_readLabel_96 ?_
                    refine lv_icmp_ge (tgt := 107) hx hb d_X_readLabel_99 (by decide) (fun c66 => absurd c66 (show ¬ x0_24 ≤ g20l1 from c3)) (fun c66 => ?_)
                    refine lv_aload_n hx hb d_X_readLabel_102 rfl (lv_at hl 1 rfl) ?_
                    refine lv_iconst (v := 3) hx hb d_X_readLabel_103 (by decide) ?_
                    refine kn_v (va_runV (C := "SignMachineModel") (As := [.int (3 : Int32)]) (rest := []) ⟨hx, hb, hml, hown, hk⟩ (c_X_bad l D cI cJ cZ cB p0 p1 p2 p3 p4 p5 p6 p7 p8 p9 p10 p11 p12 p13 p14 p15 p16 p17 p18 p19 p20 p21 p22 p23 p24 p25 H.size x0_4 x0_5 x0_6 x0_7 x0_8 x0_12 x0_13 x0_14 x0_15 x0_16 x0_17 x0_18 x0_22 x0_23 x0_24 x0_25z50 x0_26z54 x0_27 x0_28 x0_29 x0_30 x0_31 x0_32 x0_36 x0_39 x0_40 x0_44 x0_49 x0_51 x0_53 x0_54z50 x0_55z50 x0_56z50 x0_57 x0_58 x0_59 x0_60 (0 : Int32) x0_62 y1 y2 y3 y4 y5 y6 y7 y8 y9 y10 y11 y12 y13 y14 y15 y16 y17 y18 y19 y20 y21 y22 y23 y24 y25 (3 : Int32) (rgw R58 (by decide) (by decide)) (by decide)) (v_X_bad hk k_1552 ⟨Nat.le_of_ble_eq_true rfl, Nat.le_of_ble_eq_true rfl⟩) (pM_v hK hP hD (ci := 7) (q0 := 0) rfl rfl rfl) rfl rfl hl.1 rfl (lv_room (Nat.le_of_ble_eq_true rfl)) d_X_readLabel_104 ⟨Nat.le_of_ble_eq_true rfl, Nat.le_of_ble_eq_true rfl⟩) hS hA hD (fun u t H locs ht hB hFr hS => ?_)
                    obtain ⟨x0_26z67, Rx0_26z67, F0z67, hP, hD⟩ := hB
                    have F0z67 : 1 ≤ x0_26z67.toInt := F0z67
                    rw [ht] at hP
                    have hD := dwk hD hFr
                    clear ht hFr
                    have hP : va_P D classes (wS50 cI cJ cZ cB p0 p1 p2 p3 p4 p5 p6 p7 p8 p9 p10 p11 p12 p13 p14 p15 p16 p17 p18 p19 p20 p21 p22 p23 p24 p25 x0_4 x0_5 x0_6 x0_7 x0_8 x0_12 x0_13 x0_14 x0_15 x0_16 x0_17 x0_18 x0_22 x0_23 x0_24 x0_25z50 x0_26z67 x0_27 x0_28 x0_29 x0_30 x0_31 x0_32 x0_36 x0_39 x0_40 x0_44 x0_49 x0_51 x0_53 x0_54z50 x0_55z50 x0_56z50 x0_57 x0_58 x0_59 x0_60 (0 : Int32) x0_62 y1 y2 y3 y4 y5 y6 y7 y8 y9 y10 y11 y12 y13 y14 y15 y16 y17 y18 y19 y20 y21 y22 y23 y24 y25) H := hP
                    have hD : va_D A (wS50 cI cJ cZ cB p0 p1 p2 p3 p4 p5 p6 p7 p8 p9 p10 p11 p12 p13 p14 p15 p16 p17 p18 p19 p20 p21 p22 p23 p24 p25 x0_4 x0_5 x0_6 x0_7 x0_8 x0_12 x0_13 x0_14 x0_15 x0_16 x0_17 x0_18 x0_22 x0_23 x0_24 x0_25z50 x0_26z67 x0_27 x0_28 x0_29 x0_30 x0_31 x0_32 x0_36 x0_39 x0_40 x0_44 x0_49 x0_51 x0_53 x0_54z50 x0_55z50 x0_56z50 x0_57 x0_58 x0_59 x0_60 (0 : Int32) x0_62 y1 y2 y3 y4 y5 y6 y7 y8 y9 y10 y11 y12 y13 y14 y15 y16 y17 y18 y19 y20 y21 y22 y23 y24 y25) := hD
                    refine lv_aload_n hx hb d_X_readLabel_107 rfl (lv_at hl 1 rfl) ?_
                    refine va_get (D := D) (ci := 7) (v := .int x0_26z67) (C := "SignMachineModel") (T := F_X) (N := 64) hx hb hk fi_X hown hK.1 hP 0 rfl rfl 26 (by decide) (hk _ k_1147) (fun _ h9 => h9) rfl d_X_readLabel_108 ?_
                    refine lv_if_le (tgt := 115) hx hb d_X_readLabel_111 (by decide) (fun c68 => ?_) (fun c68 => ?_)
                    · have gc68 : x0_26z67.toInt ≤ (0 : Int) := c_le c68
                      have R69 : 0 ≤ x0_26z67.toInt ∧ x0_26z67.toInt ≤ 0 := rf_leX Rx0_26z67 (show 0 ≤ (0 : Int) ∧ (0 : Int) ≤ 0 from by decide) gc68 (by decide) (by decide)
                      refine lv_aload_n hx hb d_X_readLabel_115 rfl (lv_at hl 1 rfl) ?_
                      refine lv_aload_n hx hb d_X_readLabel_116 rfl (lv_at hl 1 rfl) ?_
                      refine va_get (D := D) (ci := 7) (v := .int x0_54z50) (C := "SignMachineModel") (T := F_X) (N := 64) hx hb hk fi_X hown hK.1 hP 0 rfl rfl 54 (by decide) (hk _ k_1175) (fun _ h9 => h9) rfl d_X_readLabel_117 ?_
                      refine va_put (D := D) (ci := 7) (v := .int x0_54z50) (ty := .int) (C := "SignMachineModel") (T := F_X) (N := 64) hx hb hk fi_X ft_X ft_X_ok fn_X hown hK.1 hP hD hS 0 rfl rfl 61 (by decide) (hk _ k_1182) (fun _ h9 => h9) rfl (by decide +kernel) rfl rfl (Nat.le_of_ble_eq_true rfl) d_X_readLabel_120 (fun H locs hP hD hS => ?_)
                      have hP : va_P D classes (wS50 cI cJ cZ cB p0 p1 p2 p3 p4 p5 p6 p7 p8 p9 p10 p11 p12 p13 p14 p15 p16 p17 p18 p19 p20 p21 p22 p23 p24 p25 x0_4 x0_5 x0_6 x0_7 x0_8 x0_12 x0_13 x0_14 x0_15 x0_16 x0_17 x0_18 x0_22 x0_23 x0_24 x0_25z50 x0_26z67 x0_27 x0_28 x0_29 x0_30 x0_31 x0_32 x0_36 x0_39 x0_40 x0_44 x0_49 x0_51 x0_53 x0_54z50 x0_55z50 x0_56z50 x0_57 x0_58 x0_59 x0_60 x0_54z50 x0_62 y1 y2 y3 y4 y5 y6 y7 y8 y9 y10 y11 y12 y13 y14 y15 y16 y17 y18 y19 y20 y21 y22 y23 y24 y25) H := hP
                      have hD : va_D A (wS50 cI cJ cZ cB p0 p1 p2 p3 p4 p5 p6 p7 p8 p9 p10 p11 p12 p13 p14 p15 p16 p17 p18 p19 p20 p21 p22 p23 p24 p25 x0_4 x0_5 x0_6 x0_7 x0_8 x0_12 x0_13 x0_14 x0_15 x0_16 x0_17 x0_18 x0_22 x0_23 x0_24 x0_25z50 x0_26z67 x0_27 x0_28 x0_29 x0_30 x0_31 x0_32 x0_36 x0_39 x0_40 x0_44 x0_49 x0_51 x0_53 x0_54z50 x0_55z50 x0_56z50 x0_57 x0_58 x0_59 x0_60 x0_54z50 x0_62 y1 y2 y3 y4 y5 y6 y7 y8 y9 y10 y11 y12 y13 y14 y15 y16 y17 y18 y19 y20 y21 y22 y23 y24 y25) := hD
                      refine lv_aload_n hx hb d_X_readLabel_123 rfl (lv_at hl 1 rfl) ?_
                      refine lv_aload_n hx hb d_X_readLabel_124 rfl (lv_at hl 1 rfl) ?_
                      refine va_get (D := D) (ci := 7) (v := .long x0_55z50) (C := "SignMachineModel") (T := F_X) (N := 64) hx hb hk fi_X hown hK.1 hP 0 rfl rfl 55 (by decide) (hk _ k_1176) (fun _ h9 => h9) rfl d_X_readLabel_125 ?_
                      refine va_put (D := D) (ci := 7) (v := .long x0_55z50) (ty := .long) (C := "SignMachineModel") (T := F_X) (N := 64) hx hb hk fi_X ft_X ft_X_ok fn_X hown hK.1 hP hD hS 0 rfl rfl 62 (by decide) (hk _ k_1183) (fun _ h9 => h9) rfl (by decide +kernel) rfl rfl (Nat.le_of_ble_eq_true rfl) d_X_readLabel_128 (fun H locs hP hD hS => ?_)
                      have hP : va_P D classes (wS50 cI cJ cZ cB p0 p1 p2 p3 p4 p5 p6 p7 p8 p9 p10 p11 p12 p13 p14 p15 p16 p17 p18 p19 p20 p21 p22 p23 p24 p25 x0_4 x0_5 x0_6 x0_7 x0_8 x0_12 x0_13 x0_14 x0_15 x0_16 x0_17 x0_18 x0_22 x0_23 x0_24 x0_25z50 x0_26z67 x0_27 x0_28 x0_29 x0_30 x0_31 x0_32 x0_36 x0_39 x0_40 x0_44 x0_49 x0_51 x0_53 x0_54z50 x0_55z50 x0_56z50 x0_57 x0_58 x0_59 x0_60 x0_54z50 x0_55z50 y1 y2 y3 y4 y5 y6 y7 y8 y9 y10 y11 y12 y13 y14 y15 y16 y17 y18 y19 y20 y21 y22 y23 y24 y25) H := hP
                      have hD : va_D A (wS50 cI cJ cZ cB p0 p1 p2 p3 p4 p5 p6 p7 p8 p9 p10 p11 p12 p13 p14 p15 p16 p17 p18 p19 p20 p21 p22 p23 p24 p25 x0_4 x0_5 x0_6 x0_7 x0_8 x0_12 x0_13 x0_14 x0_15 x0_16 x0_17 x0_18 x0_22 x0_23 x0_24 x0_25z50 x0_26z67 x0_27 x0_28 x0_29 x0_30 x0_31 x0_32 x0_36 x0_39 x0_40 x0_44 x0_49 x0_51 x0_53 x0_54z50 x0_55z50 x0_56z50 x0_57 x0_58 x0_59 x0_60 x0_54z50 x0_55z50 y1 y2 y3 y4 y5 y6 y7 y8 y9 y10 y11 y12 y13 y14 y15 y16 y17 y18 y19 y20 y21 y22 y23 y24 y25) := hD
                      exact W.vret hx hb hr (fun t ht hW => ⟨⟨(), rfl, trivial, ⟨x0_25z50, x0_26z67, x0_54z50, x0_55z50, x0_56z50, x0_54z50, x0_55z50, (rgw R52 (by decide) (by decide)), (rgw R69 (by decide) (by decide)), (rgw R62 (by decide) (by decide)), (rgw R62 (by decide) (by decide)), (show x0_25.toInt ≤ x0_25z50.toInt ∧ x0_25z50.toInt ≤ x0_24.toInt from by omega), (show 1 ≤ x0_26.toInt → 1 ≤ x0_26z67.toInt from by omega), (show x0_54z50.toInt = 3 → (0 ≤ x0_55z50.toInt ∧ x0_55z50.toInt ≤ 9) from by omega), by show va_P D classes _ t.heap; rw [ht]; exact hP, hD⟩⟩, hS.F ht⟩) hS.2.2 d_X_readLabel_131
                    · have gc68 : (0 : Int) < x0_26z67.toInt := c_nle c68
                      have R70 : 1 ≤ x0_26z67.toInt ∧ x0_26z67.toInt ≤ 6 := rf_gtX Rx0_26z67 (show 0 ≤ (0 : Int) ∧ (0 : Int) ≤ 0 from by decide) gc68 (by decide) (by decide)
                      exact W.vret hx hb hr (fun t ht hW => ⟨⟨(), rfl, trivial, ⟨x0_25z50, x0_26z67, x0_54z50, x0_55z50, x0_56z50, (0 : Int32), x0_62, (rgw R52 (by decide) (by decide)), (rgw R70 (by decide) (by decide)), (rgw R62 (by decide) (by decide)), (by decide), (show x0_25.toInt ≤ x0_25z50.toInt ∧ x0_25z50.toInt ≤ x0_24.toInt from by omega), (show 1 ≤ x0_26.toInt → 1 ≤ x0_26z67.toInt from by omega), (show (0 : Int) = 3 → (0 ≤ x0_62.toInt ∧ x0_62.toInt ≤ 9) from by omega), by show va_P D classes _ t.heap; rw [ht]; exact hP, hD⟩⟩, hS.F ht⟩) hS.2.2 d_X_readLabel_114
            · have gc51 : g20l1.toInt ≤ x0_25z50.toInt := c_nlt c51
              refine lv_aload_n hx hb d_X_readLabel_57 rfl (lv_at hl 1 rfl) ?_
              refine va_get (D := D) (ci := 7) (v := .int x0_54z50) (C := "SignMachineModel") (T := F_X) (N := 64) hx hb hk fi_X hown hK.1 hP 0 rfl rfl 54 (by decide) (hk _ k_1175) (fun _ h9 => h9) rfl d_X_readLabel_58 ?_
              refine lv_iconst (v := 2) hx hb d_X_readLabel_61 (by decide) ?_
              refine lv_icmp_ge (tgt := 70) hx hb d_X_readLabel_62 (by decide) (fun c71 => ?_) (fun c71 => ?_)
              · have gc71 : (2 : Int) ≤ x0_54z50.toInt := c_le c71
                have R72 : 2 ≤ x0_54z50.toInt ∧ x0_54z50.toInt ≤ 3 := rf_geX Rx0_54z50 (show 2 ≤ (2 : Int) ∧ (2 : Int) ≤ 2 from by decide) gc71 (by decide) (by decide)
                refine lv_aload_n hx hb d_X_readLabel_70 rfl (lv_at hl 1 rfl) ?_
                refine va_get (D := D) (ci := 7) (v := .int x0_26z50) (C := "SignMachineModel") (T := F_X) (N := 64) hx hb hk fi_X hown hK.1 hP 0 rfl rfl 26 (by decide) (hk _ k_1147) (fun _ h9 => h9) rfl d_X_readLabel_71 ?_
                refine lv_if_ne (tgt := 107) hx hb d_X_readLabel_74 (by decide) (fun c73 => ?_) (fun c73 => ?_)
                · have gc73 : x0_26z50.toInt ≠ (0 : Int) := c_ne c73
                  have R74 : 1 ≤ x0_26z50.toInt ∧ x0_26z50.toInt ≤ 6 := rf_neX Rx0_26z50 (show 0 ≤ (0 : Int) ∧ (0 : Int) ≤ 0 from by decide) gc73 (by decide) (by decide)
                  refine lv_aload_n hx hb d_X_readLabel_107 rfl (lv_at hl 1 rfl) ?_
                  refine va_get (D := D) (ci := 7) (v := .int x0_26z50) (C := "SignMachineModel") (T := F_X) (N := 64) hx hb hk fi_X hown hK.1 hP 0 rfl rfl 26 (by decide) (hk _ k_1147) (fun _ h9 => h9) rfl d_X_readLabel_108 ?_
                  refine lv_if_le (tgt := 115) hx hb d_X_readLabel_111 (by decide) (fun c75 => absurd c75 (show ¬ x0_26z50 ≤ (0 : Int32) from (fun q9 => Int.not_le.mpr (klt (show 0 ≤ (0 : Int) ∧ (0 : Int) ≤ 0 from by decide) R74 (by decide)) (c_le q9)))) (fun c75 => ?_)
                  exact W.vret hx hb hr (fun t ht hW => ⟨⟨(), rfl, trivial, ⟨x0_25z50, x0_26z50, x0_54z50, x0_55z50, x0_56z50, (0 : Int32), x0_62, Rx0_25z50, (rgw R74 (by decide) (by decide)), (rgw R72 (by decide) (by decide)), (by decide), (show x0_25.toInt ≤ x0_25z50.toInt ∧ x0_25z50.toInt ≤ x0_24.toInt from by omega), (show 1 ≤ x0_26.toInt → 1 ≤ x0_26z50.toInt from by omega), (show (0 : Int) = 3 → (0 ≤ x0_62.toInt ∧ x0_62.toInt ≤ 9) from by omega), by show va_P D classes _ t.heap; rw [ht]; exact hP, hD⟩⟩, hS.F ht⟩) hS.2.2 d_X_readLabel_114
                · have gc73 : x0_26z50.toInt = (0 : Int) := c_eq c73
                  have R76 : 0 ≤ x0_26z50.toInt ∧ x0_26z50.toInt ≤ 0 := rf_eqX Rx0_26z50 (show 0 ≤ (0 : Int) ∧ (0 : Int) ≤ 0 from by decide) gc73 (by decide) (by decide)
                  refine lv_aload_n hx hb d_X_readLabel_77 rfl (lv_at hl 1 rfl) ?_
                  refine va_get (D := D) (ci := 7) (v := .int x0_54z50) (C := "SignMachineModel") (T := F_X) (N := 64) hx hb hk fi_X hown hK.1 hP 0 rfl rfl 54 (by decide) (hk _ k_1175) (fun _ h9 => h9) rfl d_X_readLabel_78 ?_
                  refine lv_iconst (v := 3) hx hb d_X_readLabel_81 (by decide) ?_
                  refine lv_icmp_ne (tgt := 107) hx hb d_X_readLabel_82 (by decide) (fun c77 => ?_) (fun c77 => ?_)
                  · have gc77 : x0_54z50.toInt ≠ (3 : Int) := c_ne c77
                    have R78 : 2 ≤ x0_54z50.toInt ∧ x0_54z50.toInt ≤ 2 := rf_neX R72 (show 3 ≤ (3 : Int) ∧ (3 : Int) ≤ 3 from by decide) gc77 (by decide) (by decide)
                    refine lv_aload_n hx hb d_X_readLabel_107 rfl (lv_at hl 1 rfl) ?_
                    refine va_get (D := D) (ci := 7) (v := .int x0_26z50) (C := "SignMachineModel") (T := F_X) (N := 64) hx hb hk fi_X hown hK.1 hP 0 rfl rfl 26 (by decide) (hk _ k_1147) (fun _ h9 => h9) rfl d_X_readLabel_108 ?_
                    refine lv_if_le (tgt := 115) hx hb d_X_readLabel_111 (by decide) (fun c79 => ?_) (fun c79 => absurd (show x0_26z50 ≤ (0 : Int32) from (Int32.le_iff_toInt_le.mpr (kle R76 (show 0 ≤ (0 : Int) ∧ (0 : Int) ≤ 0 from by decide) (by decide)))) c79)
                    refine lv_aload_n hx hb d_X_readLabel_115 rfl (lv_at hl 1 rfl) ?_
                    refine lv_aload_n hx hb d_X_readLabel_116 rfl (lv_at hl 1 rfl) ?_
                    refine va_get (D := D) (ci := 7) (v := .int x0_54z50) (C := "SignMachineModel") (T := F_X) (N := 64) hx hb hk fi_X hown hK.1 hP 0 rfl rfl 54 (by decide) (hk _ k_1175) (fun _ h9 => h9) rfl d_X_readLabel_117 ?_
                    refine va_put (D := D) (ci := 7) (v := .int x0_54z50) (ty := .int) (C := "SignMachineModel") (T := F_X) (N := 64) hx hb hk fi_X ft_X ft_X_ok fn_X hown hK.1 hP hD hS 0 rfl rfl 61 (by decide) (hk _ k_1182) (fun _ h9 => h9) rfl (by decide +kernel) rfl rfl (Nat.le_of_ble_eq_true rfl) d_X_readLabel_120 (fun H locs hP hD hS => ?_)
                    have hP : va_P D classes (wS50 cI cJ cZ cB p0 p1 p2 p3 p4 p5 p6 p7 p8 p9 p10 p11 p12 p13 p14 p15 p16 p17 p18 p19 p20 p21 p22 p23 p24 p25 x0_4 x0_5 x0_6 x0_7 x0_8 x0_12 x0_13 x0_14 x0_15 x0_16 x0_17 x0_18 x0_22 x0_23 x0_24 x0_25z50 x0_26z50 x0_27 x0_28 x0_29 x0_30 x0_31 x0_32 x0_36 x0_39 x0_40 x0_44 x0_49 x0_51 x0_53 x0_54z50 x0_55z50 x0_56z50 x0_57 x0_58 x0_59 x0_60 x0_54z50 x0_62 y1 y2 y3 y4 y5 y6 y7 y8 y9 y10 y11 y12 y13 y14 y15 y16 y17 y18 y19 y20 y21 y22 y23 y24 y25) H := hP
                    have hD : va_D A (wS50 cI cJ cZ cB p0 p1 p2 p3 p4 p5 p6 p7 p8 p9 p10 p11 p12 p13 p14 p15 p16 p17 p18 p19 p20 p21 p22 p23 p24 p25 x0_4 x0_5 x0_6 x0_7 x0_8 x0_12 x0_13 x0_14 x0_15 x0_16 x0_17 x0_18 x0_22 x0_23 x0_24 x0_25z50 x0_26z50 x0_27 x0_28 x0_29 x0_30 x0_31 x0_32 x0_36 x0_39 x0_40 x0_44 x0_49 x0_51 x0_53 x0_54z50 x0_55z50 x0_56z50 x0_57 x0_58 x0_59 x0_60 x0_54z50 x0_62 y1 y2 y3 y4 y5 y6 y7 y8 y9 y10 y11 y12 y13 y14 y15 y16 y17 y18 y19 y20 y21 y22 y23 y24 y25) := hD
                    refine lv_aload_n hx hb d_X_readLabel_123 rfl (lv_at hl 1 rfl) ?_
                    refine lv_aload_n hx hb d_X_readLabel_124 rfl (lv_at hl 1 rfl) ?_
                    refine va_get (D := D) (ci := 7) (v := .long x0_55z50) (C := "SignMachineModel") (T := F_X) (N := 64) hx hb hk fi_X hown hK.1 hP 0 rfl rfl 55 (by decide) (hk _ k_1176) (fun _ h9 => h9) rfl d_X_readLabel_125 ?_
                    refine va_put (D := D) (ci := 7) (v := .long x0_55z50) (ty := .long) (C := "SignMachineModel") (T := F_X) (N := 64) hx hb hk fi_X ft_X ft_X_ok fn_X hown hK.1 hP hD hS 0 rfl rfl 62 (by decide) (hk _ k_1183) (fun _ h9 => h9) rfl (by decide +kernel) rfl rfl (Nat.le_of_ble_eq_true rfl) d_X_readLabel_128 (fun H locs hP hD hS => ?_)
                    have hP : va_P D classes (wS50 cI cJ cZ cB p0 p1 p2 p3 p4 p5 p6 p7 p8 p9 p10 p11 p12 p13 p14 p15 p16 p17 p18 p19 p20 p21 p22 p23 p24 p25 x0_4 x0_5 x0_6 x0_7 x0_8 x0_12 x0_13 x0_14 x0_15 x0_16 x0_17 x0_18 x0_22 x0_23 x0_24 x0_25z50 x0_26z50 x0_27 x0_28 x0_29 x0_30 x0_31 x0_32 x0_36 x0_39 x0_40 x0_44 x0_49 x0_51 x0_53 x0_54z50 x0_55z50 x0_56z50 x0_57 x0_58 x0_59 x0_60 x0_54z50 x0_55z50 y1 y2 y3 y4 y5 y6 y7 y8 y9 y10 y11 y12 y13 y14 y15 y16 y17 y18 y19 y20 y21 y22 y23 y24 y25) H := hP
                    have hD : va_D A (wS50 cI cJ cZ cB p0 p1 p2 p3 p4 p5 p6 p7 p8 p9 p10 p11 p12 p13 p14 p15 p16 p17 p18 p19 p20 p21 p22 p23 p24 p25 x0_4 x0_5 x0_6 x0_7 x0_8 x0_12 x0_13 x0_14 x0_15 x0_16 x0_17 x0_18 x0_22 x0_23 x0_24 x0_25z50 x0_26z50 x0_27 x0_28 x0_29 x0_30 x0_31 x0_32 x0_36 x0_39 x0_40 x0_44 x0_49 x0_51 x0_53 x0_54z50 x0_55z50 x0_56z50 x0_57 x0_58 x0_59 x0_60 x0_54z50 x0_55z50 y1 y2 y3 y4 y5 y6 y7 y8 y9 y10 y11 y12 y13 y14 y15 y16 y17 y18 y19 y20 y21 y22 y23 y24 y25) := hD
                    exact W.vret hx hb hr (fun t ht hW => ⟨⟨(), rfl, trivial, ⟨x0_25z50, x0_26z50, x0_54z50, x0_55z50, x0_56z50, x0_54z50, x0_55z50, Rx0_25z50, (rgw R76 (by decide) (by decide)), (rgw R78 (by decide) (by decide)), (rgw R78 (by decide) (by decide)), (show x0_25.toInt ≤ x0_25z50.toInt ∧ x0_25z50.toInt ≤ x0_24.toInt from by omega), (show 1 ≤ x0_26.toInt → 1 ≤ x0_26z50.toInt from by omega), (show x0_54z50.toInt = 3 → (0 ≤ x0_55z50.toInt ∧ x0_55z50.toInt ≤ 9) from by omega), by show va_P D classes _ t.heap; rw [ht]; exact hP, hD⟩⟩, hS.F ht⟩) hS.2.2 d_X_readLabel_131
                  · have gc77 : x0_54z50.toInt = (3 : Int) := c_eq c77
                    have R80 : 3 ≤ x0_54z50.toInt ∧ x0_54z50.toInt ≤ 3 := rf_eqX R72 (show 3 ≤ (3 : Int) ∧ (3 : Int) ≤ 3 from by decide) gc77 (by decide) (by decide)
                    refine lv_aload_n hx hb d_X_readLabel_85 rfl (lv_at hl 1 rfl) ?_
                    refine va_get (D := D) (ci := 7) (v := .int x0_56z50) (C := "SignMachineModel") (T := F_X) (N := 64) hx hb hk fi_X hown hK.1 hP 0 rfl rfl 56 (by decide) (hk _ k_1177) (fun _ h9 => h9) rfl d_X_readLabel_86 ?_
                    refine lv_bipush (v := 72) hx hb d_X_readLabel_89 (by decide) ?_
                    refine lv_icmp_eq (tgt := 107) hx hb d_X_readLabel_91 (by decide) (fun c81 => ?_) (fun c81 => ?_)
                    · have gc81 : x0_56z50.toInt = (72 : Int) := c_eq c81
                      have R82 : 72 ≤ x0_56z50.toInt ∧ x0_56z50.toInt ≤ 72 := rf_eqX (fr3 x0_56z50) (show 72 ≤ (72 : Int) ∧ (72 : Int) ≤ 72 from by decide) gc81 (by decide) (by decide)
                      refine lv_aload_n hx hb d_X_readLabel_107 rfl (lv_at hl 1 rfl) ?_
                      refine va_get (D := D) (ci := 7) (v := .int x0_26z50) (C := "SignMachineModel") (T := F_X) (N := 64) hx hb hk fi_X hown hK.1 hP 0 rfl rfl 26 (by decide) (hk _ k_1147) (fun _ h9 => h9) rfl d_X_readLabel_108 ?_
                      refine lv_if_le (tgt := 115) hx hb d_X_readLabel_111 (by decide) (fun c83 => ?_) (fun c83 => absurd (show x0_26z50 ≤ (0 : Int32) from (Int32.le_iff_toInt_le.mpr (kle R76 (show 0 ≤ (0 : Int) ∧ (0 : Int) ≤ 0 from by decide) (by decide)))) c83)
                      refine lv_aload_n hx hb d_X_readLabel_115 rfl (lv_at hl 1 rfl) ?_
                      refine lv_aload_n hx hb d_X_readLabel_116 rfl (lv_at hl 1 rfl) ?_
                      refine va_get (D := D) (ci := 7) (v := .int x0_54z50) (C := "SignMachineModel") (T := F_X) (N := 64) hx hb hk fi_X hown hK.1 hP 0 rfl rfl 54 (by decide) (hk _ k_1175) (fun _ h9 => h9) rfl d_X_readLabel_117 ?_
                      refine va_put (D := D) (ci := 7) (v := .int x0_54z50) (ty := .int) (C := "SignMachineModel") (T := F_X) (N := 64) hx hb hk fi_X ft_X ft_X_ok fn_X hown hK.1 hP hD hS 0 rfl rfl 61 (by decide) (hk _ k_1182) (fun _ h9 => h9) rfl (by decide +kernel) rfl rfl (Nat.le_of_ble_eq_true rfl) d_X_readLabel_120 (fun H locs hP hD hS => ?_)
                      have hP : va_P D classes (wS50 cI cJ cZ cB p0 p1 p2 p3 p4 p5 p6 p7 p8 p9 p10 p11 p12 p13 p14 p15 p16 p17 p18 p19 p20 p21 p22 p23 p24 p25 x0_4 x0_5 x0_6 x0_7 x0_8 x0_12 x0_13 x0_14 x0_15 x0_16 x0_17 x0_18 x0_22 x0_23 x0_24 x0_25z50 x0_26z50 x0_27 x0_28 x0_29 x0_30 x0_31 x0_32 x0_36 x0_39 x0_40 x0_44 x0_49 x0_51 x0_53 x0_54z50 x0_55z50 x0_56z50 x0_57 x0_58 x0_59 x0_60 x0_54z50 x0_62 y1 y2 y3 y4 y5 y6 y7 y8 y9 y10 y11 y12 y13 y14 y15 y16 y17 y18 y19 y20 y21 y22 y23 y24 y25) H := hP
                      have hD : va_D A (wS50 cI cJ cZ cB p0 p1 p2 p3 p4 p5 p6 p7 p8 p9 p10 p11 p12 p13 p14 p15 p16 p17 p18 p19 p20 p21 p22 p23 p24 p25 x0_4 x0_5 x0_6 x0_7 x0_8 x0_12 x0_13 x0_14 x0_15 x0_16 x0_17 x0_18 x0_22 x0_23 x0_24 x0_25z50 x0_26z50 x0_27 x0_28 x0_29 x0_30 x0_31 x0_32 x0_36 x0_39 x0_40 x0_44 x0_49 x0_51 x0_53 x0_54z50 x0_55z50 x0_56z50 x0_57 x0_58 x0_59 x0_60 x0_54z50 x0_62 y1 y2 y3 y4 y5 y6 y7 y8 y9 y10 y11 y12 y13 y14 y15 y16 y17 y18 y19 y20 y21 y22 y23 y24 y25) := hD
                      refine lv_aload_n hx hb d_X_readLabel_123 rfl (lv_at hl 1 rfl) ?_
                      refine lv_aload_n hx hb d_X_readLabel_124 rfl (lv_at hl 1 rfl) ?_
                      refine va_get (D := D) (ci := 7) (v := .long x0_55z50) (C := "SignMachineModel") (T := F_X) (N := 64) hx hb hk fi_X hown hK.1 hP 0 rfl rfl 55 (by decide) (hk _ k_1176) (fun _ h9 => h9) rfl d_X_readLabel_125 ?_
                      refine va_put (D := D) (ci := 7) (v := .long x0_55z50) (ty := .long) (C := "SignMachineModel") (T := F_X) (N := 64) hx hb hk fi_X ft_X ft_X_ok fn_X hown hK.1 hP hD hS 0 rfl rfl 62 (by decide) (hk _ k_1183) (fun _ h9 => h9) rfl (by decide +kernel) rfl rfl (Nat.le_of_ble_eq_true rfl) d_X_readLabel_128 (fun H locs hP hD hS => ?_)
                      have hP : va_P D classes (wS50 cI cJ cZ cB p0 p1 p2 p3 p4 p5 p6 p7 p8 p9 p10 p11 p12 p13 p14 p15 p16 p17 p18 p19 p20 p21 p22 p23 p24 p25 x0_4 x0_5 x0_6 x0_7 x0_8 x0_12 x0_13 x0_14 x0_15 x0_16 x0_17 x0_18 x0_22 x0_23 x0_24 x0_25z50 x0_26z50 x0_27 x0_28 x0_29 x0_30 x0_31 x0_32 x0_36 x0_39 x0_40 x0_44 x0_49 x0_51 x0_53 x0_54z50 x0_55z50 x0_56z50 x0_57 x0_58 x0_59 x0_60 x0_54z50 x0_55z50 y1 y2 y3 y4 y5 y6 y7 y8 y9 y10 y11 y12 y13 y14 y15 y16 y17 y18 y19 y20 y21 y22 y23 y24 y25) H := hP
                      have hD : va_D A (wS50 cI cJ cZ cB p0 p1 p2 p3 p4 p5 p6 p7 p8 p9 p10 p11 p12 p13 p14 p15 p16 p17 p18 p19 p20 p21 p22 p23 p24 p25 x0_4 x0_5 x0_6 x0_7 x0_8 x0_12 x0_13 x0_14 x0_15 x0_16 x0_17 x0_18 x0_22 x0_23 x0_24 x0_25z50 x0_26z50 x0_27 x0_28 x0_29 x0_30 x0_31 x0_32 x0_36 x0_39 x0_40 x0_44 x0_49 x0_51 x0_53 x0_54z50 x0_55z50 x0_56z50 x0_57 x0_58 x0_59 x0_60 x0_54z50 x0_55z50 y1 y2 y3 y4 y5 y6 y7 y8 y9 y10 y11 y12 y13 y14 y15 y16 y17 y18 y19 y20 y21 y22 y23 y24 y25) := hD
                      exact W.vret hx hb hr (fun t ht hW => ⟨⟨(), rfl, trivial, ⟨x0_25z50, x0_26z50, x0_54z50, x0_55z50, x0_56z50, x0_54z50, x0_55z50, Rx0_25z50, (rgw R76 (by decide) (by decide)), (rgw R80 (by decide) (by decide)), (rgw R80 (by decide) (by decide)), (show x0_25.toInt ≤ x0_25z50.toInt ∧ x0_25z50.toInt ≤ x0_24.toInt from by omega), (show 1 ≤ x0_26.toInt → 1 ≤ x0_26z50.toInt from by omega), (show x0_54z50.toInt = 3 → (0 ≤ x0_55z50.toInt ∧ x0_55z50.toInt ≤ 9) from by omega), by show va_P D classes _ t.heap; rw [ht]; exact hP, hD⟩⟩, hS.F ht⟩) hS.2.2 d_X_readLabel_131
                    · have gc81 : x0_56z50.toInt ≠ (72 : Int) := c_ne c81
                      refine lv_iload_n hx hb d_X_readLabel_94 rfl (lv_at hl 0 rfl) ?_
                      refine lv_aload_n hx hb d_X_readLabel_95 rfl (lv_at hl 1 rfl) ?_
                      refine va_get (D := D) (ci := 7) (v := .int x0_24) (C := "SignMachineModel") (T := F_X) (N := 64) hx hb hk fi_X hown hK.1 hP 0 rfl rfl 24 (by decide) (hk _ k_1145) (fun _ h9 => h9) rfl d_X_readLabel_96 ?_
                      refine lv_icmp_ge (tgt := 107) hx hb d_X_readLabel_99 (by decide) (fun c84 => absurd c84 (show ¬ x0_24 ≤ g20l1 from c3)) (fun c84 => ?_)
                      refine lv_aload_n hx hb d_X_readLabel_102 rfl (lv_at hl 1 rfl) ?_
                      refine lv_iconst (v := 3) hx hb d_X_readLabel_103 (by decide) ?_
                      refine kn_v (va_runV (C := "SignMachineModel") (As := [.int (3 : Int32)]) (rest := []) ⟨hx, hb, hml, hown, hk⟩ (c_X_bad l D cI cJ cZ cB p0 p1 p2 p3 p4 p5 p6 p7 p8 p9 p10 p11 p12 p13 p14 p15 p16 p17 p18 p19 p20 p21 p22 p23 p24 p25 H.size x0_4 x0_5 x0_6 x0_7 x0_8 x0_12 x0_13 x0_14 x0_15 x0_16 x0_17 x0_18 x0_22 x0_23 x0_24 x0_25z50 x0_26z50 x0_27 x0_28 x0_29 x0_30 x0_31 x0_32 x0_36 x0_39 x0_40 x0_44 x0_49 x0_51 x0_53 x0_54z50 x0_55z50 x0_56z50 x0_57 x0_58 x0_59 x0_60 (0 : Int32) x0_62 y1 y2 y3 y4 y5 y6 y7 y8 y9 y10 y11 y12 y13 y14 y15 y16 y17 y18 y19 y20 y21 y22 y23 y24 y25 (3 : Int32) (rgw R76 (by decide) (by decide)) (by decide)) (v_X_bad hk k_1552 ⟨Nat.le_of_ble_eq_true rfl, Nat.le_of_ble_eq_true rfl⟩) (pM_v hK hP hD (ci := 7) (q0 := 0) rfl rfl rfl) rfl rfl hl.1 rfl (lv_room (Nat.le_of_ble_eq_true rfl)) d_X_readLabel_104 ⟨Nat.le_of_ble_eq_true rfl, Nat.le_of_ble_eq_true rfl⟩) hS hA hD (fun u t H locs ht hB hFr hS => ?_)
                      obtain ⟨x0_26z85, Rx0_26z85, F0z85, hP, hD⟩ := hB
                      have F0z85 : 1 ≤ x0_26z85.toInt := F0z85
                      rw [ht] at hP
                      have hD := dwk hD hFr
                      clear ht hFr
                      have hP : va_P D classes (wS50 cI cJ cZ cB p0 p1 p2 p3 p4 p5 p6 p7 p8 p9 p10 p11 p12 p13 p14 p15 p16 p17 p18 p19 p20 p21 p22 p23 p24 p25 x0_4 x0_5 x0_6 x0_7 x0_8 x0_12 x0_13 x0_14 x0_15 x0_16 x0_17 x0_18 x0_22 x0_23 x0_24 x0_25z50 x0_26z85 x0_27 x0_28 x0_29 x0_30 x0_31 x0_32 x0_36 x0_39 x0_40 x0_44 x0_49 x0_51 x0_53 x0_54z50 x0_55z50 x0_56z50 x0_57 x0_58 x0_59 x0_60 (0 : Int32) x0_62 y1 y2 y3 y4 y5 y6 y7 y8 y9 y10 y11 y12 y13 y14 y15 y16 y17 y18 y19 y20 y21 y22 y23 y24 y25) H := hP
                      have hD : va_D A (wS50 cI cJ cZ cB p0 p1 p2 p3 p4 p5 p6 p7 p8 p9 p10 p11 p12 p13 p14 p15 p16 p17 p18 p19 p20 p21 p22 p23 p24 p25 x0_4 x0_5 x0_6 x0_7 x0_8 x0_12 x0_13 x0_14 x0_15 x0_16 x0_17 x0_18 x0_22 x0_23 x0_24 x0_25z50 x0_26z85 x0_27 x0_28 x0_29 x0_30 x0_31 x0_32 x0_36 x0_39 x0_40 x0_44 x0_49 x0_51 x0_53 x0_54z50 x0_55z50 x0_56z50 x0_57 x0_58 x0_59 x0_60 (0 : Int32) x0_62 y1 y2 y3 y4 y5 y6 y7 y8 y9 y10 y11 y12 y13 y14 y15 y16 y17 y18 y19 y20 y21 y22 y23 y24 y25) := hD
                      refine lv_aload_n hx hb d_X_readLabel_107 rfl (lv_at hl 1 rfl) ?_
                      refine va_get (D := D) (ci := 7) (v := .int x0_26z85) (C := "SignMachineModel") (T := F_X) (N := 64) hx hb hk fi_X hown hK.1 hP 0 rfl rfl 26 (by decide) (hk _ k_1147) (fun _ h9 => h9) rfl d_X_readLabel_108 ?_
                      refine lv_if_le (tgt := 115) hx hb d_X_readLabel_111 (by decide) (fun c86 => ?_) (fun c86 => ?_)
                      · have gc86 : x0_26z85.toInt ≤ (0 : Int) := c_le c86
                        have R87 : 0 ≤ x0_26z85.toInt ∧ x0_26z85.toInt ≤ 0 := rf_leX Rx0_26z85 (show 0 ≤ (0 : Int) ∧ (0 : Int) ≤ 0 from by decide) gc86 (by decide) (by decide)
                        refine lv_aload_n hx hb d_X_readLabel_115 rfl (lv_at hl 1 rfl) ?_
                        refine lv_aload_n hx hb d_X_readLabel_116 rfl (lv_at hl 1 rfl) ?_
                        refine va_get (D := D) (ci := 7) (v := .int x0_54z50) (C := "SignMachineModel") (T := F_X) (N := 64) hx hb hk fi_X hown hK.1 hP 0 rfl rfl 54 (by decide) (hk _ k_1175) (fun _ h9 => h9) rfl d_X_readLabel_117 ?_
                        refine va_put (D := D) (ci := 7) (v := .int x0_54z50) (ty := .int) (C := "SignMachineModel") (T := F_X) (N := 64) hx hb hk fi_X ft_X ft_X_ok fn_X hown hK.1 hP hD hS 0 rfl rfl 61 (by decide) (hk _ k_1182) (fun _ h9 => h9) rfl (by decide +kernel) rfl rfl (Nat.le_of_ble_eq_true rfl) d_X_readLabel_120 (fun H locs hP hD hS => ?_)
                        have hP : va_P D classes (wS50 cI cJ cZ cB p0 p1 p2 p3 p4 p5 p6 p7 p8 p9 p10 p11 p12 p13 p14 p15 p16 p17 p18 p19 p20 p21 p22 p23 p24 p25 x0_4 x0_5 x0_6 x0_7 x0_8 x0_12 x0_13 x0_14 x0_15 x0_16 x0_17 x0_18 x0_22 x0_23 x0_24 x0_25z50 x0_26z85 x0_27 x0_28 x0_29 x0_30 x0_31 x0_32 x0_36 x0_39 x0_40 x0_44 x0_49 x0_51 x0_53 x0_54z50 x0_55z50 x0_56z50 x0_57 x0_58 x0_59 x0_60 x0_54z50 x0_62 y1 y2 y3 y4 y5 y6 y7 y8 y9 y10 y11 y12 y13 y14 y15 y16 y17 y18 y19 y20 y21 y22 y23 y24 y25) H := hP
                        have hD : va_D A (wS50 cI cJ cZ cB p0 p1 p2 p3 p4 p5 p6 p7 p8 p9 p10 p11 p12 p13 p14 p15 p16 p17 p18 p19 p20 p21 p22 p23 p24 p25 x0_4 x0_5 x0_6 x0_7 x0_8 x0_12 x0_13 x0_14 x0_15 x0_16 x0_17 x0_18 x0_22 x0_23 x0_24 x0_25z50 x0_26z85 x0_27 x0_28 x0_29 x0_30 x0_31 x0_32 x0_36 x0_39 x0_40 x0_44 x0_49 x0_51 x0_53 x0_54z50 x0_55z50 x0_56z50 x0_57 x0_58 x0_59 x0_60 x0_54z50 x0_62 y1 y2 y3 y4 y5 y6 y7 y8 y9 y10 y11 y12 y13 y14 y15 y16 y17 y18 y19 y20 y21 y22 y23 y24 y25) := hD
                        refine lv_aload_n hx hb d_X_readLabel_123 rfl (lv_at hl 1 rfl) ?_
                        refine lv_aload_n hx hb d_X_readLabel_124 rfl (lv_at hl 1 rfl) ?_
                        refine va_get (D := D) (ci := 7) (v := .long x0_55z50) (C := "SignMachineModel") (T := F_X) (N := 64) hx hb hk fi_X hown hK.1 hP 0 rfl rfl 55 (by decide) (hk _ k_1176) (fun _ h9 => h9) rfl d_X_readLabel_125 ?_
                        refine va_put (D := D) (ci := 7) (v := .long x0_55z50) (ty := .long) (C := "SignMachineModel") (T := F_X) (N := 64) hx hb hk fi_X ft_X ft_X_ok fn_X hown hK.1 hP hD hS 0 rfl rfl 62 (by decide) (hk _ k_1183) (fun _ h9 => h9) rfl (by decide +kernel) rfl rfl (Nat.le_of_ble_eq_true rfl) d_X_readLabel_128 (fun H locs hP hD hS => ?_)
                        have hP : va_P D classes (wS50 cI cJ cZ cB p0 p1 p2 p3 p4 p5 p6 p7 p8 p9 p10 p11 p12 p13 p14 p15 p16 p17 p18 p19 p20 p21 p22 p23 p24 p25 x0_4 x0_5 x0_6 x0_7 x0_8 x0_12 x0_13 x0_14 x0_15 x0_16 x0_17 x0_18 x0_22 x0_23 x0_24 x0_25z50 x0_26z85 x0_27 x0_28 x0_29 x0_30 x0_31 x0_32 x0_36 x0_39 x0_40 x0_44 x0_49 x0_51 x0_53 x0_54z50 x0_55z50 x0_56z50 x0_57 x0_58 x0_59 x0_60 x0_54z50 x0_55z50 y1 y2 y3 y4 y5 y6 y7 y8 y9 y10 y11 y12 y13 y14 y15 y16 y17 y18 y19 y20 y21 y22 y23 y24 y25) H := hP
                        have hD : va_D A (wS50 cI cJ cZ cB p0 p1 p2 p3 p4 p5 p6 p7 p8 p9 p10 p11 p12 p13 p14 p15 p16 p17 p18 p19 p20 p21 p22 p23 p24 p25 x0_4 x0_5 x0_6 x0_7 x0_8 x0_12 x0_13 x0_14 x0_15 x0_16 x0_17 x0_18 x0_22 x0_23 x0_24 x0_25z50 x0_26z85 x0_27 x0_28 x0_29 x0_30 x0_31 x0_32 x0_36 x0_39 x0_40 x0_44 x0_49 x0_51 x0_53 x0_54z50 x0_55z50 x0_56z50 x0_57 x0_58 x0_59 x0_60 x0_54z50 x0_55z50 y1 y2 y3 y4 y5 y6 y7 y8 y9 y10 y11 y12 y13 y14 y15 y16 y17 y18 y19 y20 y21 y22 y23 y24 y25) := hD
                        exact W.vret hx hb hr (fun t ht hW => ⟨⟨(), rfl, trivial, ⟨x0_25z50, x0_26z85, x0_54z50, x0_55z50, x0_56z50, x0_54z50, x0_55z50, Rx0_25z50, (rgw R87 (by decide) (by decide)), (rgw R80 (by decide) (by decide)), (rgw R80 (by decide) (by decide)), (show x0_25.toInt ≤ x0_25z50.toInt ∧ x0_25z50.toInt ≤ x0_24.toInt from by omega), (show 1 ≤ x0_26.toInt → 1 ≤ x0_26z85.toInt from by omega), (show x0_54z50.toInt = 3 → (0 ≤ x0_55z50.toInt ∧ x0_55z50.toInt ≤ 9) from by omega), by show va_P D classes _ t.heap; rw [ht]; exact hP, hD⟩⟩, hS.F ht⟩) hS.2.2 d_X_readLabel_131
                      · have gc86 : (0 : Int) < x0_26z85.toInt := c_nle c86
                        have R88 : 1 ≤ x0_26z85.toInt ∧ x0_26z85.toInt ≤ 6 := rf_gtX Rx0_26z85 (show 0 ≤ (0 : Int) ∧ (0 : Int) ≤ 0 from by decide) gc86 (by decide) (by decide)
                        exact W.vret hx hb hr (fun t ht hW => ⟨⟨(), rfl, trivial, ⟨x0_25z50, x0_26z85, x0_54z50, x0_55z50, x0_56z50, (0 : Int32), x0_62, Rx0_25z50, (rgw R88 (by decide) (by decide)), (rgw R80 (by decide) (by decide)), (by decide), (show x0_25.toInt ≤ x0_25z50.toInt ∧ x0_25z50.toInt ≤ x0_24.toInt from by omega), (show 1 ≤ x0_26.toInt → 1 ≤ x0_26z85.toInt from by omega), (show (0 : Int) = 3 → (0 ≤ x0_62.toInt ∧ x0_62.toInt ≤ 9) from by omega), by show va_P D classes _ t.heap; rw [ht]; exact hP, hD⟩⟩, hS.F ht⟩) hS.2.2 d_X_readLabel_114
              · have gc71 : x0_54z50.toInt < (2 : Int) := c_nle c71
                have R89 : 0 ≤ x0_54z50.toInt ∧ x0_54z50.toInt ≤ 1 := rf_ltX Rx0_54z50 (show 2 ≤ (2 : Int) ∧ (2 : Int) ≤ 2 from by decide) gc71 (by decide) (by decide)
                refine lv_aload_n hx hb d_X_readLabel_65 rfl (lv_at hl 1 rfl) ?_
                refine lv_iconst (v := 1) hx hb d_X_readLabel_66 (by decide) ?_
                refine kn_v (va_runV (C := "SignMachineModel") (As := [.int (1 : Int32)]) (rest := []) ⟨hx, hb, hml, hown, hk⟩ (c_X_bad l D cI cJ cZ cB p0 p1 p2 p3 p4 p5 p6 p7 p8 p9 p10 p11 p12 p13 p14 p15 p16 p17 p18 p19 p20 p21 p22 p23 p24 p25 H.size x0_4 x0_5 x0_6 x0_7 x0_8 x0_12 x0_13 x0_14 x0_15 x0_16 x0_17 x0_18 x0_22 x0_23 x0_24 x0_25z50 x0_26z50 x0_27 x0_28 x0_29 x0_30 x0_31 x0_32 x0_36 x0_39 x0_40 x0_44 x0_49 x0_51 x0_53 x0_54z50 x0_55z50 x0_56z50 x0_57 x0_58 x0_59 x0_60 (0 : Int32) x0_62 y1 y2 y3 y4 y5 y6 y7 y8 y9 y10 y11 y12 y13 y14 y15 y16 y17 y18 y19 y20 y21 y22 y23 y24 y25 (1 : Int32) Rx0_26z50 (by decide)) (v_X_bad hk k_1552 ⟨Nat.le_of_ble_eq_true rfl, Nat.le_of_ble_eq_true rfl⟩) (pM_v hK hP hD (ci := 7) (q0 := 0) rfl rfl rfl) rfl rfl hl.1 rfl (lv_room (Nat.le_of_ble_eq_true rfl)) d_X_readLabel_67 ⟨Nat.le_of_ble_eq_true rfl, Nat.le_of_ble_eq_true rfl⟩) hS hA hD (fun u t H locs ht hB hFr hS => ?_)
                obtain ⟨x0_26z90, Rx0_26z90, F0z90, hP, hD⟩ := hB
                have F0z90 : 1 ≤ x0_26z90.toInt := F0z90
                rw [ht] at hP
                have hD := dwk hD hFr
                clear ht hFr
                have hP : va_P D classes (wS50 cI cJ cZ cB p0 p1 p2 p3 p4 p5 p6 p7 p8 p9 p10 p11 p12 p13 p14 p15 p16 p17 p18 p19 p20 p21 p22 p23 p24 p25 x0_4 x0_5 x0_6 x0_7 x0_8 x0_12 x0_13 x0_14 x0_15 x0_16 x0_17 x0_18 x0_22 x0_23 x0_24 x0_25z50 x0_26z90 x0_27 x0_28 x0_29 x0_30 x0_31 x0_32 x0_36 x0_39 x0_40 x0_44 x0_49 x0_51 x0_53 x0_54z50 x0_55z50 x0_56z50 x0_57 x0_58 x0_59 x0_60 (0 : Int32) x0_62 y1 y2 y3 y4 y5 y6 y7 y8 y9 y10 y11 y12 y13 y14 y15 y16 y17 y18 y19 y20 y21 y22 y23 y24 y25) H := hP
                have hD : va_D A (wS50 cI cJ cZ cB p0 p1 p2 p3 p4 p5 p6 p7 p8 p9 p10 p11 p12 p13 p14 p15 p16 p17 p18 p19 p20 p21 p22 p23 p24 p25 x0_4 x0_5 x0_6 x0_7 x0_8 x0_12 x0_13 x0_14 x0_15 x0_16 x0_17 x0_18 x0_22 x0_23 x0_24 x0_25z50 x0_26z90 x0_27 x0_28 x0_29 x0_30 x0_31 x0_32 x0_36 x0_39 x0_40 x0_44 x0_49 x0_51 x0_53 x0_54z50 x0_55z50 x0_56z50 x0_57 x0_58 x0_59 x0_60 (0 : Int32) x0_62 y1 y2 y3 y4 y5 y6 y7 y8 y9 y10 y11 y12 y13 y14 y15 y16 y17 y18 y19 y20 y21 y22 y23 y24 y25) := hD
                refine lv_aload_n hx hb d_X_readLabel_70 rfl (lv_at hl 1 rfl) ?_
                refine va_get (D := D) (ci := 7) (v := .int x0_26z90) (C := "SignMachineModel") (T := F_X) (N := 64) hx hb hk fi_X hown hK.1 hP 0 rfl rfl 26 (by decide) (hk _ k_1147) (fun _ h9 => h9) rfl d_X_readLabel_71 ?_
                refine lv_if_ne (tgt := 107) hx hb d_X_readLabel_74 (by decide) (fun c91 => ?_) (fun c91 => ?_)
                · have gc91 : x0_26z90.toInt ≠ (0 : Int) := c_ne c91
                  have R92 : 1 ≤ x0_26z90.toInt ∧ x0_26z90.toInt ≤ 6 := rf_neX Rx0_26z90 (show 0 ≤ (0 : Int) ∧ (0 : Int) ≤ 0 from by decide) gc91 (by decide) (by decide)
                  refine lv_aload_n hx hb d_X_readLabel_107 rfl (lv_at hl 1 rfl) ?_
                  refine va_get (D := D) (ci := 7) (v := .int x0_26z90) (C := "SignMachineModel") (T := F_X) (N := 64) hx hb hk fi_X hown hK.1 hP 0 rfl rfl 26 (by decide) (hk _ k_1147) (fun _ h9 => h9) rfl d_X_readLabel_108 ?_
                  refine lv_if_le (tgt := 115) hx hb d_X_readLabel_111 (by decide) (fun c93 => absurd c93 (show ¬ x0_26z90 ≤ (0 : Int32) from (fun q9 => Int.not_le.mpr (klt (show 0 ≤ (0 : Int) ∧ (0 : Int) ≤ 0 from by decide) R92 (by decide)) (c_le q9)))) (fun c93 => ?_)
                  exact W.vret hx hb hr (fun t ht hW => ⟨⟨(), rfl, trivial, ⟨x0_25z50, x0_26z90, x0_54z50, x0_55z50, x0_56z50, (0 : Int32), x0_62, Rx0_25z50, (rgw R92 (by decide) (by decide)), (rgw R89 (by decide) (by decide)), (by decide), (show x0_25.toInt ≤ x0_25z50.toInt ∧ x0_25z50.toInt ≤ x0_24.toInt from by omega), (show 1 ≤ x0_26.toInt → 1 ≤ x0_26z90.toInt from by omega), (show (0 : Int) = 3 → (0 ≤ x0_62.toInt ∧ x0_62.toInt ≤ 9) from by omega), by show va_P D classes _ t.heap; rw [ht]; exact hP, hD⟩⟩, hS.F ht⟩) hS.2.2 d_X_readLabel_114
                · have gc91 : x0_26z90.toInt = (0 : Int) := c_eq c91
                  have R94 : 0 ≤ x0_26z90.toInt ∧ x0_26z90.toInt ≤ 0 := rf_eqX Rx0_26z90 (show 0 ≤ (0 : Int) ∧ (0 : Int) ≤ 0 from by decide) gc91 (by decide) (by decide)
                  refine lv_aload_n hx hb d_X_readLabel_77 rfl (lv_at hl 1 rfl) ?_
                  refine va_get (D := D) (ci := 7) (v := .int x0_54z50) (C := "SignMachineModel") (T := F_X) (N := 64) hx hb hk fi_X hown hK.1 hP 0 rfl rfl 54 (by decide) (hk _ k_1175) (fun _ h9 => h9) rfl d_X_readLabel_78 ?_
                  refine lv_iconst (v := 3) hx hb d_X_readLabel_81 (by decide) ?_
                  refine lv_icmp_ne (tgt := 107) hx hb d_X_readLabel_82 (by decide) (fun c95 => ?_) (fun c95 => absurd c95 (show ¬ x0_54z50 = (3 : Int32) from (fun q9 => (knE R89 (show 3 ≤ (3 : Int) ∧ (3 : Int) ≤ 3 from by decide) (by decide)) (c_eq q9))))
                  refine lv_aload_n hx hb d_X_readLabel_107 rfl (lv_at hl 1 rfl) ?_
                  refine va_get (D := D) (ci := 7) (v := .int x0_26z90) (C := "SignMachineModel") (T := F_X) (N := 64) hx hb hk fi_X hown hK.1 hP 0 rfl rfl 26 (by decide) (hk _ k_1147) (fun _ h9 => h9) rfl d_X_readLabel_108 ?_
                  refine lv_if_le (tgt := 115) hx hb d_X_readLabel_111 (by decide) (fun c96 => ?_) (fun c96 => absurd (show x0_26z90 ≤ (0 : Int32) from (Int32.le_iff_toInt_le.mpr (kle R94 (show 0 ≤ (0 : Int) ∧ (0 : Int) ≤ 0 from by decide) (by decide)))) c96)
                  refine lv_aload_n hx hb d_X_readLabel_115 rfl (lv_at hl 1 rfl) ?_
                  refine lv_aload_n hx hb d_X_readLabel_116 rfl (lv_at hl 1 rfl) ?_
                  refine va_get (D := D) (ci := 7) (v := .int x0_54z50) (C := "SignMachineModel") (T := F_X) (N := 64) hx hb hk fi_X hown hK.1 hP 0 rfl rfl 54 (by decide) (hk _ k_1175) (fun _ h9 => h9) rfl d_X_readLabel_117 ?_
                  refine va_put (D := D) (ci := 7) (v := .int x0_54z50) (ty := .int) (C := "SignMachineModel") (T := F_X) (N := 64) hx hb hk fi_X ft_X ft_X_ok fn_X hown hK.1 hP hD hS 0 rfl rfl 61 (by decide) (hk _ k_1182) (fun _ h9 => h9) rfl (by decide +kernel) rfl rfl (Nat.le_of_ble_eq_true rfl) d_X_readLabel_120 (fun H locs hP hD hS => ?_)
                  have hP : va_P D classes (wS50 cI cJ cZ cB p0 p1 p2 p3 p4 p5 p6 p7 p8 p9 p10 p11 p12 p13 p14 p15 p16 p17 p18 p19 p20 p21 p22 p23 p24 p25 x0_4 x0_5 x0_6 x0_7 x0_8 x0_12 x0_13 x0_14 x0_15 x0_16 x0_17 x0_18 x0_22 x0_23 x0_24 x0_25z50 x0_26z90 x0_27 x0_28 x0_29 x0_30 x0_31 x0_32 x0_36 x0_39 x0_40 x0_44 x0_49 x0_51 x0_53 x0_54z50 x0_55z50 x0_56z50 x0_57 x0_58 x0_59 x0_60 x0_54z50 x0_62 y1 y2 y3 y4 y5 y6 y7 y8 y9 y10 y11 y12 y13 y14 y15 y16 y17 y18 y19 y20 y21 y22 y23 y24 y25) H := hP
                  have hD : va_D A (wS50 cI cJ cZ cB p0 p1 p2 p3 p4 p5 p6 p7 p8 p9 p10 p11 p12 p13 p14 p15 p16 p17 p18 p19 p20 p21 p22 p23 p24 p25 x0_4 x0_5 x0_6 x0_7 x0_8 x0_12 x0_13 x0_14 x0_15 x0_16 x0_17 x0_18 x0_22 x0_23 x0_24 x0_25z50 x0_26z90 x0_27 x0_28 x0_29 x0_30 x0_31 x0_32 x0_36 x0_39 x0_40 x0_44 x0_49 x0_51 x0_53 x0_54z50 x0_55z50 x0_56z50 x0_57 x0_58 x0_59 x0_60 x0_54z50 x0_62 y1 y2 y3 y4 y5 y6 y7 y8 y9 y10 y11 y12 y13 y14 y15 y16 y17 y18 y19 y20 y21 y22 y23 y24 y25) := hD
                  refine lv_aload_n hx hb d_X_readLabel_123 rfl (lv_at hl 1 rfl) ?_
                  refine lv_aload_n hx hb d_X_readLabel_124 rfl (lv_at hl 1 rfl) ?_
                  refine va_get (D := D) (ci := 7) (v := .long x0_55z50) (C := "SignMachineModel") (T := F_X) (N := 64) hx hb hk fi_X hown hK.1 hP 0 rfl rfl 55 (by decide) (hk _ k_1176) (fun _ h9 => h9) rfl d_X_readLabel_125 ?_
                  refine va_put (D := D) (ci := 7) (v := .long x0_55z50) (ty := .long) (C := "SignMachineModel") (T := F_X) (N := 64) hx hb hk fi_X ft_X ft_X_ok fn_X hown hK.1 hP hD hS 0 rfl rfl 62 (by decide) (hk _ k_1183) (fun _ h9 => h9) rfl (by decide +kernel) rfl rfl (Nat.le_of_ble_eq_true rfl) d_X_readLabel_128 (fun H locs hP hD hS => ?_)
                  have hP : va_P D classes (wS50 cI cJ cZ cB p0 p1 p2 p3 p4 p5 p6 p7 p8 p9 p10 p11 p12 p13 p14 p15 p16 p17 p18 p19 p20 p21 p22 p23 p24 p25 x0_4 x0_5 x0_6 x0_7 x0_8 x0_12 x0_13 x0_14 x0_15 x0_16 x0_17 x0_18 x0_22 x0_23 x0_24 x0_25z50 x0_26z90 x0_27 x0_28 x0_29 x0_30 x0_31 x0_32 x0_36 x0_39 x0_40 x0_44 x0_49 x0_51 x0_53 x0_54z50 x0_55z50 x0_56z50 x0_57 x0_58 x0_59 x0_60 x0_54z50 x0_55z50 y1 y2 y3 y4 y5 y6 y7 y8 y9 y10 y11 y12 y13 y14 y15 y16 y17 y18 y19 y20 y21 y22 y23 y24 y25) H := hP
                  have hD : va_D A (wS50 cI cJ cZ cB p0 p1 p2 p3 p4 p5 p6 p7 p8 p9 p10 p11 p12 p13 p14 p15 p16 p17 p18 p19 p20 p21 p22 p23 p24 p25 x0_4 x0_5 x0_6 x0_7 x0_8 x0_12 x0_13 x0_14 x0_15 x0_16 x0_17 x0_18 x0_22 x0_23 x0_24 x0_25z50 x0_26z90 x0_27 x0_28 x0_29 x0_30 x0_31 x0_32 x0_36 x0_39 x0_40 x0_44 x0_49 x0_51 x0_53 x0_54z50 x0_55z50 x0_56z50 x0_57 x0_58 x0_59 x0_60 x0_54z50 x0_55z50 y1 y2 y3 y4 y5 y6 y7 y8 y9 y10 y11 y12 y13 y14 y15 y16 y17 y18 y19 y20 y21 y22 y23 y24 y25) := hD
                  exact W.vret hx hb hr (fun t ht hW => ⟨⟨(), rfl, trivial, ⟨x0_25z50, x0_26z90, x0_54z50, x0_55z50, x0_56z50, x0_54z50, x0_55z50, Rx0_25z50, (rgw R94 (by decide) (by decide)), (rgw R89 (by decide) (by decide)), (rgw R89 (by decide) (by decide)), (show x0_25.toInt ≤ x0_25z50.toInt ∧ x0_25z50.toInt ≤ x0_24.toInt from by omega), (show 1 ≤ x0_26.toInt → 1 ≤ x0_26z90.toInt from by omega), (show x0_54z50.toInt = 3 → (0 ≤ x0_55z50.toInt ∧ x0_55z50.toInt ≤ 9) from by omega), by show va_P D classes _ t.heap; rw [ht]; exact hP, hD⟩⟩, hS.F ht⟩) hS.2.2 d_X_readLabel_131
          · have gc48 : v47.toInt ≠ (32 : Int) := c_ne c48
            obtain ⟨v97, hv97⟩ : ∃ y : Int32, y = (g20l1 + (1 : Int32)) := ⟨_, rfl⟩
            obtain ⟨ev97, Rv97⟩ : v97.toInt = g20l1.toInt + 1 ∧ (1 ≤ v97.toInt ∧ v97.toInt ≤ 4000) := ad3 hv97 R45 (y := (1 : Int32)) (c := 1) (d := 1) (by decide) (by decide) (by decide) (by decide) (by decide)
            refine lv_iinc (v := v97) (lv' := [(1, .int v97), (0, .ref p0)]) hx hb d_X_readLabel_39 hl (k := 0) rfl (by rw [hv97]; rfl) (by decide) rfl (fun ls hl => ?_)
            refine lv_goto (tgt := 20) hx hb d_X_readLabel_42 (by decide) ?_
            exact ih20 v97 H _ ls (show x0_24.toInt - v97.toInt < (n : Int) from by omega) (rgw Rv97 (by decide) (by decide)) (show v97.toInt ≤ x0_24.toInt from by omega) hP hD hS (lv_sub hl [0, 1] rfl)
    exact CUT20 ((x0_24.toInt - x0_25.toInt).toNat + 1) x0_25 H _ ls (show (x0_24.toInt - x0_25.toInt) < (((x0_24.toInt - x0_25.toInt).toNat + 1 : Nat) : Int) from by omega) Rx0_25 (show x0_25.toInt ≤ x0_24.toInt from by omega) hP hD hS (lv_sub hl [0, 1] rfl)
  · have gc2 : rz1.toInt = (32 : Int) := c_eq c2
    have R98 : 32 ≤ rz1.toInt ∧ rz1.toInt ≤ 32 := rf_eqX (fr3 rz1) (show 32 ≤ (32 : Int) ∧ (32 : Int) ≤ 32 from by decide) gc2 (by decide) (by decide)
    exact W.vret hx hb hr (fun t ht hW => ⟨⟨(), rfl, trivial, ⟨x0_25, x0_26, x0_54, x0_55, x0_56, (0 : Int32), x0_62, Rx0_25, Rx0_26, Rx0_54, (by decide), (show x0_25.toInt ≤ x0_25.toInt ∧ x0_25.toInt ≤ x0_24.toInt from by omega), (show 1 ≤ x0_26.toInt → 1 ≤ x0_26.toInt from by omega), (show (0 : Int) = 3 → (0 ≤ x0_62.toInt ∧ x0_62.toInt ≤ 9) from by omega), by show va_P D classes _ t.heap; rw [ht]; exact hP, hD⟩⟩, hS.F ht⟩) hS.2.2 d_X_readLabel_14
theorem v_X_readLabel {R : Room} {s : State} {args : Array Value} {own : String} {index : Nat} (hk : ∀ w ∈ tb, w.before args s = true) (hl : Cond.methodLink own index y_X_readLabel ∈ tb) (hR : 2 + 1 ≤ R.frames ∧ 8 + (2 + 11) + 49 ≤ R.locals) : CallW R s args own "SignMachineModel" index y_X_readLabel b_X_readLabel 2 none (.code y_X_readLabel b_X_readLabel 2 none :: tb) ({ frames := 2, cells := 0, slots := 0, locals := 49 }) 0 0 0 := mk_v 0 hk k_1536 hl k_1535 k_90 k_119 rfl rfl h_X_readLabel hR

set_option maxHeartbeats 8000000 in
set_option maxRecDepth 100000 in
theorem c_X_plainOps (l : Launch)  (a1 : Int64)  : Met l y_X_plainOps (.code y_X_plainOps b_X_plainOps 3 (some .int) :: tb) ({ frames := 0, cells := 0, slots := 0, locals := 0 }) (va_Pc [.long a1] (fun _ => True)) (vp_Si (fun ur => ((-1) ≤ ur.toInt ∧ ur.toInt ≤ 615))) 0 0 (fun _ => False) := by
  refine Met.ofW (cc := b_X_plainOps) (maxL := 3) (ret := (some .int)) (by decide) rfl ?_
  intro p e s m args below meth c s₁ B hml hv
  obtain ⟨rfl, -⟩ := hv
  have hx := B.exec
  have hb := B.bytes
  have hr := B.returns
  have hts := atoms_spec (ws := .code y_X_plainOps b_X_plainOps 3 (some .int) :: tb) B.pre
  have hk : ∀ w ∈ tb, w.before [.long a1].toArray s = true := fun w h => hts w (List.mem_cons_of_mem _ h)
  have hown : s.vm.findClass "SignMachineModel" = some m.cls := findClass_of_methodNamed B.named
  have hlocks := B.notSynchronized
  have hl := lv_entry ([.long a1]) (n := 3) (Nat.le_of_ble_eq_true rfl)
  rw [lg_entry_eq]
  generalize (lg_sl ([.long a1]) ++ List.replicate (3 - (lg_sl ([.long a1])).length) Slot.unset).toArray = ls at hl ⊢
  have hl : lv_has ls 3 [(0, .long a1)] := hl
  clear hts B
  have CUT218 : ∀ (g218l2 : Int32)  (ls : Array Slot), ((-1) ≤ g218l2.toInt ∧ g218l2.toInt ≤ 615) → lv_has ls 3 [(0, .long a1), (2, .int g218l2)] → W p l e ({ frames := 0, cells := 0, slots := 0, locals := 0 }) s m [.long a1].toArray below meth c s.heap [] 0 0 (MQ below (vp_Si (fun ur => ((-1) ≤ ur.toInt ∧ ur.toInt ≤ 615))) [.long a1].toArray s 0 0 (fun _ => False)) (F0 m 218 ls []) := by
    intro g218l2 ls Rg218l2 hl
    refine lv_iload_n hx hb d_X_plainOps_218 rfl (lv_at hl 1 rfl) ?_
    refine lv_iconst (v := (-1)) hx hb d_X_plainOps_219 (by decide) ?_
    refine lv_icmp_eq (tgt := 227) hx hb d_X_plainOps_220 (by decide) (fun c1 => ?_) (fun c1 => ?_)
    · have gc1 : g218l2.toInt = (-1 : Int) := c_eq c1
      have R2 : (-1) ≤ g218l2.toInt ∧ g218l2.toInt ≤ (-1) := rf_eqX Rg218l2 (show (-1) ≤ (-1 : Int) ∧ (-1 : Int) ≤ (-1) from by decide) gc1 (by decide) (by decide)
      refine lv_lload_n hx hb d_X_plainOps_227 rfl (lv_at hl 0 rfl) ?_
      refine lv_ldc2 (v := 5461082) hx hb hown (hk _ k_1589) d_X_plainOps_228 ?_
      refine W.lcmp hx hb d_X_plainOps_231 ?_
      refine lv_topi (fun v3 hv3 => ?_)
      refine lv_if_ne (tgt := 241) hx hb d_X_plainOps_232 (by decide) (fun c4 => ?_) (fun c4 => ?_)
      · have gc4 : a1.toInt ≠ (5461082 : Int) := lc_neq hv3 c4
        refine lv_lload_n hx hb d_X_plainOps_241 rfl (lv_at hl 0 rfl) ?_
        refine lv_ldc2 (v := 1245861203) hx hb hown (hk _ k_1590) d_X_plainOps_242 ?_
        refine W.lcmp hx hb d_X_plainOps_245 ?_
        refine lv_topi (fun v5 hv5 => ?_)
        refine lv_if_ne (tgt := 254) hx hb d_X_plainOps_246 (by decide) (fun c6 => ?_) (fun c6 => ?_)
        · have gc6 : a1.toInt ≠ (1245861203 : Int) := lc_neq hv5 c6
          refine lv_lload_n hx hb d_X_plainOps_254 rfl (lv_at hl 0 rfl) ?_
          refine lv_ldc2 (v := 4804419) hx hb hown (hk _ k_1591) d_X_plainOps_255 ?_
          refine W.lcmp hx hb d_X_plainOps_258 ?_
          refine lv_topi (fun v7 hv7 => ?_)
          refine lv_if_ne (tgt := 267) hx hb d_X_plainOps_259 (by decide) (fun c8 => ?_) (fun c8 => ?_)
          · have gc8 : a1.toInt ≠ (4804419 : Int) := lc_neq hv7 c8
            refine lv_lload_n hx hb d_X_plainOps_267 rfl (lv_at hl 0 rfl) ?_
            refine lv_ldc2 (v := 18766) hx hb hown (hk _ k_1592) d_X_plainOps_268 ?_
            refine W.lcmp hx hb d_X_plainOps_271 ?_
            refine lv_topi (fun v9 hv9 => ?_)
            refine lv_if_ne (tgt := 280) hx hb d_X_plainOps_272 (by decide) (fun c10 => ?_) (fun c10 => ?_)
            · have gc10 : a1.toInt ≠ (18766 : Int) := lc_neq hv9 c10
              refine lv_lload_n hx hb d_X_plainOps_280 rfl (lv_at hl 0 rfl) ?_
              refine lv_ldc2 (v := 5199188) hx hb hown (hk _ k_1593) d_X_plainOps_281 ?_
              refine W.lcmp hx hb d_X_plainOps_284 ?_
              refine lv_topi (fun v11 hv11 => ?_)
              refine lv_if_ne (tgt := 293) hx hb d_X_plainOps_285 (by decide) (fun c12 => ?_) (fun c12 => ?_)
              · have gc12 : a1.toInt ≠ (5199188 : Int) := lc_neq hv11 c12
                refine lv_lload_n hx hb d_X_plainOps_293 rfl (lv_at hl 0 rfl) ?_
                refine lv_ldc2 (v := 1246905668) hx hb hown (hk _ k_1594) d_X_plainOps_294 ?_
                refine W.lcmp hx hb d_X_plainOps_297 ?_
                refine lv_topi (fun v13 hv13 => ?_)
                refine lv_if_ne (tgt := 306) hx hb d_X_plainOps_298 (by decide) (fun c14 => ?_) (fun c14 => ?_)
                · have gc14 : a1.toInt ≠ (1246905668 : Int) := lc_neq hv13 c14
                  refine lv_lload_n hx hb d_X_plainOps_306 rfl (lv_at hl 0 rfl) ?_
                  refine lv_ldc2 (v := 4869456) hx hb hown (hk _ k_1595) d_X_plainOps_307 ?_
                  refine W.lcmp hx hb d_X_plainOps_310 ?_
                  refine lv_topi (fun v15 hv15 => ?_)
                  refine lv_if_ne (tgt := 319) hx hb d_X_plainOps_311 (by decide) (fun c16 => ?_) (fun c16 => ?_)
                  · have gc16 : a1.toInt ≠ (4869456 : Int) := lc_neq hv15 c16
                    refine lv_lload_n hx hb d_X_plainOps_319 rfl (lv_at hl 0 rfl) ?_
                    refine lv_ldc2 (v := 4870986) hx hb hown (hk _ k_1596) d_X_plainOps_320 ?_
                    refine W.lcmp hx hb d_X_plainOps_323 ?_
                    refine lv_topi (fun v17 hv17 => ?_)
                    refine lv_if_ne (tgt := 332) hx hb d_X_plainOps_324 (by decide) (fun c18 => ?_) (fun c18 => ?_)
                    · have gc18 : a1.toInt ≠ (4870986 : Int) := lc_neq hv17 c18
                      refine lv_lload_n hx hb d_X_plainOps_332 rfl (lv_at hl 0 rfl) ?_
                      refine lv_ldc2 (v := 4869974) hx hb hown (hk _ k_1597) d_X_plainOps_333 ?_
                      refine W.lcmp hx hb d_X_plainOps_336 ?_
                      refine lv_topi (fun v19 hv19 => ?_)
                      refine lv_if_ne (tgt := 346) hx hb d_X_plainOps_337 (by decide) (fun c20 => ?_) (fun c20 => ?_)
                      · have gc20 : a1.toInt ≠ (4869974 : Int) := lc_neq hv19 c20
                        refine lv_lload_n hx hb d_X_plainOps_346 rfl (lv_at hl 0 rfl) ?_
                        refine lv_ldc2 (v := 1246646102) hx hb hown (hk _ k_1598) d_X_plainOps_347 ?_
                        refine W.lcmp hx hb d_X_plainOps_350 ?_
                        refine lv_topi (fun v21 hv21 => ?_)
                        refine lv_if_ne (tgt := 360) hx hb d_X_plainOps_351 (by decide) (fun c22 => ?_) (fun c22 => ?_)
                        · have gc22 : a1.toInt ≠ (1246646102 : Int) := lc_neq hv21 c22
                          refine lv_lload_n hx hb d_X_plainOps_360 rfl (lv_at hl 0 rfl) ?_
                          refine lv_ldc2 (v := 19020) hx hb hown (hk _ k_1599) d_X_plainOps_361 ?_
                          refine W.lcmp hx hb d_X_plainOps_364 ?_
                          refine lv_topi (fun v23 hv23 => ?_)
                          refine lv_if_ne (tgt := 374) hx hb d_X_plainOps_365 (by decide) (fun c24 => ?_) (fun c24 => ?_)
                          · have gc24 : a1.toInt ≠ (19020 : Int) := lc_neq hv23 c24
                            refine lv_lload_n hx hb d_X_plainOps_374 rfl (lv_at hl 0 rfl) ?_
                            refine lv_ldc2 (v := 19013) hx hb hown (hk _ k_1600) d_X_plainOps_375 ?_
                            refine W.lcmp hx hb d_X_plainOps_378 ?_
                            refine lv_topi (fun v25 hv25 => ?_)
                            refine lv_if_ne (tgt := 388) hx hb d_X_plainOps_379 (by decide) (fun c26 => ?_) (fun c26 => ?_)
                            · have gc26 : a1.toInt ≠ (19013 : Int) := lc_neq hv25 c26
                              refine lv_lload_n hx hb d_X_plainOps_388 rfl (lv_at hl 0 rfl) ?_
                              refine lv_ldc2 (v := 19015) hx hb hown (hk _ k_1601) d_X_plainOps_389 ?_
                              refine W.lcmp hx hb d_X_plainOps_392 ?_
                              refine lv_topi (fun v27 hv27 => ?_)
                              refine lv_if_ne (tgt := 402) hx hb d_X_plainOps_393 (by decide) (fun c28 => ?_) (fun c28 => ?_)
                              · have gc28 : a1.toInt ≠ (19015 : Int) := lc_neq hv27 c28
                                refine lv_lload_n hx hb d_X_plainOps_402 rfl (lv_at hl 0 rfl) ?_
                                refine lv_ldc2 (v := 4867909) hx hb hown (hk _ k_1602) d_X_plainOps_403 ?_
                                refine W.lcmp hx hb d_X_plainOps_406 ?_
                                refine lv_topi (fun v29 hv29 => ?_)
                                refine lv_if_ne (tgt := 416) hx hb d_X_plainOps_407 (by decide) (fun c30 => ?_) (fun c30 => ?_)
                                · have gc30 : a1.toInt ≠ (4867909 : Int) := lc_neq hv29 c30
                                  refine lv_lload_n hx hb d_X_plainOps_416 rfl (lv_at hl 0 rfl) ?_
                                  refine lv_ldc2 (v := 4869701) hx hb hown (hk _ k_1603) d_X_plainOps_417 ?_
                                  refine W.lcmp hx hb d_X_plainOps_420 ?_
                                  refine lv_topi (fun v31 hv31 => ?_)
                                  refine lv_if_ne (tgt := 430) hx hb d_X_plainOps_421 (by decide) (fun c32 => ?_) (fun c32 => ?_)
                                  · have gc32 : a1.toInt ≠ (4869701 : Int) := lc_neq hv31 c32
                                    refine lv_lload_n hx hb d_X_plainOps_430 rfl (lv_at hl 0 rfl) ?_
                                    refine lv_ldc2 (v := 4869189) hx hb hown (hk _ k_1604) d_X_plainOps_431 ?_
                                    refine W.lcmp hx hb d_X_plainOps_434 ?_
                                    refine lv_topi (fun v33 hv33 => ?_)
                                    refine lv_if_ne (tgt := 444) hx hb d_X_plainOps_435 (by decide) (fun c34 => ?_) (fun c34 => ?_)
                                    · have gc34 : a1.toInt ≠ (4869189 : Int) := lc_neq hv33 c34
                                      refine lv_iconst (v := (-1)) hx hb d_X_plainOps_444 (by decide) ?_
                                      exact W.iret (v := (-1 : Int32)) hx hb hr (fun t ht hW => ⟨(-1 : Int32), rfl, (by decide), ht⟩) (fun q h => absurd h List.not_mem_nil) d_X_plainOps_445
                                    · have gc34 : a1.toInt = (4869189 : Int) := lc_eq hv33 c34
                                      have R35 : 4869189 ≤ a1.toInt ∧ a1.toInt ≤ 4869189 := rf_eqX (fr6 a1) (show 4869189 ≤ (4869189 : Int) ∧ (4869189 : Int) ≤ 4869189 from by decide) gc34 (by decide) (by decide)
                                      refine lv_sipush (v := 615) hx hb d_X_plainOps_438 (by decide) ?_
                                      refine lv_goto (tgt := 445) hx hb d_X_plainOps_441 (by decide) ?_
                                      exact W.iret (v := (615 : Int32)) hx hb hr (fun t ht hW => ⟨(615 : Int32), rfl, (by decide), ht⟩) (fun q h => absurd h List.not_mem_nil) d_X_plainOps_445
                                  · have gc32 : a1.toInt = (4869701 : Int) := lc_eq hv31 c32
                                    have R36 : 4869701 ≤ a1.toInt ∧ a1.toInt ≤ 4869701 := rf_eqX (fr6 a1) (show 4869701 ≤ (4869701 : Int) ∧ (4869701 : Int) ≤ 4869701 from by decide) gc32 (by decide) (by decide)
                                    refine lv_sipush (v := 551) hx hb d_X_plainOps_424 (by decide) ?_
                                    refine lv_goto (tgt := 445) hx hb d_X_plainOps_427 (by decide) ?_
                                    exact W.iret (v := (551 : Int32)) hx hb hr (fun t ht hW => ⟨(551 : Int32), rfl, (by decide), ht⟩) (fun q h => absurd h List.not_mem_nil) d_X_plainOps_445
                                · have gc30 : a1.toInt = (4867909 : Int) := lc_eq hv29 c30
                                  have R37 : 4867909 ≤ a1.toInt ∧ a1.toInt ≤ 4867909 := rf_eqX (fr6 a1) (show 4867909 ≤ (4867909 : Int) ∧ (4867909 : Int) ≤ 4867909 from by decide) gc30 (by decide) (by decide)
                                  refine lv_sipush (v := 487) hx hb d_X_plainOps_410 (by decide) ?_
                                  refine lv_goto (tgt := 445) hx hb d_X_plainOps_413 (by decide) ?_
                                  exact W.iret (v := (487 : Int32)) hx hb hr (fun t ht hW => ⟨(487 : Int32), rfl, (by decide), ht⟩) (fun q h => absurd h List.not_mem_nil) d_X_plainOps_445
                              · have gc28 : a1.toInt = (19015 : Int) := lc_eq hv27 c28
                                have R38 : 19015 ≤ a1.toInt ∧ a1.toInt ≤ 19015 := rf_eqX (fr6 a1) (show 19015 ≤ (19015 : Int) ∧ (19015 : Int) ≤ 19015 from by decide) gc28 (by decide) (by decide)
                                refine lv_sipush (v := 423) hx hb d_X_plainOps_396 (by decide) ?_
                                refine lv_goto (tgt := 445) hx hb d_X_plainOps_399 (by decide) ?_
                                exact W.iret (v := (423 : Int32)) hx hb hr (fun t ht hW => ⟨(423 : Int32), rfl, (by decide), ht⟩) (fun q h => absurd h List.not_mem_nil) d_X_plainOps_445
                            · have gc26 : a1.toInt = (19013 : Int) := lc_eq hv25 c26
                              have R39 : 19013 ≤ a1.toInt ∧ a1.toInt ≤ 19013 := rf_eqX (fr6 a1) (show 19013 ≤ (19013 : Int) ∧ (19013 : Int) ≤ 19013 from by decide) gc26 (by decide) (by decide)
                              refine lv_sipush (v := 359) hx hb d_X_plainOps_382 (by decide) ?_
                              refine lv_goto (tgt := 445) hx hb d_X_plainOps_385 (by decide) ?_
                              exact W.iret (v := (359 : Int32)) hx hb hr (fun t ht hW => ⟨(359 : Int32), rfl, (by decide), ht⟩) (fun q h => absurd h List.not_mem_nil) d_X_plainOps_445
                          · have gc24 : a1.toInt = (19020 : Int) := lc_eq hv23 c24
                            have R40 : 19020 ≤ a1.toInt ∧ a1.toInt ≤ 19020 := rf_eqX (fr6 a1) (show 19020 ≤ (19020 : Int) ∧ (19020 : Int) ≤ 19020 from by decide) gc24 (by decide) (by decide)
                            refine lv_sipush (v := 295) hx hb d_X_plainOps_368 (by decide) ?_
                            refine lv_goto (tgt := 445) hx hb d_X_plainOps_371 (by decide) ?_
                            exact W.iret (v := (295 : Int32)) hx hb hr (fun t ht hW => ⟨(295 : Int32), rfl, (by decide), ht⟩) (fun q h => absurd h List.not_mem_nil) d_X_plainOps_445
                        · have gc22 : a1.toInt = (1246646102 : Int) := lc_eq hv21 c22
                          have R41 : 1246646102 ≤ a1.toInt ∧ a1.toInt ≤ 1246646102 := rf_eqX (fr6 a1) (show 1246646102 ≤ (1246646102 : Int) ∧ (1246646102 : Int) ≤ 1246646102 from by decide) gc22 (by decide) (by decide)
                          refine lv_sipush (v := 231) hx hb d_X_plainOps_354 (by decide) ?_
                          refine lv_goto (tgt := 445) hx hb d_X_plainOps_357 (by decide) ?_
                          exact W.iret (v := (231 : Int32)) hx hb hr (fun t ht hW => ⟨(231 : Int32), rfl, (by decide), ht⟩) (fun q h => absurd h List.not_mem_nil) d_X_plainOps_445
                      · have gc20 : a1.toInt = (4869974 : Int) := lc_eq hv19 c20
                        have R42 : 4869974 ≤ a1.toInt ∧ a1.toInt ≤ 4869974 := rf_eqX (fr6 a1) (show 4869974 ≤ (4869974 : Int) ∧ (4869974 : Int) ≤ 4869974 from by decide) gc20 (by decide) (by decide)
                        refine lv_sipush (v := 167) hx hb d_X_plainOps_340 (by decide) ?_
                        refine lv_goto (tgt := 445) hx hb d_X_plainOps_343 (by decide) ?_
                        exact W.iret (v := (167 : Int32)) hx hb hr (fun t ht hW => ⟨(167 : Int32), rfl, (by decide), ht⟩) (fun q h => absurd h List.not_mem_nil) d_X_plainOps_445
                    · have gc18 : a1.toInt = (4870986 : Int) := lc_eq hv17 c18
                      have R43 : 4870986 ≤ a1.toInt ∧ a1.toInt ≤ 4870986 := rf_eqX (fr6 a1) (show 4870986 ≤ (4870986 : Int) ∧ (4870986 : Int) ≤ 4870986 from by decide) gc18 (by decide) (by decide)
                      refine lv_bipush (v := 103) hx hb d_X_plainOps_327 (by decide) ?_
                      refine lv_goto (tgt := 445) hx hb d_X_plainOps_329 (by decide) ?_
                      exact W.iret (v := (103 : Int32)) hx hb hr (fun t ht hW => ⟨(103 : Int32), rfl, (by decide), ht⟩) (fun q h => absurd h List.not_mem_nil) d_X_plainOps_445
                  · have gc16 : a1.toInt = (4869456 : Int) := lc_eq hv15 c16
                    have R44 : 4869456 ≤ a1.toInt ∧ a1.toInt ≤ 4869456 := rf_eqX (fr6 a1) (show 4869456 ≤ (4869456 : Int) ∧ (4869456 : Int) ≤ 4869456 from by decide) gc16 (by decide) (by decide)
                    refine lv_bipush (v := 39) hx hb d_X_plainOps_314 (by decide) ?_
                    refine lv_goto (tgt := 445) hx hb d_X_plainOps_316 (by decide) ?_
                    exact W.iret (v := (39 : Int32)) hx hb hr (fun t ht hW => ⟨(39 : Int32), rfl, (by decide), ht⟩) (fun q h => absurd h List.not_mem_nil) d_X_plainOps_445
                · have gc14 : a1.toInt = (1246905668 : Int) := lc_eq hv13 c14
                  have R45 : 1246905668 ≤ a1.toInt ∧ a1.toInt ≤ 1246905668 := rf_eqX (fr6 a1) (show 1246905668 ≤ (1246905668 : Int) ∧ (1246905668 : Int) ≤ 1246905668 from by decide) gc14 (by decide) (by decide)
                  refine lv_bipush (v := 38) hx hb d_X_plainOps_301 (by decide) ?_
                  refine lv_goto (tgt := 445) hx hb d_X_plainOps_303 (by decide) ?_
                  exact W.iret (v := (38 : Int32)) hx hb hr (fun t ht hW => ⟨(38 : Int32), rfl, (by decide), ht⟩) (fun q h => absurd h List.not_mem_nil) d_X_plainOps_445
              · have gc12 : a1.toInt = (5199188 : Int) := lc_eq hv11 c12
                have R46 : 5199188 ≤ a1.toInt ∧ a1.toInt ≤ 5199188 := rf_eqX (fr6 a1) (show 5199188 ≤ (5199188 : Int) ∧ (5199188 : Int) ≤ 5199188 from by decide) gc12 (by decide) (by decide)
                refine lv_bipush (v := 37) hx hb d_X_plainOps_288 (by decide) ?_
                refine lv_goto (tgt := 445) hx hb d_X_plainOps_290 (by decide) ?_
                exact W.iret (v := (37 : Int32)) hx hb hr (fun t ht hW => ⟨(37 : Int32), rfl, (by decide), ht⟩) (fun q h => absurd h List.not_mem_nil) d_X_plainOps_445
            · have gc10 : a1.toInt = (18766 : Int) := lc_eq hv9 c10
              have R47 : 18766 ≤ a1.toInt ∧ a1.toInt ≤ 18766 := rf_eqX (fr6 a1) (show 18766 ≤ (18766 : Int) ∧ (18766 : Int) ≤ 18766 from by decide) gc10 (by decide) (by decide)
              refine lv_bipush (v := 36) hx hb d_X_plainOps_275 (by decide) ?_
              refine lv_goto (tgt := 445) hx hb d_X_plainOps_277 (by decide) ?_
              exact W.iret (v := (36 : Int32)) hx hb hr (fun t ht hW => ⟨(36 : Int32), rfl, (by decide), ht⟩) (fun q h => absurd h List.not_mem_nil) d_X_plainOps_445
          · have gc8 : a1.toInt = (4804419 : Int) := lc_eq hv7 c8
            have R48 : 4804419 ≤ a1.toInt ∧ a1.toInt ≤ 4804419 := rf_eqX (fr6 a1) (show 4804419 ≤ (4804419 : Int) ∧ (4804419 : Int) ≤ 4804419 from by decide) gc8 (by decide) (by decide)
            refine lv_bipush (v := 35) hx hb d_X_plainOps_262 (by decide) ?_
            refine lv_goto (tgt := 445) hx hb d_X_plainOps_264 (by decide) ?_
            exact W.iret (v := (35 : Int32)) hx hb hr (fun t ht hW => ⟨(35 : Int32), rfl, (by decide), ht⟩) (fun q h => absurd h List.not_mem_nil) d_X_plainOps_445
        · have gc6 : a1.toInt = (1245861203 : Int) := lc_eq hv5 c6
          have R49 : 1245861203 ≤ a1.toInt ∧ a1.toInt ≤ 1245861203 := rf_eqX (fr6 a1) (show 1245861203 ≤ (1245861203 : Int) ∧ (1245861203 : Int) ≤ 1245861203 from by decide) gc6 (by decide) (by decide)
          refine lv_bipush (v := 34) hx hb d_X_plainOps_249 (by decide) ?_
          refine lv_goto (tgt := 445) hx hb d_X_plainOps_251 (by decide) ?_
          exact W.iret (v := (34 : Int32)) hx hb hr (fun t ht hW => ⟨(34 : Int32), rfl, (by decide), ht⟩) (fun q h => absurd h List.not_mem_nil) d_X_plainOps_445
      · have gc4 : a1.toInt = (5461082 : Int) := lc_eq hv3 c4
        have R50 : 5461082 ≤ a1.toInt ∧ a1.toInt ≤ 5461082 := rf_eqX (fr6 a1) (show 5461082 ≤ (5461082 : Int) ∧ (5461082 : Int) ≤ 5461082 from by decide) gc4 (by decide) (by decide)
        refine lv_sipush (v := 353) hx hb d_X_plainOps_235 (by decide) ?_
        refine lv_goto (tgt := 445) hx hb d_X_plainOps_238 (by decide) ?_
        exact W.iret (v := (353 : Int32)) hx hb hr (fun t ht hW => ⟨(353 : Int32), rfl, (by decide), ht⟩) (fun q h => absurd h List.not_mem_nil) d_X_plainOps_445
    · have gc1 : g218l2.toInt ≠ (-1 : Int) := c_ne c1
      have R51 : 0 ≤ g218l2.toInt ∧ g218l2.toInt ≤ 615 := rf_neX Rg218l2 (show (-1) ≤ (-1 : Int) ∧ (-1 : Int) ≤ (-1) from by decide) gc1 (by decide) (by decide)
      refine lv_iload_n hx hb d_X_plainOps_223 rfl (lv_at hl 1 rfl) ?_
      refine lv_goto (tgt := 445) hx hb d_X_plainOps_224 (by decide) ?_
      exact W.iret (v := g218l2) hx hb hr (fun t ht hW => ⟨g218l2, rfl, (rgw R51 (by decide) (by decide)), ht⟩) (fun q h => absurd h List.not_mem_nil) d_X_plainOps_445
  refine lv_lload_n hx hb d_X_plainOps_0 rfl (lv_at hl 0 rfl) ?_
  refine lv_ldc2 (v := 5132112) hx hb hown (hk _ k_1573) d_X_plainOps_1 ?_
  refine W.lcmp hx hb d_X_plainOps_4 ?_
  refine lv_topi (fun v52 hv52 => ?_)
  refine lv_if_ne (tgt := 12) hx hb d_X_plainOps_5 (by decide) (fun c53 => ?_) (fun c53 => ?_)
  · have gc53 : a1.toInt ≠ (5132112 : Int) := lc_neq hv52 c53
    refine lv_lload_n hx hb d_X_plainOps_12 rfl (lv_at hl 0 rfl) ?_
    refine lv_ldc2 (v := 4277316) hx hb hown (hk _ k_1574) d_X_plainOps_13 ?_
    refine W.lcmp hx hb d_X_plainOps_16 ?_
    refine lv_topi (fun v54 hv54 => ?_)
    refine lv_if_ne (tgt := 26) hx hb d_X_plainOps_17 (by decide) (fun c55 => ?_) (fun c55 => ?_)
    · have gc55 : a1.toInt ≠ (4277316 : Int) := lc_neq hv54 c55
      refine lv_lload_n hx hb d_X_plainOps_26 rfl (lv_at hl 0 rfl) ?_
      refine lv_ldc2 (v := 5461314) hx hb hown (hk _ k_1575) d_X_plainOps_27 ?_
      refine W.lcmp hx hb d_X_plainOps_30 ?_
      refine lv_topi (fun v56 hv56 => ?_)
      refine lv_if_ne (tgt := 40) hx hb d_X_plainOps_31 (by decide) (fun c57 => ?_) (fun c57 => ?_)
      · have gc57 : a1.toInt ≠ (5461314 : Int) := lc_neq hv56 c57
        refine lv_lload_n hx hb d_X_plainOps_40 rfl (lv_at hl 0 rfl) ?_
        refine lv_ldc2 (v := 5068108) hx hb hown (hk _ k_1576) d_X_plainOps_41 ?_
        refine W.lcmp hx hb d_X_plainOps_44 ?_
        refine lv_topi (fun v58 hv58 => ?_)
        refine lv_if_ne (tgt := 54) hx hb d_X_plainOps_45 (by decide) (fun c59 => ?_) (fun c59 => ?_)
        · have gc59 : a1.toInt ≠ (5068108 : Int) := lc_neq hv58 c59
          refine lv_lload_n hx hb d_X_plainOps_54 rfl (lv_at hl 0 rfl) ?_
          refine lv_ldc2 (v := 4475222) hx hb hown (hk _ k_1577) d_X_plainOps_55 ?_
          refine W.lcmp hx hb d_X_plainOps_58 ?_
          refine lv_topi (fun v60 hv60 => ?_)
          refine lv_if_ne (tgt := 68) hx hb d_X_plainOps_59 (by decide) (fun c61 => ?_) (fun c61 => ?_)
          · have gc61 : a1.toInt ≠ (4475222 : Int) := lc_neq hv60 c61
            refine lv_lload_n hx hb d_X_plainOps_68 rfl (lv_at hl 0 rfl) ?_
            refine lv_ldc2 (v := 5133645) hx hb hown (hk _ k_1578) d_X_plainOps_69 ?_
            refine W.lcmp hx hb d_X_plainOps_72 ?_
            refine lv_topi (fun v62 hv62 => ?_)
            refine lv_if_ne (tgt := 80) hx hb d_X_plainOps_73 (by decide) (fun c63 => ?_) (fun c63 => ?_)
            · have gc63 : a1.toInt ≠ (5133645 : Int) := lc_neq hv62 c63
              refine lv_lload_n hx hb d_X_plainOps_80 rfl (lv_at hl 0 rfl) ?_
              refine lv_ldc2 (v := 1128808786) hx hb hown (hk _ k_1579) d_X_plainOps_81 ?_
              refine W.lcmp hx hb d_X_plainOps_84 ?_
              refine lv_topi (fun v64 hv64 => ?_)
              refine lv_if_ne (tgt := 93) hx hb d_X_plainOps_85 (by decide) (fun c65 => ?_) (fun c65 => ?_)
              · have gc65 : a1.toInt ≠ (1128808786 : Int) := lc_neq hv64 c65
                refine lv_lload_n hx hb d_X_plainOps_93 rfl (lv_at hl 0 rfl) ?_
                refine lv_ldc2 (v := 4738132) hx hb hown (hk _ k_1580) d_X_plainOps_94 ?_
                refine W.lcmp hx hb d_X_plainOps_97 ?_
                refine lv_topi (fun v66 hv66 => ?_)
                refine lv_if_ne (tgt := 107) hx hb d_X_plainOps_98 (by decide) (fun c67 => ?_) (fun c67 => ?_)
                · have gc67 : a1.toInt ≠ (4738132 : Int) := lc_neq hv66 c67
                  refine lv_lload_n hx hb d_X_plainOps_107 rfl (lv_at hl 0 rfl) ?_
                  refine lv_ldc2 (v := 5459009) hx hb hown (hk _ k_1581) d_X_plainOps_108 ?_
                  refine W.lcmp hx hb d_X_plainOps_111 ?_
                  refine lv_topi (fun v68 hv68 => ?_)
                  refine lv_if_ne (tgt := 120) hx hb d_X_plainOps_112 (by decide) (fun c69 => ?_) (fun c69 => ?_)
                  · have gc69 : a1.toInt ≠ (5459009 : Int) := lc_neq hv68 c69
                    refine lv_lload_n hx hb d_X_plainOps_120 rfl (lv_at hl 0 rfl) ?_
                    refine lv_ldc2 (v := 5460545) hx hb hown (hk _ k_1582) d_X_plainOps_121 ?_
                    refine W.lcmp hx hb d_X_plainOps_124 ?_
                    refine lv_topi (fun v70 hv70 => ?_)
                    refine lv_if_ne (tgt := 133) hx hb d_X_plainOps_125 (by decide) (fun c71 => ?_) (fun c71 => ?_)
                    · have gc71 : a1.toInt ≠ (5460545 : Int) := lc_neq hv70 c71
                      refine lv_lload_n hx hb d_X_plainOps_133 rfl (lv_at hl 0 rfl) ?_
                      refine lv_ldc2 (v := 1397506392) hx hb hown (hk _ k_1583) d_X_plainOps_134 ?_
                      refine W.lcmp hx hb d_X_plainOps_137 ?_
                      refine lv_topi (fun v72 hv72 => ?_)
                      refine lv_if_ne (tgt := 147) hx hb d_X_plainOps_138 (by decide) (fun c73 => ?_) (fun c73 => ?_)
                      · have gc73 : a1.toInt ≠ (1397506392 : Int) := lc_neq hv72 c73
                        refine lv_lload_n hx hb d_X_plainOps_147 rfl (lv_at hl 0 rfl) ?_
                        refine lv_ldc2 (v := 1397899608) hx hb hown (hk _ k_1584) d_X_plainOps_148 ?_
                        refine W.lcmp hx hb d_X_plainOps_151 ?_
                        refine lv_topi (fun v74 hv74 => ?_)
                        refine lv_if_ne (tgt := 161) hx hb d_X_plainOps_152 (by decide) (fun c75 => ?_) (fun c75 => ?_)
                        · have gc75 : a1.toInt ≠ (1397899608 : Int) := lc_neq hv74 c75
                          refine lv_lload_n hx hb d_X_plainOps_161 rfl (lv_at hl 0 rfl) ?_
                          refine lv_ldc2 (v := 5459011) hx hb hown (hk _ k_1585) d_X_plainOps_162 ?_
                          refine W.lcmp hx hb d_X_plainOps_165 ?_
                          refine lv_topi (fun v76 hv76 => ?_)
                          refine lv_if_ne (tgt := 175) hx hb d_X_plainOps_166 (by decide) (fun c77 => ?_) (fun c77 => ?_)
                          · have gc77 : a1.toInt ≠ (5459011 : Int) := lc_neq hv76 c77
                            refine lv_lload_n hx hb d_X_plainOps_175 rfl (lv_at hl 0 rfl) ?_
                            refine lv_ldc2 (v := 5460547) hx hb hown (hk _ k_1586) d_X_plainOps_176 ?_
                            refine W.lcmp hx hb d_X_plainOps_179 ?_
                            refine lv_topi (fun v78 hv78 => ?_)
                            refine lv_if_ne (tgt := 189) hx hb d_X_plainOps_180 (by decide) (fun c79 => ?_) (fun c79 => ?_)
                            · have gc79 : a1.toInt ≠ (5460547 : Int) := lc_neq hv78 c79
                              refine lv_lload_n hx hb d_X_plainOps_189 rfl (lv_at hl 0 rfl) ?_
                              refine lv_ldc2 (v := 1297045061) hx hb hown (hk _ k_1587) d_X_plainOps_190 ?_
                              refine W.lcmp hx hb d_X_plainOps_193 ?_
                              refine lv_topi (fun v80 hv80 => ?_)
                              refine lv_if_ne (tgt := 202) hx hb d_X_plainOps_194 (by decide) (fun c81 => ?_) (fun c81 => ?_)
                              · have gc81 : a1.toInt ≠ (1297045061 : Int) := lc_neq hv80 c81
                                refine lv_lload_n hx hb d_X_plainOps_202 rfl (lv_at hl 0 rfl) ?_
                                refine lv_ldc2 (v := 5461066) hx hb hown (hk _ k_1588) d_X_plainOps_203 ?_
                                refine W.lcmp hx hb d_X_plainOps_206 ?_
                                refine lv_topi (fun v82 hv82 => ?_)
                                refine lv_if_ne (tgt := 216) hx hb d_X_plainOps_207 (by decide) (fun c83 => ?_) (fun c83 => ?_)
                                · have gc83 : a1.toInt ≠ (5461066 : Int) := lc_neq hv82 c83
                                  refine lv_iconst (v := (-1)) hx hb d_X_plainOps_216 (by decide) ?_
                                  refine lv_istore_n (lv' := [(2, .int (-1 : Int32)), (0, .long a1)]) hx hb d_X_plainOps_217 rfl hl (by decide) rfl (fun ls hl => ?_)
                                  exact CUT218 (-1 : Int32) ls (by decide) (lv_sub hl [1, 0] rfl)
                                · have gc83 : a1.toInt = (5461066 : Int) := lc_eq hv82 c83
                                  have R84 : 5461066 ≤ a1.toInt ∧ a1.toInt ≤ 5461066 := rf_eqX (fr6 a1) (show 5461066 ≤ (5461066 : Int) ∧ (5461066 : Int) ≤ 5461066 from by decide) gc83 (by decide) (by decide)
                                  refine lv_sipush (v := 160) hx hb d_X_plainOps_210 (by decide) ?_
                                  refine lv_goto (tgt := 217) hx hb d_X_plainOps_213 (by decide) ?_
                                  refine lv_istore_n (lv' := [(2, .int (160 : Int32)), (0, .long a1)]) hx hb d_X_plainOps_217 rfl hl (by decide) rfl (fun ls hl => ?_)
                                  exact CUT218 (160 : Int32) ls (by decide) (lv_sub hl [1, 0] rfl)
                              · have gc81 : a1.toInt = (1297045061 : Int) := lc_eq hv80 c81
                                have R85 : 1297045061 ≤ a1.toInt ∧ a1.toInt ≤ 1297045061 := rf_eqX (fr6 a1) (show 1297045061 ≤ (1297045061 : Int) ∧ (1297045061 : Int) ≤ 1297045061 from by decide) gc81 (by decide) (by decide)
                                refine lv_bipush (v := 71) hx hb d_X_plainOps_197 (by decide) ?_
                                refine lv_goto (tgt := 217) hx hb d_X_plainOps_199 (by decide) ?_
                                refine lv_istore_n (lv' := [(2, .int (71 : Int32)), (0, .long a1)]) hx hb d_X_plainOps_217 rfl hl (by decide) rfl (fun ls hl => ?_)
                                exact CUT218 (71 : Int32) ls (by decide) (lv_sub hl [1, 0] rfl)
                            · have gc79 : a1.toInt = (5460547 : Int) := lc_eq hv78 c79
                              have R86 : 5460547 ≤ a1.toInt ∧ a1.toInt ≤ 5460547 := rf_eqX (fr6 a1) (show 5460547 ≤ (5460547 : Int) ∧ (5460547 : Int) ≤ 5460547 from by decide) gc79 (by decide) (by decide)
                              refine lv_sipush (v := 326) hx hb d_X_plainOps_183 (by decide) ?_
                              refine lv_goto (tgt := 217) hx hb d_X_plainOps_186 (by decide) ?_
                              refine lv_istore_n (lv' := [(2, .int (326 : Int32)), (0, .long a1)]) hx hb d_X_plainOps_217 rfl hl (by decide) rfl (fun ls hl => ?_)
                              exact CUT218 (326 : Int32) ls (by decide) (lv_sub hl [1, 0] rfl)
                          · have gc77 : a1.toInt = (5459011 : Int) := lc_eq hv76 c77
                            have R87 : 5459011 ≤ a1.toInt ∧ a1.toInt ≤ 5459011 := rf_eqX (fr6 a1) (show 5459011 ≤ (5459011 : Int) ∧ (5459011 : Int) ≤ 5459011 from by decide) gc77 (by decide) (by decide)
                            refine lv_sipush (v := 262) hx hb d_X_plainOps_169 (by decide) ?_
                            refine lv_goto (tgt := 217) hx hb d_X_plainOps_172 (by decide) ?_
                            refine lv_istore_n (lv' := [(2, .int (262 : Int32)), (0, .long a1)]) hx hb d_X_plainOps_217 rfl hl (by decide) rfl (fun ls hl => ?_)
                            exact CUT218 (262 : Int32) ls (by decide) (lv_sub hl [1, 0] rfl)
                        · have gc75 : a1.toInt = (1397899608 : Int) := lc_eq hv74 c75
                          have R88 : 1397899608 ≤ a1.toInt ∧ a1.toInt ≤ 1397899608 := rf_eqX (fr6 a1) (show 1397899608 ≤ (1397899608 : Int) ∧ (1397899608 : Int) ≤ 1397899608 from by decide) gc75 (by decide) (by decide)
                          refine lv_sipush (v := 198) hx hb d_X_plainOps_155 (by decide) ?_
                          refine lv_goto (tgt := 217) hx hb d_X_plainOps_158 (by decide) ?_
                          refine lv_istore_n (lv' := [(2, .int (198 : Int32)), (0, .long a1)]) hx hb d_X_plainOps_217 rfl hl (by decide) rfl (fun ls hl => ?_)
                          exact CUT218 (198 : Int32) ls (by decide) (lv_sub hl [1, 0] rfl)
                      · have gc73 : a1.toInt = (1397506392 : Int) := lc_eq hv72 c73
                        have R89 : 1397506392 ≤ a1.toInt ∧ a1.toInt ≤ 1397506392 := rf_eqX (fr6 a1) (show 1397506392 ≤ (1397506392 : Int) ∧ (1397506392 : Int) ≤ 1397506392 from by decide) gc73 (by decide) (by decide)
                        refine lv_sipush (v := 134) hx hb d_X_plainOps_141 (by decide) ?_
                        refine lv_goto (tgt := 217) hx hb d_X_plainOps_144 (by decide) ?_
                        refine lv_istore_n (lv' := [(2, .int (134 : Int32)), (0, .long a1)]) hx hb d_X_plainOps_217 rfl hl (by decide) rfl (fun ls hl => ?_)
                        exact CUT218 (134 : Int32) ls (by decide) (lv_sub hl [1, 0] rfl)
                    · have gc71 : a1.toInt = (5460545 : Int) := lc_eq hv70 c71
                      have R90 : 5460545 ≤ a1.toInt ∧ a1.toInt ≤ 5460545 := rf_eqX (fr6 a1) (show 5460545 ≤ (5460545 : Int) ∧ (5460545 : Int) ≤ 5460545 from by decide) gc71 (by decide) (by decide)
                      refine lv_bipush (v := 70) hx hb d_X_plainOps_128 (by decide) ?_
                      refine lv_goto (tgt := 217) hx hb d_X_plainOps_130 (by decide) ?_
                      refine lv_istore_n (lv' := [(2, .int (70 : Int32)), (0, .long a1)]) hx hb d_X_plainOps_217 rfl hl (by decide) rfl (fun ls hl => ?_)
                      exact CUT218 (70 : Int32) ls (by decide) (lv_sub hl [1, 0] rfl)
                  · have gc69 : a1.toInt = (5459009 : Int) := lc_eq hv68 c69
                    have R91 : 5459009 ≤ a1.toInt ∧ a1.toInt ≤ 5459009 := rf_eqX (fr6 a1) (show 5459009 ≤ (5459009 : Int) ∧ (5459009 : Int) ≤ 5459009 from by decide) gc69 (by decide) (by decide)
                    refine lv_bipush (v := 6) hx hb d_X_plainOps_115 (by decide) ?_
                    refine lv_goto (tgt := 217) hx hb d_X_plainOps_117 (by decide) ?_
                    refine lv_istore_n (lv' := [(2, .int (6 : Int32)), (0, .long a1)]) hx hb d_X_plainOps_217 rfl hl (by decide) rfl (fun ls hl => ?_)
                    exact CUT218 (6 : Int32) ls (by decide) (lv_sub hl [1, 0] rfl)
                · have gc67 : a1.toInt = (4738132 : Int) := lc_eq hv66 c67
                  have R92 : 4738132 ≤ a1.toInt ∧ a1.toInt ≤ 4738132 := rf_eqX (fr6 a1) (show 4738132 ≤ (4738132 : Int) ∧ (4738132 : Int) ≤ 4738132 from by decide) gc67 (by decide) (by decide)
                  refine lv_sipush (v := 133) hx hb d_X_plainOps_101 (by decide) ?_
                  refine lv_goto (tgt := 217) hx hb d_X_plainOps_104 (by decide) ?_
                  refine lv_istore_n (lv' := [(2, .int (133 : Int32)), (0, .long a1)]) hx hb d_X_plainOps_217 rfl hl (by decide) rfl (fun ls hl => ?_)
                  exact CUT218 (133 : Int32) ls (by decide) (lv_sub hl [1, 0] rfl)
              · have gc65 : a1.toInt = (1128808786 : Int) := lc_eq hv64 c65
                have R93 : 1128808786 ≤ a1.toInt ∧ a1.toInt ≤ 1128808786 := rf_eqX (fr6 a1) (show 1128808786 ≤ (1128808786 : Int) ∧ (1128808786 : Int) ≤ 1128808786 from by decide) gc65 (by decide) (by decide)
                refine lv_bipush (v := 69) hx hb d_X_plainOps_88 (by decide) ?_
                refine lv_goto (tgt := 217) hx hb d_X_plainOps_90 (by decide) ?_
                refine lv_istore_n (lv' := [(2, .int (69 : Int32)), (0, .long a1)]) hx hb d_X_plainOps_217 rfl hl (by decide) rfl (fun ls hl => ?_)
                exact CUT218 (69 : Int32) ls (by decide) (lv_sub hl [1, 0] rfl)
            · have gc63 : a1.toInt = (5133645 : Int) := lc_eq hv62 c63
              have R94 : 5133645 ≤ a1.toInt ∧ a1.toInt ≤ 5133645 := rf_eqX (fr6 a1) (show 5133645 ≤ (5133645 : Int) ∧ (5133645 : Int) ≤ 5133645 from by decide) gc63 (by decide) (by decide)
              refine lv_iconst (v := 5) hx hb d_X_plainOps_76 (by decide) ?_
              refine lv_goto (tgt := 217) hx hb d_X_plainOps_77 (by decide) ?_
              refine lv_istore_n (lv' := [(2, .int (5 : Int32)), (0, .long a1)]) hx hb d_X_plainOps_217 rfl hl (by decide) rfl (fun ls hl => ?_)
              exact CUT218 (5 : Int32) ls (by decide) (lv_sub hl [1, 0] rfl)
          · have gc61 : a1.toInt = (4475222 : Int) := lc_eq hv60 c61
            have R95 : 4475222 ≤ a1.toInt ∧ a1.toInt ≤ 4475222 := rf_eqX (fr6 a1) (show 4475222 ≤ (4475222 : Int) ∧ (4475222 : Int) ≤ 4475222 from by decide) gc61 (by decide) (by decide)
            refine lv_sipush (v := 324) hx hb d_X_plainOps_62 (by decide) ?_
            refine lv_goto (tgt := 217) hx hb d_X_plainOps_65 (by decide) ?_
            refine lv_istore_n (lv' := [(2, .int (324 : Int32)), (0, .long a1)]) hx hb d_X_plainOps_217 rfl hl (by decide) rfl (fun ls hl => ?_)
            exact CUT218 (324 : Int32) ls (by decide) (lv_sub hl [1, 0] rfl)
        · have gc59 : a1.toInt = (5068108 : Int) := lc_eq hv58 c59
          have R96 : 5068108 ≤ a1.toInt ∧ a1.toInt ≤ 5068108 := rf_eqX (fr6 a1) (show 5068108 ≤ (5068108 : Int) ∧ (5068108 : Int) ≤ 5068108 from by decide) gc59 (by decide) (by decide)
          refine lv_sipush (v := 323) hx hb d_X_plainOps_48 (by decide) ?_
          refine lv_goto (tgt := 217) hx hb d_X_plainOps_51 (by decide) ?_
          refine lv_istore_n (lv' := [(2, .int (323 : Int32)), (0, .long a1)]) hx hb d_X_plainOps_217 rfl hl (by decide) rfl (fun ls hl => ?_)
          exact CUT218 (323 : Int32) ls (by decide) (lv_sub hl [1, 0] rfl)
      · have gc57 : a1.toInt = (5461314 : Int) := lc_eq hv56 c57
        have R97 : 5461314 ≤ a1.toInt ∧ a1.toInt ≤ 5461314 := rf_eqX (fr6 a1) (show 5461314 ≤ (5461314 : Int) ∧ (5461314 : Int) ≤ 5461314 from by decide) gc57 (by decide) (by decide)
        refine lv_sipush (v := 322) hx hb d_X_plainOps_34 (by decide) ?_
        refine lv_goto (tgt := 217) hx hb d_X_plainOps_37 (by decide) ?_
        refine lv_istore_n (lv' := [(2, .int (322 : Int32)), (0, .long a1)]) hx hb d_X_plainOps_217 rfl hl (by decide) rfl (fun ls hl => ?_)
        exact CUT218 (322 : Int32) ls (by decide) (lv_sub hl [1, 0] rfl)
    · have gc55 : a1.toInt = (4277316 : Int) := lc_eq hv54 c55
      have R98 : 4277316 ≤ a1.toInt ∧ a1.toInt ≤ 4277316 := rf_eqX (fr6 a1) (show 4277316 ≤ (4277316 : Int) ∧ (4277316 : Int) ≤ 4277316 from by decide) gc55 (by decide) (by decide)
      refine lv_sipush (v := 321) hx hb d_X_plainOps_20 (by decide) ?_
      refine lv_goto (tgt := 217) hx hb d_X_plainOps_23 (by decide) ?_
      refine lv_istore_n (lv' := [(2, .int (321 : Int32)), (0, .long a1)]) hx hb d_X_plainOps_217 rfl hl (by decide) rfl (fun ls hl => ?_)
      exact CUT218 (321 : Int32) ls (by decide) (lv_sub hl [1, 0] rfl)
  · have gc53 : a1.toInt = (5132112 : Int) := lc_eq hv52 c53
    have R99 : 5132112 ≤ a1.toInt ∧ a1.toInt ≤ 5132112 := rf_eqX (fr6 a1) (show 5132112 ≤ (5132112 : Int) ∧ (5132112 : Int) ≤ 5132112 from by decide) gc53 (by decide) (by decide)
    refine lv_iconst (v := 0) hx hb d_X_plainOps_8 (by decide) ?_
    refine lv_goto (tgt := 217) hx hb d_X_plainOps_9 (by decide) ?_
    refine lv_istore_n (lv' := [(2, .int (0 : Int32)), (0, .long a1)]) hx hb d_X_plainOps_217 rfl hl (by decide) rfl (fun ls hl => ?_)
    exact CUT218 (0 : Int32) ls (by decide) (lv_sub hl [1, 0] rfl)
theorem s_X_plainOps {R : Room} {s : State} {args : Array Value} {own : String} {index : Nat} (hk : ∀ w ∈ tb, w.before args s = true) (hl : Cond.methodLink own index y_X_plainOps ∈ tb) (hR : 0 + 1 ≤ R.frames ∧ 8 + (3 + 11) + 0 ≤ R.locals) : CallB R s args own index y_X_plainOps b_X_plainOps 3 (some .int) (.code y_X_plainOps b_X_plainOps 3 (some .int) :: tb) ({ frames := 0, cells := 0, slots := 0, locals := 0 }) 0 0 1 ∧ (Cond.static y_X_plainOps).before args s = true := mk_s 1 hk k_1572 hl k_1571 k_119 rfl rfl h_X_plainOps hR
set_option maxHeartbeats 8000000 in
set_option maxRecDepth 100000 in
theorem c_X_registerOf (l : Launch)  (a1 : Int32)  : Met l y_X_registerOf (.code y_X_registerOf b_X_registerOf 1 (some .int) :: tb) ({ frames := 0, cells := 0, slots := 0, locals := 0 }) (va_Pc [.int a1] (fun _ => True)) (vp_Si (fun ur => ((-1) ≤ ur.toInt ∧ ur.toInt ≤ 7))) 0 0 (fun _ => False) := by
  refine Met.ofW (cc := b_X_registerOf) (maxL := 1) (ret := (some .int)) (by decide) rfl ?_
  intro p e s m args below meth c s₁ B hml hv
  obtain ⟨rfl, -⟩ := hv
  have hx := B.exec
  have hb := B.bytes
  have hr := B.returns
  have hts := atoms_spec (ws := .code y_X_registerOf b_X_registerOf 1 (some .int) :: tb) B.pre
  have hk : ∀ w ∈ tb, w.before [.int a1].toArray s = true := fun w h => hts w (List.mem_cons_of_mem _ h)
  have hown : s.vm.findClass "SignMachineModel" = some m.cls := findClass_of_methodNamed B.named
  have hlocks := B.notSynchronized
  have hl := lv_entry ([.int a1]) (n := 1) (Nat.le_of_ble_eq_true rfl)
  rw [lg_entry_eq]
  generalize (lg_sl ([.int a1]) ++ List.replicate (1 - (lg_sl ([.int a1])).length) Slot.unset).toArray = ls at hl ⊢
  have hl : lv_has ls 1 [(0, .int a1)] := hl
  clear hts B
  refine lv_iload_n hx hb d_X_registerOf_0 rfl (lv_at hl 0 rfl) ?_
  refine lv_bipush (v := 65) hx hb d_X_registerOf_1 (by decide) ?_
  refine lv_icmp_ne (tgt := 10) hx hb d_X_registerOf_3 (by decide) (fun c1 => ?_) (fun c1 => ?_)
  · have gc1 : a1.toInt ≠ (65 : Int) := c_ne c1
    refine lv_iload_n hx hb d_X_registerOf_10 rfl (lv_at hl 0 rfl) ?_
    refine lv_bipush (v := 88) hx hb d_X_registerOf_11 (by decide) ?_
    refine lv_icmp_ne (tgt := 21) hx hb d_X_registerOf_13 (by decide) (fun c2 => ?_) (fun c2 => ?_)
    · have gc2 : a1.toInt ≠ (88 : Int) := c_ne c2
      refine lv_iload_n hx hb d_X_registerOf_21 rfl (lv_at hl 0 rfl) ?_
      refine lv_bipush (v := 49) hx hb d_X_registerOf_22 (by decide) ?_
      refine lv_icmp_lt (tgt := 40) hx hb d_X_registerOf_24 (by decide) (fun c3 => ?_) (fun c3 => ?_)
      · have gc3 : a1.toInt < (49 : Int) := c_lt c3
        have R4 : (-2147483648) ≤ a1.toInt ∧ a1.toInt ≤ 48 := rf_ltX (fr3 a1) (show 49 ≤ (49 : Int) ∧ (49 : Int) ≤ 49 from by decide) gc3 (by decide) (by decide)
        refine lv_iconst (v := (-1)) hx hb d_X_registerOf_40 (by decide) ?_
        exact W.iret (v := (-1 : Int32)) hx hb hr (fun t ht hW => ⟨(-1 : Int32), rfl, (by decide), ht⟩) (fun q h => absurd h List.not_mem_nil) d_X_registerOf_41
      · have gc3 : (49 : Int) ≤ a1.toInt := c_nlt c3
        have R5 : 49 ≤ a1.toInt ∧ a1.toInt ≤ 2147483647 := rf_geX (fr3 a1) (show 49 ≤ (49 : Int) ∧ (49 : Int) ≤ 49 from by decide) gc3 (by decide) (by decide)
        refine lv_iload_n hx hb d_X_registerOf_27 rfl (lv_at hl 0 rfl) ?_
        refine lv_bipush (v := 54) hx hb d_X_registerOf_28 (by decide) ?_
        refine lv_icmp_gt (tgt := 40) hx hb d_X_registerOf_30 (by decide) (fun c6 => ?_) (fun c6 => ?_)
        · have gc6 : (54 : Int) < a1.toInt := c_lt c6
          have R7 : 55 ≤ a1.toInt ∧ a1.toInt ≤ 2147483647 := rf_gtX R5 (show 54 ≤ (54 : Int) ∧ (54 : Int) ≤ 54 from by decide) gc6 (by decide) (by decide)
          refine lv_iconst (v := (-1)) hx hb d_X_registerOf_40 (by decide) ?_
          exact W.iret (v := (-1 : Int32)) hx hb hr (fun t ht hW => ⟨(-1 : Int32), rfl, (by decide), ht⟩) (fun q h => absurd h List.not_mem_nil) d_X_registerOf_41
        · have gc6 : a1.toInt ≤ (54 : Int) := c_nlt c6
          have R8 : 49 ≤ a1.toInt ∧ a1.toInt ≤ 54 := rf_leX R5 (show 54 ≤ (54 : Int) ∧ (54 : Int) ≤ 54 from by decide) gc6 (by decide) (by decide)
          refine lv_iload_n hx hb d_X_registerOf_33 rfl (lv_at hl 0 rfl) ?_
          refine lv_bipush (v := 48) hx hb d_X_registerOf_34 (by decide) ?_
          refine lv_isub hx hb d_X_registerOf_36 ?_
          refine lv_topi (fun v9 hv9 => ?_)
          obtain ⟨ev9, Rv9⟩ : v9.toInt = a1.toInt - (48 : Int) ∧ (1 ≤ v9.toInt ∧ v9.toInt ≤ 6) := sb3 hv9 R8 (show 48 ≤ (48 : Int32).toInt ∧ (48 : Int32).toInt ≤ 48 from by decide) (by decide) (by decide) (by decide) (by decide)
          refine lv_goto (tgt := 41) hx hb d_X_registerOf_37 (by decide) ?_
          exact W.iret (v := v9) hx hb hr (fun t ht hW => ⟨v9, rfl, (rgw Rv9 (by decide) (by decide)), ht⟩) (fun q h => absurd h List.not_mem_nil) d_X_registerOf_41
    · have gc2 : a1.toInt = (88 : Int) := c_eq c2
      have R10 : 88 ≤ a1.toInt ∧ a1.toInt ≤ 88 := rf_eqX (fr3 a1) (show 88 ≤ (88 : Int) ∧ (88 : Int) ≤ 88 from by decide) gc2 (by decide) (by decide)
      refine lv_bipush (v := 7) hx hb d_X_registerOf_16 (by decide) ?_
      refine lv_goto (tgt := 41) hx hb d_X_registerOf_18 (by decide) ?_
      exact W.iret (v := (7 : Int32)) hx hb hr (fun t ht hW => ⟨(7 : Int32), rfl, (by decide), ht⟩) (fun q h => absurd h List.not_mem_nil) d_X_registerOf_41
  · have gc1 : a1.toInt = (65 : Int) := c_eq c1
    have R11 : 65 ≤ a1.toInt ∧ a1.toInt ≤ 65 := rf_eqX (fr3 a1) (show 65 ≤ (65 : Int) ∧ (65 : Int) ≤ 65 from by decide) gc1 (by decide) (by decide)
    refine lv_iconst (v := 0) hx hb d_X_registerOf_6 (by decide) ?_
    refine lv_goto (tgt := 41) hx hb d_X_registerOf_7 (by decide) ?_
    exact W.iret (v := (0 : Int32)) hx hb hr (fun t ht hW => ⟨(0 : Int32), rfl, (by decide), ht⟩) (fun q h => absurd h List.not_mem_nil) d_X_registerOf_41
theorem s_X_registerOf {R : Room} {s : State} {args : Array Value} {own : String} {index : Nat} (hk : ∀ w ∈ tb, w.before args s = true) (hl : Cond.methodLink own index y_X_registerOf ∈ tb) (hR : 0 + 1 ≤ R.frames ∧ 8 + (1 + 11) + 0 ≤ R.locals) : CallB R s args own index y_X_registerOf b_X_registerOf 1 (some .int) (.code y_X_registerOf b_X_registerOf 1 (some .int) :: tb) ({ frames := 0, cells := 0, slots := 0, locals := 0 }) 0 0 1 ∧ (Cond.static y_X_registerOf).before args s = true := mk_s 1 hk k_1607 hl k_1606 k_119 rfl rfl h_X_registerOf hR
set_option maxHeartbeats 8000000 in
set_option maxRecDepth 100000 in
theorem c_X_jumpOf (l : Launch)  (a1 : Int64)  : Met l y_X_jumpOf (.code y_X_jumpOf b_X_jumpOf 2 (some .int) :: tb) ({ frames := 0, cells := 0, slots := 0, locals := 0 }) (va_Pc [.long a1] (fun _ => True)) (vp_Si (fun ur => ((-1) ≤ ur.toInt ∧ ur.toInt ≤ 5))) 0 0 (fun _ => False) := by
  refine Met.ofW (cc := b_X_jumpOf) (maxL := 2) (ret := (some .int)) (by decide) rfl ?_
  intro p e s m args below meth c s₁ B hml hv
  obtain ⟨rfl, -⟩ := hv
  have hx := B.exec
  have hb := B.bytes
  have hr := B.returns
  have hts := atoms_spec (ws := .code y_X_jumpOf b_X_jumpOf 2 (some .int) :: tb) B.pre
  have hk : ∀ w ∈ tb, w.before [.long a1].toArray s = true := fun w h => hts w (List.mem_cons_of_mem _ h)
  have hown : s.vm.findClass "SignMachineModel" = some m.cls := findClass_of_methodNamed B.named
  have hlocks := B.notSynchronized
  have hl := lv_entry ([.long a1]) (n := 2) (Nat.le_of_ble_eq_true rfl)
  rw [lg_entry_eq]
  generalize (lg_sl ([.long a1]) ++ List.replicate (2 - (lg_sl ([.long a1])).length) Slot.unset).toArray = ls at hl ⊢
  have hl : lv_has ls 2 [(0, .long a1)] := hl
  clear hts B
  refine lv_lload_n hx hb d_X_jumpOf_0 rfl (lv_at hl 0 rfl) ?_
  refine lv_ldc2 (v := 78) hx hb hown (hk _ k_1611) d_X_jumpOf_1 ?_
  refine W.lcmp hx hb d_X_jumpOf_4 ?_
  refine lv_topi (fun v1 hv1 => ?_)
  refine lv_if_ne (tgt := 12) hx hb d_X_jumpOf_5 (by decide) (fun c2 => ?_) (fun c2 => ?_)
  · have gc2 : a1.toInt ≠ (78 : Int) := lc_neq hv1 c2
    refine lv_lload_n hx hb d_X_jumpOf_12 rfl (lv_at hl 0 rfl) ?_
    refine lv_ldc2 (v := 90) hx hb hown (hk _ k_1612) d_X_jumpOf_13 ?_
    refine W.lcmp hx hb d_X_jumpOf_16 ?_
    refine lv_topi (fun v3 hv3 => ?_)
    refine lv_if_ne (tgt := 24) hx hb d_X_jumpOf_17 (by decide) (fun c4 => ?_) (fun c4 => ?_)
    · have gc4 : a1.toInt ≠ (90 : Int) := lc_neq hv3 c4
      refine lv_lload_n hx hb d_X_jumpOf_24 rfl (lv_at hl 0 rfl) ?_
      refine lv_ldc2 (v := 80) hx hb hown (hk _ k_1613) d_X_jumpOf_25 ?_
      refine W.lcmp hx hb d_X_jumpOf_28 ?_
      refine lv_topi (fun v5 hv5 => ?_)
      refine lv_if_ne (tgt := 36) hx hb d_X_jumpOf_29 (by decide) (fun c6 => ?_) (fun c6 => ?_)
      · have gc6 : a1.toInt ≠ (80 : Int) := lc_neq hv5 c6
        refine lv_lload_n hx hb d_X_jumpOf_36 rfl (lv_at hl 0 rfl) ?_
        refine lv_ldc2 (v := 20046) hx hb hown (hk _ k_1614) d_X_jumpOf_37 ?_
        refine W.lcmp hx hb d_X_jumpOf_40 ?_
        refine lv_topi (fun v7 hv7 => ?_)
        refine lv_if_ne (tgt := 48) hx hb d_X_jumpOf_41 (by decide) (fun c8 => ?_) (fun c8 => ?_)
        · have gc8 : a1.toInt ≠ (20046 : Int) := lc_neq hv7 c8
          refine lv_lload_n hx hb d_X_jumpOf_48 rfl (lv_at hl 0 rfl) ?_
          refine lv_ldc2 (v := 20058) hx hb hown (hk _ k_1615) d_X_jumpOf_49 ?_
          refine W.lcmp hx hb d_X_jumpOf_52 ?_
          refine lv_topi (fun v9 hv9 => ?_)
          refine lv_if_ne (tgt := 60) hx hb d_X_jumpOf_53 (by decide) (fun c10 => ?_) (fun c10 => ?_)
          · have gc10 : a1.toInt ≠ (20058 : Int) := lc_neq hv9 c10
            refine lv_lload_n hx hb d_X_jumpOf_60 rfl (lv_at hl 0 rfl) ?_
            refine lv_ldc2 (v := 20048) hx hb hown (hk _ k_1616) d_X_jumpOf_61 ?_
            refine W.lcmp hx hb d_X_jumpOf_64 ?_
            refine lv_topi (fun v11 hv11 => ?_)
            refine lv_if_ne (tgt := 72) hx hb d_X_jumpOf_65 (by decide) (fun c12 => ?_) (fun c12 => ?_)
            · have gc12 : a1.toInt ≠ (20048 : Int) := lc_neq hv11 c12
              refine lv_iconst (v := (-1)) hx hb d_X_jumpOf_72 (by decide) ?_
              exact W.iret (v := (-1 : Int32)) hx hb hr (fun t ht hW => ⟨(-1 : Int32), rfl, (by decide), ht⟩) (fun q h => absurd h List.not_mem_nil) d_X_jumpOf_73
            · have gc12 : a1.toInt = (20048 : Int) := lc_eq hv11 c12
              have R13 : 20048 ≤ a1.toInt ∧ a1.toInt ≤ 20048 := rf_eqX (fr6 a1) (show 20048 ≤ (20048 : Int) ∧ (20048 : Int) ≤ 20048 from by decide) gc12 (by decide) (by decide)
              refine lv_iconst (v := 5) hx hb d_X_jumpOf_68 (by decide) ?_
              refine lv_goto (tgt := 73) hx hb d_X_jumpOf_69 (by decide) ?_
              exact W.iret (v := (5 : Int32)) hx hb hr (fun t ht hW => ⟨(5 : Int32), rfl, (by decide), ht⟩) (fun q h => absurd h List.not_mem_nil) d_X_jumpOf_73
          · have gc10 : a1.toInt = (20058 : Int) := lc_eq hv9 c10
            have R14 : 20058 ≤ a1.toInt ∧ a1.toInt ≤ 20058 := rf_eqX (fr6 a1) (show 20058 ≤ (20058 : Int) ∧ (20058 : Int) ≤ 20058 from by decide) gc10 (by decide) (by decide)
            refine lv_iconst (v := 4) hx hb d_X_jumpOf_56 (by decide) ?_
            refine lv_goto (tgt := 73) hx hb d_X_jumpOf_57 (by decide) ?_
            exact W.iret (v := (4 : Int32)) hx hb hr (fun t ht hW => ⟨(4 : Int32), rfl, (by decide), ht⟩) (fun q h => absurd h List.not_mem_nil) d_X_jumpOf_73
        · have gc8 : a1.toInt = (20046 : Int) := lc_eq hv7 c8
          have R15 : 20046 ≤ a1.toInt ∧ a1.toInt ≤ 20046 := rf_eqX (fr6 a1) (show 20046 ≤ (20046 : Int) ∧ (20046 : Int) ≤ 20046 from by decide) gc8 (by decide) (by decide)
          refine lv_iconst (v := 3) hx hb d_X_jumpOf_44 (by decide) ?_
          refine lv_goto (tgt := 73) hx hb d_X_jumpOf_45 (by decide) ?_
          exact W.iret (v := (3 : Int32)) hx hb hr (fun t ht hW => ⟨(3 : Int32), rfl, (by decide), ht⟩) (fun q h => absurd h List.not_mem_nil) d_X_jumpOf_73
      · have gc6 : a1.toInt = (80 : Int) := lc_eq hv5 c6
        have R16 : 80 ≤ a1.toInt ∧ a1.toInt ≤ 80 := rf_eqX (fr6 a1) (show 80 ≤ (80 : Int) ∧ (80 : Int) ≤ 80 from by decide) gc6 (by decide) (by decide)
        refine lv_iconst (v := 2) hx hb d_X_jumpOf_32 (by decide) ?_
        refine lv_goto (tgt := 73) hx hb d_X_jumpOf_33 (by decide) ?_
        exact W.iret (v := (2 : Int32)) hx hb hr (fun t ht hW => ⟨(2 : Int32), rfl, (by decide), ht⟩) (fun q h => absurd h List.not_mem_nil) d_X_jumpOf_73
    · have gc4 : a1.toInt = (90 : Int) := lc_eq hv3 c4
      have R17 : 90 ≤ a1.toInt ∧ a1.toInt ≤ 90 := rf_eqX (fr6 a1) (show 90 ≤ (90 : Int) ∧ (90 : Int) ≤ 90 from by decide) gc4 (by decide) (by decide)
      refine lv_iconst (v := 1) hx hb d_X_jumpOf_20 (by decide) ?_
      refine lv_goto (tgt := 73) hx hb d_X_jumpOf_21 (by decide) ?_
      exact W.iret (v := (1 : Int32)) hx hb hr (fun t ht hW => ⟨(1 : Int32), rfl, (by decide), ht⟩) (fun q h => absurd h List.not_mem_nil) d_X_jumpOf_73
  · have gc2 : a1.toInt = (78 : Int) := lc_eq hv1 c2
    have R18 : 78 ≤ a1.toInt ∧ a1.toInt ≤ 78 := rf_eqX (fr6 a1) (show 78 ≤ (78 : Int) ∧ (78 : Int) ≤ 78 from by decide) gc2 (by decide) (by decide)
    refine lv_iconst (v := 0) hx hb d_X_jumpOf_8 (by decide) ?_
    refine lv_goto (tgt := 73) hx hb d_X_jumpOf_9 (by decide) ?_
    exact W.iret (v := (0 : Int32)) hx hb hr (fun t ht hW => ⟨(0 : Int32), rfl, (by decide), ht⟩) (fun q h => absurd h List.not_mem_nil) d_X_jumpOf_73
theorem s_X_jumpOf {R : Room} {s : State} {args : Array Value} {own : String} {index : Nat} (hk : ∀ w ∈ tb, w.before args s = true) (hl : Cond.methodLink own index y_X_jumpOf ∈ tb) (hR : 0 + 1 ≤ R.frames ∧ 8 + (2 + 11) + 0 ≤ R.locals) : CallB R s args own index y_X_jumpOf b_X_jumpOf 2 (some .int) (.code y_X_jumpOf b_X_jumpOf 2 (some .int) :: tb) ({ frames := 0, cells := 0, slots := 0, locals := 0 }) 0 0 1 ∧ (Cond.static y_X_jumpOf).before args s = true := mk_s 1 hk k_1610 hl k_1609 k_119 rfl rfl h_X_jumpOf hR
set_option maxHeartbeats 8000000 in
set_option maxRecDepth 100000 in
theorem c_X_opOf (l : Launch) (D : va_G) (cI cJ cZ cB : ClassId) (p0 p1 p2 p3 p4 p5 p6 p7 p8 p9 p10 p11 p12 p13 p14 p15 p16 p17 p18 p19 p20 p21 p22 p23 p24 p25 : Nat) (sz : Nat) (x0_4 : Int32) (x0_5 : Int32) (x0_6 : Int32) (x0_7 : Int32) (x0_8 : Int32) (x0_12 : Int32) (x0_13 : Int32) (x0_14 : Int32) (x0_15 : Int32) (x0_16 : Int32) (x0_17 : Int32) (x0_18 : Int32) (x0_22 : Int32) (x0_23 : Int32) (x0_24 : Int32) (x0_25 : Int32) (x0_26 : Int32) (x0_27 : Int32) (x0_28 : Int32) (x0_29 : Int32) (x0_30 : Int32) (x0_31 : Int32) (x0_32 : Int32) (x0_36 : Int32) (x0_39 : Int32) (x0_40 : Int64) (x0_44 : Int32) (x0_49 : Int32) (x0_51 : Int32) (x0_53 : Int32) (x0_54 : Int32) (x0_55 : Int64) (x0_56 : Int32) (x0_57 : Int32) (x0_58 : Int32) (x0_59 : Int32) (x0_60 : Int32) (x0_61 : Int32) (x0_62 : Int64) (y1 : Nat → Int32) (y2 : Nat → Int32) (y3 : Nat → Int32) (y4 : Nat → Int32) (y5 : Nat → Int32) (y6 : Nat → Int32) (y7 : Nat → Int32) (y8 : Nat → Int32) (y9 : Nat → Int32) (y10 : Nat → Int32) (y11 : Nat → Int64) (y12 : Nat → Int32) (y13 : Nat → Int64) (y14 : Nat → Int32) (y15 : Nat → Int64) (y16 : Nat → Int32) (y17 : Nat → Int32) (y18 : Nat → Int32) (y19 : Nat → Int32) (y20 : Nat → Int32) (y21 : Nat → Int32) (y22 : Nat → Int32) (y23 : Nat → Int32) (y24 : Nat → Int64) (y25 : Nat → Int64) (a1 : Int32) (a2 : Int32) (Q0 : a1.toInt + a2.toInt ≤ 4000) (Q1 : 0 ≤ a1.toInt ∧ a1.toInt ≤ 4000) (Q2 : 0 ≤ a2.toInt ∧ a2.toInt ≤ 8) : Met l y_X_opOf (.code y_X_opOf b_X_opOf 12 (some .int) :: tb) ({ frames := 1, cells := 0, slots := 0, locals := 22 }) (pM D cI cJ cZ cB (wS50 cI cJ cZ cB p0 p1 p2 p3 p4 p5 p6 p7 p8 p9 p10 p11 p12 p13 p14 p15 p16 p17 p18 p19 p20 p21 p22 p23 p24 p25 x0_4 x0_5 x0_6 x0_7 x0_8 x0_12 x0_13 x0_14 x0_15 x0_16 x0_17 x0_18 x0_22 x0_23 x0_24 x0_25 x0_26 x0_27 x0_28 x0_29 x0_30 x0_31 x0_32 x0_36 x0_39 x0_40 x0_44 x0_49 x0_51 x0_53 x0_54 x0_55 x0_56 x0_57 x0_58 x0_59 x0_60 x0_61 x0_62 y1 y2 y3 y4 y5 y6 y7 y8 y9 y10 y11 y12 y13 y14 y15 y16 y17 y18 y19 y20 y21 y22 y23 y24 y25) sz [.ref p0, .int a1, .int a2]) (va_Qi (fun r (u : Int32) => r = u) (fun ur t => ((-1) ≤ ur.toInt ∧ ur.toInt ≤ 615) ∧ va_P D classes (wS50 cI cJ cZ cB p0 p1 p2 p3 p4 p5 p6 p7 p8 p9 p10 p11 p12 p13 p14 p15 p16 p17 p18 p19 p20 p21 p22 p23 p24 p25 x0_4 x0_5 x0_6 x0_7 x0_8 x0_12 x0_13 x0_14 x0_15 x0_16 x0_17 x0_18 x0_22 x0_23 x0_24 x0_25 x0_26 x0_27 x0_28 x0_29 x0_30 x0_31 x0_32 x0_36 x0_39 x0_40 x0_44 x0_49 x0_51 x0_53 x0_54 x0_55 x0_56 x0_57 x0_58 x0_59 x0_60 x0_61 x0_62 y1 y2 y3 y4 y5 y6 y7 y8 y9 y10 y11 y12 y13 y14 y15 y16 y17 y18 y19 y20 y21 y22 y23 y24 y25) t.heap ∧ va_D (va_A (wS50 cI cJ cZ cB p0 p1 p2 p3 p4 p5 p6 p7 p8 p9 p10 p11 p12 p13 p14 p15 p16 p17 p18 p19 p20 p21 p22 p23 p24 p25 x0_4 x0_5 x0_6 x0_7 x0_8 x0_12 x0_13 x0_14 x0_15 x0_16 x0_17 x0_18 x0_22 x0_23 x0_24 x0_25 x0_26 x0_27 x0_28 x0_29 x0_30 x0_31 x0_32 x0_36 x0_39 x0_40 x0_44 x0_49 x0_51 x0_53 x0_54 x0_55 x0_56 x0_57 x0_58 x0_59 x0_60 x0_61 x0_62 y1 y2 y3 y4 y5 y6 y7 y8 y9 y10 y11 y12 y13 y14 y15 y16 y17 y18 y19 y20 y21 y22 y23 y24 y25) sz) (wS50 cI cJ cZ cB p0 p1 p2 p3 p4 p5 p6 p7 p8 p9 p10 p11 p12 p13 p14 p15 p16 p17 p18 p19 p20 p21 p22 p23 p24 p25 x0_4 x0_5 x0_6 x0_7 x0_8 x0_12 x0_13 x0_14 x0_15 x0_16 x0_17 x0_18 x0_22 x0_23 x0_24 x0_25 x0_26 x0_27 x0_28 x0_29 x0_30 x0_31 x0_32 x0_36 x0_39 x0_40 x0_44 x0_49 x0_51 x0_53 x0_54 x0_55 x0_56 x0_57 x0_58 x0_59 x0_60 x0_61 x0_62 y1 y2 y3 y4 y5 y6 y7 y8 y9 y10 y11 y12 y13 y14 y15 y16 y17 y18 y19 y20 y21 y22 y23 y24 y25)) (va_A (wS50 cI cJ cZ cB p0 p1 p2 p3 p4 p5 p6 p7 p8 p9 p10 p11 p12 p13 p14 p15 p16 p17 p18 p19 p20 p21 p22 p23 p24 p25 x0_4 x0_5 x0_6 x0_7 x0_8 x0_12 x0_13 x0_14 x0_15 x0_16 x0_17 x0_18 x0_22 x0_23 x0_24 x0_25 x0_26 x0_27 x0_28 x0_29 x0_30 x0_31 x0_32 x0_36 x0_39 x0_40 x0_44 x0_49 x0_51 x0_53 x0_54 x0_55 x0_56 x0_57 x0_58 x0_59 x0_60 x0_61 x0_62 y1 y2 y3 y4 y5 y6 y7 y8 y9 y10 y11 y12 y13 y14 y15 y16 y17 y18 y19 y20 y21 y22 y23 y24 y25) sz)) 0 0 (va_A (wS50 cI cJ cZ cB p0 p1 p2 p3 p4 p5 p6 p7 p8 p9 p10 p11 p12 p13 p14 p15 p16 p17 p18 p19 p20 p21 p22 p23 p24 p25 x0_4 x0_5 x0_6 x0_7 x0_8 x0_12 x0_13 x0_14 x0_15 x0_16 x0_17 x0_18 x0_22 x0_23 x0_24 x0_25 x0_26 x0_27 x0_28 x0_29 x0_30 x0_31 x0_32 x0_36 x0_39 x0_40 x0_44 x0_49 x0_51 x0_53 x0_54 x0_55 x0_56 x0_57 x0_58 x0_59 x0_60 x0_61 x0_62 y1 y2 y3 y4 y5 y6 y7 y8 y9 y10 y11 y12 y13 y14 y15 y16 y17 y18 y19 y20 y21 y22 y23 y24 y25) sz) := by
  refine Met.ofW (cc := b_X_opOf) (maxL := 12) (ret := (some .int)) (by decide) rfl ?_
  intro p e s m args below meth c s₁ B hml hv
  obtain ⟨rfl, hsz, hK, hP, hD0⟩ := hv
  subst hsz
  have hD := hD0.self (sz := s.heap.size)
  generalize hAe : va_A (wS50 cI cJ cZ cB p0 p1 p2 p3 p4 p5 p6 p7 p8 p9 p10 p11 p12 p13 p14 p15 p16 p17 p18 p19 p20 p21 p22 p23 p24 p25 x0_4 x0_5 x0_6 x0_7 x0_8 x0_12 x0_13 x0_14 x0_15 x0_16 x0_17 x0_18 x0_22 x0_23 x0_24 x0_25 x0_26 x0_27 x0_28 x0_29 x0_30 x0_31 x0_32 x0_36 x0_39 x0_40 x0_44 x0_49 x0_51 x0_53 x0_54 x0_55 x0_56 x0_57 x0_58 x0_59 x0_60 x0_61 x0_62 y1 y2 y3 y4 y5 y6 y7 y8 y9 y10 y11 y12 y13 y14 y15 y16 y17 y18 y19 y20 y21 y22 y23 y24 y25) s.heap.size = A at hD ⊢
  have hA : ∀ q : Nat, s.heap.size ≤ q → A q := fun q h => by rw [← hAe]; exact Or.inr h
  clear hAe hD0
  have hS : va_S A s.heap s.heap [] := va_S.rf
  have hx := B.exec
  have hb := B.bytes
  have hr := B.returns
  have hts := atoms_spec (ws := .code y_X_opOf b_X_opOf 12 (some .int) :: tb) B.pre
  have hk : ∀ w ∈ tb, w.before [.ref p0, .int a1, .int a2].toArray s = true := fun w h => hts w (List.mem_cons_of_mem _ h)
  have hown : s.vm.findClass "SignMachineModel" = some m.cls := findClass_of_methodNamed B.named
  have hlocks := B.notSynchronized
  have hl := lv_entry ([.ref p0, .int a1, .int a2]) (n := 12) (Nat.le_of_ble_eq_true rfl)
  rw [lg_entry_eq]
  generalize (lg_sl ([.ref p0, .int a1, .int a2]) ++ List.replicate (12 - (lg_sl ([.ref p0, .int a1, .int a2])).length) Slot.unset).toArray = ls at hl ⊢
  have hl : lv_has ls 12 [(0, .ref p0), (1, .int a1), (2, .int a2)] := hl
  clear hts B
  refine lv_lconst (v := 0) hx hb d_X_opOf_0 (by decide) ?_
  refine lv_lstore_n (lv' := [(3, .long (0 : Int64)), (0, .ref p0), (1, .int a1), (2, .int a2)]) hx hb d_X_opOf_1 rfl hl (by decide) rfl (fun ls hl => ?_)
  refine lv_iconst (v := 0) hx hb d_X_opOf_2 (by decide) ?_
  refine lv_istore (lv' := [(5, .int (0 : Int32)), (3, .long (0 : Int64)), (0, .ref p0), (1, .int a1), (2, .int a2)]) hx hb d_X_opOf_3 hl (by decide) rfl (fun ls hl => ?_)
  have CUT5 : ∀ (n : Nat) (g5l5 : Int32) (g5l3 : Int64)  (H : Heap) (locs : List Loc) (ls : Array Slot), (a2.toInt - g5l5.toInt) < (n : Int) → (0 ≤ g5l5.toInt ∧ g5l5.toInt ≤ 8) → (g5l5.toInt ≤ a2.toInt) → va_P D classes (wS50 cI cJ cZ cB p0 p1 p2 p3 p4 p5 p6 p7 p8 p9 p10 p11 p12 p13 p14 p15 p16 p17 p18 p19 p20 p21 p22 p23 p24 p25 x0_4 x0_5 x0_6 x0_7 x0_8 x0_12 x0_13 x0_14 x0_15 x0_16 x0_17 x0_18 x0_22 x0_23 x0_24 x0_25 x0_26 x0_27 x0_28 x0_29 x0_30 x0_31 x0_32 x0_36 x0_39 x0_40 x0_44 x0_49 x0_51 x0_53 x0_54 x0_55 x0_56 x0_57 x0_58 x0_59 x0_60 x0_61 x0_62 y1 y2 y3 y4 y5 y6 y7 y8 y9 y10 y11 y12 y13 y14 y15 y16 y17 y18 y19 y20 y21 y22 y23 y24 y25) H → va_D A (wS50 cI cJ cZ cB p0 p1 p2 p3 p4 p5 p6 p7 p8 p9 p10 p11 p12 p13 p14 p15 p16 p17 p18 p19 p20 p21 p22 p23 p24 p25 x0_4 x0_5 x0_6 x0_7 x0_8 x0_12 x0_13 x0_14 x0_15 x0_16 x0_17 x0_18 x0_22 x0_23 x0_24 x0_25 x0_26 x0_27 x0_28 x0_29 x0_30 x0_31 x0_32 x0_36 x0_39 x0_40 x0_44 x0_49 x0_51 x0_53 x0_54 x0_55 x0_56 x0_57 x0_58 x0_59 x0_60 x0_61 x0_62 y1 y2 y3 y4 y5 y6 y7 y8 y9 y10 y11 y12 y13 y14 y15 y16 y17 y18 y19 y20 y21 y22 y23 y24 y25) → va_S A s.heap H locs → lv_has ls 12 [(5, .int g5l5), (3, .long g5l3), (0, .ref p0), (1, .int a1), (2, .int a2)] → W p l e ({ frames := 1, cells := 0, slots := 0, locals := 22 }) s m [.ref p0, .int a1, .int a2].toArray below meth c H locs 0 0 (MQ below (va_Qi (fun r (u : Int32) => r = u) (fun ur t => ((-1) ≤ ur.toInt ∧ ur.toInt ≤ 615) ∧ va_P D classes (wS50 cI cJ cZ cB p0 p1 p2 p3 p4 p5 p6 p7 p8 p9 p10 p11 p12 p13 p14 p15 p16 p17 p18 p19 p20 p21 p22 p23 p24 p25 x0_4 x0_5 x0_6 x0_7 x0_8 x0_12 x0_13 x0_14 x0_15 x0_16 x0_17 x0_18 x0_22 x0_23 x0_24 x0_25 x0_26 x0_27 x0_28 x0_29 x0_30 x0_31 x0_32 x0_36 x0_39 x0_40 x0_44 x0_49 x0_51 x0_53 x0_54 x0_55 x0_56 x0_57 x0_58 x0_59 x0_60 x0_61 x0_62 y1 y2 y3 y4 y5 y6 y7 y8 y9 y10 y11 y12 y13 y14 y15 y16 y17 y18 y19 y20 y21 y22 y23 y24 y25) t.heap ∧ va_D A (wS50 cI cJ cZ cB p0 p1 p2 p3 p4 p5 p6 p7 p8 p9 p10 p11 p12 p13 p14 p15 p16 p17 p18 p19 p20 p21 p22 p23 p24 p25 x0_4 x0_5 x0_6 x0_7 x0_8 x0_12 x0_13 x0_14 x0_15 x0_16 x0_17 x0_18 x0_22 x0_23 x0_24 x0_25 x0_26 x0_27 x0_28 x0_29 x0_30 x0_31 x0_32 x0_36 x0_39 x0_40 x0_44 x0_49 x0_51 x0_53 x0_54 x0_55 x0_56 x0_57 x0_58 x0_59 x0_60 x0_61 x0_62 y1 y2 y3 y4 y5 y6 y7 y8 y9 y10 y11 y12 y13 y14 y15 y16 y17 y18 y19 y20 y21 y22 y23 y24 y25)) A) [.ref p0, .int a1, .int a2].toArray s 0 0 A) (F0 m 5 ls []) := by
    intro n
    induction n with
    | zero => intro g5l5 g5l3 H locs ls hn5 Rg5l5 I5_0 hP hD hS hl; exfalso; omega
    | succ n ih5 =>
      intro g5l5 g5l3 H locs ls hn5 Rg5l5 I5_0 hP hD hS hl
      refine lv_iload hx hb d_X_opOf_5 (lv_at hl 0 rfl) ?_
      refine lv_iload_n hx hb d_X_opOf_7 rfl (lv_at hl 4 rfl) ?_
      refine lv_icmp_ge (tgt := 33) hx hb d_X_opOf_8 (by decide) (fun c1 => ?_) (fun c1 => ?_)
      · have gc1 : a2.toInt ≤ g5l5.toInt := c_le c1
        refine lv_lload_n hx hb d_X_opOf_33 rfl (lv_at hl 1 rfl) ?_
        refine vp_callSi (W.runS (As := [.long g5l3]) (rest := []) ⟨hx, hb, hml, hown, hk⟩ (c_X_plainOps l g5l3 ) (s_X_plainOps hk k_1570 ⟨Nat.le_of_ble_eq_true rfl, Nat.le_of_ble_eq_true rfl⟩) ⟨fun a U g mk q => q, fun U hU hW => ⟨rfl, trivial⟩⟩ rfl rfl hl.1 rfl (lv_room (Nat.le_of_ble_eq_true rfl)) d_X_opOf_34 ⟨Nat.le_of_ble_eq_true rfl, Nat.le_of_ble_eq_true rfl⟩) (fun rz2 hrz2 => ?_)
        have F0z2 := hrz2
        have F0z2 : (-1) ≤ rz2.toInt ∧ rz2.toInt ≤ 615 := F0z2
        refine lv_istore (lv' := [(5, .int rz2), (3, .long g5l3), (0, .ref p0), (1, .int a1), (2, .int a2)]) hx hb d_X_opOf_37 hl (by decide) rfl (fun ls hl => ?_)
        refine lv_iload hx hb d_X_opOf_39 (lv_at hl 0 rfl) ?_
        refine lv_iconst (v := (-1)) hx hb d_X_opOf_41 (by decide) ?_
        refine lv_icmp_eq (tgt := 48) hx hb d_X_opOf_42 (by decide) (fun c3 => ?_) (fun c3 => ?_)
        · have gc3 : rz2.toInt = (-1 : Int) := c_eq c3
          have R4 : (-1) ≤ rz2.toInt ∧ rz2.toInt ≤ (-1) := rf_eqX F0z2 (show (-1) ≤ (-1 : Int) ∧ (-1 : Int) ≤ (-1) from by decide) gc3 (by decide) (by decide)
          refine lv_iload_n hx hb d_X_opOf_48 rfl (lv_at hl 4 rfl) ?_
          refine lv_iconst (v := 3) hx hb d_X_opOf_49 (by decide) ?_
          refine lv_icmp_ge (tgt := 55) hx hb d_X_opOf_50 (by decide) (fun c5 => ?_) (fun c5 => ?_)
          · have gc5 : (3 : Int) ≤ a2.toInt := c_le c5
            have R6 : 3 ≤ a2.toInt ∧ a2.toInt ≤ 8 := rf_geX Q2 (show 3 ≤ (3 : Int) ∧ (3 : Int) ≤ 3 from by decide) gc5 (by decide) (by decide)
            refine lv_aload_n hx hb d_X_opOf_55 rfl (lv_at hl 2 rfl) ?_
            refine va_get (D := D) (ci := 7) (v := .ref p10) (C := "SignMachineModel") (T := F_X) (N := 64) hx hb hk fi_X hown hK.1 hP 0 rfl rfl 21 (by decide) (hk _ k_1142) (fun _ h9 => h9) rfl d_X_opOf_56 ?_
            refine lv_iload_n hx hb d_X_opOf_59 rfl (lv_at hl 3 rfl) ?_
            refine lv_iconst (v := 2) hx hb d_X_opOf_60 (by decide) ?_
            refine lv_iadd hx hb d_X_opOf_61 ?_
            refine lv_topi (fun v7 hv7 => ?_)
            obtain ⟨ev7, Rv7⟩ : v7.toInt = a1.toInt + (2 : Int) ∧ (2 ≤ v7.toInt ∧ v7.toInt ≤ 4002) := ad3 hv7 Q1 (show 2 ≤ (2 : Int32).toInt ∧ (2 : Int32).toInt ≤ 2 from by decide) (by decide) (by decide) (by decide) (by decide)
            refine va_iald hx hb hK.1 hP 10 0 rfl rfl (by rw [vp_in_iff]; omega) d_X_opOf_62 ?_
            refine lv_topi (fun v8 hv8 => ?_)
            refine vp_callSi (W.runS (As := [.int v8]) (rest := []) ⟨hx, hb, hml, hown, hk⟩ (c_X_registerOf l v8 ) (s_X_registerOf hk k_1605 ⟨Nat.le_of_ble_eq_true rfl, Nat.le_of_ble_eq_true rfl⟩) ⟨fun a U g mk q => q, fun U hU hW => ⟨rfl, trivial⟩⟩ rfl rfl hl.1 rfl (lv_room (Nat.le_of_ble_eq_true rfl)) d_X_opOf_63 ⟨Nat.le_of_ble_eq_true rfl, Nat.le_of_ble_eq_true rfl⟩) (fun rz9 hrz9 => ?_)
            have F0z9 := hrz9
            have F0z9 : (-1) ≤ rz9.toInt ∧ rz9.toInt ≤ 7 := F0z9
            refine lv_istore (lv' := [(6, .int rz9), (5, .int rz2), (3, .long g5l3), (0, .ref p0), (1, .int a1), (2, .int a2)]) hx hb d_X_opOf_66 hl (by decide) rfl (fun ls hl => ?_)
            have CUT140 : ∀   (H : Heap) (locs : List Loc) (ls : Array Slot), va_P D classes (wS50 cI cJ cZ cB p0 p1 p2 p3 p4 p5 p6 p7 p8 p9 p10 p11 p12 p13 p14 p15 p16 p17 p18 p19 p20 p21 p22 p23 p24 p25 x0_4 x0_5 x0_6 x0_7 x0_8 x0_12 x0_13 x0_14 x0_15 x0_16 x0_17 x0_18 x0_22 x0_23 x0_24 x0_25 x0_26 x0_27 x0_28 x0_29 x0_30 x0_31 x0_32 x0_36 x0_39 x0_40 x0_44 x0_49 x0_51 x0_53 x0_54 x0_55 x0_56 x0_57 x0_58 x0_59 x0_60 x0_61 x0_62 y1 y2 y3 y4 y5 y6 y7 y8 y9 y10 y11 y12 y13 y14 y15 y16 y17 y18 y19 y20 y21 y22 y23 y24 y25) H → va_D A (wS50 cI cJ cZ cB p0 p1 p2 p3 p4 p5 p6 p7 p8 p9 p10 p11 p12 p13 p14 p15 p16 p17 p18 p19 p20 p21 p22 p23 p24 p25 x0_4 x0_5 x0_6 x0_7 x0_8 x0_12 x0_13 x0_14 x0_15 x0_16 x0_17 x0_18 x0_22 x0_23 x0_24 x0_25 x0_26 x0_27 x0_28 x0_29 x0_30 x0_31 x0_32 x0_36 x0_39 x0_40 x0_44 x0_49 x0_51 x0_53 x0_54 x0_55 x0_56 x0_57 x0_58 x0_59 x0_60 x0_61 x0_62 y1 y2 y3 y4 y5 y6 y7 y8 y9 y10 y11 y12 y13 y14 y15 y16 y17 y18 y19 y20 y21 y22 y23 y24 y25) → va_S A s.heap H locs → lv_has ls 12 [(6, .int rz9), (5, .int rz2), (3, .long g5l3), (0, .ref p0), (1, .int a1), (2, .int a2)] → W p l e ({ frames := 1, cells := 0, slots := 0, locals := 22 }) s m [.ref p0, .int a1, .int a2].toArray below meth c H locs 0 0 (MQ below (va_Qi (fun r (u : Int32) => r = u) (fun ur t => ((-1) ≤ ur.toInt ∧ ur.toInt ≤ 615) ∧ va_P D classes (wS50 cI cJ cZ cB p0 p1 p2 p3 p4 p5 p6 p7 p8 p9 p10 p11 p12 p13 p14 p15 p16 p17 p18 p19 p20 p21 p22 p23 p24 p25 x0_4 x0_5 x0_6 x0_7 x0_8 x0_12 x0_13 x0_14 x0_15 x0_16 x0_17 x0_18 x0_22 x0_23 x0_24 x0_25 x0_26 x0_27 x0_28 x0_29 x0_30 x0_31 x0_32 x0_36 x0_39 x0_40 x0_44 x0_49 x0_51 x0_53 x0_54 x0_55 x0_56 x0_57 x0_58 x0_59 x0_60 x0_61 x0_62 y1 y2 y3 y4 y5 y6 y7 y8 y9 y10 y11 y12 y13 y14 y15 y16 y17 y18 y19 y20 y21 y22 y23 y24 y25) t.heap ∧ va_D A (wS50 cI cJ cZ cB p0 p1 p2 p3 p4 p5 p6 p7 p8 p9 p10 p11 p12 p13 p14 p15 p16 p17 p18 p19 p20 p21 p22 p23 p24 p25 x0_4 x0_5 x0_6 x0_7 x0_8 x0_12 x0_13 x0_14 x0_15 x0_16 x0_17 x0_18 x0_22 x0_23 x0_24 x0_25 x0_26 x0_27 x0_28 x0_29 x0_30 x0_31 x0_32 x0_36 x0_39 x0_40 x0_44 x0_49 x0_51 x0_53 x0_54 x0_55 x0_56 x0_57 x0_58 x0_59 x0_60 x0_61 x0_62 y1 y2 y3 y4 y5 y6 y7 y8 y9 y10 y11 y12 y13 y14 y15 y16 y17 y18 y19 y20 y21 y22 y23 y24 y25)) A) [.ref p0, .int a1, .int a2].toArray s 0 0 A) (F0 m 140 ls []) := by
              intro  H locs ls  hP hD hS hl
              have CUT181 : ∀   (H : Heap) (locs : List Loc) (ls : Array Slot), va_P D classes (wS50 cI cJ cZ cB p0 p1 p2 p3 p4 p5 p6 p7 p8 p9 p10 p11 p12 p13 p14 p15 p16 p17 p18 p19 p20 p21 p22 p23 p24 p25 x0_4 x0_5 x0_6 x0_7 x0_8 x0_12 x0_13 x0_14 x0_15 x0_16 x0_17 x0_18 x0_22 x0_23 x0_24 x0_25 x0_26 x0_27 x0_28 x0_29 x0_30 x0_31 x0_32 x0_36 x0_39 x0_40 x0_44 x0_49 x0_51 x0_53 x0_54 x0_55 x0_56 x0_57 x0_58 x0_59 x0_60 x0_61 x0_62 y1 y2 y3 y4 y5 y6 y7 y8 y9 y10 y11 y12 y13 y14 y15 y16 y17 y18 y19 y20 y21 y22 y23 y24 y25) H → va_D A (wS50 cI cJ cZ cB p0 p1 p2 p3 p4 p5 p6 p7 p8 p9 p10 p11 p12 p13 p14 p15 p16 p17 p18 p19 p20 p21 p22 p23 p24 p25 x0_4 x0_5 x0_6 x0_7 x0_8 x0_12 x0_13 x0_14 x0_15 x0_16 x0_17 x0_18 x0_22 x0_23 x0_24 x0_25 x0_26 x0_27 x0_28 x0_29 x0_30 x0_31 x0_32 x0_36 x0_39 x0_40 x0_44 x0_49 x0_51 x0_53 x0_54 x0_55 x0_56 x0_57 x0_58 x0_59 x0_60 x0_61 x0_62 y1 y2 y3 y4 y5 y6 y7 y8 y9 y10 y11 y12 y13 y14 y15 y16 y17 y18 y19 y20 y21 y22 y23 y24 y25) → va_S A s.heap H locs → lv_has ls 12 [(6, .int rz9), (5, .int rz2), (3, .long g5l3), (0, .ref p0), (1, .int a1), (2, .int a2)] → W p l e ({ frames := 1, cells := 0, slots := 0, locals := 22 }) s m [.ref p0, .int a1, .int a2].toArray below meth c H locs 0 0 (MQ below (va_Qi (fun r (u : Int32) => r = u) (fun ur t => ((-1) ≤ ur.toInt ∧ ur.toInt ≤ 615) ∧ va_P D classes (wS50 cI cJ cZ cB p0 p1 p2 p3 p4 p5 p6 p7 p8 p9 p10 p11 p12 p13 p14 p15 p16 p17 p18 p19 p20 p21 p22 p23 p24 p25 x0_4 x0_5 x0_6 x0_7 x0_8 x0_12 x0_13 x0_14 x0_15 x0_16 x0_17 x0_18 x0_22 x0_23 x0_24 x0_25 x0_26 x0_27 x0_28 x0_29 x0_30 x0_31 x0_32 x0_36 x0_39 x0_40 x0_44 x0_49 x0_51 x0_53 x0_54 x0_55 x0_56 x0_57 x0_58 x0_59 x0_60 x0_61 x0_62 y1 y2 y3 y4 y5 y6 y7 y8 y9 y10 y11 y12 y13 y14 y15 y16 y17 y18 y19 y20 y21 y22 y23 y24 y25) t.heap ∧ va_D A (wS50 cI cJ cZ cB p0 p1 p2 p3 p4 p5 p6 p7 p8 p9 p10 p11 p12 p13 p14 p15 p16 p17 p18 p19 p20 p21 p22 p23 p24 p25 x0_4 x0_5 x0_6 x0_7 x0_8 x0_12 x0_13 x0_14 x0_15 x0_16 x0_17 x0_18 x0_22 x0_23 x0_24 x0_25 x0_26 x0_27 x0_28 x0_29 x0_30 x0_31 x0_32 x0_36 x0_39 x0_40 x0_44 x0_49 x0_51 x0_53 x0_54 x0_55 x0_56 x0_57 x0_58 x0_59 x0_60 x0_61 x0_62 y1 y2 y3 y4 y5 y6 y7 y8 y9 y10 y11 y12 y13 y14 y15 y16 y17 y18 y19 y20 y21 y22 y23 y24 y25)) A) [.ref p0, .int a1, .int a2].toArray s 0 0 A) (F0 m 181 ls []) := by
                intro  H locs ls  hP hD hS hl
                refine lv_aload_n hx hb d_X_opOf_181 rfl (lv_at hl 3 rfl) ?_
                refine va_get (D := D) (ci := 7) (v := .ref p10) (C := "SignMachineModel") (T := F_X) (N := 64) hx hb hk fi_X hown hK.1 hP 0 rfl rfl 21 (by decide) (hk _ k_1142) (fun _ h9 => h9) rfl d_X_opOf_182 ?_
                refine lv_iload_n hx hb d_X_opOf_185 rfl (lv_at hl 4 rfl) ?_
                refine lv_iconst (v := 1) hx hb d_X_opOf_186 (by decide) ?_
                refine lv_iadd hx hb d_X_opOf_187 ?_
                refine lv_topi (fun v10 hv10 => ?_)
                obtain ⟨ev10, Rv10⟩ : v10.toInt = a1.toInt + (1 : Int) ∧ (1 ≤ v10.toInt ∧ v10.toInt ≤ 4001) := ad3 hv10 Q1 (show 1 ≤ (1 : Int32).toInt ∧ (1 : Int32).toInt ≤ 1 from by decide) (by decide) (by decide) (by decide) (by decide)
                refine va_iald hx hb hK.1 hP 10 0 rfl rfl (by rw [vp_in_iff]; omega) d_X_opOf_188 ?_
                refine lv_topi (fun v11 hv11 => ?_)
                refine vp_callSi (W.runS (As := [.int v11]) (rest := []) ⟨hx, hb, hml, hown, hk⟩ (c_X_registerOf l v11 ) (s_X_registerOf hk k_1605 ⟨Nat.le_of_ble_eq_true rfl, Nat.le_of_ble_eq_true rfl⟩) ⟨fun a U g mk q => q, fun U hU hW => ⟨rfl, trivial⟩⟩ rfl rfl hl.1 rfl (lv_room (Nat.le_of_ble_eq_true rfl)) d_X_opOf_189 ⟨Nat.le_of_ble_eq_true rfl, Nat.le_of_ble_eq_true rfl⟩) (fun rz12 hrz12 => ?_)
                have F0z12 := hrz12
                have F0z12 : (-1) ≤ rz12.toInt ∧ rz12.toInt ≤ 7 := F0z12
                refine lv_istore (lv' := [(7, .int rz12), (6, .int rz9), (5, .int rz2), (3, .long g5l3), (0, .ref p0), (1, .int a1), (2, .int a2)]) hx hb d_X_opOf_192 hl (by decide) rfl (fun ls hl => ?_)
                have CUT288 : ∀   (H : Heap) (locs : List Loc) (ls : Array Slot), va_P D classes (wS50 cI cJ cZ cB p0 p1 p2 p3 p4 p5 p6 p7 p8 p9 p10 p11 p12 p13 p14 p15 p16 p17 p18 p19 p20 p21 p22 p23 p24 p25 x0_4 x0_5 x0_6 x0_7 x0_8 x0_12 x0_13 x0_14 x0_15 x0_16 x0_17 x0_18 x0_22 x0_23 x0_24 x0_25 x0_26 x0_27 x0_28 x0_29 x0_30 x0_31 x0_32 x0_36 x0_39 x0_40 x0_44 x0_49 x0_51 x0_53 x0_54 x0_55 x0_56 x0_57 x0_58 x0_59 x0_60 x0_61 x0_62 y1 y2 y3 y4 y5 y6 y7 y8 y9 y10 y11 y12 y13 y14 y15 y16 y17 y18 y19 y20 y21 y22 y23 y24 y25) H → va_D A (wS50 cI cJ cZ cB p0 p1 p2 p3 p4 p5 p6 p7 p8 p9 p10 p11 p12 p13 p14 p15 p16 p17 p18 p19 p20 p21 p22 p23 p24 p25 x0_4 x0_5 x0_6 x0_7 x0_8 x0_12 x0_13 x0_14 x0_15 x0_16 x0_17 x0_18 x0_22 x0_23 x0_24 x0_25 x0_26 x0_27 x0_28 x0_29 x0_30 x0_31 x0_32 x0_36 x0_39 x0_40 x0_44 x0_49 x0_51 x0_53 x0_54 x0_55 x0_56 x0_57 x0_58 x0_59 x0_60 x0_61 x0_62 y1 y2 y3 y4 y5 y6 y7 y8 y9 y10 y11 y12 y13 y14 y15 y16 y17 y18 y19 y20 y21 y22 y23 y24 y25) → va_S A s.heap H locs → lv_has ls 12 [(7, .int rz12), (6, .int rz9), (5, .int rz2), (3, .long g5l3), (0, .ref p0), (1, .int a1), (2, .int a2)] → W p l e ({ frames := 1, cells := 0, slots := 0, locals := 22 }) s m [.ref p0, .int a1, .int a2].toArray below meth c H locs 0 0 (MQ below (va_Qi (fun r (u : Int32) => r = u) (fun ur t => ((-1) ≤ ur.toInt ∧ ur.toInt ≤ 615) ∧ va_P D classes (wS50 cI cJ cZ cB p0 p1 p2 p3 p4 p5 p6 p7 p8 p9 p10 p11 p12 p13 p14 p15 p16 p17 p18 p19 p20 p21 p22 p23 p24 p25 x0_4 x0_5 x0_6 x0_7 x0_8 x0_12 x0_13 x0_14 x0_15 x0_16 x0_17 x0_18 x0_22 x0_23 x0_24 x0_25 x0_26 x0_27 x0_28 x0_29 x0_30 x0_31 x0_32 x0_36 x0_39 x0_40 x0_44 x0_49 x0_51 x0_53 x0_54 x0_55 x0_56 x0_57 x0_58 x0_59 x0_60 x0_61 x0_62 y1 y2 y3 y4 y5 y6 y7 y8 y9 y10 y11 y12 y13 y14 y15 y16 y17 y18 y19 y20 y21 y22 y23 y24 y25) t.heap ∧ va_D A (wS50 cI cJ cZ cB p0 p1 p2 p3 p4 p5 p6 p7 p8 p9 p10 p11 p12 p13 p14 p15 p16 p17 p18 p19 p20 p21 p22 p23 p24 p25 x0_4 x0_5 x0_6 x0_7 x0_8 x0_12 x0_13 x0_14 x0_15 x0_16 x0_17 x0_18 x0_22 x0_23 x0_24 x0_25 x0_26 x0_27 x0_28 x0_29 x0_30 x0_31 x0_32 x0_36 x0_39 x0_40 x0_44 x0_49 x0_51 x0_53 x0_54 x0_55 x0_56 x0_57 x0_58 x0_59 x0_60 x0_61 x0_62 y1 y2 y3 y4 y5 y6 y7 y8 y9 y10 y11 y12 y13 y14 y15 y16 y17 y18 y19 y20 y21 y22 y23 y24 y25)) A) [.ref p0, .int a1, .int a2].toArray s 0 0 A) (F0 m 288 ls []) := by
                  intro  H locs ls  hP hD hS hl
                  refine lv_iload_n hx hb d_X_opOf_288 rfl (lv_at hl 6 rfl) ?_
                  refine lv_iconst (v := 4) hx hb d_X_opOf_289 (by decide) ?_
                  refine lv_icmp_ne (tgt := 415) hx hb d_X_opOf_290 (by decide) (fun c13 => ?_) (fun c13 => ?_)
                  · have gc13 : a2.toInt ≠ (4 : Int) := c_ne c13
                    refine lv_iconst (v := (-1)) hx hb d_X_opOf_415 (by decide) ?_
                    exact W.iret (v := (-1 : Int32)) hx hb hr (fun t ht hW => ⟨⟨(-1 : Int32), (-1 : Int32), rfl, rfl, ⟨(by decide), by show va_P D classes _ t.heap; rw [ht]; exact hP, hD⟩⟩, hS.F ht⟩) hS.2.2 d_X_opOf_416
                  · have gc13 : a2.toInt = (4 : Int) := c_eq c13
                    have R14 : 4 ≤ a2.toInt ∧ a2.toInt ≤ 4 := rf_eqX R6 (show 4 ≤ (4 : Int) ∧ (4 : Int) ≤ 4 from by decide) gc13 (by decide) (by decide)
                    refine lv_aload_n hx hb d_X_opOf_293 rfl (lv_at hl 4 rfl) ?_
                    refine va_get (D := D) (ci := 7) (v := .ref p10) (C := "SignMachineModel") (T := F_X) (N := 64) hx hb hk fi_X hown hK.1 hP 0 rfl rfl 21 (by decide) (hk _ k_1142) (fun _ h9 => h9) rfl d_X_opOf_294 ?_
                    refine lv_iload_n hx hb d_X_opOf_297 rfl (lv_at hl 5 rfl) ?_
                    refine lv_iconst (v := 3) hx hb d_X_opOf_298 (by decide) ?_
                    refine lv_iadd hx hb d_X_opOf_299 ?_
                    refine lv_topi (fun v15 hv15 => ?_)
                    obtain ⟨ev15, Rv15⟩ : v15.toInt = a1.toInt + (3 : Int) ∧ (3 ≤ v15.toInt ∧ v15.toInt ≤ 4003) := ad3 hv15 Q1 (show 3 ≤ (3 : Int32).toInt ∧ (3 : Int32).toInt ≤ 3 from by decide) (by decide) (by decide) (by decide) (by decide)
                    refine va_iald hx hb hK.1 hP 10 0 rfl rfl (by rw [vp_in_iff]; omega) d_X_opOf_300 ?_
                    refine lv_topi (fun v16 hv16 => ?_)
                    refine vp_callSi (W.runS (As := [.int v16]) (rest := []) ⟨hx, hb, hml, hown, hk⟩ (c_X_registerOf l v16 ) (s_X_registerOf hk k_1605 ⟨Nat.le_of_ble_eq_true rfl, Nat.le_of_ble_eq_true rfl⟩) ⟨fun a U g mk q => q, fun U hU hW => ⟨rfl, trivial⟩⟩ rfl rfl hl.1 rfl (lv_room (Nat.le_of_ble_eq_true rfl)) d_X_opOf_301 ⟨Nat.le_of_ble_eq_true rfl, Nat.le_of_ble_eq_true rfl⟩) (fun rz17 hrz17 => ?_)
                    have F0z17 := hrz17
                    have F0z17 : (-1) ≤ rz17.toInt ∧ rz17.toInt ≤ 7 := F0z17
                    refine lv_istore (lv' := [(8, .int rz17), (7, .int rz12), (6, .int rz9), (5, .int rz2), (3, .long g5l3), (0, .ref p0), (1, .int a1), (2, .int a2)]) hx hb d_X_opOf_304 hl (by decide) rfl (fun ls hl => ?_)
                    refine lv_lload_n hx hb d_X_opOf_306 rfl (lv_at hl 4 rfl) ?_
                    refine lv_bipush (v := 8) hx hb d_X_opOf_307 (by decide) ?_
                    refine lv_lshr (v := (g5l3 >>> (((8 : Int32) : Int32).toInt64 &&& 63))) hx hb d_X_opOf_309 rfl ?_
                    refine lv_topl (fun v18 hv18 => ?_)
                    refine lv_lstore (lv' := [(9, .long v18), (8, .int rz17), (7, .int rz12), (6, .int rz9), (5, .int rz2), (3, .long g5l3), (0, .ref p0), (1, .int a1), (2, .int a2)]) hx hb d_X_opOf_310 hl (by decide) rfl (fun ls hl => ?_)
                    refine lv_lload hx hb d_X_opOf_312 (lv_at hl 0 rfl) ?_
                    refine lv_ldc2 (v := 4804163) hx hb hown (hk _ k_1617) d_X_opOf_314 ?_
                    refine W.lcmp hx hb d_X_opOf_317 ?_
                    refine lv_topi (fun v19 hv19 => ?_)
                    refine lv_if_ne (tgt := 325) hx hb d_X_opOf_318 (by decide) (fun c20 => ?_) (fun c20 => ?_)
                    · have gc20 : v18.toInt ≠ (4804163 : Int) := lc_neq hv19 c20
                      refine lv_lload hx hb d_X_opOf_325 (lv_at hl 0 rfl) ?_
                      refine lv_ldc2 (v := 4474179) hx hb hown (hk _ k_1618) d_X_opOf_327 ?_
                      refine W.lcmp hx hb d_X_opOf_330 ?_
                      refine lv_topi (fun v21 hv21 => ?_)
                      refine lv_if_ne (tgt := 338) hx hb d_X_opOf_331 (by decide) (fun c22 => ?_) (fun c22 => ?_)
                      · have gc22 : v18.toInt ≠ (4474179 : Int) := lc_neq hv21 c22
                        refine lv_lload hx hb d_X_opOf_338 (lv_at hl 0 rfl) ?_
                        refine lv_ldc2 (v := 4542036) hx hb hown (hk _ k_1619) d_X_opOf_340 ?_
                        refine W.lcmp hx hb d_X_opOf_343 ?_
                        refine lv_topi (fun v23 hv23 => ?_)
                        refine lv_if_ne (tgt := 351) hx hb d_X_opOf_344 (by decide) (fun c24 => ?_) (fun c24 => ?_)
                        · have gc24 : v18.toInt ≠ (4542036 : Int) := lc_neq hv23 c24
                          refine lv_lload hx hb d_X_opOf_351 (lv_at hl 0 rfl) ?_
                          refine lv_ldc2 (v := 4542030) hx hb hown (hk _ k_1620) d_X_opOf_353 ?_
                          refine W.lcmp hx hb d_X_opOf_356 ?_
                          refine lv_topi (fun v25 hv25 => ?_)
                          refine lv_if_ne (tgt := 364) hx hb d_X_opOf_357 (by decide) (fun c26 => ?_) (fun c26 => ?_)
                          · have gc26 : v18.toInt ≠ (4542030 : Int) := lc_neq hv25 c26
                            refine lv_iconst (v := (-1)) hx hb d_X_opOf_364 (by decide) ?_
                            refine lv_istore (lv' := [(11, .int (-1 : Int32)), (9, .long v18), (8, .int rz17), (7, .int rz12), (6, .int rz9), (5, .int rz2), (3, .long g5l3), (0, .ref p0), (1, .int a1), (2, .int a2)]) hx hb d_X_opOf_365 hl (by decide) rfl (fun ls hl => ?_)
                            refine lv_iload hx hb d_X_opOf_367 (lv_at hl 2 rfl) ?_
                            refine lv_if_ge (tgt := 376) hx hb d_X_opOf_369 (by decide) (fun c27 => ?_) (fun c27 => ?_)
                            · have gc27 : (0 : Int) ≤ rz17.toInt := c_le c27
                              have R28 : 0 ≤ rz17.toInt ∧ rz17.toInt ≤ 7 := rf_geX F0z17 (show 0 ≤ (0 : Int) ∧ (0 : Int) ≤ 0 from by decide) gc27 (by decide) (by decide)
                              refine lv_iload hx hb d_X_opOf_376 (lv_at hl 0 rfl) ?_
                              refine lv_if_lt (tgt := 395) hx hb d_X_opOf_378 (by decide) (fun c29 => ?_) (fun c29 => absurd (show (-1 : Int32) < (0 : Int32) from (by decide)) c29)
                              refine lv_lload hx hb d_X_opOf_395 (lv_at hl 1 rfl) ?_
                              refine lv_ldc2 (v := 4410704) hx hb hown (hk _ k_1621) d_X_opOf_397 ?_
                              refine W.lcmp hx hb d_X_opOf_400 ?_
                              refine lv_topi (fun v30 hv30 => ?_)
                              refine lv_if_ne (tgt := 413) hx hb d_X_opOf_401 (by decide) (fun c31 => ?_) (fun c31 => ?_)
                              · have gc31 : v18.toInt ≠ (4410704 : Int) := lc_neq hv30 c31
                                refine lv_iconst (v := (-1)) hx hb d_X_opOf_413 (by decide) ?_
                                exact W.iret (v := (-1 : Int32)) hx hb hr (fun t ht hW => ⟨⟨(-1 : Int32), (-1 : Int32), rfl, rfl, ⟨(by decide), by show va_P D classes _ t.heap; rw [ht]; exact hP, hD⟩⟩, hS.F ht⟩) hS.2.2 d_X_opOf_414
                              · have gc31 : v18.toInt = (4410704 : Int) := lc_eq hv30 c31
                                have R32 : 4410704 ≤ v18.toInt ∧ v18.toInt ≤ 4410704 := rf_eqX (fr6 v18) (show 4410704 ≤ (4410704 : Int) ∧ (4410704 : Int) ≤ 4410704 from by decide) gc31 (by decide) (by decide)
                                refine lv_sipush (v := 376) hx hb d_X_opOf_404 (by decide) ?_
                                refine lv_iload hx hb d_X_opOf_407 (lv_at hl 2 rfl) ?_
                                refine lv_iadd hx hb d_X_opOf_409 ?_
                                refine lv_topi (fun v33 hv33 => ?_)
                                obtain ⟨ev33, Rv33⟩ : v33.toInt = (376 : Int) + rz17.toInt ∧ (376 ≤ v33.toInt ∧ v33.toInt ≤ 383) := ad3 hv33 (show 376 ≤ (376 : Int32).toInt ∧ (376 : Int32).toInt ≤ 376 from by decide) R28 (by decide) (by decide) (by decide) (by decide)
                                refine lv_goto (tgt := 414) hx hb d_X_opOf_410 (by decide) ?_
                                exact W.iret (v := v33) hx hb hr (fun t ht hW => ⟨⟨v33, v33, rfl, rfl, ⟨(rgw Rv33 (by decide) (by decide)), by show va_P D classes _ t.heap; rw [ht]; exact hP, hD⟩⟩, hS.F ht⟩) hS.2.2 d_X_opOf_414
                            · have gc27 : rz17.toInt < (0 : Int) := c_nle c27
                              have R34 : (-1) ≤ rz17.toInt ∧ rz17.toInt ≤ (-1) := rf_ltX F0z17 (show 0 ≤ (0 : Int) ∧ (0 : Int) ≤ 0 from by decide) gc27 (by decide) (by decide)
                              refine lv_iconst (v := (-1)) hx hb d_X_opOf_372 (by decide) ?_
                              refine lv_goto (tgt := 414) hx hb d_X_opOf_373 (by decide) ?_
                              exact W.iret (v := (-1 : Int32)) hx hb hr (fun t ht hW => ⟨⟨(-1 : Int32), (-1 : Int32), rfl, rfl, ⟨(by decide), by show va_P D classes _ t.heap; rw [ht]; exact hP, hD⟩⟩, hS.F ht⟩) hS.2.2 d_X_opOf_414
                          · have gc26 : v18.toInt = (4542030 : Int) := lc_eq hv25 c26
                            have R35 : 4542030 ≤ v18.toInt ∧ v18.toInt ≤ 4542030 := rf_eqX (fr6 v18) (show 4542030 ≤ (4542030 : Int) ∧ (4542030 : Int) ≤ 4542030 from by decide) gc26 (by decide) (by decide)
                            refine lv_iconst (v := 3) hx hb d_X_opOf_360 (by decide) ?_
                            refine lv_goto (tgt := 365) hx hb d_X_opOf_361 (by decide) ?_
                            refine lv_istore (lv' := [(11, .int (3 : Int32)), (9, .long v18), (8, .int rz17), (7, .int rz12), (6, .int rz9), (5, .int rz2), (3, .long g5l3), (0, .ref p0), (1, .int a1), (2, .int a2)]) hx hb d_X_opOf_365 hl (by decide) rfl (fun ls hl => ?_)
                            refine lv_iload hx hb d_X_opOf_367 (lv_at hl 2 rfl) ?_
                            refine lv_if_ge (tgt := 376) hx hb d_X_opOf_369 (by decide) (fun c36 => ?_) (fun c36 => ?_)
                            · have gc36 : (0 : Int) ≤ rz17.toInt := c_le c36
                              have R37 : 0 ≤ rz17.toInt ∧ rz17.toInt ≤ 7 := rf_geX F0z17 (show 0 ≤ (0 : Int) ∧ (0 : Int) ≤ 0 from by decide) gc36 (by decide) (by decide)
                              refine lv_iload hx hb d_X_opOf_376 (lv_at hl 0 rfl) ?_
                              refine lv_if_lt (tgt := 395) hx hb d_X_opOf_378 (by decide) (fun c38 => absurd c38 (show ¬ (3 : Int32) < (0 : Int32) from (by decide))) (fun c38 => ?_)
                              refine lv_bipush (v := 64) hx hb d_X_opOf_381 (by decide) ?_
                              refine lv_iload hx hb d_X_opOf_383 (lv_at hl 0 rfl) ?_
                              refine lv_imul hx hb d_X_opOf_385 ?_
                              refine tpi (y := (192 : Int32)) (by decide) ?_
                              refine lv_bipush (v := 48) hx hb d_X_opOf_386 (by decide) ?_
                              refine lv_iadd hx hb d_X_opOf_388 ?_
                              refine tpi (y := (240 : Int32)) (by decide) ?_
                              refine lv_iload hx hb d_X_opOf_389 (lv_at hl 2 rfl) ?_
                              refine lv_iadd hx hb d_X_opOf_391 ?_
                              refine lv_topi (fun v39 hv39 => ?_)
                              obtain ⟨ev39, Rv39⟩ : v39.toInt = (240 : Int) + rz17.toInt ∧ (240 ≤ v39.toInt ∧ v39.toInt ≤ 247) := ad3 hv39 (show 240 ≤ (240 : Int32).toInt ∧ (240 : Int32).toInt ≤ 240 from by decide) R37 (by decide) (by decide) (by decide) (by decide)
                              refine lv_goto (tgt := 414) hx hb d_X_opOf_392 (by decide) ?_
                              exact W.iret (v := v39) hx hb hr (fun t ht hW => ⟨⟨v39, v39, rfl, rfl, ⟨(rgw Rv39 (by decide) (by decide)), by show va_P D classes _ t.heap; rw [ht]; exact hP, hD⟩⟩, hS.F ht⟩) hS.2.2 d_X_opOf_414
                            · have gc36 : rz17.toInt < (0 : Int) := c_nle c36
                              have R40 : (-1) ≤ rz17.toInt ∧ rz17.toInt ≤ (-1) := rf_ltX F0z17 (show 0 ≤ (0 : Int) ∧ (0 : Int) ≤ 0 from by decide) gc36 (by decide) (by decide)
                              refine lv_iconst (v := (-1)) hx hb d_X_opOf_372 (by decide) ?_
                              refine lv_goto (tgt := 414) hx hb d_X_opOf_373 (by decide) ?_
                              exact W.iret (v := (-1 : Int32)) hx hb hr (fun t ht hW => ⟨⟨(-1 : Int32), (-1 : Int32), rfl, rfl, ⟨(by decide), by show va_P D classes _ t.heap; rw [ht]; exact hP, hD⟩⟩, hS.F ht⟩) hS.2.2 d_X_opOf_414
                        · have gc24 : v18.toInt = (4542036 : Int) := lc_eq hv23 c24
                          have R41 : 4542036 ≤ v18.toInt ∧ v18.toInt ≤ 4542036 := rf_eqX (fr6 v18) (show 4542036 ≤ (4542036 : Int) ∧ (4542036 : Int) ≤ 4542036 from by decide) gc24 (by decide) (by decide)
                          refine lv_iconst (v := 2) hx hb d_X_opOf_347 (by decide) ?_
                          refine lv_goto (tgt := 365) hx hb d_X_opOf_348 (by decide) ?_
                          refine lv_istore (lv' := [(11, .int (2 : Int32)), (9, .long v18), (8, .int rz17), (7, .int rz12), (6, .int rz9), (5, .int rz2), (3, .long g5l3), (0, .ref p0), (1, .int a1), (2, .int a2)]) hx hb d_X_opOf_365 hl (by decide) rfl (fun ls hl => ?_)
                          refine lv_iload hx hb d_X_opOf_367 (lv_at hl 2 rfl) ?_
                          refine lv_if_ge (tgt := 376) hx hb d_X_opOf_369 (by decide) (fun c42 => ?_) (fun c42 => ?_)
                          · have gc42 : (0 : Int) ≤ rz17.toInt := c_le c42
                            have R43 : 0 ≤ rz17.toInt ∧ rz17.toInt ≤ 7 := rf_geX F0z17 (show 0 ≤ (0 : Int) ∧ (0 : Int) ≤ 0 from by decide) gc42 (by decide) (by decide)
                            refine lv_iload hx hb d_X_opOf_376 (lv_at hl 0 rfl) ?_
                            refine lv_if_lt (tgt := 395) hx hb d_X_opOf_378 (by decide) (fun c44 => absurd c44 (show ¬ (2 : Int32) < (0 : Int32) from (by decide))) (fun c44 => ?_)
                            refine lv_bipush (v := 64) hx hb d_X_opOf_381 (by decide) ?_
                            refine lv_iload hx hb d_X_opOf_383 (lv_at hl 0 rfl) ?_
                            refine lv_imul hx hb d_X_opOf_385 ?_
                            refine tpi (y := (128 : Int32)) (by decide) ?_
                            refine lv_bipush (v := 48) hx hb d_X_opOf_386 (by decide) ?_
                            refine lv_iadd hx hb d_X_opOf_388 ?_
                            refine tpi (y := (176 : Int32)) (by decide) ?_
                            refine lv_iload hx hb d_X_opOf_389 (lv_at hl 2 rfl) ?_
                            refine lv_iadd hx hb d_X_opOf_391 ?_
                            refine lv_topi (fun v45 hv45 => ?_)
                            obtain ⟨ev45, Rv45⟩ : v45.toInt = (176 : Int) + rz17.toInt ∧ (176 ≤ v45.toInt ∧ v45.toInt ≤ 183) := ad3 hv45 (show 176 ≤ (176 : Int32).toInt ∧ (176 : Int32).toInt ≤ 176 from by decide) R43 (by decide) (by decide) (by decide) (by decide)
                            refine lv_goto (tgt := 414) hx hb d_X_opOf_392 (by decide) ?_
                            exact W.iret (v := v45) hx hb hr (fun t ht hW => ⟨⟨v45, v45, rfl, rfl, ⟨(rgw Rv45 (by decide) (by decide)), by show va_P D classes _ t.heap; rw [ht]; exact hP, hD⟩⟩, hS.F ht⟩) hS.2.2 d_X_opOf_414
                          · have gc42 : rz17.toInt < (0 : Int) := c_nle c42
                            have R46 : (-1) ≤ rz17.toInt ∧ rz17.toInt ≤ (-1) := rf_ltX F0z17 (show 0 ≤ (0 : Int) ∧ (0 : Int) ≤ 0 from by decide) gc42 (by decide) (by decide)
                            refine lv_iconst (v := (-1)) hx hb d_X_opOf_372 (by decide) ?_
                            refine lv_goto (tgt := 414) hx hb d_X_opOf_373 (by decide) ?_
                            exact W.iret (v := (-1 : Int32)) hx hb hr (fun t ht hW => ⟨⟨(-1 : Int32), (-1 : Int32), rfl, rfl, ⟨(by decide), by show va_P D classes _ t.heap; rw [ht]; exact hP, hD⟩⟩, hS.F ht⟩) hS.2.2 d_X_opOf_414
                      · have gc22 : v18.toInt = (4474179 : Int) := lc_eq hv21 c22
                        have R47 : 4474179 ≤ v18.toInt ∧ v18.toInt ≤ 4474179 := rf_eqX (fr6 v18) (show 4474179 ≤ (4474179 : Int) ∧ (4474179 : Int) ≤ 4474179 from by decide) gc22 (by decide) (by decide)
                        refine lv_iconst (v := 1) hx hb d_X_opOf_334 (by decide) ?_
                        refine lv_goto (tgt := 365) hx hb d_X_opOf_335 (by decide) ?_
                        refine lv_istore (lv' := [(11, .int (1 : Int32)), (9, .long v18), (8, .int rz17), (7, .int rz12), (6, .int rz9), (5, .int rz2), (3, .long g5l3), (0, .ref p0), (1, .int a1), (2, .int a2)]) hx hb d_X_opOf_365 hl (by decide) rfl (fun ls hl => ?_)
                        refine lv_iload hx hb d_X_opOf_367 (lv_at hl 2 rfl) ?_
                        refine lv_if_ge (tgt := 376) hx hb d_X_opOf_369 (by decide) (fun c48 => ?_) (fun c48 => ?_)
                        · have gc48 : (0 : Int) ≤ rz17.toInt := c_le c48
                          have R49 : 0 ≤ rz17.toInt ∧ rz17.toInt ≤ 7 := rf_geX F0z17 (show 0 ≤ (0 : Int) ∧ (0 : Int) ≤ 0 from by decide) gc48 (by decide) (by decide)
                          refine lv_iload hx hb d_X_opOf_376 (lv_at hl 0 rfl) ?_
                          refine lv_if_lt (tgt := 395) hx hb d_X_opOf_378 (by decide) (fun c50 => absurd c50 (show ¬ (1 : Int32) < (0 : Int32) from (by decide))) (fun c50 => ?_)
                          refine lv_bipush (v := 64) hx hb d_X_opOf_381 (by decide) ?_
                          refine lv_iload hx hb d_X_opOf_383 (lv_at hl 0 rfl) ?_
                          refine lv_imul hx hb d_X_opOf_385 ?_
                          refine tpi (y := (64 : Int32)) (by decide) ?_
                          refine lv_bipush (v := 48) hx hb d_X_opOf_386 (by decide) ?_
                          refine lv_iadd hx hb d_X_opOf_388 ?_
                          refine tpi (y := (112 : Int32)) (by decide) ?_
                          refine lv_iload hx hb d_X_opOf_389 (lv_at hl 2 rfl) ?_
                          refine lv_iadd hx hb d_X_opOf_391 ?_
                          refine lv_topi (fun v51 hv51 => ?_)
                          obtain ⟨ev51, Rv51⟩ : v51.toInt = (112 : Int) + rz17.toInt ∧ (112 ≤ v51.toInt ∧ v51.toInt ≤ 119) := ad3 hv51 (show 112 ≤ (112 : Int32).toInt ∧ (112 : Int32).toInt ≤ 112 from by decide) R49 (by decide) (by decide) (by decide) (by decide)
                          refine lv_goto (tgt := 414) hx hb d_X_opOf_392 (by decide) ?_
                          exact W.iret (v := v51) hx hb hr (fun t ht hW => ⟨⟨v51, v51, rfl, rfl, ⟨(rgw Rv51 (by decide) (by decide)), by show va_P D classes _ t.heap; rw [ht]; exact hP, hD⟩⟩, hS.F ht⟩) hS.2.2 d_X_opOf_414
                        · have gc48 : rz17.toInt < (0 : Int) := c_nle c48
                          have R52 : (-1) ≤ rz17.toInt ∧ rz17.toInt ≤ (-1) := rf_ltX F0z17 (show 0 ≤ (0 : Int) ∧ (0 : Int) ≤ 0 from by decide) gc48 (by decide) (by decide)
                          refine lv_iconst (v := (-1)) hx hb d_X_opOf_372 (by decide) ?_
                          refine lv_goto (tgt := 414) hx hb d_X_opOf_373 (by decide) ?_
                          exact W.iret (v := (-1 : Int32)) hx hb hr (fun t ht hW => ⟨⟨(-1 : Int32), (-1 : Int32), rfl, rfl, ⟨(by decide), by show va_P D classes _ t.heap; rw [ht]; exact hP, hD⟩⟩, hS.F ht⟩) hS.2.2 d_X_opOf_414
                    · have gc20 : v18.toInt = (4804163 : Int) := lc_eq hv19 c20
                      have R53 : 4804163 ≤ v18.toInt ∧ v18.toInt ≤ 4804163 := rf_eqX (fr6 v18) (show 4804163 ≤ (4804163 : Int) ∧ (4804163 : Int) ≤ 4804163 from by decide) gc20 (by decide) (by decide)
                      refine lv_iconst (v := 0) hx hb d_X_opOf_321 (by decide) ?_
                      refine lv_goto (tgt := 365) hx hb d_X_opOf_322 (by decide) ?_
                      refine lv_istore (lv' := [(11, .int (0 : Int32)), (9, .long v18), (8, .int rz17), (7, .int rz12), (6, .int rz9), (5, .int rz2), (3, .long g5l3), (0, .ref p0), (1, .int a1), (2, .int a2)]) hx hb d_X_opOf_365 hl (by decide) rfl (fun ls hl => ?_)
                      refine lv_iload hx hb d_X_opOf_367 (lv_at hl 2 rfl) ?_
                      refine lv_if_ge (tgt := 376) hx hb d_X_opOf_369 (by decide) (fun c54 => ?_) (fun c54 => ?_)
                      · have gc54 : (0 : Int) ≤ rz17.toInt := c_le c54
                        have R55 : 0 ≤ rz17.toInt ∧ rz17.toInt ≤ 7 := rf_geX F0z17 (show 0 ≤ (0 : Int) ∧ (0 : Int) ≤ 0 from by decide) gc54 (by decide) (by decide)
                        refine lv_iload hx hb d_X_opOf_376 (lv_at hl 0 rfl) ?_
                        refine lv_if_lt (tgt := 395) hx hb d_X_opOf_378 (by decide) (fun c56 => absurd c56 (show ¬ (0 : Int32) < (0 : Int32) from (by decide))) (fun c56 => ?_)
                        refine lv_bipush (v := 64) hx hb d_X_opOf_381 (by decide) ?_
                        refine lv_iload hx hb d_X_opOf_383 (lv_at hl 0 rfl) ?_
                        refine lv_imul hx hb d_X_opOf_385 ?_
                        refine tpi (y := (0 : Int32)) (by decide) ?_
                        refine lv_bipush (v := 48) hx hb d_X_opOf_386 (by decide) ?_
                        refine lv_iadd hx hb d_X_opOf_388 ?_
                        refine tpi (y := (48 : Int32)) (by decide) ?_
                        refine lv_iload hx hb d_X_opOf_389 (lv_at hl 2 rfl) ?_
                        refine lv_iadd hx hb d_X_opOf_391 ?_
                        refine lv_topi (fun v57 hv57 => ?_)
                        obtain ⟨ev57, Rv57⟩ : v57.toInt = (48 : Int) + rz17.toInt ∧ (48 ≤ v57.toInt ∧ v57.toInt ≤ 55) := ad3 hv57 (show 48 ≤ (48 : Int32).toInt ∧ (48 : Int32).toInt ≤ 48 from by decide) R55 (by decide) (by decide) (by decide) (by decide)
                        refine lv_goto (tgt := 414) hx hb d_X_opOf_392 (by decide) ?_
                        exact W.iret (v := v57) hx hb hr (fun t ht hW => ⟨⟨v57, v57, rfl, rfl, ⟨(rgw Rv57 (by decide) (by decide)), by show va_P D classes _ t.heap; rw [ht]; exact hP, hD⟩⟩, hS.F ht⟩) hS.2.2 d_X_opOf_414
                      · have gc54 : rz17.toInt < (0 : Int) := c_nle c54
                        have R58 : (-1) ≤ rz17.toInt ∧ rz17.toInt ≤ (-1) := rf_ltX F0z17 (show 0 ≤ (0 : Int) ∧ (0 : Int) ≤ 0 from by decide) gc54 (by decide) (by decide)
                        refine lv_iconst (v := (-1)) hx hb d_X_opOf_372 (by decide) ?_
                        refine lv_goto (tgt := 414) hx hb d_X_opOf_373 (by decide) ?_
                        exact W.iret (v := (-1 : Int32)) hx hb hr (fun t ht hW => ⟨⟨(-1 : Int32), (-1 : Int32), rfl, rfl, ⟨(by decide), by show va_P D classes _ t.heap; rw [ht]; exact hP, hD⟩⟩, hS.F ht⟩) hS.2.2 d_X_opOf_414
                refine lv_aload_n hx hb d_X_opOf_194 rfl (lv_at hl 4 rfl) ?_
                refine va_get (D := D) (ci := 7) (v := .ref p10) (C := "SignMachineModel") (T := F_X) (N := 64) hx hb hk fi_X hown hK.1 hP 0 rfl rfl 21 (by decide) (hk _ k_1142) (fun _ h9 => h9) rfl d_X_opOf_195 ?_
                refine lv_iload_n hx hb d_X_opOf_198 rfl (lv_at hl 5 rfl) ?_
                refine va_iald hx hb hK.1 hP 10 0 rfl rfl (by rw [vp_in_iff]; omega) d_X_opOf_199 ?_
                refine lv_topi (fun v59 hv59 => ?_)
                refine lv_bipush (v := 74) hx hb d_X_opOf_200 (by decide) ?_
                refine lv_icmp_ne (tgt := 288) hx hb d_X_opOf_202 (by decide) (fun c60 => ?_) (fun c60 => ?_)
                · have gc60 : v59.toInt ≠ (74 : Int) := c_ne c60
                  exact CUT288  H _ ls  hP hD hS (lv_sub hl [0, 1, 2, 3, 4, 5, 6] rfl)
                · have gc60 : v59.toInt = (74 : Int) := c_eq c60
                  have R61 : 74 ≤ v59.toInt ∧ v59.toInt ≤ 74 := rf_eqX (fr3 v59) (show 74 ≤ (74 : Int) ∧ (74 : Int) ≤ 74 from by decide) gc60 (by decide) (by decide)
                  refine lv_iload hx hb d_X_opOf_205 (lv_at hl 0 rfl) ?_
                  refine lv_if_lt (tgt := 288) hx hb d_X_opOf_207 (by decide) (fun c62 => ?_) (fun c62 => ?_)
                  · have gc62 : rz12.toInt < (0 : Int) := c_lt c62
                    have R63 : (-1) ≤ rz12.toInt ∧ rz12.toInt ≤ (-1) := rf_ltX F0z12 (show 0 ≤ (0 : Int) ∧ (0 : Int) ≤ 0 from by decide) gc62 (by decide) (by decide)
                    exact CUT288  H _ ls  hP hD hS (lv_sub hl [0, 1, 2, 3, 4, 5, 6] rfl)
                  · have gc62 : (0 : Int) ≤ rz12.toInt := c_nlt c62
                    have R64 : 0 ≤ rz12.toInt ∧ rz12.toInt ≤ 7 := rf_geX F0z12 (show 0 ≤ (0 : Int) ∧ (0 : Int) ≤ 0 from by decide) gc62 (by decide) (by decide)
                    refine lv_iload_n hx hb d_X_opOf_210 rfl (lv_at hl 6 rfl) ?_
                    refine lv_iconst (v := 3) hx hb d_X_opOf_211 (by decide) ?_
                    refine lv_icmp_ne (tgt := 227) hx hb d_X_opOf_212 (by decide) (fun c65 => ?_) (fun c65 => ?_)
                    · have gc65 : a2.toInt ≠ (3 : Int) := c_ne c65
                      have R66 : 4 ≤ a2.toInt ∧ a2.toInt ≤ 8 := rf_neX R6 (show 3 ≤ (3 : Int) ∧ (3 : Int) ≤ 3 from by decide) gc65 (by decide) (by decide)
                      refine lv_iload_n hx hb d_X_opOf_227 rfl (lv_at hl 6 rfl) ?_
                      refine lv_iconst (v := 4) hx hb d_X_opOf_228 (by decide) ?_
                      refine lv_icmp_ne (tgt := 257) hx hb d_X_opOf_229 (by decide) (fun c67 => ?_) (fun c67 => ?_)
                      · have gc67 : a2.toInt ≠ (4 : Int) := c_ne c67
                        have R68 : 5 ≤ a2.toInt ∧ a2.toInt ≤ 8 := rf_neX R66 (show 4 ≤ (4 : Int) ∧ (4 : Int) ≤ 4 from by decide) gc67 (by decide) (by decide)
                        refine lv_lconst (v := 0) hx hb d_X_opOf_257 (by decide) ?_
                        refine lv_lstore (lv' := [(8, .long (0 : Int64)), (7, .int rz12), (6, .int rz9), (5, .int rz2), (3, .long g5l3), (0, .ref p0), (1, .int a1), (2, .int a2)]) hx hb d_X_opOf_258 hl (by decide) rfl (fun ls hl => ?_)
                        refine lv_lload hx hb d_X_opOf_260 (lv_at hl 0 rfl) ?_
                        refine vp_callSi (W.runS (As := [.long (0 : Int64)]) (rest := []) ⟨hx, hb, hml, hown, hk⟩ (c_X_jumpOf l (0 : Int64) ) (s_X_jumpOf hk k_1608 ⟨Nat.le_of_ble_eq_true rfl, Nat.le_of_ble_eq_true rfl⟩) ⟨fun a U g mk q => q, fun U hU hW => ⟨rfl, trivial⟩⟩ rfl rfl hl.1 rfl (lv_room (Nat.le_of_ble_eq_true rfl)) d_X_opOf_262 ⟨Nat.le_of_ble_eq_true rfl, Nat.le_of_ble_eq_true rfl⟩) (fun rz69 hrz69 => ?_)
                        have F0z69 := hrz69
                        have F0z69 : (-1) ≤ rz69.toInt ∧ rz69.toInt ≤ 5 := F0z69
                        refine lv_istore (lv' := [(10, .int rz69), (8, .long (0 : Int64)), (7, .int rz12), (6, .int rz9), (5, .int rz2), (3, .long g5l3), (0, .ref p0), (1, .int a1), (2, .int a2)]) hx hb d_X_opOf_265 hl (by decide) rfl (fun ls hl => ?_)
                        refine lv_iload hx hb d_X_opOf_267 (lv_at hl 0 rfl) ?_
                        refine lv_if_lt (tgt := 286) hx hb d_X_opOf_269 (by decide) (fun c70 => ?_) (fun c70 => ?_)
                        · have gc70 : rz69.toInt < (0 : Int) := c_lt c70
                          have R71 : (-1) ≤ rz69.toInt ∧ rz69.toInt ≤ (-1) := rf_ltX F0z69 (show 0 ≤ (0 : Int) ∧ (0 : Int) ≤ 0 from by decide) gc70 (by decide) (by decide)
                          refine lv_iconst (v := (-1)) hx hb d_X_opOf_286 (by decide) ?_
                          exact W.iret (v := (-1 : Int32)) hx hb hr (fun t ht hW => ⟨⟨(-1 : Int32), (-1 : Int32), rfl, rfl, ⟨(by decide), by show va_P D classes _ t.heap; rw [ht]; exact hP, hD⟩⟩, hS.F ht⟩) hS.2.2 d_X_opOf_287
                        · have gc70 : (0 : Int) ≤ rz69.toInt := c_nlt c70
                          have R72 : 0 ≤ rz69.toInt ∧ rz69.toInt ≤ 5 := rf_geX F0z69 (show 0 ≤ (0 : Int) ∧ (0 : Int) ≤ 0 from by decide) gc70 (by decide) (by decide)
                          refine lv_bipush (v := 64) hx hb d_X_opOf_272 (by decide) ?_
                          refine lv_iload hx hb d_X_opOf_274 (lv_at hl 0 rfl) ?_
                          refine lv_imul hx hb d_X_opOf_276 ?_
                          refine lv_topi (fun v73 hv73 => ?_)
                          obtain ⟨ev73, Rv73⟩ : v73.toInt = (64 : Int) * rz69.toInt ∧ (0 ≤ v73.toInt ∧ v73.toInt ≤ 320) := ml3 hv73 (show 64 ≤ (64 : Int32).toInt ∧ (64 : Int32).toInt ≤ 64 from by decide) R72 (by decide) (by decide) (by decide) (by decide) (by decide) (by decide)
                          refine lv_bipush (v := 40) hx hb d_X_opOf_277 (by decide) ?_
                          refine lv_iadd hx hb d_X_opOf_279 ?_
                          refine lv_topi (fun v74 hv74 => ?_)
                          obtain ⟨ev74, Rv74⟩ : v74.toInt = v73.toInt + (40 : Int) ∧ (40 ≤ v74.toInt ∧ v74.toInt ≤ 360) := ad3 hv74 Rv73 (show 40 ≤ (40 : Int32).toInt ∧ (40 : Int32).toInt ≤ 40 from by decide) (by decide) (by decide) (by decide) (by decide)
                          refine lv_iload hx hb d_X_opOf_280 (lv_at hl 2 rfl) ?_
                          refine lv_iadd hx hb d_X_opOf_282 ?_
                          refine lv_topi (fun v75 hv75 => ?_)
                          obtain ⟨ev75, Rv75⟩ : v75.toInt = v74.toInt + rz12.toInt ∧ (40 ≤ v75.toInt ∧ v75.toInt ≤ 367) := ad3 hv75 Rv74 R64 (by decide) (by decide) (by decide) (by decide)
                          refine lv_goto (tgt := 287) hx hb d_X_opOf_283 (by decide) ?_
                          exact W.iret (v := v75) hx hb hr (fun t ht hW => ⟨⟨v75, v75, rfl, rfl, ⟨(rgw Rv75 (by decide) (by decide)), by show va_P D classes _ t.heap; rw [ht]; exact hP, hD⟩⟩, hS.F ht⟩) hS.2.2 d_X_opOf_287
                      · have gc67 : a2.toInt = (4 : Int) := c_eq c67
                        have R76 : 4 ≤ a2.toInt ∧ a2.toInt ≤ 4 := rf_eqX R66 (show 4 ≤ (4 : Int) ∧ (4 : Int) ≤ 4 from by decide) gc67 (by decide) (by decide)
                        refine lv_aload_n hx hb d_X_opOf_232 rfl (lv_at hl 4 rfl) ?_
                        refine va_get (D := D) (ci := 7) (v := .ref p10) (C := "SignMachineModel") (T := F_X) (N := 64) hx hb hk fi_X hown hK.1 hP 0 rfl rfl 21 (by decide) (hk _ k_1142) (fun _ h9 => h9) rfl d_X_opOf_233 ?_
                        refine lv_iload_n hx hb d_X_opOf_236 rfl (lv_at hl 5 rfl) ?_
                        refine lv_iconst (v := 2) hx hb d_X_opOf_237 (by decide) ?_
                        refine lv_iadd hx hb d_X_opOf_238 ?_
                        refine lv_topi (fun v77 hv77 => ?_)
                        obtain ⟨ev77, Rv77⟩ : v77.toInt = a1.toInt + (2 : Int) ∧ (2 ≤ v77.toInt ∧ v77.toInt ≤ 4002) := ad3 hv77 Q1 (show 2 ≤ (2 : Int32).toInt ∧ (2 : Int32).toInt ≤ 2 from by decide) (by decide) (by decide) (by decide) (by decide)
                        refine va_iald hx hb hK.1 hP 10 0 rfl rfl (by rw [vp_in_iff]; omega) d_X_opOf_239 ?_
                        refine lv_topi (fun v78 hv78 => ?_)
                        refine lv_i2l (v := (v78 : Int32).toInt64) hx hb d_X_opOf_240 rfl ?_
                        refine lv_topl (fun v79 hv79 => ?_)
                        obtain ⟨ev79, Rv79⟩ : v79.toInt = v78.toInt ∧ ((-2147483648) ≤ v79.toInt ∧ v79.toInt ≤ 2147483647) := il3 hv79 (fr3 v78)
                        refine lv_bipush (v := 8) hx hb d_X_opOf_241 (by decide) ?_
                        refine lv_lshl (v := (v79 <<< (((8 : Int32) : Int32).toInt64 &&& 63))) hx hb d_X_opOf_243 rfl ?_
                        refine lv_topl (fun v80 hv80 => ?_)
                        refine lv_aload_n hx hb d_X_opOf_244 rfl (lv_at hl 4 rfl) ?_
                        refine va_get (D := D) (ci := 7) (v := .ref p10) (C := "SignMachineModel") (T := F_X) (N := 64) hx hb hk fi_X hown hK.1 hP 0 rfl rfl 21 (by decide) (hk _ k_1142) (fun _ h9 => h9) rfl d_X_opOf_245 ?_
                        refine lv_iload_n hx hb d_X_opOf_248 rfl (lv_at hl 5 rfl) ?_
                        refine lv_iconst (v := 3) hx hb d_X_opOf_249 (by decide) ?_
                        refine lv_iadd hx hb d_X_opOf_250 ?_
                        refine lv_topi (fun v81 hv81 => ?_)
                        obtain ⟨ev81, Rv81⟩ : v81.toInt = a1.toInt + (3 : Int) ∧ (3 ≤ v81.toInt ∧ v81.toInt ≤ 4003) := ad3 hv81 Q1 (show 3 ≤ (3 : Int32).toInt ∧ (3 : Int32).toInt ≤ 3 from by decide) (by decide) (by decide) (by decide) (by decide)
                        refine va_iald hx hb hK.1 hP 10 0 rfl rfl (by rw [vp_in_iff]; omega) d_X_opOf_251 ?_
                        refine lv_topi (fun v82 hv82 => ?_)
                        refine lv_i2l (v := (v82 : Int32).toInt64) hx hb d_X_opOf_252 rfl ?_
                        refine lv_topl (fun v83 hv83 => ?_)
                        obtain ⟨ev83, Rv83⟩ : v83.toInt = v82.toInt ∧ ((-2147483648) ≤ v83.toInt ∧ v83.toInt ≤ 2147483647) := il3 hv83 (fr3 v82)
                        refine lv_lor hx hb d_X_opOf_253 ?_
                        refine lv_topl (fun v84 hv84 => ?_)
                        refine lv_goto (tgt := 258) hx hb d_X_opOf_254 (by decide) ?_
                        refine lv_lstore (lv' := [(8, .long v84), (7, .int rz12), (6, .int rz9), (5, .int rz2), (3, .long g5l3), (0, .ref p0), (1, .int a1), (2, .int a2)]) hx hb d_X_opOf_258 hl (by decide) rfl (fun ls hl => ?_)
                        refine lv_lload hx hb d_X_opOf_260 (lv_at hl 0 rfl) ?_
                        refine vp_callSi (W.runS (As := [.long v84]) (rest := []) ⟨hx, hb, hml, hown, hk⟩ (c_X_jumpOf l v84 ) (s_X_jumpOf hk k_1608 ⟨Nat.le_of_ble_eq_true rfl, Nat.le_of_ble_eq_true rfl⟩) ⟨fun a U g mk q => q, fun U hU hW => ⟨rfl, trivial⟩⟩ rfl rfl hl.1 rfl (lv_room (Nat.le_of_ble_eq_true rfl)) d_X_opOf_262 ⟨Nat.le_of_ble_eq_true rfl, Nat.le_of_ble_eq_true rfl⟩) (fun rz85 hrz85 => ?_)
                        have F0z85 := hrz85
                        have F0z85 : (-1) ≤ rz85.toInt ∧ rz85.toInt ≤ 5 := F0z85
                        refine lv_istore (lv' := [(10, .int rz85), (8, .long v84), (7, .int rz12), (6, .int rz9), (5, .int rz2), (3, .long g5l3), (0, .ref p0), (1, .int a1), (2, .int a2)]) hx hb d_X_opOf_265 hl (by decide) rfl (fun ls hl => ?_)
                        refine lv_iload hx hb d_X_opOf_267 (lv_at hl 0 rfl) ?_
                        refine lv_if_lt (tgt := 286) hx hb d_X_opOf_269 (by decide) (fun c86 => ?_) (fun c86 => ?_)
                        · have gc86 : rz85.toInt < (0 : Int) := c_lt c86
                          have R87 : (-1) ≤ rz85.toInt ∧ rz85.toInt ≤ (-1) := rf_ltX F0z85 (show 0 ≤ (0 : Int) ∧ (0 : Int) ≤ 0 from by decide) gc86 (by decide) (by decide)
                          refine lv_iconst (v := (-1)) hx hb d_X_opOf_286 (by decide) ?_
                          exact W.iret (v := (-1 : Int32)) hx hb hr (fun t ht hW => ⟨⟨(-1 : Int32), (-1 : Int32), rfl, rfl, ⟨(by decide), by show va_P D classes _ t.heap; rw [ht]; exact hP, hD⟩⟩, hS.F ht⟩) hS.2.2 d_X_opOf_287
                        · have gc86 : (0 : Int) ≤ rz85.toInt := c_nlt c86
                          have R88 : 0 ≤ rz85.toInt ∧ rz85.toInt ≤ 5 := rf_geX F0z85 (show 0 ≤ (0 : Int) ∧ (0 : Int) ≤ 0 from by decide) gc86 (by decide) (by decide)
                          refine lv_bipush (v := 64) hx hb d_X_opOf_272 (by decide) ?_
                          refine lv_iload hx hb d_X_opOf_274 (lv_at hl 0 rfl) ?_
                          refine lv_imul hx hb d_X_opOf_276 ?_
                          refine lv_topi (fun v89 hv89 => ?_)
                          obtain ⟨ev89, Rv89⟩ : v89.toInt = (64 : Int) * rz85.toInt ∧ (0 ≤ v89.toInt ∧ v89.toInt ≤ 320) := ml3 hv89 (show 64 ≤ (64 : Int32).toInt ∧ (64 : Int32).toInt ≤ 64 from by decide) R88 (by decide) (by decide) (by decide) (by decide) (by decide) (by decide)
                          refine lv_bipush (v := 40) hx hb d_X_opOf_277 (by decide) ?_
                          refine lv_iadd hx hb d_X_opOf_279 ?_
                          refine lv_topi (fun v90 hv90 => ?_)
                          obtain ⟨ev90, Rv90⟩ : v90.toInt = v89.toInt + (40 : Int) ∧ (40 ≤ v90.toInt ∧ v90.toInt ≤ 360) := ad3 hv90 Rv89 (show 40 ≤ (40 : Int32).toInt ∧ (40 : Int32).toInt ≤ 40 from by decide) (by decide) (by decide) (by decide) (by decide)
                          refine lv_iload hx hb d_X_opOf_280 (lv_at hl 2 rfl) ?_
                          refine lv_iadd hx hb d_X_opOf_282 ?_
                          refine lv_topi (fun v91 hv91 => ?_)
                          obtain ⟨ev91, Rv91⟩ : v91.toInt = v90.toInt + rz12.toInt ∧ (40 ≤ v91.toInt ∧ v91.toInt ≤ 367) := ad3 hv91 Rv90 R64 (by decide) (by decide) (by decide) (by decide)
                          refine lv_goto (tgt := 287) hx hb d_X_opOf_283 (by decide) ?_
                          exact W.iret (v := v91) hx hb hr (fun t ht hW => ⟨⟨v91, v91, rfl, rfl, ⟨(rgw Rv91 (by decide) (by decide)), by show va_P D classes _ t.heap; rw [ht]; exact hP, hD⟩⟩, hS.F ht⟩) hS.2.2 d_X_opOf_287
                    · have gc65 : a2.toInt = (3 : Int) := c_eq c65
                      have R92 : 3 ≤ a2.toInt ∧ a2.toInt ≤ 3 := rf_eqX R6 (show 3 ≤ (3 : Int) ∧ (3 : Int) ≤ 3 from by decide) gc65 (by decide) (by decide)
                      refine lv_aload_n hx hb d_X_opOf_215 rfl (lv_at hl 4 rfl) ?_
                      refine va_get (D := D) (ci := 7) (v := .ref p10) (C := "SignMachineModel") (T := F_X) (N := 64) hx hb hk fi_X hown hK.1 hP 0 rfl rfl 21 (by decide) (hk _ k_1142) (fun _ h9 => h9) rfl d_X_opOf_216 ?_
                      refine lv_iload_n hx hb d_X_opOf_219 rfl (lv_at hl 5 rfl) ?_
                      refine lv_iconst (v := 2) hx hb d_X_opOf_220 (by decide) ?_
                      refine lv_iadd hx hb d_X_opOf_221 ?_
                      refine lv_topi (fun v93 hv93 => ?_)
                      obtain ⟨ev93, Rv93⟩ : v93.toInt = a1.toInt + (2 : Int) ∧ (2 ≤ v93.toInt ∧ v93.toInt ≤ 4002) := ad3 hv93 Q1 (show 2 ≤ (2 : Int32).toInt ∧ (2 : Int32).toInt ≤ 2 from by decide) (by decide) (by decide) (by decide) (by decide)
                      refine va_iald hx hb hK.1 hP 10 0 rfl rfl (by rw [vp_in_iff]; omega) d_X_opOf_222 ?_
                      refine lv_topi (fun v94 hv94 => ?_)
                      refine lv_i2l (v := (v94 : Int32).toInt64) hx hb d_X_opOf_223 rfl ?_
                      refine lv_topl (fun v95 hv95 => ?_)
                      obtain ⟨ev95, Rv95⟩ : v95.toInt = v94.toInt ∧ ((-2147483648) ≤ v95.toInt ∧ v95.toInt ≤ 2147483647) := il3 hv95 (fr3 v94)
                      refine lv_goto (tgt := 258) hx hb d_X_opOf_224 (by decide) ?_
                      refine lv_lstore (lv' := [(8, .long v95), (7, .int rz12), (6, .int rz9), (5, .int rz2), (3, .long g5l3), (0, .ref p0), (1, .int a1), (2, .int a2)]) hx hb d_X_opOf_258 hl (by decide) rfl (fun ls hl => ?_)
                      refine lv_lload hx hb d_X_opOf_260 (lv_at hl 0 rfl) ?_
                      refine vp_callSi (W.runS (As := [.long v95]) (rest := []) ⟨hx, hb, hml, hown, hk⟩ (c_X_jumpOf l v95 ) (s_X_jumpOf hk k_1608 ⟨Nat.le_of_ble_eq_true rfl, Nat.le_of_ble_eq_true rfl⟩) ⟨fun a U g mk q => q, fun U hU hW => ⟨rfl, trivial⟩⟩ rfl rfl hl.1 rfl (lv_room (Nat.le_of_ble_eq_true rfl)) d_X_opOf_262 ⟨Nat.le_of_ble_eq_true rfl, Nat.le_of_ble_eq_true rfl⟩) (fun rz96 hrz96 => ?_)
                      have F0z96 := hrz96
                      have F0z96 : (-1) ≤ rz96.toInt ∧ rz96.toInt ≤ 5 := F0z96
                      refine lv_istore (lv' := [(10, .int rz96), (8, .long v95), (7, .int rz12), (6, .int rz9), (5, .int rz2), (3, .long g5l3), (0, .ref p0), (1, .int a1), (2, .int a2)]) hx hb d_X_opOf_265 hl (by decide) rfl (fun ls hl => ?_)
                      refine lv_iload hx hb d_X_opOf_267 (lv_at hl 0 rfl) ?_
                      refine lv_if_lt (tgt := 286) hx hb d_X_opOf_269 (by decide) (fun c97 => ?_) (fun c97 => ?_)
                      · have gc97 : rz96.toInt < (0 : Int) := c_lt c97
                        have R98 : (-1) ≤ rz96.toInt ∧ rz96.toInt ≤ (-1) := rf_ltX F0z96 (show 0 ≤ (0 : Int) ∧ (0 : Int) ≤ 0 from by decide) gc97 (by decide) (by decide)
                        refine lv_iconst (v := (-1)) hx hb d_X_opOf_286 (by decide) ?_
                        exact W.iret (v := (-1 : Int32)) hx hb hr (fun t ht hW => ⟨⟨(-1 : Int32), (-1 : Int32), rfl, rfl, ⟨(by decide), by show va_P D classes _ t.heap; rw [ht]; exact hP, hD⟩⟩, hS.F ht⟩) hS.2.2 d_X_opOf_287
                      · have gc97 : (0 : Int) ≤ rz96.toInt := c_nlt c97
                        have R99 : 0 ≤ rz96.toInt ∧ rz96.toInt ≤ 5 := rf_geX F0z96 (show 0 ≤ (0 : Int) ∧ (0 : Int) ≤ 0 from by decide) gc97 (by decide) (by decide)
                        refine lv_bipush (v := 64) hx hb d_X_opOf_272 (by decide) ?_
                        refine lv_iload hx hb d_X_opOf_274 (lv_at hl 0 rfl) ?_
                        refine lv_imul hx hb d_X_opOf_276 ?_
                        refine lv_topi (fun v100 hv100 => ?_)
                        obtain ⟨ev100, Rv100⟩ : v100.toInt = (64 : Int) * rz96.toInt ∧ (0 ≤ v100.toInt ∧ v100.toInt ≤ 320) := ml3 hv100 (show 64 ≤ (64 : Int32).toInt ∧ (64 : Int32).toInt ≤ 64 from by decide) R99 (by decide) (by decide) (by decide) (by decide) (by decide) (by decide)
                        refine lv_bipush (v := 40) hx hb d_X_opOf_277 (by decide) ?_
                        refine lv_iadd hx hb d_X_opOf_279 ?_
                        refine lv_topi (fun v101 hv101 => ?_)
                        obtain ⟨ev101, Rv101⟩ : v101.toInt = v100.toInt + (40 : Int) ∧ (40 ≤ v101.toInt ∧ v101.toInt ≤ 360) := ad3 hv101 Rv100 (show 40 ≤ (40 : Int32).toInt ∧ (40 : Int32).toInt ≤ 40 from by decide) (by decide) (by decide) (by decide) (by decide)
                        refine lv_iload hx hb d_X_opOf_280 (lv_at hl 2 rfl) ?_
                        refine lv_iadd hx hb d_X_opOf_282 ?_
                        refine lv_topi (fun v102 hv102 => ?_)
                        obtain ⟨ev102, Rv102⟩ : v102.toInt = v101.toInt + rz12.toInt ∧ (40 ≤ v102.toInt ∧ v102.toInt ≤ 367) := ad3 hv102 Rv101 R64 (by decide) (by decide) (by decide) (by decide)
                        refine lv_goto (tgt := 287) hx hb d_X_opOf_283 (by decide) ?_
                        exact W.iret (v := v102) hx hb hr (fun t ht hW => ⟨⟨v102, v102, rfl, rfl, ⟨(rgw Rv102 (by decide) (by decide)), by show va_P D classes _ t.heap; rw [ht]; exact hP, hD⟩⟩, hS.F ht⟩) hS.2.2 d_X_opOf_287
              refine lv_aload_n hx hb d_X_opOf_140 rfl (lv_at hl 3 rfl) ?_
              refine va_get (D := D) (ci := 7) (v := .ref p10) (C := "SignMachineModel") (T := F_X) (N := 64) hx hb hk fi_X hown hK.1 hP 0 rfl rfl 21 (by decide) (hk _ k_1142) (fun _ h9 => h9) rfl d_X_opOf_141 ?_
              refine lv_iload_n hx hb d_X_opOf_144 rfl (lv_at hl 4 rfl) ?_
              refine va_iald hx hb hK.1 hP 10 0 rfl rfl (by rw [vp_in_iff]; omega) d_X_opOf_145 ?_
              refine lv_topi (fun v103 hv103 => ?_)
              refine lv_bipush (v := 83) hx hb d_X_opOf_146 (by decide) ?_
              refine lv_icmp_ne (tgt := 181) hx hb d_X_opOf_148 (by decide) (fun c104 => ?_) (fun c104 => ?_)
              · have gc104 : v103.toInt ≠ (83 : Int) := c_ne c104
                exact CUT181  H _ ls  hP hD hS (lv_sub hl [0, 1, 2, 3, 4, 5] rfl)
              · have gc104 : v103.toInt = (83 : Int) := c_eq c104
                have R105 : 83 ≤ v103.toInt ∧ v103.toInt ≤ 83 := rf_eqX (fr3 v103) (show 83 ≤ (83 : Int) ∧ (83 : Int) ≤ 83 from by decide) gc104 (by decide) (by decide)
                refine lv_aload_n hx hb d_X_opOf_151 rfl (lv_at hl 3 rfl) ?_
                refine va_get (D := D) (ci := 7) (v := .ref p10) (C := "SignMachineModel") (T := F_X) (N := 64) hx hb hk fi_X hown hK.1 hP 0 rfl rfl 21 (by decide) (hk _ k_1142) (fun _ h9 => h9) rfl d_X_opOf_152 ?_
                refine lv_iload_n hx hb d_X_opOf_155 rfl (lv_at hl 4 rfl) ?_
                refine lv_iconst (v := 1) hx hb d_X_opOf_156 (by decide) ?_
                refine lv_iadd hx hb d_X_opOf_157 ?_
                refine lv_topi (fun v106 hv106 => ?_)
                obtain ⟨ev106, Rv106⟩ : v106.toInt = a1.toInt + (1 : Int) ∧ (1 ≤ v106.toInt ∧ v106.toInt ≤ 4001) := ad3 hv106 Q1 (show 1 ≤ (1 : Int32).toInt ∧ (1 : Int32).toInt ≤ 1 from by decide) (by decide) (by decide) (by decide) (by decide)
                refine va_iald hx hb hK.1 hP 10 0 rfl rfl (by rw [vp_in_iff]; omega) d_X_opOf_158 ?_
                refine lv_topi (fun v107 hv107 => ?_)
                refine lv_bipush (v := 84) hx hb d_X_opOf_159 (by decide) ?_
                refine lv_icmp_ne (tgt := 181) hx hb d_X_opOf_161 (by decide) (fun c108 => ?_) (fun c108 => ?_)
                · have gc108 : v107.toInt ≠ (84 : Int) := c_ne c108
                  exact CUT181  H _ ls  hP hD hS (lv_sub hl [0, 1, 2, 3, 4, 5] rfl)
                · have gc108 : v107.toInt = (84 : Int) := c_eq c108
                  have R109 : 84 ≤ v107.toInt ∧ v107.toInt ≤ 84 := rf_eqX (fr3 v107) (show 84 ≤ (84 : Int) ∧ (84 : Int) ≤ 84 from by decide) gc108 (by decide) (by decide)
                  refine lv_iload_n hx hb d_X_opOf_164 rfl (lv_at hl 5 rfl) ?_
                  refine lv_iconst (v := 3) hx hb d_X_opOf_165 (by decide) ?_
                  refine lv_icmp_ne (tgt := 181) hx hb d_X_opOf_166 (by decide) (fun c110 => ?_) (fun c110 => ?_)
                  · have gc110 : a2.toInt ≠ (3 : Int) := c_ne c110
                    have R111 : 4 ≤ a2.toInt ∧ a2.toInt ≤ 8 := rf_neX R6 (show 3 ≤ (3 : Int) ∧ (3 : Int) ≤ 3 from by decide) gc110 (by decide) (by decide)
                    exact CUT181  H _ ls  hP hD hS (lv_sub hl [0, 1, 2, 3, 4, 5] rfl)
                  · have gc110 : a2.toInt = (3 : Int) := c_eq c110
                    have R112 : 3 ≤ a2.toInt ∧ a2.toInt ≤ 3 := rf_eqX R6 (show 3 ≤ (3 : Int) ∧ (3 : Int) ≤ 3 from by decide) gc110 (by decide) (by decide)
                    refine lv_iload hx hb d_X_opOf_169 (lv_at hl 0 rfl) ?_
                    refine lv_if_lt (tgt := 181) hx hb d_X_opOf_171 (by decide) (fun c113 => ?_) (fun c113 => ?_)
                    · have gc113 : rz9.toInt < (0 : Int) := c_lt c113
                      have R114 : (-1) ≤ rz9.toInt ∧ rz9.toInt ≤ (-1) := rf_ltX F0z9 (show 0 ≤ (0 : Int) ∧ (0 : Int) ≤ 0 from by decide) gc113 (by decide) (by decide)
                      exact CUT181  H _ ls  hP hD hS (lv_sub hl [0, 1, 2, 3, 4, 5] rfl)
                    · have gc113 : (0 : Int) ≤ rz9.toInt := c_nlt c113
                      have R115 : 0 ≤ rz9.toInt ∧ rz9.toInt ≤ 7 := rf_geX F0z9 (show 0 ≤ (0 : Int) ∧ (0 : Int) ≤ 0 from by decide) gc113 (by decide) (by decide)
                      refine lv_sipush (v := 344) hx hb d_X_opOf_174 (by decide) ?_
                      refine lv_iload hx hb d_X_opOf_177 (lv_at hl 0 rfl) ?_
                      refine lv_iadd hx hb d_X_opOf_179 ?_
                      refine lv_topi (fun v116 hv116 => ?_)
                      obtain ⟨ev116, Rv116⟩ : v116.toInt = (344 : Int) + rz9.toInt ∧ (344 ≤ v116.toInt ∧ v116.toInt ≤ 351) := ad3 hv116 (show 344 ≤ (344 : Int32).toInt ∧ (344 : Int32).toInt ≤ 344 from by decide) R115 (by decide) (by decide) (by decide) (by decide)
                      exact W.iret (v := v116) hx hb hr (fun t ht hW => ⟨⟨v116, v116, rfl, rfl, ⟨(rgw Rv116 (by decide) (by decide)), by show va_P D classes _ t.heap; rw [ht]; exact hP, hD⟩⟩, hS.F ht⟩) hS.2.2 d_X_opOf_180
            refine lv_aload_n hx hb d_X_opOf_68 rfl (lv_at hl 3 rfl) ?_
            refine va_get (D := D) (ci := 7) (v := .ref p10) (C := "SignMachineModel") (T := F_X) (N := 64) hx hb hk fi_X hown hK.1 hP 0 rfl rfl 21 (by decide) (hk _ k_1142) (fun _ h9 => h9) rfl d_X_opOf_69 ?_
            refine lv_iload_n hx hb d_X_opOf_72 rfl (lv_at hl 4 rfl) ?_
            refine va_iald hx hb hK.1 hP 10 0 rfl rfl (by rw [vp_in_iff]; omega) d_X_opOf_73 ?_
            refine lv_topi (fun v117 hv117 => ?_)
            refine lv_bipush (v := 76) hx hb d_X_opOf_74 (by decide) ?_
            refine lv_icmp_ne (tgt := 140) hx hb d_X_opOf_76 (by decide) (fun c118 => ?_) (fun c118 => ?_)
            · have gc118 : v117.toInt ≠ (76 : Int) := c_ne c118
              exact CUT140  H _ ls  hP hD hS (lv_sub hl [0, 1, 2, 3, 4, 5] rfl)
            · have gc118 : v117.toInt = (76 : Int) := c_eq c118
              have R119 : 76 ≤ v117.toInt ∧ v117.toInt ≤ 76 := rf_eqX (fr3 v117) (show 76 ≤ (76 : Int) ∧ (76 : Int) ≤ 76 from by decide) gc118 (by decide) (by decide)
              refine lv_aload_n hx hb d_X_opOf_79 rfl (lv_at hl 3 rfl) ?_
              refine va_get (D := D) (ci := 7) (v := .ref p10) (C := "SignMachineModel") (T := F_X) (N := 64) hx hb hk fi_X hown hK.1 hP 0 rfl rfl 21 (by decide) (hk _ k_1142) (fun _ h9 => h9) rfl d_X_opOf_80 ?_
              refine lv_iload_n hx hb d_X_opOf_83 rfl (lv_at hl 4 rfl) ?_
              refine lv_iconst (v := 1) hx hb d_X_opOf_84 (by decide) ?_
              refine lv_iadd hx hb d_X_opOf_85 ?_
              refine lv_topi (fun v120 hv120 => ?_)
              obtain ⟨ev120, Rv120⟩ : v120.toInt = a1.toInt + (1 : Int) ∧ (1 ≤ v120.toInt ∧ v120.toInt ≤ 4001) := ad3 hv120 Q1 (show 1 ≤ (1 : Int32).toInt ∧ (1 : Int32).toInt ≤ 1 from by decide) (by decide) (by decide) (by decide) (by decide)
              refine va_iald hx hb hK.1 hP 10 0 rfl rfl (by rw [vp_in_iff]; omega) d_X_opOf_86 ?_
              refine lv_topi (fun v121 hv121 => ?_)
              refine lv_bipush (v := 68) hx hb d_X_opOf_87 (by decide) ?_
              refine lv_icmp_ne (tgt := 140) hx hb d_X_opOf_89 (by decide) (fun c122 => ?_) (fun c122 => ?_)
              · have gc122 : v121.toInt ≠ (68 : Int) := c_ne c122
                exact CUT140  H _ ls  hP hD hS (lv_sub hl [0, 1, 2, 3, 4, 5] rfl)
              · have gc122 : v121.toInt = (68 : Int) := c_eq c122
                have R123 : 68 ≤ v121.toInt ∧ v121.toInt ≤ 68 := rf_eqX (fr3 v121) (show 68 ≤ (68 : Int) ∧ (68 : Int) ≤ 68 from by decide) gc122 (by decide) (by decide)
                refine lv_iload hx hb d_X_opOf_92 (lv_at hl 0 rfl) ?_
                refine lv_if_lt (tgt := 140) hx hb d_X_opOf_94 (by decide) (fun c124 => ?_) (fun c124 => ?_)
                · have gc124 : rz9.toInt < (0 : Int) := c_lt c124
                  have R125 : (-1) ≤ rz9.toInt ∧ rz9.toInt ≤ (-1) := rf_ltX F0z9 (show 0 ≤ (0 : Int) ∧ (0 : Int) ≤ 0 from by decide) gc124 (by decide) (by decide)
                  exact CUT140  H _ ls  hP hD hS (lv_sub hl [0, 1, 2, 3, 4, 5] rfl)
                · have gc124 : (0 : Int) ≤ rz9.toInt := c_nlt c124
                  have R126 : 0 ≤ rz9.toInt ∧ rz9.toInt ≤ 7 := rf_geX F0z9 (show 0 ≤ (0 : Int) ∧ (0 : Int) ≤ 0 from by decide) gc124 (by decide) (by decide)
                  refine lv_iload_n hx hb d_X_opOf_97 rfl (lv_at hl 5 rfl) ?_
                  refine lv_iconst (v := 3) hx hb d_X_opOf_98 (by decide) ?_
                  refine lv_icmp_ne (tgt := 111) hx hb d_X_opOf_99 (by decide) (fun c127 => ?_) (fun c127 => ?_)
                  · have gc127 : a2.toInt ≠ (3 : Int) := c_ne c127
                    have R128 : 4 ≤ a2.toInt ∧ a2.toInt ≤ 8 := rf_neX R6 (show 3 ≤ (3 : Int) ∧ (3 : Int) ≤ 3 from by decide) gc127 (by decide) (by decide)
                    refine lv_iload_n hx hb d_X_opOf_111 rfl (lv_at hl 5 rfl) ?_
                    refine lv_iconst (v := 4) hx hb d_X_opOf_112 (by decide) ?_
                    refine lv_icmp_ne (tgt := 138) hx hb d_X_opOf_113 (by decide) (fun c129 => ?_) (fun c129 => ?_)
                    · have gc129 : a2.toInt ≠ (4 : Int) := c_ne c129
                      have R130 : 5 ≤ a2.toInt ∧ a2.toInt ≤ 8 := rf_neX R128 (show 4 ≤ (4 : Int) ∧ (4 : Int) ≤ 4 from by decide) gc129 (by decide) (by decide)
                      refine lv_iconst (v := (-1)) hx hb d_X_opOf_138 (by decide) ?_
                      exact W.iret (v := (-1 : Int32)) hx hb hr (fun t ht hW => ⟨⟨(-1 : Int32), (-1 : Int32), rfl, rfl, ⟨(by decide), by show va_P D classes _ t.heap; rw [ht]; exact hP, hD⟩⟩, hS.F ht⟩) hS.2.2 d_X_opOf_139
                    · have gc129 : a2.toInt = (4 : Int) := c_eq c129
                      have R131 : 4 ≤ a2.toInt ∧ a2.toInt ≤ 4 := rf_eqX R128 (show 4 ≤ (4 : Int) ∧ (4 : Int) ≤ 4 from by decide) gc129 (by decide) (by decide)
                      refine lv_aload_n hx hb d_X_opOf_116 rfl (lv_at hl 3 rfl) ?_
                      refine va_get (D := D) (ci := 7) (v := .ref p10) (C := "SignMachineModel") (T := F_X) (N := 64) hx hb hk fi_X hown hK.1 hP 0 rfl rfl 21 (by decide) (hk _ k_1142) (fun _ h9 => h9) rfl d_X_opOf_117 ?_
                      refine lv_iload_n hx hb d_X_opOf_120 rfl (lv_at hl 4 rfl) ?_
                      refine lv_iconst (v := 3) hx hb d_X_opOf_121 (by decide) ?_
                      refine lv_iadd hx hb d_X_opOf_122 ?_
                      refine lv_topi (fun v132 hv132 => ?_)
                      obtain ⟨ev132, Rv132⟩ : v132.toInt = a1.toInt + (3 : Int) ∧ (3 ≤ v132.toInt ∧ v132.toInt ≤ 4003) := ad3 hv132 Q1 (show 3 ≤ (3 : Int32).toInt ∧ (3 : Int32).toInt ≤ 3 from by decide) (by decide) (by decide) (by decide) (by decide)
                      refine va_iald hx hb hK.1 hP 10 0 rfl rfl (by rw [vp_in_iff]; omega) d_X_opOf_123 ?_
                      refine lv_topi (fun v133 hv133 => ?_)
                      refine lv_bipush (v := 78) hx hb d_X_opOf_124 (by decide) ?_
                      refine lv_icmp_ne (tgt := 138) hx hb d_X_opOf_126 (by decide) (fun c134 => ?_) (fun c134 => ?_)
                      · have gc134 : v133.toInt ≠ (78 : Int) := c_ne c134
                        refine lv_iconst (v := (-1)) hx hb d_X_opOf_138 (by decide) ?_
                        exact W.iret (v := (-1 : Int32)) hx hb hr (fun t ht hW => ⟨⟨(-1 : Int32), (-1 : Int32), rfl, rfl, ⟨(by decide), by show va_P D classes _ t.heap; rw [ht]; exact hP, hD⟩⟩, hS.F ht⟩) hS.2.2 d_X_opOf_139
                      · have gc134 : v133.toInt = (78 : Int) := c_eq c134
                        have R135 : 78 ≤ v133.toInt ∧ v133.toInt ≤ 78 := rf_eqX (fr3 v133) (show 78 ≤ (78 : Int) ∧ (78 : Int) ≤ 78 from by decide) gc134 (by decide) (by decide)
                        refine lv_sipush (v := 336) hx hb d_X_opOf_129 (by decide) ?_
                        refine lv_iload hx hb d_X_opOf_132 (lv_at hl 0 rfl) ?_
                        refine lv_iadd hx hb d_X_opOf_134 ?_
                        refine lv_topi (fun v136 hv136 => ?_)
                        obtain ⟨ev136, Rv136⟩ : v136.toInt = (336 : Int) + rz9.toInt ∧ (336 ≤ v136.toInt ∧ v136.toInt ≤ 343) := ad3 hv136 (show 336 ≤ (336 : Int32).toInt ∧ (336 : Int32).toInt ≤ 336 from by decide) R126 (by decide) (by decide) (by decide) (by decide)
                        refine lv_goto (tgt := 139) hx hb d_X_opOf_135 (by decide) ?_
                        exact W.iret (v := v136) hx hb hr (fun t ht hW => ⟨⟨v136, v136, rfl, rfl, ⟨(rgw Rv136 (by decide) (by decide)), by show va_P D classes _ t.heap; rw [ht]; exact hP, hD⟩⟩, hS.F ht⟩) hS.2.2 d_X_opOf_139
                  · have gc127 : a2.toInt = (3 : Int) := c_eq c127
                    have R137 : 3 ≤ a2.toInt ∧ a2.toInt ≤ 3 := rf_eqX R6 (show 3 ≤ (3 : Int) ∧ (3 : Int) ≤ 3 from by decide) gc127 (by decide) (by decide)
                    refine lv_sipush (v := 328) hx hb d_X_opOf_102 (by decide) ?_
                    refine lv_iload hx hb d_X_opOf_105 (lv_at hl 0 rfl) ?_
                    refine lv_iadd hx hb d_X_opOf_107 ?_
                    refine lv_topi (fun v138 hv138 => ?_)
                    obtain ⟨ev138, Rv138⟩ : v138.toInt = (328 : Int) + rz9.toInt ∧ (328 ≤ v138.toInt ∧ v138.toInt ≤ 335) := ad3 hv138 (show 328 ≤ (328 : Int32).toInt ∧ (328 : Int32).toInt ≤ 328 from by decide) R126 (by decide) (by decide) (by decide) (by decide)
                    refine lv_goto (tgt := 139) hx hb d_X_opOf_108 (by decide) ?_
                    exact W.iret (v := v138) hx hb hr (fun t ht hW => ⟨⟨v138, v138, rfl, rfl, ⟨(rgw Rv138 (by decide) (by decide)), by show va_P D classes _ t.heap; rw [ht]; exact hP, hD⟩⟩, hS.F ht⟩) hS.2.2 d_X_opOf_139
          · have gc5 : a2.toInt < (3 : Int) := c_nle c5
            have R139 : 0 ≤ a2.toInt ∧ a2.toInt ≤ 2 := rf_ltX Q2 (show 3 ≤ (3 : Int) ∧ (3 : Int) ≤ 3 from by decide) gc5 (by decide) (by decide)
            refine lv_iconst (v := (-1)) hx hb d_X_opOf_53 (by decide) ?_
            exact W.iret (v := (-1 : Int32)) hx hb hr (fun t ht hW => ⟨⟨(-1 : Int32), (-1 : Int32), rfl, rfl, ⟨(by decide), by show va_P D classes _ t.heap; rw [ht]; exact hP, hD⟩⟩, hS.F ht⟩) hS.2.2 d_X_opOf_54
        · have gc3 : rz2.toInt ≠ (-1 : Int) := c_ne c3
          have R140 : 0 ≤ rz2.toInt ∧ rz2.toInt ≤ 615 := rf_neX F0z2 (show (-1) ≤ (-1 : Int) ∧ (-1 : Int) ≤ (-1) from by decide) gc3 (by decide) (by decide)
          refine lv_iload hx hb d_X_opOf_45 (lv_at hl 0 rfl) ?_
          exact W.iret (v := rz2) hx hb hr (fun t ht hW => ⟨⟨rz2, rz2, rfl, rfl, ⟨(rgw R140 (by decide) (by decide)), by show va_P D classes _ t.heap; rw [ht]; exact hP, hD⟩⟩, hS.F ht⟩) hS.2.2 d_X_opOf_47
      · have gc1 : g5l5.toInt < a2.toInt := c_nle c1
        have R141 : 0 ≤ g5l5.toInt ∧ g5l5.toInt ≤ 7 := rf_ltX Rg5l5 Q2 gc1 (by decide) (by decide)
        have R142 : 1 ≤ a2.toInt ∧ a2.toInt ≤ 8 := rf_ltY Rg5l5 Q2 gc1 (by decide) (by decide)
        refine lv_lload_n hx hb d_X_opOf_11 rfl (lv_at hl 1 rfl) ?_
        refine lv_bipush (v := 8) hx hb d_X_opOf_12 (by decide) ?_
        refine lv_lshl (v := (g5l3 <<< (((8 : Int32) : Int32).toInt64 &&& 63))) hx hb d_X_opOf_14 rfl ?_
        refine lv_topl (fun v143 hv143 => ?_)
        refine lv_aload_n hx hb d_X_opOf_15 rfl (lv_at hl 2 rfl) ?_
        refine va_get (D := D) (ci := 7) (v := .ref p10) (C := "SignMachineModel") (T := F_X) (N := 64) hx hb hk fi_X hown hK.1 hP 0 rfl rfl 21 (by decide) (hk _ k_1142) (fun _ h9 => h9) rfl d_X_opOf_16 ?_
        refine lv_iload_n hx hb d_X_opOf_19 rfl (lv_at hl 3 rfl) ?_
        refine lv_iload hx hb d_X_opOf_20 (lv_at hl 0 rfl) ?_
        refine lv_iadd hx hb d_X_opOf_22 ?_
        refine lv_topi (fun v144 hv144 => ?_)
        obtain ⟨ev144, Rv144⟩ : v144.toInt = a1.toInt + g5l5.toInt ∧ (0 ≤ v144.toInt ∧ v144.toInt ≤ 4007) := ad3 hv144 Q1 R141 (by decide) (by decide) (by decide) (by decide)
        refine va_iald hx hb hK.1 hP 10 0 rfl rfl (by rw [vp_in_iff]; omega) d_X_opOf_23 ?_
        refine lv_topi (fun v145 hv145 => ?_)
        refine lv_i2l (v := (v145 : Int32).toInt64) hx hb d_X_opOf_24 rfl ?_
        refine lv_topl (fun v146 hv146 => ?_)
        obtain ⟨ev146, Rv146⟩ : v146.toInt = v145.toInt ∧ ((-2147483648) ≤ v146.toInt ∧ v146.toInt ≤ 2147483647) := il3 hv146 (fr3 v145)
        refine lv_lor hx hb d_X_opOf_25 ?_
        refine lv_topl (fun v147 hv147 => ?_)
        refine lv_lstore_n (lv' := [(3, .long v147), (5, .int g5l5), (0, .ref p0), (1, .int a1), (2, .int a2)]) hx hb d_X_opOf_26 rfl hl (by decide) rfl (fun ls hl => ?_)
        obtain ⟨v148, hv148⟩ : ∃ y : Int32, y = (g5l5 + (1 : Int32)) := ⟨_, rfl⟩
        obtain ⟨ev148, Rv148⟩ : v148.toInt = g5l5.toInt + 1 ∧ (1 ≤ v148.toInt ∧ v148.toInt ≤ 8) := ad3 hv148 R141 (y := (1 : Int32)) (c := 1) (d := 1) (by decide) (by decide) (by decide) (by decide) (by decide)
        refine lv_iinc (v := v148) (lv' := [(5, .int v148), (3, .long v147), (0, .ref p0), (1, .int a1), (2, .int a2)]) hx hb d_X_opOf_27 hl (k := 1) rfl (by rw [hv148]; rfl) (by decide) rfl (fun ls hl => ?_)
        refine lv_goto (tgt := 5) hx hb d_X_opOf_30 (by decide) ?_
        exact ih5 v148 v147 H _ ls (show a2.toInt - v148.toInt < (n : Int) from by omega) (rgw Rv148 (by decide) (by decide)) (show v148.toInt ≤ a2.toInt from by omega) hP hD hS (lv_sub hl [0, 1, 2, 3, 4] rfl)
  exact CUT5 ((a2.toInt - (0 : Int)).toNat + 1) (0 : Int32) (0 : Int64) s.heap _ ls (show (a2.toInt - (0 : Int)) < (((a2.toInt - (0 : Int)).toNat + 1 : Nat) : Int) from by omega) (by decide) (show (0 : Int) ≤ a2.toInt from by omega) hP hD hS (lv_sub hl [0, 1, 2, 3, 4] rfl)
theorem v_X_opOf {R : Room} {s : State} {args : Array Value} {own : String} {index : Nat} (hk : ∀ w ∈ tb, w.before args s = true) (hl : Cond.methodLink own index y_X_opOf ∈ tb) (hR : 1 + 1 ≤ R.frames ∧ 8 + (12 + 11) + 22 ≤ R.locals) : CallW R s args own "SignMachineModel" index y_X_opOf b_X_opOf 12 (some .int) (.code y_X_opOf b_X_opOf 12 (some .int) :: tb) ({ frames := 1, cells := 0, slots := 0, locals := 22 }) 0 0 2 := mk_v 2 hk k_1569 hl k_1568 k_95 k_119 rfl rfl h_X_opOf hR

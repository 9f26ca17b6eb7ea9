set_option maxHeartbeats 8000000 in
set_option maxRecDepth 100000 in
theorem c_X_step (l : Launch) (D : va_G) (cI cJ cZ cB : ClassId) (p0 p1 p2 p3 p4 p5 p6 p7 p8 p9 p10 p11 p12 p13 p14 p15 p16 p17 p18 p19 p20 p21 p22 p23 p24 p25 : Nat) (sz : Nat) (x0_4 : Int32) (x0_5 : Int32) (x0_6 : Int32) (x0_7 : Int32) (x0_8 : Int32) (x0_12 : Int32) (x0_13 : Int32) (x0_14 : Int32) (x0_15 : Int32) (x0_16 : Int32) (x0_17 : Int32) (x0_18 : Int32) (x0_22 : Int32) (x0_23 : Int32) (x0_24 : Int32) (x0_25 : Int32) (x0_26 : Int32) (x0_27 : Int32) (x0_28 : Int32) (x0_29 : Int32) (x0_30 : Int32) (x0_31 : Int32) (x0_32 : Int32) (x0_36 : Int32) (x0_39 : Int32) (x0_40 : Int64) (x0_44 : Int32) (x0_49 : Int32) (x0_51 : Int32) (x0_53 : Int32) (x0_54 : Int32) (x0_55 : Int64) (x0_56 : Int32) (x0_57 : Int32) (x0_58 : Int32) (x0_59 : Int32) (x0_60 : Int32) (x0_61 : Int32) (x0_62 : Int64) (y1 : Nat → Int32) (y2 : Nat → Int32) (y3 : Nat → Int32) (y4 : Nat → Int32) (y5 : Nat → Int32) (y6 : Nat → Int32) (y7 : Nat → Int32) (y8 : Nat → Int32) (y9 : Nat → Int32) (y10 : Nat → Int32) (y11 : Nat → Int64) (y12 : Nat → Int32) (y13 : Nat → Int64) (y14 : Nat → Int32) (y15 : Nat → Int64) (y16 : Nat → Int32) (y17 : Nat → Int32) (y18 : Nat → Int32) (y19 : Nat → Int32) (y20 : Nat → Int32) (y21 : Nat → Int32) (y22 : Nat → Int32) (y23 : Nat → Int32) (y24 : Nat → Int64) (y25 : Nat → Int64)  (Rx0_4 : 0 ≤ x0_4.toInt ∧ x0_4.toInt ≤ 4000) (Rx0_12 : 0 ≤ x0_12.toInt ∧ x0_12.toInt ≤ 63) (Rx0_13 : 0 ≤ x0_13.toInt ∧ x0_13.toInt ≤ 63) (Rx0_14 : 0 ≤ x0_14.toInt ∧ x0_14.toInt ≤ 63) (Rx0_15 : (-8190) ≤ x0_15.toInt ∧ x0_15.toInt ≤ 8190) (Rx0_16 : 0 ≤ x0_16.toInt ∧ x0_16.toInt ≤ 1) (Rx0_17 : 0 ≤ x0_17.toInt ∧ x0_17.toInt ≤ 1) (Rx0_18 : 0 ≤ x0_18.toInt ∧ x0_18.toInt ≤ 1073741823) (Ay1 : ∀ i : Nat, (0 ≤ (y1 i).toInt ∧ (y1 i).toInt ≤ 1)) (Ay2 : ∀ i : Nat, (0 ≤ (y2 i).toInt ∧ (y2 i).toInt ≤ 1073741823)) (Ay3 : ∀ i : Nat, (0 ≤ (y3 i).toInt ∧ (y3 i).toInt ≤ 1)) (Ay4 : ∀ i : Nat, ((0 ≤ (y4 i).toInt ∧ (y4 i).toInt ≤ 1073741823) ∧ ((1 ≤ (i : Int) ∧ (i : Int) ≤ 6) → (y4 i).toInt ≤ 4095))) (Ay5 : ∀ i : Nat, (0 ≤ (y5 i).toInt ∧ (y5 i).toInt ≤ 1)) (Ay6 : ∀ i : Nat, (0 ≤ (y6 i).toInt ∧ (y6 i).toInt ≤ 1073741823)) (Ay7 : ∀ i : Nat, (0 ≤ (y7 i).toInt ∧ (y7 i).toInt ≤ 40)) (Ay8 : ∀ i : Nat, (0 ≤ (y8 i).toInt ∧ (y8 i).toInt ≤ 63)) (Ay9 : ∀ i : Nat, (0 ≤ (y9 i).toInt ∧ (y9 i).toInt ≤ 63)) : Met l y_X_step (.code y_X_step b_X_step 1 (some .int) :: tb) ({ frames := 6, cells := 0, slots := 0, locals := 136 }) (pM D cI cJ cZ cB (wS50 cI cJ cZ cB p0 p1 p2 p3 p4 p5 p6 p7 p8 p9 p10 p11 p12 p13 p14 p15 p16 p17 p18 p19 p20 p21 p22 p23 p24 p25 x0_4 x0_5 x0_6 x0_7 x0_8 x0_12 x0_13 x0_14 x0_15 x0_16 x0_17 x0_18 x0_22 x0_23 x0_24 x0_25 x0_26 x0_27 x0_28 x0_29 x0_30 x0_31 x0_32 x0_36 x0_39 x0_40 x0_44 x0_49 x0_51 x0_53 x0_54 x0_55 x0_56 x0_57 x0_58 x0_59 x0_60 x0_61 x0_62 y1 y2 y3 y4 y5 y6 y7 y8 y9 y10 y11 y12 y13 y14 y15 y16 y17 y18 y19 y20 y21 y22 y23 y24 y25) sz [.ref p0]) (va_Qi (fun r (u : Int32) => r = u) (fun ur t => ∃ u_x0_4 : Int32, ∃ u_x0_5 : Int32, ∃ u_x0_6 : Int32, ∃ u_x0_7 : Int32, ∃ u_x0_8 : Int32, ∃ u_x0_12 : Int32, ∃ u_x0_13 : Int32, ∃ u_x0_14 : Int32, ∃ u_x0_15 : Int32, ∃ u_x0_16 : Int32, ∃ u_x0_17 : Int32, ∃ u_x0_18 : Int32, ∃ u_y1 : Nat → Int32, ∃ u_y2 : Nat → Int32, ∃ u_y3 : Nat → Int32, ∃ u_y4 : Nat → Int32, ∃ u_y5 : Nat → Int32, ∃ u_y6 : Nat → Int32, ∃ u_y7 : Nat → Int32, ∃ u_y8 : Nat → Int32, ∃ u_y9 : Nat → Int32, (0 ≤ u_x0_4.toInt ∧ u_x0_4.toInt ≤ 4000) ∧ (0 ≤ u_x0_12.toInt ∧ u_x0_12.toInt ≤ 63) ∧ (0 ≤ u_x0_13.toInt ∧ u_x0_13.toInt ≤ 63) ∧ (0 ≤ u_x0_14.toInt ∧ u_x0_14.toInt ≤ 63) ∧ ((-8190) ≤ u_x0_15.toInt ∧ u_x0_15.toInt ≤ 8190) ∧ (0 ≤ u_x0_16.toInt ∧ u_x0_16.toInt ≤ 1) ∧ (0 ≤ u_x0_17.toInt ∧ u_x0_17.toInt ≤ 1) ∧ (0 ≤ u_x0_18.toInt ∧ u_x0_18.toInt ≤ 1073741823) ∧ (∀ i : Nat, (0 ≤ (u_y1 i).toInt ∧ (u_y1 i).toInt ≤ 1)) ∧ (∀ i : Nat, (0 ≤ (u_y2 i).toInt ∧ (u_y2 i).toInt ≤ 1073741823)) ∧ (∀ i : Nat, (0 ≤ (u_y3 i).toInt ∧ (u_y3 i).toInt ≤ 1)) ∧ (∀ i : Nat, ((0 ≤ (u_y4 i).toInt ∧ (u_y4 i).toInt ≤ 1073741823) ∧ ((1 ≤ (i : Int) ∧ (i : Int) ≤ 6) → (u_y4 i).toInt ≤ 4095))) ∧ (∀ i : Nat, (0 ≤ (u_y5 i).toInt ∧ (u_y5 i).toInt ≤ 1)) ∧ (∀ i : Nat, (0 ≤ (u_y6 i).toInt ∧ (u_y6 i).toInt ≤ 1073741823)) ∧ (∀ i : Nat, (0 ≤ (u_y7 i).toInt ∧ (u_y7 i).toInt ≤ 40)) ∧ (∀ i : Nat, (0 ≤ (u_y8 i).toInt ∧ (u_y8 i).toInt ≤ 63)) ∧ (∀ i : Nat, (0 ≤ (u_y9 i).toInt ∧ (u_y9 i).toInt ≤ 63)) ∧ va_P D classes (wS50 cI cJ cZ cB p0 p1 p2 p3 p4 p5 p6 p7 p8 p9 p10 p11 p12 p13 p14 p15 p16 p17 p18 p19 p20 p21 p22 p23 p24 p25 u_x0_4 u_x0_5 u_x0_6 u_x0_7 u_x0_8 u_x0_12 u_x0_13 u_x0_14 u_x0_15 u_x0_16 u_x0_17 u_x0_18 x0_22 x0_23 x0_24 x0_25 x0_26 x0_27 x0_28 x0_29 x0_30 x0_31 x0_32 x0_36 x0_39 x0_40 x0_44 x0_49 x0_51 x0_53 x0_54 x0_55 x0_56 x0_57 x0_58 x0_59 x0_60 x0_61 x0_62 u_y1 u_y2 u_y3 u_y4 u_y5 u_y6 u_y7 u_y8 u_y9 y10 y11 y12 y13 y14 y15 y16 y17 y18 y19 y20 y21 y22 y23 y24 y25) t.heap ∧ va_D (va_A (wS50 cI cJ cZ cB p0 p1 p2 p3 p4 p5 p6 p7 p8 p9 p10 p11 p12 p13 p14 p15 p16 p17 p18 p19 p20 p21 p22 p23 p24 p25 x0_4 x0_5 x0_6 x0_7 x0_8 x0_12 x0_13 x0_14 x0_15 x0_16 x0_17 x0_18 x0_22 x0_23 x0_24 x0_25 x0_26 x0_27 x0_28 x0_29 x0_30 x0_31 x0_32 x0_36 x0_39 x0_40 x0_44 x0_49 x0_51 x0_53 x0_54 x0_55 x0_56 x0_57 x0_58 x0_59 x0_60 x0_61 x0_62 y1 y2 y3 y4 y5 y6 y7 y8 y9 y10 y11 y12 y13 y14 y15 y16 y17 y18 y19 y20 y21 y22 y23 y24 y25) sz) (wS50 cI cJ cZ cB p0 p1 p2 p3 p4 p5 p6 p7 p8 p9 p10 p11 p12 p13 p14 p15 p16 p17 p18 p19 p20 p21 p22 p23 p24 p25 u_x0_4 u_x0_5 u_x0_6 u_x0_7 u_x0_8 u_x0_12 u_x0_13 u_x0_14 u_x0_15 u_x0_16 u_x0_17 u_x0_18 x0_22 x0_23 x0_24 x0_25 x0_26 x0_27 x0_28 x0_29 x0_30 x0_31 x0_32 x0_36 x0_39 x0_40 x0_44 x0_49 x0_51 x0_53 x0_54 x0_55 x0_56 x0_57 x0_58 x0_59 x0_60 x0_61 x0_62 u_y1 u_y2 u_y3 u_y4 u_y5 u_y6 u_y7 u_y8 u_y9 y10 y11 y12 y13 y14 y15 y16 y17 y18 y19 y20 y21 y22 y23 y24 y25)) (va_A (wS50 cI cJ cZ cB p0 p1 p2 p3 p4 p5 p6 p7 p8 p9 p10 p11 p12 p13 p14 p15 p16 p17 p18 p19 p20 p21 p22 p23 p24 p25 x0_4 x0_5 x0_6 x0_7 x0_8 x0_12 x0_13 x0_14 x0_15 x0_16 x0_17 x0_18 x0_22 x0_23 x0_24 x0_25 x0_26 x0_27 x0_28 x0_29 x0_30 x0_31 x0_32 x0_36 x0_39 x0_40 x0_44 x0_49 x0_51 x0_53 x0_54 x0_55 x0_56 x0_57 x0_58 x0_59 x0_60 x0_61 x0_62 y1 y2 y3 y4 y5 y6 y7 y8 y9 y10 y11 y12 y13 y14 y15 y16 y17 y18 y19 y20 y21 y22 y23 y24 y25) sz)) 0 0 (va_A (wS50 cI cJ cZ cB p0 p1 p2 p3 p4 p5 p6 p7 p8 p9 p10 p11 p12 p13 p14 p15 p16 p17 p18 p19 p20 p21 p22 p23 p24 p25 x0_4 x0_5 x0_6 x0_7 x0_8 x0_12 x0_13 x0_14 x0_15 x0_16 x0_17 x0_18 x0_22 x0_23 x0_24 x0_25 x0_26 x0_27 x0_28 x0_29 x0_30 x0_31 x0_32 x0_36 x0_39 x0_40 x0_44 x0_49 x0_51 x0_53 x0_54 x0_55 x0_56 x0_57 x0_58 x0_59 x0_60 x0_61 x0_62 y1 y2 y3 y4 y5 y6 y7 y8 y9 y10 y11 y12 y13 y14 y15 y16 y17 y18 y19 y20 y21 y22 y23 y24 y25) sz) := by
  refine Met.ofW (cc := b_X_step) (maxL := 1) (ret := (some .int)) (by decide) rfl ?_
  intro p e s m args below meth c s₁ B hml hv
  obtain ⟨rfl, hsz, hK, hP, hD0⟩ := hv
  subst hsz
  have hD := hD0.self (sz := s.heap.size)
  generalize hAe : va_A (wS50 cI cJ cZ cB p0 p1 p2 p3 p4 p5 p6 p7 p8 p9 p10 p11 p12 p13 p14 p15 p16 p17 p18 p19 p20 p21 p22 p23 p24 p25 x0_4 x0_5 x0_6 x0_7 x0_8 x0_12 x0_13 x0_14 x0_15 x0_16 x0_17 x0_18 x0_22 x0_23 x0_24 x0_25 x0_26 x0_27 x0_28 x0_29 x0_30 x0_31 x0_32 x0_36 x0_39 x0_40 x0_44 x0_49 x0_51 x0_53 x0_54 x0_55 x0_56 x0_57 x0_58 x0_59 x0_60 x0_61 x0_62 y1 y2 y3 y4 y5 y6 y7 y8 y9 y10 y11 y12 y13 y14 y15 y16 y17 y18 y19 y20 y21 y22 y23 y24 y25) s.heap.size = A at hD ⊢
  have hA : ∀ q : Nat, s.heap.size ≤ q → A q := fun q h => by rw [← hAe]; exact Or.inr h
  clear hAe hD0
  have hS : va_S A s.heap s.heap [] := va_S.rf
  have hx := B.exec
  have hb := B.bytes
  have hr := B.returns
  have hts := atoms_spec (ws := .code y_X_step b_X_step 1 (some .int) :: tb) B.pre
  have hk : ∀ w ∈ tb, w.before [.ref p0].toArray s = true := fun w h => hts w (List.mem_cons_of_mem _ h)
  have hown : s.vm.findClass "SignMachineModel" = some m.cls := findClass_of_methodNamed B.named
  have hlocks := B.notSynchronized
  have hl := lv_entry ([.ref p0]) (n := 1) (Nat.le_of_ble_eq_true rfl)
  rw [lg_entry_eq]
  generalize (lg_sl ([.ref p0]) ++ List.replicate (1 - (lg_sl ([.ref p0])).length) Slot.unset).toArray = ls at hl ⊢
  have hl : lv_has ls 1 [(0, .ref p0)] := hl
  clear hts B
  refine lv_aload_n hx hb d_X_step_0 rfl (lv_at hl 0 rfl) ?_
  refine lv_aload_n hx hb d_X_step_1 rfl (lv_at hl 0 rfl) ?_
  refine sn_i (va_runV (C := "SignMachineModel") (As := []) (rest := [.ref p0]) ⟨hx, hb, hml, hown, hk⟩ (c_X_one l D cI cJ cZ cB p0 p1 p2 p3 p4 p5 p6 p7 p8 p9 p10 p11 p12 p13 p14 p15 p16 p17 p18 p19 p20 p21 p22 p23 p24 p25 s.heap.size x0_4 x0_5 x0_6 x0_7 x0_8 x0_12 x0_13 x0_14 x0_15 x0_16 x0_17 x0_18 x0_22 x0_23 x0_24 x0_25 x0_26 x0_27 x0_28 x0_29 x0_30 x0_31 x0_32 x0_36 x0_39 x0_40 x0_44 x0_49 x0_51 x0_53 x0_54 x0_55 x0_56 x0_57 x0_58 x0_59 x0_60 x0_61 x0_62 y1 y2 y3 y4 y5 y6 y7 y8 y9 y10 y11 y12 y13 y14 y15 y16 y17 y18 y19 y20 y21 y22 y23 y24 y25  Rx0_4 Rx0_12 Rx0_13 Rx0_14 Rx0_15 Rx0_16 Rx0_17 Rx0_18 Ay1 Ay2 Ay3 Ay4 Ay5 Ay6 Ay7 Ay8 Ay9) (v_X_one hk k_1368 ⟨Nat.le_of_ble_eq_true rfl, Nat.le_of_ble_eq_true rfl⟩) (pM_v hK hP hD (ci := 7) (q0 := 0) rfl rfl rfl) rfl rfl hl.1 rfl (lv_room (Nat.le_of_ble_eq_true rfl)) d_X_step_2 ⟨Nat.le_of_ble_eq_true rfl, Nat.le_of_ble_eq_true rfl⟩) hS hA hD (fun rz1 u t H locs hr0 ht hB hFr hS => ?_)
  subst hr0
  obtain ⟨x0_4z1, x0_5z1, x0_6z1, x0_7z1, x0_12z1, x0_13z1, x0_14z1, x0_15z1, x0_16z1, x0_17z1, x0_18z1, y1z1, y2z1, y3z1, y4z1, y5z1, y6z1, y7z1, y8z1, y9z1, Rx0_4z1, Rx0_12z1, Rx0_13z1, Rx0_14z1, Rx0_15z1, Rx0_16z1, Rx0_17z1, Rx0_18z1, Ay1z1, Ay2z1, Ay3z1, Ay4z1, Ay5z1, Ay6z1, Ay7z1, Ay8z1, Ay9z1, F0z1, hP, hD⟩ := hB
  have F0z1 : 0 ≤ rz1.toInt ∧ rz1.toInt ≤ 5 := F0z1
  rw [ht] at hP
  have hD := dwk hD hFr
  clear ht hFr
  have hP : va_P D classes (wS50 cI cJ cZ cB p0 p1 p2 p3 p4 p5 p6 p7 p8 p9 p10 p11 p12 p13 p14 p15 p16 p17 p18 p19 p20 p21 p22 p23 p24 p25 x0_4z1 x0_5z1 x0_6z1 x0_7z1 x0_8 x0_12z1 x0_13z1 x0_14z1 x0_15z1 x0_16z1 x0_17z1 x0_18z1 x0_22 x0_23 x0_24 x0_25 x0_26 x0_27 x0_28 x0_29 x0_30 x0_31 x0_32 x0_36 x0_39 x0_40 x0_44 x0_49 x0_51 x0_53 x0_54 x0_55 x0_56 x0_57 x0_58 x0_59 x0_60 x0_61 x0_62 y1z1 y2z1 y3z1 y4z1 y5z1 y6z1 y7z1 y8z1 y9z1 y10 y11 y12 y13 y14 y15 y16 y17 y18 y19 y20 y21 y22 y23 y24 y25) H := hP
  have hD : va_D A (wS50 cI cJ cZ cB p0 p1 p2 p3 p4 p5 p6 p7 p8 p9 p10 p11 p12 p13 p14 p15 p16 p17 p18 p19 p20 p21 p22 p23 p24 p25 x0_4z1 x0_5z1 x0_6z1 x0_7z1 x0_8 x0_12z1 x0_13z1 x0_14z1 x0_15z1 x0_16z1 x0_17z1 x0_18z1 x0_22 x0_23 x0_24 x0_25 x0_26 x0_27 x0_28 x0_29 x0_30 x0_31 x0_32 x0_36 x0_39 x0_40 x0_44 x0_49 x0_51 x0_53 x0_54 x0_55 x0_56 x0_57 x0_58 x0_59 x0_60 x0_61 x0_62 y1z1 y2z1 y3z1 y4z1 y5z1 y6z1 y7z1 y8z1 y9z1 y10 y11 y12 y13 y14 y15 y16 y17 y18 y19 y20 y21 y22 y23 y24 y25) := hD
  refine va_put (D := D) (ci := 7) (v := .int rz1) (ty := .int) (C := "SignMachineModel") (T := F_X) (N := 64) hx hb hk fi_X ft_X ft_X_ok fn_X hown hK.1 hP hD hS 0 rfl rfl 8 (by decide) (hk _ k_1129) (fun _ h9 => h9) rfl (by decide +kernel) rfl rfl (Nat.le_of_ble_eq_true rfl) d_X_step_5 (fun H locs hP hD hS => ?_)
  have hP : va_P D classes (wS50 cI cJ cZ cB p0 p1 p2 p3 p4 p5 p6 p7 p8 p9 p10 p11 p12 p13 p14 p15 p16 p17 p18 p19 p20 p21 p22 p23 p24 p25 x0_4z1 x0_5z1 x0_6z1 x0_7z1 rz1 x0_12z1 x0_13z1 x0_14z1 x0_15z1 x0_16z1 x0_17z1 x0_18z1 x0_22 x0_23 x0_24 x0_25 x0_26 x0_27 x0_28 x0_29 x0_30 x0_31 x0_32 x0_36 x0_39 x0_40 x0_44 x0_49 x0_51 x0_53 x0_54 x0_55 x0_56 x0_57 x0_58 x0_59 x0_60 x0_61 x0_62 y1z1 y2z1 y3z1 y4z1 y5z1 y6z1 y7z1 y8z1 y9z1 y10 y11 y12 y13 y14 y15 y16 y17 y18 y19 y20 y21 y22 y23 y24 y25) H := hP
  have hD : va_D A (wS50 cI cJ cZ cB p0 p1 p2 p3 p4 p5 p6 p7 p8 p9 p10 p11 p12 p13 p14 p15 p16 p17 p18 p19 p20 p21 p22 p23 p24 p25 x0_4z1 x0_5z1 x0_6z1 x0_7z1 rz1 x0_12z1 x0_13z1 x0_14z1 x0_15z1 x0_16z1 x0_17z1 x0_18z1 x0_22 x0_23 x0_24 x0_25 x0_26 x0_27 x0_28 x0_29 x0_30 x0_31 x0_32 x0_36 x0_39 x0_40 x0_44 x0_49 x0_51 x0_53 x0_54 x0_55 x0_56 x0_57 x0_58 x0_59 x0_60 x0_61 x0_62 y1z1 y2z1 y3z1 y4z1 y5z1 y6z1 y7z1 y8z1 y9z1 y10 y11 y12 y13 y14 y15 y16 y17 y18 y19 y20 y21 y22 y23 y24 y25) := hD
  refine lv_aload_n hx hb d_X_step_8 rfl (lv_at hl 0 rfl) ?_
  refine va_get (D := D) (ci := 7) (v := .int rz1) (C := "SignMachineModel") (T := F_X) (N := 64) hx hb hk fi_X hown hK.1 hP 0 rfl rfl 8 (by decide) (hk _ k_1129) (fun _ h9 => h9) rfl d_X_step_9 ?_
  exact W.iret (v := rz1) hx hb hr (fun t ht hW => ⟨⟨rz1, rz1, rfl, rfl, ⟨x0_4z1, x0_5z1, x0_6z1, x0_7z1, rz1, x0_12z1, x0_13z1, x0_14z1, x0_15z1, x0_16z1, x0_17z1, x0_18z1, y1z1, y2z1, y3z1, y4z1, y5z1, y6z1, y7z1, y8z1, y9z1, Rx0_4z1, Rx0_12z1, Rx0_13z1, Rx0_14z1, Rx0_15z1, Rx0_16z1, Rx0_17z1, Rx0_18z1, Ay1z1, Ay2z1, Ay3z1, Ay4z1, Ay5z1, Ay6z1, Ay7z1, Ay8z1, Ay9z1, by show va_P D classes _ t.heap; rw [ht]; exact hP, hD⟩⟩, hS.F ht⟩) hS.2.2 d_X_step_12
theorem v_X_step {R : Room} {s : State} {args : Array Value} {own : String} {index : Nat} (hk : ∀ w ∈ tb, w.before args s = true) (hl : Cond.methodLink own index y_X_step ∈ tb) (hR : 6 + 1 ≤ R.frames ∧ 8 + (1 + 11) + 136 ≤ R.locals) : CallW R s args own "SignMachineModel" index y_X_step b_X_step 1 (some .int) (.code y_X_step b_X_step 1 (some .int) :: tb) ({ frames := 6, cells := 0, slots := 0, locals := 136 }) 0 0 0 := mk_v 0 hk k_1367 hl k_1365 k_1366 k_119 rfl rfl h_X_step hR
set_option maxHeartbeats 8000000 in
set_option maxRecDepth 100000 in
theorem c_X_run (l : Launch) (D : va_G) (cI cJ cZ cB : ClassId) (p0 p1 p2 p3 p4 p5 p6 p7 p8 p9 p10 p11 p12 p13 p14 p15 p16 p17 p18 p19 p20 p21 p22 p23 p24 p25 : Nat) (sz : Nat) (x0_4 : Int32) (x0_5 : Int32) (x0_6 : Int32) (x0_7 : Int32) (x0_8 : Int32) (x0_12 : Int32) (x0_13 : Int32) (x0_14 : Int32) (x0_15 : Int32) (x0_16 : Int32) (x0_17 : Int32) (x0_18 : Int32) (x0_22 : Int32) (x0_23 : Int32) (x0_24 : Int32) (x0_25 : Int32) (x0_26 : Int32) (x0_27 : Int32) (x0_28 : Int32) (x0_29 : Int32) (x0_30 : Int32) (x0_31 : Int32) (x0_32 : Int32) (x0_36 : Int32) (x0_39 : Int32) (x0_40 : Int64) (x0_44 : Int32) (x0_49 : Int32) (x0_51 : Int32) (x0_53 : Int32) (x0_54 : Int32) (x0_55 : Int64) (x0_56 : Int32) (x0_57 : Int32) (x0_58 : Int32) (x0_59 : Int32) (x0_60 : Int32) (x0_61 : Int32) (x0_62 : Int64) (y1 : Nat → Int32) (y2 : Nat → Int32) (y3 : Nat → Int32) (y4 : Nat → Int32) (y5 : Nat → Int32) (y6 : Nat → Int32) (y7 : Nat → Int32) (y8 : Nat → Int32) (y9 : Nat → Int32) (y10 : Nat → Int32) (y11 : Nat → Int64) (y12 : Nat → Int32) (y13 : Nat → Int64) (y14 : Nat → Int32) (y15 : Nat → Int64) (y16 : Nat → Int32) (y17 : Nat → Int32) (y18 : Nat → Int32) (y19 : Nat → Int32) (y20 : Nat → Int32) (y21 : Nat → Int32) (y22 : Nat → Int32) (y23 : Nat → Int32) (y24 : Nat → Int64) (y25 : Nat → Int64) (a1 : Int32) (Rx0_4 : 0 ≤ x0_4.toInt ∧ x0_4.toInt ≤ 4000) (Rx0_12 : 0 ≤ x0_12.toInt ∧ x0_12.toInt ≤ 63) (Rx0_13 : 0 ≤ x0_13.toInt ∧ x0_13.toInt ≤ 63) (Rx0_14 : 0 ≤ x0_14.toInt ∧ x0_14.toInt ≤ 63) (Rx0_15 : (-8190) ≤ x0_15.toInt ∧ x0_15.toInt ≤ 8190) (Rx0_16 : 0 ≤ x0_16.toInt ∧ x0_16.toInt ≤ 1) (Rx0_17 : 0 ≤ x0_17.toInt ∧ x0_17.toInt ≤ 1) (Rx0_18 : 0 ≤ x0_18.toInt ∧ x0_18.toInt ≤ 1073741823) (Ay1 : ∀ i : Nat, (0 ≤ (y1 i).toInt ∧ (y1 i).toInt ≤ 1)) (Ay2 : ∀ i : Nat, (0 ≤ (y2 i).toInt ∧ (y2 i).toInt ≤ 1073741823)) (Ay3 : ∀ i : Nat, (0 ≤ (y3 i).toInt ∧ (y3 i).toInt ≤ 1)) (Ay4 : ∀ i : Nat, ((0 ≤ (y4 i).toInt ∧ (y4 i).toInt ≤ 1073741823) ∧ ((1 ≤ (i : Int) ∧ (i : Int) ≤ 6) → (y4 i).toInt ≤ 4095))) (Ay5 : ∀ i : Nat, (0 ≤ (y5 i).toInt ∧ (y5 i).toInt ≤ 1)) (Ay6 : ∀ i : Nat, (0 ≤ (y6 i).toInt ∧ (y6 i).toInt ≤ 1073741823)) (Ay7 : ∀ i : Nat, (0 ≤ (y7 i).toInt ∧ (y7 i).toInt ≤ 40)) (Ay8 : ∀ i : Nat, (0 ≤ (y8 i).toInt ∧ (y8 i).toInt ≤ 63)) (Ay9 : ∀ i : Nat, (0 ≤ (y9 i).toInt ∧ (y9 i).toInt ≤ 63)) : Met l y_X_run (.code y_X_run b_X_run 3 (some .int) :: tb) ({ frames := 6, cells := 0, slots := 0, locals := 136 }) (pM D cI cJ cZ cB (wS50 cI cJ cZ cB p0 p1 p2 p3 p4 p5 p6 p7 p8 p9 p10 p11 p12 p13 p14 p15 p16 p17 p18 p19 p20 p21 p22 p23 p24 p25 x0_4 x0_5 x0_6 x0_7 x0_8 x0_12 x0_13 x0_14 x0_15 x0_16 x0_17 x0_18 x0_22 x0_23 x0_24 x0_25 x0_26 x0_27 x0_28 x0_29 x0_30 x0_31 x0_32 x0_36 x0_39 x0_40 x0_44 x0_49 x0_51 x0_53 x0_54 x0_55 x0_56 x0_57 x0_58 x0_59 x0_60 x0_61 x0_62 y1 y2 y3 y4 y5 y6 y7 y8 y9 y10 y11 y12 y13 y14 y15 y16 y17 y18 y19 y20 y21 y22 y23 y24 y25) sz [.ref p0, .int a1]) (va_Qi (fun r (u : Int32) => r = u) (fun ur t => ∃ u_x0_4 : Int32, ∃ u_x0_5 : Int32, ∃ u_x0_6 : Int32, ∃ u_x0_7 : Int32, ∃ u_x0_8 : Int32, ∃ u_x0_12 : Int32, ∃ u_x0_13 : Int32, ∃ u_x0_14 : Int32, ∃ u_x0_15 : Int32, ∃ u_x0_16 : Int32, ∃ u_x0_17 : Int32, ∃ u_x0_18 : Int32, ∃ u_y1 : Nat → Int32, ∃ u_y2 : Nat → Int32, ∃ u_y3 : Nat → Int32, ∃ u_y4 : Nat → Int32, ∃ u_y5 : Nat → Int32, ∃ u_y6 : Nat → Int32, ∃ u_y7 : Nat → Int32, ∃ u_y8 : Nat → Int32, ∃ u_y9 : Nat → Int32, (0 ≤ u_x0_4.toInt ∧ u_x0_4.toInt ≤ 4000) ∧ (0 ≤ u_x0_12.toInt ∧ u_x0_12.toInt ≤ 63) ∧ (0 ≤ u_x0_13.toInt ∧ u_x0_13.toInt ≤ 63) ∧ (0 ≤ u_x0_14.toInt ∧ u_x0_14.toInt ≤ 63) ∧ ((-8190) ≤ u_x0_15.toInt ∧ u_x0_15.toInt ≤ 8190) ∧ (0 ≤ u_x0_16.toInt ∧ u_x0_16.toInt ≤ 1) ∧ (0 ≤ u_x0_17.toInt ∧ u_x0_17.toInt ≤ 1) ∧ (0 ≤ u_x0_18.toInt ∧ u_x0_18.toInt ≤ 1073741823) ∧ (∀ i : Nat, (0 ≤ (u_y1 i).toInt ∧ (u_y1 i).toInt ≤ 1)) ∧ (∀ i : Nat, (0 ≤ (u_y2 i).toInt ∧ (u_y2 i).toInt ≤ 1073741823)) ∧ (∀ i : Nat, (0 ≤ (u_y3 i).toInt ∧ (u_y3 i).toInt ≤ 1)) ∧ (∀ i : Nat, ((0 ≤ (u_y4 i).toInt ∧ (u_y4 i).toInt ≤ 1073741823) ∧ ((1 ≤ (i : Int) ∧ (i : Int) ≤ 6) → (u_y4 i).toInt ≤ 4095))) ∧ (∀ i : Nat, (0 ≤ (u_y5 i).toInt ∧ (u_y5 i).toInt ≤ 1)) ∧ (∀ i : Nat, (0 ≤ (u_y6 i).toInt ∧ (u_y6 i).toInt ≤ 1073741823)) ∧ (∀ i : Nat, (0 ≤ (u_y7 i).toInt ∧ (u_y7 i).toInt ≤ 40)) ∧ (∀ i : Nat, (0 ≤ (u_y8 i).toInt ∧ (u_y8 i).toInt ≤ 63)) ∧ (∀ i : Nat, (0 ≤ (u_y9 i).toInt ∧ (u_y9 i).toInt ≤ 63)) ∧ va_P D classes (wS50 cI cJ cZ cB p0 p1 p2 p3 p4 p5 p6 p7 p8 p9 p10 p11 p12 p13 p14 p15 p16 p17 p18 p19 p20 p21 p22 p23 p24 p25 u_x0_4 u_x0_5 u_x0_6 u_x0_7 u_x0_8 u_x0_12 u_x0_13 u_x0_14 u_x0_15 u_x0_16 u_x0_17 u_x0_18 x0_22 x0_23 x0_24 x0_25 x0_26 x0_27 x0_28 x0_29 x0_30 x0_31 x0_32 x0_36 x0_39 x0_40 x0_44 x0_49 x0_51 x0_53 x0_54 x0_55 x0_56 x0_57 x0_58 x0_59 x0_60 x0_61 x0_62 u_y1 u_y2 u_y3 u_y4 u_y5 u_y6 u_y7 u_y8 u_y9 y10 y11 y12 y13 y14 y15 y16 y17 y18 y19 y20 y21 y22 y23 y24 y25) t.heap ∧ va_D (va_A (wS50 cI cJ cZ cB p0 p1 p2 p3 p4 p5 p6 p7 p8 p9 p10 p11 p12 p13 p14 p15 p16 p17 p18 p19 p20 p21 p22 p23 p24 p25 x0_4 x0_5 x0_6 x0_7 x0_8 x0_12 x0_13 x0_14 x0_15 x0_16 x0_17 x0_18 x0_22 x0_23 x0_24 x0_25 x0_26 x0_27 x0_28 x0_29 x0_30 x0_31 x0_32 x0_36 x0_39 x0_40 x0_44 x0_49 x0_51 x0_53 x0_54 x0_55 x0_56 x0_57 x0_58 x0_59 x0_60 x0_61 x0_62 y1 y2 y3 y4 y5 y6 y7 y8 y9 y10 y11 y12 y13 y14 y15 y16 y17 y18 y19 y20 y21 y22 y23 y24 y25) sz) (wS50 cI cJ cZ cB p0 p1 p2 p3 p4 p5 p6 p7 p8 p9 p10 p11 p12 p13 p14 p15 p16 p17 p18 p19 p20 p21 p22 p23 p24 p25 u_x0_4 u_x0_5 u_x0_6 u_x0_7 u_x0_8 u_x0_12 u_x0_13 u_x0_14 u_x0_15 u_x0_16 u_x0_17 u_x0_18 x0_22 x0_23 x0_24 x0_25 x0_26 x0_27 x0_28 x0_29 x0_30 x0_31 x0_32 x0_36 x0_39 x0_40 x0_44 x0_49 x0_51 x0_53 x0_54 x0_55 x0_56 x0_57 x0_58 x0_59 x0_60 x0_61 x0_62 u_y1 u_y2 u_y3 u_y4 u_y5 u_y6 u_y7 u_y8 u_y9 y10 y11 y12 y13 y14 y15 y16 y17 y18 y19 y20 y21 y22 y23 y24 y25)) (va_A (wS50 cI cJ cZ cB p0 p1 p2 p3 p4 p5 p6 p7 p8 p9 p10 p11 p12 p13 p14 p15 p16 p17 p18 p19 p20 p21 p22 p23 p24 p25 x0_4 x0_5 x0_6 x0_7 x0_8 x0_12 x0_13 x0_14 x0_15 x0_16 x0_17 x0_18 x0_22 x0_23 x0_24 x0_25 x0_26 x0_27 x0_28 x0_29 x0_30 x0_31 x0_32 x0_36 x0_39 x0_40 x0_44 x0_49 x0_51 x0_53 x0_54 x0_55 x0_56 x0_57 x0_58 x0_59 x0_60 x0_61 x0_62 y1 y2 y3 y4 y5 y6 y7 y8 y9 y10 y11 y12 y13 y14 y15 y16 y17 y18 y19 y20 y21 y22 y23 y24 y25) sz)) 0 0 (va_A (wS50 cI cJ cZ cB p0 p1 p2 p3 p4 p5 p6 p7 p8 p9 p10 p11 p12 p13 p14 p15 p16 p17 p18 p19 p20 p21 p22 p23 p24 p25 x0_4 x0_5 x0_6 x0_7 x0_8 x0_12 x0_13 x0_14 x0_15 x0_16 x0_17 x0_18 x0_22 x0_23 x0_24 x0_25 x0_26 x0_27 x0_28 x0_29 x0_30 x0_31 x0_32 x0_36 x0_39 x0_40 x0_44 x0_49 x0_51 x0_53 x0_54 x0_55 x0_56 x0_57 x0_58 x0_59 x0_60 x0_61 x0_62 y1 y2 y3 y4 y5 y6 y7 y8 y9 y10 y11 y12 y13 y14 y15 y16 y17 y18 y19 y20 y21 y22 y23 y24 y25) sz) := by
  refine Met.ofW (cc := b_X_run) (maxL := 3) (ret := (some .int)) (by decide) rfl ?_
  intro p e s m args below meth c s₁ B hml hv
  obtain ⟨rfl, hsz, hK, hP, hD0⟩ := hv
  subst hsz
  have hD := hD0.self (sz := s.heap.size)
  generalize hAe : va_A (wS50 cI cJ cZ cB p0 p1 p2 p3 p4 p5 p6 p7 p8 p9 p10 p11 p12 p13 p14 p15 p16 p17 p18 p19 p20 p21 p22 p23 p24 p25 x0_4 x0_5 x0_6 x0_7 x0_8 x0_12 x0_13 x0_14 x0_15 x0_16 x0_17 x0_18 x0_22 x0_23 x0_24 x0_25 x0_26 x0_27 x0_28 x0_29 x0_30 x0_31 x0_32 x0_36 x0_39 x0_40 x0_44 x0_49 x0_51 x0_53 x0_54 x0_55 x0_56 x0_57 x0_58 x0_59 x0_60 x0_61 x0_62 y1 y2 y3 y4 y5 y6 y7 y8 y9 y10 y11 y12 y13 y14 y15 y16 y17 y18 y19 y20 y21 y22 y23 y24 y25) s.heap.size = A at hD ⊢
  have hA : ∀ q : Nat, s.heap.size ≤ q → A q := fun q h => by rw [← hAe]; exact Or.inr h
  clear hAe hD0
  have hS : va_S A s.heap s.heap [] := va_S.rf
  have hx := B.exec
  have hb := B.bytes
  have hr := B.returns
  have hts := atoms_spec (ws := .code y_X_run b_X_run 3 (some .int) :: tb) B.pre
  have hk : ∀ w ∈ tb, w.before [.ref p0, .int a1].toArray s = true := fun w h => hts w (List.mem_cons_of_mem _ h)
  have hown : s.vm.findClass "SignMachineModel" = some m.cls := findClass_of_methodNamed B.named
  have hlocks := B.notSynchronized
  have hl := lv_entry ([.ref p0, .int a1]) (n := 3) (Nat.le_of_ble_eq_true rfl)
  rw [lg_entry_eq]
  generalize (lg_sl ([.ref p0, .int a1]) ++ List.replicate (3 - (lg_sl ([.ref p0, .int a1])).length) Slot.unset).toArray = ls at hl ⊢
  have hl : lv_has ls 3 [(0, .ref p0), (1, .int a1)] := hl
  clear hts B
  refine lv_iload_n hx hb d_X_run_0 rfl (lv_at hl 1 rfl) ?_
  refine lv_i2l (v := (a1 : Int32).toInt64) hx hb d_X_run_1 rfl ?_
  refine lv_topl (fun v1 hv1 => ?_)
  obtain ⟨ev1, Rv1⟩ : v1.toInt = a1.toInt ∧ ((-2147483648) ≤ v1.toInt ∧ v1.toInt ≤ 2147483647) := il3 hv1 (fr3 a1)
  refine lv_lconst (v := 1) hx hb d_X_run_2 (by decide) ?_
  refine lv_ldc2 (v := 20000) hx hb hown (hk _ k_1507) d_X_run_3 ?_
  refine vp_callSi (W.runS (As := [.long v1, .long (1 : Int64), .long (20000 : Int64)]) (rest := []) ⟨hx, hb, hml, hown, hk⟩ (c_X_isIn l v1 (1 : Int64) (20000 : Int64) ) (s_X_isIn hk k_1319 ⟨Nat.le_of_ble_eq_true rfl, Nat.le_of_ble_eq_true rfl⟩) ⟨fun a U g mk q => q, fun U hU hW => ⟨rfl, trivial⟩⟩ rfl rfl hl.1 rfl (lv_room (Nat.le_of_ble_eq_true rfl)) d_X_run_6 ⟨Nat.le_of_ble_eq_true rfl, Nat.le_of_ble_eq_true rfl⟩) (fun rz2 hrz2 => ?_)
  obtain ⟨F0z2, F1z2, F2z2⟩ := hrz2
  have F0z2 : 0 ≤ rz2.toInt ∧ rz2.toInt ≤ 1 := F0z2
  have F1z2 : rz2.toInt = 1 → (1 ≤ v1.toInt ∧ v1.toInt ≤ 20000) := F1z2
  have F2z2 : rz2.toInt = 0 → (v1.toInt < 1 ∨ 20000 < v1.toInt) := F2z2
  refine lv_if_ne (tgt := 14) hx hb d_X_run_9 (by decide) (fun c3 => ?_) (fun c3 => ?_)
  · have gc3 : rz2.toInt ≠ 0 := c_ne c3
    have R4 : 1 ≤ rz2.toInt ∧ rz2.toInt ≤ 1 := by omega
    refine lv_iconst (v := 0) hx hb d_X_run_14 (by decide) ?_
    refine lv_istore_n (lv' := [(2, .int (0 : Int32)), (0, .ref p0), (1, .int a1)]) hx hb d_X_run_15 rfl hl (by decide) rfl (fun ls hl => ?_)
    refine lv_aload_n hx hb d_X_run_16 rfl (lv_at hl 1 rfl) ?_
    refine lv_iconst (v := 0) hx hb d_X_run_17 (by decide) ?_
    refine va_put (D := D) (ci := 7) (v := .int (0 : Int32)) (ty := .int) (C := "SignMachineModel") (T := F_X) (N := 64) hx hb hk fi_X ft_X ft_X_ok fn_X hown hK.1 hP hD hS 0 rfl rfl 8 (by decide) (hk _ k_1129) (fun _ h9 => h9) rfl (by decide +kernel) rfl rfl (Nat.le_of_ble_eq_true rfl) d_X_run_18 (fun H locs hP hD hS => ?_)
    have hP : va_P D classes (wS50 cI cJ cZ cB p0 p1 p2 p3 p4 p5 p6 p7 p8 p9 p10 p11 p12 p13 p14 p15 p16 p17 p18 p19 p20 p21 p22 p23 p24 p25 x0_4 x0_5 x0_6 x0_7 (0 : Int32) x0_12 x0_13 x0_14 x0_15 x0_16 x0_17 x0_18 x0_22 x0_23 x0_24 x0_25 x0_26 x0_27 x0_28 x0_29 x0_30 x0_31 x0_32 x0_36 x0_39 x0_40 x0_44 x0_49 x0_51 x0_53 x0_54 x0_55 x0_56 x0_57 x0_58 x0_59 x0_60 x0_61 x0_62 y1 y2 y3 y4 y5 y6 y7 y8 y9 y10 y11 y12 y13 y14 y15 y16 y17 y18 y19 y20 y21 y22 y23 y24 y25) H := hP
    have hD : va_D A (wS50 cI cJ cZ cB p0 p1 p2 p3 p4 p5 p6 p7 p8 p9 p10 p11 p12 p13 p14 p15 p16 p17 p18 p19 p20 p21 p22 p23 p24 p25 x0_4 x0_5 x0_6 x0_7 (0 : Int32) x0_12 x0_13 x0_14 x0_15 x0_16 x0_17 x0_18 x0_22 x0_23 x0_24 x0_25 x0_26 x0_27 x0_28 x0_29 x0_30 x0_31 x0_32 x0_36 x0_39 x0_40 x0_44 x0_49 x0_51 x0_53 x0_54 x0_55 x0_56 x0_57 x0_58 x0_59 x0_60 x0_61 x0_62 y1 y2 y3 y4 y5 y6 y7 y8 y9 y10 y11 y12 y13 y14 y15 y16 y17 y18 y19 y20 y21 y22 y23 y24 y25) := hD
    have CUT21 : ∀ (n : Nat) (g21l2 : Int32) (g21x0_4 : Int32) (g21x0_5 : Int32) (g21x0_6 : Int32) (g21x0_7 : Int32) (g21x0_8 : Int32) (g21x0_12 : Int32) (g21x0_13 : Int32) (g21x0_14 : Int32) (g21x0_15 : Int32) (g21x0_16 : Int32) (g21x0_17 : Int32) (g21x0_18 : Int32) (g21y1 : Nat → Int32) (g21y2 : Nat → Int32) (g21y3 : Nat → Int32) (g21y4 : Nat → Int32) (g21y5 : Nat → Int32) (g21y6 : Nat → Int32) (g21y7 : Nat → Int32) (g21y8 : Nat → Int32) (g21y9 : Nat → Int32) (H : Heap) (locs : List Loc) (ls : Array Slot), (10 * (a1.toInt - g21l2.toInt) - g21x0_8.toInt + 10) < (n : Int) → (0 ≤ g21l2.toInt ∧ g21l2.toInt ≤ 20000) → (0 ≤ g21x0_4.toInt ∧ g21x0_4.toInt ≤ 4000) → (0 ≤ g21x0_12.toInt ∧ g21x0_12.toInt ≤ 63) → (0 ≤ g21x0_13.toInt ∧ g21x0_13.toInt ≤ 63) → (0 ≤ g21x0_14.toInt ∧ g21x0_14.toInt ≤ 63) → ((-8190) ≤ g21x0_15.toInt ∧ g21x0_15.toInt ≤ 8190) → (0 ≤ g21x0_16.toInt ∧ g21x0_16.toInt ≤ 1) → (0 ≤ g21x0_17.toInt ∧ g21x0_17.toInt ≤ 1) → (0 ≤ g21x0_18.toInt ∧ g21x0_18.toInt ≤ 1073741823) → (∀ i : Nat, (0 ≤ (g21y1 i).toInt ∧ (g21y1 i).toInt ≤ 1)) → (∀ i : Nat, (0 ≤ (g21y2 i).toInt ∧ (g21y2 i).toInt ≤ 1073741823)) → (∀ i : Nat, (0 ≤ (g21y3 i).toInt ∧ (g21y3 i).toInt ≤ 1)) → (∀ i : Nat, ((0 ≤ (g21y4 i).toInt ∧ (g21y4 i).toInt ≤ 1073741823) ∧ ((1 ≤ (i : Int) ∧ (i : Int) ≤ 6) → (g21y4 i).toInt ≤ 4095))) → (∀ i : Nat, (0 ≤ (g21y5 i).toInt ∧ (g21y5 i).toInt ≤ 1)) → (∀ i : Nat, (0 ≤ (g21y6 i).toInt ∧ (g21y6 i).toInt ≤ 1073741823)) → (∀ i : Nat, (0 ≤ (g21y7 i).toInt ∧ (g21y7 i).toInt ≤ 40)) → (∀ i : Nat, (0 ≤ (g21y8 i).toInt ∧ (g21y8 i).toInt ≤ 63)) → (∀ i : Nat, (0 ≤ (g21y9 i).toInt ∧ (g21y9 i).toInt ≤ 63)) → (g21l2.toInt ≤ a1.toInt) → (0 ≤ g21x0_8.toInt ∧ g21x0_8.toInt ≤ 5) → va_P D classes (wS50 cI cJ cZ cB p0 p1 p2 p3 p4 p5 p6 p7 p8 p9 p10 p11 p12 p13 p14 p15 p16 p17 p18 p19 p20 p21 p22 p23 p24 p25 g21x0_4 g21x0_5 g21x0_6 g21x0_7 g21x0_8 g21x0_12 g21x0_13 g21x0_14 g21x0_15 g21x0_16 g21x0_17 g21x0_18 x0_22 x0_23 x0_24 x0_25 x0_26 x0_27 x0_28 x0_29 x0_30 x0_31 x0_32 x0_36 x0_39 x0_40 x0_44 x0_49 x0_51 x0_53 x0_54 x0_55 x0_56 x0_57 x0_58 x0_59 x0_60 x0_61 x0_62 g21y1 g21y2 g21y3 g21y4 g21y5 g21y6 g21y7 g21y8 g21y9 y10 y11 y12 y13 y14 y15 y16 y17 y18 y19 y20 y21 y22 y23 y24 y25) H → va_D A (wS50 cI cJ cZ cB p0 p1 p2 p3 p4 p5 p6 p7 p8 p9 p10 p11 p12 p13 p14 p15 p16 p17 p18 p19 p20 p21 p22 p23 p24 p25 g21x0_4 g21x0_5 g21x0_6 g21x0_7 g21x0_8 g21x0_12 g21x0_13 g21x0_14 g21x0_15 g21x0_16 g21x0_17 g21x0_18 x0_22 x0_23 x0_24 x0_25 x0_26 x0_27 x0_28 x0_29 x0_30 x0_31 x0_32 x0_36 x0_39 x0_40 x0_44 x0_49 x0_51 x0_53 x0_54 x0_55 x0_56 x0_57 x0_58 x0_59 x0_60 x0_61 x0_62 g21y1 g21y2 g21y3 g21y4 g21y5 g21y6 g21y7 g21y8 g21y9 y10 y11 y12 y13 y14 y15 y16 y17 y18 y19 y20 y21 y22 y23 y24 y25) → va_S A s.heap H locs → lv_has ls 3 [(2, .int g21l2), (0, .ref p0), (1, .int a1)] → W p l e ({ frames := 6, cells := 0, slots := 0, locals := 136 }) s m [.ref p0, .int a1].toArray below meth c H locs 0 0 (MQ below (va_Qi (fun r (u : Int32) => r = u) (fun ur t => ∃ u_x0_4 : Int32, ∃ u_x0_5 : Int32, ∃ u_x0_6 : Int32, ∃ u_x0_7 : Int32, ∃ u_x0_8 : Int32, ∃ u_x0_12 : Int32, ∃ u_x0_13 : Int32, ∃ u_x0_14 : Int32, ∃ u_x0_15 : Int32, ∃ u_x0_16 : Int32, ∃ u_x0_17 : Int32, ∃ u_x0_18 : Int32, ∃ u_y1 : Nat → Int32, ∃ u_y2 : Nat → Int32, ∃ u_y3 : Nat → Int32, ∃ u_y4 : Nat → Int32, ∃ u_y5 : Nat → Int32, ∃ u_y6 : Nat → Int32, ∃ u_y7 : Nat → Int32, ∃ u_y8 : Nat → Int32, ∃ u_y9 : Nat → Int32, (0 ≤ u_x0_4.toInt ∧ u_x0_4.toInt ≤ 4000) ∧ (0 ≤ u_x0_12.toInt ∧ u_x0_12.toInt ≤ 63) ∧ (0 ≤ u_x0_13.toInt ∧ u_x0_13.toInt ≤ 63) ∧ (0 ≤ u_x0_14.toInt ∧ u_x0_14.toInt ≤ 63) ∧ ((-8190) ≤ u_x0_15.toInt ∧ u_x0_15.toInt ≤ 8190) ∧ (0 ≤ u_x0_16.toInt ∧ u_x0_16.toInt ≤ 1) ∧ (0 ≤ u_x0_17.toInt ∧ u_x0_17.toInt ≤ 1) ∧ (0 ≤ u_x0_18.toInt ∧ u_x0_18.toInt ≤ 1073741823) ∧ (∀ i : Nat, (0 ≤ (u_y1 i).toInt ∧ (u_y1 i).toInt ≤ 1)) ∧ (∀ i : Nat, (0 ≤ (u_y2 i).toInt ∧ (u_y2 i).toInt ≤ 1073741823)) ∧ (∀ i : Nat, (0 ≤ (u_y3 i).toInt ∧ (u_y3 i).toInt ≤ 1)) ∧ (∀ i : Nat, ((0 ≤ (u_y4 i).toInt ∧ (u_y4 i).toInt ≤ 1073741823) ∧ ((1 ≤ (i : Int) ∧ (i : Int) ≤ 6) → (u_y4 i).toInt ≤ 4095))) ∧ (∀ i : Nat, (0 ≤ (u_y5 i).toInt ∧ (u_y5 i).toInt ≤ 1)) ∧ (∀ i : Nat, (0 ≤ (u_y6 i).toInt ∧ (u_y6 i).toInt ≤ 1073741823)) ∧ (∀ i : Nat, (0 ≤ (u_y7 i).toInt ∧ (u_y7 i).toInt ≤ 40)) ∧ (∀ i : Nat, (0 ≤ (u_y8 i).toInt ∧ (u_y8 i).toInt ≤ 63)) ∧ (∀ i : Nat, (0 ≤ (u_y9 i).toInt ∧ (u_y9 i).toInt ≤ 63)) ∧ va_P D classes (wS50 cI cJ cZ cB p0 p1 p2 p3 p4 p5 p6 p7 p8 p9 p10 p11 p12 p13 p14 p15 p16 p17 p18 p19 p20 p21 p22 p23 p24 p25 u_x0_4 u_x0_5 u_x0_6 u_x0_7 u_x0_8 u_x0_12 u_x0_13 u_x0_14 u_x0_15 u_x0_16 u_x0_17 u_x0_18 x0_22 x0_23 x0_24 x0_25 x0_26 x0_27 x0_28 x0_29 x0_30 x0_31 x0_32 x0_36 x0_39 x0_40 x0_44 x0_49 x0_51 x0_53 x0_54 x0_55 x0_56 x0_57 x0_58 x0_59 x0_60 x0_61 x0_62 u_y1 u_y2 u_y3 u_y4 u_y5 u_y6 u_y7 u_y8 u_y9 y10 y11 y12 y13 y14 y15 y16 y17 y18 y19 y20 y21 y22 y23 y24 y25) t.heap ∧ va_D A (wS50 cI cJ cZ cB p0 p1 p2 p3 p4 p5 p6 p7 p8 p9 p10 p11 p12 p13 p14 p15 p16 p17 p18 p19 p20 p21 p22 p23 p24 p25 u_x0_4 u_x0_5 u_x0_6 u_x0_7 u_x0_8 u_x0_12 u_x0_13 u_x0_14 u_x0_15 u_x0_16 u_x0_17 u_x0_18 x0_22 x0_23 x0_24 x0_25 x0_26 x0_27 x0_28 x0_29 x0_30 x0_31 x0_32 x0_36 x0_39 x0_40 x0_44 x0_49 x0_51 x0_53 x0_54 x0_55 x0_56 x0_57 x0_58 x0_59 x0_60 x0_61 x0_62 u_y1 u_y2 u_y3 u_y4 u_y5 u_y6 u_y7 u_y8 u_y9 y10 y11 y12 y13 y14 y15 y16 y17 y18 y19 y20 y21 y22 y23 y24 y25)) A) [.ref p0, .int a1].toArray s 0 0 A) (F0 m 21 ls []) := by
      intro n
      induction n with
      | zero => intro g21l2 g21x0_4 g21x0_5 g21x0_6 g21x0_7 g21x0_8 g21x0_12 g21x0_13 g21x0_14 g21x0_15 g21x0_16 g21x0_17 g21x0_18 g21y1 g21y2 g21y3 g21y4 g21y5 g21y6 g21y7 g21y8 g21y9 H locs ls hn21 Rg21l2 Rg21x0_4 Rg21x0_12 Rg21x0_13 Rg21x0_14 Rg21x0_15 Rg21x0_16 Rg21x0_17 Rg21x0_18 Ag21y1 Ag21y2 Ag21y3 Ag21y4 Ag21y5 Ag21y6 Ag21y7 Ag21y8 Ag21y9 I21_0 I21_1 hP hD hS hl; exfalso; omega
      | succ n ih21 =>
        intro g21l2 g21x0_4 g21x0_5 g21x0_6 g21x0_7 g21x0_8 g21x0_12 g21x0_13 g21x0_14 g21x0_15 g21x0_16 g21x0_17 g21x0_18 g21y1 g21y2 g21y3 g21y4 g21y5 g21y6 g21y7 g21y8 g21y9 H locs ls hn21 Rg21l2 Rg21x0_4 Rg21x0_12 Rg21x0_13 Rg21x0_14 Rg21x0_15 Rg21x0_16 Rg21x0_17 Rg21x0_18 Ag21y1 Ag21y2 Ag21y3 Ag21y4 Ag21y5 Ag21y6 Ag21y7 Ag21y8 Ag21y9 I21_0 I21_1 hP hD hS hl
        refine lv_iload_n hx hb d_X_run_21 rfl (lv_at hl 0 rfl) ?_
        refine lv_iload_n hx hb d_X_run_22 rfl (lv_at hl 2 rfl) ?_
        refine lv_icmp_ge (tgt := 60) hx hb d_X_run_23 (by decide) (fun c5 => ?_) (fun c5 => ?_)
        · have gc5 : a1.toInt ≤ g21l2.toInt := c_le c5
          have R6 : (-2147483648) ≤ a1.toInt ∧ a1.toInt ≤ 20000 := by omega
          refine lv_iload_n hx hb d_X_run_60 rfl (lv_at hl 0 rfl) ?_
          exact W.iret (v := g21l2) hx hb hr (fun t ht hW => ⟨⟨g21l2, g21l2, rfl, rfl, ⟨g21x0_4, g21x0_5, g21x0_6, g21x0_7, g21x0_8, g21x0_12, g21x0_13, g21x0_14, g21x0_15, g21x0_16, g21x0_17, g21x0_18, g21y1, g21y2, g21y3, g21y4, g21y5, g21y6, g21y7, g21y8, g21y9, Rg21x0_4, Rg21x0_12, Rg21x0_13, Rg21x0_14, Rg21x0_15, Rg21x0_16, Rg21x0_17, Rg21x0_18, Ag21y1, Ag21y2, Ag21y3, Ag21y4, Ag21y5, Ag21y6, Ag21y7, Ag21y8, Ag21y9, by show va_P D classes _ t.heap; rw [ht]; exact hP, hD⟩⟩, hS.F ht⟩) hS.2.2 d_X_run_61
        · have gc5 : g21l2.toInt < a1.toInt := c_nle c5
          have R7 : 1 ≤ a1.toInt ∧ a1.toInt ≤ 2147483647 := by omega
          refine lv_aload_n hx hb d_X_run_26 rfl (lv_at hl 1 rfl) ?_
          refine va_get (D := D) (ci := 7) (v := .int g21x0_8) (C := "SignMachineModel") (T := F_X) (N := 64) hx hb hk fi_X hown hK.1 hP 0 rfl rfl 8 (by decide) (hk _ k_1129) (fun _ h9 => h9) rfl d_X_run_27 ?_
          refine lv_if_ne (tgt := 60) hx hb d_X_run_30 (by decide) (fun c8 => ?_) (fun c8 => ?_)
          · have gc8 : g21x0_8.toInt ≠ 0 := c_ne c8
            refine lv_iload_n hx hb d_X_run_60 rfl (lv_at hl 0 rfl) ?_
            exact W.iret (v := g21l2) hx hb hr (fun t ht hW => ⟨⟨g21l2, g21l2, rfl, rfl, ⟨g21x0_4, g21x0_5, g21x0_6, g21x0_7, g21x0_8, g21x0_12, g21x0_13, g21x0_14, g21x0_15, g21x0_16, g21x0_17, g21x0_18, g21y1, g21y2, g21y3, g21y4, g21y5, g21y6, g21y7, g21y8, g21y9, Rg21x0_4, Rg21x0_12, Rg21x0_13, Rg21x0_14, Rg21x0_15, Rg21x0_16, Rg21x0_17, Rg21x0_18, Ag21y1, Ag21y2, Ag21y3, Ag21y4, Ag21y5, Ag21y6, Ag21y7, Ag21y8, Ag21y9, by show va_P D classes _ t.heap; rw [ht]; exact hP, hD⟩⟩, hS.F ht⟩) hS.2.2 d_X_run_61
          · have gc8 : g21x0_8.toInt = 0 := c_eq c8
            have R9 : 0 ≤ g21x0_8.toInt ∧ g21x0_8.toInt ≤ 0 := by omega
            refine lv_aload_n hx hb d_X_run_33 rfl (lv_at hl 1 rfl) ?_
            refine lv_aload_n hx hb d_X_run_34 rfl (lv_at hl 1 rfl) ?_
            refine sn_i (va_runV (C := "SignMachineModel") (As := []) (rest := [.ref p0]) ⟨hx, hb, hml, hown, hk⟩ (c_X_one l D cI cJ cZ cB p0 p1 p2 p3 p4 p5 p6 p7 p8 p9 p10 p11 p12 p13 p14 p15 p16 p17 p18 p19 p20 p21 p22 p23 p24 p25 H.size g21x0_4 g21x0_5 g21x0_6 g21x0_7 g21x0_8 g21x0_12 g21x0_13 g21x0_14 g21x0_15 g21x0_16 g21x0_17 g21x0_18 x0_22 x0_23 x0_24 x0_25 x0_26 x0_27 x0_28 x0_29 x0_30 x0_31 x0_32 x0_36 x0_39 x0_40 x0_44 x0_49 x0_51 x0_53 x0_54 x0_55 x0_56 x0_57 x0_58 x0_59 x0_60 x0_61 x0_62 g21y1 g21y2 g21y3 g21y4 g21y5 g21y6 g21y7 g21y8 g21y9 y10 y11 y12 y13 y14 y15 y16 y17 y18 y19 y20 y21 y22 y23 y24 y25  Rg21x0_4 Rg21x0_12 Rg21x0_13 Rg21x0_14 Rg21x0_15 Rg21x0_16 Rg21x0_17 Rg21x0_18 Ag21y1 Ag21y2 Ag21y3 Ag21y4 Ag21y5 Ag21y6 Ag21y7 Ag21y8 Ag21y9) (v_X_one hk k_1368 ⟨Nat.le_of_ble_eq_true rfl, Nat.le_of_ble_eq_true rfl⟩) (pM_v hK hP hD (ci := 7) (q0 := 0) rfl rfl rfl) rfl rfl hl.1 rfl (lv_room (Nat.le_of_ble_eq_true rfl)) d_X_run_35 ⟨Nat.le_of_ble_eq_true rfl, Nat.le_of_ble_eq_true rfl⟩) hS hA hD (fun rz10 u t H locs hr0 ht hB hFr hS => ?_)
            subst hr0
            obtain ⟨x0_4z10, x0_5z10, x0_6z10, x0_7z10, x0_12z10, x0_13z10, x0_14z10, x0_15z10, x0_16z10, x0_17z10, x0_18z10, y1z10, y2z10, y3z10, y4z10, y5z10, y6z10, y7z10, y8z10, y9z10, Rx0_4z10, Rx0_12z10, Rx0_13z10, Rx0_14z10, Rx0_15z10, Rx0_16z10, Rx0_17z10, Rx0_18z10, Ay1z10, Ay2z10, Ay3z10, Ay4z10, Ay5z10, Ay6z10, Ay7z10, Ay8z10, Ay9z10, F0z10, hP, hD⟩ := hB
            have F0z10 : 0 ≤ rz10.toInt ∧ rz10.toInt ≤ 5 := F0z10
            rw [ht] at hP
            have hD := dwk hD hFr
            clear ht hFr
            have hP : va_P D classes (wS50 cI cJ cZ cB p0 p1 p2 p3 p4 p5 p6 p7 p8 p9 p10 p11 p12 p13 p14 p15 p16 p17 p18 p19 p20 p21 p22 p23 p24 p25 x0_4z10 x0_5z10 x0_6z10 x0_7z10 g21x0_8 x0_12z10 x0_13z10 x0_14z10 x0_15z10 x0_16z10 x0_17z10 x0_18z10 x0_22 x0_23 x0_24 x0_25 x0_26 x0_27 x0_28 x0_29 x0_30 x0_31 x0_32 x0_36 x0_39 x0_40 x0_44 x0_49 x0_51 x0_53 x0_54 x0_55 x0_56 x0_57 x0_58 x0_59 x0_60 x0_61 x0_62 y1z10 y2z10 y3z10 y4z10 y5z10 y6z10 y7z10 y8z10 y9z10 y10 y11 y12 y13 y14 y15 y16 y17 y18 y19 y20 y21 y22 y23 y24 y25) H := hP
            have hD : va_D A (wS50 cI cJ cZ cB p0 p1 p2 p3 p4 p5 p6 p7 p8 p9 p10 p11 p12 p13 p14 p15 p16 p17 p18 p19 p20 p21 p22 p23 p24 p25 x0_4z10 x0_5z10 x0_6z10 x0_7z10 g21x0_8 x0_12z10 x0_13z10 x0_14z10 x0_15z10 x0_16z10 x0_17z10 x0_18z10 x0_22 x0_23 x0_24 x0_25 x0_26 x0_27 x0_28 x0_29 x0_30 x0_31 x0_32 x0_36 x0_39 x0_40 x0_44 x0_49 x0_51 x0_53 x0_54 x0_55 x0_56 x0_57 x0_58 x0_59 x0_60 x0_61 x0_62 y1z10 y2z10 y3z10 y4z10 y5z10 y6z10 y7z10 y8z10 y9z10 y10 y11 y12 y13 y14 y15 y16 y17 y18 y19 y20 y21 y22 y23 y24 y25) := hD
            refine va_put (D := D) (ci := 7) (v := .int rz10) (ty := .int) (C := "SignMachineModel") (T := F_X) (N := 64) hx hb hk fi_X ft_X ft_X_ok fn_X hown hK.1 hP hD hS 0 rfl rfl 8 (by decide) (hk _ k_1129) (fun _ h9 => h9) rfl (by decide +kernel) rfl rfl (Nat.le_of_ble_eq_true rfl) d_X_run_38 (fun H locs hP hD hS => ?_)
            have hP : va_P D classes (wS50 cI cJ cZ cB p0 p1 p2 p3 p4 p5 p6 p7 p8 p9 p10 p11 p12 p13 p14 p15 p16 p17 p18 p19 p20 p21 p22 p23 p24 p25 x0_4z10 x0_5z10 x0_6z10 x0_7z10 rz10 x0_12z10 x0_13z10 x0_14z10 x0_15z10 x0_16z10 x0_17z10 x0_18z10 x0_22 x0_23 x0_24 x0_25 x0_26 x0_27 x0_28 x0_29 x0_30 x0_31 x0_32 x0_36 x0_39 x0_40 x0_44 x0_49 x0_51 x0_53 x0_54 x0_55 x0_56 x0_57 x0_58 x0_59 x0_60 x0_61 x0_62 y1z10 y2z10 y3z10 y4z10 y5z10 y6z10 y7z10 y8z10 y9z10 y10 y11 y12 y13 y14 y15 y16 y17 y18 y19 y20 y21 y22 y23 y24 y25) H := hP
            have hD : va_D A (wS50 cI cJ cZ cB p0 p1 p2 p3 p4 p5 p6 p7 p8 p9 p10 p11 p12 p13 p14 p15 p16 p17 p18 p19 p20 p21 p22 p23 p24 p25 x0_4z10 x0_5z10 x0_6z10 x0_7z10 rz10 x0_12z10 x0_13z10 x0_14z10 x0_15z10 x0_16z10 x0_17z10 x0_18z10 x0_22 x0_23 x0_24 x0_25 x0_26 x0_27 x0_28 x0_29 x0_30 x0_31 x0_32 x0_36 x0_39 x0_40 x0_44 x0_49 x0_51 x0_53 x0_54 x0_55 x0_56 x0_57 x0_58 x0_59 x0_60 x0_61 x0_62 y1z10 y2z10 y3z10 y4z10 y5z10 y6z10 y7z10 y8z10 y9z10 y10 y11 y12 y13 y14 y15 y16 y17 y18 y19 y20 y21 y22 y23 y24 y25) := hD
            refine lv_iload_n hx hb d_X_run_41 rfl (lv_at hl 0 rfl) ?_
            refine lv_aload_n hx hb d_X_run_42 rfl (lv_at hl 1 rfl) ?_
            refine va_get (D := D) (ci := 7) (v := .int rz10) (C := "SignMachineModel") (T := F_X) (N := 64) hx hb hk fi_X hown hK.1 hP 0 rfl rfl 8 (by decide) (hk _ k_1129) (fun _ h9 => h9) rfl d_X_run_43 ?_
            refine lv_iconst (v := 2) hx hb d_X_run_46 (by decide) ?_
            refine lv_icmp_ge (tgt := 54) hx hb d_X_run_47 (by decide) (fun c11 => ?_) (fun c11 => ?_)
            · have gc11 : 2 ≤ rz10.toInt := c_le c11
              have R12 : 2 ≤ rz10.toInt ∧ rz10.toInt ≤ 5 := by omega
              refine lv_iconst (v := 0) hx hb d_X_run_54 (by decide) ?_
              refine lv_iadd hx hb d_X_run_55 ?_
              refine lv_topi (fun v13 hv13 => ?_)
              obtain ⟨ev13, Rv13⟩ : v13.toInt = g21l2.toInt + 0 ∧ (0 ≤ v13.toInt ∧ v13.toInt ≤ 20000) := ad3 hv13 Rg21l2 (by decide) (by decide) (by decide) (by decide) (by decide)
              refine lv_istore_n (lv' := [(2, .int v13), (0, .ref p0), (1, .int a1)]) hx hb d_X_run_56 rfl hl (by decide) rfl (fun ls hl => ?_)
              refine lv_goto (tgt := 21) hx hb d_X_run_57 (by decide) ?_
              exact ih21 v13 x0_4z10 x0_5z10 x0_6z10 x0_7z10 rz10 x0_12z10 x0_13z10 x0_14z10 x0_15z10 x0_16z10 x0_17z10 x0_18z10 y1z10 y2z10 y3z10 y4z10 y5z10 y6z10 y7z10 y8z10 y9z10 H _ ls (show 10 * (a1.toInt - v13.toInt) - rz10.toInt + 10 < (n : Int) from by omega) Rv13 Rx0_4z10 Rx0_12z10 Rx0_13z10 Rx0_14z10 Rx0_15z10 Rx0_16z10 Rx0_17z10 Rx0_18z10 Ay1z10 Ay2z10 Ay3z10 Ay4z10 Ay5z10 Ay6z10 Ay7z10 Ay8z10 Ay9z10 (show v13.toInt ≤ a1.toInt from by omega) (show 0 ≤ rz10.toInt ∧ rz10.toInt ≤ 5 from by omega) hP hD hS (lv_sub hl [0, 1, 2] rfl)
            · have gc11 : rz10.toInt < 2 := c_nle c11
              have R14 : 0 ≤ rz10.toInt ∧ rz10.toInt ≤ 1 := by omega
              refine lv_iconst (v := 1) hx hb d_X_run_50 (by decide) ?_
              refine lv_goto (tgt := 55) hx hb d_X_run_51 (by decide) ?_
              refine lv_iadd hx hb d_X_run_55 ?_
              refine lv_topi (fun v15 hv15 => ?_)
              obtain ⟨ev15, Rv15⟩ : v15.toInt = g21l2.toInt + 1 ∧ (1 ≤ v15.toInt ∧ v15.toInt ≤ 20001) := ad3 hv15 Rg21l2 (by decide) (by decide) (by decide) (by decide) (by decide)
              refine lv_istore_n (lv' := [(2, .int v15), (0, .ref p0), (1, .int a1)]) hx hb d_X_run_56 rfl hl (by decide) rfl (fun ls hl => ?_)
              refine lv_goto (tgt := 21) hx hb d_X_run_57 (by decide) ?_
              exact ih21 v15 x0_4z10 x0_5z10 x0_6z10 x0_7z10 rz10 x0_12z10 x0_13z10 x0_14z10 x0_15z10 x0_16z10 x0_17z10 x0_18z10 y1z10 y2z10 y3z10 y4z10 y5z10 y6z10 y7z10 y8z10 y9z10 H _ ls (show 10 * (a1.toInt - v15.toInt) - rz10.toInt + 10 < (n : Int) from by omega) (by omega) Rx0_4z10 Rx0_12z10 Rx0_13z10 Rx0_14z10 Rx0_15z10 Rx0_16z10 Rx0_17z10 Rx0_18z10 Ay1z10 Ay2z10 Ay3z10 Ay4z10 Ay5z10 Ay6z10 Ay7z10 Ay8z10 Ay9z10 (show v15.toInt ≤ a1.toInt from by omega) (show 0 ≤ rz10.toInt ∧ rz10.toInt ≤ 5 from by omega) hP hD hS (lv_sub hl [0, 1, 2] rfl)
    exact CUT21 ((10 * (a1.toInt - 0) - 0 + 10).toNat + 1) (0 : Int32) x0_4 x0_5 x0_6 x0_7 (0 : Int32) x0_12 x0_13 x0_14 x0_15 x0_16 x0_17 x0_18 y1 y2 y3 y4 y5 y6 y7 y8 y9 H _ ls (by omega) (by decide) Rx0_4 Rx0_12 Rx0_13 Rx0_14 Rx0_15 Rx0_16 Rx0_17 Rx0_18 Ay1 Ay2 Ay3 Ay4 Ay5 Ay6 Ay7 Ay8 Ay9 (show 0 ≤ a1.toInt from by omega) (show 0 ≤ 0 ∧ 0 ≤ 5 from by omega) hP hD hS (lv_sub hl [0, 1, 2] rfl)
  · have gc3 : rz2.toInt = 0 := c_eq c3
    have R16 : 0 ≤ rz2.toInt ∧ rz2.toInt ≤ 0 := by omega
    refine lv_iconst (v := (-1)) hx hb d_X_run_12 (by decide) ?_
    exact W.iret (v := (-1 : Int32)) hx hb hr (fun t ht hW => ⟨⟨(-1 : Int32), (-1 : Int32), rfl, rfl, ⟨x0_4, x0_5, x0_6, x0_7, x0_8, x0_12, x0_13, x0_14, x0_15, x0_16, x0_17, x0_18, y1, y2, y3, y4, y5, y6, y7, y8, y9, Rx0_4, Rx0_12, Rx0_13, Rx0_14, Rx0_15, Rx0_16, Rx0_17, Rx0_18, Ay1, Ay2, Ay3, Ay4, Ay5, Ay6, Ay7, Ay8, Ay9, by show va_P D classes _ t.heap; rw [ht]; exact hP, hD⟩⟩, hS.F ht⟩) hS.2.2 d_X_run_13
theorem v_X_run {R : Room} {s : State} {args : Array Value} {own : String} {index : Nat} (hk : ∀ w ∈ tb, w.before args s = true) (hl : Cond.methodLink own index y_X_run ∈ tb) (hR : 6 + 1 ≤ R.frames ∧ 8 + (3 + 11) + 136 ≤ R.locals) : CallW R s args own "SignMachineModel" index y_X_run b_X_run 3 (some .int) (.code y_X_run b_X_run 3 (some .int) :: tb) ({ frames := 6, cells := 0, slots := 0, locals := 136 }) 0 0 1 := mk_v 1 hk k_1506 hl k_1504 k_1505 k_119 rfl rfl h_X_run hR
set_option maxHeartbeats 8000000 in
set_option maxRecDepth 100000 in
theorem c_X_feed (l : Launch) (D : va_G) (cI cJ cZ cB : ClassId) (p0 p1 p2 p3 p4 p5 p6 p7 p8 p9 p10 p11 p12 p13 p14 p15 p16 p17 p18 p19 p20 p21 p22 p23 p24 p25 : Nat) (sz : Nat) (x0_4 : Int32) (x0_5 : Int32) (x0_6 : Int32) (x0_7 : Int32) (x0_8 : Int32) (x0_12 : Int32) (x0_13 : Int32) (x0_14 : Int32) (x0_15 : Int32) (x0_16 : Int32) (x0_17 : Int32) (x0_18 : Int32) (x0_22 : Int32) (x0_23 : Int32) (x0_24 : Int32) (x0_25 : Int32) (x0_26 : Int32) (x0_27 : Int32) (x0_28 : Int32) (x0_29 : Int32) (x0_30 : Int32) (x0_31 : Int32) (x0_32 : Int32) (x0_36 : Int32) (x0_39 : Int32) (x0_40 : Int64) (x0_44 : Int32) (x0_49 : Int32) (x0_51 : Int32) (x0_53 : Int32) (x0_54 : Int32) (x0_55 : Int64) (x0_56 : Int32) (x0_57 : Int32) (x0_58 : Int32) (x0_59 : Int32) (x0_60 : Int32) (x0_61 : Int32) (x0_62 : Int64) (y1 : Nat → Int32) (y2 : Nat → Int32) (y3 : Nat → Int32) (y4 : Nat → Int32) (y5 : Nat → Int32) (y6 : Nat → Int32) (y7 : Nat → Int32) (y8 : Nat → Int32) (y9 : Nat → Int32) (y10 : Nat → Int32) (y11 : Nat → Int64) (y12 : Nat → Int32) (y13 : Nat → Int64) (y14 : Nat → Int32) (y15 : Nat → Int64) (y16 : Nat → Int32) (y17 : Nat → Int32) (y18 : Nat → Int32) (y19 : Nat → Int32) (y20 : Nat → Int32) (y21 : Nat → Int32) (y22 : Nat → Int32) (y23 : Nat → Int32) (y24 : Nat → Int64) (y25 : Nat → Int64) (a1 : Int32) (a2 : Int32) (a3 : Int32) (a4 : Int32) (a5 : Int32) (Rx0_22 : 0 ≤ x0_22.toInt ∧ x0_22.toInt ≤ 4000) : Met l y_X_feed (.code y_X_feed b_X_feed 8 (some .int) :: tb) ({ frames := 0, cells := 0, slots := 0, locals := 0 }) (pM D cI cJ cZ cB (wS50 cI cJ cZ cB p0 p1 p2 p3 p4 p5 p6 p7 p8 p9 p10 p11 p12 p13 p14 p15 p16 p17 p18 p19 p20 p21 p22 p23 p24 p25 x0_4 x0_5 x0_6 x0_7 x0_8 x0_12 x0_13 x0_14 x0_15 x0_16 x0_17 x0_18 x0_22 x0_23 x0_24 x0_25 x0_26 x0_27 x0_28 x0_29 x0_30 x0_31 x0_32 x0_36 x0_39 x0_40 x0_44 x0_49 x0_51 x0_53 x0_54 x0_55 x0_56 x0_57 x0_58 x0_59 x0_60 x0_61 x0_62 y1 y2 y3 y4 y5 y6 y7 y8 y9 y10 y11 y12 y13 y14 y15 y16 y17 y18 y19 y20 y21 y22 y23 y24 y25) sz [.ref p0, .int a1, .int a2, .int a3, .int a4, .int a5]) (va_Qi (fun r (u : Int32) => r = u) (fun ur t => ∃ u_x0_22 : Int32, ∃ u_y10 : Nat → Int32, (0 ≤ u_x0_22.toInt ∧ u_x0_22.toInt ≤ 4000) ∧ (x0_22.toInt ≤ 3980 → (ur.toInt = x0_22.toInt + 20 ∧ u_x0_22.toInt = x0_22.toInt + 20)) ∧ (3980 < x0_22.toInt → (ur.toInt = -1 ∧ u_x0_22.toInt = x0_22.toInt)) ∧ va_P D classes (wS50 cI cJ cZ cB p0 p1 p2 p3 p4 p5 p6 p7 p8 p9 p10 p11 p12 p13 p14 p15 p16 p17 p18 p19 p20 p21 p22 p23 p24 p25 x0_4 x0_5 x0_6 x0_7 x0_8 x0_12 x0_13 x0_14 x0_15 x0_16 x0_17 x0_18 u_x0_22 x0_23 x0_24 x0_25 x0_26 x0_27 x0_28 x0_29 x0_30 x0_31 x0_32 x0_36 x0_39 x0_40 x0_44 x0_49 x0_51 x0_53 x0_54 x0_55 x0_56 x0_57 x0_58 x0_59 x0_60 x0_61 x0_62 y1 y2 y3 y4 y5 y6 y7 y8 y9 u_y10 y11 y12 y13 y14 y15 y16 y17 y18 y19 y20 y21 y22 y23 y24 y25) t.heap ∧ va_D (va_A (wS50 cI cJ cZ cB p0 p1 p2 p3 p4 p5 p6 p7 p8 p9 p10 p11 p12 p13 p14 p15 p16 p17 p18 p19 p20 p21 p22 p23 p24 p25 x0_4 x0_5 x0_6 x0_7 x0_8 x0_12 x0_13 x0_14 x0_15 x0_16 x0_17 x0_18 x0_22 x0_23 x0_24 x0_25 x0_26 x0_27 x0_28 x0_29 x0_30 x0_31 x0_32 x0_36 x0_39 x0_40 x0_44 x0_49 x0_51 x0_53 x0_54 x0_55 x0_56 x0_57 x0_58 x0_59 x0_60 x0_61 x0_62 y1 y2 y3 y4 y5 y6 y7 y8 y9 y10 y11 y12 y13 y14 y15 y16 y17 y18 y19 y20 y21 y22 y23 y24 y25) sz) (wS50 cI cJ cZ cB p0 p1 p2 p3 p4 p5 p6 p7 p8 p9 p10 p11 p12 p13 p14 p15 p16 p17 p18 p19 p20 p21 p22 p23 p24 p25 x0_4 x0_5 x0_6 x0_7 x0_8 x0_12 x0_13 x0_14 x0_15 x0_16 x0_17 x0_18 u_x0_22 x0_23 x0_24 x0_25 x0_26 x0_27 x0_28 x0_29 x0_30 x0_31 x0_32 x0_36 x0_39 x0_40 x0_44 x0_49 x0_51 x0_53 x0_54 x0_55 x0_56 x0_57 x0_58 x0_59 x0_60 x0_61 x0_62 y1 y2 y3 y4 y5 y6 y7 y8 y9 u_y10 y11 y12 y13 y14 y15 y16 y17 y18 y19 y20 y21 y22 y23 y24 y25)) (va_A (wS50 cI cJ cZ cB p0 p1 p2 p3 p4 p5 p6 p7 p8 p9 p10 p11 p12 p13 p14 p15 p16 p17 p18 p19 p20 p21 p22 p23 p24 p25 x0_4 x0_5 x0_6 x0_7 x0_8 x0_12 x0_13 x0_14 x0_15 x0_16 x0_17 x0_18 x0_22 x0_23 x0_24 x0_25 x0_26 x0_27 x0_28 x0_29 x0_30 x0_31 x0_32 x0_36 x0_39 x0_40 x0_44 x0_49 x0_51 x0_53 x0_54 x0_55 x0_56 x0_57 x0_58 x0_59 x0_60 x0_61 x0_62 y1 y2 y3 y4 y5 y6 y7 y8 y9 y10 y11 y12 y13 y14 y15 y16 y17 y18 y19 y20 y21 y22 y23 y24 y25) sz)) 0 0 (va_A (wS50 cI cJ cZ cB p0 p1 p2 p3 p4 p5 p6 p7 p8 p9 p10 p11 p12 p13 p14 p15 p16 p17 p18 p19 p20 p21 p22 p23 p24 p25 x0_4 x0_5 x0_6 x0_7 x0_8 x0_12 x0_13 x0_14 x0_15 x0_16 x0_17 x0_18 x0_22 x0_23 x0_24 x0_25 x0_26 x0_27 x0_28 x0_29 x0_30 x0_31 x0_32 x0_36 x0_39 x0_40 x0_44 x0_49 x0_51 x0_53 x0_54 x0_55 x0_56 x0_57 x0_58 x0_59 x0_60 x0_61 x0_62 y1 y2 y3 y4 y5 y6 y7 y8 y9 y10 y11 y12 y13 y14 y15 y16 y17 y18 y19 y20 y21 y22 y23 y24 y25) sz) := by
  refine Met.ofW (cc := b_X_feed) (maxL := 8) (ret := (some .int)) (by decide) rfl ?_
  intro p e s m args below meth c s₁ B hml hv
  obtain ⟨rfl, hsz, hK, hP, hD0⟩ := hv
  subst hsz
  have hD := hD0.self (sz := s.heap.size)
  generalize hAe : va_A (wS50 cI cJ cZ cB p0 p1 p2 p3 p4 p5 p6 p7 p8 p9 p10 p11 p12 p13 p14 p15 p16 p17 p18 p19 p20 p21 p22 p23 p24 p25 x0_4 x0_5 x0_6 x0_7 x0_8 x0_12 x0_13 x0_14 x0_15 x0_16 x0_17 x0_18 x0_22 x0_23 x0_24 x0_25 x0_26 x0_27 x0_28 x0_29 x0_30 x0_31 x0_32 x0_36 x0_39 x0_40 x0_44 x0_49 x0_51 x0_53 x0_54 x0_55 x0_56 x0_57 x0_58 x0_59 x0_60 x0_61 x0_62 y1 y2 y3 y4 y5 y6 y7 y8 y9 y10 y11 y12 y13 y14 y15 y16 y17 y18 y19 y20 y21 y22 y23 y24 y25) s.heap.size = A at hD ⊢
  have hA : ∀ q : Nat, s.heap.size ≤ q → A q := fun q h => by rw [← hAe]; exact Or.inr h
  clear hAe hD0
  have hS : va_S A s.heap s.heap [] := va_S.rf
  have hx := B.exec
  have hb := B.bytes
  have hr := B.returns
  have hts := atoms_spec (ws := .code y_X_feed b_X_feed 8 (some .int) :: tb) B.pre
  have hk : ∀ w ∈ tb, w.before [.ref p0, .int a1, .int a2, .int a3, .int a4, .int a5].toArray s = true := fun w h => hts w (List.mem_cons_of_mem _ h)
  have hown : s.vm.findClass "SignMachineModel" = some m.cls := findClass_of_methodNamed B.named
  have hlocks := B.notSynchronized
  have hl := lv_entry ([.ref p0, .int a1, .int a2, .int a3, .int a4, .int a5]) (n := 8) (Nat.le_of_ble_eq_true rfl)
  rw [lg_entry_eq]
  generalize (lg_sl ([.ref p0, .int a1, .int a2, .int a3, .int a4, .int a5]) ++ List.replicate (8 - (lg_sl ([.ref p0, .int a1, .int a2, .int a3, .int a4, .int a5])).length) Slot.unset).toArray = ls at hl ⊢
  have hl : lv_has ls 8 [(0, .ref p0), (1, .int a1), (2, .int a2), (3, .int a3), (4, .int a4), (5, .int a5)] := hl
  clear hts B
  refine lv_aload_n hx hb d_X_feed_0 rfl (lv_at hl 0 rfl) ?_
  refine va_get (D := D) (ci := 7) (v := .int x0_22) (C := "SignMachineModel") (T := F_X) (N := 64) hx hb hk fi_X hown hK.1 hP 0 rfl rfl 22 (by decide) (hk _ k_1143) (fun _ h9 => h9) rfl d_X_feed_1 ?_
  refine lv_bipush (v := 20) hx hb d_X_feed_4 (by decide) ?_
  refine lv_iadd hx hb d_X_feed_6 ?_
  refine lv_topi (fun v1 hv1 => ?_)
  obtain ⟨ev1, Rv1⟩ : v1.toInt = x0_22.toInt + 20 ∧ (20 ≤ v1.toInt ∧ v1.toInt ≤ 4020) := ad3 hv1 Rx0_22 (by decide) (by decide) (by decide) (by decide) (by decide)
  refine lv_sipush (v := 4000) hx hb d_X_feed_7 (by decide) ?_
  refine lv_icmp_le (tgt := 15) hx hb d_X_feed_10 (by decide) (fun c2 => ?_) (fun c2 => ?_)
  · have gc2 : v1.toInt ≤ 4000 := c_le c2
    have R3 : 20 ≤ v1.toInt ∧ v1.toInt ≤ 4000 := by omega
    refine lv_iconst (v := 0) hx hb d_X_feed_15 (by decide) ?_
    refine lv_istore (lv' := [(6, .int (0 : Int32)), (0, .ref p0), (1, .int a1), (2, .int a2), (3, .int a3), (4, .int a4), (5, .int a5)]) hx hb d_X_feed_16 hl (by decide) rfl (fun ls hl => ?_)
    have CUT18 : ∀ (n : Nat) (g18l6 : Int32) (g18x0_22 : Int32) (g18y10 : Nat → Int32) (H : Heap) (locs : List Loc) (ls : Array Slot), (20 - g18l6.toInt) < (n : Int) → (0 ≤ g18l6.toInt ∧ g18l6.toInt ≤ 20) → (0 ≤ g18x0_22.toInt ∧ g18x0_22.toInt ≤ 4000) → (g18x0_22.toInt = x0_22.toInt + g18l6.toInt) → va_P D classes (wS50 cI cJ cZ cB p0 p1 p2 p3 p4 p5 p6 p7 p8 p9 p10 p11 p12 p13 p14 p15 p16 p17 p18 p19 p20 p21 p22 p23 p24 p25 x0_4 x0_5 x0_6 x0_7 x0_8 x0_12 x0_13 x0_14 x0_15 x0_16 x0_17 x0_18 g18x0_22 x0_23 x0_24 x0_25 x0_26 x0_27 x0_28 x0_29 x0_30 x0_31 x0_32 x0_36 x0_39 x0_40 x0_44 x0_49 x0_51 x0_53 x0_54 x0_55 x0_56 x0_57 x0_58 x0_59 x0_60 x0_61 x0_62 y1 y2 y3 y4 y5 y6 y7 y8 y9 g18y10 y11 y12 y13 y14 y15 y16 y17 y18 y19 y20 y21 y22 y23 y24 y25) H → va_D A (wS50 cI cJ cZ cB p0 p1 p2 p3 p4 p5 p6 p7 p8 p9 p10 p11 p12 p13 p14 p15 p16 p17 p18 p19 p20 p21 p22 p23 p24 p25 x0_4 x0_5 x0_6 x0_7 x0_8 x0_12 x0_13 x0_14 x0_15 x0_16 x0_17 x0_18 g18x0_22 x0_23 x0_24 x0_25 x0_26 x0_27 x0_28 x0_29 x0_30 x0_31 x0_32 x0_36 x0_39 x0_40 x0_44 x0_49 x0_51 x0_53 x0_54 x0_55 x0_56 x0_57 x0_58 x0_59 x0_60 x0_61 x0_62 y1 y2 y3 y4 y5 y6 y7 y8 y9 g18y10 y11 y12 y13 y14 y15 y16 y17 y18 y19 y20 y21 y22 y23 y24 y25) → va_S A s.heap H locs → lv_has ls 8 [(6, .int g18l6), (0, .ref p0), (1, .int a1), (2, .int a2), (3, .int a3), (4, .int a4), (5, .int a5)] → W p l e ({ frames := 0, cells := 0, slots := 0, locals := 0 }) s m [.ref p0, .int a1, .int a2, .int a3, .int a4, .int a5].toArray below meth c H locs 0 0 (MQ below (va_Qi (fun r (u : Int32) => r = u) (fun ur t => ∃ u_x0_22 : Int32, ∃ u_y10 : Nat → Int32, (0 ≤ u_x0_22.toInt ∧ u_x0_22.toInt ≤ 4000) ∧ (x0_22.toInt ≤ 3980 → (ur.toInt = x0_22.toInt + 20 ∧ u_x0_22.toInt = x0_22.toInt + 20)) ∧ (3980 < x0_22.toInt → (ur.toInt = -1 ∧ u_x0_22.toInt = x0_22.toInt)) ∧ va_P D classes (wS50 cI cJ cZ cB p0 p1 p2 p3 p4 p5 p6 p7 p8 p9 p10 p11 p12 p13 p14 p15 p16 p17 p18 p19 p20 p21 p22 p23 p24 p25 x0_4 x0_5 x0_6 x0_7 x0_8 x0_12 x0_13 x0_14 x0_15 x0_16 x0_17 x0_18 u_x0_22 x0_23 x0_24 x0_25 x0_26 x0_27 x0_28 x0_29 x0_30 x0_31 x0_32 x0_36 x0_39 x0_40 x0_44 x0_49 x0_51 x0_53 x0_54 x0_55 x0_56 x0_57 x0_58 x0_59 x0_60 x0_61 x0_62 y1 y2 y3 y4 y5 y6 y7 y8 y9 u_y10 y11 y12 y13 y14 y15 y16 y17 y18 y19 y20 y21 y22 y23 y24 y25) t.heap ∧ va_D A (wS50 cI cJ cZ cB p0 p1 p2 p3 p4 p5 p6 p7 p8 p9 p10 p11 p12 p13 p14 p15 p16 p17 p18 p19 p20 p21 p22 p23 p24 p25 x0_4 x0_5 x0_6 x0_7 x0_8 x0_12 x0_13 x0_14 x0_15 x0_16 x0_17 x0_18 u_x0_22 x0_23 x0_24 x0_25 x0_26 x0_27 x0_28 x0_29 x0_30 x0_31 x0_32 x0_36 x0_39 x0_40 x0_44 x0_49 x0_51 x0_53 x0_54 x0_55 x0_56 x0_57 x0_58 x0_59 x0_60 x0_61 x0_62 y1 y2 y3 y4 y5 y6 y7 y8 y9 u_y10 y11 y12 y13 y14 y15 y16 y17 y18 y19 y20 y21 y22 y23 y24 y25)) A) [.ref p0, .int a1, .int a2, .int a3, .int a4, .int a5].toArray s 0 0 A) (F0 m 18 ls []) := by
      intro n
      induction n with
      | zero => intro g18l6 g18x0_22 g18y10 H locs ls hn18 Rg18l6 Rg18x0_22 I18_0 hP hD hS hl; exfalso; omega
      | succ n ih18 =>
        intro g18l6 g18x0_22 g18y10 H locs ls hn18 Rg18l6 Rg18x0_22 I18_0 hP hD hS hl
        refine lv_iload hx hb d_X_feed_18 (lv_at hl 0 rfl) ?_
        refine lv_bipush (v := 20) hx hb d_X_feed_20 (by decide) ?_
        refine lv_icmp_ge (tgt := 115) hx hb d_X_feed_22 (by decide) (fun c4 => ?_) (fun c4 => ?_)
        · have gc4 : 20 ≤ g18l6.toInt := c_le c4
          have R5 : 20 ≤ g18l6.toInt ∧ g18l6.toInt ≤ 20 := by omega
          refine lv_aload_n hx hb d_X_feed_115 rfl (lv_at hl 1 rfl) ?_
          refine va_get (D := D) (ci := 7) (v := .int g18x0_22) (C := "SignMachineModel") (T := F_X) (N := 64) hx hb hk fi_X hown hK.1 hP 0 rfl rfl 22 (by decide) (hk _ k_1143) (fun _ h9 => h9) rfl d_X_feed_116 ?_
          exact W.iret (v := g18x0_22) hx hb hr (fun t ht hW => ⟨⟨g18x0_22, g18x0_22, rfl, rfl, ⟨g18x0_22, g18y10, Rg18x0_22, (by omega), (by omega), by show va_P D classes _ t.heap; rw [ht]; exact hP, hD⟩⟩, hS.F ht⟩) hS.2.2 d_X_feed_119
        · have gc4 : g18l6.toInt < 20 := c_nle c4
          have R6 : 0 ≤ g18l6.toInt ∧ g18l6.toInt ≤ 19 := by omega
          have CUT73 : ∀ (g73l7 : Int32)  (H : Heap) (locs : List Loc) (ls : Array Slot), va_P D classes (wS50 cI cJ cZ cB p0 p1 p2 p3 p4 p5 p6 p7 p8 p9 p10 p11 p12 p13 p14 p15 p16 p17 p18 p19 p20 p21 p22 p23 p24 p25 x0_4 x0_5 x0_6 x0_7 x0_8 x0_12 x0_13 x0_14 x0_15 x0_16 x0_17 x0_18 g18x0_22 x0_23 x0_24 x0_25 x0_26 x0_27 x0_28 x0_29 x0_30 x0_31 x0_32 x0_36 x0_39 x0_40 x0_44 x0_49 x0_51 x0_53 x0_54 x0_55 x0_56 x0_57 x0_58 x0_59 x0_60 x0_61 x0_62 y1 y2 y3 y4 y5 y6 y7 y8 y9 g18y10 y11 y12 y13 y14 y15 y16 y17 y18 y19 y20 y21 y22 y23 y24 y25) H → va_D A (wS50 cI cJ cZ cB p0 p1 p2 p3 p4 p5 p6 p7 p8 p9 p10 p11 p12 p13 p14 p15 p16 p17 p18 p19 p20 p21 p22 p23 p24 p25 x0_4 x0_5 x0_6 x0_7 x0_8 x0_12 x0_13 x0_14 x0_15 x0_16 x0_17 x0_18 g18x0_22 x0_23 x0_24 x0_25 x0_26 x0_27 x0_28 x0_29 x0_30 x0_31 x0_32 x0_36 x0_39 x0_40 x0_44 x0_49 x0_51 x0_53 x0_54 x0_55 x0_56 x0_57 x0_58 x0_59 x0_60 x0_61 x0_62 y1 y2 y3 y4 y5 y6 y7 y8 y9 g18y10 y11 y12 y13 y14 y15 y16 y17 y18 y19 y20 y21 y22 y23 y24 y25) → va_S A s.heap H locs → lv_has ls 8 [(6, .int g18l6), (0, .ref p0), (1, .int a1), (2, .int a2), (3, .int a3), (4, .int a4), (5, .int a5), (7, .int g73l7)] → W p l e ({ frames := 0, cells := 0, slots := 0, locals := 0 }) s m [.ref p0, .int a1, .int a2, .int a3, .int a4, .int a5].toArray below meth c H locs 0 0 (MQ below (va_Qi (fun r (u : Int32) => r = u) (fun ur t => ∃ u_x0_22 : Int32, ∃ u_y10 : Nat → Int32, (0 ≤ u_x0_22.toInt ∧ u_x0_22.toInt ≤ 4000) ∧ (x0_22.toInt ≤ 3980 → (ur.toInt = x0_22.toInt + 20 ∧ u_x0_22.toInt = x0_22.toInt + 20)) ∧ (3980 < x0_22.toInt → (ur.toInt = -1 ∧ u_x0_22.toInt = x0_22.toInt)) ∧ va_P D classes (wS50 cI cJ cZ cB p0 p1 p2 p3 p4 p5 p6 p7 p8 p9 p10 p11 p12 p13 p14 p15 p16 p17 p18 p19 p20 p21 p22 p23 p24 p25 x0_4 x0_5 x0_6 x0_7 x0_8 x0_12 x0_13 x0_14 x0_15 x0_16 x0_17 x0_18 u_x0_22 x0_23 x0_24 x0_25 x0_26 x0_27 x0_28 x0_29 x0_30 x0_31 x0_32 x0_36 x0_39 x0_40 x0_44 x0_49 x0_51 x0_53 x0_54 x0_55 x0_56 x0_57 x0_58 x0_59 x0_60 x0_61 x0_62 y1 y2 y3 y4 y5 y6 y7 y8 y9 u_y10 y11 y12 y13 y14 y15 y16 y17 y18 y19 y20 y21 y22 y23 y24 y25) t.heap ∧ va_D A (wS50 cI cJ cZ cB p0 p1 p2 p3 p4 p5 p6 p7 p8 p9 p10 p11 p12 p13 p14 p15 p16 p17 p18 p19 p20 p21 p22 p23 p24 p25 x0_4 x0_5 x0_6 x0_7 x0_8 x0_12 x0_13 x0_14 x0_15 x0_16 x0_17 x0_18 u_x0_22 x0_23 x0_24 x0_25 x0_26 x0_27 x0_28 x0_29 x0_30 x0_31 x0_32 x0_36 x0_39 x0_40 x0_44 x0_49 x0_51 x0_53 x0_54 x0_55 x0_56 x0_57 x0_58 x0_59 x0_60 x0_61 x0_62 y1 y2 y3 y4 y5 y6 y7 y8 y9 u_y10 y11 y12 y13 y14 y15 y16 y17 y18 y19 y20 y21 y22 y23 y24 y25)) A) [.ref p0, .int a1, .int a2, .int a3, .int a4, .int a5].toArray s 0 0 A) (F0 m 73 ls []) := by
            intro g73l7 H locs ls  hP hD hS hl
            refine lv_aload_n hx hb d_X_feed_73 rfl (lv_at hl 1 rfl) ?_
            refine va_get (D := D) (ci := 7) (v := .ref p10) (C := "SignMachineModel") (T := F_X) (N := 64) hx hb hk fi_X hown hK.1 hP 0 rfl rfl 21 (by decide) (hk _ k_1142) (fun _ h9 => h9) rfl d_X_feed_74 ?_
            refine lv_aload_n hx hb d_X_feed_77 rfl (lv_at hl 1 rfl) ?_
            refine va_get (D := D) (ci := 7) (v := .int g18x0_22) (C := "SignMachineModel") (T := F_X) (N := 64) hx hb hk fi_X hown hK.1 hP 0 rfl rfl 22 (by decide) (hk _ k_1143) (fun _ h9 => h9) rfl d_X_feed_78 ?_
            refine lv_iload hx hb d_X_feed_81 (lv_at hl 7 rfl) ?_
            refine lv_bipush (v := 24) hx hb d_X_feed_83 (by decide) ?_
            refine lv_bipush (v := 8) hx hb d_X_feed_85 (by decide) ?_
            refine lv_iload hx hb d_X_feed_87 (lv_at hl 0 rfl) ?_
            refine lv_iconst (v := 4) hx hb d_X_feed_89 (by decide) ?_
            refine lv_irem hx hb d_X_feed_90 (by decide) ?_
            refine lv_topi (fun v7 hv7 => ?_)
            obtain ⟨ev7, lv7, Rv7⟩ : v7.toInt = g18l6.toInt % 4 ∧ v7.toInt < 4 ∧ (0 ≤ v7.toInt ∧ v7.toInt ≤ 3) := rm3 hv7 R6 (by decide) (by decide) (by decide) (by decide)
            refine lv_imul hx hb d_X_feed_91 ?_
            refine lv_topi (fun v8 hv8 => ?_)
            obtain ⟨ev8, Rv8⟩ : v8.toInt = 8 * v7.toInt ∧ (0 ≤ v8.toInt ∧ v8.toInt ≤ 24) := ml3 hv8 (by decide) Rv7 (by decide) (by decide) (by decide) (by decide) (by decide) (by decide)
            refine lv_isub hx hb d_X_feed_92 ?_
            refine lv_topi (fun v9 hv9 => ?_)
            obtain ⟨ev9, Rv9⟩ : v9.toInt = 24 - v8.toInt ∧ (0 ≤ v9.toInt ∧ v9.toInt ≤ 24) := sb3 hv9 (by decide) Rv8 (by decide) (by decide) (by decide) (by decide)
            refine lv_ishr hx hb d_X_feed_93 ?_
            refine lv_topi (fun v10 hv10 => ?_)
            refine lv_sipush (v := 255) hx hb d_X_feed_94 (by decide) ?_
            refine lv_iand hx hb d_X_feed_97 ?_
            refine lv_topi (fun v11 hv11 => ?_)
            refine va_iast hx hb hK.1 hP hD hS 10 0 rfl rfl (by rw [vp_in_iff]; omega) d_X_feed_98 (fun H locs hP hD hS => ?_)
            have hP : va_P D classes (wS50 cI cJ cZ cB p0 p1 p2 p3 p4 p5 p6 p7 p8 p9 p10 p11 p12 p13 p14 p15 p16 p17 p18 p19 p20 p21 p22 p23 p24 p25 x0_4 x0_5 x0_6 x0_7 x0_8 x0_12 x0_13 x0_14 x0_15 x0_16 x0_17 x0_18 g18x0_22 x0_23 x0_24 x0_25 x0_26 x0_27 x0_28 x0_29 x0_30 x0_31 x0_32 x0_36 x0_39 x0_40 x0_44 x0_49 x0_51 x0_53 x0_54 x0_55 x0_56 x0_57 x0_58 x0_59 x0_60 x0_61 x0_62 y1 y2 y3 y4 y5 y6 y7 y8 y9 (upd g18y10 (g18x0_22).toNatClampNeg v11) y11 y12 y13 y14 y15 y16 y17 y18 y19 y20 y21 y22 y23 y24 y25) H := hP
            have hD : va_D A (wS50 cI cJ cZ cB p0 p1 p2 p3 p4 p5 p6 p7 p8 p9 p10 p11 p12 p13 p14 p15 p16 p17 p18 p19 p20 p21 p22 p23 p24 p25 x0_4 x0_5 x0_6 x0_7 x0_8 x0_12 x0_13 x0_14 x0_15 x0_16 x0_17 x0_18 g18x0_22 x0_23 x0_24 x0_25 x0_26 x0_27 x0_28 x0_29 x0_30 x0_31 x0_32 x0_36 x0_39 x0_40 x0_44 x0_49 x0_51 x0_53 x0_54 x0_55 x0_56 x0_57 x0_58 x0_59 x0_60 x0_61 x0_62 y1 y2 y3 y4 y5 y6 y7 y8 y9 (upd g18y10 (g18x0_22).toNatClampNeg v11) y11 y12 y13 y14 y15 y16 y17 y18 y19 y20 y21 y22 y23 y24 y25) := hD
            obtain ⟨v12, hv12⟩ : ∃ y : Nat → Int32, y = (upd g18y10 (g18x0_22).toNatClampNeg v11) := ⟨_, rfl⟩
            rw [← hv12] at hP hD
            clear hv12
            refine lv_aload_n hx hb d_X_feed_99 rfl (lv_at hl 1 rfl) ?_
            refine lv_dup hx hb d_X_feed_100 rfl ?_
            refine va_get (D := D) (ci := 7) (v := .int g18x0_22) (C := "SignMachineModel") (T := F_X) (N := 64) hx hb hk fi_X hown hK.1 hP 0 rfl rfl 22 (by decide) (hk _ k_1143) (fun _ h9 => h9) rfl d_X_feed_101 ?_
            refine lv_iconst (v := 1) hx hb d_X_feed_104 (by decide) ?_
            refine lv_iadd hx hb d_X_feed_105 ?_
            refine lv_topi (fun v13 hv13 => ?_)
            obtain ⟨ev13, Rv13⟩ : v13.toInt = g18x0_22.toInt + 1 ∧ (1 ≤ v13.toInt ∧ v13.toInt ≤ 4001) := ad3 hv13 Rg18x0_22 (by decide) (by decide) (by decide) (by decide) (by decide)
            refine va_put (D := D) (ci := 7) (v := .int v13) (ty := .int) (C := "SignMachineModel") (T := F_X) (N := 64) hx hb hk fi_X ft_X ft_X_ok fn_X hown hK.1 hP hD hS 0 rfl rfl 22 (by decide) (hk _ k_1143) (fun _ h9 => h9) rfl (by decide +kernel) rfl rfl (Nat.le_of_ble_eq_true rfl) d_X_feed_106 (fun H locs hP hD hS => ?_)
            have hP : va_P D classes (wS50 cI cJ cZ cB p0 p1 p2 p3 p4 p5 p6 p7 p8 p9 p10 p11 p12 p13 p14 p15 p16 p17 p18 p19 p20 p21 p22 p23 p24 p25 x0_4 x0_5 x0_6 x0_7 x0_8 x0_12 x0_13 x0_14 x0_15 x0_16 x0_17 x0_18 v13 x0_23 x0_24 x0_25 x0_26 x0_27 x0_28 x0_29 x0_30 x0_31 x0_32 x0_36 x0_39 x0_40 x0_44 x0_49 x0_51 x0_53 x0_54 x0_55 x0_56 x0_57 x0_58 x0_59 x0_60 x0_61 x0_62 y1 y2 y3 y4 y5 y6 y7 y8 y9 v12 y11 y12 y13 y14 y15 y16 y17 y18 y19 y20 y21 y22 y23 y24 y25) H := hP
            have hD : va_D A (wS50 cI cJ cZ cB p0 p1 p2 p3 p4 p5 p6 p7 p8 p9 p10 p11 p12 p13 p14 p15 p16 p17 p18 p19 p20 p21 p22 p23 p24 p25 x0_4 x0_5 x0_6 x0_7 x0_8 x0_12 x0_13 x0_14 x0_15 x0_16 x0_17 x0_18 v13 x0_23 x0_24 x0_25 x0_26 x0_27 x0_28 x0_29 x0_30 x0_31 x0_32 x0_36 x0_39 x0_40 x0_44 x0_49 x0_51 x0_53 x0_54 x0_55 x0_56 x0_57 x0_58 x0_59 x0_60 x0_61 x0_62 y1 y2 y3 y4 y5 y6 y7 y8 y9 v12 y11 y12 y13 y14 y15 y16 y17 y18 y19 y20 y21 y22 y23 y24 y25) := hD
            obtain ⟨v14, hv14⟩ : ∃ y : Int32, y = (g18l6 + (1 : Int32)) := ⟨_, rfl⟩
            obtain ⟨ev14, Rv14⟩ : v14.toInt = g18l6.toInt + 1 ∧ (1 ≤ v14.toInt ∧ v14.toInt ≤ 20) := ad3 hv14 R6 (y := (1 : Int32)) (c := 1) (d := 1) (by decide) (by decide) (by decide) (by decide) (by decide)
            refine lv_iinc (v := v14) (lv' := [(6, .int v14), (0, .ref p0), (1, .int a1), (2, .int a2), (3, .int a3), (4, .int a4), (5, .int a5), (7, .int g73l7)]) hx hb d_X_feed_109 hl (k := 0) rfl (by rw [hv14]; rfl) (by decide) rfl (fun ls hl => ?_)
            refine lv_goto (tgt := 18) hx hb d_X_feed_112 (by decide) ?_
            exact ih18 v14 v13 v12 H _ ls (show 20 - v14.toInt < (n : Int) from by omega) (rgw Rv14 (by decide) (by decide)) (by omega) (show v13.toInt = x0_22.toInt + v14.toInt from by omega) hP hD hS (lv_sub hl [0, 1, 2, 3, 4, 5, 6] rfl)
          refine lv_iload hx hb d_X_feed_25 (lv_at hl 0 rfl) ?_
          refine lv_iconst (v := 4) hx hb d_X_feed_27 (by decide) ?_
          refine lv_icmp_ge (tgt := 35) hx hb d_X_feed_28 (by decide) (fun c15 => ?_) (fun c15 => ?_)
          · have gc15 : 4 ≤ g18l6.toInt := c_le c15
            have R16 : 4 ≤ g18l6.toInt ∧ g18l6.toInt ≤ 19 := by omega
            refine lv_iload hx hb d_X_feed_35 (lv_at hl 0 rfl) ?_
            refine lv_bipush (v := 8) hx hb d_X_feed_37 (by decide) ?_
            refine lv_icmp_ge (tgt := 46) hx hb d_X_feed_39 (by decide) (fun c17 => ?_) (fun c17 => ?_)
            · have gc17 : 8 ≤ g18l6.toInt := c_le c17
              have R18 : 8 ≤ g18l6.toInt ∧ g18l6.toInt ≤ 19 := by omega
              refine lv_iload hx hb d_X_feed_46 (lv_at hl 0 rfl) ?_
              refine lv_bipush (v := 12) hx hb d_X_feed_48 (by decide) ?_
              refine lv_icmp_ge (tgt := 57) hx hb d_X_feed_50 (by decide) (fun c19 => ?_) (fun c19 => ?_)
              · have gc19 : 12 ≤ g18l6.toInt := c_le c19
                have R20 : 12 ≤ g18l6.toInt ∧ g18l6.toInt ≤ 19 := by omega
                refine lv_iload hx hb d_X_feed_57 (lv_at hl 0 rfl) ?_
                refine lv_bipush (v := 16) hx hb d_X_feed_59 (by decide) ?_
                refine lv_icmp_ge (tgt := 69) hx hb d_X_feed_61 (by decide) (fun c21 => ?_) (fun c21 => ?_)
                · have gc21 : 16 ≤ g18l6.toInt := c_le c21
                  have R22 : 16 ≤ g18l6.toInt ∧ g18l6.toInt ≤ 19 := by omega
                  refine lv_iload hx hb d_X_feed_69 (lv_at hl 6 rfl) ?_
                  refine lv_istore (lv' := [(7, .int a5), (6, .int g18l6), (0, .ref p0), (1, .int a1), (2, .int a2), (3, .int a3), (4, .int a4), (5, .int a5)]) hx hb d_X_feed_71 hl (by decide) rfl (fun ls hl => ?_)
                  exact CUT73 a5 H _ ls  hP hD hS (lv_sub hl [1, 2, 3, 4, 5, 6, 7, 0] rfl)
                · have gc21 : g18l6.toInt < 16 := c_nle c21
                  have R23 : 12 ≤ g18l6.toInt ∧ g18l6.toInt ≤ 15 := by omega
                  refine lv_iload hx hb d_X_feed_64 (lv_at hl 5 rfl) ?_
                  refine lv_goto (tgt := 71) hx hb d_X_feed_66 (by decide) ?_
                  refine lv_istore (lv' := [(7, .int a4), (6, .int g18l6), (0, .ref p0), (1, .int a1), (2, .int a2), (3, .int a3), (4, .int a4), (5, .int a5)]) hx hb d_X_feed_71 hl (by decide) rfl (fun ls hl => ?_)
                  exact CUT73 a4 H _ ls  hP hD hS (lv_sub hl [1, 2, 3, 4, 5, 6, 7, 0] rfl)
              · have gc19 : g18l6.toInt < 12 := c_nle c19
                have R24 : 8 ≤ g18l6.toInt ∧ g18l6.toInt ≤ 11 := by omega
                refine lv_iload_n hx hb d_X_feed_53 rfl (lv_at hl 4 rfl) ?_
                refine lv_goto (tgt := 71) hx hb d_X_feed_54 (by decide) ?_
                refine lv_istore (lv' := [(7, .int a3), (6, .int g18l6), (0, .ref p0), (1, .int a1), (2, .int a2), (3, .int a3), (4, .int a4), (5, .int a5)]) hx hb d_X_feed_71 hl (by decide) rfl (fun ls hl => ?_)
                exact CUT73 a3 H _ ls  hP hD hS (lv_sub hl [1, 2, 3, 4, 5, 6, 7, 0] rfl)
            · have gc17 : g18l6.toInt < 8 := c_nle c17
              have R25 : 4 ≤ g18l6.toInt ∧ g18l6.toInt ≤ 7 := by omega
              refine lv_iload_n hx hb d_X_feed_42 rfl (lv_at hl 3 rfl) ?_
              refine lv_goto (tgt := 71) hx hb d_X_feed_43 (by decide) ?_
              refine lv_istore (lv' := [(7, .int a2), (6, .int g18l6), (0, .ref p0), (1, .int a1), (2, .int a2), (3, .int a3), (4, .int a4), (5, .int a5)]) hx hb d_X_feed_71 hl (by decide) rfl (fun ls hl => ?_)
              exact CUT73 a2 H _ ls  hP hD hS (lv_sub hl [1, 2, 3, 4, 5, 6, 7, 0] rfl)
          · have gc15 : g18l6.toInt < 4 := c_nle c15
            have R26 : 0 ≤ g18l6.toInt ∧ g18l6.toInt ≤ 3 := by omega
            refine lv_iload_n hx hb d_X_feed_31 rfl (lv_at hl 2 rfl) ?_
            refine lv_goto (tgt := 71) hx hb d_X_feed_32 (by decide) ?_
            refine lv_istore (lv' := [(7, .int a1), (6, .int g18l6), (0, .ref p0), (1, .int a1), (2, .int a2), (3, .int a3), (4, .int a4), (5, .int a5)]) hx hb d_X_feed_71 hl (by decide) rfl (fun ls hl => ?_)
            exact CUT73 a1 H _ ls  hP hD hS (lv_sub hl [1, 2, 3, 4, 5, 6, 7, 0] rfl)
    exact CUT18 ((20 - 0).toNat + 1) (0 : Int32) x0_22 y10 s.heap _ ls (by omega) (by decide) Rx0_22 (show x0_22.toInt = x0_22.toInt + 0 from by omega) hP hD hS (lv_sub hl [0, 1, 2, 3, 4, 5, 6] rfl)
  · have gc2 : 4000 < v1.toInt := c_nle c2
    have R27 : 4001 ≤ v1.toInt ∧ v1.toInt ≤ 4020 := by omega
    refine lv_iconst (v := (-1)) hx hb d_X_feed_13 (by decide) ?_
    exact W.iret (v := (-1 : Int32)) hx hb hr (fun t ht hW => ⟨⟨(-1 : Int32), (-1 : Int32), rfl, rfl, ⟨x0_22, y10, Rx0_22, (by omega), (by omega), by show va_P D classes _ t.heap; rw [ht]; exact hP, hD⟩⟩, hS.F ht⟩) hS.2.2 d_X_feed_14
theorem v_X_feed {R : Room} {s : State} {args : Array Value} {own : String} {index : Nat} (hk : ∀ w ∈ tb, w.before args s = true) (hl : Cond.methodLink own index y_X_feed ∈ tb) (hR : 0 + 1 ≤ R.frames ∧ 8 + (8 + 11) + 0 ≤ R.locals) : CallW R s args own "SignMachineModel" index y_X_feed b_X_feed 8 (some .int) (.code y_X_feed b_X_feed 8 (some .int) :: tb) ({ frames := 0, cells := 0, slots := 0, locals := 0 }) 0 0 5 := mk_v 5 hk k_1511 hl k_1509 k_1510 k_119 rfl rfl h_X_feed hR
set_option maxHeartbeats 8000000 in
set_option maxRecDepth 100000 in
theorem c_X_end (l : Launch) (D : va_G) (cI cJ cZ cB : ClassId) (p0 p1 p2 p3 p4 p5 p6 p7 p8 p9 p10 p11 p12 p13 p14 p15 p16 p17 p18 p19 p20 p21 p22 p23 p24 p25 : Nat) (sz : Nat) (x0_4 : Int32) (x0_5 : Int32) (x0_6 : Int32) (x0_7 : Int32) (x0_8 : Int32) (x0_12 : Int32) (x0_13 : Int32) (x0_14 : Int32) (x0_15 : Int32) (x0_16 : Int32) (x0_17 : Int32) (x0_18 : Int32) (x0_22 : Int32) (x0_23 : Int32) (x0_24 : Int32) (x0_25 : Int32) (x0_26 : Int32) (x0_27 : Int32) (x0_28 : Int32) (x0_29 : Int32) (x0_30 : Int32) (x0_31 : Int32) (x0_32 : Int32) (x0_36 : Int32) (x0_39 : Int32) (x0_40 : Int64) (x0_44 : Int32) (x0_49 : Int32) (x0_51 : Int32) (x0_53 : Int32) (x0_54 : Int32) (x0_55 : Int64) (x0_56 : Int32) (x0_57 : Int32) (x0_58 : Int32) (x0_59 : Int32) (x0_60 : Int32) (x0_61 : Int32) (x0_62 : Int64) (y1 : Nat → Int32) (y2 : Nat → Int32) (y3 : Nat → Int32) (y4 : Nat → Int32) (y5 : Nat → Int32) (y6 : Nat → Int32) (y7 : Nat → Int32) (y8 : Nat → Int32) (y9 : Nat → Int32) (y10 : Nat → Int32) (y11 : Nat → Int64) (y12 : Nat → Int32) (y13 : Nat → Int64) (y14 : Nat → Int32) (y15 : Nat → Int64) (y16 : Nat → Int32) (y17 : Nat → Int32) (y18 : Nat → Int32) (y19 : Nat → Int32) (y20 : Nat → Int32) (y21 : Nat → Int32) (y22 : Nat → Int32) (y23 : Nat → Int32) (y24 : Nat → Int64) (y25 : Nat → Int64) (a1 : Int32) (Rx0_22 : 0 ≤ x0_22.toInt ∧ x0_22.toInt ≤ 4000) : Met l y_X_end (.code y_X_end b_X_end 2 (some .int) :: tb) ({ frames := 1, cells := 0, slots := 0, locals := 25 }) (pM D cI cJ cZ cB (wS50 cI cJ cZ cB p0 p1 p2 p3 p4 p5 p6 p7 p8 p9 p10 p11 p12 p13 p14 p15 p16 p17 p18 p19 p20 p21 p22 p23 p24 p25 x0_4 x0_5 x0_6 x0_7 x0_8 x0_12 x0_13 x0_14 x0_15 x0_16 x0_17 x0_18 x0_22 x0_23 x0_24 x0_25 x0_26 x0_27 x0_28 x0_29 x0_30 x0_31 x0_32 x0_36 x0_39 x0_40 x0_44 x0_49 x0_51 x0_53 x0_54 x0_55 x0_56 x0_57 x0_58 x0_59 x0_60 x0_61 x0_62 y1 y2 y3 y4 y5 y6 y7 y8 y9 y10 y11 y12 y13 y14 y15 y16 y17 y18 y19 y20 y21 y22 y23 y24 y25) sz [.ref p0, .int a1]) (va_Qi (fun r (u : Int32) => r = u) (fun ur t => ∃ u_x0_22 : Int32, (0 ≤ u_x0_22.toInt ∧ u_x0_22.toInt ≤ 4000) ∧ ((0 ≤ a1.toInt ∧ a1.toInt ≤ 20 ∧ 20 ≤ x0_22.toInt) → (ur.toInt = x0_22.toInt - 20 + a1.toInt ∧ u_x0_22.toInt = x0_22.toInt - 20 + a1.toInt)) ∧ (¬ (0 ≤ a1.toInt ∧ a1.toInt ≤ 20 ∧ 20 ≤ x0_22.toInt) → (ur.toInt = -1 ∧ u_x0_22.toInt = x0_22.toInt)) ∧ va_P D classes (wS50 cI cJ cZ cB p0 p1 p2 p3 p4 p5 p6 p7 p8 p9 p10 p11 p12 p13 p14 p15 p16 p17 p18 p19 p20 p21 p22 p23 p24 p25 x0_4 x0_5 x0_6 x0_7 x0_8 x0_12 x0_13 x0_14 x0_15 x0_16 x0_17 x0_18 u_x0_22 x0_23 x0_24 x0_25 x0_26 x0_27 x0_28 x0_29 x0_30 x0_31 x0_32 x0_36 x0_39 x0_40 x0_44 x0_49 x0_51 x0_53 x0_54 x0_55 x0_56 x0_57 x0_58 x0_59 x0_60 x0_61 x0_62 y1 y2 y3 y4 y5 y6 y7 y8 y9 y10 y11 y12 y13 y14 y15 y16 y17 y18 y19 y20 y21 y22 y23 y24 y25) t.heap ∧ va_D (va_A (wS50 cI cJ cZ cB p0 p1 p2 p3 p4 p5 p6 p7 p8 p9 p10 p11 p12 p13 p14 p15 p16 p17 p18 p19 p20 p21 p22 p23 p24 p25 x0_4 x0_5 x0_6 x0_7 x0_8 x0_12 x0_13 x0_14 x0_15 x0_16 x0_17 x0_18 x0_22 x0_23 x0_24 x0_25 x0_26 x0_27 x0_28 x0_29 x0_30 x0_31 x0_32 x0_36 x0_39 x0_40 x0_44 x0_49 x0_51 x0_53 x0_54 x0_55 x0_56 x0_57 x0_58 x0_59 x0_60 x0_61 x0_62 y1 y2 y3 y4 y5 y6 y7 y8 y9 y10 y11 y12 y13 y14 y15 y16 y17 y18 y19 y20 y21 y22 y23 y24 y25) sz) (wS50 cI cJ cZ cB p0 p1 p2 p3 p4 p5 p6 p7 p8 p9 p10 p11 p12 p13 p14 p15 p16 p17 p18 p19 p20 p21 p22 p23 p24 p25 x0_4 x0_5 x0_6 x0_7 x0_8 x0_12 x0_13 x0_14 x0_15 x0_16 x0_17 x0_18 u_x0_22 x0_23 x0_24 x0_25 x0_26 x0_27 x0_28 x0_29 x0_30 x0_31 x0_32 x0_36 x0_39 x0_40 x0_44 x0_49 x0_51 x0_53 x0_54 x0_55 x0_56 x0_57 x0_58 x0_59 x0_60 x0_61 x0_62 y1 y2 y3 y4 y5 y6 y7 y8 y9 y10 y11 y12 y13 y14 y15 y16 y17 y18 y19 y20 y21 y22 y23 y24 y25)) (va_A (wS50 cI cJ cZ cB p0 p1 p2 p3 p4 p5 p6 p7 p8 p9 p10 p11 p12 p13 p14 p15 p16 p17 p18 p19 p20 p21 p22 p23 p24 p25 x0_4 x0_5 x0_6 x0_7 x0_8 x0_12 x0_13 x0_14 x0_15 x0_16 x0_17 x0_18 x0_22 x0_23 x0_24 x0_25 x0_26 x0_27 x0_28 x0_29 x0_30 x0_31 x0_32 x0_36 x0_39 x0_40 x0_44 x0_49 x0_51 x0_53 x0_54 x0_55 x0_56 x0_57 x0_58 x0_59 x0_60 x0_61 x0_62 y1 y2 y3 y4 y5 y6 y7 y8 y9 y10 y11 y12 y13 y14 y15 y16 y17 y18 y19 y20 y21 y22 y23 y24 y25) sz)) 0 0 (va_A (wS50 cI cJ cZ cB p0 p1 p2 p3 p4 p5 p6 p7 p8 p9 p10 p11 p12 p13 p14 p15 p16 p17 p18 p19 p20 p21 p22 p23 p24 p25 x0_4 x0_5 x0_6 x0_7 x0_8 x0_12 x0_13 x0_14 x0_15 x0_16 x0_17 x0_18 x0_22 x0_23 x0_24 x0_25 x0_26 x0_27 x0_28 x0_29 x0_30 x0_31 x0_32 x0_36 x0_39 x0_40 x0_44 x0_49 x0_51 x0_53 x0_54 x0_55 x0_56 x0_57 x0_58 x0_59 x0_60 x0_61 x0_62 y1 y2 y3 y4 y5 y6 y7 y8 y9 y10 y11 y12 y13 y14 y15 y16 y17 y18 y19 y20 y21 y22 y23 y24 y25) sz) := by
  refine Met.ofW (cc := b_X_end) (maxL := 2) (ret := (some .int)) (by decide) rfl ?_
  intro p e s m args below meth c s₁ B hml hv
  obtain ⟨rfl, hsz, hK, hP, hD0⟩ := hv
  subst hsz
  have hD := hD0.self (sz := s.heap.size)
  generalize hAe : va_A (wS50 cI cJ cZ cB p0 p1 p2 p3 p4 p5 p6 p7 p8 p9 p10 p11 p12 p13 p14 p15 p16 p17 p18 p19 p20 p21 p22 p23 p24 p25 x0_4 x0_5 x0_6 x0_7 x0_8 x0_12 x0_13 x0_14 x0_15 x0_16 x0_17 x0_18 x0_22 x0_23 x0_24 x0_25 x0_26 x0_27 x0_28 x0_29 x0_30 x0_31 x0_32 x0_36 x0_39 x0_40 x0_44 x0_49 x0_51 x0_53 x0_54 x0_55 x0_56 x0_57 x0_58 x0_59 x0_60 x0_61 x0_62 y1 y2 y3 y4 y5 y6 y7 y8 y9 y10 y11 y12 y13 y14 y15 y16 y17 y18 y19 y20 y21 y22 y23 y24 y25) s.heap.size = A at hD ⊢
  have hA : ∀ q : Nat, s.heap.size ≤ q → A q := fun q h => by rw [← hAe]; exact Or.inr h
  clear hAe hD0
  have hS : va_S A s.heap s.heap [] := va_S.rf
  have hx := B.exec
  have hb := B.bytes
  have hr := B.returns
  have hts := atoms_spec (ws := .code y_X_end b_X_end 2 (some .int) :: tb) B.pre
  have hk : ∀ w ∈ tb, w.before [.ref p0, .int a1].toArray s = true := fun w h => hts w (List.mem_cons_of_mem _ h)
  have hown : s.vm.findClass "SignMachineModel" = some m.cls := findClass_of_methodNamed B.named
  have hlocks := B.notSynchronized
  have hl := lv_entry ([.ref p0, .int a1]) (n := 2) (Nat.le_of_ble_eq_true rfl)
  rw [lg_entry_eq]
  generalize (lg_sl ([.ref p0, .int a1]) ++ List.replicate (2 - (lg_sl ([.ref p0, .int a1])).length) Slot.unset).toArray = ls at hl ⊢
  have hl : lv_has ls 2 [(0, .ref p0), (1, .int a1)] := hl
  clear hts B
  refine lv_iload_n hx hb d_X_end_0 rfl (lv_at hl 1 rfl) ?_
  refine lv_i2l (v := (a1 : Int32).toInt64) hx hb d_X_end_1 rfl ?_
  refine lv_topl (fun v1 hv1 => ?_)
  obtain ⟨ev1, Rv1⟩ : v1.toInt = a1.toInt ∧ ((-2147483648) ≤ v1.toInt ∧ v1.toInt ≤ 2147483647) := il3 hv1 (fr3 a1)
  refine lv_lconst (v := 0) hx hb d_X_end_2 (by decide) ?_
  refine lv_ldc2 (v := 20) hx hb hown (hk _ k_1516) d_X_end_3 ?_
  refine vp_callSi (W.runS (As := [.long v1, .long (0 : Int64), .long (20 : Int64)]) (rest := []) ⟨hx, hb, hml, hown, hk⟩ (c_X_isIn l v1 (0 : Int64) (20 : Int64) ) (s_X_isIn hk k_1319 ⟨Nat.le_of_ble_eq_true rfl, Nat.le_of_ble_eq_true rfl⟩) ⟨fun a U g mk q => q, fun U hU hW => ⟨rfl, trivial⟩⟩ rfl rfl hl.1 rfl (lv_room (Nat.le_of_ble_eq_true rfl)) d_X_end_6 ⟨Nat.le_of_ble_eq_true rfl, Nat.le_of_ble_eq_true rfl⟩) (fun rz2 hrz2 => ?_)
  obtain ⟨F0z2, F1z2, F2z2⟩ := hrz2
  have F0z2 : 0 ≤ rz2.toInt ∧ rz2.toInt ≤ 1 := F0z2
  have F1z2 : rz2.toInt = 1 → (0 ≤ v1.toInt ∧ v1.toInt ≤ 20) := F1z2
  have F2z2 : rz2.toInt = 0 → (v1.toInt < 0 ∨ 20 < v1.toInt) := F2z2
  refine lv_if_eq (tgt := 21) hx hb d_X_end_9 (by decide) (fun c3 => ?_) (fun c3 => ?_)
  · have gc3 : rz2.toInt = 0 := c_eq c3
    have R4 : 0 ≤ rz2.toInt ∧ rz2.toInt ≤ 0 := by omega
    refine lv_iconst (v := (-1)) hx hb d_X_end_21 (by decide) ?_
    exact W.iret (v := (-1 : Int32)) hx hb hr (fun t ht hW => ⟨⟨(-1 : Int32), (-1 : Int32), rfl, rfl, ⟨x0_22, Rx0_22, (by omega), (by omega), by show va_P D classes _ t.heap; rw [ht]; exact hP, hD⟩⟩, hS.F ht⟩) hS.2.2 d_X_end_22
  · have gc3 : rz2.toInt ≠ 0 := c_ne c3
    have R5 : 1 ≤ rz2.toInt ∧ rz2.toInt ≤ 1 := by omega
    refine lv_aload_n hx hb d_X_end_12 rfl (lv_at hl 0 rfl) ?_
    refine va_get (D := D) (ci := 7) (v := .int x0_22) (C := "SignMachineModel") (T := F_X) (N := 64) hx hb hk fi_X hown hK.1 hP 0 rfl rfl 22 (by decide) (hk _ k_1143) (fun _ h9 => h9) rfl d_X_end_13 ?_
    refine lv_bipush (v := 20) hx hb d_X_end_16 (by decide) ?_
    refine lv_icmp_ge (tgt := 23) hx hb d_X_end_18 (by decide) (fun c6 => ?_) (fun c6 => ?_)
    · have gc6 : 20 ≤ x0_22.toInt := c_le c6
      have R7 : 20 ≤ x0_22.toInt ∧ x0_22.toInt ≤ 4000 := by omega
      have R8 : 0 ≤ a1.toInt ∧ a1.toInt ≤ 20 := by omega
      refine lv_aload_n hx hb d_X_end_23 rfl (lv_at hl 0 rfl) ?_
      refine lv_dup hx hb d_X_end_24 rfl ?_
      refine va_get (D := D) (ci := 7) (v := .int x0_22) (C := "SignMachineModel") (T := F_X) (N := 64) hx hb hk fi_X hown hK.1 hP 0 rfl rfl 22 (by decide) (hk _ k_1143) (fun _ h9 => h9) rfl d_X_end_25 ?_
      refine lv_bipush (v := 20) hx hb d_X_end_28 (by decide) ?_
      refine lv_iload_n hx hb d_X_end_30 rfl (lv_at hl 1 rfl) ?_
      refine lv_isub hx hb d_X_end_31 ?_
      refine lv_topi (fun v9 hv9 => ?_)
      obtain ⟨ev9, Rv9⟩ : v9.toInt = 20 - a1.toInt ∧ (0 ≤ v9.toInt ∧ v9.toInt ≤ 20) := sb3 hv9 (by decide) R8 (by decide) (by decide) (by decide) (by decide)
      refine lv_isub hx hb d_X_end_32 ?_
      refine lv_topi (fun v10 hv10 => ?_)
      obtain ⟨ev10, Rv10⟩ : v10.toInt = x0_22.toInt - v9.toInt ∧ (0 ≤ v10.toInt ∧ v10.toInt ≤ 4000) := sb3 hv10 R7 Rv9 (by decide) (by decide) (by decide) (by decide)
      refine va_put (D := D) (ci := 7) (v := .int v10) (ty := .int) (C := "SignMachineModel") (T := F_X) (N := 64) hx hb hk fi_X ft_X ft_X_ok fn_X hown hK.1 hP hD hS 0 rfl rfl 22 (by decide) (hk _ k_1143) (fun _ h9 => h9) rfl (by decide +kernel) rfl rfl (Nat.le_of_ble_eq_true rfl) d_X_end_33 (fun H locs hP hD hS => ?_)
      have hP : va_P D classes (wS50 cI cJ cZ cB p0 p1 p2 p3 p4 p5 p6 p7 p8 p9 p10 p11 p12 p13 p14 p15 p16 p17 p18 p19 p20 p21 p22 p23 p24 p25 x0_4 x0_5 x0_6 x0_7 x0_8 x0_12 x0_13 x0_14 x0_15 x0_16 x0_17 x0_18 v10 x0_23 x0_24 x0_25 x0_26 x0_27 x0_28 x0_29 x0_30 x0_31 x0_32 x0_36 x0_39 x0_40 x0_44 x0_49 x0_51 x0_53 x0_54 x0_55 x0_56 x0_57 x0_58 x0_59 x0_60 x0_61 x0_62 y1 y2 y3 y4 y5 y6 y7 y8 y9 y10 y11 y12 y13 y14 y15 y16 y17 y18 y19 y20 y21 y22 y23 y24 y25) H := hP
      have hD : va_D A (wS50 cI cJ cZ cB p0 p1 p2 p3 p4 p5 p6 p7 p8 p9 p10 p11 p12 p13 p14 p15 p16 p17 p18 p19 p20 p21 p22 p23 p24 p25 x0_4 x0_5 x0_6 x0_7 x0_8 x0_12 x0_13 x0_14 x0_15 x0_16 x0_17 x0_18 v10 x0_23 x0_24 x0_25 x0_26 x0_27 x0_28 x0_29 x0_30 x0_31 x0_32 x0_36 x0_39 x0_40 x0_44 x0_49 x0_51 x0_53 x0_54 x0_55 x0_56 x0_57 x0_58 x0_59 x0_60 x0_61 x0_62 y1 y2 y3 y4 y5 y6 y7 y8 y9 y10 y11 y12 y13 y14 y15 y16 y17 y18 y19 y20 y21 y22 y23 y24 y25) := hD
      refine lv_aload_n hx hb d_X_end_36 rfl (lv_at hl 0 rfl) ?_
      refine va_get (D := D) (ci := 7) (v := .int v10) (C := "SignMachineModel") (T := F_X) (N := 64) hx hb hk fi_X hown hK.1 hP 0 rfl rfl 22 (by decide) (hk _ k_1143) (fun _ h9 => h9) rfl d_X_end_37 ?_
      exact W.iret (v := v10) hx hb hr (fun t ht hW => ⟨⟨v10, v10, rfl, rfl, ⟨v10, Rv10, (by omega), (by omega), by show va_P D classes _ t.heap; rw [ht]; exact hP, hD⟩⟩, hS.F ht⟩) hS.2.2 d_X_end_40
    · have gc6 : x0_22.toInt < 20 := c_nle c6
      have R11 : 0 ≤ x0_22.toInt ∧ x0_22.toInt ≤ 19 := by omega
      refine lv_iconst (v := (-1)) hx hb d_X_end_21 (by decide) ?_
      exact W.iret (v := (-1 : Int32)) hx hb hr (fun t ht hW => ⟨⟨(-1 : Int32), (-1 : Int32), rfl, rfl, ⟨x0_22, (rgw R11 (by decide) (by decide)), (by omega), (by omega), by show va_P D classes _ t.heap; rw [ht]; exact hP, hD⟩⟩, hS.F ht⟩) hS.2.2 d_X_end_22
theorem v_X_end {R : Room} {s : State} {args : Array Value} {own : String} {index : Nat} (hk : ∀ w ∈ tb, w.before args s = true) (hl : Cond.methodLink own index y_X_end ∈ tb) (hR : 1 + 1 ≤ R.frames ∧ 8 + (2 + 11) + 25 ≤ R.locals) : CallW R s args own "SignMachineModel" index y_X_end b_X_end 2 (some .int) (.code y_X_end b_X_end 2 (some .int) :: tb) ({ frames := 1, cells := 0, slots := 0, locals := 25 }) 0 0 1 := mk_v 1 hk k_1515 hl k_1513 k_1514 k_119 rfl rfl h_X_end hR
set_option maxHeartbeats 8000000 in
set_option maxRecDepth 100000 in
theorem c_X_bad (l : Launch) (D : va_G) (cI cJ cZ cB : ClassId) (p0 p1 p2 p3 p4 p5 p6 p7 p8 p9 p10 p11 p12 p13 p14 p15 p16 p17 p18 p19 p20 p21 p22 p23 p24 p25 : Nat) (sz : Nat) (x0_4 : Int32) (x0_5 : Int32) (x0_6 : Int32) (x0_7 : Int32) (x0_8 : Int32) (x0_12 : Int32) (x0_13 : Int32) (x0_14 : Int32) (x0_15 : Int32) (x0_16 : Int32) (x0_17 : Int32) (x0_18 : Int32) (x0_22 : Int32) (x0_23 : Int32) (x0_24 : Int32) (x0_25 : Int32) (x0_26 : Int32) (x0_27 : Int32) (x0_28 : Int32) (x0_29 : Int32) (x0_30 : Int32) (x0_31 : Int32) (x0_32 : Int32) (x0_36 : Int32) (x0_39 : Int32) (x0_40 : Int64) (x0_44 : Int32) (x0_49 : Int32) (x0_51 : Int32) (x0_53 : Int32) (x0_54 : Int32) (x0_55 : Int64) (x0_56 : Int32) (x0_57 : Int32) (x0_58 : Int32) (x0_59 : Int32) (x0_60 : Int32) (x0_61 : Int32) (x0_62 : Int64) (y1 : Nat → Int32) (y2 : Nat → Int32) (y3 : Nat → Int32) (y4 : Nat → Int32) (y5 : Nat → Int32) (y6 : Nat → Int32) (y7 : Nat → Int32) (y8 : Nat → Int32) (y9 : Nat → Int32) (y10 : Nat → Int32) (y11 : Nat → Int64) (y12 : Nat → Int32) (y13 : Nat → Int64) (y14 : Nat → Int32) (y15 : Nat → Int64) (y16 : Nat → Int32) (y17 : Nat → Int32) (y18 : Nat → Int32) (y19 : Nat → Int32) (y20 : Nat → Int32) (y21 : Nat → Int32) (y22 : Nat → Int32) (y23 : Nat → Int32) (y24 : Nat → Int64) (y25 : Nat → Int64) (a1 : Int32) (Rx0_26 : 0 ≤ x0_26.toInt ∧ x0_26.toInt ≤ 6) (Q0 : 1 ≤ a1.toInt ∧ a1.toInt ≤ 6) : Met l y_X_bad (.code y_X_bad b_X_bad 2 none :: tb) ({ frames := 0, cells := 0, slots := 0, locals := 0 }) (pM D cI cJ cZ cB (wS50 cI cJ cZ cB p0 p1 p2 p3 p4 p5 p6 p7 p8 p9 p10 p11 p12 p13 p14 p15 p16 p17 p18 p19 p20 p21 p22 p23 p24 p25 x0_4 x0_5 x0_6 x0_7 x0_8 x0_12 x0_13 x0_14 x0_15 x0_16 x0_17 x0_18 x0_22 x0_23 x0_24 x0_25 x0_26 x0_27 x0_28 x0_29 x0_30 x0_31 x0_32 x0_36 x0_39 x0_40 x0_44 x0_49 x0_51 x0_53 x0_54 x0_55 x0_56 x0_57 x0_58 x0_59 x0_60 x0_61 x0_62 y1 y2 y3 y4 y5 y6 y7 y8 y9 y10 y11 y12 y13 y14 y15 y16 y17 y18 y19 y20 y21 y22 y23 y24 y25) sz [.ref p0, .int a1]) (va_Qv (fun (_ : Unit) => True) (fun _ t => ∃ u_x0_26 : Int32, (0 ≤ u_x0_26.toInt ∧ u_x0_26.toInt ≤ 6) ∧ (1 ≤ u_x0_26.toInt) ∧ va_P D classes (wS50 cI cJ cZ cB p0 p1 p2 p3 p4 p5 p6 p7 p8 p9 p10 p11 p12 p13 p14 p15 p16 p17 p18 p19 p20 p21 p22 p23 p24 p25 x0_4 x0_5 x0_6 x0_7 x0_8 x0_12 x0_13 x0_14 x0_15 x0_16 x0_17 x0_18 x0_22 x0_23 x0_24 x0_25 u_x0_26 x0_27 x0_28 x0_29 x0_30 x0_31 x0_32 x0_36 x0_39 x0_40 x0_44 x0_49 x0_51 x0_53 x0_54 x0_55 x0_56 x0_57 x0_58 x0_59 x0_60 x0_61 x0_62 y1 y2 y3 y4 y5 y6 y7 y8 y9 y10 y11 y12 y13 y14 y15 y16 y17 y18 y19 y20 y21 y22 y23 y24 y25) t.heap ∧ va_D (va_A (wS50 cI cJ cZ cB p0 p1 p2 p3 p4 p5 p6 p7 p8 p9 p10 p11 p12 p13 p14 p15 p16 p17 p18 p19 p20 p21 p22 p23 p24 p25 x0_4 x0_5 x0_6 x0_7 x0_8 x0_12 x0_13 x0_14 x0_15 x0_16 x0_17 x0_18 x0_22 x0_23 x0_24 x0_25 x0_26 x0_27 x0_28 x0_29 x0_30 x0_31 x0_32 x0_36 x0_39 x0_40 x0_44 x0_49 x0_51 x0_53 x0_54 x0_55 x0_56 x0_57 x0_58 x0_59 x0_60 x0_61 x0_62 y1 y2 y3 y4 y5 y6 y7 y8 y9 y10 y11 y12 y13 y14 y15 y16 y17 y18 y19 y20 y21 y22 y23 y24 y25) sz) (wS50 cI cJ cZ cB p0 p1 p2 p3 p4 p5 p6 p7 p8 p9 p10 p11 p12 p13 p14 p15 p16 p17 p18 p19 p20 p21 p22 p23 p24 p25 x0_4 x0_5 x0_6 x0_7 x0_8 x0_12 x0_13 x0_14 x0_15 x0_16 x0_17 x0_18 x0_22 x0_23 x0_24 x0_25 u_x0_26 x0_27 x0_28 x0_29 x0_30 x0_31 x0_32 x0_36 x0_39 x0_40 x0_44 x0_49 x0_51 x0_53 x0_54 x0_55 x0_56 x0_57 x0_58 x0_59 x0_60 x0_61 x0_62 y1 y2 y3 y4 y5 y6 y7 y8 y9 y10 y11 y12 y13 y14 y15 y16 y17 y18 y19 y20 y21 y22 y23 y24 y25)) (va_A (wS50 cI cJ cZ cB p0 p1 p2 p3 p4 p5 p6 p7 p8 p9 p10 p11 p12 p13 p14 p15 p16 p17 p18 p19 p20 p21 p22 p23 p24 p25 x0_4 x0_5 x0_6 x0_7 x0_8 x0_12 x0_13 x0_14 x0_15 x0_16 x0_17 x0_18 x0_22 x0_23 x0_24 x0_25 x0_26 x0_27 x0_28 x0_29 x0_30 x0_31 x0_32 x0_36 x0_39 x0_40 x0_44 x0_49 x0_51 x0_53 x0_54 x0_55 x0_56 x0_57 x0_58 x0_59 x0_60 x0_61 x0_62 y1 y2 y3 y4 y5 y6 y7 y8 y9 y10 y11 y12 y13 y14 y15 y16 y17 y18 y19 y20 y21 y22 y23 y24 y25) sz)) 0 0 (va_A (wS50 cI cJ cZ cB p0 p1 p2 p3 p4 p5 p6 p7 p8 p9 p10 p11 p12 p13 p14 p15 p16 p17 p18 p19 p20 p21 p22 p23 p24 p25 x0_4 x0_5 x0_6 x0_7 x0_8 x0_12 x0_13 x0_14 x0_15 x0_16 x0_17 x0_18 x0_22 x0_23 x0_24 x0_25 x0_26 x0_27 x0_28 x0_29 x0_30 x0_31 x0_32 x0_36 x0_39 x0_40 x0_44 x0_49 x0_51 x0_53 x0_54 x0_55 x0_56 x0_57 x0_58 x0_59 x0_60 x0_61 x0_62 y1 y2 y3 y4 y5 y6 y7 y8 y9 y10 y11 y12 y13 y14 y15 y16 y17 y18 y19 y20 y21 y22 y23 y24 y25) sz) := by
  refine Met.ofW (cc := b_X_bad) (maxL := 2) (ret := none) (by decide) rfl ?_
  intro p e s m args below meth c s₁ B hml hv
  obtain ⟨rfl, hsz, hK, hP, hD0⟩ := hv
  subst hsz
  have hD := hD0.self (sz := s.heap.size)
  generalize hAe : va_A (wS50 cI cJ cZ cB p0 p1 p2 p3 p4 p5 p6 p7 p8 p9 p10 p11 p12 p13 p14 p15 p16 p17 p18 p19 p20 p21 p22 p23 p24 p25 x0_4 x0_5 x0_6 x0_7 x0_8 x0_12 x0_13 x0_14 x0_15 x0_16 x0_17 x0_18 x0_22 x0_23 x0_24 x0_25 x0_26 x0_27 x0_28 x0_29 x0_30 x0_31 x0_32 x0_36 x0_39 x0_40 x0_44 x0_49 x0_51 x0_53 x0_54 x0_55 x0_56 x0_57 x0_58 x0_59 x0_60 x0_61 x0_62 y1 y2 y3 y4 y5 y6 y7 y8 y9 y10 y11 y12 y13 y14 y15 y16 y17 y18 y19 y20 y21 y22 y23 y24 y25) s.heap.size = A at hD ⊢
  have hA : ∀ q : Nat, s.heap.size ≤ q → A q := fun q h => by rw [← hAe]; exact Or.inr h
  clear hAe hD0
  have hS : va_S A s.heap s.heap [] := va_S.rf
  have hx := B.exec
  have hb := B.bytes
  have hr := B.returns
  have hts := atoms_spec (ws := .code y_X_bad b_X_bad 2 none :: tb) B.pre
  have hk : ∀ w ∈ tb, w.before [.ref p0, .int a1].toArray s = true := fun w h => hts w (List.mem_cons_of_mem _ h)
  have hown : s.vm.findClass "SignMachineModel" = some m.cls := findClass_of_methodNamed B.named
  have hlocks := B.notSynchronized
  have hl := lv_entry ([.ref p0, .int a1]) (n := 2) (Nat.le_of_ble_eq_true rfl)
  rw [lg_entry_eq]
  generalize (lg_sl ([.ref p0, .int a1]) ++ List.replicate (2 - (lg_sl ([.ref p0, .int a1])).length) Slot.unset).toArray = ls at hl ⊢
  have hl : lv_has ls 2 [(0, .ref p0), (1, .int a1)] := hl
  clear hts B
  refine lv_aload_n hx hb d_X_bad_0 rfl (lv_at hl 0 rfl) ?_
  refine lv_aload_n hx hb d_X_bad_1 rfl (lv_at hl 0 rfl) ?_
  refine va_get (D := D) (ci := 7) (v := .int x0_26) (C := "SignMachineModel") (T := F_X) (N := 64) hx hb hk fi_X hown hK.1 hP 0 rfl rfl 26 (by decide) (hk _ k_1147) (fun _ h9 => h9) rfl d_X_bad_2 ?_
  refine lv_if_ne (tgt := 12) hx hb d_X_bad_5 (by decide) (fun c1 => ?_) (fun c1 => ?_)
  · have gc1 : x0_26.toInt ≠ 0 := c_ne c1
    have R2 : 1 ≤ x0_26.toInt ∧ x0_26.toInt ≤ 6 := by omega
    refine lv_aload_n hx hb d_X_bad_12 rfl (lv_at hl 0 rfl) ?_
    refine va_get (D := D) (ci := 7) (v := .int x0_26) (C := "SignMachineModel") (T := F_X) (N := 64) hx hb hk fi_X hown hK.1 hP 0 rfl rfl 26 (by decide) (hk _ k_1147) (fun _ h9 => h9) rfl d_X_bad_13 ?_
    refine va_put (D := D) (ci := 7) (v := .int x0_26) (ty := .int) (C := "SignMachineModel") (T := F_X) (N := 64) hx hb hk fi_X ft_X ft_X_ok fn_X hown hK.1 hP hD hS 0 rfl rfl 26 (by decide) (hk _ k_1147) (fun _ h9 => h9) rfl (by decide +kernel) rfl rfl (Nat.le_of_ble_eq_true rfl) d_X_bad_16 (fun H locs hP hD hS => ?_)
    have hP : va_P D classes (wS50 cI cJ cZ cB p0 p1 p2 p3 p4 p5 p6 p7 p8 p9 p10 p11 p12 p13 p14 p15 p16 p17 p18 p19 p20 p21 p22 p23 p24 p25 x0_4 x0_5 x0_6 x0_7 x0_8 x0_12 x0_13 x0_14 x0_15 x0_16 x0_17 x0_18 x0_22 x0_23 x0_24 x0_25 x0_26 x0_27 x0_28 x0_29 x0_30 x0_31 x0_32 x0_36 x0_39 x0_40 x0_44 x0_49 x0_51 x0_53 x0_54 x0_55 x0_56 x0_57 x0_58 x0_59 x0_60 x0_61 x0_62 y1 y2 y3 y4 y5 y6 y7 y8 y9 y10 y11 y12 y13 y14 y15 y16 y17 y18 y19 y20 y21 y22 y23 y24 y25) H := hP
    have hD : va_D A (wS50 cI cJ cZ cB p0 p1 p2 p3 p4 p5 p6 p7 p8 p9 p10 p11 p12 p13 p14 p15 p16 p17 p18 p19 p20 p21 p22 p23 p24 p25 x0_4 x0_5 x0_6 x0_7 x0_8 x0_12 x0_13 x0_14 x0_15 x0_16 x0_17 x0_18 x0_22 x0_23 x0_24 x0_25 x0_26 x0_27 x0_28 x0_29 x0_30 x0_31 x0_32 x0_36 x0_39 x0_40 x0_44 x0_49 x0_51 x0_53 x0_54 x0_55 x0_56 x0_57 x0_58 x0_59 x0_60 x0_61 x0_62 y1 y2 y3 y4 y5 y6 y7 y8 y9 y10 y11 y12 y13 y14 y15 y16 y17 y18 y19 y20 y21 y22 y23 y24 y25) := hD
    exact W.vret hx hb hr (fun t ht hW => ⟨⟨(), rfl, trivial, ⟨x0_26, (rgw R2 (by decide) (by decide)), (by omega), by show va_P D classes _ t.heap; rw [ht]; exact hP, hD⟩⟩, hS.F ht⟩) hS.2.2 d_X_bad_19
  · have gc1 : x0_26.toInt = 0 := c_eq c1
    have R3 : 0 ≤ x0_26.toInt ∧ x0_26.toInt ≤ 0 := by omega
    refine lv_iload_n hx hb d_X_bad_8 rfl (lv_at hl 1 rfl) ?_
    refine lv_goto (tgt := 16) hx hb d_X_bad_9 (by decide) ?_
    refine va_put (D := D) (ci := 7) (v := .int a1) (ty := .int) (C := "SignMachineModel") (T := F_X) (N := 64) hx hb hk fi_X ft_X ft_X_ok fn_X hown hK.1 hP hD hS 0 rfl rfl 26 (by decide) (hk _ k_1147) (fun _ h9 => h9) rfl (by decide +kernel) rfl rfl (Nat.le_of_ble_eq_true rfl) d_X_bad_16 (fun H locs hP hD hS => ?_)
    have hP : va_P D classes (wS50 cI cJ cZ cB p0 p1 p2 p3 p4 p5 p6 p7 p8 p9 p10 p11 p12 p13 p14 p15 p16 p17 p18 p19 p20 p21 p22 p23 p24 p25 x0_4 x0_5 x0_6 x0_7 x0_8 x0_12 x0_13 x0_14 x0_15 x0_16 x0_17 x0_18 x0_22 x0_23 x0_24 x0_25 a1 x0_27 x0_28 x0_29 x0_30 x0_31 x0_32 x0_36 x0_39 x0_40 x0_44 x0_49 x0_51 x0_53 x0_54 x0_55 x0_56 x0_57 x0_58 x0_59 x0_60 x0_61 x0_62 y1 y2 y3 y4 y5 y6 y7 y8 y9 y10 y11 y12 y13 y14 y15 y16 y17 y18 y19 y20 y21 y22 y23 y24 y25) H := hP
    have hD : va_D A (wS50 cI cJ cZ cB p0 p1 p2 p3 p4 p5 p6 p7 p8 p9 p10 p11 p12 p13 p14 p15 p16 p17 p18 p19 p20 p21 p22 p23 p24 p25 x0_4 x0_5 x0_6 x0_7 x0_8 x0_12 x0_13 x0_14 x0_15 x0_16 x0_17 x0_18 x0_22 x0_23 x0_24 x0_25 a1 x0_27 x0_28 x0_29 x0_30 x0_31 x0_32 x0_36 x0_39 x0_40 x0_44 x0_49 x0_51 x0_53 x0_54 x0_55 x0_56 x0_57 x0_58 x0_59 x0_60 x0_61 x0_62 y1 y2 y3 y4 y5 y6 y7 y8 y9 y10 y11 y12 y13 y14 y15 y16 y17 y18 y19 y20 y21 y22 y23 y24 y25) := hD
    exact W.vret hx hb hr (fun t ht hW => ⟨⟨(), rfl, trivial, ⟨a1, (rgw Q0 (by decide) (by decide)), (by omega), by show va_P D classes _ t.heap; rw [ht]; exact hP, hD⟩⟩, hS.F ht⟩) hS.2.2 d_X_bad_19
theorem v_X_bad {R : Room} {s : State} {args : Array Value} {own : String} {index : Nat} (hk : ∀ w ∈ tb, w.before args s = true) (hl : Cond.methodLink own index y_X_bad ∈ tb) (hR : 0 + 1 ≤ R.frames ∧ 8 + (2 + 11) + 0 ≤ R.locals) : CallW R s args own "SignMachineModel" index y_X_bad b_X_bad 2 none (.code y_X_bad b_X_bad 2 none :: tb) ({ frames := 0, cells := 0, slots := 0, locals := 0 }) 0 0 1 := mk_v 1 hk k_1555 hl k_1554 k_93 k_119 rfl rfl h_X_bad hR
set_option maxHeartbeats 8000000 in
set_option maxRecDepth 100000 in
theorem c_X_here (l : Launch) (D : va_G) (cI cJ cZ cB : ClassId) (p0 p1 p2 p3 p4 p5 p6 p7 p8 p9 p10 p11 p12 p13 p14 p15 p16 p17 p18 p19 p20 p21 p22 p23 p24 p25 : Nat) (sz : Nat) (x0_4 : Int32) (x0_5 : Int32) (x0_6 : Int32) (x0_7 : Int32) (x0_8 : Int32) (x0_12 : Int32) (x0_13 : Int32) (x0_14 : Int32) (x0_15 : Int32) (x0_16 : Int32) (x0_17 : Int32) (x0_18 : Int32) (x0_22 : Int32) (x0_23 : Int32) (x0_24 : Int32) (x0_25 : Int32) (x0_26 : Int32) (x0_27 : Int32) (x0_28 : Int32) (x0_29 : Int32) (x0_30 : Int32) (x0_31 : Int32) (x0_32 : Int32) (x0_36 : Int32) (x0_39 : Int32) (x0_40 : Int64) (x0_44 : Int32) (x0_49 : Int32) (x0_51 : Int32) (x0_53 : Int32) (x0_54 : Int32) (x0_55 : Int64) (x0_56 : Int32) (x0_57 : Int32) (x0_58 : Int32) (x0_59 : Int32) (x0_60 : Int32) (x0_61 : Int32) (x0_62 : Int64) (y1 : Nat → Int32) (y2 : Nat → Int32) (y3 : Nat → Int32) (y4 : Nat → Int32) (y5 : Nat → Int32) (y6 : Nat → Int32) (y7 : Nat → Int32) (y8 : Nat → Int32) (y9 : Nat → Int32) (y10 : Nat → Int32) (y11 : Nat → Int64) (y12 : Nat → Int32) (y13 : Nat → Int64) (y14 : Nat → Int32) (y15 : Nat → Int64) (y16 : Nat → Int32) (y17 : Nat → Int32) (y18 : Nat → Int32) (y19 : Nat → Int32) (y20 : Nat → Int32) (y21 : Nat → Int32) (y22 : Nat → Int32) (y23 : Nat → Int32) (y24 : Nat → Int64) (y25 : Nat → Int64)  (Rx0_24 : 0 ≤ x0_24.toInt ∧ x0_24.toInt ≤ 4000) (Rx0_25 : 0 ≤ x0_25.toInt ∧ x0_25.toInt ≤ 4000) : Met l y_X_here (.code y_X_here b_X_here 1 (some .int) :: tb) ({ frames := 0, cells := 0, slots := 0, locals := 0 }) (pM D cI cJ cZ cB (wS50 cI cJ cZ cB p0 p1 p2 p3 p4 p5 p6 p7 p8 p9 p10 p11 p12 p13 p14 p15 p16 p17 p18 p19 p20 p21 p22 p23 p24 p25 x0_4 x0_5 x0_6 x0_7 x0_8 x0_12 x0_13 x0_14 x0_15 x0_16 x0_17 x0_18 x0_22 x0_23 x0_24 x0_25 x0_26 x0_27 x0_28 x0_29 x0_30 x0_31 x0_32 x0_36 x0_39 x0_40 x0_44 x0_49 x0_51 x0_53 x0_54 x0_55 x0_56 x0_57 x0_58 x0_59 x0_60 x0_61 x0_62 y1 y2 y3 y4 y5 y6 y7 y8 y9 y10 y11 y12 y13 y14 y15 y16 y17 y18 y19 y20 y21 y22 y23 y24 y25) sz [.ref p0]) (va_Qi (fun r (u : Int32) => r = u) (fun ur t => ((x0_25.toInt < x0_24.toInt ∧ ur.toInt = (y10 (x0_25).toNatClampNeg).toInt) ∨ (x0_24.toInt ≤ x0_25.toInt ∧ ur.toInt = -1)) ∧ va_P D classes (wS50 cI cJ cZ cB p0 p1 p2 p3 p4 p5 p6 p7 p8 p9 p10 p11 p12 p13 p14 p15 p16 p17 p18 p19 p20 p21 p22 p23 p24 p25 x0_4 x0_5 x0_6 x0_7 x0_8 x0_12 x0_13 x0_14 x0_15 x0_16 x0_17 x0_18 x0_22 x0_23 x0_24 x0_25 x0_26 x0_27 x0_28 x0_29 x0_30 x0_31 x0_32 x0_36 x0_39 x0_40 x0_44 x0_49 x0_51 x0_53 x0_54 x0_55 x0_56 x0_57 x0_58 x0_59 x0_60 x0_61 x0_62 y1 y2 y3 y4 y5 y6 y7 y8 y9 y10 y11 y12 y13 y14 y15 y16 y17 y18 y19 y20 y21 y22 y23 y24 y25) t.heap ∧ va_D (va_A (wS50 cI cJ cZ cB p0 p1 p2 p3 p4 p5 p6 p7 p8 p9 p10 p11 p12 p13 p14 p15 p16 p17 p18 p19 p20 p21 p22 p23 p24 p25 x0_4 x0_5 x0_6 x0_7 x0_8 x0_12 x0_13 x0_14 x0_15 x0_16 x0_17 x0_18 x0_22 x0_23 x0_24 x0_25 x0_26 x0_27 x0_28 x0_29 x0_30 x0_31 x0_32 x0_36 x0_39 x0_40 x0_44 x0_49 x0_51 x0_53 x0_54 x0_55 x0_56 x0_57 x0_58 x0_59 x0_60 x0_61 x0_62 y1 y2 y3 y4 y5 y6 y7 y8 y9 y10 y11 y12 y13 y14 y15 y16 y17 y18 y19 y20 y21 y22 y23 y24 y25) sz) (wS50 cI cJ cZ cB p0 p1 p2 p3 p4 p5 p6 p7 p8 p9 p10 p11 p12 p13 p14 p15 p16 p17 p18 p19 p20 p21 p22 p23 p24 p25 x0_4 x0_5 x0_6 x0_7 x0_8 x0_12 x0_13 x0_14 x0_15 x0_16 x0_17 x0_18 x0_22 x0_23 x0_24 x0_25 x0_26 x0_27 x0_28 x0_29 x0_30 x0_31 x0_32 x0_36 x0_39 x0_40 x0_44 x0_49 x0_51 x0_53 x0_54 x0_55 x0_56 x0_57 x0_58 x0_59 x0_60 x0_61 x0_62 y1 y2 y3 y4 y5 y6 y7 y8 y9 y10 y11 y12 y13 y14 y15 y16 y17 y18 y19 y20 y21 y22 y23 y24 y25)) (va_A (wS50 cI cJ cZ cB p0 p1 p2 p3 p4 p5 p6 p7 p8 p9 p10 p11 p12 p13 p14 p15 p16 p17 p18 p19 p20 p21 p22 p23 p24 p25 x0_4 x0_5 x0_6 x0_7 x0_8 x0_12 x0_13 x0_14 x0_15 x0_16 x0_17 x0_18 x0_22 x0_23 x0_24 x0_25 x0_26 x0_27 x0_28 x0_29 x0_30 x0_31 x0_32 x0_36 x0_39 x0_40 x0_44 x0_49 x0_51 x0_53 x0_54 x0_55 x0_56 x0_57 x0_58 x0_59 x0_60 x0_61 x0_62 y1 y2 y3 y4 y5 y6 y7 y8 y9 y10 y11 y12 y13 y14 y15 y16 y17 y18 y19 y20 y21 y22 y23 y24 y25) sz)) 0 0 (va_A (wS50 cI cJ cZ cB p0 p1 p2 p3 p4 p5 p6 p7 p8 p9 p10 p11 p12 p13 p14 p15 p16 p17 p18 p19 p20 p21 p22 p23 p24 p25 x0_4 x0_5 x0_6 x0_7 x0_8 x0_12 x0_13 x0_14 x0_15 x0_16 x0_17 x0_18 x0_22 x0_23 x0_24 x0_25 x0_26 x0_27 x0_28 x0_29 x0_30 x0_31 x0_32 x0_36 x0_39 x0_40 x0_44 x0_49 x0_51 x0_53 x0_54 x0_55 x0_56 x0_57 x0_58 x0_59 x0_60 x0_61 x0_62 y1 y2 y3 y4 y5 y6 y7 y8 y9 y10 y11 y12 y13 y14 y15 y16 y17 y18 y19 y20 y21 y22 y23 y24 y25) sz) := by
  refine Met.ofW (cc := b_X_here) (maxL := 1) (ret := (some .int)) (by decide) rfl ?_
  intro p e s m args below meth c s₁ B hml hv
  obtain ⟨rfl, hsz, hK, hP, hD0⟩ := hv
  subst hsz
  have hD := hD0.self (sz := s.heap.size)
  generalize hAe : va_A (wS50 cI cJ cZ cB p0 p1 p2 p3 p4 p5 p6 p7 p8 p9 p10 p11 p12 p13 p14 p15 p16 p17 p18 p19 p20 p21 p22 p23 p24 p25 x0_4 x0_5 x0_6 x0_7 x0_8 x0_12 x0_13 x0_14 x0_15 x0_16 x0_17 x0_18 x0_22 x0_23 x0_24 x0_25 x0_26 x0_27 x0_28 x0_29 x0_30 x0_31 x0_32 x0_36 x0_39 x0_40 x0_44 x0_49 x0_51 x0_53 x0_54 x0_55 x0_56 x0_57 x0_58 x0_59 x0_60 x0_61 x0_62 y1 y2 y3 y4 y5 y6 y7 y8 y9 y10 y11 y12 y13 y14 y15 y16 y17 y18 y19 y20 y21 y22 y23 y24 y25) s.heap.size = A at hD ⊢
  have hA : ∀ q : Nat, s.heap.size ≤ q → A q := fun q h => by rw [← hAe]; exact Or.inr h
  clear hAe hD0
  have hS : va_S A s.heap s.heap [] := va_S.rf
  have hx := B.exec
  have hb := B.bytes
  have hr := B.returns
  have hts := atoms_spec (ws := .code y_X_here b_X_here 1 (some .int) :: tb) B.pre
  have hk : ∀ w ∈ tb, w.before [.ref p0].toArray s = true := fun w h => hts w (List.mem_cons_of_mem _ h)
  have hown : s.vm.findClass "SignMachineModel" = some m.cls := findClass_of_methodNamed B.named
  have hlocks := B.notSynchronized
  have hl := lv_entry ([.ref p0]) (n := 1) (Nat.le_of_ble_eq_true rfl)
  rw [lg_entry_eq]
  generalize (lg_sl ([.ref p0]) ++ List.replicate (1 - (lg_sl ([.ref p0])).length) Slot.unset).toArray = ls at hl ⊢
  have hl : lv_has ls 1 [(0, .ref p0)] := hl
  clear hts B
  refine lv_aload_n hx hb d_X_here_0 rfl (lv_at hl 0 rfl) ?_
  refine va_get (D := D) (ci := 7) (v := .int x0_25) (C := "SignMachineModel") (T := F_X) (N := 64) hx hb hk fi_X hown hK.1 hP 0 rfl rfl 25 (by decide) (hk _ k_1146) (fun _ h9 => h9) rfl d_X_here_1 ?_
  refine lv_aload_n hx hb d_X_here_4 rfl (lv_at hl 0 rfl) ?_
  refine va_get (D := D) (ci := 7) (v := .int x0_24) (C := "SignMachineModel") (T := F_X) (N := 64) hx hb hk fi_X hown hK.1 hP 0 rfl rfl 24 (by decide) (hk _ k_1145) (fun _ h9 => h9) rfl d_X_here_5 ?_
  refine lv_icmp_ge (tgt := 23) hx hb d_X_here_8 (by decide) (fun c1 => ?_) (fun c1 => ?_)
  · have gc1 : x0_24.toInt ≤ x0_25.toInt := c_le c1
    refine lv_iconst (v := (-1)) hx hb d_X_here_23 (by decide) ?_
    exact W.iret (v := (-1 : Int32)) hx hb hr (fun t ht hW => ⟨⟨(-1 : Int32), (-1 : Int32), rfl, rfl, ⟨(by omega), by show va_P D classes _ t.heap; rw [ht]; exact hP, hD⟩⟩, hS.F ht⟩) hS.2.2 d_X_here_24
  · have gc1 : x0_25.toInt < x0_24.toInt := c_nle c1
    have R2 : 0 ≤ x0_25.toInt ∧ x0_25.toInt ≤ 3999 := by omega
    have R3 : 1 ≤ x0_24.toInt ∧ x0_24.toInt ≤ 4000 := by omega
    refine lv_aload_n hx hb d_X_here_11 rfl (lv_at hl 0 rfl) ?_
    refine va_get (D := D) (ci := 7) (v := .ref p10) (C := "SignMachineModel") (T := F_X) (N := 64) hx hb hk fi_X hown hK.1 hP 0 rfl rfl 21 (by decide) (hk _ k_1142) (fun _ h9 => h9) rfl d_X_here_12 ?_
    refine lv_aload_n hx hb d_X_here_15 rfl (lv_at hl 0 rfl) ?_
    refine va_get (D := D) (ci := 7) (v := .int x0_25) (C := "SignMachineModel") (T := F_X) (N := 64) hx hb hk fi_X hown hK.1 hP 0 rfl rfl 25 (by decide) (hk _ k_1146) (fun _ h9 => h9) rfl d_X_here_16 ?_
    refine va_iald hx hb hK.1 hP 10 0 rfl rfl (vpb R2 (by decide) (by decide)) d_X_here_19 ?_
    refine lv_topi (fun v4 hv4 => ?_)
    have Tv4 : v4.toInt = (y10 (x0_25).toNatClampNeg).toInt := congrArg _ hv4
    refine lv_goto (tgt := 24) hx hb d_X_here_20 (by decide) ?_
    exact W.iret (v := v4) hx hb hr (fun t ht hW => ⟨⟨v4, v4, rfl, rfl, ⟨(by omega), by show va_P D classes _ t.heap; rw [ht]; exact hP, hD⟩⟩, hS.F ht⟩) hS.2.2 d_X_here_24
theorem v_X_here {R : Room} {s : State} {args : Array Value} {own : String} {index : Nat} (hk : ∀ w ∈ tb, w.before args s = true) (hl : Cond.methodLink own index y_X_here ∈ tb) (hR : 0 + 1 ≤ R.frames ∧ 8 + (1 + 11) + 0 ≤ R.locals) : CallW R s args own "SignMachineModel" index y_X_here b_X_here 1 (some .int) (.code y_X_here b_X_here 1 (some .int) :: tb) ({ frames := 0, cells := 0, slots := 0, locals := 0 }) 0 0 0 := mk_v 0 hk k_1540 hl k_1539 k_91 k_119 rfl rfl h_X_here hR
set_option maxHeartbeats 8000000 in
set_option maxRecDepth 100000 in
theorem c_X_isLetter (l : Launch)  (a1 : Int32)  : Met l y_X_isLetter (.code y_X_isLetter b_X_isLetter 1 (some .boolean) :: tb) ({ frames := 0, cells := 0, slots := 0, locals := 0 }) (va_Pc [.int a1] (fun _ => True)) (vp_Si (fun ur => (0 ≤ ur.toInt ∧ ur.toInt ≤ 1) ∧ (ur.toInt = 1 → (65 ≤ a1.toInt ∧ a1.toInt ≤ 90)))) 0 0 (fun _ => False) := by
  refine Met.ofW (cc := b_X_isLetter) (maxL := 1) (ret := (some .boolean)) (by decide) rfl ?_
  intro p e s m args below meth c s₁ B hml hv
  obtain ⟨rfl, -⟩ := hv
  have hx := B.exec
  have hb := B.bytes
  have hr := B.returns
  have hts := atoms_spec (ws := .code y_X_isLetter b_X_isLetter 1 (some .boolean) :: tb) B.pre
  have hk : ∀ w ∈ tb, w.before [.int a1].toArray s = true := fun w h => hts w (List.mem_cons_of_mem _ h)
  have hown : s.vm.findClass "SignMachineModel" = some m.cls := findClass_of_methodNamed B.named
  have hlocks := B.notSynchronized
  have hl := lv_entry ([.int a1]) (n := 1) (Nat.le_of_ble_eq_true rfl)
  rw [lg_entry_eq]
  generalize (lg_sl ([.int a1]) ++ List.replicate (1 - (lg_sl ([.int a1])).length) Slot.unset).toArray = ls at hl ⊢
  have hl : lv_has ls 1 [(0, .int a1)] := hl
  clear hts B
  refine lv_iload_n hx hb d_X_isLetter_0 rfl (lv_at hl 0 rfl) ?_
  refine lv_bipush (v := 65) hx hb d_X_isLetter_1 (by decide) ?_
  refine lv_icmp_lt (tgt := 16) hx hb d_X_isLetter_3 (by decide) (fun c1 => ?_) (fun c1 => ?_)
  · have gc1 : a1.toInt < 65 := c_lt c1
    have R2 : (-2147483648) ≤ a1.toInt ∧ a1.toInt ≤ 64 := by omega
    refine lv_iconst (v := 0) hx hb d_X_isLetter_16 (by decide) ?_
    exact W.zret (v := (0 : Int32)) hx hb hr (nar01 (by decide)) (fun t ht hW => ⟨(0 : Int32), rfl, ⟨(by decide), (by omega)⟩, ht⟩) (fun q h => absurd h List.not_mem_nil) d_X_isLetter_17
  · have gc1 : 65 ≤ a1.toInt := c_nlt c1
    have R3 : 65 ≤ a1.toInt ∧ a1.toInt ≤ 2147483647 := by omega
    refine lv_iload_n hx hb d_X_isLetter_6 rfl (lv_at hl 0 rfl) ?_
    refine lv_bipush (v := 90) hx hb d_X_isLetter_7 (by decide) ?_
    refine lv_icmp_gt (tgt := 16) hx hb d_X_isLetter_9 (by decide) (fun c4 => ?_) (fun c4 => ?_)
    · have gc4 : 90 < a1.toInt := c_lt c4
      have R5 : 91 ≤ a1.toInt ∧ a1.toInt ≤ 2147483647 := by omega
      refine lv_iconst (v := 0) hx hb d_X_isLetter_16 (by decide) ?_
      exact W.zret (v := (0 : Int32)) hx hb hr (nar01 (by decide)) (fun t ht hW => ⟨(0 : Int32), rfl, ⟨(by decide), (by omega)⟩, ht⟩) (fun q h => absurd h List.not_mem_nil) d_X_isLetter_17
    · have gc4 : a1.toInt ≤ 90 := c_nlt c4
      have R6 : 65 ≤ a1.toInt ∧ a1.toInt ≤ 90 := by omega
      refine lv_iconst (v := 1) hx hb d_X_isLetter_12 (by decide) ?_
      refine lv_goto (tgt := 17) hx hb d_X_isLetter_13 (by decide) ?_
      exact W.zret (v := (1 : Int32)) hx hb hr (nar01 (by decide)) (fun t ht hW => ⟨(1 : Int32), rfl, ⟨(by decide), (by omega)⟩, ht⟩) (fun q h => absurd h List.not_mem_nil) d_X_isLetter_17
theorem s_X_isLetter {R : Room} {s : State} {args : Array Value} {own : String} {index : Nat} (hk : ∀ w ∈ tb, w.before args s = true) (hl : Cond.methodLink own index y_X_isLetter ∈ tb) (hR : 0 + 1 ≤ R.frames ∧ 8 + (1 + 11) + 0 ≤ R.locals) : CallB R s args own index y_X_isLetter b_X_isLetter 1 (some .boolean) (.code y_X_isLetter b_X_isLetter 1 (some .boolean) :: tb) ({ frames := 0, cells := 0, slots := 0, locals := 0 }) 0 0 1 ∧ (Cond.static y_X_isLetter).before args s = true := mk_s 1 hk k_1547 hl k_1546 k_119 rfl rfl h_X_isLetter hR
set_option maxHeartbeats 8000000 in
set_option maxRecDepth 100000 in
theorem c_X_isDigit (l : Launch)  (a1 : Int32)  : Met l y_X_isDigit (.code y_X_isDigit b_X_isDigit 1 (some .boolean) :: tb) ({ frames := 0, cells := 0, slots := 0, locals := 0 }) (va_Pc [.int a1] (fun _ => True)) (vp_Si (fun ur => (0 ≤ ur.toInt ∧ ur.toInt ≤ 1) ∧ (ur.toInt = 1 → (48 ≤ a1.toInt ∧ a1.toInt ≤ 57)))) 0 0 (fun _ => False) := by
  refine Met.ofW (cc := b_X_isDigit) (maxL := 1) (ret := (some .boolean)) (by decide) rfl ?_
  intro p e s m args below meth c s₁ B hml hv
  obtain ⟨rfl, -⟩ := hv
  have hx := B.exec
  have hb := B.bytes
  have hr := B.returns
  have hts := atoms_spec (ws := .code y_X_isDigit b_X_isDigit 1 (some .boolean) :: tb) B.pre
  have hk : ∀ w ∈ tb, w.before [.int a1].toArray s = true := fun w h => hts w (List.mem_cons_of_mem _ h)
  have hown : s.vm.findClass "SignMachineModel" = some m.cls := findClass_of_methodNamed B.named
  have hlocks := B.notSynchronized
  have hl := lv_entry ([.int a1]) (n := 1) (Nat.le_of_ble_eq_true rfl)
  rw [lg_entry_eq]
  generalize (lg_sl ([.int a1]) ++ List.replicate (1 - (lg_sl ([.int a1])).length) Slot.unset).toArray = ls at hl ⊢
  have hl : lv_has ls 1 [(0, .int a1)] := hl
  clear hts B
  refine lv_iload_n hx hb d_X_isDigit_0 rfl (lv_at hl 0 rfl) ?_
  refine lv_bipush (v := 48) hx hb d_X_isDigit_1 (by decide) ?_
  refine lv_icmp_lt (tgt := 16) hx hb d_X_isDigit_3 (by decide) (fun c1 => ?_) (fun c1 => ?_)
  · have gc1 : a1.toInt < 48 := c_lt c1
    have R2 : (-2147483648) ≤ a1.toInt ∧ a1.toInt ≤ 47 := by omega
    refine lv_iconst (v := 0) hx hb d_X_isDigit_16 (by decide) ?_
    exact W.zret (v := (0 : Int32)) hx hb hr (nar01 (by decide)) (fun t ht hW => ⟨(0 : Int32), rfl, ⟨(by decide), (by omega)⟩, ht⟩) (fun q h => absurd h List.not_mem_nil) d_X_isDigit_17
  · have gc1 : 48 ≤ a1.toInt := c_nlt c1
    have R3 : 48 ≤ a1.toInt ∧ a1.toInt ≤ 2147483647 := by omega
    refine lv_iload_n hx hb d_X_isDigit_6 rfl (lv_at hl 0 rfl) ?_
    refine lv_bipush (v := 57) hx hb d_X_isDigit_7 (by decide) ?_
    refine lv_icmp_gt (tgt := 16) hx hb d_X_isDigit_9 (by decide) (fun c4 => ?_) (fun c4 => ?_)
    · have gc4 : 57 < a1.toInt := c_lt c4
      have R5 : 58 ≤ a1.toInt ∧ a1.toInt ≤ 2147483647 := by omega
      refine lv_iconst (v := 0) hx hb d_X_isDigit_16 (by decide) ?_
      exact W.zret (v := (0 : Int32)) hx hb hr (nar01 (by decide)) (fun t ht hW => ⟨(0 : Int32), rfl, ⟨(by decide), (by omega)⟩, ht⟩) (fun q h => absurd h List.not_mem_nil) d_X_isDigit_17
    · have gc4 : a1.toInt ≤ 57 := c_nlt c4
      have R6 : 48 ≤ a1.toInt ∧ a1.toInt ≤ 57 := by omega
      refine lv_iconst (v := 1) hx hb d_X_isDigit_12 (by decide) ?_
      refine lv_goto (tgt := 17) hx hb d_X_isDigit_13 (by decide) ?_
      exact W.zret (v := (1 : Int32)) hx hb hr (nar01 (by decide)) (fun t ht hW => ⟨(1 : Int32), rfl, ⟨(by decide), (by omega)⟩, ht⟩) (fun q h => absurd h List.not_mem_nil) d_X_isDigit_17
theorem s_X_isDigit {R : Room} {s : State} {args : Array Value} {own : String} {index : Nat} (hk : ∀ w ∈ tb, w.before args s = true) (hl : Cond.methodLink own index y_X_isDigit ∈ tb) (hR : 0 + 1 ≤ R.frames ∧ 8 + (1 + 11) + 0 ≤ R.locals) : CallB R s args own index y_X_isDigit b_X_isDigit 1 (some .boolean) (.code y_X_isDigit b_X_isDigit 1 (some .boolean) :: tb) ({ frames := 0, cells := 0, slots := 0, locals := 0 }) 0 0 1 ∧ (Cond.static y_X_isDigit).before args s = true := mk_s 1 hk k_1550 hl k_1549 k_119 rfl rfl h_X_isDigit hR
set_option maxHeartbeats 8000000 in
set_option maxRecDepth 100000 in
theorem c_X_readName (l : Launch) (D : va_G) (cI cJ cZ cB : ClassId) (p0 p1 p2 p3 p4 p5 p6 p7 p8 p9 p10 p11 p12 p13 p14 p15 p16 p17 p18 p19 p20 p21 p22 p23 p24 p25 : Nat) (sz : Nat) (x0_4 : Int32) (x0_5 : Int32) (x0_6 : Int32) (x0_7 : Int32) (x0_8 : Int32) (x0_12 : Int32) (x0_13 : Int32) (x0_14 : Int32) (x0_15 : Int32) (x0_16 : Int32) (x0_17 : Int32) (x0_18 : Int32) (x0_22 : Int32) (x0_23 : Int32) (x0_24 : Int32) (x0_25 : Int32) (x0_26 : Int32) (x0_27 : Int32) (x0_28 : Int32) (x0_29 : Int32) (x0_30 : Int32) (x0_31 : Int32) (x0_32 : Int32) (x0_36 : Int32) (x0_39 : Int32) (x0_40 : Int64) (x0_44 : Int32) (x0_49 : Int32) (x0_51 : Int32) (x0_53 : Int32) (x0_54 : Int32) (x0_55 : Int64) (x0_56 : Int32) (x0_57 : Int32) (x0_58 : Int32) (x0_59 : Int32) (x0_60 : Int32) (x0_61 : Int32) (x0_62 : Int64) (y1 : Nat → Int32) (y2 : Nat → Int32) (y3 : Nat → Int32) (y4 : Nat → Int32) (y5 : Nat → Int32) (y6 : Nat → Int32) (y7 : Nat → Int32) (y8 : Nat → Int32) (y9 : Nat → Int32) (y10 : Nat → Int32) (y11 : Nat → Int64) (y12 : Nat → Int32) (y13 : Nat → Int64) (y14 : Nat → Int32) (y15 : Nat → Int64) (y16 : Nat → Int32) (y17 : Nat → Int32) (y18 : Nat → Int32) (y19 : Nat → Int32) (y20 : Nat → Int32) (y21 : Nat → Int32) (y22 : Nat → Int32) (y23 : Nat → Int32) (y24 : Nat → Int64) (y25 : Nat → Int64)  (Rx0_24 : 0 ≤ x0_24.toInt ∧ x0_24.toInt ≤ 4000) (Rx0_25 : 0 ≤ x0_25.toInt ∧ x0_25.toInt ≤ 4000) (Rx0_26 : 0 ≤ x0_26.toInt ∧ x0_26.toInt ≤ 6) (Rx0_54 : 0 ≤ x0_54.toInt ∧ x0_54.toInt ≤ 3) (Q0 : x0_25.toInt ≤ x0_24.toInt) : Met l y_X_readName (.code y_X_readName b_X_readName 9 none :: tb) ({ frames := 1, cells := 0, slots := 0, locals := 21 }) (pM D cI cJ cZ cB (wS50 cI cJ cZ cB p0 p1 p2 p3 p4 p5 p6 p7 p8 p9 p10 p11 p12 p13 p14 p15 p16 p17 p18 p19 p20 p21 p22 p23 p24 p25 x0_4 x0_5 x0_6 x0_7 x0_8 x0_12 x0_13 x0_14 x0_15 x0_16 x0_17 x0_18 x0_22 x0_23 x0_24 x0_25 x0_26 x0_27 x0_28 x0_29 x0_30 x0_31 x0_32 x0_36 x0_39 x0_40 x0_44 x0_49 x0_51 x0_53 x0_54 x0_55 x0_56 x0_57 x0_58 x0_59 x0_60 x0_61 x0_62 y1 y2 y3 y4 y5 y6 y7 y8 y9 y10 y11 y12 y13 y14 y15 y16 y17 y18 y19 y20 y21 y22 y23 y24 y25) sz [.ref p0]) (va_Qv (fun (_ : Unit) => True) (fun _ t => ∃ u_x0_25 : Int32, ∃ u_x0_26 : Int32, ∃ u_x0_54 : Int32, ∃ u_x0_55 : Int64, ∃ u_x0_56 : Int32, (0 ≤ u_x0_25.toInt ∧ u_x0_25.toInt ≤ 4000) ∧ (0 ≤ u_x0_26.toInt ∧ u_x0_26.toInt ≤ 6) ∧ (0 ≤ u_x0_54.toInt ∧ u_x0_54.toInt ≤ 3) ∧ (x0_25.toInt ≤ u_x0_25.toInt ∧ u_x0_25.toInt ≤ x0_24.toInt) ∧ (1 ≤ x0_26.toInt → 1 ≤ u_x0_26.toInt) ∧ (u_x0_54.toInt = 1 → (0 ≤ u_x0_55.toInt ∧ u_x0_55.toInt ≤ 1073741823)) ∧ (u_x0_54.toInt = 3 → (0 ≤ u_x0_55.toInt ∧ u_x0_55.toInt ≤ 9)) ∧ va_P D classes (wS50 cI cJ cZ cB p0 p1 p2 p3 p4 p5 p6 p7 p8 p9 p10 p11 p12 p13 p14 p15 p16 p17 p18 p19 p20 p21 p22 p23 p24 p25 x0_4 x0_5 x0_6 x0_7 x0_8 x0_12 x0_13 x0_14 x0_15 x0_16 x0_17 x0_18 x0_22 x0_23 x0_24 u_x0_25 u_x0_26 x0_27 x0_28 x0_29 x0_30 x0_31 x0_32 x0_36 x0_39 x0_40 x0_44 x0_49 x0_51 x0_53 u_x0_54 u_x0_55 u_x0_56 x0_57 x0_58 x0_59 x0_60 x0_61 x0_62 y1 y2 y3 y4 y5 y6 y7 y8 y9 y10 y11 y12 y13 y14 y15 y16 y17 y18 y19 y20 y21 y22 y23 y24 y25) t.heap ∧ va_D (va_A (wS50 cI cJ cZ cB p0 p1 p2 p3 p4 p5 p6 p7 p8 p9 p10 p11 p12 p13 p14 p15 p16 p17 p18 p19 p20 p21 p22 p23 p24 p25 x0_4 x0_5 x0_6 x0_7 x0_8 x0_12 x0_13 x0_14 x0_15 x0_16 x0_17 x0_18 x0_22 x0_23 x0_24 x0_25 x0_26 x0_27 x0_28 x0_29 x0_30 x0_31 x0_32 x0_36 x0_39 x0_40 x0_44 x0_49 x0_51 x0_53 x0_54 x0_55 x0_56 x0_57 x0_58 x0_59 x0_60 x0_61 x0_62 y1 y2 y3 y4 y5 y6 y7 y8 y9 y10 y11 y12 y13 y14 y15 y16 y17 y18 y19 y20 y21 y22 y23 y24 y25) sz) (wS50 cI cJ cZ cB p0 p1 p2 p3 p4 p5 p6 p7 p8 p9 p10 p11 p12 p13 p14 p15 p16 p17 p18 p19 p20 p21 p22 p23 p24 p25 x0_4 x0_5 x0_6 x0_7 x0_8 x0_12 x0_13 x0_14 x0_15 x0_16 x0_17 x0_18 x0_22 x0_23 x0_24 u_x0_25 u_x0_26 x0_27 x0_28 x0_29 x0_30 x0_31 x0_32 x0_36 x0_39 x0_40 x0_44 x0_49 x0_51 x0_53 u_x0_54 u_x0_55 u_x0_56 x0_57 x0_58 x0_59 x0_60 x0_61 x0_62 y1 y2 y3 y4 y5 y6 y7 y8 y9 y10 y11 y12 y13 y14 y15 y16 y17 y18 y19 y20 y21 y22 y23 y24 y25)) (va_A (wS50 cI cJ cZ cB p0 p1 p2 p3 p4 p5 p6 p7 p8 p9 p10 p11 p12 p13 p14 p15 p16 p17 p18 p19 p20 p21 p22 p23 p24 p25 x0_4 x0_5 x0_6 x0_7 x0_8 x0_12 x0_13 x0_14 x0_15 x0_16 x0_17 x0_18 x0_22 x0_23 x0_24 x0_25 x0_26 x0_27 x0_28 x0_29 x0_30 x0_31 x0_32 x0_36 x0_39 x0_40 x0_44 x0_49 x0_51 x0_53 x0_54 x0_55 x0_56 x0_57 x0_58 x0_59 x0_60 x0_61 x0_62 y1 y2 y3 y4 y5 y6 y7 y8 y9 y10 y11 y12 y13 y14 y15 y16 y17 y18 y19 y20 y21 y22 y23 y24 y25) sz)) 0 0 (va_A (wS50 cI cJ cZ cB p0 p1 p2 p3 p4 p5 p6 p7 p8 p9 p10 p11 p12 p13 p14 p15 p16 p17 p18 p19 p20 p21 p22 p23 p24 p25 x0_4 x0_5 x0_6 x0_7 x0_8 x0_12 x0_13 x0_14 x0_15 x0_16 x0_17 x0_18 x0_22 x0_23 x0_24 x0_25 x0_26 x0_27 x0_28 x0_29 x0_30 x0_31 x0_32 x0_36 x0_39 x0_40 x0_44 x0_49 x0_51 x0_53 x0_54 x0_55 x0_56 x0_57 x0_58 x0_59 x0_60 x0_61 x0_62 y1 y2 y3 y4 y5 y6 y7 y8 y9 y10 y11 y12 y13 y14 y15 y16 y17 y18 y19 y20 y21 y22 y23 y24 y25) sz) := by
  refine Met.ofW (cc := b_X_readName) (maxL := 9) (ret := none) (by decide) rfl ?_
  intro p e s m args below meth c s₁ B hml hv
  obtain ⟨rfl, hsz, hK, hP, hD0⟩ := hv
  subst hsz
  have hD := hD0.self (sz := s.heap.size)
  generalize hAe : va_A (wS50 cI cJ cZ cB p0 p1 p2 p3 p4 p5 p6 p7 p8 p9 p10 p11 p12 p13 p14 p15 p16 p17 p18 p19 p20 p21 p22 p23 p24 p25 x0_4 x0_5 x0_6 x0_7 x0_8 x0_12 x0_13 x0_14 x0_15 x0_16 x0_17 x0_18 x0_22 x0_23 x0_24 x0_25 x0_26 x0_27 x0_28 x0_29 x0_30 x0_31 x0_32 x0_36 x0_39 x0_40 x0_44 x0_49 x0_51 x0_53 x0_54 x0_55 x0_56 x0_57 x0_58 x0_59 x0_60 x0_61 x0_62 y1 y2 y3 y4 y5 y6 y7 y8 y9 y10 y11 y12 y13 y14 y15 y16 y17 y18 y19 y20 y21 y22 y23 y24 y25) s.heap.size = A at hD ⊢
  have hA : ∀ q : Nat, s.heap.size ≤ q → A q := fun q h => by rw [← hAe]; exact Or.inr h
  clear hAe hD0
  have hS : va_S A s.heap s.heap [] := va_S.rf
  have hx := B.exec
  have hb := B.bytes
  have hr := B.returns
  have hts := atoms_spec (ws := .code y_X_readName b_X_readName 9 none :: tb) B.pre
  have hk : ∀ w ∈ tb, w.before [.ref p0].toArray s = true := fun w h => hts w (List.mem_cons_of_mem _ h)
  have hown : s.vm.findClass "SignMachineModel" = some m.cls := findClass_of_methodNamed B.named
  have hlocks := B.notSynchronized
  have hl := lv_entry ([.ref p0]) (n := 9) (Nat.le_of_ble_eq_true rfl)
  rw [lg_entry_eq]
  generalize (lg_sl ([.ref p0]) ++ List.replicate (9 - (lg_sl ([.ref p0])).length) Slot.unset).toArray = ls at hl ⊢
  have hl : lv_has ls 9 [(0, .ref p0)] := hl
  clear hts B
  refine lv_aload_n hx hb d_X_readName_0 rfl (lv_at hl 0 rfl) ?_
  refine va_get (D := D) (ci := 7) (v := .int x0_25) (C := "SignMachineModel") (T := F_X) (N := 64) hx hb hk fi_X hown hK.1 hP 0 rfl rfl 25 (by decide) (hk _ k_1146) (fun _ h9 => h9) rfl d_X_readName_1 ?_
  refine lv_istore_n (lv' := [(1, .int x0_25), (0, .ref p0)]) hx hb d_X_readName_4 rfl hl (by decide) rfl (fun ls hl => ?_)
  refine lv_iconst (v := 0) hx hb d_X_readName_5 (by decide) ?_
  refine lv_istore_n (lv' := [(2, .int (0 : Int32)), (1, .int x0_25), (0, .ref p0)]) hx hb d_X_readName_6 rfl hl (by decide) rfl (fun ls hl => ?_)
  refine lv_lconst (v := 0) hx hb d_X_readName_7 (by decide) ?_
  refine lv_lstore_n (lv' := [(3, .long (0 : Int64)), (2, .int (0 : Int32)), (1, .int x0_25), (0, .ref p0)]) hx hb d_X_readName_8 rfl hl (by decide) rfl (fun ls hl => ?_)
  refine lv_lconst (v := 0) hx hb d_X_readName_9 (by decide) ?_
  refine lv_lstore (lv' := [(5, .long (0 : Int64)), (3, .long (0 : Int64)), (2, .int (0 : Int32)), (1, .int x0_25), (0, .ref p0)]) hx hb d_X_readName_10 hl (by decide) rfl (fun ls hl => ?_)
  have CUT12 : ∀ (n : Nat) (g12l5 : Int64) (g12l3 : Int64) (g12l2 : Int32) (g12x0_25 : Int32) (H : Heap) (locs : List Loc) (ls : Array Slot), (x0_24.toInt - g12x0_25.toInt) < (n : Int) → (0 ≤ g12l3.toInt ∧ g12l3.toInt ≤ 46666666662) → (0 ≤ g12x0_25.toInt ∧ g12x0_25.toInt ≤ 4000) → (g12x0_25.toInt ≤ x0_24.toInt) → (x0_25.toInt ≤ g12x0_25.toInt) → (g12x0_25.toInt - x0_25.toInt = 0 → g12l3.toInt ≤ 0) → (g12x0_25.toInt - x0_25.toInt = 1 → g12l3.toInt ≤ 42) → (g12x0_25.toInt - x0_25.toInt = 2 → g12l3.toInt ≤ 462) → (g12x0_25.toInt - x0_25.toInt = 3 → g12l3.toInt ≤ 4662) → (g12x0_25.toInt - x0_25.toInt = 4 → g12l3.toInt ≤ 46662) → (g12x0_25.toInt - x0_25.toInt = 5 → g12l3.toInt ≤ 466662) → (g12x0_25.toInt - x0_25.toInt = 6 → g12l3.toInt ≤ 4666662) → (g12x0_25.toInt - x0_25.toInt = 7 → g12l3.toInt ≤ 46666662) → (g12x0_25.toInt - x0_25.toInt = 8 → g12l3.toInt ≤ 466666662) → (g12x0_25.toInt - x0_25.toInt = 9 → g12l3.toInt ≤ 4666666662) → va_P D classes (wS50 cI cJ cZ cB p0 p1 p2 p3 p4 p5 p6 p7 p8 p9 p10 p11 p12 p13 p14 p15 p16 p17 p18 p19 p20 p21 p22 p23 p24 p25 x0_4 x0_5 x0_6 x0_7 x0_8 x0_12 x0_13 x0_14 x0_15 x0_16 x0_17 x0_18 x0_22 x0_23 x0_24 g12x0_25 x0_26 x0_27 x0_28 x0_29 x0_30 x0_31 x0_32 x0_36 x0_39 x0_40 x0_44 x0_49 x0_51 x0_53 x0_54 x0_55 x0_56 x0_57 x0_58 x0_59 x0_60 x0_61 x0_62 y1 y2 y3 y4 y5 y6 y7 y8 y9 y10 y11 y12 y13 y14 y15 y16 y17 y18 y19 y20 y21 y22 y23 y24 y25) H → va_D A (wS50 cI cJ cZ cB p0 p1 p2 p3 p4 p5 p6 p7 p8 p9 p10 p11 p12 p13 p14 p15 p16 p17 p18 p19 p20 p21 p22 p23 p24 p25 x0_4 x0_5 x0_6 x0_7 x0_8 x0_12 x0_13 x0_14 x0_15 x0_16 x0_17 x0_18 x0_22 x0_23 x0_24 g12x0_25 x0_26 x0_27 x0_28 x0_29 x0_30 x0_31 x0_32 x0_36 x0_39 x0_40 x0_44 x0_49 x0_51 x0_53 x0_54 x0_55 x0_56 x0_57 x0_58 x0_59 x0_60 x0_61 x0_62 y1 y2 y3 y4 y5 y6 y7 y8 y9 y10 y11 y12 y13 y14 y15 y16 y17 y18 y19 y20 y21 y22 y23 y24 y25) → va_S A s.heap H locs → lv_has ls 9 [(5, .long g12l5), (3, .long g12l3), (2, .int g12l2), (1, .int x0_25), (0, .ref p0)] → W p l e ({ frames := 1, cells := 0, slots := 0, locals := 21 }) s m [.ref p0].toArray below meth c H locs 0 0 (MQ below (va_Qv (fun (_ : Unit) => True) (fun _ t => ∃ u_x0_25 : Int32, ∃ u_x0_26 : Int32, ∃ u_x0_54 : Int32, ∃ u_x0_55 : Int64, ∃ u_x0_56 : Int32, (0 ≤ u_x0_25.toInt ∧ u_x0_25.toInt ≤ 4000) ∧ (0 ≤ u_x0_26.toInt ∧ u_x0_26.toInt ≤ 6) ∧ (0 ≤ u_x0_54.toInt ∧ u_x0_54.toInt ≤ 3) ∧ (x0_25.toInt ≤ u_x0_25.toInt ∧ u_x0_25.toInt ≤ x0_24.toInt) ∧ (1 ≤ x0_26.toInt → 1 ≤ u_x0_26.toInt) ∧ (u_x0_54.toInt = 1 → (0 ≤ u_x0_55.toInt ∧ u_x0_55.toInt ≤ 1073741823)) ∧ (u_x0_54.toInt = 3 → (0 ≤ u_x0_55.toInt ∧ u_x0_55.toInt ≤ 9)) ∧ va_P D classes (wS50 cI cJ cZ cB p0 p1 p2 p3 p4 p5 p6 p7 p8 p9 p10 p11 p12 p13 p14 p15 p16 p17 p18 p19 p20 p21 p22 p23 p24 p25 x0_4 x0_5 x0_6 x0_7 x0_8 x0_12 x0_13 x0_14 x0_15 x0_16 x0_17 x0_18 x0_22 x0_23 x0_24 u_x0_25 u_x0_26 x0_27 x0_28 x0_29 x0_30 x0_31 x0_32 x0_36 x0_39 x0_40 x0_44 x0_49 x0_51 x0_53 u_x0_54 u_x0_55 u_x0_56 x0_57 x0_58 x0_59 x0_60 x0_61 x0_62 y1 y2 y3 y4 y5 y6 y7 y8 y9 y10 y11 y12 y13 y14 y15 y16 y17 y18 y19 y20 y21 y22 y23 y24 y25) t.heap ∧ va_D A (wS50 cI cJ cZ cB p0 p1 p2 p3 p4 p5 p6 p7 p8 p9 p10 p11 p12 p13 p14 p15 p16 p17 p18 p19 p20 p21 p22 p23 p24 p25 x0_4 x0_5 x0_6 x0_7 x0_8 x0_12 x0_13 x0_14 x0_15 x0_16 x0_17 x0_18 x0_22 x0_23 x0_24 u_x0_25 u_x0_26 x0_27 x0_28 x0_29 x0_30 x0_31 x0_32 x0_36 x0_39 x0_40 x0_44 x0_49 x0_51 x0_53 u_x0_54 u_x0_55 u_x0_56 x0_57 x0_58 x0_59 x0_60 x0_61 x0_62 y1 y2 y3 y4 y5 y6 y7 y8 y9 y10 y11 y12 y13 y14 y15 y16 y17 y18 y19 y20 y21 y22 y23 y24 y25)) A) [.ref p0].toArray s 0 0 A) (F0 m 12 ls []) := by
    intro n
    induction n with
    | zero => intro g12l5 g12l3 g12l2 g12x0_25 H locs ls hn12 Rg12l3 Rg12x0_25 I12_0 I12_1 I12_2 I12_3 I12_4 I12_5 I12_6 I12_7 I12_8 I12_9 I12_10 I12_11 hP hD hS hl; exfalso; omega
    | succ n ih12 =>
      intro g12l5 g12l3 g12l2 g12x0_25 H locs ls hn12 Rg12l3 Rg12x0_25 I12_0 I12_1 I12_2 I12_3 I12_4 I12_5 I12_6 I12_7 I12_8 I12_9 I12_10 I12_11 hP hD hS hl
      have CUT32 : ∀   (H : Heap) (locs : List Loc) (ls : Array Slot), (g12x0_25.toInt < x0_24.toInt) → (48 ≤ (y10 (g12x0_25).toNatClampNeg).toInt ∧ (y10 (g12x0_25).toNatClampNeg).toInt ≤ 90) → va_P D classes (wS50 cI cJ cZ cB p0 p1 p2 p3 p4 p5 p6 p7 p8 p9 p10 p11 p12 p13 p14 p15 p16 p17 p18 p19 p20 p21 p22 p23 p24 p25 x0_4 x0_5 x0_6 x0_7 x0_8 x0_12 x0_13 x0_14 x0_15 x0_16 x0_17 x0_18 x0_22 x0_23 x0_24 g12x0_25 x0_26 x0_27 x0_28 x0_29 x0_30 x0_31 x0_32 x0_36 x0_39 x0_40 x0_44 x0_49 x0_51 x0_53 x0_54 x0_55 x0_56 x0_57 x0_58 x0_59 x0_60 x0_61 x0_62 y1 y2 y3 y4 y5 y6 y7 y8 y9 y10 y11 y12 y13 y14 y15 y16 y17 y18 y19 y20 y21 y22 y23 y24 y25) H → va_D A (wS50 cI cJ cZ cB p0 p1 p2 p3 p4 p5 p6 p7 p8 p9 p10 p11 p12 p13 p14 p15 p16 p17 p18 p19 p20 p21 p22 p23 p24 p25 x0_4 x0_5 x0_6 x0_7 x0_8 x0_12 x0_13 x0_14 x0_15 x0_16 x0_17 x0_18 x0_22 x0_23 x0_24 g12x0_25 x0_26 x0_27 x0_28 x0_29 x0_30 x0_31 x0_32 x0_36 x0_39 x0_40 x0_44 x0_49 x0_51 x0_53 x0_54 x0_55 x0_56 x0_57 x0_58 x0_59 x0_60 x0_61 x0_62 y1 y2 y3 y4 y5 y6 y7 y8 y9 y10 y11 y12 y13 y14 y15 y16 y17 y18 y19 y20 y21 y22 y23 y24 y25) → va_S A s.heap H locs → lv_has ls 9 [(5, .long g12l5), (3, .long g12l3), (2, .int g12l2), (1, .int x0_25), (0, .ref p0)] → W p l e ({ frames := 1, cells := 0, slots := 0, locals := 21 }) s m [.ref p0].toArray below meth c H locs 0 0 (MQ below (va_Qv (fun (_ : Unit) => True) (fun _ t => ∃ u_x0_25 : Int32, ∃ u_x0_26 : Int32, ∃ u_x0_54 : Int32, ∃ u_x0_55 : Int64, ∃ u_x0_56 : Int32, (0 ≤ u_x0_25.toInt ∧ u_x0_25.toInt ≤ 4000) ∧ (0 ≤ u_x0_26.toInt ∧ u_x0_26.toInt ≤ 6) ∧ (0 ≤ u_x0_54.toInt ∧ u_x0_54.toInt ≤ 3) ∧ (x0_25.toInt ≤ u_x0_25.toInt ∧ u_x0_25.toInt ≤ x0_24.toInt) ∧ (1 ≤ x0_26.toInt → 1 ≤ u_x0_26.toInt) ∧ (u_x0_54.toInt = 1 → (0 ≤ u_x0_55.toInt ∧ u_x0_55.toInt ≤ 1073741823)) ∧ (u_x0_54.toInt = 3 → (0 ≤ u_x0_55.toInt ∧ u_x0_55.toInt ≤ 9)) ∧ va_P D classes (wS50 cI cJ cZ cB p0 p1 p2 p3 p4 p5 p6 p7 p8 p9 p10 p11 p12 p13 p14 p15 p16 p17 p18 p19 p20 p21 p22 p23 p24 p25 x0_4 x0_5 x0_6 x0_7 x0_8 x0_12 x0_13 x0_14 x0_15 x0_16 x0_17 x0_18 x0_22 x0_23 x0_24 u_x0_25 u_x0_26 x0_27 x0_28 x0_29 x0_30 x0_31 x0_32 x0_36 x0_39 x0_40 x0_44 x0_49 x0_51 x0_53 u_x0_54 u_x0_55 u_x0_56 x0_57 x0_58 x0_59 x0_60 x0_61 x0_62 y1 y2 y3 y4 y5 y6 y7 y8 y9 y10 y11 y12 y13 y14 y15 y16 y17 y18 y19 y20 y21 y22 y23 y24 y25) t.heap ∧ va_D A (wS50 cI cJ cZ cB p0 p1 p2 p3 p4 p5 p6 p7 p8 p9 p10 p11 p12 p13 p14 p15 p16 p17 p18 p19 p20 p21 p22 p23 p24 p25 x0_4 x0_5 x0_6 x0_7 x0_8 x0_12 x0_13 x0_14 x0_15 x0_16 x0_17 x0_18 x0_22 x0_23 x0_24 u_x0_25 u_x0_26 x0_27 x0_28 x0_29 x0_30 x0_31 x0_32 x0_36 x0_39 x0_40 x0_44 x0_49 x0_51 x0_53 u_x0_54 u_x0_55 u_x0_56 x0_57 x0_58 x0_59 x0_60 x0_61 x0_62 y1 y2 y3 y4 y5 y6 y7 y8 y9 y10 y11 y12 y13 y14 y15 y16 y17 y18 y19 y20 y21 y22 y23 y24 y25)) A) [.ref p0].toArray s 0 0 A) (F0 m 32 ls []) := by
        intro  H locs ls I32_0 I32_1 hP hD hS hl
        have CUT52 : ∀ (g52l2 : Int32)  (H : Heap) (locs : List Loc) (ls : Array Slot), va_P D classes (wS50 cI cJ cZ cB p0 p1 p2 p3 p4 p5 p6 p7 p8 p9 p10 p11 p12 p13 p14 p15 p16 p17 p18 p19 p20 p21 p22 p23 p24 p25 x0_4 x0_5 x0_6 x0_7 x0_8 x0_12 x0_13 x0_14 x0_15 x0_16 x0_17 x0_18 x0_22 x0_23 x0_24 g12x0_25 x0_26 x0_27 x0_28 x0_29 x0_30 x0_31 x0_32 x0_36 x0_39 x0_40 x0_44 x0_49 x0_51 x0_53 x0_54 x0_55 x0_56 x0_57 x0_58 x0_59 x0_60 x0_61 x0_62 y1 y2 y3 y4 y5 y6 y7 y8 y9 y10 y11 y12 y13 y14 y15 y16 y17 y18 y19 y20 y21 y22 y23 y24 y25) H → va_D A (wS50 cI cJ cZ cB p0 p1 p2 p3 p4 p5 p6 p7 p8 p9 p10 p11 p12 p13 p14 p15 p16 p17 p18 p19 p20 p21 p22 p23 p24 p25 x0_4 x0_5 x0_6 x0_7 x0_8 x0_12 x0_13 x0_14 x0_15 x0_16 x0_17 x0_18 x0_22 x0_23 x0_24 g12x0_25 x0_26 x0_27 x0_28 x0_29 x0_30 x0_31 x0_32 x0_36 x0_39 x0_40 x0_44 x0_49 x0_51 x0_53 x0_54 x0_55 x0_56 x0_57 x0_58 x0_59 x0_60 x0_61 x0_62 y1 y2 y3 y4 y5 y6 y7 y8 y9 y10 y11 y12 y13 y14 y15 y16 y17 y18 y19 y20 y21 y22 y23 y24 y25) → va_S A s.heap H locs → lv_has ls 9 [(5, .long g12l5), (3, .long g12l3), (2, .int g52l2), (1, .int x0_25), (0, .ref p0)] → W p l e ({ frames := 1, cells := 0, slots := 0, locals := 21 }) s m [.ref p0].toArray below meth c H locs 0 0 (MQ below (va_Qv (fun (_ : Unit) => True) (fun _ t => ∃ u_x0_25 : Int32, ∃ u_x0_26 : Int32, ∃ u_x0_54 : Int32, ∃ u_x0_55 : Int64, ∃ u_x0_56 : Int32, (0 ≤ u_x0_25.toInt ∧ u_x0_25.toInt ≤ 4000) ∧ (0 ≤ u_x0_26.toInt ∧ u_x0_26.toInt ≤ 6) ∧ (0 ≤ u_x0_54.toInt ∧ u_x0_54.toInt ≤ 3) ∧ (x0_25.toInt ≤ u_x0_25.toInt ∧ u_x0_25.toInt ≤ x0_24.toInt) ∧ (1 ≤ x0_26.toInt → 1 ≤ u_x0_26.toInt) ∧ (u_x0_54.toInt = 1 → (0 ≤ u_x0_55.toInt ∧ u_x0_55.toInt ≤ 1073741823)) ∧ (u_x0_54.toInt = 3 → (0 ≤ u_x0_55.toInt ∧ u_x0_55.toInt ≤ 9)) ∧ va_P D classes (wS50 cI cJ cZ cB p0 p1 p2 p3 p4 p5 p6 p7 p8 p9 p10 p11 p12 p13 p14 p15 p16 p17 p18 p19 p20 p21 p22 p23 p24 p25 x0_4 x0_5 x0_6 x0_7 x0_8 x0_12 x0_13 x0_14 x0_15 x0_16 x0_17 x0_18 x0_22 x0_23 x0_24 u_x0_25 u_x0_26 x0_27 x0_28 x0_29 x0_30 x0_31 x0_32 x0_36 x0_39 x0_40 x0_44 x0_49 x0_51 x0_53 u_x0_54 u_x0_55 u_x0_56 x0_57 x0_58 x0_59 x0_60 x0_61 x0_62 y1 y2 y3 y4 y5 y6 y7 y8 y9 y10 y11 y12 y13 y14 y15 y16 y17 y18 y19 y20 y21 y22 y23 y24 y25) t.heap ∧ va_D A (wS50 cI cJ cZ cB p0 p1 p2 p3 p4 p5 p6 p7 p8 p9 p10 p11 p12 p13 p14 p15 p16 p17 p18 p19 p20 p21 p22 p23 p24 p25 x0_4 x0_5 x0_6 x0_7 x0_8 x0_12 x0_13 x0_14 x0_15 x0_16 x0_17 x0_18 x0_22 x0_23 x0_24 u_x0_25 u_x0_26 x0_27 x0_28 x0_29 x0_30 x0_31 x0_32 x0_36 x0_39 x0_40 x0_44 x0_49 x0_51 x0_53 u_x0_54 u_x0_55 u_x0_56 x0_57 x0_58 x0_59 x0_60 x0_61 x0_62 y1 y2 y3 y4 y5 y6 y7 y8 y9 y10 y11 y12 y13 y14 y15 y16 y17 y18 y19 y20 y21 y22 y23 y24 y25)) A) [.ref p0].toArray s 0 0 A) (F0 m 52 ls []) := by
          intro g52l2 H locs ls  hP hD hS hl
          have CUT83 : ∀ (g83l3 : Int64)  (H : Heap) (locs : List Loc) (ls : Array Slot), (0 ≤ g83l3.toInt ∧ g83l3.toInt ≤ 46666666662) → (g12x0_25.toInt - x0_25.toInt = 0 → g83l3.toInt ≤ 42) → (g12x0_25.toInt - x0_25.toInt = 1 → g83l3.toInt ≤ 462) → (g12x0_25.toInt - x0_25.toInt = 2 → g83l3.toInt ≤ 4662) → (g12x0_25.toInt - x0_25.toInt = 3 → g83l3.toInt ≤ 46662) → (g12x0_25.toInt - x0_25.toInt = 4 → g83l3.toInt ≤ 466662) → (g12x0_25.toInt - x0_25.toInt = 5 → g83l3.toInt ≤ 4666662) → (g12x0_25.toInt - x0_25.toInt = 6 → g83l3.toInt ≤ 46666662) → (g12x0_25.toInt - x0_25.toInt = 7 → g83l3.toInt ≤ 466666662) → (g12x0_25.toInt - x0_25.toInt = 8 → g83l3.toInt ≤ 4666666662) → (g12x0_25.toInt - x0_25.toInt = 9 → g83l3.toInt ≤ 46666666662) → va_P D classes (wS50 cI cJ cZ cB p0 p1 p2 p3 p4 p5 p6 p7 p8 p9 p10 p11 p12 p13 p14 p15 p16 p17 p18 p19 p20 p21 p22 p23 p24 p25 x0_4 x0_5 x0_6 x0_7 x0_8 x0_12 x0_13 x0_14 x0_15 x0_16 x0_17 x0_18 x0_22 x0_23 x0_24 g12x0_25 x0_26 x0_27 x0_28 x0_29 x0_30 x0_31 x0_32 x0_36 x0_39 x0_40 x0_44 x0_49 x0_51 x0_53 x0_54 x0_55 x0_56 x0_57 x0_58 x0_59 x0_60 x0_61 x0_62 y1 y2 y3 y4 y5 y6 y7 y8 y9 y10 y11 y12 y13 y14 y15 y16 y17 y18 y19 y20 y21 y22 y23 y24 y25) H → va_D A (wS50 cI cJ cZ cB p0 p1 p2 p3 p4 p5 p6 p7 p8 p9 p10 p11 p12 p13 p14 p15 p16 p17 p18 p19 p20 p21 p22 p23 p24 p25 x0_4 x0_5 x0_6 x0_7 x0_8 x0_12 x0_13 x0_14 x0_15 x0_16 x0_17 x0_18 x0_22 x0_23 x0_24 g12x0_25 x0_26 x0_27 x0_28 x0_29 x0_30 x0_31 x0_32 x0_36 x0_39 x0_40 x0_44 x0_49 x0_51 x0_53 x0_54 x0_55 x0_56 x0_57 x0_58 x0_59 x0_60 x0_61 x0_62 y1 y2 y3 y4 y5 y6 y7 y8 y9 y10 y11 y12 y13 y14 y15 y16 y17 y18 y19 y20 y21 y22 y23 y24 y25) → va_S A s.heap H locs → lv_has ls 9 [(5, .long g12l5), (3, .long g83l3), (2, .int g52l2), (1, .int x0_25), (0, .ref p0)] → W p l e ({ frames := 1, cells := 0, slots := 0, locals := 21 }) s m [.ref p0].toArray below meth c H locs 0 0 (MQ below (va_Qv (fun (_ : Unit) => True) (fun _ t => ∃ u_x0_25 : Int32, ∃ u_x0_26 : Int32, ∃ u_x0_54 : Int32, ∃ u_x0_55 : Int64, ∃ u_x0_56 : Int32, (0 ≤ u_x0_25.toInt ∧ u_x0_25.toInt ≤ 4000) ∧ (0 ≤ u_x0_26.toInt ∧ u_x0_26.toInt ≤ 6) ∧ (0 ≤ u_x0_54.toInt ∧ u_x0_54.toInt ≤ 3) ∧ (x0_25.toInt ≤ u_x0_25.toInt ∧ u_x0_25.toInt ≤ x0_24.toInt) ∧ (1 ≤ x0_26.toInt → 1 ≤ u_x0_26.toInt) ∧ (u_x0_54.toInt = 1 → (0 ≤ u_x0_55.toInt ∧ u_x0_55.toInt ≤ 1073741823)) ∧ (u_x0_54.toInt = 3 → (0 ≤ u_x0_55.toInt ∧ u_x0_55.toInt ≤ 9)) ∧ va_P D classes (wS50 cI cJ cZ cB p0 p1 p2 p3 p4 p5 p6 p7 p8 p9 p10 p11 p12 p13 p14 p15 p16 p17 p18 p19 p20 p21 p22 p23 p24 p25 x0_4 x0_5 x0_6 x0_7 x0_8 x0_12 x0_13 x0_14 x0_15 x0_16 x0_17 x0_18 x0_22 x0_23 x0_24 u_x0_25 u_x0_26 x0_27 x0_28 x0_29 x0_30 x0_31 x0_32 x0_36 x0_39 x0_40 x0_44 x0_49 x0_51 x0_53 u_x0_54 u_x0_55 u_x0_56 x0_57 x0_58 x0_59 x0_60 x0_61 x0_62 y1 y2 y3 y4 y5 y6 y7 y8 y9 y10 y11 y12 y13 y14 y15 y16 y17 y18 y19 y20 y21 y22 y23 y24 y25) t.heap ∧ va_D A (wS50 cI cJ cZ cB p0 p1 p2 p3 p4 p5 p6 p7 p8 p9 p10 p11 p12 p13 p14 p15 p16 p17 p18 p19 p20 p21 p22 p23 p24 p25 x0_4 x0_5 x0_6 x0_7 x0_8 x0_12 x0_13 x0_14 x0_15 x0_16 x0_17 x0_18 x0_22 x0_23 x0_24 u_x0_25 u_x0_26 x0_27 x0_28 x0_29 x0_30 x0_31 x0_32 x0_36 x0_39 x0_40 x0_44 x0_49 x0_51 x0_53 u_x0_54 u_x0_55 u_x0_56 x0_57 x0_58 x0_59 x0_60 x0_61 x0_62 y1 y2 y3 y4 y5 y6 y7 y8 y9 y10 y11 y12 y13 y14 y15 y16 y17 y18 y19 y20 y21 y22 y23 y24 y25)) A) [.ref p0].toArray s 0 0 A) (F0 m 83 ls []) := by
            intro g83l3 H locs ls Rg83l3 I83_0 I83_1 I83_2 I83_3 I83_4 I83_5 I83_6 I83_7 I83_8 I83_9 hP hD hS hl
            have CUT112 : ∀ (g112l5 : Int64)  (H : Heap) (locs : List Loc) (ls : Array Slot), va_P D classes (wS50 cI cJ cZ cB p0 p1 p2 p3 p4 p5 p6 p7 p8 p9 p10 p11 p12 p13 p14 p15 p16 p17 p18 p19 p20 p21 p22 p23 p24 p25 x0_4 x0_5 x0_6 x0_7 x0_8 x0_12 x0_13 x0_14 x0_15 x0_16 x0_17 x0_18 x0_22 x0_23 x0_24 g12x0_25 x0_26 x0_27 x0_28 x0_29 x0_30 x0_31 x0_32 x0_36 x0_39 x0_40 x0_44 x0_49 x0_51 x0_53 x0_54 x0_55 x0_56 x0_57 x0_58 x0_59 x0_60 x0_61 x0_62 y1 y2 y3 y4 y5 y6 y7 y8 y9 y10 y11 y12 y13 y14 y15 y16 y17 y18 y19 y20 y21 y22 y23 y24 y25) H → va_D A (wS50 cI cJ cZ cB p0 p1 p2 p3 p4 p5 p6 p7 p8 p9 p10 p11 p12 p13 p14 p15 p16 p17 p18 p19 p20 p21 p22 p23 p24 p25 x0_4 x0_5 x0_6 x0_7 x0_8 x0_12 x0_13 x0_14 x0_15 x0_16 x0_17 x0_18 x0_22 x0_23 x0_24 g12x0_25 x0_26 x0_27 x0_28 x0_29 x0_30 x0_31 x0_32 x0_36 x0_39 x0_40 x0_44 x0_49 x0_51 x0_53 x0_54 x0_55 x0_56 x0_57 x0_58 x0_59 x0_60 x0_61 x0_62 y1 y2 y3 y4 y5 y6 y7 y8 y9 y10 y11 y12 y13 y14 y15 y16 y17 y18 y19 y20 y21 y22 y23 y24 y25) → va_S A s.heap H locs → lv_has ls 9 [(5, .long g112l5), (3, .long g83l3), (2, .int g52l2), (1, .int x0_25), (0, .ref p0)] → W p l e ({ frames := 1, cells := 0, slots := 0, locals := 21 }) s m [.ref p0].toArray below meth c H locs 0 0 (MQ below (va_Qv (fun (_ : Unit) => True) (fun _ t => ∃ u_x0_25 : Int32, ∃ u_x0_26 : Int32, ∃ u_x0_54 : Int32, ∃ u_x0_55 : Int64, ∃ u_x0_56 : Int32, (0 ≤ u_x0_25.toInt ∧ u_x0_25.toInt ≤ 4000) ∧ (0 ≤ u_x0_26.toInt ∧ u_x0_26.toInt ≤ 6) ∧ (0 ≤ u_x0_54.toInt ∧ u_x0_54.toInt ≤ 3) ∧ (x0_25.toInt ≤ u_x0_25.toInt ∧ u_x0_25.toInt ≤ x0_24.toInt) ∧ (1 ≤ x0_26.toInt → 1 ≤ u_x0_26.toInt) ∧ (u_x0_54.toInt = 1 → (0 ≤ u_x0_55.toInt ∧ u_x0_55.toInt ≤ 1073741823)) ∧ (u_x0_54.toInt = 3 → (0 ≤ u_x0_55.toInt ∧ u_x0_55.toInt ≤ 9)) ∧ va_P D classes (wS50 cI cJ cZ cB p0 p1 p2 p3 p4 p5 p6 p7 p8 p9 p10 p11 p12 p13 p14 p15 p16 p17 p18 p19 p20 p21 p22 p23 p24 p25 x0_4 x0_5 x0_6 x0_7 x0_8 x0_12 x0_13 x0_14 x0_15 x0_16 x0_17 x0_18 x0_22 x0_23 x0_24 u_x0_25 u_x0_26 x0_27 x0_28 x0_29 x0_30 x0_31 x0_32 x0_36 x0_39 x0_40 x0_44 x0_49 x0_51 x0_53 u_x0_54 u_x0_55 u_x0_56 x0_57 x0_58 x0_59 x0_60 x0_61 x0_62 y1 y2 y3 y4 y5 y6 y7 y8 y9 y10 y11 y12 y13 y14 y15 y16 y17 y18 y19 y20 y21 y22 y23 y24 y25) t.heap ∧ va_D A (wS50 cI cJ cZ cB p0 p1 p2 p3 p4 p5 p6 p7 p8 p9 p10 p11 p12 p13 p14 p15 p16 p17 p18 p19 p20 p21 p22 p23 p24 p25 x0_4 x0_5 x0_6 x0_7 x0_8 x0_12 x0_13 x0_14 x0_15 x0_16 x0_17 x0_18 x0_22 x0_23 x0_24 u_x0_25 u_x0_26 x0_27 x0_28 x0_29 x0_30 x0_31 x0_32 x0_36 x0_39 x0_40 x0_44 x0_49 x0_51 x0_53 u_x0_54 u_x0_55 u_x0_56 x0_57 x0_58 x0_59 x0_60 x0_61 x0_62 y1 y2 y3 y4 y5 y6 y7 y8 y9 y10 y11 y12 y13 y14 y15 y16 y17 y18 y19 y20 y21 y22 y23 y24 y25)) A) [.ref p0].toArray s 0 0 A) (F0 m 112 ls []) := by
              intro g112l5 H locs ls  hP hD hS hl
              refine lv_aload_n hx hb d_X_readName_112 rfl (lv_at hl 4 rfl) ?_
              refine lv_dup hx hb d_X_readName_113 rfl ?_
              refine va_get (D := D) (ci := 7) (v := .int g12x0_25) (C := "SignMachineModel") (T := F_X) (N := 64) hx hb hk fi_X hown hK.1 hP 0 rfl rfl 25 (by decide) (hk _ k_1146) (fun _ h9 => h9) rfl d_X_readName_114 ?_
              refine lv_iconst (v := 1) hx hb d_X_readName_117 (by decide) ?_
              refine lv_iadd hx hb d_X_readName_118 ?_
              refine lv_topi (fun v1 hv1 => ?_)
              obtain ⟨ev1, Rv1⟩ : v1.toInt = g12x0_25.toInt + 1 ∧ (1 ≤ v1.toInt ∧ v1.toInt ≤ 4001) := ad3 hv1 Rg12x0_25 (by decide) (by decide) (by decide) (by decide) (by decide)
              refine va_put (D := D) (ci := 7) (v := .int v1) (ty := .int) (C := "SignMachineModel") (T := F_X) (N := 64) hx hb hk fi_X ft_X ft_X_ok fn_X hown hK.1 hP hD hS 0 rfl rfl 25 (by decide) (hk _ k_1146) (fun _ h9 => h9) rfl (by decide +kernel) rfl rfl (Nat.le_of_ble_eq_true rfl) d_X_readName_119 (fun H locs hP hD hS => ?_)
              have hP : va_P D classes (wS50 cI cJ cZ cB p0 p1 p2 p3 p4 p5 p6 p7 p8 p9 p10 p11 p12 p13 p14 p15 p16 p17 p18 p19 p20 p21 p22 p23 p24 p25 x0_4 x0_5 x0_6 x0_7 x0_8 x0_12 x0_13 x0_14 x0_15 x0_16 x0_17 x0_18 x0_22 x0_23 x0_24 v1 x0_26 x0_27 x0_28 x0_29 x0_30 x0_31 x0_32 x0_36 x0_39 x0_40 x0_44 x0_49 x0_51 x0_53 x0_54 x0_55 x0_56 x0_57 x0_58 x0_59 x0_60 x0_61 x0_62 y1 y2 y3 y4 y5 y6 y7 y8 y9 y10 y11 y12 y13 y14 y15 y16 y17 y18 y19 y20 y21 y22 y23 y24 y25) H := hP
              have hD : va_D A (wS50 cI cJ cZ cB p0 p1 p2 p3 p4 p5 p6 p7 p8 p9 p10 p11 p12 p13 p14 p15 p16 p17 p18 p19 p20 p21 p22 p23 p24 p25 x0_4 x0_5 x0_6 x0_7 x0_8 x0_12 x0_13 x0_14 x0_15 x0_16 x0_17 x0_18 x0_22 x0_23 x0_24 v1 x0_26 x0_27 x0_28 x0_29 x0_30 x0_31 x0_32 x0_36 x0_39 x0_40 x0_44 x0_49 x0_51 x0_53 x0_54 x0_55 x0_56 x0_57 x0_58 x0_59 x0_60 x0_61 x0_62 y1 y2 y3 y4 y5 y6 y7 y8 y9 y10 y11 y12 y13 y14 y15 y16 y17 y18 y19 y20 y21 y22 y23 y24 y25) := hD
              refine lv_goto (tgt := 12) hx hb d_X_readName_122 (by decide) ?_
              exact ih12 g112l5 g83l3 g52l2 v1 H _ ls (show x0_24.toInt - v1.toInt < (n : Int) from by omega) Rg83l3 (by omega) (show v1.toInt ≤ x0_24.toInt from by omega) (show x0_25.toInt ≤ v1.toInt from by omega) (show v1.toInt - x0_25.toInt = 0 → g83l3.toInt ≤ 0 from by omega) (show v1.toInt - x0_25.toInt = 1 → g83l3.toInt ≤ 42 from by omega) (show v1.toInt - x0_25.toInt = 2 → g83l3.toInt ≤ 462 from by omega) (show v1.toInt - x0_25.toInt = 3 → g83l3.toInt ≤ 4662 from by omega) (show v1.toInt - x0_25.toInt = 4 → g83l3.toInt ≤ 46662 from by omega) (show v1.toInt - x0_25.toInt = 5 → g83l3.toInt ≤ 466662 from by omega) (show v1.toInt - x0_25.toInt = 6 → g83l3.toInt ≤ 4666662 from by omega) (show v1.toInt - x0_25.toInt = 7 → g83l3.toInt ≤ 46666662 from by omega) (show v1.toInt - x0_25.toInt = 8 → g83l3.toInt ≤ 466666662 from by omega) (show v1.toInt - x0_25.toInt = 9 → g83l3.toInt ≤ 4666666662 from by omega) hP hD hS (lv_sub hl [0, 1, 2, 3, 4] rfl)
            refine lv_aload_n hx hb d_X_readName_83 rfl (lv_at hl 4 rfl) ?_
            refine va_get (D := D) (ci := 7) (v := .int g12x0_25) (C := "SignMachineModel") (T := F_X) (N := 64) hx hb hk fi_X hown hK.1 hP 0 rfl rfl 25 (by decide) (hk _ k_1146) (fun _ h9 => h9) rfl d_X_readName_84 ?_
            refine lv_iload_n hx hb d_X_readName_87 rfl (lv_at hl 3 rfl) ?_
            refine lv_isub hx hb d_X_readName_88 ?_
            refine lv_topi (fun v2 hv2 => ?_)
            obtain ⟨ev2, Rv2⟩ : v2.toInt = g12x0_25.toInt - x0_25.toInt ∧ ((-4000) ≤ v2.toInt ∧ v2.toInt ≤ 4000) := sb3 hv2 Rg12x0_25 Rx0_25 (by decide) (by decide) (by decide) (by decide)
            refine lv_bipush (v := 8) hx hb d_X_readName_89 (by decide) ?_
            refine lv_icmp_ge (tgt := 108) hx hb d_X_readName_91 (by decide) (fun c3 => ?_) (fun c3 => ?_)
            · have gc3 : 8 ≤ v2.toInt := c_le c3
              have R4 : 8 ≤ v2.toInt ∧ v2.toInt ≤ 4000 := by omega
              refine lv_lload hx hb d_X_readName_108 (lv_at hl 0 rfl) ?_
              refine lv_lstore (lv' := [(5, .long g12l5), (3, .long g83l3), (2, .int g52l2), (1, .int x0_25), (0, .ref p0)]) hx hb d_X_readName_110 hl (by decide) rfl (fun ls hl => ?_)
              exact CUT112 g12l5 H _ ls  hP hD hS (lv_sub hl [0, 1, 2, 3, 4] rfl)
            · have gc3 : v2.toInt < 8 := c_nle c3
              have R5 : (-4000) ≤ v2.toInt ∧ v2.toInt ≤ 7 := by omega
              refine lv_lload hx hb d_X_readName_94 (lv_at hl 0 rfl) ?_
              refine lv_bipush (v := 8) hx hb d_X_readName_96 (by decide) ?_
              refine lv_lshl (v := (g12l5 <<< (((8 : Int32) : Int32).toInt64 &&& 63))) hx hb d_X_readName_98 rfl ?_
              refine lv_topl (fun v6 hv6 => ?_)
              refine lv_aload_n hx hb d_X_readName_99 rfl (lv_at hl 4 rfl) ?_
              refine sn_i (va_runV (C := "SignMachineModel") (As := []) (rest := [.long v6]) ⟨hx, hb, hml, hown, hk⟩ (c_X_here l D cI cJ cZ cB p0 p1 p2 p3 p4 p5 p6 p7 p8 p9 p10 p11 p12 p13 p14 p15 p16 p17 p18 p19 p20 p21 p22 p23 p24 p25 H.size x0_4 x0_5 x0_6 x0_7 x0_8 x0_12 x0_13 x0_14 x0_15 x0_16 x0_17 x0_18 x0_22 x0_23 x0_24 g12x0_25 x0_26 x0_27 x0_28 x0_29 x0_30 x0_31 x0_32 x0_36 x0_39 x0_40 x0_44 x0_49 x0_51 x0_53 x0_54 x0_55 x0_56 x0_57 x0_58 x0_59 x0_60 x0_61 x0_62 y1 y2 y3 y4 y5 y6 y7 y8 y9 y10 y11 y12 y13 y14 y15 y16 y17 y18 y19 y20 y21 y22 y23 y24 y25  Rx0_24 Rg12x0_25) (v_X_here hk k_1537 ⟨Nat.le_of_ble_eq_true rfl, Nat.le_of_ble_eq_true rfl⟩) (pM_v hK hP hD (ci := 7) (q0 := 0) rfl rfl rfl) rfl rfl hl.1 rfl (lv_room (Nat.le_of_ble_eq_true rfl)) d_X_readName_100 ⟨Nat.le_of_ble_eq_true rfl, Nat.le_of_ble_eq_true rfl⟩) hS hA hD (fun rz7 u t H locs hr0 ht hB hFr hS => ?_)
              subst hr0
              obtain ⟨F0z7, hP, hD⟩ := hB
              have F0z7 : (g12x0_25.toInt < x0_24.toInt ∧ rz7.toInt = (y10 (g12x0_25).toNatClampNeg).toInt) ∨ (x0_24.toInt ≤ g12x0_25.toInt ∧ rz7.toInt = -1) := F0z7
              rw [ht] at hP
              have hD := dwk hD hFr
              clear ht hFr
              have hP : va_P D classes (wS50 cI cJ cZ cB p0 p1 p2 p3 p4 p5 p6 p7 p8 p9 p10 p11 p12 p13 p14 p15 p16 p17 p18 p19 p20 p21 p22 p23 p24 p25 x0_4 x0_5 x0_6 x0_7 x0_8 x0_12 x0_13 x0_14 x0_15 x0_16 x0_17 x0_18 x0_22 x0_23 x0_24 g12x0_25 x0_26 x0_27 x0_28 x0_29 x0_30 x0_31 x0_32 x0_36 x0_39 x0_40 x0_44 x0_49 x0_51 x0_53 x0_54 x0_55 x0_56 x0_57 x0_58 x0_59 x0_60 x0_61 x0_62 y1 y2 y3 y4 y5 y6 y7 y8 y9 y10 y11 y12 y13 y14 y15 y16 y17 y18 y19 y20 y21 y22 y23 y24 y25) H := hP
              have hD : va_D A (wS50 cI cJ cZ cB p0 p1 p2 p3 p4 p5 p6 p7 p8 p9 p10 p11 p12 p13 p14 p15 p16 p17 p18 p19 p20 p21 p22 p23 p24 p25 x0_4 x0_5 x0_6 x0_7 x0_8 x0_12 x0_13 x0_14 x0_15 x0_16 x0_17 x0_18 x0_22 x0_23 x0_24 g12x0_25 x0_26 x0_27 x0_28 x0_29 x0_30 x0_31 x0_32 x0_36 x0_39 x0_40 x0_44 x0_49 x0_51 x0_53 x0_54 x0_55 x0_56 x0_57 x0_58 x0_59 x0_60 x0_61 x0_62 y1 y2 y3 y4 y5 y6 y7 y8 y9 y10 y11 y12 y13 y14 y15 y16 y17 y18 y19 y20 y21 y22 y23 y24 y25) := hD
              refine lv_i2l (v := (rz7 : Int32).toInt64) hx hb d_X_readName_103 rfl ?_
              refine lv_topl (fun v8 hv8 => ?_)
              obtain ⟨ev8, Rv8⟩ : v8.toInt = rz7.toInt ∧ ((-2147483648) ≤ v8.toInt ∧ v8.toInt ≤ 2147483647) := il3 hv8 (fr3 rz7)
              refine lv_lor hx hb d_X_readName_104 ?_
              refine lv_topl (fun v9 hv9 => ?_)
              refine lv_goto (tgt := 110) hx hb d_X_readName_105 (by decide) ?_
              refine lv_lstore (lv' := [(5, .long v9), (3, .long g83l3), (2, .int g52l2), (1, .int x0_25), (0, .ref p0)]) hx hb d_X_readName_110 hl (by decide) rfl (fun ls hl => ?_)
              exact CUT112 v9 H _ ls  hP hD hS (lv_sub hl [0, 1, 2, 3, 4] rfl)
          refine lv_aload_n hx hb d_X_readName_52 rfl (lv_at hl 4 rfl) ?_
          refine va_get (D := D) (ci := 7) (v := .int g12x0_25) (C := "SignMachineModel") (T := F_X) (N := 64) hx hb hk fi_X hown hK.1 hP 0 rfl rfl 25 (by decide) (hk _ k_1146) (fun _ h9 => h9) rfl d_X_readName_53 ?_
          refine lv_iload_n hx hb d_X_readName_56 rfl (lv_at hl 3 rfl) ?_
          refine lv_isub hx hb d_X_readName_57 ?_
          refine lv_topi (fun v10 hv10 => ?_)
          obtain ⟨ev10, Rv10⟩ : v10.toInt = g12x0_25.toInt - x0_25.toInt ∧ ((-4000) ≤ v10.toInt ∧ v10.toInt ≤ 4000) := sb3 hv10 Rg12x0_25 Rx0_25 (by decide) (by decide) (by decide) (by decide)
          refine lv_bipush (v := 10) hx hb d_X_readName_58 (by decide) ?_
          refine lv_icmp_ge (tgt := 81) hx hb d_X_readName_60 (by decide) (fun c11 => ?_) (fun c11 => ?_)
          · have gc11 : 10 ≤ v10.toInt := c_le c11
            have R12 : 10 ≤ v10.toInt ∧ v10.toInt ≤ 4000 := by omega
            refine lv_lload_n hx hb d_X_readName_81 rfl (lv_at hl 1 rfl) ?_
            refine lv_lstore_n (lv' := [(3, .long g12l3), (5, .long g12l5), (2, .int g52l2), (1, .int x0_25), (0, .ref p0)]) hx hb d_X_readName_82 rfl hl (by decide) rfl (fun ls hl => ?_)
            exact CUT83 g12l3 H _ ls Rg12l3 (show g12x0_25.toInt - x0_25.toInt = 0 → g12l3.toInt ≤ 42 from by omega) (show g12x0_25.toInt - x0_25.toInt = 1 → g12l3.toInt ≤ 462 from by omega) (show g12x0_25.toInt - x0_25.toInt = 2 → g12l3.toInt ≤ 4662 from by omega) (show g12x0_25.toInt - x0_25.toInt = 3 → g12l3.toInt ≤ 46662 from by omega) (show g12x0_25.toInt - x0_25.toInt = 4 → g12l3.toInt ≤ 466662 from by omega) (show g12x0_25.toInt - x0_25.toInt = 5 → g12l3.toInt ≤ 4666662 from by omega) (show g12x0_25.toInt - x0_25.toInt = 6 → g12l3.toInt ≤ 46666662 from by omega) (show g12x0_25.toInt - x0_25.toInt = 7 → g12l3.toInt ≤ 466666662 from by omega) (show g12x0_25.toInt - x0_25.toInt = 8 → g12l3.toInt ≤ 4666666662 from by omega) (show g12x0_25.toInt - x0_25.toInt = 9 → g12l3.toInt ≤ 46666666662 from by omega) hP hD hS (lv_sub hl [1, 0, 2, 3, 4] rfl)
          · have gc11 : v10.toInt < 10 := c_nle c11
            have R13 : (-4000) ≤ v10.toInt ∧ v10.toInt ≤ 9 := by omega
            have R14 : 0 ≤ g12l3.toInt ∧ g12l3.toInt ≤ 4666666662 := by omega
            refine lv_ldc2 (v := 10) hx hb hown (hk _ k_1490) d_X_readName_63 ?_
            refine lv_lload_n hx hb d_X_readName_66 rfl (lv_at hl 1 rfl) ?_
            refine lv_lmul hx hb d_X_readName_67 ?_
            refine lv_topl (fun v15 hv15 => ?_)
            obtain ⟨ev15, Rv15⟩ : v15.toInt = 10 * g12l3.toInt ∧ (0 ≤ v15.toInt ∧ v15.toInt ≤ 46666666620) := ml6 hv15 (by decide) R14 (by decide) (by decide) (by decide) (by decide) (by decide) (by decide)
            refine lv_aload_n hx hb d_X_readName_68 rfl (lv_at hl 4 rfl) ?_
            refine sn_i (va_runV (C := "SignMachineModel") (As := []) (rest := [.long v15]) ⟨hx, hb, hml, hown, hk⟩ (c_X_here l D cI cJ cZ cB p0 p1 p2 p3 p4 p5 p6 p7 p8 p9 p10 p11 p12 p13 p14 p15 p16 p17 p18 p19 p20 p21 p22 p23 p24 p25 H.size x0_4 x0_5 x0_6 x0_7 x0_8 x0_12 x0_13 x0_14 x0_15 x0_16 x0_17 x0_18 x0_22 x0_23 x0_24 g12x0_25 x0_26 x0_27 x0_28 x0_29 x0_30 x0_31 x0_32 x0_36 x0_39 x0_40 x0_44 x0_49 x0_51 x0_53 x0_54 x0_55 x0_56 x0_57 x0_58 x0_59 x0_60 x0_61 x0_62 y1 y2 y3 y4 y5 y6 y7 y8 y9 y10 y11 y12 y13 y14 y15 y16 y17 y18 y19 y20 y21 y22 y23 y24 y25  Rx0_24 Rg12x0_25) (v_X_here hk k_1537 ⟨Nat.le_of_ble_eq_true rfl, Nat.le_of_ble_eq_true rfl⟩) (pM_v hK hP hD (ci := 7) (q0 := 0) rfl rfl rfl) rfl rfl hl.1 rfl (lv_room (Nat.le_of_ble_eq_true rfl)) d_X_readName_69 ⟨Nat.le_of_ble_eq_true rfl, Nat.le_of_ble_eq_true rfl⟩) hS hA hD (fun rz16 u t H locs hr0 ht hB hFr hS => ?_)
            subst hr0
            obtain ⟨F0z16, hP, hD⟩ := hB
            have F0z16 : (g12x0_25.toInt < x0_24.toInt ∧ rz16.toInt = (y10 (g12x0_25).toNatClampNeg).toInt) ∨ (x0_24.toInt ≤ g12x0_25.toInt ∧ rz16.toInt = -1) := F0z16
            rw [ht] at hP
            have hD := dwk hD hFr
            clear ht hFr
            have hP : va_P D classes (wS50 cI cJ cZ cB p0 p1 p2 p3 p4 p5 p6 p7 p8 p9 p10 p11 p12 p13 p14 p15 p16 p17 p18 p19 p20 p21 p22 p23 p24 p25 x0_4 x0_5 x0_6 x0_7 x0_8 x0_12 x0_13 x0_14 x0_15 x0_16 x0_17 x0_18 x0_22 x0_23 x0_24 g12x0_25 x0_26 x0_27 x0_28 x0_29 x0_30 x0_31 x0_32 x0_36 x0_39 x0_40 x0_44 x0_49 x0_51 x0_53 x0_54 x0_55 x0_56 x0_57 x0_58 x0_59 x0_60 x0_61 x0_62 y1 y2 y3 y4 y5 y6 y7 y8 y9 y10 y11 y12 y13 y14 y15 y16 y17 y18 y19 y20 y21 y22 y23 y24 y25) H := hP
            have hD : va_D A (wS50 cI cJ cZ cB p0 p1 p2 p3 p4 p5 p6 p7 p8 p9 p10 p11 p12 p13 p14 p15 p16 p17 p18 p19 p20 p21 p22 p23 p24 p25 x0_4 x0_5 x0_6 x0_7 x0_8 x0_12 x0_13 x0_14 x0_15 x0_16 x0_17 x0_18 x0_22 x0_23 x0_24 g12x0_25 x0_26 x0_27 x0_28 x0_29 x0_30 x0_31 x0_32 x0_36 x0_39 x0_40 x0_44 x0_49 x0_51 x0_53 x0_54 x0_55 x0_56 x0_57 x0_58 x0_59 x0_60 x0_61 x0_62 y1 y2 y3 y4 y5 y6 y7 y8 y9 y10 y11 y12 y13 y14 y15 y16 y17 y18 y19 y20 y21 y22 y23 y24 y25) := hD
            refine lv_i2l (v := (rz16 : Int32).toInt64) hx hb d_X_readName_72 rfl ?_
            refine lv_topl (fun v17 hv17 => ?_)
            obtain ⟨ev17, Rv17⟩ : v17.toInt = rz16.toInt ∧ ((-2147483648) ≤ v17.toInt ∧ v17.toInt ≤ 2147483647) := il3 hv17 (fr3 rz16)
            refine lv_ladd hx hb d_X_readName_73 ?_
            refine lv_topl (fun v18 hv18 => ?_)
            obtain ⟨ev18, Rv18⟩ : v18.toInt = v15.toInt + v17.toInt ∧ ((-2147483648) ≤ v18.toInt ∧ v18.toInt ≤ 48814150267) := ad6 hv18 Rv15 Rv17 (by decide) (by decide) (by decide) (by decide)
            refine lv_ldc2 (v := 48) hx hb hown (hk _ k_1551) d_X_readName_74 ?_
            refine lv_lsub hx hb d_X_readName_77 ?_
            refine lv_topl (fun v19 hv19 => ?_)
            obtain ⟨ev19, Rv19⟩ : v19.toInt = v18.toInt - 48 ∧ ((-2147483696) ≤ v19.toInt ∧ v19.toInt ≤ 48814150219) := sb6 hv19 Rv18 (by decide) (by decide) (by decide) (by decide) (by decide)
            refine lv_goto (tgt := 82) hx hb d_X_readName_78 (by decide) ?_
            refine lv_lstore_n (lv' := [(3, .long v19), (5, .long g12l5), (2, .int g52l2), (1, .int x0_25), (0, .ref p0)]) hx hb d_X_readName_82 rfl hl (by decide) rfl (fun ls hl => ?_)
            exact CUT83 v19 H _ ls (by omega) (show g12x0_25.toInt - x0_25.toInt = 0 → v19.toInt ≤ 42 from by omega) (show g12x0_25.toInt - x0_25.toInt = 1 → v19.toInt ≤ 462 from by omega) (show g12x0_25.toInt - x0_25.toInt = 2 → v19.toInt ≤ 4662 from by omega) (show g12x0_25.toInt - x0_25.toInt = 3 → v19.toInt ≤ 46662 from by omega) (show g12x0_25.toInt - x0_25.toInt = 4 → v19.toInt ≤ 466662 from by omega) (show g12x0_25.toInt - x0_25.toInt = 5 → v19.toInt ≤ 4666662 from by omega) (show g12x0_25.toInt - x0_25.toInt = 6 → v19.toInt ≤ 46666662 from by omega) (show g12x0_25.toInt - x0_25.toInt = 7 → v19.toInt ≤ 466666662 from by omega) (show g12x0_25.toInt - x0_25.toInt = 8 → v19.toInt ≤ 4666666662 from by omega) (show g12x0_25.toInt - x0_25.toInt = 9 → v19.toInt ≤ 46666666662 from by omega) hP hD hS (lv_sub hl [1, 0, 2, 3, 4] rfl)
        refine lv_iload_n hx hb d_X_readName_32 rfl (lv_at hl 2 rfl) ?_
        refine lv_if_ne (tgt := 46) hx hb d_X_readName_33 (by decide) (fun c20 => ?_) (fun c20 => ?_)
        · have gc20 : g12l2.toInt ≠ 0 := c_ne c20
          refine lv_iconst (v := 1) hx hb d_X_readName_46 (by decide) ?_
          refine lv_goto (tgt := 51) hx hb d_X_readName_47 (by decide) ?_
          refine lv_istore_n (lv' := [(2, .int (1 : Int32)), (5, .long g12l5), (3, .long g12l3), (1, .int x0_25), (0, .ref p0)]) hx hb d_X_readName_51 rfl hl (by decide) rfl (fun ls hl => ?_)
          exact CUT52 (1 : Int32) H _ ls  hP hD hS (lv_sub hl [1, 2, 0, 3, 4] rfl)
        · have gc20 : g12l2.toInt = 0 := c_eq c20
          have R21 : 0 ≤ g12l2.toInt ∧ g12l2.toInt ≤ 0 := by omega
          refine lv_aload_n hx hb d_X_readName_36 rfl (lv_at hl 4 rfl) ?_
          refine sn_i (va_runV (C := "SignMachineModel") (As := []) (rest := []) ⟨hx, hb, hml, hown, hk⟩ (c_X_here l D cI cJ cZ cB p0 p1 p2 p3 p4 p5 p6 p7 p8 p9 p10 p11 p12 p13 p14 p15 p16 p17 p18 p19 p20 p21 p22 p23 p24 p25 H.size x0_4 x0_5 x0_6 x0_7 x0_8 x0_12 x0_13 x0_14 x0_15 x0_16 x0_17 x0_18 x0_22 x0_23 x0_24 g12x0_25 x0_26 x0_27 x0_28 x0_29 x0_30 x0_31 x0_32 x0_36 x0_39 x0_40 x0_44 x0_49 x0_51 x0_53 x0_54 x0_55 x0_56 x0_57 x0_58 x0_59 x0_60 x0_61 x0_62 y1 y2 y3 y4 y5 y6 y7 y8 y9 y10 y11 y12 y13 y14 y15 y16 y17 y18 y19 y20 y21 y22 y23 y24 y25  Rx0_24 Rg12x0_25) (v_X_here hk k_1537 ⟨Nat.le_of_ble_eq_true rfl, Nat.le_of_ble_eq_true rfl⟩) (pM_v hK hP hD (ci := 7) (q0 := 0) rfl rfl rfl) rfl rfl hl.1 rfl (lv_room (Nat.le_of_ble_eq_true rfl)) d_X_readName_37 ⟨Nat.le_of_ble_eq_true rfl, Nat.le_of_ble_eq_true rfl⟩) hS hA hD (fun rz22 u t H locs hr0 ht hB hFr hS => ?_)
          subst hr0
          obtain ⟨F0z22, hP, hD⟩ := hB
          have F0z22 : (g12x0_25.toInt < x0_24.toInt ∧ rz22.toInt = (y10 (g12x0_25).toNatClampNeg).toInt) ∨ (x0_24.toInt ≤ g12x0_25.toInt ∧ rz22.toInt = -1) := F0z22
          rw [ht] at hP
          have hD := dwk hD hFr
          clear ht hFr
          have hP : va_P D classes (wS50 cI cJ cZ cB p0 p1 p2 p3 p4 p5 p6 p7 p8 p9 p10 p11 p12 p13 p14 p15 p16 p17 p18 p19 p20 p21 p22 p23 p24 p25 x0_4 x0_5 x0_6 x0_7 x0_8 x0_12 x0_13 x0_14 x0_15 x0_16 x0_17 x0_18 x0_22 x0_23 x0_24 g12x0_25 x0_26 x0_27 x0_28 x0_29 x0_30 x0_31 x0_32 x0_36 x0_39 x0_40 x0_44 x0_49 x0_51 x0_53 x0_54 x0_55 x0_56 x0_57 x0_58 x0_59 x0_60 x0_61 x0_62 y1 y2 y3 y4 y5 y6 y7 y8 y9 y10 y11 y12 y13 y14 y15 y16 y17 y18 y19 y20 y21 y22 y23 y24 y25) H := hP
          have hD : va_D A (wS50 cI cJ cZ cB p0 p1 p2 p3 p4 p5 p6 p7 p8 p9 p10 p11 p12 p13 p14 p15 p16 p17 p18 p19 p20 p21 p22 p23 p24 p25 x0_4 x0_5 x0_6 x0_7 x0_8 x0_12 x0_13 x0_14 x0_15 x0_16 x0_17 x0_18 x0_22 x0_23 x0_24 g12x0_25 x0_26 x0_27 x0_28 x0_29 x0_30 x0_31 x0_32 x0_36 x0_39 x0_40 x0_44 x0_49 x0_51 x0_53 x0_54 x0_55 x0_56 x0_57 x0_58 x0_59 x0_60 x0_61 x0_62 y1 y2 y3 y4 y5 y6 y7 y8 y9 y10 y11 y12 y13 y14 y15 y16 y17 y18 y19 y20 y21 y22 y23 y24 y25) := hD
          refine vp_callSi (W.runS (As := [.int rz22]) (rest := []) ⟨hx, hb, hml, hown, hk⟩ (c_X_isLetter l rz22 ) (s_X_isLetter hk k_1545 ⟨Nat.le_of_ble_eq_true rfl, Nat.le_of_ble_eq_true rfl⟩) ⟨fun a U g mk q => q, fun U hU hW => ⟨rfl, trivial⟩⟩ rfl rfl hl.1 rfl (lv_room (Nat.le_of_ble_eq_true rfl)) d_X_readName_40 ⟨Nat.le_of_ble_eq_true rfl, Nat.le_of_ble_eq_true rfl⟩) (fun rz23 hrz23 => ?_)
          obtain ⟨F0z23, F1z23⟩ := hrz23
          have F0z23 : 0 ≤ rz23.toInt ∧ rz23.toInt ≤ 1 := F0z23
          have F1z23 : rz23.toInt = 1 → (65 ≤ rz22.toInt ∧ rz22.toInt ≤ 90) := F1z23
          refine lv_if_eq (tgt := 50) hx hb d_X_readName_43 (by decide) (fun c24 => ?_) (fun c24 => ?_)
          · have gc24 : rz23.toInt = 0 := c_eq c24
            have R25 : 0 ≤ rz23.toInt ∧ rz23.toInt ≤ 0 := by omega
            refine lv_iconst (v := 0) hx hb d_X_readName_50 (by decide) ?_
            refine lv_istore_n (lv' := [(2, .int (0 : Int32)), (5, .long g12l5), (3, .long g12l3), (1, .int x0_25), (0, .ref p0)]) hx hb d_X_readName_51 rfl hl (by decide) rfl (fun ls hl => ?_)
            exact CUT52 (0 : Int32) H _ ls  hP hD hS (lv_sub hl [1, 2, 0, 3, 4] rfl)
          · have gc24 : rz23.toInt ≠ 0 := c_ne c24
            have R26 : 1 ≤ rz23.toInt ∧ rz23.toInt ≤ 1 := by omega
            refine lv_iconst (v := 1) hx hb d_X_readName_46 (by decide) ?_
            refine lv_goto (tgt := 51) hx hb d_X_readName_47 (by decide) ?_
            refine lv_istore_n (lv' := [(2, .int (1 : Int32)), (5, .long g12l5), (3, .long g12l3), (1, .int x0_25), (0, .ref p0)]) hx hb d_X_readName_51 rfl hl (by decide) rfl (fun ls hl => ?_)
            exact CUT52 (1 : Int32) H _ ls  hP hD hS (lv_sub hl [1, 2, 0, 3, 4] rfl)
      refine lv_aload_n hx hb d_X_readName_12 rfl (lv_at hl 4 rfl) ?_
      refine sn_i (va_runV (C := "SignMachineModel") (As := []) (rest := []) ⟨hx, hb, hml, hown, hk⟩ (c_X_here l D cI cJ cZ cB p0 p1 p2 p3 p4 p5 p6 p7 p8 p9 p10 p11 p12 p13 p14 p15 p16 p17 p18 p19 p20 p21 p22 p23 p24 p25 H.size x0_4 x0_5 x0_6 x0_7 x0_8 x0_12 x0_13 x0_14 x0_15 x0_16 x0_17 x0_18 x0_22 x0_23 x0_24 g12x0_25 x0_26 x0_27 x0_28 x0_29 x0_30 x0_31 x0_32 x0_36 x0_39 x0_40 x0_44 x0_49 x0_51 x0_53 x0_54 x0_55 x0_56 x0_57 x0_58 x0_59 x0_60 x0_61 x0_62 y1 y2 y3 y4 y5 y6 y7 y8 y9 y10 y11 y12 y13 y14 y15 y16 y17 y18 y19 y20 y21 y22 y23 y24 y25  Rx0_24 Rg12x0_25) (v_X_here hk k_1537 ⟨Nat.le_of_ble_eq_true rfl, Nat.le_of_ble_eq_true rfl⟩) (pM_v hK hP hD (ci := 7) (q0 := 0) rfl rfl rfl) rfl rfl hl.1 rfl (lv_room (Nat.le_of_ble_eq_true rfl)) d_X_readName_13 ⟨Nat.le_of_ble_eq_true rfl, Nat.le_of_ble_eq_true rfl⟩) hS hA hD (fun rz27 u t H locs hr0 ht hB hFr hS => ?_)
      subst hr0
      obtain ⟨F0z27, hP, hD⟩ := hB
      have F0z27 : (g12x0_25.toInt < x0_24.toInt ∧ rz27.toInt = (y10 (g12x0_25).toNatClampNeg).toInt) ∨ (x0_24.toInt ≤ g12x0_25.toInt ∧ rz27.toInt = -1) := F0z27
      rw [ht] at hP
      have hD := dwk hD hFr
      clear ht hFr
      have hP : va_P D classes (wS50 cI cJ cZ cB p0 p1 p2 p3 p4 p5 p6 p7 p8 p9 p10 p11 p12 p13 p14 p15 p16 p17 p18 p19 p20 p21 p22 p23 p24 p25 x0_4 x0_5 x0_6 x0_7 x0_8 x0_12 x0_13 x0_14 x0_15 x0_16 x0_17 x0_18 x0_22 x0_23 x0_24 g12x0_25 x0_26 x0_27 x0_28 x0_29 x0_30 x0_31 x0_32 x0_36 x0_39 x0_40 x0_44 x0_49 x0_51 x0_53 x0_54 x0_55 x0_56 x0_57 x0_58 x0_59 x0_60 x0_61 x0_62 y1 y2 y3 y4 y5 y6 y7 y8 y9 y10 y11 y12 y13 y14 y15 y16 y17 y18 y19 y20 y21 y22 y23 y24 y25) H := hP
      have hD : va_D A (wS50 cI cJ cZ cB p0 p1 p2 p3 p4 p5 p6 p7 p8 p9 p10 p11 p12 p13 p14 p15 p16 p17 p18 p19 p20 p21 p22 p23 p24 p25 x0_4 x0_5 x0_6 x0_7 x0_8 x0_12 x0_13 x0_14 x0_15 x0_16 x0_17 x0_18 x0_22 x0_23 x0_24 g12x0_25 x0_26 x0_27 x0_28 x0_29 x0_30 x0_31 x0_32 x0_36 x0_39 x0_40 x0_44 x0_49 x0_51 x0_53 x0_54 x0_55 x0_56 x0_57 x0_58 x0_59 x0_60 x0_61 x0_62 y1 y2 y3 y4 y5 y6 y7 y8 y9 y10 y11 y12 y13 y14 y15 y16 y17 y18 y19 y20 y21 y22 y23 y24 y25) := hD
      refine vp_callSi (W.runS (As := [.int rz27]) (rest := []) ⟨hx, hb, hml, hown, hk⟩ (c_X_isLetter l rz27 ) (s_X_isLetter hk k_1545 ⟨Nat.le_of_ble_eq_true rfl, Nat.le_of_ble_eq_true rfl⟩) ⟨fun a U g mk q => q, fun U hU hW => ⟨rfl, trivial⟩⟩ rfl rfl hl.1 rfl (lv_room (Nat.le_of_ble_eq_true rfl)) d_X_readName_16 ⟨Nat.le_of_ble_eq_true rfl, Nat.le_of_ble_eq_true rfl⟩) (fun rz28 hrz28 => ?_)
      obtain ⟨F0z28, F1z28⟩ := hrz28
      have F0z28 : 0 ≤ rz28.toInt ∧ rz28.toInt ≤ 1 := F0z28
      have F1z28 : rz28.toInt = 1 → (65 ≤ rz27.toInt ∧ rz27.toInt ≤ 90) := F1z28
      refine lv_if_ne (tgt := 32) hx hb d_X_readName_19 (by decide) (fun c29 => ?_) (fun c29 => ?_)
      · have gc29 : rz28.toInt ≠ 0 := c_ne c29
        have R30 : 1 ≤ rz28.toInt ∧ rz28.toInt ≤ 1 := by omega
        exact CUT32  H _ ls (show g12x0_25.toInt < x0_24.toInt from by omega) (show 48 ≤ (y10 (g12x0_25).toNatClampNeg).toInt ∧ (y10 (g12x0_25).toNatClampNeg).toInt ≤ 90 from by omega) hP hD hS (lv_sub hl [0, 1, 2, 3, 4] rfl)
      · have gc29 : rz28.toInt = 0 := c_eq c29
        have R31 : 0 ≤ rz28.toInt ∧ rz28.toInt ≤ 0 := by omega
        refine lv_aload_n hx hb d_X_readName_22 rfl (lv_at hl 4 rfl) ?_
        refine sn_i (va_runV (C := "SignMachineModel") (As := []) (rest := []) ⟨hx, hb, hml, hown, hk⟩ (c_X_here l D cI cJ cZ cB p0 p1 p2 p3 p4 p5 p6 p7 p8 p9 p10 p11 p12 p13 p14 p15 p16 p17 p18 p19 p20 p21 p22 p23 p24 p25 H.size x0_4 x0_5 x0_6 x0_7 x0_8 x0_12 x0_13 x0_14 x0_15 x0_16 x0_17 x0_18 x0_22 x0_23 x0_24 g12x0_25 x0_26 x0_27 x0_28 x0_29 x0_30 x0_31 x0_32 x0_36 x0_39 x0_40 x0_44 x0_49 x0_51 x0_53 x0_54 x0_55 x0_56 x0_57 x0_58 x0_59 x0_60 x0_61 x0_62 y1 y2 y3 y4 y5 y6 y7 y8 y9 y10 y11 y12 y13 y14 y15 y16 y17 y18 y19 y20 y21 y22 y23 y24 y25  Rx0_24 Rg12x0_25) (v_X_here hk k_1537 ⟨Nat.le_of_ble_eq_true rfl, Nat.le_of_ble_eq_true rfl⟩) (pM_v hK hP hD (ci := 7) (q0 := 0) rfl rfl rfl) rfl rfl hl.1 rfl (lv_room (Nat.le_of_ble_eq_true rfl)) d_X_readName_23 ⟨Nat.le_of_ble_eq_true rfl, Nat.le_of_ble_eq_true rfl⟩) hS hA hD (fun rz32 u t H locs hr0 ht hB hFr hS => ?_)
        subst hr0
        obtain ⟨F0z32, hP, hD⟩ := hB
        have F0z32 : (g12x0_25.toInt < x0_24.toInt ∧ rz32.toInt = (y10 (g12x0_25).toNatClampNeg).toInt) ∨ (x0_24.toInt ≤ g12x0_25.toInt ∧ rz32.toInt = -1) := F0z32
        rw [ht] at hP
        have hD := dwk hD hFr
        clear ht hFr
        have hP : va_P D classes (wS50 cI cJ cZ cB p0 p1 p2 p3 p4 p5 p6 p7 p8 p9 p10 p11 p12 p13 p14 p15 p16 p17 p18 p19 p20 p21 p22 p23 p24 p25 x0_4 x0_5 x0_6 x0_7 x0_8 x0_12 x0_13 x0_14 x0_15 x0_16 x0_17 x0_18 x0_22 x0_23 x0_24 g12x0_25 x0_26 x0_27 x0_28 x0_29 x0_30 x0_31 x0_32 x0_36 x0_39 x0_40 x0_44 x0_49 x0_51 x0_53 x0_54 x0_55 x0_56 x0_57 x0_58 x0_59 x0_60 x0_61 x0_62 y1 y2 y3 y4 y5 y6 y7 y8 y9 y10 y11 y12 y13 y14 y15 y16 y17 y18 y19 y20 y21 y22 y23 y24 y25) H := hP
        have hD : va_D A (wS50 cI cJ cZ cB p0 p1 p2 p3 p4 p5 p6 p7 p8 p9 p10 p11 p12 p13 p14 p15 p16 p17 p18 p19 p20 p21 p22 p23 p24 p25 x0_4 x0_5 x0_6 x0_7 x0_8 x0_12 x0_13 x0_14 x0_15 x0_16 x0_17 x0_18 x0_22 x0_23 x0_24 g12x0_25 x0_26 x0_27 x0_28 x0_29 x0_30 x0_31 x0_32 x0_36 x0_39 x0_40 x0_44 x0_49 x0_51 x0_53 x0_54 x0_55 x0_56 x0_57 x0_58 x0_59 x0_60 x0_61 x0_62 y1 y2 y3 y4 y5 y6 y7 y8 y9 y10 y11 y12 y13 y14 y15 y16 y17 y18 y19 y20 y21 y22 y23 y24 y25) := hD
        refine vp_callSi (W.runS (As := [.int rz32]) (rest := []) ⟨hx, hb, hml, hown, hk⟩ (c_X_isDigit l rz32 ) (s_X_isDigit hk k_1548 ⟨Nat.le_of_ble_eq_true rfl, Nat.le_of_ble_eq_true rfl⟩) ⟨fun a U g mk q => q, fun U hU hW => ⟨rfl, trivial⟩⟩ rfl rfl hl.1 rfl (lv_room (Nat.le_of_ble_eq_true rfl)) d_X_readName_26 ⟨Nat.le_of_ble_eq_true rfl, Nat.le_of_ble_eq_true rfl⟩) (fun rz33 hrz33 => ?_)
        obtain ⟨F0z33, F1z33⟩ := hrz33
        have F0z33 : 0 ≤ rz33.toInt ∧ rz33.toInt ≤ 1 := F0z33
        have F1z33 : rz33.toInt = 1 → (48 ≤ rz32.toInt ∧ rz32.toInt ≤ 57) := F1z33
        refine lv_if_eq (tgt := 125) hx hb d_X_readName_29 (by decide) (fun c34 => ?_) (fun c34 => ?_)
        · have gc34 : rz33.toInt = 0 := c_eq c34
          have R35 : 0 ≤ rz33.toInt ∧ rz33.toInt ≤ 0 := by omega
          refine lv_aload_n hx hb d_X_readName_125 rfl (lv_at hl 4 rfl) ?_
          refine va_get (D := D) (ci := 7) (v := .int g12x0_25) (C := "SignMachineModel") (T := F_X) (N := 64) hx hb hk fi_X hown hK.1 hP 0 rfl rfl 25 (by decide) (hk _ k_1146) (fun _ h9 => h9) rfl d_X_readName_126 ?_
          refine lv_iload_n hx hb d_X_readName_129 rfl (lv_at hl 3 rfl) ?_
          refine lv_isub hx hb d_X_readName_130 ?_
          refine lv_topi (fun v36 hv36 => ?_)
          obtain ⟨ev36, Rv36⟩ : v36.toInt = g12x0_25.toInt - x0_25.toInt ∧ ((-4000) ≤ v36.toInt ∧ v36.toInt ≤ 4000) := sb3 hv36 Rg12x0_25 Rx0_25 (by decide) (by decide) (by decide) (by decide)
          refine lv_istore (lv' := [(7, .int v36), (5, .long g12l5), (3, .long g12l3), (2, .int g12l2), (1, .int x0_25), (0, .ref p0)]) hx hb d_X_readName_131 hl (by decide) rfl (fun ls hl => ?_)
          refine lv_iload hx hb d_X_readName_133 (lv_at hl 0 rfl) ?_
          refine lv_if_ne (tgt := 149) hx hb d_X_readName_135 (by decide) (fun c37 => ?_) (fun c37 => ?_)
          · have gc37 : v36.toInt ≠ 0 := c_ne c37
            refine lv_aload_n hx hb d_X_readName_149 rfl (lv_at hl 5 rfl) ?_
            refine lv_iload_n hx hb d_X_readName_150 rfl (lv_at hl 3 rfl) ?_
            refine lv_if_eq (tgt := 158) hx hb d_X_readName_151 (by decide) (fun c38 => ?_) (fun c38 => ?_)
            · have gc38 : g12l2.toInt = 0 := c_eq c38
              have R39 : 0 ≤ g12l2.toInt ∧ g12l2.toInt ≤ 0 := by omega
              refine lv_iconst (v := 1) hx hb d_X_readName_158 (by decide) ?_
              refine va_put (D := D) (ci := 7) (v := .int (1 : Int32)) (ty := .int) (C := "SignMachineModel") (T := F_X) (N := 64) hx hb hk fi_X ft_X ft_X_ok fn_X hown hK.1 hP hD hS 0 rfl rfl 54 (by decide) (hk _ k_1175) (fun _ h9 => h9) rfl (by decide +kernel) rfl rfl (Nat.le_of_ble_eq_true rfl) d_X_readName_159 (fun H locs hP hD hS => ?_)
              have hP : va_P D classes (wS50 cI cJ cZ cB p0 p1 p2 p3 p4 p5 p6 p7 p8 p9 p10 p11 p12 p13 p14 p15 p16 p17 p18 p19 p20 p21 p22 p23 p24 p25 x0_4 x0_5 x0_6 x0_7 x0_8 x0_12 x0_13 x0_14 x0_15 x0_16 x0_17 x0_18 x0_22 x0_23 x0_24 g12x0_25 x0_26 x0_27 x0_28 x0_29 x0_30 x0_31 x0_32 x0_36 x0_39 x0_40 x0_44 x0_49 x0_51 x0_53 (1 : Int32) x0_55 x0_56 x0_57 x0_58 x0_59 x0_60 x0_61 x0_62 y1 y2 y3 y4 y5 y6 y7 y8 y9 y10 y11 y12 y13 y14 y15 y16 y17 y18 y19 y20 y21 y22 y23 y24 y25) H := hP
              have hD : va_D A (wS50 cI cJ cZ cB p0 p1 p2 p3 p4 p5 p6 p7 p8 p9 p10 p11 p12 p13 p14 p15 p16 p17 p18 p19 p20 p21 p22 p23 p24 p25 x0_4 x0_5 x0_6 x0_7 x0_8 x0_12 x0_13 x0_14 x0_15 x0_16 x0_17 x0_18 x0_22 x0_23 x0_24 g12x0_25 x0_26 x0_27 x0_28 x0_29 x0_30 x0_31 x0_32 x0_36 x0_39 x0_40 x0_44 x0_49 x0_51 x0_53 (1 : Int32) x0_55 x0_56 x0_57 x0_58 x0_59 x0_60 x0_61 x0_62 y1 y2 y3 y4 y5 y6 y7 y8 y9 y10 y11 y12 y13 y14 y15 y16 y17 y18 y19 y20 y21 y22 y23 y24 y25) := hD
              refine lv_aload_n hx hb d_X_readName_162 rfl (lv_at hl 5 rfl) ?_
              refine lv_iload_n hx hb d_X_readName_163 rfl (lv_at hl 3 rfl) ?_
              refine lv_if_eq (tgt := 172) hx hb d_X_readName_164 (by decide) (fun c40 => ?_) (fun c40 => absurd (show g12l2 = (0 : Int32) from c38) c40)
              refine lv_lload_n hx hb d_X_readName_172 rfl (lv_at hl 2 rfl) ?_
              refine lv_ldc2 (v := 1073741824) hx hb hown (hk _ k_1461) d_X_readName_173 ?_
              refine lv_lrem hx hb d_X_readName_176 (by decide) ?_
              refine lv_topl (fun v41 hv41 => ?_)
              obtain ⟨ev41, lv41, Rv41⟩ : v41.toInt = g12l3.toInt % 1073741824 ∧ v41.toInt < 1073741824 ∧ (0 ≤ v41.toInt ∧ v41.toInt ≤ 1073741823) := rm6 hv41 Rg12l3 (by decide) (by decide) (by decide) (by decide)
              refine va_put (D := D) (ci := 7) (v := .long v41) (ty := .long) (C := "SignMachineModel") (T := F_X) (N := 64) hx hb hk fi_X ft_X ft_X_ok fn_X hown hK.1 hP hD hS 0 rfl rfl 55 (by decide) (hk _ k_1176) (fun _ h9 => h9) rfl (by decide +kernel) rfl rfl (Nat.le_of_ble_eq_true rfl) d_X_readName_177 (fun H locs hP hD hS => ?_)
              have hP : va_P D classes (wS50 cI cJ cZ cB p0 p1 p2 p3 p4 p5 p6 p7 p8 p9 p10 p11 p12 p13 p14 p15 p16 p17 p18 p19 p20 p21 p22 p23 p24 p25 x0_4 x0_5 x0_6 x0_7 x0_8 x0_12 x0_13 x0_14 x0_15 x0_16 x0_17 x0_18 x0_22 x0_23 x0_24 g12x0_25 x0_26 x0_27 x0_28 x0_29 x0_30 x0_31 x0_32 x0_36 x0_39 x0_40 x0_44 x0_49 x0_51 x0_53 (1 : Int32) v41 x0_56 x0_57 x0_58 x0_59 x0_60 x0_61 x0_62 y1 y2 y3 y4 y5 y6 y7 y8 y9 y10 y11 y12 y13 y14 y15 y16 y17 y18 y19 y20 y21 y22 y23 y24 y25) H := hP
              have hD : va_D A (wS50 cI cJ cZ cB p0 p1 p2 p3 p4 p5 p6 p7 p8 p9 p10 p11 p12 p13 p14 p15 p16 p17 p18 p19 p20 p21 p22 p23 p24 p25 x0_4 x0_5 x0_6 x0_7 x0_8 x0_12 x0_13 x0_14 x0_15 x0_16 x0_17 x0_18 x0_22 x0_23 x0_24 g12x0_25 x0_26 x0_27 x0_28 x0_29 x0_30 x0_31 x0_32 x0_36 x0_39 x0_40 x0_44 x0_49 x0_51 x0_53 (1 : Int32) v41 x0_56 x0_57 x0_58 x0_59 x0_60 x0_61 x0_62 y1 y2 y3 y4 y5 y6 y7 y8 y9 y10 y11 y12 y13 y14 y15 y16 y17 y18 y19 y20 y21 y22 y23 y24 y25) := hD
              refine lv_iload hx hb d_X_readName_180 (lv_at hl 0 rfl) ?_
              refine lv_iload_n hx hb d_X_readName_182 rfl (lv_at hl 3 rfl) ?_
              refine lv_if_eq (tgt := 191) hx hb d_X_readName_183 (by decide) (fun c42 => ?_) (fun c42 => absurd (show g12l2 = (0 : Int32) from c38) c42)
              refine lv_bipush (v := 10) hx hb d_X_readName_191 (by decide) ?_
              refine lv_icmp_le (tgt := 201) hx hb d_X_readName_193 (by decide) (fun c43 => ?_) (fun c43 => ?_)
              · have gc43 : v36.toInt ≤ 10 := c_le c43
                have R44 : (-4000) ≤ v36.toInt ∧ v36.toInt ≤ 10 := by omega
                refine lv_aload_n hx hb d_X_readName_201 rfl (lv_at hl 5 rfl) ?_
                refine va_get (D := D) (ci := 7) (v := .ref p10) (C := "SignMachineModel") (T := F_X) (N := 64) hx hb hk fi_X hown hK.1 hP 0 rfl rfl 21 (by decide) (hk _ k_1142) (fun _ h9 => h9) rfl d_X_readName_202 ?_
                refine lv_aload_n hx hb d_X_readName_205 rfl (lv_at hl 5 rfl) ?_
                refine va_get (D := D) (ci := 7) (v := .int g12x0_25) (C := "SignMachineModel") (T := F_X) (N := 64) hx hb hk fi_X hown hK.1 hP 0 rfl rfl 25 (by decide) (hk _ k_1146) (fun _ h9 => h9) rfl d_X_readName_206 ?_
                refine lv_iconst (v := 1) hx hb d_X_readName_209 (by decide) ?_
                refine lv_isub hx hb d_X_readName_210 ?_
                refine lv_topi (fun v45 hv45 => ?_)
                obtain ⟨ev45, Rv45⟩ : v45.toInt = g12x0_25.toInt - 1 ∧ ((-1) ≤ v45.toInt ∧ v45.toInt ≤ 3999) := sb3 hv45 Rg12x0_25 (by decide) (by decide) (by decide) (by decide) (by decide)
                refine va_iald hx hb hK.1 hP 10 0 rfl rfl (by rw [vp_in_iff]; omega) d_X_readName_211 ?_
                refine lv_topi (fun v46 hv46 => ?_)
                have Tv46 : v46.toInt = (y10 (v45).toNatClampNeg).toInt := congrArg _ hv46
                refine lv_istore (lv' := [(8, .int v46), (7, .int v36), (5, .long g12l5), (3, .long g12l3), (2, .int g12l2), (1, .int x0_25), (0, .ref p0)]) hx hb d_X_readName_212 hl (by decide) rfl (fun ls hl => ?_)
                refine lv_iload hx hb d_X_readName_214 (lv_at hl 1 rfl) ?_
                refine lv_iconst (v := 2) hx hb d_X_readName_216 (by decide) ?_
                refine lv_icmp_ne (tgt := 278) hx hb d_X_readName_217 (by decide) (fun c47 => ?_) (fun c47 => ?_)
                · have gc47 : v36.toInt ≠ 2 := c_ne c47
                  exact W.vret hx hb hr (fun t ht hW => ⟨⟨(), rfl, trivial, ⟨g12x0_25, x0_26, (1 : Int32), v41, x0_56, Rg12x0_25, Rx0_26, (by decide), (by omega), (by omega), (by omega), (by omega), by show va_P D classes _ t.heap; rw [ht]; exact hP, hD⟩⟩, hS.F ht⟩) hS.2.2 d_X_readName_278
                · have gc47 : v36.toInt = 2 := c_eq c47
                  have R48 : 2 ≤ v36.toInt ∧ v36.toInt ≤ 2 := by omega
                  refine lv_aload_n hx hb d_X_readName_220 rfl (lv_at hl 6 rfl) ?_
                  refine va_get (D := D) (ci := 7) (v := .ref p10) (C := "SignMachineModel") (T := F_X) (N := 64) hx hb hk fi_X hown hK.1 hP 0 rfl rfl 21 (by decide) (hk _ k_1142) (fun _ h9 => h9) rfl d_X_readName_221 ?_
                  refine lv_iload_n hx hb d_X_readName_224 rfl (lv_at hl 5 rfl) ?_
                  refine va_iald hx hb hK.1 hP 10 0 rfl rfl (by rw [vp_in_iff]; omega) d_X_readName_225 ?_
                  refine lv_topi (fun v49 hv49 => ?_)
                  have Tv49 : v49.toInt = (y10 (x0_25).toNatClampNeg).toInt := congrArg _ hv49
                  refine vp_callSi (W.runS (As := [.int v49]) (rest := []) ⟨hx, hb, hml, hown, hk⟩ (c_X_isDigit l v49 ) (s_X_isDigit hk k_1548 ⟨Nat.le_of_ble_eq_true rfl, Nat.le_of_ble_eq_true rfl⟩) ⟨fun a U g mk q => q, fun U hU hW => ⟨rfl, trivial⟩⟩ rfl rfl hl.1 rfl (lv_room (Nat.le_of_ble_eq_true rfl)) d_X_readName_226 ⟨Nat.le_of_ble_eq_true rfl, Nat.le_of_ble_eq_true rfl⟩) (fun rz50 hrz50 => ?_)
                  obtain ⟨F0z50, F1z50⟩ := hrz50
                  have F0z50 : 0 ≤ rz50.toInt ∧ rz50.toInt ≤ 1 := F0z50
                  have F1z50 : rz50.toInt = 1 → (48 ≤ v49.toInt ∧ v49.toInt ≤ 57) := F1z50
                  refine lv_if_eq (tgt := 278) hx hb d_X_readName_229 (by decide) (fun c51 => ?_) (fun c51 => ?_)
                  · have gc51 : rz50.toInt = 0 := c_eq c51
                    have R52 : 0 ≤ rz50.toInt ∧ rz50.toInt ≤ 0 := by omega
                    exact W.vret hx hb hr (fun t ht hW => ⟨⟨(), rfl, trivial, ⟨g12x0_25, x0_26, (1 : Int32), v41, x0_56, Rg12x0_25, Rx0_26, (by decide), (by omega), (by omega), (by omega), (by omega), by show va_P D classes _ t.heap; rw [ht]; exact hP, hD⟩⟩, hS.F ht⟩) hS.2.2 d_X_readName_278
                  · have gc51 : rz50.toInt ≠ 0 := c_ne c51
                    have R53 : 1 ≤ rz50.toInt ∧ rz50.toInt ≤ 1 := by omega
                    refine lv_iload hx hb d_X_readName_232 (lv_at hl 0 rfl) ?_
                    refine lv_bipush (v := 72) hx hb d_X_readName_234 (by decide) ?_
                    refine lv_icmp_eq (tgt := 253) hx hb d_X_readName_236 (by decide) (fun c54 => ?_) (fun c54 => ?_)
                    · have gc54 : v46.toInt = 72 := c_eq c54
                      have R55 : 72 ≤ v46.toInt ∧ v46.toInt ≤ 72 := by omega
                      refine lv_aload_n hx hb d_X_readName_253 rfl (lv_at hl 6 rfl) ?_
                      refine lv_iconst (v := 3) hx hb d_X_readName_254 (by decide) ?_
                      refine va_put (D := D) (ci := 7) (v := .int (3 : Int32)) (ty := .int) (C := "SignMachineModel") (T := F_X) (N := 64) hx hb hk fi_X ft_X ft_X_ok fn_X hown hK.1 hP hD hS 0 rfl rfl 54 (by decide) (hk _ k_1175) (fun _ h9 => h9) rfl (by decide +kernel) rfl rfl (Nat.le_of_ble_eq_true rfl) d_X_readName_255 (fun H locs hP hD hS => ?_)
                      have hP : va_P D classes (wS50 cI cJ cZ cB p0 p1 p2 p3 p4 p5 p6 p7 p8 p9 p10 p11 p12 p13 p14 p15 p16 p17 p18 p19 p20 p21 p22 p23 p24 p25 x0_4 x0_5 x0_6 x0_7 x0_8 x0_12 x0_13 x0_14 x0_15 x0_16 x0_17 x0_18 x0_22 x0_23 x0_24 g12x0_25 x0_26 x0_27 x0_28 x0_29 x0_30 x0_31 x0_32 x0_36 x0_39 x0_40 x0_44 x0_49 x0_51 x0_53 (3 : Int32) v41 x0_56 x0_57 x0_58 x0_59 x0_60 x0_61 x0_62 y1 y2 y3 y4 y5 y6 y7 y8 y9 y10 y11 y12 y13 y14 y15 y16 y17 y18 y19 y20 y21 y22 y23 y24 y25) H := hP
                      have hD : va_D A (wS50 cI cJ cZ cB p0 p1 p2 p3 p4 p5 p6 p7 p8 p9 p10 p11 p12 p13 p14 p15 p16 p17 p18 p19 p20 p21 p22 p23 p24 p25 x0_4 x0_5 x0_6 x0_7 x0_8 x0_12 x0_13 x0_14 x0_15 x0_16 x0_17 x0_18 x0_22 x0_23 x0_24 g12x0_25 x0_26 x0_27 x0_28 x0_29 x0_30 x0_31 x0_32 x0_36 x0_39 x0_40 x0_44 x0_49 x0_51 x0_53 (3 : Int32) v41 x0_56 x0_57 x0_58 x0_59 x0_60 x0_61 x0_62 y1 y2 y3 y4 y5 y6 y7 y8 y9 y10 y11 y12 y13 y14 y15 y16 y17 y18 y19 y20 y21 y22 y23 y24 y25) := hD
                      refine lv_aload_n hx hb d_X_readName_258 rfl (lv_at hl 6 rfl) ?_
                      refine lv_aload_n hx hb d_X_readName_259 rfl (lv_at hl 6 rfl) ?_
                      refine va_get (D := D) (ci := 7) (v := .ref p10) (C := "SignMachineModel") (T := F_X) (N := 64) hx hb hk fi_X hown hK.1 hP 0 rfl rfl 21 (by decide) (hk _ k_1142) (fun _ h9 => h9) rfl d_X_readName_260 ?_
                      refine lv_iload_n hx hb d_X_readName_263 rfl (lv_at hl 5 rfl) ?_
                      refine va_iald hx hb hK.1 hP 10 0 rfl rfl (by rw [vp_in_iff]; omega) d_X_readName_264 ?_
                      refine lv_topi (fun v56 hv56 => ?_)
                      have Tv56 : v56.toInt = (y10 (x0_25).toNatClampNeg).toInt := congrArg _ hv56
                      refine lv_bipush (v := 48) hx hb d_X_readName_265 (by decide) ?_
                      refine lv_isub hx hb d_X_readName_267 ?_
                      refine lv_topi (fun v57 hv57 => ?_)
                      refine lv_i2l (v := (v57 : Int32).toInt64) hx hb d_X_readName_268 rfl ?_
                      refine lv_topl (fun v58 hv58 => ?_)
                      obtain ⟨ev58, Rv58⟩ : v58.toInt = v57.toInt ∧ ((-2147483648) ≤ v58.toInt ∧ v58.toInt ≤ 2147483647) := il3 hv58 (fr3 v57)
                      refine va_put (D := D) (ci := 7) (v := .long v58) (ty := .long) (C := "SignMachineModel") (T := F_X) (N := 64) hx hb hk fi_X ft_X ft_X_ok fn_X hown hK.1 hP hD hS 0 rfl rfl 55 (by decide) (hk _ k_1176) (fun _ h9 => h9) rfl (by decide +kernel) rfl rfl (Nat.le_of_ble_eq_true rfl) d_X_readName_269 (fun H locs hP hD hS => ?_)
                      have hP : va_P D classes (wS50 cI cJ cZ cB p0 p1 p2 p3 p4 p5 p6 p7 p8 p9 p10 p11 p12 p13 p14 p15 p16 p17 p18 p19 p20 p21 p22 p23 p24 p25 x0_4 x0_5 x0_6 x0_7 x0_8 x0_12 x0_13 x0_14 x0_15 x0_16 x0_17 x0_18 x0_22 x0_23 x0_24 g12x0_25 x0_26 x0_27 x0_28 x0_29 x0_30 x0_31 x0_32 x0_36 x0_39 x0_40 x0_44 x0_49 x0_51 x0_53 (3 : Int32) v58 x0_56 x0_57 x0_58 x0_59 x0_60 x0_61 x0_62 y1 y2 y3 y4 y5 y6 y7 y8 y9 y10 y11 y12 y13 y14 y15 y16 y17 y18 y19 y20 y21 y22 y23 y24 y25) H := hP
                      have hD : va_D A (wS50 cI cJ cZ cB p0 p1 p2 p3 p4 p5 p6 p7 p8 p9 p10 p11 p12 p13 p14 p15 p16 p17 p18 p19 p20 p21 p22 p23 p24 p25 x0_4 x0_5 x0_6 x0_7 x0_8 x0_12 x0_13 x0_14 x0_15 x0_16 x0_17 x0_18 x0_22 x0_23 x0_24 g12x0_25 x0_26 x0_27 x0_28 x0_29 x0_30 x0_31 x0_32 x0_36 x0_39 x0_40 x0_44 x0_49 x0_51 x0_53 (3 : Int32) v58 x0_56 x0_57 x0_58 x0_59 x0_60 x0_61 x0_62 y1 y2 y3 y4 y5 y6 y7 y8 y9 y10 y11 y12 y13 y14 y15 y16 y17 y18 y19 y20 y21 y22 y23 y24 y25) := hD
                      refine lv_aload_n hx hb d_X_readName_272 rfl (lv_at hl 6 rfl) ?_
                      refine lv_iload hx hb d_X_readName_273 (lv_at hl 0 rfl) ?_
                      refine va_put (D := D) (ci := 7) (v := .int v46) (ty := .int) (C := "SignMachineModel") (T := F_X) (N := 64) hx hb hk fi_X ft_X ft_X_ok fn_X hown hK.1 hP hD hS 0 rfl rfl 56 (by decide) (hk _ k_1177) (fun _ h9 => h9) rfl (by decide +kernel) rfl rfl (Nat.le_of_ble_eq_true rfl) d_X_readName_275 (fun H locs hP hD hS => ?_)
                      have hP : va_P D classes (wS50 cI cJ cZ cB p0 p1 p2 p3 p4 p5 p6 p7 p8 p9 p10 p11 p12 p13 p14 p15 p16 p17 p18 p19 p20 p21 p22 p23 p24 p25 x0_4 x0_5 x0_6 x0_7 x0_8 x0_12 x0_13 x0_14 x0_15 x0_16 x0_17 x0_18 x0_22 x0_23 x0_24 g12x0_25 x0_26 x0_27 x0_28 x0_29 x0_30 x0_31 x0_32 x0_36 x0_39 x0_40 x0_44 x0_49 x0_51 x0_53 (3 : Int32) v58 v46 x0_57 x0_58 x0_59 x0_60 x0_61 x0_62 y1 y2 y3 y4 y5 y6 y7 y8 y9 y10 y11 y12 y13 y14 y15 y16 y17 y18 y19 y20 y21 y22 y23 y24 y25) H := hP
                      have hD : va_D A (wS50 cI cJ cZ cB p0 p1 p2 p3 p4 p5 p6 p7 p8 p9 p10 p11 p12 p13 p14 p15 p16 p17 p18 p19 p20 p21 p22 p23 p24 p25 x0_4 x0_5 x0_6 x0_7 x0_8 x0_12 x0_13 x0_14 x0_15 x0_16 x0_17 x0_18 x0_22 x0_23 x0_24 g12x0_25 x0_26 x0_27 x0_28 x0_29 x0_30 x0_31 x0_32 x0_36 x0_39 x0_40 x0_44 x0_49 x0_51 x0_53 (3 : Int32) v58 v46 x0_57 x0_58 x0_59 x0_60 x0_61 x0_62 y1 y2 y3 y4 y5 y6 y7 y8 y9 y10 y11 y12 y13 y14 y15 y16 y17 y18 y19 y20 y21 y22 y23 y24 y25) := hD
                      exact W.vret hx hb hr (fun t ht hW => ⟨⟨(), rfl, trivial, ⟨g12x0_25, x0_26, (3 : Int32), v58, v46, Rg12x0_25, Rx0_26, (by decide), (by omega), (by omega), (by omega), (by omega), by show va_P D classes _ t.heap; rw [ht]; exact hP, hD⟩⟩, hS.F ht⟩) hS.2.2 d_X_readName_278
                    · have gc54 : v46.toInt ≠ 72 := c_ne c54
                      refine lv_iload hx hb d_X_readName_239 (lv_at hl 0 rfl) ?_
                      refine lv_bipush (v := 66) hx hb d_X_readName_241 (by decide) ?_
                      refine lv_icmp_eq (tgt := 253) hx hb d_X_readName_243 (by decide) (fun c59 => ?_) (fun c59 => ?_)
                      · have gc59 : v46.toInt = 66 := c_eq c59
                        have R60 : 66 ≤ v46.toInt ∧ v46.toInt ≤ 66 := by omega
                        refine lv_aload_n hx hb d_X_readName_253 rfl (lv_at hl 6 rfl) ?_
                        refine lv_iconst (v := 3) hx hb d_X_readName_254 (by decide) ?_
                        refine va_put (D := D) (ci := 7) (v := .int (3 : Int32)) (ty := .int) (C := "SignMachineModel") (T := F_X) (N := 64) hx hb hk fi_X ft_X ft_X_ok fn_X hown hK.1 hP hD hS 0 rfl rfl 54 (by decide) (hk _ k_1175) (fun _ h9 => h9) rfl (by decide +kernel) rfl rfl (Nat.le_of_ble_eq_true rfl) d_X_readName_255 (fun H locs hP hD hS => ?_)
                        have hP : va_P D classes (wS50 cI cJ cZ cB p0 p1 p2 p3 p4 p5 p6 p7 p8 p9 p10 p11 p12 p13 p14 p15 p16 p17 p18 p19 p20 p21 p22 p23 p24 p25 x0_4 x0_5 x0_6 x0_7 x0_8 x0_12 x0_13 x0_14 x0_15 x0_16 x0_17 x0_18 x0_22 x0_23 x0_24 g12x0_25 x0_26 x0_27 x0_28 x0_29 x0_30 x0_31 x0_32 x0_36 x0_39 x0_40 x0_44 x0_49 x0_51 x0_53 (3 : Int32) v41 x0_56 x0_57 x0_58 x0_59 x0_60 x0_61 x0_62 y1 y2 y3 y4 y5 y6 y7 y8 y9 y10 y11 y12 y13 y14 y15 y16 y17 y18 y19 y20 y21 y22 y23 y24 y25) H := hP
                        have hD : va_D A (wS50 cI cJ cZ cB p0 p1 p2 p3 p4 p5 p6 p7 p8 p9 p10 p11 p12 p13 p14 p15 p16 p17 p18 p19 p20 p21 p22 p23 p24 p25 x0_4 x0_5 x0_6 x0_7 x0_8 x0_12 x0_13 x0_14 x0_15 x0_16 x0_17 x0_18 x0_22 x0_23 x0_24 g12x0_25 x0_26 x0_27 x0_28 x0_29 x0_30 x0_31 x0_32 x0_36 x0_39 x0_40 x0_44 x0_49 x0_51 x0_53 (3 : Int32) v41 x0_56 x0_57 x0_58 x0_59 x0_60 x0_61 x0_62 y1 y2 y3 y4 y5 y6 y7 y8 y9 y10 y11 y12 y13 y14 y15 y16 y17 y18 y19 y20 y21 y22 y23 y24 y25) := hD
                        refine lv_aload_n hx hb d_X_readName_258 rfl (lv_at hl 6 rfl) ?_
                        refine lv_aload_n hx hb d_X_readName_259 rfl (lv_at hl 6 rfl) ?_
                        refine va_get (D := D) (ci := 7) (v := .ref p10) (C := "SignMachineModel") (T := F_X) (N := 64) hx hb hk fi_X hown hK.1 hP 0 rfl rfl 21 (by decide) (hk _ k_1142) (fun _ h9 => h9) rfl d_X_readName_260 ?_
                        refine lv_iload_n hx hb d_X_readName_263 rfl (lv_at hl 5 rfl) ?_
                        refine va_iald hx hb hK.1 hP 10 0 rfl rfl (by rw [vp_in_iff]; omega) d_X_readName_264 ?_
                        refine lv_topi (fun v61 hv61 => ?_)
                        have Tv61 : v61.toInt = (y10 (x0_25).toNatClampNeg).toInt := congrArg _ hv61
                        refine lv_bipush (v := 48) hx hb d_X_readName_265 (by decide) ?_
                        refine lv_isub hx hb d_X_readName_267 ?_
                        refine lv_topi (fun v62 hv62 => ?_)
                        refine lv_i2l (v := (v62 : Int32).toInt64) hx hb d_X_readName_268 rfl ?_
                        refine lv_topl (fun v63 hv63 => ?_)
                        obtain ⟨ev63, Rv63⟩ : v63.toInt = v62.toInt ∧ ((-2147483648) ≤ v63.toInt ∧ v63.toInt ≤ 2147483647) := il3 hv63 (fr3 v62)
                        refine va_put (D := D) (ci := 7) (v := .long v63) (ty := .long) (C := "SignMachineModel") (T := F_X) (N := 64) hx hb hk fi_X ft_X ft_X_ok fn_X hown hK.1 hP hD hS 0 rfl rfl 55 (by decide) (hk _ k_1176) (fun _ h9 => h9) rfl (by decide +kernel) rfl rfl (Nat.le_of_ble_eq_true rfl) d_X_readName_269 (fun H locs hP hD hS => ?_)
                        have hP : va_P D classes (wS50 cI cJ cZ cB p0 p1 p2 p3 p4 p5 p6 p7 p8 p9 p10 p11 p12 p13 p14 p15 p16 p17 p18 p19 p20 p21 p22 p23 p24 p25 x0_4 x0_5 x0_6 x0_7 x0_8 x0_12 x0_13 x0_14 x0_15 x0_16 x0_17 x0_18 x0_22 x0_23 x0_24 g12x0_25 x0_26 x0_27 x0_28 x0_29 x0_30 x0_31 x0_32 x0_36 x0_39 x0_40 x0_44 x0_49 x0_51 x0_53 (3 : Int32) v63 x0_56 x0_57 x0_58 x0_59 x0_60 x0_61 x0_62 y1 y2 y3 y4 y5 y6 y7 y8 y9 y10 y11 y12 y13 y14 y15 y16 y17 y18 y19 y20 y21 y22 y23 y24 y25) H := hP
                        have hD : va_D A (wS50 cI cJ cZ cB p0 p1 p2 p3 p4 p5 p6 p7 p8 p9 p10 p11 p12 p13 p14 p15 p16 p17 p18 p19 p20 p21 p22 p23 p24 p25 x0_4 x0_5 x0_6 x0_7 x0_8 x0_12 x0_13 x0_14 x0_15 x0_16 x0_17 x0_18 x0_22 x0_23 x0_24 g12x0_25 x0_26 x0_27 x0_28 x0_29 x0_30 x0_31 x0_32 x0_36 x0_39 x0_40 x0_44 x0_49 x0_51 x0_53 (3 : Int32) v63 x0_56 x0_57 x0_58 x0_59 x0_60 x0_61 x0_62 y1 y2 y3 y4 y5 y6 y7 y8 y9 y10 y11 y12 y13 y14 y15 y16 y17 y18 y19 y20 y21 y22 y23 y24 y25) := hD
                        refine lv_aload_n hx hb d_X_readName_272 rfl (lv_at hl 6 rfl) ?_
                        refine lv_iload hx hb d_X_readName_273 (lv_at hl 0 rfl) ?_
                        refine va_put (D := D) (ci := 7) (v := .int v46) (ty := .int) (C := "SignMachineModel") (T := F_X) (N := 64) hx hb hk fi_X ft_X ft_X_ok fn_X hown hK.1 hP hD hS 0 rfl rfl 56 (by decide) (hk _ k_1177) (fun _ h9 => h9) rfl (by decide +kernel) rfl rfl (Nat.le_of_ble_eq_true rfl) d_X_readName_275 (fun H locs hP hD hS => ?_)
                        have hP : va_P D classes (wS50 cI cJ cZ cB p0 p1 p2 p3 p4 p5 p6 p7 p8 p9 p10 p11 p12 p13 p14 p15 p16 p17 p18 p19 p20 p21 p22 p23 p24 p25 x0_4 x0_5 x0_6 x0_7 x0_8 x0_12 x0_13 x0_14 x0_15 x0_16 x0_17 x0_18 x0_22 x0_23 x0_24 g12x0_25 x0_26 x0_27 x0_28 x0_29 x0_30 x0_31 x0_32 x0_36 x0_39 x0_40 x0_44 x0_49 x0_51 x0_53 (3 : Int32) v63 v46 x0_57 x0_58 x0_59 x0_60 x0_61 x0_62 y1 y2 y3 y4 y5 y6 y7 y8 y9 y10 y11 y12 y13 y14 y15 y16 y17 y18 y19 y20 y21 y22 y23 y24 y25) H := hP
                        have hD : va_D A (wS50 cI cJ cZ cB p0 p1 p2 p3 p4 p5 p6 p7 p8 p9 p10 p11 p12 p13 p14 p15 p16 p17 p18 p19 p20 p21 p22 p23 p24 p25 x0_4 x0_5 x0_6 x0_7 x0_8 x0_12 x0_13 x0_14 x0_15 x0_16 x0_17 x0_18 x0_22 x0_23 x0_24 g12x0_25 x0_26 x0_27 x0_28 x0_29 x0_30 x0_31 x0_32 x0_36 x0_39 x0_40 x0_44 x0_49 x0_51 x0_53 (3 : Int32) v63 v46 x0_57 x0_58 x0_59 x0_60 x0_61 x0_62 y1 y2 y3 y4 y5 y6 y7 y8 y9 y10 y11 y12 y13 y14 y15 y16 y17 y18 y19 y20 y21 y22 y23 y24 y25) := hD
                        exact W.vret hx hb hr (fun t ht hW => ⟨⟨(), rfl, trivial, ⟨g12x0_25, x0_26, (3 : Int32), v63, v46, Rg12x0_25, Rx0_26, (by decide), (by omega), (by omega), (by omega), (by omega), by show va_P D classes _ t.heap; rw [ht]; exact hP, hD⟩⟩, hS.F ht⟩) hS.2.2 d_X_readName_278
                      · have gc59 : v46.toInt ≠ 66 := c_ne c59
                        refine lv_iload hx hb d_X_readName_246 (lv_at hl 0 rfl) ?_
                        refine lv_bipush (v := 70) hx hb d_X_readName_248 (by decide) ?_
                        refine lv_icmp_ne (tgt := 278) hx hb d_X_readName_250 (by decide) (fun c64 => ?_) (fun c64 => ?_)
                        · have gc64 : v46.toInt ≠ 70 := c_ne c64
                          exact W.vret hx hb hr (fun t ht hW => ⟨⟨(), rfl, trivial, ⟨g12x0_25, x0_26, (1 : Int32), v41, x0_56, Rg12x0_25, Rx0_26, (by decide), (by omega), (by omega), (by omega), (by omega), by show va_P D classes _ t.heap; rw [ht]; exact hP, hD⟩⟩, hS.F ht⟩) hS.2.2 d_X_readName_278
                        · have gc64 : v46.toInt = 70 := c_eq c64
                          have R65 : 70 ≤ v46.toInt ∧ v46.toInt ≤ 70 := by omega
                          refine lv_aload_n hx hb d_X_readName_253 rfl (lv_at hl 6 rfl) ?_
                          refine lv_iconst (v := 3) hx hb d_X_readName_254 (by decide) ?_
                          refine va_put (D := D) (ci := 7) (v := .int (3 : Int32)) (ty := .int) (C := "SignMachineModel") (T := F_X) (N := 64) hx hb hk fi_X ft_X ft_X_ok fn_X hown hK.1 hP hD hS 0 rfl rfl 54 (by decide) (hk _ k_1175) (fun _ h9 => h9) rfl (by decide +kernel) rfl rfl (Nat.le_of_ble_eq_true rfl) d_X_readName_255 (fun H locs hP hD hS => ?_)
                          have hP : va_P D classes (wS50 cI cJ cZ cB p0 p1 p2 p3 p4 p5 p6 p7 p8 p9 p10 p11 p12 p13 p14 p15 p16 p17 p18 p19 p20 p21 p22 p23 p24 p25 x0_4 x0_5 x0_6 x0_7 x0_8 x0_12 x0_13 x0_14 x0_15 x0_16 x0_17 x0_18 x0_22 x0_23 x0_24 g12x0_25 x0_26 x0_27 x0_28 x0_29 x0_30 x0_31 x0_32 x0_36 x0_39 x0_40 x0_44 x0_49 x0_51 x0_53 (3 : Int32) v41 x0_56 x0_57 x0_58 x0_59 x0_60 x0_61 x0_62 y1 y2 y3 y4 y5 y6 y7 y8 y9 y10 y11 y12 y13 y14 y15 y16 y17 y18 y19 y20 y21 y22 y23 y24 y25) H := hP
                          have hD : va_D A (wS50 cI cJ cZ cB p0 p1 p2 p3 p4 p5 p6 p7 p8 p9 p10 p11 p12 p13 p14 p15 p16 p17 p18 p19 p20 p21 p22 p23 p24 p25 x0_4 x0_5 x0_6 x0_7 x0_8 x0_12 x0_13 x0_14 x0_15 x0_16 x0_17 x0_18 x0_22 x0_23 x0_24 g12x0_25 x0_26 x0_27 x0_28 x0_29 x0_30 x0_31 x0_32 x0_36 x0_39 x0_40 x0_44 x0_49 x0_51 x0_53 (3 : Int32) v41 x0_56 x0_57 x0_58 x0_59 x0_60 x0_61 x0_62 y1 y2 y3 y4 y5 y6 y7 y8 y9 y10 y11 y12 y13 y14 y15 y16 y17 y18 y19 y20 y21 y22 y23 y24 y25) := hD
                          refine lv_aload_n hx hb d_X_readName_258 rfl (lv_at hl 6 rfl) ?_
                          refine lv_aload_n hx hb d_X_readName_259 rfl (lv_at hl 6 rfl) ?_
                          refine va_get (D := D) (ci := 7) (v := .ref p10) (C := "SignMachineModel") (T := F_X) (N := 64) hx hb hk fi_X hown hK.1 hP 0 rfl rfl 21 (by decide) (hk _ k_1142) (fun _ h9 => h9) rfl d_X_readName_260 ?_
                          refine lv_iload_n hx hb d_X_readName_263 rfl (lv_at hl 5 rfl) ?_
                          refine va_iald hx hb hK.1 hP 10 0 rfl rfl (by rw [vp_in_iff]; omega) d_X_readName_264 ?_
                          refine lv_topi (fun v66 hv66 => ?_)
                          have Tv66 : v66.toInt = (y10 (x0_25).toNatClampNeg).toInt := congrArg _ hv66
                          refine lv_bipush (v := 48) hx hb d_X_readName_265 (by decide) ?_
                          refine lv_isub hx hb d_X_readName_267 ?_
                          refine lv_topi (fun v67 hv67 => ?_)
                          refine lv_i2l (v := (v67 : Int32).toInt64) hx hb d_X_readName_268 rfl ?_
                          refine lv_topl (fun v68 hv68 => ?_)
                          obtain ⟨ev68, Rv68⟩ : v68.toInt = v67.toInt ∧ ((-2147483648) ≤ v68.toInt ∧ v68.toInt ≤ 2147483647) := il3 hv68 (fr3 v67)
                          refine va_put (D := D) (ci := 7) (v := .long v68) (ty := .long) (C := "SignMachineModel") (T := F_X) (N := 64) hx hb hk fi_X ft_X ft_X_ok fn_X hown hK.1 hP hD hS 0 rfl rfl 55 (by decide) (hk _ k_1176) (fun _ h9 => h9) rfl (by decide +kernel) rfl rfl (Nat.le_of_ble_eq_true rfl) d_X_readName_269 (fun H locs hP hD hS => ?_)
                          have hP : va_P D classes (wS50 cI cJ cZ cB p0 p1 p2 p3 p4 p5 p6 p7 p8 p9 p10 p11 p12 p13 p14 p15 p16 p17 p18 p19 p20 p21 p22 p23 p24 p25 x0_4 x0_5 x0_6 x0_7 x0_8 x0_12 x0_13 x0_14 x0_15 x0_16 x0_17 x0_18 x0_22 x0_23 x0_24 g12x0_25 x0_26 x0_27 x0_28 x0_29 x0_30 x0_31 x0_32 x0_36 x0_39 x0_40 x0_44 x0_49 x0_51 x0_53 (3 : Int32) v68 x0_56 x0_57 x0_58 x0_59 x0_60 x0_61 x0_62 y1 y2 y3 y4 y5 y6 y7 y8 y9 y10 y11 y12 y13 y14 y15 y16 y17 y18 y19 y20 y21 y22 y23 y24 y25) H := hP
                          have hD : va_D A (wS50 cI cJ cZ cB p0 p1 p2 p3 p4 p5 p6 p7 p8 p9 p10 p11 p12 p13 p14 p15 p16 p17 p18 p19 p20 p21 p22 p23 p24 p25 x0_4 x0_5 x0_6 x0_7 x0_8 x0_12 x0_13 x0_14 x0_15 x0_16 x0_17 x0_18 x0_22 x0_23 x0_24 g12x0_25 x0_26 x0_27 x0_28 x0_29 x0_30 x0_31 x0_32 x0_36 x0_39 x0_40 x0_44 x0_49 x0_51 x0_53 (3 : Int32) v68 x0_56 x0_57 x0_58 x0_59 x0_60 x0_61 x0_62 y1 y2 y3 y4 y5 y6 y7 y8 y9 y10 y11 y12 y13 y14 y15 y16 y17 y18 y19 y20 y21 y22 y23 y24 y25) := hD
                          refine lv_aload_n hx hb d_X_readName_272 rfl (lv_at hl 6 rfl) ?_
                          refine lv_iload hx hb d_X_readName_273 (lv_at hl 0 rfl) ?_
                          refine va_put (D := D) (ci := 7) (v := .int v46) (ty := .int) (C := "SignMachineModel") (T := F_X) (N := 64) hx hb hk fi_X ft_X ft_X_ok fn_X hown hK.1 hP hD hS 0 rfl rfl 56 (by decide) (hk _ k_1177) (fun _ h9 => h9) rfl (by decide +kernel) rfl rfl (Nat.le_of_ble_eq_true rfl) d_X_readName_275 (fun H locs hP hD hS => ?_)
                          have hP : va_P D classes (wS50 cI cJ cZ cB p0 p1 p2 p3 p4 p5 p6 p7 p8 p9 p10 p11 p12 p13 p14 p15 p16 p17 p18 p19 p20 p21 p22 p23 p24 p25 x0_4 x0_5 x0_6 x0_7 x0_8 x0_12 x0_13 x0_14 x0_15 x0_16 x0_17 x0_18 x0_22 x0_23 x0_24 g12x0_25 x0_26 x0_27 x0_28 x0_29 x0_30 x0_31 x0_32 x0_36 x0_39 x0_40 x0_44 x0_49 x0_51 x0_53 (3 : Int32) v68 v46 x0_57 x0_58 x0_59 x0_60 x0_61 x0_62 y1 y2 y3 y4 y5 y6 y7 y8 y9 y10 y11 y12 y13 y14 y15 y16 y17 y18 y19 y20 y21 y22 y23 y24 y25) H := hP
                          have hD : va_D A (wS50 cI cJ cZ cB p0 p1 p2 p3 p4 p5 p6 p7 p8 p9 p10 p11 p12 p13 p14 p15 p16 p17 p18 p19 p20 p21 p22 p23 p24 p25 x0_4 x0_5 x0_6 x0_7 x0_8 x0_12 x0_13 x0_14 x0_15 x0_16 x0_17 x0_18 x0_22 x0_23 x0_24 g12x0_25 x0_26 x0_27 x0_28 x0_29 x0_30 x0_31 x0_32 x0_36 x0_39 x0_40 x0_44 x0_49 x0_51 x0_53 (3 : Int32) v68 v46 x0_57 x0_58 x0_59 x0_60 x0_61 x0_62 y1 y2 y3 y4 y5 y6 y7 y8 y9 y10 y11 y12 y13 y14 y15 y16 y17 y18 y19 y20 y21 y22 y23 y24 y25) := hD
                          exact W.vret hx hb hr (fun t ht hW => ⟨⟨(), rfl, trivial, ⟨g12x0_25, x0_26, (3 : Int32), v68, v46, Rg12x0_25, Rx0_26, (by decide), (by omega), (by omega), (by omega), (by omega), by show va_P D classes _ t.heap; rw [ht]; exact hP, hD⟩⟩, hS.F ht⟩) hS.2.2 d_X_readName_278
              · have gc43 : 10 < v36.toInt := c_nle c43
                have R69 : 11 ≤ v36.toInt ∧ v36.toInt ≤ 4000 := by omega
                refine lv_aload_n hx hb d_X_readName_196 rfl (lv_at hl 5 rfl) ?_
                refine lv_iconst (v := 1) hx hb d_X_readName_197 (by decide) ?_
                refine kn_v (va_runV (C := "SignMachineModel") (As := [.int (1 : Int32)]) (rest := []) ⟨hx, hb, hml, hown, hk⟩ (c_X_bad l D cI cJ cZ cB p0 p1 p2 p3 p4 p5 p6 p7 p8 p9 p10 p11 p12 p13 p14 p15 p16 p17 p18 p19 p20 p21 p22 p23 p24 p25 H.size x0_4 x0_5 x0_6 x0_7 x0_8 x0_12 x0_13 x0_14 x0_15 x0_16 x0_17 x0_18 x0_22 x0_23 x0_24 g12x0_25 x0_26 x0_27 x0_28 x0_29 x0_30 x0_31 x0_32 x0_36 x0_39 x0_40 x0_44 x0_49 x0_51 x0_53 (1 : Int32) v41 x0_56 x0_57 x0_58 x0_59 x0_60 x0_61 x0_62 y1 y2 y3 y4 y5 y6 y7 y8 y9 y10 y11 y12 y13 y14 y15 y16 y17 y18 y19 y20 y21 y22 y23 y24 y25 (1 : Int32) Rx0_26 (by decide)) (v_X_bad hk k_1552 ⟨Nat.le_of_ble_eq_true rfl, Nat.le_of_ble_eq_true rfl⟩) (pM_v hK hP hD (ci := 7) (q0 := 0) rfl rfl rfl) rfl rfl hl.1 rfl (lv_room (Nat.le_of_ble_eq_true rfl)) d_X_readName_198 ⟨Nat.le_of_ble_eq_true rfl, Nat.le_of_ble_eq_true rfl⟩) hS hA hD (fun u t H locs ht hB hFr hS => ?_)
                obtain ⟨x0_26z70, Rx0_26z70, F0z70, hP, hD⟩ := hB
                have F0z70 : 1 ≤ x0_26z70.toInt := F0z70
                rw [ht] at hP
                have hD := dwk hD hFr
                clear ht hFr
                have hP : va_P D classes (wS50 cI cJ cZ cB p0 p1 p2 p3 p4 p5 p6 p7 p8 p9 p10 p11 p12 p13 p14 p15 p16 p17 p18 p19 p20 p21 p22 p23 p24 p25 x0_4 x0_5 x0_6 x0_7 x0_8 x0_12 x0_13 x0_14 x0_15 x0_16 x0_17 x0_18 x0_22 x0_23 x0_24 g12x0_25 x0_26z70 x0_27 x0_28 x0_29 x0_30 x0_31 x0_32 x0_36 x0_39 x0_40 x0_44 x0_49 x0_51 x0_53 (1 : Int32) v41 x0_56 x0_57 x0_58 x0_59 x0_60 x0_61 x0_62 y1 y2 y3 y4 y5 y6 y7 y8 y9 y10 y11 y12 y13 y14 y15 y16 y17 y18 y19 y20 y21 y22 y23 y24 y25) H := hP
                have hD : va_D A (wS50 cI cJ cZ cB p0 p1 p2 p3 p4 p5 p6 p7 p8 p9 p10 p11 p12 p13 p14 p15 p16 p17 p18 p19 p20 p21 p22 p23 p24 p25 x0_4 x0_5 x0_6 x0_7 x0_8 x0_12 x0_13 x0_14 x0_15 x0_16 x0_17 x0_18 x0_22 x0_23 x0_24 g12x0_25 x0_26z70 x0_27 x0_28 x0_29 x0_30 x0_31 x0_32 x0_36 x0_39 x0_40 x0_44 x0_49 x0_51 x0_53 (1 : Int32) v41 x0_56 x0_57 x0_58 x0_59 x0_60 x0_61 x0_62 y1 y2 y3 y4 y5 y6 y7 y8 y9 y10 y11 y12 y13 y14 y15 y16 y17 y18 y19 y20 y21 y22 y23 y24 y25) := hD
                refine lv_aload_n hx hb d_X_readName_201 rfl (lv_at hl 5 rfl) ?_
                refine va_get (D := D) (ci := 7) (v := .ref p10) (C := "SignMachineModel") (T := F_X) (N := 64) hx hb hk fi_X hown hK.1 hP 0 rfl rfl 21 (by decide) (hk _ k_1142) (fun _ h9 => h9) rfl d_X_readName_202 ?_
                refine lv_aload_n hx hb d_X_readName_205 rfl (lv_at hl 5 rfl) ?_
                refine va_get (D := D) (ci := 7) (v := .int g12x0_25) (C := "SignMachineModel") (T := F_X) (N := 64) hx hb hk fi_X hown hK.1 hP 0 rfl rfl 25 (by decide) (hk _ k_1146) (fun _ h9 => h9) rfl d_X_readName_206 ?_
                refine lv_iconst (v := 1) hx hb d_X_readName_209 (by decide) ?_
                refine lv_isub hx hb d_X_readName_210 ?_
                refine lv_topi (fun v71 hv71 => ?_)
                obtain ⟨ev71, Rv71⟩ : v71.toInt = g12x0_25.toInt - 1 ∧ ((-1) ≤ v71.toInt ∧ v71.toInt ≤ 3999) := sb3 hv71 Rg12x0_25 (by decide) (by decide) (by decide) (by decide) (by decide)
                refine va_iald hx hb hK.1 hP 10 0 rfl rfl (by rw [vp_in_iff]; omega) d_X_readName_211 ?_
                refine lv_topi (fun v72 hv72 => ?_)
                have Tv72 : v72.toInt = (y10 (v71).toNatClampNeg).toInt := congrArg _ hv72
                refine lv_istore (lv' := [(8, .int v72), (7, .int v36), (5, .long g12l5), (3, .long g12l3), (2, .int g12l2), (1, .int x0_25), (0, .ref p0)]) hx hb d_X_readName_212 hl (by decide) rfl (fun ls hl => ?_)
                refine lv_iload hx hb d_X_readName_214 (lv_at hl 1 rfl) ?_
                refine lv_iconst (v := 2) hx hb d_X_readName_216 (by decide) ?_
                refine lv_icmp_ne (tgt := 278) hx hb d_X_readName_217 (by decide) (fun c73 => ?_) (fun c73 => absurd c73 (show ¬ v36 = (2 : Int32) from (fun q => by have := c_eq q; omega)))
                exact W.vret hx hb hr (fun t ht hW => ⟨⟨(), rfl, trivial, ⟨g12x0_25, x0_26z70, (1 : Int32), v41, x0_56, Rg12x0_25, Rx0_26z70, (by decide), (by omega), (by omega), (by omega), (by omega), by show va_P D classes _ t.heap; rw [ht]; exact hP, hD⟩⟩, hS.F ht⟩) hS.2.2 d_X_readName_278
            · have gc38 : g12l2.toInt ≠ 0 := c_ne c38
              refine lv_iconst (v := 2) hx hb d_X_readName_154 (by decide) ?_
              refine lv_goto (tgt := 159) hx hb d_X_readName_155 (by decide) ?_
              refine va_put (D := D) (ci := 7) (v := .int (2 : Int32)) (ty := .int) (C := "SignMachineModel") (T := F_X) (N := 64) hx hb hk fi_X ft_X ft_X_ok fn_X hown hK.1 hP hD hS 0 rfl rfl 54 (by decide) (hk _ k_1175) (fun _ h9 => h9) rfl (by decide +kernel) rfl rfl (Nat.le_of_ble_eq_true rfl) d_X_readName_159 (fun H locs hP hD hS => ?_)
              have hP : va_P D classes (wS50 cI cJ cZ cB p0 p1 p2 p3 p4 p5 p6 p7 p8 p9 p10 p11 p12 p13 p14 p15 p16 p17 p18 p19 p20 p21 p22 p23 p24 p25 x0_4 x0_5 x0_6 x0_7 x0_8 x0_12 x0_13 x0_14 x0_15 x0_16 x0_17 x0_18 x0_22 x0_23 x0_24 g12x0_25 x0_26 x0_27 x0_28 x0_29 x0_30 x0_31 x0_32 x0_36 x0_39 x0_40 x0_44 x0_49 x0_51 x0_53 (2 : Int32) x0_55 x0_56 x0_57 x0_58 x0_59 x0_60 x0_61 x0_62 y1 y2 y3 y4 y5 y6 y7 y8 y9 y10 y11 y12 y13 y14 y15 y16 y17 y18 y19 y20 y21 y22 y23 y24 y25) H := hP
              have hD : va_D A (wS50 cI cJ cZ cB p0 p1 p2 p3 p4 p5 p6 p7 p8 p9 p10 p11 p12 p13 p14 p15 p16 p17 p18 p19 p20 p21 p22 p23 p24 p25 x0_4 x0_5 x0_6 x0_7 x0_8 x0_12 x0_13 x0_14 x0_15 x0_16 x0_17 x0_18 x0_22 x0_23 x0_24 g12x0_25 x0_26 x0_27 x0_28 x0_29 x0_30 x0_31 x0_32 x0_36 x0_39 x0_40 x0_44 x0_49 x0_51 x0_53 (2 : Int32) x0_55 x0_56 x0_57 x0_58 x0_59 x0_60 x0_61 x0_62 y1 y2 y3 y4 y5 y6 y7 y8 y9 y10 y11 y12 y13 y14 y15 y16 y17 y18 y19 y20 y21 y22 y23 y24 y25) := hD
              refine lv_aload_n hx hb d_X_readName_162 rfl (lv_at hl 5 rfl) ?_
              refine lv_iload_n hx hb d_X_readName_163 rfl (lv_at hl 3 rfl) ?_
              refine lv_if_eq (tgt := 172) hx hb d_X_readName_164 (by decide) (fun c74 => absurd c74 (show ¬ g12l2 = (0 : Int32) from c38)) (fun c74 => ?_)
              refine lv_lload hx hb d_X_readName_167 (lv_at hl 1 rfl) ?_
              refine lv_goto (tgt := 177) hx hb d_X_readName_169 (by decide) ?_
              refine va_put (D := D) (ci := 7) (v := .long g12l5) (ty := .long) (C := "SignMachineModel") (T := F_X) (N := 64) hx hb hk fi_X ft_X ft_X_ok fn_X hown hK.1 hP hD hS 0 rfl rfl 55 (by decide) (hk _ k_1176) (fun _ h9 => h9) rfl (by decide +kernel) rfl rfl (Nat.le_of_ble_eq_true rfl) d_X_readName_177 (fun H locs hP hD hS => ?_)
              have hP : va_P D classes (wS50 cI cJ cZ cB p0 p1 p2 p3 p4 p5 p6 p7 p8 p9 p10 p11 p12 p13 p14 p15 p16 p17 p18 p19 p20 p21 p22 p23 p24 p25 x0_4 x0_5 x0_6 x0_7 x0_8 x0_12 x0_13 x0_14 x0_15 x0_16 x0_17 x0_18 x0_22 x0_23 x0_24 g12x0_25 x0_26 x0_27 x0_28 x0_29 x0_30 x0_31 x0_32 x0_36 x0_39 x0_40 x0_44 x0_49 x0_51 x0_53 (2 : Int32) g12l5 x0_56 x0_57 x0_58 x0_59 x0_60 x0_61 x0_62 y1 y2 y3 y4 y5 y6 y7 y8 y9 y10 y11 y12 y13 y14 y15 y16 y17 y18 y19 y20 y21 y22 y23 y24 y25) H := hP
              have hD : va_D A (wS50 cI cJ cZ cB p0 p1 p2 p3 p4 p5 p6 p7 p8 p9 p10 p11 p12 p13 p14 p15 p16 p17 p18 p19 p20 p21 p22 p23 p24 p25 x0_4 x0_5 x0_6 x0_7 x0_8 x0_12 x0_13 x0_14 x0_15 x0_16 x0_17 x0_18 x0_22 x0_23 x0_24 g12x0_25 x0_26 x0_27 x0_28 x0_29 x0_30 x0_31 x0_32 x0_36 x0_39 x0_40 x0_44 x0_49 x0_51 x0_53 (2 : Int32) g12l5 x0_56 x0_57 x0_58 x0_59 x0_60 x0_61 x0_62 y1 y2 y3 y4 y5 y6 y7 y8 y9 y10 y11 y12 y13 y14 y15 y16 y17 y18 y19 y20 y21 y22 y23 y24 y25) := hD
              refine lv_iload hx hb d_X_readName_180 (lv_at hl 0 rfl) ?_
              refine lv_iload_n hx hb d_X_readName_182 rfl (lv_at hl 3 rfl) ?_
              refine lv_if_eq (tgt := 191) hx hb d_X_readName_183 (by decide) (fun c75 => absurd c75 (show ¬ g12l2 = (0 : Int32) from c38)) (fun c75 => ?_)
              refine lv_bipush (v := 8) hx hb d_X_readName_186 (by decide) ?_
              refine lv_goto (tgt := 193) hx hb d_X_readName_188 (by decide) ?_
              refine lv_icmp_le (tgt := 201) hx hb d_X_readName_193 (by decide) (fun c76 => ?_) (fun c76 => ?_)
              · have gc76 : v36.toInt ≤ 8 := c_le c76
                have R77 : (-4000) ≤ v36.toInt ∧ v36.toInt ≤ 8 := by omega
                refine lv_aload_n hx hb d_X_readName_201 rfl (lv_at hl 5 rfl) ?_
                refine va_get (D := D) (ci := 7) (v := .ref p10) (C := "SignMachineModel") (T := F_X) (N := 64) hx hb hk fi_X hown hK.1 hP 0 rfl rfl 21 (by decide) (hk _ k_1142) (fun _ h9 => h9) rfl d_X_readName_202 ?_
                refine lv_aload_n hx hb d_X_readName_205 rfl (lv_at hl 5 rfl) ?_
                refine va_get (D := D) (ci := 7) (v := .int g12x0_25) (C := "SignMachineModel") (T := F_X) (N := 64) hx hb hk fi_X hown hK.1 hP 0 rfl rfl 25 (by decide) (hk _ k_1146) (fun _ h9 => h9) rfl d_X_readName_206 ?_
                refine lv_iconst (v := 1) hx hb d_X_readName_209 (by decide) ?_
                refine lv_isub hx hb d_X_readName_210 ?_
                refine lv_topi (fun v78 hv78 => ?_)
                obtain ⟨ev78, Rv78⟩ : v78.toInt = g12x0_25.toInt - 1 ∧ ((-1) ≤ v78.toInt ∧ v78.toInt ≤ 3999) := sb3 hv78 Rg12x0_25 (by decide) (by decide) (by decide) (by decide) (by decide)
                refine va_iald hx hb hK.1 hP 10 0 rfl rfl (by rw [vp_in_iff]; omega) d_X_readName_211 ?_
                refine lv_topi (fun v79 hv79 => ?_)
                have Tv79 : v79.toInt = (y10 (v78).toNatClampNeg).toInt := congrArg _ hv79
                refine lv_istore (lv' := [(8, .int v79), (7, .int v36), (5, .long g12l5), (3, .long g12l3), (2, .int g12l2), (1, .int x0_25), (0, .ref p0)]) hx hb d_X_readName_212 hl (by decide) rfl (fun ls hl => ?_)
                refine lv_iload hx hb d_X_readName_214 (lv_at hl 1 rfl) ?_
                refine lv_iconst (v := 2) hx hb d_X_readName_216 (by decide) ?_
                refine lv_icmp_ne (tgt := 278) hx hb d_X_readName_217 (by decide) (fun c80 => ?_) (fun c80 => ?_)
                · have gc80 : v36.toInt ≠ 2 := c_ne c80
                  exact W.vret hx hb hr (fun t ht hW => ⟨⟨(), rfl, trivial, ⟨g12x0_25, x0_26, (2 : Int32), g12l5, x0_56, Rg12x0_25, Rx0_26, (by decide), (by omega), (by omega), (by omega), (by omega), by show va_P D classes _ t.heap; rw [ht]; exact hP, hD⟩⟩, hS.F ht⟩) hS.2.2 d_X_readName_278
                · have gc80 : v36.toInt = 2 := c_eq c80
                  have R81 : 2 ≤ v36.toInt ∧ v36.toInt ≤ 2 := by omega
                  refine lv_aload_n hx hb d_X_readName_220 rfl (lv_at hl 6 rfl) ?_
                  refine va_get (D := D) (ci := 7) (v := .ref p10) (C := "SignMachineModel") (T := F_X) (N := 64) hx hb hk fi_X hown hK.1 hP 0 rfl rfl 21 (by decide) (hk _ k_1142) (fun _ h9 => h9) rfl d_X_readName_221 ?_
                  refine lv_iload_n hx hb d_X_readName_224 rfl (lv_at hl 5 rfl) ?_
                  refine va_iald hx hb hK.1 hP 10 0 rfl rfl (by rw [vp_in_iff]; omega) d_X_readName_225 ?_
                  refine lv_topi (fun v82 hv82 => ?_)
                  have Tv82 : v82.toInt = (y10 (x0_25).toNatClampNeg).toInt := congrArg _ hv82
                  refine vp_callSi (W.runS (As := [.int v82]) (rest := []) ⟨hx, hb, hml, hown, hk⟩ (c_X_isDigit l v82 ) (s_X_isDigit hk k_1548 ⟨Nat.le_of_ble_eq_true rfl, Nat.le_of_ble_eq_true rfl⟩) ⟨fun a U g mk q => q, fun U hU hW => ⟨rfl, trivial⟩⟩ rfl rfl hl.1 rfl (lv_room (Nat.le_of_ble_eq_true rfl)) d_X_readName_226 ⟨Nat.le_of_ble_eq_true rfl, Nat.le_of_ble_eq_true rfl⟩) (fun rz83 hrz83 => ?_)
                  obtain ⟨F0z83, F1z83⟩ := hrz83
                  have F0z83 : 0 ≤ rz83.toInt ∧ rz83.toInt ≤ 1 := F0z83
                  have F1z83 : rz83.toInt = 1 → (48 ≤ v82.toInt ∧ v82.toInt ≤ 57) := F1z83
                  refine lv_if_eq (tgt := 278) hx hb d_X_readName_229 (by decide) (fun c84 => ?_) (fun c84 => ?_)
                  · have gc84 : rz83.toInt = 0 := c_eq c84
                    have R85 : 0 ≤ rz83.toInt ∧ rz83.toInt ≤ 0 := by omega
                    exact W.vret hx hb hr (fun t ht hW => ⟨⟨(), rfl, trivial, ⟨g12x0_25, x0_26, (2 : Int32), g12l5, x0_56, Rg12x0_25, Rx0_26, (by decide), (by omega), (by omega), (by omega), (by omega), by show va_P D classes _ t.heap; rw [ht]; exact hP, hD⟩⟩, hS.F ht⟩) hS.2.2 d_X_readName_278
                  · have gc84 : rz83.toInt ≠ 0 := c_ne c84
                    have R86 : 1 ≤ rz83.toInt ∧ rz83.toInt ≤ 1 := by omega
                    refine lv_iload hx hb d_X_readName_232 (lv_at hl 0 rfl) ?_
                    refine lv_bipush (v := 72) hx hb d_X_readName_234 (by decide) ?_
                    refine lv_icmp_eq (tgt := 253) hx hb d_X_readName_236 (by decide) (fun c87 => ?_) (fun c87 => ?_)
                    · have gc87 : v79.toInt = 72 := c_eq c87
                      have R88 : 72 ≤ v79.toInt ∧ v79.toInt ≤ 72 := by omega
                      refine lv_aload_n hx hb d_X_readName_253 rfl (lv_at hl 6 rfl) ?_
                      refine lv_iconst (v := 3) hx hb d_X_readName_254 (by decide) ?_
                      refine va_put (D := D) (ci := 7) (v := .int (3 : Int32)) (ty := .int) (C := "SignMachineModel") (T := F_X) (N := 64) hx hb hk fi_X ft_X ft_X_ok fn_X hown hK.1 hP hD hS 0 rfl rfl 54 (by decide) (hk _ k_1175) (fun _ h9 => h9) rfl (by decide +kernel) rfl rfl (Nat.le_of_ble_eq_true rfl) d_X_readName_255 (fun H locs hP hD hS => ?_)
                      have hP : va_P D classes (wS50 cI cJ cZ cB p0 p1 p2 p3 p4 p5 p6 p7 p8 p9 p10 p11 p12 p13 p14 p15 p16 p17 p18 p19 p20 p21 p22 p23 p24 p25 x0_4 x0_5 x0_6 x0_7 x0_8 x0_12 x0_13 x0_14 x0_15 x0_16 x0_17 x0_18 x0_22 x0_23 x0_24 g12x0_25 x0_26 x0_27 x0_28 x0_29 x0_30 x0_31 x0_32 x0_36 x0_39 x0_40 x0_44 x0_49 x0_51 x0_53 (3 : Int32) g12l5 x0_56 x0_57 x0_58 x0_59 x0_60 x0_61 x0_62 y1 y2 y3 y4 y5 y6 y7 y8 y9 y10 y11 y12 y13 y14 y15 y16 y17 y18 y19 y20 y21 y22 y23 y24 y25) H := hP
                      have hD : va_D A (wS50 cI cJ cZ cB p0 p1 p2 p3 p4 p5 p6 p7 p8 p9 p10 p11 p12 p13 p14 p15 p16 p17 p18 p19 p20 p21 p22 p23 p24 p25 x0_4 x0_5 x0_6 x0_7 x0_8 x0_12 x0_13 x0_14 x0_15 x0_16 x0_17 x0_18 x0_22 x0_23 x0_24 g12x0_25 x0_26 x0_27 x0_28 x0_29 x0_30 x0_31 x0_32 x0_36 x0_39 x0_40 x0_44 x0_49 x0_51 x0_53 (3 : Int32) g12l5 x0_56 x0_57 x0_58 x0_59 x0_60 x0_61 x0_62 y1 y2 y3 y4 y5 y6 y7 y8 y9 y10 y11 y12 y13 y14 y15 y16 y17 y18 y19 y20 y21 y22 y23 y24 y25) := hD
                      refine lv_aload_n hx hb d_X_readName_258 rfl (lv_at hl 6 rfl) ?_
                      refine lv_aload_n hx hb d_X_readName_259 rfl (lv_at hl 6 rfl) ?_
                      refine va_get (D := D) (ci := 7) (v := .ref p10) (C := "SignMachineModel") (T := F_X) (N := 64) hx hb hk fi_X hown hK.1 hP 0 rfl rfl 21 (by decide) (hk _ k_1142) (fun _ h9 => h9) rfl d_X_readName_260 ?_
                      refine lv_iload_n hx hb d_X_readName_263 rfl (lv_at hl 5 rfl) ?_
                      refine va_iald hx hb hK.1 hP 10 0 rfl rfl (by rw [vp_in_iff]; omega) d_X_readName_264 ?_
                      refine lv_topi (fun v89 hv89 => ?_)
                      have Tv89 : v89.toInt = (y10 (x0_25).toNatClampNeg).toInt := congrArg _ hv89
                      refine lv_bipush (v := 48) hx hb d_X_readName_265 (by decide) ?_
                      refine lv_isub hx hb d_X_readName_267 ?_
                      refine lv_topi (fun v90 hv90 => ?_)
                      refine lv_i2l (v := (v90 : Int32).toInt64) hx hb d_X_readName_268 rfl ?_
                      refine lv_topl (fun v91 hv91 => ?_)
                      obtain ⟨ev91, Rv91⟩ : v91.toInt = v90.toInt ∧ ((-2147483648) ≤ v91.toInt ∧ v91.toInt ≤ 2147483647) := il3 hv91 (fr3 v90)
                      refine va_put (D := D) (ci := 7) (v := .long v91) (ty := .long) (C := "SignMachineModel") (T := F_X) (N := 64) hx hb hk fi_X ft_X ft_X_ok fn_X hown hK.1 hP hD hS 0 rfl rfl 55 (by decide) (hk _ k_1176) (fun _ h9 => h9) rfl (by decide +kernel) rfl rfl (Nat.le_of_ble_eq_true rfl) d_X_readName_269 (fun H locs hP hD hS => ?_)
                      have hP : va_P D classes (wS50 cI cJ cZ cB p0 p1 p2 p3 p4 p5 p6 p7 p8 p9 p10 p11 p12 p13 p14 p15 p16 p17 p18 p19 p20 p21 p22 p23 p24 p25 x0_4 x0_5 x0_6 x0_7 x0_8 x0_12 x0_13 x0_14 x0_15 x0_16 x0_17 x0_18 x0_22 x0_23 x0_24 g12x0_25 x0_26 x0_27 x0_28 x0_29 x0_30 x0_31 x0_32 x0_36 x0_39 x0_40 x0_44 x0_49 x0_51 x0_53 (3 : Int32) v91 x0_56 x0_57 x0_58 x0_59 x0_60 x0_61 x0_62 y1 y2 y3 y4 y5 y6 y7 y8 y9 y10 y11 y12 y13 y14 y15 y16 y17 y18 y19 y20 y21 y22 y23 y24 y25) H := hP
                      have hD : va_D A (wS50 cI cJ cZ cB p0 p1 p2 p3 p4 p5 p6 p7 p8 p9 p10 p11 p12 p13 p14 p15 p16 p17 p18 p19 p20 p21 p22 p23 p24 p25 x0_4 x0_5 x0_6 x0_7 x0_8 x0_12 x0_13 x0_14 x0_15 x0_16 x0_17 x0_18 x0_22 x0_23 x0_24 g12x0_25 x0_26 x0_27 x0_28 x0_29 x0_30 x0_31 x0_32 x0_36 x0_39 x0_40 x0_44 x0_49 x0_51 x0_53 (3 : Int32) v91 x0_56 x0_57 x0_58 x0_59 x0_60 x0_61 x0_62 y1 y2 y3 y4 y5 y6 y7 y8 y9 y10 y11 y12 y13 y14 y15 y16 y17 y18 y19 y20 y21 y22 y23 y24 y25) := hD
                      refine lv_aload_n hx hb d_X_readName_272 rfl (lv_at hl 6 rfl) ?_
                      refine lv_iload hx hb d_X_readName_273 (lv_at hl 0 rfl) ?_
                      refine va_put (D := D) (ci := 7) (v := .int v79) (ty := .int) (C := "SignMachineModel") (T := F_X) (N := 64) hx hb hk fi_X ft_X ft_X_ok fn_X hown hK.1 hP hD hS 0 rfl rfl 56 (by decide) (hk _ k_1177) (fun _ h9 => h9) rfl (by decide +kernel) rfl rfl (Nat.le_of_ble_eq_true rfl) d_X_readName_275 (fun H locs hP hD hS => ?_)
                      have hP : va_P D classes (wS50 cI cJ cZ cB p0 p1 p2 p3 p4 p5 p6 p7 p8 p9 p10 p11 p12 p13 p14 p15 p16 p17 p18 p19 p20 p21 p22 p23 p24 p25 x0_4 x0_5 x0_6 x0_7 x0_8 x0_12 x0_13 x0_14 x0_15 x0_16 x0_17 x0_18 x0_22 x0_23 x0_24 g12x0_25 x0_26 x0_27 x0_28 x0_29 x0_30 x0_31 x0_32 x0_36 x0_39 x0_40 x0_44 x0_49 x0_51 x0_53 (3 : Int32) v91 v79 x0_57 x0_58 x0_59 x0_60 x0_61 x0_62 y1 y2 y3 y4 y5 y6 y7 y8 y9 y10 y11 y12 y13 y14 y15 y16 y17 y18 y19 y20 y21 y22 y23 y24 y25) H := hP
                      have hD : va_D A (wS50 cI cJ cZ cB p0 p1 p2 p3 p4 p5 p6 p7 p8 p9 p10 p11 p12 p13 p14 p15 p16 p17 p18 p19 p20 p21 p22 p23 p24 p25 x0_4 x0_5 x0_6 x0_7 x0_8 x0_12 x0_13 x0_14 x0_15 x0_16 x0_17 x0_18 x0_22 x0_23 x0_24 g12x0_25 x0_26 x0_27 x0_28 x0_29 x0_30 x0_31 x0_32 x0_36 x0_39 x0_40 x0_44 x0_49 x0_51 x0_53 (3 : Int32) v91 v79 x0_57 x0_58 x0_59 x0_60 x0_61 x0_62 y1 y2 y3 y4 y5 y6 y7 y8 y9 y10 y11 y12 y13 y14 y15 y16 y17 y18 y19 y20 y21 y22 y23 y24 y25) := hD
                      exact W.vret hx hb hr (fun t ht hW => ⟨⟨(), rfl, trivial, ⟨g12x0_25, x0_26, (3 : Int32), v91, v79, Rg12x0_25, Rx0_26, (by decide), (by omega), (by omega), (by omega), (by omega), by show va_P D classes _ t.heap; rw [ht]; exact hP, hD⟩⟩, hS.F ht⟩) hS.2.2 d_X_readName_278
                    · have gc87 : v79.toInt ≠ 72 := c_ne c87
                      refine lv_iload hx hb d_X_readName_239 (lv_at hl 0 rfl) ?_
                      refine lv_bipush (v := 66) hx hb d_X_readName_241 (by decide) ?_
                      refine lv_icmp_eq (tgt := 253) hx hb d_X_readName_243 (by decide) (fun c92 => ?_) (fun c92 => ?_)
                      · have gc92 : v79.toInt = 66 := c_eq c92
                        have R93 : 66 ≤ v79.toInt ∧ v79.toInt ≤ 66 := by omega
                        refine lv_aload_n hx hb d_X_readName_253 rfl (lv_at hl 6 rfl) ?_
                        refine lv_iconst (v := 3) hx hb d_X_readName_254 (by decide) ?_
                        refine va_put (D := D) (ci := 7) (v := .int (3 : Int32)) (ty := .int) (C := "SignMachineModel") (T := F_X) (N := 64) hx hb hk fi_X ft_X ft_X_ok fn_X hown hK.1 hP hD hS 0 rfl rfl 54 (by decide) (hk _ k_1175) (fun _ h9 => h9) rfl (by decide +kernel) rfl rfl (Nat.le_of_ble_eq_true rfl) d_X_readName_255 (fun H locs hP hD hS => ?_)
                        have hP : va_P D classes (wS50 cI cJ cZ cB p0 p1 p2 p3 p4 p5 p6 p7 p8 p9 p10 p11 p12 p13 p14 p15 p16 p17 p18 p19 p20 p21 p22 p23 p24 p25 x0_4 x0_5 x0_6 x0_7 x0_8 x0_12 x0_13 x0_14 x0_15 x0_16 x0_17 x0_18 x0_22 x0_23 x0_24 g12x0_25 x0_26 x0_27 x0_28 x0_29 x0_30 x0_31 x0_32 x0_36 x0_39 x0_40 x0_44 x0_49 x0_51 x0_53 (3 : Int32) g12l5 x0_56 x0_57 x0_58 x0_59 x0_60 x0_61 x0_62 y1 y2 y3 y4 y5 y6 y7 y8 y9 y10 y11 y12 y13 y14 y15 y16 y17 y18 y19 y20 y21 y22 y23 y24 y25) H := hP
                        have hD : va_D A (wS50 cI cJ cZ cB p0 p1 p2 p3 p4 p5 p6 p7 p8 p9 p10 p11 p12 p13 p14 p15 p16 p17 p18 p19 p20 p21 p22 p23 p24 p25 x0_4 x0_5 x0_6 x0_7 x0_8 x0_12 x0_13 x0_14 x0_15 x0_16 x0_17 x0_18 x0_22 x0_23 x0_24 g12x0_25 x0_26 x0_27 x0_28 x0_29 x0_30 x0_31 x0_32 x0_36 x0_39 x0_40 x0_44 x0_49 x0_51 x0_53 (3 : Int32) g12l5 x0_56 x0_57 x0_58 x0_59 x0_60 x0_61 x0_62 y1 y2 y3 y4 y5 y6 y7 y8 y9 y10 y11 y12 y13 y14 y15 y16 y17 y18 y19 y20 y21 y22 y23 y24 y25) := hD
                        refine lv_aload_n hx hb d_X_readName_258 rfl (lv_at hl 6 rfl) ?_
                        refine lv_aload_n hx hb d_X_readName_259 rfl (lv_at hl 6 rfl) ?_
                        refine va_get (D := D) (ci := 7) (v := .ref p10) (C := "SignMachineModel") (T := F_X) (N := 64) hx hb hk fi_X hown hK.1 hP 0 rfl rfl 21 (by decide) (hk _ k_1142) (fun _ h9 => h9) rfl d_X_readName_260 ?_
                        refine lv_iload_n hx hb d_X_readName_263 rfl (lv_at hl 5 rfl) ?_
                        refine va_iald hx hb hK.1 hP 10 0 rfl rfl (by rw [vp_in_iff]; omega) d_X_readName_264 ?_
                        refine lv_topi (fun v94 hv94 => ?_)
                        have Tv94 : v94.toInt = (y10 (x0_25).toNatClampNeg).toInt := congrArg _ hv94
                        refine lv_bipush (v := 48) hx hb d_X_readName_265 (by decide) ?_
                        refine lv_isub hx hb d_X_readName_267 ?_
                        refine lv_topi (fun v95 hv95 => ?_)
                        refine lv_i2l (v := (v95 : Int32).toInt64) hx hb d_X_readName_268 rfl ?_
                        refine lv_topl (fun v96 hv96 => ?_)
                        obtain ⟨ev96, Rv96⟩ : v96.toInt = v95.toInt ∧ ((-2147483648) ≤ v96.toInt ∧ v96.toInt ≤ 2147483647) := il3 hv96 (fr3 v95)
                        refine va_put (D := D) (ci := 7) (v := .long v96) (ty := .long) (C := "SignMachineModel") (T := F_X) (N := 64) hx hb hk fi_X ft_X ft_X_ok fn_X hown hK.1 hP hD hS 0 rfl rfl 55 (by decide) (hk _ k_1176) (fun _ h9 => h9) rfl (by decide +kernel) rfl rfl (Nat.le_of_ble_eq_true rfl) d_X_readName_269 (fun H locs hP hD hS => ?_)
                        have hP : va_P D classes (wS50 cI cJ cZ cB p0 p1 p2 p3 p4 p5 p6 p7 p8 p9 p10 p11 p12 p13 p14 p15 p16 p17 p18 p19 p20 p21 p22 p23 p24 p25 x0_4 x0_5 x0_6 x0_7 x0_8 x0_12 x0_13 x0_14 x0_15 x0_16 x0_17 x0_18 x0_22 x0_23 x0_24 g12x0_25 x0_26 x0_27 x0_28 x0_29 x0_30 x0_31 x0_32 x0_36 x0_39 x0_40 x0_44 x0_49 x0_51 x0_53 (3 : Int32) v96 x0_56 x0_57 x0_58 x0_59 x0_60 x0_61 x0_62 y1 y2 y3 y4 y5 y6 y7 y8 y9 y10 y11 y12 y13 y14 y15 y16 y17 y18 y19 y20 y21 y22 y23 y24 y25) H := hP
                        have hD : va_D A (wS50 cI cJ cZ cB p0 p1 p2 p3 p4 p5 p6 p7 p8 p9 p10 p11 p12 p13 p14 p15 p16 p17 p18 p19 p20 p21 p22 p23 p24 p25 x0_4 x0_5 x0_6 x0_7 x0_8 x0_12 x0_13 x0_14 x0_15 x0_16 x0_17 x0_18 x0_22 x0_23 x0_24 g12x0_25 x0_26 x0_27 x0_28 x0_29 x0_30 x0_31 x0_32 x0_36 x0_39 x0_40 x0_44 x0_49 x0_51 x0_53 (3 : Int32) v96 x0_56 x0_57 x0_58 x0_59 x0_60 x0_61 x0_62 y1 y2 y3 y4 y5 y6 y7 y8 y9 y10 y11 y12 y13 y14 y15 y16 y17 y18 y19 y20 y21 y22 y23 y24 y25) := hD
                        refine lv_aload_n hx hb d_X_readName_272 rfl (lv_at hl 6 rfl) ?_
                        refine lv_iload hx hb d_X_readName_273 (lv_at hl 0 rfl) ?_
                        refine va_put (D := D) (ci := 7) (v := .int v79) (ty := .int) (C := "SignMachineModel") (T := F_X) (N := 64) hx hb hk fi_X ft_X ft_X_ok fn_X hown hK.1 hP hD hS 0 rfl rfl 56 (by decide) (hk _ k_1177) (fun _ h9 => h9) rfl (by decide +kernel) rfl rfl (Nat.le_of_ble_eq_true rfl) d_X_readName_275 (fun H locs hP hD hS => ?_)
                        have hP : va_P D classes (wS50 cI cJ cZ cB p0 p1 p2 p3 p4 p5 p6 p7 p8 p9 p10 p11 p12 p13 p14 p15 p16 p17 p18 p19 p20 p21 p22 p23 p24 p25 x0_4 x0_5 x0_6 x0_7 x0_8 x0_12 x0_13 x0_14 x0_15 x0_16 x0_17 x0_18 x0_22 x0_23 x0_24 g12x0_25 x0_26 x0_27 x0_28 x0_29 x0_30 x0_31 x0_32 x0_36 x0_39 x0_40 x0_44 x0_49 x0_51 x0_53 (3 : Int32) v96 v79 x0_57 x0_58 x0_59 x0_60 x0_61 x0_62 y1 y2 y3 y4 y5 y6 y7 y8 y9 y10 y11 y12 y13 y14 y15 y16 y17 y18 y19 y20 y21 y22 y23 y24 y25) H := hP
                        have hD : va_D A (wS50 cI cJ cZ cB p0 p1 p2 p3 p4 p5 p6 p7 p8 p9 p10 p11 p12 p13 p14 p15 p16 p17 p18 p19 p20 p21 p22 p23 p24 p25 x0_4 x0_5 x0_6 x0_7 x0_8 x0_12 x0_13 x0_14 x0_15 x0_16 x0_17 x0_18 x0_22 x0_23 x0_24 g12x0_25 x0_26 x0_27 x0_28 x0_29 x0_30 x0_31 x0_32 x0_36 x0_39 x0_40 x0_44 x0_49 x0_51 x0_53 (3 : Int32) v96 v79 x0_57 x0_58 x0_59 x0_60 x0_61 x0_62 y1 y2 y3 y4 y5 y6 y7 y8 y9 y10 y11 y12 y13 y14 y15 y16 y17 y18 y19 y20 y21 y22 y23 y24 y25) := hD
                        exact W.vret hx hb hr (fun t ht hW => ⟨⟨(), rfl, trivial, ⟨g12x0_25, x0_26, (3 : Int32), v96, v79, Rg12x0_25, Rx0_26, (by decide), (by omega), (by omega), (by omega), (by omega), by show va_P D classes _ t.heap; rw [ht]; exact hP, hD⟩⟩, hS.F ht⟩) hS.2.2 d_X_readName_278
                      · have gc92 : v79.toInt ≠ 66 := c_ne c92
                        refine lv_iload hx hb d_X_readName_246 (lv_at hl 0 rfl) ?_
                        refine lv_bipush (v := 70) hx hb d_X_readName_248 (by decide) ?_
                        refine lv_icmp_ne (tgt := 278) hx hb d_X_readName_250 (by decide) (fun c97 => ?_) (fun c97 => ?_)
                        · have gc97 : v79.toInt ≠ 70 := c_ne c97
                          exact W.vret hx hb hr (fun t ht hW => ⟨⟨(), rfl, trivial, ⟨g12x0_25, x0_26, (2 : Int32), g12l5, x0_56, Rg12x0_25, Rx0_26, (by decide), (by omega), (by omega), (by omega), (by omega), by show va_P D classes _ t.heap; rw [ht]; exact hP, hD⟩⟩, hS.F ht⟩) hS.2.2 d_X_readName_278
                        · have gc97 : v79.toInt = 70 := c_eq c97
                          have R98 : 70 ≤ v79.toInt ∧ v79.toInt ≤ 70 := by omega
                          refine lv_aload_n hx hb d_X_readName_253 rfl (lv_at hl 6 rfl) ?_
                          refine lv_iconst (v := 3) hx hb d_X_readName_254 (by decide) ?_
                          refine va_put (D := D) (ci := 7) (v := .int (3 : Int32)) (ty := .int) (C := "SignMachineModel") (T := F_X) (N := 64) hx hb hk fi_X ft_X ft_X_ok fn_X hown hK.1 hP hD hS 0 rfl rfl 54 (by decide) (hk _ k_1175) (fun _ h9 => h9) rfl (by decide +kernel) rfl rfl (Nat.le_of_ble_eq_true rfl) d_X_readName_255 (fun H locs hP hD hS => ?_)
                          have hP : va_P D classes (wS50 cI cJ cZ cB p0 p1 p2 p3 p4 p5 p6 p7 p8 p9 p10 p11 p12 p13 p14 p15 p16 p17 p18 p19 p20 p21 p22 p23 p24 p25 x0_4 x0_5 x0_6 x0_7 x0_8 x0_12 x0_13 x0_14 x0_15 x0_16 x0_17 x0_18 x0_22 x0_23 x0_24 g12x0_25 x0_26 x0_27 x0_28 x0_29 x0_30 x0_31 x0_32 x0_36 x0_39 x0_40 x0_44 x0_49 x0_51 x0_53 (3 : Int32) g12l5 x0_56 x0_57 x0_58 x0_59 x0_60 x0_61 x0_62 y1 y2 y3 y4 y5 y6 y7 y8 y9 y10 y11 y12 y13 y14 y15 y16 y17 y18 y19 y20 y21 y22 y23 y24 y25) H := hP
                          have hD : va_D A (wS50 cI cJ cZ cB p0 p1 p2 p3 p4 p5 p6 p7 p8 p9 p10 p11 p12 p13 p14 p15 p16 p17 p18 p19 p20 p21 p22 p23 p24 p25 x0_4 x0_5 x0_6 x0_7 x0_8 x0_12 x0_13 x0_14 x0_15 x0_16 x0_17 x0_18 x0_22 x0_23 x0_24 g12x0_25 x0_26 x0_27 x0_28 x0_29 x0_30 x0_31 x0_32 x0_36 x0_39 x0_40 x0_44 x0_49 x0_51 x0_53 (3 : Int32) g12l5 x0_56 x0_57 x0_58 x0_59 x0_60 x0_61 x0_62 y1 y2 y3 y4 y5 y6 y7 y8 y9 y10 y11 y12 y13 y14 y15 y16 y17 y18 y19 y20 y21 y22 y23 y24 y25) := hD
                          refine lv_aload_n hx hb d_X_readName_258 rfl (lv_at hl 6 rfl) ?_
                          refine lv_aload_n hx hb d_X_readName_259 rfl (lv_at hl 6 rfl) ?_
                          refine va_get (D := D) (ci := 7) (v := .ref p10) (C := "SignMachineModel") (T := F_X) (N := 64) hx hb hk fi_X hown hK.1 hP 0 rfl rfl 21 (by decide) (hk _ k_1142) (fun _ h9 => h9) rfl d_X_readName_260 ?_
                          refine lv_iload_n hx hb d_X_readName_263 rfl (lv_at hl 5 rfl) ?_
                          refine va_iald hx hb hK.1 hP 10 0 rfl rfl (by rw [vp_in_iff]; omega) d_X_readName_264 ?_
                          refine lv_topi (fun v99 hv99 => ?_)
                          have Tv99 : v99.toInt = (y10 (x0_25).toNatClampNeg).toInt := congrArg _ hv99
                          refine lv_bipush (v := 48) hx hb d_X_readName_265 (by decide) ?_
                          refine lv_isub hx hb d_X_readName_267 ?_
                          refine lv_topi (fun v100 hv100 => ?_)
                          refine lv_i2l (v := (v100 : Int32).toInt64) hx hb d_X_readName_268 rfl ?_
                          refine lv_topl (fun v101 hv101 => ?_)
                          obtain ⟨ev101, Rv101⟩ : v101.toInt = v100.toInt ∧ ((-2147483648) ≤ v101.toInt ∧ v101.toInt ≤ 2147483647) := il3 hv101 (fr3 v100)
                          refine va_put (D := D) (ci := 7) (v := .long v101) (ty := .long) (C := "SignMachineModel") (T := F_X) (N := 64) hx hb hk fi_X ft_X ft_X_ok fn_X hown hK.1 hP hD hS 0 rfl rfl 55 (by decide) (hk _ k_1176) (fun _ h9 => h9) rfl (by decide +kernel) rfl rfl (Nat.le_of_ble_eq_true rfl) d_X_readName_269 (fun H locs hP hD hS => ?_)
                          have hP : va_P D classes (wS50 cI cJ cZ cB p0 p1 p2 p3 p4 p5 p6 p7 p8 p9 p10 p11 p12 p13 p14 p15 p16 p17 p18 p19 p20 p21 p22 p23 p24 p25 x0_4 x0_5 x0_6 x0_7 x0_8 x0_12 x0_13 x0_14 x0_15 x0_16 x0_17 x0_18 x0_22 x0_23 x0_24 g12x0_25 x0_26 x0_27 x0_28 x0_29 x0_30 x0_31 x0_32 x0_36 x0_39 x0_40 x0_44 x0_49 x0_51 x0_53 (3 : Int32) v101 x0_56 x0_57 x0_58 x0_59 x0_60 x0_61 x0_62 y1 y2 y3 y4 y5 y6 y7 y8 y9 y10 y11 y12 y13 y14 y15 y16 y17 y18 y19 y20 y21 y22 y23 y24 y25) H := hP
                          have hD : va_D A (wS50 cI cJ cZ cB p0 p1 p2 p3 p4 p5 p6 p7 p8 p9 p10 p11 p12 p13 p14 p15 p16 p17 p18 p19 p20 p21 p22 p23 p24 p25 x0_4 x0_5 x0_6 x0_7 x0_8 x0_12 x0_13 x0_14 x0_15 x0_16 x0_17 x0_18 x0_22 x0_23 x0_24 g12x0_25 x0_26 x0_27 x0_28 x0_29 x0_30 x0_31 x0_32 x0_36 x0_39 x0_40 x0_44 x0_49 x0_51 x0_53 (3 : Int32) v101 x0_56 x0_57 x0_58 x0_59 x0_60 x0_61 x0_62 y1 y2 y3 y4 y5 y6 y7 y8 y9 y10 y11 y12 y13 y14 y15 y16 y17 y18 y19 y20 y21 y22 y23 y24 y25) := hD
                          refine lv_aload_n hx hb d_X_readName_272 rfl (lv_at hl 6 rfl) ?_
                          refine lv_iload hx hb d_X_readName_273 (lv_at hl 0 rfl) ?_
                          refine va_put (D := D) (ci := 7) (v := .int v79) (ty := .int) (C := "SignMachineModel") (T := F_X) (N := 64) hx hb hk fi_X ft_X ft_X_ok fn_X hown hK.1 hP hD hS 0 rfl rfl 56 (by decide) (hk _ k_1177) (fun _ h9 => h9) rfl (by decide +kernel) rfl rfl (Nat.le_of_ble_eq_true rfl) d_X_readName_275 (fun H locs hP hD hS => ?_)
                          have hP : va_P D classes (wS50 cI cJ cZ cB p0 p1 p2 p3 p4 p5 p6 p7 p8 p9 p10 p11 p12 p13 p14 p15 p16 p17 p18 p19 p20 p21 p22 p23 p24 p25 x0_4 x0_5 x0_6 x0_7 x0_8 x0_12 x0_13 x0_14 x0_15 x0_16 x0_17 x0_18 x0_22 x0_23 x0_24 g12x0_25 x0_26 x0_27 x0_28 x0_29 x0_30 x0_31 x0_32 x0_36 x0_39 x0_40 x0_44 x0_49 x0_51 x0_53 (3 : Int32) v101 v79 x0_57 x0_58 x0_59 x0_60 x0_61 x0_62 y1 y2 y3 y4 y5 y6 y7 y8 y9 y10 y11 y12 y13 y14 y15 y16 y17 y18 y19 y20 y21 y22 y23 y24 y25) H := hP
                          have hD : va_D A (wS50 cI cJ cZ cB p0 p1 p2 p3 p4 p5 p6 p7 p8 p9 p10 p11 p12 p13 p14 p15 p16 p17 p18 p19 p20 p21 p22 p23 p24 p25 x0_4 x0_5 x0_6 x0_7 x0_8 x0_12 x0_13 x0_14 x0_15 x0_16 x0_17 x0_18 x0_22 x0_23 x0_24 g12x0_25 x0_26 x0_27 x0_28 x0_29 x0_30 x0_31 x0_32 x0_36 x0_39 x0_40 x0_44 x0_49 x0_51 x0_53 (3 : Int32) v101 v79 x0_57 x0_58 x0_59 x0_60 x0_61 x0_62 y1 y2 y3 y4 y5 y6 y7 y8 y9 y10 y11 y12 y13 y14 y15 y16 y17 y18 y19 y20 y21 y22 y23 y24 y25) := hD
                          exact W.vret hx hb hr (fun t ht hW => ⟨⟨(), rfl, trivial, ⟨g12x0_25, x0_26, (3 : Int32), v101, v79, Rg12x0_25, Rx0_26, (by decide), (by omega), (by omega), (by omega), (by omega), by show va_P D classes _ t.heap; rw [ht]; exact hP, hD⟩⟩, hS.F ht⟩) hS.2.2 d_X_readName_278
              · have gc76 : 8 < v36.toInt := c_nle c76
                have R102 : 9 ≤ v36.toInt ∧ v36.toInt ≤ 4000 := by omega
                refine lv_aload_n hx hb d_X_readName_196 rfl (lv_at hl 5 rfl) ?_
                refine lv_iconst (v := 1) hx hb d_X_readName_197 (by decide) ?_
                refine kn_v (va_runV (C := "SignMachineModel") (As := [.int (1 : Int32)]) (rest := []) ⟨hx, hb, hml, hown, hk⟩ (c_X_bad l D cI cJ cZ cB p0 p1 p2 p3 p4 p5 p6 p7 p8 p9 p10 p11 p12 p13 p14 p15 p16 p17 p18 p19 p20 p21 p22 p23 p24 p25 H.size x0_4 x0_5 x0_6 x0_7 x0_8 x0_12 x0_13 x0_14 x0_15 x0_16 x0_17 x0_18 x0_22 x0_23 x0_24 g12x0_25 x0_26 x0_27 x0_28 x0_29 x0_30 x0_31 x0_32 x0_36 x0_39 x0_40 x0_44 x0_49 x0_51 x0_53 (2 : Int32) g12l5 x0_56 x0_57 x0_58 x0_59 x0_60 x0_61 x0_62 y1 y2 y3 y4 y5 y6 y7 y8 y9 y10 y11 y12 y13 y14 y15 y16 y17 y18 y19 y20 y21 y22 y23 y24 y25 (1 : Int32) Rx0_26 (by decide)) (v_X_bad hk k_1552 ⟨Nat.le_of_ble_eq_true rfl, Nat.le_of_ble_eq_true rfl⟩) (pM_v hK hP hD (ci := 7) (q0 := 0) rfl rfl rfl) rfl rfl hl.1 rfl (lv_room (Nat.le_of_ble_eq_true rfl)) d_X_readName_198 ⟨Nat.le_of_ble_eq_true rfl, Nat.le_of_ble_eq_true rfl⟩) hS hA hD (fun u t H locs ht hB hFr hS => ?_)
                obtain ⟨x0_26z103, Rx0_26z103, F0z103, hP, hD⟩ := hB
                have F0z103 : 1 ≤ x0_26z103.toInt := F0z103
                rw [ht] at hP
                have hD := dwk hD hFr
                clear ht hFr
                have hP : va_P D classes (wS50 cI cJ cZ cB p0 p1 p2 p3 p4 p5 p6 p7 p8 p9 p10 p11 p12 p13 p14 p15 p16 p17 p18 p19 p20 p21 p22 p23 p24 p25 x0_4 x0_5 x0_6 x0_7 x0_8 x0_12 x0_13 x0_14 x0_15 x0_16 x0_17 x0_18 x0_22 x0_23 x0_24 g12x0_25 x0_26z103 x0_27 x0_28 x0_29 x0_30 x0_31 x0_32 x0_36 x0_39 x0_40 x0_44 x0_49 x0_51 x0_53 (2 : Int32) g12l5 x0_56 x0_57 x0_58 x0_59 x0_60 x0_61 x0_62 y1 y2 y3 y4 y5 y6 y7 y8 y9 y10 y11 y12 y13 y14 y15 y16 y17 y18 y19 y20 y21 y22 y23 y24 y25) H := hP
                have hD : va_D A (wS50 cI cJ cZ cB p0 p1 p2 p3 p4 p5 p6 p7 p8 p9 p10 p11 p12 p13 p14 p15 p16 p17 p18 p19 p20 p21 p22 p23 p24 p25 x0_4 x0_5 x0_6 x0_7 x0_8 x0_12 x0_13 x0_14 x0_15 x0_16 x0_17 x0_18 x0_22 x0_23 x0_24 g12x0_25 x0_26z103 x0_27 x0_28 x0_29 x0_30 x0_31 x0_32 x0_36 x0_39 x0_40 x0_44 x0_49 x0_51 x0_53 (2 : Int32) g12l5 x0_56 x0_57 x0_58 x0_59 x0_60 x0_61 x0_62 y1 y2 y3 y4 y5 y6 y7 y8 y9 y10 y11 y12 y13 y14 y15 y16 y17 y18 y19 y20 y21 y22 y23 y24 y25) := hD
                refine lv_aload_n hx hb d_X_readName_201 rfl (lv_at hl 5 rfl) ?_
                refine va_get (D := D) (ci := 7) (v := .ref p10) (C := "SignMachineModel") (T := F_X) (N := 64) hx hb hk fi_X hown hK.1 hP 0 rfl rfl 21 (by decide) (hk _ k_1142) (fun _ h9 => h9) rfl d_X_readName_202 ?_
                refine lv_aload_n hx hb d_X_readName_205 rfl (lv_at hl 5 rfl) ?_
                refine va_get (D := D) (ci := 7) (v := .int g12x0_25) (C := "SignMachineModel") (T := F_X) (N := 64) hx hb hk fi_X hown hK.1 hP 0 rfl rfl 25 (by decide) (hk _ k_1146) (fun _ h9 => h9) rfl d_X_readName_206 ?_
                refine lv_iconst (v := 1) hx hb d_X_readName_209 (by decide) ?_
                refine lv_isub hx hb d_X_readName_210 ?_
                refine lv_topi (fun v104 hv104 => ?_)
                obtain ⟨ev104, Rv104⟩ : v104.toInt = g12x0_25.toInt - 1 ∧ ((-1) ≤ v104.toInt ∧ v104.toInt ≤ 3999) := sb3 hv104 Rg12x0_25 (by decide) (by decide) (by decide) (by decide) (by decide)
                refine va_iald hx hb hK.1 hP 10 0 rfl rfl (by rw [vp_in_iff]; omega) d_X_readName_211 ?_
                refine lv_topi (fun v105 hv105 => ?_)
                have Tv105 : v105.toInt = (y10 (v104).toNatClampNeg).toInt := congrArg _ hv105
                refine lv_istore (lv' := [(8, .int v105), (7, .int v36), (5, .long g12l5), (3, .long g12l3), (2, .int g12l2), (1, .int x0_25), (0, .ref p0)]) hx hb d_X_readName_212 hl (by decide) rfl (fun ls hl => ?_)
                refine lv_iload hx hb d_X_readName_214 (lv_at hl 1 rfl) ?_
                refine lv_iconst (v := 2) hx hb d_X_readName_216 (by decide) ?_
                refine lv_icmp_ne (tgt := 278) hx hb d_X_readName_217 (by decide) (fun c106 => ?_) (fun c106 => absurd c106 (show ¬ v36 = (2 : Int32) from (fun q => by have := c_eq q; omega)))
                exact W.vret hx hb hr (fun t ht hW => ⟨⟨(), rfl, trivial, ⟨g12x0_25, x0_26z103, (2 : Int32), g12l5, x0_56, Rg12x0_25, Rx0_26z103, (by decide), (by omega), (by omega), (by omega), (by omega), by show va_P D classes _ t.heap; rw [ht]; exact hP, hD⟩⟩, hS.F ht⟩) hS.2.2 d_X_readName_278
          · have gc37 : v36.toInt = 0 := c_eq c37
            have R107 : 0 ≤ v36.toInt ∧ v36.toInt ≤ 0 := by omega
            refine lv_aload_n hx hb d_X_readName_138 rfl (lv_at hl 5 rfl) ?_
            refine lv_iconst (v := 1) hx hb d_X_readName_139 (by decide) ?_
            refine kn_v (va_runV (C := "SignMachineModel") (As := [.int (1 : Int32)]) (rest := []) ⟨hx, hb, hml, hown, hk⟩ (c_X_bad l D cI cJ cZ cB p0 p1 p2 p3 p4 p5 p6 p7 p8 p9 p10 p11 p12 p13 p14 p15 p16 p17 p18 p19 p20 p21 p22 p23 p24 p25 H.size x0_4 x0_5 x0_6 x0_7 x0_8 x0_12 x0_13 x0_14 x0_15 x0_16 x0_17 x0_18 x0_22 x0_23 x0_24 g12x0_25 x0_26 x0_27 x0_28 x0_29 x0_30 x0_31 x0_32 x0_36 x0_39 x0_40 x0_44 x0_49 x0_51 x0_53 x0_54 x0_55 x0_56 x0_57 x0_58 x0_59 x0_60 x0_61 x0_62 y1 y2 y3 y4 y5 y6 y7 y8 y9 y10 y11 y12 y13 y14 y15 y16 y17 y18 y19 y20 y21 y22 y23 y24 y25 (1 : Int32) Rx0_26 (by decide)) (v_X_bad hk k_1552 ⟨Nat.le_of_ble_eq_true rfl, Nat.le_of_ble_eq_true rfl⟩) (pM_v hK hP hD (ci := 7) (q0 := 0) rfl rfl rfl) rfl rfl hl.1 rfl (lv_room (Nat.le_of_ble_eq_true rfl)) d_X_readName_140 ⟨Nat.le_of_ble_eq_true rfl, Nat.le_of_ble_eq_true rfl⟩) hS hA hD (fun u t H locs ht hB hFr hS => ?_)
            obtain ⟨x0_26z108, Rx0_26z108, F0z108, hP, hD⟩ := hB
            have F0z108 : 1 ≤ x0_26z108.toInt := F0z108
            rw [ht] at hP
            have hD := dwk hD hFr
            clear ht hFr
            have hP : va_P D classes (wS50 cI cJ cZ cB p0 p1 p2 p3 p4 p5 p6 p7 p8 p9 p10 p11 p12 p13 p14 p15 p16 p17 p18 p19 p20 p21 p22 p23 p24 p25 x0_4 x0_5 x0_6 x0_7 x0_8 x0_12 x0_13 x0_14 x0_15 x0_16 x0_17 x0_18 x0_22 x0_23 x0_24 g12x0_25 x0_26z108 x0_27 x0_28 x0_29 x0_30 x0_31 x0_32 x0_36 x0_39 x0_40 x0_44 x0_49 x0_51 x0_53 x0_54 x0_55 x0_56 x0_57 x0_58 x0_59 x0_60 x0_61 x0_62 y1 y2 y3 y4 y5 y6 y7 y8 y9 y10 y11 y12 y13 y14 y15 y16 y17 y18 y19 y20 y21 y22 y23 y24 y25) H := hP
            have hD : va_D A (wS50 cI cJ cZ cB p0 p1 p2 p3 p4 p5 p6 p7 p8 p9 p10 p11 p12 p13 p14 p15 p16 p17 p18 p19 p20 p21 p22 p23 p24 p25 x0_4 x0_5 x0_6 x0_7 x0_8 x0_12 x0_13 x0_14 x0_15 x0_16 x0_17 x0_18 x0_22 x0_23 x0_24 g12x0_25 x0_26z108 x0_27 x0_28 x0_29 x0_30 x0_31 x0_32 x0_36 x0_39 x0_40 x0_44 x0_49 x0_51 x0_53 x0_54 x0_55 x0_56 x0_57 x0_58 x0_59 x0_60 x0_61 x0_62 y1 y2 y3 y4 y5 y6 y7 y8 y9 y10 y11 y12 y13 y14 y15 y16 y17 y18 y19 y20 y21 y22 y23 y24 y25) := hD
            refine lv_aload_n hx hb d_X_readName_143 rfl (lv_at hl 5 rfl) ?_
            refine lv_iconst (v := 0) hx hb d_X_readName_144 (by decide) ?_
            refine va_put (D := D) (ci := 7) (v := .int (0 : Int32)) (ty := .int) (C := "SignMachineModel") (T := F_X) (N := 64) hx hb hk fi_X ft_X ft_X_ok fn_X hown hK.1 hP hD hS 0 rfl rfl 54 (by decide) (hk _ k_1175) (fun _ h9 => h9) rfl (by decide +kernel) rfl rfl (Nat.le_of_ble_eq_true rfl) d_X_readName_145 (fun H locs hP hD hS => ?_)
            have hP : va_P D classes (wS50 cI cJ cZ cB p0 p1 p2 p3 p4 p5 p6 p7 p8 p9 p10 p11 p12 p13 p14 p15 p16 p17 p18 p19 p20 p21 p22 p23 p24 p25 x0_4 x0_5 x0_6 x0_7 x0_8 x0_12 x0_13 x0_14 x0_15 x0_16 x0_17 x0_18 x0_22 x0_23 x0_24 g12x0_25 x0_26z108 x0_27 x0_28 x0_29 x0_30 x0_31 x0_32 x0_36 x0_39 x0_40 x0_44 x0_49 x0_51 x0_53 (0 : Int32) x0_55 x0_56 x0_57 x0_58 x0_59 x0_60 x0_61 x0_62 y1 y2 y3 y4 y5 y6 y7 y8 y9 y10 y11 y12 y13 y14 y15 y16 y17 y18 y19 y20 y21 y22 y23 y24 y25) H := hP
            have hD : va_D A (wS50 cI cJ cZ cB p0 p1 p2 p3 p4 p5 p6 p7 p8 p9 p10 p11 p12 p13 p14 p15 p16 p17 p18 p19 p20 p21 p22 p23 p24 p25 x0_4 x0_5 x0_6 x0_7 x0_8 x0_12 x0_13 x0_14 x0_15 x0_16 x0_17 x0_18 x0_22 x0_23 x0_24 g12x0_25 x0_26z108 x0_27 x0_28 x0_29 x0_30 x0_31 x0_32 x0_36 x0_39 x0_40 x0_44 x0_49 x0_51 x0_53 (0 : Int32) x0_55 x0_56 x0_57 x0_58 x0_59 x0_60 x0_61 x0_62 y1 y2 y3 y4 y5 y6 y7 y8 y9 y10 y11 y12 y13 y14 y15 y16 y17 y18 y19 y20 y21 y22 y23 y24 y25) := hD
            exact W.vret hx hb hr (fun t ht hW => ⟨⟨(), rfl, trivial, ⟨g12x0_25, x0_26z108, (0 : Int32), x0_55, x0_56, Rg12x0_25, Rx0_26z108, (by decide), (by omega), (by omega), (by omega), (by omega), by show va_P D classes _ t.heap; rw [ht]; exact hP, hD⟩⟩, hS.F ht⟩) hS.2.2 d_X_readName_148
        · have gc34 : rz33.toInt ≠ 0 := c_ne c34
          have R109 : 1 ≤ rz33.toInt ∧ rz33.toInt ≤ 1 := by omega
          exact CUT32  H _ ls (show g12x0_25.toInt < x0_24.toInt from by omega) (show 48 ≤ (y10 (g12x0_25).toNatClampNeg).toInt ∧ (y10 (g12x0_25).toNatClampNeg).toInt ≤ 90 from by omega) hP hD hS (lv_sub hl [0, 1, 2, 3, 4] rfl)
  exact CUT12 ((x0_24.toInt - x0_25.toInt).toNat + 1) (0 : Int64) (0 : Int64) (0 : Int32) x0_25 s.heap _ ls (by omega) (by decide) Rx0_25 (show x0_25.toInt ≤ x0_24.toInt from by omega) (show x0_25.toInt ≤ x0_25.toInt from by omega) (show x0_25.toInt - x0_25.toInt = 0 → 0 ≤ 0 from by omega) (show x0_25.toInt - x0_25.toInt = 1 → 0 ≤ 42 from by omega) (show x0_25.toInt - x0_25.toInt = 2 → 0 ≤ 462 from by omega) (show x0_25.toInt - x0_25.toInt = 3 → 0 ≤ 4662 from by omega) (show x0_25.toInt - x0_25.toInt = 4 → 0 ≤ 46662 from by omega) (show x0_25.toInt - x0_25.toInt = 5 → 0 ≤ 466662 from by omega) (show x0_25.toInt - x0_25.toInt = 6 → 0 ≤ 4666662 from by omega) (show x0_25.toInt - x0_25.toInt = 7 → 0 ≤ 46666662 from by omega) (show x0_25.toInt - x0_25.toInt = 8 → 0 ≤ 466666662 from by omega) (show x0_25.toInt - x0_25.toInt = 9 → 0 ≤ 4666666662 from by omega) hP hD hS (lv_sub hl [0, 1, 2, 3, 4] rfl)
theorem v_X_readName {R : Room} {s : State} {args : Array Value} {own : String} {index : Nat} (hk : ∀ w ∈ tb, w.before args s = true) (hl : Cond.methodLink own index y_X_readName ∈ tb) (hR : 1 + 1 ≤ R.frames ∧ 8 + (9 + 11) + 21 ≤ R.locals) : CallW R s args own "SignMachineModel" index y_X_readName b_X_readName 9 none (.code y_X_readName b_X_readName 9 none :: tb) ({ frames := 1, cells := 0, slots := 0, locals := 21 }) 0 0 0 := mk_v 0 hk k_1544 hl k_1543 k_92 k_119 rfl rfl h_X_readName hR

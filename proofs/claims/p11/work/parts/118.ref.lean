set_option maxHeartbeats 8000000 in
set_option maxRecDepth 100000 in
theorem c_X_moveWords (l : Launch) (D : va_G) (cI cJ cZ cB : ClassId) (p0 p1 p2 p3 p4 p5 p6 p7 p8 p9 p10 p11 p12 p13 p14 p15 p16 p17 p18 p19 p20 p21 p22 p23 p24 p25 : Nat) (sz : Nat) (x0_4 : Int32) (x0_5 : Int32) (x0_6 : Int32) (x0_7 : Int32) (x0_8 : Int32) (x0_12 : Int32) (x0_13 : Int32) (x0_14 : Int32) (x0_15 : Int32) (x0_16 : Int32) (x0_17 : Int32) (x0_18 : Int32) (x0_22 : Int32) (x0_23 : Int32) (x0_24 : Int32) (x0_25 : Int32) (x0_26 : Int32) (x0_27 : Int32) (x0_28 : Int32) (x0_29 : Int32) (x0_30 : Int32) (x0_31 : Int32) (x0_32 : Int32) (x0_36 : Int32) (x0_39 : Int32) (x0_40 : Int64) (x0_44 : Int32) (x0_49 : Int32) (x0_51 : Int32) (x0_53 : Int32) (x0_54 : Int32) (x0_55 : Int64) (x0_56 : Int32) (x0_57 : Int32) (x0_58 : Int32) (x0_59 : Int32) (x0_60 : Int32) (x0_61 : Int32) (x0_62 : Int64) (y1 : Nat → Int32) (y2 : Nat → Int32) (y3 : Nat → Int32) (y4 : Nat → Int32) (y5 : Nat → Int32) (y6 : Nat → Int32) (y7 : Nat → Int32) (y8 : Nat → Int32) (y9 : Nat → Int32) (y10 : Nat → Int32) (y11 : Nat → Int64) (y12 : Nat → Int32) (y13 : Nat → Int64) (y14 : Nat → Int32) (y15 : Nat → Int64) (y16 : Nat → Int32) (y17 : Nat → Int32) (y18 : Nat → Int32) (y19 : Nat → Int32) (y20 : Nat → Int32) (y21 : Nat → Int32) (y22 : Nat → Int32) (y23 : Nat → Int32) (y24 : Nat → Int64) (y25 : Nat → Int64)  (Rx0_13 : 0 ≤ x0_13.toInt ∧ x0_13.toInt ≤ 63) (Rx0_15 : (-8190) ≤ x0_15.toInt ∧ x0_15.toInt ≤ 8190) (Ay1 : ∀ i : Nat, (0 ≤ (y1 i).toInt ∧ (y1 i).toInt ≤ 1)) (Ay2 : ∀ i : Nat, (0 ≤ (y2 i).toInt ∧ (y2 i).toInt ≤ 1073741823)) (Ay3 : ∀ i : Nat, (0 ≤ (y3 i).toInt ∧ (y3 i).toInt ≤ 1)) (Ay4 : ∀ i : Nat, ((0 ≤ (y4 i).toInt ∧ (y4 i).toInt ≤ 1073741823) ∧ ((1 ≤ (i : Int) ∧ (i : Int) ≤ 6) → (y4 i).toInt ≤ 4095))) (Q0 : 0 < x0_13.toInt → (0 ≤ x0_15.toInt ∧ x0_15.toInt + x0_13.toInt ≤ 4000 ∧ 0 ≤ rv y3 y4 ((1 : Int32)).toNatClampNeg ∧ rv y3 y4 ((1 : Int32)).toNatClampNeg + x0_13.toInt ≤ 4000)) : Met l y_X_moveWords (.code y_X_moveWords b_X_moveWords 3 none :: tb) ({ frames := 1, cells := 0, slots := 0, locals := 21 }) (pM D cI cJ cZ cB (wS50 cI cJ cZ cB p0 p1 p2 p3 p4 p5 p6 p7 p8 p9 p10 p11 p12 p13 p14 p15 p16 p17 p18 p19 p20 p21 p22 p23 p24 p25 x0_4 x0_5 x0_6 x0_7 x0_8 x0_12 x0_13 x0_14 x0_15 x0_16 x0_17 x0_18 x0_22 x0_23 x0_24 x0_25 x0_26 x0_27 x0_28 x0_29 x0_30 x0_31 x0_32 x0_36 x0_39 x0_40 x0_44 x0_49 x0_51 x0_53 x0_54 x0_55 x0_56 x0_57 x0_58 x0_59 x0_60 x0_61 x0_62 y1 y2 y3 y4 y5 y6 y7 y8 y9 y10 y11 y12 y13 y14 y15 y16 y17 y18 y19 y20 y21 y22 y23 y24 y25) sz [.ref p0]) (va_Qv (fun (_ : Unit) => True) (fun _ t => ∃ u_y1 : Nat → Int32, ∃ u_y2 : Nat → Int32, ∃ u_y3 : Nat → Int32, ∃ u_y4 : Nat → Int32, (∀ i : Nat, (0 ≤ (u_y1 i).toInt ∧ (u_y1 i).toInt ≤ 1)) ∧ (∀ i : Nat, (0 ≤ (u_y2 i).toInt ∧ (u_y2 i).toInt ≤ 1073741823)) ∧ (∀ i : Nat, (0 ≤ (u_y3 i).toInt ∧ (u_y3 i).toInt ≤ 1)) ∧ (∀ i : Nat, ((0 ≤ (u_y4 i).toInt ∧ (u_y4 i).toInt ≤ 1073741823) ∧ ((1 ≤ (i : Int) ∧ (i : Int) ≤ 6) → (u_y4 i).toInt ≤ 4095))) ∧ va_P D classes (wS50 cI cJ cZ cB p0 p1 p2 p3 p4 p5 p6 p7 p8 p9 p10 p11 p12 p13 p14 p15 p16 p17 p18 p19 p20 p21 p22 p23 p24 p25 x0_4 x0_5 x0_6 x0_7 x0_8 x0_12 x0_13 x0_14 x0_15 x0_16 x0_17 x0_18 x0_22 x0_23 x0_24 x0_25 x0_26 x0_27 x0_28 x0_29 x0_30 x0_31 x0_32 x0_36 x0_39 x0_40 x0_44 x0_49 x0_51 x0_53 x0_54 x0_55 x0_56 x0_57 x0_58 x0_59 x0_60 x0_61 x0_62 u_y1 u_y2 u_y3 u_y4 y5 y6 y7 y8 y9 y10 y11 y12 y13 y14 y15 y16 y17 y18 y19 y20 y21 y22 y23 y24 y25) t.heap ∧ va_D (va_A (wS50 cI cJ cZ cB p0 p1 p2 p3 p4 p5 p6 p7 p8 p9 p10 p11 p12 p13 p14 p15 p16 p17 p18 p19 p20 p21 p22 p23 p24 p25 x0_4 x0_5 x0_6 x0_7 x0_8 x0_12 x0_13 x0_14 x0_15 x0_16 x0_17 x0_18 x0_22 x0_23 x0_24 x0_25 x0_26 x0_27 x0_28 x0_29 x0_30 x0_31 x0_32 x0_36 x0_39 x0_40 x0_44 x0_49 x0_51 x0_53 x0_54 x0_55 x0_56 x0_57 x0_58 x0_59 x0_60 x0_61 x0_62 y1 y2 y3 y4 y5 y6 y7 y8 y9 y10 y11 y12 y13 y14 y15 y16 y17 y18 y19 y20 y21 y22 y23 y24 y25) sz) (wS50 cI cJ cZ cB p0 p1 p2 p3 p4 p5 p6 p7 p8 p9 p10 p11 p12 p13 p14 p15 p16 p17 p18 p19 p20 p21 p22 p23 p24 p25 x0_4 x0_5 x0_6 x0_7 x0_8 x0_12 x0_13 x0_14 x0_15 x0_16 x0_17 x0_18 x0_22 x0_23 x0_24 x0_25 x0_26 x0_27 x0_28 x0_29 x0_30 x0_31 x0_32 x0_36 x0_39 x0_40 x0_44 x0_49 x0_51 x0_53 x0_54 x0_55 x0_56 x0_57 x0_58 x0_59 x0_60 x0_61 x0_62 u_y1 u_y2 u_y3 u_y4 y5 y6 y7 y8 y9 y10 y11 y12 y13 y14 y15 y16 y17 y18 y19 y20 y21 y22 y23 y24 y25)) (va_A (wS50 cI cJ cZ cB p0 p1 p2 p3 p4 p5 p6 p7 p8 p9 p10 p11 p12 p13 p14 p15 p16 p17 p18 p19 p20 p21 p22 p23 p24 p25 x0_4 x0_5 x0_6 x0_7 x0_8 x0_12 x0_13 x0_14 x0_15 x0_16 x0_17 x0_18 x0_22 x0_23 x0_24 x0_25 x0_26 x0_27 x0_28 x0_29 x0_30 x0_31 x0_32 x0_36 x0_39 x0_40 x0_44 x0_49 x0_51 x0_53 x0_54 x0_55 x0_56 x0_57 x0_58 x0_59 x0_60 x0_61 x0_62 y1 y2 y3 y4 y5 y6 y7 y8 y9 y10 y11 y12 y13 y14 y15 y16 y17 y18 y19 y20 y21 y22 y23 y24 y25) sz)) 0 0 (va_A (wS50 cI cJ cZ cB p0 p1 p2 p3 p4 p5 p6 p7 p8 p9 p10 p11 p12 p13 p14 p15 p16 p17 p18 p19 p20 p21 p22 p23 p24 p25 x0_4 x0_5 x0_6 x0_7 x0_8 x0_12 x0_13 x0_14 x0_15 x0_16 x0_17 x0_18 x0_22 x0_23 x0_24 x0_25 x0_26 x0_27 x0_28 x0_29 x0_30 x0_31 x0_32 x0_36 x0_39 x0_40 x0_44 x0_49 x0_51 x0_53 x0_54 x0_55 x0_56 x0_57 x0_58 x0_59 x0_60 x0_61 x0_62 y1 y2 y3 y4 y5 y6 y7 y8 y9 y10 y11 y12 y13 y14 y15 y16 y17 y18 y19 y20 y21 y22 y23 y24 y25) sz) := by
  refine Met.ofW (cc := b_X_moveWords) (maxL := 3) (ret := none) (by decide) rfl ?_
  intro p e s m args below meth c s₁ B hml hv
  obtain ⟨rfl, hsz, hK, hP, hD0⟩ := hv
  subst hsz
  have hD := hD0.self (sz := s.heap.size)
  generalize hAe : va_A (wS50 cI cJ cZ cB p0 p1 p2 p3 p4 p5 p6 p7 p8 p9 p10 p11 p12 p13 p14 p15 p16 p17 p18 p19 p20 p21 p22 p23 p24 p25 x0_4 x0_5 x0_6 x0_7 x0_8 x0_12 x0_13 x0_14 x0_15 x0_16 x0_17 x0_18 x0_22 x0_23 x0_24 x0_25 x0_26 x0_27 x0_28 x0_29 x0_30 x0_31 x0_32 x0_36 x0_39 x0_40 x0_44 x0_49 x0_51 x0_53 x0_54 x0_55 x0_56 x0_57 x0_58 x0_59 x0_60 x0_61 x0_62 y1 y2 y3 y4 y5 y6 y7 y8 y9 y10 y11 y12 y13 y14 y15 y16 y17 y18 y19 y20 y21 y22 y23 y24 y25) s.heap.size = A at hD ⊢
  have hA : ∀ q : Nat, s.heap.size ≤ q → A q := fun q h => by rw [← hAe]; exact Or.inr h
  clear hAe hD0
  have hS : va_S A s.heap s.heap [] := va_S.rf
  have hx := B.exec
  have hb := B.bytes
  have hr := B.returns
  have hts := atoms_spec (ws := .code y_X_moveWords b_X_moveWords 3 none :: tb) B.pre
  have hk : ∀ w ∈ tb, w.before [.ref p0].toArray s = true := fun w h => hts w (List.mem_cons_of_mem _ h)
  have hown : s.vm.findClass "SignMachineModel" = some m.cls := findClass_of_methodNamed B.named
  have hlocks := B.notSynchronized
  have hl := lv_entry ([.ref p0]) (n := 3) (Nat.le_of_ble_eq_true rfl)
  rw [lg_entry_eq]
  generalize (lg_sl ([.ref p0]) ++ List.replicate (3 - (lg_sl ([.ref p0])).length) Slot.unset).toArray = ls at hl ⊢
  have hl : lv_has ls 3 [(0, .ref p0)] := hl
  clear hts B
  refine lv_aload_n hx hb d_X_moveWords_0 rfl (lv_at hl 0 rfl) ?_
  refine lv_iconst (v := 1) hx hb d_X_moveWords_1 (by decide) ?_
  refine sn_i (va_runV (C := "SignMachineModel") (As := [.int (1 : Int32)]) (rest := []) ⟨hx, hb, hml, hown, hk⟩ (c_X_indexValue l D cI cJ cZ cB p0 p1 p2 p3 p4 p5 p6 p7 p8 p9 p10 p11 p12 p13 p14 p15 p16 p17 p18 p19 p20 p21 p22 p23 p24 p25 s.heap.size x0_4 x0_5 x0_6 x0_7 x0_8 x0_12 x0_13 x0_14 x0_15 x0_16 x0_17 x0_18 x0_22 x0_23 x0_24 x0_25 x0_26 x0_27 x0_28 x0_29 x0_30 x0_31 x0_32 x0_36 x0_39 x0_40 x0_44 x0_49 x0_51 x0_53 x0_54 x0_55 x0_56 x0_57 x0_58 x0_59 x0_60 x0_61 x0_62 y1 y2 y3 y4 y5 y6 y7 y8 y9 y10 y11 y12 y13 y14 y15 y16 y17 y18 y19 y20 y21 y22 y23 y24 y25 (1 : Int32) Ay3 Ay4 (by decide)) (v_X_indexValue hk k_1400 ⟨Nat.le_of_ble_eq_true rfl, Nat.le_of_ble_eq_true rfl⟩) (pM_v hK hP hD (ci := 7) (q0 := 0) rfl rfl rfl) rfl rfl hl.1 rfl (lv_room (Nat.le_of_ble_eq_true rfl)) d_X_moveWords_2 ⟨Nat.le_of_ble_eq_true rfl, Nat.le_of_ble_eq_true rfl⟩) hS hA hD (fun rz1 u t H locs hr0 ht hB hFr hS => ?_)
  subst hr0
  obtain ⟨F0z1, F1z1, F2z1, hP, hD⟩ := hB
  have F0z1 : (-1073741823) ≤ rz1.toInt ∧ rz1.toInt ≤ 1073741823 := F0z1
  have F1z1 : rz1.toInt = rv y3 y4 ((1 : Int32)).toNatClampNeg := F1z1
  have F2z1 : (1 ≤ (1 : Int) ∧ (1 : Int) ≤ 6) → (-4095 ≤ rz1.toInt ∧ rz1.toInt ≤ 4095) := F2z1
  rw [ht] at hP
  have hD := dwk hD hFr
  clear ht hFr
  have hP : va_P D classes (wS50 cI cJ cZ cB p0 p1 p2 p3 p4 p5 p6 p7 p8 p9 p10 p11 p12 p13 p14 p15 p16 p17 p18 p19 p20 p21 p22 p23 p24 p25 x0_4 x0_5 x0_6 x0_7 x0_8 x0_12 x0_13 x0_14 x0_15 x0_16 x0_17 x0_18 x0_22 x0_23 x0_24 x0_25 x0_26 x0_27 x0_28 x0_29 x0_30 x0_31 x0_32 x0_36 x0_39 x0_40 x0_44 x0_49 x0_51 x0_53 x0_54 x0_55 x0_56 x0_57 x0_58 x0_59 x0_60 x0_61 x0_62 y1 y2 y3 y4 y5 y6 y7 y8 y9 y10 y11 y12 y13 y14 y15 y16 y17 y18 y19 y20 y21 y22 y23 y24 y25) H := hP
  have hD : va_D A (wS50 cI cJ cZ cB p0 p1 p2 p3 p4 p5 p6 p7 p8 p9 p10 p11 p12 p13 p14 p15 p16 p17 p18 p19 p20 p21 p22 p23 p24 p25 x0_4 x0_5 x0_6 x0_7 x0_8 x0_12 x0_13 x0_14 x0_15 x0_16 x0_17 x0_18 x0_22 x0_23 x0_24 x0_25 x0_26 x0_27 x0_28 x0_29 x0_30 x0_31 x0_32 x0_36 x0_39 x0_40 x0_44 x0_49 x0_51 x0_53 x0_54 x0_55 x0_56 x0_57 x0_58 x0_59 x0_60 x0_61 x0_62 y1 y2 y3 y4 y5 y6 y7 y8 y9 y10 y11 y12 y13 y14 y15 y16 y17 y18 y19 y20 y21 y22 y23 y24 y25) := hD
  refine lv_istore_n (lv' := [(1, .int rz1), (0, .ref p0)]) hx hb d_X_moveWords_5 rfl hl (by decide) rfl (fun ls hl => ?_)
  refine lv_iconst (v := 0) hx hb d_X_moveWords_6 (by decide) ?_
  refine lv_istore_n (lv' := [(2, .int (0 : Int32)), (1, .int rz1), (0, .ref p0)]) hx hb d_X_moveWords_7 rfl hl (by decide) rfl (fun ls hl => ?_)
  have CUT8 : ∀ (n : Nat) (g8l2 : Int32) (g8y1 : Nat → Int32) (g8y2 : Nat → Int32) (H : Heap) (locs : List Loc) (ls : Array Slot), (x0_13.toInt - g8l2.toInt) < (n : Int) → (0 ≤ g8l2.toInt ∧ g8l2.toInt ≤ 63) → (∀ i : Nat, (0 ≤ (g8y1 i).toInt ∧ (g8y1 i).toInt ≤ 1)) → (∀ i : Nat, (0 ≤ (g8y2 i).toInt ∧ (g8y2 i).toInt ≤ 1073741823)) → (g8l2.toInt ≤ x0_13.toInt) → va_P D classes (wS50 cI cJ cZ cB p0 p1 p2 p3 p4 p5 p6 p7 p8 p9 p10 p11 p12 p13 p14 p15 p16 p17 p18 p19 p20 p21 p22 p23 p24 p25 x0_4 x0_5 x0_6 x0_7 x0_8 x0_12 x0_13 x0_14 x0_15 x0_16 x0_17 x0_18 x0_22 x0_23 x0_24 x0_25 x0_26 x0_27 x0_28 x0_29 x0_30 x0_31 x0_32 x0_36 x0_39 x0_40 x0_44 x0_49 x0_51 x0_53 x0_54 x0_55 x0_56 x0_57 x0_58 x0_59 x0_60 x0_61 x0_62 g8y1 g8y2 y3 y4 y5 y6 y7 y8 y9 y10 y11 y12 y13 y14 y15 y16 y17 y18 y19 y20 y21 y22 y23 y24 y25) H → va_D A (wS50 cI cJ cZ cB p0 p1 p2 p3 p4 p5 p6 p7 p8 p9 p10 p11 p12 p13 p14 p15 p16 p17 p18 p19 p20 p21 p22 p23 p24 p25 x0_4 x0_5 x0_6 x0_7 x0_8 x0_12 x0_13 x0_14 x0_15 x0_16 x0_17 x0_18 x0_22 x0_23 x0_24 x0_25 x0_26 x0_27 x0_28 x0_29 x0_30 x0_31 x0_32 x0_36 x0_39 x0_40 x0_44 x0_49 x0_51 x0_53 x0_54 x0_55 x0_56 x0_57 x0_58 x0_59 x0_60 x0_61 x0_62 g8y1 g8y2 y3 y4 y5 y6 y7 y8 y9 y10 y11 y12 y13 y14 y15 y16 y17 y18 y19 y20 y21 y22 y23 y24 y25) → va_S A s.heap H locs → lv_has ls 3 [(2, .int g8l2), (1, .int rz1), (0, .ref p0)] → W p l e ({ frames := 1, cells := 0, slots := 0, locals := 21 }) s m [.ref p0].toArray below meth c H locs 0 0 (MQ below (va_Qv (fun (_ : Unit) => True) (fun _ t => ∃ u_y1 : Nat → Int32, ∃ u_y2 : Nat → Int32, ∃ u_y3 : Nat → Int32, ∃ u_y4 : Nat → Int32, (∀ i : Nat, (0 ≤ (u_y1 i).toInt ∧ (u_y1 i).toInt ≤ 1)) ∧ (∀ i : Nat, (0 ≤ (u_y2 i).toInt ∧ (u_y2 i).toInt ≤ 1073741823)) ∧ (∀ i : Nat, (0 ≤ (u_y3 i).toInt ∧ (u_y3 i).toInt ≤ 1)) ∧ (∀ i : Nat, ((0 ≤ (u_y4 i).toInt ∧ (u_y4 i).toInt ≤ 1073741823) ∧ ((1 ≤ (i : Int) ∧ (i : Int) ≤ 6) → (u_y4 i).toInt ≤ 4095))) ∧ va_P D classes (wS50 cI cJ cZ cB p0 p1 p2 p3 p4 p5 p6 p7 p8 p9 p10 p11 p12 p13 p14 p15 p16 p17 p18 p19 p20 p21 p22 p23 p24 p25 x0_4 x0_5 x0_6 x0_7 x0_8 x0_12 x0_13 x0_14 x0_15 x0_16 x0_17 x0_18 x0_22 x0_23 x0_24 x0_25 x0_26 x0_27 x0_28 x0_29 x0_30 x0_31 x0_32 x0_36 x0_39 x0_40 x0_44 x0_49 x0_51 x0_53 x0_54 x0_55 x0_56 x0_57 x0_58 x0_59 x0_60 x0_61 x0_62 u_y1 u_y2 u_y3 u_y4 y5 y6 y7 y8 y9 y10 y11 y12 y13 y14 y15 y16 y17 y18 y19 y20 y21 y22 y23 y24 y25) t.heap ∧ va_D A (wS50 cI cJ cZ cB p0 p1 p2 p3 p4 p5 p6 p7 p8 p9 p10 p11 p12 p13 p14 p15 p16 p17 p18 p19 p20 p21 p22 p23 p24 p25 x0_4 x0_5 x0_6 x0_7 x0_8 x0_12 x0_13 x0_14 x0_15 x0_16 x0_17 x0_18 x0_22 x0_23 x0_24 x0_25 x0_26 x0_27 x0_28 x0_29 x0_30 x0_31 x0_32 x0_36 x0_39 x0_40 x0_44 x0_49 x0_51 x0_53 x0_54 x0_55 x0_56 x0_57 x0_58 x0_59 x0_60 x0_61 x0_62 u_y1 u_y2 u_y3 u_y4 y5 y6 y7 y8 y9 y10 y11 y12 y13 y14 y15 y16 y17 y18 y19 y20 y21 y22 y23 y24 y25)) A) [.ref p0].toArray s 0 0 A) (F0 m 8 ls []) := by
    intro n
    induction n with
    | zero => intro g8l2 g8y1 g8y2 H locs ls hn8 Rg8l2 Ag8y1 Ag8y2 I8_0 hP hD hS hl; exfalso; omega
    | succ n ih8 =>
      intro g8l2 g8y1 g8y2 H locs ls hn8 Rg8l2 Ag8y1 Ag8y2 I8_0 hP hD hS hl
      refine lv_iload_n hx hb d_X_moveWords_8 rfl (lv_at hl 0 rfl) ?_
      refine lv_aload_n hx hb d_X_moveWords_9 rfl (lv_at hl 2 rfl) ?_
      refine va_get (D := D) (ci := 7) (v := .int x0_13) (C := "SignMachineModel") (T := F_X) (N := 64) hx hb hk fi_X hown hK.1 hP 0 rfl rfl 13 (by decide) (hk _ k_1134) (fun _ h9 => h9) rfl d_X_moveWords_10 ?_
      refine lv_icmp_ge (tgt := 60) hx hb d_X_moveWords_13 (by decide) (fun c2 => ?_) (fun c2 => ?_)
      · have gc2 : x0_13.toInt ≤ g8l2.toInt := c_le c2
        refine lv_aload_n hx hb d_X_moveWords_60 rfl (lv_at hl 2 rfl) ?_
        refine va_get (D := D) (ci := 7) (v := .int x0_13) (C := "SignMachineModel") (T := F_X) (N := 64) hx hb hk fi_X hown hK.1 hP 0 rfl rfl 13 (by decide) (hk _ k_1134) (fun _ h9 => h9) rfl d_X_moveWords_61 ?_
        refine lv_if_le (tgt := 118) hx hb d_X_moveWords_64 (by decide) (fun c3 => ?_) (fun c3 => ?_)
        · have gc3 : x0_13.toInt ≤ (0 : Int) := c_le c3
          have R4 : 0 ≤ x0_13.toInt ∧ x0_13.toInt ≤ 0 := rf_leX Rx0_13 (show 0 ≤ (0 : Int) ∧ (0 : Int) ≤ 0 from by decide) gc3 (by decide) (by decide)
          exact W.vret hx hb hr (fun t ht hW => ⟨⟨(), rfl, trivial, ⟨g8y1, g8y2, y3, y4, Ag8y1, Ag8y2, Ay3, Ay4, by show va_P D classes _ t.heap; rw [ht]; exact hP, hD⟩⟩, hS.F ht⟩) hS.2.2 d_X_moveWords_118
        · have gc3 : (0 : Int) < x0_13.toInt := c_nle c3
          have R5 : 1 ≤ x0_13.toInt ∧ x0_13.toInt ≤ 63 := rf_gtX Rx0_13 (show 0 ≤ (0 : Int) ∧ (0 : Int) ≤ 0 from by decide) gc3 (by decide) (by decide)
          refine lv_iload_n hx hb d_X_moveWords_67 rfl (lv_at hl 1 rfl) ?_
          refine lv_aload_n hx hb d_X_moveWords_68 rfl (lv_at hl 2 rfl) ?_
          refine va_get (D := D) (ci := 7) (v := .int x0_13) (C := "SignMachineModel") (T := F_X) (N := 64) hx hb hk fi_X hown hK.1 hP 0 rfl rfl 13 (by decide) (hk _ k_1134) (fun _ h9 => h9) rfl d_X_moveWords_69 ?_
          refine lv_iadd hx hb d_X_moveWords_72 ?_
          refine lv_topi (fun v6 hv6 => ?_)
          obtain ⟨ev6, Rv6⟩ : v6.toInt = rz1.toInt + x0_13.toInt ∧ ((-1073741822) ≤ v6.toInt ∧ v6.toInt ≤ 1073741886) := ad3 hv6 F0z1 R5 (by decide) (by decide) (by decide) (by decide)
          refine lv_istore_n (lv' := [(2, .int v6), (1, .int rz1), (0, .ref p0)]) hx hb d_X_moveWords_73 rfl hl (by decide) rfl (fun ls hl => ?_)
          refine lv_aload_n hx hb d_X_moveWords_74 rfl (lv_at hl 2 rfl) ?_
          refine va_get (D := D) (ci := 7) (v := .ref p3) (C := "SignMachineModel") (T := F_X) (N := 64) hx hb hk fi_X hown hK.1 hP 0 rfl rfl 2 (by decide) (hk _ k_1123) (fun _ h9 => h9) rfl d_X_moveWords_75 ?_
          refine lv_iconst (v := 1) hx hb d_X_moveWords_78 (by decide) ?_
          refine lv_iload_n hx hb d_X_moveWords_79 rfl (lv_at hl 0 rfl) ?_
          refine lv_if_ge (tgt := 87) hx hb d_X_moveWords_80 (by decide) (fun c7 => ?_) (fun c7 => ?_)
          · have gc7 : (0 : Int) ≤ v6.toInt := c_le c7
            have R8 : 0 ≤ v6.toInt ∧ v6.toInt ≤ 1073741886 := rf_geX Rv6 (show 0 ≤ (0 : Int) ∧ (0 : Int) ≤ 0 from by decide) gc7 (by decide) (by decide)
            refine lv_iload_n hx hb d_X_moveWords_87 rfl (lv_at hl 0 rfl) ?_
            refine lv_if_le (tgt := 95) hx hb d_X_moveWords_88 (by decide) (fun c9 => ?_) (fun c9 => ?_)
            · have gc9 : v6.toInt ≤ (0 : Int) := c_le c9
              have R10 : 0 ≤ v6.toInt ∧ v6.toInt ≤ 0 := rf_leX R8 (show 0 ≤ (0 : Int) ∧ (0 : Int) ≤ 0 from by decide) gc9 (by decide) (by decide)
              refine lv_aload_n hx hb d_X_moveWords_95 rfl (lv_at hl 2 rfl) ?_
              refine va_get (D := D) (ci := 7) (v := .ref p3) (C := "SignMachineModel") (T := F_X) (N := 64) hx hb hk fi_X hown hK.1 hP 0 rfl rfl 2 (by decide) (hk _ k_1123) (fun _ h9 => h9) rfl d_X_moveWords_96 ?_
              refine lv_iconst (v := 1) hx hb d_X_moveWords_99 (by decide) ?_
              refine va_iald hx hb hK.1 hP 3 0 rfl rfl (by unfold vp_in; decide) d_X_moveWords_100 ?_
              refine lv_topi (fun v11 hv11 => ?_)
              have Rv11 := Ay3 ((1 : Int32)).toNatClampNeg
              rw [← hv11] at Rv11
              refine va_iast hx hb hK.1 hP hD hS 3 0 rfl rfl (by unfold vp_in; decide) d_X_moveWords_101 (fun H locs hP hD hS => ?_)
              have hP : va_P D classes (wS50 cI cJ cZ cB p0 p1 p2 p3 p4 p5 p6 p7 p8 p9 p10 p11 p12 p13 p14 p15 p16 p17 p18 p19 p20 p21 p22 p23 p24 p25 x0_4 x0_5 x0_6 x0_7 x0_8 x0_12 x0_13 x0_14 x0_15 x0_16 x0_17 x0_18 x0_22 x0_23 x0_24 x0_25 x0_26 x0_27 x0_28 x0_29 x0_30 x0_31 x0_32 x0_36 x0_39 x0_40 x0_44 x0_49 x0_51 x0_53 x0_54 x0_55 x0_56 x0_57 x0_58 x0_59 x0_60 x0_61 x0_62 g8y1 g8y2 (upd y3 ((1 : Int32)).toNatClampNeg v11) y4 y5 y6 y7 y8 y9 y10 y11 y12 y13 y14 y15 y16 y17 y18 y19 y20 y21 y22 y23 y24 y25) H := hP
              have hD : va_D A (wS50 cI cJ cZ cB p0 p1 p2 p3 p4 p5 p6 p7 p8 p9 p10 p11 p12 p13 p14 p15 p16 p17 p18 p19 p20 p21 p22 p23 p24 p25 x0_4 x0_5 x0_6 x0_7 x0_8 x0_12 x0_13 x0_14 x0_15 x0_16 x0_17 x0_18 x0_22 x0_23 x0_24 x0_25 x0_26 x0_27 x0_28 x0_29 x0_30 x0_31 x0_32 x0_36 x0_39 x0_40 x0_44 x0_49 x0_51 x0_53 x0_54 x0_55 x0_56 x0_57 x0_58 x0_59 x0_60 x0_61 x0_62 g8y1 g8y2 (upd y3 ((1 : Int32)).toNatClampNeg v11) y4 y5 y6 y7 y8 y9 y10 y11 y12 y13 y14 y15 y16 y17 y18 y19 y20 y21 y22 y23 y24 y25) := hD
              obtain ⟨v12, hv12⟩ : ∃ y : Nat → Int32, y = (upd y3 ((1 : Int32)).toNatClampNeg v11) := ⟨_, rfl⟩
              rw [← hv12] at hP hD
              have Gv12 : (0 ≤ (v11).toInt ∧ (v11).toInt ≤ 1) := Rv11
              have Av12 : ∀ i : Nat, (0 ≤ (v12 i).toInt ∧ (v12 i).toInt ≤ 1) := by rw [hv12]; exact upd_all (P := fun i x => (0 ≤ (x).toInt ∧ (x).toInt ≤ 1)) Ay3 Gv12
              clear hv12
              refine lv_aload_n hx hb d_X_moveWords_102 rfl (lv_at hl 2 rfl) ?_
              refine va_get (D := D) (ci := 7) (v := .ref p4) (C := "SignMachineModel") (T := F_X) (N := 64) hx hb hk fi_X hown hK.1 hP 0 rfl rfl 3 (by decide) (hk _ k_1124) (fun _ h9 => h9) rfl d_X_moveWords_103 ?_
              refine lv_iconst (v := 1) hx hb d_X_moveWords_106 (by decide) ?_
              refine lv_iload_n hx hb d_X_moveWords_107 rfl (lv_at hl 0 rfl) ?_
              refine lv_if_ge (tgt := 116) hx hb d_X_moveWords_108 (by decide) (fun c13 => ?_) (fun c13 => absurd (show (0 : Int32) ≤ v6 from c7) c13)
              refine lv_iload_n hx hb d_X_moveWords_116 rfl (lv_at hl 0 rfl) ?_
              refine va_iast hx hb hK.1 hP hD hS 4 0 rfl rfl (by unfold vp_in; decide) d_X_moveWords_117 (fun H locs hP hD hS => ?_)
              have hP : va_P D classes (wS50 cI cJ cZ cB p0 p1 p2 p3 p4 p5 p6 p7 p8 p9 p10 p11 p12 p13 p14 p15 p16 p17 p18 p19 p20 p21 p22 p23 p24 p25 x0_4 x0_5 x0_6 x0_7 x0_8 x0_12 x0_13 x0_14 x0_15 x0_16 x0_17 x0_18 x0_22 x0_23 x0_24 x0_25 x0_26 x0_27 x0_28 x0_29 x0_30 x0_31 x0_32 x0_36 x0_39 x0_40 x0_44 x0_49 x0_51 x0_53 x0_54 x0_55 x0_56 x0_57 x0_58 x0_59 x0_60 x0_61 x0_62 g8y1 g8y2 v12 (upd y4 ((1 : Int32)).toNatClampNeg v6) y5 y6 y7 y8 y9 y10 y11 y12 y13 y14 y15 y16 y17 y18 y19 y20 y21 y22 y23 y24 y25) H := hP
              have hD : va_D A (wS50 cI cJ cZ cB p0 p1 p2 p3 p4 p5 p6 p7 p8 p9 p10 p11 p12 p13 p14 p15 p16 p17 p18 p19 p20 p21 p22 p23 p24 p25 x0_4 x0_5 x0_6 x0_7 x0_8 x0_12 x0_13 x0_14 x0_15 x0_16 x0_17 x0_18 x0_22 x0_23 x0_24 x0_25 x0_26 x0_27 x0_28 x0_29 x0_30 x0_31 x0_32 x0_36 x0_39 x0_40 x0_44 x0_49 x0_51 x0_53 x0_54 x0_55 x0_56 x0_57 x0_58 x0_59 x0_60 x0_61 x0_62 g8y1 g8y2 v12 (upd y4 ((1 : Int32)).toNatClampNeg v6) y5 y6 y7 y8 y9 y10 y11 y12 y13 y14 y15 y16 y17 y18 y19 y20 y21 y22 y23 y24 y25) := hD
              obtain ⟨v14, hv14⟩ : ∃ y : Nat → Int32, y = (upd y4 ((1 : Int32)).toNatClampNeg v6) := ⟨_, rfl⟩
              rw [← hv14] at hP hD
              have : ((((1 : Int32)).toNatClampNeg : Nat) : Int) = 1 := by decide
              have Gv14 : ((0 ≤ (v6).toInt ∧ (v6).toInt ≤ 1073741823) ∧ ((1 ≤ ((((1 : Int32)).toNatClampNeg : Nat) : Int) ∧ ((((1 : Int32)).toNatClampNeg : Nat) : Int) ≤ 6) → (v6).toInt ≤ 4095)) := by refine ⟨by omega, ?_⟩; omega
              have Av14 : ∀ i : Nat, ((0 ≤ (v14 i).toInt ∧ (v14 i).toInt ≤ 1073741823) ∧ ((1 ≤ (i : Int) ∧ (i : Int) ≤ 6) → (v14 i).toInt ≤ 4095)) := by rw [hv14]; exact upd_all (P := fun i x => ((0 ≤ (x).toInt ∧ (x).toInt ≤ 1073741823) ∧ ((1 ≤ (i : Int) ∧ (i : Int) ≤ 6) → (x).toInt ≤ 4095))) Ay4 Gv14
              clear hv14
              exact W.vret hx hb hr (fun t ht hW => ⟨⟨(), rfl, trivial, ⟨g8y1, g8y2, v12, v14, Ag8y1, Ag8y2, Av12, Av14, by show va_P D classes _ t.heap; rw [ht]; exact hP, hD⟩⟩, hS.F ht⟩) hS.2.2 d_X_moveWords_118
            · have gc9 : (0 : Int) < v6.toInt := c_nle c9
              have R15 : 1 ≤ v6.toInt ∧ v6.toInt ≤ 1073741886 := rf_gtX R8 (show 0 ≤ (0 : Int) ∧ (0 : Int) ≤ 0 from by decide) gc9 (by decide) (by decide)
              refine lv_iconst (v := 0) hx hb d_X_moveWords_91 (by decide) ?_
              refine lv_goto (tgt := 101) hx hb d_X_moveWords_92 (by decide) ?_
              refine va_iast hx hb hK.1 hP hD hS 3 0 rfl rfl (by unfold vp_in; decide) d_X_moveWords_101 (fun H locs hP hD hS => ?_)
              have hP : va_P D classes (wS50 cI cJ cZ cB p0 p1 p2 p3 p4 p5 p6 p7 p8 p9 p10 p11 p12 p13 p14 p15 p16 p17 p18 p19 p20 p21 p22 p23 p24 p25 x0_4 x0_5 x0_6 x0_7 x0_8 x0_12 x0_13 x0_14 x0_15 x0_16 x0_17 x0_18 x0_22 x0_23 x0_24 x0_25 x0_26 x0_27 x0_28 x0_29 x0_30 x0_31 x0_32 x0_36 x0_39 x0_40 x0_44 x0_49 x0_51 x0_53 x0_54 x0_55 x0_56 x0_57 x0_58 x0_59 x0_60 x0_61 x0_62 g8y1 g8y2 (upd y3 ((1 : Int32)).toNatClampNeg (0 : Int32)) y4 y5 y6 y7 y8 y9 y10 y11 y12 y13 y14 y15 y16 y17 y18 y19 y20 y21 y22 y23 y24 y25) H := hP
              have hD : va_D A (wS50 cI cJ cZ cB p0 p1 p2 p3 p4 p5 p6 p7 p8 p9 p10 p11 p12 p13 p14 p15 p16 p17 p18 p19 p20 p21 p22 p23 p24 p25 x0_4 x0_5 x0_6 x0_7 x0_8 x0_12 x0_13 x0_14 x0_15 x0_16 x0_17 x0_18 x0_22 x0_23 x0_24 x0_25 x0_26 x0_27 x0_28 x0_29 x0_30 x0_31 x0_32 x0_36 x0_39 x0_40 x0_44 x0_49 x0_51 x0_53 x0_54 x0_55 x0_56 x0_57 x0_58 x0_59 x0_60 x0_61 x0_62 g8y1 g8y2 (upd y3 ((1 : Int32)).toNatClampNeg (0 : Int32)) y4 y5 y6 y7 y8 y9 y10 y11 y12 y13 y14 y15 y16 y17 y18 y19 y20 y21 y22 y23 y24 y25) := hD
              obtain ⟨v16, hv16⟩ : ∃ y : Nat → Int32, y = (upd y3 ((1 : Int32)).toNatClampNeg (0 : Int32)) := ⟨_, rfl⟩
              rw [← hv16] at hP hD
              have Gv16 : (0 ≤ ((0 : Int32)).toInt ∧ ((0 : Int32)).toInt ≤ 1) := (by decide)
              have Av16 : ∀ i : Nat, (0 ≤ (v16 i).toInt ∧ (v16 i).toInt ≤ 1) := by rw [hv16]; exact upd_all (P := fun i x => (0 ≤ (x).toInt ∧ (x).toInt ≤ 1)) Ay3 Gv16
              clear hv16
              refine lv_aload_n hx hb d_X_moveWords_102 rfl (lv_at hl 2 rfl) ?_
              refine va_get (D := D) (ci := 7) (v := .ref p4) (C := "SignMachineModel") (T := F_X) (N := 64) hx hb hk fi_X hown hK.1 hP 0 rfl rfl 3 (by decide) (hk _ k_1124) (fun _ h9 => h9) rfl d_X_moveWords_103 ?_
              refine lv_iconst (v := 1) hx hb d_X_moveWords_106 (by decide) ?_
              refine lv_iload_n hx hb d_X_moveWords_107 rfl (lv_at hl 0 rfl) ?_
              refine lv_if_ge (tgt := 116) hx hb d_X_moveWords_108 (by decide) (fun c17 => ?_) (fun c17 => absurd (show (0 : Int32) ≤ v6 from c7) c17)
              refine lv_iload_n hx hb d_X_moveWords_116 rfl (lv_at hl 0 rfl) ?_
              refine va_iast hx hb hK.1 hP hD hS 4 0 rfl rfl (by unfold vp_in; decide) d_X_moveWords_117 (fun H locs hP hD hS => ?_)
              have hP : va_P D classes (wS50 cI cJ cZ cB p0 p1 p2 p3 p4 p5 p6 p7 p8 p9 p10 p11 p12 p13 p14 p15 p16 p17 p18 p19 p20 p21 p22 p23 p24 p25 x0_4 x0_5 x0_6 x0_7 x0_8 x0_12 x0_13 x0_14 x0_15 x0_16 x0_17 x0_18 x0_22 x0_23 x0_24 x0_25 x0_26 x0_27 x0_28 x0_29 x0_30 x0_31 x0_32 x0_36 x0_39 x0_40 x0_44 x0_49 x0_51 x0_53 x0_54 x0_55 x0_56 x0_57 x0_58 x0_59 x0_60 x0_61 x0_62 g8y1 g8y2 v16 (upd y4 ((1 : Int32)).toNatClampNeg v6) y5 y6 y7 y8 y9 y10 y11 y12 y13 y14 y15 y16 y17 y18 y19 y20 y21 y22 y23 y24 y25) H := hP
              have hD : va_D A (wS50 cI cJ cZ cB p0 p1 p2 p3 p4 p5 p6 p7 p8 p9 p10 p11 p12 p13 p14 p15 p16 p17 p18 p19 p20 p21 p22 p23 p24 p25 x0_4 x0_5 x0_6 x0_7 x0_8 x0_12 x0_13 x0_14 x0_15 x0_16 x0_17 x0_18 x0_22 x0_23 x0_24 x0_25 x0_26 x0_27 x0_28 x0_29 x0_30 x0_31 x0_32 x0_36 x0_39 x0_40 x0_44 x0_49 x0_51 x0_53 x0_54 x0_55 x0_56 x0_57 x0_58 x0_59 x0_60 x0_61 x0_62 g8y1 g8y2 v16 (upd y4 ((1 : Int32)).toNatClampNeg v6) y5 y6 y7 y8 y9 y10 y11 y12 y13 y14 y15 y16 y17 y18 y19 y20 y21 y22 y23 y24 y25) := hD
              obtain ⟨v18, hv18⟩ : ∃ y : Nat → Int32, y = (upd y4 ((1 : Int32)).toNatClampNeg v6) := ⟨_, rfl⟩
              rw [← hv18] at hP hD
              have : ((((1 : Int32)).toNatClampNeg : Nat) : Int) = 1 := by decide
              have Gv18 : ((0 ≤ (v6).toInt ∧ (v6).toInt ≤ 1073741823) ∧ ((1 ≤ ((((1 : Int32)).toNatClampNeg : Nat) : Int) ∧ ((((1 : Int32)).toNatClampNeg : Nat) : Int) ≤ 6) → (v6).toInt ≤ 4095)) := by refine ⟨by omega, ?_⟩; omega
              have Av18 : ∀ i : Nat, ((0 ≤ (v18 i).toInt ∧ (v18 i).toInt ≤ 1073741823) ∧ ((1 ≤ (i : Int) ∧ (i : Int) ≤ 6) → (v18 i).toInt ≤ 4095)) := by rw [hv18]; exact upd_all (P := fun i x => ((0 ≤ (x).toInt ∧ (x).toInt ≤ 1073741823) ∧ ((1 ≤ (i : Int) ∧ (i : Int) ≤ 6) → (x).toInt ≤ 4095))) Ay4 Gv18
              clear hv18
              exact W.vret hx hb hr (fun t ht hW => ⟨⟨(), rfl, trivial, ⟨g8y1, g8y2, v16, v18, Ag8y1, Ag8y2, Av16, Av18, by show va_P D classes _ t.heap; rw [ht]; exact hP, hD⟩⟩, hS.F ht⟩) hS.2.2 d_X_moveWords_118
          · have gc7 : v6.toInt < (0 : Int) := c_nle c7
            have R19 : (-1073741822) ≤ v6.toInt ∧ v6.toInt ≤ (-1) := rf_ltX Rv6 (show 0 ≤ (0 : Int) ∧ (0 : Int) ≤ 0 from by decide) gc7 (by decide) (by decide)
            refine lv_iconst (v := 1) hx hb d_X_moveWords_83 (by decide) ?_
            refine lv_goto (tgt := 101) hx hb d_X_moveWords_84 (by decide) ?_
            refine va_iast hx hb hK.1 hP hD hS 3 0 rfl rfl (by unfold vp_in; decide) d_X_moveWords_101 (fun H locs hP hD hS => ?_)
            have hP : va_P D classes (wS50 cI cJ cZ cB p0 p1 p2 p3 p4 p5 p6 p7 p8 p9 p10 p11 p12 p13 p14 p15 p16 p17 p18 p19 p20 p21 p22 p23 p24 p25 x0_4 x0_5 x0_6 x0_7 x0_8 x0_12 x0_13 x0_14 x0_15 x0_16 x0_17 x0_18 x0_22 x0_23 x0_24 x0_25 x0_26 x0_27 x0_28 x0_29 x0_30 x0_31 x0_32 x0_36 x0_39 x0_40 x0_44 x0_49 x0_51 x0_53 x0_54 x0_55 x0_56 x0_57 x0_58 x0_59 x0_60 x0_61 x0_62 g8y1 g8y2 (upd y3 ((1 : Int32)).toNatClampNeg (1 : Int32)) y4 y5 y6 y7 y8 y9 y10 y11 y12 y13 y14 y15 y16 y17 y18 y19 y20 y21 y22 y23 y24 y25) H := hP
            have hD : va_D A (wS50 cI cJ cZ cB p0 p1 p2 p3 p4 p5 p6 p7 p8 p9 p10 p11 p12 p13 p14 p15 p16 p17 p18 p19 p20 p21 p22 p23 p24 p25 x0_4 x0_5 x0_6 x0_7 x0_8 x0_12 x0_13 x0_14 x0_15 x0_16 x0_17 x0_18 x0_22 x0_23 x0_24 x0_25 x0_26 x0_27 x0_28 x0_29 x0_30 x0_31 x0_32 x0_36 x0_39 x0_40 x0_44 x0_49 x0_51 x0_53 x0_54 x0_55 x0_56 x0_57 x0_58 x0_59 x0_60 x0_61 x0_62 g8y1 g8y2 (upd y3 ((1 : Int32)).toNatClampNeg (1 : Int32)) y4 y5 y6 y7 y8 y9 y10 y11 y12 y13 y14 y15 y16 y17 y18 y19 y20 y21 y22 y23 y24 y25) := hD
            obtain ⟨v20, hv20⟩ : ∃ y : Nat → Int32, y = (upd y3 ((1 : Int32)).toNatClampNeg (1 : Int32)) := ⟨_, rfl⟩
            rw [← hv20] at hP hD
            have Gv20 : (0 ≤ ((1 : Int32)).toInt ∧ ((1 : Int32)).toInt ≤ 1) := (by decide)
            have Av20 : ∀ i : Nat, (0 ≤ (v20 i).toInt ∧ (v20 i).toInt ≤ 1) := by rw [hv20]; exact upd_all (P := fun i x => (0 ≤ (x).toInt ∧ (x).toInt ≤ 1)) Ay3 Gv20
            clear hv20
            refine lv_aload_n hx hb d_X_moveWords_102 rfl (lv_at hl 2 rfl) ?_
            refine va_get (D := D) (ci := 7) (v := .ref p4) (C := "SignMachineModel") (T := F_X) (N := 64) hx hb hk fi_X hown hK.1 hP 0 rfl rfl 3 (by decide) (hk _ k_1124) (fun _ h9 => h9) rfl d_X_moveWords_103 ?_
            refine lv_iconst (v := 1) hx hb d_X_moveWords_106 (by decide) ?_
            refine lv_iload_n hx hb d_X_moveWords_107 rfl (lv_at hl 0 rfl) ?_
            refine lv_if_ge (tgt := 116) hx hb d_X_moveWords_108 (by decide) (fun c21 => absurd c21 (show ¬ (0 : Int32) ≤ v6 from c7)) (fun c21 => ?_)
            refine lv_iload_n hx hb d_X_moveWords_111 rfl (lv_at hl 0 rfl) ?_
            refine lv_ineg hx hb d_X_moveWords_112 ?_
            refine lv_topi (fun v22 hv22 => ?_)
            obtain ⟨ev22, Rv22⟩ : v22.toInt = -v6.toInt ∧ (1 ≤ v22.toInt ∧ v22.toInt ≤ 1073741822) := ng3 hv22 R19 (by decide) (by decide) (by decide) (by decide)
            refine lv_goto (tgt := 117) hx hb d_X_moveWords_113 (by decide) ?_
            refine va_iast hx hb hK.1 hP hD hS 4 0 rfl rfl (by unfold vp_in; decide) d_X_moveWords_117 (fun H locs hP hD hS => ?_)
            have hP : va_P D classes (wS50 cI cJ cZ cB p0 p1 p2 p3 p4 p5 p6 p7 p8 p9 p10 p11 p12 p13 p14 p15 p16 p17 p18 p19 p20 p21 p22 p23 p24 p25 x0_4 x0_5 x0_6 x0_7 x0_8 x0_12 x0_13 x0_14 x0_15 x0_16 x0_17 x0_18 x0_22 x0_23 x0_24 x0_25 x0_26 x0_27 x0_28 x0_29 x0_30 x0_31 x0_32 x0_36 x0_39 x0_40 x0_44 x0_49 x0_51 x0_53 x0_54 x0_55 x0_56 x0_57 x0_58 x0_59 x0_60 x0_61 x0_62 g8y1 g8y2 v20 (upd y4 ((1 : Int32)).toNatClampNeg v22) y5 y6 y7 y8 y9 y10 y11 y12 y13 y14 y15 y16 y17 y18 y19 y20 y21 y22 y23 y24 y25) H := hP
            have hD : va_D A (wS50 cI cJ cZ cB p0 p1 p2 p3 p4 p5 p6 p7 p8 p9 p10 p11 p12 p13 p14 p15 p16 p17 p18 p19 p20 p21 p22 p23 p24 p25 x0_4 x0_5 x0_6 x0_7 x0_8 x0_12 x0_13 x0_14 x0_15 x0_16 x0_17 x0_18 x0_22 x0_23 x0_24 x0_25 x0_26 x0_27 x0_28 x0_29 x0_30 x0_31 x0_32 x0_36 x0_39 x0_40 x0_44 x0_49 x0_51 x0_53 x0_54 x0_55 x0_56 x0_57 x0_58 x0_59 x0_60 x0_61 x0_62 g8y1 g8y2 v20 (upd y4 ((1 : Int32)).toNatClampNeg v22) y5 y6 y7 y8 y9 y10 y11 y12 y13 y14 y15 y16 y17 y18 y19 y20 y21 y22 y23 y24 y25) := hD
            obtain ⟨v23, hv23⟩ : ∃ y : Nat → Int32, y = (upd y4 ((1 : Int32)).toNatClampNeg v22) := ⟨_, rfl⟩
            rw [← hv23] at hP hD
            have : ((((1 : Int32)).toNatClampNeg : Nat) : Int) = 1 := by decide
            have Gv23 : ((0 ≤ (v22).toInt ∧ (v22).toInt ≤ 1073741823) ∧ ((1 ≤ ((((1 : Int32)).toNatClampNeg : Nat) : Int) ∧ ((((1 : Int32)).toNatClampNeg : Nat) : Int) ≤ 6) → (v22).toInt ≤ 4095)) := by refine ⟨by omega, ?_⟩; omega
            have Av23 : ∀ i : Nat, ((0 ≤ (v23 i).toInt ∧ (v23 i).toInt ≤ 1073741823) ∧ ((1 ≤ (i : Int) ∧ (i : Int) ≤ 6) → (v23 i).toInt ≤ 4095)) := by rw [hv23]; exact upd_all (P := fun i x => ((0 ≤ (x).toInt ∧ (x).toInt ≤ 1073741823) ∧ ((1 ≤ (i : Int) ∧ (i : Int) ≤ 6) → (x).toInt ≤ 4095))) Ay4 Gv23
            clear hv23
            exact W.vret hx hb hr (fun t ht hW => ⟨⟨(), rfl, trivial, ⟨g8y1, g8y2, v20, v23, Ag8y1, Ag8y2, Av20, Av23, by show va_P D classes _ t.heap; rw [ht]; exact hP, hD⟩⟩, hS.F ht⟩) hS.2.2 d_X_moveWords_118
      · have gc2 : g8l2.toInt < x0_13.toInt := c_nle c2
        have R24 : 0 ≤ g8l2.toInt ∧ g8l2.toInt ≤ 62 := rf_ltX Rg8l2 Rx0_13 gc2 (by decide) (by decide)
        have R25 : 1 ≤ x0_13.toInt ∧ x0_13.toInt ≤ 63 := rf_ltY Rg8l2 Rx0_13 gc2 (by decide) (by decide)
        refine lv_aload_n hx hb d_X_moveWords_16 rfl (lv_at hl 2 rfl) ?_
        refine va_get (D := D) (ci := 7) (v := .ref p1) (C := "SignMachineModel") (T := F_X) (N := 64) hx hb hk fi_X hown hK.1 hP 0 rfl rfl 0 (by decide) (hk _ k_1121) (fun _ h9 => h9) rfl d_X_moveWords_17 ?_
        refine lv_iload_n hx hb d_X_moveWords_20 rfl (lv_at hl 1 rfl) ?_
        refine lv_iload_n hx hb d_X_moveWords_21 rfl (lv_at hl 0 rfl) ?_
        refine lv_iadd hx hb d_X_moveWords_22 ?_
        refine lv_topi (fun v26 hv26 => ?_)
        obtain ⟨ev26, Rv26⟩ : v26.toInt = rz1.toInt + g8l2.toInt ∧ ((-1073741823) ≤ v26.toInt ∧ v26.toInt ≤ 1073741885) := ad3 hv26 F0z1 R24 (by decide) (by decide) (by decide) (by decide)
        refine lv_aload_n hx hb d_X_moveWords_23 rfl (lv_at hl 2 rfl) ?_
        refine va_get (D := D) (ci := 7) (v := .ref p1) (C := "SignMachineModel") (T := F_X) (N := 64) hx hb hk fi_X hown hK.1 hP 0 rfl rfl 0 (by decide) (hk _ k_1121) (fun _ h9 => h9) rfl d_X_moveWords_24 ?_
        refine lv_aload_n hx hb d_X_moveWords_27 rfl (lv_at hl 2 rfl) ?_
        refine va_get (D := D) (ci := 7) (v := .int x0_15) (C := "SignMachineModel") (T := F_X) (N := 64) hx hb hk fi_X hown hK.1 hP 0 rfl rfl 15 (by decide) (hk _ k_1136) (fun _ h9 => h9) rfl d_X_moveWords_28 ?_
        refine lv_iload_n hx hb d_X_moveWords_31 rfl (lv_at hl 0 rfl) ?_
        refine lv_iadd hx hb d_X_moveWords_32 ?_
        refine lv_topi (fun v27 hv27 => ?_)
        obtain ⟨ev27, Rv27⟩ : v27.toInt = x0_15.toInt + g8l2.toInt ∧ ((-8190) ≤ v27.toInt ∧ v27.toInt ≤ 8252) := ad3 hv27 Rx0_15 R24 (by decide) (by decide) (by decide) (by decide)
        refine va_iald hx hb hK.1 hP 1 0 rfl rfl (by rw [vp_in_iff]; omega) d_X_moveWords_33 ?_
        refine lv_topi (fun v28 hv28 => ?_)
        have Rv28 := Ag8y1 (v27).toNatClampNeg
        rw [← hv28] at Rv28
        refine va_iast hx hb hK.1 hP hD hS 1 0 rfl rfl (by rw [vp_in_iff]; omega) d_X_moveWords_34 (fun H locs hP hD hS => ?_)
        have hP : va_P D classes (wS50 cI cJ cZ cB p0 p1 p2 p3 p4 p5 p6 p7 p8 p9 p10 p11 p12 p13 p14 p15 p16 p17 p18 p19 p20 p21 p22 p23 p24 p25 x0_4 x0_5 x0_6 x0_7 x0_8 x0_12 x0_13 x0_14 x0_15 x0_16 x0_17 x0_18 x0_22 x0_23 x0_24 x0_25 x0_26 x0_27 x0_28 x0_29 x0_30 x0_31 x0_32 x0_36 x0_39 x0_40 x0_44 x0_49 x0_51 x0_53 x0_54 x0_55 x0_56 x0_57 x0_58 x0_59 x0_60 x0_61 x0_62 (upd g8y1 (v26).toNatClampNeg v28) g8y2 y3 y4 y5 y6 y7 y8 y9 y10 y11 y12 y13 y14 y15 y16 y17 y18 y19 y20 y21 y22 y23 y24 y25) H := hP
        have hD : va_D A (wS50 cI cJ cZ cB p0 p1 p2 p3 p4 p5 p6 p7 p8 p9 p10 p11 p12 p13 p14 p15 p16 p17 p18 p19 p20 p21 p22 p23 p24 p25 x0_4 x0_5 x0_6 x0_7 x0_8 x0_12 x0_13 x0_14 x0_15 x0_16 x0_17 x0_18 x0_22 x0_23 x0_24 x0_25 x0_26 x0_27 x0_28 x0_29 x0_30 x0_31 x0_32 x0_36 x0_39 x0_40 x0_44 x0_49 x0_51 x0_53 x0_54 x0_55 x0_56 x0_57 x0_58 x0_59 x0_60 x0_61 x0_62 (upd g8y1 (v26).toNatClampNeg v28) g8y2 y3 y4 y5 y6 y7 y8 y9 y10 y11 y12 y13 y14 y15 y16 y17 y18 y19 y20 y21 y22 y23 y24 y25) := hD
        obtain ⟨v29, hv29⟩ : ∃ y : Nat → Int32, y = (upd g8y1 (v26).toNatClampNeg v28) := ⟨_, rfl⟩
        rw [← hv29] at hP hD
        have Gv29 : (0 ≤ (v28).toInt ∧ (v28).toInt ≤ 1) := Rv28
        have Av29 : ∀ i : Nat, (0 ≤ (v29 i).toInt ∧ (v29 i).toInt ≤ 1) := by rw [hv29]; exact upd_all (P := fun i x => (0 ≤ (x).toInt ∧ (x).toInt ≤ 1)) Ag8y1 Gv29
        clear hv29
        refine lv_aload_n hx hb d_X_moveWords_35 rfl (lv_at hl 2 rfl) ?_
        refine va_get (D := D) (ci := 7) (v := .ref p2) (C := "SignMachineModel") (T := F_X) (N := 64) hx hb hk fi_X hown hK.1 hP 0 rfl rfl 1 (by decide) (hk _ k_1122) (fun _ h9 => h9) rfl d_X_moveWords_36 ?_
        refine lv_iload_n hx hb d_X_moveWords_39 rfl (lv_at hl 1 rfl) ?_
        refine lv_iload_n hx hb d_X_moveWords_40 rfl (lv_at hl 0 rfl) ?_
        refine lv_iadd hx hb d_X_moveWords_41 ?_
        refine lv_topi (fun v30 hv30 => ?_)
        obtain ⟨ev30, Rv30⟩ : v30.toInt = rz1.toInt + g8l2.toInt ∧ ((-1073741823) ≤ v30.toInt ∧ v30.toInt ≤ 1073741885) := ad3 hv30 F0z1 R24 (by decide) (by decide) (by decide) (by decide)
        refine lv_aload_n hx hb d_X_moveWords_42 rfl (lv_at hl 2 rfl) ?_
        refine va_get (D := D) (ci := 7) (v := .ref p2) (C := "SignMachineModel") (T := F_X) (N := 64) hx hb hk fi_X hown hK.1 hP 0 rfl rfl 1 (by decide) (hk _ k_1122) (fun _ h9 => h9) rfl d_X_moveWords_43 ?_
        refine lv_aload_n hx hb d_X_moveWords_46 rfl (lv_at hl 2 rfl) ?_
        refine va_get (D := D) (ci := 7) (v := .int x0_15) (C := "SignMachineModel") (T := F_X) (N := 64) hx hb hk fi_X hown hK.1 hP 0 rfl rfl 15 (by decide) (hk _ k_1136) (fun _ h9 => h9) rfl d_X_moveWords_47 ?_
        refine lv_iload_n hx hb d_X_moveWords_50 rfl (lv_at hl 0 rfl) ?_
        refine lv_iadd hx hb d_X_moveWords_51 ?_
        refine lv_topi (fun v31 hv31 => ?_)
        obtain ⟨ev31, Rv31⟩ : v31.toInt = x0_15.toInt + g8l2.toInt ∧ ((-8190) ≤ v31.toInt ∧ v31.toInt ≤ 8252) := ad3 hv31 Rx0_15 R24 (by decide) (by decide) (by decide) (by decide)
        refine va_iald hx hb hK.1 hP 2 0 rfl rfl (by rw [vp_in_iff]; omega) d_X_moveWords_52 ?_
        refine lv_topi (fun v32 hv32 => ?_)
        have Rv32 := Ag8y2 (v31).toNatClampNeg
        rw [← hv32] at Rv32
        refine va_iast hx hb hK.1 hP hD hS 2 0 rfl rfl (by rw [vp_in_iff]; omega) d_X_moveWords_53 (fun H locs hP hD hS => ?_)
        have hP : va_P D classes (wS50 cI cJ cZ cB p0 p1 p2 p3 p4 p5 p6 p7 p8 p9 p10 p11 p12 p13 p14 p15 p16 p17 p18 p19 p20 p21 p22 p23 p24 p25 x0_4 x0_5 x0_6 x0_7 x0_8 x0_12 x0_13 x0_14 x0_15 x0_16 x0_17 x0_18 x0_22 x0_23 x0_24 x0_25 x0_26 x0_27 x0_28 x0_29 x0_30 x0_31 x0_32 x0_36 x0_39 x0_40 x0_44 x0_49 x0_51 x0_53 x0_54 x0_55 x0_56 x0_57 x0_58 x0_59 x0_60 x0_61 x0_62 v29 (upd g8y2 (v30).toNatClampNeg v32) y3 y4 y5 y6 y7 y8 y9 y10 y11 y12 y13 y14 y15 y16 y17 y18 y19 y20 y21 y22 y23 y24 y25) H := hP
        have hD : va_D A (wS50 cI cJ cZ cB p0 p1 p2 p3 p4 p5 p6 p7 p8 p9 p10 p11 p12 p13 p14 p15 p16 p17 p18 p19 p20 p21 p22 p23 p24 p25 x0_4 x0_5 x0_6 x0_7 x0_8 x0_12 x0_13 x0_14 x0_15 x0_16 x0_17 x0_18 x0_22 x0_23 x0_24 x0_25 x0_26 x0_27 x0_28 x0_29 x0_30 x0_31 x0_32 x0_36 x0_39 x0_40 x0_44 x0_49 x0_51 x0_53 x0_54 x0_55 x0_56 x0_57 x0_58 x0_59 x0_60 x0_61 x0_62 v29 (upd g8y2 (v30).toNatClampNeg v32) y3 y4 y5 y6 y7 y8 y9 y10 y11 y12 y13 y14 y15 y16 y17 y18 y19 y20 y21 y22 y23 y24 y25) := hD
        obtain ⟨v33, hv33⟩ : ∃ y : Nat → Int32, y = (upd g8y2 (v30).toNatClampNeg v32) := ⟨_, rfl⟩
        rw [← hv33] at hP hD
        have Gv33 : (0 ≤ (v32).toInt ∧ (v32).toInt ≤ 1073741823) := Rv32
        have Av33 : ∀ i : Nat, (0 ≤ (v33 i).toInt ∧ (v33 i).toInt ≤ 1073741823) := by rw [hv33]; exact upd_all (P := fun i x => (0 ≤ (x).toInt ∧ (x).toInt ≤ 1073741823)) Ag8y2 Gv33
        clear hv33
        obtain ⟨v34, hv34⟩ : ∃ y : Int32, y = (g8l2 + (1 : Int32)) := ⟨_, rfl⟩
        obtain ⟨ev34, Rv34⟩ : v34.toInt = g8l2.toInt + 1 ∧ (1 ≤ v34.toInt ∧ v34.toInt ≤ 63) := ad3 hv34 R24 (y := (1 : Int32)) (c := 1) (d := 1) (by decide) (by decide) (by decide) (by decide) (by decide)
        refine lv_iinc (v := v34) (lv' := [(2, .int v34), (1, .int rz1), (0, .ref p0)]) hx hb d_X_moveWords_54 hl (k := 0) rfl (by rw [hv34]; rfl) (by decide) rfl (fun ls hl => ?_)
        refine lv_goto (tgt := 8) hx hb d_X_moveWords_57 (by decide) ?_
        exact ih8 v34 v29 v33 H _ ls (show x0_13.toInt - v34.toInt < (n : Int) from by omega) (rgw Rv34 (by decide) (by decide)) Av29 Av33 (show v34.toInt ≤ x0_13.toInt from by omega) hP hD hS (lv_sub hl [0, 1, 2] rfl)
  exact CUT8 ((x0_13.toInt - (0 : Int)).toNat + 1) (0 : Int32) y1 y2 H _ ls (show (x0_13.toInt - (0 : Int)) < (((x0_13.toInt - (0 : Int)).toNat + 1 : Nat) : Int) from by omega) (by decide) Ay1 Ay2 (show (0 : Int) ≤ x0_13.toInt from by omega) hP hD hS (lv_sub hl [0, 1, 2] rfl)
theorem v_X_moveWords {R : Room} {s : State} {args : Array Value} {own : String} {index : Nat} (hk : ∀ w ∈ tb, w.before args s = true) (hl : Cond.methodLink own index y_X_moveWords ∈ tb) (hR : 1 + 1 ≤ R.frames ∧ 8 + (3 + 11) + 21 ≤ R.locals) : CallW R s args own "SignMachineModel" index y_X_moveWords b_X_moveWords 3 none (.code y_X_moveWords b_X_moveWords 3 none :: tb) ({ frames := 1, cells := 0, slots := 0, locals := 21 }) 0 0 0 := mk_v 0 hk k_1502 hl k_1501 k_86 k_119 rfl rfl h_X_moveWords hR
set_option maxHeartbeats 8000000 in
set_option maxRecDepth 100000 in
theorem c_X_stored (l : Launch)  (a1 : Int32) (a2 : Int32) (a3 : Int32) (Q0 : a3.toInt / 8 ≤ a3.toInt % 8 ∧ a3.toInt % 8 ≤ 5) (Q1 : 0 ≤ a1.toInt ∧ a1.toInt ≤ 1073741823) (Q2 : 0 ≤ a2.toInt ∧ a2.toInt ≤ 1073741823) (Q3 : 0 ≤ a3.toInt ∧ a3.toInt ≤ 63) : Met l y_X_stored (.code y_X_stored b_X_stored 12 (some .int) :: tb) ({ frames := 1, cells := 0, slots := 0, locals := 22 }) (va_Pc [.int a1, .int a2, .int a3] (fun _ => True)) (vp_Si (fun ur => (0 ≤ ur.toInt ∧ ur.toInt ≤ 1073741823))) 0 0 (fun _ => False) := by
  refine Met.ofW (cc := b_X_stored) (maxL := 12) (ret := (some .int)) (by decide) rfl ?_
  intro p e s m args below meth c s₁ B hml hv
  obtain ⟨rfl, -⟩ := hv
  have hx := B.exec
  have hb := B.bytes
  have hr := B.returns
  have hts := atoms_spec (ws := .code y_X_stored b_X_stored 12 (some .int) :: tb) B.pre
  have hk : ∀ w ∈ tb, w.before [.int a1, .int a2, .int a3].toArray s = true := fun w h => hts w (List.mem_cons_of_mem _ h)
  have hown : s.vm.findClass "SignMachineModel" = some m.cls := findClass_of_methodNamed B.named
  have hlocks := B.notSynchronized
  have hl := lv_entry ([.int a1, .int a2, .int a3]) (n := 12) (Nat.le_of_ble_eq_true rfl)
  rw [lg_entry_eq]
  generalize (lg_sl ([.int a1, .int a2, .int a3]) ++ List.replicate (12 - (lg_sl ([.int a1, .int a2, .int a3])).length) Slot.unset).toArray = ls at hl ⊢
  have hl : lv_has ls 12 [(0, .int a1), (1, .int a2), (2, .int a3)] := hl
  clear hts B
  refine lv_iload_n hx hb d_X_stored_0 rfl (lv_at hl 2 rfl) ?_
  refine lv_bipush (v := 8) hx hb d_X_stored_1 (by decide) ?_
  refine lv_idiv hx hb d_X_stored_3 (by decide) ?_
  refine lv_topi (fun v1 hv1 => ?_)
  obtain ⟨ev1, Rv1⟩ : v1.toInt = a3.toInt / (8 : Int) ∧ (0 ≤ v1.toInt ∧ v1.toInt ≤ 7) := dv3 hv1 Q3 (show 8 ≤ (8 : Int32).toInt ∧ (8 : Int32).toInt ≤ 8 from by decide) (by decide) (by decide) (by decide)
  refine lv_if_ne (tgt := 11) hx hb d_X_stored_4 (by decide) (fun c2 => ?_) (fun c2 => ?_)
  · have gc2 : v1.toInt ≠ (0 : Int) := c_ne c2
    have R3 : 1 ≤ v1.toInt ∧ v1.toInt ≤ 7 := rf_neX Rv1 (show 0 ≤ (0 : Int) ∧ (0 : Int) ≤ 0 from by decide) gc2 (by decide) (by decide)
    refine lv_iload_n hx hb d_X_stored_11 rfl (lv_at hl 2 rfl) ?_
    refine lv_bipush (v := 8) hx hb d_X_stored_12 (by decide) ?_
    refine lv_idiv hx hb d_X_stored_14 (by decide) ?_
    refine lv_topi (fun v4 hv4 => ?_)
    obtain ⟨ev4, Rv4⟩ : v4.toInt = a3.toInt / (8 : Int) ∧ (0 ≤ v4.toInt ∧ v4.toInt ≤ 7) := dv3 hv4 Q3 (show 8 ≤ (8 : Int32).toInt ∧ (8 : Int32).toInt ≤ 8 from by decide) (by decide) (by decide) (by decide)
    refine lv_istore_n (lv' := [(3, .int v4), (0, .int a1), (1, .int a2), (2, .int a3)]) hx hb d_X_stored_15 rfl hl (by decide) rfl (fun ls hl => ?_)
    refine lv_iload_n hx hb d_X_stored_16 rfl (lv_at hl 3 rfl) ?_
    refine lv_bipush (v := 8) hx hb d_X_stored_17 (by decide) ?_
    refine lv_irem hx hb d_X_stored_19 (by decide) ?_
    refine lv_topi (fun v5 hv5 => ?_)
    obtain ⟨ev5, lv5, Rv5⟩ : v5.toInt = a3.toInt % (8 : Int) ∧ v5.toInt < (8 : Int) ∧ (0 ≤ v5.toInt ∧ v5.toInt ≤ 7) := rm3 hv5 Q3 (show 8 ≤ (8 : Int32).toInt ∧ (8 : Int32).toInt ≤ 8 from by decide) (by decide) (by decide) (by decide)
    refine lv_istore (lv' := [(4, .int v5), (3, .int v4), (0, .int a1), (1, .int a2), (2, .int a3)]) hx hb d_X_stored_20 hl (by decide) rfl (fun ls hl => ?_)
    refine lv_iload hx hb d_X_stored_22 (lv_at hl 0 rfl) ?_
    refine lv_iload_n hx hb d_X_stored_24 rfl (lv_at hl 1 rfl) ?_
    refine lv_icmp_ge (tgt := 30) hx hb d_X_stored_25 (by decide) (fun c6 => ?_) (fun c6 => ?_)
    · have gc6 : v4.toInt ≤ v5.toInt := c_le c6
      refine lv_iconst (v := 5) hx hb d_X_stored_30 (by decide) ?_
      refine lv_iload hx hb d_X_stored_31 (lv_at hl 0 rfl) ?_
      refine lv_isub hx hb d_X_stored_33 ?_
      refine lv_topi (fun v7 hv7 => ?_)
      obtain ⟨ev7, Rv7⟩ : v7.toInt = (5 : Int) - v5.toInt ∧ ((-2) ≤ v7.toInt ∧ v7.toInt ≤ 5) := sb3 hv7 (show 5 ≤ (5 : Int32).toInt ∧ (5 : Int32).toInt ≤ 5 from by decide) Rv5 (by decide) (by decide) (by decide) (by decide)
      refine vp_callSi (W.runS (As := [.int v7]) (rest := []) ⟨hx, hb, hml, hown, hk⟩ (c_X_power l v7 (by omega)) (s_X_power hk k_1415 ⟨Nat.le_of_ble_eq_true rfl, Nat.le_of_ble_eq_true rfl⟩) ⟨fun a U g mk q => q, fun U hU hW => ⟨rfl, trivial⟩⟩ rfl rfl hl.1 rfl (lv_room (Nat.le_of_ble_eq_true rfl)) d_X_stored_34 ⟨Nat.le_of_ble_eq_true rfl, Nat.le_of_ble_eq_true rfl⟩) (fun rz8 hrz8 => ?_)
      obtain ⟨F0z8, F1z8, F2z8, F3z8, F4z8, F5z8, F6z8, F7z8⟩ := hrz8
      have F0z8 : 1 ≤ rz8.toInt ∧ rz8.toInt ≤ 1073741824 := F0z8
      have F1z8 : v7.toInt = 0 → rz8.toInt = 1 := F1z8
      have F2z8 : v7.toInt = 1 → rz8.toInt = 64 := F2z8
      have F3z8 : v7.toInt = 2 → rz8.toInt = 4096 := F3z8
      have F4z8 : v7.toInt = 3 → rz8.toInt = 262144 := F4z8
      have F5z8 : v7.toInt = 4 → rz8.toInt = 16777216 := F5z8
      have F6z8 : v7.toInt = 5 → rz8.toInt = 1073741824 := F6z8
      have F7z8 : rz8.toInt = pw v7.toInt := F7z8
      refine lv_istore (lv' := [(5, .int rz8), (4, .int v5), (3, .int v4), (0, .int a1), (1, .int a2), (2, .int a3)]) hx hb d_X_stored_37 hl (by decide) rfl (fun ls hl => ?_)
      refine lv_iload hx hb d_X_stored_39 (lv_at hl 1 rfl) ?_
      refine lv_iload_n hx hb d_X_stored_41 rfl (lv_at hl 2 rfl) ?_
      refine lv_isub hx hb d_X_stored_42 ?_
      refine lv_topi (fun v9 hv9 => ?_)
      obtain ⟨ev9, Rv9⟩ : v9.toInt = v5.toInt - v4.toInt ∧ ((-7) ≤ v9.toInt ∧ v9.toInt ≤ 7) := sb3 hv9 Rv5 Rv4 (by decide) (by decide) (by decide) (by decide)
      refine lv_iconst (v := 1) hx hb d_X_stored_43 (by decide) ?_
      refine lv_iadd hx hb d_X_stored_44 ?_
      refine lv_topi (fun v10 hv10 => ?_)
      obtain ⟨ev10, Rv10⟩ : v10.toInt = v9.toInt + (1 : Int) ∧ ((-6) ≤ v10.toInt ∧ v10.toInt ≤ 8) := ad3 hv10 Rv9 (show 1 ≤ (1 : Int32).toInt ∧ (1 : Int32).toInt ≤ 1 from by decide) (by decide) (by decide) (by decide) (by decide)
      refine lv_istore (lv' := [(6, .int v10), (5, .int rz8), (4, .int v5), (3, .int v4), (0, .int a1), (1, .int a2), (2, .int a3)]) hx hb d_X_stored_45 hl (by decide) rfl (fun ls hl => ?_)
      refine lv_iload hx hb d_X_stored_47 (lv_at hl 0 rfl) ?_
      refine lv_iconst (v := 5) hx hb d_X_stored_49 (by decide) ?_
      refine lv_icmp_ne (tgt := 58) hx hb d_X_stored_50 (by decide) (fun c11 => ?_) (fun c11 => ?_)
      · have gc11 : v10.toInt ≠ (5 : Int) := c_ne c11
        refine lv_iload hx hb d_X_stored_58 (lv_at hl 0 rfl) ?_
        refine vp_callSi (W.runS (As := [.int v10]) (rest := []) ⟨hx, hb, hml, hown, hk⟩ (c_X_power l v10 (by omega)) (s_X_power hk k_1415 ⟨Nat.le_of_ble_eq_true rfl, Nat.le_of_ble_eq_true rfl⟩) ⟨fun a U g mk q => q, fun U hU hW => ⟨rfl, trivial⟩⟩ rfl rfl hl.1 rfl (lv_room (Nat.le_of_ble_eq_true rfl)) d_X_stored_60 ⟨Nat.le_of_ble_eq_true rfl, Nat.le_of_ble_eq_true rfl⟩) (fun rz12 hrz12 => ?_)
        obtain ⟨F0z12, F1z12, F2z12, F3z12, F4z12, F5z12, F6z12, F7z12⟩ := hrz12
        have F0z12 : 1 ≤ rz12.toInt ∧ rz12.toInt ≤ 1073741824 := F0z12
        have F1z12 : v10.toInt = 0 → rz12.toInt = 1 := F1z12
        have F2z12 : v10.toInt = 1 → rz12.toInt = 64 := F2z12
        have F3z12 : v10.toInt = 2 → rz12.toInt = 4096 := F3z12
        have F4z12 : v10.toInt = 3 → rz12.toInt = 262144 := F4z12
        have F5z12 : v10.toInt = 4 → rz12.toInt = 16777216 := F5z12
        have F6z12 : v10.toInt = 5 → rz12.toInt = 1073741824 := F6z12
        have F7z12 : rz12.toInt = pw v10.toInt := F7z12
        refine lv_istore (lv' := [(7, .int rz12), (6, .int v10), (5, .int rz8), (4, .int v5), (3, .int v4), (0, .int a1), (1, .int a2), (2, .int a3)]) hx hb d_X_stored_63 hl (by decide) rfl (fun ls hl => ?_)
        refine lv_iload_n hx hb d_X_stored_65 rfl (lv_at hl 6 rfl) ?_
        refine lv_iload hx hb d_X_stored_66 (lv_at hl 0 rfl) ?_
        refine lv_irem hx hb d_X_stored_68 (by first | exact nz3 (by omega) | exact nz6 (by omega)) ?_
        refine lv_topi (fun v13 hv13 => ?_)
        obtain ⟨ev13, lv13, Rv13⟩ : v13.toInt = a2.toInt % rz12.toInt ∧ v13.toInt < rz12.toInt ∧ (0 ≤ v13.toInt ∧ v13.toInt ≤ 1073741823) := rm3 hv13 Q2 F0z12 (by decide) (by decide) (by decide)
        refine lv_i2l (v := (v13 : Int32).toInt64) hx hb d_X_stored_69 rfl ?_
        refine lv_topl (fun v14 hv14 => ?_)
        obtain ⟨ev14, Rv14⟩ : v14.toInt = v13.toInt ∧ (0 ≤ v14.toInt ∧ v14.toInt ≤ 1073741823) := il3 hv14 Rv13
        refine lv_iload hx hb d_X_stored_70 (lv_at hl 2 rfl) ?_
        refine lv_i2l (v := (rz8 : Int32).toInt64) hx hb d_X_stored_72 rfl ?_
        refine lv_topl (fun v15 hv15 => ?_)
        obtain ⟨ev15, Rv15⟩ : v15.toInt = rz8.toInt ∧ (1 ≤ v15.toInt ∧ v15.toInt ≤ 1073741824) := il3 hv15 F0z8
        refine lv_lmul hx hb d_X_stored_73 ?_
        refine lv_topl (fun v16 hv16 => ?_)
        obtain ⟨ev16, Rv16⟩ : v16.toInt = v14.toInt * v15.toInt ∧ (0 ≤ v16.toInt ∧ v16.toInt ≤ 1152921503533105152) := ml6 hv16 Rv14 Rv15 (by decide) (by decide) (by decide) (by decide) (by decide) (by decide)
        refine lv_lstore (lv' := [(8, .long v16), (7, .int rz12), (6, .int v10), (5, .int rz8), (4, .int v5), (3, .int v4), (0, .int a1), (1, .int a2), (2, .int a3)]) hx hb d_X_stored_74 hl (by decide) rfl (fun ls hl => ?_)
        refine lv_iload_n hx hb d_X_stored_76 rfl (lv_at hl 6 rfl) ?_
        refine lv_iload hx hb d_X_stored_77 (lv_at hl 3 rfl) ?_
        refine lv_idiv hx hb d_X_stored_79 (by first | exact nz3 (by omega) | exact nz6 (by omega)) ?_
        refine lv_topi (fun v17 hv17 => ?_)
        obtain ⟨ev17, Rv17⟩ : v17.toInt = a1.toInt / rz8.toInt ∧ (0 ≤ v17.toInt ∧ v17.toInt ≤ 1073741823) := dv3 hv17 Q1 F0z8 (by decide) (by decide) (by decide)
        refine lv_iload hx hb d_X_stored_80 (lv_at hl 1 rfl) ?_
        refine lv_irem hx hb d_X_stored_82 (by first | exact nz3 (by omega) | exact nz6 (by omega)) ?_
        refine lv_topi (fun v18 hv18 => ?_)
        obtain ⟨ev18, lv18, Rv18⟩ : v18.toInt = v17.toInt % rz12.toInt ∧ v18.toInt < rz12.toInt ∧ (0 ≤ v18.toInt ∧ v18.toInt ≤ 1073741823) := rm3 hv18 Rv17 F0z12 (by decide) (by decide) (by decide)
        refine lv_i2l (v := (v18 : Int32).toInt64) hx hb d_X_stored_83 rfl ?_
        refine lv_topl (fun v19 hv19 => ?_)
        obtain ⟨ev19, Rv19⟩ : v19.toInt = v18.toInt ∧ (0 ≤ v19.toInt ∧ v19.toInt ≤ 1073741823) := il3 hv19 Rv18
        refine lv_iload hx hb d_X_stored_84 (lv_at hl 3 rfl) ?_
        refine lv_i2l (v := (rz8 : Int32).toInt64) hx hb d_X_stored_86 rfl ?_
        refine lv_topl (fun v20 hv20 => ?_)
        obtain ⟨ev20, Rv20⟩ : v20.toInt = rz8.toInt ∧ (1 ≤ v20.toInt ∧ v20.toInt ≤ 1073741824) := il3 hv20 F0z8
        refine lv_lmul hx hb d_X_stored_87 ?_
        refine lv_topl (fun v21 hv21 => ?_)
        obtain ⟨ev21, Rv21⟩ : v21.toInt = v19.toInt * v20.toInt ∧ (0 ≤ v21.toInt ∧ v21.toInt ≤ 1152921503533105152) := ml6 hv21 Rv19 Rv20 (by decide) (by decide) (by decide) (by decide) (by decide) (by decide)
        refine lv_lstore (lv' := [(10, .long v21), (8, .long v16), (7, .int rz12), (6, .int v10), (5, .int rz8), (4, .int v5), (3, .int v4), (0, .int a1), (1, .int a2), (2, .int a3)]) hx hb d_X_stored_88 hl (by decide) rfl (fun ls hl => ?_)
        refine lv_iload_n hx hb d_X_stored_90 rfl (lv_at hl 7 rfl) ?_
        refine lv_i2l (v := (a1 : Int32).toInt64) hx hb d_X_stored_91 rfl ?_
        refine lv_topl (fun v22 hv22 => ?_)
        obtain ⟨ev22, Rv22⟩ : v22.toInt = a1.toInt ∧ (0 ≤ v22.toInt ∧ v22.toInt ≤ 1073741823) := il3 hv22 Q1
        refine lv_lload hx hb d_X_stored_92 (lv_at hl 0 rfl) ?_
        refine lv_lsub hx hb d_X_stored_94 ?_
        refine lv_topl (fun v23 hv23 => ?_)
        obtain ⟨ev23, Rv23⟩ : v23.toInt = v22.toInt - v21.toInt ∧ ((-1152921503533105152) ≤ v23.toInt ∧ v23.toInt ≤ 1073741823) := sb6 hv23 Rv22 Rv21 (by decide) (by decide) (by decide) (by decide)
        refine lv_lload hx hb d_X_stored_95 (lv_at hl 1 rfl) ?_
        refine lv_ladd hx hb d_X_stored_97 ?_
        refine lv_topl (fun v24 hv24 => ?_)
        obtain ⟨ev24, Rv24⟩ : v24.toInt = v23.toInt + v16.toInt ∧ ((-1152921503533105152) ≤ v24.toInt ∧ v24.toInt ≤ 1152921504606846975) := ad6 hv24 Rv23 Rv16 (by decide) (by decide) (by decide) (by decide)
        have R25 : 0 ≤ v24.toInt ∧ v24.toInt ≤ 1073741823 := st_rng (a := v7.toInt) (n := v10.toInt) (U := rz8.toInt) (Sp := rz12.toInt) Q1 Q2 (by omega) F7z8 F7z12 ev17 ev18 ev13 (by rw [ev24, ev23, ev22, ev21, ev16, ev19, ev20, ev14, ev15])
        refine lv_l2i (v := (v24 : Int64).toInt32) hx hb d_X_stored_98 rfl ?_
        refine lv_topi (fun v26 hv26 => ?_)
        obtain ⟨ev26, Rv26⟩ : v26.toInt = v24.toInt ∧ (0 ≤ v26.toInt ∧ v26.toInt ≤ 1073741823) := li3 hv26 R25 (by decide) (by decide)
        exact W.iret (v := v26) hx hb hr (fun t ht hW => ⟨v26, rfl, Rv26, ht⟩) (fun q h => absurd h List.not_mem_nil) d_X_stored_99
      · have gc11 : v10.toInt = (5 : Int) := c_eq c11
        have R27 : 5 ≤ v10.toInt ∧ v10.toInt ≤ 5 := rf_eqX Rv10 (show 5 ≤ (5 : Int) ∧ (5 : Int) ≤ 5 from by decide) gc11 (by decide) (by decide)
        refine lv_ldc (v := 1073741824) hx hb hown (hk _ k_1473) d_X_stored_53 ?_
        refine lv_goto (tgt := 63) hx hb d_X_stored_55 (by decide) ?_
        refine lv_istore (lv' := [(7, .int (1073741824 : Int32)), (6, .int v10), (5, .int rz8), (4, .int v5), (3, .int v4), (0, .int a1), (1, .int a2), (2, .int a3)]) hx hb d_X_stored_63 hl (by decide) rfl (fun ls hl => ?_)
        refine lv_iload_n hx hb d_X_stored_65 rfl (lv_at hl 6 rfl) ?_
        refine lv_iload hx hb d_X_stored_66 (lv_at hl 0 rfl) ?_
        refine lv_irem hx hb d_X_stored_68 (by decide) ?_
        refine lv_topi (fun v28 hv28 => ?_)
        obtain ⟨ev28, lv28, Rv28⟩ : v28.toInt = a2.toInt % (1073741824 : Int) ∧ v28.toInt < (1073741824 : Int) ∧ (0 ≤ v28.toInt ∧ v28.toInt ≤ 1073741823) := rm3 hv28 Q2 (show 1073741824 ≤ (1073741824 : Int32).toInt ∧ (1073741824 : Int32).toInt ≤ 1073741824 from by decide) (by decide) (by decide) (by decide)
        refine lv_i2l (v := (v28 : Int32).toInt64) hx hb d_X_stored_69 rfl ?_
        refine lv_topl (fun v29 hv29 => ?_)
        obtain ⟨ev29, Rv29⟩ : v29.toInt = v28.toInt ∧ (0 ≤ v29.toInt ∧ v29.toInt ≤ 1073741823) := il3 hv29 Rv28
        refine lv_iload hx hb d_X_stored_70 (lv_at hl 2 rfl) ?_
        refine lv_i2l (v := (rz8 : Int32).toInt64) hx hb d_X_stored_72 rfl ?_
        refine lv_topl (fun v30 hv30 => ?_)
        obtain ⟨ev30, Rv30⟩ : v30.toInt = rz8.toInt ∧ (1 ≤ v30.toInt ∧ v30.toInt ≤ 1073741824) := il3 hv30 F0z8
        refine lv_lmul hx hb d_X_stored_73 ?_
        refine lv_topl (fun v31 hv31 => ?_)
        obtain ⟨ev31, Rv31⟩ : v31.toInt = v29.toInt * v30.toInt ∧ (0 ≤ v31.toInt ∧ v31.toInt ≤ 1152921503533105152) := ml6 hv31 Rv29 Rv30 (by decide) (by decide) (by decide) (by decide) (by decide) (by decide)
        refine lv_lstore (lv' := [(8, .long v31), (7, .int (1073741824 : Int32)), (6, .int v10), (5, .int rz8), (4, .int v5), (3, .int v4), (0, .int a1), (1, .int a2), (2, .int a3)]) hx hb d_X_stored_74 hl (by decide) rfl (fun ls hl => ?_)
        refine lv_iload_n hx hb d_X_stored_76 rfl (lv_at hl 6 rfl) ?_
        refine lv_iload hx hb d_X_stored_77 (lv_at hl 3 rfl) ?_
        refine lv_idiv hx hb d_X_stored_79 (by first | exact nz3 (by omega) | exact nz6 (by omega)) ?_
        refine lv_topi (fun v32 hv32 => ?_)
        obtain ⟨ev32, Rv32⟩ : v32.toInt = a1.toInt / rz8.toInt ∧ (0 ≤ v32.toInt ∧ v32.toInt ≤ 1073741823) := dv3 hv32 Q1 F0z8 (by decide) (by decide) (by decide)
        refine lv_iload hx hb d_X_stored_80 (lv_at hl 1 rfl) ?_
        refine lv_irem hx hb d_X_stored_82 (by decide) ?_
        refine lv_topi (fun v33 hv33 => ?_)
        obtain ⟨ev33, lv33, Rv33⟩ : v33.toInt = v32.toInt % (1073741824 : Int) ∧ v33.toInt < (1073741824 : Int) ∧ (0 ≤ v33.toInt ∧ v33.toInt ≤ 1073741823) := rm3 hv33 Rv32 (show 1073741824 ≤ (1073741824 : Int32).toInt ∧ (1073741824 : Int32).toInt ≤ 1073741824 from by decide) (by decide) (by decide) (by decide)
        refine lv_i2l (v := (v33 : Int32).toInt64) hx hb d_X_stored_83 rfl ?_
        refine lv_topl (fun v34 hv34 => ?_)
        obtain ⟨ev34, Rv34⟩ : v34.toInt = v33.toInt ∧ (0 ≤ v34.toInt ∧ v34.toInt ≤ 1073741823) := il3 hv34 Rv33
        refine lv_iload hx hb d_X_stored_84 (lv_at hl 3 rfl) ?_
        refine lv_i2l (v := (rz8 : Int32).toInt64) hx hb d_X_stored_86 rfl ?_
        refine lv_topl (fun v35 hv35 => ?_)
        obtain ⟨ev35, Rv35⟩ : v35.toInt = rz8.toInt ∧ (1 ≤ v35.toInt ∧ v35.toInt ≤ 1073741824) := il3 hv35 F0z8
        refine lv_lmul hx hb d_X_stored_87 ?_
        refine lv_topl (fun v36 hv36 => ?_)
        obtain ⟨ev36, Rv36⟩ : v36.toInt = v34.toInt * v35.toInt ∧ (0 ≤ v36.toInt ∧ v36.toInt ≤ 1152921503533105152) := ml6 hv36 Rv34 Rv35 (by decide) (by decide) (by decide) (by decide) (by decide) (by decide)
        refine lv_lstore (lv' := [(10, .long v36), (8, .long v31), (7, .int (1073741824 : Int32)), (6, .int v10), (5, .int rz8), (4, .int v5), (3, .int v4), (0, .int a1), (1, .int a2), (2, .int a3)]) hx hb d_X_stored_88 hl (by decide) rfl (fun ls hl => ?_)
        refine lv_iload_n hx hb d_X_stored_90 rfl (lv_at hl 7 rfl) ?_
        refine lv_i2l (v := (a1 : Int32).toInt64) hx hb d_X_stored_91 rfl ?_
        refine lv_topl (fun v37 hv37 => ?_)
        obtain ⟨ev37, Rv37⟩ : v37.toInt = a1.toInt ∧ (0 ≤ v37.toInt ∧ v37.toInt ≤ 1073741823) := il3 hv37 Q1
        refine lv_lload hx hb d_X_stored_92 (lv_at hl 0 rfl) ?_
        refine lv_lsub hx hb d_X_stored_94 ?_
        refine lv_topl (fun v38 hv38 => ?_)
        obtain ⟨ev38, Rv38⟩ : v38.toInt = v37.toInt - v36.toInt ∧ ((-1152921503533105152) ≤ v38.toInt ∧ v38.toInt ≤ 1073741823) := sb6 hv38 Rv37 Rv36 (by decide) (by decide) (by decide) (by decide)
        refine lv_lload hx hb d_X_stored_95 (lv_at hl 1 rfl) ?_
        refine lv_ladd hx hb d_X_stored_97 ?_
        refine lv_topl (fun v39 hv39 => ?_)
        obtain ⟨ev39, Rv39⟩ : v39.toInt = v38.toInt + v31.toInt ∧ ((-1152921503533105152) ≤ v39.toInt ∧ v39.toInt ≤ 1152921504606846975) := ad6 hv39 Rv38 Rv31 (by decide) (by decide) (by decide) (by decide)
        have R40 : 0 ≤ v39.toInt ∧ v39.toInt ≤ 1073741823 := st_rng (a := v7.toInt) (n := (5 : Int)) (U := rz8.toInt) (Sp := (1073741824 : Int)) Q1 Q2 (by omega) F7z8 (show (1073741824 : Int) = pw 5 from by decide) ev32 ev33 ev28 (by rw [ev39, ev38, ev37, ev36, ev31, ev34, ev35, ev29, ev30])
        refine lv_l2i (v := (v39 : Int64).toInt32) hx hb d_X_stored_98 rfl ?_
        refine lv_topi (fun v41 hv41 => ?_)
        obtain ⟨ev41, Rv41⟩ : v41.toInt = v39.toInt ∧ (0 ≤ v41.toInt ∧ v41.toInt ≤ 1073741823) := li3 hv41 R40 (by decide) (by decide)
        exact W.iret (v := v41) hx hb hr (fun t ht hW => ⟨v41, rfl, Rv41, ht⟩) (fun q h => absurd h List.not_mem_nil) d_X_stored_99
    · have gc6 : v5.toInt < v4.toInt := c_nle c6
      have R42 : 0 ≤ v5.toInt ∧ v5.toInt ≤ 6 := rf_ltX Rv5 Rv4 gc6 (by decide) (by decide)
      have R43 : 1 ≤ v4.toInt ∧ v4.toInt ≤ 7 := rf_ltY Rv5 Rv4 gc6 (by decide) (by decide)
      refine lv_iload_n hx hb d_X_stored_28 rfl (lv_at hl 2 rfl) ?_
      exact W.iret (v := a1) hx hb hr (fun t ht hW => ⟨a1, rfl, Q1, ht⟩) (fun q h => absurd h List.not_mem_nil) d_X_stored_29
  · have gc2 : v1.toInt = (0 : Int) := c_eq c2
    have R44 : 0 ≤ v1.toInt ∧ v1.toInt ≤ 0 := rf_eqX Rv1 (show 0 ≤ (0 : Int) ∧ (0 : Int) ≤ 0 from by decide) gc2 (by decide) (by decide)
    refine lv_iconst (v := 1) hx hb d_X_stored_7 (by decide) ?_
    refine lv_goto (tgt := 15) hx hb d_X_stored_8 (by decide) ?_
    refine lv_istore_n (lv' := [(3, .int (1 : Int32)), (0, .int a1), (1, .int a2), (2, .int a3)]) hx hb d_X_stored_15 rfl hl (by decide) rfl (fun ls hl => ?_)
    refine lv_iload_n hx hb d_X_stored_16 rfl (lv_at hl 3 rfl) ?_
    refine lv_bipush (v := 8) hx hb d_X_stored_17 (by decide) ?_
    refine lv_irem hx hb d_X_stored_19 (by decide) ?_
    refine lv_topi (fun v45 hv45 => ?_)
    obtain ⟨ev45, lv45, Rv45⟩ : v45.toInt = a3.toInt % (8 : Int) ∧ v45.toInt < (8 : Int) ∧ (0 ≤ v45.toInt ∧ v45.toInt ≤ 7) := rm3 hv45 Q3 (show 8 ≤ (8 : Int32).toInt ∧ (8 : Int32).toInt ≤ 8 from by decide) (by decide) (by decide) (by decide)
    refine lv_istore (lv' := [(4, .int v45), (3, .int (1 : Int32)), (0, .int a1), (1, .int a2), (2, .int a3)]) hx hb d_X_stored_20 hl (by decide) rfl (fun ls hl => ?_)
    refine lv_iload hx hb d_X_stored_22 (lv_at hl 0 rfl) ?_
    refine lv_iload_n hx hb d_X_stored_24 rfl (lv_at hl 1 rfl) ?_
    refine lv_icmp_ge (tgt := 30) hx hb d_X_stored_25 (by decide) (fun c46 => ?_) (fun c46 => ?_)
    · have gc46 : (1 : Int) ≤ v45.toInt := c_le c46
      have R47 : 1 ≤ v45.toInt ∧ v45.toInt ≤ 7 := rf_geX Rv45 (show 1 ≤ (1 : Int) ∧ (1 : Int) ≤ 1 from by decide) gc46 (by decide) (by decide)
      refine lv_iconst (v := 5) hx hb d_X_stored_30 (by decide) ?_
      refine lv_iload hx hb d_X_stored_31 (lv_at hl 0 rfl) ?_
      refine lv_isub hx hb d_X_stored_33 ?_
      refine lv_topi (fun v48 hv48 => ?_)
      obtain ⟨ev48, Rv48⟩ : v48.toInt = (5 : Int) - v45.toInt ∧ ((-2) ≤ v48.toInt ∧ v48.toInt ≤ 4) := sb3 hv48 (show 5 ≤ (5 : Int32).toInt ∧ (5 : Int32).toInt ≤ 5 from by decide) R47 (by decide) (by decide) (by decide) (by decide)
      refine vp_callSi (W.runS (As := [.int v48]) (rest := []) ⟨hx, hb, hml, hown, hk⟩ (c_X_power l v48 (by omega)) (s_X_power hk k_1415 ⟨Nat.le_of_ble_eq_true rfl, Nat.le_of_ble_eq_true rfl⟩) ⟨fun a U g mk q => q, fun U hU hW => ⟨rfl, trivial⟩⟩ rfl rfl hl.1 rfl (lv_room (Nat.le_of_ble_eq_true rfl)) d_X_stored_34 ⟨Nat.le_of_ble_eq_true rfl, Nat.le_of_ble_eq_true rfl⟩) (fun rz49 hrz49 => ?_)
      obtain ⟨F0z49, F1z49, F2z49, F3z49, F4z49, F5z49, F6z49, F7z49⟩ := hrz49
      have F0z49 : 1 ≤ rz49.toInt ∧ rz49.toInt ≤ 1073741824 := F0z49
      have F1z49 : v48.toInt = 0 → rz49.toInt = 1 := F1z49
      have F2z49 : v48.toInt = 1 → rz49.toInt = 64 := F2z49
      have F3z49 : v48.toInt = 2 → rz49.toInt = 4096 := F3z49
      have F4z49 : v48.toInt = 3 → rz49.toInt = 262144 := F4z49
      have F5z49 : v48.toInt = 4 → rz49.toInt = 16777216 := F5z49
      have F6z49 : v48.toInt = 5 → rz49.toInt = 1073741824 := F6z49
      have F7z49 : rz49.toInt = pw v48.toInt := F7z49
      refine lv_istore (lv' := [(5, .int rz49), (4, .int v45), (3, .int (1 : Int32)), (0, .int a1), (1, .int a2), (2, .int a3)]) hx hb d_X_stored_37 hl (by decide) rfl (fun ls hl => ?_)
      refine lv_iload hx hb d_X_stored_39 (lv_at hl 1 rfl) ?_
      refine lv_iload_n hx hb d_X_stored_41 rfl (lv_at hl 2 rfl) ?_
      refine lv_isub hx hb d_X_stored_42 ?_
      refine lv_topi (fun v50 hv50 => ?_)
      obtain ⟨ev50, Rv50⟩ : v50.toInt = v45.toInt - (1 : Int) ∧ (0 ≤ v50.toInt ∧ v50.toInt ≤ 6) := sb3 hv50 R47 (show 1 ≤ (1 : Int32).toInt ∧ (1 : Int32).toInt ≤ 1 from by decide) (by decide) (by decide) (by decide) (by decide)
      refine lv_iconst (v := 1) hx hb d_X_stored_43 (by decide) ?_
      refine lv_iadd hx hb d_X_stored_44 ?_
      refine lv_topi (fun v51 hv51 => ?_)
      obtain ⟨ev51, Rv51⟩ : v51.toInt = v50.toInt + (1 : Int) ∧ (1 ≤ v51.toInt ∧ v51.toInt ≤ 7) := ad3 hv51 Rv50 (show 1 ≤ (1 : Int32).toInt ∧ (1 : Int32).toInt ≤ 1 from by decide) (by decide) (by decide) (by decide) (by decide)
      refine lv_istore (lv' := [(6, .int v51), (5, .int rz49), (4, .int v45), (3, .int (1 : Int32)), (0, .int a1), (1, .int a2), (2, .int a3)]) hx hb d_X_stored_45 hl (by decide) rfl (fun ls hl => ?_)
      refine lv_iload hx hb d_X_stored_47 (lv_at hl 0 rfl) ?_
      refine lv_iconst (v := 5) hx hb d_X_stored_49 (by decide) ?_
      refine lv_icmp_ne (tgt := 58) hx hb d_X_stored_50 (by decide) (fun c52 => ?_) (fun c52 => ?_)
      · have gc52 : v51.toInt ≠ (5 : Int) := c_ne c52
        refine lv_iload hx hb d_X_stored_58 (lv_at hl 0 rfl) ?_
        refine vp_callSi (W.runS (As := [.int v51]) (rest := []) ⟨hx, hb, hml, hown, hk⟩ (c_X_power l v51 (by omega)) (s_X_power hk k_1415 ⟨Nat.le_of_ble_eq_true rfl, Nat.le_of_ble_eq_true rfl⟩) ⟨fun a U g mk q => q, fun U hU hW => ⟨rfl, trivial⟩⟩ rfl rfl hl.1 rfl (lv_room (Nat.le_of_ble_eq_true rfl)) d_X_stored_60 ⟨Nat.le_of_ble_eq_true rfl, Nat.le_of_ble_eq_true rfl⟩) (fun rz53 hrz53 => ?_)
        obtain ⟨F0z53, F1z53, F2z53, F3z53, F4z53, F5z53, F6z53, F7z53⟩ := hrz53
        have F0z53 : 1 ≤ rz53.toInt ∧ rz53.toInt ≤ 1073741824 := F0z53
        have F1z53 : v51.toInt = 0 → rz53.toInt = 1 := F1z53
        have F2z53 : v51.toInt = 1 → rz53.toInt = 64 := F2z53
        have F3z53 : v51.toInt = 2 → rz53.toInt = 4096 := F3z53
        have F4z53 : v51.toInt = 3 → rz53.toInt = 262144 := F4z53
        have F5z53 : v51.toInt = 4 → rz53.toInt = 16777216 := F5z53
        have F6z53 : v51.toInt = 5 → rz53.toInt = 1073741824 := F6z53
        have F7z53 : rz53.toInt = pw v51.toInt := F7z53
        refine lv_istore (lv' := [(7, .int rz53), (6, .int v51), (5, .int rz49), (4, .int v45), (3, .int (1 : Int32)), (0, .int a1), (1, .int a2), (2, .int a3)]) hx hb d_X_stored_63 hl (by decide) rfl (fun ls hl => ?_)
        refine lv_iload_n hx hb d_X_stored_65 rfl (lv_at hl 6 rfl) ?_
        refine lv_iload hx hb d_X_stored_66 (lv_at hl 0 rfl) ?_
        refine lv_irem hx hb d_X_stored_68 (by first | exact nz3 (by omega) | exact nz6 (by omega)) ?_
        refine lv_topi (fun v54 hv54 => ?_)
        obtain ⟨ev54, lv54, Rv54⟩ : v54.toInt = a2.toInt % rz53.toInt ∧ v54.toInt < rz53.toInt ∧ (0 ≤ v54.toInt ∧ v54.toInt ≤ 1073741823) := rm3 hv54 Q2 F0z53 (by decide) (by decide) (by decide)
        refine lv_i2l (v := (v54 : Int32).toInt64) hx hb d_X_stored_69 rfl ?_
        refine lv_topl (fun v55 hv55 => ?_)
        obtain ⟨ev55, Rv55⟩ : v55.toInt = v54.toInt ∧ (0 ≤ v55.toInt ∧ v55.toInt ≤ 1073741823) := il3 hv55 Rv54
        refine lv_iload hx hb d_X_stored_70 (lv_at hl 2 rfl) ?_
        refine lv_i2l (v := (rz49 : Int32).toInt64) hx hb d_X_stored_72 rfl ?_
        refine lv_topl (fun v56 hv56 => ?_)
        obtain ⟨ev56, Rv56⟩ : v56.toInt = rz49.toInt ∧ (1 ≤ v56.toInt ∧ v56.toInt ≤ 1073741824) := il3 hv56 F0z49
        refine lv_lmul hx hb d_X_stored_73 ?_
        refine lv_topl (fun v57 hv57 => ?_)
        obtain ⟨ev57, Rv57⟩ : v57.toInt = v55.toInt * v56.toInt ∧ (0 ≤ v57.toInt ∧ v57.toInt ≤ 1152921503533105152) := ml6 hv57 Rv55 Rv56 (by decide) (by decide) (by decide) (by decide) (by decide) (by decide)
        refine lv_lstore (lv' := [(8, .long v57), (7, .int rz53), (6, .int v51), (5, .int rz49), (4, .int v45), (3, .int (1 : Int32)), (0, .int a1), (1, .int a2), (2, .int a3)]) hx hb d_X_stored_74 hl (by decide) rfl (fun ls hl => ?_)
        refine lv_iload_n hx hb d_X_stored_76 rfl (lv_at hl 6 rfl) ?_
        refine lv_iload hx hb d_X_stored_77 (lv_at hl 3 rfl) ?_
        refine lv_idiv hx hb d_X_stored_79 (by first | exact nz3 (by omega) | exact nz6 (by omega)) ?_
        refine lv_topi (fun v58 hv58 => ?_)
        obtain ⟨ev58, Rv58⟩ : v58.toInt = a1.toInt / rz49.toInt ∧ (0 ≤ v58.toInt ∧ v58.toInt ≤ 1073741823) := dv3 hv58 Q1 F0z49 (by decide) (by decide) (by decide)
        refine lv_iload hx hb d_X_stored_80 (lv_at hl 1 rfl) ?_
        refine lv_irem hx hb d_X_stored_82 (by first | exact nz3 (by omega) | exact nz6 (by omega)) ?_
        refine lv_topi (fun v59 hv59 => ?_)
        obtain ⟨ev59, lv59, Rv59⟩ : v59.toInt = v58.toInt % rz53.toInt ∧ v59.toInt < rz53.toInt ∧ (0 ≤ v59.toInt ∧ v59.toInt ≤ 1073741823) := rm3 hv59 Rv58 F0z53 (by decide) (by decide) (by decide)
        refine lv_i2l (v := (v59 : Int32).toInt64) hx hb d_X_stored_83 rfl ?_
        refine lv_topl (fun v60 hv60 => ?_)
        obtain ⟨ev60, Rv60⟩ : v60.toInt = v59.toInt ∧ (0 ≤ v60.toInt ∧ v60.toInt ≤ 1073741823) := il3 hv60 Rv59
        refine lv_iload hx hb d_X_stored_84 (lv_at hl 3 rfl) ?_
        refine lv_i2l (v := (rz49 : Int32).toInt64) hx hb d_X_stored_86 rfl ?_
        refine lv_topl (fun v61 hv61 => ?_)
        obtain ⟨ev61, Rv61⟩ : v61.toInt = rz49.toInt ∧ (1 ≤ v61.toInt ∧ v61.toInt ≤ 1073741824) := il3 hv61 F0z49
        refine lv_lmul hx hb d_X_stored_87 ?_
        refine lv_topl (fun v62 hv62 => ?_)
        obtain ⟨ev62, Rv62⟩ : v62.toInt = v60.toInt * v61.toInt ∧ (0 ≤ v62.toInt ∧ v62.toInt ≤ 1152921503533105152) := ml6 hv62 Rv60 Rv61 (by decide) (by decide) (by decide) (by decide) (by decide) (by decide)
        refine lv_lstore (lv' := [(10, .long v62), (8, .long v57), (7, .int rz53), (6, .int v51), (5, .int rz49), (4, .int v45), (3, .int (1 : Int32)), (0, .int a1), (1, .int a2), (2, .int a3)]) hx hb d_X_stored_88 hl (by decide) rfl (fun ls hl => ?_)
        refine lv_iload_n hx hb d_X_stored_90 rfl (lv_at hl 7 rfl) ?_
        refine lv_i2l (v := (a1 : Int32).toInt64) hx hb d_X_stored_91 rfl ?_
        refine lv_topl (fun v63 hv63 => ?_)
        obtain ⟨ev63, Rv63⟩ : v63.toInt = a1.toInt ∧ (0 ≤ v63.toInt ∧ v63.toInt ≤ 1073741823) := il3 hv63 Q1
        refine lv_lload hx hb d_X_stored_92 (lv_at hl 0 rfl) ?_
        refine lv_lsub hx hb d_X_stored_94 ?_
        refine lv_topl (fun v64 hv64 => ?_)
        obtain ⟨ev64, Rv64⟩ : v64.toInt = v63.toInt - v62.toInt ∧ ((-1152921503533105152) ≤ v64.toInt ∧ v64.toInt ≤ 1073741823) := sb6 hv64 Rv63 Rv62 (by decide) (by decide) (by decide) (by decide)
        refine lv_lload hx hb d_X_stored_95 (lv_at hl 1 rfl) ?_
        refine lv_ladd hx hb d_X_stored_97 ?_
        refine lv_topl (fun v65 hv65 => ?_)
        obtain ⟨ev65, Rv65⟩ : v65.toInt = v64.toInt + v57.toInt ∧ ((-1152921503533105152) ≤ v65.toInt ∧ v65.toInt ≤ 1152921504606846975) := ad6 hv65 Rv64 Rv57 (by decide) (by decide) (by decide) (by decide)
        have R66 : 0 ≤ v65.toInt ∧ v65.toInt ≤ 1073741823 := st_rng (a := v48.toInt) (n := v51.toInt) (U := rz49.toInt) (Sp := rz53.toInt) Q1 Q2 (by omega) F7z49 F7z53 ev58 ev59 ev54 (by rw [ev65, ev64, ev63, ev62, ev57, ev60, ev61, ev55, ev56])
        refine lv_l2i (v := (v65 : Int64).toInt32) hx hb d_X_stored_98 rfl ?_
        refine lv_topi (fun v67 hv67 => ?_)
        obtain ⟨ev67, Rv67⟩ : v67.toInt = v65.toInt ∧ (0 ≤ v67.toInt ∧ v67.toInt ≤ 1073741823) := li3 hv67 R66 (by decide) (by decide)
        exact W.iret (v := v67) hx hb hr (fun t ht hW => ⟨v67, rfl, Rv67, ht⟩) (fun q h => absurd h List.not_mem_nil) d_X_stored_99
      · have gc52 : v51.toInt = (5 : Int) := c_eq c52
        have R68 : 5 ≤ v51.toInt ∧ v51.toInt ≤ 5 := rf_eqX Rv51 (show 5 ≤ (5 : Int) ∧ (5 : Int) ≤ 5 from by decide) gc52 (by decide) (by decide)
        refine lv_ldc (v := 1073741824) hx hb hown (hk _ k_1473) d_X_stored_53 ?_
        refine lv_goto (tgt := 63) hx hb d_X_stored_55 (by decide) ?_
        refine lv_istore (lv' := [(7, .int (1073741824 : Int32)), (6, .int v51), (5, .int rz49), (4, .int v45), (3, .int (1 : Int32)), (0, .int a1), (1, .int a2), (2, .int a3)]) hx hb d_X_stored_63 hl (by decide) rfl (fun ls hl => ?_)
        refine lv_iload_n hx hb d_X_stored_65 rfl (lv_at hl 6 rfl) ?_
        refine lv_iload hx hb d_X_stored_66 (lv_at hl 0 rfl) ?_
        refine lv_irem hx hb d_X_stored_68 (by decide) ?_
        refine lv_topi (fun v69 hv69 => ?_)
        obtain ⟨ev69, lv69, Rv69⟩ : v69.toInt = a2.toInt % (1073741824 : Int) ∧ v69.toInt < (1073741824 : Int) ∧ (0 ≤ v69.toInt ∧ v69.toInt ≤ 1073741823) := rm3 hv69 Q2 (show 1073741824 ≤ (1073741824 : Int32).toInt ∧ (1073741824 : Int32).toInt ≤ 1073741824 from by decide) (by decide) (by decide) (by decide)
        refine lv_i2l (v := (v69 : Int32).toInt64) hx hb d_X_stored_69 rfl ?_
        refine lv_topl (fun v70 hv70 => ?_)
        obtain ⟨ev70, Rv70⟩ : v70.toInt = v69.toInt ∧ (0 ≤ v70.toInt ∧ v70.toInt ≤ 1073741823) := il3 hv70 Rv69
        refine lv_iload hx hb d_X_stored_70 (lv_at hl 2 rfl) ?_
        refine lv_i2l (v := (rz49 : Int32).toInt64) hx hb d_X_stored_72 rfl ?_
        refine lv_topl (fun v71 hv71 => ?_)
        obtain ⟨ev71, Rv71⟩ : v71.toInt = rz49.toInt ∧ (1 ≤ v71.toInt ∧ v71.toInt ≤ 1073741824) := il3 hv71 F0z49
        refine lv_lmul hx hb d_X_stored_73 ?_
        refine lv_topl (fun v72 hv72 => ?_)
        obtain ⟨ev72, Rv72⟩ : v72.toInt = v70.toInt * v71.toInt ∧ (0 ≤ v72.toInt ∧ v72.toInt ≤ 1152921503533105152) := ml6 hv72 Rv70 Rv71 (by decide) (by decide) (by decide) (by decide) (by decide) (by decide)
        refine lv_lstore (lv' := [(8, .long v72), (7, .int (1073741824 : Int32)), (6, .int v51), (5, .int rz49), (4, .int v45), (3, .int (1 : Int32)), (0, .int a1), (1, .int a2), (2, .int a3)]) hx hb d_X_stored_74 hl (by decide) rfl (fun ls hl => ?_)
        refine lv_iload_n hx hb d_X_stored_76 rfl (lv_at hl 6 rfl) ?_
        refine lv_iload hx hb d_X_stored_77 (lv_at hl 3 rfl) ?_
        refine lv_idiv hx hb d_X_stored_79 (by first | exact nz3 (by omega) | exact nz6 (by omega)) ?_
        refine lv_topi (fun v73 hv73 => ?_)
        obtain ⟨ev73, Rv73⟩ : v73.toInt = a1.toInt / rz49.toInt ∧ (0 ≤ v73.toInt ∧ v73.toInt ≤ 1073741823) := dv3 hv73 Q1 F0z49 (by decide) (by decide) (by decide)
        refine lv_iload hx hb d_X_stored_80 (lv_at hl 1 rfl) ?_
        refine lv_irem hx hb d_X_stored_82 (by decide) ?_
        refine lv_topi (fun v74 hv74 => ?_)
        obtain ⟨ev74, lv74, Rv74⟩ : v74.toInt = v73.toInt % (1073741824 : Int) ∧ v74.toInt < (1073741824 : Int) ∧ (0 ≤ v74.toInt ∧ v74.toInt ≤ 1073741823) := rm3 hv74 Rv73 (show 1073741824 ≤ (1073741824 : Int32).toInt ∧ (1073741824 : Int32).toInt ≤ 1073741824 from by decide) (by decide) (by decide) (by decide)
        refine lv_i2l (v := (v74 : Int32).toInt64) hx hb d_X_stored_83 rfl ?_
        refine lv_topl (fun v75 hv75 => ?_)
        obtain ⟨ev75, Rv75⟩ : v75.toInt = v74.toInt ∧ (0 ≤ v75.toInt ∧ v75.toInt ≤ 1073741823) := il3 hv75 Rv74
        refine lv_iload hx hb d_X_stored_84 (lv_at hl 3 rfl) ?_
        refine lv_i2l (v := (rz49 : Int32).toInt64) hx hb d_X_stored_86 rfl ?_
        refine lv_topl (fun v76 hv76 => ?_)
        obtain ⟨ev76, Rv76⟩ : v76.toInt = rz49.toInt ∧ (1 ≤ v76.toInt ∧ v76.toInt ≤ 1073741824) := il3 hv76 F0z49
        refine lv_lmul hx hb d_X_stored_87 ?_
        refine lv_topl (fun v77 hv77 => ?_)
        obtain ⟨ev77, Rv77⟩ : v77.toInt = v75.toInt * v76.toInt ∧ (0 ≤ v77.toInt ∧ v77.toInt ≤ 1152921503533105152) := ml6 hv77 Rv75 Rv76 (by decide) (by decide) (by decide) (by decide) (by decide) (by decide)
        refine lv_lstore (lv' := [(10, .long v77), (8, .long v72), (7, .int (1073741824 : Int32)), (6, .int v51), (5, .int rz49), (4, .int v45), (3, .int (1 : Int32)), (0, .int a1), (1, .int a2), (2, .int a3)]) hx hb d_X_stored_88 hl (by decide) rfl (fun ls hl => ?_)
        refine lv_iload_n hx hb d_X_stored_90 rfl (lv_at hl 7 rfl) ?_
        refine lv_i2l (v := (a1 : Int32).toInt64) hx hb d_X_stored_91 rfl ?_
        refine lv_topl (fun v78 hv78 => ?_)
        obtain ⟨ev78, Rv78⟩ : v78.toInt = a1.toInt ∧ (0 ≤ v78.toInt ∧ v78.toInt ≤ 1073741823) := il3 hv78 Q1
        refine lv_lload hx hb d_X_stored_92 (lv_at hl 0 rfl) ?_
        refine lv_lsub hx hb d_X_stored_94 ?_
        refine lv_topl (fun v79 hv79 => ?_)
        obtain ⟨ev79, Rv79⟩ : v79.toInt = v78.toInt - v77.toInt ∧ ((-1152921503533105152) ≤ v79.toInt ∧ v79.toInt ≤ 1073741823) := sb6 hv79 Rv78 Rv77 (by decide) (by decide) (by decide) (by decide)
        refine lv_lload hx hb d_X_stored_95 (lv_at hl 1 rfl) ?_
        refine lv_ladd hx hb d_X_stored_97 ?_
        refine lv_topl (fun v80 hv80 => ?_)
        obtain ⟨ev80, Rv80⟩ : v80.toInt = v79.toInt + v72.toInt ∧ ((-1152921503533105152) ≤ v80.toInt ∧ v80.toInt ≤ 1152921504606846975) := ad6 hv80 Rv79 Rv72 (by decide) (by decide) (by decide) (by decide)
        have R81 : 0 ≤ v80.toInt ∧ v80.toInt ≤ 1073741823 := st_rng (a := v48.toInt) (n := (5 : Int)) (U := rz49.toInt) (Sp := (1073741824 : Int)) Q1 Q2 (by omega) F7z49 (show (1073741824 : Int) = pw 5 from by decide) ev73 ev74 ev69 (by rw [ev80, ev79, ev78, ev77, ev72, ev75, ev76, ev70, ev71])
        refine lv_l2i (v := (v80 : Int64).toInt32) hx hb d_X_stored_98 rfl ?_
        refine lv_topi (fun v82 hv82 => ?_)
        obtain ⟨ev82, Rv82⟩ : v82.toInt = v80.toInt ∧ (0 ≤ v82.toInt ∧ v82.toInt ≤ 1073741823) := li3 hv82 R81 (by decide) (by decide)
        exact W.iret (v := v82) hx hb hr (fun t ht hW => ⟨v82, rfl, Rv82, ht⟩) (fun q h => absurd h List.not_mem_nil) d_X_stored_99
    · have gc46 : v45.toInt < (1 : Int) := c_nle c46
      have R83 : 0 ≤ v45.toInt ∧ v45.toInt ≤ 0 := rf_ltX Rv45 (show 1 ≤ (1 : Int) ∧ (1 : Int) ≤ 1 from by decide) gc46 (by decide) (by decide)
      refine lv_iload_n hx hb d_X_stored_28 rfl (lv_at hl 2 rfl) ?_
      exact W.iret (v := a1) hx hb hr (fun t ht hW => ⟨a1, rfl, Q1, ht⟩) (fun q h => absurd h List.not_mem_nil) d_X_stored_29
theorem s_X_stored {R : Room} {s : State} {args : Array Value} {own : String} {index : Nat} (hk : ∀ w ∈ tb, w.before args s = true) (hl : Cond.methodLink own index y_X_stored ∈ tb) (hR : 1 + 1 ≤ R.frames ∧ 8 + (12 + 11) + 22 ≤ R.locals) : CallB R s args own index y_X_stored b_X_stored 12 (some .int) (.code y_X_stored b_X_stored 12 (some .int) :: tb) ({ frames := 1, cells := 0, slots := 0, locals := 22 }) 0 0 3 ∧ (Cond.static y_X_stored).before args s = true := mk_s 3 hk k_1472 hl k_1471 k_119 rfl rfl h_X_stored hR
set_option maxHeartbeats 8000000 in
set_option maxRecDepth 100000 in
theorem c_X_store (l : Launch) (D : va_G) (cI cJ cZ cB : ClassId) (p0 p1 p2 p3 p4 p5 p6 p7 p8 p9 p10 p11 p12 p13 p14 p15 p16 p17 p18 p19 p20 p21 p22 p23 p24 p25 : Nat) (sz : Nat) (x0_4 : Int32) (x0_5 : Int32) (x0_6 : Int32) (x0_7 : Int32) (x0_8 : Int32) (x0_12 : Int32) (x0_13 : Int32) (x0_14 : Int32) (x0_15 : Int32) (x0_16 : Int32) (x0_17 : Int32) (x0_18 : Int32) (x0_22 : Int32) (x0_23 : Int32) (x0_24 : Int32) (x0_25 : Int32) (x0_26 : Int32) (x0_27 : Int32) (x0_28 : Int32) (x0_29 : Int32) (x0_30 : Int32) (x0_31 : Int32) (x0_32 : Int32) (x0_36 : Int32) (x0_39 : Int32) (x0_40 : Int64) (x0_44 : Int32) (x0_49 : Int32) (x0_51 : Int32) (x0_53 : Int32) (x0_54 : Int32) (x0_55 : Int64) (x0_56 : Int32) (x0_57 : Int32) (x0_58 : Int32) (x0_59 : Int32) (x0_60 : Int32) (x0_61 : Int32) (x0_62 : Int64) (y1 : Nat → Int32) (y2 : Nat → Int32) (y3 : Nat → Int32) (y4 : Nat → Int32) (y5 : Nat → Int32) (y6 : Nat → Int32) (y7 : Nat → Int32) (y8 : Nat → Int32) (y9 : Nat → Int32) (y10 : Nat → Int32) (y11 : Nat → Int64) (y12 : Nat → Int32) (y13 : Nat → Int64) (y14 : Nat → Int32) (y15 : Nat → Int64) (y16 : Nat → Int32) (y17 : Nat → Int32) (y18 : Nat → Int32) (y19 : Nat → Int32) (y20 : Nat → Int32) (y21 : Nat → Int32) (y22 : Nat → Int32) (y23 : Nat → Int32) (y24 : Nat → Int64) (y25 : Nat → Int64) (a1 : Int32) (a2 : Int32) (Rx0_13 : 0 ≤ x0_13.toInt ∧ x0_13.toInt ≤ 63) (Rx0_15 : (-8190) ≤ x0_15.toInt ∧ x0_15.toInt ≤ 8190) (Ay1 : ∀ i : Nat, (0 ≤ (y1 i).toInt ∧ (y1 i).toInt ≤ 1)) (Ay2 : ∀ i : Nat, (0 ≤ (y2 i).toInt ∧ (y2 i).toInt ≤ 1073741823)) (Q0 : (0 ≤ x0_15.toInt ∧ x0_15.toInt ≤ 3999)) (Q1 : (x0_13.toInt / 8 ≤ x0_13.toInt % 8 ∧ x0_13.toInt % 8 ≤ 5)) (Q2 : 0 ≤ a1.toInt ∧ a1.toInt ≤ 1) (Q3 : 0 ≤ a2.toInt ∧ a2.toInt ≤ 1073741823) : Met l y_X_store (.code y_X_store b_X_store 3 none :: tb) ({ frames := 2, cells := 0, slots := 0, locals := 53 }) (pM D cI cJ cZ cB (wS50 cI cJ cZ cB p0 p1 p2 p3 p4 p5 p6 p7 p8 p9 p10 p11 p12 p13 p14 p15 p16 p17 p18 p19 p20 p21 p22 p23 p24 p25 x0_4 x0_5 x0_6 x0_7 x0_8 x0_12 x0_13 x0_14 x0_15 x0_16 x0_17 x0_18 x0_22 x0_23 x0_24 x0_25 x0_26 x0_27 x0_28 x0_29 x0_30 x0_31 x0_32 x0_36 x0_39 x0_40 x0_44 x0_49 x0_51 x0_53 x0_54 x0_55 x0_56 x0_57 x0_58 x0_59 x0_60 x0_61 x0_62 y1 y2 y3 y4 y5 y6 y7 y8 y9 y10 y11 y12 y13 y14 y15 y16 y17 y18 y19 y20 y21 y22 y23 y24 y25) sz [.ref p0, .int a1, .int a2]) (va_Qv (fun (_ : Unit) => True) (fun _ t => ∃ u_y1 : Nat → Int32, ∃ u_y2 : Nat → Int32, (∀ i : Nat, (0 ≤ (u_y1 i).toInt ∧ (u_y1 i).toInt ≤ 1)) ∧ (∀ i : Nat, (0 ≤ (u_y2 i).toInt ∧ (u_y2 i).toInt ≤ 1073741823)) ∧ va_P D classes (wS50 cI cJ cZ cB p0 p1 p2 p3 p4 p5 p6 p7 p8 p9 p10 p11 p12 p13 p14 p15 p16 p17 p18 p19 p20 p21 p22 p23 p24 p25 x0_4 x0_5 x0_6 x0_7 x0_8 x0_12 x0_13 x0_14 x0_15 x0_16 x0_17 x0_18 x0_22 x0_23 x0_24 x0_25 x0_26 x0_27 x0_28 x0_29 x0_30 x0_31 x0_32 x0_36 x0_39 x0_40 x0_44 x0_49 x0_51 x0_53 x0_54 x0_55 x0_56 x0_57 x0_58 x0_59 x0_60 x0_61 x0_62 u_y1 u_y2 y3 y4 y5 y6 y7 y8 y9 y10 y11 y12 y13 y14 y15 y16 y17 y18 y19 y20 y21 y22 y23 y24 y25) t.heap ∧ va_D (va_A (wS50 cI cJ cZ cB p0 p1 p2 p3 p4 p5 p6 p7 p8 p9 p10 p11 p12 p13 p14 p15 p16 p17 p18 p19 p20 p21 p22 p23 p24 p25 x0_4 x0_5 x0_6 x0_7 x0_8 x0_12 x0_13 x0_14 x0_15 x0_16 x0_17 x0_18 x0_22 x0_23 x0_24 x0_25 x0_26 x0_27 x0_28 x0_29 x0_30 x0_31 x0_32 x0_36 x0_39 x0_40 x0_44 x0_49 x0_51 x0_53 x0_54 x0_55 x0_56 x0_57 x0_58 x0_59 x0_60 x0_61 x0_62 y1 y2 y3 y4 y5 y6 y7 y8 y9 y10 y11 y12 y13 y14 y15 y16 y17 y18 y19 y20 y21 y22 y23 y24 y25) sz) (wS50 cI cJ cZ cB p0 p1 p2 p3 p4 p5 p6 p7 p8 p9 p10 p11 p12 p13 p14 p15 p16 p17 p18 p19 p20 p21 p22 p23 p24 p25 x0_4 x0_5 x0_6 x0_7 x0_8 x0_12 x0_13 x0_14 x0_15 x0_16 x0_17 x0_18 x0_22 x0_23 x0_24 x0_25 x0_26 x0_27 x0_28 x0_29 x0_30 x0_31 x0_32 x0_36 x0_39 x0_40 x0_44 x0_49 x0_51 x0_53 x0_54 x0_55 x0_56 x0_57 x0_58 x0_59 x0_60 x0_61 x0_62 u_y1 u_y2 y3 y4 y5 y6 y7 y8 y9 y10 y11 y12 y13 y14 y15 y16 y17 y18 y19 y20 y21 y22 y23 y24 y25)) (va_A (wS50 cI cJ cZ cB p0 p1 p2 p3 p4 p5 p6 p7 p8 p9 p10 p11 p12 p13 p14 p15 p16 p17 p18 p19 p20 p21 p22 p23 p24 p25 x0_4 x0_5 x0_6 x0_7 x0_8 x0_12 x0_13 x0_14 x0_15 x0_16 x0_17 x0_18 x0_22 x0_23 x0_24 x0_25 x0_26 x0_27 x0_28 x0_29 x0_30 x0_31 x0_32 x0_36 x0_39 x0_40 x0_44 x0_49 x0_51 x0_53 x0_54 x0_55 x0_56 x0_57 x0_58 x0_59 x0_60 x0_61 x0_62 y1 y2 y3 y4 y5 y6 y7 y8 y9 y10 y11 y12 y13 y14 y15 y16 y17 y18 y19 y20 y21 y22 y23 y24 y25) sz)) 0 0 (va_A (wS50 cI cJ cZ cB p0 p1 p2 p3 p4 p5 p6 p7 p8 p9 p10 p11 p12 p13 p14 p15 p16 p17 p18 p19 p20 p21 p22 p23 p24 p25 x0_4 x0_5 x0_6 x0_7 x0_8 x0_12 x0_13 x0_14 x0_15 x0_16 x0_17 x0_18 x0_22 x0_23 x0_24 x0_25 x0_26 x0_27 x0_28 x0_29 x0_30 x0_31 x0_32 x0_36 x0_39 x0_40 x0_44 x0_49 x0_51 x0_53 x0_54 x0_55 x0_56 x0_57 x0_58 x0_59 x0_60 x0_61 x0_62 y1 y2 y3 y4 y5 y6 y7 y8 y9 y10 y11 y12 y13 y14 y15 y16 y17 y18 y19 y20 y21 y22 y23 y24 y25) sz) := by
  refine Met.ofW (cc := b_X_store) (maxL := 3) (ret := none) (by decide) rfl ?_
  intro p e s m args below meth c s₁ B hml hv
  obtain ⟨rfl, hsz, hK, hP, hD0⟩ := hv
  subst hsz
  have hD := hD0.self (sz := s.heap.size)
  generalize hAe : va_A (wS50 cI cJ cZ cB p0 p1 p2 p3 p4 p5 p6 p7 p8 p9 p10 p11 p12 p13 p14 p15 p16 p17 p18 p19 p20 p21 p22 p23 p24 p25 x0_4 x0_5 x0_6 x0_7 x0_8 x0_12 x0_13 x0_14 x0_15 x0_16 x0_17 x0_18 x0_22 x0_23 x0_24 x0_25 x0_26 x0_27 x0_28 x0_29 x0_30 x0_31 x0_32 x0_36 x0_39 x0_40 x0_44 x0_49 x0_51 x0_53 x0_54 x0_55 x0_56 x0_57 x0_58 x0_59 x0_60 x0_61 x0_62 y1 y2 y3 y4 y5 y6 y7 y8 y9 y10 y11 y12 y13 y14 y15 y16 y17 y18 y19 y20 y21 y22 y23 y24 y25) s.heap.size = A at hD ⊢
  have hA : ∀ q : Nat, s.heap.size ≤ q → A q := fun q h => by rw [← hAe]; exact Or.inr h
  clear hAe hD0
  have hS : va_S A s.heap s.heap [] := va_S.rf
  have hx := B.exec
  have hb := B.bytes
  have hr := B.returns
  have hts := atoms_spec (ws := .code y_X_store b_X_store 3 none :: tb) B.pre
  have hk : ∀ w ∈ tb, w.before [.ref p0, .int a1, .int a2].toArray s = true := fun w h => hts w (List.mem_cons_of_mem _ h)
  have hown : s.vm.findClass "SignMachineModel" = some m.cls := findClass_of_methodNamed B.named
  have hlocks := B.notSynchronized
  have hl := lv_entry ([.ref p0, .int a1, .int a2]) (n := 3) (Nat.le_of_ble_eq_true rfl)
  rw [lg_entry_eq]
  generalize (lg_sl ([.ref p0, .int a1, .int a2]) ++ List.replicate (3 - (lg_sl ([.ref p0, .int a1, .int a2])).length) Slot.unset).toArray = ls at hl ⊢
  have hl : lv_has ls 3 [(0, .ref p0), (1, .int a1), (2, .int a2)] := hl
  clear hts B
  refine lv_aload_n hx hb d_X_store_0 rfl (lv_at hl 0 rfl) ?_
  refine va_get (D := D) (ci := 7) (v := .ref p1) (C := "SignMachineModel") (T := F_X) (N := 64) hx hb hk fi_X hown hK.1 hP 0 rfl rfl 0 (by decide) (hk _ k_1121) (fun _ h9 => h9) rfl d_X_store_1 ?_
  refine lv_aload_n hx hb d_X_store_4 rfl (lv_at hl 0 rfl) ?_
  refine va_get (D := D) (ci := 7) (v := .int x0_15) (C := "SignMachineModel") (T := F_X) (N := 64) hx hb hk fi_X hown hK.1 hP 0 rfl rfl 15 (by decide) (hk _ k_1136) (fun _ h9 => h9) rfl d_X_store_5 ?_
  refine lv_aload_n hx hb d_X_store_8 rfl (lv_at hl 0 rfl) ?_
  refine va_get (D := D) (ci := 7) (v := .int x0_13) (C := "SignMachineModel") (T := F_X) (N := 64) hx hb hk fi_X hown hK.1 hP 0 rfl rfl 13 (by decide) (hk _ k_1134) (fun _ h9 => h9) rfl d_X_store_9 ?_
  refine lv_bipush (v := 8) hx hb d_X_store_12 (by decide) ?_
  refine lv_idiv hx hb d_X_store_14 (by decide) ?_
  refine lv_topi (fun v1 hv1 => ?_)
  obtain ⟨ev1, Rv1⟩ : v1.toInt = x0_13.toInt / (8 : Int) ∧ (0 ≤ v1.toInt ∧ v1.toInt ≤ 7) := dv3 hv1 Rx0_13 (show 8 ≤ (8 : Int32).toInt ∧ (8 : Int32).toInt ≤ 8 from by decide) (by decide) (by decide) (by decide)
  refine lv_if_ne (tgt := 22) hx hb d_X_store_15 (by decide) (fun c2 => ?_) (fun c2 => ?_)
  · have gc2 : v1.toInt ≠ (0 : Int) := c_ne c2
    have R3 : 1 ≤ v1.toInt ∧ v1.toInt ≤ 7 := rf_neX Rv1 (show 0 ≤ (0 : Int) ∧ (0 : Int) ≤ 0 from by decide) gc2 (by decide) (by decide)
    refine lv_aload_n hx hb d_X_store_22 rfl (lv_at hl 0 rfl) ?_
    refine va_get (D := D) (ci := 7) (v := .ref p1) (C := "SignMachineModel") (T := F_X) (N := 64) hx hb hk fi_X hown hK.1 hP 0 rfl rfl 0 (by decide) (hk _ k_1121) (fun _ h9 => h9) rfl d_X_store_23 ?_
    refine lv_aload_n hx hb d_X_store_26 rfl (lv_at hl 0 rfl) ?_
    refine va_get (D := D) (ci := 7) (v := .int x0_15) (C := "SignMachineModel") (T := F_X) (N := 64) hx hb hk fi_X hown hK.1 hP 0 rfl rfl 15 (by decide) (hk _ k_1136) (fun _ h9 => h9) rfl d_X_store_27 ?_
    refine va_iald hx hb hK.1 hP 1 0 rfl rfl (by rw [vp_in_iff]; omega) d_X_store_30 ?_
    refine lv_topi (fun v4 hv4 => ?_)
    have Rv4 := Ay1 (x0_15).toNatClampNeg
    rw [← hv4] at Rv4
    refine va_iast hx hb hK.1 hP hD hS 1 0 rfl rfl (by rw [vp_in_iff]; omega) d_X_store_31 (fun H locs hP hD hS => ?_)
    have hP : va_P D classes (wS50 cI cJ cZ cB p0 p1 p2 p3 p4 p5 p6 p7 p8 p9 p10 p11 p12 p13 p14 p15 p16 p17 p18 p19 p20 p21 p22 p23 p24 p25 x0_4 x0_5 x0_6 x0_7 x0_8 x0_12 x0_13 x0_14 x0_15 x0_16 x0_17 x0_18 x0_22 x0_23 x0_24 x0_25 x0_26 x0_27 x0_28 x0_29 x0_30 x0_31 x0_32 x0_36 x0_39 x0_40 x0_44 x0_49 x0_51 x0_53 x0_54 x0_55 x0_56 x0_57 x0_58 x0_59 x0_60 x0_61 x0_62 (upd y1 (x0_15).toNatClampNeg v4) y2 y3 y4 y5 y6 y7 y8 y9 y10 y11 y12 y13 y14 y15 y16 y17 y18 y19 y20 y21 y22 y23 y24 y25) H := hP
    have hD : va_D A (wS50 cI cJ cZ cB p0 p1 p2 p3 p4 p5 p6 p7 p8 p9 p10 p11 p12 p13 p14 p15 p16 p17 p18 p19 p20 p21 p22 p23 p24 p25 x0_4 x0_5 x0_6 x0_7 x0_8 x0_12 x0_13 x0_14 x0_15 x0_16 x0_17 x0_18 x0_22 x0_23 x0_24 x0_25 x0_26 x0_27 x0_28 x0_29 x0_30 x0_31 x0_32 x0_36 x0_39 x0_40 x0_44 x0_49 x0_51 x0_53 x0_54 x0_55 x0_56 x0_57 x0_58 x0_59 x0_60 x0_61 x0_62 (upd y1 (x0_15).toNatClampNeg v4) y2 y3 y4 y5 y6 y7 y8 y9 y10 y11 y12 y13 y14 y15 y16 y17 y18 y19 y20 y21 y22 y23 y24 y25) := hD
    obtain ⟨v5, hv5⟩ : ∃ y : Nat → Int32, y = (upd y1 (x0_15).toNatClampNeg v4) := ⟨_, rfl⟩
    rw [← hv5] at hP hD
    have Gv5 : (0 ≤ (v4).toInt ∧ (v4).toInt ≤ 1) := Rv4
    have Av5 : ∀ i : Nat, (0 ≤ (v5 i).toInt ∧ (v5 i).toInt ≤ 1) := by rw [hv5]; exact upd_all (P := fun i x => (0 ≤ (x).toInt ∧ (x).toInt ≤ 1)) Ay1 Gv5
    clear hv5
    refine lv_aload_n hx hb d_X_store_32 rfl (lv_at hl 0 rfl) ?_
    refine va_get (D := D) (ci := 7) (v := .ref p2) (C := "SignMachineModel") (T := F_X) (N := 64) hx hb hk fi_X hown hK.1 hP 0 rfl rfl 1 (by decide) (hk _ k_1122) (fun _ h9 => h9) rfl d_X_store_33 ?_
    refine lv_aload_n hx hb d_X_store_36 rfl (lv_at hl 0 rfl) ?_
    refine va_get (D := D) (ci := 7) (v := .int x0_15) (C := "SignMachineModel") (T := F_X) (N := 64) hx hb hk fi_X hown hK.1 hP 0 rfl rfl 15 (by decide) (hk _ k_1136) (fun _ h9 => h9) rfl d_X_store_37 ?_
    refine lv_aload_n hx hb d_X_store_40 rfl (lv_at hl 0 rfl) ?_
    refine va_get (D := D) (ci := 7) (v := .ref p2) (C := "SignMachineModel") (T := F_X) (N := 64) hx hb hk fi_X hown hK.1 hP 0 rfl rfl 1 (by decide) (hk _ k_1122) (fun _ h9 => h9) rfl d_X_store_41 ?_
    refine lv_aload_n hx hb d_X_store_44 rfl (lv_at hl 0 rfl) ?_
    refine va_get (D := D) (ci := 7) (v := .int x0_15) (C := "SignMachineModel") (T := F_X) (N := 64) hx hb hk fi_X hown hK.1 hP 0 rfl rfl 15 (by decide) (hk _ k_1136) (fun _ h9 => h9) rfl d_X_store_45 ?_
    refine va_iald hx hb hK.1 hP 2 0 rfl rfl (by rw [vp_in_iff]; omega) d_X_store_48 ?_
    refine lv_topi (fun v6 hv6 => ?_)
    have Rv6 := Ay2 (x0_15).toNatClampNeg
    rw [← hv6] at Rv6
    refine lv_iload_n hx hb d_X_store_49 rfl (lv_at hl 2 rfl) ?_
    refine lv_aload_n hx hb d_X_store_50 rfl (lv_at hl 0 rfl) ?_
    refine va_get (D := D) (ci := 7) (v := .int x0_13) (C := "SignMachineModel") (T := F_X) (N := 64) hx hb hk fi_X hown hK.1 hP 0 rfl rfl 13 (by decide) (hk _ k_1134) (fun _ h9 => h9) rfl d_X_store_51 ?_
    refine vp_callSi (W.runS (As := [.int v6, .int a2, .int x0_13]) (rest := [.int x0_15, .ref p2]) ⟨hx, hb, hml, hown, hk⟩ (c_X_stored l v6 a2 x0_13 (show x0_13.toInt / 8 ≤ x0_13.toInt % 8 ∧ x0_13.toInt % 8 ≤ 5 from by omega) Rv6 Q3 Rx0_13) (s_X_stored hk k_1470 ⟨Nat.le_of_ble_eq_true rfl, Nat.le_of_ble_eq_true rfl⟩) ⟨fun a U g mk q => q, fun U hU hW => ⟨rfl, trivial⟩⟩ rfl rfl hl.1 rfl (lv_room (Nat.le_of_ble_eq_true rfl)) d_X_store_54 ⟨Nat.le_of_ble_eq_true rfl, Nat.le_of_ble_eq_true rfl⟩) (fun rz7 hrz7 => ?_)
    have F0z7 := hrz7
    have F0z7 : 0 ≤ rz7.toInt ∧ rz7.toInt ≤ 1073741823 := F0z7
    refine va_iast hx hb hK.1 hP hD hS 2 0 rfl rfl (by rw [vp_in_iff]; omega) d_X_store_57 (fun H locs hP hD hS => ?_)
    have hP : va_P D classes (wS50 cI cJ cZ cB p0 p1 p2 p3 p4 p5 p6 p7 p8 p9 p10 p11 p12 p13 p14 p15 p16 p17 p18 p19 p20 p21 p22 p23 p24 p25 x0_4 x0_5 x0_6 x0_7 x0_8 x0_12 x0_13 x0_14 x0_15 x0_16 x0_17 x0_18 x0_22 x0_23 x0_24 x0_25 x0_26 x0_27 x0_28 x0_29 x0_30 x0_31 x0_32 x0_36 x0_39 x0_40 x0_44 x0_49 x0_51 x0_53 x0_54 x0_55 x0_56 x0_57 x0_58 x0_59 x0_60 x0_61 x0_62 v5 (upd y2 (x0_15).toNatClampNeg rz7) y3 y4 y5 y6 y7 y8 y9 y10 y11 y12 y13 y14 y15 y16 y17 y18 y19 y20 y21 y22 y23 y24 y25) H := hP
    have hD : va_D A (wS50 cI cJ cZ cB p0 p1 p2 p3 p4 p5 p6 p7 p8 p9 p10 p11 p12 p13 p14 p15 p16 p17 p18 p19 p20 p21 p22 p23 p24 p25 x0_4 x0_5 x0_6 x0_7 x0_8 x0_12 x0_13 x0_14 x0_15 x0_16 x0_17 x0_18 x0_22 x0_23 x0_24 x0_25 x0_26 x0_27 x0_28 x0_29 x0_30 x0_31 x0_32 x0_36 x0_39 x0_40 x0_44 x0_49 x0_51 x0_53 x0_54 x0_55 x0_56 x0_57 x0_58 x0_59 x0_60 x0_61 x0_62 v5 (upd y2 (x0_15).toNatClampNeg rz7) y3 y4 y5 y6 y7 y8 y9 y10 y11 y12 y13 y14 y15 y16 y17 y18 y19 y20 y21 y22 y23 y24 y25) := hD
    obtain ⟨v8, hv8⟩ : ∃ y : Nat → Int32, y = (upd y2 (x0_15).toNatClampNeg rz7) := ⟨_, rfl⟩
    rw [← hv8] at hP hD
    have Gv8 : (0 ≤ (rz7).toInt ∧ (rz7).toInt ≤ 1073741823) := F0z7
    have Av8 : ∀ i : Nat, (0 ≤ (v8 i).toInt ∧ (v8 i).toInt ≤ 1073741823) := by rw [hv8]; exact upd_all (P := fun i x => (0 ≤ (x).toInt ∧ (x).toInt ≤ 1073741823)) Ay2 Gv8
    clear hv8
    exact W.vret hx hb hr (fun t ht hW => ⟨⟨(), rfl, trivial, ⟨v5, v8, Av5, Av8, by show va_P D classes _ t.heap; rw [ht]; exact hP, hD⟩⟩, hS.F ht⟩) hS.2.2 d_X_store_58
  · have gc2 : v1.toInt = (0 : Int) := c_eq c2
    have R9 : 0 ≤ v1.toInt ∧ v1.toInt ≤ 0 := rf_eqX Rv1 (show 0 ≤ (0 : Int) ∧ (0 : Int) ≤ 0 from by decide) gc2 (by decide) (by decide)
    refine lv_iload_n hx hb d_X_store_18 rfl (lv_at hl 1 rfl) ?_
    refine lv_goto (tgt := 31) hx hb d_X_store_19 (by decide) ?_
    refine va_iast hx hb hK.1 hP hD hS 1 0 rfl rfl (by rw [vp_in_iff]; omega) d_X_store_31 (fun H locs hP hD hS => ?_)
    have hP : va_P D classes (wS50 cI cJ cZ cB p0 p1 p2 p3 p4 p5 p6 p7 p8 p9 p10 p11 p12 p13 p14 p15 p16 p17 p18 p19 p20 p21 p22 p23 p24 p25 x0_4 x0_5 x0_6 x0_7 x0_8 x0_12 x0_13 x0_14 x0_15 x0_16 x0_17 x0_18 x0_22 x0_23 x0_24 x0_25 x0_26 x0_27 x0_28 x0_29 x0_30 x0_31 x0_32 x0_36 x0_39 x0_40 x0_44 x0_49 x0_51 x0_53 x0_54 x0_55 x0_56 x0_57 x0_58 x0_59 x0_60 x0_61 x0_62 (upd y1 (x0_15).toNatClampNeg a1) y2 y3 y4 y5 y6 y7 y8 y9 y10 y11 y12 y13 y14 y15 y16 y17 y18 y19 y20 y21 y22 y23 y24 y25) H := hP
    have hD : va_D A (wS50 cI cJ cZ cB p0 p1 p2 p3 p4 p5 p6 p7 p8 p9 p10 p11 p12 p13 p14 p15 p16 p17 p18 p19 p20 p21 p22 p23 p24 p25 x0_4 x0_5 x0_6 x0_7 x0_8 x0_12 x0_13 x0_14 x0_15 x0_16 x0_17 x0_18 x0_22 x0_23 x0_24 x0_25 x0_26 x0_27 x0_28 x0_29 x0_30 x0_31 x0_32 x0_36 x0_39 x0_40 x0_44 x0_49 x0_51 x0_53 x0_54 x0_55 x0_56 x0_57 x0_58 x0_59 x0_60 x0_61 x0_62 (upd y1 (x0_15).toNatClampNeg a1) y2 y3 y4 y5 y6 y7 y8 y9 y10 y11 y12 y13 y14 y15 y16 y17 y18 y19 y20 y21 y22 y23 y24 y25) := hD
    obtain ⟨v10, hv10⟩ : ∃ y : Nat → Int32, y = (upd y1 (x0_15).toNatClampNeg a1) := ⟨_, rfl⟩
    rw [← hv10] at hP hD
    have Gv10 : (0 ≤ (a1).toInt ∧ (a1).toInt ≤ 1) := Q2
    have Av10 : ∀ i : Nat, (0 ≤ (v10 i).toInt ∧ (v10 i).toInt ≤ 1) := by rw [hv10]; exact upd_all (P := fun i x => (0 ≤ (x).toInt ∧ (x).toInt ≤ 1)) Ay1 Gv10
    clear hv10
    refine lv_aload_n hx hb d_X_store_32 rfl (lv_at hl 0 rfl) ?_
    refine va_get (D := D) (ci := 7) (v := .ref p2) (C := "SignMachineModel") (T := F_X) (N := 64) hx hb hk fi_X hown hK.1 hP 0 rfl rfl 1 (by decide) (hk _ k_1122) (fun _ h9 => h9) rfl d_X_store_33 ?_
    refine lv_aload_n hx hb d_X_store_36 rfl (lv_at hl 0 rfl) ?_
    refine va_get (D := D) (ci := 7) (v := .int x0_15) (C := "SignMachineModel") (T := F_X) (N := 64) hx hb hk fi_X hown hK.1 hP 0 rfl rfl 15 (by decide) (hk _ k_1136) (fun _ h9 => h9) rfl d_X_store_37 ?_
    refine lv_aload_n hx hb d_X_store_40 rfl (lv_at hl 0 rfl) ?_
    refine va_get (D := D) (ci := 7) (v := .ref p2) (C := "SignMachineModel") (T := F_X) (N := 64) hx hb hk fi_X hown hK.1 hP 0 rfl rfl 1 (by decide) (hk _ k_1122) (fun _ h9 => h9) rfl d_X_store_41 ?_
    refine lv_aload_n hx hb d_X_store_44 rfl (lv_at hl 0 rfl) ?_
    refine va_get (D := D) (ci := 7) (v := .int x0_15) (C := "SignMachineModel") (T := F_X) (N := 64) hx hb hk fi_X hown hK.1 hP 0 rfl rfl 15 (by decide) (hk _ k_1136) (fun _ h9 => h9) rfl d_X_store_45 ?_
    refine va_iald hx hb hK.1 hP 2 0 rfl rfl (by rw [vp_in_iff]; omega) d_X_store_48 ?_
    refine lv_topi (fun v11 hv11 => ?_)
    have Rv11 := Ay2 (x0_15).toNatClampNeg
    rw [← hv11] at Rv11
    refine lv_iload_n hx hb d_X_store_49 rfl (lv_at hl 2 rfl) ?_
    refine lv_aload_n hx hb d_X_store_50 rfl (lv_at hl 0 rfl) ?_
    refine va_get (D := D) (ci := 7) (v := .int x0_13) (C := "SignMachineModel") (T := F_X) (N := 64) hx hb hk fi_X hown hK.1 hP 0 rfl rfl 13 (by decide) (hk _ k_1134) (fun _ h9 => h9) rfl d_X_store_51 ?_
    refine vp_callSi (W.runS (As := [.int v11, .int a2, .int x0_13]) (rest := [.int x0_15, .ref p2]) ⟨hx, hb, hml, hown, hk⟩ (c_X_stored l v11 a2 x0_13 (show x0_13.toInt / 8 ≤ x0_13.toInt % 8 ∧ x0_13.toInt % 8 ≤ 5 from by omega) Rv11 Q3 Rx0_13) (s_X_stored hk k_1470 ⟨Nat.le_of_ble_eq_true rfl, Nat.le_of_ble_eq_true rfl⟩) ⟨fun a U g mk q => q, fun U hU hW => ⟨rfl, trivial⟩⟩ rfl rfl hl.1 rfl (lv_room (Nat.le_of_ble_eq_true rfl)) d_X_store_54 ⟨Nat.le_of_ble_eq_true rfl, Nat.le_of_ble_eq_true rfl⟩) (fun rz12 hrz12 => ?_)
    have F0z12 := hrz12
    have F0z12 : 0 ≤ rz12.toInt ∧ rz12.toInt ≤ 1073741823 := F0z12
    refine va_iast hx hb hK.1 hP hD hS 2 0 rfl rfl (by rw [vp_in_iff]; omega) d_X_store_57 (fun H locs hP hD hS => ?_)
    have hP : va_P D classes (wS50 cI cJ cZ cB p0 p1 p2 p3 p4 p5 p6 p7 p8 p9 p10 p11 p12 p13 p14 p15 p16 p17 p18 p19 p20 p21 p22 p23 p24 p25 x0_4 x0_5 x0_6 x0_7 x0_8 x0_12 x0_13 x0_14 x0_15 x0_16 x0_17 x0_18 x0_22 x0_23 x0_24 x0_25 x0_26 x0_27 x0_28 x0_29 x0_30 x0_31 x0_32 x0_36 x0_39 x0_40 x0_44 x0_49 x0_51 x0_53 x0_54 x0_55 x0_56 x0_57 x0_58 x0_59 x0_60 x0_61 x0_62 v10 (upd y2 (x0_15).toNatClampNeg rz12) y3 y4 y5 y6 y7 y8 y9 y10 y11 y12 y13 y14 y15 y16 y17 y18 y19 y20 y21 y22 y23 y24 y25) H := hP
    have hD : va_D A (wS50 cI cJ cZ cB p0 p1 p2 p3 p4 p5 p6 p7 p8 p9 p10 p11 p12 p13 p14 p15 p16 p17 p18 p19 p20 p21 p22 p23 p24 p25 x0_4 x0_5 x0_6 x0_7 x0_8 x0_12 x0_13 x0_14 x0_15 x0_16 x0_17 x0_18 x0_22 x0_23 x0_24 x0_25 x0_26 x0_27 x0_28 x0_29 x0_30 x0_31 x0_32 x0_36 x0_39 x0_40 x0_44 x0_49 x0_51 x0_53 x0_54 x0_55 x0_56 x0_57 x0_58 x0_59 x0_60 x0_61 x0_62 v10 (upd y2 (x0_15).toNatClampNeg rz12) y3 y4 y5 y6 y7 y8 y9 y10 y11 y12 y13 y14 y15 y16 y17 y18 y19 y20 y21 y22 y23 y24 y25) := hD
    obtain ⟨v13, hv13⟩ : ∃ y : Nat → Int32, y = (upd y2 (x0_15).toNatClampNeg rz12) := ⟨_, rfl⟩
    rw [← hv13] at hP hD
    have Gv13 : (0 ≤ (rz12).toInt ∧ (rz12).toInt ≤ 1073741823) := F0z12
    have Av13 : ∀ i : Nat, (0 ≤ (v13 i).toInt ∧ (v13 i).toInt ≤ 1073741823) := by rw [hv13]; exact upd_all (P := fun i x => (0 ≤ (x).toInt ∧ (x).toInt ≤ 1073741823)) Ay2 Gv13
    clear hv13
    exact W.vret hx hb hr (fun t ht hW => ⟨⟨(), rfl, trivial, ⟨v10, v13, Av10, Av13, by show va_P D classes _ t.heap; rw [ht]; exact hP, hD⟩⟩, hS.F ht⟩) hS.2.2 d_X_store_58
theorem v_X_store {R : Room} {s : State} {args : Array Value} {own : String} {index : Nat} (hk : ∀ w ∈ tb, w.before args s = true) (hl : Cond.methodLink own index y_X_store ∈ tb) (hR : 2 + 1 ≤ R.frames ∧ 8 + (3 + 11) + 53 ≤ R.locals) : CallW R s args own "SignMachineModel" index y_X_store b_X_store 3 none (.code y_X_store b_X_store 3 none :: tb) ({ frames := 2, cells := 0, slots := 0, locals := 53 }) 0 0 2 := mk_v 2 hk k_1469 hl k_1468 k_79 k_119 rfl rfl h_X_store hR
set_option maxHeartbeats 8000000 in
set_option maxRecDepth 100000 in
theorem c_X_goTo (l : Launch) (D : va_G) (cI cJ cZ cB : ClassId) (p0 p1 p2 p3 p4 p5 p6 p7 p8 p9 p10 p11 p12 p13 p14 p15 p16 p17 p18 p19 p20 p21 p22 p23 p24 p25 : Nat) (sz : Nat) (x0_4 : Int32) (x0_5 : Int32) (x0_6 : Int32) (x0_7 : Int32) (x0_8 : Int32) (x0_12 : Int32) (x0_13 : Int32) (x0_14 : Int32) (x0_15 : Int32) (x0_16 : Int32) (x0_17 : Int32) (x0_18 : Int32) (x0_22 : Int32) (x0_23 : Int32) (x0_24 : Int32) (x0_25 : Int32) (x0_26 : Int32) (x0_27 : Int32) (x0_28 : Int32) (x0_29 : Int32) (x0_30 : Int32) (x0_31 : Int32) (x0_32 : Int32) (x0_36 : Int32) (x0_39 : Int32) (x0_40 : Int64) (x0_44 : Int32) (x0_49 : Int32) (x0_51 : Int32) (x0_53 : Int32) (x0_54 : Int32) (x0_55 : Int64) (x0_56 : Int32) (x0_57 : Int32) (x0_58 : Int32) (x0_59 : Int32) (x0_60 : Int32) (x0_61 : Int32) (x0_62 : Int64) (y1 : Nat → Int32) (y2 : Nat → Int32) (y3 : Nat → Int32) (y4 : Nat → Int32) (y5 : Nat → Int32) (y6 : Nat → Int32) (y7 : Nat → Int32) (y8 : Nat → Int32) (y9 : Nat → Int32) (y10 : Nat → Int32) (y11 : Nat → Int64) (y12 : Nat → Int32) (y13 : Nat → Int64) (y14 : Nat → Int32) (y15 : Nat → Int64) (y16 : Nat → Int32) (y17 : Nat → Int32) (y18 : Nat → Int32) (y19 : Nat → Int32) (y20 : Nat → Int32) (y21 : Nat → Int32) (y22 : Nat → Int32) (y23 : Nat → Int32) (y24 : Nat → Int64) (y25 : Nat → Int64) (a1 : Int32) (a2 : Int32) (Rx0_4 : 0 ≤ x0_4.toInt ∧ x0_4.toInt ≤ 4000) (Rx0_15 : (-8190) ≤ x0_15.toInt ∧ x0_15.toInt ≤ 8190) (Ay4 : ∀ i : Nat, ((0 ≤ (y4 i).toInt ∧ (y4 i).toInt ≤ 1073741823) ∧ ((1 ≤ (i : Int) ∧ (i : Int) ≤ 6) → (y4 i).toInt ≤ 4095))) (Q0 : x0_4.toInt ≤ 3999) (Q1 : a1.toInt = 1 → (0 ≤ x0_15.toInt ∧ x0_15.toInt ≤ 3999)) (Q2 : 0 ≤ a1.toInt ∧ a1.toInt ≤ 1) (Q3 : 0 ≤ a2.toInt ∧ a2.toInt ≤ 1) : Met l y_X_goTo (.code y_X_goTo b_X_goTo 3 none :: tb) ({ frames := 0, cells := 0, slots := 0, locals := 0 }) (pM D cI cJ cZ cB (wS50 cI cJ cZ cB p0 p1 p2 p3 p4 p5 p6 p7 p8 p9 p10 p11 p12 p13 p14 p15 p16 p17 p18 p19 p20 p21 p22 p23 p24 p25 x0_4 x0_5 x0_6 x0_7 x0_8 x0_12 x0_13 x0_14 x0_15 x0_16 x0_17 x0_18 x0_22 x0_23 x0_24 x0_25 x0_26 x0_27 x0_28 x0_29 x0_30 x0_31 x0_32 x0_36 x0_39 x0_40 x0_44 x0_49 x0_51 x0_53 x0_54 x0_55 x0_56 x0_57 x0_58 x0_59 x0_60 x0_61 x0_62 y1 y2 y3 y4 y5 y6 y7 y8 y9 y10 y11 y12 y13 y14 y15 y16 y17 y18 y19 y20 y21 y22 y23 y24 y25) sz [.ref p0, .int a1, .int a2]) (va_Qv (fun (_ : Unit) => True) (fun _ t => ∃ u_x0_4 : Int32, ∃ u_y4 : Nat → Int32, (0 ≤ u_x0_4.toInt ∧ u_x0_4.toInt ≤ 4000) ∧ (∀ i : Nat, ((0 ≤ (u_y4 i).toInt ∧ (u_y4 i).toInt ≤ 1073741823) ∧ ((1 ≤ (i : Int) ∧ (i : Int) ≤ 6) → (u_y4 i).toInt ≤ 4095))) ∧ va_P D classes (wS50 cI cJ cZ cB p0 p1 p2 p3 p4 p5 p6 p7 p8 p9 p10 p11 p12 p13 p14 p15 p16 p17 p18 p19 p20 p21 p22 p23 p24 p25 u_x0_4 x0_5 x0_6 x0_7 x0_8 x0_12 x0_13 x0_14 x0_15 x0_16 x0_17 x0_18 x0_22 x0_23 x0_24 x0_25 x0_26 x0_27 x0_28 x0_29 x0_30 x0_31 x0_32 x0_36 x0_39 x0_40 x0_44 x0_49 x0_51 x0_53 x0_54 x0_55 x0_56 x0_57 x0_58 x0_59 x0_60 x0_61 x0_62 y1 y2 y3 u_y4 y5 y6 y7 y8 y9 y10 y11 y12 y13 y14 y15 y16 y17 y18 y19 y20 y21 y22 y23 y24 y25) t.heap ∧ va_D (va_A (wS50 cI cJ cZ cB p0 p1 p2 p3 p4 p5 p6 p7 p8 p9 p10 p11 p12 p13 p14 p15 p16 p17 p18 p19 p20 p21 p22 p23 p24 p25 x0_4 x0_5 x0_6 x0_7 x0_8 x0_12 x0_13 x0_14 x0_15 x0_16 x0_17 x0_18 x0_22 x0_23 x0_24 x0_25 x0_26 x0_27 x0_28 x0_29 x0_30 x0_31 x0_32 x0_36 x0_39 x0_40 x0_44 x0_49 x0_51 x0_53 x0_54 x0_55 x0_56 x0_57 x0_58 x0_59 x0_60 x0_61 x0_62 y1 y2 y3 y4 y5 y6 y7 y8 y9 y10 y11 y12 y13 y14 y15 y16 y17 y18 y19 y20 y21 y22 y23 y24 y25) sz) (wS50 cI cJ cZ cB p0 p1 p2 p3 p4 p5 p6 p7 p8 p9 p10 p11 p12 p13 p14 p15 p16 p17 p18 p19 p20 p21 p22 p23 p24 p25 u_x0_4 x0_5 x0_6 x0_7 x0_8 x0_12 x0_13 x0_14 x0_15 x0_16 x0_17 x0_18 x0_22 x0_23 x0_24 x0_25 x0_26 x0_27 x0_28 x0_29 x0_30 x0_31 x0_32 x0_36 x0_39 x0_40 x0_44 x0_49 x0_51 x0_53 x0_54 x0_55 x0_56 x0_57 x0_58 x0_59 x0_60 x0_61 x0_62 y1 y2 y3 u_y4 y5 y6 y7 y8 y9 y10 y11 y12 y13 y14 y15 y16 y17 y18 y19 y20 y21 y22 y23 y24 y25)) (va_A (wS50 cI cJ cZ cB p0 p1 p2 p3 p4 p5 p6 p7 p8 p9 p10 p11 p12 p13 p14 p15 p16 p17 p18 p19 p20 p21 p22 p23 p24 p25 x0_4 x0_5 x0_6 x0_7 x0_8 x0_12 x0_13 x0_14 x0_15 x0_16 x0_17 x0_18 x0_22 x0_23 x0_24 x0_25 x0_26 x0_27 x0_28 x0_29 x0_30 x0_31 x0_32 x0_36 x0_39 x0_40 x0_44 x0_49 x0_51 x0_53 x0_54 x0_55 x0_56 x0_57 x0_58 x0_59 x0_60 x0_61 x0_62 y1 y2 y3 y4 y5 y6 y7 y8 y9 y10 y11 y12 y13 y14 y15 y16 y17 y18 y19 y20 y21 y22 y23 y24 y25) sz)) 0 0 (va_A (wS50 cI cJ cZ cB p0 p1 p2 p3 p4 p5 p6 p7 p8 p9 p10 p11 p12 p13 p14 p15 p16 p17 p18 p19 p20 p21 p22 p23 p24 p25 x0_4 x0_5 x0_6 x0_7 x0_8 x0_12 x0_13 x0_14 x0_15 x0_16 x0_17 x0_18 x0_22 x0_23 x0_24 x0_25 x0_26 x0_27 x0_28 x0_29 x0_30 x0_31 x0_32 x0_36 x0_39 x0_40 x0_44 x0_49 x0_51 x0_53 x0_54 x0_55 x0_56 x0_57 x0_58 x0_59 x0_60 x0_61 x0_62 y1 y2 y3 y4 y5 y6 y7 y8 y9 y10 y11 y12 y13 y14 y15 y16 y17 y18 y19 y20 y21 y22 y23 y24 y25) sz) := by
  refine Met.ofW (cc := b_X_goTo) (maxL := 3) (ret := none) (by decide) rfl ?_
  intro p e s m args below meth c s₁ B hml hv
  obtain ⟨rfl, hsz, hK, hP, hD0⟩ := hv
  subst hsz
  have hD := hD0.self (sz := s.heap.size)
  generalize hAe : va_A (wS50 cI cJ cZ cB p0 p1 p2 p3 p4 p5 p6 p7 p8 p9 p10 p11 p12 p13 p14 p15 p16 p17 p18 p19 p20 p21 p22 p23 p24 p25 x0_4 x0_5 x0_6 x0_7 x0_8 x0_12 x0_13 x0_14 x0_15 x0_16 x0_17 x0_18 x0_22 x0_23 x0_24 x0_25 x0_26 x0_27 x0_28 x0_29 x0_30 x0_31 x0_32 x0_36 x0_39 x0_40 x0_44 x0_49 x0_51 x0_53 x0_54 x0_55 x0_56 x0_57 x0_58 x0_59 x0_60 x0_61 x0_62 y1 y2 y3 y4 y5 y6 y7 y8 y9 y10 y11 y12 y13 y14 y15 y16 y17 y18 y19 y20 y21 y22 y23 y24 y25) s.heap.size = A at hD ⊢
  have hA : ∀ q : Nat, s.heap.size ≤ q → A q := fun q h => by rw [← hAe]; exact Or.inr h
  clear hAe hD0
  have hS : va_S A s.heap s.heap [] := va_S.rf
  have hx := B.exec
  have hb := B.bytes
  have hr := B.returns
  have hts := atoms_spec (ws := .code y_X_goTo b_X_goTo 3 none :: tb) B.pre
  have hk : ∀ w ∈ tb, w.before [.ref p0, .int a1, .int a2].toArray s = true := fun w h => hts w (List.mem_cons_of_mem _ h)
  have hown : s.vm.findClass "SignMachineModel" = some m.cls := findClass_of_methodNamed B.named
  have hlocks := B.notSynchronized
  have hl := lv_entry ([.ref p0, .int a1, .int a2]) (n := 3) (Nat.le_of_ble_eq_true rfl)
  rw [lg_entry_eq]
  generalize (lg_sl ([.ref p0, .int a1, .int a2]) ++ List.replicate (3 - (lg_sl ([.ref p0, .int a1, .int a2])).length) Slot.unset).toArray = ls at hl ⊢
  have hl : lv_has ls 3 [(0, .ref p0), (1, .int a1), (2, .int a2)] := hl
  clear hts B
  refine lv_iload_n hx hb d_X_goTo_0 rfl (lv_at hl 1 rfl) ?_
  refine lv_if_eq (tgt := 42) hx hb d_X_goTo_1 (by decide) (fun c1 => ?_) (fun c1 => ?_)
  · have gc1 : a1.toInt = (0 : Int) := c_eq c1
    have R2 : 0 ≤ a1.toInt ∧ a1.toInt ≤ 0 := rf_eqX Q2 (show 0 ≤ (0 : Int) ∧ (0 : Int) ≤ 0 from by decide) gc1 (by decide) (by decide)
    refine lv_aload_n hx hb d_X_goTo_42 rfl (lv_at hl 0 rfl) ?_
    refine lv_dup hx hb d_X_goTo_43 rfl ?_
    refine va_get (D := D) (ci := 7) (v := .int x0_4) (C := "SignMachineModel") (T := F_X) (N := 64) hx hb hk fi_X hown hK.1 hP 0 rfl rfl 4 (by decide) (hk _ k_1125) (fun _ h9 => h9) rfl d_X_goTo_44 ?_
    refine lv_iconst (v := 1) hx hb d_X_goTo_47 (by decide) ?_
    refine lv_iadd hx hb d_X_goTo_48 ?_
    refine lv_topi (fun v3 hv3 => ?_)
    obtain ⟨ev3, Rv3⟩ : v3.toInt = x0_4.toInt + (1 : Int) ∧ (1 ≤ v3.toInt ∧ v3.toInt ≤ 4001) := ad3 hv3 Rx0_4 (show 1 ≤ (1 : Int32).toInt ∧ (1 : Int32).toInt ≤ 1 from by decide) (by decide) (by decide) (by decide) (by decide)
    refine va_put (D := D) (ci := 7) (v := .int v3) (ty := .int) (C := "SignMachineModel") (T := F_X) (N := 64) hx hb hk fi_X ft_X ft_X_ok fn_X hown hK.1 hP hD hS 0 rfl rfl 4 (by decide) (hk _ k_1125) (fun _ h9 => h9) rfl (by decide +kernel) rfl rfl (Nat.le_of_ble_eq_true rfl) d_X_goTo_49 (fun H locs hP hD hS => ?_)
    have hP : va_P D classes (wS50 cI cJ cZ cB p0 p1 p2 p3 p4 p5 p6 p7 p8 p9 p10 p11 p12 p13 p14 p15 p16 p17 p18 p19 p20 p21 p22 p23 p24 p25 v3 x0_5 x0_6 x0_7 x0_8 x0_12 x0_13 x0_14 x0_15 x0_16 x0_17 x0_18 x0_22 x0_23 x0_24 x0_25 x0_26 x0_27 x0_28 x0_29 x0_30 x0_31 x0_32 x0_36 x0_39 x0_40 x0_44 x0_49 x0_51 x0_53 x0_54 x0_55 x0_56 x0_57 x0_58 x0_59 x0_60 x0_61 x0_62 y1 y2 y3 y4 y5 y6 y7 y8 y9 y10 y11 y12 y13 y14 y15 y16 y17 y18 y19 y20 y21 y22 y23 y24 y25) H := hP
    have hD : va_D A (wS50 cI cJ cZ cB p0 p1 p2 p3 p4 p5 p6 p7 p8 p9 p10 p11 p12 p13 p14 p15 p16 p17 p18 p19 p20 p21 p22 p23 p24 p25 v3 x0_5 x0_6 x0_7 x0_8 x0_12 x0_13 x0_14 x0_15 x0_16 x0_17 x0_18 x0_22 x0_23 x0_24 x0_25 x0_26 x0_27 x0_28 x0_29 x0_30 x0_31 x0_32 x0_36 x0_39 x0_40 x0_44 x0_49 x0_51 x0_53 x0_54 x0_55 x0_56 x0_57 x0_58 x0_59 x0_60 x0_61 x0_62 y1 y2 y3 y4 y5 y6 y7 y8 y9 y10 y11 y12 y13 y14 y15 y16 y17 y18 y19 y20 y21 y22 y23 y24 y25) := hD
    exact W.vret hx hb hr (fun t ht hW => ⟨⟨(), rfl, trivial, ⟨v3, y4, (by omega), Ay4, by show va_P D classes _ t.heap; rw [ht]; exact hP, hD⟩⟩, hS.F ht⟩) hS.2.2 d_X_goTo_52
  · have gc1 : a1.toInt ≠ (0 : Int) := c_ne c1
    have R4 : 1 ≤ a1.toInt ∧ a1.toInt ≤ 1 := rf_neX Q2 (show 0 ≤ (0 : Int) ∧ (0 : Int) ≤ 0 from by decide) gc1 (by decide) (by decide)
    refine lv_aload_n hx hb d_X_goTo_4 rfl (lv_at hl 0 rfl) ?_
    refine va_get (D := D) (ci := 7) (v := .ref p4) (C := "SignMachineModel") (T := F_X) (N := 64) hx hb hk fi_X hown hK.1 hP 0 rfl rfl 3 (by decide) (hk _ k_1124) (fun _ h9 => h9) rfl d_X_goTo_5 ?_
    refine lv_bipush (v := 8) hx hb d_X_goTo_8 (by decide) ?_
    refine lv_iload_n hx hb d_X_goTo_10 rfl (lv_at hl 2 rfl) ?_
    refine lv_if_eq (tgt := 24) hx hb d_X_goTo_11 (by decide) (fun c5 => ?_) (fun c5 => ?_)
    · have gc5 : a2.toInt = (0 : Int) := c_eq c5
      have R6 : 0 ≤ a2.toInt ∧ a2.toInt ≤ 0 := rf_eqX Q3 (show 0 ≤ (0 : Int) ∧ (0 : Int) ≤ 0 from by decide) gc5 (by decide) (by decide)
      refine lv_aload_n hx hb d_X_goTo_24 rfl (lv_at hl 0 rfl) ?_
      refine va_get (D := D) (ci := 7) (v := .int x0_4) (C := "SignMachineModel") (T := F_X) (N := 64) hx hb hk fi_X hown hK.1 hP 0 rfl rfl 4 (by decide) (hk _ k_1125) (fun _ h9 => h9) rfl d_X_goTo_25 ?_
      refine lv_iconst (v := 1) hx hb d_X_goTo_28 (by decide) ?_
      refine lv_iadd hx hb d_X_goTo_29 ?_
      refine lv_topi (fun v7 hv7 => ?_)
      obtain ⟨ev7, Rv7⟩ : v7.toInt = x0_4.toInt + (1 : Int) ∧ (1 ≤ v7.toInt ∧ v7.toInt ≤ 4001) := ad3 hv7 Rx0_4 (show 1 ≤ (1 : Int32).toInt ∧ (1 : Int32).toInt ≤ 1 from by decide) (by decide) (by decide) (by decide) (by decide)
      refine va_iast hx hb hK.1 hP hD hS 4 0 rfl rfl (by unfold vp_in; decide) d_X_goTo_30 (fun H locs hP hD hS => ?_)
      have hP : va_P D classes (wS50 cI cJ cZ cB p0 p1 p2 p3 p4 p5 p6 p7 p8 p9 p10 p11 p12 p13 p14 p15 p16 p17 p18 p19 p20 p21 p22 p23 p24 p25 x0_4 x0_5 x0_6 x0_7 x0_8 x0_12 x0_13 x0_14 x0_15 x0_16 x0_17 x0_18 x0_22 x0_23 x0_24 x0_25 x0_26 x0_27 x0_28 x0_29 x0_30 x0_31 x0_32 x0_36 x0_39 x0_40 x0_44 x0_49 x0_51 x0_53 x0_54 x0_55 x0_56 x0_57 x0_58 x0_59 x0_60 x0_61 x0_62 y1 y2 y3 (upd y4 ((8 : Int32)).toNatClampNeg v7) y5 y6 y7 y8 y9 y10 y11 y12 y13 y14 y15 y16 y17 y18 y19 y20 y21 y22 y23 y24 y25) H := hP
      have hD : va_D A (wS50 cI cJ cZ cB p0 p1 p2 p3 p4 p5 p6 p7 p8 p9 p10 p11 p12 p13 p14 p15 p16 p17 p18 p19 p20 p21 p22 p23 p24 p25 x0_4 x0_5 x0_6 x0_7 x0_8 x0_12 x0_13 x0_14 x0_15 x0_16 x0_17 x0_18 x0_22 x0_23 x0_24 x0_25 x0_26 x0_27 x0_28 x0_29 x0_30 x0_31 x0_32 x0_36 x0_39 x0_40 x0_44 x0_49 x0_51 x0_53 x0_54 x0_55 x0_56 x0_57 x0_58 x0_59 x0_60 x0_61 x0_62 y1 y2 y3 (upd y4 ((8 : Int32)).toNatClampNeg v7) y5 y6 y7 y8 y9 y10 y11 y12 y13 y14 y15 y16 y17 y18 y19 y20 y21 y22 y23 y24 y25) := hD
      obtain ⟨v8, hv8⟩ : ∃ y : Nat → Int32, y = (upd y4 ((8 : Int32)).toNatClampNeg v7) := ⟨_, rfl⟩
      rw [← hv8] at hP hD
      have : ((((8 : Int32)).toNatClampNeg : Nat) : Int) = 8 := by decide
      have Gv8 : ((0 ≤ (v7).toInt ∧ (v7).toInt ≤ 1073741823) ∧ ((1 ≤ ((((8 : Int32)).toNatClampNeg : Nat) : Int) ∧ ((((8 : Int32)).toNatClampNeg : Nat) : Int) ≤ 6) → (v7).toInt ≤ 4095)) := ⟨(rgw Rv7 (by decide) (by decide)), fun h => absurd h (by decide)⟩
      have Av8 : ∀ i : Nat, ((0 ≤ (v8 i).toInt ∧ (v8 i).toInt ≤ 1073741823) ∧ ((1 ≤ (i : Int) ∧ (i : Int) ≤ 6) → (v8 i).toInt ≤ 4095)) := by rw [hv8]; exact upd_all (P := fun i x => ((0 ≤ (x).toInt ∧ (x).toInt ≤ 1073741823) ∧ ((1 ≤ (i : Int) ∧ (i : Int) ≤ 6) → (x).toInt ≤ 4095))) Ay4 Gv8
      clear hv8
      refine lv_aload_n hx hb d_X_goTo_31 rfl (lv_at hl 0 rfl) ?_
      refine lv_aload_n hx hb d_X_goTo_32 rfl (lv_at hl 0 rfl) ?_
      refine va_get (D := D) (ci := 7) (v := .int x0_15) (C := "SignMachineModel") (T := F_X) (N := 64) hx hb hk fi_X hown hK.1 hP 0 rfl rfl 15 (by decide) (hk _ k_1136) (fun _ h9 => h9) rfl d_X_goTo_33 ?_
      refine va_put (D := D) (ci := 7) (v := .int x0_15) (ty := .int) (C := "SignMachineModel") (T := F_X) (N := 64) hx hb hk fi_X ft_X ft_X_ok fn_X hown hK.1 hP hD hS 0 rfl rfl 4 (by decide) (hk _ k_1125) (fun _ h9 => h9) rfl (by decide +kernel) rfl rfl (Nat.le_of_ble_eq_true rfl) d_X_goTo_36 (fun H locs hP hD hS => ?_)
      have hP : va_P D classes (wS50 cI cJ cZ cB p0 p1 p2 p3 p4 p5 p6 p7 p8 p9 p10 p11 p12 p13 p14 p15 p16 p17 p18 p19 p20 p21 p22 p23 p24 p25 x0_15 x0_5 x0_6 x0_7 x0_8 x0_12 x0_13 x0_14 x0_15 x0_16 x0_17 x0_18 x0_22 x0_23 x0_24 x0_25 x0_26 x0_27 x0_28 x0_29 x0_30 x0_31 x0_32 x0_36 x0_39 x0_40 x0_44 x0_49 x0_51 x0_53 x0_54 x0_55 x0_56 x0_57 x0_58 x0_59 x0_60 x0_61 x0_62 y1 y2 y3 v8 y5 y6 y7 y8 y9 y10 y11 y12 y13 y14 y15 y16 y17 y18 y19 y20 y21 y22 y23 y24 y25) H := hP
      have hD : va_D A (wS50 cI cJ cZ cB p0 p1 p2 p3 p4 p5 p6 p7 p8 p9 p10 p11 p12 p13 p14 p15 p16 p17 p18 p19 p20 p21 p22 p23 p24 p25 x0_15 x0_5 x0_6 x0_7 x0_8 x0_12 x0_13 x0_14 x0_15 x0_16 x0_17 x0_18 x0_22 x0_23 x0_24 x0_25 x0_26 x0_27 x0_28 x0_29 x0_30 x0_31 x0_32 x0_36 x0_39 x0_40 x0_44 x0_49 x0_51 x0_53 x0_54 x0_55 x0_56 x0_57 x0_58 x0_59 x0_60 x0_61 x0_62 y1 y2 y3 v8 y5 y6 y7 y8 y9 y10 y11 y12 y13 y14 y15 y16 y17 y18 y19 y20 y21 y22 y23 y24 y25) := hD
      refine lv_goto (tgt := 52) hx hb d_X_goTo_39 (by decide) ?_
      exact W.vret hx hb hr (fun t ht hW => ⟨⟨(), rfl, trivial, ⟨x0_15, v8, (by omega), Av8, by show va_P D classes _ t.heap; rw [ht]; exact hP, hD⟩⟩, hS.F ht⟩) hS.2.2 d_X_goTo_52
    · have gc5 : a2.toInt ≠ (0 : Int) := c_ne c5
      have R9 : 1 ≤ a2.toInt ∧ a2.toInt ≤ 1 := rf_neX Q3 (show 0 ≤ (0 : Int) ∧ (0 : Int) ≤ 0 from by decide) gc5 (by decide) (by decide)
      refine lv_aload_n hx hb d_X_goTo_14 rfl (lv_at hl 0 rfl) ?_
      refine va_get (D := D) (ci := 7) (v := .ref p4) (C := "SignMachineModel") (T := F_X) (N := 64) hx hb hk fi_X hown hK.1 hP 0 rfl rfl 3 (by decide) (hk _ k_1124) (fun _ h9 => h9) rfl d_X_goTo_15 ?_
      refine lv_bipush (v := 8) hx hb d_X_goTo_18 (by decide) ?_
      refine va_iald hx hb hK.1 hP 4 0 rfl rfl (by unfold vp_in; decide) d_X_goTo_20 ?_
      refine lv_topi (fun v10 hv10 => ?_)
      have Rv10 := Ay4 ((8 : Int32)).toNatClampNeg
      rw [← hv10] at Rv10
      obtain ⟨Rv10, Xv10⟩ := Rv10
      have : ((((8 : Int32)).toNatClampNeg : Nat) : Int) = 8 := by decide
      refine lv_goto (tgt := 30) hx hb d_X_goTo_21 (by decide) ?_
      refine va_iast hx hb hK.1 hP hD hS 4 0 rfl rfl (by unfold vp_in; decide) d_X_goTo_30 (fun H locs hP hD hS => ?_)
      have hP : va_P D classes (wS50 cI cJ cZ cB p0 p1 p2 p3 p4 p5 p6 p7 p8 p9 p10 p11 p12 p13 p14 p15 p16 p17 p18 p19 p20 p21 p22 p23 p24 p25 x0_4 x0_5 x0_6 x0_7 x0_8 x0_12 x0_13 x0_14 x0_15 x0_16 x0_17 x0_18 x0_22 x0_23 x0_24 x0_25 x0_26 x0_27 x0_28 x0_29 x0_30 x0_31 x0_32 x0_36 x0_39 x0_40 x0_44 x0_49 x0_51 x0_53 x0_54 x0_55 x0_56 x0_57 x0_58 x0_59 x0_60 x0_61 x0_62 y1 y2 y3 (upd y4 ((8 : Int32)).toNatClampNeg v10) y5 y6 y7 y8 y9 y10 y11 y12 y13 y14 y15 y16 y17 y18 y19 y20 y21 y22 y23 y24 y25) H := hP
      have hD : va_D A (wS50 cI cJ cZ cB p0 p1 p2 p3 p4 p5 p6 p7 p8 p9 p10 p11 p12 p13 p14 p15 p16 p17 p18 p19 p20 p21 p22 p23 p24 p25 x0_4 x0_5 x0_6 x0_7 x0_8 x0_12 x0_13 x0_14 x0_15 x0_16 x0_17 x0_18 x0_22 x0_23 x0_24 x0_25 x0_26 x0_27 x0_28 x0_29 x0_30 x0_31 x0_32 x0_36 x0_39 x0_40 x0_44 x0_49 x0_51 x0_53 x0_54 x0_55 x0_56 x0_57 x0_58 x0_59 x0_60 x0_61 x0_62 y1 y2 y3 (upd y4 ((8 : Int32)).toNatClampNeg v10) y5 y6 y7 y8 y9 y10 y11 y12 y13 y14 y15 y16 y17 y18 y19 y20 y21 y22 y23 y24 y25) := hD
      obtain ⟨v11, hv11⟩ : ∃ y : Nat → Int32, y = (upd y4 ((8 : Int32)).toNatClampNeg v10) := ⟨_, rfl⟩
      rw [← hv11] at hP hD
      have : ((((8 : Int32)).toNatClampNeg : Nat) : Int) = 8 := by decide
      have Gv11 : ((0 ≤ (v10).toInt ∧ (v10).toInt ≤ 1073741823) ∧ ((1 ≤ ((((8 : Int32)).toNatClampNeg : Nat) : Int) ∧ ((((8 : Int32)).toNatClampNeg : Nat) : Int) ≤ 6) → (v10).toInt ≤ 4095)) := ⟨Rv10, fun h => absurd h (by decide)⟩
      have Av11 : ∀ i : Nat, ((0 ≤ (v11 i).toInt ∧ (v11 i).toInt ≤ 1073741823) ∧ ((1 ≤ (i : Int) ∧ (i : Int) ≤ 6) → (v11 i).toInt ≤ 4095)) := by rw [hv11]; exact upd_all (P := fun i x => ((0 ≤ (x).toInt ∧ (x).toInt ≤ 1073741823) ∧ ((1 ≤ (i : Int) ∧ (i : Int) ≤ 6) → (x).toInt ≤ 4095))) Ay4 Gv11
      clear hv11
      refine lv_aload_n hx hb d_X_goTo_31 rfl (lv_at hl 0 rfl) ?_
      refine lv_aload_n hx hb d_X_goTo_32 rfl (lv_at hl 0 rfl) ?_
      refine va_get (D := D) (ci := 7) (v := .int x0_15) (C := "SignMachineModel") (T := F_X) (N := 64) hx hb hk fi_X hown hK.1 hP 0 rfl rfl 15 (by decide) (hk _ k_1136) (fun _ h9 => h9) rfl d_X_goTo_33 ?_
      refine va_put (D := D) (ci := 7) (v := .int x0_15) (ty := .int) (C := "SignMachineModel") (T := F_X) (N := 64) hx hb hk fi_X ft_X ft_X_ok fn_X hown hK.1 hP hD hS 0 rfl rfl 4 (by decide) (hk _ k_1125) (fun _ h9 => h9) rfl (by decide +kernel) rfl rfl (Nat.le_of_ble_eq_true rfl) d_X_goTo_36 (fun H locs hP hD hS => ?_)
      have hP : va_P D classes (wS50 cI cJ cZ cB p0 p1 p2 p3 p4 p5 p6 p7 p8 p9 p10 p11 p12 p13 p14 p15 p16 p17 p18 p19 p20 p21 p22 p23 p24 p25 x0_15 x0_5 x0_6 x0_7 x0_8 x0_12 x0_13 x0_14 x0_15 x0_16 x0_17 x0_18 x0_22 x0_23 x0_24 x0_25 x0_26 x0_27 x0_28 x0_29 x0_30 x0_31 x0_32 x0_36 x0_39 x0_40 x0_44 x0_49 x0_51 x0_53 x0_54 x0_55 x0_56 x0_57 x0_58 x0_59 x0_60 x0_61 x0_62 y1 y2 y3 v11 y5 y6 y7 y8 y9 y10 y11 y12 y13 y14 y15 y16 y17 y18 y19 y20 y21 y22 y23 y24 y25) H := hP
      have hD : va_D A (wS50 cI cJ cZ cB p0 p1 p2 p3 p4 p5 p6 p7 p8 p9 p10 p11 p12 p13 p14 p15 p16 p17 p18 p19 p20 p21 p22 p23 p24 p25 x0_15 x0_5 x0_6 x0_7 x0_8 x0_12 x0_13 x0_14 x0_15 x0_16 x0_17 x0_18 x0_22 x0_23 x0_24 x0_25 x0_26 x0_27 x0_28 x0_29 x0_30 x0_31 x0_32 x0_36 x0_39 x0_40 x0_44 x0_49 x0_51 x0_53 x0_54 x0_55 x0_56 x0_57 x0_58 x0_59 x0_60 x0_61 x0_62 y1 y2 y3 v11 y5 y6 y7 y8 y9 y10 y11 y12 y13 y14 y15 y16 y17 y18 y19 y20 y21 y22 y23 y24 y25) := hD
      refine lv_goto (tgt := 52) hx hb d_X_goTo_39 (by decide) ?_
      exact W.vret hx hb hr (fun t ht hW => ⟨⟨(), rfl, trivial, ⟨x0_15, v11, (by omega), Av11, by show va_P D classes _ t.heap; rw [ht]; exact hP, hD⟩⟩, hS.F ht⟩) hS.2.2 d_X_goTo_52
theorem v_X_goTo {R : Room} {s : State} {args : Array Value} {own : String} {index : Nat} (hk : ∀ w ∈ tb, w.before args s = true) (hl : Cond.methodLink own index y_X_goTo ∈ tb) (hR : 0 + 1 ≤ R.frames ∧ 8 + (3 + 11) + 0 ≤ R.locals) : CallW R s args own "SignMachineModel" index y_X_goTo b_X_goTo 3 none (.code y_X_goTo b_X_goTo 3 none :: tb) ({ frames := 0, cells := 0, slots := 0, locals := 0 }) 0 0 2 := mk_v 2 hk k_1444 hl k_1443 k_73 k_119 rfl rfl h_X_goTo hR
set_option maxHeartbeats 8000000 in
set_option maxRecDepth 100000 in
theorem c_X_goesBy (l : Launch) (D : va_G) (cI cJ cZ cB : ClassId) (p0 p1 p2 p3 p4 p5 p6 p7 p8 p9 p10 p11 p12 p13 p14 p15 p16 p17 p18 p19 p20 p21 p22 p23 p24 p25 : Nat) (sz : Nat) (x0_4 : Int32) (x0_5 : Int32) (x0_6 : Int32) (x0_7 : Int32) (x0_8 : Int32) (x0_12 : Int32) (x0_13 : Int32) (x0_14 : Int32) (x0_15 : Int32) (x0_16 : Int32) (x0_17 : Int32) (x0_18 : Int32) (x0_22 : Int32) (x0_23 : Int32) (x0_24 : Int32) (x0_25 : Int32) (x0_26 : Int32) (x0_27 : Int32) (x0_28 : Int32) (x0_29 : Int32) (x0_30 : Int32) (x0_31 : Int32) (x0_32 : Int32) (x0_36 : Int32) (x0_39 : Int32) (x0_40 : Int64) (x0_44 : Int32) (x0_49 : Int32) (x0_51 : Int32) (x0_53 : Int32) (x0_54 : Int32) (x0_55 : Int64) (x0_56 : Int32) (x0_57 : Int32) (x0_58 : Int32) (x0_59 : Int32) (x0_60 : Int32) (x0_61 : Int32) (x0_62 : Int64) (y1 : Nat → Int32) (y2 : Nat → Int32) (y3 : Nat → Int32) (y4 : Nat → Int32) (y5 : Nat → Int32) (y6 : Nat → Int32) (y7 : Nat → Int32) (y8 : Nat → Int32) (y9 : Nat → Int32) (y10 : Nat → Int32) (y11 : Nat → Int64) (y12 : Nat → Int32) (y13 : Nat → Int64) (y14 : Nat → Int32) (y15 : Nat → Int64) (y16 : Nat → Int32) (y17 : Nat → Int32) (y18 : Nat → Int32) (y19 : Nat → Int32) (y20 : Nat → Int32) (y21 : Nat → Int32) (y22 : Nat → Int32) (y23 : Nat → Int32) (y24 : Nat → Int64) (y25 : Nat → Int64) (a1 : Int32) (Rx0_13 : 0 ≤ x0_13.toInt ∧ x0_13.toInt ≤ 63) (Ay3 : ∀ i : Nat, (0 ≤ (y3 i).toInt ∧ (y3 i).toInt ≤ 1)) (Ay4 : ∀ i : Nat, ((0 ≤ (y4 i).toInt ∧ (y4 i).toInt ≤ 1073741823) ∧ ((1 ≤ (i : Int) ∧ (i : Int) ≤ 6) → (y4 i).toInt ≤ 4095))) (Q0 : 0 ≤ a1.toInt ∧ a1.toInt ≤ 8) : Met l y_X_goesBy (.code y_X_goesBy b_X_goesBy 3 (some .boolean) :: tb) ({ frames := 0, cells := 0, slots := 0, locals := 0 }) (pM D cI cJ cZ cB (wS50 cI cJ cZ cB p0 p1 p2 p3 p4 p5 p6 p7 p8 p9 p10 p11 p12 p13 p14 p15 p16 p17 p18 p19 p20 p21 p22 p23 p24 p25 x0_4 x0_5 x0_6 x0_7 x0_8 x0_12 x0_13 x0_14 x0_15 x0_16 x0_17 x0_18 x0_22 x0_23 x0_24 x0_25 x0_26 x0_27 x0_28 x0_29 x0_30 x0_31 x0_32 x0_36 x0_39 x0_40 x0_44 x0_49 x0_51 x0_53 x0_54 x0_55 x0_56 x0_57 x0_58 x0_59 x0_60 x0_61 x0_62 y1 y2 y3 y4 y5 y6 y7 y8 y9 y10 y11 y12 y13 y14 y15 y16 y17 y18 y19 y20 y21 y22 y23 y24 y25) sz [.ref p0, .int a1]) (va_Qi (fun r (u : Int32) => r = u) (fun ur t => (0 ≤ ur.toInt ∧ ur.toInt ≤ 1) ∧ va_P D classes (wS50 cI cJ cZ cB p0 p1 p2 p3 p4 p5 p6 p7 p8 p9 p10 p11 p12 p13 p14 p15 p16 p17 p18 p19 p20 p21 p22 p23 p24 p25 x0_4 x0_5 x0_6 x0_7 x0_8 x0_12 x0_13 x0_14 x0_15 x0_16 x0_17 x0_18 x0_22 x0_23 x0_24 x0_25 x0_26 x0_27 x0_28 x0_29 x0_30 x0_31 x0_32 x0_36 x0_39 x0_40 x0_44 x0_49 x0_51 x0_53 x0_54 x0_55 x0_56 x0_57 x0_58 x0_59 x0_60 x0_61 x0_62 y1 y2 y3 y4 y5 y6 y7 y8 y9 y10 y11 y12 y13 y14 y15 y16 y17 y18 y19 y20 y21 y22 y23 y24 y25) t.heap ∧ va_D (va_A (wS50 cI cJ cZ cB p0 p1 p2 p3 p4 p5 p6 p7 p8 p9 p10 p11 p12 p13 p14 p15 p16 p17 p18 p19 p20 p21 p22 p23 p24 p25 x0_4 x0_5 x0_6 x0_7 x0_8 x0_12 x0_13 x0_14 x0_15 x0_16 x0_17 x0_18 x0_22 x0_23 x0_24 x0_25 x0_26 x0_27 x0_28 x0_29 x0_30 x0_31 x0_32 x0_36 x0_39 x0_40 x0_44 x0_49 x0_51 x0_53 x0_54 x0_55 x0_56 x0_57 x0_58 x0_59 x0_60 x0_61 x0_62 y1 y2 y3 y4 y5 y6 y7 y8 y9 y10 y11 y12 y13 y14 y15 y16 y17 y18 y19 y20 y21 y22 y23 y24 y25) sz) (wS50 cI cJ cZ cB p0 p1 p2 p3 p4 p5 p6 p7 p8 p9 p10 p11 p12 p13 p14 p15 p16 p17 p18 p19 p20 p21 p22 p23 p24 p25 x0_4 x0_5 x0_6 x0_7 x0_8 x0_12 x0_13 x0_14 x0_15 x0_16 x0_17 x0_18 x0_22 x0_23 x0_24 x0_25 x0_26 x0_27 x0_28 x0_29 x0_30 x0_31 x0_32 x0_36 x0_39 x0_40 x0_44 x0_49 x0_51 x0_53 x0_54 x0_55 x0_56 x0_57 x0_58 x0_59 x0_60 x0_61 x0_62 y1 y2 y3 y4 y5 y6 y7 y8 y9 y10 y11 y12 y13 y14 y15 y16 y17 y18 y19 y20 y21 y22 y23 y24 y25)) (va_A (wS50 cI cJ cZ cB p0 p1 p2 p3 p4 p5 p6 p7 p8 p9 p10 p11 p12 p13 p14 p15 p16 p17 p18 p19 p20 p21 p22 p23 p24 p25 x0_4 x0_5 x0_6 x0_7 x0_8 x0_12 x0_13 x0_14 x0_15 x0_16 x0_17 x0_18 x0_22 x0_23 x0_24 x0_25 x0_26 x0_27 x0_28 x0_29 x0_30 x0_31 x0_32 x0_36 x0_39 x0_40 x0_44 x0_49 x0_51 x0_53 x0_54 x0_55 x0_56 x0_57 x0_58 x0_59 x0_60 x0_61 x0_62 y1 y2 y3 y4 y5 y6 y7 y8 y9 y10 y11 y12 y13 y14 y15 y16 y17 y18 y19 y20 y21 y22 y23 y24 y25) sz)) 0 0 (va_A (wS50 cI cJ cZ cB p0 p1 p2 p3 p4 p5 p6 p7 p8 p9 p10 p11 p12 p13 p14 p15 p16 p17 p18 p19 p20 p21 p22 p23 p24 p25 x0_4 x0_5 x0_6 x0_7 x0_8 x0_12 x0_13 x0_14 x0_15 x0_16 x0_17 x0_18 x0_22 x0_23 x0_24 x0_25 x0_26 x0_27 x0_28 x0_29 x0_30 x0_31 x0_32 x0_36 x0_39 x0_40 x0_44 x0_49 x0_51 x0_53 x0_54 x0_55 x0_56 x0_57 x0_58 x0_59 x0_60 x0_61 x0_62 y1 y2 y3 y4 y5 y6 y7 y8 y9 y10 y11 y12 y13 y14 y15 y16 y17 y18 y19 y20 y21 y22 y23 y24 y25) sz) := by
  refine Met.ofW (cc := b_X_goesBy) (maxL := 3) (ret := (some .boolean)) (by decide) rfl ?_
  intro p e s m args below meth c s₁ B hml hv
  obtain ⟨rfl, hsz, hK, hP, hD0⟩ := hv
  subst hsz
  have hD := hD0.self (sz := s.heap.size)
  generalize hAe : va_A (wS50 cI cJ cZ cB p0 p1 p2 p3 p4 p5 p6 p7 p8 p9 p10 p11 p12 p13 p14 p15 p16 p17 p18 p19 p20 p21 p22 p23 p24 p25 x0_4 x0_5 x0_6 x0_7 x0_8 x0_12 x0_13 x0_14 x0_15 x0_16 x0_17 x0_18 x0_22 x0_23 x0_24 x0_25 x0_26 x0_27 x0_28 x0_29 x0_30 x0_31 x0_32 x0_36 x0_39 x0_40 x0_44 x0_49 x0_51 x0_53 x0_54 x0_55 x0_56 x0_57 x0_58 x0_59 x0_60 x0_61 x0_62 y1 y2 y3 y4 y5 y6 y7 y8 y9 y10 y11 y12 y13 y14 y15 y16 y17 y18 y19 y20 y21 y22 y23 y24 y25) s.heap.size = A at hD ⊢
  have hA : ∀ q : Nat, s.heap.size ≤ q → A q := fun q h => by rw [← hAe]; exact Or.inr h
  clear hAe hD0
  have hS : va_S A s.heap s.heap [] := va_S.rf
  have hx := B.exec
  have hb := B.bytes
  have hr := B.returns
  have hts := atoms_spec (ws := .code y_X_goesBy b_X_goesBy 3 (some .boolean) :: tb) B.pre
  have hk : ∀ w ∈ tb, w.before [.ref p0, .int a1].toArray s = true := fun w h => hts w (List.mem_cons_of_mem _ h)
  have hown : s.vm.findClass "SignMachineModel" = some m.cls := findClass_of_methodNamed B.named
  have hlocks := B.notSynchronized
  have hl := lv_entry ([.ref p0, .int a1]) (n := 3) (Nat.le_of_ble_eq_true rfl)
  rw [lg_entry_eq]
  generalize (lg_sl ([.ref p0, .int a1]) ++ List.replicate (3 - (lg_sl ([.ref p0, .int a1])).length) Slot.unset).toArray = ls at hl ⊢
  have hl : lv_has ls 3 [(0, .ref p0), (1, .int a1)] := hl
  clear hts B
  refine lv_aload_n hx hb d_X_goesBy_0 rfl (lv_at hl 0 rfl) ?_
  refine va_get (D := D) (ci := 7) (v := .ref p4) (C := "SignMachineModel") (T := F_X) (N := 64) hx hb hk fi_X hown hK.1 hP 0 rfl rfl 3 (by decide) (hk _ k_1124) (fun _ h9 => h9) rfl d_X_goesBy_1 ?_
  refine lv_iload_n hx hb d_X_goesBy_4 rfl (lv_at hl 1 rfl) ?_
  refine va_iald hx hb hK.1 hP 4 0 rfl rfl (vpb Q0 (by decide) (by decide)) d_X_goesBy_5 ?_
  refine lv_topi (fun v1 hv1 => ?_)
  have Rv1 := Ay4 (a1).toNatClampNeg
  rw [← hv1] at Rv1
  obtain ⟨Rv1, Xv1⟩ := Rv1
  have : (((a1).toNatClampNeg : Nat) : Int) = a1.toInt := ti_n Q0 (by decide)
  refine lv_if_ne (tgt := 13) hx hb d_X_goesBy_6 (by decide) (fun c2 => ?_) (fun c2 => ?_)
  · have gc2 : v1.toInt ≠ (0 : Int) := c_ne c2
    have R3 : 1 ≤ v1.toInt ∧ v1.toInt ≤ 1073741823 := rf_neX Rv1 (show 0 ≤ (0 : Int) ∧ (0 : Int) ≤ 0 from by decide) gc2 (by decide) (by decide)
    refine lv_aload_n hx hb d_X_goesBy_13 rfl (lv_at hl 0 rfl) ?_
    refine va_get (D := D) (ci := 7) (v := .ref p3) (C := "SignMachineModel") (T := F_X) (N := 64) hx hb hk fi_X hown hK.1 hP 0 rfl rfl 2 (by decide) (hk _ k_1123) (fun _ h9 => h9) rfl d_X_goesBy_14 ?_
    refine lv_iload_n hx hb d_X_goesBy_17 rfl (lv_at hl 1 rfl) ?_
    refine va_iald hx hb hK.1 hP 3 0 rfl rfl (vpb Q0 (by decide) (by decide)) d_X_goesBy_18 ?_
    refine lv_topi (fun v4 hv4 => ?_)
    have Rv4 := Ay3 (a1).toNatClampNeg
    rw [← hv4] at Rv4
    refine lv_iconst (v := 1) hx hb d_X_goesBy_19 (by decide) ?_
    refine lv_icmp_ne (tgt := 27) hx hb d_X_goesBy_20 (by decide) (fun c5 => ?_) (fun c5 => ?_)
    · have gc5 : v4.toInt ≠ (1 : Int) := c_ne c5
      have R6 : 0 ≤ v4.toInt ∧ v4.toInt ≤ 0 := rf_neX Rv4 (show 1 ≤ (1 : Int) ∧ (1 : Int) ≤ 1 from by decide) gc5 (by decide) (by decide)
      refine lv_iconst (v := 1) hx hb d_X_goesBy_27 (by decide) ?_
      refine lv_istore_n (lv' := [(2, .int (1 : Int32)), (0, .ref p0), (1, .int a1)]) hx hb d_X_goesBy_28 rfl hl (by decide) rfl (fun ls hl => ?_)
      refine lv_aload_n hx hb d_X_goesBy_29 rfl (lv_at hl 1 rfl) ?_
      refine va_get (D := D) (ci := 7) (v := .int x0_13) (C := "SignMachineModel") (T := F_X) (N := 64) hx hb hk fi_X hown hK.1 hP 0 rfl rfl 13 (by decide) (hk _ k_1134) (fun _ h9 => h9) rfl d_X_goesBy_30 ?_
      by_cases c7 : x0_13 = (0 : Int32)
      · refine lv_tableIn (off := 35) (tgt := 68) hx hb d_X_goesBy_33 (by rw [c7]; decide) (by rw [c7]; decide) (by rw [c7]; rfl) (by decide) ?_
        have gc7 : 0 ≤ x0_13.toInt ∧ x0_13.toInt ≤ 0 := by have q9 : x0_13.toInt = 0 := c_eq c7; omega
        refine lv_iload_n hx hb d_X_goesBy_68 rfl (lv_at hl 0 rfl) ?_
        refine lv_if_ge (tgt := 76) hx hb d_X_goesBy_69 (by decide) (fun c8 => ?_) (fun c8 => absurd (show (0 : Int32) ≤ (1 : Int32) from (by decide)) c8)
        refine lv_iconst (v := 0) hx hb d_X_goesBy_76 (by decide) ?_
        exact W.zret (v := (0 : Int32)) hx hb hr (nar01 (by decide)) (fun t ht hW => ⟨⟨(0 : Int32), (0 : Int32), rfl, rfl, ⟨(by decide), by show va_P D classes _ t.heap; rw [ht]; exact hP, hD⟩⟩, hS.F ht⟩) hS.2.2 d_X_goesBy_77
      · by_cases c9 : x0_13 = (1 : Int32)
        · refine lv_tableIn (off := 45) (tgt := 78) hx hb d_X_goesBy_33 (by rw [c9]; decide) (by rw [c9]; decide) (by rw [c9]; rfl) (by decide) ?_
          have gc9 : 1 ≤ x0_13.toInt ∧ x0_13.toInt ≤ 1 := by have q9 : x0_13.toInt = 1 := c_eq c9; omega
          refine lv_iload_n hx hb d_X_goesBy_78 rfl (lv_at hl 0 rfl) ?_
          refine lv_if_ne (tgt := 86) hx hb d_X_goesBy_79 (by decide) (fun c10 => ?_) (fun c10 => absurd c10 (show ¬ (1 : Int32) = (0 : Int32) from (by decide)))
          refine lv_iconst (v := 0) hx hb d_X_goesBy_86 (by decide) ?_
          exact W.zret (v := (0 : Int32)) hx hb hr (nar01 (by decide)) (fun t ht hW => ⟨⟨(0 : Int32), (0 : Int32), rfl, rfl, ⟨(by decide), by show va_P D classes _ t.heap; rw [ht]; exact hP, hD⟩⟩, hS.F ht⟩) hS.2.2 d_X_goesBy_87
        · by_cases c11 : x0_13 = (2 : Int32)
          · refine lv_tableIn (off := 55) (tgt := 88) hx hb d_X_goesBy_33 (by rw [c11]; decide) (by rw [c11]; decide) (by rw [c11]; rfl) (by decide) ?_
            have gc11 : 2 ≤ x0_13.toInt ∧ x0_13.toInt ≤ 2 := by have q9 : x0_13.toInt = 2 := c_eq c11; omega
            refine lv_iload_n hx hb d_X_goesBy_88 rfl (lv_at hl 0 rfl) ?_
            refine lv_if_le (tgt := 96) hx hb d_X_goesBy_89 (by decide) (fun c12 => absurd c12 (show ¬ (1 : Int32) ≤ (0 : Int32) from (by decide))) (fun c12 => ?_)
            refine lv_iconst (v := 1) hx hb d_X_goesBy_92 (by decide) ?_
            refine lv_goto (tgt := 97) hx hb d_X_goesBy_93 (by decide) ?_
            exact W.zret (v := (1 : Int32)) hx hb hr (nar01 (by decide)) (fun t ht hW => ⟨⟨(1 : Int32), (1 : Int32), rfl, rfl, ⟨(by decide), by show va_P D classes _ t.heap; rw [ht]; exact hP, hD⟩⟩, hS.F ht⟩) hS.2.2 d_X_goesBy_97
          · by_cases c13 : x0_13 = (3 : Int32)
            · refine lv_tableIn (off := 65) (tgt := 98) hx hb d_X_goesBy_33 (by rw [c13]; decide) (by rw [c13]; decide) (by rw [c13]; rfl) (by decide) ?_
              have gc13 : 3 ≤ x0_13.toInt ∧ x0_13.toInt ≤ 3 := by have q9 : x0_13.toInt = 3 := c_eq c13; omega
              refine lv_iload_n hx hb d_X_goesBy_98 rfl (lv_at hl 0 rfl) ?_
              refine lv_if_lt (tgt := 106) hx hb d_X_goesBy_99 (by decide) (fun c14 => absurd c14 (show ¬ (1 : Int32) < (0 : Int32) from (by decide))) (fun c14 => ?_)
              refine lv_iconst (v := 1) hx hb d_X_goesBy_102 (by decide) ?_
              refine lv_goto (tgt := 107) hx hb d_X_goesBy_103 (by decide) ?_
              exact W.zret (v := (1 : Int32)) hx hb hr (nar01 (by decide)) (fun t ht hW => ⟨⟨(1 : Int32), (1 : Int32), rfl, rfl, ⟨(by decide), by show va_P D classes _ t.heap; rw [ht]; exact hP, hD⟩⟩, hS.F ht⟩) hS.2.2 d_X_goesBy_107
            · by_cases c15 : x0_13 = (4 : Int32)
              · refine lv_tableIn (off := 75) (tgt := 108) hx hb d_X_goesBy_33 (by rw [c15]; decide) (by rw [c15]; decide) (by rw [c15]; rfl) (by decide) ?_
                have gc15 : 4 ≤ x0_13.toInt ∧ x0_13.toInt ≤ 4 := by have q9 : x0_13.toInt = 4 := c_eq c15; omega
                refine lv_iload_n hx hb d_X_goesBy_108 rfl (lv_at hl 0 rfl) ?_
                refine lv_if_eq (tgt := 116) hx hb d_X_goesBy_109 (by decide) (fun c16 => absurd c16 (show ¬ (1 : Int32) = (0 : Int32) from (by decide))) (fun c16 => ?_)
                refine lv_iconst (v := 1) hx hb d_X_goesBy_112 (by decide) ?_
                refine lv_goto (tgt := 117) hx hb d_X_goesBy_113 (by decide) ?_
                exact W.zret (v := (1 : Int32)) hx hb hr (nar01 (by decide)) (fun t ht hW => ⟨⟨(1 : Int32), (1 : Int32), rfl, rfl, ⟨(by decide), by show va_P D classes _ t.heap; rw [ht]; exact hP, hD⟩⟩, hS.F ht⟩) hS.2.2 d_X_goesBy_117
              · refine lv_tableOut (tgt := 118) hx hb d_X_goesBy_33 (by have q3 := fr3 x0_13; have e0 := lv_neT c7 (a := 0) rfl; have e1 := lv_neT c9 (a := 1) rfl; have e2 := lv_neT c11 (a := 2) rfl; have e3 := lv_neT c13 (a := 3) rfl; have e4 := lv_neT c15 (a := 4) rfl; omega) (by decide) ?_
                have gc7 : x0_13.toInt ≠ 0 := c_ne c7
                have gc9 : x0_13.toInt ≠ 1 := c_ne c9
                have gc11 : x0_13.toInt ≠ 2 := c_ne c11
                have gc13 : x0_13.toInt ≠ 3 := c_ne c13
                have gc15 : x0_13.toInt ≠ 4 := c_ne c15
                refine lv_iload_n hx hb d_X_goesBy_118 rfl (lv_at hl 0 rfl) ?_
                refine lv_if_gt (tgt := 126) hx hb d_X_goesBy_119 (by decide) (fun c17 => ?_) (fun c17 => absurd (show (0 : Int32) < (1 : Int32) from (by decide)) c17)
                refine lv_iconst (v := 0) hx hb d_X_goesBy_126 (by decide) ?_
                exact W.zret (v := (0 : Int32)) hx hb hr (nar01 (by decide)) (fun t ht hW => ⟨⟨(0 : Int32), (0 : Int32), rfl, rfl, ⟨(by decide), by show va_P D classes _ t.heap; rw [ht]; exact hP, hD⟩⟩, hS.F ht⟩) hS.2.2 d_X_goesBy_127
    · have gc5 : v4.toInt = (1 : Int) := c_eq c5
      have R18 : 1 ≤ v4.toInt ∧ v4.toInt ≤ 1 := rf_eqX Rv4 (show 1 ≤ (1 : Int) ∧ (1 : Int) ≤ 1 from by decide) gc5 (by decide) (by decide)
      refine lv_iconst (v := (-1)) hx hb d_X_goesBy_23 (by decide) ?_
      refine lv_goto (tgt := 28) hx hb d_X_goesBy_24 (by decide) ?_
      refine lv_istore_n (lv' := [(2, .int (-1 : Int32)), (0, .ref p0), (1, .int a1)]) hx hb d_X_goesBy_28 rfl hl (by decide) rfl (fun ls hl => ?_)
      refine lv_aload_n hx hb d_X_goesBy_29 rfl (lv_at hl 1 rfl) ?_
      refine va_get (D := D) (ci := 7) (v := .int x0_13) (C := "SignMachineModel") (T := F_X) (N := 64) hx hb hk fi_X hown hK.1 hP 0 rfl rfl 13 (by decide) (hk _ k_1134) (fun _ h9 => h9) rfl d_X_goesBy_30 ?_
      by_cases c19 : x0_13 = (0 : Int32)
      · refine lv_tableIn (off := 35) (tgt := 68) hx hb d_X_goesBy_33 (by rw [c19]; decide) (by rw [c19]; decide) (by rw [c19]; rfl) (by decide) ?_
        have gc19 : 0 ≤ x0_13.toInt ∧ x0_13.toInt ≤ 0 := by have q9 : x0_13.toInt = 0 := c_eq c19; omega
        refine lv_iload_n hx hb d_X_goesBy_68 rfl (lv_at hl 0 rfl) ?_
        refine lv_if_ge (tgt := 76) hx hb d_X_goesBy_69 (by decide) (fun c20 => absurd c20 (show ¬ (0 : Int32) ≤ (-1 : Int32) from (by decide))) (fun c20 => ?_)
        refine lv_iconst (v := 1) hx hb d_X_goesBy_72 (by decide) ?_
        refine lv_goto (tgt := 77) hx hb d_X_goesBy_73 (by decide) ?_
        exact W.zret (v := (1 : Int32)) hx hb hr (nar01 (by decide)) (fun t ht hW => ⟨⟨(1 : Int32), (1 : Int32), rfl, rfl, ⟨(by decide), by show va_P D classes _ t.heap; rw [ht]; exact hP, hD⟩⟩, hS.F ht⟩) hS.2.2 d_X_goesBy_77
      · by_cases c21 : x0_13 = (1 : Int32)
        · refine lv_tableIn (off := 45) (tgt := 78) hx hb d_X_goesBy_33 (by rw [c21]; decide) (by rw [c21]; decide) (by rw [c21]; rfl) (by decide) ?_
          have gc21 : 1 ≤ x0_13.toInt ∧ x0_13.toInt ≤ 1 := by have q9 : x0_13.toInt = 1 := c_eq c21; omega
          refine lv_iload_n hx hb d_X_goesBy_78 rfl (lv_at hl 0 rfl) ?_
          refine lv_if_ne (tgt := 86) hx hb d_X_goesBy_79 (by decide) (fun c22 => ?_) (fun c22 => absurd c22 (show ¬ (-1 : Int32) = (0 : Int32) from (by decide)))
          refine lv_iconst (v := 0) hx hb d_X_goesBy_86 (by decide) ?_
          exact W.zret (v := (0 : Int32)) hx hb hr (nar01 (by decide)) (fun t ht hW => ⟨⟨(0 : Int32), (0 : Int32), rfl, rfl, ⟨(by decide), by show va_P D classes _ t.heap; rw [ht]; exact hP, hD⟩⟩, hS.F ht⟩) hS.2.2 d_X_goesBy_87
        · by_cases c23 : x0_13 = (2 : Int32)
          · refine lv_tableIn (off := 55) (tgt := 88) hx hb d_X_goesBy_33 (by rw [c23]; decide) (by rw [c23]; decide) (by rw [c23]; rfl) (by decide) ?_
            have gc23 : 2 ≤ x0_13.toInt ∧ x0_13.toInt ≤ 2 := by have q9 : x0_13.toInt = 2 := c_eq c23; omega
            refine lv_iload_n hx hb d_X_goesBy_88 rfl (lv_at hl 0 rfl) ?_
            refine lv_if_le (tgt := 96) hx hb d_X_goesBy_89 (by decide) (fun c24 => ?_) (fun c24 => absurd (show (-1 : Int32) ≤ (0 : Int32) from (by decide)) c24)
            refine lv_iconst (v := 0) hx hb d_X_goesBy_96 (by decide) ?_
            exact W.zret (v := (0 : Int32)) hx hb hr (nar01 (by decide)) (fun t ht hW => ⟨⟨(0 : Int32), (0 : Int32), rfl, rfl, ⟨(by decide), by show va_P D classes _ t.heap; rw [ht]; exact hP, hD⟩⟩, hS.F ht⟩) hS.2.2 d_X_goesBy_97
          · by_cases c25 : x0_13 = (3 : Int32)
            · refine lv_tableIn (off := 65) (tgt := 98) hx hb d_X_goesBy_33 (by rw [c25]; decide) (by rw [c25]; decide) (by rw [c25]; rfl) (by decide) ?_
              have gc25 : 3 ≤ x0_13.toInt ∧ x0_13.toInt ≤ 3 := by have q9 : x0_13.toInt = 3 := c_eq c25; omega
              refine lv_iload_n hx hb d_X_goesBy_98 rfl (lv_at hl 0 rfl) ?_
              refine lv_if_lt (tgt := 106) hx hb d_X_goesBy_99 (by decide) (fun c26 => ?_) (fun c26 => absurd (show (-1 : Int32) < (0 : Int32) from (by decide)) c26)
              refine lv_iconst (v := 0) hx hb d_X_goesBy_106 (by decide) ?_
              exact W.zret (v := (0 : Int32)) hx hb hr (nar01 (by decide)) (fun t ht hW => ⟨⟨(0 : Int32), (0 : Int32), rfl, rfl, ⟨(by decide), by show va_P D classes _ t.heap; rw [ht]; exact hP, hD⟩⟩, hS.F ht⟩) hS.2.2 d_X_goesBy_107
            · by_cases c27 : x0_13 = (4 : Int32)
              · refine lv_tableIn (off := 75) (tgt := 108) hx hb d_X_goesBy_33 (by rw [c27]; decide) (by rw [c27]; decide) (by rw [c27]; rfl) (by decide) ?_
                have gc27 : 4 ≤ x0_13.toInt ∧ x0_13.toInt ≤ 4 := by have q9 : x0_13.toInt = 4 := c_eq c27; omega
                refine lv_iload_n hx hb d_X_goesBy_108 rfl (lv_at hl 0 rfl) ?_
                refine lv_if_eq (tgt := 116) hx hb d_X_goesBy_109 (by decide) (fun c28 => absurd c28 (show ¬ (-1 : Int32) = (0 : Int32) from (by decide))) (fun c28 => ?_)
                refine lv_iconst (v := 1) hx hb d_X_goesBy_112 (by decide) ?_
                refine lv_goto (tgt := 117) hx hb d_X_goesBy_113 (by decide) ?_
                exact W.zret (v := (1 : Int32)) hx hb hr (nar01 (by decide)) (fun t ht hW => ⟨⟨(1 : Int32), (1 : Int32), rfl, rfl, ⟨(by decide), by show va_P D classes _ t.heap; rw [ht]; exact hP, hD⟩⟩, hS.F ht⟩) hS.2.2 d_X_goesBy_117
              · refine lv_tableOut (tgt := 118) hx hb d_X_goesBy_33 (by have q3 := fr3 x0_13; have e0 := lv_neT c19 (a := 0) rfl; have e1 := lv_neT c21 (a := 1) rfl; have e2 := lv_neT c23 (a := 2) rfl; have e3 := lv_neT c25 (a := 3) rfl; have e4 := lv_neT c27 (a := 4) rfl; omega) (by decide) ?_
                have gc19 : x0_13.toInt ≠ 0 := c_ne c19
                have gc21 : x0_13.toInt ≠ 1 := c_ne c21
                have gc23 : x0_13.toInt ≠ 2 := c_ne c23
                have gc25 : x0_13.toInt ≠ 3 := c_ne c25
                have gc27 : x0_13.toInt ≠ 4 := c_ne c27
                refine lv_iload_n hx hb d_X_goesBy_118 rfl (lv_at hl 0 rfl) ?_
                refine lv_if_gt (tgt := 126) hx hb d_X_goesBy_119 (by decide) (fun c29 => absurd c29 (show ¬ (0 : Int32) < (-1 : Int32) from (by decide))) (fun c29 => ?_)
                refine lv_iconst (v := 1) hx hb d_X_goesBy_122 (by decide) ?_
                refine lv_goto (tgt := 127) hx hb d_X_goesBy_123 (by decide) ?_
                exact W.zret (v := (1 : Int32)) hx hb hr (nar01 (by decide)) (fun t ht hW => ⟨⟨(1 : Int32), (1 : Int32), rfl, rfl, ⟨(by decide), by show va_P D classes _ t.heap; rw [ht]; exact hP, hD⟩⟩, hS.F ht⟩) hS.2.2 d_X_goesBy_127
  · have gc2 : v1.toInt = (0 : Int) := c_eq c2
    have R30 : 0 ≤ v1.toInt ∧ v1.toInt ≤ 0 := rf_eqX Rv1 (show 0 ≤ (0 : Int) ∧ (0 : Int) ≤ 0 from by decide) gc2 (by decide) (by decide)
    refine lv_iconst (v := 0) hx hb d_X_goesBy_9 (by decide) ?_
    refine lv_goto (tgt := 28) hx hb d_X_goesBy_10 (by decide) ?_
    refine lv_istore_n (lv' := [(2, .int (0 : Int32)), (0, .ref p0), (1, .int a1)]) hx hb d_X_goesBy_28 rfl hl (by decide) rfl (fun ls hl => ?_)
    refine lv_aload_n hx hb d_X_goesBy_29 rfl (lv_at hl 1 rfl) ?_
    refine va_get (D := D) (ci := 7) (v := .int x0_13) (C := "SignMachineModel") (T := F_X) (N := 64) hx hb hk fi_X hown hK.1 hP 0 rfl rfl 13 (by decide) (hk _ k_1134) (fun _ h9 => h9) rfl d_X_goesBy_30 ?_
    by_cases c31 : x0_13 = (0 : Int32)
    · refine lv_tableIn (off := 35) (tgt := 68) hx hb d_X_goesBy_33 (by rw [c31]; decide) (by rw [c31]; decide) (by rw [c31]; rfl) (by decide) ?_
      have gc31 : 0 ≤ x0_13.toInt ∧ x0_13.toInt ≤ 0 := by have q9 : x0_13.toInt = 0 := c_eq c31; omega
      refine lv_iload_n hx hb d_X_goesBy_68 rfl (lv_at hl 0 rfl) ?_
      refine lv_if_ge (tgt := 76) hx hb d_X_goesBy_69 (by decide) (fun c32 => ?_) (fun c32 => absurd (show (0 : Int32) ≤ (0 : Int32) from (by decide)) c32)
      refine lv_iconst (v := 0) hx hb d_X_goesBy_76 (by decide) ?_
      exact W.zret (v := (0 : Int32)) hx hb hr (nar01 (by decide)) (fun t ht hW => ⟨⟨(0 : Int32), (0 : Int32), rfl, rfl, ⟨(by decide), by show va_P D classes _ t.heap; rw [ht]; exact hP, hD⟩⟩, hS.F ht⟩) hS.2.2 d_X_goesBy_77
    · by_cases c33 : x0_13 = (1 : Int32)
      · refine lv_tableIn (off := 45) (tgt := 78) hx hb d_X_goesBy_33 (by rw [c33]; decide) (by rw [c33]; decide) (by rw [c33]; rfl) (by decide) ?_
        have gc33 : 1 ≤ x0_13.toInt ∧ x0_13.toInt ≤ 1 := by have q9 : x0_13.toInt = 1 := c_eq c33; omega
        refine lv_iload_n hx hb d_X_goesBy_78 rfl (lv_at hl 0 rfl) ?_
        refine lv_if_ne (tgt := 86) hx hb d_X_goesBy_79 (by decide) (fun c34 => absurd (show (0 : Int32) = (0 : Int32) from (by decide)) c34) (fun c34 => ?_)
        refine lv_iconst (v := 1) hx hb d_X_goesBy_82 (by decide) ?_
        refine lv_goto (tgt := 87) hx hb d_X_goesBy_83 (by decide) ?_
        exact W.zret (v := (1 : Int32)) hx hb hr (nar01 (by decide)) (fun t ht hW => ⟨⟨(1 : Int32), (1 : Int32), rfl, rfl, ⟨(by decide), by show va_P D classes _ t.heap; rw [ht]; exact hP, hD⟩⟩, hS.F ht⟩) hS.2.2 d_X_goesBy_87
      · by_cases c35 : x0_13 = (2 : Int32)
        · refine lv_tableIn (off := 55) (tgt := 88) hx hb d_X_goesBy_33 (by rw [c35]; decide) (by rw [c35]; decide) (by rw [c35]; rfl) (by decide) ?_
          have gc35 : 2 ≤ x0_13.toInt ∧ x0_13.toInt ≤ 2 := by have q9 : x0_13.toInt = 2 := c_eq c35; omega
          refine lv_iload_n hx hb d_X_goesBy_88 rfl (lv_at hl 0 rfl) ?_
          refine lv_if_le (tgt := 96) hx hb d_X_goesBy_89 (by decide) (fun c36 => ?_) (fun c36 => absurd (show (0 : Int32) ≤ (0 : Int32) from (by decide)) c36)
          refine lv_iconst (v := 0) hx hb d_X_goesBy_96 (by decide) ?_
          exact W.zret (v := (0 : Int32)) hx hb hr (nar01 (by decide)) (fun t ht hW => ⟨⟨(0 : Int32), (0 : Int32), rfl, rfl, ⟨(by decide), by show va_P D classes _ t.heap; rw [ht]; exact hP, hD⟩⟩, hS.F ht⟩) hS.2.2 d_X_goesBy_97
        · by_cases c37 : x0_13 = (3 : Int32)
          · refine lv_tableIn (off := 65) (tgt := 98) hx hb d_X_goesBy_33 (by rw [c37]; decide) (by rw [c37]; decide) (by rw [c37]; rfl) (by decide) ?_
            have gc37 : 3 ≤ x0_13.toInt ∧ x0_13.toInt ≤ 3 := by have q9 : x0_13.toInt = 3 := c_eq c37; omega
            refine lv_iload_n hx hb d_X_goesBy_98 rfl (lv_at hl 0 rfl) ?_
            refine lv_if_lt (tgt := 106) hx hb d_X_goesBy_99 (by decide) (fun c38 => absurd c38 (show ¬ (0 : Int32) < (0 : Int32) from (by decide))) (fun c38 => ?_)
            refine lv_iconst (v := 1) hx hb d_X_goesBy_102 (by decide) ?_
            refine lv_goto (tgt := 107) hx hb d_X_goesBy_103 (by decide) ?_
            exact W.zret (v := (1 : Int32)) hx hb hr (nar01 (by decide)) (fun t ht hW => ⟨⟨(1 : Int32), (1 : Int32), rfl, rfl, ⟨(by decide), by show va_P D classes _ t.heap; rw [ht]; exact hP, hD⟩⟩, hS.F ht⟩) hS.2.2 d_X_goesBy_107
          · by_cases c39 : x0_13 = (4 : Int32)
            · refine lv_tableIn (off := 75) (tgt := 108) hx hb d_X_goesBy_33 (by rw [c39]; decide) (by rw [c39]; decide) (by rw [c39]; rfl) (by decide) ?_
              have gc39 : 4 ≤ x0_13.toInt ∧ x0_13.toInt ≤ 4 := by have q9 : x0_13.toInt = 4 := c_eq c39; omega
              refine lv_iload_n hx hb d_X_goesBy_108 rfl (lv_at hl 0 rfl) ?_
              refine lv_if_eq (tgt := 116) hx hb d_X_goesBy_109 (by decide) (fun c40 => ?_) (fun c40 => absurd (show (0 : Int32) = (0 : Int32) from (by decide)) c40)
              refine lv_iconst (v := 0) hx hb d_X_goesBy_116 (by decide) ?_
              exact W.zret (v := (0 : Int32)) hx hb hr (nar01 (by decide)) (fun t ht hW => ⟨⟨(0 : Int32), (0 : Int32), rfl, rfl, ⟨(by decide), by show va_P D classes _ t.heap; rw [ht]; exact hP, hD⟩⟩, hS.F ht⟩) hS.2.2 d_X_goesBy_117
            · refine lv_tableOut (tgt := 118) hx hb d_X_goesBy_33 (by have q3 := fr3 x0_13; have e0 := lv_neT c31 (a := 0) rfl; have e1 := lv_neT c33 (a := 1) rfl; have e2 := lv_neT c35 (a := 2) rfl; have e3 := lv_neT c37 (a := 3) rfl; have e4 := lv_neT c39 (a := 4) rfl; omega) (by decide) ?_
              have gc31 : x0_13.toInt ≠ 0 := c_ne c31
              have gc33 : x0_13.toInt ≠ 1 := c_ne c33
              have gc35 : x0_13.toInt ≠ 2 := c_ne c35
              have gc37 : x0_13.toInt ≠ 3 := c_ne c37
              have gc39 : x0_13.toInt ≠ 4 := c_ne c39
              refine lv_iload_n hx hb d_X_goesBy_118 rfl (lv_at hl 0 rfl) ?_
              refine lv_if_gt (tgt := 126) hx hb d_X_goesBy_119 (by decide) (fun c41 => absurd c41 (show ¬ (0 : Int32) < (0 : Int32) from (by decide))) (fun c41 => ?_)
              refine lv_iconst (v := 1) hx hb d_X_goesBy_122 (by decide) ?_
              refine lv_goto (tgt := 127) hx hb d_X_goesBy_123 (by decide) ?_
              exact W.zret (v := (1 : Int32)) hx hb hr (nar01 (by decide)) (fun t ht hW => ⟨⟨(1 : Int32), (1 : Int32), rfl, rfl, ⟨(by decide), by show va_P D classes _ t.heap; rw [ht]; exact hP, hD⟩⟩, hS.F ht⟩) hS.2.2 d_X_goesBy_127
theorem v_X_goesBy {R : Room} {s : State} {args : Array Value} {own : String} {index : Nat} (hk : ∀ w ∈ tb, w.before args s = true) (hl : Cond.methodLink own index y_X_goesBy ∈ tb) (hR : 0 + 1 ≤ R.frames ∧ 8 + (3 + 11) + 0 ≤ R.locals) : CallW R s args own "SignMachineModel" index y_X_goesBy b_X_goesBy 3 (some .boolean) (.code y_X_goesBy b_X_goesBy 3 (some .boolean) :: tb) ({ frames := 0, cells := 0, slots := 0, locals := 0 }) 0 0 1 := mk_v 1 hk k_1448 hl k_1447 k_74 k_119 rfl rfl h_X_goesBy hR

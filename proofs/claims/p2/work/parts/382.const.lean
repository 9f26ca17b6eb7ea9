theorem t_789 : ((Jvm.Cond.laysStatic "SignMachine$Op" "ALL" "[LSignMachine$Op;")) ∈ lw_tbl := List.mem_of_getElem? (i := 789) (by decide +kernel)
theorem t_804 : ((Jvm.Cond.laysStatic "java/lang/String" "COMPACT_STRINGS" "Z")) ∈ lw_tbl := List.mem_of_getElem? (i := 804) (by decide +kernel)
theorem t_820 : ((Jvm.Cond.laysStatic "jdk/internal/util/Preconditions" "SIOOBE_FORMATTER" "Ljava/util/function/BiFunction;")) ∈ lw_tbl := List.mem_of_getElem? (i := 820) (by decide +kernel)
theorem t_844 : ((Jvm.Cond.stringRef "SignMachine$Op" (210 : Nat) "A123456X")) ∈ lw_tbl := List.mem_of_getElem? (i := 844) (by decide +kernel)
theorem t_958 : ((Jvm.Cond.stringRef "SignMachine$Assembler" (243 : Nat) " ABCDEFGHI~JKLMNOPQR[#STUVWXYZ0123456789.,()+-*/=$<>@;:'")) ∈ lw_tbl := List.mem_of_getElem? (i := 958) (by decide +kernel)
abbrev cT : Jvm.Cond := Jvm.Cond.and given_1 narrow_1
def cdL : List Int32 := [0, 1, 2, 3, 4, 5, 5, 5, 6, 6, 6, 6, 6, 6, 7, 8, 16, 24, 32, 33, 34, 35, 36, 37, 38, 39, 39, 39, 39, 39, 39, 39, 39, 39, 39, 40, 40, 40, 40, 40, 40, 48, 48, 48, 48, 56, (-1), (-1), (-1), (-1), (-1)]
def fdL : List Int32 := [0, 5, 5, 5, 5, 0, 1, 2, 0, 1, 2, 3, 4, 5, 1, 5, 5, 5, 2, 5, 0, 0, 0, 0, 0, 0, 1, 2, 3, 4, 5, 6, 7, 8, 9, 0, 1, 2, 3, 4, 5, 0, 1, 2, 3, 5, 0, 0, 0, 0, 0]
def stO : List String := ["SignMachine$Op", "SignMachine$Op", "SignMachine$Op", "SignMachine$Op", "SignMachine$Op", "SignMachine$Op", "SignMachine$Op", "SignMachine$Op", "SignMachine$Op", "SignMachine$Op", "SignMachine$Op", "SignMachine$Op", "SignMachine$Op", "SignMachine$Op", "SignMachine$Op", "SignMachine$Op", "SignMachine$Op", "SignMachine$Op", "SignMachine$Op", "SignMachine$Op", "SignMachine$Op", "SignMachine$Op", "SignMachine$Op", "SignMachine$Op", "SignMachine$Op", "SignMachine$Op", "SignMachine$Op", "SignMachine$Op", "SignMachine$Op", "SignMachine$Op", "SignMachine$Op", "SignMachine$Op", "SignMachine$Op", "SignMachine$Op", "SignMachine$Op", "SignMachine$Op", "SignMachine$Op", "SignMachine$Op", "SignMachine$Op", "SignMachine$Op", "SignMachine$Op", "SignMachine$Op", "SignMachine$Op", "SignMachine$Op", "SignMachine$Op", "SignMachine$Op", "SignMachine$Op", "SignMachine$Op", "SignMachine$Op", "SignMachine$Op", "SignMachine$Op", "SignMachine$Op", "SignMachine$Assembler"]
def stK : List Nat := [221, 225, 226, 227, 228, 229, 230, 231, 232, 233, 234, 235, 236, 237, 238, 240, 243, 246, 248, 249, 250, 251, 252, 253, 254, 255, 256, 257, 258, 259, 260, 261, 262, 263, 264, 266, 269, 272, 275, 278, 281, 284, 287, 290, 293, 296, 298, 299, 300, 301, 302, 210, 243]
def lnL : List Nat := [3, 3, 3, 3, 3, 3, 4, 3, 3, 3, 4, 4, 3, 3, 4, 3, 4, 3, 3, 3, 4, 3, 2, 3, 4, 3, 3, 3, 4, 2, 2, 2, 3, 3, 3, 3, 3, 3, 4, 4, 4, 4, 4, 4, 4, 4, 3, 4, 3, 3, 3, 8, 56]
def btL : List (List Int32) := [[78, 79, 80], [65, 68, 68], [83, 85, 66], [77, 85, 76], [68, 73, 86], [78, 85, 77], [67, 72, 65, 82], [72, 76, 84], [83, 76, 65], [83, 82, 65], [83, 76, 65, 88], [83, 82, 65, 88], [83, 76, 67], [83, 82, 67], [77, 79, 86, 69], [76, 68, 63], [76, 68, 63, 78], [83, 84, 63], [83, 84, 74], [83, 84, 90], [74, 66, 85, 83], [73, 79, 67], [73, 78], [79, 85, 84], [74, 82, 69, 68], [74, 77, 80], [74, 83, 74], [74, 79, 86], [74, 78, 79, 86], [74, 76], [74, 69], [74, 71], [74, 71, 69], [74, 78, 69], [74, 76, 69], [74, 63, 78], [74, 63, 90], [74, 63, 80], [74, 63, 78, 78], [74, 63, 78, 90], [74, 63, 78, 80], [73, 78, 67, 63], [68, 69, 67, 63], [69, 78, 84, 63], [69, 78, 78, 63], [67, 77, 80, 63], [69, 81, 85], [79, 82, 73, 71], [67, 79, 78], [65, 76, 70], [69, 78, 68], [65, 49, 50, 51, 52, 53, 54, 88], [32, 65, 66, 67, 68, 69, 70, 71, 72, 73, 126, 74, 75, 76, 77, 78, 79, 80, 81, 82, 91, 35, 83, 84, 85, 86, 87, 88, 89, 90, 48, 49, 50, 51, 52, 53, 54, 55, 56, 57, 46, 44, 40, 41, 43, 45, 42, 47, 61, 36, 60, 62, 64, 59, 58, 39]]
def ixL : List Nat := [1717, 1718, 1719, 1720, 1721, 1722, 1723, 1724, 1725, 1726, 1727, 1728, 1729, 1730, 1731, 1732, 1733, 1734, 1735, 1736, 1737, 1738, 1739, 1740, 1741, 1742, 1743, 1744, 1745, 1746, 1747, 1748, 1749, 1750, 1751, 1752, 1753, 1754, 1755, 1756, 1757, 1758, 1759, 1760, 1761, 1762, 908, 1061, 1055, 949, 1763]
abbrev tmO (i : Nat) : Term := .static "SignMachine$Op" (nmO.getD i "") "LSignMachine$Op;"
abbrev tmS (j : Nat) : Term := .string (stO.getD j "") (stK.getD j 0)
abbrev tmA : Term := .static "SignMachine$Op" "ALL" "[LSignMachine$Op;"
set_option maxRecDepth 1000000 in
theorem m_ex : ∀ i, i < 51 → (Cond.exactly (tmO i) "SignMachine$Op") ∈ flatC cT := by decide +kernel
set_option maxRecDepth 1000000 in
theorem m_cd : ∀ i, i < 51 → (Cond.eq (.field (tmO i) "SignMachine$Op" "code" "I") (.int (cdL.getD i 0))) ∈ flatC cT := by decide +kernel
set_option maxRecDepth 1000000 in
theorem m_fd : ∀ i, i < 51 → (Cond.eq (.field (tmO i) "SignMachine$Op" "field" "I") (.int (fdL.getD i 0))) ∈ flatC cT := by decide +kernel
set_option maxRecDepth 1000000 in
theorem m_pt : ∀ i, i < 51 → (Cond.eq (.field (tmO i) "SignMachine$Op" "pattern" "Ljava/lang/String;") (tmS i)) ∈ flatC cT := by decide +kernel
set_option maxRecDepth 1000000 in
theorem m_tb : ∀ i, i < 51 → (Cond.eq (.elem tmA (.int (Int32.ofNat i))) (tmO i)) ∈ flatC cT := by decide +kernel
set_option maxRecDepth 1000000 in
theorem m_sx : ∀ j, j < 53 → (Cond.exactly (tmS j) "java/lang/String") ∈ flatC cT := by decide +kernel
set_option maxRecDepth 1000000 in
theorem m_co : ∀ j, j < 53 → (Cond.eq (.field (tmS j) "java/lang/String" "coder" "B") (.int 0)) ∈ flatC cT := by decide +kernel
set_option maxRecDepth 1000000 in
theorem m_ar : ∀ j, j < 53 → (Cond.arrayOf (.field (tmS j) "java/lang/String" "value" "[B") .byte) ∈ flatC cT := by decide +kernel
set_option maxRecDepth 1000000 in
theorem m_le : ∀ j, j < 53 → (Cond.eq (.length (.field (tmS j) "java/lang/String" "value" "[B")) (.int (Int32.ofNat (lnL.getD j 0)))) ∈ flatC cT := by decide +kernel
set_option maxRecDepth 1000000 in
theorem m_el : ∀ j, j < 53 → ∀ k, k < lnL.getD j 0 → (Cond.eq (.elem (.field (tmS j) "java/lang/String" "value" "[B") (.int (Int32.ofNat k))) (.int ((btL.getD j []).getD k 0))) ∈ flatC cT := by decide +kernel
theorem m_n : ∀ j, j < 53 → lnL.getD j 0 < 2 ^ 31 := by decide +kernel
set_option maxRecDepth 1000000 in
theorem m_al : (Cond.arrayOf tmA (.object "SignMachine$Op")) ∈ flatC cT ∧ (Cond.eq (.length tmA) (.int (Int32.ofNat 51))) ∈ flatC cT ∧ (Cond.eq (.static "java/lang/String" "COMPACT_STRINGS" "Z") (.int 1)) ∈ flatC cT ∧ (Cond.isRef (.static "jdk/internal/util/Preconditions" "SIOOBE_FORMATTER" "Ljava/util/function/BiFunction;")) ∈ flatC cT := by decide +kernel
set_option maxRecDepth 1000000 in
theorem m_ls : ∀ i, i < 51 → lw_tbl[ixL.getD i 0]? = some (Cond.laysStatic "SignMachine$Op" (nmO.getD i "") "LSignMachine$Op;") := by decide +kernel
theorem mkCN {args : Array Value} {s : State} {A : Nat → Prop} (hts : ∀ w ∈ lw_tbl, w.before args s = true) (hk : ∀ w ∈ tb, w.before args s = true) (hg : cT.before args s = true) (hA : ∀ a : Nat, a < s.heap.size → ¬ A a) : ∃ K : CK, CN K A s s.heap := by
  have hf := flat_of_before cT hg
  have hS : ∀ j : Nat, ∃ q : Nat × Nat, j < 53 → (tmS j).eval args s none [] s = some (.ref q.1) ∧ va_O "java/lang/String" q.1 A s s.heap ∧ va_OF "java/lang/String" "coder" "B" (.int 0) q.1 A s s.heap ∧ va_OF "java/lang/String" "value" "[B" (.ref q.2) q.1 A s s.heap ∧ va_T .byte q.2 (lnL.getD j 0) (fun k => .int ((btL.getD j []).getD k 0)) A s s.heap := by
    intro j
    by_cases hj : j < 53
    · obtain ⟨a, c, cA, kA, q1, q2, q3, q4, q5, q6, -⟩ := Cond.exactly_spec (args := args) (first := s) (o := none) (s := s) (idx := []) (t := tmS j) (cls := "java/lang/String") (hf _ (m_sx j hj))
      obtain ⟨t, ht1, hT⟩ := va_Tof (f := fun k => .int ((btL.getD j []).getD k 0)) (A := A) (m_n j hj) (hf _ (m_ar j hj)) (va_eqt (hf _ (m_le j hj))) (fun k hk => va_eqt (hf _ (m_el j hj k hk))) hA
      exact ⟨(a, t), fun _ => ⟨q1, ⟨cA, q3, q5, by rw [q6]; exact q2, hA a (Array.getElem?_eq_some_iff.mp q3).1⟩, vk_OFof q1 (va_eqt (hf _ (m_co j hj))) hA, vk_OFof q1 ht1 hA, hT⟩⟩
    · exact ⟨(0, 0), fun h => absurd h hj⟩
  have hO : ∀ i : Nat, ∃ t : Nat, i < 51 → (tmO i).eval args s none [] s = some (.ref t) ∧ va_O "SignMachine$Op" t A s s.heap := by
    intro i
    by_cases hi : i < 51
    · obtain ⟨a, c, cA, kA, q1, q2, q3, q4, q5, q6, -⟩ := Cond.exactly_spec (args := args) (first := s) (o := none) (s := s) (idx := []) (t := tmO i) (cls := "SignMachine$Op") (hf _ (m_ex i hi))
      exact ⟨a, fun _ => ⟨q1, cA, q3, q5, by rw [q6]; exact q2, hA a (Array.getElem?_eq_some_iff.mp q3).1⟩⟩
    · exact ⟨0, fun h => absurd h hi⟩
  obtain ⟨ad, had⟩ := Classical.axiomOfChoice hO
  obtain ⟨sd, hsd⟩ := Classical.axiomOfChoice hS
  obtain ⟨ta, hta, hTA⟩ := va_Tof (tm := tmA) (ty := .object "SignMachine$Op") (N := 51) (f := fun j => .ref (ad j)) (A := A) (by decide) (hf _ m_al.1) (va_eqt (hf _ m_al.2.1)) (fun j hj => va_eqv (hf _ (m_tb j hj)) (had j hj).1) hA
  obtain ⟨fv, hfv, hfr⟩ := Cond.isRef_spec (hf _ m_al.2.2.2)
  obtain ⟨fm, rfl⟩ : ∃ fm : Option Nat, fv = va_rf fm := by
    cases fv with
    | null => exact ⟨none, rfl⟩
    | ref t => exact ⟨some t, rfl⟩
    | _ => simp_all
  have hl : ∀ i, i < 51 → (Cond.laysStatic "SignMachine$Op" (nmO.getD i "") "LSignMachine$Op;").before args s = true := fun i hi => hts _ (List.mem_of_getElem? (m_ls i hi))
  refine ⟨(ad, fun j => (sd j).1, fun j => (sd j).2, fun i => i, fun j => lnL.getD j 0, fun i => cdL.getD i 0, fun i => fdL.getD i 0, fun j k => (btL.getD j []).getD k 0, ta, fm), fun i hi => ?_, fun j hj => ?_, va_Zref (hts _ t_789) (hk _ k_128) hta hA, hTA, va_Zof (hts _ t_804) (hk _ k_129) (va_eqt (hf _ m_al.2.2.1)) hA, va_Zof (hts _ t_820) (hk _ k_131) hfv hA, vk_R.of (hts _ t_844) (hsd 51 (by decide)).1, vk_R.of (hts _ t_958) (hsd 52 (by decide)).1⟩
  · exact ⟨va_Zref (hl i hi) (hk _ k_128) (had i hi).1 hA, (had i hi).2, vk_OFof (had i hi).1 (va_eqt (hf _ (m_cd i hi))) hA, vk_OFof (had i hi).1 (va_eqt (hf _ (m_fd i hi))) hA, vk_OFof (had i hi).1 (va_eqv (hf _ (m_pt i hi)) (hsd i (Nat.lt_trans hi (by decide))).1) hA, Nat.lt_trans hi (by decide)⟩
  · exact ⟨(hsd j hj).2.1, (hsd j hj).2.2.1, (hsd j hj).2.2.2.1, (hsd j hj).2.2.2.2, m_n j hj⟩

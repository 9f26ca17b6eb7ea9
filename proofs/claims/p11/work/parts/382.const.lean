theorem t_789 : ((Jvm.Cond.laysStatic "SignMachine$Op" "ALL" "[LSignMachine$Op;")) ∈ lw_tbl := List.mem_of_getElem? (i := 789) (by decide +kernel)
theorem t_804 : ((Jvm.Cond.laysStatic "java/lang/String" "COMPACT_STRINGS" "Z")) ∈ lw_tbl := List.mem_of_getElem? (i := 804) (by decide +kernel)
theorem t_820 : ((Jvm.Cond.laysStatic "jdk/internal/util/Preconditions" "SIOOBE_FORMATTER" "Ljava/util/function/BiFunction;")) ∈ lw_tbl := List.mem_of_getElem? (i := 820) (by decide +kernel)
theorem t_844 : ((Jvm.Cond.stringRef "SignMachine$Op" (210 : Nat) "A123456X")) ∈ lw_tbl := List.mem_of_getElem? (i := 844) (by decide +kernel)
theorem t_958 : ((Jvm.Cond.stringRef "SignMachine$Assembler" (243 : Nat) " ABCDEFGHI~JKLMNOPQR[#STUVWXYZ0123456789.,()+-*/=$<>@;:'")) ∈ lw_tbl := List.mem_of_getElem? (i := 958) (by decide +kernel)
abbrev cT : Jvm.Cond := Jvm.Cond.and given_1 narrow_1
def cdL : List Int32 := [0, 1, 2, 3, 4, 5, 5, 5, 6, 6, 6, 6, 6, 6, 7, 8, 16, 24, 32, 33, 34, 35, 36, 37, 38, 39, 39, 39, 39, 39, 39, 39, 39, 39, 39, 40, 40, 40, 40, 40, 40, 48, 48, 48, 48, 56, (-1), (-1), (-1), (-1), (-1)]
def fdL : List Int32 := [0, 5, 5, 5, 5, 0, 1, 2, 0, 1, 2, 3, 4, 5, 1, 5, 5, 5, 2, 5, 0, 0, 0, 0, 0, 0, 1, 2, 3, 4, 5, 6, 7, 8, 9, 0, 1, 2, 3, 4, 5, 0, 1, 2, 3, 5, 0, 0, 0, 0, 0]
def stO : List String := ["SignMachine$Op", "SignMachine$Op", "SignMachine$Op", "SignMachine$Op", "SignMachine$Op", "SignMachine$Op", "SignMachine$Op", "SignMachine$Op", "SignMachine$Op", "SignMachine$Op", "SignMachine$Op", "SignMachine$Op", "SignMachine$Op", "SignMachine$Op", "SignMachine$Op", "SignMachine$Op", "SignMachine$Op", "SignMachine$Op", "SignMachine$Op", "SignMachine$Op", "SignMachine$Op", "SignMachine$Op", "SignMachine$Op", "SignMachine$Op", "SignMachine$Op", "SignMachine$Op", "SignMachine$Op", "SignMachine$Op", "SignMachine$Op", "SignMachine$Op", "SignMachine$Op", "SignMachine$Op", "SignMachine$Op", "SignMachine$Op", "SignMachine$Op", "SignMachine$Op", "SignMachine$Op", "SignMachine$Op", "SignMachine$Op", "SignMachine$Op", "SignMachine$Op", "SignMachine$Op", "SignMachine$Op", "SignMachine$Op", "SignMachine$Op", "SignMachine$Op", "SignMachine$Op", "SignMachine$Op", "SignMachine$Op", "SignMachine$Op", "SignMachine$Op", "SignMachine$Op", "SignMachine$Assembler"]
def stK : List Nat := [221, 225, 226, 227, 228, 229, 230, 231, 232, 233, 234, 235, 236, 237, 238, 240, 243, 246, 248, 249, 250, 251, 252, 253, 254, 255, 256, 257, 258, 259, 260, 261, 262, 263, 264, 266, 269, 272, 275, 278, 281, 284, 287, 290, 293, 296, 298, 299, 300, 301, 302, 210, 243]
def lnL : List Nat := [3, 3, 3, 3, 3, 3, 4, 3, 3, 3, 4, 4, 3, 3, 4, 3, 4, 3, 3, 3, 4, 3, 2, 3, 4, 3, 3, 3, 4, 2, 2, 2, 3, 3, 3, 3, 3, 3, 4, 4, 4, 4, 4, 4, 4, 4, 3, 4, 3, 3, 3, 8, 56]
def btL : List (List Int32) := [[78, 79, 80], [65, 68, 68], [83, 85, 66], [77, 85, 76], [68, 73, 86], [78, 85, 77], [67, 72, 65, 82], [72, 76, 84], [83, 76, 65], [83, 82, 65], [83, 76, 65, 88], [83, 82, 65, 88], [83, 76, 67], [83, 82, 67], [77, 79, 86, 69], [76, 68, 63], [76, 68, 63, 78], [83, 84, 63], [83, 84, 74], [83, 84, 90], [74, 66, 85, 83], [73, 79, 67], [73, 78], [79, 85, 84], [74, 82, 69, 68], [74, 77, 80], [74, 83, 74], [74, 79, 86], [74, 78, 79, 86], [74, 76], [74, 69], [74, 71], [74, 71, 69], [74, 78, 69], [74, 76, 69], [74, 63, 78], [74, 63, 90], [74, 63, 80], [74, 63, 78, 78], [74, 63, 78, 90], [74, 63, 78, 80], [73, 78, 67, 63], [68, 69, 67, 63], [69, 78, 84, 63], [69, 78, 78, 63], [67, 77, 80, 63], [69, 81, 85], [79, 82, 73, 71], [67, 79, 78], [65, 76, 70], [69, 78, 68], [65, 49, 50, 51, 52, 53, 54, 88], [32, 65, 66, 67, 68, 69, 70, 71, 72, 73, 126, 74, 75, 76, 77, 78, 79, 80, 81, 82, 91, 35, 83, 84, 85, 86, 87, 88, 89, 90, 48, 49, 50, 51, 52, 53, 54, 55, 56, 57, 46, 44, 40, 41, 43, 45, 42, 47, 61, 36, 60, 62, 64, 59, 58, 39]]
def ixL : List Nat := [1717, 1718, 1719, 1720, 1721, 1722, 1723, 1724, 1725, 1726, 1727, 1728, 1729, 1730, 1731, 1732, 1733, 1734, 1735, 1736, 1737, 1738, 1739, 1740, 1741, 1742, 1743, 1744, 1745, 1746, 1747, 1748, 1749, 1750, 1751, 1752, 1753, 1754, 1755, 1756, 1757, 1758, 1759, 1760, 1761, 1762, 908, 1061, 1055, 949, 1763]
abbrev tmO (i : Nat) : Term := .static "SignMachine$Op" (nmO.getD i "") "LSignMachine$Op;"
abbrev tmS (j : Nat) : Term := .string (stO.getD j "") (stK.getD j 0)
abbrev tmA : Term := .static "SignMachine$Op" "ALL" "[LSignMachine$Op;"
def flA : Jvm.Cond → List Jvm.Cond → List Jvm.Cond
  | .and a b, acc => flA a (flA b acc)
  | c, acc => c :: acc
theorem flA_b {args : Array Value} {s : State} (T : Jvm.Cond) : T.before args s = true → ∀ acc : List Jvm.Cond, (∀ c ∈ acc, c.before args s = true) → ∀ c ∈ flA T acc, c.before args s = true := by
  induction T with
  | and a b iha ihb =>
    intro h acc ha c hc
    rw [Cond.before_and, Bool.and_eq_true] at h
    simp only [flA] at hc
    exact iha h.1 _ (ihb h.2 acc ha) c hc
  | _ =>
    intro h acc ha c hc
    simp only [flA, List.mem_cons] at hc
    rcases hc with hc | hc
    · rw [hc]; exact h
    · exact ha c hc
def cL : List Jvm.Cond := flA cT []
def exI : List Nat := [85, 90, 95, 100, 105, 110, 115, 120, 125, 130, 135, 140, 145, 150, 155, 160, 165, 170, 175, 180, 185, 190, 195, 200, 205, 210, 215, 220, 225, 230, 235, 240, 245, 250, 255, 260, 265, 270, 275, 280, 285, 290, 295, 300, 305, 310, 65, 80, 75, 70, 315]
def cdI : List Nat := [88, 93, 98, 103, 108, 113, 118, 123, 128, 133, 138, 143, 148, 153, 158, 163, 168, 173, 178, 183, 188, 193, 198, 203, 208, 213, 218, 223, 228, 233, 238, 243, 248, 253, 258, 263, 268, 273, 278, 283, 288, 293, 298, 303, 308, 313, 68, 83, 78, 73, 318]
def fdI : List Nat := [89, 94, 99, 104, 109, 114, 119, 124, 129, 134, 139, 144, 149, 154, 159, 164, 169, 174, 179, 184, 189, 194, 199, 204, 209, 214, 219, 224, 229, 234, 239, 244, 249, 254, 259, 264, 269, 274, 279, 284, 289, 294, 299, 304, 309, 314, 69, 84, 79, 74, 319]
def ptI : List Nat := [87, 92, 97, 102, 107, 112, 117, 122, 127, 132, 137, 142, 147, 152, 157, 162, 167, 172, 177, 182, 187, 192, 197, 202, 207, 212, 217, 222, 227, 232, 237, 242, 247, 252, 257, 262, 267, 272, 277, 282, 287, 292, 297, 302, 307, 312, 67, 82, 77, 72, 317]
def tbI : List Nat := [9, 10, 11, 12, 13, 14, 15, 16, 17, 18, 19, 20, 21, 22, 23, 24, 25, 26, 27, 28, 29, 30, 31, 32, 33, 34, 35, 36, 37, 38, 39, 40, 41, 42, 43, 44, 45, 46, 47, 48, 49, 50, 51, 52, 53, 54, 55, 56, 57, 58, 59]
def sxI : List Nat := [421, 428, 435, 442, 449, 456, 463, 471, 478, 485, 492, 500, 508, 515, 522, 530, 537, 545, 552, 559, 566, 574, 581, 587, 594, 602, 609, 616, 623, 631, 637, 643, 649, 656, 663, 670, 677, 684, 691, 699, 707, 715, 723, 731, 739, 747, 392, 413, 406, 399, 755, 320, 332]
def coI : List Nat := [422, 429, 436, 443, 450, 457, 464, 472, 479, 486, 493, 501, 509, 516, 523, 531, 538, 546, 553, 560, 567, 575, 582, 588, 595, 603, 610, 617, 624, 632, 638, 644, 650, 657, 664, 671, 678, 685, 692, 700, 708, 716, 724, 732, 740, 748, 393, 414, 407, 400, 756, 321, 333]
def arI : List Nat := [423, 430, 437, 444, 451, 458, 465, 473, 480, 487, 494, 502, 510, 517, 524, 532, 539, 547, 554, 561, 568, 576, 583, 589, 596, 604, 611, 618, 625, 633, 639, 645, 651, 658, 665, 672, 679, 686, 693, 701, 709, 717, 725, 733, 741, 749, 394, 415, 408, 401, 757, 322, 334]
def leI : List Nat := [424, 431, 438, 445, 452, 459, 466, 474, 481, 488, 495, 503, 511, 518, 525, 533, 540, 548, 555, 562, 569, 577, 584, 590, 597, 605, 612, 619, 626, 634, 640, 646, 652, 659, 666, 673, 680, 687, 694, 702, 710, 718, 726, 734, 742, 750, 395, 416, 409, 402, 758, 323, 335]
def elI : List (List Nat) := [[425, 426, 427], [432, 433, 434], [439, 440, 441], [446, 447, 448], [453, 454, 455], [460, 461, 462], [467, 468, 469, 470], [475, 476, 477], [482, 483, 484], [489, 490, 491], [496, 497, 498, 499], [504, 505, 506, 507], [512, 513, 514], [519, 520, 521], [526, 527, 528, 529], [534, 535, 536], [541, 542, 543, 544], [549, 550, 551], [556, 557, 558], [563, 564, 565], [570, 571, 572, 573], [578, 579, 580], [585, 586], [591, 592, 593], [598, 599, 600, 601], [606, 607, 608], [613, 614, 615], [620, 621, 622], [627, 628, 629, 630], [635, 636], [641, 642], [647, 648], [653, 654, 655], [660, 661, 662], [667, 668, 669], [674, 675, 676], [681, 682, 683], [688, 689, 690], [695, 696, 697, 698], [703, 704, 705, 706], [711, 712, 713, 714], [719, 720, 721, 722], [727, 728, 729, 730], [735, 736, 737, 738], [743, 744, 745, 746], [751, 752, 753, 754], [396, 397, 398], [417, 418, 419, 420], [410, 411, 412], [403, 404, 405], [759, 760, 761], [324, 325, 326, 327, 328, 329, 330, 331], [336, 337, 338, 339, 340, 341, 342, 343, 344, 345, 346, 347, 348, 349, 350, 351, 352, 353, 354, 355, 356, 357, 358, 359, 360, 361, 362, 363, 364, 365, 366, 367, 368, 369, 370, 371, 372, 373, 374, 375, 376, 377, 378, 379, 380, 381, 382, 383, 384, 385, 386, 387, 388, 389, 390, 391]]
set_option maxRecDepth 1000000 in
theorem m_ex : ∀ i, i < 51 → cL[exI.getD i 0]? = some (Cond.exactly (tmO i) "SignMachine$Op") := by decide +kernel
set_option maxRecDepth 1000000 in
theorem m_cd : ∀ i, i < 51 → cL[cdI.getD i 0]? = some (Cond.eq (.field (tmO i) "SignMachine$Op" "code" "I") (.int (cdL.getD i 0))) := by decide +kernel
set_option maxRecDepth 1000000 in
theorem m_fd : ∀ i, i < 51 → cL[fdI.getD i 0]? = some (Cond.eq (.field (tmO i) "SignMachine$Op" "field" "I") (.int (fdL.getD i 0))) := by decide +kernel
set_option maxRecDepth 1000000 in
theorem m_pt : ∀ i, i < 51 → cL[ptI.getD i 0]? = some (Cond.eq (.field (tmO i) "SignMachine$Op" "pattern" "Ljava/lang/String;") (tmS i)) := by decide +kernel
set_option maxRecDepth 1000000 in
theorem m_tb : ∀ i, i < 51 → cL[tbI.getD i 0]? = some (Cond.eq (.elem tmA (.int (Int32.ofNat i))) (tmO i)) := by decide +kernel
set_option maxRecDepth 1000000 in
theorem m_sx : ∀ j, j < 53 → cL[sxI.getD j 0]? = some (Cond.exactly (tmS j) "java/lang/String") := by decide +kernel
set_option maxRecDepth 1000000 in
theorem m_co : ∀ j, j < 53 → cL[coI.getD j 0]? = some (Cond.eq (.field (tmS j) "java/lang/String" "coder" "B") (.int 0)) := by decide +kernel
set_option maxRecDepth 1000000 in
theorem m_ar : ∀ j, j < 53 → cL[arI.getD j 0]? = some (Cond.arrayOf (.field (tmS j) "java/lang/String" "value" "[B") .byte) := by decide +kernel
set_option maxRecDepth 1000000 in
theorem m_le : ∀ j, j < 53 → cL[leI.getD j 0]? = some (Cond.eq (.length (.field (tmS j) "java/lang/String" "value" "[B")) (.int (Int32.ofNat (lnL.getD j 0)))) := by decide +kernel
set_option maxRecDepth 1000000 in
theorem m_el : ∀ j, j < 53 → ∀ k, k < lnL.getD j 0 → cL[(elI.getD j []).getD k 0]? = some (Cond.eq (.elem (.field (tmS j) "java/lang/String" "value" "[B") (.int (Int32.ofNat k))) (.int ((btL.getD j []).getD k 0))) := by decide +kernel
theorem m_n : ∀ j, j < 53 → lnL.getD j 0 < 2 ^ 31 := by decide +kernel
set_option maxRecDepth 1000000 in
theorem m_al : cL[6]? = some (Cond.arrayOf tmA (.object "SignMachine$Op")) ∧ cL[7]? = some (Cond.eq (.length tmA) (.int (Int32.ofNat 51))) ∧ cL[60]? = some (Cond.eq (.static "java/lang/String" "COMPACT_STRINGS" "Z") (.int 1)) ∧ cL[61]? = some (Cond.isRef (.static "jdk/internal/util/Preconditions" "SIOOBE_FORMATTER" "Ljava/util/function/BiFunction;")) := by decide +kernel
set_option maxRecDepth 1000000 in
theorem m_ls : ∀ i, i < 51 → lw_tbl[ixL.getD i 0]? = some (Cond.laysStatic "SignMachine$Op" (nmO.getD i "") "LSignMachine$Op;") := by decide +kernel
theorem mkCN {args : Array Value} {s : State} {A : Nat → Prop} (hts : ∀ w ∈ lw_tbl, w.before args s = true) (hk : ∀ w ∈ tb, w.before args s = true) (hg : cT.before args s = true) (hA : ∀ a : Nat, a < s.heap.size → ¬ A a) : ∃ K : CK, CN K A s s.heap := by
  have hf0 := flA_b cT hg [] (fun c hc => absurd hc List.not_mem_nil)
  have hf : ∀ {i : Nat} {c : Jvm.Cond}, cL[i]? = some c → c.before args s = true := fun h => hf0 _ (List.mem_of_getElem? h)
  have hS : ∀ j : Nat, ∃ q : Nat × Nat, j < 53 → (tmS j).eval args s none [] s = some (.ref q.1) ∧ va_O "java/lang/String" q.1 A s s.heap ∧ va_OF "java/lang/String" "coder" "B" (.int 0) q.1 A s s.heap ∧ va_OF "java/lang/String" "value" "[B" (.ref q.2) q.1 A s s.heap ∧ va_T .byte q.2 (lnL.getD j 0) (fun k => .int ((btL.getD j []).getD k 0)) A s s.heap := by
    intro j
    by_cases hj : j < 53
    · obtain ⟨a, c, cA, kA, q1, q2, q3, q4, q5, q6, -⟩ := Cond.exactly_spec (args := args) (first := s) (o := none) (s := s) (idx := []) (t := tmS j) (cls := "java/lang/String") (hf (m_sx j hj))
      obtain ⟨t, ht1, hT⟩ := va_Tof (f := fun k => .int ((btL.getD j []).getD k 0)) (A := A) (m_n j hj) (hf (m_ar j hj)) (va_eqt (hf (m_le j hj))) (fun k hk => va_eqt (hf (m_el j hj k hk))) hA
      exact ⟨(a, t), fun _ => ⟨q1, ⟨cA, q3, q5, by rw [q6]; exact q2, hA a (Array.getElem?_eq_some_iff.mp q3).1⟩, vk_OFof q1 (va_eqt (hf (m_co j hj))) hA, vk_OFof q1 ht1 hA, hT⟩⟩
    · exact ⟨(0, 0), fun h => absurd h hj⟩
  have hO : ∀ i : Nat, ∃ t : Nat, i < 51 → (tmO i).eval args s none [] s = some (.ref t) ∧ va_O "SignMachine$Op" t A s s.heap := by
    intro i
    by_cases hi : i < 51
    · obtain ⟨a, c, cA, kA, q1, q2, q3, q4, q5, q6, -⟩ := Cond.exactly_spec (args := args) (first := s) (o := none) (s := s) (idx := []) (t := tmO i) (cls := "SignMachine$Op") (hf (m_ex i hi))
      exact ⟨a, fun _ => ⟨q1, cA, q3, q5, by rw [q6]; exact q2, hA a (Array.getElem?_eq_some_iff.mp q3).1⟩⟩
    · exact ⟨0, fun h => absurd h hi⟩
  obtain ⟨ad, had⟩ := Classical.axiomOfChoice hO
  obtain ⟨sd, hsd⟩ := Classical.axiomOfChoice hS
  obtain ⟨ta, hta, hTA⟩ := va_Tof (tm := tmA) (ty := .object "SignMachine$Op") (N := 51) (f := fun j => .ref (ad j)) (A := A) (by decide) (hf m_al.1) (va_eqt (hf m_al.2.1)) (fun j hj => va_eqv (hf (m_tb j hj)) (had j hj).1) hA
  obtain ⟨fv, hfv, hfr⟩ := Cond.isRef_spec (hf m_al.2.2.2)
  obtain ⟨fm, rfl⟩ : ∃ fm : Option Nat, fv = va_rf fm := by
    cases fv with
    | null => exact ⟨none, rfl⟩
    | ref t => exact ⟨some t, rfl⟩
    | _ => exact absurd (show false = true from hfr) Bool.false_ne_true
  have hl : ∀ i, i < 51 → (Cond.laysStatic "SignMachine$Op" (nmO.getD i "") "LSignMachine$Op;").before args s = true := fun i hi => hts _ (List.mem_of_getElem? (m_ls i hi))
  refine ⟨(ad, fun j => (sd j).1, fun j => (sd j).2, fun i => i, fun j => lnL.getD j 0, fun i => cdL.getD i 0, fun i => fdL.getD i 0, fun j k => (btL.getD j []).getD k 0, ta, fm), fun i hi => ?_, fun j hj => ?_, va_Zref (hts _ t_789) (hk _ k_128) hta hA, hTA, va_Zof (hts _ t_804) (hk _ k_129) (va_eqt (hf m_al.2.2.1)) hA, va_Zof (hts _ t_820) (hk _ k_131) hfv hA, vk_R.of (hts _ t_844) (hsd 51 (by decide)).1, vk_R.of (hts _ t_958) (hsd 52 (by decide)).1⟩
  · exact ⟨va_Zref (hl i hi) (hk _ k_128) (had i hi).1 hA, (had i hi).2, vk_OFof (had i hi).1 (va_eqt (hf (m_cd i hi))) hA, vk_OFof (had i hi).1 (va_eqt (hf (m_fd i hi))) hA, vk_OFof (had i hi).1 (va_eqv (hf (m_pt i hi)) (hsd i (Nat.lt_trans hi (by decide))).1) hA, Nat.lt_trans hi (by decide)⟩
  · exact ⟨(hsd j hj).2.1, (hsd j hj).2.2.1, (hsd j hj).2.2.2.1, (hsd j hj).2.2.2.2, m_n j hj⟩

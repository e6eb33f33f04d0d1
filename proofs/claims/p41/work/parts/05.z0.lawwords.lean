def lw_subs : List MethodName := [yJ5_ensureCapacityInternal_d00df, yJ5_newCapacity_0f7a4, yJ5_inflate_da8c8, yJ5_appendNull_278bc, yJ5_inflateIfNeededFor_a7421, yJ5_putStringAt_47b60]
/-- six private methods of AbstractStringBuilder, selected for a StringBuilder: by the tables' words -/
theorem lw_sub {args : Array Value} {s : State} {y : MethodName} (hcls : y.cls = RJ5) (h0 : (Cond.selects RJ4 yJ5_isLatin1_aae02 yJ5_isLatin1_aae02).before args s = true) (hpriv : (Cond.privateMethod y).before args s = true) (hinst : (Cond.instanceMethod y).before args s = true) : (Cond.selects RJ4 y y).before args s = true := by
  obtain ⟨c, r, m, hc, -, hm, -, mk, hmk, hni⟩ := Cond.selects_spec h0
  obtain ⟨my, methM, hnamed, hmethM, -, -⟩ := Cond.instanceMethod_spec hinst
  have hfound : s.methodFound? y.cls y.name y.desc = some my := State.methodFound?_of_named hnamed ⟨by rw [hcls]; decide, by rw [hcls]; decide⟩
  have h1 : s.vm.findClass RJ5 = some m.cls := findClass_of_methodNamed hm
  have h2 : s.vm.findClass y.cls = some my.cls := findClass_of_methodNamed hnamed
  rw [hcls, h1] at h2
  have hcls2 : my.cls = m.cls := (Option.some.inj h2).symm
  have hsel : selectMethod {} s.vm c my = .method my := selectMethod_private hmethM (Cond.privateMethod_at hpriv my methM hnamed hmethM)
  simp only [Cond.before, Cond.holds, Cond.value, hc, hfound, hnamed, hsel, hcls2, hmk]
  simp [hni]
def lw_tblX : List Cond := lw_subs.map (fun y => Cond.selects RJ4 y y) ++ lw_tbl
theorem lw_htsX {args : Array Value} {s : State} (hts : ∀ w ∈ lw_tbl, w.before args s = true) : ∀ w ∈ lw_tblX, w.before args s = true := by
  have h : ∀ y ∈ lw_subs, y.cls = RJ5 ∧ Cond.privateMethod y ∈ lw_tbl ∧ Cond.instanceMethod y ∈ lw_tbl := by decide +kernel
  have h0 : (Cond.selects RJ4 yJ5_isLatin1_aae02 yJ5_isLatin1_aae02) ∈ lw_tbl := by decide +kernel
  intro w hw
  rcases List.mem_append.mp hw with hw | hw
  · obtain ⟨y, hy, rfl⟩ := List.mem_map.mp hw
    exact lw_sub (h y hy).1 (hts _ h0) (hts _ (h y hy).2.1) (hts _ (h y hy).2.2)
  · exact hts w hw
set_option maxRecDepth 20000 in
theorem wsL_law0_r1_in : ∀ w ∈ wsL_law0_r1, w ∈ lw_tblX := fun w h => (goodIn_r wsL_law0_r1 [65, 66, 33, 1342, 67, 68, 69, 70, 71, 72, 73, 74, 34, 152, 84, 85, 35, 153, 97, 98, 36, 154, 113, 114] rfl (by decide +kernel) w h).1
set_option maxRecDepth 20000 in
theorem wsL_law0_r2_in : ∀ w ∈ wsL_law0_r2, w ∈ lw_tblX := fun w h => (goodIn_r wsL_law0_r2 [37, 155, 139, 140, 38, 156, 83, 157, 158, 159, 160, 161, 162, 75, 76, 77, 78, 79, 87, 88, 89, 90, 91, 100] rfl (by decide +kernel) w h).1
set_option maxRecDepth 20000 in
theorem wsL_law0_r3_in : ∀ w ∈ wsL_law0_r3, w ∈ lw_tblX := fun w h => (goodIn_r wsL_law0_r3 [101, 102, 103, 104, 105, 116, 117, 118, 138, 119, 120, 121, 122, 123, 124, 142, 143, 144, 145, 146, 725, 726, 32, 727] rfl (by decide +kernel) w h).1
set_option maxRecDepth 20000 in
theorem wsL_law0_r4_in : ∀ w ∈ wsL_law0_r4, w ∈ lw_tblX := fun w h => (goodIn_r wsL_law0_r4 [596, 728, 729, 730, 731, 605, 42, 720, 721, 722, 723, 733, 734, 735, 736, 737, 738, 43, 739, 740, 700, 701, 702, 703] rfl (by decide +kernel) w h).1
set_option maxRecDepth 20000 in
theorem wsL_law0_r5_in : ∀ w ∈ wsL_law0_r5, w ∈ lw_tblX := fun w h => (goodIn_r wsL_law0_r5 [704, 705, 706, 235, 237, 236, 44, 741, 742, 743, 744, 745, 746, 747, 749, 750, 751, 752, 753, 190, 191, 192, 193, 227] rfl (by decide +kernel) w h).1
set_option maxRecDepth 20000 in
theorem wsL_law0_r6_in : ∀ w ∈ wsL_law0_r6, w ∈ lw_tblX := fun w h => (goodIn_r wsL_law0_r6 [228, 229, 230, 231, 232, 233, 234, 504, 505, 506, 244, 507, 508, 509, 510, 249, 251, 6, 252, 418, 48, 253, 254, 255] rfl (by decide +kernel) w h).1
set_option maxRecDepth 20000 in
theorem wsL_law0_r7_in : ∀ w ∈ wsL_law0_r7, w ∈ lw_tblX := fun w h => (goodIn_r wsL_law0_r7 [256, 257, 258, 259, 260, 261, 262, 264, 7, 265, 267, 268, 269, 271, 8, 272, 273, 274, 275, 276, 277, 279, 280, 281] rfl (by decide +kernel) w h).1
set_option maxRecDepth 20000 in
theorem wsL_law0_r8_in : ∀ w ∈ wsL_law0_r8, w ∈ lw_tblX := fun w h => (goodIn_r wsL_law0_r8 [282, 205, 206, 207, 208, 283, 284, 285, 286, 287, 288, 289, 290, 291, 292, 293, 294, 295, 296, 297, 298, 299, 300, 301] rfl (by decide +kernel) w h).1
set_option maxRecDepth 20000 in
theorem wsL_law0_r9_in : ∀ w ∈ wsL_law0_r9, w ∈ lw_tblX := fun w h => (goodIn_r wsL_law0_r9 [302, 303, 304, 305, 307, 9, 308, 309, 310, 311, 312, 313, 315, 10, 316, 317, 202, 203, 204, 318, 319, 320, 321, 322] rfl (by decide +kernel) w h).1
set_option maxRecDepth 20000 in
theorem wsL_law0_r10_in : ∀ w ∈ wsL_law0_r10, w ∈ lw_tblX := fun w h => (goodIn_r wsL_law0_r10 [323, 325, 11, 326, 327, 221, 222, 328, 329, 330, 331, 332, 333, 334, 335, 336, 337, 338, 340, 12, 341, 342, 344, 13] rfl (by decide +kernel) w h).1
set_option maxRecDepth 20000 in
theorem wsL_law0_r11_in : ∀ w ∈ wsL_law0_r11, w ∈ lw_tblX := fun w h => (goodIn_r wsL_law0_r11 [345, 346, 348, 14, 349, 350, 210, 211, 212, 352, 353, 354, 356, 15, 357, 359, 360, 362, 363, 364, 365, 366, 367, 368] rfl (by decide +kernel) w h).1
set_option maxRecDepth 20000 in
theorem wsL_law0_r12_in : ∀ w ∈ wsL_law0_r12, w ∈ lw_tblX := fun w h => (goodIn_r wsL_law0_r12 [369, 371, 16, 372, 373, 374, 376, 17, 377, 378, 380, 18, 381, 382, 383, 384, 385, 386, 387, 195, 45, 196, 197, 198] rfl (by decide +kernel) w h).1
set_option maxRecDepth 20000 in
theorem wsL_law0_r13_in : ∀ w ∈ wsL_law0_r13, w ∈ lw_tblX := fun w h => (goodIn_r wsL_law0_r13 [199, 200, 201, 209, 213, 214, 215, 220, 216, 217, 218, 219, 388, 389, 390, 391, 392, 47, 393, 394, 395, 396, 397, 398] rfl (by decide +kernel) w h).1
set_option maxRecDepth 20000 in
theorem wsL_law0_r14_in : ∀ w ∈ wsL_law0_r14, w ∈ lw_tblX := fun w h => (goodIn_r wsL_law0_r14 [399, 400, 401, 402, 403, 404, 405, 406, 408, 19, 409, 410, 411, 412, 413, 414, 415, 416, 417, 490, 491, 492, 493, 494] rfl (by decide +kernel) w h).1
set_option maxRecDepth 20000 in
theorem wsL_law0_r15_in : ∀ w ∈ wsL_law0_r15, w ∈ lw_tblX := fun w h => (goodIn_r wsL_law0_r15 [495, 496, 593, 594, 595, 597, 598, 599, 600, 601, 602, 603, 604, 621, 622, 623, 624, 625, 626, 627, 628, 708, 709, 710] rfl (by decide +kernel) w h).1
set_option maxRecDepth 20000 in
theorem wsL_law0_r16_in : ∀ w ∈ wsL_law0_r16, w ∈ lw_tblX := fun w h => (goodIn_r wsL_law0_r16 [545, 711, 712, 713, 714, 568, 49, 715, 716, 717, 718, 719, 629, 630, 631, 632, 633, 634, 635, 636, 637, 638, 639, 640] rfl (by decide +kernel) w h).1
set_option maxRecDepth 20000 in
theorem wsL_law0_r17_in : ∀ w ∈ wsL_law0_r17, w ∈ lw_tblX := fun w h => (goodIn_r wsL_law0_r17 [642, 22, 643, 644, 646, 23, 647, 648, 649, 650, 651, 653, 24, 654, 655, 657, 25, 658, 659, 660, 661, 662, 664, 26] rfl (by decide +kernel) w h).1
set_option maxRecDepth 20000 in
theorem wsL_law0_r18_in : ∀ w ∈ wsL_law0_r18, w ∈ lw_tblX := fun w h => (goodIn_r wsL_law0_r18 [665, 666, 668, 27, 669, 670, 672, 28, 673, 674, 675, 676, 677, 679, 29, 680, 681, 682, 683, 684, 686, 687, 688, 689] rfl (by decide +kernel) w h).1
set_option maxRecDepth 20000 in
theorem wsL_law0_r19_in : ∀ w ∈ wsL_law0_r19, w ∈ lw_tblX := fun w h => (goodIn_r wsL_law0_r19 [690, 691, 692, 693, 694, 695, 696, 697, 698, 699, 223, 224, 225, 226, 241, 242, 243, 245, 246, 247, 248, 754, 755, 756] rfl (by decide +kernel) w h).1
set_option maxRecDepth 20000 in
theorem wsL_law0_r20_in : ∀ w ∈ wsL_law0_r20, w ∈ lw_tblX := fun w h => (goodIn_r wsL_law0_r20 [757, 758, 759, 760, 761, 762, 763, 764, 765, 766, 767, 769, 50, 497, 498, 499, 500, 501, 502, 503, 186, 187, 188, 189] rfl (by decide +kernel) w h).1
set_option maxRecDepth 20000 in
theorem wsL_law0_r21_in : ∀ w ∈ wsL_law0_r21, w ∈ lw_tblX := fun w h => (goodIn_r wsL_law0_r21 [194, 511, 512, 513, 514, 515, 516, 517, 518, 519, 520, 521, 546, 547, 548, 549, 550, 552, 21, 553, 555, 51, 554, 584] rfl (by decide +kernel) w h).1
set_option maxRecDepth 20000 in
theorem wsL_law0_r22_in : ∀ w ∈ wsL_law0_r22, w ∈ lw_tblX := fun w h => (goodIn_r wsL_law0_r22 [585, 586, 587, 588, 589, 590, 591, 785, 786, 787, 238, 239, 240, 788, 789, 790, 791, 792, 793, 794, 795, 796, 797, 798] rfl (by decide +kernel) w h).1
set_option maxRecDepth 20000 in
theorem wsL_law0_r23_in : ∀ w ∈ wsL_law0_r23, w ∈ lw_tblX := fun w h => (goodIn_r wsL_law0_r23 [800, 802, 803, 804, 805, 806, 807, 808, 809, 810, 811, 812, 813, 814, 815, 816, 817, 818, 819, 820, 821, 822, 823, 824] rfl (by decide +kernel) w h).1
set_option maxRecDepth 20000 in
theorem wsL_law0_r24_in : ∀ w ∈ wsL_law0_r24, w ∈ lw_tblX := fun w h => (goodIn_r wsL_law0_r24 [825, 826, 827, 828, 829, 850, 843, 844, 845, 846, 847, 54, 851, 852, 55, 853, 857, 859, 858, 55, 860, 854, 855, 856] rfl (by decide +kernel) w h).1

/-! the law's words, by their places in the tables -/
theorem in_pos {big ws : List Cond} (ps : List Nat) (h : ws = ps.filterMap (fun i => big[i]?)) : ∀ w ∈ ws, w ∈ big := by
  intro w hw
  rw [h] at hw
  obtain ⟨i, -, hi⟩ := List.mem_filterMap.mp hw
  exact List.mem_of_getElem? hi
set_option maxRecDepth 20000 in
theorem lwi_1 : ∀ w ∈ wsL_law0_r1, w ∈ lw_tbl := in_pos [50, 51, 35, 603, 604, 41, 84, 850, 52, 53, 54, 55, 56, 57, 58, 59, 36, 167, 85, 86, 37, 168, 107, 108] (by decide +kernel)
set_option maxRecDepth 20000 in
theorem lwi_2 : ∀ w ∈ wsL_law0_r2, w ∈ lw_tbl := in_pos [38, 169, 123, 124, 39, 170, 145, 146, 40, 171, 61, 62, 63, 83, 64, 65, 66, 67, 68, 69, 88, 89, 90, 91] (by decide +kernel)
set_option maxRecDepth 20000 in
theorem lwi_3 : ∀ w ∈ wsL_law0_r3, w ∈ lw_tbl := in_pos [92, 93, 94, 95, 110, 111, 112, 113, 114, 115, 126, 127, 128, 129, 130, 131, 132, 133, 148, 149, 150, 151, 152, 154] (by decide +kernel)
set_option maxRecDepth 20000 in
theorem lwi_4 : ∀ w ∈ wsL_law0_r4, w ∈ lw_tbl := in_pos [156, 605, 606, 607, 608, 614, 615, 616, 617, 618, 609, 610, 611, 619, 620, 621, 622, 625, 626, 627, 628, 629, 634, 183] (by decide +kernel)
set_option maxRecDepth 20000 in
theorem lwi_5 : ∀ w ∈ wsL_law0_r5, w ∈ lw_tbl := in_pos [184, 185, 186, 187, 188, 189, 190, 191, 192, 193, 194, 686, 687, 688, 689, 612, 613, 690, 691, 692, 693, 695, 16, 696] (by decide +kernel)
set_option maxRecDepth 20000 in
theorem lwi_6 : ∀ w ∈ wsL_law0_r6, w ∈ lw_tbl := in_pos [195, 196, 197, 198, 199, 200, 202, 0, 203, 204, 205, 206, 207, 697, 698, 699, 700, 701, 703, 17, 704, 208, 209, 210] (by decide +kernel)
set_option maxRecDepth 20000 in
theorem lwi_7 : ∀ w ∈ wsL_law0_r7, w ∈ lw_tbl := in_pos [211, 212, 214, 1, 215, 216, 217, 218, 219, 220, 221, 222, 223, 224, 226, 227, 705, 706, 707, 708, 709, 711, 18, 712] (by decide +kernel)
set_option maxRecDepth 20000 in
theorem lwi_8 : ∀ w ∈ wsL_law0_r8, w ∈ lw_tbl := in_pos [713, 715, 19, 716, 228, 229, 230, 231, 232, 233, 234, 235, 717, 718, 719, 720, 236, 237, 238, 239, 240, 241, 242, 243] (by decide +kernel)
set_option maxRecDepth 20000 in
theorem lwi_9 : ∀ w ∈ wsL_law0_r9, w ∈ lw_tbl := in_pos [244, 721, 722, 723, 724, 725, 726, 727, 245, 246, 247, 248, 249, 250, 251, 252, 728, 729, 730, 731, 732, 734, 20, 735] (by decide +kernel)
set_option maxRecDepth 20000 in
theorem lwi_10 : ∀ w ∈ wsL_law0_r10, w ∈ lw_tbl := in_pos [253, 254, 255, 256, 257, 259, 2, 260, 261, 262, 263, 264, 265, 266, 267, 268, 269, 736, 737, 738, 739, 740, 741, 742] (by decide +kernel)
set_option maxRecDepth 20000 in
theorem lwi_11 : ∀ w ∈ wsL_law0_r11, w ∈ lw_tbl := in_pos [501, 502, 34, 503, 504, 574, 593, 594, 595, 596, 597, 505, 45, 600, 575, 48, 411, 384, 385, 386, 743, 744, 745, 746] (by decide +kernel)
set_option maxRecDepth 20000 in
theorem lwi_12 : ∀ w ∈ wsL_law0_r12, w ∈ lw_tbl := in_pos [682, 683, 684, 685, 270, 271, 272, 273, 274, 275, 276, 277, 279, 3, 280, 281, 282, 283, 284, 747, 748, 749, 750, 751] (by decide +kernel)
set_option maxRecDepth 20000 in
theorem lwi_13 : ∀ w ∈ wsL_law0_r13, w ∈ lw_tbl := in_pos [753, 21, 754, 755, 757, 22, 758, 285, 286, 287, 288, 289, 290, 291, 292, 759, 760, 761, 762, 763, 764, 765, 293, 294] (by decide +kernel)
set_option maxRecDepth 20000 in
theorem lwi_14 : ∀ w ∈ wsL_law0_r14, w ∈ lw_tbl := in_pos [295, 296, 297, 298, 299, 300, 766, 767, 768, 769, 624, 301, 302, 303, 304, 305, 306, 307, 308, 309, 310, 311, 312, 770] (by decide +kernel)
set_option maxRecDepth 20000 in
theorem lwi_15 : ∀ w ∈ wsL_law0_r15, w ∈ lw_tbl := in_pos [771, 772, 773, 623, 774, 776, 23, 777, 313, 314, 315, 316, 317, 318, 319, 320, 321, 323, 4, 324, 325, 326, 327, 328] (by decide +kernel)
set_option maxRecDepth 20000 in
theorem lwi_16 : ∀ w ∈ wsL_law0_r16, w ∈ lw_tbl := in_pos [329, 330, 331, 332, 333, 334, 335, 336, 337, 338, 339, 340, 341, 343, 5, 344, 345, 346, 347, 348, 349, 350, 351, 352] (by decide +kernel)
set_option maxRecDepth 20000 in
theorem lwi_17 : ∀ w ∈ wsL_law0_r17, w ∈ lw_tbl := in_pos [354, 6, 355, 356, 357, 358, 359, 360, 362, 7, 363, 364, 365, 366, 367, 368, 369, 370, 371, 372, 373, 374, 376, 8] (by decide +kernel)
set_option maxRecDepth 20000 in
theorem lwi_18 : ∀ w ∈ wsL_law0_r18, w ∈ lw_tbl := in_pos [377, 378, 379, 380, 381, 382, 383, 387, 389, 9, 390, 391, 393, 10, 394, 395, 396, 397, 398, 399, 401, 11, 402, 403] (by decide +kernel)
set_option maxRecDepth 20000 in
theorem lwi_19 : ∀ w ∈ wsL_law0_r19, w ∈ lw_tbl := in_pos [405, 12, 406, 407, 409, 13, 410, 412, 414, 14, 415, 416, 417, 418, 419, 420, 421, 49, 422, 423, 424, 425, 426, 427] (by decide +kernel)
set_option maxRecDepth 20000 in
theorem lwi_20 : ∀ w ∈ wsL_law0_r20, w ∈ lw_tbl := in_pos [428, 429, 430, 778, 779, 780, 781, 782, 784, 24, 785, 632, 631, 633, 786, 788, 25, 789, 790, 792, 26, 793, 794, 796] (by decide +kernel)
set_option maxRecDepth 20000 in
theorem lwi_21 : ∀ w ∈ wsL_law0_r21, w ∈ lw_tbl := in_pos [27, 797, 798, 800, 28, 801, 802, 804, 29, 805, 806, 808, 30, 809, 810, 812, 31, 813, 814, 816, 32, 817, 818, 820] (by decide +kernel)
set_option maxRecDepth 20000 in
theorem lwi_22 : ∀ w ∈ wsL_law0_r22, w ∈ lw_tbl := in_pos [33, 821, 630, 431, 432, 433, 434, 435, 822, 823, 824, 825, 436, 437, 438, 439, 440, 441, 442, 443, 826, 827, 828, 829] (by decide +kernel)
set_option maxRecDepth 20000 in
theorem lwi_23 : ∀ w ∈ wsL_law0_r23, w ∈ lw_tbl := in_pos [444, 445, 446, 447, 448, 830, 831, 832, 833, 449, 450, 451, 452, 453, 454, 455, 456, 834, 835, 836, 837, 457, 458, 459] (by decide +kernel)
set_option maxRecDepth 20000 in
theorem lwi_24 : ∀ w ∈ wsL_law0_r24, w ∈ lw_tbl := in_pos [460, 461, 462, 463, 464, 838, 839, 840, 841, 465, 466, 467, 468, 469, 470, 471, 472, 473, 474, 475, 476, 842, 843, 844] (by decide +kernel)
set_option maxRecDepth 20000 in
theorem lwi_25 : ∀ w ∈ wsL_law0_r25, w ∈ lw_tbl := in_pos [845, 477, 478, 479, 480, 481, 482, 483, 484, 485, 486, 487, 488, 489, 490, 491, 492, 493, 494, 495, 496, 497, 498, 499] (by decide +kernel)
set_option maxRecDepth 20000 in
theorem lwi_26 : ∀ w ∈ wsL_law0_r26, w ∈ lw_tbl := in_pos [500, 846, 847, 848, 849] (by decide +kernel)
set_option maxRecDepth 20000 in
theorem lwf_X5 : ∀ w ∈ wsX50, w ∈ lw_tbl := by decide +kernel
set_option maxRecDepth 20000 in
theorem lwf_X6 : ∀ w ∈ wsX60, w ∈ lw_tbl := by decide +kernel
set_option maxRecDepth 20000 in
theorem lwf_X4 : ∀ w ∈ wsX40, w ∈ lw_tbl := by decide +kernel
set_option maxRecDepth 20000 in
theorem lwf_X2 : ∀ w ∈ wsX20, w ∈ lw_tbl := by decide +kernel
set_option maxRecDepth 20000 in
theorem lwf_X0 : ∀ w ∈ wsX00, w ∈ lw_tbl := by decide +kernel
set_option maxRecDepth 20000 in
theorem lwf_X1 : ∀ w ∈ wsX10, w ∈ lw_tbl := by decide +kernel
set_option maxRecDepth 20000 in
theorem lwf_X3 : ∀ w ∈ wsX30, w ∈ lw_tbl := by decide +kernel
set_option maxRecDepth 20000 in
theorem lwf_Jx3273f : ∀ w ∈ wsJx3273f0, w ∈ lw_tbl := by decide +kernel
set_option maxRecDepth 20000 in
theorem lwf_Jx00060 : ∀ w ∈ wsJx000600, w ∈ lw_tbl := by decide +kernel
theorem lwi_all : ∀ w ∈ (wsL_law0_r1 ++ (wsL_law0_r2 ++ (wsL_law0_r3 ++ (wsL_law0_r4 ++ (wsL_law0_r5 ++ (wsL_law0_r6 ++ (wsL_law0_r7 ++ (wsL_law0_r8 ++ (wsL_law0_r9 ++ (wsL_law0_r10 ++ (wsL_law0_r11 ++ (wsL_law0_r12 ++ (wsL_law0_r13 ++ (wsL_law0_r14 ++ (wsL_law0_r15 ++ (wsL_law0_r16 ++ (wsL_law0_r17 ++ (wsL_law0_r18 ++ (wsL_law0_r19 ++ (wsL_law0_r20 ++ (wsL_law0_r21 ++ (wsL_law0_r22 ++ (wsL_law0_r23 ++ (wsL_law0_r24 ++ (wsL_law0_r25 ++ wsL_law0_r26))))))))))))))))))))))))), w ∈ lw_tbl := fun w => fun h => (List.mem_append.mp h).elim (lwi_1 w) (fun h => (List.mem_append.mp h).elim (lwi_2 w) (fun h => (List.mem_append.mp h).elim (lwi_3 w) (fun h => (List.mem_append.mp h).elim (lwi_4 w) (fun h => (List.mem_append.mp h).elim (lwi_5 w) (fun h => (List.mem_append.mp h).elim (lwi_6 w) (fun h => (List.mem_append.mp h).elim (lwi_7 w) (fun h => (List.mem_append.mp h).elim (lwi_8 w) (fun h => (List.mem_append.mp h).elim (lwi_9 w) (fun h => (List.mem_append.mp h).elim (lwi_10 w) (fun h => (List.mem_append.mp h).elim (lwi_11 w) (fun h => (List.mem_append.mp h).elim (lwi_12 w) (fun h => (List.mem_append.mp h).elim (lwi_13 w) (fun h => (List.mem_append.mp h).elim (lwi_14 w) (fun h => (List.mem_append.mp h).elim (lwi_15 w) (fun h => (List.mem_append.mp h).elim (lwi_16 w) (fun h => (List.mem_append.mp h).elim (lwi_17 w) (fun h => (List.mem_append.mp h).elim (lwi_18 w) (fun h => (List.mem_append.mp h).elim (lwi_19 w) (fun h => (List.mem_append.mp h).elim (lwi_20 w) (fun h => (List.mem_append.mp h).elim (lwi_21 w) (fun h => (List.mem_append.mp h).elim (lwi_22 w) (fun h => (List.mem_append.mp h).elim (lwi_23 w) (fun h => (List.mem_append.mp h).elim (lwi_24 w) (fun h => (List.mem_append.mp h).elim (lwi_25 w) (lwi_26 w)))))))))))))))))))))))))
theorem wsL_law_in0 : ∀ w ∈ wsL_law0, w ∈ lw_tbl := by
  intro w h
  unfold wsL_law0 at h
  simp only [List.mem_append] at h
  have h0 := lwi_all w
  simp only [List.mem_append] at h0
  rcases h with (((((((((h | h) | h) | h) | h) | h) | h) | h) | h) | h) | h
  · exact h0 h
  · exact lwf_X5 w h
  · exact lwf_X6 w h
  · exact lwf_X4 w h
  · exact lwf_X2 w h
  · exact lwf_X0 w h
  · exact lwf_X1 w h
  · exact lwf_X3 w h
  · exact lwf_Jx3273f w h
  · exact lwf_Jx00060 w h
  · cases h
theorem wsL_law_in : ∀ w ∈ wsL_law, w ∈ lw_tbl := fun w h => (List.mem_append.mp h).elim (fun h => wsL_law_in0 w h) (fun h => nomatch h)

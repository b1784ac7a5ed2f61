/-! ===== the law's words stand in the tables, by their places ===== -/
theorem mem_ps {big ws : List Cond} (ps : List Nat) (hp : ws = ps.filterMap (fun i => big[i]?)) : ∀ w ∈ ws, w ∈ big := by
  intro w hw
  rw [hp] at hw
  obtain ⟨i, -, hi⟩ := List.mem_filterMap.mp hw
  exact List.mem_of_getElem? hi
set_option maxRecDepth 20000 in
theorem wl_1 : ∀ w ∈ wsL_law_r1, w ∈ lw_tbl := mem_ps [75, 76, 67, 538, 539, 72, 77, 78, 79, 80, 81, 82, 83, 84, 68, 158, 159, 160, 161, 162, 121, 122, 70, 163] (by decide +kernel)
set_option maxRecDepth 20000 in
theorem wl_2 : ∀ w ∈ wsL_law_r2, w ∈ lw_tbl := mem_ps [146, 147, 71, 164, 156, 90, 69, 165, 99, 166, 86, 87, 88, 89, 100, 102, 104, 106, 108, 92, 93, 94, 95, 124] (by decide +kernel)
set_option maxRecDepth 20000 in
theorem wl_3 : ∀ w ∈ wsL_law_r3, w ∈ lw_tbl := mem_ps [125, 126, 145, 127, 128, 130, 131, 132, 149, 150, 151, 152, 540, 541, 542, 543, 548, 549, 551, 553, 554, 555, 556, 558] (by decide +kernel)
set_option maxRecDepth 20000 in
theorem wl_4 : ∀ w ∈ wsL_law_r4, w ∈ lw_tbl := mem_ps [561, 544, 546, 44, 547, 186, 187, 188, 189, 190, 191, 192, 193, 194, 195, 198, 0, 199, 201, 203, 1, 204, 220, 221] (by decide +kernel)
set_option maxRecDepth 20000 in
theorem wl_5 : ∀ w ∈ wsL_law_r5, w ∈ lw_tbl := mem_ps [73, 222, 205, 206, 73, 207, 210, 2, 211, 219, 218, 217, 74, 214, 3, 215, 216, 225, 4, 226, 591, 592, 593, 594] (by decide +kernel)
set_option maxRecDepth 20000 in
theorem wl_6 : ∀ w ∈ wsL_law_r6, w ∈ lw_tbl := mem_ps [595, 596, 597, 598, 599, 600, 601, 602, 603, 604, 606, 45, 607, 550, 227, 228, 229, 230, 231, 232, 233, 236, 5, 237] (by decide +kernel)
set_option maxRecDepth 20000 in
theorem wl_7 : ∀ w ∈ wsL_law_r7, w ∈ lw_tbl := mem_ps [238, 239, 240, 608, 609, 610, 611, 612, 613, 614, 615, 617, 46, 618, 241, 242, 243, 244, 245, 246, 247, 250, 6, 251] (by decide +kernel)
set_option maxRecDepth 20000 in
theorem wl_8 : ∀ w ∈ wsL_law_r8, w ∈ lw_tbl := mem_ps [252, 253, 255, 7, 256, 619, 620, 621, 622, 623, 624, 625, 626, 628, 47, 629, 257, 258, 259, 260, 263, 8, 264, 265] (by decide +kernel)
set_option maxRecDepth 20000 in
theorem wl_9 : ∀ w ∈ wsL_law_r9, w ∈ lw_tbl := mem_ps [267, 9, 268, 269, 271, 10, 272, 273, 275, 11, 276, 277, 279, 12, 280, 282, 284, 13, 285, 286, 288, 14, 289, 290] (by decide +kernel)
set_option maxRecDepth 20000 in
theorem wl_10 : ∀ w ∈ wsL_law_r10, w ∈ lw_tbl := mem_ps [292, 15, 293, 294, 296, 16, 297, 300, 17, 301, 302, 304, 18, 305, 699, 700, 701, 702, 559, 703, 705, 58, 706, 557] (by decide +kernel)
set_option maxRecDepth 20000 in
theorem wl_11 : ∀ w ∈ wsL_law_r11, w ∈ lw_tbl := mem_ps [707, 709, 59, 710, 560, 711, 713, 60, 714, 715, 717, 61, 718, 719, 721, 62, 722, 723, 725, 63, 726, 306, 307, 308] (by decide +kernel)
set_option maxRecDepth 20000 in
theorem wl_12 : ∀ w ∈ wsL_law_r12, w ∈ lw_tbl := mem_ps [309, 310, 312, 630, 631, 632, 633, 314, 315, 316, 317, 320, 19, 321, 324, 20, 325, 326, 328, 21, 329, 330, 332, 22] (by decide +kernel)
set_option maxRecDepth 20000 in
theorem wl_13 : ∀ w ∈ wsL_law_r13, w ∈ lw_tbl := mem_ps [333, 336, 23, 337, 338, 340, 24, 341, 343, 344, 346, 347, 348, 349, 350, 351, 352, 353, 354, 356, 357, 358, 359, 360] (by decide +kernel)
set_option maxRecDepth 20000 in
theorem wl_14 : ∀ w ∈ wsL_law_r14, w ∈ lw_tbl := mem_ps [361, 362, 366, 25, 367, 372, 373, 374, 378, 26, 379, 380, 382, 27, 383, 384, 386, 28, 387, 388, 390, 29, 391, 394] (by decide +kernel)
set_option maxRecDepth 20000 in
theorem wl_15 : ∀ w ∈ wsL_law_r15, w ∈ lw_tbl := mem_ps [395, 397, 399, 30, 400, 404, 31, 405, 406, 408, 32, 409, 410, 411, 413, 33, 414, 417, 34, 418, 419, 420, 421, 422] (by decide +kernel)
set_option maxRecDepth 20000 in
theorem wl_16 : ∀ w ∈ wsL_law_r16, w ∈ lw_tbl := mem_ps [424, 426, 35, 427, 428, 429, 430, 433, 36, 434, 435, 436, 438, 37, 439, 634, 635, 636, 637, 638, 640, 48, 641, 642] (by decide +kernel)
set_option maxRecDepth 20000 in
theorem wl_17 : ∀ w ∈ wsL_law_r17, w ∈ lw_tbl := mem_ps [644, 49, 645, 646, 648, 50, 649, 650, 652, 51, 653, 654, 656, 52, 657, 658, 660, 53, 661, 662, 664, 54, 665, 666] (by decide +kernel)
set_option maxRecDepth 20000 in
theorem wl_18 : ∀ w ∈ wsL_law_r18, w ∈ lw_tbl := mem_ps [667, 668, 669, 670, 671, 672, 673, 674, 675, 677, 55, 678, 679, 681, 56, 682, 683, 685, 57, 686, 440, 441, 442, 443] (by decide +kernel)
set_option maxRecDepth 20000 in
theorem wl_19 : ∀ w ∈ wsL_law_r19, w ∈ lw_tbl := mem_ps [687, 688, 689, 690, 444, 445, 446, 447, 450, 38, 451, 691, 692, 693, 694, 452, 453, 454, 455, 695, 696, 697, 698, 456] (by decide +kernel)
set_option maxRecDepth 20000 in
theorem wl_20 : ∀ w ∈ wsL_law_r20, w ∈ lw_tbl := mem_ps [457, 458, 459, 727, 728, 729, 730, 460, 461, 462, 463, 731, 732, 733, 734, 552, 464, 465, 466, 467, 735, 736, 737, 738] (by decide +kernel)
set_option maxRecDepth 20000 in
theorem wl_21 : ∀ w ∈ wsL_law_r21, w ∈ lw_tbl := mem_ps [468, 469, 470, 471, 472, 473, 474, 477, 39, 478, 739, 740, 741, 742, 479, 480, 481, 482, 483, 743, 744, 745, 746, 485] (by decide +kernel)
set_option maxRecDepth 20000 in
theorem wl_22 : ∀ w ∈ wsL_law_r22, w ∈ lw_tbl := mem_ps [486, 487, 488, 747, 748, 749, 750, 489, 490, 491, 492, 751, 752, 753, 754, 495, 496, 497, 498, 755, 756, 757, 758, 500] (by decide +kernel)
set_option maxRecDepth 20000 in
theorem wl_23 : ∀ w ∈ wsL_law_r23, w ∈ lw_tbl := mem_ps [501, 502, 503, 759, 760, 761, 762, 504, 505, 506, 507, 510, 40, 511, 763, 764, 765, 766, 512, 513, 514, 515, 518, 41] (by decide +kernel)
set_option maxRecDepth 20000 in
theorem wl_24 : ∀ w ∈ wsL_law_r24, w ∈ lw_tbl := mem_ps [519, 520, 523, 42, 524, 767, 768, 769, 770, 525, 526, 527, 528, 771, 772, 773, 774, 529, 530, 531, 532, 536, 43, 537] (by decide +kernel)
set_option maxRecDepth 20000 in
theorem wl_25 : ∀ w ∈ wsL_law_r25, w ∈ lw_tbl := mem_ps [775, 776, 777, 778, 779, 781, 64, 782, 783, 785, 65, 786] (by decide +kernel)
set_option maxRecDepth 20000 in
theorem inX4 : ∀ w ∈ wsX40, w ∈ lw_tbl := by decide +kernel
set_option maxRecDepth 20000 in
theorem inX5 : ∀ w ∈ wsX50, w ∈ lw_tbl := by decide +kernel
set_option maxRecDepth 20000 in
theorem inX3 : ∀ w ∈ wsX30, w ∈ lw_tbl := by decide +kernel
set_option maxRecDepth 20000 in
theorem inX1 : ∀ w ∈ wsX10, w ∈ lw_tbl := by decide +kernel
set_option maxRecDepth 20000 in
theorem inX0 : ∀ w ∈ wsX00, w ∈ lw_tbl := by decide +kernel
set_option maxRecDepth 20000 in
theorem inX2 : ∀ w ∈ wsX20, w ∈ lw_tbl := by decide +kernel
theorem wsL_law_in : ∀ w ∈ wsL_law, w ∈ lw_tbl := by
  show ∀ w ∈ (wsL_law_r1 ++ (wsL_law_r2 ++ (wsL_law_r3 ++ (wsL_law_r4 ++ (wsL_law_r5 ++ (wsL_law_r6 ++ (wsL_law_r7 ++ (wsL_law_r8 ++ (wsL_law_r9 ++ (wsL_law_r10 ++ (wsL_law_r11 ++ (wsL_law_r12 ++ (wsL_law_r13 ++ (wsL_law_r14 ++ (wsL_law_r15 ++ (wsL_law_r16 ++ (wsL_law_r17 ++ (wsL_law_r18 ++ (wsL_law_r19 ++ (wsL_law_r20 ++ (wsL_law_r21 ++ (wsL_law_r22 ++ (wsL_law_r23 ++ (wsL_law_r24 ++ wsL_law_r25)))))))))))))))))))))))) ++ wsX40 ++ wsX50 ++ wsX30 ++ wsX10 ++ wsX00 ++ wsX20 ++ ([] : List Cond), w ∈ lw_tbl
  exact List.forall_mem_append.mpr ⟨List.forall_mem_append.mpr ⟨List.forall_mem_append.mpr ⟨List.forall_mem_append.mpr ⟨List.forall_mem_append.mpr ⟨List.forall_mem_append.mpr ⟨List.forall_mem_append.mpr ⟨List.forall_mem_append.mpr ⟨wl_1, List.forall_mem_append.mpr ⟨wl_2, List.forall_mem_append.mpr ⟨wl_3, List.forall_mem_append.mpr ⟨wl_4, List.forall_mem_append.mpr ⟨wl_5, List.forall_mem_append.mpr ⟨wl_6, List.forall_mem_append.mpr ⟨wl_7, List.forall_mem_append.mpr ⟨wl_8, List.forall_mem_append.mpr ⟨wl_9, List.forall_mem_append.mpr ⟨wl_10, List.forall_mem_append.mpr ⟨wl_11, List.forall_mem_append.mpr ⟨wl_12, List.forall_mem_append.mpr ⟨wl_13, List.forall_mem_append.mpr ⟨wl_14, List.forall_mem_append.mpr ⟨wl_15, List.forall_mem_append.mpr ⟨wl_16, List.forall_mem_append.mpr ⟨wl_17, List.forall_mem_append.mpr ⟨wl_18, List.forall_mem_append.mpr ⟨wl_19, List.forall_mem_append.mpr ⟨wl_20, List.forall_mem_append.mpr ⟨wl_21, List.forall_mem_append.mpr ⟨wl_22, List.forall_mem_append.mpr ⟨wl_23, List.forall_mem_append.mpr ⟨wl_24, wl_25⟩⟩⟩⟩⟩⟩⟩⟩⟩⟩⟩⟩⟩⟩⟩⟩⟩⟩⟩⟩⟩⟩⟩⟩, inX4⟩, inX5⟩, inX3⟩, inX1⟩, inX0⟩, inX2⟩, fun _ h => absurd h List.not_mem_nil⟩
theorem inlX0 : ∀ w ∈ wsX00, w ∈ wsL_law := fun _ h => List.mem_append_left _ (List.mem_append_left _ (List.mem_append_right _ h))
theorem inlX1 : ∀ w ∈ wsX10, w ∈ wsL_law := fun _ h => List.mem_append_left _ (List.mem_append_left _ (List.mem_append_left _ (List.mem_append_right _ h)))
theorem inlX2 : ∀ w ∈ wsX20, w ∈ wsL_law := fun _ h => List.mem_append_left _ (List.mem_append_right _ h)
theorem inlX3 : ∀ w ∈ wsX30, w ∈ wsL_law := fun _ h => List.mem_append_left _ (List.mem_append_left _ (List.mem_append_left _ (List.mem_append_left _ (List.mem_append_right _ h))))
theorem inlX4 : ∀ w ∈ wsX40, w ∈ wsL_law := fun _ h => List.mem_append_left _ (List.mem_append_left _ (List.mem_append_left _ (List.mem_append_left _ (List.mem_append_left _ (List.mem_append_left _ (List.mem_append_right _ h))))))
theorem inlX5 : ∀ w ∈ wsX50, w ∈ wsL_law := fun _ h => List.mem_append_left _ (List.mem_append_left _ (List.mem_append_left _ (List.mem_append_left _ (List.mem_append_left _ (List.mem_append_right _ h)))))

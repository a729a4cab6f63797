theorem mem_r {big : List Cond} (ws : List Cond) (ps : List Nat) (hp : ws = ps.filterMap (fun i => big[i]?)) : ∀ w ∈ ws, w ∈ big := by
  intro w hw
  rw [hp] at hw
  obtain ⟨i, -, hi⟩ := List.mem_filterMap.mp hw
  exact List.mem_of_getElem? hi
set_option maxRecDepth 100000 in
theorem inR1 : ∀ w ∈ wsL_law_r1, w ∈ lw_tbl := mem_r _ [64, 65, 55, 626, 627, 61, 66, 67, 68, 69, 70, 71, 72, 73, 56, 220, 155, 156, 58, 221, 172, 173, 59, 222] rfl
set_option maxRecDepth 100000 in
theorem inR2 : ∀ w ∈ wsL_law_r2, w ∈ lw_tbl := mem_r _ [199, 200, 60, 223, 74, 75, 76, 77, 98, 99, 101, 103, 105, 107, 109, 111, 112, 114, 116, 78, 79, 57, 118, 81] rfl
set_option maxRecDepth 100000 in
theorem inR3 : ∀ w ∈ wsL_law_r3, w ∈ lw_tbl := mem_r _ [82, 83, 84, 85, 86, 157, 158, 159, 160, 161, 164, 163, 175, 176, 177, 178, 184, 202, 203, 204, 205, 207, 206, 628] rfl
set_option maxRecDepth 100000 in
theorem inR4 : ∀ w ∈ wsL_law_r4, w ∈ lw_tbl := mem_r _ [629, 630, 631, 632, 633, 634, 635, 638, 643, 233, 234, 235, 236, 237, 238, 239, 240, 165, 241, 243, 0, 244, 245, 246] rfl
set_option maxRecDepth 100000 in
theorem inR5 : ∀ w ∈ wsL_law_r5, w ∈ lw_tbl := mem_r _ [247, 248, 249, 251, 250, 62, 120, 122, 124, 252, 253, 254, 255, 256, 87, 257, 258, 259, 260, 261, 266, 262, 263, 264] rfl
set_option maxRecDepth 100000 in
theorem inR6 : ∀ w ∈ wsL_law_r6, w ∈ lw_tbl := mem_r _ [265, 267, 269, 1, 270, 271, 272, 273, 274, 275, 276, 277, 278, 279, 280, 281, 282, 284, 2, 285, 669, 670, 671, 672] rfl
set_option maxRecDepth 100000 in
theorem inR7 : ∀ w ∈ wsL_law_r7, w ∈ lw_tbl := mem_r _ [676, 685, 673, 674, 675, 677, 679, 17, 680, 681, 683, 18, 684, 686, 688, 19, 689, 637, 636, 690, 692, 20, 693, 694] rfl
set_option maxRecDepth 100000 in
theorem inR8 : ∀ w ∈ wsL_law_r8, w ∈ lw_tbl := mem_r _ [696, 21, 697, 286, 287, 288, 289, 290, 291, 292, 293, 294, 295, 296, 297, 298, 299, 300, 301, 302, 303, 304, 305, 306] rfl
set_option maxRecDepth 100000 in
theorem inR9 : ∀ w ∈ wsL_law_r9, w ∈ lw_tbl := mem_r _ [698, 699, 700, 701, 702, 704, 22, 705, 706, 708, 23, 709, 307, 308, 309, 310, 311, 312, 313, 314, 315, 317, 3, 318] rfl
set_option maxRecDepth 100000 in
theorem inR10 : ∀ w ∈ wsL_law_r10, w ∈ lw_tbl := mem_r _ [710, 711, 712, 713, 714, 716, 24, 717, 718, 720, 25, 721, 722, 724, 26, 725, 319, 320, 321, 322, 323, 324, 325, 326] rfl
set_option maxRecDepth 100000 in
theorem inR11 : ∀ w ∈ wsL_law_r11, w ∈ lw_tbl := mem_r _ [335, 327, 328, 329, 330, 331, 332, 333, 334, 336, 337, 338, 339, 340, 341, 342, 343, 344, 345, 346, 347, 348, 349, 350] rfl
set_option maxRecDepth 100000 in
theorem inR12 : ∀ w ∈ wsL_law_r12, w ∈ lw_tbl := mem_r _ [351, 352, 353, 354, 355, 356, 357, 63, 358, 726, 727, 728, 729, 738, 730, 732, 27, 733, 734, 736, 28, 737, 739, 741] rfl
set_option maxRecDepth 100000 in
theorem inR13 : ∀ w ∈ wsL_law_r13, w ∈ lw_tbl := mem_r _ [29, 742, 743, 745, 30, 746, 747, 749, 31, 750, 751, 753, 32, 754, 359, 360, 361, 362, 363, 364, 365, 366, 367, 369] rfl
set_option maxRecDepth 100000 in
theorem inR14 : ∀ w ∈ wsL_law_r14, w ∈ lw_tbl := mem_r _ [4, 370, 755, 756, 757, 758, 371, 372, 373, 374, 375, 376, 377, 378, 398, 379, 381, 5, 382, 383, 384, 385, 386, 387] rfl
set_option maxRecDepth 100000 in
theorem inR15 : ∀ w ∈ wsL_law_r15, w ∈ lw_tbl := mem_r _ [388, 389, 390, 391, 393, 6, 394, 395, 396, 397, 399, 401, 7, 402, 403, 404, 405, 406, 759, 760, 761, 762, 780, 763] rfl
set_option maxRecDepth 100000 in
theorem inR16 : ∀ w ∈ wsL_law_r16, w ∈ lw_tbl := mem_r _ [765, 33, 766, 767, 769, 34, 770, 771, 773, 35, 774, 775, 776, 778, 36, 779, 781, 783, 37, 784, 407, 408, 409, 410] rfl
set_option maxRecDepth 100000 in
theorem inR17 : ∀ w ∈ wsL_law_r17, w ∈ lw_tbl := mem_r _ [411, 412, 413, 414, 415, 417, 8, 418, 419, 785, 786, 787, 788, 420, 421, 422, 423, 424, 425, 426, 427, 789, 790, 791] rfl
set_option maxRecDepth 100000 in
theorem inR18 : ∀ w ∈ wsL_law_r18, w ∈ lw_tbl := mem_r _ [792, 793, 795, 38, 796, 428, 429, 430, 431, 432, 433, 434, 435, 436, 438, 9, 439, 797, 798, 799, 800, 801, 803, 39] rfl
set_option maxRecDepth 100000 in
theorem inR19 : ∀ w ∈ wsL_law_r19, w ∈ lw_tbl := mem_r _ [804, 805, 807, 40, 808, 440, 441, 442, 443, 444, 445, 446, 447, 448, 449, 809, 810, 811, 812, 450, 451, 452, 453, 100] rfl
set_option maxRecDepth 100000 in
theorem inR20 : ∀ w ∈ wsL_law_r20, w ∈ lw_tbl := mem_r _ [102, 104, 106, 108, 110, 454, 455, 456, 457, 458, 459, 460, 461, 462, 463, 464, 465, 466, 467, 468, 469, 470, 471, 813] rfl
set_option maxRecDepth 100000 in
theorem inR21 : ∀ w ∈ wsL_law_r21, w ∈ lw_tbl := mem_r _ [814, 815, 816, 817, 819, 41, 820, 821, 823, 42, 824, 825, 827, 43, 828, 829, 831, 44, 832, 833, 835, 45, 836, 472] rfl
set_option maxRecDepth 100000 in
theorem inR22 : ∀ w ∈ wsL_law_r22, w ∈ lw_tbl := mem_r _ [473, 474, 475, 115, 113, 476, 477, 837, 838, 839, 840, 478, 479, 480, 481, 119, 482, 483, 484, 485, 486, 841, 842, 843] rfl
set_option maxRecDepth 100000 in
theorem inR23 : ∀ w ∈ wsL_law_r23, w ∈ lw_tbl := mem_r _ [844, 487, 488, 489, 490, 491, 492, 493, 494, 845, 846, 847, 848, 849, 850, 851, 495, 496, 497, 498, 208, 499, 852, 853] rfl
set_option maxRecDepth 100000 in
theorem inR24 : ∀ w ∈ wsL_law_r24, w ∈ lw_tbl := mem_r _ [854, 855, 500, 501, 502, 503, 504, 505, 506, 507, 508, 509, 510, 511, 512, 513, 514, 515, 856, 857, 858, 859, 516, 517] rfl
set_option maxRecDepth 100000 in
theorem inR25 : ∀ w ∈ wsL_law_r25, w ∈ lw_tbl := mem_r _ [518, 519, 520, 521, 522, 523, 524, 860, 861, 862, 863, 525, 526, 527, 528, 529, 530, 531, 532, 864, 865, 866, 867, 868] rfl
set_option maxRecDepth 100000 in
theorem inR26 : ∀ w ∈ wsL_law_r26, w ∈ lw_tbl := mem_r _ [870, 46, 871, 533, 534, 535, 536, 121, 123, 125, 88, 166, 181, 117, 537, 538, 539, 540, 541, 542, 543, 544, 545, 546] rfl
set_option maxRecDepth 100000 in
theorem inR27 : ∀ w ∈ wsL_law_r27, w ∈ lw_tbl := mem_r _ [547, 548, 549, 550, 551, 552, 872, 873, 874, 875, 639, 876, 878, 47, 879, 553, 554, 555, 556, 557, 558, 559, 560, 880] rfl
set_option maxRecDepth 100000 in
theorem inR28 : ∀ w ∈ wsL_law_r28, w ∈ lw_tbl := mem_r _ [881, 882, 883, 561, 562, 563, 564, 565, 566, 567, 568, 179, 884, 885, 886, 887, 569, 570, 571, 572, 888, 889, 890, 891] rfl
set_option maxRecDepth 100000 in
theorem inR29 : ∀ w ∈ wsL_law_r29, w ∈ lw_tbl := mem_r _ [573, 574, 575, 576, 212, 210, 577, 578, 579, 580, 209, 211, 180, 186, 581, 582, 583, 584, 585, 187, 183, 586, 588, 10] rfl
set_option maxRecDepth 100000 in
theorem inR30 : ∀ w ∈ wsL_law_r30, w ∈ lw_tbl := mem_r _ [589, 590, 592, 11, 593, 594, 596, 12, 597, 598, 600, 13, 601, 602, 604, 14, 605, 606, 608, 15, 609, 185, 182, 610] rfl
set_option maxRecDepth 100000 in
theorem inR31 : ∀ w ∈ wsL_law_r31, w ∈ lw_tbl := mem_r _ [611, 612, 613, 614, 615, 616, 618, 16, 619, 620, 892, 893, 894, 895, 641, 896, 898, 48, 899, 640, 642, 900, 902, 49] rfl
set_option maxRecDepth 100000 in
theorem inR32 : ∀ w ∈ wsL_law_r32, w ∈ lw_tbl := mem_r _ [903, 904, 906, 50, 907, 908, 910, 51, 911, 912, 914, 52, 915, 916, 917, 919, 53, 920, 921, 922, 923, 924, 925, 622] rfl
set_option maxRecDepth 100000 in
theorem inR33 : ∀ w ∈ wsL_law_r33, w ∈ lw_tbl := mem_r _ [623, 624, 625, 926, 927, 928, 929] rfl
def wsL_rr : List Cond := (wsL_law_r1 ++ (wsL_law_r2 ++ (wsL_law_r3 ++ (wsL_law_r4 ++ (wsL_law_r5 ++ (wsL_law_r6 ++ (wsL_law_r7 ++ (wsL_law_r8 ++ (wsL_law_r9 ++ (wsL_law_r10 ++ (wsL_law_r11 ++ (wsL_law_r12 ++ (wsL_law_r13 ++ (wsL_law_r14 ++ (wsL_law_r15 ++ (wsL_law_r16 ++ (wsL_law_r17 ++ (wsL_law_r18 ++ (wsL_law_r19 ++ (wsL_law_r20 ++ (wsL_law_r21 ++ (wsL_law_r22 ++ (wsL_law_r23 ++ (wsL_law_r24 ++ (wsL_law_r25 ++ (wsL_law_r26 ++ (wsL_law_r27 ++ (wsL_law_r28 ++ (wsL_law_r29 ++ (wsL_law_r30 ++ (wsL_law_r31 ++ (wsL_law_r32 ++ wsL_law_r33))))))))))))))))))))))))))))))))
theorem inRR : ∀ w ∈ wsL_rr, w ∈ lw_tbl := List.forall_mem_append.mpr ⟨inR1, List.forall_mem_append.mpr ⟨inR2, List.forall_mem_append.mpr ⟨inR3, List.forall_mem_append.mpr ⟨inR4, List.forall_mem_append.mpr ⟨inR5, List.forall_mem_append.mpr ⟨inR6, List.forall_mem_append.mpr ⟨inR7, List.forall_mem_append.mpr ⟨inR8, List.forall_mem_append.mpr ⟨inR9, List.forall_mem_append.mpr ⟨inR10, List.forall_mem_append.mpr ⟨inR11, List.forall_mem_append.mpr ⟨inR12, List.forall_mem_append.mpr ⟨inR13, List.forall_mem_append.mpr ⟨inR14, List.forall_mem_append.mpr ⟨inR15, List.forall_mem_append.mpr ⟨inR16, List.forall_mem_append.mpr ⟨inR17, List.forall_mem_append.mpr ⟨inR18, List.forall_mem_append.mpr ⟨inR19, List.forall_mem_append.mpr ⟨inR20, List.forall_mem_append.mpr ⟨inR21, List.forall_mem_append.mpr ⟨inR22, List.forall_mem_append.mpr ⟨inR23, List.forall_mem_append.mpr ⟨inR24, List.forall_mem_append.mpr ⟨inR25, List.forall_mem_append.mpr ⟨inR26, List.forall_mem_append.mpr ⟨inR27, List.forall_mem_append.mpr ⟨inR28, List.forall_mem_append.mpr ⟨inR29, List.forall_mem_append.mpr ⟨inR30, List.forall_mem_append.mpr ⟨inR31, List.forall_mem_append.mpr ⟨inR32, inR33⟩⟩⟩⟩⟩⟩⟩⟩⟩⟩⟩⟩⟩⟩⟩⟩⟩⟩⟩⟩⟩⟩⟩⟩⟩⟩⟩⟩⟩⟩⟩⟩
theorem inX0 : ∀ w ∈ wsX00, w ∈ lw_tbl := by decide +kernel
theorem inX1 : ∀ w ∈ wsX10, w ∈ lw_tbl := by decide +kernel
theorem inX2 : ∀ w ∈ wsX20, w ∈ lw_tbl := by decide +kernel
theorem inX3 : ∀ w ∈ wsX30, w ∈ lw_tbl := by decide +kernel
theorem inX4 : ∀ w ∈ wsX40, w ∈ lw_tbl := by decide +kernel
theorem inX5 : ∀ w ∈ wsX50, w ∈ lw_tbl := by decide +kernel
theorem inX6 : ∀ w ∈ wsX60, w ∈ lw_tbl := by decide +kernel
theorem inJ9 : ∀ w ∈ wsJ90, w ∈ lw_tbl := by decide +kernel
theorem inJ10 : ∀ w ∈ wsJ100, w ∈ lw_tbl := by decide +kernel
theorem wsL_law_in : ∀ w ∈ wsL_law, w ∈ lw_tbl := by
  show ∀ w ∈ wsL_rr ++ wsX50 ++ wsX60 ++ wsX10 ++ wsX00 ++ wsX30 ++ wsX20 ++ wsX40 ++ ([] : List Cond), w ∈ lw_tbl
  simp only [List.forall_mem_append]
  exact ⟨⟨⟨⟨⟨⟨⟨⟨inRR, inX5⟩, inX6⟩, inX1⟩, inX0⟩, inX3⟩, inX2⟩, inX4⟩, fun _ h => absurd h List.not_mem_nil⟩

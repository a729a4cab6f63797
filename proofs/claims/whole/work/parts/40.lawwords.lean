theorem mem_r {big : List Cond} (ws : List Cond) (ps : List Nat) (hp : ws = ps.filterMap (fun i => big[i]?)) : ∀ w ∈ ws, w ∈ big := by
  intro w hw
  rw [hp] at hw
  obtain ⟨i, -, hi⟩ := List.mem_filterMap.mp hw
  exact List.mem_of_getElem? hi
set_option maxRecDepth 100000 in
theorem inR1 : ∀ w ∈ wsL_law_r1, w ∈ lw_tbl := mem_r _ [64, 65, 55, 629, 630, 61, 66, 67, 68, 69, 70, 71, 72, 73, 56, 220, 155, 156, 58, 221, 172, 173, 59, 222] rfl
set_option maxRecDepth 100000 in
theorem inR2 : ∀ w ∈ wsL_law_r2, w ∈ lw_tbl := mem_r _ [199, 200, 60, 223, 74, 75, 76, 77, 98, 99, 101, 103, 105, 107, 109, 111, 112, 114, 116, 78, 79, 57, 118, 81] rfl
set_option maxRecDepth 100000 in
theorem inR3 : ∀ w ∈ wsL_law_r3, w ∈ lw_tbl := mem_r _ [82, 83, 84, 85, 86, 157, 158, 159, 160, 161, 164, 163, 175, 176, 177, 178, 184, 202, 203, 204, 205, 207, 206, 631] rfl
set_option maxRecDepth 100000 in
theorem inR4 : ∀ w ∈ wsL_law_r4, w ∈ lw_tbl := mem_r _ [632, 633, 634, 635, 636, 637, 638, 641, 646, 233, 234, 235, 236, 237, 238, 239, 240, 165, 241, 243, 0, 244, 245, 246] rfl
set_option maxRecDepth 100000 in
theorem inR5 : ∀ w ∈ wsL_law_r5, w ∈ lw_tbl := mem_r _ [247, 248, 249, 251, 250, 62, 120, 122, 124, 252, 253, 254, 255, 256, 87, 257, 258, 259, 260, 261, 266, 262, 263, 264] rfl
set_option maxRecDepth 100000 in
theorem inR6 : ∀ w ∈ wsL_law_r6, w ∈ lw_tbl := mem_r _ [265, 267, 269, 1, 270, 271, 272, 273, 274, 275, 276, 277, 278, 279, 280, 281, 282, 284, 2, 285, 672, 673, 674, 675] rfl
set_option maxRecDepth 100000 in
theorem inR7 : ∀ w ∈ wsL_law_r7, w ∈ lw_tbl := mem_r _ [679, 688, 676, 677, 678, 680, 682, 17, 683, 684, 686, 18, 687, 689, 691, 19, 692, 640, 639, 693, 695, 20, 696, 697] rfl
set_option maxRecDepth 100000 in
theorem inR8 : ∀ w ∈ wsL_law_r8, w ∈ lw_tbl := mem_r _ [699, 21, 700, 286, 287, 288, 289, 290, 291, 292, 293, 294, 295, 296, 297, 298, 299, 300, 301, 302, 303, 304, 305, 306] rfl
set_option maxRecDepth 100000 in
theorem inR9 : ∀ w ∈ wsL_law_r9, w ∈ lw_tbl := mem_r _ [701, 702, 703, 704, 705, 707, 22, 708, 709, 711, 23, 712, 307, 308, 309, 310, 311, 312, 313, 314, 315, 317, 3, 318] rfl
set_option maxRecDepth 100000 in
theorem inR10 : ∀ w ∈ wsL_law_r10, w ∈ lw_tbl := mem_r _ [713, 714, 715, 716, 717, 719, 24, 720, 721, 723, 25, 724, 725, 727, 26, 728, 319, 320, 321, 322, 323, 324, 325, 326] rfl
set_option maxRecDepth 100000 in
theorem inR11 : ∀ w ∈ wsL_law_r11, w ∈ lw_tbl := mem_r _ [335, 327, 328, 329, 330, 331, 332, 333, 334, 336, 337, 338, 339, 340, 341, 342, 343, 344, 345, 346, 347, 348, 349, 350] rfl
set_option maxRecDepth 100000 in
theorem inR12 : ∀ w ∈ wsL_law_r12, w ∈ lw_tbl := mem_r _ [351, 352, 353, 354, 355, 356, 357, 63, 358, 729, 730, 731, 732, 741, 733, 735, 27, 736, 737, 739, 28, 740, 742, 744] rfl
set_option maxRecDepth 100000 in
theorem inR13 : ∀ w ∈ wsL_law_r13, w ∈ lw_tbl := mem_r _ [29, 745, 746, 748, 30, 749, 750, 752, 31, 753, 754, 756, 32, 757, 359, 360, 361, 362, 363, 364, 365, 366, 367, 369] rfl
set_option maxRecDepth 100000 in
theorem inR14 : ∀ w ∈ wsL_law_r14, w ∈ lw_tbl := mem_r _ [4, 370, 758, 759, 760, 761, 371, 372, 373, 374, 375, 376, 377, 378, 398, 379, 381, 5, 382, 383, 384, 385, 386, 387] rfl
set_option maxRecDepth 100000 in
theorem inR15 : ∀ w ∈ wsL_law_r15, w ∈ lw_tbl := mem_r _ [388, 389, 390, 391, 393, 6, 394, 395, 396, 397, 399, 401, 7, 402, 403, 404, 405, 406, 762, 763, 764, 765, 783, 766] rfl
set_option maxRecDepth 100000 in
theorem inR16 : ∀ w ∈ wsL_law_r16, w ∈ lw_tbl := mem_r _ [768, 33, 769, 770, 772, 34, 773, 774, 776, 35, 777, 778, 779, 781, 36, 782, 784, 786, 37, 787, 407, 408, 409, 410] rfl
set_option maxRecDepth 100000 in
theorem inR17 : ∀ w ∈ wsL_law_r17, w ∈ lw_tbl := mem_r _ [411, 412, 413, 414, 415, 417, 8, 418, 419, 788, 789, 790, 791, 420, 421, 422, 423, 424, 425, 426, 427, 792, 793, 794] rfl
set_option maxRecDepth 100000 in
theorem inR18 : ∀ w ∈ wsL_law_r18, w ∈ lw_tbl := mem_r _ [795, 796, 798, 38, 799, 428, 429, 430, 431, 432, 433, 434, 435, 436, 438, 9, 439, 800, 801, 802, 803, 804, 806, 39] rfl
set_option maxRecDepth 100000 in
theorem inR19 : ∀ w ∈ wsL_law_r19, w ∈ lw_tbl := mem_r _ [807, 808, 810, 40, 811, 440, 441, 442, 443, 444, 445, 446, 447, 448, 449, 812, 813, 814, 815, 450, 451, 452, 453, 100] rfl
set_option maxRecDepth 100000 in
theorem inR20 : ∀ w ∈ wsL_law_r20, w ∈ lw_tbl := mem_r _ [102, 104, 106, 108, 110, 454, 455, 456, 457, 458, 459, 460, 461, 462, 463, 464, 465, 466, 467, 468, 469, 470, 471, 816] rfl
set_option maxRecDepth 100000 in
theorem inR21 : ∀ w ∈ wsL_law_r21, w ∈ lw_tbl := mem_r _ [817, 818, 819, 820, 822, 41, 823, 824, 826, 42, 827, 828, 830, 43, 831, 832, 834, 44, 835, 836, 838, 45, 839, 472] rfl
set_option maxRecDepth 100000 in
theorem inR22 : ∀ w ∈ wsL_law_r22, w ∈ lw_tbl := mem_r _ [473, 474, 475, 115, 113, 476, 477, 840, 841, 842, 843, 478, 479, 480, 481, 119, 482, 483, 484, 485, 486, 844, 845, 846] rfl
set_option maxRecDepth 100000 in
theorem inR23 : ∀ w ∈ wsL_law_r23, w ∈ lw_tbl := mem_r _ [847, 487, 488, 489, 490, 491, 492, 493, 494, 848, 849, 850, 851, 852, 853, 854, 495, 496, 497, 498, 208, 499, 855, 856] rfl
set_option maxRecDepth 100000 in
theorem inR24 : ∀ w ∈ wsL_law_r24, w ∈ lw_tbl := mem_r _ [857, 858, 500, 501, 502, 503, 504, 505, 506, 507, 508, 509, 510, 511, 512, 513, 514, 515, 859, 860, 861, 862, 516, 517] rfl
set_option maxRecDepth 100000 in
theorem inR25 : ∀ w ∈ wsL_law_r25, w ∈ lw_tbl := mem_r _ [518, 519, 520, 521, 522, 523, 524, 863, 864, 865, 866, 525, 526, 527, 528, 529, 530, 531, 532, 533, 534, 535, 867, 868] rfl
set_option maxRecDepth 100000 in
theorem inR26 : ∀ w ∈ wsL_law_r26, w ∈ lw_tbl := mem_r _ [869, 870, 871, 873, 46, 874, 536, 537, 538, 539, 121, 123, 125, 88, 166, 181, 117, 540, 541, 542, 543, 544, 545, 546] rfl
set_option maxRecDepth 100000 in
theorem inR27 : ∀ w ∈ wsL_law_r27, w ∈ lw_tbl := mem_r _ [547, 548, 549, 550, 551, 552, 553, 554, 555, 875, 876, 877, 878, 642, 879, 881, 47, 882, 556, 557, 558, 559, 560, 561] rfl
set_option maxRecDepth 100000 in
theorem inR28 : ∀ w ∈ wsL_law_r28, w ∈ lw_tbl := mem_r _ [562, 563, 883, 884, 885, 886, 564, 565, 566, 567, 568, 569, 570, 571, 179, 887, 888, 889, 890, 572, 573, 574, 575, 891] rfl
set_option maxRecDepth 100000 in
theorem inR29 : ∀ w ∈ wsL_law_r29, w ∈ lw_tbl := mem_r _ [892, 893, 894, 576, 577, 578, 579, 212, 210, 580, 581, 582, 583, 209, 211, 180, 186, 584, 585, 586, 587, 588, 187, 183] rfl
set_option maxRecDepth 100000 in
theorem inR30 : ∀ w ∈ wsL_law_r30, w ∈ lw_tbl := mem_r _ [589, 591, 10, 592, 593, 595, 11, 596, 597, 599, 12, 600, 601, 603, 13, 604, 605, 607, 14, 608, 609, 611, 15, 612] rfl
set_option maxRecDepth 100000 in
theorem inR31 : ∀ w ∈ wsL_law_r31, w ∈ lw_tbl := mem_r _ [185, 182, 613, 614, 615, 616, 617, 618, 619, 621, 16, 622, 623, 895, 896, 897, 898, 644, 899, 901, 48, 902, 643, 645] rfl
set_option maxRecDepth 100000 in
theorem inR32 : ∀ w ∈ wsL_law_r32, w ∈ lw_tbl := mem_r _ [903, 905, 49, 906, 907, 909, 50, 910, 911, 913, 51, 914, 915, 917, 52, 918, 919, 920, 922, 53, 923, 924, 925, 926] rfl
set_option maxRecDepth 100000 in
theorem inR33 : ∀ w ∈ wsL_law_r33, w ∈ lw_tbl := mem_r _ [927, 928, 625, 626, 627, 628, 929, 930, 931, 932] rfl
def wsL_rr : List Cond := (wsL_law_r1 ++ (wsL_law_r2 ++ (wsL_law_r3 ++ (wsL_law_r4 ++ (wsL_law_r5 ++ (wsL_law_r6 ++ (wsL_law_r7 ++ (wsL_law_r8 ++ (wsL_law_r9 ++ (wsL_law_r10 ++ (wsL_law_r11 ++ (wsL_law_r12 ++ (wsL_law_r13 ++ (wsL_law_r14 ++ (wsL_law_r15 ++ (wsL_law_r16 ++ (wsL_law_r17 ++ (wsL_law_r18 ++ (wsL_law_r19 ++ (wsL_law_r20 ++ (wsL_law_r21 ++ (wsL_law_r22 ++ (wsL_law_r23 ++ (wsL_law_r24 ++ (wsL_law_r25 ++ (wsL_law_r26 ++ (wsL_law_r27 ++ (wsL_law_r28 ++ (wsL_law_r29 ++ (wsL_law_r30 ++ (wsL_law_r31 ++ (wsL_law_r32 ++ wsL_law_r33))))))))))))))))))))))))))))))))
theorem inRR : ∀ w ∈ wsL_rr, w ∈ lw_tbl := List.forall_mem_append.mpr ⟨inR1, List.forall_mem_append.mpr ⟨inR2, List.forall_mem_append.mpr ⟨inR3, List.forall_mem_append.mpr ⟨inR4, List.forall_mem_append.mpr ⟨inR5, List.forall_mem_append.mpr ⟨inR6, List.forall_mem_append.mpr ⟨inR7, List.forall_mem_append.mpr ⟨inR8, List.forall_mem_append.mpr ⟨inR9, List.forall_mem_append.mpr ⟨inR10, List.forall_mem_append.mpr ⟨inR11, List.forall_mem_append.mpr ⟨inR12, List.forall_mem_append.mpr ⟨inR13, List.forall_mem_append.mpr ⟨inR14, List.forall_mem_append.mpr ⟨inR15, List.forall_mem_append.mpr ⟨inR16, List.forall_mem_append.mpr ⟨inR17, List.forall_mem_append.mpr ⟨inR18, List.forall_mem_append.mpr ⟨inR19, List.forall_mem_append.mpr ⟨inR20, List.forall_mem_append.mpr ⟨inR21, List.forall_mem_append.mpr ⟨inR22, List.forall_mem_append.mpr ⟨inR23, List.forall_mem_append.mpr ⟨inR24, List.forall_mem_append.mpr ⟨inR25, List.forall_mem_append.mpr ⟨inR26, List.forall_mem_append.mpr ⟨inR27, List.forall_mem_append.mpr ⟨inR28, List.forall_mem_append.mpr ⟨inR29, List.forall_mem_append.mpr ⟨inR30, List.forall_mem_append.mpr ⟨inR31, List.forall_mem_append.mpr ⟨inR32, inR33⟩⟩⟩⟩⟩⟩⟩⟩⟩⟩⟩⟩⟩⟩⟩⟩⟩⟩⟩⟩⟩⟩⟩⟩⟩⟩⟩⟩⟩⟩⟩⟩
theorem inX0 : ∀ w ∈ wsX00, w ∈ lw_tbl := by decide +kernel
theorem inX1 : ∀ w ∈ wsX10, w ∈ lw_tbl := by decide +kernel
theorem inX2 : ∀ w ∈ wsX20, w ∈ lw_tbl := by decide +kernel
theorem inX3 : ∀ w ∈ wsX30, w ∈ lw_tbl := by decide +kernel
theorem inX4 : ∀ w ∈ wsX40, w ∈ lw_tbl := by decide +kernel
theorem inX5 : ∀ w ∈ wsX50, w ∈ lw_tbl := by decide +kernel
theorem inX6 : ∀ w ∈ wsX60, w ∈ lw_tbl := by decide +kernel
theorem inJ9 : ∀ w ∈ wsJ90, w ∈ lw_tbl := by decide +kernel
theorem inJ10 : ∀ w ∈ wsJ100, w ∈ lw_tbl := by decide +kernel
theorem wsL_law_in : ∀ w ∈ wsL_law, w ∈ lw_tbl := by
  show ∀ w ∈ wsL_rr ++ wsX50 ++ wsX60 ++ wsX10 ++ wsX00 ++ wsX30 ++ wsX20 ++ wsX40 ++ ([] : List Cond), w ∈ lw_tbl
  simp only [List.forall_mem_append]
  exact ⟨⟨⟨⟨⟨⟨⟨⟨inRR, inX5⟩, inX6⟩, inX1⟩, inX0⟩, inX3⟩, inX2⟩, inX4⟩, fun _ h => absurd h List.not_mem_nil⟩

/-! the law's words stand among the tables' words -/
theorem in_pl {big : List Cond} (ws : List Cond) (ps : List Nat) (hp : ws = ps.filterMap (fun i => big[i]?)) : ∀ w ∈ ws, w ∈ big := by
  intro w hw
  rw [hp] at hw
  obtain ⟨i, -, hi⟩ := List.mem_filterMap.mp hw
  exact List.mem_of_getElem? hi
theorem in_ap {big a b : List Cond} (h1 : ∀ w ∈ a, w ∈ big) (h2 : ∀ w ∈ b, w ∈ big) : ∀ w ∈ a ++ b, w ∈ big := fun w h => (List.mem_append.mp h).elim (h1 w) (h2 w)
theorem in_cs {big a : List Cond} {c : Cond} (h1 : c ∈ big) (h2 : ∀ w ∈ a, w ∈ big) : ∀ w ∈ c :: a, w ∈ big := fun w h => (List.mem_cons.mp h).elim (fun e => by rw [e]; exact h1) (h2 w)
set_option maxRecDepth 20000 in
theorem in_lr1 : ∀ w ∈ wsL_law0_r1, w ∈ lw_tbl := in_pl _ [45, 46, 20, 93, 47, 48, 49, 50, 51, 52, 53, 54, 23, 139, 140, 79, 80, 24, 141, 142, 114, 143, 94, 95] (by decide +kernel)
set_option maxRecDepth 20000 in
theorem in_lr2 : ∀ w ∈ wsL_law0_r2, w ∈ lw_tbl := in_pl _ [25, 144, 115, 116, 26, 145, 146, 147, 55, 56, 57, 65, 67, 58, 59, 22, 60, 69, 61, 62, 21, 63, 64, 82] (by decide +kernel)
set_option maxRecDepth 20000 in
theorem in_lr3 : ∀ w ∈ wsL_law0_r3, w ∈ lw_tbl := in_pl _ [83, 84, 85, 86, 97, 98, 99, 100, 101, 102, 103, 118, 119, 120, 121, 122, 123, 124, 126, 175, 176, 19, 177, 178] (by decide +kernel)
set_option maxRecDepth 20000 in
theorem in_lr4 : ∀ w ∈ wsL_law0_r4, w ∈ lw_tbl := (in_ap (in_pl [Cond.constant RL 116 (2147483647), Cond.methodLink RL 117 yX9_tables, Cond.instanceMethod yX9_tables, Cond.selects RX9 yX9_tables yX9_tables, Cond.code yX9_tables cX9_tables 1 (some .int), Cond.methodLink RX9 59 yJx4a65c_size_8abf5, Cond.instanceMethod yJx4a65c_size_8abf5, Cond.selects RJx4a65c yJx4a65c_size_8abf5 yJx4a65c_size_8abf5, Cond.code yJx4a65c_size_8abf5 cJx4a65c_size_8abf5 1 (some .int), Cond.fieldLink RJx4a65c 48 "java/util/ArrayList" "size" "I", Cond.methodLink RL 224 yL_act, Cond.static yL_act] [179, 167, 168, 169, 170, 171, 172, 173, 174, 68, 992, 993] (by decide +kernel)) (in_cs (List.mem_append_right _ (List.mem_append_right _ (List.mem_append_right _ (List.mem_append_right _ (List.mem_append_right _ ((List.mem_of_getElem? (i := 15) rfl : (Cond.code yL_act cL_act 7 (some .int) : Cond) ∈ tables_1_5)))))) : (Cond.code yL_act cL_act 7 (some .int) : Cond) ∈ lw_tbl) (in_pl [Cond.methodLink RL 124 yL_tables, Cond.static yL_tables, Cond.codeWith yL_tables cL_tables 4 (some .int) [(0, 6, 7, 13), (0, 6, 11, 16)], Cond.classLink RL 13 "java/lang/IllegalArgumentException", Cond.classLink RL 16 "java/lang/IllegalStateException", Cond.constant RL 15 (-2000000002), Cond.constant RL 18 (-2000000003), Cond.methodLink RL 7 yX9_addTable, Cond.instanceMethod yX9_addTable, Cond.selects RX9 yX9_addTable yX9_addTable, Cond.code yX9_addTable cX9_addTable 3 (some .int)] [187, 188, 189, 190, 191, 402, 403, 192, 193, 194, 195] (by decide +kernel))))
set_option maxRecDepth 20000 in
theorem in_lr5 : ∀ w ∈ wsL_law0_r5, w ∈ lw_tbl := in_pl _ [267, 31, 283, 284, 32, 196, 197, 198, 199, 30, 285, 286, 287, 288, 289, 311, 291, 292, 33, 314, 316, 318, 320, 322] (by decide +kernel)
set_option maxRecDepth 20000 in
theorem in_lr6 : ∀ w ∈ wsL_law0_r6, w ∈ lw_tbl := in_pl _ [306, 309, 290, 294, 295, 296, 299, 297, 300, 341, 342, 343, 344, 70, 71, 345, 347, 1, 348, 349, 351, 2, 352, 353] (by decide +kernel)
set_option maxRecDepth 20000 in
theorem in_lr7 : ∀ w ∈ wsL_law0_r7, w ∈ lw_tbl := in_pl _ [355, 3, 356, 400, 361, 35, 362, 401, 357, 358, 34, 359, 360, 363, 364, 365, 366, 367, 368, 36, 369, 370, 1036, 371] (by decide +kernel)
set_option maxRecDepth 20000 in
theorem in_lr8 : ∀ w ∈ wsL_law0_r8, w ∈ lw_tbl := in_pl _ [387, 388, 389, 390, 391, 393, 394, 395, 396, 397, 399, 398, 37, 404, 405, 406, 407, 482, 408, 409, 410, 411, 312, 451] (by decide +kernel)
set_option maxRecDepth 20000 in
theorem in_lr9 : ∀ w ∈ wsL_law0_r9, w ∈ lw_tbl := in_pl _ [452, 41, 412, 414, 4, 415, 416, 38, 283, 432, 433, 434, 435, 436, 437, 39, 438, 439, 440, 40, 441, 442, 443, 444] (by decide +kernel)
set_option maxRecDepth 20000 in
theorem in_lr10 : ∀ w ∈ wsL_law0_r10, w ∈ lw_tbl := in_pl _ [445, 446, 447, 448, 317, 453, 454, 455, 456, 462, 464, 457, 458, 459, 460, 461, 483, 484, 485, 486, 487, 488, 489, 315] (by decide +kernel)
set_option maxRecDepth 20000 in
theorem in_lr11 : ∀ w ∈ wsL_law0_r11, w ∈ lw_tbl := in_pl _ [490, 491, 492, 451, 494, 495, 496, 497, 498, 499, 500, 501, 502, 503, 504, 505, 506, 507, 508, 521, 522, 42, 509, 510] (by decide +kernel)
set_option maxRecDepth 20000 in
theorem in_lr12 : ∀ w ∈ wsL_law0_r12, w ∈ lw_tbl := in_pl _ [511, 513, 514, 515, 517, 518, 519, 520, 523, 524, 525, 526, 527, 529, 531, 533, 535, 548, 549, 550, 551, 552, 553, 554] (by decide +kernel)
set_option maxRecDepth 20000 in
theorem in_lr13 : ∀ w ∈ wsL_law0_r13, w ∈ lw_tbl := in_pl _ [555, 556, 557, 558, 466, 575, 576, 577, 578, 579, 580, 581, 583, 584, 43, 319, 310, 321, 585, 586, 587, 588, 589, 590] (by decide +kernel)
set_option maxRecDepth 20000 in
theorem in_lr14 : ∀ w ∈ wsL_law0_r14, w ∈ lw_tbl := in_pl _ [591, 592, 593, 594, 595, 596, 597, 603, 623, 605, 606, 608, 599, 601, 844, 845, 846, 847, 848, 849, 850, 866, 867, 868] (by decide +kernel)
set_option maxRecDepth 20000 in
theorem in_lr15 : ∀ w ∈ wsL_law0_r15, w ∈ lw_tbl := in_pl _ [869, 870, 871, 872, 873, 875, 12, 876, 878, 879, 880, 881, 883, 884, 885, 886, 959, 960, 961, 962, 963, 964, 965, 87] (by decide +kernel)
set_option maxRecDepth 20000 in
theorem in_lr16 : ∀ w ∈ wsL_law0_r16, w ∈ lw_tbl := in_pl _ [125, 308, 914, 915, 916, 917, 918, 920, 13, 921, 924, 307, 922, 923, 925, 926, 927, 928, 929, 902, 903, 904, 673, 465] (by decide +kernel)
set_option maxRecDepth 20000 in
theorem in_lr17 : ∀ w ∈ wsL_law0_r17, w ∈ lw_tbl := in_pl _ [671, 672, 905, 686, 687, 688, 930, 932, 14, 933, 934, 690, 691, 935, 937, 15, 938, 939, 941, 16, 942, 943, 944, 946] (by decide +kernel)
set_option maxRecDepth 20000 in
theorem in_lr18 : ∀ w ∈ wsL_law0_r18, w ∈ lw_tbl := in_pl _ [17, 947, 955, 956, 957, 958, 967, 968, 969, 970, 971, 973, 18, 974, 975, 976, 977, 978, 979, 980, 981, 982, 983, 463] (by decide +kernel)
set_option maxRecDepth 20000 in
theorem in_lr19 : ∀ w ∈ wsL_law0_r19, w ∈ lw_tbl := in_pl _ [984, 624, 625, 626, 627, 628, 629, 630, 583, 604, 104, 632, 633, 44, 609, 634, 635, 636, 637, 639, 638, 640, 641, 651] (by decide +kernel)
set_option maxRecDepth 20000 in
theorem in_lr20 : ∀ w ∈ wsL_law0_r20, w ∈ lw_tbl := in_pl _ [652, 653, 654, 655, 656, 657, 658, 659, 660, 661, 662, 663, 664, 665, 666, 313, 680, 667, 668, 669, 670, 674, 675, 676] (by decide +kernel)
set_option maxRecDepth 20000 in
theorem in_lr21 : ∀ w ∈ wsL_law0_r21, w ∈ lw_tbl := in_pl _ [677, 678, 679, 681, 682, 683, 684, 689, 692, 685, 693, 694, 695, 696, 697, 698, 699, 700, 701, 702, 703, 704, 705, 706] (by decide +kernel)
set_option maxRecDepth 20000 in
theorem in_lr22 : ∀ w ∈ wsL_law0_r22, w ∈ lw_tbl := in_pl _ [707, 708, 534, 530, 532, 536, 709, 710, 711, 713, 5, 714, 528, 715, 717, 6, 718, 719, 720, 721, 722, 723, 724, 725] (by decide +kernel)
set_option maxRecDepth 20000 in
theorem in_lr23 : ∀ w ∈ wsL_law0_r23, w ∈ lw_tbl := (in_ap (in_pl [Cond.methodLink RL 228 yL_refuses, Cond.static yL_refuses] [180, 181] (by decide +kernel)) (in_cs (List.mem_append_right _ (List.mem_append_left _ (List.mem_of_getElem? (i := 163) rfl : (Cond.code yL_refuses cL_refuses 12 (some .boolean) : Cond) ∈ tables_1_1)) : (Cond.code yL_refuses cL_refuses 12 (some .boolean) : Cond) ∈ lw_tbl) (in_pl [Cond.constantLong RL 77 (-2000000001), Cond.methodLink RL 121 yX9_games, Cond.instanceMethod yX9_games, Cond.selects RX9 yX9_games yX9_games, Cond.code yX9_games cX9_games 1 (some .int), Cond.methodLink RL 142 yL_sticks, Cond.static yL_sticks, Cond.codeWith yL_sticks cL_sticks 4 (some .int) [(0, 14, 15, 23)], Cond.methodLink RL 37 yX9_sticks, Cond.instanceMethod yX9_sticks, Cond.selects RX9 yX9_sticks yX9_sticks, Cond.code yX9_sticks cX9_sticks 3 (some .boolean), Cond.methodLink RL 144 yL_wear, Cond.static yL_wear, Cond.codeWith yL_wear cL_wear 4 (some .int) [(0, 6, 7, 23)], Cond.methodLink RL 41 yX9_wear, Cond.instanceMethod yX9_wear, Cond.selects RX9 yX9_wear yX9_wear, Cond.code yX9_wear cX9_wear 3 (some .int), Cond.methodLink RL 152 yL_gameAt, Cond.static yL_gameAt] [816, 183, 184, 185, 186, 561, 562, 563, 564, 565, 566, 567, 568, 569, 570, 571, 572, 573, 574, 726, 727] (by decide +kernel))))
set_option maxRecDepth 20000 in
theorem in_lr24 : ∀ w ∈ wsL_law0_r24, w ∈ lw_tbl := in_pl _ [728, 729, 730, 731, 732, 733, 734, 735, 736, 737, 738, 739, 740, 742, 7, 743, 745, 746, 747, 748, 749, 750, 751, 752] (by decide +kernel)
set_option maxRecDepth 20000 in
theorem in_lr25 : ∀ w ∈ wsL_law0_r25, w ∈ lw_tbl := in_pl _ [753, 754, 755, 756, 757, 758, 759, 760, 761, 762, 763, 764, 765, 766, 767, 768, 769, 770, 772, 8, 773, 607, 602, 774] (by decide +kernel)
set_option maxRecDepth 20000 in
theorem in_lr26 : ∀ w ∈ wsL_law0_r26, w ∈ lw_tbl := in_pl _ [775, 776, 777, 778, 779, 780, 781, 782, 783, 784, 785, 786, 788, 9, 789, 790, 791, 792, 793, 794, 795, 796, 797, 798] (by decide +kernel)
set_option maxRecDepth 20000 in
theorem in_lr27 : ∀ w ∈ wsL_law0_r27, w ∈ lw_tbl := in_pl _ [799, 800, 801, 802, 803, 804, 805, 806, 807, 808, 809, 810, 811, 812, 813, 814, 815, 817, 818, 819, 820, 821, 822, 823] (by decide +kernel)
set_option maxRecDepth 20000 in
theorem in_lr28 : ∀ w ∈ wsL_law0_r28, w ∈ lw_tbl := in_pl _ [824, 825, 826, 827, 828, 829, 830, 831, 832, 833, 834, 835, 836, 838, 10, 839, 600, 840, 842, 11, 843, 852, 853, 854] (by decide +kernel)
set_option maxRecDepth 20000 in
theorem in_lr29 : ∀ w ∈ wsL_law0_r29, w ∈ lw_tbl := in_pl _ [855, 856, 857, 858, 859, 860, 861, 862, 863, 864, 865, 323, 887, 888, 889, 890, 891, 892, 893, 894, 895, 896, 897, 898] (by decide +kernel)
set_option maxRecDepth 20000 in
theorem in_lr30 : ∀ w ∈ wsL_law0_r30, w ∈ lw_tbl := in_pl _ [899, 900, 906, 901, 907, 908, 909, 910, 911, 912, 913, 127, 948, 949, 950, 951, 952, 953, 954, 985, 986, 987, 988, 989] (by decide +kernel)
set_option maxRecDepth 20000 in
theorem in_lr31 : ∀ w ∈ wsL_law0_r31, w ∈ lw_tbl := (in_ap (in_pl [Cond.selects RX9 yX9_vanAt yX9_vanAt, Cond.code yX9_vanAt cX9_vanAt 2 (some .int), Cond.methodLink RL 231 yL_alike, Cond.static yL_alike] [990, 991, 995, 996] (by decide +kernel)) (in_cs (List.mem_append_right _ (List.mem_append_right _ (List.mem_append_right _ (List.mem_append_right _ (List.mem_append_right _ ((List.mem_of_getElem? (i := 18) rfl : (Cond.code yL_alike cL_alike 7 (some .boolean) : Cond) ∈ tables_1_5)))))) : (Cond.code yL_alike cL_alike 7 (some .boolean) : Cond) ∈ lw_tbl) (in_ap (in_pl [Cond.methodLink RL 235 yL_holds, Cond.static yL_holds] [998, 999] (by decide +kernel)) (in_cs (List.mem_append_right _ (List.mem_append_right _ (List.mem_append_right _ (List.mem_append_right _ (List.mem_append_right _ ((List.mem_of_getElem? (i := 21) rfl : (Cond.code yL_holds cL_holds 15 (some .boolean) : Cond) ∈ tables_1_5)))))) : (Cond.code yL_holds cL_holds 15 (some .boolean) : Cond) ∈ lw_tbl) (in_ap (in_pl [Cond.constantLong RL 203 (-1), Cond.constantLong RL 205 (16), Cond.constantLong RL 207 (4096), Cond.constantLong RL 209 (256), Cond.constantLong RL 211 (8), Cond.constantLong RL 213 (3), Cond.constantLong RL 215 (300), Cond.constantLong RL 217 (1048576), Cond.methodLink RL 199 yL_plans, Cond.static yL_plans] [1007, 1008, 1009, 1010, 1011, 1012, 1013, 1014, 1001, 1002] (by decide +kernel)) (in_cs (List.mem_append_right _ (List.mem_append_right _ (List.mem_append_right _ (List.mem_append_right _ (List.mem_append_right _ ((List.mem_of_getElem? (i := 24) rfl : (Cond.code yL_plans cL_plans 11 (some .boolean) : Cond) ∈ tables_1_5)))))) : (Cond.code yL_plans cL_plans 11 (some .boolean) : Cond) ∈ lw_tbl) (in_pl [Cond.methodLink RL 196 yL_far, Cond.static yL_far, Cond.code yL_far cL_far 2 (some .int), Cond.methodLink RL 238 yL_ends, Cond.static yL_ends] [1004, 1005, 1006, 1015, 1016] (by decide +kernel))))))))
set_option maxRecDepth 20000 in
theorem in_lr32 : ∀ w ∈ wsL_law0_r32, w ∈ lw_tbl := (in_cs (List.mem_append_right _ (List.mem_append_right _ (List.mem_append_right _ (List.mem_append_right _ (List.mem_append_right _ ((List.mem_of_getElem? (i := 38) rfl : (Cond.code yL_ends cL_ends 10 (some .boolean) : Cond) ∈ tables_1_5)))))) : (Cond.code yL_ends cL_ends 10 (some .boolean) : Cond) ∈ lw_tbl) (fun w h => nomatch h))
set_option maxRecDepth 20000 in
theorem in_uX9 : ∀ w ∈ wsX90, w ∈ lw_tbl := in_pl _ [148, 150, 152, 154, 156, 158, 160, 162, 164] (by decide +kernel)
set_option maxRecDepth 20000 in
theorem in_uJx4a65c : ∀ w ∈ wsJx4a65c0, w ∈ lw_tbl := in_pl _ [76, 72, 74] (by decide +kernel)
set_option maxRecDepth 20000 in
theorem in_uX8 : ∀ w ∈ wsX80, w ∈ lw_tbl := in_pl _ [88, 90] (by decide +kernel)
set_option maxRecDepth 20000 in
theorem in_uX5 : ∀ w ∈ wsX50, w ∈ lw_tbl := in_pl _ [105, 107, 109, 111] (by decide +kernel)
set_option maxRecDepth 20000 in
theorem in_uX4 : ∀ w ∈ wsX40, w ∈ lw_tbl := in_pl _ [128, 130, 132, 134, 136] (by decide +kernel)
set_option maxRecDepth 20000 in
theorem in_uX7 : ∀ w ∈ wsX70, w ∈ lw_tbl := in_pl _ [324, 326, 328, 330, 332, 334, 336, 338] (by decide +kernel)
set_option maxRecDepth 20000 in
theorem in_uX6 : ∀ w ∈ wsX60, w ∈ lw_tbl := in_pl _ [301, 303] (by decide +kernel)
set_option maxRecDepth 20000 in
theorem in_uX1 : ∀ w ∈ wsX10, w ∈ lw_tbl := in_pl _ [467, 469, 471, 473, 475, 477, 479] (by decide +kernel)
set_option maxRecDepth 20000 in
theorem in_uX3 : ∀ w ∈ wsX30, w ∈ lw_tbl := in_pl _ [537, 539, 541, 543, 545] (by decide +kernel)
set_option maxRecDepth 20000 in
theorem in_uX2 : ∀ w ∈ wsX20, w ∈ lw_tbl := in_pl _ [610, 612, 614, 616, 618, 620] (by decide +kernel)
set_option maxRecDepth 20000 in
theorem in_uX0 : ∀ w ∈ wsX00, w ∈ lw_tbl := in_pl _ [642, 644, 646, 648] (by decide +kernel)
set_option maxRecDepth 20000 in
theorem wsL_law_in0 : ∀ w ∈ wsL_law0, w ∈ lw_tbl := fun w h => (List.mem_append.mp h).elim (fun h => (List.mem_append.mp h).elim (fun h => (List.mem_append.mp h).elim (fun h => (List.mem_append.mp h).elim (fun h => (List.mem_append.mp h).elim (fun h => (List.mem_append.mp h).elim (fun h => (List.mem_append.mp h).elim (fun h => (List.mem_append.mp h).elim (fun h => (List.mem_append.mp h).elim (fun h => (List.mem_append.mp h).elim (fun h => (List.mem_append.mp h).elim (fun h => (List.mem_append.mp h).elim (fun h => ((fun h => (List.mem_append.mp h).elim (fun h => in_lr1 w h) (fun h => (List.mem_append.mp h).elim (fun h => in_lr2 w h) (fun h => (List.mem_append.mp h).elim (fun h => in_lr3 w h) (fun h => (List.mem_append.mp h).elim (fun h => in_lr4 w h) (fun h => (List.mem_append.mp h).elim (fun h => in_lr5 w h) (fun h => (List.mem_append.mp h).elim (fun h => in_lr6 w h) (fun h => (List.mem_append.mp h).elim (fun h => in_lr7 w h) (fun h => (List.mem_append.mp h).elim (fun h => in_lr8 w h) (fun h => (List.mem_append.mp h).elim (fun h => in_lr9 w h) (fun h => (List.mem_append.mp h).elim (fun h => in_lr10 w h) (fun h => (List.mem_append.mp h).elim (fun h => in_lr11 w h) (fun h => (List.mem_append.mp h).elim (fun h => in_lr12 w h) (fun h => (List.mem_append.mp h).elim (fun h => in_lr13 w h) (fun h => (List.mem_append.mp h).elim (fun h => in_lr14 w h) (fun h => (List.mem_append.mp h).elim (fun h => in_lr15 w h) (fun h => (List.mem_append.mp h).elim (fun h => in_lr16 w h) (fun h => (List.mem_append.mp h).elim (fun h => in_lr17 w h) (fun h => (List.mem_append.mp h).elim (fun h => in_lr18 w h) (fun h => (List.mem_append.mp h).elim (fun h => in_lr19 w h) (fun h => (List.mem_append.mp h).elim (fun h => in_lr20 w h) (fun h => (List.mem_append.mp h).elim (fun h => in_lr21 w h) (fun h => (List.mem_append.mp h).elim (fun h => in_lr22 w h) (fun h => (List.mem_append.mp h).elim (fun h => in_lr23 w h) (fun h => (List.mem_append.mp h).elim (fun h => in_lr24 w h) (fun h => (List.mem_append.mp h).elim (fun h => in_lr25 w h) (fun h => (List.mem_append.mp h).elim (fun h => in_lr26 w h) (fun h => (List.mem_append.mp h).elim (fun h => in_lr27 w h) (fun h => (List.mem_append.mp h).elim (fun h => in_lr28 w h) (fun h => (List.mem_append.mp h).elim (fun h => in_lr29 w h) (fun h => (List.mem_append.mp h).elim (fun h => in_lr30 w h) (fun h => (List.mem_append.mp h).elim (fun h => in_lr31 w h) (fun h => in_lr32 w h)))))))))))))))))))))))))))))))) h)) (fun h => in_uX9 w h)) (fun h => in_uJx4a65c w h)) (fun h => in_uX8 w h)) (fun h => in_uX5 w h)) (fun h => in_uX4 w h)) (fun h => in_uX7 w h)) (fun h => in_uX6 w h)) (fun h => in_uX1 w h)) (fun h => in_uX3 w h)) (fun h => in_uX2 w h)) (fun h => in_uX0 w h)) (fun h => nomatch h)
set_option maxRecDepth 20000 in
theorem wsL_law_x0 : ∀ w ∈ (vx_atS RX9 67 "java/lang/IllegalStateException" ["java/lang/RuntimeException", "java/lang/Exception"]).filter goodWord, w ∈ lw_tbl := by decide +kernel
set_option maxRecDepth 20000 in
theorem wsL_law_x1 : ∀ w ∈ (vx_atS RX9 292 "java/lang/IllegalArgumentException" ["java/lang/RuntimeException", "java/lang/Exception"]).filter goodWord, w ∈ lw_tbl := by decide +kernel
set_option maxRecDepth 20000 in
theorem wsL_law_x2 : ∀ w ∈ (vx_atS RX9 279 "java/lang/IndexOutOfBoundsException" ["java/lang/RuntimeException", "java/lang/Exception"]).filter goodWord, w ∈ lw_tbl := by decide +kernel
set_option maxRecDepth 20000 in
theorem wsL_law_in : ∀ w ∈ wsL_law, w ∈ lw_tbl := fun w h => (List.mem_append.mp h).elim (fun h => (List.mem_append.mp h).elim (fun h => (List.mem_append.mp h).elim (fun h => wsL_law_in0 w h) (fun h => wsL_law_x0 w h)) (fun h => wsL_law_x1 w h)) (fun h => wsL_law_x2 w h)

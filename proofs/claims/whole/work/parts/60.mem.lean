theorem lw_mem (ws : List Cond) (ps : List Nat) (hp : ws = ps.filterMap (fun i => lw_tbl[i]?)) : ∀ w ∈ ws, w ∈ lw_tbl := by
  intro w hw
  rw [hp] at hw
  obtain ⟨i, -, hi⟩ := List.mem_filterMap.mp hw
  first | exact List.mem_of_getElem? hi | exact List.getElem?_mem hi
set_option maxRecDepth 100000 in
theorem wsL_m1 : ∀ w ∈ wsL_law0_r1, w ∈ lw_tbl := lw_mem _ [63, 64, 37, 868, 869, 45, 1087, 65, 66, 67, 68, 69, 70, 71, 72, 38, 229, 120, 121, 40, 230, 138, 139, 41] (by decide +kernel)
set_option maxRecDepth 100000 in
theorem wsL_m2 : ∀ w ∈ wsL_law0_r2, w ∈ lw_tbl := lw_mem _ [231, 159, 160, 42, 232, 208, 209, 44, 233, 74, 75, 76, 77, 78, 39, 88, 93, 97, 100, 80, 81, 82, 87, 83] (by decide +kernel)
set_option maxRecDepth 100000 in
theorem wsL_m3 : ∀ w ∈ wsL_law0_r3, w ∈ lw_tbl := lw_mem _ [122, 123, 124, 125, 126, 140, 141, 142, 143, 144, 147, 148, 149, 146, 161, 162, 163, 164, 165, 166, 43, 181, 182, 183] (by decide +kernel)
set_option maxRecDepth 100000 in
theorem wsL_m4 : ∀ w ∈ wsL_law0_r4, w ∈ lw_tbl := lw_mem _ [180, 168, 169, 170, 173, 210, 211, 212, 213, 214, 218, 219, 216, 217, 870, 871, 872, 873, 876, 877, 878, 879, 880, 881] (by decide +kernel)
set_option maxRecDepth 100000 in
theorem wsL_m5 : ∀ w ∈ wsL_law0_r5, w ∈ lw_tbl := lw_mem _ [295, 296, 36, 297, 298, 299, 300, 301, 302, 303, 378, 50, 107, 304, 305, 306, 307, 308, 309, 310, 49, 394, 395, 396] (by decide +kernel)
set_option maxRecDepth 100000 in
theorem wsL_m6 : ∀ w ∈ wsL_law0_r6, w ∈ lw_tbl := lw_mem _ [397, 103, 398, 289, 290, 291, 930, 931, 932, 933, 875, 874, 934, 935, 936, 926, 927, 928, 929, 399, 400, 401, 402, 403] (by decide +kernel)
set_option maxRecDepth 100000 in
theorem wsL_m7 : ∀ w ∈ wsL_law0_r7, w ∈ lw_tbl := lw_mem _ [404, 405, 406, 89, 94, 407, 409, 4, 410, 411, 51, 427, 937, 938, 939, 940, 941, 943, 22, 944, 428, 429, 430, 431] (by decide +kernel)
set_option maxRecDepth 100000 in
theorem wsL_m8 : ∀ w ∈ wsL_law0_r8, w ∈ lw_tbl := lw_mem _ [432, 433, 434, 98, 435, 270, 271, 272, 945, 946, 947, 948, 436, 437, 438, 439, 440, 441, 442, 102, 949, 950, 951, 952] (by decide +kernel)
set_option maxRecDepth 100000 in
theorem wsL_m9 : ∀ w ∈ wsL_law0_r9, w ∈ lw_tbl := lw_mem _ [443, 444, 445, 446, 447, 448, 449, 450, 452, 5, 453, 455, 456, 457, 458, 99, 468, 281, 52, 282, 469, 278, 279, 459] (by decide +kernel)
set_option maxRecDepth 100000 in
theorem wsL_m10 : ∀ w ∈ wsL_law0_r10, w ∈ lw_tbl := lw_mem _ [254, 255, 256, 104, 101, 292, 293, 294, 257, 258, 259, 260, 261, 262, 263, 264, 127, 129, 106, 92, 277, 280, 265, 266] (by decide +kernel)
set_option maxRecDepth 100000 in
theorem wsL_m11 : ∀ w ∈ wsL_law0_r11, w ∈ lw_tbl := lw_mem _ [267, 268, 269, 273, 274, 275, 52, 276, 283, 284, 285, 286, 287, 288, 460, 462, 6, 463, 464, 466, 7, 467, 953, 954] (by decide +kernel)
set_option maxRecDepth 100000 in
theorem wsL_m12 : ∀ w ∈ wsL_law0_r12, w ∈ lw_tbl := lw_mem _ [955, 956, 957, 959, 23, 960, 961, 963, 24, 964, 965, 967, 25, 968, 969, 971, 26, 972, 973, 975, 27, 976, 977, 978] (by decide +kernel)
set_option maxRecDepth 100000 in
theorem wsL_m13 : ∀ w ∈ wsL_law0_r13, w ∈ lw_tbl := lw_mem _ [979, 245, 246, 247, 248, 980, 981, 982, 983, 470, 471, 472, 473, 474, 475, 476, 477, 478, 479, 480, 481, 482, 483, 484] (by decide +kernel)
set_option maxRecDepth 100000 in
theorem wsL_m14 : ∀ w ∈ wsL_law0_r14, w ∈ lw_tbl := lw_mem _ [485, 984, 985, 986, 987, 988, 990, 28, 991, 486, 487, 488, 489, 490, 491, 492, 493, 992, 993, 994, 995, 494, 495, 496] (by decide +kernel)
set_option maxRecDepth 100000 in
theorem wsL_m15 : ∀ w ∈ wsL_law0_r15, w ∈ lw_tbl := lw_mem _ [497, 498, 499, 500, 501, 502, 503, 504, 996, 997, 998, 999, 505, 506, 507, 508, 509, 510, 511, 512, 1000, 1001, 1002, 1003] (by decide +kernel)
set_option maxRecDepth 100000 in
theorem wsL_m16 : ∀ w ∈ wsL_law0_r16, w ∈ lw_tbl := lw_mem _ [513, 514, 515, 516, 517, 518, 519, 520, 521, 522, 523, 524, 1004, 1005, 1006, 1007, 1008, 525, 526, 527, 528, 529, 530, 531] (by decide +kernel)
set_option maxRecDepth 100000 in
theorem wsL_m17 : ∀ w ∈ wsL_law0_r17, w ∈ lw_tbl := lw_mem _ [130, 128, 532, 533, 1009, 1010, 1011, 1012, 534, 535, 536, 537, 538, 539, 540, 541, 542, 543, 544, 105, 545, 547, 8, 548] (by decide +kernel)
set_option maxRecDepth 100000 in
theorem wsL_m18 : ∀ w ∈ wsL_law0_r18, w ∈ lw_tbl := lw_mem _ [90, 95, 549, 550, 551, 552, 554, 9, 555, 556, 558, 10, 559, 560, 562, 11, 563, 564, 566, 12, 567, 568, 570, 13] (by decide +kernel)
set_option maxRecDepth 100000 in
theorem wsL_m19 : ∀ w ∈ wsL_law0_r19, w ∈ lw_tbl := lw_mem _ [571, 572, 574, 14, 575, 576, 578, 15, 579, 1013, 1014, 1015, 1016, 1017, 1019, 29, 1020, 1021, 1023, 30, 1024, 1025, 1027, 31] (by decide +kernel)
set_option maxRecDepth 100000 in
theorem wsL_m20 : ∀ w ∈ wsL_law0_r20, w ∈ lw_tbl := lw_mem _ [1028, 1029, 580, 581, 582, 583, 584, 585, 586, 587, 588, 589, 590, 108, 591, 593, 16, 594, 91, 96, 595, 596, 598, 17] (by decide +kernel)
set_option maxRecDepth 100000 in
theorem wsL_m21 : ∀ w ∈ wsL_law0_r21, w ∈ lw_tbl := lw_mem _ [599, 184, 186, 187, 188, 600, 601, 603, 18, 604, 185, 609, 610, 624, 605, 606, 607, 608, 171, 611, 613, 19, 614, 615] (by decide +kernel)
set_option maxRecDepth 100000 in
theorem wsL_m22 : ∀ w ∈ wsL_law0_r22, w ∈ lw_tbl := lw_mem _ [616, 617, 618, 619, 620, 621, 622, 623, 625, 627, 20, 628, 172, 174, 629, 631, 21, 632, 1030, 1031, 1032, 1033, 1034, 1036] (by decide +kernel)
set_option maxRecDepth 100000 in
theorem wsL_m23 : ∀ w ∈ wsL_law0_r23, w ∈ lw_tbl := lw_mem _ [32, 1037, 883, 884, 885, 882, 890, 886, 887, 1038, 888, 889, 1039, 1041, 33, 1042, 1043, 1045, 34, 1046, 1047, 1049, 35, 1050] (by decide +kernel)
set_option maxRecDepth 100000 in
theorem wsL_m24 : ∀ w ∈ wsL_law0_r24, w ∈ lw_tbl := lw_mem _ [633, 634, 635, 636, 637, 638, 639, 1051, 1052, 1053, 1054, 640, 641, 642, 643, 644, 645, 646, 648, 649, 650, 651, 652, 653] (by decide +kernel)
set_option maxRecDepth 100000 in
theorem wsL_m25 : ∀ w ∈ wsL_law0_r25, w ∈ lw_tbl := lw_mem _ [654, 655, 656, 657, 658, 1055, 1056, 1057, 1058, 1059, 1060, 1061, 1062, 1063, 1064, 659, 660, 661, 662, 663, 664, 665, 1065, 1066] (by decide +kernel)
set_option maxRecDepth 100000 in
theorem wsL_m26 : ∀ w ∈ wsL_law0_r26, w ∈ lw_tbl := lw_mem _ [1067, 1068, 249, 250, 251, 252, 253, 1069, 1070, 1071, 1072, 666, 667, 668, 669, 670, 671, 672, 673, 674, 675, 676, 677, 678] (by decide +kernel)
set_option maxRecDepth 100000 in
theorem wsL_m27 : ∀ w ∈ wsL_law0_r27, w ∈ lw_tbl := lw_mem _ [679, 680, 1073, 1074, 1075, 1076, 681, 682, 683, 684, 685, 686, 687, 689, 690, 54, 691, 692, 693, 694, 695, 53, 696, 697] (by decide +kernel)
set_option maxRecDepth 100000 in
theorem wsL_m28 : ∀ w ∈ wsL_law0_r28, w ∈ lw_tbl := lw_mem _ [698, 377, 707, 708, 700, 701, 56, 702, 703, 704, 705, 706, 719, 720, 721, 722, 848, 723, 724, 725, 726, 727, 1089, 718] (by decide +kernel)
set_option maxRecDepth 100000 in
theorem wsL_m29 : ∀ w ∈ wsL_law0_r29, w ∈ lw_tbl := lw_mem _ [728, 729, 709, 730, 731, 57, 732, 733, 1090, 0, 735, 736, 737, 1091, 1, 739, 740, 749, 741, 742, 58, 743, 744, 745] (by decide +kernel)
set_option maxRecDepth 100000 in
theorem wsL_m30 : ∀ w ∈ wsL_law0_r30, w ∈ lw_tbl := lw_mem _ [746, 747, 748, 750, 751, 59, 752, 753, 754, 755, 756, 757, 759, 760, 761, 763, 762, 60, 764, 766, 767, 765, 768, 769] (by decide +kernel)
set_option maxRecDepth 100000 in
theorem wsL_m31 : ∀ w ∈ wsL_law0_r31, w ∈ lw_tbl := lw_mem _ [770, 771, 772, 774, 776, 777, 778, 800, 779, 780, 781, 782, 783, 784, 785, 786, 55, 787, 788, 790, 791, 61, 792, 793] (by decide +kernel)
set_option maxRecDepth 100000 in
theorem wsL_m32 : ∀ w ∈ wsL_law0_r32, w ∈ lw_tbl := lw_mem _ [794, 795, 796, 806, 797, 798, 799, 802, 804, 807, 808, 809, 810, 811, 1092, 812, 813, 814, 815, 62, 816, 817, 1093, 2] (by decide +kernel)
set_option maxRecDepth 100000 in
theorem wsL_m33 : ∀ w ∈ wsL_law0_r33, w ∈ lw_tbl := lw_mem _ [819, 820, 821, 822, 823, 824, 825, 826, 827, 828, 829, 830, 831, 832, 833, 834, 835, 836, 837, 838, 839, 840, 841, 842] (by decide +kernel)
set_option maxRecDepth 100000 in
theorem wsL_m34 : ∀ w ∈ wsL_law0_r34, w ∈ lw_tbl := lw_mem _ [843, 844, 845, 846, 847, 849, 850, 851, 852, 853, 1094, 854, 855, 856, 857, 858, 859, 860, 1095, 861, 862, 863, 864, 865] (by decide +kernel)
set_option maxRecDepth 100000 in
theorem wsL_m35 : ∀ w ∈ wsL_law0_r35, w ∈ lw_tbl := lw_mem _ [866, 867, 1077, 1078, 1079, 1080, 1081, 1082, 1083, 1084, 1085, 1086] (by decide +kernel)
theorem wsL_nX7 : ∀ w ∈ wsX70, w ∈ lw_tbl := by decide +kernel
theorem wsL_nX8 : ∀ w ∈ wsX80, w ∈ lw_tbl := by decide +kernel
theorem wsL_nX4 : ∀ w ∈ wsX40, w ∈ lw_tbl := by decide +kernel
theorem wsL_nX1 : ∀ w ∈ wsX10, w ∈ lw_tbl := by decide +kernel
theorem wsL_nX3 : ∀ w ∈ wsX30, w ∈ lw_tbl := by decide +kernel
theorem wsL_nX0 : ∀ w ∈ wsX00, w ∈ lw_tbl := by decide +kernel
theorem wsL_nX6 : ∀ w ∈ wsX60, w ∈ lw_tbl := by decide +kernel
theorem wsL_nX5 : ∀ w ∈ wsX50, w ∈ lw_tbl := by decide +kernel
theorem wsL_nX2 : ∀ w ∈ wsX20, w ∈ lw_tbl := by decide +kernel
theorem wsL_nJ4 : ∀ w ∈ wsJ40, w ∈ lw_tbl := by decide +kernel
theorem wsL_law_in0 : ∀ w ∈ wsL_law0, w ∈ lw_tbl := List.forall_mem_append.mpr ⟨List.forall_mem_append.mpr ⟨List.forall_mem_append.mpr ⟨List.forall_mem_append.mpr ⟨List.forall_mem_append.mpr ⟨List.forall_mem_append.mpr ⟨List.forall_mem_append.mpr ⟨List.forall_mem_append.mpr ⟨List.forall_mem_append.mpr ⟨List.forall_mem_append.mpr ⟨List.forall_mem_append.mpr ⟨List.forall_mem_append.mpr ⟨wsL_m1, List.forall_mem_append.mpr ⟨wsL_m2, List.forall_mem_append.mpr ⟨wsL_m3, List.forall_mem_append.mpr ⟨wsL_m4, List.forall_mem_append.mpr ⟨wsL_m5, List.forall_mem_append.mpr ⟨wsL_m6, List.forall_mem_append.mpr ⟨wsL_m7, List.forall_mem_append.mpr ⟨wsL_m8, List.forall_mem_append.mpr ⟨wsL_m9, List.forall_mem_append.mpr ⟨wsL_m10, List.forall_mem_append.mpr ⟨wsL_m11, List.forall_mem_append.mpr ⟨wsL_m12, List.forall_mem_append.mpr ⟨wsL_m13, List.forall_mem_append.mpr ⟨wsL_m14, List.forall_mem_append.mpr ⟨wsL_m15, List.forall_mem_append.mpr ⟨wsL_m16, List.forall_mem_append.mpr ⟨wsL_m17, List.forall_mem_append.mpr ⟨wsL_m18, List.forall_mem_append.mpr ⟨wsL_m19, List.forall_mem_append.mpr ⟨wsL_m20, List.forall_mem_append.mpr ⟨wsL_m21, List.forall_mem_append.mpr ⟨wsL_m22, List.forall_mem_append.mpr ⟨wsL_m23, List.forall_mem_append.mpr ⟨wsL_m24, List.forall_mem_append.mpr ⟨wsL_m25, List.forall_mem_append.mpr ⟨wsL_m26, List.forall_mem_append.mpr ⟨wsL_m27, List.forall_mem_append.mpr ⟨wsL_m28, List.forall_mem_append.mpr ⟨wsL_m29, List.forall_mem_append.mpr ⟨wsL_m30, List.forall_mem_append.mpr ⟨wsL_m31, List.forall_mem_append.mpr ⟨wsL_m32, List.forall_mem_append.mpr ⟨wsL_m33, List.forall_mem_append.mpr ⟨wsL_m34, wsL_m35⟩⟩⟩⟩⟩⟩⟩⟩⟩⟩⟩⟩⟩⟩⟩⟩⟩⟩⟩⟩⟩⟩⟩⟩⟩⟩⟩⟩⟩⟩⟩⟩⟩⟩, wsL_nX7⟩, wsL_nX8⟩, wsL_nX4⟩, wsL_nX1⟩, wsL_nX3⟩, wsL_nX0⟩, wsL_nX6⟩, wsL_nX5⟩, wsL_nX2⟩, wsL_nJ4⟩, fun _ h => nomatch h⟩
theorem wsL_law_x0 : ∀ w ∈ (vx_atS RX7 64 "java/lang/IllegalStateException" ["java/lang/RuntimeException", "java/lang/Exception"]).filter goodWord, w ∈ lw_tbl := by decide +kernel
theorem wsL_law_x1 : ∀ w ∈ (vx_atS RX7 182 "java/lang/IllegalArgumentException" ["java/lang/RuntimeException", "java/lang/Exception"]).filter goodWord, w ∈ lw_tbl := by decide +kernel
theorem wsL_law_x2 : ∀ w ∈ (vx_atS RX7 161 "java/lang/IndexOutOfBoundsException" ["java/lang/RuntimeException", "java/lang/Exception"]).filter goodWord, w ∈ lw_tbl := by decide +kernel
theorem wsL_law_in : ∀ w ∈ wsL_law, w ∈ lw_tbl := fun w h => (List.mem_append.mp h).elim (fun h => (List.mem_append.mp h).elim (fun h => (List.mem_append.mp h).elim (fun h => wsL_law_in0 w h) (fun h => wsL_law_x0 w h)) (fun h => wsL_law_x1 w h)) (fun h => wsL_law_x2 w h)
theorem inlX0 : ∀ w ∈ wsX00, w ∈ wsL_law := fun _ h => List.mem_append_left _ (List.mem_append_left _ (List.mem_append_left _ (List.mem_append_left _ (List.mem_append_left _ (List.mem_append_left _ (List.mem_append_left _ (List.mem_append_left _ (List.mem_append_right _ h))))))))
theorem inX0 : ∀ w ∈ wsX00, w ∈ lw_tbl := fun w h => wsL_law_in w (inlX0 w h)
theorem inlX1 : ∀ w ∈ wsX10, w ∈ wsL_law := fun _ h => List.mem_append_left _ (List.mem_append_left _ (List.mem_append_left _ (List.mem_append_left _ (List.mem_append_left _ (List.mem_append_left _ (List.mem_append_left _ (List.mem_append_left _ (List.mem_append_left _ (List.mem_append_left _ (List.mem_append_right _ h))))))))))
theorem inX1 : ∀ w ∈ wsX10, w ∈ lw_tbl := fun w h => wsL_law_in w (inlX1 w h)
theorem inlX2 : ∀ w ∈ wsX20, w ∈ wsL_law := fun _ h => List.mem_append_left _ (List.mem_append_left _ (List.mem_append_left _ (List.mem_append_left _ (List.mem_append_left _ (List.mem_append_right _ h)))))
theorem inX2 : ∀ w ∈ wsX20, w ∈ lw_tbl := fun w h => wsL_law_in w (inlX2 w h)
theorem inlX3 : ∀ w ∈ wsX30, w ∈ wsL_law := fun _ h => List.mem_append_left _ (List.mem_append_left _ (List.mem_append_left _ (List.mem_append_left _ (List.mem_append_left _ (List.mem_append_left _ (List.mem_append_left _ (List.mem_append_left _ (List.mem_append_left _ (List.mem_append_right _ h)))))))))
theorem inX3 : ∀ w ∈ wsX30, w ∈ lw_tbl := fun w h => wsL_law_in w (inlX3 w h)
theorem inlX4 : ∀ w ∈ wsX40, w ∈ wsL_law := fun _ h => List.mem_append_left _ (List.mem_append_left _ (List.mem_append_left _ (List.mem_append_left _ (List.mem_append_left _ (List.mem_append_left _ (List.mem_append_left _ (List.mem_append_left _ (List.mem_append_left _ (List.mem_append_left _ (List.mem_append_left _ (List.mem_append_right _ h)))))))))))
theorem inX4 : ∀ w ∈ wsX40, w ∈ lw_tbl := fun w h => wsL_law_in w (inlX4 w h)
theorem inlX5 : ∀ w ∈ wsX50, w ∈ wsL_law := fun _ h => List.mem_append_left _ (List.mem_append_left _ (List.mem_append_left _ (List.mem_append_left _ (List.mem_append_left _ (List.mem_append_left _ (List.mem_append_right _ h))))))
theorem inX5 : ∀ w ∈ wsX50, w ∈ lw_tbl := fun w h => wsL_law_in w (inlX5 w h)
theorem inlX6 : ∀ w ∈ wsX60, w ∈ wsL_law := fun _ h => List.mem_append_left _ (List.mem_append_left _ (List.mem_append_left _ (List.mem_append_left _ (List.mem_append_left _ (List.mem_append_left _ (List.mem_append_left _ (List.mem_append_right _ h)))))))
theorem inX6 : ∀ w ∈ wsX60, w ∈ lw_tbl := fun w h => wsL_law_in w (inlX6 w h)
theorem inlX7 : ∀ w ∈ wsX70, w ∈ wsL_law := fun _ h => List.mem_append_left _ (List.mem_append_left _ (List.mem_append_left _ (List.mem_append_left _ (List.mem_append_left _ (List.mem_append_left _ (List.mem_append_left _ (List.mem_append_left _ (List.mem_append_left _ (List.mem_append_left _ (List.mem_append_left _ (List.mem_append_left _ (List.mem_append_left _ (List.mem_append_right _ h)))))))))))))
theorem inX7 : ∀ w ∈ wsX70, w ∈ lw_tbl := fun w h => wsL_law_in w (inlX7 w h)
theorem inlX8 : ∀ w ∈ wsX80, w ∈ wsL_law := fun _ h => List.mem_append_left _ (List.mem_append_left _ (List.mem_append_left _ (List.mem_append_left _ (List.mem_append_left _ (List.mem_append_left _ (List.mem_append_left _ (List.mem_append_left _ (List.mem_append_left _ (List.mem_append_left _ (List.mem_append_left _ (List.mem_append_left _ (List.mem_append_right _ h))))))))))))
theorem inX8 : ∀ w ∈ wsX80, w ∈ lw_tbl := fun w h => wsL_law_in w (inlX8 w h)
theorem inJ5 : ∀ w ∈ wsJ50, w ∈ lw_tbl := by decide +kernel
theorem inJx8e188 : ∀ w ∈ wsJx8e1880, w ∈ lw_tbl := by decide +kernel
theorem inJ6 : ∀ w ∈ wsJ60, w ∈ lw_tbl := by decide +kernel
theorem inJ9 : ∀ w ∈ wsJ90, w ∈ lw_tbl := by decide +kernel
theorem inJ0 : ∀ w ∈ wsJ00, w ∈ lw_tbl := by decide +kernel
theorem inlJ4 : ∀ w ∈ wsJ40, w ∈ wsL_law := fun _ h => List.mem_append_left _ (List.mem_append_left _ (List.mem_append_left _ (List.mem_append_left _ (List.mem_append_right _ h))))
theorem inJ4 : ∀ w ∈ wsJ40, w ∈ lw_tbl := fun w h => wsL_law_in w (inlJ4 w h)
theorem inJ1 : ∀ w ∈ wsJ10, w ∈ lw_tbl := by decide +kernel
theorem inJ2 : ∀ w ∈ wsJ20, w ∈ lw_tbl := by decide +kernel
theorem inJ10 : ∀ w ∈ wsJ100, w ∈ lw_tbl := by decide +kernel
theorem inJ7 : ∀ w ∈ wsJ70, w ∈ lw_tbl := by decide +kernel
theorem inJ8 : ∀ w ∈ wsJ80, w ∈ lw_tbl := by decide +kernel
theorem inJ3 : ∀ w ∈ wsJ30, w ∈ lw_tbl := by decide +kernel

theorem mem_r {big ws : List Cond} (ps : List Nat) (hp : ws = ps.filterMap (fun i => big[i]?)) : ∀ w ∈ ws, w ∈ big := by
  intro w hw
  rw [hp] at hw
  obtain ⟨i, -, hi⟩ := List.mem_filterMap.mp hw
  exact List.mem_of_getElem? hi
set_option maxRecDepth 20000 in
theorem in_wsL_law0_r1 : ∀ w ∈ wsL_law0_r1, w ∈ lw_tbl := mem_r [81, 82, 67, 757, 758, 72, 1128, 1127, 83, 84, 85, 86, 87, 88, 89, 90, 68, 130, 131, 69, 199, 200, 201, 202] (by decide +kernel)
set_option maxRecDepth 20000 in
theorem in_wsL_law0_r2 : ∀ w ∈ wsL_law0_r2, w ∈ lw_tbl := mem_r [156, 203, 204, 158, 159, 70, 205, 184, 185, 71, 206, 91, 92, 93, 94, 107, 109, 111, 113, 116, 96, 97, 99, 100] (by decide +kernel)
set_option maxRecDepth 20000 in
theorem in_wsL_law0_r3 : ∀ w ∈ wsL_law0_r3, w ∈ lw_tbl := mem_r [102, 103, 105, 106, 132, 133, 134, 135, 138, 136, 139, 140, 141, 143, 160, 161, 162, 163, 164, 166, 0, 167, 168, 169] (by decide +kernel)
set_option maxRecDepth 20000 in
theorem in_wsL_law0_r4 : ∀ w ∈ wsL_law0_r4, w ∈ lw_tbl := mem_r [171, 173, 186, 187, 188, 189, 190, 192, 759, 760, 761, 762, 764, 765, 767, 771, 763, 581, 582, 66, 583, 584, 585, 586] (by decide +kernel)
set_option maxRecDepth 20000 in
theorem in_wsL_law0_r5 : ∀ w ∈ wsL_law0_r5, w ∈ lw_tbl := mem_r [587, 588, 589, 325, 76, 591, 77, 547, 548, 549, 550, 552, 16, 553, 514, 554, 555, 556, 557, 262, 263, 397, 305, 306] (by decide +kernel)
set_option maxRecDepth 20000 in
theorem in_wsL_law0_r6 : ∀ w ∈ wsL_law0_r6, w ∈ lw_tbl := mem_r [307, 559, 560, 465, 399, 400, 401, 561, 562, 563, 607, 609, 17, 610, 611, 613, 18, 614, 615, 616, 78, 617, 618, 619] (by decide +kernel)
set_option maxRecDepth 20000 in
theorem in_wsL_law0_r7 : ∀ w ∈ wsL_law0_r7, w ∈ lw_tbl := mem_r [620, 621, 275, 276, 277, 278, 622, 623, 624, 625, 626, 627, 628, 629, 630, 632, 19, 633, 634, 565, 566, 567, 568, 569] (by decide +kernel)
set_option maxRecDepth 20000 in
theorem in_wsL_law0_r8 : ∀ w ∈ wsL_law0_r8, w ∈ lw_tbl := mem_r [570, 571, 424, 811, 812, 813, 814, 815, 816, 817, 818, 819, 820, 821, 823, 21, 824, 825, 827, 22, 828, 829, 831, 23] (by decide +kernel)
set_option maxRecDepth 20000 in
theorem in_wsL_law0_r9 : ∀ w ∈ wsL_law0_r9, w ∈ lw_tbl := mem_r [832, 833, 835, 24, 836, 837, 839, 25, 840, 841, 843, 26, 844, 852, 845, 847, 27, 848, 849, 850, 851, 853, 855, 28] (by decide +kernel)
set_option maxRecDepth 20000 in
theorem in_wsL_law0_r10 : ∀ w ∈ wsL_law0_r10, w ∈ lw_tbl := mem_r [856, 857, 858, 859, 860, 862, 29, 863, 864, 866, 30, 867, 766, 803, 804, 805, 806, 635, 636, 637, 638, 639, 640, 641] (by decide +kernel)
set_option maxRecDepth 20000 in
theorem in_wsL_law0_r11 : ∀ w ∈ wsL_law0_r11, w ∈ lw_tbl := mem_r [642, 448, 79, 447, 288, 289, 290, 643, 644, 645, 646, 868, 869, 870, 871, 872, 874, 31, 875, 647, 648, 649, 650, 651] (by decide +kernel)
set_option maxRecDepth 20000 in
theorem in_wsL_law0_r12 : ∀ w ∈ wsL_law0_r12, w ∈ lw_tbl := mem_r [652, 653, 261, 283, 284, 285, 286, 287, 876, 877, 878, 879, 655, 656, 657, 658, 659, 660, 661, 304, 663, 880, 881, 882] (by decide +kernel)
set_option maxRecDepth 20000 in
theorem in_wsL_law0_r13 : ∀ w ∈ wsL_law0_r13, w ∈ lw_tbl := mem_r [883, 884, 886, 32, 887, 664, 665, 666, 667, 668, 669, 670, 270, 271, 272, 273, 411, 413, 9, 414, 296, 298, 6, 299] (by decide +kernel)
set_option maxRecDepth 20000 in
theorem in_wsL_law0_r14 : ∀ w ∈ wsL_law0_r14, w ∈ lw_tbl := mem_r [300, 301, 302, 303, 308, 309, 310, 311, 415, 416, 417, 418, 419, 420, 421, 422, 423, 888, 889, 890, 891, 892, 894, 33] (by decide +kernel)
set_option maxRecDepth 20000 in
theorem in_wsL_law0_r15 : ∀ w ∈ wsL_law0_r15, w ∈ lw_tbl := mem_r [895, 896, 898, 34, 899, 900, 902, 35, 903, 904, 906, 36, 907, 769, 770, 908, 910, 37, 911, 912, 914, 38, 915, 672] (by decide +kernel)
set_option maxRecDepth 20000 in
theorem in_wsL_law0_r16 : ∀ w ∈ wsL_law0_r16, w ∈ lw_tbl := mem_r [673, 674, 675, 676, 677, 678, 572, 258, 259, 260, 264, 265, 80, 266, 267, 268, 269, 916, 917, 918, 919, 920, 922, 39] (by decide +kernel)
set_option maxRecDepth 20000 in
theorem in_wsL_law0_r17 : ∀ w ∈ wsL_law0_r17, w ∈ lw_tbl := mem_r [923, 924, 925, 926, 679, 680, 681, 682, 683, 684, 685, 927, 928, 929, 930, 768, 224, 225, 226, 227, 931, 932, 933, 934] (by decide +kernel)
set_option maxRecDepth 20000 in
theorem in_wsL_law0_r18 : ∀ w ∈ wsL_law0_r18, w ∈ lw_tbl := mem_r [228, 229, 230, 231, 233, 235, 1, 236, 237, 238, 239, 240, 241, 243, 2, 244, 245, 247, 3, 248, 249, 251, 4, 252] (by decide +kernel)
set_option maxRecDepth 20000 in
theorem in_wsL_law0_r19 : ∀ w ∈ wsL_law0_r19, w ∈ lw_tbl := mem_r [253, 255, 5, 256, 935, 936, 937, 938, 939, 941, 40, 942, 772, 773, 774, 943, 945, 41, 946, 947, 949, 42, 950, 951] (by decide +kernel)
set_option maxRecDepth 20000 in
theorem in_wsL_law0_r20 : ∀ w ∈ wsL_law0_r20, w ∈ lw_tbl := mem_r [953, 43, 954, 955, 957, 44, 958, 688, 689, 690, 691, 692, 693, 694, 695, 696, 697, 698, 699, 701, 703, 20, 704, 959] (by decide +kernel)
set_option maxRecDepth 20000 in
theorem in_wsL_law0_r21 : ∀ w ∈ wsL_law0_r21, w ∈ lw_tbl := mem_r [960, 961, 962, 705, 706, 707, 708, 709, 710, 711, 807, 808, 809, 810, 713, 714, 715, 716, 444, 445, 446, 291, 963, 964] (by decide +kernel)
set_option maxRecDepth 20000 in
theorem in_wsL_law0_r22 : ∀ w ∈ wsL_law0_r22, w ∈ lw_tbl := mem_r [965, 966, 967, 969, 45, 970, 971, 973, 46, 974, 717, 718, 719, 720, 467, 468, 469, 975, 976, 977, 978, 721, 722, 723] (by decide +kernel)
set_option maxRecDepth 20000 in
theorem in_wsL_law0_r23 : ∀ w ∈ wsL_law0_r23, w ∈ lw_tbl := mem_r [724, 430, 431, 432, 434, 436, 10, 437, 438, 979, 980, 981, 982, 983, 985, 47, 986, 987, 725, 726, 727, 728, 322, 323] (by decide +kernel)
set_option maxRecDepth 20000 in
theorem in_wsL_law0_r24 : ∀ w ∈ wsL_law0_r24, w ∈ lw_tbl := mem_r [324, 393, 394, 395, 396, 398, 402, 403, 404, 405, 406, 407, 409, 8, 410, 988, 989, 990, 991, 992, 994, 48, 995, 996] (by decide +kernel)
set_option maxRecDepth 20000 in
theorem in_wsL_law0_r25 : ∀ w ∈ wsL_law0_r25, w ∈ lw_tbl := mem_r [998, 49, 999, 1000, 1002, 50, 1003, 1004, 1006, 51, 1007, 729, 730, 731, 732, 481, 482, 483, 484, 485, 486, 487, 489, 491] (by decide +kernel)
set_option maxRecDepth 20000 in
theorem in_wsL_law0_r26 : ∀ w ∈ wsL_law0_r26, w ∈ lw_tbl := mem_r [13, 492, 493, 494, 495, 496, 498, 14, 499, 500, 501, 78, 502, 1008, 1009, 1010, 1011, 1012, 1013, 1014, 1015, 1017, 52, 1018] (by decide +kernel)
set_option maxRecDepth 20000 in
theorem in_wsL_law0_r27 : ∀ w ∈ wsL_law0_r27, w ∈ lw_tbl := mem_r [1019, 1021, 53, 1022, 1023, 1025, 54, 1026, 733, 734, 735, 736, 508, 509, 510, 511, 512, 513, 516, 517, 518, 519, 1027, 1028] (by decide +kernel)
set_option maxRecDepth 20000 in
theorem in_wsL_law0_r28 : ∀ w ∈ wsL_law0_r28, w ∈ lw_tbl := mem_r [1029, 1030, 1031, 1032, 1033, 1034, 1036, 55, 1037, 1038, 1040, 56, 1041, 737, 738, 739, 740, 523, 524, 525, 1042, 1043, 1044, 1045] (by decide +kernel)
set_option maxRecDepth 20000 in
theorem in_wsL_law0_r29 : ∀ w ∈ wsL_law0_r29, w ∈ lw_tbl := mem_r [1046, 1048, 57, 1049, 741, 742, 743, 744, 529, 530, 531, 533, 534, 535, 536, 1050, 1051, 1052, 1053, 1054, 1056, 58, 1057, 745] (by decide +kernel)
set_option maxRecDepth 20000 in
theorem in_wsL_law0_r30 : ∀ w ∈ wsL_law0_r30, w ∈ lw_tbl := mem_r [746, 747, 748, 538, 539, 540, 541, 1058, 1059, 1060, 1061, 1062, 1064, 59, 1065, 749, 750, 751, 752, 544, 545, 546, 564, 1066] (by decide +kernel)
set_option maxRecDepth 20000 in
theorem in_wsL_law0_r31 : ∀ w ∈ wsL_law0_r31, w ∈ lw_tbl := mem_r [1067, 1068, 1069, 1070, 1072, 60, 1073, 753, 754, 755, 756, 471, 472, 473, 1074, 1075, 1076, 1077, 257, 1078, 1079, 1080, 1081, 279] (by decide +kernel)
set_option maxRecDepth 20000 in
theorem in_wsL_law0_r32 : ∀ w ∈ wsL_law0_r32, w ∈ lw_tbl := mem_r [280, 281, 282, 1082, 1083, 1084, 1085, 1086, 1088, 61, 1089, 292, 293, 294, 295, 1090, 1091, 1092, 1093, 1094, 1096, 62, 1097, 316] (by decide +kernel)
set_option maxRecDepth 20000 in
theorem in_wsL_law0_r33 : ∀ w ∈ wsL_law0_r33, w ∈ lw_tbl := mem_r [317, 318, 319, 320, 474, 321, 425, 426, 427, 428, 429, 439, 441, 11, 442, 443, 466, 470, 476, 478, 12, 479, 480, 503] (by decide +kernel)
set_option maxRecDepth 20000 in
theorem in_wsL_law0_r34 : ∀ w ∈ wsL_law0_r34, w ∈ lw_tbl := mem_r [505, 15, 506, 520, 521, 527, 542, 507, 522, 528, 537, 543, 573, 574, 575, 576, 577, 578, 579, 580, 1098, 1099, 1100, 1101] (by decide +kernel)
set_option maxRecDepth 20000 in
theorem in_wsL_law0_r35 : ∀ w ∈ wsL_law0_r35, w ∈ lw_tbl := mem_r [1102, 775, 1116, 1117, 1118, 1119, 1103, 1105, 63, 1106, 1107, 1108, 1110, 64, 1111, 1112, 1114, 65, 1115, 1120, 1121, 1122, 1123, 1124] (by decide +kernel)
set_option maxRecDepth 20000 in
theorem in_wsL_law0_r36 : ∀ w ∈ wsL_law0_r36, w ∈ lw_tbl := mem_r [1125, 1126] (by decide +kernel)
set_option maxRecDepth 20000 in
theorem in_wsX00 : ∀ w ∈ wsX00, w ∈ lw_tbl := mem_r [119, 121, 123, 125, 127] (by decide +kernel)
set_option maxRecDepth 20000 in
theorem in_wsX10 : ∀ w ∈ wsX10, w ∈ lw_tbl := mem_r [194, 196] (by decide +kernel)
set_option maxRecDepth 20000 in
theorem in_wsX20 : ∀ w ∈ wsX20, w ∈ lw_tbl := mem_r [175, 177, 179, 181] (by decide +kernel)
set_option maxRecDepth 20000 in
theorem in_wsX30 : ∀ w ∈ wsX30, w ∈ lw_tbl := mem_r [145, 147, 149, 151, 153] (by decide +kernel)
set_option maxRecDepth 20000 in
theorem in_wsX40 : ∀ w ∈ wsX40, w ∈ lw_tbl := mem_r [207, 209, 211, 213, 215, 217, 219, 221] (by decide +kernel)
set_option maxRecDepth 20000 in
theorem in_wsX50 : ∀ w ∈ wsX50, w ∈ lw_tbl := mem_r [776, 778, 780, 782, 784, 786, 788, 790, 792, 794, 796, 798, 800] (by decide +kernel)
theorem wsL_law_in0 : ∀ w ∈ wsL_law0, w ∈ lw_tbl := List.forall_mem_append.mpr ⟨List.forall_mem_append.mpr ⟨List.forall_mem_append.mpr ⟨List.forall_mem_append.mpr ⟨List.forall_mem_append.mpr ⟨List.forall_mem_append.mpr ⟨List.forall_mem_append.mpr ⟨List.forall_mem_append.mpr ⟨in_wsL_law0_r1, List.forall_mem_append.mpr ⟨in_wsL_law0_r2, List.forall_mem_append.mpr ⟨in_wsL_law0_r3, List.forall_mem_append.mpr ⟨in_wsL_law0_r4, List.forall_mem_append.mpr ⟨in_wsL_law0_r5, List.forall_mem_append.mpr ⟨in_wsL_law0_r6, List.forall_mem_append.mpr ⟨in_wsL_law0_r7, List.forall_mem_append.mpr ⟨in_wsL_law0_r8, List.forall_mem_append.mpr ⟨in_wsL_law0_r9, List.forall_mem_append.mpr ⟨in_wsL_law0_r10, List.forall_mem_append.mpr ⟨in_wsL_law0_r11, List.forall_mem_append.mpr ⟨in_wsL_law0_r12, List.forall_mem_append.mpr ⟨in_wsL_law0_r13, List.forall_mem_append.mpr ⟨in_wsL_law0_r14, List.forall_mem_append.mpr ⟨in_wsL_law0_r15, List.forall_mem_append.mpr ⟨in_wsL_law0_r16, List.forall_mem_append.mpr ⟨in_wsL_law0_r17, List.forall_mem_append.mpr ⟨in_wsL_law0_r18, List.forall_mem_append.mpr ⟨in_wsL_law0_r19, List.forall_mem_append.mpr ⟨in_wsL_law0_r20, List.forall_mem_append.mpr ⟨in_wsL_law0_r21, List.forall_mem_append.mpr ⟨in_wsL_law0_r22, List.forall_mem_append.mpr ⟨in_wsL_law0_r23, List.forall_mem_append.mpr ⟨in_wsL_law0_r24, List.forall_mem_append.mpr ⟨in_wsL_law0_r25, List.forall_mem_append.mpr ⟨in_wsL_law0_r26, List.forall_mem_append.mpr ⟨in_wsL_law0_r27, List.forall_mem_append.mpr ⟨in_wsL_law0_r28, List.forall_mem_append.mpr ⟨in_wsL_law0_r29, List.forall_mem_append.mpr ⟨in_wsL_law0_r30, List.forall_mem_append.mpr ⟨in_wsL_law0_r31, List.forall_mem_append.mpr ⟨in_wsL_law0_r32, List.forall_mem_append.mpr ⟨in_wsL_law0_r33, List.forall_mem_append.mpr ⟨in_wsL_law0_r34, List.forall_mem_append.mpr ⟨in_wsL_law0_r35, in_wsL_law0_r36⟩⟩⟩⟩⟩⟩⟩⟩⟩⟩⟩⟩⟩⟩⟩⟩⟩⟩⟩⟩⟩⟩⟩⟩⟩⟩⟩⟩⟩⟩⟩⟩⟩⟩⟩, in_wsX40⟩, in_wsX50⟩, in_wsX00⟩, in_wsX30⟩, in_wsX20⟩, in_wsX10⟩, fun _ h => absurd h List.not_mem_nil⟩
theorem wsL_law_x0 : ∀ w ∈ (vx_atS RX4 63 "java/lang/IllegalArgumentException" ["java/lang/RuntimeException", "java/lang/Exception"]).filter goodWord, w ∈ lw_tbl := by decide +kernel
theorem wsL_law_x1 : ∀ w ∈ (vx_atS RX4 74 "java/lang/IllegalStateException" ["java/lang/RuntimeException", "java/lang/Exception"]).filter goodWord, w ∈ lw_tbl := by decide +kernel
theorem wsL_law_x2 : ∀ w ∈ (vx_atS RX4 90 "java/lang/IndexOutOfBoundsException" ["java/lang/RuntimeException", "java/lang/Exception"]).filter goodWord, w ∈ lw_tbl := by decide +kernel
theorem wsL_law_in : ∀ w ∈ wsL_law, w ∈ lw_tbl := fun w h => (List.mem_append.mp h).elim (fun h => (List.mem_append.mp h).elim (fun h => (List.mem_append.mp h).elim (fun h => wsL_law_in0 w h) (fun h => wsL_law_x0 w h)) (fun h => wsL_law_x1 w h)) (fun h => wsL_law_x2 w h)
theorem inlX0 : ∀ w ∈ wsX00, w ∈ wsL_law := fun _ h => List.mem_append_left _ (List.mem_append_left _ (List.mem_append_left _ (List.mem_append_left _ (List.mem_append_left _ (List.mem_append_left _ (List.mem_append_left _ (List.mem_append_right _ h)))))))
theorem inX0 : ∀ w ∈ wsX00, w ∈ lw_tbl := fun w h => wsL_law_in w (inlX0 w h)
theorem inlX1 : ∀ w ∈ wsX10, w ∈ wsL_law := fun _ h => List.mem_append_left _ (List.mem_append_left _ (List.mem_append_left _ (List.mem_append_left _ (List.mem_append_right _ h))))
theorem inX1 : ∀ w ∈ wsX10, w ∈ lw_tbl := fun w h => wsL_law_in w (inlX1 w h)
theorem inlX2 : ∀ w ∈ wsX20, w ∈ wsL_law := fun _ h => List.mem_append_left _ (List.mem_append_left _ (List.mem_append_left _ (List.mem_append_left _ (List.mem_append_left _ (List.mem_append_right _ h)))))
theorem inX2 : ∀ w ∈ wsX20, w ∈ lw_tbl := fun w h => wsL_law_in w (inlX2 w h)
theorem inlX3 : ∀ w ∈ wsX30, w ∈ wsL_law := fun _ h => List.mem_append_left _ (List.mem_append_left _ (List.mem_append_left _ (List.mem_append_left _ (List.mem_append_left _ (List.mem_append_left _ (List.mem_append_right _ h))))))
theorem inX3 : ∀ w ∈ wsX30, w ∈ lw_tbl := fun w h => wsL_law_in w (inlX3 w h)
theorem inlX4 : ∀ w ∈ wsX40, w ∈ wsL_law := fun _ h => List.mem_append_left _ (List.mem_append_left _ (List.mem_append_left _ (List.mem_append_left _ (List.mem_append_left _ (List.mem_append_left _ (List.mem_append_left _ (List.mem_append_left _ (List.mem_append_left _ (List.mem_append_right _ h)))))))))
theorem inX4 : ∀ w ∈ wsX40, w ∈ lw_tbl := fun w h => wsL_law_in w (inlX4 w h)
theorem inlX5 : ∀ w ∈ wsX50, w ∈ wsL_law := fun _ h => List.mem_append_left _ (List.mem_append_left _ (List.mem_append_left _ (List.mem_append_left _ (List.mem_append_left _ (List.mem_append_left _ (List.mem_append_left _ (List.mem_append_left _ (List.mem_append_right _ h))))))))
theorem inX5 : ∀ w ∈ wsX50, w ∈ lw_tbl := fun w h => wsL_law_in w (inlX5 w h)
theorem inJ6 : ∀ w ∈ wsJ60, w ∈ lw_tbl := by decide +kernel
theorem inJ9 : ∀ w ∈ wsJ90, w ∈ lw_tbl := by decide +kernel
theorem inJ0 : ∀ w ∈ wsJ00, w ∈ lw_tbl := by decide +kernel

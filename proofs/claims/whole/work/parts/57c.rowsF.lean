theorem goodIn_cons {big a : List Cond} {c : Cond} (hc : GoodIn big [c]) (ha : GoodIn big a) : GoodIn big (c :: a) := fun w h => (List.mem_cons.mp h).elim (fun e => hc w (List.mem_cons.mpr (Or.inl e))) (ha w)
set_option maxRecDepth 20000 in
theorem gdg_0 : GoodIn wsL_law [.code yX4_digest cX4_digest 4 (some .long)] := goodIn_r _ [770] (by decide +kernel) (by decide +kernel)
set_option maxRecDepth 20000 in
theorem gdg_1 : GoodIn wsL_law wsX4_digest_r1 := goodIn_r _ [771, 20, 772, 26, 773, 550, 551, 2, 552, 99, 100, 23, 370, 371, 372, 373, 374, 375, 376, 553, 554, 555, 19, 556] (by decide +kernel) (by decide +kernel)
set_option maxRecDepth 20000 in
theorem gdg_2 : GoodIn wsL_law wsX4_digest_r2 := goodIn_r _ [60, 117, 118, 119, 120, 58, 56, 557, 124, 125, 16, 126, 42, 558, 559, 560, 561, 115, 116, 146, 147, 148, 149, 59] (by decide +kernel) (by decide +kernel)
set_option maxRecDepth 20000 in
theorem gdg_3 : GoodIn wsL_law wsX4_digest_r3 := goodIn_r _ [562, 300, 301, 302, 303, 563, 564, 565, 566, 304, 305, 306, 307, 266, 267, 268, 269, 270, 61, 271, 244, 245, 246, 308] (by decide +kernel) (by decide +kernel)
set_option maxRecDepth 20000 in
theorem gdg_4 : GoodIn wsL_law wsX4_digest_r4 := goodIn_r _ [309, 310, 311, 34, 312, 313, 314, 33, 315, 78, 79, 283, 316, 317, 318, 319, 44, 45, 48, 49, 46, 47, 50, 51] (by decide +kernel) (by decide +kernel)
set_option maxRecDepth 20000 in
theorem gdg_5 : GoodIn wsL_law wsX4_digest_r5 := goodIn_r _ [320, 321, 322, 323, 324, 325, 326, 327, 328, 43, 170, 774, 775, 776, 777, 778, 529, 530, 531, 532, 533, 534, 535, 536] (by decide +kernel) (by decide +kernel)
set_option maxRecDepth 20000 in
theorem gdg_6 : GoodIn wsL_law wsX4_digest_r6 := goodIn_r _ [779, 780, 781, 782, 783, 498, 499, 500, 241, 242, 243, 123, 501, 784, 518, 519, 520, 785, 731, 732, 733, 786, 787, 788] (by decide +kernel) (by decide +kernel)
set_option maxRecDepth 20000 in
theorem gdg_7 : GoodIn wsL_law wsX4_digest_r7 := goodIn_r _ [789, 790, 591, 592, 593, 594, 595, 596, 597, 598, 599, 600, 601, 602, 603, 604, 605, 606, 607, 608, 609, 610, 611, 612] (by decide +kernel) (by decide +kernel)
set_option maxRecDepth 20000 in
theorem gdg_8 : GoodIn wsL_law wsX4_digest_r8 := goodIn_r _ [791, 792, 793, 794, 795, 796, 797, 798, 799, 636, 637, 638, 639, 640, 641, 110, 642, 643, 644, 645, 800, 665, 666, 667] (by decide +kernel) (by decide +kernel)
set_option maxRecDepth 20000 in
theorem gdg_9 : GoodIn wsL_law wsX4_digest_r9 := goodIn_r _ [801, 680, 681, 682, 683, 684, 685, 686, 802, 699, 700, 701, 702, 803, 715, 716, 717, 14, 15, 103, 104, 105, 35, 36] (by decide +kernel) (by decide +kernel)
set_option maxRecDepth 20000 in
theorem gdg_10 : GoodIn wsL_law wsX4_digest_r10 := goodIn_r _ [37, 38, 12, 13, 39, 40, 41, 106, 107, 108, 109, 111, 112, 113, 114, 121, 122, 127, 128, 129, 718, 163, 164, 165] (by decide +kernel) (by decide +kernel)
set_option maxRecDepth 20000 in
theorem gdg_11 : GoodIn wsL_law wsX4_digest_r11 := goodIn_r _ [166, 167, 168, 169, 366, 367, 368, 369, 804, 744, 745, 746, 805, 756, 757, 758, 806, 807, 808, 809, 810, 811, 412, 413] (by decide +kernel) (by decide +kernel)
set_option maxRecDepth 20000 in
theorem gdg_12 : GoodIn wsL_law wsX4_digest_r12 := goodIn_r _ [414, 415, 25] (by decide +kernel) (by decide +kernel)
set_option maxRecDepth 20000 in
theorem gdg_wsX40 : GoodIn wsL_law wsX40 := goodIn_r _ [842, 843, 844, 845, 846, 847, 848, 849] (by decide +kernel) (by decide +kernel)
set_option maxRecDepth 20000 in
theorem gdg_wsX30 : GoodIn wsL_law wsX30 := goodIn_r _ [868, 869, 870, 871, 872] (by decide +kernel) (by decide +kernel)
set_option maxRecDepth 20000 in
theorem gdg_wsX00 : GoodIn wsL_law wsX00 := goodIn_r _ [863, 864, 865, 866, 867] (by decide +kernel) (by decide +kernel)
set_option maxRecDepth 20000 in
theorem gdg_wsX10 : GoodIn wsL_law wsX10 := goodIn_r _ [877, 878] (by decide +kernel) (by decide +kernel)
set_option maxRecDepth 20000 in
theorem ggL_law_X4_digest : GoodIn wsL_law wsX4_digest := goodIn_ca (goodIn_ca (goodIn_cons gdg_0 (goodIn_app (goodIn_app (goodIn_app (goodIn_app (goodIn_app gdg_1 (goodIn_app gdg_2 (goodIn_app gdg_3 (goodIn_app gdg_4 (goodIn_app gdg_5 (goodIn_app gdg_6 (goodIn_app gdg_7 (goodIn_app gdg_8 (goodIn_app gdg_9 (goodIn_app gdg_10 (goodIn_app gdg_11 gdg_12))))))))))) gdg_wsX40) gdg_wsX30) gdg_wsX00) gdg_wsX10)) (goodIn_sub (fun _ h => List.mem_append_left _ (List.mem_append_left _ (List.mem_append_right _ h))) (by decide +kernel))) (goodIn_sub (fun _ h => List.mem_append_right _ h) (by decide +kernel))
set_option maxRecDepth 20000 in
theorem gL_law_X4_digest : GoodIn wsL_law (wsV RL 186 RX4 yX4_digest wsX4_digest) := goodIn_app (goodIn_of _ (by decide +kernel)) ggL_law_X4_digest

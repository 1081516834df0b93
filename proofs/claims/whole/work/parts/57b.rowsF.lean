set_option maxRecDepth 20000 in
theorem ggL_law_X4_init : GoodIn wsL_law wsX4_init := goodIn_r _ [10, 11, 12, 13, 14, 15, 16, 17, 18, 19, 20, 21, 22, 23, 24, 25, 26, 27, 28, 29, 30, 31, 32, 33, 34, 35, 36, 37, 38, 39, 40, 41, 42, 43, 44, 2, 45, 46, 47, 48, 49, 50, 51, 52, 53, 54, 55, 56, 57, 58, 59, 60, 61, 62, 63, 64, 65, 66, 67, 68, 69, 70, 71, 72, 73, 74, 75, 76, 77, 78, 79, 863, 864, 865, 866, 867, 868, 869, 870, 871, 872, 842, 843, 844, 845, 846, 847, 848, 849, 873, 874, 875, 876, 877, 878] (by decide +kernel) (by decide +kernel)
set_option maxRecDepth 20000 in
theorem gL_law_X4_init : GoodIn wsL_law (wsX4_init) := ggL_law_X4_init
set_option maxRecDepth 20000 in
theorem ggL_law_X5_init : GoodIn wsL_law wsX5_init := goodIn_r _ [82, 83, 12, 13, 24, 84, 85, 86, 87, 88, 850, 851, 852, 853, 854, 855, 856, 857, 858, 859, 860, 861, 862] (by decide +kernel) (by decide +kernel)
set_option maxRecDepth 20000 in
theorem gL_law_X5_init : GoodIn wsL_law (wsX5_init) := ggL_law_X5_init
set_option maxRecDepth 20000 in
theorem ggL_law_L_add : GoodIn wsL_law wsL_add := goodIn_ca (goodIn_ca (goodIn_r _ [92, 93, 94, 95, 96, 97, 2, 98, 99, 100, 101, 102, 14, 15, 16, 20, 103, 104, 105, 35, 36, 37, 38, 12, 13, 39, 40, 41, 42, 43, 44, 45, 46, 47, 48, 49, 50, 51, 106, 107, 108, 109, 110, 111, 112, 113, 19, 114, 60, 115, 116, 117, 118, 119, 120, 58, 56, 121, 122, 123, 124, 125, 126, 127, 128, 129, 130, 131, 132, 133, 22, 23, 134, 135, 136, 137, 21, 138, 139, 140, 141, 142, 143, 144, 145, 61, 59, 146, 147, 148, 149, 150, 151, 152, 153, 154, 155, 156, 157, 158, 159, 160, 161, 162, 163, 164, 165, 166, 167, 168, 169, 170, 863, 864, 865, 866, 867, 842, 843, 844, 845, 846, 847, 848, 849, 868, 869, 870, 871, 872] (by decide +kernel) (by decide +kernel)) (goodIn_sub (fun _ h => List.mem_append_left _ (List.mem_append_left _ (List.mem_append_right _ h))) (by decide +kernel))) (goodIn_sub (fun _ h => List.mem_append_left _ (List.mem_append_right _ h)) (by decide +kernel))
set_option maxRecDepth 20000 in
theorem gL_law_L_add : GoodIn wsL_law (va_wsS RL 90 yL_add wsL_add) := goodIn_app (goodIn_of _ (by decide +kernel)) ggL_law_L_add
set_option maxRecDepth 20000 in
theorem ggL_law_X5_add : GoodIn wsL_law wsX5_add := goodIn_r _ [174, 88, 84, 175, 176, 5, 177, 178, 179, 180, 181, 182, 183, 184, 185, 186, 187, 188, 189, 190, 191, 192, 193, 194, 195, 196, 197, 198, 199, 200, 201, 202, 203, 204, 205, 206, 207, 208, 209, 210, 211, 212, 213, 214, 215, 216, 217, 218, 219, 220, 221, 222, 223, 224, 225, 226, 227, 228, 85, 850, 851, 852, 853, 854, 855, 856, 857, 858, 859, 860, 861, 862] (by decide +kernel) (by decide +kernel)
set_option maxRecDepth 20000 in
theorem gL_law_X5_add : GoodIn wsL_law (wsV RL 95 RX5 yX5_add wsX5_add) := goodIn_app (goodIn_of _ (by decide +kernel)) ggL_law_X5_add
set_option maxRecDepth 20000 in
theorem ggL_law_X5_thrown : GoodIn wsL_law wsX5_thrown := goodIn_r _ [232, 88, 850, 851, 852, 853, 854, 855, 856, 857, 858, 859, 860, 861, 862] (by decide +kernel) (by decide +kernel)
set_option maxRecDepth 20000 in
theorem gL_law_X5_thrown : GoodIn wsL_law (wsV RL 96 RX5 yX5_thrown wsX5_thrown) := goodIn_app (goodIn_of _ (by decide +kernel)) ggL_law_X5_thrown
set_option maxRecDepth 20000 in
theorem ggL_law_L_remove : GoodIn wsL_law wsL_remove := goodIn_ca (goodIn_r _ [235, 236, 237, 238, 239, 2, 240, 241, 242, 20, 243, 244, 245, 19, 246, 60, 130, 131, 132, 133, 22, 23, 134, 135, 136, 137, 21, 138, 139, 140, 141, 142, 143, 144, 145, 61, 58, 59, 117, 118, 119, 120, 56, 146, 147, 148, 149, 247, 248, 249, 250, 154, 155, 156, 157, 115, 116, 158, 159, 160, 161, 162, 163, 164, 165, 166, 167, 168, 16, 169, 42, 43, 170, 124, 125, 126, 44, 45, 46, 47, 842, 843, 844, 845, 846, 847, 848, 849, 868, 869, 870, 871, 872, 863, 864, 865, 866, 867] (by decide +kernel) (by decide +kernel)) (goodIn_sub (fun _ h => List.mem_append_right _ h) (by decide +kernel))
set_option maxRecDepth 20000 in
theorem gL_law_L_remove : GoodIn wsL_law (va_wsS RL 99 yL_remove wsL_remove) := goodIn_app (goodIn_of _ (by decide +kernel)) ggL_law_L_remove
set_option maxRecDepth 20000 in
theorem ggL_law_X5_remove : GoodIn wsL_law wsX5_remove := goodIn_r _ [254, 88, 84, 255, 256, 257, 5, 258, 224, 225, 226, 227, 228, 85, 220, 221, 222, 223, 850, 851, 852, 853, 854, 855, 856, 857, 858, 859, 860, 861, 862] (by decide +kernel) (by decide +kernel)
set_option maxRecDepth 20000 in
theorem gL_law_X5_remove : GoodIn wsL_law (wsV RL 102 RX5 yX5_remove wsX5_remove) := goodIn_app (goodIn_of _ (by decide +kernel)) ggL_law_X5_remove
set_option maxRecDepth 20000 in
theorem ggL_law_L_toggle : GoodIn wsL_law wsL_toggle := goodIn_ca (goodIn_ca (goodIn_r _ [261, 236, 94, 262, 263, 264, 2, 265, 241, 242, 101, 102, 20, 110, 243, 244, 245, 19, 246, 60, 266, 115, 116, 111, 112, 113, 114, 117, 118, 119, 120, 58, 56, 121, 122, 123, 124, 125, 16, 126, 42, 127, 44, 45, 128, 48, 49, 130, 131, 132, 133, 22, 23, 134, 135, 136, 137, 21, 138, 139, 140, 141, 142, 143, 144, 145, 61, 59, 146, 147, 148, 149, 267, 268, 269, 270, 271, 842, 843, 844, 845, 846, 847, 848, 849, 868, 869, 870, 871, 872, 863, 864, 865, 866, 867] (by decide +kernel) (by decide +kernel)) (goodIn_sub (fun _ h => List.mem_append_right _ h) (by decide +kernel))) (goodIn_sub (fun _ h => List.mem_append_left _ (List.mem_append_right _ h)) (by decide +kernel))
set_option maxRecDepth 20000 in
theorem gL_law_L_toggle : GoodIn wsL_law (va_wsS RL 103 yL_toggle wsL_toggle) := goodIn_app (goodIn_of _ (by decide +kernel)) ggL_law_L_toggle
set_option maxRecDepth 20000 in
theorem ggL_law_X5_toggle : GoodIn wsL_law wsX5_toggle := goodIn_r _ [275, 88, 84, 255, 256, 257, 5, 258, 193, 194, 195, 196, 197, 198, 199, 200, 189, 190, 191, 192, 201, 202, 203, 204, 205, 206, 207, 208, 209, 210, 211, 212, 213, 214, 215, 216, 217, 218, 219, 224, 225, 226, 227, 228, 85, 850, 851, 852, 853, 854, 855, 856, 857, 858, 859, 860, 861, 862] (by decide +kernel) (by decide +kernel)
set_option maxRecDepth 20000 in
theorem gL_law_X5_toggle : GoodIn wsL_law (wsV RL 105 RX5 yX5_toggle wsX5_toggle) := goodIn_app (goodIn_of _ (by decide +kernel)) ggL_law_X5_toggle
set_option maxRecDepth 20000 in
theorem ggL_law_L_bare : GoodIn wsL_law wsL_bare := goodIn_ca (goodIn_ca (goodIn_r _ [278, 236, 94, 279, 280, 281, 2, 282, 241, 242, 101, 102, 20, 14, 15, 16, 243, 244, 245, 19, 246, 60, 283, 118, 119, 120, 58, 56, 123, 124, 125, 126, 42, 130, 131, 132, 133, 22, 23, 134, 135, 136, 137, 21, 138, 139, 140, 141, 142, 143, 144, 145, 61, 59, 117, 146, 147, 148, 149, 35, 36, 37, 38, 12, 13, 39, 40, 41, 43, 44, 45, 46, 47, 48, 49, 50, 51, 284, 155, 156, 157, 842, 843, 844, 845, 846, 847, 848, 849, 863, 864, 865, 866, 867, 868, 869, 870, 871, 872] (by decide +kernel) (by decide +kernel)) (goodIn_sub (fun _ h => List.mem_append_right _ h) (by decide +kernel))) (goodIn_sub (fun _ h => List.mem_append_left _ (List.mem_append_right _ h)) (by decide +kernel))
set_option maxRecDepth 20000 in
theorem gL_law_L_bare : GoodIn wsL_law (va_wsS RL 106 yL_bare wsL_bare) := goodIn_app (goodIn_of _ (by decide +kernel)) ggL_law_L_bare
set_option maxRecDepth 20000 in
theorem ggL_law_X5_bare : GoodIn wsL_law wsX5_bare := goodIn_r _ [288, 88, 84, 255, 256, 257, 5, 258, 206, 207, 208, 209, 197, 198, 199, 200, 210, 211, 212, 224, 225, 226, 227, 228, 85, 289, 290, 291, 292, 213, 214, 215, 216, 850, 851, 852, 853, 854, 855, 856, 857, 858, 859, 860, 861, 862] (by decide +kernel) (by decide +kernel)
set_option maxRecDepth 20000 in
theorem gL_law_X5_bare : GoodIn wsL_law (wsV RL 108 RX5 yX5_bare wsX5_bare) := goodIn_app (goodIn_of _ (by decide +kernel)) ggL_law_X5_bare
set_option maxRecDepth 20000 in
theorem ggL_law_L_thin : GoodIn wsL_law wsL_thin := goodIn_ca (goodIn_r _ [295, 94, 296, 297, 298, 2, 299, 101, 102, 20, 300, 301, 302, 19, 303, 60, 115, 116, 146, 147, 148, 149, 59, 130, 131, 132, 133, 22, 23, 134, 135, 136, 137, 21, 138, 139, 140, 141, 142, 143, 144, 145, 61, 58, 117, 118, 119, 120, 56, 304, 305, 306, 307, 266, 267, 268, 269, 270, 271, 244, 245, 246, 308, 309, 310, 311, 34, 312, 313, 314, 33, 315, 78, 79, 283, 316, 317, 318, 319, 44, 45, 48, 49, 46, 47, 50, 51, 320, 321, 322, 323, 324, 124, 125, 16, 126, 42, 325, 326, 327, 328, 43, 170, 842, 843, 844, 845, 846, 847, 848, 849, 868, 869, 870, 871, 872, 877, 878, 863, 864, 865, 866, 867] (by decide +kernel) (by decide +kernel)) (goodIn_sub (fun _ h => List.mem_append_left _ (List.mem_append_right _ h)) (by decide +kernel))
set_option maxRecDepth 20000 in
theorem gL_law_L_thin : GoodIn wsL_law (va_wsS RL 109 yL_thin wsL_thin) := goodIn_app (goodIn_of _ (by decide +kernel)) ggL_law_L_thin
set_option maxRecDepth 20000 in
theorem ggL_law_X5_thin : GoodIn wsL_law wsX5_thin := goodIn_r _ [332, 88, 84, 189, 190, 191, 5, 192, 193, 194, 195, 196, 197, 198, 199, 200, 333, 334, 335, 336, 337, 338, 339, 340, 206, 207, 208, 209, 210, 211, 212, 213, 214, 215, 216, 289, 290, 291, 292, 224, 225, 226, 227, 228, 85, 341, 342, 343, 344, 345, 346, 347, 348, 349, 350, 351, 352, 353, 354, 355, 356, 357, 358, 217, 218, 219, 850, 851, 852, 853, 854, 855, 856, 857, 858, 859, 860, 861, 862] (by decide +kernel) (by decide +kernel)
set_option maxRecDepth 20000 in
theorem gL_law_X5_thin : GoodIn wsL_law (wsV RL 112 RX5 yX5_thin wsX5_thin) := goodIn_app (goodIn_of _ (by decide +kernel)) ggL_law_X5_thin
set_option maxRecDepth 20000 in
theorem ggL_law_L_agree : GoodIn wsL_law wsL_agree := goodIn_ca (goodIn_r _ [361, 94, 362, 363, 364, 2, 365, 101, 102, 20, 110, 366, 367, 368, 369, 266, 115, 116, 370, 371, 372, 373, 374, 375, 376, 300, 301, 302, 19, 303, 60, 146, 147, 148, 149, 59, 111, 112, 113, 114, 117, 118, 119, 120, 58, 56, 121, 122, 123, 124, 125, 16, 126, 42, 127, 44, 45, 128, 48, 49, 130, 131, 132, 133, 22, 23, 134, 135, 136, 137, 21, 138, 139, 140, 141, 142, 143, 144, 145, 61, 842, 843, 844, 845, 846, 847, 848, 849, 868, 869, 870, 871, 872, 863, 864, 865, 866, 867] (by decide +kernel) (by decide +kernel)) (goodIn_sub (fun _ h => List.mem_append_left _ (List.mem_append_right _ h)) (by decide +kernel))
set_option maxRecDepth 20000 in
theorem gL_law_L_agree : GoodIn wsL_law (va_wsS RL 113 yL_agree wsL_agree) := goodIn_app (goodIn_of _ (by decide +kernel)) ggL_law_L_agree
set_option maxRecDepth 20000 in
theorem ggL_law_X5_agree : GoodIn wsL_law wsX5_agree := goodIn_r _ [380, 88, 84, 381, 382, 383, 5, 384, 385, 386, 387, 333, 334, 335, 336, 337, 338, 339, 340, 206, 207, 208, 209, 197, 198, 199, 200, 210, 211, 212, 213, 214, 215, 216, 289, 290, 291, 292, 201, 202, 203, 204, 205, 217, 218, 219, 224, 225, 226, 227, 228, 85, 850, 851, 852, 853, 854, 855, 856, 857, 858, 859, 860, 861, 862] (by decide +kernel) (by decide +kernel)
set_option maxRecDepth 20000 in
theorem gL_law_X5_agree : GoodIn wsL_law (wsV RL 115 RX5 yX5_agree wsX5_agree) := goodIn_app (goodIn_of _ (by decide +kernel)) ggL_law_X5_agree
set_option maxRecDepth 20000 in
theorem ggL_law_L_append : GoodIn wsL_law wsL_append := goodIn_ca (goodIn_ca (goodIn_r _ [390, 93, 94, 391, 392, 393, 2, 394, 99, 100, 101, 102, 26, 25, 842, 843, 844, 845, 846, 847, 848, 849] (by decide +kernel) (by decide +kernel)) (goodIn_sub (fun _ h => List.mem_append_left _ (List.mem_append_left _ (List.mem_append_right _ h))) (by decide +kernel))) (goodIn_sub (fun _ h => List.mem_append_left _ (List.mem_append_right _ h)) (by decide +kernel))
set_option maxRecDepth 20000 in
theorem gL_law_L_append : GoodIn wsL_law (va_wsS RL 116 yL_append wsL_append) := goodIn_app (goodIn_of _ (by decide +kernel)) ggL_law_L_append
set_option maxRecDepth 20000 in
theorem ggL_law_X5_append : GoodIn wsL_law wsX5_append := goodIn_r _ [398, 399, 88, 86, 178, 179, 5, 180, 850, 851, 852, 853, 854, 855, 856, 857, 858, 859, 860, 861, 862] (by decide +kernel) (by decide +kernel)
set_option maxRecDepth 20000 in
theorem gL_law_X5_append : GoodIn wsL_law (wsV RL 118 RX5 yX5_append wsX5_append) := goodIn_app (goodIn_of _ (by decide +kernel)) ggL_law_X5_append
set_option maxRecDepth 20000 in
theorem ggL_law_X4_clearBuffer : GoodIn wsL_law wsX4_clearBuffer := goodIn_r _ [403, 26, 842, 843, 844, 845, 846, 847, 848, 849] (by decide +kernel) (by decide +kernel)
set_option maxRecDepth 20000 in
theorem gL_law_X4_clearBuffer : GoodIn wsL_law (wsV RL 119 RX4 yX4_clearBuffer wsX4_clearBuffer) := goodIn_app (goodIn_of _ (by decide +kernel)) ggL_law_X4_clearBuffer
set_option maxRecDepth 20000 in
theorem ggL_law_X5_clearBuffer : GoodIn wsL_law wsX5_clearBuffer := goodIn_r _ [407, 88, 399, 850, 851, 852, 853, 854, 855, 856, 857, 858, 859, 860, 861, 862] (by decide +kernel) (by decide +kernel)
set_option maxRecDepth 20000 in
theorem gL_law_X5_clearBuffer : GoodIn wsL_law (wsV RL 122 RX5 yX5_clearBuffer wsX5_clearBuffer) := goodIn_app (goodIn_of _ (by decide +kernel)) ggL_law_X5_clearBuffer
set_option maxRecDepth 20000 in
theorem ggL_law_X4_firstError : GoodIn wsL_law wsX4_firstError := goodIn_r _ [411, 30, 26, 67, 29, 68, 69, 70, 71, 72, 73, 412, 413, 414, 2, 415, 25, 416, 417, 418, 419, 420, 421, 422, 423, 424, 425, 426, 427, 428, 429, 430, 431, 432, 433, 434, 435, 842, 843, 844, 845, 846, 847, 848, 849, 873, 874, 875, 876] (by decide +kernel) (by decide +kernel)
set_option maxRecDepth 20000 in
theorem gL_law_X4_firstError : GoodIn wsL_law (wsV RL 123 RX4 yX4_firstError wsX4_firstError) := goodIn_app (goodIn_of _ (by decide +kernel)) ggL_law_X4_firstError
set_option maxRecDepth 20000 in
theorem ggL_law_X5_firstError : GoodIn wsL_law wsX5_firstError := goodIn_r _ [439, 88, 399, 440, 441, 442, 5, 443, 444, 445, 446, 447, 448, 449, 450, 87, 451, 452, 453, 454, 86, 455, 456, 457, 458, 178, 179, 180, 459, 460, 461, 462, 850, 851, 852, 853, 854, 855, 856, 857, 858, 859, 860, 861, 862] (by decide +kernel) (by decide +kernel)
set_option maxRecDepth 20000 in
theorem gL_law_X5_firstError : GoodIn wsL_law (wsV RL 126 RX5 yX5_firstError wsX5_firstError) := goodIn_app (goodIn_of _ (by decide +kernel)) ggL_law_X5_firstError
set_option maxRecDepth 20000 in
theorem ggL_law_L_read : GoodIn wsL_law wsL_read := goodIn_ca (goodIn_r _ [465, 93, 466, 467, 468, 2, 469, 99, 100, 26, 30, 470, 409, 410, 411, 67, 29, 68, 69, 70, 71, 72, 73, 412, 413, 414, 415, 25, 416, 417, 418, 419, 420, 421, 422, 423, 424, 425, 426, 427, 428, 429, 430, 431, 432, 433, 434, 435, 471, 472, 473, 474, 130, 131, 132, 133, 22, 23, 20, 134, 135, 136, 137, 21, 138, 139, 140, 141, 142, 143, 144, 19, 145, 60, 61, 58, 59, 117, 118, 119, 120, 56, 146, 147, 148, 149, 475, 476, 477, 478, 14, 15, 16, 35, 36, 37, 38, 12, 13, 39, 40, 41, 42, 43, 44, 45, 46, 47, 48, 49, 50, 51, 106, 107, 108, 109, 110, 111, 112, 113, 114, 115, 116, 121, 122, 123, 124, 125, 126, 127, 128, 129, 150, 151, 152, 153, 154, 155, 156, 157, 158, 159, 160, 161, 162, 163, 164, 165, 166, 167, 168, 169, 170, 842, 843, 844, 845, 846, 847, 848, 849, 873, 874, 875, 876, 868, 869, 870, 871, 872, 863, 864, 865, 866, 867] (by decide +kernel) (by decide +kernel)) (goodIn_sub (fun _ h => List.mem_append_left _ (List.mem_append_left _ (List.mem_append_right _ h))) (by decide +kernel))
set_option maxRecDepth 20000 in
theorem gL_law_L_read : GoodIn wsL_law (va_wsS RL 127 yL_read wsL_read) := goodIn_app (goodIn_of _ (by decide +kernel)) ggL_law_L_read
set_option maxRecDepth 20000 in
theorem ggL_law_X5_read : GoodIn wsL_law wsX5_read := goodIn_r _ [482, 88, 444, 87, 84, 399, 440, 441, 442, 5, 443, 445, 446, 447, 448, 449, 450, 451, 452, 453, 454, 86, 455, 456, 457, 458, 178, 179, 180, 459, 460, 461, 462, 224, 225, 226, 227, 228, 85, 181, 182, 183, 184, 185, 186, 187, 188, 189, 190, 191, 192, 193, 194, 195, 196, 197, 198, 199, 200, 201, 202, 203, 204, 205, 206, 207, 208, 209, 210, 211, 212, 213, 214, 215, 216, 217, 218, 219, 220, 221, 222, 223, 850, 851, 852, 853, 854, 855, 856, 857, 858, 859, 860, 861, 862] (by decide +kernel) (by decide +kernel)
set_option maxRecDepth 20000 in
theorem gL_law_X5_read : GoodIn wsL_law (wsV RL 129 RX5 yX5_read wsX5_read) := goodIn_app (goodIn_of _ (by decide +kernel)) ggL_law_X5_read
set_option maxRecDepth 20000 in
theorem ggL_law_L_undo : GoodIn wsL_law wsL_undo := goodIn_ca (goodIn_r _ [485, 94, 486, 487, 488, 2, 489, 101, 102, 23, 20, 22, 134, 135, 136, 137, 21, 138, 139, 140, 141, 142, 143, 144, 19, 145, 60, 61, 58, 59, 117, 118, 119, 120, 56, 146, 147, 148, 149, 842, 843, 844, 845, 846, 847, 848, 849, 868, 869, 870, 871, 872] (by decide +kernel) (by decide +kernel)) (goodIn_sub (fun _ h => List.mem_append_left _ (List.mem_append_right _ h)) (by decide +kernel))
set_option maxRecDepth 20000 in
theorem gL_law_L_undo : GoodIn wsL_law (va_wsS RL 130 yL_undo wsL_undo) := goodIn_app (goodIn_of _ (by decide +kernel)) ggL_law_L_undo
set_option maxRecDepth 20000 in
theorem ggL_law_X5_undo : GoodIn wsL_law wsX5_undo := goodIn_r _ [493, 228, 88, 84, 85, 850, 851, 852, 853, 854, 855, 856, 857, 858, 859, 860, 861, 862] (by decide +kernel) (by decide +kernel)
set_option maxRecDepth 20000 in
theorem gL_law_X5_undo : GoodIn wsL_law (wsV RL 132 RX5 yX5_undo wsX5_undo) := goodIn_app (goodIn_of _ (by decide +kernel)) ggL_law_X5_undo
set_option maxRecDepth 20000 in
theorem ggL_law_L_condition : GoodIn wsL_law wsL_condition := goodIn_ca (goodIn_ca (goodIn_r _ [496, 236, 93, 497, 498, 499, 2, 500, 241, 242, 99, 100, 20, 243, 244, 245, 19, 246, 60, 283, 118, 119, 120, 58, 56, 267, 268, 269, 270, 61, 271, 115, 116, 123, 124, 125, 16, 126, 42, 266, 501, 147, 148, 149, 59, 370, 371, 372, 373, 374, 375, 376, 304, 305, 306, 307, 300, 301, 302, 303, 146, 308, 309, 310, 311, 34, 312, 313, 314, 33, 315, 78, 79, 316, 317, 318, 319, 44, 45, 48, 49, 46, 47, 50, 51, 320, 321, 322, 323, 324, 325, 326, 327, 328, 43, 170, 842, 843, 844, 845, 846, 847, 848, 849, 863, 864, 865, 866, 867, 868, 869, 870, 871, 872, 877, 878] (by decide +kernel) (by decide +kernel)) (goodIn_sub (fun _ h => List.mem_append_right _ h) (by decide +kernel))) (goodIn_sub (fun _ h => List.mem_append_left _ (List.mem_append_left _ (List.mem_append_right _ h))) (by decide +kernel))
set_option maxRecDepth 20000 in
theorem gL_law_L_condition : GoodIn wsL_law (va_wsS RL 133 yL_condition wsL_condition) := goodIn_app (goodIn_of _ (by decide +kernel)) ggL_law_L_condition
set_option maxRecDepth 20000 in
theorem ggL_law_X5_condition : GoodIn wsL_law wsX5_condition := goodIn_r _ [505, 88, 255, 256, 257, 5, 258, 84, 178, 179, 180, 506, 507, 508, 509, 206, 207, 208, 209, 197, 198, 199, 200, 210, 211, 212, 213, 214, 215, 216, 289, 290, 291, 292, 510, 511, 512, 513, 193, 194, 195, 196, 337, 338, 339, 340, 341, 342, 343, 344, 189, 190, 191, 192, 345, 346, 347, 348, 349, 350, 351, 352, 353, 354, 333, 334, 335, 336, 355, 356, 357, 358, 217, 218, 219, 850, 851, 852, 853, 854, 855, 856, 857, 858, 859, 860, 861, 862] (by decide +kernel) (by decide +kernel)
set_option maxRecDepth 20000 in
theorem gL_law_X5_condition : GoodIn wsL_law (wsV RL 136 RX5 yX5_condition wsX5_condition) := goodIn_app (goodIn_of _ (by decide +kernel)) ggL_law_X5_condition
set_option maxRecDepth 20000 in
theorem ggL_law_L_agrees : GoodIn wsL_law wsL_agrees := goodIn_ca (goodIn_r _ [516, 236, 517, 518, 519, 2, 520, 241, 242, 20, 243, 244, 245, 19, 246, 60, 501, 147, 148, 149, 59, 266, 115, 116, 842, 843, 844, 845, 846, 847, 848, 849, 868, 869, 870, 871, 872] (by decide +kernel) (by decide +kernel)) (goodIn_sub (fun _ h => List.mem_append_right _ h) (by decide +kernel))
set_option maxRecDepth 20000 in
theorem gL_law_L_agrees : GoodIn wsL_law (va_wsS RL 137 yL_agrees wsL_agrees) := goodIn_app (goodIn_of _ (by decide +kernel)) ggL_law_L_agrees
set_option maxRecDepth 20000 in
theorem ggL_law_X5_agrees : GoodIn wsL_law wsX5_agrees := goodIn_r _ [524, 88, 255, 256, 257, 5, 258, 84, 337, 338, 339, 340, 206, 207, 208, 209, 197, 198, 199, 200, 210, 211, 212, 213, 214, 215, 216, 289, 290, 291, 292, 850, 851, 852, 853, 854, 855, 856, 857, 858, 859, 860, 861, 862] (by decide +kernel) (by decide +kernel)
set_option maxRecDepth 20000 in
theorem gL_law_X5_agrees : GoodIn wsL_law (wsV RL 139 RX5 yX5_agrees wsX5_agrees) := goodIn_app (goodIn_of _ (by decide +kernel)) ggL_law_X5_agrees
set_option maxRecDepth 20000 in
theorem ggL_law_L_joined : GoodIn wsL_law wsL_joined := goodIn_ca (goodIn_r _ [527, 93, 528, 529, 530, 2, 531, 99, 100, 20, 532, 533, 534, 535, 536, 300, 301, 302, 19, 303, 60, 115, 116, 146, 147, 148, 149, 59, 308, 309, 310, 311, 34, 312, 313, 314, 33, 315, 78, 79, 266, 283, 118, 119, 120, 58, 56, 316, 317, 318, 319, 44, 45, 48, 49, 46, 47, 50, 51, 842, 843, 844, 845, 846, 847, 848, 849, 868, 869, 870, 871, 872, 877, 878, 863, 864, 865, 866, 867] (by decide +kernel) (by decide +kernel)) (goodIn_sub (fun _ h => List.mem_append_left _ (List.mem_append_left _ (List.mem_append_right _ h))) (by decide +kernel))
set_option maxRecDepth 20000 in
theorem gL_law_L_joined : GoodIn wsL_law (va_wsS RL 140 yL_joined wsL_joined) := goodIn_app (goodIn_of _ (by decide +kernel)) ggL_law_L_joined
set_option maxRecDepth 20000 in
theorem ggL_law_X5_joined : GoodIn wsL_law wsX5_joined := goodIn_r _ [540, 88, 178, 179, 5, 180, 189, 190, 191, 192, 84, 193, 194, 195, 196, 197, 198, 199, 200, 541, 542, 543, 544, 545, 349, 350, 351, 352, 353, 354, 333, 334, 335, 336, 337, 338, 339, 340, 206, 207, 208, 209, 210, 211, 212, 213, 214, 215, 216, 289, 290, 291, 292, 355, 356, 357, 358, 217, 218, 219, 850, 851, 852, 853, 854, 855, 856, 857, 858, 859, 860, 861, 862] (by decide +kernel) (by decide +kernel)
set_option maxRecDepth 20000 in
theorem gL_law_X5_joined : GoodIn wsL_law (wsV RL 142 RX5 yX5_joined wsX5_joined) := goodIn_app (goodIn_of _ (by decide +kernel)) ggL_law_X5_joined
set_option maxRecDepth 20000 in
theorem ggL_law_L_count : GoodIn wsL_law wsL_count := goodIn_ca (goodIn_r _ [548, 93, 549, 550, 551, 2, 552, 99, 100, 20, 23, 370, 371, 372, 373, 374, 375, 376, 553, 554, 555, 19, 556, 60, 117, 118, 119, 120, 58, 56, 557, 124, 125, 16, 126, 42, 558, 559, 560, 561, 115, 116, 146, 147, 148, 149, 59, 562, 300, 301, 302, 303, 563, 564, 565, 566, 304, 305, 306, 307, 266, 267, 268, 269, 270, 61, 271, 244, 245, 246, 308, 309, 310, 311, 34, 312, 313, 314, 33, 315, 78, 79, 283, 316, 317, 318, 319, 44, 45, 48, 49, 46, 47, 50, 51, 320, 321, 322, 323, 324, 325, 326, 327, 328, 43, 170, 842, 843, 844, 845, 846, 847, 848, 849, 868, 869, 870, 871, 872, 863, 864, 865, 866, 867, 877, 878] (by decide +kernel) (by decide +kernel)) (goodIn_sub (fun _ h => List.mem_append_left _ (List.mem_append_left _ (List.mem_append_right _ h))) (by decide +kernel))
set_option maxRecDepth 20000 in
theorem gL_law_L_count : GoodIn wsL_law (va_wsS RL 143 yL_count wsL_count) := goodIn_app (goodIn_of _ (by decide +kernel)) ggL_law_L_count
set_option maxRecDepth 20000 in
theorem ggL_law_X5_count : GoodIn wsL_law wsX5_count := goodIn_r _ [570, 88, 178, 179, 5, 180, 571, 572, 573, 574, 84, 228, 189, 190, 191, 192, 193, 194, 195, 196, 197, 198, 199, 200, 385, 386, 387, 575, 576, 577, 578, 206, 207, 208, 209, 210, 211, 212, 579, 580, 581, 582, 510, 511, 512, 513, 337, 338, 339, 340, 213, 214, 215, 216, 289, 290, 291, 292, 333, 334, 335, 336, 583, 584, 585, 586, 341, 342, 343, 344, 345, 346, 347, 348, 349, 350, 351, 352, 353, 354, 355, 356, 357, 358, 217, 218, 219, 850, 851, 852, 853, 854, 855, 856, 857, 858, 859, 860, 861, 862] (by decide +kernel) (by decide +kernel)
set_option maxRecDepth 20000 in
theorem gL_law_X5_count : GoodIn wsL_law (wsV RL 145 RX5 yX5_count wsX5_count) := goodIn_app (goodIn_of _ (by decide +kernel)) ggL_law_X5_count
set_option maxRecDepth 20000 in
theorem ggL_law_L_prime : GoodIn wsL_law wsL_prime := goodIn_ca (goodIn_r _ [589, 93, 590, 591, 592, 2, 593, 99, 100, 20, 594, 595, 596, 597, 46, 47, 598, 599, 600, 601, 267, 268, 269, 19, 270, 61, 271, 244, 245, 246, 60, 115, 116, 283, 118, 119, 120, 58, 56, 602, 603, 604, 123, 124, 125, 16, 126, 42, 605, 606, 607, 608, 609, 610, 611, 612, 842, 843, 844, 845, 846, 847, 848, 849, 863, 864, 865, 866, 867, 868, 869, 870, 871, 872] (by decide +kernel) (by decide +kernel)) (goodIn_sub (fun _ h => List.mem_append_left _ (List.mem_append_left _ (List.mem_append_right _ h))) (by decide +kernel))
set_option maxRecDepth 20000 in
theorem gL_law_L_prime : GoodIn wsL_law (va_wsS RL 146 yL_prime wsL_prime) := goodIn_app (goodIn_of _ (by decide +kernel)) ggL_law_L_prime
set_option maxRecDepth 20000 in
theorem ggL_law_X5_prime : GoodIn wsL_law wsX5_prime := goodIn_r _ [616, 88, 617, 618, 5, 619, 178, 179, 180, 620, 621, 622, 623, 84, 624, 625, 626, 627, 193, 194, 195, 196, 197, 198, 199, 200, 206, 207, 208, 209, 210, 211, 212, 628, 629, 630, 631, 213, 214, 215, 216, 289, 290, 291, 292, 850, 851, 852, 853, 854, 855, 856, 857, 858, 859, 860, 861, 862] (by decide +kernel) (by decide +kernel)
set_option maxRecDepth 20000 in
theorem gL_law_X5_prime : GoodIn wsL_law (wsV RL 148 RX5 yX5_prime wsX5_prime) := goodIn_app (goodIn_of _ (by decide +kernel)) ggL_law_X5_prime
set_option maxRecDepth 20000 in
theorem ggL_law_L_answer : GoodIn wsL_law wsL_answer := goodIn_ca (goodIn_r _ [634, 93, 635, 636, 637, 2, 638, 99, 100, 20, 536, 639, 640, 641, 110, 300, 301, 302, 19, 303, 60, 115, 116, 146, 147, 148, 149, 59, 308, 309, 310, 311, 34, 312, 313, 314, 33, 315, 78, 79, 266, 283, 118, 119, 120, 58, 56, 316, 317, 318, 319, 44, 45, 48, 49, 46, 47, 50, 51, 642, 643, 644, 645, 842, 843, 844, 845, 846, 847, 848, 849, 868, 869, 870, 871, 872, 877, 878, 863, 864, 865, 866, 867] (by decide +kernel) (by decide +kernel)) (goodIn_sub (fun _ h => List.mem_append_left _ (List.mem_append_left _ (List.mem_append_right _ h))) (by decide +kernel))
set_option maxRecDepth 20000 in
theorem gL_law_L_answer : GoodIn wsL_law (va_wsS RL 151 yL_answer wsL_answer) := goodIn_app (goodIn_of _ (by decide +kernel)) ggL_law_L_answer
set_option maxRecDepth 20000 in
theorem ggL_law_X5_answer : GoodIn wsL_law wsX5_answer := goodIn_r _ [649, 88, 650, 651, 5, 652, 205, 178, 179, 180, 653, 654, 655, 656, 349, 545, 189, 190, 191, 192, 84, 193, 194, 195, 196, 197, 198, 199, 200, 351, 352, 353, 354, 350, 333, 334, 335, 336, 337, 338, 339, 340, 206, 207, 208, 209, 210, 211, 212, 213, 214, 215, 216, 289, 290, 291, 292, 355, 356, 357, 358, 217, 218, 219, 657, 658, 659, 660, 850, 851, 852, 853, 854, 855, 856, 857, 858, 859, 860, 861, 862] (by decide +kernel) (by decide +kernel)
set_option maxRecDepth 20000 in
theorem gL_law_X5_answer : GoodIn wsL_law (wsV RL 154 RX5 yX5_answer wsX5_answer) := goodIn_app (goodIn_of _ (by decide +kernel)) ggL_law_X5_answer
set_option maxRecDepth 20000 in
theorem ggL_law_L_nearest : GoodIn wsL_law wsL_nearest := goodIn_ca (goodIn_r _ [663, 93, 664, 665, 666, 2, 667, 99, 100, 20, 536, 639, 640, 641, 110, 300, 301, 302, 19, 303, 60, 115, 116, 146, 147, 148, 149, 59, 308, 309, 310, 311, 34, 312, 313, 314, 33, 315, 78, 79, 266, 283, 118, 119, 120, 58, 56, 316, 317, 318, 319, 44, 45, 48, 49, 46, 47, 50, 51, 642, 643, 644, 645, 842, 843, 844, 845, 846, 847, 848, 849, 868, 869, 870, 871, 872, 877, 878, 863, 864, 865, 866, 867] (by decide +kernel) (by decide +kernel)) (goodIn_sub (fun _ h => List.mem_append_left _ (List.mem_append_left _ (List.mem_append_right _ h))) (by decide +kernel))
set_option maxRecDepth 20000 in
theorem gL_law_L_nearest : GoodIn wsL_law (va_wsS RL 155 yL_nearest wsL_nearest) := goodIn_app (goodIn_of _ (by decide +kernel)) ggL_law_L_nearest
set_option maxRecDepth 20000 in
theorem ggL_law_X5_nearest : GoodIn wsL_law wsX5_nearest := goodIn_r _ [671, 88, 650, 651, 5, 652, 205, 672, 673, 674, 675, 545, 349, 189, 190, 191, 192, 84, 193, 194, 195, 196, 197, 198, 199, 200, 351, 352, 353, 354, 350, 333, 334, 335, 336, 337, 338, 339, 340, 206, 207, 208, 209, 210, 211, 212, 213, 214, 215, 216, 289, 290, 291, 292, 355, 356, 357, 358, 217, 218, 219, 657, 658, 659, 660, 850, 851, 852, 853, 854, 855, 856, 857, 858, 859, 860, 861, 862] (by decide +kernel) (by decide +kernel)
set_option maxRecDepth 20000 in
theorem gL_law_X5_nearest : GoodIn wsL_law (wsV RL 158 RX5 yX5_nearest wsX5_nearest) := goodIn_app (goodIn_of _ (by decide +kernel)) ggL_law_X5_nearest
set_option maxRecDepth 20000 in
theorem ggL_law_L_between : GoodIn wsL_law wsL_between := goodIn_ca (goodIn_r _ [678, 93, 679, 680, 681, 2, 682, 99, 100, 20, 639, 640, 641, 110, 300, 301, 302, 19, 303, 60, 115, 116, 146, 147, 148, 149, 59, 308, 309, 310, 311, 34, 312, 313, 314, 33, 315, 78, 79, 266, 283, 118, 119, 120, 58, 56, 316, 317, 318, 319, 44, 45, 48, 49, 46, 47, 50, 51, 683, 684, 685, 686, 842, 843, 844, 845, 846, 847, 848, 849, 868, 869, 870, 871, 872, 877, 878, 863, 864, 865, 866, 867] (by decide +kernel) (by decide +kernel)) (goodIn_sub (fun _ h => List.mem_append_left _ (List.mem_append_left _ (List.mem_append_right _ h))) (by decide +kernel))
set_option maxRecDepth 20000 in
theorem gL_law_L_between : GoodIn wsL_law (va_wsS RL 159 yL_between wsL_between) := goodIn_app (goodIn_of _ (by decide +kernel)) ggL_law_L_between
set_option maxRecDepth 20000 in
theorem ggL_law_X5_between : GoodIn wsL_law wsX5_between := goodIn_r _ [690, 88, 650, 651, 5, 652, 205, 691, 692, 693, 694, 349, 189, 190, 191, 192, 84, 193, 194, 195, 196, 197, 198, 199, 200, 351, 352, 353, 354, 350, 333, 334, 335, 336, 337, 338, 339, 340, 206, 207, 208, 209, 210, 211, 212, 213, 214, 215, 216, 289, 290, 291, 292, 355, 356, 357, 358, 217, 218, 219, 657, 658, 659, 660, 850, 851, 852, 853, 854, 855, 856, 857, 858, 859, 860, 861, 862] (by decide +kernel) (by decide +kernel)
set_option maxRecDepth 20000 in
theorem gL_law_X5_between : GoodIn wsL_law (wsV RL 162 RX5 yX5_between wsX5_between) := goodIn_app (goodIn_of _ (by decide +kernel)) ggL_law_X5_between
set_option maxRecDepth 20000 in
theorem ggL_law_L_misses : GoodIn wsL_law wsL_misses := goodIn_ca (goodIn_r _ [697, 93, 698, 699, 700, 2, 701, 99, 100, 20, 639, 640, 641, 110, 267, 268, 269, 19, 270, 61, 271, 244, 245, 246, 60, 115, 116, 283, 118, 119, 120, 58, 56, 702, 326, 327, 16, 328, 42, 43, 170, 124, 125, 126, 46, 47, 842, 843, 844, 845, 846, 847, 848, 849, 868, 869, 870, 871, 872, 863, 864, 865, 866, 867] (by decide +kernel) (by decide +kernel)) (goodIn_sub (fun _ h => List.mem_append_left _ (List.mem_append_left _ (List.mem_append_right _ h))) (by decide +kernel))
set_option maxRecDepth 20000 in
theorem gL_law_L_misses : GoodIn wsL_law (va_wsS RL 163 yL_misses wsL_misses) := goodIn_app (goodIn_of _ (by decide +kernel)) ggL_law_L_misses
set_option maxRecDepth 20000 in
theorem ggL_law_X5_misses : GoodIn wsL_law wsX5_misses := goodIn_r _ [706, 88, 650, 651, 5, 652, 205, 707, 708, 709, 710, 84, 197, 198, 199, 200, 193, 194, 195, 196, 850, 851, 852, 853, 854, 855, 856, 857, 858, 859, 860, 861, 862] (by decide +kernel) (by decide +kernel)
set_option maxRecDepth 20000 in
theorem gL_law_X5_misses : GoodIn wsL_law (wsV RL 165 RX5 yX5_misses wsX5_misses) := goodIn_app (goodIn_of _ (by decide +kernel)) ggL_law_X5_misses
set_option maxRecDepth 20000 in
theorem ggL_law_L_ifAdded : GoodIn wsL_law wsL_ifAdded := goodIn_ca (goodIn_r _ [713, 93, 714, 715, 716, 2, 717, 99, 100, 14, 15, 16, 536, 20, 103, 104, 105, 35, 36, 37, 38, 12, 13, 39, 40, 41, 42, 43, 44, 45, 46, 47, 48, 49, 50, 51, 106, 107, 108, 109, 110, 111, 112, 113, 19, 114, 60, 115, 116, 117, 118, 119, 120, 58, 56, 121, 122, 123, 124, 125, 126, 127, 128, 129, 718, 163, 164, 165, 166, 167, 168, 169, 170, 370, 371, 372, 373, 374, 375, 376, 300, 301, 302, 303, 146, 147, 148, 149, 59, 308, 309, 310, 311, 34, 312, 313, 314, 33, 315, 78, 79, 266, 283, 316, 317, 318, 319, 320, 321, 322, 323, 324, 325, 326, 327, 328, 863, 864, 865, 866, 867, 842, 843, 844, 845, 846, 847, 848, 849, 868, 869, 870, 871, 872, 877, 878] (by decide +kernel) (by decide +kernel)) (goodIn_sub (fun _ h => List.mem_append_left _ (List.mem_append_left _ (List.mem_append_right _ h))) (by decide +kernel))
set_option maxRecDepth 20000 in
theorem gL_law_L_ifAdded : GoodIn wsL_law (va_wsS RL 166 yL_ifAdded wsL_ifAdded) := goodIn_app (goodIn_of _ (by decide +kernel)) ggL_law_L_ifAdded
set_option maxRecDepth 20000 in
theorem ggL_law_X5_ifAdded : GoodIn wsL_law wsX5_ifAdded := goodIn_r _ [722, 88, 175, 176, 5, 177, 178, 179, 180, 723, 724, 725, 726, 545, 84, 181, 182, 183, 184, 185, 186, 187, 188, 189, 190, 191, 192, 193, 194, 195, 196, 197, 198, 199, 200, 201, 202, 203, 204, 205, 206, 207, 208, 209, 210, 211, 212, 213, 214, 215, 216, 217, 218, 219, 220, 221, 222, 223, 541, 542, 543, 544, 349, 350, 351, 352, 353, 354, 333, 334, 335, 336, 337, 338, 339, 340, 289, 290, 291, 292, 355, 356, 357, 358, 510, 511, 512, 513, 345, 346, 347, 348, 850, 851, 852, 853, 854, 855, 856, 857, 858, 859, 860, 861, 862] (by decide +kernel) (by decide +kernel)
set_option maxRecDepth 20000 in
theorem gL_law_X5_ifAdded : GoodIn wsL_law (wsV RL 169 RX5 yX5_ifAdded wsX5_ifAdded) := goodIn_app (goodIn_of _ (by decide +kernel)) ggL_law_X5_ifAdded
set_option maxRecDepth 20000 in
theorem ggL_law_L_without : GoodIn wsL_law wsL_without := goodIn_ca (goodIn_ca (goodIn_r _ [729, 236, 93, 730, 731, 732, 2, 733, 241, 242, 99, 100, 20, 243, 244, 245, 19, 246, 60, 266, 115, 116, 532, 533, 534, 535, 536, 300, 301, 302, 303, 146, 147, 148, 149, 59, 308, 309, 310, 311, 34, 312, 313, 314, 33, 315, 78, 79, 283, 118, 119, 120, 58, 56, 316, 317, 318, 319, 44, 45, 48, 49, 46, 47, 50, 51, 842, 843, 844, 845, 846, 847, 848, 849, 868, 869, 870, 871, 872, 877, 878, 863, 864, 865, 866, 867] (by decide +kernel) (by decide +kernel)) (goodIn_sub (fun _ h => List.mem_append_right _ h) (by decide +kernel))) (goodIn_sub (fun _ h => List.mem_append_left _ (List.mem_append_left _ (List.mem_append_right _ h))) (by decide +kernel))
set_option maxRecDepth 20000 in
theorem gL_law_L_without : GoodIn wsL_law (va_wsS RL 170 yL_without wsL_without) := goodIn_app (goodIn_of _ (by decide +kernel)) ggL_law_L_without
set_option maxRecDepth 20000 in
theorem ggL_law_X5_without : GoodIn wsL_law wsX5_without := goodIn_r _ [737, 88, 255, 256, 257, 5, 258, 84, 178, 179, 180, 189, 190, 191, 192, 193, 194, 195, 196, 197, 198, 199, 200, 541, 542, 543, 544, 545, 349, 350, 351, 352, 353, 354, 333, 334, 335, 336, 337, 338, 339, 340, 206, 207, 208, 209, 210, 211, 212, 213, 214, 215, 216, 289, 290, 291, 292, 355, 356, 357, 358, 217, 218, 219, 850, 851, 852, 853, 854, 855, 856, 857, 858, 859, 860, 861, 862] (by decide +kernel) (by decide +kernel)
set_option maxRecDepth 20000 in
theorem gL_law_X5_without : GoodIn wsL_law (wsV RL 172 RX5 yX5_without wsX5_without) := goodIn_app (goodIn_of _ (by decide +kernel)) ggL_law_X5_without
set_option maxRecDepth 20000 in
theorem ggL_law_X4_most : GoodIn wsL_law wsX4_most := goodIn_r _ [369, 20, 266, 115, 2, 116, 370, 371, 372, 373, 374, 375, 376, 300, 301, 302, 19, 303, 60, 146, 147, 148, 149, 59, 842, 843, 844, 845, 846, 847, 848, 849, 868, 869, 870, 871, 872] (by decide +kernel) (by decide +kernel)
set_option maxRecDepth 20000 in
theorem gL_law_X4_most : GoodIn wsL_law (wsV RL 173 RX4 yX4_most wsX4_most) := goodIn_app (goodIn_of _ (by decide +kernel)) ggL_law_X4_most
set_option maxRecDepth 20000 in
theorem ggL_law_X5_most : GoodIn wsL_law wsX5_most := goodIn_r _ [742, 88, 381, 382, 383, 5, 384, 84, 385, 386, 387, 333, 334, 335, 336, 337, 338, 339, 340, 206, 207, 208, 209, 197, 198, 199, 200, 210, 211, 212, 213, 214, 215, 216, 289, 290, 291, 292, 850, 851, 852, 853, 854, 855, 856, 857, 858, 859, 860, 861, 862] (by decide +kernel) (by decide +kernel)
set_option maxRecDepth 20000 in
theorem gL_law_X5_most : GoodIn wsL_law (wsV RL 176 RX5 yX5_most wsX5_most) := goodIn_app (goodIn_of _ (by decide +kernel)) ggL_law_X5_most
set_option maxRecDepth 20000 in
theorem ggL_law_X4_blame : GoodIn wsL_law wsX4_blame := goodIn_r _ [746, 20, 267, 268, 269, 19, 270, 61, 271, 244, 245, 246, 60, 115, 2, 116, 501, 147, 148, 149, 59, 370, 371, 372, 373, 374, 375, 376, 842, 843, 844, 845, 846, 847, 848, 849, 868, 869, 870, 871, 872] (by decide +kernel) (by decide +kernel)
set_option maxRecDepth 20000 in
theorem gL_law_X4_blame : GoodIn wsL_law (wsV RL 177 RX4 yX4_blame wsX4_blame) := goodIn_app (goodIn_of _ (by decide +kernel)) ggL_law_X4_blame
set_option maxRecDepth 20000 in
theorem ggL_law_X5_blame : GoodIn wsL_law wsX5_blame := goodIn_r _ [750, 88, 751, 752, 753, 5, 754, 84, 193, 194, 195, 196, 197, 198, 199, 200, 206, 207, 208, 209, 210, 211, 212, 189, 190, 191, 192, 385, 386, 387, 510, 511, 512, 513, 337, 338, 339, 340, 213, 214, 215, 216, 289, 290, 291, 292, 850, 851, 852, 853, 854, 855, 856, 857, 858, 859, 860, 861, 862] (by decide +kernel) (by decide +kernel)
set_option maxRecDepth 20000 in
theorem gL_law_X5_blame : GoodIn wsL_law (wsV RL 180 RX5 yX5_blame wsX5_blame) := goodIn_app (goodIn_of _ (by decide +kernel)) ggL_law_X5_blame
set_option maxRecDepth 20000 in
theorem ggL_law_X4_density : GoodIn wsL_law wsX4_density := goodIn_r _ [758, 20, 300, 301, 302, 19, 303, 60, 115, 2, 116, 146, 147, 148, 149, 59, 308, 309, 310, 311, 34, 312, 313, 314, 33, 315, 78, 79, 266, 283, 118, 119, 120, 58, 56, 316, 317, 318, 319, 44, 45, 48, 49, 46, 47, 50, 51, 842, 843, 844, 845, 846, 847, 848, 849, 868, 869, 870, 871, 872, 877, 878, 863, 864, 865, 866, 867] (by decide +kernel) (by decide +kernel)
set_option maxRecDepth 20000 in
theorem gL_law_X4_density : GoodIn wsL_law (wsV RL 181 RX4 yX4_density wsX4_density) := goodIn_app (goodIn_of _ (by decide +kernel)) ggL_law_X4_density
set_option maxRecDepth 20000 in
theorem ggL_law_X5_density : GoodIn wsL_law wsX5_density := goodIn_r _ [762, 88, 763, 764, 765, 5, 766, 349, 189, 190, 191, 192, 84, 193, 194, 195, 196, 197, 198, 199, 200, 351, 352, 353, 354, 350, 333, 334, 335, 336, 337, 338, 339, 340, 206, 207, 208, 209, 210, 211, 212, 213, 214, 215, 216, 289, 290, 291, 292, 355, 356, 357, 358, 217, 218, 219, 850, 851, 852, 853, 854, 855, 856, 857, 858, 859, 860, 861, 862] (by decide +kernel) (by decide +kernel)
set_option maxRecDepth 20000 in
theorem gL_law_X5_density : GoodIn wsL_law (wsV RL 185 RX5 yX5_density wsX5_density) := goodIn_app (goodIn_of _ (by decide +kernel)) ggL_law_X5_density
set_option maxRecDepth 20000 in
theorem ggL_law_X5_digest : GoodIn wsL_law wsX5_digest := goodIn_r _ [815, 88, 816, 817, 84, 818, 819, 820, 821, 399, 86, 571, 572, 573, 5, 574, 228, 189, 190, 191, 192, 193, 194, 195, 196, 197, 198, 199, 200, 385, 386, 387, 575, 576, 577, 578, 206, 207, 208, 209, 210, 211, 212, 579, 580, 581, 582, 510, 511, 512, 513, 337, 338, 339, 340, 213, 214, 215, 216, 289, 290, 291, 292, 333, 334, 335, 336, 583, 584, 585, 586, 341, 342, 343, 344, 345, 346, 347, 348, 349, 350, 351, 352, 353, 354, 355, 356, 357, 358, 217, 218, 219, 822, 823, 824, 825, 826, 541, 542, 543, 544, 545, 827, 828, 829, 830, 506, 507, 508, 509, 831, 832, 833, 834, 617, 618, 619, 178, 179, 180, 620, 621, 622, 623, 624, 625, 626, 627, 628, 629, 630, 631, 653, 654, 655, 656, 657, 658, 659, 660, 672, 673, 674, 675, 691, 692, 693, 694, 707, 708, 709, 710, 723, 724, 725, 726, 181, 182, 183, 184, 185, 186, 187, 188, 201, 202, 203, 204, 205, 220, 221, 222, 223, 381, 382, 383, 384, 751, 752, 753, 754, 763, 764, 765, 766, 835, 836, 837, 838, 839, 840, 841, 850, 851, 852, 853, 854, 855, 856, 857, 858, 859, 860, 861, 862] (by decide +kernel) (by decide +kernel)
set_option maxRecDepth 20000 in
theorem gL_law_X5_digest : GoodIn wsL_law (wsV RL 190 RX5 yX5_digest wsX5_digest) := goodIn_app (goodIn_of _ (by decide +kernel)) ggL_law_X5_digest

set_option maxRecDepth 20000 in
theorem ggX4_init_X0_init : GoodIn wsX4_init wsX0_init := goodIn_r _ [27, 28, 2, 3, 29, 30, 31, 32, 33, 34, 35, 36, 37, 38, 39, 40, 41, 42, 71, 72, 73, 74, 75] (by decide +kernel) (by decide +kernel)
set_option maxRecDepth 20000 in
theorem gX4_init_X0_init : GoodIn wsX4_init (wsX0_init) := ggX4_init_X0_init
set_option maxRecDepth 20000 in
theorem ggX4_init_X3_init : GoodIn wsX4_init wsX3_init := goodIn_r _ [45, 46, 2, 3, 47, 48, 49, 14, 50, 51, 52, 76, 77, 78, 79, 80] (by decide +kernel) (by decide +kernel)
set_option maxRecDepth 20000 in
theorem gX4_init_X3_init : GoodIn wsX4_init (wsX3_init) := ggX4_init_X3_init
set_option maxRecDepth 20000 in
theorem ggX4_init_X2_init : GoodIn wsX4_init wsX2_init := goodIn_r _ [55, 56, 2, 3, 57, 58, 59, 19, 60, 61, 62, 63, 64, 89, 90, 91, 92] (by decide +kernel) (by decide +kernel)
set_option maxRecDepth 20000 in
theorem gX4_init_X2_init : GoodIn wsX4_init (wsX2_init) := ggX4_init_X2_init
set_option maxRecDepth 20000 in
theorem ggX4_init_X1_init : GoodIn wsX4_init wsX1_init := goodIn_r _ [67, 68, 2, 3, 69, 70, 93, 94] (by decide +kernel) (by decide +kernel)
set_option maxRecDepth 20000 in
theorem gX4_init_X1_init : GoodIn wsX4_init (wsX1_init) := ggX4_init_X1_init
theorem dX4_init_0 : decode cX4_init 0 = .ok (.aload_n 0, 1) := by decide +kernel
theorem dX4_init_1 : decode cX4_init 1 = .ok (.invokespecial 1, 3) := by decide +kernel
theorem dX4_init_4 : decode cX4_init 4 = .ok (.new 7, 3) := by decide +kernel
theorem dX4_init_7 : decode cX4_init 7 = .ok (.dup, 1) := by decide +kernel
theorem dX4_init_8 : decode cX4_init 8 = .ok (.iconst 1, 1) := by decide +kernel
theorem dX4_init_9 : decode cX4_init 9 = .ok (.iconst 0, 1) := by decide +kernel
theorem dX4_init_10 : decode cX4_init 10 = .ok (.iconst 1, 1) := by decide +kernel
theorem dX4_init_11 : decode cX4_init 11 = .ok (.invokespecial 9, 3) := by decide +kernel
theorem dX4_init_14 : decode cX4_init 14 = .ok (.astore_n 1, 1) := by decide +kernel
theorem dX4_init_15 : decode cX4_init 15 = .ok (.aload_n 0, 1) := by decide +kernel
theorem dX4_init_16 : decode cX4_init 16 = .ok (.new 12, 3) := by decide +kernel
theorem dX4_init_19 : decode cX4_init 19 = .ok (.dup, 1) := by decide +kernel
theorem dX4_init_20 : decode cX4_init 20 = .ok (.aload_n 1, 1) := by decide +kernel
theorem dX4_init_21 : decode cX4_init 21 = .ok (.invokespecial 14, 3) := by decide +kernel
theorem dX4_init_24 : decode cX4_init 24 = .ok (.putfield 17, 3) := by decide +kernel
theorem dX4_init_27 : decode cX4_init 27 = .ok (.aload_n 0, 1) := by decide +kernel
theorem dX4_init_28 : decode cX4_init 28 = .ok (.bipush 6, 2) := by decide +kernel
theorem dX4_init_30 : decode cX4_init 30 = .ok (.anewarray 12, 3) := by decide +kernel
theorem dX4_init_33 : decode cX4_init 33 = .ok (.putfield 23, 3) := by decide +kernel
theorem dX4_init_36 : decode cX4_init 36 = .ok (.iconst 0, 1) := by decide +kernel
theorem dX4_init_37 : decode cX4_init 37 = .ok (.istore_n 2, 1) := by decide +kernel
theorem dX4_init_38 : decode cX4_init 38 = .ok (.iload_n 2, 1) := by decide +kernel
theorem dX4_init_39 : decode cX4_init 39 = .ok (.aload_n 0, 1) := by decide +kernel
theorem dX4_init_40 : decode cX4_init 40 = .ok (.getfield 23, 3) := by decide +kernel
theorem dX4_init_43 : decode cX4_init 43 = .ok (.arraylength, 1) := by decide +kernel
theorem dX4_init_44 : decode cX4_init 44 = .ok (.if_icmp .ge 23, 3) := by decide +kernel
theorem dX4_init_47 : decode cX4_init 47 = .ok (.aload_n 0, 1) := by decide +kernel
theorem dX4_init_48 : decode cX4_init 48 = .ok (.getfield 23, 3) := by decide +kernel
theorem dX4_init_51 : decode cX4_init 51 = .ok (.iload_n 2, 1) := by decide +kernel
theorem dX4_init_52 : decode cX4_init 52 = .ok (.new 12, 3) := by decide +kernel
theorem dX4_init_55 : decode cX4_init 55 = .ok (.dup, 1) := by decide +kernel
theorem dX4_init_56 : decode cX4_init 56 = .ok (.aload_n 1, 1) := by decide +kernel
theorem dX4_init_57 : decode cX4_init 57 = .ok (.invokespecial 14, 3) := by decide +kernel
theorem dX4_init_60 : decode cX4_init 60 = .ok (.aastore, 1) := by decide +kernel
theorem dX4_init_61 : decode cX4_init 61 = .ok (.iinc 2 1, 3) := by decide +kernel
theorem dX4_init_64 : decode cX4_init 64 = .ok (.goto (-26), 3) := by decide +kernel
theorem dX4_init_67 : decode cX4_init 67 = .ok (.aload_n 0, 1) := by decide +kernel
theorem dX4_init_68 : decode cX4_init 68 = .ok (.iconst 0, 1) := by decide +kernel
theorem dX4_init_69 : decode cX4_init 69 = .ok (.putfield 27, 3) := by decide +kernel
theorem dX4_init_72 : decode cX4_init 72 = .ok (.aload_n 0, 1) := by decide +kernel
theorem dX4_init_73 : decode cX4_init 73 = .ok (.iconst 0, 1) := by decide +kernel
theorem dX4_init_74 : decode cX4_init 74 = .ok (.putfield 31, 3) := by decide +kernel
theorem dX4_init_77 : decode cX4_init 77 = .ok (.aload_n 0, 1) := by decide +kernel
theorem dX4_init_78 : decode cX4_init 78 = .ok (.bipush 60, 2) := by decide +kernel
theorem dX4_init_80 : decode cX4_init 80 = .ok (.newarray .int, 2) := by decide +kernel
theorem dX4_init_82 : decode cX4_init 82 = .ok (.putfield 34, 3) := by decide +kernel
theorem dX4_init_85 : decode cX4_init 85 = .ok (.aload_n 0, 1) := by decide +kernel
theorem dX4_init_86 : decode cX4_init 86 = .ok (.iconst 0, 1) := by decide +kernel
theorem dX4_init_87 : decode cX4_init 87 = .ok (.putfield 38, 3) := by decide +kernel
theorem dX4_init_90 : decode cX4_init 90 = .ok (.aload_n 0, 1) := by decide +kernel
theorem dX4_init_91 : decode cX4_init 91 = .ok (.new 41, 3) := by decide +kernel
theorem dX4_init_94 : decode cX4_init 94 = .ok (.dup, 1) := by decide +kernel
theorem dX4_init_95 : decode cX4_init 95 = .ok (.invokespecial 43, 3) := by decide +kernel
theorem dX4_init_98 : decode cX4_init 98 = .ok (.putfield 44, 3) := by decide +kernel
theorem dX4_init_101 : decode cX4_init 101 = .ok (.aload_n 0, 1) := by decide +kernel
theorem dX4_init_102 : decode cX4_init 102 = .ok (.new 48, 3) := by decide +kernel
theorem dX4_init_105 : decode cX4_init 105 = .ok (.dup, 1) := by decide +kernel
theorem dX4_init_106 : decode cX4_init 106 = .ok (.invokespecial 50, 3) := by decide +kernel
theorem dX4_init_109 : decode cX4_init 109 = .ok (.putfield 51, 3) := by decide +kernel
theorem dX4_init_112 : decode cX4_init 112 = .ok (.return_, 1) := by decide +kernel
set_option maxRecDepth 20000 in
theorem ggX4_add_X4_areParts : GoodIn wsX4_add wsX4_areParts := goodIn_r _ [12] (by decide +kernel) (by decide +kernel)
set_option maxRecDepth 20000 in
theorem gX4_add_X4_areParts : GoodIn wsX4_add (va_wsS RX4 55 yX4_areParts wsX4_areParts) := goodIn_app (goodIn_of _ (by decide +kernel)) ggX4_add_X4_areParts
set_option maxRecDepth 20000 in
theorem ggX4_add_X0_init : GoodIn wsX4_add wsX0_init := goodIn_r _ [15, 16, 17, 18, 19, 20, 21, 22, 23, 24, 11, 25, 26, 27, 28, 29, 30, 31, 106, 107, 108, 109, 110] (by decide +kernel) (by decide +kernel)
set_option maxRecDepth 20000 in
theorem gX4_add_X0_init : GoodIn wsX4_add (wsX0_init) := ggX4_add_X0_init
set_option maxRecDepth 20000 in
theorem ggX4_add_X4_isRefused : GoodIn wsX4_add wsX4_isRefused := goodIn_r _ [35, 8, 36, 37, 38, 39, 40, 41, 42, 43, 11, 44, 45, 46, 47, 48, 49, 50, 51, 52, 53, 54, 55, 7, 56, 22, 57, 24, 25, 58, 28, 29, 59, 111, 112, 113, 114, 115, 116, 117, 118, 119, 120, 121, 122, 123, 106, 107, 108, 109, 110] (by decide +kernel) (by decide +kernel)
set_option maxRecDepth 20000 in
theorem gX4_add_X4_isRefused : GoodIn wsX4_add (wsV RX4 66 RX4 yX4_isRefused wsX4_isRefused) := goodIn_app (goodIn_of _ (by decide +kernel)) ggX4_add_X4_isRefused
set_option maxRecDepth 20000 in
theorem ggX4_add_X4_save : GoodIn wsX4_add wsX4_save := goodIn_r _ [63, 64, 65, 8, 66, 67, 68, 11, 69, 70, 71, 72, 73, 74, 75, 76, 77, 40, 78, 42, 79, 49, 80, 45, 46, 47, 48, 50, 81, 82, 83, 84, 111, 112, 113, 114, 115, 116, 117, 118, 119, 120, 121, 122, 123] (by decide +kernel) (by decide +kernel)
set_option maxRecDepth 20000 in
theorem gX4_add_X4_save : GoodIn wsX4_add (wsV RX4 75 RX4 yX4_save wsX4_save) := goodIn_app (goodIn_of _ (by decide +kernel)) ggX4_add_X4_save
set_option maxRecDepth 20000 in
theorem ggX4_add_X3_put : GoodIn wsX4_add wsX3_put := goodIn_r _ [88, 42, 79, 89, 90, 91, 40, 92, 49, 43, 11, 44, 93, 94, 95, 96, 80, 45, 46, 47, 48, 50, 97, 98, 99, 100, 101, 102, 103, 7, 104, 22, 23, 105, 54, 55, 56, 24, 25, 26, 27, 119, 120, 121, 122, 123, 106, 107, 108, 109, 110] (by decide +kernel) (by decide +kernel)
set_option maxRecDepth 20000 in
theorem gX4_add_X3_put : GoodIn wsX4_add (wsV RX4 78 RX3 yX3_put wsX3_put) := goodIn_app (goodIn_of _ (by decide +kernel)) ggX4_add_X3_put
theorem dX4_add_0 : decode cX4_add 0 = .ok (.iload_n 1, 1) := by decide +kernel
theorem dX4_add_1 : decode cX4_add 1 = .ok (.iload_n 2, 1) := by decide +kernel
theorem dX4_add_2 : decode cX4_add 2 = .ok (.iload_n 3, 1) := by decide +kernel
theorem dX4_add_3 : decode cX4_add 3 = .ok (.invokestatic 55, 3) := by decide +kernel
theorem dX4_add_6 : decode cX4_add 6 = .ok (.ifCond .ne 13, 3) := by decide +kernel
theorem dX4_add_9 : decode cX4_add 9 = .ok (.new 59, 3) := by decide +kernel
theorem dX4_add_12 : decode cX4_add 12 = .ok (.dup, 1) := by decide +kernel
theorem dX4_add_13 : decode cX4_add 13 = .ok (.ldc 61, 2) := by decide +kernel
theorem dX4_add_15 : decode cX4_add 15 = .ok (.invokespecial 63, 3) := by decide +kernel
theorem dX4_add_18 : decode cX4_add 18 = .ok (.athrow, 1) := by decide +kernel
theorem dX4_add_19 : decode cX4_add 19 = .ok (.new 7, 3) := by decide +kernel
theorem dX4_add_22 : decode cX4_add 22 = .ok (.dup, 1) := by decide +kernel
theorem dX4_add_23 : decode cX4_add 23 = .ok (.iload_n 1, 1) := by decide +kernel
theorem dX4_add_24 : decode cX4_add 24 = .ok (.iload_n 2, 1) := by decide +kernel
theorem dX4_add_25 : decode cX4_add 25 = .ok (.iload_n 3, 1) := by decide +kernel
theorem dX4_add_26 : decode cX4_add 26 = .ok (.invokespecial 9, 3) := by decide +kernel
theorem dX4_add_29 : decode cX4_add 29 = .ok (.astore 4, 2) := by decide +kernel
theorem dX4_add_31 : decode cX4_add 31 = .ok (.aload_n 0, 1) := by decide +kernel
theorem dX4_add_32 : decode cX4_add 32 = .ok (.aload 4, 2) := by decide +kernel
theorem dX4_add_34 : decode cX4_add 34 = .ok (.invokevirtual 66, 3) := by decide +kernel
theorem dX4_add_37 : decode cX4_add 37 = .ok (.ifCond .eq 13, 3) := by decide +kernel
theorem dX4_add_40 : decode cX4_add 40 = .ok (.new 70, 3) := by decide +kernel
theorem dX4_add_43 : decode cX4_add 43 = .ok (.dup, 1) := by decide +kernel
theorem dX4_add_44 : decode cX4_add 44 = .ok (.ldc 72, 2) := by decide +kernel
theorem dX4_add_46 : decode cX4_add 46 = .ok (.invokespecial 74, 3) := by decide +kernel
theorem dX4_add_49 : decode cX4_add 49 = .ok (.athrow, 1) := by decide +kernel
theorem dX4_add_50 : decode cX4_add 50 = .ok (.aload_n 0, 1) := by decide +kernel
theorem dX4_add_51 : decode cX4_add 51 = .ok (.invokevirtual 75, 3) := by decide +kernel
theorem dX4_add_54 : decode cX4_add 54 = .ok (.aload_n 0, 1) := by decide +kernel
theorem dX4_add_55 : decode cX4_add 55 = .ok (.getfield 17, 3) := by decide +kernel
theorem dX4_add_58 : decode cX4_add 58 = .ok (.aload 4, 2) := by decide +kernel
theorem dX4_add_60 : decode cX4_add 60 = .ok (.invokevirtual 78, 3) := by decide +kernel
theorem dX4_add_63 : decode cX4_add 63 = .ok (.ireturn, 1) := by decide +kernel
set_option maxRecDepth 20000 in
theorem ggX4_remove_X3_has : GoodIn wsX4_remove wsX3_has := goodIn_r _ [8, 9, 83, 84, 85, 86, 87] (by decide +kernel) (by decide +kernel)
set_option maxRecDepth 20000 in
theorem gX4_remove_X3_has : GoodIn wsX4_remove (wsV RX4 82 RX3 yX3_has wsX3_has) := goodIn_app (goodIn_of _ (by decide +kernel)) ggX4_remove_X3_has
set_option maxRecDepth 20000 in
theorem ggX4_remove_X4_save : GoodIn wsX4_remove wsX4_save := goodIn_r _ [14, 15, 16, 3, 17, 18, 19, 13, 20, 21, 22, 23, 24, 25, 26, 27, 28, 7, 29, 9, 30, 31, 32, 33, 34, 35, 36, 37, 38, 39, 40, 41, 75, 76, 77, 78, 79, 80, 81, 82, 83, 84, 85, 86, 87] (by decide +kernel) (by decide +kernel)
set_option maxRecDepth 20000 in
theorem gX4_remove_X4_save : GoodIn wsX4_remove (wsV RX4 75 RX4 yX4_save wsX4_save) := goodIn_app (goodIn_of _ (by decide +kernel)) ggX4_remove_X4_save
set_option maxRecDepth 20000 in
theorem ggX4_remove_X3_drop : GoodIn wsX4_remove wsX3_drop := goodIn_r _ [45, 9, 30, 33, 34, 35, 7, 36, 31, 37, 46, 47, 48, 49, 50, 13, 51, 52, 53, 54, 55, 32, 56, 57, 58, 59, 60, 61, 62, 63, 64, 65, 66, 67, 68, 69, 70, 71, 72, 73, 74, 83, 84, 85, 86, 87, 88, 89, 90, 91, 92] (by decide +kernel) (by decide +kernel)
set_option maxRecDepth 20000 in
theorem gX4_remove_X3_drop : GoodIn wsX4_remove (wsV RX4 91 RX3 yX3_drop wsX3_drop) := goodIn_app (goodIn_of _ (by decide +kernel)) ggX4_remove_X3_drop
theorem dX4_remove_0 : decode cX4_remove 0 = .ok (.aload_n 0, 1) := by decide +kernel
theorem dX4_remove_1 : decode cX4_remove 1 = .ok (.getfield 17, 3) := by decide +kernel
theorem dX4_remove_4 : decode cX4_remove 4 = .ok (.iload_n 1, 1) := by decide +kernel
theorem dX4_remove_5 : decode cX4_remove 5 = .ok (.invokevirtual 82, 3) := by decide +kernel
theorem dX4_remove_8 : decode cX4_remove 8 = .ok (.ifCond .ne 13, 3) := by decide +kernel
theorem dX4_remove_11 : decode cX4_remove 11 = .ok (.new 86, 3) := by decide +kernel
theorem dX4_remove_14 : decode cX4_remove 14 = .ok (.dup, 1) := by decide +kernel
theorem dX4_remove_15 : decode cX4_remove 15 = .ok (.ldc 88, 2) := by decide +kernel
theorem dX4_remove_17 : decode cX4_remove 17 = .ok (.invokespecial 90, 3) := by decide +kernel
theorem dX4_remove_20 : decode cX4_remove 20 = .ok (.athrow, 1) := by decide +kernel
theorem dX4_remove_21 : decode cX4_remove 21 = .ok (.aload_n 0, 1) := by decide +kernel
theorem dX4_remove_22 : decode cX4_remove 22 = .ok (.invokevirtual 75, 3) := by decide +kernel
theorem dX4_remove_25 : decode cX4_remove 25 = .ok (.aload_n 0, 1) := by decide +kernel
theorem dX4_remove_26 : decode cX4_remove 26 = .ok (.getfield 17, 3) := by decide +kernel
theorem dX4_remove_29 : decode cX4_remove 29 = .ok (.iload_n 1, 1) := by decide +kernel
theorem dX4_remove_30 : decode cX4_remove 30 = .ok (.invokevirtual 91, 3) := by decide +kernel
theorem dX4_remove_33 : decode cX4_remove 33 = .ok (.aload_n 0, 1) := by decide +kernel
theorem dX4_remove_34 : decode cX4_remove 34 = .ok (.getfield 17, 3) := by decide +kernel
theorem dX4_remove_37 : decode cX4_remove 37 = .ok (.getfield 95, 3) := by decide +kernel
theorem dX4_remove_40 : decode cX4_remove 40 = .ok (.ireturn, 1) := by decide +kernel
set_option maxRecDepth 20000 in
theorem ggX4_toggle_X3_has : GoodIn wsX4_toggle wsX3_has := goodIn_r _ [11, 12, 79, 80, 81, 82, 83] (by decide +kernel) (by decide +kernel)
set_option maxRecDepth 20000 in
theorem gX4_toggle_X3_has : GoodIn wsX4_toggle (wsV RX4 82 RX3 yX3_has wsX3_has) := goodIn_app (goodIn_of _ (by decide +kernel)) ggX4_toggle_X3_has
set_option maxRecDepth 20000 in
theorem ggX4_toggle_X4_bit : GoodIn wsX4_toggle wsX4_bit := goodIn_r _ [16] (by decide +kernel) (by decide +kernel)
set_option maxRecDepth 20000 in
theorem gX4_toggle_X4_bit : GoodIn wsX4_toggle (va_wsS RX4 101 yX4_bit wsX4_bit) := goodIn_app (goodIn_of _ (by decide +kernel)) ggX4_toggle_X4_bit
set_option maxRecDepth 20000 in
theorem ggX4_toggle_X3_span : GoodIn wsX4_toggle wsX3_span := goodIn_r _ [20, 12, 14, 15, 16, 21, 22, 23, 10, 24, 25, 26, 27, 28, 6, 29, 30, 31, 32, 33, 34, 35, 36, 37, 38, 39, 40, 79, 80, 81, 82, 83, 84, 85, 86, 87, 88] (by decide +kernel) (by decide +kernel)
set_option maxRecDepth 20000 in
theorem gX4_toggle_X3_span : GoodIn wsX4_toggle (wsV RX4 105 RX3 yX3_span wsX3_span) := goodIn_app (goodIn_of _ (by decide +kernel)) ggX4_toggle_X3_span
set_option maxRecDepth 20000 in
theorem ggX4_toggle_X4_save : GoodIn wsX4_toggle wsX4_save := goodIn_r _ [44, 45, 46, 5, 47, 48, 49, 15, 50, 51, 52, 53, 54, 55, 56, 57, 58, 10, 59, 12, 60, 25, 61, 21, 22, 23, 24, 26, 62, 63, 64, 65, 71, 72, 73, 74, 75, 76, 77, 78, 79, 80, 81, 82, 83] (by decide +kernel) (by decide +kernel)
set_option maxRecDepth 20000 in
theorem gX4_toggle_X4_save : GoodIn wsX4_toggle (wsV RX4 75 RX4 yX4_save wsX4_save) := goodIn_app (goodIn_of _ (by decide +kernel)) ggX4_toggle_X4_save
set_option maxRecDepth 20000 in
theorem ggX4_toggle_X3_isOn : GoodIn wsX4_toggle wsX3_isOn := goodIn_r _ [69, 60, 70, 8, 9, 10, 11, 12, 14, 15, 16, 79, 80, 81, 82, 83] (by decide +kernel) (by decide +kernel)
set_option maxRecDepth 20000 in
theorem gX4_toggle_X3_isOn : GoodIn wsX4_toggle (wsV RX4 113 RX3 yX3_isOn wsX3_isOn) := goodIn_app (goodIn_of _ (by decide +kernel)) ggX4_toggle_X3_isOn
theorem dX4_toggle_0 : decode cX4_toggle 0 = .ok (.aload_n 0, 1) := by decide +kernel
theorem dX4_toggle_1 : decode cX4_toggle 1 = .ok (.getfield 17, 3) := by decide +kernel
theorem dX4_toggle_4 : decode cX4_toggle 4 = .ok (.iload_n 1, 1) := by decide +kernel
theorem dX4_toggle_5 : decode cX4_toggle 5 = .ok (.invokevirtual 82, 3) := by decide +kernel
theorem dX4_toggle_8 : decode cX4_toggle 8 = .ok (.ifCond .ne 13, 3) := by decide +kernel
theorem dX4_toggle_11 : decode cX4_toggle 11 = .ok (.new 86, 3) := by decide +kernel
theorem dX4_toggle_14 : decode cX4_toggle 14 = .ok (.dup, 1) := by decide +kernel
theorem dX4_toggle_15 : decode cX4_toggle 15 = .ok (.ldc 88, 2) := by decide +kernel
theorem dX4_toggle_17 : decode cX4_toggle 17 = .ok (.invokespecial 90, 3) := by decide +kernel
theorem dX4_toggle_20 : decode cX4_toggle 20 = .ok (.athrow, 1) := by decide +kernel
theorem dX4_toggle_21 : decode cX4_toggle 21 = .ok (.aload_n 0, 1) := by decide +kernel
theorem dX4_toggle_22 : decode cX4_toggle 22 = .ok (.getfield 17, 3) := by decide +kernel
theorem dX4_toggle_25 : decode cX4_toggle 25 = .ok (.getfield 98, 3) := by decide +kernel
theorem dX4_toggle_28 : decode cX4_toggle 28 = .ok (.iload_n 1, 1) := by decide +kernel
theorem dX4_toggle_29 : decode cX4_toggle 29 = .ok (.invokestatic 101, 3) := by decide +kernel
theorem dX4_toggle_32 : decode cX4_toggle 32 = .ok (.ixor, 1) := by decide +kernel
theorem dX4_toggle_33 : decode cX4_toggle 33 = .ok (.istore_n 2, 1) := by decide +kernel
theorem dX4_toggle_34 : decode cX4_toggle 34 = .ok (.aload_n 0, 1) := by decide +kernel
theorem dX4_toggle_35 : decode cX4_toggle 35 = .ok (.getfield 17, 3) := by decide +kernel
theorem dX4_toggle_38 : decode cX4_toggle 38 = .ok (.iload_n 2, 1) := by decide +kernel
theorem dX4_toggle_39 : decode cX4_toggle 39 = .ok (.invokevirtual 105, 3) := by decide +kernel
theorem dX4_toggle_42 : decode cX4_toggle 42 = .ok (.ldc2_w 109, 3) := by decide +kernel
theorem dX4_toggle_45 : decode cX4_toggle 45 = .ok (.lcmp, 1) := by decide +kernel
theorem dX4_toggle_46 : decode cX4_toggle 46 = .ok (.ifCond .le 13, 3) := by decide +kernel
theorem dX4_toggle_49 : decode cX4_toggle 49 = .ok (.new 70, 3) := by decide +kernel
theorem dX4_toggle_52 : decode cX4_toggle 52 = .ok (.dup, 1) := by decide +kernel
theorem dX4_toggle_53 : decode cX4_toggle 53 = .ok (.ldc 111, 2) := by decide +kernel
theorem dX4_toggle_55 : decode cX4_toggle 55 = .ok (.invokespecial 74, 3) := by decide +kernel
theorem dX4_toggle_58 : decode cX4_toggle 58 = .ok (.athrow, 1) := by decide +kernel
theorem dX4_toggle_59 : decode cX4_toggle 59 = .ok (.aload_n 0, 1) := by decide +kernel
theorem dX4_toggle_60 : decode cX4_toggle 60 = .ok (.invokevirtual 75, 3) := by decide +kernel
theorem dX4_toggle_63 : decode cX4_toggle 63 = .ok (.aload_n 0, 1) := by decide +kernel
theorem dX4_toggle_64 : decode cX4_toggle 64 = .ok (.getfield 17, 3) := by decide +kernel
theorem dX4_toggle_67 : decode cX4_toggle 67 = .ok (.iload_n 2, 1) := by decide +kernel
theorem dX4_toggle_68 : decode cX4_toggle 68 = .ok (.putfield 98, 3) := by decide +kernel
theorem dX4_toggle_71 : decode cX4_toggle 71 = .ok (.aload_n 0, 1) := by decide +kernel
theorem dX4_toggle_72 : decode cX4_toggle 72 = .ok (.getfield 17, 3) := by decide +kernel
theorem dX4_toggle_75 : decode cX4_toggle 75 = .ok (.iload_n 1, 1) := by decide +kernel
theorem dX4_toggle_76 : decode cX4_toggle 76 = .ok (.invokevirtual 113, 3) := by decide +kernel
theorem dX4_toggle_79 : decode cX4_toggle 79 = .ok (.ifCond .eq 7, 3) := by decide +kernel
theorem dX4_toggle_82 : decode cX4_toggle 82 = .ok (.iconst 1, 1) := by decide +kernel
theorem dX4_toggle_83 : decode cX4_toggle 83 = .ok (.goto 4, 3) := by decide +kernel
theorem dX4_toggle_86 : decode cX4_toggle 86 = .ok (.iconst 0, 1) := by decide +kernel
theorem dX4_toggle_87 : decode cX4_toggle 87 = .ok (.ireturn, 1) := by decide +kernel
set_option maxRecDepth 20000 in
theorem ggX4_bare_X3_has : GoodIn wsX4_bare wsX3_has := goodIn_r _ [13, 14, 88, 89, 90, 91, 92] (by decide +kernel) (by decide +kernel)
set_option maxRecDepth 20000 in
theorem gX4_bare_X3_has : GoodIn wsX4_bare (wsV RX4 82 RX3 yX3_has wsX3_has) := goodIn_app (goodIn_of _ (by decide +kernel)) ggX4_bare_X3_has
set_option maxRecDepth 20000 in
theorem ggX4_bare_X3_at : GoodIn wsX4_bare wsX3_at := goodIn_r _ [18, 19, 20, 88, 89, 90, 91, 92] (by decide +kernel) (by decide +kernel)
set_option maxRecDepth 20000 in
theorem gX4_bare_X3_at : GoodIn wsX4_bare (wsV RX4 116 RX3 yX3_at wsX3_at) := goodIn_app (goodIn_of _ (by decide +kernel)) ggX4_bare_X3_at
set_option maxRecDepth 20000 in
theorem ggX4_bare_X0_isVoid : GoodIn wsX4_bare wsX0_isVoid := goodIn_r _ [24, 25, 83, 84, 85, 86, 87] (by decide +kernel) (by decide +kernel)
set_option maxRecDepth 20000 in
theorem gX4_bare_X0_isVoid : GoodIn wsX4_bare (wsV RX4 120 RX0 yX0_isVoid wsX0_isVoid) := goodIn_app (goodIn_of _ (by decide +kernel)) ggX4_bare_X0_isVoid
set_option maxRecDepth 20000 in
theorem ggX4_bare_X4_save : GoodIn wsX4_bare wsX4_save := goodIn_r _ [30, 31, 32, 5, 33, 34, 35, 29, 36, 37, 38, 39, 40, 41, 42, 43, 44, 12, 45, 14, 46, 19, 47, 48, 16, 17, 18, 20, 49, 50, 51, 52, 75, 76, 77, 78, 79, 80, 81, 82, 88, 89, 90, 91, 92] (by decide +kernel) (by decide +kernel)
set_option maxRecDepth 20000 in
theorem gX4_bare_X4_save : GoodIn wsX4_bare (wsV RX4 75 RX4 yX4_save wsX4_save) := goodIn_app (goodIn_of _ (by decide +kernel)) ggX4_bare_X4_save
set_option maxRecDepth 20000 in
theorem ggX4_bare_X0_init : GoodIn wsX4_bare wsX0_init := goodIn_r _ [55, 56, 57, 58, 59, 60, 61, 25, 62, 63, 29, 64, 65, 66, 67, 68, 69, 70, 83, 84, 85, 86, 87] (by decide +kernel) (by decide +kernel)
set_option maxRecDepth 20000 in
theorem gX4_bare_X0_init : GoodIn wsX4_bare (wsX0_init) := ggX4_bare_X0_init
set_option maxRecDepth 20000 in
theorem ggX4_bare_X3_replace : GoodIn wsX4_bare wsX3_replace := goodIn_r _ [74, 19, 88, 89, 90, 91, 92] (by decide +kernel) (by decide +kernel)
set_option maxRecDepth 20000 in
theorem gX4_bare_X3_replace : GoodIn wsX4_bare (wsV RX4 132 RX3 yX3_replace wsX3_replace) := goodIn_app (goodIn_of _ (by decide +kernel)) ggX4_bare_X3_replace
theorem dX4_bare_0 : decode cX4_bare 0 = .ok (.aload_n 0, 1) := by decide +kernel
theorem dX4_bare_1 : decode cX4_bare 1 = .ok (.getfield 17, 3) := by decide +kernel
theorem dX4_bare_4 : decode cX4_bare 4 = .ok (.iload_n 1, 1) := by decide +kernel
theorem dX4_bare_5 : decode cX4_bare 5 = .ok (.invokevirtual 82, 3) := by decide +kernel
theorem dX4_bare_8 : decode cX4_bare 8 = .ok (.ifCond .ne 13, 3) := by decide +kernel
theorem dX4_bare_11 : decode cX4_bare 11 = .ok (.new 86, 3) := by decide +kernel
theorem dX4_bare_14 : decode cX4_bare 14 = .ok (.dup, 1) := by decide +kernel
theorem dX4_bare_15 : decode cX4_bare 15 = .ok (.ldc 88, 2) := by decide +kernel
theorem dX4_bare_17 : decode cX4_bare 17 = .ok (.invokespecial 90, 3) := by decide +kernel
theorem dX4_bare_20 : decode cX4_bare 20 = .ok (.athrow, 1) := by decide +kernel
theorem dX4_bare_21 : decode cX4_bare 21 = .ok (.aload_n 0, 1) := by decide +kernel
theorem dX4_bare_22 : decode cX4_bare 22 = .ok (.getfield 17, 3) := by decide +kernel
theorem dX4_bare_25 : decode cX4_bare 25 = .ok (.iload_n 1, 1) := by decide +kernel
theorem dX4_bare_26 : decode cX4_bare 26 = .ok (.invokevirtual 116, 3) := by decide +kernel
theorem dX4_bare_29 : decode cX4_bare 29 = .ok (.astore_n 2, 1) := by decide +kernel
theorem dX4_bare_30 : decode cX4_bare 30 = .ok (.aload_n 2, 1) := by decide +kernel
theorem dX4_bare_31 : decode cX4_bare 31 = .ok (.invokevirtual 120, 3) := by decide +kernel
theorem dX4_bare_34 : decode cX4_bare 34 = .ok (.ifCond .eq 13, 3) := by decide +kernel
theorem dX4_bare_37 : decode cX4_bare 37 = .ok (.new 70, 3) := by decide +kernel
theorem dX4_bare_40 : decode cX4_bare 40 = .ok (.dup, 1) := by decide +kernel
theorem dX4_bare_41 : decode cX4_bare 41 = .ok (.ldc 124, 2) := by decide +kernel
theorem dX4_bare_43 : decode cX4_bare 43 = .ok (.invokespecial 74, 3) := by decide +kernel
theorem dX4_bare_46 : decode cX4_bare 46 = .ok (.athrow, 1) := by decide +kernel
theorem dX4_bare_47 : decode cX4_bare 47 = .ok (.aload_n 0, 1) := by decide +kernel
theorem dX4_bare_48 : decode cX4_bare 48 = .ok (.invokevirtual 75, 3) := by decide +kernel
theorem dX4_bare_51 : decode cX4_bare 51 = .ok (.aload_n 0, 1) := by decide +kernel
theorem dX4_bare_52 : decode cX4_bare 52 = .ok (.getfield 17, 3) := by decide +kernel
theorem dX4_bare_55 : decode cX4_bare 55 = .ok (.iload_n 1, 1) := by decide +kernel
theorem dX4_bare_56 : decode cX4_bare 56 = .ok (.new 7, 3) := by decide +kernel
theorem dX4_bare_59 : decode cX4_bare 59 = .ok (.dup, 1) := by decide +kernel
theorem dX4_bare_60 : decode cX4_bare 60 = .ok (.iconst 1, 1) := by decide +kernel
theorem dX4_bare_61 : decode cX4_bare 61 = .ok (.aload_n 2, 1) := by decide +kernel
theorem dX4_bare_62 : decode cX4_bare 62 = .ok (.getfield 126, 3) := by decide +kernel
theorem dX4_bare_65 : decode cX4_bare 65 = .ok (.aload_n 2, 1) := by decide +kernel
theorem dX4_bare_66 : decode cX4_bare 66 = .ok (.getfield 129, 3) := by decide +kernel
theorem dX4_bare_69 : decode cX4_bare 69 = .ok (.invokespecial 9, 3) := by decide +kernel
theorem dX4_bare_72 : decode cX4_bare 72 = .ok (.invokevirtual 132, 3) := by decide +kernel
theorem dX4_bare_75 : decode cX4_bare 75 = .ok (.aload_n 2, 1) := by decide +kernel
theorem dX4_bare_76 : decode cX4_bare 76 = .ok (.getfield 129, 3) := by decide +kernel
theorem dX4_bare_79 : decode cX4_bare 79 = .ok (.ireturn, 1) := by decide +kernel
set_option maxRecDepth 20000 in
theorem ggX4_thin_X3_arePossible : GoodIn wsX4_thin wsX3_arePossible := goodIn_r _ [8, 9, 10, 11, 12, 13, 14, 15, 7, 16, 17, 106, 107, 108, 109, 110] (by decide +kernel) (by decide +kernel)
set_option maxRecDepth 20000 in
theorem gX4_thin_X3_arePossible : GoodIn wsX4_thin (wsV RX4 136 RX3 yX3_arePossible wsX3_arePossible) := goodIn_app (goodIn_of _ (by decide +kernel)) ggX4_thin_X3_arePossible
set_option maxRecDepth 20000 in
theorem ggX4_thin_X4_save : GoodIn wsX4_thin wsX4_save := goodIn_r _ [21, 22, 23, 3, 24, 25, 26, 11, 27, 28, 29, 30, 31, 32, 33, 34, 35, 7, 36, 9, 37, 38, 17, 39, 40, 41, 42, 43, 13, 14, 15, 16, 98, 99, 100, 101, 102, 103, 104, 105, 106, 107, 108, 109, 110] (by decide +kernel) (by decide +kernel)
set_option maxRecDepth 20000 in
theorem gX4_thin_X4_save : GoodIn wsX4_thin (wsV RX4 75 RX4 yX4_save wsX4_save) := goodIn_app (goodIn_of _ (by decide +kernel)) ggX4_thin_X4_save
set_option maxRecDepth 20000 in
theorem ggX4_thin_X4_isTold : GoodIn wsX4_thin wsX4_isTold := goodIn_r _ [47, 3, 48, 10, 11, 12, 49, 50, 51, 7, 52, 37, 53, 54, 55, 56, 9, 4, 5, 6, 8, 13, 14, 15, 16, 17, 57, 58, 59, 60, 61, 62, 63, 64, 65, 66, 67, 68, 69, 40, 41, 42, 38, 43, 70, 71, 72, 73, 74, 75, 76, 77, 78, 79, 80, 81, 82, 83, 84, 85, 86, 87, 88, 89, 90, 91, 92, 93, 94, 95, 96, 97, 98, 99, 100, 101, 102, 103, 104, 105, 106, 107, 108, 109, 110, 111, 112, 113, 114, 115, 116, 117] (by decide +kernel) (by decide +kernel)
set_option maxRecDepth 20000 in
theorem gX4_thin_X4_isTold : GoodIn wsX4_thin (wsV RX4 141 RX4 yX4_isTold wsX4_isTold) := goodIn_app (goodIn_of _ (by decide +kernel)) ggX4_thin_X4_isTold
set_option maxRecDepth 20000 in
theorem ggX4_thin_X4_bit : GoodIn wsX4_thin wsX4_bit := goodIn_r _ [12] (by decide +kernel) (by decide +kernel)
set_option maxRecDepth 20000 in
theorem gX4_thin_X4_bit : GoodIn wsX4_thin (va_wsS RX4 101 yX4_bit wsX4_bit) := goodIn_app (goodIn_of _ (by decide +kernel)) ggX4_thin_X4_bit
theorem dX4_thin_0 : decode cX4_thin 0 = .ok (.aload_n 0, 1) := by decide +kernel
theorem dX4_thin_1 : decode cX4_thin 1 = .ok (.getfield 17, 3) := by decide +kernel
theorem dX4_thin_4 : decode cX4_thin 4 = .ok (.aload_n 0, 1) := by decide +kernel
theorem dX4_thin_5 : decode cX4_thin 5 = .ok (.getfield 17, 3) := by decide +kernel
theorem dX4_thin_8 : decode cX4_thin 8 = .ok (.getfield 98, 3) := by decide +kernel
theorem dX4_thin_11 : decode cX4_thin 11 = .ok (.invokevirtual 136, 3) := by decide +kernel
theorem dX4_thin_14 : decode cX4_thin 14 = .ok (.ifCond .ne 13, 3) := by decide +kernel
theorem dX4_thin_17 : decode cX4_thin 17 = .ok (.new 70, 3) := by decide +kernel
theorem dX4_thin_20 : decode cX4_thin 20 = .ok (.dup, 1) := by decide +kernel
theorem dX4_thin_21 : decode cX4_thin 21 = .ok (.ldc 139, 2) := by decide +kernel
theorem dX4_thin_23 : decode cX4_thin 23 = .ok (.invokespecial 74, 3) := by decide +kernel
theorem dX4_thin_26 : decode cX4_thin 26 = .ok (.athrow, 1) := by decide +kernel
theorem dX4_thin_27 : decode cX4_thin 27 = .ok (.aload_n 0, 1) := by decide +kernel
theorem dX4_thin_28 : decode cX4_thin 28 = .ok (.invokevirtual 75, 3) := by decide +kernel
theorem dX4_thin_31 : decode cX4_thin 31 = .ok (.iconst 0, 1) := by decide +kernel
theorem dX4_thin_32 : decode cX4_thin 32 = .ok (.istore_n 1, 1) := by decide +kernel
theorem dX4_thin_33 : decode cX4_thin 33 = .ok (.iconst 0, 1) := by decide +kernel
theorem dX4_thin_34 : decode cX4_thin 34 = .ok (.istore_n 2, 1) := by decide +kernel
theorem dX4_thin_35 : decode cX4_thin 35 = .ok (.iload_n 2, 1) := by decide +kernel
theorem dX4_thin_36 : decode cX4_thin 36 = .ok (.aload_n 0, 1) := by decide +kernel
theorem dX4_thin_37 : decode cX4_thin 37 = .ok (.getfield 17, 3) := by decide +kernel
theorem dX4_thin_40 : decode cX4_thin 40 = .ok (.getfield 95, 3) := by decide +kernel
theorem dX4_thin_43 : decode cX4_thin 43 = .ok (.if_icmp .ge 38, 3) := by decide +kernel
theorem dX4_thin_46 : decode cX4_thin 46 = .ok (.aload_n 0, 1) := by decide +kernel
theorem dX4_thin_47 : decode cX4_thin 47 = .ok (.iload_n 2, 1) := by decide +kernel
theorem dX4_thin_48 : decode cX4_thin 48 = .ok (.invokevirtual 141, 3) := by decide +kernel
theorem dX4_thin_51 : decode cX4_thin 51 = .ok (.ifCond .eq 24, 3) := by decide +kernel
theorem dX4_thin_54 : decode cX4_thin 54 = .ok (.aload_n 0, 1) := by decide +kernel
theorem dX4_thin_55 : decode cX4_thin 55 = .ok (.getfield 17, 3) := by decide +kernel
theorem dX4_thin_58 : decode cX4_thin 58 = .ok (.dup, 1) := by decide +kernel
theorem dX4_thin_59 : decode cX4_thin 59 = .ok (.getfield 98, 3) := by decide +kernel
theorem dX4_thin_62 : decode cX4_thin 62 = .ok (.iload_n 2, 1) := by decide +kernel
theorem dX4_thin_63 : decode cX4_thin 63 = .ok (.invokestatic 101, 3) := by decide +kernel
theorem dX4_thin_66 : decode cX4_thin 66 = .ok (.iconst (-1), 1) := by decide +kernel
theorem dX4_thin_67 : decode cX4_thin 67 = .ok (.ixor, 1) := by decide +kernel
theorem dX4_thin_68 : decode cX4_thin 68 = .ok (.iand, 1) := by decide +kernel
theorem dX4_thin_69 : decode cX4_thin 69 = .ok (.putfield 98, 3) := by decide +kernel
theorem dX4_thin_72 : decode cX4_thin 72 = .ok (.iinc 1 1, 3) := by decide +kernel
theorem dX4_thin_75 : decode cX4_thin 75 = .ok (.iinc 2 1, 3) := by decide +kernel
theorem dX4_thin_78 : decode cX4_thin 78 = .ok (.goto (-43), 3) := by decide +kernel
theorem dX4_thin_81 : decode cX4_thin 81 = .ok (.iload_n 1, 1) := by decide +kernel
theorem dX4_thin_82 : decode cX4_thin 82 = .ok (.ireturn, 1) := by decide +kernel
set_option maxRecDepth 20000 in
theorem ggX4_agree_X4_most : GoodIn wsX4_agree wsX4_most := goodIn_r _ [9, 3, 10, 11, 8, 12, 13, 14, 15, 16, 17, 18, 19, 20, 21, 22, 23, 24, 25, 26, 27, 28, 29, 30, 75, 76, 77, 78, 79, 80, 81, 82, 83, 84, 85, 86, 87] (by decide +kernel) (by decide +kernel)
set_option maxRecDepth 20000 in
theorem gX4_agree_X4_most : GoodIn wsX4_agree (wsV RX4 144 RX4 yX4_most wsX4_most) := goodIn_app (goodIn_of _ (by decide +kernel)) ggX4_agree_X4_most
set_option maxRecDepth 20000 in
theorem ggX4_agree_X3_span : GoodIn wsX4_agree wsX3_span := goodIn_r _ [34, 25, 11, 8, 12, 35, 36, 37, 23, 38, 39, 40, 41, 42, 4, 43, 44, 45, 46, 47, 48, 49, 50, 51, 52, 53, 54, 83, 84, 85, 86, 87, 88, 89, 90, 91, 92] (by decide +kernel) (by decide +kernel)
set_option maxRecDepth 20000 in
theorem gX4_agree_X3_span : GoodIn wsX4_agree (wsV RX4 105 RX3 yX3_span wsX3_span) := goodIn_app (goodIn_of _ (by decide +kernel)) ggX4_agree_X3_span
set_option maxRecDepth 20000 in
theorem ggX4_agree_X4_save : GoodIn wsX4_agree wsX4_save := goodIn_r _ [58, 59, 60, 3, 61, 62, 63, 8, 64, 65, 66, 67, 68, 69, 70, 71, 72, 23, 73, 25, 74, 39, 30, 35, 36, 37, 38, 40, 26, 27, 28, 29, 75, 76, 77, 78, 79, 80, 81, 82, 83, 84, 85, 86, 87] (by decide +kernel) (by decide +kernel)
set_option maxRecDepth 20000 in
theorem gX4_agree_X4_save : GoodIn wsX4_agree (wsV RX4 75 RX4 yX4_save wsX4_save) := goodIn_app (goodIn_of _ (by decide +kernel)) ggX4_agree_X4_save
set_option maxRecDepth 20000 in
theorem ggX4_agree_J6_bitCount_0f7a4 : GoodIn wsX4_agree wsJ6_bitCount_0f7a4 := goodIn_r _ [16, 17, 18, 19] (by decide +kernel) (by decide +kernel)
set_option maxRecDepth 20000 in
theorem gX4_agree_J6_bitCount_0f7a4 : GoodIn wsX4_agree (va_wsS RX4 148 yJ6_bitCount_0f7a4 wsJ6_bitCount_0f7a4) := goodIn_app (goodIn_of _ (by decide +kernel)) ggX4_agree_J6_bitCount_0f7a4
theorem dX4_agree_0 : decode cX4_agree 0 = .ok (.aload_n 0, 1) := by decide +kernel
theorem dX4_agree_1 : decode cX4_agree 1 = .ok (.invokevirtual 144, 3) := by decide +kernel
theorem dX4_agree_4 : decode cX4_agree 4 = .ok (.istore_n 1, 1) := by decide +kernel
theorem dX4_agree_5 : decode cX4_agree 5 = .ok (.aload_n 0, 1) := by decide +kernel
theorem dX4_agree_6 : decode cX4_agree 6 = .ok (.getfield 17, 3) := by decide +kernel
theorem dX4_agree_9 : decode cX4_agree 9 = .ok (.iload_n 1, 1) := by decide +kernel
theorem dX4_agree_10 : decode cX4_agree 10 = .ok (.invokevirtual 105, 3) := by decide +kernel
theorem dX4_agree_13 : decode cX4_agree 13 = .ok (.ldc2_w 109, 3) := by decide +kernel
theorem dX4_agree_16 : decode cX4_agree 16 = .ok (.lcmp, 1) := by decide +kernel
theorem dX4_agree_17 : decode cX4_agree 17 = .ok (.ifCond .le 13, 3) := by decide +kernel
theorem dX4_agree_20 : decode cX4_agree 20 = .ok (.new 70, 3) := by decide +kernel
theorem dX4_agree_23 : decode cX4_agree 23 = .ok (.dup, 1) := by decide +kernel
theorem dX4_agree_24 : decode cX4_agree 24 = .ok (.ldc 111, 2) := by decide +kernel
theorem dX4_agree_26 : decode cX4_agree 26 = .ok (.invokespecial 74, 3) := by decide +kernel
theorem dX4_agree_29 : decode cX4_agree 29 = .ok (.athrow, 1) := by decide +kernel
theorem dX4_agree_30 : decode cX4_agree 30 = .ok (.aload_n 0, 1) := by decide +kernel
theorem dX4_agree_31 : decode cX4_agree 31 = .ok (.invokevirtual 75, 3) := by decide +kernel
theorem dX4_agree_34 : decode cX4_agree 34 = .ok (.aload_n 0, 1) := by decide +kernel
theorem dX4_agree_35 : decode cX4_agree 35 = .ok (.getfield 17, 3) := by decide +kernel
theorem dX4_agree_38 : decode cX4_agree 38 = .ok (.iload_n 1, 1) := by decide +kernel
theorem dX4_agree_39 : decode cX4_agree 39 = .ok (.putfield 98, 3) := by decide +kernel
theorem dX4_agree_42 : decode cX4_agree 42 = .ok (.iload_n 1, 1) := by decide +kernel
theorem dX4_agree_43 : decode cX4_agree 43 = .ok (.invokestatic 148, 3) := by decide +kernel
theorem dX4_agree_46 : decode cX4_agree 46 = .ok (.ireturn, 1) := by decide +kernel
theorem dX4_append_0 : decode cX4_append 0 = .ok (.iload_n 1, 1) := by decide +kernel
theorem dX4_append_1 : decode cX4_append 1 = .ok (.bipush 33, 2) := by decide +kernel
theorem dX4_append_3 : decode cX4_append 3 = .ok (.if_icmp .lt 9, 3) := by decide +kernel
theorem dX4_append_6 : decode cX4_append 6 = .ok (.iload_n 1, 1) := by decide +kernel
theorem dX4_append_7 : decode cX4_append 7 = .ok (.bipush 126, 2) := by decide +kernel
theorem dX4_append_9 : decode cX4_append 9 = .ok (.if_icmp .le 13, 3) := by decide +kernel
theorem dX4_append_12 : decode cX4_append 12 = .ok (.new 59, 3) := by decide +kernel
theorem dX4_append_15 : decode cX4_append 15 = .ok (.dup, 1) := by decide +kernel
theorem dX4_append_16 : decode cX4_append 16 = .ok (.ldc 153, 2) := by decide +kernel
theorem dX4_append_18 : decode cX4_append 18 = .ok (.invokespecial 63, 3) := by decide +kernel
theorem dX4_append_21 : decode cX4_append 21 = .ok (.athrow, 1) := by decide +kernel
theorem dX4_append_22 : decode cX4_append 22 = .ok (.aload_n 0, 1) := by decide +kernel
theorem dX4_append_23 : decode cX4_append 23 = .ok (.getfield 38, 3) := by decide +kernel
theorem dX4_append_26 : decode cX4_append 26 = .ok (.ifCond .lt 15, 3) := by decide +kernel
theorem dX4_append_29 : decode cX4_append 29 = .ok (.aload_n 0, 1) := by decide +kernel
theorem dX4_append_30 : decode cX4_append 30 = .ok (.getfield 38, 3) := by decide +kernel
theorem dX4_append_33 : decode cX4_append 33 = .ok (.aload_n 0, 1) := by decide +kernel
theorem dX4_append_34 : decode cX4_append 34 = .ok (.getfield 34, 3) := by decide +kernel
theorem dX4_append_37 : decode cX4_append 37 = .ok (.arraylength, 1) := by decide +kernel
theorem dX4_append_38 : decode cX4_append 38 = .ok (.if_icmp .lt 13, 3) := by decide +kernel
theorem dX4_append_41 : decode cX4_append 41 = .ok (.new 70, 3) := by decide +kernel
theorem dX4_append_44 : decode cX4_append 44 = .ok (.dup, 1) := by decide +kernel
theorem dX4_append_45 : decode cX4_append 45 = .ok (.ldc 155, 2) := by decide +kernel
theorem dX4_append_47 : decode cX4_append 47 = .ok (.invokespecial 74, 3) := by decide +kernel
theorem dX4_append_50 : decode cX4_append 50 = .ok (.athrow, 1) := by decide +kernel
theorem dX4_append_51 : decode cX4_append 51 = .ok (.aload_n 0, 1) := by decide +kernel
theorem dX4_append_52 : decode cX4_append 52 = .ok (.getfield 34, 3) := by decide +kernel
theorem dX4_append_55 : decode cX4_append 55 = .ok (.aload_n 0, 1) := by decide +kernel
theorem dX4_append_56 : decode cX4_append 56 = .ok (.getfield 38, 3) := by decide +kernel
theorem dX4_append_59 : decode cX4_append 59 = .ok (.iload_n 1, 1) := by decide +kernel
theorem dX4_append_60 : decode cX4_append 60 = .ok (.iastore, 1) := by decide +kernel
theorem dX4_append_61 : decode cX4_append 61 = .ok (.aload_n 0, 1) := by decide +kernel
theorem dX4_append_62 : decode cX4_append 62 = .ok (.dup, 1) := by decide +kernel
theorem dX4_append_63 : decode cX4_append 63 = .ok (.getfield 38, 3) := by decide +kernel
theorem dX4_append_66 : decode cX4_append 66 = .ok (.iconst 1, 1) := by decide +kernel
theorem dX4_append_67 : decode cX4_append 67 = .ok (.iadd, 1) := by decide +kernel
theorem dX4_append_68 : decode cX4_append 68 = .ok (.putfield 38, 3) := by decide +kernel
theorem dX4_append_71 : decode cX4_append 71 = .ok (.aload_n 0, 1) := by decide +kernel
theorem dX4_append_72 : decode cX4_append 72 = .ok (.getfield 38, 3) := by decide +kernel
theorem dX4_append_75 : decode cX4_append 75 = .ok (.ireturn, 1) := by decide +kernel
theorem dX4_clearBuffer_0 : decode cX4_clearBuffer 0 = .ok (.aload_n 0, 1) := by decide +kernel
theorem dX4_clearBuffer_1 : decode cX4_clearBuffer 1 = .ok (.getfield 38, 3) := by decide +kernel
theorem dX4_clearBuffer_4 : decode cX4_clearBuffer 4 = .ok (.istore_n 1, 1) := by decide +kernel
theorem dX4_clearBuffer_5 : decode cX4_clearBuffer 5 = .ok (.aload_n 0, 1) := by decide +kernel
theorem dX4_clearBuffer_6 : decode cX4_clearBuffer 6 = .ok (.iconst 0, 1) := by decide +kernel
theorem dX4_clearBuffer_7 : decode cX4_clearBuffer 7 = .ok (.putfield 38, 3) := by decide +kernel
theorem dX4_clearBuffer_10 : decode cX4_clearBuffer 10 = .ok (.iload_n 1, 1) := by decide +kernel
theorem dX4_clearBuffer_11 : decode cX4_clearBuffer 11 = .ok (.ireturn, 1) := by decide +kernel
set_option maxRecDepth 20000 in
theorem ggX4_firstError_X2_start : GoodIn wsX4_firstError wsX2_start := goodIn_r _ [6, 7, 8, 9, 10, 45, 46, 47, 48] (by decide +kernel) (by decide +kernel)
set_option maxRecDepth 20000 in
theorem gX4_firstError_X2_start_n157 : GoodIn wsX4_firstError (wsX2_start) := ggX4_firstError_X2_start
set_option maxRecDepth 20000 in
theorem ggX4_firstError_X4_codeAt : GoodIn wsX4_firstError wsX4_codeAt := goodIn_r _ [15, 16, 37, 38, 39, 40, 41, 42, 43, 44] (by decide +kernel) (by decide +kernel)
set_option maxRecDepth 20000 in
theorem gX4_firstError_X4_codeAt : GoodIn wsX4_firstError (wsV RX4 160 RX4 yX4_codeAt wsX4_codeAt) := goodIn_app (goodIn_of _ (by decide +kernel)) ggX4_firstError_X4_codeAt
set_option maxRecDepth 20000 in
theorem ggX4_firstError_X2_takes : GoodIn wsX4_firstError wsX2_takes := goodIn_r _ [20, 21, 22, 23, 4, 24, 7, 25, 26, 27, 28, 8, 29, 30, 31, 32, 33, 34, 35, 36, 9, 10, 45, 46, 47, 48] (by decide +kernel) (by decide +kernel)
set_option maxRecDepth 20000 in
theorem gX4_firstError_X2_takes : GoodIn wsX4_firstError (wsV RX4 163 RX2 yX2_takes wsX2_takes) := goodIn_app (goodIn_of _ (by decide +kernel)) ggX4_firstError_X2_takes
theorem dX4_firstError_0 : decode cX4_firstError 0 = .ok (.aload_n 0, 1) := by decide +kernel
theorem dX4_firstError_1 : decode cX4_firstError 1 = .ok (.getfield 44, 3) := by decide +kernel
theorem dX4_firstError_4 : decode cX4_firstError 4 = .ok (.invokevirtual 157, 3) := by decide +kernel
theorem dX4_firstError_7 : decode cX4_firstError 7 = .ok (.iconst 0, 1) := by decide +kernel
theorem dX4_firstError_8 : decode cX4_firstError 8 = .ok (.istore_n 1, 1) := by decide +kernel
theorem dX4_firstError_9 : decode cX4_firstError 9 = .ok (.iload_n 1, 1) := by decide +kernel
theorem dX4_firstError_10 : decode cX4_firstError 10 = .ok (.aload_n 0, 1) := by decide +kernel
theorem dX4_firstError_11 : decode cX4_firstError 11 = .ok (.getfield 38, 3) := by decide +kernel
theorem dX4_firstError_14 : decode cX4_firstError 14 = .ok (.if_icmp .ge 26, 3) := by decide +kernel
theorem dX4_firstError_17 : decode cX4_firstError 17 = .ok (.aload_n 0, 1) := by decide +kernel
theorem dX4_firstError_18 : decode cX4_firstError 18 = .ok (.getfield 44, 3) := by decide +kernel
theorem dX4_firstError_21 : decode cX4_firstError 21 = .ok (.aload_n 0, 1) := by decide +kernel
theorem dX4_firstError_22 : decode cX4_firstError 22 = .ok (.iload_n 1, 1) := by decide +kernel
theorem dX4_firstError_23 : decode cX4_firstError 23 = .ok (.invokevirtual 160, 3) := by decide +kernel
theorem dX4_firstError_26 : decode cX4_firstError 26 = .ok (.invokevirtual 163, 3) := by decide +kernel
theorem dX4_firstError_29 : decode cX4_firstError 29 = .ok (.ifCond .ne 5, 3) := by decide +kernel
theorem dX4_firstError_32 : decode cX4_firstError 32 = .ok (.iload_n 1, 1) := by decide +kernel
theorem dX4_firstError_33 : decode cX4_firstError 33 = .ok (.ireturn, 1) := by decide +kernel
theorem dX4_firstError_34 : decode cX4_firstError 34 = .ok (.iinc 1 1, 3) := by decide +kernel
theorem dX4_firstError_37 : decode cX4_firstError 37 = .ok (.goto (-28), 3) := by decide +kernel
theorem dX4_firstError_40 : decode cX4_firstError 40 = .ok (.aload_n 0, 1) := by decide +kernel
theorem dX4_firstError_41 : decode cX4_firstError 41 = .ok (.getfield 38, 3) := by decide +kernel
theorem dX4_firstError_44 : decode cX4_firstError 44 = .ok (.ireturn, 1) := by decide +kernel
set_option maxRecDepth 20000 in
theorem ggX4_read_X4_firstError : GoodIn wsX4_read wsX4_firstError := goodIn_r _ [9, 4, 3, 10, 11, 12, 13, 14, 15, 16, 17, 18, 19, 20, 8, 21, 22, 23, 24, 25, 26, 27, 28, 29, 30, 31, 32, 33, 34, 35, 36, 37, 38, 39, 40, 41, 42, 148, 149, 150, 151, 152, 153, 154, 155, 156, 157, 158, 159] (by decide +kernel) (by decide +kernel)
set_option maxRecDepth 20000 in
theorem gX4_read_X4_firstError : GoodIn wsX4_read (wsV RX4 166 RX4 yX4_firstError wsX4_firstError) := goodIn_app (goodIn_of _ (by decide +kernel)) ggX4_read_X4_firstError
set_option maxRecDepth 20000 in
theorem ggX4_read_X2_isComplete : GoodIn wsX4_read wsX2_isComplete := goodIn_r _ [46, 14, 156, 157, 158, 159] (by decide +kernel) (by decide +kernel)
set_option maxRecDepth 20000 in
theorem gX4_read_X2_isComplete : GoodIn wsX4_read (wsV RX4 169 RX2 yX2_isComplete wsX2_isComplete) := goodIn_app (goodIn_of _ (by decide +kernel)) ggX4_read_X2_isComplete
set_option maxRecDepth 20000 in
theorem ggX4_read_X4_save : GoodIn wsX4_read wsX4_save := goodIn_r _ [50, 51, 52, 53, 54, 55, 56, 8, 57, 58, 59, 60, 61, 62, 63, 64, 65, 66, 67, 68, 69, 70, 71, 72, 73, 74, 75, 76, 77, 78, 79, 80, 148, 149, 150, 151, 152, 153, 154, 155, 160, 161, 162, 163, 164] (by decide +kernel) (by decide +kernel)
set_option maxRecDepth 20000 in
theorem gX4_read_X4_save : GoodIn wsX4_read (wsV RX4 75 RX4 yX4_save wsX4_save) := goodIn_app (goodIn_of _ (by decide +kernel)) ggX4_read_X4_save
set_option maxRecDepth 20000 in
theorem ggX4_read_X4_readConditions : GoodIn wsX4_read wsX4_readConditions := goodIn_r _ [84, 4, 3, 85, 86, 87, 53, 10, 11, 12, 13, 14, 15, 16, 17, 18, 19, 20, 8, 21, 22, 88, 89, 90, 91, 92, 93, 94, 95, 96, 97, 98, 99, 100, 101, 102, 103, 104, 105, 106, 107, 108, 109, 110, 111, 112, 113, 114, 66, 115, 68, 116, 117, 72, 73, 74, 75, 70, 76, 118, 119, 120, 121, 122, 123, 124, 125, 126, 127, 128, 129, 130, 69, 131, 132, 133, 134, 135, 136, 137, 138, 71, 139, 140, 141, 142, 143, 144, 145, 146, 147, 23, 24, 25, 26, 27, 28, 29, 30, 31, 32, 33, 34, 35, 36, 37, 38, 39, 40, 41, 42, 148, 149, 150, 151, 152, 153, 154, 155, 165, 166, 167, 168, 169, 156, 157, 158, 159, 160, 161, 162, 163, 164] (by decide +kernel) (by decide +kernel)
set_option maxRecDepth 20000 in
theorem gX4_read_X4_readConditions : GoodIn wsX4_read (wsV RX4 174 RX4 yX4_readConditions wsX4_readConditions) := goodIn_app (goodIn_of _ (by decide +kernel)) ggX4_read_X4_readConditions
theorem dX4_read_0 : decode cX4_read 0 = .ok (.aload_n 0, 1) := by decide +kernel
theorem dX4_read_1 : decode cX4_read 1 = .ok (.invokevirtual 166, 3) := by decide +kernel
theorem dX4_read_4 : decode cX4_read 4 = .ok (.aload_n 0, 1) := by decide +kernel
theorem dX4_read_5 : decode cX4_read 5 = .ok (.getfield 38, 3) := by decide +kernel
theorem dX4_read_8 : decode cX4_read 8 = .ok (.if_icmp .lt 13, 3) := by decide +kernel
theorem dX4_read_11 : decode cX4_read 11 = .ok (.aload_n 0, 1) := by decide +kernel
theorem dX4_read_12 : decode cX4_read 12 = .ok (.getfield 44, 3) := by decide +kernel
theorem dX4_read_15 : decode cX4_read 15 = .ok (.invokevirtual 169, 3) := by decide +kernel
theorem dX4_read_18 : decode cX4_read 18 = .ok (.ifCond .ne 13, 3) := by decide +kernel
theorem dX4_read_21 : decode cX4_read 21 = .ok (.new 59, 3) := by decide +kernel
theorem dX4_read_24 : decode cX4_read 24 = .ok (.dup, 1) := by decide +kernel
theorem dX4_read_25 : decode cX4_read 25 = .ok (.ldc 172, 2) := by decide +kernel
theorem dX4_read_27 : decode cX4_read 27 = .ok (.invokespecial 63, 3) := by decide +kernel
theorem dX4_read_30 : decode cX4_read 30 = .ok (.athrow, 1) := by decide +kernel
theorem dX4_read_31 : decode cX4_read 31 = .ok (.aload_n 0, 1) := by decide +kernel
theorem dX4_read_32 : decode cX4_read 32 = .ok (.invokevirtual 75, 3) := by decide +kernel
theorem dX4_read_35 : decode cX4_read 35 = .ok (.aload_n 0, 1) := by decide +kernel
theorem dX4_read_36 : decode cX4_read 36 = .ok (.invokevirtual 174, 3) := by decide +kernel
theorem dX4_read_39 : decode cX4_read 39 = .ok (.istore_n 1, 1) := by decide +kernel
theorem dX4_read_40 : decode cX4_read 40 = .ok (.aload_n 0, 1) := by decide +kernel
theorem dX4_read_41 : decode cX4_read 41 = .ok (.iconst 0, 1) := by decide +kernel
theorem dX4_read_42 : decode cX4_read 42 = .ok (.putfield 38, 3) := by decide +kernel
theorem dX4_read_45 : decode cX4_read 45 = .ok (.iload_n 1, 1) := by decide +kernel
theorem dX4_read_46 : decode cX4_read 46 = .ok (.ireturn, 1) := by decide +kernel
set_option maxRecDepth 20000 in
theorem ggX4_undo_X4_savedAt : GoodIn wsX4_undo wsX4_savedAt := goodIn_r _ [10, 11, 4, 12, 13, 14, 15, 34, 35, 36, 37, 38, 39, 40, 41] (by decide +kernel) (by decide +kernel)
set_option maxRecDepth 20000 in
theorem gX4_undo_X4_savedAt : GoodIn wsX4_undo (wsV RX4 179 RX4 yX4_savedAt wsX4_savedAt) := goodIn_app (goodIn_of _ (by decide +kernel)) ggX4_undo_X4_savedAt
set_option maxRecDepth 20000 in
theorem ggX4_undo_X3_copyFrom : GoodIn wsX4_undo wsX3_copyFrom := goodIn_r _ [20, 21, 22, 23, 24, 25, 26, 27, 19, 28, 29, 30, 31, 32, 33, 42, 43, 44, 45, 46] (by decide +kernel) (by decide +kernel)
set_option maxRecDepth 20000 in
theorem gX4_undo_X3_copyFrom : GoodIn wsX4_undo (wsV RX4 183 RX3 yX3_copyFrom wsX3_copyFrom) := goodIn_app (goodIn_of _ (by decide +kernel)) ggX4_undo_X3_copyFrom
theorem dX4_undo_0 : decode cX4_undo 0 = .ok (.aload_n 0, 1) := by decide +kernel
theorem dX4_undo_1 : decode cX4_undo 1 = .ok (.getfield 31, 3) := by decide +kernel
theorem dX4_undo_4 : decode cX4_undo 4 = .ok (.iconst 1, 1) := by decide +kernel
theorem dX4_undo_5 : decode cX4_undo 5 = .ok (.if_icmp .ge 13, 3) := by decide +kernel
theorem dX4_undo_8 : decode cX4_undo 8 = .ok (.new 70, 3) := by decide +kernel
theorem dX4_undo_11 : decode cX4_undo 11 = .ok (.dup, 1) := by decide +kernel
theorem dX4_undo_12 : decode cX4_undo 12 = .ok (.ldc 177, 2) := by decide +kernel
theorem dX4_undo_14 : decode cX4_undo 14 = .ok (.invokespecial 74, 3) := by decide +kernel
theorem dX4_undo_17 : decode cX4_undo 17 = .ok (.athrow, 1) := by decide +kernel
theorem dX4_undo_18 : decode cX4_undo 18 = .ok (.aload_n 0, 1) := by decide +kernel
theorem dX4_undo_19 : decode cX4_undo 19 = .ok (.dup, 1) := by decide +kernel
theorem dX4_undo_20 : decode cX4_undo 20 = .ok (.getfield 31, 3) := by decide +kernel
theorem dX4_undo_23 : decode cX4_undo 23 = .ok (.iconst 1, 1) := by decide +kernel
theorem dX4_undo_24 : decode cX4_undo 24 = .ok (.isub, 1) := by decide +kernel
theorem dX4_undo_25 : decode cX4_undo 25 = .ok (.putfield 31, 3) := by decide +kernel
theorem dX4_undo_28 : decode cX4_undo 28 = .ok (.aload_n 0, 1) := by decide +kernel
theorem dX4_undo_29 : decode cX4_undo 29 = .ok (.getfield 17, 3) := by decide +kernel
theorem dX4_undo_32 : decode cX4_undo 32 = .ok (.aload_n 0, 1) := by decide +kernel
theorem dX4_undo_33 : decode cX4_undo 33 = .ok (.aload_n 0, 1) := by decide +kernel
theorem dX4_undo_34 : decode cX4_undo 34 = .ok (.getfield 27, 3) := by decide +kernel
theorem dX4_undo_37 : decode cX4_undo 37 = .ok (.aload_n 0, 1) := by decide +kernel
theorem dX4_undo_38 : decode cX4_undo 38 = .ok (.getfield 31, 3) := by decide +kernel
theorem dX4_undo_41 : decode cX4_undo 41 = .ok (.iadd, 1) := by decide +kernel
theorem dX4_undo_42 : decode cX4_undo 42 = .ok (.invokevirtual 179, 3) := by decide +kernel
theorem dX4_undo_45 : decode cX4_undo 45 = .ok (.invokevirtual 183, 3) := by decide +kernel
theorem dX4_undo_48 : decode cX4_undo 48 = .ok (.aload_n 0, 1) := by decide +kernel
theorem dX4_undo_49 : decode cX4_undo 49 = .ok (.getfield 31, 3) := by decide +kernel
theorem dX4_undo_52 : decode cX4_undo 52 = .ok (.ireturn, 1) := by decide +kernel
set_option maxRecDepth 20000 in
theorem ggX4_condition_X3_has : GoodIn wsX4_condition wsX3_has := goodIn_r _ [10, 11, 103, 104, 105, 106, 107] (by decide +kernel) (by decide +kernel)
set_option maxRecDepth 20000 in
theorem gX4_condition_X3_has : GoodIn wsX4_condition (wsV RX4 82 RX3 yX3_has wsX3_has) := goodIn_app (goodIn_of _ (by decide +kernel)) ggX4_condition_X3_has
set_option maxRecDepth 20000 in
theorem ggX4_condition_X3_at : GoodIn wsX4_condition wsX3_at := goodIn_r _ [15, 16, 17, 103, 104, 105, 106, 107] (by decide +kernel) (by decide +kernel)
set_option maxRecDepth 20000 in
theorem gX4_condition_X3_at : GoodIn wsX4_condition (wsV RX4 116 RX3 yX3_at wsX3_at) := goodIn_app (goodIn_of _ (by decide +kernel)) ggX4_condition_X3_at
set_option maxRecDepth 20000 in
theorem ggX4_condition_X3_isOn : GoodIn wsX4_condition wsX3_isOn := goodIn_r _ [21, 22, 23, 7, 8, 9, 10, 11, 24, 25, 26, 103, 104, 105, 106, 107] (by decide +kernel) (by decide +kernel)
set_option maxRecDepth 20000 in
theorem gX4_condition_X3_isOn : GoodIn wsX4_condition (wsV RX4 113 RX3 yX3_isOn wsX3_isOn) := goodIn_app (goodIn_of _ (by decide +kernel)) ggX4_condition_X3_isOn
set_option maxRecDepth 20000 in
theorem ggX4_condition_X0_isVoid : GoodIn wsX4_condition wsX0_isVoid := goodIn_r _ [31, 32, 98, 99, 100, 101, 102] (by decide +kernel) (by decide +kernel)
set_option maxRecDepth 20000 in
theorem gX4_condition_X0_isVoid : GoodIn wsX4_condition (wsV RX4 120 RX0 yX0_isVoid wsX0_isVoid) := goodIn_app (goodIn_of _ (by decide +kernel)) ggX4_condition_X0_isVoid
set_option maxRecDepth 20000 in
theorem ggX4_condition_X4_bit : GoodIn wsX4_condition wsX4_bit := goodIn_r _ [26] (by decide +kernel) (by decide +kernel)
set_option maxRecDepth 20000 in
theorem gX4_condition_X4_bit : GoodIn wsX4_condition (va_wsS RX4 101 yX4_bit wsX4_bit) := goodIn_app (goodIn_of _ (by decide +kernel)) ggX4_condition_X4_bit
set_option maxRecDepth 20000 in
theorem ggX4_condition_X3_partnersAt : GoodIn wsX4_condition wsX3_partnersAt := goodIn_r _ [37, 38, 103, 104, 105, 106, 107] (by decide +kernel) (by decide +kernel)
set_option maxRecDepth 20000 in
theorem gX4_condition_X3_partnersAt : GoodIn wsX4_condition (wsV RX4 198 RX3 yX3_partnersAt wsX3_partnersAt) := goodIn_app (goodIn_of _ (by decide +kernel)) ggX4_condition_X3_partnersAt
set_option maxRecDepth 20000 in
theorem ggX4_condition_J6_bitCount_0f7a4 : GoodIn wsX4_condition wsJ6_bitCount_0f7a4 := goodIn_r _ [42, 43, 44, 45] (by decide +kernel) (by decide +kernel)
set_option maxRecDepth 20000 in
theorem gX4_condition_J6_bitCount_0f7a4 : GoodIn wsX4_condition (va_wsS RX4 148 yJ6_bitCount_0f7a4 wsJ6_bitCount_0f7a4) := goodIn_app (goodIn_of _ (by decide +kernel)) ggX4_condition_J6_bitCount_0f7a4
set_option maxRecDepth 20000 in
theorem ggX4_condition_X4_isTold : GoodIn wsX4_condition wsX4_isTold := goodIn_r _ [49, 5, 33, 24, 25, 26, 18, 19, 20, 9, 21, 22, 23, 7, 8, 10, 11, 50, 51, 52, 53, 54, 35, 36, 37, 38, 55, 56, 57, 58, 59, 60, 61, 62, 63, 64, 65, 66, 12, 13, 14, 15, 16, 17, 67, 68, 69, 70, 71, 72, 73, 74, 75, 76, 77, 78, 79, 80, 81, 82, 83, 28, 29, 30, 31, 32, 84, 85, 86, 87, 88, 89, 90, 91, 92, 93, 94, 95, 96, 97, 103, 104, 105, 106, 107, 108, 109, 98, 99, 100, 101, 102] (by decide +kernel) (by decide +kernel)
set_option maxRecDepth 20000 in
theorem gX4_condition_X4_isTold : GoodIn wsX4_condition (wsV RX4 141 RX4 yX4_isTold wsX4_isTold) := goodIn_app (goodIn_of _ (by decide +kernel)) ggX4_condition_X4_isTold
theorem dX4_condition_0 : decode cX4_condition 0 = .ok (.aload_n 0, 1) := by decide +kernel
theorem dX4_condition_1 : decode cX4_condition 1 = .ok (.getfield 17, 3) := by decide +kernel
theorem dX4_condition_4 : decode cX4_condition 4 = .ok (.iload_n 1, 1) := by decide +kernel
theorem dX4_condition_5 : decode cX4_condition 5 = .ok (.invokevirtual 82, 3) := by decide +kernel
theorem dX4_condition_8 : decode cX4_condition 8 = .ok (.ifCond .ne 13, 3) := by decide +kernel
theorem dX4_condition_11 : decode cX4_condition 11 = .ok (.new 86, 3) := by decide +kernel
theorem dX4_condition_14 : decode cX4_condition 14 = .ok (.dup, 1) := by decide +kernel
theorem dX4_condition_15 : decode cX4_condition 15 = .ok (.ldc 88, 2) := by decide +kernel
theorem dX4_condition_17 : decode cX4_condition 17 = .ok (.invokespecial 90, 3) := by decide +kernel
theorem dX4_condition_20 : decode cX4_condition 20 = .ok (.athrow, 1) := by decide +kernel
theorem dX4_condition_21 : decode cX4_condition 21 = .ok (.iload_n 2, 1) := by decide +kernel
theorem dX4_condition_22 : decode cX4_condition 22 = .ok (.ifCond .lt 9, 3) := by decide +kernel
theorem dX4_condition_25 : decode cX4_condition 25 = .ok (.iload_n 2, 1) := by decide +kernel
theorem dX4_condition_26 : decode cX4_condition 26 = .ok (.bipush 8, 2) := by decide +kernel
theorem dX4_condition_28 : decode cX4_condition 28 = .ok (.if_icmp .le 13, 3) := by decide +kernel
theorem dX4_condition_31 : decode cX4_condition 31 = .ok (.new 59, 3) := by decide +kernel
theorem dX4_condition_34 : decode cX4_condition 34 = .ok (.dup, 1) := by decide +kernel
theorem dX4_condition_35 : decode cX4_condition 35 = .ok (.ldc 187, 2) := by decide +kernel
theorem dX4_condition_37 : decode cX4_condition 37 = .ok (.invokespecial 63, 3) := by decide +kernel
theorem dX4_condition_40 : decode cX4_condition 40 = .ok (.athrow, 1) := by decide +kernel
theorem dX4_condition_41 : decode cX4_condition 41 = .ok (.aload_n 0, 1) := by decide +kernel
theorem dX4_condition_42 : decode cX4_condition 42 = .ok (.getfield 17, 3) := by decide +kernel
theorem dX4_condition_45 : decode cX4_condition 45 = .ok (.iload_n 1, 1) := by decide +kernel
theorem dX4_condition_46 : decode cX4_condition 46 = .ok (.invokevirtual 116, 3) := by decide +kernel
theorem dX4_condition_49 : decode cX4_condition 49 = .ok (.astore_n 3, 1) := by decide +kernel
theorem dX4_condition_50 : decode cX4_condition 50 = .ok (.iload_n 2, 1) := by decide +kernel
theorem dX4_condition_51 : decode cX4_condition 51 = .ok (.tableswitch 129 0 7 #[45, 50, 55, 60, 77, 90, 95, 100], 45) := by decide +kernel
theorem dX4_condition_96 : decode cX4_condition 96 = .ok (.aload_n 3, 1) := by decide +kernel
theorem dX4_condition_97 : decode cX4_condition 97 = .ok (.getfield 189, 3) := by decide +kernel
theorem dX4_condition_100 : decode cX4_condition 100 = .ok (.ireturn, 1) := by decide +kernel
theorem dX4_condition_101 : decode cX4_condition 101 = .ok (.aload_n 3, 1) := by decide +kernel
theorem dX4_condition_102 : decode cX4_condition 102 = .ok (.getfield 192, 3) := by decide +kernel
theorem dX4_condition_105 : decode cX4_condition 105 = .ok (.ireturn, 1) := by decide +kernel
theorem dX4_condition_106 : decode cX4_condition 106 = .ok (.aload_n 3, 1) := by decide +kernel
theorem dX4_condition_107 : decode cX4_condition 107 = .ok (.getfield 195, 3) := by decide +kernel
theorem dX4_condition_110 : decode cX4_condition 110 = .ok (.ireturn, 1) := by decide +kernel
theorem dX4_condition_111 : decode cX4_condition 111 = .ok (.aload_n 0, 1) := by decide +kernel
theorem dX4_condition_112 : decode cX4_condition 112 = .ok (.getfield 17, 3) := by decide +kernel
theorem dX4_condition_115 : decode cX4_condition 115 = .ok (.iload_n 1, 1) := by decide +kernel
theorem dX4_condition_116 : decode cX4_condition 116 = .ok (.invokevirtual 113, 3) := by decide +kernel
theorem dX4_condition_119 : decode cX4_condition 119 = .ok (.ifCond .eq 7, 3) := by decide +kernel
theorem dX4_condition_122 : decode cX4_condition 122 = .ok (.iconst 1, 1) := by decide +kernel
theorem dX4_condition_123 : decode cX4_condition 123 = .ok (.goto 4, 3) := by decide +kernel
theorem dX4_condition_126 : decode cX4_condition 126 = .ok (.iconst 0, 1) := by decide +kernel
theorem dX4_condition_127 : decode cX4_condition 127 = .ok (.ireturn, 1) := by decide +kernel
theorem dX4_condition_128 : decode cX4_condition 128 = .ok (.aload_n 3, 1) := by decide +kernel
theorem dX4_condition_129 : decode cX4_condition 129 = .ok (.invokevirtual 120, 3) := by decide +kernel
theorem dX4_condition_132 : decode cX4_condition 132 = .ok (.ifCond .eq 7, 3) := by decide +kernel
theorem dX4_condition_135 : decode cX4_condition 135 = .ok (.iconst 1, 1) := by decide +kernel
theorem dX4_condition_136 : decode cX4_condition 136 = .ok (.goto 4, 3) := by decide +kernel
theorem dX4_condition_139 : decode cX4_condition 139 = .ok (.iconst 0, 1) := by decide +kernel
theorem dX4_condition_140 : decode cX4_condition 140 = .ok (.ireturn, 1) := by decide +kernel
theorem dX4_condition_141 : decode cX4_condition 141 = .ok (.aload_n 3, 1) := by decide +kernel
theorem dX4_condition_142 : decode cX4_condition 142 = .ok (.getfield 129, 3) := by decide +kernel
theorem dX4_condition_145 : decode cX4_condition 145 = .ok (.ireturn, 1) := by decide +kernel
theorem dX4_condition_146 : decode cX4_condition 146 = .ok (.aload_n 3, 1) := by decide +kernel
theorem dX4_condition_147 : decode cX4_condition 147 = .ok (.getfield 126, 3) := by decide +kernel
theorem dX4_condition_150 : decode cX4_condition 150 = .ok (.ireturn, 1) := by decide +kernel
theorem dX4_condition_151 : decode cX4_condition 151 = .ok (.aload_n 0, 1) := by decide +kernel
theorem dX4_condition_152 : decode cX4_condition 152 = .ok (.getfield 17, 3) := by decide +kernel
theorem dX4_condition_155 : decode cX4_condition 155 = .ok (.getfield 98, 3) := by decide +kernel
theorem dX4_condition_158 : decode cX4_condition 158 = .ok (.iload_n 1, 1) := by decide +kernel
theorem dX4_condition_159 : decode cX4_condition 159 = .ok (.invokestatic 101, 3) := by decide +kernel
theorem dX4_condition_162 : decode cX4_condition 162 = .ok (.iconst (-1), 1) := by decide +kernel
theorem dX4_condition_163 : decode cX4_condition 163 = .ok (.ixor, 1) := by decide +kernel
theorem dX4_condition_164 : decode cX4_condition 164 = .ok (.iand, 1) := by decide +kernel
theorem dX4_condition_165 : decode cX4_condition 165 = .ok (.aload_n 0, 1) := by decide +kernel
theorem dX4_condition_166 : decode cX4_condition 166 = .ok (.getfield 17, 3) := by decide +kernel
theorem dX4_condition_169 : decode cX4_condition 169 = .ok (.iload_n 1, 1) := by decide +kernel
theorem dX4_condition_170 : decode cX4_condition 170 = .ok (.invokevirtual 198, 3) := by decide +kernel
theorem dX4_condition_173 : decode cX4_condition 173 = .ok (.iconst (-1), 1) := by decide +kernel
theorem dX4_condition_174 : decode cX4_condition 174 = .ok (.ixor, 1) := by decide +kernel
theorem dX4_condition_175 : decode cX4_condition 175 = .ok (.iand, 1) := by decide +kernel
theorem dX4_condition_176 : decode cX4_condition 176 = .ok (.invokestatic 148, 3) := by decide +kernel
theorem dX4_condition_179 : decode cX4_condition 179 = .ok (.ireturn, 1) := by decide +kernel
theorem dX4_condition_180 : decode cX4_condition 180 = .ok (.aload_n 0, 1) := by decide +kernel
theorem dX4_condition_181 : decode cX4_condition 181 = .ok (.iload_n 1, 1) := by decide +kernel
theorem dX4_condition_182 : decode cX4_condition 182 = .ok (.invokevirtual 141, 3) := by decide +kernel
theorem dX4_condition_185 : decode cX4_condition 185 = .ok (.ifCond .eq 7, 3) := by decide +kernel
theorem dX4_condition_188 : decode cX4_condition 188 = .ok (.iconst 1, 1) := by decide +kernel
theorem dX4_condition_189 : decode cX4_condition 189 = .ok (.goto 4, 3) := by decide +kernel
theorem dX4_condition_192 : decode cX4_condition 192 = .ok (.iconst 0, 1) := by decide +kernel
theorem dX4_condition_193 : decode cX4_condition 193 = .ok (.ireturn, 1) := by decide +kernel
set_option maxRecDepth 20000 in
theorem ggX4_agrees_X3_has : GoodIn wsX4_agrees wsX3_has := goodIn_r _ [8, 9, 27, 28, 29, 30, 31] (by decide +kernel) (by decide +kernel)
set_option maxRecDepth 20000 in
theorem gX4_agrees_X3_has : GoodIn wsX4_agrees (wsV RX4 82 RX3 yX3_has wsX3_has) := goodIn_app (goodIn_of _ (by decide +kernel)) ggX4_agrees_X3_has
set_option maxRecDepth 20000 in
theorem ggX4_agrees_X3_partnersAt : GoodIn wsX4_agrees wsX3_partnersAt := goodIn_r _ [13, 14, 27, 28, 29, 30, 31] (by decide +kernel) (by decide +kernel)
set_option maxRecDepth 20000 in
theorem gX4_agrees_X3_partnersAt : GoodIn wsX4_agrees (wsV RX4 198 RX3 yX3_partnersAt wsX3_partnersAt) := goodIn_app (goodIn_of _ (by decide +kernel)) ggX4_agrees_X3_partnersAt
set_option maxRecDepth 20000 in
theorem ggX4_agrees_X4_bit : GoodIn wsX4_agrees wsX4_bit := goodIn_r _ [18] (by decide +kernel) (by decide +kernel)
set_option maxRecDepth 20000 in
theorem gX4_agrees_X4_bit : GoodIn wsX4_agrees (va_wsS RX4 101 yX4_bit wsX4_bit) := goodIn_app (goodIn_of _ (by decide +kernel)) ggX4_agrees_X4_bit
theorem dX4_agrees_0 : decode cX4_agrees 0 = .ok (.aload_n 0, 1) := by decide +kernel
theorem dX4_agrees_1 : decode cX4_agrees 1 = .ok (.getfield 17, 3) := by decide +kernel
theorem dX4_agrees_4 : decode cX4_agrees 4 = .ok (.iload_n 1, 1) := by decide +kernel
theorem dX4_agrees_5 : decode cX4_agrees 5 = .ok (.invokevirtual 82, 3) := by decide +kernel
theorem dX4_agrees_8 : decode cX4_agrees 8 = .ok (.ifCond .eq 14, 3) := by decide +kernel
theorem dX4_agrees_11 : decode cX4_agrees 11 = .ok (.aload_n 0, 1) := by decide +kernel
theorem dX4_agrees_12 : decode cX4_agrees 12 = .ok (.getfield 17, 3) := by decide +kernel
theorem dX4_agrees_15 : decode cX4_agrees 15 = .ok (.iload_n 2, 1) := by decide +kernel
theorem dX4_agrees_16 : decode cX4_agrees 16 = .ok (.invokevirtual 82, 3) := by decide +kernel
theorem dX4_agrees_19 : decode cX4_agrees 19 = .ok (.ifCond .ne 13, 3) := by decide +kernel
theorem dX4_agrees_22 : decode cX4_agrees 22 = .ok (.new 86, 3) := by decide +kernel
theorem dX4_agrees_25 : decode cX4_agrees 25 = .ok (.dup, 1) := by decide +kernel
theorem dX4_agrees_26 : decode cX4_agrees 26 = .ok (.ldc 88, 2) := by decide +kernel
theorem dX4_agrees_28 : decode cX4_agrees 28 = .ok (.invokespecial 90, 3) := by decide +kernel
theorem dX4_agrees_31 : decode cX4_agrees 31 = .ok (.athrow, 1) := by decide +kernel
theorem dX4_agrees_32 : decode cX4_agrees 32 = .ok (.aload_n 0, 1) := by decide +kernel
theorem dX4_agrees_33 : decode cX4_agrees 33 = .ok (.getfield 17, 3) := by decide +kernel
theorem dX4_agrees_36 : decode cX4_agrees 36 = .ok (.iload_n 1, 1) := by decide +kernel
theorem dX4_agrees_37 : decode cX4_agrees 37 = .ok (.invokevirtual 198, 3) := by decide +kernel
theorem dX4_agrees_40 : decode cX4_agrees 40 = .ok (.iload_n 2, 1) := by decide +kernel
theorem dX4_agrees_41 : decode cX4_agrees 41 = .ok (.invokestatic 101, 3) := by decide +kernel
theorem dX4_agrees_44 : decode cX4_agrees 44 = .ok (.iand, 1) := by decide +kernel
theorem dX4_agrees_45 : decode cX4_agrees 45 = .ok (.ifCond .eq 7, 3) := by decide +kernel
theorem dX4_agrees_48 : decode cX4_agrees 48 = .ok (.iconst 1, 1) := by decide +kernel
theorem dX4_agrees_49 : decode cX4_agrees 49 = .ok (.goto 4, 3) := by decide +kernel
theorem dX4_agrees_52 : decode cX4_agrees 52 = .ok (.iconst 0, 1) := by decide +kernel
theorem dX4_agrees_53 : decode cX4_agrees 53 = .ok (.ireturn, 1) := by decide +kernel
set_option maxRecDepth 20000 in
theorem ggX4_joined_X4_joinedOf : GoodIn wsX4_joined wsX4_joinedOf := goodIn_r _ [8, 3, 9, 10, 11, 12, 13, 14, 15, 16, 7, 17, 18, 19, 20, 21, 22, 23, 24, 25, 26, 27, 28, 29, 30, 31, 32, 33, 34, 35, 36, 37, 38, 39, 40, 41, 42, 43, 44, 45, 46, 47, 48, 49, 50, 51, 52, 53, 54, 55, 56, 57, 58, 59, 60, 61, 67, 68, 62, 63, 64, 65, 66, 69, 70, 71, 72, 73] (by decide +kernel) (by decide +kernel)
set_option maxRecDepth 20000 in
theorem gX4_joined_X4_joinedOf : GoodIn wsX4_joined (wsV RX4 203 RX4 yX4_joinedOf wsX4_joinedOf) := goodIn_app (goodIn_of _ (by decide +kernel)) ggX4_joined_X4_joinedOf
theorem dX4_joined_0 : decode cX4_joined 0 = .ok (.iload_n 1, 1) := by decide +kernel
theorem dX4_joined_1 : decode cX4_joined 1 = .ok (.ifCond .lt 8, 3) := by decide +kernel
theorem dX4_joined_4 : decode cX4_joined 4 = .ok (.iload_n 1, 1) := by decide +kernel
theorem dX4_joined_5 : decode cX4_joined 5 = .ok (.iconst 1, 1) := by decide +kernel
theorem dX4_joined_6 : decode cX4_joined 6 = .ok (.if_icmp .le 13, 3) := by decide +kernel
theorem dX4_joined_9 : decode cX4_joined 9 = .ok (.new 59, 3) := by decide +kernel
theorem dX4_joined_12 : decode cX4_joined 12 = .ok (.dup, 1) := by decide +kernel
theorem dX4_joined_13 : decode cX4_joined 13 = .ok (.ldc 201, 2) := by decide +kernel
theorem dX4_joined_15 : decode cX4_joined 15 = .ok (.invokespecial 63, 3) := by decide +kernel
theorem dX4_joined_18 : decode cX4_joined 18 = .ok (.athrow, 1) := by decide +kernel
theorem dX4_joined_19 : decode cX4_joined 19 = .ok (.aload_n 0, 1) := by decide +kernel
theorem dX4_joined_20 : decode cX4_joined 20 = .ok (.aload_n 0, 1) := by decide +kernel
theorem dX4_joined_21 : decode cX4_joined 21 = .ok (.getfield 17, 3) := by decide +kernel
theorem dX4_joined_24 : decode cX4_joined 24 = .ok (.getfield 98, 3) := by decide +kernel
theorem dX4_joined_27 : decode cX4_joined 27 = .ok (.iload_n 1, 1) := by decide +kernel
theorem dX4_joined_28 : decode cX4_joined 28 = .ok (.invokevirtual 203, 3) := by decide +kernel
theorem dX4_joined_31 : decode cX4_joined 31 = .ok (.lreturn, 1) := by decide +kernel
set_option maxRecDepth 20000 in
theorem ggX4_count_J6_bitCount_0f7a4 : GoodIn wsX4_count wsJ6_bitCount_0f7a4 := goodIn_r _ [8, 9, 10, 11] (by decide +kernel) (by decide +kernel)
set_option maxRecDepth 20000 in
theorem gX4_count_J6_bitCount_0f7a4 : GoodIn wsX4_count (va_wsS RX4 148 yJ6_bitCount_0f7a4 wsJ6_bitCount_0f7a4) := goodIn_app (goodIn_of _ (by decide +kernel)) ggX4_count_J6_bitCount_0f7a4
set_option maxRecDepth 20000 in
theorem ggX4_count_X3_voidOnes : GoodIn wsX4_count wsX3_voidOnes := goodIn_r _ [16, 17, 18, 19, 20, 15, 21, 22, 23, 24, 25, 26, 27, 28, 29, 109, 110, 111, 112, 113, 114, 115, 116, 117, 118] (by decide +kernel) (by decide +kernel)
set_option maxRecDepth 20000 in
theorem gX4_count_X3_voidOnes : GoodIn wsX4_count (wsV RX4 209 RX3 yX3_voidOnes wsX3_voidOnes) := goodIn_app (goodIn_of _ (by decide +kernel)) ggX4_count_X3_voidOnes
set_option maxRecDepth 20000 in
theorem ggX4_count_X3_contradictions : GoodIn wsX4_count wsX3_contradictions := goodIn_r _ [33, 17, 34, 35, 36, 37, 38, 39, 15, 40, 41, 42, 6, 7, 8, 9, 10, 11, 109, 110, 111, 112, 113] (by decide +kernel) (by decide +kernel)
set_option maxRecDepth 20000 in
theorem gX4_count_X3_contradictions : GoodIn wsX4_count (wsV RX4 212 RX3 yX3_contradictions wsX3_contradictions) := goodIn_app (goodIn_of _ (by decide +kernel)) ggX4_count_X3_contradictions
set_option maxRecDepth 20000 in
theorem ggX4_count_X3_arePossible : GoodIn wsX4_count wsX3_arePossible := goodIn_r _ [46, 17, 34, 35, 36, 37, 38, 39, 15, 40, 41, 109, 110, 111, 112, 113] (by decide +kernel) (by decide +kernel)
set_option maxRecDepth 20000 in
theorem gX4_count_X3_arePossible : GoodIn wsX4_count (wsV RX4 136 RX3 yX3_arePossible wsX3_arePossible) := goodIn_app (goodIn_of _ (by decide +kernel)) ggX4_count_X3_arePossible
set_option maxRecDepth 20000 in
theorem ggX4_count_X4_toldOnes : GoodIn wsX4_count wsX4_toldOnes := goodIn_r _ [50, 3, 51, 52, 53, 35, 54, 55, 34, 36, 56, 57, 58, 15, 59, 60, 61, 62, 63, 64, 17, 43, 44, 45, 46, 37, 38, 39, 40, 41, 65, 66, 67, 68, 69, 70, 71, 72, 73, 74, 75, 76, 77, 19, 20, 21, 22, 23, 78, 79, 80, 81, 82, 83, 84, 85, 86, 87, 88, 89, 90, 91, 92, 93, 94, 25, 26, 27, 28, 29, 95, 96, 97, 98, 99, 100, 101, 102, 103, 104, 105, 106, 107, 108, 109, 110, 111, 112, 113, 119, 120, 114, 115, 116, 117, 118] (by decide +kernel) (by decide +kernel)
set_option maxRecDepth 20000 in
theorem gX4_count_X4_toldOnes : GoodIn wsX4_count (wsV RX4 215 RX4 yX4_toldOnes wsX4_toldOnes) := goodIn_app (goodIn_of _ (by decide +kernel)) ggX4_count_X4_toldOnes
theorem dX4_count_0 : decode cX4_count 0 = .ok (.iload_n 1, 1) := by decide +kernel
theorem dX4_count_1 : decode cX4_count 1 = .ok (.ifCond .lt 9, 3) := by decide +kernel
theorem dX4_count_4 : decode cX4_count 4 = .ok (.iload_n 1, 1) := by decide +kernel
theorem dX4_count_5 : decode cX4_count 5 = .ok (.bipush 6, 2) := by decide +kernel
theorem dX4_count_7 : decode cX4_count 7 = .ok (.if_icmp .le 13, 3) := by decide +kernel
theorem dX4_count_10 : decode cX4_count 10 = .ok (.new 59, 3) := by decide +kernel
theorem dX4_count_13 : decode cX4_count 13 = .ok (.dup, 1) := by decide +kernel
theorem dX4_count_14 : decode cX4_count 14 = .ok (.ldc 207, 2) := by decide +kernel
theorem dX4_count_16 : decode cX4_count 16 = .ok (.invokespecial 63, 3) := by decide +kernel
theorem dX4_count_19 : decode cX4_count 19 = .ok (.athrow, 1) := by decide +kernel
theorem dX4_count_20 : decode cX4_count 20 = .ok (.iload_n 1, 1) := by decide +kernel
theorem dX4_count_21 : decode cX4_count 21 = .ok (.tableswitch 109 0 5 #[39, 47, 58, 66, 81, 104], 39) := by decide +kernel
theorem dX4_count_60 : decode cX4_count 60 = .ok (.aload_n 0, 1) := by decide +kernel
theorem dX4_count_61 : decode cX4_count 61 = .ok (.getfield 17, 3) := by decide +kernel
theorem dX4_count_64 : decode cX4_count 64 = .ok (.getfield 95, 3) := by decide +kernel
theorem dX4_count_67 : decode cX4_count 67 = .ok (.ireturn, 1) := by decide +kernel
theorem dX4_count_68 : decode cX4_count 68 = .ok (.aload_n 0, 1) := by decide +kernel
theorem dX4_count_69 : decode cX4_count 69 = .ok (.getfield 17, 3) := by decide +kernel
theorem dX4_count_72 : decode cX4_count 72 = .ok (.getfield 98, 3) := by decide +kernel
theorem dX4_count_75 : decode cX4_count 75 = .ok (.invokestatic 148, 3) := by decide +kernel
theorem dX4_count_78 : decode cX4_count 78 = .ok (.ireturn, 1) := by decide +kernel
theorem dX4_count_79 : decode cX4_count 79 = .ok (.aload_n 0, 1) := by decide +kernel
theorem dX4_count_80 : decode cX4_count 80 = .ok (.getfield 17, 3) := by decide +kernel
theorem dX4_count_83 : decode cX4_count 83 = .ok (.invokevirtual 209, 3) := by decide +kernel
theorem dX4_count_86 : decode cX4_count 86 = .ok (.ireturn, 1) := by decide +kernel
theorem dX4_count_87 : decode cX4_count 87 = .ok (.aload_n 0, 1) := by decide +kernel
theorem dX4_count_88 : decode cX4_count 88 = .ok (.getfield 17, 3) := by decide +kernel
theorem dX4_count_91 : decode cX4_count 91 = .ok (.aload_n 0, 1) := by decide +kernel
theorem dX4_count_92 : decode cX4_count 92 = .ok (.getfield 17, 3) := by decide +kernel
theorem dX4_count_95 : decode cX4_count 95 = .ok (.getfield 98, 3) := by decide +kernel
theorem dX4_count_98 : decode cX4_count 98 = .ok (.invokevirtual 212, 3) := by decide +kernel
theorem dX4_count_101 : decode cX4_count 101 = .ok (.ireturn, 1) := by decide +kernel
theorem dX4_count_102 : decode cX4_count 102 = .ok (.aload_n 0, 1) := by decide +kernel
theorem dX4_count_103 : decode cX4_count 103 = .ok (.getfield 17, 3) := by decide +kernel
theorem dX4_count_106 : decode cX4_count 106 = .ok (.aload_n 0, 1) := by decide +kernel
theorem dX4_count_107 : decode cX4_count 107 = .ok (.getfield 17, 3) := by decide +kernel
theorem dX4_count_110 : decode cX4_count 110 = .ok (.getfield 98, 3) := by decide +kernel
theorem dX4_count_113 : decode cX4_count 113 = .ok (.invokevirtual 136, 3) := by decide +kernel
theorem dX4_count_116 : decode cX4_count 116 = .ok (.ifCond .eq 7, 3) := by decide +kernel
theorem dX4_count_119 : decode cX4_count 119 = .ok (.iconst 1, 1) := by decide +kernel
theorem dX4_count_120 : decode cX4_count 120 = .ok (.goto 4, 3) := by decide +kernel
theorem dX4_count_123 : decode cX4_count 123 = .ok (.iconst 0, 1) := by decide +kernel
theorem dX4_count_124 : decode cX4_count 124 = .ok (.ireturn, 1) := by decide +kernel
theorem dX4_count_125 : decode cX4_count 125 = .ok (.aload_n 0, 1) := by decide +kernel
theorem dX4_count_126 : decode cX4_count 126 = .ok (.invokevirtual 215, 3) := by decide +kernel
theorem dX4_count_129 : decode cX4_count 129 = .ok (.ireturn, 1) := by decide +kernel
theorem dX4_count_130 : decode cX4_count 130 = .ok (.aload_n 0, 1) := by decide +kernel
theorem dX4_count_131 : decode cX4_count 131 = .ok (.getfield 31, 3) := by decide +kernel
theorem dX4_count_134 : decode cX4_count 134 = .ok (.ireturn, 1) := by decide +kernel
set_option maxRecDepth 20000 in
theorem ggX4_prime_X4_isPrime : GoodIn wsX4_prime wsX4_isPrime := goodIn_r _ [7, 8, 9, 6, 10] (by decide +kernel) (by decide +kernel)
set_option maxRecDepth 20000 in
theorem gX4_prime_X4_isPrime : GoodIn wsX4_prime (va_wsS RX4 218 yX4_isPrime wsX4_isPrime) := goodIn_app (goodIn_of _ (by decide +kernel)) ggX4_prime_X4_isPrime
set_option maxRecDepth 20000 in
theorem ggX4_prime_X4_strongestFor : GoodIn wsX4_prime wsX4_strongestFor := goodIn_r _ [14, 3, 15, 16, 17, 18, 19, 20, 21, 22, 23, 24, 25, 26, 6, 27, 28, 29, 30, 31, 32, 33, 34, 35, 36, 37, 38, 39, 40, 41, 42, 8, 9, 10, 51, 52, 53, 54, 55, 56, 57, 58, 64, 65, 66, 67, 68, 59, 60, 61, 62, 63] (by decide +kernel) (by decide +kernel)
set_option maxRecDepth 20000 in
theorem gX4_prime_X4_strongestFor : GoodIn wsX4_prime (wsV RX4 223 RX4 yX4_strongestFor wsX4_strongestFor) := goodIn_app (goodIn_of _ (by decide +kernel)) ggX4_prime_X4_strongestFor
set_option maxRecDepth 20000 in
theorem ggX4_prime_X3_at : GoodIn wsX4_prime wsX3_at := goodIn_r _ [31, 32, 33, 64, 65, 66, 67, 68] (by decide +kernel) (by decide +kernel)
set_option maxRecDepth 20000 in
theorem gX4_prime_X3_at : GoodIn wsX4_prime (wsV RX4 116 RX3 yX3_at wsX3_at) := goodIn_app (goodIn_of _ (by decide +kernel)) ggX4_prime_X3_at
set_option maxRecDepth 20000 in
theorem ggX4_prime_X4_powerIn : GoodIn wsX4_prime wsX4_powerIn := goodIn_r _ [36, 37, 38, 39, 40, 41, 42, 8, 9, 6, 10, 59, 60, 61, 62, 63] (by decide +kernel) (by decide +kernel)
set_option maxRecDepth 20000 in
theorem gX4_prime_X4_powerIn : GoodIn wsX4_prime (va_wsS RX4 226 yX4_powerIn wsX4_powerIn) := goodIn_app (goodIn_of _ (by decide +kernel)) ggX4_prime_X4_powerIn
set_option maxRecDepth 20000 in
theorem ggX4_prime_X4_rest : GoodIn wsX4_prime wsX4_rest := goodIn_r _ [10] (by decide +kernel) (by decide +kernel)
set_option maxRecDepth 20000 in
theorem gX4_prime_X4_rest : GoodIn wsX4_prime (va_wsS RX4 230 yX4_rest wsX4_rest) := goodIn_app (goodIn_of _ (by decide +kernel)) ggX4_prime_X4_rest
set_option maxRecDepth 20000 in
theorem ggX4_prime_X4_contradictionsByPrime : GoodIn wsX4_prime wsX4_contradictionsByPrime := goodIn_r _ [46, 3, 47, 48, 49, 50, 28, 29, 30, 18, 31, 32, 33, 15, 16, 17, 19, 20, 21, 22, 23, 24, 25, 26, 6, 27, 37, 38, 39, 40, 41, 42, 34, 35, 36, 8, 9, 10, 51, 52, 53, 54, 55, 56, 57, 58, 64, 65, 66, 67, 68, 59, 60, 61, 62, 63] (by decide +kernel) (by decide +kernel)
set_option maxRecDepth 20000 in
theorem gX4_prime_X4_contradictionsByPrime : GoodIn wsX4_prime (wsV RX4 234 RX4 yX4_contradictionsByPrime wsX4_contradictionsByPrime) := goodIn_app (goodIn_of _ (by decide +kernel)) ggX4_prime_X4_contradictionsByPrime
theorem dX4_prime_0 : decode cX4_prime 0 = .ok (.iload_n 1, 1) := by decide +kernel
theorem dX4_prime_1 : decode cX4_prime 1 = .ok (.invokestatic 218, 3) := by decide +kernel
theorem dX4_prime_4 : decode cX4_prime 4 = .ok (.ifCond .eq 12, 3) := by decide +kernel
theorem dX4_prime_7 : decode cX4_prime 7 = .ok (.iload_n 2, 1) := by decide +kernel
theorem dX4_prime_8 : decode cX4_prime 8 = .ok (.ifCond .lt 8, 3) := by decide +kernel
theorem dX4_prime_11 : decode cX4_prime 11 = .ok (.iload_n 2, 1) := by decide +kernel
theorem dX4_prime_12 : decode cX4_prime 12 = .ok (.iconst 3, 1) := by decide +kernel
theorem dX4_prime_13 : decode cX4_prime 13 = .ok (.if_icmp .le 13, 3) := by decide +kernel
theorem dX4_prime_16 : decode cX4_prime 16 = .ok (.new 59, 3) := by decide +kernel
theorem dX4_prime_19 : decode cX4_prime 19 = .ok (.dup, 1) := by decide +kernel
theorem dX4_prime_20 : decode cX4_prime 20 = .ok (.ldc 221, 2) := by decide +kernel
theorem dX4_prime_22 : decode cX4_prime 22 = .ok (.invokespecial 63, 3) := by decide +kernel
theorem dX4_prime_25 : decode cX4_prime 25 = .ok (.athrow, 1) := by decide +kernel
theorem dX4_prime_26 : decode cX4_prime 26 = .ok (.aload_n 0, 1) := by decide +kernel
theorem dX4_prime_27 : decode cX4_prime 27 = .ok (.iload_n 1, 1) := by decide +kernel
theorem dX4_prime_28 : decode cX4_prime 28 = .ok (.invokevirtual 223, 3) := by decide +kernel
theorem dX4_prime_31 : decode cX4_prime 31 = .ok (.istore_n 3, 1) := by decide +kernel
theorem dX4_prime_32 : decode cX4_prime 32 = .ok (.iload_n 2, 1) := by decide +kernel
theorem dX4_prime_33 : decode cX4_prime 33 = .ok (.ifCond .ne 5, 3) := by decide +kernel
theorem dX4_prime_36 : decode cX4_prime 36 = .ok (.iload_n 3, 1) := by decide +kernel
theorem dX4_prime_37 : decode cX4_prime 37 = .ok (.ireturn, 1) := by decide +kernel
theorem dX4_prime_38 : decode cX4_prime 38 = .ok (.iload_n 3, 1) := by decide +kernel
theorem dX4_prime_39 : decode cX4_prime 39 = .ok (.iconst (-1), 1) := by decide +kernel
theorem dX4_prime_40 : decode cX4_prime 40 = .ok (.if_icmp .ne 14, 3) := by decide +kernel
theorem dX4_prime_43 : decode cX4_prime 43 = .ok (.iload_n 2, 1) := by decide +kernel
theorem dX4_prime_44 : decode cX4_prime 44 = .ok (.iconst 1, 1) := by decide +kernel
theorem dX4_prime_45 : decode cX4_prime 45 = .ok (.if_icmp .ne 7, 3) := by decide +kernel
theorem dX4_prime_48 : decode cX4_prime 48 = .ok (.iconst 1, 1) := by decide +kernel
theorem dX4_prime_49 : decode cX4_prime 49 = .ok (.goto 4, 3) := by decide +kernel
theorem dX4_prime_52 : decode cX4_prime 52 = .ok (.iconst 0, 1) := by decide +kernel
theorem dX4_prime_53 : decode cX4_prime 53 = .ok (.ireturn, 1) := by decide +kernel
theorem dX4_prime_54 : decode cX4_prime 54 = .ok (.aload_n 0, 1) := by decide +kernel
theorem dX4_prime_55 : decode cX4_prime 55 = .ok (.getfield 17, 3) := by decide +kernel
theorem dX4_prime_58 : decode cX4_prime 58 = .ok (.iload_n 3, 1) := by decide +kernel
theorem dX4_prime_59 : decode cX4_prime 59 = .ok (.invokevirtual 116, 3) := by decide +kernel
theorem dX4_prime_62 : decode cX4_prime 62 = .ok (.astore 4, 2) := by decide +kernel
theorem dX4_prime_64 : decode cX4_prime 64 = .ok (.aload 4, 2) := by decide +kernel
theorem dX4_prime_66 : decode cX4_prime 66 = .ok (.iload_n 1, 1) := by decide +kernel
theorem dX4_prime_67 : decode cX4_prime 67 = .ok (.invokestatic 226, 3) := by decide +kernel
theorem dX4_prime_70 : decode cX4_prime 70 = .ok (.lstore 5, 2) := by decide +kernel
theorem dX4_prime_72 : decode cX4_prime 72 = .ok (.iload_n 2, 1) := by decide +kernel
theorem dX4_prime_73 : decode cX4_prime 73 = .ok (.lookupswitch 44 #[(1, 27), (2, 31)], 27) := by decide +kernel
theorem dX4_prime_100 : decode cX4_prime 100 = .ok (.lload 5, 2) := by decide +kernel
theorem dX4_prime_102 : decode cX4_prime 102 = .ok (.l2i, 1) := by decide +kernel
theorem dX4_prime_103 : decode cX4_prime 103 = .ok (.ireturn, 1) := by decide +kernel
theorem dX4_prime_104 : decode cX4_prime 104 = .ok (.aload 4, 2) := by decide +kernel
theorem dX4_prime_106 : decode cX4_prime 106 = .ok (.getfield 126, 3) := by decide +kernel
theorem dX4_prime_109 : decode cX4_prime 109 = .ok (.i2l, 1) := by decide +kernel
theorem dX4_prime_110 : decode cX4_prime 110 = .ok (.lload 5, 2) := by decide +kernel
theorem dX4_prime_112 : decode cX4_prime 112 = .ok (.invokestatic 230, 3) := by decide +kernel
theorem dX4_prime_115 : decode cX4_prime 115 = .ok (.l2i, 1) := by decide +kernel
theorem dX4_prime_116 : decode cX4_prime 116 = .ok (.ireturn, 1) := by decide +kernel
theorem dX4_prime_117 : decode cX4_prime 117 = .ok (.aload_n 0, 1) := by decide +kernel
theorem dX4_prime_118 : decode cX4_prime 118 = .ok (.aload 4, 2) := by decide +kernel
theorem dX4_prime_120 : decode cX4_prime 120 = .ok (.iload_n 1, 1) := by decide +kernel
theorem dX4_prime_121 : decode cX4_prime 121 = .ok (.invokevirtual 234, 3) := by decide +kernel
theorem dX4_prime_124 : decode cX4_prime 124 = .ok (.ireturn, 1) := by decide +kernel
set_option maxRecDepth 20000 in
theorem ggX4_answer_X4_isNumber : GoodIn wsX4_answer wsX4_isNumber := goodIn_r _ [8, 9] (by decide +kernel) (by decide +kernel)
set_option maxRecDepth 20000 in
theorem gX4_answer_X4_isNumber : GoodIn wsX4_answer (va_wsS RX4 238 yX4_isNumber wsX4_isNumber) := goodIn_app (goodIn_of _ (by decide +kernel)) ggX4_answer_X4_isNumber
set_option maxRecDepth 20000 in
theorem ggX4_answer_X3_arePossible : GoodIn wsX4_answer wsX3_arePossible := goodIn_r _ [14, 15, 16, 7, 17, 18, 19, 20, 13, 21, 22, 66, 67, 68, 69, 70] (by decide +kernel) (by decide +kernel)
set_option maxRecDepth 20000 in
theorem gX4_answer_X3_arePossible : GoodIn wsX4_answer (wsV RX4 136 RX3 yX3_arePossible wsX3_arePossible) := goodIn_app (goodIn_of _ (by decide +kernel)) ggX4_answer_X3_arePossible
set_option maxRecDepth 20000 in
theorem ggX4_answer_X4_join : GoodIn wsX4_answer wsX4_join := goodIn_r _ [26, 27, 3, 28, 29, 30, 31, 32, 33, 34, 35, 16, 7, 17, 36, 37, 38, 13, 39, 40, 41, 42, 43, 44, 45, 46, 47, 48, 49, 50, 51, 52, 53, 58, 59, 60, 61, 62, 63, 64, 65, 66, 67, 68, 69, 70, 71, 72, 73, 74, 75, 76, 77] (by decide +kernel) (by decide +kernel)
set_option maxRecDepth 20000 in
theorem gX4_answer_X4_join : GoodIn wsX4_answer (wsV RX4 246 RX4 yX4_join wsX4_join) := goodIn_app (goodIn_of _ (by decide +kernel)) ggX4_answer_X4_join
set_option maxRecDepth 20000 in
theorem ggX4_answer_X1_leastFrom : GoodIn wsX4_answer wsX1_leastFrom := goodIn_r _ [57, 34, 33, 50, 7, 51, 71, 72] (by decide +kernel) (by decide +kernel)
set_option maxRecDepth 20000 in
theorem gX4_answer_X1_leastFrom : GoodIn wsX4_answer (wsV RX4 250 RX1 yX1_leastFrom wsX1_leastFrom) := goodIn_app (goodIn_of _ (by decide +kernel)) ggX4_answer_X1_leastFrom
theorem dX4_answer_0 : decode cX4_answer 0 = .ok (.lload_n 1, 1) := by decide +kernel
theorem dX4_answer_1 : decode cX4_answer 1 = .ok (.invokestatic 238, 3) := by decide +kernel
theorem dX4_answer_4 : decode cX4_answer 4 = .ok (.ifCond .eq 13, 3) := by decide +kernel
theorem dX4_answer_7 : decode cX4_answer 7 = .ok (.iload_n 3, 1) := by decide +kernel
theorem dX4_answer_8 : decode cX4_answer 8 = .ok (.ifCond .lt 9, 3) := by decide +kernel
theorem dX4_answer_11 : decode cX4_answer 11 = .ok (.iload_n 3, 1) := by decide +kernel
theorem dX4_answer_12 : decode cX4_answer 12 = .ok (.bipush 99, 2) := by decide +kernel
theorem dX4_answer_14 : decode cX4_answer 14 = .ok (.if_icmp .le 13, 3) := by decide +kernel
theorem dX4_answer_17 : decode cX4_answer 17 = .ok (.new 59, 3) := by decide +kernel
theorem dX4_answer_20 : decode cX4_answer 20 = .ok (.dup, 1) := by decide +kernel
theorem dX4_answer_21 : decode cX4_answer 21 = .ok (.ldc 242, 2) := by decide +kernel
theorem dX4_answer_23 : decode cX4_answer 23 = .ok (.invokespecial 63, 3) := by decide +kernel
theorem dX4_answer_26 : decode cX4_answer 26 = .ok (.athrow, 1) := by decide +kernel
theorem dX4_answer_27 : decode cX4_answer 27 = .ok (.aload_n 0, 1) := by decide +kernel
theorem dX4_answer_28 : decode cX4_answer 28 = .ok (.getfield 17, 3) := by decide +kernel
theorem dX4_answer_31 : decode cX4_answer 31 = .ok (.aload_n 0, 1) := by decide +kernel
theorem dX4_answer_32 : decode cX4_answer 32 = .ok (.getfield 17, 3) := by decide +kernel
theorem dX4_answer_35 : decode cX4_answer 35 = .ok (.getfield 98, 3) := by decide +kernel
theorem dX4_answer_38 : decode cX4_answer 38 = .ok (.invokevirtual 136, 3) := by decide +kernel
theorem dX4_answer_41 : decode cX4_answer 41 = .ok (.ifCond .ne 7, 3) := by decide +kernel
theorem dX4_answer_44 : decode cX4_answer 44 = .ok (.ldc2_w 244, 3) := by decide +kernel
theorem dX4_answer_47 : decode cX4_answer 47 = .ok (.lreturn, 1) := by decide +kernel
theorem dX4_answer_48 : decode cX4_answer 48 = .ok (.aload_n 0, 1) := by decide +kernel
theorem dX4_answer_49 : decode cX4_answer 49 = .ok (.aload_n 0, 1) := by decide +kernel
theorem dX4_answer_50 : decode cX4_answer 50 = .ok (.getfield 17, 3) := by decide +kernel
theorem dX4_answer_53 : decode cX4_answer 53 = .ok (.getfield 98, 3) := by decide +kernel
theorem dX4_answer_56 : decode cX4_answer 56 = .ok (.invokevirtual 246, 3) := by decide +kernel
theorem dX4_answer_59 : decode cX4_answer 59 = .ok (.astore 4, 2) := by decide +kernel
theorem dX4_answer_61 : decode cX4_answer 61 = .ok (.aload 4, 2) := by decide +kernel
theorem dX4_answer_63 : decode cX4_answer 63 = .ok (.lload_n 1, 1) := by decide +kernel
theorem dX4_answer_64 : decode cX4_answer 64 = .ok (.invokevirtual 250, 3) := by decide +kernel
theorem dX4_answer_67 : decode cX4_answer 67 = .ok (.iload_n 3, 1) := by decide +kernel
theorem dX4_answer_68 : decode cX4_answer 68 = .ok (.i2l, 1) := by decide +kernel
theorem dX4_answer_69 : decode cX4_answer 69 = .ok (.aload 4, 2) := by decide +kernel
theorem dX4_answer_71 : decode cX4_answer 71 = .ok (.getfield 254, 3) := by decide +kernel
theorem dX4_answer_74 : decode cX4_answer 74 = .ok (.lmul, 1) := by decide +kernel
theorem dX4_answer_75 : decode cX4_answer 75 = .ok (.ladd, 1) := by decide +kernel
theorem dX4_answer_76 : decode cX4_answer 76 = .ok (.lreturn, 1) := by decide +kernel
set_option maxRecDepth 20000 in
theorem ggX4_nearest_X4_isNumber : GoodIn wsX4_nearest wsX4_isNumber := goodIn_r _ [8, 9] (by decide +kernel) (by decide +kernel)
set_option maxRecDepth 20000 in
theorem gX4_nearest_X4_isNumber : GoodIn wsX4_nearest (va_wsS RX4 238 yX4_isNumber wsX4_isNumber) := goodIn_app (goodIn_of _ (by decide +kernel)) ggX4_nearest_X4_isNumber
set_option maxRecDepth 20000 in
theorem ggX4_nearest_X3_arePossible : GoodIn wsX4_nearest wsX3_arePossible := goodIn_r _ [14, 15, 16, 7, 17, 18, 19, 20, 13, 21, 22, 66, 67, 68, 69, 70] (by decide +kernel) (by decide +kernel)
set_option maxRecDepth 20000 in
theorem gX4_nearest_X3_arePossible : GoodIn wsX4_nearest (wsV RX4 136 RX3 yX3_arePossible wsX3_arePossible) := goodIn_app (goodIn_of _ (by decide +kernel)) ggX4_nearest_X3_arePossible
set_option maxRecDepth 20000 in
theorem ggX4_nearest_X4_join : GoodIn wsX4_nearest wsX4_join := goodIn_r _ [26, 27, 3, 28, 29, 30, 31, 32, 33, 34, 35, 16, 7, 17, 36, 37, 38, 13, 39, 40, 41, 42, 43, 44, 45, 46, 47, 48, 49, 50, 51, 52, 53, 58, 59, 60, 61, 62, 63, 64, 65, 66, 67, 68, 69, 70, 71, 72, 73, 74, 75, 76, 77] (by decide +kernel) (by decide +kernel)
set_option maxRecDepth 20000 in
theorem gX4_nearest_X4_join : GoodIn wsX4_nearest (wsV RX4 246 RX4 yX4_join wsX4_join) := goodIn_app (goodIn_of _ (by decide +kernel)) ggX4_nearest_X4_join
set_option maxRecDepth 20000 in
theorem ggX4_nearest_X1_leastFrom : GoodIn wsX4_nearest wsX1_leastFrom := goodIn_r _ [57, 34, 33, 50, 7, 51, 71, 72] (by decide +kernel) (by decide +kernel)
set_option maxRecDepth 20000 in
theorem gX4_nearest_X1_leastFrom : GoodIn wsX4_nearest (wsV RX4 250 RX1 yX1_leastFrom wsX1_leastFrom) := goodIn_app (goodIn_of _ (by decide +kernel)) ggX4_nearest_X1_leastFrom
theorem dX4_nearest_0 : decode cX4_nearest 0 = .ok (.lload_n 1, 1) := by decide +kernel
theorem dX4_nearest_1 : decode cX4_nearest 1 = .ok (.invokestatic 238, 3) := by decide +kernel
theorem dX4_nearest_4 : decode cX4_nearest 4 = .ok (.ifCond .ne 14, 3) := by decide +kernel
theorem dX4_nearest_7 : decode cX4_nearest 7 = .ok (.new 59, 3) := by decide +kernel
theorem dX4_nearest_10 : decode cX4_nearest 10 = .ok (.dup, 1) := by decide +kernel
theorem dX4_nearest_11 : decode cX4_nearest 11 = .ok (.ldc_w 257, 3) := by decide +kernel
theorem dX4_nearest_14 : decode cX4_nearest 14 = .ok (.invokespecial 63, 3) := by decide +kernel
theorem dX4_nearest_17 : decode cX4_nearest 17 = .ok (.athrow, 1) := by decide +kernel
theorem dX4_nearest_18 : decode cX4_nearest 18 = .ok (.aload_n 0, 1) := by decide +kernel
theorem dX4_nearest_19 : decode cX4_nearest 19 = .ok (.getfield 17, 3) := by decide +kernel
theorem dX4_nearest_22 : decode cX4_nearest 22 = .ok (.aload_n 0, 1) := by decide +kernel
theorem dX4_nearest_23 : decode cX4_nearest 23 = .ok (.getfield 17, 3) := by decide +kernel
theorem dX4_nearest_26 : decode cX4_nearest 26 = .ok (.getfield 98, 3) := by decide +kernel
theorem dX4_nearest_29 : decode cX4_nearest 29 = .ok (.invokevirtual 136, 3) := by decide +kernel
theorem dX4_nearest_32 : decode cX4_nearest 32 = .ok (.ifCond .ne 7, 3) := by decide +kernel
theorem dX4_nearest_35 : decode cX4_nearest 35 = .ok (.ldc2_w 244, 3) := by decide +kernel
theorem dX4_nearest_38 : decode cX4_nearest 38 = .ok (.lreturn, 1) := by decide +kernel
theorem dX4_nearest_39 : decode cX4_nearest 39 = .ok (.aload_n 0, 1) := by decide +kernel
theorem dX4_nearest_40 : decode cX4_nearest 40 = .ok (.aload_n 0, 1) := by decide +kernel
theorem dX4_nearest_41 : decode cX4_nearest 41 = .ok (.getfield 17, 3) := by decide +kernel
theorem dX4_nearest_44 : decode cX4_nearest 44 = .ok (.getfield 98, 3) := by decide +kernel
theorem dX4_nearest_47 : decode cX4_nearest 47 = .ok (.invokevirtual 246, 3) := by decide +kernel
theorem dX4_nearest_50 : decode cX4_nearest 50 = .ok (.astore_n 3, 1) := by decide +kernel
theorem dX4_nearest_51 : decode cX4_nearest 51 = .ok (.aload_n 3, 1) := by decide +kernel
theorem dX4_nearest_52 : decode cX4_nearest 52 = .ok (.lload_n 1, 1) := by decide +kernel
theorem dX4_nearest_53 : decode cX4_nearest 53 = .ok (.invokevirtual 250, 3) := by decide +kernel
theorem dX4_nearest_56 : decode cX4_nearest 56 = .ok (.lstore 4, 2) := by decide +kernel
theorem dX4_nearest_58 : decode cX4_nearest 58 = .ok (.lload 4, 2) := by decide +kernel
theorem dX4_nearest_60 : decode cX4_nearest 60 = .ok (.aload_n 3, 1) := by decide +kernel
theorem dX4_nearest_61 : decode cX4_nearest 61 = .ok (.getfield 254, 3) := by decide +kernel
theorem dX4_nearest_64 : decode cX4_nearest 64 = .ok (.lsub, 1) := by decide +kernel
theorem dX4_nearest_65 : decode cX4_nearest 65 = .ok (.lstore 6, 2) := by decide +kernel
theorem dX4_nearest_67 : decode cX4_nearest 67 = .ok (.lload 6, 2) := by decide +kernel
theorem dX4_nearest_69 : decode cX4_nearest 69 = .ok (.lconst 0, 1) := by decide +kernel
theorem dX4_nearest_70 : decode cX4_nearest 70 = .ok (.lcmp, 1) := by decide +kernel
theorem dX4_nearest_71 : decode cX4_nearest 71 = .ok (.ifCond .lt 20, 3) := by decide +kernel
theorem dX4_nearest_74 : decode cX4_nearest 74 = .ok (.lload_n 1, 1) := by decide +kernel
theorem dX4_nearest_75 : decode cX4_nearest 75 = .ok (.lload 6, 2) := by decide +kernel
theorem dX4_nearest_77 : decode cX4_nearest 77 = .ok (.lsub, 1) := by decide +kernel
theorem dX4_nearest_78 : decode cX4_nearest 78 = .ok (.lload 4, 2) := by decide +kernel
theorem dX4_nearest_80 : decode cX4_nearest 80 = .ok (.lload_n 1, 1) := by decide +kernel
theorem dX4_nearest_81 : decode cX4_nearest 81 = .ok (.lsub, 1) := by decide +kernel
theorem dX4_nearest_82 : decode cX4_nearest 82 = .ok (.lcmp, 1) := by decide +kernel
theorem dX4_nearest_83 : decode cX4_nearest 83 = .ok (.ifCond .gt 8, 3) := by decide +kernel
theorem dX4_nearest_86 : decode cX4_nearest 86 = .ok (.lload 6, 2) := by decide +kernel
theorem dX4_nearest_88 : decode cX4_nearest 88 = .ok (.goto 5, 3) := by decide +kernel
theorem dX4_nearest_91 : decode cX4_nearest 91 = .ok (.lload 4, 2) := by decide +kernel
theorem dX4_nearest_93 : decode cX4_nearest 93 = .ok (.lreturn, 1) := by decide +kernel
set_option maxRecDepth 20000 in
theorem ggX4_between_X4_isNumber : GoodIn wsX4_between wsX4_isNumber := goodIn_r _ [7, 8] (by decide +kernel) (by decide +kernel)
set_option maxRecDepth 20000 in
theorem gX4_between_X4_isNumber : GoodIn wsX4_between (va_wsS RX4 238 yX4_isNumber wsX4_isNumber) := goodIn_app (goodIn_of _ (by decide +kernel)) ggX4_between_X4_isNumber
set_option maxRecDepth 20000 in
theorem ggX4_between_X3_arePossible : GoodIn wsX4_between wsX3_arePossible := goodIn_r _ [13, 14, 15, 6, 16, 17, 18, 19, 12, 20, 21, 65, 66, 67, 68, 69] (by decide +kernel) (by decide +kernel)
set_option maxRecDepth 20000 in
theorem gX4_between_X3_arePossible : GoodIn wsX4_between (wsV RX4 136 RX3 yX3_arePossible wsX3_arePossible) := goodIn_app (goodIn_of _ (by decide +kernel)) ggX4_between_X3_arePossible
set_option maxRecDepth 20000 in
theorem ggX4_between_X4_join : GoodIn wsX4_between wsX4_join := goodIn_r _ [25, 26, 3, 27, 28, 29, 30, 31, 32, 33, 34, 15, 6, 16, 35, 36, 37, 12, 38, 39, 40, 41, 42, 43, 44, 45, 46, 47, 48, 49, 50, 51, 52, 57, 58, 59, 60, 61, 62, 63, 64, 65, 66, 67, 68, 69, 70, 71, 72, 73, 74, 75, 76] (by decide +kernel) (by decide +kernel)
set_option maxRecDepth 20000 in
theorem gX4_between_X4_join : GoodIn wsX4_between (wsV RX4 246 RX4 yX4_join wsX4_join) := goodIn_app (goodIn_of _ (by decide +kernel)) ggX4_between_X4_join
set_option maxRecDepth 20000 in
theorem ggX4_between_X1_answersUpTo : GoodIn wsX4_between wsX1_answersUpTo := goodIn_r _ [56, 33, 32, 47, 6, 48, 70, 71] (by decide +kernel) (by decide +kernel)
set_option maxRecDepth 20000 in
theorem gX4_between_X1_answersUpTo : GoodIn wsX4_between (wsV RX4 261 RX1 yX1_answersUpTo wsX1_answersUpTo) := goodIn_app (goodIn_of _ (by decide +kernel)) ggX4_between_X1_answersUpTo
theorem dX4_between_0 : decode cX4_between 0 = .ok (.lload_n 1, 1) := by decide +kernel
theorem dX4_between_1 : decode cX4_between 1 = .ok (.invokestatic 238, 3) := by decide +kernel
theorem dX4_between_4 : decode cX4_between 4 = .ok (.ifCond .eq 10, 3) := by decide +kernel
theorem dX4_between_7 : decode cX4_between 7 = .ok (.lload_n 3, 1) := by decide +kernel
theorem dX4_between_8 : decode cX4_between 8 = .ok (.invokestatic 238, 3) := by decide +kernel
theorem dX4_between_11 : decode cX4_between 11 = .ok (.ifCond .ne 14, 3) := by decide +kernel
theorem dX4_between_14 : decode cX4_between 14 = .ok (.new 59, 3) := by decide +kernel
theorem dX4_between_17 : decode cX4_between 17 = .ok (.dup, 1) := by decide +kernel
theorem dX4_between_18 : decode cX4_between 18 = .ok (.ldc_w 259, 3) := by decide +kernel
theorem dX4_between_21 : decode cX4_between 21 = .ok (.invokespecial 63, 3) := by decide +kernel
theorem dX4_between_24 : decode cX4_between 24 = .ok (.athrow, 1) := by decide +kernel
theorem dX4_between_25 : decode cX4_between 25 = .ok (.lload_n 3, 1) := by decide +kernel
theorem dX4_between_26 : decode cX4_between 26 = .ok (.lload_n 1, 1) := by decide +kernel
theorem dX4_between_27 : decode cX4_between 27 = .ok (.lcmp, 1) := by decide +kernel
theorem dX4_between_28 : decode cX4_between 28 = .ok (.ifCond .lt 20, 3) := by decide +kernel
theorem dX4_between_31 : decode cX4_between 31 = .ok (.aload_n 0, 1) := by decide +kernel
theorem dX4_between_32 : decode cX4_between 32 = .ok (.getfield 17, 3) := by decide +kernel
theorem dX4_between_35 : decode cX4_between 35 = .ok (.aload_n 0, 1) := by decide +kernel
theorem dX4_between_36 : decode cX4_between 36 = .ok (.getfield 17, 3) := by decide +kernel
theorem dX4_between_39 : decode cX4_between 39 = .ok (.getfield 98, 3) := by decide +kernel
theorem dX4_between_42 : decode cX4_between 42 = .ok (.invokevirtual 136, 3) := by decide +kernel
theorem dX4_between_45 : decode cX4_between 45 = .ok (.ifCond .ne 5, 3) := by decide +kernel
theorem dX4_between_48 : decode cX4_between 48 = .ok (.lconst 0, 1) := by decide +kernel
theorem dX4_between_49 : decode cX4_between 49 = .ok (.lreturn, 1) := by decide +kernel
theorem dX4_between_50 : decode cX4_between 50 = .ok (.aload_n 0, 1) := by decide +kernel
theorem dX4_between_51 : decode cX4_between 51 = .ok (.aload_n 0, 1) := by decide +kernel
theorem dX4_between_52 : decode cX4_between 52 = .ok (.getfield 17, 3) := by decide +kernel
theorem dX4_between_55 : decode cX4_between 55 = .ok (.getfield 98, 3) := by decide +kernel
theorem dX4_between_58 : decode cX4_between 58 = .ok (.invokevirtual 246, 3) := by decide +kernel
theorem dX4_between_61 : decode cX4_between 61 = .ok (.astore 5, 2) := by decide +kernel
theorem dX4_between_63 : decode cX4_between 63 = .ok (.aload 5, 2) := by decide +kernel
theorem dX4_between_65 : decode cX4_between 65 = .ok (.lload_n 3, 1) := by decide +kernel
theorem dX4_between_66 : decode cX4_between 66 = .ok (.invokevirtual 261, 3) := by decide +kernel
theorem dX4_between_69 : decode cX4_between 69 = .ok (.aload 5, 2) := by decide +kernel
theorem dX4_between_71 : decode cX4_between 71 = .ok (.lload_n 1, 1) := by decide +kernel
theorem dX4_between_72 : decode cX4_between 72 = .ok (.lconst 1, 1) := by decide +kernel
theorem dX4_between_73 : decode cX4_between 73 = .ok (.lsub, 1) := by decide +kernel
theorem dX4_between_74 : decode cX4_between 74 = .ok (.invokevirtual 261, 3) := by decide +kernel
theorem dX4_between_77 : decode cX4_between 77 = .ok (.lsub, 1) := by decide +kernel
theorem dX4_between_78 : decode cX4_between 78 = .ok (.lreturn, 1) := by decide +kernel
set_option maxRecDepth 20000 in
theorem ggX4_misses_X4_isNumber : GoodIn wsX4_misses wsX4_isNumber := goodIn_r _ [7, 8] (by decide +kernel) (by decide +kernel)
set_option maxRecDepth 20000 in
theorem gX4_misses_X4_isNumber : GoodIn wsX4_misses (va_wsS RX4 238 yX4_isNumber wsX4_isNumber) := goodIn_app (goodIn_of _ (by decide +kernel)) ggX4_misses_X4_isNumber
set_option maxRecDepth 20000 in
theorem ggX4_misses_X3_isOn : GoodIn wsX4_misses wsX3_isOn := goodIn_r _ [13, 14, 15, 16, 17, 12, 18, 19, 20, 6, 21, 49, 50, 51, 52, 53] (by decide +kernel) (by decide +kernel)
set_option maxRecDepth 20000 in
theorem gX4_misses_X3_isOn : GoodIn wsX4_misses (wsV RX4 113 RX3 yX3_isOn wsX3_isOn) := goodIn_app (goodIn_of _ (by decide +kernel)) ggX4_misses_X3_isOn
set_option maxRecDepth 20000 in
theorem ggX4_misses_X3_at : GoodIn wsX4_misses wsX3_at := goodIn_r _ [25, 26, 27, 49, 50, 51, 52, 53] (by decide +kernel) (by decide +kernel)
set_option maxRecDepth 20000 in
theorem gX4_misses_X3_at : GoodIn wsX4_misses (wsV RX4 116 RX3 yX3_at wsX3_at) := goodIn_app (goodIn_of _ (by decide +kernel)) ggX4_misses_X3_at
set_option maxRecDepth 20000 in
theorem ggX4_misses_X0_isFulfilledBy : GoodIn wsX4_misses wsX0_isFulfilledBy := goodIn_r _ [32, 33, 34, 35, 36, 37, 31, 38, 39, 6, 40, 54, 55, 56, 57, 58] (by decide +kernel) (by decide +kernel)
set_option maxRecDepth 20000 in
theorem gX4_misses_X0_isFulfilledBy : GoodIn wsX4_misses (wsV RX4 264 RX0 yX0_isFulfilledBy wsX0_isFulfilledBy) := goodIn_app (goodIn_of _ (by decide +kernel)) ggX4_misses_X0_isFulfilledBy
theorem dX4_misses_0 : decode cX4_misses 0 = .ok (.lload_n 1, 1) := by decide +kernel
theorem dX4_misses_1 : decode cX4_misses 1 = .ok (.invokestatic 238, 3) := by decide +kernel
theorem dX4_misses_4 : decode cX4_misses 4 = .ok (.ifCond .ne 14, 3) := by decide +kernel
theorem dX4_misses_7 : decode cX4_misses 7 = .ok (.new 59, 3) := by decide +kernel
theorem dX4_misses_10 : decode cX4_misses 10 = .ok (.dup, 1) := by decide +kernel
theorem dX4_misses_11 : decode cX4_misses 11 = .ok (.ldc_w 257, 3) := by decide +kernel
theorem dX4_misses_14 : decode cX4_misses 14 = .ok (.invokespecial 63, 3) := by decide +kernel
theorem dX4_misses_17 : decode cX4_misses 17 = .ok (.athrow, 1) := by decide +kernel
theorem dX4_misses_18 : decode cX4_misses 18 = .ok (.iconst 0, 1) := by decide +kernel
theorem dX4_misses_19 : decode cX4_misses 19 = .ok (.istore_n 3, 1) := by decide +kernel
theorem dX4_misses_20 : decode cX4_misses 20 = .ok (.iconst 0, 1) := by decide +kernel
theorem dX4_misses_21 : decode cX4_misses 21 = .ok (.istore 4, 2) := by decide +kernel
theorem dX4_misses_23 : decode cX4_misses 23 = .ok (.iload 4, 2) := by decide +kernel
theorem dX4_misses_25 : decode cX4_misses 25 = .ok (.aload_n 0, 1) := by decide +kernel
theorem dX4_misses_26 : decode cX4_misses 26 = .ok (.getfield 17, 3) := by decide +kernel
theorem dX4_misses_29 : decode cX4_misses 29 = .ok (.getfield 95, 3) := by decide +kernel
theorem dX4_misses_32 : decode cX4_misses 32 = .ok (.if_icmp .ge 40, 3) := by decide +kernel
theorem dX4_misses_35 : decode cX4_misses 35 = .ok (.aload_n 0, 1) := by decide +kernel
theorem dX4_misses_36 : decode cX4_misses 36 = .ok (.getfield 17, 3) := by decide +kernel
theorem dX4_misses_39 : decode cX4_misses 39 = .ok (.iload 4, 2) := by decide +kernel
theorem dX4_misses_41 : decode cX4_misses 41 = .ok (.invokevirtual 113, 3) := by decide +kernel
theorem dX4_misses_44 : decode cX4_misses 44 = .ok (.ifCond .eq 22, 3) := by decide +kernel
theorem dX4_misses_47 : decode cX4_misses 47 = .ok (.aload_n 0, 1) := by decide +kernel
theorem dX4_misses_48 : decode cX4_misses 48 = .ok (.getfield 17, 3) := by decide +kernel
theorem dX4_misses_51 : decode cX4_misses 51 = .ok (.iload 4, 2) := by decide +kernel
theorem dX4_misses_53 : decode cX4_misses 53 = .ok (.invokevirtual 116, 3) := by decide +kernel
theorem dX4_misses_56 : decode cX4_misses 56 = .ok (.lload_n 1, 1) := by decide +kernel
theorem dX4_misses_57 : decode cX4_misses 57 = .ok (.invokevirtual 264, 3) := by decide +kernel
theorem dX4_misses_60 : decode cX4_misses 60 = .ok (.ifCond .ne 6, 3) := by decide +kernel
theorem dX4_misses_63 : decode cX4_misses 63 = .ok (.iinc 3 1, 3) := by decide +kernel
theorem dX4_misses_66 : decode cX4_misses 66 = .ok (.iinc 4 1, 3) := by decide +kernel
theorem dX4_misses_69 : decode cX4_misses 69 = .ok (.goto (-46), 3) := by decide +kernel
theorem dX4_misses_72 : decode cX4_misses 72 = .ok (.iload_n 3, 1) := by decide +kernel
theorem dX4_misses_73 : decode cX4_misses 73 = .ok (.ireturn, 1) := by decide +kernel
set_option maxRecDepth 20000 in
theorem ggX4_ifAdded_X4_areParts : GoodIn wsX4_ifAdded wsX4_areParts := goodIn_r _ [11] (by decide +kernel) (by decide +kernel)
set_option maxRecDepth 20000 in
theorem gX4_ifAdded_X4_areParts : GoodIn wsX4_ifAdded (va_wsS RX4 55 yX4_areParts wsX4_areParts) := goodIn_app (goodIn_of _ (by decide +kernel)) ggX4_ifAdded_X4_areParts
set_option maxRecDepth 20000 in
theorem ggX4_ifAdded_X0_init : GoodIn wsX4_ifAdded wsX0_init := goodIn_r _ [14, 15, 16, 17, 18, 19, 20, 21, 22, 23, 10, 24, 25, 26, 27, 28, 29, 30, 111, 112, 113, 114, 115] (by decide +kernel) (by decide +kernel)
set_option maxRecDepth 20000 in
theorem gX4_ifAdded_X0_init : GoodIn wsX4_ifAdded (wsX0_init) := ggX4_ifAdded_X0_init
set_option maxRecDepth 20000 in
theorem ggX4_ifAdded_X4_isRefused : GoodIn wsX4_ifAdded wsX4_isRefused := goodIn_r _ [34, 7, 35, 36, 37, 38, 39, 40, 41, 42, 10, 43, 44, 45, 46, 47, 48, 49, 50, 51, 52, 53, 54, 5, 55, 21, 56, 23, 24, 57, 27, 28, 58, 116, 117, 118, 119, 120, 121, 122, 123, 124, 125, 126, 127, 128, 111, 112, 113, 114, 115] (by decide +kernel) (by decide +kernel)
set_option maxRecDepth 20000 in
theorem gX4_ifAdded_X4_isRefused : GoodIn wsX4_ifAdded (wsV RX4 66 RX4 yX4_isRefused wsX4_isRefused) := goodIn_app (goodIn_of _ (by decide +kernel)) ggX4_ifAdded_X4_isRefused
set_option maxRecDepth 20000 in
theorem ggX4_ifAdded_X3_partnersOf : GoodIn wsX4_ifAdded wsX3_partnersOf := goodIn_r _ [62, 41, 44, 45, 46, 39, 47, 48, 49, 63, 64, 65, 5, 66, 21, 22, 67, 53, 54, 55, 23, 10, 24, 25, 26, 42, 43, 124, 125, 126, 127, 128, 111, 112, 113, 114, 115] (by decide +kernel) (by decide +kernel)
set_option maxRecDepth 20000 in
theorem gX4_ifAdded_X3_partnersOf : GoodIn wsX4_ifAdded (wsV RX4 267 RX3 yX3_partnersOf wsX3_partnersOf) := goodIn_app (goodIn_of _ (by decide +kernel)) ggX4_ifAdded_X3_partnersOf
set_option maxRecDepth 20000 in
theorem ggX4_ifAdded_J6_bitCount_0f7a4 : GoodIn wsX4_ifAdded wsJ6_bitCount_0f7a4 := goodIn_r _ [71, 72, 73, 74] (by decide +kernel) (by decide +kernel)
set_option maxRecDepth 20000 in
theorem gX4_ifAdded_J6_bitCount_0f7a4 : GoodIn wsX4_ifAdded (va_wsS RX4 148 yJ6_bitCount_0f7a4 wsJ6_bitCount_0f7a4) := goodIn_app (goodIn_of _ (by decide +kernel)) ggX4_ifAdded_J6_bitCount_0f7a4
set_option maxRecDepth 20000 in
theorem ggX4_ifAdded_X3_arePossible : GoodIn wsX4_ifAdded wsX3_arePossible := goodIn_r _ [78, 41, 42, 10, 43, 79, 80, 81, 39, 82, 83, 124, 125, 126, 127, 128] (by decide +kernel) (by decide +kernel)
set_option maxRecDepth 20000 in
theorem gX4_ifAdded_X3_arePossible : GoodIn wsX4_ifAdded (wsV RX4 136 RX3 yX3_arePossible wsX3_arePossible) := goodIn_app (goodIn_of _ (by decide +kernel)) ggX4_ifAdded_X3_arePossible
set_option maxRecDepth 20000 in
theorem ggX4_ifAdded_X4_join : GoodIn wsX4_ifAdded wsX4_join := goodIn_r _ [87, 88, 7, 89, 90, 91, 92, 93, 94, 95, 96, 42, 10, 43, 97, 45, 46, 39, 47, 48, 49, 98, 99, 100, 101, 23, 24, 27, 28, 25, 26, 29, 30, 116, 117, 118, 119, 120, 121, 122, 123, 124, 125, 126, 127, 128, 129, 130, 111, 112, 113, 114, 115] (by decide +kernel) (by decide +kernel)
set_option maxRecDepth 20000 in
theorem gX4_ifAdded_X4_join : GoodIn wsX4_ifAdded (wsV RX4 246 RX4 yX4_join wsX4_join) := goodIn_app (goodIn_of _ (by decide +kernel)) ggX4_ifAdded_X4_join
set_option maxRecDepth 20000 in
theorem ggX4_ifAdded_X1_tells : GoodIn wsX4_ifAdded wsX1_tells := goodIn_r _ [105, 94, 95, 106, 53, 54, 5, 55, 21, 25, 10, 26, 107, 108, 109, 110, 22, 67, 129, 130, 111, 112, 113, 114, 115] (by decide +kernel) (by decide +kernel)
set_option maxRecDepth 20000 in
theorem gX4_ifAdded_X1_tells : GoodIn wsX4_ifAdded (wsV RX4 270 RX1 yX1_tells wsX1_tells) := goodIn_app (goodIn_of _ (by decide +kernel)) ggX4_ifAdded_X1_tells
set_option maxRecDepth 20000 in
theorem ggX4_ifAdded_X0_isVoid : GoodIn wsX4_ifAdded wsX0_isVoid := goodIn_r _ [55, 21, 111, 112, 113, 114, 115] (by decide +kernel) (by decide +kernel)
set_option maxRecDepth 20000 in
theorem gX4_ifAdded_X0_isVoid : GoodIn wsX4_ifAdded (wsV RX4 120 RX0 yX0_isVoid wsX0_isVoid) := goodIn_app (goodIn_of _ (by decide +kernel)) ggX4_ifAdded_X0_isVoid
set_option maxRecDepth 20000 in
theorem ggX4_ifAdded_X1_take : GoodIn wsX4_ifAdded wsX1_take := goodIn_r _ [101, 94, 95, 23, 10, 24, 27, 28, 25, 26, 29, 30, 129, 130, 111, 112, 113, 114, 115] (by decide +kernel) (by decide +kernel)
set_option maxRecDepth 20000 in
theorem gX4_ifAdded_X1_take : GoodIn wsX4_ifAdded (wsV RX4 273 RX1 yX1_take wsX1_take) := goodIn_app (goodIn_of _ (by decide +kernel)) ggX4_ifAdded_X1_take
theorem dX4_ifAdded_0 : decode cX4_ifAdded 0 = .ok (.iload_n 1, 1) := by decide +kernel
theorem dX4_ifAdded_1 : decode cX4_ifAdded 1 = .ok (.iload_n 2, 1) := by decide +kernel
theorem dX4_ifAdded_2 : decode cX4_ifAdded 2 = .ok (.iload_n 3, 1) := by decide +kernel
theorem dX4_ifAdded_3 : decode cX4_ifAdded 3 = .ok (.invokestatic 55, 3) := by decide +kernel
theorem dX4_ifAdded_6 : decode cX4_ifAdded 6 = .ok (.ifCond .eq 14, 3) := by decide +kernel
theorem dX4_ifAdded_9 : decode cX4_ifAdded 9 = .ok (.iload 4, 2) := by decide +kernel
theorem dX4_ifAdded_11 : decode cX4_ifAdded 11 = .ok (.ifCond .lt 9, 3) := by decide +kernel
theorem dX4_ifAdded_14 : decode cX4_ifAdded 14 = .ok (.iload 4, 2) := by decide +kernel
theorem dX4_ifAdded_16 : decode cX4_ifAdded 16 = .ok (.iconst 3, 1) := by decide +kernel
theorem dX4_ifAdded_17 : decode cX4_ifAdded 17 = .ok (.if_icmp .le 13, 3) := by decide +kernel
theorem dX4_ifAdded_20 : decode cX4_ifAdded 20 = .ok (.new 59, 3) := by decide +kernel
theorem dX4_ifAdded_23 : decode cX4_ifAdded 23 = .ok (.dup, 1) := by decide +kernel
theorem dX4_ifAdded_24 : decode cX4_ifAdded 24 = .ok (.ldc 242, 2) := by decide +kernel
theorem dX4_ifAdded_26 : decode cX4_ifAdded 26 = .ok (.invokespecial 63, 3) := by decide +kernel
theorem dX4_ifAdded_29 : decode cX4_ifAdded 29 = .ok (.athrow, 1) := by decide +kernel
theorem dX4_ifAdded_30 : decode cX4_ifAdded 30 = .ok (.new 7, 3) := by decide +kernel
theorem dX4_ifAdded_33 : decode cX4_ifAdded 33 = .ok (.dup, 1) := by decide +kernel
theorem dX4_ifAdded_34 : decode cX4_ifAdded 34 = .ok (.iload_n 1, 1) := by decide +kernel
theorem dX4_ifAdded_35 : decode cX4_ifAdded 35 = .ok (.iload_n 2, 1) := by decide +kernel
theorem dX4_ifAdded_36 : decode cX4_ifAdded 36 = .ok (.iload_n 3, 1) := by decide +kernel
theorem dX4_ifAdded_37 : decode cX4_ifAdded 37 = .ok (.invokespecial 9, 3) := by decide +kernel
theorem dX4_ifAdded_40 : decode cX4_ifAdded 40 = .ok (.astore 5, 2) := by decide +kernel
theorem dX4_ifAdded_42 : decode cX4_ifAdded 42 = .ok (.aload_n 0, 1) := by decide +kernel
theorem dX4_ifAdded_43 : decode cX4_ifAdded 43 = .ok (.aload 5, 2) := by decide +kernel
theorem dX4_ifAdded_45 : decode cX4_ifAdded 45 = .ok (.invokevirtual 66, 3) := by decide +kernel
theorem dX4_ifAdded_48 : decode cX4_ifAdded 48 = .ok (.ifCond .eq 7, 3) := by decide +kernel
theorem dX4_ifAdded_51 : decode cX4_ifAdded 51 = .ok (.ldc2_w 244, 3) := by decide +kernel
theorem dX4_ifAdded_54 : decode cX4_ifAdded 54 = .ok (.lreturn, 1) := by decide +kernel
theorem dX4_ifAdded_55 : decode cX4_ifAdded 55 = .ok (.aload_n 0, 1) := by decide +kernel
theorem dX4_ifAdded_56 : decode cX4_ifAdded 56 = .ok (.getfield 17, 3) := by decide +kernel
theorem dX4_ifAdded_59 : decode cX4_ifAdded 59 = .ok (.getfield 98, 3) := by decide +kernel
theorem dX4_ifAdded_62 : decode cX4_ifAdded 62 = .ok (.aload_n 0, 1) := by decide +kernel
theorem dX4_ifAdded_63 : decode cX4_ifAdded 63 = .ok (.getfield 17, 3) := by decide +kernel
theorem dX4_ifAdded_66 : decode cX4_ifAdded 66 = .ok (.aload 5, 2) := by decide +kernel
theorem dX4_ifAdded_68 : decode cX4_ifAdded 68 = .ok (.invokevirtual 267, 3) := by decide +kernel
theorem dX4_ifAdded_71 : decode cX4_ifAdded 71 = .ok (.iconst (-1), 1) := by decide +kernel
theorem dX4_ifAdded_72 : decode cX4_ifAdded 72 = .ok (.ixor, 1) := by decide +kernel
theorem dX4_ifAdded_73 : decode cX4_ifAdded 73 = .ok (.iand, 1) := by decide +kernel
theorem dX4_ifAdded_74 : decode cX4_ifAdded 74 = .ok (.invokestatic 148, 3) := by decide +kernel
theorem dX4_ifAdded_77 : decode cX4_ifAdded 77 = .ok (.istore 6, 2) := by decide +kernel
theorem dX4_ifAdded_79 : decode cX4_ifAdded 79 = .ok (.iload 4, 2) := by decide +kernel
theorem dX4_ifAdded_81 : decode cX4_ifAdded 81 = .ok (.iconst 2, 1) := by decide +kernel
theorem dX4_ifAdded_82 : decode cX4_ifAdded 82 = .ok (.if_icmp .ne 7, 3) := by decide +kernel
theorem dX4_ifAdded_85 : decode cX4_ifAdded 85 = .ok (.iload 6, 2) := by decide +kernel
theorem dX4_ifAdded_87 : decode cX4_ifAdded 87 = .ok (.i2l, 1) := by decide +kernel
theorem dX4_ifAdded_88 : decode cX4_ifAdded 88 = .ok (.lreturn, 1) := by decide +kernel
theorem dX4_ifAdded_89 : decode cX4_ifAdded 89 = .ok (.aload_n 0, 1) := by decide +kernel
theorem dX4_ifAdded_90 : decode cX4_ifAdded 90 = .ok (.getfield 17, 3) := by decide +kernel
theorem dX4_ifAdded_93 : decode cX4_ifAdded 93 = .ok (.aload_n 0, 1) := by decide +kernel
theorem dX4_ifAdded_94 : decode cX4_ifAdded 94 = .ok (.getfield 17, 3) := by decide +kernel
theorem dX4_ifAdded_97 : decode cX4_ifAdded 97 = .ok (.getfield 98, 3) := by decide +kernel
theorem dX4_ifAdded_100 : decode cX4_ifAdded 100 = .ok (.invokevirtual 136, 3) := by decide +kernel
theorem dX4_ifAdded_103 : decode cX4_ifAdded 103 = .ok (.istore 7, 2) := by decide +kernel
theorem dX4_ifAdded_105 : decode cX4_ifAdded 105 = .ok (.iload 4, 2) := by decide +kernel
theorem dX4_ifAdded_107 : decode cX4_ifAdded 107 = .ok (.iconst 3, 1) := by decide +kernel
theorem dX4_ifAdded_108 : decode cX4_ifAdded 108 = .ok (.if_icmp .ne 33, 3) := by decide +kernel
theorem dX4_ifAdded_111 : decode cX4_ifAdded 111 = .ok (.iload 7, 2) := by decide +kernel
theorem dX4_ifAdded_113 : decode cX4_ifAdded 113 = .ok (.ifCond .eq 26, 3) := by decide +kernel
theorem dX4_ifAdded_116 : decode cX4_ifAdded 116 = .ok (.aload_n 0, 1) := by decide +kernel
theorem dX4_ifAdded_117 : decode cX4_ifAdded 117 = .ok (.aload_n 0, 1) := by decide +kernel
theorem dX4_ifAdded_118 : decode cX4_ifAdded 118 = .ok (.getfield 17, 3) := by decide +kernel
theorem dX4_ifAdded_121 : decode cX4_ifAdded 121 = .ok (.getfield 98, 3) := by decide +kernel
theorem dX4_ifAdded_124 : decode cX4_ifAdded 124 = .ok (.invokevirtual 246, 3) := by decide +kernel
theorem dX4_ifAdded_127 : decode cX4_ifAdded 127 = .ok (.aload 5, 2) := by decide +kernel
theorem dX4_ifAdded_129 : decode cX4_ifAdded 129 = .ok (.invokevirtual 270, 3) := by decide +kernel
theorem dX4_ifAdded_132 : decode cX4_ifAdded 132 = .ok (.ifCond .eq 7, 3) := by decide +kernel
theorem dX4_ifAdded_135 : decode cX4_ifAdded 135 = .ok (.lconst 1, 1) := by decide +kernel
theorem dX4_ifAdded_136 : decode cX4_ifAdded 136 = .ok (.goto 4, 3) := by decide +kernel
theorem dX4_ifAdded_139 : decode cX4_ifAdded 139 = .ok (.lconst 0, 1) := by decide +kernel
theorem dX4_ifAdded_140 : decode cX4_ifAdded 140 = .ok (.lreturn, 1) := by decide +kernel
theorem dX4_ifAdded_141 : decode cX4_ifAdded 141 = .ok (.iload 7, 2) := by decide +kernel
theorem dX4_ifAdded_143 : decode cX4_ifAdded 143 = .ok (.ifCond .eq 16, 3) := by decide +kernel
theorem dX4_ifAdded_146 : decode cX4_ifAdded 146 = .ok (.aload 5, 2) := by decide +kernel
theorem dX4_ifAdded_148 : decode cX4_ifAdded 148 = .ok (.invokevirtual 120, 3) := by decide +kernel
theorem dX4_ifAdded_151 : decode cX4_ifAdded 151 = .ok (.ifCond .ne 8, 3) := by decide +kernel
theorem dX4_ifAdded_154 : decode cX4_ifAdded 154 = .ok (.iload 6, 2) := by decide +kernel
theorem dX4_ifAdded_156 : decode cX4_ifAdded 156 = .ok (.ifCond .le 7, 3) := by decide +kernel
theorem dX4_ifAdded_159 : decode cX4_ifAdded 159 = .ok (.ldc2_w 244, 3) := by decide +kernel
theorem dX4_ifAdded_162 : decode cX4_ifAdded 162 = .ok (.lreturn, 1) := by decide +kernel
theorem dX4_ifAdded_163 : decode cX4_ifAdded 163 = .ok (.aload_n 0, 1) := by decide +kernel
theorem dX4_ifAdded_164 : decode cX4_ifAdded 164 = .ok (.aload_n 0, 1) := by decide +kernel
theorem dX4_ifAdded_165 : decode cX4_ifAdded 165 = .ok (.getfield 17, 3) := by decide +kernel
theorem dX4_ifAdded_168 : decode cX4_ifAdded 168 = .ok (.getfield 98, 3) := by decide +kernel
theorem dX4_ifAdded_171 : decode cX4_ifAdded 171 = .ok (.invokevirtual 246, 3) := by decide +kernel
theorem dX4_ifAdded_174 : decode cX4_ifAdded 174 = .ok (.astore 8, 2) := by decide +kernel
theorem dX4_ifAdded_176 : decode cX4_ifAdded 176 = .ok (.aload 8, 2) := by decide +kernel
theorem dX4_ifAdded_178 : decode cX4_ifAdded 178 = .ok (.aload 5, 2) := by decide +kernel
theorem dX4_ifAdded_180 : decode cX4_ifAdded 180 = .ok (.invokevirtual 273, 3) := by decide +kernel
theorem dX4_ifAdded_183 : decode cX4_ifAdded 183 = .ok (.iload 4, 2) := by decide +kernel
theorem dX4_ifAdded_185 : decode cX4_ifAdded 185 = .ok (.ifCond .ne 11, 3) := by decide +kernel
theorem dX4_ifAdded_188 : decode cX4_ifAdded 188 = .ok (.aload 8, 2) := by decide +kernel
theorem dX4_ifAdded_190 : decode cX4_ifAdded 190 = .ok (.getfield 254, 3) := by decide +kernel
theorem dX4_ifAdded_193 : decode cX4_ifAdded 193 = .ok (.goto 8, 3) := by decide +kernel
theorem dX4_ifAdded_196 : decode cX4_ifAdded 196 = .ok (.aload 8, 2) := by decide +kernel
theorem dX4_ifAdded_198 : decode cX4_ifAdded 198 = .ok (.getfield 276, 3) := by decide +kernel
theorem dX4_ifAdded_201 : decode cX4_ifAdded 201 = .ok (.lreturn, 1) := by decide +kernel

theorem dX5_firstError_22 : decode cX5_firstError 22 = .ok (.iload_n 1, 1) := by decide +kernel
theorem dX5_firstError_23 : decode cX5_firstError 23 = .ok (.ireturn, 1) := by decide +kernel
set_option maxRecDepth 20000 in
theorem ggX5_read_X5_readBuffer : GoodIn wsX5_read wsX5_readBuffer := goodIn_r _ [10, 2, 11, 12, 5, 13, 14, 15, 9, 16, 3, 17, 18, 19, 20, 21, 22, 23, 24, 25, 26, 27, 28, 29, 30, 31, 32, 82, 83, 84, 85, 86, 87, 88, 89, 90, 91, 92, 93, 94] (by decide +kernel) (by decide +kernel)
set_option maxRecDepth 20000 in
theorem gX5_read_X5_readBuffer : GoodIn wsX5_read (wsV RX5 144 RX5 yX5_readBuffer wsX5_readBuffer) := goodIn_app (goodIn_of _ (by decide +kernel)) ggX5_read_X5_readBuffer
set_option maxRecDepth 20000 in
theorem ggX5_read_X5_save : GoodIn wsX5_read wsX5_save := goodIn_r _ [36, 37, 38, 4, 82, 83, 84, 85, 86, 87, 88, 89, 90, 91, 92, 93, 94] (by decide +kernel) (by decide +kernel)
set_option maxRecDepth 20000 in
theorem gX5_read_X5_save : GoodIn wsX5_read (wsV RX5 104 RX5 yX5_save wsX5_save) := goodIn_app (goodIn_of _ (by decide +kernel)) ggX5_read_X5_save
set_option maxRecDepth 20000 in
theorem ggX5_read_X5_canAdd : GoodIn wsX5_read wsX5_canAdd := goodIn_r _ [42, 4, 43, 44, 45, 9, 46, 47, 48, 49, 50, 51, 52, 53, 54, 55, 56, 57, 58, 59, 60, 61, 62, 63, 64, 65, 66, 67, 68, 69, 70, 71, 72, 73, 74, 75, 76, 77, 78, 79, 80, 81, 82, 83, 84, 85, 86, 87, 88, 89, 90, 91, 92, 93, 94] (by decide +kernel) (by decide +kernel)
set_option maxRecDepth 20000 in
theorem gX5_read_X5_canAdd : GoodIn wsX5_read (wsV RX5 101 RX5 yX5_canAdd wsX5_canAdd) := goodIn_app (goodIn_of _ (by decide +kernel)) ggX5_read_X5_canAdd
theorem dX5_read_0 : decode cX5_read 0 = .ok (.aload_n 0, 1) := by decide +kernel
theorem dX5_read_1 : decode cX5_read 1 = .ok (.aload_n 0, 1) := by decide +kernel
theorem dX5_read_2 : decode cX5_read 2 = .ok (.invokevirtual 144, 3) := by decide +kernel
theorem dX5_read_5 : decode cX5_read 5 = .ok (.iconst (-1), 1) := by decide +kernel
theorem dX5_read_6 : decode cX5_read 6 = .ok (.if_icmp .ne 7, 3) := by decide +kernel
theorem dX5_read_9 : decode cX5_read 9 = .ok (.iconst 0, 1) := by decide +kernel
theorem dX5_read_10 : decode cX5_read 10 = .ok (.goto 4, 3) := by decide +kernel
theorem dX5_read_13 : decode cX5_read 13 = .ok (.iconst 1, 1) := by decide +kernel
theorem dX5_read_14 : decode cX5_read 14 = .ok (.putfield 22, 3) := by decide +kernel
theorem dX5_read_17 : decode cX5_read 17 = .ok (.aload_n 0, 1) := by decide +kernel
theorem dX5_read_18 : decode cX5_read 18 = .ok (.getfield 22, 3) := by decide +kernel
theorem dX5_read_21 : decode cX5_read 21 = .ok (.ifCond .le 5, 3) := by decide +kernel
theorem dX5_read_24 : decode cX5_read 24 = .ok (.iconst 0, 1) := by decide +kernel
theorem dX5_read_25 : decode cX5_read 25 = .ok (.ireturn, 1) := by decide +kernel
theorem dX5_read_26 : decode cX5_read 26 = .ok (.aload_n 0, 1) := by decide +kernel
theorem dX5_read_27 : decode cX5_read 27 = .ok (.invokevirtual 104, 3) := by decide +kernel
theorem dX5_read_30 : decode cX5_read 30 = .ok (.iconst 0, 1) := by decide +kernel
theorem dX5_read_31 : decode cX5_read 31 = .ok (.istore_n 1, 1) := by decide +kernel
theorem dX5_read_32 : decode cX5_read 32 = .ok (.iload_n 1, 1) := by decide +kernel
theorem dX5_read_33 : decode cX5_read 33 = .ok (.aload_n 0, 1) := by decide +kernel
theorem dX5_read_34 : decode cX5_read 34 = .ok (.getfield 135, 3) := by decide +kernel
theorem dX5_read_37 : decode cX5_read 37 = .ok (.if_icmp .ge 54, 3) := by decide +kernel
theorem dX5_read_40 : decode cX5_read 40 = .ok (.aload_n 0, 1) := by decide +kernel
theorem dX5_read_41 : decode cX5_read 41 = .ok (.aload_n 0, 1) := by decide +kernel
theorem dX5_read_42 : decode cX5_read 42 = .ok (.getfield 19, 3) := by decide +kernel
theorem dX5_read_45 : decode cX5_read 45 = .ok (.iconst 3, 1) := by decide +kernel
theorem dX5_read_46 : decode cX5_read 46 = .ok (.iload_n 1, 1) := by decide +kernel
theorem dX5_read_47 : decode cX5_read 47 = .ok (.imul, 1) := by decide +kernel
theorem dX5_read_48 : decode cX5_read 48 = .ok (.iaload, 1) := by decide +kernel
theorem dX5_read_49 : decode cX5_read 49 = .ok (.aload_n 0, 1) := by decide +kernel
theorem dX5_read_50 : decode cX5_read 50 = .ok (.getfield 19, 3) := by decide +kernel
theorem dX5_read_53 : decode cX5_read 53 = .ok (.iconst 3, 1) := by decide +kernel
theorem dX5_read_54 : decode cX5_read 54 = .ok (.iload_n 1, 1) := by decide +kernel
theorem dX5_read_55 : decode cX5_read 55 = .ok (.imul, 1) := by decide +kernel
theorem dX5_read_56 : decode cX5_read 56 = .ok (.iconst 1, 1) := by decide +kernel
theorem dX5_read_57 : decode cX5_read 57 = .ok (.iadd, 1) := by decide +kernel
theorem dX5_read_58 : decode cX5_read 58 = .ok (.iaload, 1) := by decide +kernel
theorem dX5_read_59 : decode cX5_read 59 = .ok (.aload_n 0, 1) := by decide +kernel
theorem dX5_read_60 : decode cX5_read 60 = .ok (.getfield 19, 3) := by decide +kernel
theorem dX5_read_63 : decode cX5_read 63 = .ok (.iconst 3, 1) := by decide +kernel
theorem dX5_read_64 : decode cX5_read 64 = .ok (.iload_n 1, 1) := by decide +kernel
theorem dX5_read_65 : decode cX5_read 65 = .ok (.imul, 1) := by decide +kernel
theorem dX5_read_66 : decode cX5_read 66 = .ok (.iconst 2, 1) := by decide +kernel
theorem dX5_read_67 : decode cX5_read 67 = .ok (.iadd, 1) := by decide +kernel
theorem dX5_read_68 : decode cX5_read 68 = .ok (.iaload, 1) := by decide +kernel
theorem dX5_read_69 : decode cX5_read 69 = .ok (.invokevirtual 101, 3) := by decide +kernel
theorem dX5_read_72 : decode cX5_read 72 = .ok (.ifCond .eq 19, 3) := by decide +kernel
theorem dX5_read_75 : decode cX5_read 75 = .ok (.aload_n 0, 1) := by decide +kernel
theorem dX5_read_76 : decode cX5_read 76 = .ok (.getfield 7, 3) := by decide +kernel
theorem dX5_read_79 : decode cX5_read 79 = .ok (.iconst 0, 1) := by decide +kernel
theorem dX5_read_80 : decode cX5_read 80 = .ok (.dup2, 1) := by decide +kernel
theorem dX5_read_81 : decode cX5_read 81 = .ok (.iaload, 1) := by decide +kernel
theorem dX5_read_82 : decode cX5_read 82 = .ok (.iconst 1, 1) := by decide +kernel
theorem dX5_read_83 : decode cX5_read 83 = .ok (.iadd, 1) := by decide +kernel
theorem dX5_read_84 : decode cX5_read 84 = .ok (.iastore, 1) := by decide +kernel
theorem dX5_read_85 : decode cX5_read 85 = .ok (.iinc 1 1, 3) := by decide +kernel
theorem dX5_read_88 : decode cX5_read 88 = .ok (.goto (-56), 3) := by decide +kernel
theorem dX5_read_91 : decode cX5_read 91 = .ok (.aload_n 0, 1) := by decide +kernel
theorem dX5_read_92 : decode cX5_read 92 = .ok (.iconst 0, 1) := by decide +kernel
theorem dX5_read_93 : decode cX5_read 93 = .ok (.putfield 119, 3) := by decide +kernel
theorem dX5_read_96 : decode cX5_read 96 = .ok (.iload_n 1, 1) := by decide +kernel
theorem dX5_read_97 : decode cX5_read 97 = .ok (.ireturn, 1) := by decide +kernel
set_option maxRecDepth 20000 in
theorem ggX5_told_X5_isVoid : GoodIn wsX5_told wsX5_isVoid := goodIn_r _ [5, 6, 7, 8, 4, 9, 10, 11, 12, 13, 63, 64, 65, 66, 67, 68, 69, 70, 71, 72, 73, 74, 75] (by decide +kernel) (by decide +kernel)
set_option maxRecDepth 20000 in
theorem gX5_told_X5_isVoid : GoodIn wsX5_told (wsV RX5 38 RX5 yX5_isVoid wsX5_isVoid) := goodIn_app (goodIn_of _ (by decide +kernel)) ggX5_told_X5_isVoid
set_option maxRecDepth 20000 in
theorem ggX5_told_X5_modulus : GoodIn wsX5_told wsX5_modulus := goodIn_r _ [17, 6, 7, 8, 4, 9, 10, 11, 12, 13, 63, 64, 65, 66, 67, 68, 69, 70, 71, 72, 73, 74, 75] (by decide +kernel) (by decide +kernel)
set_option maxRecDepth 20000 in
theorem gX5_told_X5_modulus : GoodIn wsX5_told (wsV RX5 42 RX5 yX5_modulus wsX5_modulus) := goodIn_app (goodIn_of _ (by decide +kernel)) ggX5_told_X5_modulus
set_option maxRecDepth 20000 in
theorem ggX5_told_X5_rest : GoodIn wsX5_told wsX5_rest := goodIn_r _ [21, 6, 7, 8, 4, 9, 10, 63, 64, 65, 66, 67, 68, 69, 70, 71, 72, 73, 74, 75] (by decide +kernel) (by decide +kernel)
set_option maxRecDepth 20000 in
theorem gX5_told_X5_rest : GoodIn wsX5_told (wsV RX5 46 RX5 yX5_rest wsX5_rest) := goodIn_app (goodIn_of _ (by decide +kernel)) ggX5_told_X5_rest
set_option maxRecDepth 20000 in
theorem ggX5_told_X5_against : GoodIn wsX5_told wsX5_against := goodIn_r _ [25, 10, 26, 27, 28, 4, 29, 6, 7, 8, 9, 30, 31, 32, 33, 1, 2, 3, 5, 11, 12, 13, 14, 15, 16, 17, 18, 19, 20, 21, 63, 64, 65, 66, 67, 68, 69, 70, 71, 72, 73, 74, 75] (by decide +kernel) (by decide +kernel)
set_option maxRecDepth 20000 in
theorem gX5_told_X5_against : GoodIn wsX5_told (wsV RX5 147 RX5 yX5_against wsX5_against) := goodIn_app (goodIn_of _ (by decide +kernel)) ggX5_told_X5_against
set_option maxRecDepth 20000 in
theorem ggX5_told_X5_isTold : GoodIn wsX5_told wsX5_isTold := goodIn_r _ [37, 26, 27, 28, 4, 29, 6, 7, 8, 9, 10, 38, 39, 40, 41, 42, 43, 44, 45, 46, 47, 48, 49, 50, 51, 52, 53, 54, 55, 30, 31, 32, 33, 1, 2, 3, 5, 11, 12, 13, 14, 15, 16, 17, 18, 19, 20, 21, 56, 57, 58, 59, 60, 61, 62, 63, 64, 65, 66, 67, 68, 69, 70, 71, 72, 73, 74, 75] (by decide +kernel) (by decide +kernel)
set_option maxRecDepth 20000 in
theorem gX5_told_X5_isTold : GoodIn wsX5_told (wsV RX5 110 RX5 yX5_isTold wsX5_isTold) := goodIn_app (goodIn_of _ (by decide +kernel)) ggX5_told_X5_isTold
set_option maxRecDepth 20000 in
theorem ggX5_told_X5_of : GoodIn wsX5_told wsX5_of := goodIn_r _ [9, 10, 63, 64, 65, 66, 67, 68, 69, 70, 71, 72, 73, 74, 75] (by decide +kernel) (by decide +kernel)
set_option maxRecDepth 20000 in
theorem gX5_told_X5_of : GoodIn wsX5_told (wsV RX5 26 RX5 yX5_of wsX5_of) := goodIn_app (goodIn_of _ (by decide +kernel)) ggX5_told_X5_of
theorem dX5_told_0 : decode cX5_told 0 = .ok (.iload_n 2, 1) := by decide +kernel
theorem dX5_told_1 : decode cX5_told 1 = .ok (.tableswitch 105 4 8 #[35, 49, 67, 85, 91], 35) := by decide +kernel
theorem dX5_told_36 : decode cX5_told 36 = .ok (.aload_n 0, 1) := by decide +kernel
theorem dX5_told_37 : decode cX5_told 37 = .ok (.iload_n 1, 1) := by decide +kernel
theorem dX5_told_38 : decode cX5_told 38 = .ok (.invokevirtual 38, 3) := by decide +kernel
theorem dX5_told_41 : decode cX5_told 41 = .ok (.ifCond .eq 7, 3) := by decide +kernel
theorem dX5_told_44 : decode cX5_told 44 = .ok (.iconst 1, 1) := by decide +kernel
theorem dX5_told_45 : decode cX5_told 45 = .ok (.goto 4, 3) := by decide +kernel
theorem dX5_told_48 : decode cX5_told 48 = .ok (.iconst 0, 1) := by decide +kernel
theorem dX5_told_49 : decode cX5_told 49 = .ok (.ireturn, 1) := by decide +kernel
theorem dX5_told_50 : decode cX5_told 50 = .ok (.aload_n 0, 1) := by decide +kernel
theorem dX5_told_51 : decode cX5_told 51 = .ok (.iload_n 1, 1) := by decide +kernel
theorem dX5_told_52 : decode cX5_told 52 = .ok (.invokevirtual 38, 3) := by decide +kernel
theorem dX5_told_55 : decode cX5_told 55 = .ok (.ifCond .eq 7, 3) := by decide +kernel
theorem dX5_told_58 : decode cX5_told 58 = .ok (.iconst (-1), 1) := by decide +kernel
theorem dX5_told_59 : decode cX5_told 59 = .ok (.goto 8, 3) := by decide +kernel
theorem dX5_told_62 : decode cX5_told 62 = .ok (.aload_n 0, 1) := by decide +kernel
theorem dX5_told_63 : decode cX5_told 63 = .ok (.iload_n 1, 1) := by decide +kernel
theorem dX5_told_64 : decode cX5_told 64 = .ok (.invokevirtual 42, 3) := by decide +kernel
theorem dX5_told_67 : decode cX5_told 67 = .ok (.ireturn, 1) := by decide +kernel
theorem dX5_told_68 : decode cX5_told 68 = .ok (.aload_n 0, 1) := by decide +kernel
theorem dX5_told_69 : decode cX5_told 69 = .ok (.iload_n 1, 1) := by decide +kernel
theorem dX5_told_70 : decode cX5_told 70 = .ok (.invokevirtual 38, 3) := by decide +kernel
theorem dX5_told_73 : decode cX5_told 73 = .ok (.ifCond .eq 7, 3) := by decide +kernel
theorem dX5_told_76 : decode cX5_told 76 = .ok (.iconst (-1), 1) := by decide +kernel
theorem dX5_told_77 : decode cX5_told 77 = .ok (.goto 8, 3) := by decide +kernel
theorem dX5_told_80 : decode cX5_told 80 = .ok (.aload_n 0, 1) := by decide +kernel
theorem dX5_told_81 : decode cX5_told 81 = .ok (.iload_n 1, 1) := by decide +kernel
theorem dX5_told_82 : decode cX5_told 82 = .ok (.invokevirtual 46, 3) := by decide +kernel
theorem dX5_told_85 : decode cX5_told 85 = .ok (.ireturn, 1) := by decide +kernel
theorem dX5_told_86 : decode cX5_told 86 = .ok (.aload_n 0, 1) := by decide +kernel
theorem dX5_told_87 : decode cX5_told 87 = .ok (.iload_n 1, 1) := by decide +kernel
theorem dX5_told_88 : decode cX5_told 88 = .ok (.invokevirtual 147, 3) := by decide +kernel
theorem dX5_told_91 : decode cX5_told 91 = .ok (.ireturn, 1) := by decide +kernel
theorem dX5_told_92 : decode cX5_told 92 = .ok (.aload_n 0, 1) := by decide +kernel
theorem dX5_told_93 : decode cX5_told 93 = .ok (.iload_n 1, 1) := by decide +kernel
theorem dX5_told_94 : decode cX5_told 94 = .ok (.invokevirtual 110, 3) := by decide +kernel
theorem dX5_told_97 : decode cX5_told 97 = .ok (.ifCond .eq 7, 3) := by decide +kernel
theorem dX5_told_100 : decode cX5_told 100 = .ok (.iconst 1, 1) := by decide +kernel
theorem dX5_told_101 : decode cX5_told 101 = .ok (.goto 4, 3) := by decide +kernel
theorem dX5_told_104 : decode cX5_told 104 = .ok (.iconst 0, 1) := by decide +kernel
theorem dX5_told_105 : decode cX5_told 105 = .ok (.ireturn, 1) := by decide +kernel
theorem dX5_told_106 : decode cX5_told 106 = .ok (.aload_n 0, 1) := by decide +kernel
theorem dX5_told_107 : decode cX5_told 107 = .ok (.iload_n 1, 1) := by decide +kernel
theorem dX5_told_108 : decode cX5_told 108 = .ok (.iload_n 2, 1) := by decide +kernel
theorem dX5_told_109 : decode cX5_told 109 = .ok (.invokevirtual 26, 3) := by decide +kernel
theorem dX5_told_112 : decode cX5_told 112 = .ok (.ireturn, 1) := by decide +kernel
set_option maxRecDepth 20000 in
theorem ggX5_condition_X5_isThere : GoodIn wsX5_condition wsX5_isThere := goodIn_r _ [6, 7, 75, 76, 77, 78, 79, 80, 81, 82, 83, 84, 85, 86, 87] (by decide +kernel) (by decide +kernel)
set_option maxRecDepth 20000 in
theorem gX5_condition_X5_isThere : GoodIn wsX5_condition (wsV RX5 107 RX5 yX5_isThere wsX5_isThere) := goodIn_app (goodIn_of _ (by decide +kernel)) ggX5_condition_X5_isThere
set_option maxRecDepth 20000 in
theorem ggX5_condition_X5_in : GoodIn wsX5_condition wsX5_in := goodIn_r _ [10] (by decide +kernel) (by decide +kernel)
set_option maxRecDepth 20000 in
theorem gX5_condition_X5_in : GoodIn wsX5_condition (va_wsS RX5 84 yX5_in wsX5_in) := goodIn_app (goodIn_of _ (by decide +kernel)) ggX5_condition_X5_in
set_option maxRecDepth 20000 in
theorem ggX5_condition_X5_told : GoodIn wsX5_condition wsX5_told := goodIn_r _ [14, 15, 16, 17, 5, 18, 19, 20, 21, 22, 7, 23, 24, 25, 26, 27, 28, 29, 30, 31, 32, 33, 34, 35, 36, 37, 38, 39, 40, 41, 42, 43, 44, 45, 46, 47, 48, 49, 50, 51, 52, 53, 54, 55, 56, 57, 58, 59, 60, 61, 62, 63, 64, 65, 66, 67, 68, 69, 70, 71, 72, 73, 74, 75, 76, 77, 78, 79, 80, 81, 82, 83, 84, 85, 86, 87] (by decide +kernel) (by decide +kernel)
set_option maxRecDepth 20000 in
theorem gX5_condition_X5_told : GoodIn wsX5_condition (wsV RX5 150 RX5 yX5_told wsX5_told) := goodIn_app (goodIn_of _ (by decide +kernel)) ggX5_condition_X5_told
theorem dX5_condition_0 : decode cX5_condition 0 = .ok (.aload_n 0, 1) := by decide +kernel
theorem dX5_condition_1 : decode cX5_condition 1 = .ok (.aload_n 0, 1) := by decide +kernel
theorem dX5_condition_2 : decode cX5_condition 2 = .ok (.iload_n 1, 1) := by decide +kernel
theorem dX5_condition_3 : decode cX5_condition 3 = .ok (.invokevirtual 107, 3) := by decide +kernel
theorem dX5_condition_6 : decode cX5_condition 6 = .ok (.ifCond .ne 7, 3) := by decide +kernel
theorem dX5_condition_9 : decode cX5_condition 9 = .ok (.iconst 1, 1) := by decide +kernel
theorem dX5_condition_10 : decode cX5_condition 10 = .ok (.goto 18, 3) := by decide +kernel
theorem dX5_condition_13 : decode cX5_condition 13 = .ok (.iload_n 2, 1) := by decide +kernel
theorem dX5_condition_14 : decode cX5_condition 14 = .ok (.iconst 0, 1) := by decide +kernel
theorem dX5_condition_15 : decode cX5_condition 15 = .ok (.bipush 8, 2) := by decide +kernel
theorem dX5_condition_17 : decode cX5_condition 17 = .ok (.invokestatic 84, 3) := by decide +kernel
theorem dX5_condition_20 : decode cX5_condition 20 = .ok (.ifCond .eq 7, 3) := by decide +kernel
theorem dX5_condition_23 : decode cX5_condition 23 = .ok (.iconst 0, 1) := by decide +kernel
theorem dX5_condition_24 : decode cX5_condition 24 = .ok (.goto 4, 3) := by decide +kernel
theorem dX5_condition_27 : decode cX5_condition 27 = .ok (.iconst 2, 1) := by decide +kernel
theorem dX5_condition_28 : decode cX5_condition 28 = .ok (.putfield 22, 3) := by decide +kernel
theorem dX5_condition_31 : decode cX5_condition 31 = .ok (.aload_n 0, 1) := by decide +kernel
theorem dX5_condition_32 : decode cX5_condition 32 = .ok (.getfield 22, 3) := by decide +kernel
theorem dX5_condition_35 : decode cX5_condition 35 = .ok (.ifCond .le 7, 3) := by decide +kernel
theorem dX5_condition_38 : decode cX5_condition 38 = .ok (.iconst 0, 1) := by decide +kernel
theorem dX5_condition_39 : decode cX5_condition 39 = .ok (.goto 9, 3) := by decide +kernel
theorem dX5_condition_42 : decode cX5_condition 42 = .ok (.aload_n 0, 1) := by decide +kernel
theorem dX5_condition_43 : decode cX5_condition 43 = .ok (.iload_n 1, 1) := by decide +kernel
theorem dX5_condition_44 : decode cX5_condition 44 = .ok (.iload_n 2, 1) := by decide +kernel
theorem dX5_condition_45 : decode cX5_condition 45 = .ok (.invokevirtual 150, 3) := by decide +kernel
theorem dX5_condition_48 : decode cX5_condition 48 = .ok (.ireturn, 1) := by decide +kernel
set_option maxRecDepth 20000 in
theorem ggX5_agrees_X5_isThere : GoodIn wsX5_agrees wsX5_isThere := goodIn_r _ [6, 7, 31, 32, 33, 34, 35, 36, 37, 38, 39, 40, 41, 42, 43] (by decide +kernel) (by decide +kernel)
set_option maxRecDepth 20000 in
theorem gX5_agrees_X5_isThere : GoodIn wsX5_agrees (wsV RX5 107 RX5 yX5_isThere wsX5_isThere) := goodIn_app (goodIn_of _ (by decide +kernel)) ggX5_agrees_X5_isThere
set_option maxRecDepth 20000 in
theorem ggX5_agrees_X5_goTogether : GoodIn wsX5_agrees wsX5_goTogether := goodIn_r _ [11, 12, 13, 14, 5, 15, 16, 17, 18, 19, 7, 20, 21, 22, 23, 24, 25, 26, 27, 28, 29, 30, 31, 32, 33, 34, 35, 36, 37, 38, 39, 40, 41, 42, 43] (by decide +kernel) (by decide +kernel)
set_option maxRecDepth 20000 in
theorem gX5_agrees_X5_goTogether : GoodIn wsX5_agrees (wsV RX5 52 RX5 yX5_goTogether wsX5_goTogether) := goodIn_app (goodIn_of _ (by decide +kernel)) ggX5_agrees_X5_goTogether
theorem dX5_agrees_0 : decode cX5_agrees 0 = .ok (.aload_n 0, 1) := by decide +kernel
theorem dX5_agrees_1 : decode cX5_agrees 1 = .ok (.aload_n 0, 1) := by decide +kernel
theorem dX5_agrees_2 : decode cX5_agrees 2 = .ok (.iload_n 1, 1) := by decide +kernel
theorem dX5_agrees_3 : decode cX5_agrees 3 = .ok (.invokevirtual 107, 3) := by decide +kernel
theorem dX5_agrees_6 : decode cX5_agrees 6 = .ok (.ifCond .eq 15, 3) := by decide +kernel
theorem dX5_agrees_9 : decode cX5_agrees 9 = .ok (.aload_n 0, 1) := by decide +kernel
theorem dX5_agrees_10 : decode cX5_agrees 10 = .ok (.iload_n 2, 1) := by decide +kernel
theorem dX5_agrees_11 : decode cX5_agrees 11 = .ok (.invokevirtual 107, 3) := by decide +kernel
theorem dX5_agrees_14 : decode cX5_agrees 14 = .ok (.ifCond .eq 7, 3) := by decide +kernel
theorem dX5_agrees_17 : decode cX5_agrees 17 = .ok (.iconst 0, 1) := by decide +kernel
theorem dX5_agrees_18 : decode cX5_agrees 18 = .ok (.goto 4, 3) := by decide +kernel
theorem dX5_agrees_21 : decode cX5_agrees 21 = .ok (.iconst 1, 1) := by decide +kernel
theorem dX5_agrees_22 : decode cX5_agrees 22 = .ok (.putfield 22, 3) := by decide +kernel
theorem dX5_agrees_25 : decode cX5_agrees 25 = .ok (.aload_n 0, 1) := by decide +kernel
theorem dX5_agrees_26 : decode cX5_agrees 26 = .ok (.getfield 22, 3) := by decide +kernel
theorem dX5_agrees_29 : decode cX5_agrees 29 = .ok (.ifCond .le 7, 3) := by decide +kernel
theorem dX5_agrees_32 : decode cX5_agrees 32 = .ok (.iconst 0, 1) := by decide +kernel
theorem dX5_agrees_33 : decode cX5_agrees 33 = .ok (.goto 17, 3) := by decide +kernel
theorem dX5_agrees_36 : decode cX5_agrees 36 = .ok (.aload_n 0, 1) := by decide +kernel
theorem dX5_agrees_37 : decode cX5_agrees 37 = .ok (.iload_n 1, 1) := by decide +kernel
theorem dX5_agrees_38 : decode cX5_agrees 38 = .ok (.iload_n 2, 1) := by decide +kernel
theorem dX5_agrees_39 : decode cX5_agrees 39 = .ok (.invokevirtual 52, 3) := by decide +kernel
theorem dX5_agrees_42 : decode cX5_agrees 42 = .ok (.ifCond .eq 7, 3) := by decide +kernel
theorem dX5_agrees_45 : decode cX5_agrees 45 = .ok (.iconst 1, 1) := by decide +kernel
theorem dX5_agrees_46 : decode cX5_agrees 46 = .ok (.goto 4, 3) := by decide +kernel
theorem dX5_agrees_49 : decode cX5_agrees 49 = .ok (.iconst 0, 1) := by decide +kernel
theorem dX5_agrees_50 : decode cX5_agrees 50 = .ok (.ireturn, 1) := by decide +kernel
set_option maxRecDepth 20000 in
theorem ggX5_joinedBy_X5_join : GoodIn wsX5_joinedBy wsX5_join := goodIn_r _ [8, 2, 3, 9, 10, 11, 12, 7, 13, 14, 15, 16, 17, 18, 19, 20, 21, 22, 23, 24, 25, 26, 27, 28, 29, 30, 31, 32, 33, 34, 35, 36, 37, 38, 39, 40, 41, 42, 43, 44, 45, 46, 47, 48, 49, 50, 51, 52, 53, 54, 55, 56] (by decide +kernel) (by decide +kernel)
set_option maxRecDepth 20000 in
theorem gX5_joinedBy_X5_join : GoodIn wsX5_joinedBy (wsV RX5 74 RX5 yX5_join wsX5_join) := goodIn_app (goodIn_of _ (by decide +kernel)) ggX5_joinedBy_X5_join
theorem dX5_joinedBy_0 : decode cX5_joinedBy 0 = .ok (.aload_n 0, 1) := by decide +kernel
theorem dX5_joinedBy_1 : decode cX5_joinedBy 1 = .ok (.iload_n 1, 1) := by decide +kernel
theorem dX5_joinedBy_2 : decode cX5_joinedBy 2 = .ok (.invokevirtual 74, 3) := by decide +kernel
theorem dX5_joinedBy_5 : decode cX5_joinedBy 5 = .ok (.ifCond .ne 9, 3) := by decide +kernel
theorem dX5_joinedBy_8 : decode cX5_joinedBy 8 = .ok (.ldc2_w 153, 3) := by decide +kernel
theorem dX5_joinedBy_11 : decode cX5_joinedBy 11 = .ok (.goto 18, 3) := by decide +kernel
theorem dX5_joinedBy_14 : decode cX5_joinedBy 14 = .ok (.iload_n 2, 1) := by decide +kernel
theorem dX5_joinedBy_15 : decode cX5_joinedBy 15 = .ok (.ifCond .ne 10, 3) := by decide +kernel
theorem dX5_joinedBy_18 : decode cX5_joinedBy 18 = .ok (.aload_n 0, 1) := by decide +kernel
theorem dX5_joinedBy_19 : decode cX5_joinedBy 19 = .ok (.getfield 56, 3) := by decide +kernel
theorem dX5_joinedBy_22 : decode cX5_joinedBy 22 = .ok (.goto 7, 3) := by decide +kernel
theorem dX5_joinedBy_25 : decode cX5_joinedBy 25 = .ok (.aload_n 0, 1) := by decide +kernel
theorem dX5_joinedBy_26 : decode cX5_joinedBy 26 = .ok (.getfield 64, 3) := by decide +kernel
theorem dX5_joinedBy_29 : decode cX5_joinedBy 29 = .ok (.lreturn, 1) := by decide +kernel
set_option maxRecDepth 20000 in
theorem ggX5_joined_X5_in : GoodIn wsX5_joined wsX5_in := goodIn_r _ [5] (by decide +kernel) (by decide +kernel)
set_option maxRecDepth 20000 in
theorem gX5_joined_X5_in : GoodIn wsX5_joined (va_wsS RX5 84 yX5_in wsX5_in) := goodIn_app (goodIn_of _ (by decide +kernel)) ggX5_joined_X5_in
set_option maxRecDepth 20000 in
theorem ggX5_joined_X5_onSet : GoodIn wsX5_joined wsX5_onSet := goodIn_r _ [9, 10, 11, 12, 13, 4, 14, 15, 16, 17, 18, 60, 61, 62, 63, 64, 65, 66, 67, 68, 69, 70, 71, 72] (by decide +kernel) (by decide +kernel)
set_option maxRecDepth 20000 in
theorem gX5_joined_X5_onSet : GoodIn wsX5_joined (wsV RX5 77 RX5 yX5_onSet wsX5_onSet) := goodIn_app (goodIn_of _ (by decide +kernel)) ggX5_joined_X5_onSet
set_option maxRecDepth 20000 in
theorem ggX5_joined_X5_joinedBy : GoodIn wsX5_joined wsX5_joinedBy := goodIn_r _ [22, 23, 24, 25, 26, 27, 28, 4, 29, 10, 30, 31, 32, 33, 34, 35, 36, 37, 38, 39, 40, 41, 15, 16, 17, 18, 42, 43, 44, 45, 46, 47, 48, 49, 50, 51, 52, 53, 54, 55, 56, 57, 58, 59, 60, 61, 62, 63, 64, 65, 66, 67, 68, 69, 70, 71, 72] (by decide +kernel) (by decide +kernel)
set_option maxRecDepth 20000 in
theorem gX5_joined_X5_joinedBy : GoodIn wsX5_joined (wsV RX5 155 RX5 yX5_joinedBy wsX5_joinedBy) := goodIn_app (goodIn_of _ (by decide +kernel)) ggX5_joined_X5_joinedBy
theorem dX5_joined_0 : decode cX5_joined 0 = .ok (.aload_n 0, 1) := by decide +kernel
theorem dX5_joined_1 : decode cX5_joined 1 = .ok (.iload_n 1, 1) := by decide +kernel
theorem dX5_joined_2 : decode cX5_joined 2 = .ok (.iconst 0, 1) := by decide +kernel
theorem dX5_joined_3 : decode cX5_joined 3 = .ok (.iconst 1, 1) := by decide +kernel
theorem dX5_joined_4 : decode cX5_joined 4 = .ok (.invokestatic 84, 3) := by decide +kernel
theorem dX5_joined_7 : decode cX5_joined 7 = .ok (.ifCond .eq 7, 3) := by decide +kernel
theorem dX5_joined_10 : decode cX5_joined 10 = .ok (.iconst 0, 1) := by decide +kernel
theorem dX5_joined_11 : decode cX5_joined 11 = .ok (.goto 4, 3) := by decide +kernel
theorem dX5_joined_14 : decode cX5_joined 14 = .ok (.iconst 1, 1) := by decide +kernel
theorem dX5_joined_15 : decode cX5_joined 15 = .ok (.putfield 22, 3) := by decide +kernel
theorem dX5_joined_18 : decode cX5_joined 18 = .ok (.aload_n 0, 1) := by decide +kernel
theorem dX5_joined_19 : decode cX5_joined 19 = .ok (.getfield 22, 3) := by decide +kernel
theorem dX5_joined_22 : decode cX5_joined 22 = .ok (.ifCond .le 7, 3) := by decide +kernel
theorem dX5_joined_25 : decode cX5_joined 25 = .ok (.lconst 0, 1) := by decide +kernel
theorem dX5_joined_26 : decode cX5_joined 26 = .ok (.goto 12, 3) := by decide +kernel
theorem dX5_joined_29 : decode cX5_joined 29 = .ok (.aload_n 0, 1) := by decide +kernel
theorem dX5_joined_30 : decode cX5_joined 30 = .ok (.aload_n 0, 1) := by decide +kernel
theorem dX5_joined_31 : decode cX5_joined 31 = .ok (.invokevirtual 77, 3) := by decide +kernel
theorem dX5_joined_34 : decode cX5_joined 34 = .ok (.iload_n 1, 1) := by decide +kernel
theorem dX5_joined_35 : decode cX5_joined 35 = .ok (.invokevirtual 155, 3) := by decide +kernel
theorem dX5_joined_38 : decode cX5_joined 38 = .ok (.lreturn, 1) := by decide +kernel
set_option maxRecDepth 20000 in
theorem ggX5_voids_X5_isVoid : GoodIn wsX5_voids wsX5_isVoid := goodIn_r _ [6, 7, 8, 9, 5, 10, 1, 11, 12, 13, 14, 15, 16, 17, 18, 19, 20, 21, 22, 23, 24, 25, 26] (by decide +kernel) (by decide +kernel)
set_option maxRecDepth 20000 in
theorem gX5_voids_X5_isVoid : GoodIn wsX5_voids (wsV RX5 38 RX5 yX5_isVoid wsX5_isVoid) := goodIn_app (goodIn_of _ (by decide +kernel)) ggX5_voids_X5_isVoid
theorem dX5_voids_0 : decode cX5_voids 0 = .ok (.iconst 0, 1) := by decide +kernel
theorem dX5_voids_1 : decode cX5_voids 1 = .ok (.istore_n 1, 1) := by decide +kernel
theorem dX5_voids_2 : decode cX5_voids 2 = .ok (.iconst 0, 1) := by decide +kernel
theorem dX5_voids_3 : decode cX5_voids 3 = .ok (.istore_n 2, 1) := by decide +kernel
theorem dX5_voids_4 : decode cX5_voids 4 = .ok (.iload_n 2, 1) := by decide +kernel
theorem dX5_voids_5 : decode cX5_voids 5 = .ok (.aload_n 0, 1) := by decide +kernel
theorem dX5_voids_6 : decode cX5_voids 6 = .ok (.getfield 7, 3) := by decide +kernel
theorem dX5_voids_9 : decode cX5_voids 9 = .ok (.iconst 0, 1) := by decide +kernel
theorem dX5_voids_10 : decode cX5_voids 10 = .ok (.iaload, 1) := by decide +kernel
theorem dX5_voids_11 : decode cX5_voids 11 = .ok (.if_icmp .ge 25, 3) := by decide +kernel
theorem dX5_voids_14 : decode cX5_voids 14 = .ok (.iload_n 1, 1) := by decide +kernel
theorem dX5_voids_15 : decode cX5_voids 15 = .ok (.aload_n 0, 1) := by decide +kernel
theorem dX5_voids_16 : decode cX5_voids 16 = .ok (.iload_n 2, 1) := by decide +kernel
theorem dX5_voids_17 : decode cX5_voids 17 = .ok (.invokevirtual 38, 3) := by decide +kernel
theorem dX5_voids_20 : decode cX5_voids 20 = .ok (.ifCond .eq 7, 3) := by decide +kernel
theorem dX5_voids_23 : decode cX5_voids 23 = .ok (.iconst 1, 1) := by decide +kernel
theorem dX5_voids_24 : decode cX5_voids 24 = .ok (.goto 4, 3) := by decide +kernel
theorem dX5_voids_27 : decode cX5_voids 27 = .ok (.iconst 0, 1) := by decide +kernel
theorem dX5_voids_28 : decode cX5_voids 28 = .ok (.iadd, 1) := by decide +kernel
theorem dX5_voids_29 : decode cX5_voids 29 = .ok (.istore_n 1, 1) := by decide +kernel
theorem dX5_voids_30 : decode cX5_voids 30 = .ok (.iinc 2 1, 3) := by decide +kernel
theorem dX5_voids_33 : decode cX5_voids 33 = .ok (.goto (-29), 3) := by decide +kernel
theorem dX5_voids_36 : decode cX5_voids 36 = .ok (.iload_n 1, 1) := by decide +kernel
theorem dX5_voids_37 : decode cX5_voids 37 = .ok (.ireturn, 1) := by decide +kernel
set_option maxRecDepth 20000 in
theorem ggX5_quarrels_X5_isOn : GoodIn wsX5_quarrels wsX5_isOn := goodIn_r _ [6, 7, 8, 9, 5, 10, 1, 34, 35, 36, 37, 38, 39, 40, 41, 42, 43, 44, 45, 46] (by decide +kernel) (by decide +kernel)
set_option maxRecDepth 20000 in
theorem gX5_quarrels_X5_isOn : GoodIn wsX5_quarrels (wsV RX5 49 RX5 yX5_isOn wsX5_isOn) := goodIn_app (goodIn_of _ (by decide +kernel)) ggX5_quarrels_X5_isOn
set_option maxRecDepth 20000 in
theorem ggX5_quarrels_X5_against : GoodIn wsX5_quarrels wsX5_against := goodIn_r _ [14, 1, 2, 3, 4, 5, 6, 7, 8, 9, 10, 15, 16, 17, 18, 19, 20, 21, 22, 23, 24, 25, 26, 27, 28, 29, 30, 31, 32, 33, 34, 35, 36, 37, 38, 39, 40, 41, 42, 43, 44, 45, 46] (by decide +kernel) (by decide +kernel)
set_option maxRecDepth 20000 in
theorem gX5_quarrels_X5_against : GoodIn wsX5_quarrels (wsV RX5 147 RX5 yX5_against wsX5_against) := goodIn_app (goodIn_of _ (by decide +kernel)) ggX5_quarrels_X5_against
theorem dX5_quarrels_0 : decode cX5_quarrels 0 = .ok (.iconst 0, 1) := by decide +kernel
theorem dX5_quarrels_1 : decode cX5_quarrels 1 = .ok (.istore_n 1, 1) := by decide +kernel
theorem dX5_quarrels_2 : decode cX5_quarrels 2 = .ok (.iconst 0, 1) := by decide +kernel
theorem dX5_quarrels_3 : decode cX5_quarrels 3 = .ok (.istore_n 2, 1) := by decide +kernel
theorem dX5_quarrels_4 : decode cX5_quarrels 4 = .ok (.iload_n 2, 1) := by decide +kernel
theorem dX5_quarrels_5 : decode cX5_quarrels 5 = .ok (.aload_n 0, 1) := by decide +kernel
theorem dX5_quarrels_6 : decode cX5_quarrels 6 = .ok (.getfield 7, 3) := by decide +kernel
theorem dX5_quarrels_9 : decode cX5_quarrels 9 = .ok (.iconst 0, 1) := by decide +kernel
theorem dX5_quarrels_10 : decode cX5_quarrels 10 = .ok (.iaload, 1) := by decide +kernel
theorem dX5_quarrels_11 : decode cX5_quarrels 11 = .ok (.if_icmp .ge 29, 3) := by decide +kernel
theorem dX5_quarrels_14 : decode cX5_quarrels 14 = .ok (.iload_n 1, 1) := by decide +kernel
theorem dX5_quarrels_15 : decode cX5_quarrels 15 = .ok (.aload_n 0, 1) := by decide +kernel
theorem dX5_quarrels_16 : decode cX5_quarrels 16 = .ok (.iload_n 2, 1) := by decide +kernel
theorem dX5_quarrels_17 : decode cX5_quarrels 17 = .ok (.invokevirtual 49, 3) := by decide +kernel
theorem dX5_quarrels_20 : decode cX5_quarrels 20 = .ok (.ifCond .eq 11, 3) := by decide +kernel
theorem dX5_quarrels_23 : decode cX5_quarrels 23 = .ok (.aload_n 0, 1) := by decide +kernel
theorem dX5_quarrels_24 : decode cX5_quarrels 24 = .ok (.iload_n 2, 1) := by decide +kernel
theorem dX5_quarrels_25 : decode cX5_quarrels 25 = .ok (.invokevirtual 147, 3) := by decide +kernel
theorem dX5_quarrels_28 : decode cX5_quarrels 28 = .ok (.goto 4, 3) := by decide +kernel
theorem dX5_quarrels_31 : decode cX5_quarrels 31 = .ok (.iconst 0, 1) := by decide +kernel
theorem dX5_quarrels_32 : decode cX5_quarrels 32 = .ok (.iadd, 1) := by decide +kernel
theorem dX5_quarrels_33 : decode cX5_quarrels 33 = .ok (.istore_n 1, 1) := by decide +kernel
theorem dX5_quarrels_34 : decode cX5_quarrels 34 = .ok (.iinc 2 1, 3) := by decide +kernel
theorem dX5_quarrels_37 : decode cX5_quarrels 37 = .ok (.goto (-33), 3) := by decide +kernel
theorem dX5_quarrels_40 : decode cX5_quarrels 40 = .ok (.iload_n 1, 1) := by decide +kernel
theorem dX5_quarrels_41 : decode cX5_quarrels 41 = .ok (.iconst 2, 1) := by decide +kernel
theorem dX5_quarrels_42 : decode cX5_quarrels 42 = .ok (.idiv, 1) := by decide +kernel
theorem dX5_quarrels_43 : decode cX5_quarrels 43 = .ok (.ireturn, 1) := by decide +kernel
set_option maxRecDepth 20000 in
theorem ggX5_toldMany_X5_isTold : GoodIn wsX5_toldMany wsX5_isTold := goodIn_r _ [6, 7, 8, 9, 5, 10, 11, 12, 13, 14, 1, 15, 16, 17, 18, 19, 20, 21, 22, 23, 24, 25, 26, 27, 28, 29, 30, 31, 32, 33, 34, 35, 36, 37, 38, 39, 40, 41, 42, 43, 44, 45, 46, 47, 48, 49, 50, 51, 52, 53, 54, 55, 56, 57, 58, 59, 60, 61, 62, 63, 64, 65, 66, 67, 68, 69, 70, 71] (by decide +kernel) (by decide +kernel)
set_option maxRecDepth 20000 in
theorem gX5_toldMany_X5_isTold : GoodIn wsX5_toldMany (wsV RX5 110 RX5 yX5_isTold wsX5_isTold) := goodIn_app (goodIn_of _ (by decide +kernel)) ggX5_toldMany_X5_isTold
theorem dX5_toldMany_0 : decode cX5_toldMany 0 = .ok (.iconst 0, 1) := by decide +kernel
theorem dX5_toldMany_1 : decode cX5_toldMany 1 = .ok (.istore_n 1, 1) := by decide +kernel
theorem dX5_toldMany_2 : decode cX5_toldMany 2 = .ok (.iconst 0, 1) := by decide +kernel
theorem dX5_toldMany_3 : decode cX5_toldMany 3 = .ok (.istore_n 2, 1) := by decide +kernel
theorem dX5_toldMany_4 : decode cX5_toldMany 4 = .ok (.iload_n 2, 1) := by decide +kernel
theorem dX5_toldMany_5 : decode cX5_toldMany 5 = .ok (.aload_n 0, 1) := by decide +kernel
theorem dX5_toldMany_6 : decode cX5_toldMany 6 = .ok (.getfield 7, 3) := by decide +kernel
theorem dX5_toldMany_9 : decode cX5_toldMany 9 = .ok (.iconst 0, 1) := by decide +kernel
theorem dX5_toldMany_10 : decode cX5_toldMany 10 = .ok (.iaload, 1) := by decide +kernel
theorem dX5_toldMany_11 : decode cX5_toldMany 11 = .ok (.if_icmp .ge 25, 3) := by decide +kernel
theorem dX5_toldMany_14 : decode cX5_toldMany 14 = .ok (.iload_n 1, 1) := by decide +kernel
theorem dX5_toldMany_15 : decode cX5_toldMany 15 = .ok (.aload_n 0, 1) := by decide +kernel
theorem dX5_toldMany_16 : decode cX5_toldMany 16 = .ok (.iload_n 2, 1) := by decide +kernel
theorem dX5_toldMany_17 : decode cX5_toldMany 17 = .ok (.invokevirtual 110, 3) := by decide +kernel
theorem dX5_toldMany_20 : decode cX5_toldMany 20 = .ok (.ifCond .eq 7, 3) := by decide +kernel
theorem dX5_toldMany_23 : decode cX5_toldMany 23 = .ok (.iconst 1, 1) := by decide +kernel
theorem dX5_toldMany_24 : decode cX5_toldMany 24 = .ok (.goto 4, 3) := by decide +kernel
theorem dX5_toldMany_27 : decode cX5_toldMany 27 = .ok (.iconst 0, 1) := by decide +kernel
theorem dX5_toldMany_28 : decode cX5_toldMany 28 = .ok (.iadd, 1) := by decide +kernel
theorem dX5_toldMany_29 : decode cX5_toldMany 29 = .ok (.istore_n 1, 1) := by decide +kernel
theorem dX5_toldMany_30 : decode cX5_toldMany 30 = .ok (.iinc 2 1, 3) := by decide +kernel
theorem dX5_toldMany_33 : decode cX5_toldMany 33 = .ok (.goto (-29), 3) := by decide +kernel
theorem dX5_toldMany_36 : decode cX5_toldMany 36 = .ok (.iload_n 1, 1) := by decide +kernel
theorem dX5_toldMany_37 : decode cX5_toldMany 37 = .ok (.ireturn, 1) := by decide +kernel
set_option maxRecDepth 20000 in
theorem ggX5_counted_X5_onSet : GoodIn wsX5_counted wsX5_onSet := goodIn_r _ [7, 1, 8, 9, 10, 6, 11, 12, 13, 14, 15, 79, 80, 81, 82, 83, 84, 85, 86, 87, 88, 89, 90, 91] (by decide +kernel) (by decide +kernel)
set_option maxRecDepth 20000 in
theorem gX5_counted_X5_onSet : GoodIn wsX5_counted (wsV RX5 77 RX5 yX5_onSet wsX5_onSet) := goodIn_app (goodIn_of _ (by decide +kernel)) ggX5_counted_X5_onSet
set_option maxRecDepth 20000 in
theorem ggX5_counted_X5_bits : GoodIn wsX5_counted wsX5_bits := goodIn_r _ [18] (by decide +kernel) (by decide +kernel)
set_option maxRecDepth 20000 in
theorem gX5_counted_X5_bits : GoodIn wsX5_counted (va_wsS RX5 113 yX5_bits wsX5_bits) := goodIn_app (goodIn_of _ (by decide +kernel)) ggX5_counted_X5_bits
set_option maxRecDepth 20000 in
theorem ggX5_counted_X5_voids : GoodIn wsX5_counted wsX5_voids := goodIn_r _ [22, 1, 23, 24, 25, 6, 26, 12, 13, 14, 15, 27, 28, 29, 79, 80, 81, 82, 83, 84, 85, 86, 87, 88, 89, 90, 91] (by decide +kernel) (by decide +kernel)
set_option maxRecDepth 20000 in
theorem gX5_counted_X5_voids : GoodIn wsX5_counted (wsV RX5 159 RX5 yX5_voids wsX5_voids) := goodIn_app (goodIn_of _ (by decide +kernel)) ggX5_counted_X5_voids
set_option maxRecDepth 20000 in
theorem ggX5_counted_X5_quarrels : GoodIn wsX5_counted wsX5_quarrels := goodIn_r _ [33, 1, 8, 9, 10, 6, 11, 12, 13, 14, 15, 34, 35, 36, 37, 38, 39, 40, 41, 23, 24, 25, 26, 27, 28, 29, 42, 43, 44, 45, 46, 47, 48, 49, 79, 80, 81, 82, 83, 84, 85, 86, 87, 88, 89, 90, 91] (by decide +kernel) (by decide +kernel)
set_option maxRecDepth 20000 in
theorem gX5_counted_X5_quarrels : GoodIn wsX5_counted (wsV RX5 162 RX5 yX5_quarrels wsX5_quarrels) := goodIn_app (goodIn_of _ (by decide +kernel)) ggX5_counted_X5_quarrels
set_option maxRecDepth 20000 in
theorem ggX5_counted_X5_isPossible : GoodIn wsX5_counted wsX5_isPossible := goodIn_r _ [53, 1, 38, 39, 40, 6, 41, 23, 24, 25, 26, 12, 13, 14, 15, 27, 28, 29, 42, 43, 44, 45, 46, 47, 48, 49, 79, 80, 81, 82, 83, 84, 85, 86, 87, 88, 89, 90, 91] (by decide +kernel) (by decide +kernel)
set_option maxRecDepth 20000 in
theorem gX5_counted_X5_isPossible : GoodIn wsX5_counted (wsV RX5 67 RX5 yX5_isPossible wsX5_isPossible) := goodIn_app (goodIn_of _ (by decide +kernel)) ggX5_counted_X5_isPossible
set_option maxRecDepth 20000 in
theorem ggX5_counted_X5_toldMany : GoodIn wsX5_counted wsX5_toldMany := goodIn_r _ [57, 1, 58, 59, 60, 6, 61, 8, 9, 10, 11, 12, 13, 14, 15, 3, 4, 5, 7, 62, 63, 64, 65, 66, 67, 68, 69, 70, 71, 50, 51, 52, 53, 38, 39, 40, 41, 23, 24, 25, 26, 27, 28, 29, 42, 43, 44, 45, 46, 47, 48, 49, 72, 73, 74, 75, 76, 77, 78, 79, 80, 81, 82, 83, 84, 85, 86, 87, 88, 89, 90, 91] (by decide +kernel) (by decide +kernel)
set_option maxRecDepth 20000 in
theorem gX5_counted_X5_toldMany : GoodIn wsX5_counted (wsV RX5 165 RX5 yX5_toldMany wsX5_toldMany) := goodIn_app (goodIn_of _ (by decide +kernel)) ggX5_counted_X5_toldMany
theorem dX5_counted_0 : decode cX5_counted 0 = .ok (.iload_n 1, 1) := by decide +kernel
theorem dX5_counted_1 : decode cX5_counted 1 = .ok (.tableswitch 86 0 5 #[39, 46, 54, 59, 64, 81], 39) := by decide +kernel
theorem dX5_counted_40 : decode cX5_counted 40 = .ok (.aload_n 0, 1) := by decide +kernel
theorem dX5_counted_41 : decode cX5_counted 41 = .ok (.getfield 7, 3) := by decide +kernel
theorem dX5_counted_44 : decode cX5_counted 44 = .ok (.iconst 0, 1) := by decide +kernel
theorem dX5_counted_45 : decode cX5_counted 45 = .ok (.iaload, 1) := by decide +kernel
theorem dX5_counted_46 : decode cX5_counted 46 = .ok (.ireturn, 1) := by decide +kernel
theorem dX5_counted_47 : decode cX5_counted 47 = .ok (.aload_n 0, 1) := by decide +kernel
theorem dX5_counted_48 : decode cX5_counted 48 = .ok (.invokevirtual 77, 3) := by decide +kernel
theorem dX5_counted_51 : decode cX5_counted 51 = .ok (.invokestatic 113, 3) := by decide +kernel
theorem dX5_counted_54 : decode cX5_counted 54 = .ok (.ireturn, 1) := by decide +kernel
theorem dX5_counted_55 : decode cX5_counted 55 = .ok (.aload_n 0, 1) := by decide +kernel
theorem dX5_counted_56 : decode cX5_counted 56 = .ok (.invokevirtual 159, 3) := by decide +kernel
theorem dX5_counted_59 : decode cX5_counted 59 = .ok (.ireturn, 1) := by decide +kernel
theorem dX5_counted_60 : decode cX5_counted 60 = .ok (.aload_n 0, 1) := by decide +kernel
theorem dX5_counted_61 : decode cX5_counted 61 = .ok (.invokevirtual 162, 3) := by decide +kernel
theorem dX5_counted_64 : decode cX5_counted 64 = .ok (.ireturn, 1) := by decide +kernel
theorem dX5_counted_65 : decode cX5_counted 65 = .ok (.aload_n 0, 1) := by decide +kernel
theorem dX5_counted_66 : decode cX5_counted 66 = .ok (.aload_n 0, 1) := by decide +kernel
theorem dX5_counted_67 : decode cX5_counted 67 = .ok (.invokevirtual 77, 3) := by decide +kernel
theorem dX5_counted_70 : decode cX5_counted 70 = .ok (.invokevirtual 67, 3) := by decide +kernel
theorem dX5_counted_73 : decode cX5_counted 73 = .ok (.ifCond .eq 7, 3) := by decide +kernel
theorem dX5_counted_76 : decode cX5_counted 76 = .ok (.iconst 1, 1) := by decide +kernel
theorem dX5_counted_77 : decode cX5_counted 77 = .ok (.goto 4, 3) := by decide +kernel
theorem dX5_counted_80 : decode cX5_counted 80 = .ok (.iconst 0, 1) := by decide +kernel
theorem dX5_counted_81 : decode cX5_counted 81 = .ok (.ireturn, 1) := by decide +kernel
theorem dX5_counted_82 : decode cX5_counted 82 = .ok (.aload_n 0, 1) := by decide +kernel
theorem dX5_counted_83 : decode cX5_counted 83 = .ok (.invokevirtual 165, 3) := by decide +kernel
theorem dX5_counted_86 : decode cX5_counted 86 = .ok (.ireturn, 1) := by decide +kernel
theorem dX5_counted_87 : decode cX5_counted 87 = .ok (.aload_n 0, 1) := by decide +kernel
theorem dX5_counted_88 : decode cX5_counted 88 = .ok (.getfield 32, 3) := by decide +kernel
theorem dX5_counted_91 : decode cX5_counted 91 = .ok (.ireturn, 1) := by decide +kernel
set_option maxRecDepth 20000 in
theorem ggX5_count_X5_in : GoodIn wsX5_count wsX5_in := goodIn_r _ [5] (by decide +kernel) (by decide +kernel)
set_option maxRecDepth 20000 in
theorem gX5_count_X5_in : GoodIn wsX5_count (va_wsS RX5 84 yX5_in wsX5_in) := goodIn_app (goodIn_of _ (by decide +kernel)) ggX5_count_X5_in
set_option maxRecDepth 20000 in
theorem ggX5_count_X5_counted : GoodIn wsX5_count wsX5_counted := goodIn_r _ [9, 10, 11, 12, 13, 14, 4, 15, 16, 17, 18, 19, 20, 21, 22, 23, 24, 25, 26, 27, 28, 29, 30, 31, 32, 33, 34, 35, 36, 37, 38, 39, 40, 41, 42, 43, 44, 45, 46, 47, 48, 49, 50, 51, 52, 53, 54, 55, 56, 57, 58, 59, 60, 61, 62, 63, 64, 65, 66, 67, 68, 69, 70, 71, 72, 73, 74, 75, 76, 77, 78, 79, 80, 81, 82, 83, 84, 85, 86, 87, 88, 89, 90, 91, 92, 93, 94, 95, 96, 97, 98, 99] (by decide +kernel) (by decide +kernel)
set_option maxRecDepth 20000 in
theorem gX5_count_X5_counted : GoodIn wsX5_count (wsV RX5 168 RX5 yX5_counted wsX5_counted) := goodIn_app (goodIn_of _ (by decide +kernel)) ggX5_count_X5_counted
theorem dX5_count_0 : decode cX5_count 0 = .ok (.aload_n 0, 1) := by decide +kernel
theorem dX5_count_1 : decode cX5_count 1 = .ok (.iload_n 1, 1) := by decide +kernel
theorem dX5_count_2 : decode cX5_count 2 = .ok (.iconst 0, 1) := by decide +kernel
theorem dX5_count_3 : decode cX5_count 3 = .ok (.bipush 6, 2) := by decide +kernel
theorem dX5_count_5 : decode cX5_count 5 = .ok (.invokestatic 84, 3) := by decide +kernel
theorem dX5_count_8 : decode cX5_count 8 = .ok (.ifCond .eq 7, 3) := by decide +kernel
theorem dX5_count_11 : decode cX5_count 11 = .ok (.iconst 0, 1) := by decide +kernel
theorem dX5_count_12 : decode cX5_count 12 = .ok (.goto 4, 3) := by decide +kernel
theorem dX5_count_15 : decode cX5_count 15 = .ok (.iconst 1, 1) := by decide +kernel
theorem dX5_count_16 : decode cX5_count 16 = .ok (.putfield 22, 3) := by decide +kernel
theorem dX5_count_19 : decode cX5_count 19 = .ok (.aload_n 0, 1) := by decide +kernel
theorem dX5_count_20 : decode cX5_count 20 = .ok (.getfield 22, 3) := by decide +kernel
theorem dX5_count_23 : decode cX5_count 23 = .ok (.ifCond .le 7, 3) := by decide +kernel
theorem dX5_count_26 : decode cX5_count 26 = .ok (.iconst 0, 1) := by decide +kernel
theorem dX5_count_27 : decode cX5_count 27 = .ok (.goto 8, 3) := by decide +kernel
theorem dX5_count_30 : decode cX5_count 30 = .ok (.aload_n 0, 1) := by decide +kernel
theorem dX5_count_31 : decode cX5_count 31 = .ok (.iload_n 1, 1) := by decide +kernel
theorem dX5_count_32 : decode cX5_count 32 = .ok (.invokevirtual 168, 3) := by decide +kernel
theorem dX5_count_35 : decode cX5_count 35 = .ok (.ireturn, 1) := by decide +kernel
set_option maxRecDepth 20000 in
theorem ggX5_isPrime_X5_in : GoodIn wsX5_isPrime wsX5_in := goodIn_r _ [4] (by decide +kernel) (by decide +kernel)
set_option maxRecDepth 20000 in
theorem gX5_isPrime_X5_in : GoodIn wsX5_isPrime (va_wsS RX5 84 yX5_in wsX5_in) := goodIn_app (goodIn_of _ (by decide +kernel)) ggX5_isPrime_X5_in
theorem dX5_isPrime_0 : decode cX5_isPrime 0 = .ok (.iload_n 0, 1) := by decide +kernel
theorem dX5_isPrime_1 : decode cX5_isPrime 1 = .ok (.iconst 2, 1) := by decide +kernel
theorem dX5_isPrime_2 : decode cX5_isPrime 2 = .ok (.bipush 31, 2) := by decide +kernel
theorem dX5_isPrime_4 : decode cX5_isPrime 4 = .ok (.invokestatic 84, 3) := by decide +kernel
theorem dX5_isPrime_7 : decode cX5_isPrime 7 = .ok (.istore_n 1, 1) := by decide +kernel
theorem dX5_isPrime_8 : decode cX5_isPrime 8 = .ok (.iconst 2, 1) := by decide +kernel
theorem dX5_isPrime_9 : decode cX5_isPrime 9 = .ok (.istore_n 2, 1) := by decide +kernel
theorem dX5_isPrime_10 : decode cX5_isPrime 10 = .ok (.iload_n 2, 1) := by decide +kernel
theorem dX5_isPrime_11 : decode cX5_isPrime 11 = .ok (.iload_n 0, 1) := by decide +kernel
theorem dX5_isPrime_12 : decode cX5_isPrime 12 = .ok (.if_icmp .ge 25, 3) := by decide +kernel
theorem dX5_isPrime_15 : decode cX5_isPrime 15 = .ok (.iload_n 1, 1) := by decide +kernel
theorem dX5_isPrime_16 : decode cX5_isPrime 16 = .ok (.ifCond .eq 21, 3) := by decide +kernel
theorem dX5_isPrime_19 : decode cX5_isPrime 19 = .ok (.iload_n 0, 1) := by decide +kernel
theorem dX5_isPrime_20 : decode cX5_isPrime 20 = .ok (.iload_n 2, 1) := by decide +kernel
theorem dX5_isPrime_21 : decode cX5_isPrime 21 = .ok (.irem, 1) := by decide +kernel
theorem dX5_isPrime_22 : decode cX5_isPrime 22 = .ok (.ifCond .eq 7, 3) := by decide +kernel
theorem dX5_isPrime_25 : decode cX5_isPrime 25 = .ok (.iconst 1, 1) := by decide +kernel
theorem dX5_isPrime_26 : decode cX5_isPrime 26 = .ok (.goto 4, 3) := by decide +kernel
theorem dX5_isPrime_29 : decode cX5_isPrime 29 = .ok (.iconst 0, 1) := by decide +kernel
theorem dX5_isPrime_30 : decode cX5_isPrime 30 = .ok (.istore_n 1, 1) := by decide +kernel
theorem dX5_isPrime_31 : decode cX5_isPrime 31 = .ok (.iinc 2 1, 3) := by decide +kernel
theorem dX5_isPrime_34 : decode cX5_isPrime 34 = .ok (.goto (-24), 3) := by decide +kernel
theorem dX5_isPrime_37 : decode cX5_isPrime 37 = .ok (.iload_n 1, 1) := by decide +kernel
theorem dX5_isPrime_38 : decode cX5_isPrime 38 = .ok (.ireturn, 1) := by decide +kernel
set_option maxRecDepth 20000 in
theorem ggX5_powerIn_X5_modulus : GoodIn wsX5_powerIn wsX5_modulus := goodIn_r _ [5, 6, 7, 8, 4, 9, 10, 11, 12, 13, 14, 15, 16, 17, 18, 19, 20, 21, 22, 23, 24, 25, 26] (by decide +kernel) (by decide +kernel)
set_option maxRecDepth 20000 in
theorem gX5_powerIn_X5_modulus : GoodIn wsX5_powerIn (wsV RX5 42 RX5 yX5_modulus wsX5_modulus) := goodIn_app (goodIn_of _ (by decide +kernel)) ggX5_powerIn_X5_modulus
theorem dX5_powerIn_0 : decode cX5_powerIn 0 = .ok (.iconst 1, 1) := by decide +kernel
theorem dX5_powerIn_1 : decode cX5_powerIn 1 = .ok (.istore_n 3, 1) := by decide +kernel
theorem dX5_powerIn_2 : decode cX5_powerIn 2 = .ok (.aload_n 0, 1) := by decide +kernel
theorem dX5_powerIn_3 : decode cX5_powerIn 3 = .ok (.iload_n 1, 1) := by decide +kernel
theorem dX5_powerIn_4 : decode cX5_powerIn 4 = .ok (.invokevirtual 42, 3) := by decide +kernel
theorem dX5_powerIn_7 : decode cX5_powerIn 7 = .ok (.iload_n 3, 1) := by decide +kernel
theorem dX5_powerIn_8 : decode cX5_powerIn 8 = .ok (.iload_n 2, 1) := by decide +kernel
theorem dX5_powerIn_9 : decode cX5_powerIn 9 = .ok (.imul, 1) := by decide +kernel
theorem dX5_powerIn_10 : decode cX5_powerIn 10 = .ok (.irem, 1) := by decide +kernel
theorem dX5_powerIn_11 : decode cX5_powerIn 11 = .ok (.ifCond .ne 10, 3) := by decide +kernel
theorem dX5_powerIn_14 : decode cX5_powerIn 14 = .ok (.iload_n 3, 1) := by decide +kernel
theorem dX5_powerIn_15 : decode cX5_powerIn 15 = .ok (.iload_n 2, 1) := by decide +kernel
theorem dX5_powerIn_16 : decode cX5_powerIn 16 = .ok (.imul, 1) := by decide +kernel
theorem dX5_powerIn_17 : decode cX5_powerIn 17 = .ok (.istore_n 3, 1) := by decide +kernel
theorem dX5_powerIn_18 : decode cX5_powerIn 18 = .ok (.goto (-16), 3) := by decide +kernel
theorem dX5_powerIn_21 : decode cX5_powerIn 21 = .ok (.iload_n 3, 1) := by decide +kernel
theorem dX5_powerIn_22 : decode cX5_powerIn 22 = .ok (.ireturn, 1) := by decide +kernel
set_option maxRecDepth 20000 in
theorem ggX5_strongest_X5_isOn : GoodIn wsX5_strongest wsX5_isOn := goodIn_r _ [6, 7, 8, 9, 5, 10, 1, 26, 27, 28, 29, 30, 31, 32, 33, 34, 35, 36, 37, 38] (by decide +kernel) (by decide +kernel)
set_option maxRecDepth 20000 in
theorem gX5_strongest_X5_isOn : GoodIn wsX5_strongest (wsV RX5 49 RX5 yX5_isOn wsX5_isOn) := goodIn_app (goodIn_of _ (by decide +kernel)) ggX5_strongest_X5_isOn
set_option maxRecDepth 20000 in
theorem ggX5_strongest_X5_isVoid : GoodIn wsX5_strongest wsX5_isVoid := goodIn_r _ [14, 7, 8, 9, 5, 10, 1, 15, 16, 17, 26, 27, 28, 29, 30, 31, 32, 33, 34, 35, 36, 37, 38] (by decide +kernel) (by decide +kernel)
set_option maxRecDepth 20000 in
theorem gX5_strongest_X5_isVoid : GoodIn wsX5_strongest (wsV RX5 38 RX5 yX5_isVoid wsX5_isVoid) := goodIn_app (goodIn_of _ (by decide +kernel)) ggX5_strongest_X5_isVoid
set_option maxRecDepth 20000 in
theorem ggX5_strongest_X5_powerIn : GoodIn wsX5_strongest wsX5_powerIn := goodIn_r _ [21, 22, 23, 24, 5, 25, 7, 8, 9, 10, 1, 15, 16, 17, 26, 27, 28, 29, 30, 31, 32, 33, 34, 35, 36, 37, 38] (by decide +kernel) (by decide +kernel)
set_option maxRecDepth 20000 in
theorem gX5_strongest_X5_powerIn : GoodIn wsX5_strongest (wsV RX5 171 RX5 yX5_powerIn wsX5_powerIn) := goodIn_app (goodIn_of _ (by decide +kernel)) ggX5_strongest_X5_powerIn
theorem dX5_strongest_0 : decode cX5_strongest 0 = .ok (.iconst (-1), 1) := by decide +kernel
theorem dX5_strongest_1 : decode cX5_strongest 1 = .ok (.istore_n 2, 1) := by decide +kernel
theorem dX5_strongest_2 : decode cX5_strongest 2 = .ok (.iconst 1, 1) := by decide +kernel
theorem dX5_strongest_3 : decode cX5_strongest 3 = .ok (.istore_n 3, 1) := by decide +kernel
theorem dX5_strongest_4 : decode cX5_strongest 4 = .ok (.iconst 0, 1) := by decide +kernel
theorem dX5_strongest_5 : decode cX5_strongest 5 = .ok (.istore 4, 2) := by decide +kernel
theorem dX5_strongest_7 : decode cX5_strongest 7 = .ok (.iload 4, 2) := by decide +kernel
theorem dX5_strongest_9 : decode cX5_strongest 9 = .ok (.aload_n 0, 1) := by decide +kernel
theorem dX5_strongest_10 : decode cX5_strongest 10 = .ok (.getfield 7, 3) := by decide +kernel
theorem dX5_strongest_13 : decode cX5_strongest 13 = .ok (.iconst 0, 1) := by decide +kernel
theorem dX5_strongest_14 : decode cX5_strongest 14 = .ok (.iaload, 1) := by decide +kernel
theorem dX5_strongest_15 : decode cX5_strongest 15 = .ok (.if_icmp .ge 66, 3) := by decide +kernel
theorem dX5_strongest_18 : decode cX5_strongest 18 = .ok (.aload_n 0, 1) := by decide +kernel
theorem dX5_strongest_19 : decode cX5_strongest 19 = .ok (.iload 4, 2) := by decide +kernel
theorem dX5_strongest_21 : decode cX5_strongest 21 = .ok (.invokevirtual 49, 3) := by decide +kernel
theorem dX5_strongest_24 : decode cX5_strongest 24 = .ok (.ifCond .eq 22, 3) := by decide +kernel
theorem dX5_strongest_27 : decode cX5_strongest 27 = .ok (.aload_n 0, 1) := by decide +kernel
theorem dX5_strongest_28 : decode cX5_strongest 28 = .ok (.iload 4, 2) := by decide +kernel
theorem dX5_strongest_30 : decode cX5_strongest 30 = .ok (.invokevirtual 38, 3) := by decide +kernel
theorem dX5_strongest_33 : decode cX5_strongest 33 = .ok (.ifCond .ne 13, 3) := by decide +kernel
theorem dX5_strongest_36 : decode cX5_strongest 36 = .ok (.aload_n 0, 1) := by decide +kernel
theorem dX5_strongest_37 : decode cX5_strongest 37 = .ok (.iload 4, 2) := by decide +kernel
theorem dX5_strongest_39 : decode cX5_strongest 39 = .ok (.iload_n 1, 1) := by decide +kernel
theorem dX5_strongest_40 : decode cX5_strongest 40 = .ok (.invokevirtual 171, 3) := by decide +kernel
theorem dX5_strongest_43 : decode cX5_strongest 43 = .ok (.goto 4, 3) := by decide +kernel
theorem dX5_strongest_46 : decode cX5_strongest 46 = .ok (.iconst 1, 1) := by decide +kernel
theorem dX5_strongest_47 : decode cX5_strongest 47 = .ok (.istore 5, 2) := by decide +kernel
theorem dX5_strongest_49 : decode cX5_strongest 49 = .ok (.iload 5, 2) := by decide +kernel
theorem dX5_strongest_51 : decode cX5_strongest 51 = .ok (.iload_n 3, 1) := by decide +kernel
theorem dX5_strongest_52 : decode cX5_strongest 52 = .ok (.if_icmp .le 8, 3) := by decide +kernel
theorem dX5_strongest_55 : decode cX5_strongest 55 = .ok (.iload 4, 2) := by decide +kernel
theorem dX5_strongest_57 : decode cX5_strongest 57 = .ok (.goto 4, 3) := by decide +kernel
theorem dX5_strongest_60 : decode cX5_strongest 60 = .ok (.iload_n 2, 1) := by decide +kernel
theorem dX5_strongest_61 : decode cX5_strongest 61 = .ok (.istore_n 2, 1) := by decide +kernel
theorem dX5_strongest_62 : decode cX5_strongest 62 = .ok (.iload 5, 2) := by decide +kernel
theorem dX5_strongest_64 : decode cX5_strongest 64 = .ok (.iload_n 3, 1) := by decide +kernel
theorem dX5_strongest_65 : decode cX5_strongest 65 = .ok (.if_icmp .le 8, 3) := by decide +kernel
theorem dX5_strongest_68 : decode cX5_strongest 68 = .ok (.iload 5, 2) := by decide +kernel
theorem dX5_strongest_70 : decode cX5_strongest 70 = .ok (.goto 4, 3) := by decide +kernel
theorem dX5_strongest_73 : decode cX5_strongest 73 = .ok (.iload_n 3, 1) := by decide +kernel
theorem dX5_strongest_74 : decode cX5_strongest 74 = .ok (.istore_n 3, 1) := by decide +kernel
theorem dX5_strongest_75 : decode cX5_strongest 75 = .ok (.iinc 4 1, 3) := by decide +kernel
theorem dX5_strongest_78 : decode cX5_strongest 78 = .ok (.goto (-71), 3) := by decide +kernel
theorem dX5_strongest_81 : decode cX5_strongest 81 = .ok (.iload_n 2, 1) := by decide +kernel
theorem dX5_strongest_82 : decode cX5_strongest 82 = .ok (.ireturn, 1) := by decide +kernel
set_option maxRecDepth 20000 in
theorem ggX5_toldPrime_X5_strongest : GoodIn wsX5_toldPrime wsX5_strongest := goodIn_r _ [6, 1, 7, 8, 9, 5, 10, 11, 12, 13, 14, 15, 16, 17, 18, 19, 20, 21, 22, 23, 24, 25, 26, 27, 28, 29, 34, 35, 36, 37, 38, 39, 40, 41, 42, 43, 44, 45, 46] (by decide +kernel) (by decide +kernel)
set_option maxRecDepth 20000 in
theorem gX5_toldPrime_X5_strongest : GoodIn wsX5_toldPrime (wsV RX5 174 RX5 yX5_strongest wsX5_strongest) := goodIn_app (goodIn_of _ (by decide +kernel)) ggX5_toldPrime_X5_strongest
set_option maxRecDepth 20000 in
theorem ggX5_toldPrime_X5_powerIn : GoodIn wsX5_toldPrime wsX5_powerIn := goodIn_r _ [25, 26, 27, 28, 5, 29, 11, 12, 13, 14, 1, 19, 20, 21, 34, 35, 36, 37, 38, 39, 40, 41, 42, 43, 44, 45, 46] (by decide +kernel) (by decide +kernel)
set_option maxRecDepth 20000 in
theorem gX5_toldPrime_X5_powerIn : GoodIn wsX5_toldPrime (wsV RX5 171 RX5 yX5_powerIn wsX5_powerIn) := goodIn_app (goodIn_of _ (by decide +kernel)) ggX5_toldPrime_X5_powerIn
set_option maxRecDepth 20000 in
theorem ggX5_toldPrime_X5_isOn : GoodIn wsX5_toldPrime wsX5_isOn := goodIn_r _ [10, 11, 12, 13, 5, 14, 1, 34, 35, 36, 37, 38, 39, 40, 41, 42, 43, 44, 45, 46] (by decide +kernel) (by decide +kernel)
set_option maxRecDepth 20000 in
theorem gX5_toldPrime_X5_isOn : GoodIn wsX5_toldPrime (wsV RX5 49 RX5 yX5_isOn wsX5_isOn) := goodIn_app (goodIn_of _ (by decide +kernel)) ggX5_toldPrime_X5_isOn
set_option maxRecDepth 20000 in
theorem ggX5_toldPrime_X5_isVoid : GoodIn wsX5_toldPrime wsX5_isVoid := goodIn_r _ [18, 11, 12, 13, 5, 14, 1, 19, 20, 21, 34, 35, 36, 37, 38, 39, 40, 41, 42, 43, 44, 45, 46] (by decide +kernel) (by decide +kernel)
set_option maxRecDepth 20000 in
theorem gX5_toldPrime_X5_isVoid : GoodIn wsX5_toldPrime (wsV RX5 38 RX5 yX5_isVoid wsX5_isVoid) := goodIn_app (goodIn_of _ (by decide +kernel)) ggX5_toldPrime_X5_isVoid
set_option maxRecDepth 20000 in
theorem ggX5_toldPrime_X5_rest : GoodIn wsX5_toldPrime wsX5_rest := goodIn_r _ [33, 11, 12, 13, 5, 14, 1, 34, 35, 36, 37, 38, 39, 40, 41, 42, 43, 44, 45, 46] (by decide +kernel) (by decide +kernel)
set_option maxRecDepth 20000 in
theorem gX5_toldPrime_X5_rest : GoodIn wsX5_toldPrime (wsV RX5 46 RX5 yX5_rest wsX5_rest) := goodIn_app (goodIn_of _ (by decide +kernel)) ggX5_toldPrime_X5_rest
theorem dX5_toldPrime_0 : decode cX5_toldPrime 0 = .ok (.aload_n 0, 1) := by decide +kernel
theorem dX5_toldPrime_1 : decode cX5_toldPrime 1 = .ok (.iload_n 1, 1) := by decide +kernel
theorem dX5_toldPrime_2 : decode cX5_toldPrime 2 = .ok (.invokevirtual 174, 3) := by decide +kernel
theorem dX5_toldPrime_5 : decode cX5_toldPrime 5 = .ok (.istore_n 3, 1) := by decide +kernel
theorem dX5_toldPrime_6 : decode cX5_toldPrime 6 = .ok (.iload_n 3, 1) := by decide +kernel
theorem dX5_toldPrime_7 : decode cX5_toldPrime 7 = .ok (.iconst (-1), 1) := by decide +kernel
theorem dX5_toldPrime_8 : decode cX5_toldPrime 8 = .ok (.if_icmp .ne 22, 3) := by decide +kernel
theorem dX5_toldPrime_11 : decode cX5_toldPrime 11 = .ok (.iload_n 2, 1) := by decide +kernel
theorem dX5_toldPrime_12 : decode cX5_toldPrime 12 = .ok (.ifCond .ne 7, 3) := by decide +kernel
theorem dX5_toldPrime_15 : decode cX5_toldPrime 15 = .ok (.iconst (-1), 1) := by decide +kernel
theorem dX5_toldPrime_16 : decode cX5_toldPrime 16 = .ok (.goto 13, 3) := by decide +kernel
theorem dX5_toldPrime_19 : decode cX5_toldPrime 19 = .ok (.iload_n 2, 1) := by decide +kernel
theorem dX5_toldPrime_20 : decode cX5_toldPrime 20 = .ok (.iconst 1, 1) := by decide +kernel
theorem dX5_toldPrime_21 : decode cX5_toldPrime 21 = .ok (.if_icmp .ne 7, 3) := by decide +kernel
theorem dX5_toldPrime_24 : decode cX5_toldPrime 24 = .ok (.iconst 1, 1) := by decide +kernel
theorem dX5_toldPrime_25 : decode cX5_toldPrime 25 = .ok (.goto 4, 3) := by decide +kernel
theorem dX5_toldPrime_28 : decode cX5_toldPrime 28 = .ok (.iconst 0, 1) := by decide +kernel
theorem dX5_toldPrime_29 : decode cX5_toldPrime 29 = .ok (.ireturn, 1) := by decide +kernel
theorem dX5_toldPrime_30 : decode cX5_toldPrime 30 = .ok (.aload_n 0, 1) := by decide +kernel
theorem dX5_toldPrime_31 : decode cX5_toldPrime 31 = .ok (.iload_n 3, 1) := by decide +kernel
theorem dX5_toldPrime_32 : decode cX5_toldPrime 32 = .ok (.iload_n 1, 1) := by decide +kernel
theorem dX5_toldPrime_33 : decode cX5_toldPrime 33 = .ok (.invokevirtual 171, 3) := by decide +kernel
theorem dX5_toldPrime_36 : decode cX5_toldPrime 36 = .ok (.istore 4, 2) := by decide +kernel
theorem dX5_toldPrime_38 : decode cX5_toldPrime 38 = .ok (.iconst 0, 1) := by decide +kernel
theorem dX5_toldPrime_39 : decode cX5_toldPrime 39 = .ok (.istore 5, 2) := by decide +kernel
theorem dX5_toldPrime_41 : decode cX5_toldPrime 41 = .ok (.iconst 0, 1) := by decide +kernel
theorem dX5_toldPrime_42 : decode cX5_toldPrime 42 = .ok (.istore 6, 2) := by decide +kernel
theorem dX5_toldPrime_44 : decode cX5_toldPrime 44 = .ok (.iload 6, 2) := by decide +kernel
theorem dX5_toldPrime_46 : decode cX5_toldPrime 46 = .ok (.aload_n 0, 1) := by decide +kernel
theorem dX5_toldPrime_47 : decode cX5_toldPrime 47 = .ok (.getfield 7, 3) := by decide +kernel
theorem dX5_toldPrime_50 : decode cX5_toldPrime 50 = .ok (.iconst 0, 1) := by decide +kernel
theorem dX5_toldPrime_51 : decode cX5_toldPrime 51 = .ok (.iaload, 1) := by decide +kernel
theorem dX5_toldPrime_52 : decode cX5_toldPrime 52 = .ok (.if_icmp .ge 66, 3) := by decide +kernel
theorem dX5_toldPrime_55 : decode cX5_toldPrime 55 = .ok (.aload_n 0, 1) := by decide +kernel
theorem dX5_toldPrime_56 : decode cX5_toldPrime 56 = .ok (.iload 6, 2) := by decide +kernel
theorem dX5_toldPrime_58 : decode cX5_toldPrime 58 = .ok (.invokevirtual 49, 3) := by decide +kernel
theorem dX5_toldPrime_61 : decode cX5_toldPrime 61 = .ok (.ifCond .eq 51, 3) := by decide +kernel
theorem dX5_toldPrime_64 : decode cX5_toldPrime 64 = .ok (.aload_n 0, 1) := by decide +kernel
theorem dX5_toldPrime_65 : decode cX5_toldPrime 65 = .ok (.iload 6, 2) := by decide +kernel
theorem dX5_toldPrime_67 : decode cX5_toldPrime 67 = .ok (.invokevirtual 38, 3) := by decide +kernel
theorem dX5_toldPrime_70 : decode cX5_toldPrime 70 = .ok (.ifCond .ne 42, 3) := by decide +kernel
theorem dX5_toldPrime_73 : decode cX5_toldPrime 73 = .ok (.aload_n 0, 1) := by decide +kernel
theorem dX5_toldPrime_74 : decode cX5_toldPrime 74 = .ok (.iload 6, 2) := by decide +kernel
theorem dX5_toldPrime_76 : decode cX5_toldPrime 76 = .ok (.iload_n 1, 1) := by decide +kernel
theorem dX5_toldPrime_77 : decode cX5_toldPrime 77 = .ok (.invokevirtual 171, 3) := by decide +kernel
theorem dX5_toldPrime_80 : decode cX5_toldPrime 80 = .ok (.istore 7, 2) := by decide +kernel
theorem dX5_toldPrime_82 : decode cX5_toldPrime 82 = .ok (.iload 5, 2) := by decide +kernel
theorem dX5_toldPrime_84 : decode cX5_toldPrime 84 = .ok (.aload_n 0, 1) := by decide +kernel
theorem dX5_toldPrime_85 : decode cX5_toldPrime 85 = .ok (.iload 6, 2) := by decide +kernel
theorem dX5_toldPrime_87 : decode cX5_toldPrime 87 = .ok (.invokevirtual 46, 3) := by decide +kernel
theorem dX5_toldPrime_90 : decode cX5_toldPrime 90 = .ok (.iload 7, 2) := by decide +kernel
theorem dX5_toldPrime_92 : decode cX5_toldPrime 92 = .ok (.irem, 1) := by decide +kernel
theorem dX5_toldPrime_93 : decode cX5_toldPrime 93 = .ok (.aload_n 0, 1) := by decide +kernel
theorem dX5_toldPrime_94 : decode cX5_toldPrime 94 = .ok (.iload_n 3, 1) := by decide +kernel
theorem dX5_toldPrime_95 : decode cX5_toldPrime 95 = .ok (.invokevirtual 46, 3) := by decide +kernel
theorem dX5_toldPrime_98 : decode cX5_toldPrime 98 = .ok (.iload 7, 2) := by decide +kernel
theorem dX5_toldPrime_100 : decode cX5_toldPrime 100 = .ok (.irem, 1) := by decide +kernel
theorem dX5_toldPrime_101 : decode cX5_toldPrime 101 = .ok (.if_icmp .ne 7, 3) := by decide +kernel
theorem dX5_toldPrime_104 : decode cX5_toldPrime 104 = .ok (.iconst 0, 1) := by decide +kernel
theorem dX5_toldPrime_105 : decode cX5_toldPrime 105 = .ok (.goto 4, 3) := by decide +kernel
theorem dX5_toldPrime_108 : decode cX5_toldPrime 108 = .ok (.iconst 1, 1) := by decide +kernel
theorem dX5_toldPrime_109 : decode cX5_toldPrime 109 = .ok (.iadd, 1) := by decide +kernel
theorem dX5_toldPrime_110 : decode cX5_toldPrime 110 = .ok (.istore 5, 2) := by decide +kernel
theorem dX5_toldPrime_112 : decode cX5_toldPrime 112 = .ok (.iinc 6 1, 3) := by decide +kernel
theorem dX5_toldPrime_115 : decode cX5_toldPrime 115 = .ok (.goto (-71), 3) := by decide +kernel
theorem dX5_toldPrime_118 : decode cX5_toldPrime 118 = .ok (.iload_n 2, 1) := by decide +kernel
theorem dX5_toldPrime_119 : decode cX5_toldPrime 119 = .ok (.ifCond .ne 7, 3) := by decide +kernel
theorem dX5_toldPrime_122 : decode cX5_toldPrime 122 = .ok (.iload_n 3, 1) := by decide +kernel
theorem dX5_toldPrime_123 : decode cX5_toldPrime 123 = .ok (.goto 31, 3) := by decide +kernel
theorem dX5_toldPrime_126 : decode cX5_toldPrime 126 = .ok (.iload_n 2, 1) := by decide +kernel
theorem dX5_toldPrime_127 : decode cX5_toldPrime 127 = .ok (.iconst 1, 1) := by decide +kernel
theorem dX5_toldPrime_128 : decode cX5_toldPrime 128 = .ok (.if_icmp .ne 8, 3) := by decide +kernel
theorem dX5_toldPrime_131 : decode cX5_toldPrime 131 = .ok (.iload 4, 2) := by decide +kernel
theorem dX5_toldPrime_133 : decode cX5_toldPrime 133 = .ok (.goto 21, 3) := by decide +kernel
theorem dX5_toldPrime_136 : decode cX5_toldPrime 136 = .ok (.iload_n 2, 1) := by decide +kernel
theorem dX5_toldPrime_137 : decode cX5_toldPrime 137 = .ok (.iconst 2, 1) := by decide +kernel
theorem dX5_toldPrime_138 : decode cX5_toldPrime 138 = .ok (.if_icmp .ne 14, 3) := by decide +kernel
theorem dX5_toldPrime_141 : decode cX5_toldPrime 141 = .ok (.aload_n 0, 1) := by decide +kernel
theorem dX5_toldPrime_142 : decode cX5_toldPrime 142 = .ok (.iload_n 3, 1) := by decide +kernel
theorem dX5_toldPrime_143 : decode cX5_toldPrime 143 = .ok (.invokevirtual 46, 3) := by decide +kernel
theorem dX5_toldPrime_146 : decode cX5_toldPrime 146 = .ok (.iload 4, 2) := by decide +kernel
theorem dX5_toldPrime_148 : decode cX5_toldPrime 148 = .ok (.irem, 1) := by decide +kernel
theorem dX5_toldPrime_149 : decode cX5_toldPrime 149 = .ok (.goto 5, 3) := by decide +kernel
theorem dX5_toldPrime_152 : decode cX5_toldPrime 152 = .ok (.iload 5, 2) := by decide +kernel
theorem dX5_toldPrime_154 : decode cX5_toldPrime 154 = .ok (.ireturn, 1) := by decide +kernel
set_option maxRecDepth 20000 in
theorem ggX5_prime_X5_isPrime : GoodIn wsX5_prime wsX5_isPrime := goodIn_r _ [5, 6, 7, 4, 8] (by decide +kernel) (by decide +kernel)
set_option maxRecDepth 20000 in
theorem gX5_prime_X5_isPrime : GoodIn wsX5_prime (va_wsS RX5 177 yX5_isPrime wsX5_isPrime) := goodIn_app (goodIn_of _ (by decide +kernel)) ggX5_prime_X5_isPrime
set_option maxRecDepth 20000 in
theorem ggX5_prime_X5_in : GoodIn wsX5_prime wsX5_in := goodIn_r _ [8] (by decide +kernel) (by decide +kernel)
set_option maxRecDepth 20000 in
theorem gX5_prime_X5_in : GoodIn wsX5_prime (va_wsS RX5 84 yX5_in wsX5_in) := goodIn_app (goodIn_of _ (by decide +kernel)) ggX5_prime_X5_in
set_option maxRecDepth 20000 in
theorem ggX5_prime_X5_toldPrime : GoodIn wsX5_prime wsX5_toldPrime := goodIn_r _ [12, 13, 14, 15, 16, 4, 17, 18, 19, 20, 21, 22, 23, 24, 25, 26, 27, 28, 29, 30, 31, 32, 33, 34, 35, 36, 37, 38, 39, 40, 41, 42, 43, 44, 45, 46, 47, 48, 49, 50, 51, 52, 53, 54, 55, 56, 57] (by decide +kernel) (by decide +kernel)
set_option maxRecDepth 20000 in
theorem gX5_prime_X5_toldPrime : GoodIn wsX5_prime (wsV RX5 180 RX5 yX5_toldPrime wsX5_toldPrime) := goodIn_app (goodIn_of _ (by decide +kernel)) ggX5_prime_X5_toldPrime
theorem dX5_prime_0 : decode cX5_prime 0 = .ok (.aload_n 0, 1) := by decide +kernel
theorem dX5_prime_1 : decode cX5_prime 1 = .ok (.iload_n 1, 1) := by decide +kernel
theorem dX5_prime_2 : decode cX5_prime 2 = .ok (.invokestatic 177, 3) := by decide +kernel
theorem dX5_prime_5 : decode cX5_prime 5 = .ok (.ifCond .eq 16, 3) := by decide +kernel
theorem dX5_prime_8 : decode cX5_prime 8 = .ok (.iload_n 2, 1) := by decide +kernel
theorem dX5_prime_9 : decode cX5_prime 9 = .ok (.iconst 0, 1) := by decide +kernel
theorem dX5_prime_10 : decode cX5_prime 10 = .ok (.iconst 3, 1) := by decide +kernel
theorem dX5_prime_11 : decode cX5_prime 11 = .ok (.invokestatic 84, 3) := by decide +kernel
theorem dX5_prime_14 : decode cX5_prime 14 = .ok (.ifCond .eq 7, 3) := by decide +kernel
theorem dX5_prime_17 : decode cX5_prime 17 = .ok (.iconst 0, 1) := by decide +kernel
theorem dX5_prime_18 : decode cX5_prime 18 = .ok (.goto 4, 3) := by decide +kernel
theorem dX5_prime_21 : decode cX5_prime 21 = .ok (.iconst 1, 1) := by decide +kernel
theorem dX5_prime_22 : decode cX5_prime 22 = .ok (.putfield 22, 3) := by decide +kernel
theorem dX5_prime_25 : decode cX5_prime 25 = .ok (.aload_n 0, 1) := by decide +kernel
theorem dX5_prime_26 : decode cX5_prime 26 = .ok (.getfield 22, 3) := by decide +kernel
theorem dX5_prime_29 : decode cX5_prime 29 = .ok (.ifCond .le 7, 3) := by decide +kernel
theorem dX5_prime_32 : decode cX5_prime 32 = .ok (.iconst 0, 1) := by decide +kernel
theorem dX5_prime_33 : decode cX5_prime 33 = .ok (.goto 9, 3) := by decide +kernel
theorem dX5_prime_36 : decode cX5_prime 36 = .ok (.aload_n 0, 1) := by decide +kernel
theorem dX5_prime_37 : decode cX5_prime 37 = .ok (.iload_n 1, 1) := by decide +kernel
theorem dX5_prime_38 : decode cX5_prime 38 = .ok (.iload_n 2, 1) := by decide +kernel
theorem dX5_prime_39 : decode cX5_prime 39 = .ok (.invokevirtual 180, 3) := by decide +kernel
theorem dX5_prime_42 : decode cX5_prime 42 = .ok (.ireturn, 1) := by decide +kernel
theorem dX5_answerFrom_0 : decode cX5_answerFrom 0 = .ok (.lload_n 1, 1) := by decide +kernel
theorem dX5_answerFrom_1 : decode cX5_answerFrom 1 = .ok (.aload_n 0, 1) := by decide +kernel
theorem dX5_answerFrom_2 : decode cX5_answerFrom 2 = .ok (.getfield 56, 3) := by decide +kernel
theorem dX5_answerFrom_5 : decode cX5_answerFrom 5 = .ok (.lrem, 1) := by decide +kernel
theorem dX5_answerFrom_6 : decode cX5_answerFrom 6 = .ok (.lstore_n 3, 1) := by decide +kernel
theorem dX5_answerFrom_7 : decode cX5_answerFrom 7 = .ok (.lload_n 1, 1) := by decide +kernel
theorem dX5_answerFrom_8 : decode cX5_answerFrom 8 = .ok (.aload_n 0, 1) := by decide +kernel
theorem dX5_answerFrom_9 : decode cX5_answerFrom 9 = .ok (.getfield 64, 3) := by decide +kernel
theorem dX5_answerFrom_12 : decode cX5_answerFrom 12 = .ok (.lload_n 3, 1) := by decide +kernel
theorem dX5_answerFrom_13 : decode cX5_answerFrom 13 = .ok (.lcmp, 1) := by decide +kernel
theorem dX5_answerFrom_14 : decode cX5_answerFrom 14 = .ok (.ifCond .lt 12, 3) := by decide +kernel
theorem dX5_answerFrom_17 : decode cX5_answerFrom 17 = .ok (.aload_n 0, 1) := by decide +kernel
theorem dX5_answerFrom_18 : decode cX5_answerFrom 18 = .ok (.getfield 64, 3) := by decide +kernel
theorem dX5_answerFrom_21 : decode cX5_answerFrom 21 = .ok (.lload_n 3, 1) := by decide +kernel
theorem dX5_answerFrom_22 : decode cX5_answerFrom 22 = .ok (.lsub, 1) := by decide +kernel
theorem dX5_answerFrom_23 : decode cX5_answerFrom 23 = .ok (.goto 14, 3) := by decide +kernel
theorem dX5_answerFrom_26 : decode cX5_answerFrom 26 = .ok (.aload_n 0, 1) := by decide +kernel
theorem dX5_answerFrom_27 : decode cX5_answerFrom 27 = .ok (.getfield 64, 3) := by decide +kernel
theorem dX5_answerFrom_30 : decode cX5_answerFrom 30 = .ok (.lload_n 3, 1) := by decide +kernel
theorem dX5_answerFrom_31 : decode cX5_answerFrom 31 = .ok (.lsub, 1) := by decide +kernel
theorem dX5_answerFrom_32 : decode cX5_answerFrom 32 = .ok (.aload_n 0, 1) := by decide +kernel
theorem dX5_answerFrom_33 : decode cX5_answerFrom 33 = .ok (.getfield 56, 3) := by decide +kernel
theorem dX5_answerFrom_36 : decode cX5_answerFrom 36 = .ok (.ladd, 1) := by decide +kernel
theorem dX5_answerFrom_37 : decode cX5_answerFrom 37 = .ok (.ladd, 1) := by decide +kernel
theorem dX5_answerFrom_38 : decode cX5_answerFrom 38 = .ok (.lreturn, 1) := by decide +kernel
set_option maxRecDepth 20000 in
theorem ggX5_answered_X5_onSet : GoodIn wsX5_answered wsX5_onSet := goodIn_r _ [7, 8, 9, 10, 11, 6, 12, 13, 14, 15, 16, 56, 57, 58, 59, 60, 61, 62, 63, 64, 65, 66, 67, 68] (by decide +kernel) (by decide +kernel)
set_option maxRecDepth 20000 in
theorem gX5_answered_X5_onSet : GoodIn wsX5_answered (wsV RX5 77 RX5 yX5_onSet wsX5_onSet) := goodIn_app (goodIn_of _ (by decide +kernel)) ggX5_answered_X5_onSet
set_option maxRecDepth 20000 in
theorem ggX5_answered_X5_join : GoodIn wsX5_answered wsX5_join := goodIn_r _ [20, 1, 21, 8, 22, 23, 24, 6, 25, 26, 27, 28, 29, 30, 31, 32, 33, 13, 14, 15, 16, 34, 35, 36, 37, 38, 39, 40, 41, 42, 43, 44, 45, 46, 47, 48, 49, 50, 51, 56, 57, 58, 59, 60, 61, 62, 63, 64, 65, 66, 67, 68] (by decide +kernel) (by decide +kernel)
set_option maxRecDepth 20000 in
theorem gX5_answered_X5_join : GoodIn wsX5_answered (wsV RX5 74 RX5 yX5_join wsX5_join) := goodIn_app (goodIn_of _ (by decide +kernel)) ggX5_answered_X5_join
set_option maxRecDepth 20000 in
theorem ggX5_answered_X5_answerFrom : GoodIn wsX5_answered wsX5_answerFrom := goodIn_r _ [55, 1, 21, 56, 57, 58, 59, 60, 61, 62, 63, 64, 65, 66, 67, 68] (by decide +kernel) (by decide +kernel)
set_option maxRecDepth 20000 in
theorem gX5_answered_X5_answerFrom : GoodIn wsX5_answered (wsV RX5 183 RX5 yX5_answerFrom wsX5_answerFrom) := goodIn_app (goodIn_of _ (by decide +kernel)) ggX5_answered_X5_answerFrom
theorem dX5_answered_0 : decode cX5_answered 0 = .ok (.aload_n 0, 1) := by decide +kernel
theorem dX5_answered_1 : decode cX5_answered 1 = .ok (.aload_n 0, 1) := by decide +kernel
theorem dX5_answered_2 : decode cX5_answered 2 = .ok (.invokevirtual 77, 3) := by decide +kernel
theorem dX5_answered_5 : decode cX5_answered 5 = .ok (.invokevirtual 74, 3) := by decide +kernel
theorem dX5_answered_8 : decode cX5_answered 8 = .ok (.ifCond .eq 19, 3) := by decide +kernel
theorem dX5_answered_11 : decode cX5_answered 11 = .ok (.aload_n 0, 1) := by decide +kernel
theorem dX5_answered_12 : decode cX5_answered 12 = .ok (.lload_n 1, 1) := by decide +kernel
theorem dX5_answered_13 : decode cX5_answered 13 = .ok (.invokevirtual 183, 3) := by decide +kernel
theorem dX5_answered_16 : decode cX5_answered 16 = .ok (.iload_n 3, 1) := by decide +kernel
theorem dX5_answered_17 : decode cX5_answered 17 = .ok (.i2l, 1) := by decide +kernel
theorem dX5_answered_18 : decode cX5_answered 18 = .ok (.aload_n 0, 1) := by decide +kernel
theorem dX5_answered_19 : decode cX5_answered 19 = .ok (.getfield 56, 3) := by decide +kernel
theorem dX5_answered_22 : decode cX5_answered 22 = .ok (.lmul, 1) := by decide +kernel
theorem dX5_answered_23 : decode cX5_answered 23 = .ok (.ladd, 1) := by decide +kernel
theorem dX5_answered_24 : decode cX5_answered 24 = .ok (.goto 6, 3) := by decide +kernel
theorem dX5_answered_27 : decode cX5_answered 27 = .ok (.ldc2_w 153, 3) := by decide +kernel
theorem dX5_answered_30 : decode cX5_answered 30 = .ok (.lreturn, 1) := by decide +kernel
set_option maxRecDepth 20000 in
theorem ggX5_answer_X5_isNumber : GoodIn wsX5_answer wsX5_isNumber := goodIn_r _ [5, 6] (by decide +kernel) (by decide +kernel)
set_option maxRecDepth 20000 in
theorem gX5_answer_X5_isNumber : GoodIn wsX5_answer (va_wsS RX5 187 yX5_isNumber wsX5_isNumber) := goodIn_app (goodIn_of _ (by decide +kernel)) ggX5_answer_X5_isNumber
set_option maxRecDepth 20000 in
theorem ggX5_answer_X5_in : GoodIn wsX5_answer wsX5_in := goodIn_r _ [9] (by decide +kernel) (by decide +kernel)
set_option maxRecDepth 20000 in
theorem gX5_answer_X5_in : GoodIn wsX5_answer (va_wsS RX5 84 yX5_in wsX5_in) := goodIn_app (goodIn_of _ (by decide +kernel)) ggX5_answer_X5_in
set_option maxRecDepth 20000 in
theorem ggX5_answer_X5_answered : GoodIn wsX5_answer wsX5_answered := goodIn_r _ [13, 14, 15, 16, 17, 18, 4, 19, 20, 21, 22, 23, 24, 25, 26, 27, 28, 29, 30, 31, 32, 33, 34, 35, 36, 37, 38, 39, 40, 41, 42, 43, 44, 45, 46, 47, 48, 49, 50, 51, 52, 53, 54, 55, 56, 57, 58, 59, 60, 61, 62, 63, 64, 65, 66, 67, 68, 69, 70, 71, 72, 73, 74, 75, 76, 77, 78, 79, 80] (by decide +kernel) (by decide +kernel)
set_option maxRecDepth 20000 in
theorem gX5_answer_X5_answered : GoodIn wsX5_answer (wsV RX5 191 RX5 yX5_answered wsX5_answered) := goodIn_app (goodIn_of _ (by decide +kernel)) ggX5_answer_X5_answered
theorem dX5_answer_0 : decode cX5_answer 0 = .ok (.aload_n 0, 1) := by decide +kernel
theorem dX5_answer_1 : decode cX5_answer 1 = .ok (.lload_n 1, 1) := by decide +kernel
theorem dX5_answer_2 : decode cX5_answer 2 = .ok (.invokestatic 187, 3) := by decide +kernel
theorem dX5_answer_5 : decode cX5_answer 5 = .ok (.ifCond .eq 17, 3) := by decide +kernel
theorem dX5_answer_8 : decode cX5_answer 8 = .ok (.iload_n 3, 1) := by decide +kernel
theorem dX5_answer_9 : decode cX5_answer 9 = .ok (.iconst 0, 1) := by decide +kernel
theorem dX5_answer_10 : decode cX5_answer 10 = .ok (.bipush 99, 2) := by decide +kernel
theorem dX5_answer_12 : decode cX5_answer 12 = .ok (.invokestatic 84, 3) := by decide +kernel
theorem dX5_answer_15 : decode cX5_answer 15 = .ok (.ifCond .eq 7, 3) := by decide +kernel
theorem dX5_answer_18 : decode cX5_answer 18 = .ok (.iconst 0, 1) := by decide +kernel
theorem dX5_answer_19 : decode cX5_answer 19 = .ok (.goto 4, 3) := by decide +kernel
theorem dX5_answer_22 : decode cX5_answer 22 = .ok (.iconst 1, 1) := by decide +kernel
theorem dX5_answer_23 : decode cX5_answer 23 = .ok (.putfield 22, 3) := by decide +kernel
theorem dX5_answer_26 : decode cX5_answer 26 = .ok (.aload_n 0, 1) := by decide +kernel
theorem dX5_answer_27 : decode cX5_answer 27 = .ok (.getfield 22, 3) := by decide +kernel
theorem dX5_answer_30 : decode cX5_answer 30 = .ok (.ifCond .le 7, 3) := by decide +kernel
theorem dX5_answer_33 : decode cX5_answer 33 = .ok (.lconst 0, 1) := by decide +kernel
theorem dX5_answer_34 : decode cX5_answer 34 = .ok (.goto 9, 3) := by decide +kernel
theorem dX5_answer_37 : decode cX5_answer 37 = .ok (.aload_n 0, 1) := by decide +kernel
theorem dX5_answer_38 : decode cX5_answer 38 = .ok (.lload_n 1, 1) := by decide +kernel
theorem dX5_answer_39 : decode cX5_answer 39 = .ok (.iload_n 3, 1) := by decide +kernel
theorem dX5_answer_40 : decode cX5_answer 40 = .ok (.invokevirtual 191, 3) := by decide +kernel
theorem dX5_answer_43 : decode cX5_answer 43 = .ok (.lreturn, 1) := by decide +kernel
set_option maxRecDepth 20000 in
theorem ggX5_nearestTo_X5_onSet : GoodIn wsX5_nearestTo wsX5_onSet := goodIn_r _ [7, 8, 9, 10, 11, 6, 12, 13, 14, 15, 16, 56, 57, 58, 59, 60, 61, 62, 63, 64, 65, 66, 67, 68] (by decide +kernel) (by decide +kernel)
set_option maxRecDepth 20000 in
theorem gX5_nearestTo_X5_onSet : GoodIn wsX5_nearestTo (wsV RX5 77 RX5 yX5_onSet wsX5_onSet) := goodIn_app (goodIn_of _ (by decide +kernel)) ggX5_nearestTo_X5_onSet
set_option maxRecDepth 20000 in
theorem ggX5_nearestTo_X5_join : GoodIn wsX5_nearestTo wsX5_join := goodIn_r _ [20, 2, 21, 8, 22, 23, 24, 6, 25, 26, 27, 28, 29, 30, 31, 32, 33, 13, 14, 15, 16, 34, 35, 36, 37, 38, 39, 40, 41, 42, 43, 44, 45, 46, 47, 48, 49, 50, 51, 56, 57, 58, 59, 60, 61, 62, 63, 64, 65, 66, 67, 68] (by decide +kernel) (by decide +kernel)
set_option maxRecDepth 20000 in
theorem gX5_nearestTo_X5_join : GoodIn wsX5_nearestTo (wsV RX5 74 RX5 yX5_join wsX5_join) := goodIn_app (goodIn_of _ (by decide +kernel)) ggX5_nearestTo_X5_join
set_option maxRecDepth 20000 in
theorem ggX5_nearestTo_X5_answerFrom : GoodIn wsX5_nearestTo wsX5_answerFrom := goodIn_r _ [55, 2, 21, 56, 57, 58, 59, 60, 61, 62, 63, 64, 65, 66, 67, 68] (by decide +kernel) (by decide +kernel)
set_option maxRecDepth 20000 in
theorem gX5_nearestTo_X5_answerFrom : GoodIn wsX5_nearestTo (wsV RX5 183 RX5 yX5_answerFrom wsX5_answerFrom) := goodIn_app (goodIn_of _ (by decide +kernel)) ggX5_nearestTo_X5_answerFrom
theorem dX5_nearestTo_0 : decode cX5_nearestTo 0 = .ok (.aload_n 0, 1) := by decide +kernel
theorem dX5_nearestTo_1 : decode cX5_nearestTo 1 = .ok (.aload_n 0, 1) := by decide +kernel
theorem dX5_nearestTo_2 : decode cX5_nearestTo 2 = .ok (.invokevirtual 77, 3) := by decide +kernel
theorem dX5_nearestTo_5 : decode cX5_nearestTo 5 = .ok (.invokevirtual 74, 3) := by decide +kernel
theorem dX5_nearestTo_8 : decode cX5_nearestTo 8 = .ok (.ifCond .ne 7, 3) := by decide +kernel
theorem dX5_nearestTo_11 : decode cX5_nearestTo 11 = .ok (.ldc2_w 153, 3) := by decide +kernel
theorem dX5_nearestTo_14 : decode cX5_nearestTo 14 = .ok (.lreturn, 1) := by decide +kernel
theorem dX5_nearestTo_15 : decode cX5_nearestTo 15 = .ok (.aload_n 0, 1) := by decide +kernel
theorem dX5_nearestTo_16 : decode cX5_nearestTo 16 = .ok (.lload_n 1, 1) := by decide +kernel
theorem dX5_nearestTo_17 : decode cX5_nearestTo 17 = .ok (.invokevirtual 183, 3) := by decide +kernel
theorem dX5_nearestTo_20 : decode cX5_nearestTo 20 = .ok (.lstore_n 3, 1) := by decide +kernel
theorem dX5_nearestTo_21 : decode cX5_nearestTo 21 = .ok (.lload_n 3, 1) := by decide +kernel
theorem dX5_nearestTo_22 : decode cX5_nearestTo 22 = .ok (.aload_n 0, 1) := by decide +kernel
theorem dX5_nearestTo_23 : decode cX5_nearestTo 23 = .ok (.getfield 56, 3) := by decide +kernel
theorem dX5_nearestTo_26 : decode cX5_nearestTo 26 = .ok (.lsub, 1) := by decide +kernel
theorem dX5_nearestTo_27 : decode cX5_nearestTo 27 = .ok (.lstore 5, 2) := by decide +kernel
theorem dX5_nearestTo_29 : decode cX5_nearestTo 29 = .ok (.lload 5, 2) := by decide +kernel
theorem dX5_nearestTo_31 : decode cX5_nearestTo 31 = .ok (.lconst 0, 1) := by decide +kernel
theorem dX5_nearestTo_32 : decode cX5_nearestTo 32 = .ok (.lcmp, 1) := by decide +kernel
theorem dX5_nearestTo_33 : decode cX5_nearestTo 33 = .ok (.ifCond .lt 19, 3) := by decide +kernel
theorem dX5_nearestTo_36 : decode cX5_nearestTo 36 = .ok (.lload_n 1, 1) := by decide +kernel
theorem dX5_nearestTo_37 : decode cX5_nearestTo 37 = .ok (.lload 5, 2) := by decide +kernel
theorem dX5_nearestTo_39 : decode cX5_nearestTo 39 = .ok (.lsub, 1) := by decide +kernel
theorem dX5_nearestTo_40 : decode cX5_nearestTo 40 = .ok (.lload_n 3, 1) := by decide +kernel
theorem dX5_nearestTo_41 : decode cX5_nearestTo 41 = .ok (.lload_n 1, 1) := by decide +kernel
theorem dX5_nearestTo_42 : decode cX5_nearestTo 42 = .ok (.lsub, 1) := by decide +kernel
theorem dX5_nearestTo_43 : decode cX5_nearestTo 43 = .ok (.lcmp, 1) := by decide +kernel
theorem dX5_nearestTo_44 : decode cX5_nearestTo 44 = .ok (.ifCond .gt 8, 3) := by decide +kernel
theorem dX5_nearestTo_47 : decode cX5_nearestTo 47 = .ok (.lload 5, 2) := by decide +kernel
theorem dX5_nearestTo_49 : decode cX5_nearestTo 49 = .ok (.goto 4, 3) := by decide +kernel
theorem dX5_nearestTo_52 : decode cX5_nearestTo 52 = .ok (.lload_n 3, 1) := by decide +kernel
theorem dX5_nearestTo_53 : decode cX5_nearestTo 53 = .ok (.lreturn, 1) := by decide +kernel
set_option maxRecDepth 20000 in
theorem ggX5_nearest_X5_isNumber : GoodIn wsX5_nearest wsX5_isNumber := goodIn_r _ [5, 6] (by decide +kernel) (by decide +kernel)
set_option maxRecDepth 20000 in
theorem gX5_nearest_X5_isNumber : GoodIn wsX5_nearest (va_wsS RX5 187 yX5_isNumber wsX5_isNumber) := goodIn_app (goodIn_of _ (by decide +kernel)) ggX5_nearest_X5_isNumber
set_option maxRecDepth 20000 in
theorem ggX5_nearest_X5_nearestTo : GoodIn wsX5_nearest wsX5_nearestTo := goodIn_r _ [10, 11, 12, 13, 14, 15, 4, 16, 17, 18, 19, 20, 21, 22, 23, 24, 25, 26, 27, 28, 29, 30, 31, 32, 33, 34, 35, 36, 37, 38, 39, 40, 41, 42, 43, 44, 45, 46, 47, 48, 49, 50, 51, 52, 53, 54, 55, 56, 57, 58, 59, 60, 61, 62, 63, 64, 65, 66, 67, 68, 69, 70, 71, 72, 73, 74, 75, 76, 77] (by decide +kernel) (by decide +kernel)
set_option maxRecDepth 20000 in
theorem gX5_nearest_X5_nearestTo : GoodIn wsX5_nearest (wsV RX5 195 RX5 yX5_nearestTo wsX5_nearestTo) := goodIn_app (goodIn_of _ (by decide +kernel)) ggX5_nearest_X5_nearestTo
theorem dX5_nearest_0 : decode cX5_nearest 0 = .ok (.aload_n 0, 1) := by decide +kernel
theorem dX5_nearest_1 : decode cX5_nearest 1 = .ok (.lload_n 1, 1) := by decide +kernel
theorem dX5_nearest_2 : decode cX5_nearest 2 = .ok (.invokestatic 187, 3) := by decide +kernel
theorem dX5_nearest_5 : decode cX5_nearest 5 = .ok (.ifCond .eq 7, 3) := by decide +kernel
theorem dX5_nearest_8 : decode cX5_nearest 8 = .ok (.iconst 0, 1) := by decide +kernel
theorem dX5_nearest_9 : decode cX5_nearest 9 = .ok (.goto 4, 3) := by decide +kernel
theorem dX5_nearest_12 : decode cX5_nearest 12 = .ok (.iconst 1, 1) := by decide +kernel
theorem dX5_nearest_13 : decode cX5_nearest 13 = .ok (.putfield 22, 3) := by decide +kernel
theorem dX5_nearest_16 : decode cX5_nearest 16 = .ok (.aload_n 0, 1) := by decide +kernel
theorem dX5_nearest_17 : decode cX5_nearest 17 = .ok (.getfield 22, 3) := by decide +kernel
theorem dX5_nearest_20 : decode cX5_nearest 20 = .ok (.ifCond .le 7, 3) := by decide +kernel
theorem dX5_nearest_23 : decode cX5_nearest 23 = .ok (.lconst 0, 1) := by decide +kernel
theorem dX5_nearest_24 : decode cX5_nearest 24 = .ok (.goto 8, 3) := by decide +kernel
theorem dX5_nearest_27 : decode cX5_nearest 27 = .ok (.aload_n 0, 1) := by decide +kernel
theorem dX5_nearest_28 : decode cX5_nearest 28 = .ok (.lload_n 1, 1) := by decide +kernel
theorem dX5_nearest_29 : decode cX5_nearest 29 = .ok (.invokevirtual 195, 3) := by decide +kernel
theorem dX5_nearest_32 : decode cX5_nearest 32 = .ok (.lreturn, 1) := by decide +kernel
set_option maxRecDepth 20000 in
theorem ggX5_manyBetween_X5_onSet : GoodIn wsX5_manyBetween wsX5_onSet := goodIn_r _ [6, 7, 8, 9, 10, 5, 11, 12, 13, 14, 15, 55, 56, 57, 58, 59, 60, 61, 62, 63, 64, 65, 66, 67] (by decide +kernel) (by decide +kernel)
set_option maxRecDepth 20000 in
theorem gX5_manyBetween_X5_onSet : GoodIn wsX5_manyBetween (wsV RX5 77 RX5 yX5_onSet wsX5_onSet) := goodIn_app (goodIn_of _ (by decide +kernel)) ggX5_manyBetween_X5_onSet
set_option maxRecDepth 20000 in
theorem ggX5_manyBetween_X5_join : GoodIn wsX5_manyBetween wsX5_join := goodIn_r _ [19, 1, 20, 7, 21, 22, 23, 5, 24, 25, 26, 27, 28, 29, 30, 31, 32, 12, 13, 14, 15, 33, 34, 35, 36, 37, 38, 39, 40, 41, 42, 43, 44, 45, 46, 47, 48, 49, 50, 55, 56, 57, 58, 59, 60, 61, 62, 63, 64, 65, 66, 67] (by decide +kernel) (by decide +kernel)
set_option maxRecDepth 20000 in
theorem gX5_manyBetween_X5_join : GoodIn wsX5_manyBetween (wsV RX5 74 RX5 yX5_join wsX5_join) := goodIn_app (goodIn_of _ (by decide +kernel)) ggX5_manyBetween_X5_join
set_option maxRecDepth 20000 in
theorem ggX5_manyBetween_X5_answerFrom : GoodIn wsX5_manyBetween wsX5_answerFrom := goodIn_r _ [54, 1, 20, 55, 56, 57, 58, 59, 60, 61, 62, 63, 64, 65, 66, 67] (by decide +kernel) (by decide +kernel)
set_option maxRecDepth 20000 in
theorem gX5_manyBetween_X5_answerFrom : GoodIn wsX5_manyBetween (wsV RX5 183 RX5 yX5_answerFrom wsX5_answerFrom) := goodIn_app (goodIn_of _ (by decide +kernel)) ggX5_manyBetween_X5_answerFrom
theorem dX5_manyBetween_0 : decode cX5_manyBetween 0 = .ok (.lload_n 3, 1) := by decide +kernel
theorem dX5_manyBetween_1 : decode cX5_manyBetween 1 = .ok (.lload_n 1, 1) := by decide +kernel
theorem dX5_manyBetween_2 : decode cX5_manyBetween 2 = .ok (.lcmp, 1) := by decide +kernel
theorem dX5_manyBetween_3 : decode cX5_manyBetween 3 = .ok (.ifCond .lt 14, 3) := by decide +kernel
theorem dX5_manyBetween_6 : decode cX5_manyBetween 6 = .ok (.aload_n 0, 1) := by decide +kernel
theorem dX5_manyBetween_7 : decode cX5_manyBetween 7 = .ok (.aload_n 0, 1) := by decide +kernel
theorem dX5_manyBetween_8 : decode cX5_manyBetween 8 = .ok (.invokevirtual 77, 3) := by decide +kernel
theorem dX5_manyBetween_11 : decode cX5_manyBetween 11 = .ok (.invokevirtual 74, 3) := by decide +kernel
theorem dX5_manyBetween_14 : decode cX5_manyBetween 14 = .ok (.ifCond .ne 5, 3) := by decide +kernel
theorem dX5_manyBetween_17 : decode cX5_manyBetween 17 = .ok (.lconst 0, 1) := by decide +kernel
theorem dX5_manyBetween_18 : decode cX5_manyBetween 18 = .ok (.lreturn, 1) := by decide +kernel
theorem dX5_manyBetween_19 : decode cX5_manyBetween 19 = .ok (.aload_n 0, 1) := by decide +kernel
theorem dX5_manyBetween_20 : decode cX5_manyBetween 20 = .ok (.lload_n 1, 1) := by decide +kernel
theorem dX5_manyBetween_21 : decode cX5_manyBetween 21 = .ok (.invokevirtual 183, 3) := by decide +kernel
theorem dX5_manyBetween_24 : decode cX5_manyBetween 24 = .ok (.lstore 5, 2) := by decide +kernel
theorem dX5_manyBetween_26 : decode cX5_manyBetween 26 = .ok (.lload 5, 2) := by decide +kernel
theorem dX5_manyBetween_28 : decode cX5_manyBetween 28 = .ok (.lload_n 3, 1) := by decide +kernel
theorem dX5_manyBetween_29 : decode cX5_manyBetween 29 = .ok (.lcmp, 1) := by decide +kernel
theorem dX5_manyBetween_30 : decode cX5_manyBetween 30 = .ok (.ifCond .le 7, 3) := by decide +kernel
theorem dX5_manyBetween_33 : decode cX5_manyBetween 33 = .ok (.lconst 0, 1) := by decide +kernel
theorem dX5_manyBetween_34 : decode cX5_manyBetween 34 = .ok (.goto 14, 3) := by decide +kernel
theorem dX5_manyBetween_37 : decode cX5_manyBetween 37 = .ok (.lload_n 3, 1) := by decide +kernel
theorem dX5_manyBetween_38 : decode cX5_manyBetween 38 = .ok (.lload 5, 2) := by decide +kernel
theorem dX5_manyBetween_40 : decode cX5_manyBetween 40 = .ok (.lsub, 1) := by decide +kernel
theorem dX5_manyBetween_41 : decode cX5_manyBetween 41 = .ok (.aload_n 0, 1) := by decide +kernel
theorem dX5_manyBetween_42 : decode cX5_manyBetween 42 = .ok (.getfield 56, 3) := by decide +kernel
theorem dX5_manyBetween_45 : decode cX5_manyBetween 45 = .ok (.ldiv, 1) := by decide +kernel
theorem dX5_manyBetween_46 : decode cX5_manyBetween 46 = .ok (.lconst 1, 1) := by decide +kernel
theorem dX5_manyBetween_47 : decode cX5_manyBetween 47 = .ok (.ladd, 1) := by decide +kernel
theorem dX5_manyBetween_48 : decode cX5_manyBetween 48 = .ok (.lreturn, 1) := by decide +kernel
set_option maxRecDepth 20000 in
theorem ggX5_between_X5_isNumber : GoodIn wsX5_between wsX5_isNumber := goodIn_r _ [5, 6] (by decide +kernel) (by decide +kernel)
set_option maxRecDepth 20000 in
theorem gX5_between_X5_isNumber : GoodIn wsX5_between (va_wsS RX5 187 yX5_isNumber wsX5_isNumber) := goodIn_app (goodIn_of _ (by decide +kernel)) ggX5_between_X5_isNumber
set_option maxRecDepth 20000 in
theorem ggX5_between_X5_manyBetween : GoodIn wsX5_between wsX5_manyBetween := goodIn_r _ [10, 11, 12, 13, 14, 4, 15, 16, 17, 18, 19, 20, 21, 22, 23, 24, 25, 26, 27, 28, 29, 30, 31, 32, 33, 34, 35, 36, 37, 38, 39, 40, 41, 42, 43, 44, 45, 46, 47, 48, 49, 50, 51, 52, 53, 54, 55, 56, 57, 58, 59, 60, 61, 62, 63, 64, 65, 66, 67, 68, 69, 70, 71, 72, 73, 74, 75, 76] (by decide +kernel) (by decide +kernel)
set_option maxRecDepth 20000 in
theorem gX5_between_X5_manyBetween : GoodIn wsX5_between (wsV RX5 198 RX5 yX5_manyBetween wsX5_manyBetween) := goodIn_app (goodIn_of _ (by decide +kernel)) ggX5_between_X5_manyBetween
theorem dX5_between_0 : decode cX5_between 0 = .ok (.aload_n 0, 1) := by decide +kernel
theorem dX5_between_1 : decode cX5_between 1 = .ok (.lload_n 1, 1) := by decide +kernel
theorem dX5_between_2 : decode cX5_between 2 = .ok (.invokestatic 187, 3) := by decide +kernel
theorem dX5_between_5 : decode cX5_between 5 = .ok (.ifCond .eq 14, 3) := by decide +kernel
theorem dX5_between_8 : decode cX5_between 8 = .ok (.lload_n 3, 1) := by decide +kernel
theorem dX5_between_9 : decode cX5_between 9 = .ok (.invokestatic 187, 3) := by decide +kernel
theorem dX5_between_12 : decode cX5_between 12 = .ok (.ifCond .eq 7, 3) := by decide +kernel
theorem dX5_between_15 : decode cX5_between 15 = .ok (.iconst 0, 1) := by decide +kernel
theorem dX5_between_16 : decode cX5_between 16 = .ok (.goto 4, 3) := by decide +kernel
theorem dX5_between_19 : decode cX5_between 19 = .ok (.iconst 1, 1) := by decide +kernel
theorem dX5_between_20 : decode cX5_between 20 = .ok (.putfield 22, 3) := by decide +kernel
theorem dX5_between_23 : decode cX5_between 23 = .ok (.aload_n 0, 1) := by decide +kernel
theorem dX5_between_24 : decode cX5_between 24 = .ok (.getfield 22, 3) := by decide +kernel
theorem dX5_between_27 : decode cX5_between 27 = .ok (.ifCond .le 7, 3) := by decide +kernel
theorem dX5_between_30 : decode cX5_between 30 = .ok (.lconst 0, 1) := by decide +kernel
theorem dX5_between_31 : decode cX5_between 31 = .ok (.goto 9, 3) := by decide +kernel
theorem dX5_between_34 : decode cX5_between 34 = .ok (.aload_n 0, 1) := by decide +kernel
theorem dX5_between_35 : decode cX5_between 35 = .ok (.lload_n 1, 1) := by decide +kernel
theorem dX5_between_36 : decode cX5_between 36 = .ok (.lload_n 3, 1) := by decide +kernel
theorem dX5_between_37 : decode cX5_between 37 = .ok (.invokevirtual 198, 3) := by decide +kernel
theorem dX5_between_40 : decode cX5_between 40 = .ok (.lreturn, 1) := by decide +kernel
set_option maxRecDepth 20000 in
theorem ggX5_missed_X5_of : GoodIn wsX5_missed wsX5_of := goodIn_r _ [6, 1, 11, 12, 13, 14, 15, 16, 17, 18, 19, 20, 21, 22, 23] (by decide +kernel) (by decide +kernel)
set_option maxRecDepth 20000 in
theorem gX5_missed_X5_of : GoodIn wsX5_missed (wsV RX5 26 RX5 yX5_of wsX5_of) := goodIn_app (goodIn_of _ (by decide +kernel)) ggX5_missed_X5_of
set_option maxRecDepth 20000 in
theorem ggX5_missed_X5_isOn : GoodIn wsX5_missed wsX5_isOn := goodIn_r _ [10, 2, 3, 4, 5, 6, 1, 11, 12, 13, 14, 15, 16, 17, 18, 19, 20, 21, 22, 23] (by decide +kernel) (by decide +kernel)
set_option maxRecDepth 20000 in
theorem gX5_missed_X5_isOn : GoodIn wsX5_missed (wsV RX5 49 RX5 yX5_isOn wsX5_isOn) := goodIn_app (goodIn_of _ (by decide +kernel)) ggX5_missed_X5_isOn
theorem dX5_missed_0 : decode cX5_missed 0 = .ok (.iconst 0, 1) := by decide +kernel
theorem dX5_missed_1 : decode cX5_missed 1 = .ok (.istore_n 3, 1) := by decide +kernel
theorem dX5_missed_2 : decode cX5_missed 2 = .ok (.iconst 0, 1) := by decide +kernel
theorem dX5_missed_3 : decode cX5_missed 3 = .ok (.istore 4, 2) := by decide +kernel
theorem dX5_missed_5 : decode cX5_missed 5 = .ok (.iload 4, 2) := by decide +kernel
theorem dX5_missed_7 : decode cX5_missed 7 = .ok (.aload_n 0, 1) := by decide +kernel
theorem dX5_missed_8 : decode cX5_missed 8 = .ok (.getfield 7, 3) := by decide +kernel
theorem dX5_missed_11 : decode cX5_missed 11 = .ok (.iconst 0, 1) := by decide +kernel
theorem dX5_missed_12 : decode cX5_missed 12 = .ok (.iaload, 1) := by decide +kernel
theorem dX5_missed_13 : decode cX5_missed 13 = .ok (.if_icmp .ge 71, 3) := by decide +kernel
theorem dX5_missed_16 : decode cX5_missed 16 = .ok (.aload_n 0, 1) := by decide +kernel
theorem dX5_missed_17 : decode cX5_missed 17 = .ok (.iload 4, 2) := by decide +kernel
theorem dX5_missed_19 : decode cX5_missed 19 = .ok (.iconst 0, 1) := by decide +kernel
theorem dX5_missed_20 : decode cX5_missed 20 = .ok (.invokevirtual 26, 3) := by decide +kernel
theorem dX5_missed_23 : decode cX5_missed 23 = .ok (.i2l, 1) := by decide +kernel
theorem dX5_missed_24 : decode cX5_missed 24 = .ok (.lload_n 1, 1) := by decide +kernel
theorem dX5_missed_25 : decode cX5_missed 25 = .ok (.lmul, 1) := by decide +kernel
theorem dX5_missed_26 : decode cX5_missed 26 = .ok (.aload_n 0, 1) := by decide +kernel
theorem dX5_missed_27 : decode cX5_missed 27 = .ok (.iload 4, 2) := by decide +kernel
theorem dX5_missed_29 : decode cX5_missed 29 = .ok (.iconst 1, 1) := by decide +kernel
theorem dX5_missed_30 : decode cX5_missed 30 = .ok (.invokevirtual 26, 3) := by decide +kernel
theorem dX5_missed_33 : decode cX5_missed 33 = .ok (.i2l, 1) := by decide +kernel
theorem dX5_missed_34 : decode cX5_missed 34 = .ok (.lsub, 1) := by decide +kernel
theorem dX5_missed_35 : decode cX5_missed 35 = .ok (.aload_n 0, 1) := by decide +kernel
theorem dX5_missed_36 : decode cX5_missed 36 = .ok (.iload 4, 2) := by decide +kernel
theorem dX5_missed_38 : decode cX5_missed 38 = .ok (.iconst 2, 1) := by decide +kernel
theorem dX5_missed_39 : decode cX5_missed 39 = .ok (.invokevirtual 26, 3) := by decide +kernel
theorem dX5_missed_42 : decode cX5_missed 42 = .ok (.i2l, 1) := by decide +kernel
theorem dX5_missed_43 : decode cX5_missed 43 = .ok (.lrem, 1) := by decide +kernel
theorem dX5_missed_44 : decode cX5_missed 44 = .ok (.lconst 0, 1) := by decide +kernel
theorem dX5_missed_45 : decode cX5_missed 45 = .ok (.lcmp, 1) := by decide +kernel
theorem dX5_missed_46 : decode cX5_missed 46 = .ok (.ifCond .ne 7, 3) := by decide +kernel
theorem dX5_missed_49 : decode cX5_missed 49 = .ok (.iconst 1, 1) := by decide +kernel
theorem dX5_missed_50 : decode cX5_missed 50 = .ok (.goto 4, 3) := by decide +kernel
theorem dX5_missed_53 : decode cX5_missed 53 = .ok (.iconst 0, 1) := by decide +kernel
theorem dX5_missed_54 : decode cX5_missed 54 = .ok (.istore 5, 2) := by decide +kernel
theorem dX5_missed_56 : decode cX5_missed 56 = .ok (.iload_n 3, 1) := by decide +kernel
theorem dX5_missed_57 : decode cX5_missed 57 = .ok (.aload_n 0, 1) := by decide +kernel
theorem dX5_missed_58 : decode cX5_missed 58 = .ok (.iload 4, 2) := by decide +kernel
theorem dX5_missed_60 : decode cX5_missed 60 = .ok (.invokevirtual 49, 3) := by decide +kernel
theorem dX5_missed_63 : decode cX5_missed 63 = .ok (.ifCond .eq 12, 3) := by decide +kernel
theorem dX5_missed_66 : decode cX5_missed 66 = .ok (.iload 5, 2) := by decide +kernel
theorem dX5_missed_68 : decode cX5_missed 68 = .ok (.ifCond .ne 7, 3) := by decide +kernel
theorem dX5_missed_71 : decode cX5_missed 71 = .ok (.iconst 1, 1) := by decide +kernel
theorem dX5_missed_72 : decode cX5_missed 72 = .ok (.goto 4, 3) := by decide +kernel
theorem dX5_missed_75 : decode cX5_missed 75 = .ok (.iconst 0, 1) := by decide +kernel
theorem dX5_missed_76 : decode cX5_missed 76 = .ok (.iadd, 1) := by decide +kernel
theorem dX5_missed_77 : decode cX5_missed 77 = .ok (.istore_n 3, 1) := by decide +kernel
theorem dX5_missed_78 : decode cX5_missed 78 = .ok (.iinc 4 1, 3) := by decide +kernel
theorem dX5_missed_81 : decode cX5_missed 81 = .ok (.goto (-76), 3) := by decide +kernel
theorem dX5_missed_84 : decode cX5_missed 84 = .ok (.iload_n 3, 1) := by decide +kernel
theorem dX5_missed_85 : decode cX5_missed 85 = .ok (.ireturn, 1) := by decide +kernel
set_option maxRecDepth 20000 in
theorem ggX5_misses_X5_isNumber : GoodIn wsX5_misses wsX5_isNumber := goodIn_r _ [5, 6] (by decide +kernel) (by decide +kernel)
set_option maxRecDepth 20000 in
theorem gX5_misses_X5_isNumber : GoodIn wsX5_misses (va_wsS RX5 187 yX5_isNumber wsX5_isNumber) := goodIn_app (goodIn_of _ (by decide +kernel)) ggX5_misses_X5_isNumber
set_option maxRecDepth 20000 in
theorem ggX5_misses_X5_missed : GoodIn wsX5_misses wsX5_missed := goodIn_r _ [10, 11, 12, 13, 14, 4, 15, 16, 17, 18, 19, 20, 21, 22, 23, 24, 25, 26, 27, 28, 29, 30, 31, 32] (by decide +kernel) (by decide +kernel)
set_option maxRecDepth 20000 in
theorem gX5_misses_X5_missed : GoodIn wsX5_misses (wsV RX5 202 RX5 yX5_missed wsX5_missed) := goodIn_app (goodIn_of _ (by decide +kernel)) ggX5_misses_X5_missed
theorem dX5_misses_0 : decode cX5_misses 0 = .ok (.aload_n 0, 1) := by decide +kernel
theorem dX5_misses_1 : decode cX5_misses 1 = .ok (.lload_n 1, 1) := by decide +kernel
theorem dX5_misses_2 : decode cX5_misses 2 = .ok (.invokestatic 187, 3) := by decide +kernel
theorem dX5_misses_5 : decode cX5_misses 5 = .ok (.ifCond .eq 7, 3) := by decide +kernel
theorem dX5_misses_8 : decode cX5_misses 8 = .ok (.iconst 0, 1) := by decide +kernel
theorem dX5_misses_9 : decode cX5_misses 9 = .ok (.goto 4, 3) := by decide +kernel
theorem dX5_misses_12 : decode cX5_misses 12 = .ok (.iconst 1, 1) := by decide +kernel
theorem dX5_misses_13 : decode cX5_misses 13 = .ok (.putfield 22, 3) := by decide +kernel
theorem dX5_misses_16 : decode cX5_misses 16 = .ok (.aload_n 0, 1) := by decide +kernel
theorem dX5_misses_17 : decode cX5_misses 17 = .ok (.getfield 22, 3) := by decide +kernel
theorem dX5_misses_20 : decode cX5_misses 20 = .ok (.ifCond .le 7, 3) := by decide +kernel
theorem dX5_misses_23 : decode cX5_misses 23 = .ok (.iconst 0, 1) := by decide +kernel
theorem dX5_misses_24 : decode cX5_misses 24 = .ok (.goto 8, 3) := by decide +kernel
theorem dX5_misses_27 : decode cX5_misses 27 = .ok (.aload_n 0, 1) := by decide +kernel
theorem dX5_misses_28 : decode cX5_misses 28 = .ok (.lload_n 1, 1) := by decide +kernel
theorem dX5_misses_29 : decode cX5_misses 29 = .ok (.invokevirtual 202, 3) := by decide +kernel
theorem dX5_misses_32 : decode cX5_misses 32 = .ok (.ireturn, 1) := by decide +kernel
set_option maxRecDepth 20000 in
theorem ggX5_wouldAdd_X5_canAdd : GoodIn wsX5_wouldAdd wsX5_canAdd := goodIn_r _ [7, 2, 8, 9, 10, 6, 11, 12, 13, 14, 15, 16, 17, 18, 19, 20, 21, 22, 23, 24, 25, 26, 27, 28, 29, 30, 31, 32, 33, 34, 35, 36, 37, 38, 39, 40, 41, 42, 43, 44, 45, 46, 81, 82, 83, 84, 85, 86, 87, 88, 89, 90, 91, 92, 93] (by decide +kernel) (by decide +kernel)
set_option maxRecDepth 20000 in
theorem gX5_wouldAdd_X5_canAdd : GoodIn wsX5_wouldAdd (wsV RX5 101 RX5 yX5_canAdd wsX5_canAdd) := goodIn_app (goodIn_of _ (by decide +kernel)) ggX5_wouldAdd_X5_canAdd
set_option maxRecDepth 20000 in
theorem ggX5_wouldAdd_X5_onSet : GoodIn wsX5_wouldAdd wsX5_onSet := goodIn_r _ [15, 2, 16, 17, 18, 6, 19, 20, 21, 22, 23, 81, 82, 83, 84, 85, 86, 87, 88, 89, 90, 91, 92, 93] (by decide +kernel) (by decide +kernel)
set_option maxRecDepth 20000 in
theorem gX5_wouldAdd_X5_onSet : GoodIn wsX5_wouldAdd (wsV RX5 77 RX5 yX5_onSet wsX5_onSet) := goodIn_app (goodIn_of _ (by decide +kernel)) ggX5_wouldAdd_X5_onSet
set_option maxRecDepth 20000 in
theorem ggX5_wouldAdd_X5_joinedBy : GoodIn wsX5_wouldAdd wsX5_joinedBy := goodIn_r _ [50, 1, 51, 52, 53, 54, 55, 6, 56, 2, 57, 58, 59, 60, 61, 62, 63, 64, 29, 30, 31, 32, 20, 21, 22, 23, 33, 34, 35, 36, 37, 38, 39, 65, 66, 67, 68, 69, 70, 71, 72, 40, 41, 42, 81, 82, 83, 84, 85, 86, 87, 88, 89, 90, 91, 92, 93] (by decide +kernel) (by decide +kernel)
set_option maxRecDepth 20000 in
theorem gX5_wouldAdd_X5_joinedBy : GoodIn wsX5_wouldAdd (wsV RX5 155 RX5 yX5_joinedBy wsX5_joinedBy) := goodIn_app (goodIn_of _ (by decide +kernel)) ggX5_wouldAdd_X5_joinedBy
set_option maxRecDepth 20000 in
theorem ggX5_wouldAdd_X5_against : GoodIn wsX5_wouldAdd wsX5_against := goodIn_r _ [76, 2, 16, 17, 18, 6, 19, 20, 21, 22, 23, 61, 62, 63, 64, 29, 30, 31, 32, 33, 34, 35, 36, 37, 38, 39, 65, 66, 67, 68, 81, 82, 83, 84, 85, 86, 87, 88, 89, 90, 91, 92, 93] (by decide +kernel) (by decide +kernel)
set_option maxRecDepth 20000 in
theorem gX5_wouldAdd_X5_against : GoodIn wsX5_wouldAdd (wsV RX5 147 RX5 yX5_against wsX5_against) := goodIn_app (goodIn_of _ (by decide +kernel)) ggX5_wouldAdd_X5_against
set_option maxRecDepth 20000 in
theorem ggX5_wouldAdd_X5_tells : GoodIn wsX5_wouldAdd wsX5_tells := goodIn_r _ [80, 51, 52, 53, 54, 55, 6, 56, 2, 57, 58, 59, 60, 61, 62, 63, 64, 29, 30, 31, 32, 20, 21, 22, 23, 33, 34, 35, 36, 37, 38, 39, 65, 66, 67, 68, 69, 70, 71, 72, 40, 41, 42, 81, 82, 83, 84, 85, 86, 87, 88, 89, 90, 91, 92, 93] (by decide +kernel) (by decide +kernel)
set_option maxRecDepth 20000 in
theorem gX5_wouldAdd_X5_tells : GoodIn wsX5_wouldAdd (wsV RX5 81 RX5 yX5_tells wsX5_tells) := goodIn_app (goodIn_of _ (by decide +kernel)) ggX5_wouldAdd_X5_tells
set_option maxRecDepth 20000 in
theorem ggX5_wouldAdd_X5_clearNext : GoodIn wsX5_wouldAdd wsX5_clearNext := goodIn_r _ [46, 2, 81, 82, 83, 84, 85, 86, 87, 88, 89, 90, 91, 92, 93] (by decide +kernel) (by decide +kernel)
set_option maxRecDepth 20000 in
theorem gX5_wouldAdd_X5_clearNext : GoodIn wsX5_wouldAdd (wsV RX5 95 RX5 yX5_clearNext wsX5_clearNext) := goodIn_app (goodIn_of _ (by decide +kernel)) ggX5_wouldAdd_X5_clearNext
theorem dX5_wouldAdd_0 : decode cX5_wouldAdd 0 = .ok (.aload_n 0, 1) := by decide +kernel
theorem dX5_wouldAdd_1 : decode cX5_wouldAdd 1 = .ok (.iload_n 1, 1) := by decide +kernel
theorem dX5_wouldAdd_2 : decode cX5_wouldAdd 2 = .ok (.iload_n 2, 1) := by decide +kernel
theorem dX5_wouldAdd_3 : decode cX5_wouldAdd 3 = .ok (.iload_n 3, 1) := by decide +kernel
theorem dX5_wouldAdd_4 : decode cX5_wouldAdd 4 = .ok (.invokevirtual 101, 3) := by decide +kernel
theorem dX5_wouldAdd_7 : decode cX5_wouldAdd 7 = .ok (.ifCond .ne 7, 3) := by decide +kernel
theorem dX5_wouldAdd_10 : decode cX5_wouldAdd 10 = .ok (.ldc2_w 153, 3) := by decide +kernel
theorem dX5_wouldAdd_13 : decode cX5_wouldAdd 13 = .ok (.lreturn, 1) := by decide +kernel
theorem dX5_wouldAdd_14 : decode cX5_wouldAdd 14 = .ok (.aload_n 0, 1) := by decide +kernel
theorem dX5_wouldAdd_15 : decode cX5_wouldAdd 15 = .ok (.getfield 7, 3) := by decide +kernel
theorem dX5_wouldAdd_18 : decode cX5_wouldAdd 18 = .ok (.iconst 0, 1) := by decide +kernel
theorem dX5_wouldAdd_19 : decode cX5_wouldAdd 19 = .ok (.iaload, 1) := by decide +kernel
theorem dX5_wouldAdd_20 : decode cX5_wouldAdd 20 = .ok (.istore 5, 2) := by decide +kernel
theorem dX5_wouldAdd_22 : decode cX5_wouldAdd 22 = .ok (.aload_n 0, 1) := by decide +kernel
theorem dX5_wouldAdd_23 : decode cX5_wouldAdd 23 = .ok (.invokevirtual 77, 3) := by decide +kernel
theorem dX5_wouldAdd_26 : decode cX5_wouldAdd 26 = .ok (.istore 6, 2) := by decide +kernel
theorem dX5_wouldAdd_28 : decode cX5_wouldAdd 28 = .ok (.iload 4, 2) := by decide +kernel
theorem dX5_wouldAdd_30 : decode cX5_wouldAdd 30 = .ok (.iconst 2, 1) := by decide +kernel
theorem dX5_wouldAdd_31 : decode cX5_wouldAdd 31 = .ok (.if_icmp .ge 19, 3) := by decide +kernel
theorem dX5_wouldAdd_34 : decode cX5_wouldAdd 34 = .ok (.aload_n 0, 1) := by decide +kernel
theorem dX5_wouldAdd_35 : decode cX5_wouldAdd 35 = .ok (.iload 6, 2) := by decide +kernel
theorem dX5_wouldAdd_37 : decode cX5_wouldAdd 37 = .ok (.iconst 1, 1) := by decide +kernel
theorem dX5_wouldAdd_38 : decode cX5_wouldAdd 38 = .ok (.iload 5, 2) := by decide +kernel
theorem dX5_wouldAdd_40 : decode cX5_wouldAdd 40 = .ok (.ishl, 1) := by decide +kernel
theorem dX5_wouldAdd_41 : decode cX5_wouldAdd 41 = .ok (.ior, 1) := by decide +kernel
theorem dX5_wouldAdd_42 : decode cX5_wouldAdd 42 = .ok (.iload 4, 2) := by decide +kernel
theorem dX5_wouldAdd_44 : decode cX5_wouldAdd 44 = .ok (.invokevirtual 155, 3) := by decide +kernel
theorem dX5_wouldAdd_47 : decode cX5_wouldAdd 47 = .ok (.goto 35, 3) := by decide +kernel
theorem dX5_wouldAdd_50 : decode cX5_wouldAdd 50 = .ok (.iload 4, 2) := by decide +kernel
theorem dX5_wouldAdd_52 : decode cX5_wouldAdd 52 = .ok (.iconst 2, 1) := by decide +kernel
theorem dX5_wouldAdd_53 : decode cX5_wouldAdd 53 = .ok (.if_icmp .ne 13, 3) := by decide +kernel
theorem dX5_wouldAdd_56 : decode cX5_wouldAdd 56 = .ok (.aload_n 0, 1) := by decide +kernel
theorem dX5_wouldAdd_57 : decode cX5_wouldAdd 57 = .ok (.iload 5, 2) := by decide +kernel
theorem dX5_wouldAdd_59 : decode cX5_wouldAdd 59 = .ok (.invokevirtual 147, 3) := by decide +kernel
theorem dX5_wouldAdd_62 : decode cX5_wouldAdd 62 = .ok (.i2l, 1) := by decide +kernel
theorem dX5_wouldAdd_63 : decode cX5_wouldAdd 63 = .ok (.goto 19, 3) := by decide +kernel
theorem dX5_wouldAdd_66 : decode cX5_wouldAdd 66 = .ok (.aload_n 0, 1) := by decide +kernel
theorem dX5_wouldAdd_67 : decode cX5_wouldAdd 67 = .ok (.iload 6, 2) := by decide +kernel
theorem dX5_wouldAdd_69 : decode cX5_wouldAdd 69 = .ok (.iload 5, 2) := by decide +kernel
theorem dX5_wouldAdd_71 : decode cX5_wouldAdd 71 = .ok (.invokevirtual 81, 3) := by decide +kernel
theorem dX5_wouldAdd_74 : decode cX5_wouldAdd 74 = .ok (.ifCond .eq 7, 3) := by decide +kernel
theorem dX5_wouldAdd_77 : decode cX5_wouldAdd 77 = .ok (.lconst 1, 1) := by decide +kernel
theorem dX5_wouldAdd_78 : decode cX5_wouldAdd 78 = .ok (.goto 4, 3) := by decide +kernel
theorem dX5_wouldAdd_81 : decode cX5_wouldAdd 81 = .ok (.lconst 0, 1) := by decide +kernel
theorem dX5_wouldAdd_82 : decode cX5_wouldAdd 82 = .ok (.lstore 7, 2) := by decide +kernel
theorem dX5_wouldAdd_84 : decode cX5_wouldAdd 84 = .ok (.aload_n 0, 1) := by decide +kernel
theorem dX5_wouldAdd_85 : decode cX5_wouldAdd 85 = .ok (.invokevirtual 95, 3) := by decide +kernel
theorem dX5_wouldAdd_88 : decode cX5_wouldAdd 88 = .ok (.lload 7, 2) := by decide +kernel
theorem dX5_wouldAdd_90 : decode cX5_wouldAdd 90 = .ok (.lreturn, 1) := by decide +kernel
set_option maxRecDepth 20000 in
theorem ggX5_ifAdded_X5_areGood : GoodIn wsX5_ifAdded wsX5_areGood := goodIn_r _ [5, 6, 7, 4, 8] (by decide +kernel) (by decide +kernel)
set_option maxRecDepth 20000 in
theorem gX5_ifAdded_X5_areGood : GoodIn wsX5_ifAdded (va_wsS RX5 98 yX5_areGood wsX5_areGood) := goodIn_app (goodIn_of _ (by decide +kernel)) ggX5_ifAdded_X5_areGood
set_option maxRecDepth 20000 in
theorem ggX5_ifAdded_X5_in : GoodIn wsX5_ifAdded wsX5_in := goodIn_r _ [8] (by decide +kernel) (by decide +kernel)
set_option maxRecDepth 20000 in
theorem gX5_ifAdded_X5_in : GoodIn wsX5_ifAdded (va_wsS RX5 84 yX5_in wsX5_in) := goodIn_app (goodIn_of _ (by decide +kernel)) ggX5_ifAdded_X5_in
set_option maxRecDepth 20000 in
theorem ggX5_ifAdded_X5_wouldAdd : GoodIn wsX5_ifAdded wsX5_wouldAdd := goodIn_r _ [12, 13, 14, 15, 16, 17, 4, 18, 19, 20, 21, 22, 23, 24, 25, 26, 27, 28, 29, 30, 31, 32, 33, 34, 35, 36, 37, 38, 39, 40, 41, 42, 43, 44, 45, 46, 47, 48, 49, 50, 51, 52, 53, 54, 55, 56, 57, 58, 59, 60, 61, 62, 63, 64, 65, 66, 67, 68, 69, 70, 71, 72, 73, 74, 75, 76, 77, 78, 79, 80, 81, 82, 83, 84, 85, 86, 87, 88, 89, 90, 91, 92, 93, 94, 95, 96, 97, 98, 99, 100, 101, 102, 103, 104] (by decide +kernel) (by decide +kernel)
set_option maxRecDepth 20000 in
theorem gX5_ifAdded_X5_wouldAdd : GoodIn wsX5_ifAdded (wsV RX5 206 RX5 yX5_wouldAdd wsX5_wouldAdd) := goodIn_app (goodIn_of _ (by decide +kernel)) ggX5_ifAdded_X5_wouldAdd
theorem dX5_ifAdded_0 : decode cX5_ifAdded 0 = .ok (.aload_n 0, 1) := by decide +kernel
theorem dX5_ifAdded_1 : decode cX5_ifAdded 1 = .ok (.iload_n 1, 1) := by decide +kernel
theorem dX5_ifAdded_2 : decode cX5_ifAdded 2 = .ok (.iload_n 2, 1) := by decide +kernel
theorem dX5_ifAdded_3 : decode cX5_ifAdded 3 = .ok (.iload_n 3, 1) := by decide +kernel
theorem dX5_ifAdded_4 : decode cX5_ifAdded 4 = .ok (.invokestatic 98, 3) := by decide +kernel
theorem dX5_ifAdded_7 : decode cX5_ifAdded 7 = .ok (.ifCond .eq 17, 3) := by decide +kernel
theorem dX5_ifAdded_10 : decode cX5_ifAdded 10 = .ok (.iload 4, 2) := by decide +kernel
theorem dX5_ifAdded_12 : decode cX5_ifAdded 12 = .ok (.iconst 0, 1) := by decide +kernel
theorem dX5_ifAdded_13 : decode cX5_ifAdded 13 = .ok (.iconst 3, 1) := by decide +kernel
theorem dX5_ifAdded_14 : decode cX5_ifAdded 14 = .ok (.invokestatic 84, 3) := by decide +kernel
theorem dX5_ifAdded_17 : decode cX5_ifAdded 17 = .ok (.ifCond .eq 7, 3) := by decide +kernel
theorem dX5_ifAdded_20 : decode cX5_ifAdded 20 = .ok (.iconst 0, 1) := by decide +kernel
theorem dX5_ifAdded_21 : decode cX5_ifAdded 21 = .ok (.goto 4, 3) := by decide +kernel
theorem dX5_ifAdded_24 : decode cX5_ifAdded 24 = .ok (.iconst 1, 1) := by decide +kernel
theorem dX5_ifAdded_25 : decode cX5_ifAdded 25 = .ok (.putfield 22, 3) := by decide +kernel
theorem dX5_ifAdded_28 : decode cX5_ifAdded 28 = .ok (.aload_n 0, 1) := by decide +kernel
theorem dX5_ifAdded_29 : decode cX5_ifAdded 29 = .ok (.getfield 22, 3) := by decide +kernel
theorem dX5_ifAdded_32 : decode cX5_ifAdded 32 = .ok (.ifCond .le 7, 3) := by decide +kernel
theorem dX5_ifAdded_35 : decode cX5_ifAdded 35 = .ok (.lconst 0, 1) := by decide +kernel
theorem dX5_ifAdded_36 : decode cX5_ifAdded 36 = .ok (.goto 12, 3) := by decide +kernel
theorem dX5_ifAdded_39 : decode cX5_ifAdded 39 = .ok (.aload_n 0, 1) := by decide +kernel
theorem dX5_ifAdded_40 : decode cX5_ifAdded 40 = .ok (.iload_n 1, 1) := by decide +kernel
theorem dX5_ifAdded_41 : decode cX5_ifAdded 41 = .ok (.iload_n 2, 1) := by decide +kernel
theorem dX5_ifAdded_42 : decode cX5_ifAdded 42 = .ok (.iload_n 3, 1) := by decide +kernel
theorem dX5_ifAdded_43 : decode cX5_ifAdded 43 = .ok (.iload 4, 2) := by decide +kernel
theorem dX5_ifAdded_45 : decode cX5_ifAdded 45 = .ok (.invokevirtual 206, 3) := by decide +kernel
theorem dX5_ifAdded_48 : decode cX5_ifAdded 48 = .ok (.lreturn, 1) := by decide +kernel
set_option maxRecDepth 20000 in
theorem ggX5_without_X5_isThere : GoodIn wsX5_without wsX5_isThere := goodIn_r _ [6, 7, 64, 65, 66, 67, 68, 69, 70, 71, 72, 73, 74, 75, 76] (by decide +kernel) (by decide +kernel)
set_option maxRecDepth 20000 in
theorem gX5_without_X5_isThere : GoodIn wsX5_without (wsV RX5 107 RX5 yX5_isThere wsX5_isThere) := goodIn_app (goodIn_of _ (by decide +kernel)) ggX5_without_X5_isThere
set_option maxRecDepth 20000 in
theorem ggX5_without_X5_in : GoodIn wsX5_without wsX5_in := goodIn_r _ [10] (by decide +kernel) (by decide +kernel)
set_option maxRecDepth 20000 in
theorem gX5_without_X5_in : GoodIn wsX5_without (va_wsS RX5 84 yX5_in wsX5_in) := goodIn_app (goodIn_of _ (by decide +kernel)) ggX5_without_X5_in
set_option maxRecDepth 20000 in
theorem ggX5_without_X5_onSet : GoodIn wsX5_without wsX5_onSet := goodIn_r _ [14, 7, 15, 16, 17, 5, 18, 19, 20, 21, 22, 64, 65, 66, 67, 68, 69, 70, 71, 72, 73, 74, 75, 76] (by decide +kernel) (by decide +kernel)
set_option maxRecDepth 20000 in
theorem gX5_without_X5_onSet : GoodIn wsX5_without (wsV RX5 77 RX5 yX5_onSet wsX5_onSet) := goodIn_app (goodIn_of _ (by decide +kernel)) ggX5_without_X5_onSet
set_option maxRecDepth 20000 in
theorem ggX5_without_X5_joinedBy : GoodIn wsX5_without wsX5_joinedBy := goodIn_r _ [26, 27, 28, 29, 30, 31, 32, 5, 33, 7, 34, 35, 36, 37, 38, 39, 40, 41, 42, 43, 44, 45, 19, 20, 21, 22, 46, 47, 48, 49, 50, 51, 52, 53, 54, 55, 56, 57, 58, 59, 60, 61, 62, 63, 64, 65, 66, 67, 68, 69, 70, 71, 72, 73, 74, 75, 76] (by decide +kernel) (by decide +kernel)
set_option maxRecDepth 20000 in
theorem gX5_without_X5_joinedBy : GoodIn wsX5_without (wsV RX5 155 RX5 yX5_joinedBy wsX5_joinedBy) := goodIn_app (goodIn_of _ (by decide +kernel)) ggX5_without_X5_joinedBy
theorem dX5_without_0 : decode cX5_without 0 = .ok (.aload_n 0, 1) := by decide +kernel
theorem dX5_without_1 : decode cX5_without 1 = .ok (.aload_n 0, 1) := by decide +kernel
theorem dX5_without_2 : decode cX5_without 2 = .ok (.iload_n 1, 1) := by decide +kernel
theorem dX5_without_3 : decode cX5_without 3 = .ok (.invokevirtual 107, 3) := by decide +kernel
theorem dX5_without_6 : decode cX5_without 6 = .ok (.ifCond .ne 7, 3) := by decide +kernel
theorem dX5_without_9 : decode cX5_without 9 = .ok (.iconst 1, 1) := by decide +kernel
theorem dX5_without_10 : decode cX5_without 10 = .ok (.goto 17, 3) := by decide +kernel
theorem dX5_without_13 : decode cX5_without 13 = .ok (.iload_n 2, 1) := by decide +kernel
theorem dX5_without_14 : decode cX5_without 14 = .ok (.iconst 0, 1) := by decide +kernel
theorem dX5_without_15 : decode cX5_without 15 = .ok (.iconst 1, 1) := by decide +kernel
theorem dX5_without_16 : decode cX5_without 16 = .ok (.invokestatic 84, 3) := by decide +kernel
theorem dX5_without_19 : decode cX5_without 19 = .ok (.ifCond .eq 7, 3) := by decide +kernel
theorem dX5_without_22 : decode cX5_without 22 = .ok (.iconst 0, 1) := by decide +kernel
theorem dX5_without_23 : decode cX5_without 23 = .ok (.goto 4, 3) := by decide +kernel
theorem dX5_without_26 : decode cX5_without 26 = .ok (.iconst 2, 1) := by decide +kernel
theorem dX5_without_27 : decode cX5_without 27 = .ok (.putfield 22, 3) := by decide +kernel
theorem dX5_without_30 : decode cX5_without 30 = .ok (.aload_n 0, 1) := by decide +kernel
theorem dX5_without_31 : decode cX5_without 31 = .ok (.getfield 22, 3) := by decide +kernel
theorem dX5_without_34 : decode cX5_without 34 = .ok (.ifCond .le 7, 3) := by decide +kernel
theorem dX5_without_37 : decode cX5_without 37 = .ok (.lconst 0, 1) := by decide +kernel
theorem dX5_without_38 : decode cX5_without 38 = .ok (.goto 18, 3) := by decide +kernel
theorem dX5_without_41 : decode cX5_without 41 = .ok (.aload_n 0, 1) := by decide +kernel
theorem dX5_without_42 : decode cX5_without 42 = .ok (.aload_n 0, 1) := by decide +kernel
theorem dX5_without_43 : decode cX5_without 43 = .ok (.invokevirtual 77, 3) := by decide +kernel
theorem dX5_without_46 : decode cX5_without 46 = .ok (.iconst 1, 1) := by decide +kernel
theorem dX5_without_47 : decode cX5_without 47 = .ok (.iload_n 1, 1) := by decide +kernel
theorem dX5_without_48 : decode cX5_without 48 = .ok (.ishl, 1) := by decide +kernel
theorem dX5_without_49 : decode cX5_without 49 = .ok (.iconst (-1), 1) := by decide +kernel
theorem dX5_without_50 : decode cX5_without 50 = .ok (.ixor, 1) := by decide +kernel
theorem dX5_without_51 : decode cX5_without 51 = .ok (.iand, 1) := by decide +kernel
theorem dX5_without_52 : decode cX5_without 52 = .ok (.iload_n 2, 1) := by decide +kernel
theorem dX5_without_53 : decode cX5_without 53 = .ok (.invokevirtual 155, 3) := by decide +kernel
theorem dX5_without_56 : decode cX5_without 56 = .ok (.lreturn, 1) := by decide +kernel
set_option maxRecDepth 20000 in
theorem ggX5_most_X5_mostTogether : GoodIn wsX5_most wsX5_mostTogether := goodIn_r _ [6, 7, 8, 9, 5, 10, 11, 12, 13, 14, 15, 16, 17, 18, 19, 20, 21, 22, 23, 24, 25, 26, 27, 28, 29, 30, 31, 32, 33, 34, 35, 36, 37, 38, 39, 40, 41, 42, 43, 44, 45, 46, 47, 48, 49, 50] (by decide +kernel) (by decide +kernel)
set_option maxRecDepth 20000 in
theorem gX5_most_X5_mostTogether : GoodIn wsX5_most (wsV RX5 116 RX5 yX5_mostTogether wsX5_mostTogether) := goodIn_app (goodIn_of _ (by decide +kernel)) ggX5_most_X5_mostTogether
theorem dX5_most_0 : decode cX5_most 0 = .ok (.aload_n 0, 1) := by decide +kernel
theorem dX5_most_1 : decode cX5_most 1 = .ok (.iconst 0, 1) := by decide +kernel
theorem dX5_most_2 : decode cX5_most 2 = .ok (.putfield 22, 3) := by decide +kernel
theorem dX5_most_5 : decode cX5_most 5 = .ok (.aload_n 0, 1) := by decide +kernel
theorem dX5_most_6 : decode cX5_most 6 = .ok (.invokevirtual 116, 3) := by decide +kernel
theorem dX5_most_9 : decode cX5_most 9 = .ok (.ireturn, 1) := by decide +kernel
set_option maxRecDepth 20000 in
theorem ggX5_blamed_X5_isOn : GoodIn wsX5_blamed wsX5_isOn := goodIn_r _ [6, 7, 8, 9, 5, 10, 1, 41, 42, 43, 44, 45, 46, 47, 48, 49, 50, 51, 52, 53] (by decide +kernel) (by decide +kernel)
set_option maxRecDepth 20000 in
theorem gX5_blamed_X5_isOn : GoodIn wsX5_blamed (wsV RX5 49 RX5 yX5_isOn wsX5_isOn) := goodIn_app (goodIn_of _ (by decide +kernel)) ggX5_blamed_X5_isOn
set_option maxRecDepth 20000 in
theorem ggX5_blamed_X5_isVoid : GoodIn wsX5_blamed wsX5_isVoid := goodIn_r _ [14, 7, 8, 9, 5, 10, 1, 15, 16, 17, 41, 42, 43, 44, 45, 46, 47, 48, 49, 50, 51, 52, 53] (by decide +kernel) (by decide +kernel)
set_option maxRecDepth 20000 in
theorem gX5_blamed_X5_isVoid : GoodIn wsX5_blamed (wsV RX5 38 RX5 yX5_isVoid wsX5_isVoid) := goodIn_app (goodIn_of _ (by decide +kernel)) ggX5_blamed_X5_isVoid
set_option maxRecDepth 20000 in
theorem ggX5_blamed_X5_onSet : GoodIn wsX5_blamed wsX5_onSet := goodIn_r _ [21, 1, 2, 3, 4, 5, 6, 7, 8, 9, 10, 41, 42, 43, 44, 45, 46, 47, 48, 49, 50, 51, 52, 53] (by decide +kernel) (by decide +kernel)
set_option maxRecDepth 20000 in
theorem gX5_blamed_X5_onSet : GoodIn wsX5_blamed (wsV RX5 77 RX5 yX5_onSet wsX5_onSet) := goodIn_app (goodIn_of _ (by decide +kernel)) ggX5_blamed_X5_onSet
set_option maxRecDepth 20000 in
theorem ggX5_blamed_X5_bits : GoodIn wsX5_blamed wsX5_bits := goodIn_r _ [24] (by decide +kernel) (by decide +kernel)
set_option maxRecDepth 20000 in
theorem gX5_blamed_X5_bits : GoodIn wsX5_blamed (va_wsS RX5 113 yX5_bits wsX5_bits) := goodIn_app (goodIn_of _ (by decide +kernel)) ggX5_blamed_X5_bits
set_option maxRecDepth 20000 in
theorem ggX5_blamed_X5_against : GoodIn wsX5_blamed wsX5_against := goodIn_r _ [28, 1, 2, 3, 4, 5, 6, 7, 8, 9, 10, 29, 30, 31, 32, 11, 12, 13, 14, 15, 16, 17, 33, 34, 35, 36, 37, 38, 39, 40, 41, 42, 43, 44, 45, 46, 47, 48, 49, 50, 51, 52, 53] (by decide +kernel) (by decide +kernel)
set_option maxRecDepth 20000 in
theorem gX5_blamed_X5_against : GoodIn wsX5_blamed (wsV RX5 147 RX5 yX5_against wsX5_against) := goodIn_app (goodIn_of _ (by decide +kernel)) ggX5_blamed_X5_against
theorem dX5_blamed_0 : decode cX5_blamed 0 = .ok (.iconst (-1), 1) := by decide +kernel
theorem dX5_blamed_1 : decode cX5_blamed 1 = .ok (.istore_n 1, 1) := by decide +kernel
theorem dX5_blamed_2 : decode cX5_blamed 2 = .ok (.iconst 0, 1) := by decide +kernel
theorem dX5_blamed_3 : decode cX5_blamed 3 = .ok (.istore_n 2, 1) := by decide +kernel
theorem dX5_blamed_4 : decode cX5_blamed 4 = .ok (.iconst 0, 1) := by decide +kernel
theorem dX5_blamed_5 : decode cX5_blamed 5 = .ok (.istore_n 3, 1) := by decide +kernel
theorem dX5_blamed_6 : decode cX5_blamed 6 = .ok (.iload_n 3, 1) := by decide +kernel
theorem dX5_blamed_7 : decode cX5_blamed 7 = .ok (.aload_n 0, 1) := by decide +kernel
theorem dX5_blamed_8 : decode cX5_blamed 8 = .ok (.getfield 7, 3) := by decide +kernel
theorem dX5_blamed_11 : decode cX5_blamed 11 = .ok (.iconst 0, 1) := by decide +kernel
theorem dX5_blamed_12 : decode cX5_blamed 12 = .ok (.iaload, 1) := by decide +kernel
theorem dX5_blamed_13 : decode cX5_blamed 13 = .ok (.if_icmp .ge 71, 3) := by decide +kernel
theorem dX5_blamed_16 : decode cX5_blamed 16 = .ok (.aload_n 0, 1) := by decide +kernel
theorem dX5_blamed_17 : decode cX5_blamed 17 = .ok (.iload_n 3, 1) := by decide +kernel
theorem dX5_blamed_18 : decode cX5_blamed 18 = .ok (.invokevirtual 49, 3) := by decide +kernel
theorem dX5_blamed_21 : decode cX5_blamed 21 = .ok (.ifCond .ne 7, 3) := by decide +kernel
theorem dX5_blamed_24 : decode cX5_blamed 24 = .ok (.iconst 0, 1) := by decide +kernel
theorem dX5_blamed_25 : decode cX5_blamed 25 = .ok (.goto 26, 3) := by decide +kernel
theorem dX5_blamed_28 : decode cX5_blamed 28 = .ok (.aload_n 0, 1) := by decide +kernel
theorem dX5_blamed_29 : decode cX5_blamed 29 = .ok (.iload_n 3, 1) := by decide +kernel
theorem dX5_blamed_30 : decode cX5_blamed 30 = .ok (.invokevirtual 38, 3) := by decide +kernel
theorem dX5_blamed_33 : decode cX5_blamed 33 = .ok (.ifCond .eq 13, 3) := by decide +kernel
theorem dX5_blamed_36 : decode cX5_blamed 36 = .ok (.aload_n 0, 1) := by decide +kernel
theorem dX5_blamed_37 : decode cX5_blamed 37 = .ok (.invokevirtual 77, 3) := by decide +kernel
theorem dX5_blamed_40 : decode cX5_blamed 40 = .ok (.invokestatic 113, 3) := by decide +kernel
theorem dX5_blamed_43 : decode cX5_blamed 43 = .ok (.goto 8, 3) := by decide +kernel
theorem dX5_blamed_46 : decode cX5_blamed 46 = .ok (.aload_n 0, 1) := by decide +kernel
theorem dX5_blamed_47 : decode cX5_blamed 47 = .ok (.iload_n 3, 1) := by decide +kernel
theorem dX5_blamed_48 : decode cX5_blamed 48 = .ok (.invokevirtual 147, 3) := by decide +kernel
theorem dX5_blamed_51 : decode cX5_blamed 51 = .ok (.istore 4, 2) := by decide +kernel
theorem dX5_blamed_53 : decode cX5_blamed 53 = .ok (.iload 4, 2) := by decide +kernel
theorem dX5_blamed_55 : decode cX5_blamed 55 = .ok (.iload_n 2, 1) := by decide +kernel
theorem dX5_blamed_56 : decode cX5_blamed 56 = .ok (.if_icmp .le 7, 3) := by decide +kernel
theorem dX5_blamed_59 : decode cX5_blamed 59 = .ok (.iload_n 3, 1) := by decide +kernel
theorem dX5_blamed_60 : decode cX5_blamed 60 = .ok (.goto 4, 3) := by decide +kernel
theorem dX5_blamed_63 : decode cX5_blamed 63 = .ok (.iload_n 1, 1) := by decide +kernel
theorem dX5_blamed_64 : decode cX5_blamed 64 = .ok (.istore_n 1, 1) := by decide +kernel
theorem dX5_blamed_65 : decode cX5_blamed 65 = .ok (.iload 4, 2) := by decide +kernel
theorem dX5_blamed_67 : decode cX5_blamed 67 = .ok (.iload_n 2, 1) := by decide +kernel
theorem dX5_blamed_68 : decode cX5_blamed 68 = .ok (.if_icmp .le 8, 3) := by decide +kernel
theorem dX5_blamed_71 : decode cX5_blamed 71 = .ok (.iload 4, 2) := by decide +kernel
theorem dX5_blamed_73 : decode cX5_blamed 73 = .ok (.goto 4, 3) := by decide +kernel
theorem dX5_blamed_76 : decode cX5_blamed 76 = .ok (.iload_n 2, 1) := by decide +kernel
theorem dX5_blamed_77 : decode cX5_blamed 77 = .ok (.istore_n 2, 1) := by decide +kernel
theorem dX5_blamed_78 : decode cX5_blamed 78 = .ok (.iinc 3 1, 3) := by decide +kernel
theorem dX5_blamed_81 : decode cX5_blamed 81 = .ok (.goto (-75), 3) := by decide +kernel
theorem dX5_blamed_84 : decode cX5_blamed 84 = .ok (.iload_n 1, 1) := by decide +kernel
theorem dX5_blamed_85 : decode cX5_blamed 85 = .ok (.ireturn, 1) := by decide +kernel
set_option maxRecDepth 20000 in
theorem ggX5_blame_X5_blamed : GoodIn wsX5_blame wsX5_blamed := goodIn_r _ [6, 7, 8, 9, 10, 5, 11, 12, 13, 14, 15, 16, 17, 18, 19, 20, 21, 22, 23, 24, 25, 26, 27, 28, 29, 30, 31, 32, 33, 34, 35, 36, 37, 38, 39, 40, 41, 42, 43, 44, 45, 46, 47, 48, 49, 50, 51, 52, 53, 54, 55, 56, 57, 58] (by decide +kernel) (by decide +kernel)
set_option maxRecDepth 20000 in
theorem gX5_blame_X5_blamed : GoodIn wsX5_blame (wsV RX5 210 RX5 yX5_blamed wsX5_blamed) := goodIn_app (goodIn_of _ (by decide +kernel)) ggX5_blame_X5_blamed
theorem dX5_blame_0 : decode cX5_blame 0 = .ok (.aload_n 0, 1) := by decide +kernel
theorem dX5_blame_1 : decode cX5_blame 1 = .ok (.iconst 0, 1) := by decide +kernel
theorem dX5_blame_2 : decode cX5_blame 2 = .ok (.putfield 22, 3) := by decide +kernel
theorem dX5_blame_5 : decode cX5_blame 5 = .ok (.aload_n 0, 1) := by decide +kernel
theorem dX5_blame_6 : decode cX5_blame 6 = .ok (.invokevirtual 210, 3) := by decide +kernel
theorem dX5_blame_9 : decode cX5_blame 9 = .ok (.ireturn, 1) := by decide +kernel
set_option maxRecDepth 20000 in
theorem ggX5_share_X5_onSet : GoodIn wsX5_share wsX5_onSet := goodIn_r _ [6, 7, 8, 9, 10, 5, 11, 12, 13, 14, 15, 51, 52, 53, 54, 55, 56, 57, 58, 59, 60, 61, 62, 63] (by decide +kernel) (by decide +kernel)
set_option maxRecDepth 20000 in
theorem gX5_share_X5_onSet : GoodIn wsX5_share (wsV RX5 77 RX5 yX5_onSet wsX5_onSet) := goodIn_app (goodIn_of _ (by decide +kernel)) ggX5_share_X5_onSet
set_option maxRecDepth 20000 in
theorem ggX5_share_X5_join : GoodIn wsX5_share wsX5_join := goodIn_r _ [19, 1, 20, 7, 21, 22, 23, 5, 24, 25, 26, 27, 28, 29, 30, 31, 32, 12, 13, 14, 15, 33, 34, 35, 36, 37, 38, 39, 40, 41, 42, 43, 44, 45, 46, 47, 48, 49, 50, 51, 52, 53, 54, 55, 56, 57, 58, 59, 60, 61, 62, 63] (by decide +kernel) (by decide +kernel)
set_option maxRecDepth 20000 in
theorem gX5_share_X5_join : GoodIn wsX5_share (wsV RX5 74 RX5 yX5_join wsX5_join) := goodIn_app (goodIn_of _ (by decide +kernel)) ggX5_share_X5_join
theorem dX5_share_0 : decode cX5_share 0 = .ok (.aload_n 0, 1) := by decide +kernel
theorem dX5_share_1 : decode cX5_share 1 = .ok (.aload_n 0, 1) := by decide +kernel
theorem dX5_share_2 : decode cX5_share 2 = .ok (.invokevirtual 77, 3) := by decide +kernel
theorem dX5_share_5 : decode cX5_share 5 = .ok (.invokevirtual 74, 3) := by decide +kernel
theorem dX5_share_8 : decode cX5_share 8 = .ok (.ifCond .eq 13, 3) := by decide +kernel
theorem dX5_share_11 : decode cX5_share 11 = .ok (.dconst 1, 1) := by decide +kernel
theorem dX5_share_12 : decode cX5_share 12 = .ok (.aload_n 0, 1) := by decide +kernel
theorem dX5_share_13 : decode cX5_share 13 = .ok (.getfield 56, 3) := by decide +kernel
theorem dX5_share_16 : decode cX5_share 16 = .ok (.l2d, 1) := by decide +kernel
theorem dX5_share_17 : decode cX5_share 17 = .ok (.ddiv, 1) := by decide +kernel
theorem dX5_share_18 : decode cX5_share 18 = .ok (.goto 4, 3) := by decide +kernel
theorem dX5_share_21 : decode cX5_share 21 = .ok (.dconst 0, 1) := by decide +kernel
theorem dX5_share_22 : decode cX5_share 22 = .ok (.dreturn, 1) := by decide +kernel
set_option maxRecDepth 20000 in
theorem ggX5_density_X5_share : GoodIn wsX5_density wsX5_share := goodIn_r _ [6, 7, 8, 9, 10, 5, 11, 12, 13, 14, 15, 16, 17, 18, 19, 20, 21, 22, 23, 24, 25, 26, 27, 28, 29, 30, 31, 32, 33, 34, 35, 36, 37, 38, 39, 40, 41, 42, 43, 44, 45, 46, 47, 48, 49, 50, 51, 52, 53, 54, 55, 56, 57, 58, 59, 60, 61, 62, 63, 64, 65, 66, 67, 68] (by decide +kernel) (by decide +kernel)
set_option maxRecDepth 20000 in
theorem gX5_density_X5_share : GoodIn wsX5_density (wsV RX5 213 RX5 yX5_share wsX5_share) := goodIn_app (goodIn_of _ (by decide +kernel)) ggX5_density_X5_share
theorem dX5_density_0 : decode cX5_density 0 = .ok (.aload_n 0, 1) := by decide +kernel
theorem dX5_density_1 : decode cX5_density 1 = .ok (.iconst 0, 1) := by decide +kernel
theorem dX5_density_2 : decode cX5_density 2 = .ok (.putfield 22, 3) := by decide +kernel
theorem dX5_density_5 : decode cX5_density 5 = .ok (.aload_n 0, 1) := by decide +kernel
theorem dX5_density_6 : decode cX5_density 6 = .ok (.invokevirtual 213, 3) := by decide +kernel
theorem dX5_density_9 : decode cX5_density 9 = .ok (.dreturn, 1) := by decide +kernel
theorem dX5_bitsOf_0 : decode cX5_bitsOf 0 = .ok (.dload_n 0, 1) := by decide +kernel
theorem dX5_bitsOf_1 : decode cX5_bitsOf 1 = .ok (.dconst 0, 1) := by decide +kernel
theorem dX5_bitsOf_2 : decode cX5_bitsOf 2 = .ok (.dcmp .l, 1) := by decide +kernel
theorem dX5_bitsOf_3 : decode cX5_bitsOf 3 = .ok (.ifCond .ne 5, 3) := by decide +kernel
theorem dX5_bitsOf_6 : decode cX5_bitsOf 6 = .ok (.lconst 0, 1) := by decide +kernel
theorem dX5_bitsOf_7 : decode cX5_bitsOf 7 = .ok (.lreturn, 1) := by decide +kernel
theorem dX5_bitsOf_8 : decode cX5_bitsOf 8 = .ok (.dload_n 0, 1) := by decide +kernel
theorem dX5_bitsOf_9 : decode cX5_bitsOf 9 = .ok (.dstore_n 2, 1) := by decide +kernel
theorem dX5_bitsOf_10 : decode cX5_bitsOf 10 = .ok (.ldc2_w 217, 3) := by decide +kernel
theorem dX5_bitsOf_13 : decode cX5_bitsOf 13 = .ok (.lstore 4, 2) := by decide +kernel
theorem dX5_bitsOf_15 : decode cX5_bitsOf 15 = .ok (.dload_n 2, 1) := by decide +kernel
theorem dX5_bitsOf_16 : decode cX5_bitsOf 16 = .ok (.ldc2_w 219, 3) := by decide +kernel
theorem dX5_bitsOf_19 : decode cX5_bitsOf 19 = .ok (.dcmp .l, 1) := by decide +kernel
theorem dX5_bitsOf_20 : decode cX5_bitsOf 20 = .ok (.ifCond .lt 18, 3) := by decide +kernel
theorem dX5_bitsOf_23 : decode cX5_bitsOf 23 = .ok (.dload_n 2, 1) := by decide +kernel
theorem dX5_bitsOf_24 : decode cX5_bitsOf 24 = .ok (.ldc2_w 219, 3) := by decide +kernel
theorem dX5_bitsOf_27 : decode cX5_bitsOf 27 = .ok (.ddiv, 1) := by decide +kernel
theorem dX5_bitsOf_28 : decode cX5_bitsOf 28 = .ok (.dstore_n 2, 1) := by decide +kernel
theorem dX5_bitsOf_29 : decode cX5_bitsOf 29 = .ok (.lload 4, 2) := by decide +kernel
theorem dX5_bitsOf_31 : decode cX5_bitsOf 31 = .ok (.lconst 1, 1) := by decide +kernel
theorem dX5_bitsOf_32 : decode cX5_bitsOf 32 = .ok (.ladd, 1) := by decide +kernel
theorem dX5_bitsOf_33 : decode cX5_bitsOf 33 = .ok (.lstore 4, 2) := by decide +kernel
theorem dX5_bitsOf_35 : decode cX5_bitsOf 35 = .ok (.goto (-20), 3) := by decide +kernel
theorem dX5_bitsOf_38 : decode cX5_bitsOf 38 = .ok (.dload_n 2, 1) := by decide +kernel
theorem dX5_bitsOf_39 : decode cX5_bitsOf 39 = .ok (.dconst 1, 1) := by decide +kernel
theorem dX5_bitsOf_40 : decode cX5_bitsOf 40 = .ok (.dcmp .g, 1) := by decide +kernel
theorem dX5_bitsOf_41 : decode cX5_bitsOf 41 = .ok (.ifCond .ge 18, 3) := by decide +kernel
theorem dX5_bitsOf_44 : decode cX5_bitsOf 44 = .ok (.dload_n 2, 1) := by decide +kernel
theorem dX5_bitsOf_45 : decode cX5_bitsOf 45 = .ok (.ldc2_w 219, 3) := by decide +kernel
theorem dX5_bitsOf_48 : decode cX5_bitsOf 48 = .ok (.dmul, 1) := by decide +kernel
theorem dX5_bitsOf_49 : decode cX5_bitsOf 49 = .ok (.dstore_n 2, 1) := by decide +kernel
theorem dX5_bitsOf_50 : decode cX5_bitsOf 50 = .ok (.lload 4, 2) := by decide +kernel
theorem dX5_bitsOf_52 : decode cX5_bitsOf 52 = .ok (.lconst 1, 1) := by decide +kernel
theorem dX5_bitsOf_53 : decode cX5_bitsOf 53 = .ok (.lsub, 1) := by decide +kernel
theorem dX5_bitsOf_54 : decode cX5_bitsOf 54 = .ok (.lstore 4, 2) := by decide +kernel
theorem dX5_bitsOf_56 : decode cX5_bitsOf 56 = .ok (.goto (-18), 3) := by decide +kernel
theorem dX5_bitsOf_59 : decode cX5_bitsOf 59 = .ok (.lload 4, 2) := by decide +kernel
theorem dX5_bitsOf_61 : decode cX5_bitsOf 61 = .ok (.bipush 52, 2) := by decide +kernel
theorem dX5_bitsOf_63 : decode cX5_bitsOf 63 = .ok (.lshl, 1) := by decide +kernel
theorem dX5_bitsOf_64 : decode cX5_bitsOf 64 = .ok (.dload_n 2, 1) := by decide +kernel
theorem dX5_bitsOf_65 : decode cX5_bitsOf 65 = .ok (.ldc2_w 221, 3) := by decide +kernel
theorem dX5_bitsOf_68 : decode cX5_bitsOf 68 = .ok (.dmul, 1) := by decide +kernel
theorem dX5_bitsOf_69 : decode cX5_bitsOf 69 = .ok (.d2l, 1) := by decide +kernel
theorem dX5_bitsOf_70 : decode cX5_bitsOf 70 = .ok (.ladd, 1) := by decide +kernel
theorem dX5_bitsOf_71 : decode cX5_bitsOf 71 = .ok (.ldc2_w 223, 3) := by decide +kernel
theorem dX5_bitsOf_74 : decode cX5_bitsOf 74 = .ok (.lsub, 1) := by decide +kernel
theorem dX5_bitsOf_75 : decode cX5_bitsOf 75 = .ok (.lreturn, 1) := by decide +kernel
theorem dX5_mix_0 : decode cX5_mix 0 = .ok (.aload_n 0, 1) := by decide +kernel
theorem dX5_mix_1 : decode cX5_mix 1 = .ok (.ldc2_w 225, 3) := by decide +kernel
theorem dX5_mix_4 : decode cX5_mix 4 = .ok (.aload_n 0, 1) := by decide +kernel
theorem dX5_mix_5 : decode cX5_mix 5 = .ok (.getfield 227, 3) := by decide +kernel
theorem dX5_mix_8 : decode cX5_mix 8 = .ok (.lmul, 1) := by decide +kernel
theorem dX5_mix_9 : decode cX5_mix 9 = .ok (.lload_n 1, 1) := by decide +kernel
theorem dX5_mix_10 : decode cX5_mix 10 = .ok (.ladd, 1) := by decide +kernel
theorem dX5_mix_11 : decode cX5_mix 11 = .ok (.putfield 227, 3) := by decide +kernel
theorem dX5_mix_14 : decode cX5_mix 14 = .ok (.return_, 1) := by decide +kernel
set_option maxRecDepth 20000 in
theorem ggX5_mixCondition_X5_told : GoodIn wsX5_mixCondition wsX5_told := goodIn_r _ [6, 7, 8, 9, 5, 10, 11, 12, 13, 14, 1, 15, 16, 17, 18, 19, 20, 21, 22, 23, 24, 25, 26, 27, 28, 29, 30, 31, 32, 33, 34, 35, 36, 37, 38, 39, 40, 41, 42, 43, 44, 45, 46, 47, 48, 49, 50, 51, 52, 53, 54, 55, 56, 57, 58, 59, 60, 61, 62, 63, 64, 65, 66, 78, 79, 80, 81, 82, 83, 84, 85, 86, 87, 88, 89, 90] (by decide +kernel) (by decide +kernel)
set_option maxRecDepth 20000 in
theorem gX5_mixCondition_X5_told : GoodIn wsX5_mixCondition (wsV RX5 150 RX5 yX5_told wsX5_told) := goodIn_app (goodIn_of _ (by decide +kernel)) ggX5_mixCondition_X5_told
set_option maxRecDepth 20000 in
theorem ggX5_mixCondition_X5_mix : GoodIn wsX5_mixCondition wsX5_mix := goodIn_r _ [70, 71, 72, 78, 79, 80, 81, 82, 83, 84, 85, 86, 87, 88, 89, 90] (by decide +kernel) (by decide +kernel)
set_option maxRecDepth 20000 in
theorem gX5_mixCondition_X5_mix : GoodIn wsX5_mixCondition (wsV RX5 230 RX5 yX5_mix wsX5_mix) := goodIn_app (goodIn_of _ (by decide +kernel)) ggX5_mixCondition_X5_mix
set_option maxRecDepth 20000 in
theorem ggX5_mixCondition_X5_goTogether : GoodIn wsX5_mixCondition wsX5_goTogether := goodIn_r _ [37, 7, 8, 9, 5, 10, 11, 12, 13, 14, 1, 15, 16, 17, 18, 19, 20, 21, 22, 23, 24, 25, 78, 79, 80, 81, 82, 83, 84, 85, 86, 87, 88, 89, 90] (by decide +kernel) (by decide +kernel)
set_option maxRecDepth 20000 in
theorem gX5_mixCondition_X5_goTogether : GoodIn wsX5_mixCondition (wsV RX5 52 RX5 yX5_goTogether wsX5_goTogether) := goodIn_app (goodIn_of _ (by decide +kernel)) ggX5_mixCondition_X5_goTogether
set_option maxRecDepth 20000 in
theorem ggX5_mixCondition_X5_onSet : GoodIn wsX5_mixCondition wsX5_onSet := goodIn_r _ [45, 1, 30, 31, 32, 5, 33, 11, 12, 13, 14, 78, 79, 80, 81, 82, 83, 84, 85, 86, 87, 88, 89, 90] (by decide +kernel) (by decide +kernel)
set_option maxRecDepth 20000 in
theorem gX5_mixCondition_X5_onSet : GoodIn wsX5_mixCondition (wsV RX5 77 RX5 yX5_onSet wsX5_onSet) := goodIn_app (goodIn_of _ (by decide +kernel)) ggX5_mixCondition_X5_onSet
set_option maxRecDepth 20000 in
theorem ggX5_mixCondition_X5_joinedBy : GoodIn wsX5_mixCondition wsX5_joinedBy := goodIn_r _ [76, 77, 50, 51, 52, 53, 54, 5, 55, 1, 56, 57, 58, 59, 34, 35, 36, 37, 7, 8, 9, 10, 11, 12, 13, 14, 15, 16, 17, 18, 19, 20, 21, 22, 23, 24, 25, 60, 61, 62, 63, 64, 65, 66, 78, 79, 80, 81, 82, 83, 84, 85, 86, 87, 88, 89, 90] (by decide +kernel) (by decide +kernel)
set_option maxRecDepth 20000 in
theorem gX5_mixCondition_X5_joinedBy : GoodIn wsX5_mixCondition (wsV RX5 155 RX5 yX5_joinedBy wsX5_joinedBy) := goodIn_app (goodIn_of _ (by decide +kernel)) ggX5_mixCondition_X5_joinedBy
theorem dX5_mixCondition_0 : decode cX5_mixCondition 0 = .ok (.iconst 0, 1) := by decide +kernel
theorem dX5_mixCondition_1 : decode cX5_mixCondition 1 = .ok (.istore_n 2, 1) := by decide +kernel
theorem dX5_mixCondition_2 : decode cX5_mixCondition 2 = .ok (.iload_n 2, 1) := by decide +kernel
theorem dX5_mixCondition_3 : decode cX5_mixCondition 3 = .ok (.bipush 8, 2) := by decide +kernel
theorem dX5_mixCondition_5 : decode cX5_mixCondition 5 = .ok (.if_icmp .gt 20, 3) := by decide +kernel
theorem dX5_mixCondition_8 : decode cX5_mixCondition 8 = .ok (.aload_n 0, 1) := by decide +kernel
theorem dX5_mixCondition_9 : decode cX5_mixCondition 9 = .ok (.aload_n 0, 1) := by decide +kernel
theorem dX5_mixCondition_10 : decode cX5_mixCondition 10 = .ok (.iload_n 1, 1) := by decide +kernel
theorem dX5_mixCondition_11 : decode cX5_mixCondition 11 = .ok (.iload_n 2, 1) := by decide +kernel
theorem dX5_mixCondition_12 : decode cX5_mixCondition 12 = .ok (.invokevirtual 150, 3) := by decide +kernel
theorem dX5_mixCondition_15 : decode cX5_mixCondition 15 = .ok (.i2l, 1) := by decide +kernel
theorem dX5_mixCondition_16 : decode cX5_mixCondition 16 = .ok (.invokevirtual 230, 3) := by decide +kernel
theorem dX5_mixCondition_19 : decode cX5_mixCondition 19 = .ok (.iinc 2 1, 3) := by decide +kernel
theorem dX5_mixCondition_22 : decode cX5_mixCondition 22 = .ok (.goto (-20), 3) := by decide +kernel
theorem dX5_mixCondition_25 : decode cX5_mixCondition 25 = .ok (.iconst 0, 1) := by decide +kernel
theorem dX5_mixCondition_26 : decode cX5_mixCondition 26 = .ok (.istore_n 2, 1) := by decide +kernel
theorem dX5_mixCondition_27 : decode cX5_mixCondition 27 = .ok (.iload_n 2, 1) := by decide +kernel
theorem dX5_mixCondition_28 : decode cX5_mixCondition 28 = .ok (.aload_n 0, 1) := by decide +kernel
theorem dX5_mixCondition_29 : decode cX5_mixCondition 29 = .ok (.getfield 7, 3) := by decide +kernel
theorem dX5_mixCondition_32 : decode cX5_mixCondition 32 = .ok (.iconst 0, 1) := by decide +kernel
theorem dX5_mixCondition_33 : decode cX5_mixCondition 33 = .ok (.iaload, 1) := by decide +kernel
theorem dX5_mixCondition_34 : decode cX5_mixCondition 34 = .ok (.if_icmp .ge 27, 3) := by decide +kernel
theorem dX5_mixCondition_37 : decode cX5_mixCondition 37 = .ok (.aload_n 0, 1) := by decide +kernel
theorem dX5_mixCondition_38 : decode cX5_mixCondition 38 = .ok (.aload_n 0, 1) := by decide +kernel
theorem dX5_mixCondition_39 : decode cX5_mixCondition 39 = .ok (.iload_n 1, 1) := by decide +kernel
theorem dX5_mixCondition_40 : decode cX5_mixCondition 40 = .ok (.iload_n 2, 1) := by decide +kernel
theorem dX5_mixCondition_41 : decode cX5_mixCondition 41 = .ok (.invokevirtual 52, 3) := by decide +kernel
theorem dX5_mixCondition_44 : decode cX5_mixCondition 44 = .ok (.ifCond .eq 7, 3) := by decide +kernel
theorem dX5_mixCondition_47 : decode cX5_mixCondition 47 = .ok (.lconst 1, 1) := by decide +kernel
theorem dX5_mixCondition_48 : decode cX5_mixCondition 48 = .ok (.goto 4, 3) := by decide +kernel
theorem dX5_mixCondition_51 : decode cX5_mixCondition 51 = .ok (.lconst 0, 1) := by decide +kernel
theorem dX5_mixCondition_52 : decode cX5_mixCondition 52 = .ok (.invokevirtual 230, 3) := by decide +kernel
theorem dX5_mixCondition_55 : decode cX5_mixCondition 55 = .ok (.iinc 2 1, 3) := by decide +kernel
theorem dX5_mixCondition_58 : decode cX5_mixCondition 58 = .ok (.goto (-31), 3) := by decide +kernel
theorem dX5_mixCondition_61 : decode cX5_mixCondition 61 = .ok (.aload_n 0, 1) := by decide +kernel
theorem dX5_mixCondition_62 : decode cX5_mixCondition 62 = .ok (.aload_n 0, 1) := by decide +kernel
theorem dX5_mixCondition_63 : decode cX5_mixCondition 63 = .ok (.aload_n 0, 1) := by decide +kernel
theorem dX5_mixCondition_64 : decode cX5_mixCondition 64 = .ok (.invokevirtual 77, 3) := by decide +kernel
theorem dX5_mixCondition_67 : decode cX5_mixCondition 67 = .ok (.iconst 1, 1) := by decide +kernel
theorem dX5_mixCondition_68 : decode cX5_mixCondition 68 = .ok (.iload_n 1, 1) := by decide +kernel
theorem dX5_mixCondition_69 : decode cX5_mixCondition 69 = .ok (.ishl, 1) := by decide +kernel
theorem dX5_mixCondition_70 : decode cX5_mixCondition 70 = .ok (.iconst (-1), 1) := by decide +kernel
theorem dX5_mixCondition_71 : decode cX5_mixCondition 71 = .ok (.ixor, 1) := by decide +kernel
theorem dX5_mixCondition_72 : decode cX5_mixCondition 72 = .ok (.iand, 1) := by decide +kernel
theorem dX5_mixCondition_73 : decode cX5_mixCondition 73 = .ok (.iconst 0, 1) := by decide +kernel
theorem dX5_mixCondition_74 : decode cX5_mixCondition 74 = .ok (.invokevirtual 155, 3) := by decide +kernel
theorem dX5_mixCondition_77 : decode cX5_mixCondition 77 = .ok (.invokevirtual 230, 3) := by decide +kernel
theorem dX5_mixCondition_80 : decode cX5_mixCondition 80 = .ok (.aload_n 0, 1) := by decide +kernel
theorem dX5_mixCondition_81 : decode cX5_mixCondition 81 = .ok (.aload_n 0, 1) := by decide +kernel
theorem dX5_mixCondition_82 : decode cX5_mixCondition 82 = .ok (.aload_n 0, 1) := by decide +kernel
theorem dX5_mixCondition_83 : decode cX5_mixCondition 83 = .ok (.invokevirtual 77, 3) := by decide +kernel
theorem dX5_mixCondition_86 : decode cX5_mixCondition 86 = .ok (.iconst 1, 1) := by decide +kernel
theorem dX5_mixCondition_87 : decode cX5_mixCondition 87 = .ok (.iload_n 1, 1) := by decide +kernel
theorem dX5_mixCondition_88 : decode cX5_mixCondition 88 = .ok (.ishl, 1) := by decide +kernel
theorem dX5_mixCondition_89 : decode cX5_mixCondition 89 = .ok (.iconst (-1), 1) := by decide +kernel
theorem dX5_mixCondition_90 : decode cX5_mixCondition 90 = .ok (.ixor, 1) := by decide +kernel
theorem dX5_mixCondition_91 : decode cX5_mixCondition 91 = .ok (.iand, 1) := by decide +kernel
theorem dX5_mixCondition_92 : decode cX5_mixCondition 92 = .ok (.iconst 1, 1) := by decide +kernel
theorem dX5_mixCondition_93 : decode cX5_mixCondition 93 = .ok (.invokevirtual 155, 3) := by decide +kernel
theorem dX5_mixCondition_96 : decode cX5_mixCondition 96 = .ok (.invokevirtual 230, 3) := by decide +kernel
theorem dX5_mixCondition_99 : decode cX5_mixCondition 99 = .ok (.return_, 1) := by decide +kernel
set_option maxRecDepth 20000 in
theorem ggX5_mixPrimes_X5_isPrime : GoodIn wsX5_mixPrimes wsX5_isPrime := goodIn_r _ [4, 5, 6, 3, 7] (by decide +kernel) (by decide +kernel)
set_option maxRecDepth 20000 in
theorem gX5_mixPrimes_X5_isPrime : GoodIn wsX5_mixPrimes (va_wsS RX5 177 yX5_isPrime wsX5_isPrime) := goodIn_app (goodIn_of _ (by decide +kernel)) ggX5_mixPrimes_X5_isPrime
set_option maxRecDepth 20000 in
theorem ggX5_mixPrimes_X5_toldPrime : GoodIn wsX5_mixPrimes wsX5_toldPrime := goodIn_r _ [11, 12, 13, 14, 15, 3, 16, 17, 18, 19, 20, 21, 22, 23, 24, 25, 26, 27, 28, 29, 30, 31, 32, 33, 34, 35, 36, 37, 38, 39, 40, 41, 42, 43, 50, 51, 52, 53, 54, 55, 56, 57, 58, 59, 60, 61, 62] (by decide +kernel) (by decide +kernel)
set_option maxRecDepth 20000 in
theorem gX5_mixPrimes_X5_toldPrime : GoodIn wsX5_mixPrimes (wsV RX5 180 RX5 yX5_toldPrime wsX5_toldPrime) := goodIn_app (goodIn_of _ (by decide +kernel)) ggX5_mixPrimes_X5_toldPrime
set_option maxRecDepth 20000 in
theorem ggX5_mixPrimes_X5_mix : GoodIn wsX5_mixPrimes wsX5_mix := goodIn_r _ [47, 48, 49, 50, 51, 52, 53, 54, 55, 56, 57, 58, 59, 60, 61, 62] (by decide +kernel) (by decide +kernel)
set_option maxRecDepth 20000 in
theorem gX5_mixPrimes_X5_mix : GoodIn wsX5_mixPrimes (wsV RX5 230 RX5 yX5_mix wsX5_mix) := goodIn_app (goodIn_of _ (by decide +kernel)) ggX5_mixPrimes_X5_mix
theorem dX5_mixPrimes_0 : decode cX5_mixPrimes 0 = .ok (.iconst 2, 1) := by decide +kernel
theorem dX5_mixPrimes_1 : decode cX5_mixPrimes 1 = .ok (.istore_n 1, 1) := by decide +kernel
theorem dX5_mixPrimes_2 : decode cX5_mixPrimes 2 = .ok (.iload_n 1, 1) := by decide +kernel
theorem dX5_mixPrimes_3 : decode cX5_mixPrimes 3 = .ok (.bipush 13, 2) := by decide +kernel
theorem dX5_mixPrimes_5 : decode cX5_mixPrimes 5 = .ok (.if_icmp .gt 40, 3) := by decide +kernel
theorem dX5_mixPrimes_8 : decode cX5_mixPrimes 8 = .ok (.iconst 0, 1) := by decide +kernel
theorem dX5_mixPrimes_9 : decode cX5_mixPrimes 9 = .ok (.istore_n 2, 1) := by decide +kernel
theorem dX5_mixPrimes_10 : decode cX5_mixPrimes 10 = .ok (.iload_n 2, 1) := by decide +kernel
theorem dX5_mixPrimes_11 : decode cX5_mixPrimes 11 = .ok (.iconst 3, 1) := by decide +kernel
theorem dX5_mixPrimes_12 : decode cX5_mixPrimes 12 = .ok (.if_icmp .gt 27, 3) := by decide +kernel
theorem dX5_mixPrimes_15 : decode cX5_mixPrimes 15 = .ok (.iload_n 1, 1) := by decide +kernel
theorem dX5_mixPrimes_16 : decode cX5_mixPrimes 16 = .ok (.invokestatic 177, 3) := by decide +kernel
theorem dX5_mixPrimes_19 : decode cX5_mixPrimes 19 = .ok (.ifCond .eq 20, 3) := by decide +kernel
theorem dX5_mixPrimes_22 : decode cX5_mixPrimes 22 = .ok (.aload_n 0, 1) := by decide +kernel
theorem dX5_mixPrimes_23 : decode cX5_mixPrimes 23 = .ok (.aload_n 0, 1) := by decide +kernel
theorem dX5_mixPrimes_24 : decode cX5_mixPrimes 24 = .ok (.iload_n 1, 1) := by decide +kernel
theorem dX5_mixPrimes_25 : decode cX5_mixPrimes 25 = .ok (.iload_n 2, 1) := by decide +kernel
theorem dX5_mixPrimes_26 : decode cX5_mixPrimes 26 = .ok (.invokevirtual 180, 3) := by decide +kernel
theorem dX5_mixPrimes_29 : decode cX5_mixPrimes 29 = .ok (.i2l, 1) := by decide +kernel
theorem dX5_mixPrimes_30 : decode cX5_mixPrimes 30 = .ok (.invokevirtual 230, 3) := by decide +kernel
theorem dX5_mixPrimes_33 : decode cX5_mixPrimes 33 = .ok (.iinc 2 1, 3) := by decide +kernel
theorem dX5_mixPrimes_36 : decode cX5_mixPrimes 36 = .ok (.goto (-26), 3) := by decide +kernel
theorem dX5_mixPrimes_39 : decode cX5_mixPrimes 39 = .ok (.iinc 1 1, 3) := by decide +kernel
theorem dX5_mixPrimes_42 : decode cX5_mixPrimes 42 = .ok (.goto (-40), 3) := by decide +kernel
theorem dX5_mixPrimes_45 : decode cX5_mixPrimes 45 = .ok (.return_, 1) := by decide +kernel
set_option maxRecDepth 20000 in
theorem ggX5_digest_X5_counted : GoodIn wsX5_digest wsX5_counted := goodIn_r _ [15, 4, 16, 17, 18, 19, 14, 20, 21, 22, 23, 24, 25, 26, 27, 28, 29, 30, 31, 32, 33, 34, 35, 36, 37, 38, 39, 40, 41, 42, 43, 44, 45, 46, 47, 48, 49, 50, 51, 52, 53, 54, 55, 56, 57, 58, 59, 60, 61, 62, 63, 64, 65, 66, 67, 68, 69, 70, 71, 72, 73, 74, 75, 76, 77, 78, 79, 80, 81, 82, 83, 84, 85, 86, 87, 88, 89, 90, 91, 192, 193, 194, 195, 196, 197, 198, 199, 200, 201, 202, 203, 204] (by decide +kernel) (by decide +kernel)
set_option maxRecDepth 20000 in
theorem gX5_digest_X5_counted : GoodIn wsX5_digest (wsV RX5 168 RX5 yX5_counted wsX5_counted) := goodIn_app (goodIn_of _ (by decide +kernel)) ggX5_digest_X5_counted
set_option maxRecDepth 20000 in
theorem ggX5_digest_X5_mix : GoodIn wsX5_digest wsX5_mix := goodIn_r _ [95, 96, 3, 192, 193, 194, 195, 196, 197, 198, 199, 200, 201, 202, 203, 204] (by decide +kernel) (by decide +kernel)
set_option maxRecDepth 20000 in
theorem gX5_digest_X5_mix : GoodIn wsX5_digest (wsV RX5 230 RX5 yX5_mix wsX5_mix) := goodIn_app (goodIn_of _ (by decide +kernel)) ggX5_digest_X5_mix
set_option maxRecDepth 20000 in
theorem ggX5_digest_X5_onSet : GoodIn wsX5_digest wsX5_onSet := goodIn_r _ [20, 4, 21, 22, 23, 14, 24, 25, 26, 27, 28, 192, 193, 194, 195, 196, 197, 198, 199, 200, 201, 202, 203, 204] (by decide +kernel) (by decide +kernel)
set_option maxRecDepth 20000 in
theorem gX5_digest_X5_onSet : GoodIn wsX5_digest (wsV RX5 77 RX5 yX5_onSet wsX5_onSet) := goodIn_app (goodIn_of _ (by decide +kernel)) ggX5_digest_X5_onSet
set_option maxRecDepth 20000 in
theorem ggX5_digest_X5_joinedBy : GoodIn wsX5_digest wsX5_joinedBy := goodIn_r _ [100, 101, 79, 80, 81, 82, 83, 14, 84, 4, 63, 64, 65, 66, 51, 52, 53, 54, 36, 37, 38, 39, 25, 26, 27, 28, 40, 41, 42, 55, 56, 57, 58, 59, 60, 61, 62, 85, 86, 87, 88, 89, 90, 91, 192, 193, 194, 195, 196, 197, 198, 199, 200, 201, 202, 203, 204] (by decide +kernel) (by decide +kernel)
set_option maxRecDepth 20000 in
theorem gX5_digest_X5_joinedBy : GoodIn wsX5_digest (wsV RX5 155 RX5 yX5_joinedBy wsX5_joinedBy) := goodIn_app (goodIn_of _ (by decide +kernel)) ggX5_digest_X5_joinedBy
set_option maxRecDepth 20000 in
theorem ggX5_digest_X5_mixCondition : GoodIn wsX5_digest wsX5_mixCondition := goodIn_r _ [105, 4, 106, 107, 108, 14, 109, 36, 37, 38, 39, 25, 26, 27, 28, 40, 41, 42, 55, 56, 57, 58, 59, 60, 61, 62, 47, 48, 49, 50, 21, 22, 23, 24, 51, 52, 53, 54, 71, 72, 73, 74, 17, 18, 19, 20, 75, 76, 77, 78, 79, 80, 81, 82, 83, 84, 63, 64, 65, 66, 85, 86, 87, 88, 89, 90, 91, 92, 93, 94, 95, 96, 3, 97, 98, 99, 100, 101, 192, 193, 194, 195, 196, 197, 198, 199, 200, 201, 202, 203, 204] (by decide +kernel) (by decide +kernel)
set_option maxRecDepth 20000 in
theorem gX5_digest_X5_mixCondition : GoodIn wsX5_digest (wsV RX5 236 RX5 yX5_mixCondition wsX5_mixCondition) := goodIn_app (goodIn_of _ (by decide +kernel)) ggX5_digest_X5_mixCondition
set_option maxRecDepth 20000 in
theorem ggX5_digest_X5_mixPrimes : GoodIn wsX5_digest wsX5_mixPrimes := goodIn_r _ [113, 114, 115, 14, 116, 117, 118, 119, 120, 121, 122, 123, 4, 124, 125, 126, 127, 21, 22, 23, 24, 25, 26, 27, 28, 36, 37, 38, 39, 40, 41, 42, 128, 129, 130, 131, 55, 56, 57, 58, 59, 60, 61, 62, 92, 93, 94, 95, 96, 3, 192, 193, 194, 195, 196, 197, 198, 199, 200, 201, 202, 203, 204] (by decide +kernel) (by decide +kernel)
set_option maxRecDepth 20000 in
theorem gX5_digest_X5_mixPrimes : GoodIn wsX5_digest (wsV RX5 239 RX5 yX5_mixPrimes wsX5_mixPrimes) := goodIn_app (goodIn_of _ (by decide +kernel)) ggX5_digest_X5_mixPrimes
set_option maxRecDepth 20000 in
theorem ggX5_digest_X5_answered : GoodIn wsX5_digest wsX5_answered := goodIn_r _ [135, 79, 101, 17, 18, 19, 14, 20, 4, 21, 22, 23, 24, 25, 26, 27, 28, 81, 82, 83, 84, 80, 63, 64, 65, 66, 51, 52, 53, 54, 36, 37, 38, 39, 40, 41, 42, 55, 56, 57, 58, 59, 60, 61, 62, 85, 86, 87, 88, 89, 90, 91, 136, 137, 138, 139, 192, 193, 194, 195, 196, 197, 198, 199, 200, 201, 202, 203, 204] (by decide +kernel) (by decide +kernel)
set_option maxRecDepth 20000 in
theorem gX5_digest_X5_answered : GoodIn wsX5_digest (wsV RX5 191 RX5 yX5_answered wsX5_answered) := goodIn_app (goodIn_of _ (by decide +kernel)) ggX5_digest_X5_answered
set_option maxRecDepth 20000 in
theorem ggX5_digest_X5_nearestTo : GoodIn wsX5_digest wsX5_nearestTo := goodIn_r _ [143, 101, 79, 17, 18, 19, 14, 20, 4, 21, 22, 23, 24, 25, 26, 27, 28, 81, 82, 83, 84, 80, 63, 64, 65, 66, 51, 52, 53, 54, 36, 37, 38, 39, 40, 41, 42, 55, 56, 57, 58, 59, 60, 61, 62, 85, 86, 87, 88, 89, 90, 91, 136, 137, 138, 139, 192, 193, 194, 195, 196, 197, 198, 199, 200, 201, 202, 203, 204] (by decide +kernel) (by decide +kernel)
set_option maxRecDepth 20000 in
theorem gX5_digest_X5_nearestTo : GoodIn wsX5_digest (wsV RX5 195 RX5 yX5_nearestTo wsX5_nearestTo) := goodIn_app (goodIn_of _ (by decide +kernel)) ggX5_digest_X5_nearestTo
set_option maxRecDepth 20000 in
theorem ggX5_digest_X5_manyBetween : GoodIn wsX5_digest wsX5_manyBetween := goodIn_r _ [147, 79, 17, 18, 19, 14, 20, 4, 21, 22, 23, 24, 25, 26, 27, 28, 81, 82, 83, 84, 80, 63, 64, 65, 66, 51, 52, 53, 54, 36, 37, 38, 39, 40, 41, 42, 55, 56, 57, 58, 59, 60, 61, 62, 85, 86, 87, 88, 89, 90, 91, 136, 137, 138, 139, 192, 193, 194, 195, 196, 197, 198, 199, 200, 201, 202, 203, 204] (by decide +kernel) (by decide +kernel)
set_option maxRecDepth 20000 in
theorem gX5_digest_X5_manyBetween : GoodIn wsX5_digest (wsV RX5 198 RX5 yX5_manyBetween wsX5_manyBetween) := goodIn_app (goodIn_of _ (by decide +kernel)) ggX5_digest_X5_manyBetween
set_option maxRecDepth 20000 in
theorem ggX5_digest_X5_missed : GoodIn wsX5_digest wsX5_missed := goodIn_r _ [151, 4, 25, 26, 27, 14, 28, 21, 22, 23, 24, 192, 193, 194, 195, 196, 197, 198, 199, 200, 201, 202, 203, 204] (by decide +kernel) (by decide +kernel)
set_option maxRecDepth 20000 in
theorem gX5_digest_X5_missed : GoodIn wsX5_digest (wsV RX5 202 RX5 yX5_missed wsX5_missed) := goodIn_app (goodIn_of _ (by decide +kernel)) ggX5_digest_X5_missed
set_option maxRecDepth 20000 in
theorem ggX5_digest_X5_wouldAdd : GoodIn wsX5_digest wsX5_wouldAdd := goodIn_r _ [155, 101, 4, 156, 157, 158, 14, 159, 160, 161, 162, 163, 17, 18, 19, 20, 21, 22, 23, 24, 25, 26, 27, 28, 164, 165, 166, 167, 168, 36, 37, 38, 39, 40, 41, 42, 55, 56, 57, 58, 89, 90, 91, 169, 170, 171, 172, 97, 98, 99, 100, 79, 80, 81, 82, 83, 84, 63, 64, 65, 66, 51, 52, 53, 54, 59, 60, 61, 62, 85, 86, 87, 88, 47, 48, 49, 50, 75, 76, 77, 78, 192, 193, 194, 195, 196, 197, 198, 199, 200, 201, 202, 203, 204] (by decide +kernel) (by decide +kernel)
set_option maxRecDepth 20000 in
theorem gX5_digest_X5_wouldAdd : GoodIn wsX5_digest (wsV RX5 206 RX5 yX5_wouldAdd wsX5_wouldAdd) := goodIn_app (goodIn_of _ (by decide +kernel)) ggX5_digest_X5_wouldAdd
set_option maxRecDepth 20000 in
theorem ggX5_digest_X5_mostTogether : GoodIn wsX5_digest wsX5_mostTogether := goodIn_r _ [176, 4, 29, 30, 14, 31, 63, 64, 65, 66, 51, 52, 53, 54, 36, 37, 38, 39, 25, 26, 27, 28, 40, 41, 42, 55, 56, 57, 58, 59, 60, 61, 62, 192, 193, 194, 195, 196, 197, 198, 199, 200, 201, 202, 203, 204] (by decide +kernel) (by decide +kernel)
set_option maxRecDepth 20000 in
theorem gX5_digest_X5_mostTogether : GoodIn wsX5_digest (wsV RX5 116 RX5 yX5_mostTogether wsX5_mostTogether) := goodIn_app (goodIn_of _ (by decide +kernel)) ggX5_digest_X5_mostTogether
set_option maxRecDepth 20000 in
theorem ggX5_digest_X5_blamed : GoodIn wsX5_digest wsX5_blamed := goodIn_r _ [180, 4, 21, 22, 23, 14, 24, 25, 26, 27, 28, 36, 37, 38, 39, 40, 41, 42, 17, 18, 19, 20, 29, 30, 31, 47, 48, 49, 50, 51, 52, 53, 54, 55, 56, 57, 58, 59, 60, 61, 62, 192, 193, 194, 195, 196, 197, 198, 199, 200, 201, 202, 203, 204] (by decide +kernel) (by decide +kernel)
set_option maxRecDepth 20000 in
theorem gX5_digest_X5_blamed : GoodIn wsX5_digest (wsV RX5 210 RX5 yX5_blamed wsX5_blamed) := goodIn_app (goodIn_of _ (by decide +kernel)) ggX5_digest_X5_blamed
set_option maxRecDepth 20000 in
theorem ggX5_digest_X5_share : GoodIn wsX5_digest wsX5_share := goodIn_r _ [184, 79, 17, 18, 19, 14, 20, 4, 21, 22, 23, 24, 25, 26, 27, 28, 81, 82, 83, 84, 80, 63, 64, 65, 66, 51, 52, 53, 54, 36, 37, 38, 39, 40, 41, 42, 55, 56, 57, 58, 59, 60, 61, 62, 85, 86, 87, 88, 89, 90, 91, 192, 193, 194, 195, 196, 197, 198, 199, 200, 201, 202, 203, 204] (by decide +kernel) (by decide +kernel)
set_option maxRecDepth 20000 in
theorem gX5_digest_X5_share : GoodIn wsX5_digest (wsV RX5 213 RX5 yX5_share wsX5_share) := goodIn_app (goodIn_of _ (by decide +kernel)) ggX5_digest_X5_share
set_option maxRecDepth 20000 in
theorem ggX5_digest_X5_bitsOf : GoodIn wsX5_digest wsX5_bitsOf := goodIn_r _ [187, 188, 189, 190, 191] (by decide +kernel) (by decide +kernel)
set_option maxRecDepth 20000 in
theorem gX5_digest_X5_bitsOf : GoodIn wsX5_digest (va_wsS RX5 250 yX5_bitsOf wsX5_bitsOf) := goodIn_app (goodIn_of _ (by decide +kernel)) ggX5_digest_X5_bitsOf
theorem dX5_digest_0 : decode cX5_digest 0 = .ok (.aload_n 0, 1) := by decide +kernel
theorem dX5_digest_1 : decode cX5_digest 1 = .ok (.iconst 0, 1) := by decide +kernel
theorem dX5_digest_2 : decode cX5_digest 2 = .ok (.putfield 22, 3) := by decide +kernel
theorem dX5_digest_5 : decode cX5_digest 5 = .ok (.aload_n 0, 1) := by decide +kernel
theorem dX5_digest_6 : decode cX5_digest 6 = .ok (.ldc2_w 234, 3) := by decide +kernel
theorem dX5_digest_9 : decode cX5_digest 9 = .ok (.putfield 227, 3) := by decide +kernel
theorem dX5_digest_12 : decode cX5_digest 12 = .ok (.iconst 0, 1) := by decide +kernel
theorem dX5_digest_13 : decode cX5_digest 13 = .ok (.istore_n 1, 1) := by decide +kernel
theorem dX5_digest_14 : decode cX5_digest 14 = .ok (.iload_n 1, 1) := by decide +kernel
theorem dX5_digest_15 : decode cX5_digest 15 = .ok (.bipush 6, 2) := by decide +kernel
theorem dX5_digest_17 : decode cX5_digest 17 = .ok (.if_icmp .gt 19, 3) := by decide +kernel
theorem dX5_digest_20 : decode cX5_digest 20 = .ok (.aload_n 0, 1) := by decide +kernel
theorem dX5_digest_21 : decode cX5_digest 21 = .ok (.aload_n 0, 1) := by decide +kernel
theorem dX5_digest_22 : decode cX5_digest 22 = .ok (.iload_n 1, 1) := by decide +kernel
theorem dX5_digest_23 : decode cX5_digest 23 = .ok (.invokevirtual 168, 3) := by decide +kernel
theorem dX5_digest_26 : decode cX5_digest 26 = .ok (.i2l, 1) := by decide +kernel
theorem dX5_digest_27 : decode cX5_digest 27 = .ok (.invokevirtual 230, 3) := by decide +kernel
theorem dX5_digest_30 : decode cX5_digest 30 = .ok (.iinc 1 1, 3) := by decide +kernel
theorem dX5_digest_33 : decode cX5_digest 33 = .ok (.goto (-19), 3) := by decide +kernel
theorem dX5_digest_36 : decode cX5_digest 36 = .ok (.aload_n 0, 1) := by decide +kernel
theorem dX5_digest_37 : decode cX5_digest 37 = .ok (.aload_n 0, 1) := by decide +kernel
theorem dX5_digest_38 : decode cX5_digest 38 = .ok (.aload_n 0, 1) := by decide +kernel
theorem dX5_digest_39 : decode cX5_digest 39 = .ok (.invokevirtual 77, 3) := by decide +kernel
theorem dX5_digest_42 : decode cX5_digest 42 = .ok (.iconst 0, 1) := by decide +kernel
theorem dX5_digest_43 : decode cX5_digest 43 = .ok (.invokevirtual 155, 3) := by decide +kernel
theorem dX5_digest_46 : decode cX5_digest 46 = .ok (.invokevirtual 230, 3) := by decide +kernel
theorem dX5_digest_49 : decode cX5_digest 49 = .ok (.aload_n 0, 1) := by decide +kernel
theorem dX5_digest_50 : decode cX5_digest 50 = .ok (.aload_n 0, 1) := by decide +kernel
theorem dX5_digest_51 : decode cX5_digest 51 = .ok (.aload_n 0, 1) := by decide +kernel
theorem dX5_digest_52 : decode cX5_digest 52 = .ok (.invokevirtual 77, 3) := by decide +kernel
theorem dX5_digest_55 : decode cX5_digest 55 = .ok (.iconst 1, 1) := by decide +kernel
theorem dX5_digest_56 : decode cX5_digest 56 = .ok (.invokevirtual 155, 3) := by decide +kernel
theorem dX5_digest_59 : decode cX5_digest 59 = .ok (.invokevirtual 230, 3) := by decide +kernel
theorem dX5_digest_62 : decode cX5_digest 62 = .ok (.iconst 0, 1) := by decide +kernel
theorem dX5_digest_63 : decode cX5_digest 63 = .ok (.istore_n 1, 1) := by decide +kernel
theorem dX5_digest_64 : decode cX5_digest 64 = .ok (.iload_n 1, 1) := by decide +kernel
theorem dX5_digest_65 : decode cX5_digest 65 = .ok (.aload_n 0, 1) := by decide +kernel
theorem dX5_digest_66 : decode cX5_digest 66 = .ok (.getfield 7, 3) := by decide +kernel
theorem dX5_digest_69 : decode cX5_digest 69 = .ok (.iconst 0, 1) := by decide +kernel
theorem dX5_digest_70 : decode cX5_digest 70 = .ok (.iaload, 1) := by decide +kernel
theorem dX5_digest_71 : decode cX5_digest 71 = .ok (.if_icmp .ge 14, 3) := by decide +kernel
theorem dX5_digest_74 : decode cX5_digest 74 = .ok (.aload_n 0, 1) := by decide +kernel
theorem dX5_digest_75 : decode cX5_digest 75 = .ok (.iload_n 1, 1) := by decide +kernel
theorem dX5_digest_76 : decode cX5_digest 76 = .ok (.invokevirtual 236, 3) := by decide +kernel
theorem dX5_digest_79 : decode cX5_digest 79 = .ok (.iinc 1 1, 3) := by decide +kernel
theorem dX5_digest_82 : decode cX5_digest 82 = .ok (.goto (-18), 3) := by decide +kernel
theorem dX5_digest_85 : decode cX5_digest 85 = .ok (.aload_n 0, 1) := by decide +kernel
theorem dX5_digest_86 : decode cX5_digest 86 = .ok (.invokevirtual 239, 3) := by decide +kernel
theorem dX5_digest_89 : decode cX5_digest 89 = .ok (.iconst 0, 1) := by decide +kernel
theorem dX5_digest_90 : decode cX5_digest 90 = .ok (.istore_n 1, 1) := by decide +kernel
theorem dX5_digest_91 : decode cX5_digest 91 = .ok (.iload_n 1, 1) := by decide +kernel
theorem dX5_digest_92 : decode cX5_digest 92 = .ok (.iconst 2, 1) := by decide +kernel
theorem dX5_digest_93 : decode cX5_digest 93 = .ok (.if_icmp .gt 19, 3) := by decide +kernel
theorem dX5_digest_96 : decode cX5_digest 96 = .ok (.aload_n 0, 1) := by decide +kernel
theorem dX5_digest_97 : decode cX5_digest 97 = .ok (.aload_n 0, 1) := by decide +kernel
theorem dX5_digest_98 : decode cX5_digest 98 = .ok (.lconst 0, 1) := by decide +kernel
theorem dX5_digest_99 : decode cX5_digest 99 = .ok (.iload_n 1, 1) := by decide +kernel
theorem dX5_digest_100 : decode cX5_digest 100 = .ok (.invokevirtual 191, 3) := by decide +kernel
theorem dX5_digest_103 : decode cX5_digest 103 = .ok (.invokevirtual 230, 3) := by decide +kernel
theorem dX5_digest_106 : decode cX5_digest 106 = .ok (.iinc 1 1, 3) := by decide +kernel
theorem dX5_digest_109 : decode cX5_digest 109 = .ok (.goto (-18), 3) := by decide +kernel
theorem dX5_digest_112 : decode cX5_digest 112 = .ok (.aload_n 0, 1) := by decide +kernel
theorem dX5_digest_113 : decode cX5_digest 113 = .ok (.aload_n 0, 1) := by decide +kernel
theorem dX5_digest_114 : decode cX5_digest 114 = .ok (.ldc2_w 242, 3) := by decide +kernel
theorem dX5_digest_117 : decode cX5_digest 117 = .ok (.iconst 0, 1) := by decide +kernel
theorem dX5_digest_118 : decode cX5_digest 118 = .ok (.invokevirtual 191, 3) := by decide +kernel
theorem dX5_digest_121 : decode cX5_digest 121 = .ok (.invokevirtual 230, 3) := by decide +kernel
theorem dX5_digest_124 : decode cX5_digest 124 = .ok (.aload_n 0, 1) := by decide +kernel
theorem dX5_digest_125 : decode cX5_digest 125 = .ok (.aload_n 0, 1) := by decide +kernel
theorem dX5_digest_126 : decode cX5_digest 126 = .ok (.ldc2_w 244, 3) := by decide +kernel
theorem dX5_digest_129 : decode cX5_digest 129 = .ok (.invokevirtual 195, 3) := by decide +kernel
theorem dX5_digest_132 : decode cX5_digest 132 = .ok (.invokevirtual 230, 3) := by decide +kernel
theorem dX5_digest_135 : decode cX5_digest 135 = .ok (.aload_n 0, 1) := by decide +kernel
theorem dX5_digest_136 : decode cX5_digest 136 = .ok (.aload_n 0, 1) := by decide +kernel
theorem dX5_digest_137 : decode cX5_digest 137 = .ok (.lconst 0, 1) := by decide +kernel
theorem dX5_digest_138 : decode cX5_digest 138 = .ok (.ldc2_w 246, 3) := by decide +kernel
theorem dX5_digest_141 : decode cX5_digest 141 = .ok (.invokevirtual 198, 3) := by decide +kernel
theorem dX5_digest_144 : decode cX5_digest 144 = .ok (.invokevirtual 230, 3) := by decide +kernel
theorem dX5_digest_147 : decode cX5_digest 147 = .ok (.aload_n 0, 1) := by decide +kernel
theorem dX5_digest_148 : decode cX5_digest 148 = .ok (.aload_n 0, 1) := by decide +kernel
theorem dX5_digest_149 : decode cX5_digest 149 = .ok (.lconst 0, 1) := by decide +kernel
theorem dX5_digest_150 : decode cX5_digest 150 = .ok (.invokevirtual 202, 3) := by decide +kernel
theorem dX5_digest_153 : decode cX5_digest 153 = .ok (.i2l, 1) := by decide +kernel
theorem dX5_digest_154 : decode cX5_digest 154 = .ok (.invokevirtual 230, 3) := by decide +kernel
theorem dX5_digest_157 : decode cX5_digest 157 = .ok (.aload_n 0, 1) := by decide +kernel
theorem dX5_digest_158 : decode cX5_digest 158 = .ok (.aload_n 0, 1) := by decide +kernel
theorem dX5_digest_159 : decode cX5_digest 159 = .ok (.ldc2_w 248, 3) := by decide +kernel
theorem dX5_digest_162 : decode cX5_digest 162 = .ok (.invokevirtual 202, 3) := by decide +kernel
theorem dX5_digest_165 : decode cX5_digest 165 = .ok (.i2l, 1) := by decide +kernel
theorem dX5_digest_166 : decode cX5_digest 166 = .ok (.invokevirtual 230, 3) := by decide +kernel
theorem dX5_digest_169 : decode cX5_digest 169 = .ok (.iconst 0, 1) := by decide +kernel
theorem dX5_digest_170 : decode cX5_digest 170 = .ok (.istore_n 1, 1) := by decide +kernel
theorem dX5_digest_171 : decode cX5_digest 171 = .ok (.iload_n 1, 1) := by decide +kernel
theorem dX5_digest_172 : decode cX5_digest 172 = .ok (.iconst 3, 1) := by decide +kernel
theorem dX5_digest_173 : decode cX5_digest 173 = .ok (.if_icmp .gt 22, 3) := by decide +kernel
theorem dX5_digest_176 : decode cX5_digest 176 = .ok (.aload_n 0, 1) := by decide +kernel
theorem dX5_digest_177 : decode cX5_digest 177 = .ok (.aload_n 0, 1) := by decide +kernel
theorem dX5_digest_178 : decode cX5_digest 178 = .ok (.iconst 3, 1) := by decide +kernel
theorem dX5_digest_179 : decode cX5_digest 179 = .ok (.iconst 1, 1) := by decide +kernel
theorem dX5_digest_180 : decode cX5_digest 180 = .ok (.bipush 10, 2) := by decide +kernel
theorem dX5_digest_182 : decode cX5_digest 182 = .ok (.iload_n 1, 1) := by decide +kernel
theorem dX5_digest_183 : decode cX5_digest 183 = .ok (.invokevirtual 206, 3) := by decide +kernel
theorem dX5_digest_186 : decode cX5_digest 186 = .ok (.invokevirtual 230, 3) := by decide +kernel
theorem dX5_digest_189 : decode cX5_digest 189 = .ok (.iinc 1 1, 3) := by decide +kernel
theorem dX5_digest_192 : decode cX5_digest 192 = .ok (.goto (-21), 3) := by decide +kernel
theorem dX5_digest_195 : decode cX5_digest 195 = .ok (.aload_n 0, 1) := by decide +kernel
theorem dX5_digest_196 : decode cX5_digest 196 = .ok (.aload_n 0, 1) := by decide +kernel
theorem dX5_digest_197 : decode cX5_digest 197 = .ok (.invokevirtual 116, 3) := by decide +kernel
theorem dX5_digest_200 : decode cX5_digest 200 = .ok (.i2l, 1) := by decide +kernel
theorem dX5_digest_201 : decode cX5_digest 201 = .ok (.invokevirtual 230, 3) := by decide +kernel
theorem dX5_digest_204 : decode cX5_digest 204 = .ok (.aload_n 0, 1) := by decide +kernel
theorem dX5_digest_205 : decode cX5_digest 205 = .ok (.aload_n 0, 1) := by decide +kernel
theorem dX5_digest_206 : decode cX5_digest 206 = .ok (.invokevirtual 210, 3) := by decide +kernel
theorem dX5_digest_209 : decode cX5_digest 209 = .ok (.i2l, 1) := by decide +kernel
theorem dX5_digest_210 : decode cX5_digest 210 = .ok (.invokevirtual 230, 3) := by decide +kernel
theorem dX5_digest_213 : decode cX5_digest 213 = .ok (.aload_n 0, 1) := by decide +kernel
theorem dX5_digest_214 : decode cX5_digest 214 = .ok (.aload_n 0, 1) := by decide +kernel
theorem dX5_digest_215 : decode cX5_digest 215 = .ok (.invokevirtual 213, 3) := by decide +kernel
theorem dX5_digest_218 : decode cX5_digest 218 = .ok (.invokestatic 250, 3) := by decide +kernel
theorem dX5_digest_221 : decode cX5_digest 221 = .ok (.invokevirtual 230, 3) := by decide +kernel
theorem dX5_digest_224 : decode cX5_digest 224 = .ok (.aload_n 0, 1) := by decide +kernel
theorem dX5_digest_225 : decode cX5_digest 225 = .ok (.aload_n 0, 1) := by decide +kernel
theorem dX5_digest_226 : decode cX5_digest 226 = .ok (.getfield 119, 3) := by decide +kernel
theorem dX5_digest_229 : decode cX5_digest 229 = .ok (.i2l, 1) := by decide +kernel
theorem dX5_digest_230 : decode cX5_digest 230 = .ok (.invokevirtual 230, 3) := by decide +kernel
theorem dX5_digest_233 : decode cX5_digest 233 = .ok (.iconst 0, 1) := by decide +kernel
theorem dX5_digest_234 : decode cX5_digest 234 = .ok (.istore_n 1, 1) := by decide +kernel
theorem dX5_digest_235 : decode cX5_digest 235 = .ok (.iload_n 1, 1) := by decide +kernel
theorem dX5_digest_236 : decode cX5_digest 236 = .ok (.aload_n 0, 1) := by decide +kernel
theorem dX5_digest_237 : decode cX5_digest 237 = .ok (.getfield 119, 3) := by decide +kernel
theorem dX5_digest_240 : decode cX5_digest 240 = .ok (.if_icmp .ge 20, 3) := by decide +kernel
theorem dX5_digest_243 : decode cX5_digest 243 = .ok (.aload_n 0, 1) := by decide +kernel
theorem dX5_digest_244 : decode cX5_digest 244 = .ok (.aload_n 0, 1) := by decide +kernel
theorem dX5_digest_245 : decode cX5_digest 245 = .ok (.getfield 16, 3) := by decide +kernel
theorem dX5_digest_248 : decode cX5_digest 248 = .ok (.iload_n 1, 1) := by decide +kernel
theorem dX5_digest_249 : decode cX5_digest 249 = .ok (.iaload, 1) := by decide +kernel
theorem dX5_digest_250 : decode cX5_digest 250 = .ok (.i2l, 1) := by decide +kernel
theorem dX5_digest_251 : decode cX5_digest 251 = .ok (.invokevirtual 230, 3) := by decide +kernel
theorem dX5_digest_254 : decode cX5_digest 254 = .ok (.iinc 1 1, 3) := by decide +kernel
theorem dX5_digest_257 : decode cX5_digest 257 = .ok (.goto (-22), 3) := by decide +kernel
theorem dX5_digest_260 : decode cX5_digest 260 = .ok (.aload_n 0, 1) := by decide +kernel
theorem dX5_digest_261 : decode cX5_digest 261 = .ok (.getfield 227, 3) := by decide +kernel
theorem dX5_digest_264 : decode cX5_digest 264 = .ok (.lreturn, 1) := by decide +kernel
theorem dJ6_bitCount_0f7a4_0 : decode cJ6_bitCount_0f7a4 0 = .ok (.iload_n 0, 1) := by decide +kernel
theorem dJ6_bitCount_0f7a4_1 : decode cJ6_bitCount_0f7a4 1 = .ok (.iload_n 0, 1) := by decide +kernel
theorem dJ6_bitCount_0f7a4_2 : decode cJ6_bitCount_0f7a4 2 = .ok (.iconst 1, 1) := by decide +kernel
theorem dJ6_bitCount_0f7a4_3 : decode cJ6_bitCount_0f7a4 3 = .ok (.iushr, 1) := by decide +kernel
theorem dJ6_bitCount_0f7a4_4 : decode cJ6_bitCount_0f7a4 4 = .ok (.ldc_w 265, 3) := by decide +kernel
theorem dJ6_bitCount_0f7a4_7 : decode cJ6_bitCount_0f7a4 7 = .ok (.iand, 1) := by decide +kernel
theorem dJ6_bitCount_0f7a4_8 : decode cJ6_bitCount_0f7a4 8 = .ok (.isub, 1) := by decide +kernel
theorem dJ6_bitCount_0f7a4_9 : decode cJ6_bitCount_0f7a4 9 = .ok (.istore_n 0, 1) := by decide +kernel
theorem dJ6_bitCount_0f7a4_10 : decode cJ6_bitCount_0f7a4 10 = .ok (.iload_n 0, 1) := by decide +kernel
theorem dJ6_bitCount_0f7a4_11 : decode cJ6_bitCount_0f7a4 11 = .ok (.ldc_w 266, 3) := by decide +kernel
theorem dJ6_bitCount_0f7a4_14 : decode cJ6_bitCount_0f7a4 14 = .ok (.iand, 1) := by decide +kernel
theorem dJ6_bitCount_0f7a4_15 : decode cJ6_bitCount_0f7a4 15 = .ok (.iload_n 0, 1) := by decide +kernel
theorem dJ6_bitCount_0f7a4_16 : decode cJ6_bitCount_0f7a4 16 = .ok (.iconst 2, 1) := by decide +kernel
theorem dJ6_bitCount_0f7a4_17 : decode cJ6_bitCount_0f7a4 17 = .ok (.iushr, 1) := by decide +kernel
theorem dJ6_bitCount_0f7a4_18 : decode cJ6_bitCount_0f7a4 18 = .ok (.ldc_w 266, 3) := by decide +kernel
theorem dJ6_bitCount_0f7a4_21 : decode cJ6_bitCount_0f7a4 21 = .ok (.iand, 1) := by decide +kernel
theorem dJ6_bitCount_0f7a4_22 : decode cJ6_bitCount_0f7a4 22 = .ok (.iadd, 1) := by decide +kernel
theorem dJ6_bitCount_0f7a4_23 : decode cJ6_bitCount_0f7a4 23 = .ok (.istore_n 0, 1) := by decide +kernel
theorem dJ6_bitCount_0f7a4_24 : decode cJ6_bitCount_0f7a4 24 = .ok (.iload_n 0, 1) := by decide +kernel
theorem dJ6_bitCount_0f7a4_25 : decode cJ6_bitCount_0f7a4 25 = .ok (.iload_n 0, 1) := by decide +kernel
theorem dJ6_bitCount_0f7a4_26 : decode cJ6_bitCount_0f7a4 26 = .ok (.iconst 4, 1) := by decide +kernel
theorem dJ6_bitCount_0f7a4_27 : decode cJ6_bitCount_0f7a4 27 = .ok (.iushr, 1) := by decide +kernel
theorem dJ6_bitCount_0f7a4_28 : decode cJ6_bitCount_0f7a4 28 = .ok (.iadd, 1) := by decide +kernel
theorem dJ6_bitCount_0f7a4_29 : decode cJ6_bitCount_0f7a4 29 = .ok (.ldc_w 267, 3) := by decide +kernel
theorem dJ6_bitCount_0f7a4_32 : decode cJ6_bitCount_0f7a4 32 = .ok (.iand, 1) := by decide +kernel
theorem dJ6_bitCount_0f7a4_33 : decode cJ6_bitCount_0f7a4 33 = .ok (.istore_n 0, 1) := by decide +kernel
theorem dJ6_bitCount_0f7a4_34 : decode cJ6_bitCount_0f7a4 34 = .ok (.iload_n 0, 1) := by decide +kernel
theorem dJ6_bitCount_0f7a4_35 : decode cJ6_bitCount_0f7a4 35 = .ok (.iload_n 0, 1) := by decide +kernel
theorem dJ6_bitCount_0f7a4_36 : decode cJ6_bitCount_0f7a4 36 = .ok (.bipush 8, 2) := by decide +kernel
theorem dJ6_bitCount_0f7a4_38 : decode cJ6_bitCount_0f7a4 38 = .ok (.iushr, 1) := by decide +kernel
theorem dJ6_bitCount_0f7a4_39 : decode cJ6_bitCount_0f7a4 39 = .ok (.iadd, 1) := by decide +kernel
theorem dJ6_bitCount_0f7a4_40 : decode cJ6_bitCount_0f7a4 40 = .ok (.istore_n 0, 1) := by decide +kernel
theorem dJ6_bitCount_0f7a4_41 : decode cJ6_bitCount_0f7a4 41 = .ok (.iload_n 0, 1) := by decide +kernel
theorem dJ6_bitCount_0f7a4_42 : decode cJ6_bitCount_0f7a4 42 = .ok (.iload_n 0, 1) := by decide +kernel
theorem dJ6_bitCount_0f7a4_43 : decode cJ6_bitCount_0f7a4 43 = .ok (.bipush 16, 2) := by decide +kernel
theorem dJ6_bitCount_0f7a4_45 : decode cJ6_bitCount_0f7a4 45 = .ok (.iushr, 1) := by decide +kernel
theorem dJ6_bitCount_0f7a4_46 : decode cJ6_bitCount_0f7a4 46 = .ok (.iadd, 1) := by decide +kernel
theorem dJ6_bitCount_0f7a4_47 : decode cJ6_bitCount_0f7a4 47 = .ok (.istore_n 0, 1) := by decide +kernel
theorem dJ6_bitCount_0f7a4_48 : decode cJ6_bitCount_0f7a4 48 = .ok (.iload_n 0, 1) := by decide +kernel
theorem dJ6_bitCount_0f7a4_49 : decode cJ6_bitCount_0f7a4 49 = .ok (.bipush 63, 2) := by decide +kernel
theorem dJ6_bitCount_0f7a4_51 : decode cJ6_bitCount_0f7a4 51 = .ok (.iand, 1) := by decide +kernel
theorem dJ6_bitCount_0f7a4_52 : decode cJ6_bitCount_0f7a4 52 = .ok (.ireturn, 1) := by decide +kernel
theorem dJ9_floorMod_7cf53_0 : decode cJ9_floorMod_7cf53 0 = .ok (.iload_n 0, 1) := by decide +kernel
theorem dJ9_floorMod_7cf53_1 : decode cJ9_floorMod_7cf53 1 = .ok (.iload_n 1, 1) := by decide +kernel
theorem dJ9_floorMod_7cf53_2 : decode cJ9_floorMod_7cf53 2 = .ok (.irem, 1) := by decide +kernel
theorem dJ9_floorMod_7cf53_3 : decode cJ9_floorMod_7cf53 3 = .ok (.istore_n 2, 1) := by decide +kernel
theorem dJ9_floorMod_7cf53_4 : decode cJ9_floorMod_7cf53 4 = .ok (.iload_n 0, 1) := by decide +kernel
theorem dJ9_floorMod_7cf53_5 : decode cJ9_floorMod_7cf53 5 = .ok (.iload_n 1, 1) := by decide +kernel
theorem dJ9_floorMod_7cf53_6 : decode cJ9_floorMod_7cf53 6 = .ok (.ixor, 1) := by decide +kernel
theorem dJ9_floorMod_7cf53_7 : decode cJ9_floorMod_7cf53 7 = .ok (.ifCond .ge 11, 3) := by decide +kernel
theorem dJ9_floorMod_7cf53_10 : decode cJ9_floorMod_7cf53 10 = .ok (.iload_n 2, 1) := by decide +kernel
theorem dJ9_floorMod_7cf53_11 : decode cJ9_floorMod_7cf53 11 = .ok (.ifCond .eq 7, 3) := by decide +kernel
theorem dJ9_floorMod_7cf53_14 : decode cJ9_floorMod_7cf53 14 = .ok (.iload_n 2, 1) := by decide +kernel
theorem dJ9_floorMod_7cf53_15 : decode cJ9_floorMod_7cf53 15 = .ok (.iload_n 1, 1) := by decide +kernel
theorem dJ9_floorMod_7cf53_16 : decode cJ9_floorMod_7cf53 16 = .ok (.iadd, 1) := by decide +kernel
theorem dJ9_floorMod_7cf53_17 : decode cJ9_floorMod_7cf53 17 = .ok (.ireturn, 1) := by decide +kernel
theorem dJ9_floorMod_7cf53_18 : decode cJ9_floorMod_7cf53 18 = .ok (.iload_n 2, 1) := by decide +kernel
theorem dJ9_floorMod_7cf53_19 : decode cJ9_floorMod_7cf53 19 = .ok (.ireturn, 1) := by decide +kernel
theorem dJ9_min_f86c9_0 : decode cJ9_min_f86c9 0 = .ok (.lload_n 0, 1) := by decide +kernel
theorem dJ9_min_f86c9_1 : decode cJ9_min_f86c9 1 = .ok (.lload_n 2, 1) := by decide +kernel
theorem dJ9_min_f86c9_2 : decode cJ9_min_f86c9 2 = .ok (.lcmp, 1) := by decide +kernel
theorem dJ9_min_f86c9_3 : decode cJ9_min_f86c9 3 = .ok (.ifCond .gt 7, 3) := by decide +kernel
theorem dJ9_min_f86c9_6 : decode cJ9_min_f86c9 6 = .ok (.lload_n 0, 1) := by decide +kernel
theorem dJ9_min_f86c9_7 : decode cJ9_min_f86c9 7 = .ok (.goto 4, 3) := by decide +kernel
theorem dJ9_min_f86c9_10 : decode cJ9_min_f86c9 10 = .ok (.lload_n 2, 1) := by decide +kernel
theorem dJ9_min_f86c9_11 : decode cJ9_min_f86c9 11 = .ok (.lreturn, 1) := by decide +kernel

theorem dX5_init_0 : decode cX5_init 0 = .ok (.aload_n 0, 1) := by decide +kernel
theorem dX5_init_1 : decode cX5_init 1 = .ok (.invokespecial 1, 3) := by decide +kernel
theorem dX5_init_4 : decode cX5_init 4 = .ok (.aload_n 0, 1) := by decide +kernel
theorem dX5_init_5 : decode cX5_init 5 = .ok (.bipush 45, 2) := by decide +kernel
theorem dX5_init_7 : decode cX5_init 7 = .ok (.newarray .int, 2) := by decide +kernel
theorem dX5_init_9 : decode cX5_init 9 = .ok (.putfield 7, 3) := by decide +kernel
theorem dX5_init_12 : decode cX5_init 12 = .ok (.aload_n 0, 1) := by decide +kernel
theorem dX5_init_13 : decode cX5_init 13 = .ok (.sipush 270, 3) := by decide +kernel
theorem dX5_init_16 : decode cX5_init 16 = .ok (.newarray .int, 2) := by decide +kernel
theorem dX5_init_18 : decode cX5_init 18 = .ok (.putfield 13, 3) := by decide +kernel
theorem dX5_init_21 : decode cX5_init 21 = .ok (.aload_n 0, 1) := by decide +kernel
theorem dX5_init_22 : decode cX5_init 22 = .ok (.bipush 60, 2) := by decide +kernel
theorem dX5_init_24 : decode cX5_init 24 = .ok (.newarray .int, 2) := by decide +kernel
theorem dX5_init_26 : decode cX5_init 26 = .ok (.putfield 16, 3) := by decide +kernel
theorem dX5_init_29 : decode cX5_init 29 = .ok (.aload_n 0, 1) := by decide +kernel
theorem dX5_init_30 : decode cX5_init 30 = .ok (.bipush 45, 2) := by decide +kernel
theorem dX5_init_32 : decode cX5_init 32 = .ok (.newarray .int, 2) := by decide +kernel
theorem dX5_init_34 : decode cX5_init 34 = .ok (.putfield 19, 3) := by decide +kernel
theorem dX5_init_37 : decode cX5_init 37 = .ok (.aload_n 0, 1) := by decide +kernel
theorem dX5_init_38 : decode cX5_init 38 = .ok (.iconst 0, 1) := by decide +kernel
theorem dX5_init_39 : decode cX5_init 39 = .ok (.putfield 22, 3) := by decide +kernel
theorem dX5_init_42 : decode cX5_init 42 = .ok (.return_, 1) := by decide +kernel
theorem dX5_thrown_0 : decode cX5_thrown 0 = .ok (.aload_n 0, 1) := by decide +kernel
theorem dX5_thrown_1 : decode cX5_thrown 1 = .ok (.getfield 22, 3) := by decide +kernel
theorem dX5_thrown_4 : decode cX5_thrown 4 = .ok (.ireturn, 1) := by decide +kernel
theorem dX5_in_0 : decode cX5_in 0 = .ok (.iload_n 0, 1) := by decide +kernel
theorem dX5_in_1 : decode cX5_in 1 = .ok (.iload_n 1, 1) := by decide +kernel
theorem dX5_in_2 : decode cX5_in 2 = .ok (.if_icmp .lt 12, 3) := by decide +kernel
theorem dX5_in_5 : decode cX5_in 5 = .ok (.iload_n 0, 1) := by decide +kernel
theorem dX5_in_6 : decode cX5_in 6 = .ok (.iload_n 2, 1) := by decide +kernel
theorem dX5_in_7 : decode cX5_in 7 = .ok (.if_icmp .gt 7, 3) := by decide +kernel
theorem dX5_in_10 : decode cX5_in 10 = .ok (.iconst 1, 1) := by decide +kernel
theorem dX5_in_11 : decode cX5_in 11 = .ok (.goto 4, 3) := by decide +kernel
theorem dX5_in_14 : decode cX5_in 14 = .ok (.iconst 0, 1) := by decide +kernel
theorem dX5_in_15 : decode cX5_in 15 = .ok (.ireturn, 1) := by decide +kernel
theorem dX5_isThere_0 : decode cX5_isThere 0 = .ok (.iload_n 1, 1) := by decide +kernel
theorem dX5_isThere_1 : decode cX5_isThere 1 = .ok (.ifCond .lt 17, 3) := by decide +kernel
theorem dX5_isThere_4 : decode cX5_isThere 4 = .ok (.iload_n 1, 1) := by decide +kernel
theorem dX5_isThere_5 : decode cX5_isThere 5 = .ok (.aload_n 0, 1) := by decide +kernel
theorem dX5_isThere_6 : decode cX5_isThere 6 = .ok (.getfield 7, 3) := by decide +kernel
theorem dX5_isThere_9 : decode cX5_isThere 9 = .ok (.iconst 0, 1) := by decide +kernel
theorem dX5_isThere_10 : decode cX5_isThere 10 = .ok (.iaload, 1) := by decide +kernel
theorem dX5_isThere_11 : decode cX5_isThere 11 = .ok (.if_icmp .ge 7, 3) := by decide +kernel
theorem dX5_isThere_14 : decode cX5_isThere 14 = .ok (.iconst 1, 1) := by decide +kernel
theorem dX5_isThere_15 : decode cX5_isThere 15 = .ok (.goto 4, 3) := by decide +kernel
theorem dX5_isThere_18 : decode cX5_isThere 18 = .ok (.iconst 0, 1) := by decide +kernel
theorem dX5_isThere_19 : decode cX5_isThere 19 = .ok (.ireturn, 1) := by decide +kernel
theorem dX5_of_0 : decode cX5_of 0 = .ok (.aload_n 0, 1) := by decide +kernel
theorem dX5_of_1 : decode cX5_of 1 = .ok (.getfield 7, 3) := by decide +kernel
theorem dX5_of_4 : decode cX5_of 4 = .ok (.iconst 1, 1) := by decide +kernel
theorem dX5_of_5 : decode cX5_of 5 = .ok (.iconst 4, 1) := by decide +kernel
theorem dX5_of_6 : decode cX5_of 6 = .ok (.iload_n 1, 1) := by decide +kernel
theorem dX5_of_7 : decode cX5_of 7 = .ok (.imul, 1) := by decide +kernel
theorem dX5_of_8 : decode cX5_of 8 = .ok (.iadd, 1) := by decide +kernel
theorem dX5_of_9 : decode cX5_of 9 = .ok (.iload_n 2, 1) := by decide +kernel
theorem dX5_of_10 : decode cX5_of 10 = .ok (.iadd, 1) := by decide +kernel
theorem dX5_of_11 : decode cX5_of 11 = .ok (.iaload, 1) := by decide +kernel
theorem dX5_of_12 : decode cX5_of 12 = .ok (.ireturn, 1) := by decide +kernel
set_option maxRecDepth 20000 in
theorem ggX5_isOn_X5_of : GoodIn wsX5_isOn wsX5_of := goodIn_r _ [5, 6, 7, 8, 9, 10, 11, 12, 13, 14, 15, 16, 17, 18, 19] (by decide +kernel) (by decide +kernel)
set_option maxRecDepth 20000 in
theorem gX5_isOn_X5_of : GoodIn wsX5_isOn (wsV RX5 26 RX5 yX5_of wsX5_of) := goodIn_app (goodIn_of _ (by decide +kernel)) ggX5_isOn_X5_of
theorem dX5_isOn_0 : decode cX5_isOn 0 = .ok (.aload_n 0, 1) := by decide +kernel
theorem dX5_isOn_1 : decode cX5_isOn 1 = .ok (.iload_n 1, 1) := by decide +kernel
theorem dX5_isOn_2 : decode cX5_isOn 2 = .ok (.iconst 3, 1) := by decide +kernel
theorem dX5_isOn_3 : decode cX5_isOn 3 = .ok (.invokevirtual 26, 3) := by decide +kernel
theorem dX5_isOn_6 : decode cX5_isOn 6 = .ok (.iconst 1, 1) := by decide +kernel
theorem dX5_isOn_7 : decode cX5_isOn 7 = .ok (.if_icmp .ne 7, 3) := by decide +kernel
theorem dX5_isOn_10 : decode cX5_isOn 10 = .ok (.iconst 1, 1) := by decide +kernel
theorem dX5_isOn_11 : decode cX5_isOn 11 = .ok (.goto 4, 3) := by decide +kernel
theorem dX5_isOn_14 : decode cX5_isOn 14 = .ok (.iconst 0, 1) := by decide +kernel
theorem dX5_isOn_15 : decode cX5_isOn 15 = .ok (.ireturn, 1) := by decide +kernel
theorem dX5_isNumber_0 : decode cX5_isNumber 0 = .ok (.lload_n 0, 1) := by decide +kernel
theorem dX5_isNumber_1 : decode cX5_isNumber 1 = .ok (.lconst 0, 1) := by decide +kernel
theorem dX5_isNumber_2 : decode cX5_isNumber 2 = .ok (.lcmp, 1) := by decide +kernel
theorem dX5_isNumber_3 : decode cX5_isNumber 3 = .ok (.ifCond .lt 15, 3) := by decide +kernel
theorem dX5_isNumber_6 : decode cX5_isNumber 6 = .ok (.lload_n 0, 1) := by decide +kernel
theorem dX5_isNumber_7 : decode cX5_isNumber 7 = .ok (.ldc2_w 30, 3) := by decide +kernel
theorem dX5_isNumber_10 : decode cX5_isNumber 10 = .ok (.lcmp, 1) := by decide +kernel
theorem dX5_isNumber_11 : decode cX5_isNumber 11 = .ok (.ifCond .gt 7, 3) := by decide +kernel
theorem dX5_isNumber_14 : decode cX5_isNumber 14 = .ok (.iconst 1, 1) := by decide +kernel
theorem dX5_isNumber_15 : decode cX5_isNumber 15 = .ok (.goto 4, 3) := by decide +kernel
theorem dX5_isNumber_18 : decode cX5_isNumber 18 = .ok (.iconst 0, 1) := by decide +kernel
theorem dX5_isNumber_19 : decode cX5_isNumber 19 = .ok (.ireturn, 1) := by decide +kernel
theorem dX5_save_0 : decode cX5_save 0 = .ok (.aload_n 0, 1) := by decide +kernel
theorem dX5_save_1 : decode cX5_save 1 = .ok (.getfield 32, 3) := by decide +kernel
theorem dX5_save_4 : decode cX5_save 4 = .ok (.bipush 6, 2) := by decide +kernel
theorem dX5_save_6 : decode cX5_save 6 = .ok (.if_icmp .ne 43, 3) := by decide +kernel
theorem dX5_save_9 : decode cX5_save 9 = .ok (.iconst 0, 1) := by decide +kernel
theorem dX5_save_10 : decode cX5_save 10 = .ok (.istore_n 1, 1) := by decide +kernel
theorem dX5_save_11 : decode cX5_save 11 = .ok (.iload_n 1, 1) := by decide +kernel
theorem dX5_save_12 : decode cX5_save 12 = .ok (.sipush 225, 3) := by decide +kernel
theorem dX5_save_15 : decode cX5_save 15 = .ok (.if_icmp .ge 24, 3) := by decide +kernel
theorem dX5_save_18 : decode cX5_save 18 = .ok (.aload_n 0, 1) := by decide +kernel
theorem dX5_save_19 : decode cX5_save 19 = .ok (.getfield 13, 3) := by decide +kernel
theorem dX5_save_22 : decode cX5_save 22 = .ok (.iload_n 1, 1) := by decide +kernel
theorem dX5_save_23 : decode cX5_save 23 = .ok (.aload_n 0, 1) := by decide +kernel
theorem dX5_save_24 : decode cX5_save 24 = .ok (.getfield 13, 3) := by decide +kernel
theorem dX5_save_27 : decode cX5_save 27 = .ok (.iload_n 1, 1) := by decide +kernel
theorem dX5_save_28 : decode cX5_save 28 = .ok (.bipush 45, 2) := by decide +kernel
theorem dX5_save_30 : decode cX5_save 30 = .ok (.iadd, 1) := by decide +kernel
theorem dX5_save_31 : decode cX5_save 31 = .ok (.iaload, 1) := by decide +kernel
theorem dX5_save_32 : decode cX5_save 32 = .ok (.iastore, 1) := by decide +kernel
theorem dX5_save_33 : decode cX5_save 33 = .ok (.iinc 1 1, 3) := by decide +kernel
theorem dX5_save_36 : decode cX5_save 36 = .ok (.goto (-25), 3) := by decide +kernel
theorem dX5_save_39 : decode cX5_save 39 = .ok (.aload_n 0, 1) := by decide +kernel
theorem dX5_save_40 : decode cX5_save 40 = .ok (.dup, 1) := by decide +kernel
theorem dX5_save_41 : decode cX5_save 41 = .ok (.getfield 32, 3) := by decide +kernel
theorem dX5_save_44 : decode cX5_save 44 = .ok (.iconst 1, 1) := by decide +kernel
theorem dX5_save_45 : decode cX5_save 45 = .ok (.isub, 1) := by decide +kernel
theorem dX5_save_46 : decode cX5_save 46 = .ok (.putfield 32, 3) := by decide +kernel
theorem dX5_save_49 : decode cX5_save 49 = .ok (.iconst 0, 1) := by decide +kernel
theorem dX5_save_50 : decode cX5_save 50 = .ok (.istore_n 1, 1) := by decide +kernel
theorem dX5_save_51 : decode cX5_save 51 = .ok (.iload_n 1, 1) := by decide +kernel
theorem dX5_save_52 : decode cX5_save 52 = .ok (.bipush 45, 2) := by decide +kernel
theorem dX5_save_54 : decode cX5_save 54 = .ok (.if_icmp .ge 29, 3) := by decide +kernel
theorem dX5_save_57 : decode cX5_save 57 = .ok (.aload_n 0, 1) := by decide +kernel
theorem dX5_save_58 : decode cX5_save 58 = .ok (.getfield 13, 3) := by decide +kernel
theorem dX5_save_61 : decode cX5_save 61 = .ok (.aload_n 0, 1) := by decide +kernel
theorem dX5_save_62 : decode cX5_save 62 = .ok (.getfield 32, 3) := by decide +kernel
theorem dX5_save_65 : decode cX5_save 65 = .ok (.bipush 45, 2) := by decide +kernel
theorem dX5_save_67 : decode cX5_save 67 = .ok (.imul, 1) := by decide +kernel
theorem dX5_save_68 : decode cX5_save 68 = .ok (.iload_n 1, 1) := by decide +kernel
theorem dX5_save_69 : decode cX5_save 69 = .ok (.iadd, 1) := by decide +kernel
theorem dX5_save_70 : decode cX5_save 70 = .ok (.aload_n 0, 1) := by decide +kernel
theorem dX5_save_71 : decode cX5_save 71 = .ok (.getfield 7, 3) := by decide +kernel
theorem dX5_save_74 : decode cX5_save 74 = .ok (.iload_n 1, 1) := by decide +kernel
theorem dX5_save_75 : decode cX5_save 75 = .ok (.iaload, 1) := by decide +kernel
theorem dX5_save_76 : decode cX5_save 76 = .ok (.iastore, 1) := by decide +kernel
theorem dX5_save_77 : decode cX5_save 77 = .ok (.iinc 1 1, 3) := by decide +kernel
theorem dX5_save_80 : decode cX5_save 80 = .ok (.goto (-29), 3) := by decide +kernel
theorem dX5_save_83 : decode cX5_save 83 = .ok (.aload_n 0, 1) := by decide +kernel
theorem dX5_save_84 : decode cX5_save 84 = .ok (.dup, 1) := by decide +kernel
theorem dX5_save_85 : decode cX5_save 85 = .ok (.getfield 32, 3) := by decide +kernel
theorem dX5_save_88 : decode cX5_save 88 = .ok (.iconst 1, 1) := by decide +kernel
theorem dX5_save_89 : decode cX5_save 89 = .ok (.iadd, 1) := by decide +kernel
theorem dX5_save_90 : decode cX5_save 90 = .ok (.putfield 32, 3) := by decide +kernel
theorem dX5_save_93 : decode cX5_save 93 = .ok (.return_, 1) := by decide +kernel
theorem dX5_undo_0 : decode cX5_undo 0 = .ok (.aload_n 0, 1) := by decide +kernel
theorem dX5_undo_1 : decode cX5_undo 1 = .ok (.aload_n 0, 1) := by decide +kernel
theorem dX5_undo_2 : decode cX5_undo 2 = .ok (.getfield 32, 3) := by decide +kernel
theorem dX5_undo_5 : decode cX5_undo 5 = .ok (.ifCond .ne 7, 3) := by decide +kernel
theorem dX5_undo_8 : decode cX5_undo 8 = .ok (.iconst 1, 1) := by decide +kernel
theorem dX5_undo_9 : decode cX5_undo 9 = .ok (.goto 4, 3) := by decide +kernel
theorem dX5_undo_12 : decode cX5_undo 12 = .ok (.iconst 0, 1) := by decide +kernel
theorem dX5_undo_13 : decode cX5_undo 13 = .ok (.putfield 22, 3) := by decide +kernel
theorem dX5_undo_16 : decode cX5_undo 16 = .ok (.aload_n 0, 1) := by decide +kernel
theorem dX5_undo_17 : decode cX5_undo 17 = .ok (.getfield 22, 3) := by decide +kernel
theorem dX5_undo_20 : decode cX5_undo 20 = .ok (.ifCond .le 5, 3) := by decide +kernel
theorem dX5_undo_23 : decode cX5_undo 23 = .ok (.iconst 0, 1) := by decide +kernel
theorem dX5_undo_24 : decode cX5_undo 24 = .ok (.ireturn, 1) := by decide +kernel
theorem dX5_undo_25 : decode cX5_undo 25 = .ok (.aload_n 0, 1) := by decide +kernel
theorem dX5_undo_26 : decode cX5_undo 26 = .ok (.dup, 1) := by decide +kernel
theorem dX5_undo_27 : decode cX5_undo 27 = .ok (.getfield 32, 3) := by decide +kernel
theorem dX5_undo_30 : decode cX5_undo 30 = .ok (.iconst 1, 1) := by decide +kernel
theorem dX5_undo_31 : decode cX5_undo 31 = .ok (.isub, 1) := by decide +kernel
theorem dX5_undo_32 : decode cX5_undo 32 = .ok (.putfield 32, 3) := by decide +kernel
theorem dX5_undo_35 : decode cX5_undo 35 = .ok (.iconst 0, 1) := by decide +kernel
theorem dX5_undo_36 : decode cX5_undo 36 = .ok (.istore_n 1, 1) := by decide +kernel
theorem dX5_undo_37 : decode cX5_undo 37 = .ok (.iload_n 1, 1) := by decide +kernel
theorem dX5_undo_38 : decode cX5_undo 38 = .ok (.bipush 45, 2) := by decide +kernel
theorem dX5_undo_40 : decode cX5_undo 40 = .ok (.if_icmp .ge 29, 3) := by decide +kernel
theorem dX5_undo_43 : decode cX5_undo 43 = .ok (.aload_n 0, 1) := by decide +kernel
theorem dX5_undo_44 : decode cX5_undo 44 = .ok (.getfield 7, 3) := by decide +kernel
theorem dX5_undo_47 : decode cX5_undo 47 = .ok (.iload_n 1, 1) := by decide +kernel
theorem dX5_undo_48 : decode cX5_undo 48 = .ok (.aload_n 0, 1) := by decide +kernel
theorem dX5_undo_49 : decode cX5_undo 49 = .ok (.getfield 13, 3) := by decide +kernel
theorem dX5_undo_52 : decode cX5_undo 52 = .ok (.aload_n 0, 1) := by decide +kernel
theorem dX5_undo_53 : decode cX5_undo 53 = .ok (.getfield 32, 3) := by decide +kernel
theorem dX5_undo_56 : decode cX5_undo 56 = .ok (.bipush 45, 2) := by decide +kernel
theorem dX5_undo_58 : decode cX5_undo 58 = .ok (.imul, 1) := by decide +kernel
theorem dX5_undo_59 : decode cX5_undo 59 = .ok (.iload_n 1, 1) := by decide +kernel
theorem dX5_undo_60 : decode cX5_undo 60 = .ok (.iadd, 1) := by decide +kernel
theorem dX5_undo_61 : decode cX5_undo 61 = .ok (.iaload, 1) := by decide +kernel
theorem dX5_undo_62 : decode cX5_undo 62 = .ok (.iastore, 1) := by decide +kernel
theorem dX5_undo_63 : decode cX5_undo 63 = .ok (.iinc 1 1, 3) := by decide +kernel
theorem dX5_undo_66 : decode cX5_undo 66 = .ok (.goto (-29), 3) := by decide +kernel
theorem dX5_undo_69 : decode cX5_undo 69 = .ok (.aload_n 0, 1) := by decide +kernel
theorem dX5_undo_70 : decode cX5_undo 70 = .ok (.getfield 32, 3) := by decide +kernel
theorem dX5_undo_73 : decode cX5_undo 73 = .ok (.ireturn, 1) := by decide +kernel
theorem dX5_common_0 : decode cX5_common 0 = .ok (.iload_n 0, 1) := by decide +kernel
theorem dX5_common_1 : decode cX5_common 1 = .ok (.istore_n 2, 1) := by decide +kernel
theorem dX5_common_2 : decode cX5_common 2 = .ok (.iload_n 1, 1) := by decide +kernel
theorem dX5_common_3 : decode cX5_common 3 = .ok (.istore_n 3, 1) := by decide +kernel
theorem dX5_common_4 : decode cX5_common 4 = .ok (.iload_n 3, 1) := by decide +kernel
theorem dX5_common_5 : decode cX5_common 5 = .ok (.ifCond .le 16, 3) := by decide +kernel
theorem dX5_common_8 : decode cX5_common 8 = .ok (.iload_n 2, 1) := by decide +kernel
theorem dX5_common_9 : decode cX5_common 9 = .ok (.iload_n 3, 1) := by decide +kernel
theorem dX5_common_10 : decode cX5_common 10 = .ok (.irem, 1) := by decide +kernel
theorem dX5_common_11 : decode cX5_common 11 = .ok (.istore 4, 2) := by decide +kernel
theorem dX5_common_13 : decode cX5_common 13 = .ok (.iload_n 3, 1) := by decide +kernel
theorem dX5_common_14 : decode cX5_common 14 = .ok (.istore_n 2, 1) := by decide +kernel
theorem dX5_common_15 : decode cX5_common 15 = .ok (.iload 4, 2) := by decide +kernel
theorem dX5_common_17 : decode cX5_common 17 = .ok (.istore_n 3, 1) := by decide +kernel
theorem dX5_common_18 : decode cX5_common 18 = .ok (.goto (-14), 3) := by decide +kernel
theorem dX5_common_21 : decode cX5_common 21 = .ok (.iload_n 2, 1) := by decide +kernel
theorem dX5_common_22 : decode cX5_common 22 = .ok (.ireturn, 1) := by decide +kernel
set_option maxRecDepth 20000 in
theorem ggX5_commonOf_X5_common : GoodIn wsX5_commonOf wsX5_common := goodIn_r _ [4] (by decide +kernel) (by decide +kernel)
set_option maxRecDepth 20000 in
theorem gX5_commonOf_X5_common : GoodIn wsX5_commonOf (va_wsS RX5 35 yX5_common wsX5_common) := goodIn_app (goodIn_of _ (by decide +kernel)) ggX5_commonOf_X5_common
theorem dX5_commonOf_0 : decode cX5_commonOf 0 = .ok (.iload_n 2, 1) := by decide +kernel
theorem dX5_commonOf_1 : decode cX5_commonOf 1 = .ok (.ifCond .ne 7, 3) := by decide +kernel
theorem dX5_commonOf_4 : decode cX5_commonOf 4 = .ok (.iconst 0, 1) := by decide +kernel
theorem dX5_commonOf_5 : decode cX5_commonOf 5 = .ok (.goto 12, 3) := by decide +kernel
theorem dX5_commonOf_8 : decode cX5_commonOf 8 = .ok (.iload_n 2, 1) := by decide +kernel
theorem dX5_commonOf_9 : decode cX5_commonOf 9 = .ok (.lload_n 0, 1) := by decide +kernel
theorem dX5_commonOf_10 : decode cX5_commonOf 10 = .ok (.iload_n 2, 1) := by decide +kernel
theorem dX5_commonOf_11 : decode cX5_commonOf 11 = .ok (.i2l, 1) := by decide +kernel
theorem dX5_commonOf_12 : decode cX5_commonOf 12 = .ok (.lrem, 1) := by decide +kernel
theorem dX5_commonOf_13 : decode cX5_commonOf 13 = .ok (.l2i, 1) := by decide +kernel
theorem dX5_commonOf_14 : decode cX5_commonOf 14 = .ok (.invokestatic 35, 3) := by decide +kernel
theorem dX5_commonOf_17 : decode cX5_commonOf 17 = .ok (.ireturn, 1) := by decide +kernel
set_option maxRecDepth 20000 in
theorem ggX5_isVoid_X5_of : GoodIn wsX5_isVoid wsX5_of := goodIn_r _ [5, 6, 10, 11, 12, 13, 14, 15, 16, 17, 18, 19, 20, 21, 22] (by decide +kernel) (by decide +kernel)
set_option maxRecDepth 20000 in
theorem gX5_isVoid_X5_of : GoodIn wsX5_isVoid (wsV RX5 26 RX5 yX5_of wsX5_of) := goodIn_app (goodIn_of _ (by decide +kernel)) ggX5_isVoid_X5_of
set_option maxRecDepth 20000 in
theorem ggX5_isVoid_X5_common : GoodIn wsX5_isVoid wsX5_common := goodIn_r _ [9] (by decide +kernel) (by decide +kernel)
set_option maxRecDepth 20000 in
theorem gX5_isVoid_X5_common : GoodIn wsX5_isVoid (va_wsS RX5 35 yX5_common wsX5_common) := goodIn_app (goodIn_of _ (by decide +kernel)) ggX5_isVoid_X5_common
theorem dX5_isVoid_0 : decode cX5_isVoid 0 = .ok (.aload_n 0, 1) := by decide +kernel
theorem dX5_isVoid_1 : decode cX5_isVoid 1 = .ok (.iload_n 1, 1) := by decide +kernel
theorem dX5_isVoid_2 : decode cX5_isVoid 2 = .ok (.iconst 1, 1) := by decide +kernel
theorem dX5_isVoid_3 : decode cX5_isVoid 3 = .ok (.invokevirtual 26, 3) := by decide +kernel
theorem dX5_isVoid_6 : decode cX5_isVoid 6 = .ok (.aload_n 0, 1) := by decide +kernel
theorem dX5_isVoid_7 : decode cX5_isVoid 7 = .ok (.iload_n 1, 1) := by decide +kernel
theorem dX5_isVoid_8 : decode cX5_isVoid 8 = .ok (.iconst 0, 1) := by decide +kernel
theorem dX5_isVoid_9 : decode cX5_isVoid 9 = .ok (.invokevirtual 26, 3) := by decide +kernel
theorem dX5_isVoid_12 : decode cX5_isVoid 12 = .ok (.aload_n 0, 1) := by decide +kernel
theorem dX5_isVoid_13 : decode cX5_isVoid 13 = .ok (.iload_n 1, 1) := by decide +kernel
theorem dX5_isVoid_14 : decode cX5_isVoid 14 = .ok (.iconst 2, 1) := by decide +kernel
theorem dX5_isVoid_15 : decode cX5_isVoid 15 = .ok (.invokevirtual 26, 3) := by decide +kernel
theorem dX5_isVoid_18 : decode cX5_isVoid 18 = .ok (.invokestatic 35, 3) := by decide +kernel
theorem dX5_isVoid_21 : decode cX5_isVoid 21 = .ok (.irem, 1) := by decide +kernel
theorem dX5_isVoid_22 : decode cX5_isVoid 22 = .ok (.ifCond .eq 7, 3) := by decide +kernel
theorem dX5_isVoid_25 : decode cX5_isVoid 25 = .ok (.iconst 1, 1) := by decide +kernel
theorem dX5_isVoid_26 : decode cX5_isVoid 26 = .ok (.goto 4, 3) := by decide +kernel
theorem dX5_isVoid_29 : decode cX5_isVoid 29 = .ok (.iconst 0, 1) := by decide +kernel
theorem dX5_isVoid_30 : decode cX5_isVoid 30 = .ok (.ireturn, 1) := by decide +kernel
set_option maxRecDepth 20000 in
theorem ggX5_modulus_X5_of : GoodIn wsX5_modulus wsX5_of := goodIn_r _ [5, 6, 10, 11, 12, 13, 14, 15, 16, 17, 18, 19, 20, 21, 22] (by decide +kernel) (by decide +kernel)
set_option maxRecDepth 20000 in
theorem gX5_modulus_X5_of : GoodIn wsX5_modulus (wsV RX5 26 RX5 yX5_of wsX5_of) := goodIn_app (goodIn_of _ (by decide +kernel)) ggX5_modulus_X5_of
set_option maxRecDepth 20000 in
theorem ggX5_modulus_X5_common : GoodIn wsX5_modulus wsX5_common := goodIn_r _ [9] (by decide +kernel) (by decide +kernel)
set_option maxRecDepth 20000 in
theorem gX5_modulus_X5_common : GoodIn wsX5_modulus (va_wsS RX5 35 yX5_common wsX5_common) := goodIn_app (goodIn_of _ (by decide +kernel)) ggX5_modulus_X5_common
theorem dX5_modulus_0 : decode cX5_modulus 0 = .ok (.aload_n 0, 1) := by decide +kernel
theorem dX5_modulus_1 : decode cX5_modulus 1 = .ok (.iload_n 1, 1) := by decide +kernel
theorem dX5_modulus_2 : decode cX5_modulus 2 = .ok (.iconst 2, 1) := by decide +kernel
theorem dX5_modulus_3 : decode cX5_modulus 3 = .ok (.invokevirtual 26, 3) := by decide +kernel
theorem dX5_modulus_6 : decode cX5_modulus 6 = .ok (.aload_n 0, 1) := by decide +kernel
theorem dX5_modulus_7 : decode cX5_modulus 7 = .ok (.iload_n 1, 1) := by decide +kernel
theorem dX5_modulus_8 : decode cX5_modulus 8 = .ok (.iconst 0, 1) := by decide +kernel
theorem dX5_modulus_9 : decode cX5_modulus 9 = .ok (.invokevirtual 26, 3) := by decide +kernel
theorem dX5_modulus_12 : decode cX5_modulus 12 = .ok (.aload_n 0, 1) := by decide +kernel
theorem dX5_modulus_13 : decode cX5_modulus 13 = .ok (.iload_n 1, 1) := by decide +kernel
theorem dX5_modulus_14 : decode cX5_modulus 14 = .ok (.iconst 2, 1) := by decide +kernel
theorem dX5_modulus_15 : decode cX5_modulus 15 = .ok (.invokevirtual 26, 3) := by decide +kernel
theorem dX5_modulus_18 : decode cX5_modulus 18 = .ok (.invokestatic 35, 3) := by decide +kernel
theorem dX5_modulus_21 : decode cX5_modulus 21 = .ok (.idiv, 1) := by decide +kernel
theorem dX5_modulus_22 : decode cX5_modulus 22 = .ok (.ireturn, 1) := by decide +kernel
set_option maxRecDepth 20000 in
theorem ggX5_rest_X5_of : GoodIn wsX5_rest wsX5_of := goodIn_r _ [5, 6, 7, 8, 9, 10, 11, 12, 13, 14, 15, 16, 17, 18, 19] (by decide +kernel) (by decide +kernel)
set_option maxRecDepth 20000 in
theorem gX5_rest_X5_of : GoodIn wsX5_rest (wsV RX5 26 RX5 yX5_of wsX5_of) := goodIn_app (goodIn_of _ (by decide +kernel)) ggX5_rest_X5_of
theorem dX5_rest_0 : decode cX5_rest 0 = .ok (.iconst 0, 1) := by decide +kernel
theorem dX5_rest_1 : decode cX5_rest 1 = .ok (.istore_n 2, 1) := by decide +kernel
theorem dX5_rest_2 : decode cX5_rest 2 = .ok (.aload_n 0, 1) := by decide +kernel
theorem dX5_rest_3 : decode cX5_rest 3 = .ok (.iload_n 1, 1) := by decide +kernel
theorem dX5_rest_4 : decode cX5_rest 4 = .ok (.iconst 0, 1) := by decide +kernel
theorem dX5_rest_5 : decode cX5_rest 5 = .ok (.invokevirtual 26, 3) := by decide +kernel
theorem dX5_rest_8 : decode cX5_rest 8 = .ok (.iload_n 2, 1) := by decide +kernel
theorem dX5_rest_9 : decode cX5_rest 9 = .ok (.imul, 1) := by decide +kernel
theorem dX5_rest_10 : decode cX5_rest 10 = .ok (.aload_n 0, 1) := by decide +kernel
theorem dX5_rest_11 : decode cX5_rest 11 = .ok (.iload_n 1, 1) := by decide +kernel
theorem dX5_rest_12 : decode cX5_rest 12 = .ok (.iconst 1, 1) := by decide +kernel
theorem dX5_rest_13 : decode cX5_rest 13 = .ok (.invokevirtual 26, 3) := by decide +kernel
theorem dX5_rest_16 : decode cX5_rest 16 = .ok (.isub, 1) := by decide +kernel
theorem dX5_rest_17 : decode cX5_rest 17 = .ok (.aload_n 0, 1) := by decide +kernel
theorem dX5_rest_18 : decode cX5_rest 18 = .ok (.iload_n 1, 1) := by decide +kernel
theorem dX5_rest_19 : decode cX5_rest 19 = .ok (.iconst 2, 1) := by decide +kernel
theorem dX5_rest_20 : decode cX5_rest 20 = .ok (.invokevirtual 26, 3) := by decide +kernel
theorem dX5_rest_23 : decode cX5_rest 23 = .ok (.irem, 1) := by decide +kernel
theorem dX5_rest_24 : decode cX5_rest 24 = .ok (.ifCond .eq 9, 3) := by decide +kernel
theorem dX5_rest_27 : decode cX5_rest 27 = .ok (.iinc 2 1, 3) := by decide +kernel
theorem dX5_rest_30 : decode cX5_rest 30 = .ok (.goto (-28), 3) := by decide +kernel
theorem dX5_rest_33 : decode cX5_rest 33 = .ok (.iload_n 2, 1) := by decide +kernel
theorem dX5_rest_34 : decode cX5_rest 34 = .ok (.ireturn, 1) := by decide +kernel
set_option maxRecDepth 20000 in
theorem ggX5_goTogether_X5_isVoid : GoodIn wsX5_goTogether wsX5_isVoid := goodIn_r _ [5, 6, 7, 8, 4, 9, 10, 11, 12, 13, 22, 23, 24, 25, 26, 27, 28, 29, 30, 31, 32, 33, 34] (by decide +kernel) (by decide +kernel)
set_option maxRecDepth 20000 in
theorem gX5_goTogether_X5_isVoid : GoodIn wsX5_goTogether (wsV RX5 38 RX5 yX5_isVoid wsX5_isVoid) := goodIn_app (goodIn_of _ (by decide +kernel)) ggX5_goTogether_X5_isVoid
set_option maxRecDepth 20000 in
theorem ggX5_goTogether_X5_modulus : GoodIn wsX5_goTogether wsX5_modulus := goodIn_r _ [17, 6, 7, 8, 4, 9, 10, 11, 12, 13, 22, 23, 24, 25, 26, 27, 28, 29, 30, 31, 32, 33, 34] (by decide +kernel) (by decide +kernel)
set_option maxRecDepth 20000 in
theorem gX5_goTogether_X5_modulus : GoodIn wsX5_goTogether (wsV RX5 42 RX5 yX5_modulus wsX5_modulus) := goodIn_app (goodIn_of _ (by decide +kernel)) ggX5_goTogether_X5_modulus
set_option maxRecDepth 20000 in
theorem ggX5_goTogether_X5_common : GoodIn wsX5_goTogether wsX5_common := goodIn_r _ [13] (by decide +kernel) (by decide +kernel)
set_option maxRecDepth 20000 in
theorem gX5_goTogether_X5_common : GoodIn wsX5_goTogether (va_wsS RX5 35 yX5_common wsX5_common) := goodIn_app (goodIn_of _ (by decide +kernel)) ggX5_goTogether_X5_common
set_option maxRecDepth 20000 in
theorem ggX5_goTogether_X5_rest : GoodIn wsX5_goTogether wsX5_rest := goodIn_r _ [21, 6, 7, 8, 4, 9, 10, 22, 23, 24, 25, 26, 27, 28, 29, 30, 31, 32, 33, 34] (by decide +kernel) (by decide +kernel)
set_option maxRecDepth 20000 in
theorem gX5_goTogether_X5_rest : GoodIn wsX5_goTogether (wsV RX5 46 RX5 yX5_rest wsX5_rest) := goodIn_app (goodIn_of _ (by decide +kernel)) ggX5_goTogether_X5_rest
theorem dX5_goTogether_0 : decode cX5_goTogether 0 = .ok (.aload_n 0, 1) := by decide +kernel
theorem dX5_goTogether_1 : decode cX5_goTogether 1 = .ok (.iload_n 1, 1) := by decide +kernel
theorem dX5_goTogether_2 : decode cX5_goTogether 2 = .ok (.invokevirtual 38, 3) := by decide +kernel
theorem dX5_goTogether_5 : decode cX5_goTogether 5 = .ok (.ifCond .ne 11, 3) := by decide +kernel
theorem dX5_goTogether_8 : decode cX5_goTogether 8 = .ok (.aload_n 0, 1) := by decide +kernel
theorem dX5_goTogether_9 : decode cX5_goTogether 9 = .ok (.iload_n 2, 1) := by decide +kernel
theorem dX5_goTogether_10 : decode cX5_goTogether 10 = .ok (.invokevirtual 38, 3) := by decide +kernel
theorem dX5_goTogether_13 : decode cX5_goTogether 13 = .ok (.ifCond .eq 5, 3) := by decide +kernel
theorem dX5_goTogether_16 : decode cX5_goTogether 16 = .ok (.iconst 0, 1) := by decide +kernel
theorem dX5_goTogether_17 : decode cX5_goTogether 17 = .ok (.ireturn, 1) := by decide +kernel
theorem dX5_goTogether_18 : decode cX5_goTogether 18 = .ok (.aload_n 0, 1) := by decide +kernel
theorem dX5_goTogether_19 : decode cX5_goTogether 19 = .ok (.iload_n 1, 1) := by decide +kernel
theorem dX5_goTogether_20 : decode cX5_goTogether 20 = .ok (.invokevirtual 42, 3) := by decide +kernel
theorem dX5_goTogether_23 : decode cX5_goTogether 23 = .ok (.aload_n 0, 1) := by decide +kernel
theorem dX5_goTogether_24 : decode cX5_goTogether 24 = .ok (.iload_n 2, 1) := by decide +kernel
theorem dX5_goTogether_25 : decode cX5_goTogether 25 = .ok (.invokevirtual 42, 3) := by decide +kernel
theorem dX5_goTogether_28 : decode cX5_goTogether 28 = .ok (.invokestatic 35, 3) := by decide +kernel
theorem dX5_goTogether_31 : decode cX5_goTogether 31 = .ok (.istore_n 3, 1) := by decide +kernel
theorem dX5_goTogether_32 : decode cX5_goTogether 32 = .ok (.aload_n 0, 1) := by decide +kernel
theorem dX5_goTogether_33 : decode cX5_goTogether 33 = .ok (.iload_n 1, 1) := by decide +kernel
theorem dX5_goTogether_34 : decode cX5_goTogether 34 = .ok (.invokevirtual 46, 3) := by decide +kernel
theorem dX5_goTogether_37 : decode cX5_goTogether 37 = .ok (.iload_n 3, 1) := by decide +kernel
theorem dX5_goTogether_38 : decode cX5_goTogether 38 = .ok (.irem, 1) := by decide +kernel
theorem dX5_goTogether_39 : decode cX5_goTogether 39 = .ok (.aload_n 0, 1) := by decide +kernel
theorem dX5_goTogether_40 : decode cX5_goTogether 40 = .ok (.iload_n 2, 1) := by decide +kernel
theorem dX5_goTogether_41 : decode cX5_goTogether 41 = .ok (.invokevirtual 46, 3) := by decide +kernel
theorem dX5_goTogether_44 : decode cX5_goTogether 44 = .ok (.iload_n 3, 1) := by decide +kernel
theorem dX5_goTogether_45 : decode cX5_goTogether 45 = .ok (.irem, 1) := by decide +kernel
theorem dX5_goTogether_46 : decode cX5_goTogether 46 = .ok (.if_icmp .ne 7, 3) := by decide +kernel
theorem dX5_goTogether_49 : decode cX5_goTogether 49 = .ok (.iconst 1, 1) := by decide +kernel
theorem dX5_goTogether_50 : decode cX5_goTogether 50 = .ok (.goto 4, 3) := by decide +kernel
theorem dX5_goTogether_53 : decode cX5_goTogether 53 = .ok (.iconst 0, 1) := by decide +kernel
theorem dX5_goTogether_54 : decode cX5_goTogether 54 = .ok (.ireturn, 1) := by decide +kernel
set_option maxRecDepth 20000 in
theorem ggX5_against_X5_isOn : GoodIn wsX5_against wsX5_isOn := goodIn_r _ [6, 7, 8, 9, 5, 10, 1, 30, 31, 32, 33, 34, 35, 36, 37, 38, 39, 40, 41, 42] (by decide +kernel) (by decide +kernel)
set_option maxRecDepth 20000 in
theorem gX5_against_X5_isOn : GoodIn wsX5_against (wsV RX5 49 RX5 yX5_isOn wsX5_isOn) := goodIn_app (goodIn_of _ (by decide +kernel)) ggX5_against_X5_isOn
set_option maxRecDepth 20000 in
theorem ggX5_against_X5_goTogether : GoodIn wsX5_against wsX5_goTogether := goodIn_r _ [14, 15, 16, 17, 5, 18, 7, 8, 9, 10, 1, 19, 20, 21, 22, 23, 24, 25, 26, 27, 28, 29, 30, 31, 32, 33, 34, 35, 36, 37, 38, 39, 40, 41, 42] (by decide +kernel) (by decide +kernel)
set_option maxRecDepth 20000 in
theorem gX5_against_X5_goTogether : GoodIn wsX5_against (wsV RX5 52 RX5 yX5_goTogether wsX5_goTogether) := goodIn_app (goodIn_of _ (by decide +kernel)) ggX5_against_X5_goTogether
theorem dX5_against_0 : decode cX5_against 0 = .ok (.iconst 0, 1) := by decide +kernel
theorem dX5_against_1 : decode cX5_against 1 = .ok (.istore_n 2, 1) := by decide +kernel
theorem dX5_against_2 : decode cX5_against 2 = .ok (.iconst 0, 1) := by decide +kernel
theorem dX5_against_3 : decode cX5_against 3 = .ok (.istore_n 3, 1) := by decide +kernel
theorem dX5_against_4 : decode cX5_against 4 = .ok (.iload_n 3, 1) := by decide +kernel
theorem dX5_against_5 : decode cX5_against 5 = .ok (.aload_n 0, 1) := by decide +kernel
theorem dX5_against_6 : decode cX5_against 6 = .ok (.getfield 7, 3) := by decide +kernel
theorem dX5_against_9 : decode cX5_against 9 = .ok (.iconst 0, 1) := by decide +kernel
theorem dX5_against_10 : decode cX5_against 10 = .ok (.iaload, 1) := by decide +kernel
theorem dX5_against_11 : decode cX5_against 11 = .ok (.if_icmp .ge 39, 3) := by decide +kernel
theorem dX5_against_14 : decode cX5_against 14 = .ok (.iload_n 2, 1) := by decide +kernel
theorem dX5_against_15 : decode cX5_against 15 = .ok (.iload_n 3, 1) := by decide +kernel
theorem dX5_against_16 : decode cX5_against 16 = .ok (.iload_n 1, 1) := by decide +kernel
theorem dX5_against_17 : decode cX5_against 17 = .ok (.if_icmp .eq 24, 3) := by decide +kernel
theorem dX5_against_20 : decode cX5_against 20 = .ok (.aload_n 0, 1) := by decide +kernel
theorem dX5_against_21 : decode cX5_against 21 = .ok (.iload_n 3, 1) := by decide +kernel
theorem dX5_against_22 : decode cX5_against 22 = .ok (.invokevirtual 49, 3) := by decide +kernel
theorem dX5_against_25 : decode cX5_against 25 = .ok (.ifCond .eq 16, 3) := by decide +kernel
theorem dX5_against_28 : decode cX5_against 28 = .ok (.aload_n 0, 1) := by decide +kernel
theorem dX5_against_29 : decode cX5_against 29 = .ok (.iload_n 1, 1) := by decide +kernel
theorem dX5_against_30 : decode cX5_against 30 = .ok (.iload_n 3, 1) := by decide +kernel
theorem dX5_against_31 : decode cX5_against 31 = .ok (.invokevirtual 52, 3) := by decide +kernel
theorem dX5_against_34 : decode cX5_against 34 = .ok (.ifCond .ne 7, 3) := by decide +kernel
theorem dX5_against_37 : decode cX5_against 37 = .ok (.iconst 1, 1) := by decide +kernel
theorem dX5_against_38 : decode cX5_against 38 = .ok (.goto 4, 3) := by decide +kernel
theorem dX5_against_41 : decode cX5_against 41 = .ok (.iconst 0, 1) := by decide +kernel
theorem dX5_against_42 : decode cX5_against 42 = .ok (.iadd, 1) := by decide +kernel
theorem dX5_against_43 : decode cX5_against 43 = .ok (.istore_n 2, 1) := by decide +kernel
theorem dX5_against_44 : decode cX5_against 44 = .ok (.iinc 3 1, 3) := by decide +kernel
theorem dX5_against_47 : decode cX5_against 47 = .ok (.goto (-43), 3) := by decide +kernel
theorem dX5_against_50 : decode cX5_against 50 = .ok (.iload_n 2, 1) := by decide +kernel
theorem dX5_against_51 : decode cX5_against 51 = .ok (.ireturn, 1) := by decide +kernel
set_option maxRecDepth 20000 in
theorem ggX5_onSet_X5_isOn : GoodIn wsX5_onSet wsX5_isOn := goodIn_r _ [6, 7, 8, 9, 5, 10, 1, 11, 12, 13, 14, 15, 16, 17, 18, 19, 20, 21, 22, 23] (by decide +kernel) (by decide +kernel)
set_option maxRecDepth 20000 in
theorem gX5_onSet_X5_isOn : GoodIn wsX5_onSet (wsV RX5 49 RX5 yX5_isOn wsX5_isOn) := goodIn_app (goodIn_of _ (by decide +kernel)) ggX5_onSet_X5_isOn
theorem dX5_onSet_0 : decode cX5_onSet 0 = .ok (.iconst 0, 1) := by decide +kernel
theorem dX5_onSet_1 : decode cX5_onSet 1 = .ok (.istore_n 1, 1) := by decide +kernel
theorem dX5_onSet_2 : decode cX5_onSet 2 = .ok (.iconst 0, 1) := by decide +kernel
theorem dX5_onSet_3 : decode cX5_onSet 3 = .ok (.istore_n 2, 1) := by decide +kernel
theorem dX5_onSet_4 : decode cX5_onSet 4 = .ok (.iload_n 2, 1) := by decide +kernel
theorem dX5_onSet_5 : decode cX5_onSet 5 = .ok (.aload_n 0, 1) := by decide +kernel
theorem dX5_onSet_6 : decode cX5_onSet 6 = .ok (.getfield 7, 3) := by decide +kernel
theorem dX5_onSet_9 : decode cX5_onSet 9 = .ok (.iconst 0, 1) := by decide +kernel
theorem dX5_onSet_10 : decode cX5_onSet 10 = .ok (.iaload, 1) := by decide +kernel
theorem dX5_onSet_11 : decode cX5_onSet 11 = .ok (.if_icmp .ge 27, 3) := by decide +kernel
theorem dX5_onSet_14 : decode cX5_onSet 14 = .ok (.iload_n 1, 1) := by decide +kernel
theorem dX5_onSet_15 : decode cX5_onSet 15 = .ok (.aload_n 0, 1) := by decide +kernel
theorem dX5_onSet_16 : decode cX5_onSet 16 = .ok (.iload_n 2, 1) := by decide +kernel
theorem dX5_onSet_17 : decode cX5_onSet 17 = .ok (.invokevirtual 49, 3) := by decide +kernel
theorem dX5_onSet_20 : decode cX5_onSet 20 = .ok (.ifCond .eq 9, 3) := by decide +kernel
theorem dX5_onSet_23 : decode cX5_onSet 23 = .ok (.iconst 1, 1) := by decide +kernel
theorem dX5_onSet_24 : decode cX5_onSet 24 = .ok (.iload_n 2, 1) := by decide +kernel
theorem dX5_onSet_25 : decode cX5_onSet 25 = .ok (.ishl, 1) := by decide +kernel
theorem dX5_onSet_26 : decode cX5_onSet 26 = .ok (.goto 4, 3) := by decide +kernel
theorem dX5_onSet_29 : decode cX5_onSet 29 = .ok (.iconst 0, 1) := by decide +kernel
theorem dX5_onSet_30 : decode cX5_onSet 30 = .ok (.ior, 1) := by decide +kernel
theorem dX5_onSet_31 : decode cX5_onSet 31 = .ok (.istore_n 1, 1) := by decide +kernel
theorem dX5_onSet_32 : decode cX5_onSet 32 = .ok (.iinc 2 1, 3) := by decide +kernel
theorem dX5_onSet_35 : decode cX5_onSet 35 = .ok (.goto (-31), 3) := by decide +kernel
theorem dX5_onSet_38 : decode cX5_onSet 38 = .ok (.iload_n 1, 1) := by decide +kernel
theorem dX5_onSet_39 : decode cX5_onSet 39 = .ok (.ireturn, 1) := by decide +kernel
set_option maxRecDepth 20000 in
theorem ggX5_isPossible_X5_goTogether : GoodIn wsX5_isPossible wsX5_goTogether := goodIn_r _ [6, 7, 8, 9, 5, 10, 11, 12, 13, 14, 1, 15, 16, 17, 18, 19, 20, 21, 22, 23, 24, 25, 26, 27, 28, 29, 30, 31, 32, 33, 34, 35, 36, 37, 38] (by decide +kernel) (by decide +kernel)
set_option maxRecDepth 20000 in
theorem gX5_isPossible_X5_goTogether : GoodIn wsX5_isPossible (wsV RX5 52 RX5 yX5_goTogether wsX5_goTogether) := goodIn_app (goodIn_of _ (by decide +kernel)) ggX5_isPossible_X5_goTogether
theorem dX5_isPossible_0 : decode cX5_isPossible 0 = .ok (.iconst 1, 1) := by decide +kernel
theorem dX5_isPossible_1 : decode cX5_isPossible 1 = .ok (.istore_n 2, 1) := by decide +kernel
theorem dX5_isPossible_2 : decode cX5_isPossible 2 = .ok (.iconst 0, 1) := by decide +kernel
theorem dX5_isPossible_3 : decode cX5_isPossible 3 = .ok (.istore_n 3, 1) := by decide +kernel
theorem dX5_isPossible_4 : decode cX5_isPossible 4 = .ok (.iload_n 3, 1) := by decide +kernel
theorem dX5_isPossible_5 : decode cX5_isPossible 5 = .ok (.aload_n 0, 1) := by decide +kernel
theorem dX5_isPossible_6 : decode cX5_isPossible 6 = .ok (.getfield 7, 3) := by decide +kernel
theorem dX5_isPossible_9 : decode cX5_isPossible 9 = .ok (.iconst 0, 1) := by decide +kernel
theorem dX5_isPossible_10 : decode cX5_isPossible 10 = .ok (.iaload, 1) := by decide +kernel
theorem dX5_isPossible_11 : decode cX5_isPossible 11 = .ok (.if_icmp .gt 75, 3) := by decide +kernel
theorem dX5_isPossible_14 : decode cX5_isPossible 14 = .ok (.iconst 0, 1) := by decide +kernel
theorem dX5_isPossible_15 : decode cX5_isPossible 15 = .ok (.istore 4, 2) := by decide +kernel
theorem dX5_isPossible_17 : decode cX5_isPossible 17 = .ok (.iload 4, 2) := by decide +kernel
theorem dX5_isPossible_19 : decode cX5_isPossible 19 = .ok (.iload_n 3, 1) := by decide +kernel
theorem dX5_isPossible_20 : decode cX5_isPossible 20 = .ok (.if_icmp .gt 60, 3) := by decide +kernel
theorem dX5_isPossible_23 : decode cX5_isPossible 23 = .ok (.iload_n 1, 1) := by decide +kernel
theorem dX5_isPossible_24 : decode cX5_isPossible 24 = .ok (.iload_n 3, 1) := by decide +kernel
theorem dX5_isPossible_25 : decode cX5_isPossible 25 = .ok (.ishr, 1) := by decide +kernel
theorem dX5_isPossible_26 : decode cX5_isPossible 26 = .ok (.iconst 1, 1) := by decide +kernel
theorem dX5_isPossible_27 : decode cX5_isPossible 27 = .ok (.iand, 1) := by decide +kernel
theorem dX5_isPossible_28 : decode cX5_isPossible 28 = .ok (.iconst 1, 1) := by decide +kernel
theorem dX5_isPossible_29 : decode cX5_isPossible 29 = .ok (.if_icmp .ne 17, 3) := by decide +kernel
theorem dX5_isPossible_32 : decode cX5_isPossible 32 = .ok (.iload_n 1, 1) := by decide +kernel
theorem dX5_isPossible_33 : decode cX5_isPossible 33 = .ok (.iload 4, 2) := by decide +kernel
theorem dX5_isPossible_35 : decode cX5_isPossible 35 = .ok (.ishr, 1) := by decide +kernel
theorem dX5_isPossible_36 : decode cX5_isPossible 36 = .ok (.iconst 1, 1) := by decide +kernel
theorem dX5_isPossible_37 : decode cX5_isPossible 37 = .ok (.iand, 1) := by decide +kernel
theorem dX5_isPossible_38 : decode cX5_isPossible 38 = .ok (.iconst 1, 1) := by decide +kernel
theorem dX5_isPossible_39 : decode cX5_isPossible 39 = .ok (.if_icmp .ne 7, 3) := by decide +kernel
theorem dX5_isPossible_42 : decode cX5_isPossible 42 = .ok (.iconst 1, 1) := by decide +kernel
theorem dX5_isPossible_43 : decode cX5_isPossible 43 = .ok (.goto 4, 3) := by decide +kernel
theorem dX5_isPossible_46 : decode cX5_isPossible 46 = .ok (.iconst 0, 1) := by decide +kernel
theorem dX5_isPossible_47 : decode cX5_isPossible 47 = .ok (.istore 5, 2) := by decide +kernel
theorem dX5_isPossible_49 : decode cX5_isPossible 49 = .ok (.iload_n 2, 1) := by decide +kernel
theorem dX5_isPossible_50 : decode cX5_isPossible 50 = .ok (.ifCond .eq 22, 3) := by decide +kernel
theorem dX5_isPossible_53 : decode cX5_isPossible 53 = .ok (.iload 5, 2) := by decide +kernel
theorem dX5_isPossible_55 : decode cX5_isPossible 55 = .ok (.ifCond .eq 13, 3) := by decide +kernel
theorem dX5_isPossible_58 : decode cX5_isPossible 58 = .ok (.aload_n 0, 1) := by decide +kernel
theorem dX5_isPossible_59 : decode cX5_isPossible 59 = .ok (.iload_n 3, 1) := by decide +kernel
theorem dX5_isPossible_60 : decode cX5_isPossible 60 = .ok (.iload 4, 2) := by decide +kernel
theorem dX5_isPossible_62 : decode cX5_isPossible 62 = .ok (.invokevirtual 52, 3) := by decide +kernel
theorem dX5_isPossible_65 : decode cX5_isPossible 65 = .ok (.ifCond .eq 7, 3) := by decide +kernel
theorem dX5_isPossible_68 : decode cX5_isPossible 68 = .ok (.iconst 1, 1) := by decide +kernel
theorem dX5_isPossible_69 : decode cX5_isPossible 69 = .ok (.goto 4, 3) := by decide +kernel
theorem dX5_isPossible_72 : decode cX5_isPossible 72 = .ok (.iconst 0, 1) := by decide +kernel
theorem dX5_isPossible_73 : decode cX5_isPossible 73 = .ok (.istore_n 2, 1) := by decide +kernel
theorem dX5_isPossible_74 : decode cX5_isPossible 74 = .ok (.iinc 4 1, 3) := by decide +kernel
theorem dX5_isPossible_77 : decode cX5_isPossible 77 = .ok (.goto (-60), 3) := by decide +kernel
theorem dX5_isPossible_80 : decode cX5_isPossible 80 = .ok (.iinc 3 1, 3) := by decide +kernel
theorem dX5_isPossible_83 : decode cX5_isPossible 83 = .ok (.goto (-79), 3) := by decide +kernel
theorem dX5_isPossible_86 : decode cX5_isPossible 86 = .ok (.iload_n 2, 1) := by decide +kernel
theorem dX5_isPossible_87 : decode cX5_isPossible 87 = .ok (.ireturn, 1) := by decide +kernel
set_option maxRecDepth 20000 in
theorem ggX5_joinOne_X5_modulus : GoodIn wsX5_joinOne wsX5_modulus := goodIn_r _ [7, 8, 9, 10, 6, 11, 12, 13, 14, 15, 23, 24, 25, 26, 27, 28, 29, 30, 31, 32, 33, 34, 35] (by decide +kernel) (by decide +kernel)
set_option maxRecDepth 20000 in
theorem gX5_joinOne_X5_modulus : GoodIn wsX5_joinOne (wsV RX5 42 RX5 yX5_modulus wsX5_modulus) := goodIn_app (goodIn_of _ (by decide +kernel)) ggX5_joinOne_X5_modulus
set_option maxRecDepth 20000 in
theorem ggX5_joinOne_X5_rest : GoodIn wsX5_joinOne wsX5_rest := goodIn_r _ [19, 8, 9, 10, 6, 11, 12, 23, 24, 25, 26, 27, 28, 29, 30, 31, 32, 33, 34, 35] (by decide +kernel) (by decide +kernel)
set_option maxRecDepth 20000 in
theorem gX5_joinOne_X5_rest : GoodIn wsX5_joinOne (wsV RX5 46 RX5 yX5_rest wsX5_rest) := goodIn_app (goodIn_of _ (by decide +kernel)) ggX5_joinOne_X5_rest
set_option maxRecDepth 20000 in
theorem ggX5_joinOne_X5_commonOf : GoodIn wsX5_joinOne wsX5_commonOf := goodIn_r _ [22, 13, 14, 6, 15] (by decide +kernel) (by decide +kernel)
set_option maxRecDepth 20000 in
theorem gX5_joinOne_X5_commonOf : GoodIn wsX5_joinOne (va_wsS RX5 60 yX5_commonOf wsX5_commonOf) := goodIn_app (goodIn_of _ (by decide +kernel)) ggX5_joinOne_X5_commonOf
theorem dX5_joinOne_0 : decode cX5_joinOne 0 = .ok (.aload_n 0, 1) := by decide +kernel
theorem dX5_joinOne_1 : decode cX5_joinOne 1 = .ok (.iload_n 1, 1) := by decide +kernel
theorem dX5_joinOne_2 : decode cX5_joinOne 2 = .ok (.invokevirtual 42, 3) := by decide +kernel
theorem dX5_joinOne_5 : decode cX5_joinOne 5 = .ok (.istore_n 2, 1) := by decide +kernel
theorem dX5_joinOne_6 : decode cX5_joinOne 6 = .ok (.aload_n 0, 1) := by decide +kernel
theorem dX5_joinOne_7 : decode cX5_joinOne 7 = .ok (.iload_n 1, 1) := by decide +kernel
theorem dX5_joinOne_8 : decode cX5_joinOne 8 = .ok (.invokevirtual 46, 3) := by decide +kernel
theorem dX5_joinOne_11 : decode cX5_joinOne 11 = .ok (.istore_n 3, 1) := by decide +kernel
theorem dX5_joinOne_12 : decode cX5_joinOne 12 = .ok (.aload_n 0, 1) := by decide +kernel
theorem dX5_joinOne_13 : decode cX5_joinOne 13 = .ok (.getfield 56, 3) := by decide +kernel
theorem dX5_joinOne_16 : decode cX5_joinOne 16 = .ok (.iload_n 2, 1) := by decide +kernel
theorem dX5_joinOne_17 : decode cX5_joinOne 17 = .ok (.invokestatic 60, 3) := by decide +kernel
theorem dX5_joinOne_20 : decode cX5_joinOne 20 = .ok (.istore 4, 2) := by decide +kernel
theorem dX5_joinOne_22 : decode cX5_joinOne 22 = .ok (.aload_n 0, 1) := by decide +kernel
theorem dX5_joinOne_23 : decode cX5_joinOne 23 = .ok (.getfield 64, 3) := by decide +kernel
theorem dX5_joinOne_26 : decode cX5_joinOne 26 = .ok (.lstore 5, 2) := by decide +kernel
theorem dX5_joinOne_28 : decode cX5_joinOne 28 = .ok (.lload 5, 2) := by decide +kernel
theorem dX5_joinOne_30 : decode cX5_joinOne 30 = .ok (.iload_n 2, 1) := by decide +kernel
theorem dX5_joinOne_31 : decode cX5_joinOne 31 = .ok (.i2l, 1) := by decide +kernel
theorem dX5_joinOne_32 : decode cX5_joinOne 32 = .ok (.lrem, 1) := by decide +kernel
theorem dX5_joinOne_33 : decode cX5_joinOne 33 = .ok (.iload_n 3, 1) := by decide +kernel
theorem dX5_joinOne_34 : decode cX5_joinOne 34 = .ok (.i2l, 1) := by decide +kernel
theorem dX5_joinOne_35 : decode cX5_joinOne 35 = .ok (.lcmp, 1) := by decide +kernel
theorem dX5_joinOne_36 : decode cX5_joinOne 36 = .ok (.ifCond .eq 15, 3) := by decide +kernel
theorem dX5_joinOne_39 : decode cX5_joinOne 39 = .ok (.lload 5, 2) := by decide +kernel
theorem dX5_joinOne_41 : decode cX5_joinOne 41 = .ok (.aload_n 0, 1) := by decide +kernel
theorem dX5_joinOne_42 : decode cX5_joinOne 42 = .ok (.getfield 56, 3) := by decide +kernel
theorem dX5_joinOne_45 : decode cX5_joinOne 45 = .ok (.ladd, 1) := by decide +kernel
theorem dX5_joinOne_46 : decode cX5_joinOne 46 = .ok (.lstore 5, 2) := by decide +kernel
theorem dX5_joinOne_48 : decode cX5_joinOne 48 = .ok (.goto (-20), 3) := by decide +kernel
theorem dX5_joinOne_51 : decode cX5_joinOne 51 = .ok (.aload_n 0, 1) := by decide +kernel
theorem dX5_joinOne_52 : decode cX5_joinOne 52 = .ok (.lload 5, 2) := by decide +kernel
theorem dX5_joinOne_54 : decode cX5_joinOne 54 = .ok (.putfield 64, 3) := by decide +kernel
theorem dX5_joinOne_57 : decode cX5_joinOne 57 = .ok (.aload_n 0, 1) := by decide +kernel
theorem dX5_joinOne_58 : decode cX5_joinOne 58 = .ok (.aload_n 0, 1) := by decide +kernel
theorem dX5_joinOne_59 : decode cX5_joinOne 59 = .ok (.getfield 56, 3) := by decide +kernel
theorem dX5_joinOne_62 : decode cX5_joinOne 62 = .ok (.iload 4, 2) := by decide +kernel
theorem dX5_joinOne_64 : decode cX5_joinOne 64 = .ok (.i2l, 1) := by decide +kernel
theorem dX5_joinOne_65 : decode cX5_joinOne 65 = .ok (.ldiv, 1) := by decide +kernel
theorem dX5_joinOne_66 : decode cX5_joinOne 66 = .ok (.iload_n 2, 1) := by decide +kernel
theorem dX5_joinOne_67 : decode cX5_joinOne 67 = .ok (.i2l, 1) := by decide +kernel
theorem dX5_joinOne_68 : decode cX5_joinOne 68 = .ok (.lmul, 1) := by decide +kernel
theorem dX5_joinOne_69 : decode cX5_joinOne 69 = .ok (.putfield 56, 3) := by decide +kernel
theorem dX5_joinOne_72 : decode cX5_joinOne 72 = .ok (.return_, 1) := by decide +kernel
set_option maxRecDepth 20000 in
theorem ggX5_join_X5_isPossible : GoodIn wsX5_join wsX5_isPossible := goodIn_r _ [8, 3, 9, 10, 11, 7, 12, 13, 14, 15, 16, 17, 18, 19, 20, 21, 22, 23, 24, 25, 26, 27, 28, 29, 30, 31, 39, 40, 41, 42, 43, 44, 45, 46, 47, 48, 49, 50, 51] (by decide +kernel) (by decide +kernel)
set_option maxRecDepth 20000 in
theorem gX5_join_X5_isPossible : GoodIn wsX5_join (wsV RX5 67 RX5 yX5_isPossible wsX5_isPossible) := goodIn_app (goodIn_of _ (by decide +kernel)) ggX5_join_X5_isPossible
set_option maxRecDepth 20000 in
theorem ggX5_join_X5_joinOne : GoodIn wsX5_join wsX5_joinOne := goodIn_r _ [35, 1, 2, 24, 25, 26, 7, 27, 17, 18, 19, 20, 3, 21, 22, 23, 28, 29, 30, 31, 36, 37, 38, 39, 40, 41, 42, 43, 44, 45, 46, 47, 48, 49, 50, 51] (by decide +kernel) (by decide +kernel)
set_option maxRecDepth 20000 in
theorem gX5_join_X5_joinOne : GoodIn wsX5_join (wsV RX5 70 RX5 yX5_joinOne wsX5_joinOne) := goodIn_app (goodIn_of _ (by decide +kernel)) ggX5_join_X5_joinOne
theorem dX5_join_0 : decode cX5_join 0 = .ok (.aload_n 0, 1) := by decide +kernel
theorem dX5_join_1 : decode cX5_join 1 = .ok (.lconst 1, 1) := by decide +kernel
theorem dX5_join_2 : decode cX5_join 2 = .ok (.putfield 56, 3) := by decide +kernel
theorem dX5_join_5 : decode cX5_join 5 = .ok (.aload_n 0, 1) := by decide +kernel
theorem dX5_join_6 : decode cX5_join 6 = .ok (.lconst 0, 1) := by decide +kernel
theorem dX5_join_7 : decode cX5_join 7 = .ok (.putfield 64, 3) := by decide +kernel
theorem dX5_join_10 : decode cX5_join 10 = .ok (.aload_n 0, 1) := by decide +kernel
theorem dX5_join_11 : decode cX5_join 11 = .ok (.iload_n 1, 1) := by decide +kernel
theorem dX5_join_12 : decode cX5_join 12 = .ok (.invokevirtual 67, 3) := by decide +kernel
theorem dX5_join_15 : decode cX5_join 15 = .ok (.ifCond .ne 5, 3) := by decide +kernel
theorem dX5_join_18 : decode cX5_join 18 = .ok (.iconst 0, 1) := by decide +kernel
theorem dX5_join_19 : decode cX5_join 19 = .ok (.ireturn, 1) := by decide +kernel
theorem dX5_join_20 : decode cX5_join 20 = .ok (.iconst 0, 1) := by decide +kernel
theorem dX5_join_21 : decode cX5_join 21 = .ok (.istore_n 2, 1) := by decide +kernel
theorem dX5_join_22 : decode cX5_join 22 = .ok (.iload_n 2, 1) := by decide +kernel
theorem dX5_join_23 : decode cX5_join 23 = .ok (.aload_n 0, 1) := by decide +kernel
theorem dX5_join_24 : decode cX5_join 24 = .ok (.getfield 7, 3) := by decide +kernel
theorem dX5_join_27 : decode cX5_join 27 = .ok (.iconst 0, 1) := by decide +kernel
theorem dX5_join_28 : decode cX5_join 28 = .ok (.iaload, 1) := by decide +kernel
theorem dX5_join_29 : decode cX5_join 29 = .ok (.if_icmp .gt 23, 3) := by decide +kernel
theorem dX5_join_32 : decode cX5_join 32 = .ok (.iload_n 1, 1) := by decide +kernel
theorem dX5_join_33 : decode cX5_join 33 = .ok (.iload_n 2, 1) := by decide +kernel
theorem dX5_join_34 : decode cX5_join 34 = .ok (.ishr, 1) := by decide +kernel
theorem dX5_join_35 : decode cX5_join 35 = .ok (.iconst 1, 1) := by decide +kernel
theorem dX5_join_36 : decode cX5_join 36 = .ok (.iand, 1) := by decide +kernel
theorem dX5_join_37 : decode cX5_join 37 = .ok (.iconst 1, 1) := by decide +kernel
theorem dX5_join_38 : decode cX5_join 38 = .ok (.if_icmp .ne 8, 3) := by decide +kernel
theorem dX5_join_41 : decode cX5_join 41 = .ok (.aload_n 0, 1) := by decide +kernel
theorem dX5_join_42 : decode cX5_join 42 = .ok (.iload_n 2, 1) := by decide +kernel
theorem dX5_join_43 : decode cX5_join 43 = .ok (.invokevirtual 70, 3) := by decide +kernel
theorem dX5_join_46 : decode cX5_join 46 = .ok (.iinc 2 1, 3) := by decide +kernel
theorem dX5_join_49 : decode cX5_join 49 = .ok (.goto (-27), 3) := by decide +kernel
theorem dX5_join_52 : decode cX5_join 52 = .ok (.iconst 1, 1) := by decide +kernel
theorem dX5_join_53 : decode cX5_join 53 = .ok (.ireturn, 1) := by decide +kernel
set_option maxRecDepth 20000 in
theorem ggX5_isTooGreat_X5_isVoid : GoodIn wsX5_isTooGreat wsX5_isVoid := goodIn_r _ [7, 8, 9, 10, 6, 11, 1, 12, 13, 14, 22, 23, 24, 25, 26, 27, 28, 29, 30, 31, 32, 33, 34] (by decide +kernel) (by decide +kernel)
set_option maxRecDepth 20000 in
theorem gX5_isTooGreat_X5_isVoid : GoodIn wsX5_isTooGreat (wsV RX5 38 RX5 yX5_isVoid wsX5_isVoid) := goodIn_app (goodIn_of _ (by decide +kernel)) ggX5_isTooGreat_X5_isVoid
set_option maxRecDepth 20000 in
theorem ggX5_isTooGreat_X5_modulus : GoodIn wsX5_isTooGreat wsX5_modulus := goodIn_r _ [18, 8, 9, 10, 6, 11, 1, 12, 13, 14, 22, 23, 24, 25, 26, 27, 28, 29, 30, 31, 32, 33, 34] (by decide +kernel) (by decide +kernel)
set_option maxRecDepth 20000 in
theorem gX5_isTooGreat_X5_modulus : GoodIn wsX5_isTooGreat (wsV RX5 42 RX5 yX5_modulus wsX5_modulus) := goodIn_app (goodIn_of _ (by decide +kernel)) ggX5_isTooGreat_X5_modulus
set_option maxRecDepth 20000 in
theorem ggX5_isTooGreat_X5_commonOf : GoodIn wsX5_isTooGreat wsX5_commonOf := goodIn_r _ [21, 12, 13, 6, 14] (by decide +kernel) (by decide +kernel)
set_option maxRecDepth 20000 in
theorem gX5_isTooGreat_X5_commonOf : GoodIn wsX5_isTooGreat (va_wsS RX5 60 yX5_commonOf wsX5_commonOf) := goodIn_app (goodIn_of _ (by decide +kernel)) ggX5_isTooGreat_X5_commonOf
theorem dX5_isTooGreat_0 : decode cX5_isTooGreat 0 = .ok (.lconst 1, 1) := by decide +kernel
theorem dX5_isTooGreat_1 : decode cX5_isTooGreat 1 = .ok (.lstore_n 2, 1) := by decide +kernel
theorem dX5_isTooGreat_2 : decode cX5_isTooGreat 2 = .ok (.iconst 0, 1) := by decide +kernel
theorem dX5_isTooGreat_3 : decode cX5_isTooGreat 3 = .ok (.istore 4, 2) := by decide +kernel
theorem dX5_isTooGreat_5 : decode cX5_isTooGreat 5 = .ok (.iload 4, 2) := by decide +kernel
theorem dX5_isTooGreat_7 : decode cX5_isTooGreat 7 = .ok (.aload_n 0, 1) := by decide +kernel
theorem dX5_isTooGreat_8 : decode cX5_isTooGreat 8 = .ok (.getfield 7, 3) := by decide +kernel
theorem dX5_isTooGreat_11 : decode cX5_isTooGreat 11 = .ok (.iconst 0, 1) := by decide +kernel
theorem dX5_isTooGreat_12 : decode cX5_isTooGreat 12 = .ok (.iaload, 1) := by decide +kernel
theorem dX5_isTooGreat_13 : decode cX5_isTooGreat 13 = .ok (.if_icmp .gt 58, 3) := by decide +kernel
theorem dX5_isTooGreat_16 : decode cX5_isTooGreat 16 = .ok (.iload_n 1, 1) := by decide +kernel
theorem dX5_isTooGreat_17 : decode cX5_isTooGreat 17 = .ok (.iload 4, 2) := by decide +kernel
theorem dX5_isTooGreat_19 : decode cX5_isTooGreat 19 = .ok (.ishr, 1) := by decide +kernel
theorem dX5_isTooGreat_20 : decode cX5_isTooGreat 20 = .ok (.iconst 1, 1) := by decide +kernel
theorem dX5_isTooGreat_21 : decode cX5_isTooGreat 21 = .ok (.iand, 1) := by decide +kernel
theorem dX5_isTooGreat_22 : decode cX5_isTooGreat 22 = .ok (.iconst 1, 1) := by decide +kernel
theorem dX5_isTooGreat_23 : decode cX5_isTooGreat 23 = .ok (.if_icmp .ne 42, 3) := by decide +kernel
theorem dX5_isTooGreat_26 : decode cX5_isTooGreat 26 = .ok (.aload_n 0, 1) := by decide +kernel
theorem dX5_isTooGreat_27 : decode cX5_isTooGreat 27 = .ok (.iload 4, 2) := by decide +kernel
theorem dX5_isTooGreat_29 : decode cX5_isTooGreat 29 = .ok (.invokevirtual 38, 3) := by decide +kernel
theorem dX5_isTooGreat_32 : decode cX5_isTooGreat 32 = .ok (.ifCond .ne 33, 3) := by decide +kernel
theorem dX5_isTooGreat_35 : decode cX5_isTooGreat 35 = .ok (.lload_n 2, 1) := by decide +kernel
theorem dX5_isTooGreat_36 : decode cX5_isTooGreat 36 = .ok (.ldc2_w 30, 3) := by decide +kernel
theorem dX5_isTooGreat_39 : decode cX5_isTooGreat 39 = .ok (.lcmp, 1) := by decide +kernel
theorem dX5_isTooGreat_40 : decode cX5_isTooGreat 40 = .ok (.ifCond .gt 25, 3) := by decide +kernel
theorem dX5_isTooGreat_43 : decode cX5_isTooGreat 43 = .ok (.lload_n 2, 1) := by decide +kernel
theorem dX5_isTooGreat_44 : decode cX5_isTooGreat 44 = .ok (.lload_n 2, 1) := by decide +kernel
theorem dX5_isTooGreat_45 : decode cX5_isTooGreat 45 = .ok (.aload_n 0, 1) := by decide +kernel
theorem dX5_isTooGreat_46 : decode cX5_isTooGreat 46 = .ok (.iload 4, 2) := by decide +kernel
theorem dX5_isTooGreat_48 : decode cX5_isTooGreat 48 = .ok (.invokevirtual 42, 3) := by decide +kernel
theorem dX5_isTooGreat_51 : decode cX5_isTooGreat 51 = .ok (.invokestatic 60, 3) := by decide +kernel
theorem dX5_isTooGreat_54 : decode cX5_isTooGreat 54 = .ok (.i2l, 1) := by decide +kernel
theorem dX5_isTooGreat_55 : decode cX5_isTooGreat 55 = .ok (.ldiv, 1) := by decide +kernel
theorem dX5_isTooGreat_56 : decode cX5_isTooGreat 56 = .ok (.aload_n 0, 1) := by decide +kernel
theorem dX5_isTooGreat_57 : decode cX5_isTooGreat 57 = .ok (.iload 4, 2) := by decide +kernel
theorem dX5_isTooGreat_59 : decode cX5_isTooGreat 59 = .ok (.invokevirtual 42, 3) := by decide +kernel
theorem dX5_isTooGreat_62 : decode cX5_isTooGreat 62 = .ok (.i2l, 1) := by decide +kernel
theorem dX5_isTooGreat_63 : decode cX5_isTooGreat 63 = .ok (.lmul, 1) := by decide +kernel
theorem dX5_isTooGreat_64 : decode cX5_isTooGreat 64 = .ok (.lstore_n 2, 1) := by decide +kernel
theorem dX5_isTooGreat_65 : decode cX5_isTooGreat 65 = .ok (.iinc 4 1, 3) := by decide +kernel
theorem dX5_isTooGreat_68 : decode cX5_isTooGreat 68 = .ok (.goto (-63), 3) := by decide +kernel
theorem dX5_isTooGreat_71 : decode cX5_isTooGreat 71 = .ok (.lload_n 2, 1) := by decide +kernel
theorem dX5_isTooGreat_72 : decode cX5_isTooGreat 72 = .ok (.ldc2_w 30, 3) := by decide +kernel
theorem dX5_isTooGreat_75 : decode cX5_isTooGreat 75 = .ok (.lcmp, 1) := by decide +kernel
theorem dX5_isTooGreat_76 : decode cX5_isTooGreat 76 = .ok (.ifCond .le 7, 3) := by decide +kernel
theorem dX5_isTooGreat_79 : decode cX5_isTooGreat 79 = .ok (.iconst 1, 1) := by decide +kernel
theorem dX5_isTooGreat_80 : decode cX5_isTooGreat 80 = .ok (.goto 4, 3) := by decide +kernel
theorem dX5_isTooGreat_83 : decode cX5_isTooGreat 83 = .ok (.iconst 0, 1) := by decide +kernel
theorem dX5_isTooGreat_84 : decode cX5_isTooGreat 84 = .ok (.ireturn, 1) := by decide +kernel
set_option maxRecDepth 20000 in
theorem ggX5_tells_X5_join : GoodIn wsX5_tells wsX5_join := goodIn_r _ [7, 1, 2, 8, 9, 10, 11, 6, 12, 13, 14, 15, 16, 17, 18, 19, 20, 21, 22, 23, 24, 25, 26, 27, 28, 29, 30, 31, 32, 33, 34, 35, 36, 37, 38, 39, 40, 41, 42, 43, 44, 45, 46, 47, 48, 49, 50, 51, 52, 53, 54, 55] (by decide +kernel) (by decide +kernel)
set_option maxRecDepth 20000 in
theorem gX5_tells_X5_join : GoodIn wsX5_tells (wsV RX5 74 RX5 yX5_join wsX5_join) := goodIn_app (goodIn_of _ (by decide +kernel)) ggX5_tells_X5_join
set_option maxRecDepth 20000 in
theorem ggX5_tells_X5_isVoid : GoodIn wsX5_tells wsX5_isVoid := goodIn_r _ [20, 21, 22, 23, 6, 24, 8, 25, 26, 27, 43, 44, 45, 46, 47, 48, 49, 50, 51, 52, 53, 54, 55] (by decide +kernel) (by decide +kernel)
set_option maxRecDepth 20000 in
theorem gX5_tells_X5_isVoid : GoodIn wsX5_tells (wsV RX5 38 RX5 yX5_isVoid wsX5_isVoid) := goodIn_app (goodIn_of _ (by decide +kernel)) ggX5_tells_X5_isVoid
set_option maxRecDepth 20000 in
theorem ggX5_tells_X5_modulus : GoodIn wsX5_tells wsX5_modulus := goodIn_r _ [31, 21, 22, 23, 6, 24, 8, 25, 26, 27, 43, 44, 45, 46, 47, 48, 49, 50, 51, 52, 53, 54, 55] (by decide +kernel) (by decide +kernel)
set_option maxRecDepth 20000 in
theorem gX5_tells_X5_modulus : GoodIn wsX5_tells (wsV RX5 42 RX5 yX5_modulus wsX5_modulus) := goodIn_app (goodIn_of _ (by decide +kernel)) ggX5_tells_X5_modulus
set_option maxRecDepth 20000 in
theorem ggX5_tells_X5_rest : GoodIn wsX5_tells wsX5_rest := goodIn_r _ [35, 21, 22, 23, 6, 24, 8, 43, 44, 45, 46, 47, 48, 49, 50, 51, 52, 53, 54, 55] (by decide +kernel) (by decide +kernel)
set_option maxRecDepth 20000 in
theorem gX5_tells_X5_rest : GoodIn wsX5_tells (wsV RX5 46 RX5 yX5_rest wsX5_rest) := goodIn_app (goodIn_of _ (by decide +kernel)) ggX5_tells_X5_rest
theorem dX5_tells_0 : decode cX5_tells 0 = .ok (.aload_n 0, 1) := by decide +kernel
theorem dX5_tells_1 : decode cX5_tells 1 = .ok (.iload_n 1, 1) := by decide +kernel
theorem dX5_tells_2 : decode cX5_tells 2 = .ok (.invokevirtual 74, 3) := by decide +kernel
theorem dX5_tells_5 : decode cX5_tells 5 = .ok (.ifCond .eq 52, 3) := by decide +kernel
theorem dX5_tells_8 : decode cX5_tells 8 = .ok (.aload_n 0, 1) := by decide +kernel
theorem dX5_tells_9 : decode cX5_tells 9 = .ok (.iload_n 2, 1) := by decide +kernel
theorem dX5_tells_10 : decode cX5_tells 10 = .ok (.invokevirtual 38, 3) := by decide +kernel
theorem dX5_tells_13 : decode cX5_tells 13 = .ok (.ifCond .ne 44, 3) := by decide +kernel
theorem dX5_tells_16 : decode cX5_tells 16 = .ok (.aload_n 0, 1) := by decide +kernel
theorem dX5_tells_17 : decode cX5_tells 17 = .ok (.getfield 56, 3) := by decide +kernel
theorem dX5_tells_20 : decode cX5_tells 20 = .ok (.aload_n 0, 1) := by decide +kernel
theorem dX5_tells_21 : decode cX5_tells 21 = .ok (.iload_n 2, 1) := by decide +kernel
theorem dX5_tells_22 : decode cX5_tells 22 = .ok (.invokevirtual 42, 3) := by decide +kernel
theorem dX5_tells_25 : decode cX5_tells 25 = .ok (.i2l, 1) := by decide +kernel
theorem dX5_tells_26 : decode cX5_tells 26 = .ok (.lrem, 1) := by decide +kernel
theorem dX5_tells_27 : decode cX5_tells 27 = .ok (.lconst 0, 1) := by decide +kernel
theorem dX5_tells_28 : decode cX5_tells 28 = .ok (.lcmp, 1) := by decide +kernel
theorem dX5_tells_29 : decode cX5_tells 29 = .ok (.ifCond .ne 28, 3) := by decide +kernel
theorem dX5_tells_32 : decode cX5_tells 32 = .ok (.aload_n 0, 1) := by decide +kernel
theorem dX5_tells_33 : decode cX5_tells 33 = .ok (.getfield 64, 3) := by decide +kernel
theorem dX5_tells_36 : decode cX5_tells 36 = .ok (.aload_n 0, 1) := by decide +kernel
theorem dX5_tells_37 : decode cX5_tells 37 = .ok (.iload_n 2, 1) := by decide +kernel
theorem dX5_tells_38 : decode cX5_tells 38 = .ok (.invokevirtual 42, 3) := by decide +kernel
theorem dX5_tells_41 : decode cX5_tells 41 = .ok (.i2l, 1) := by decide +kernel
theorem dX5_tells_42 : decode cX5_tells 42 = .ok (.lrem, 1) := by decide +kernel
theorem dX5_tells_43 : decode cX5_tells 43 = .ok (.aload_n 0, 1) := by decide +kernel
theorem dX5_tells_44 : decode cX5_tells 44 = .ok (.iload_n 2, 1) := by decide +kernel
theorem dX5_tells_45 : decode cX5_tells 45 = .ok (.invokevirtual 46, 3) := by decide +kernel
theorem dX5_tells_48 : decode cX5_tells 48 = .ok (.i2l, 1) := by decide +kernel
theorem dX5_tells_49 : decode cX5_tells 49 = .ok (.lcmp, 1) := by decide +kernel
theorem dX5_tells_50 : decode cX5_tells 50 = .ok (.ifCond .ne 7, 3) := by decide +kernel
theorem dX5_tells_53 : decode cX5_tells 53 = .ok (.iconst 1, 1) := by decide +kernel
theorem dX5_tells_54 : decode cX5_tells 54 = .ok (.goto 4, 3) := by decide +kernel
theorem dX5_tells_57 : decode cX5_tells 57 = .ok (.iconst 0, 1) := by decide +kernel
theorem dX5_tells_58 : decode cX5_tells 58 = .ok (.ireturn, 1) := by decide +kernel
set_option maxRecDepth 20000 in
theorem ggX5_isTold_X5_isOn : GoodIn wsX5_isTold wsX5_isOn := goodIn_r _ [5, 6, 7, 8, 4, 9, 10, 55, 56, 57, 58, 59, 60, 61, 62, 63, 64, 65, 66, 67] (by decide +kernel) (by decide +kernel)
set_option maxRecDepth 20000 in
theorem gX5_isTold_X5_isOn : GoodIn wsX5_isTold (wsV RX5 49 RX5 yX5_isOn wsX5_isOn) := goodIn_app (goodIn_of _ (by decide +kernel)) ggX5_isTold_X5_isOn
set_option maxRecDepth 20000 in
theorem ggX5_isTold_X5_onSet : GoodIn wsX5_isTold wsX5_onSet := goodIn_r _ [14, 10, 1, 2, 3, 4, 5, 6, 7, 8, 9, 55, 56, 57, 58, 59, 60, 61, 62, 63, 64, 65, 66, 67] (by decide +kernel) (by decide +kernel)
set_option maxRecDepth 20000 in
theorem gX5_isTold_X5_onSet : GoodIn wsX5_isTold (wsV RX5 77 RX5 yX5_onSet wsX5_onSet) := goodIn_app (goodIn_of _ (by decide +kernel)) ggX5_isTold_X5_onSet
set_option maxRecDepth 20000 in
theorem ggX5_isTold_X5_tells : GoodIn wsX5_isTold wsX5_tells := goodIn_r _ [18, 19, 20, 21, 22, 23, 4, 24, 10, 25, 26, 27, 28, 29, 30, 31, 32, 33, 34, 35, 36, 6, 7, 8, 9, 37, 38, 39, 40, 41, 42, 43, 44, 45, 46, 47, 48, 49, 50, 51, 52, 53, 54, 55, 56, 57, 58, 59, 60, 61, 62, 63, 64, 65, 66, 67] (by decide +kernel) (by decide +kernel)
set_option maxRecDepth 20000 in
theorem gX5_isTold_X5_tells : GoodIn wsX5_isTold (wsV RX5 81 RX5 yX5_tells wsX5_tells) := goodIn_app (goodIn_of _ (by decide +kernel)) ggX5_isTold_X5_tells
theorem dX5_isTold_0 : decode cX5_isTold 0 = .ok (.aload_n 0, 1) := by decide +kernel
theorem dX5_isTold_1 : decode cX5_isTold 1 = .ok (.iload_n 1, 1) := by decide +kernel
theorem dX5_isTold_2 : decode cX5_isTold 2 = .ok (.invokevirtual 49, 3) := by decide +kernel
theorem dX5_isTold_5 : decode cX5_isTold 5 = .ok (.ifCond .eq 25, 3) := by decide +kernel
theorem dX5_isTold_8 : decode cX5_isTold 8 = .ok (.aload_n 0, 1) := by decide +kernel
theorem dX5_isTold_9 : decode cX5_isTold 9 = .ok (.aload_n 0, 1) := by decide +kernel
theorem dX5_isTold_10 : decode cX5_isTold 10 = .ok (.invokevirtual 77, 3) := by decide +kernel
theorem dX5_isTold_13 : decode cX5_isTold 13 = .ok (.iconst 1, 1) := by decide +kernel
theorem dX5_isTold_14 : decode cX5_isTold 14 = .ok (.iload_n 1, 1) := by decide +kernel
theorem dX5_isTold_15 : decode cX5_isTold 15 = .ok (.ishl, 1) := by decide +kernel
theorem dX5_isTold_16 : decode cX5_isTold 16 = .ok (.iconst (-1), 1) := by decide +kernel
theorem dX5_isTold_17 : decode cX5_isTold 17 = .ok (.ixor, 1) := by decide +kernel
theorem dX5_isTold_18 : decode cX5_isTold 18 = .ok (.iand, 1) := by decide +kernel
theorem dX5_isTold_19 : decode cX5_isTold 19 = .ok (.iload_n 1, 1) := by decide +kernel
theorem dX5_isTold_20 : decode cX5_isTold 20 = .ok (.invokevirtual 81, 3) := by decide +kernel
theorem dX5_isTold_23 : decode cX5_isTold 23 = .ok (.ifCond .eq 7, 3) := by decide +kernel
theorem dX5_isTold_26 : decode cX5_isTold 26 = .ok (.iconst 1, 1) := by decide +kernel
theorem dX5_isTold_27 : decode cX5_isTold 27 = .ok (.goto 4, 3) := by decide +kernel
theorem dX5_isTold_30 : decode cX5_isTold 30 = .ok (.iconst 0, 1) := by decide +kernel
theorem dX5_isTold_31 : decode cX5_isTold 31 = .ok (.ireturn, 1) := by decide +kernel
theorem dX5_layNext_0 : decode cX5_layNext 0 = .ok (.iconst 1, 1) := by decide +kernel
theorem dX5_layNext_1 : decode cX5_layNext 1 = .ok (.iconst 4, 1) := by decide +kernel
theorem dX5_layNext_2 : decode cX5_layNext 2 = .ok (.aload_n 0, 1) := by decide +kernel
theorem dX5_layNext_3 : decode cX5_layNext 3 = .ok (.getfield 7, 3) := by decide +kernel
theorem dX5_layNext_6 : decode cX5_layNext 6 = .ok (.iconst 0, 1) := by decide +kernel
theorem dX5_layNext_7 : decode cX5_layNext 7 = .ok (.iaload, 1) := by decide +kernel
theorem dX5_layNext_8 : decode cX5_layNext 8 = .ok (.imul, 1) := by decide +kernel
theorem dX5_layNext_9 : decode cX5_layNext 9 = .ok (.iadd, 1) := by decide +kernel
theorem dX5_layNext_10 : decode cX5_layNext 10 = .ok (.istore 4, 2) := by decide +kernel
theorem dX5_layNext_12 : decode cX5_layNext 12 = .ok (.aload_n 0, 1) := by decide +kernel
theorem dX5_layNext_13 : decode cX5_layNext 13 = .ok (.getfield 7, 3) := by decide +kernel
theorem dX5_layNext_16 : decode cX5_layNext 16 = .ok (.iload 4, 2) := by decide +kernel
theorem dX5_layNext_18 : decode cX5_layNext 18 = .ok (.iload_n 1, 1) := by decide +kernel
theorem dX5_layNext_19 : decode cX5_layNext 19 = .ok (.iastore, 1) := by decide +kernel
theorem dX5_layNext_20 : decode cX5_layNext 20 = .ok (.aload_n 0, 1) := by decide +kernel
theorem dX5_layNext_21 : decode cX5_layNext 21 = .ok (.getfield 7, 3) := by decide +kernel
theorem dX5_layNext_24 : decode cX5_layNext 24 = .ok (.iload 4, 2) := by decide +kernel
theorem dX5_layNext_26 : decode cX5_layNext 26 = .ok (.iconst 1, 1) := by decide +kernel
theorem dX5_layNext_27 : decode cX5_layNext 27 = .ok (.iadd, 1) := by decide +kernel
theorem dX5_layNext_28 : decode cX5_layNext 28 = .ok (.iload_n 2, 1) := by decide +kernel
theorem dX5_layNext_29 : decode cX5_layNext 29 = .ok (.iastore, 1) := by decide +kernel
theorem dX5_layNext_30 : decode cX5_layNext 30 = .ok (.aload_n 0, 1) := by decide +kernel
theorem dX5_layNext_31 : decode cX5_layNext 31 = .ok (.getfield 7, 3) := by decide +kernel
theorem dX5_layNext_34 : decode cX5_layNext 34 = .ok (.iload 4, 2) := by decide +kernel
theorem dX5_layNext_36 : decode cX5_layNext 36 = .ok (.iconst 2, 1) := by decide +kernel
theorem dX5_layNext_37 : decode cX5_layNext 37 = .ok (.iadd, 1) := by decide +kernel
theorem dX5_layNext_38 : decode cX5_layNext 38 = .ok (.iload_n 3, 1) := by decide +kernel
theorem dX5_layNext_39 : decode cX5_layNext 39 = .ok (.iastore, 1) := by decide +kernel
theorem dX5_layNext_40 : decode cX5_layNext 40 = .ok (.aload_n 0, 1) := by decide +kernel
theorem dX5_layNext_41 : decode cX5_layNext 41 = .ok (.getfield 7, 3) := by decide +kernel
theorem dX5_layNext_44 : decode cX5_layNext 44 = .ok (.iload 4, 2) := by decide +kernel
theorem dX5_layNext_46 : decode cX5_layNext 46 = .ok (.iconst 3, 1) := by decide +kernel
theorem dX5_layNext_47 : decode cX5_layNext 47 = .ok (.iadd, 1) := by decide +kernel
theorem dX5_layNext_48 : decode cX5_layNext 48 = .ok (.iconst 1, 1) := by decide +kernel
theorem dX5_layNext_49 : decode cX5_layNext 49 = .ok (.iastore, 1) := by decide +kernel
theorem dX5_layNext_50 : decode cX5_layNext 50 = .ok (.return_, 1) := by decide +kernel
theorem dX5_clearNext_0 : decode cX5_clearNext 0 = .ok (.iconst 1, 1) := by decide +kernel
theorem dX5_clearNext_1 : decode cX5_clearNext 1 = .ok (.iconst 4, 1) := by decide +kernel
theorem dX5_clearNext_2 : decode cX5_clearNext 2 = .ok (.aload_n 0, 1) := by decide +kernel
theorem dX5_clearNext_3 : decode cX5_clearNext 3 = .ok (.getfield 7, 3) := by decide +kernel
theorem dX5_clearNext_6 : decode cX5_clearNext 6 = .ok (.iconst 0, 1) := by decide +kernel
theorem dX5_clearNext_7 : decode cX5_clearNext 7 = .ok (.iaload, 1) := by decide +kernel
theorem dX5_clearNext_8 : decode cX5_clearNext 8 = .ok (.imul, 1) := by decide +kernel
theorem dX5_clearNext_9 : decode cX5_clearNext 9 = .ok (.iadd, 1) := by decide +kernel
theorem dX5_clearNext_10 : decode cX5_clearNext 10 = .ok (.istore_n 1, 1) := by decide +kernel
theorem dX5_clearNext_11 : decode cX5_clearNext 11 = .ok (.iload_n 1, 1) := by decide +kernel
theorem dX5_clearNext_12 : decode cX5_clearNext 12 = .ok (.iconst 1, 1) := by decide +kernel
theorem dX5_clearNext_13 : decode cX5_clearNext 13 = .ok (.iconst 4, 1) := by decide +kernel
theorem dX5_clearNext_14 : decode cX5_clearNext 14 = .ok (.aload_n 0, 1) := by decide +kernel
theorem dX5_clearNext_15 : decode cX5_clearNext 15 = .ok (.getfield 7, 3) := by decide +kernel
theorem dX5_clearNext_18 : decode cX5_clearNext 18 = .ok (.iconst 0, 1) := by decide +kernel
theorem dX5_clearNext_19 : decode cX5_clearNext 19 = .ok (.iaload, 1) := by decide +kernel
theorem dX5_clearNext_20 : decode cX5_clearNext 20 = .ok (.imul, 1) := by decide +kernel
theorem dX5_clearNext_21 : decode cX5_clearNext 21 = .ok (.iadd, 1) := by decide +kernel
theorem dX5_clearNext_22 : decode cX5_clearNext 22 = .ok (.iconst 4, 1) := by decide +kernel
theorem dX5_clearNext_23 : decode cX5_clearNext 23 = .ok (.iadd, 1) := by decide +kernel
theorem dX5_clearNext_24 : decode cX5_clearNext 24 = .ok (.if_icmp .ge 16, 3) := by decide +kernel
theorem dX5_clearNext_27 : decode cX5_clearNext 27 = .ok (.aload_n 0, 1) := by decide +kernel
theorem dX5_clearNext_28 : decode cX5_clearNext 28 = .ok (.getfield 7, 3) := by decide +kernel
theorem dX5_clearNext_31 : decode cX5_clearNext 31 = .ok (.iload_n 1, 1) := by decide +kernel
theorem dX5_clearNext_32 : decode cX5_clearNext 32 = .ok (.iconst 0, 1) := by decide +kernel
theorem dX5_clearNext_33 : decode cX5_clearNext 33 = .ok (.iastore, 1) := by decide +kernel
theorem dX5_clearNext_34 : decode cX5_clearNext 34 = .ok (.iinc 1 1, 3) := by decide +kernel
theorem dX5_clearNext_37 : decode cX5_clearNext 37 = .ok (.goto (-26), 3) := by decide +kernel
theorem dX5_clearNext_40 : decode cX5_clearNext 40 = .ok (.return_, 1) := by decide +kernel
set_option maxRecDepth 20000 in
theorem ggX5_areGood_X5_in : GoodIn wsX5_areGood wsX5_in := goodIn_r _ [4] (by decide +kernel) (by decide +kernel)
set_option maxRecDepth 20000 in
theorem gX5_areGood_X5_in : GoodIn wsX5_areGood (va_wsS RX5 84 yX5_in wsX5_in) := goodIn_app (goodIn_of _ (by decide +kernel)) ggX5_areGood_X5_in
theorem dX5_areGood_0 : decode cX5_areGood 0 = .ok (.iload_n 0, 1) := by decide +kernel
theorem dX5_areGood_1 : decode cX5_areGood 1 = .ok (.iconst 1, 1) := by decide +kernel
theorem dX5_areGood_2 : decode cX5_areGood 2 = .ok (.sipush 999, 3) := by decide +kernel
theorem dX5_areGood_5 : decode cX5_areGood 5 = .ok (.invokestatic 84, 3) := by decide +kernel
theorem dX5_areGood_8 : decode cX5_areGood 8 = .ok (.ifCond .eq 29, 3) := by decide +kernel
theorem dX5_areGood_11 : decode cX5_areGood 11 = .ok (.iload_n 1, 1) := by decide +kernel
theorem dX5_areGood_12 : decode cX5_areGood 12 = .ok (.iconst 0, 1) := by decide +kernel
theorem dX5_areGood_13 : decode cX5_areGood 13 = .ok (.sipush 999, 3) := by decide +kernel
theorem dX5_areGood_16 : decode cX5_areGood 16 = .ok (.invokestatic 84, 3) := by decide +kernel
theorem dX5_areGood_19 : decode cX5_areGood 19 = .ok (.ifCond .eq 18, 3) := by decide +kernel
theorem dX5_areGood_22 : decode cX5_areGood 22 = .ok (.iload_n 2, 1) := by decide +kernel
theorem dX5_areGood_23 : decode cX5_areGood 23 = .ok (.iconst 1, 1) := by decide +kernel
theorem dX5_areGood_24 : decode cX5_areGood 24 = .ok (.sipush 999, 3) := by decide +kernel
theorem dX5_areGood_27 : decode cX5_areGood 27 = .ok (.invokestatic 84, 3) := by decide +kernel
theorem dX5_areGood_30 : decode cX5_areGood 30 = .ok (.ifCond .eq 7, 3) := by decide +kernel
theorem dX5_areGood_33 : decode cX5_areGood 33 = .ok (.iconst 1, 1) := by decide +kernel
theorem dX5_areGood_34 : decode cX5_areGood 34 = .ok (.goto 4, 3) := by decide +kernel
theorem dX5_areGood_37 : decode cX5_areGood 37 = .ok (.iconst 0, 1) := by decide +kernel
theorem dX5_areGood_38 : decode cX5_areGood 38 = .ok (.ireturn, 1) := by decide +kernel
set_option maxRecDepth 20000 in
theorem ggX5_canAdd_X5_layNext : GoodIn wsX5_canAdd wsX5_layNext := goodIn_r _ [6, 1, 42, 43, 44, 45, 46, 47, 48, 49, 50, 51, 52, 53, 54] (by decide +kernel) (by decide +kernel)
set_option maxRecDepth 20000 in
theorem gX5_canAdd_X5_layNext : GoodIn wsX5_canAdd (wsV RX5 88 RX5 yX5_layNext wsX5_layNext) := goodIn_app (goodIn_of _ (by decide +kernel)) ggX5_canAdd_X5_layNext
set_option maxRecDepth 20000 in
theorem ggX5_canAdd_X5_onSet : GoodIn wsX5_canAdd wsX5_onSet := goodIn_r _ [10, 1, 11, 12, 13, 5, 14, 15, 16, 17, 18, 42, 43, 44, 45, 46, 47, 48, 49, 50, 51, 52, 53, 54] (by decide +kernel) (by decide +kernel)
set_option maxRecDepth 20000 in
theorem gX5_canAdd_X5_onSet : GoodIn wsX5_canAdd (wsV RX5 77 RX5 yX5_onSet wsX5_onSet) := goodIn_app (goodIn_of _ (by decide +kernel)) ggX5_canAdd_X5_onSet
set_option maxRecDepth 20000 in
theorem ggX5_canAdd_X5_isTooGreat : GoodIn wsX5_canAdd wsX5_isTooGreat := goodIn_r _ [22, 1, 23, 24, 25, 26, 5, 27, 15, 16, 17, 18, 28, 29, 30, 31, 32, 33, 34, 35, 36, 37, 42, 43, 44, 45, 46, 47, 48, 49, 50, 51, 52, 53, 54] (by decide +kernel) (by decide +kernel)
set_option maxRecDepth 20000 in
theorem gX5_canAdd_X5_isTooGreat : GoodIn wsX5_canAdd (wsV RX5 92 RX5 yX5_isTooGreat wsX5_isTooGreat) := goodIn_app (goodIn_of _ (by decide +kernel)) ggX5_canAdd_X5_isTooGreat
set_option maxRecDepth 20000 in
theorem ggX5_canAdd_X5_clearNext : GoodIn wsX5_canAdd wsX5_clearNext := goodIn_r _ [41, 1, 42, 43, 44, 45, 46, 47, 48, 49, 50, 51, 52, 53, 54] (by decide +kernel) (by decide +kernel)
set_option maxRecDepth 20000 in
theorem gX5_canAdd_X5_clearNext : GoodIn wsX5_canAdd (wsV RX5 95 RX5 yX5_clearNext wsX5_clearNext) := goodIn_app (goodIn_of _ (by decide +kernel)) ggX5_canAdd_X5_clearNext
theorem dX5_canAdd_0 : decode cX5_canAdd 0 = .ok (.aload_n 0, 1) := by decide +kernel
theorem dX5_canAdd_1 : decode cX5_canAdd 1 = .ok (.getfield 7, 3) := by decide +kernel
theorem dX5_canAdd_4 : decode cX5_canAdd 4 = .ok (.iconst 0, 1) := by decide +kernel
theorem dX5_canAdd_5 : decode cX5_canAdd 5 = .ok (.iaload, 1) := by decide +kernel
theorem dX5_canAdd_6 : decode cX5_canAdd 6 = .ok (.bipush 10, 2) := by decide +kernel
theorem dX5_canAdd_8 : decode cX5_canAdd 8 = .ok (.if_icmp .ne 5, 3) := by decide +kernel
theorem dX5_canAdd_11 : decode cX5_canAdd 11 = .ok (.iconst 0, 1) := by decide +kernel
theorem dX5_canAdd_12 : decode cX5_canAdd 12 = .ok (.ireturn, 1) := by decide +kernel
theorem dX5_canAdd_13 : decode cX5_canAdd 13 = .ok (.aload_n 0, 1) := by decide +kernel
theorem dX5_canAdd_14 : decode cX5_canAdd 14 = .ok (.iload_n 1, 1) := by decide +kernel
theorem dX5_canAdd_15 : decode cX5_canAdd 15 = .ok (.iload_n 2, 1) := by decide +kernel
theorem dX5_canAdd_16 : decode cX5_canAdd 16 = .ok (.iload_n 3, 1) := by decide +kernel
theorem dX5_canAdd_17 : decode cX5_canAdd 17 = .ok (.invokevirtual 88, 3) := by decide +kernel
theorem dX5_canAdd_20 : decode cX5_canAdd 20 = .ok (.aload_n 0, 1) := by decide +kernel
theorem dX5_canAdd_21 : decode cX5_canAdd 21 = .ok (.aload_n 0, 1) := by decide +kernel
theorem dX5_canAdd_22 : decode cX5_canAdd 22 = .ok (.invokevirtual 77, 3) := by decide +kernel
theorem dX5_canAdd_25 : decode cX5_canAdd 25 = .ok (.iconst 1, 1) := by decide +kernel
theorem dX5_canAdd_26 : decode cX5_canAdd 26 = .ok (.aload_n 0, 1) := by decide +kernel
theorem dX5_canAdd_27 : decode cX5_canAdd 27 = .ok (.getfield 7, 3) := by decide +kernel
theorem dX5_canAdd_30 : decode cX5_canAdd 30 = .ok (.iconst 0, 1) := by decide +kernel
theorem dX5_canAdd_31 : decode cX5_canAdd 31 = .ok (.iaload, 1) := by decide +kernel
theorem dX5_canAdd_32 : decode cX5_canAdd 32 = .ok (.ishl, 1) := by decide +kernel
theorem dX5_canAdd_33 : decode cX5_canAdd 33 = .ok (.ior, 1) := by decide +kernel
theorem dX5_canAdd_34 : decode cX5_canAdd 34 = .ok (.invokevirtual 92, 3) := by decide +kernel
theorem dX5_canAdd_37 : decode cX5_canAdd 37 = .ok (.ifCond .ne 7, 3) := by decide +kernel
theorem dX5_canAdd_40 : decode cX5_canAdd 40 = .ok (.iconst 1, 1) := by decide +kernel
theorem dX5_canAdd_41 : decode cX5_canAdd 41 = .ok (.goto 4, 3) := by decide +kernel
theorem dX5_canAdd_44 : decode cX5_canAdd 44 = .ok (.iconst 0, 1) := by decide +kernel
theorem dX5_canAdd_45 : decode cX5_canAdd 45 = .ok (.istore 4, 2) := by decide +kernel
theorem dX5_canAdd_47 : decode cX5_canAdd 47 = .ok (.iload 4, 2) := by decide +kernel
theorem dX5_canAdd_49 : decode cX5_canAdd 49 = .ok (.ifCond .ne 7, 3) := by decide +kernel
theorem dX5_canAdd_52 : decode cX5_canAdd 52 = .ok (.aload_n 0, 1) := by decide +kernel
theorem dX5_canAdd_53 : decode cX5_canAdd 53 = .ok (.invokevirtual 95, 3) := by decide +kernel
theorem dX5_canAdd_56 : decode cX5_canAdd 56 = .ok (.iload 4, 2) := by decide +kernel
theorem dX5_canAdd_58 : decode cX5_canAdd 58 = .ok (.ireturn, 1) := by decide +kernel
set_option maxRecDepth 20000 in
theorem ggX5_add_X5_areGood : GoodIn wsX5_add wsX5_areGood := goodIn_r _ [6, 7, 8, 5, 9] (by decide +kernel) (by decide +kernel)
set_option maxRecDepth 20000 in
theorem gX5_add_X5_areGood : GoodIn wsX5_add (va_wsS RX5 98 yX5_areGood wsX5_areGood) := goodIn_app (goodIn_of _ (by decide +kernel)) ggX5_add_X5_areGood
set_option maxRecDepth 20000 in
theorem ggX5_add_X5_canAdd : GoodIn wsX5_add wsX5_canAdd := goodIn_r _ [13, 2, 14, 15, 16, 5, 17, 18, 19, 20, 21, 22, 23, 24, 25, 26, 27, 28, 29, 30, 31, 32, 33, 34, 35, 36, 37, 38, 39, 40, 41, 42, 43, 44, 45, 46, 47, 48, 49, 50, 51, 52, 59, 60, 61, 62, 63, 64, 65, 66, 67, 68, 69, 70, 71] (by decide +kernel) (by decide +kernel)
set_option maxRecDepth 20000 in
theorem gX5_add_X5_canAdd : GoodIn wsX5_add (wsV RX5 101 RX5 yX5_canAdd wsX5_canAdd) := goodIn_app (goodIn_of _ (by decide +kernel)) ggX5_add_X5_canAdd
set_option maxRecDepth 20000 in
theorem ggX5_add_X5_clearNext : GoodIn wsX5_add wsX5_clearNext := goodIn_r _ [52, 2, 59, 60, 61, 62, 63, 64, 65, 66, 67, 68, 69, 70, 71] (by decide +kernel) (by decide +kernel)
set_option maxRecDepth 20000 in
theorem gX5_add_X5_clearNext : GoodIn wsX5_add (wsV RX5 95 RX5 yX5_clearNext wsX5_clearNext) := goodIn_app (goodIn_of _ (by decide +kernel)) ggX5_add_X5_clearNext
set_option maxRecDepth 20000 in
theorem ggX5_add_X5_save : GoodIn wsX5_add wsX5_save := goodIn_r _ [56, 57, 58, 2, 59, 60, 61, 62, 63, 64, 65, 66, 67, 68, 69, 70, 71] (by decide +kernel) (by decide +kernel)
set_option maxRecDepth 20000 in
theorem gX5_add_X5_save : GoodIn wsX5_add (wsV RX5 104 RX5 yX5_save wsX5_save) := goodIn_app (goodIn_of _ (by decide +kernel)) ggX5_add_X5_save
set_option maxRecDepth 20000 in
theorem ggX5_add_X5_layNext : GoodIn wsX5_add wsX5_layNext := goodIn_r _ [17, 2, 59, 60, 61, 62, 63, 64, 65, 66, 67, 68, 69, 70, 71] (by decide +kernel) (by decide +kernel)
set_option maxRecDepth 20000 in
theorem gX5_add_X5_layNext : GoodIn wsX5_add (wsV RX5 88 RX5 yX5_layNext wsX5_layNext) := goodIn_app (goodIn_of _ (by decide +kernel)) ggX5_add_X5_layNext
theorem dX5_add_0 : decode cX5_add 0 = .ok (.iload_n 1, 1) := by decide +kernel
theorem dX5_add_1 : decode cX5_add 1 = .ok (.iload_n 2, 1) := by decide +kernel
theorem dX5_add_2 : decode cX5_add 2 = .ok (.iload_n 3, 1) := by decide +kernel
theorem dX5_add_3 : decode cX5_add 3 = .ok (.invokestatic 98, 3) := by decide +kernel
theorem dX5_add_6 : decode cX5_add 6 = .ok (.istore 4, 2) := by decide +kernel
theorem dX5_add_8 : decode cX5_add 8 = .ok (.iload 4, 2) := by decide +kernel
theorem dX5_add_10 : decode cX5_add 10 = .ok (.ifCond .eq 17, 3) := by decide +kernel
theorem dX5_add_13 : decode cX5_add 13 = .ok (.aload_n 0, 1) := by decide +kernel
theorem dX5_add_14 : decode cX5_add 14 = .ok (.iload_n 1, 1) := by decide +kernel
theorem dX5_add_15 : decode cX5_add 15 = .ok (.iload_n 2, 1) := by decide +kernel
theorem dX5_add_16 : decode cX5_add 16 = .ok (.iload_n 3, 1) := by decide +kernel
theorem dX5_add_17 : decode cX5_add 17 = .ok (.invokevirtual 101, 3) := by decide +kernel
theorem dX5_add_20 : decode cX5_add 20 = .ok (.ifCond .eq 7, 3) := by decide +kernel
theorem dX5_add_23 : decode cX5_add 23 = .ok (.iconst 1, 1) := by decide +kernel
theorem dX5_add_24 : decode cX5_add 24 = .ok (.goto 4, 3) := by decide +kernel
theorem dX5_add_27 : decode cX5_add 27 = .ok (.iconst 0, 1) := by decide +kernel
theorem dX5_add_28 : decode cX5_add 28 = .ok (.istore 5, 2) := by decide +kernel
theorem dX5_add_30 : decode cX5_add 30 = .ok (.aload_n 0, 1) := by decide +kernel
theorem dX5_add_31 : decode cX5_add 31 = .ok (.iload 4, 2) := by decide +kernel
theorem dX5_add_33 : decode cX5_add 33 = .ok (.ifCond .ne 7, 3) := by decide +kernel
theorem dX5_add_36 : decode cX5_add 36 = .ok (.iconst 1, 1) := by decide +kernel
theorem dX5_add_37 : decode cX5_add 37 = .ok (.goto 13, 3) := by decide +kernel
theorem dX5_add_40 : decode cX5_add 40 = .ok (.iload 5, 2) := by decide +kernel
theorem dX5_add_42 : decode cX5_add 42 = .ok (.ifCond .eq 7, 3) := by decide +kernel
theorem dX5_add_45 : decode cX5_add 45 = .ok (.iconst 0, 1) := by decide +kernel
theorem dX5_add_46 : decode cX5_add 46 = .ok (.goto 4, 3) := by decide +kernel
theorem dX5_add_49 : decode cX5_add 49 = .ok (.iconst 2, 1) := by decide +kernel
theorem dX5_add_50 : decode cX5_add 50 = .ok (.putfield 22, 3) := by decide +kernel
theorem dX5_add_53 : decode cX5_add 53 = .ok (.aload_n 0, 1) := by decide +kernel
theorem dX5_add_54 : decode cX5_add 54 = .ok (.getfield 22, 3) := by decide +kernel
theorem dX5_add_57 : decode cX5_add 57 = .ok (.ifCond .le 5, 3) := by decide +kernel
theorem dX5_add_60 : decode cX5_add 60 = .ok (.iconst 0, 1) := by decide +kernel
theorem dX5_add_61 : decode cX5_add 61 = .ok (.ireturn, 1) := by decide +kernel
theorem dX5_add_62 : decode cX5_add 62 = .ok (.aload_n 0, 1) := by decide +kernel
theorem dX5_add_63 : decode cX5_add 63 = .ok (.invokevirtual 95, 3) := by decide +kernel
theorem dX5_add_66 : decode cX5_add 66 = .ok (.aload_n 0, 1) := by decide +kernel
theorem dX5_add_67 : decode cX5_add 67 = .ok (.invokevirtual 104, 3) := by decide +kernel
theorem dX5_add_70 : decode cX5_add 70 = .ok (.aload_n 0, 1) := by decide +kernel
theorem dX5_add_71 : decode cX5_add 71 = .ok (.iload_n 1, 1) := by decide +kernel
theorem dX5_add_72 : decode cX5_add 72 = .ok (.iload_n 2, 1) := by decide +kernel
theorem dX5_add_73 : decode cX5_add 73 = .ok (.iload_n 3, 1) := by decide +kernel
theorem dX5_add_74 : decode cX5_add 74 = .ok (.invokevirtual 88, 3) := by decide +kernel
theorem dX5_add_77 : decode cX5_add 77 = .ok (.aload_n 0, 1) := by decide +kernel
theorem dX5_add_78 : decode cX5_add 78 = .ok (.getfield 7, 3) := by decide +kernel
theorem dX5_add_81 : decode cX5_add 81 = .ok (.iconst 0, 1) := by decide +kernel
theorem dX5_add_82 : decode cX5_add 82 = .ok (.dup2, 1) := by decide +kernel
theorem dX5_add_83 : decode cX5_add 83 = .ok (.iaload, 1) := by decide +kernel
theorem dX5_add_84 : decode cX5_add 84 = .ok (.iconst 1, 1) := by decide +kernel
theorem dX5_add_85 : decode cX5_add 85 = .ok (.iadd, 1) := by decide +kernel
theorem dX5_add_86 : decode cX5_add 86 = .ok (.iastore, 1) := by decide +kernel
theorem dX5_add_87 : decode cX5_add 87 = .ok (.aload_n 0, 1) := by decide +kernel
theorem dX5_add_88 : decode cX5_add 88 = .ok (.getfield 7, 3) := by decide +kernel
theorem dX5_add_91 : decode cX5_add 91 = .ok (.iconst 0, 1) := by decide +kernel
theorem dX5_add_92 : decode cX5_add 92 = .ok (.iaload, 1) := by decide +kernel
theorem dX5_add_93 : decode cX5_add 93 = .ok (.iconst 1, 1) := by decide +kernel
theorem dX5_add_94 : decode cX5_add 94 = .ok (.isub, 1) := by decide +kernel
theorem dX5_add_95 : decode cX5_add 95 = .ok (.ireturn, 1) := by decide +kernel
set_option maxRecDepth 20000 in
theorem ggX5_remove_X5_isThere : GoodIn wsX5_remove wsX5_isThere := goodIn_r _ [7, 2, 18, 19, 20, 21, 22, 23, 24, 25, 26, 27, 28, 29, 30] (by decide +kernel) (by decide +kernel)
set_option maxRecDepth 20000 in
theorem gX5_remove_X5_isThere : GoodIn wsX5_remove (wsV RX5 107 RX5 yX5_isThere wsX5_isThere) := goodIn_app (goodIn_of _ (by decide +kernel)) ggX5_remove_X5_isThere
set_option maxRecDepth 20000 in
theorem ggX5_remove_X5_save : GoodIn wsX5_remove wsX5_save := goodIn_r _ [11, 12, 13, 2, 18, 19, 20, 21, 22, 23, 24, 25, 26, 27, 28, 29, 30] (by decide +kernel) (by decide +kernel)
set_option maxRecDepth 20000 in
theorem gX5_remove_X5_save : GoodIn wsX5_remove (wsV RX5 104 RX5 yX5_save wsX5_save) := goodIn_app (goodIn_of _ (by decide +kernel)) ggX5_remove_X5_save
set_option maxRecDepth 20000 in
theorem ggX5_remove_X5_clearNext : GoodIn wsX5_remove wsX5_clearNext := goodIn_r _ [17, 2, 18, 19, 20, 21, 22, 23, 24, 25, 26, 27, 28, 29, 30] (by decide +kernel) (by decide +kernel)
set_option maxRecDepth 20000 in
theorem gX5_remove_X5_clearNext : GoodIn wsX5_remove (wsV RX5 95 RX5 yX5_clearNext wsX5_clearNext) := goodIn_app (goodIn_of _ (by decide +kernel)) ggX5_remove_X5_clearNext
theorem dX5_remove_0 : decode cX5_remove 0 = .ok (.aload_n 0, 1) := by decide +kernel
theorem dX5_remove_1 : decode cX5_remove 1 = .ok (.aload_n 0, 1) := by decide +kernel
theorem dX5_remove_2 : decode cX5_remove 2 = .ok (.iload_n 1, 1) := by decide +kernel
theorem dX5_remove_3 : decode cX5_remove 3 = .ok (.invokevirtual 107, 3) := by decide +kernel
theorem dX5_remove_6 : decode cX5_remove 6 = .ok (.ifCond .eq 7, 3) := by decide +kernel
theorem dX5_remove_9 : decode cX5_remove 9 = .ok (.iconst 0, 1) := by decide +kernel
theorem dX5_remove_10 : decode cX5_remove 10 = .ok (.goto 4, 3) := by decide +kernel
theorem dX5_remove_13 : decode cX5_remove 13 = .ok (.iconst 1, 1) := by decide +kernel
theorem dX5_remove_14 : decode cX5_remove 14 = .ok (.putfield 22, 3) := by decide +kernel
theorem dX5_remove_17 : decode cX5_remove 17 = .ok (.aload_n 0, 1) := by decide +kernel
theorem dX5_remove_18 : decode cX5_remove 18 = .ok (.getfield 22, 3) := by decide +kernel
theorem dX5_remove_21 : decode cX5_remove 21 = .ok (.ifCond .le 5, 3) := by decide +kernel
theorem dX5_remove_24 : decode cX5_remove 24 = .ok (.iconst 0, 1) := by decide +kernel
theorem dX5_remove_25 : decode cX5_remove 25 = .ok (.ireturn, 1) := by decide +kernel
theorem dX5_remove_26 : decode cX5_remove 26 = .ok (.aload_n 0, 1) := by decide +kernel
theorem dX5_remove_27 : decode cX5_remove 27 = .ok (.invokevirtual 104, 3) := by decide +kernel
theorem dX5_remove_30 : decode cX5_remove 30 = .ok (.aload_n 0, 1) := by decide +kernel
theorem dX5_remove_31 : decode cX5_remove 31 = .ok (.getfield 7, 3) := by decide +kernel
theorem dX5_remove_34 : decode cX5_remove 34 = .ok (.iconst 0, 1) := by decide +kernel
theorem dX5_remove_35 : decode cX5_remove 35 = .ok (.dup2, 1) := by decide +kernel
theorem dX5_remove_36 : decode cX5_remove 36 = .ok (.iaload, 1) := by decide +kernel
theorem dX5_remove_37 : decode cX5_remove 37 = .ok (.iconst 1, 1) := by decide +kernel
theorem dX5_remove_38 : decode cX5_remove 38 = .ok (.isub, 1) := by decide +kernel
theorem dX5_remove_39 : decode cX5_remove 39 = .ok (.iastore, 1) := by decide +kernel
theorem dX5_remove_40 : decode cX5_remove 40 = .ok (.iconst 1, 1) := by decide +kernel
theorem dX5_remove_41 : decode cX5_remove 41 = .ok (.iconst 4, 1) := by decide +kernel
theorem dX5_remove_42 : decode cX5_remove 42 = .ok (.iload_n 1, 1) := by decide +kernel
theorem dX5_remove_43 : decode cX5_remove 43 = .ok (.imul, 1) := by decide +kernel
theorem dX5_remove_44 : decode cX5_remove 44 = .ok (.iadd, 1) := by decide +kernel
theorem dX5_remove_45 : decode cX5_remove 45 = .ok (.istore_n 2, 1) := by decide +kernel
theorem dX5_remove_46 : decode cX5_remove 46 = .ok (.iload_n 2, 1) := by decide +kernel
theorem dX5_remove_47 : decode cX5_remove 47 = .ok (.iconst 1, 1) := by decide +kernel
theorem dX5_remove_48 : decode cX5_remove 48 = .ok (.iconst 4, 1) := by decide +kernel
theorem dX5_remove_49 : decode cX5_remove 49 = .ok (.aload_n 0, 1) := by decide +kernel
theorem dX5_remove_50 : decode cX5_remove 50 = .ok (.getfield 7, 3) := by decide +kernel
theorem dX5_remove_53 : decode cX5_remove 53 = .ok (.iconst 0, 1) := by decide +kernel
theorem dX5_remove_54 : decode cX5_remove 54 = .ok (.iaload, 1) := by decide +kernel
theorem dX5_remove_55 : decode cX5_remove 55 = .ok (.imul, 1) := by decide +kernel
theorem dX5_remove_56 : decode cX5_remove 56 = .ok (.iadd, 1) := by decide +kernel
theorem dX5_remove_57 : decode cX5_remove 57 = .ok (.if_icmp .ge 23, 3) := by decide +kernel
theorem dX5_remove_60 : decode cX5_remove 60 = .ok (.aload_n 0, 1) := by decide +kernel
theorem dX5_remove_61 : decode cX5_remove 61 = .ok (.getfield 7, 3) := by decide +kernel
theorem dX5_remove_64 : decode cX5_remove 64 = .ok (.iload_n 2, 1) := by decide +kernel
theorem dX5_remove_65 : decode cX5_remove 65 = .ok (.aload_n 0, 1) := by decide +kernel
theorem dX5_remove_66 : decode cX5_remove 66 = .ok (.getfield 7, 3) := by decide +kernel
theorem dX5_remove_69 : decode cX5_remove 69 = .ok (.iload_n 2, 1) := by decide +kernel
theorem dX5_remove_70 : decode cX5_remove 70 = .ok (.iconst 4, 1) := by decide +kernel
theorem dX5_remove_71 : decode cX5_remove 71 = .ok (.iadd, 1) := by decide +kernel
theorem dX5_remove_72 : decode cX5_remove 72 = .ok (.iaload, 1) := by decide +kernel
theorem dX5_remove_73 : decode cX5_remove 73 = .ok (.iastore, 1) := by decide +kernel
theorem dX5_remove_74 : decode cX5_remove 74 = .ok (.iinc 2 1, 3) := by decide +kernel
theorem dX5_remove_77 : decode cX5_remove 77 = .ok (.goto (-31), 3) := by decide +kernel
theorem dX5_remove_80 : decode cX5_remove 80 = .ok (.aload_n 0, 1) := by decide +kernel
theorem dX5_remove_81 : decode cX5_remove 81 = .ok (.invokevirtual 95, 3) := by decide +kernel
theorem dX5_remove_84 : decode cX5_remove 84 = .ok (.aload_n 0, 1) := by decide +kernel
theorem dX5_remove_85 : decode cX5_remove 85 = .ok (.getfield 7, 3) := by decide +kernel
theorem dX5_remove_88 : decode cX5_remove 88 = .ok (.iconst 0, 1) := by decide +kernel
theorem dX5_remove_89 : decode cX5_remove 89 = .ok (.iaload, 1) := by decide +kernel
theorem dX5_remove_90 : decode cX5_remove 90 = .ok (.ireturn, 1) := by decide +kernel
set_option maxRecDepth 20000 in
theorem ggX5_toggle_X5_isThere : GoodIn wsX5_toggle wsX5_isThere := goodIn_r _ [7, 2, 45, 46, 47, 48, 49, 50, 51, 52, 53, 54, 55, 56, 57] (by decide +kernel) (by decide +kernel)
set_option maxRecDepth 20000 in
theorem gX5_toggle_X5_isThere : GoodIn wsX5_toggle (wsV RX5 107 RX5 yX5_isThere wsX5_isThere) := goodIn_app (goodIn_of _ (by decide +kernel)) ggX5_toggle_X5_isThere
set_option maxRecDepth 20000 in
theorem ggX5_toggle_X5_isOn : GoodIn wsX5_toggle wsX5_isOn := goodIn_r _ [11, 12, 13, 14, 6, 15, 2, 45, 46, 47, 48, 49, 50, 51, 52, 53, 54, 55, 56, 57] (by decide +kernel) (by decide +kernel)
set_option maxRecDepth 20000 in
theorem gX5_toggle_X5_isOn : GoodIn wsX5_toggle (wsV RX5 49 RX5 yX5_isOn wsX5_isOn) := goodIn_app (goodIn_of _ (by decide +kernel)) ggX5_toggle_X5_isOn
set_option maxRecDepth 20000 in
theorem ggX5_toggle_X5_onSet : GoodIn wsX5_toggle wsX5_onSet := goodIn_r _ [19, 2, 8, 9, 10, 6, 11, 12, 13, 14, 15, 45, 46, 47, 48, 49, 50, 51, 52, 53, 54, 55, 56, 57] (by decide +kernel) (by decide +kernel)
set_option maxRecDepth 20000 in
theorem gX5_toggle_X5_onSet : GoodIn wsX5_toggle (wsV RX5 77 RX5 yX5_onSet wsX5_onSet) := goodIn_app (goodIn_of _ (by decide +kernel)) ggX5_toggle_X5_onSet
set_option maxRecDepth 20000 in
theorem ggX5_toggle_X5_isTooGreat : GoodIn wsX5_toggle wsX5_isTooGreat := goodIn_r _ [23, 2, 24, 25, 26, 27, 6, 28, 12, 13, 14, 15, 29, 30, 31, 32, 33, 34, 35, 36, 37, 38, 45, 46, 47, 48, 49, 50, 51, 52, 53, 54, 55, 56, 57] (by decide +kernel) (by decide +kernel)
set_option maxRecDepth 20000 in
theorem gX5_toggle_X5_isTooGreat : GoodIn wsX5_toggle (wsV RX5 92 RX5 yX5_isTooGreat wsX5_isTooGreat) := goodIn_app (goodIn_of _ (by decide +kernel)) ggX5_toggle_X5_isTooGreat
set_option maxRecDepth 20000 in
theorem ggX5_toggle_X5_save : GoodIn wsX5_toggle wsX5_save := goodIn_r _ [42, 43, 44, 2, 45, 46, 47, 48, 49, 50, 51, 52, 53, 54, 55, 56, 57] (by decide +kernel) (by decide +kernel)
set_option maxRecDepth 20000 in
theorem gX5_toggle_X5_save : GoodIn wsX5_toggle (wsV RX5 104 RX5 yX5_save wsX5_save) := goodIn_app (goodIn_of _ (by decide +kernel)) ggX5_toggle_X5_save
set_option maxRecDepth 20000 in
theorem ggX5_toggle_X5_of : GoodIn wsX5_toggle wsX5_of := goodIn_r _ [15, 2, 45, 46, 47, 48, 49, 50, 51, 52, 53, 54, 55, 56, 57] (by decide +kernel) (by decide +kernel)
set_option maxRecDepth 20000 in
theorem gX5_toggle_X5_of : GoodIn wsX5_toggle (wsV RX5 26 RX5 yX5_of wsX5_of) := goodIn_app (goodIn_of _ (by decide +kernel)) ggX5_toggle_X5_of
theorem dX5_toggle_0 : decode cX5_toggle 0 = .ok (.aload_n 0, 1) := by decide +kernel
theorem dX5_toggle_1 : decode cX5_toggle 1 = .ok (.iload_n 1, 1) := by decide +kernel
theorem dX5_toggle_2 : decode cX5_toggle 2 = .ok (.invokevirtual 107, 3) := by decide +kernel
theorem dX5_toggle_5 : decode cX5_toggle 5 = .ok (.istore_n 2, 1) := by decide +kernel
theorem dX5_toggle_6 : decode cX5_toggle 6 = .ok (.aload_n 0, 1) := by decide +kernel
theorem dX5_toggle_7 : decode cX5_toggle 7 = .ok (.iload_n 2, 1) := by decide +kernel
theorem dX5_toggle_8 : decode cX5_toggle 8 = .ok (.ifCond .ne 7, 3) := by decide +kernel
theorem dX5_toggle_11 : decode cX5_toggle 11 = .ok (.iconst 1, 1) := by decide +kernel
theorem dX5_toggle_12 : decode cX5_toggle 12 = .ok (.goto 31, 3) := by decide +kernel
theorem dX5_toggle_15 : decode cX5_toggle 15 = .ok (.aload_n 0, 1) := by decide +kernel
theorem dX5_toggle_16 : decode cX5_toggle 16 = .ok (.iload_n 1, 1) := by decide +kernel
theorem dX5_toggle_17 : decode cX5_toggle 17 = .ok (.invokevirtual 49, 3) := by decide +kernel
theorem dX5_toggle_20 : decode cX5_toggle 20 = .ok (.ifCond .ne 22, 3) := by decide +kernel
theorem dX5_toggle_23 : decode cX5_toggle 23 = .ok (.aload_n 0, 1) := by decide +kernel
theorem dX5_toggle_24 : decode cX5_toggle 24 = .ok (.aload_n 0, 1) := by decide +kernel
theorem dX5_toggle_25 : decode cX5_toggle 25 = .ok (.invokevirtual 77, 3) := by decide +kernel
theorem dX5_toggle_28 : decode cX5_toggle 28 = .ok (.iconst 1, 1) := by decide +kernel
theorem dX5_toggle_29 : decode cX5_toggle 29 = .ok (.iload_n 1, 1) := by decide +kernel
theorem dX5_toggle_30 : decode cX5_toggle 30 = .ok (.ishl, 1) := by decide +kernel
theorem dX5_toggle_31 : decode cX5_toggle 31 = .ok (.ior, 1) := by decide +kernel
theorem dX5_toggle_32 : decode cX5_toggle 32 = .ok (.invokevirtual 92, 3) := by decide +kernel
theorem dX5_toggle_35 : decode cX5_toggle 35 = .ok (.ifCond .eq 7, 3) := by decide +kernel
theorem dX5_toggle_38 : decode cX5_toggle 38 = .ok (.iconst 2, 1) := by decide +kernel
theorem dX5_toggle_39 : decode cX5_toggle 39 = .ok (.goto 4, 3) := by decide +kernel
theorem dX5_toggle_42 : decode cX5_toggle 42 = .ok (.iconst 0, 1) := by decide +kernel
theorem dX5_toggle_43 : decode cX5_toggle 43 = .ok (.putfield 22, 3) := by decide +kernel
theorem dX5_toggle_46 : decode cX5_toggle 46 = .ok (.aload_n 0, 1) := by decide +kernel
theorem dX5_toggle_47 : decode cX5_toggle 47 = .ok (.getfield 22, 3) := by decide +kernel
theorem dX5_toggle_50 : decode cX5_toggle 50 = .ok (.ifCond .le 5, 3) := by decide +kernel
theorem dX5_toggle_53 : decode cX5_toggle 53 = .ok (.iconst 0, 1) := by decide +kernel
theorem dX5_toggle_54 : decode cX5_toggle 54 = .ok (.ireturn, 1) := by decide +kernel
theorem dX5_toggle_55 : decode cX5_toggle 55 = .ok (.aload_n 0, 1) := by decide +kernel
theorem dX5_toggle_56 : decode cX5_toggle 56 = .ok (.invokevirtual 104, 3) := by decide +kernel
theorem dX5_toggle_59 : decode cX5_toggle 59 = .ok (.aload_n 0, 1) := by decide +kernel
theorem dX5_toggle_60 : decode cX5_toggle 60 = .ok (.getfield 7, 3) := by decide +kernel
theorem dX5_toggle_63 : decode cX5_toggle 63 = .ok (.iconst 1, 1) := by decide +kernel
theorem dX5_toggle_64 : decode cX5_toggle 64 = .ok (.iconst 4, 1) := by decide +kernel
theorem dX5_toggle_65 : decode cX5_toggle 65 = .ok (.iload_n 1, 1) := by decide +kernel
theorem dX5_toggle_66 : decode cX5_toggle 66 = .ok (.imul, 1) := by decide +kernel
theorem dX5_toggle_67 : decode cX5_toggle 67 = .ok (.iadd, 1) := by decide +kernel
theorem dX5_toggle_68 : decode cX5_toggle 68 = .ok (.iconst 3, 1) := by decide +kernel
theorem dX5_toggle_69 : decode cX5_toggle 69 = .ok (.iadd, 1) := by decide +kernel
theorem dX5_toggle_70 : decode cX5_toggle 70 = .ok (.iconst 1, 1) := by decide +kernel
theorem dX5_toggle_71 : decode cX5_toggle 71 = .ok (.aload_n 0, 1) := by decide +kernel
theorem dX5_toggle_72 : decode cX5_toggle 72 = .ok (.iload_n 1, 1) := by decide +kernel
theorem dX5_toggle_73 : decode cX5_toggle 73 = .ok (.iconst 3, 1) := by decide +kernel
theorem dX5_toggle_74 : decode cX5_toggle 74 = .ok (.invokevirtual 26, 3) := by decide +kernel
theorem dX5_toggle_77 : decode cX5_toggle 77 = .ok (.isub, 1) := by decide +kernel
theorem dX5_toggle_78 : decode cX5_toggle 78 = .ok (.iastore, 1) := by decide +kernel
theorem dX5_toggle_79 : decode cX5_toggle 79 = .ok (.aload_n 0, 1) := by decide +kernel
theorem dX5_toggle_80 : decode cX5_toggle 80 = .ok (.iload_n 1, 1) := by decide +kernel
theorem dX5_toggle_81 : decode cX5_toggle 81 = .ok (.iconst 3, 1) := by decide +kernel
theorem dX5_toggle_82 : decode cX5_toggle 82 = .ok (.invokevirtual 26, 3) := by decide +kernel
theorem dX5_toggle_85 : decode cX5_toggle 85 = .ok (.ireturn, 1) := by decide +kernel
set_option maxRecDepth 20000 in
theorem ggX5_bare_X5_isThere : GoodIn wsX5_bare wsX5_isThere := goodIn_r _ [7, 2, 33, 34, 35, 36, 37, 38, 39, 40, 41, 42, 43, 44, 45] (by decide +kernel) (by decide +kernel)
set_option maxRecDepth 20000 in
theorem gX5_bare_X5_isThere : GoodIn wsX5_bare (wsV RX5 107 RX5 yX5_isThere wsX5_isThere) := goodIn_app (goodIn_of _ (by decide +kernel)) ggX5_bare_X5_isThere
set_option maxRecDepth 20000 in
theorem ggX5_bare_X5_isVoid : GoodIn wsX5_bare wsX5_isVoid := goodIn_r _ [11, 12, 13, 14, 6, 15, 2, 16, 17, 18, 33, 34, 35, 36, 37, 38, 39, 40, 41, 42, 43, 44, 45] (by decide +kernel) (by decide +kernel)
set_option maxRecDepth 20000 in
theorem gX5_bare_X5_isVoid : GoodIn wsX5_bare (wsV RX5 38 RX5 yX5_isVoid wsX5_isVoid) := goodIn_app (goodIn_of _ (by decide +kernel)) ggX5_bare_X5_isVoid
set_option maxRecDepth 20000 in
theorem ggX5_bare_X5_save : GoodIn wsX5_bare wsX5_save := goodIn_r _ [22, 23, 24, 2, 33, 34, 35, 36, 37, 38, 39, 40, 41, 42, 43, 44, 45] (by decide +kernel) (by decide +kernel)
set_option maxRecDepth 20000 in
theorem gX5_bare_X5_save : GoodIn wsX5_bare (wsV RX5 104 RX5 yX5_save wsX5_save) := goodIn_app (goodIn_of _ (by decide +kernel)) ggX5_bare_X5_save
set_option maxRecDepth 20000 in
theorem ggX5_bare_X5_rest : GoodIn wsX5_bare wsX5_rest := goodIn_r _ [28, 12, 13, 14, 6, 15, 2, 33, 34, 35, 36, 37, 38, 39, 40, 41, 42, 43, 44, 45] (by decide +kernel) (by decide +kernel)
set_option maxRecDepth 20000 in
theorem gX5_bare_X5_rest : GoodIn wsX5_bare (wsV RX5 46 RX5 yX5_rest wsX5_rest) := goodIn_app (goodIn_of _ (by decide +kernel)) ggX5_bare_X5_rest
set_option maxRecDepth 20000 in
theorem ggX5_bare_X5_modulus : GoodIn wsX5_bare wsX5_modulus := goodIn_r _ [32, 12, 13, 14, 6, 15, 2, 16, 17, 18, 33, 34, 35, 36, 37, 38, 39, 40, 41, 42, 43, 44, 45] (by decide +kernel) (by decide +kernel)
set_option maxRecDepth 20000 in
theorem gX5_bare_X5_modulus : GoodIn wsX5_bare (wsV RX5 42 RX5 yX5_modulus wsX5_modulus) := goodIn_app (goodIn_of _ (by decide +kernel)) ggX5_bare_X5_modulus
theorem dX5_bare_0 : decode cX5_bare 0 = .ok (.aload_n 0, 1) := by decide +kernel
theorem dX5_bare_1 : decode cX5_bare 1 = .ok (.aload_n 0, 1) := by decide +kernel
theorem dX5_bare_2 : decode cX5_bare 2 = .ok (.iload_n 1, 1) := by decide +kernel
theorem dX5_bare_3 : decode cX5_bare 3 = .ok (.invokevirtual 107, 3) := by decide +kernel
theorem dX5_bare_6 : decode cX5_bare 6 = .ok (.ifCond .ne 7, 3) := by decide +kernel
theorem dX5_bare_9 : decode cX5_bare 9 = .ok (.iconst 1, 1) := by decide +kernel
theorem dX5_bare_10 : decode cX5_bare 10 = .ok (.goto 16, 3) := by decide +kernel
theorem dX5_bare_13 : decode cX5_bare 13 = .ok (.aload_n 0, 1) := by decide +kernel
theorem dX5_bare_14 : decode cX5_bare 14 = .ok (.iload_n 1, 1) := by decide +kernel
theorem dX5_bare_15 : decode cX5_bare 15 = .ok (.invokevirtual 38, 3) := by decide +kernel
theorem dX5_bare_18 : decode cX5_bare 18 = .ok (.ifCond .eq 7, 3) := by decide +kernel
theorem dX5_bare_21 : decode cX5_bare 21 = .ok (.iconst 2, 1) := by decide +kernel
theorem dX5_bare_22 : decode cX5_bare 22 = .ok (.goto 4, 3) := by decide +kernel
theorem dX5_bare_25 : decode cX5_bare 25 = .ok (.iconst 0, 1) := by decide +kernel
theorem dX5_bare_26 : decode cX5_bare 26 = .ok (.putfield 22, 3) := by decide +kernel
theorem dX5_bare_29 : decode cX5_bare 29 = .ok (.aload_n 0, 1) := by decide +kernel
theorem dX5_bare_30 : decode cX5_bare 30 = .ok (.getfield 22, 3) := by decide +kernel
theorem dX5_bare_33 : decode cX5_bare 33 = .ok (.ifCond .le 5, 3) := by decide +kernel
theorem dX5_bare_36 : decode cX5_bare 36 = .ok (.iconst 0, 1) := by decide +kernel
theorem dX5_bare_37 : decode cX5_bare 37 = .ok (.ireturn, 1) := by decide +kernel
theorem dX5_bare_38 : decode cX5_bare 38 = .ok (.aload_n 0, 1) := by decide +kernel
theorem dX5_bare_39 : decode cX5_bare 39 = .ok (.invokevirtual 104, 3) := by decide +kernel
theorem dX5_bare_42 : decode cX5_bare 42 = .ok (.aload_n 0, 1) := by decide +kernel
theorem dX5_bare_43 : decode cX5_bare 43 = .ok (.iload_n 1, 1) := by decide +kernel
theorem dX5_bare_44 : decode cX5_bare 44 = .ok (.invokevirtual 46, 3) := by decide +kernel
theorem dX5_bare_47 : decode cX5_bare 47 = .ok (.istore_n 2, 1) := by decide +kernel
theorem dX5_bare_48 : decode cX5_bare 48 = .ok (.aload_n 0, 1) := by decide +kernel
theorem dX5_bare_49 : decode cX5_bare 49 = .ok (.iload_n 1, 1) := by decide +kernel
theorem dX5_bare_50 : decode cX5_bare 50 = .ok (.invokevirtual 42, 3) := by decide +kernel
theorem dX5_bare_53 : decode cX5_bare 53 = .ok (.istore_n 3, 1) := by decide +kernel
theorem dX5_bare_54 : decode cX5_bare 54 = .ok (.aload_n 0, 1) := by decide +kernel
theorem dX5_bare_55 : decode cX5_bare 55 = .ok (.getfield 7, 3) := by decide +kernel
theorem dX5_bare_58 : decode cX5_bare 58 = .ok (.iconst 1, 1) := by decide +kernel
theorem dX5_bare_59 : decode cX5_bare 59 = .ok (.iconst 4, 1) := by decide +kernel
theorem dX5_bare_60 : decode cX5_bare 60 = .ok (.iload_n 1, 1) := by decide +kernel
theorem dX5_bare_61 : decode cX5_bare 61 = .ok (.imul, 1) := by decide +kernel
theorem dX5_bare_62 : decode cX5_bare 62 = .ok (.iadd, 1) := by decide +kernel
theorem dX5_bare_63 : decode cX5_bare 63 = .ok (.iconst 0, 1) := by decide +kernel
theorem dX5_bare_64 : decode cX5_bare 64 = .ok (.iadd, 1) := by decide +kernel
theorem dX5_bare_65 : decode cX5_bare 65 = .ok (.iconst 1, 1) := by decide +kernel
theorem dX5_bare_66 : decode cX5_bare 66 = .ok (.iastore, 1) := by decide +kernel
theorem dX5_bare_67 : decode cX5_bare 67 = .ok (.aload_n 0, 1) := by decide +kernel
theorem dX5_bare_68 : decode cX5_bare 68 = .ok (.getfield 7, 3) := by decide +kernel
theorem dX5_bare_71 : decode cX5_bare 71 = .ok (.iconst 1, 1) := by decide +kernel
theorem dX5_bare_72 : decode cX5_bare 72 = .ok (.iconst 4, 1) := by decide +kernel
theorem dX5_bare_73 : decode cX5_bare 73 = .ok (.iload_n 1, 1) := by decide +kernel
theorem dX5_bare_74 : decode cX5_bare 74 = .ok (.imul, 1) := by decide +kernel
theorem dX5_bare_75 : decode cX5_bare 75 = .ok (.iadd, 1) := by decide +kernel
theorem dX5_bare_76 : decode cX5_bare 76 = .ok (.iconst 1, 1) := by decide +kernel
theorem dX5_bare_77 : decode cX5_bare 77 = .ok (.iadd, 1) := by decide +kernel
theorem dX5_bare_78 : decode cX5_bare 78 = .ok (.iload_n 2, 1) := by decide +kernel
theorem dX5_bare_79 : decode cX5_bare 79 = .ok (.iastore, 1) := by decide +kernel
theorem dX5_bare_80 : decode cX5_bare 80 = .ok (.aload_n 0, 1) := by decide +kernel
theorem dX5_bare_81 : decode cX5_bare 81 = .ok (.getfield 7, 3) := by decide +kernel
theorem dX5_bare_84 : decode cX5_bare 84 = .ok (.iconst 1, 1) := by decide +kernel
theorem dX5_bare_85 : decode cX5_bare 85 = .ok (.iconst 4, 1) := by decide +kernel
theorem dX5_bare_86 : decode cX5_bare 86 = .ok (.iload_n 1, 1) := by decide +kernel
theorem dX5_bare_87 : decode cX5_bare 87 = .ok (.imul, 1) := by decide +kernel
theorem dX5_bare_88 : decode cX5_bare 88 = .ok (.iadd, 1) := by decide +kernel
theorem dX5_bare_89 : decode cX5_bare 89 = .ok (.iconst 2, 1) := by decide +kernel
theorem dX5_bare_90 : decode cX5_bare 90 = .ok (.iadd, 1) := by decide +kernel
theorem dX5_bare_91 : decode cX5_bare 91 = .ok (.iload_n 3, 1) := by decide +kernel
theorem dX5_bare_92 : decode cX5_bare 92 = .ok (.iastore, 1) := by decide +kernel
theorem dX5_bare_93 : decode cX5_bare 93 = .ok (.iload_n 3, 1) := by decide +kernel
theorem dX5_bare_94 : decode cX5_bare 94 = .ok (.ireturn, 1) := by decide +kernel
set_option maxRecDepth 20000 in
theorem ggX5_thin_X5_onSet : GoodIn wsX5_thin wsX5_onSet := goodIn_r _ [7, 2, 8, 9, 10, 6, 11, 12, 13, 14, 15, 66, 67, 68, 69, 70, 71, 72, 73, 74, 75, 76, 77, 78] (by decide +kernel) (by decide +kernel)
set_option maxRecDepth 20000 in
theorem gX5_thin_X5_onSet : GoodIn wsX5_thin (wsV RX5 77 RX5 yX5_onSet wsX5_onSet) := goodIn_app (goodIn_of _ (by decide +kernel)) ggX5_thin_X5_onSet
set_option maxRecDepth 20000 in
theorem ggX5_thin_X5_isPossible : GoodIn wsX5_thin wsX5_isPossible := goodIn_r _ [19, 2, 20, 21, 22, 6, 23, 24, 25, 26, 27, 12, 13, 14, 15, 28, 29, 30, 31, 32, 33, 34, 35, 36, 37, 38, 66, 67, 68, 69, 70, 71, 72, 73, 74, 75, 76, 77, 78] (by decide +kernel) (by decide +kernel)
set_option maxRecDepth 20000 in
theorem gX5_thin_X5_isPossible : GoodIn wsX5_thin (wsV RX5 67 RX5 yX5_isPossible wsX5_isPossible) := goodIn_app (goodIn_of _ (by decide +kernel)) ggX5_thin_X5_isPossible
set_option maxRecDepth 20000 in
theorem ggX5_thin_X5_save : GoodIn wsX5_thin wsX5_save := goodIn_r _ [42, 43, 44, 2, 66, 67, 68, 69, 70, 71, 72, 73, 74, 75, 76, 77, 78] (by decide +kernel) (by decide +kernel)
set_option maxRecDepth 20000 in
theorem gX5_thin_X5_save : GoodIn wsX5_thin (wsV RX5 104 RX5 yX5_save wsX5_save) := goodIn_app (goodIn_of _ (by decide +kernel)) ggX5_thin_X5_save
set_option maxRecDepth 20000 in
theorem ggX5_thin_X5_isTold : GoodIn wsX5_thin wsX5_isTold := goodIn_r _ [48, 8, 9, 10, 6, 11, 12, 13, 14, 15, 2, 3, 4, 5, 7, 49, 50, 51, 52, 53, 54, 55, 56, 57, 58, 16, 17, 18, 19, 20, 21, 22, 23, 24, 25, 26, 27, 28, 29, 30, 31, 32, 33, 34, 35, 36, 37, 38, 59, 60, 61, 62, 63, 64, 65, 66, 67, 68, 69, 70, 71, 72, 73, 74, 75, 76, 77, 78] (by decide +kernel) (by decide +kernel)
set_option maxRecDepth 20000 in
theorem gX5_thin_X5_isTold : GoodIn wsX5_thin (wsV RX5 110 RX5 yX5_isTold wsX5_isTold) := goodIn_app (goodIn_of _ (by decide +kernel)) ggX5_thin_X5_isTold
theorem dX5_thin_0 : decode cX5_thin 0 = .ok (.aload_n 0, 1) := by decide +kernel
theorem dX5_thin_1 : decode cX5_thin 1 = .ok (.aload_n 0, 1) := by decide +kernel
theorem dX5_thin_2 : decode cX5_thin 2 = .ok (.aload_n 0, 1) := by decide +kernel
theorem dX5_thin_3 : decode cX5_thin 3 = .ok (.invokevirtual 77, 3) := by decide +kernel
theorem dX5_thin_6 : decode cX5_thin 6 = .ok (.invokevirtual 67, 3) := by decide +kernel
theorem dX5_thin_9 : decode cX5_thin 9 = .ok (.ifCond .eq 7, 3) := by decide +kernel
theorem dX5_thin_12 : decode cX5_thin 12 = .ok (.iconst 0, 1) := by decide +kernel
theorem dX5_thin_13 : decode cX5_thin 13 = .ok (.goto 4, 3) := by decide +kernel
theorem dX5_thin_16 : decode cX5_thin 16 = .ok (.iconst 1, 1) := by decide +kernel
theorem dX5_thin_17 : decode cX5_thin 17 = .ok (.putfield 22, 3) := by decide +kernel
theorem dX5_thin_20 : decode cX5_thin 20 = .ok (.aload_n 0, 1) := by decide +kernel
theorem dX5_thin_21 : decode cX5_thin 21 = .ok (.getfield 22, 3) := by decide +kernel
theorem dX5_thin_24 : decode cX5_thin 24 = .ok (.ifCond .le 5, 3) := by decide +kernel
theorem dX5_thin_27 : decode cX5_thin 27 = .ok (.iconst 0, 1) := by decide +kernel
theorem dX5_thin_28 : decode cX5_thin 28 = .ok (.ireturn, 1) := by decide +kernel
theorem dX5_thin_29 : decode cX5_thin 29 = .ok (.aload_n 0, 1) := by decide +kernel
theorem dX5_thin_30 : decode cX5_thin 30 = .ok (.invokevirtual 104, 3) := by decide +kernel
theorem dX5_thin_33 : decode cX5_thin 33 = .ok (.iconst 0, 1) := by decide +kernel
theorem dX5_thin_34 : decode cX5_thin 34 = .ok (.istore_n 1, 1) := by decide +kernel
theorem dX5_thin_35 : decode cX5_thin 35 = .ok (.iconst 0, 1) := by decide +kernel
theorem dX5_thin_36 : decode cX5_thin 36 = .ok (.istore_n 2, 1) := by decide +kernel
theorem dX5_thin_37 : decode cX5_thin 37 = .ok (.iload_n 2, 1) := by decide +kernel
theorem dX5_thin_38 : decode cX5_thin 38 = .ok (.aload_n 0, 1) := by decide +kernel
theorem dX5_thin_39 : decode cX5_thin 39 = .ok (.getfield 7, 3) := by decide +kernel
theorem dX5_thin_42 : decode cX5_thin 42 = .ok (.iconst 0, 1) := by decide +kernel
theorem dX5_thin_43 : decode cX5_thin 43 = .ok (.iaload, 1) := by decide +kernel
theorem dX5_thin_44 : decode cX5_thin 44 = .ok (.if_icmp .ge 33, 3) := by decide +kernel
theorem dX5_thin_47 : decode cX5_thin 47 = .ok (.aload_n 0, 1) := by decide +kernel
theorem dX5_thin_48 : decode cX5_thin 48 = .ok (.iload_n 2, 1) := by decide +kernel
theorem dX5_thin_49 : decode cX5_thin 49 = .ok (.invokevirtual 110, 3) := by decide +kernel
theorem dX5_thin_52 : decode cX5_thin 52 = .ok (.ifCond .eq 19, 3) := by decide +kernel
theorem dX5_thin_55 : decode cX5_thin 55 = .ok (.aload_n 0, 1) := by decide +kernel
theorem dX5_thin_56 : decode cX5_thin 56 = .ok (.getfield 7, 3) := by decide +kernel
theorem dX5_thin_59 : decode cX5_thin 59 = .ok (.iconst 1, 1) := by decide +kernel
theorem dX5_thin_60 : decode cX5_thin 60 = .ok (.iconst 4, 1) := by decide +kernel
theorem dX5_thin_61 : decode cX5_thin 61 = .ok (.iload_n 2, 1) := by decide +kernel
theorem dX5_thin_62 : decode cX5_thin 62 = .ok (.imul, 1) := by decide +kernel
theorem dX5_thin_63 : decode cX5_thin 63 = .ok (.iadd, 1) := by decide +kernel
theorem dX5_thin_64 : decode cX5_thin 64 = .ok (.iconst 3, 1) := by decide +kernel
theorem dX5_thin_65 : decode cX5_thin 65 = .ok (.iadd, 1) := by decide +kernel
theorem dX5_thin_66 : decode cX5_thin 66 = .ok (.iconst 0, 1) := by decide +kernel
theorem dX5_thin_67 : decode cX5_thin 67 = .ok (.iastore, 1) := by decide +kernel
theorem dX5_thin_68 : decode cX5_thin 68 = .ok (.iinc 1 1, 3) := by decide +kernel
theorem dX5_thin_71 : decode cX5_thin 71 = .ok (.iinc 2 1, 3) := by decide +kernel
theorem dX5_thin_74 : decode cX5_thin 74 = .ok (.goto (-37), 3) := by decide +kernel
theorem dX5_thin_77 : decode cX5_thin 77 = .ok (.iload_n 1, 1) := by decide +kernel
theorem dX5_thin_78 : decode cX5_thin 78 = .ok (.ireturn, 1) := by decide +kernel
theorem dX5_bits_0 : decode cX5_bits 0 = .ok (.iconst 0, 1) := by decide +kernel
theorem dX5_bits_1 : decode cX5_bits 1 = .ok (.istore_n 1, 1) := by decide +kernel
theorem dX5_bits_2 : decode cX5_bits 2 = .ok (.iload_n 0, 1) := by decide +kernel
theorem dX5_bits_3 : decode cX5_bits 3 = .ok (.istore_n 2, 1) := by decide +kernel
theorem dX5_bits_4 : decode cX5_bits 4 = .ok (.iload_n 2, 1) := by decide +kernel
theorem dX5_bits_5 : decode cX5_bits 5 = .ok (.ifCond .eq 15, 3) := by decide +kernel
theorem dX5_bits_8 : decode cX5_bits 8 = .ok (.iinc 1 1, 3) := by decide +kernel
theorem dX5_bits_11 : decode cX5_bits 11 = .ok (.iload_n 2, 1) := by decide +kernel
theorem dX5_bits_12 : decode cX5_bits 12 = .ok (.iload_n 2, 1) := by decide +kernel
theorem dX5_bits_13 : decode cX5_bits 13 = .ok (.iconst 1, 1) := by decide +kernel
theorem dX5_bits_14 : decode cX5_bits 14 = .ok (.isub, 1) := by decide +kernel
theorem dX5_bits_15 : decode cX5_bits 15 = .ok (.iand, 1) := by decide +kernel
theorem dX5_bits_16 : decode cX5_bits 16 = .ok (.istore_n 2, 1) := by decide +kernel
theorem dX5_bits_17 : decode cX5_bits 17 = .ok (.goto (-13), 3) := by decide +kernel
theorem dX5_bits_20 : decode cX5_bits 20 = .ok (.iload_n 1, 1) := by decide +kernel
theorem dX5_bits_21 : decode cX5_bits 21 = .ok (.ireturn, 1) := by decide +kernel
set_option maxRecDepth 20000 in
theorem ggX5_mostTogether_X5_bits : GoodIn wsX5_mostTogether wsX5_bits := goodIn_r _ [5] (by decide +kernel) (by decide +kernel)
set_option maxRecDepth 20000 in
theorem gX5_mostTogether_X5_bits : GoodIn wsX5_mostTogether (va_wsS RX5 113 yX5_bits wsX5_bits) := goodIn_app (goodIn_of _ (by decide +kernel)) ggX5_mostTogether_X5_bits
set_option maxRecDepth 20000 in
theorem ggX5_mostTogether_X5_isPossible : GoodIn wsX5_mostTogether wsX5_isPossible := goodIn_r _ [9, 1, 10, 11, 12, 4, 13, 14, 15, 16, 17, 18, 19, 20, 21, 22, 23, 24, 25, 26, 27, 28, 29, 30, 31, 32, 33, 34, 35, 36, 37, 38, 39, 40, 41, 42, 43, 44, 45] (by decide +kernel) (by decide +kernel)
set_option maxRecDepth 20000 in
theorem gX5_mostTogether_X5_isPossible : GoodIn wsX5_mostTogether (wsV RX5 67 RX5 yX5_isPossible wsX5_isPossible) := goodIn_app (goodIn_of _ (by decide +kernel)) ggX5_mostTogether_X5_isPossible
theorem dX5_mostTogether_0 : decode cX5_mostTogether 0 = .ok (.iconst 0, 1) := by decide +kernel
theorem dX5_mostTogether_1 : decode cX5_mostTogether 1 = .ok (.istore_n 1, 1) := by decide +kernel
theorem dX5_mostTogether_2 : decode cX5_mostTogether 2 = .ok (.iconst 1, 1) := by decide +kernel
theorem dX5_mostTogether_3 : decode cX5_mostTogether 3 = .ok (.istore_n 2, 1) := by decide +kernel
theorem dX5_mostTogether_4 : decode cX5_mostTogether 4 = .ok (.iload_n 2, 1) := by decide +kernel
theorem dX5_mostTogether_5 : decode cX5_mostTogether 5 = .ok (.iconst 1, 1) := by decide +kernel
theorem dX5_mostTogether_6 : decode cX5_mostTogether 6 = .ok (.aload_n 0, 1) := by decide +kernel
theorem dX5_mostTogether_7 : decode cX5_mostTogether 7 = .ok (.getfield 7, 3) := by decide +kernel
theorem dX5_mostTogether_10 : decode cX5_mostTogether 10 = .ok (.iconst 0, 1) := by decide +kernel
theorem dX5_mostTogether_11 : decode cX5_mostTogether 11 = .ok (.iaload, 1) := by decide +kernel
theorem dX5_mostTogether_12 : decode cX5_mostTogether 12 = .ok (.ishl, 1) := by decide +kernel
theorem dX5_mostTogether_13 : decode cX5_mostTogether 13 = .ok (.if_icmp .ge 34, 3) := by decide +kernel
theorem dX5_mostTogether_16 : decode cX5_mostTogether 16 = .ok (.iload_n 2, 1) := by decide +kernel
theorem dX5_mostTogether_17 : decode cX5_mostTogether 17 = .ok (.invokestatic 113, 3) := by decide +kernel
theorem dX5_mostTogether_20 : decode cX5_mostTogether 20 = .ok (.iload_n 1, 1) := by decide +kernel
theorem dX5_mostTogether_21 : decode cX5_mostTogether 21 = .ok (.invokestatic 113, 3) := by decide +kernel
theorem dX5_mostTogether_24 : decode cX5_mostTogether 24 = .ok (.if_icmp .le 15, 3) := by decide +kernel
theorem dX5_mostTogether_27 : decode cX5_mostTogether 27 = .ok (.aload_n 0, 1) := by decide +kernel
theorem dX5_mostTogether_28 : decode cX5_mostTogether 28 = .ok (.iload_n 2, 1) := by decide +kernel
theorem dX5_mostTogether_29 : decode cX5_mostTogether 29 = .ok (.invokevirtual 67, 3) := by decide +kernel
theorem dX5_mostTogether_32 : decode cX5_mostTogether 32 = .ok (.ifCond .eq 7, 3) := by decide +kernel
theorem dX5_mostTogether_35 : decode cX5_mostTogether 35 = .ok (.iload_n 2, 1) := by decide +kernel
theorem dX5_mostTogether_36 : decode cX5_mostTogether 36 = .ok (.goto 4, 3) := by decide +kernel
theorem dX5_mostTogether_39 : decode cX5_mostTogether 39 = .ok (.iload_n 1, 1) := by decide +kernel
theorem dX5_mostTogether_40 : decode cX5_mostTogether 40 = .ok (.istore_n 1, 1) := by decide +kernel
theorem dX5_mostTogether_41 : decode cX5_mostTogether 41 = .ok (.iinc 2 1, 3) := by decide +kernel
theorem dX5_mostTogether_44 : decode cX5_mostTogether 44 = .ok (.goto (-40), 3) := by decide +kernel
theorem dX5_mostTogether_47 : decode cX5_mostTogether 47 = .ok (.iload_n 1, 1) := by decide +kernel
theorem dX5_mostTogether_48 : decode cX5_mostTogether 48 = .ok (.ireturn, 1) := by decide +kernel
set_option maxRecDepth 20000 in
theorem ggX5_agree_X5_mostTogether : GoodIn wsX5_agree wsX5_mostTogether := goodIn_r _ [7, 2, 8, 9, 6, 10, 11, 12, 13, 14, 15, 16, 17, 18, 19, 20, 21, 22, 23, 24, 25, 26, 27, 28, 29, 30, 31, 32, 33, 34, 35, 36, 37, 52, 53, 54, 55, 56, 57, 58, 59, 60, 61, 62, 63, 64] (by decide +kernel) (by decide +kernel)
set_option maxRecDepth 20000 in
theorem gX5_agree_X5_mostTogether : GoodIn wsX5_agree (wsV RX5 116 RX5 yX5_mostTogether wsX5_mostTogether) := goodIn_app (goodIn_of _ (by decide +kernel)) ggX5_agree_X5_mostTogether
set_option maxRecDepth 20000 in
theorem ggX5_agree_X5_isTooGreat : GoodIn wsX5_agree wsX5_isTooGreat := goodIn_r _ [41, 2, 42, 19, 20, 21, 6, 22, 23, 24, 25, 26, 27, 28, 29, 30, 31, 32, 33, 43, 44, 45, 52, 53, 54, 55, 56, 57, 58, 59, 60, 61, 62, 63, 64] (by decide +kernel) (by decide +kernel)
set_option maxRecDepth 20000 in
theorem gX5_agree_X5_isTooGreat : GoodIn wsX5_agree (wsV RX5 92 RX5 yX5_isTooGreat wsX5_isTooGreat) := goodIn_app (goodIn_of _ (by decide +kernel)) ggX5_agree_X5_isTooGreat
set_option maxRecDepth 20000 in
theorem ggX5_agree_X5_save : GoodIn wsX5_agree wsX5_save := goodIn_r _ [49, 50, 51, 2, 52, 53, 54, 55, 56, 57, 58, 59, 60, 61, 62, 63, 64] (by decide +kernel) (by decide +kernel)
set_option maxRecDepth 20000 in
theorem gX5_agree_X5_save : GoodIn wsX5_agree (wsV RX5 104 RX5 yX5_save wsX5_save) := goodIn_app (goodIn_of _ (by decide +kernel)) ggX5_agree_X5_save
set_option maxRecDepth 20000 in
theorem ggX5_agree_X5_bits : GoodIn wsX5_agree wsX5_bits := goodIn_r _ [10] (by decide +kernel) (by decide +kernel)
set_option maxRecDepth 20000 in
theorem gX5_agree_X5_bits : GoodIn wsX5_agree (va_wsS RX5 113 yX5_bits wsX5_bits) := goodIn_app (goodIn_of _ (by decide +kernel)) ggX5_agree_X5_bits
theorem dX5_agree_0 : decode cX5_agree 0 = .ok (.aload_n 0, 1) := by decide +kernel
theorem dX5_agree_1 : decode cX5_agree 1 = .ok (.invokevirtual 116, 3) := by decide +kernel
theorem dX5_agree_4 : decode cX5_agree 4 = .ok (.istore_n 1, 1) := by decide +kernel
theorem dX5_agree_5 : decode cX5_agree 5 = .ok (.aload_n 0, 1) := by decide +kernel
theorem dX5_agree_6 : decode cX5_agree 6 = .ok (.aload_n 0, 1) := by decide +kernel
theorem dX5_agree_7 : decode cX5_agree 7 = .ok (.iload_n 1, 1) := by decide +kernel
theorem dX5_agree_8 : decode cX5_agree 8 = .ok (.invokevirtual 92, 3) := by decide +kernel
theorem dX5_agree_11 : decode cX5_agree 11 = .ok (.ifCond .eq 7, 3) := by decide +kernel
theorem dX5_agree_14 : decode cX5_agree 14 = .ok (.iconst 1, 1) := by decide +kernel
theorem dX5_agree_15 : decode cX5_agree 15 = .ok (.goto 4, 3) := by decide +kernel
theorem dX5_agree_18 : decode cX5_agree 18 = .ok (.iconst 0, 1) := by decide +kernel
theorem dX5_agree_19 : decode cX5_agree 19 = .ok (.putfield 22, 3) := by decide +kernel
theorem dX5_agree_22 : decode cX5_agree 22 = .ok (.aload_n 0, 1) := by decide +kernel
theorem dX5_agree_23 : decode cX5_agree 23 = .ok (.getfield 22, 3) := by decide +kernel
theorem dX5_agree_26 : decode cX5_agree 26 = .ok (.ifCond .le 5, 3) := by decide +kernel
theorem dX5_agree_29 : decode cX5_agree 29 = .ok (.iconst 0, 1) := by decide +kernel
theorem dX5_agree_30 : decode cX5_agree 30 = .ok (.ireturn, 1) := by decide +kernel
theorem dX5_agree_31 : decode cX5_agree 31 = .ok (.aload_n 0, 1) := by decide +kernel
theorem dX5_agree_32 : decode cX5_agree 32 = .ok (.invokevirtual 104, 3) := by decide +kernel
theorem dX5_agree_35 : decode cX5_agree 35 = .ok (.iconst 0, 1) := by decide +kernel
theorem dX5_agree_36 : decode cX5_agree 36 = .ok (.istore_n 2, 1) := by decide +kernel
theorem dX5_agree_37 : decode cX5_agree 37 = .ok (.iload_n 2, 1) := by decide +kernel
theorem dX5_agree_38 : decode cX5_agree 38 = .ok (.aload_n 0, 1) := by decide +kernel
theorem dX5_agree_39 : decode cX5_agree 39 = .ok (.getfield 7, 3) := by decide +kernel
theorem dX5_agree_42 : decode cX5_agree 42 = .ok (.iconst 0, 1) := by decide +kernel
theorem dX5_agree_43 : decode cX5_agree 43 = .ok (.iaload, 1) := by decide +kernel
theorem dX5_agree_44 : decode cX5_agree 44 = .ok (.if_icmp .ge 26, 3) := by decide +kernel
theorem dX5_agree_47 : decode cX5_agree 47 = .ok (.aload_n 0, 1) := by decide +kernel
theorem dX5_agree_48 : decode cX5_agree 48 = .ok (.getfield 7, 3) := by decide +kernel
theorem dX5_agree_51 : decode cX5_agree 51 = .ok (.iconst 1, 1) := by decide +kernel
theorem dX5_agree_52 : decode cX5_agree 52 = .ok (.iconst 4, 1) := by decide +kernel
theorem dX5_agree_53 : decode cX5_agree 53 = .ok (.iload_n 2, 1) := by decide +kernel
theorem dX5_agree_54 : decode cX5_agree 54 = .ok (.imul, 1) := by decide +kernel
theorem dX5_agree_55 : decode cX5_agree 55 = .ok (.iadd, 1) := by decide +kernel
theorem dX5_agree_56 : decode cX5_agree 56 = .ok (.iconst 3, 1) := by decide +kernel
theorem dX5_agree_57 : decode cX5_agree 57 = .ok (.iadd, 1) := by decide +kernel
theorem dX5_agree_58 : decode cX5_agree 58 = .ok (.iload_n 1, 1) := by decide +kernel
theorem dX5_agree_59 : decode cX5_agree 59 = .ok (.iload_n 2, 1) := by decide +kernel
theorem dX5_agree_60 : decode cX5_agree 60 = .ok (.ishr, 1) := by decide +kernel
theorem dX5_agree_61 : decode cX5_agree 61 = .ok (.iconst 1, 1) := by decide +kernel
theorem dX5_agree_62 : decode cX5_agree 62 = .ok (.iand, 1) := by decide +kernel
theorem dX5_agree_63 : decode cX5_agree 63 = .ok (.iastore, 1) := by decide +kernel
theorem dX5_agree_64 : decode cX5_agree 64 = .ok (.iinc 2 1, 3) := by decide +kernel
theorem dX5_agree_67 : decode cX5_agree 67 = .ok (.goto (-30), 3) := by decide +kernel
theorem dX5_agree_70 : decode cX5_agree 70 = .ok (.iload_n 1, 1) := by decide +kernel
theorem dX5_agree_71 : decode cX5_agree 71 = .ok (.invokestatic 113, 3) := by decide +kernel
theorem dX5_agree_74 : decode cX5_agree 74 = .ok (.ireturn, 1) := by decide +kernel
set_option maxRecDepth 20000 in
theorem ggX5_append_X5_in : GoodIn wsX5_append wsX5_in := goodIn_r _ [7] (by decide +kernel) (by decide +kernel)
set_option maxRecDepth 20000 in
theorem gX5_append_X5_in : GoodIn wsX5_append (va_wsS RX5 84 yX5_in wsX5_in) := goodIn_app (goodIn_of _ (by decide +kernel)) ggX5_append_X5_in
theorem dX5_append_0 : decode cX5_append 0 = .ok (.aload_n 0, 1) := by decide +kernel
theorem dX5_append_1 : decode cX5_append 1 = .ok (.iload_n 1, 1) := by decide +kernel
theorem dX5_append_2 : decode cX5_append 2 = .ok (.bipush 33, 2) := by decide +kernel
theorem dX5_append_4 : decode cX5_append 4 = .ok (.bipush 126, 2) := by decide +kernel
theorem dX5_append_6 : decode cX5_append 6 = .ok (.invokestatic 84, 3) := by decide +kernel
theorem dX5_append_9 : decode cX5_append 9 = .ok (.ifCond .ne 7, 3) := by decide +kernel
theorem dX5_append_12 : decode cX5_append 12 = .ok (.iconst 1, 1) := by decide +kernel
theorem dX5_append_13 : decode cX5_append 13 = .ok (.goto 17, 3) := by decide +kernel
theorem dX5_append_16 : decode cX5_append 16 = .ok (.aload_n 0, 1) := by decide +kernel
theorem dX5_append_17 : decode cX5_append 17 = .ok (.getfield 119, 3) := by decide +kernel
theorem dX5_append_20 : decode cX5_append 20 = .ok (.bipush 60, 2) := by decide +kernel
theorem dX5_append_22 : decode cX5_append 22 = .ok (.if_icmp .ne 7, 3) := by decide +kernel
theorem dX5_append_25 : decode cX5_append 25 = .ok (.iconst 2, 1) := by decide +kernel
theorem dX5_append_26 : decode cX5_append 26 = .ok (.goto 4, 3) := by decide +kernel
theorem dX5_append_29 : decode cX5_append 29 = .ok (.iconst 0, 1) := by decide +kernel
theorem dX5_append_30 : decode cX5_append 30 = .ok (.putfield 22, 3) := by decide +kernel
theorem dX5_append_33 : decode cX5_append 33 = .ok (.aload_n 0, 1) := by decide +kernel
theorem dX5_append_34 : decode cX5_append 34 = .ok (.getfield 22, 3) := by decide +kernel
theorem dX5_append_37 : decode cX5_append 37 = .ok (.ifCond .le 5, 3) := by decide +kernel
theorem dX5_append_40 : decode cX5_append 40 = .ok (.iconst 0, 1) := by decide +kernel
theorem dX5_append_41 : decode cX5_append 41 = .ok (.ireturn, 1) := by decide +kernel
theorem dX5_append_42 : decode cX5_append 42 = .ok (.aload_n 0, 1) := by decide +kernel
theorem dX5_append_43 : decode cX5_append 43 = .ok (.getfield 16, 3) := by decide +kernel
theorem dX5_append_46 : decode cX5_append 46 = .ok (.aload_n 0, 1) := by decide +kernel
theorem dX5_append_47 : decode cX5_append 47 = .ok (.getfield 119, 3) := by decide +kernel
theorem dX5_append_50 : decode cX5_append 50 = .ok (.iload_n 1, 1) := by decide +kernel
theorem dX5_append_51 : decode cX5_append 51 = .ok (.iastore, 1) := by decide +kernel
theorem dX5_append_52 : decode cX5_append 52 = .ok (.aload_n 0, 1) := by decide +kernel
theorem dX5_append_53 : decode cX5_append 53 = .ok (.dup, 1) := by decide +kernel
theorem dX5_append_54 : decode cX5_append 54 = .ok (.getfield 119, 3) := by decide +kernel
theorem dX5_append_57 : decode cX5_append 57 = .ok (.iconst 1, 1) := by decide +kernel
theorem dX5_append_58 : decode cX5_append 58 = .ok (.iadd, 1) := by decide +kernel
theorem dX5_append_59 : decode cX5_append 59 = .ok (.putfield 119, 3) := by decide +kernel
theorem dX5_append_62 : decode cX5_append 62 = .ok (.aload_n 0, 1) := by decide +kernel
theorem dX5_append_63 : decode cX5_append 63 = .ok (.getfield 119, 3) := by decide +kernel
theorem dX5_append_66 : decode cX5_append 66 = .ok (.ireturn, 1) := by decide +kernel
theorem dX5_clearBuffer_0 : decode cX5_clearBuffer 0 = .ok (.aload_n 0, 1) := by decide +kernel
theorem dX5_clearBuffer_1 : decode cX5_clearBuffer 1 = .ok (.iconst 0, 1) := by decide +kernel
theorem dX5_clearBuffer_2 : decode cX5_clearBuffer 2 = .ok (.putfield 22, 3) := by decide +kernel
theorem dX5_clearBuffer_5 : decode cX5_clearBuffer 5 = .ok (.aload_n 0, 1) := by decide +kernel
theorem dX5_clearBuffer_6 : decode cX5_clearBuffer 6 = .ok (.getfield 119, 3) := by decide +kernel
theorem dX5_clearBuffer_9 : decode cX5_clearBuffer 9 = .ok (.istore_n 1, 1) := by decide +kernel
theorem dX5_clearBuffer_10 : decode cX5_clearBuffer 10 = .ok (.aload_n 0, 1) := by decide +kernel
theorem dX5_clearBuffer_11 : decode cX5_clearBuffer 11 = .ok (.iconst 0, 1) := by decide +kernel
theorem dX5_clearBuffer_12 : decode cX5_clearBuffer 12 = .ok (.putfield 119, 3) := by decide +kernel
theorem dX5_clearBuffer_15 : decode cX5_clearBuffer 15 = .ok (.iload_n 1, 1) := by decide +kernel
theorem dX5_clearBuffer_16 : decode cX5_clearBuffer 16 = .ok (.ireturn, 1) := by decide +kernel
theorem dX5_letter_0 : decode cX5_letter 0 = .ok (.aload_n 0, 1) := by decide +kernel
theorem dX5_letter_1 : decode cX5_letter 1 = .ok (.getfield 122, 3) := by decide +kernel
theorem dX5_letter_4 : decode cX5_letter 4 = .ok (.aload_n 0, 1) := by decide +kernel
theorem dX5_letter_5 : decode cX5_letter 5 = .ok (.getfield 119, 3) := by decide +kernel
theorem dX5_letter_8 : decode cX5_letter 8 = .ok (.if_icmp .ge 15, 3) := by decide +kernel
theorem dX5_letter_11 : decode cX5_letter 11 = .ok (.aload_n 0, 1) := by decide +kernel
theorem dX5_letter_12 : decode cX5_letter 12 = .ok (.getfield 16, 3) := by decide +kernel
theorem dX5_letter_15 : decode cX5_letter 15 = .ok (.aload_n 0, 1) := by decide +kernel
theorem dX5_letter_16 : decode cX5_letter 16 = .ok (.getfield 122, 3) := by decide +kernel
theorem dX5_letter_19 : decode cX5_letter 19 = .ok (.iaload, 1) := by decide +kernel
theorem dX5_letter_20 : decode cX5_letter 20 = .ok (.goto 4, 3) := by decide +kernel
theorem dX5_letter_23 : decode cX5_letter 23 = .ok (.iconst (-1), 1) := by decide +kernel
theorem dX5_letter_24 : decode cX5_letter 24 = .ok (.ireturn, 1) := by decide +kernel
theorem dX5_wants_0 : decode cX5_wants 0 = .ok (.aload_n 0, 1) := by decide +kernel
theorem dX5_wants_1 : decode cX5_wants 1 = .ok (.getfield 125, 3) := by decide +kernel
theorem dX5_wants_4 : decode cX5_wants 4 = .ok (.iconst (-1), 1) := by decide +kernel
theorem dX5_wants_5 : decode cX5_wants 5 = .ok (.if_icmp .ne 29, 3) := by decide +kernel
theorem dX5_wants_8 : decode cX5_wants 8 = .ok (.aload_n 0, 1) := by decide +kernel
theorem dX5_wants_9 : decode cX5_wants 9 = .ok (.iload_n 1, 1) := by decide +kernel
theorem dX5_wants_10 : decode cX5_wants 10 = .ok (.ifCond .eq 7, 3) := by decide +kernel
theorem dX5_wants_13 : decode cX5_wants 13 = .ok (.iconst (-1), 1) := by decide +kernel
theorem dX5_wants_14 : decode cX5_wants 14 = .ok (.goto 7, 3) := by decide +kernel
theorem dX5_wants_17 : decode cX5_wants 17 = .ok (.aload_n 0, 1) := by decide +kernel
theorem dX5_wants_18 : decode cX5_wants 18 = .ok (.getfield 122, 3) := by decide +kernel
theorem dX5_wants_21 : decode cX5_wants 21 = .ok (.putfield 125, 3) := by decide +kernel
theorem dX5_wants_24 : decode cX5_wants 24 = .ok (.aload_n 0, 1) := by decide +kernel
theorem dX5_wants_25 : decode cX5_wants 25 = .ok (.dup, 1) := by decide +kernel
theorem dX5_wants_26 : decode cX5_wants 26 = .ok (.getfield 122, 3) := by decide +kernel
theorem dX5_wants_29 : decode cX5_wants 29 = .ok (.iconst 1, 1) := by decide +kernel
theorem dX5_wants_30 : decode cX5_wants 30 = .ok (.iadd, 1) := by decide +kernel
theorem dX5_wants_31 : decode cX5_wants 31 = .ok (.putfield 122, 3) := by decide +kernel
theorem dX5_wants_34 : decode cX5_wants 34 = .ok (.return_, 1) := by decide +kernel
set_option maxRecDepth 20000 in
theorem ggX5_number_X5_letter : GoodIn wsX5_number wsX5_letter := goodIn_r _ [7, 2, 8, 9, 17, 18, 19, 20, 21, 22, 23, 24, 25, 26, 27, 28, 29] (by decide +kernel) (by decide +kernel)
set_option maxRecDepth 20000 in
theorem gX5_number_X5_letter : GoodIn wsX5_number (wsV RX5 128 RX5 yX5_letter wsX5_letter) := goodIn_app (goodIn_of _ (by decide +kernel)) ggX5_number_X5_letter
set_option maxRecDepth 20000 in
theorem ggX5_number_X5_in : GoodIn wsX5_number wsX5_in := goodIn_r _ [12] (by decide +kernel) (by decide +kernel)
set_option maxRecDepth 20000 in
theorem gX5_number_X5_in : GoodIn wsX5_number (va_wsS RX5 84 yX5_in wsX5_in) := goodIn_app (goodIn_of _ (by decide +kernel)) ggX5_number_X5_in
set_option maxRecDepth 20000 in
theorem ggX5_number_X5_wants : GoodIn wsX5_number wsX5_wants := goodIn_r _ [16, 1, 2, 17, 18, 19, 20, 21, 22, 23, 24, 25, 26, 27, 28, 29] (by decide +kernel) (by decide +kernel)
set_option maxRecDepth 20000 in
theorem gX5_number_X5_wants : GoodIn wsX5_number (wsV RX5 131 RX5 yX5_wants wsX5_wants) := goodIn_app (goodIn_of _ (by decide +kernel)) ggX5_number_X5_wants
theorem dX5_number_0 : decode cX5_number 0 = .ok (.aload_n 0, 1) := by decide +kernel
theorem dX5_number_1 : decode cX5_number 1 = .ok (.invokevirtual 128, 3) := by decide +kernel
theorem dX5_number_4 : decode cX5_number 4 = .ok (.bipush 48, 2) := by decide +kernel
theorem dX5_number_6 : decode cX5_number 6 = .ok (.isub, 1) := by decide +kernel
theorem dX5_number_7 : decode cX5_number 7 = .ok (.istore_n 2, 1) := by decide +kernel
theorem dX5_number_8 : decode cX5_number 8 = .ok (.aload_n 0, 1) := by decide +kernel
theorem dX5_number_9 : decode cX5_number 9 = .ok (.iload_n 2, 1) := by decide +kernel
theorem dX5_number_10 : decode cX5_number 10 = .ok (.iload_n 1, 1) := by decide +kernel
theorem dX5_number_11 : decode cX5_number 11 = .ok (.bipush 9, 2) := by decide +kernel
theorem dX5_number_13 : decode cX5_number 13 = .ok (.invokestatic 84, 3) := by decide +kernel
theorem dX5_number_16 : decode cX5_number 16 = .ok (.invokevirtual 131, 3) := by decide +kernel
theorem dX5_number_19 : decode cX5_number 19 = .ok (.aload_n 0, 1) := by decide +kernel
theorem dX5_number_20 : decode cX5_number 20 = .ok (.invokevirtual 128, 3) := by decide +kernel
theorem dX5_number_23 : decode cX5_number 23 = .ok (.bipush 48, 2) := by decide +kernel
theorem dX5_number_25 : decode cX5_number 25 = .ok (.isub, 1) := by decide +kernel
theorem dX5_number_26 : decode cX5_number 26 = .ok (.istore_n 3, 1) := by decide +kernel
theorem dX5_number_27 : decode cX5_number 27 = .ok (.aload_n 0, 1) := by decide +kernel
theorem dX5_number_28 : decode cX5_number 28 = .ok (.getfield 125, 3) := by decide +kernel
theorem dX5_number_31 : decode cX5_number 31 = .ok (.iconst (-1), 1) := by decide +kernel
theorem dX5_number_32 : decode cX5_number 32 = .ok (.if_icmp .ne 57, 3) := by decide +kernel
theorem dX5_number_35 : decode cX5_number 35 = .ok (.iload_n 2, 1) := by decide +kernel
theorem dX5_number_36 : decode cX5_number 36 = .ok (.ifCond .le 53, 3) := by decide +kernel
theorem dX5_number_39 : decode cX5_number 39 = .ok (.iload_n 3, 1) := by decide +kernel
theorem dX5_number_40 : decode cX5_number 40 = .ok (.iconst 0, 1) := by decide +kernel
theorem dX5_number_41 : decode cX5_number 41 = .ok (.bipush 9, 2) := by decide +kernel
theorem dX5_number_43 : decode cX5_number 43 = .ok (.invokestatic 84, 3) := by decide +kernel
theorem dX5_number_46 : decode cX5_number 46 = .ok (.ifCond .eq 43, 3) := by decide +kernel
theorem dX5_number_49 : decode cX5_number 49 = .ok (.bipush 10, 2) := by decide +kernel
theorem dX5_number_51 : decode cX5_number 51 = .ok (.iload_n 2, 1) := by decide +kernel
theorem dX5_number_52 : decode cX5_number 52 = .ok (.imul, 1) := by decide +kernel
theorem dX5_number_53 : decode cX5_number 53 = .ok (.iload_n 3, 1) := by decide +kernel
theorem dX5_number_54 : decode cX5_number 54 = .ok (.iadd, 1) := by decide +kernel
theorem dX5_number_55 : decode cX5_number 55 = .ok (.sipush 999, 3) := by decide +kernel
theorem dX5_number_58 : decode cX5_number 58 = .ok (.if_icmp .gt 31, 3) := by decide +kernel
theorem dX5_number_61 : decode cX5_number 61 = .ok (.bipush 10, 2) := by decide +kernel
theorem dX5_number_63 : decode cX5_number 63 = .ok (.iload_n 2, 1) := by decide +kernel
theorem dX5_number_64 : decode cX5_number 64 = .ok (.imul, 1) := by decide +kernel
theorem dX5_number_65 : decode cX5_number 65 = .ok (.iload_n 3, 1) := by decide +kernel
theorem dX5_number_66 : decode cX5_number 66 = .ok (.iadd, 1) := by decide +kernel
theorem dX5_number_67 : decode cX5_number 67 = .ok (.istore_n 2, 1) := by decide +kernel
theorem dX5_number_68 : decode cX5_number 68 = .ok (.aload_n 0, 1) := by decide +kernel
theorem dX5_number_69 : decode cX5_number 69 = .ok (.dup, 1) := by decide +kernel
theorem dX5_number_70 : decode cX5_number 70 = .ok (.getfield 122, 3) := by decide +kernel
theorem dX5_number_73 : decode cX5_number 73 = .ok (.iconst 1, 1) := by decide +kernel
theorem dX5_number_74 : decode cX5_number 74 = .ok (.iadd, 1) := by decide +kernel
theorem dX5_number_75 : decode cX5_number 75 = .ok (.putfield 122, 3) := by decide +kernel
theorem dX5_number_78 : decode cX5_number 78 = .ok (.aload_n 0, 1) := by decide +kernel
theorem dX5_number_79 : decode cX5_number 79 = .ok (.invokevirtual 128, 3) := by decide +kernel
theorem dX5_number_82 : decode cX5_number 82 = .ok (.bipush 48, 2) := by decide +kernel
theorem dX5_number_84 : decode cX5_number 84 = .ok (.isub, 1) := by decide +kernel
theorem dX5_number_85 : decode cX5_number 85 = .ok (.istore_n 3, 1) := by decide +kernel
theorem dX5_number_86 : decode cX5_number 86 = .ok (.goto (-59), 3) := by decide +kernel
theorem dX5_number_89 : decode cX5_number 89 = .ok (.iload_n 2, 1) := by decide +kernel
theorem dX5_number_90 : decode cX5_number 90 = .ok (.ireturn, 1) := by decide +kernel
set_option maxRecDepth 20000 in
theorem ggX5_readOne_X5_letter : GoodIn wsX5_readOne wsX5_letter := goodIn_r _ [7, 8, 9, 10, 23, 24, 25, 26, 27, 28, 29, 30, 31, 32, 33, 34, 35] (by decide +kernel) (by decide +kernel)
set_option maxRecDepth 20000 in
theorem gX5_readOne_X5_letter : GoodIn wsX5_readOne (wsV RX5 128 RX5 yX5_letter wsX5_letter) := goodIn_app (goodIn_of _ (by decide +kernel)) ggX5_readOne_X5_letter
set_option maxRecDepth 20000 in
theorem ggX5_readOne_X5_number : GoodIn wsX5_readOne wsX5_number := goodIn_r _ [14, 15, 8, 3, 4, 5, 6, 7, 9, 10, 16, 17, 18, 19, 20, 21, 22, 23, 24, 25, 26, 27, 28, 29, 30, 31, 32, 33, 34, 35] (by decide +kernel) (by decide +kernel)
set_option maxRecDepth 20000 in
theorem gX5_readOne_X5_number : GoodIn wsX5_readOne (wsV RX5 138 RX5 yX5_number wsX5_number) := goodIn_app (goodIn_of _ (by decide +kernel)) ggX5_readOne_X5_number
set_option maxRecDepth 20000 in
theorem ggX5_readOne_X5_wants : GoodIn wsX5_readOne wsX5_wants := goodIn_r _ [22, 15, 8, 23, 24, 25, 26, 27, 28, 29, 30, 31, 32, 33, 34, 35] (by decide +kernel) (by decide +kernel)
set_option maxRecDepth 20000 in
theorem gX5_readOne_X5_wants : GoodIn wsX5_readOne (wsV RX5 131 RX5 yX5_wants wsX5_wants) := goodIn_app (goodIn_of _ (by decide +kernel)) ggX5_readOne_X5_wants
theorem dX5_readOne_0 : decode cX5_readOne 0 = .ok (.iconst 3, 1) := by decide +kernel
theorem dX5_readOne_1 : decode cX5_readOne 1 = .ok (.aload_n 0, 1) := by decide +kernel
theorem dX5_readOne_2 : decode cX5_readOne 2 = .ok (.getfield 135, 3) := by decide +kernel
theorem dX5_readOne_5 : decode cX5_readOne 5 = .ok (.imul, 1) := by decide +kernel
theorem dX5_readOne_6 : decode cX5_readOne 6 = .ok (.istore_n 1, 1) := by decide +kernel
theorem dX5_readOne_7 : decode cX5_readOne 7 = .ok (.aload_n 0, 1) := by decide +kernel
theorem dX5_readOne_8 : decode cX5_readOne 8 = .ok (.getfield 19, 3) := by decide +kernel
theorem dX5_readOne_11 : decode cX5_readOne 11 = .ok (.iload_n 1, 1) := by decide +kernel
theorem dX5_readOne_12 : decode cX5_readOne 12 = .ok (.aload_n 0, 1) := by decide +kernel
theorem dX5_readOne_13 : decode cX5_readOne 13 = .ok (.invokevirtual 128, 3) := by decide +kernel
theorem dX5_readOne_16 : decode cX5_readOne 16 = .ok (.bipush 120, 2) := by decide +kernel
theorem dX5_readOne_18 : decode cX5_readOne 18 = .ok (.if_icmp .ne 7, 3) := by decide +kernel
theorem dX5_readOne_21 : decode cX5_readOne 21 = .ok (.iconst 1, 1) := by decide +kernel
theorem dX5_readOne_22 : decode cX5_readOne 22 = .ok (.goto 8, 3) := by decide +kernel
theorem dX5_readOne_25 : decode cX5_readOne 25 = .ok (.aload_n 0, 1) := by decide +kernel
theorem dX5_readOne_26 : decode cX5_readOne 26 = .ok (.iconst 1, 1) := by decide +kernel
theorem dX5_readOne_27 : decode cX5_readOne 27 = .ok (.invokevirtual 138, 3) := by decide +kernel
theorem dX5_readOne_30 : decode cX5_readOne 30 = .ok (.iastore, 1) := by decide +kernel
theorem dX5_readOne_31 : decode cX5_readOne 31 = .ok (.aload_n 0, 1) := by decide +kernel
theorem dX5_readOne_32 : decode cX5_readOne 32 = .ok (.aload_n 0, 1) := by decide +kernel
theorem dX5_readOne_33 : decode cX5_readOne 33 = .ok (.invokevirtual 128, 3) := by decide +kernel
theorem dX5_readOne_36 : decode cX5_readOne 36 = .ok (.bipush 120, 2) := by decide +kernel
theorem dX5_readOne_38 : decode cX5_readOne 38 = .ok (.if_icmp .ne 7, 3) := by decide +kernel
theorem dX5_readOne_41 : decode cX5_readOne 41 = .ok (.iconst 1, 1) := by decide +kernel
theorem dX5_readOne_42 : decode cX5_readOne 42 = .ok (.goto 4, 3) := by decide +kernel
theorem dX5_readOne_45 : decode cX5_readOne 45 = .ok (.iconst 0, 1) := by decide +kernel
theorem dX5_readOne_46 : decode cX5_readOne 46 = .ok (.invokevirtual 131, 3) := by decide +kernel
theorem dX5_readOne_49 : decode cX5_readOne 49 = .ok (.aload_n 0, 1) := by decide +kernel
theorem dX5_readOne_50 : decode cX5_readOne 50 = .ok (.aload_n 0, 1) := by decide +kernel
theorem dX5_readOne_51 : decode cX5_readOne 51 = .ok (.invokevirtual 128, 3) := by decide +kernel
theorem dX5_readOne_54 : decode cX5_readOne 54 = .ok (.bipush 61, 2) := by decide +kernel
theorem dX5_readOne_56 : decode cX5_readOne 56 = .ok (.if_icmp .ne 7, 3) := by decide +kernel
theorem dX5_readOne_59 : decode cX5_readOne 59 = .ok (.iconst 1, 1) := by decide +kernel
theorem dX5_readOne_60 : decode cX5_readOne 60 = .ok (.goto 4, 3) := by decide +kernel
theorem dX5_readOne_63 : decode cX5_readOne 63 = .ok (.iconst 0, 1) := by decide +kernel
theorem dX5_readOne_64 : decode cX5_readOne 64 = .ok (.invokevirtual 131, 3) := by decide +kernel
theorem dX5_readOne_67 : decode cX5_readOne 67 = .ok (.aload_n 0, 1) := by decide +kernel
theorem dX5_readOne_68 : decode cX5_readOne 68 = .ok (.getfield 19, 3) := by decide +kernel
theorem dX5_readOne_71 : decode cX5_readOne 71 = .ok (.iload_n 1, 1) := by decide +kernel
theorem dX5_readOne_72 : decode cX5_readOne 72 = .ok (.iconst 1, 1) := by decide +kernel
theorem dX5_readOne_73 : decode cX5_readOne 73 = .ok (.iadd, 1) := by decide +kernel
theorem dX5_readOne_74 : decode cX5_readOne 74 = .ok (.aload_n 0, 1) := by decide +kernel
theorem dX5_readOne_75 : decode cX5_readOne 75 = .ok (.iconst 0, 1) := by decide +kernel
theorem dX5_readOne_76 : decode cX5_readOne 76 = .ok (.invokevirtual 138, 3) := by decide +kernel
theorem dX5_readOne_79 : decode cX5_readOne 79 = .ok (.iastore, 1) := by decide +kernel
theorem dX5_readOne_80 : decode cX5_readOne 80 = .ok (.aload_n 0, 1) := by decide +kernel
theorem dX5_readOne_81 : decode cX5_readOne 81 = .ok (.aload_n 0, 1) := by decide +kernel
theorem dX5_readOne_82 : decode cX5_readOne 82 = .ok (.invokevirtual 128, 3) := by decide +kernel
theorem dX5_readOne_85 : decode cX5_readOne 85 = .ok (.bipush 37, 2) := by decide +kernel
theorem dX5_readOne_87 : decode cX5_readOne 87 = .ok (.if_icmp .ne 7, 3) := by decide +kernel
theorem dX5_readOne_90 : decode cX5_readOne 90 = .ok (.iconst 1, 1) := by decide +kernel
theorem dX5_readOne_91 : decode cX5_readOne 91 = .ok (.goto 4, 3) := by decide +kernel
theorem dX5_readOne_94 : decode cX5_readOne 94 = .ok (.iconst 0, 1) := by decide +kernel
theorem dX5_readOne_95 : decode cX5_readOne 95 = .ok (.invokevirtual 131, 3) := by decide +kernel
theorem dX5_readOne_98 : decode cX5_readOne 98 = .ok (.aload_n 0, 1) := by decide +kernel
theorem dX5_readOne_99 : decode cX5_readOne 99 = .ok (.getfield 19, 3) := by decide +kernel
theorem dX5_readOne_102 : decode cX5_readOne 102 = .ok (.iload_n 1, 1) := by decide +kernel
theorem dX5_readOne_103 : decode cX5_readOne 103 = .ok (.iconst 2, 1) := by decide +kernel
theorem dX5_readOne_104 : decode cX5_readOne 104 = .ok (.iadd, 1) := by decide +kernel
theorem dX5_readOne_105 : decode cX5_readOne 105 = .ok (.aload_n 0, 1) := by decide +kernel
theorem dX5_readOne_106 : decode cX5_readOne 106 = .ok (.iconst 1, 1) := by decide +kernel
theorem dX5_readOne_107 : decode cX5_readOne 107 = .ok (.invokevirtual 138, 3) := by decide +kernel
theorem dX5_readOne_110 : decode cX5_readOne 110 = .ok (.iastore, 1) := by decide +kernel
theorem dX5_readOne_111 : decode cX5_readOne 111 = .ok (.aload_n 0, 1) := by decide +kernel
theorem dX5_readOne_112 : decode cX5_readOne 112 = .ok (.dup, 1) := by decide +kernel
theorem dX5_readOne_113 : decode cX5_readOne 113 = .ok (.getfield 135, 3) := by decide +kernel
theorem dX5_readOne_116 : decode cX5_readOne 116 = .ok (.iconst 1, 1) := by decide +kernel
theorem dX5_readOne_117 : decode cX5_readOne 117 = .ok (.iadd, 1) := by decide +kernel
theorem dX5_readOne_118 : decode cX5_readOne 118 = .ok (.putfield 135, 3) := by decide +kernel
theorem dX5_readOne_121 : decode cX5_readOne 121 = .ok (.return_, 1) := by decide +kernel
set_option maxRecDepth 20000 in
theorem ggX5_readBuffer_X5_readOne : GoodIn wsX5_readBuffer wsX5_readOne := goodIn_r _ [9, 1, 10, 11, 12, 13, 8, 14, 2, 4, 15, 16, 17, 18, 19, 3, 20, 21, 22, 23, 24, 25, 26, 27, 28, 29, 30, 31, 32, 33, 34, 35, 36, 37, 38, 39] (by decide +kernel) (by decide +kernel)
set_option maxRecDepth 20000 in
theorem gX5_readBuffer_X5_readOne : GoodIn wsX5_readBuffer (wsV RX5 141 RX5 yX5_readOne wsX5_readOne) := goodIn_app (goodIn_of _ (by decide +kernel)) ggX5_readBuffer_X5_readOne
set_option maxRecDepth 20000 in
theorem ggX5_readBuffer_X5_letter : GoodIn wsX5_readBuffer wsX5_letter := goodIn_r _ [14, 2, 4, 15, 27, 28, 29, 30, 31, 32, 33, 34, 35, 36, 37, 38, 39] (by decide +kernel) (by decide +kernel)
set_option maxRecDepth 20000 in
theorem gX5_readBuffer_X5_letter : GoodIn wsX5_readBuffer (wsV RX5 128 RX5 yX5_letter wsX5_letter) := goodIn_app (goodIn_of _ (by decide +kernel)) ggX5_readBuffer_X5_letter
set_option maxRecDepth 20000 in
theorem ggX5_readBuffer_X5_wants : GoodIn wsX5_readBuffer wsX5_wants := goodIn_r _ [26, 3, 2, 27, 28, 29, 30, 31, 32, 33, 34, 35, 36, 37, 38, 39] (by decide +kernel) (by decide +kernel)
set_option maxRecDepth 20000 in
theorem gX5_readBuffer_X5_wants : GoodIn wsX5_readBuffer (wsV RX5 131 RX5 yX5_wants wsX5_wants) := goodIn_app (goodIn_of _ (by decide +kernel)) ggX5_readBuffer_X5_wants
theorem dX5_readBuffer_0 : decode cX5_readBuffer 0 = .ok (.aload_n 0, 1) := by decide +kernel
theorem dX5_readBuffer_1 : decode cX5_readBuffer 1 = .ok (.iconst 0, 1) := by decide +kernel
theorem dX5_readBuffer_2 : decode cX5_readBuffer 2 = .ok (.putfield 135, 3) := by decide +kernel
theorem dX5_readBuffer_5 : decode cX5_readBuffer 5 = .ok (.aload_n 0, 1) := by decide +kernel
theorem dX5_readBuffer_6 : decode cX5_readBuffer 6 = .ok (.iconst 0, 1) := by decide +kernel
theorem dX5_readBuffer_7 : decode cX5_readBuffer 7 = .ok (.putfield 122, 3) := by decide +kernel
theorem dX5_readBuffer_10 : decode cX5_readBuffer 10 = .ok (.aload_n 0, 1) := by decide +kernel
theorem dX5_readBuffer_11 : decode cX5_readBuffer 11 = .ok (.iconst (-1), 1) := by decide +kernel
theorem dX5_readBuffer_12 : decode cX5_readBuffer 12 = .ok (.putfield 125, 3) := by decide +kernel
theorem dX5_readBuffer_15 : decode cX5_readBuffer 15 = .ok (.iconst 1, 1) := by decide +kernel
theorem dX5_readBuffer_16 : decode cX5_readBuffer 16 = .ok (.istore_n 1, 1) := by decide +kernel
theorem dX5_readBuffer_17 : decode cX5_readBuffer 17 = .ok (.iload_n 1, 1) := by decide +kernel
theorem dX5_readBuffer_18 : decode cX5_readBuffer 18 = .ok (.ifCond .eq 71, 3) := by decide +kernel
theorem dX5_readBuffer_21 : decode cX5_readBuffer 21 = .ok (.aload_n 0, 1) := by decide +kernel
theorem dX5_readBuffer_22 : decode cX5_readBuffer 22 = .ok (.invokevirtual 141, 3) := by decide +kernel
theorem dX5_readBuffer_25 : decode cX5_readBuffer 25 = .ok (.aload_n 0, 1) := by decide +kernel
theorem dX5_readBuffer_26 : decode cX5_readBuffer 26 = .ok (.getfield 125, 3) := by decide +kernel
theorem dX5_readBuffer_29 : decode cX5_readBuffer 29 = .ok (.iconst (-1), 1) := by decide +kernel
theorem dX5_readBuffer_30 : decode cX5_readBuffer 30 = .ok (.if_icmp .ne 18, 3) := by decide +kernel
theorem dX5_readBuffer_33 : decode cX5_readBuffer 33 = .ok (.aload_n 0, 1) := by decide +kernel
theorem dX5_readBuffer_34 : decode cX5_readBuffer 34 = .ok (.getfield 122, 3) := by decide +kernel
theorem dX5_readBuffer_37 : decode cX5_readBuffer 37 = .ok (.aload_n 0, 1) := by decide +kernel
theorem dX5_readBuffer_38 : decode cX5_readBuffer 38 = .ok (.getfield 119, 3) := by decide +kernel
theorem dX5_readBuffer_41 : decode cX5_readBuffer 41 = .ok (.if_icmp .ge 7, 3) := by decide +kernel
theorem dX5_readBuffer_44 : decode cX5_readBuffer 44 = .ok (.iconst 1, 1) := by decide +kernel
theorem dX5_readBuffer_45 : decode cX5_readBuffer 45 = .ok (.goto 4, 3) := by decide +kernel
theorem dX5_readBuffer_48 : decode cX5_readBuffer 48 = .ok (.iconst 0, 1) := by decide +kernel
theorem dX5_readBuffer_49 : decode cX5_readBuffer 49 = .ok (.istore_n 1, 1) := by decide +kernel
theorem dX5_readBuffer_50 : decode cX5_readBuffer 50 = .ok (.iload_n 1, 1) := by decide +kernel
theorem dX5_readBuffer_51 : decode cX5_readBuffer 51 = .ok (.ifCond .eq (-34), 3) := by decide +kernel
theorem dX5_readBuffer_54 : decode cX5_readBuffer 54 = .ok (.aload_n 0, 1) := by decide +kernel
theorem dX5_readBuffer_55 : decode cX5_readBuffer 55 = .ok (.aload_n 0, 1) := by decide +kernel
theorem dX5_readBuffer_56 : decode cX5_readBuffer 56 = .ok (.invokevirtual 128, 3) := by decide +kernel
theorem dX5_readBuffer_59 : decode cX5_readBuffer 59 = .ok (.bipush 59, 2) := by decide +kernel
theorem dX5_readBuffer_61 : decode cX5_readBuffer 61 = .ok (.if_icmp .ne 7, 3) := by decide +kernel
theorem dX5_readBuffer_64 : decode cX5_readBuffer 64 = .ok (.iconst 1, 1) := by decide +kernel
theorem dX5_readBuffer_65 : decode cX5_readBuffer 65 = .ok (.goto 4, 3) := by decide +kernel
theorem dX5_readBuffer_68 : decode cX5_readBuffer 68 = .ok (.iconst 0, 1) := by decide +kernel
theorem dX5_readBuffer_69 : decode cX5_readBuffer 69 = .ok (.invokevirtual 131, 3) := by decide +kernel
theorem dX5_readBuffer_72 : decode cX5_readBuffer 72 = .ok (.aload_n 0, 1) := by decide +kernel
theorem dX5_readBuffer_73 : decode cX5_readBuffer 73 = .ok (.getfield 125, 3) := by decide +kernel
theorem dX5_readBuffer_76 : decode cX5_readBuffer 76 = .ok (.iconst (-1), 1) := by decide +kernel
theorem dX5_readBuffer_77 : decode cX5_readBuffer 77 = .ok (.if_icmp .ne 7, 3) := by decide +kernel
theorem dX5_readBuffer_80 : decode cX5_readBuffer 80 = .ok (.iconst 1, 1) := by decide +kernel
theorem dX5_readBuffer_81 : decode cX5_readBuffer 81 = .ok (.goto 4, 3) := by decide +kernel
theorem dX5_readBuffer_84 : decode cX5_readBuffer 84 = .ok (.iconst 0, 1) := by decide +kernel
theorem dX5_readBuffer_85 : decode cX5_readBuffer 85 = .ok (.istore_n 1, 1) := by decide +kernel
theorem dX5_readBuffer_86 : decode cX5_readBuffer 86 = .ok (.goto (-69), 3) := by decide +kernel
theorem dX5_readBuffer_89 : decode cX5_readBuffer 89 = .ok (.aload_n 0, 1) := by decide +kernel
theorem dX5_readBuffer_90 : decode cX5_readBuffer 90 = .ok (.getfield 125, 3) := by decide +kernel
theorem dX5_readBuffer_93 : decode cX5_readBuffer 93 = .ok (.ireturn, 1) := by decide +kernel
set_option maxRecDepth 20000 in
theorem ggX5_firstError_X5_readBuffer : GoodIn wsX5_firstError wsX5_readBuffer := goodIn_r _ [7, 8, 9, 10, 2, 11, 12, 13, 6, 14, 15, 16, 17, 18, 19, 20, 21, 22, 23, 24, 25, 26, 27, 28, 29, 30, 31, 32, 33, 34, 35, 36, 37, 38, 39, 40, 41, 42, 43, 44] (by decide +kernel) (by decide +kernel)
set_option maxRecDepth 20000 in
theorem gX5_firstError_X5_readBuffer : GoodIn wsX5_firstError (wsV RX5 144 RX5 yX5_readBuffer wsX5_readBuffer) := goodIn_app (goodIn_of _ (by decide +kernel)) ggX5_firstError_X5_readBuffer
theorem dX5_firstError_0 : decode cX5_firstError 0 = .ok (.aload_n 0, 1) := by decide +kernel
theorem dX5_firstError_1 : decode cX5_firstError 1 = .ok (.iconst 0, 1) := by decide +kernel
theorem dX5_firstError_2 : decode cX5_firstError 2 = .ok (.putfield 22, 3) := by decide +kernel
theorem dX5_firstError_5 : decode cX5_firstError 5 = .ok (.aload_n 0, 1) := by decide +kernel
theorem dX5_firstError_6 : decode cX5_firstError 6 = .ok (.invokevirtual 144, 3) := by decide +kernel
theorem dX5_firstError_9 : decode cX5_firstError 9 = .ok (.istore_n 1, 1) := by decide +kernel
theorem dX5_firstError_10 : decode cX5_firstError 10 = .ok (.iload_n 1, 1) := by decide +kernel
theorem dX5_firstError_11 : decode cX5_firstError 11 = .ok (.iconst (-1), 1) := by decide +kernel
theorem dX5_firstError_12 : decode cX5_firstError 12 = .ok (.if_icmp .ne 10, 3) := by decide +kernel
theorem dX5_firstError_15 : decode cX5_firstError 15 = .ok (.aload_n 0, 1) := by decide +kernel
theorem dX5_firstError_16 : decode cX5_firstError 16 = .ok (.getfield 119, 3) := by decide +kernel
theorem dX5_firstError_19 : decode cX5_firstError 19 = .ok (.goto 4, 3) := by decide +kernel

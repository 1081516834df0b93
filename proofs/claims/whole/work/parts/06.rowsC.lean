set_option maxRecDepth 20000 in
theorem ggX4_without_X3_has : GoodIn wsX4_without wsX3_has := goodIn_r _ [10, 11, 68, 69, 70, 71, 72] (by decide +kernel) (by decide +kernel)
set_option maxRecDepth 20000 in
theorem gX4_without_X3_has : GoodIn wsX4_without (wsV RX4 82 RX3 yX3_has wsX3_has) := goodIn_app (goodIn_of _ (by decide +kernel)) ggX4_without_X3_has
set_option maxRecDepth 20000 in
theorem ggX4_without_X4_bit : GoodIn wsX4_without wsX4_bit := goodIn_r _ [15] (by decide +kernel) (by decide +kernel)
set_option maxRecDepth 20000 in
theorem gX4_without_X4_bit : GoodIn wsX4_without (va_wsS RX4 101 yX4_bit wsX4_bit) := goodIn_app (goodIn_of _ (by decide +kernel)) ggX4_without_X4_bit
set_option maxRecDepth 20000 in
theorem ggX4_without_X4_joinedOf : GoodIn wsX4_without wsX4_joinedOf := goodIn_r _ [19, 5, 20, 21, 22, 23, 9, 24, 11, 13, 14, 15, 25, 26, 27, 28, 29, 30, 31, 32, 33, 34, 35, 36, 37, 38, 39, 40, 41, 12, 42, 43, 44, 45, 46, 47, 48, 49, 50, 51, 52, 53, 54, 55, 56, 57, 58, 59, 60, 61, 62, 63, 64, 65, 66, 67, 73, 74, 68, 69, 70, 71, 72, 75, 76, 77, 78, 79] (by decide +kernel) (by decide +kernel)
set_option maxRecDepth 20000 in
theorem gX4_without_X4_joinedOf : GoodIn wsX4_without (wsV RX4 203 RX4 yX4_joinedOf wsX4_joinedOf) := goodIn_app (goodIn_of _ (by decide +kernel)) ggX4_without_X4_joinedOf
theorem dX4_without_0 : decode cX4_without 0 = .ok (.aload_n 0, 1) := by decide +kernel
theorem dX4_without_1 : decode cX4_without 1 = .ok (.getfield 17, 3) := by decide +kernel
theorem dX4_without_4 : decode cX4_without 4 = .ok (.iload_n 1, 1) := by decide +kernel
theorem dX4_without_5 : decode cX4_without 5 = .ok (.invokevirtual 82, 3) := by decide +kernel
theorem dX4_without_8 : decode cX4_without 8 = .ok (.ifCond .ne 13, 3) := by decide +kernel
theorem dX4_without_11 : decode cX4_without 11 = .ok (.new 86, 3) := by decide +kernel
theorem dX4_without_14 : decode cX4_without 14 = .ok (.dup, 1) := by decide +kernel
theorem dX4_without_15 : decode cX4_without 15 = .ok (.ldc 88, 2) := by decide +kernel
theorem dX4_without_17 : decode cX4_without 17 = .ok (.invokespecial 90, 3) := by decide +kernel
theorem dX4_without_20 : decode cX4_without 20 = .ok (.athrow, 1) := by decide +kernel
theorem dX4_without_21 : decode cX4_without 21 = .ok (.iload_n 2, 1) := by decide +kernel
theorem dX4_without_22 : decode cX4_without 22 = .ok (.ifCond .lt 8, 3) := by decide +kernel
theorem dX4_without_25 : decode cX4_without 25 = .ok (.iload_n 2, 1) := by decide +kernel
theorem dX4_without_26 : decode cX4_without 26 = .ok (.iconst 1, 1) := by decide +kernel
theorem dX4_without_27 : decode cX4_without 27 = .ok (.if_icmp .le 13, 3) := by decide +kernel
theorem dX4_without_30 : decode cX4_without 30 = .ok (.new 59, 3) := by decide +kernel
theorem dX4_without_33 : decode cX4_without 33 = .ok (.dup, 1) := by decide +kernel
theorem dX4_without_34 : decode cX4_without 34 = .ok (.ldc 201, 2) := by decide +kernel
theorem dX4_without_36 : decode cX4_without 36 = .ok (.invokespecial 63, 3) := by decide +kernel
theorem dX4_without_39 : decode cX4_without 39 = .ok (.athrow, 1) := by decide +kernel
theorem dX4_without_40 : decode cX4_without 40 = .ok (.aload_n 0, 1) := by decide +kernel
theorem dX4_without_41 : decode cX4_without 41 = .ok (.aload_n 0, 1) := by decide +kernel
theorem dX4_without_42 : decode cX4_without 42 = .ok (.getfield 17, 3) := by decide +kernel
theorem dX4_without_45 : decode cX4_without 45 = .ok (.getfield 98, 3) := by decide +kernel
theorem dX4_without_48 : decode cX4_without 48 = .ok (.iload_n 1, 1) := by decide +kernel
theorem dX4_without_49 : decode cX4_without 49 = .ok (.invokestatic 101, 3) := by decide +kernel
theorem dX4_without_52 : decode cX4_without 52 = .ok (.iconst (-1), 1) := by decide +kernel
theorem dX4_without_53 : decode cX4_without 53 = .ok (.ixor, 1) := by decide +kernel
theorem dX4_without_54 : decode cX4_without 54 = .ok (.iand, 1) := by decide +kernel
theorem dX4_without_55 : decode cX4_without 55 = .ok (.iload_n 2, 1) := by decide +kernel
theorem dX4_without_56 : decode cX4_without 56 = .ok (.invokevirtual 203, 3) := by decide +kernel
theorem dX4_without_59 : decode cX4_without 59 = .ok (.lreturn, 1) := by decide +kernel
set_option maxRecDepth 20000 in
theorem ggX4_most_X4_bit : GoodIn wsX4_most wsX4_bit := goodIn_r _ [5] (by decide +kernel) (by decide +kernel)
set_option maxRecDepth 20000 in
theorem gX4_most_X4_bit : GoodIn wsX4_most (va_wsS RX4 101 yX4_bit wsX4_bit) := goodIn_app (goodIn_of _ (by decide +kernel)) ggX4_most_X4_bit
set_option maxRecDepth 20000 in
theorem ggX4_most_J6_bitCount_0f7a4 : GoodIn wsX4_most wsJ6_bitCount_0f7a4 := goodIn_r _ [9, 10, 11, 12] (by decide +kernel) (by decide +kernel)
set_option maxRecDepth 20000 in
theorem gX4_most_J6_bitCount_0f7a4 : GoodIn wsX4_most (va_wsS RX4 148 yJ6_bitCount_0f7a4 wsJ6_bitCount_0f7a4) := goodIn_app (goodIn_of _ (by decide +kernel)) ggX4_most_J6_bitCount_0f7a4
set_option maxRecDepth 20000 in
theorem ggX4_most_X3_arePossible : GoodIn wsX4_most wsX3_arePossible := goodIn_r _ [17, 18, 3, 4, 5, 19, 20, 21, 16, 22, 23, 32, 33, 34, 35, 36] (by decide +kernel) (by decide +kernel)
set_option maxRecDepth 20000 in
theorem gX4_most_X3_arePossible : GoodIn wsX4_most (wsV RX4 136 RX3 yX3_arePossible wsX3_arePossible) := goodIn_app (goodIn_of _ (by decide +kernel)) ggX4_most_X3_arePossible
theorem dX4_most_0 : decode cX4_most 0 = .ok (.iconst 0, 1) := by decide +kernel
theorem dX4_most_1 : decode cX4_most 1 = .ok (.istore_n 1, 1) := by decide +kernel
theorem dX4_most_2 : decode cX4_most 2 = .ok (.iconst 0, 1) := by decide +kernel
theorem dX4_most_3 : decode cX4_most 3 = .ok (.istore_n 2, 1) := by decide +kernel
theorem dX4_most_4 : decode cX4_most 4 = .ok (.iconst 1, 1) := by decide +kernel
theorem dX4_most_5 : decode cX4_most 5 = .ok (.istore_n 3, 1) := by decide +kernel
theorem dX4_most_6 : decode cX4_most 6 = .ok (.iload_n 3, 1) := by decide +kernel
theorem dX4_most_7 : decode cX4_most 7 = .ok (.aload_n 0, 1) := by decide +kernel
theorem dX4_most_8 : decode cX4_most 8 = .ok (.getfield 17, 3) := by decide +kernel
theorem dX4_most_11 : decode cX4_most 11 = .ok (.getfield 95, 3) := by decide +kernel
theorem dX4_most_14 : decode cX4_most 14 = .ok (.invokestatic 101, 3) := by decide +kernel
theorem dX4_most_17 : decode cX4_most 17 = .ok (.if_icmp .ge 37, 3) := by decide +kernel
theorem dX4_most_20 : decode cX4_most 20 = .ok (.iload_n 3, 1) := by decide +kernel
theorem dX4_most_21 : decode cX4_most 21 = .ok (.invokestatic 148, 3) := by decide +kernel
theorem dX4_most_24 : decode cX4_most 24 = .ok (.istore 4, 2) := by decide +kernel
theorem dX4_most_26 : decode cX4_most 26 = .ok (.iload 4, 2) := by decide +kernel
theorem dX4_most_28 : decode cX4_most 28 = .ok (.iload_n 2, 1) := by decide +kernel
theorem dX4_most_29 : decode cX4_most 29 = .ok (.if_icmp .le 19, 3) := by decide +kernel
theorem dX4_most_32 : decode cX4_most 32 = .ok (.aload_n 0, 1) := by decide +kernel
theorem dX4_most_33 : decode cX4_most 33 = .ok (.getfield 17, 3) := by decide +kernel
theorem dX4_most_36 : decode cX4_most 36 = .ok (.iload_n 3, 1) := by decide +kernel
theorem dX4_most_37 : decode cX4_most 37 = .ok (.invokevirtual 136, 3) := by decide +kernel
theorem dX4_most_40 : decode cX4_most 40 = .ok (.ifCond .eq 8, 3) := by decide +kernel
theorem dX4_most_43 : decode cX4_most 43 = .ok (.iload_n 3, 1) := by decide +kernel
theorem dX4_most_44 : decode cX4_most 44 = .ok (.istore_n 1, 1) := by decide +kernel
theorem dX4_most_45 : decode cX4_most 45 = .ok (.iload 4, 2) := by decide +kernel
theorem dX4_most_47 : decode cX4_most 47 = .ok (.istore_n 2, 1) := by decide +kernel
theorem dX4_most_48 : decode cX4_most 48 = .ok (.iinc 3 1, 3) := by decide +kernel
theorem dX4_most_51 : decode cX4_most 51 = .ok (.goto (-45), 3) := by decide +kernel
theorem dX4_most_54 : decode cX4_most 54 = .ok (.iload_n 1, 1) := by decide +kernel
theorem dX4_most_55 : decode cX4_most 55 = .ok (.ireturn, 1) := by decide +kernel
set_option maxRecDepth 20000 in
theorem ggX4_blame_X3_isOn : GoodIn wsX4_blame wsX3_isOn := goodIn_r _ [6, 7, 8, 9, 10, 5, 11, 12, 13, 14, 15, 36, 37, 38, 39, 40] (by decide +kernel) (by decide +kernel)
set_option maxRecDepth 20000 in
theorem gX4_blame_X3_isOn : GoodIn wsX4_blame (wsV RX4 113 RX3 yX3_isOn wsX3_isOn) := goodIn_app (goodIn_of _ (by decide +kernel)) ggX4_blame_X3_isOn
set_option maxRecDepth 20000 in
theorem ggX4_blame_X3_partnersAt : GoodIn wsX4_blame wsX3_partnersAt := goodIn_r _ [19, 20, 36, 37, 38, 39, 40] (by decide +kernel) (by decide +kernel)
set_option maxRecDepth 20000 in
theorem gX4_blame_X3_partnersAt : GoodIn wsX4_blame (wsV RX4 198 RX3 yX3_partnersAt wsX3_partnersAt) := goodIn_app (goodIn_of _ (by decide +kernel)) ggX4_blame_X3_partnersAt
set_option maxRecDepth 20000 in
theorem ggX4_blame_J6_bitCount_0f7a4 : GoodIn wsX4_blame wsJ6_bitCount_0f7a4 := goodIn_r _ [24, 25, 26, 27] (by decide +kernel) (by decide +kernel)
set_option maxRecDepth 20000 in
theorem gX4_blame_J6_bitCount_0f7a4 : GoodIn wsX4_blame (va_wsS RX4 148 yJ6_bitCount_0f7a4 wsJ6_bitCount_0f7a4) := goodIn_app (goodIn_of _ (by decide +kernel)) ggX4_blame_J6_bitCount_0f7a4
theorem dX4_blame_0 : decode cX4_blame 0 = .ok (.iconst (-1), 1) := by decide +kernel
theorem dX4_blame_1 : decode cX4_blame 1 = .ok (.istore_n 1, 1) := by decide +kernel
theorem dX4_blame_2 : decode cX4_blame 2 = .ok (.iconst 0, 1) := by decide +kernel
theorem dX4_blame_3 : decode cX4_blame 3 = .ok (.istore_n 2, 1) := by decide +kernel
theorem dX4_blame_4 : decode cX4_blame 4 = .ok (.iconst 0, 1) := by decide +kernel
theorem dX4_blame_5 : decode cX4_blame 5 = .ok (.istore_n 3, 1) := by decide +kernel
theorem dX4_blame_6 : decode cX4_blame 6 = .ok (.iload_n 3, 1) := by decide +kernel
theorem dX4_blame_7 : decode cX4_blame 7 = .ok (.aload_n 0, 1) := by decide +kernel
theorem dX4_blame_8 : decode cX4_blame 8 = .ok (.getfield 17, 3) := by decide +kernel
theorem dX4_blame_11 : decode cX4_blame 11 = .ok (.getfield 95, 3) := by decide +kernel
theorem dX4_blame_14 : decode cX4_blame 14 = .ok (.if_icmp .ge 58, 3) := by decide +kernel
theorem dX4_blame_17 : decode cX4_blame 17 = .ok (.aload_n 0, 1) := by decide +kernel
theorem dX4_blame_18 : decode cX4_blame 18 = .ok (.getfield 17, 3) := by decide +kernel
theorem dX4_blame_21 : decode cX4_blame 21 = .ok (.iload_n 3, 1) := by decide +kernel
theorem dX4_blame_22 : decode cX4_blame 22 = .ok (.invokevirtual 113, 3) := by decide +kernel
theorem dX4_blame_25 : decode cX4_blame 25 = .ok (.ifCond .eq 27, 3) := by decide +kernel
theorem dX4_blame_28 : decode cX4_blame 28 = .ok (.aload_n 0, 1) := by decide +kernel
theorem dX4_blame_29 : decode cX4_blame 29 = .ok (.getfield 17, 3) := by decide +kernel
theorem dX4_blame_32 : decode cX4_blame 32 = .ok (.getfield 98, 3) := by decide +kernel
theorem dX4_blame_35 : decode cX4_blame 35 = .ok (.aload_n 0, 1) := by decide +kernel
theorem dX4_blame_36 : decode cX4_blame 36 = .ok (.getfield 17, 3) := by decide +kernel
theorem dX4_blame_39 : decode cX4_blame 39 = .ok (.iload_n 3, 1) := by decide +kernel
theorem dX4_blame_40 : decode cX4_blame 40 = .ok (.invokevirtual 198, 3) := by decide +kernel
theorem dX4_blame_43 : decode cX4_blame 43 = .ok (.iconst (-1), 1) := by decide +kernel
theorem dX4_blame_44 : decode cX4_blame 44 = .ok (.ixor, 1) := by decide +kernel
theorem dX4_blame_45 : decode cX4_blame 45 = .ok (.iand, 1) := by decide +kernel
theorem dX4_blame_46 : decode cX4_blame 46 = .ok (.invokestatic 148, 3) := by decide +kernel
theorem dX4_blame_49 : decode cX4_blame 49 = .ok (.goto 4, 3) := by decide +kernel
theorem dX4_blame_52 : decode cX4_blame 52 = .ok (.iconst 0, 1) := by decide +kernel
theorem dX4_blame_53 : decode cX4_blame 53 = .ok (.istore 4, 2) := by decide +kernel
theorem dX4_blame_55 : decode cX4_blame 55 = .ok (.iload 4, 2) := by decide +kernel
theorem dX4_blame_57 : decode cX4_blame 57 = .ok (.iload_n 2, 1) := by decide +kernel
theorem dX4_blame_58 : decode cX4_blame 58 = .ok (.if_icmp .le 8, 3) := by decide +kernel
theorem dX4_blame_61 : decode cX4_blame 61 = .ok (.iload_n 3, 1) := by decide +kernel
theorem dX4_blame_62 : decode cX4_blame 62 = .ok (.istore_n 1, 1) := by decide +kernel
theorem dX4_blame_63 : decode cX4_blame 63 = .ok (.iload 4, 2) := by decide +kernel
theorem dX4_blame_65 : decode cX4_blame 65 = .ok (.istore_n 2, 1) := by decide +kernel
theorem dX4_blame_66 : decode cX4_blame 66 = .ok (.iinc 3 1, 3) := by decide +kernel
theorem dX4_blame_69 : decode cX4_blame 69 = .ok (.goto (-63), 3) := by decide +kernel
theorem dX4_blame_72 : decode cX4_blame 72 = .ok (.iload_n 1, 1) := by decide +kernel
theorem dX4_blame_73 : decode cX4_blame 73 = .ok (.ireturn, 1) := by decide +kernel
set_option maxRecDepth 20000 in
theorem ggX4_density_X3_arePossible : GoodIn wsX4_density wsX3_arePossible := goodIn_r _ [6, 7, 8, 9, 10, 11, 12, 13, 5, 14, 15, 55, 56, 57, 58, 59] (by decide +kernel) (by decide +kernel)
set_option maxRecDepth 20000 in
theorem gX4_density_X3_arePossible : GoodIn wsX4_density (wsV RX4 136 RX3 yX3_arePossible wsX3_arePossible) := goodIn_app (goodIn_of _ (by decide +kernel)) ggX4_density_X3_arePossible
set_option maxRecDepth 20000 in
theorem ggX4_density_X4_join : GoodIn wsX4_density wsX4_join := goodIn_r _ [19, 20, 1, 21, 22, 23, 24, 25, 26, 27, 28, 8, 9, 10, 29, 30, 31, 5, 32, 33, 34, 35, 36, 37, 38, 39, 40, 41, 42, 43, 44, 45, 46, 47, 48, 49, 50, 51, 52, 53, 54, 55, 56, 57, 58, 59, 60, 61, 62, 63, 64, 65, 66] (by decide +kernel) (by decide +kernel)
set_option maxRecDepth 20000 in
theorem gX4_density_X4_join : GoodIn wsX4_density (wsV RX4 246 RX4 yX4_join wsX4_join) := goodIn_app (goodIn_of _ (by decide +kernel)) ggX4_density_X4_join
theorem dX4_density_0 : decode cX4_density 0 = .ok (.aload_n 0, 1) := by decide +kernel
theorem dX4_density_1 : decode cX4_density 1 = .ok (.getfield 17, 3) := by decide +kernel
theorem dX4_density_4 : decode cX4_density 4 = .ok (.aload_n 0, 1) := by decide +kernel
theorem dX4_density_5 : decode cX4_density 5 = .ok (.getfield 17, 3) := by decide +kernel
theorem dX4_density_8 : decode cX4_density 8 = .ok (.getfield 98, 3) := by decide +kernel
theorem dX4_density_11 : decode cX4_density 11 = .ok (.invokevirtual 136, 3) := by decide +kernel
theorem dX4_density_14 : decode cX4_density 14 = .ok (.ifCond .ne 5, 3) := by decide +kernel
theorem dX4_density_17 : decode cX4_density 17 = .ok (.dconst 0, 1) := by decide +kernel
theorem dX4_density_18 : decode cX4_density 18 = .ok (.dreturn, 1) := by decide +kernel
theorem dX4_density_19 : decode cX4_density 19 = .ok (.aload_n 0, 1) := by decide +kernel
theorem dX4_density_20 : decode cX4_density 20 = .ok (.aload_n 0, 1) := by decide +kernel
theorem dX4_density_21 : decode cX4_density 21 = .ok (.getfield 17, 3) := by decide +kernel
theorem dX4_density_24 : decode cX4_density 24 = .ok (.getfield 98, 3) := by decide +kernel
theorem dX4_density_27 : decode cX4_density 27 = .ok (.invokevirtual 246, 3) := by decide +kernel
theorem dX4_density_30 : decode cX4_density 30 = .ok (.getfield 254, 3) := by decide +kernel
theorem dX4_density_33 : decode cX4_density 33 = .ok (.lstore_n 1, 1) := by decide +kernel
theorem dX4_density_34 : decode cX4_density 34 = .ok (.lload_n 1, 1) := by decide +kernel
theorem dX4_density_35 : decode cX4_density 35 = .ok (.lconst 1, 1) := by decide +kernel
theorem dX4_density_36 : decode cX4_density 36 = .ok (.lcmp, 1) := by decide +kernel
theorem dX4_density_37 : decode cX4_density 37 = .ok (.ifCond .ge 7, 3) := by decide +kernel
theorem dX4_density_40 : decode cX4_density 40 = .ok (.dconst 0, 1) := by decide +kernel
theorem dX4_density_41 : decode cX4_density 41 = .ok (.goto 7, 3) := by decide +kernel
theorem dX4_density_44 : decode cX4_density 44 = .ok (.dconst 1, 1) := by decide +kernel
theorem dX4_density_45 : decode cX4_density 45 = .ok (.lload_n 1, 1) := by decide +kernel
theorem dX4_density_46 : decode cX4_density 46 = .ok (.l2d, 1) := by decide +kernel
theorem dX4_density_47 : decode cX4_density 47 = .ok (.ddiv, 1) := by decide +kernel
theorem dX4_density_48 : decode cX4_density 48 = .ok (.dreturn, 1) := by decide +kernel
set_option maxRecDepth 20000 in
theorem ggX4_digest_X4_count : GoodIn wsX4_digest wsX4_count := goodIn_ca (goodIn_r _ [9, 10, 11, 2, 12, 13, 14, 15, 16, 17, 18, 19, 20, 21, 22, 23, 24, 25, 26, 27, 28, 29, 30, 31, 32, 33, 34, 35, 36, 37, 38, 39, 40, 41, 42, 8, 43, 44, 45, 46, 47, 48, 49, 50, 51, 52, 53, 54, 55, 56, 57, 58, 59, 60, 61, 62, 63, 64, 65, 66, 67, 68, 69, 70, 71, 72, 73, 74, 75, 76, 77, 78, 79, 80, 81, 82, 83, 84, 85, 86, 87, 88, 89, 90, 91, 92, 93, 94, 95, 96, 97, 98, 99, 100, 101, 102, 103, 104, 105, 106, 107, 268, 269, 270, 271, 272, 273, 274, 275, 276, 277, 278, 279, 280, 281, 282, 283, 284, 285, 286, 287] (by decide +kernel) (by decide +kernel)) (goodIn_sub (fun _ h => List.mem_cons_of_mem _ (List.mem_append_left _ (List.mem_append_right _ h))) (by decide +kernel))
set_option maxRecDepth 20000 in
theorem gX4_digest_X4_count : GoodIn wsX4_digest (wsV RX4 280 RX4 yX4_count wsX4_count) := goodIn_app (goodIn_of _ (by decide +kernel)) ggX4_digest_X4_count
set_option maxRecDepth 20000 in
theorem ggX4_digest_X4_mixed : GoodIn wsX4_digest wsX4_mixed := goodIn_r _ [110, 111] (by decide +kernel) (by decide +kernel)
set_option maxRecDepth 20000 in
theorem gX4_digest_X4_mixed : GoodIn wsX4_digest (va_wsS RX4 283 yX4_mixed wsX4_mixed) := goodIn_app (goodIn_of _ (by decide +kernel)) ggX4_digest_X4_mixed
set_option maxRecDepth 20000 in
theorem ggX4_digest_X4_joined : GoodIn wsX4_digest wsX4_joined := goodIn_ca (goodIn_r _ [115, 10, 11, 2, 116, 117, 118, 8, 119, 120, 50, 51, 52, 23, 53, 25, 42, 43, 44, 45, 46, 47, 48, 72, 73, 74, 75, 76, 77, 78, 79, 80, 81, 82, 83, 62, 84, 27, 28, 29, 30, 31, 85, 86, 87, 88, 89, 90, 91, 92, 93, 94, 95, 96, 268, 269, 270, 271, 272, 273, 274, 275, 276, 277, 278, 279, 280, 286, 287, 281, 282, 283, 284, 285] (by decide +kernel) (by decide +kernel)) (goodIn_sub (fun _ h => List.mem_cons_of_mem _ (List.mem_append_left _ (List.mem_append_right _ h))) (by decide +kernel))
set_option maxRecDepth 20000 in
theorem gX4_digest_X4_joined : GoodIn wsX4_digest (wsV RX4 286 RX4 yX4_joined wsX4_joined) := goodIn_app (goodIn_of _ (by decide +kernel)) ggX4_digest_X4_joined
set_option maxRecDepth 20000 in
theorem ggX4_digest_X4_withCondition : GoodIn wsX4_digest wsX4_withCondition := goodIn_ca (goodIn_ca (goodIn_r _ [124, 2, 125, 126, 127, 8, 128, 129, 130, 10, 11, 131, 69, 70, 23, 71, 25, 84, 27, 28, 29, 30, 31, 63, 64, 65, 66, 67, 68, 42, 43, 132, 33, 34, 35, 36, 37, 62, 133, 45, 46, 47, 48, 13, 14, 15, 16, 17, 18, 19, 58, 59, 60, 61, 50, 51, 52, 53, 44, 72, 73, 74, 75, 76, 77, 78, 79, 80, 81, 82, 83, 85, 86, 87, 88, 89, 90, 91, 92, 93, 94, 95, 96, 97, 98, 99, 100, 101, 102, 103, 104, 105, 106, 107, 108, 109, 110, 111, 134, 135, 136, 137, 138, 139, 140, 141, 116, 117, 118, 119, 120, 268, 269, 270, 271, 272, 273, 274, 275, 276, 277, 278, 279, 280, 281, 282, 283, 284, 285, 286, 287] (by decide +kernel) (by decide +kernel)) (goodIn_sub (fun _ h => List.mem_cons_of_mem _ (List.mem_append_right _ h)) (by decide +kernel))) (goodIn_sub (fun _ h => List.mem_cons_of_mem _ (List.mem_append_left _ (List.mem_append_right _ h))) (by decide +kernel))
set_option maxRecDepth 20000 in
theorem gX4_digest_X4_withCondition : GoodIn wsX4_digest (wsV RX4 289 RX4 yX4_withCondition wsX4_withCondition) := goodIn_app (goodIn_of _ (by decide +kernel)) ggX4_digest_X4_withCondition
set_option maxRecDepth 20000 in
theorem ggX4_digest_X4_withPrime : GoodIn wsX4_digest wsX4_withPrime := goodIn_ca (goodIn_r _ [145, 146, 147, 148, 8, 149, 10, 11, 2, 150, 151, 152, 153, 93, 94, 154, 155, 156, 157, 63, 64, 65, 23, 66, 67, 68, 69, 70, 71, 25, 42, 43, 84, 27, 28, 29, 30, 31, 158, 159, 160, 132, 33, 34, 35, 36, 37, 161, 162, 163, 164, 165, 166, 167, 168, 108, 109, 110, 111, 268, 269, 270, 271, 272, 273, 274, 275, 281, 282, 283, 284, 285, 276, 277, 278, 279, 280] (by decide +kernel) (by decide +kernel)) (goodIn_sub (fun _ h => List.mem_cons_of_mem _ (List.mem_append_left _ (List.mem_append_right _ h))) (by decide +kernel))
set_option maxRecDepth 20000 in
theorem gX4_digest_X4_withPrime : GoodIn wsX4_digest (wsV RX4 296 RX4 yX4_withPrime wsX4_withPrime) := goodIn_app (goodIn_of _ (by decide +kernel)) ggX4_digest_X4_withPrime
set_option maxRecDepth 20000 in
theorem ggX4_digest_X4_withAnswers : GoodIn wsX4_digest wsX4_withAnswers := goodIn_ca (goodIn_r _ [172, 173, 174, 175, 176, 177, 178, 179, 8, 180, 10, 11, 2, 120, 181, 182, 183, 184, 50, 51, 52, 23, 53, 25, 42, 43, 44, 45, 46, 47, 48, 72, 73, 74, 75, 76, 77, 78, 79, 80, 81, 82, 83, 62, 84, 27, 28, 29, 30, 31, 85, 86, 87, 88, 89, 90, 91, 92, 93, 94, 95, 96, 185, 186, 187, 188, 108, 109, 110, 111, 189, 190, 191, 192, 193, 194, 195, 196, 197, 198, 199, 200, 201, 202, 203, 204, 63, 64, 65, 66, 67, 68, 69, 70, 71, 205, 103, 104, 35, 105, 37, 106, 107, 33, 34, 36, 268, 269, 270, 271, 272, 273, 274, 275, 276, 277, 278, 279, 280, 286, 287, 281, 282, 283, 284, 285] (by decide +kernel) (by decide +kernel)) (goodIn_sub (fun _ h => List.mem_cons_of_mem _ (List.mem_append_left _ (List.mem_append_right _ h))) (by decide +kernel))
set_option maxRecDepth 20000 in
theorem gX4_digest_X4_withAnswers : GoodIn wsX4_digest (wsV RX4 299 RX4 yX4_withAnswers wsX4_withAnswers) := goodIn_app (goodIn_of _ (by decide +kernel)) ggX4_digest_X4_withAnswers
set_option maxRecDepth 20000 in
theorem ggX4_digest_X4_ifAdded : GoodIn wsX4_digest wsX4_ifAdded := goodIn_ca (goodIn_r _ [209, 10, 11, 210, 211, 35, 120, 2, 212, 213, 8, 214, 215, 216, 217, 218, 219, 220, 221, 222, 223, 37, 106, 89, 90, 93, 94, 91, 92, 95, 96, 224, 225, 226, 227, 184, 228, 229, 230, 23, 231, 25, 42, 43, 26, 27, 28, 29, 30, 31, 232, 233, 132, 33, 34, 36, 234, 235, 236, 237, 238, 239, 240, 241, 242, 243, 244, 107, 13, 14, 15, 16, 17, 18, 19, 50, 51, 52, 53, 44, 45, 46, 47, 48, 72, 73, 74, 75, 76, 77, 78, 79, 80, 81, 82, 83, 62, 84, 85, 86, 87, 88, 97, 98, 99, 100, 101, 102, 103, 104, 105, 281, 282, 283, 284, 285, 268, 269, 270, 271, 272, 273, 274, 275, 276, 277, 278, 279, 280, 286, 287] (by decide +kernel) (by decide +kernel)) (goodIn_sub (fun _ h => List.mem_cons_of_mem _ (List.mem_append_left _ (List.mem_append_right _ h))) (by decide +kernel))
set_option maxRecDepth 20000 in
theorem gX4_digest_X4_ifAdded : GoodIn wsX4_digest (wsV RX4 302 RX4 yX4_ifAdded wsX4_ifAdded) := goodIn_app (goodIn_of _ (by decide +kernel)) ggX4_digest_X4_ifAdded
set_option maxRecDepth 20000 in
theorem ggX4_digest_X4_most : GoodIn wsX4_digest wsX4_most := goodIn_r _ [248, 2, 62, 42, 8, 43, 13, 14, 15, 16, 17, 18, 19, 50, 51, 52, 23, 53, 25, 44, 45, 46, 47, 48, 268, 269, 270, 271, 272, 273, 274, 275, 276, 277, 278, 279, 280] (by decide +kernel) (by decide +kernel)
set_option maxRecDepth 20000 in
theorem gX4_digest_X4_most : GoodIn wsX4_digest (wsV RX4 144 RX4 yX4_most wsX4_most) := goodIn_app (goodIn_of _ (by decide +kernel)) ggX4_digest_X4_most
set_option maxRecDepth 20000 in
theorem ggX4_digest_X4_blame : GoodIn wsX4_digest wsX4_blame := goodIn_r _ [252, 2, 63, 64, 65, 23, 66, 67, 68, 69, 70, 71, 25, 42, 8, 43, 133, 45, 46, 47, 48, 13, 14, 15, 16, 17, 18, 19, 268, 269, 270, 271, 272, 273, 274, 275, 276, 277, 278, 279, 280] (by decide +kernel) (by decide +kernel)
set_option maxRecDepth 20000 in
theorem gX4_digest_X4_blame : GoodIn wsX4_digest (wsV RX4 306 RX4 yX4_blame wsX4_blame) := goodIn_app (goodIn_of _ (by decide +kernel)) ggX4_digest_X4_blame
set_option maxRecDepth 20000 in
theorem ggX4_digest_X4_density : GoodIn wsX4_digest wsX4_density := goodIn_r _ [256, 2, 50, 51, 52, 23, 53, 25, 42, 8, 43, 44, 45, 46, 47, 48, 72, 73, 74, 75, 76, 77, 78, 79, 80, 81, 82, 83, 62, 84, 27, 28, 29, 30, 31, 85, 86, 87, 88, 89, 90, 91, 92, 93, 94, 95, 96, 268, 269, 270, 271, 272, 273, 274, 275, 276, 277, 278, 279, 280, 286, 287, 281, 282, 283, 284, 285] (by decide +kernel) (by decide +kernel)
set_option maxRecDepth 20000 in
theorem gX4_digest_X4_density : GoodIn wsX4_digest (wsV RX4 309 RX4 yX4_density wsX4_density) := goodIn_app (goodIn_of _ (by decide +kernel)) ggX4_digest_X4_density
set_option maxRecDepth 20000 in
theorem ggX4_digest_X4_bitsOf : GoodIn wsX4_digest wsX4_bitsOf := goodIn_r _ [259, 260, 261, 262] (by decide +kernel) (by decide +kernel)
set_option maxRecDepth 20000 in
theorem gX4_digest_X4_bitsOf : GoodIn wsX4_digest (va_wsS RX4 313 yX4_bitsOf wsX4_bitsOf) := goodIn_app (goodIn_of _ (by decide +kernel)) ggX4_digest_X4_bitsOf
set_option maxRecDepth 20000 in
theorem ggX4_digest_X4_codeAt : GoodIn wsX4_digest wsX4_codeAt := goodIn_r _ [266, 267, 268, 269, 270, 271, 272, 273, 274, 275] (by decide +kernel) (by decide +kernel)
set_option maxRecDepth 20000 in
theorem gX4_digest_X4_codeAt : GoodIn wsX4_digest (wsV RX4 160 RX4 yX4_codeAt wsX4_codeAt) := goodIn_app (goodIn_of _ (by decide +kernel)) ggX4_digest_X4_codeAt
theorem dX4_digest_0 : decode cX4_digest 0 = .ok (.ldc2_w 278, 3) := by decide +kernel
theorem dX4_digest_3 : decode cX4_digest 3 = .ok (.lstore_n 1, 1) := by decide +kernel
theorem dX4_digest_4 : decode cX4_digest 4 = .ok (.iconst 0, 1) := by decide +kernel
theorem dX4_digest_5 : decode cX4_digest 5 = .ok (.istore_n 3, 1) := by decide +kernel
theorem dX4_digest_6 : decode cX4_digest 6 = .ok (.iload_n 3, 1) := by decide +kernel
theorem dX4_digest_7 : decode cX4_digest 7 = .ok (.bipush 6, 2) := by decide +kernel
theorem dX4_digest_9 : decode cX4_digest 9 = .ok (.if_icmp .gt 20, 3) := by decide +kernel
theorem dX4_digest_12 : decode cX4_digest 12 = .ok (.lload_n 1, 1) := by decide +kernel
theorem dX4_digest_13 : decode cX4_digest 13 = .ok (.aload_n 0, 1) := by decide +kernel
theorem dX4_digest_14 : decode cX4_digest 14 = .ok (.iload_n 3, 1) := by decide +kernel
theorem dX4_digest_15 : decode cX4_digest 15 = .ok (.invokevirtual 280, 3) := by decide +kernel
theorem dX4_digest_18 : decode cX4_digest 18 = .ok (.i2l, 1) := by decide +kernel
theorem dX4_digest_19 : decode cX4_digest 19 = .ok (.invokestatic 283, 3) := by decide +kernel
theorem dX4_digest_22 : decode cX4_digest 22 = .ok (.lstore_n 1, 1) := by decide +kernel
theorem dX4_digest_23 : decode cX4_digest 23 = .ok (.iinc 3 1, 3) := by decide +kernel
theorem dX4_digest_26 : decode cX4_digest 26 = .ok (.goto (-20), 3) := by decide +kernel
theorem dX4_digest_29 : decode cX4_digest 29 = .ok (.lload_n 1, 1) := by decide +kernel
theorem dX4_digest_30 : decode cX4_digest 30 = .ok (.aload_n 0, 1) := by decide +kernel
theorem dX4_digest_31 : decode cX4_digest 31 = .ok (.iconst 0, 1) := by decide +kernel
theorem dX4_digest_32 : decode cX4_digest 32 = .ok (.invokevirtual 286, 3) := by decide +kernel
theorem dX4_digest_35 : decode cX4_digest 35 = .ok (.invokestatic 283, 3) := by decide +kernel
theorem dX4_digest_38 : decode cX4_digest 38 = .ok (.lstore_n 1, 1) := by decide +kernel
theorem dX4_digest_39 : decode cX4_digest 39 = .ok (.lload_n 1, 1) := by decide +kernel
theorem dX4_digest_40 : decode cX4_digest 40 = .ok (.aload_n 0, 1) := by decide +kernel
theorem dX4_digest_41 : decode cX4_digest 41 = .ok (.iconst 1, 1) := by decide +kernel
theorem dX4_digest_42 : decode cX4_digest 42 = .ok (.invokevirtual 286, 3) := by decide +kernel
theorem dX4_digest_45 : decode cX4_digest 45 = .ok (.invokestatic 283, 3) := by decide +kernel
theorem dX4_digest_48 : decode cX4_digest 48 = .ok (.lstore_n 1, 1) := by decide +kernel
theorem dX4_digest_49 : decode cX4_digest 49 = .ok (.iconst 0, 1) := by decide +kernel
theorem dX4_digest_50 : decode cX4_digest 50 = .ok (.istore_n 3, 1) := by decide +kernel
theorem dX4_digest_51 : decode cX4_digest 51 = .ok (.iload_n 3, 1) := by decide +kernel
theorem dX4_digest_52 : decode cX4_digest 52 = .ok (.aload_n 0, 1) := by decide +kernel
theorem dX4_digest_53 : decode cX4_digest 53 = .ok (.getfield 17, 3) := by decide +kernel
theorem dX4_digest_56 : decode cX4_digest 56 = .ok (.getfield 95, 3) := by decide +kernel
theorem dX4_digest_59 : decode cX4_digest 59 = .ok (.if_icmp .ge 16, 3) := by decide +kernel
theorem dX4_digest_62 : decode cX4_digest 62 = .ok (.aload_n 0, 1) := by decide +kernel
theorem dX4_digest_63 : decode cX4_digest 63 = .ok (.lload_n 1, 1) := by decide +kernel
theorem dX4_digest_64 : decode cX4_digest 64 = .ok (.iload_n 3, 1) := by decide +kernel
theorem dX4_digest_65 : decode cX4_digest 65 = .ok (.invokevirtual 289, 3) := by decide +kernel
theorem dX4_digest_68 : decode cX4_digest 68 = .ok (.lstore_n 1, 1) := by decide +kernel
theorem dX4_digest_69 : decode cX4_digest 69 = .ok (.iinc 3 1, 3) := by decide +kernel
theorem dX4_digest_72 : decode cX4_digest 72 = .ok (.goto (-21), 3) := by decide +kernel
theorem dX4_digest_75 : decode cX4_digest 75 = .ok (.iconst 0, 1) := by decide +kernel
theorem dX4_digest_76 : decode cX4_digest 76 = .ok (.istore_n 3, 1) := by decide +kernel
theorem dX4_digest_77 : decode cX4_digest 77 = .ok (.iload_n 3, 1) := by decide +kernel
theorem dX4_digest_78 : decode cX4_digest 78 = .ok (.getstatic 293, 3) := by decide +kernel
theorem dX4_digest_81 : decode cX4_digest 81 = .ok (.arraylength, 1) := by decide +kernel
theorem dX4_digest_82 : decode cX4_digest 82 = .ok (.if_icmp .ge 20, 3) := by decide +kernel
theorem dX4_digest_85 : decode cX4_digest 85 = .ok (.aload_n 0, 1) := by decide +kernel
theorem dX4_digest_86 : decode cX4_digest 86 = .ok (.lload_n 1, 1) := by decide +kernel
theorem dX4_digest_87 : decode cX4_digest 87 = .ok (.getstatic 293, 3) := by decide +kernel
theorem dX4_digest_90 : decode cX4_digest 90 = .ok (.iload_n 3, 1) := by decide +kernel
theorem dX4_digest_91 : decode cX4_digest 91 = .ok (.iaload, 1) := by decide +kernel
theorem dX4_digest_92 : decode cX4_digest 92 = .ok (.invokevirtual 296, 3) := by decide +kernel
theorem dX4_digest_95 : decode cX4_digest 95 = .ok (.lstore_n 1, 1) := by decide +kernel
theorem dX4_digest_96 : decode cX4_digest 96 = .ok (.iinc 3 1, 3) := by decide +kernel
theorem dX4_digest_99 : decode cX4_digest 99 = .ok (.goto (-22), 3) := by decide +kernel
theorem dX4_digest_102 : decode cX4_digest 102 = .ok (.aload_n 0, 1) := by decide +kernel
theorem dX4_digest_103 : decode cX4_digest 103 = .ok (.lload_n 1, 1) := by decide +kernel
theorem dX4_digest_104 : decode cX4_digest 104 = .ok (.invokevirtual 299, 3) := by decide +kernel
theorem dX4_digest_107 : decode cX4_digest 107 = .ok (.lstore_n 1, 1) := by decide +kernel
theorem dX4_digest_108 : decode cX4_digest 108 = .ok (.iconst 0, 1) := by decide +kernel
theorem dX4_digest_109 : decode cX4_digest 109 = .ok (.istore_n 3, 1) := by decide +kernel
theorem dX4_digest_110 : decode cX4_digest 110 = .ok (.iload_n 3, 1) := by decide +kernel
theorem dX4_digest_111 : decode cX4_digest 111 = .ok (.iconst 3, 1) := by decide +kernel
theorem dX4_digest_112 : decode cX4_digest 112 = .ok (.if_icmp .gt 23, 3) := by decide +kernel
theorem dX4_digest_115 : decode cX4_digest 115 = .ok (.lload_n 1, 1) := by decide +kernel
theorem dX4_digest_116 : decode cX4_digest 116 = .ok (.aload_n 0, 1) := by decide +kernel
theorem dX4_digest_117 : decode cX4_digest 117 = .ok (.iconst 3, 1) := by decide +kernel
theorem dX4_digest_118 : decode cX4_digest 118 = .ok (.iconst 1, 1) := by decide +kernel
theorem dX4_digest_119 : decode cX4_digest 119 = .ok (.bipush 10, 2) := by decide +kernel
theorem dX4_digest_121 : decode cX4_digest 121 = .ok (.iload_n 3, 1) := by decide +kernel
theorem dX4_digest_122 : decode cX4_digest 122 = .ok (.invokevirtual 302, 3) := by decide +kernel
theorem dX4_digest_125 : decode cX4_digest 125 = .ok (.invokestatic 283, 3) := by decide +kernel
theorem dX4_digest_128 : decode cX4_digest 128 = .ok (.lstore_n 1, 1) := by decide +kernel
theorem dX4_digest_129 : decode cX4_digest 129 = .ok (.iinc 3 1, 3) := by decide +kernel
theorem dX4_digest_132 : decode cX4_digest 132 = .ok (.goto (-22), 3) := by decide +kernel
theorem dX4_digest_135 : decode cX4_digest 135 = .ok (.lload_n 1, 1) := by decide +kernel
theorem dX4_digest_136 : decode cX4_digest 136 = .ok (.aload_n 0, 1) := by decide +kernel
theorem dX4_digest_137 : decode cX4_digest 137 = .ok (.invokevirtual 144, 3) := by decide +kernel
theorem dX4_digest_140 : decode cX4_digest 140 = .ok (.i2l, 1) := by decide +kernel
theorem dX4_digest_141 : decode cX4_digest 141 = .ok (.invokestatic 283, 3) := by decide +kernel
theorem dX4_digest_144 : decode cX4_digest 144 = .ok (.lstore_n 1, 1) := by decide +kernel
theorem dX4_digest_145 : decode cX4_digest 145 = .ok (.lload_n 1, 1) := by decide +kernel
theorem dX4_digest_146 : decode cX4_digest 146 = .ok (.aload_n 0, 1) := by decide +kernel
theorem dX4_digest_147 : decode cX4_digest 147 = .ok (.invokevirtual 306, 3) := by decide +kernel
theorem dX4_digest_150 : decode cX4_digest 150 = .ok (.i2l, 1) := by decide +kernel
theorem dX4_digest_151 : decode cX4_digest 151 = .ok (.invokestatic 283, 3) := by decide +kernel
theorem dX4_digest_154 : decode cX4_digest 154 = .ok (.lstore_n 1, 1) := by decide +kernel
theorem dX4_digest_155 : decode cX4_digest 155 = .ok (.lload_n 1, 1) := by decide +kernel
theorem dX4_digest_156 : decode cX4_digest 156 = .ok (.aload_n 0, 1) := by decide +kernel
theorem dX4_digest_157 : decode cX4_digest 157 = .ok (.invokevirtual 309, 3) := by decide +kernel
theorem dX4_digest_160 : decode cX4_digest 160 = .ok (.invokestatic 313, 3) := by decide +kernel
theorem dX4_digest_163 : decode cX4_digest 163 = .ok (.invokestatic 283, 3) := by decide +kernel
theorem dX4_digest_166 : decode cX4_digest 166 = .ok (.lstore_n 1, 1) := by decide +kernel
theorem dX4_digest_167 : decode cX4_digest 167 = .ok (.lload_n 1, 1) := by decide +kernel
theorem dX4_digest_168 : decode cX4_digest 168 = .ok (.aload_n 0, 1) := by decide +kernel
theorem dX4_digest_169 : decode cX4_digest 169 = .ok (.getfield 38, 3) := by decide +kernel
theorem dX4_digest_172 : decode cX4_digest 172 = .ok (.i2l, 1) := by decide +kernel
theorem dX4_digest_173 : decode cX4_digest 173 = .ok (.invokestatic 283, 3) := by decide +kernel
theorem dX4_digest_176 : decode cX4_digest 176 = .ok (.lstore_n 1, 1) := by decide +kernel
theorem dX4_digest_177 : decode cX4_digest 177 = .ok (.iconst 0, 1) := by decide +kernel
theorem dX4_digest_178 : decode cX4_digest 178 = .ok (.istore_n 3, 1) := by decide +kernel
theorem dX4_digest_179 : decode cX4_digest 179 = .ok (.iload_n 3, 1) := by decide +kernel
theorem dX4_digest_180 : decode cX4_digest 180 = .ok (.aload_n 0, 1) := by decide +kernel
theorem dX4_digest_181 : decode cX4_digest 181 = .ok (.getfield 38, 3) := by decide +kernel
theorem dX4_digest_184 : decode cX4_digest 184 = .ok (.if_icmp .ge 20, 3) := by decide +kernel
theorem dX4_digest_187 : decode cX4_digest 187 = .ok (.lload_n 1, 1) := by decide +kernel
theorem dX4_digest_188 : decode cX4_digest 188 = .ok (.aload_n 0, 1) := by decide +kernel
theorem dX4_digest_189 : decode cX4_digest 189 = .ok (.iload_n 3, 1) := by decide +kernel
theorem dX4_digest_190 : decode cX4_digest 190 = .ok (.invokevirtual 160, 3) := by decide +kernel
theorem dX4_digest_193 : decode cX4_digest 193 = .ok (.i2l, 1) := by decide +kernel
theorem dX4_digest_194 : decode cX4_digest 194 = .ok (.invokestatic 283, 3) := by decide +kernel
theorem dX4_digest_197 : decode cX4_digest 197 = .ok (.lstore_n 1, 1) := by decide +kernel
theorem dX4_digest_198 : decode cX4_digest 198 = .ok (.iinc 3 1, 3) := by decide +kernel
theorem dX4_digest_201 : decode cX4_digest 201 = .ok (.goto (-22), 3) := by decide +kernel
theorem dX4_digest_204 : decode cX4_digest 204 = .ok (.lload_n 1, 1) := by decide +kernel
theorem dX4_digest_205 : decode cX4_digest 205 = .ok (.lreturn, 1) := by decide +kernel
theorem dX4_bit_0 : decode cX4_bit 0 = .ok (.iconst 1, 1) := by decide +kernel
theorem dX4_bit_1 : decode cX4_bit 1 = .ok (.iload_n 0, 1) := by decide +kernel
theorem dX4_bit_2 : decode cX4_bit 2 = .ok (.ishl, 1) := by decide +kernel
theorem dX4_bit_3 : decode cX4_bit 3 = .ok (.ireturn, 1) := by decide +kernel
theorem dX4_areParts_0 : decode cX4_areParts 0 = .ok (.iload_n 0, 1) := by decide +kernel
theorem dX4_areParts_1 : decode cX4_areParts 1 = .ok (.iconst 1, 1) := by decide +kernel
theorem dX4_areParts_2 : decode cX4_areParts 2 = .ok (.if_icmp .lt 37, 3) := by decide +kernel
theorem dX4_areParts_5 : decode cX4_areParts 5 = .ok (.iload_n 0, 1) := by decide +kernel
theorem dX4_areParts_6 : decode cX4_areParts 6 = .ok (.sipush 999, 3) := by decide +kernel
theorem dX4_areParts_9 : decode cX4_areParts 9 = .ok (.if_icmp .gt 30, 3) := by decide +kernel
theorem dX4_areParts_12 : decode cX4_areParts 12 = .ok (.iload_n 1, 1) := by decide +kernel
theorem dX4_areParts_13 : decode cX4_areParts 13 = .ok (.ifCond .lt 26, 3) := by decide +kernel
theorem dX4_areParts_16 : decode cX4_areParts 16 = .ok (.iload_n 1, 1) := by decide +kernel
theorem dX4_areParts_17 : decode cX4_areParts 17 = .ok (.sipush 999, 3) := by decide +kernel
theorem dX4_areParts_20 : decode cX4_areParts 20 = .ok (.if_icmp .gt 19, 3) := by decide +kernel
theorem dX4_areParts_23 : decode cX4_areParts 23 = .ok (.iload_n 2, 1) := by decide +kernel
theorem dX4_areParts_24 : decode cX4_areParts 24 = .ok (.iconst 1, 1) := by decide +kernel
theorem dX4_areParts_25 : decode cX4_areParts 25 = .ok (.if_icmp .lt 14, 3) := by decide +kernel
theorem dX4_areParts_28 : decode cX4_areParts 28 = .ok (.iload_n 2, 1) := by decide +kernel
theorem dX4_areParts_29 : decode cX4_areParts 29 = .ok (.sipush 999, 3) := by decide +kernel
theorem dX4_areParts_32 : decode cX4_areParts 32 = .ok (.if_icmp .gt 7, 3) := by decide +kernel
theorem dX4_areParts_35 : decode cX4_areParts 35 = .ok (.iconst 1, 1) := by decide +kernel
theorem dX4_areParts_36 : decode cX4_areParts 36 = .ok (.goto 4, 3) := by decide +kernel
theorem dX4_areParts_39 : decode cX4_areParts 39 = .ok (.iconst 0, 1) := by decide +kernel
theorem dX4_areParts_40 : decode cX4_areParts 40 = .ok (.ireturn, 1) := by decide +kernel
theorem dX4_isNumber_0 : decode cX4_isNumber 0 = .ok (.lload_n 0, 1) := by decide +kernel
theorem dX4_isNumber_1 : decode cX4_isNumber 1 = .ok (.lconst 0, 1) := by decide +kernel
theorem dX4_isNumber_2 : decode cX4_isNumber 2 = .ok (.lcmp, 1) := by decide +kernel
theorem dX4_isNumber_3 : decode cX4_isNumber 3 = .ok (.ifCond .lt 15, 3) := by decide +kernel
theorem dX4_isNumber_6 : decode cX4_isNumber 6 = .ok (.lload_n 0, 1) := by decide +kernel
theorem dX4_isNumber_7 : decode cX4_isNumber 7 = .ok (.ldc2_w 109, 3) := by decide +kernel
theorem dX4_isNumber_10 : decode cX4_isNumber 10 = .ok (.lcmp, 1) := by decide +kernel
theorem dX4_isNumber_11 : decode cX4_isNumber 11 = .ok (.ifCond .gt 7, 3) := by decide +kernel
theorem dX4_isNumber_14 : decode cX4_isNumber 14 = .ok (.iconst 1, 1) := by decide +kernel
theorem dX4_isNumber_15 : decode cX4_isNumber 15 = .ok (.goto 4, 3) := by decide +kernel
theorem dX4_isNumber_18 : decode cX4_isNumber 18 = .ok (.iconst 0, 1) := by decide +kernel
theorem dX4_isNumber_19 : decode cX4_isNumber 19 = .ok (.ireturn, 1) := by decide +kernel
set_option maxRecDepth 20000 in
theorem ggX4_isPrime_X4_rest : GoodIn wsX4_isPrime wsX4_rest := goodIn_r _ [4] (by decide +kernel) (by decide +kernel)
set_option maxRecDepth 20000 in
theorem gX4_isPrime_X4_rest : GoodIn wsX4_isPrime (va_wsS RX4 230 yX4_rest wsX4_rest) := goodIn_app (goodIn_of _ (by decide +kernel)) ggX4_isPrime_X4_rest
theorem dX4_isPrime_0 : decode cX4_isPrime 0 = .ok (.iload_n 0, 1) := by decide +kernel
theorem dX4_isPrime_1 : decode cX4_isPrime 1 = .ok (.iconst 2, 1) := by decide +kernel
theorem dX4_isPrime_2 : decode cX4_isPrime 2 = .ok (.if_icmp .lt 9, 3) := by decide +kernel
theorem dX4_isPrime_5 : decode cX4_isPrime 5 = .ok (.iload_n 0, 1) := by decide +kernel
theorem dX4_isPrime_6 : decode cX4_isPrime 6 = .ok (.bipush 31, 2) := by decide +kernel
theorem dX4_isPrime_8 : decode cX4_isPrime 8 = .ok (.if_icmp .le 5, 3) := by decide +kernel
theorem dX4_isPrime_11 : decode cX4_isPrime 11 = .ok (.iconst 0, 1) := by decide +kernel
theorem dX4_isPrime_12 : decode cX4_isPrime 12 = .ok (.ireturn, 1) := by decide +kernel
theorem dX4_isPrime_13 : decode cX4_isPrime 13 = .ok (.iconst 2, 1) := by decide +kernel
theorem dX4_isPrime_14 : decode cX4_isPrime 14 = .ok (.istore_n 1, 1) := by decide +kernel
theorem dX4_isPrime_15 : decode cX4_isPrime 15 = .ok (.iload_n 1, 1) := by decide +kernel
theorem dX4_isPrime_16 : decode cX4_isPrime 16 = .ok (.iload_n 0, 1) := by decide +kernel
theorem dX4_isPrime_17 : decode cX4_isPrime 17 = .ok (.if_icmp .ge 23, 3) := by decide +kernel
theorem dX4_isPrime_20 : decode cX4_isPrime 20 = .ok (.iload_n 0, 1) := by decide +kernel
theorem dX4_isPrime_21 : decode cX4_isPrime 21 = .ok (.i2l, 1) := by decide +kernel
theorem dX4_isPrime_22 : decode cX4_isPrime 22 = .ok (.iload_n 1, 1) := by decide +kernel
theorem dX4_isPrime_23 : decode cX4_isPrime 23 = .ok (.i2l, 1) := by decide +kernel
theorem dX4_isPrime_24 : decode cX4_isPrime 24 = .ok (.invokestatic 230, 3) := by decide +kernel
theorem dX4_isPrime_27 : decode cX4_isPrime 27 = .ok (.lconst 0, 1) := by decide +kernel
theorem dX4_isPrime_28 : decode cX4_isPrime 28 = .ok (.lcmp, 1) := by decide +kernel
theorem dX4_isPrime_29 : decode cX4_isPrime 29 = .ok (.ifCond .ne 5, 3) := by decide +kernel
theorem dX4_isPrime_32 : decode cX4_isPrime 32 = .ok (.iconst 0, 1) := by decide +kernel
theorem dX4_isPrime_33 : decode cX4_isPrime 33 = .ok (.ireturn, 1) := by decide +kernel
theorem dX4_isPrime_34 : decode cX4_isPrime 34 = .ok (.iinc 1 1, 3) := by decide +kernel
theorem dX4_isPrime_37 : decode cX4_isPrime 37 = .ok (.goto (-22), 3) := by decide +kernel
theorem dX4_isPrime_40 : decode cX4_isPrime 40 = .ok (.iconst 1, 1) := by decide +kernel
theorem dX4_isPrime_41 : decode cX4_isPrime 41 = .ok (.ireturn, 1) := by decide +kernel
set_option maxRecDepth 20000 in
theorem ggX4_isRefused_X3_span : GoodIn wsX4_isRefused wsX3_span := goodIn_r _ [7, 8, 9, 10, 11, 12, 13, 14, 6, 15, 16, 17, 18, 19, 2, 20, 21, 22, 23, 24, 25, 26, 27, 28, 29, 30, 31, 41, 42, 43, 44, 45, 46, 47, 48, 49, 50] (by decide +kernel) (by decide +kernel)
set_option maxRecDepth 20000 in
theorem gX4_isRefused_X3_span : GoodIn wsX4_isRefused (wsV RX4 105 RX3 yX3_span wsX3_span) := goodIn_app (goodIn_of _ (by decide +kernel)) ggX4_isRefused_X3_span
set_option maxRecDepth 20000 in
theorem ggX4_isRefused_X4_widened : GoodIn wsX4_isRefused wsX4_widened := goodIn_r _ [19, 2, 20, 21, 22, 23, 24, 25, 26, 27, 10, 28, 29, 30, 31, 46, 47, 48, 49, 50] (by decide +kernel) (by decide +kernel)
set_option maxRecDepth 20000 in
theorem gX4_isRefused_X4_widened : GoodIn wsX4_isRefused (va_wsS RX4 317 yX4_widened wsX4_widened) := goodIn_app (goodIn_of _ (by decide +kernel)) ggX4_isRefused_X4_widened
theorem dX4_isRefused_0 : decode cX4_isRefused 0 = .ok (.aload_n 0, 1) := by decide +kernel
theorem dX4_isRefused_1 : decode cX4_isRefused 1 = .ok (.getfield 17, 3) := by decide +kernel
theorem dX4_isRefused_4 : decode cX4_isRefused 4 = .ok (.getfield 95, 3) := by decide +kernel
theorem dX4_isRefused_7 : decode cX4_isRefused 7 = .ok (.bipush 10, 2) := by decide +kernel
theorem dX4_isRefused_9 : decode cX4_isRefused 9 = .ok (.if_icmp .ge 28, 3) := by decide +kernel
theorem dX4_isRefused_12 : decode cX4_isRefused 12 = .ok (.aload_n 0, 1) := by decide +kernel
theorem dX4_isRefused_13 : decode cX4_isRefused 13 = .ok (.getfield 17, 3) := by decide +kernel
theorem dX4_isRefused_16 : decode cX4_isRefused 16 = .ok (.aload_n 0, 1) := by decide +kernel
theorem dX4_isRefused_17 : decode cX4_isRefused 17 = .ok (.getfield 17, 3) := by decide +kernel
theorem dX4_isRefused_20 : decode cX4_isRefused 20 = .ok (.getfield 98, 3) := by decide +kernel
theorem dX4_isRefused_23 : decode cX4_isRefused 23 = .ok (.invokevirtual 105, 3) := by decide +kernel
theorem dX4_isRefused_26 : decode cX4_isRefused 26 = .ok (.aload_n 1, 1) := by decide +kernel
theorem dX4_isRefused_27 : decode cX4_isRefused 27 = .ok (.invokestatic 317, 3) := by decide +kernel
theorem dX4_isRefused_30 : decode cX4_isRefused 30 = .ok (.ldc2_w 109, 3) := by decide +kernel
theorem dX4_isRefused_33 : decode cX4_isRefused 33 = .ok (.lcmp, 1) := by decide +kernel
theorem dX4_isRefused_34 : decode cX4_isRefused 34 = .ok (.ifCond .le 7, 3) := by decide +kernel
theorem dX4_isRefused_37 : decode cX4_isRefused 37 = .ok (.iconst 1, 1) := by decide +kernel
theorem dX4_isRefused_38 : decode cX4_isRefused 38 = .ok (.goto 4, 3) := by decide +kernel
theorem dX4_isRefused_41 : decode cX4_isRefused 41 = .ok (.iconst 0, 1) := by decide +kernel
theorem dX4_isRefused_42 : decode cX4_isRefused 42 = .ok (.ireturn, 1) := by decide +kernel
set_option maxRecDepth 20000 in
theorem ggX4_save_X4_savedAt : GoodIn wsX4_save wsX4_savedAt := goodIn_r _ [8, 9, 3, 10, 11, 12, 13, 32, 33, 34, 35, 36, 37, 38, 39] (by decide +kernel) (by decide +kernel)
set_option maxRecDepth 20000 in
theorem gX4_save_X4_savedAt : GoodIn wsX4_save (wsV RX4 179 RX4 yX4_savedAt wsX4_savedAt) := goodIn_app (goodIn_of _ (by decide +kernel)) ggX4_save_X4_savedAt
set_option maxRecDepth 20000 in
theorem ggX4_save_X3_copyFrom : GoodIn wsX4_save wsX3_copyFrom := goodIn_r _ [18, 19, 20, 21, 22, 23, 24, 25, 17, 26, 27, 28, 29, 30, 31, 40, 41, 42, 43, 44] (by decide +kernel) (by decide +kernel)
set_option maxRecDepth 20000 in
theorem gX4_save_X3_copyFrom : GoodIn wsX4_save (wsV RX4 183 RX3 yX3_copyFrom wsX3_copyFrom) := goodIn_app (goodIn_of _ (by decide +kernel)) ggX4_save_X3_copyFrom
theorem dX4_save_0 : decode cX4_save 0 = .ok (.aload_n 0, 1) := by decide +kernel
theorem dX4_save_1 : decode cX4_save 1 = .ok (.aload_n 0, 1) := by decide +kernel
theorem dX4_save_2 : decode cX4_save 2 = .ok (.getfield 27, 3) := by decide +kernel
theorem dX4_save_5 : decode cX4_save 5 = .ok (.aload_n 0, 1) := by decide +kernel
theorem dX4_save_6 : decode cX4_save 6 = .ok (.getfield 31, 3) := by decide +kernel
theorem dX4_save_9 : decode cX4_save 9 = .ok (.iadd, 1) := by decide +kernel
theorem dX4_save_10 : decode cX4_save 10 = .ok (.invokevirtual 179, 3) := by decide +kernel
theorem dX4_save_13 : decode cX4_save 13 = .ok (.aload_n 0, 1) := by decide +kernel
theorem dX4_save_14 : decode cX4_save 14 = .ok (.getfield 17, 3) := by decide +kernel
theorem dX4_save_17 : decode cX4_save 17 = .ok (.invokevirtual 183, 3) := by decide +kernel
theorem dX4_save_20 : decode cX4_save 20 = .ok (.aload_n 0, 1) := by decide +kernel
theorem dX4_save_21 : decode cX4_save 21 = .ok (.getfield 31, 3) := by decide +kernel
theorem dX4_save_24 : decode cX4_save 24 = .ok (.bipush 6, 2) := by decide +kernel
theorem dX4_save_26 : decode cX4_save 26 = .ok (.if_icmp .ge 16, 3) := by decide +kernel
theorem dX4_save_29 : decode cX4_save 29 = .ok (.aload_n 0, 1) := by decide +kernel
theorem dX4_save_30 : decode cX4_save 30 = .ok (.dup, 1) := by decide +kernel
theorem dX4_save_31 : decode cX4_save 31 = .ok (.getfield 31, 3) := by decide +kernel
theorem dX4_save_34 : decode cX4_save 34 = .ok (.iconst 1, 1) := by decide +kernel
theorem dX4_save_35 : decode cX4_save 35 = .ok (.iadd, 1) := by decide +kernel
theorem dX4_save_36 : decode cX4_save 36 = .ok (.putfield 31, 3) := by decide +kernel
theorem dX4_save_39 : decode cX4_save 39 = .ok (.goto 16, 3) := by decide +kernel
theorem dX4_save_42 : decode cX4_save 42 = .ok (.aload_n 0, 1) := by decide +kernel
theorem dX4_save_43 : decode cX4_save 43 = .ok (.aload_n 0, 1) := by decide +kernel
theorem dX4_save_44 : decode cX4_save 44 = .ok (.getfield 27, 3) := by decide +kernel
theorem dX4_save_47 : decode cX4_save 47 = .ok (.iconst 1, 1) := by decide +kernel
theorem dX4_save_48 : decode cX4_save 48 = .ok (.iadd, 1) := by decide +kernel
theorem dX4_save_49 : decode cX4_save 49 = .ok (.bipush 6, 2) := by decide +kernel
theorem dX4_save_51 : decode cX4_save 51 = .ok (.irem, 1) := by decide +kernel
theorem dX4_save_52 : decode cX4_save 52 = .ok (.putfield 27, 3) := by decide +kernel
theorem dX4_save_55 : decode cX4_save 55 = .ok (.return_, 1) := by decide +kernel
set_option maxRecDepth 20000 in
theorem ggX4_savedAt_J9_floorMod_7cf53 : GoodIn wsX4_savedAt wsJ9_floorMod_7cf53 := goodIn_r _ [6] (by decide +kernel) (by decide +kernel)
set_option maxRecDepth 20000 in
theorem gX4_savedAt_J9_floorMod_7cf53 : GoodIn wsX4_savedAt (va_wsS RX4 321 yJ9_floorMod_7cf53 wsJ9_floorMod_7cf53) := goodIn_app (goodIn_of _ (by decide +kernel)) ggX4_savedAt_J9_floorMod_7cf53
theorem dX4_savedAt_0 : decode cX4_savedAt 0 = .ok (.iload_n 1, 1) := by decide +kernel
theorem dX4_savedAt_1 : decode cX4_savedAt 1 = .ok (.bipush 6, 2) := by decide +kernel
theorem dX4_savedAt_3 : decode cX4_savedAt 3 = .ok (.invokestatic 321, 3) := by decide +kernel
theorem dX4_savedAt_6 : decode cX4_savedAt 6 = .ok (.istore_n 2, 1) := by decide +kernel
theorem dX4_savedAt_7 : decode cX4_savedAt 7 = .ok (.iload_n 2, 1) := by decide +kernel
theorem dX4_savedAt_8 : decode cX4_savedAt 8 = .ok (.ifCond .lt 21, 3) := by decide +kernel
theorem dX4_savedAt_11 : decode cX4_savedAt 11 = .ok (.iload_n 2, 1) := by decide +kernel
theorem dX4_savedAt_12 : decode cX4_savedAt 12 = .ok (.aload_n 0, 1) := by decide +kernel
theorem dX4_savedAt_13 : decode cX4_savedAt 13 = .ok (.getfield 23, 3) := by decide +kernel
theorem dX4_savedAt_16 : decode cX4_savedAt 16 = .ok (.arraylength, 1) := by decide +kernel
theorem dX4_savedAt_17 : decode cX4_savedAt 17 = .ok (.if_icmp .ge 12, 3) := by decide +kernel
theorem dX4_savedAt_20 : decode cX4_savedAt 20 = .ok (.aload_n 0, 1) := by decide +kernel
theorem dX4_savedAt_21 : decode cX4_savedAt 21 = .ok (.getfield 23, 3) := by decide +kernel
theorem dX4_savedAt_24 : decode cX4_savedAt 24 = .ok (.iload_n 2, 1) := by decide +kernel
theorem dX4_savedAt_25 : decode cX4_savedAt 25 = .ok (.aaload, 1) := by decide +kernel
theorem dX4_savedAt_26 : decode cX4_savedAt 26 = .ok (.ifnonnull 8, 3) := by decide +kernel
theorem dX4_savedAt_29 : decode cX4_savedAt 29 = .ok (.aload_n 0, 1) := by decide +kernel
theorem dX4_savedAt_30 : decode cX4_savedAt 30 = .ok (.getfield 17, 3) := by decide +kernel
theorem dX4_savedAt_33 : decode cX4_savedAt 33 = .ok (.areturn, 1) := by decide +kernel
theorem dX4_savedAt_34 : decode cX4_savedAt 34 = .ok (.aload_n 0, 1) := by decide +kernel
theorem dX4_savedAt_35 : decode cX4_savedAt 35 = .ok (.getfield 23, 3) := by decide +kernel
theorem dX4_savedAt_38 : decode cX4_savedAt 38 = .ok (.iload_n 2, 1) := by decide +kernel
theorem dX4_savedAt_39 : decode cX4_savedAt 39 = .ok (.aaload, 1) := by decide +kernel
theorem dX4_savedAt_40 : decode cX4_savedAt 40 = .ok (.areturn, 1) := by decide +kernel
theorem dX4_codeAt_0 : decode cX4_codeAt 0 = .ok (.iload_n 1, 1) := by decide +kernel
theorem dX4_codeAt_1 : decode cX4_codeAt 1 = .ok (.ifCond .lt 21, 3) := by decide +kernel
theorem dX4_codeAt_4 : decode cX4_codeAt 4 = .ok (.iload_n 1, 1) := by decide +kernel
theorem dX4_codeAt_5 : decode cX4_codeAt 5 = .ok (.aload_n 0, 1) := by decide +kernel
theorem dX4_codeAt_6 : decode cX4_codeAt 6 = .ok (.getfield 34, 3) := by decide +kernel
theorem dX4_codeAt_9 : decode cX4_codeAt 9 = .ok (.arraylength, 1) := by decide +kernel
theorem dX4_codeAt_10 : decode cX4_codeAt 10 = .ok (.if_icmp .ge 12, 3) := by decide +kernel
theorem dX4_codeAt_13 : decode cX4_codeAt 13 = .ok (.aload_n 0, 1) := by decide +kernel
theorem dX4_codeAt_14 : decode cX4_codeAt 14 = .ok (.getfield 34, 3) := by decide +kernel
theorem dX4_codeAt_17 : decode cX4_codeAt 17 = .ok (.iload_n 1, 1) := by decide +kernel
theorem dX4_codeAt_18 : decode cX4_codeAt 18 = .ok (.iaload, 1) := by decide +kernel
theorem dX4_codeAt_19 : decode cX4_codeAt 19 = .ok (.goto 4, 3) := by decide +kernel
theorem dX4_codeAt_22 : decode cX4_codeAt 22 = .ok (.iconst 0, 1) := by decide +kernel
theorem dX4_codeAt_23 : decode cX4_codeAt 23 = .ok (.ireturn, 1) := by decide +kernel
set_option maxRecDepth 20000 in
theorem ggX4_readConditions_X2_start : GoodIn wsX4_readConditions wsX2_start := goodIn_r _ [10, 11, 12, 13, 14, 124, 125, 126, 127] (by decide +kernel) (by decide +kernel)
set_option maxRecDepth 20000 in
theorem gX4_readConditions_X2_start_n157 : GoodIn wsX4_readConditions (wsX2_start) := ggX4_readConditions_X2_start
set_option maxRecDepth 20000 in
theorem ggX4_readConditions_X4_codeAt : GoodIn wsX4_readConditions wsX4_codeAt := goodIn_r _ [19, 20, 111, 112, 113, 114, 115, 116, 117, 118] (by decide +kernel) (by decide +kernel)
set_option maxRecDepth 20000 in
theorem gX4_readConditions_X4_codeAt : GoodIn wsX4_readConditions (wsV RX4 160 RX4 yX4_codeAt wsX4_codeAt) := goodIn_app (goodIn_of _ (by decide +kernel)) ggX4_readConditions_X4_codeAt
set_option maxRecDepth 20000 in
theorem ggX4_readConditions_X0_init : GoodIn wsX4_readConditions wsX0_init := goodIn_r _ [23, 24, 25, 26, 27, 28, 29, 30, 31, 32, 18, 33, 34, 35, 36, 37, 38, 39, 119, 120, 121, 122, 123] (by decide +kernel) (by decide +kernel)
set_option maxRecDepth 20000 in
theorem gX4_readConditions_X0_init : GoodIn wsX4_readConditions (wsX0_init) := ggX4_readConditions_X0_init
set_option maxRecDepth 20000 in
theorem ggX4_readConditions_X4_isRefused : GoodIn wsX4_readConditions wsX4_isRefused := goodIn_r _ [43, 6, 44, 45, 46, 47, 48, 49, 50, 51, 18, 52, 53, 54, 55, 56, 57, 58, 59, 60, 61, 62, 63, 5, 64, 30, 65, 32, 33, 66, 36, 37, 67, 111, 112, 113, 114, 115, 116, 117, 118, 128, 129, 130, 131, 132, 119, 120, 121, 122, 123] (by decide +kernel) (by decide +kernel)
set_option maxRecDepth 20000 in
theorem gX4_readConditions_X4_isRefused : GoodIn wsX4_readConditions (wsV RX4 66 RX4 yX4_isRefused wsX4_isRefused) := goodIn_app (goodIn_of _ (by decide +kernel)) ggX4_readConditions_X4_isRefused
set_option maxRecDepth 20000 in
theorem ggX4_readConditions_X3_put : GoodIn wsX4_readConditions wsX3_put := goodIn_r _ [71, 50, 72, 73, 74, 75, 48, 76, 57, 51, 18, 52, 77, 78, 79, 80, 81, 53, 54, 55, 56, 58, 82, 83, 84, 85, 86, 87, 88, 5, 89, 30, 31, 90, 62, 63, 64, 32, 33, 34, 35, 128, 129, 130, 131, 132, 119, 120, 121, 122, 123] (by decide +kernel) (by decide +kernel)
set_option maxRecDepth 20000 in
theorem gX4_readConditions_X3_put : GoodIn wsX4_readConditions (wsV RX4 78 RX3 yX3_put wsX3_put) := goodIn_app (goodIn_of _ (by decide +kernel)) ggX4_readConditions_X3_put
set_option maxRecDepth 20000 in
theorem ggX4_readConditions_X2_takes : GoodIn wsX4_readConditions wsX2_takes := goodIn_r _ [94, 95, 96, 97, 8, 98, 11, 99, 100, 101, 102, 12, 103, 104, 105, 106, 107, 108, 109, 110, 13, 14, 124, 125, 126, 127] (by decide +kernel) (by decide +kernel)
set_option maxRecDepth 20000 in
theorem gX4_readConditions_X2_takes : GoodIn wsX4_readConditions (wsV RX4 163 RX2 yX2_takes wsX2_takes) := goodIn_app (goodIn_of _ (by decide +kernel)) ggX4_readConditions_X2_takes
theorem dX4_readConditions_0 : decode cX4_readConditions 0 = .ok (.iconst 0, 1) := by decide +kernel
theorem dX4_readConditions_1 : decode cX4_readConditions 1 = .ok (.istore_n 1, 1) := by decide +kernel
theorem dX4_readConditions_2 : decode cX4_readConditions 2 = .ok (.aload_n 0, 1) := by decide +kernel
theorem dX4_readConditions_3 : decode cX4_readConditions 3 = .ok (.getfield 44, 3) := by decide +kernel
theorem dX4_readConditions_6 : decode cX4_readConditions 6 = .ok (.invokevirtual 157, 3) := by decide +kernel
theorem dX4_readConditions_9 : decode cX4_readConditions 9 = .ok (.iconst 0, 1) := by decide +kernel
theorem dX4_readConditions_10 : decode cX4_readConditions 10 = .ok (.istore_n 2, 1) := by decide +kernel
theorem dX4_readConditions_11 : decode cX4_readConditions 11 = .ok (.iload_n 2, 1) := by decide +kernel
theorem dX4_readConditions_12 : decode cX4_readConditions 12 = .ok (.aload_n 0, 1) := by decide +kernel
theorem dX4_readConditions_13 : decode cX4_readConditions 13 = .ok (.getfield 38, 3) := by decide +kernel
theorem dX4_readConditions_16 : decode cX4_readConditions 16 = .ok (.if_icmp .gt 99, 3) := by decide +kernel
theorem dX4_readConditions_19 : decode cX4_readConditions 19 = .ok (.iload_n 2, 1) := by decide +kernel
theorem dX4_readConditions_20 : decode cX4_readConditions 20 = .ok (.aload_n 0, 1) := by decide +kernel
theorem dX4_readConditions_21 : decode cX4_readConditions 21 = .ok (.getfield 38, 3) := by decide +kernel
theorem dX4_readConditions_24 : decode cX4_readConditions 24 = .ok (.if_icmp .eq 13, 3) := by decide +kernel
theorem dX4_readConditions_27 : decode cX4_readConditions 27 = .ok (.aload_n 0, 1) := by decide +kernel
theorem dX4_readConditions_28 : decode cX4_readConditions 28 = .ok (.iload_n 2, 1) := by decide +kernel
theorem dX4_readConditions_29 : decode cX4_readConditions 29 = .ok (.invokevirtual 160, 3) := by decide +kernel
theorem dX4_readConditions_32 : decode cX4_readConditions 32 = .ok (.bipush 59, 2) := by decide +kernel
theorem dX4_readConditions_34 : decode cX4_readConditions 34 = .ok (.if_icmp .ne 54, 3) := by decide +kernel
theorem dX4_readConditions_37 : decode cX4_readConditions 37 = .ok (.new 7, 3) := by decide +kernel
theorem dX4_readConditions_40 : decode cX4_readConditions 40 = .ok (.dup, 1) := by decide +kernel
theorem dX4_readConditions_41 : decode cX4_readConditions 41 = .ok (.aload_n 0, 1) := by decide +kernel
theorem dX4_readConditions_42 : decode cX4_readConditions 42 = .ok (.getfield 44, 3) := by decide +kernel
theorem dX4_readConditions_45 : decode cX4_readConditions 45 = .ok (.getfield 327, 3) := by decide +kernel
theorem dX4_readConditions_48 : decode cX4_readConditions 48 = .ok (.aload_n 0, 1) := by decide +kernel
theorem dX4_readConditions_49 : decode cX4_readConditions 49 = .ok (.getfield 44, 3) := by decide +kernel
theorem dX4_readConditions_52 : decode cX4_readConditions 52 = .ok (.getfield 328, 3) := by decide +kernel
theorem dX4_readConditions_55 : decode cX4_readConditions 55 = .ok (.aload_n 0, 1) := by decide +kernel
theorem dX4_readConditions_56 : decode cX4_readConditions 56 = .ok (.getfield 44, 3) := by decide +kernel
theorem dX4_readConditions_59 : decode cX4_readConditions 59 = .ok (.getfield 329, 3) := by decide +kernel
theorem dX4_readConditions_62 : decode cX4_readConditions 62 = .ok (.invokespecial 9, 3) := by decide +kernel
theorem dX4_readConditions_65 : decode cX4_readConditions 65 = .ok (.astore_n 3, 1) := by decide +kernel
theorem dX4_readConditions_66 : decode cX4_readConditions 66 = .ok (.aload_n 0, 1) := by decide +kernel
theorem dX4_readConditions_67 : decode cX4_readConditions 67 = .ok (.aload_n 3, 1) := by decide +kernel
theorem dX4_readConditions_68 : decode cX4_readConditions 68 = .ok (.invokevirtual 66, 3) := by decide +kernel
theorem dX4_readConditions_71 : decode cX4_readConditions 71 = .ok (.ifCond .eq 5, 3) := by decide +kernel
theorem dX4_readConditions_74 : decode cX4_readConditions 74 = .ok (.iload_n 1, 1) := by decide +kernel
theorem dX4_readConditions_75 : decode cX4_readConditions 75 = .ok (.ireturn, 1) := by decide +kernel
theorem dX4_readConditions_76 : decode cX4_readConditions 76 = .ok (.aload_n 0, 1) := by decide +kernel
theorem dX4_readConditions_77 : decode cX4_readConditions 77 = .ok (.getfield 17, 3) := by decide +kernel
theorem dX4_readConditions_80 : decode cX4_readConditions 80 = .ok (.aload_n 3, 1) := by decide +kernel
theorem dX4_readConditions_81 : decode cX4_readConditions 81 = .ok (.invokevirtual 78, 3) := by decide +kernel
theorem dX4_readConditions_84 : decode cX4_readConditions 84 = .ok (.pop, 1) := by decide +kernel
theorem dX4_readConditions_85 : decode cX4_readConditions 85 = .ok (.iinc 1 1, 3) := by decide +kernel
theorem dX4_readConditions_88 : decode cX4_readConditions 88 = .ok (.iload_n 2, 1) := by decide +kernel
theorem dX4_readConditions_89 : decode cX4_readConditions 89 = .ok (.aload_n 0, 1) := by decide +kernel
theorem dX4_readConditions_90 : decode cX4_readConditions 90 = .ok (.getfield 38, 3) := by decide +kernel
theorem dX4_readConditions_93 : decode cX4_readConditions 93 = .ok (.if_icmp .ge 16, 3) := by decide +kernel
theorem dX4_readConditions_96 : decode cX4_readConditions 96 = .ok (.aload_n 0, 1) := by decide +kernel
theorem dX4_readConditions_97 : decode cX4_readConditions 97 = .ok (.getfield 44, 3) := by decide +kernel
theorem dX4_readConditions_100 : decode cX4_readConditions 100 = .ok (.aload_n 0, 1) := by decide +kernel
theorem dX4_readConditions_101 : decode cX4_readConditions 101 = .ok (.iload_n 2, 1) := by decide +kernel
theorem dX4_readConditions_102 : decode cX4_readConditions 102 = .ok (.invokevirtual 160, 3) := by decide +kernel
theorem dX4_readConditions_105 : decode cX4_readConditions 105 = .ok (.invokevirtual 163, 3) := by decide +kernel
theorem dX4_readConditions_108 : decode cX4_readConditions 108 = .ok (.pop, 1) := by decide +kernel
theorem dX4_readConditions_109 : decode cX4_readConditions 109 = .ok (.iinc 2 1, 3) := by decide +kernel
theorem dX4_readConditions_112 : decode cX4_readConditions 112 = .ok (.goto (-101), 3) := by decide +kernel
theorem dX4_readConditions_115 : decode cX4_readConditions 115 = .ok (.iload_n 1, 1) := by decide +kernel
theorem dX4_readConditions_116 : decode cX4_readConditions 116 = .ok (.ireturn, 1) := by decide +kernel
set_option maxRecDepth 20000 in
theorem ggX4_join_X1_clear : GoodIn wsX4_join wsX1_clear := goodIn_r _ [7, 8, 9, 46, 47] (by decide +kernel) (by decide +kernel)
set_option maxRecDepth 20000 in
theorem gX4_join_X1_clear : GoodIn wsX4_join (wsV RX4 332 RX1 yX1_clear wsX1_clear) := goodIn_app (goodIn_of _ (by decide +kernel)) ggX4_join_X1_clear
set_option maxRecDepth 20000 in
theorem ggX4_join_X4_bit : GoodIn wsX4_join wsX4_bit := goodIn_r _ [13] (by decide +kernel) (by decide +kernel)
set_option maxRecDepth 20000 in
theorem gX4_join_X4_bit : GoodIn wsX4_join (va_wsS RX4 101 yX4_bit wsX4_bit) := goodIn_app (goodIn_of _ (by decide +kernel)) ggX4_join_X4_bit
set_option maxRecDepth 20000 in
theorem ggX4_join_X3_at : GoodIn wsX4_join wsX3_at := goodIn_r _ [18, 19, 20, 41, 42, 43, 44, 45] (by decide +kernel) (by decide +kernel)
set_option maxRecDepth 20000 in
theorem gX4_join_X3_at : GoodIn wsX4_join (wsV RX4 116 RX3 yX3_at wsX3_at) := goodIn_app (goodIn_of _ (by decide +kernel)) ggX4_join_X3_at
set_option maxRecDepth 20000 in
theorem ggX4_join_X1_take : GoodIn wsX4_join wsX1_take := goodIn_r _ [24, 8, 9, 25, 12, 26, 27, 28, 29, 30, 31, 32, 46, 47, 48, 49, 50, 51, 52] (by decide +kernel) (by decide +kernel)
set_option maxRecDepth 20000 in
theorem gX4_join_X1_take : GoodIn wsX4_join (wsV RX4 273 RX1 yX1_take wsX1_take) := goodIn_app (goodIn_of _ (by decide +kernel)) ggX4_join_X1_take
theorem dX4_join_0 : decode cX4_join 0 = .ok (.aload_n 0, 1) := by decide +kernel
theorem dX4_join_1 : decode cX4_join 1 = .ok (.getfield 51, 3) := by decide +kernel
theorem dX4_join_4 : decode cX4_join 4 = .ok (.invokevirtual 332, 3) := by decide +kernel
theorem dX4_join_7 : decode cX4_join 7 = .ok (.iconst 0, 1) := by decide +kernel
theorem dX4_join_8 : decode cX4_join 8 = .ok (.istore_n 2, 1) := by decide +kernel
theorem dX4_join_9 : decode cX4_join 9 = .ok (.iload_n 2, 1) := by decide +kernel
theorem dX4_join_10 : decode cX4_join 10 = .ok (.aload_n 0, 1) := by decide +kernel
theorem dX4_join_11 : decode cX4_join 11 = .ok (.getfield 17, 3) := by decide +kernel
theorem dX4_join_14 : decode cX4_join 14 = .ok (.getfield 95, 3) := by decide +kernel
theorem dX4_join_17 : decode cX4_join 17 = .ok (.if_icmp .ge 33, 3) := by decide +kernel
theorem dX4_join_20 : decode cX4_join 20 = .ok (.iload_n 1, 1) := by decide +kernel
theorem dX4_join_21 : decode cX4_join 21 = .ok (.iload_n 2, 1) := by decide +kernel
theorem dX4_join_22 : decode cX4_join 22 = .ok (.invokestatic 101, 3) := by decide +kernel
theorem dX4_join_25 : decode cX4_join 25 = .ok (.iand, 1) := by decide +kernel
theorem dX4_join_26 : decode cX4_join 26 = .ok (.ifCond .eq 18, 3) := by decide +kernel
theorem dX4_join_29 : decode cX4_join 29 = .ok (.aload_n 0, 1) := by decide +kernel
theorem dX4_join_30 : decode cX4_join 30 = .ok (.getfield 51, 3) := by decide +kernel
theorem dX4_join_33 : decode cX4_join 33 = .ok (.aload_n 0, 1) := by decide +kernel
theorem dX4_join_34 : decode cX4_join 34 = .ok (.getfield 17, 3) := by decide +kernel
theorem dX4_join_37 : decode cX4_join 37 = .ok (.iload_n 2, 1) := by decide +kernel
theorem dX4_join_38 : decode cX4_join 38 = .ok (.invokevirtual 116, 3) := by decide +kernel
theorem dX4_join_41 : decode cX4_join 41 = .ok (.invokevirtual 273, 3) := by decide +kernel
theorem dX4_join_44 : decode cX4_join 44 = .ok (.iinc 2 1, 3) := by decide +kernel
theorem dX4_join_47 : decode cX4_join 47 = .ok (.goto (-38), 3) := by decide +kernel
theorem dX4_join_50 : decode cX4_join 50 = .ok (.aload_n 0, 1) := by decide +kernel
theorem dX4_join_51 : decode cX4_join 51 = .ok (.getfield 51, 3) := by decide +kernel
theorem dX4_join_54 : decode cX4_join 54 = .ok (.areturn, 1) := by decide +kernel
set_option maxRecDepth 20000 in
theorem ggX4_joinedOf_X3_arePossible : GoodIn wsX4_joinedOf wsX3_arePossible := goodIn_r _ [7, 8, 9, 10, 11, 12, 13, 14, 6, 15, 16, 58, 59, 60, 61, 62] (by decide +kernel) (by decide +kernel)
set_option maxRecDepth 20000 in
theorem gX4_joinedOf_X3_arePossible : GoodIn wsX4_joinedOf (wsV RX4 136 RX3 yX3_arePossible wsX3_arePossible) := goodIn_app (goodIn_of _ (by decide +kernel)) ggX4_joinedOf_X3_arePossible
set_option maxRecDepth 20000 in
theorem ggX4_joinedOf_X4_join : GoodIn wsX4_joinedOf wsX4_join := goodIn_r _ [20, 21, 1, 22, 23, 24, 25, 26, 27, 28, 29, 9, 10, 11, 30, 31, 32, 6, 33, 34, 35, 36, 37, 38, 39, 40, 41, 42, 43, 44, 45, 46, 47, 48, 49, 50, 51, 52, 53, 54, 55, 58, 59, 60, 61, 62, 56, 57, 63, 64, 65, 66, 67] (by decide +kernel) (by decide +kernel)
set_option maxRecDepth 20000 in
theorem gX4_joinedOf_X4_join : GoodIn wsX4_joinedOf (wsV RX4 246 RX4 yX4_join wsX4_join) := goodIn_app (goodIn_of _ (by decide +kernel)) ggX4_joinedOf_X4_join
theorem dX4_joinedOf_0 : decode cX4_joinedOf 0 = .ok (.aload_n 0, 1) := by decide +kernel
theorem dX4_joinedOf_1 : decode cX4_joinedOf 1 = .ok (.getfield 17, 3) := by decide +kernel
theorem dX4_joinedOf_4 : decode cX4_joinedOf 4 = .ok (.iload_n 1, 1) := by decide +kernel
theorem dX4_joinedOf_5 : decode cX4_joinedOf 5 = .ok (.invokevirtual 136, 3) := by decide +kernel
theorem dX4_joinedOf_8 : decode cX4_joinedOf 8 = .ok (.ifCond .ne 7, 3) := by decide +kernel
theorem dX4_joinedOf_11 : decode cX4_joinedOf 11 = .ok (.ldc2_w 244, 3) := by decide +kernel
theorem dX4_joinedOf_14 : decode cX4_joinedOf 14 = .ok (.lreturn, 1) := by decide +kernel
theorem dX4_joinedOf_15 : decode cX4_joinedOf 15 = .ok (.aload_n 0, 1) := by decide +kernel
theorem dX4_joinedOf_16 : decode cX4_joinedOf 16 = .ok (.iload_n 1, 1) := by decide +kernel
theorem dX4_joinedOf_17 : decode cX4_joinedOf 17 = .ok (.invokevirtual 246, 3) := by decide +kernel
theorem dX4_joinedOf_20 : decode cX4_joinedOf 20 = .ok (.astore_n 3, 1) := by decide +kernel
theorem dX4_joinedOf_21 : decode cX4_joinedOf 21 = .ok (.iload_n 2, 1) := by decide +kernel
theorem dX4_joinedOf_22 : decode cX4_joinedOf 22 = .ok (.ifCond .ne 10, 3) := by decide +kernel
theorem dX4_joinedOf_25 : decode cX4_joinedOf 25 = .ok (.aload_n 3, 1) := by decide +kernel
theorem dX4_joinedOf_26 : decode cX4_joinedOf 26 = .ok (.getfield 254, 3) := by decide +kernel
theorem dX4_joinedOf_29 : decode cX4_joinedOf 29 = .ok (.goto 7, 3) := by decide +kernel
theorem dX4_joinedOf_32 : decode cX4_joinedOf 32 = .ok (.aload_n 3, 1) := by decide +kernel
theorem dX4_joinedOf_33 : decode cX4_joinedOf 33 = .ok (.getfield 276, 3) := by decide +kernel
theorem dX4_joinedOf_36 : decode cX4_joinedOf 36 = .ok (.lreturn, 1) := by decide +kernel
set_option maxRecDepth 20000 in
theorem ggX4_isTold_X4_bit : GoodIn wsX4_isTold wsX4_bit := goodIn_r _ [5] (by decide +kernel) (by decide +kernel)
set_option maxRecDepth 20000 in
theorem gX4_isTold_X4_bit : GoodIn wsX4_isTold (va_wsS RX4 101 yX4_bit wsX4_bit) := goodIn_app (goodIn_of _ (by decide +kernel)) ggX4_isTold_X4_bit
set_option maxRecDepth 20000 in
theorem ggX4_isTold_X3_isOn : GoodIn wsX4_isTold wsX3_isOn := goodIn_r _ [10, 11, 12, 13, 14, 9, 15, 16, 3, 4, 5, 80, 81, 82, 83, 84] (by decide +kernel) (by decide +kernel)
set_option maxRecDepth 20000 in
theorem gX4_isTold_X3_isOn : GoodIn wsX4_isTold (wsV RX4 113 RX3 yX3_isOn wsX3_isOn) := goodIn_app (goodIn_of _ (by decide +kernel)) ggX4_isTold_X3_isOn
set_option maxRecDepth 20000 in
theorem ggX4_isTold_X3_arePossible : GoodIn wsX4_isTold wsX3_arePossible := goodIn_r _ [20, 16, 3, 4, 5, 21, 22, 23, 9, 24, 25, 80, 81, 82, 83, 84] (by decide +kernel) (by decide +kernel)
set_option maxRecDepth 20000 in
theorem gX4_isTold_X3_arePossible : GoodIn wsX4_isTold (wsV RX4 136 RX3 yX3_arePossible wsX3_arePossible) := goodIn_app (goodIn_of _ (by decide +kernel)) ggX4_isTold_X3_arePossible
set_option maxRecDepth 20000 in
theorem ggX4_isTold_X4_join : GoodIn wsX4_isTold wsX4_join := goodIn_r _ [29, 30, 1, 31, 32, 33, 34, 35, 36, 37, 2, 3, 4, 5, 38, 39, 40, 9, 41, 42, 43, 44, 45, 46, 47, 48, 49, 50, 51, 52, 53, 54, 55, 72, 73, 74, 75, 76, 77, 78, 79, 80, 81, 82, 83, 84, 85, 86, 87, 88, 89, 90, 91] (by decide +kernel) (by decide +kernel)
set_option maxRecDepth 20000 in
theorem gX4_isTold_X4_join : GoodIn wsX4_isTold (wsV RX4 246 RX4 yX4_join wsX4_join) := goodIn_app (goodIn_of _ (by decide +kernel)) ggX4_isTold_X4_join
set_option maxRecDepth 20000 in
theorem ggX4_isTold_X3_at : GoodIn wsX4_isTold wsX3_at := goodIn_r _ [41, 42, 43, 80, 81, 82, 83, 84] (by decide +kernel) (by decide +kernel)
set_option maxRecDepth 20000 in
theorem gX4_isTold_X3_at : GoodIn wsX4_isTold (wsV RX4 116 RX3 yX3_at wsX3_at) := goodIn_app (goodIn_of _ (by decide +kernel)) ggX4_isTold_X3_at
set_option maxRecDepth 20000 in
theorem ggX4_isTold_X1_tells : GoodIn wsX4_isTold wsX1_tells := goodIn_r _ [59, 36, 37, 60, 61, 62, 63, 64, 65, 52, 4, 53, 66, 67, 68, 69, 70, 71, 85, 86, 87, 88, 89, 90, 91] (by decide +kernel) (by decide +kernel)
set_option maxRecDepth 20000 in
theorem gX4_isTold_X1_tells : GoodIn wsX4_isTold (wsV RX4 270 RX1 yX1_tells wsX1_tells) := goodIn_app (goodIn_of _ (by decide +kernel)) ggX4_isTold_X1_tells
theorem dX4_isTold_0 : decode cX4_isTold 0 = .ok (.aload_n 0, 1) := by decide +kernel
theorem dX4_isTold_1 : decode cX4_isTold 1 = .ok (.getfield 17, 3) := by decide +kernel
theorem dX4_isTold_4 : decode cX4_isTold 4 = .ok (.getfield 98, 3) := by decide +kernel
theorem dX4_isTold_7 : decode cX4_isTold 7 = .ok (.iload_n 1, 1) := by decide +kernel
theorem dX4_isTold_8 : decode cX4_isTold 8 = .ok (.invokestatic 101, 3) := by decide +kernel
theorem dX4_isTold_11 : decode cX4_isTold 11 = .ok (.iconst (-1), 1) := by decide +kernel
theorem dX4_isTold_12 : decode cX4_isTold 12 = .ok (.ixor, 1) := by decide +kernel
theorem dX4_isTold_13 : decode cX4_isTold 13 = .ok (.iand, 1) := by decide +kernel
theorem dX4_isTold_14 : decode cX4_isTold 14 = .ok (.istore_n 2, 1) := by decide +kernel
theorem dX4_isTold_15 : decode cX4_isTold 15 = .ok (.aload_n 0, 1) := by decide +kernel
theorem dX4_isTold_16 : decode cX4_isTold 16 = .ok (.getfield 17, 3) := by decide +kernel
theorem dX4_isTold_19 : decode cX4_isTold 19 = .ok (.iload_n 1, 1) := by decide +kernel
theorem dX4_isTold_20 : decode cX4_isTold 20 = .ok (.invokevirtual 113, 3) := by decide +kernel
theorem dX4_isTold_23 : decode cX4_isTold 23 = .ok (.ifCond .eq 37, 3) := by decide +kernel
theorem dX4_isTold_26 : decode cX4_isTold 26 = .ok (.aload_n 0, 1) := by decide +kernel
theorem dX4_isTold_27 : decode cX4_isTold 27 = .ok (.getfield 17, 3) := by decide +kernel
theorem dX4_isTold_30 : decode cX4_isTold 30 = .ok (.iload_n 2, 1) := by decide +kernel
theorem dX4_isTold_31 : decode cX4_isTold 31 = .ok (.invokevirtual 136, 3) := by decide +kernel
theorem dX4_isTold_34 : decode cX4_isTold 34 = .ok (.ifCond .eq 26, 3) := by decide +kernel
theorem dX4_isTold_37 : decode cX4_isTold 37 = .ok (.aload_n 0, 1) := by decide +kernel
theorem dX4_isTold_38 : decode cX4_isTold 38 = .ok (.iload_n 2, 1) := by decide +kernel
theorem dX4_isTold_39 : decode cX4_isTold 39 = .ok (.invokevirtual 246, 3) := by decide +kernel
theorem dX4_isTold_42 : decode cX4_isTold 42 = .ok (.aload_n 0, 1) := by decide +kernel
theorem dX4_isTold_43 : decode cX4_isTold 43 = .ok (.getfield 17, 3) := by decide +kernel
theorem dX4_isTold_46 : decode cX4_isTold 46 = .ok (.iload_n 1, 1) := by decide +kernel
theorem dX4_isTold_47 : decode cX4_isTold 47 = .ok (.invokevirtual 116, 3) := by decide +kernel
theorem dX4_isTold_50 : decode cX4_isTold 50 = .ok (.invokevirtual 270, 3) := by decide +kernel
theorem dX4_isTold_53 : decode cX4_isTold 53 = .ok (.ifCond .eq 7, 3) := by decide +kernel
theorem dX4_isTold_56 : decode cX4_isTold 56 = .ok (.iconst 1, 1) := by decide +kernel
theorem dX4_isTold_57 : decode cX4_isTold 57 = .ok (.goto 4, 3) := by decide +kernel
theorem dX4_isTold_60 : decode cX4_isTold 60 = .ok (.iconst 0, 1) := by decide +kernel
theorem dX4_isTold_61 : decode cX4_isTold 61 = .ok (.ireturn, 1) := by decide +kernel
set_option maxRecDepth 20000 in
theorem ggX4_toldOnes_X4_isTold : GoodIn wsX4_toldOnes wsX4_isTold := goodIn_r _ [6, 1, 7, 8, 5, 9, 10, 11, 12, 13, 14, 15, 16, 17, 18, 19, 20, 21, 22, 23, 24, 25, 26, 27, 28, 29, 30, 31, 32, 33, 34, 35, 36, 37, 38, 39, 40, 41, 42, 43, 44, 45, 46, 47, 48, 49, 50, 51, 52, 53, 54, 55, 56, 57, 58, 59, 60, 61, 62, 63, 64, 65, 66, 67, 68, 69, 70, 71, 72, 73, 74, 75, 76, 77, 78, 79, 80, 81, 82, 83, 84, 85, 86, 87, 88, 89, 90, 91, 92, 93, 94, 95] (by decide +kernel) (by decide +kernel)
set_option maxRecDepth 20000 in
theorem gX4_toldOnes_X4_isTold : GoodIn wsX4_toldOnes (wsV RX4 141 RX4 yX4_isTold wsX4_isTold) := goodIn_app (goodIn_of _ (by decide +kernel)) ggX4_toldOnes_X4_isTold
theorem dX4_toldOnes_0 : decode cX4_toldOnes 0 = .ok (.iconst 0, 1) := by decide +kernel
theorem dX4_toldOnes_1 : decode cX4_toldOnes 1 = .ok (.istore_n 1, 1) := by decide +kernel
theorem dX4_toldOnes_2 : decode cX4_toldOnes 2 = .ok (.iconst 0, 1) := by decide +kernel
theorem dX4_toldOnes_3 : decode cX4_toldOnes 3 = .ok (.istore_n 2, 1) := by decide +kernel
theorem dX4_toldOnes_4 : decode cX4_toldOnes 4 = .ok (.iload_n 2, 1) := by decide +kernel
theorem dX4_toldOnes_5 : decode cX4_toldOnes 5 = .ok (.aload_n 0, 1) := by decide +kernel
theorem dX4_toldOnes_6 : decode cX4_toldOnes 6 = .ok (.getfield 17, 3) := by decide +kernel
theorem dX4_toldOnes_9 : decode cX4_toldOnes 9 = .ok (.getfield 95, 3) := by decide +kernel
theorem dX4_toldOnes_12 : decode cX4_toldOnes 12 = .ok (.if_icmp .ge 20, 3) := by decide +kernel
theorem dX4_toldOnes_15 : decode cX4_toldOnes 15 = .ok (.aload_n 0, 1) := by decide +kernel
theorem dX4_toldOnes_16 : decode cX4_toldOnes 16 = .ok (.iload_n 2, 1) := by decide +kernel
theorem dX4_toldOnes_17 : decode cX4_toldOnes 17 = .ok (.invokevirtual 141, 3) := by decide +kernel
theorem dX4_toldOnes_20 : decode cX4_toldOnes 20 = .ok (.ifCond .eq 6, 3) := by decide +kernel
theorem dX4_toldOnes_23 : decode cX4_toldOnes 23 = .ok (.iinc 1 1, 3) := by decide +kernel
theorem dX4_toldOnes_26 : decode cX4_toldOnes 26 = .ok (.iinc 2 1, 3) := by decide +kernel
theorem dX4_toldOnes_29 : decode cX4_toldOnes 29 = .ok (.goto (-25), 3) := by decide +kernel
theorem dX4_toldOnes_32 : decode cX4_toldOnes 32 = .ok (.iload_n 1, 1) := by decide +kernel
theorem dX4_toldOnes_33 : decode cX4_toldOnes 33 = .ok (.ireturn, 1) := by decide +kernel
set_option maxRecDepth 20000 in
theorem ggX4_strongestFor_X3_isOn : GoodIn wsX4_strongestFor wsX3_isOn := goodIn_r _ [6, 7, 8, 9, 10, 5, 11, 12, 13, 14, 15, 42, 43, 44, 45, 46] (by decide +kernel) (by decide +kernel)
set_option maxRecDepth 20000 in
theorem gX4_strongestFor_X3_isOn : GoodIn wsX4_strongestFor (wsV RX4 113 RX3 yX3_isOn wsX3_isOn) := goodIn_app (goodIn_of _ (by decide +kernel)) ggX4_strongestFor_X3_isOn
set_option maxRecDepth 20000 in
theorem ggX4_strongestFor_X3_at : GoodIn wsX4_strongestFor wsX3_at := goodIn_r _ [19, 20, 21, 42, 43, 44, 45, 46] (by decide +kernel) (by decide +kernel)
set_option maxRecDepth 20000 in
theorem gX4_strongestFor_X3_at : GoodIn wsX4_strongestFor (wsV RX4 116 RX3 yX3_at wsX3_at) := goodIn_app (goodIn_of _ (by decide +kernel)) ggX4_strongestFor_X3_at
set_option maxRecDepth 20000 in
theorem ggX4_strongestFor_X4_powerIn : GoodIn wsX4_strongestFor wsX4_powerIn := goodIn_r _ [24, 25, 26, 27, 28, 29, 30, 31, 32, 14, 33, 47, 48, 49, 50, 51] (by decide +kernel) (by decide +kernel)
set_option maxRecDepth 20000 in
theorem gX4_strongestFor_X4_powerIn : GoodIn wsX4_strongestFor (va_wsS RX4 226 yX4_powerIn wsX4_powerIn) := goodIn_app (goodIn_of _ (by decide +kernel)) ggX4_strongestFor_X4_powerIn
theorem dX4_strongestFor_0 : decode cX4_strongestFor 0 = .ok (.iconst (-1), 1) := by decide +kernel
theorem dX4_strongestFor_1 : decode cX4_strongestFor 1 = .ok (.istore_n 2, 1) := by decide +kernel
theorem dX4_strongestFor_2 : decode cX4_strongestFor 2 = .ok (.lconst 1, 1) := by decide +kernel
theorem dX4_strongestFor_3 : decode cX4_strongestFor 3 = .ok (.lstore_n 3, 1) := by decide +kernel
theorem dX4_strongestFor_4 : decode cX4_strongestFor 4 = .ok (.iconst 0, 1) := by decide +kernel
theorem dX4_strongestFor_5 : decode cX4_strongestFor 5 = .ok (.istore 5, 2) := by decide +kernel
theorem dX4_strongestFor_7 : decode cX4_strongestFor 7 = .ok (.iload 5, 2) := by decide +kernel
theorem dX4_strongestFor_9 : decode cX4_strongestFor 9 = .ok (.aload_n 0, 1) := by decide +kernel
theorem dX4_strongestFor_10 : decode cX4_strongestFor 10 = .ok (.getfield 17, 3) := by decide +kernel
theorem dX4_strongestFor_13 : decode cX4_strongestFor 13 = .ok (.getfield 95, 3) := by decide +kernel
theorem dX4_strongestFor_16 : decode cX4_strongestFor 16 = .ok (.if_icmp .ge 53, 3) := by decide +kernel
theorem dX4_strongestFor_19 : decode cX4_strongestFor 19 = .ok (.aload_n 0, 1) := by decide +kernel
theorem dX4_strongestFor_20 : decode cX4_strongestFor 20 = .ok (.getfield 17, 3) := by decide +kernel
theorem dX4_strongestFor_23 : decode cX4_strongestFor 23 = .ok (.iload 5, 2) := by decide +kernel
theorem dX4_strongestFor_25 : decode cX4_strongestFor 25 = .ok (.invokevirtual 113, 3) := by decide +kernel
theorem dX4_strongestFor_28 : decode cX4_strongestFor 28 = .ok (.ifCond .eq 19, 3) := by decide +kernel
theorem dX4_strongestFor_31 : decode cX4_strongestFor 31 = .ok (.aload_n 0, 1) := by decide +kernel
theorem dX4_strongestFor_32 : decode cX4_strongestFor 32 = .ok (.getfield 17, 3) := by decide +kernel
theorem dX4_strongestFor_35 : decode cX4_strongestFor 35 = .ok (.iload 5, 2) := by decide +kernel
theorem dX4_strongestFor_37 : decode cX4_strongestFor 37 = .ok (.invokevirtual 116, 3) := by decide +kernel
theorem dX4_strongestFor_40 : decode cX4_strongestFor 40 = .ok (.iload_n 1, 1) := by decide +kernel
theorem dX4_strongestFor_41 : decode cX4_strongestFor 41 = .ok (.invokestatic 226, 3) := by decide +kernel
theorem dX4_strongestFor_44 : decode cX4_strongestFor 44 = .ok (.goto 4, 3) := by decide +kernel
theorem dX4_strongestFor_47 : decode cX4_strongestFor 47 = .ok (.lconst 1, 1) := by decide +kernel
theorem dX4_strongestFor_48 : decode cX4_strongestFor 48 = .ok (.lstore 6, 2) := by decide +kernel
theorem dX4_strongestFor_50 : decode cX4_strongestFor 50 = .ok (.lload 6, 2) := by decide +kernel
theorem dX4_strongestFor_52 : decode cX4_strongestFor 52 = .ok (.lload_n 3, 1) := by decide +kernel
theorem dX4_strongestFor_53 : decode cX4_strongestFor 53 = .ok (.lcmp, 1) := by decide +kernel
theorem dX4_strongestFor_54 : decode cX4_strongestFor 54 = .ok (.ifCond .le 9, 3) := by decide +kernel
theorem dX4_strongestFor_57 : decode cX4_strongestFor 57 = .ok (.iload 5, 2) := by decide +kernel
theorem dX4_strongestFor_59 : decode cX4_strongestFor 59 = .ok (.istore_n 2, 1) := by decide +kernel
theorem dX4_strongestFor_60 : decode cX4_strongestFor 60 = .ok (.lload 6, 2) := by decide +kernel
theorem dX4_strongestFor_62 : decode cX4_strongestFor 62 = .ok (.lstore_n 3, 1) := by decide +kernel
theorem dX4_strongestFor_63 : decode cX4_strongestFor 63 = .ok (.iinc 5 1, 3) := by decide +kernel
theorem dX4_strongestFor_66 : decode cX4_strongestFor 66 = .ok (.goto (-59), 3) := by decide +kernel
theorem dX4_strongestFor_69 : decode cX4_strongestFor 69 = .ok (.iload_n 2, 1) := by decide +kernel
theorem dX4_strongestFor_70 : decode cX4_strongestFor 70 = .ok (.ireturn, 1) := by decide +kernel
set_option maxRecDepth 20000 in
theorem ggX4_contradictionsByPrime_X3_at : GoodIn wsX4_contradictionsByPrime wsX3_at := goodIn_r _ [10, 11, 12, 46, 47, 48, 49, 50] (by decide +kernel) (by decide +kernel)
set_option maxRecDepth 20000 in
theorem gX4_contradictionsByPrime_X3_at : GoodIn wsX4_contradictionsByPrime (wsV RX4 116 RX3 yX3_at wsX3_at) := goodIn_app (goodIn_of _ (by decide +kernel)) ggX4_contradictionsByPrime_X3_at
set_option maxRecDepth 20000 in
theorem ggX4_contradictionsByPrime_X3_isOn : GoodIn wsX4_contradictionsByPrime wsX3_isOn := goodIn_r _ [16, 17, 18, 19, 20, 9, 21, 22, 23, 24, 25, 46, 47, 48, 49, 50] (by decide +kernel) (by decide +kernel)
set_option maxRecDepth 20000 in
theorem gX4_contradictionsByPrime_X3_isOn : GoodIn wsX4_contradictionsByPrime (wsV RX4 113 RX3 yX3_isOn wsX3_isOn) := goodIn_app (goodIn_of _ (by decide +kernel)) ggX4_contradictionsByPrime_X3_isOn
set_option maxRecDepth 20000 in
theorem ggX4_contradictionsByPrime_X0_isVoid : GoodIn wsX4_contradictionsByPrime wsX0_isVoid := goodIn_r _ [30, 31, 51, 52, 53, 54, 55] (by decide +kernel) (by decide +kernel)
set_option maxRecDepth 20000 in
theorem gX4_contradictionsByPrime_X0_isVoid : GoodIn wsX4_contradictionsByPrime (wsV RX4 120 RX0 yX0_isVoid wsX0_isVoid) := goodIn_app (goodIn_of _ (by decide +kernel)) ggX4_contradictionsByPrime_X0_isVoid
set_option maxRecDepth 20000 in
theorem ggX4_contradictionsByPrime_X4_powerIn : GoodIn wsX4_contradictionsByPrime wsX4_powerIn := goodIn_r _ [34, 26, 27, 28, 29, 30, 31, 35, 36, 24, 37, 51, 52, 53, 54, 55] (by decide +kernel) (by decide +kernel)
set_option maxRecDepth 20000 in
theorem gX4_contradictionsByPrime_X4_powerIn : GoodIn wsX4_contradictionsByPrime (va_wsS RX4 226 yX4_powerIn wsX4_powerIn) := goodIn_app (goodIn_of _ (by decide +kernel)) ggX4_contradictionsByPrime_X4_powerIn
set_option maxRecDepth 20000 in
theorem ggX4_contradictionsByPrime_X4_rest : GoodIn wsX4_contradictionsByPrime wsX4_rest := goodIn_r _ [37] (by decide +kernel) (by decide +kernel)
set_option maxRecDepth 20000 in
theorem gX4_contradictionsByPrime_X4_rest : GoodIn wsX4_contradictionsByPrime (va_wsS RX4 230 yX4_rest wsX4_rest) := goodIn_app (goodIn_of _ (by decide +kernel)) ggX4_contradictionsByPrime_X4_rest
theorem dX4_contradictionsByPrime_0 : decode cX4_contradictionsByPrime 0 = .ok (.iconst 0, 1) := by decide +kernel
theorem dX4_contradictionsByPrime_1 : decode cX4_contradictionsByPrime 1 = .ok (.istore_n 3, 1) := by decide +kernel
theorem dX4_contradictionsByPrime_2 : decode cX4_contradictionsByPrime 2 = .ok (.iconst 0, 1) := by decide +kernel
theorem dX4_contradictionsByPrime_3 : decode cX4_contradictionsByPrime 3 = .ok (.istore 4, 2) := by decide +kernel
theorem dX4_contradictionsByPrime_5 : decode cX4_contradictionsByPrime 5 = .ok (.iload 4, 2) := by decide +kernel
theorem dX4_contradictionsByPrime_7 : decode cX4_contradictionsByPrime 7 = .ok (.aload_n 0, 1) := by decide +kernel
theorem dX4_contradictionsByPrime_8 : decode cX4_contradictionsByPrime 8 = .ok (.getfield 17, 3) := by decide +kernel
theorem dX4_contradictionsByPrime_11 : decode cX4_contradictionsByPrime 11 = .ok (.getfield 95, 3) := by decide +kernel
theorem dX4_contradictionsByPrime_14 : decode cX4_contradictionsByPrime 14 = .ok (.if_icmp .ge 84, 3) := by decide +kernel
theorem dX4_contradictionsByPrime_17 : decode cX4_contradictionsByPrime 17 = .ok (.aload_n 0, 1) := by decide +kernel
theorem dX4_contradictionsByPrime_18 : decode cX4_contradictionsByPrime 18 = .ok (.getfield 17, 3) := by decide +kernel
theorem dX4_contradictionsByPrime_21 : decode cX4_contradictionsByPrime 21 = .ok (.iload 4, 2) := by decide +kernel
theorem dX4_contradictionsByPrime_23 : decode cX4_contradictionsByPrime 23 = .ok (.invokevirtual 116, 3) := by decide +kernel
theorem dX4_contradictionsByPrime_26 : decode cX4_contradictionsByPrime 26 = .ok (.astore 5, 2) := by decide +kernel
theorem dX4_contradictionsByPrime_28 : decode cX4_contradictionsByPrime 28 = .ok (.aload_n 0, 1) := by decide +kernel
theorem dX4_contradictionsByPrime_29 : decode cX4_contradictionsByPrime 29 = .ok (.getfield 17, 3) := by decide +kernel
theorem dX4_contradictionsByPrime_32 : decode cX4_contradictionsByPrime 32 = .ok (.iload 4, 2) := by decide +kernel
theorem dX4_contradictionsByPrime_34 : decode cX4_contradictionsByPrime 34 = .ok (.invokevirtual 113, 3) := by decide +kernel
theorem dX4_contradictionsByPrime_37 : decode cX4_contradictionsByPrime 37 = .ok (.ifCond .eq 55, 3) := by decide +kernel
theorem dX4_contradictionsByPrime_40 : decode cX4_contradictionsByPrime 40 = .ok (.aload 5, 2) := by decide +kernel
theorem dX4_contradictionsByPrime_42 : decode cX4_contradictionsByPrime 42 = .ok (.invokevirtual 120, 3) := by decide +kernel
theorem dX4_contradictionsByPrime_45 : decode cX4_contradictionsByPrime 45 = .ok (.ifCond .ne 47, 3) := by decide +kernel
theorem dX4_contradictionsByPrime_48 : decode cX4_contradictionsByPrime 48 = .ok (.aload 5, 2) := by decide +kernel
theorem dX4_contradictionsByPrime_50 : decode cX4_contradictionsByPrime 50 = .ok (.iload_n 2, 1) := by decide +kernel
theorem dX4_contradictionsByPrime_51 : decode cX4_contradictionsByPrime 51 = .ok (.invokestatic 226, 3) := by decide +kernel
theorem dX4_contradictionsByPrime_54 : decode cX4_contradictionsByPrime 54 = .ok (.aload_n 1, 1) := by decide +kernel
theorem dX4_contradictionsByPrime_55 : decode cX4_contradictionsByPrime 55 = .ok (.iload_n 2, 1) := by decide +kernel
theorem dX4_contradictionsByPrime_56 : decode cX4_contradictionsByPrime 56 = .ok (.invokestatic 226, 3) := by decide +kernel
theorem dX4_contradictionsByPrime_59 : decode cX4_contradictionsByPrime 59 = .ok (.invokestatic 335, 3) := by decide +kernel
theorem dX4_contradictionsByPrime_62 : decode cX4_contradictionsByPrime 62 = .ok (.lstore 6, 2) := by decide +kernel
theorem dX4_contradictionsByPrime_64 : decode cX4_contradictionsByPrime 64 = .ok (.aload 5, 2) := by decide +kernel
theorem dX4_contradictionsByPrime_66 : decode cX4_contradictionsByPrime 66 = .ok (.getfield 126, 3) := by decide +kernel
theorem dX4_contradictionsByPrime_69 : decode cX4_contradictionsByPrime 69 = .ok (.i2l, 1) := by decide +kernel
theorem dX4_contradictionsByPrime_70 : decode cX4_contradictionsByPrime 70 = .ok (.lload 6, 2) := by decide +kernel
theorem dX4_contradictionsByPrime_72 : decode cX4_contradictionsByPrime 72 = .ok (.invokestatic 230, 3) := by decide +kernel
theorem dX4_contradictionsByPrime_75 : decode cX4_contradictionsByPrime 75 = .ok (.aload_n 1, 1) := by decide +kernel
theorem dX4_contradictionsByPrime_76 : decode cX4_contradictionsByPrime 76 = .ok (.getfield 126, 3) := by decide +kernel
theorem dX4_contradictionsByPrime_79 : decode cX4_contradictionsByPrime 79 = .ok (.i2l, 1) := by decide +kernel
theorem dX4_contradictionsByPrime_80 : decode cX4_contradictionsByPrime 80 = .ok (.lload 6, 2) := by decide +kernel
theorem dX4_contradictionsByPrime_82 : decode cX4_contradictionsByPrime 82 = .ok (.invokestatic 230, 3) := by decide +kernel
theorem dX4_contradictionsByPrime_85 : decode cX4_contradictionsByPrime 85 = .ok (.lcmp, 1) := by decide +kernel
theorem dX4_contradictionsByPrime_86 : decode cX4_contradictionsByPrime 86 = .ok (.ifCond .eq 6, 3) := by decide +kernel
theorem dX4_contradictionsByPrime_89 : decode cX4_contradictionsByPrime 89 = .ok (.iinc 3 1, 3) := by decide +kernel
theorem dX4_contradictionsByPrime_92 : decode cX4_contradictionsByPrime 92 = .ok (.iinc 4 1, 3) := by decide +kernel
theorem dX4_contradictionsByPrime_95 : decode cX4_contradictionsByPrime 95 = .ok (.goto (-90), 3) := by decide +kernel
theorem dX4_contradictionsByPrime_98 : decode cX4_contradictionsByPrime 98 = .ok (.iload_n 3, 1) := by decide +kernel
theorem dX4_contradictionsByPrime_99 : decode cX4_contradictionsByPrime 99 = .ok (.ireturn, 1) := by decide +kernel
theorem dX4_mixed_0 : decode cX4_mixed 0 = .ok (.ldc2_w 338, 3) := by decide +kernel
theorem dX4_mixed_3 : decode cX4_mixed 3 = .ok (.lload_n 0, 1) := by decide +kernel
theorem dX4_mixed_4 : decode cX4_mixed 4 = .ok (.lmul, 1) := by decide +kernel
theorem dX4_mixed_5 : decode cX4_mixed 5 = .ok (.lload_n 2, 1) := by decide +kernel
theorem dX4_mixed_6 : decode cX4_mixed 6 = .ok (.ladd, 1) := by decide +kernel
theorem dX4_mixed_7 : decode cX4_mixed 7 = .ok (.lreturn, 1) := by decide +kernel
set_option maxRecDepth 20000 in
theorem ggX4_withCondition_X4_condition : GoodIn wsX4_withCondition wsX4_condition := goodIn_ca (goodIn_ca (goodIn_r _ [6, 7, 8, 9, 10, 1, 11, 12, 13, 14, 15, 16, 17, 18, 19, 20, 21, 22, 23, 24, 25, 26, 27, 28, 29, 5, 30, 31, 32, 33, 34, 35, 36, 37, 38, 39, 40, 41, 42, 43, 44, 45, 46, 47, 48, 49, 50, 51, 52, 53, 54, 55, 56, 57, 58, 59, 60, 61, 62, 63, 64, 65, 66, 67, 68, 69, 70, 71, 72, 73, 74, 75, 76, 77, 78, 79, 80, 81, 82, 83, 84, 85, 86, 87, 88, 89, 90, 91, 92, 93, 111, 112, 113, 114, 115, 116, 117, 118, 124, 125, 126, 127, 128, 119, 120, 121, 122, 123, 129, 130] (by decide +kernel) (by decide +kernel)) (goodIn_sub (fun _ h => List.mem_cons_of_mem _ (List.mem_append_left _ (List.mem_append_right _ h))) (by decide +kernel))) (goodIn_sub (fun _ h => List.mem_cons_of_mem _ (List.mem_append_right _ h)) (by decide +kernel))
set_option maxRecDepth 20000 in
theorem gX4_withCondition_X4_condition : GoodIn wsX4_withCondition (wsV RX4 340 RX4 yX4_condition wsX4_condition) := goodIn_app (goodIn_of _ (by decide +kernel)) ggX4_withCondition_X4_condition
set_option maxRecDepth 20000 in
theorem ggX4_withCondition_X4_mixed : GoodIn wsX4_withCondition wsX4_mixed := goodIn_r _ [96, 97] (by decide +kernel) (by decide +kernel)
set_option maxRecDepth 20000 in
theorem gX4_withCondition_X4_mixed : GoodIn wsX4_withCondition (va_wsS RX4 283 yX4_mixed wsX4_mixed) := goodIn_app (goodIn_of _ (by decide +kernel)) ggX4_withCondition_X4_mixed
set_option maxRecDepth 20000 in
theorem ggX4_withCondition_X4_agrees : GoodIn wsX4_withCondition wsX4_agrees := goodIn_ca (goodIn_r _ [101, 7, 8, 1, 11, 12, 13, 14, 15, 16, 38, 39, 40, 41, 42, 37, 29, 5, 30, 111, 112, 113, 114, 115, 116, 117, 118, 119, 120, 121, 122, 123] (by decide +kernel) (by decide +kernel)) (goodIn_sub (fun _ h => List.mem_cons_of_mem _ (List.mem_append_left _ (List.mem_append_right _ h))) (by decide +kernel))
set_option maxRecDepth 20000 in
theorem gX4_withCondition_X4_agrees : GoodIn wsX4_withCondition (wsV RX4 343 RX4 yX4_agrees wsX4_agrees) := goodIn_app (goodIn_of _ (by decide +kernel)) ggX4_withCondition_X4_agrees
set_option maxRecDepth 20000 in
theorem ggX4_withCondition_X4_without : GoodIn wsX4_withCondition wsX4_without := goodIn_ca (goodIn_ca (goodIn_r _ [105, 7, 8, 9, 10, 1, 11, 12, 13, 14, 15, 16, 37, 29, 5, 30, 106, 107, 108, 109, 110, 54, 55, 56, 57, 58, 39, 40, 41, 42, 59, 60, 61, 62, 63, 64, 65, 66, 67, 68, 69, 70, 17, 18, 19, 20, 21, 22, 71, 72, 73, 74, 75, 76, 77, 78, 79, 80, 81, 82, 111, 112, 113, 114, 115, 116, 117, 118, 119, 120, 121, 122, 123, 129, 130, 124, 125, 126, 127, 128] (by decide +kernel) (by decide +kernel)) (goodIn_sub (fun _ h => List.mem_cons_of_mem _ (List.mem_append_left _ (List.mem_append_right _ h))) (by decide +kernel))) (goodIn_sub (fun _ h => List.mem_cons_of_mem _ (List.mem_append_right _ h)) (by decide +kernel))
set_option maxRecDepth 20000 in
theorem gX4_withCondition_X4_without : GoodIn wsX4_withCondition (wsV RX4 346 RX4 yX4_without wsX4_without) := goodIn_app (goodIn_of _ (by decide +kernel)) ggX4_withCondition_X4_without
theorem dX4_withCondition_0 : decode cX4_withCondition 0 = .ok (.lload_n 1, 1) := by decide +kernel
theorem dX4_withCondition_1 : decode cX4_withCondition 1 = .ok (.lstore 4, 2) := by decide +kernel
theorem dX4_withCondition_3 : decode cX4_withCondition 3 = .ok (.iconst 0, 1) := by decide +kernel
theorem dX4_withCondition_4 : decode cX4_withCondition 4 = .ok (.istore 6, 2) := by decide +kernel
theorem dX4_withCondition_6 : decode cX4_withCondition 6 = .ok (.iload 6, 2) := by decide +kernel
theorem dX4_withCondition_8 : decode cX4_withCondition 8 = .ok (.bipush 8, 2) := by decide +kernel
theorem dX4_withCondition_10 : decode cX4_withCondition 10 = .ok (.if_icmp .gt 24, 3) := by decide +kernel
theorem dX4_withCondition_13 : decode cX4_withCondition 13 = .ok (.lload 4, 2) := by decide +kernel
theorem dX4_withCondition_15 : decode cX4_withCondition 15 = .ok (.aload_n 0, 1) := by decide +kernel
theorem dX4_withCondition_16 : decode cX4_withCondition 16 = .ok (.iload_n 3, 1) := by decide +kernel
theorem dX4_withCondition_17 : decode cX4_withCondition 17 = .ok (.iload 6, 2) := by decide +kernel
theorem dX4_withCondition_19 : decode cX4_withCondition 19 = .ok (.invokevirtual 340, 3) := by decide +kernel
theorem dX4_withCondition_22 : decode cX4_withCondition 22 = .ok (.i2l, 1) := by decide +kernel
theorem dX4_withCondition_23 : decode cX4_withCondition 23 = .ok (.invokestatic 283, 3) := by decide +kernel
theorem dX4_withCondition_26 : decode cX4_withCondition 26 = .ok (.lstore 4, 2) := by decide +kernel
theorem dX4_withCondition_28 : decode cX4_withCondition 28 = .ok (.iinc 6 1, 3) := by decide +kernel
theorem dX4_withCondition_31 : decode cX4_withCondition 31 = .ok (.goto (-25), 3) := by decide +kernel
theorem dX4_withCondition_34 : decode cX4_withCondition 34 = .ok (.iconst 0, 1) := by decide +kernel
theorem dX4_withCondition_35 : decode cX4_withCondition 35 = .ok (.istore 6, 2) := by decide +kernel
theorem dX4_withCondition_37 : decode cX4_withCondition 37 = .ok (.iload 6, 2) := by decide +kernel
theorem dX4_withCondition_39 : decode cX4_withCondition 39 = .ok (.aload_n 0, 1) := by decide +kernel
theorem dX4_withCondition_40 : decode cX4_withCondition 40 = .ok (.getfield 17, 3) := by decide +kernel
theorem dX4_withCondition_43 : decode cX4_withCondition 43 = .ok (.getfield 95, 3) := by decide +kernel
theorem dX4_withCondition_46 : decode cX4_withCondition 46 = .ok (.if_icmp .ge 24, 3) := by decide +kernel
theorem dX4_withCondition_49 : decode cX4_withCondition 49 = .ok (.lload 4, 2) := by decide +kernel
theorem dX4_withCondition_51 : decode cX4_withCondition 51 = .ok (.aload_n 0, 1) := by decide +kernel
theorem dX4_withCondition_52 : decode cX4_withCondition 52 = .ok (.iload_n 3, 1) := by decide +kernel
theorem dX4_withCondition_53 : decode cX4_withCondition 53 = .ok (.iload 6, 2) := by decide +kernel
theorem dX4_withCondition_55 : decode cX4_withCondition 55 = .ok (.invokevirtual 343, 3) := by decide +kernel
theorem dX4_withCondition_58 : decode cX4_withCondition 58 = .ok (.i2l, 1) := by decide +kernel
theorem dX4_withCondition_59 : decode cX4_withCondition 59 = .ok (.invokestatic 283, 3) := by decide +kernel
theorem dX4_withCondition_62 : decode cX4_withCondition 62 = .ok (.lstore 4, 2) := by decide +kernel
theorem dX4_withCondition_64 : decode cX4_withCondition 64 = .ok (.iinc 6 1, 3) := by decide +kernel
theorem dX4_withCondition_67 : decode cX4_withCondition 67 = .ok (.goto (-30), 3) := by decide +kernel
theorem dX4_withCondition_70 : decode cX4_withCondition 70 = .ok (.lload 4, 2) := by decide +kernel
theorem dX4_withCondition_72 : decode cX4_withCondition 72 = .ok (.aload_n 0, 1) := by decide +kernel
theorem dX4_withCondition_73 : decode cX4_withCondition 73 = .ok (.iload_n 3, 1) := by decide +kernel
theorem dX4_withCondition_74 : decode cX4_withCondition 74 = .ok (.iconst 0, 1) := by decide +kernel
theorem dX4_withCondition_75 : decode cX4_withCondition 75 = .ok (.invokevirtual 346, 3) := by decide +kernel
theorem dX4_withCondition_78 : decode cX4_withCondition 78 = .ok (.invokestatic 283, 3) := by decide +kernel
theorem dX4_withCondition_81 : decode cX4_withCondition 81 = .ok (.lstore 4, 2) := by decide +kernel
theorem dX4_withCondition_83 : decode cX4_withCondition 83 = .ok (.lload 4, 2) := by decide +kernel
theorem dX4_withCondition_85 : decode cX4_withCondition 85 = .ok (.aload_n 0, 1) := by decide +kernel
theorem dX4_withCondition_86 : decode cX4_withCondition 86 = .ok (.iload_n 3, 1) := by decide +kernel
theorem dX4_withCondition_87 : decode cX4_withCondition 87 = .ok (.iconst 1, 1) := by decide +kernel
theorem dX4_withCondition_88 : decode cX4_withCondition 88 = .ok (.invokevirtual 346, 3) := by decide +kernel
theorem dX4_withCondition_91 : decode cX4_withCondition 91 = .ok (.invokestatic 283, 3) := by decide +kernel
theorem dX4_withCondition_94 : decode cX4_withCondition 94 = .ok (.lreturn, 1) := by decide +kernel
set_option maxRecDepth 20000 in
theorem ggX4_withPrime_X4_prime : GoodIn wsX4_withPrime wsX4_prime := goodIn_ca (goodIn_r _ [5, 6, 7, 8, 9, 10, 4, 11, 12, 13, 14, 15, 16, 17, 18, 19, 20, 21, 22, 23, 24, 25, 26, 27, 28, 29, 30, 31, 32, 33, 34, 35, 36, 37, 38, 39, 40, 41, 42, 43, 44, 45, 46, 47, 48, 49, 50, 51, 52, 53, 54, 59, 60, 61, 62, 63, 64, 65, 66, 67, 68, 69, 70, 71, 72, 73, 74, 75, 76] (by decide +kernel) (by decide +kernel)) (goodIn_sub (fun _ h => List.mem_cons_of_mem _ (List.mem_append_right _ h)) (by decide +kernel))
set_option maxRecDepth 20000 in
theorem gX4_withPrime_X4_prime : GoodIn wsX4_withPrime (wsV RX4 349 RX4 yX4_prime wsX4_prime) := goodIn_app (goodIn_of _ (by decide +kernel)) ggX4_withPrime_X4_prime
set_option maxRecDepth 20000 in
theorem ggX4_withPrime_X4_mixed : GoodIn wsX4_withPrime wsX4_mixed := goodIn_r _ [57, 58] (by decide +kernel) (by decide +kernel)
set_option maxRecDepth 20000 in
theorem gX4_withPrime_X4_mixed : GoodIn wsX4_withPrime (va_wsS RX4 283 yX4_mixed wsX4_mixed) := goodIn_app (goodIn_of _ (by decide +kernel)) ggX4_withPrime_X4_mixed
theorem dX4_withPrime_0 : decode cX4_withPrime 0 = .ok (.lload_n 1, 1) := by decide +kernel
theorem dX4_withPrime_1 : decode cX4_withPrime 1 = .ok (.lstore 4, 2) := by decide +kernel
theorem dX4_withPrime_3 : decode cX4_withPrime 3 = .ok (.iconst 0, 1) := by decide +kernel
theorem dX4_withPrime_4 : decode cX4_withPrime 4 = .ok (.istore 6, 2) := by decide +kernel
theorem dX4_withPrime_6 : decode cX4_withPrime 6 = .ok (.iload 6, 2) := by decide +kernel
theorem dX4_withPrime_8 : decode cX4_withPrime 8 = .ok (.iconst 3, 1) := by decide +kernel
theorem dX4_withPrime_9 : decode cX4_withPrime 9 = .ok (.if_icmp .gt 24, 3) := by decide +kernel
theorem dX4_withPrime_12 : decode cX4_withPrime 12 = .ok (.lload 4, 2) := by decide +kernel
theorem dX4_withPrime_14 : decode cX4_withPrime 14 = .ok (.aload_n 0, 1) := by decide +kernel
theorem dX4_withPrime_15 : decode cX4_withPrime 15 = .ok (.iload_n 3, 1) := by decide +kernel
theorem dX4_withPrime_16 : decode cX4_withPrime 16 = .ok (.iload 6, 2) := by decide +kernel
theorem dX4_withPrime_18 : decode cX4_withPrime 18 = .ok (.invokevirtual 349, 3) := by decide +kernel
theorem dX4_withPrime_21 : decode cX4_withPrime 21 = .ok (.i2l, 1) := by decide +kernel
theorem dX4_withPrime_22 : decode cX4_withPrime 22 = .ok (.invokestatic 283, 3) := by decide +kernel
theorem dX4_withPrime_25 : decode cX4_withPrime 25 = .ok (.lstore 4, 2) := by decide +kernel
theorem dX4_withPrime_27 : decode cX4_withPrime 27 = .ok (.iinc 6 1, 3) := by decide +kernel
theorem dX4_withPrime_30 : decode cX4_withPrime 30 = .ok (.goto (-24), 3) := by decide +kernel
theorem dX4_withPrime_33 : decode cX4_withPrime 33 = .ok (.lload 4, 2) := by decide +kernel
theorem dX4_withPrime_35 : decode cX4_withPrime 35 = .ok (.lreturn, 1) := by decide +kernel
set_option maxRecDepth 20000 in
theorem ggX4_withAnswers_X4_answer : GoodIn wsX4_withAnswers wsX4_answer := goodIn_ca (goodIn_r _ [9, 10, 11, 12, 13, 14, 15, 8, 16, 17, 18, 19, 20, 21, 22, 23, 24, 25, 26, 27, 28, 29, 30, 31, 32, 33, 34, 35, 36, 37, 38, 39, 40, 41, 42, 43, 44, 45, 46, 47, 48, 49, 50, 51, 52, 53, 54, 55, 56, 57, 58, 59, 60, 61, 62, 63, 64, 65, 106, 107, 108, 109, 110, 111, 112, 113, 114, 115, 116, 117, 118, 119, 120, 121, 122, 123, 124, 125] (by decide +kernel) (by decide +kernel)) (goodIn_sub (fun _ h => List.mem_cons_of_mem _ (List.mem_append_right _ h)) (by decide +kernel))
set_option maxRecDepth 20000 in
theorem gX4_withAnswers_X4_answer : GoodIn wsX4_withAnswers (wsV RX4 352 RX4 yX4_answer wsX4_answer) := goodIn_app (goodIn_of _ (by decide +kernel)) ggX4_withAnswers_X4_answer
set_option maxRecDepth 20000 in
theorem ggX4_withAnswers_X4_mixed : GoodIn wsX4_withAnswers wsX4_mixed := goodIn_r _ [68, 69] (by decide +kernel) (by decide +kernel)
set_option maxRecDepth 20000 in
theorem gX4_withAnswers_X4_mixed : GoodIn wsX4_withAnswers (va_wsS RX4 283 yX4_mixed wsX4_mixed) := goodIn_app (goodIn_of _ (by decide +kernel)) ggX4_withAnswers_X4_mixed
set_option maxRecDepth 20000 in
theorem ggX4_withAnswers_X4_nearest : GoodIn wsX4_withAnswers wsX4_nearest := goodIn_ca (goodIn_r _ [73, 10, 11, 12, 13, 14, 15, 8, 16, 17, 18, 19, 20, 21, 22, 23, 24, 25, 26, 27, 28, 29, 30, 31, 32, 33, 34, 35, 36, 37, 38, 39, 40, 41, 42, 43, 44, 45, 46, 47, 48, 49, 50, 51, 52, 53, 54, 55, 56, 57, 58, 59, 60, 61, 62, 63, 64, 65, 106, 107, 108, 109, 110, 111, 112, 113, 114, 115, 116, 117, 118, 119, 120, 121, 122, 123, 124, 125] (by decide +kernel) (by decide +kernel)) (goodIn_sub (fun _ h => List.mem_cons_of_mem _ (List.mem_append_right _ h)) (by decide +kernel))
set_option maxRecDepth 20000 in
theorem gX4_withAnswers_X4_nearest : GoodIn wsX4_withAnswers (wsV RX4 359 RX4 yX4_nearest wsX4_nearest) := goodIn_app (goodIn_of _ (by decide +kernel)) ggX4_withAnswers_X4_nearest
set_option maxRecDepth 20000 in
theorem ggX4_withAnswers_X4_between : GoodIn wsX4_withAnswers wsX4_between := goodIn_ca (goodIn_r _ [77, 10, 11, 12, 14, 15, 8, 16, 17, 18, 19, 20, 21, 22, 23, 24, 25, 26, 27, 28, 29, 30, 31, 32, 33, 34, 35, 36, 37, 38, 39, 40, 41, 42, 43, 44, 45, 46, 47, 48, 49, 50, 51, 52, 53, 54, 55, 56, 57, 58, 59, 60, 61, 78, 79, 80, 81, 106, 107, 108, 109, 110, 111, 112, 113, 114, 115, 116, 117, 118, 119, 120, 121, 122, 123, 124, 125] (by decide +kernel) (by decide +kernel)) (goodIn_sub (fun _ h => List.mem_cons_of_mem _ (List.mem_append_right _ h)) (by decide +kernel))
set_option maxRecDepth 20000 in
theorem gX4_withAnswers_X4_between : GoodIn wsX4_withAnswers (wsV RX4 364 RX4 yX4_between wsX4_between) := goodIn_app (goodIn_of _ (by decide +kernel)) ggX4_withAnswers_X4_between
set_option maxRecDepth 20000 in
theorem ggX4_withAnswers_X4_misses : GoodIn wsX4_withAnswers wsX4_misses := goodIn_ca (goodIn_r _ [85, 10, 11, 12, 14, 15, 8, 16, 17, 86, 87, 88, 21, 89, 90, 91, 92, 93, 94, 23, 24, 25, 44, 45, 46, 47, 48, 49, 95, 96, 97, 98, 99, 100, 101, 102, 103, 104, 105, 58, 59, 106, 107, 108, 109, 110, 111, 112, 113, 114, 115, 116, 117, 118, 121, 122, 123, 124, 125] (by decide +kernel) (by decide +kernel)) (goodIn_sub (fun _ h => List.mem_cons_of_mem _ (List.mem_append_right _ h)) (by decide +kernel))
set_option maxRecDepth 20000 in
theorem gX4_withAnswers_X4_misses : GoodIn wsX4_withAnswers (wsV RX4 367 RX4 yX4_misses wsX4_misses) := goodIn_app (goodIn_of _ (by decide +kernel)) ggX4_withAnswers_X4_misses
theorem dX4_withAnswers_0 : decode cX4_withAnswers 0 = .ok (.lload_n 1, 1) := by decide +kernel
theorem dX4_withAnswers_1 : decode cX4_withAnswers 1 = .ok (.lstore_n 3, 1) := by decide +kernel
theorem dX4_withAnswers_2 : decode cX4_withAnswers 2 = .ok (.iconst 0, 1) := by decide +kernel
theorem dX4_withAnswers_3 : decode cX4_withAnswers 3 = .ok (.istore 5, 2) := by decide +kernel
theorem dX4_withAnswers_5 : decode cX4_withAnswers 5 = .ok (.iload 5, 2) := by decide +kernel
theorem dX4_withAnswers_7 : decode cX4_withAnswers 7 = .ok (.iconst 2, 1) := by decide +kernel
theorem dX4_withAnswers_8 : decode cX4_withAnswers 8 = .ok (.if_icmp .gt 21, 3) := by decide +kernel
theorem dX4_withAnswers_11 : decode cX4_withAnswers 11 = .ok (.lload_n 3, 1) := by decide +kernel
theorem dX4_withAnswers_12 : decode cX4_withAnswers 12 = .ok (.aload_n 0, 1) := by decide +kernel
theorem dX4_withAnswers_13 : decode cX4_withAnswers 13 = .ok (.lconst 0, 1) := by decide +kernel
theorem dX4_withAnswers_14 : decode cX4_withAnswers 14 = .ok (.iload 5, 2) := by decide +kernel
theorem dX4_withAnswers_16 : decode cX4_withAnswers 16 = .ok (.invokevirtual 352, 3) := by decide +kernel
theorem dX4_withAnswers_19 : decode cX4_withAnswers 19 = .ok (.invokestatic 283, 3) := by decide +kernel
theorem dX4_withAnswers_22 : decode cX4_withAnswers 22 = .ok (.lstore_n 3, 1) := by decide +kernel
theorem dX4_withAnswers_23 : decode cX4_withAnswers 23 = .ok (.iinc 5 1, 3) := by decide +kernel
theorem dX4_withAnswers_26 : decode cX4_withAnswers 26 = .ok (.goto (-21), 3) := by decide +kernel
theorem dX4_withAnswers_29 : decode cX4_withAnswers 29 = .ok (.lload_n 3, 1) := by decide +kernel
theorem dX4_withAnswers_30 : decode cX4_withAnswers 30 = .ok (.aload_n 0, 1) := by decide +kernel
theorem dX4_withAnswers_31 : decode cX4_withAnswers 31 = .ok (.ldc2_w 355, 3) := by decide +kernel
theorem dX4_withAnswers_34 : decode cX4_withAnswers 34 = .ok (.iconst 0, 1) := by decide +kernel
theorem dX4_withAnswers_35 : decode cX4_withAnswers 35 = .ok (.invokevirtual 352, 3) := by decide +kernel
theorem dX4_withAnswers_38 : decode cX4_withAnswers 38 = .ok (.invokestatic 283, 3) := by decide +kernel
theorem dX4_withAnswers_41 : decode cX4_withAnswers 41 = .ok (.lstore_n 3, 1) := by decide +kernel
theorem dX4_withAnswers_42 : decode cX4_withAnswers 42 = .ok (.lload_n 3, 1) := by decide +kernel
theorem dX4_withAnswers_43 : decode cX4_withAnswers 43 = .ok (.aload_n 0, 1) := by decide +kernel
theorem dX4_withAnswers_44 : decode cX4_withAnswers 44 = .ok (.ldc2_w 357, 3) := by decide +kernel
theorem dX4_withAnswers_47 : decode cX4_withAnswers 47 = .ok (.invokevirtual 359, 3) := by decide +kernel
theorem dX4_withAnswers_50 : decode cX4_withAnswers 50 = .ok (.invokestatic 283, 3) := by decide +kernel
theorem dX4_withAnswers_53 : decode cX4_withAnswers 53 = .ok (.lstore_n 3, 1) := by decide +kernel
theorem dX4_withAnswers_54 : decode cX4_withAnswers 54 = .ok (.lload_n 3, 1) := by decide +kernel
theorem dX4_withAnswers_55 : decode cX4_withAnswers 55 = .ok (.aload_n 0, 1) := by decide +kernel
theorem dX4_withAnswers_56 : decode cX4_withAnswers 56 = .ok (.lconst 0, 1) := by decide +kernel
theorem dX4_withAnswers_57 : decode cX4_withAnswers 57 = .ok (.ldc2_w 362, 3) := by decide +kernel
theorem dX4_withAnswers_60 : decode cX4_withAnswers 60 = .ok (.invokevirtual 364, 3) := by decide +kernel
theorem dX4_withAnswers_63 : decode cX4_withAnswers 63 = .ok (.invokestatic 283, 3) := by decide +kernel
theorem dX4_withAnswers_66 : decode cX4_withAnswers 66 = .ok (.lstore_n 3, 1) := by decide +kernel
theorem dX4_withAnswers_67 : decode cX4_withAnswers 67 = .ok (.lload_n 3, 1) := by decide +kernel
theorem dX4_withAnswers_68 : decode cX4_withAnswers 68 = .ok (.aload_n 0, 1) := by decide +kernel
theorem dX4_withAnswers_69 : decode cX4_withAnswers 69 = .ok (.lconst 0, 1) := by decide +kernel
theorem dX4_withAnswers_70 : decode cX4_withAnswers 70 = .ok (.invokevirtual 367, 3) := by decide +kernel
theorem dX4_withAnswers_73 : decode cX4_withAnswers 73 = .ok (.i2l, 1) := by decide +kernel
theorem dX4_withAnswers_74 : decode cX4_withAnswers 74 = .ok (.invokestatic 283, 3) := by decide +kernel
theorem dX4_withAnswers_77 : decode cX4_withAnswers 77 = .ok (.lstore_n 3, 1) := by decide +kernel
theorem dX4_withAnswers_78 : decode cX4_withAnswers 78 = .ok (.lload_n 3, 1) := by decide +kernel
theorem dX4_withAnswers_79 : decode cX4_withAnswers 79 = .ok (.aload_n 0, 1) := by decide +kernel
theorem dX4_withAnswers_80 : decode cX4_withAnswers 80 = .ok (.ldc2_w 371, 3) := by decide +kernel
theorem dX4_withAnswers_83 : decode cX4_withAnswers 83 = .ok (.invokevirtual 367, 3) := by decide +kernel
theorem dX4_withAnswers_86 : decode cX4_withAnswers 86 = .ok (.i2l, 1) := by decide +kernel
theorem dX4_withAnswers_87 : decode cX4_withAnswers 87 = .ok (.invokestatic 283, 3) := by decide +kernel
theorem dX4_withAnswers_90 : decode cX4_withAnswers 90 = .ok (.lreturn, 1) := by decide +kernel
theorem dX4_bitsOf_0 : decode cX4_bitsOf 0 = .ok (.dload_n 0, 1) := by decide +kernel
theorem dX4_bitsOf_1 : decode cX4_bitsOf 1 = .ok (.dconst 0, 1) := by decide +kernel
theorem dX4_bitsOf_2 : decode cX4_bitsOf 2 = .ok (.dcmp .l, 1) := by decide +kernel
theorem dX4_bitsOf_3 : decode cX4_bitsOf 3 = .ok (.ifCond .gt 5, 3) := by decide +kernel
theorem dX4_bitsOf_6 : decode cX4_bitsOf 6 = .ok (.lconst 0, 1) := by decide +kernel
theorem dX4_bitsOf_7 : decode cX4_bitsOf 7 = .ok (.lreturn, 1) := by decide +kernel
theorem dX4_bitsOf_8 : decode cX4_bitsOf 8 = .ok (.dload_n 0, 1) := by decide +kernel
theorem dX4_bitsOf_9 : decode cX4_bitsOf 9 = .ok (.dstore_n 2, 1) := by decide +kernel
theorem dX4_bitsOf_10 : decode cX4_bitsOf 10 = .ok (.ldc2_w 373, 3) := by decide +kernel
theorem dX4_bitsOf_13 : decode cX4_bitsOf 13 = .ok (.lstore 4, 2) := by decide +kernel
theorem dX4_bitsOf_15 : decode cX4_bitsOf 15 = .ok (.iconst 1, 1) := by decide +kernel
theorem dX4_bitsOf_16 : decode cX4_bitsOf 16 = .ok (.istore 6, 2) := by decide +kernel
theorem dX4_bitsOf_18 : decode cX4_bitsOf 18 = .ok (.iload 6, 2) := by decide +kernel
theorem dX4_bitsOf_20 : decode cX4_bitsOf 20 = .ok (.sipush 1023, 3) := by decide +kernel
theorem dX4_bitsOf_23 : decode cX4_bitsOf 23 = .ok (.if_icmp .ge 27, 3) := by decide +kernel
theorem dX4_bitsOf_26 : decode cX4_bitsOf 26 = .ok (.dload_n 2, 1) := by decide +kernel
theorem dX4_bitsOf_27 : decode cX4_bitsOf 27 = .ok (.dconst 1, 1) := by decide +kernel
theorem dX4_bitsOf_28 : decode cX4_bitsOf 28 = .ok (.dcmp .g, 1) := by decide +kernel
theorem dX4_bitsOf_29 : decode cX4_bitsOf 29 = .ok (.ifCond .ge 21, 3) := by decide +kernel
theorem dX4_bitsOf_32 : decode cX4_bitsOf 32 = .ok (.dload_n 2, 1) := by decide +kernel
theorem dX4_bitsOf_33 : decode cX4_bitsOf 33 = .ok (.ldc2_w 375, 3) := by decide +kernel
theorem dX4_bitsOf_36 : decode cX4_bitsOf 36 = .ok (.dmul, 1) := by decide +kernel
theorem dX4_bitsOf_37 : decode cX4_bitsOf 37 = .ok (.dstore_n 2, 1) := by decide +kernel
theorem dX4_bitsOf_38 : decode cX4_bitsOf 38 = .ok (.lload 4, 2) := by decide +kernel
theorem dX4_bitsOf_40 : decode cX4_bitsOf 40 = .ok (.lconst 1, 1) := by decide +kernel
theorem dX4_bitsOf_41 : decode cX4_bitsOf 41 = .ok (.lsub, 1) := by decide +kernel
theorem dX4_bitsOf_42 : decode cX4_bitsOf 42 = .ok (.lstore 4, 2) := by decide +kernel
theorem dX4_bitsOf_44 : decode cX4_bitsOf 44 = .ok (.iinc 6 1, 3) := by decide +kernel
theorem dX4_bitsOf_47 : decode cX4_bitsOf 47 = .ok (.goto (-29), 3) := by decide +kernel
theorem dX4_bitsOf_50 : decode cX4_bitsOf 50 = .ok (.ldc2_w 377, 3) := by decide +kernel
theorem dX4_bitsOf_53 : decode cX4_bitsOf 53 = .ok (.dstore 6, 2) := by decide +kernel
theorem dX4_bitsOf_55 : decode cX4_bitsOf 55 = .ok (.lload 4, 2) := by decide +kernel
theorem dX4_bitsOf_57 : decode cX4_bitsOf 57 = .ok (.bipush 52, 2) := by decide +kernel
theorem dX4_bitsOf_59 : decode cX4_bitsOf 59 = .ok (.lshl, 1) := by decide +kernel
theorem dX4_bitsOf_60 : decode cX4_bitsOf 60 = .ok (.dload_n 2, 1) := by decide +kernel
theorem dX4_bitsOf_61 : decode cX4_bitsOf 61 = .ok (.dconst 1, 1) := by decide +kernel
theorem dX4_bitsOf_62 : decode cX4_bitsOf 62 = .ok (.dsub, 1) := by decide +kernel
theorem dX4_bitsOf_63 : decode cX4_bitsOf 63 = .ok (.dload 6, 2) := by decide +kernel
theorem dX4_bitsOf_65 : decode cX4_bitsOf 65 = .ok (.dmul, 1) := by decide +kernel
theorem dX4_bitsOf_66 : decode cX4_bitsOf 66 = .ok (.d2l, 1) := by decide +kernel
theorem dX4_bitsOf_67 : decode cX4_bitsOf 67 = .ok (.ladd, 1) := by decide +kernel
theorem dX4_bitsOf_68 : decode cX4_bitsOf 68 = .ok (.lreturn, 1) := by decide +kernel
theorem dX4_rest_0 : decode cX4_rest 0 = .ok (.lload_n 2, 1) := by decide +kernel
theorem dX4_rest_1 : decode cX4_rest 1 = .ok (.lconst 1, 1) := by decide +kernel
theorem dX4_rest_2 : decode cX4_rest 2 = .ok (.lcmp, 1) := by decide +kernel
theorem dX4_rest_3 : decode cX4_rest 3 = .ok (.ifCond .ge 5, 3) := by decide +kernel
theorem dX4_rest_6 : decode cX4_rest 6 = .ok (.lconst 0, 1) := by decide +kernel
theorem dX4_rest_7 : decode cX4_rest 7 = .ok (.lreturn, 1) := by decide +kernel
theorem dX4_rest_8 : decode cX4_rest 8 = .ok (.lload_n 0, 1) := by decide +kernel
theorem dX4_rest_9 : decode cX4_rest 9 = .ok (.lload_n 2, 1) := by decide +kernel
theorem dX4_rest_10 : decode cX4_rest 10 = .ok (.lrem, 1) := by decide +kernel
theorem dX4_rest_11 : decode cX4_rest 11 = .ok (.lstore 4, 2) := by decide +kernel
theorem dX4_rest_13 : decode cX4_rest 13 = .ok (.lload 4, 2) := by decide +kernel
theorem dX4_rest_15 : decode cX4_rest 15 = .ok (.lconst 0, 1) := by decide +kernel
theorem dX4_rest_16 : decode cX4_rest 16 = .ok (.lcmp, 1) := by decide +kernel
theorem dX4_rest_17 : decode cX4_rest 17 = .ok (.ifCond .ge 10, 3) := by decide +kernel
theorem dX4_rest_20 : decode cX4_rest 20 = .ok (.lload 4, 2) := by decide +kernel
theorem dX4_rest_22 : decode cX4_rest 22 = .ok (.lload_n 2, 1) := by decide +kernel
theorem dX4_rest_23 : decode cX4_rest 23 = .ok (.ladd, 1) := by decide +kernel
theorem dX4_rest_24 : decode cX4_rest 24 = .ok (.goto 5, 3) := by decide +kernel
theorem dX4_rest_27 : decode cX4_rest 27 = .ok (.lload 4, 2) := by decide +kernel
theorem dX4_rest_29 : decode cX4_rest 29 = .ok (.lreturn, 1) := by decide +kernel
theorem dX4_share_0 : decode cX4_share 0 = .ok (.lload_n 2, 1) := by decide +kernel
theorem dX4_share_1 : decode cX4_share 1 = .ok (.lconst 1, 1) := by decide +kernel
theorem dX4_share_2 : decode cX4_share 2 = .ok (.lcmp, 1) := by decide +kernel
theorem dX4_share_3 : decode cX4_share 3 = .ok (.ifCond .ge 7, 3) := by decide +kernel
theorem dX4_share_6 : decode cX4_share 6 = .ok (.lconst 0, 1) := by decide +kernel
theorem dX4_share_7 : decode cX4_share 7 = .ok (.goto 6, 3) := by decide +kernel
theorem dX4_share_10 : decode cX4_share 10 = .ok (.lload_n 0, 1) := by decide +kernel
theorem dX4_share_11 : decode cX4_share 11 = .ok (.lload_n 2, 1) := by decide +kernel
theorem dX4_share_12 : decode cX4_share 12 = .ok (.ldiv, 1) := by decide +kernel
theorem dX4_share_13 : decode cX4_share 13 = .ok (.lreturn, 1) := by decide +kernel
theorem dX4_commonDivisor_0 : decode cX4_commonDivisor 0 = .ok (.lload_n 0, 1) := by decide +kernel
theorem dX4_commonDivisor_1 : decode cX4_commonDivisor 1 = .ok (.lstore 4, 2) := by decide +kernel
theorem dX4_commonDivisor_3 : decode cX4_commonDivisor 3 = .ok (.lload_n 2, 1) := by decide +kernel
theorem dX4_commonDivisor_4 : decode cX4_commonDivisor 4 = .ok (.lstore 6, 2) := by decide +kernel
theorem dX4_commonDivisor_6 : decode cX4_commonDivisor 6 = .ok (.iconst 0, 1) := by decide +kernel
theorem dX4_commonDivisor_7 : decode cX4_commonDivisor 7 = .ok (.istore 8, 2) := by decide +kernel
theorem dX4_commonDivisor_9 : decode cX4_commonDivisor 9 = .ok (.iload 8, 2) := by decide +kernel
theorem dX4_commonDivisor_11 : decode cX4_commonDivisor 11 = .ok (.sipush 200, 3) := by decide +kernel
theorem dX4_commonDivisor_14 : decode cX4_commonDivisor 14 = .ok (.if_icmp .ge 31, 3) := by decide +kernel
theorem dX4_commonDivisor_17 : decode cX4_commonDivisor 17 = .ok (.lload 6, 2) := by decide +kernel
theorem dX4_commonDivisor_19 : decode cX4_commonDivisor 19 = .ok (.lconst 0, 1) := by decide +kernel
theorem dX4_commonDivisor_20 : decode cX4_commonDivisor 20 = .ok (.lcmp, 1) := by decide +kernel
theorem dX4_commonDivisor_21 : decode cX4_commonDivisor 21 = .ok (.ifCond .le 24, 3) := by decide +kernel
theorem dX4_commonDivisor_24 : decode cX4_commonDivisor 24 = .ok (.lload 4, 2) := by decide +kernel
theorem dX4_commonDivisor_26 : decode cX4_commonDivisor 26 = .ok (.lload 6, 2) := by decide +kernel
theorem dX4_commonDivisor_28 : decode cX4_commonDivisor 28 = .ok (.lrem, 1) := by decide +kernel
theorem dX4_commonDivisor_29 : decode cX4_commonDivisor 29 = .ok (.lstore 9, 2) := by decide +kernel
theorem dX4_commonDivisor_31 : decode cX4_commonDivisor 31 = .ok (.lload 6, 2) := by decide +kernel
theorem dX4_commonDivisor_33 : decode cX4_commonDivisor 33 = .ok (.lstore 4, 2) := by decide +kernel
theorem dX4_commonDivisor_35 : decode cX4_commonDivisor 35 = .ok (.lload 9, 2) := by decide +kernel
theorem dX4_commonDivisor_37 : decode cX4_commonDivisor 37 = .ok (.lstore 6, 2) := by decide +kernel
theorem dX4_commonDivisor_39 : decode cX4_commonDivisor 39 = .ok (.iinc 8 1, 3) := by decide +kernel
theorem dX4_commonDivisor_42 : decode cX4_commonDivisor 42 = .ok (.goto (-33), 3) := by decide +kernel
theorem dX4_commonDivisor_45 : decode cX4_commonDivisor 45 = .ok (.lload 4, 2) := by decide +kernel
theorem dX4_commonDivisor_47 : decode cX4_commonDivisor 47 = .ok (.lreturn, 1) := by decide +kernel
theorem dX4_inverse_0 : decode cX4_inverse 0 = .ok (.lload_n 2, 1) := by decide +kernel
theorem dX4_inverse_1 : decode cX4_inverse 1 = .ok (.lstore 4, 2) := by decide +kernel
theorem dX4_inverse_3 : decode cX4_inverse 3 = .ok (.lload_n 0, 1) := by decide +kernel
theorem dX4_inverse_4 : decode cX4_inverse 4 = .ok (.lstore 6, 2) := by decide +kernel
theorem dX4_inverse_6 : decode cX4_inverse 6 = .ok (.lconst 0, 1) := by decide +kernel
theorem dX4_inverse_7 : decode cX4_inverse 7 = .ok (.lstore 8, 2) := by decide +kernel
theorem dX4_inverse_9 : decode cX4_inverse 9 = .ok (.lconst 1, 1) := by decide +kernel
theorem dX4_inverse_10 : decode cX4_inverse 10 = .ok (.lstore 10, 2) := by decide +kernel
theorem dX4_inverse_12 : decode cX4_inverse 12 = .ok (.iconst 0, 1) := by decide +kernel
theorem dX4_inverse_13 : decode cX4_inverse 13 = .ok (.istore 12, 2) := by decide +kernel
theorem dX4_inverse_15 : decode cX4_inverse 15 = .ok (.iload 12, 2) := by decide +kernel
theorem dX4_inverse_17 : decode cX4_inverse 17 = .ok (.sipush 200, 3) := by decide +kernel
theorem dX4_inverse_20 : decode cX4_inverse 20 = .ok (.if_icmp .ge 59, 3) := by decide +kernel
theorem dX4_inverse_23 : decode cX4_inverse 23 = .ok (.lload 6, 2) := by decide +kernel
theorem dX4_inverse_25 : decode cX4_inverse 25 = .ok (.lconst 0, 1) := by decide +kernel
theorem dX4_inverse_26 : decode cX4_inverse 26 = .ok (.lcmp, 1) := by decide +kernel
theorem dX4_inverse_27 : decode cX4_inverse 27 = .ok (.ifCond .le 52, 3) := by decide +kernel
theorem dX4_inverse_30 : decode cX4_inverse 30 = .ok (.lload 4, 2) := by decide +kernel
theorem dX4_inverse_32 : decode cX4_inverse 32 = .ok (.lload 6, 2) := by decide +kernel
theorem dX4_inverse_34 : decode cX4_inverse 34 = .ok (.ldiv, 1) := by decide +kernel
theorem dX4_inverse_35 : decode cX4_inverse 35 = .ok (.lstore 13, 2) := by decide +kernel
theorem dX4_inverse_37 : decode cX4_inverse 37 = .ok (.lload 4, 2) := by decide +kernel
theorem dX4_inverse_39 : decode cX4_inverse 39 = .ok (.lload 13, 2) := by decide +kernel
theorem dX4_inverse_41 : decode cX4_inverse 41 = .ok (.lload 6, 2) := by decide +kernel
theorem dX4_inverse_43 : decode cX4_inverse 43 = .ok (.lmul, 1) := by decide +kernel
theorem dX4_inverse_44 : decode cX4_inverse 44 = .ok (.lsub, 1) := by decide +kernel
theorem dX4_inverse_45 : decode cX4_inverse 45 = .ok (.lstore 15, 2) := by decide +kernel
theorem dX4_inverse_47 : decode cX4_inverse 47 = .ok (.lload 8, 2) := by decide +kernel
theorem dX4_inverse_49 : decode cX4_inverse 49 = .ok (.lload 13, 2) := by decide +kernel
theorem dX4_inverse_51 : decode cX4_inverse 51 = .ok (.lload 10, 2) := by decide +kernel
theorem dX4_inverse_53 : decode cX4_inverse 53 = .ok (.lmul, 1) := by decide +kernel
theorem dX4_inverse_54 : decode cX4_inverse 54 = .ok (.lsub, 1) := by decide +kernel
theorem dX4_inverse_55 : decode cX4_inverse 55 = .ok (.lstore 17, 2) := by decide +kernel
theorem dX4_inverse_57 : decode cX4_inverse 57 = .ok (.lload 6, 2) := by decide +kernel
theorem dX4_inverse_59 : decode cX4_inverse 59 = .ok (.lstore 4, 2) := by decide +kernel
theorem dX4_inverse_61 : decode cX4_inverse 61 = .ok (.lload 15, 2) := by decide +kernel
theorem dX4_inverse_63 : decode cX4_inverse 63 = .ok (.lstore 6, 2) := by decide +kernel
theorem dX4_inverse_65 : decode cX4_inverse 65 = .ok (.lload 10, 2) := by decide +kernel
theorem dX4_inverse_67 : decode cX4_inverse 67 = .ok (.lstore 8, 2) := by decide +kernel
theorem dX4_inverse_69 : decode cX4_inverse 69 = .ok (.lload 17, 2) := by decide +kernel
theorem dX4_inverse_71 : decode cX4_inverse 71 = .ok (.lstore 10, 2) := by decide +kernel
theorem dX4_inverse_73 : decode cX4_inverse 73 = .ok (.iinc 12 1, 3) := by decide +kernel
theorem dX4_inverse_76 : decode cX4_inverse 76 = .ok (.goto (-61), 3) := by decide +kernel
theorem dX4_inverse_79 : decode cX4_inverse 79 = .ok (.lload 8, 2) := by decide +kernel
theorem dX4_inverse_81 : decode cX4_inverse 81 = .ok (.lreturn, 1) := by decide +kernel
set_option maxRecDepth 20000 in
theorem ggX4_powerIn_X0_isVoid : GoodIn wsX4_powerIn wsX0_isVoid := goodIn_r _ [5, 6, 11, 12, 13, 14, 15] (by decide +kernel) (by decide +kernel)
set_option maxRecDepth 20000 in
theorem gX4_powerIn_X0_isVoid : GoodIn wsX4_powerIn (wsV RX4 120 RX0 yX0_isVoid wsX0_isVoid) := goodIn_app (goodIn_of _ (by decide +kernel)) ggX4_powerIn_X0_isVoid
set_option maxRecDepth 20000 in
theorem ggX4_powerIn_X4_rest : GoodIn wsX4_powerIn wsX4_rest := goodIn_r _ [10] (by decide +kernel) (by decide +kernel)
set_option maxRecDepth 20000 in
theorem gX4_powerIn_X4_rest : GoodIn wsX4_powerIn (va_wsS RX4 230 yX4_rest wsX4_rest) := goodIn_app (goodIn_of _ (by decide +kernel)) ggX4_powerIn_X4_rest
theorem dX4_powerIn_0 : decode cX4_powerIn 0 = .ok (.lconst 1, 1) := by decide +kernel
theorem dX4_powerIn_1 : decode cX4_powerIn 1 = .ok (.lstore_n 2, 1) := by decide +kernel
theorem dX4_powerIn_2 : decode cX4_powerIn 2 = .ok (.iconst 0, 1) := by decide +kernel
theorem dX4_powerIn_3 : decode cX4_powerIn 3 = .ok (.istore 4, 2) := by decide +kernel
theorem dX4_powerIn_5 : decode cX4_powerIn 5 = .ok (.iload 4, 2) := by decide +kernel
theorem dX4_powerIn_7 : decode cX4_powerIn 7 = .ok (.bipush 9, 2) := by decide +kernel
theorem dX4_powerIn_9 : decode cX4_powerIn 9 = .ok (.if_icmp .ge 38, 3) := by decide +kernel
theorem dX4_powerIn_12 : decode cX4_powerIn 12 = .ok (.aload_n 0, 1) := by decide +kernel
theorem dX4_powerIn_13 : decode cX4_powerIn 13 = .ok (.invokevirtual 120, 3) := by decide +kernel
theorem dX4_powerIn_16 : decode cX4_powerIn 16 = .ok (.ifCond .ne 31, 3) := by decide +kernel
theorem dX4_powerIn_19 : decode cX4_powerIn 19 = .ok (.aload_n 0, 1) := by decide +kernel
theorem dX4_powerIn_20 : decode cX4_powerIn 20 = .ok (.getfield 129, 3) := by decide +kernel
theorem dX4_powerIn_23 : decode cX4_powerIn 23 = .ok (.i2l, 1) := by decide +kernel
theorem dX4_powerIn_24 : decode cX4_powerIn 24 = .ok (.lload_n 2, 1) := by decide +kernel
theorem dX4_powerIn_25 : decode cX4_powerIn 25 = .ok (.iload_n 1, 1) := by decide +kernel
theorem dX4_powerIn_26 : decode cX4_powerIn 26 = .ok (.i2l, 1) := by decide +kernel
theorem dX4_powerIn_27 : decode cX4_powerIn 27 = .ok (.lmul, 1) := by decide +kernel
theorem dX4_powerIn_28 : decode cX4_powerIn 28 = .ok (.invokestatic 230, 3) := by decide +kernel
theorem dX4_powerIn_31 : decode cX4_powerIn 31 = .ok (.lconst 0, 1) := by decide +kernel
theorem dX4_powerIn_32 : decode cX4_powerIn 32 = .ok (.lcmp, 1) := by decide +kernel
theorem dX4_powerIn_33 : decode cX4_powerIn 33 = .ok (.ifCond .ne 14, 3) := by decide +kernel
theorem dX4_powerIn_36 : decode cX4_powerIn 36 = .ok (.lload_n 2, 1) := by decide +kernel
theorem dX4_powerIn_37 : decode cX4_powerIn 37 = .ok (.iload_n 1, 1) := by decide +kernel
theorem dX4_powerIn_38 : decode cX4_powerIn 38 = .ok (.i2l, 1) := by decide +kernel
theorem dX4_powerIn_39 : decode cX4_powerIn 39 = .ok (.lmul, 1) := by decide +kernel
theorem dX4_powerIn_40 : decode cX4_powerIn 40 = .ok (.lstore_n 2, 1) := by decide +kernel
theorem dX4_powerIn_41 : decode cX4_powerIn 41 = .ok (.iinc 4 1, 3) := by decide +kernel
theorem dX4_powerIn_44 : decode cX4_powerIn 44 = .ok (.goto (-39), 3) := by decide +kernel
theorem dX4_powerIn_47 : decode cX4_powerIn 47 = .ok (.lload_n 2, 1) := by decide +kernel
theorem dX4_powerIn_48 : decode cX4_powerIn 48 = .ok (.lreturn, 1) := by decide +kernel
set_option maxRecDepth 20000 in
theorem ggX4_widened_X0_isVoid : GoodIn wsX4_widened wsX0_isVoid := goodIn_r _ [6, 7, 15, 16, 17, 18, 19] (by decide +kernel) (by decide +kernel)
set_option maxRecDepth 20000 in
theorem gX4_widened_X0_isVoid : GoodIn wsX4_widened (wsV RX4 120 RX0 yX0_isVoid wsX0_isVoid) := goodIn_app (goodIn_of _ (by decide +kernel)) ggX4_widened_X0_isVoid
set_option maxRecDepth 20000 in
theorem ggX4_widened_X4_commonDivisor : GoodIn wsX4_widened wsX4_commonDivisor := goodIn_r _ [11] (by decide +kernel) (by decide +kernel)
set_option maxRecDepth 20000 in
theorem gX4_widened_X4_commonDivisor : GoodIn wsX4_widened (va_wsS RX4 379 yX4_commonDivisor wsX4_commonDivisor) := goodIn_app (goodIn_of _ (by decide +kernel)) ggX4_widened_X4_commonDivisor
set_option maxRecDepth 20000 in
theorem ggX4_widened_X4_share : GoodIn wsX4_widened wsX4_share := goodIn_r _ [14] (by decide +kernel) (by decide +kernel)
set_option maxRecDepth 20000 in
theorem gX4_widened_X4_share : GoodIn wsX4_widened (va_wsS RX4 382 yX4_share wsX4_share) := goodIn_app (goodIn_of _ (by decide +kernel)) ggX4_widened_X4_share
theorem dX4_widened_0 : decode cX4_widened 0 = .ok (.aload_n 2, 1) := by decide +kernel
theorem dX4_widened_1 : decode cX4_widened 1 = .ok (.invokevirtual 120, 3) := by decide +kernel
theorem dX4_widened_4 : decode cX4_widened 4 = .ok (.ifCond .ne 11, 3) := by decide +kernel
theorem dX4_widened_7 : decode cX4_widened 7 = .ok (.lload_n 0, 1) := by decide +kernel
theorem dX4_widened_8 : decode cX4_widened 8 = .ok (.ldc2_w 109, 3) := by decide +kernel
theorem dX4_widened_11 : decode cX4_widened 11 = .ok (.lcmp, 1) := by decide +kernel
theorem dX4_widened_12 : decode cX4_widened 12 = .ok (.ifCond .le 5, 3) := by decide +kernel
theorem dX4_widened_15 : decode cX4_widened 15 = .ok (.lload_n 0, 1) := by decide +kernel
theorem dX4_widened_16 : decode cX4_widened 16 = .ok (.lreturn, 1) := by decide +kernel
theorem dX4_widened_17 : decode cX4_widened 17 = .ok (.lload_n 0, 1) := by decide +kernel
theorem dX4_widened_18 : decode cX4_widened 18 = .ok (.lload_n 0, 1) := by decide +kernel
theorem dX4_widened_19 : decode cX4_widened 19 = .ok (.aload_n 2, 1) := by decide +kernel
theorem dX4_widened_20 : decode cX4_widened 20 = .ok (.getfield 129, 3) := by decide +kernel
theorem dX4_widened_23 : decode cX4_widened 23 = .ok (.i2l, 1) := by decide +kernel
theorem dX4_widened_24 : decode cX4_widened 24 = .ok (.invokestatic 379, 3) := by decide +kernel
theorem dX4_widened_27 : decode cX4_widened 27 = .ok (.invokestatic 382, 3) := by decide +kernel
theorem dX4_widened_30 : decode cX4_widened 30 = .ok (.aload_n 2, 1) := by decide +kernel
theorem dX4_widened_31 : decode cX4_widened 31 = .ok (.getfield 129, 3) := by decide +kernel
theorem dX4_widened_34 : decode cX4_widened 34 = .ok (.i2l, 1) := by decide +kernel
theorem dX4_widened_35 : decode cX4_widened 35 = .ok (.lmul, 1) := by decide +kernel
theorem dX4_widened_36 : decode cX4_widened 36 = .ok (.lreturn, 1) := by decide +kernel

set_option maxRecDepth 20000 in
theorem ggX0_init_X4_commonDivisor : GoodIn wsX0_init wsX4_commonDivisor := goodIn_r _ [11] (by decide +kernel) (by decide +kernel)
set_option maxRecDepth 20000 in
theorem gX0_init_X4_commonDivisor_n21 : GoodIn wsX0_init (wsX4_commonDivisor) := ggX0_init_X4_commonDivisor
set_option maxRecDepth 20000 in
theorem ggX0_init_X4_rest : GoodIn wsX0_init wsX4_rest := goodIn_r _ [13] (by decide +kernel) (by decide +kernel)
set_option maxRecDepth 20000 in
theorem gX0_init_X4_rest_n25 : GoodIn wsX0_init (wsX4_rest) := ggX0_init_X4_rest
set_option maxRecDepth 20000 in
theorem ggX0_init_X4_share : GoodIn wsX0_init wsX4_share := goodIn_r _ [15] (by decide +kernel) (by decide +kernel)
set_option maxRecDepth 20000 in
theorem gX0_init_X4_share_n34 : GoodIn wsX0_init (wsX4_share) := ggX0_init_X4_share
set_option maxRecDepth 20000 in
theorem ggX0_init_X4_inverse : GoodIn wsX0_init wsX4_inverse := goodIn_r _ [17] (by decide +kernel) (by decide +kernel)
set_option maxRecDepth 20000 in
theorem gX0_init_X4_inverse_n37 : GoodIn wsX0_init (wsX4_inverse) := ggX0_init_X4_inverse
theorem dX0_init_0 : decode cX0_init 0 = .ok (.aload_n 0, 1) := by decide +kernel
theorem dX0_init_1 : decode cX0_init 1 = .ok (.invokespecial 3, 3) := by decide +kernel
theorem dX0_init_4 : decode cX0_init 4 = .ok (.aload_n 0, 1) := by decide +kernel
theorem dX0_init_5 : decode cX0_init 5 = .ok (.iload_n 1, 1) := by decide +kernel
theorem dX0_init_6 : decode cX0_init 6 = .ok (.putfield 9, 3) := by decide +kernel
theorem dX0_init_9 : decode cX0_init 9 = .ok (.aload_n 0, 1) := by decide +kernel
theorem dX0_init_10 : decode cX0_init 10 = .ok (.iload_n 2, 1) := by decide +kernel
theorem dX0_init_11 : decode cX0_init 11 = .ok (.putfield 15, 3) := by decide +kernel
theorem dX0_init_14 : decode cX0_init 14 = .ok (.aload_n 0, 1) := by decide +kernel
theorem dX0_init_15 : decode cX0_init 15 = .ok (.iload_n 3, 1) := by decide +kernel
theorem dX0_init_16 : decode cX0_init 16 = .ok (.putfield 18, 3) := by decide +kernel
theorem dX0_init_19 : decode cX0_init 19 = .ok (.iload_n 1, 1) := by decide +kernel
theorem dX0_init_20 : decode cX0_init 20 = .ok (.i2l, 1) := by decide +kernel
theorem dX0_init_21 : decode cX0_init 21 = .ok (.iload_n 3, 1) := by decide +kernel
theorem dX0_init_22 : decode cX0_init 22 = .ok (.i2l, 1) := by decide +kernel
theorem dX0_init_23 : decode cX0_init 23 = .ok (.invokestatic 21, 3) := by decide +kernel
theorem dX0_init_26 : decode cX0_init 26 = .ok (.lstore 4, 2) := by decide +kernel
theorem dX0_init_28 : decode cX0_init 28 = .ok (.iload_n 2, 1) := by decide +kernel
theorem dX0_init_29 : decode cX0_init 29 = .ok (.i2l, 1) := by decide +kernel
theorem dX0_init_30 : decode cX0_init 30 = .ok (.lload 4, 2) := by decide +kernel
theorem dX0_init_32 : decode cX0_init 32 = .ok (.invokestatic 25, 3) := by decide +kernel
theorem dX0_init_35 : decode cX0_init 35 = .ok (.lconst 0, 1) := by decide +kernel
theorem dX0_init_36 : decode cX0_init 36 = .ok (.lcmp, 1) := by decide +kernel
theorem dX0_init_37 : decode cX0_init 37 = .ok (.ifCond .eq 16, 3) := by decide +kernel
theorem dX0_init_40 : decode cX0_init 40 = .ok (.aload_n 0, 1) := by decide +kernel
theorem dX0_init_41 : decode cX0_init 41 = .ok (.iconst (-1), 1) := by decide +kernel
theorem dX0_init_42 : decode cX0_init 42 = .ok (.putfield 28, 3) := by decide +kernel
theorem dX0_init_45 : decode cX0_init 45 = .ok (.aload_n 0, 1) := by decide +kernel
theorem dX0_init_46 : decode cX0_init 46 = .ok (.iconst (-1), 1) := by decide +kernel
theorem dX0_init_47 : decode cX0_init 47 = .ok (.putfield 31, 3) := by decide +kernel
theorem dX0_init_50 : decode cX0_init 50 = .ok (.goto 49, 3) := by decide +kernel
theorem dX0_init_53 : decode cX0_init 53 = .ok (.iload_n 3, 1) := by decide +kernel
theorem dX0_init_54 : decode cX0_init 54 = .ok (.i2l, 1) := by decide +kernel
theorem dX0_init_55 : decode cX0_init 55 = .ok (.lload 4, 2) := by decide +kernel
theorem dX0_init_57 : decode cX0_init 57 = .ok (.invokestatic 34, 3) := by decide +kernel
theorem dX0_init_60 : decode cX0_init 60 = .ok (.lstore 6, 2) := by decide +kernel
theorem dX0_init_62 : decode cX0_init 62 = .ok (.aload_n 0, 1) := by decide +kernel
theorem dX0_init_63 : decode cX0_init 63 = .ok (.lload 6, 2) := by decide +kernel
theorem dX0_init_65 : decode cX0_init 65 = .ok (.l2i, 1) := by decide +kernel
theorem dX0_init_66 : decode cX0_init 66 = .ok (.putfield 28, 3) := by decide +kernel
theorem dX0_init_69 : decode cX0_init 69 = .ok (.aload_n 0, 1) := by decide +kernel
theorem dX0_init_70 : decode cX0_init 70 = .ok (.iload_n 2, 1) := by decide +kernel
theorem dX0_init_71 : decode cX0_init 71 = .ok (.i2l, 1) := by decide +kernel
theorem dX0_init_72 : decode cX0_init 72 = .ok (.lload 4, 2) := by decide +kernel
theorem dX0_init_74 : decode cX0_init 74 = .ok (.invokestatic 34, 3) := by decide +kernel
theorem dX0_init_77 : decode cX0_init 77 = .ok (.iload_n 1, 1) := by decide +kernel
theorem dX0_init_78 : decode cX0_init 78 = .ok (.i2l, 1) := by decide +kernel
theorem dX0_init_79 : decode cX0_init 79 = .ok (.lload 4, 2) := by decide +kernel
theorem dX0_init_81 : decode cX0_init 81 = .ok (.invokestatic 34, 3) := by decide +kernel
theorem dX0_init_84 : decode cX0_init 84 = .ok (.lload 6, 2) := by decide +kernel
theorem dX0_init_86 : decode cX0_init 86 = .ok (.invokestatic 37, 3) := by decide +kernel
theorem dX0_init_89 : decode cX0_init 89 = .ok (.lmul, 1) := by decide +kernel
theorem dX0_init_90 : decode cX0_init 90 = .ok (.lload 6, 2) := by decide +kernel
theorem dX0_init_92 : decode cX0_init 92 = .ok (.invokestatic 25, 3) := by decide +kernel
theorem dX0_init_95 : decode cX0_init 95 = .ok (.l2i, 1) := by decide +kernel
theorem dX0_init_96 : decode cX0_init 96 = .ok (.putfield 31, 3) := by decide +kernel
theorem dX0_init_99 : decode cX0_init 99 = .ok (.return_, 1) := by decide +kernel
theorem dX0_isVoid_0 : decode cX0_isVoid 0 = .ok (.aload_n 0, 1) := by decide +kernel
theorem dX0_isVoid_1 : decode cX0_isVoid 1 = .ok (.getfield 28, 3) := by decide +kernel
theorem dX0_isVoid_4 : decode cX0_isVoid 4 = .ok (.iconst (-1), 1) := by decide +kernel
theorem dX0_isVoid_5 : decode cX0_isVoid 5 = .ok (.if_icmp .ne 7, 3) := by decide +kernel
theorem dX0_isVoid_8 : decode cX0_isVoid 8 = .ok (.iconst 1, 1) := by decide +kernel
theorem dX0_isVoid_9 : decode cX0_isVoid 9 = .ok (.goto 4, 3) := by decide +kernel
theorem dX0_isVoid_12 : decode cX0_isVoid 12 = .ok (.iconst 0, 1) := by decide +kernel
theorem dX0_isVoid_13 : decode cX0_isVoid 13 = .ok (.ireturn, 1) := by decide +kernel
set_option maxRecDepth 20000 in
theorem ggX0_isPartnerOf_X0_isVoid : GoodIn wsX0_isPartnerOf wsX0_isVoid := goodIn_r _ [7, 1, 13, 14, 15, 16, 17] (by decide +kernel) (by decide +kernel)
set_option maxRecDepth 20000 in
theorem gX0_isPartnerOf_X0_isVoid : GoodIn wsX0_isPartnerOf (wsV RX0 40 RX0 yX0_isVoid wsX0_isVoid) := goodIn_app (goodIn_of _ (by decide +kernel)) ggX0_isPartnerOf_X0_isVoid
set_option maxRecDepth 20000 in
theorem ggX0_isPartnerOf_X4_commonDivisor : GoodIn wsX0_isPartnerOf wsX4_commonDivisor := goodIn_r _ [10] (by decide +kernel) (by decide +kernel)
set_option maxRecDepth 20000 in
theorem gX0_isPartnerOf_X4_commonDivisor_n21 : GoodIn wsX0_isPartnerOf (wsX4_commonDivisor) := ggX0_isPartnerOf_X4_commonDivisor
set_option maxRecDepth 20000 in
theorem ggX0_isPartnerOf_X4_rest : GoodIn wsX0_isPartnerOf wsX4_rest := goodIn_r _ [12] (by decide +kernel) (by decide +kernel)
set_option maxRecDepth 20000 in
theorem gX0_isPartnerOf_X4_rest_n25 : GoodIn wsX0_isPartnerOf (wsX4_rest) := ggX0_isPartnerOf_X4_rest
theorem dX0_isPartnerOf_0 : decode cX0_isPartnerOf 0 = .ok (.aload_n 0, 1) := by decide +kernel
theorem dX0_isPartnerOf_1 : decode cX0_isPartnerOf 1 = .ok (.invokevirtual 40, 3) := by decide +kernel
theorem dX0_isPartnerOf_4 : decode cX0_isPartnerOf 4 = .ok (.ifCond .ne 10, 3) := by decide +kernel
theorem dX0_isPartnerOf_7 : decode cX0_isPartnerOf 7 = .ok (.aload_n 1, 1) := by decide +kernel
theorem dX0_isPartnerOf_8 : decode cX0_isPartnerOf 8 = .ok (.invokevirtual 40, 3) := by decide +kernel
theorem dX0_isPartnerOf_11 : decode cX0_isPartnerOf 11 = .ok (.ifCond .eq 5, 3) := by decide +kernel
theorem dX0_isPartnerOf_14 : decode cX0_isPartnerOf 14 = .ok (.iconst 0, 1) := by decide +kernel
theorem dX0_isPartnerOf_15 : decode cX0_isPartnerOf 15 = .ok (.ireturn, 1) := by decide +kernel
theorem dX0_isPartnerOf_16 : decode cX0_isPartnerOf 16 = .ok (.aload_n 0, 1) := by decide +kernel
theorem dX0_isPartnerOf_17 : decode cX0_isPartnerOf 17 = .ok (.getfield 28, 3) := by decide +kernel
theorem dX0_isPartnerOf_20 : decode cX0_isPartnerOf 20 = .ok (.i2l, 1) := by decide +kernel
theorem dX0_isPartnerOf_21 : decode cX0_isPartnerOf 21 = .ok (.aload_n 1, 1) := by decide +kernel
theorem dX0_isPartnerOf_22 : decode cX0_isPartnerOf 22 = .ok (.getfield 28, 3) := by decide +kernel
theorem dX0_isPartnerOf_25 : decode cX0_isPartnerOf 25 = .ok (.i2l, 1) := by decide +kernel
theorem dX0_isPartnerOf_26 : decode cX0_isPartnerOf 26 = .ok (.invokestatic 21, 3) := by decide +kernel
theorem dX0_isPartnerOf_29 : decode cX0_isPartnerOf 29 = .ok (.lstore_n 2, 1) := by decide +kernel
theorem dX0_isPartnerOf_30 : decode cX0_isPartnerOf 30 = .ok (.aload_n 0, 1) := by decide +kernel
theorem dX0_isPartnerOf_31 : decode cX0_isPartnerOf 31 = .ok (.getfield 31, 3) := by decide +kernel
theorem dX0_isPartnerOf_34 : decode cX0_isPartnerOf 34 = .ok (.i2l, 1) := by decide +kernel
theorem dX0_isPartnerOf_35 : decode cX0_isPartnerOf 35 = .ok (.lload_n 2, 1) := by decide +kernel
theorem dX0_isPartnerOf_36 : decode cX0_isPartnerOf 36 = .ok (.invokestatic 25, 3) := by decide +kernel
theorem dX0_isPartnerOf_39 : decode cX0_isPartnerOf 39 = .ok (.aload_n 1, 1) := by decide +kernel
theorem dX0_isPartnerOf_40 : decode cX0_isPartnerOf 40 = .ok (.getfield 31, 3) := by decide +kernel
theorem dX0_isPartnerOf_43 : decode cX0_isPartnerOf 43 = .ok (.i2l, 1) := by decide +kernel
theorem dX0_isPartnerOf_44 : decode cX0_isPartnerOf 44 = .ok (.lload_n 2, 1) := by decide +kernel
theorem dX0_isPartnerOf_45 : decode cX0_isPartnerOf 45 = .ok (.invokestatic 25, 3) := by decide +kernel
theorem dX0_isPartnerOf_48 : decode cX0_isPartnerOf 48 = .ok (.lcmp, 1) := by decide +kernel
theorem dX0_isPartnerOf_49 : decode cX0_isPartnerOf 49 = .ok (.ifCond .ne 7, 3) := by decide +kernel
theorem dX0_isPartnerOf_52 : decode cX0_isPartnerOf 52 = .ok (.iconst 1, 1) := by decide +kernel
theorem dX0_isPartnerOf_53 : decode cX0_isPartnerOf 53 = .ok (.goto 4, 3) := by decide +kernel
theorem dX0_isPartnerOf_56 : decode cX0_isPartnerOf 56 = .ok (.iconst 0, 1) := by decide +kernel
theorem dX0_isPartnerOf_57 : decode cX0_isPartnerOf 57 = .ok (.ireturn, 1) := by decide +kernel
set_option maxRecDepth 20000 in
theorem ggX0_isFulfilledBy_X0_isVoid : GoodIn wsX0_isFulfilledBy wsX0_isVoid := goodIn_r _ [7, 1, 11, 12, 13, 14, 15] (by decide +kernel) (by decide +kernel)
set_option maxRecDepth 20000 in
theorem gX0_isFulfilledBy_X0_isVoid : GoodIn wsX0_isFulfilledBy (wsV RX0 40 RX0 yX0_isVoid wsX0_isVoid) := goodIn_app (goodIn_of _ (by decide +kernel)) ggX0_isFulfilledBy_X0_isVoid
set_option maxRecDepth 20000 in
theorem ggX0_isFulfilledBy_X4_rest : GoodIn wsX0_isFulfilledBy wsX4_rest := goodIn_r _ [10] (by decide +kernel) (by decide +kernel)
set_option maxRecDepth 20000 in
theorem gX0_isFulfilledBy_X4_rest_n25 : GoodIn wsX0_isFulfilledBy (wsX4_rest) := ggX0_isFulfilledBy_X4_rest
theorem dX0_isFulfilledBy_0 : decode cX0_isFulfilledBy 0 = .ok (.aload_n 0, 1) := by decide +kernel
theorem dX0_isFulfilledBy_1 : decode cX0_isFulfilledBy 1 = .ok (.invokevirtual 40, 3) := by decide +kernel
theorem dX0_isFulfilledBy_4 : decode cX0_isFulfilledBy 4 = .ok (.ifCond .ne 25, 3) := by decide +kernel
theorem dX0_isFulfilledBy_7 : decode cX0_isFulfilledBy 7 = .ok (.lload_n 1, 1) := by decide +kernel
theorem dX0_isFulfilledBy_8 : decode cX0_isFulfilledBy 8 = .ok (.aload_n 0, 1) := by decide +kernel
theorem dX0_isFulfilledBy_9 : decode cX0_isFulfilledBy 9 = .ok (.getfield 28, 3) := by decide +kernel
theorem dX0_isFulfilledBy_12 : decode cX0_isFulfilledBy 12 = .ok (.i2l, 1) := by decide +kernel
theorem dX0_isFulfilledBy_13 : decode cX0_isFulfilledBy 13 = .ok (.invokestatic 25, 3) := by decide +kernel
theorem dX0_isFulfilledBy_16 : decode cX0_isFulfilledBy 16 = .ok (.aload_n 0, 1) := by decide +kernel
theorem dX0_isFulfilledBy_17 : decode cX0_isFulfilledBy 17 = .ok (.getfield 31, 3) := by decide +kernel
theorem dX0_isFulfilledBy_20 : decode cX0_isFulfilledBy 20 = .ok (.i2l, 1) := by decide +kernel
theorem dX0_isFulfilledBy_21 : decode cX0_isFulfilledBy 21 = .ok (.lcmp, 1) := by decide +kernel
theorem dX0_isFulfilledBy_22 : decode cX0_isFulfilledBy 22 = .ok (.ifCond .ne 7, 3) := by decide +kernel
theorem dX0_isFulfilledBy_25 : decode cX0_isFulfilledBy 25 = .ok (.iconst 1, 1) := by decide +kernel
theorem dX0_isFulfilledBy_26 : decode cX0_isFulfilledBy 26 = .ok (.goto 4, 3) := by decide +kernel
theorem dX0_isFulfilledBy_29 : decode cX0_isFulfilledBy 29 = .ok (.iconst 0, 1) := by decide +kernel
theorem dX0_isFulfilledBy_30 : decode cX0_isFulfilledBy 30 = .ok (.ireturn, 1) := by decide +kernel
theorem dX1_init_0 : decode cX1_init 0 = .ok (.aload_n 0, 1) := by decide +kernel
theorem dX1_init_1 : decode cX1_init 1 = .ok (.invokespecial 1, 3) := by decide +kernel
theorem dX1_init_4 : decode cX1_init 4 = .ok (.aload_n 0, 1) := by decide +kernel
theorem dX1_init_5 : decode cX1_init 5 = .ok (.lconst 1, 1) := by decide +kernel
theorem dX1_init_6 : decode cX1_init 6 = .ok (.putfield 7, 3) := by decide +kernel
theorem dX1_init_9 : decode cX1_init 9 = .ok (.aload_n 0, 1) := by decide +kernel
theorem dX1_init_10 : decode cX1_init 10 = .ok (.lconst 0, 1) := by decide +kernel
theorem dX1_init_11 : decode cX1_init 11 = .ok (.putfield 13, 3) := by decide +kernel
theorem dX1_init_14 : decode cX1_init 14 = .ok (.return_, 1) := by decide +kernel
theorem dX1_clear_0 : decode cX1_clear 0 = .ok (.aload_n 0, 1) := by decide +kernel
theorem dX1_clear_1 : decode cX1_clear 1 = .ok (.lconst 1, 1) := by decide +kernel
theorem dX1_clear_2 : decode cX1_clear 2 = .ok (.putfield 7, 3) := by decide +kernel
theorem dX1_clear_5 : decode cX1_clear 5 = .ok (.aload_n 0, 1) := by decide +kernel
theorem dX1_clear_6 : decode cX1_clear 6 = .ok (.lconst 0, 1) := by decide +kernel
theorem dX1_clear_7 : decode cX1_clear 7 = .ok (.putfield 13, 3) := by decide +kernel
theorem dX1_clear_10 : decode cX1_clear 10 = .ok (.return_, 1) := by decide +kernel
set_option maxRecDepth 20000 in
theorem ggX1_take_X4_commonDivisor : GoodIn wsX1_take wsX4_commonDivisor := goodIn_r _ [5] (by decide +kernel) (by decide +kernel)
set_option maxRecDepth 20000 in
theorem gX1_take_X4_commonDivisor_n22 : GoodIn wsX1_take (wsX4_commonDivisor) := ggX1_take_X4_commonDivisor
set_option maxRecDepth 20000 in
theorem ggX1_take_X4_share : GoodIn wsX1_take wsX4_share := goodIn_r _ [7] (by decide +kernel) (by decide +kernel)
set_option maxRecDepth 20000 in
theorem gX1_take_X4_share_n28 : GoodIn wsX1_take (wsX4_share) := ggX1_take_X4_share
set_option maxRecDepth 20000 in
theorem ggX1_take_X4_rest : GoodIn wsX1_take wsX4_rest := goodIn_r _ [9] (by decide +kernel) (by decide +kernel)
set_option maxRecDepth 20000 in
theorem gX1_take_X4_rest_n34 : GoodIn wsX1_take (wsX4_rest) := ggX1_take_X4_rest
set_option maxRecDepth 20000 in
theorem ggX1_take_X4_inverse : GoodIn wsX1_take wsX4_inverse := goodIn_r _ [11] (by decide +kernel) (by decide +kernel)
set_option maxRecDepth 20000 in
theorem gX1_take_X4_inverse_n37 : GoodIn wsX1_take (wsX4_inverse) := ggX1_take_X4_inverse
theorem dX1_take_0 : decode cX1_take 0 = .ok (.aload_n 0, 1) := by decide +kernel
theorem dX1_take_1 : decode cX1_take 1 = .ok (.getfield 7, 3) := by decide +kernel
theorem dX1_take_4 : decode cX1_take 4 = .ok (.aload_n 1, 1) := by decide +kernel
theorem dX1_take_5 : decode cX1_take 5 = .ok (.getfield 16, 3) := by decide +kernel
theorem dX1_take_8 : decode cX1_take 8 = .ok (.i2l, 1) := by decide +kernel
theorem dX1_take_9 : decode cX1_take 9 = .ok (.invokestatic 22, 3) := by decide +kernel
theorem dX1_take_12 : decode cX1_take 12 = .ok (.lstore_n 2, 1) := by decide +kernel
theorem dX1_take_13 : decode cX1_take 13 = .ok (.aload_n 1, 1) := by decide +kernel
theorem dX1_take_14 : decode cX1_take 14 = .ok (.getfield 16, 3) := by decide +kernel
theorem dX1_take_17 : decode cX1_take 17 = .ok (.i2l, 1) := by decide +kernel
theorem dX1_take_18 : decode cX1_take 18 = .ok (.lload_n 2, 1) := by decide +kernel
theorem dX1_take_19 : decode cX1_take 19 = .ok (.invokestatic 28, 3) := by decide +kernel
theorem dX1_take_22 : decode cX1_take 22 = .ok (.lstore 4, 2) := by decide +kernel
theorem dX1_take_24 : decode cX1_take 24 = .ok (.aload_n 1, 1) := by decide +kernel
theorem dX1_take_25 : decode cX1_take 25 = .ok (.getfield 31, 3) := by decide +kernel
theorem dX1_take_28 : decode cX1_take 28 = .ok (.i2l, 1) := by decide +kernel
theorem dX1_take_29 : decode cX1_take 29 = .ok (.aload_n 0, 1) := by decide +kernel
theorem dX1_take_30 : decode cX1_take 30 = .ok (.getfield 13, 3) := by decide +kernel
theorem dX1_take_33 : decode cX1_take 33 = .ok (.lsub, 1) := by decide +kernel
theorem dX1_take_34 : decode cX1_take 34 = .ok (.aload_n 1, 1) := by decide +kernel
theorem dX1_take_35 : decode cX1_take 35 = .ok (.getfield 16, 3) := by decide +kernel
theorem dX1_take_38 : decode cX1_take 38 = .ok (.i2l, 1) := by decide +kernel
theorem dX1_take_39 : decode cX1_take 39 = .ok (.invokestatic 34, 3) := by decide +kernel
theorem dX1_take_42 : decode cX1_take 42 = .ok (.lload_n 2, 1) := by decide +kernel
theorem dX1_take_43 : decode cX1_take 43 = .ok (.invokestatic 28, 3) := by decide +kernel
theorem dX1_take_46 : decode cX1_take 46 = .ok (.lstore 6, 2) := by decide +kernel
theorem dX1_take_48 : decode cX1_take 48 = .ok (.lload 6, 2) := by decide +kernel
theorem dX1_take_50 : decode cX1_take 50 = .ok (.aload_n 0, 1) := by decide +kernel
theorem dX1_take_51 : decode cX1_take 51 = .ok (.getfield 7, 3) := by decide +kernel
theorem dX1_take_54 : decode cX1_take 54 = .ok (.lload_n 2, 1) := by decide +kernel
theorem dX1_take_55 : decode cX1_take 55 = .ok (.invokestatic 28, 3) := by decide +kernel
theorem dX1_take_58 : decode cX1_take 58 = .ok (.lload 4, 2) := by decide +kernel
theorem dX1_take_60 : decode cX1_take 60 = .ok (.invokestatic 37, 3) := by decide +kernel
theorem dX1_take_63 : decode cX1_take 63 = .ok (.lmul, 1) := by decide +kernel
theorem dX1_take_64 : decode cX1_take 64 = .ok (.lload 4, 2) := by decide +kernel
theorem dX1_take_66 : decode cX1_take 66 = .ok (.invokestatic 34, 3) := by decide +kernel
theorem dX1_take_69 : decode cX1_take 69 = .ok (.lstore 8, 2) := by decide +kernel
theorem dX1_take_71 : decode cX1_take 71 = .ok (.aload_n 0, 1) := by decide +kernel
theorem dX1_take_72 : decode cX1_take 72 = .ok (.dup, 1) := by decide +kernel
theorem dX1_take_73 : decode cX1_take 73 = .ok (.getfield 13, 3) := by decide +kernel
theorem dX1_take_76 : decode cX1_take 76 = .ok (.aload_n 0, 1) := by decide +kernel
theorem dX1_take_77 : decode cX1_take 77 = .ok (.getfield 7, 3) := by decide +kernel
theorem dX1_take_80 : decode cX1_take 80 = .ok (.lload 8, 2) := by decide +kernel
theorem dX1_take_82 : decode cX1_take 82 = .ok (.lmul, 1) := by decide +kernel
theorem dX1_take_83 : decode cX1_take 83 = .ok (.ladd, 1) := by decide +kernel
theorem dX1_take_84 : decode cX1_take 84 = .ok (.putfield 13, 3) := by decide +kernel
theorem dX1_take_87 : decode cX1_take 87 = .ok (.aload_n 0, 1) := by decide +kernel
theorem dX1_take_88 : decode cX1_take 88 = .ok (.dup, 1) := by decide +kernel
theorem dX1_take_89 : decode cX1_take 89 = .ok (.getfield 7, 3) := by decide +kernel
theorem dX1_take_92 : decode cX1_take 92 = .ok (.lload 4, 2) := by decide +kernel
theorem dX1_take_94 : decode cX1_take 94 = .ok (.lmul, 1) := by decide +kernel
theorem dX1_take_95 : decode cX1_take 95 = .ok (.putfield 7, 3) := by decide +kernel
theorem dX1_take_98 : decode cX1_take 98 = .ok (.return_, 1) := by decide +kernel
set_option maxRecDepth 20000 in
theorem ggX1_tells_X0_isVoid : GoodIn wsX1_tells wsX0_isVoid := goodIn_r _ [7, 8, 20, 21, 22, 23, 24] (by decide +kernel) (by decide +kernel)
set_option maxRecDepth 20000 in
theorem gX1_tells_X0_isVoid : GoodIn wsX1_tells (wsV RX1 40 RX0 yX0_isVoid wsX0_isVoid) := goodIn_app (goodIn_of _ (by decide +kernel)) ggX1_tells_X0_isVoid
set_option maxRecDepth 20000 in
theorem ggX1_tells_X4_rest : GoodIn wsX1_tells wsX4_rest := goodIn_r _ [11] (by decide +kernel) (by decide +kernel)
set_option maxRecDepth 20000 in
theorem gX1_tells_X4_rest_n34 : GoodIn wsX1_tells (wsX4_rest) := ggX1_tells_X4_rest
set_option maxRecDepth 20000 in
theorem ggX1_tells_X0_isFulfilledBy : GoodIn wsX1_tells wsX0_isFulfilledBy := goodIn_r _ [15, 8, 16, 17, 4, 5, 6, 7, 9, 10, 11, 20, 21, 22, 23, 24] (by decide +kernel) (by decide +kernel)
set_option maxRecDepth 20000 in
theorem gX1_tells_X0_isFulfilledBy : GoodIn wsX1_tells (wsV RX1 44 RX0 yX0_isFulfilledBy wsX0_isFulfilledBy) := goodIn_app (goodIn_of _ (by decide +kernel)) ggX1_tells_X0_isFulfilledBy
theorem dX1_tells_0 : decode cX1_tells 0 = .ok (.aload_n 1, 1) := by decide +kernel
theorem dX1_tells_1 : decode cX1_tells 1 = .ok (.invokevirtual 40, 3) := by decide +kernel
theorem dX1_tells_4 : decode cX1_tells 4 = .ok (.ifCond .ne 35, 3) := by decide +kernel
theorem dX1_tells_7 : decode cX1_tells 7 = .ok (.aload_n 0, 1) := by decide +kernel
theorem dX1_tells_8 : decode cX1_tells 8 = .ok (.getfield 7, 3) := by decide +kernel
theorem dX1_tells_11 : decode cX1_tells 11 = .ok (.aload_n 1, 1) := by decide +kernel
theorem dX1_tells_12 : decode cX1_tells 12 = .ok (.getfield 16, 3) := by decide +kernel
theorem dX1_tells_15 : decode cX1_tells 15 = .ok (.i2l, 1) := by decide +kernel
theorem dX1_tells_16 : decode cX1_tells 16 = .ok (.invokestatic 34, 3) := by decide +kernel
theorem dX1_tells_19 : decode cX1_tells 19 = .ok (.lconst 0, 1) := by decide +kernel
theorem dX1_tells_20 : decode cX1_tells 20 = .ok (.lcmp, 1) := by decide +kernel
theorem dX1_tells_21 : decode cX1_tells 21 = .ok (.ifCond .ne 18, 3) := by decide +kernel
theorem dX1_tells_24 : decode cX1_tells 24 = .ok (.aload_n 1, 1) := by decide +kernel
theorem dX1_tells_25 : decode cX1_tells 25 = .ok (.aload_n 0, 1) := by decide +kernel
theorem dX1_tells_26 : decode cX1_tells 26 = .ok (.getfield 13, 3) := by decide +kernel
theorem dX1_tells_29 : decode cX1_tells 29 = .ok (.invokevirtual 44, 3) := by decide +kernel
theorem dX1_tells_32 : decode cX1_tells 32 = .ok (.ifCond .eq 7, 3) := by decide +kernel
theorem dX1_tells_35 : decode cX1_tells 35 = .ok (.iconst 1, 1) := by decide +kernel
theorem dX1_tells_36 : decode cX1_tells 36 = .ok (.goto 4, 3) := by decide +kernel
theorem dX1_tells_39 : decode cX1_tells 39 = .ok (.iconst 0, 1) := by decide +kernel
theorem dX1_tells_40 : decode cX1_tells 40 = .ok (.ireturn, 1) := by decide +kernel
set_option maxRecDepth 20000 in
theorem ggX1_leastFrom_X4_rest : GoodIn wsX1_leastFrom wsX4_rest := goodIn_r _ [5] (by decide +kernel) (by decide +kernel)
set_option maxRecDepth 20000 in
theorem gX1_leastFrom_X4_rest_n34 : GoodIn wsX1_leastFrom (wsX4_rest) := ggX1_leastFrom_X4_rest
theorem dX1_leastFrom_0 : decode cX1_leastFrom 0 = .ok (.lload_n 1, 1) := by decide +kernel
theorem dX1_leastFrom_1 : decode cX1_leastFrom 1 = .ok (.aload_n 0, 1) := by decide +kernel
theorem dX1_leastFrom_2 : decode cX1_leastFrom 2 = .ok (.getfield 13, 3) := by decide +kernel
theorem dX1_leastFrom_5 : decode cX1_leastFrom 5 = .ok (.lload_n 1, 1) := by decide +kernel
theorem dX1_leastFrom_6 : decode cX1_leastFrom 6 = .ok (.lsub, 1) := by decide +kernel
theorem dX1_leastFrom_7 : decode cX1_leastFrom 7 = .ok (.aload_n 0, 1) := by decide +kernel
theorem dX1_leastFrom_8 : decode cX1_leastFrom 8 = .ok (.getfield 7, 3) := by decide +kernel
theorem dX1_leastFrom_11 : decode cX1_leastFrom 11 = .ok (.invokestatic 34, 3) := by decide +kernel
theorem dX1_leastFrom_14 : decode cX1_leastFrom 14 = .ok (.ladd, 1) := by decide +kernel
theorem dX1_leastFrom_15 : decode cX1_leastFrom 15 = .ok (.lreturn, 1) := by decide +kernel
set_option maxRecDepth 20000 in
theorem ggX1_answersUpTo_X4_share : GoodIn wsX1_answersUpTo wsX4_share := goodIn_r _ [5] (by decide +kernel) (by decide +kernel)
set_option maxRecDepth 20000 in
theorem gX1_answersUpTo_X4_share_n28 : GoodIn wsX1_answersUpTo (wsX4_share) := ggX1_answersUpTo_X4_share
theorem dX1_answersUpTo_0 : decode cX1_answersUpTo 0 = .ok (.lload_n 1, 1) := by decide +kernel
theorem dX1_answersUpTo_1 : decode cX1_answersUpTo 1 = .ok (.aload_n 0, 1) := by decide +kernel
theorem dX1_answersUpTo_2 : decode cX1_answersUpTo 2 = .ok (.getfield 13, 3) := by decide +kernel
theorem dX1_answersUpTo_5 : decode cX1_answersUpTo 5 = .ok (.lcmp, 1) := by decide +kernel
theorem dX1_answersUpTo_6 : decode cX1_answersUpTo 6 = .ok (.ifCond .ge 7, 3) := by decide +kernel
theorem dX1_answersUpTo_9 : decode cX1_answersUpTo 9 = .ok (.lconst 0, 1) := by decide +kernel
theorem dX1_answersUpTo_10 : decode cX1_answersUpTo 10 = .ok (.goto 18, 3) := by decide +kernel
theorem dX1_answersUpTo_13 : decode cX1_answersUpTo 13 = .ok (.lload_n 1, 1) := by decide +kernel
theorem dX1_answersUpTo_14 : decode cX1_answersUpTo 14 = .ok (.aload_n 0, 1) := by decide +kernel
theorem dX1_answersUpTo_15 : decode cX1_answersUpTo 15 = .ok (.getfield 13, 3) := by decide +kernel
theorem dX1_answersUpTo_18 : decode cX1_answersUpTo 18 = .ok (.lsub, 1) := by decide +kernel
theorem dX1_answersUpTo_19 : decode cX1_answersUpTo 19 = .ok (.aload_n 0, 1) := by decide +kernel
theorem dX1_answersUpTo_20 : decode cX1_answersUpTo 20 = .ok (.getfield 7, 3) := by decide +kernel
theorem dX1_answersUpTo_23 : decode cX1_answersUpTo 23 = .ok (.invokestatic 28, 3) := by decide +kernel
theorem dX1_answersUpTo_26 : decode cX1_answersUpTo 26 = .ok (.lconst 1, 1) := by decide +kernel
theorem dX1_answersUpTo_27 : decode cX1_answersUpTo 27 = .ok (.ladd, 1) := by decide +kernel
theorem dX1_answersUpTo_28 : decode cX1_answersUpTo 28 = .ok (.lreturn, 1) := by decide +kernel
set_option maxRecDepth 20000 in
theorem ggX2_init_X2_start : GoodIn wsX2_init wsX2_start := goodIn_r _ [8, 9, 10, 11, 12, 13, 14, 15, 16] (by decide +kernel) (by decide +kernel)
set_option maxRecDepth 20000 in
theorem gX2_init_X2_start : GoodIn wsX2_init (wsV RX2 9 RX2 yX2_start wsX2_start) := goodIn_app (goodIn_of _ (by decide +kernel)) ggX2_init_X2_start
theorem dX2_init_0 : decode cX2_init 0 = .ok (.aload_n 0, 1) := by decide +kernel
theorem dX2_init_1 : decode cX2_init 1 = .ok (.invokespecial 3, 3) := by decide +kernel
theorem dX2_init_4 : decode cX2_init 4 = .ok (.aload_n 0, 1) := by decide +kernel
theorem dX2_init_5 : decode cX2_init 5 = .ok (.invokevirtual 9, 3) := by decide +kernel
theorem dX2_init_8 : decode cX2_init 8 = .ok (.return_, 1) := by decide +kernel
theorem dX2_start_0 : decode cX2_start 0 = .ok (.aload_n 0, 1) := by decide +kernel
theorem dX2_start_1 : decode cX2_start 1 = .ok (.iconst 0, 1) := by decide +kernel
theorem dX2_start_2 : decode cX2_start 2 = .ok (.putfield 14, 3) := by decide +kernel
theorem dX2_start_5 : decode cX2_start 5 = .ok (.aload_n 0, 1) := by decide +kernel
theorem dX2_start_6 : decode cX2_start 6 = .ok (.iconst 0, 1) := by decide +kernel
theorem dX2_start_7 : decode cX2_start 7 = .ok (.putfield 18, 3) := by decide +kernel
theorem dX2_start_10 : decode cX2_start 10 = .ok (.aload_n 0, 1) := by decide +kernel
theorem dX2_start_11 : decode cX2_start 11 = .ok (.iconst 1, 1) := by decide +kernel
theorem dX2_start_12 : decode cX2_start 12 = .ok (.putfield 21, 3) := by decide +kernel
theorem dX2_start_15 : decode cX2_start 15 = .ok (.aload_n 0, 1) := by decide +kernel
theorem dX2_start_16 : decode cX2_start 16 = .ok (.iconst 0, 1) := by decide +kernel
theorem dX2_start_17 : decode cX2_start 17 = .ok (.putfield 24, 3) := by decide +kernel
theorem dX2_start_20 : decode cX2_start 20 = .ok (.return_, 1) := by decide +kernel
theorem dX2_isComplete_0 : decode cX2_isComplete 0 = .ok (.aload_n 0, 1) := by decide +kernel
theorem dX2_isComplete_1 : decode cX2_isComplete 1 = .ok (.getfield 14, 3) := by decide +kernel
theorem dX2_isComplete_4 : decode cX2_isComplete 4 = .ok (.bipush 6, 2) := by decide +kernel
theorem dX2_isComplete_6 : decode cX2_isComplete 6 = .ok (.if_icmp .ne 7, 3) := by decide +kernel
theorem dX2_isComplete_9 : decode cX2_isComplete 9 = .ok (.iconst 1, 1) := by decide +kernel
theorem dX2_isComplete_10 : decode cX2_isComplete 10 = .ok (.goto 4, 3) := by decide +kernel
theorem dX2_isComplete_13 : decode cX2_isComplete 13 = .ok (.iconst 0, 1) := by decide +kernel
theorem dX2_isComplete_14 : decode cX2_isComplete 14 = .ok (.ireturn, 1) := by decide +kernel
set_option maxRecDepth 20000 in
theorem ggX2_takes_X2_takesDigit : GoodIn wsX2_takes wsX2_takesDigit := goodIn_r _ [5, 6, 7, 8, 9, 4, 10, 11, 12, 13, 14, 15, 22, 23, 24, 25] (by decide +kernel) (by decide +kernel)
set_option maxRecDepth 20000 in
theorem gX2_takes_X2_takesDigit : GoodIn wsX2_takes (wsV RX2 27 RX2 yX2_takesDigit wsX2_takesDigit) := goodIn_app (goodIn_of _ (by decide +kernel)) ggX2_takes_X2_takesDigit
set_option maxRecDepth 20000 in
theorem ggX2_takes_X2_takesSign : GoodIn wsX2_takes wsX2_takesSign := goodIn_r _ [19, 6, 11, 20, 21, 22, 23, 24, 25] (by decide +kernel) (by decide +kernel)
set_option maxRecDepth 20000 in
theorem gX2_takes_X2_takesSign : GoodIn wsX2_takes (wsV RX2 31 RX2 yX2_takesSign wsX2_takesSign) := goodIn_app (goodIn_of _ (by decide +kernel)) ggX2_takes_X2_takesSign
theorem dX2_takes_0 : decode cX2_takes 0 = .ok (.iload_n 1, 1) := by decide +kernel
theorem dX2_takes_1 : decode cX2_takes 1 = .ok (.bipush 48, 2) := by decide +kernel
theorem dX2_takes_3 : decode cX2_takes 3 = .ok (.if_icmp .lt 20, 3) := by decide +kernel
theorem dX2_takes_6 : decode cX2_takes 6 = .ok (.iload_n 1, 1) := by decide +kernel
theorem dX2_takes_7 : decode cX2_takes 7 = .ok (.bipush 57, 2) := by decide +kernel
theorem dX2_takes_9 : decode cX2_takes 9 = .ok (.if_icmp .gt 14, 3) := by decide +kernel
theorem dX2_takes_12 : decode cX2_takes 12 = .ok (.aload_n 0, 1) := by decide +kernel
theorem dX2_takes_13 : decode cX2_takes 13 = .ok (.iload_n 1, 1) := by decide +kernel
theorem dX2_takes_14 : decode cX2_takes 14 = .ok (.bipush 48, 2) := by decide +kernel
theorem dX2_takes_16 : decode cX2_takes 16 = .ok (.isub, 1) := by decide +kernel
theorem dX2_takes_17 : decode cX2_takes 17 = .ok (.invokevirtual 27, 3) := by decide +kernel
theorem dX2_takes_20 : decode cX2_takes 20 = .ok (.goto 8, 3) := by decide +kernel
theorem dX2_takes_23 : decode cX2_takes 23 = .ok (.aload_n 0, 1) := by decide +kernel
theorem dX2_takes_24 : decode cX2_takes 24 = .ok (.iload_n 1, 1) := by decide +kernel
theorem dX2_takes_25 : decode cX2_takes 25 = .ok (.invokevirtual 31, 3) := by decide +kernel
theorem dX2_takes_28 : decode cX2_takes 28 = .ok (.ireturn, 1) := by decide +kernel
set_option maxRecDepth 20000 in
theorem ggX2_takesDigit_X2_begins : GoodIn wsX2_takesDigit wsX2_begins := goodIn_r _ [6, 1, 7, 12, 13, 14, 15] (by decide +kernel) (by decide +kernel)
set_option maxRecDepth 20000 in
theorem gX2_takesDigit_X2_begins : GoodIn wsX2_takesDigit (wsV RX2 34 RX2 yX2_begins wsX2_begins) := goodIn_app (goodIn_of _ (by decide +kernel)) ggX2_takesDigit_X2_begins
set_option maxRecDepth 20000 in
theorem ggX2_takesDigit_X2_continues : GoodIn wsX2_takesDigit wsX2_continues := goodIn_r _ [11, 7, 12, 13, 14, 15] (by decide +kernel) (by decide +kernel)
set_option maxRecDepth 20000 in
theorem gX2_takesDigit_X2_continues : GoodIn wsX2_takesDigit (wsV RX2 38 RX2 yX2_continues wsX2_continues) := goodIn_app (goodIn_of _ (by decide +kernel)) ggX2_takesDigit_X2_continues
theorem dX2_takesDigit_0 : decode cX2_takesDigit 0 = .ok (.aload_n 0, 1) := by decide +kernel
theorem dX2_takesDigit_1 : decode cX2_takesDigit 1 = .ok (.getfield 14, 3) := by decide +kernel
theorem dX2_takesDigit_4 : decode cX2_takesDigit 4 = .ok (.tableswitch 75 0 6 #[44, 69, 75, 52, 69, 60, 69], 44) := by decide +kernel
theorem dX2_takesDigit_48 : decode cX2_takesDigit 48 = .ok (.aload_n 0, 1) := by decide +kernel
theorem dX2_takesDigit_49 : decode cX2_takesDigit 49 = .ok (.iconst 1, 1) := by decide +kernel
theorem dX2_takesDigit_50 : decode cX2_takesDigit 50 = .ok (.iload_n 1, 1) := by decide +kernel
theorem dX2_takesDigit_51 : decode cX2_takesDigit 51 = .ok (.iconst 1, 1) := by decide +kernel
theorem dX2_takesDigit_52 : decode cX2_takesDigit 52 = .ok (.invokevirtual 34, 3) := by decide +kernel
theorem dX2_takesDigit_55 : decode cX2_takesDigit 55 = .ok (.ireturn, 1) := by decide +kernel
theorem dX2_takesDigit_56 : decode cX2_takesDigit 56 = .ok (.aload_n 0, 1) := by decide +kernel
theorem dX2_takesDigit_57 : decode cX2_takesDigit 57 = .ok (.iconst 4, 1) := by decide +kernel
theorem dX2_takesDigit_58 : decode cX2_takesDigit 58 = .ok (.iload_n 1, 1) := by decide +kernel
theorem dX2_takesDigit_59 : decode cX2_takesDigit 59 = .ok (.iconst 0, 1) := by decide +kernel
theorem dX2_takesDigit_60 : decode cX2_takesDigit 60 = .ok (.invokevirtual 34, 3) := by decide +kernel
theorem dX2_takesDigit_63 : decode cX2_takesDigit 63 = .ok (.ireturn, 1) := by decide +kernel
theorem dX2_takesDigit_64 : decode cX2_takesDigit 64 = .ok (.aload_n 0, 1) := by decide +kernel
theorem dX2_takesDigit_65 : decode cX2_takesDigit 65 = .ok (.bipush 6, 2) := by decide +kernel
theorem dX2_takesDigit_67 : decode cX2_takesDigit 67 = .ok (.iload_n 1, 1) := by decide +kernel
theorem dX2_takesDigit_68 : decode cX2_takesDigit 68 = .ok (.iconst 1, 1) := by decide +kernel
theorem dX2_takesDigit_69 : decode cX2_takesDigit 69 = .ok (.invokevirtual 34, 3) := by decide +kernel
theorem dX2_takesDigit_72 : decode cX2_takesDigit 72 = .ok (.ireturn, 1) := by decide +kernel
theorem dX2_takesDigit_73 : decode cX2_takesDigit 73 = .ok (.aload_n 0, 1) := by decide +kernel
theorem dX2_takesDigit_74 : decode cX2_takesDigit 74 = .ok (.iload_n 1, 1) := by decide +kernel
theorem dX2_takesDigit_75 : decode cX2_takesDigit 75 = .ok (.invokevirtual 38, 3) := by decide +kernel
theorem dX2_takesDigit_78 : decode cX2_takesDigit 78 = .ok (.ireturn, 1) := by decide +kernel
theorem dX2_takesDigit_79 : decode cX2_takesDigit 79 = .ok (.iconst 0, 1) := by decide +kernel
theorem dX2_takesDigit_80 : decode cX2_takesDigit 80 = .ok (.ireturn, 1) := by decide +kernel
theorem dX2_begins_0 : decode cX2_begins 0 = .ok (.iload_n 2, 1) := by decide +kernel
theorem dX2_begins_1 : decode cX2_begins 1 = .ok (.iload_n 3, 1) := by decide +kernel
theorem dX2_begins_2 : decode cX2_begins 2 = .ok (.if_icmp .ge 5, 3) := by decide +kernel
theorem dX2_begins_5 : decode cX2_begins 5 = .ok (.iconst 0, 1) := by decide +kernel
theorem dX2_begins_6 : decode cX2_begins 6 = .ok (.ireturn, 1) := by decide +kernel
theorem dX2_begins_7 : decode cX2_begins 7 = .ok (.aload_n 0, 1) := by decide +kernel
theorem dX2_begins_8 : decode cX2_begins 8 = .ok (.iload_n 1, 1) := by decide +kernel
theorem dX2_begins_9 : decode cX2_begins 9 = .ok (.putfield 14, 3) := by decide +kernel
theorem dX2_begins_12 : decode cX2_begins 12 = .ok (.aload_n 0, 1) := by decide +kernel
theorem dX2_begins_13 : decode cX2_begins 13 = .ok (.iload_n 2, 1) := by decide +kernel
theorem dX2_begins_14 : decode cX2_begins 14 = .ok (.putfield 18, 3) := by decide +kernel
theorem dX2_begins_17 : decode cX2_begins 17 = .ok (.iconst 1, 1) := by decide +kernel
theorem dX2_begins_18 : decode cX2_begins 18 = .ok (.ireturn, 1) := by decide +kernel
theorem dX2_continues_0 : decode cX2_continues 0 = .ok (.aload_n 0, 1) := by decide +kernel
theorem dX2_continues_1 : decode cX2_continues 1 = .ok (.getfield 18, 3) := by decide +kernel
theorem dX2_continues_4 : decode cX2_continues 4 = .ok (.iconst 1, 1) := by decide +kernel
theorem dX2_continues_5 : decode cX2_continues 5 = .ok (.if_icmp .lt 18, 3) := by decide +kernel
theorem dX2_continues_8 : decode cX2_continues 8 = .ok (.aload_n 0, 1) := by decide +kernel
theorem dX2_continues_9 : decode cX2_continues 9 = .ok (.getfield 18, 3) := by decide +kernel
theorem dX2_continues_12 : decode cX2_continues 12 = .ok (.bipush 10, 2) := by decide +kernel
theorem dX2_continues_14 : decode cX2_continues 14 = .ok (.imul, 1) := by decide +kernel
theorem dX2_continues_15 : decode cX2_continues 15 = .ok (.iload_n 1, 1) := by decide +kernel
theorem dX2_continues_16 : decode cX2_continues 16 = .ok (.iadd, 1) := by decide +kernel
theorem dX2_continues_17 : decode cX2_continues 17 = .ok (.sipush 999, 3) := by decide +kernel
theorem dX2_continues_20 : decode cX2_continues 20 = .ok (.if_icmp .le 5, 3) := by decide +kernel
theorem dX2_continues_23 : decode cX2_continues 23 = .ok (.iconst 0, 1) := by decide +kernel
theorem dX2_continues_24 : decode cX2_continues 24 = .ok (.ireturn, 1) := by decide +kernel
theorem dX2_continues_25 : decode cX2_continues 25 = .ok (.aload_n 0, 1) := by decide +kernel
theorem dX2_continues_26 : decode cX2_continues 26 = .ok (.aload_n 0, 1) := by decide +kernel
theorem dX2_continues_27 : decode cX2_continues 27 = .ok (.getfield 18, 3) := by decide +kernel
theorem dX2_continues_30 : decode cX2_continues 30 = .ok (.bipush 10, 2) := by decide +kernel
theorem dX2_continues_32 : decode cX2_continues 32 = .ok (.imul, 1) := by decide +kernel
theorem dX2_continues_33 : decode cX2_continues 33 = .ok (.iload_n 1, 1) := by decide +kernel
theorem dX2_continues_34 : decode cX2_continues 34 = .ok (.iadd, 1) := by decide +kernel
theorem dX2_continues_35 : decode cX2_continues 35 = .ok (.putfield 18, 3) := by decide +kernel
theorem dX2_continues_38 : decode cX2_continues 38 = .ok (.iconst 1, 1) := by decide +kernel
theorem dX2_continues_39 : decode cX2_continues 39 = .ok (.ireturn, 1) := by decide +kernel
theorem dX2_takesSign_0 : decode cX2_takesSign 0 = .ok (.iload_n 1, 1) := by decide +kernel
theorem dX2_takesSign_1 : decode cX2_takesSign 1 = .ok (.bipush 120, 2) := by decide +kernel
theorem dX2_takesSign_3 : decode cX2_takesSign 3 = .ok (.if_icmp .ne 44, 3) := by decide +kernel
theorem dX2_takesSign_6 : decode cX2_takesSign 6 = .ok (.aload_n 0, 1) := by decide +kernel
theorem dX2_takesSign_7 : decode cX2_takesSign 7 = .ok (.getfield 14, 3) := by decide +kernel
theorem dX2_takesSign_10 : decode cX2_takesSign 10 = .ok (.ifCond .eq 11, 3) := by decide +kernel
theorem dX2_takesSign_13 : decode cX2_takesSign 13 = .ok (.aload_n 0, 1) := by decide +kernel
theorem dX2_takesSign_14 : decode cX2_takesSign 14 = .ok (.getfield 14, 3) := by decide +kernel
theorem dX2_takesSign_17 : decode cX2_takesSign 17 = .ok (.iconst 1, 1) := by decide +kernel
theorem dX2_takesSign_18 : decode cX2_takesSign 18 = .ok (.if_icmp .ne 29, 3) := by decide +kernel
theorem dX2_takesSign_21 : decode cX2_takesSign 21 = .ok (.aload_n 0, 1) := by decide +kernel
theorem dX2_takesSign_22 : decode cX2_takesSign 22 = .ok (.aload_n 0, 1) := by decide +kernel
theorem dX2_takesSign_23 : decode cX2_takesSign 23 = .ok (.getfield 14, 3) := by decide +kernel
theorem dX2_takesSign_26 : decode cX2_takesSign 26 = .ok (.ifCond .ne 7, 3) := by decide +kernel
theorem dX2_takesSign_29 : decode cX2_takesSign 29 = .ok (.iconst 1, 1) := by decide +kernel
theorem dX2_takesSign_30 : decode cX2_takesSign 30 = .ok (.goto 7, 3) := by decide +kernel
theorem dX2_takesSign_33 : decode cX2_takesSign 33 = .ok (.aload_n 0, 1) := by decide +kernel
theorem dX2_takesSign_34 : decode cX2_takesSign 34 = .ok (.getfield 18, 3) := by decide +kernel
theorem dX2_takesSign_37 : decode cX2_takesSign 37 = .ok (.putfield 21, 3) := by decide +kernel
theorem dX2_takesSign_40 : decode cX2_takesSign 40 = .ok (.aload_n 0, 1) := by decide +kernel
theorem dX2_takesSign_41 : decode cX2_takesSign 41 = .ok (.iconst 2, 1) := by decide +kernel
theorem dX2_takesSign_42 : decode cX2_takesSign 42 = .ok (.putfield 14, 3) := by decide +kernel
theorem dX2_takesSign_45 : decode cX2_takesSign 45 = .ok (.iconst 1, 1) := by decide +kernel
theorem dX2_takesSign_46 : decode cX2_takesSign 46 = .ok (.ireturn, 1) := by decide +kernel
theorem dX2_takesSign_47 : decode cX2_takesSign 47 = .ok (.iload_n 1, 1) := by decide +kernel
theorem dX2_takesSign_48 : decode cX2_takesSign 48 = .ok (.bipush 61, 2) := by decide +kernel
theorem dX2_takesSign_50 : decode cX2_takesSign 50 = .ok (.if_icmp .ne 18, 3) := by decide +kernel
theorem dX2_takesSign_53 : decode cX2_takesSign 53 = .ok (.aload_n 0, 1) := by decide +kernel
theorem dX2_takesSign_54 : decode cX2_takesSign 54 = .ok (.getfield 14, 3) := by decide +kernel
theorem dX2_takesSign_57 : decode cX2_takesSign 57 = .ok (.iconst 2, 1) := by decide +kernel
theorem dX2_takesSign_58 : decode cX2_takesSign 58 = .ok (.if_icmp .ne 10, 3) := by decide +kernel
theorem dX2_takesSign_61 : decode cX2_takesSign 61 = .ok (.aload_n 0, 1) := by decide +kernel
theorem dX2_takesSign_62 : decode cX2_takesSign 62 = .ok (.iconst 3, 1) := by decide +kernel
theorem dX2_takesSign_63 : decode cX2_takesSign 63 = .ok (.putfield 14, 3) := by decide +kernel
theorem dX2_takesSign_66 : decode cX2_takesSign 66 = .ok (.iconst 1, 1) := by decide +kernel
theorem dX2_takesSign_67 : decode cX2_takesSign 67 = .ok (.ireturn, 1) := by decide +kernel
theorem dX2_takesSign_68 : decode cX2_takesSign 68 = .ok (.iload_n 1, 1) := by decide +kernel
theorem dX2_takesSign_69 : decode cX2_takesSign 69 = .ok (.bipush 37, 2) := by decide +kernel
theorem dX2_takesSign_71 : decode cX2_takesSign 71 = .ok (.if_icmp .ne 26, 3) := by decide +kernel
theorem dX2_takesSign_74 : decode cX2_takesSign 74 = .ok (.aload_n 0, 1) := by decide +kernel
theorem dX2_takesSign_75 : decode cX2_takesSign 75 = .ok (.getfield 14, 3) := by decide +kernel
theorem dX2_takesSign_78 : decode cX2_takesSign 78 = .ok (.iconst 4, 1) := by decide +kernel
theorem dX2_takesSign_79 : decode cX2_takesSign 79 = .ok (.if_icmp .ne 18, 3) := by decide +kernel
theorem dX2_takesSign_82 : decode cX2_takesSign 82 = .ok (.aload_n 0, 1) := by decide +kernel
theorem dX2_takesSign_83 : decode cX2_takesSign 83 = .ok (.aload_n 0, 1) := by decide +kernel
theorem dX2_takesSign_84 : decode cX2_takesSign 84 = .ok (.getfield 18, 3) := by decide +kernel
theorem dX2_takesSign_87 : decode cX2_takesSign 87 = .ok (.putfield 24, 3) := by decide +kernel
theorem dX2_takesSign_90 : decode cX2_takesSign 90 = .ok (.aload_n 0, 1) := by decide +kernel
theorem dX2_takesSign_91 : decode cX2_takesSign 91 = .ok (.iconst 5, 1) := by decide +kernel
theorem dX2_takesSign_92 : decode cX2_takesSign 92 = .ok (.putfield 14, 3) := by decide +kernel
theorem dX2_takesSign_95 : decode cX2_takesSign 95 = .ok (.iconst 1, 1) := by decide +kernel
theorem dX2_takesSign_96 : decode cX2_takesSign 96 = .ok (.ireturn, 1) := by decide +kernel
theorem dX2_takesSign_97 : decode cX2_takesSign 97 = .ok (.iload_n 1, 1) := by decide +kernel
theorem dX2_takesSign_98 : decode cX2_takesSign 98 = .ok (.bipush 59, 2) := by decide +kernel
theorem dX2_takesSign_100 : decode cX2_takesSign 100 = .ok (.if_icmp .ne 19, 3) := by decide +kernel
theorem dX2_takesSign_103 : decode cX2_takesSign 103 = .ok (.aload_n 0, 1) := by decide +kernel
theorem dX2_takesSign_104 : decode cX2_takesSign 104 = .ok (.getfield 14, 3) := by decide +kernel
theorem dX2_takesSign_107 : decode cX2_takesSign 107 = .ok (.bipush 6, 2) := by decide +kernel
theorem dX2_takesSign_109 : decode cX2_takesSign 109 = .ok (.if_icmp .ne 10, 3) := by decide +kernel
theorem dX2_takesSign_112 : decode cX2_takesSign 112 = .ok (.aload_n 0, 1) := by decide +kernel
theorem dX2_takesSign_113 : decode cX2_takesSign 113 = .ok (.iconst 0, 1) := by decide +kernel
theorem dX2_takesSign_114 : decode cX2_takesSign 114 = .ok (.putfield 14, 3) := by decide +kernel
theorem dX2_takesSign_117 : decode cX2_takesSign 117 = .ok (.iconst 1, 1) := by decide +kernel
theorem dX2_takesSign_118 : decode cX2_takesSign 118 = .ok (.ireturn, 1) := by decide +kernel
theorem dX2_takesSign_119 : decode cX2_takesSign 119 = .ok (.iconst 0, 1) := by decide +kernel
theorem dX2_takesSign_120 : decode cX2_takesSign 120 = .ok (.ireturn, 1) := by decide +kernel
theorem dX3_init_0 : decode cX3_init 0 = .ok (.aload_n 0, 1) := by decide +kernel
theorem dX3_init_1 : decode cX3_init 1 = .ok (.invokespecial 3, 3) := by decide +kernel
theorem dX3_init_4 : decode cX3_init 4 = .ok (.aload_n 0, 1) := by decide +kernel
theorem dX3_init_5 : decode cX3_init 5 = .ok (.aload_n 1, 1) := by decide +kernel
theorem dX3_init_6 : decode cX3_init 6 = .ok (.putfield 9, 3) := by decide +kernel
theorem dX3_init_9 : decode cX3_init 9 = .ok (.aload_n 0, 1) := by decide +kernel
theorem dX3_init_10 : decode cX3_init 10 = .ok (.bipush 10, 2) := by decide +kernel
theorem dX3_init_12 : decode cX3_init 12 = .ok (.anewarray 15, 3) := by decide +kernel
theorem dX3_init_15 : decode cX3_init 15 = .ok (.putfield 17, 3) := by decide +kernel
theorem dX3_init_18 : decode cX3_init 18 = .ok (.aload_n 0, 1) := by decide +kernel
theorem dX3_init_19 : decode cX3_init 19 = .ok (.bipush 10, 2) := by decide +kernel
theorem dX3_init_21 : decode cX3_init 21 = .ok (.newarray .int, 2) := by decide +kernel
theorem dX3_init_23 : decode cX3_init 23 = .ok (.putfield 21, 3) := by decide +kernel
theorem dX3_init_26 : decode cX3_init 26 = .ok (.aload_n 0, 1) := by decide +kernel
theorem dX3_init_27 : decode cX3_init 27 = .ok (.iconst 0, 1) := by decide +kernel
theorem dX3_init_28 : decode cX3_init 28 = .ok (.putfield 25, 3) := by decide +kernel
theorem dX3_init_31 : decode cX3_init 31 = .ok (.aload_n 0, 1) := by decide +kernel
theorem dX3_init_32 : decode cX3_init 32 = .ok (.iconst 0, 1) := by decide +kernel
theorem dX3_init_33 : decode cX3_init 33 = .ok (.putfield 29, 3) := by decide +kernel
theorem dX3_init_36 : decode cX3_init 36 = .ok (.return_, 1) := by decide +kernel
set_option maxRecDepth 20000 in
theorem ggX3_copyFrom_X3_at : GoodIn wsX3_copyFrom wsX3_at := goodIn_r _ [9, 3, 10, 15, 16, 17, 18, 19] (by decide +kernel) (by decide +kernel)
set_option maxRecDepth 20000 in
theorem gX3_copyFrom_X3_at : GoodIn wsX3_copyFrom (wsV RX3 32 RX3 yX3_at wsX3_at) := goodIn_app (goodIn_of _ (by decide +kernel)) ggX3_copyFrom_X3_at
set_option maxRecDepth 20000 in
theorem ggX3_copyFrom_X3_partnersAt : GoodIn wsX3_copyFrom wsX3_partnersAt := goodIn_r _ [14, 4, 15, 16, 17, 18, 19] (by decide +kernel) (by decide +kernel)
set_option maxRecDepth 20000 in
theorem gX3_copyFrom_X3_partnersAt : GoodIn wsX3_copyFrom (wsV RX3 36 RX3 yX3_partnersAt wsX3_partnersAt) := goodIn_app (goodIn_of _ (by decide +kernel)) ggX3_copyFrom_X3_partnersAt
theorem dX3_copyFrom_0 : decode cX3_copyFrom 0 = .ok (.aload_n 0, 1) := by decide +kernel
theorem dX3_copyFrom_1 : decode cX3_copyFrom 1 = .ok (.aload_n 1, 1) := by decide +kernel
theorem dX3_copyFrom_2 : decode cX3_copyFrom 2 = .ok (.getfield 25, 3) := by decide +kernel
theorem dX3_copyFrom_5 : decode cX3_copyFrom 5 = .ok (.putfield 25, 3) := by decide +kernel
theorem dX3_copyFrom_8 : decode cX3_copyFrom 8 = .ok (.aload_n 0, 1) := by decide +kernel
theorem dX3_copyFrom_9 : decode cX3_copyFrom 9 = .ok (.aload_n 1, 1) := by decide +kernel
theorem dX3_copyFrom_10 : decode cX3_copyFrom 10 = .ok (.getfield 29, 3) := by decide +kernel
theorem dX3_copyFrom_13 : decode cX3_copyFrom 13 = .ok (.putfield 29, 3) := by decide +kernel
theorem dX3_copyFrom_16 : decode cX3_copyFrom 16 = .ok (.iconst 0, 1) := by decide +kernel
theorem dX3_copyFrom_17 : decode cX3_copyFrom 17 = .ok (.istore_n 2, 1) := by decide +kernel
theorem dX3_copyFrom_18 : decode cX3_copyFrom 18 = .ok (.iload_n 2, 1) := by decide +kernel
theorem dX3_copyFrom_19 : decode cX3_copyFrom 19 = .ok (.aload_n 0, 1) := by decide +kernel
theorem dX3_copyFrom_20 : decode cX3_copyFrom 20 = .ok (.getfield 17, 3) := by decide +kernel
theorem dX3_copyFrom_23 : decode cX3_copyFrom 23 = .ok (.arraylength, 1) := by decide +kernel
theorem dX3_copyFrom_24 : decode cX3_copyFrom 24 = .ok (.if_icmp .ge 20, 3) := by decide +kernel
theorem dX3_copyFrom_27 : decode cX3_copyFrom 27 = .ok (.aload_n 0, 1) := by decide +kernel
theorem dX3_copyFrom_28 : decode cX3_copyFrom 28 = .ok (.getfield 17, 3) := by decide +kernel
theorem dX3_copyFrom_31 : decode cX3_copyFrom 31 = .ok (.iload_n 2, 1) := by decide +kernel
theorem dX3_copyFrom_32 : decode cX3_copyFrom 32 = .ok (.aload_n 1, 1) := by decide +kernel
theorem dX3_copyFrom_33 : decode cX3_copyFrom 33 = .ok (.iload_n 2, 1) := by decide +kernel
theorem dX3_copyFrom_34 : decode cX3_copyFrom 34 = .ok (.invokevirtual 32, 3) := by decide +kernel
theorem dX3_copyFrom_37 : decode cX3_copyFrom 37 = .ok (.aastore, 1) := by decide +kernel
theorem dX3_copyFrom_38 : decode cX3_copyFrom 38 = .ok (.iinc 2 1, 3) := by decide +kernel
theorem dX3_copyFrom_41 : decode cX3_copyFrom 41 = .ok (.goto (-23), 3) := by decide +kernel
theorem dX3_copyFrom_44 : decode cX3_copyFrom 44 = .ok (.iconst 0, 1) := by decide +kernel
theorem dX3_copyFrom_45 : decode cX3_copyFrom 45 = .ok (.istore_n 2, 1) := by decide +kernel
theorem dX3_copyFrom_46 : decode cX3_copyFrom 46 = .ok (.iload_n 2, 1) := by decide +kernel
theorem dX3_copyFrom_47 : decode cX3_copyFrom 47 = .ok (.aload_n 0, 1) := by decide +kernel
theorem dX3_copyFrom_48 : decode cX3_copyFrom 48 = .ok (.getfield 21, 3) := by decide +kernel
theorem dX3_copyFrom_51 : decode cX3_copyFrom 51 = .ok (.arraylength, 1) := by decide +kernel
theorem dX3_copyFrom_52 : decode cX3_copyFrom 52 = .ok (.if_icmp .ge 20, 3) := by decide +kernel
theorem dX3_copyFrom_55 : decode cX3_copyFrom 55 = .ok (.aload_n 0, 1) := by decide +kernel
theorem dX3_copyFrom_56 : decode cX3_copyFrom 56 = .ok (.getfield 21, 3) := by decide +kernel
theorem dX3_copyFrom_59 : decode cX3_copyFrom 59 = .ok (.iload_n 2, 1) := by decide +kernel
theorem dX3_copyFrom_60 : decode cX3_copyFrom 60 = .ok (.aload_n 1, 1) := by decide +kernel
theorem dX3_copyFrom_61 : decode cX3_copyFrom 61 = .ok (.iload_n 2, 1) := by decide +kernel
theorem dX3_copyFrom_62 : decode cX3_copyFrom 62 = .ok (.invokevirtual 36, 3) := by decide +kernel
theorem dX3_copyFrom_65 : decode cX3_copyFrom 65 = .ok (.iastore, 1) := by decide +kernel
theorem dX3_copyFrom_66 : decode cX3_copyFrom 66 = .ok (.iinc 2 1, 3) := by decide +kernel
theorem dX3_copyFrom_69 : decode cX3_copyFrom 69 = .ok (.goto (-23), 3) := by decide +kernel
theorem dX3_copyFrom_72 : decode cX3_copyFrom 72 = .ok (.return_, 1) := by decide +kernel
theorem dX3_has_0 : decode cX3_has 0 = .ok (.iload_n 1, 1) := by decide +kernel
theorem dX3_has_1 : decode cX3_has 1 = .ok (.ifCond .lt 15, 3) := by decide +kernel
theorem dX3_has_4 : decode cX3_has 4 = .ok (.iload_n 1, 1) := by decide +kernel
theorem dX3_has_5 : decode cX3_has 5 = .ok (.aload_n 0, 1) := by decide +kernel
theorem dX3_has_6 : decode cX3_has 6 = .ok (.getfield 25, 3) := by decide +kernel
theorem dX3_has_9 : decode cX3_has 9 = .ok (.if_icmp .ge 7, 3) := by decide +kernel
theorem dX3_has_12 : decode cX3_has 12 = .ok (.iconst 1, 1) := by decide +kernel
theorem dX3_has_13 : decode cX3_has 13 = .ok (.goto 4, 3) := by decide +kernel
theorem dX3_has_16 : decode cX3_has 16 = .ok (.iconst 0, 1) := by decide +kernel
theorem dX3_has_17 : decode cX3_has 17 = .ok (.ireturn, 1) := by decide +kernel
set_option maxRecDepth 20000 in
theorem ggX3_isOn_X3_has : GoodIn wsX3_isOn wsX3_has := goodIn_r _ [6, 7, 11, 12, 13, 14, 15] (by decide +kernel) (by decide +kernel)
set_option maxRecDepth 20000 in
theorem gX3_isOn_X3_has : GoodIn wsX3_isOn (wsV RX3 40 RX3 yX3_has wsX3_has) := goodIn_app (goodIn_of _ (by decide +kernel)) ggX3_isOn_X3_has
set_option maxRecDepth 20000 in
theorem ggX3_isOn_X4_bit : GoodIn wsX3_isOn wsX4_bit := goodIn_r _ [10] (by decide +kernel) (by decide +kernel)
set_option maxRecDepth 20000 in
theorem gX3_isOn_X4_bit_n44 : GoodIn wsX3_isOn (wsX4_bit) := ggX3_isOn_X4_bit
theorem dX3_isOn_0 : decode cX3_isOn 0 = .ok (.aload_n 0, 1) := by decide +kernel
theorem dX3_isOn_1 : decode cX3_isOn 1 = .ok (.iload_n 1, 1) := by decide +kernel
theorem dX3_isOn_2 : decode cX3_isOn 2 = .ok (.invokevirtual 40, 3) := by decide +kernel
theorem dX3_isOn_5 : decode cX3_isOn 5 = .ok (.ifCond .eq 19, 3) := by decide +kernel
theorem dX3_isOn_8 : decode cX3_isOn 8 = .ok (.aload_n 0, 1) := by decide +kernel
theorem dX3_isOn_9 : decode cX3_isOn 9 = .ok (.getfield 29, 3) := by decide +kernel
theorem dX3_isOn_12 : decode cX3_isOn 12 = .ok (.iload_n 1, 1) := by decide +kernel
theorem dX3_isOn_13 : decode cX3_isOn 13 = .ok (.invokestatic 44, 3) := by decide +kernel
theorem dX3_isOn_16 : decode cX3_isOn 16 = .ok (.iand, 1) := by decide +kernel
theorem dX3_isOn_17 : decode cX3_isOn 17 = .ok (.ifCond .eq 7, 3) := by decide +kernel
theorem dX3_isOn_20 : decode cX3_isOn 20 = .ok (.iconst 1, 1) := by decide +kernel
theorem dX3_isOn_21 : decode cX3_isOn 21 = .ok (.goto 4, 3) := by decide +kernel
theorem dX3_isOn_24 : decode cX3_isOn 24 = .ok (.iconst 0, 1) := by decide +kernel
theorem dX3_isOn_25 : decode cX3_isOn 25 = .ok (.ireturn, 1) := by decide +kernel
theorem dX3_at_0 : decode cX3_at 0 = .ok (.iload_n 1, 1) := by decide +kernel
theorem dX3_at_1 : decode cX3_at 1 = .ok (.ifCond .lt 21, 3) := by decide +kernel
theorem dX3_at_4 : decode cX3_at 4 = .ok (.iload_n 1, 1) := by decide +kernel
theorem dX3_at_5 : decode cX3_at 5 = .ok (.aload_n 0, 1) := by decide +kernel
theorem dX3_at_6 : decode cX3_at 6 = .ok (.getfield 17, 3) := by decide +kernel
theorem dX3_at_9 : decode cX3_at 9 = .ok (.arraylength, 1) := by decide +kernel
theorem dX3_at_10 : decode cX3_at 10 = .ok (.if_icmp .ge 12, 3) := by decide +kernel
theorem dX3_at_13 : decode cX3_at 13 = .ok (.aload_n 0, 1) := by decide +kernel
theorem dX3_at_14 : decode cX3_at 14 = .ok (.getfield 17, 3) := by decide +kernel
theorem dX3_at_17 : decode cX3_at 17 = .ok (.iload_n 1, 1) := by decide +kernel
theorem dX3_at_18 : decode cX3_at 18 = .ok (.aaload, 1) := by decide +kernel
theorem dX3_at_19 : decode cX3_at 19 = .ok (.ifnonnull 8, 3) := by decide +kernel
theorem dX3_at_22 : decode cX3_at 22 = .ok (.aload_n 0, 1) := by decide +kernel
theorem dX3_at_23 : decode cX3_at 23 = .ok (.getfield 9, 3) := by decide +kernel
theorem dX3_at_26 : decode cX3_at 26 = .ok (.areturn, 1) := by decide +kernel
theorem dX3_at_27 : decode cX3_at 27 = .ok (.aload_n 0, 1) := by decide +kernel
theorem dX3_at_28 : decode cX3_at 28 = .ok (.getfield 17, 3) := by decide +kernel
theorem dX3_at_31 : decode cX3_at 31 = .ok (.iload_n 1, 1) := by decide +kernel
theorem dX3_at_32 : decode cX3_at 32 = .ok (.aaload, 1) := by decide +kernel
theorem dX3_at_33 : decode cX3_at 33 = .ok (.areturn, 1) := by decide +kernel
theorem dX3_partnersAt_0 : decode cX3_partnersAt 0 = .ok (.iload_n 1, 1) := by decide +kernel
theorem dX3_partnersAt_1 : decode cX3_partnersAt 1 = .ok (.ifCond .lt 21, 3) := by decide +kernel
theorem dX3_partnersAt_4 : decode cX3_partnersAt 4 = .ok (.iload_n 1, 1) := by decide +kernel
theorem dX3_partnersAt_5 : decode cX3_partnersAt 5 = .ok (.aload_n 0, 1) := by decide +kernel
theorem dX3_partnersAt_6 : decode cX3_partnersAt 6 = .ok (.getfield 21, 3) := by decide +kernel
theorem dX3_partnersAt_9 : decode cX3_partnersAt 9 = .ok (.arraylength, 1) := by decide +kernel
theorem dX3_partnersAt_10 : decode cX3_partnersAt 10 = .ok (.if_icmp .ge 12, 3) := by decide +kernel
theorem dX3_partnersAt_13 : decode cX3_partnersAt 13 = .ok (.aload_n 0, 1) := by decide +kernel
theorem dX3_partnersAt_14 : decode cX3_partnersAt 14 = .ok (.getfield 21, 3) := by decide +kernel
theorem dX3_partnersAt_17 : decode cX3_partnersAt 17 = .ok (.iload_n 1, 1) := by decide +kernel
theorem dX3_partnersAt_18 : decode cX3_partnersAt 18 = .ok (.iaload, 1) := by decide +kernel
theorem dX3_partnersAt_19 : decode cX3_partnersAt 19 = .ok (.goto 4, 3) := by decide +kernel
theorem dX3_partnersAt_22 : decode cX3_partnersAt 22 = .ok (.iconst 0, 1) := by decide +kernel
theorem dX3_partnersAt_23 : decode cX3_partnersAt 23 = .ok (.ireturn, 1) := by decide +kernel
set_option maxRecDepth 20000 in
theorem ggX3_partnersOf_X3_at : GoodIn wsX3_partnersOf wsX3_at := goodIn_r _ [6, 7, 8, 27, 28, 29, 30, 31] (by decide +kernel) (by decide +kernel)
set_option maxRecDepth 20000 in
theorem gX3_partnersOf_X3_at : GoodIn wsX3_partnersOf (wsV RX3 32 RX3 yX3_at wsX3_at) := goodIn_app (goodIn_of _ (by decide +kernel)) ggX3_partnersOf_X3_at
set_option maxRecDepth 20000 in
theorem ggX3_partnersOf_X0_isPartnerOf : GoodIn wsX3_partnersOf wsX0_isPartnerOf := goodIn_r _ [13, 14, 15, 16, 17, 18, 12, 19, 20, 21, 22, 23, 24, 32, 33, 34, 35, 36] (by decide +kernel) (by decide +kernel)
set_option maxRecDepth 20000 in
theorem gX3_partnersOf_X0_isPartnerOf : GoodIn wsX3_partnersOf (wsV RX3 47 RX0 yX0_isPartnerOf wsX0_isPartnerOf) := goodIn_app (goodIn_of _ (by decide +kernel)) ggX3_partnersOf_X0_isPartnerOf
set_option maxRecDepth 20000 in
theorem ggX3_partnersOf_X4_bit : GoodIn wsX3_partnersOf wsX4_bit := goodIn_r _ [26] (by decide +kernel) (by decide +kernel)
set_option maxRecDepth 20000 in
theorem gX3_partnersOf_X4_bit_n44 : GoodIn wsX3_partnersOf (wsX4_bit) := ggX3_partnersOf_X4_bit
theorem dX3_partnersOf_0 : decode cX3_partnersOf 0 = .ok (.iconst 0, 1) := by decide +kernel
theorem dX3_partnersOf_1 : decode cX3_partnersOf 1 = .ok (.istore_n 2, 1) := by decide +kernel
theorem dX3_partnersOf_2 : decode cX3_partnersOf 2 = .ok (.iconst 0, 1) := by decide +kernel
theorem dX3_partnersOf_3 : decode cX3_partnersOf 3 = .ok (.istore_n 3, 1) := by decide +kernel
theorem dX3_partnersOf_4 : decode cX3_partnersOf 4 = .ok (.iload_n 3, 1) := by decide +kernel
theorem dX3_partnersOf_5 : decode cX3_partnersOf 5 = .ok (.aload_n 0, 1) := by decide +kernel
theorem dX3_partnersOf_6 : decode cX3_partnersOf 6 = .ok (.getfield 25, 3) := by decide +kernel
theorem dX3_partnersOf_9 : decode cX3_partnersOf 9 = .ok (.if_icmp .ge 28, 3) := by decide +kernel
theorem dX3_partnersOf_12 : decode cX3_partnersOf 12 = .ok (.aload_n 1, 1) := by decide +kernel
theorem dX3_partnersOf_13 : decode cX3_partnersOf 13 = .ok (.aload_n 0, 1) := by decide +kernel
theorem dX3_partnersOf_14 : decode cX3_partnersOf 14 = .ok (.iload_n 3, 1) := by decide +kernel
theorem dX3_partnersOf_15 : decode cX3_partnersOf 15 = .ok (.invokevirtual 32, 3) := by decide +kernel
theorem dX3_partnersOf_18 : decode cX3_partnersOf 18 = .ok (.invokevirtual 47, 3) := by decide +kernel
theorem dX3_partnersOf_21 : decode cX3_partnersOf 21 = .ok (.ifCond .eq 10, 3) := by decide +kernel
theorem dX3_partnersOf_24 : decode cX3_partnersOf 24 = .ok (.iload_n 2, 1) := by decide +kernel
theorem dX3_partnersOf_25 : decode cX3_partnersOf 25 = .ok (.iload_n 3, 1) := by decide +kernel
theorem dX3_partnersOf_26 : decode cX3_partnersOf 26 = .ok (.invokestatic 44, 3) := by decide +kernel
theorem dX3_partnersOf_29 : decode cX3_partnersOf 29 = .ok (.ior, 1) := by decide +kernel
theorem dX3_partnersOf_30 : decode cX3_partnersOf 30 = .ok (.istore_n 2, 1) := by decide +kernel
theorem dX3_partnersOf_31 : decode cX3_partnersOf 31 = .ok (.iinc 3 1, 3) := by decide +kernel
theorem dX3_partnersOf_34 : decode cX3_partnersOf 34 = .ok (.goto (-30), 3) := by decide +kernel
theorem dX3_partnersOf_37 : decode cX3_partnersOf 37 = .ok (.iload_n 2, 1) := by decide +kernel
theorem dX3_partnersOf_38 : decode cX3_partnersOf 38 = .ok (.ireturn, 1) := by decide +kernel
set_option maxRecDepth 20000 in
theorem ggX3_put_X3_replace : GoodIn wsX3_put wsX3_replace := goodIn_r _ [7, 8, 41, 42, 43, 44, 45] (by decide +kernel) (by decide +kernel)
set_option maxRecDepth 20000 in
theorem gX3_put_X3_replace : GoodIn wsX3_put (wsV RX3 51 RX3 yX3_replace wsX3_replace) := goodIn_app (goodIn_of _ (by decide +kernel)) ggX3_put_X3_replace
set_option maxRecDepth 20000 in
theorem ggX3_put_X4_bit : GoodIn wsX3_put wsX4_bit := goodIn_r _ [11] (by decide +kernel) (by decide +kernel)
set_option maxRecDepth 20000 in
theorem gX3_put_X4_bit_n44 : GoodIn wsX3_put (wsX4_bit) := ggX3_put_X4_bit
set_option maxRecDepth 20000 in
theorem ggX3_put_X3_findPartners : GoodIn wsX3_put wsX3_findPartners := goodIn_r _ [15, 16, 1, 17, 18, 19, 6, 20, 8, 21, 22, 23, 24, 25, 26, 27, 28, 29, 30, 31, 32, 33, 34, 35, 36, 37, 10, 38, 39, 40, 9, 11, 41, 42, 43, 44, 45, 46, 47, 48, 49, 50] (by decide +kernel) (by decide +kernel)
set_option maxRecDepth 20000 in
theorem gX3_put_X3_findPartners : GoodIn wsX3_put (wsV RX3 55 RX3 yX3_findPartners wsX3_findPartners) := goodIn_app (goodIn_of _ (by decide +kernel)) ggX3_put_X3_findPartners
theorem dX3_put_0 : decode cX3_put 0 = .ok (.aload_n 0, 1) := by decide +kernel
theorem dX3_put_1 : decode cX3_put 1 = .ok (.getfield 25, 3) := by decide +kernel
theorem dX3_put_4 : decode cX3_put 4 = .ok (.istore_n 2, 1) := by decide +kernel
theorem dX3_put_5 : decode cX3_put 5 = .ok (.aload_n 0, 1) := by decide +kernel
theorem dX3_put_6 : decode cX3_put 6 = .ok (.iload_n 2, 1) := by decide +kernel
theorem dX3_put_7 : decode cX3_put 7 = .ok (.aload_n 1, 1) := by decide +kernel
theorem dX3_put_8 : decode cX3_put 8 = .ok (.invokevirtual 51, 3) := by decide +kernel
theorem dX3_put_11 : decode cX3_put 11 = .ok (.aload_n 0, 1) := by decide +kernel
theorem dX3_put_12 : decode cX3_put 12 = .ok (.dup, 1) := by decide +kernel
theorem dX3_put_13 : decode cX3_put 13 = .ok (.getfield 25, 3) := by decide +kernel
theorem dX3_put_16 : decode cX3_put 16 = .ok (.iconst 1, 1) := by decide +kernel
theorem dX3_put_17 : decode cX3_put 17 = .ok (.iadd, 1) := by decide +kernel
theorem dX3_put_18 : decode cX3_put 18 = .ok (.putfield 25, 3) := by decide +kernel
theorem dX3_put_21 : decode cX3_put 21 = .ok (.aload_n 0, 1) := by decide +kernel
theorem dX3_put_22 : decode cX3_put 22 = .ok (.dup, 1) := by decide +kernel
theorem dX3_put_23 : decode cX3_put 23 = .ok (.getfield 29, 3) := by decide +kernel
theorem dX3_put_26 : decode cX3_put 26 = .ok (.iload_n 2, 1) := by decide +kernel
theorem dX3_put_27 : decode cX3_put 27 = .ok (.invokestatic 44, 3) := by decide +kernel
theorem dX3_put_30 : decode cX3_put 30 = .ok (.ior, 1) := by decide +kernel
theorem dX3_put_31 : decode cX3_put 31 = .ok (.putfield 29, 3) := by decide +kernel
theorem dX3_put_34 : decode cX3_put 34 = .ok (.aload_n 0, 1) := by decide +kernel
theorem dX3_put_35 : decode cX3_put 35 = .ok (.invokevirtual 55, 3) := by decide +kernel
theorem dX3_put_38 : decode cX3_put 38 = .ok (.iload_n 2, 1) := by decide +kernel
theorem dX3_put_39 : decode cX3_put 39 = .ok (.ireturn, 1) := by decide +kernel
theorem dX3_replace_0 : decode cX3_replace 0 = .ok (.iload_n 1, 1) := by decide +kernel
theorem dX3_replace_1 : decode cX3_replace 1 = .ok (.ifCond .lt 19, 3) := by decide +kernel
theorem dX3_replace_4 : decode cX3_replace 4 = .ok (.iload_n 1, 1) := by decide +kernel
theorem dX3_replace_5 : decode cX3_replace 5 = .ok (.aload_n 0, 1) := by decide +kernel
theorem dX3_replace_6 : decode cX3_replace 6 = .ok (.getfield 17, 3) := by decide +kernel
theorem dX3_replace_9 : decode cX3_replace 9 = .ok (.arraylength, 1) := by decide +kernel
theorem dX3_replace_10 : decode cX3_replace 10 = .ok (.if_icmp .ge 10, 3) := by decide +kernel
theorem dX3_replace_13 : decode cX3_replace 13 = .ok (.aload_n 0, 1) := by decide +kernel
theorem dX3_replace_14 : decode cX3_replace 14 = .ok (.getfield 17, 3) := by decide +kernel
theorem dX3_replace_17 : decode cX3_replace 17 = .ok (.iload_n 1, 1) := by decide +kernel
theorem dX3_replace_18 : decode cX3_replace 18 = .ok (.aload_n 2, 1) := by decide +kernel
theorem dX3_replace_19 : decode cX3_replace 19 = .ok (.aastore, 1) := by decide +kernel
theorem dX3_replace_20 : decode cX3_replace 20 = .ok (.return_, 1) := by decide +kernel
set_option maxRecDepth 20000 in
theorem ggX3_drop_X3_at : GoodIn wsX3_drop wsX3_at := goodIn_r _ [7, 8, 9, 41, 42, 43, 44, 45] (by decide +kernel) (by decide +kernel)
set_option maxRecDepth 20000 in
theorem gX3_drop_X3_at : GoodIn wsX3_drop (wsV RX3 32 RX3 yX3_at wsX3_at) := goodIn_app (goodIn_of _ (by decide +kernel)) ggX3_drop_X3_at
set_option maxRecDepth 20000 in
theorem ggX3_drop_X3_replace : GoodIn wsX3_drop wsX3_replace := goodIn_r _ [13, 8, 41, 42, 43, 44, 45] (by decide +kernel) (by decide +kernel)
set_option maxRecDepth 20000 in
theorem gX3_drop_X3_replace : GoodIn wsX3_drop (wsV RX3 51 RX3 yX3_replace wsX3_replace) := goodIn_app (goodIn_of _ (by decide +kernel)) ggX3_drop_X3_replace
set_option maxRecDepth 20000 in
theorem ggX3_drop_X4_bit : GoodIn wsX3_drop wsX4_bit := goodIn_r _ [16] (by decide +kernel) (by decide +kernel)
set_option maxRecDepth 20000 in
theorem gX3_drop_X4_bit_n44 : GoodIn wsX3_drop (wsX4_bit) := ggX3_drop_X4_bit
set_option maxRecDepth 20000 in
theorem ggX3_drop_X3_findPartners : GoodIn wsX3_drop wsX3_findPartners := goodIn_r _ [20, 21, 1, 3, 4, 5, 6, 7, 8, 9, 22, 23, 24, 25, 26, 27, 28, 29, 30, 31, 32, 33, 34, 35, 36, 37, 15, 38, 39, 40, 14, 16, 41, 42, 43, 44, 45, 46, 47, 48, 49, 50] (by decide +kernel) (by decide +kernel)
set_option maxRecDepth 20000 in
theorem gX3_drop_X3_findPartners : GoodIn wsX3_drop (wsV RX3 55 RX3 yX3_findPartners wsX3_findPartners) := goodIn_app (goodIn_of _ (by decide +kernel)) ggX3_drop_X3_findPartners
theorem dX3_drop_0 : decode cX3_drop 0 = .ok (.iload_n 1, 1) := by decide +kernel
theorem dX3_drop_1 : decode cX3_drop 1 = .ok (.istore_n 2, 1) := by decide +kernel
theorem dX3_drop_2 : decode cX3_drop 2 = .ok (.iload_n 2, 1) := by decide +kernel
theorem dX3_drop_3 : decode cX3_drop 3 = .ok (.aload_n 0, 1) := by decide +kernel
theorem dX3_drop_4 : decode cX3_drop 4 = .ok (.getfield 25, 3) := by decide +kernel
theorem dX3_drop_7 : decode cX3_drop 7 = .ok (.if_icmp .ge 21, 3) := by decide +kernel
theorem dX3_drop_10 : decode cX3_drop 10 = .ok (.aload_n 0, 1) := by decide +kernel
theorem dX3_drop_11 : decode cX3_drop 11 = .ok (.iload_n 2, 1) := by decide +kernel
theorem dX3_drop_12 : decode cX3_drop 12 = .ok (.aload_n 0, 1) := by decide +kernel
theorem dX3_drop_13 : decode cX3_drop 13 = .ok (.iload_n 2, 1) := by decide +kernel
theorem dX3_drop_14 : decode cX3_drop 14 = .ok (.iconst 1, 1) := by decide +kernel
theorem dX3_drop_15 : decode cX3_drop 15 = .ok (.iadd, 1) := by decide +kernel
theorem dX3_drop_16 : decode cX3_drop 16 = .ok (.invokevirtual 32, 3) := by decide +kernel
theorem dX3_drop_19 : decode cX3_drop 19 = .ok (.invokevirtual 51, 3) := by decide +kernel
theorem dX3_drop_22 : decode cX3_drop 22 = .ok (.iinc 2 1, 3) := by decide +kernel
theorem dX3_drop_25 : decode cX3_drop 25 = .ok (.goto (-23), 3) := by decide +kernel
theorem dX3_drop_28 : decode cX3_drop 28 = .ok (.iload_n 1, 1) := by decide +kernel
theorem dX3_drop_29 : decode cX3_drop 29 = .ok (.invokestatic 44, 3) := by decide +kernel
theorem dX3_drop_32 : decode cX3_drop 32 = .ok (.iconst 1, 1) := by decide +kernel
theorem dX3_drop_33 : decode cX3_drop 33 = .ok (.isub, 1) := by decide +kernel
theorem dX3_drop_34 : decode cX3_drop 34 = .ok (.istore_n 2, 1) := by decide +kernel
theorem dX3_drop_35 : decode cX3_drop 35 = .ok (.aload_n 0, 1) := by decide +kernel
theorem dX3_drop_36 : decode cX3_drop 36 = .ok (.aload_n 0, 1) := by decide +kernel
theorem dX3_drop_37 : decode cX3_drop 37 = .ok (.getfield 29, 3) := by decide +kernel
theorem dX3_drop_40 : decode cX3_drop 40 = .ok (.iload_n 2, 1) := by decide +kernel
theorem dX3_drop_41 : decode cX3_drop 41 = .ok (.iand, 1) := by decide +kernel
theorem dX3_drop_42 : decode cX3_drop 42 = .ok (.aload_n 0, 1) := by decide +kernel
theorem dX3_drop_43 : decode cX3_drop 43 = .ok (.getfield 29, 3) := by decide +kernel
theorem dX3_drop_46 : decode cX3_drop 46 = .ok (.iconst 1, 1) := by decide +kernel
theorem dX3_drop_47 : decode cX3_drop 47 = .ok (.ishr, 1) := by decide +kernel
theorem dX3_drop_48 : decode cX3_drop 48 = .ok (.iload_n 2, 1) := by decide +kernel
theorem dX3_drop_49 : decode cX3_drop 49 = .ok (.iconst (-1), 1) := by decide +kernel
theorem dX3_drop_50 : decode cX3_drop 50 = .ok (.ixor, 1) := by decide +kernel
theorem dX3_drop_51 : decode cX3_drop 51 = .ok (.iand, 1) := by decide +kernel
theorem dX3_drop_52 : decode cX3_drop 52 = .ok (.ior, 1) := by decide +kernel
theorem dX3_drop_53 : decode cX3_drop 53 = .ok (.putfield 29, 3) := by decide +kernel
theorem dX3_drop_56 : decode cX3_drop 56 = .ok (.aload_n 0, 1) := by decide +kernel
theorem dX3_drop_57 : decode cX3_drop 57 = .ok (.dup, 1) := by decide +kernel
theorem dX3_drop_58 : decode cX3_drop 58 = .ok (.getfield 25, 3) := by decide +kernel
theorem dX3_drop_61 : decode cX3_drop 61 = .ok (.iconst 1, 1) := by decide +kernel
theorem dX3_drop_62 : decode cX3_drop 62 = .ok (.isub, 1) := by decide +kernel
theorem dX3_drop_63 : decode cX3_drop 63 = .ok (.putfield 25, 3) := by decide +kernel
theorem dX3_drop_66 : decode cX3_drop 66 = .ok (.aload_n 0, 1) := by decide +kernel
theorem dX3_drop_67 : decode cX3_drop 67 = .ok (.invokevirtual 55, 3) := by decide +kernel
theorem dX3_drop_70 : decode cX3_drop 70 = .ok (.return_, 1) := by decide +kernel
set_option maxRecDepth 20000 in
theorem ggX3_findPartners_X3_at : GoodIn wsX3_findPartners wsX3_at := goodIn_r _ [7, 8, 9, 32, 33, 34, 35, 36] (by decide +kernel) (by decide +kernel)
set_option maxRecDepth 20000 in
theorem gX3_findPartners_X3_at : GoodIn wsX3_findPartners (wsV RX3 32 RX3 yX3_at wsX3_at) := goodIn_app (goodIn_of _ (by decide +kernel)) ggX3_findPartners_X3_at
set_option maxRecDepth 20000 in
theorem ggX3_findPartners_X3_partnersOf : GoodIn wsX3_findPartners wsX3_partnersOf := goodIn_r _ [13, 2, 3, 4, 5, 6, 7, 8, 9, 14, 15, 16, 17, 18, 19, 20, 21, 22, 23, 24, 25, 26, 27, 28, 29, 30, 31, 32, 33, 34, 35, 36, 37, 38, 39, 40, 41] (by decide +kernel) (by decide +kernel)
set_option maxRecDepth 20000 in
theorem gX3_findPartners_X3_partnersOf : GoodIn wsX3_findPartners (wsV RX3 58 RX3 yX3_partnersOf wsX3_partnersOf) := goodIn_app (goodIn_of _ (by decide +kernel)) ggX3_findPartners_X3_partnersOf
theorem dX3_findPartners_0 : decode cX3_findPartners 0 = .ok (.iconst 0, 1) := by decide +kernel
theorem dX3_findPartners_1 : decode cX3_findPartners 1 = .ok (.istore_n 1, 1) := by decide +kernel
theorem dX3_findPartners_2 : decode cX3_findPartners 2 = .ok (.iload_n 1, 1) := by decide +kernel
theorem dX3_findPartners_3 : decode cX3_findPartners 3 = .ok (.aload_n 0, 1) := by decide +kernel
theorem dX3_findPartners_4 : decode cX3_findPartners 4 = .ok (.getfield 21, 3) := by decide +kernel
theorem dX3_findPartners_7 : decode cX3_findPartners 7 = .ok (.arraylength, 1) := by decide +kernel
theorem dX3_findPartners_8 : decode cX3_findPartners 8 = .ok (.if_icmp .ge 36, 3) := by decide +kernel
theorem dX3_findPartners_11 : decode cX3_findPartners 11 = .ok (.aload_n 0, 1) := by decide +kernel
theorem dX3_findPartners_12 : decode cX3_findPartners 12 = .ok (.getfield 21, 3) := by decide +kernel
theorem dX3_findPartners_15 : decode cX3_findPartners 15 = .ok (.iload_n 1, 1) := by decide +kernel
theorem dX3_findPartners_16 : decode cX3_findPartners 16 = .ok (.iload_n 1, 1) := by decide +kernel
theorem dX3_findPartners_17 : decode cX3_findPartners 17 = .ok (.aload_n 0, 1) := by decide +kernel
theorem dX3_findPartners_18 : decode cX3_findPartners 18 = .ok (.getfield 25, 3) := by decide +kernel
theorem dX3_findPartners_21 : decode cX3_findPartners 21 = .ok (.if_icmp .ge 15, 3) := by decide +kernel
theorem dX3_findPartners_24 : decode cX3_findPartners 24 = .ok (.aload_n 0, 1) := by decide +kernel
theorem dX3_findPartners_25 : decode cX3_findPartners 25 = .ok (.aload_n 0, 1) := by decide +kernel
theorem dX3_findPartners_26 : decode cX3_findPartners 26 = .ok (.iload_n 1, 1) := by decide +kernel
theorem dX3_findPartners_27 : decode cX3_findPartners 27 = .ok (.invokevirtual 32, 3) := by decide +kernel
theorem dX3_findPartners_30 : decode cX3_findPartners 30 = .ok (.invokevirtual 58, 3) := by decide +kernel
theorem dX3_findPartners_33 : decode cX3_findPartners 33 = .ok (.goto 4, 3) := by decide +kernel
theorem dX3_findPartners_36 : decode cX3_findPartners 36 = .ok (.iconst 0, 1) := by decide +kernel
theorem dX3_findPartners_37 : decode cX3_findPartners 37 = .ok (.iastore, 1) := by decide +kernel
theorem dX3_findPartners_38 : decode cX3_findPartners 38 = .ok (.iinc 1 1, 3) := by decide +kernel
theorem dX3_findPartners_41 : decode cX3_findPartners 41 = .ok (.goto (-39), 3) := by decide +kernel
theorem dX3_findPartners_44 : decode cX3_findPartners 44 = .ok (.return_, 1) := by decide +kernel
set_option maxRecDepth 20000 in
theorem ggX3_voidOnes_X3_at : GoodIn wsX3_voidOnes wsX3_at := goodIn_r _ [6, 7, 8, 15, 16, 17, 18, 19] (by decide +kernel) (by decide +kernel)
set_option maxRecDepth 20000 in
theorem gX3_voidOnes_X3_at : GoodIn wsX3_voidOnes (wsV RX3 32 RX3 yX3_at wsX3_at) := goodIn_app (goodIn_of _ (by decide +kernel)) ggX3_voidOnes_X3_at
set_option maxRecDepth 20000 in
theorem ggX3_voidOnes_X0_isVoid : GoodIn wsX3_voidOnes wsX0_isVoid := goodIn_r _ [13, 14, 20, 21, 22, 23, 24] (by decide +kernel) (by decide +kernel)
set_option maxRecDepth 20000 in
theorem gX3_voidOnes_X0_isVoid : GoodIn wsX3_voidOnes (wsV RX3 62 RX0 yX0_isVoid wsX0_isVoid) := goodIn_app (goodIn_of _ (by decide +kernel)) ggX3_voidOnes_X0_isVoid
theorem dX3_voidOnes_0 : decode cX3_voidOnes 0 = .ok (.iconst 0, 1) := by decide +kernel
theorem dX3_voidOnes_1 : decode cX3_voidOnes 1 = .ok (.istore_n 1, 1) := by decide +kernel
theorem dX3_voidOnes_2 : decode cX3_voidOnes 2 = .ok (.iconst 0, 1) := by decide +kernel
theorem dX3_voidOnes_3 : decode cX3_voidOnes 3 = .ok (.istore_n 2, 1) := by decide +kernel
theorem dX3_voidOnes_4 : decode cX3_voidOnes 4 = .ok (.iload_n 2, 1) := by decide +kernel
theorem dX3_voidOnes_5 : decode cX3_voidOnes 5 = .ok (.aload_n 0, 1) := by decide +kernel
theorem dX3_voidOnes_6 : decode cX3_voidOnes 6 = .ok (.getfield 25, 3) := by decide +kernel
theorem dX3_voidOnes_9 : decode cX3_voidOnes 9 = .ok (.if_icmp .ge 23, 3) := by decide +kernel
theorem dX3_voidOnes_12 : decode cX3_voidOnes 12 = .ok (.aload_n 0, 1) := by decide +kernel
theorem dX3_voidOnes_13 : decode cX3_voidOnes 13 = .ok (.iload_n 2, 1) := by decide +kernel
theorem dX3_voidOnes_14 : decode cX3_voidOnes 14 = .ok (.invokevirtual 32, 3) := by decide +kernel
theorem dX3_voidOnes_17 : decode cX3_voidOnes 17 = .ok (.invokevirtual 62, 3) := by decide +kernel
theorem dX3_voidOnes_20 : decode cX3_voidOnes 20 = .ok (.ifCond .eq 6, 3) := by decide +kernel
theorem dX3_voidOnes_23 : decode cX3_voidOnes 23 = .ok (.iinc 1 1, 3) := by decide +kernel
theorem dX3_voidOnes_26 : decode cX3_voidOnes 26 = .ok (.iinc 2 1, 3) := by decide +kernel
theorem dX3_voidOnes_29 : decode cX3_voidOnes 29 = .ok (.goto (-25), 3) := by decide +kernel
theorem dX3_voidOnes_32 : decode cX3_voidOnes 32 = .ok (.iload_n 1, 1) := by decide +kernel
theorem dX3_voidOnes_33 : decode cX3_voidOnes 33 = .ok (.ireturn, 1) := by decide +kernel
set_option maxRecDepth 20000 in
theorem ggX3_arePossible_X4_bit : GoodIn wsX3_arePossible wsX4_bit := goodIn_r _ [4] (by decide +kernel) (by decide +kernel)
set_option maxRecDepth 20000 in
theorem gX3_arePossible_X4_bit_n44 : GoodIn wsX3_arePossible (wsX4_bit) := ggX3_arePossible_X4_bit
set_option maxRecDepth 20000 in
theorem ggX3_arePossible_X3_partnersAt : GoodIn wsX3_arePossible wsX3_partnersAt := goodIn_r _ [9, 10, 11, 12, 13, 14, 15] (by decide +kernel) (by decide +kernel)
set_option maxRecDepth 20000 in
theorem gX3_arePossible_X3_partnersAt : GoodIn wsX3_arePossible (wsV RX3 36 RX3 yX3_partnersAt wsX3_partnersAt) := goodIn_app (goodIn_of _ (by decide +kernel)) ggX3_arePossible_X3_partnersAt
theorem dX3_arePossible_0 : decode cX3_arePossible 0 = .ok (.iconst 0, 1) := by decide +kernel
theorem dX3_arePossible_1 : decode cX3_arePossible 1 = .ok (.istore_n 2, 1) := by decide +kernel
theorem dX3_arePossible_2 : decode cX3_arePossible 2 = .ok (.iload_n 2, 1) := by decide +kernel
theorem dX3_arePossible_3 : decode cX3_arePossible 3 = .ok (.aload_n 0, 1) := by decide +kernel
theorem dX3_arePossible_4 : decode cX3_arePossible 4 = .ok (.getfield 25, 3) := by decide +kernel
theorem dX3_arePossible_7 : decode cX3_arePossible 7 = .ok (.if_icmp .ge 32, 3) := by decide +kernel
theorem dX3_arePossible_10 : decode cX3_arePossible 10 = .ok (.iload_n 1, 1) := by decide +kernel
theorem dX3_arePossible_11 : decode cX3_arePossible 11 = .ok (.iload_n 2, 1) := by decide +kernel
theorem dX3_arePossible_12 : decode cX3_arePossible 12 = .ok (.invokestatic 44, 3) := by decide +kernel
theorem dX3_arePossible_15 : decode cX3_arePossible 15 = .ok (.iand, 1) := by decide +kernel
theorem dX3_arePossible_16 : decode cX3_arePossible 16 = .ok (.ifCond .eq 17, 3) := by decide +kernel
theorem dX3_arePossible_19 : decode cX3_arePossible 19 = .ok (.iload_n 1, 1) := by decide +kernel
theorem dX3_arePossible_20 : decode cX3_arePossible 20 = .ok (.aload_n 0, 1) := by decide +kernel
theorem dX3_arePossible_21 : decode cX3_arePossible 21 = .ok (.iload_n 2, 1) := by decide +kernel
theorem dX3_arePossible_22 : decode cX3_arePossible 22 = .ok (.invokevirtual 36, 3) := by decide +kernel
theorem dX3_arePossible_25 : decode cX3_arePossible 25 = .ok (.iconst (-1), 1) := by decide +kernel
theorem dX3_arePossible_26 : decode cX3_arePossible 26 = .ok (.ixor, 1) := by decide +kernel
theorem dX3_arePossible_27 : decode cX3_arePossible 27 = .ok (.iand, 1) := by decide +kernel
theorem dX3_arePossible_28 : decode cX3_arePossible 28 = .ok (.ifCond .eq 5, 3) := by decide +kernel
theorem dX3_arePossible_31 : decode cX3_arePossible 31 = .ok (.iconst 0, 1) := by decide +kernel
theorem dX3_arePossible_32 : decode cX3_arePossible 32 = .ok (.ireturn, 1) := by decide +kernel
theorem dX3_arePossible_33 : decode cX3_arePossible 33 = .ok (.iinc 2 1, 3) := by decide +kernel
theorem dX3_arePossible_36 : decode cX3_arePossible 36 = .ok (.goto (-34), 3) := by decide +kernel
theorem dX3_arePossible_39 : decode cX3_arePossible 39 = .ok (.iconst 1, 1) := by decide +kernel
theorem dX3_arePossible_40 : decode cX3_arePossible 40 = .ok (.ireturn, 1) := by decide +kernel
set_option maxRecDepth 20000 in
theorem ggX3_contradictions_X4_bit : GoodIn wsX3_contradictions wsX4_bit := goodIn_r _ [4] (by decide +kernel) (by decide +kernel)
set_option maxRecDepth 20000 in
theorem gX3_contradictions_X4_bit_n44 : GoodIn wsX3_contradictions (wsX4_bit) := ggX3_contradictions_X4_bit
set_option maxRecDepth 20000 in
theorem ggX3_contradictions_X3_partnersAt : GoodIn wsX3_contradictions wsX3_partnersAt := goodIn_r _ [9, 10, 18, 19, 20, 21, 22] (by decide +kernel) (by decide +kernel)
set_option maxRecDepth 20000 in
theorem gX3_contradictions_X3_partnersAt : GoodIn wsX3_contradictions (wsV RX3 36 RX3 yX3_partnersAt wsX3_partnersAt) := goodIn_app (goodIn_of _ (by decide +kernel)) ggX3_contradictions_X3_partnersAt
set_option maxRecDepth 20000 in
theorem ggX3_contradictions_J6_bitCount_0f7a4 : GoodIn wsX3_contradictions wsJ6_bitCount_0f7a4 := goodIn_r _ [14, 15, 16, 17] (by decide +kernel) (by decide +kernel)
set_option maxRecDepth 20000 in
theorem gX3_contradictions_J6_bitCount_0f7a4 : GoodIn wsX3_contradictions (va_wsS RX3 66 yJ6_bitCount_0f7a4 wsJ6_bitCount_0f7a4) := goodIn_app (goodIn_of _ (by decide +kernel)) ggX3_contradictions_J6_bitCount_0f7a4
theorem dX3_contradictions_0 : decode cX3_contradictions 0 = .ok (.iconst 0, 1) := by decide +kernel
theorem dX3_contradictions_1 : decode cX3_contradictions 1 = .ok (.istore_n 2, 1) := by decide +kernel
theorem dX3_contradictions_2 : decode cX3_contradictions 2 = .ok (.iconst 0, 1) := by decide +kernel
theorem dX3_contradictions_3 : decode cX3_contradictions 3 = .ok (.istore_n 3, 1) := by decide +kernel
theorem dX3_contradictions_4 : decode cX3_contradictions 4 = .ok (.iload_n 3, 1) := by decide +kernel
theorem dX3_contradictions_5 : decode cX3_contradictions 5 = .ok (.aload_n 0, 1) := by decide +kernel
theorem dX3_contradictions_6 : decode cX3_contradictions 6 = .ok (.getfield 25, 3) := by decide +kernel
theorem dX3_contradictions_9 : decode cX3_contradictions 9 = .ok (.if_icmp .ge 44, 3) := by decide +kernel
theorem dX3_contradictions_12 : decode cX3_contradictions 12 = .ok (.iload_n 1, 1) := by decide +kernel
theorem dX3_contradictions_13 : decode cX3_contradictions 13 = .ok (.iload_n 3, 1) := by decide +kernel
theorem dX3_contradictions_14 : decode cX3_contradictions 14 = .ok (.invokestatic 44, 3) := by decide +kernel
theorem dX3_contradictions_17 : decode cX3_contradictions 17 = .ok (.iand, 1) := by decide +kernel
theorem dX3_contradictions_18 : decode cX3_contradictions 18 = .ok (.ifCond .eq 29, 3) := by decide +kernel
theorem dX3_contradictions_21 : decode cX3_contradictions 21 = .ok (.iload_n 1, 1) := by decide +kernel
theorem dX3_contradictions_22 : decode cX3_contradictions 22 = .ok (.iload_n 3, 1) := by decide +kernel
theorem dX3_contradictions_23 : decode cX3_contradictions 23 = .ok (.invokestatic 44, 3) := by decide +kernel
theorem dX3_contradictions_26 : decode cX3_contradictions 26 = .ok (.iconst 1, 1) := by decide +kernel
theorem dX3_contradictions_27 : decode cX3_contradictions 27 = .ok (.isub, 1) := by decide +kernel
theorem dX3_contradictions_28 : decode cX3_contradictions 28 = .ok (.iand, 1) := by decide +kernel
theorem dX3_contradictions_29 : decode cX3_contradictions 29 = .ok (.istore 4, 2) := by decide +kernel
theorem dX3_contradictions_31 : decode cX3_contradictions 31 = .ok (.iload_n 2, 1) := by decide +kernel
theorem dX3_contradictions_32 : decode cX3_contradictions 32 = .ok (.iload 4, 2) := by decide +kernel
theorem dX3_contradictions_34 : decode cX3_contradictions 34 = .ok (.aload_n 0, 1) := by decide +kernel
theorem dX3_contradictions_35 : decode cX3_contradictions 35 = .ok (.iload_n 3, 1) := by decide +kernel
theorem dX3_contradictions_36 : decode cX3_contradictions 36 = .ok (.invokevirtual 36, 3) := by decide +kernel
theorem dX3_contradictions_39 : decode cX3_contradictions 39 = .ok (.iconst (-1), 1) := by decide +kernel
theorem dX3_contradictions_40 : decode cX3_contradictions 40 = .ok (.ixor, 1) := by decide +kernel
theorem dX3_contradictions_41 : decode cX3_contradictions 41 = .ok (.iand, 1) := by decide +kernel
theorem dX3_contradictions_42 : decode cX3_contradictions 42 = .ok (.invokestatic 66, 3) := by decide +kernel
theorem dX3_contradictions_45 : decode cX3_contradictions 45 = .ok (.iadd, 1) := by decide +kernel
theorem dX3_contradictions_46 : decode cX3_contradictions 46 = .ok (.istore_n 2, 1) := by decide +kernel
theorem dX3_contradictions_47 : decode cX3_contradictions 47 = .ok (.iinc 3 1, 3) := by decide +kernel
theorem dX3_contradictions_50 : decode cX3_contradictions 50 = .ok (.goto (-46), 3) := by decide +kernel
theorem dX3_contradictions_53 : decode cX3_contradictions 53 = .ok (.iload_n 2, 1) := by decide +kernel
theorem dX3_contradictions_54 : decode cX3_contradictions 54 = .ok (.ireturn, 1) := by decide +kernel
set_option maxRecDepth 20000 in
theorem ggX3_span_X4_bit : GoodIn wsX3_span wsX4_bit := goodIn_r _ [4] (by decide +kernel) (by decide +kernel)
set_option maxRecDepth 20000 in
theorem gX3_span_X4_bit_n44 : GoodIn wsX3_span (wsX4_bit) := ggX3_span_X4_bit
set_option maxRecDepth 20000 in
theorem ggX3_span_X3_at : GoodIn wsX3_span wsX3_at := goodIn_r _ [9, 10, 11, 27, 28, 29, 30, 31] (by decide +kernel) (by decide +kernel)
set_option maxRecDepth 20000 in
theorem gX3_span_X3_at : GoodIn wsX3_span (wsV RX3 32 RX3 yX3_at wsX3_at) := goodIn_app (goodIn_of _ (by decide +kernel)) ggX3_span_X3_at
set_option maxRecDepth 20000 in
theorem ggX3_span_X4_widened : GoodIn wsX3_span wsX4_widened := goodIn_r _ [13, 14, 15, 16, 17, 18, 19, 20, 21, 22, 3, 23, 24, 25, 26, 32, 33, 34, 35, 36] (by decide +kernel) (by decide +kernel)
set_option maxRecDepth 20000 in
theorem gX3_span_X4_widened_n71 : GoodIn wsX3_span (wsX4_widened) := ggX3_span_X4_widened
theorem dX3_span_0 : decode cX3_span 0 = .ok (.lconst 1, 1) := by decide +kernel
theorem dX3_span_1 : decode cX3_span 1 = .ok (.lstore_n 2, 1) := by decide +kernel
theorem dX3_span_2 : decode cX3_span 2 = .ok (.iconst 0, 1) := by decide +kernel
theorem dX3_span_3 : decode cX3_span 3 = .ok (.istore 4, 2) := by decide +kernel
theorem dX3_span_5 : decode cX3_span 5 = .ok (.iload 4, 2) := by decide +kernel
theorem dX3_span_7 : decode cX3_span 7 = .ok (.aload_n 0, 1) := by decide +kernel
theorem dX3_span_8 : decode cX3_span 8 = .ok (.getfield 25, 3) := by decide +kernel
theorem dX3_span_11 : decode cX3_span 11 = .ok (.if_icmp .ge 30, 3) := by decide +kernel
theorem dX3_span_14 : decode cX3_span 14 = .ok (.iload_n 1, 1) := by decide +kernel
theorem dX3_span_15 : decode cX3_span 15 = .ok (.iload 4, 2) := by decide +kernel
theorem dX3_span_17 : decode cX3_span 17 = .ok (.invokestatic 44, 3) := by decide +kernel
theorem dX3_span_20 : decode cX3_span 20 = .ok (.iand, 1) := by decide +kernel
theorem dX3_span_21 : decode cX3_span 21 = .ok (.ifCond .eq 14, 3) := by decide +kernel
theorem dX3_span_24 : decode cX3_span 24 = .ok (.lload_n 2, 1) := by decide +kernel
theorem dX3_span_25 : decode cX3_span 25 = .ok (.aload_n 0, 1) := by decide +kernel
theorem dX3_span_26 : decode cX3_span 26 = .ok (.iload 4, 2) := by decide +kernel
theorem dX3_span_28 : decode cX3_span 28 = .ok (.invokevirtual 32, 3) := by decide +kernel
theorem dX3_span_31 : decode cX3_span 31 = .ok (.invokestatic 71, 3) := by decide +kernel
theorem dX3_span_34 : decode cX3_span 34 = .ok (.lstore_n 2, 1) := by decide +kernel
theorem dX3_span_35 : decode cX3_span 35 = .ok (.iinc 4 1, 3) := by decide +kernel
theorem dX3_span_38 : decode cX3_span 38 = .ok (.goto (-33), 3) := by decide +kernel
theorem dX3_span_41 : decode cX3_span 41 = .ok (.lload_n 2, 1) := by decide +kernel
theorem dX3_span_42 : decode cX3_span 42 = .ok (.lreturn, 1) := by decide +kernel

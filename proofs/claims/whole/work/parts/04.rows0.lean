theorem dX0_init_0 : decode cX0_init 0 = .ok (.aload_n 0, 1) := by decide +kernel
theorem dX0_init_1 : decode cX0_init 1 = .ok (.invokespecial 3, 3) := by decide +kernel
theorem dX0_init_4 : decode cX0_init 4 = .ok (.aload_n 0, 1) := by decide +kernel
theorem dX0_init_5 : decode cX0_init 5 = .ok (.sipush 225, 3) := by decide +kernel
theorem dX0_init_8 : decode cX0_init 8 = .ok (.newarray .int, 2) := by decide +kernel
theorem dX0_init_10 : decode cX0_init 10 = .ok (.putfield 9, 3) := by decide +kernel
theorem dX0_init_13 : decode cX0_init 13 = .ok (.return_, 1) := by decide +kernel
set_option maxRecDepth 20000 in
theorem ggX0_compareAll_X0_compareTile : GoodIn wsX0_compareAll wsX0_compareTile := goodIn_r _ [5, 6, 7, 8, 9, 10, 11, 12, 13, 14, 15, 16, 17, 18, 19, 20, 21, 22, 23, 24, 25, 26, 27, 28, 29, 30, 31, 32, 33, 34, 35, 36, 37, 38, 39, 40, 41, 42, 43, 44, 45, 46] (by decide +kernel) (by decide +kernel)
set_option maxRecDepth 20000 in
theorem gX0_compareAll_X0_compareTile : GoodIn wsX0_compareAll (wsV RX0 15 RX0 yX0_compareTile wsX0_compareTile) := goodIn_app (goodIn_of _ (by decide +kernel)) ggX0_compareAll_X0_compareTile
theorem dX0_compareAll_0 : decode cX0_compareAll 0 = .ok (.iconst 0, 1) := by decide +kernel
theorem dX0_compareAll_1 : decode cX0_compareAll 1 = .ok (.istore_n 3, 1) := by decide +kernel
theorem dX0_compareAll_2 : decode cX0_compareAll 2 = .ok (.iload_n 3, 1) := by decide +kernel
theorem dX0_compareAll_3 : decode cX0_compareAll 3 = .ok (.bipush 9, 2) := by decide +kernel
theorem dX0_compareAll_5 : decode cX0_compareAll 5 = .ok (.if_icmp .ge 16, 3) := by decide +kernel
theorem dX0_compareAll_8 : decode cX0_compareAll 8 = .ok (.aload_n 0, 1) := by decide +kernel
theorem dX0_compareAll_9 : decode cX0_compareAll 9 = .ok (.aload_n 1, 1) := by decide +kernel
theorem dX0_compareAll_10 : decode cX0_compareAll 10 = .ok (.aload_n 2, 1) := by decide +kernel
theorem dX0_compareAll_11 : decode cX0_compareAll 11 = .ok (.iload_n 3, 1) := by decide +kernel
theorem dX0_compareAll_12 : decode cX0_compareAll 12 = .ok (.invokevirtual 15, 3) := by decide +kernel
theorem dX0_compareAll_15 : decode cX0_compareAll 15 = .ok (.iinc 3 1, 3) := by decide +kernel
theorem dX0_compareAll_18 : decode cX0_compareAll 18 = .ok (.goto (-16), 3) := by decide +kernel
theorem dX0_compareAll_21 : decode cX0_compareAll 21 = .ok (.return_, 1) := by decide +kernel
set_option maxRecDepth 20000 in
theorem ggX0_compareTile_X4_isTile : GoodIn wsX0_compareTile wsX4_isTile := goodIn_r _ [4] (by decide +kernel) (by decide +kernel)
set_option maxRecDepth 20000 in
theorem gX0_compareTile_X4_isTile_n19 : GoodIn wsX0_compareTile (wsX4_isTile) := ggX0_compareTile_X4_isTile
set_option maxRecDepth 20000 in
theorem ggX0_compareTile_X4_isWithin : GoodIn wsX0_compareTile wsX4_isWithin := goodIn_r _ [6, 7, 8, 3, 9, 10, 11, 12, 13, 14, 15, 16, 17, 18, 19, 20, 21, 22, 23, 24, 25, 26] (by decide +kernel) (by decide +kernel)
set_option maxRecDepth 20000 in
theorem gX0_compareTile_X4_isWithin_n23 : GoodIn wsX0_compareTile (wsX4_isWithin) := ggX0_compareTile_X4_isWithin
set_option maxRecDepth 20000 in
theorem ggX0_compareTile_X2_tileDifference : GoodIn wsX0_compareTile wsX2_tileDifference := goodIn_r _ [30, 31, 32, 33, 34, 8, 3, 9, 18, 19, 11, 12, 13, 14, 15, 16, 21, 22, 23, 35, 36, 37, 28, 38, 39, 25, 26, 41] (by decide +kernel) (by decide +kernel)
set_option maxRecDepth 20000 in
theorem gX0_compareTile_X2_tileDifference_n27 : GoodIn wsX0_compareTile (wsX2_tileDifference) := ggX0_compareTile_X2_tileDifference
theorem dX0_compareTile_0 : decode cX0_compareTile 0 = .ok (.iload_n 3, 1) := by decide +kernel
theorem dX0_compareTile_1 : decode cX0_compareTile 1 = .ok (.invokestatic 19, 3) := by decide +kernel
theorem dX0_compareTile_4 : decode cX0_compareTile 4 = .ok (.ifCond .ne 4, 3) := by decide +kernel
theorem dX0_compareTile_7 : decode cX0_compareTile 7 = .ok (.return_, 1) := by decide +kernel
theorem dX0_compareTile_8 : decode cX0_compareTile 8 = .ok (.iconst 0, 1) := by decide +kernel
theorem dX0_compareTile_9 : decode cX0_compareTile 9 = .ok (.istore 4, 2) := by decide +kernel
theorem dX0_compareTile_11 : decode cX0_compareTile 11 = .ok (.iload 4, 2) := by decide +kernel
theorem dX0_compareTile_13 : decode cX0_compareTile 13 = .ok (.bipush 25, 2) := by decide +kernel
theorem dX0_compareTile_15 : decode cX0_compareTile 15 = .ok (.if_icmp .ge 44, 3) := by decide +kernel
theorem dX0_compareTile_18 : decode cX0_compareTile 18 = .ok (.aload_n 0, 1) := by decide +kernel
theorem dX0_compareTile_19 : decode cX0_compareTile 19 = .ok (.getfield 9, 3) := by decide +kernel
theorem dX0_compareTile_22 : decode cX0_compareTile 22 = .ok (.iload_n 3, 1) := by decide +kernel
theorem dX0_compareTile_23 : decode cX0_compareTile 23 = .ok (.bipush 25, 2) := by decide +kernel
theorem dX0_compareTile_25 : decode cX0_compareTile 25 = .ok (.imul, 1) := by decide +kernel
theorem dX0_compareTile_26 : decode cX0_compareTile 26 = .ok (.iload 4, 2) := by decide +kernel
theorem dX0_compareTile_28 : decode cX0_compareTile 28 = .ok (.iadd, 1) := by decide +kernel
theorem dX0_compareTile_29 : decode cX0_compareTile 29 = .ok (.iload_n 3, 1) := by decide +kernel
theorem dX0_compareTile_30 : decode cX0_compareTile 30 = .ok (.iload 4, 2) := by decide +kernel
theorem dX0_compareTile_32 : decode cX0_compareTile 32 = .ok (.invokestatic 23, 3) := by decide +kernel
theorem dX0_compareTile_35 : decode cX0_compareTile 35 = .ok (.ifCond .eq 14, 3) := by decide +kernel
theorem dX0_compareTile_38 : decode cX0_compareTile 38 = .ok (.aload_n 1, 1) := by decide +kernel
theorem dX0_compareTile_39 : decode cX0_compareTile 39 = .ok (.aload_n 2, 1) := by decide +kernel
theorem dX0_compareTile_40 : decode cX0_compareTile 40 = .ok (.iload_n 3, 1) := by decide +kernel
theorem dX0_compareTile_41 : decode cX0_compareTile 41 = .ok (.iload 4, 2) := by decide +kernel
theorem dX0_compareTile_43 : decode cX0_compareTile 43 = .ok (.invokevirtual 27, 3) := by decide +kernel
theorem dX0_compareTile_46 : decode cX0_compareTile 46 = .ok (.goto 6, 3) := by decide +kernel
theorem dX0_compareTile_49 : decode cX0_compareTile 49 = .ok (.sipush 1000, 3) := by decide +kernel
theorem dX0_compareTile_52 : decode cX0_compareTile 52 = .ok (.iastore, 1) := by decide +kernel
theorem dX0_compareTile_53 : decode cX0_compareTile 53 = .ok (.iinc 4 1, 3) := by decide +kernel
theorem dX0_compareTile_56 : decode cX0_compareTile 56 = .ok (.goto (-45), 3) := by decide +kernel
theorem dX0_compareTile_59 : decode cX0_compareTile 59 = .ok (.return_, 1) := by decide +kernel
set_option maxRecDepth 20000 in
theorem ggX0_differenceAt_X4_isTile : GoodIn wsX0_differenceAt wsX4_isTile := goodIn_r _ [4] (by decide +kernel) (by decide +kernel)
set_option maxRecDepth 20000 in
theorem gX0_differenceAt_X4_isTile_n19 : GoodIn wsX0_differenceAt (wsX4_isTile) := ggX0_differenceAt_X4_isTile
set_option maxRecDepth 20000 in
theorem ggX0_differenceAt_X4_isBetween : GoodIn wsX0_differenceAt wsX4_isBetween := goodIn_r _ [6] (by decide +kernel) (by decide +kernel)
set_option maxRecDepth 20000 in
theorem gX0_differenceAt_X4_isBetween_n33 : GoodIn wsX0_differenceAt (wsX4_isBetween) := ggX0_differenceAt_X4_isBetween
theorem dX0_differenceAt_0 : decode cX0_differenceAt 0 = .ok (.iload_n 1, 1) := by decide +kernel
theorem dX0_differenceAt_1 : decode cX0_differenceAt 1 = .ok (.invokestatic 19, 3) := by decide +kernel
theorem dX0_differenceAt_4 : decode cX0_differenceAt 4 = .ok (.ifCond .eq 17, 3) := by decide +kernel
theorem dX0_differenceAt_7 : decode cX0_differenceAt 7 = .ok (.iload_n 2, 1) := by decide +kernel
theorem dX0_differenceAt_8 : decode cX0_differenceAt 8 = .ok (.iconst 0, 1) := by decide +kernel
theorem dX0_differenceAt_9 : decode cX0_differenceAt 9 = .ok (.bipush 24, 2) := by decide +kernel
theorem dX0_differenceAt_11 : decode cX0_differenceAt 11 = .ok (.invokestatic 33, 3) := by decide +kernel
theorem dX0_differenceAt_14 : decode cX0_differenceAt 14 = .ok (.ifCond .eq 7, 3) := by decide +kernel
theorem dX0_differenceAt_17 : decode cX0_differenceAt 17 = .ok (.iconst 1, 1) := by decide +kernel
theorem dX0_differenceAt_18 : decode cX0_differenceAt 18 = .ok (.goto 4, 3) := by decide +kernel
theorem dX0_differenceAt_21 : decode cX0_differenceAt 21 = .ok (.iconst 0, 1) := by decide +kernel
theorem dX0_differenceAt_22 : decode cX0_differenceAt 22 = .ok (.istore_n 3, 1) := by decide +kernel
theorem dX0_differenceAt_23 : decode cX0_differenceAt 23 = .ok (.iload_n 3, 1) := by decide +kernel
theorem dX0_differenceAt_24 : decode cX0_differenceAt 24 = .ok (.ifCond .eq 17, 3) := by decide +kernel
theorem dX0_differenceAt_27 : decode cX0_differenceAt 27 = .ok (.aload_n 0, 1) := by decide +kernel
theorem dX0_differenceAt_28 : decode cX0_differenceAt 28 = .ok (.getfield 9, 3) := by decide +kernel
theorem dX0_differenceAt_31 : decode cX0_differenceAt 31 = .ok (.iload_n 1, 1) := by decide +kernel
theorem dX0_differenceAt_32 : decode cX0_differenceAt 32 = .ok (.bipush 25, 2) := by decide +kernel
theorem dX0_differenceAt_34 : decode cX0_differenceAt 34 = .ok (.imul, 1) := by decide +kernel
theorem dX0_differenceAt_35 : decode cX0_differenceAt 35 = .ok (.iload_n 2, 1) := by decide +kernel
theorem dX0_differenceAt_36 : decode cX0_differenceAt 36 = .ok (.iadd, 1) := by decide +kernel
theorem dX0_differenceAt_37 : decode cX0_differenceAt 37 = .ok (.iaload, 1) := by decide +kernel
theorem dX0_differenceAt_38 : decode cX0_differenceAt 38 = .ok (.goto 6, 3) := by decide +kernel
theorem dX0_differenceAt_41 : decode cX0_differenceAt 41 = .ok (.sipush 1000, 3) := by decide +kernel
theorem dX0_differenceAt_44 : decode cX0_differenceAt 44 = .ok (.ireturn, 1) := by decide +kernel
set_option maxRecDepth 20000 in
theorem ggX0_codeOf_X0_differenceAt : GoodIn wsX0_codeOf wsX0_differenceAt := goodIn_r _ [5, 6, 7, 8, 9, 10, 11, 12] (by decide +kernel) (by decide +kernel)
set_option maxRecDepth 20000 in
theorem gX0_codeOf_X0_differenceAt : GoodIn wsX0_codeOf (wsV RX0 37 RX0 yX0_differenceAt wsX0_differenceAt) := goodIn_app (goodIn_of _ (by decide +kernel)) ggX0_codeOf_X0_differenceAt
theorem dX0_codeOf_0 : decode cX0_codeOf 0 = .ok (.iconst 0, 1) := by decide +kernel
theorem dX0_codeOf_1 : decode cX0_codeOf 1 = .ok (.istore_n 3, 1) := by decide +kernel
theorem dX0_codeOf_2 : decode cX0_codeOf 2 = .ok (.iload_n 3, 1) := by decide +kernel
theorem dX0_codeOf_3 : decode cX0_codeOf 3 = .ok (.bipush 25, 2) := by decide +kernel
theorem dX0_codeOf_5 : decode cX0_codeOf 5 = .ok (.if_icmp .ge 21, 3) := by decide +kernel
theorem dX0_codeOf_8 : decode cX0_codeOf 8 = .ok (.aload_n 0, 1) := by decide +kernel
theorem dX0_codeOf_9 : decode cX0_codeOf 9 = .ok (.iload_n 1, 1) := by decide +kernel
theorem dX0_codeOf_10 : decode cX0_codeOf 10 = .ok (.iload_n 3, 1) := by decide +kernel
theorem dX0_codeOf_11 : decode cX0_codeOf 11 = .ok (.invokevirtual 37, 3) := by decide +kernel
theorem dX0_codeOf_14 : decode cX0_codeOf 14 = .ok (.iload_n 2, 1) := by decide +kernel
theorem dX0_codeOf_15 : decode cX0_codeOf 15 = .ok (.if_icmp .gt 5, 3) := by decide +kernel
theorem dX0_codeOf_18 : decode cX0_codeOf 18 = .ok (.iload_n 3, 1) := by decide +kernel
theorem dX0_codeOf_19 : decode cX0_codeOf 19 = .ok (.ireturn, 1) := by decide +kernel
theorem dX0_codeOf_20 : decode cX0_codeOf 20 = .ok (.iinc 3 1, 3) := by decide +kernel
theorem dX0_codeOf_23 : decode cX0_codeOf 23 = .ok (.goto (-21), 3) := by decide +kernel
theorem dX0_codeOf_26 : decode cX0_codeOf 26 = .ok (.bipush 25, 2) := by decide +kernel
theorem dX0_codeOf_28 : decode cX0_codeOf 28 = .ok (.ireturn, 1) := by decide +kernel
set_option maxRecDepth 20000 in
theorem ggX0_bestPlace_X0_differenceAt : GoodIn wsX0_bestPlace wsX0_differenceAt := goodIn_r _ [5, 6, 7, 8, 9, 10, 11, 12] (by decide +kernel) (by decide +kernel)
set_option maxRecDepth 20000 in
theorem gX0_bestPlace_X0_differenceAt : GoodIn wsX0_bestPlace (wsV RX0 37 RX0 yX0_differenceAt wsX0_differenceAt) := goodIn_app (goodIn_of _ (by decide +kernel)) ggX0_bestPlace_X0_differenceAt
theorem dX0_bestPlace_0 : decode cX0_bestPlace 0 = .ok (.iconst 0, 1) := by decide +kernel
theorem dX0_bestPlace_1 : decode cX0_bestPlace 1 = .ok (.istore_n 2, 1) := by decide +kernel
theorem dX0_bestPlace_2 : decode cX0_bestPlace 2 = .ok (.iconst 1, 1) := by decide +kernel
theorem dX0_bestPlace_3 : decode cX0_bestPlace 3 = .ok (.istore_n 3, 1) := by decide +kernel
theorem dX0_bestPlace_4 : decode cX0_bestPlace 4 = .ok (.iload_n 3, 1) := by decide +kernel
theorem dX0_bestPlace_5 : decode cX0_bestPlace 5 = .ok (.bipush 25, 2) := by decide +kernel
theorem dX0_bestPlace_7 : decode cX0_bestPlace 7 = .ok (.if_icmp .ge 26, 3) := by decide +kernel
theorem dX0_bestPlace_10 : decode cX0_bestPlace 10 = .ok (.aload_n 0, 1) := by decide +kernel
theorem dX0_bestPlace_11 : decode cX0_bestPlace 11 = .ok (.iload_n 1, 1) := by decide +kernel
theorem dX0_bestPlace_12 : decode cX0_bestPlace 12 = .ok (.iload_n 3, 1) := by decide +kernel
theorem dX0_bestPlace_13 : decode cX0_bestPlace 13 = .ok (.invokevirtual 37, 3) := by decide +kernel
theorem dX0_bestPlace_16 : decode cX0_bestPlace 16 = .ok (.aload_n 0, 1) := by decide +kernel
theorem dX0_bestPlace_17 : decode cX0_bestPlace 17 = .ok (.iload_n 1, 1) := by decide +kernel
theorem dX0_bestPlace_18 : decode cX0_bestPlace 18 = .ok (.iload_n 2, 1) := by decide +kernel
theorem dX0_bestPlace_19 : decode cX0_bestPlace 19 = .ok (.invokevirtual 37, 3) := by decide +kernel
theorem dX0_bestPlace_22 : decode cX0_bestPlace 22 = .ok (.if_icmp .ge 5, 3) := by decide +kernel
theorem dX0_bestPlace_25 : decode cX0_bestPlace 25 = .ok (.iload_n 3, 1) := by decide +kernel
theorem dX0_bestPlace_26 : decode cX0_bestPlace 26 = .ok (.istore_n 2, 1) := by decide +kernel
theorem dX0_bestPlace_27 : decode cX0_bestPlace 27 = .ok (.iinc 3 1, 3) := by decide +kernel
theorem dX0_bestPlace_30 : decode cX0_bestPlace 30 = .ok (.goto (-26), 3) := by decide +kernel
theorem dX0_bestPlace_33 : decode cX0_bestPlace 33 = .ok (.iload_n 2, 1) := by decide +kernel
theorem dX0_bestPlace_34 : decode cX0_bestPlace 34 = .ok (.ireturn, 1) := by decide +kernel
set_option maxRecDepth 20000 in
theorem ggX0_bitsWith_X0_codeOf : GoodIn wsX0_bitsWith wsX0_codeOf := goodIn_r _ [5, 6, 7, 8, 4, 9, 10, 11, 12, 13, 14, 15, 18] (by decide +kernel) (by decide +kernel)
set_option maxRecDepth 20000 in
theorem gX0_bitsWith_X0_codeOf : GoodIn wsX0_bitsWith (wsV RX0 41 RX0 yX0_codeOf wsX0_codeOf) := goodIn_app (goodIn_of _ (by decide +kernel)) ggX0_bitsWith_X0_codeOf
set_option maxRecDepth 20000 in
theorem ggX0_bitsWith_X4_bitsOf : GoodIn wsX0_bitsWith wsX4_bitsOf := goodIn_r _ [17] (by decide +kernel) (by decide +kernel)
set_option maxRecDepth 20000 in
theorem gX0_bitsWith_X4_bitsOf_n44 : GoodIn wsX0_bitsWith (wsX4_bitsOf) := ggX0_bitsWith_X4_bitsOf
theorem dX0_bitsWith_0 : decode cX0_bitsWith 0 = .ok (.iconst 0, 1) := by decide +kernel
theorem dX0_bitsWith_1 : decode cX0_bitsWith 1 = .ok (.istore_n 2, 1) := by decide +kernel
theorem dX0_bitsWith_2 : decode cX0_bitsWith 2 = .ok (.iconst 0, 1) := by decide +kernel
theorem dX0_bitsWith_3 : decode cX0_bitsWith 3 = .ok (.istore_n 3, 1) := by decide +kernel
theorem dX0_bitsWith_4 : decode cX0_bitsWith 4 = .ok (.iload_n 3, 1) := by decide +kernel
theorem dX0_bitsWith_5 : decode cX0_bitsWith 5 = .ok (.bipush 9, 2) := by decide +kernel
theorem dX0_bitsWith_7 : decode cX0_bitsWith 7 = .ok (.if_icmp .ge 21, 3) := by decide +kernel
theorem dX0_bitsWith_10 : decode cX0_bitsWith 10 = .ok (.iload_n 2, 1) := by decide +kernel
theorem dX0_bitsWith_11 : decode cX0_bitsWith 11 = .ok (.aload_n 0, 1) := by decide +kernel
theorem dX0_bitsWith_12 : decode cX0_bitsWith 12 = .ok (.iload_n 3, 1) := by decide +kernel
theorem dX0_bitsWith_13 : decode cX0_bitsWith 13 = .ok (.iload_n 1, 1) := by decide +kernel
theorem dX0_bitsWith_14 : decode cX0_bitsWith 14 = .ok (.invokevirtual 41, 3) := by decide +kernel
theorem dX0_bitsWith_17 : decode cX0_bitsWith 17 = .ok (.invokestatic 44, 3) := by decide +kernel
theorem dX0_bitsWith_20 : decode cX0_bitsWith 20 = .ok (.iadd, 1) := by decide +kernel
theorem dX0_bitsWith_21 : decode cX0_bitsWith 21 = .ok (.istore_n 2, 1) := by decide +kernel
theorem dX0_bitsWith_22 : decode cX0_bitsWith 22 = .ok (.iinc 3 1, 3) := by decide +kernel
theorem dX0_bitsWith_25 : decode cX0_bitsWith 25 = .ok (.goto (-21), 3) := by decide +kernel
theorem dX0_bitsWith_28 : decode cX0_bitsWith 28 = .ok (.iload_n 2, 1) := by decide +kernel
theorem dX0_bitsWith_29 : decode cX0_bitsWith 29 = .ok (.ireturn, 1) := by decide +kernel
set_option maxRecDepth 20000 in
theorem ggX0_neededTolerance_X0_bitsWith : GoodIn wsX0_neededTolerance wsX0_bitsWith := goodIn_r _ [5, 6, 7, 8, 4, 9, 10, 11, 12, 13, 14, 15, 16, 17, 18, 19, 20, 21, 22] (by decide +kernel) (by decide +kernel)
set_option maxRecDepth 20000 in
theorem gX0_neededTolerance_X0_bitsWith : GoodIn wsX0_neededTolerance (wsV RX0 48 RX0 yX0_bitsWith wsX0_bitsWith) := goodIn_app (goodIn_of _ (by decide +kernel)) ggX0_neededTolerance_X0_bitsWith
theorem dX0_neededTolerance_0 : decode cX0_neededTolerance 0 = .ok (.iload_n 1, 1) := by decide +kernel
theorem dX0_neededTolerance_1 : decode cX0_neededTolerance 1 = .ok (.istore_n 3, 1) := by decide +kernel
theorem dX0_neededTolerance_2 : decode cX0_neededTolerance 2 = .ok (.iload_n 3, 1) := by decide +kernel
theorem dX0_neededTolerance_3 : decode cX0_neededTolerance 3 = .ok (.sipush 240, 3) := by decide +kernel
theorem dX0_neededTolerance_6 : decode cX0_neededTolerance 6 = .ok (.if_icmp .ge 20, 3) := by decide +kernel
theorem dX0_neededTolerance_9 : decode cX0_neededTolerance 9 = .ok (.aload_n 0, 1) := by decide +kernel
theorem dX0_neededTolerance_10 : decode cX0_neededTolerance 10 = .ok (.iload_n 3, 1) := by decide +kernel
theorem dX0_neededTolerance_11 : decode cX0_neededTolerance 11 = .ok (.invokevirtual 48, 3) := by decide +kernel
theorem dX0_neededTolerance_14 : decode cX0_neededTolerance 14 = .ok (.iload_n 2, 1) := by decide +kernel
theorem dX0_neededTolerance_15 : decode cX0_neededTolerance 15 = .ok (.if_icmp .gt 5, 3) := by decide +kernel
theorem dX0_neededTolerance_18 : decode cX0_neededTolerance 18 = .ok (.iload_n 3, 1) := by decide +kernel
theorem dX0_neededTolerance_19 : decode cX0_neededTolerance 19 = .ok (.ireturn, 1) := by decide +kernel
theorem dX0_neededTolerance_20 : decode cX0_neededTolerance 20 = .ok (.iinc 3 1, 3) := by decide +kernel
theorem dX0_neededTolerance_23 : decode cX0_neededTolerance 23 = .ok (.goto (-21), 3) := by decide +kernel
theorem dX0_neededTolerance_26 : decode cX0_neededTolerance 26 = .ok (.sipush 240, 3) := by decide +kernel
theorem dX0_neededTolerance_29 : decode cX0_neededTolerance 29 = .ok (.ireturn, 1) := by decide +kernel
theorem dX1_init_0 : decode cX1_init 0 = .ok (.aload_n 0, 1) := by decide +kernel
theorem dX1_init_1 : decode cX1_init 1 = .ok (.invokespecial 3, 3) := by decide +kernel
theorem dX1_init_4 : decode cX1_init 4 = .ok (.aload_n 0, 1) := by decide +kernel
theorem dX1_init_5 : decode cX1_init 5 = .ok (.bipush 60, 2) := by decide +kernel
theorem dX1_init_7 : decode cX1_init 7 = .ok (.newarray .char, 2) := by decide +kernel
theorem dX1_init_9 : decode cX1_init 9 = .ok (.putfield 9, 3) := by decide +kernel
theorem dX1_init_12 : decode cX1_init 12 = .ok (.aload_n 0, 1) := by decide +kernel
theorem dX1_init_13 : decode cX1_init 13 = .ok (.iconst 0, 1) := by decide +kernel
theorem dX1_init_14 : decode cX1_init 14 = .ok (.putfield 15, 3) := by decide +kernel
theorem dX1_init_17 : decode cX1_init 17 = .ok (.aload_n 0, 1) := by decide +kernel
theorem dX1_init_18 : decode cX1_init 18 = .ok (.iconst 0, 1) := by decide +kernel
theorem dX1_init_19 : decode cX1_init 19 = .ok (.putfield 19, 3) := by decide +kernel
theorem dX1_init_22 : decode cX1_init 22 = .ok (.aload_n 0, 1) := by decide +kernel
theorem dX1_init_23 : decode cX1_init 23 = .ok (.bipush 72, 2) := by decide +kernel
theorem dX1_init_25 : decode cX1_init 25 = .ok (.newarray .int, 2) := by decide +kernel
theorem dX1_init_27 : decode cX1_init 27 = .ok (.putfield 22, 3) := by decide +kernel
theorem dX1_init_30 : decode cX1_init 30 = .ok (.aload_n 0, 1) := by decide +kernel
theorem dX1_init_31 : decode cX1_init 31 = .ok (.iconst 0, 1) := by decide +kernel
theorem dX1_init_32 : decode cX1_init 32 = .ok (.putfield 26, 3) := by decide +kernel
theorem dX1_init_35 : decode cX1_init 35 = .ok (.return_, 1) := by decide +kernel
theorem dX1_add_0 : decode cX1_add 0 = .ok (.aload_n 0, 1) := by decide +kernel
theorem dX1_add_1 : decode cX1_add 1 = .ok (.getfield 15, 3) := by decide +kernel
theorem dX1_add_4 : decode cX1_add 4 = .ok (.ifCond .lt 12, 3) := by decide +kernel
theorem dX1_add_7 : decode cX1_add 7 = .ok (.aload_n 0, 1) := by decide +kernel
theorem dX1_add_8 : decode cX1_add 8 = .ok (.getfield 15, 3) := by decide +kernel
theorem dX1_add_11 : decode cX1_add 11 = .ok (.bipush 60, 2) := by decide +kernel
theorem dX1_add_13 : decode cX1_add 13 = .ok (.if_icmp .lt 5, 3) := by decide +kernel
theorem dX1_add_16 : decode cX1_add 16 = .ok (.iconst 0, 1) := by decide +kernel
theorem dX1_add_17 : decode cX1_add 17 = .ok (.ireturn, 1) := by decide +kernel
theorem dX1_add_18 : decode cX1_add 18 = .ok (.aload_n 0, 1) := by decide +kernel
theorem dX1_add_19 : decode cX1_add 19 = .ok (.getfield 9, 3) := by decide +kernel
theorem dX1_add_22 : decode cX1_add 22 = .ok (.aload_n 0, 1) := by decide +kernel
theorem dX1_add_23 : decode cX1_add 23 = .ok (.getfield 15, 3) := by decide +kernel
theorem dX1_add_26 : decode cX1_add 26 = .ok (.iload_n 1, 1) := by decide +kernel
theorem dX1_add_27 : decode cX1_add 27 = .ok (.castore, 1) := by decide +kernel
theorem dX1_add_28 : decode cX1_add 28 = .ok (.aload_n 0, 1) := by decide +kernel
theorem dX1_add_29 : decode cX1_add 29 = .ok (.dup, 1) := by decide +kernel
theorem dX1_add_30 : decode cX1_add 30 = .ok (.getfield 15, 3) := by decide +kernel
theorem dX1_add_33 : decode cX1_add 33 = .ok (.iconst 1, 1) := by decide +kernel
theorem dX1_add_34 : decode cX1_add 34 = .ok (.iadd, 1) := by decide +kernel
theorem dX1_add_35 : decode cX1_add 35 = .ok (.putfield 15, 3) := by decide +kernel
theorem dX1_add_38 : decode cX1_add 38 = .ok (.iconst 1, 1) := by decide +kernel
theorem dX1_add_39 : decode cX1_add 39 = .ok (.ireturn, 1) := by decide +kernel
set_option maxRecDepth 20000 in
theorem ggX1_part_X4_isBetween : GoodIn wsX1_part wsX4_isBetween := goodIn_r _ [4] (by decide +kernel) (by decide +kernel)
set_option maxRecDepth 20000 in
theorem gX1_part_X4_isBetween_n29 : GoodIn wsX1_part (wsX4_isBetween) := ggX1_part_X4_isBetween
theorem dX1_part_0 : decode cX1_part 0 = .ok (.iload_n 1, 1) := by decide +kernel
theorem dX1_part_1 : decode cX1_part 1 = .ok (.bipush 6, 2) := by decide +kernel
theorem dX1_part_3 : decode cX1_part 3 = .ok (.imul, 1) := by decide +kernel
theorem dX1_part_4 : decode cX1_part 4 = .ok (.iload_n 2, 1) := by decide +kernel
theorem dX1_part_5 : decode cX1_part 5 = .ok (.iadd, 1) := by decide +kernel
theorem dX1_part_6 : decode cX1_part 6 = .ok (.istore_n 3, 1) := by decide +kernel
theorem dX1_part_7 : decode cX1_part 7 = .ok (.iload_n 3, 1) := by decide +kernel
theorem dX1_part_8 : decode cX1_part 8 = .ok (.iconst 0, 1) := by decide +kernel
theorem dX1_part_9 : decode cX1_part 9 = .ok (.aload_n 0, 1) := by decide +kernel
theorem dX1_part_10 : decode cX1_part 10 = .ok (.getfield 22, 3) := by decide +kernel
theorem dX1_part_13 : decode cX1_part 13 = .ok (.arraylength, 1) := by decide +kernel
theorem dX1_part_14 : decode cX1_part 14 = .ok (.iconst 1, 1) := by decide +kernel
theorem dX1_part_15 : decode cX1_part 15 = .ok (.isub, 1) := by decide +kernel
theorem dX1_part_16 : decode cX1_part 16 = .ok (.invokestatic 29, 3) := by decide +kernel
theorem dX1_part_19 : decode cX1_part 19 = .ok (.ifCond .eq 12, 3) := by decide +kernel
theorem dX1_part_22 : decode cX1_part 22 = .ok (.aload_n 0, 1) := by decide +kernel
theorem dX1_part_23 : decode cX1_part 23 = .ok (.getfield 22, 3) := by decide +kernel
theorem dX1_part_26 : decode cX1_part 26 = .ok (.iload_n 3, 1) := by decide +kernel
theorem dX1_part_27 : decode cX1_part 27 = .ok (.iaload, 1) := by decide +kernel
theorem dX1_part_28 : decode cX1_part 28 = .ok (.goto 4, 3) := by decide +kernel
theorem dX1_part_31 : decode cX1_part 31 = .ok (.iconst 0, 1) := by decide +kernel
theorem dX1_part_32 : decode cX1_part 32 = .ok (.ireturn, 1) := by decide +kernel
set_option maxRecDepth 20000 in
theorem ggX1_putPart_X4_isBetween : GoodIn wsX1_putPart wsX4_isBetween := goodIn_r _ [4] (by decide +kernel) (by decide +kernel)
set_option maxRecDepth 20000 in
theorem gX1_putPart_X4_isBetween_n29 : GoodIn wsX1_putPart (wsX4_isBetween) := ggX1_putPart_X4_isBetween
theorem dX1_putPart_0 : decode cX1_putPart 0 = .ok (.iload_n 1, 1) := by decide +kernel
theorem dX1_putPart_1 : decode cX1_putPart 1 = .ok (.iconst 0, 1) := by decide +kernel
theorem dX1_putPart_2 : decode cX1_putPart 2 = .ok (.aload_n 0, 1) := by decide +kernel
theorem dX1_putPart_3 : decode cX1_putPart 3 = .ok (.getfield 22, 3) := by decide +kernel
theorem dX1_putPart_6 : decode cX1_putPart 6 = .ok (.arraylength, 1) := by decide +kernel
theorem dX1_putPart_7 : decode cX1_putPart 7 = .ok (.iconst 1, 1) := by decide +kernel
theorem dX1_putPart_8 : decode cX1_putPart 8 = .ok (.isub, 1) := by decide +kernel
theorem dX1_putPart_9 : decode cX1_putPart 9 = .ok (.invokestatic 29, 3) := by decide +kernel
theorem dX1_putPart_12 : decode cX1_putPart 12 = .ok (.ifCond .eq 10, 3) := by decide +kernel
theorem dX1_putPart_15 : decode cX1_putPart 15 = .ok (.aload_n 0, 1) := by decide +kernel
theorem dX1_putPart_16 : decode cX1_putPart 16 = .ok (.getfield 22, 3) := by decide +kernel
theorem dX1_putPart_19 : decode cX1_putPart 19 = .ok (.iload_n 1, 1) := by decide +kernel
theorem dX1_putPart_20 : decode cX1_putPart 20 = .ok (.iload_n 2, 1) := by decide +kernel
theorem dX1_putPart_21 : decode cX1_putPart 21 = .ok (.iastore, 1) := by decide +kernel
theorem dX1_putPart_22 : decode cX1_putPart 22 = .ok (.return_, 1) := by decide +kernel
set_option maxRecDepth 20000 in
theorem ggX1_read_X1_readOrder : GoodIn wsX1_read wsX1_readOrder := goodIn_r _ [8, 9, 10, 11, 7, 12, 1, 13, 14, 15, 16, 3, 17, 18, 19, 20, 21, 22, 23, 24, 25, 26, 27, 28, 29, 30, 31, 32, 33, 34, 35, 36, 37, 38] (by decide +kernel) (by decide +kernel)
set_option maxRecDepth 20000 in
theorem gX1_read_X1_readOrder : GoodIn wsX1_read (wsV RX1 33 RX1 yX1_readOrder wsX1_readOrder) := goodIn_app (goodIn_of _ (by decide +kernel)) ggX1_read_X1_readOrder
set_option maxRecDepth 20000 in
theorem ggX1_read_X1_takes : GoodIn wsX1_read wsX1_takes := goodIn_r _ [12, 1, 13, 14, 15, 7, 16, 3, 17, 34, 35, 36, 37, 38] (by decide +kernel) (by decide +kernel)
set_option maxRecDepth 20000 in
theorem gX1_read_X1_takes : GoodIn wsX1_read (wsV RX1 37 RX1 yX1_takes wsX1_takes) := goodIn_app (goodIn_of _ (by decide +kernel)) ggX1_read_X1_takes
theorem dX1_read_0 : decode cX1_read 0 = .ok (.aload_n 0, 1) := by decide +kernel
theorem dX1_read_1 : decode cX1_read 1 = .ok (.iconst 0, 1) := by decide +kernel
theorem dX1_read_2 : decode cX1_read 2 = .ok (.putfield 19, 3) := by decide +kernel
theorem dX1_read_5 : decode cX1_read 5 = .ok (.aload_n 0, 1) := by decide +kernel
theorem dX1_read_6 : decode cX1_read 6 = .ok (.iconst 0, 1) := by decide +kernel
theorem dX1_read_7 : decode cX1_read 7 = .ok (.putfield 26, 3) := by decide +kernel
theorem dX1_read_10 : decode cX1_read 10 = .ok (.iconst 0, 1) := by decide +kernel
theorem dX1_read_11 : decode cX1_read 11 = .ok (.istore_n 1, 1) := by decide +kernel
theorem dX1_read_12 : decode cX1_read 12 = .ok (.iload_n 1, 1) := by decide +kernel
theorem dX1_read_13 : decode cX1_read 13 = .ok (.bipush 12, 2) := by decide +kernel
theorem dX1_read_15 : decode cX1_read 15 = .ok (.if_icmp .ge 62, 3) := by decide +kernel
theorem dX1_read_18 : decode cX1_read 18 = .ok (.aload_n 0, 1) := by decide +kernel
theorem dX1_read_19 : decode cX1_read 19 = .ok (.iload_n 1, 1) := by decide +kernel
theorem dX1_read_20 : decode cX1_read 20 = .ok (.bipush 6, 2) := by decide +kernel
theorem dX1_read_22 : decode cX1_read 22 = .ok (.imul, 1) := by decide +kernel
theorem dX1_read_23 : decode cX1_read 23 = .ok (.invokevirtual 33, 3) := by decide +kernel
theorem dX1_read_26 : decode cX1_read 26 = .ok (.ifCond .ne 8, 3) := by decide +kernel
theorem dX1_read_29 : decode cX1_read 29 = .ok (.aload_n 0, 1) := by decide +kernel
theorem dX1_read_30 : decode cX1_read 30 = .ok (.getfield 19, 3) := by decide +kernel
theorem dX1_read_33 : decode cX1_read 33 = .ok (.ireturn, 1) := by decide +kernel
theorem dX1_read_34 : decode cX1_read 34 = .ok (.aload_n 0, 1) := by decide +kernel
theorem dX1_read_35 : decode cX1_read 35 = .ok (.dup, 1) := by decide +kernel
theorem dX1_read_36 : decode cX1_read 36 = .ok (.getfield 26, 3) := by decide +kernel
theorem dX1_read_39 : decode cX1_read 39 = .ok (.iconst 1, 1) := by decide +kernel
theorem dX1_read_40 : decode cX1_read 40 = .ok (.iadd, 1) := by decide +kernel
theorem dX1_read_41 : decode cX1_read 41 = .ok (.putfield 26, 3) := by decide +kernel
theorem dX1_read_44 : decode cX1_read 44 = .ok (.aload_n 0, 1) := by decide +kernel
theorem dX1_read_45 : decode cX1_read 45 = .ok (.getfield 19, 3) := by decide +kernel
theorem dX1_read_48 : decode cX1_read 48 = .ok (.aload_n 0, 1) := by decide +kernel
theorem dX1_read_49 : decode cX1_read 49 = .ok (.getfield 15, 3) := by decide +kernel
theorem dX1_read_52 : decode cX1_read 52 = .ok (.if_icmp .lt 5, 3) := by decide +kernel
theorem dX1_read_55 : decode cX1_read 55 = .ok (.iconst (-1), 1) := by decide +kernel
theorem dX1_read_56 : decode cX1_read 56 = .ok (.ireturn, 1) := by decide +kernel
theorem dX1_read_57 : decode cX1_read 57 = .ok (.aload_n 0, 1) := by decide +kernel
theorem dX1_read_58 : decode cX1_read 58 = .ok (.bipush 59, 2) := by decide +kernel
theorem dX1_read_60 : decode cX1_read 60 = .ok (.invokevirtual 37, 3) := by decide +kernel
theorem dX1_read_63 : decode cX1_read 63 = .ok (.ifCond .ne 8, 3) := by decide +kernel
theorem dX1_read_66 : decode cX1_read 66 = .ok (.aload_n 0, 1) := by decide +kernel
theorem dX1_read_67 : decode cX1_read 67 = .ok (.getfield 19, 3) := by decide +kernel
theorem dX1_read_70 : decode cX1_read 70 = .ok (.ireturn, 1) := by decide +kernel
theorem dX1_read_71 : decode cX1_read 71 = .ok (.iinc 1 1, 3) := by decide +kernel
theorem dX1_read_74 : decode cX1_read 74 = .ok (.goto (-62), 3) := by decide +kernel
theorem dX1_read_77 : decode cX1_read 77 = .ok (.aload_n 0, 1) := by decide +kernel
theorem dX1_read_78 : decode cX1_read 78 = .ok (.getfield 19, 3) := by decide +kernel
theorem dX1_read_81 : decode cX1_read 81 = .ok (.ireturn, 1) := by decide +kernel
set_option maxRecDepth 20000 in
theorem ggX1_readOrder_X1_takes : GoodIn wsX1_readOrder wsX1_takes := goodIn_r _ [5, 6, 7, 8, 9, 4, 10, 11, 12, 29, 30, 31, 32, 33] (by decide +kernel) (by decide +kernel)
set_option maxRecDepth 20000 in
theorem gX1_readOrder_X1_takes : GoodIn wsX1_readOrder (wsV RX1 37 RX1 yX1_takes wsX1_takes) := goodIn_app (goodIn_of _ (by decide +kernel)) ggX1_readOrder_X1_takes
set_option maxRecDepth 20000 in
theorem ggX1_readOrder_X1_putPart : GoodIn wsX1_readOrder wsX1_putPart := goodIn_r _ [16, 17, 18, 19, 20, 29, 30, 31, 32, 33] (by decide +kernel) (by decide +kernel)
set_option maxRecDepth 20000 in
theorem gX1_readOrder_X1_putPart : GoodIn wsX1_readOrder (wsV RX1 41 RX1 yX1_putPart wsX1_putPart) := goodIn_app (goodIn_of _ (by decide +kernel)) ggX1_readOrder_X1_putPart
set_option maxRecDepth 20000 in
theorem ggX1_readOrder_X1_readNumber : GoodIn wsX1_readOrder wsX1_readNumber := goodIn_r _ [24, 6, 1, 2, 3, 4, 5, 7, 8, 9, 10, 11, 12, 25, 26, 27, 28, 18, 19, 20, 13, 14, 15, 16, 17, 29, 30, 31, 32, 33] (by decide +kernel) (by decide +kernel)
set_option maxRecDepth 20000 in
theorem gX1_readOrder_X1_readNumber : GoodIn wsX1_readOrder (wsV RX1 45 RX1 yX1_readNumber wsX1_readNumber) := goodIn_app (goodIn_of _ (by decide +kernel)) ggX1_readOrder_X1_readNumber
theorem dX1_readOrder_0 : decode cX1_readOrder 0 = .ok (.aload_n 0, 1) := by decide +kernel
theorem dX1_readOrder_1 : decode cX1_readOrder 1 = .ok (.bipush 98, 2) := by decide +kernel
theorem dX1_readOrder_3 : decode cX1_readOrder 3 = .ok (.invokevirtual 37, 3) := by decide +kernel
theorem dX1_readOrder_6 : decode cX1_readOrder 6 = .ok (.ifCond .eq 106, 3) := by decide +kernel
theorem dX1_readOrder_9 : decode cX1_readOrder 9 = .ok (.aload_n 0, 1) := by decide +kernel
theorem dX1_readOrder_10 : decode cX1_readOrder 10 = .ok (.iload_n 1, 1) := by decide +kernel
theorem dX1_readOrder_11 : decode cX1_readOrder 11 = .ok (.iconst 0, 1) := by decide +kernel
theorem dX1_readOrder_12 : decode cX1_readOrder 12 = .ok (.invokevirtual 41, 3) := by decide +kernel
theorem dX1_readOrder_15 : decode cX1_readOrder 15 = .ok (.aload_n 0, 1) := by decide +kernel
theorem dX1_readOrder_16 : decode cX1_readOrder 16 = .ok (.iload_n 1, 1) := by decide +kernel
theorem dX1_readOrder_17 : decode cX1_readOrder 17 = .ok (.iconst 1, 1) := by decide +kernel
theorem dX1_readOrder_18 : decode cX1_readOrder 18 = .ok (.iadd, 1) := by decide +kernel
theorem dX1_readOrder_19 : decode cX1_readOrder 19 = .ok (.iconst 0, 1) := by decide +kernel
theorem dX1_readOrder_20 : decode cX1_readOrder 20 = .ok (.invokevirtual 45, 3) := by decide +kernel
theorem dX1_readOrder_23 : decode cX1_readOrder 23 = .ok (.ifCond .eq 87, 3) := by decide +kernel
theorem dX1_readOrder_26 : decode cX1_readOrder 26 = .ok (.aload_n 0, 1) := by decide +kernel
theorem dX1_readOrder_27 : decode cX1_readOrder 27 = .ok (.bipush 44, 2) := by decide +kernel
theorem dX1_readOrder_29 : decode cX1_readOrder 29 = .ok (.invokevirtual 37, 3) := by decide +kernel
theorem dX1_readOrder_32 : decode cX1_readOrder 32 = .ok (.ifCond .eq 78, 3) := by decide +kernel
theorem dX1_readOrder_35 : decode cX1_readOrder 35 = .ok (.aload_n 0, 1) := by decide +kernel
theorem dX1_readOrder_36 : decode cX1_readOrder 36 = .ok (.iload_n 1, 1) := by decide +kernel
theorem dX1_readOrder_37 : decode cX1_readOrder 37 = .ok (.iconst 2, 1) := by decide +kernel
theorem dX1_readOrder_38 : decode cX1_readOrder 38 = .ok (.iadd, 1) := by decide +kernel
theorem dX1_readOrder_39 : decode cX1_readOrder 39 = .ok (.iconst 0, 1) := by decide +kernel
theorem dX1_readOrder_40 : decode cX1_readOrder 40 = .ok (.invokevirtual 45, 3) := by decide +kernel
theorem dX1_readOrder_43 : decode cX1_readOrder 43 = .ok (.ifCond .eq 67, 3) := by decide +kernel
theorem dX1_readOrder_46 : decode cX1_readOrder 46 = .ok (.aload_n 0, 1) := by decide +kernel
theorem dX1_readOrder_47 : decode cX1_readOrder 47 = .ok (.bipush 44, 2) := by decide +kernel
theorem dX1_readOrder_49 : decode cX1_readOrder 49 = .ok (.invokevirtual 37, 3) := by decide +kernel
theorem dX1_readOrder_52 : decode cX1_readOrder 52 = .ok (.ifCond .eq 58, 3) := by decide +kernel
theorem dX1_readOrder_55 : decode cX1_readOrder 55 = .ok (.aload_n 0, 1) := by decide +kernel
theorem dX1_readOrder_56 : decode cX1_readOrder 56 = .ok (.iload_n 1, 1) := by decide +kernel
theorem dX1_readOrder_57 : decode cX1_readOrder 57 = .ok (.iconst 3, 1) := by decide +kernel
theorem dX1_readOrder_58 : decode cX1_readOrder 58 = .ok (.iadd, 1) := by decide +kernel
theorem dX1_readOrder_59 : decode cX1_readOrder 59 = .ok (.iconst 0, 1) := by decide +kernel
theorem dX1_readOrder_60 : decode cX1_readOrder 60 = .ok (.invokevirtual 45, 3) := by decide +kernel
theorem dX1_readOrder_63 : decode cX1_readOrder 63 = .ok (.ifCond .eq 47, 3) := by decide +kernel
theorem dX1_readOrder_66 : decode cX1_readOrder 66 = .ok (.aload_n 0, 1) := by decide +kernel
theorem dX1_readOrder_67 : decode cX1_readOrder 67 = .ok (.bipush 44, 2) := by decide +kernel
theorem dX1_readOrder_69 : decode cX1_readOrder 69 = .ok (.invokevirtual 37, 3) := by decide +kernel
theorem dX1_readOrder_72 : decode cX1_readOrder 72 = .ok (.ifCond .eq 38, 3) := by decide +kernel
theorem dX1_readOrder_75 : decode cX1_readOrder 75 = .ok (.aload_n 0, 1) := by decide +kernel
theorem dX1_readOrder_76 : decode cX1_readOrder 76 = .ok (.iload_n 1, 1) := by decide +kernel
theorem dX1_readOrder_77 : decode cX1_readOrder 77 = .ok (.iconst 4, 1) := by decide +kernel
theorem dX1_readOrder_78 : decode cX1_readOrder 78 = .ok (.iadd, 1) := by decide +kernel
theorem dX1_readOrder_79 : decode cX1_readOrder 79 = .ok (.iconst 0, 1) := by decide +kernel
theorem dX1_readOrder_80 : decode cX1_readOrder 80 = .ok (.invokevirtual 45, 3) := by decide +kernel
theorem dX1_readOrder_83 : decode cX1_readOrder 83 = .ok (.ifCond .eq 27, 3) := by decide +kernel
theorem dX1_readOrder_86 : decode cX1_readOrder 86 = .ok (.aload_n 0, 1) := by decide +kernel
theorem dX1_readOrder_87 : decode cX1_readOrder 87 = .ok (.bipush 61, 2) := by decide +kernel
theorem dX1_readOrder_89 : decode cX1_readOrder 89 = .ok (.invokevirtual 37, 3) := by decide +kernel
theorem dX1_readOrder_92 : decode cX1_readOrder 92 = .ok (.ifCond .eq 18, 3) := by decide +kernel
theorem dX1_readOrder_95 : decode cX1_readOrder 95 = .ok (.aload_n 0, 1) := by decide +kernel
theorem dX1_readOrder_96 : decode cX1_readOrder 96 = .ok (.iload_n 1, 1) := by decide +kernel
theorem dX1_readOrder_97 : decode cX1_readOrder 97 = .ok (.iconst 5, 1) := by decide +kernel
theorem dX1_readOrder_98 : decode cX1_readOrder 98 = .ok (.iadd, 1) := by decide +kernel
theorem dX1_readOrder_99 : decode cX1_readOrder 99 = .ok (.iconst 0, 1) := by decide +kernel
theorem dX1_readOrder_100 : decode cX1_readOrder 100 = .ok (.invokevirtual 45, 3) := by decide +kernel
theorem dX1_readOrder_103 : decode cX1_readOrder 103 = .ok (.ifCond .eq 7, 3) := by decide +kernel
theorem dX1_readOrder_106 : decode cX1_readOrder 106 = .ok (.iconst 1, 1) := by decide +kernel
theorem dX1_readOrder_107 : decode cX1_readOrder 107 = .ok (.goto 4, 3) := by decide +kernel
theorem dX1_readOrder_110 : decode cX1_readOrder 110 = .ok (.iconst 0, 1) := by decide +kernel
theorem dX1_readOrder_111 : decode cX1_readOrder 111 = .ok (.ireturn, 1) := by decide +kernel
theorem dX1_readOrder_112 : decode cX1_readOrder 112 = .ok (.aload_n 0, 1) := by decide +kernel
theorem dX1_readOrder_113 : decode cX1_readOrder 113 = .ok (.bipush 115, 2) := by decide +kernel
theorem dX1_readOrder_115 : decode cX1_readOrder 115 = .ok (.invokevirtual 37, 3) := by decide +kernel
theorem dX1_readOrder_118 : decode cX1_readOrder 118 = .ok (.ifCond .eq 46, 3) := by decide +kernel
theorem dX1_readOrder_121 : decode cX1_readOrder 121 = .ok (.aload_n 0, 1) := by decide +kernel
theorem dX1_readOrder_122 : decode cX1_readOrder 122 = .ok (.iload_n 1, 1) := by decide +kernel
theorem dX1_readOrder_123 : decode cX1_readOrder 123 = .ok (.iconst 1, 1) := by decide +kernel
theorem dX1_readOrder_124 : decode cX1_readOrder 124 = .ok (.invokevirtual 41, 3) := by decide +kernel
theorem dX1_readOrder_127 : decode cX1_readOrder 127 = .ok (.aload_n 0, 1) := by decide +kernel
theorem dX1_readOrder_128 : decode cX1_readOrder 128 = .ok (.iload_n 1, 1) := by decide +kernel
theorem dX1_readOrder_129 : decode cX1_readOrder 129 = .ok (.iconst 1, 1) := by decide +kernel
theorem dX1_readOrder_130 : decode cX1_readOrder 130 = .ok (.iadd, 1) := by decide +kernel
theorem dX1_readOrder_131 : decode cX1_readOrder 131 = .ok (.iconst 1, 1) := by decide +kernel
theorem dX1_readOrder_132 : decode cX1_readOrder 132 = .ok (.invokevirtual 45, 3) := by decide +kernel
theorem dX1_readOrder_135 : decode cX1_readOrder 135 = .ok (.ifCond .eq 27, 3) := by decide +kernel
theorem dX1_readOrder_138 : decode cX1_readOrder 138 = .ok (.aload_n 0, 1) := by decide +kernel
theorem dX1_readOrder_139 : decode cX1_readOrder 139 = .ok (.bipush 44, 2) := by decide +kernel
theorem dX1_readOrder_141 : decode cX1_readOrder 141 = .ok (.invokevirtual 37, 3) := by decide +kernel
theorem dX1_readOrder_144 : decode cX1_readOrder 144 = .ok (.ifCond .eq 18, 3) := by decide +kernel
theorem dX1_readOrder_147 : decode cX1_readOrder 147 = .ok (.aload_n 0, 1) := by decide +kernel
theorem dX1_readOrder_148 : decode cX1_readOrder 148 = .ok (.iload_n 1, 1) := by decide +kernel
theorem dX1_readOrder_149 : decode cX1_readOrder 149 = .ok (.iconst 2, 1) := by decide +kernel
theorem dX1_readOrder_150 : decode cX1_readOrder 150 = .ok (.iadd, 1) := by decide +kernel
theorem dX1_readOrder_151 : decode cX1_readOrder 151 = .ok (.iconst 1, 1) := by decide +kernel
theorem dX1_readOrder_152 : decode cX1_readOrder 152 = .ok (.invokevirtual 45, 3) := by decide +kernel
theorem dX1_readOrder_155 : decode cX1_readOrder 155 = .ok (.ifCond .eq 7, 3) := by decide +kernel
theorem dX1_readOrder_158 : decode cX1_readOrder 158 = .ok (.iconst 1, 1) := by decide +kernel
theorem dX1_readOrder_159 : decode cX1_readOrder 159 = .ok (.goto 4, 3) := by decide +kernel
theorem dX1_readOrder_162 : decode cX1_readOrder 162 = .ok (.iconst 0, 1) := by decide +kernel
theorem dX1_readOrder_163 : decode cX1_readOrder 163 = .ok (.ireturn, 1) := by decide +kernel
theorem dX1_readOrder_164 : decode cX1_readOrder 164 = .ok (.iconst 0, 1) := by decide +kernel
theorem dX1_readOrder_165 : decode cX1_readOrder 165 = .ok (.ireturn, 1) := by decide +kernel
set_option maxRecDepth 20000 in
theorem ggX1_readNumber_X1_takes : GoodIn wsX1_readNumber wsX1_takes := goodIn_r _ [6, 1, 7, 8, 9, 5, 10, 11, 12, 25, 26, 27, 28, 29] (by decide +kernel) (by decide +kernel)
set_option maxRecDepth 20000 in
theorem gX1_readNumber_X1_takes : GoodIn wsX1_readNumber (wsV RX1 37 RX1 yX1_takes wsX1_takes) := goodIn_app (goodIn_of _ (by decide +kernel)) ggX1_readNumber_X1_takes
set_option maxRecDepth 20000 in
theorem ggX1_readNumber_X1_digitHere : GoodIn wsX1_readNumber wsX1_digitHere := goodIn_r _ [16, 7, 8, 9, 5, 10, 1, 11, 12, 17, 18, 19, 25, 26, 27, 28, 29] (by decide +kernel) (by decide +kernel)
set_option maxRecDepth 20000 in
theorem gX1_readNumber_X1_digitHere : GoodIn wsX1_readNumber (wsV RX1 49 RX1 yX1_digitHere wsX1_digitHere) := goodIn_app (goodIn_of _ (by decide +kernel)) ggX1_readNumber_X1_digitHere
set_option maxRecDepth 20000 in
theorem ggX1_readNumber_X1_putPart : GoodIn wsX1_readNumber wsX1_putPart := goodIn_r _ [23, 24, 17, 18, 19, 25, 26, 27, 28, 29] (by decide +kernel) (by decide +kernel)
set_option maxRecDepth 20000 in
theorem gX1_readNumber_X1_putPart : GoodIn wsX1_readNumber (wsV RX1 41 RX1 yX1_putPart wsX1_putPart) := goodIn_app (goodIn_of _ (by decide +kernel)) ggX1_readNumber_X1_putPart
theorem dX1_readNumber_0 : decode cX1_readNumber 0 = .ok (.iload_n 2, 1) := by decide +kernel
theorem dX1_readNumber_1 : decode cX1_readNumber 1 = .ok (.ifCond .eq 16, 3) := by decide +kernel
theorem dX1_readNumber_4 : decode cX1_readNumber 4 = .ok (.aload_n 0, 1) := by decide +kernel
theorem dX1_readNumber_5 : decode cX1_readNumber 5 = .ok (.bipush 45, 2) := by decide +kernel
theorem dX1_readNumber_7 : decode cX1_readNumber 7 = .ok (.invokevirtual 37, 3) := by decide +kernel
theorem dX1_readNumber_10 : decode cX1_readNumber 10 = .ok (.ifCond .eq 7, 3) := by decide +kernel
theorem dX1_readNumber_13 : decode cX1_readNumber 13 = .ok (.iconst 1, 1) := by decide +kernel
theorem dX1_readNumber_14 : decode cX1_readNumber 14 = .ok (.goto 4, 3) := by decide +kernel
theorem dX1_readNumber_17 : decode cX1_readNumber 17 = .ok (.iconst 0, 1) := by decide +kernel
theorem dX1_readNumber_18 : decode cX1_readNumber 18 = .ok (.istore_n 3, 1) := by decide +kernel
theorem dX1_readNumber_19 : decode cX1_readNumber 19 = .ok (.aload_n 0, 1) := by decide +kernel
theorem dX1_readNumber_20 : decode cX1_readNumber 20 = .ok (.invokevirtual 49, 3) := by decide +kernel
theorem dX1_readNumber_23 : decode cX1_readNumber 23 = .ok (.istore 4, 2) := by decide +kernel
theorem dX1_readNumber_25 : decode cX1_readNumber 25 = .ok (.iload 4, 2) := by decide +kernel
theorem dX1_readNumber_27 : decode cX1_readNumber 27 = .ok (.ifCond .lt 12, 3) := by decide +kernel
theorem dX1_readNumber_30 : decode cX1_readNumber 30 = .ok (.iload_n 3, 1) := by decide +kernel
theorem dX1_readNumber_31 : decode cX1_readNumber 31 = .ok (.ifCond .eq 10, 3) := by decide +kernel
theorem dX1_readNumber_34 : decode cX1_readNumber 34 = .ok (.iload 4, 2) := by decide +kernel
theorem dX1_readNumber_36 : decode cX1_readNumber 36 = .ok (.ifCond .ne 5, 3) := by decide +kernel
theorem dX1_readNumber_39 : decode cX1_readNumber 39 = .ok (.iconst 0, 1) := by decide +kernel
theorem dX1_readNumber_40 : decode cX1_readNumber 40 = .ok (.ireturn, 1) := by decide +kernel
theorem dX1_readNumber_41 : decode cX1_readNumber 41 = .ok (.aload_n 0, 1) := by decide +kernel
theorem dX1_readNumber_42 : decode cX1_readNumber 42 = .ok (.dup, 1) := by decide +kernel
theorem dX1_readNumber_43 : decode cX1_readNumber 43 = .ok (.getfield 19, 3) := by decide +kernel
theorem dX1_readNumber_46 : decode cX1_readNumber 46 = .ok (.iconst 1, 1) := by decide +kernel
theorem dX1_readNumber_47 : decode cX1_readNumber 47 = .ok (.iadd, 1) := by decide +kernel
theorem dX1_readNumber_48 : decode cX1_readNumber 48 = .ok (.putfield 19, 3) := by decide +kernel
theorem dX1_readNumber_51 : decode cX1_readNumber 51 = .ok (.iload 4, 2) := by decide +kernel
theorem dX1_readNumber_53 : decode cX1_readNumber 53 = .ok (.ifCond .ne 7, 3) := by decide +kernel
theorem dX1_readNumber_56 : decode cX1_readNumber 56 = .ok (.iconst (-1), 1) := by decide +kernel
theorem dX1_readNumber_57 : decode cX1_readNumber 57 = .ok (.goto 7, 3) := by decide +kernel
theorem dX1_readNumber_60 : decode cX1_readNumber 60 = .ok (.aload_n 0, 1) := by decide +kernel
theorem dX1_readNumber_61 : decode cX1_readNumber 61 = .ok (.invokevirtual 49, 3) := by decide +kernel
theorem dX1_readNumber_64 : decode cX1_readNumber 64 = .ok (.istore 5, 2) := by decide +kernel
theorem dX1_readNumber_66 : decode cX1_readNumber 66 = .ok (.iload 5, 2) := by decide +kernel
theorem dX1_readNumber_68 : decode cX1_readNumber 68 = .ok (.ifCond .lt 23, 3) := by decide +kernel
theorem dX1_readNumber_71 : decode cX1_readNumber 71 = .ok (.iload 4, 2) := by decide +kernel
theorem dX1_readNumber_73 : decode cX1_readNumber 73 = .ok (.bipush 10, 2) := by decide +kernel
theorem dX1_readNumber_75 : decode cX1_readNumber 75 = .ok (.imul, 1) := by decide +kernel
theorem dX1_readNumber_76 : decode cX1_readNumber 76 = .ok (.iload 5, 2) := by decide +kernel
theorem dX1_readNumber_78 : decode cX1_readNumber 78 = .ok (.iadd, 1) := by decide +kernel
theorem dX1_readNumber_79 : decode cX1_readNumber 79 = .ok (.istore 4, 2) := by decide +kernel
theorem dX1_readNumber_81 : decode cX1_readNumber 81 = .ok (.aload_n 0, 1) := by decide +kernel
theorem dX1_readNumber_82 : decode cX1_readNumber 82 = .ok (.dup, 1) := by decide +kernel
theorem dX1_readNumber_83 : decode cX1_readNumber 83 = .ok (.getfield 19, 3) := by decide +kernel
theorem dX1_readNumber_86 : decode cX1_readNumber 86 = .ok (.iconst 1, 1) := by decide +kernel
theorem dX1_readNumber_87 : decode cX1_readNumber 87 = .ok (.iadd, 1) := by decide +kernel
theorem dX1_readNumber_88 : decode cX1_readNumber 88 = .ok (.putfield 19, 3) := by decide +kernel
theorem dX1_readNumber_91 : decode cX1_readNumber 91 = .ok (.aload_n 0, 1) := by decide +kernel
theorem dX1_readNumber_92 : decode cX1_readNumber 92 = .ok (.iload_n 1, 1) := by decide +kernel
theorem dX1_readNumber_93 : decode cX1_readNumber 93 = .ok (.iload_n 3, 1) := by decide +kernel
theorem dX1_readNumber_94 : decode cX1_readNumber 94 = .ok (.ifCond .eq 9, 3) := by decide +kernel
theorem dX1_readNumber_97 : decode cX1_readNumber 97 = .ok (.iload 4, 2) := by decide +kernel
theorem dX1_readNumber_99 : decode cX1_readNumber 99 = .ok (.ineg, 1) := by decide +kernel
theorem dX1_readNumber_100 : decode cX1_readNumber 100 = .ok (.goto 5, 3) := by decide +kernel
theorem dX1_readNumber_103 : decode cX1_readNumber 103 = .ok (.iload 4, 2) := by decide +kernel
theorem dX1_readNumber_105 : decode cX1_readNumber 105 = .ok (.invokevirtual 41, 3) := by decide +kernel
theorem dX1_readNumber_108 : decode cX1_readNumber 108 = .ok (.iconst 1, 1) := by decide +kernel
theorem dX1_readNumber_109 : decode cX1_readNumber 109 = .ok (.ireturn, 1) := by decide +kernel
set_option maxRecDepth 20000 in
theorem ggX1_takes_X1_signHere : GoodIn wsX1_takes wsX1_signHere := goodIn_r _ [6, 1, 7, 8, 9, 10, 11, 12, 13] (by decide +kernel) (by decide +kernel)
set_option maxRecDepth 20000 in
theorem gX1_takes_X1_signHere : GoodIn wsX1_takes (wsV RX1 53 RX1 yX1_signHere wsX1_signHere) := goodIn_app (goodIn_of _ (by decide +kernel)) ggX1_takes_X1_signHere
theorem dX1_takes_0 : decode cX1_takes 0 = .ok (.aload_n 0, 1) := by decide +kernel
theorem dX1_takes_1 : decode cX1_takes 1 = .ok (.invokevirtual 53, 3) := by decide +kernel
theorem dX1_takes_4 : decode cX1_takes 4 = .ok (.iload_n 1, 1) := by decide +kernel
theorem dX1_takes_5 : decode cX1_takes 5 = .ok (.if_icmp .eq 5, 3) := by decide +kernel
theorem dX1_takes_8 : decode cX1_takes 8 = .ok (.iconst 0, 1) := by decide +kernel
theorem dX1_takes_9 : decode cX1_takes 9 = .ok (.ireturn, 1) := by decide +kernel
theorem dX1_takes_10 : decode cX1_takes 10 = .ok (.aload_n 0, 1) := by decide +kernel
theorem dX1_takes_11 : decode cX1_takes 11 = .ok (.dup, 1) := by decide +kernel
theorem dX1_takes_12 : decode cX1_takes 12 = .ok (.getfield 19, 3) := by decide +kernel
theorem dX1_takes_15 : decode cX1_takes 15 = .ok (.iconst 1, 1) := by decide +kernel
theorem dX1_takes_16 : decode cX1_takes 16 = .ok (.iadd, 1) := by decide +kernel
theorem dX1_takes_17 : decode cX1_takes 17 = .ok (.putfield 19, 3) := by decide +kernel
theorem dX1_takes_20 : decode cX1_takes 20 = .ok (.iconst 1, 1) := by decide +kernel
theorem dX1_takes_21 : decode cX1_takes 21 = .ok (.ireturn, 1) := by decide +kernel
set_option maxRecDepth 20000 in
theorem ggX1_digitHere_X1_signHere : GoodIn wsX1_digitHere wsX1_signHere := goodIn_r _ [5, 6, 7, 8, 12, 13, 14, 15, 16] (by decide +kernel) (by decide +kernel)
set_option maxRecDepth 20000 in
theorem gX1_digitHere_X1_signHere : GoodIn wsX1_digitHere (wsV RX1 53 RX1 yX1_signHere wsX1_signHere) := goodIn_app (goodIn_of _ (by decide +kernel)) ggX1_digitHere_X1_signHere
set_option maxRecDepth 20000 in
theorem ggX1_digitHere_X4_isBetween : GoodIn wsX1_digitHere wsX4_isBetween := goodIn_r _ [11] (by decide +kernel) (by decide +kernel)
set_option maxRecDepth 20000 in
theorem gX1_digitHere_X4_isBetween_n29 : GoodIn wsX1_digitHere (wsX4_isBetween) := ggX1_digitHere_X4_isBetween
theorem dX1_digitHere_0 : decode cX1_digitHere 0 = .ok (.aload_n 0, 1) := by decide +kernel
theorem dX1_digitHere_1 : decode cX1_digitHere 1 = .ok (.invokevirtual 53, 3) := by decide +kernel
theorem dX1_digitHere_4 : decode cX1_digitHere 4 = .ok (.istore_n 1, 1) := by decide +kernel
theorem dX1_digitHere_5 : decode cX1_digitHere 5 = .ok (.iload_n 1, 1) := by decide +kernel
theorem dX1_digitHere_6 : decode cX1_digitHere 6 = .ok (.bipush 48, 2) := by decide +kernel
theorem dX1_digitHere_8 : decode cX1_digitHere 8 = .ok (.bipush 57, 2) := by decide +kernel
theorem dX1_digitHere_10 : decode cX1_digitHere 10 = .ok (.invokestatic 29, 3) := by decide +kernel
theorem dX1_digitHere_13 : decode cX1_digitHere 13 = .ok (.ifCond .eq 10, 3) := by decide +kernel
theorem dX1_digitHere_16 : decode cX1_digitHere 16 = .ok (.iload_n 1, 1) := by decide +kernel
theorem dX1_digitHere_17 : decode cX1_digitHere 17 = .ok (.bipush 48, 2) := by decide +kernel
theorem dX1_digitHere_19 : decode cX1_digitHere 19 = .ok (.isub, 1) := by decide +kernel
theorem dX1_digitHere_20 : decode cX1_digitHere 20 = .ok (.goto 4, 3) := by decide +kernel
theorem dX1_digitHere_23 : decode cX1_digitHere 23 = .ok (.iconst (-1), 1) := by decide +kernel
theorem dX1_digitHere_24 : decode cX1_digitHere 24 = .ok (.ireturn, 1) := by decide +kernel
theorem dX1_signHere_0 : decode cX1_signHere 0 = .ok (.aload_n 0, 1) := by decide +kernel
theorem dX1_signHere_1 : decode cX1_signHere 1 = .ok (.getfield 19, 3) := by decide +kernel
theorem dX1_signHere_4 : decode cX1_signHere 4 = .ok (.ifCond .lt 23, 3) := by decide +kernel
theorem dX1_signHere_7 : decode cX1_signHere 7 = .ok (.aload_n 0, 1) := by decide +kernel
theorem dX1_signHere_8 : decode cX1_signHere 8 = .ok (.getfield 19, 3) := by decide +kernel
theorem dX1_signHere_11 : decode cX1_signHere 11 = .ok (.aload_n 0, 1) := by decide +kernel
theorem dX1_signHere_12 : decode cX1_signHere 12 = .ok (.getfield 15, 3) := by decide +kernel
theorem dX1_signHere_15 : decode cX1_signHere 15 = .ok (.if_icmp .ge 12, 3) := by decide +kernel
theorem dX1_signHere_18 : decode cX1_signHere 18 = .ok (.aload_n 0, 1) := by decide +kernel
theorem dX1_signHere_19 : decode cX1_signHere 19 = .ok (.getfield 19, 3) := by decide +kernel
theorem dX1_signHere_22 : decode cX1_signHere 22 = .ok (.bipush 60, 2) := by decide +kernel
theorem dX1_signHere_24 : decode cX1_signHere 24 = .ok (.if_icmp .lt 5, 3) := by decide +kernel
theorem dX1_signHere_27 : decode cX1_signHere 27 = .ok (.iconst (-1), 1) := by decide +kernel
theorem dX1_signHere_28 : decode cX1_signHere 28 = .ok (.ireturn, 1) := by decide +kernel
theorem dX1_signHere_29 : decode cX1_signHere 29 = .ok (.aload_n 0, 1) := by decide +kernel
theorem dX1_signHere_30 : decode cX1_signHere 30 = .ok (.getfield 9, 3) := by decide +kernel
theorem dX1_signHere_33 : decode cX1_signHere 33 = .ok (.aload_n 0, 1) := by decide +kernel
theorem dX1_signHere_34 : decode cX1_signHere 34 = .ok (.getfield 19, 3) := by decide +kernel
theorem dX1_signHere_37 : decode cX1_signHere 37 = .ok (.caload, 1) := by decide +kernel
theorem dX1_signHere_38 : decode cX1_signHere 38 = .ok (.ireturn, 1) := by decide +kernel
theorem dX2_init_0 : decode cX2_init 0 = .ok (.aload_n 0, 1) := by decide +kernel
theorem dX2_init_1 : decode cX2_init 1 = .ok (.invokespecial 3, 3) := by decide +kernel
theorem dX2_init_4 : decode cX2_init 4 = .ok (.aload_n 0, 1) := by decide +kernel
theorem dX2_init_5 : decode cX2_init 5 = .ok (.sipush 144, 3) := by decide +kernel
theorem dX2_init_8 : decode cX2_init 8 = .ok (.newarray .int, 2) := by decide +kernel
theorem dX2_init_10 : decode cX2_init 10 = .ok (.putfield 9, 3) := by decide +kernel
theorem dX2_init_13 : decode cX2_init 13 = .ok (.return_, 1) := by decide +kernel
set_option maxRecDepth 20000 in
theorem ggX2_levelAt_X4_isPoint : GoodIn wsX2_levelAt wsX4_isPoint := goodIn_r _ [4] (by decide +kernel) (by decide +kernel)
set_option maxRecDepth 20000 in
theorem gX2_levelAt_X4_isPoint_n15 : GoodIn wsX2_levelAt (wsX4_isPoint) := ggX2_levelAt_X4_isPoint
theorem dX2_levelAt_0 : decode cX2_levelAt 0 = .ok (.iload_n 1, 1) := by decide +kernel
theorem dX2_levelAt_1 : decode cX2_levelAt 1 = .ok (.iload_n 2, 1) := by decide +kernel
theorem dX2_levelAt_2 : decode cX2_levelAt 2 = .ok (.invokestatic 15, 3) := by decide +kernel
theorem dX2_levelAt_5 : decode cX2_levelAt 5 = .ok (.ifCond .eq 17, 3) := by decide +kernel
theorem dX2_levelAt_8 : decode cX2_levelAt 8 = .ok (.aload_n 0, 1) := by decide +kernel
theorem dX2_levelAt_9 : decode cX2_levelAt 9 = .ok (.getfield 9, 3) := by decide +kernel
theorem dX2_levelAt_12 : decode cX2_levelAt 12 = .ok (.iload_n 2, 1) := by decide +kernel
theorem dX2_levelAt_13 : decode cX2_levelAt 13 = .ok (.bipush 12, 2) := by decide +kernel
theorem dX2_levelAt_15 : decode cX2_levelAt 15 = .ok (.imul, 1) := by decide +kernel
theorem dX2_levelAt_16 : decode cX2_levelAt 16 = .ok (.iload_n 1, 1) := by decide +kernel
theorem dX2_levelAt_17 : decode cX2_levelAt 17 = .ok (.iadd, 1) := by decide +kernel
theorem dX2_levelAt_18 : decode cX2_levelAt 18 = .ok (.iaload, 1) := by decide +kernel
theorem dX2_levelAt_19 : decode cX2_levelAt 19 = .ok (.goto 4, 3) := by decide +kernel
theorem dX2_levelAt_22 : decode cX2_levelAt 22 = .ok (.iconst 0, 1) := by decide +kernel
theorem dX2_levelAt_23 : decode cX2_levelAt 23 = .ok (.ireturn, 1) := by decide +kernel
set_option maxRecDepth 20000 in
theorem ggX2_putLevel_X4_isPoint : GoodIn wsX2_putLevel wsX4_isPoint := goodIn_r _ [4] (by decide +kernel) (by decide +kernel)
set_option maxRecDepth 20000 in
theorem gX2_putLevel_X4_isPoint_n15 : GoodIn wsX2_putLevel (wsX4_isPoint) := ggX2_putLevel_X4_isPoint
theorem dX2_putLevel_0 : decode cX2_putLevel 0 = .ok (.iload_n 1, 1) := by decide +kernel
theorem dX2_putLevel_1 : decode cX2_putLevel 1 = .ok (.iload_n 2, 1) := by decide +kernel
theorem dX2_putLevel_2 : decode cX2_putLevel 2 = .ok (.invokestatic 15, 3) := by decide +kernel
theorem dX2_putLevel_5 : decode cX2_putLevel 5 = .ok (.ifCond .eq 15, 3) := by decide +kernel
theorem dX2_putLevel_8 : decode cX2_putLevel 8 = .ok (.aload_n 0, 1) := by decide +kernel
theorem dX2_putLevel_9 : decode cX2_putLevel 9 = .ok (.getfield 9, 3) := by decide +kernel
theorem dX2_putLevel_12 : decode cX2_putLevel 12 = .ok (.iload_n 2, 1) := by decide +kernel
theorem dX2_putLevel_13 : decode cX2_putLevel 13 = .ok (.bipush 12, 2) := by decide +kernel
theorem dX2_putLevel_15 : decode cX2_putLevel 15 = .ok (.imul, 1) := by decide +kernel
theorem dX2_putLevel_16 : decode cX2_putLevel 16 = .ok (.iload_n 1, 1) := by decide +kernel
theorem dX2_putLevel_17 : decode cX2_putLevel 17 = .ok (.iadd, 1) := by decide +kernel
theorem dX2_putLevel_18 : decode cX2_putLevel 18 = .ok (.iload_n 3, 1) := by decide +kernel
theorem dX2_putLevel_19 : decode cX2_putLevel 19 = .ok (.iastore, 1) := by decide +kernel
theorem dX2_putLevel_20 : decode cX2_putLevel 20 = .ok (.return_, 1) := by decide +kernel
theorem dX2_copyFrom_0 : decode cX2_copyFrom 0 = .ok (.aload_n 1, 1) := by decide +kernel
theorem dX2_copyFrom_1 : decode cX2_copyFrom 1 = .ok (.getfield 9, 3) := by decide +kernel
theorem dX2_copyFrom_4 : decode cX2_copyFrom 4 = .ok (.iconst 0, 1) := by decide +kernel
theorem dX2_copyFrom_5 : decode cX2_copyFrom 5 = .ok (.aload_n 0, 1) := by decide +kernel
theorem dX2_copyFrom_6 : decode cX2_copyFrom 6 = .ok (.getfield 9, 3) := by decide +kernel
theorem dX2_copyFrom_9 : decode cX2_copyFrom 9 = .ok (.iconst 0, 1) := by decide +kernel
theorem dX2_copyFrom_10 : decode cX2_copyFrom 10 = .ok (.sipush 144, 3) := by decide +kernel
theorem dX2_copyFrom_13 : decode cX2_copyFrom 13 = .ok (.invokestatic 19, 3) := by decide +kernel
theorem dX2_copyFrom_16 : decode cX2_copyFrom 16 = .ok (.return_, 1) := by decide +kernel
set_option maxRecDepth 20000 in
theorem ggX2_putBox_X2_levelAt : GoodIn wsX2_putBox wsX2_levelAt := goodIn_r _ [9, 10, 11, 12, 13, 18] (by decide +kernel) (by decide +kernel)
set_option maxRecDepth 20000 in
theorem gX2_putBox_X2_levelAt : GoodIn wsX2_putBox (wsV RX2 31 RX2 yX2_levelAt wsX2_levelAt) := goodIn_app (goodIn_of _ (by decide +kernel)) ggX2_putBox_X2_levelAt
set_option maxRecDepth 20000 in
theorem ggX2_putBox_X2_putLevel : GoodIn wsX2_putBox wsX2_putLevel := goodIn_r _ [17, 10, 11, 12, 13, 18] (by decide +kernel) (by decide +kernel)
set_option maxRecDepth 20000 in
theorem gX2_putBox_X2_putLevel : GoodIn wsX2_putBox (wsV RX2 34 RX2 yX2_putLevel wsX2_putLevel) := goodIn_app (goodIn_of _ (by decide +kernel)) ggX2_putBox_X2_putLevel
theorem dX2_putBox_0 : decode cX2_putBox 0 = .ok (.bipush 12, 2) := by decide +kernel
theorem dX2_putBox_2 : decode cX2_putBox 2 = .ok (.iload_n 1, 1) := by decide +kernel
theorem dX2_putBox_3 : decode cX2_putBox 3 = .ok (.iload_n 3, 1) := by decide +kernel
theorem dX2_putBox_4 : decode cX2_putBox 4 = .ok (.iadd, 1) := by decide +kernel
theorem dX2_putBox_5 : decode cX2_putBox 5 = .ok (.invokestatic 25, 3) := by decide +kernel
theorem dX2_putBox_8 : decode cX2_putBox 8 = .ok (.istore 6, 2) := by decide +kernel
theorem dX2_putBox_10 : decode cX2_putBox 10 = .ok (.bipush 12, 2) := by decide +kernel
theorem dX2_putBox_12 : decode cX2_putBox 12 = .ok (.iload_n 2, 1) := by decide +kernel
theorem dX2_putBox_13 : decode cX2_putBox 13 = .ok (.iload 4, 2) := by decide +kernel
theorem dX2_putBox_15 : decode cX2_putBox 15 = .ok (.iadd, 1) := by decide +kernel
theorem dX2_putBox_16 : decode cX2_putBox 16 = .ok (.invokestatic 25, 3) := by decide +kernel
theorem dX2_putBox_19 : decode cX2_putBox 19 = .ok (.istore 7, 2) := by decide +kernel
theorem dX2_putBox_21 : decode cX2_putBox 21 = .ok (.iconst 0, 1) := by decide +kernel
theorem dX2_putBox_22 : decode cX2_putBox 22 = .ok (.istore 8, 2) := by decide +kernel
theorem dX2_putBox_24 : decode cX2_putBox 24 = .ok (.iload_n 2, 1) := by decide +kernel
theorem dX2_putBox_25 : decode cX2_putBox 25 = .ok (.istore 9, 2) := by decide +kernel
theorem dX2_putBox_27 : decode cX2_putBox 27 = .ok (.iload 9, 2) := by decide +kernel
theorem dX2_putBox_29 : decode cX2_putBox 29 = .ok (.iload 7, 2) := by decide +kernel
theorem dX2_putBox_31 : decode cX2_putBox 31 = .ok (.if_icmp .ge 58, 3) := by decide +kernel
theorem dX2_putBox_34 : decode cX2_putBox 34 = .ok (.iload_n 1, 1) := by decide +kernel
theorem dX2_putBox_35 : decode cX2_putBox 35 = .ok (.istore 10, 2) := by decide +kernel
theorem dX2_putBox_37 : decode cX2_putBox 37 = .ok (.iload 10, 2) := by decide +kernel
theorem dX2_putBox_39 : decode cX2_putBox 39 = .ok (.iload 6, 2) := by decide +kernel
theorem dX2_putBox_41 : decode cX2_putBox 41 = .ok (.if_icmp .ge 42, 3) := by decide +kernel
theorem dX2_putBox_44 : decode cX2_putBox 44 = .ok (.iload 8, 2) := by decide +kernel
theorem dX2_putBox_46 : decode cX2_putBox 46 = .ok (.aload_n 0, 1) := by decide +kernel
theorem dX2_putBox_47 : decode cX2_putBox 47 = .ok (.iload 10, 2) := by decide +kernel
theorem dX2_putBox_49 : decode cX2_putBox 49 = .ok (.iload 9, 2) := by decide +kernel
theorem dX2_putBox_51 : decode cX2_putBox 51 = .ok (.invokevirtual 31, 3) := by decide +kernel
theorem dX2_putBox_54 : decode cX2_putBox 54 = .ok (.iload 5, 2) := by decide +kernel
theorem dX2_putBox_56 : decode cX2_putBox 56 = .ok (.if_icmp .ne 7, 3) := by decide +kernel
theorem dX2_putBox_59 : decode cX2_putBox 59 = .ok (.iconst 0, 1) := by decide +kernel
theorem dX2_putBox_60 : decode cX2_putBox 60 = .ok (.goto 4, 3) := by decide +kernel
theorem dX2_putBox_63 : decode cX2_putBox 63 = .ok (.iconst 1, 1) := by decide +kernel
theorem dX2_putBox_64 : decode cX2_putBox 64 = .ok (.iadd, 1) := by decide +kernel
theorem dX2_putBox_65 : decode cX2_putBox 65 = .ok (.istore 8, 2) := by decide +kernel
theorem dX2_putBox_67 : decode cX2_putBox 67 = .ok (.aload_n 0, 1) := by decide +kernel
theorem dX2_putBox_68 : decode cX2_putBox 68 = .ok (.iload 10, 2) := by decide +kernel
theorem dX2_putBox_70 : decode cX2_putBox 70 = .ok (.iload 9, 2) := by decide +kernel
theorem dX2_putBox_72 : decode cX2_putBox 72 = .ok (.iload 5, 2) := by decide +kernel
theorem dX2_putBox_74 : decode cX2_putBox 74 = .ok (.invokevirtual 34, 3) := by decide +kernel
theorem dX2_putBox_77 : decode cX2_putBox 77 = .ok (.iinc 10 1, 3) := by decide +kernel
theorem dX2_putBox_80 : decode cX2_putBox 80 = .ok (.goto (-43), 3) := by decide +kernel
theorem dX2_putBox_83 : decode cX2_putBox 83 = .ok (.iinc 9 1, 3) := by decide +kernel
theorem dX2_putBox_86 : decode cX2_putBox 86 = .ok (.goto (-59), 3) := by decide +kernel
theorem dX2_putBox_89 : decode cX2_putBox 89 = .ok (.iload 8, 2) := by decide +kernel
theorem dX2_putBox_91 : decode cX2_putBox 91 = .ok (.ireturn, 1) := by decide +kernel
set_option maxRecDepth 20000 in
theorem ggX2_moveBy_X2_copyFrom : GoodIn wsX2_moveBy wsX2_copyFrom := goodIn_r _ [5, 6, 7, 8, 9, 10, 26] (by decide +kernel) (by decide +kernel)
set_option maxRecDepth 20000 in
theorem gX2_moveBy_X2_copyFrom : GoodIn wsX2_moveBy (wsV RX2 38 RX2 yX2_copyFrom wsX2_copyFrom) := goodIn_app (goodIn_of _ (by decide +kernel)) ggX2_moveBy_X2_copyFrom
set_option maxRecDepth 20000 in
theorem ggX2_moveBy_X2_levelAt : GoodIn wsX2_moveBy wsX2_levelAt := goodIn_r _ [14, 6, 15, 16, 17, 26] (by decide +kernel) (by decide +kernel)
set_option maxRecDepth 20000 in
theorem gX2_moveBy_X2_levelAt : GoodIn wsX2_moveBy (wsV RX2 31 RX2 yX2_levelAt wsX2_levelAt) := goodIn_app (goodIn_of _ (by decide +kernel)) ggX2_moveBy_X2_levelAt
set_option maxRecDepth 20000 in
theorem ggX2_moveBy_X2_putLevel : GoodIn wsX2_moveBy wsX2_putLevel := goodIn_r _ [21, 6, 15, 16, 17, 26] (by decide +kernel) (by decide +kernel)
set_option maxRecDepth 20000 in
theorem gX2_moveBy_X2_putLevel : GoodIn wsX2_moveBy (wsV RX2 34 RX2 yX2_putLevel wsX2_putLevel) := goodIn_app (goodIn_of _ (by decide +kernel)) ggX2_moveBy_X2_putLevel
set_option maxRecDepth 20000 in
theorem ggX2_moveBy_X2_unlikePoints : GoodIn wsX2_moveBy wsX2_unlikePoints := goodIn_r _ [25, 6, 26] (by decide +kernel) (by decide +kernel)
set_option maxRecDepth 20000 in
theorem gX2_moveBy_X2_unlikePoints : GoodIn wsX2_moveBy (wsV RX2 42 RX2 yX2_unlikePoints wsX2_unlikePoints) := goodIn_app (goodIn_of _ (by decide +kernel)) ggX2_moveBy_X2_unlikePoints
theorem dX2_moveBy_0 : decode cX2_moveBy 0 = .ok (.aload_n 3, 1) := by decide +kernel
theorem dX2_moveBy_1 : decode cX2_moveBy 1 = .ok (.aload_n 0, 1) := by decide +kernel
theorem dX2_moveBy_2 : decode cX2_moveBy 2 = .ok (.invokevirtual 38, 3) := by decide +kernel
theorem dX2_moveBy_5 : decode cX2_moveBy 5 = .ok (.iconst 0, 1) := by decide +kernel
theorem dX2_moveBy_6 : decode cX2_moveBy 6 = .ok (.istore 4, 2) := by decide +kernel
theorem dX2_moveBy_8 : decode cX2_moveBy 8 = .ok (.iload 4, 2) := by decide +kernel
theorem dX2_moveBy_10 : decode cX2_moveBy 10 = .ok (.bipush 12, 2) := by decide +kernel
theorem dX2_moveBy_12 : decode cX2_moveBy 12 = .ok (.if_icmp .ge 45, 3) := by decide +kernel
theorem dX2_moveBy_15 : decode cX2_moveBy 15 = .ok (.iconst 0, 1) := by decide +kernel
theorem dX2_moveBy_16 : decode cX2_moveBy 16 = .ok (.istore 5, 2) := by decide +kernel
theorem dX2_moveBy_18 : decode cX2_moveBy 18 = .ok (.iload 5, 2) := by decide +kernel
theorem dX2_moveBy_20 : decode cX2_moveBy 20 = .ok (.bipush 12, 2) := by decide +kernel
theorem dX2_moveBy_22 : decode cX2_moveBy 22 = .ok (.if_icmp .ge 29, 3) := by decide +kernel
theorem dX2_moveBy_25 : decode cX2_moveBy 25 = .ok (.aload_n 0, 1) := by decide +kernel
theorem dX2_moveBy_26 : decode cX2_moveBy 26 = .ok (.iload 5, 2) := by decide +kernel
theorem dX2_moveBy_28 : decode cX2_moveBy 28 = .ok (.iload 4, 2) := by decide +kernel
theorem dX2_moveBy_30 : decode cX2_moveBy 30 = .ok (.aload_n 3, 1) := by decide +kernel
theorem dX2_moveBy_31 : decode cX2_moveBy 31 = .ok (.iload 5, 2) := by decide +kernel
theorem dX2_moveBy_33 : decode cX2_moveBy 33 = .ok (.iload_n 1, 1) := by decide +kernel
theorem dX2_moveBy_34 : decode cX2_moveBy 34 = .ok (.isub, 1) := by decide +kernel
theorem dX2_moveBy_35 : decode cX2_moveBy 35 = .ok (.iload 4, 2) := by decide +kernel
theorem dX2_moveBy_37 : decode cX2_moveBy 37 = .ok (.iload_n 2, 1) := by decide +kernel
theorem dX2_moveBy_38 : decode cX2_moveBy 38 = .ok (.isub, 1) := by decide +kernel
theorem dX2_moveBy_39 : decode cX2_moveBy 39 = .ok (.invokevirtual 31, 3) := by decide +kernel
theorem dX2_moveBy_42 : decode cX2_moveBy 42 = .ok (.invokevirtual 34, 3) := by decide +kernel
theorem dX2_moveBy_45 : decode cX2_moveBy 45 = .ok (.iinc 5 1, 3) := by decide +kernel
theorem dX2_moveBy_48 : decode cX2_moveBy 48 = .ok (.goto (-30), 3) := by decide +kernel
theorem dX2_moveBy_51 : decode cX2_moveBy 51 = .ok (.iinc 4 1, 3) := by decide +kernel
theorem dX2_moveBy_54 : decode cX2_moveBy 54 = .ok (.goto (-46), 3) := by decide +kernel
theorem dX2_moveBy_57 : decode cX2_moveBy 57 = .ok (.aload_n 0, 1) := by decide +kernel
theorem dX2_moveBy_58 : decode cX2_moveBy 58 = .ok (.aload_n 3, 1) := by decide +kernel
theorem dX2_moveBy_59 : decode cX2_moveBy 59 = .ok (.invokevirtual 42, 3) := by decide +kernel
theorem dX2_moveBy_62 : decode cX2_moveBy 62 = .ok (.ireturn, 1) := by decide +kernel
set_option maxRecDepth 20000 in
theorem ggX2_takeTile_X4_tileColumn : GoodIn wsX2_takeTile wsX4_tileColumn := goodIn_r _ [3] (by decide +kernel) (by decide +kernel)
set_option maxRecDepth 20000 in
theorem gX2_takeTile_X4_tileColumn_n46 : GoodIn wsX2_takeTile (wsX4_tileColumn) := ggX2_takeTile_X4_tileColumn
set_option maxRecDepth 20000 in
theorem ggX2_takeTile_X4_tileRow : GoodIn wsX2_takeTile wsX4_tileRow := goodIn_r _ [5] (by decide +kernel) (by decide +kernel)
set_option maxRecDepth 20000 in
theorem gX2_takeTile_X4_tileRow_n50 : GoodIn wsX2_takeTile (wsX4_tileRow) := ggX2_takeTile_X4_tileRow
set_option maxRecDepth 20000 in
theorem ggX2_takeTile_X4_stepRight : GoodIn wsX2_takeTile wsX4_stepRight := goodIn_r _ [7, 8, 9, 10, 2, 11] (by decide +kernel) (by decide +kernel)
set_option maxRecDepth 20000 in
theorem gX2_takeTile_X4_stepRight_n53 : GoodIn wsX2_takeTile (wsX4_stepRight) := ggX2_takeTile_X4_stepRight
set_option maxRecDepth 20000 in
theorem ggX2_takeTile_X4_stepDown : GoodIn wsX2_takeTile wsX4_stepDown := goodIn_r _ [13, 14, 9, 10, 2, 11] (by decide +kernel) (by decide +kernel)
set_option maxRecDepth 20000 in
theorem gX2_takeTile_X4_stepDown_n56 : GoodIn wsX2_takeTile (wsX4_stepDown) := ggX2_takeTile_X4_stepDown
set_option maxRecDepth 20000 in
theorem ggX2_takeTile_X2_levelAt : GoodIn wsX2_takeTile wsX2_levelAt := goodIn_r _ [19, 20, 21, 2, 22, 27] (by decide +kernel) (by decide +kernel)
set_option maxRecDepth 20000 in
theorem gX2_takeTile_X2_levelAt : GoodIn wsX2_takeTile (wsV RX2 31 RX2 yX2_levelAt wsX2_levelAt) := goodIn_app (goodIn_of _ (by decide +kernel)) ggX2_takeTile_X2_levelAt
set_option maxRecDepth 20000 in
theorem ggX2_takeTile_X2_putLevel : GoodIn wsX2_takeTile wsX2_putLevel := goodIn_r _ [26, 20, 21, 2, 22, 27] (by decide +kernel) (by decide +kernel)
set_option maxRecDepth 20000 in
theorem gX2_takeTile_X2_putLevel : GoodIn wsX2_takeTile (wsV RX2 34 RX2 yX2_putLevel wsX2_putLevel) := goodIn_app (goodIn_of _ (by decide +kernel)) ggX2_takeTile_X2_putLevel
theorem dX2_takeTile_0 : decode cX2_takeTile 0 = .ok (.iload_n 2, 1) := by decide +kernel
theorem dX2_takeTile_1 : decode cX2_takeTile 1 = .ok (.invokestatic 46, 3) := by decide +kernel
theorem dX2_takeTile_4 : decode cX2_takeTile 4 = .ok (.istore 4, 2) := by decide +kernel
theorem dX2_takeTile_6 : decode cX2_takeTile 6 = .ok (.iload_n 2, 1) := by decide +kernel
theorem dX2_takeTile_7 : decode cX2_takeTile 7 = .ok (.invokestatic 50, 3) := by decide +kernel
theorem dX2_takeTile_10 : decode cX2_takeTile 10 = .ok (.istore 5, 2) := by decide +kernel
theorem dX2_takeTile_12 : decode cX2_takeTile 12 = .ok (.iload_n 3, 1) := by decide +kernel
theorem dX2_takeTile_13 : decode cX2_takeTile 13 = .ok (.invokestatic 53, 3) := by decide +kernel
theorem dX2_takeTile_16 : decode cX2_takeTile 16 = .ok (.istore 6, 2) := by decide +kernel
theorem dX2_takeTile_18 : decode cX2_takeTile 18 = .ok (.iload_n 3, 1) := by decide +kernel
theorem dX2_takeTile_19 : decode cX2_takeTile 19 = .ok (.invokestatic 56, 3) := by decide +kernel
theorem dX2_takeTile_22 : decode cX2_takeTile 22 = .ok (.istore 7, 2) := by decide +kernel
theorem dX2_takeTile_24 : decode cX2_takeTile 24 = .ok (.iload 5, 2) := by decide +kernel
theorem dX2_takeTile_26 : decode cX2_takeTile 26 = .ok (.istore 8, 2) := by decide +kernel
theorem dX2_takeTile_28 : decode cX2_takeTile 28 = .ok (.iload 8, 2) := by decide +kernel
theorem dX2_takeTile_30 : decode cX2_takeTile 30 = .ok (.iload 5, 2) := by decide +kernel
theorem dX2_takeTile_32 : decode cX2_takeTile 32 = .ok (.iconst 4, 1) := by decide +kernel
theorem dX2_takeTile_33 : decode cX2_takeTile 33 = .ok (.iadd, 1) := by decide +kernel
theorem dX2_takeTile_34 : decode cX2_takeTile 34 = .ok (.if_icmp .ge 50, 3) := by decide +kernel
theorem dX2_takeTile_37 : decode cX2_takeTile 37 = .ok (.iload 4, 2) := by decide +kernel
theorem dX2_takeTile_39 : decode cX2_takeTile 39 = .ok (.istore 9, 2) := by decide +kernel
theorem dX2_takeTile_41 : decode cX2_takeTile 41 = .ok (.iload 9, 2) := by decide +kernel
theorem dX2_takeTile_43 : decode cX2_takeTile 43 = .ok (.iload 4, 2) := by decide +kernel
theorem dX2_takeTile_45 : decode cX2_takeTile 45 = .ok (.iconst 4, 1) := by decide +kernel
theorem dX2_takeTile_46 : decode cX2_takeTile 46 = .ok (.iadd, 1) := by decide +kernel
theorem dX2_takeTile_47 : decode cX2_takeTile 47 = .ok (.if_icmp .ge 31, 3) := by decide +kernel
theorem dX2_takeTile_50 : decode cX2_takeTile 50 = .ok (.aload_n 0, 1) := by decide +kernel
theorem dX2_takeTile_51 : decode cX2_takeTile 51 = .ok (.iload 9, 2) := by decide +kernel
theorem dX2_takeTile_53 : decode cX2_takeTile 53 = .ok (.iload 8, 2) := by decide +kernel
theorem dX2_takeTile_55 : decode cX2_takeTile 55 = .ok (.aload_n 1, 1) := by decide +kernel
theorem dX2_takeTile_56 : decode cX2_takeTile 56 = .ok (.iload 9, 2) := by decide +kernel
theorem dX2_takeTile_58 : decode cX2_takeTile 58 = .ok (.iload 6, 2) := by decide +kernel
theorem dX2_takeTile_60 : decode cX2_takeTile 60 = .ok (.iadd, 1) := by decide +kernel
theorem dX2_takeTile_61 : decode cX2_takeTile 61 = .ok (.iload 8, 2) := by decide +kernel
theorem dX2_takeTile_63 : decode cX2_takeTile 63 = .ok (.iload 7, 2) := by decide +kernel
theorem dX2_takeTile_65 : decode cX2_takeTile 65 = .ok (.iadd, 1) := by decide +kernel
theorem dX2_takeTile_66 : decode cX2_takeTile 66 = .ok (.invokevirtual 31, 3) := by decide +kernel
theorem dX2_takeTile_69 : decode cX2_takeTile 69 = .ok (.invokevirtual 34, 3) := by decide +kernel
theorem dX2_takeTile_72 : decode cX2_takeTile 72 = .ok (.iinc 9 1, 3) := by decide +kernel
theorem dX2_takeTile_75 : decode cX2_takeTile 75 = .ok (.goto (-34), 3) := by decide +kernel
theorem dX2_takeTile_78 : decode cX2_takeTile 78 = .ok (.iinc 8 1, 3) := by decide +kernel
theorem dX2_takeTile_81 : decode cX2_takeTile 81 = .ok (.goto (-53), 3) := by decide +kernel
theorem dX2_takeTile_84 : decode cX2_takeTile 84 = .ok (.return_, 1) := by decide +kernel
set_option maxRecDepth 20000 in
theorem ggX2_tileDifference_X4_tileColumn : GoodIn wsX2_tileDifference wsX4_tileColumn := goodIn_r _ [7] (by decide +kernel) (by decide +kernel)
set_option maxRecDepth 20000 in
theorem gX2_tileDifference_X4_tileColumn_n46 : GoodIn wsX2_tileDifference (wsX4_tileColumn) := ggX2_tileDifference_X4_tileColumn
set_option maxRecDepth 20000 in
theorem ggX2_tileDifference_X4_tileRow : GoodIn wsX2_tileDifference wsX4_tileRow := goodIn_r _ [9] (by decide +kernel) (by decide +kernel)
set_option maxRecDepth 20000 in
theorem gX2_tileDifference_X4_tileRow_n50 : GoodIn wsX2_tileDifference (wsX4_tileRow) := ggX2_tileDifference_X4_tileRow
set_option maxRecDepth 20000 in
theorem ggX2_tileDifference_X4_stepRight : GoodIn wsX2_tileDifference wsX4_stepRight := goodIn_r _ [11, 12, 13, 14, 6, 15] (by decide +kernel) (by decide +kernel)
set_option maxRecDepth 20000 in
theorem gX2_tileDifference_X4_stepRight_n53 : GoodIn wsX2_tileDifference (wsX4_stepRight) := ggX2_tileDifference_X4_stepRight
set_option maxRecDepth 20000 in
theorem ggX2_tileDifference_X4_stepDown : GoodIn wsX2_tileDifference wsX4_stepDown := goodIn_r _ [17, 18, 13, 14, 6, 15] (by decide +kernel) (by decide +kernel)
set_option maxRecDepth 20000 in
theorem gX2_tileDifference_X4_stepDown_n56 : GoodIn wsX2_tileDifference (wsX4_stepDown) := ggX2_tileDifference_X4_stepDown
set_option maxRecDepth 20000 in
theorem ggX2_tileDifference_X2_levelAt : GoodIn wsX2_tileDifference wsX2_levelAt := goodIn_r _ [23, 24, 25, 6, 26, 27] (by decide +kernel) (by decide +kernel)
set_option maxRecDepth 20000 in
theorem gX2_tileDifference_X2_levelAt : GoodIn wsX2_tileDifference (wsV RX2 31 RX2 yX2_levelAt wsX2_levelAt) := goodIn_app (goodIn_of _ (by decide +kernel)) ggX2_tileDifference_X2_levelAt
theorem dX2_tileDifference_0 : decode cX2_tileDifference 0 = .ok (.iload_n 2, 1) := by decide +kernel
theorem dX2_tileDifference_1 : decode cX2_tileDifference 1 = .ok (.invokestatic 46, 3) := by decide +kernel
theorem dX2_tileDifference_4 : decode cX2_tileDifference 4 = .ok (.istore 4, 2) := by decide +kernel
theorem dX2_tileDifference_6 : decode cX2_tileDifference 6 = .ok (.iload_n 2, 1) := by decide +kernel
theorem dX2_tileDifference_7 : decode cX2_tileDifference 7 = .ok (.invokestatic 50, 3) := by decide +kernel
theorem dX2_tileDifference_10 : decode cX2_tileDifference 10 = .ok (.istore 5, 2) := by decide +kernel
theorem dX2_tileDifference_12 : decode cX2_tileDifference 12 = .ok (.iload_n 3, 1) := by decide +kernel
theorem dX2_tileDifference_13 : decode cX2_tileDifference 13 = .ok (.invokestatic 53, 3) := by decide +kernel
theorem dX2_tileDifference_16 : decode cX2_tileDifference 16 = .ok (.istore 6, 2) := by decide +kernel
theorem dX2_tileDifference_18 : decode cX2_tileDifference 18 = .ok (.iload_n 3, 1) := by decide +kernel
theorem dX2_tileDifference_19 : decode cX2_tileDifference 19 = .ok (.invokestatic 56, 3) := by decide +kernel
theorem dX2_tileDifference_22 : decode cX2_tileDifference 22 = .ok (.istore 7, 2) := by decide +kernel
theorem dX2_tileDifference_24 : decode cX2_tileDifference 24 = .ok (.iconst 0, 1) := by decide +kernel
theorem dX2_tileDifference_25 : decode cX2_tileDifference 25 = .ok (.istore 8, 2) := by decide +kernel
theorem dX2_tileDifference_27 : decode cX2_tileDifference 27 = .ok (.iload 5, 2) := by decide +kernel
theorem dX2_tileDifference_29 : decode cX2_tileDifference 29 = .ok (.istore 9, 2) := by decide +kernel
theorem dX2_tileDifference_31 : decode cX2_tileDifference 31 = .ok (.iload 9, 2) := by decide +kernel
theorem dX2_tileDifference_33 : decode cX2_tileDifference 33 = .ok (.iload 5, 2) := by decide +kernel
theorem dX2_tileDifference_35 : decode cX2_tileDifference 35 = .ok (.iconst 4, 1) := by decide +kernel
theorem dX2_tileDifference_36 : decode cX2_tileDifference 36 = .ok (.iadd, 1) := by decide +kernel
theorem dX2_tileDifference_37 : decode cX2_tileDifference 37 = .ok (.if_icmp .ge 59, 3) := by decide +kernel
theorem dX2_tileDifference_40 : decode cX2_tileDifference 40 = .ok (.iload 4, 2) := by decide +kernel
theorem dX2_tileDifference_42 : decode cX2_tileDifference 42 = .ok (.istore 10, 2) := by decide +kernel
theorem dX2_tileDifference_44 : decode cX2_tileDifference 44 = .ok (.iload 10, 2) := by decide +kernel
theorem dX2_tileDifference_46 : decode cX2_tileDifference 46 = .ok (.iload 4, 2) := by decide +kernel
theorem dX2_tileDifference_48 : decode cX2_tileDifference 48 = .ok (.iconst 4, 1) := by decide +kernel
theorem dX2_tileDifference_49 : decode cX2_tileDifference 49 = .ok (.iadd, 1) := by decide +kernel
theorem dX2_tileDifference_50 : decode cX2_tileDifference 50 = .ok (.if_icmp .ge 40, 3) := by decide +kernel
theorem dX2_tileDifference_53 : decode cX2_tileDifference 53 = .ok (.iload 8, 2) := by decide +kernel
theorem dX2_tileDifference_55 : decode cX2_tileDifference 55 = .ok (.aload_n 0, 1) := by decide +kernel
theorem dX2_tileDifference_56 : decode cX2_tileDifference 56 = .ok (.iload 10, 2) := by decide +kernel
theorem dX2_tileDifference_58 : decode cX2_tileDifference 58 = .ok (.iload 9, 2) := by decide +kernel
theorem dX2_tileDifference_60 : decode cX2_tileDifference 60 = .ok (.invokevirtual 31, 3) := by decide +kernel
theorem dX2_tileDifference_63 : decode cX2_tileDifference 63 = .ok (.aload_n 1, 1) := by decide +kernel
theorem dX2_tileDifference_64 : decode cX2_tileDifference 64 = .ok (.iload 10, 2) := by decide +kernel
theorem dX2_tileDifference_66 : decode cX2_tileDifference 66 = .ok (.iload 6, 2) := by decide +kernel
theorem dX2_tileDifference_68 : decode cX2_tileDifference 68 = .ok (.iadd, 1) := by decide +kernel
theorem dX2_tileDifference_69 : decode cX2_tileDifference 69 = .ok (.iload 9, 2) := by decide +kernel
theorem dX2_tileDifference_71 : decode cX2_tileDifference 71 = .ok (.iload 7, 2) := by decide +kernel
theorem dX2_tileDifference_73 : decode cX2_tileDifference 73 = .ok (.iadd, 1) := by decide +kernel
theorem dX2_tileDifference_74 : decode cX2_tileDifference 74 = .ok (.invokevirtual 31, 3) := by decide +kernel
theorem dX2_tileDifference_77 : decode cX2_tileDifference 77 = .ok (.isub, 1) := by decide +kernel
theorem dX2_tileDifference_78 : decode cX2_tileDifference 78 = .ok (.invokestatic 59, 3) := by decide +kernel
theorem dX2_tileDifference_81 : decode cX2_tileDifference 81 = .ok (.iadd, 1) := by decide +kernel
theorem dX2_tileDifference_82 : decode cX2_tileDifference 82 = .ok (.istore 8, 2) := by decide +kernel
theorem dX2_tileDifference_84 : decode cX2_tileDifference 84 = .ok (.iinc 10 1, 3) := by decide +kernel
theorem dX2_tileDifference_87 : decode cX2_tileDifference 87 = .ok (.goto (-43), 3) := by decide +kernel
theorem dX2_tileDifference_90 : decode cX2_tileDifference 90 = .ok (.iinc 9 1, 3) := by decide +kernel
theorem dX2_tileDifference_93 : decode cX2_tileDifference 93 = .ok (.goto (-62), 3) := by decide +kernel
theorem dX2_tileDifference_96 : decode cX2_tileDifference 96 = .ok (.iload 8, 2) := by decide +kernel
theorem dX2_tileDifference_98 : decode cX2_tileDifference 98 = .ok (.ireturn, 1) := by decide +kernel
set_option maxRecDepth 20000 in
theorem ggX2_wholeDifference_X2_tileDifference : GoodIn wsX2_wholeDifference wsX2_tileDifference := goodIn_r _ [5, 6, 7, 8, 9, 10, 11, 12, 13, 14, 15, 16, 17, 18, 19, 20, 21, 22, 23, 24, 25, 26, 4, 27, 28, 29, 30, 31] (by decide +kernel) (by decide +kernel)
set_option maxRecDepth 20000 in
theorem gX2_wholeDifference_X2_tileDifference : GoodIn wsX2_wholeDifference (wsV RX2 62 RX2 yX2_tileDifference wsX2_tileDifference) := goodIn_app (goodIn_of _ (by decide +kernel)) ggX2_wholeDifference_X2_tileDifference
theorem dX2_wholeDifference_0 : decode cX2_wholeDifference 0 = .ok (.iconst 0, 1) := by decide +kernel
theorem dX2_wholeDifference_1 : decode cX2_wholeDifference 1 = .ok (.istore_n 2, 1) := by decide +kernel
theorem dX2_wholeDifference_2 : decode cX2_wholeDifference 2 = .ok (.iconst 0, 1) := by decide +kernel
theorem dX2_wholeDifference_3 : decode cX2_wholeDifference 3 = .ok (.istore_n 3, 1) := by decide +kernel
theorem dX2_wholeDifference_4 : decode cX2_wholeDifference 4 = .ok (.iload_n 3, 1) := by decide +kernel
theorem dX2_wholeDifference_5 : decode cX2_wholeDifference 5 = .ok (.bipush 9, 2) := by decide +kernel
theorem dX2_wholeDifference_7 : decode cX2_wholeDifference 7 = .ok (.if_icmp .ge 19, 3) := by decide +kernel
theorem dX2_wholeDifference_10 : decode cX2_wholeDifference 10 = .ok (.iload_n 2, 1) := by decide +kernel
theorem dX2_wholeDifference_11 : decode cX2_wholeDifference 11 = .ok (.aload_n 0, 1) := by decide +kernel
theorem dX2_wholeDifference_12 : decode cX2_wholeDifference 12 = .ok (.aload_n 1, 1) := by decide +kernel
theorem dX2_wholeDifference_13 : decode cX2_wholeDifference 13 = .ok (.iload_n 3, 1) := by decide +kernel
theorem dX2_wholeDifference_14 : decode cX2_wholeDifference 14 = .ok (.iconst 0, 1) := by decide +kernel
theorem dX2_wholeDifference_15 : decode cX2_wholeDifference 15 = .ok (.invokevirtual 62, 3) := by decide +kernel
theorem dX2_wholeDifference_18 : decode cX2_wholeDifference 18 = .ok (.iadd, 1) := by decide +kernel
theorem dX2_wholeDifference_19 : decode cX2_wholeDifference 19 = .ok (.istore_n 2, 1) := by decide +kernel
theorem dX2_wholeDifference_20 : decode cX2_wholeDifference 20 = .ok (.iinc 3 1, 3) := by decide +kernel
theorem dX2_wholeDifference_23 : decode cX2_wholeDifference 23 = .ok (.goto (-19), 3) := by decide +kernel
theorem dX2_wholeDifference_26 : decode cX2_wholeDifference 26 = .ok (.iload_n 2, 1) := by decide +kernel
theorem dX2_wholeDifference_27 : decode cX2_wholeDifference 27 = .ok (.ireturn, 1) := by decide +kernel
theorem dX2_unlikePoints_0 : decode cX2_unlikePoints 0 = .ok (.iconst 0, 1) := by decide +kernel
theorem dX2_unlikePoints_1 : decode cX2_unlikePoints 1 = .ok (.istore_n 2, 1) := by decide +kernel
theorem dX2_unlikePoints_2 : decode cX2_unlikePoints 2 = .ok (.iconst 0, 1) := by decide +kernel
theorem dX2_unlikePoints_3 : decode cX2_unlikePoints 3 = .ok (.istore_n 3, 1) := by decide +kernel
theorem dX2_unlikePoints_4 : decode cX2_unlikePoints 4 = .ok (.iload_n 3, 1) := by decide +kernel
theorem dX2_unlikePoints_5 : decode cX2_unlikePoints 5 = .ok (.sipush 144, 3) := by decide +kernel
theorem dX2_unlikePoints_8 : decode cX2_unlikePoints 8 = .ok (.if_icmp .ge 32, 3) := by decide +kernel
theorem dX2_unlikePoints_11 : decode cX2_unlikePoints 11 = .ok (.iload_n 2, 1) := by decide +kernel
theorem dX2_unlikePoints_12 : decode cX2_unlikePoints 12 = .ok (.aload_n 0, 1) := by decide +kernel
theorem dX2_unlikePoints_13 : decode cX2_unlikePoints 13 = .ok (.getfield 9, 3) := by decide +kernel
theorem dX2_unlikePoints_16 : decode cX2_unlikePoints 16 = .ok (.iload_n 3, 1) := by decide +kernel
theorem dX2_unlikePoints_17 : decode cX2_unlikePoints 17 = .ok (.iaload, 1) := by decide +kernel
theorem dX2_unlikePoints_18 : decode cX2_unlikePoints 18 = .ok (.aload_n 1, 1) := by decide +kernel
theorem dX2_unlikePoints_19 : decode cX2_unlikePoints 19 = .ok (.getfield 9, 3) := by decide +kernel
theorem dX2_unlikePoints_22 : decode cX2_unlikePoints 22 = .ok (.iload_n 3, 1) := by decide +kernel
theorem dX2_unlikePoints_23 : decode cX2_unlikePoints 23 = .ok (.iaload, 1) := by decide +kernel
theorem dX2_unlikePoints_24 : decode cX2_unlikePoints 24 = .ok (.if_icmp .ne 7, 3) := by decide +kernel
theorem dX2_unlikePoints_27 : decode cX2_unlikePoints 27 = .ok (.iconst 0, 1) := by decide +kernel
theorem dX2_unlikePoints_28 : decode cX2_unlikePoints 28 = .ok (.goto 4, 3) := by decide +kernel
theorem dX2_unlikePoints_31 : decode cX2_unlikePoints 31 = .ok (.iconst 1, 1) := by decide +kernel
theorem dX2_unlikePoints_32 : decode cX2_unlikePoints 32 = .ok (.iadd, 1) := by decide +kernel
theorem dX2_unlikePoints_33 : decode cX2_unlikePoints 33 = .ok (.istore_n 2, 1) := by decide +kernel
theorem dX2_unlikePoints_34 : decode cX2_unlikePoints 34 = .ok (.iinc 3 1, 3) := by decide +kernel
theorem dX2_unlikePoints_37 : decode cX2_unlikePoints 37 = .ok (.goto (-33), 3) := by decide +kernel
theorem dX2_unlikePoints_40 : decode cX2_unlikePoints 40 = .ok (.iload_n 2, 1) := by decide +kernel
theorem dX2_unlikePoints_41 : decode cX2_unlikePoints 41 = .ok (.ireturn, 1) := by decide +kernel
set_option maxRecDepth 20000 in
theorem ggX2_unlikeTiles_X2_tileDifference : GoodIn wsX2_unlikeTiles wsX2_tileDifference := goodIn_r _ [5, 6, 7, 8, 9, 10, 11, 12, 13, 14, 15, 16, 17, 18, 19, 20, 21, 22, 23, 24, 25, 26, 4, 27, 28, 29, 30, 31] (by decide +kernel) (by decide +kernel)
set_option maxRecDepth 20000 in
theorem gX2_unlikeTiles_X2_tileDifference : GoodIn wsX2_unlikeTiles (wsV RX2 62 RX2 yX2_tileDifference wsX2_tileDifference) := goodIn_app (goodIn_of _ (by decide +kernel)) ggX2_unlikeTiles_X2_tileDifference
theorem dX2_unlikeTiles_0 : decode cX2_unlikeTiles 0 = .ok (.iconst 0, 1) := by decide +kernel
theorem dX2_unlikeTiles_1 : decode cX2_unlikeTiles 1 = .ok (.istore_n 2, 1) := by decide +kernel
theorem dX2_unlikeTiles_2 : decode cX2_unlikeTiles 2 = .ok (.iconst 0, 1) := by decide +kernel
theorem dX2_unlikeTiles_3 : decode cX2_unlikeTiles 3 = .ok (.istore_n 3, 1) := by decide +kernel
theorem dX2_unlikeTiles_4 : decode cX2_unlikeTiles 4 = .ok (.iload_n 3, 1) := by decide +kernel
theorem dX2_unlikeTiles_5 : decode cX2_unlikeTiles 5 = .ok (.bipush 9, 2) := by decide +kernel
theorem dX2_unlikeTiles_7 : decode cX2_unlikeTiles 7 = .ok (.if_icmp .ge 27, 3) := by decide +kernel
theorem dX2_unlikeTiles_10 : decode cX2_unlikeTiles 10 = .ok (.iload_n 2, 1) := by decide +kernel
theorem dX2_unlikeTiles_11 : decode cX2_unlikeTiles 11 = .ok (.aload_n 0, 1) := by decide +kernel
theorem dX2_unlikeTiles_12 : decode cX2_unlikeTiles 12 = .ok (.aload_n 1, 1) := by decide +kernel
theorem dX2_unlikeTiles_13 : decode cX2_unlikeTiles 13 = .ok (.iload_n 3, 1) := by decide +kernel
theorem dX2_unlikeTiles_14 : decode cX2_unlikeTiles 14 = .ok (.iconst 0, 1) := by decide +kernel
theorem dX2_unlikeTiles_15 : decode cX2_unlikeTiles 15 = .ok (.invokevirtual 62, 3) := by decide +kernel
theorem dX2_unlikeTiles_18 : decode cX2_unlikeTiles 18 = .ok (.ifCond .ne 7, 3) := by decide +kernel
theorem dX2_unlikeTiles_21 : decode cX2_unlikeTiles 21 = .ok (.iconst 0, 1) := by decide +kernel
theorem dX2_unlikeTiles_22 : decode cX2_unlikeTiles 22 = .ok (.goto 4, 3) := by decide +kernel
theorem dX2_unlikeTiles_25 : decode cX2_unlikeTiles 25 = .ok (.iconst 1, 1) := by decide +kernel
theorem dX2_unlikeTiles_26 : decode cX2_unlikeTiles 26 = .ok (.iadd, 1) := by decide +kernel
theorem dX2_unlikeTiles_27 : decode cX2_unlikeTiles 27 = .ok (.istore_n 2, 1) := by decide +kernel
theorem dX2_unlikeTiles_28 : decode cX2_unlikeTiles 28 = .ok (.iinc 3 1, 3) := by decide +kernel
theorem dX2_unlikeTiles_31 : decode cX2_unlikeTiles 31 = .ok (.goto (-27), 3) := by decide +kernel
theorem dX2_unlikeTiles_34 : decode cX2_unlikeTiles 34 = .ok (.iload_n 2, 1) := by decide +kernel
theorem dX2_unlikeTiles_35 : decode cX2_unlikeTiles 35 = .ok (.ireturn, 1) := by decide +kernel
set_option maxRecDepth 20000 in
theorem ggX3_init_X2_init : GoodIn wsX3_init wsX2_init := goodIn_r _ [14, 15, 2, 3, 10, 16, 17] (by decide +kernel) (by decide +kernel)
set_option maxRecDepth 20000 in
theorem gX3_init_X2_init_n11 : GoodIn wsX3_init (wsX2_init) := ggX3_init_X2_init
theorem dX3_init_0 : decode cX3_init 0 = .ok (.aload_n 0, 1) := by decide +kernel
theorem dX3_init_1 : decode cX3_init 1 = .ok (.invokespecial 3, 3) := by decide +kernel
theorem dX3_init_4 : decode cX3_init 4 = .ok (.aload_n 0, 1) := by decide +kernel
theorem dX3_init_5 : decode cX3_init 5 = .ok (.new 9, 3) := by decide +kernel
theorem dX3_init_8 : decode cX3_init 8 = .ok (.dup, 1) := by decide +kernel
theorem dX3_init_9 : decode cX3_init 9 = .ok (.invokespecial 11, 3) := by decide +kernel
theorem dX3_init_12 : decode cX3_init 12 = .ok (.putfield 12, 3) := by decide +kernel
theorem dX3_init_15 : decode cX3_init 15 = .ok (.aload_n 0, 1) := by decide +kernel
theorem dX3_init_16 : decode cX3_init 16 = .ok (.new 9, 3) := by decide +kernel
theorem dX3_init_19 : decode cX3_init 19 = .ok (.dup, 1) := by decide +kernel
theorem dX3_init_20 : decode cX3_init 20 = .ok (.invokespecial 11, 3) := by decide +kernel
theorem dX3_init_23 : decode cX3_init 23 = .ok (.putfield 18, 3) := by decide +kernel
theorem dX3_init_26 : decode cX3_init 26 = .ok (.aload_n 0, 1) := by decide +kernel
theorem dX3_init_27 : decode cX3_init 27 = .ok (.new 9, 3) := by decide +kernel
theorem dX3_init_30 : decode cX3_init 30 = .ok (.dup, 1) := by decide +kernel
theorem dX3_init_31 : decode cX3_init 31 = .ok (.invokespecial 11, 3) := by decide +kernel
theorem dX3_init_34 : decode cX3_init 34 = .ok (.putfield 21, 3) := by decide +kernel
theorem dX3_init_37 : decode cX3_init 37 = .ok (.aload_n 0, 1) := by decide +kernel
theorem dX3_init_38 : decode cX3_init 38 = .ok (.bipush 9, 2) := by decide +kernel
theorem dX3_init_40 : decode cX3_init 40 = .ok (.newarray .int, 2) := by decide +kernel
theorem dX3_init_42 : decode cX3_init 42 = .ok (.putfield 24, 3) := by decide +kernel
theorem dX3_init_45 : decode cX3_init 45 = .ok (.aload_n 0, 1) := by decide +kernel
theorem dX3_init_46 : decode cX3_init 46 = .ok (.sipush 136, 3) := by decide +kernel
theorem dX3_init_49 : decode cX3_init 49 = .ok (.newarray .int, 2) := by decide +kernel
theorem dX3_init_51 : decode cX3_init 51 = .ok (.putfield 28, 3) := by decide +kernel
theorem dX3_init_54 : decode cX3_init 54 = .ok (.aload_n 0, 1) := by decide +kernel
theorem dX3_init_55 : decode cX3_init 55 = .ok (.getfield 24, 3) := by decide +kernel
theorem dX3_init_58 : decode cX3_init 58 = .ok (.iconst 0, 1) := by decide +kernel
theorem dX3_init_59 : decode cX3_init 59 = .ok (.sipush 200, 3) := by decide +kernel
theorem dX3_init_62 : decode cX3_init 62 = .ok (.iastore, 1) := by decide +kernel
theorem dX3_init_63 : decode cX3_init 63 = .ok (.return_, 1) := by decide +kernel
set_option maxRecDepth 20000 in
theorem ggX3_copyFrom_X2_copyFrom : GoodIn wsX3_copyFrom wsX2_copyFrom := goodIn_r _ [13, 14, 15, 6, 7, 8, 21] (by decide +kernel) (by decide +kernel)
set_option maxRecDepth 20000 in
theorem gX3_copyFrom_X2_copyFrom_n31 : GoodIn wsX3_copyFrom (wsX2_copyFrom) := ggX3_copyFrom_X2_copyFrom
theorem dX3_copyFrom_0 : decode cX3_copyFrom 0 = .ok (.aload_n 0, 1) := by decide +kernel
theorem dX3_copyFrom_1 : decode cX3_copyFrom 1 = .ok (.getfield 12, 3) := by decide +kernel
theorem dX3_copyFrom_4 : decode cX3_copyFrom 4 = .ok (.aload_n 1, 1) := by decide +kernel
theorem dX3_copyFrom_5 : decode cX3_copyFrom 5 = .ok (.getfield 12, 3) := by decide +kernel
theorem dX3_copyFrom_8 : decode cX3_copyFrom 8 = .ok (.invokevirtual 31, 3) := by decide +kernel
theorem dX3_copyFrom_11 : decode cX3_copyFrom 11 = .ok (.aload_n 0, 1) := by decide +kernel
theorem dX3_copyFrom_12 : decode cX3_copyFrom 12 = .ok (.getfield 18, 3) := by decide +kernel
theorem dX3_copyFrom_15 : decode cX3_copyFrom 15 = .ok (.aload_n 1, 1) := by decide +kernel
theorem dX3_copyFrom_16 : decode cX3_copyFrom 16 = .ok (.getfield 18, 3) := by decide +kernel
theorem dX3_copyFrom_19 : decode cX3_copyFrom 19 = .ok (.invokevirtual 31, 3) := by decide +kernel
theorem dX3_copyFrom_22 : decode cX3_copyFrom 22 = .ok (.aload_n 0, 1) := by decide +kernel
theorem dX3_copyFrom_23 : decode cX3_copyFrom 23 = .ok (.getfield 21, 3) := by decide +kernel
theorem dX3_copyFrom_26 : decode cX3_copyFrom 26 = .ok (.aload_n 1, 1) := by decide +kernel
theorem dX3_copyFrom_27 : decode cX3_copyFrom 27 = .ok (.getfield 21, 3) := by decide +kernel
theorem dX3_copyFrom_30 : decode cX3_copyFrom 30 = .ok (.invokevirtual 31, 3) := by decide +kernel
theorem dX3_copyFrom_33 : decode cX3_copyFrom 33 = .ok (.aload_n 1, 1) := by decide +kernel
theorem dX3_copyFrom_34 : decode cX3_copyFrom 34 = .ok (.getfield 24, 3) := by decide +kernel
theorem dX3_copyFrom_37 : decode cX3_copyFrom 37 = .ok (.iconst 0, 1) := by decide +kernel
theorem dX3_copyFrom_38 : decode cX3_copyFrom 38 = .ok (.aload_n 0, 1) := by decide +kernel
theorem dX3_copyFrom_39 : decode cX3_copyFrom 39 = .ok (.getfield 24, 3) := by decide +kernel
theorem dX3_copyFrom_42 : decode cX3_copyFrom 42 = .ok (.iconst 0, 1) := by decide +kernel
theorem dX3_copyFrom_43 : decode cX3_copyFrom 43 = .ok (.bipush 9, 2) := by decide +kernel
theorem dX3_copyFrom_45 : decode cX3_copyFrom 45 = .ok (.invokestatic 35, 3) := by decide +kernel
theorem dX3_copyFrom_48 : decode cX3_copyFrom 48 = .ok (.aload_n 1, 1) := by decide +kernel
theorem dX3_copyFrom_49 : decode cX3_copyFrom 49 = .ok (.getfield 28, 3) := by decide +kernel
theorem dX3_copyFrom_52 : decode cX3_copyFrom 52 = .ok (.iconst 0, 1) := by decide +kernel
theorem dX3_copyFrom_53 : decode cX3_copyFrom 53 = .ok (.aload_n 0, 1) := by decide +kernel
theorem dX3_copyFrom_54 : decode cX3_copyFrom 54 = .ok (.getfield 28, 3) := by decide +kernel
theorem dX3_copyFrom_57 : decode cX3_copyFrom 57 = .ok (.iconst 0, 1) := by decide +kernel
theorem dX3_copyFrom_58 : decode cX3_copyFrom 58 = .ok (.sipush 136, 3) := by decide +kernel
theorem dX3_copyFrom_61 : decode cX3_copyFrom 61 = .ok (.invokestatic 35, 3) := by decide +kernel
theorem dX3_copyFrom_64 : decode cX3_copyFrom 64 = .ok (.return_, 1) := by decide +kernel
theorem dX3_picture_0 : decode cX3_picture 0 = .ok (.iload_n 1, 1) := by decide +kernel
theorem dX3_picture_1 : decode cX3_picture 1 = .ok (.ifCond .ne 8, 3) := by decide +kernel
theorem dX3_picture_4 : decode cX3_picture 4 = .ok (.aload_n 0, 1) := by decide +kernel
theorem dX3_picture_5 : decode cX3_picture 5 = .ok (.getfield 12, 3) := by decide +kernel
theorem dX3_picture_8 : decode cX3_picture 8 = .ok (.areturn, 1) := by decide +kernel
theorem dX3_picture_9 : decode cX3_picture 9 = .ok (.iload_n 1, 1) := by decide +kernel
theorem dX3_picture_10 : decode cX3_picture 10 = .ok (.iconst 1, 1) := by decide +kernel
theorem dX3_picture_11 : decode cX3_picture 11 = .ok (.if_icmp .ne 10, 3) := by decide +kernel
theorem dX3_picture_14 : decode cX3_picture 14 = .ok (.aload_n 0, 1) := by decide +kernel
theorem dX3_picture_15 : decode cX3_picture 15 = .ok (.getfield 18, 3) := by decide +kernel
theorem dX3_picture_18 : decode cX3_picture 18 = .ok (.goto 7, 3) := by decide +kernel
theorem dX3_picture_21 : decode cX3_picture 21 = .ok (.aload_n 0, 1) := by decide +kernel
theorem dX3_picture_22 : decode cX3_picture 22 = .ok (.getfield 21, 3) := by decide +kernel
theorem dX3_picture_25 : decode cX3_picture 25 = .ok (.areturn, 1) := by decide +kernel
theorem dX3_spendable_0 : decode cX3_spendable 0 = .ok (.aload_n 0, 1) := by decide +kernel
theorem dX3_spendable_1 : decode cX3_spendable 1 = .ok (.getfield 24, 3) := by decide +kernel
theorem dX3_spendable_4 : decode cX3_spendable 4 = .ok (.iconst 0, 1) := by decide +kernel
theorem dX3_spendable_5 : decode cX3_spendable 5 = .ok (.iaload, 1) := by decide +kernel
theorem dX3_spendable_6 : decode cX3_spendable 6 = .ok (.aload_n 0, 1) := by decide +kernel
theorem dX3_spendable_7 : decode cX3_spendable 7 = .ok (.getfield 24, 3) := by decide +kernel
theorem dX3_spendable_10 : decode cX3_spendable 10 = .ok (.iconst 3, 1) := by decide +kernel
theorem dX3_spendable_11 : decode cX3_spendable 11 = .ok (.iaload, 1) := by decide +kernel
theorem dX3_spendable_12 : decode cX3_spendable 12 = .ok (.iadd, 1) := by decide +kernel
theorem dX3_spendable_13 : decode cX3_spendable 13 = .ok (.ireturn, 1) := by decide +kernel
set_option maxRecDepth 20000 in
theorem ggX3_canBeKeyed_X3_spendable : GoodIn wsX3_canBeKeyed wsX3_spendable := goodIn_r _ [5, 6, 7, 8, 9, 10, 11] (by decide +kernel) (by decide +kernel)
set_option maxRecDepth 20000 in
theorem gX3_canBeKeyed_X3_spendable : GoodIn wsX3_canBeKeyed (wsV RX3 41 RX3 yX3_spendable wsX3_spendable) := goodIn_app (goodIn_of _ (by decide +kernel)) ggX3_canBeKeyed_X3_spendable
theorem dX3_canBeKeyed_0 : decode cX3_canBeKeyed 0 = .ok (.sipush 594, 3) := by decide +kernel
theorem dX3_canBeKeyed_3 : decode cX3_canBeKeyed 3 = .ok (.aload_n 0, 1) := by decide +kernel
theorem dX3_canBeKeyed_4 : decode cX3_canBeKeyed 4 = .ok (.invokevirtual 41, 3) := by decide +kernel
theorem dX3_canBeKeyed_7 : decode cX3_canBeKeyed 7 = .ok (.if_icmp .gt 7, 3) := by decide +kernel
theorem dX3_canBeKeyed_10 : decode cX3_canBeKeyed 10 = .ok (.iconst 1, 1) := by decide +kernel
theorem dX3_canBeKeyed_11 : decode cX3_canBeKeyed 11 = .ok (.goto 4, 3) := by decide +kernel
theorem dX3_canBeKeyed_14 : decode cX3_canBeKeyed 14 = .ok (.iconst 0, 1) := by decide +kernel
theorem dX3_canBeKeyed_15 : decode cX3_canBeKeyed 15 = .ok (.ireturn, 1) := by decide +kernel
theorem dX3_isToBeKeyed_0 : decode cX3_isToBeKeyed 0 = .ok (.aload_n 0, 1) := by decide +kernel
theorem dX3_isToBeKeyed_1 : decode cX3_isToBeKeyed 1 = .ok (.getfield 24, 3) := by decide +kernel
theorem dX3_isToBeKeyed_4 : decode cX3_isToBeKeyed 4 = .ok (.iconst 2, 1) := by decide +kernel
theorem dX3_isToBeKeyed_5 : decode cX3_isToBeKeyed 5 = .ok (.iaload, 1) := by decide +kernel
theorem dX3_isToBeKeyed_6 : decode cX3_isToBeKeyed 6 = .ok (.ifCond .le 23, 3) := by decide +kernel
theorem dX3_isToBeKeyed_9 : decode cX3_isToBeKeyed 9 = .ok (.aload_n 0, 1) := by decide +kernel
theorem dX3_isToBeKeyed_10 : decode cX3_isToBeKeyed 10 = .ok (.getfield 24, 3) := by decide +kernel
theorem dX3_isToBeKeyed_13 : decode cX3_isToBeKeyed 13 = .ok (.bipush 8, 2) := by decide +kernel
theorem dX3_isToBeKeyed_15 : decode cX3_isToBeKeyed 15 = .ok (.iaload, 1) := by decide +kernel
theorem dX3_isToBeKeyed_16 : decode cX3_isToBeKeyed 16 = .ok (.aload_n 0, 1) := by decide +kernel
theorem dX3_isToBeKeyed_17 : decode cX3_isToBeKeyed 17 = .ok (.getfield 24, 3) := by decide +kernel
theorem dX3_isToBeKeyed_20 : decode cX3_isToBeKeyed 20 = .ok (.iconst 2, 1) := by decide +kernel
theorem dX3_isToBeKeyed_21 : decode cX3_isToBeKeyed 21 = .ok (.iaload, 1) := by decide +kernel
theorem dX3_isToBeKeyed_22 : decode cX3_isToBeKeyed 22 = .ok (.if_icmp .lt 7, 3) := by decide +kernel
theorem dX3_isToBeKeyed_25 : decode cX3_isToBeKeyed 25 = .ok (.iconst 1, 1) := by decide +kernel
theorem dX3_isToBeKeyed_26 : decode cX3_isToBeKeyed 26 = .ok (.goto 4, 3) := by decide +kernel
theorem dX3_isToBeKeyed_29 : decode cX3_isToBeKeyed 29 = .ok (.iconst 0, 1) := by decide +kernel
theorem dX3_isToBeKeyed_30 : decode cX3_isToBeKeyed 30 = .ok (.ireturn, 1) := by decide +kernel
theorem dX3_knowsFrame_0 : decode cX3_knowsFrame 0 = .ok (.iload_n 1, 1) := by decide +kernel
theorem dX3_knowsFrame_1 : decode cX3_knowsFrame 1 = .ok (.ifCond .lt 22, 3) := by decide +kernel
theorem dX3_knowsFrame_4 : decode cX3_knowsFrame 4 = .ok (.iload_n 1, 1) := by decide +kernel
theorem dX3_knowsFrame_5 : decode cX3_knowsFrame 5 = .ok (.bipush 8, 2) := by decide +kernel
theorem dX3_knowsFrame_7 : decode cX3_knowsFrame 7 = .ok (.aload_n 0, 1) := by decide +kernel
theorem dX3_knowsFrame_8 : decode cX3_knowsFrame 8 = .ok (.getfield 24, 3) := by decide +kernel
theorem dX3_knowsFrame_11 : decode cX3_knowsFrame 11 = .ok (.iconst 4, 1) := by decide +kernel
theorem dX3_knowsFrame_12 : decode cX3_knowsFrame 12 = .ok (.iaload, 1) := by decide +kernel
theorem dX3_knowsFrame_13 : decode cX3_knowsFrame 13 = .ok (.invokestatic 45, 3) := by decide +kernel
theorem dX3_knowsFrame_16 : decode cX3_knowsFrame 16 = .ok (.if_icmp .ge 7, 3) := by decide +kernel
theorem dX3_knowsFrame_19 : decode cX3_knowsFrame 19 = .ok (.iconst 1, 1) := by decide +kernel
theorem dX3_knowsFrame_20 : decode cX3_knowsFrame 20 = .ok (.goto 4, 3) := by decide +kernel
theorem dX3_knowsFrame_23 : decode cX3_knowsFrame 23 = .ok (.iconst 0, 1) := by decide +kernel
theorem dX3_knowsFrame_24 : decode cX3_knowsFrame 24 = .ok (.ireturn, 1) := by decide +kernel
set_option maxRecDepth 20000 in
theorem ggX3_logged_X3_logIndex : GoodIn wsX3_logged wsX3_logIndex := goodIn_r _ [6, 7, 8, 9, 10] (by decide +kernel) (by decide +kernel)
set_option maxRecDepth 20000 in
theorem gX3_logged_X3_logIndex : GoodIn wsX3_logged (va_wsS RX3 51 yX3_logIndex wsX3_logIndex) := goodIn_app (goodIn_of _ (by decide +kernel)) ggX3_logged_X3_logIndex
set_option maxRecDepth 20000 in
theorem ggX3_logged_X4_isBetween : GoodIn wsX3_logged wsX4_isBetween := goodIn_r _ [13] (by decide +kernel) (by decide +kernel)
set_option maxRecDepth 20000 in
theorem gX3_logged_X4_isBetween_n54 : GoodIn wsX3_logged (wsX4_isBetween) := ggX3_logged_X4_isBetween
theorem dX3_logged_0 : decode cX3_logged 0 = .ok (.aload_n 0, 1) := by decide +kernel
theorem dX3_logged_1 : decode cX3_logged 1 = .ok (.getfield 24, 3) := by decide +kernel
theorem dX3_logged_4 : decode cX3_logged 4 = .ok (.iconst 4, 1) := by decide +kernel
theorem dX3_logged_5 : decode cX3_logged 5 = .ok (.iaload, 1) := by decide +kernel
theorem dX3_logged_6 : decode cX3_logged 6 = .ok (.iconst 1, 1) := by decide +kernel
theorem dX3_logged_7 : decode cX3_logged 7 = .ok (.isub, 1) := by decide +kernel
theorem dX3_logged_8 : decode cX3_logged 8 = .ok (.iload_n 1, 1) := by decide +kernel
theorem dX3_logged_9 : decode cX3_logged 9 = .ok (.isub, 1) := by decide +kernel
theorem dX3_logged_10 : decode cX3_logged 10 = .ok (.iload_n 2, 1) := by decide +kernel
theorem dX3_logged_11 : decode cX3_logged 11 = .ok (.invokestatic 51, 3) := by decide +kernel
theorem dX3_logged_14 : decode cX3_logged 14 = .ok (.istore_n 3, 1) := by decide +kernel
theorem dX3_logged_15 : decode cX3_logged 15 = .ok (.iload_n 3, 1) := by decide +kernel
theorem dX3_logged_16 : decode cX3_logged 16 = .ok (.iconst 0, 1) := by decide +kernel
theorem dX3_logged_17 : decode cX3_logged 17 = .ok (.aload_n 0, 1) := by decide +kernel
theorem dX3_logged_18 : decode cX3_logged 18 = .ok (.getfield 28, 3) := by decide +kernel
theorem dX3_logged_21 : decode cX3_logged 21 = .ok (.arraylength, 1) := by decide +kernel
theorem dX3_logged_22 : decode cX3_logged 22 = .ok (.iconst 1, 1) := by decide +kernel
theorem dX3_logged_23 : decode cX3_logged 23 = .ok (.isub, 1) := by decide +kernel
theorem dX3_logged_24 : decode cX3_logged 24 = .ok (.invokestatic 54, 3) := by decide +kernel
theorem dX3_logged_27 : decode cX3_logged 27 = .ok (.ifCond .eq 12, 3) := by decide +kernel
theorem dX3_logged_30 : decode cX3_logged 30 = .ok (.aload_n 0, 1) := by decide +kernel
theorem dX3_logged_31 : decode cX3_logged 31 = .ok (.getfield 28, 3) := by decide +kernel
theorem dX3_logged_34 : decode cX3_logged 34 = .ok (.iload_n 3, 1) := by decide +kernel
theorem dX3_logged_35 : decode cX3_logged 35 = .ok (.iaload, 1) := by decide +kernel
theorem dX3_logged_36 : decode cX3_logged 36 = .ok (.goto 5, 3) := by decide +kernel
theorem dX3_logged_39 : decode cX3_logged 39 = .ok (.bipush (-5), 2) := by decide +kernel
theorem dX3_logged_41 : decode cX3_logged 41 = .ok (.ireturn, 1) := by decide +kernel
set_option maxRecDepth 20000 in
theorem ggX3_putInLog_X3_logIndex : GoodIn wsX3_putInLog wsX3_logIndex := goodIn_r _ [6, 7, 8, 9, 10] (by decide +kernel) (by decide +kernel)
set_option maxRecDepth 20000 in
theorem gX3_putInLog_X3_logIndex : GoodIn wsX3_putInLog (va_wsS RX3 51 yX3_logIndex wsX3_logIndex) := goodIn_app (goodIn_of _ (by decide +kernel)) ggX3_putInLog_X3_logIndex
set_option maxRecDepth 20000 in
theorem ggX3_putInLog_X4_isBetween : GoodIn wsX3_putInLog wsX4_isBetween := goodIn_r _ [13] (by decide +kernel) (by decide +kernel)
set_option maxRecDepth 20000 in
theorem gX3_putInLog_X4_isBetween_n54 : GoodIn wsX3_putInLog (wsX4_isBetween) := ggX3_putInLog_X4_isBetween
theorem dX3_putInLog_0 : decode cX3_putInLog 0 = .ok (.aload_n 0, 1) := by decide +kernel
theorem dX3_putInLog_1 : decode cX3_putInLog 1 = .ok (.getfield 24, 3) := by decide +kernel
theorem dX3_putInLog_4 : decode cX3_putInLog 4 = .ok (.iconst 4, 1) := by decide +kernel
theorem dX3_putInLog_5 : decode cX3_putInLog 5 = .ok (.iaload, 1) := by decide +kernel
theorem dX3_putInLog_6 : decode cX3_putInLog 6 = .ok (.iload_n 1, 1) := by decide +kernel
theorem dX3_putInLog_7 : decode cX3_putInLog 7 = .ok (.invokestatic 51, 3) := by decide +kernel
theorem dX3_putInLog_10 : decode cX3_putInLog 10 = .ok (.istore_n 3, 1) := by decide +kernel
theorem dX3_putInLog_11 : decode cX3_putInLog 11 = .ok (.iload_n 3, 1) := by decide +kernel
theorem dX3_putInLog_12 : decode cX3_putInLog 12 = .ok (.iconst 0, 1) := by decide +kernel
theorem dX3_putInLog_13 : decode cX3_putInLog 13 = .ok (.aload_n 0, 1) := by decide +kernel
theorem dX3_putInLog_14 : decode cX3_putInLog 14 = .ok (.getfield 28, 3) := by decide +kernel
theorem dX3_putInLog_17 : decode cX3_putInLog 17 = .ok (.arraylength, 1) := by decide +kernel
theorem dX3_putInLog_18 : decode cX3_putInLog 18 = .ok (.iconst 1, 1) := by decide +kernel
theorem dX3_putInLog_19 : decode cX3_putInLog 19 = .ok (.isub, 1) := by decide +kernel
theorem dX3_putInLog_20 : decode cX3_putInLog 20 = .ok (.invokestatic 54, 3) := by decide +kernel
theorem dX3_putInLog_23 : decode cX3_putInLog 23 = .ok (.ifCond .eq 10, 3) := by decide +kernel
theorem dX3_putInLog_26 : decode cX3_putInLog 26 = .ok (.aload_n 0, 1) := by decide +kernel
theorem dX3_putInLog_27 : decode cX3_putInLog 27 = .ok (.getfield 28, 3) := by decide +kernel
theorem dX3_putInLog_30 : decode cX3_putInLog 30 = .ok (.iload_n 3, 1) := by decide +kernel
theorem dX3_putInLog_31 : decode cX3_putInLog 31 = .ok (.iload_n 2, 1) := by decide +kernel
theorem dX3_putInLog_32 : decode cX3_putInLog 32 = .ok (.iastore, 1) := by decide +kernel
theorem dX3_putInLog_33 : decode cX3_putInLog 33 = .ok (.return_, 1) := by decide +kernel
set_option maxRecDepth 20000 in
theorem ggX3_logIndex_J9_floorMod_7cf53 : GoodIn wsX3_logIndex wsJ9_floorMod_7cf53 := goodIn_r _ [4] (by decide +kernel) (by decide +kernel)
set_option maxRecDepth 20000 in
theorem gX3_logIndex_J9_floorMod_7cf53 : GoodIn wsX3_logIndex (va_wsS RX3 58 yJ9_floorMod_7cf53 wsJ9_floorMod_7cf53) := goodIn_app (goodIn_of _ (by decide +kernel)) ggX3_logIndex_J9_floorMod_7cf53
theorem dX3_logIndex_0 : decode cX3_logIndex 0 = .ok (.iload_n 0, 1) := by decide +kernel
theorem dX3_logIndex_1 : decode cX3_logIndex 1 = .ok (.bipush 8, 2) := by decide +kernel
theorem dX3_logIndex_3 : decode cX3_logIndex 3 = .ok (.invokestatic 58, 3) := by decide +kernel
theorem dX3_logIndex_6 : decode cX3_logIndex 6 = .ok (.bipush 17, 2) := by decide +kernel
theorem dX3_logIndex_8 : decode cX3_logIndex 8 = .ok (.imul, 1) := by decide +kernel
theorem dX3_logIndex_9 : decode cX3_logIndex 9 = .ok (.iload_n 1, 1) := by decide +kernel
theorem dX3_logIndex_10 : decode cX3_logIndex 10 = .ok (.iadd, 1) := by decide +kernel
theorem dX3_logIndex_11 : decode cX3_logIndex 11 = .ok (.ireturn, 1) := by decide +kernel
set_option maxRecDepth 20000 in
theorem ggX4_init_X3_init : GoodIn wsX4_init wsX3_init := goodIn_r _ [27, 28, 2, 3, 29, 21, 22, 30, 31, 32, 24, 33, 34, 35, 36, 37, 38, 72, 52, 53, 54, 55, 56] (by decide +kernel) (by decide +kernel)
set_option maxRecDepth 20000 in
theorem gX4_init_X3_init_n9 : GoodIn wsX4_init (wsX3_init) := ggX4_init_X3_init
set_option maxRecDepth 20000 in
theorem ggX4_init_X1_init : GoodIn wsX4_init wsX1_init := goodIn_r _ [40, 41, 2, 3, 42, 43, 44, 45, 24, 46, 47, 66, 67, 68, 69, 70] (by decide +kernel) (by decide +kernel)
set_option maxRecDepth 20000 in
theorem gX4_init_X1_init_n32 : GoodIn wsX4_init (wsX1_init) := ggX4_init_X1_init
set_option maxRecDepth 20000 in
theorem ggX4_init_X0_init : GoodIn wsX4_init wsX0_init := goodIn_r _ [49, 50, 2, 3, 24, 51, 71] (by decide +kernel) (by decide +kernel)
set_option maxRecDepth 20000 in
theorem gX4_init_X0_init_n39 : GoodIn wsX4_init (wsX0_init) := ggX4_init_X0_init
set_option maxRecDepth 20000 in
theorem ggX4_init_X2_init : GoodIn wsX4_init wsX2_init := goodIn_r _ [36, 37, 2, 3, 24, 38, 72] (by decide +kernel) (by decide +kernel)
set_option maxRecDepth 20000 in
theorem gX4_init_X2_init_n46 : GoodIn wsX4_init (wsX2_init) := ggX4_init_X2_init

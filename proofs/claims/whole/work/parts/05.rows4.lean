theorem dX4_init_0 : decode cX4_init 0 = .ok (.aload_n 0, 1) := by decide +kernel
theorem dX4_init_1 : decode cX4_init 1 = .ok (.invokespecial 1, 3) := by decide +kernel
theorem dX4_init_4 : decode cX4_init 4 = .ok (.aload_n 0, 1) := by decide +kernel
theorem dX4_init_5 : decode cX4_init 5 = .ok (.new 7, 3) := by decide +kernel
theorem dX4_init_8 : decode cX4_init 8 = .ok (.dup, 1) := by decide +kernel
theorem dX4_init_9 : decode cX4_init 9 = .ok (.invokespecial 9, 3) := by decide +kernel
theorem dX4_init_12 : decode cX4_init 12 = .ok (.putfield 10, 3) := by decide +kernel
theorem dX4_init_15 : decode cX4_init 15 = .ok (.aload_n 0, 1) := by decide +kernel
theorem dX4_init_16 : decode cX4_init 16 = .ok (.iconst 4, 1) := by decide +kernel
theorem dX4_init_17 : decode cX4_init 17 = .ok (.anewarray 7, 3) := by decide +kernel
theorem dX4_init_20 : decode cX4_init 20 = .ok (.putfield 16, 3) := by decide +kernel
theorem dX4_init_23 : decode cX4_init 23 = .ok (.aload_n 0, 1) := by decide +kernel
theorem dX4_init_24 : decode cX4_init 24 = .ok (.iconst 0, 1) := by decide +kernel
theorem dX4_init_25 : decode cX4_init 25 = .ok (.putfield 20, 3) := by decide +kernel
theorem dX4_init_28 : decode cX4_init 28 = .ok (.aload_n 0, 1) := by decide +kernel
theorem dX4_init_29 : decode cX4_init 29 = .ok (.iconst 0, 1) := by decide +kernel
theorem dX4_init_30 : decode cX4_init 30 = .ok (.putfield 24, 3) := by decide +kernel
theorem dX4_init_33 : decode cX4_init 33 = .ok (.aload_n 0, 1) := by decide +kernel
theorem dX4_init_34 : decode cX4_init 34 = .ok (.aconst_null, 1) := by decide +kernel
theorem dX4_init_35 : decode cX4_init 35 = .ok (.putfield 27, 3) := by decide +kernel
theorem dX4_init_38 : decode cX4_init 38 = .ok (.aload_n 0, 1) := by decide +kernel
theorem dX4_init_39 : decode cX4_init 39 = .ok (.new 30, 3) := by decide +kernel
theorem dX4_init_42 : decode cX4_init 42 = .ok (.dup, 1) := by decide +kernel
theorem dX4_init_43 : decode cX4_init 43 = .ok (.invokespecial 32, 3) := by decide +kernel
theorem dX4_init_46 : decode cX4_init 46 = .ok (.putfield 33, 3) := by decide +kernel
theorem dX4_init_49 : decode cX4_init 49 = .ok (.aload_n 0, 1) := by decide +kernel
theorem dX4_init_50 : decode cX4_init 50 = .ok (.new 37, 3) := by decide +kernel
theorem dX4_init_53 : decode cX4_init 53 = .ok (.dup, 1) := by decide +kernel
theorem dX4_init_54 : decode cX4_init 54 = .ok (.invokespecial 39, 3) := by decide +kernel
theorem dX4_init_57 : decode cX4_init 57 = .ok (.putfield 40, 3) := by decide +kernel
theorem dX4_init_60 : decode cX4_init 60 = .ok (.aload_n 0, 1) := by decide +kernel
theorem dX4_init_61 : decode cX4_init 61 = .ok (.new 44, 3) := by decide +kernel
theorem dX4_init_64 : decode cX4_init 64 = .ok (.dup, 1) := by decide +kernel
theorem dX4_init_65 : decode cX4_init 65 = .ok (.invokespecial 46, 3) := by decide +kernel
theorem dX4_init_68 : decode cX4_init 68 = .ok (.putfield 47, 3) := by decide +kernel
theorem dX4_init_71 : decode cX4_init 71 = .ok (.aload_n 0, 1) := by decide +kernel
theorem dX4_init_72 : decode cX4_init 72 = .ok (.bipush 9, 2) := by decide +kernel
theorem dX4_init_74 : decode cX4_init 74 = .ok (.newarray .int, 2) := by decide +kernel
theorem dX4_init_76 : decode cX4_init 76 = .ok (.putfield 51, 3) := by decide +kernel
theorem dX4_init_79 : decode cX4_init 79 = .ok (.return_, 1) := by decide +kernel
set_option maxRecDepth 20000 in
theorem ggX4_set_X4_isPoint : GoodIn wsX4_set wsX4_isPoint := goodIn_r _ [5] (by decide +kernel) (by decide +kernel)
set_option maxRecDepth 20000 in
theorem gX4_set_X4_isPoint : GoodIn wsX4_set (va_wsS RX4 55 yX4_isPoint wsX4_isPoint) := goodIn_app (goodIn_of _ (by decide +kernel)) ggX4_set_X4_isPoint
set_option maxRecDepth 20000 in
theorem ggX4_set_X4_isBetween : GoodIn wsX4_set wsX4_isBetween := goodIn_r _ [8] (by decide +kernel) (by decide +kernel)
set_option maxRecDepth 20000 in
theorem gX4_set_X4_isBetween : GoodIn wsX4_set (va_wsS RX4 59 yX4_isBetween wsX4_isBetween) := goodIn_app (goodIn_of _ (by decide +kernel)) ggX4_set_X4_isBetween
set_option maxRecDepth 20000 in
theorem ggX4_set_X2_levelAt : GoodIn wsX4_set wsX2_levelAt := goodIn_r _ [12, 13, 3, 4, 5, 76] (by decide +kernel) (by decide +kernel)
set_option maxRecDepth 20000 in
theorem gX4_set_X2_levelAt_n66 : GoodIn wsX4_set (wsX2_levelAt) := ggX4_set_X2_levelAt
set_option maxRecDepth 20000 in
theorem ggX4_set_X4_record : GoodIn wsX4_set wsX4_record := goodIn_r _ [17, 18, 19, 20, 21, 22, 1, 23, 24, 25, 26, 27, 28, 29, 30, 31, 32, 33, 34, 35, 36, 37, 38, 10, 39, 40, 41, 42, 43, 44, 45, 46, 47, 13, 48, 49, 50, 51, 52, 53, 54, 55, 56, 57, 58, 62, 63, 64, 65, 66, 67, 68, 69, 70, 71, 72, 73, 74, 75, 76] (by decide +kernel) (by decide +kernel)
set_option maxRecDepth 20000 in
theorem gX4_set_X4_record : GoodIn wsX4_set (wsV RX4 70 RX4 yX4_record wsX4_record) := goodIn_app (goodIn_of _ (by decide +kernel)) ggX4_set_X4_record
set_option maxRecDepth 20000 in
theorem ggX4_set_X2_putLevel : GoodIn wsX4_set wsX2_putLevel := goodIn_r _ [61, 13, 3, 4, 5, 76] (by decide +kernel) (by decide +kernel)
set_option maxRecDepth 20000 in
theorem gX4_set_X2_putLevel_n73 : GoodIn wsX4_set (wsX2_putLevel) := ggX4_set_X2_putLevel
theorem dX4_set_0 : decode cX4_set 0 = .ok (.iload_n 1, 1) := by decide +kernel
theorem dX4_set_1 : decode cX4_set 1 = .ok (.iload_n 2, 1) := by decide +kernel
theorem dX4_set_2 : decode cX4_set 2 = .ok (.invokestatic 55, 3) := by decide +kernel
theorem dX4_set_5 : decode cX4_set 5 = .ok (.ifCond .ne 5, 3) := by decide +kernel
theorem dX4_set_8 : decode cX4_set 8 = .ok (.iconst (-1), 1) := by decide +kernel
theorem dX4_set_9 : decode cX4_set 9 = .ok (.ireturn, 1) := by decide +kernel
theorem dX4_set_10 : decode cX4_set 10 = .ok (.iload_n 3, 1) := by decide +kernel
theorem dX4_set_11 : decode cX4_set 11 = .ok (.iconst 0, 1) := by decide +kernel
theorem dX4_set_12 : decode cX4_set 12 = .ok (.bipush 15, 2) := by decide +kernel
theorem dX4_set_14 : decode cX4_set 14 = .ok (.invokestatic 59, 3) := by decide +kernel
theorem dX4_set_17 : decode cX4_set 17 = .ok (.ifCond .ne 6, 3) := by decide +kernel
theorem dX4_set_20 : decode cX4_set 20 = .ok (.bipush (-2), 2) := by decide +kernel
theorem dX4_set_22 : decode cX4_set 22 = .ok (.ireturn, 1) := by decide +kernel
theorem dX4_set_23 : decode cX4_set 23 = .ok (.aload_n 0, 1) := by decide +kernel
theorem dX4_set_24 : decode cX4_set 24 = .ok (.getfield 10, 3) := by decide +kernel
theorem dX4_set_27 : decode cX4_set 27 = .ok (.getfield 63, 3) := by decide +kernel
theorem dX4_set_30 : decode cX4_set 30 = .ok (.iload_n 1, 1) := by decide +kernel
theorem dX4_set_31 : decode cX4_set 31 = .ok (.iload_n 2, 1) := by decide +kernel
theorem dX4_set_32 : decode cX4_set 32 = .ok (.invokevirtual 66, 3) := by decide +kernel
theorem dX4_set_35 : decode cX4_set 35 = .ok (.istore 4, 2) := by decide +kernel
theorem dX4_set_37 : decode cX4_set 37 = .ok (.iload 4, 2) := by decide +kernel
theorem dX4_set_39 : decode cX4_set 39 = .ok (.iload_n 3, 1) := by decide +kernel
theorem dX4_set_40 : decode cX4_set 40 = .ok (.if_icmp .ne 6, 3) := by decide +kernel
theorem dX4_set_43 : decode cX4_set 43 = .ok (.bipush (-5), 2) := by decide +kernel
theorem dX4_set_45 : decode cX4_set 45 = .ok (.ireturn, 1) := by decide +kernel
theorem dX4_set_46 : decode cX4_set 46 = .ok (.aload_n 0, 1) := by decide +kernel
theorem dX4_set_47 : decode cX4_set 47 = .ok (.invokevirtual 70, 3) := by decide +kernel
theorem dX4_set_50 : decode cX4_set 50 = .ok (.aload_n 0, 1) := by decide +kernel
theorem dX4_set_51 : decode cX4_set 51 = .ok (.getfield 10, 3) := by decide +kernel
theorem dX4_set_54 : decode cX4_set 54 = .ok (.getfield 63, 3) := by decide +kernel
theorem dX4_set_57 : decode cX4_set 57 = .ok (.iload_n 1, 1) := by decide +kernel
theorem dX4_set_58 : decode cX4_set 58 = .ok (.iload_n 2, 1) := by decide +kernel
theorem dX4_set_59 : decode cX4_set 59 = .ok (.iload_n 3, 1) := by decide +kernel
theorem dX4_set_60 : decode cX4_set 60 = .ok (.invokevirtual 73, 3) := by decide +kernel
theorem dX4_set_63 : decode cX4_set 63 = .ok (.iload 4, 2) := by decide +kernel
theorem dX4_set_65 : decode cX4_set 65 = .ok (.ireturn, 1) := by decide +kernel
set_option maxRecDepth 20000 in
theorem ggX4_fill_X4_boxError : GoodIn wsX4_fill wsX4_boxError := goodIn_r _ [5, 6, 7, 4, 8, 9, 10, 11] (by decide +kernel) (by decide +kernel)
set_option maxRecDepth 20000 in
theorem gX4_fill_X4_boxError : GoodIn wsX4_fill (va_wsS RX4 77 yX4_boxError wsX4_boxError) := goodIn_app (goodIn_of _ (by decide +kernel)) ggX4_fill_X4_boxError
set_option maxRecDepth 20000 in
theorem ggX4_fill_X4_record : GoodIn wsX4_fill wsX4_record := goodIn_r _ [15, 16, 17, 18, 19, 20, 1, 21, 22, 23, 24, 25, 26, 27, 28, 29, 30, 31, 32, 33, 34, 35, 36, 37, 38, 39, 40, 41, 42, 43, 44, 45, 46, 47, 48, 49, 50, 51, 52, 53, 54, 55, 56, 57, 58, 71, 72, 73, 74, 75, 76, 77, 78, 79, 80, 81, 82, 83, 84, 85] (by decide +kernel) (by decide +kernel)
set_option maxRecDepth 20000 in
theorem gX4_fill_X4_record : GoodIn wsX4_fill (wsV RX4 70 RX4 yX4_record wsX4_record) := goodIn_app (goodIn_of _ (by decide +kernel)) ggX4_fill_X4_record
set_option maxRecDepth 20000 in
theorem ggX4_fill_X2_putBox : GoodIn wsX4_fill wsX2_putBox := goodIn_r _ [61, 62, 23, 24, 25, 63, 64, 65, 37, 66, 47, 7, 4, 8, 67, 68, 69, 70, 85] (by decide +kernel) (by decide +kernel)
set_option maxRecDepth 20000 in
theorem gX4_fill_X2_putBox_n81 : GoodIn wsX4_fill (wsX2_putBox) := ggX4_fill_X2_putBox
theorem dX4_fill_0 : decode cX4_fill 0 = .ok (.iload_n 1, 1) := by decide +kernel
theorem dX4_fill_1 : decode cX4_fill 1 = .ok (.iload_n 2, 1) := by decide +kernel
theorem dX4_fill_2 : decode cX4_fill 2 = .ok (.iload_n 3, 1) := by decide +kernel
theorem dX4_fill_3 : decode cX4_fill 3 = .ok (.iload 4, 2) := by decide +kernel
theorem dX4_fill_5 : decode cX4_fill 5 = .ok (.iload 5, 2) := by decide +kernel
theorem dX4_fill_7 : decode cX4_fill 7 = .ok (.invokestatic 77, 3) := by decide +kernel
theorem dX4_fill_10 : decode cX4_fill 10 = .ok (.istore 6, 2) := by decide +kernel
theorem dX4_fill_12 : decode cX4_fill 12 = .ok (.iload 6, 2) := by decide +kernel
theorem dX4_fill_14 : decode cX4_fill 14 = .ok (.ifCond .eq 6, 3) := by decide +kernel
theorem dX4_fill_17 : decode cX4_fill 17 = .ok (.iload 6, 2) := by decide +kernel
theorem dX4_fill_19 : decode cX4_fill 19 = .ok (.ireturn, 1) := by decide +kernel
theorem dX4_fill_20 : decode cX4_fill 20 = .ok (.aload_n 0, 1) := by decide +kernel
theorem dX4_fill_21 : decode cX4_fill 21 = .ok (.invokevirtual 70, 3) := by decide +kernel
theorem dX4_fill_24 : decode cX4_fill 24 = .ok (.aload_n 0, 1) := by decide +kernel
theorem dX4_fill_25 : decode cX4_fill 25 = .ok (.getfield 10, 3) := by decide +kernel
theorem dX4_fill_28 : decode cX4_fill 28 = .ok (.getfield 63, 3) := by decide +kernel
theorem dX4_fill_31 : decode cX4_fill 31 = .ok (.iload_n 1, 1) := by decide +kernel
theorem dX4_fill_32 : decode cX4_fill 32 = .ok (.iload_n 2, 1) := by decide +kernel
theorem dX4_fill_33 : decode cX4_fill 33 = .ok (.iload_n 3, 1) := by decide +kernel
theorem dX4_fill_34 : decode cX4_fill 34 = .ok (.iload 4, 2) := by decide +kernel
theorem dX4_fill_36 : decode cX4_fill 36 = .ok (.iload 5, 2) := by decide +kernel
theorem dX4_fill_38 : decode cX4_fill 38 = .ok (.invokevirtual 81, 3) := by decide +kernel
theorem dX4_fill_41 : decode cX4_fill 41 = .ok (.ireturn, 1) := by decide +kernel
set_option maxRecDepth 20000 in
theorem ggX4_shift_X4_stepError : GoodIn wsX4_shift wsX4_stepError := goodIn_r _ [6, 7, 8, 5, 9] (by decide +kernel) (by decide +kernel)
set_option maxRecDepth 20000 in
theorem gX4_shift_X4_stepError : GoodIn wsX4_shift (va_wsS RX4 84 yX4_stepError wsX4_stepError) := goodIn_app (goodIn_of _ (by decide +kernel)) ggX4_shift_X4_stepError
set_option maxRecDepth 20000 in
theorem ggX4_shift_X4_record : GoodIn wsX4_shift wsX4_record := goodIn_r _ [13, 14, 15, 16, 17, 18, 1, 19, 20, 21, 22, 23, 24, 25, 26, 27, 28, 29, 30, 31, 32, 33, 34, 35, 36, 37, 38, 39, 40, 41, 42, 43, 44, 45, 46, 47, 48, 49, 50, 51, 52, 53, 54, 55, 56, 75, 76, 77, 78, 79, 80, 81, 82, 83, 84, 85, 86, 87, 88, 89] (by decide +kernel) (by decide +kernel)
set_option maxRecDepth 20000 in
theorem gX4_shift_X4_record : GoodIn wsX4_shift (wsV RX4 70 RX4 yX4_record wsX4_record) := goodIn_app (goodIn_of _ (by decide +kernel)) ggX4_shift_X4_record
set_option maxRecDepth 20000 in
theorem ggX4_shift_X2_moveBy : GoodIn wsX4_shift wsX2_moveBy := goodIn_r _ [59, 60, 53, 54, 35, 55, 45, 56, 50, 51, 52, 61, 62, 63, 64, 65, 5, 66, 67, 68, 69, 70, 71, 72, 73, 74, 89] (by decide +kernel) (by decide +kernel)
set_option maxRecDepth 20000 in
theorem gX4_shift_X2_moveBy_n87 : GoodIn wsX4_shift (wsX2_moveBy) := ggX4_shift_X2_moveBy
theorem dX4_shift_0 : decode cX4_shift 0 = .ok (.iload_n 1, 1) := by decide +kernel
theorem dX4_shift_1 : decode cX4_shift 1 = .ok (.iload_n 2, 1) := by decide +kernel
theorem dX4_shift_2 : decode cX4_shift 2 = .ok (.invokestatic 84, 3) := by decide +kernel
theorem dX4_shift_5 : decode cX4_shift 5 = .ok (.istore_n 3, 1) := by decide +kernel
theorem dX4_shift_6 : decode cX4_shift 6 = .ok (.iload_n 3, 1) := by decide +kernel
theorem dX4_shift_7 : decode cX4_shift 7 = .ok (.ifCond .eq 5, 3) := by decide +kernel
theorem dX4_shift_10 : decode cX4_shift 10 = .ok (.iload_n 3, 1) := by decide +kernel
theorem dX4_shift_11 : decode cX4_shift 11 = .ok (.ireturn, 1) := by decide +kernel
theorem dX4_shift_12 : decode cX4_shift 12 = .ok (.aload_n 0, 1) := by decide +kernel
theorem dX4_shift_13 : decode cX4_shift 13 = .ok (.invokevirtual 70, 3) := by decide +kernel
theorem dX4_shift_16 : decode cX4_shift 16 = .ok (.aload_n 0, 1) := by decide +kernel
theorem dX4_shift_17 : decode cX4_shift 17 = .ok (.getfield 10, 3) := by decide +kernel
theorem dX4_shift_20 : decode cX4_shift 20 = .ok (.getfield 63, 3) := by decide +kernel
theorem dX4_shift_23 : decode cX4_shift 23 = .ok (.iload_n 1, 1) := by decide +kernel
theorem dX4_shift_24 : decode cX4_shift 24 = .ok (.iload_n 2, 1) := by decide +kernel
theorem dX4_shift_25 : decode cX4_shift 25 = .ok (.aload_n 0, 1) := by decide +kernel
theorem dX4_shift_26 : decode cX4_shift 26 = .ok (.getfield 47, 3) := by decide +kernel
theorem dX4_shift_29 : decode cX4_shift 29 = .ok (.invokevirtual 87, 3) := by decide +kernel
theorem dX4_shift_32 : decode cX4_shift 32 = .ok (.ireturn, 1) := by decide +kernel
set_option maxRecDepth 20000 in
theorem ggX4_paint_X1_read : GoodIn wsX4_paint wsX1_read := goodIn_r _ [5, 6, 7, 8, 9, 10, 11, 3, 12, 13, 14, 15, 16, 17, 18, 19, 20, 21, 22, 23, 24, 25, 26, 27, 28, 29, 30, 31, 32, 33, 34, 35, 36, 37, 141, 142, 143, 144, 145] (by decide +kernel) (by decide +kernel)
set_option maxRecDepth 20000 in
theorem gX4_paint_X1_read_n91 : GoodIn wsX4_paint (wsX1_read) := ggX4_paint_X1_read
set_option maxRecDepth 20000 in
theorem ggX4_paint_X4_firstOrderError : GoodIn wsX4_paint wsX4_firstOrderError := goodIn_r _ [41, 1, 42, 43, 44, 28, 45, 46, 3, 47, 48, 26, 27, 29, 49, 50, 51, 52, 53, 54, 55, 56, 57, 58, 132, 133, 134, 135, 136, 137, 138, 139, 140, 141, 142, 143, 144, 145] (by decide +kernel) (by decide +kernel)
set_option maxRecDepth 20000 in
theorem gX4_paint_X4_firstOrderError : GoodIn wsX4_paint (wsV RX4 95 RX4 yX4_firstOrderError wsX4_firstOrderError) := goodIn_app (goodIn_of _ (by decide +kernel)) ggX4_paint_X4_firstOrderError
set_option maxRecDepth 20000 in
theorem ggX4_paint_X4_record : GoodIn wsX4_paint wsX4_record := goodIn_r _ [62, 63, 64, 65, 66, 67, 68, 69, 70, 71, 72, 73, 74, 75, 76, 77, 78, 79, 80, 81, 82, 83, 84, 85, 86, 87, 88, 89, 90, 91, 92, 93, 94, 95, 96, 97, 98, 99, 100, 101, 102, 103, 104, 105, 106, 132, 133, 134, 135, 136, 137, 138, 139, 140, 146, 147, 148, 149, 150, 151] (by decide +kernel) (by decide +kernel)
set_option maxRecDepth 20000 in
theorem gX4_paint_X4_record : GoodIn wsX4_paint (wsV RX4 70 RX4 yX4_record wsX4_record) := goodIn_app (goodIn_of _ (by decide +kernel)) ggX4_paint_X4_record
set_option maxRecDepth 20000 in
theorem ggX4_paint_X4_doOrder : GoodIn wsX4_paint wsX4_doOrder := goodIn_r _ [110, 1, 68, 111, 46, 3, 47, 48, 26, 27, 28, 29, 112, 85, 113, 114, 115, 103, 104, 105, 95, 106, 100, 101, 102, 116, 117, 118, 119, 57, 58, 120, 121, 122, 123, 124, 125, 126, 127, 128, 129, 130, 131, 71, 72, 73, 132, 133, 134, 135, 136, 137, 138, 139, 140, 146, 147, 148, 149, 150, 141, 142, 143, 144, 145, 151] (by decide +kernel) (by decide +kernel)
set_option maxRecDepth 20000 in
theorem gX4_paint_X4_doOrder : GoodIn wsX4_paint (wsV RX4 101 RX4 yX4_doOrder wsX4_doOrder) := goodIn_app (goodIn_of _ (by decide +kernel)) ggX4_paint_X4_doOrder
theorem dX4_paint_0 : decode cX4_paint 0 = .ok (.aload_n 0, 1) := by decide +kernel
theorem dX4_paint_1 : decode cX4_paint 1 = .ok (.getfield 33, 3) := by decide +kernel
theorem dX4_paint_4 : decode cX4_paint 4 = .ok (.invokevirtual 91, 3) := by decide +kernel
theorem dX4_paint_7 : decode cX4_paint 7 = .ok (.istore_n 1, 1) := by decide +kernel
theorem dX4_paint_8 : decode cX4_paint 8 = .ok (.iload_n 1, 1) := by decide +kernel
theorem dX4_paint_9 : decode cX4_paint 9 = .ok (.iconst (-1), 1) := by decide +kernel
theorem dX4_paint_10 : decode cX4_paint 10 = .ok (.if_icmp .eq 8, 3) := by decide +kernel
theorem dX4_paint_13 : decode cX4_paint 13 = .ok (.bipush (-100), 2) := by decide +kernel
theorem dX4_paint_15 : decode cX4_paint 15 = .ok (.iload_n 1, 1) := by decide +kernel
theorem dX4_paint_16 : decode cX4_paint 16 = .ok (.isub, 1) := by decide +kernel
theorem dX4_paint_17 : decode cX4_paint 17 = .ok (.ireturn, 1) := by decide +kernel
theorem dX4_paint_18 : decode cX4_paint 18 = .ok (.aload_n 0, 1) := by decide +kernel
theorem dX4_paint_19 : decode cX4_paint 19 = .ok (.invokevirtual 95, 3) := by decide +kernel
theorem dX4_paint_22 : decode cX4_paint 22 = .ok (.istore_n 2, 1) := by decide +kernel
theorem dX4_paint_23 : decode cX4_paint 23 = .ok (.iload_n 2, 1) := by decide +kernel
theorem dX4_paint_24 : decode cX4_paint 24 = .ok (.ifCond .eq 5, 3) := by decide +kernel
theorem dX4_paint_27 : decode cX4_paint 27 = .ok (.iload_n 2, 1) := by decide +kernel
theorem dX4_paint_28 : decode cX4_paint 28 = .ok (.ireturn, 1) := by decide +kernel
theorem dX4_paint_29 : decode cX4_paint 29 = .ok (.aload_n 0, 1) := by decide +kernel
theorem dX4_paint_30 : decode cX4_paint 30 = .ok (.invokevirtual 70, 3) := by decide +kernel
theorem dX4_paint_33 : decode cX4_paint 33 = .ok (.aload_n 0, 1) := by decide +kernel
theorem dX4_paint_34 : decode cX4_paint 34 = .ok (.getfield 33, 3) := by decide +kernel
theorem dX4_paint_37 : decode cX4_paint 37 = .ok (.getfield 98, 3) := by decide +kernel
theorem dX4_paint_40 : decode cX4_paint 40 = .ok (.istore_n 3, 1) := by decide +kernel
theorem dX4_paint_41 : decode cX4_paint 41 = .ok (.iconst 0, 1) := by decide +kernel
theorem dX4_paint_42 : decode cX4_paint 42 = .ok (.istore 4, 2) := by decide +kernel
theorem dX4_paint_44 : decode cX4_paint 44 = .ok (.iload 4, 2) := by decide +kernel
theorem dX4_paint_46 : decode cX4_paint 46 = .ok (.iload_n 3, 1) := by decide +kernel
theorem dX4_paint_47 : decode cX4_paint 47 = .ok (.if_icmp .ge 15, 3) := by decide +kernel
theorem dX4_paint_50 : decode cX4_paint 50 = .ok (.aload_n 0, 1) := by decide +kernel
theorem dX4_paint_51 : decode cX4_paint 51 = .ok (.iload 4, 2) := by decide +kernel
theorem dX4_paint_53 : decode cX4_paint 53 = .ok (.invokevirtual 101, 3) := by decide +kernel
theorem dX4_paint_56 : decode cX4_paint 56 = .ok (.iinc 4 1, 3) := by decide +kernel
theorem dX4_paint_59 : decode cX4_paint 59 = .ok (.goto (-15), 3) := by decide +kernel
theorem dX4_paint_62 : decode cX4_paint 62 = .ok (.iload_n 3, 1) := by decide +kernel
theorem dX4_paint_63 : decode cX4_paint 63 = .ok (.ireturn, 1) := by decide +kernel
set_option maxRecDepth 20000 in
theorem ggX4_setNumber_X4_isBetween : GoodIn wsX4_setNumber wsX4_isBetween := goodIn_r _ [7] (by decide +kernel) (by decide +kernel)
set_option maxRecDepth 20000 in
theorem gX4_setNumber_X4_isBetween : GoodIn wsX4_setNumber (va_wsS RX4 59 yX4_isBetween wsX4_isBetween) := goodIn_app (goodIn_of _ (by decide +kernel)) ggX4_setNumber_X4_isBetween
set_option maxRecDepth 20000 in
theorem ggX4_setNumber_X4_record : GoodIn wsX4_setNumber wsX4_record := goodIn_r _ [11, 12, 13, 14, 15, 16, 3, 17, 18, 19, 20, 21, 22, 23, 24, 25, 26, 27, 28, 29, 30, 31, 32, 33, 34, 35, 36, 37, 38, 39, 40, 41, 42, 43, 44, 45, 46, 47, 48, 49, 50, 51, 52, 53, 54, 55, 56, 57, 58, 59, 60, 61, 62, 63, 64, 65, 66, 67, 68, 69] (by decide +kernel) (by decide +kernel)
set_option maxRecDepth 20000 in
theorem gX4_setNumber_X4_record : GoodIn wsX4_setNumber (wsV RX4 70 RX4 yX4_record wsX4_record) := goodIn_app (goodIn_of _ (by decide +kernel)) ggX4_setNumber_X4_record
theorem dX4_setNumber_0 : decode cX4_setNumber 0 = .ok (.iload_n 1, 1) := by decide +kernel
theorem dX4_setNumber_1 : decode cX4_setNumber 1 = .ok (.iconst 0, 1) := by decide +kernel
theorem dX4_setNumber_2 : decode cX4_setNumber 2 = .ok (.iconst 2, 1) := by decide +kernel
theorem dX4_setNumber_3 : decode cX4_setNumber 3 = .ok (.invokestatic 59, 3) := by decide +kernel
theorem dX4_setNumber_6 : decode cX4_setNumber 6 = .ok (.ifCond .ne 6, 3) := by decide +kernel
theorem dX4_setNumber_9 : decode cX4_setNumber 9 = .ok (.bipush (-2), 2) := by decide +kernel
theorem dX4_setNumber_11 : decode cX4_setNumber 11 = .ok (.ireturn, 1) := by decide +kernel
theorem dX4_setNumber_12 : decode cX4_setNumber 12 = .ok (.iload_n 2, 1) := by decide +kernel
theorem dX4_setNumber_13 : decode cX4_setNumber 13 = .ok (.getstatic 105, 3) := by decide +kernel
theorem dX4_setNumber_16 : decode cX4_setNumber 16 = .ok (.iload_n 1, 1) := by decide +kernel
theorem dX4_setNumber_17 : decode cX4_setNumber 17 = .ok (.iaload, 1) := by decide +kernel
theorem dX4_setNumber_18 : decode cX4_setNumber 18 = .ok (.getstatic 108, 3) := by decide +kernel
theorem dX4_setNumber_21 : decode cX4_setNumber 21 = .ok (.iload_n 1, 1) := by decide +kernel
theorem dX4_setNumber_22 : decode cX4_setNumber 22 = .ok (.iaload, 1) := by decide +kernel
theorem dX4_setNumber_23 : decode cX4_setNumber 23 = .ok (.invokestatic 59, 3) := by decide +kernel
theorem dX4_setNumber_26 : decode cX4_setNumber 26 = .ok (.ifCond .ne 6, 3) := by decide +kernel
theorem dX4_setNumber_29 : decode cX4_setNumber 29 = .ok (.bipush (-2), 2) := by decide +kernel
theorem dX4_setNumber_31 : decode cX4_setNumber 31 = .ok (.ireturn, 1) := by decide +kernel
theorem dX4_setNumber_32 : decode cX4_setNumber 32 = .ok (.aload_n 0, 1) := by decide +kernel
theorem dX4_setNumber_33 : decode cX4_setNumber 33 = .ok (.getfield 10, 3) := by decide +kernel
theorem dX4_setNumber_36 : decode cX4_setNumber 36 = .ok (.getfield 111, 3) := by decide +kernel
theorem dX4_setNumber_39 : decode cX4_setNumber 39 = .ok (.iload_n 1, 1) := by decide +kernel
theorem dX4_setNumber_40 : decode cX4_setNumber 40 = .ok (.iaload, 1) := by decide +kernel
theorem dX4_setNumber_41 : decode cX4_setNumber 41 = .ok (.istore_n 3, 1) := by decide +kernel
theorem dX4_setNumber_42 : decode cX4_setNumber 42 = .ok (.iload_n 3, 1) := by decide +kernel
theorem dX4_setNumber_43 : decode cX4_setNumber 43 = .ok (.iload_n 2, 1) := by decide +kernel
theorem dX4_setNumber_44 : decode cX4_setNumber 44 = .ok (.if_icmp .ne 6, 3) := by decide +kernel
theorem dX4_setNumber_47 : decode cX4_setNumber 47 = .ok (.bipush (-5), 2) := by decide +kernel
theorem dX4_setNumber_49 : decode cX4_setNumber 49 = .ok (.ireturn, 1) := by decide +kernel
theorem dX4_setNumber_50 : decode cX4_setNumber 50 = .ok (.aload_n 0, 1) := by decide +kernel
theorem dX4_setNumber_51 : decode cX4_setNumber 51 = .ok (.invokevirtual 70, 3) := by decide +kernel
theorem dX4_setNumber_54 : decode cX4_setNumber 54 = .ok (.aload_n 0, 1) := by decide +kernel
theorem dX4_setNumber_55 : decode cX4_setNumber 55 = .ok (.getfield 10, 3) := by decide +kernel
theorem dX4_setNumber_58 : decode cX4_setNumber 58 = .ok (.getfield 111, 3) := by decide +kernel
theorem dX4_setNumber_61 : decode cX4_setNumber 61 = .ok (.iload_n 1, 1) := by decide +kernel
theorem dX4_setNumber_62 : decode cX4_setNumber 62 = .ok (.iload_n 2, 1) := by decide +kernel
theorem dX4_setNumber_63 : decode cX4_setNumber 63 = .ok (.iastore, 1) := by decide +kernel
theorem dX4_setNumber_64 : decode cX4_setNumber 64 = .ok (.iload_n 3, 1) := by decide +kernel
theorem dX4_setNumber_65 : decode cX4_setNumber 65 = .ok (.ireturn, 1) := by decide +kernel
set_option maxRecDepth 20000 in
theorem ggX4_send_X4_record : GoodIn wsX4_send wsX4_record := goodIn_r _ [6, 7, 8, 9, 10, 11, 1, 12, 13, 14, 15, 16, 17, 18, 19, 20, 21, 22, 23, 24, 25, 26, 27, 28, 29, 30, 31, 32, 33, 34, 35, 36, 37, 38, 39, 40, 41, 42, 43, 44, 45, 46, 47, 48, 49, 169, 170, 171, 172, 173, 174, 175, 176, 177, 178, 179, 180, 181, 182, 183] (by decide +kernel) (by decide +kernel)
set_option maxRecDepth 20000 in
theorem gX4_send_X4_record : GoodIn wsX4_send (wsV RX4 70 RX4 yX4_record wsX4_record) := goodIn_app (goodIn_of _ (by decide +kernel)) ggX4_send_X4_record
set_option maxRecDepth 20000 in
theorem ggX4_send_X3_isToBeKeyed : GoodIn wsX4_send wsX3_isToBeKeyed := goodIn_r _ [52, 33, 178, 179, 180, 181, 182] (by decide +kernel) (by decide +kernel)
set_option maxRecDepth 20000 in
theorem gX4_send_X3_isToBeKeyed_n114 : GoodIn wsX4_send (wsX3_isToBeKeyed) := ggX4_send_X3_isToBeKeyed
set_option maxRecDepth 20000 in
theorem ggX4_send_X3_canBeKeyed : GoodIn wsX4_send wsX3_canBeKeyed := goodIn_r _ [55, 56, 57, 58, 11, 59, 33, 178, 179, 180, 181, 182] (by decide +kernel) (by decide +kernel)
set_option maxRecDepth 20000 in
theorem gX4_send_X3_canBeKeyed_n118 : GoodIn wsX4_send (wsX3_canBeKeyed) := ggX4_send_X3_canBeKeyed
set_option maxRecDepth 20000 in
theorem ggX4_send_X4_sendFrame : GoodIn wsX4_send wsX4_sendFrame := goodIn_r _ [63, 64, 1, 65, 66, 67, 68, 69, 70, 71, 72, 73, 74, 75, 5, 76, 77, 78, 79, 80, 81, 82, 83, 84, 85, 86, 87, 88, 89, 90, 91, 92, 93, 94, 95, 96, 97, 98, 99, 28, 100, 101, 102, 103, 15, 104, 105, 106, 107, 108, 38, 57, 11, 58, 59, 33, 109, 110, 111, 112, 113, 114, 115, 116, 117, 118, 119, 120, 121, 122, 123, 124, 125, 126, 127, 128, 129, 130, 46, 47, 48, 49, 43, 44, 45, 131, 132, 133, 134, 135, 136, 137, 138, 139, 140, 141, 142, 143, 144, 145, 146, 147, 148, 149, 34, 150, 151, 152, 153, 18, 19, 20, 154, 155, 156, 157, 158, 159, 160, 161, 162, 163, 164, 165, 166, 167, 168, 13, 14, 16, 169, 170, 171, 172, 173, 174, 175, 176, 177, 178, 179, 180, 181, 182, 184, 183] (by decide +kernel) (by decide +kernel)
set_option maxRecDepth 20000 in
theorem gX4_send_X4_sendFrame : GoodIn wsX4_send (wsV RX4 121 RX4 yX4_sendFrame wsX4_sendFrame) := goodIn_app (goodIn_of _ (by decide +kernel)) ggX4_send_X4_sendFrame
theorem dX4_send_0 : decode cX4_send 0 = .ok (.aload_n 0, 1) := by decide +kernel
theorem dX4_send_1 : decode cX4_send 1 = .ok (.invokevirtual 70, 3) := by decide +kernel
theorem dX4_send_4 : decode cX4_send 4 = .ok (.aload_n 0, 1) := by decide +kernel
theorem dX4_send_5 : decode cX4_send 5 = .ok (.aload_n 0, 1) := by decide +kernel
theorem dX4_send_6 : decode cX4_send 6 = .ok (.getfield 10, 3) := by decide +kernel
theorem dX4_send_9 : decode cX4_send 9 = .ok (.invokevirtual 114, 3) := by decide +kernel
theorem dX4_send_12 : decode cX4_send 12 = .ok (.ifCond .eq 17, 3) := by decide +kernel
theorem dX4_send_15 : decode cX4_send 15 = .ok (.aload_n 0, 1) := by decide +kernel
theorem dX4_send_16 : decode cX4_send 16 = .ok (.getfield 10, 3) := by decide +kernel
theorem dX4_send_19 : decode cX4_send 19 = .ok (.invokevirtual 118, 3) := by decide +kernel
theorem dX4_send_22 : decode cX4_send 22 = .ok (.ifCond .eq 7, 3) := by decide +kernel
theorem dX4_send_25 : decode cX4_send 25 = .ok (.iconst 1, 1) := by decide +kernel
theorem dX4_send_26 : decode cX4_send 26 = .ok (.goto 4, 3) := by decide +kernel
theorem dX4_send_29 : decode cX4_send 29 = .ok (.iconst 0, 1) := by decide +kernel
theorem dX4_send_30 : decode cX4_send 30 = .ok (.iload_n 1, 1) := by decide +kernel
theorem dX4_send_31 : decode cX4_send 31 = .ok (.invokevirtual 121, 3) := by decide +kernel
theorem dX4_send_34 : decode cX4_send 34 = .ok (.ireturn, 1) := by decide +kernel
set_option maxRecDepth 20000 in
theorem ggX4_sendKeyed_X3_canBeKeyed : GoodIn wsX4_sendKeyed wsX3_canBeKeyed := goodIn_r _ [5, 6, 7, 8, 3, 9, 10, 175, 176, 177, 178, 179] (by decide +kernel) (by decide +kernel)
set_option maxRecDepth 20000 in
theorem gX4_sendKeyed_X3_canBeKeyed_n118 : GoodIn wsX4_sendKeyed (wsX3_canBeKeyed) := ggX4_sendKeyed_X3_canBeKeyed
set_option maxRecDepth 20000 in
theorem ggX4_sendKeyed_X4_record : GoodIn wsX4_sendKeyed wsX4_record := goodIn_r _ [15, 16, 17, 18, 19, 3, 1, 20, 21, 22, 23, 24, 25, 26, 27, 28, 29, 30, 31, 32, 33, 34, 35, 36, 37, 38, 39, 40, 10, 41, 42, 43, 44, 45, 46, 47, 48, 49, 50, 51, 52, 53, 54, 55, 56, 166, 167, 168, 169, 170, 171, 172, 173, 174, 175, 176, 177, 178, 179, 180] (by decide +kernel) (by decide +kernel)
set_option maxRecDepth 20000 in
theorem gX4_sendKeyed_X4_record : GoodIn wsX4_sendKeyed (wsV RX4 70 RX4 yX4_record wsX4_record) := goodIn_app (goodIn_of _ (by decide +kernel)) ggX4_sendKeyed_X4_record
set_option maxRecDepth 20000 in
theorem ggX4_sendKeyed_X4_sendFrame : GoodIn wsX4_sendKeyed wsX4_sendFrame := goodIn_r _ [60, 61, 1, 62, 63, 64, 65, 66, 67, 68, 69, 70, 71, 72, 14, 73, 74, 75, 76, 77, 78, 79, 80, 81, 82, 83, 84, 85, 86, 87, 88, 89, 90, 91, 92, 93, 94, 95, 96, 36, 97, 98, 99, 100, 23, 101, 102, 103, 104, 105, 45, 7, 3, 8, 9, 10, 106, 107, 108, 109, 110, 111, 112, 113, 114, 115, 116, 117, 118, 119, 120, 121, 122, 123, 124, 125, 126, 127, 53, 54, 55, 56, 50, 51, 52, 128, 129, 130, 131, 132, 133, 134, 135, 136, 137, 138, 139, 140, 141, 142, 143, 144, 145, 146, 41, 147, 148, 149, 150, 26, 27, 28, 151, 152, 153, 154, 155, 156, 157, 158, 159, 160, 161, 162, 163, 164, 165, 21, 22, 24, 166, 167, 168, 169, 170, 171, 172, 173, 174, 175, 176, 177, 178, 179, 181, 180] (by decide +kernel) (by decide +kernel)
set_option maxRecDepth 20000 in
theorem gX4_sendKeyed_X4_sendFrame : GoodIn wsX4_sendKeyed (wsV RX4 121 RX4 yX4_sendFrame wsX4_sendFrame) := goodIn_app (goodIn_of _ (by decide +kernel)) ggX4_sendKeyed_X4_sendFrame
theorem dX4_sendKeyed_0 : decode cX4_sendKeyed 0 = .ok (.aload_n 0, 1) := by decide +kernel
theorem dX4_sendKeyed_1 : decode cX4_sendKeyed 1 = .ok (.getfield 10, 3) := by decide +kernel
theorem dX4_sendKeyed_4 : decode cX4_sendKeyed 4 = .ok (.invokevirtual 118, 3) := by decide +kernel
theorem dX4_sendKeyed_7 : decode cX4_sendKeyed 7 = .ok (.ifCond .ne 6, 3) := by decide +kernel
theorem dX4_sendKeyed_10 : decode cX4_sendKeyed 10 = .ok (.bipush (-4), 2) := by decide +kernel
theorem dX4_sendKeyed_12 : decode cX4_sendKeyed 12 = .ok (.ireturn, 1) := by decide +kernel
theorem dX4_sendKeyed_13 : decode cX4_sendKeyed 13 = .ok (.aload_n 0, 1) := by decide +kernel
theorem dX4_sendKeyed_14 : decode cX4_sendKeyed 14 = .ok (.invokevirtual 70, 3) := by decide +kernel
theorem dX4_sendKeyed_17 : decode cX4_sendKeyed 17 = .ok (.aload_n 0, 1) := by decide +kernel
theorem dX4_sendKeyed_18 : decode cX4_sendKeyed 18 = .ok (.iconst 1, 1) := by decide +kernel
theorem dX4_sendKeyed_19 : decode cX4_sendKeyed 19 = .ok (.iload_n 1, 1) := by decide +kernel
theorem dX4_sendKeyed_20 : decode cX4_sendKeyed 20 = .ok (.invokevirtual 121, 3) := by decide +kernel
theorem dX4_sendKeyed_23 : decode cX4_sendKeyed 23 = .ok (.ireturn, 1) := by decide +kernel
set_option maxRecDepth 20000 in
theorem ggX4_type_X1_add : GoodIn wsX4_type wsX1_add := goodIn_r _ [5, 6, 7, 17, 18, 19, 20, 21] (by decide +kernel) (by decide +kernel)
set_option maxRecDepth 20000 in
theorem gX4_type_X1_add_n125 : GoodIn wsX4_type (wsX1_add) := ggX4_type_X1_add
theorem dX4_type_0 : decode cX4_type 0 = .ok (.aload_n 0, 1) := by decide +kernel
theorem dX4_type_1 : decode cX4_type 1 = .ok (.getfield 33, 3) := by decide +kernel
theorem dX4_type_4 : decode cX4_type 4 = .ok (.iload_n 1, 1) := by decide +kernel
theorem dX4_type_5 : decode cX4_type 5 = .ok (.invokevirtual 125, 3) := by decide +kernel
theorem dX4_type_8 : decode cX4_type 8 = .ok (.ifCond .eq 13, 3) := by decide +kernel
theorem dX4_type_11 : decode cX4_type 11 = .ok (.aload_n 0, 1) := by decide +kernel
theorem dX4_type_12 : decode cX4_type 12 = .ok (.getfield 33, 3) := by decide +kernel
theorem dX4_type_15 : decode cX4_type 15 = .ok (.getfield 129, 3) := by decide +kernel
theorem dX4_type_18 : decode cX4_type 18 = .ok (.goto 5, 3) := by decide +kernel
theorem dX4_type_21 : decode cX4_type 21 = .ok (.bipush (-3), 2) := by decide +kernel
theorem dX4_type_23 : decode cX4_type 23 = .ok (.ireturn, 1) := by decide +kernel
theorem dX4_clearText_0 : decode cX4_clearText 0 = .ok (.aload_n 0, 1) := by decide +kernel
theorem dX4_clearText_1 : decode cX4_clearText 1 = .ok (.getfield 33, 3) := by decide +kernel
theorem dX4_clearText_4 : decode cX4_clearText 4 = .ok (.getfield 129, 3) := by decide +kernel
theorem dX4_clearText_7 : decode cX4_clearText 7 = .ok (.istore_n 1, 1) := by decide +kernel
theorem dX4_clearText_8 : decode cX4_clearText 8 = .ok (.aload_n 0, 1) := by decide +kernel
theorem dX4_clearText_9 : decode cX4_clearText 9 = .ok (.getfield 33, 3) := by decide +kernel
theorem dX4_clearText_12 : decode cX4_clearText 12 = .ok (.iconst 0, 1) := by decide +kernel
theorem dX4_clearText_13 : decode cX4_clearText 13 = .ok (.putfield 129, 3) := by decide +kernel
theorem dX4_clearText_16 : decode cX4_clearText 16 = .ok (.iload_n 1, 1) := by decide +kernel
theorem dX4_clearText_17 : decode cX4_clearText 17 = .ok (.ireturn, 1) := by decide +kernel
set_option maxRecDepth 20000 in
theorem ggX4_undo_J9_floorMod_7cf53 : GoodIn wsX4_undo wsJ9_floorMod_7cf53 := goodIn_r _ [8] (by decide +kernel) (by decide +kernel)
set_option maxRecDepth 20000 in
theorem gX4_undo_J9_floorMod_7cf53 : GoodIn wsX4_undo (va_wsS RX4 132 yJ9_floorMod_7cf53 wsJ9_floorMod_7cf53) := goodIn_app (goodIn_of _ (by decide +kernel)) ggX4_undo_J9_floorMod_7cf53
set_option maxRecDepth 20000 in
theorem ggX4_undo_X3_copyFrom : GoodIn wsX4_undo wsX3_copyFrom := goodIn_r _ [12, 13, 14, 15, 16, 17, 18, 19, 20, 21, 22, 23, 24, 25, 26, 27, 37, 38, 39, 40, 41, 42] (by decide +kernel) (by decide +kernel)
set_option maxRecDepth 20000 in
theorem gX4_undo_X3_copyFrom_n137 : GoodIn wsX4_undo (wsX3_copyFrom) := ggX4_undo_X3_copyFrom
theorem dX4_undo_0 : decode cX4_undo 0 = .ok (.aload_n 0, 1) := by decide +kernel
theorem dX4_undo_1 : decode cX4_undo 1 = .ok (.getfield 24, 3) := by decide +kernel
theorem dX4_undo_4 : decode cX4_undo 4 = .ok (.ifCond .gt 6, 3) := by decide +kernel
theorem dX4_undo_7 : decode cX4_undo 7 = .ok (.bipush (-5), 2) := by decide +kernel
theorem dX4_undo_9 : decode cX4_undo 9 = .ok (.ireturn, 1) := by decide +kernel
theorem dX4_undo_10 : decode cX4_undo 10 = .ok (.aload_n 0, 1) := by decide +kernel
theorem dX4_undo_11 : decode cX4_undo 11 = .ok (.getfield 20, 3) := by decide +kernel
theorem dX4_undo_14 : decode cX4_undo 14 = .ok (.iconst 1, 1) := by decide +kernel
theorem dX4_undo_15 : decode cX4_undo 15 = .ok (.isub, 1) := by decide +kernel
theorem dX4_undo_16 : decode cX4_undo 16 = .ok (.iconst 4, 1) := by decide +kernel
theorem dX4_undo_17 : decode cX4_undo 17 = .ok (.invokestatic 132, 3) := by decide +kernel
theorem dX4_undo_20 : decode cX4_undo 20 = .ok (.istore_n 1, 1) := by decide +kernel
theorem dX4_undo_21 : decode cX4_undo 21 = .ok (.aload_n 0, 1) := by decide +kernel
theorem dX4_undo_22 : decode cX4_undo 22 = .ok (.getfield 16, 3) := by decide +kernel
theorem dX4_undo_25 : decode cX4_undo 25 = .ok (.iload_n 1, 1) := by decide +kernel
theorem dX4_undo_26 : decode cX4_undo 26 = .ok (.aaload, 1) := by decide +kernel
theorem dX4_undo_27 : decode cX4_undo 27 = .ok (.astore_n 2, 1) := by decide +kernel
theorem dX4_undo_28 : decode cX4_undo 28 = .ok (.aload_n 2, 1) := by decide +kernel
theorem dX4_undo_29 : decode cX4_undo 29 = .ok (.ifnonnull 6, 3) := by decide +kernel
theorem dX4_undo_32 : decode cX4_undo 32 = .ok (.bipush (-5), 2) := by decide +kernel
theorem dX4_undo_34 : decode cX4_undo 34 = .ok (.ireturn, 1) := by decide +kernel
theorem dX4_undo_35 : decode cX4_undo 35 = .ok (.aload_n 0, 1) := by decide +kernel
theorem dX4_undo_36 : decode cX4_undo 36 = .ok (.getfield 10, 3) := by decide +kernel
theorem dX4_undo_39 : decode cX4_undo 39 = .ok (.aload_n 2, 1) := by decide +kernel
theorem dX4_undo_40 : decode cX4_undo 40 = .ok (.invokevirtual 137, 3) := by decide +kernel
theorem dX4_undo_43 : decode cX4_undo 43 = .ok (.aload_n 0, 1) := by decide +kernel
theorem dX4_undo_44 : decode cX4_undo 44 = .ok (.iload_n 1, 1) := by decide +kernel
theorem dX4_undo_45 : decode cX4_undo 45 = .ok (.putfield 20, 3) := by decide +kernel
theorem dX4_undo_48 : decode cX4_undo 48 = .ok (.aload_n 0, 1) := by decide +kernel
theorem dX4_undo_49 : decode cX4_undo 49 = .ok (.dup, 1) := by decide +kernel
theorem dX4_undo_50 : decode cX4_undo 50 = .ok (.getfield 24, 3) := by decide +kernel
theorem dX4_undo_53 : decode cX4_undo 53 = .ok (.iconst 1, 1) := by decide +kernel
theorem dX4_undo_54 : decode cX4_undo 54 = .ok (.isub, 1) := by decide +kernel
theorem dX4_undo_55 : decode cX4_undo 55 = .ok (.putfield 24, 3) := by decide +kernel
theorem dX4_undo_58 : decode cX4_undo 58 = .ok (.aload_n 0, 1) := by decide +kernel
theorem dX4_undo_59 : decode cX4_undo 59 = .ok (.getfield 24, 3) := by decide +kernel
theorem dX4_undo_62 : decode cX4_undo 62 = .ok (.ireturn, 1) := by decide +kernel
set_option maxRecDepth 20000 in
theorem ggX4_keep_X3_init : GoodIn wsX4_keep wsX3_init := goodIn_r _ [7, 8, 9, 10, 11, 12, 13, 14, 15, 16, 17, 18, 19, 20, 21, 22, 23, 49, 44, 45, 46, 47, 48] (by decide +kernel) (by decide +kernel)
set_option maxRecDepth 20000 in
theorem gX4_keep_X3_init_n9 : GoodIn wsX4_keep (wsX3_init) := ggX4_keep_X3_init
set_option maxRecDepth 20000 in
theorem ggX4_keep_X3_copyFrom : GoodIn wsX4_keep wsX3_copyFrom := goodIn_r _ [26, 14, 15, 16, 18, 27, 28, 29, 30, 19, 31, 13, 32, 33, 23, 34, 44, 45, 46, 47, 48, 49] (by decide +kernel) (by decide +kernel)
set_option maxRecDepth 20000 in
theorem gX4_keep_X3_copyFrom_n137 : GoodIn wsX4_keep (wsX3_copyFrom) := ggX4_keep_X3_copyFrom
theorem dX4_keep_0 : decode cX4_keep 0 = .ok (.aload_n 0, 1) := by decide +kernel
theorem dX4_keep_1 : decode cX4_keep 1 = .ok (.getfield 27, 3) := by decide +kernel
theorem dX4_keep_4 : decode cX4_keep 4 = .ok (.astore_n 1, 1) := by decide +kernel
theorem dX4_keep_5 : decode cX4_keep 5 = .ok (.aload_n 1, 1) := by decide +kernel
theorem dX4_keep_6 : decode cX4_keep 6 = .ok (.ifnonnull 16, 3) := by decide +kernel
theorem dX4_keep_9 : decode cX4_keep 9 = .ok (.new 7, 3) := by decide +kernel
theorem dX4_keep_12 : decode cX4_keep 12 = .ok (.dup, 1) := by decide +kernel
theorem dX4_keep_13 : decode cX4_keep 13 = .ok (.invokespecial 9, 3) := by decide +kernel
theorem dX4_keep_16 : decode cX4_keep 16 = .ok (.astore_n 1, 1) := by decide +kernel
theorem dX4_keep_17 : decode cX4_keep 17 = .ok (.aload_n 0, 1) := by decide +kernel
theorem dX4_keep_18 : decode cX4_keep 18 = .ok (.aload_n 1, 1) := by decide +kernel
theorem dX4_keep_19 : decode cX4_keep 19 = .ok (.putfield 27, 3) := by decide +kernel
theorem dX4_keep_22 : decode cX4_keep 22 = .ok (.aload_n 1, 1) := by decide +kernel
theorem dX4_keep_23 : decode cX4_keep 23 = .ok (.aload_n 0, 1) := by decide +kernel
theorem dX4_keep_24 : decode cX4_keep 24 = .ok (.getfield 10, 3) := by decide +kernel
theorem dX4_keep_27 : decode cX4_keep 27 = .ok (.invokevirtual 137, 3) := by decide +kernel
theorem dX4_keep_30 : decode cX4_keep 30 = .ok (.aload_n 0, 1) := by decide +kernel
theorem dX4_keep_31 : decode cX4_keep 31 = .ok (.getfield 10, 3) := by decide +kernel
theorem dX4_keep_34 : decode cX4_keep 34 = .ok (.getfield 111, 3) := by decide +kernel
theorem dX4_keep_37 : decode cX4_keep 37 = .ok (.iconst 4, 1) := by decide +kernel
theorem dX4_keep_38 : decode cX4_keep 38 = .ok (.iaload, 1) := by decide +kernel
theorem dX4_keep_39 : decode cX4_keep 39 = .ok (.ireturn, 1) := by decide +kernel
set_option maxRecDepth 20000 in
theorem ggX4_restore_X4_record : GoodIn wsX4_restore wsX4_record := goodIn_r _ [7, 8, 9, 10, 11, 12, 2, 13, 14, 15, 16, 17, 18, 19, 20, 21, 22, 23, 24, 25, 26, 27, 28, 29, 30, 31, 32, 33, 34, 35, 36, 37, 38, 39, 40, 41, 42, 43, 44, 45, 46, 47, 48, 49, 50, 51, 52, 53, 54, 55, 56, 57, 58, 59, 60, 61, 62, 63, 64, 65] (by decide +kernel) (by decide +kernel)
set_option maxRecDepth 20000 in
theorem gX4_restore_X4_record : GoodIn wsX4_restore (wsV RX4 70 RX4 yX4_record wsX4_record) := goodIn_app (goodIn_of _ (by decide +kernel)) ggX4_restore_X4_record
set_option maxRecDepth 20000 in
theorem ggX4_restore_X3_copyFrom : GoodIn wsX4_restore wsX3_copyFrom := goodIn_r _ [42, 30, 31, 32, 34, 43, 44, 45, 46, 35, 47, 29, 48, 49, 39, 50, 60, 61, 62, 63, 64, 65] (by decide +kernel) (by decide +kernel)
set_option maxRecDepth 20000 in
theorem gX4_restore_X3_copyFrom_n137 : GoodIn wsX4_restore (wsX3_copyFrom) := ggX4_restore_X3_copyFrom
theorem dX4_restore_0 : decode cX4_restore 0 = .ok (.aload_n 0, 1) := by decide +kernel
theorem dX4_restore_1 : decode cX4_restore 1 = .ok (.getfield 27, 3) := by decide +kernel
theorem dX4_restore_4 : decode cX4_restore 4 = .ok (.astore_n 1, 1) := by decide +kernel
theorem dX4_restore_5 : decode cX4_restore 5 = .ok (.aload_n 1, 1) := by decide +kernel
theorem dX4_restore_6 : decode cX4_restore 6 = .ok (.ifnonnull 6, 3) := by decide +kernel
theorem dX4_restore_9 : decode cX4_restore 9 = .ok (.bipush (-5), 2) := by decide +kernel
theorem dX4_restore_11 : decode cX4_restore 11 = .ok (.ireturn, 1) := by decide +kernel
theorem dX4_restore_12 : decode cX4_restore 12 = .ok (.aload_n 0, 1) := by decide +kernel
theorem dX4_restore_13 : decode cX4_restore 13 = .ok (.invokevirtual 70, 3) := by decide +kernel
theorem dX4_restore_16 : decode cX4_restore 16 = .ok (.aload_n 0, 1) := by decide +kernel
theorem dX4_restore_17 : decode cX4_restore 17 = .ok (.getfield 10, 3) := by decide +kernel
theorem dX4_restore_20 : decode cX4_restore 20 = .ok (.aload_n 1, 1) := by decide +kernel
theorem dX4_restore_21 : decode cX4_restore 21 = .ok (.invokevirtual 137, 3) := by decide +kernel
theorem dX4_restore_24 : decode cX4_restore 24 = .ok (.aload_n 0, 1) := by decide +kernel
theorem dX4_restore_25 : decode cX4_restore 25 = .ok (.getfield 10, 3) := by decide +kernel
theorem dX4_restore_28 : decode cX4_restore 28 = .ok (.getfield 111, 3) := by decide +kernel
theorem dX4_restore_31 : decode cX4_restore 31 = .ok (.iconst 4, 1) := by decide +kernel
theorem dX4_restore_32 : decode cX4_restore 32 = .ok (.iaload, 1) := by decide +kernel
theorem dX4_restore_33 : decode cX4_restore 33 = .ok (.ireturn, 1) := by decide +kernel
set_option maxRecDepth 20000 in
theorem ggX4_point_X4_isPicture : GoodIn wsX4_point wsX4_isPicture := goodIn_r _ [5] (by decide +kernel) (by decide +kernel)
set_option maxRecDepth 20000 in
theorem gX4_point_X4_isPicture : GoodIn wsX4_point (va_wsS RX4 141 yX4_isPicture wsX4_isPicture) := goodIn_app (goodIn_of _ (by decide +kernel)) ggX4_point_X4_isPicture
set_option maxRecDepth 20000 in
theorem ggX4_point_X4_isPoint : GoodIn wsX4_point wsX4_isPoint := goodIn_r _ [8] (by decide +kernel) (by decide +kernel)
set_option maxRecDepth 20000 in
theorem gX4_point_X4_isPoint : GoodIn wsX4_point (va_wsS RX4 55 yX4_isPoint wsX4_isPoint) := goodIn_app (goodIn_of _ (by decide +kernel)) ggX4_point_X4_isPoint
set_option maxRecDepth 20000 in
theorem ggX4_point_X3_picture : GoodIn wsX4_point wsX3_picture := goodIn_r _ [12, 13, 14, 15, 30, 31, 32, 33, 34] (by decide +kernel) (by decide +kernel)
set_option maxRecDepth 20000 in
theorem gX4_point_X3_picture_n145 : GoodIn wsX4_point (wsX3_picture) := ggX4_point_X3_picture
set_option maxRecDepth 20000 in
theorem ggX4_point_X2_levelAt : GoodIn wsX4_point wsX2_levelAt := goodIn_r _ [19, 20, 7, 4, 8, 35] (by decide +kernel) (by decide +kernel)
set_option maxRecDepth 20000 in
theorem gX4_point_X2_levelAt_n66 : GoodIn wsX4_point (wsX2_levelAt) := ggX4_point_X2_levelAt
theorem dX4_point_0 : decode cX4_point 0 = .ok (.iload_n 1, 1) := by decide +kernel
theorem dX4_point_1 : decode cX4_point 1 = .ok (.invokestatic 141, 3) := by decide +kernel
theorem dX4_point_4 : decode cX4_point 4 = .ok (.ifCond .eq 11, 3) := by decide +kernel
theorem dX4_point_7 : decode cX4_point 7 = .ok (.iload_n 2, 1) := by decide +kernel
theorem dX4_point_8 : decode cX4_point 8 = .ok (.iload_n 3, 1) := by decide +kernel
theorem dX4_point_9 : decode cX4_point 9 = .ok (.invokestatic 55, 3) := by decide +kernel
theorem dX4_point_12 : decode cX4_point 12 = .ok (.ifCond .ne 5, 3) := by decide +kernel
theorem dX4_point_15 : decode cX4_point 15 = .ok (.iconst (-1), 1) := by decide +kernel
theorem dX4_point_16 : decode cX4_point 16 = .ok (.ireturn, 1) := by decide +kernel
theorem dX4_point_17 : decode cX4_point 17 = .ok (.aload_n 0, 1) := by decide +kernel
theorem dX4_point_18 : decode cX4_point 18 = .ok (.getfield 10, 3) := by decide +kernel
theorem dX4_point_21 : decode cX4_point 21 = .ok (.iload_n 1, 1) := by decide +kernel
theorem dX4_point_22 : decode cX4_point 22 = .ok (.invokevirtual 145, 3) := by decide +kernel
theorem dX4_point_25 : decode cX4_point 25 = .ok (.iload_n 2, 1) := by decide +kernel
theorem dX4_point_26 : decode cX4_point 26 = .ok (.iload_n 3, 1) := by decide +kernel
theorem dX4_point_27 : decode cX4_point 27 = .ok (.invokevirtual 66, 3) := by decide +kernel
theorem dX4_point_30 : decode cX4_point 30 = .ok (.ireturn, 1) := by decide +kernel
set_option maxRecDepth 20000 in
theorem ggX4_difference_X4_isPicture : GoodIn wsX4_difference wsX4_isPicture := goodIn_r _ [5] (by decide +kernel) (by decide +kernel)
set_option maxRecDepth 20000 in
theorem gX4_difference_X4_isPicture : GoodIn wsX4_difference (va_wsS RX4 141 yX4_isPicture wsX4_isPicture) := goodIn_app (goodIn_of _ (by decide +kernel)) ggX4_difference_X4_isPicture
set_option maxRecDepth 20000 in
theorem ggX4_difference_X3_picture : GoodIn wsX4_difference wsX3_picture := goodIn_r _ [9, 10, 11, 12, 57, 58, 59, 60, 61] (by decide +kernel) (by decide +kernel)
set_option maxRecDepth 20000 in
theorem gX4_difference_X3_picture_n145 : GoodIn wsX4_difference (wsX3_picture) := ggX4_difference_X3_picture
set_option maxRecDepth 20000 in
theorem ggX4_difference_X2_wholeDifference : GoodIn wsX4_difference wsX2_wholeDifference := goodIn_r _ [16, 17, 18, 19, 14, 20, 21, 22, 23, 24, 25, 4, 26, 27, 28, 29, 30, 31, 32, 33, 34, 35, 36, 37, 38, 39, 40, 41, 42, 43, 44, 62] (by decide +kernel) (by decide +kernel)
set_option maxRecDepth 20000 in
theorem gX4_difference_X2_wholeDifference_n149 : GoodIn wsX4_difference (wsX2_wholeDifference) := ggX4_difference_X2_wholeDifference
set_option maxRecDepth 20000 in
theorem ggX4_difference_X4_isTile : GoodIn wsX4_difference wsX4_isTile := goodIn_r _ [47] (by decide +kernel) (by decide +kernel)
set_option maxRecDepth 20000 in
theorem gX4_difference_X4_isTile : GoodIn wsX4_difference (va_wsS RX4 153 yX4_isTile wsX4_isTile) := goodIn_app (goodIn_of _ (by decide +kernel)) ggX4_difference_X4_isTile
set_option maxRecDepth 20000 in
theorem ggX4_difference_X2_tileDifference : GoodIn wsX4_difference wsX2_tileDifference := goodIn_r _ [20, 21, 22, 23, 24, 25, 4, 26, 27, 28, 29, 30, 31, 32, 33, 34, 35, 36, 37, 38, 39, 40, 14, 41, 42, 43, 44, 62] (by decide +kernel) (by decide +kernel)
set_option maxRecDepth 20000 in
theorem gX4_difference_X2_tileDifference_n156 : GoodIn wsX4_difference (wsX2_tileDifference) := ggX4_difference_X2_tileDifference
theorem dX4_difference_0 : decode cX4_difference 0 = .ok (.iload_n 1, 1) := by decide +kernel
theorem dX4_difference_1 : decode cX4_difference 1 = .ok (.invokestatic 141, 3) := by decide +kernel
theorem dX4_difference_4 : decode cX4_difference 4 = .ok (.ifCond .eq 10, 3) := by decide +kernel
theorem dX4_difference_7 : decode cX4_difference 7 = .ok (.iload_n 2, 1) := by decide +kernel
theorem dX4_difference_8 : decode cX4_difference 8 = .ok (.invokestatic 141, 3) := by decide +kernel
theorem dX4_difference_11 : decode cX4_difference 11 = .ok (.ifCond .ne 5, 3) := by decide +kernel
theorem dX4_difference_14 : decode cX4_difference 14 = .ok (.iconst (-1), 1) := by decide +kernel
theorem dX4_difference_15 : decode cX4_difference 15 = .ok (.ireturn, 1) := by decide +kernel
theorem dX4_difference_16 : decode cX4_difference 16 = .ok (.iload_n 3, 1) := by decide +kernel
theorem dX4_difference_17 : decode cX4_difference 17 = .ok (.iconst (-1), 1) := by decide +kernel
theorem dX4_difference_18 : decode cX4_difference 18 = .ok (.if_icmp .ne 23, 3) := by decide +kernel
theorem dX4_difference_21 : decode cX4_difference 21 = .ok (.aload_n 0, 1) := by decide +kernel
theorem dX4_difference_22 : decode cX4_difference 22 = .ok (.getfield 10, 3) := by decide +kernel
theorem dX4_difference_25 : decode cX4_difference 25 = .ok (.iload_n 1, 1) := by decide +kernel
theorem dX4_difference_26 : decode cX4_difference 26 = .ok (.invokevirtual 145, 3) := by decide +kernel
theorem dX4_difference_29 : decode cX4_difference 29 = .ok (.aload_n 0, 1) := by decide +kernel
theorem dX4_difference_30 : decode cX4_difference 30 = .ok (.getfield 10, 3) := by decide +kernel
theorem dX4_difference_33 : decode cX4_difference 33 = .ok (.iload_n 2, 1) := by decide +kernel
theorem dX4_difference_34 : decode cX4_difference 34 = .ok (.invokevirtual 145, 3) := by decide +kernel
theorem dX4_difference_37 : decode cX4_difference 37 = .ok (.invokevirtual 149, 3) := by decide +kernel
theorem dX4_difference_40 : decode cX4_difference 40 = .ok (.ireturn, 1) := by decide +kernel
theorem dX4_difference_41 : decode cX4_difference 41 = .ok (.iload_n 3, 1) := by decide +kernel
theorem dX4_difference_42 : decode cX4_difference 42 = .ok (.invokestatic 153, 3) := by decide +kernel
theorem dX4_difference_45 : decode cX4_difference 45 = .ok (.ifCond .ne 5, 3) := by decide +kernel
theorem dX4_difference_48 : decode cX4_difference 48 = .ok (.iconst (-1), 1) := by decide +kernel
theorem dX4_difference_49 : decode cX4_difference 49 = .ok (.ireturn, 1) := by decide +kernel
theorem dX4_difference_50 : decode cX4_difference 50 = .ok (.aload_n 0, 1) := by decide +kernel
theorem dX4_difference_51 : decode cX4_difference 51 = .ok (.getfield 10, 3) := by decide +kernel
theorem dX4_difference_54 : decode cX4_difference 54 = .ok (.iload_n 1, 1) := by decide +kernel
theorem dX4_difference_55 : decode cX4_difference 55 = .ok (.invokevirtual 145, 3) := by decide +kernel
theorem dX4_difference_58 : decode cX4_difference 58 = .ok (.aload_n 0, 1) := by decide +kernel
theorem dX4_difference_59 : decode cX4_difference 59 = .ok (.getfield 10, 3) := by decide +kernel
theorem dX4_difference_62 : decode cX4_difference 62 = .ok (.iload_n 2, 1) := by decide +kernel
theorem dX4_difference_63 : decode cX4_difference 63 = .ok (.invokevirtual 145, 3) := by decide +kernel
theorem dX4_difference_66 : decode cX4_difference 66 = .ok (.iload_n 3, 1) := by decide +kernel
theorem dX4_difference_67 : decode cX4_difference 67 = .ok (.iconst 0, 1) := by decide +kernel
theorem dX4_difference_68 : decode cX4_difference 68 = .ok (.invokevirtual 156, 3) := by decide +kernel
theorem dX4_difference_71 : decode cX4_difference 71 = .ok (.ireturn, 1) := by decide +kernel
set_option maxRecDepth 20000 in
theorem ggX4_spiral_X4_isBetween : GoodIn wsX4_spiral wsX4_isBetween := goodIn_r _ [6] (by decide +kernel) (by decide +kernel)
set_option maxRecDepth 20000 in
theorem gX4_spiral_X4_isBetween : GoodIn wsX4_spiral (va_wsS RX4 59 yX4_isBetween wsX4_isBetween) := goodIn_app (goodIn_of _ (by decide +kernel)) ggX4_spiral_X4_isBetween
set_option maxRecDepth 20000 in
theorem ggX4_spiral_X4_bitsOf : GoodIn wsX4_spiral wsX4_bitsOf := goodIn_r _ [9] (by decide +kernel) (by decide +kernel)
set_option maxRecDepth 20000 in
theorem gX4_spiral_X4_bitsOf : GoodIn wsX4_spiral (va_wsS RX4 166 yX4_bitsOf wsX4_bitsOf) := goodIn_app (goodIn_of _ (by decide +kernel)) ggX4_spiral_X4_bitsOf
theorem dX4_spiral_0 : decode cX4_spiral 0 = .ok (.iload_n 1, 1) := by decide +kernel
theorem dX4_spiral_1 : decode cX4_spiral 1 = .ok (.iconst 0, 1) := by decide +kernel
theorem dX4_spiral_2 : decode cX4_spiral 2 = .ok (.bipush 24, 2) := by decide +kernel
theorem dX4_spiral_4 : decode cX4_spiral 4 = .ok (.invokestatic 59, 3) := by decide +kernel
theorem dX4_spiral_7 : decode cX4_spiral 7 = .ok (.ifCond .ne 5, 3) := by decide +kernel
theorem dX4_spiral_10 : decode cX4_spiral 10 = .ok (.iconst (-1), 1) := by decide +kernel
theorem dX4_spiral_11 : decode cX4_spiral 11 = .ok (.ireturn, 1) := by decide +kernel
theorem dX4_spiral_12 : decode cX4_spiral 12 = .ok (.iload_n 2, 1) := by decide +kernel
theorem dX4_spiral_13 : decode cX4_spiral 13 = .ok (.tableswitch 50 0 2 #[27, 36, 45], 27) := by decide +kernel
theorem dX4_spiral_40 : decode cX4_spiral 40 = .ok (.bipush 100, 2) := by decide +kernel
theorem dX4_spiral_42 : decode cX4_spiral 42 = .ok (.getstatic 160, 3) := by decide +kernel
theorem dX4_spiral_45 : decode cX4_spiral 45 = .ok (.iload_n 1, 1) := by decide +kernel
theorem dX4_spiral_46 : decode cX4_spiral 46 = .ok (.iaload, 1) := by decide +kernel
theorem dX4_spiral_47 : decode cX4_spiral 47 = .ok (.iadd, 1) := by decide +kernel
theorem dX4_spiral_48 : decode cX4_spiral 48 = .ok (.ireturn, 1) := by decide +kernel
theorem dX4_spiral_49 : decode cX4_spiral 49 = .ok (.bipush 100, 2) := by decide +kernel
theorem dX4_spiral_51 : decode cX4_spiral 51 = .ok (.getstatic 163, 3) := by decide +kernel
theorem dX4_spiral_54 : decode cX4_spiral 54 = .ok (.iload_n 1, 1) := by decide +kernel
theorem dX4_spiral_55 : decode cX4_spiral 55 = .ok (.iaload, 1) := by decide +kernel
theorem dX4_spiral_56 : decode cX4_spiral 56 = .ok (.iadd, 1) := by decide +kernel
theorem dX4_spiral_57 : decode cX4_spiral 57 = .ok (.ireturn, 1) := by decide +kernel
theorem dX4_spiral_58 : decode cX4_spiral 58 = .ok (.iload_n 1, 1) := by decide +kernel
theorem dX4_spiral_59 : decode cX4_spiral 59 = .ok (.invokestatic 166, 3) := by decide +kernel
theorem dX4_spiral_62 : decode cX4_spiral 62 = .ok (.ireturn, 1) := by decide +kernel
theorem dX4_spiral_63 : decode cX4_spiral 63 = .ok (.bipush (-2), 2) := by decide +kernel
theorem dX4_spiral_65 : decode cX4_spiral 65 = .ok (.ireturn, 1) := by decide +kernel
set_option maxRecDepth 20000 in
theorem ggX4_wouldCode_X4_isTile : GoodIn wsX4_wouldCode wsX4_isTile := goodIn_r _ [6] (by decide +kernel) (by decide +kernel)
set_option maxRecDepth 20000 in
theorem gX4_wouldCode_X4_isTile : GoodIn wsX4_wouldCode (va_wsS RX4 153 yX4_isTile wsX4_isTile) := goodIn_app (goodIn_of _ (by decide +kernel)) ggX4_wouldCode_X4_isTile
set_option maxRecDepth 20000 in
theorem ggX4_wouldCode_X4_isBetween : GoodIn wsX4_wouldCode wsX4_isBetween := goodIn_r _ [9] (by decide +kernel) (by decide +kernel)
set_option maxRecDepth 20000 in
theorem gX4_wouldCode_X4_isBetween : GoodIn wsX4_wouldCode (va_wsS RX4 59 yX4_isBetween wsX4_isBetween) := goodIn_app (goodIn_of _ (by decide +kernel)) ggX4_wouldCode_X4_isBetween
set_option maxRecDepth 20000 in
theorem ggX4_wouldCode_X0_compareTile : GoodIn wsX4_wouldCode wsX0_compareTile := goodIn_r _ [13, 14, 4, 5, 6, 15, 16, 17, 18, 19, 20, 21, 22, 23, 7, 8, 9, 24, 25, 26, 27, 28, 29, 30, 31, 32, 33, 34, 35, 36, 37, 38, 39, 40, 41, 42, 43, 44, 45, 46, 74, 75] (by decide +kernel) (by decide +kernel)
set_option maxRecDepth 20000 in
theorem gX4_wouldCode_X0_compareTile_n173 : GoodIn wsX4_wouldCode (wsX0_compareTile) := ggX4_wouldCode_X0_compareTile
set_option maxRecDepth 20000 in
theorem ggX4_wouldCode_X0_codeOf : GoodIn wsX4_wouldCode wsX0_codeOf := goodIn_r _ [49, 50, 51, 52, 11, 53, 14, 4, 5, 6, 8, 9, 74] (by decide +kernel) (by decide +kernel)
set_option maxRecDepth 20000 in
theorem gX4_wouldCode_X0_codeOf_n177 : GoodIn wsX4_wouldCode (wsX0_codeOf) := ggX4_wouldCode_X0_codeOf
set_option maxRecDepth 20000 in
theorem ggX4_wouldCode_X4_kindOf : GoodIn wsX4_wouldCode wsX4_kindOf := goodIn_r _ [56] (by decide +kernel) (by decide +kernel)
set_option maxRecDepth 20000 in
theorem gX4_wouldCode_X4_kindOf : GoodIn wsX4_wouldCode (va_wsS RX4 180 yX4_kindOf wsX4_kindOf) := goodIn_app (goodIn_of _ (by decide +kernel)) ggX4_wouldCode_X4_kindOf
set_option maxRecDepth 20000 in
theorem ggX4_wouldCode_X4_bitsOf : GoodIn wsX4_wouldCode wsX4_bitsOf := goodIn_r _ [59] (by decide +kernel) (by decide +kernel)
set_option maxRecDepth 20000 in
theorem gX4_wouldCode_X4_bitsOf : GoodIn wsX4_wouldCode (va_wsS RX4 166 yX4_bitsOf wsX4_bitsOf) := goodIn_app (goodIn_of _ (by decide +kernel)) ggX4_wouldCode_X4_bitsOf
set_option maxRecDepth 20000 in
theorem ggX4_wouldCode_X0_differenceAt : GoodIn wsX4_wouldCode wsX0_differenceAt := goodIn_r _ [53, 14, 4, 5, 6, 8, 9, 74] (by decide +kernel) (by decide +kernel)
set_option maxRecDepth 20000 in
theorem gX4_wouldCode_X0_differenceAt_n183 : GoodIn wsX4_wouldCode (wsX0_differenceAt) := ggX4_wouldCode_X0_differenceAt
theorem dX4_wouldCode_0 : decode cX4_wouldCode 0 = .ok (.iload_n 1, 1) := by decide +kernel
theorem dX4_wouldCode_1 : decode cX4_wouldCode 1 = .ok (.invokestatic 153, 3) := by decide +kernel
theorem dX4_wouldCode_4 : decode cX4_wouldCode 4 = .ok (.ifCond .ne 5, 3) := by decide +kernel
theorem dX4_wouldCode_7 : decode cX4_wouldCode 7 = .ok (.iconst (-1), 1) := by decide +kernel
theorem dX4_wouldCode_8 : decode cX4_wouldCode 8 = .ok (.ireturn, 1) := by decide +kernel
theorem dX4_wouldCode_9 : decode cX4_wouldCode 9 = .ok (.iload_n 2, 1) := by decide +kernel
theorem dX4_wouldCode_10 : decode cX4_wouldCode 10 = .ok (.iconst 0, 1) := by decide +kernel
theorem dX4_wouldCode_11 : decode cX4_wouldCode 11 = .ok (.sipush 240, 3) := by decide +kernel
theorem dX4_wouldCode_14 : decode cX4_wouldCode 14 = .ok (.invokestatic 59, 3) := by decide +kernel
theorem dX4_wouldCode_17 : decode cX4_wouldCode 17 = .ok (.ifCond .ne 6, 3) := by decide +kernel
theorem dX4_wouldCode_20 : decode cX4_wouldCode 20 = .ok (.bipush (-2), 2) := by decide +kernel
theorem dX4_wouldCode_22 : decode cX4_wouldCode 22 = .ok (.ireturn, 1) := by decide +kernel
theorem dX4_wouldCode_23 : decode cX4_wouldCode 23 = .ok (.aload_n 0, 1) := by decide +kernel
theorem dX4_wouldCode_24 : decode cX4_wouldCode 24 = .ok (.getfield 40, 3) := by decide +kernel
theorem dX4_wouldCode_27 : decode cX4_wouldCode 27 = .ok (.aload_n 0, 1) := by decide +kernel
theorem dX4_wouldCode_28 : decode cX4_wouldCode 28 = .ok (.getfield 10, 3) := by decide +kernel
theorem dX4_wouldCode_31 : decode cX4_wouldCode 31 = .ok (.getfield 63, 3) := by decide +kernel
theorem dX4_wouldCode_34 : decode cX4_wouldCode 34 = .ok (.aload_n 0, 1) := by decide +kernel
theorem dX4_wouldCode_35 : decode cX4_wouldCode 35 = .ok (.getfield 10, 3) := by decide +kernel
theorem dX4_wouldCode_38 : decode cX4_wouldCode 38 = .ok (.getfield 170, 3) := by decide +kernel
theorem dX4_wouldCode_41 : decode cX4_wouldCode 41 = .ok (.iload_n 1, 1) := by decide +kernel
theorem dX4_wouldCode_42 : decode cX4_wouldCode 42 = .ok (.invokevirtual 173, 3) := by decide +kernel
theorem dX4_wouldCode_45 : decode cX4_wouldCode 45 = .ok (.aload_n 0, 1) := by decide +kernel
theorem dX4_wouldCode_46 : decode cX4_wouldCode 46 = .ok (.getfield 40, 3) := by decide +kernel
theorem dX4_wouldCode_49 : decode cX4_wouldCode 49 = .ok (.iload_n 1, 1) := by decide +kernel
theorem dX4_wouldCode_50 : decode cX4_wouldCode 50 = .ok (.iload_n 2, 1) := by decide +kernel
theorem dX4_wouldCode_51 : decode cX4_wouldCode 51 = .ok (.invokevirtual 177, 3) := by decide +kernel
theorem dX4_wouldCode_54 : decode cX4_wouldCode 54 = .ok (.istore 4, 2) := by decide +kernel
theorem dX4_wouldCode_56 : decode cX4_wouldCode 56 = .ok (.iload_n 3, 1) := by decide +kernel
theorem dX4_wouldCode_57 : decode cX4_wouldCode 57 = .ok (.tableswitch 80 0 3 #[31, 37, 52, 58], 31) := by decide +kernel
theorem dX4_wouldCode_88 : decode cX4_wouldCode 88 = .ok (.iload 4, 2) := by decide +kernel
theorem dX4_wouldCode_90 : decode cX4_wouldCode 90 = .ok (.invokestatic 180, 3) := by decide +kernel
theorem dX4_wouldCode_93 : decode cX4_wouldCode 93 = .ok (.ireturn, 1) := by decide +kernel
theorem dX4_wouldCode_94 : decode cX4_wouldCode 94 = .ok (.iload 4, 2) := by decide +kernel
theorem dX4_wouldCode_96 : decode cX4_wouldCode 96 = .ok (.bipush 25, 2) := by decide +kernel
theorem dX4_wouldCode_98 : decode cX4_wouldCode 98 = .ok (.if_icmp .ne 8, 3) := by decide +kernel
theorem dX4_wouldCode_101 : decode cX4_wouldCode 101 = .ok (.bipush (-5), 2) := by decide +kernel
theorem dX4_wouldCode_103 : decode cX4_wouldCode 103 = .ok (.goto 5, 3) := by decide +kernel
theorem dX4_wouldCode_106 : decode cX4_wouldCode 106 = .ok (.iload 4, 2) := by decide +kernel
theorem dX4_wouldCode_108 : decode cX4_wouldCode 108 = .ok (.ireturn, 1) := by decide +kernel
theorem dX4_wouldCode_109 : decode cX4_wouldCode 109 = .ok (.iload 4, 2) := by decide +kernel
theorem dX4_wouldCode_111 : decode cX4_wouldCode 111 = .ok (.invokestatic 166, 3) := by decide +kernel
theorem dX4_wouldCode_114 : decode cX4_wouldCode 114 = .ok (.ireturn, 1) := by decide +kernel
theorem dX4_wouldCode_115 : decode cX4_wouldCode 115 = .ok (.iload 4, 2) := by decide +kernel
theorem dX4_wouldCode_117 : decode cX4_wouldCode 117 = .ok (.bipush 25, 2) := by decide +kernel
theorem dX4_wouldCode_119 : decode cX4_wouldCode 119 = .ok (.if_icmp .ne 7, 3) := by decide +kernel
theorem dX4_wouldCode_122 : decode cX4_wouldCode 122 = .ok (.iconst 0, 1) := by decide +kernel
theorem dX4_wouldCode_123 : decode cX4_wouldCode 123 = .ok (.goto 13, 3) := by decide +kernel
theorem dX4_wouldCode_126 : decode cX4_wouldCode 126 = .ok (.aload_n 0, 1) := by decide +kernel
theorem dX4_wouldCode_127 : decode cX4_wouldCode 127 = .ok (.getfield 40, 3) := by decide +kernel
theorem dX4_wouldCode_130 : decode cX4_wouldCode 130 = .ok (.iload_n 1, 1) := by decide +kernel
theorem dX4_wouldCode_131 : decode cX4_wouldCode 131 = .ok (.iload 4, 2) := by decide +kernel
theorem dX4_wouldCode_133 : decode cX4_wouldCode 133 = .ok (.invokevirtual 183, 3) := by decide +kernel
theorem dX4_wouldCode_136 : decode cX4_wouldCode 136 = .ok (.ireturn, 1) := by decide +kernel
theorem dX4_wouldCode_137 : decode cX4_wouldCode 137 = .ok (.bipush (-2), 2) := by decide +kernel
theorem dX4_wouldCode_139 : decode cX4_wouldCode 139 = .ok (.ireturn, 1) := by decide +kernel
set_option maxRecDepth 20000 in
theorem ggX4_wouldSpend_X4_isBetween : GoodIn wsX4_wouldSpend wsX4_isBetween := goodIn_r _ [6] (by decide +kernel) (by decide +kernel)
set_option maxRecDepth 20000 in
theorem gX4_wouldSpend_X4_isBetween : GoodIn wsX4_wouldSpend (va_wsS RX4 59 yX4_isBetween wsX4_isBetween) := goodIn_app (goodIn_of _ (by decide +kernel)) ggX4_wouldSpend_X4_isBetween
set_option maxRecDepth 20000 in
theorem ggX4_wouldSpend_X0_compareAll : GoodIn wsX4_wouldSpend wsX0_compareAll := goodIn_r _ [10, 11, 12, 13, 8, 14, 15, 16, 5, 17, 18, 19, 20, 21, 22, 23, 24, 25, 26, 3, 4, 6, 27, 28, 29, 30, 31, 32, 33, 34, 35, 36, 37, 38, 39, 40, 41, 42, 43, 44, 45, 46, 47, 48, 49, 77, 78] (by decide +kernel) (by decide +kernel)
set_option maxRecDepth 20000 in
theorem gX4_wouldSpend_X0_compareAll_n186 : GoodIn wsX4_wouldSpend (wsX0_compareAll) := ggX4_wouldSpend_X0_compareAll
set_option maxRecDepth 20000 in
theorem ggX4_wouldSpend_X0_bitsWith : GoodIn wsX4_wouldSpend wsX0_bitsWith := goodIn_r _ [52, 53, 54, 55, 8, 56, 57, 58, 59, 60, 15, 16, 5, 17, 4, 6, 61, 62, 77] (by decide +kernel) (by decide +kernel)
set_option maxRecDepth 20000 in
theorem gX4_wouldSpend_X0_bitsWith_n190 : GoodIn wsX4_wouldSpend (wsX0_bitsWith) := ggX4_wouldSpend_X0_bitsWith
theorem dX4_wouldSpend_0 : decode cX4_wouldSpend 0 = .ok (.iload_n 1, 1) := by decide +kernel
theorem dX4_wouldSpend_1 : decode cX4_wouldSpend 1 = .ok (.iconst 0, 1) := by decide +kernel
theorem dX4_wouldSpend_2 : decode cX4_wouldSpend 2 = .ok (.sipush 240, 3) := by decide +kernel
theorem dX4_wouldSpend_5 : decode cX4_wouldSpend 5 = .ok (.invokestatic 59, 3) := by decide +kernel
theorem dX4_wouldSpend_8 : decode cX4_wouldSpend 8 = .ok (.ifCond .ne 6, 3) := by decide +kernel
theorem dX4_wouldSpend_11 : decode cX4_wouldSpend 11 = .ok (.bipush (-2), 2) := by decide +kernel
theorem dX4_wouldSpend_13 : decode cX4_wouldSpend 13 = .ok (.ireturn, 1) := by decide +kernel
theorem dX4_wouldSpend_14 : decode cX4_wouldSpend 14 = .ok (.aload_n 0, 1) := by decide +kernel
theorem dX4_wouldSpend_15 : decode cX4_wouldSpend 15 = .ok (.getfield 40, 3) := by decide +kernel
theorem dX4_wouldSpend_18 : decode cX4_wouldSpend 18 = .ok (.aload_n 0, 1) := by decide +kernel
theorem dX4_wouldSpend_19 : decode cX4_wouldSpend 19 = .ok (.getfield 10, 3) := by decide +kernel
theorem dX4_wouldSpend_22 : decode cX4_wouldSpend 22 = .ok (.getfield 63, 3) := by decide +kernel
theorem dX4_wouldSpend_25 : decode cX4_wouldSpend 25 = .ok (.aload_n 0, 1) := by decide +kernel
theorem dX4_wouldSpend_26 : decode cX4_wouldSpend 26 = .ok (.getfield 10, 3) := by decide +kernel
theorem dX4_wouldSpend_29 : decode cX4_wouldSpend 29 = .ok (.getfield 170, 3) := by decide +kernel
theorem dX4_wouldSpend_32 : decode cX4_wouldSpend 32 = .ok (.invokevirtual 186, 3) := by decide +kernel
theorem dX4_wouldSpend_35 : decode cX4_wouldSpend 35 = .ok (.aload_n 0, 1) := by decide +kernel
theorem dX4_wouldSpend_36 : decode cX4_wouldSpend 36 = .ok (.getfield 40, 3) := by decide +kernel
theorem dX4_wouldSpend_39 : decode cX4_wouldSpend 39 = .ok (.iload_n 1, 1) := by decide +kernel
theorem dX4_wouldSpend_40 : decode cX4_wouldSpend 40 = .ok (.invokevirtual 190, 3) := by decide +kernel
theorem dX4_wouldSpend_43 : decode cX4_wouldSpend 43 = .ok (.ireturn, 1) := by decide +kernel
set_option maxRecDepth 20000 in
theorem ggX4_wouldNeed_X0_compareAll : GoodIn wsX4_wouldNeed wsX0_compareAll := goodIn_r _ [6, 7, 8, 9, 4, 10, 11, 12, 13, 14, 15, 16, 17, 18, 19, 20, 21, 22, 23, 24, 25, 26, 27, 28, 29, 30, 31, 32, 33, 34, 35, 36, 37, 38, 39, 40, 41, 42, 43, 44, 45, 46, 47, 48, 49, 86, 87] (by decide +kernel) (by decide +kernel)
set_option maxRecDepth 20000 in
theorem gX4_wouldNeed_X0_compareAll_n186 : GoodIn wsX4_wouldNeed (wsX0_compareAll) := ggX4_wouldNeed_X0_compareAll
set_option maxRecDepth 20000 in
theorem ggX4_wouldNeed_X3_spendable : GoodIn wsX4_wouldNeed wsX3_spendable := goodIn_r _ [53, 54, 81, 82, 83, 84, 85] (by decide +kernel) (by decide +kernel)
set_option maxRecDepth 20000 in
theorem gX4_wouldNeed_X3_spendable_n193 : GoodIn wsX4_wouldNeed (wsX3_spendable) := ggX4_wouldNeed_X3_spendable
set_option maxRecDepth 20000 in
theorem ggX4_wouldNeed_X0_neededTolerance : GoodIn wsX4_wouldNeed wsX0_neededTolerance := goodIn_r _ [57, 58, 59, 60, 4, 61, 62, 63, 64, 65, 66, 67, 68, 69, 11, 12, 13, 14, 25, 26, 70, 71, 86] (by decide +kernel) (by decide +kernel)
set_option maxRecDepth 20000 in
theorem gX4_wouldNeed_X0_neededTolerance_n196 : GoodIn wsX4_wouldNeed (wsX0_neededTolerance) := ggX4_wouldNeed_X0_neededTolerance
theorem dX4_wouldNeed_0 : decode cX4_wouldNeed 0 = .ok (.aload_n 0, 1) := by decide +kernel
theorem dX4_wouldNeed_1 : decode cX4_wouldNeed 1 = .ok (.getfield 40, 3) := by decide +kernel
theorem dX4_wouldNeed_4 : decode cX4_wouldNeed 4 = .ok (.aload_n 0, 1) := by decide +kernel
theorem dX4_wouldNeed_5 : decode cX4_wouldNeed 5 = .ok (.getfield 10, 3) := by decide +kernel
theorem dX4_wouldNeed_8 : decode cX4_wouldNeed 8 = .ok (.getfield 63, 3) := by decide +kernel
theorem dX4_wouldNeed_11 : decode cX4_wouldNeed 11 = .ok (.aload_n 0, 1) := by decide +kernel
theorem dX4_wouldNeed_12 : decode cX4_wouldNeed 12 = .ok (.getfield 10, 3) := by decide +kernel
theorem dX4_wouldNeed_15 : decode cX4_wouldNeed 15 = .ok (.getfield 170, 3) := by decide +kernel
theorem dX4_wouldNeed_18 : decode cX4_wouldNeed 18 = .ok (.invokevirtual 186, 3) := by decide +kernel
theorem dX4_wouldNeed_21 : decode cX4_wouldNeed 21 = .ok (.aload_n 0, 1) := by decide +kernel
theorem dX4_wouldNeed_22 : decode cX4_wouldNeed 22 = .ok (.getfield 40, 3) := by decide +kernel
theorem dX4_wouldNeed_25 : decode cX4_wouldNeed 25 = .ok (.aload_n 0, 1) := by decide +kernel
theorem dX4_wouldNeed_26 : decode cX4_wouldNeed 26 = .ok (.getfield 10, 3) := by decide +kernel
theorem dX4_wouldNeed_29 : decode cX4_wouldNeed 29 = .ok (.getfield 111, 3) := by decide +kernel
theorem dX4_wouldNeed_32 : decode cX4_wouldNeed 32 = .ok (.iconst 1, 1) := by decide +kernel
theorem dX4_wouldNeed_33 : decode cX4_wouldNeed 33 = .ok (.iaload, 1) := by decide +kernel
theorem dX4_wouldNeed_34 : decode cX4_wouldNeed 34 = .ok (.aload_n 0, 1) := by decide +kernel
theorem dX4_wouldNeed_35 : decode cX4_wouldNeed 35 = .ok (.getfield 10, 3) := by decide +kernel
theorem dX4_wouldNeed_38 : decode cX4_wouldNeed 38 = .ok (.invokevirtual 193, 3) := by decide +kernel
theorem dX4_wouldNeed_41 : decode cX4_wouldNeed 41 = .ok (.invokevirtual 196, 3) := by decide +kernel
theorem dX4_wouldNeed_44 : decode cX4_wouldNeed 44 = .ok (.ireturn, 1) := by decide +kernel
set_option maxRecDepth 20000 in
theorem ggX4_best_X4_isTile : GoodIn wsX4_best wsX4_isTile := goodIn_r _ [6] (by decide +kernel) (by decide +kernel)
set_option maxRecDepth 20000 in
theorem gX4_best_X4_isTile : GoodIn wsX4_best (va_wsS RX4 153 yX4_isTile wsX4_isTile) := goodIn_app (goodIn_of _ (by decide +kernel)) ggX4_best_X4_isTile
set_option maxRecDepth 20000 in
theorem ggX4_best_X4_isBetween : GoodIn wsX4_best wsX4_isBetween := goodIn_r _ [9] (by decide +kernel) (by decide +kernel)
set_option maxRecDepth 20000 in
theorem gX4_best_X4_isBetween : GoodIn wsX4_best (va_wsS RX4 59 yX4_isBetween wsX4_isBetween) := goodIn_app (goodIn_of _ (by decide +kernel)) ggX4_best_X4_isBetween
set_option maxRecDepth 20000 in
theorem ggX4_best_X0_compareTile : GoodIn wsX4_best wsX0_compareTile := goodIn_r _ [13, 14, 4, 5, 6, 15, 16, 17, 18, 19, 20, 21, 22, 23, 7, 8, 9, 24, 25, 26, 27, 28, 29, 30, 31, 32, 33, 34, 35, 36, 37, 38, 39, 40, 41, 42, 43, 44, 45, 46, 68, 69] (by decide +kernel) (by decide +kernel)
set_option maxRecDepth 20000 in
theorem gX4_best_X0_compareTile_n173 : GoodIn wsX4_best (wsX0_compareTile) := ggX4_best_X0_compareTile
set_option maxRecDepth 20000 in
theorem ggX4_best_X0_bestPlace : GoodIn wsX4_best wsX0_bestPlace := goodIn_r _ [49, 50, 51, 52, 11, 53, 14, 4, 5, 6, 8, 9, 68] (by decide +kernel) (by decide +kernel)
set_option maxRecDepth 20000 in
theorem gX4_best_X0_bestPlace_n199 : GoodIn wsX4_best (wsX0_bestPlace) := ggX4_best_X0_bestPlace
set_option maxRecDepth 20000 in
theorem ggX4_best_X0_differenceAt : GoodIn wsX4_best wsX0_differenceAt := goodIn_r _ [53, 14, 4, 5, 6, 8, 9, 68] (by decide +kernel) (by decide +kernel)
set_option maxRecDepth 20000 in
theorem gX4_best_X0_differenceAt_n183 : GoodIn wsX4_best (wsX0_differenceAt) := ggX4_best_X0_differenceAt
theorem dX4_best_0 : decode cX4_best 0 = .ok (.iload_n 1, 1) := by decide +kernel
theorem dX4_best_1 : decode cX4_best 1 = .ok (.invokestatic 153, 3) := by decide +kernel
theorem dX4_best_4 : decode cX4_best 4 = .ok (.ifCond .ne 5, 3) := by decide +kernel
theorem dX4_best_7 : decode cX4_best 7 = .ok (.iconst (-1), 1) := by decide +kernel
theorem dX4_best_8 : decode cX4_best 8 = .ok (.ireturn, 1) := by decide +kernel
theorem dX4_best_9 : decode cX4_best 9 = .ok (.iload_n 2, 1) := by decide +kernel
theorem dX4_best_10 : decode cX4_best 10 = .ok (.iconst 0, 1) := by decide +kernel
theorem dX4_best_11 : decode cX4_best 11 = .ok (.iconst 1, 1) := by decide +kernel
theorem dX4_best_12 : decode cX4_best 12 = .ok (.invokestatic 59, 3) := by decide +kernel
theorem dX4_best_15 : decode cX4_best 15 = .ok (.ifCond .ne 6, 3) := by decide +kernel
theorem dX4_best_18 : decode cX4_best 18 = .ok (.bipush (-2), 2) := by decide +kernel
theorem dX4_best_20 : decode cX4_best 20 = .ok (.ireturn, 1) := by decide +kernel
theorem dX4_best_21 : decode cX4_best 21 = .ok (.aload_n 0, 1) := by decide +kernel
theorem dX4_best_22 : decode cX4_best 22 = .ok (.getfield 40, 3) := by decide +kernel
theorem dX4_best_25 : decode cX4_best 25 = .ok (.aload_n 0, 1) := by decide +kernel
theorem dX4_best_26 : decode cX4_best 26 = .ok (.getfield 10, 3) := by decide +kernel
theorem dX4_best_29 : decode cX4_best 29 = .ok (.getfield 63, 3) := by decide +kernel
theorem dX4_best_32 : decode cX4_best 32 = .ok (.aload_n 0, 1) := by decide +kernel
theorem dX4_best_33 : decode cX4_best 33 = .ok (.getfield 10, 3) := by decide +kernel
theorem dX4_best_36 : decode cX4_best 36 = .ok (.getfield 170, 3) := by decide +kernel
theorem dX4_best_39 : decode cX4_best 39 = .ok (.iload_n 1, 1) := by decide +kernel
theorem dX4_best_40 : decode cX4_best 40 = .ok (.invokevirtual 173, 3) := by decide +kernel
theorem dX4_best_43 : decode cX4_best 43 = .ok (.aload_n 0, 1) := by decide +kernel
theorem dX4_best_44 : decode cX4_best 44 = .ok (.getfield 40, 3) := by decide +kernel
theorem dX4_best_47 : decode cX4_best 47 = .ok (.iload_n 1, 1) := by decide +kernel
theorem dX4_best_48 : decode cX4_best 48 = .ok (.invokevirtual 199, 3) := by decide +kernel
theorem dX4_best_51 : decode cX4_best 51 = .ok (.istore_n 3, 1) := by decide +kernel
theorem dX4_best_52 : decode cX4_best 52 = .ok (.iload_n 2, 1) := by decide +kernel
theorem dX4_best_53 : decode cX4_best 53 = .ok (.ifCond .ne 7, 3) := by decide +kernel
theorem dX4_best_56 : decode cX4_best 56 = .ok (.iload_n 3, 1) := by decide +kernel
theorem dX4_best_57 : decode cX4_best 57 = .ok (.goto 12, 3) := by decide +kernel
theorem dX4_best_60 : decode cX4_best 60 = .ok (.aload_n 0, 1) := by decide +kernel
theorem dX4_best_61 : decode cX4_best 61 = .ok (.getfield 40, 3) := by decide +kernel
theorem dX4_best_64 : decode cX4_best 64 = .ok (.iload_n 1, 1) := by decide +kernel
theorem dX4_best_65 : decode cX4_best 65 = .ok (.iload_n 3, 1) := by decide +kernel
theorem dX4_best_66 : decode cX4_best 66 = .ok (.invokevirtual 183, 3) := by decide +kernel
theorem dX4_best_69 : decode cX4_best 69 = .ok (.ireturn, 1) := by decide +kernel
set_option maxRecDepth 20000 in
theorem ggX4_frame_X4_isBetween : GoodIn wsX4_frame wsX4_isBetween := goodIn_r _ [5] (by decide +kernel) (by decide +kernel)
set_option maxRecDepth 20000 in
theorem gX4_frame_X4_isBetween : GoodIn wsX4_frame (va_wsS RX4 59 yX4_isBetween wsX4_isBetween) := goodIn_app (goodIn_of _ (by decide +kernel)) ggX4_frame_X4_isBetween
set_option maxRecDepth 20000 in
theorem ggX4_frame_X3_knowsFrame : GoodIn wsX4_frame wsX3_knowsFrame := goodIn_r _ [9, 10, 11, 12, 13, 14, 35, 36, 37, 38, 39] (by decide +kernel) (by decide +kernel)
set_option maxRecDepth 20000 in
theorem gX4_frame_X3_knowsFrame_n202 : GoodIn wsX4_frame (wsX3_knowsFrame) := ggX4_frame_X3_knowsFrame
set_option maxRecDepth 20000 in
theorem ggX4_frame_X3_logged : GoodIn wsX4_frame wsX3_logged := goodIn_r _ [17, 10, 18, 19, 20, 7, 21, 22, 23, 24, 25, 3, 4, 5, 35, 36, 37, 38, 39] (by decide +kernel) (by decide +kernel)
set_option maxRecDepth 20000 in
theorem gX4_frame_X3_logged_n205 : GoodIn wsX4_frame (wsX3_logged) := ggX4_frame_X3_logged
theorem dX4_frame_0 : decode cX4_frame 0 = .ok (.iload_n 1, 1) := by decide +kernel
theorem dX4_frame_1 : decode cX4_frame 1 = .ok (.ifCond .lt 13, 3) := by decide +kernel
theorem dX4_frame_4 : decode cX4_frame 4 = .ok (.iload_n 2, 1) := by decide +kernel
theorem dX4_frame_5 : decode cX4_frame 5 = .ok (.iconst 0, 1) := by decide +kernel
theorem dX4_frame_6 : decode cX4_frame 6 = .ok (.bipush 7, 2) := by decide +kernel
theorem dX4_frame_8 : decode cX4_frame 8 = .ok (.invokestatic 59, 3) := by decide +kernel
theorem dX4_frame_11 : decode cX4_frame 11 = .ok (.ifCond .ne 6, 3) := by decide +kernel
theorem dX4_frame_14 : decode cX4_frame 14 = .ok (.bipush (-2), 2) := by decide +kernel
theorem dX4_frame_16 : decode cX4_frame 16 = .ok (.ireturn, 1) := by decide +kernel
theorem dX4_frame_17 : decode cX4_frame 17 = .ok (.aload_n 0, 1) := by decide +kernel
theorem dX4_frame_18 : decode cX4_frame 18 = .ok (.getfield 10, 3) := by decide +kernel
theorem dX4_frame_21 : decode cX4_frame 21 = .ok (.iload_n 1, 1) := by decide +kernel
theorem dX4_frame_22 : decode cX4_frame 22 = .ok (.invokevirtual 202, 3) := by decide +kernel
theorem dX4_frame_25 : decode cX4_frame 25 = .ok (.ifCond .eq 15, 3) := by decide +kernel
theorem dX4_frame_28 : decode cX4_frame 28 = .ok (.aload_n 0, 1) := by decide +kernel
theorem dX4_frame_29 : decode cX4_frame 29 = .ok (.getfield 10, 3) := by decide +kernel
theorem dX4_frame_32 : decode cX4_frame 32 = .ok (.iload_n 1, 1) := by decide +kernel
theorem dX4_frame_33 : decode cX4_frame 33 = .ok (.iload_n 2, 1) := by decide +kernel
theorem dX4_frame_34 : decode cX4_frame 34 = .ok (.invokevirtual 205, 3) := by decide +kernel
theorem dX4_frame_37 : decode cX4_frame 37 = .ok (.goto 5, 3) := by decide +kernel
theorem dX4_frame_40 : decode cX4_frame 40 = .ok (.bipush (-5), 2) := by decide +kernel
theorem dX4_frame_42 : decode cX4_frame 42 = .ok (.ireturn, 1) := by decide +kernel
set_option maxRecDepth 20000 in
theorem ggX4_sent_X4_isTile : GoodIn wsX4_sent wsX4_isTile := goodIn_r _ [5] (by decide +kernel) (by decide +kernel)
set_option maxRecDepth 20000 in
theorem gX4_sent_X4_isTile : GoodIn wsX4_sent (va_wsS RX4 153 yX4_isTile wsX4_isTile) := goodIn_app (goodIn_of _ (by decide +kernel)) ggX4_sent_X4_isTile
set_option maxRecDepth 20000 in
theorem ggX4_sent_X3_knowsFrame : GoodIn wsX4_sent wsX3_knowsFrame := goodIn_r _ [9, 10, 11, 12, 13, 14, 37, 38, 39, 40, 41] (by decide +kernel) (by decide +kernel)
set_option maxRecDepth 20000 in
theorem gX4_sent_X3_knowsFrame_n202 : GoodIn wsX4_sent (wsX3_knowsFrame) := ggX4_sent_X3_knowsFrame
set_option maxRecDepth 20000 in
theorem ggX4_sent_X3_logged : GoodIn wsX4_sent wsX3_logged := goodIn_r _ [17, 10, 18, 19, 20, 7, 21, 22, 23, 24, 25, 26, 4, 27, 37, 38, 39, 40, 41] (by decide +kernel) (by decide +kernel)
set_option maxRecDepth 20000 in
theorem gX4_sent_X3_logged_n205 : GoodIn wsX4_sent (wsX3_logged) := ggX4_sent_X3_logged
theorem dX4_sent_0 : decode cX4_sent 0 = .ok (.iload_n 1, 1) := by decide +kernel
theorem dX4_sent_1 : decode cX4_sent 1 = .ok (.ifCond .ge 6, 3) := by decide +kernel
theorem dX4_sent_4 : decode cX4_sent 4 = .ok (.bipush (-2), 2) := by decide +kernel
theorem dX4_sent_6 : decode cX4_sent 6 = .ok (.ireturn, 1) := by decide +kernel
theorem dX4_sent_7 : decode cX4_sent 7 = .ok (.iload_n 2, 1) := by decide +kernel
theorem dX4_sent_8 : decode cX4_sent 8 = .ok (.invokestatic 153, 3) := by decide +kernel
theorem dX4_sent_11 : decode cX4_sent 11 = .ok (.ifCond .ne 5, 3) := by decide +kernel
theorem dX4_sent_14 : decode cX4_sent 14 = .ok (.iconst (-1), 1) := by decide +kernel
theorem dX4_sent_15 : decode cX4_sent 15 = .ok (.ireturn, 1) := by decide +kernel
theorem dX4_sent_16 : decode cX4_sent 16 = .ok (.aload_n 0, 1) := by decide +kernel
theorem dX4_sent_17 : decode cX4_sent 17 = .ok (.getfield 10, 3) := by decide +kernel
theorem dX4_sent_20 : decode cX4_sent 20 = .ok (.iload_n 1, 1) := by decide +kernel
theorem dX4_sent_21 : decode cX4_sent 21 = .ok (.invokevirtual 202, 3) := by decide +kernel
theorem dX4_sent_24 : decode cX4_sent 24 = .ok (.ifCond .eq 18, 3) := by decide +kernel
theorem dX4_sent_27 : decode cX4_sent 27 = .ok (.aload_n 0, 1) := by decide +kernel
theorem dX4_sent_28 : decode cX4_sent 28 = .ok (.getfield 10, 3) := by decide +kernel
theorem dX4_sent_31 : decode cX4_sent 31 = .ok (.iload_n 1, 1) := by decide +kernel
theorem dX4_sent_32 : decode cX4_sent 32 = .ok (.bipush 8, 2) := by decide +kernel
theorem dX4_sent_34 : decode cX4_sent 34 = .ok (.iload_n 2, 1) := by decide +kernel
theorem dX4_sent_35 : decode cX4_sent 35 = .ok (.iadd, 1) := by decide +kernel
theorem dX4_sent_36 : decode cX4_sent 36 = .ok (.invokevirtual 205, 3) := by decide +kernel
theorem dX4_sent_39 : decode cX4_sent 39 = .ok (.goto 5, 3) := by decide +kernel
theorem dX4_sent_42 : decode cX4_sent 42 = .ok (.bipush (-5), 2) := by decide +kernel
theorem dX4_sent_44 : decode cX4_sent 44 = .ok (.ireturn, 1) := by decide +kernel
set_option maxRecDepth 20000 in
theorem ggX4_count_X4_isBetween : GoodIn wsX4_count wsX4_isBetween := goodIn_r _ [7] (by decide +kernel) (by decide +kernel)
set_option maxRecDepth 20000 in
theorem gX4_count_X4_isBetween : GoodIn wsX4_count (va_wsS RX4 59 yX4_isBetween wsX4_isBetween) := goodIn_app (goodIn_of _ (by decide +kernel)) ggX4_count_X4_isBetween
set_option maxRecDepth 20000 in
theorem ggX4_count_X2_unlikePoints : GoodIn wsX4_count wsX2_unlikePoints := goodIn_r _ [11, 12, 59] (by decide +kernel) (by decide +kernel)
set_option maxRecDepth 20000 in
theorem gX4_count_X2_unlikePoints_n211 : GoodIn wsX4_count (wsX2_unlikePoints) := ggX4_count_X2_unlikePoints
set_option maxRecDepth 20000 in
theorem ggX4_count_X2_unlikeTiles : GoodIn wsX4_count wsX2_unlikeTiles := goodIn_r _ [15, 16, 17, 18, 9, 19, 20, 21, 22, 23, 24, 6, 25, 26, 27, 28, 29, 30, 4, 5, 7, 31, 32, 33, 34, 35, 36, 37, 12, 38, 39, 59] (by decide +kernel) (by decide +kernel)
set_option maxRecDepth 20000 in
theorem gX4_count_X2_unlikeTiles_n214 : GoodIn wsX4_count (wsX2_unlikeTiles) := ggX4_count_X2_unlikeTiles
theorem dX4_count_0 : decode cX4_count 0 = .ok (.iload_n 1, 1) := by decide +kernel
theorem dX4_count_1 : decode cX4_count 1 = .ok (.iconst 0, 1) := by decide +kernel
theorem dX4_count_2 : decode cX4_count 2 = .ok (.bipush 8, 2) := by decide +kernel
theorem dX4_count_4 : decode cX4_count 4 = .ok (.invokestatic 59, 3) := by decide +kernel
theorem dX4_count_7 : decode cX4_count 7 = .ok (.ifCond .eq 13, 3) := by decide +kernel
theorem dX4_count_10 : decode cX4_count 10 = .ok (.aload_n 0, 1) := by decide +kernel
theorem dX4_count_11 : decode cX4_count 11 = .ok (.getfield 10, 3) := by decide +kernel
theorem dX4_count_14 : decode cX4_count 14 = .ok (.getfield 111, 3) := by decide +kernel
theorem dX4_count_17 : decode cX4_count 17 = .ok (.iload_n 1, 1) := by decide +kernel
theorem dX4_count_18 : decode cX4_count 18 = .ok (.iaload, 1) := by decide +kernel
theorem dX4_count_19 : decode cX4_count 19 = .ok (.ireturn, 1) := by decide +kernel
theorem dX4_count_20 : decode cX4_count 20 = .ok (.iload_n 1, 1) := by decide +kernel
theorem dX4_count_21 : decode cX4_count 21 = .ok (.tableswitch 80 9 12 #[31, 49, 67, 72], 31) := by decide +kernel
theorem dX4_count_52 : decode cX4_count 52 = .ok (.aload_n 0, 1) := by decide +kernel
theorem dX4_count_53 : decode cX4_count 53 = .ok (.getfield 10, 3) := by decide +kernel
theorem dX4_count_56 : decode cX4_count 56 = .ok (.getfield 170, 3) := by decide +kernel
theorem dX4_count_59 : decode cX4_count 59 = .ok (.aload_n 0, 1) := by decide +kernel
theorem dX4_count_60 : decode cX4_count 60 = .ok (.getfield 10, 3) := by decide +kernel
theorem dX4_count_63 : decode cX4_count 63 = .ok (.getfield 208, 3) := by decide +kernel
theorem dX4_count_66 : decode cX4_count 66 = .ok (.invokevirtual 211, 3) := by decide +kernel
theorem dX4_count_69 : decode cX4_count 69 = .ok (.ireturn, 1) := by decide +kernel
theorem dX4_count_70 : decode cX4_count 70 = .ok (.aload_n 0, 1) := by decide +kernel
theorem dX4_count_71 : decode cX4_count 71 = .ok (.getfield 10, 3) := by decide +kernel
theorem dX4_count_74 : decode cX4_count 74 = .ok (.getfield 170, 3) := by decide +kernel
theorem dX4_count_77 : decode cX4_count 77 = .ok (.aload_n 0, 1) := by decide +kernel
theorem dX4_count_78 : decode cX4_count 78 = .ok (.getfield 10, 3) := by decide +kernel
theorem dX4_count_81 : decode cX4_count 81 = .ok (.getfield 208, 3) := by decide +kernel
theorem dX4_count_84 : decode cX4_count 84 = .ok (.invokevirtual 214, 3) := by decide +kernel
theorem dX4_count_87 : decode cX4_count 87 = .ok (.ireturn, 1) := by decide +kernel
theorem dX4_count_88 : decode cX4_count 88 = .ok (.aload_n 0, 1) := by decide +kernel
theorem dX4_count_89 : decode cX4_count 89 = .ok (.getfield 24, 3) := by decide +kernel
theorem dX4_count_92 : decode cX4_count 92 = .ok (.ireturn, 1) := by decide +kernel
theorem dX4_count_93 : decode cX4_count 93 = .ok (.aload_n 0, 1) := by decide +kernel
theorem dX4_count_94 : decode cX4_count 94 = .ok (.getfield 33, 3) := by decide +kernel
theorem dX4_count_97 : decode cX4_count 97 = .ok (.getfield 129, 3) := by decide +kernel
theorem dX4_count_100 : decode cX4_count 100 = .ok (.ireturn, 1) := by decide +kernel
theorem dX4_count_101 : decode cX4_count 101 = .ok (.bipush (-2), 2) := by decide +kernel
theorem dX4_count_103 : decode cX4_count 103 = .ok (.ireturn, 1) := by decide +kernel
theorem dX4_isBetween_0 : decode cX4_isBetween 0 = .ok (.iload_n 0, 1) := by decide +kernel
theorem dX4_isBetween_1 : decode cX4_isBetween 1 = .ok (.iload_n 1, 1) := by decide +kernel
theorem dX4_isBetween_2 : decode cX4_isBetween 2 = .ok (.if_icmp .lt 12, 3) := by decide +kernel
theorem dX4_isBetween_5 : decode cX4_isBetween 5 = .ok (.iload_n 0, 1) := by decide +kernel
theorem dX4_isBetween_6 : decode cX4_isBetween 6 = .ok (.iload_n 2, 1) := by decide +kernel
theorem dX4_isBetween_7 : decode cX4_isBetween 7 = .ok (.if_icmp .gt 7, 3) := by decide +kernel
theorem dX4_isBetween_10 : decode cX4_isBetween 10 = .ok (.iconst 1, 1) := by decide +kernel
theorem dX4_isBetween_11 : decode cX4_isBetween 11 = .ok (.goto 4, 3) := by decide +kernel
theorem dX4_isBetween_14 : decode cX4_isBetween 14 = .ok (.iconst 0, 1) := by decide +kernel
theorem dX4_isBetween_15 : decode cX4_isBetween 15 = .ok (.ireturn, 1) := by decide +kernel
theorem dX4_isPoint_0 : decode cX4_isPoint 0 = .ok (.iload_n 0, 1) := by decide +kernel
theorem dX4_isPoint_1 : decode cX4_isPoint 1 = .ok (.ifCond .lt 23, 3) := by decide +kernel
theorem dX4_isPoint_4 : decode cX4_isPoint 4 = .ok (.iload_n 0, 1) := by decide +kernel
theorem dX4_isPoint_5 : decode cX4_isPoint 5 = .ok (.bipush 12, 2) := by decide +kernel
theorem dX4_isPoint_7 : decode cX4_isPoint 7 = .ok (.if_icmp .ge 17, 3) := by decide +kernel
theorem dX4_isPoint_10 : decode cX4_isPoint 10 = .ok (.iload_n 1, 1) := by decide +kernel
theorem dX4_isPoint_11 : decode cX4_isPoint 11 = .ok (.ifCond .lt 13, 3) := by decide +kernel
theorem dX4_isPoint_14 : decode cX4_isPoint 14 = .ok (.iload_n 1, 1) := by decide +kernel
theorem dX4_isPoint_15 : decode cX4_isPoint 15 = .ok (.bipush 12, 2) := by decide +kernel
theorem dX4_isPoint_17 : decode cX4_isPoint 17 = .ok (.if_icmp .ge 7, 3) := by decide +kernel
theorem dX4_isPoint_20 : decode cX4_isPoint 20 = .ok (.iconst 1, 1) := by decide +kernel
theorem dX4_isPoint_21 : decode cX4_isPoint 21 = .ok (.goto 4, 3) := by decide +kernel
theorem dX4_isPoint_24 : decode cX4_isPoint 24 = .ok (.iconst 0, 1) := by decide +kernel
theorem dX4_isPoint_25 : decode cX4_isPoint 25 = .ok (.ireturn, 1) := by decide +kernel
theorem dX4_isPicture_0 : decode cX4_isPicture 0 = .ok (.iload_n 0, 1) := by decide +kernel
theorem dX4_isPicture_1 : decode cX4_isPicture 1 = .ok (.ifCond .lt 12, 3) := by decide +kernel
theorem dX4_isPicture_4 : decode cX4_isPicture 4 = .ok (.iload_n 0, 1) := by decide +kernel
theorem dX4_isPicture_5 : decode cX4_isPicture 5 = .ok (.iconst 3, 1) := by decide +kernel
theorem dX4_isPicture_6 : decode cX4_isPicture 6 = .ok (.if_icmp .ge 7, 3) := by decide +kernel
theorem dX4_isPicture_9 : decode cX4_isPicture 9 = .ok (.iconst 1, 1) := by decide +kernel
theorem dX4_isPicture_10 : decode cX4_isPicture 10 = .ok (.goto 4, 3) := by decide +kernel
theorem dX4_isPicture_13 : decode cX4_isPicture 13 = .ok (.iconst 0, 1) := by decide +kernel
theorem dX4_isPicture_14 : decode cX4_isPicture 14 = .ok (.ireturn, 1) := by decide +kernel
theorem dX4_isTile_0 : decode cX4_isTile 0 = .ok (.iload_n 0, 1) := by decide +kernel
theorem dX4_isTile_1 : decode cX4_isTile 1 = .ok (.ifCond .lt 13, 3) := by decide +kernel
theorem dX4_isTile_4 : decode cX4_isTile 4 = .ok (.iload_n 0, 1) := by decide +kernel
theorem dX4_isTile_5 : decode cX4_isTile 5 = .ok (.bipush 9, 2) := by decide +kernel
theorem dX4_isTile_7 : decode cX4_isTile 7 = .ok (.if_icmp .ge 7, 3) := by decide +kernel
theorem dX4_isTile_10 : decode cX4_isTile 10 = .ok (.iconst 1, 1) := by decide +kernel
theorem dX4_isTile_11 : decode cX4_isTile 11 = .ok (.goto 4, 3) := by decide +kernel
theorem dX4_isTile_14 : decode cX4_isTile 14 = .ok (.iconst 0, 1) := by decide +kernel
theorem dX4_isTile_15 : decode cX4_isTile 15 = .ok (.ireturn, 1) := by decide +kernel
set_option maxRecDepth 20000 in
theorem ggX4_boxError_X4_isPoint : GoodIn wsX4_boxError wsX4_isPoint := goodIn_r _ [4] (by decide +kernel) (by decide +kernel)
set_option maxRecDepth 20000 in
theorem gX4_boxError_X4_isPoint : GoodIn wsX4_boxError (va_wsS RX4 55 yX4_isPoint wsX4_isPoint) := goodIn_app (goodIn_of _ (by decide +kernel)) ggX4_boxError_X4_isPoint
set_option maxRecDepth 20000 in
theorem ggX4_boxError_X4_isBetween : GoodIn wsX4_boxError wsX4_isBetween := goodIn_r _ [7] (by decide +kernel) (by decide +kernel)
set_option maxRecDepth 20000 in
theorem gX4_boxError_X4_isBetween : GoodIn wsX4_boxError (va_wsS RX4 59 yX4_isBetween wsX4_isBetween) := goodIn_app (goodIn_of _ (by decide +kernel)) ggX4_boxError_X4_isBetween
theorem dX4_boxError_0 : decode cX4_boxError 0 = .ok (.iload_n 0, 1) := by decide +kernel
theorem dX4_boxError_1 : decode cX4_boxError 1 = .ok (.iload_n 1, 1) := by decide +kernel
theorem dX4_boxError_2 : decode cX4_boxError 2 = .ok (.invokestatic 55, 3) := by decide +kernel
theorem dX4_boxError_5 : decode cX4_boxError 5 = .ok (.ifCond .ne 5, 3) := by decide +kernel
theorem dX4_boxError_8 : decode cX4_boxError 8 = .ok (.iconst (-1), 1) := by decide +kernel
theorem dX4_boxError_9 : decode cX4_boxError 9 = .ok (.ireturn, 1) := by decide +kernel
theorem dX4_boxError_10 : decode cX4_boxError 10 = .ok (.iload_n 2, 1) := by decide +kernel
theorem dX4_boxError_11 : decode cX4_boxError 11 = .ok (.iconst 1, 1) := by decide +kernel
theorem dX4_boxError_12 : decode cX4_boxError 12 = .ok (.bipush 12, 2) := by decide +kernel
theorem dX4_boxError_14 : decode cX4_boxError 14 = .ok (.invokestatic 59, 3) := by decide +kernel
theorem dX4_boxError_17 : decode cX4_boxError 17 = .ok (.ifCond .eq 28, 3) := by decide +kernel
theorem dX4_boxError_20 : decode cX4_boxError 20 = .ok (.iload_n 3, 1) := by decide +kernel
theorem dX4_boxError_21 : decode cX4_boxError 21 = .ok (.iconst 1, 1) := by decide +kernel
theorem dX4_boxError_22 : decode cX4_boxError 22 = .ok (.bipush 12, 2) := by decide +kernel
theorem dX4_boxError_24 : decode cX4_boxError 24 = .ok (.invokestatic 59, 3) := by decide +kernel
theorem dX4_boxError_27 : decode cX4_boxError 27 = .ok (.ifCond .eq 18, 3) := by decide +kernel
theorem dX4_boxError_30 : decode cX4_boxError 30 = .ok (.iload 4, 2) := by decide +kernel
theorem dX4_boxError_32 : decode cX4_boxError 32 = .ok (.iconst 0, 1) := by decide +kernel
theorem dX4_boxError_33 : decode cX4_boxError 33 = .ok (.bipush 15, 2) := by decide +kernel
theorem dX4_boxError_35 : decode cX4_boxError 35 = .ok (.invokestatic 59, 3) := by decide +kernel
theorem dX4_boxError_38 : decode cX4_boxError 38 = .ok (.ifCond .eq 7, 3) := by decide +kernel
theorem dX4_boxError_41 : decode cX4_boxError 41 = .ok (.iconst 1, 1) := by decide +kernel
theorem dX4_boxError_42 : decode cX4_boxError 42 = .ok (.goto 4, 3) := by decide +kernel
theorem dX4_boxError_45 : decode cX4_boxError 45 = .ok (.iconst 0, 1) := by decide +kernel
theorem dX4_boxError_46 : decode cX4_boxError 46 = .ok (.istore 5, 2) := by decide +kernel
theorem dX4_boxError_48 : decode cX4_boxError 48 = .ok (.iload 5, 2) := by decide +kernel
theorem dX4_boxError_50 : decode cX4_boxError 50 = .ok (.ifCond .eq 7, 3) := by decide +kernel
theorem dX4_boxError_53 : decode cX4_boxError 53 = .ok (.iconst 0, 1) := by decide +kernel
theorem dX4_boxError_54 : decode cX4_boxError 54 = .ok (.goto 5, 3) := by decide +kernel
theorem dX4_boxError_57 : decode cX4_boxError 57 = .ok (.bipush (-2), 2) := by decide +kernel
theorem dX4_boxError_59 : decode cX4_boxError 59 = .ok (.ireturn, 1) := by decide +kernel
set_option maxRecDepth 20000 in
theorem ggX4_stepError_X4_isBetween : GoodIn wsX4_stepError wsX4_isBetween := goodIn_r _ [4] (by decide +kernel) (by decide +kernel)
set_option maxRecDepth 20000 in
theorem gX4_stepError_X4_isBetween : GoodIn wsX4_stepError (va_wsS RX4 59 yX4_isBetween wsX4_isBetween) := goodIn_app (goodIn_of _ (by decide +kernel)) ggX4_stepError_X4_isBetween
theorem dX4_stepError_0 : decode cX4_stepError 0 = .ok (.iload_n 0, 1) := by decide +kernel
theorem dX4_stepError_1 : decode cX4_stepError 1 = .ok (.bipush (-11), 2) := by decide +kernel
theorem dX4_stepError_3 : decode cX4_stepError 3 = .ok (.bipush 11, 2) := by decide +kernel
theorem dX4_stepError_5 : decode cX4_stepError 5 = .ok (.invokestatic 59, 3) := by decide +kernel
theorem dX4_stepError_8 : decode cX4_stepError 8 = .ok (.ifCond .eq 18, 3) := by decide +kernel
theorem dX4_stepError_11 : decode cX4_stepError 11 = .ok (.iload_n 1, 1) := by decide +kernel
theorem dX4_stepError_12 : decode cX4_stepError 12 = .ok (.bipush (-11), 2) := by decide +kernel
theorem dX4_stepError_14 : decode cX4_stepError 14 = .ok (.bipush 11, 2) := by decide +kernel
theorem dX4_stepError_16 : decode cX4_stepError 16 = .ok (.invokestatic 59, 3) := by decide +kernel
theorem dX4_stepError_19 : decode cX4_stepError 19 = .ok (.ifCond .eq 7, 3) := by decide +kernel
theorem dX4_stepError_22 : decode cX4_stepError 22 = .ok (.iconst 1, 1) := by decide +kernel
theorem dX4_stepError_23 : decode cX4_stepError 23 = .ok (.goto 4, 3) := by decide +kernel
theorem dX4_stepError_26 : decode cX4_stepError 26 = .ok (.iconst 0, 1) := by decide +kernel
theorem dX4_stepError_27 : decode cX4_stepError 27 = .ok (.istore_n 2, 1) := by decide +kernel
theorem dX4_stepError_28 : decode cX4_stepError 28 = .ok (.iload_n 2, 1) := by decide +kernel
theorem dX4_stepError_29 : decode cX4_stepError 29 = .ok (.ifCond .eq 7, 3) := by decide +kernel
theorem dX4_stepError_32 : decode cX4_stepError 32 = .ok (.iconst 0, 1) := by decide +kernel
theorem dX4_stepError_33 : decode cX4_stepError 33 = .ok (.goto 5, 3) := by decide +kernel
theorem dX4_stepError_36 : decode cX4_stepError 36 = .ok (.bipush (-2), 2) := by decide +kernel
theorem dX4_stepError_38 : decode cX4_stepError 38 = .ok (.ireturn, 1) := by decide +kernel
theorem dX4_tileColumn_0 : decode cX4_tileColumn 0 = .ok (.iload_n 0, 1) := by decide +kernel
theorem dX4_tileColumn_1 : decode cX4_tileColumn 1 = .ok (.iconst 3, 1) := by decide +kernel
theorem dX4_tileColumn_2 : decode cX4_tileColumn 2 = .ok (.irem, 1) := by decide +kernel
theorem dX4_tileColumn_3 : decode cX4_tileColumn 3 = .ok (.iconst 4, 1) := by decide +kernel
theorem dX4_tileColumn_4 : decode cX4_tileColumn 4 = .ok (.imul, 1) := by decide +kernel
theorem dX4_tileColumn_5 : decode cX4_tileColumn 5 = .ok (.ireturn, 1) := by decide +kernel
theorem dX4_tileRow_0 : decode cX4_tileRow 0 = .ok (.iload_n 0, 1) := by decide +kernel
theorem dX4_tileRow_1 : decode cX4_tileRow 1 = .ok (.iconst 3, 1) := by decide +kernel
theorem dX4_tileRow_2 : decode cX4_tileRow 2 = .ok (.idiv, 1) := by decide +kernel
theorem dX4_tileRow_3 : decode cX4_tileRow 3 = .ok (.iconst 4, 1) := by decide +kernel
theorem dX4_tileRow_4 : decode cX4_tileRow 4 = .ok (.imul, 1) := by decide +kernel
theorem dX4_tileRow_5 : decode cX4_tileRow 5 = .ok (.ireturn, 1) := by decide +kernel
set_option maxRecDepth 20000 in
theorem ggX4_stepRight_X4_isBetween : GoodIn wsX4_stepRight wsX4_isBetween := goodIn_r _ [5] (by decide +kernel) (by decide +kernel)
set_option maxRecDepth 20000 in
theorem gX4_stepRight_X4_isBetween : GoodIn wsX4_stepRight (va_wsS RX4 59 yX4_isBetween wsX4_isBetween) := goodIn_app (goodIn_of _ (by decide +kernel)) ggX4_stepRight_X4_isBetween
theorem dX4_stepRight_0 : decode cX4_stepRight 0 = .ok (.iload_n 0, 1) := by decide +kernel
theorem dX4_stepRight_1 : decode cX4_stepRight 1 = .ok (.iconst 0, 1) := by decide +kernel
theorem dX4_stepRight_2 : decode cX4_stepRight 2 = .ok (.bipush 24, 2) := by decide +kernel
theorem dX4_stepRight_4 : decode cX4_stepRight 4 = .ok (.invokestatic 59, 3) := by decide +kernel
theorem dX4_stepRight_7 : decode cX4_stepRight 7 = .ok (.ifCond .eq 11, 3) := by decide +kernel
theorem dX4_stepRight_10 : decode cX4_stepRight 10 = .ok (.getstatic 160, 3) := by decide +kernel
theorem dX4_stepRight_13 : decode cX4_stepRight 13 = .ok (.iload_n 0, 1) := by decide +kernel
theorem dX4_stepRight_14 : decode cX4_stepRight 14 = .ok (.iaload, 1) := by decide +kernel
theorem dX4_stepRight_15 : decode cX4_stepRight 15 = .ok (.goto 4, 3) := by decide +kernel
theorem dX4_stepRight_18 : decode cX4_stepRight 18 = .ok (.iconst 0, 1) := by decide +kernel
theorem dX4_stepRight_19 : decode cX4_stepRight 19 = .ok (.ireturn, 1) := by decide +kernel
set_option maxRecDepth 20000 in
theorem ggX4_stepDown_X4_isBetween : GoodIn wsX4_stepDown wsX4_isBetween := goodIn_r _ [5] (by decide +kernel) (by decide +kernel)
set_option maxRecDepth 20000 in
theorem gX4_stepDown_X4_isBetween : GoodIn wsX4_stepDown (va_wsS RX4 59 yX4_isBetween wsX4_isBetween) := goodIn_app (goodIn_of _ (by decide +kernel)) ggX4_stepDown_X4_isBetween
theorem dX4_stepDown_0 : decode cX4_stepDown 0 = .ok (.iload_n 0, 1) := by decide +kernel
theorem dX4_stepDown_1 : decode cX4_stepDown 1 = .ok (.iconst 0, 1) := by decide +kernel
theorem dX4_stepDown_2 : decode cX4_stepDown 2 = .ok (.bipush 24, 2) := by decide +kernel
theorem dX4_stepDown_4 : decode cX4_stepDown 4 = .ok (.invokestatic 59, 3) := by decide +kernel
theorem dX4_stepDown_7 : decode cX4_stepDown 7 = .ok (.ifCond .eq 11, 3) := by decide +kernel
theorem dX4_stepDown_10 : decode cX4_stepDown 10 = .ok (.getstatic 163, 3) := by decide +kernel
theorem dX4_stepDown_13 : decode cX4_stepDown 13 = .ok (.iload_n 0, 1) := by decide +kernel
theorem dX4_stepDown_14 : decode cX4_stepDown 14 = .ok (.iaload, 1) := by decide +kernel
theorem dX4_stepDown_15 : decode cX4_stepDown 15 = .ok (.goto 4, 3) := by decide +kernel
theorem dX4_stepDown_18 : decode cX4_stepDown 18 = .ok (.iconst 0, 1) := by decide +kernel
theorem dX4_stepDown_19 : decode cX4_stepDown 19 = .ok (.ireturn, 1) := by decide +kernel
set_option maxRecDepth 20000 in
theorem ggX4_isWithin_X4_tileColumn : GoodIn wsX4_isWithin wsX4_tileColumn := goodIn_r _ [4] (by decide +kernel) (by decide +kernel)
set_option maxRecDepth 20000 in
theorem gX4_isWithin_X4_tileColumn : GoodIn wsX4_isWithin (va_wsS RX4 217 yX4_tileColumn wsX4_tileColumn) := goodIn_app (goodIn_of _ (by decide +kernel)) ggX4_isWithin_X4_tileColumn
set_option maxRecDepth 20000 in
theorem ggX4_isWithin_X4_stepRight : GoodIn wsX4_isWithin wsX4_stepRight := goodIn_r _ [7, 8, 9, 10, 3, 11] (by decide +kernel) (by decide +kernel)
set_option maxRecDepth 20000 in
theorem gX4_isWithin_X4_stepRight : GoodIn wsX4_isWithin (va_wsS RX4 220 yX4_stepRight wsX4_stepRight) := goodIn_app (goodIn_of _ (by decide +kernel)) ggX4_isWithin_X4_stepRight
set_option maxRecDepth 20000 in
theorem ggX4_isWithin_X4_tileRow : GoodIn wsX4_isWithin wsX4_tileRow := goodIn_r _ [14] (by decide +kernel) (by decide +kernel)
set_option maxRecDepth 20000 in
theorem gX4_isWithin_X4_tileRow : GoodIn wsX4_isWithin (va_wsS RX4 223 yX4_tileRow wsX4_tileRow) := goodIn_app (goodIn_of _ (by decide +kernel)) ggX4_isWithin_X4_tileRow
set_option maxRecDepth 20000 in
theorem ggX4_isWithin_X4_stepDown : GoodIn wsX4_isWithin wsX4_stepDown := goodIn_r _ [17, 18, 9, 10, 3, 11] (by decide +kernel) (by decide +kernel)
set_option maxRecDepth 20000 in
theorem gX4_isWithin_X4_stepDown : GoodIn wsX4_isWithin (va_wsS RX4 226 yX4_stepDown wsX4_stepDown) := goodIn_app (goodIn_of _ (by decide +kernel)) ggX4_isWithin_X4_stepDown
set_option maxRecDepth 20000 in
theorem ggX4_isWithin_X4_isPoint : GoodIn wsX4_isWithin wsX4_isPoint := goodIn_r _ [21] (by decide +kernel) (by decide +kernel)
set_option maxRecDepth 20000 in
theorem gX4_isWithin_X4_isPoint : GoodIn wsX4_isWithin (va_wsS RX4 55 yX4_isPoint wsX4_isPoint) := goodIn_app (goodIn_of _ (by decide +kernel)) ggX4_isWithin_X4_isPoint
theorem dX4_isWithin_0 : decode cX4_isWithin 0 = .ok (.iload_n 0, 1) := by decide +kernel
theorem dX4_isWithin_1 : decode cX4_isWithin 1 = .ok (.invokestatic 217, 3) := by decide +kernel
theorem dX4_isWithin_4 : decode cX4_isWithin 4 = .ok (.iload_n 1, 1) := by decide +kernel
theorem dX4_isWithin_5 : decode cX4_isWithin 5 = .ok (.invokestatic 220, 3) := by decide +kernel
theorem dX4_isWithin_8 : decode cX4_isWithin 8 = .ok (.iadd, 1) := by decide +kernel
theorem dX4_isWithin_9 : decode cX4_isWithin 9 = .ok (.istore_n 2, 1) := by decide +kernel
theorem dX4_isWithin_10 : decode cX4_isWithin 10 = .ok (.iload_n 0, 1) := by decide +kernel
theorem dX4_isWithin_11 : decode cX4_isWithin 11 = .ok (.invokestatic 223, 3) := by decide +kernel
theorem dX4_isWithin_14 : decode cX4_isWithin 14 = .ok (.iload_n 1, 1) := by decide +kernel
theorem dX4_isWithin_15 : decode cX4_isWithin 15 = .ok (.invokestatic 226, 3) := by decide +kernel
theorem dX4_isWithin_18 : decode cX4_isWithin 18 = .ok (.iadd, 1) := by decide +kernel
theorem dX4_isWithin_19 : decode cX4_isWithin 19 = .ok (.istore_n 3, 1) := by decide +kernel
theorem dX4_isWithin_20 : decode cX4_isWithin 20 = .ok (.iload_n 2, 1) := by decide +kernel
theorem dX4_isWithin_21 : decode cX4_isWithin 21 = .ok (.iload_n 3, 1) := by decide +kernel
theorem dX4_isWithin_22 : decode cX4_isWithin 22 = .ok (.invokestatic 55, 3) := by decide +kernel
theorem dX4_isWithin_25 : decode cX4_isWithin 25 = .ok (.ifCond .eq 23, 3) := by decide +kernel
theorem dX4_isWithin_28 : decode cX4_isWithin 28 = .ok (.iload_n 2, 1) := by decide +kernel
theorem dX4_isWithin_29 : decode cX4_isWithin 29 = .ok (.iconst 4, 1) := by decide +kernel
theorem dX4_isWithin_30 : decode cX4_isWithin 30 = .ok (.iadd, 1) := by decide +kernel
theorem dX4_isWithin_31 : decode cX4_isWithin 31 = .ok (.iconst 1, 1) := by decide +kernel
theorem dX4_isWithin_32 : decode cX4_isWithin 32 = .ok (.isub, 1) := by decide +kernel
theorem dX4_isWithin_33 : decode cX4_isWithin 33 = .ok (.iload_n 3, 1) := by decide +kernel
theorem dX4_isWithin_34 : decode cX4_isWithin 34 = .ok (.iconst 4, 1) := by decide +kernel
theorem dX4_isWithin_35 : decode cX4_isWithin 35 = .ok (.iadd, 1) := by decide +kernel
theorem dX4_isWithin_36 : decode cX4_isWithin 36 = .ok (.iconst 1, 1) := by decide +kernel
theorem dX4_isWithin_37 : decode cX4_isWithin 37 = .ok (.isub, 1) := by decide +kernel
theorem dX4_isWithin_38 : decode cX4_isWithin 38 = .ok (.invokestatic 55, 3) := by decide +kernel
theorem dX4_isWithin_41 : decode cX4_isWithin 41 = .ok (.ifCond .eq 7, 3) := by decide +kernel
theorem dX4_isWithin_44 : decode cX4_isWithin 44 = .ok (.iconst 1, 1) := by decide +kernel
theorem dX4_isWithin_45 : decode cX4_isWithin 45 = .ok (.goto 4, 3) := by decide +kernel
theorem dX4_isWithin_48 : decode cX4_isWithin 48 = .ok (.iconst 0, 1) := by decide +kernel
theorem dX4_isWithin_49 : decode cX4_isWithin 49 = .ok (.ireturn, 1) := by decide +kernel
theorem dX4_kindOf_0 : decode cX4_kindOf 0 = .ok (.iload_n 0, 1) := by decide +kernel
theorem dX4_kindOf_1 : decode cX4_kindOf 1 = .ok (.ifCond .ne 5, 3) := by decide +kernel
theorem dX4_kindOf_4 : decode cX4_kindOf 4 = .ok (.iconst 0, 1) := by decide +kernel
theorem dX4_kindOf_5 : decode cX4_kindOf 5 = .ok (.ireturn, 1) := by decide +kernel
theorem dX4_kindOf_6 : decode cX4_kindOf 6 = .ok (.iload_n 0, 1) := by decide +kernel
theorem dX4_kindOf_7 : decode cX4_kindOf 7 = .ok (.bipush 25, 2) := by decide +kernel
theorem dX4_kindOf_9 : decode cX4_kindOf 9 = .ok (.if_icmp .ne 7, 3) := by decide +kernel
theorem dX4_kindOf_12 : decode cX4_kindOf 12 = .ok (.iconst 2, 1) := by decide +kernel
theorem dX4_kindOf_13 : decode cX4_kindOf 13 = .ok (.goto 4, 3) := by decide +kernel
theorem dX4_kindOf_16 : decode cX4_kindOf 16 = .ok (.iconst 1, 1) := by decide +kernel
theorem dX4_kindOf_17 : decode cX4_kindOf 17 = .ok (.ireturn, 1) := by decide +kernel
theorem dX4_bitsOf_0 : decode cX4_bitsOf 0 = .ok (.iload_n 0, 1) := by decide +kernel
theorem dX4_bitsOf_1 : decode cX4_bitsOf 1 = .ok (.ifCond .ne 5, 3) := by decide +kernel
theorem dX4_bitsOf_4 : decode cX4_bitsOf 4 = .ok (.iconst 1, 1) := by decide +kernel
theorem dX4_bitsOf_5 : decode cX4_bitsOf 5 = .ok (.ireturn, 1) := by decide +kernel
theorem dX4_bitsOf_6 : decode cX4_bitsOf 6 = .ok (.iload_n 0, 1) := by decide +kernel
theorem dX4_bitsOf_7 : decode cX4_bitsOf 7 = .ok (.iconst 2, 1) := by decide +kernel
theorem dX4_bitsOf_8 : decode cX4_bitsOf 8 = .ok (.if_icmp .gt 5, 3) := by decide +kernel
theorem dX4_bitsOf_11 : decode cX4_bitsOf 11 = .ok (.iconst 3, 1) := by decide +kernel
theorem dX4_bitsOf_12 : decode cX4_bitsOf 12 = .ok (.ireturn, 1) := by decide +kernel
theorem dX4_bitsOf_13 : decode cX4_bitsOf 13 = .ok (.iload_n 0, 1) := by decide +kernel
theorem dX4_bitsOf_14 : decode cX4_bitsOf 14 = .ok (.bipush 8, 2) := by decide +kernel
theorem dX4_bitsOf_16 : decode cX4_bitsOf 16 = .ok (.if_icmp .gt 5, 3) := by decide +kernel
theorem dX4_bitsOf_19 : decode cX4_bitsOf 19 = .ok (.iconst 5, 1) := by decide +kernel
theorem dX4_bitsOf_20 : decode cX4_bitsOf 20 = .ok (.ireturn, 1) := by decide +kernel
theorem dX4_bitsOf_21 : decode cX4_bitsOf 21 = .ok (.iload_n 0, 1) := by decide +kernel
theorem dX4_bitsOf_22 : decode cX4_bitsOf 22 = .ok (.bipush 25, 2) := by decide +kernel
theorem dX4_bitsOf_24 : decode cX4_bitsOf 24 = .ok (.if_icmp .ne 8, 3) := by decide +kernel
theorem dX4_bitsOf_27 : decode cX4_bitsOf 27 = .ok (.bipush 66, 2) := by decide +kernel
theorem dX4_bitsOf_29 : decode cX4_bitsOf 29 = .ok (.goto 5, 3) := by decide +kernel
theorem dX4_bitsOf_32 : decode cX4_bitsOf 32 = .ok (.bipush 7, 2) := by decide +kernel
theorem dX4_bitsOf_34 : decode cX4_bitsOf 34 = .ok (.ireturn, 1) := by decide +kernel
set_option maxRecDepth 20000 in
theorem ggX4_firstOrderError_X4_orderError : GoodIn wsX4_firstOrderError wsX4_orderError := goodIn_r _ [6, 1, 7, 8, 9, 10, 11, 12, 5, 13, 14, 15, 16, 17, 18, 19, 20, 21, 22, 23, 24, 25, 26, 27, 28, 29, 30, 31, 32, 33, 34, 35, 36, 37] (by decide +kernel) (by decide +kernel)
set_option maxRecDepth 20000 in
theorem gX4_firstOrderError_X4_orderError : GoodIn wsX4_firstOrderError (wsV RX4 229 RX4 yX4_orderError wsX4_orderError) := goodIn_app (goodIn_of _ (by decide +kernel)) ggX4_firstOrderError_X4_orderError
theorem dX4_firstOrderError_0 : decode cX4_firstOrderError 0 = .ok (.aload_n 0, 1) := by decide +kernel
theorem dX4_firstOrderError_1 : decode cX4_firstOrderError 1 = .ok (.getfield 33, 3) := by decide +kernel
theorem dX4_firstOrderError_4 : decode cX4_firstOrderError 4 = .ok (.getfield 98, 3) := by decide +kernel
theorem dX4_firstOrderError_7 : decode cX4_firstOrderError 7 = .ok (.istore_n 1, 1) := by decide +kernel
theorem dX4_firstOrderError_8 : decode cX4_firstOrderError 8 = .ok (.iconst 0, 1) := by decide +kernel
theorem dX4_firstOrderError_9 : decode cX4_firstOrderError 9 = .ok (.istore_n 2, 1) := by decide +kernel
theorem dX4_firstOrderError_10 : decode cX4_firstOrderError 10 = .ok (.iload_n 2, 1) := by decide +kernel
theorem dX4_firstOrderError_11 : decode cX4_firstOrderError 11 = .ok (.iload_n 1, 1) := by decide +kernel
theorem dX4_firstOrderError_12 : decode cX4_firstOrderError 12 = .ok (.if_icmp .ge 21, 3) := by decide +kernel
theorem dX4_firstOrderError_15 : decode cX4_firstOrderError 15 = .ok (.aload_n 0, 1) := by decide +kernel
theorem dX4_firstOrderError_16 : decode cX4_firstOrderError 16 = .ok (.iload_n 2, 1) := by decide +kernel
theorem dX4_firstOrderError_17 : decode cX4_firstOrderError 17 = .ok (.invokevirtual 229, 3) := by decide +kernel
theorem dX4_firstOrderError_20 : decode cX4_firstOrderError 20 = .ok (.istore_n 3, 1) := by decide +kernel
theorem dX4_firstOrderError_21 : decode cX4_firstOrderError 21 = .ok (.iload_n 3, 1) := by decide +kernel
theorem dX4_firstOrderError_22 : decode cX4_firstOrderError 22 = .ok (.ifCond .eq 5, 3) := by decide +kernel
theorem dX4_firstOrderError_25 : decode cX4_firstOrderError 25 = .ok (.iload_n 3, 1) := by decide +kernel
theorem dX4_firstOrderError_26 : decode cX4_firstOrderError 26 = .ok (.ireturn, 1) := by decide +kernel
theorem dX4_firstOrderError_27 : decode cX4_firstOrderError 27 = .ok (.iinc 2 1, 3) := by decide +kernel
theorem dX4_firstOrderError_30 : decode cX4_firstOrderError 30 = .ok (.goto (-20), 3) := by decide +kernel
theorem dX4_firstOrderError_33 : decode cX4_firstOrderError 33 = .ok (.iconst 0, 1) := by decide +kernel
theorem dX4_firstOrderError_34 : decode cX4_firstOrderError 34 = .ok (.ireturn, 1) := by decide +kernel
set_option maxRecDepth 20000 in
theorem ggX4_orderError_X1_part : GoodIn wsX4_orderError wsX1_part := goodIn_r _ [5, 6, 7, 8, 9, 29, 30, 31, 32, 33] (by decide +kernel) (by decide +kernel)
set_option maxRecDepth 20000 in
theorem gX4_orderError_X1_part_n232 : GoodIn wsX4_orderError (wsX1_part) := ggX4_orderError_X1_part
set_option maxRecDepth 20000 in
theorem ggX4_orderError_X4_stepError : GoodIn wsX4_orderError wsX4_stepError := goodIn_r _ [12, 13, 7, 8, 9] (by decide +kernel) (by decide +kernel)
set_option maxRecDepth 20000 in
theorem gX4_orderError_X4_stepError : GoodIn wsX4_orderError (va_wsS RX4 84 yX4_stepError wsX4_stepError) := goodIn_app (goodIn_of _ (by decide +kernel)) ggX4_orderError_X4_stepError
set_option maxRecDepth 20000 in
theorem ggX4_orderError_X4_boxError : GoodIn wsX4_orderError wsX4_boxError := goodIn_r _ [16, 17, 18, 8, 19, 13, 7, 9] (by decide +kernel) (by decide +kernel)
set_option maxRecDepth 20000 in
theorem gX4_orderError_X4_boxError : GoodIn wsX4_orderError (va_wsS RX4 77 yX4_boxError wsX4_boxError) := goodIn_app (goodIn_of _ (by decide +kernel)) ggX4_orderError_X4_boxError
theorem dX4_orderError_0 : decode cX4_orderError 0 = .ok (.aload_n 0, 1) := by decide +kernel
theorem dX4_orderError_1 : decode cX4_orderError 1 = .ok (.getfield 33, 3) := by decide +kernel
theorem dX4_orderError_4 : decode cX4_orderError 4 = .ok (.iload_n 1, 1) := by decide +kernel
theorem dX4_orderError_5 : decode cX4_orderError 5 = .ok (.iconst 0, 1) := by decide +kernel
theorem dX4_orderError_6 : decode cX4_orderError 6 = .ok (.invokevirtual 232, 3) := by decide +kernel
theorem dX4_orderError_9 : decode cX4_orderError 9 = .ok (.iconst 1, 1) := by decide +kernel
theorem dX4_orderError_10 : decode cX4_orderError 10 = .ok (.if_icmp .ne 25, 3) := by decide +kernel
theorem dX4_orderError_13 : decode cX4_orderError 13 = .ok (.aload_n 0, 1) := by decide +kernel
theorem dX4_orderError_14 : decode cX4_orderError 14 = .ok (.getfield 33, 3) := by decide +kernel
theorem dX4_orderError_17 : decode cX4_orderError 17 = .ok (.iload_n 1, 1) := by decide +kernel
theorem dX4_orderError_18 : decode cX4_orderError 18 = .ok (.iconst 1, 1) := by decide +kernel
theorem dX4_orderError_19 : decode cX4_orderError 19 = .ok (.invokevirtual 232, 3) := by decide +kernel
theorem dX4_orderError_22 : decode cX4_orderError 22 = .ok (.aload_n 0, 1) := by decide +kernel
theorem dX4_orderError_23 : decode cX4_orderError 23 = .ok (.getfield 33, 3) := by decide +kernel
theorem dX4_orderError_26 : decode cX4_orderError 26 = .ok (.iload_n 1, 1) := by decide +kernel
theorem dX4_orderError_27 : decode cX4_orderError 27 = .ok (.iconst 2, 1) := by decide +kernel
theorem dX4_orderError_28 : decode cX4_orderError 28 = .ok (.invokevirtual 232, 3) := by decide +kernel
theorem dX4_orderError_31 : decode cX4_orderError 31 = .ok (.invokestatic 84, 3) := by decide +kernel
theorem dX4_orderError_34 : decode cX4_orderError 34 = .ok (.ireturn, 1) := by decide +kernel
theorem dX4_orderError_35 : decode cX4_orderError 35 = .ok (.aload_n 0, 1) := by decide +kernel
theorem dX4_orderError_36 : decode cX4_orderError 36 = .ok (.getfield 33, 3) := by decide +kernel
theorem dX4_orderError_39 : decode cX4_orderError 39 = .ok (.iload_n 1, 1) := by decide +kernel
theorem dX4_orderError_40 : decode cX4_orderError 40 = .ok (.iconst 1, 1) := by decide +kernel
theorem dX4_orderError_41 : decode cX4_orderError 41 = .ok (.invokevirtual 232, 3) := by decide +kernel
theorem dX4_orderError_44 : decode cX4_orderError 44 = .ok (.aload_n 0, 1) := by decide +kernel
theorem dX4_orderError_45 : decode cX4_orderError 45 = .ok (.getfield 33, 3) := by decide +kernel
theorem dX4_orderError_48 : decode cX4_orderError 48 = .ok (.iload_n 1, 1) := by decide +kernel
theorem dX4_orderError_49 : decode cX4_orderError 49 = .ok (.iconst 2, 1) := by decide +kernel
theorem dX4_orderError_50 : decode cX4_orderError 50 = .ok (.invokevirtual 232, 3) := by decide +kernel
theorem dX4_orderError_53 : decode cX4_orderError 53 = .ok (.aload_n 0, 1) := by decide +kernel
theorem dX4_orderError_54 : decode cX4_orderError 54 = .ok (.getfield 33, 3) := by decide +kernel
theorem dX4_orderError_57 : decode cX4_orderError 57 = .ok (.iload_n 1, 1) := by decide +kernel
theorem dX4_orderError_58 : decode cX4_orderError 58 = .ok (.iconst 3, 1) := by decide +kernel
theorem dX4_orderError_59 : decode cX4_orderError 59 = .ok (.invokevirtual 232, 3) := by decide +kernel
theorem dX4_orderError_62 : decode cX4_orderError 62 = .ok (.aload_n 0, 1) := by decide +kernel
theorem dX4_orderError_63 : decode cX4_orderError 63 = .ok (.getfield 33, 3) := by decide +kernel
theorem dX4_orderError_66 : decode cX4_orderError 66 = .ok (.iload_n 1, 1) := by decide +kernel
theorem dX4_orderError_67 : decode cX4_orderError 67 = .ok (.iconst 4, 1) := by decide +kernel
theorem dX4_orderError_68 : decode cX4_orderError 68 = .ok (.invokevirtual 232, 3) := by decide +kernel
theorem dX4_orderError_71 : decode cX4_orderError 71 = .ok (.aload_n 0, 1) := by decide +kernel
theorem dX4_orderError_72 : decode cX4_orderError 72 = .ok (.getfield 33, 3) := by decide +kernel
theorem dX4_orderError_75 : decode cX4_orderError 75 = .ok (.iload_n 1, 1) := by decide +kernel
theorem dX4_orderError_76 : decode cX4_orderError 76 = .ok (.iconst 5, 1) := by decide +kernel
theorem dX4_orderError_77 : decode cX4_orderError 77 = .ok (.invokevirtual 232, 3) := by decide +kernel
theorem dX4_orderError_80 : decode cX4_orderError 80 = .ok (.invokestatic 77, 3) := by decide +kernel
theorem dX4_orderError_83 : decode cX4_orderError 83 = .ok (.ireturn, 1) := by decide +kernel
set_option maxRecDepth 20000 in
theorem ggX4_doOrder_X1_part : GoodIn wsX4_doOrder wsX1_part := goodIn_r _ [7, 8, 9, 10, 11, 60, 61, 62, 63, 64] (by decide +kernel) (by decide +kernel)
set_option maxRecDepth 20000 in
theorem gX4_doOrder_X1_part_n232 : GoodIn wsX4_doOrder (wsX1_part) := ggX4_doOrder_X1_part
set_option maxRecDepth 20000 in
theorem ggX4_doOrder_X2_moveBy : GoodIn wsX4_doOrder wsX2_moveBy := goodIn_r _ [15, 16, 17, 18, 13, 19, 20, 21, 22, 23, 24, 25, 26, 27, 28, 29, 10, 30, 31, 32, 33, 34, 35, 36, 37, 38, 65] (by decide +kernel) (by decide +kernel)
set_option maxRecDepth 20000 in
theorem gX4_doOrder_X2_moveBy_n87 : GoodIn wsX4_doOrder (wsX2_moveBy) := ggX4_doOrder_X2_moveBy
set_option maxRecDepth 20000 in
theorem ggX4_doOrder_X2_putBox : GoodIn wsX4_doOrder wsX2_putBox := goodIn_r _ [41, 42, 43, 44, 45, 25, 26, 27, 13, 28, 20, 29, 10, 30, 31, 32, 33, 34, 65] (by decide +kernel) (by decide +kernel)
set_option maxRecDepth 20000 in
theorem gX4_doOrder_X2_putBox_n81 : GoodIn wsX4_doOrder (wsX2_putBox) := ggX4_doOrder_X2_putBox
theorem dX4_doOrder_0 : decode cX4_doOrder 0 = .ok (.aload_n 0, 1) := by decide +kernel
theorem dX4_doOrder_1 : decode cX4_doOrder 1 = .ok (.getfield 33, 3) := by decide +kernel
theorem dX4_doOrder_4 : decode cX4_doOrder 4 = .ok (.iload_n 1, 1) := by decide +kernel
theorem dX4_doOrder_5 : decode cX4_doOrder 5 = .ok (.iconst 0, 1) := by decide +kernel
theorem dX4_doOrder_6 : decode cX4_doOrder 6 = .ok (.invokevirtual 232, 3) := by decide +kernel
theorem dX4_doOrder_9 : decode cX4_doOrder 9 = .ok (.iconst 1, 1) := by decide +kernel
theorem dX4_doOrder_10 : decode cX4_doOrder 10 = .ok (.if_icmp .ne 39, 3) := by decide +kernel
theorem dX4_doOrder_13 : decode cX4_doOrder 13 = .ok (.aload_n 0, 1) := by decide +kernel
theorem dX4_doOrder_14 : decode cX4_doOrder 14 = .ok (.getfield 10, 3) := by decide +kernel
theorem dX4_doOrder_17 : decode cX4_doOrder 17 = .ok (.getfield 63, 3) := by decide +kernel
theorem dX4_doOrder_20 : decode cX4_doOrder 20 = .ok (.aload_n 0, 1) := by decide +kernel
theorem dX4_doOrder_21 : decode cX4_doOrder 21 = .ok (.getfield 33, 3) := by decide +kernel
theorem dX4_doOrder_24 : decode cX4_doOrder 24 = .ok (.iload_n 1, 1) := by decide +kernel
theorem dX4_doOrder_25 : decode cX4_doOrder 25 = .ok (.iconst 1, 1) := by decide +kernel
theorem dX4_doOrder_26 : decode cX4_doOrder 26 = .ok (.invokevirtual 232, 3) := by decide +kernel
theorem dX4_doOrder_29 : decode cX4_doOrder 29 = .ok (.aload_n 0, 1) := by decide +kernel
theorem dX4_doOrder_30 : decode cX4_doOrder 30 = .ok (.getfield 33, 3) := by decide +kernel
theorem dX4_doOrder_33 : decode cX4_doOrder 33 = .ok (.iload_n 1, 1) := by decide +kernel
theorem dX4_doOrder_34 : decode cX4_doOrder 34 = .ok (.iconst 2, 1) := by decide +kernel
theorem dX4_doOrder_35 : decode cX4_doOrder 35 = .ok (.invokevirtual 232, 3) := by decide +kernel
theorem dX4_doOrder_38 : decode cX4_doOrder 38 = .ok (.aload_n 0, 1) := by decide +kernel
theorem dX4_doOrder_39 : decode cX4_doOrder 39 = .ok (.getfield 47, 3) := by decide +kernel
theorem dX4_doOrder_42 : decode cX4_doOrder 42 = .ok (.invokevirtual 87, 3) := by decide +kernel
theorem dX4_doOrder_45 : decode cX4_doOrder 45 = .ok (.pop, 1) := by decide +kernel
theorem dX4_doOrder_46 : decode cX4_doOrder 46 = .ok (.goto 59, 3) := by decide +kernel
theorem dX4_doOrder_49 : decode cX4_doOrder 49 = .ok (.aload_n 0, 1) := by decide +kernel
theorem dX4_doOrder_50 : decode cX4_doOrder 50 = .ok (.getfield 10, 3) := by decide +kernel
theorem dX4_doOrder_53 : decode cX4_doOrder 53 = .ok (.getfield 63, 3) := by decide +kernel
theorem dX4_doOrder_56 : decode cX4_doOrder 56 = .ok (.aload_n 0, 1) := by decide +kernel
theorem dX4_doOrder_57 : decode cX4_doOrder 57 = .ok (.getfield 33, 3) := by decide +kernel
theorem dX4_doOrder_60 : decode cX4_doOrder 60 = .ok (.iload_n 1, 1) := by decide +kernel
theorem dX4_doOrder_61 : decode cX4_doOrder 61 = .ok (.iconst 1, 1) := by decide +kernel
theorem dX4_doOrder_62 : decode cX4_doOrder 62 = .ok (.invokevirtual 232, 3) := by decide +kernel
theorem dX4_doOrder_65 : decode cX4_doOrder 65 = .ok (.aload_n 0, 1) := by decide +kernel
theorem dX4_doOrder_66 : decode cX4_doOrder 66 = .ok (.getfield 33, 3) := by decide +kernel
theorem dX4_doOrder_69 : decode cX4_doOrder 69 = .ok (.iload_n 1, 1) := by decide +kernel
theorem dX4_doOrder_70 : decode cX4_doOrder 70 = .ok (.iconst 2, 1) := by decide +kernel
theorem dX4_doOrder_71 : decode cX4_doOrder 71 = .ok (.invokevirtual 232, 3) := by decide +kernel
theorem dX4_doOrder_74 : decode cX4_doOrder 74 = .ok (.aload_n 0, 1) := by decide +kernel
theorem dX4_doOrder_75 : decode cX4_doOrder 75 = .ok (.getfield 33, 3) := by decide +kernel
theorem dX4_doOrder_78 : decode cX4_doOrder 78 = .ok (.iload_n 1, 1) := by decide +kernel
theorem dX4_doOrder_79 : decode cX4_doOrder 79 = .ok (.iconst 3, 1) := by decide +kernel
theorem dX4_doOrder_80 : decode cX4_doOrder 80 = .ok (.invokevirtual 232, 3) := by decide +kernel
theorem dX4_doOrder_83 : decode cX4_doOrder 83 = .ok (.aload_n 0, 1) := by decide +kernel
theorem dX4_doOrder_84 : decode cX4_doOrder 84 = .ok (.getfield 33, 3) := by decide +kernel
theorem dX4_doOrder_87 : decode cX4_doOrder 87 = .ok (.iload_n 1, 1) := by decide +kernel
theorem dX4_doOrder_88 : decode cX4_doOrder 88 = .ok (.iconst 4, 1) := by decide +kernel
theorem dX4_doOrder_89 : decode cX4_doOrder 89 = .ok (.invokevirtual 232, 3) := by decide +kernel
theorem dX4_doOrder_92 : decode cX4_doOrder 92 = .ok (.aload_n 0, 1) := by decide +kernel
theorem dX4_doOrder_93 : decode cX4_doOrder 93 = .ok (.getfield 33, 3) := by decide +kernel
theorem dX4_doOrder_96 : decode cX4_doOrder 96 = .ok (.iload_n 1, 1) := by decide +kernel
theorem dX4_doOrder_97 : decode cX4_doOrder 97 = .ok (.iconst 5, 1) := by decide +kernel
theorem dX4_doOrder_98 : decode cX4_doOrder 98 = .ok (.invokevirtual 232, 3) := by decide +kernel
theorem dX4_doOrder_101 : decode cX4_doOrder 101 = .ok (.invokevirtual 81, 3) := by decide +kernel
theorem dX4_doOrder_104 : decode cX4_doOrder 104 = .ok (.pop, 1) := by decide +kernel
theorem dX4_doOrder_105 : decode cX4_doOrder 105 = .ok (.return_, 1) := by decide +kernel
set_option maxRecDepth 20000 in
theorem ggX4_sendFrame_X0_compareAll : GoodIn wsX4_sendFrame wsX0_compareAll := goodIn_r _ [7, 8, 9, 10, 5, 11, 12, 13, 14, 15, 16, 17, 18, 19, 20, 21, 22, 23, 24, 25, 26, 27, 28, 29, 30, 31, 32, 33, 34, 35, 36, 37, 38, 39, 40, 41, 42, 43, 44, 45, 46, 47, 48, 49, 50, 144, 145] (by decide +kernel) (by decide +kernel)
set_option maxRecDepth 20000 in
theorem gX4_sendFrame_X0_compareAll_n186 : GoodIn wsX4_sendFrame (wsX0_compareAll) := ggX4_sendFrame_X0_compareAll
set_option maxRecDepth 20000 in
theorem ggX4_sendFrame_X3_spendable : GoodIn wsX4_sendFrame wsX3_spendable := goodIn_r _ [54, 55, 139, 140, 141, 142, 143] (by decide +kernel) (by decide +kernel)
set_option maxRecDepth 20000 in
theorem gX4_sendFrame_X3_spendable_n193 : GoodIn wsX4_sendFrame (wsX3_spendable) := ggX4_sendFrame_X3_spendable
set_option maxRecDepth 20000 in
theorem ggX4_sendFrame_X0_neededTolerance : GoodIn wsX4_sendFrame wsX0_neededTolerance := goodIn_r _ [58, 59, 60, 61, 5, 62, 63, 64, 65, 66, 67, 68, 69, 70, 12, 13, 14, 15, 26, 27, 71, 72, 144] (by decide +kernel) (by decide +kernel)
set_option maxRecDepth 20000 in
theorem gX4_sendFrame_X0_neededTolerance_n196 : GoodIn wsX4_sendFrame (wsX0_neededTolerance) := ggX4_sendFrame_X0_neededTolerance
set_option maxRecDepth 20000 in
theorem ggX4_sendFrame_X0_codeOf : GoodIn wsX4_sendFrame wsX0_codeOf := goodIn_r _ [66, 67, 68, 69, 5, 70, 12, 13, 14, 15, 26, 27, 144] (by decide +kernel) (by decide +kernel)
set_option maxRecDepth 20000 in
theorem gX4_sendFrame_X0_codeOf_n177 : GoodIn wsX4_sendFrame (wsX0_codeOf) := ggX4_sendFrame_X0_codeOf
set_option maxRecDepth 20000 in
theorem ggX4_sendFrame_X4_applyCodes : GoodIn wsX4_sendFrame wsX4_applyCodes := goodIn_r _ [76, 77, 3, 2, 78, 39, 79, 80, 50, 81, 82, 83, 84, 85, 86, 87, 19, 14, 20, 29, 30, 22, 23, 24, 25, 26, 27, 32, 33, 34, 46, 47, 48, 49, 36, 37, 88, 89, 90, 91, 130, 131, 132, 133, 134, 135, 136, 137, 138, 139, 140, 141, 142, 143, 145] (by decide +kernel) (by decide +kernel)
set_option maxRecDepth 20000 in
theorem gX4_sendFrame_X4_applyCodes : GoodIn wsX4_sendFrame (wsV RX4 235 RX4 yX4_applyCodes wsX4_applyCodes) := goodIn_app (goodIn_of _ (by decide +kernel)) ggX4_sendFrame_X4_applyCodes
set_option maxRecDepth 20000 in
theorem ggX4_sendFrame_X4_bitsOfCodes : GoodIn wsX4_sendFrame wsX4_bitsOfCodes := goodIn_r _ [95, 3, 96, 71, 14, 72, 130, 131, 132, 133, 134, 135, 136, 137, 138] (by decide +kernel) (by decide +kernel)
set_option maxRecDepth 20000 in
theorem gX4_sendFrame_X4_bitsOfCodes : GoodIn wsX4_sendFrame (wsV RX4 239 RX4 yX4_bitsOfCodes wsX4_bitsOfCodes) := goodIn_app (goodIn_of _ (by decide +kernel)) ggX4_sendFrame_X4_bitsOfCodes
set_option maxRecDepth 20000 in
theorem ggX4_sendFrame_X4_logFrame : GoodIn wsX4_sendFrame wsX4_logFrame := goodIn_r _ [100, 2, 3, 101, 52, 102, 103, 55, 104, 105, 106, 107, 108, 109, 110, 111, 26, 14, 27, 112, 113, 114, 115, 116, 117, 118, 119, 39, 120, 121, 122, 38, 40, 41, 42, 43, 44, 45, 19, 20, 29, 30, 22, 23, 24, 25, 32, 33, 34, 46, 47, 48, 49, 50, 36, 37, 130, 131, 132, 133, 134, 135, 136, 137, 138, 139, 140, 141, 142, 143, 145] (by decide +kernel) (by decide +kernel)
set_option maxRecDepth 20000 in
theorem gX4_sendFrame_X4_logFrame : GoodIn wsX4_sendFrame (wsV RX4 242 RX4 yX4_logFrame wsX4_logFrame) := goodIn_app (goodIn_of _ (by decide +kernel)) ggX4_sendFrame_X4_logFrame
set_option maxRecDepth 20000 in
theorem ggX4_sendFrame_X4_countFrame : GoodIn wsX4_sendFrame wsX4_countFrame := goodIn_r _ [126, 2, 127, 128, 44, 129, 51, 52, 53, 54, 55, 130, 131, 132, 133, 134, 135, 136, 137, 138, 139, 140, 141, 142, 143] (by decide +kernel) (by decide +kernel)
set_option maxRecDepth 20000 in
theorem gX4_sendFrame_X4_countFrame : GoodIn wsX4_sendFrame (wsV RX4 246 RX4 yX4_countFrame wsX4_countFrame) := goodIn_app (goodIn_of _ (by decide +kernel)) ggX4_sendFrame_X4_countFrame
theorem dX4_sendFrame_0 : decode cX4_sendFrame 0 = .ok (.aload_n 0, 1) := by decide +kernel
theorem dX4_sendFrame_1 : decode cX4_sendFrame 1 = .ok (.getfield 40, 3) := by decide +kernel
theorem dX4_sendFrame_4 : decode cX4_sendFrame 4 = .ok (.aload_n 0, 1) := by decide +kernel
theorem dX4_sendFrame_5 : decode cX4_sendFrame 5 = .ok (.getfield 10, 3) := by decide +kernel
theorem dX4_sendFrame_8 : decode cX4_sendFrame 8 = .ok (.getfield 63, 3) := by decide +kernel
theorem dX4_sendFrame_11 : decode cX4_sendFrame 11 = .ok (.aload_n 0, 1) := by decide +kernel
theorem dX4_sendFrame_12 : decode cX4_sendFrame 12 = .ok (.getfield 10, 3) := by decide +kernel
theorem dX4_sendFrame_15 : decode cX4_sendFrame 15 = .ok (.getfield 170, 3) := by decide +kernel
theorem dX4_sendFrame_18 : decode cX4_sendFrame 18 = .ok (.invokevirtual 186, 3) := by decide +kernel
theorem dX4_sendFrame_21 : decode cX4_sendFrame 21 = .ok (.iload_n 1, 1) := by decide +kernel
theorem dX4_sendFrame_22 : decode cX4_sendFrame 22 = .ok (.ifCond .eq 8, 3) := by decide +kernel
theorem dX4_sendFrame_25 : decode cX4_sendFrame 25 = .ok (.bipush (-5), 2) := by decide +kernel
theorem dX4_sendFrame_27 : decode cX4_sendFrame 27 = .ok (.goto 26, 3) := by decide +kernel
theorem dX4_sendFrame_30 : decode cX4_sendFrame 30 = .ok (.aload_n 0, 1) := by decide +kernel
theorem dX4_sendFrame_31 : decode cX4_sendFrame 31 = .ok (.getfield 40, 3) := by decide +kernel
theorem dX4_sendFrame_34 : decode cX4_sendFrame 34 = .ok (.aload_n 0, 1) := by decide +kernel
theorem dX4_sendFrame_35 : decode cX4_sendFrame 35 = .ok (.getfield 10, 3) := by decide +kernel
theorem dX4_sendFrame_38 : decode cX4_sendFrame 38 = .ok (.getfield 111, 3) := by decide +kernel
theorem dX4_sendFrame_41 : decode cX4_sendFrame 41 = .ok (.iconst 1, 1) := by decide +kernel
theorem dX4_sendFrame_42 : decode cX4_sendFrame 42 = .ok (.iaload, 1) := by decide +kernel
theorem dX4_sendFrame_43 : decode cX4_sendFrame 43 = .ok (.aload_n 0, 1) := by decide +kernel
theorem dX4_sendFrame_44 : decode cX4_sendFrame 44 = .ok (.getfield 10, 3) := by decide +kernel
theorem dX4_sendFrame_47 : decode cX4_sendFrame 47 = .ok (.invokevirtual 193, 3) := by decide +kernel
theorem dX4_sendFrame_50 : decode cX4_sendFrame 50 = .ok (.invokevirtual 196, 3) := by decide +kernel
theorem dX4_sendFrame_53 : decode cX4_sendFrame 53 = .ok (.istore_n 3, 1) := by decide +kernel
theorem dX4_sendFrame_54 : decode cX4_sendFrame 54 = .ok (.iconst 0, 1) := by decide +kernel
theorem dX4_sendFrame_55 : decode cX4_sendFrame 55 = .ok (.istore 4, 2) := by decide +kernel
theorem dX4_sendFrame_57 : decode cX4_sendFrame 57 = .ok (.iload 4, 2) := by decide +kernel
theorem dX4_sendFrame_59 : decode cX4_sendFrame 59 = .ok (.bipush 9, 2) := by decide +kernel
theorem dX4_sendFrame_61 : decode cX4_sendFrame 61 = .ok (.if_icmp .ge 35, 3) := by decide +kernel
theorem dX4_sendFrame_64 : decode cX4_sendFrame 64 = .ok (.aload_n 0, 1) := by decide +kernel
theorem dX4_sendFrame_65 : decode cX4_sendFrame 65 = .ok (.getfield 51, 3) := by decide +kernel
theorem dX4_sendFrame_68 : decode cX4_sendFrame 68 = .ok (.iload 4, 2) := by decide +kernel
theorem dX4_sendFrame_70 : decode cX4_sendFrame 70 = .ok (.iload_n 1, 1) := by decide +kernel
theorem dX4_sendFrame_71 : decode cX4_sendFrame 71 = .ok (.ifCond .eq 8, 3) := by decide +kernel
theorem dX4_sendFrame_74 : decode cX4_sendFrame 74 = .ok (.bipush 25, 2) := by decide +kernel
theorem dX4_sendFrame_76 : decode cX4_sendFrame 76 = .ok (.goto 13, 3) := by decide +kernel
theorem dX4_sendFrame_79 : decode cX4_sendFrame 79 = .ok (.aload_n 0, 1) := by decide +kernel
theorem dX4_sendFrame_80 : decode cX4_sendFrame 80 = .ok (.getfield 40, 3) := by decide +kernel
theorem dX4_sendFrame_83 : decode cX4_sendFrame 83 = .ok (.iload 4, 2) := by decide +kernel
theorem dX4_sendFrame_85 : decode cX4_sendFrame 85 = .ok (.iload_n 3, 1) := by decide +kernel
theorem dX4_sendFrame_86 : decode cX4_sendFrame 86 = .ok (.invokevirtual 177, 3) := by decide +kernel
theorem dX4_sendFrame_89 : decode cX4_sendFrame 89 = .ok (.iastore, 1) := by decide +kernel
theorem dX4_sendFrame_90 : decode cX4_sendFrame 90 = .ok (.iinc 4 1, 3) := by decide +kernel
theorem dX4_sendFrame_93 : decode cX4_sendFrame 93 = .ok (.goto (-36), 3) := by decide +kernel
theorem dX4_sendFrame_96 : decode cX4_sendFrame 96 = .ok (.aload_n 0, 1) := by decide +kernel
theorem dX4_sendFrame_97 : decode cX4_sendFrame 97 = .ok (.aload_n 0, 1) := by decide +kernel
theorem dX4_sendFrame_98 : decode cX4_sendFrame 98 = .ok (.getfield 10, 3) := by decide +kernel
theorem dX4_sendFrame_101 : decode cX4_sendFrame 101 = .ok (.getfield 170, 3) := by decide +kernel
theorem dX4_sendFrame_104 : decode cX4_sendFrame 104 = .ok (.invokevirtual 235, 3) := by decide +kernel
theorem dX4_sendFrame_107 : decode cX4_sendFrame 107 = .ok (.iload_n 2, 1) := by decide +kernel
theorem dX4_sendFrame_108 : decode cX4_sendFrame 108 = .ok (.ifCond .ne 14, 3) := by decide +kernel
theorem dX4_sendFrame_111 : decode cX4_sendFrame 111 = .ok (.aload_n 0, 1) := by decide +kernel
theorem dX4_sendFrame_112 : decode cX4_sendFrame 112 = .ok (.aload_n 0, 1) := by decide +kernel
theorem dX4_sendFrame_113 : decode cX4_sendFrame 113 = .ok (.getfield 10, 3) := by decide +kernel
theorem dX4_sendFrame_116 : decode cX4_sendFrame 116 = .ok (.getfield 208, 3) := by decide +kernel
theorem dX4_sendFrame_119 : decode cX4_sendFrame 119 = .ok (.invokevirtual 235, 3) := by decide +kernel
theorem dX4_sendFrame_122 : decode cX4_sendFrame 122 = .ok (.aload_n 0, 1) := by decide +kernel
theorem dX4_sendFrame_123 : decode cX4_sendFrame 123 = .ok (.invokevirtual 239, 3) := by decide +kernel
theorem dX4_sendFrame_126 : decode cX4_sendFrame 126 = .ok (.istore 4, 2) := by decide +kernel
theorem dX4_sendFrame_128 : decode cX4_sendFrame 128 = .ok (.aload_n 0, 1) := by decide +kernel
theorem dX4_sendFrame_129 : decode cX4_sendFrame 129 = .ok (.iload 4, 2) := by decide +kernel
theorem dX4_sendFrame_131 : decode cX4_sendFrame 131 = .ok (.iload_n 3, 1) := by decide +kernel
theorem dX4_sendFrame_132 : decode cX4_sendFrame 132 = .ok (.iload_n 1, 1) := by decide +kernel
theorem dX4_sendFrame_133 : decode cX4_sendFrame 133 = .ok (.iload_n 2, 1) := by decide +kernel
theorem dX4_sendFrame_134 : decode cX4_sendFrame 134 = .ok (.invokevirtual 242, 3) := by decide +kernel
theorem dX4_sendFrame_137 : decode cX4_sendFrame 137 = .ok (.aload_n 0, 1) := by decide +kernel
theorem dX4_sendFrame_138 : decode cX4_sendFrame 138 = .ok (.iload 4, 2) := by decide +kernel
theorem dX4_sendFrame_140 : decode cX4_sendFrame 140 = .ok (.iload_n 1, 1) := by decide +kernel
theorem dX4_sendFrame_141 : decode cX4_sendFrame 141 = .ok (.iload_n 2, 1) := by decide +kernel
theorem dX4_sendFrame_142 : decode cX4_sendFrame 142 = .ok (.invokevirtual 246, 3) := by decide +kernel
theorem dX4_sendFrame_145 : decode cX4_sendFrame 145 = .ok (.iload 4, 2) := by decide +kernel
theorem dX4_sendFrame_147 : decode cX4_sendFrame 147 = .ok (.ireturn, 1) := by decide +kernel
set_option maxRecDepth 20000 in
theorem ggX4_applyCodes_X2_copyFrom : GoodIn wsX4_applyCodes wsX2_copyFrom := goodIn_r _ [7, 8, 9, 10, 11, 12, 54] (by decide +kernel) (by decide +kernel)
set_option maxRecDepth 20000 in
theorem gX4_applyCodes_X2_copyFrom_n250 : GoodIn wsX4_applyCodes (wsX2_copyFrom) := ggX4_applyCodes_X2_copyFrom
set_option maxRecDepth 20000 in
theorem ggX4_applyCodes_X2_takeTile : GoodIn wsX4_applyCodes wsX2_takeTile := goodIn_r _ [15, 16, 17, 18, 19, 20, 21, 22, 23, 24, 25, 26, 27, 28, 29, 30, 31, 32, 5, 33, 8, 34, 35, 36, 37, 38, 39, 54] (by decide +kernel) (by decide +kernel)
set_option maxRecDepth 20000 in
theorem gX4_applyCodes_X2_takeTile_n252 : GoodIn wsX4_applyCodes (wsX2_takeTile) := ggX4_applyCodes_X2_takeTile
theorem dX4_applyCodes_0 : decode cX4_applyCodes 0 = .ok (.aload_n 0, 1) := by decide +kernel
theorem dX4_applyCodes_1 : decode cX4_applyCodes 1 = .ok (.getfield 47, 3) := by decide +kernel
theorem dX4_applyCodes_4 : decode cX4_applyCodes 4 = .ok (.aload_n 1, 1) := by decide +kernel
theorem dX4_applyCodes_5 : decode cX4_applyCodes 5 = .ok (.invokevirtual 250, 3) := by decide +kernel
theorem dX4_applyCodes_8 : decode cX4_applyCodes 8 = .ok (.iconst 0, 1) := by decide +kernel
theorem dX4_applyCodes_9 : decode cX4_applyCodes 9 = .ok (.istore_n 2, 1) := by decide +kernel
theorem dX4_applyCodes_10 : decode cX4_applyCodes 10 = .ok (.iload_n 2, 1) := by decide +kernel
theorem dX4_applyCodes_11 : decode cX4_applyCodes 11 = .ok (.bipush 9, 2) := by decide +kernel
theorem dX4_applyCodes_13 : decode cX4_applyCodes 13 = .ok (.if_icmp .ge 52, 3) := by decide +kernel
theorem dX4_applyCodes_16 : decode cX4_applyCodes 16 = .ok (.aload_n 0, 1) := by decide +kernel
theorem dX4_applyCodes_17 : decode cX4_applyCodes 17 = .ok (.getfield 51, 3) := by decide +kernel
theorem dX4_applyCodes_20 : decode cX4_applyCodes 20 = .ok (.iload_n 2, 1) := by decide +kernel
theorem dX4_applyCodes_21 : decode cX4_applyCodes 21 = .ok (.iaload, 1) := by decide +kernel
theorem dX4_applyCodes_22 : decode cX4_applyCodes 22 = .ok (.istore_n 3, 1) := by decide +kernel
theorem dX4_applyCodes_23 : decode cX4_applyCodes 23 = .ok (.iload_n 3, 1) := by decide +kernel
theorem dX4_applyCodes_24 : decode cX4_applyCodes 24 = .ok (.bipush 25, 2) := by decide +kernel
theorem dX4_applyCodes_26 : decode cX4_applyCodes 26 = .ok (.if_icmp .ne 19, 3) := by decide +kernel
theorem dX4_applyCodes_29 : decode cX4_applyCodes 29 = .ok (.aload_n 1, 1) := by decide +kernel
theorem dX4_applyCodes_30 : decode cX4_applyCodes 30 = .ok (.aload_n 0, 1) := by decide +kernel
theorem dX4_applyCodes_31 : decode cX4_applyCodes 31 = .ok (.getfield 10, 3) := by decide +kernel
theorem dX4_applyCodes_34 : decode cX4_applyCodes 34 = .ok (.getfield 63, 3) := by decide +kernel
theorem dX4_applyCodes_37 : decode cX4_applyCodes 37 = .ok (.iload_n 2, 1) := by decide +kernel
theorem dX4_applyCodes_38 : decode cX4_applyCodes 38 = .ok (.iconst 0, 1) := by decide +kernel
theorem dX4_applyCodes_39 : decode cX4_applyCodes 39 = .ok (.invokevirtual 252, 3) := by decide +kernel
theorem dX4_applyCodes_42 : decode cX4_applyCodes 42 = .ok (.goto 17, 3) := by decide +kernel
theorem dX4_applyCodes_45 : decode cX4_applyCodes 45 = .ok (.iload_n 3, 1) := by decide +kernel
theorem dX4_applyCodes_46 : decode cX4_applyCodes 46 = .ok (.ifCond .eq 13, 3) := by decide +kernel
theorem dX4_applyCodes_49 : decode cX4_applyCodes 49 = .ok (.aload_n 1, 1) := by decide +kernel
theorem dX4_applyCodes_50 : decode cX4_applyCodes 50 = .ok (.aload_n 0, 1) := by decide +kernel
theorem dX4_applyCodes_51 : decode cX4_applyCodes 51 = .ok (.getfield 47, 3) := by decide +kernel
theorem dX4_applyCodes_54 : decode cX4_applyCodes 54 = .ok (.iload_n 2, 1) := by decide +kernel
theorem dX4_applyCodes_55 : decode cX4_applyCodes 55 = .ok (.iload_n 3, 1) := by decide +kernel
theorem dX4_applyCodes_56 : decode cX4_applyCodes 56 = .ok (.invokevirtual 252, 3) := by decide +kernel
theorem dX4_applyCodes_59 : decode cX4_applyCodes 59 = .ok (.iinc 2 1, 3) := by decide +kernel
theorem dX4_applyCodes_62 : decode cX4_applyCodes 62 = .ok (.goto (-52), 3) := by decide +kernel
theorem dX4_applyCodes_65 : decode cX4_applyCodes 65 = .ok (.return_, 1) := by decide +kernel
set_option maxRecDepth 20000 in
theorem ggX4_bitsOfCodes_X4_bitsOf : GoodIn wsX4_bitsOfCodes wsX4_bitsOf := goodIn_r _ [5] (by decide +kernel) (by decide +kernel)
set_option maxRecDepth 20000 in
theorem gX4_bitsOfCodes_X4_bitsOf : GoodIn wsX4_bitsOfCodes (va_wsS RX4 166 yX4_bitsOf wsX4_bitsOf) := goodIn_app (goodIn_of _ (by decide +kernel)) ggX4_bitsOfCodes_X4_bitsOf
theorem dX4_bitsOfCodes_0 : decode cX4_bitsOfCodes 0 = .ok (.iconst 0, 1) := by decide +kernel
theorem dX4_bitsOfCodes_1 : decode cX4_bitsOfCodes 1 = .ok (.istore_n 1, 1) := by decide +kernel
theorem dX4_bitsOfCodes_2 : decode cX4_bitsOfCodes 2 = .ok (.iconst 0, 1) := by decide +kernel
theorem dX4_bitsOfCodes_3 : decode cX4_bitsOfCodes 3 = .ok (.istore_n 2, 1) := by decide +kernel
theorem dX4_bitsOfCodes_4 : decode cX4_bitsOfCodes 4 = .ok (.iload_n 2, 1) := by decide +kernel
theorem dX4_bitsOfCodes_5 : decode cX4_bitsOfCodes 5 = .ok (.bipush 9, 2) := by decide +kernel
theorem dX4_bitsOfCodes_7 : decode cX4_bitsOfCodes 7 = .ok (.if_icmp .ge 21, 3) := by decide +kernel
theorem dX4_bitsOfCodes_10 : decode cX4_bitsOfCodes 10 = .ok (.iload_n 1, 1) := by decide +kernel
theorem dX4_bitsOfCodes_11 : decode cX4_bitsOfCodes 11 = .ok (.aload_n 0, 1) := by decide +kernel
theorem dX4_bitsOfCodes_12 : decode cX4_bitsOfCodes 12 = .ok (.getfield 51, 3) := by decide +kernel
theorem dX4_bitsOfCodes_15 : decode cX4_bitsOfCodes 15 = .ok (.iload_n 2, 1) := by decide +kernel
theorem dX4_bitsOfCodes_16 : decode cX4_bitsOfCodes 16 = .ok (.iaload, 1) := by decide +kernel
theorem dX4_bitsOfCodes_17 : decode cX4_bitsOfCodes 17 = .ok (.invokestatic 166, 3) := by decide +kernel
theorem dX4_bitsOfCodes_20 : decode cX4_bitsOfCodes 20 = .ok (.iadd, 1) := by decide +kernel
theorem dX4_bitsOfCodes_21 : decode cX4_bitsOfCodes 21 = .ok (.istore_n 1, 1) := by decide +kernel
theorem dX4_bitsOfCodes_22 : decode cX4_bitsOfCodes 22 = .ok (.iinc 2 1, 3) := by decide +kernel
theorem dX4_bitsOfCodes_25 : decode cX4_bitsOfCodes 25 = .ok (.goto (-21), 3) := by decide +kernel
theorem dX4_bitsOfCodes_28 : decode cX4_bitsOfCodes 28 = .ok (.iload_n 1, 1) := by decide +kernel
theorem dX4_bitsOfCodes_29 : decode cX4_bitsOfCodes 29 = .ok (.ireturn, 1) := by decide +kernel
set_option maxRecDepth 20000 in
theorem ggX4_tilesOfKind_X4_kindOf : GoodIn wsX4_tilesOfKind wsX4_kindOf := goodIn_r _ [5] (by decide +kernel) (by decide +kernel)
set_option maxRecDepth 20000 in
theorem gX4_tilesOfKind_X4_kindOf : GoodIn wsX4_tilesOfKind (va_wsS RX4 180 yX4_kindOf wsX4_kindOf) := goodIn_app (goodIn_of _ (by decide +kernel)) ggX4_tilesOfKind_X4_kindOf
theorem dX4_tilesOfKind_0 : decode cX4_tilesOfKind 0 = .ok (.iconst 0, 1) := by decide +kernel
theorem dX4_tilesOfKind_1 : decode cX4_tilesOfKind 1 = .ok (.istore_n 2, 1) := by decide +kernel
theorem dX4_tilesOfKind_2 : decode cX4_tilesOfKind 2 = .ok (.iconst 0, 1) := by decide +kernel
theorem dX4_tilesOfKind_3 : decode cX4_tilesOfKind 3 = .ok (.istore_n 3, 1) := by decide +kernel
theorem dX4_tilesOfKind_4 : decode cX4_tilesOfKind 4 = .ok (.iload_n 3, 1) := by decide +kernel
theorem dX4_tilesOfKind_5 : decode cX4_tilesOfKind 5 = .ok (.bipush 9, 2) := by decide +kernel
theorem dX4_tilesOfKind_7 : decode cX4_tilesOfKind 7 = .ok (.if_icmp .ge 30, 3) := by decide +kernel
theorem dX4_tilesOfKind_10 : decode cX4_tilesOfKind 10 = .ok (.iload_n 2, 1) := by decide +kernel
theorem dX4_tilesOfKind_11 : decode cX4_tilesOfKind 11 = .ok (.aload_n 0, 1) := by decide +kernel
theorem dX4_tilesOfKind_12 : decode cX4_tilesOfKind 12 = .ok (.getfield 51, 3) := by decide +kernel
theorem dX4_tilesOfKind_15 : decode cX4_tilesOfKind 15 = .ok (.iload_n 3, 1) := by decide +kernel
theorem dX4_tilesOfKind_16 : decode cX4_tilesOfKind 16 = .ok (.iaload, 1) := by decide +kernel
theorem dX4_tilesOfKind_17 : decode cX4_tilesOfKind 17 = .ok (.invokestatic 180, 3) := by decide +kernel
theorem dX4_tilesOfKind_20 : decode cX4_tilesOfKind 20 = .ok (.iload_n 1, 1) := by decide +kernel
theorem dX4_tilesOfKind_21 : decode cX4_tilesOfKind 21 = .ok (.if_icmp .ne 7, 3) := by decide +kernel
theorem dX4_tilesOfKind_24 : decode cX4_tilesOfKind 24 = .ok (.iconst 1, 1) := by decide +kernel
theorem dX4_tilesOfKind_25 : decode cX4_tilesOfKind 25 = .ok (.goto 4, 3) := by decide +kernel
theorem dX4_tilesOfKind_28 : decode cX4_tilesOfKind 28 = .ok (.iconst 0, 1) := by decide +kernel
theorem dX4_tilesOfKind_29 : decode cX4_tilesOfKind 29 = .ok (.iadd, 1) := by decide +kernel
theorem dX4_tilesOfKind_30 : decode cX4_tilesOfKind 30 = .ok (.istore_n 2, 1) := by decide +kernel
theorem dX4_tilesOfKind_31 : decode cX4_tilesOfKind 31 = .ok (.iinc 3 1, 3) := by decide +kernel
theorem dX4_tilesOfKind_34 : decode cX4_tilesOfKind 34 = .ok (.goto (-30), 3) := by decide +kernel
theorem dX4_tilesOfKind_37 : decode cX4_tilesOfKind 37 = .ok (.iload_n 2, 1) := by decide +kernel
theorem dX4_tilesOfKind_38 : decode cX4_tilesOfKind 38 = .ok (.ireturn, 1) := by decide +kernel
set_option maxRecDepth 20000 in
theorem ggX4_logFrame_X3_putInLog : GoodIn wsX4_logFrame wsX3_putInLog := goodIn_r _ [6, 7, 8, 9, 10, 4, 11, 12, 13, 14, 15, 16, 17, 18, 65, 66, 67, 68, 69] (by decide +kernel) (by decide +kernel)
set_option maxRecDepth 20000 in
theorem gX4_logFrame_X3_putInLog_n256 : GoodIn wsX4_logFrame (wsX3_putInLog) := ggX4_logFrame_X3_putInLog
set_option maxRecDepth 20000 in
theorem ggX4_logFrame_X4_tilesOfKind : GoodIn wsX4_logFrame wsX4_tilesOfKind := goodIn_r _ [22, 2, 23, 24, 17, 25, 56, 57, 58, 59, 60, 61, 62, 63, 64] (by decide +kernel) (by decide +kernel)
set_option maxRecDepth 20000 in
theorem gX4_logFrame_X4_tilesOfKind : GoodIn wsX4_logFrame (wsV RX4 260 RX4 yX4_tilesOfKind wsX4_tilesOfKind) := goodIn_app (goodIn_of _ (by decide +kernel)) ggX4_logFrame_X4_tilesOfKind
set_option maxRecDepth 20000 in
theorem ggX4_logFrame_X2_wholeDifference : GoodIn wsX4_logFrame wsX2_wholeDifference := goodIn_r _ [29, 30, 31, 32, 27, 33, 34, 35, 36, 37, 38, 17, 39, 40, 41, 42, 43, 44, 45, 16, 18, 46, 47, 48, 49, 50, 51, 52, 53, 54, 55, 70] (by decide +kernel) (by decide +kernel)
set_option maxRecDepth 20000 in
theorem gX4_logFrame_X2_wholeDifference_n149 : GoodIn wsX4_logFrame (wsX2_wholeDifference) := ggX4_logFrame_X2_wholeDifference
theorem dX4_logFrame_0 : decode cX4_logFrame 0 = .ok (.aload_n 0, 1) := by decide +kernel
theorem dX4_logFrame_1 : decode cX4_logFrame 1 = .ok (.getfield 10, 3) := by decide +kernel
theorem dX4_logFrame_4 : decode cX4_logFrame 4 = .ok (.iconst 0, 1) := by decide +kernel
theorem dX4_logFrame_5 : decode cX4_logFrame 5 = .ok (.iload_n 1, 1) := by decide +kernel
theorem dX4_logFrame_6 : decode cX4_logFrame 6 = .ok (.invokevirtual 256, 3) := by decide +kernel
theorem dX4_logFrame_9 : decode cX4_logFrame 9 = .ok (.aload_n 0, 1) := by decide +kernel
theorem dX4_logFrame_10 : decode cX4_logFrame 10 = .ok (.getfield 10, 3) := by decide +kernel
theorem dX4_logFrame_13 : decode cX4_logFrame 13 = .ok (.iconst 1, 1) := by decide +kernel
theorem dX4_logFrame_14 : decode cX4_logFrame 14 = .ok (.iload_n 2, 1) := by decide +kernel
theorem dX4_logFrame_15 : decode cX4_logFrame 15 = .ok (.invokevirtual 256, 3) := by decide +kernel
theorem dX4_logFrame_18 : decode cX4_logFrame 18 = .ok (.aload_n 0, 1) := by decide +kernel
theorem dX4_logFrame_19 : decode cX4_logFrame 19 = .ok (.getfield 10, 3) := by decide +kernel
theorem dX4_logFrame_22 : decode cX4_logFrame 22 = .ok (.iconst 2, 1) := by decide +kernel
theorem dX4_logFrame_23 : decode cX4_logFrame 23 = .ok (.iload_n 3, 1) := by decide +kernel
theorem dX4_logFrame_24 : decode cX4_logFrame 24 = .ok (.ifCond .eq 7, 3) := by decide +kernel
theorem dX4_logFrame_27 : decode cX4_logFrame 27 = .ok (.iconst 1, 1) := by decide +kernel
theorem dX4_logFrame_28 : decode cX4_logFrame 28 = .ok (.goto 4, 3) := by decide +kernel
theorem dX4_logFrame_31 : decode cX4_logFrame 31 = .ok (.iconst 0, 1) := by decide +kernel
theorem dX4_logFrame_32 : decode cX4_logFrame 32 = .ok (.invokevirtual 256, 3) := by decide +kernel
theorem dX4_logFrame_35 : decode cX4_logFrame 35 = .ok (.aload_n 0, 1) := by decide +kernel
theorem dX4_logFrame_36 : decode cX4_logFrame 36 = .ok (.getfield 10, 3) := by decide +kernel
theorem dX4_logFrame_39 : decode cX4_logFrame 39 = .ok (.iconst 3, 1) := by decide +kernel
theorem dX4_logFrame_40 : decode cX4_logFrame 40 = .ok (.iload 4, 2) := by decide +kernel
theorem dX4_logFrame_42 : decode cX4_logFrame 42 = .ok (.ifCond .eq 7, 3) := by decide +kernel
theorem dX4_logFrame_45 : decode cX4_logFrame 45 = .ok (.iconst 1, 1) := by decide +kernel
theorem dX4_logFrame_46 : decode cX4_logFrame 46 = .ok (.goto 4, 3) := by decide +kernel
theorem dX4_logFrame_49 : decode cX4_logFrame 49 = .ok (.iconst 0, 1) := by decide +kernel
theorem dX4_logFrame_50 : decode cX4_logFrame 50 = .ok (.invokevirtual 256, 3) := by decide +kernel
theorem dX4_logFrame_53 : decode cX4_logFrame 53 = .ok (.iconst 0, 1) := by decide +kernel
theorem dX4_logFrame_54 : decode cX4_logFrame 54 = .ok (.istore 5, 2) := by decide +kernel
theorem dX4_logFrame_56 : decode cX4_logFrame 56 = .ok (.iload 5, 2) := by decide +kernel
theorem dX4_logFrame_58 : decode cX4_logFrame 58 = .ok (.iconst 2, 1) := by decide +kernel
theorem dX4_logFrame_59 : decode cX4_logFrame 59 = .ok (.if_icmp .gt 26, 3) := by decide +kernel
theorem dX4_logFrame_62 : decode cX4_logFrame 62 = .ok (.aload_n 0, 1) := by decide +kernel
theorem dX4_logFrame_63 : decode cX4_logFrame 63 = .ok (.getfield 10, 3) := by decide +kernel
theorem dX4_logFrame_66 : decode cX4_logFrame 66 = .ok (.iconst 4, 1) := by decide +kernel
theorem dX4_logFrame_67 : decode cX4_logFrame 67 = .ok (.iload 5, 2) := by decide +kernel
theorem dX4_logFrame_69 : decode cX4_logFrame 69 = .ok (.iadd, 1) := by decide +kernel
theorem dX4_logFrame_70 : decode cX4_logFrame 70 = .ok (.aload_n 0, 1) := by decide +kernel
theorem dX4_logFrame_71 : decode cX4_logFrame 71 = .ok (.iload 5, 2) := by decide +kernel
theorem dX4_logFrame_73 : decode cX4_logFrame 73 = .ok (.invokevirtual 260, 3) := by decide +kernel
theorem dX4_logFrame_76 : decode cX4_logFrame 76 = .ok (.invokevirtual 256, 3) := by decide +kernel
theorem dX4_logFrame_79 : decode cX4_logFrame 79 = .ok (.iinc 5 1, 3) := by decide +kernel
theorem dX4_logFrame_82 : decode cX4_logFrame 82 = .ok (.goto (-26), 3) := by decide +kernel
theorem dX4_logFrame_85 : decode cX4_logFrame 85 = .ok (.aload_n 0, 1) := by decide +kernel
theorem dX4_logFrame_86 : decode cX4_logFrame 86 = .ok (.getfield 10, 3) := by decide +kernel
theorem dX4_logFrame_89 : decode cX4_logFrame 89 = .ok (.bipush 7, 2) := by decide +kernel
theorem dX4_logFrame_91 : decode cX4_logFrame 91 = .ok (.aload_n 0, 1) := by decide +kernel
theorem dX4_logFrame_92 : decode cX4_logFrame 92 = .ok (.getfield 10, 3) := by decide +kernel
theorem dX4_logFrame_95 : decode cX4_logFrame 95 = .ok (.getfield 63, 3) := by decide +kernel
theorem dX4_logFrame_98 : decode cX4_logFrame 98 = .ok (.aload_n 0, 1) := by decide +kernel
theorem dX4_logFrame_99 : decode cX4_logFrame 99 = .ok (.getfield 10, 3) := by decide +kernel
theorem dX4_logFrame_102 : decode cX4_logFrame 102 = .ok (.getfield 170, 3) := by decide +kernel
theorem dX4_logFrame_105 : decode cX4_logFrame 105 = .ok (.invokevirtual 149, 3) := by decide +kernel
theorem dX4_logFrame_108 : decode cX4_logFrame 108 = .ok (.invokevirtual 256, 3) := by decide +kernel
theorem dX4_logFrame_111 : decode cX4_logFrame 111 = .ok (.iconst 0, 1) := by decide +kernel
theorem dX4_logFrame_112 : decode cX4_logFrame 112 = .ok (.istore 5, 2) := by decide +kernel
theorem dX4_logFrame_114 : decode cX4_logFrame 114 = .ok (.iload 5, 2) := by decide +kernel
theorem dX4_logFrame_116 : decode cX4_logFrame 116 = .ok (.bipush 9, 2) := by decide +kernel
theorem dX4_logFrame_118 : decode cX4_logFrame 118 = .ok (.if_icmp .ge 28, 3) := by decide +kernel
theorem dX4_logFrame_121 : decode cX4_logFrame 121 = .ok (.aload_n 0, 1) := by decide +kernel
theorem dX4_logFrame_122 : decode cX4_logFrame 122 = .ok (.getfield 10, 3) := by decide +kernel
theorem dX4_logFrame_125 : decode cX4_logFrame 125 = .ok (.bipush 8, 2) := by decide +kernel
theorem dX4_logFrame_127 : decode cX4_logFrame 127 = .ok (.iload 5, 2) := by decide +kernel
theorem dX4_logFrame_129 : decode cX4_logFrame 129 = .ok (.iadd, 1) := by decide +kernel
theorem dX4_logFrame_130 : decode cX4_logFrame 130 = .ok (.aload_n 0, 1) := by decide +kernel
theorem dX4_logFrame_131 : decode cX4_logFrame 131 = .ok (.getfield 51, 3) := by decide +kernel
theorem dX4_logFrame_134 : decode cX4_logFrame 134 = .ok (.iload 5, 2) := by decide +kernel
theorem dX4_logFrame_136 : decode cX4_logFrame 136 = .ok (.iaload, 1) := by decide +kernel
theorem dX4_logFrame_137 : decode cX4_logFrame 137 = .ok (.invokevirtual 256, 3) := by decide +kernel
theorem dX4_logFrame_140 : decode cX4_logFrame 140 = .ok (.iinc 5 1, 3) := by decide +kernel
theorem dX4_logFrame_143 : decode cX4_logFrame 143 = .ok (.goto (-29), 3) := by decide +kernel
theorem dX4_logFrame_146 : decode cX4_logFrame 146 = .ok (.return_, 1) := by decide +kernel
set_option maxRecDepth 20000 in
theorem ggX4_countFrame_X3_spendable : GoodIn wsX4_countFrame wsX3_spendable := goodIn_r _ [9, 10, 20, 21, 22, 23, 24] (by decide +kernel) (by decide +kernel)
set_option maxRecDepth 20000 in
theorem gX4_countFrame_X3_spendable_n193 : GoodIn wsX4_countFrame (wsX3_spendable) := ggX4_countFrame_X3_spendable
theorem dX4_countFrame_0 : decode cX4_countFrame 0 = .ok (.aload_n 0, 1) := by decide +kernel
theorem dX4_countFrame_1 : decode cX4_countFrame 1 = .ok (.getfield 10, 3) := by decide +kernel
theorem dX4_countFrame_4 : decode cX4_countFrame 4 = .ok (.getfield 111, 3) := by decide +kernel
theorem dX4_countFrame_7 : decode cX4_countFrame 7 = .ok (.astore 4, 2) := by decide +kernel
theorem dX4_countFrame_9 : decode cX4_countFrame 9 = .ok (.aload 4, 2) := by decide +kernel
theorem dX4_countFrame_11 : decode cX4_countFrame 11 = .ok (.iconst 3, 1) := by decide +kernel
theorem dX4_countFrame_12 : decode cX4_countFrame 12 = .ok (.sipush 600, 3) := by decide +kernel
theorem dX4_countFrame_15 : decode cX4_countFrame 15 = .ok (.aload_n 0, 1) := by decide +kernel
theorem dX4_countFrame_16 : decode cX4_countFrame 16 = .ok (.getfield 10, 3) := by decide +kernel
theorem dX4_countFrame_19 : decode cX4_countFrame 19 = .ok (.invokevirtual 193, 3) := by decide +kernel
theorem dX4_countFrame_22 : decode cX4_countFrame 22 = .ok (.iload_n 1, 1) := by decide +kernel
theorem dX4_countFrame_23 : decode cX4_countFrame 23 = .ok (.isub, 1) := by decide +kernel
theorem dX4_countFrame_24 : decode cX4_countFrame 24 = .ok (.invokestatic 263, 3) := by decide +kernel
theorem dX4_countFrame_27 : decode cX4_countFrame 27 = .ok (.iastore, 1) := by decide +kernel
theorem dX4_countFrame_28 : decode cX4_countFrame 28 = .ok (.aload 4, 2) := by decide +kernel
theorem dX4_countFrame_30 : decode cX4_countFrame 30 = .ok (.iconst 4, 1) := by decide +kernel
theorem dX4_countFrame_31 : decode cX4_countFrame 31 = .ok (.dup2, 1) := by decide +kernel
theorem dX4_countFrame_32 : decode cX4_countFrame 32 = .ok (.iaload, 1) := by decide +kernel
theorem dX4_countFrame_33 : decode cX4_countFrame 33 = .ok (.iconst 1, 1) := by decide +kernel
theorem dX4_countFrame_34 : decode cX4_countFrame 34 = .ok (.iadd, 1) := by decide +kernel
theorem dX4_countFrame_35 : decode cX4_countFrame 35 = .ok (.iastore, 1) := by decide +kernel
theorem dX4_countFrame_36 : decode cX4_countFrame 36 = .ok (.aload 4, 2) := by decide +kernel
theorem dX4_countFrame_38 : decode cX4_countFrame 38 = .ok (.bipush 7, 2) := by decide +kernel
theorem dX4_countFrame_40 : decode cX4_countFrame 40 = .ok (.dup2, 1) := by decide +kernel
theorem dX4_countFrame_41 : decode cX4_countFrame 41 = .ok (.iaload, 1) := by decide +kernel
theorem dX4_countFrame_42 : decode cX4_countFrame 42 = .ok (.iload_n 1, 1) := by decide +kernel
theorem dX4_countFrame_43 : decode cX4_countFrame 43 = .ok (.iadd, 1) := by decide +kernel
theorem dX4_countFrame_44 : decode cX4_countFrame 44 = .ok (.iastore, 1) := by decide +kernel
theorem dX4_countFrame_45 : decode cX4_countFrame 45 = .ok (.aload 4, 2) := by decide +kernel
theorem dX4_countFrame_47 : decode cX4_countFrame 47 = .ok (.bipush 8, 2) := by decide +kernel
theorem dX4_countFrame_49 : decode cX4_countFrame 49 = .ok (.dup2, 1) := by decide +kernel
theorem dX4_countFrame_50 : decode cX4_countFrame 50 = .ok (.iaload, 1) := by decide +kernel
theorem dX4_countFrame_51 : decode cX4_countFrame 51 = .ok (.iconst 1, 1) := by decide +kernel
theorem dX4_countFrame_52 : decode cX4_countFrame 52 = .ok (.iadd, 1) := by decide +kernel
theorem dX4_countFrame_53 : decode cX4_countFrame 53 = .ok (.iastore, 1) := by decide +kernel
theorem dX4_countFrame_54 : decode cX4_countFrame 54 = .ok (.iload_n 2, 1) := by decide +kernel
theorem dX4_countFrame_55 : decode cX4_countFrame 55 = .ok (.ifCond .eq 17, 3) := by decide +kernel
theorem dX4_countFrame_58 : decode cX4_countFrame 58 = .ok (.aload 4, 2) := by decide +kernel
theorem dX4_countFrame_60 : decode cX4_countFrame 60 = .ok (.iconst 5, 1) := by decide +kernel
theorem dX4_countFrame_61 : decode cX4_countFrame 61 = .ok (.dup2, 1) := by decide +kernel
theorem dX4_countFrame_62 : decode cX4_countFrame 62 = .ok (.iaload, 1) := by decide +kernel
theorem dX4_countFrame_63 : decode cX4_countFrame 63 = .ok (.iconst 1, 1) := by decide +kernel
theorem dX4_countFrame_64 : decode cX4_countFrame 64 = .ok (.iadd, 1) := by decide +kernel
theorem dX4_countFrame_65 : decode cX4_countFrame 65 = .ok (.iastore, 1) := by decide +kernel
theorem dX4_countFrame_66 : decode cX4_countFrame 66 = .ok (.aload 4, 2) := by decide +kernel
theorem dX4_countFrame_68 : decode cX4_countFrame 68 = .ok (.bipush 8, 2) := by decide +kernel
theorem dX4_countFrame_70 : decode cX4_countFrame 70 = .ok (.iconst 0, 1) := by decide +kernel
theorem dX4_countFrame_71 : decode cX4_countFrame 71 = .ok (.iastore, 1) := by decide +kernel
theorem dX4_countFrame_72 : decode cX4_countFrame 72 = .ok (.iload_n 3, 1) := by decide +kernel
theorem dX4_countFrame_73 : decode cX4_countFrame 73 = .ok (.ifCond .eq 12, 3) := by decide +kernel
theorem dX4_countFrame_76 : decode cX4_countFrame 76 = .ok (.aload 4, 2) := by decide +kernel
theorem dX4_countFrame_78 : decode cX4_countFrame 78 = .ok (.bipush 6, 2) := by decide +kernel
theorem dX4_countFrame_80 : decode cX4_countFrame 80 = .ok (.dup2, 1) := by decide +kernel
theorem dX4_countFrame_81 : decode cX4_countFrame 81 = .ok (.iaload, 1) := by decide +kernel
theorem dX4_countFrame_82 : decode cX4_countFrame 82 = .ok (.iconst 1, 1) := by decide +kernel
theorem dX4_countFrame_83 : decode cX4_countFrame 83 = .ok (.iadd, 1) := by decide +kernel
theorem dX4_countFrame_84 : decode cX4_countFrame 84 = .ok (.iastore, 1) := by decide +kernel
theorem dX4_countFrame_85 : decode cX4_countFrame 85 = .ok (.return_, 1) := by decide +kernel
set_option maxRecDepth 20000 in
theorem ggX4_record_J9_floorMod_7cf53 : GoodIn wsX4_record wsJ9_floorMod_7cf53 := goodIn_r _ [15] (by decide +kernel) (by decide +kernel)
set_option maxRecDepth 20000 in
theorem gX4_record_J9_floorMod_7cf53 : GoodIn wsX4_record (va_wsS RX4 132 yJ9_floorMod_7cf53 wsJ9_floorMod_7cf53) := goodIn_app (goodIn_of _ (by decide +kernel)) ggX4_record_J9_floorMod_7cf53
set_option maxRecDepth 20000 in
theorem ggX4_record_X3_init : GoodIn wsX4_record wsX3_init := goodIn_r _ [17, 18, 19, 20, 21, 22, 23, 24, 25, 26, 27, 28, 29, 30, 31, 32, 33, 59, 54, 55, 56, 57, 58] (by decide +kernel) (by decide +kernel)
set_option maxRecDepth 20000 in
theorem gX4_record_X3_init_n9 : GoodIn wsX4_record (wsX3_init) := ggX4_record_X3_init
set_option maxRecDepth 20000 in
theorem ggX4_record_X3_copyFrom : GoodIn wsX4_record wsX3_copyFrom := goodIn_r _ [36, 24, 25, 26, 28, 37, 38, 39, 40, 29, 41, 23, 42, 43, 33, 44, 54, 55, 56, 57, 58, 59] (by decide +kernel) (by decide +kernel)
set_option maxRecDepth 20000 in
theorem gX4_record_X3_copyFrom_n137 : GoodIn wsX4_record (wsX3_copyFrom) := ggX4_record_X3_copyFrom
theorem dX4_record_0 : decode cX4_record 0 = .ok (.aload_n 0, 1) := by decide +kernel
theorem dX4_record_1 : decode cX4_record 1 = .ok (.getfield 20, 3) := by decide +kernel
theorem dX4_record_4 : decode cX4_record 4 = .ok (.iconst 4, 1) := by decide +kernel
theorem dX4_record_5 : decode cX4_record 5 = .ok (.invokestatic 132, 3) := by decide +kernel
theorem dX4_record_8 : decode cX4_record 8 = .ok (.istore_n 1, 1) := by decide +kernel
theorem dX4_record_9 : decode cX4_record 9 = .ok (.aload_n 0, 1) := by decide +kernel
theorem dX4_record_10 : decode cX4_record 10 = .ok (.getfield 16, 3) := by decide +kernel
theorem dX4_record_13 : decode cX4_record 13 = .ok (.iload_n 1, 1) := by decide +kernel
theorem dX4_record_14 : decode cX4_record 14 = .ok (.aaload, 1) := by decide +kernel
theorem dX4_record_15 : decode cX4_record 15 = .ok (.astore_n 2, 1) := by decide +kernel
theorem dX4_record_16 : decode cX4_record 16 = .ok (.aload_n 2, 1) := by decide +kernel
theorem dX4_record_17 : decode cX4_record 17 = .ok (.ifnonnull 18, 3) := by decide +kernel
theorem dX4_record_20 : decode cX4_record 20 = .ok (.new 7, 3) := by decide +kernel
theorem dX4_record_23 : decode cX4_record 23 = .ok (.dup, 1) := by decide +kernel
theorem dX4_record_24 : decode cX4_record 24 = .ok (.invokespecial 9, 3) := by decide +kernel
theorem dX4_record_27 : decode cX4_record 27 = .ok (.astore_n 2, 1) := by decide +kernel
theorem dX4_record_28 : decode cX4_record 28 = .ok (.aload_n 0, 1) := by decide +kernel
theorem dX4_record_29 : decode cX4_record 29 = .ok (.getfield 16, 3) := by decide +kernel
theorem dX4_record_32 : decode cX4_record 32 = .ok (.iload_n 1, 1) := by decide +kernel
theorem dX4_record_33 : decode cX4_record 33 = .ok (.aload_n 2, 1) := by decide +kernel
theorem dX4_record_34 : decode cX4_record 34 = .ok (.aastore, 1) := by decide +kernel
theorem dX4_record_35 : decode cX4_record 35 = .ok (.aload_n 2, 1) := by decide +kernel
theorem dX4_record_36 : decode cX4_record 36 = .ok (.aload_n 0, 1) := by decide +kernel
theorem dX4_record_37 : decode cX4_record 37 = .ok (.getfield 10, 3) := by decide +kernel
theorem dX4_record_40 : decode cX4_record 40 = .ok (.invokevirtual 137, 3) := by decide +kernel
theorem dX4_record_43 : decode cX4_record 43 = .ok (.aload_n 0, 1) := by decide +kernel
theorem dX4_record_44 : decode cX4_record 44 = .ok (.iload_n 1, 1) := by decide +kernel
theorem dX4_record_45 : decode cX4_record 45 = .ok (.iconst 1, 1) := by decide +kernel
theorem dX4_record_46 : decode cX4_record 46 = .ok (.iadd, 1) := by decide +kernel
theorem dX4_record_47 : decode cX4_record 47 = .ok (.iconst 4, 1) := by decide +kernel
theorem dX4_record_48 : decode cX4_record 48 = .ok (.invokestatic 132, 3) := by decide +kernel
theorem dX4_record_51 : decode cX4_record 51 = .ok (.putfield 20, 3) := by decide +kernel
theorem dX4_record_54 : decode cX4_record 54 = .ok (.aload_n 0, 1) := by decide +kernel
theorem dX4_record_55 : decode cX4_record 55 = .ok (.iconst 4, 1) := by decide +kernel
theorem dX4_record_56 : decode cX4_record 56 = .ok (.aload_n 0, 1) := by decide +kernel
theorem dX4_record_57 : decode cX4_record 57 = .ok (.getfield 24, 3) := by decide +kernel
theorem dX4_record_60 : decode cX4_record 60 = .ok (.iconst 1, 1) := by decide +kernel
theorem dX4_record_61 : decode cX4_record 61 = .ok (.iadd, 1) := by decide +kernel
theorem dX4_record_62 : decode cX4_record 62 = .ok (.invokestatic 263, 3) := by decide +kernel
theorem dX4_record_65 : decode cX4_record 65 = .ok (.putfield 24, 3) := by decide +kernel
theorem dX4_record_68 : decode cX4_record 68 = .ok (.return_, 1) := by decide +kernel
set_option maxRecDepth 20000 in
theorem ggX5_init_X5_goes : GoodIn wsX5_init wsX5_goes := goodIn_r _ [19, 8, 9, 20, 21, 22, 23, 24, 25, 26, 27, 28, 29, 30, 31, 32, 33] (by decide +kernel) (by decide +kernel)
set_option maxRecDepth 20000 in
theorem gX5_init_X5_goes : GoodIn wsX5_init (wsV RX5 38 RX5 yX5_goes wsX5_goes) := goodIn_app (goodIn_of _ (by decide +kernel)) ggX5_init_X5_goes

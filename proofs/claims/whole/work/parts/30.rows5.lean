theorem dX5_init_0 : decode cX5_init 0 = .ok (.aload_n 0, 1) := by decide +kernel
theorem dX5_init_1 : decode cX5_init 1 = .ok (.invokespecial 1, 3) := by decide +kernel
theorem dX5_init_4 : decode cX5_init 4 = .ok (.aload_n 0, 1) := by decide +kernel
theorem dX5_init_5 : decode cX5_init 5 = .ok (.sipush 578, 3) := by decide +kernel
theorem dX5_init_8 : decode cX5_init 8 = .ok (.newarray .int, 2) := by decide +kernel
theorem dX5_init_10 : decode cX5_init 10 = .ok (.putfield 7, 3) := by decide +kernel
theorem dX5_init_13 : decode cX5_init 13 = .ok (.aload_n 0, 1) := by decide +kernel
theorem dX5_init_14 : decode cX5_init 14 = .ok (.sipush 2312, 3) := by decide +kernel
theorem dX5_init_17 : decode cX5_init 17 = .ok (.newarray .int, 2) := by decide +kernel
theorem dX5_init_19 : decode cX5_init 19 = .ok (.putfield 13, 3) := by decide +kernel
theorem dX5_init_22 : decode cX5_init 22 = .ok (.aload_n 0, 1) := by decide +kernel
theorem dX5_init_23 : decode cX5_init 23 = .ok (.sipush 578, 3) := by decide +kernel
theorem dX5_init_26 : decode cX5_init 26 = .ok (.newarray .int, 2) := by decide +kernel
theorem dX5_init_28 : decode cX5_init 28 = .ok (.putfield 16, 3) := by decide +kernel
theorem dX5_init_31 : decode cX5_init 31 = .ok (.aload_n 0, 1) := by decide +kernel
theorem dX5_init_32 : decode cX5_init 32 = .ok (.bipush 25, 2) := by decide +kernel
theorem dX5_init_34 : decode cX5_init 34 = .ok (.newarray .int, 2) := by decide +kernel
theorem dX5_init_36 : decode cX5_init 36 = .ok (.putfield 19, 3) := by decide +kernel
theorem dX5_init_39 : decode cX5_init 39 = .ok (.aload_n 0, 1) := by decide +kernel
theorem dX5_init_40 : decode cX5_init 40 = .ok (.bipush 25, 2) := by decide +kernel
theorem dX5_init_42 : decode cX5_init 42 = .ok (.newarray .int, 2) := by decide +kernel
theorem dX5_init_44 : decode cX5_init 44 = .ok (.putfield 22, 3) := by decide +kernel
theorem dX5_init_47 : decode cX5_init 47 = .ok (.aload_n 0, 1) := by decide +kernel
theorem dX5_init_48 : decode cX5_init 48 = .ok (.sipush 144, 3) := by decide +kernel
theorem dX5_init_51 : decode cX5_init 51 = .ok (.newarray .int, 2) := by decide +kernel
theorem dX5_init_53 : decode cX5_init 53 = .ok (.putfield 25, 3) := by decide +kernel
theorem dX5_init_56 : decode cX5_init 56 = .ok (.aload_n 0, 1) := by decide +kernel
theorem dX5_init_57 : decode cX5_init 57 = .ok (.bipush 9, 2) := by decide +kernel
theorem dX5_init_59 : decode cX5_init 59 = .ok (.newarray .int, 2) := by decide +kernel
theorem dX5_init_61 : decode cX5_init 61 = .ok (.putfield 28, 3) := by decide +kernel
theorem dX5_init_64 : decode cX5_init 64 = .ok (.aload_n 0, 1) := by decide +kernel
theorem dX5_init_65 : decode cX5_init 65 = .ok (.bipush 60, 2) := by decide +kernel
theorem dX5_init_67 : decode cX5_init 67 = .ok (.newarray .char, 2) := by decide +kernel
theorem dX5_init_69 : decode cX5_init 69 = .ok (.putfield 31, 3) := by decide +kernel
theorem dX5_init_72 : decode cX5_init 72 = .ok (.aload_n 0, 1) := by decide +kernel
theorem dX5_init_73 : decode cX5_init 73 = .ok (.bipush 6, 2) := by decide +kernel
theorem dX5_init_75 : decode cX5_init 75 = .ok (.newarray .int, 2) := by decide +kernel
theorem dX5_init_77 : decode cX5_init 77 = .ok (.putfield 35, 3) := by decide +kernel
theorem dX5_init_80 : decode cX5_init 80 = .ok (.aload_n 0, 1) := by decide +kernel
theorem dX5_init_81 : decode cX5_init 81 = .ok (.getfield 7, 3) := by decide +kernel
theorem dX5_init_84 : decode cX5_init 84 = .ok (.sipush 432, 3) := by decide +kernel
theorem dX5_init_87 : decode cX5_init 87 = .ok (.sipush 200, 3) := by decide +kernel
theorem dX5_init_90 : decode cX5_init 90 = .ok (.iastore, 1) := by decide +kernel
theorem dX5_init_91 : decode cX5_init 91 = .ok (.iconst 0, 1) := by decide +kernel
theorem dX5_init_92 : decode cX5_init 92 = .ok (.istore_n 1, 1) := by decide +kernel
theorem dX5_init_93 : decode cX5_init 93 = .ok (.iconst 1, 1) := by decide +kernel
theorem dX5_init_94 : decode cX5_init 94 = .ok (.istore_n 2, 1) := by decide +kernel
theorem dX5_init_95 : decode cX5_init 95 = .ok (.iload_n 1, 1) := by decide +kernel
theorem dX5_init_96 : decode cX5_init 96 = .ok (.bipush 24, 2) := by decide +kernel
theorem dX5_init_98 : decode cX5_init 98 = .ok (.if_icmp .ge 49, 3) := by decide +kernel
theorem dX5_init_101 : decode cX5_init 101 = .ok (.aload_n 0, 1) := by decide +kernel
theorem dX5_init_102 : decode cX5_init 102 = .ok (.iload_n 1, 1) := by decide +kernel
theorem dX5_init_103 : decode cX5_init 103 = .ok (.iconst 1, 1) := by decide +kernel
theorem dX5_init_104 : decode cX5_init 104 = .ok (.iconst 0, 1) := by decide +kernel
theorem dX5_init_105 : decode cX5_init 105 = .ok (.iload_n 2, 1) := by decide +kernel
theorem dX5_init_106 : decode cX5_init 106 = .ok (.invokevirtual 38, 3) := by decide +kernel
theorem dX5_init_109 : decode cX5_init 109 = .ok (.istore_n 1, 1) := by decide +kernel
theorem dX5_init_110 : decode cX5_init 110 = .ok (.aload_n 0, 1) := by decide +kernel
theorem dX5_init_111 : decode cX5_init 111 = .ok (.iload_n 1, 1) := by decide +kernel
theorem dX5_init_112 : decode cX5_init 112 = .ok (.iconst 0, 1) := by decide +kernel
theorem dX5_init_113 : decode cX5_init 113 = .ok (.iconst 1, 1) := by decide +kernel
theorem dX5_init_114 : decode cX5_init 114 = .ok (.iload_n 2, 1) := by decide +kernel
theorem dX5_init_115 : decode cX5_init 115 = .ok (.invokevirtual 38, 3) := by decide +kernel
theorem dX5_init_118 : decode cX5_init 118 = .ok (.istore_n 1, 1) := by decide +kernel
theorem dX5_init_119 : decode cX5_init 119 = .ok (.aload_n 0, 1) := by decide +kernel
theorem dX5_init_120 : decode cX5_init 120 = .ok (.iload_n 1, 1) := by decide +kernel
theorem dX5_init_121 : decode cX5_init 121 = .ok (.iconst (-1), 1) := by decide +kernel
theorem dX5_init_122 : decode cX5_init 122 = .ok (.iconst 0, 1) := by decide +kernel
theorem dX5_init_123 : decode cX5_init 123 = .ok (.iload_n 2, 1) := by decide +kernel
theorem dX5_init_124 : decode cX5_init 124 = .ok (.iconst 1, 1) := by decide +kernel
theorem dX5_init_125 : decode cX5_init 125 = .ok (.iadd, 1) := by decide +kernel
theorem dX5_init_126 : decode cX5_init 126 = .ok (.invokevirtual 38, 3) := by decide +kernel
theorem dX5_init_129 : decode cX5_init 129 = .ok (.istore_n 1, 1) := by decide +kernel
theorem dX5_init_130 : decode cX5_init 130 = .ok (.aload_n 0, 1) := by decide +kernel
theorem dX5_init_131 : decode cX5_init 131 = .ok (.iload_n 1, 1) := by decide +kernel
theorem dX5_init_132 : decode cX5_init 132 = .ok (.iconst 0, 1) := by decide +kernel
theorem dX5_init_133 : decode cX5_init 133 = .ok (.iconst (-1), 1) := by decide +kernel
theorem dX5_init_134 : decode cX5_init 134 = .ok (.iload_n 2, 1) := by decide +kernel
theorem dX5_init_135 : decode cX5_init 135 = .ok (.iconst 1, 1) := by decide +kernel
theorem dX5_init_136 : decode cX5_init 136 = .ok (.iadd, 1) := by decide +kernel
theorem dX5_init_137 : decode cX5_init 137 = .ok (.invokevirtual 38, 3) := by decide +kernel
theorem dX5_init_140 : decode cX5_init 140 = .ok (.istore_n 1, 1) := by decide +kernel
theorem dX5_init_141 : decode cX5_init 141 = .ok (.iinc 2 2, 3) := by decide +kernel
theorem dX5_init_144 : decode cX5_init 144 = .ok (.goto (-49), 3) := by decide +kernel
theorem dX5_init_147 : decode cX5_init 147 = .ok (.return_, 1) := by decide +kernel
theorem dX5_goes_0 : decode cX5_goes 0 = .ok (.iload_n 1, 1) := by decide +kernel
theorem dX5_goes_1 : decode cX5_goes 1 = .ok (.istore 5, 2) := by decide +kernel
theorem dX5_goes_3 : decode cX5_goes 3 = .ok (.iconst 0, 1) := by decide +kernel
theorem dX5_goes_4 : decode cX5_goes 4 = .ok (.istore 6, 2) := by decide +kernel
theorem dX5_goes_6 : decode cX5_goes 6 = .ok (.iload 6, 2) := by decide +kernel
theorem dX5_goes_8 : decode cX5_goes 8 = .ok (.iload 4, 2) := by decide +kernel
theorem dX5_goes_10 : decode cX5_goes 10 = .ok (.if_icmp .ge 55, 3) := by decide +kernel
theorem dX5_goes_13 : decode cX5_goes 13 = .ok (.iload 5, 2) := by decide +kernel
theorem dX5_goes_15 : decode cX5_goes 15 = .ok (.bipush 24, 2) := by decide +kernel
theorem dX5_goes_17 : decode cX5_goes 17 = .ok (.if_icmp .ge 48, 3) := by decide +kernel
theorem dX5_goes_20 : decode cX5_goes 20 = .ok (.aload_n 0, 1) := by decide +kernel
theorem dX5_goes_21 : decode cX5_goes 21 = .ok (.getfield 19, 3) := by decide +kernel
theorem dX5_goes_24 : decode cX5_goes 24 = .ok (.iload 5, 2) := by decide +kernel
theorem dX5_goes_26 : decode cX5_goes 26 = .ok (.iconst 1, 1) := by decide +kernel
theorem dX5_goes_27 : decode cX5_goes 27 = .ok (.iadd, 1) := by decide +kernel
theorem dX5_goes_28 : decode cX5_goes 28 = .ok (.aload_n 0, 1) := by decide +kernel
theorem dX5_goes_29 : decode cX5_goes 29 = .ok (.getfield 19, 3) := by decide +kernel
theorem dX5_goes_32 : decode cX5_goes 32 = .ok (.iload 5, 2) := by decide +kernel
theorem dX5_goes_34 : decode cX5_goes 34 = .ok (.iaload, 1) := by decide +kernel
theorem dX5_goes_35 : decode cX5_goes 35 = .ok (.iload_n 2, 1) := by decide +kernel
theorem dX5_goes_36 : decode cX5_goes 36 = .ok (.iadd, 1) := by decide +kernel
theorem dX5_goes_37 : decode cX5_goes 37 = .ok (.iastore, 1) := by decide +kernel
theorem dX5_goes_38 : decode cX5_goes 38 = .ok (.aload_n 0, 1) := by decide +kernel
theorem dX5_goes_39 : decode cX5_goes 39 = .ok (.getfield 22, 3) := by decide +kernel
theorem dX5_goes_42 : decode cX5_goes 42 = .ok (.iload 5, 2) := by decide +kernel
theorem dX5_goes_44 : decode cX5_goes 44 = .ok (.iconst 1, 1) := by decide +kernel
theorem dX5_goes_45 : decode cX5_goes 45 = .ok (.iadd, 1) := by decide +kernel
theorem dX5_goes_46 : decode cX5_goes 46 = .ok (.aload_n 0, 1) := by decide +kernel
theorem dX5_goes_47 : decode cX5_goes 47 = .ok (.getfield 22, 3) := by decide +kernel
theorem dX5_goes_50 : decode cX5_goes 50 = .ok (.iload 5, 2) := by decide +kernel
theorem dX5_goes_52 : decode cX5_goes 52 = .ok (.iaload, 1) := by decide +kernel
theorem dX5_goes_53 : decode cX5_goes 53 = .ok (.iload_n 3, 1) := by decide +kernel
theorem dX5_goes_54 : decode cX5_goes 54 = .ok (.iadd, 1) := by decide +kernel
theorem dX5_goes_55 : decode cX5_goes 55 = .ok (.iastore, 1) := by decide +kernel
theorem dX5_goes_56 : decode cX5_goes 56 = .ok (.iinc 5 1, 3) := by decide +kernel
theorem dX5_goes_59 : decode cX5_goes 59 = .ok (.iinc 6 1, 3) := by decide +kernel
theorem dX5_goes_62 : decode cX5_goes 62 = .ok (.goto (-56), 3) := by decide +kernel
theorem dX5_goes_65 : decode cX5_goes 65 = .ok (.iload 5, 2) := by decide +kernel
theorem dX5_goes_67 : decode cX5_goes 67 = .ok (.ireturn, 1) := by decide +kernel
theorem dX5_in_0 : decode cX5_in 0 = .ok (.iload_n 0, 1) := by decide +kernel
theorem dX5_in_1 : decode cX5_in 1 = .ok (.iload_n 1, 1) := by decide +kernel
theorem dX5_in_2 : decode cX5_in 2 = .ok (.if_icmp .lt 12, 3) := by decide +kernel
theorem dX5_in_5 : decode cX5_in 5 = .ok (.iload_n 0, 1) := by decide +kernel
theorem dX5_in_6 : decode cX5_in 6 = .ok (.iload_n 2, 1) := by decide +kernel
theorem dX5_in_7 : decode cX5_in 7 = .ok (.if_icmp .gt 7, 3) := by decide +kernel
theorem dX5_in_10 : decode cX5_in 10 = .ok (.iconst 1, 1) := by decide +kernel
theorem dX5_in_11 : decode cX5_in 11 = .ok (.goto 4, 3) := by decide +kernel
theorem dX5_in_14 : decode cX5_in 14 = .ok (.iconst 0, 1) := by decide +kernel
theorem dX5_in_15 : decode cX5_in 15 = .ok (.ireturn, 1) := by decide +kernel
set_option maxRecDepth 20000 in
theorem ggX5_noPoint_X5_in : GoodIn wsX5_noPoint wsX5_in := goodIn_r _ [4] (by decide +kernel) (by decide +kernel)
set_option maxRecDepth 20000 in
theorem gX5_noPoint_X5_in : GoodIn wsX5_noPoint (va_wsS RX5 42 yX5_in wsX5_in) := goodIn_app (goodIn_of _ (by decide +kernel)) ggX5_noPoint_X5_in
theorem dX5_noPoint_0 : decode cX5_noPoint 0 = .ok (.iload_n 0, 1) := by decide +kernel
theorem dX5_noPoint_1 : decode cX5_noPoint 1 = .ok (.iconst 0, 1) := by decide +kernel
theorem dX5_noPoint_2 : decode cX5_noPoint 2 = .ok (.bipush 11, 2) := by decide +kernel
theorem dX5_noPoint_4 : decode cX5_noPoint 4 = .ok (.invokestatic 42, 3) := by decide +kernel
theorem dX5_noPoint_7 : decode cX5_noPoint 7 = .ok (.ifCond .eq 13, 3) := by decide +kernel
theorem dX5_noPoint_10 : decode cX5_noPoint 10 = .ok (.iload_n 1, 1) := by decide +kernel
theorem dX5_noPoint_11 : decode cX5_noPoint 11 = .ok (.iconst 0, 1) := by decide +kernel
theorem dX5_noPoint_12 : decode cX5_noPoint 12 = .ok (.bipush 11, 2) := by decide +kernel
theorem dX5_noPoint_14 : decode cX5_noPoint 14 = .ok (.invokestatic 42, 3) := by decide +kernel
theorem dX5_noPoint_17 : decode cX5_noPoint 17 = .ok (.ifCond .ne 7, 3) := by decide +kernel
theorem dX5_noPoint_20 : decode cX5_noPoint 20 = .ok (.iconst 1, 1) := by decide +kernel
theorem dX5_noPoint_21 : decode cX5_noPoint 21 = .ok (.goto 4, 3) := by decide +kernel
theorem dX5_noPoint_24 : decode cX5_noPoint 24 = .ok (.iconst 0, 1) := by decide +kernel
theorem dX5_noPoint_25 : decode cX5_noPoint 25 = .ok (.ireturn, 1) := by decide +kernel
theorem dX5_cell_0 : decode cX5_cell 0 = .ok (.sipush 144, 3) := by decide +kernel
theorem dX5_cell_3 : decode cX5_cell 3 = .ok (.iload_n 0, 1) := by decide +kernel
theorem dX5_cell_4 : decode cX5_cell 4 = .ok (.imul, 1) := by decide +kernel
theorem dX5_cell_5 : decode cX5_cell 5 = .ok (.bipush 12, 2) := by decide +kernel
theorem dX5_cell_7 : decode cX5_cell 7 = .ok (.iload_n 2, 1) := by decide +kernel
theorem dX5_cell_8 : decode cX5_cell 8 = .ok (.imul, 1) := by decide +kernel
theorem dX5_cell_9 : decode cX5_cell 9 = .ok (.iadd, 1) := by decide +kernel
theorem dX5_cell_10 : decode cX5_cell 10 = .ok (.iload_n 1, 1) := by decide +kernel
theorem dX5_cell_11 : decode cX5_cell 11 = .ok (.iadd, 1) := by decide +kernel
theorem dX5_cell_12 : decode cX5_cell 12 = .ok (.ireturn, 1) := by decide +kernel
theorem dX5_columnOf_0 : decode cX5_columnOf 0 = .ok (.iconst 4, 1) := by decide +kernel
theorem dX5_columnOf_1 : decode cX5_columnOf 1 = .ok (.iload_n 0, 1) := by decide +kernel
theorem dX5_columnOf_2 : decode cX5_columnOf 2 = .ok (.iconst 3, 1) := by decide +kernel
theorem dX5_columnOf_3 : decode cX5_columnOf 3 = .ok (.irem, 1) := by decide +kernel
theorem dX5_columnOf_4 : decode cX5_columnOf 4 = .ok (.imul, 1) := by decide +kernel
theorem dX5_columnOf_5 : decode cX5_columnOf 5 = .ok (.ireturn, 1) := by decide +kernel
theorem dX5_rowOf_0 : decode cX5_rowOf 0 = .ok (.iconst 4, 1) := by decide +kernel
theorem dX5_rowOf_1 : decode cX5_rowOf 1 = .ok (.iload_n 0, 1) := by decide +kernel
theorem dX5_rowOf_2 : decode cX5_rowOf 2 = .ok (.iconst 3, 1) := by decide +kernel
theorem dX5_rowOf_3 : decode cX5_rowOf 3 = .ok (.idiv, 1) := by decide +kernel
theorem dX5_rowOf_4 : decode cX5_rowOf 4 = .ok (.imul, 1) := by decide +kernel
theorem dX5_rowOf_5 : decode cX5_rowOf 5 = .ok (.ireturn, 1) := by decide +kernel
theorem dX5_record_0 : decode cX5_record 0 = .ok (.aload_n 0, 1) := by decide +kernel
theorem dX5_record_1 : decode cX5_record 1 = .ok (.getfield 46, 3) := by decide +kernel
theorem dX5_record_4 : decode cX5_record 4 = .ok (.iconst 4, 1) := by decide +kernel
theorem dX5_record_5 : decode cX5_record 5 = .ok (.if_icmp .ne 44, 3) := by decide +kernel
theorem dX5_record_8 : decode cX5_record 8 = .ok (.iconst 0, 1) := by decide +kernel
theorem dX5_record_9 : decode cX5_record 9 = .ok (.istore_n 1, 1) := by decide +kernel
theorem dX5_record_10 : decode cX5_record 10 = .ok (.iload_n 1, 1) := by decide +kernel
theorem dX5_record_11 : decode cX5_record 11 = .ok (.sipush 1734, 3) := by decide +kernel
theorem dX5_record_14 : decode cX5_record 14 = .ok (.if_icmp .ge 25, 3) := by decide +kernel
theorem dX5_record_17 : decode cX5_record 17 = .ok (.aload_n 0, 1) := by decide +kernel
theorem dX5_record_18 : decode cX5_record 18 = .ok (.getfield 13, 3) := by decide +kernel
theorem dX5_record_21 : decode cX5_record 21 = .ok (.iload_n 1, 1) := by decide +kernel
theorem dX5_record_22 : decode cX5_record 22 = .ok (.aload_n 0, 1) := by decide +kernel
theorem dX5_record_23 : decode cX5_record 23 = .ok (.getfield 13, 3) := by decide +kernel
theorem dX5_record_26 : decode cX5_record 26 = .ok (.iload_n 1, 1) := by decide +kernel
theorem dX5_record_27 : decode cX5_record 27 = .ok (.sipush 578, 3) := by decide +kernel
theorem dX5_record_30 : decode cX5_record 30 = .ok (.iadd, 1) := by decide +kernel
theorem dX5_record_31 : decode cX5_record 31 = .ok (.iaload, 1) := by decide +kernel
theorem dX5_record_32 : decode cX5_record 32 = .ok (.iastore, 1) := by decide +kernel
theorem dX5_record_33 : decode cX5_record 33 = .ok (.iinc 1 1, 3) := by decide +kernel
theorem dX5_record_36 : decode cX5_record 36 = .ok (.goto (-26), 3) := by decide +kernel
theorem dX5_record_39 : decode cX5_record 39 = .ok (.aload_n 0, 1) := by decide +kernel
theorem dX5_record_40 : decode cX5_record 40 = .ok (.dup, 1) := by decide +kernel
theorem dX5_record_41 : decode cX5_record 41 = .ok (.getfield 46, 3) := by decide +kernel
theorem dX5_record_44 : decode cX5_record 44 = .ok (.iconst 1, 1) := by decide +kernel
theorem dX5_record_45 : decode cX5_record 45 = .ok (.isub, 1) := by decide +kernel
theorem dX5_record_46 : decode cX5_record 46 = .ok (.putfield 46, 3) := by decide +kernel
theorem dX5_record_49 : decode cX5_record 49 = .ok (.iconst 0, 1) := by decide +kernel
theorem dX5_record_50 : decode cX5_record 50 = .ok (.istore_n 1, 1) := by decide +kernel
theorem dX5_record_51 : decode cX5_record 51 = .ok (.iload_n 1, 1) := by decide +kernel
theorem dX5_record_52 : decode cX5_record 52 = .ok (.sipush 578, 3) := by decide +kernel
theorem dX5_record_55 : decode cX5_record 55 = .ok (.if_icmp .ge 30, 3) := by decide +kernel
theorem dX5_record_58 : decode cX5_record 58 = .ok (.aload_n 0, 1) := by decide +kernel
theorem dX5_record_59 : decode cX5_record 59 = .ok (.getfield 13, 3) := by decide +kernel
theorem dX5_record_62 : decode cX5_record 62 = .ok (.sipush 578, 3) := by decide +kernel
theorem dX5_record_65 : decode cX5_record 65 = .ok (.aload_n 0, 1) := by decide +kernel
theorem dX5_record_66 : decode cX5_record 66 = .ok (.getfield 46, 3) := by decide +kernel
theorem dX5_record_69 : decode cX5_record 69 = .ok (.imul, 1) := by decide +kernel
theorem dX5_record_70 : decode cX5_record 70 = .ok (.iload_n 1, 1) := by decide +kernel
theorem dX5_record_71 : decode cX5_record 71 = .ok (.iadd, 1) := by decide +kernel
theorem dX5_record_72 : decode cX5_record 72 = .ok (.aload_n 0, 1) := by decide +kernel
theorem dX5_record_73 : decode cX5_record 73 = .ok (.getfield 7, 3) := by decide +kernel
theorem dX5_record_76 : decode cX5_record 76 = .ok (.iload_n 1, 1) := by decide +kernel
theorem dX5_record_77 : decode cX5_record 77 = .ok (.iaload, 1) := by decide +kernel
theorem dX5_record_78 : decode cX5_record 78 = .ok (.iastore, 1) := by decide +kernel
theorem dX5_record_79 : decode cX5_record 79 = .ok (.iinc 1 1, 3) := by decide +kernel
theorem dX5_record_82 : decode cX5_record 82 = .ok (.goto (-31), 3) := by decide +kernel
theorem dX5_record_85 : decode cX5_record 85 = .ok (.aload_n 0, 1) := by decide +kernel
theorem dX5_record_86 : decode cX5_record 86 = .ok (.dup, 1) := by decide +kernel
theorem dX5_record_87 : decode cX5_record 87 = .ok (.getfield 46, 3) := by decide +kernel
theorem dX5_record_90 : decode cX5_record 90 = .ok (.iconst 1, 1) := by decide +kernel
theorem dX5_record_91 : decode cX5_record 91 = .ok (.iadd, 1) := by decide +kernel
theorem dX5_record_92 : decode cX5_record 92 = .ok (.putfield 46, 3) := by decide +kernel
theorem dX5_record_95 : decode cX5_record 95 = .ok (.return_, 1) := by decide +kernel
set_option maxRecDepth 20000 in
theorem ggX5_set_X5_noPoint : GoodIn wsX5_set wsX5_noPoint := goodIn_r _ [5, 6, 7, 4, 8] (by decide +kernel) (by decide +kernel)
set_option maxRecDepth 20000 in
theorem gX5_set_X5_noPoint : GoodIn wsX5_set (va_wsS RX5 50 yX5_noPoint wsX5_noPoint) := goodIn_app (goodIn_of _ (by decide +kernel)) ggX5_set_X5_noPoint
set_option maxRecDepth 20000 in
theorem ggX5_set_X5_in : GoodIn wsX5_set wsX5_in := goodIn_r _ [8] (by decide +kernel) (by decide +kernel)
set_option maxRecDepth 20000 in
theorem gX5_set_X5_in : GoodIn wsX5_set (va_wsS RX5 42 yX5_in wsX5_in) := goodIn_app (goodIn_of _ (by decide +kernel)) ggX5_set_X5_in
set_option maxRecDepth 20000 in
theorem ggX5_set_X5_cell : GoodIn wsX5_set wsX5_cell := goodIn_r _ [11] (by decide +kernel) (by decide +kernel)
set_option maxRecDepth 20000 in
theorem gX5_set_X5_cell : GoodIn wsX5_set (va_wsS RX5 54 yX5_cell wsX5_cell) := goodIn_app (goodIn_of _ (by decide +kernel)) ggX5_set_X5_cell
set_option maxRecDepth 20000 in
theorem ggX5_set_X5_record : GoodIn wsX5_set wsX5_record := goodIn_r _ [15, 16, 17, 1, 18, 19, 20, 21, 22, 23, 24, 25, 26, 27, 28, 29, 30, 31] (by decide +kernel) (by decide +kernel)
set_option maxRecDepth 20000 in
theorem gX5_set_X5_record : GoodIn wsX5_set (wsV RX5 58 RX5 yX5_record wsX5_record) := goodIn_app (goodIn_of _ (by decide +kernel)) ggX5_set_X5_record
theorem dX5_set_0 : decode cX5_set 0 = .ok (.iload_n 1, 1) := by decide +kernel
theorem dX5_set_1 : decode cX5_set 1 = .ok (.iload_n 2, 1) := by decide +kernel
theorem dX5_set_2 : decode cX5_set 2 = .ok (.invokestatic 50, 3) := by decide +kernel
theorem dX5_set_5 : decode cX5_set 5 = .ok (.ifCond .eq 5, 3) := by decide +kernel
theorem dX5_set_8 : decode cX5_set 8 = .ok (.iconst (-1), 1) := by decide +kernel
theorem dX5_set_9 : decode cX5_set 9 = .ok (.ireturn, 1) := by decide +kernel
theorem dX5_set_10 : decode cX5_set 10 = .ok (.iload_n 3, 1) := by decide +kernel
theorem dX5_set_11 : decode cX5_set 11 = .ok (.iconst 0, 1) := by decide +kernel
theorem dX5_set_12 : decode cX5_set 12 = .ok (.bipush 15, 2) := by decide +kernel
theorem dX5_set_14 : decode cX5_set 14 = .ok (.invokestatic 42, 3) := by decide +kernel
theorem dX5_set_17 : decode cX5_set 17 = .ok (.ifCond .ne 6, 3) := by decide +kernel
theorem dX5_set_20 : decode cX5_set 20 = .ok (.bipush (-2), 2) := by decide +kernel
theorem dX5_set_22 : decode cX5_set 22 = .ok (.ireturn, 1) := by decide +kernel
theorem dX5_set_23 : decode cX5_set 23 = .ok (.aload_n 0, 1) := by decide +kernel
theorem dX5_set_24 : decode cX5_set 24 = .ok (.getfield 7, 3) := by decide +kernel
theorem dX5_set_27 : decode cX5_set 27 = .ok (.iconst 0, 1) := by decide +kernel
theorem dX5_set_28 : decode cX5_set 28 = .ok (.iload_n 1, 1) := by decide +kernel
theorem dX5_set_29 : decode cX5_set 29 = .ok (.iload_n 2, 1) := by decide +kernel
theorem dX5_set_30 : decode cX5_set 30 = .ok (.invokestatic 54, 3) := by decide +kernel
theorem dX5_set_33 : decode cX5_set 33 = .ok (.iaload, 1) := by decide +kernel
theorem dX5_set_34 : decode cX5_set 34 = .ok (.istore 4, 2) := by decide +kernel
theorem dX5_set_36 : decode cX5_set 36 = .ok (.iload 4, 2) := by decide +kernel
theorem dX5_set_38 : decode cX5_set 38 = .ok (.iload_n 3, 1) := by decide +kernel
theorem dX5_set_39 : decode cX5_set 39 = .ok (.if_icmp .ne 6, 3) := by decide +kernel
theorem dX5_set_42 : decode cX5_set 42 = .ok (.bipush (-5), 2) := by decide +kernel
theorem dX5_set_44 : decode cX5_set 44 = .ok (.ireturn, 1) := by decide +kernel
theorem dX5_set_45 : decode cX5_set 45 = .ok (.aload_n 0, 1) := by decide +kernel
theorem dX5_set_46 : decode cX5_set 46 = .ok (.invokevirtual 58, 3) := by decide +kernel
theorem dX5_set_49 : decode cX5_set 49 = .ok (.aload_n 0, 1) := by decide +kernel
theorem dX5_set_50 : decode cX5_set 50 = .ok (.getfield 7, 3) := by decide +kernel
theorem dX5_set_53 : decode cX5_set 53 = .ok (.iconst 0, 1) := by decide +kernel
theorem dX5_set_54 : decode cX5_set 54 = .ok (.iload_n 1, 1) := by decide +kernel
theorem dX5_set_55 : decode cX5_set 55 = .ok (.iload_n 2, 1) := by decide +kernel
theorem dX5_set_56 : decode cX5_set 56 = .ok (.invokestatic 54, 3) := by decide +kernel
theorem dX5_set_59 : decode cX5_set 59 = .ok (.iload_n 3, 1) := by decide +kernel
theorem dX5_set_60 : decode cX5_set 60 = .ok (.iastore, 1) := by decide +kernel
theorem dX5_set_61 : decode cX5_set 61 = .ok (.iload 4, 2) := by decide +kernel
theorem dX5_set_63 : decode cX5_set 63 = .ok (.ireturn, 1) := by decide +kernel
set_option maxRecDepth 20000 in
theorem ggX5_wrongFill_X5_noPoint : GoodIn wsX5_wrongFill wsX5_noPoint := goodIn_r _ [4, 5, 6, 3, 7] (by decide +kernel) (by decide +kernel)
set_option maxRecDepth 20000 in
theorem gX5_wrongFill_X5_noPoint : GoodIn wsX5_wrongFill (va_wsS RX5 50 yX5_noPoint wsX5_noPoint) := goodIn_app (goodIn_of _ (by decide +kernel)) ggX5_wrongFill_X5_noPoint
set_option maxRecDepth 20000 in
theorem ggX5_wrongFill_X5_in : GoodIn wsX5_wrongFill wsX5_in := goodIn_r _ [7] (by decide +kernel) (by decide +kernel)
set_option maxRecDepth 20000 in
theorem gX5_wrongFill_X5_in : GoodIn wsX5_wrongFill (va_wsS RX5 42 yX5_in wsX5_in) := goodIn_app (goodIn_of _ (by decide +kernel)) ggX5_wrongFill_X5_in
theorem dX5_wrongFill_0 : decode cX5_wrongFill 0 = .ok (.iload_n 0, 1) := by decide +kernel
theorem dX5_wrongFill_1 : decode cX5_wrongFill 1 = .ok (.iload_n 1, 1) := by decide +kernel
theorem dX5_wrongFill_2 : decode cX5_wrongFill 2 = .ok (.invokestatic 50, 3) := by decide +kernel
theorem dX5_wrongFill_5 : decode cX5_wrongFill 5 = .ok (.ifCond .eq 5, 3) := by decide +kernel
theorem dX5_wrongFill_8 : decode cX5_wrongFill 8 = .ok (.iconst (-1), 1) := by decide +kernel
theorem dX5_wrongFill_9 : decode cX5_wrongFill 9 = .ok (.ireturn, 1) := by decide +kernel
theorem dX5_wrongFill_10 : decode cX5_wrongFill 10 = .ok (.iload_n 2, 1) := by decide +kernel
theorem dX5_wrongFill_11 : decode cX5_wrongFill 11 = .ok (.iconst 1, 1) := by decide +kernel
theorem dX5_wrongFill_12 : decode cX5_wrongFill 12 = .ok (.bipush 12, 2) := by decide +kernel
theorem dX5_wrongFill_14 : decode cX5_wrongFill 14 = .ok (.invokestatic 42, 3) := by decide +kernel
theorem dX5_wrongFill_17 : decode cX5_wrongFill 17 = .ok (.ifCond .eq 28, 3) := by decide +kernel
theorem dX5_wrongFill_20 : decode cX5_wrongFill 20 = .ok (.iload_n 3, 1) := by decide +kernel
theorem dX5_wrongFill_21 : decode cX5_wrongFill 21 = .ok (.iconst 1, 1) := by decide +kernel
theorem dX5_wrongFill_22 : decode cX5_wrongFill 22 = .ok (.bipush 12, 2) := by decide +kernel
theorem dX5_wrongFill_24 : decode cX5_wrongFill 24 = .ok (.invokestatic 42, 3) := by decide +kernel
theorem dX5_wrongFill_27 : decode cX5_wrongFill 27 = .ok (.ifCond .eq 18, 3) := by decide +kernel
theorem dX5_wrongFill_30 : decode cX5_wrongFill 30 = .ok (.iload 4, 2) := by decide +kernel
theorem dX5_wrongFill_32 : decode cX5_wrongFill 32 = .ok (.iconst 0, 1) := by decide +kernel
theorem dX5_wrongFill_33 : decode cX5_wrongFill 33 = .ok (.bipush 15, 2) := by decide +kernel
theorem dX5_wrongFill_35 : decode cX5_wrongFill 35 = .ok (.invokestatic 42, 3) := by decide +kernel
theorem dX5_wrongFill_38 : decode cX5_wrongFill 38 = .ok (.ifCond .eq 7, 3) := by decide +kernel
theorem dX5_wrongFill_41 : decode cX5_wrongFill 41 = .ok (.iconst 0, 1) := by decide +kernel
theorem dX5_wrongFill_42 : decode cX5_wrongFill 42 = .ok (.goto 5, 3) := by decide +kernel
theorem dX5_wrongFill_45 : decode cX5_wrongFill 45 = .ok (.bipush (-2), 2) := by decide +kernel
theorem dX5_wrongFill_47 : decode cX5_wrongFill 47 = .ok (.ireturn, 1) := by decide +kernel
set_option maxRecDepth 20000 in
theorem ggX5_fills_X5_cell : GoodIn wsX5_fills wsX5_cell := goodIn_r _ [5] (by decide +kernel) (by decide +kernel)
set_option maxRecDepth 20000 in
theorem gX5_fills_X5_cell : GoodIn wsX5_fills (va_wsS RX5 54 yX5_cell wsX5_cell) := goodIn_app (goodIn_of _ (by decide +kernel)) ggX5_fills_X5_cell
theorem dX5_fills_0 : decode cX5_fills 0 = .ok (.iconst 0, 1) := by decide +kernel
theorem dX5_fills_1 : decode cX5_fills 1 = .ok (.istore 6, 2) := by decide +kernel
theorem dX5_fills_3 : decode cX5_fills 3 = .ok (.iload_n 2, 1) := by decide +kernel
theorem dX5_fills_4 : decode cX5_fills 4 = .ok (.istore 7, 2) := by decide +kernel
theorem dX5_fills_6 : decode cX5_fills 6 = .ok (.iload 7, 2) := by decide +kernel
theorem dX5_fills_8 : decode cX5_fills 8 = .ok (.iload_n 2, 1) := by decide +kernel
theorem dX5_fills_9 : decode cX5_fills 9 = .ok (.iload 4, 2) := by decide +kernel
theorem dX5_fills_11 : decode cX5_fills 11 = .ok (.iadd, 1) := by decide +kernel
theorem dX5_fills_12 : decode cX5_fills 12 = .ok (.if_icmp .ge 83, 3) := by decide +kernel
theorem dX5_fills_15 : decode cX5_fills 15 = .ok (.iload 7, 2) := by decide +kernel
theorem dX5_fills_17 : decode cX5_fills 17 = .ok (.bipush 12, 2) := by decide +kernel
theorem dX5_fills_19 : decode cX5_fills 19 = .ok (.if_icmp .ge 76, 3) := by decide +kernel
theorem dX5_fills_22 : decode cX5_fills 22 = .ok (.iload_n 1, 1) := by decide +kernel
theorem dX5_fills_23 : decode cX5_fills 23 = .ok (.istore 8, 2) := by decide +kernel
theorem dX5_fills_25 : decode cX5_fills 25 = .ok (.iload 8, 2) := by decide +kernel
theorem dX5_fills_27 : decode cX5_fills 27 = .ok (.iload_n 1, 1) := by decide +kernel
theorem dX5_fills_28 : decode cX5_fills 28 = .ok (.iload_n 3, 1) := by decide +kernel
theorem dX5_fills_29 : decode cX5_fills 29 = .ok (.iadd, 1) := by decide +kernel
theorem dX5_fills_30 : decode cX5_fills 30 = .ok (.if_icmp .ge 59, 3) := by decide +kernel
theorem dX5_fills_33 : decode cX5_fills 33 = .ok (.iload 8, 2) := by decide +kernel
theorem dX5_fills_35 : decode cX5_fills 35 = .ok (.bipush 12, 2) := by decide +kernel
theorem dX5_fills_37 : decode cX5_fills 37 = .ok (.if_icmp .ge 52, 3) := by decide +kernel
theorem dX5_fills_40 : decode cX5_fills 40 = .ok (.iload 6, 2) := by decide +kernel
theorem dX5_fills_42 : decode cX5_fills 42 = .ok (.aload_n 0, 1) := by decide +kernel
theorem dX5_fills_43 : decode cX5_fills 43 = .ok (.getfield 7, 3) := by decide +kernel
theorem dX5_fills_46 : decode cX5_fills 46 = .ok (.iconst 0, 1) := by decide +kernel
theorem dX5_fills_47 : decode cX5_fills 47 = .ok (.iload 8, 2) := by decide +kernel
theorem dX5_fills_49 : decode cX5_fills 49 = .ok (.iload 7, 2) := by decide +kernel
theorem dX5_fills_51 : decode cX5_fills 51 = .ok (.invokestatic 54, 3) := by decide +kernel
theorem dX5_fills_54 : decode cX5_fills 54 = .ok (.iaload, 1) := by decide +kernel
theorem dX5_fills_55 : decode cX5_fills 55 = .ok (.iload 5, 2) := by decide +kernel
theorem dX5_fills_57 : decode cX5_fills 57 = .ok (.if_icmp .ne 7, 3) := by decide +kernel
theorem dX5_fills_60 : decode cX5_fills 60 = .ok (.iconst 0, 1) := by decide +kernel
theorem dX5_fills_61 : decode cX5_fills 61 = .ok (.goto 4, 3) := by decide +kernel
theorem dX5_fills_64 : decode cX5_fills 64 = .ok (.iconst 1, 1) := by decide +kernel
theorem dX5_fills_65 : decode cX5_fills 65 = .ok (.iadd, 1) := by decide +kernel
theorem dX5_fills_66 : decode cX5_fills 66 = .ok (.istore 6, 2) := by decide +kernel
theorem dX5_fills_68 : decode cX5_fills 68 = .ok (.aload_n 0, 1) := by decide +kernel
theorem dX5_fills_69 : decode cX5_fills 69 = .ok (.getfield 7, 3) := by decide +kernel
theorem dX5_fills_72 : decode cX5_fills 72 = .ok (.iconst 0, 1) := by decide +kernel
theorem dX5_fills_73 : decode cX5_fills 73 = .ok (.iload 8, 2) := by decide +kernel
theorem dX5_fills_75 : decode cX5_fills 75 = .ok (.iload 7, 2) := by decide +kernel
theorem dX5_fills_77 : decode cX5_fills 77 = .ok (.invokestatic 54, 3) := by decide +kernel
theorem dX5_fills_80 : decode cX5_fills 80 = .ok (.iload 5, 2) := by decide +kernel
theorem dX5_fills_82 : decode cX5_fills 82 = .ok (.iastore, 1) := by decide +kernel
theorem dX5_fills_83 : decode cX5_fills 83 = .ok (.iinc 8 1, 3) := by decide +kernel
theorem dX5_fills_86 : decode cX5_fills 86 = .ok (.goto (-61), 3) := by decide +kernel
theorem dX5_fills_89 : decode cX5_fills 89 = .ok (.iinc 7 1, 3) := by decide +kernel
theorem dX5_fills_92 : decode cX5_fills 92 = .ok (.goto (-86), 3) := by decide +kernel
theorem dX5_fills_95 : decode cX5_fills 95 = .ok (.iload 6, 2) := by decide +kernel
theorem dX5_fills_97 : decode cX5_fills 97 = .ok (.ireturn, 1) := by decide +kernel
set_option maxRecDepth 20000 in
theorem ggX5_fill_X5_wrongFill : GoodIn wsX5_fill wsX5_wrongFill := goodIn_r _ [4, 5, 6, 3, 7, 8, 9, 10] (by decide +kernel) (by decide +kernel)
set_option maxRecDepth 20000 in
theorem gX5_fill_X5_wrongFill : GoodIn wsX5_fill (va_wsS RX5 61 yX5_wrongFill wsX5_wrongFill) := goodIn_app (goodIn_of _ (by decide +kernel)) ggX5_fill_X5_wrongFill
set_option maxRecDepth 20000 in
theorem ggX5_fill_X5_record : GoodIn wsX5_fill wsX5_record := goodIn_r _ [14, 15, 16, 17, 25, 26, 27, 28, 29, 30, 31, 32, 33, 34, 35, 36, 37, 38] (by decide +kernel) (by decide +kernel)
set_option maxRecDepth 20000 in
theorem gX5_fill_X5_record : GoodIn wsX5_fill (wsV RX5 58 RX5 yX5_record wsX5_record) := goodIn_app (goodIn_of _ (by decide +kernel)) ggX5_fill_X5_record
set_option maxRecDepth 20000 in
theorem ggX5_fill_X5_fills : GoodIn wsX5_fill wsX5_fills := goodIn_r _ [21, 17, 22, 23, 3, 24, 25, 26, 27, 28, 29, 30, 31, 32, 33, 34, 35, 36, 37, 38] (by decide +kernel) (by decide +kernel)
set_option maxRecDepth 20000 in
theorem gX5_fill_X5_fills : GoodIn wsX5_fill (wsV RX5 65 RX5 yX5_fills wsX5_fills) := goodIn_app (goodIn_of _ (by decide +kernel)) ggX5_fill_X5_fills
theorem dX5_fill_0 : decode cX5_fill 0 = .ok (.iload_n 1, 1) := by decide +kernel
theorem dX5_fill_1 : decode cX5_fill 1 = .ok (.iload_n 2, 1) := by decide +kernel
theorem dX5_fill_2 : decode cX5_fill 2 = .ok (.iload_n 3, 1) := by decide +kernel
theorem dX5_fill_3 : decode cX5_fill 3 = .ok (.iload 4, 2) := by decide +kernel
theorem dX5_fill_5 : decode cX5_fill 5 = .ok (.iload 5, 2) := by decide +kernel
theorem dX5_fill_7 : decode cX5_fill 7 = .ok (.invokestatic 61, 3) := by decide +kernel
theorem dX5_fill_10 : decode cX5_fill 10 = .ok (.istore 6, 2) := by decide +kernel
theorem dX5_fill_12 : decode cX5_fill 12 = .ok (.iload 6, 2) := by decide +kernel
theorem dX5_fill_14 : decode cX5_fill 14 = .ok (.ifCond .eq 6, 3) := by decide +kernel
theorem dX5_fill_17 : decode cX5_fill 17 = .ok (.iload 6, 2) := by decide +kernel
theorem dX5_fill_19 : decode cX5_fill 19 = .ok (.ireturn, 1) := by decide +kernel
theorem dX5_fill_20 : decode cX5_fill 20 = .ok (.aload_n 0, 1) := by decide +kernel
theorem dX5_fill_21 : decode cX5_fill 21 = .ok (.invokevirtual 58, 3) := by decide +kernel
theorem dX5_fill_24 : decode cX5_fill 24 = .ok (.aload_n 0, 1) := by decide +kernel
theorem dX5_fill_25 : decode cX5_fill 25 = .ok (.iload_n 1, 1) := by decide +kernel
theorem dX5_fill_26 : decode cX5_fill 26 = .ok (.iload_n 2, 1) := by decide +kernel
theorem dX5_fill_27 : decode cX5_fill 27 = .ok (.iload_n 3, 1) := by decide +kernel
theorem dX5_fill_28 : decode cX5_fill 28 = .ok (.iload 4, 2) := by decide +kernel
theorem dX5_fill_30 : decode cX5_fill 30 = .ok (.iload 5, 2) := by decide +kernel
theorem dX5_fill_32 : decode cX5_fill 32 = .ok (.invokevirtual 65, 3) := by decide +kernel
theorem dX5_fill_35 : decode cX5_fill 35 = .ok (.ireturn, 1) := by decide +kernel
set_option maxRecDepth 20000 in
theorem ggX5_shifts_X5_noPoint : GoodIn wsX5_shifts wsX5_noPoint := goodIn_r _ [6, 7, 8, 5, 9] (by decide +kernel) (by decide +kernel)
set_option maxRecDepth 20000 in
theorem gX5_shifts_X5_noPoint : GoodIn wsX5_shifts (va_wsS RX5 50 yX5_noPoint wsX5_noPoint) := goodIn_app (goodIn_of _ (by decide +kernel)) ggX5_shifts_X5_noPoint
set_option maxRecDepth 20000 in
theorem ggX5_shifts_X5_cell : GoodIn wsX5_shifts wsX5_cell := goodIn_r _ [12] (by decide +kernel) (by decide +kernel)
set_option maxRecDepth 20000 in
theorem gX5_shifts_X5_cell : GoodIn wsX5_shifts (va_wsS RX5 54 yX5_cell wsX5_cell) := goodIn_app (goodIn_of _ (by decide +kernel)) ggX5_shifts_X5_cell
theorem dX5_shifts_0 : decode cX5_shifts 0 = .ok (.iconst 0, 1) := by decide +kernel
theorem dX5_shifts_1 : decode cX5_shifts 1 = .ok (.istore_n 3, 1) := by decide +kernel
theorem dX5_shifts_2 : decode cX5_shifts 2 = .ok (.iload_n 3, 1) := by decide +kernel
theorem dX5_shifts_3 : decode cX5_shifts 3 = .ok (.sipush 144, 3) := by decide +kernel
theorem dX5_shifts_6 : decode cX5_shifts 6 = .ok (.if_icmp .ge 21, 3) := by decide +kernel
theorem dX5_shifts_9 : decode cX5_shifts 9 = .ok (.aload_n 0, 1) := by decide +kernel
theorem dX5_shifts_10 : decode cX5_shifts 10 = .ok (.getfield 25, 3) := by decide +kernel
theorem dX5_shifts_13 : decode cX5_shifts 13 = .ok (.iload_n 3, 1) := by decide +kernel
theorem dX5_shifts_14 : decode cX5_shifts 14 = .ok (.aload_n 0, 1) := by decide +kernel
theorem dX5_shifts_15 : decode cX5_shifts 15 = .ok (.getfield 7, 3) := by decide +kernel
theorem dX5_shifts_18 : decode cX5_shifts 18 = .ok (.iload_n 3, 1) := by decide +kernel
theorem dX5_shifts_19 : decode cX5_shifts 19 = .ok (.iaload, 1) := by decide +kernel
theorem dX5_shifts_20 : decode cX5_shifts 20 = .ok (.iastore, 1) := by decide +kernel
theorem dX5_shifts_21 : decode cX5_shifts 21 = .ok (.iinc 3 1, 3) := by decide +kernel
theorem dX5_shifts_24 : decode cX5_shifts 24 = .ok (.goto (-22), 3) := by decide +kernel
theorem dX5_shifts_27 : decode cX5_shifts 27 = .ok (.iconst 0, 1) := by decide +kernel
theorem dX5_shifts_28 : decode cX5_shifts 28 = .ok (.istore_n 3, 1) := by decide +kernel
theorem dX5_shifts_29 : decode cX5_shifts 29 = .ok (.iconst 0, 1) := by decide +kernel
theorem dX5_shifts_30 : decode cX5_shifts 30 = .ok (.istore 4, 2) := by decide +kernel
theorem dX5_shifts_32 : decode cX5_shifts 32 = .ok (.iload 4, 2) := by decide +kernel
theorem dX5_shifts_34 : decode cX5_shifts 34 = .ok (.bipush 12, 2) := by decide +kernel
theorem dX5_shifts_36 : decode cX5_shifts 36 = .ok (.if_icmp .ge 103, 3) := by decide +kernel
theorem dX5_shifts_39 : decode cX5_shifts 39 = .ok (.iconst 0, 1) := by decide +kernel
theorem dX5_shifts_40 : decode cX5_shifts 40 = .ok (.istore 5, 2) := by decide +kernel
theorem dX5_shifts_42 : decode cX5_shifts 42 = .ok (.iload 5, 2) := by decide +kernel
theorem dX5_shifts_44 : decode cX5_shifts 44 = .ok (.bipush 12, 2) := by decide +kernel
theorem dX5_shifts_46 : decode cX5_shifts 46 = .ok (.if_icmp .ge 87, 3) := by decide +kernel
theorem dX5_shifts_49 : decode cX5_shifts 49 = .ok (.iload 5, 2) := by decide +kernel
theorem dX5_shifts_51 : decode cX5_shifts 51 = .ok (.iload_n 1, 1) := by decide +kernel
theorem dX5_shifts_52 : decode cX5_shifts 52 = .ok (.isub, 1) := by decide +kernel
theorem dX5_shifts_53 : decode cX5_shifts 53 = .ok (.iload 4, 2) := by decide +kernel
theorem dX5_shifts_55 : decode cX5_shifts 55 = .ok (.iload_n 2, 1) := by decide +kernel
theorem dX5_shifts_56 : decode cX5_shifts 56 = .ok (.isub, 1) := by decide +kernel
theorem dX5_shifts_57 : decode cX5_shifts 57 = .ok (.invokestatic 50, 3) := by decide +kernel
theorem dX5_shifts_60 : decode cX5_shifts 60 = .ok (.ifCond .eq 7, 3) := by decide +kernel
theorem dX5_shifts_63 : decode cX5_shifts 63 = .ok (.iconst 0, 1) := by decide +kernel
theorem dX5_shifts_64 : decode cX5_shifts 64 = .ok (.goto 20, 3) := by decide +kernel
theorem dX5_shifts_67 : decode cX5_shifts 67 = .ok (.aload_n 0, 1) := by decide +kernel
theorem dX5_shifts_68 : decode cX5_shifts 68 = .ok (.getfield 25, 3) := by decide +kernel
theorem dX5_shifts_71 : decode cX5_shifts 71 = .ok (.iconst 0, 1) := by decide +kernel
theorem dX5_shifts_72 : decode cX5_shifts 72 = .ok (.iload 5, 2) := by decide +kernel
theorem dX5_shifts_74 : decode cX5_shifts 74 = .ok (.iload_n 1, 1) := by decide +kernel
theorem dX5_shifts_75 : decode cX5_shifts 75 = .ok (.isub, 1) := by decide +kernel
theorem dX5_shifts_76 : decode cX5_shifts 76 = .ok (.iload 4, 2) := by decide +kernel
theorem dX5_shifts_78 : decode cX5_shifts 78 = .ok (.iload_n 2, 1) := by decide +kernel
theorem dX5_shifts_79 : decode cX5_shifts 79 = .ok (.isub, 1) := by decide +kernel
theorem dX5_shifts_80 : decode cX5_shifts 80 = .ok (.invokestatic 54, 3) := by decide +kernel
theorem dX5_shifts_83 : decode cX5_shifts 83 = .ok (.iaload, 1) := by decide +kernel
theorem dX5_shifts_84 : decode cX5_shifts 84 = .ok (.istore 6, 2) := by decide +kernel
theorem dX5_shifts_86 : decode cX5_shifts 86 = .ok (.iload_n 3, 1) := by decide +kernel
theorem dX5_shifts_87 : decode cX5_shifts 87 = .ok (.iload 6, 2) := by decide +kernel
theorem dX5_shifts_89 : decode cX5_shifts 89 = .ok (.aload_n 0, 1) := by decide +kernel
theorem dX5_shifts_90 : decode cX5_shifts 90 = .ok (.getfield 25, 3) := by decide +kernel
theorem dX5_shifts_93 : decode cX5_shifts 93 = .ok (.iconst 0, 1) := by decide +kernel
theorem dX5_shifts_94 : decode cX5_shifts 94 = .ok (.iload 5, 2) := by decide +kernel
theorem dX5_shifts_96 : decode cX5_shifts 96 = .ok (.iload 4, 2) := by decide +kernel
theorem dX5_shifts_98 : decode cX5_shifts 98 = .ok (.invokestatic 54, 3) := by decide +kernel
theorem dX5_shifts_101 : decode cX5_shifts 101 = .ok (.iaload, 1) := by decide +kernel
theorem dX5_shifts_102 : decode cX5_shifts 102 = .ok (.if_icmp .ne 7, 3) := by decide +kernel
theorem dX5_shifts_105 : decode cX5_shifts 105 = .ok (.iconst 0, 1) := by decide +kernel
theorem dX5_shifts_106 : decode cX5_shifts 106 = .ok (.goto 4, 3) := by decide +kernel
theorem dX5_shifts_109 : decode cX5_shifts 109 = .ok (.iconst 1, 1) := by decide +kernel
theorem dX5_shifts_110 : decode cX5_shifts 110 = .ok (.iadd, 1) := by decide +kernel
theorem dX5_shifts_111 : decode cX5_shifts 111 = .ok (.istore_n 3, 1) := by decide +kernel
theorem dX5_shifts_112 : decode cX5_shifts 112 = .ok (.aload_n 0, 1) := by decide +kernel
theorem dX5_shifts_113 : decode cX5_shifts 113 = .ok (.getfield 7, 3) := by decide +kernel
theorem dX5_shifts_116 : decode cX5_shifts 116 = .ok (.iconst 0, 1) := by decide +kernel
theorem dX5_shifts_117 : decode cX5_shifts 117 = .ok (.iload 5, 2) := by decide +kernel
theorem dX5_shifts_119 : decode cX5_shifts 119 = .ok (.iload 4, 2) := by decide +kernel
theorem dX5_shifts_121 : decode cX5_shifts 121 = .ok (.invokestatic 54, 3) := by decide +kernel
theorem dX5_shifts_124 : decode cX5_shifts 124 = .ok (.iload 6, 2) := by decide +kernel
theorem dX5_shifts_126 : decode cX5_shifts 126 = .ok (.iastore, 1) := by decide +kernel
theorem dX5_shifts_127 : decode cX5_shifts 127 = .ok (.iinc 5 1, 3) := by decide +kernel
theorem dX5_shifts_130 : decode cX5_shifts 130 = .ok (.goto (-88), 3) := by decide +kernel
theorem dX5_shifts_133 : decode cX5_shifts 133 = .ok (.iinc 4 1, 3) := by decide +kernel
theorem dX5_shifts_136 : decode cX5_shifts 136 = .ok (.goto (-104), 3) := by decide +kernel
theorem dX5_shifts_139 : decode cX5_shifts 139 = .ok (.iload_n 3, 1) := by decide +kernel
theorem dX5_shifts_140 : decode cX5_shifts 140 = .ok (.ireturn, 1) := by decide +kernel
set_option maxRecDepth 20000 in
theorem ggX5_isShift_X5_in : GoodIn wsX5_isShift wsX5_in := goodIn_r _ [4] (by decide +kernel) (by decide +kernel)
set_option maxRecDepth 20000 in
theorem gX5_isShift_X5_in : GoodIn wsX5_isShift (va_wsS RX5 42 yX5_in wsX5_in) := goodIn_app (goodIn_of _ (by decide +kernel)) ggX5_isShift_X5_in
theorem dX5_isShift_0 : decode cX5_isShift 0 = .ok (.iload_n 0, 1) := by decide +kernel
theorem dX5_isShift_1 : decode cX5_isShift 1 = .ok (.bipush (-11), 2) := by decide +kernel
theorem dX5_isShift_3 : decode cX5_isShift 3 = .ok (.bipush 11, 2) := by decide +kernel
theorem dX5_isShift_5 : decode cX5_isShift 5 = .ok (.invokestatic 42, 3) := by decide +kernel
theorem dX5_isShift_8 : decode cX5_isShift 8 = .ok (.ifCond .eq 18, 3) := by decide +kernel
theorem dX5_isShift_11 : decode cX5_isShift 11 = .ok (.iload_n 1, 1) := by decide +kernel
theorem dX5_isShift_12 : decode cX5_isShift 12 = .ok (.bipush (-11), 2) := by decide +kernel
theorem dX5_isShift_14 : decode cX5_isShift 14 = .ok (.bipush 11, 2) := by decide +kernel
theorem dX5_isShift_16 : decode cX5_isShift 16 = .ok (.invokestatic 42, 3) := by decide +kernel
theorem dX5_isShift_19 : decode cX5_isShift 19 = .ok (.ifCond .eq 7, 3) := by decide +kernel
theorem dX5_isShift_22 : decode cX5_isShift 22 = .ok (.iconst 1, 1) := by decide +kernel
theorem dX5_isShift_23 : decode cX5_isShift 23 = .ok (.goto 4, 3) := by decide +kernel
theorem dX5_isShift_26 : decode cX5_isShift 26 = .ok (.iconst 0, 1) := by decide +kernel
theorem dX5_isShift_27 : decode cX5_isShift 27 = .ok (.ireturn, 1) := by decide +kernel
set_option maxRecDepth 20000 in
theorem ggX5_shift_X5_isShift : GoodIn wsX5_shift wsX5_isShift := goodIn_r _ [4, 5, 6, 3, 7] (by decide +kernel) (by decide +kernel)
set_option maxRecDepth 20000 in
theorem gX5_shift_X5_isShift : GoodIn wsX5_shift (va_wsS RX5 68 yX5_isShift wsX5_isShift) := goodIn_app (goodIn_of _ (by decide +kernel)) ggX5_shift_X5_isShift
set_option maxRecDepth 20000 in
theorem ggX5_shift_X5_record : GoodIn wsX5_shift wsX5_record := goodIn_r _ [11, 12, 13, 14, 26, 27, 28, 29, 30, 31, 32, 33, 34, 35, 36, 37, 38, 39] (by decide +kernel) (by decide +kernel)
set_option maxRecDepth 20000 in
theorem gX5_shift_X5_record : GoodIn wsX5_shift (wsV RX5 58 RX5 yX5_record wsX5_record) := goodIn_app (goodIn_of _ (by decide +kernel)) ggX5_shift_X5_record
set_option maxRecDepth 20000 in
theorem ggX5_shift_X5_shifts : GoodIn wsX5_shift wsX5_shifts := goodIn_r _ [18, 19, 14, 20, 21, 3, 22, 5, 6, 7, 23, 24, 25, 26, 27, 28, 29, 30, 31, 32, 33, 34, 35, 36, 37, 38, 39] (by decide +kernel) (by decide +kernel)
set_option maxRecDepth 20000 in
theorem gX5_shift_X5_shifts : GoodIn wsX5_shift (wsV RX5 71 RX5 yX5_shifts wsX5_shifts) := goodIn_app (goodIn_of _ (by decide +kernel)) ggX5_shift_X5_shifts
theorem dX5_shift_0 : decode cX5_shift 0 = .ok (.iload_n 1, 1) := by decide +kernel
theorem dX5_shift_1 : decode cX5_shift 1 = .ok (.iload_n 2, 1) := by decide +kernel
theorem dX5_shift_2 : decode cX5_shift 2 = .ok (.invokestatic 68, 3) := by decide +kernel
theorem dX5_shift_5 : decode cX5_shift 5 = .ok (.ifCond .ne 6, 3) := by decide +kernel
theorem dX5_shift_8 : decode cX5_shift 8 = .ok (.bipush (-2), 2) := by decide +kernel
theorem dX5_shift_10 : decode cX5_shift 10 = .ok (.ireturn, 1) := by decide +kernel
theorem dX5_shift_11 : decode cX5_shift 11 = .ok (.aload_n 0, 1) := by decide +kernel
theorem dX5_shift_12 : decode cX5_shift 12 = .ok (.invokevirtual 58, 3) := by decide +kernel
theorem dX5_shift_15 : decode cX5_shift 15 = .ok (.aload_n 0, 1) := by decide +kernel
theorem dX5_shift_16 : decode cX5_shift 16 = .ok (.iload_n 1, 1) := by decide +kernel
theorem dX5_shift_17 : decode cX5_shift 17 = .ok (.iload_n 2, 1) := by decide +kernel
theorem dX5_shift_18 : decode cX5_shift 18 = .ok (.invokevirtual 71, 3) := by decide +kernel
theorem dX5_shift_21 : decode cX5_shift 21 = .ok (.ireturn, 1) := by decide +kernel
set_option maxRecDepth 20000 in
theorem ggX5_setNumber_X5_in : GoodIn wsX5_setNumber wsX5_in := goodIn_r _ [5] (by decide +kernel) (by decide +kernel)
set_option maxRecDepth 20000 in
theorem gX5_setNumber_X5_in : GoodIn wsX5_setNumber (va_wsS RX5 42 yX5_in wsX5_in) := goodIn_app (goodIn_of _ (by decide +kernel)) ggX5_setNumber_X5_in
set_option maxRecDepth 20000 in
theorem ggX5_setNumber_X5_record : GoodIn wsX5_setNumber wsX5_record := goodIn_r _ [9, 10, 11, 1, 12, 13, 14, 15, 16, 17, 18, 19, 20, 21, 22, 23, 24, 25] (by decide +kernel) (by decide +kernel)
set_option maxRecDepth 20000 in
theorem gX5_setNumber_X5_record : GoodIn wsX5_setNumber (wsV RX5 58 RX5 yX5_record wsX5_record) := goodIn_app (goodIn_of _ (by decide +kernel)) ggX5_setNumber_X5_record
theorem dX5_setNumber_0 : decode cX5_setNumber 0 = .ok (.iload_n 1, 1) := by decide +kernel
theorem dX5_setNumber_1 : decode cX5_setNumber 1 = .ok (.ifCond .ne 15, 3) := by decide +kernel
theorem dX5_setNumber_4 : decode cX5_setNumber 4 = .ok (.iload_n 2, 1) := by decide +kernel
theorem dX5_setNumber_5 : decode cX5_setNumber 5 = .ok (.bipush 9, 2) := by decide +kernel
theorem dX5_setNumber_7 : decode cX5_setNumber 7 = .ok (.sipush 600, 3) := by decide +kernel
theorem dX5_setNumber_10 : decode cX5_setNumber 10 = .ok (.invokestatic 42, 3) := by decide +kernel
theorem dX5_setNumber_13 : decode cX5_setNumber 13 = .ok (.goto 39, 3) := by decide +kernel
theorem dX5_setNumber_16 : decode cX5_setNumber 16 = .ok (.iload_n 1, 1) := by decide +kernel
theorem dX5_setNumber_17 : decode cX5_setNumber 17 = .ok (.iconst 1, 1) := by decide +kernel
theorem dX5_setNumber_18 : decode cX5_setNumber 18 = .ok (.if_icmp .ne 14, 3) := by decide +kernel
theorem dX5_setNumber_21 : decode cX5_setNumber 21 = .ok (.iload_n 2, 1) := by decide +kernel
theorem dX5_setNumber_22 : decode cX5_setNumber 22 = .ok (.iconst 0, 1) := by decide +kernel
theorem dX5_setNumber_23 : decode cX5_setNumber 23 = .ok (.sipush 240, 3) := by decide +kernel
theorem dX5_setNumber_26 : decode cX5_setNumber 26 = .ok (.invokestatic 42, 3) := by decide +kernel
theorem dX5_setNumber_29 : decode cX5_setNumber 29 = .ok (.goto 23, 3) := by decide +kernel
theorem dX5_setNumber_32 : decode cX5_setNumber 32 = .ok (.iload_n 1, 1) := by decide +kernel
theorem dX5_setNumber_33 : decode cX5_setNumber 33 = .ok (.iconst 2, 1) := by decide +kernel
theorem dX5_setNumber_34 : decode cX5_setNumber 34 = .ok (.if_icmp .ne 17, 3) := by decide +kernel
theorem dX5_setNumber_37 : decode cX5_setNumber 37 = .ok (.iload_n 2, 1) := by decide +kernel
theorem dX5_setNumber_38 : decode cX5_setNumber 38 = .ok (.iconst 0, 1) := by decide +kernel
theorem dX5_setNumber_39 : decode cX5_setNumber 39 = .ok (.bipush 50, 2) := by decide +kernel
theorem dX5_setNumber_41 : decode cX5_setNumber 41 = .ok (.invokestatic 42, 3) := by decide +kernel
theorem dX5_setNumber_44 : decode cX5_setNumber 44 = .ok (.ifCond .eq 7, 3) := by decide +kernel
theorem dX5_setNumber_47 : decode cX5_setNumber 47 = .ok (.iconst 1, 1) := by decide +kernel
theorem dX5_setNumber_48 : decode cX5_setNumber 48 = .ok (.goto 4, 3) := by decide +kernel
theorem dX5_setNumber_51 : decode cX5_setNumber 51 = .ok (.iconst 0, 1) := by decide +kernel
theorem dX5_setNumber_52 : decode cX5_setNumber 52 = .ok (.istore_n 3, 1) := by decide +kernel
theorem dX5_setNumber_53 : decode cX5_setNumber 53 = .ok (.iload_n 3, 1) := by decide +kernel
theorem dX5_setNumber_54 : decode cX5_setNumber 54 = .ok (.ifCond .ne 6, 3) := by decide +kernel
theorem dX5_setNumber_57 : decode cX5_setNumber 57 = .ok (.bipush (-2), 2) := by decide +kernel
theorem dX5_setNumber_59 : decode cX5_setNumber 59 = .ok (.ireturn, 1) := by decide +kernel
theorem dX5_setNumber_60 : decode cX5_setNumber 60 = .ok (.aload_n 0, 1) := by decide +kernel
theorem dX5_setNumber_61 : decode cX5_setNumber 61 = .ok (.getfield 7, 3) := by decide +kernel
theorem dX5_setNumber_64 : decode cX5_setNumber 64 = .ok (.sipush 432, 3) := by decide +kernel
theorem dX5_setNumber_67 : decode cX5_setNumber 67 = .ok (.iload_n 1, 1) := by decide +kernel
theorem dX5_setNumber_68 : decode cX5_setNumber 68 = .ok (.iadd, 1) := by decide +kernel
theorem dX5_setNumber_69 : decode cX5_setNumber 69 = .ok (.iaload, 1) := by decide +kernel
theorem dX5_setNumber_70 : decode cX5_setNumber 70 = .ok (.istore 4, 2) := by decide +kernel
theorem dX5_setNumber_72 : decode cX5_setNumber 72 = .ok (.iload 4, 2) := by decide +kernel
theorem dX5_setNumber_74 : decode cX5_setNumber 74 = .ok (.iload_n 2, 1) := by decide +kernel
theorem dX5_setNumber_75 : decode cX5_setNumber 75 = .ok (.if_icmp .ne 6, 3) := by decide +kernel
theorem dX5_setNumber_78 : decode cX5_setNumber 78 = .ok (.bipush (-5), 2) := by decide +kernel
theorem dX5_setNumber_80 : decode cX5_setNumber 80 = .ok (.ireturn, 1) := by decide +kernel
theorem dX5_setNumber_81 : decode cX5_setNumber 81 = .ok (.aload_n 0, 1) := by decide +kernel
theorem dX5_setNumber_82 : decode cX5_setNumber 82 = .ok (.invokevirtual 58, 3) := by decide +kernel
theorem dX5_setNumber_85 : decode cX5_setNumber 85 = .ok (.aload_n 0, 1) := by decide +kernel
theorem dX5_setNumber_86 : decode cX5_setNumber 86 = .ok (.getfield 7, 3) := by decide +kernel
theorem dX5_setNumber_89 : decode cX5_setNumber 89 = .ok (.sipush 432, 3) := by decide +kernel
theorem dX5_setNumber_92 : decode cX5_setNumber 92 = .ok (.iload_n 1, 1) := by decide +kernel
theorem dX5_setNumber_93 : decode cX5_setNumber 93 = .ok (.iadd, 1) := by decide +kernel
theorem dX5_setNumber_94 : decode cX5_setNumber 94 = .ok (.iload_n 2, 1) := by decide +kernel
theorem dX5_setNumber_95 : decode cX5_setNumber 95 = .ok (.iastore, 1) := by decide +kernel
theorem dX5_setNumber_96 : decode cX5_setNumber 96 = .ok (.iload 4, 2) := by decide +kernel
theorem dX5_setNumber_98 : decode cX5_setNumber 98 = .ok (.ireturn, 1) := by decide +kernel
set_option maxRecDepth 20000 in
theorem ggX5_apart_X5_columnOf : GoodIn wsX5_apart wsX5_columnOf := goodIn_r _ [5] (by decide +kernel) (by decide +kernel)
set_option maxRecDepth 20000 in
theorem gX5_apart_X5_columnOf : GoodIn wsX5_apart (va_wsS RX5 75 yX5_columnOf wsX5_columnOf) := goodIn_app (goodIn_of _ (by decide +kernel)) ggX5_apart_X5_columnOf
set_option maxRecDepth 20000 in
theorem ggX5_apart_X5_rowOf : GoodIn wsX5_apart wsX5_rowOf := goodIn_r _ [8] (by decide +kernel) (by decide +kernel)
set_option maxRecDepth 20000 in
theorem gX5_apart_X5_rowOf : GoodIn wsX5_apart (va_wsS RX5 79 yX5_rowOf wsX5_rowOf) := goodIn_app (goodIn_of _ (by decide +kernel)) ggX5_apart_X5_rowOf
set_option maxRecDepth 20000 in
theorem ggX5_apart_X5_noPoint : GoodIn wsX5_apart wsX5_noPoint := goodIn_r _ [11, 12, 13, 4, 14] (by decide +kernel) (by decide +kernel)
set_option maxRecDepth 20000 in
theorem gX5_apart_X5_noPoint : GoodIn wsX5_apart (va_wsS RX5 50 yX5_noPoint wsX5_noPoint) := goodIn_app (goodIn_of _ (by decide +kernel)) ggX5_apart_X5_noPoint
set_option maxRecDepth 20000 in
theorem ggX5_apart_X5_cell : GoodIn wsX5_apart wsX5_cell := goodIn_r _ [17] (by decide +kernel) (by decide +kernel)
set_option maxRecDepth 20000 in
theorem gX5_apart_X5_cell : GoodIn wsX5_apart (va_wsS RX5 54 yX5_cell wsX5_cell) := goodIn_app (goodIn_of _ (by decide +kernel)) ggX5_apart_X5_cell
theorem dX5_apart_0 : decode cX5_apart 0 = .ok (.iload_n 3, 1) := by decide +kernel
theorem dX5_apart_1 : decode cX5_apart 1 = .ok (.invokestatic 75, 3) := by decide +kernel
theorem dX5_apart_4 : decode cX5_apart 4 = .ok (.istore 6, 2) := by decide +kernel
theorem dX5_apart_6 : decode cX5_apart 6 = .ok (.iload_n 3, 1) := by decide +kernel
theorem dX5_apart_7 : decode cX5_apart 7 = .ok (.invokestatic 79, 3) := by decide +kernel
theorem dX5_apart_10 : decode cX5_apart 10 = .ok (.istore 7, 2) := by decide +kernel
theorem dX5_apart_12 : decode cX5_apart 12 = .ok (.iload 6, 2) := by decide +kernel
theorem dX5_apart_14 : decode cX5_apart 14 = .ok (.iload 4, 2) := by decide +kernel
theorem dX5_apart_16 : decode cX5_apart 16 = .ok (.iadd, 1) := by decide +kernel
theorem dX5_apart_17 : decode cX5_apart 17 = .ok (.iload 7, 2) := by decide +kernel
theorem dX5_apart_19 : decode cX5_apart 19 = .ok (.iload 5, 2) := by decide +kernel
theorem dX5_apart_21 : decode cX5_apart 21 = .ok (.iadd, 1) := by decide +kernel
theorem dX5_apart_22 : decode cX5_apart 22 = .ok (.invokestatic 50, 3) := by decide +kernel
theorem dX5_apart_25 : decode cX5_apart 25 = .ok (.ifCond .ne 23, 3) := by decide +kernel
theorem dX5_apart_28 : decode cX5_apart 28 = .ok (.iload 6, 2) := by decide +kernel
theorem dX5_apart_30 : decode cX5_apart 30 = .ok (.iload 4, 2) := by decide +kernel
theorem dX5_apart_32 : decode cX5_apart 32 = .ok (.iadd, 1) := by decide +kernel
theorem dX5_apart_33 : decode cX5_apart 33 = .ok (.iconst 3, 1) := by decide +kernel
theorem dX5_apart_34 : decode cX5_apart 34 = .ok (.iadd, 1) := by decide +kernel
theorem dX5_apart_35 : decode cX5_apart 35 = .ok (.iload 7, 2) := by decide +kernel
theorem dX5_apart_37 : decode cX5_apart 37 = .ok (.iload 5, 2) := by decide +kernel
theorem dX5_apart_39 : decode cX5_apart 39 = .ok (.iadd, 1) := by decide +kernel
theorem dX5_apart_40 : decode cX5_apart 40 = .ok (.iconst 3, 1) := by decide +kernel
theorem dX5_apart_41 : decode cX5_apart 41 = .ok (.iadd, 1) := by decide +kernel
theorem dX5_apart_42 : decode cX5_apart 42 = .ok (.invokestatic 50, 3) := by decide +kernel
theorem dX5_apart_45 : decode cX5_apart 45 = .ok (.ifCond .eq 6, 3) := by decide +kernel
theorem dX5_apart_48 : decode cX5_apart 48 = .ok (.bipush (-5), 2) := by decide +kernel
theorem dX5_apart_50 : decode cX5_apart 50 = .ok (.ireturn, 1) := by decide +kernel
theorem dX5_apart_51 : decode cX5_apart 51 = .ok (.iconst 0, 1) := by decide +kernel
theorem dX5_apart_52 : decode cX5_apart 52 = .ok (.istore 8, 2) := by decide +kernel
theorem dX5_apart_54 : decode cX5_apart 54 = .ok (.iload 7, 2) := by decide +kernel
theorem dX5_apart_56 : decode cX5_apart 56 = .ok (.istore 9, 2) := by decide +kernel
theorem dX5_apart_58 : decode cX5_apart 58 = .ok (.iload 9, 2) := by decide +kernel
theorem dX5_apart_60 : decode cX5_apart 60 = .ok (.iload 7, 2) := by decide +kernel
theorem dX5_apart_62 : decode cX5_apart 62 = .ok (.iconst 4, 1) := by decide +kernel
theorem dX5_apart_63 : decode cX5_apart 63 = .ok (.iadd, 1) := by decide +kernel
theorem dX5_apart_64 : decode cX5_apart 64 = .ok (.if_icmp .ge 81, 3) := by decide +kernel
theorem dX5_apart_67 : decode cX5_apart 67 = .ok (.iload 6, 2) := by decide +kernel
theorem dX5_apart_69 : decode cX5_apart 69 = .ok (.istore 10, 2) := by decide +kernel
theorem dX5_apart_71 : decode cX5_apart 71 = .ok (.iload 10, 2) := by decide +kernel
theorem dX5_apart_73 : decode cX5_apart 73 = .ok (.iload 6, 2) := by decide +kernel
theorem dX5_apart_75 : decode cX5_apart 75 = .ok (.iconst 4, 1) := by decide +kernel
theorem dX5_apart_76 : decode cX5_apart 76 = .ok (.iadd, 1) := by decide +kernel
theorem dX5_apart_77 : decode cX5_apart 77 = .ok (.if_icmp .ge 62, 3) := by decide +kernel
theorem dX5_apart_80 : decode cX5_apart 80 = .ok (.aload_n 0, 1) := by decide +kernel
theorem dX5_apart_81 : decode cX5_apart 81 = .ok (.getfield 7, 3) := by decide +kernel
theorem dX5_apart_84 : decode cX5_apart 84 = .ok (.iload_n 1, 1) := by decide +kernel
theorem dX5_apart_85 : decode cX5_apart 85 = .ok (.iload 10, 2) := by decide +kernel
theorem dX5_apart_87 : decode cX5_apart 87 = .ok (.iload 9, 2) := by decide +kernel
theorem dX5_apart_89 : decode cX5_apart 89 = .ok (.invokestatic 54, 3) := by decide +kernel
theorem dX5_apart_92 : decode cX5_apart 92 = .ok (.iaload, 1) := by decide +kernel
theorem dX5_apart_93 : decode cX5_apart 93 = .ok (.aload_n 0, 1) := by decide +kernel
theorem dX5_apart_94 : decode cX5_apart 94 = .ok (.getfield 7, 3) := by decide +kernel
theorem dX5_apart_97 : decode cX5_apart 97 = .ok (.iload_n 2, 1) := by decide +kernel
theorem dX5_apart_98 : decode cX5_apart 98 = .ok (.iload 10, 2) := by decide +kernel
theorem dX5_apart_100 : decode cX5_apart 100 = .ok (.iload 4, 2) := by decide +kernel
theorem dX5_apart_102 : decode cX5_apart 102 = .ok (.iadd, 1) := by decide +kernel
theorem dX5_apart_103 : decode cX5_apart 103 = .ok (.iload 9, 2) := by decide +kernel
theorem dX5_apart_105 : decode cX5_apart 105 = .ok (.iload 5, 2) := by decide +kernel
theorem dX5_apart_107 : decode cX5_apart 107 = .ok (.iadd, 1) := by decide +kernel
theorem dX5_apart_108 : decode cX5_apart 108 = .ok (.invokestatic 54, 3) := by decide +kernel
theorem dX5_apart_111 : decode cX5_apart 111 = .ok (.iaload, 1) := by decide +kernel
theorem dX5_apart_112 : decode cX5_apart 112 = .ok (.isub, 1) := by decide +kernel
theorem dX5_apart_113 : decode cX5_apart 113 = .ok (.istore 11, 2) := by decide +kernel
theorem dX5_apart_115 : decode cX5_apart 115 = .ok (.iload 8, 2) := by decide +kernel
theorem dX5_apart_117 : decode cX5_apart 117 = .ok (.iload 11, 2) := by decide +kernel
theorem dX5_apart_119 : decode cX5_apart 119 = .ok (.ifCond .ge 9, 3) := by decide +kernel
theorem dX5_apart_122 : decode cX5_apart 122 = .ok (.iload 11, 2) := by decide +kernel
theorem dX5_apart_124 : decode cX5_apart 124 = .ok (.ineg, 1) := by decide +kernel
theorem dX5_apart_125 : decode cX5_apart 125 = .ok (.goto 5, 3) := by decide +kernel
theorem dX5_apart_128 : decode cX5_apart 128 = .ok (.iload 11, 2) := by decide +kernel
theorem dX5_apart_130 : decode cX5_apart 130 = .ok (.iadd, 1) := by decide +kernel
theorem dX5_apart_131 : decode cX5_apart 131 = .ok (.istore 8, 2) := by decide +kernel
theorem dX5_apart_133 : decode cX5_apart 133 = .ok (.iinc 10 1, 3) := by decide +kernel
theorem dX5_apart_136 : decode cX5_apart 136 = .ok (.goto (-65), 3) := by decide +kernel
theorem dX5_apart_139 : decode cX5_apart 139 = .ok (.iinc 9 1, 3) := by decide +kernel
theorem dX5_apart_142 : decode cX5_apart 142 = .ok (.goto (-84), 3) := by decide +kernel
theorem dX5_apart_145 : decode cX5_apart 145 = .ok (.iload 8, 2) := by decide +kernel
theorem dX5_apart_147 : decode cX5_apart 147 = .ok (.ireturn, 1) := by decide +kernel
set_option maxRecDepth 20000 in
theorem ggX5_apartBy_X5_apart : GoodIn wsX5_apartBy wsX5_apart := goodIn_r _ [7, 8, 9, 10, 6, 11, 12, 13, 14, 15, 16, 17, 18, 19, 20, 21, 22, 23, 24, 25, 26, 27, 28, 29, 30, 31, 32, 33, 34, 35, 36, 37] (by decide +kernel) (by decide +kernel)
set_option maxRecDepth 20000 in
theorem gX5_apartBy_X5_apart : GoodIn wsX5_apartBy (wsV RX5 82 RX5 yX5_apart wsX5_apart) := goodIn_app (goodIn_of _ (by decide +kernel)) ggX5_apartBy_X5_apart
theorem dX5_apartBy_0 : decode cX5_apartBy 0 = .ok (.aload_n 0, 1) := by decide +kernel
theorem dX5_apartBy_1 : decode cX5_apartBy 1 = .ok (.iconst 0, 1) := by decide +kernel
theorem dX5_apartBy_2 : decode cX5_apartBy 2 = .ok (.iconst 1, 1) := by decide +kernel
theorem dX5_apartBy_3 : decode cX5_apartBy 3 = .ok (.iload_n 1, 1) := by decide +kernel
theorem dX5_apartBy_4 : decode cX5_apartBy 4 = .ok (.aload_n 0, 1) := by decide +kernel
theorem dX5_apartBy_5 : decode cX5_apartBy 5 = .ok (.getfield 19, 3) := by decide +kernel
theorem dX5_apartBy_8 : decode cX5_apartBy 8 = .ok (.iload_n 2, 1) := by decide +kernel
theorem dX5_apartBy_9 : decode cX5_apartBy 9 = .ok (.iaload, 1) := by decide +kernel
theorem dX5_apartBy_10 : decode cX5_apartBy 10 = .ok (.aload_n 0, 1) := by decide +kernel
theorem dX5_apartBy_11 : decode cX5_apartBy 11 = .ok (.getfield 22, 3) := by decide +kernel
theorem dX5_apartBy_14 : decode cX5_apartBy 14 = .ok (.iload_n 2, 1) := by decide +kernel
theorem dX5_apartBy_15 : decode cX5_apartBy 15 = .ok (.iaload, 1) := by decide +kernel
theorem dX5_apartBy_16 : decode cX5_apartBy 16 = .ok (.invokevirtual 82, 3) := by decide +kernel
theorem dX5_apartBy_19 : decode cX5_apartBy 19 = .ok (.ireturn, 1) := by decide +kernel
set_option maxRecDepth 20000 in
theorem ggX5_code_X5_apartBy : GoodIn wsX5_code wsX5_apartBy := goodIn_r _ [5, 6, 7, 8, 9, 10, 4, 11, 12, 13, 14, 15, 16, 17, 18, 19, 20, 21, 22, 23, 24, 25, 26, 27, 28, 29, 30, 31, 32, 33, 34, 35, 36, 37, 38, 39, 40, 41] (by decide +kernel) (by decide +kernel)
set_option maxRecDepth 20000 in
theorem gX5_code_X5_apartBy : GoodIn wsX5_code (wsV RX5 85 RX5 yX5_apartBy wsX5_apartBy) := goodIn_app (goodIn_of _ (by decide +kernel)) ggX5_code_X5_apartBy
theorem dX5_code_0 : decode cX5_code 0 = .ok (.iconst 0, 1) := by decide +kernel
theorem dX5_code_1 : decode cX5_code 1 = .ok (.istore_n 3, 1) := by decide +kernel
theorem dX5_code_2 : decode cX5_code 2 = .ok (.iload_n 3, 1) := by decide +kernel
theorem dX5_code_3 : decode cX5_code 3 = .ok (.bipush 25, 2) := by decide +kernel
theorem dX5_code_5 : decode cX5_code 5 = .ok (.if_icmp .ge 32, 3) := by decide +kernel
theorem dX5_code_8 : decode cX5_code 8 = .ok (.aload_n 0, 1) := by decide +kernel
theorem dX5_code_9 : decode cX5_code 9 = .ok (.iload_n 1, 1) := by decide +kernel
theorem dX5_code_10 : decode cX5_code 10 = .ok (.iload_n 3, 1) := by decide +kernel
theorem dX5_code_11 : decode cX5_code 11 = .ok (.invokevirtual 85, 3) := by decide +kernel
theorem dX5_code_14 : decode cX5_code 14 = .ok (.istore 4, 2) := by decide +kernel
theorem dX5_code_16 : decode cX5_code 16 = .ok (.iload 4, 2) := by decide +kernel
theorem dX5_code_18 : decode cX5_code 18 = .ok (.bipush (-5), 2) := by decide +kernel
theorem dX5_code_20 : decode cX5_code 20 = .ok (.if_icmp .eq 11, 3) := by decide +kernel
theorem dX5_code_23 : decode cX5_code 23 = .ok (.iload 4, 2) := by decide +kernel
theorem dX5_code_25 : decode cX5_code 25 = .ok (.iload_n 2, 1) := by decide +kernel
theorem dX5_code_26 : decode cX5_code 26 = .ok (.if_icmp .gt 5, 3) := by decide +kernel
theorem dX5_code_29 : decode cX5_code 29 = .ok (.iload_n 3, 1) := by decide +kernel
theorem dX5_code_30 : decode cX5_code 30 = .ok (.ireturn, 1) := by decide +kernel
theorem dX5_code_31 : decode cX5_code 31 = .ok (.iinc 3 1, 3) := by decide +kernel
theorem dX5_code_34 : decode cX5_code 34 = .ok (.goto (-32), 3) := by decide +kernel
theorem dX5_code_37 : decode cX5_code 37 = .ok (.bipush 25, 2) := by decide +kernel
theorem dX5_code_39 : decode cX5_code 39 = .ok (.ireturn, 1) := by decide +kernel
theorem dX5_bits_0 : decode cX5_bits 0 = .ok (.iload_n 0, 1) := by decide +kernel
theorem dX5_bits_1 : decode cX5_bits 1 = .ok (.ifCond .ne 7, 3) := by decide +kernel
theorem dX5_bits_4 : decode cX5_bits 4 = .ok (.iconst 1, 1) := by decide +kernel
theorem dX5_bits_5 : decode cX5_bits 5 = .ok (.goto 35, 3) := by decide +kernel
theorem dX5_bits_8 : decode cX5_bits 8 = .ok (.iload_n 0, 1) := by decide +kernel
theorem dX5_bits_9 : decode cX5_bits 9 = .ok (.iconst 3, 1) := by decide +kernel
theorem dX5_bits_10 : decode cX5_bits 10 = .ok (.if_icmp .ge 7, 3) := by decide +kernel
theorem dX5_bits_13 : decode cX5_bits 13 = .ok (.iconst 3, 1) := by decide +kernel
theorem dX5_bits_14 : decode cX5_bits 14 = .ok (.goto 26, 3) := by decide +kernel
theorem dX5_bits_17 : decode cX5_bits 17 = .ok (.iload_n 0, 1) := by decide +kernel
theorem dX5_bits_18 : decode cX5_bits 18 = .ok (.bipush 9, 2) := by decide +kernel
theorem dX5_bits_20 : decode cX5_bits 20 = .ok (.if_icmp .ge 7, 3) := by decide +kernel
theorem dX5_bits_23 : decode cX5_bits 23 = .ok (.iconst 5, 1) := by decide +kernel
theorem dX5_bits_24 : decode cX5_bits 24 = .ok (.goto 16, 3) := by decide +kernel
theorem dX5_bits_27 : decode cX5_bits 27 = .ok (.iload_n 0, 1) := by decide +kernel
theorem dX5_bits_28 : decode cX5_bits 28 = .ok (.bipush 25, 2) := by decide +kernel
theorem dX5_bits_30 : decode cX5_bits 30 = .ok (.if_icmp .ge 8, 3) := by decide +kernel
theorem dX5_bits_33 : decode cX5_bits 33 = .ok (.bipush 7, 2) := by decide +kernel
theorem dX5_bits_35 : decode cX5_bits 35 = .ok (.goto 5, 3) := by decide +kernel
theorem dX5_bits_38 : decode cX5_bits 38 = .ok (.bipush 66, 2) := by decide +kernel
theorem dX5_bits_40 : decode cX5_bits 40 = .ok (.ireturn, 1) := by decide +kernel
set_option maxRecDepth 20000 in
theorem ggX5_spends_X5_code : GoodIn wsX5_spends wsX5_code := goodIn_r _ [5, 6, 7, 8, 4, 9, 10, 11, 12, 13, 14, 15, 16, 17, 18, 19, 20, 21, 22, 23, 24, 25, 26, 27, 28, 29, 30, 31, 35, 36, 37, 38, 39, 40, 41, 42, 43, 44, 45, 46, 47, 48] (by decide +kernel) (by decide +kernel)
set_option maxRecDepth 20000 in
theorem gX5_spends_X5_code : GoodIn wsX5_spends (wsV RX5 88 RX5 yX5_code wsX5_code) := goodIn_app (goodIn_of _ (by decide +kernel)) ggX5_spends_X5_code
set_option maxRecDepth 20000 in
theorem ggX5_spends_X5_bits : GoodIn wsX5_spends wsX5_bits := goodIn_r _ [34] (by decide +kernel) (by decide +kernel)
set_option maxRecDepth 20000 in
theorem gX5_spends_X5_bits : GoodIn wsX5_spends (va_wsS RX5 91 yX5_bits wsX5_bits) := goodIn_app (goodIn_of _ (by decide +kernel)) ggX5_spends_X5_bits
theorem dX5_spends_0 : decode cX5_spends 0 = .ok (.iconst 0, 1) := by decide +kernel
theorem dX5_spends_1 : decode cX5_spends 1 = .ok (.istore_n 2, 1) := by decide +kernel
theorem dX5_spends_2 : decode cX5_spends 2 = .ok (.iconst 0, 1) := by decide +kernel
theorem dX5_spends_3 : decode cX5_spends 3 = .ok (.istore_n 3, 1) := by decide +kernel
theorem dX5_spends_4 : decode cX5_spends 4 = .ok (.iload_n 3, 1) := by decide +kernel
theorem dX5_spends_5 : decode cX5_spends 5 = .ok (.bipush 9, 2) := by decide +kernel
theorem dX5_spends_7 : decode cX5_spends 7 = .ok (.if_icmp .ge 21, 3) := by decide +kernel
theorem dX5_spends_10 : decode cX5_spends 10 = .ok (.iload_n 2, 1) := by decide +kernel
theorem dX5_spends_11 : decode cX5_spends 11 = .ok (.aload_n 0, 1) := by decide +kernel
theorem dX5_spends_12 : decode cX5_spends 12 = .ok (.iload_n 3, 1) := by decide +kernel
theorem dX5_spends_13 : decode cX5_spends 13 = .ok (.iload_n 1, 1) := by decide +kernel
theorem dX5_spends_14 : decode cX5_spends 14 = .ok (.invokevirtual 88, 3) := by decide +kernel
theorem dX5_spends_17 : decode cX5_spends 17 = .ok (.invokestatic 91, 3) := by decide +kernel
theorem dX5_spends_20 : decode cX5_spends 20 = .ok (.iadd, 1) := by decide +kernel
theorem dX5_spends_21 : decode cX5_spends 21 = .ok (.istore_n 2, 1) := by decide +kernel
theorem dX5_spends_22 : decode cX5_spends 22 = .ok (.iinc 3 1, 3) := by decide +kernel
theorem dX5_spends_25 : decode cX5_spends 25 = .ok (.goto (-21), 3) := by decide +kernel
theorem dX5_spends_28 : decode cX5_spends 28 = .ok (.iload_n 2, 1) := by decide +kernel
theorem dX5_spends_29 : decode cX5_spends 29 = .ok (.ireturn, 1) := by decide +kernel
set_option maxRecDepth 20000 in
theorem ggX5_needs_X5_spends : GoodIn wsX5_needs wsX5_spends := goodIn_r _ [6, 7, 8, 9, 5, 10, 11, 12, 13, 14, 15, 16, 17, 18, 19, 20, 1, 21, 22, 23, 24, 25, 26, 27, 28, 29, 30, 31, 32, 33, 34, 35, 36, 37, 38, 39, 40, 41, 42, 43, 44, 45, 46, 47, 48, 49, 50, 51, 52] (by decide +kernel) (by decide +kernel)
set_option maxRecDepth 20000 in
theorem gX5_needs_X5_spends : GoodIn wsX5_needs (wsV RX5 94 RX5 yX5_spends wsX5_spends) := goodIn_app (goodIn_of _ (by decide +kernel)) ggX5_needs_X5_spends
theorem dX5_needs_0 : decode cX5_needs 0 = .ok (.aload_n 0, 1) := by decide +kernel
theorem dX5_needs_1 : decode cX5_needs 1 = .ok (.getfield 7, 3) := by decide +kernel
theorem dX5_needs_4 : decode cX5_needs 4 = .ok (.sipush 433, 3) := by decide +kernel
theorem dX5_needs_7 : decode cX5_needs 7 = .ok (.iaload, 1) := by decide +kernel
theorem dX5_needs_8 : decode cX5_needs 8 = .ok (.istore_n 1, 1) := by decide +kernel
theorem dX5_needs_9 : decode cX5_needs 9 = .ok (.aload_n 0, 1) := by decide +kernel
theorem dX5_needs_10 : decode cX5_needs 10 = .ok (.iload_n 1, 1) := by decide +kernel
theorem dX5_needs_11 : decode cX5_needs 11 = .ok (.invokevirtual 94, 3) := by decide +kernel
theorem dX5_needs_14 : decode cX5_needs 14 = .ok (.aload_n 0, 1) := by decide +kernel
theorem dX5_needs_15 : decode cX5_needs 15 = .ok (.getfield 7, 3) := by decide +kernel
theorem dX5_needs_18 : decode cX5_needs 18 = .ok (.sipush 432, 3) := by decide +kernel
theorem dX5_needs_21 : decode cX5_needs 21 = .ok (.iaload, 1) := by decide +kernel
theorem dX5_needs_22 : decode cX5_needs 22 = .ok (.aload_n 0, 1) := by decide +kernel
theorem dX5_needs_23 : decode cX5_needs 23 = .ok (.getfield 7, 3) := by decide +kernel
theorem dX5_needs_26 : decode cX5_needs 26 = .ok (.sipush 435, 3) := by decide +kernel
theorem dX5_needs_29 : decode cX5_needs 29 = .ok (.iaload, 1) := by decide +kernel
theorem dX5_needs_30 : decode cX5_needs 30 = .ok (.iadd, 1) := by decide +kernel
theorem dX5_needs_31 : decode cX5_needs 31 = .ok (.if_icmp .le 9, 3) := by decide +kernel
theorem dX5_needs_34 : decode cX5_needs 34 = .ok (.iinc 1 1, 3) := by decide +kernel
theorem dX5_needs_37 : decode cX5_needs 37 = .ok (.goto (-28), 3) := by decide +kernel
theorem dX5_needs_40 : decode cX5_needs 40 = .ok (.iload_n 1, 1) := by decide +kernel
theorem dX5_needs_41 : decode cX5_needs 41 = .ok (.ireturn, 1) := by decide +kernel
set_option maxRecDepth 20000 in
theorem ggX5_whole_X5_apart : GoodIn wsX5_whole wsX5_apart := goodIn_r _ [5, 6, 7, 8, 4, 9, 10, 11, 12, 13, 14, 15, 16, 17, 18, 19, 20, 21, 22, 23, 24, 25, 26, 27, 28, 29, 30, 31, 32, 33, 34, 35] (by decide +kernel) (by decide +kernel)
set_option maxRecDepth 20000 in
theorem gX5_whole_X5_apart : GoodIn wsX5_whole (wsV RX5 82 RX5 yX5_apart wsX5_apart) := goodIn_app (goodIn_of _ (by decide +kernel)) ggX5_whole_X5_apart
theorem dX5_whole_0 : decode cX5_whole 0 = .ok (.iconst 0, 1) := by decide +kernel
theorem dX5_whole_1 : decode cX5_whole 1 = .ok (.istore_n 3, 1) := by decide +kernel
theorem dX5_whole_2 : decode cX5_whole 2 = .ok (.iconst 0, 1) := by decide +kernel
theorem dX5_whole_3 : decode cX5_whole 3 = .ok (.istore 4, 2) := by decide +kernel
theorem dX5_whole_5 : decode cX5_whole 5 = .ok (.iload 4, 2) := by decide +kernel
theorem dX5_whole_7 : decode cX5_whole 7 = .ok (.bipush 9, 2) := by decide +kernel
theorem dX5_whole_9 : decode cX5_whole 9 = .ok (.if_icmp .ge 22, 3) := by decide +kernel
theorem dX5_whole_12 : decode cX5_whole 12 = .ok (.iload_n 3, 1) := by decide +kernel
theorem dX5_whole_13 : decode cX5_whole 13 = .ok (.aload_n 0, 1) := by decide +kernel
theorem dX5_whole_14 : decode cX5_whole 14 = .ok (.iload_n 1, 1) := by decide +kernel
theorem dX5_whole_15 : decode cX5_whole 15 = .ok (.iload_n 2, 1) := by decide +kernel
theorem dX5_whole_16 : decode cX5_whole 16 = .ok (.iload 4, 2) := by decide +kernel
theorem dX5_whole_18 : decode cX5_whole 18 = .ok (.iconst 0, 1) := by decide +kernel
theorem dX5_whole_19 : decode cX5_whole 19 = .ok (.iconst 0, 1) := by decide +kernel
theorem dX5_whole_20 : decode cX5_whole 20 = .ok (.invokevirtual 82, 3) := by decide +kernel
theorem dX5_whole_23 : decode cX5_whole 23 = .ok (.iadd, 1) := by decide +kernel
theorem dX5_whole_24 : decode cX5_whole 24 = .ok (.istore_n 3, 1) := by decide +kernel
theorem dX5_whole_25 : decode cX5_whole 25 = .ok (.iinc 4 1, 3) := by decide +kernel
theorem dX5_whole_28 : decode cX5_whole 28 = .ok (.goto (-23), 3) := by decide +kernel
theorem dX5_whole_31 : decode cX5_whole 31 = .ok (.iload_n 3, 1) := by decide +kernel
theorem dX5_whole_32 : decode cX5_whole 32 = .ok (.ireturn, 1) := by decide +kernel
set_option maxRecDepth 20000 in
theorem ggX5_puts_X5_columnOf : GoodIn wsX5_puts wsX5_columnOf := goodIn_r _ [9] (by decide +kernel) (by decide +kernel)
set_option maxRecDepth 20000 in
theorem gX5_puts_X5_columnOf : GoodIn wsX5_puts (va_wsS RX5 75 yX5_columnOf wsX5_columnOf) := goodIn_app (goodIn_of _ (by decide +kernel)) ggX5_puts_X5_columnOf
set_option maxRecDepth 20000 in
theorem ggX5_puts_X5_rowOf : GoodIn wsX5_puts wsX5_rowOf := goodIn_r _ [12] (by decide +kernel) (by decide +kernel)
set_option maxRecDepth 20000 in
theorem gX5_puts_X5_rowOf : GoodIn wsX5_puts (va_wsS RX5 79 yX5_rowOf wsX5_rowOf) := goodIn_app (goodIn_of _ (by decide +kernel)) ggX5_puts_X5_rowOf
set_option maxRecDepth 20000 in
theorem ggX5_puts_X5_cell : GoodIn wsX5_puts wsX5_cell := goodIn_r _ [15] (by decide +kernel) (by decide +kernel)
set_option maxRecDepth 20000 in
theorem gX5_puts_X5_cell : GoodIn wsX5_puts (va_wsS RX5 54 yX5_cell wsX5_cell) := goodIn_app (goodIn_of _ (by decide +kernel)) ggX5_puts_X5_cell
theorem dX5_puts_0 : decode cX5_puts 0 = .ok (.iconst 0, 1) := by decide +kernel
theorem dX5_puts_1 : decode cX5_puts 1 = .ok (.istore_n 2, 1) := by decide +kernel
theorem dX5_puts_2 : decode cX5_puts 2 = .ok (.iload_n 2, 1) := by decide +kernel
theorem dX5_puts_3 : decode cX5_puts 3 = .ok (.sipush 144, 3) := by decide +kernel
theorem dX5_puts_6 : decode cX5_puts 6 = .ok (.if_icmp .ge 27, 3) := by decide +kernel
theorem dX5_puts_9 : decode cX5_puts 9 = .ok (.aload_n 0, 1) := by decide +kernel
theorem dX5_puts_10 : decode cX5_puts 10 = .ok (.getfield 25, 3) := by decide +kernel
theorem dX5_puts_13 : decode cX5_puts 13 = .ok (.iload_n 2, 1) := by decide +kernel
theorem dX5_puts_14 : decode cX5_puts 14 = .ok (.aload_n 0, 1) := by decide +kernel
theorem dX5_puts_15 : decode cX5_puts 15 = .ok (.getfield 7, 3) := by decide +kernel
theorem dX5_puts_18 : decode cX5_puts 18 = .ok (.sipush 144, 3) := by decide +kernel
theorem dX5_puts_21 : decode cX5_puts 21 = .ok (.iload_n 1, 1) := by decide +kernel
theorem dX5_puts_22 : decode cX5_puts 22 = .ok (.imul, 1) := by decide +kernel
theorem dX5_puts_23 : decode cX5_puts 23 = .ok (.iload_n 2, 1) := by decide +kernel
theorem dX5_puts_24 : decode cX5_puts 24 = .ok (.iadd, 1) := by decide +kernel
theorem dX5_puts_25 : decode cX5_puts 25 = .ok (.iaload, 1) := by decide +kernel
theorem dX5_puts_26 : decode cX5_puts 26 = .ok (.iastore, 1) := by decide +kernel
theorem dX5_puts_27 : decode cX5_puts 27 = .ok (.iinc 2 1, 3) := by decide +kernel
theorem dX5_puts_30 : decode cX5_puts 30 = .ok (.goto (-28), 3) := by decide +kernel
theorem dX5_puts_33 : decode cX5_puts 33 = .ok (.iconst 0, 1) := by decide +kernel
theorem dX5_puts_34 : decode cX5_puts 34 = .ok (.istore_n 2, 1) := by decide +kernel
theorem dX5_puts_35 : decode cX5_puts 35 = .ok (.iload_n 2, 1) := by decide +kernel
theorem dX5_puts_36 : decode cX5_puts 36 = .ok (.bipush 9, 2) := by decide +kernel
theorem dX5_puts_38 : decode cX5_puts 38 = .ok (.if_icmp .ge 116, 3) := by decide +kernel
theorem dX5_puts_41 : decode cX5_puts 41 = .ok (.iconst 0, 1) := by decide +kernel
theorem dX5_puts_42 : decode cX5_puts 42 = .ok (.istore_n 3, 1) := by decide +kernel
theorem dX5_puts_43 : decode cX5_puts 43 = .ok (.iload_n 3, 1) := by decide +kernel
theorem dX5_puts_44 : decode cX5_puts 44 = .ok (.bipush 16, 2) := by decide +kernel
theorem dX5_puts_46 : decode cX5_puts 46 = .ok (.if_icmp .ge 102, 3) := by decide +kernel
theorem dX5_puts_49 : decode cX5_puts 49 = .ok (.iload_n 2, 1) := by decide +kernel
theorem dX5_puts_50 : decode cX5_puts 50 = .ok (.invokestatic 75, 3) := by decide +kernel
theorem dX5_puts_53 : decode cX5_puts 53 = .ok (.iload_n 3, 1) := by decide +kernel
theorem dX5_puts_54 : decode cX5_puts 54 = .ok (.iconst 4, 1) := by decide +kernel
theorem dX5_puts_55 : decode cX5_puts 55 = .ok (.irem, 1) := by decide +kernel
theorem dX5_puts_56 : decode cX5_puts 56 = .ok (.iadd, 1) := by decide +kernel
theorem dX5_puts_57 : decode cX5_puts 57 = .ok (.istore 4, 2) := by decide +kernel
theorem dX5_puts_59 : decode cX5_puts 59 = .ok (.iload_n 2, 1) := by decide +kernel
theorem dX5_puts_60 : decode cX5_puts 60 = .ok (.invokestatic 79, 3) := by decide +kernel
theorem dX5_puts_63 : decode cX5_puts 63 = .ok (.iload_n 3, 1) := by decide +kernel
theorem dX5_puts_64 : decode cX5_puts 64 = .ok (.iconst 4, 1) := by decide +kernel
theorem dX5_puts_65 : decode cX5_puts 65 = .ok (.idiv, 1) := by decide +kernel
theorem dX5_puts_66 : decode cX5_puts 66 = .ok (.iadd, 1) := by decide +kernel
theorem dX5_puts_67 : decode cX5_puts 67 = .ok (.istore 5, 2) := by decide +kernel
theorem dX5_puts_69 : decode cX5_puts 69 = .ok (.aload_n 0, 1) := by decide +kernel
theorem dX5_puts_70 : decode cX5_puts 70 = .ok (.getfield 28, 3) := by decide +kernel
theorem dX5_puts_73 : decode cX5_puts 73 = .ok (.iload_n 2, 1) := by decide +kernel
theorem dX5_puts_74 : decode cX5_puts 74 = .ok (.iaload, 1) := by decide +kernel
theorem dX5_puts_75 : decode cX5_puts 75 = .ok (.istore 6, 2) := by decide +kernel
theorem dX5_puts_77 : decode cX5_puts 77 = .ok (.aload_n 0, 1) := by decide +kernel
theorem dX5_puts_78 : decode cX5_puts 78 = .ok (.getfield 7, 3) := by decide +kernel
theorem dX5_puts_81 : decode cX5_puts 81 = .ok (.iload_n 1, 1) := by decide +kernel
theorem dX5_puts_82 : decode cX5_puts 82 = .ok (.iload 4, 2) := by decide +kernel
theorem dX5_puts_84 : decode cX5_puts 84 = .ok (.iload 5, 2) := by decide +kernel
theorem dX5_puts_86 : decode cX5_puts 86 = .ok (.invokestatic 54, 3) := by decide +kernel
theorem dX5_puts_89 : decode cX5_puts 89 = .ok (.iload 6, 2) := by decide +kernel
theorem dX5_puts_91 : decode cX5_puts 91 = .ok (.bipush 25, 2) := by decide +kernel
theorem dX5_puts_93 : decode cX5_puts 93 = .ok (.if_icmp .ne 19, 3) := by decide +kernel
theorem dX5_puts_96 : decode cX5_puts 96 = .ok (.aload_n 0, 1) := by decide +kernel
theorem dX5_puts_97 : decode cX5_puts 97 = .ok (.getfield 7, 3) := by decide +kernel
theorem dX5_puts_100 : decode cX5_puts 100 = .ok (.iconst 0, 1) := by decide +kernel
theorem dX5_puts_101 : decode cX5_puts 101 = .ok (.iload 4, 2) := by decide +kernel
theorem dX5_puts_103 : decode cX5_puts 103 = .ok (.iload 5, 2) := by decide +kernel
theorem dX5_puts_105 : decode cX5_puts 105 = .ok (.invokestatic 54, 3) := by decide +kernel
theorem dX5_puts_108 : decode cX5_puts 108 = .ok (.iaload, 1) := by decide +kernel
theorem dX5_puts_109 : decode cX5_puts 109 = .ok (.goto 32, 3) := by decide +kernel
theorem dX5_puts_112 : decode cX5_puts 112 = .ok (.aload_n 0, 1) := by decide +kernel
theorem dX5_puts_113 : decode cX5_puts 113 = .ok (.getfield 25, 3) := by decide +kernel
theorem dX5_puts_116 : decode cX5_puts 116 = .ok (.iconst 0, 1) := by decide +kernel
theorem dX5_puts_117 : decode cX5_puts 117 = .ok (.iload 4, 2) := by decide +kernel
theorem dX5_puts_119 : decode cX5_puts 119 = .ok (.aload_n 0, 1) := by decide +kernel
theorem dX5_puts_120 : decode cX5_puts 120 = .ok (.getfield 19, 3) := by decide +kernel
theorem dX5_puts_123 : decode cX5_puts 123 = .ok (.iload 6, 2) := by decide +kernel
theorem dX5_puts_125 : decode cX5_puts 125 = .ok (.iaload, 1) := by decide +kernel
theorem dX5_puts_126 : decode cX5_puts 126 = .ok (.iadd, 1) := by decide +kernel
theorem dX5_puts_127 : decode cX5_puts 127 = .ok (.iload 5, 2) := by decide +kernel
theorem dX5_puts_129 : decode cX5_puts 129 = .ok (.aload_n 0, 1) := by decide +kernel
theorem dX5_puts_130 : decode cX5_puts 130 = .ok (.getfield 22, 3) := by decide +kernel
theorem dX5_puts_133 : decode cX5_puts 133 = .ok (.iload 6, 2) := by decide +kernel
theorem dX5_puts_135 : decode cX5_puts 135 = .ok (.iaload, 1) := by decide +kernel
theorem dX5_puts_136 : decode cX5_puts 136 = .ok (.iadd, 1) := by decide +kernel
theorem dX5_puts_137 : decode cX5_puts 137 = .ok (.invokestatic 54, 3) := by decide +kernel
theorem dX5_puts_140 : decode cX5_puts 140 = .ok (.iaload, 1) := by decide +kernel
theorem dX5_puts_141 : decode cX5_puts 141 = .ok (.iastore, 1) := by decide +kernel
theorem dX5_puts_142 : decode cX5_puts 142 = .ok (.iinc 3 1, 3) := by decide +kernel
theorem dX5_puts_145 : decode cX5_puts 145 = .ok (.goto (-102), 3) := by decide +kernel
theorem dX5_puts_148 : decode cX5_puts 148 = .ok (.iinc 2 1, 3) := by decide +kernel
theorem dX5_puts_151 : decode cX5_puts 151 = .ok (.goto (-116), 3) := by decide +kernel
theorem dX5_puts_154 : decode cX5_puts 154 = .ok (.return_, 1) := by decide +kernel
set_option maxRecDepth 20000 in
theorem ggX5_sends_X5_needs : GoodIn wsX5_sends wsX5_needs := goodIn_r _ [7, 2, 8, 9, 10, 6, 11, 12, 13, 14, 15, 16, 17, 18, 19, 20, 21, 22, 23, 24, 25, 26, 27, 28, 29, 30, 31, 32, 33, 34, 35, 36, 37, 38, 39, 40, 41, 42, 43, 57, 58, 59, 60, 61, 62, 63, 64, 65, 66, 67, 68, 69, 70] (by decide +kernel) (by decide +kernel)
set_option maxRecDepth 20000 in
theorem gX5_sends_X5_needs : GoodIn wsX5_sends (wsV RX5 97 RX5 yX5_needs wsX5_needs) := goodIn_app (goodIn_of _ (by decide +kernel)) ggX5_sends_X5_needs
set_option maxRecDepth 20000 in
theorem ggX5_sends_X5_code : GoodIn wsX5_sends wsX5_code := goodIn_r _ [15, 16, 17, 18, 6, 19, 20, 21, 22, 23, 24, 25, 2, 26, 27, 28, 29, 30, 31, 32, 33, 34, 35, 36, 37, 38, 39, 40, 57, 58, 59, 60, 61, 62, 63, 64, 65, 66, 67, 68, 69, 70] (by decide +kernel) (by decide +kernel)
set_option maxRecDepth 20000 in
theorem gX5_sends_X5_code : GoodIn wsX5_sends (wsV RX5 88 RX5 yX5_code wsX5_code) := goodIn_app (goodIn_of _ (by decide +kernel)) ggX5_sends_X5_code
set_option maxRecDepth 20000 in
theorem ggX5_sends_X5_bits : GoodIn wsX5_sends wsX5_bits := goodIn_r _ [43] (by decide +kernel) (by decide +kernel)
set_option maxRecDepth 20000 in
theorem gX5_sends_X5_bits : GoodIn wsX5_sends (va_wsS RX5 91 yX5_bits wsX5_bits) := goodIn_app (goodIn_of _ (by decide +kernel)) ggX5_sends_X5_bits
set_option maxRecDepth 20000 in
theorem ggX5_sends_X5_puts : GoodIn wsX5_sends wsX5_puts := goodIn_r _ [47, 48, 2, 1, 20, 21, 26, 27, 6, 28, 29, 30, 31, 38, 39, 40, 57, 58, 59, 60, 61, 62, 63, 64, 65, 66, 67, 68, 69, 70] (by decide +kernel) (by decide +kernel)
set_option maxRecDepth 20000 in
theorem gX5_sends_X5_puts : GoodIn wsX5_sends (wsV RX5 101 RX5 yX5_puts wsX5_puts) := goodIn_app (goodIn_of _ (by decide +kernel)) ggX5_sends_X5_puts
set_option maxRecDepth 20000 in
theorem ggX5_sends_X5_logs : GoodIn wsX5_sends wsX5_logs := goodIn_r _ [52, 2, 1, 53, 54, 55, 6, 56, 22, 23, 24, 25, 26, 27, 28, 29, 30, 31, 32, 33, 34, 35, 36, 37, 38, 39, 40, 57, 58, 59, 60, 61, 62, 63, 64, 65, 66, 67, 68, 69, 70] (by decide +kernel) (by decide +kernel)
set_option maxRecDepth 20000 in
theorem gX5_sends_X5_logs : GoodIn wsX5_sends (wsV RX5 105 RX5 yX5_logs wsX5_logs) := goodIn_app (goodIn_of _ (by decide +kernel)) ggX5_sends_X5_logs
theorem dX5_sends_0 : decode cX5_sends 0 = .ok (.iload_n 1, 1) := by decide +kernel
theorem dX5_sends_1 : decode cX5_sends 1 = .ok (.ifCond .eq 8, 3) := by decide +kernel
theorem dX5_sends_4 : decode cX5_sends 4 = .ok (.bipush (-5), 2) := by decide +kernel
theorem dX5_sends_6 : decode cX5_sends 6 = .ok (.goto 7, 3) := by decide +kernel
theorem dX5_sends_9 : decode cX5_sends 9 = .ok (.aload_n 0, 1) := by decide +kernel
theorem dX5_sends_10 : decode cX5_sends 10 = .ok (.invokevirtual 97, 3) := by decide +kernel
theorem dX5_sends_13 : decode cX5_sends 13 = .ok (.istore_n 3, 1) := by decide +kernel
theorem dX5_sends_14 : decode cX5_sends 14 = .ok (.iconst 0, 1) := by decide +kernel
theorem dX5_sends_15 : decode cX5_sends 15 = .ok (.istore 4, 2) := by decide +kernel
theorem dX5_sends_17 : decode cX5_sends 17 = .ok (.iconst 0, 1) := by decide +kernel
theorem dX5_sends_18 : decode cX5_sends 18 = .ok (.istore 5, 2) := by decide +kernel
theorem dX5_sends_20 : decode cX5_sends 20 = .ok (.iload 5, 2) := by decide +kernel
theorem dX5_sends_22 : decode cX5_sends 22 = .ok (.bipush 9, 2) := by decide +kernel
theorem dX5_sends_24 : decode cX5_sends 24 = .ok (.if_icmp .ge 47, 3) := by decide +kernel
theorem dX5_sends_27 : decode cX5_sends 27 = .ok (.aload_n 0, 1) := by decide +kernel
theorem dX5_sends_28 : decode cX5_sends 28 = .ok (.getfield 28, 3) := by decide +kernel
theorem dX5_sends_31 : decode cX5_sends 31 = .ok (.iload 5, 2) := by decide +kernel
theorem dX5_sends_33 : decode cX5_sends 33 = .ok (.iload_n 1, 1) := by decide +kernel
theorem dX5_sends_34 : decode cX5_sends 34 = .ok (.ifCond .eq 8, 3) := by decide +kernel
theorem dX5_sends_37 : decode cX5_sends 37 = .ok (.bipush 25, 2) := by decide +kernel
theorem dX5_sends_39 : decode cX5_sends 39 = .ok (.goto 10, 3) := by decide +kernel
theorem dX5_sends_42 : decode cX5_sends 42 = .ok (.aload_n 0, 1) := by decide +kernel
theorem dX5_sends_43 : decode cX5_sends 43 = .ok (.iload 5, 2) := by decide +kernel
theorem dX5_sends_45 : decode cX5_sends 45 = .ok (.iload_n 3, 1) := by decide +kernel
theorem dX5_sends_46 : decode cX5_sends 46 = .ok (.invokevirtual 88, 3) := by decide +kernel
theorem dX5_sends_49 : decode cX5_sends 49 = .ok (.iastore, 1) := by decide +kernel
theorem dX5_sends_50 : decode cX5_sends 50 = .ok (.iload 4, 2) := by decide +kernel
theorem dX5_sends_52 : decode cX5_sends 52 = .ok (.aload_n 0, 1) := by decide +kernel
theorem dX5_sends_53 : decode cX5_sends 53 = .ok (.getfield 28, 3) := by decide +kernel
theorem dX5_sends_56 : decode cX5_sends 56 = .ok (.iload 5, 2) := by decide +kernel
theorem dX5_sends_58 : decode cX5_sends 58 = .ok (.iaload, 1) := by decide +kernel
theorem dX5_sends_59 : decode cX5_sends 59 = .ok (.invokestatic 91, 3) := by decide +kernel
theorem dX5_sends_62 : decode cX5_sends 62 = .ok (.iadd, 1) := by decide +kernel
theorem dX5_sends_63 : decode cX5_sends 63 = .ok (.istore 4, 2) := by decide +kernel
theorem dX5_sends_65 : decode cX5_sends 65 = .ok (.iinc 5 1, 3) := by decide +kernel
theorem dX5_sends_68 : decode cX5_sends 68 = .ok (.goto (-48), 3) := by decide +kernel
theorem dX5_sends_71 : decode cX5_sends 71 = .ok (.aload_n 0, 1) := by decide +kernel
theorem dX5_sends_72 : decode cX5_sends 72 = .ok (.iconst 1, 1) := by decide +kernel
theorem dX5_sends_73 : decode cX5_sends 73 = .ok (.invokevirtual 101, 3) := by decide +kernel
theorem dX5_sends_76 : decode cX5_sends 76 = .ok (.iload_n 2, 1) := by decide +kernel
theorem dX5_sends_77 : decode cX5_sends 77 = .ok (.ifCond .ne 8, 3) := by decide +kernel
theorem dX5_sends_80 : decode cX5_sends 80 = .ok (.aload_n 0, 1) := by decide +kernel
theorem dX5_sends_81 : decode cX5_sends 81 = .ok (.iconst 2, 1) := by decide +kernel
theorem dX5_sends_82 : decode cX5_sends 82 = .ok (.invokevirtual 101, 3) := by decide +kernel
theorem dX5_sends_85 : decode cX5_sends 85 = .ok (.aload_n 0, 1) := by decide +kernel
theorem dX5_sends_86 : decode cX5_sends 86 = .ok (.getfield 7, 3) := by decide +kernel
theorem dX5_sends_89 : decode cX5_sends 89 = .ok (.sipush 432, 3) := by decide +kernel
theorem dX5_sends_92 : decode cX5_sends 92 = .ok (.iaload, 1) := by decide +kernel
theorem dX5_sends_93 : decode cX5_sends 93 = .ok (.aload_n 0, 1) := by decide +kernel
theorem dX5_sends_94 : decode cX5_sends 94 = .ok (.getfield 7, 3) := by decide +kernel
theorem dX5_sends_97 : decode cX5_sends 97 = .ok (.sipush 435, 3) := by decide +kernel
theorem dX5_sends_100 : decode cX5_sends 100 = .ok (.iaload, 1) := by decide +kernel
theorem dX5_sends_101 : decode cX5_sends 101 = .ok (.iadd, 1) := by decide +kernel
theorem dX5_sends_102 : decode cX5_sends 102 = .ok (.iload 4, 2) := by decide +kernel
theorem dX5_sends_104 : decode cX5_sends 104 = .ok (.isub, 1) := by decide +kernel
theorem dX5_sends_105 : decode cX5_sends 105 = .ok (.istore 5, 2) := by decide +kernel
theorem dX5_sends_107 : decode cX5_sends 107 = .ok (.aload_n 0, 1) := by decide +kernel
theorem dX5_sends_108 : decode cX5_sends 108 = .ok (.getfield 7, 3) := by decide +kernel
theorem dX5_sends_111 : decode cX5_sends 111 = .ok (.sipush 435, 3) := by decide +kernel
theorem dX5_sends_114 : decode cX5_sends 114 = .ok (.iload 5, 2) := by decide +kernel
theorem dX5_sends_116 : decode cX5_sends 116 = .ok (.sipush 600, 3) := by decide +kernel
theorem dX5_sends_119 : decode cX5_sends 119 = .ok (.if_icmp .le 9, 3) := by decide +kernel
theorem dX5_sends_122 : decode cX5_sends 122 = .ok (.sipush 600, 3) := by decide +kernel
theorem dX5_sends_125 : decode cX5_sends 125 = .ok (.goto 5, 3) := by decide +kernel
theorem dX5_sends_128 : decode cX5_sends 128 = .ok (.iload 5, 2) := by decide +kernel
theorem dX5_sends_130 : decode cX5_sends 130 = .ok (.iastore, 1) := by decide +kernel
theorem dX5_sends_131 : decode cX5_sends 131 = .ok (.aload_n 0, 1) := by decide +kernel
theorem dX5_sends_132 : decode cX5_sends 132 = .ok (.getfield 7, 3) := by decide +kernel
theorem dX5_sends_135 : decode cX5_sends 135 = .ok (.sipush 436, 3) := by decide +kernel
theorem dX5_sends_138 : decode cX5_sends 138 = .ok (.dup2, 1) := by decide +kernel
theorem dX5_sends_139 : decode cX5_sends 139 = .ok (.iaload, 1) := by decide +kernel
theorem dX5_sends_140 : decode cX5_sends 140 = .ok (.iconst 1, 1) := by decide +kernel
theorem dX5_sends_141 : decode cX5_sends 141 = .ok (.iadd, 1) := by decide +kernel
theorem dX5_sends_142 : decode cX5_sends 142 = .ok (.iastore, 1) := by decide +kernel
theorem dX5_sends_143 : decode cX5_sends 143 = .ok (.aload_n 0, 1) := by decide +kernel
theorem dX5_sends_144 : decode cX5_sends 144 = .ok (.getfield 7, 3) := by decide +kernel
theorem dX5_sends_147 : decode cX5_sends 147 = .ok (.sipush 437, 3) := by decide +kernel
theorem dX5_sends_150 : decode cX5_sends 150 = .ok (.dup2, 1) := by decide +kernel
theorem dX5_sends_151 : decode cX5_sends 151 = .ok (.iaload, 1) := by decide +kernel
theorem dX5_sends_152 : decode cX5_sends 152 = .ok (.iload_n 1, 1) := by decide +kernel
theorem dX5_sends_153 : decode cX5_sends 153 = .ok (.ifCond .eq 7, 3) := by decide +kernel
theorem dX5_sends_156 : decode cX5_sends 156 = .ok (.iconst 1, 1) := by decide +kernel
theorem dX5_sends_157 : decode cX5_sends 157 = .ok (.goto 4, 3) := by decide +kernel
theorem dX5_sends_160 : decode cX5_sends 160 = .ok (.iconst 0, 1) := by decide +kernel
theorem dX5_sends_161 : decode cX5_sends 161 = .ok (.iadd, 1) := by decide +kernel
theorem dX5_sends_162 : decode cX5_sends 162 = .ok (.iastore, 1) := by decide +kernel
theorem dX5_sends_163 : decode cX5_sends 163 = .ok (.aload_n 0, 1) := by decide +kernel
theorem dX5_sends_164 : decode cX5_sends 164 = .ok (.getfield 7, 3) := by decide +kernel
theorem dX5_sends_167 : decode cX5_sends 167 = .ok (.sipush 438, 3) := by decide +kernel
theorem dX5_sends_170 : decode cX5_sends 170 = .ok (.dup2, 1) := by decide +kernel
theorem dX5_sends_171 : decode cX5_sends 171 = .ok (.iaload, 1) := by decide +kernel
theorem dX5_sends_172 : decode cX5_sends 172 = .ok (.iload_n 2, 1) := by decide +kernel
theorem dX5_sends_173 : decode cX5_sends 173 = .ok (.ifCond .eq 7, 3) := by decide +kernel
theorem dX5_sends_176 : decode cX5_sends 176 = .ok (.iconst 1, 1) := by decide +kernel
theorem dX5_sends_177 : decode cX5_sends 177 = .ok (.goto 4, 3) := by decide +kernel
theorem dX5_sends_180 : decode cX5_sends 180 = .ok (.iconst 0, 1) := by decide +kernel
theorem dX5_sends_181 : decode cX5_sends 181 = .ok (.iadd, 1) := by decide +kernel
theorem dX5_sends_182 : decode cX5_sends 182 = .ok (.iastore, 1) := by decide +kernel
theorem dX5_sends_183 : decode cX5_sends 183 = .ok (.aload_n 0, 1) := by decide +kernel
theorem dX5_sends_184 : decode cX5_sends 184 = .ok (.getfield 7, 3) := by decide +kernel
theorem dX5_sends_187 : decode cX5_sends 187 = .ok (.sipush 439, 3) := by decide +kernel
theorem dX5_sends_190 : decode cX5_sends 190 = .ok (.dup2, 1) := by decide +kernel
theorem dX5_sends_191 : decode cX5_sends 191 = .ok (.iaload, 1) := by decide +kernel
theorem dX5_sends_192 : decode cX5_sends 192 = .ok (.iload 4, 2) := by decide +kernel
theorem dX5_sends_194 : decode cX5_sends 194 = .ok (.iadd, 1) := by decide +kernel
theorem dX5_sends_195 : decode cX5_sends 195 = .ok (.iastore, 1) := by decide +kernel
theorem dX5_sends_196 : decode cX5_sends 196 = .ok (.aload_n 0, 1) := by decide +kernel
theorem dX5_sends_197 : decode cX5_sends 197 = .ok (.getfield 7, 3) := by decide +kernel
theorem dX5_sends_200 : decode cX5_sends 200 = .ok (.sipush 440, 3) := by decide +kernel
theorem dX5_sends_203 : decode cX5_sends 203 = .ok (.iload_n 1, 1) := by decide +kernel
theorem dX5_sends_204 : decode cX5_sends 204 = .ok (.ifCond .eq 7, 3) := by decide +kernel
theorem dX5_sends_207 : decode cX5_sends 207 = .ok (.iconst 0, 1) := by decide +kernel
theorem dX5_sends_208 : decode cX5_sends 208 = .ok (.goto 13, 3) := by decide +kernel
theorem dX5_sends_211 : decode cX5_sends 211 = .ok (.aload_n 0, 1) := by decide +kernel
theorem dX5_sends_212 : decode cX5_sends 212 = .ok (.getfield 7, 3) := by decide +kernel
theorem dX5_sends_215 : decode cX5_sends 215 = .ok (.sipush 440, 3) := by decide +kernel
theorem dX5_sends_218 : decode cX5_sends 218 = .ok (.iaload, 1) := by decide +kernel
theorem dX5_sends_219 : decode cX5_sends 219 = .ok (.iconst 1, 1) := by decide +kernel
theorem dX5_sends_220 : decode cX5_sends 220 = .ok (.iadd, 1) := by decide +kernel
theorem dX5_sends_221 : decode cX5_sends 221 = .ok (.iastore, 1) := by decide +kernel
theorem dX5_sends_222 : decode cX5_sends 222 = .ok (.aload_n 0, 1) := by decide +kernel
theorem dX5_sends_223 : decode cX5_sends 223 = .ok (.iload 4, 2) := by decide +kernel
theorem dX5_sends_225 : decode cX5_sends 225 = .ok (.iload_n 3, 1) := by decide +kernel
theorem dX5_sends_226 : decode cX5_sends 226 = .ok (.iload_n 1, 1) := by decide +kernel
theorem dX5_sends_227 : decode cX5_sends 227 = .ok (.iload_n 2, 1) := by decide +kernel
theorem dX5_sends_228 : decode cX5_sends 228 = .ok (.invokevirtual 105, 3) := by decide +kernel
theorem dX5_sends_231 : decode cX5_sends 231 = .ok (.iload 4, 2) := by decide +kernel
theorem dX5_sends_233 : decode cX5_sends 233 = .ok (.ireturn, 1) := by decide +kernel
set_option maxRecDepth 20000 in
theorem ggX5_logs_X5_whole : GoodIn wsX5_logs wsX5_whole := goodIn_r _ [7, 8, 9, 10, 6, 11, 1, 12, 13, 14, 15, 16, 17, 18, 19, 20, 21, 22, 23, 24, 25, 26, 27, 28, 29, 30, 31, 32, 33, 34, 35, 36, 37, 38, 39, 40] (by decide +kernel) (by decide +kernel)
set_option maxRecDepth 20000 in
theorem gX5_logs_X5_whole : GoodIn wsX5_logs (wsV RX5 109 RX5 yX5_whole wsX5_whole) := goodIn_app (goodIn_of _ (by decide +kernel)) ggX5_logs_X5_whole
theorem dX5_logs_0 : decode cX5_logs 0 = .ok (.aload_n 0, 1) := by decide +kernel
theorem dX5_logs_1 : decode cX5_logs 1 = .ok (.getfield 7, 3) := by decide +kernel
theorem dX5_logs_4 : decode cX5_logs 4 = .ok (.sipush 441, 3) := by decide +kernel
theorem dX5_logs_7 : decode cX5_logs 7 = .ok (.iaload, 1) := by decide +kernel
theorem dX5_logs_8 : decode cX5_logs 8 = .ok (.bipush 8, 2) := by decide +kernel
theorem dX5_logs_10 : decode cX5_logs 10 = .ok (.if_icmp .ne 51, 3) := by decide +kernel
theorem dX5_logs_13 : decode cX5_logs 13 = .ok (.sipush 442, 3) := by decide +kernel
theorem dX5_logs_16 : decode cX5_logs 16 = .ok (.istore 5, 2) := by decide +kernel
theorem dX5_logs_18 : decode cX5_logs 18 = .ok (.iload 5, 2) := by decide +kernel
theorem dX5_logs_20 : decode cX5_logs 20 = .ok (.sipush 561, 3) := by decide +kernel
theorem dX5_logs_23 : decode cX5_logs 23 = .ok (.if_icmp .ge 26, 3) := by decide +kernel
theorem dX5_logs_26 : decode cX5_logs 26 = .ok (.aload_n 0, 1) := by decide +kernel
theorem dX5_logs_27 : decode cX5_logs 27 = .ok (.getfield 7, 3) := by decide +kernel
theorem dX5_logs_30 : decode cX5_logs 30 = .ok (.iload 5, 2) := by decide +kernel
theorem dX5_logs_32 : decode cX5_logs 32 = .ok (.aload_n 0, 1) := by decide +kernel
theorem dX5_logs_33 : decode cX5_logs 33 = .ok (.getfield 7, 3) := by decide +kernel
theorem dX5_logs_36 : decode cX5_logs 36 = .ok (.iload 5, 2) := by decide +kernel
theorem dX5_logs_38 : decode cX5_logs 38 = .ok (.bipush 17, 2) := by decide +kernel
theorem dX5_logs_40 : decode cX5_logs 40 = .ok (.iadd, 1) := by decide +kernel
theorem dX5_logs_41 : decode cX5_logs 41 = .ok (.iaload, 1) := by decide +kernel
theorem dX5_logs_42 : decode cX5_logs 42 = .ok (.iastore, 1) := by decide +kernel
theorem dX5_logs_43 : decode cX5_logs 43 = .ok (.iinc 5 1, 3) := by decide +kernel
theorem dX5_logs_46 : decode cX5_logs 46 = .ok (.goto (-28), 3) := by decide +kernel
theorem dX5_logs_49 : decode cX5_logs 49 = .ok (.aload_n 0, 1) := by decide +kernel
theorem dX5_logs_50 : decode cX5_logs 50 = .ok (.getfield 7, 3) := by decide +kernel
theorem dX5_logs_53 : decode cX5_logs 53 = .ok (.sipush 441, 3) := by decide +kernel
theorem dX5_logs_56 : decode cX5_logs 56 = .ok (.dup2, 1) := by decide +kernel
theorem dX5_logs_57 : decode cX5_logs 57 = .ok (.iaload, 1) := by decide +kernel
theorem dX5_logs_58 : decode cX5_logs 58 = .ok (.iconst 1, 1) := by decide +kernel
theorem dX5_logs_59 : decode cX5_logs 59 = .ok (.isub, 1) := by decide +kernel
theorem dX5_logs_60 : decode cX5_logs 60 = .ok (.iastore, 1) := by decide +kernel
theorem dX5_logs_61 : decode cX5_logs 61 = .ok (.sipush 442, 3) := by decide +kernel
theorem dX5_logs_64 : decode cX5_logs 64 = .ok (.bipush 17, 2) := by decide +kernel
theorem dX5_logs_66 : decode cX5_logs 66 = .ok (.aload_n 0, 1) := by decide +kernel
theorem dX5_logs_67 : decode cX5_logs 67 = .ok (.getfield 7, 3) := by decide +kernel
theorem dX5_logs_70 : decode cX5_logs 70 = .ok (.sipush 441, 3) := by decide +kernel
theorem dX5_logs_73 : decode cX5_logs 73 = .ok (.iaload, 1) := by decide +kernel
theorem dX5_logs_74 : decode cX5_logs 74 = .ok (.imul, 1) := by decide +kernel
theorem dX5_logs_75 : decode cX5_logs 75 = .ok (.iadd, 1) := by decide +kernel
theorem dX5_logs_76 : decode cX5_logs 76 = .ok (.istore 5, 2) := by decide +kernel
theorem dX5_logs_78 : decode cX5_logs 78 = .ok (.aload_n 0, 1) := by decide +kernel
theorem dX5_logs_79 : decode cX5_logs 79 = .ok (.getfield 7, 3) := by decide +kernel
theorem dX5_logs_82 : decode cX5_logs 82 = .ok (.iload 5, 2) := by decide +kernel
theorem dX5_logs_84 : decode cX5_logs 84 = .ok (.iload_n 1, 1) := by decide +kernel
theorem dX5_logs_85 : decode cX5_logs 85 = .ok (.iastore, 1) := by decide +kernel
theorem dX5_logs_86 : decode cX5_logs 86 = .ok (.aload_n 0, 1) := by decide +kernel
theorem dX5_logs_87 : decode cX5_logs 87 = .ok (.getfield 7, 3) := by decide +kernel
theorem dX5_logs_90 : decode cX5_logs 90 = .ok (.iload 5, 2) := by decide +kernel
theorem dX5_logs_92 : decode cX5_logs 92 = .ok (.iconst 1, 1) := by decide +kernel
theorem dX5_logs_93 : decode cX5_logs 93 = .ok (.iadd, 1) := by decide +kernel
theorem dX5_logs_94 : decode cX5_logs 94 = .ok (.iload_n 2, 1) := by decide +kernel
theorem dX5_logs_95 : decode cX5_logs 95 = .ok (.iastore, 1) := by decide +kernel
theorem dX5_logs_96 : decode cX5_logs 96 = .ok (.aload_n 0, 1) := by decide +kernel
theorem dX5_logs_97 : decode cX5_logs 97 = .ok (.getfield 7, 3) := by decide +kernel
theorem dX5_logs_100 : decode cX5_logs 100 = .ok (.iload 5, 2) := by decide +kernel
theorem dX5_logs_102 : decode cX5_logs 102 = .ok (.iconst 2, 1) := by decide +kernel
theorem dX5_logs_103 : decode cX5_logs 103 = .ok (.iadd, 1) := by decide +kernel
theorem dX5_logs_104 : decode cX5_logs 104 = .ok (.iload_n 3, 1) := by decide +kernel
theorem dX5_logs_105 : decode cX5_logs 105 = .ok (.ifCond .eq 7, 3) := by decide +kernel
theorem dX5_logs_108 : decode cX5_logs 108 = .ok (.iconst 1, 1) := by decide +kernel
theorem dX5_logs_109 : decode cX5_logs 109 = .ok (.goto 4, 3) := by decide +kernel
theorem dX5_logs_112 : decode cX5_logs 112 = .ok (.iconst 0, 1) := by decide +kernel
theorem dX5_logs_113 : decode cX5_logs 113 = .ok (.iastore, 1) := by decide +kernel
theorem dX5_logs_114 : decode cX5_logs 114 = .ok (.aload_n 0, 1) := by decide +kernel
theorem dX5_logs_115 : decode cX5_logs 115 = .ok (.getfield 7, 3) := by decide +kernel
theorem dX5_logs_118 : decode cX5_logs 118 = .ok (.iload 5, 2) := by decide +kernel
theorem dX5_logs_120 : decode cX5_logs 120 = .ok (.iconst 3, 1) := by decide +kernel
theorem dX5_logs_121 : decode cX5_logs 121 = .ok (.iadd, 1) := by decide +kernel
theorem dX5_logs_122 : decode cX5_logs 122 = .ok (.iload 4, 2) := by decide +kernel
theorem dX5_logs_124 : decode cX5_logs 124 = .ok (.ifCond .eq 7, 3) := by decide +kernel
theorem dX5_logs_127 : decode cX5_logs 127 = .ok (.iconst 1, 1) := by decide +kernel
theorem dX5_logs_128 : decode cX5_logs 128 = .ok (.goto 4, 3) := by decide +kernel
theorem dX5_logs_131 : decode cX5_logs 131 = .ok (.iconst 0, 1) := by decide +kernel
theorem dX5_logs_132 : decode cX5_logs 132 = .ok (.iastore, 1) := by decide +kernel
theorem dX5_logs_133 : decode cX5_logs 133 = .ok (.aload_n 0, 1) := by decide +kernel
theorem dX5_logs_134 : decode cX5_logs 134 = .ok (.getfield 7, 3) := by decide +kernel
theorem dX5_logs_137 : decode cX5_logs 137 = .ok (.iload 5, 2) := by decide +kernel
theorem dX5_logs_139 : decode cX5_logs 139 = .ok (.iconst 4, 1) := by decide +kernel
theorem dX5_logs_140 : decode cX5_logs 140 = .ok (.iadd, 1) := by decide +kernel
theorem dX5_logs_141 : decode cX5_logs 141 = .ok (.iconst 0, 1) := by decide +kernel
theorem dX5_logs_142 : decode cX5_logs 142 = .ok (.iastore, 1) := by decide +kernel
theorem dX5_logs_143 : decode cX5_logs 143 = .ok (.aload_n 0, 1) := by decide +kernel
theorem dX5_logs_144 : decode cX5_logs 144 = .ok (.getfield 7, 3) := by decide +kernel
theorem dX5_logs_147 : decode cX5_logs 147 = .ok (.iload 5, 2) := by decide +kernel
theorem dX5_logs_149 : decode cX5_logs 149 = .ok (.iconst 5, 1) := by decide +kernel
theorem dX5_logs_150 : decode cX5_logs 150 = .ok (.iadd, 1) := by decide +kernel
theorem dX5_logs_151 : decode cX5_logs 151 = .ok (.iconst 0, 1) := by decide +kernel
theorem dX5_logs_152 : decode cX5_logs 152 = .ok (.iastore, 1) := by decide +kernel
theorem dX5_logs_153 : decode cX5_logs 153 = .ok (.aload_n 0, 1) := by decide +kernel
theorem dX5_logs_154 : decode cX5_logs 154 = .ok (.getfield 7, 3) := by decide +kernel
theorem dX5_logs_157 : decode cX5_logs 157 = .ok (.iload 5, 2) := by decide +kernel
theorem dX5_logs_159 : decode cX5_logs 159 = .ok (.bipush 6, 2) := by decide +kernel
theorem dX5_logs_161 : decode cX5_logs 161 = .ok (.iadd, 1) := by decide +kernel
theorem dX5_logs_162 : decode cX5_logs 162 = .ok (.iconst 0, 1) := by decide +kernel
theorem dX5_logs_163 : decode cX5_logs 163 = .ok (.iastore, 1) := by decide +kernel
theorem dX5_logs_164 : decode cX5_logs 164 = .ok (.iconst 0, 1) := by decide +kernel
theorem dX5_logs_165 : decode cX5_logs 165 = .ok (.istore 6, 2) := by decide +kernel
theorem dX5_logs_167 : decode cX5_logs 167 = .ok (.iload 6, 2) := by decide +kernel
theorem dX5_logs_169 : decode cX5_logs 169 = .ok (.bipush 9, 2) := by decide +kernel
theorem dX5_logs_171 : decode cX5_logs 171 = .ok (.if_icmp .ge 78, 3) := by decide +kernel
theorem dX5_logs_174 : decode cX5_logs 174 = .ok (.aload_n 0, 1) := by decide +kernel
theorem dX5_logs_175 : decode cX5_logs 175 = .ok (.getfield 28, 3) := by decide +kernel
theorem dX5_logs_178 : decode cX5_logs 178 = .ok (.iload 6, 2) := by decide +kernel
theorem dX5_logs_180 : decode cX5_logs 180 = .ok (.iaload, 1) := by decide +kernel
theorem dX5_logs_181 : decode cX5_logs 181 = .ok (.ifCond .ne 7, 3) := by decide +kernel
theorem dX5_logs_184 : decode cX5_logs 184 = .ok (.iconst 0, 1) := by decide +kernel
theorem dX5_logs_185 : decode cX5_logs 185 = .ok (.goto 20, 3) := by decide +kernel
theorem dX5_logs_188 : decode cX5_logs 188 = .ok (.aload_n 0, 1) := by decide +kernel
theorem dX5_logs_189 : decode cX5_logs 189 = .ok (.getfield 28, 3) := by decide +kernel
theorem dX5_logs_192 : decode cX5_logs 192 = .ok (.iload 6, 2) := by decide +kernel
theorem dX5_logs_194 : decode cX5_logs 194 = .ok (.iaload, 1) := by decide +kernel
theorem dX5_logs_195 : decode cX5_logs 195 = .ok (.bipush 25, 2) := by decide +kernel
theorem dX5_logs_197 : decode cX5_logs 197 = .ok (.if_icmp .ne 7, 3) := by decide +kernel
theorem dX5_logs_200 : decode cX5_logs 200 = .ok (.iconst 2, 1) := by decide +kernel
theorem dX5_logs_201 : decode cX5_logs 201 = .ok (.goto 4, 3) := by decide +kernel
theorem dX5_logs_204 : decode cX5_logs 204 = .ok (.iconst 1, 1) := by decide +kernel
theorem dX5_logs_205 : decode cX5_logs 205 = .ok (.istore 7, 2) := by decide +kernel
theorem dX5_logs_207 : decode cX5_logs 207 = .ok (.aload_n 0, 1) := by decide +kernel
theorem dX5_logs_208 : decode cX5_logs 208 = .ok (.getfield 7, 3) := by decide +kernel
theorem dX5_logs_211 : decode cX5_logs 211 = .ok (.iload 5, 2) := by decide +kernel
theorem dX5_logs_213 : decode cX5_logs 213 = .ok (.iconst 4, 1) := by decide +kernel
theorem dX5_logs_214 : decode cX5_logs 214 = .ok (.iadd, 1) := by decide +kernel
theorem dX5_logs_215 : decode cX5_logs 215 = .ok (.iload 7, 2) := by decide +kernel
theorem dX5_logs_217 : decode cX5_logs 217 = .ok (.iadd, 1) := by decide +kernel
theorem dX5_logs_218 : decode cX5_logs 218 = .ok (.dup2, 1) := by decide +kernel
theorem dX5_logs_219 : decode cX5_logs 219 = .ok (.iaload, 1) := by decide +kernel
theorem dX5_logs_220 : decode cX5_logs 220 = .ok (.iconst 1, 1) := by decide +kernel
theorem dX5_logs_221 : decode cX5_logs 221 = .ok (.iadd, 1) := by decide +kernel
theorem dX5_logs_222 : decode cX5_logs 222 = .ok (.iastore, 1) := by decide +kernel
theorem dX5_logs_223 : decode cX5_logs 223 = .ok (.aload_n 0, 1) := by decide +kernel
theorem dX5_logs_224 : decode cX5_logs 224 = .ok (.getfield 7, 3) := by decide +kernel
theorem dX5_logs_227 : decode cX5_logs 227 = .ok (.iload 5, 2) := by decide +kernel
theorem dX5_logs_229 : decode cX5_logs 229 = .ok (.bipush 8, 2) := by decide +kernel
theorem dX5_logs_231 : decode cX5_logs 231 = .ok (.iadd, 1) := by decide +kernel
theorem dX5_logs_232 : decode cX5_logs 232 = .ok (.iload 6, 2) := by decide +kernel
theorem dX5_logs_234 : decode cX5_logs 234 = .ok (.iadd, 1) := by decide +kernel
theorem dX5_logs_235 : decode cX5_logs 235 = .ok (.aload_n 0, 1) := by decide +kernel
theorem dX5_logs_236 : decode cX5_logs 236 = .ok (.getfield 28, 3) := by decide +kernel
theorem dX5_logs_239 : decode cX5_logs 239 = .ok (.iload 6, 2) := by decide +kernel
theorem dX5_logs_241 : decode cX5_logs 241 = .ok (.iaload, 1) := by decide +kernel
theorem dX5_logs_242 : decode cX5_logs 242 = .ok (.iastore, 1) := by decide +kernel
theorem dX5_logs_243 : decode cX5_logs 243 = .ok (.iinc 6 1, 3) := by decide +kernel
theorem dX5_logs_246 : decode cX5_logs 246 = .ok (.goto (-79), 3) := by decide +kernel
theorem dX5_logs_249 : decode cX5_logs 249 = .ok (.aload_n 0, 1) := by decide +kernel
theorem dX5_logs_250 : decode cX5_logs 250 = .ok (.getfield 7, 3) := by decide +kernel
theorem dX5_logs_253 : decode cX5_logs 253 = .ok (.iload 5, 2) := by decide +kernel
theorem dX5_logs_255 : decode cX5_logs 255 = .ok (.bipush 7, 2) := by decide +kernel
theorem dX5_logs_257 : decode cX5_logs 257 = .ok (.iadd, 1) := by decide +kernel
theorem dX5_logs_258 : decode cX5_logs 258 = .ok (.aload_n 0, 1) := by decide +kernel
theorem dX5_logs_259 : decode cX5_logs 259 = .ok (.iconst 0, 1) := by decide +kernel
theorem dX5_logs_260 : decode cX5_logs 260 = .ok (.iconst 1, 1) := by decide +kernel
theorem dX5_logs_261 : decode cX5_logs 261 = .ok (.invokevirtual 109, 3) := by decide +kernel
theorem dX5_logs_264 : decode cX5_logs 264 = .ok (.iastore, 1) := by decide +kernel
theorem dX5_logs_265 : decode cX5_logs 265 = .ok (.aload_n 0, 1) := by decide +kernel
theorem dX5_logs_266 : decode cX5_logs 266 = .ok (.getfield 7, 3) := by decide +kernel
theorem dX5_logs_269 : decode cX5_logs 269 = .ok (.sipush 441, 3) := by decide +kernel
theorem dX5_logs_272 : decode cX5_logs 272 = .ok (.dup2, 1) := by decide +kernel
theorem dX5_logs_273 : decode cX5_logs 273 = .ok (.iaload, 1) := by decide +kernel
theorem dX5_logs_274 : decode cX5_logs 274 = .ok (.iconst 1, 1) := by decide +kernel
theorem dX5_logs_275 : decode cX5_logs 275 = .ok (.iadd, 1) := by decide +kernel
theorem dX5_logs_276 : decode cX5_logs 276 = .ok (.iastore, 1) := by decide +kernel
theorem dX5_logs_277 : decode cX5_logs 277 = .ok (.return_, 1) := by decide +kernel
theorem dX5_canKey_0 : decode cX5_canKey 0 = .ok (.sipush 594, 3) := by decide +kernel
theorem dX5_canKey_3 : decode cX5_canKey 3 = .ok (.aload_n 0, 1) := by decide +kernel
theorem dX5_canKey_4 : decode cX5_canKey 4 = .ok (.getfield 7, 3) := by decide +kernel
theorem dX5_canKey_7 : decode cX5_canKey 7 = .ok (.sipush 432, 3) := by decide +kernel
theorem dX5_canKey_10 : decode cX5_canKey 10 = .ok (.iaload, 1) := by decide +kernel
theorem dX5_canKey_11 : decode cX5_canKey 11 = .ok (.aload_n 0, 1) := by decide +kernel
theorem dX5_canKey_12 : decode cX5_canKey 12 = .ok (.getfield 7, 3) := by decide +kernel
theorem dX5_canKey_15 : decode cX5_canKey 15 = .ok (.sipush 435, 3) := by decide +kernel
theorem dX5_canKey_18 : decode cX5_canKey 18 = .ok (.iaload, 1) := by decide +kernel
theorem dX5_canKey_19 : decode cX5_canKey 19 = .ok (.iadd, 1) := by decide +kernel
theorem dX5_canKey_20 : decode cX5_canKey 20 = .ok (.if_icmp .gt 7, 3) := by decide +kernel
theorem dX5_canKey_23 : decode cX5_canKey 23 = .ok (.iconst 1, 1) := by decide +kernel
theorem dX5_canKey_24 : decode cX5_canKey 24 = .ok (.goto 4, 3) := by decide +kernel
theorem dX5_canKey_27 : decode cX5_canKey 27 = .ok (.iconst 0, 1) := by decide +kernel
theorem dX5_canKey_28 : decode cX5_canKey 28 = .ok (.ireturn, 1) := by decide +kernel
set_option maxRecDepth 20000 in
theorem ggX5_send_X5_record : GoodIn wsX5_send wsX5_record := goodIn_r _ [6, 7, 8, 1, 71, 72, 73, 74, 75, 76, 77, 78, 79, 80, 81, 82, 83, 84] (by decide +kernel) (by decide +kernel)
set_option maxRecDepth 20000 in
theorem gX5_send_X5_record : GoodIn wsX5_send (wsV RX5 58 RX5 yX5_record wsX5_record) := goodIn_app (goodIn_of _ (by decide +kernel)) ggX5_send_X5_record
set_option maxRecDepth 20000 in
theorem ggX5_send_X5_canKey : GoodIn wsX5_send wsX5_canKey := goodIn_r _ [12, 1, 71, 72, 73, 74, 75, 76, 77, 78, 79, 80, 81, 82, 83, 84] (by decide +kernel) (by decide +kernel)
set_option maxRecDepth 20000 in
theorem gX5_send_X5_canKey : GoodIn wsX5_send (wsV RX5 112 RX5 yX5_canKey wsX5_canKey) := goodIn_app (goodIn_of _ (by decide +kernel)) ggX5_send_X5_canKey
set_option maxRecDepth 20000 in
theorem ggX5_send_X5_sends : GoodIn wsX5_send wsX5_sends := goodIn_r _ [16, 17, 1, 18, 19, 20, 5, 21, 22, 23, 24, 25, 26, 27, 28, 29, 30, 31, 32, 33, 34, 35, 36, 37, 38, 39, 40, 41, 42, 43, 44, 45, 46, 47, 48, 49, 50, 51, 52, 53, 54, 55, 56, 57, 58, 59, 60, 61, 62, 63, 64, 65, 66, 67, 68, 69, 70, 71, 72, 73, 74, 75, 76, 77, 78, 79, 80, 81, 82, 83, 84] (by decide +kernel) (by decide +kernel)
set_option maxRecDepth 20000 in
theorem gX5_send_X5_sends : GoodIn wsX5_send (wsV RX5 116 RX5 yX5_sends wsX5_sends) := goodIn_app (goodIn_of _ (by decide +kernel)) ggX5_send_X5_sends
theorem dX5_send_0 : decode cX5_send 0 = .ok (.aload_n 0, 1) := by decide +kernel
theorem dX5_send_1 : decode cX5_send 1 = .ok (.invokevirtual 58, 3) := by decide +kernel
theorem dX5_send_4 : decode cX5_send 4 = .ok (.aload_n 0, 1) := by decide +kernel
theorem dX5_send_5 : decode cX5_send 5 = .ok (.aload_n 0, 1) := by decide +kernel
theorem dX5_send_6 : decode cX5_send 6 = .ok (.getfield 7, 3) := by decide +kernel
theorem dX5_send_9 : decode cX5_send 9 = .ok (.sipush 434, 3) := by decide +kernel
theorem dX5_send_12 : decode cX5_send 12 = .ok (.iaload, 1) := by decide +kernel
theorem dX5_send_13 : decode cX5_send 13 = .ok (.ifCond .le 33, 3) := by decide +kernel
theorem dX5_send_16 : decode cX5_send 16 = .ok (.aload_n 0, 1) := by decide +kernel
theorem dX5_send_17 : decode cX5_send 17 = .ok (.getfield 7, 3) := by decide +kernel
theorem dX5_send_20 : decode cX5_send 20 = .ok (.sipush 440, 3) := by decide +kernel
theorem dX5_send_23 : decode cX5_send 23 = .ok (.iaload, 1) := by decide +kernel
theorem dX5_send_24 : decode cX5_send 24 = .ok (.aload_n 0, 1) := by decide +kernel
theorem dX5_send_25 : decode cX5_send 25 = .ok (.getfield 7, 3) := by decide +kernel
theorem dX5_send_28 : decode cX5_send 28 = .ok (.sipush 434, 3) := by decide +kernel
theorem dX5_send_31 : decode cX5_send 31 = .ok (.iaload, 1) := by decide +kernel
theorem dX5_send_32 : decode cX5_send 32 = .ok (.if_icmp .lt 14, 3) := by decide +kernel
theorem dX5_send_35 : decode cX5_send 35 = .ok (.aload_n 0, 1) := by decide +kernel
theorem dX5_send_36 : decode cX5_send 36 = .ok (.invokevirtual 112, 3) := by decide +kernel
theorem dX5_send_39 : decode cX5_send 39 = .ok (.ifCond .eq 7, 3) := by decide +kernel
theorem dX5_send_42 : decode cX5_send 42 = .ok (.iconst 1, 1) := by decide +kernel
theorem dX5_send_43 : decode cX5_send 43 = .ok (.goto 4, 3) := by decide +kernel
theorem dX5_send_46 : decode cX5_send 46 = .ok (.iconst 0, 1) := by decide +kernel
theorem dX5_send_47 : decode cX5_send 47 = .ok (.iload_n 1, 1) := by decide +kernel
theorem dX5_send_48 : decode cX5_send 48 = .ok (.invokevirtual 116, 3) := by decide +kernel
theorem dX5_send_51 : decode cX5_send 51 = .ok (.ireturn, 1) := by decide +kernel
set_option maxRecDepth 20000 in
theorem ggX5_sendKeyed_X5_canKey : GoodIn wsX5_sendKeyed wsX5_canKey := goodIn_r _ [5, 6, 71, 72, 73, 74, 75, 76, 77, 78, 79, 80, 81, 82, 83, 84] (by decide +kernel) (by decide +kernel)
set_option maxRecDepth 20000 in
theorem gX5_sendKeyed_X5_canKey : GoodIn wsX5_sendKeyed (wsV RX5 112 RX5 yX5_canKey wsX5_canKey) := goodIn_app (goodIn_of _ (by decide +kernel)) ggX5_sendKeyed_X5_canKey
set_option maxRecDepth 20000 in
theorem ggX5_sendKeyed_X5_record : GoodIn wsX5_sendKeyed wsX5_record := goodIn_r _ [10, 11, 12, 6, 71, 72, 73, 74, 75, 76, 77, 78, 79, 80, 81, 82, 83, 84] (by decide +kernel) (by decide +kernel)
set_option maxRecDepth 20000 in
theorem gX5_sendKeyed_X5_record : GoodIn wsX5_sendKeyed (wsV RX5 58 RX5 yX5_record wsX5_record) := goodIn_app (goodIn_of _ (by decide +kernel)) ggX5_sendKeyed_X5_record
set_option maxRecDepth 20000 in
theorem ggX5_sendKeyed_X5_sends : GoodIn wsX5_sendKeyed wsX5_sends := goodIn_r _ [16, 17, 6, 18, 19, 20, 4, 21, 22, 23, 24, 25, 26, 27, 28, 29, 30, 31, 32, 33, 34, 35, 36, 37, 38, 39, 40, 41, 42, 43, 44, 45, 46, 47, 48, 49, 50, 51, 52, 53, 54, 55, 56, 57, 58, 59, 60, 61, 62, 63, 64, 65, 66, 67, 68, 69, 70, 71, 72, 73, 74, 75, 76, 77, 78, 79, 80, 81, 82, 83, 84] (by decide +kernel) (by decide +kernel)
set_option maxRecDepth 20000 in
theorem gX5_sendKeyed_X5_sends : GoodIn wsX5_sendKeyed (wsV RX5 116 RX5 yX5_sends wsX5_sends) := goodIn_app (goodIn_of _ (by decide +kernel)) ggX5_sendKeyed_X5_sends
theorem dX5_sendKeyed_0 : decode cX5_sendKeyed 0 = .ok (.aload_n 0, 1) := by decide +kernel
theorem dX5_sendKeyed_1 : decode cX5_sendKeyed 1 = .ok (.invokevirtual 112, 3) := by decide +kernel
theorem dX5_sendKeyed_4 : decode cX5_sendKeyed 4 = .ok (.ifCond .ne 6, 3) := by decide +kernel
theorem dX5_sendKeyed_7 : decode cX5_sendKeyed 7 = .ok (.bipush (-4), 2) := by decide +kernel
theorem dX5_sendKeyed_9 : decode cX5_sendKeyed 9 = .ok (.ireturn, 1) := by decide +kernel
theorem dX5_sendKeyed_10 : decode cX5_sendKeyed 10 = .ok (.aload_n 0, 1) := by decide +kernel
theorem dX5_sendKeyed_11 : decode cX5_sendKeyed 11 = .ok (.invokevirtual 58, 3) := by decide +kernel
theorem dX5_sendKeyed_14 : decode cX5_sendKeyed 14 = .ok (.aload_n 0, 1) := by decide +kernel
theorem dX5_sendKeyed_15 : decode cX5_sendKeyed 15 = .ok (.iconst 1, 1) := by decide +kernel
theorem dX5_sendKeyed_16 : decode cX5_sendKeyed 16 = .ok (.iload_n 1, 1) := by decide +kernel
theorem dX5_sendKeyed_17 : decode cX5_sendKeyed 17 = .ok (.invokevirtual 116, 3) := by decide +kernel
theorem dX5_sendKeyed_20 : decode cX5_sendKeyed 20 = .ok (.ireturn, 1) := by decide +kernel
theorem dX5_type_0 : decode cX5_type 0 = .ok (.aload_n 0, 1) := by decide +kernel
theorem dX5_type_1 : decode cX5_type 1 = .ok (.getfield 120, 3) := by decide +kernel
theorem dX5_type_4 : decode cX5_type 4 = .ok (.bipush 60, 2) := by decide +kernel
theorem dX5_type_6 : decode cX5_type 6 = .ok (.if_icmp .ne 6, 3) := by decide +kernel
theorem dX5_type_9 : decode cX5_type 9 = .ok (.bipush (-3), 2) := by decide +kernel
theorem dX5_type_11 : decode cX5_type 11 = .ok (.ireturn, 1) := by decide +kernel
theorem dX5_type_12 : decode cX5_type 12 = .ok (.aload_n 0, 1) := by decide +kernel
theorem dX5_type_13 : decode cX5_type 13 = .ok (.getfield 31, 3) := by decide +kernel
theorem dX5_type_16 : decode cX5_type 16 = .ok (.aload_n 0, 1) := by decide +kernel
theorem dX5_type_17 : decode cX5_type 17 = .ok (.getfield 120, 3) := by decide +kernel
theorem dX5_type_20 : decode cX5_type 20 = .ok (.iload_n 1, 1) := by decide +kernel
theorem dX5_type_21 : decode cX5_type 21 = .ok (.castore, 1) := by decide +kernel
theorem dX5_type_22 : decode cX5_type 22 = .ok (.aload_n 0, 1) := by decide +kernel
theorem dX5_type_23 : decode cX5_type 23 = .ok (.dup, 1) := by decide +kernel
theorem dX5_type_24 : decode cX5_type 24 = .ok (.getfield 120, 3) := by decide +kernel
theorem dX5_type_27 : decode cX5_type 27 = .ok (.iconst 1, 1) := by decide +kernel
theorem dX5_type_28 : decode cX5_type 28 = .ok (.iadd, 1) := by decide +kernel
theorem dX5_type_29 : decode cX5_type 29 = .ok (.putfield 120, 3) := by decide +kernel
theorem dX5_type_32 : decode cX5_type 32 = .ok (.aload_n 0, 1) := by decide +kernel
theorem dX5_type_33 : decode cX5_type 33 = .ok (.getfield 120, 3) := by decide +kernel
theorem dX5_type_36 : decode cX5_type 36 = .ok (.ireturn, 1) := by decide +kernel
theorem dX5_clearText_0 : decode cX5_clearText 0 = .ok (.aload_n 0, 1) := by decide +kernel
theorem dX5_clearText_1 : decode cX5_clearText 1 = .ok (.getfield 120, 3) := by decide +kernel
theorem dX5_clearText_4 : decode cX5_clearText 4 = .ok (.istore_n 1, 1) := by decide +kernel
theorem dX5_clearText_5 : decode cX5_clearText 5 = .ok (.aload_n 0, 1) := by decide +kernel
theorem dX5_clearText_6 : decode cX5_clearText 6 = .ok (.iconst 0, 1) := by decide +kernel
theorem dX5_clearText_7 : decode cX5_clearText 7 = .ok (.putfield 120, 3) := by decide +kernel
theorem dX5_clearText_10 : decode cX5_clearText 10 = .ok (.iload_n 1, 1) := by decide +kernel
theorem dX5_clearText_11 : decode cX5_clearText 11 = .ok (.ireturn, 1) := by decide +kernel
set_option maxRecDepth 20000 in
theorem ggX5_isDigit_X5_in : GoodIn wsX5_isDigit wsX5_in := goodIn_r _ [7] (by decide +kernel) (by decide +kernel)
set_option maxRecDepth 20000 in
theorem gX5_isDigit_X5_in : GoodIn wsX5_isDigit (va_wsS RX5 42 yX5_in wsX5_in) := goodIn_app (goodIn_of _ (by decide +kernel)) ggX5_isDigit_X5_in
theorem dX5_isDigit_0 : decode cX5_isDigit 0 = .ok (.aload_n 0, 1) := by decide +kernel
theorem dX5_isDigit_1 : decode cX5_isDigit 1 = .ok (.getfield 123, 3) := by decide +kernel
theorem dX5_isDigit_4 : decode cX5_isDigit 4 = .ok (.aload_n 0, 1) := by decide +kernel
theorem dX5_isDigit_5 : decode cX5_isDigit 5 = .ok (.getfield 120, 3) := by decide +kernel
theorem dX5_isDigit_8 : decode cX5_isDigit 8 = .ok (.if_icmp .ge 26, 3) := by decide +kernel
theorem dX5_isDigit_11 : decode cX5_isDigit 11 = .ok (.aload_n 0, 1) := by decide +kernel
theorem dX5_isDigit_12 : decode cX5_isDigit 12 = .ok (.getfield 31, 3) := by decide +kernel
theorem dX5_isDigit_15 : decode cX5_isDigit 15 = .ok (.aload_n 0, 1) := by decide +kernel
theorem dX5_isDigit_16 : decode cX5_isDigit 16 = .ok (.getfield 123, 3) := by decide +kernel
theorem dX5_isDigit_19 : decode cX5_isDigit 19 = .ok (.caload, 1) := by decide +kernel
theorem dX5_isDigit_20 : decode cX5_isDigit 20 = .ok (.bipush 48, 2) := by decide +kernel
theorem dX5_isDigit_22 : decode cX5_isDigit 22 = .ok (.bipush 57, 2) := by decide +kernel
theorem dX5_isDigit_24 : decode cX5_isDigit 24 = .ok (.invokestatic 42, 3) := by decide +kernel
theorem dX5_isDigit_27 : decode cX5_isDigit 27 = .ok (.ifCond .eq 7, 3) := by decide +kernel
theorem dX5_isDigit_30 : decode cX5_isDigit 30 = .ok (.iconst 1, 1) := by decide +kernel
theorem dX5_isDigit_31 : decode cX5_isDigit 31 = .ok (.goto 4, 3) := by decide +kernel
theorem dX5_isDigit_34 : decode cX5_isDigit 34 = .ok (.iconst 0, 1) := by decide +kernel
theorem dX5_isDigit_35 : decode cX5_isDigit 35 = .ok (.ireturn, 1) := by decide +kernel
theorem dX5_takes_0 : decode cX5_takes 0 = .ok (.aload_n 0, 1) := by decide +kernel
theorem dX5_takes_1 : decode cX5_takes 1 = .ok (.getfield 123, 3) := by decide +kernel
theorem dX5_takes_4 : decode cX5_takes 4 = .ok (.aload_n 0, 1) := by decide +kernel
theorem dX5_takes_5 : decode cX5_takes 5 = .ok (.getfield 120, 3) := by decide +kernel
theorem dX5_takes_8 : decode cX5_takes 8 = .ok (.if_icmp .eq 16, 3) := by decide +kernel
theorem dX5_takes_11 : decode cX5_takes 11 = .ok (.aload_n 0, 1) := by decide +kernel
theorem dX5_takes_12 : decode cX5_takes 12 = .ok (.getfield 31, 3) := by decide +kernel
theorem dX5_takes_15 : decode cX5_takes 15 = .ok (.aload_n 0, 1) := by decide +kernel
theorem dX5_takes_16 : decode cX5_takes 16 = .ok (.getfield 123, 3) := by decide +kernel
theorem dX5_takes_19 : decode cX5_takes 19 = .ok (.caload, 1) := by decide +kernel
theorem dX5_takes_20 : decode cX5_takes 20 = .ok (.iload_n 1, 1) := by decide +kernel
theorem dX5_takes_21 : decode cX5_takes 21 = .ok (.if_icmp .eq 5, 3) := by decide +kernel
theorem dX5_takes_24 : decode cX5_takes 24 = .ok (.iconst 0, 1) := by decide +kernel
theorem dX5_takes_25 : decode cX5_takes 25 = .ok (.ireturn, 1) := by decide +kernel
theorem dX5_takes_26 : decode cX5_takes 26 = .ok (.aload_n 0, 1) := by decide +kernel
theorem dX5_takes_27 : decode cX5_takes 27 = .ok (.dup, 1) := by decide +kernel
theorem dX5_takes_28 : decode cX5_takes 28 = .ok (.getfield 123, 3) := by decide +kernel
theorem dX5_takes_31 : decode cX5_takes 31 = .ok (.iconst 1, 1) := by decide +kernel
theorem dX5_takes_32 : decode cX5_takes 32 = .ok (.iadd, 1) := by decide +kernel
theorem dX5_takes_33 : decode cX5_takes 33 = .ok (.putfield 123, 3) := by decide +kernel
theorem dX5_takes_36 : decode cX5_takes 36 = .ok (.iconst 1, 1) := by decide +kernel
theorem dX5_takes_37 : decode cX5_takes 37 = .ok (.ireturn, 1) := by decide +kernel
set_option maxRecDepth 20000 in
theorem ggX5_takesNumber_X5_takes : GoodIn wsX5_takesNumber wsX5_takes := goodIn_r _ [8, 2, 9, 1, 17, 18, 19, 20, 21, 22, 23, 24, 25, 26, 27, 28, 29, 30] (by decide +kernel) (by decide +kernel)
set_option maxRecDepth 20000 in
theorem gX5_takesNumber_X5_takes : GoodIn wsX5_takesNumber (wsV RX5 126 RX5 yX5_takes wsX5_takes) := goodIn_app (goodIn_of _ (by decide +kernel)) ggX5_takesNumber_X5_takes
set_option maxRecDepth 20000 in
theorem ggX5_takesNumber_X5_isDigit : GoodIn wsX5_takesNumber wsX5_isDigit := goodIn_r _ [13, 2, 9, 1, 14, 15, 7, 16, 17, 18, 19, 20, 21, 22, 23, 24, 25, 26, 27, 28, 29, 30] (by decide +kernel) (by decide +kernel)
set_option maxRecDepth 20000 in
theorem gX5_takesNumber_X5_isDigit : GoodIn wsX5_takesNumber (wsV RX5 130 RX5 yX5_isDigit wsX5_isDigit) := goodIn_app (goodIn_of _ (by decide +kernel)) ggX5_takesNumber_X5_isDigit
theorem dX5_takesNumber_0 : decode cX5_takesNumber 0 = .ok (.iload_n 1, 1) := by decide +kernel
theorem dX5_takesNumber_1 : decode cX5_takesNumber 1 = .ok (.ifCond .eq 16, 3) := by decide +kernel
theorem dX5_takesNumber_4 : decode cX5_takesNumber 4 = .ok (.aload_n 0, 1) := by decide +kernel
theorem dX5_takesNumber_5 : decode cX5_takesNumber 5 = .ok (.bipush 45, 2) := by decide +kernel
theorem dX5_takesNumber_7 : decode cX5_takesNumber 7 = .ok (.invokevirtual 126, 3) := by decide +kernel
theorem dX5_takesNumber_10 : decode cX5_takesNumber 10 = .ok (.ifCond .eq 7, 3) := by decide +kernel
theorem dX5_takesNumber_13 : decode cX5_takesNumber 13 = .ok (.iconst 1, 1) := by decide +kernel
theorem dX5_takesNumber_14 : decode cX5_takesNumber 14 = .ok (.goto 4, 3) := by decide +kernel
theorem dX5_takesNumber_17 : decode cX5_takesNumber 17 = .ok (.iconst 0, 1) := by decide +kernel
theorem dX5_takesNumber_18 : decode cX5_takesNumber 18 = .ok (.istore_n 2, 1) := by decide +kernel
theorem dX5_takesNumber_19 : decode cX5_takesNumber 19 = .ok (.aload_n 0, 1) := by decide +kernel
theorem dX5_takesNumber_20 : decode cX5_takesNumber 20 = .ok (.invokevirtual 130, 3) := by decide +kernel
theorem dX5_takesNumber_23 : decode cX5_takesNumber 23 = .ok (.ifCond .eq 21, 3) := by decide +kernel
theorem dX5_takesNumber_26 : decode cX5_takesNumber 26 = .ok (.iload_n 2, 1) := by decide +kernel
theorem dX5_takesNumber_27 : decode cX5_takesNumber 27 = .ok (.ifCond .eq 19, 3) := by decide +kernel
theorem dX5_takesNumber_30 : decode cX5_takesNumber 30 = .ok (.aload_n 0, 1) := by decide +kernel
theorem dX5_takesNumber_31 : decode cX5_takesNumber 31 = .ok (.getfield 31, 3) := by decide +kernel
theorem dX5_takesNumber_34 : decode cX5_takesNumber 34 = .ok (.aload_n 0, 1) := by decide +kernel
theorem dX5_takesNumber_35 : decode cX5_takesNumber 35 = .ok (.getfield 123, 3) := by decide +kernel
theorem dX5_takesNumber_38 : decode cX5_takesNumber 38 = .ok (.caload, 1) := by decide +kernel
theorem dX5_takesNumber_39 : decode cX5_takesNumber 39 = .ok (.bipush 48, 2) := by decide +kernel
theorem dX5_takesNumber_41 : decode cX5_takesNumber 41 = .ok (.if_icmp .ne 5, 3) := by decide +kernel
theorem dX5_takesNumber_44 : decode cX5_takesNumber 44 = .ok (.iconst 0, 1) := by decide +kernel
theorem dX5_takesNumber_45 : decode cX5_takesNumber 45 = .ok (.ireturn, 1) := by decide +kernel
theorem dX5_takesNumber_46 : decode cX5_takesNumber 46 = .ok (.aload_n 0, 1) := by decide +kernel
theorem dX5_takesNumber_47 : decode cX5_takesNumber 47 = .ok (.aload_n 0, 1) := by decide +kernel
theorem dX5_takesNumber_48 : decode cX5_takesNumber 48 = .ok (.getfield 31, 3) := by decide +kernel
theorem dX5_takesNumber_51 : decode cX5_takesNumber 51 = .ok (.aload_n 0, 1) := by decide +kernel
theorem dX5_takesNumber_52 : decode cX5_takesNumber 52 = .ok (.getfield 123, 3) := by decide +kernel
theorem dX5_takesNumber_55 : decode cX5_takesNumber 55 = .ok (.caload, 1) := by decide +kernel
theorem dX5_takesNumber_56 : decode cX5_takesNumber 56 = .ok (.bipush 48, 2) := by decide +kernel
theorem dX5_takesNumber_58 : decode cX5_takesNumber 58 = .ok (.isub, 1) := by decide +kernel
theorem dX5_takesNumber_59 : decode cX5_takesNumber 59 = .ok (.putfield 133, 3) := by decide +kernel
theorem dX5_takesNumber_62 : decode cX5_takesNumber 62 = .ok (.aload_n 0, 1) := by decide +kernel
theorem dX5_takesNumber_63 : decode cX5_takesNumber 63 = .ok (.dup, 1) := by decide +kernel
theorem dX5_takesNumber_64 : decode cX5_takesNumber 64 = .ok (.getfield 123, 3) := by decide +kernel
theorem dX5_takesNumber_67 : decode cX5_takesNumber 67 = .ok (.iconst 1, 1) := by decide +kernel
theorem dX5_takesNumber_68 : decode cX5_takesNumber 68 = .ok (.iadd, 1) := by decide +kernel
theorem dX5_takesNumber_69 : decode cX5_takesNumber 69 = .ok (.putfield 123, 3) := by decide +kernel
theorem dX5_takesNumber_72 : decode cX5_takesNumber 72 = .ok (.aload_n 0, 1) := by decide +kernel
theorem dX5_takesNumber_73 : decode cX5_takesNumber 73 = .ok (.getfield 133, 3) := by decide +kernel
theorem dX5_takesNumber_76 : decode cX5_takesNumber 76 = .ok (.ifCond .le 44, 3) := by decide +kernel
theorem dX5_takesNumber_79 : decode cX5_takesNumber 79 = .ok (.aload_n 0, 1) := by decide +kernel
theorem dX5_takesNumber_80 : decode cX5_takesNumber 80 = .ok (.invokevirtual 130, 3) := by decide +kernel
theorem dX5_takesNumber_83 : decode cX5_takesNumber 83 = .ok (.ifCond .eq 37, 3) := by decide +kernel
theorem dX5_takesNumber_86 : decode cX5_takesNumber 86 = .ok (.aload_n 0, 1) := by decide +kernel
theorem dX5_takesNumber_87 : decode cX5_takesNumber 87 = .ok (.bipush 10, 2) := by decide +kernel
theorem dX5_takesNumber_89 : decode cX5_takesNumber 89 = .ok (.aload_n 0, 1) := by decide +kernel
theorem dX5_takesNumber_90 : decode cX5_takesNumber 90 = .ok (.getfield 133, 3) := by decide +kernel
theorem dX5_takesNumber_93 : decode cX5_takesNumber 93 = .ok (.imul, 1) := by decide +kernel
theorem dX5_takesNumber_94 : decode cX5_takesNumber 94 = .ok (.aload_n 0, 1) := by decide +kernel
theorem dX5_takesNumber_95 : decode cX5_takesNumber 95 = .ok (.getfield 31, 3) := by decide +kernel
theorem dX5_takesNumber_98 : decode cX5_takesNumber 98 = .ok (.aload_n 0, 1) := by decide +kernel
theorem dX5_takesNumber_99 : decode cX5_takesNumber 99 = .ok (.getfield 123, 3) := by decide +kernel
theorem dX5_takesNumber_102 : decode cX5_takesNumber 102 = .ok (.caload, 1) := by decide +kernel
theorem dX5_takesNumber_103 : decode cX5_takesNumber 103 = .ok (.iadd, 1) := by decide +kernel
theorem dX5_takesNumber_104 : decode cX5_takesNumber 104 = .ok (.bipush 48, 2) := by decide +kernel
theorem dX5_takesNumber_106 : decode cX5_takesNumber 106 = .ok (.isub, 1) := by decide +kernel
theorem dX5_takesNumber_107 : decode cX5_takesNumber 107 = .ok (.putfield 133, 3) := by decide +kernel
theorem dX5_takesNumber_110 : decode cX5_takesNumber 110 = .ok (.aload_n 0, 1) := by decide +kernel
theorem dX5_takesNumber_111 : decode cX5_takesNumber 111 = .ok (.dup, 1) := by decide +kernel
theorem dX5_takesNumber_112 : decode cX5_takesNumber 112 = .ok (.getfield 123, 3) := by decide +kernel
theorem dX5_takesNumber_115 : decode cX5_takesNumber 115 = .ok (.iconst 1, 1) := by decide +kernel
theorem dX5_takesNumber_116 : decode cX5_takesNumber 116 = .ok (.iadd, 1) := by decide +kernel
theorem dX5_takesNumber_117 : decode cX5_takesNumber 117 = .ok (.putfield 123, 3) := by decide +kernel
theorem dX5_takesNumber_120 : decode cX5_takesNumber 120 = .ok (.aload_n 0, 1) := by decide +kernel
theorem dX5_takesNumber_121 : decode cX5_takesNumber 121 = .ok (.iload_n 2, 1) := by decide +kernel
theorem dX5_takesNumber_122 : decode cX5_takesNumber 122 = .ok (.ifCond .eq 11, 3) := by decide +kernel
theorem dX5_takesNumber_125 : decode cX5_takesNumber 125 = .ok (.aload_n 0, 1) := by decide +kernel
theorem dX5_takesNumber_126 : decode cX5_takesNumber 126 = .ok (.getfield 133, 3) := by decide +kernel
theorem dX5_takesNumber_129 : decode cX5_takesNumber 129 = .ok (.ineg, 1) := by decide +kernel
theorem dX5_takesNumber_130 : decode cX5_takesNumber 130 = .ok (.goto 7, 3) := by decide +kernel
theorem dX5_takesNumber_133 : decode cX5_takesNumber 133 = .ok (.aload_n 0, 1) := by decide +kernel
theorem dX5_takesNumber_134 : decode cX5_takesNumber 134 = .ok (.getfield 133, 3) := by decide +kernel
theorem dX5_takesNumber_137 : decode cX5_takesNumber 137 = .ok (.putfield 133, 3) := by decide +kernel
theorem dX5_takesNumber_140 : decode cX5_takesNumber 140 = .ok (.iconst 1, 1) := by decide +kernel
theorem dX5_takesNumber_141 : decode cX5_takesNumber 141 = .ok (.ireturn, 1) := by decide +kernel
set_option maxRecDepth 20000 in
theorem ggX5_takesOrder_X5_takes : GoodIn wsX5_takesOrder wsX5_takes := goodIn_r _ [10, 1, 2, 3, 22, 23, 24, 25, 26, 27, 28, 29, 30, 31, 32, 33, 34, 35] (by decide +kernel) (by decide +kernel)
set_option maxRecDepth 20000 in
theorem gX5_takesOrder_X5_takes : GoodIn wsX5_takesOrder (wsV RX5 126 RX5 yX5_takes wsX5_takes) := goodIn_app (goodIn_of _ (by decide +kernel)) ggX5_takesOrder_X5_takes
set_option maxRecDepth 20000 in
theorem ggX5_takesOrder_X5_takesNumber : GoodIn wsX5_takesOrder wsX5_takesNumber := goodIn_r _ [14, 3, 1, 5, 6, 7, 8, 9, 10, 2, 15, 16, 17, 18, 19, 20, 21, 22, 23, 24, 25, 26, 27, 28, 29, 30, 31, 32, 33, 34, 35] (by decide +kernel) (by decide +kernel)
set_option maxRecDepth 20000 in
theorem gX5_takesOrder_X5_takesNumber : GoodIn wsX5_takesOrder (wsV RX5 136 RX5 yX5_takesNumber wsX5_takesNumber) := goodIn_app (goodIn_of _ (by decide +kernel)) ggX5_takesOrder_X5_takesNumber
theorem dX5_takesOrder_0 : decode cX5_takesOrder 0 = .ok (.aload_n 0, 1) := by decide +kernel
theorem dX5_takesOrder_1 : decode cX5_takesOrder 1 = .ok (.getfield 123, 3) := by decide +kernel
theorem dX5_takesOrder_4 : decode cX5_takesOrder 4 = .ok (.aload_n 0, 1) := by decide +kernel
theorem dX5_takesOrder_5 : decode cX5_takesOrder 5 = .ok (.getfield 120, 3) := by decide +kernel
theorem dX5_takesOrder_8 : decode cX5_takesOrder 8 = .ok (.if_icmp .eq 31, 3) := by decide +kernel
theorem dX5_takesOrder_11 : decode cX5_takesOrder 11 = .ok (.aload_n 0, 1) := by decide +kernel
theorem dX5_takesOrder_12 : decode cX5_takesOrder 12 = .ok (.getfield 31, 3) := by decide +kernel
theorem dX5_takesOrder_15 : decode cX5_takesOrder 15 = .ok (.aload_n 0, 1) := by decide +kernel
theorem dX5_takesOrder_16 : decode cX5_takesOrder 16 = .ok (.getfield 123, 3) := by decide +kernel
theorem dX5_takesOrder_19 : decode cX5_takesOrder 19 = .ok (.caload, 1) := by decide +kernel
theorem dX5_takesOrder_20 : decode cX5_takesOrder 20 = .ok (.bipush 98, 2) := by decide +kernel
theorem dX5_takesOrder_22 : decode cX5_takesOrder 22 = .ok (.if_icmp .eq 19, 3) := by decide +kernel
theorem dX5_takesOrder_25 : decode cX5_takesOrder 25 = .ok (.aload_n 0, 1) := by decide +kernel
theorem dX5_takesOrder_26 : decode cX5_takesOrder 26 = .ok (.getfield 31, 3) := by decide +kernel
theorem dX5_takesOrder_29 : decode cX5_takesOrder 29 = .ok (.aload_n 0, 1) := by decide +kernel
theorem dX5_takesOrder_30 : decode cX5_takesOrder 30 = .ok (.getfield 123, 3) := by decide +kernel
theorem dX5_takesOrder_33 : decode cX5_takesOrder 33 = .ok (.caload, 1) := by decide +kernel
theorem dX5_takesOrder_34 : decode cX5_takesOrder 34 = .ok (.bipush 115, 2) := by decide +kernel
theorem dX5_takesOrder_36 : decode cX5_takesOrder 36 = .ok (.if_icmp .eq 5, 3) := by decide +kernel
theorem dX5_takesOrder_39 : decode cX5_takesOrder 39 = .ok (.iconst 0, 1) := by decide +kernel
theorem dX5_takesOrder_40 : decode cX5_takesOrder 40 = .ok (.ireturn, 1) := by decide +kernel
theorem dX5_takesOrder_41 : decode cX5_takesOrder 41 = .ok (.aload_n 0, 1) := by decide +kernel
theorem dX5_takesOrder_42 : decode cX5_takesOrder 42 = .ok (.getfield 35, 3) := by decide +kernel
theorem dX5_takesOrder_45 : decode cX5_takesOrder 45 = .ok (.iconst 0, 1) := by decide +kernel
theorem dX5_takesOrder_46 : decode cX5_takesOrder 46 = .ok (.aload_n 0, 1) := by decide +kernel
theorem dX5_takesOrder_47 : decode cX5_takesOrder 47 = .ok (.getfield 31, 3) := by decide +kernel
theorem dX5_takesOrder_50 : decode cX5_takesOrder 50 = .ok (.aload_n 0, 1) := by decide +kernel
theorem dX5_takesOrder_51 : decode cX5_takesOrder 51 = .ok (.getfield 123, 3) := by decide +kernel
theorem dX5_takesOrder_54 : decode cX5_takesOrder 54 = .ok (.caload, 1) := by decide +kernel
theorem dX5_takesOrder_55 : decode cX5_takesOrder 55 = .ok (.iastore, 1) := by decide +kernel
theorem dX5_takesOrder_56 : decode cX5_takesOrder 56 = .ok (.aload_n 0, 1) := by decide +kernel
theorem dX5_takesOrder_57 : decode cX5_takesOrder 57 = .ok (.dup, 1) := by decide +kernel
theorem dX5_takesOrder_58 : decode cX5_takesOrder 58 = .ok (.getfield 123, 3) := by decide +kernel
theorem dX5_takesOrder_61 : decode cX5_takesOrder 61 = .ok (.iconst 1, 1) := by decide +kernel
theorem dX5_takesOrder_62 : decode cX5_takesOrder 62 = .ok (.iadd, 1) := by decide +kernel
theorem dX5_takesOrder_63 : decode cX5_takesOrder 63 = .ok (.putfield 123, 3) := by decide +kernel
theorem dX5_takesOrder_66 : decode cX5_takesOrder 66 = .ok (.aload_n 0, 1) := by decide +kernel
theorem dX5_takesOrder_67 : decode cX5_takesOrder 67 = .ok (.getfield 35, 3) := by decide +kernel
theorem dX5_takesOrder_70 : decode cX5_takesOrder 70 = .ok (.iconst 0, 1) := by decide +kernel
theorem dX5_takesOrder_71 : decode cX5_takesOrder 71 = .ok (.iaload, 1) := by decide +kernel
theorem dX5_takesOrder_72 : decode cX5_takesOrder 72 = .ok (.bipush 98, 2) := by decide +kernel
theorem dX5_takesOrder_74 : decode cX5_takesOrder 74 = .ok (.if_icmp .ne 7, 3) := by decide +kernel
theorem dX5_takesOrder_77 : decode cX5_takesOrder 77 = .ok (.iconst 1, 1) := by decide +kernel
theorem dX5_takesOrder_78 : decode cX5_takesOrder 78 = .ok (.goto 4, 3) := by decide +kernel
theorem dX5_takesOrder_81 : decode cX5_takesOrder 81 = .ok (.iconst 0, 1) := by decide +kernel
theorem dX5_takesOrder_82 : decode cX5_takesOrder 82 = .ok (.istore_n 1, 1) := by decide +kernel
theorem dX5_takesOrder_83 : decode cX5_takesOrder 83 = .ok (.iconst 1, 1) := by decide +kernel
theorem dX5_takesOrder_84 : decode cX5_takesOrder 84 = .ok (.istore_n 2, 1) := by decide +kernel
theorem dX5_takesOrder_85 : decode cX5_takesOrder 85 = .ok (.iload_n 2, 1) := by decide +kernel
theorem dX5_takesOrder_86 : decode cX5_takesOrder 86 = .ok (.iload_n 1, 1) := by decide +kernel
theorem dX5_takesOrder_87 : decode cX5_takesOrder 87 = .ok (.ifCond .eq 8, 3) := by decide +kernel
theorem dX5_takesOrder_90 : decode cX5_takesOrder 90 = .ok (.bipush 6, 2) := by decide +kernel
theorem dX5_takesOrder_92 : decode cX5_takesOrder 92 = .ok (.goto 4, 3) := by decide +kernel
theorem dX5_takesOrder_95 : decode cX5_takesOrder 95 = .ok (.iconst 3, 1) := by decide +kernel
theorem dX5_takesOrder_96 : decode cX5_takesOrder 96 = .ok (.if_icmp .ge 63, 3) := by decide +kernel
theorem dX5_takesOrder_99 : decode cX5_takesOrder 99 = .ok (.iload_n 2, 1) := by decide +kernel
theorem dX5_takesOrder_100 : decode cX5_takesOrder 100 = .ok (.iconst 1, 1) := by decide +kernel
theorem dX5_takesOrder_101 : decode cX5_takesOrder 101 = .ok (.if_icmp .le 24, 3) := by decide +kernel
theorem dX5_takesOrder_104 : decode cX5_takesOrder 104 = .ok (.aload_n 0, 1) := by decide +kernel
theorem dX5_takesOrder_105 : decode cX5_takesOrder 105 = .ok (.iload_n 2, 1) := by decide +kernel
theorem dX5_takesOrder_106 : decode cX5_takesOrder 106 = .ok (.iconst 5, 1) := by decide +kernel
theorem dX5_takesOrder_107 : decode cX5_takesOrder 107 = .ok (.if_icmp .ne 8, 3) := by decide +kernel
theorem dX5_takesOrder_110 : decode cX5_takesOrder 110 = .ok (.bipush 61, 2) := by decide +kernel
theorem dX5_takesOrder_112 : decode cX5_takesOrder 112 = .ok (.goto 5, 3) := by decide +kernel
theorem dX5_takesOrder_115 : decode cX5_takesOrder 115 = .ok (.bipush 44, 2) := by decide +kernel
theorem dX5_takesOrder_117 : decode cX5_takesOrder 117 = .ok (.invokevirtual 126, 3) := by decide +kernel
theorem dX5_takesOrder_120 : decode cX5_takesOrder 120 = .ok (.ifCond .ne 5, 3) := by decide +kernel
theorem dX5_takesOrder_123 : decode cX5_takesOrder 123 = .ok (.iconst 0, 1) := by decide +kernel
theorem dX5_takesOrder_124 : decode cX5_takesOrder 124 = .ok (.ireturn, 1) := by decide +kernel
theorem dX5_takesOrder_125 : decode cX5_takesOrder 125 = .ok (.aload_n 0, 1) := by decide +kernel
theorem dX5_takesOrder_126 : decode cX5_takesOrder 126 = .ok (.iload_n 1, 1) := by decide +kernel
theorem dX5_takesOrder_127 : decode cX5_takesOrder 127 = .ok (.ifCond .ne 7, 3) := by decide +kernel
theorem dX5_takesOrder_130 : decode cX5_takesOrder 130 = .ok (.iconst 1, 1) := by decide +kernel
theorem dX5_takesOrder_131 : decode cX5_takesOrder 131 = .ok (.goto 4, 3) := by decide +kernel
theorem dX5_takesOrder_134 : decode cX5_takesOrder 134 = .ok (.iconst 0, 1) := by decide +kernel
theorem dX5_takesOrder_135 : decode cX5_takesOrder 135 = .ok (.invokevirtual 136, 3) := by decide +kernel
theorem dX5_takesOrder_138 : decode cX5_takesOrder 138 = .ok (.ifCond .ne 5, 3) := by decide +kernel
theorem dX5_takesOrder_141 : decode cX5_takesOrder 141 = .ok (.iconst 0, 1) := by decide +kernel
theorem dX5_takesOrder_142 : decode cX5_takesOrder 142 = .ok (.ireturn, 1) := by decide +kernel
theorem dX5_takesOrder_143 : decode cX5_takesOrder 143 = .ok (.aload_n 0, 1) := by decide +kernel
theorem dX5_takesOrder_144 : decode cX5_takesOrder 144 = .ok (.getfield 35, 3) := by decide +kernel
theorem dX5_takesOrder_147 : decode cX5_takesOrder 147 = .ok (.iload_n 2, 1) := by decide +kernel
theorem dX5_takesOrder_148 : decode cX5_takesOrder 148 = .ok (.aload_n 0, 1) := by decide +kernel
theorem dX5_takesOrder_149 : decode cX5_takesOrder 149 = .ok (.getfield 133, 3) := by decide +kernel
theorem dX5_takesOrder_152 : decode cX5_takesOrder 152 = .ok (.iastore, 1) := by decide +kernel
theorem dX5_takesOrder_153 : decode cX5_takesOrder 153 = .ok (.iinc 2 1, 3) := by decide +kernel
theorem dX5_takesOrder_156 : decode cX5_takesOrder 156 = .ok (.goto (-71), 3) := by decide +kernel
theorem dX5_takesOrder_159 : decode cX5_takesOrder 159 = .ok (.iconst 1, 1) := by decide +kernel
theorem dX5_takesOrder_160 : decode cX5_takesOrder 160 = .ok (.ireturn, 1) := by decide +kernel
set_option maxRecDepth 20000 in
theorem ggX5_orders_X5_takesOrder : GoodIn wsX5_orders wsX5_takesOrder := goodIn_r _ [7, 1, 2, 8, 9, 10, 11, 12, 13, 6, 14, 15, 16, 17, 18, 19, 20, 21, 22, 23, 24, 25, 26, 27, 28, 29, 30, 31, 32, 33, 34, 35, 36, 37, 38, 39] (by decide +kernel) (by decide +kernel)
set_option maxRecDepth 20000 in
theorem gX5_orders_X5_takesOrder : GoodIn wsX5_orders (wsV RX5 140 RX5 yX5_takesOrder wsX5_takesOrder) := goodIn_app (goodIn_of _ (by decide +kernel)) ggX5_orders_X5_takesOrder
set_option maxRecDepth 20000 in
theorem ggX5_orders_X5_takes : GoodIn wsX5_orders wsX5_takes := goodIn_r _ [14, 1, 2, 8, 26, 27, 28, 29, 30, 31, 32, 33, 34, 35, 36, 37, 38, 39] (by decide +kernel) (by decide +kernel)
set_option maxRecDepth 20000 in
theorem gX5_orders_X5_takes : GoodIn wsX5_orders (wsV RX5 126 RX5 yX5_takes wsX5_takes) := goodIn_app (goodIn_of _ (by decide +kernel)) ggX5_orders_X5_takes
theorem dX5_orders_0 : decode cX5_orders 0 = .ok (.aload_n 0, 1) := by decide +kernel
theorem dX5_orders_1 : decode cX5_orders 1 = .ok (.iconst 0, 1) := by decide +kernel
theorem dX5_orders_2 : decode cX5_orders 2 = .ok (.putfield 123, 3) := by decide +kernel
theorem dX5_orders_5 : decode cX5_orders 5 = .ok (.iconst 0, 1) := by decide +kernel
theorem dX5_orders_6 : decode cX5_orders 6 = .ok (.istore_n 1, 1) := by decide +kernel
theorem dX5_orders_7 : decode cX5_orders 7 = .ok (.iconst 1, 1) := by decide +kernel
theorem dX5_orders_8 : decode cX5_orders 8 = .ok (.istore_n 2, 1) := by decide +kernel
theorem dX5_orders_9 : decode cX5_orders 9 = .ok (.iload_n 2, 1) := by decide +kernel
theorem dX5_orders_10 : decode cX5_orders 10 = .ok (.ifCond .eq 49, 3) := by decide +kernel
theorem dX5_orders_13 : decode cX5_orders 13 = .ok (.aload_n 0, 1) := by decide +kernel
theorem dX5_orders_14 : decode cX5_orders 14 = .ok (.invokevirtual 140, 3) := by decide +kernel
theorem dX5_orders_17 : decode cX5_orders 17 = .ok (.ifCond .ne 6, 3) := by decide +kernel
theorem dX5_orders_20 : decode cX5_orders 20 = .ok (.bipush (-5), 2) := by decide +kernel
theorem dX5_orders_22 : decode cX5_orders 22 = .ok (.ireturn, 1) := by decide +kernel
theorem dX5_orders_23 : decode cX5_orders 23 = .ok (.iinc 1 1, 3) := by decide +kernel
theorem dX5_orders_26 : decode cX5_orders 26 = .ok (.aload_n 0, 1) := by decide +kernel
theorem dX5_orders_27 : decode cX5_orders 27 = .ok (.getfield 123, 3) := by decide +kernel
theorem dX5_orders_30 : decode cX5_orders 30 = .ok (.aload_n 0, 1) := by decide +kernel
theorem dX5_orders_31 : decode cX5_orders 31 = .ok (.getfield 120, 3) := by decide +kernel
theorem dX5_orders_34 : decode cX5_orders 34 = .ok (.if_icmp .ge 7, 3) := by decide +kernel
theorem dX5_orders_37 : decode cX5_orders 37 = .ok (.iconst 1, 1) := by decide +kernel
theorem dX5_orders_38 : decode cX5_orders 38 = .ok (.goto 4, 3) := by decide +kernel
theorem dX5_orders_41 : decode cX5_orders 41 = .ok (.iconst 0, 1) := by decide +kernel
theorem dX5_orders_42 : decode cX5_orders 42 = .ok (.istore_n 2, 1) := by decide +kernel
theorem dX5_orders_43 : decode cX5_orders 43 = .ok (.iload_n 2, 1) := by decide +kernel
theorem dX5_orders_44 : decode cX5_orders 44 = .ok (.ifCond .eq (-35), 3) := by decide +kernel
theorem dX5_orders_47 : decode cX5_orders 47 = .ok (.aload_n 0, 1) := by decide +kernel
theorem dX5_orders_48 : decode cX5_orders 48 = .ok (.bipush 59, 2) := by decide +kernel
theorem dX5_orders_50 : decode cX5_orders 50 = .ok (.invokevirtual 126, 3) := by decide +kernel
theorem dX5_orders_53 : decode cX5_orders 53 = .ok (.ifCond .ne (-44), 3) := by decide +kernel
theorem dX5_orders_56 : decode cX5_orders 56 = .ok (.bipush (-5), 2) := by decide +kernel
theorem dX5_orders_58 : decode cX5_orders 58 = .ok (.ireturn, 1) := by decide +kernel
theorem dX5_orders_59 : decode cX5_orders 59 = .ok (.iload_n 1, 1) := by decide +kernel
theorem dX5_orders_60 : decode cX5_orders 60 = .ok (.ireturn, 1) := by decide +kernel
set_option maxRecDepth 20000 in
theorem ggX5_wrongOrder_X5_wrongFill : GoodIn wsX5_wrongOrder wsX5_wrongFill := goodIn_r _ [5, 6, 7, 4, 8, 9, 10, 11] (by decide +kernel) (by decide +kernel)
set_option maxRecDepth 20000 in
theorem gX5_wrongOrder_X5_wrongFill : GoodIn wsX5_wrongOrder (va_wsS RX5 61 yX5_wrongFill wsX5_wrongFill) := goodIn_app (goodIn_of _ (by decide +kernel)) ggX5_wrongOrder_X5_wrongFill
set_option maxRecDepth 20000 in
theorem ggX5_wrongOrder_X5_isShift : GoodIn wsX5_wrongOrder wsX5_isShift := goodIn_r _ [14, 9, 10, 4, 11] (by decide +kernel) (by decide +kernel)
set_option maxRecDepth 20000 in
theorem gX5_wrongOrder_X5_isShift : GoodIn wsX5_wrongOrder (va_wsS RX5 68 yX5_isShift wsX5_isShift) := goodIn_app (goodIn_of _ (by decide +kernel)) ggX5_wrongOrder_X5_isShift
theorem dX5_wrongOrder_0 : decode cX5_wrongOrder 0 = .ok (.aload_n 0, 1) := by decide +kernel
theorem dX5_wrongOrder_1 : decode cX5_wrongOrder 1 = .ok (.getfield 35, 3) := by decide +kernel
theorem dX5_wrongOrder_4 : decode cX5_wrongOrder 4 = .ok (.iconst 0, 1) := by decide +kernel
theorem dX5_wrongOrder_5 : decode cX5_wrongOrder 5 = .ok (.iaload, 1) := by decide +kernel
theorem dX5_wrongOrder_6 : decode cX5_wrongOrder 6 = .ok (.bipush 98, 2) := by decide +kernel
theorem dX5_wrongOrder_8 : decode cX5_wrongOrder 8 = .ok (.if_icmp .ne 39, 3) := by decide +kernel
theorem dX5_wrongOrder_11 : decode cX5_wrongOrder 11 = .ok (.aload_n 0, 1) := by decide +kernel
theorem dX5_wrongOrder_12 : decode cX5_wrongOrder 12 = .ok (.getfield 35, 3) := by decide +kernel
theorem dX5_wrongOrder_15 : decode cX5_wrongOrder 15 = .ok (.iconst 1, 1) := by decide +kernel
theorem dX5_wrongOrder_16 : decode cX5_wrongOrder 16 = .ok (.iaload, 1) := by decide +kernel
theorem dX5_wrongOrder_17 : decode cX5_wrongOrder 17 = .ok (.aload_n 0, 1) := by decide +kernel
theorem dX5_wrongOrder_18 : decode cX5_wrongOrder 18 = .ok (.getfield 35, 3) := by decide +kernel
theorem dX5_wrongOrder_21 : decode cX5_wrongOrder 21 = .ok (.iconst 2, 1) := by decide +kernel
theorem dX5_wrongOrder_22 : decode cX5_wrongOrder 22 = .ok (.iaload, 1) := by decide +kernel
theorem dX5_wrongOrder_23 : decode cX5_wrongOrder 23 = .ok (.aload_n 0, 1) := by decide +kernel
theorem dX5_wrongOrder_24 : decode cX5_wrongOrder 24 = .ok (.getfield 35, 3) := by decide +kernel
theorem dX5_wrongOrder_27 : decode cX5_wrongOrder 27 = .ok (.iconst 3, 1) := by decide +kernel
theorem dX5_wrongOrder_28 : decode cX5_wrongOrder 28 = .ok (.iaload, 1) := by decide +kernel
theorem dX5_wrongOrder_29 : decode cX5_wrongOrder 29 = .ok (.aload_n 0, 1) := by decide +kernel
theorem dX5_wrongOrder_30 : decode cX5_wrongOrder 30 = .ok (.getfield 35, 3) := by decide +kernel
theorem dX5_wrongOrder_33 : decode cX5_wrongOrder 33 = .ok (.iconst 4, 1) := by decide +kernel
theorem dX5_wrongOrder_34 : decode cX5_wrongOrder 34 = .ok (.iaload, 1) := by decide +kernel
theorem dX5_wrongOrder_35 : decode cX5_wrongOrder 35 = .ok (.aload_n 0, 1) := by decide +kernel
theorem dX5_wrongOrder_36 : decode cX5_wrongOrder 36 = .ok (.getfield 35, 3) := by decide +kernel
theorem dX5_wrongOrder_39 : decode cX5_wrongOrder 39 = .ok (.iconst 5, 1) := by decide +kernel
theorem dX5_wrongOrder_40 : decode cX5_wrongOrder 40 = .ok (.iaload, 1) := by decide +kernel
theorem dX5_wrongOrder_41 : decode cX5_wrongOrder 41 = .ok (.invokestatic 61, 3) := by decide +kernel
theorem dX5_wrongOrder_44 : decode cX5_wrongOrder 44 = .ok (.goto 27, 3) := by decide +kernel
theorem dX5_wrongOrder_47 : decode cX5_wrongOrder 47 = .ok (.aload_n 0, 1) := by decide +kernel
theorem dX5_wrongOrder_48 : decode cX5_wrongOrder 48 = .ok (.getfield 35, 3) := by decide +kernel
theorem dX5_wrongOrder_51 : decode cX5_wrongOrder 51 = .ok (.iconst 1, 1) := by decide +kernel
theorem dX5_wrongOrder_52 : decode cX5_wrongOrder 52 = .ok (.iaload, 1) := by decide +kernel
theorem dX5_wrongOrder_53 : decode cX5_wrongOrder 53 = .ok (.aload_n 0, 1) := by decide +kernel
theorem dX5_wrongOrder_54 : decode cX5_wrongOrder 54 = .ok (.getfield 35, 3) := by decide +kernel
theorem dX5_wrongOrder_57 : decode cX5_wrongOrder 57 = .ok (.iconst 2, 1) := by decide +kernel
theorem dX5_wrongOrder_58 : decode cX5_wrongOrder 58 = .ok (.iaload, 1) := by decide +kernel
theorem dX5_wrongOrder_59 : decode cX5_wrongOrder 59 = .ok (.invokestatic 68, 3) := by decide +kernel
theorem dX5_wrongOrder_62 : decode cX5_wrongOrder 62 = .ok (.ifCond .eq 7, 3) := by decide +kernel
theorem dX5_wrongOrder_65 : decode cX5_wrongOrder 65 = .ok (.iconst 0, 1) := by decide +kernel
theorem dX5_wrongOrder_66 : decode cX5_wrongOrder 66 = .ok (.goto 5, 3) := by decide +kernel
theorem dX5_wrongOrder_69 : decode cX5_wrongOrder 69 = .ok (.bipush (-2), 2) := by decide +kernel
theorem dX5_wrongOrder_71 : decode cX5_wrongOrder 71 = .ok (.ireturn, 1) := by decide +kernel
set_option maxRecDepth 20000 in
theorem ggX5_paint_X5_orders : GoodIn wsX5_paint wsX5_orders := goodIn_r _ [7, 1, 8, 9, 10, 11, 6, 12, 13, 2, 14, 15, 16, 17, 18, 19, 20, 21, 22, 23, 24, 25, 26, 27, 28, 29, 62, 63, 64, 65, 66, 67, 68, 69, 70, 71, 72, 73, 74, 75] (by decide +kernel) (by decide +kernel)
set_option maxRecDepth 20000 in
theorem gX5_paint_X5_orders : GoodIn wsX5_paint (wsV RX5 143 RX5 yX5_orders wsX5_orders) := goodIn_app (goodIn_of _ (by decide +kernel)) ggX5_paint_X5_orders
set_option maxRecDepth 20000 in
theorem ggX5_paint_X5_takesOrder : GoodIn wsX5_paint wsX5_takesOrder := goodIn_r _ [12, 1, 8, 13, 2, 14, 15, 16, 17, 6, 18, 19, 20, 21, 22, 23, 24, 25, 26, 27, 28, 29, 62, 63, 64, 65, 66, 67, 68, 69, 70, 71, 72, 73, 74, 75] (by decide +kernel) (by decide +kernel)
set_option maxRecDepth 20000 in
theorem gX5_paint_X5_takesOrder : GoodIn wsX5_paint (wsV RX5 140 RX5 yX5_takesOrder wsX5_takesOrder) := goodIn_app (goodIn_of _ (by decide +kernel)) ggX5_paint_X5_takesOrder
set_option maxRecDepth 20000 in
theorem ggX5_paint_X5_wrongOrder : GoodIn wsX5_paint wsX5_wrongOrder := goodIn_r _ [33, 2, 34, 35, 6, 36, 37, 38, 39, 27, 28, 29, 40, 41, 42, 62, 63, 64, 65, 66, 67, 68, 69, 70, 71, 72, 73, 74, 75] (by decide +kernel) (by decide +kernel)
set_option maxRecDepth 20000 in
theorem gX5_paint_X5_wrongOrder : GoodIn wsX5_paint (wsV RX5 146 RX5 yX5_wrongOrder wsX5_wrongOrder) := goodIn_app (goodIn_of _ (by decide +kernel)) ggX5_paint_X5_wrongOrder
set_option maxRecDepth 20000 in
theorem ggX5_paint_X5_record : GoodIn wsX5_paint wsX5_record := goodIn_r _ [46, 47, 48, 49, 62, 63, 64, 65, 66, 67, 68, 69, 70, 71, 72, 73, 74, 75] (by decide +kernel) (by decide +kernel)
set_option maxRecDepth 20000 in
theorem gX5_paint_X5_record : GoodIn wsX5_paint (wsV RX5 58 RX5 yX5_record wsX5_record) := goodIn_app (goodIn_of _ (by decide +kernel)) ggX5_paint_X5_record
set_option maxRecDepth 20000 in
theorem ggX5_paint_X5_fills : GoodIn wsX5_paint wsX5_fills := goodIn_r _ [53, 49, 54, 55, 6, 56, 62, 63, 64, 65, 66, 67, 68, 69, 70, 71, 72, 73, 74, 75] (by decide +kernel) (by decide +kernel)
set_option maxRecDepth 20000 in
theorem gX5_paint_X5_fills : GoodIn wsX5_paint (wsV RX5 65 RX5 yX5_fills wsX5_fills) := goodIn_app (goodIn_of _ (by decide +kernel)) ggX5_paint_X5_fills
set_option maxRecDepth 20000 in
theorem ggX5_paint_X5_shifts : GoodIn wsX5_paint wsX5_shifts := goodIn_r _ [60, 61, 49, 37, 38, 6, 39, 27, 28, 29, 54, 55, 56, 62, 63, 64, 65, 66, 67, 68, 69, 70, 71, 72, 73, 74, 75] (by decide +kernel) (by decide +kernel)
set_option maxRecDepth 20000 in
theorem gX5_paint_X5_shifts : GoodIn wsX5_paint (wsV RX5 71 RX5 yX5_shifts wsX5_shifts) := goodIn_app (goodIn_of _ (by decide +kernel)) ggX5_paint_X5_shifts
theorem dX5_paint_0 : decode cX5_paint 0 = .ok (.aload_n 0, 1) := by decide +kernel
theorem dX5_paint_1 : decode cX5_paint 1 = .ok (.invokevirtual 143, 3) := by decide +kernel
theorem dX5_paint_4 : decode cX5_paint 4 = .ok (.istore_n 1, 1) := by decide +kernel
theorem dX5_paint_5 : decode cX5_paint 5 = .ok (.iload_n 1, 1) := by decide +kernel
theorem dX5_paint_6 : decode cX5_paint 6 = .ok (.bipush (-5), 2) := by decide +kernel
theorem dX5_paint_8 : decode cX5_paint 8 = .ok (.if_icmp .ne 11, 3) := by decide +kernel
theorem dX5_paint_11 : decode cX5_paint 11 = .ok (.bipush (-100), 2) := by decide +kernel
theorem dX5_paint_13 : decode cX5_paint 13 = .ok (.aload_n 0, 1) := by decide +kernel
theorem dX5_paint_14 : decode cX5_paint 14 = .ok (.getfield 123, 3) := by decide +kernel
theorem dX5_paint_17 : decode cX5_paint 17 = .ok (.isub, 1) := by decide +kernel
theorem dX5_paint_18 : decode cX5_paint 18 = .ok (.ireturn, 1) := by decide +kernel
theorem dX5_paint_19 : decode cX5_paint 19 = .ok (.aload_n 0, 1) := by decide +kernel
theorem dX5_paint_20 : decode cX5_paint 20 = .ok (.iconst 0, 1) := by decide +kernel
theorem dX5_paint_21 : decode cX5_paint 21 = .ok (.putfield 123, 3) := by decide +kernel
theorem dX5_paint_24 : decode cX5_paint 24 = .ok (.iconst 0, 1) := by decide +kernel
theorem dX5_paint_25 : decode cX5_paint 25 = .ok (.istore_n 2, 1) := by decide +kernel
theorem dX5_paint_26 : decode cX5_paint 26 = .ok (.iload_n 2, 1) := by decide +kernel
theorem dX5_paint_27 : decode cX5_paint 27 = .ok (.iload_n 1, 1) := by decide +kernel
theorem dX5_paint_28 : decode cX5_paint 28 = .ok (.if_icmp .ge 35, 3) := by decide +kernel
theorem dX5_paint_31 : decode cX5_paint 31 = .ok (.aload_n 0, 1) := by decide +kernel
theorem dX5_paint_32 : decode cX5_paint 32 = .ok (.invokevirtual 140, 3) := by decide +kernel
theorem dX5_paint_35 : decode cX5_paint 35 = .ok (.pop, 1) := by decide +kernel
theorem dX5_paint_36 : decode cX5_paint 36 = .ok (.aload_n 0, 1) := by decide +kernel
theorem dX5_paint_37 : decode cX5_paint 37 = .ok (.dup, 1) := by decide +kernel
theorem dX5_paint_38 : decode cX5_paint 38 = .ok (.getfield 123, 3) := by decide +kernel
theorem dX5_paint_41 : decode cX5_paint 41 = .ok (.iconst 1, 1) := by decide +kernel
theorem dX5_paint_42 : decode cX5_paint 42 = .ok (.iadd, 1) := by decide +kernel
theorem dX5_paint_43 : decode cX5_paint 43 = .ok (.putfield 123, 3) := by decide +kernel
theorem dX5_paint_46 : decode cX5_paint 46 = .ok (.aload_n 0, 1) := by decide +kernel
theorem dX5_paint_47 : decode cX5_paint 47 = .ok (.invokevirtual 146, 3) := by decide +kernel
theorem dX5_paint_50 : decode cX5_paint 50 = .ok (.istore_n 3, 1) := by decide +kernel
theorem dX5_paint_51 : decode cX5_paint 51 = .ok (.iload_n 3, 1) := by decide +kernel
theorem dX5_paint_52 : decode cX5_paint 52 = .ok (.ifCond .eq 5, 3) := by decide +kernel
theorem dX5_paint_55 : decode cX5_paint 55 = .ok (.iload_n 3, 1) := by decide +kernel
theorem dX5_paint_56 : decode cX5_paint 56 = .ok (.ireturn, 1) := by decide +kernel
theorem dX5_paint_57 : decode cX5_paint 57 = .ok (.iinc 2 1, 3) := by decide +kernel
theorem dX5_paint_60 : decode cX5_paint 60 = .ok (.goto (-34), 3) := by decide +kernel
theorem dX5_paint_63 : decode cX5_paint 63 = .ok (.aload_n 0, 1) := by decide +kernel
theorem dX5_paint_64 : decode cX5_paint 64 = .ok (.invokevirtual 58, 3) := by decide +kernel
theorem dX5_paint_67 : decode cX5_paint 67 = .ok (.aload_n 0, 1) := by decide +kernel
theorem dX5_paint_68 : decode cX5_paint 68 = .ok (.iconst 0, 1) := by decide +kernel
theorem dX5_paint_69 : decode cX5_paint 69 = .ok (.putfield 123, 3) := by decide +kernel
theorem dX5_paint_72 : decode cX5_paint 72 = .ok (.iconst 0, 1) := by decide +kernel
theorem dX5_paint_73 : decode cX5_paint 73 = .ok (.istore_n 2, 1) := by decide +kernel
theorem dX5_paint_74 : decode cX5_paint 74 = .ok (.iload_n 2, 1) := by decide +kernel
theorem dX5_paint_75 : decode cX5_paint 75 = .ok (.iload_n 1, 1) := by decide +kernel
theorem dX5_paint_76 : decode cX5_paint 76 = .ok (.if_icmp .ge 90, 3) := by decide +kernel
theorem dX5_paint_79 : decode cX5_paint 79 = .ok (.aload_n 0, 1) := by decide +kernel
theorem dX5_paint_80 : decode cX5_paint 80 = .ok (.invokevirtual 140, 3) := by decide +kernel
theorem dX5_paint_83 : decode cX5_paint 83 = .ok (.pop, 1) := by decide +kernel
theorem dX5_paint_84 : decode cX5_paint 84 = .ok (.aload_n 0, 1) := by decide +kernel
theorem dX5_paint_85 : decode cX5_paint 85 = .ok (.dup, 1) := by decide +kernel
theorem dX5_paint_86 : decode cX5_paint 86 = .ok (.getfield 123, 3) := by decide +kernel
theorem dX5_paint_89 : decode cX5_paint 89 = .ok (.iconst 1, 1) := by decide +kernel
theorem dX5_paint_90 : decode cX5_paint 90 = .ok (.iadd, 1) := by decide +kernel
theorem dX5_paint_91 : decode cX5_paint 91 = .ok (.putfield 123, 3) := by decide +kernel
theorem dX5_paint_94 : decode cX5_paint 94 = .ok (.aload_n 0, 1) := by decide +kernel
theorem dX5_paint_95 : decode cX5_paint 95 = .ok (.getfield 35, 3) := by decide +kernel
theorem dX5_paint_98 : decode cX5_paint 98 = .ok (.iconst 0, 1) := by decide +kernel
theorem dX5_paint_99 : decode cX5_paint 99 = .ok (.iaload, 1) := by decide +kernel
theorem dX5_paint_100 : decode cX5_paint 100 = .ok (.bipush 98, 2) := by decide +kernel
theorem dX5_paint_102 : decode cX5_paint 102 = .ok (.if_icmp .ne 41, 3) := by decide +kernel
theorem dX5_paint_105 : decode cX5_paint 105 = .ok (.aload_n 0, 1) := by decide +kernel
theorem dX5_paint_106 : decode cX5_paint 106 = .ok (.aload_n 0, 1) := by decide +kernel
theorem dX5_paint_107 : decode cX5_paint 107 = .ok (.getfield 35, 3) := by decide +kernel
theorem dX5_paint_110 : decode cX5_paint 110 = .ok (.iconst 1, 1) := by decide +kernel
theorem dX5_paint_111 : decode cX5_paint 111 = .ok (.iaload, 1) := by decide +kernel
theorem dX5_paint_112 : decode cX5_paint 112 = .ok (.aload_n 0, 1) := by decide +kernel
theorem dX5_paint_113 : decode cX5_paint 113 = .ok (.getfield 35, 3) := by decide +kernel
theorem dX5_paint_116 : decode cX5_paint 116 = .ok (.iconst 2, 1) := by decide +kernel
theorem dX5_paint_117 : decode cX5_paint 117 = .ok (.iaload, 1) := by decide +kernel
theorem dX5_paint_118 : decode cX5_paint 118 = .ok (.aload_n 0, 1) := by decide +kernel
theorem dX5_paint_119 : decode cX5_paint 119 = .ok (.getfield 35, 3) := by decide +kernel
theorem dX5_paint_122 : decode cX5_paint 122 = .ok (.iconst 3, 1) := by decide +kernel
theorem dX5_paint_123 : decode cX5_paint 123 = .ok (.iaload, 1) := by decide +kernel
theorem dX5_paint_124 : decode cX5_paint 124 = .ok (.aload_n 0, 1) := by decide +kernel
theorem dX5_paint_125 : decode cX5_paint 125 = .ok (.getfield 35, 3) := by decide +kernel
theorem dX5_paint_128 : decode cX5_paint 128 = .ok (.iconst 4, 1) := by decide +kernel
theorem dX5_paint_129 : decode cX5_paint 129 = .ok (.iaload, 1) := by decide +kernel
theorem dX5_paint_130 : decode cX5_paint 130 = .ok (.aload_n 0, 1) := by decide +kernel
theorem dX5_paint_131 : decode cX5_paint 131 = .ok (.getfield 35, 3) := by decide +kernel
theorem dX5_paint_134 : decode cX5_paint 134 = .ok (.iconst 5, 1) := by decide +kernel
theorem dX5_paint_135 : decode cX5_paint 135 = .ok (.iaload, 1) := by decide +kernel
theorem dX5_paint_136 : decode cX5_paint 136 = .ok (.invokevirtual 65, 3) := by decide +kernel
theorem dX5_paint_139 : decode cX5_paint 139 = .ok (.pop, 1) := by decide +kernel
theorem dX5_paint_140 : decode cX5_paint 140 = .ok (.goto 20, 3) := by decide +kernel
theorem dX5_paint_143 : decode cX5_paint 143 = .ok (.aload_n 0, 1) := by decide +kernel
theorem dX5_paint_144 : decode cX5_paint 144 = .ok (.aload_n 0, 1) := by decide +kernel
theorem dX5_paint_145 : decode cX5_paint 145 = .ok (.getfield 35, 3) := by decide +kernel
theorem dX5_paint_148 : decode cX5_paint 148 = .ok (.iconst 1, 1) := by decide +kernel
theorem dX5_paint_149 : decode cX5_paint 149 = .ok (.iaload, 1) := by decide +kernel
theorem dX5_paint_150 : decode cX5_paint 150 = .ok (.aload_n 0, 1) := by decide +kernel
theorem dX5_paint_151 : decode cX5_paint 151 = .ok (.getfield 35, 3) := by decide +kernel
theorem dX5_paint_154 : decode cX5_paint 154 = .ok (.iconst 2, 1) := by decide +kernel
theorem dX5_paint_155 : decode cX5_paint 155 = .ok (.iaload, 1) := by decide +kernel
theorem dX5_paint_156 : decode cX5_paint 156 = .ok (.invokevirtual 71, 3) := by decide +kernel
theorem dX5_paint_159 : decode cX5_paint 159 = .ok (.pop, 1) := by decide +kernel
theorem dX5_paint_160 : decode cX5_paint 160 = .ok (.iinc 2 1, 3) := by decide +kernel
theorem dX5_paint_163 : decode cX5_paint 163 = .ok (.goto (-89), 3) := by decide +kernel
theorem dX5_paint_166 : decode cX5_paint 166 = .ok (.iload_n 1, 1) := by decide +kernel
theorem dX5_paint_167 : decode cX5_paint 167 = .ok (.ireturn, 1) := by decide +kernel
theorem dX5_undo_0 : decode cX5_undo 0 = .ok (.aload_n 0, 1) := by decide +kernel
theorem dX5_undo_1 : decode cX5_undo 1 = .ok (.getfield 46, 3) := by decide +kernel
theorem dX5_undo_4 : decode cX5_undo 4 = .ok (.ifCond .ne 6, 3) := by decide +kernel
theorem dX5_undo_7 : decode cX5_undo 7 = .ok (.bipush (-5), 2) := by decide +kernel
theorem dX5_undo_9 : decode cX5_undo 9 = .ok (.ireturn, 1) := by decide +kernel
theorem dX5_undo_10 : decode cX5_undo 10 = .ok (.aload_n 0, 1) := by decide +kernel
theorem dX5_undo_11 : decode cX5_undo 11 = .ok (.dup, 1) := by decide +kernel
theorem dX5_undo_12 : decode cX5_undo 12 = .ok (.getfield 46, 3) := by decide +kernel
theorem dX5_undo_15 : decode cX5_undo 15 = .ok (.iconst 1, 1) := by decide +kernel
theorem dX5_undo_16 : decode cX5_undo 16 = .ok (.isub, 1) := by decide +kernel
theorem dX5_undo_17 : decode cX5_undo 17 = .ok (.putfield 46, 3) := by decide +kernel
theorem dX5_undo_20 : decode cX5_undo 20 = .ok (.iconst 0, 1) := by decide +kernel
theorem dX5_undo_21 : decode cX5_undo 21 = .ok (.istore_n 1, 1) := by decide +kernel
theorem dX5_undo_22 : decode cX5_undo 22 = .ok (.iload_n 1, 1) := by decide +kernel
theorem dX5_undo_23 : decode cX5_undo 23 = .ok (.sipush 578, 3) := by decide +kernel
theorem dX5_undo_26 : decode cX5_undo 26 = .ok (.if_icmp .ge 30, 3) := by decide +kernel
theorem dX5_undo_29 : decode cX5_undo 29 = .ok (.aload_n 0, 1) := by decide +kernel
theorem dX5_undo_30 : decode cX5_undo 30 = .ok (.getfield 7, 3) := by decide +kernel
theorem dX5_undo_33 : decode cX5_undo 33 = .ok (.iload_n 1, 1) := by decide +kernel
theorem dX5_undo_34 : decode cX5_undo 34 = .ok (.aload_n 0, 1) := by decide +kernel
theorem dX5_undo_35 : decode cX5_undo 35 = .ok (.getfield 13, 3) := by decide +kernel
theorem dX5_undo_38 : decode cX5_undo 38 = .ok (.sipush 578, 3) := by decide +kernel
theorem dX5_undo_41 : decode cX5_undo 41 = .ok (.aload_n 0, 1) := by decide +kernel
theorem dX5_undo_42 : decode cX5_undo 42 = .ok (.getfield 46, 3) := by decide +kernel
theorem dX5_undo_45 : decode cX5_undo 45 = .ok (.imul, 1) := by decide +kernel
theorem dX5_undo_46 : decode cX5_undo 46 = .ok (.iload_n 1, 1) := by decide +kernel
theorem dX5_undo_47 : decode cX5_undo 47 = .ok (.iadd, 1) := by decide +kernel
theorem dX5_undo_48 : decode cX5_undo 48 = .ok (.iaload, 1) := by decide +kernel
theorem dX5_undo_49 : decode cX5_undo 49 = .ok (.iastore, 1) := by decide +kernel
theorem dX5_undo_50 : decode cX5_undo 50 = .ok (.iinc 1 1, 3) := by decide +kernel
theorem dX5_undo_53 : decode cX5_undo 53 = .ok (.goto (-31), 3) := by decide +kernel
theorem dX5_undo_56 : decode cX5_undo 56 = .ok (.aload_n 0, 1) := by decide +kernel
theorem dX5_undo_57 : decode cX5_undo 57 = .ok (.getfield 46, 3) := by decide +kernel
theorem dX5_undo_60 : decode cX5_undo 60 = .ok (.ireturn, 1) := by decide +kernel
theorem dX5_keep_0 : decode cX5_keep 0 = .ok (.iconst 0, 1) := by decide +kernel
theorem dX5_keep_1 : decode cX5_keep 1 = .ok (.istore_n 1, 1) := by decide +kernel
theorem dX5_keep_2 : decode cX5_keep 2 = .ok (.iload_n 1, 1) := by decide +kernel
theorem dX5_keep_3 : decode cX5_keep 3 = .ok (.sipush 578, 3) := by decide +kernel
theorem dX5_keep_6 : decode cX5_keep 6 = .ok (.if_icmp .ge 21, 3) := by decide +kernel
theorem dX5_keep_9 : decode cX5_keep 9 = .ok (.aload_n 0, 1) := by decide +kernel
theorem dX5_keep_10 : decode cX5_keep 10 = .ok (.getfield 16, 3) := by decide +kernel
theorem dX5_keep_13 : decode cX5_keep 13 = .ok (.iload_n 1, 1) := by decide +kernel
theorem dX5_keep_14 : decode cX5_keep 14 = .ok (.aload_n 0, 1) := by decide +kernel
theorem dX5_keep_15 : decode cX5_keep 15 = .ok (.getfield 7, 3) := by decide +kernel
theorem dX5_keep_18 : decode cX5_keep 18 = .ok (.iload_n 1, 1) := by decide +kernel
theorem dX5_keep_19 : decode cX5_keep 19 = .ok (.iaload, 1) := by decide +kernel
theorem dX5_keep_20 : decode cX5_keep 20 = .ok (.iastore, 1) := by decide +kernel
theorem dX5_keep_21 : decode cX5_keep 21 = .ok (.iinc 1 1, 3) := by decide +kernel
theorem dX5_keep_24 : decode cX5_keep 24 = .ok (.goto (-22), 3) := by decide +kernel
theorem dX5_keep_27 : decode cX5_keep 27 = .ok (.aload_n 0, 1) := by decide +kernel
theorem dX5_keep_28 : decode cX5_keep 28 = .ok (.iconst 1, 1) := by decide +kernel
theorem dX5_keep_29 : decode cX5_keep 29 = .ok (.putfield 149, 3) := by decide +kernel
theorem dX5_keep_32 : decode cX5_keep 32 = .ok (.aload_n 0, 1) := by decide +kernel
theorem dX5_keep_33 : decode cX5_keep 33 = .ok (.getfield 7, 3) := by decide +kernel
theorem dX5_keep_36 : decode cX5_keep 36 = .ok (.sipush 436, 3) := by decide +kernel
theorem dX5_keep_39 : decode cX5_keep 39 = .ok (.iaload, 1) := by decide +kernel
theorem dX5_keep_40 : decode cX5_keep 40 = .ok (.ireturn, 1) := by decide +kernel
set_option maxRecDepth 20000 in
theorem ggX5_restore_X5_record : GoodIn wsX5_restore wsX5_record := goodIn_r _ [8, 9, 10, 2, 11, 12, 13, 14, 15, 16, 17, 18, 19, 20, 21, 22, 23, 24] (by decide +kernel) (by decide +kernel)
set_option maxRecDepth 20000 in
theorem gX5_restore_X5_record : GoodIn wsX5_restore (wsV RX5 58 RX5 yX5_record wsX5_record) := goodIn_app (goodIn_of _ (by decide +kernel)) ggX5_restore_X5_record
theorem dX5_restore_0 : decode cX5_restore 0 = .ok (.aload_n 0, 1) := by decide +kernel
theorem dX5_restore_1 : decode cX5_restore 1 = .ok (.getfield 149, 3) := by decide +kernel
theorem dX5_restore_4 : decode cX5_restore 4 = .ok (.ifCond .ne 6, 3) := by decide +kernel
theorem dX5_restore_7 : decode cX5_restore 7 = .ok (.bipush (-5), 2) := by decide +kernel
theorem dX5_restore_9 : decode cX5_restore 9 = .ok (.ireturn, 1) := by decide +kernel
theorem dX5_restore_10 : decode cX5_restore 10 = .ok (.aload_n 0, 1) := by decide +kernel
theorem dX5_restore_11 : decode cX5_restore 11 = .ok (.invokevirtual 58, 3) := by decide +kernel
theorem dX5_restore_14 : decode cX5_restore 14 = .ok (.iconst 0, 1) := by decide +kernel
theorem dX5_restore_15 : decode cX5_restore 15 = .ok (.istore_n 1, 1) := by decide +kernel
theorem dX5_restore_16 : decode cX5_restore 16 = .ok (.iload_n 1, 1) := by decide +kernel
theorem dX5_restore_17 : decode cX5_restore 17 = .ok (.sipush 578, 3) := by decide +kernel
theorem dX5_restore_20 : decode cX5_restore 20 = .ok (.if_icmp .ge 21, 3) := by decide +kernel
theorem dX5_restore_23 : decode cX5_restore 23 = .ok (.aload_n 0, 1) := by decide +kernel
theorem dX5_restore_24 : decode cX5_restore 24 = .ok (.getfield 7, 3) := by decide +kernel
theorem dX5_restore_27 : decode cX5_restore 27 = .ok (.iload_n 1, 1) := by decide +kernel
theorem dX5_restore_28 : decode cX5_restore 28 = .ok (.aload_n 0, 1) := by decide +kernel
theorem dX5_restore_29 : decode cX5_restore 29 = .ok (.getfield 16, 3) := by decide +kernel
theorem dX5_restore_32 : decode cX5_restore 32 = .ok (.iload_n 1, 1) := by decide +kernel
theorem dX5_restore_33 : decode cX5_restore 33 = .ok (.iaload, 1) := by decide +kernel
theorem dX5_restore_34 : decode cX5_restore 34 = .ok (.iastore, 1) := by decide +kernel
theorem dX5_restore_35 : decode cX5_restore 35 = .ok (.iinc 1 1, 3) := by decide +kernel
theorem dX5_restore_38 : decode cX5_restore 38 = .ok (.goto (-22), 3) := by decide +kernel
theorem dX5_restore_41 : decode cX5_restore 41 = .ok (.aload_n 0, 1) := by decide +kernel
theorem dX5_restore_42 : decode cX5_restore 42 = .ok (.getfield 7, 3) := by decide +kernel
theorem dX5_restore_45 : decode cX5_restore 45 = .ok (.sipush 436, 3) := by decide +kernel
theorem dX5_restore_48 : decode cX5_restore 48 = .ok (.iaload, 1) := by decide +kernel
theorem dX5_restore_49 : decode cX5_restore 49 = .ok (.ireturn, 1) := by decide +kernel
set_option maxRecDepth 20000 in
theorem ggX5_point_X5_in : GoodIn wsX5_point wsX5_in := goodIn_r _ [5] (by decide +kernel) (by decide +kernel)
set_option maxRecDepth 20000 in
theorem gX5_point_X5_in : GoodIn wsX5_point (va_wsS RX5 42 yX5_in wsX5_in) := goodIn_app (goodIn_of _ (by decide +kernel)) ggX5_point_X5_in
set_option maxRecDepth 20000 in
theorem ggX5_point_X5_noPoint : GoodIn wsX5_point wsX5_noPoint := goodIn_r _ [8, 2, 3, 4, 5] (by decide +kernel) (by decide +kernel)
set_option maxRecDepth 20000 in
theorem gX5_point_X5_noPoint : GoodIn wsX5_point (va_wsS RX5 50 yX5_noPoint wsX5_noPoint) := goodIn_app (goodIn_of _ (by decide +kernel)) ggX5_point_X5_noPoint
set_option maxRecDepth 20000 in
theorem ggX5_point_X5_cell : GoodIn wsX5_point wsX5_cell := goodIn_r _ [11] (by decide +kernel) (by decide +kernel)
set_option maxRecDepth 20000 in
theorem gX5_point_X5_cell : GoodIn wsX5_point (va_wsS RX5 54 yX5_cell wsX5_cell) := goodIn_app (goodIn_of _ (by decide +kernel)) ggX5_point_X5_cell
theorem dX5_point_0 : decode cX5_point 0 = .ok (.iload_n 1, 1) := by decide +kernel
theorem dX5_point_1 : decode cX5_point 1 = .ok (.iconst 0, 1) := by decide +kernel
theorem dX5_point_2 : decode cX5_point 2 = .ok (.iconst 2, 1) := by decide +kernel
theorem dX5_point_3 : decode cX5_point 3 = .ok (.invokestatic 42, 3) := by decide +kernel
theorem dX5_point_6 : decode cX5_point 6 = .ok (.ifCond .eq 11, 3) := by decide +kernel
theorem dX5_point_9 : decode cX5_point 9 = .ok (.iload_n 2, 1) := by decide +kernel
theorem dX5_point_10 : decode cX5_point 10 = .ok (.iload_n 3, 1) := by decide +kernel
theorem dX5_point_11 : decode cX5_point 11 = .ok (.invokestatic 50, 3) := by decide +kernel
theorem dX5_point_14 : decode cX5_point 14 = .ok (.ifCond .eq 7, 3) := by decide +kernel
theorem dX5_point_17 : decode cX5_point 17 = .ok (.iconst (-1), 1) := by decide +kernel
theorem dX5_point_18 : decode cX5_point 18 = .ok (.goto 14, 3) := by decide +kernel
theorem dX5_point_21 : decode cX5_point 21 = .ok (.aload_n 0, 1) := by decide +kernel
theorem dX5_point_22 : decode cX5_point 22 = .ok (.getfield 7, 3) := by decide +kernel
theorem dX5_point_25 : decode cX5_point 25 = .ok (.iload_n 1, 1) := by decide +kernel
theorem dX5_point_26 : decode cX5_point 26 = .ok (.iload_n 2, 1) := by decide +kernel
theorem dX5_point_27 : decode cX5_point 27 = .ok (.iload_n 3, 1) := by decide +kernel
theorem dX5_point_28 : decode cX5_point 28 = .ok (.invokestatic 54, 3) := by decide +kernel
theorem dX5_point_31 : decode cX5_point 31 = .ok (.iaload, 1) := by decide +kernel
theorem dX5_point_32 : decode cX5_point 32 = .ok (.ireturn, 1) := by decide +kernel
set_option maxRecDepth 20000 in
theorem ggX5_difference_X5_in : GoodIn wsX5_difference wsX5_in := goodIn_r _ [4] (by decide +kernel) (by decide +kernel)
set_option maxRecDepth 20000 in
theorem gX5_difference_X5_in : GoodIn wsX5_difference (va_wsS RX5 42 yX5_in wsX5_in) := goodIn_app (goodIn_of _ (by decide +kernel)) ggX5_difference_X5_in
set_option maxRecDepth 20000 in
theorem ggX5_difference_X5_whole : GoodIn wsX5_difference wsX5_whole := goodIn_r _ [8, 9, 10, 11, 3, 12, 13, 14, 15, 16, 17, 18, 19, 20, 21, 22, 1, 2, 4, 23, 24, 25, 26, 27, 28, 29, 30, 31, 32, 33, 34, 35, 36, 37, 38, 39] (by decide +kernel) (by decide +kernel)
set_option maxRecDepth 20000 in
theorem gX5_difference_X5_whole : GoodIn wsX5_difference (wsV RX5 109 RX5 yX5_whole wsX5_whole) := goodIn_app (goodIn_of _ (by decide +kernel)) ggX5_difference_X5_whole
set_option maxRecDepth 20000 in
theorem ggX5_difference_X5_apart : GoodIn wsX5_difference wsX5_apart := goodIn_r _ [12, 13, 14, 15, 3, 16, 17, 18, 19, 20, 21, 22, 1, 2, 4, 23, 24, 25, 26, 27, 28, 29, 30, 31, 32, 33, 34, 35, 36, 37, 38, 39] (by decide +kernel) (by decide +kernel)
set_option maxRecDepth 20000 in
theorem gX5_difference_X5_apart : GoodIn wsX5_difference (wsV RX5 82 RX5 yX5_apart wsX5_apart) := goodIn_app (goodIn_of _ (by decide +kernel)) ggX5_difference_X5_apart
theorem dX5_difference_0 : decode cX5_difference 0 = .ok (.iload_n 1, 1) := by decide +kernel
theorem dX5_difference_1 : decode cX5_difference 1 = .ok (.iconst 0, 1) := by decide +kernel
theorem dX5_difference_2 : decode cX5_difference 2 = .ok (.iconst 2, 1) := by decide +kernel
theorem dX5_difference_3 : decode cX5_difference 3 = .ok (.invokestatic 42, 3) := by decide +kernel
theorem dX5_difference_6 : decode cX5_difference 6 = .ok (.ifCond .eq 22, 3) := by decide +kernel
theorem dX5_difference_9 : decode cX5_difference 9 = .ok (.iload_n 2, 1) := by decide +kernel
theorem dX5_difference_10 : decode cX5_difference 10 = .ok (.iconst 0, 1) := by decide +kernel
theorem dX5_difference_11 : decode cX5_difference 11 = .ok (.iconst 2, 1) := by decide +kernel
theorem dX5_difference_12 : decode cX5_difference 12 = .ok (.invokestatic 42, 3) := by decide +kernel
theorem dX5_difference_15 : decode cX5_difference 15 = .ok (.ifCond .eq 13, 3) := by decide +kernel
theorem dX5_difference_18 : decode cX5_difference 18 = .ok (.iload_n 3, 1) := by decide +kernel
theorem dX5_difference_19 : decode cX5_difference 19 = .ok (.iconst (-1), 1) := by decide +kernel
theorem dX5_difference_20 : decode cX5_difference 20 = .ok (.bipush 8, 2) := by decide +kernel
theorem dX5_difference_22 : decode cX5_difference 22 = .ok (.invokestatic 42, 3) := by decide +kernel
theorem dX5_difference_25 : decode cX5_difference 25 = .ok (.ifCond .ne 5, 3) := by decide +kernel
theorem dX5_difference_28 : decode cX5_difference 28 = .ok (.iconst (-1), 1) := by decide +kernel
theorem dX5_difference_29 : decode cX5_difference 29 = .ok (.ireturn, 1) := by decide +kernel
theorem dX5_difference_30 : decode cX5_difference 30 = .ok (.iload_n 3, 1) := by decide +kernel
theorem dX5_difference_31 : decode cX5_difference 31 = .ok (.ifCond .ge 12, 3) := by decide +kernel
theorem dX5_difference_34 : decode cX5_difference 34 = .ok (.aload_n 0, 1) := by decide +kernel
theorem dX5_difference_35 : decode cX5_difference 35 = .ok (.iload_n 1, 1) := by decide +kernel
theorem dX5_difference_36 : decode cX5_difference 36 = .ok (.iload_n 2, 1) := by decide +kernel
theorem dX5_difference_37 : decode cX5_difference 37 = .ok (.invokevirtual 109, 3) := by decide +kernel
theorem dX5_difference_40 : decode cX5_difference 40 = .ok (.goto 12, 3) := by decide +kernel
theorem dX5_difference_43 : decode cX5_difference 43 = .ok (.aload_n 0, 1) := by decide +kernel
theorem dX5_difference_44 : decode cX5_difference 44 = .ok (.iload_n 1, 1) := by decide +kernel
theorem dX5_difference_45 : decode cX5_difference 45 = .ok (.iload_n 2, 1) := by decide +kernel
theorem dX5_difference_46 : decode cX5_difference 46 = .ok (.iload_n 3, 1) := by decide +kernel
theorem dX5_difference_47 : decode cX5_difference 47 = .ok (.iconst 0, 1) := by decide +kernel
theorem dX5_difference_48 : decode cX5_difference 48 = .ok (.iconst 0, 1) := by decide +kernel
theorem dX5_difference_49 : decode cX5_difference 49 = .ok (.invokevirtual 82, 3) := by decide +kernel
theorem dX5_difference_52 : decode cX5_difference 52 = .ok (.ireturn, 1) := by decide +kernel
set_option maxRecDepth 20000 in
theorem ggX5_spiral_X5_in : GoodIn wsX5_spiral wsX5_in := goodIn_r _ [6] (by decide +kernel) (by decide +kernel)
set_option maxRecDepth 20000 in
theorem gX5_spiral_X5_in : GoodIn wsX5_spiral (va_wsS RX5 42 yX5_in wsX5_in) := goodIn_app (goodIn_of _ (by decide +kernel)) ggX5_spiral_X5_in
set_option maxRecDepth 20000 in
theorem ggX5_spiral_X5_bits : GoodIn wsX5_spiral wsX5_bits := goodIn_r _ [9] (by decide +kernel) (by decide +kernel)
set_option maxRecDepth 20000 in
theorem gX5_spiral_X5_bits : GoodIn wsX5_spiral (va_wsS RX5 91 yX5_bits wsX5_bits) := goodIn_app (goodIn_of _ (by decide +kernel)) ggX5_spiral_X5_bits
theorem dX5_spiral_0 : decode cX5_spiral 0 = .ok (.iload_n 1, 1) := by decide +kernel
theorem dX5_spiral_1 : decode cX5_spiral 1 = .ok (.iconst 0, 1) := by decide +kernel
theorem dX5_spiral_2 : decode cX5_spiral 2 = .ok (.bipush 24, 2) := by decide +kernel
theorem dX5_spiral_4 : decode cX5_spiral 4 = .ok (.invokestatic 42, 3) := by decide +kernel
theorem dX5_spiral_7 : decode cX5_spiral 7 = .ok (.ifCond .ne 5, 3) := by decide +kernel
theorem dX5_spiral_10 : decode cX5_spiral 10 = .ok (.iconst (-1), 1) := by decide +kernel
theorem dX5_spiral_11 : decode cX5_spiral 11 = .ok (.ireturn, 1) := by decide +kernel
theorem dX5_spiral_12 : decode cX5_spiral 12 = .ok (.iload_n 2, 1) := by decide +kernel
theorem dX5_spiral_13 : decode cX5_spiral 13 = .ok (.ifCond .ne 15, 3) := by decide +kernel
theorem dX5_spiral_16 : decode cX5_spiral 16 = .ok (.bipush 100, 2) := by decide +kernel
theorem dX5_spiral_18 : decode cX5_spiral 18 = .ok (.aload_n 0, 1) := by decide +kernel
theorem dX5_spiral_19 : decode cX5_spiral 19 = .ok (.getfield 19, 3) := by decide +kernel
theorem dX5_spiral_22 : decode cX5_spiral 22 = .ok (.iload_n 1, 1) := by decide +kernel
theorem dX5_spiral_23 : decode cX5_spiral 23 = .ok (.iaload, 1) := by decide +kernel
theorem dX5_spiral_24 : decode cX5_spiral 24 = .ok (.iadd, 1) := by decide +kernel
theorem dX5_spiral_25 : decode cX5_spiral 25 = .ok (.goto 34, 3) := by decide +kernel
theorem dX5_spiral_28 : decode cX5_spiral 28 = .ok (.iload_n 2, 1) := by decide +kernel
theorem dX5_spiral_29 : decode cX5_spiral 29 = .ok (.iconst 1, 1) := by decide +kernel
theorem dX5_spiral_30 : decode cX5_spiral 30 = .ok (.if_icmp .ne 15, 3) := by decide +kernel
theorem dX5_spiral_33 : decode cX5_spiral 33 = .ok (.bipush 100, 2) := by decide +kernel
theorem dX5_spiral_35 : decode cX5_spiral 35 = .ok (.aload_n 0, 1) := by decide +kernel
theorem dX5_spiral_36 : decode cX5_spiral 36 = .ok (.getfield 22, 3) := by decide +kernel
theorem dX5_spiral_39 : decode cX5_spiral 39 = .ok (.iload_n 1, 1) := by decide +kernel
theorem dX5_spiral_40 : decode cX5_spiral 40 = .ok (.iaload, 1) := by decide +kernel
theorem dX5_spiral_41 : decode cX5_spiral 41 = .ok (.iadd, 1) := by decide +kernel
theorem dX5_spiral_42 : decode cX5_spiral 42 = .ok (.goto 17, 3) := by decide +kernel
theorem dX5_spiral_45 : decode cX5_spiral 45 = .ok (.iload_n 2, 1) := by decide +kernel
theorem dX5_spiral_46 : decode cX5_spiral 46 = .ok (.iconst 2, 1) := by decide +kernel
theorem dX5_spiral_47 : decode cX5_spiral 47 = .ok (.if_icmp .ne 10, 3) := by decide +kernel
theorem dX5_spiral_50 : decode cX5_spiral 50 = .ok (.iload_n 1, 1) := by decide +kernel
theorem dX5_spiral_51 : decode cX5_spiral 51 = .ok (.invokestatic 91, 3) := by decide +kernel
theorem dX5_spiral_54 : decode cX5_spiral 54 = .ok (.goto 5, 3) := by decide +kernel
theorem dX5_spiral_57 : decode cX5_spiral 57 = .ok (.bipush (-2), 2) := by decide +kernel
theorem dX5_spiral_59 : decode cX5_spiral 59 = .ok (.ireturn, 1) := by decide +kernel
set_option maxRecDepth 20000 in
theorem ggX5_wouldCode_X5_in : GoodIn wsX5_wouldCode wsX5_in := goodIn_r _ [4] (by decide +kernel) (by decide +kernel)
set_option maxRecDepth 20000 in
theorem gX5_wouldCode_X5_in : GoodIn wsX5_wouldCode (va_wsS RX5 42 yX5_in wsX5_in) := goodIn_app (goodIn_of _ (by decide +kernel)) ggX5_wouldCode_X5_in
set_option maxRecDepth 20000 in
theorem ggX5_wouldCode_X5_code : GoodIn wsX5_wouldCode wsX5_code := goodIn_r _ [8, 9, 10, 11, 3, 12, 13, 14, 15, 16, 17, 18, 19, 20, 21, 22, 23, 24, 25, 26, 27, 28, 1, 2, 4, 29, 30, 31, 35, 36, 37, 38, 39, 40, 41, 42, 43, 44, 45, 46, 47, 48] (by decide +kernel) (by decide +kernel)
set_option maxRecDepth 20000 in
theorem gX5_wouldCode_X5_code : GoodIn wsX5_wouldCode (wsV RX5 88 RX5 yX5_code wsX5_code) := goodIn_app (goodIn_of _ (by decide +kernel)) ggX5_wouldCode_X5_code
set_option maxRecDepth 20000 in
theorem ggX5_wouldCode_X5_bits : GoodIn wsX5_wouldCode wsX5_bits := goodIn_r _ [34] (by decide +kernel) (by decide +kernel)
set_option maxRecDepth 20000 in
theorem gX5_wouldCode_X5_bits : GoodIn wsX5_wouldCode (va_wsS RX5 91 yX5_bits wsX5_bits) := goodIn_app (goodIn_of _ (by decide +kernel)) ggX5_wouldCode_X5_bits
set_option maxRecDepth 20000 in
theorem ggX5_wouldCode_X5_apartBy : GoodIn wsX5_wouldCode wsX5_apartBy := goodIn_r _ [12, 13, 14, 15, 16, 17, 3, 18, 19, 20, 21, 22, 23, 24, 25, 26, 27, 28, 1, 2, 4, 29, 30, 31, 35, 36, 37, 38, 39, 40, 41, 42, 43, 44, 45, 46, 47, 48] (by decide +kernel) (by decide +kernel)
set_option maxRecDepth 20000 in
theorem gX5_wouldCode_X5_apartBy : GoodIn wsX5_wouldCode (wsV RX5 85 RX5 yX5_apartBy wsX5_apartBy) := goodIn_app (goodIn_of _ (by decide +kernel)) ggX5_wouldCode_X5_apartBy
theorem dX5_wouldCode_0 : decode cX5_wouldCode 0 = .ok (.iload_n 1, 1) := by decide +kernel
theorem dX5_wouldCode_1 : decode cX5_wouldCode 1 = .ok (.iconst 0, 1) := by decide +kernel
theorem dX5_wouldCode_2 : decode cX5_wouldCode 2 = .ok (.bipush 8, 2) := by decide +kernel
theorem dX5_wouldCode_4 : decode cX5_wouldCode 4 = .ok (.invokestatic 42, 3) := by decide +kernel
theorem dX5_wouldCode_7 : decode cX5_wouldCode 7 = .ok (.ifCond .ne 5, 3) := by decide +kernel
theorem dX5_wouldCode_10 : decode cX5_wouldCode 10 = .ok (.iconst (-1), 1) := by decide +kernel
theorem dX5_wouldCode_11 : decode cX5_wouldCode 11 = .ok (.ireturn, 1) := by decide +kernel
theorem dX5_wouldCode_12 : decode cX5_wouldCode 12 = .ok (.iload_n 2, 1) := by decide +kernel
theorem dX5_wouldCode_13 : decode cX5_wouldCode 13 = .ok (.iconst 0, 1) := by decide +kernel
theorem dX5_wouldCode_14 : decode cX5_wouldCode 14 = .ok (.sipush 240, 3) := by decide +kernel
theorem dX5_wouldCode_17 : decode cX5_wouldCode 17 = .ok (.invokestatic 42, 3) := by decide +kernel
theorem dX5_wouldCode_20 : decode cX5_wouldCode 20 = .ok (.ifCond .eq 12, 3) := by decide +kernel
theorem dX5_wouldCode_23 : decode cX5_wouldCode 23 = .ok (.iload_n 3, 1) := by decide +kernel
theorem dX5_wouldCode_24 : decode cX5_wouldCode 24 = .ok (.iconst 0, 1) := by decide +kernel
theorem dX5_wouldCode_25 : decode cX5_wouldCode 25 = .ok (.iconst 3, 1) := by decide +kernel
theorem dX5_wouldCode_26 : decode cX5_wouldCode 26 = .ok (.invokestatic 42, 3) := by decide +kernel
theorem dX5_wouldCode_29 : decode cX5_wouldCode 29 = .ok (.ifCond .ne 6, 3) := by decide +kernel
theorem dX5_wouldCode_32 : decode cX5_wouldCode 32 = .ok (.bipush (-2), 2) := by decide +kernel
theorem dX5_wouldCode_34 : decode cX5_wouldCode 34 = .ok (.ireturn, 1) := by decide +kernel
theorem dX5_wouldCode_35 : decode cX5_wouldCode 35 = .ok (.aload_n 0, 1) := by decide +kernel
theorem dX5_wouldCode_36 : decode cX5_wouldCode 36 = .ok (.iload_n 1, 1) := by decide +kernel
theorem dX5_wouldCode_37 : decode cX5_wouldCode 37 = .ok (.iload_n 2, 1) := by decide +kernel
theorem dX5_wouldCode_38 : decode cX5_wouldCode 38 = .ok (.invokevirtual 88, 3) := by decide +kernel
theorem dX5_wouldCode_41 : decode cX5_wouldCode 41 = .ok (.istore 4, 2) := by decide +kernel
theorem dX5_wouldCode_43 : decode cX5_wouldCode 43 = .ok (.iload_n 3, 1) := by decide +kernel
theorem dX5_wouldCode_44 : decode cX5_wouldCode 44 = .ok (.tableswitch 71 0 2 #[28, 50, 65], 28) := by decide +kernel
theorem dX5_wouldCode_72 : decode cX5_wouldCode 72 = .ok (.iload 4, 2) := by decide +kernel
theorem dX5_wouldCode_74 : decode cX5_wouldCode 74 = .ok (.ifCond .ne 7, 3) := by decide +kernel
theorem dX5_wouldCode_77 : decode cX5_wouldCode 77 = .ok (.iconst 0, 1) := by decide +kernel
theorem dX5_wouldCode_78 : decode cX5_wouldCode 78 = .ok (.goto 15, 3) := by decide +kernel
theorem dX5_wouldCode_81 : decode cX5_wouldCode 81 = .ok (.iload 4, 2) := by decide +kernel
theorem dX5_wouldCode_83 : decode cX5_wouldCode 83 = .ok (.bipush 25, 2) := by decide +kernel
theorem dX5_wouldCode_85 : decode cX5_wouldCode 85 = .ok (.if_icmp .ne 7, 3) := by decide +kernel
theorem dX5_wouldCode_88 : decode cX5_wouldCode 88 = .ok (.iconst 2, 1) := by decide +kernel
theorem dX5_wouldCode_89 : decode cX5_wouldCode 89 = .ok (.goto 4, 3) := by decide +kernel
theorem dX5_wouldCode_92 : decode cX5_wouldCode 92 = .ok (.iconst 1, 1) := by decide +kernel
theorem dX5_wouldCode_93 : decode cX5_wouldCode 93 = .ok (.ireturn, 1) := by decide +kernel
theorem dX5_wouldCode_94 : decode cX5_wouldCode 94 = .ok (.iload 4, 2) := by decide +kernel
theorem dX5_wouldCode_96 : decode cX5_wouldCode 96 = .ok (.bipush 25, 2) := by decide +kernel
theorem dX5_wouldCode_98 : decode cX5_wouldCode 98 = .ok (.if_icmp .ne 8, 3) := by decide +kernel
theorem dX5_wouldCode_101 : decode cX5_wouldCode 101 = .ok (.bipush (-5), 2) := by decide +kernel
theorem dX5_wouldCode_103 : decode cX5_wouldCode 103 = .ok (.goto 5, 3) := by decide +kernel
theorem dX5_wouldCode_106 : decode cX5_wouldCode 106 = .ok (.iload 4, 2) := by decide +kernel
theorem dX5_wouldCode_108 : decode cX5_wouldCode 108 = .ok (.ireturn, 1) := by decide +kernel
theorem dX5_wouldCode_109 : decode cX5_wouldCode 109 = .ok (.iload 4, 2) := by decide +kernel
theorem dX5_wouldCode_111 : decode cX5_wouldCode 111 = .ok (.invokestatic 91, 3) := by decide +kernel
theorem dX5_wouldCode_114 : decode cX5_wouldCode 114 = .ok (.ireturn, 1) := by decide +kernel
theorem dX5_wouldCode_115 : decode cX5_wouldCode 115 = .ok (.iload 4, 2) := by decide +kernel
theorem dX5_wouldCode_117 : decode cX5_wouldCode 117 = .ok (.bipush 25, 2) := by decide +kernel
theorem dX5_wouldCode_119 : decode cX5_wouldCode 119 = .ok (.if_icmp .ne 7, 3) := by decide +kernel
theorem dX5_wouldCode_122 : decode cX5_wouldCode 122 = .ok (.iconst 0, 1) := by decide +kernel
theorem dX5_wouldCode_123 : decode cX5_wouldCode 123 = .ok (.goto 10, 3) := by decide +kernel
theorem dX5_wouldCode_126 : decode cX5_wouldCode 126 = .ok (.aload_n 0, 1) := by decide +kernel
theorem dX5_wouldCode_127 : decode cX5_wouldCode 127 = .ok (.iload_n 1, 1) := by decide +kernel
theorem dX5_wouldCode_128 : decode cX5_wouldCode 128 = .ok (.iload 4, 2) := by decide +kernel
theorem dX5_wouldCode_130 : decode cX5_wouldCode 130 = .ok (.invokevirtual 85, 3) := by decide +kernel
theorem dX5_wouldCode_133 : decode cX5_wouldCode 133 = .ok (.ireturn, 1) := by decide +kernel
set_option maxRecDepth 20000 in
theorem ggX5_wouldSpend_X5_in : GoodIn wsX5_wouldSpend wsX5_in := goodIn_r _ [4] (by decide +kernel) (by decide +kernel)
set_option maxRecDepth 20000 in
theorem gX5_wouldSpend_X5_in : GoodIn wsX5_wouldSpend (va_wsS RX5 42 yX5_in wsX5_in) := goodIn_app (goodIn_of _ (by decide +kernel)) ggX5_wouldSpend_X5_in
set_option maxRecDepth 20000 in
theorem ggX5_wouldSpend_X5_spends : GoodIn wsX5_wouldSpend wsX5_spends := goodIn_r _ [8, 9, 10, 11, 3, 12, 13, 14, 15, 16, 17, 18, 19, 20, 21, 22, 23, 24, 25, 26, 27, 28, 29, 30, 31, 32, 1, 2, 4, 33, 34, 35, 36, 37, 38, 39, 40, 41, 42, 43, 44, 45, 46, 47, 48, 49, 50, 51, 52] (by decide +kernel) (by decide +kernel)
set_option maxRecDepth 20000 in
theorem gX5_wouldSpend_X5_spends : GoodIn wsX5_wouldSpend (wsV RX5 94 RX5 yX5_spends wsX5_spends) := goodIn_app (goodIn_of _ (by decide +kernel)) ggX5_wouldSpend_X5_spends
theorem dX5_wouldSpend_0 : decode cX5_wouldSpend 0 = .ok (.iload_n 1, 1) := by decide +kernel
theorem dX5_wouldSpend_1 : decode cX5_wouldSpend 1 = .ok (.iconst 0, 1) := by decide +kernel
theorem dX5_wouldSpend_2 : decode cX5_wouldSpend 2 = .ok (.sipush 240, 3) := by decide +kernel
theorem dX5_wouldSpend_5 : decode cX5_wouldSpend 5 = .ok (.invokestatic 42, 3) := by decide +kernel
theorem dX5_wouldSpend_8 : decode cX5_wouldSpend 8 = .ok (.ifCond .eq 11, 3) := by decide +kernel
theorem dX5_wouldSpend_11 : decode cX5_wouldSpend 11 = .ok (.aload_n 0, 1) := by decide +kernel
theorem dX5_wouldSpend_12 : decode cX5_wouldSpend 12 = .ok (.iload_n 1, 1) := by decide +kernel
theorem dX5_wouldSpend_13 : decode cX5_wouldSpend 13 = .ok (.invokevirtual 94, 3) := by decide +kernel
theorem dX5_wouldSpend_16 : decode cX5_wouldSpend 16 = .ok (.goto 5, 3) := by decide +kernel
theorem dX5_wouldSpend_19 : decode cX5_wouldSpend 19 = .ok (.bipush (-2), 2) := by decide +kernel
theorem dX5_wouldSpend_21 : decode cX5_wouldSpend 21 = .ok (.ireturn, 1) := by decide +kernel
set_option maxRecDepth 20000 in
theorem ggX5_wouldNeed_X5_needs : GoodIn wsX5_wouldNeed wsX5_needs := goodIn_r _ [5, 6, 7, 8, 9, 4, 10, 11, 12, 13, 14, 15, 16, 17, 18, 19, 20, 21, 22, 23, 24, 25, 26, 27, 28, 29, 30, 31, 32, 33, 34, 35, 36, 37, 38, 39, 40, 41, 42, 43, 44, 45, 46, 47, 48, 49, 50, 51, 52, 53, 54, 55, 56] (by decide +kernel) (by decide +kernel)
set_option maxRecDepth 20000 in
theorem gX5_wouldNeed_X5_needs : GoodIn wsX5_wouldNeed (wsV RX5 97 RX5 yX5_needs wsX5_needs) := goodIn_app (goodIn_of _ (by decide +kernel)) ggX5_wouldNeed_X5_needs
theorem dX5_wouldNeed_0 : decode cX5_wouldNeed 0 = .ok (.aload_n 0, 1) := by decide +kernel
theorem dX5_wouldNeed_1 : decode cX5_wouldNeed 1 = .ok (.invokevirtual 97, 3) := by decide +kernel
theorem dX5_wouldNeed_4 : decode cX5_wouldNeed 4 = .ok (.ireturn, 1) := by decide +kernel
set_option maxRecDepth 20000 in
theorem ggX5_best_X5_in : GoodIn wsX5_best wsX5_in := goodIn_r _ [4] (by decide +kernel) (by decide +kernel)
set_option maxRecDepth 20000 in
theorem gX5_best_X5_in : GoodIn wsX5_best (va_wsS RX5 42 yX5_in wsX5_in) := goodIn_app (goodIn_of _ (by decide +kernel)) ggX5_best_X5_in
set_option maxRecDepth 20000 in
theorem ggX5_best_X5_apartBy : GoodIn wsX5_best wsX5_apartBy := goodIn_r _ [8, 9, 10, 11, 12, 13, 3, 14, 15, 16, 17, 18, 19, 20, 21, 22, 23, 24, 1, 2, 4, 25, 26, 27, 28, 29, 30, 31, 32, 33, 34, 35, 36, 37, 38, 39, 40, 41] (by decide +kernel) (by decide +kernel)
set_option maxRecDepth 20000 in
theorem gX5_best_X5_apartBy : GoodIn wsX5_best (wsV RX5 85 RX5 yX5_apartBy wsX5_apartBy) := goodIn_app (goodIn_of _ (by decide +kernel)) ggX5_best_X5_apartBy
theorem dX5_best_0 : decode cX5_best 0 = .ok (.iload_n 1, 1) := by decide +kernel
theorem dX5_best_1 : decode cX5_best 1 = .ok (.iconst 0, 1) := by decide +kernel
theorem dX5_best_2 : decode cX5_best 2 = .ok (.bipush 8, 2) := by decide +kernel
theorem dX5_best_4 : decode cX5_best 4 = .ok (.invokestatic 42, 3) := by decide +kernel
theorem dX5_best_7 : decode cX5_best 7 = .ok (.ifCond .ne 5, 3) := by decide +kernel
theorem dX5_best_10 : decode cX5_best 10 = .ok (.iconst (-1), 1) := by decide +kernel
theorem dX5_best_11 : decode cX5_best 11 = .ok (.ireturn, 1) := by decide +kernel
theorem dX5_best_12 : decode cX5_best 12 = .ok (.iload_n 2, 1) := by decide +kernel
theorem dX5_best_13 : decode cX5_best 13 = .ok (.iconst 0, 1) := by decide +kernel
theorem dX5_best_14 : decode cX5_best 14 = .ok (.iconst 1, 1) := by decide +kernel
theorem dX5_best_15 : decode cX5_best 15 = .ok (.invokestatic 42, 3) := by decide +kernel
theorem dX5_best_18 : decode cX5_best 18 = .ok (.ifCond .ne 6, 3) := by decide +kernel
theorem dX5_best_21 : decode cX5_best 21 = .ok (.bipush (-2), 2) := by decide +kernel
theorem dX5_best_23 : decode cX5_best 23 = .ok (.ireturn, 1) := by decide +kernel
theorem dX5_best_24 : decode cX5_best 24 = .ok (.iconst 0, 1) := by decide +kernel
theorem dX5_best_25 : decode cX5_best 25 = .ok (.istore_n 3, 1) := by decide +kernel
theorem dX5_best_26 : decode cX5_best 26 = .ok (.iconst 1, 1) := by decide +kernel
theorem dX5_best_27 : decode cX5_best 27 = .ok (.istore 4, 2) := by decide +kernel
theorem dX5_best_29 : decode cX5_best 29 = .ok (.iload 4, 2) := by decide +kernel
theorem dX5_best_31 : decode cX5_best 31 = .ok (.bipush 25, 2) := by decide +kernel
theorem dX5_best_33 : decode cX5_best 33 = .ok (.if_icmp .ge 43, 3) := by decide +kernel
theorem dX5_best_36 : decode cX5_best 36 = .ok (.aload_n 0, 1) := by decide +kernel
theorem dX5_best_37 : decode cX5_best 37 = .ok (.iload_n 1, 1) := by decide +kernel
theorem dX5_best_38 : decode cX5_best 38 = .ok (.iload 4, 2) := by decide +kernel
theorem dX5_best_40 : decode cX5_best 40 = .ok (.invokevirtual 85, 3) := by decide +kernel
theorem dX5_best_43 : decode cX5_best 43 = .ok (.istore 5, 2) := by decide +kernel
theorem dX5_best_45 : decode cX5_best 45 = .ok (.iload 5, 2) := by decide +kernel
theorem dX5_best_47 : decode cX5_best 47 = .ok (.bipush (-5), 2) := by decide +kernel
theorem dX5_best_49 : decode cX5_best 49 = .ok (.if_icmp .eq 19, 3) := by decide +kernel
theorem dX5_best_52 : decode cX5_best 52 = .ok (.iload 5, 2) := by decide +kernel
theorem dX5_best_54 : decode cX5_best 54 = .ok (.aload_n 0, 1) := by decide +kernel
theorem dX5_best_55 : decode cX5_best 55 = .ok (.iload_n 1, 1) := by decide +kernel
theorem dX5_best_56 : decode cX5_best 56 = .ok (.iload_n 3, 1) := by decide +kernel
theorem dX5_best_57 : decode cX5_best 57 = .ok (.invokevirtual 85, 3) := by decide +kernel
theorem dX5_best_60 : decode cX5_best 60 = .ok (.if_icmp .ge 8, 3) := by decide +kernel
theorem dX5_best_63 : decode cX5_best 63 = .ok (.iload 4, 2) := by decide +kernel
theorem dX5_best_65 : decode cX5_best 65 = .ok (.goto 4, 3) := by decide +kernel
theorem dX5_best_68 : decode cX5_best 68 = .ok (.iload_n 3, 1) := by decide +kernel
theorem dX5_best_69 : decode cX5_best 69 = .ok (.istore_n 3, 1) := by decide +kernel
theorem dX5_best_70 : decode cX5_best 70 = .ok (.iinc 4 1, 3) := by decide +kernel
theorem dX5_best_73 : decode cX5_best 73 = .ok (.goto (-44), 3) := by decide +kernel
theorem dX5_best_76 : decode cX5_best 76 = .ok (.iload_n 2, 1) := by decide +kernel
theorem dX5_best_77 : decode cX5_best 77 = .ok (.ifCond .ne 7, 3) := by decide +kernel
theorem dX5_best_80 : decode cX5_best 80 = .ok (.iload_n 3, 1) := by decide +kernel
theorem dX5_best_81 : decode cX5_best 81 = .ok (.goto 9, 3) := by decide +kernel
theorem dX5_best_84 : decode cX5_best 84 = .ok (.aload_n 0, 1) := by decide +kernel
theorem dX5_best_85 : decode cX5_best 85 = .ok (.iload_n 1, 1) := by decide +kernel
theorem dX5_best_86 : decode cX5_best 86 = .ok (.iload_n 3, 1) := by decide +kernel
theorem dX5_best_87 : decode cX5_best 87 = .ok (.invokevirtual 85, 3) := by decide +kernel
theorem dX5_best_90 : decode cX5_best 90 = .ok (.ireturn, 1) := by decide +kernel
set_option maxRecDepth 20000 in
theorem ggX5_frame_X5_in : GoodIn wsX5_frame wsX5_in := goodIn_r _ [5] (by decide +kernel) (by decide +kernel)
set_option maxRecDepth 20000 in
theorem gX5_frame_X5_in : GoodIn wsX5_frame (va_wsS RX5 42 yX5_in wsX5_in) := goodIn_app (goodIn_of _ (by decide +kernel)) ggX5_frame_X5_in
theorem dX5_frame_0 : decode cX5_frame 0 = .ok (.iload_n 1, 1) := by decide +kernel
theorem dX5_frame_1 : decode cX5_frame 1 = .ok (.ifCond .lt 13, 3) := by decide +kernel
theorem dX5_frame_4 : decode cX5_frame 4 = .ok (.iload_n 2, 1) := by decide +kernel
theorem dX5_frame_5 : decode cX5_frame 5 = .ok (.iconst 0, 1) := by decide +kernel
theorem dX5_frame_6 : decode cX5_frame 6 = .ok (.bipush 7, 2) := by decide +kernel
theorem dX5_frame_8 : decode cX5_frame 8 = .ok (.invokestatic 42, 3) := by decide +kernel
theorem dX5_frame_11 : decode cX5_frame 11 = .ok (.ifCond .ne 6, 3) := by decide +kernel
theorem dX5_frame_14 : decode cX5_frame 14 = .ok (.bipush (-2), 2) := by decide +kernel
theorem dX5_frame_16 : decode cX5_frame 16 = .ok (.ireturn, 1) := by decide +kernel
theorem dX5_frame_17 : decode cX5_frame 17 = .ok (.iload_n 1, 1) := by decide +kernel
theorem dX5_frame_18 : decode cX5_frame 18 = .ok (.aload_n 0, 1) := by decide +kernel
theorem dX5_frame_19 : decode cX5_frame 19 = .ok (.getfield 7, 3) := by decide +kernel
theorem dX5_frame_22 : decode cX5_frame 22 = .ok (.sipush 441, 3) := by decide +kernel
theorem dX5_frame_25 : decode cX5_frame 25 = .ok (.iaload, 1) := by decide +kernel
theorem dX5_frame_26 : decode cX5_frame 26 = .ok (.if_icmp .ge 32, 3) := by decide +kernel
theorem dX5_frame_29 : decode cX5_frame 29 = .ok (.aload_n 0, 1) := by decide +kernel
theorem dX5_frame_30 : decode cX5_frame 30 = .ok (.getfield 7, 3) := by decide +kernel
theorem dX5_frame_33 : decode cX5_frame 33 = .ok (.sipush 442, 3) := by decide +kernel
theorem dX5_frame_36 : decode cX5_frame 36 = .ok (.bipush 17, 2) := by decide +kernel
theorem dX5_frame_38 : decode cX5_frame 38 = .ok (.aload_n 0, 1) := by decide +kernel
theorem dX5_frame_39 : decode cX5_frame 39 = .ok (.getfield 7, 3) := by decide +kernel
theorem dX5_frame_42 : decode cX5_frame 42 = .ok (.sipush 441, 3) := by decide +kernel
theorem dX5_frame_45 : decode cX5_frame 45 = .ok (.iaload, 1) := by decide +kernel
theorem dX5_frame_46 : decode cX5_frame 46 = .ok (.iconst 1, 1) := by decide +kernel
theorem dX5_frame_47 : decode cX5_frame 47 = .ok (.isub, 1) := by decide +kernel
theorem dX5_frame_48 : decode cX5_frame 48 = .ok (.iload_n 1, 1) := by decide +kernel
theorem dX5_frame_49 : decode cX5_frame 49 = .ok (.isub, 1) := by decide +kernel
theorem dX5_frame_50 : decode cX5_frame 50 = .ok (.imul, 1) := by decide +kernel
theorem dX5_frame_51 : decode cX5_frame 51 = .ok (.iadd, 1) := by decide +kernel
theorem dX5_frame_52 : decode cX5_frame 52 = .ok (.iload_n 2, 1) := by decide +kernel
theorem dX5_frame_53 : decode cX5_frame 53 = .ok (.iadd, 1) := by decide +kernel
theorem dX5_frame_54 : decode cX5_frame 54 = .ok (.iaload, 1) := by decide +kernel
theorem dX5_frame_55 : decode cX5_frame 55 = .ok (.goto 5, 3) := by decide +kernel
theorem dX5_frame_58 : decode cX5_frame 58 = .ok (.bipush (-5), 2) := by decide +kernel
theorem dX5_frame_60 : decode cX5_frame 60 = .ok (.ireturn, 1) := by decide +kernel
set_option maxRecDepth 20000 in
theorem ggX5_sent_X5_in : GoodIn wsX5_sent wsX5_in := goodIn_r _ [5] (by decide +kernel) (by decide +kernel)
set_option maxRecDepth 20000 in
theorem gX5_sent_X5_in : GoodIn wsX5_sent (va_wsS RX5 42 yX5_in wsX5_in) := goodIn_app (goodIn_of _ (by decide +kernel)) ggX5_sent_X5_in
theorem dX5_sent_0 : decode cX5_sent 0 = .ok (.iload_n 1, 1) := by decide +kernel
theorem dX5_sent_1 : decode cX5_sent 1 = .ok (.ifCond .ge 6, 3) := by decide +kernel
theorem dX5_sent_4 : decode cX5_sent 4 = .ok (.bipush (-2), 2) := by decide +kernel
theorem dX5_sent_6 : decode cX5_sent 6 = .ok (.ireturn, 1) := by decide +kernel
theorem dX5_sent_7 : decode cX5_sent 7 = .ok (.iload_n 2, 1) := by decide +kernel
theorem dX5_sent_8 : decode cX5_sent 8 = .ok (.iconst 0, 1) := by decide +kernel
theorem dX5_sent_9 : decode cX5_sent 9 = .ok (.bipush 8, 2) := by decide +kernel
theorem dX5_sent_11 : decode cX5_sent 11 = .ok (.invokestatic 42, 3) := by decide +kernel
theorem dX5_sent_14 : decode cX5_sent 14 = .ok (.ifCond .ne 5, 3) := by decide +kernel
theorem dX5_sent_17 : decode cX5_sent 17 = .ok (.iconst (-1), 1) := by decide +kernel
theorem dX5_sent_18 : decode cX5_sent 18 = .ok (.ireturn, 1) := by decide +kernel
theorem dX5_sent_19 : decode cX5_sent 19 = .ok (.iload_n 1, 1) := by decide +kernel
theorem dX5_sent_20 : decode cX5_sent 20 = .ok (.aload_n 0, 1) := by decide +kernel
theorem dX5_sent_21 : decode cX5_sent 21 = .ok (.getfield 7, 3) := by decide +kernel
theorem dX5_sent_24 : decode cX5_sent 24 = .ok (.sipush 441, 3) := by decide +kernel
theorem dX5_sent_27 : decode cX5_sent 27 = .ok (.iaload, 1) := by decide +kernel
theorem dX5_sent_28 : decode cX5_sent 28 = .ok (.if_icmp .ge 35, 3) := by decide +kernel
theorem dX5_sent_31 : decode cX5_sent 31 = .ok (.aload_n 0, 1) := by decide +kernel
theorem dX5_sent_32 : decode cX5_sent 32 = .ok (.getfield 7, 3) := by decide +kernel
theorem dX5_sent_35 : decode cX5_sent 35 = .ok (.sipush 442, 3) := by decide +kernel
theorem dX5_sent_38 : decode cX5_sent 38 = .ok (.bipush 17, 2) := by decide +kernel
theorem dX5_sent_40 : decode cX5_sent 40 = .ok (.aload_n 0, 1) := by decide +kernel
theorem dX5_sent_41 : decode cX5_sent 41 = .ok (.getfield 7, 3) := by decide +kernel
theorem dX5_sent_44 : decode cX5_sent 44 = .ok (.sipush 441, 3) := by decide +kernel
theorem dX5_sent_47 : decode cX5_sent 47 = .ok (.iaload, 1) := by decide +kernel
theorem dX5_sent_48 : decode cX5_sent 48 = .ok (.iconst 1, 1) := by decide +kernel
theorem dX5_sent_49 : decode cX5_sent 49 = .ok (.isub, 1) := by decide +kernel
theorem dX5_sent_50 : decode cX5_sent 50 = .ok (.iload_n 1, 1) := by decide +kernel
theorem dX5_sent_51 : decode cX5_sent 51 = .ok (.isub, 1) := by decide +kernel
theorem dX5_sent_52 : decode cX5_sent 52 = .ok (.imul, 1) := by decide +kernel
theorem dX5_sent_53 : decode cX5_sent 53 = .ok (.iadd, 1) := by decide +kernel
theorem dX5_sent_54 : decode cX5_sent 54 = .ok (.bipush 8, 2) := by decide +kernel
theorem dX5_sent_56 : decode cX5_sent 56 = .ok (.iadd, 1) := by decide +kernel
theorem dX5_sent_57 : decode cX5_sent 57 = .ok (.iload_n 2, 1) := by decide +kernel
theorem dX5_sent_58 : decode cX5_sent 58 = .ok (.iadd, 1) := by decide +kernel
theorem dX5_sent_59 : decode cX5_sent 59 = .ok (.iaload, 1) := by decide +kernel
theorem dX5_sent_60 : decode cX5_sent 60 = .ok (.goto 5, 3) := by decide +kernel
theorem dX5_sent_63 : decode cX5_sent 63 = .ok (.bipush (-5), 2) := by decide +kernel
theorem dX5_sent_65 : decode cX5_sent 65 = .ok (.ireturn, 1) := by decide +kernel
theorem dX5_pointsApart_0 : decode cX5_pointsApart 0 = .ok (.iconst 0, 1) := by decide +kernel
theorem dX5_pointsApart_1 : decode cX5_pointsApart 1 = .ok (.istore_n 1, 1) := by decide +kernel
theorem dX5_pointsApart_2 : decode cX5_pointsApart 2 = .ok (.iconst 0, 1) := by decide +kernel
theorem dX5_pointsApart_3 : decode cX5_pointsApart 3 = .ok (.istore_n 2, 1) := by decide +kernel
theorem dX5_pointsApart_4 : decode cX5_pointsApart 4 = .ok (.iload_n 2, 1) := by decide +kernel
theorem dX5_pointsApart_5 : decode cX5_pointsApart 5 = .ok (.sipush 144, 3) := by decide +kernel
theorem dX5_pointsApart_8 : decode cX5_pointsApart 8 = .ok (.if_icmp .ge 40, 3) := by decide +kernel
theorem dX5_pointsApart_11 : decode cX5_pointsApart 11 = .ok (.iload_n 1, 1) := by decide +kernel
theorem dX5_pointsApart_12 : decode cX5_pointsApart 12 = .ok (.aload_n 0, 1) := by decide +kernel
theorem dX5_pointsApart_13 : decode cX5_pointsApart 13 = .ok (.getfield 7, 3) := by decide +kernel
theorem dX5_pointsApart_16 : decode cX5_pointsApart 16 = .ok (.sipush 144, 3) := by decide +kernel
theorem dX5_pointsApart_19 : decode cX5_pointsApart 19 = .ok (.iload_n 2, 1) := by decide +kernel
theorem dX5_pointsApart_20 : decode cX5_pointsApart 20 = .ok (.iadd, 1) := by decide +kernel
theorem dX5_pointsApart_21 : decode cX5_pointsApart 21 = .ok (.iaload, 1) := by decide +kernel
theorem dX5_pointsApart_22 : decode cX5_pointsApart 22 = .ok (.aload_n 0, 1) := by decide +kernel
theorem dX5_pointsApart_23 : decode cX5_pointsApart 23 = .ok (.getfield 7, 3) := by decide +kernel
theorem dX5_pointsApart_26 : decode cX5_pointsApart 26 = .ok (.sipush 288, 3) := by decide +kernel
theorem dX5_pointsApart_29 : decode cX5_pointsApart 29 = .ok (.iload_n 2, 1) := by decide +kernel
theorem dX5_pointsApart_30 : decode cX5_pointsApart 30 = .ok (.iadd, 1) := by decide +kernel
theorem dX5_pointsApart_31 : decode cX5_pointsApart 31 = .ok (.iaload, 1) := by decide +kernel
theorem dX5_pointsApart_32 : decode cX5_pointsApart 32 = .ok (.if_icmp .ne 7, 3) := by decide +kernel
theorem dX5_pointsApart_35 : decode cX5_pointsApart 35 = .ok (.iconst 0, 1) := by decide +kernel
theorem dX5_pointsApart_36 : decode cX5_pointsApart 36 = .ok (.goto 4, 3) := by decide +kernel
theorem dX5_pointsApart_39 : decode cX5_pointsApart 39 = .ok (.iconst 1, 1) := by decide +kernel
theorem dX5_pointsApart_40 : decode cX5_pointsApart 40 = .ok (.iadd, 1) := by decide +kernel
theorem dX5_pointsApart_41 : decode cX5_pointsApart 41 = .ok (.istore_n 1, 1) := by decide +kernel
theorem dX5_pointsApart_42 : decode cX5_pointsApart 42 = .ok (.iinc 2 1, 3) := by decide +kernel
theorem dX5_pointsApart_45 : decode cX5_pointsApart 45 = .ok (.goto (-41), 3) := by decide +kernel
theorem dX5_pointsApart_48 : decode cX5_pointsApart 48 = .ok (.iload_n 1, 1) := by decide +kernel
theorem dX5_pointsApart_49 : decode cX5_pointsApart 49 = .ok (.ireturn, 1) := by decide +kernel
set_option maxRecDepth 20000 in
theorem ggX5_tilesApart_X5_apart : GoodIn wsX5_tilesApart wsX5_apart := goodIn_r _ [5, 6, 7, 8, 4, 9, 10, 11, 12, 13, 14, 15, 16, 17, 18, 19, 20, 21, 22, 23, 24, 25, 26, 27, 28, 29, 30, 31, 32, 33, 34, 35] (by decide +kernel) (by decide +kernel)
set_option maxRecDepth 20000 in
theorem gX5_tilesApart_X5_apart : GoodIn wsX5_tilesApart (wsV RX5 82 RX5 yX5_apart wsX5_apart) := goodIn_app (goodIn_of _ (by decide +kernel)) ggX5_tilesApart_X5_apart
theorem dX5_tilesApart_0 : decode cX5_tilesApart 0 = .ok (.iconst 0, 1) := by decide +kernel
theorem dX5_tilesApart_1 : decode cX5_tilesApart 1 = .ok (.istore_n 1, 1) := by decide +kernel
theorem dX5_tilesApart_2 : decode cX5_tilesApart 2 = .ok (.iconst 0, 1) := by decide +kernel
theorem dX5_tilesApart_3 : decode cX5_tilesApart 3 = .ok (.istore_n 2, 1) := by decide +kernel
theorem dX5_tilesApart_4 : decode cX5_tilesApart 4 = .ok (.iload_n 2, 1) := by decide +kernel
theorem dX5_tilesApart_5 : decode cX5_tilesApart 5 = .ok (.bipush 9, 2) := by decide +kernel
theorem dX5_tilesApart_7 : decode cX5_tilesApart 7 = .ok (.if_icmp .ge 29, 3) := by decide +kernel
theorem dX5_tilesApart_10 : decode cX5_tilesApart 10 = .ok (.iload_n 1, 1) := by decide +kernel
theorem dX5_tilesApart_11 : decode cX5_tilesApart 11 = .ok (.aload_n 0, 1) := by decide +kernel
theorem dX5_tilesApart_12 : decode cX5_tilesApart 12 = .ok (.iconst 1, 1) := by decide +kernel
theorem dX5_tilesApart_13 : decode cX5_tilesApart 13 = .ok (.iconst 2, 1) := by decide +kernel
theorem dX5_tilesApart_14 : decode cX5_tilesApart 14 = .ok (.iload_n 2, 1) := by decide +kernel
theorem dX5_tilesApart_15 : decode cX5_tilesApart 15 = .ok (.iconst 0, 1) := by decide +kernel
theorem dX5_tilesApart_16 : decode cX5_tilesApart 16 = .ok (.iconst 0, 1) := by decide +kernel
theorem dX5_tilesApart_17 : decode cX5_tilesApart 17 = .ok (.invokevirtual 82, 3) := by decide +kernel
theorem dX5_tilesApart_20 : decode cX5_tilesApart 20 = .ok (.ifCond .le 7, 3) := by decide +kernel
theorem dX5_tilesApart_23 : decode cX5_tilesApart 23 = .ok (.iconst 1, 1) := by decide +kernel
theorem dX5_tilesApart_24 : decode cX5_tilesApart 24 = .ok (.goto 4, 3) := by decide +kernel
theorem dX5_tilesApart_27 : decode cX5_tilesApart 27 = .ok (.iconst 0, 1) := by decide +kernel
theorem dX5_tilesApart_28 : decode cX5_tilesApart 28 = .ok (.iadd, 1) := by decide +kernel
theorem dX5_tilesApart_29 : decode cX5_tilesApart 29 = .ok (.istore_n 1, 1) := by decide +kernel
theorem dX5_tilesApart_30 : decode cX5_tilesApart 30 = .ok (.iinc 2 1, 3) := by decide +kernel
theorem dX5_tilesApart_33 : decode cX5_tilesApart 33 = .ok (.goto (-29), 3) := by decide +kernel
theorem dX5_tilesApart_36 : decode cX5_tilesApart 36 = .ok (.iload_n 1, 1) := by decide +kernel
theorem dX5_tilesApart_37 : decode cX5_tilesApart 37 = .ok (.ireturn, 1) := by decide +kernel
set_option maxRecDepth 20000 in
theorem ggX5_count_X5_pointsApart : GoodIn wsX5_count wsX5_pointsApart := goodIn_r _ [8, 1, 32, 33, 34, 35, 36, 37, 38, 39, 40, 41, 42, 43, 44, 45] (by decide +kernel) (by decide +kernel)
set_option maxRecDepth 20000 in
theorem gX5_count_X5_pointsApart : GoodIn wsX5_count (wsV RX5 153 RX5 yX5_pointsApart wsX5_pointsApart) := goodIn_app (goodIn_of _ (by decide +kernel)) ggX5_count_X5_pointsApart
set_option maxRecDepth 20000 in
theorem ggX5_count_X5_tilesApart : GoodIn wsX5_count wsX5_tilesApart := goodIn_r _ [12, 13, 14, 15, 7, 16, 1, 17, 18, 19, 20, 21, 22, 23, 24, 25, 26, 27, 28, 29, 30, 31, 32, 33, 34, 35, 36, 37, 38, 39, 40, 41, 42, 43, 44, 45] (by decide +kernel) (by decide +kernel)
set_option maxRecDepth 20000 in
theorem gX5_count_X5_tilesApart : GoodIn wsX5_count (wsV RX5 156 RX5 yX5_tilesApart wsX5_tilesApart) := goodIn_app (goodIn_of _ (by decide +kernel)) ggX5_count_X5_tilesApart
theorem dX5_count_0 : decode cX5_count 0 = .ok (.iload_n 1, 1) := by decide +kernel
theorem dX5_count_1 : decode cX5_count 1 = .ok (.tableswitch 98 0 12 #[67, 67, 67, 67, 67, 67, 67, 67, 67, 78, 83, 88, 93], 67) := by decide +kernel
theorem dX5_count_68 : decode cX5_count 68 = .ok (.aload_n 0, 1) := by decide +kernel
theorem dX5_count_69 : decode cX5_count 69 = .ok (.getfield 7, 3) := by decide +kernel
theorem dX5_count_72 : decode cX5_count 72 = .ok (.sipush 432, 3) := by decide +kernel
theorem dX5_count_75 : decode cX5_count 75 = .ok (.iload_n 1, 1) := by decide +kernel
theorem dX5_count_76 : decode cX5_count 76 = .ok (.iadd, 1) := by decide +kernel
theorem dX5_count_77 : decode cX5_count 77 = .ok (.iaload, 1) := by decide +kernel
theorem dX5_count_78 : decode cX5_count 78 = .ok (.ireturn, 1) := by decide +kernel
theorem dX5_count_79 : decode cX5_count 79 = .ok (.aload_n 0, 1) := by decide +kernel
theorem dX5_count_80 : decode cX5_count 80 = .ok (.invokevirtual 153, 3) := by decide +kernel
theorem dX5_count_83 : decode cX5_count 83 = .ok (.ireturn, 1) := by decide +kernel
theorem dX5_count_84 : decode cX5_count 84 = .ok (.aload_n 0, 1) := by decide +kernel
theorem dX5_count_85 : decode cX5_count 85 = .ok (.invokevirtual 156, 3) := by decide +kernel
theorem dX5_count_88 : decode cX5_count 88 = .ok (.ireturn, 1) := by decide +kernel
theorem dX5_count_89 : decode cX5_count 89 = .ok (.aload_n 0, 1) := by decide +kernel
theorem dX5_count_90 : decode cX5_count 90 = .ok (.getfield 46, 3) := by decide +kernel
theorem dX5_count_93 : decode cX5_count 93 = .ok (.ireturn, 1) := by decide +kernel
theorem dX5_count_94 : decode cX5_count 94 = .ok (.aload_n 0, 1) := by decide +kernel
theorem dX5_count_95 : decode cX5_count 95 = .ok (.getfield 120, 3) := by decide +kernel
theorem dX5_count_98 : decode cX5_count 98 = .ok (.ireturn, 1) := by decide +kernel
theorem dX5_count_99 : decode cX5_count 99 = .ok (.bipush (-2), 2) := by decide +kernel
theorem dX5_count_101 : decode cX5_count 101 = .ok (.ireturn, 1) := by decide +kernel
